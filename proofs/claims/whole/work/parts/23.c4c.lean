abbrev rm_X6_wear : Room := { frames := 7, cells := 0, slots := 0, locals := 158 }
set_option maxHeartbeats 4000000 in
set_option maxRecDepth 100000 in
theorem c_X6_wear (l : Launch) (δ : va_G) (cI cJ cZ : ClassId) (aR0 aR1 aR2 aR3 aR4 aR5 aR6 aR7 aR8 aR9 aR10 aR11 aR12 aR13 aR14 aR15 aR16 aR17 aR18 aR19 aR20 aR21 : Nat) (lv : LV) (sg : SG) (pd : PD) (ac : AC) (dd : DD) (hd : HD) (le : LE) (bd : BD) (my : MY) (lf : LF) (pa : PA) (kp : KP) (xc : Int32) (xh : Int32) (hq : vp_in (qPadMany pd) 61) (hrk : rOK lv) : mMi l δ (mTy cI cJ cZ) yX6_wear wsX6_wear rm_X6_wear [.ref aR0, .int xc, .int xh] (wR cI cJ cZ aR0 aR1 aR2 aR3 aR4 aR5 aR6 aR7 aR8 aR9 aR10 aR11 aR12 aR13 aR14 aR15 aR16 aR17 aR18 aR19 aR20 aR21 lv sg pd ac dd hd le bd my lf pa kp) (S := LV × AC × DD × HD × LE × BD) (fun r u => F_X6_wear lv pd ac dd hd le bd xc xh = (r, u)) (fun u => (wR cI cJ cZ aR0 aR1 aR2 aR3 aR4 aR5 aR6 aR7 aR8 aR9 aR10 aR11 aR12 aR13 aR14 aR15 aR16 aR17 aR18 aR19 aR20 aR21 u.1 sg pd u.2.1 u.2.2.1 u.2.2.2.1 u.2.2.2.2.1 u.2.2.2.2.2 my lf pa kp)) := by
  refine mk_i (cc := cX6_wear) (maxL := 4) (by decide) rfl (Nat.le_of_ble_eq_true rfl) ?_
  intro p e s m args below meth c A Q ls H locs hx hb hml hts hown hK hNW hA hP hD hS hl hret
  have hown : s.vm.findClass RX6 = some m.cls := hown
  have hl : lv_has ls 4 [(0, .ref aR0), (1, .int xc), (2, .int xh)] := hl
  have hinX6 : ∀ w ∈ u_ws RX6 TX6 34, w ∈ wsX6_wear := (fun _ h => List.mem_cons_of_mem _ (List.mem_append_right _ (h)))
  have hR := F_X6_wear.eq_1 lv pd ac dd hd le bd xc xh
  refine lv_aload_n hx hb dX6_wear_0 rfl (lv_at hl 0 rfl) ?_
  refine lv_iload_n hx hb dX6_wear_1 rfl (lv_at hl 1 rfl) ?_
  have hr := mrV (p := p) (e := e) (R := rm_X6_wear) (below := below) (meth := meth) (H := H) (locs := locs) (ls := ls) (As := [.int xc]) (rest := []) (c_X6_isCourtier l δ cI cJ cZ aR0 aR1 aR2 aR3 aR4 aR5 aR6 aR7 aR8 aR9 aR10 aR11 aR12 aR13 aR14 aR15 aR16 aR17 aR18 aR19 aR20 aR21 lv sg pd ac dd hd le bd my lf pa kp xc) hx hb hml hts hown hK hNW hP hD [0, 1, 2, 3, 4, 5, 6, 7, 8, 9, 10, 11, 12, 13, 14, 15, 16, 17, 18, 19, 20, 21] rfl rfl 6 0 rfl rfl (cwV 1 hts gX6_wear_X6_isCourtier rfl rfl rfl (by decide +kernel) ⟨(Nat.le_of_ble_eq_true rfl), (Nat.le_of_ble_eq_true rfl)⟩) rfl hl.1 rfl (Nat.le_of_ble_eq_true rfl) dX6_wear_2
  refine mc_i (wr := ([] : va_W)) hr hP hD hS hA [0, 1, 2, 3, 4, 5, 6, 7, 8, 9, 10, 11, 12, 13, 14, 15, 16, 17, 18, 19, 20, 21] [] [0, 1, 2, 3, 4, 5, 6, 7, 8, 9, 10, 11, 12, 13, 14, 15, 16, 17, 18, 19, 20, 21] rfl rfl rfl rfl rfl (wn := fun _ => (wR cI cJ cZ aR0 aR1 aR2 aR3 aR4 aR5 aR6 aR7 aR8 aR9 aR10 aR11 aR12 aR13 aR14 aR15 aR16 aR17 aR18 aR19 aR20 aR21 lv sg pd ac dd hd le bd my lf pa kp)) (fun _ => rfl) (fun r_2 _ H locs hw_2 hP hD hS => ?_)
  obtain ⟨hw_2, z_2⟩ := hw_2
  have hP : va_P δ vwCl (wR cI cJ cZ aR0 aR1 aR2 aR3 aR4 aR5 aR6 aR7 aR8 aR9 aR10 aR11 aR12 aR13 aR14 aR15 aR16 aR17 aR18 aR19 aR20 aR21 lv sg pd ac dd hd le bd my lf pa kp) H := hP
  have hD : va_D A (wR cI cJ cZ aR0 aR1 aR2 aR3 aR4 aR5 aR6 aR7 aR8 aR9 aR10 aR11 aR12 aR13 aR14 aR15 aR16 aR17 aR18 aR19 aR20 aR21 lv sg pd ac dd hd le bd my lf pa kp) := hD
  have hR := bnd_eq hR hw_2.symm
  refine lv_if_ne (tgt := 10) hx hb dX6_wear_5 (by decide) (fun c_5 => ?_) (fun c_5 => ?_)
  · have c_5 : ¬ (r_2 = 0) := c_5
    have hR := hR.trans (if_neg c_5)
    refine lv_iload_n hx hb dX6_wear_10 rfl (lv_at hl 2 rfl) ?_
    have hr := mrS (p := p) (e := e) (R := rm_X6_wear) (below := below) (meth := meth) (H := H) (locs := locs) (ls := ls) (As := [.int xh]) (rest := []) (c_X6_isHour l δ cI cJ cZ xh) hx hb hml hts hown hK hNW hP hD [] rfl rfl (va_cwS 1 hts gX6_wear_X6_isHour rfl rfl rfl (by decide +kernel) ⟨(Nat.le_of_ble_eq_true rfl), (Nat.le_of_ble_eq_true rfl)⟩) rfl hl.1 rfl (Nat.le_of_ble_eq_true rfl) dX6_wear_11
    refine mc_i (wr := (wR cI cJ cZ aR0 aR1 aR2 aR3 aR4 aR5 aR6 aR7 aR8 aR9 aR10 aR11 aR12 aR13 aR14 aR15 aR16 aR17 aR18 aR19 aR20 aR21 lv sg pd ac dd hd le bd my lf pa kp)) hr hP hD hS hA [] [0, 1, 2, 3, 4, 5, 6, 7, 8, 9, 10, 11, 12, 13, 14, 15, 16, 17, 18, 19, 20, 21] [0, 1, 2, 3, 4, 5, 6, 7, 8, 9, 10, 11, 12, 13, 14, 15, 16, 17, 18, 19, 20, 21] rfl rfl rfl rfl rfl (wn := fun _ => (wR cI cJ cZ aR0 aR1 aR2 aR3 aR4 aR5 aR6 aR7 aR8 aR9 aR10 aR11 aR12 aR13 aR14 aR15 aR16 aR17 aR18 aR19 aR20 aR21 lv sg pd ac dd hd le bd my lf pa kp)) (fun _ => rfl) (fun r_11 _ H locs hw_11 hP hD hS => ?_)
    obtain ⟨hw_11, z_11⟩ := hw_11
    have hP : va_P δ vwCl (wR cI cJ cZ aR0 aR1 aR2 aR3 aR4 aR5 aR6 aR7 aR8 aR9 aR10 aR11 aR12 aR13 aR14 aR15 aR16 aR17 aR18 aR19 aR20 aR21 lv sg pd ac dd hd le bd my lf pa kp) H := hP
    have hD : va_D A (wR cI cJ cZ aR0 aR1 aR2 aR3 aR4 aR5 aR6 aR7 aR8 aR9 aR10 aR11 aR12 aR13 aR14 aR15 aR16 aR17 aR18 aR19 aR20 aR21 lv sg pd ac dd hd le bd my lf pa kp) := hD
    have hR := bnd_eq hR hw_11.symm
    refine lv_if_ne (tgt := 20) hx hb dX6_wear_14 (by decide) (fun c_14 => ?_) (fun c_14 => ?_)
    · have c_14 : ¬ (r_11 = 0) := c_14
      have hR := hR.trans (if_neg c_14)
      refine lv_aload_n hx hb dX6_wear_20 rfl (lv_at hl 0 rfl) ?_
      have hr := mrV (p := p) (e := e) (R := rm_X6_wear) (below := below) (meth := meth) (H := H) (locs := locs) (ls := ls) (As := []) (rest := []) (c_X6_refusal l δ cI cJ cZ aR0 aR1 aR2 aR3 aR4 aR5 aR6 aR7 aR8 aR9 aR10 aR11 aR12 aR13 aR14 aR15 aR16 aR17 aR18 aR19 aR20 aR21 lv sg pd ac dd hd le bd my lf pa kp hq hrk) hx hb hml hts hown hK hNW hP hD [0, 1, 2, 3, 4, 5, 6, 7, 8, 9, 10, 11, 12, 13, 14, 15, 16, 17, 18, 19, 20, 21] rfl rfl 6 0 rfl rfl (cwV 0 hts gX6_wear_X6_refusal rfl rfl rfl (by decide +kernel) ⟨(Nat.le_of_ble_eq_true rfl), (Nat.le_of_ble_eq_true rfl)⟩) rfl hl.1 rfl (Nat.le_of_ble_eq_true rfl) dX6_wear_21
      refine mc_i (wr := ([] : va_W)) hr hP hD hS hA [0, 1, 2, 3, 4, 5, 6, 7, 8, 9, 10, 11, 12, 13, 14, 15, 16, 17, 18, 19, 20, 21] [] [0, 1, 2, 3, 4, 5, 6, 7, 8, 9, 10, 11, 12, 13, 14, 15, 16, 17, 18, 19, 20, 21] rfl rfl rfl rfl rfl (wn := fun u_21 => (wR cI cJ cZ aR0 aR1 aR2 aR3 aR4 aR5 aR6 aR7 aR8 aR9 aR10 aR11 aR12 aR13 aR14 aR15 aR16 aR17 aR18 aR19 aR20 aR21 u_21.1 sg pd u_21.2.1 u_21.2.2.1 u_21.2.2.2.1 u_21.2.2.2.2.1 u_21.2.2.2.2.2 my lf pa kp)) (fun _ => rfl) (fun r_21 u_21 H locs hw_21 hP hD hS => ?_)
      have hP : va_P δ vwCl (wR cI cJ cZ aR0 aR1 aR2 aR3 aR4 aR5 aR6 aR7 aR8 aR9 aR10 aR11 aR12 aR13 aR14 aR15 aR16 aR17 aR18 aR19 aR20 aR21 u_21.1 sg pd u_21.2.1 u_21.2.2.1 u_21.2.2.2.1 u_21.2.2.2.2.1 u_21.2.2.2.2.2 my lf pa kp) H := hP
      have hD : va_D A (wR cI cJ cZ aR0 aR1 aR2 aR3 aR4 aR5 aR6 aR7 aR8 aR9 aR10 aR11 aR12 aR13 aR14 aR15 aR16 aR17 aR18 aR19 aR20 aR21 u_21.1 sg pd u_21.2.1 u_21.2.2.1 u_21.2.2.2.1 u_21.2.2.2.2.1 u_21.2.2.2.2.2 my lf pa kp) := hD
      have hR := bnd_eq hR hw_21.symm
      refine lv_istore_n (lv' := [(3, .int r_21), (0, .ref aR0), (1, .int xc), (2, .int xh)]) hx hb dX6_wear_24 rfl hl (by decide) rfl (fun ls hl => ?_)
      refine lv_iload_n hx hb dX6_wear_25 rfl (lv_at hl 0 rfl) ?_
      refine lv_bipush (v := (-6 : Int32)) hx hb dX6_wear_26 (by decide) ?_
      refine lv_icmp_eq (tgt := 35) hx hb dX6_wear_28 (by decide) (fun c_28 => ?_) (fun c_28 => ?_)
      · have c_28 : (r_21 = (-6 : Int32)) := c_28
        have hR := hR.trans (if_pos c_28)
        refine lv_aload_n hx hb dX6_wear_35 rfl (lv_at hl 1 rfl) ?_
        refine va_get (D := δ) (ci := 6) (v := .ref aR16) (C := RX6) (T := TX6) (N := 34) hx hb hts hinX6 hown hK hP 0 rfl rfl 24 (by decide) (hts (.fieldLink RX6 55 "GloveHoursModel" "leaves" "[I") (List.mem_of_getElem? (i := 1) rfl)) (fun _ h9 => h9) rfl dX6_wear_36 ?_
        refine lv_bipush (v := (18 : Int32)) hx hb dX6_wear_39 (by decide) ?_
        refine lv_iload_n hx hb dX6_wear_41 rfl (lv_at hl 2 rfl) ?_
        refine lv_iload_n hx hb dX6_wear_42 rfl (lv_at hl 3 rfl) ?_
        have hr := mrS (p := p) (e := e) (R := rm_X6_wear) (below := below) (meth := meth) (H := H) (locs := locs) (ls := ls) (As := [.int xc, .int xh]) (rest := [.int (18 : Int32), .ref aR16]) (c_X6_at l δ cI cJ cZ xc xh) hx hb hml hts hown hK hNW hP hD [] rfl rfl (va_cwS 2 hts gX6_wear_X6_at rfl rfl rfl (by decide +kernel) ⟨(Nat.le_of_ble_eq_true rfl), (Nat.le_of_ble_eq_true rfl)⟩) rfl hl.1 rfl (Nat.le_of_ble_eq_true rfl) dX6_wear_43
        refine mc_i (wr := (wR cI cJ cZ aR0 aR1 aR2 aR3 aR4 aR5 aR6 aR7 aR8 aR9 aR10 aR11 aR12 aR13 aR14 aR15 aR16 aR17 aR18 aR19 aR20 aR21 u_21.1 sg pd u_21.2.1 u_21.2.2.1 u_21.2.2.2.1 u_21.2.2.2.2.1 u_21.2.2.2.2.2 my lf pa kp)) hr hP hD hS hA [] [0, 1, 2, 3, 4, 5, 6, 7, 8, 9, 10, 11, 12, 13, 14, 15, 16, 17, 18, 19, 20, 21] [0, 1, 2, 3, 4, 5, 6, 7, 8, 9, 10, 11, 12, 13, 14, 15, 16, 17, 18, 19, 20, 21] rfl rfl rfl rfl rfl (wn := fun _ => (wR cI cJ cZ aR0 aR1 aR2 aR3 aR4 aR5 aR6 aR7 aR8 aR9 aR10 aR11 aR12 aR13 aR14 aR15 aR16 aR17 aR18 aR19 aR20 aR21 u_21.1 sg pd u_21.2.1 u_21.2.2.1 u_21.2.2.2.1 u_21.2.2.2.2.1 u_21.2.2.2.2.2 my lf pa kp)) (fun _ => rfl) (fun r_43 _ H locs hw_43 hP hD hS => ?_)
        have hP : va_P δ vwCl (wR cI cJ cZ aR0 aR1 aR2 aR3 aR4 aR5 aR6 aR7 aR8 aR9 aR10 aR11 aR12 aR13 aR14 aR15 aR16 aR17 aR18 aR19 aR20 aR21 u_21.1 sg pd u_21.2.1 u_21.2.2.1 u_21.2.2.2.1 u_21.2.2.2.2.1 u_21.2.2.2.2.2 my lf pa kp) H := hP
        have hD : va_D A (wR cI cJ cZ aR0 aR1 aR2 aR3 aR4 aR5 aR6 aR7 aR8 aR9 aR10 aR11 aR12 aR13 aR14 aR15 aR16 aR17 aR18 aR19 aR20 aR21 u_21.1 sg pd u_21.2.1 u_21.2.2.1 u_21.2.2.2.1 u_21.2.2.2.2.1 u_21.2.2.2.2.2 my lf pa kp) := hD
        have hR := bnd_eq hR hw_43.symm
        refine lv_iadd hx hb dX6_wear_46 ?_
        refine va_iald hx hb hK hP 16 0 rfl rfl (at18_in hw_43 (court_in hw_2 c_5) (isHour_in hw_11 c_14)) dX6_wear_47 ?_
        exact hret _ _ ((lLeaves u_21.2.2.2.2.1) ((18 : Int32) + r_43).toNatClampNeg) (u_21.1, u_21.2.1, u_21.2.2.1, u_21.2.2.2.1, u_21.2.2.2.2.1, u_21.2.2.2.2.2) _ _ hR hP hD hS dX6_wear_48
      · have c_28 : ¬ (r_21 = (-6 : Int32)) := c_28
        have hR := hR.trans (if_neg c_28)
        refine lv_iload_n hx hb dX6_wear_31 rfl (lv_at hl 0 rfl) ?_
        refine lv_goto (tgt := 48) hx hb dX6_wear_32 (by decide) ?_
        exact hret _ _ r_21 (u_21.1, u_21.2.1, u_21.2.2.1, u_21.2.2.2.1, u_21.2.2.2.2.1, u_21.2.2.2.2.2) _ _ hR hP hD hS dX6_wear_48
    · have c_14 : (r_11 = 0) := c_14
      have hR := hR.trans (if_pos c_14)
      refine lv_bipush (v := (-2 : Int32)) hx hb dX6_wear_17 (by decide) ?_
      exact hret _ _ (-2 : Int32) (lv, ac, dd, hd, le, bd) _ _ hR hP hD hS dX6_wear_19
  · have c_5 : (r_2 = 0) := c_5
    have hR := hR.trans (if_pos c_5)
    refine lv_iconst (v := (-1 : Int32)) hx hb dX6_wear_8 (by decide) ?_
    exact hret _ _ (-1 : Int32) (lv, ac, dd, hd, le, bd) _ _ hR hP hD hS dX6_wear_9

abbrev rm_X6_deed : Room := { frames := 7, cells := 0, slots := 0, locals := 158 }
set_option maxHeartbeats 4000000 in
set_option maxRecDepth 100000 in
theorem c_X6_deed (l : Launch) (δ : va_G) (cI cJ cZ : ClassId) (aR0 aR1 aR2 aR3 aR4 aR5 aR6 aR7 aR8 aR9 aR10 aR11 aR12 aR13 aR14 aR15 aR16 aR17 aR18 aR19 aR20 aR21 : Nat) (lv : LV) (sg : SG) (pd : PD) (ac : AC) (dd : DD) (hd : HD) (le : LE) (bd : BD) (my : MY) (lf : LF) (pa : PA) (kp : KP) (xk : Int32) (xw : Int32) (hq : vp_in (qPadMany pd) 61) (hrk : rOK lv) : mMi l δ (mTy cI cJ cZ) yX6_deed wsX6_deed rm_X6_deed [.ref aR0, .int xk, .int xw] (wR cI cJ cZ aR0 aR1 aR2 aR3 aR4 aR5 aR6 aR7 aR8 aR9 aR10 aR11 aR12 aR13 aR14 aR15 aR16 aR17 aR18 aR19 aR20 aR21 lv sg pd ac dd hd le bd my lf pa kp) (S := LV × AC × DD × HD × LE × BD) (fun r u => F_X6_deed lv pd ac dd hd le bd xk xw = (r, u)) (fun u => (wR cI cJ cZ aR0 aR1 aR2 aR3 aR4 aR5 aR6 aR7 aR8 aR9 aR10 aR11 aR12 aR13 aR14 aR15 aR16 aR17 aR18 aR19 aR20 aR21 u.1 sg pd u.2.1 u.2.2.1 u.2.2.2.1 u.2.2.2.2.1 u.2.2.2.2.2 my lf pa kp)) := by
  refine mk_i (cc := cX6_deed) (maxL := 4) (by decide) rfl (Nat.le_of_ble_eq_true rfl) ?_
  intro p e s m args below meth c A Q ls H locs hx hb hml hts hown hK hNW hA hP hD hS hl hret
  have hown : s.vm.findClass RX6 = some m.cls := hown
  have hl : lv_has ls 4 [(0, .ref aR0), (1, .int xk), (2, .int xw)] := hl
  have hinX6 : ∀ w ∈ u_ws RX6 TX6 34, w ∈ wsX6_deed := (fun _ h => List.mem_cons_of_mem _ (List.mem_append_right _ (h)))
  have hR := F_X6_deed.eq_1 lv pd ac dd hd le bd xk xw
  refine lv_iload_n hx hb dX6_deed_0 rfl (lv_at hl 2 rfl) ?_
  refine lv_i2l (v := (xw.toInt64)) hx hb dX6_deed_1 rfl ?_
  refine lv_lconst (v := (0 : Int64)) hx hb dX6_deed_2 (by decide) ?_
  refine lv_ldc2 (v := (2 : Int64)) hx hb hown (hts (.constantLong RX6 211 (2)) (List.mem_of_getElem? (i := 1) rfl)) dX6_deed_3 ?_
  have hr := mrS (p := p) (e := e) (R := rm_X6_deed) (below := below) (meth := meth) (H := H) (locs := locs) (ls := ls) (As := [.long (xw.toInt64), .long (0 : Int64), .long (2 : Int64)]) (rest := []) (c_X6_in l δ cI cJ cZ (xw.toInt64) (0 : Int64) (2 : Int64)) hx hb hml hts hown hK hNW hP hD [] rfl rfl (va_cwS 3 hts gX6_deed_X6_in rfl rfl rfl (by decide +kernel) ⟨(Nat.le_of_ble_eq_true rfl), (Nat.le_of_ble_eq_true rfl)⟩) rfl hl.1 rfl (Nat.le_of_ble_eq_true rfl) dX6_deed_6
  refine mc_i (wr := (wR cI cJ cZ aR0 aR1 aR2 aR3 aR4 aR5 aR6 aR7 aR8 aR9 aR10 aR11 aR12 aR13 aR14 aR15 aR16 aR17 aR18 aR19 aR20 aR21 lv sg pd ac dd hd le bd my lf pa kp)) hr hP hD hS hA [] [0, 1, 2, 3, 4, 5, 6, 7, 8, 9, 10, 11, 12, 13, 14, 15, 16, 17, 18, 19, 20, 21] [0, 1, 2, 3, 4, 5, 6, 7, 8, 9, 10, 11, 12, 13, 14, 15, 16, 17, 18, 19, 20, 21] rfl rfl rfl rfl rfl (wn := fun _ => (wR cI cJ cZ aR0 aR1 aR2 aR3 aR4 aR5 aR6 aR7 aR8 aR9 aR10 aR11 aR12 aR13 aR14 aR15 aR16 aR17 aR18 aR19 aR20 aR21 lv sg pd ac dd hd le bd my lf pa kp)) (fun _ => rfl) (fun r_6 _ H locs hw_6 hP hD hS => ?_)
  obtain ⟨hw_6, z_6⟩ := hw_6
  have hP : va_P δ vwCl (wR cI cJ cZ aR0 aR1 aR2 aR3 aR4 aR5 aR6 aR7 aR8 aR9 aR10 aR11 aR12 aR13 aR14 aR15 aR16 aR17 aR18 aR19 aR20 aR21 lv sg pd ac dd hd le bd my lf pa kp) H := hP
  have hD : va_D A (wR cI cJ cZ aR0 aR1 aR2 aR3 aR4 aR5 aR6 aR7 aR8 aR9 aR10 aR11 aR12 aR13 aR14 aR15 aR16 aR17 aR18 aR19 aR20 aR21 lv sg pd ac dd hd le bd my lf pa kp) := hD
  have hR := bnd_eq hR hw_6.symm
  refine lv_if_ne (tgt := 15) hx hb dX6_deed_9 (by decide) (fun c_9 => ?_) (fun c_9 => ?_)
  · have c_9 : ¬ (r_6 = 0) := c_9
    have hR := hR.trans (if_neg c_9)
    refine lv_aload_n hx hb dX6_deed_15 rfl (lv_at hl 0 rfl) ?_
    have hr := mrV (p := p) (e := e) (R := rm_X6_deed) (below := below) (meth := meth) (H := H) (locs := locs) (ls := ls) (As := []) (rest := []) (c_X6_refusal l δ cI cJ cZ aR0 aR1 aR2 aR3 aR4 aR5 aR6 aR7 aR8 aR9 aR10 aR11 aR12 aR13 aR14 aR15 aR16 aR17 aR18 aR19 aR20 aR21 lv sg pd ac dd hd le bd my lf pa kp hq hrk) hx hb hml hts hown hK hNW hP hD [0, 1, 2, 3, 4, 5, 6, 7, 8, 9, 10, 11, 12, 13, 14, 15, 16, 17, 18, 19, 20, 21] rfl rfl 6 0 rfl rfl (cwV 0 hts gX6_deed_X6_refusal rfl rfl rfl (by decide +kernel) ⟨(Nat.le_of_ble_eq_true rfl), (Nat.le_of_ble_eq_true rfl)⟩) rfl hl.1 rfl (Nat.le_of_ble_eq_true rfl) dX6_deed_16
    refine mc_i (wr := ([] : va_W)) hr hP hD hS hA [0, 1, 2, 3, 4, 5, 6, 7, 8, 9, 10, 11, 12, 13, 14, 15, 16, 17, 18, 19, 20, 21] [] [0, 1, 2, 3, 4, 5, 6, 7, 8, 9, 10, 11, 12, 13, 14, 15, 16, 17, 18, 19, 20, 21] rfl rfl rfl rfl rfl (wn := fun u_16 => (wR cI cJ cZ aR0 aR1 aR2 aR3 aR4 aR5 aR6 aR7 aR8 aR9 aR10 aR11 aR12 aR13 aR14 aR15 aR16 aR17 aR18 aR19 aR20 aR21 u_16.1 sg pd u_16.2.1 u_16.2.2.1 u_16.2.2.2.1 u_16.2.2.2.2.1 u_16.2.2.2.2.2 my lf pa kp)) (fun _ => rfl) (fun r_16 u_16 H locs hw_16 hP hD hS => ?_)
    have hP : va_P δ vwCl (wR cI cJ cZ aR0 aR1 aR2 aR3 aR4 aR5 aR6 aR7 aR8 aR9 aR10 aR11 aR12 aR13 aR14 aR15 aR16 aR17 aR18 aR19 aR20 aR21 u_16.1 sg pd u_16.2.1 u_16.2.2.1 u_16.2.2.2.1 u_16.2.2.2.2.1 u_16.2.2.2.2.2 my lf pa kp) H := hP
    have hD : va_D A (wR cI cJ cZ aR0 aR1 aR2 aR3 aR4 aR5 aR6 aR7 aR8 aR9 aR10 aR11 aR12 aR13 aR14 aR15 aR16 aR17 aR18 aR19 aR20 aR21 u_16.1 sg pd u_16.2.1 u_16.2.2.1 u_16.2.2.2.1 u_16.2.2.2.2.1 u_16.2.2.2.2.2 my lf pa kp) := hD
    have hR := bnd_eq hR hw_16.symm
    refine lv_istore_n (lv' := [(3, .int r_16), (0, .ref aR0), (1, .int xk), (2, .int xw)]) hx hb dX6_deed_19 rfl hl (by decide) rfl (fun ls hl => ?_)
    refine lv_iload_n hx hb dX6_deed_20 rfl (lv_at hl 0 rfl) ?_
    refine lv_bipush (v := (-6 : Int32)) hx hb dX6_deed_21 (by decide) ?_
    refine lv_icmp_eq (tgt := 28) hx hb dX6_deed_23 (by decide) (fun c_23 => ?_) (fun c_23 => ?_)
    · have c_23 : (r_16 = (-6 : Int32)) := c_23
      have hR := hR.trans (if_pos c_23)
      refine lv_iload_n hx hb dX6_deed_28 rfl (lv_at hl 2 rfl) ?_
      refine lv_i2l (v := (xk.toInt64)) hx hb dX6_deed_29 rfl ?_
      refine lv_lconst (v := (0 : Int64)) hx hb dX6_deed_30 (by decide) ?_
      refine lv_aload_n hx hb dX6_deed_31 rfl (lv_at hl 1 rfl) ?_
      refine va_get (D := δ) (ci := 6) (v := .int (eDeeds u_16.2.2.1)) (C := RX6) (T := TX6) (N := 34) hx hb hts hinX6 hown hK hP 0 rfl rfl 20 (by decide) (hts (.fieldLink RX6 154 "GloveHoursModel" "deeds" "I") (List.mem_of_getElem? (i := 2) rfl)) (fun _ h9 => h9) rfl dX6_deed_32 ?_
      refine lv_i2l (v := ((eDeeds u_16.2.2.1).toInt64)) hx hb dX6_deed_35 rfl ?_
      refine lv_lconst (v := (1 : Int64)) hx hb dX6_deed_36 (by decide) ?_
      refine lv_lsub hx hb dX6_deed_37 ?_
      have hr := mrS (p := p) (e := e) (R := rm_X6_deed) (below := below) (meth := meth) (H := H) (locs := locs) (ls := ls) (As := [.long (xk.toInt64), .long (0 : Int64), .long (((eDeeds u_16.2.2.1).toInt64) - (1 : Int64))]) (rest := []) (c_X6_in l δ cI cJ cZ (xk.toInt64) (0 : Int64) (((eDeeds u_16.2.2.1).toInt64) - (1 : Int64))) hx hb hml hts hown hK hNW hP hD [] rfl rfl (va_cwS 3 hts gX6_deed_X6_in rfl rfl rfl (by decide +kernel) ⟨(Nat.le_of_ble_eq_true rfl), (Nat.le_of_ble_eq_true rfl)⟩) rfl hl.1 rfl (Nat.le_of_ble_eq_true rfl) dX6_deed_38
      refine mc_i (wr := (wR cI cJ cZ aR0 aR1 aR2 aR3 aR4 aR5 aR6 aR7 aR8 aR9 aR10 aR11 aR12 aR13 aR14 aR15 aR16 aR17 aR18 aR19 aR20 aR21 u_16.1 sg pd u_16.2.1 u_16.2.2.1 u_16.2.2.2.1 u_16.2.2.2.2.1 u_16.2.2.2.2.2 my lf pa kp)) hr hP hD hS hA [] [0, 1, 2, 3, 4, 5, 6, 7, 8, 9, 10, 11, 12, 13, 14, 15, 16, 17, 18, 19, 20, 21] [0, 1, 2, 3, 4, 5, 6, 7, 8, 9, 10, 11, 12, 13, 14, 15, 16, 17, 18, 19, 20, 21] rfl rfl rfl rfl rfl (wn := fun _ => (wR cI cJ cZ aR0 aR1 aR2 aR3 aR4 aR5 aR6 aR7 aR8 aR9 aR10 aR11 aR12 aR13 aR14 aR15 aR16 aR17 aR18 aR19 aR20 aR21 u_16.1 sg pd u_16.2.1 u_16.2.2.1 u_16.2.2.2.1 u_16.2.2.2.2.1 u_16.2.2.2.2.2 my lf pa kp)) (fun _ => rfl) (fun r_38 _ H locs hw_38 hP hD hS => ?_)
      obtain ⟨hw_38, z_38⟩ := hw_38
      have hP : va_P δ vwCl (wR cI cJ cZ aR0 aR1 aR2 aR3 aR4 aR5 aR6 aR7 aR8 aR9 aR10 aR11 aR12 aR13 aR14 aR15 aR16 aR17 aR18 aR19 aR20 aR21 u_16.1 sg pd u_16.2.1 u_16.2.2.1 u_16.2.2.2.1 u_16.2.2.2.2.1 u_16.2.2.2.2.2 my lf pa kp) H := hP
      have hD : va_D A (wR cI cJ cZ aR0 aR1 aR2 aR3 aR4 aR5 aR6 aR7 aR8 aR9 aR10 aR11 aR12 aR13 aR14 aR15 aR16 aR17 aR18 aR19 aR20 aR21 u_16.1 sg pd u_16.2.1 u_16.2.2.1 u_16.2.2.2.1 u_16.2.2.2.2.1 u_16.2.2.2.2.2 my lf pa kp) := hD
      have hR := bnd_eq hR hw_38.symm
      refine lv_if_ne (tgt := 46) hx hb dX6_deed_41 (by decide) (fun c_41 => ?_) (fun c_41 => ?_)
      · have c_41 : ¬ (r_38 = 0) := c_41
        have hR := hR.trans (if_neg c_41)
        refine lv_iload_n hx hb dX6_deed_46 rfl (lv_at hl 3 rfl) ?_
        refine lv_if_ne (tgt := 59) hx hb dX6_deed_47 (by decide) (fun c_47 => ?_) (fun c_47 => ?_)
        · have c_47 : ¬ (xw = 0) := c_47
          have hR := hR.trans (if_neg c_47)
          refine lv_iload_n hx hb dX6_deed_59 rfl (lv_at hl 3 rfl) ?_
          refine lv_iconst (v := (1 : Int32)) hx hb dX6_deed_60 (by decide) ?_
          refine lv_icmp_ne (tgt := 73) hx hb dX6_deed_61 (by decide) (fun c_61 => ?_) (fun c_61 => ?_)
          · have c_61 : ¬ (xw = (1 : Int32)) := c_61
            have hR := hR.trans (if_neg c_61)
            refine lv_aload_n hx hb dX6_deed_73 rfl (lv_at hl 1 rfl) ?_
            refine va_get (D := δ) (ci := 6) (v := .ref aR14) (C := RX6) (T := TX6) (N := 34) hx hb hts hinX6 hown hK hP 0 rfl rfl 19 (by decide) (hts (.fieldLink RX6 49 "GloveHoursModel" "deedWho" "[I") (List.mem_of_getElem? (i := 5) rfl)) (fun _ h9 => h9) rfl dX6_deed_74 ?_
            refine lv_iload_n hx hb dX6_deed_77 rfl (lv_at hl 2 rfl) ?_
            refine va_iald hx hb hK hP 14 0 rfl rfl (deedk_in hw_38 c_41 (refusal_deeds hw_16 c_23 hq hrk)) dX6_deed_78 ?_
            exact hret _ _ ((eDeedWho u_16.2.2.1) xk.toNatClampNeg) (u_16.1, u_16.2.1, u_16.2.2.1, u_16.2.2.2.1, u_16.2.2.2.2.1, u_16.2.2.2.2.2) _ _ hR hP hD hS dX6_deed_79
          · have c_61 : (xw = (1 : Int32)) := c_61
            have hR := hR.trans (if_pos c_61)
            refine lv_aload_n hx hb dX6_deed_64 rfl (lv_at hl 1 rfl) ?_
            refine va_get (D := δ) (ci := 6) (v := .ref aR13) (C := RX6) (T := TX6) (N := 34) hx hb hts hinX6 hown hK hP 0 rfl rfl 18 (by decide) (hts (.fieldLink RX6 46 "GloveHoursModel" "deedClock" "[I") (List.mem_of_getElem? (i := 4) rfl)) (fun _ h9 => h9) rfl dX6_deed_65 ?_
            refine lv_iload_n hx hb dX6_deed_68 rfl (lv_at hl 2 rfl) ?_
            refine va_iald hx hb hK hP 13 0 rfl rfl (deedk_in hw_38 c_41 (refusal_deeds hw_16 c_23 hq hrk)) dX6_deed_69 ?_
            refine lv_goto (tgt := 79) hx hb dX6_deed_70 (by decide) ?_
            exact hret _ _ ((eDeedClock u_16.2.2.1) xk.toNatClampNeg) (u_16.1, u_16.2.1, u_16.2.2.1, u_16.2.2.2.1, u_16.2.2.2.2.1, u_16.2.2.2.2.2) _ _ hR hP hD hS dX6_deed_79
        · have c_47 : (xw = 0) := c_47
          have hR := hR.trans (if_pos c_47)
          refine lv_aload_n hx hb dX6_deed_50 rfl (lv_at hl 1 rfl) ?_
          refine va_get (D := δ) (ci := 6) (v := .ref aR12) (C := RX6) (T := TX6) (N := 34) hx hb hts hinX6 hown hK hP 0 rfl rfl 17 (by decide) (hts (.fieldLink RX6 43 "GloveHoursModel" "deedHour" "[I") (List.mem_of_getElem? (i := 3) rfl)) (fun _ h9 => h9) rfl dX6_deed_51 ?_
          refine lv_iload_n hx hb dX6_deed_54 rfl (lv_at hl 2 rfl) ?_
          refine va_iald hx hb hK hP 12 0 rfl rfl (deedk_in hw_38 c_41 (refusal_deeds hw_16 c_23 hq hrk)) dX6_deed_55 ?_
          refine lv_goto (tgt := 79) hx hb dX6_deed_56 (by decide) ?_
          exact hret _ _ ((eDeedHour u_16.2.2.1) xk.toNatClampNeg) (u_16.1, u_16.2.1, u_16.2.2.1, u_16.2.2.2.1, u_16.2.2.2.2.1, u_16.2.2.2.2.2) _ _ hR hP hD hS dX6_deed_79
      · have c_41 : (r_38 = 0) := c_41
        have hR := hR.trans (if_pos c_41)
        refine lv_iconst (v := (-1 : Int32)) hx hb dX6_deed_44 (by decide) ?_
        exact hret _ _ (-1 : Int32) (u_16.1, u_16.2.1, u_16.2.2.1, u_16.2.2.2.1, u_16.2.2.2.2.1, u_16.2.2.2.2.2) _ _ hR hP hD hS dX6_deed_45
    · have c_23 : ¬ (r_16 = (-6 : Int32)) := c_23
      have hR := hR.trans (if_neg c_23)
      refine lv_iload_n hx hb dX6_deed_26 rfl (lv_at hl 0 rfl) ?_
      exact hret _ _ r_16 (u_16.1, u_16.2.1, u_16.2.2.1, u_16.2.2.2.1, u_16.2.2.2.2.1, u_16.2.2.2.2.2) _ _ hR hP hD hS dX6_deed_27
  · have c_9 : (r_6 = 0) := c_9
    have hR := hR.trans (if_pos c_9)
    refine lv_bipush (v := (-2 : Int32)) hx hb dX6_deed_12 (by decide) ?_
    exact hret _ _ (-2 : Int32) (lv, ac, dd, hd, le, bd) _ _ hR hP hD hS dX6_deed_14

abbrev rm_X6_late : Room := { frames := 7, cells := 0, slots := 0, locals := 158 }
set_option maxHeartbeats 4000000 in
set_option maxRecDepth 100000 in
theorem c_X6_late (l : Launch) (δ : va_G) (cI cJ cZ : ClassId) (aR0 aR1 aR2 aR3 aR4 aR5 aR6 aR7 aR8 aR9 aR10 aR11 aR12 aR13 aR14 aR15 aR16 aR17 aR18 aR19 aR20 aR21 : Nat) (lv : LV) (sg : SG) (pd : PD) (ac : AC) (dd : DD) (hd : HD) (le : LE) (bd : BD) (my : MY) (lf : LF) (pa : PA) (kp : KP) (xw : Int32) (hq : vp_in (qPadMany pd) 61) (hrk : rOK lv) : mMi l δ (mTy cI cJ cZ) yX6_late wsX6_late rm_X6_late [.ref aR0, .int xw] (wR cI cJ cZ aR0 aR1 aR2 aR3 aR4 aR5 aR6 aR7 aR8 aR9 aR10 aR11 aR12 aR13 aR14 aR15 aR16 aR17 aR18 aR19 aR20 aR21 lv sg pd ac dd hd le bd my lf pa kp) (S := LV × AC × DD × HD × LE × BD) (fun r u => F_X6_late lv pd ac dd hd le bd xw = (r, u)) (fun u => (wR cI cJ cZ aR0 aR1 aR2 aR3 aR4 aR5 aR6 aR7 aR8 aR9 aR10 aR11 aR12 aR13 aR14 aR15 aR16 aR17 aR18 aR19 aR20 aR21 u.1 sg pd u.2.1 u.2.2.1 u.2.2.2.1 u.2.2.2.2.1 u.2.2.2.2.2 my lf pa kp)) := by
  refine mk_i (cc := cX6_late) (maxL := 3) (by decide) rfl (Nat.le_of_ble_eq_true rfl) ?_
  intro p e s m args below meth c A Q ls H locs hx hb hml hts hown hK hNW hA hP hD hS hl hret
  have hown : s.vm.findClass RX6 = some m.cls := hown
  have hl : lv_has ls 3 [(0, .ref aR0), (1, .int xw)] := hl
  have hinX6 : ∀ w ∈ u_ws RX6 TX6 34, w ∈ wsX6_late := (fun _ h => List.mem_cons_of_mem _ (List.mem_append_right _ (h)))
  have hR := F_X6_late.eq_1 lv pd ac dd hd le bd xw
  refine lv_iload_n hx hb dX6_late_0 rfl (lv_at hl 1 rfl) ?_
  refine lv_i2l (v := (xw.toInt64)) hx hb dX6_late_1 rfl ?_
  refine lv_lconst (v := (0 : Int64)) hx hb dX6_late_2 (by decide) ?_
  refine lv_lconst (v := (1 : Int64)) hx hb dX6_late_3 (by decide) ?_
  have hr := mrS (p := p) (e := e) (R := rm_X6_late) (below := below) (meth := meth) (H := H) (locs := locs) (ls := ls) (As := [.long (xw.toInt64), .long (0 : Int64), .long (1 : Int64)]) (rest := []) (c_X6_in l δ cI cJ cZ (xw.toInt64) (0 : Int64) (1 : Int64)) hx hb hml hts hown hK hNW hP hD [] rfl rfl (va_cwS 3 hts gX6_late_X6_in rfl rfl rfl (by decide +kernel) ⟨(Nat.le_of_ble_eq_true rfl), (Nat.le_of_ble_eq_true rfl)⟩) rfl hl.1 rfl (Nat.le_of_ble_eq_true rfl) dX6_late_4
  refine mc_i (wr := (wR cI cJ cZ aR0 aR1 aR2 aR3 aR4 aR5 aR6 aR7 aR8 aR9 aR10 aR11 aR12 aR13 aR14 aR15 aR16 aR17 aR18 aR19 aR20 aR21 lv sg pd ac dd hd le bd my lf pa kp)) hr hP hD hS hA [] [0, 1, 2, 3, 4, 5, 6, 7, 8, 9, 10, 11, 12, 13, 14, 15, 16, 17, 18, 19, 20, 21] [0, 1, 2, 3, 4, 5, 6, 7, 8, 9, 10, 11, 12, 13, 14, 15, 16, 17, 18, 19, 20, 21] rfl rfl rfl rfl rfl (wn := fun _ => (wR cI cJ cZ aR0 aR1 aR2 aR3 aR4 aR5 aR6 aR7 aR8 aR9 aR10 aR11 aR12 aR13 aR14 aR15 aR16 aR17 aR18 aR19 aR20 aR21 lv sg pd ac dd hd le bd my lf pa kp)) (fun _ => rfl) (fun r_4 _ H locs hw_4 hP hD hS => ?_)
  obtain ⟨hw_4, z_4⟩ := hw_4
  have hP : va_P δ vwCl (wR cI cJ cZ aR0 aR1 aR2 aR3 aR4 aR5 aR6 aR7 aR8 aR9 aR10 aR11 aR12 aR13 aR14 aR15 aR16 aR17 aR18 aR19 aR20 aR21 lv sg pd ac dd hd le bd my lf pa kp) H := hP
  have hD : va_D A (wR cI cJ cZ aR0 aR1 aR2 aR3 aR4 aR5 aR6 aR7 aR8 aR9 aR10 aR11 aR12 aR13 aR14 aR15 aR16 aR17 aR18 aR19 aR20 aR21 lv sg pd ac dd hd le bd my lf pa kp) := hD
  have hR := bnd_eq hR hw_4.symm
  refine lv_if_ne (tgt := 13) hx hb dX6_late_7 (by decide) (fun c_7 => ?_) (fun c_7 => ?_)
  · have c_7 : ¬ (r_4 = 0) := c_7
    have hR := hR.trans (if_neg c_7)
    refine lv_aload_n hx hb dX6_late_13 rfl (lv_at hl 0 rfl) ?_
    have hr := mrV (p := p) (e := e) (R := rm_X6_late) (below := below) (meth := meth) (H := H) (locs := locs) (ls := ls) (As := []) (rest := []) (c_X6_refusal l δ cI cJ cZ aR0 aR1 aR2 aR3 aR4 aR5 aR6 aR7 aR8 aR9 aR10 aR11 aR12 aR13 aR14 aR15 aR16 aR17 aR18 aR19 aR20 aR21 lv sg pd ac dd hd le bd my lf pa kp hq hrk) hx hb hml hts hown hK hNW hP hD [0, 1, 2, 3, 4, 5, 6, 7, 8, 9, 10, 11, 12, 13, 14, 15, 16, 17, 18, 19, 20, 21] rfl rfl 6 0 rfl rfl (cwV 0 hts gX6_late_X6_refusal rfl rfl rfl (by decide +kernel) ⟨(Nat.le_of_ble_eq_true rfl), (Nat.le_of_ble_eq_true rfl)⟩) rfl hl.1 rfl (Nat.le_of_ble_eq_true rfl) dX6_late_14
    refine mc_i (wr := ([] : va_W)) hr hP hD hS hA [0, 1, 2, 3, 4, 5, 6, 7, 8, 9, 10, 11, 12, 13, 14, 15, 16, 17, 18, 19, 20, 21] [] [0, 1, 2, 3, 4, 5, 6, 7, 8, 9, 10, 11, 12, 13, 14, 15, 16, 17, 18, 19, 20, 21] rfl rfl rfl rfl rfl (wn := fun u_14 => (wR cI cJ cZ aR0 aR1 aR2 aR3 aR4 aR5 aR6 aR7 aR8 aR9 aR10 aR11 aR12 aR13 aR14 aR15 aR16 aR17 aR18 aR19 aR20 aR21 u_14.1 sg pd u_14.2.1 u_14.2.2.1 u_14.2.2.2.1 u_14.2.2.2.2.1 u_14.2.2.2.2.2 my lf pa kp)) (fun _ => rfl) (fun r_14 u_14 H locs hw_14 hP hD hS => ?_)
    have hP : va_P δ vwCl (wR cI cJ cZ aR0 aR1 aR2 aR3 aR4 aR5 aR6 aR7 aR8 aR9 aR10 aR11 aR12 aR13 aR14 aR15 aR16 aR17 aR18 aR19 aR20 aR21 u_14.1 sg pd u_14.2.1 u_14.2.2.1 u_14.2.2.2.1 u_14.2.2.2.2.1 u_14.2.2.2.2.2 my lf pa kp) H := hP
    have hD : va_D A (wR cI cJ cZ aR0 aR1 aR2 aR3 aR4 aR5 aR6 aR7 aR8 aR9 aR10 aR11 aR12 aR13 aR14 aR15 aR16 aR17 aR18 aR19 aR20 aR21 u_14.1 sg pd u_14.2.1 u_14.2.2.1 u_14.2.2.2.1 u_14.2.2.2.2.1 u_14.2.2.2.2.2 my lf pa kp) := hD
    have hR := bnd_eq hR hw_14.symm
    refine lv_istore_n (lv' := [(2, .int r_14), (0, .ref aR0), (1, .int xw)]) hx hb dX6_late_17 rfl hl (by decide) rfl (fun ls hl => ?_)
    refine lv_iload_n hx hb dX6_late_18 rfl (lv_at hl 0 rfl) ?_
    refine lv_bipush (v := (-6 : Int32)) hx hb dX6_late_19 (by decide) ?_
    refine lv_icmp_eq (tgt := 28) hx hb dX6_late_21 (by decide) (fun c_21 => ?_) (fun c_21 => ?_)
    · have c_21 : (r_14 = (-6 : Int32)) := c_21
      have hR := hR.trans (if_pos c_21)
      refine lv_iload_n hx hb dX6_late_28 rfl (lv_at hl 2 rfl) ?_
      refine lv_if_ne (tgt := 39) hx hb dX6_late_29 (by decide) (fun c_29 => ?_) (fun c_29 => ?_)
      · have c_29 : ¬ (xw = 0) := c_29
        have hR := hR.trans (if_neg c_29)
        refine lv_aload_n hx hb dX6_late_39 rfl (lv_at hl 1 rfl) ?_
        refine va_get (D := δ) (ci := 6) (v := .int (eLateMany u_14.2.2.1)) (C := RX6) (T := TX6) (N := 34) hx hb hts hinX6 hown hK hP 0 rfl rfl 22 (by decide) (hts (.fieldLink RX6 160 "GloveHoursModel" "lateMany" "I") (List.mem_of_getElem? (i := 2) rfl)) (fun _ h9 => h9) rfl dX6_late_40 ?_
        exact hret _ _ (eLateMany u_14.2.2.1) (u_14.1, u_14.2.1, u_14.2.2.1, u_14.2.2.2.1, u_14.2.2.2.2.1, u_14.2.2.2.2.2) _ _ hR hP hD hS dX6_late_43
      · have c_29 : (xw = 0) := c_29
        have hR := hR.trans (if_pos c_29)
        refine lv_aload_n hx hb dX6_late_32 rfl (lv_at hl 1 rfl) ?_
        refine va_get (D := δ) (ci := 6) (v := .int (eFirstLate u_14.2.2.1)) (C := RX6) (T := TX6) (N := 34) hx hb hts hinX6 hown hK hP 0 rfl rfl 21 (by decide) (hts (.fieldLink RX6 157 "GloveHoursModel" "firstLate" "I") (List.mem_of_getElem? (i := 1) rfl)) (fun _ h9 => h9) rfl dX6_late_33 ?_
        refine lv_goto (tgt := 43) hx hb dX6_late_36 (by decide) ?_
        exact hret _ _ (eFirstLate u_14.2.2.1) (u_14.1, u_14.2.1, u_14.2.2.1, u_14.2.2.2.1, u_14.2.2.2.2.1, u_14.2.2.2.2.2) _ _ hR hP hD hS dX6_late_43
    · have c_21 : ¬ (r_14 = (-6 : Int32)) := c_21
      have hR := hR.trans (if_neg c_21)
      refine lv_iload_n hx hb dX6_late_24 rfl (lv_at hl 0 rfl) ?_
      refine lv_goto (tgt := 43) hx hb dX6_late_25 (by decide) ?_
      exact hret _ _ r_14 (u_14.1, u_14.2.1, u_14.2.2.1, u_14.2.2.2.1, u_14.2.2.2.2.1, u_14.2.2.2.2.2) _ _ hR hP hD hS dX6_late_43
  · have c_7 : (r_4 = 0) := c_7
    have hR := hR.trans (if_pos c_7)
    refine lv_bipush (v := (-2 : Int32)) hx hb dX6_late_10 (by decide) ?_
    exact hret _ _ (-2 : Int32) (lv, ac, dd, hd, le, bd) _ _ hR hP hD hS dX6_late_12

abbrev rm_X6_done : Room := { frames := 7, cells := 0, slots := 0, locals := 158 }
set_option maxHeartbeats 4000000 in
set_option maxRecDepth 100000 in
theorem c_X6_done (l : Launch) (δ : va_G) (cI cJ cZ : ClassId) (aR0 aR1 aR2 aR3 aR4 aR5 aR6 aR7 aR8 aR9 aR10 aR11 aR12 aR13 aR14 aR15 aR16 aR17 aR18 aR19 aR20 aR21 : Nat) (lv : LV) (sg : SG) (pd : PD) (ac : AC) (dd : DD) (hd : HD) (le : LE) (bd : BD) (my : MY) (lf : LF) (pa : PA) (kp : KP) (hq : vp_in (qPadMany pd) 61) (hrk : rOK lv) : mMi l δ (mTy cI cJ cZ) yX6_done wsX6_done rm_X6_done [.ref aR0] (wR cI cJ cZ aR0 aR1 aR2 aR3 aR4 aR5 aR6 aR7 aR8 aR9 aR10 aR11 aR12 aR13 aR14 aR15 aR16 aR17 aR18 aR19 aR20 aR21 lv sg pd ac dd hd le bd my lf pa kp) (S := LV × PD × AC × DD × HD × LE × BD) (fun r u => F_X6_done lv pd ac dd hd le bd = (r, u)) (fun u => (wR cI cJ cZ aR0 aR1 aR2 aR3 aR4 aR5 aR6 aR7 aR8 aR9 aR10 aR11 aR12 aR13 aR14 aR15 aR16 aR17 aR18 aR19 aR20 aR21 u.1 sg u.2.1 u.2.2.1 u.2.2.2.1 u.2.2.2.2.1 u.2.2.2.2.2.1 u.2.2.2.2.2.2 my lf pa kp)) := by
  refine mk_i (cc := cX6_done) (maxL := 2) (by decide) rfl (Nat.le_of_ble_eq_true rfl) ?_
  intro p e s m args below meth c A Q ls H locs hx hb hml hts hown hK hNW hA hP hD hS hl hret
  have hown : s.vm.findClass RX6 = some m.cls := hown
  have hl : lv_has ls 2 [(0, .ref aR0)] := hl
  have hinX6 : ∀ w ∈ u_ws RX6 TX6 34, w ∈ wsX6_done := (fun _ h => List.mem_cons_of_mem _ (List.mem_append_right _ (h)))
  have hR := F_X6_done.eq_1 lv pd ac dd hd le bd
  refine lv_aload_n hx hb dX6_done_0 rfl (lv_at hl 0 rfl) ?_
  have hr := mrV (p := p) (e := e) (R := rm_X6_done) (below := below) (meth := meth) (H := H) (locs := locs) (ls := ls) (As := []) (rest := []) (c_X6_refusal l δ cI cJ cZ aR0 aR1 aR2 aR3 aR4 aR5 aR6 aR7 aR8 aR9 aR10 aR11 aR12 aR13 aR14 aR15 aR16 aR17 aR18 aR19 aR20 aR21 lv sg pd ac dd hd le bd my lf pa kp hq hrk) hx hb hml hts hown hK hNW hP hD [0, 1, 2, 3, 4, 5, 6, 7, 8, 9, 10, 11, 12, 13, 14, 15, 16, 17, 18, 19, 20, 21] rfl rfl 6 0 rfl rfl (cwV 0 hts gX6_done_X6_refusal rfl rfl rfl (by decide +kernel) ⟨(Nat.le_of_ble_eq_true rfl), (Nat.le_of_ble_eq_true rfl)⟩) rfl hl.1 rfl (Nat.le_of_ble_eq_true rfl) dX6_done_1
  refine mc_i (wr := ([] : va_W)) hr hP hD hS hA [0, 1, 2, 3, 4, 5, 6, 7, 8, 9, 10, 11, 12, 13, 14, 15, 16, 17, 18, 19, 20, 21] [] [0, 1, 2, 3, 4, 5, 6, 7, 8, 9, 10, 11, 12, 13, 14, 15, 16, 17, 18, 19, 20, 21] rfl rfl rfl rfl rfl (wn := fun u_1 => (wR cI cJ cZ aR0 aR1 aR2 aR3 aR4 aR5 aR6 aR7 aR8 aR9 aR10 aR11 aR12 aR13 aR14 aR15 aR16 aR17 aR18 aR19 aR20 aR21 u_1.1 sg pd u_1.2.1 u_1.2.2.1 u_1.2.2.2.1 u_1.2.2.2.2.1 u_1.2.2.2.2.2 my lf pa kp)) (fun _ => rfl) (fun r_1 u_1 H locs hw_1 hP hD hS => ?_)
  have hP : va_P δ vwCl (wR cI cJ cZ aR0 aR1 aR2 aR3 aR4 aR5 aR6 aR7 aR8 aR9 aR10 aR11 aR12 aR13 aR14 aR15 aR16 aR17 aR18 aR19 aR20 aR21 u_1.1 sg pd u_1.2.1 u_1.2.2.1 u_1.2.2.2.1 u_1.2.2.2.2.1 u_1.2.2.2.2.2 my lf pa kp) H := hP
  have hD : va_D A (wR cI cJ cZ aR0 aR1 aR2 aR3 aR4 aR5 aR6 aR7 aR8 aR9 aR10 aR11 aR12 aR13 aR14 aR15 aR16 aR17 aR18 aR19 aR20 aR21 u_1.1 sg pd u_1.2.1 u_1.2.2.1 u_1.2.2.2.1 u_1.2.2.2.2.1 u_1.2.2.2.2.2 my lf pa kp) := hD
  have hR := bnd_eq hR hw_1.symm
  refine lv_istore_n (lv' := [(1, .int r_1), (0, .ref aR0)]) hx hb dX6_done_4 rfl hl (by decide) rfl (fun ls hl => ?_)
  refine lv_iload_n hx hb dX6_done_5 rfl (lv_at hl 0 rfl) ?_
  refine lv_bipush (v := (-6 : Int32)) hx hb dX6_done_6 (by decide) ?_
  refine lv_icmp_eq (tgt := 13) hx hb dX6_done_8 (by decide) (fun c_8 => ?_) (fun c_8 => ?_)
  · have c_8 : (r_1 = (-6 : Int32)) := c_8
    have hR := hR.trans (if_pos c_8)
    refine lv_aload_n hx hb dX6_done_13 rfl (lv_at hl 1 rfl) ?_
    have hr := mrV (p := p) (e := e) (R := rm_X6_done) (below := below) (meth := meth) (H := H) (locs := locs) (ls := ls) (As := []) (rest := []) (c_X6_goDay l δ cI cJ cZ aR0 aR1 aR2 aR3 aR4 aR5 aR6 aR7 aR8 aR9 aR10 aR11 aR12 aR13 aR14 aR15 aR16 aR17 aR18 aR19 aR20 aR21 u_1.1 sg pd u_1.2.1 u_1.2.2.1 u_1.2.2.2.1 u_1.2.2.2.2.1 u_1.2.2.2.2.2 my lf pa kp ((refusal_ok hw_1 c_8 hq hrk).1) ((refusal_ok hw_1 c_8 hq hrk).2.1) ((refusal_ok hw_1 c_8 hq hrk).2.2)) hx hb hml hts hown hK hNW hP hD [0, 1, 2, 3, 4, 5, 6, 7, 8, 9, 10, 11, 12, 13, 14, 15, 16, 17, 18, 19, 20, 21] rfl rfl 6 0 rfl rfl (cwV 0 hts gX6_done_X6_goDay rfl rfl rfl (by decide +kernel) ⟨(Nat.le_of_ble_eq_true rfl), (Nat.le_of_ble_eq_true rfl)⟩) rfl hl.1 rfl (Nat.le_of_ble_eq_true rfl) dX6_done_14
    refine mc_v (wr := ([] : va_W)) hr hP hD hS hA [0, 1, 2, 3, 4, 5, 6, 7, 8, 9, 10, 11, 12, 13, 14, 15, 16, 17, 18, 19, 20, 21] [] [0, 1, 2, 3, 4, 5, 6, 7, 8, 9, 10, 11, 12, 13, 14, 15, 16, 17, 18, 19, 20, 21] rfl rfl rfl rfl rfl (wn := fun u_14 => (wR cI cJ cZ aR0 aR1 aR2 aR3 aR4 aR5 aR6 aR7 aR8 aR9 aR10 aR11 aR12 aR13 aR14 aR15 aR16 aR17 aR18 aR19 aR20 aR21 u_14.1 sg pd u_1.2.1 u_14.2.1 u_1.2.2.2.1 u_1.2.2.2.2.1 u_14.2.2 my lf pa kp)) (fun _ => rfl) (fun u_14 H locs hw_14 hP hD hS => ?_)
    have hP : va_P δ vwCl (wR cI cJ cZ aR0 aR1 aR2 aR3 aR4 aR5 aR6 aR7 aR8 aR9 aR10 aR11 aR12 aR13 aR14 aR15 aR16 aR17 aR18 aR19 aR20 aR21 u_14.1 sg pd u_1.2.1 u_14.2.1 u_1.2.2.2.1 u_1.2.2.2.2.1 u_14.2.2 my lf pa kp) H := hP
    have hD : va_D A (wR cI cJ cZ aR0 aR1 aR2 aR3 aR4 aR5 aR6 aR7 aR8 aR9 aR10 aR11 aR12 aR13 aR14 aR15 aR16 aR17 aR18 aR19 aR20 aR21 u_14.1 sg pd u_1.2.1 u_14.2.1 u_1.2.2.2.1 u_1.2.2.2.2.1 u_14.2.2 my lf pa kp) := hD
    have hR := bnd_eq hR hw_14.symm
    refine lv_aload_n hx hb dX6_done_17 rfl (lv_at hl 1 rfl) ?_
    refine lv_iconst (v := (0 : Int32)) hx hb dX6_done_18 (by decide) ?_
    refine va_put (D := δ) (ci := 6) (v := .int (0 : Int32)) (ty := .int) (C := RX6) (T := TX6) (N := 34) hx hb hts hinX6 tyX6 tyX6_ok nmX6 hown hK hP hD hS 0 rfl rfl 11 (by decide) (hts (.fieldLink RX6 117 "GloveHoursModel" "padMany" "I") (List.mem_of_getElem? (i := 1) rfl)) (fun _ h9 => h9) rfl (by decide +kernel) rfl rfl (Nat.le_of_ble_eq_true rfl) dX6_done_19 (fun H locs hP hD hS => ?_)
    have hP : va_P δ vwCl (wR cI cJ cZ aR0 aR1 aR2 aR3 aR4 aR5 aR6 aR7 aR8 aR9 aR10 aR11 aR12 aR13 aR14 aR15 aR16 aR17 aR18 aR19 aR20 aR21 u_14.1 sg ((0 : Int32), qPad pd) u_1.2.1 u_14.2.1 u_1.2.2.2.1 u_1.2.2.2.2.1 u_14.2.2 my lf pa kp) H := hP
    have hD : va_D A (wR cI cJ cZ aR0 aR1 aR2 aR3 aR4 aR5 aR6 aR7 aR8 aR9 aR10 aR11 aR12 aR13 aR14 aR15 aR16 aR17 aR18 aR19 aR20 aR21 u_14.1 sg ((0 : Int32), qPad pd) u_1.2.1 u_14.2.1 u_1.2.2.2.1 u_1.2.2.2.2.1 u_14.2.2 my lf pa kp) := hD
    refine lv_aload_n hx hb dX6_done_22 rfl (lv_at hl 1 rfl) ?_
    refine va_get (D := δ) (ci := 6) (v := .int (aActs u_1.2.1)) (C := RX6) (T := TX6) (N := 34) hx hb hts hinX6 hown hK hP 0 rfl rfl 16 (by decide) (hts (.fieldLink RX6 124 "GloveHoursModel" "acts" "I") (List.mem_of_getElem? (i := 2) rfl)) (fun _ h9 => h9) rfl dX6_done_23 ?_
    exact hret _ _ (aActs u_1.2.1) (u_14.1, ((0 : Int32), qPad pd), u_1.2.1, u_14.2.1, u_1.2.2.2.1, u_1.2.2.2.2.1, u_14.2.2) _ _ hR hP hD hS dX6_done_26
  · have c_8 : ¬ (r_1 = (-6 : Int32)) := c_8
    have hR := hR.trans (if_neg c_8)
    refine lv_iload_n hx hb dX6_done_11 rfl (lv_at hl 0 rfl) ?_
    exact hret _ _ r_1 (u_1.1, pd, u_1.2.1, u_1.2.2.1, u_1.2.2.2.1, u_1.2.2.2.2.1, u_1.2.2.2.2.2) _ _ hR hP hD hS dX6_done_12

abbrev rm_X6_proper : Room := { frames := 3, cells := 0, slots := 0, locals := 68 }
set_option maxHeartbeats 4000000 in
set_option maxRecDepth 100000 in
theorem c_X6_proper (l : Launch) (δ : va_G) (cI cJ cZ : ClassId) (aR0 aR1 aR2 aR3 aR4 aR5 aR6 aR7 aR8 aR9 aR10 aR11 aR12 aR13 aR14 aR15 aR16 aR17 aR18 aR19 aR20 aR21 : Nat) (lv : LV) (sg : SG) (pd : PD) (ac : AC) (dd : DD) (hd : HD) (le : LE) (bd : BD) (my : MY) (lf : LF) (pa : PA) (kp : KP) : mMi l δ (mTy cI cJ cZ) yX6_proper wsX6_proper rm_X6_proper [.ref aR0] (wR cI cJ cZ aR0 aR1 aR2 aR3 aR4 aR5 aR6 aR7 aR8 aR9 aR10 aR11 aR12 aR13 aR14 aR15 aR16 aR17 aR18 aR19 aR20 aR21 lv sg pd ac dd hd le bd my lf pa kp) (S := Unit) (fun r _ => F_X6_proper lv = r) (fun _ => (wR cI cJ cZ aR0 aR1 aR2 aR3 aR4 aR5 aR6 aR7 aR8 aR9 aR10 aR11 aR12 aR13 aR14 aR15 aR16 aR17 aR18 aR19 aR20 aR21 lv sg pd ac dd hd le bd my lf pa kp)) := by
  refine mk_i (cc := cX6_proper) (maxL := 3) (by decide) rfl (Nat.le_of_ble_eq_true rfl) ?_
  intro p e s m args below meth c A Q ls H locs hx hb hml hts hown hK hNW hA hP hD hS hl hret
  have hown : s.vm.findClass RX6 = some m.cls := hown
  have hl : lv_has ls 3 [(0, .ref aR0)] := hl
  have hR := F_X6_proper.eq_1 lv
  refine lv_iconst (v := (0 : Int32)) hx hb dX6_proper_0 (by decide) ?_
  refine lv_istore_n (lv' := [(1, .int (0 : Int32)), (0, .ref aR0)]) hx hb dX6_proper_1 rfl hl (by decide) rfl (fun ls hl => ?_)
  refine lv_iconst (v := (0 : Int32)) hx hb dX6_proper_2 (by decide) ?_
  refine lv_istore_n (lv' := [(2, .int (0 : Int32)), (1, .int (0 : Int32)), (0, .ref aR0)]) hx hb dX6_proper_3 rfl hl (by decide) rfl (fun ls hl => ?_)
  have hloop_4 : ∀ (n_4 : Nat) (i_4 : Nat) (v1_4 : Int32) (H : Heap) (locs : List Loc) (ls : Array Slot), (hi_4 : i_4 ≤ 6) → (hn_4 : 6 < i_4 + n_4) → (hP : va_P δ vwCl (wR cI cJ cZ aR0 aR1 aR2 aR3 aR4 aR5 aR6 aR7 aR8 aR9 aR10 aR11 aR12 aR13 aR14 aR15 aR16 aR17 aR18 aR19 aR20 aR21 lv sg pd ac dd hd le bd my lf pa kp) H) → (hD : va_D A (wR cI cJ cZ aR0 aR1 aR2 aR3 aR4 aR5 aR6 aR7 aR8 aR9 aR10 aR11 aR12 aR13 aR14 aR15 aR16 aR17 aR18 aR19 aR20 aR21 lv sg pd ac dd hd le bd my lf pa kp)) → (hS : va_S A s.heap H locs) → (hl : lv_has ls 3 [(2, .int (nI i_4)), (1, .int v1_4), (0, .ref aR0)]) → (kk : ∀ (w_4 : Int32) (H : Heap) (locs : List Loc) (ls : Array Slot), L_X6_proper_4 lv n_4 i_4 v1_4 = w_4 → va_P δ vwCl (wR cI cJ cZ aR0 aR1 aR2 aR3 aR4 aR5 aR6 aR7 aR8 aR9 aR10 aR11 aR12 aR13 aR14 aR15 aR16 aR17 aR18 aR19 aR20 aR21 lv sg pd ac dd hd le bd my lf pa kp) H → va_D A (wR cI cJ cZ aR0 aR1 aR2 aR3 aR4 aR5 aR6 aR7 aR8 aR9 aR10 aR11 aR12 aR13 aR14 aR15 aR16 aR17 aR18 aR19 aR20 aR21 lv sg pd ac dd hd le bd my lf pa kp) → va_S A s.heap H locs → lv_has ls 3 [(1, .int w_4), (0, .ref aR0)] → W p l e rm_X6_proper s m args below meth c H locs 0 0 Q (F0 m 34 ls [])) → W p l e rm_X6_proper s m args below meth c H locs 0 0 Q (F0 m 4 ls []) := by
    intro n_4
    induction n_4 with
    | zero => intro i_4 v1_4 H locs ls hi_4 hn_4 hP hD hS hl kk; exact absurd hn_4 (by omega)
    | succ n_4 ih_4 =>
      intro i_4 v1_4 H locs ls hi_4 hn_4 hP hD hS hl kk
      have hR := L_X6_proper_4_s lv n_4 i_4 v1_4
      refine lv_iload_n hx hb dX6_proper_4 rfl (lv_at hl 0 rfl) ?_
      refine lv_bipush (v := (6 : Int32)) hx hb dX6_proper_5 (by decide) ?_
      refine lv_icmp_ge (tgt := 34) hx hb dX6_proper_7 (by decide) (fun c_7 => ?_) (fun c_7 => ?_)
      · have c_7 : ((6 : Int32) ≤ (nI i_4)) := c_7
        have hR := hR.trans (if_pos c_7)
        exact kk v1_4 H locs ls hR hP hD hS (lv_sub hl [1, 2] rfl)
      · have c_7 : ¬ ((6 : Int32) ≤ (nI i_4)) := c_7
        have hR := hR.trans (if_neg c_7)
        have hlt_4 : i_4 < 6 := lt_g c_7 hi_4 (by decide)
        refine lv_iload_n hx hb dX6_proper_10 rfl (lv_at hl 1 rfl) ?_
        refine lv_aload_n hx hb dX6_proper_11 rfl (lv_at hl 2 rfl) ?_
        refine lv_iload_n hx hb dX6_proper_12 rfl (lv_at hl 0 rfl) ?_
        have hr := mrV (p := p) (e := e) (R := rm_X6_proper) (below := below) (meth := meth) (H := H) (locs := locs) (ls := ls) (As := [.int (nI i_4)]) (rest := [.int v1_4]) (c_X6_isProper l δ cI cJ cZ aR0 aR1 aR2 aR3 aR4 aR5 aR6 aR7 aR8 aR9 aR10 aR11 aR12 aR13 aR14 aR15 aR16 aR17 aR18 aR19 aR20 aR21 lv sg pd ac dd hd le bd my lf pa kp (nI i_4)) hx hb hml hts hown hK hNW hP hD [0, 1, 2, 3, 4, 5, 6, 7, 8, 9, 10, 11, 12, 13, 14, 15, 16, 17, 18, 19, 20, 21] rfl rfl 6 0 rfl rfl (cwV 1 hts gX6_proper_X6_isProper rfl rfl rfl (by decide +kernel) ⟨(Nat.le_of_ble_eq_true rfl), (Nat.le_of_ble_eq_true rfl)⟩) rfl hl.1 rfl (Nat.le_of_ble_eq_true rfl) dX6_proper_13
        refine mc_i (wr := ([] : va_W)) hr hP hD hS hA [0, 1, 2, 3, 4, 5, 6, 7, 8, 9, 10, 11, 12, 13, 14, 15, 16, 17, 18, 19, 20, 21] [] [0, 1, 2, 3, 4, 5, 6, 7, 8, 9, 10, 11, 12, 13, 14, 15, 16, 17, 18, 19, 20, 21] rfl rfl rfl rfl rfl (wn := fun _ => (wR cI cJ cZ aR0 aR1 aR2 aR3 aR4 aR5 aR6 aR7 aR8 aR9 aR10 aR11 aR12 aR13 aR14 aR15 aR16 aR17 aR18 aR19 aR20 aR21 lv sg pd ac dd hd le bd my lf pa kp)) (fun _ => rfl) (fun r_13 _ H locs hw_13 hP hD hS => ?_)
        obtain ⟨hw_13, z_13⟩ := hw_13
        have hP : va_P δ vwCl (wR cI cJ cZ aR0 aR1 aR2 aR3 aR4 aR5 aR6 aR7 aR8 aR9 aR10 aR11 aR12 aR13 aR14 aR15 aR16 aR17 aR18 aR19 aR20 aR21 lv sg pd ac dd hd le bd my lf pa kp) H := hP
        have hD : va_D A (wR cI cJ cZ aR0 aR1 aR2 aR3 aR4 aR5 aR6 aR7 aR8 aR9 aR10 aR11 aR12 aR13 aR14 aR15 aR16 aR17 aR18 aR19 aR20 aR21 lv sg pd ac dd hd le bd my lf pa kp) := hD
        have hR := bnd_eq hR hw_13.symm
        refine lv_if_eq (tgt := 25) hx hb dX6_proper_16 (by decide) (fun c_16 => ?_) (fun c_16 => ?_)
        · have c_16 : (r_13 = 0) := c_16
          have hR := hR.trans (if_pos c_16)
          refine lv_iconst (v := (0 : Int32)) hx hb dX6_proper_25 (by decide) ?_
          refine lv_ior hx hb dX6_proper_26 ?_
          refine lv_istore_n (lv' := [(1, .int (v1_4 ||| (0 : Int32))), (2, .int (nI i_4)), (0, .ref aR0)]) hx hb dX6_proper_27 rfl hl (by decide) rfl (fun ls hl => ?_)
          refine lv_iinc (v := (nI (i_4 + 1))) (lv' := [(2, .int (nI (i_4 + 1))), (1, .int (v1_4 ||| (0 : Int32))), (0, .ref aR0)]) hx hb dX6_proper_28 hl (k := 1) rfl (nI_1 i_4) (by decide) rfl (fun ls hl => ?_)
          refine lv_goto (tgt := 4) hx hb dX6_proper_31 (by decide) ?_
          exact ih_4 (i_4 + 1) (v1_4 ||| (0 : Int32)) _ _ _ (by omega) (by omega) hP hD hS (lv_sub hl [0, 1, 2] rfl) (fun w_4 H locs ls he hP hD hS hl => kk w_4 H locs ls (hR.trans he) hP hD hS hl)
        · have c_16 : ¬ (r_13 = 0) := c_16
          have hR := hR.trans (if_neg c_16)
          refine lv_iconst (v := (1 : Int32)) hx hb dX6_proper_19 (by decide) ?_
          refine lv_iload_n hx hb dX6_proper_20 rfl (lv_at hl 0 rfl) ?_
          refine lv_ishl hx hb dX6_proper_21 ?_
          refine lv_goto (tgt := 26) hx hb dX6_proper_22 (by decide) ?_
          refine lv_ior hx hb dX6_proper_26 ?_
          refine lv_istore_n (lv' := [(1, .int (v1_4 ||| ((1 : Int32) <<< ((nI i_4) &&& 31)))), (2, .int (nI i_4)), (0, .ref aR0)]) hx hb dX6_proper_27 rfl hl (by decide) rfl (fun ls hl => ?_)
          refine lv_iinc (v := (nI (i_4 + 1))) (lv' := [(2, .int (nI (i_4 + 1))), (1, .int (v1_4 ||| ((1 : Int32) <<< ((nI i_4) &&& 31)))), (0, .ref aR0)]) hx hb dX6_proper_28 hl (k := 1) rfl (nI_1 i_4) (by decide) rfl (fun ls hl => ?_)
          refine lv_goto (tgt := 4) hx hb dX6_proper_31 (by decide) ?_
          exact ih_4 (i_4 + 1) (v1_4 ||| ((1 : Int32) <<< ((nI i_4) &&& 31))) _ _ _ (by omega) (by omega) hP hD hS (lv_sub hl [0, 1, 2] rfl) (fun w_4 H locs ls he hP hD hS hl => kk w_4 H locs ls (hR.trans he) hP hD hS hl)
  refine hloop_4 (6 + 1) 0 (0 : Int32) _ _ _ (by omega) (by omega) hP hD hS (lv_sub hl [0, 1, 2] rfl) (fun w_4 H locs ls hw_4 hP hD hS hl => ?_)
  have hP : va_P δ vwCl (wR cI cJ cZ aR0 aR1 aR2 aR3 aR4 aR5 aR6 aR7 aR8 aR9 aR10 aR11 aR12 aR13 aR14 aR15 aR16 aR17 aR18 aR19 aR20 aR21 lv sg pd ac dd hd le bd my lf pa kp) H := hP
  have hD : va_D A (wR cI cJ cZ aR0 aR1 aR2 aR3 aR4 aR5 aR6 aR7 aR8 aR9 aR10 aR11 aR12 aR13 aR14 aR15 aR16 aR17 aR18 aR19 aR20 aR21 lv sg pd ac dd hd le bd my lf pa kp) := hD
  have hR := bnd_eq hR hw_4.symm
  refine lv_iload_n hx hb dX6_proper_34 rfl (lv_at hl 0 rfl) ?_
  exact hret _ _ w_4 () _ _ hR hP hD hS dX6_proper_35

abbrev rm_X6_ownersOf : Room := { frames := 3, cells := 0, slots := 0, locals := 68 }
set_option maxHeartbeats 4000000 in
set_option maxRecDepth 100000 in
theorem c_X6_ownersOf (l : Launch) (δ : va_G) (cI cJ cZ : ClassId) (aR0 aR1 aR2 aR3 aR4 aR5 aR6 aR7 aR8 aR9 aR10 aR11 aR12 aR13 aR14 aR15 aR16 aR17 aR18 aR19 aR20 aR21 : Nat) (lv : LV) (sg : SG) (pd : PD) (ac : AC) (dd : DD) (hd : HD) (le : LE) (bd : BD) (my : MY) (lf : LF) (pa : PA) (kp : KP) (xh : Int32) (hh : vp_in xh 24) : mMi l δ (mTy cI cJ cZ) yX6_ownersOf wsX6_ownersOf rm_X6_ownersOf [.ref aR0, .int xh] (wR cI cJ cZ aR0 aR1 aR2 aR3 aR4 aR5 aR6 aR7 aR8 aR9 aR10 aR11 aR12 aR13 aR14 aR15 aR16 aR17 aR18 aR19 aR20 aR21 lv sg pd ac dd hd le bd my lf pa kp) (S := Unit) (fun r _ => F_X6_ownersOf lv xh = r) (fun _ => (wR cI cJ cZ aR0 aR1 aR2 aR3 aR4 aR5 aR6 aR7 aR8 aR9 aR10 aR11 aR12 aR13 aR14 aR15 aR16 aR17 aR18 aR19 aR20 aR21 lv sg pd ac dd hd le bd my lf pa kp)) := by
  refine mk_i (cc := cX6_ownersOf) (maxL := 4) (by decide) rfl (Nat.le_of_ble_eq_true rfl) ?_
  intro p e s m args below meth c A Q ls H locs hx hb hml hts hown hK hNW hA hP hD hS hl hret
  have hown : s.vm.findClass RX6 = some m.cls := hown
  have hl : lv_has ls 4 [(0, .ref aR0), (1, .int xh)] := hl
  have hR := F_X6_ownersOf.eq_1 lv xh
  refine lv_iconst (v := (0 : Int32)) hx hb dX6_ownersOf_0 (by decide) ?_
  refine lv_istore_n (lv' := [(2, .int (0 : Int32)), (0, .ref aR0), (1, .int xh)]) hx hb dX6_ownersOf_1 rfl hl (by decide) rfl (fun ls hl => ?_)
  refine lv_iconst (v := (0 : Int32)) hx hb dX6_ownersOf_2 (by decide) ?_
  refine lv_istore_n (lv' := [(3, .int (0 : Int32)), (2, .int (0 : Int32)), (0, .ref aR0), (1, .int xh)]) hx hb dX6_ownersOf_3 rfl hl (by decide) rfl (fun ls hl => ?_)
  have hloop_4 : ∀ (n_4 : Nat) (i_4 : Nat) (v2_4 : Int32) (H : Heap) (locs : List Loc) (ls : Array Slot), (hi_4 : i_4 ≤ 6) → (hn_4 : 6 < i_4 + n_4) → (hP : va_P δ vwCl (wR cI cJ cZ aR0 aR1 aR2 aR3 aR4 aR5 aR6 aR7 aR8 aR9 aR10 aR11 aR12 aR13 aR14 aR15 aR16 aR17 aR18 aR19 aR20 aR21 lv sg pd ac dd hd le bd my lf pa kp) H) → (hD : va_D A (wR cI cJ cZ aR0 aR1 aR2 aR3 aR4 aR5 aR6 aR7 aR8 aR9 aR10 aR11 aR12 aR13 aR14 aR15 aR16 aR17 aR18 aR19 aR20 aR21 lv sg pd ac dd hd le bd my lf pa kp)) → (hS : va_S A s.heap H locs) → (hl : lv_has ls 4 [(3, .int (nI i_4)), (2, .int v2_4), (0, .ref aR0), (1, .int xh)]) → (kk : ∀ (w_4 : Int32) (H : Heap) (locs : List Loc) (ls : Array Slot), L_X6_ownersOf_4 lv xh n_4 i_4 v2_4 = w_4 → va_P δ vwCl (wR cI cJ cZ aR0 aR1 aR2 aR3 aR4 aR5 aR6 aR7 aR8 aR9 aR10 aR11 aR12 aR13 aR14 aR15 aR16 aR17 aR18 aR19 aR20 aR21 lv sg pd ac dd hd le bd my lf pa kp) H → va_D A (wR cI cJ cZ aR0 aR1 aR2 aR3 aR4 aR5 aR6 aR7 aR8 aR9 aR10 aR11 aR12 aR13 aR14 aR15 aR16 aR17 aR18 aR19 aR20 aR21 lv sg pd ac dd hd le bd my lf pa kp) → va_S A s.heap H locs → lv_has ls 4 [(2, .int w_4), (0, .ref aR0), (1, .int xh)] → W p l e rm_X6_ownersOf s m args below meth c H locs 0 0 Q (F0 m 35 ls [])) → W p l e rm_X6_ownersOf s m args below meth c H locs 0 0 Q (F0 m 4 ls []) := by
    intro n_4
    induction n_4 with
    | zero => intro i_4 v2_4 H locs ls hi_4 hn_4 hP hD hS hl kk; exact absurd hn_4 (by omega)
    | succ n_4 ih_4 =>
      intro i_4 v2_4 H locs ls hi_4 hn_4 hP hD hS hl kk
      have hR := L_X6_ownersOf_4_s lv xh n_4 i_4 v2_4
      refine lv_iload_n hx hb dX6_ownersOf_4 rfl (lv_at hl 0 rfl) ?_
      refine lv_bipush (v := (6 : Int32)) hx hb dX6_ownersOf_5 (by decide) ?_
      refine lv_icmp_ge (tgt := 35) hx hb dX6_ownersOf_7 (by decide) (fun c_7 => ?_) (fun c_7 => ?_)
      · have c_7 : ((6 : Int32) ≤ (nI i_4)) := c_7
        have hR := hR.trans (if_pos c_7)
        exact kk v2_4 H locs ls hR hP hD hS (lv_sub hl [1, 2, 3] rfl)
      · have c_7 : ¬ ((6 : Int32) ≤ (nI i_4)) := c_7
        have hR := hR.trans (if_neg c_7)
        have hlt_4 : i_4 < 6 := lt_g c_7 hi_4 (by decide)
        refine lv_iload_n hx hb dX6_ownersOf_10 rfl (lv_at hl 1 rfl) ?_
        refine lv_aload_n hx hb dX6_ownersOf_11 rfl (lv_at hl 2 rfl) ?_
        refine lv_iload_n hx hb dX6_ownersOf_12 rfl (lv_at hl 0 rfl) ?_
        refine lv_iload_n hx hb dX6_ownersOf_13 rfl (lv_at hl 3 rfl) ?_
        have hr := mrV (p := p) (e := e) (R := rm_X6_ownersOf) (below := below) (meth := meth) (H := H) (locs := locs) (ls := ls) (As := [.int (nI i_4), .int xh]) (rest := [.int v2_4]) (c_X6_owns l δ cI cJ cZ aR0 aR1 aR2 aR3 aR4 aR5 aR6 aR7 aR8 aR9 aR10 aR11 aR12 aR13 aR14 aR15 aR16 aR17 aR18 aR19 aR20 aR21 lv sg pd ac dd hd le bd my lf pa kp (nI i_4) xh hh) hx hb hml hts hown hK hNW hP hD [0, 1, 2, 3, 4, 5, 6, 7, 8, 9, 10, 11, 12, 13, 14, 15, 16, 17, 18, 19, 20, 21] rfl rfl 6 0 rfl rfl (cwV 2 hts gX6_ownersOf_X6_owns rfl rfl rfl (by decide +kernel) ⟨(Nat.le_of_ble_eq_true rfl), (Nat.le_of_ble_eq_true rfl)⟩) rfl hl.1 rfl (Nat.le_of_ble_eq_true rfl) dX6_ownersOf_14
        refine mc_i (wr := ([] : va_W)) hr hP hD hS hA [0, 1, 2, 3, 4, 5, 6, 7, 8, 9, 10, 11, 12, 13, 14, 15, 16, 17, 18, 19, 20, 21] [] [0, 1, 2, 3, 4, 5, 6, 7, 8, 9, 10, 11, 12, 13, 14, 15, 16, 17, 18, 19, 20, 21] rfl rfl rfl rfl rfl (wn := fun _ => (wR cI cJ cZ aR0 aR1 aR2 aR3 aR4 aR5 aR6 aR7 aR8 aR9 aR10 aR11 aR12 aR13 aR14 aR15 aR16 aR17 aR18 aR19 aR20 aR21 lv sg pd ac dd hd le bd my lf pa kp)) (fun _ => rfl) (fun r_14 _ H locs hw_14 hP hD hS => ?_)
        obtain ⟨hw_14, z_14⟩ := hw_14
        have hP : va_P δ vwCl (wR cI cJ cZ aR0 aR1 aR2 aR3 aR4 aR5 aR6 aR7 aR8 aR9 aR10 aR11 aR12 aR13 aR14 aR15 aR16 aR17 aR18 aR19 aR20 aR21 lv sg pd ac dd hd le bd my lf pa kp) H := hP
        have hD : va_D A (wR cI cJ cZ aR0 aR1 aR2 aR3 aR4 aR5 aR6 aR7 aR8 aR9 aR10 aR11 aR12 aR13 aR14 aR15 aR16 aR17 aR18 aR19 aR20 aR21 lv sg pd ac dd hd le bd my lf pa kp) := hD
        have hR := bnd_eq hR hw_14.symm
        refine lv_if_eq (tgt := 26) hx hb dX6_ownersOf_17 (by decide) (fun c_17 => ?_) (fun c_17 => ?_)
        · have c_17 : (r_14 = 0) := c_17
          have hR := hR.trans (if_pos c_17)
          refine lv_iconst (v := (0 : Int32)) hx hb dX6_ownersOf_26 (by decide) ?_
          refine lv_ior hx hb dX6_ownersOf_27 ?_
          refine lv_istore_n (lv' := [(2, .int (v2_4 ||| (0 : Int32))), (3, .int (nI i_4)), (0, .ref aR0), (1, .int xh)]) hx hb dX6_ownersOf_28 rfl hl (by decide) rfl (fun ls hl => ?_)
          refine lv_iinc (v := (nI (i_4 + 1))) (lv' := [(3, .int (nI (i_4 + 1))), (2, .int (v2_4 ||| (0 : Int32))), (0, .ref aR0), (1, .int xh)]) hx hb dX6_ownersOf_29 hl (k := 1) rfl (nI_1 i_4) (by decide) rfl (fun ls hl => ?_)
          refine lv_goto (tgt := 4) hx hb dX6_ownersOf_32 (by decide) ?_
          exact ih_4 (i_4 + 1) (v2_4 ||| (0 : Int32)) _ _ _ (by omega) (by omega) hP hD hS (lv_sub hl [0, 1, 2, 3] rfl) (fun w_4 H locs ls he hP hD hS hl => kk w_4 H locs ls (hR.trans he) hP hD hS hl)
        · have c_17 : ¬ (r_14 = 0) := c_17
          have hR := hR.trans (if_neg c_17)
          refine lv_iconst (v := (1 : Int32)) hx hb dX6_ownersOf_20 (by decide) ?_
          refine lv_iload_n hx hb dX6_ownersOf_21 rfl (lv_at hl 0 rfl) ?_
          refine lv_ishl hx hb dX6_ownersOf_22 ?_
          refine lv_goto (tgt := 27) hx hb dX6_ownersOf_23 (by decide) ?_
          refine lv_ior hx hb dX6_ownersOf_27 ?_
          refine lv_istore_n (lv' := [(2, .int (v2_4 ||| ((1 : Int32) <<< ((nI i_4) &&& 31)))), (3, .int (nI i_4)), (0, .ref aR0), (1, .int xh)]) hx hb dX6_ownersOf_28 rfl hl (by decide) rfl (fun ls hl => ?_)
          refine lv_iinc (v := (nI (i_4 + 1))) (lv' := [(3, .int (nI (i_4 + 1))), (2, .int (v2_4 ||| ((1 : Int32) <<< ((nI i_4) &&& 31)))), (0, .ref aR0), (1, .int xh)]) hx hb dX6_ownersOf_29 hl (k := 1) rfl (nI_1 i_4) (by decide) rfl (fun ls hl => ?_)
          refine lv_goto (tgt := 4) hx hb dX6_ownersOf_32 (by decide) ?_
          exact ih_4 (i_4 + 1) (v2_4 ||| ((1 : Int32) <<< ((nI i_4) &&& 31))) _ _ _ (by omega) (by omega) hP hD hS (lv_sub hl [0, 1, 2, 3] rfl) (fun w_4 H locs ls he hP hD hS hl => kk w_4 H locs ls (hR.trans he) hP hD hS hl)
  refine hloop_4 (6 + 1) 0 (0 : Int32) _ _ _ (by omega) (by omega) hP hD hS (lv_sub hl [0, 1, 2, 3] rfl) (fun w_4 H locs ls hw_4 hP hD hS hl => ?_)
  have hP : va_P δ vwCl (wR cI cJ cZ aR0 aR1 aR2 aR3 aR4 aR5 aR6 aR7 aR8 aR9 aR10 aR11 aR12 aR13 aR14 aR15 aR16 aR17 aR18 aR19 aR20 aR21 lv sg pd ac dd hd le bd my lf pa kp) H := hP
  have hD : va_D A (wR cI cJ cZ aR0 aR1 aR2 aR3 aR4 aR5 aR6 aR7 aR8 aR9 aR10 aR11 aR12 aR13 aR14 aR15 aR16 aR17 aR18 aR19 aR20 aR21 lv sg pd ac dd hd le bd my lf pa kp) := hD
  have hR := bnd_eq hR hw_4.symm
  refine lv_iload_n hx hb dX6_ownersOf_35 rfl (lv_at hl 0 rfl) ?_
  exact hret _ _ w_4 () _ _ hR hP hD hS dX6_ownersOf_36

abbrev rm_X6_can : Room := { frames := 4, cells := 0, slots := 0, locals := 91 }
set_option maxHeartbeats 4000000 in
set_option maxRecDepth 100000 in
theorem c_X6_can (l : Launch) (δ : va_G) (cI cJ cZ : ClassId) (aR0 aR1 aR2 aR3 aR4 aR5 aR6 aR7 aR8 aR9 aR10 aR11 aR12 aR13 aR14 aR15 aR16 aR17 aR18 aR19 aR20 aR21 : Nat) (lv : LV) (sg : SG) (pd : PD) (ac : AC) (dd : DD) (hd : HD) (le : LE) (bd : BD) (my : MY) (lf : LF) (pa : PA) (kp : KP) (xh : Int32) (xs : Int32) (xw : Int32) : mMi l δ (mTy cI cJ cZ) yX6_can wsX6_can rm_X6_can [.ref aR0, .int xh, .int xs, .int xw] (wR cI cJ cZ aR0 aR1 aR2 aR3 aR4 aR5 aR6 aR7 aR8 aR9 aR10 aR11 aR12 aR13 aR14 aR15 aR16 aR17 aR18 aR19 aR20 aR21 lv sg pd ac dd hd le bd my lf pa kp) (S := Unit) (fun r _ => F_X6_can lv xh xs xw = r) (fun _ => (wR cI cJ cZ aR0 aR1 aR2 aR3 aR4 aR5 aR6 aR7 aR8 aR9 aR10 aR11 aR12 aR13 aR14 aR15 aR16 aR17 aR18 aR19 aR20 aR21 lv sg pd ac dd hd le bd my lf pa kp)) := by
  refine mk_i (cc := cX6_can) (maxL := 6) (by decide) rfl (Nat.le_of_ble_eq_true rfl) ?_
  intro p e s m args below meth c A Q ls H locs hx hb hml hts hown hK hNW hA hP hD hS hl hret
  have hown : s.vm.findClass RX6 = some m.cls := hown
  have hl : lv_has ls 6 [(0, .ref aR0), (1, .int xh), (2, .int xs), (3, .int xw)] := hl
  have hinX6 : ∀ w ∈ u_ws RX6 TX6 34, w ∈ wsX6_can := (fun _ h => List.mem_cons_of_mem _ (List.mem_append_right _ (h)))
  have hR := F_X6_can.eq_1 lv xh xs xw
  refine lv_iload_n hx hb dX6_can_0 rfl (lv_at hl 2 rfl) ?_
  refine lv_i2l (v := (xs.toInt64)) hx hb dX6_can_1 rfl ?_
  refine lv_lconst (v := (0 : Int64)) hx hb dX6_can_2 (by decide) ?_
  refine lv_ldc2 (v := (63 : Int64)) hx hb hown (hts (.constantLong RX6 224 (63)) (List.mem_of_getElem? (i := 1) rfl)) dX6_can_3 ?_
  have hr := mrS (p := p) (e := e) (R := rm_X6_can) (below := below) (meth := meth) (H := H) (locs := locs) (ls := ls) (As := [.long (xs.toInt64), .long (0 : Int64), .long (63 : Int64)]) (rest := []) (c_X6_in l δ cI cJ cZ (xs.toInt64) (0 : Int64) (63 : Int64)) hx hb hml hts hown hK hNW hP hD [] rfl rfl (va_cwS 3 hts gX6_can_X6_in rfl rfl rfl (by decide +kernel) ⟨(Nat.le_of_ble_eq_true rfl), (Nat.le_of_ble_eq_true rfl)⟩) rfl hl.1 rfl (Nat.le_of_ble_eq_true rfl) dX6_can_6
  refine mc_i (wr := (wR cI cJ cZ aR0 aR1 aR2 aR3 aR4 aR5 aR6 aR7 aR8 aR9 aR10 aR11 aR12 aR13 aR14 aR15 aR16 aR17 aR18 aR19 aR20 aR21 lv sg pd ac dd hd le bd my lf pa kp)) hr hP hD hS hA [] [0, 1, 2, 3, 4, 5, 6, 7, 8, 9, 10, 11, 12, 13, 14, 15, 16, 17, 18, 19, 20, 21] [0, 1, 2, 3, 4, 5, 6, 7, 8, 9, 10, 11, 12, 13, 14, 15, 16, 17, 18, 19, 20, 21] rfl rfl rfl rfl rfl (wn := fun _ => (wR cI cJ cZ aR0 aR1 aR2 aR3 aR4 aR5 aR6 aR7 aR8 aR9 aR10 aR11 aR12 aR13 aR14 aR15 aR16 aR17 aR18 aR19 aR20 aR21 lv sg pd ac dd hd le bd my lf pa kp)) (fun _ => rfl) (fun r_6 _ H locs hw_6 hP hD hS => ?_)
  obtain ⟨hw_6, z_6⟩ := hw_6
  have hP : va_P δ vwCl (wR cI cJ cZ aR0 aR1 aR2 aR3 aR4 aR5 aR6 aR7 aR8 aR9 aR10 aR11 aR12 aR13 aR14 aR15 aR16 aR17 aR18 aR19 aR20 aR21 lv sg pd ac dd hd le bd my lf pa kp) H := hP
  have hD : va_D A (wR cI cJ cZ aR0 aR1 aR2 aR3 aR4 aR5 aR6 aR7 aR8 aR9 aR10 aR11 aR12 aR13 aR14 aR15 aR16 aR17 aR18 aR19 aR20 aR21 lv sg pd ac dd hd le bd my lf pa kp) := hD
  have hR := bnd_eq hR hw_6.symm
  refine lv_if_eq (tgt := 23) hx hb dX6_can_9 (by decide) (fun c_9 => ?_) (fun c_9 => ?_)
  · have c_9 : (r_6 = 0) := c_9
    have hR := hR.trans (if_pos c_9)
    refine lv_iconst (v := (-1 : Int32)) hx hb dX6_can_23 (by decide) ?_
    exact hret _ _ (-1 : Int32) () _ _ hR hP hD hS dX6_can_24
  · have c_9 : ¬ (r_6 = 0) := c_9
    have hR := hR.trans (if_neg c_9)
    refine lv_iload_n hx hb dX6_can_12 rfl (lv_at hl 2 rfl) ?_
    refine lv_aload_n hx hb dX6_can_13 rfl (lv_at hl 0 rfl) ?_
    refine va_get (D := δ) (ci := 6) (v := .int (vCourtiers lv)) (C := RX6) (T := TX6) (N := 34) hx hb hts hinX6 hown hK hP 0 rfl rfl 0 (by decide) (hts (.fieldLink RX6 87 "GloveHoursModel" "courtiers" "I") (List.mem_of_getElem? (i := 2) rfl)) (fun _ h9 => h9) rfl dX6_can_14 ?_
    refine lv_iconst (v := (-1 : Int32)) hx hb dX6_can_17 (by decide) ?_
    refine lv_ixor hx hb dX6_can_18 ?_
    refine lv_iand hx hb dX6_can_19 ?_
    refine lv_if_eq (tgt := 25) hx hb dX6_can_20 (by decide) (fun c_20 => ?_) (fun c_20 => ?_)
    · have c_20 : ((xs &&& ((vCourtiers lv) ^^^ (-1 : Int32))) = 0) := c_20
      have hR := hR.trans (if_pos c_20)
      refine lv_iload_n hx hb dX6_can_25 rfl (lv_at hl 1 rfl) ?_
      have hr := mrS (p := p) (e := e) (R := rm_X6_can) (below := below) (meth := meth) (H := H) (locs := locs) (ls := ls) (As := [.int xh]) (rest := []) (c_X6_isHour l δ cI cJ cZ xh) hx hb hml hts hown hK hNW hP hD [] rfl rfl (va_cwS 1 hts gX6_can_X6_isHour rfl rfl rfl (by decide +kernel) ⟨(Nat.le_of_ble_eq_true rfl), (Nat.le_of_ble_eq_true rfl)⟩) rfl hl.1 rfl (Nat.le_of_ble_eq_true rfl) dX6_can_26
      refine mc_i (wr := (wR cI cJ cZ aR0 aR1 aR2 aR3 aR4 aR5 aR6 aR7 aR8 aR9 aR10 aR11 aR12 aR13 aR14 aR15 aR16 aR17 aR18 aR19 aR20 aR21 lv sg pd ac dd hd le bd my lf pa kp)) hr hP hD hS hA [] [0, 1, 2, 3, 4, 5, 6, 7, 8, 9, 10, 11, 12, 13, 14, 15, 16, 17, 18, 19, 20, 21] [0, 1, 2, 3, 4, 5, 6, 7, 8, 9, 10, 11, 12, 13, 14, 15, 16, 17, 18, 19, 20, 21] rfl rfl rfl rfl rfl (wn := fun _ => (wR cI cJ cZ aR0 aR1 aR2 aR3 aR4 aR5 aR6 aR7 aR8 aR9 aR10 aR11 aR12 aR13 aR14 aR15 aR16 aR17 aR18 aR19 aR20 aR21 lv sg pd ac dd hd le bd my lf pa kp)) (fun _ => rfl) (fun r_26 _ H locs hw_26 hP hD hS => ?_)
      obtain ⟨hw_26, z_26⟩ := hw_26
      have hP : va_P δ vwCl (wR cI cJ cZ aR0 aR1 aR2 aR3 aR4 aR5 aR6 aR7 aR8 aR9 aR10 aR11 aR12 aR13 aR14 aR15 aR16 aR17 aR18 aR19 aR20 aR21 lv sg pd ac dd hd le bd my lf pa kp) H := hP
      have hD : va_D A (wR cI cJ cZ aR0 aR1 aR2 aR3 aR4 aR5 aR6 aR7 aR8 aR9 aR10 aR11 aR12 aR13 aR14 aR15 aR16 aR17 aR18 aR19 aR20 aR21 lv sg pd ac dd hd le bd my lf pa kp) := hD
      have hR := bnd_eq hR hw_26.symm
      refine lv_if_eq (tgt := 42) hx hb dX6_can_29 (by decide) (fun c_29 => ?_) (fun c_29 => ?_)
      · have c_29 : (r_26 = 0) := c_29
        have hR := hR.trans (if_pos c_29)
        refine lv_bipush (v := (-2 : Int32)) hx hb dX6_can_42 (by decide) ?_
        exact hret _ _ (-2 : Int32) () _ _ hR hP hD hS dX6_can_44
      · have c_29 : ¬ (r_26 = 0) := c_29
        have hR := hR.trans (if_neg c_29)
        refine lv_iload_n hx hb dX6_can_32 rfl (lv_at hl 3 rfl) ?_
        refine lv_i2l (v := (xw.toInt64)) hx hb dX6_can_33 rfl ?_
        refine lv_lconst (v := (0 : Int64)) hx hb dX6_can_34 (by decide) ?_
        refine lv_lconst (v := (1 : Int64)) hx hb dX6_can_35 (by decide) ?_
        have hr := mrS (p := p) (e := e) (R := rm_X6_can) (below := below) (meth := meth) (H := H) (locs := locs) (ls := ls) (As := [.long (xw.toInt64), .long (0 : Int64), .long (1 : Int64)]) (rest := []) (c_X6_in l δ cI cJ cZ (xw.toInt64) (0 : Int64) (1 : Int64)) hx hb hml hts hown hK hNW hP hD [] rfl rfl (va_cwS 3 hts gX6_can_X6_in rfl rfl rfl (by decide +kernel) ⟨(Nat.le_of_ble_eq_true rfl), (Nat.le_of_ble_eq_true rfl)⟩) rfl hl.1 rfl (Nat.le_of_ble_eq_true rfl) dX6_can_36
        refine mc_i (wr := (wR cI cJ cZ aR0 aR1 aR2 aR3 aR4 aR5 aR6 aR7 aR8 aR9 aR10 aR11 aR12 aR13 aR14 aR15 aR16 aR17 aR18 aR19 aR20 aR21 lv sg pd ac dd hd le bd my lf pa kp)) hr hP hD hS hA [] [0, 1, 2, 3, 4, 5, 6, 7, 8, 9, 10, 11, 12, 13, 14, 15, 16, 17, 18, 19, 20, 21] [0, 1, 2, 3, 4, 5, 6, 7, 8, 9, 10, 11, 12, 13, 14, 15, 16, 17, 18, 19, 20, 21] rfl rfl rfl rfl rfl (wn := fun _ => (wR cI cJ cZ aR0 aR1 aR2 aR3 aR4 aR5 aR6 aR7 aR8 aR9 aR10 aR11 aR12 aR13 aR14 aR15 aR16 aR17 aR18 aR19 aR20 aR21 lv sg pd ac dd hd le bd my lf pa kp)) (fun _ => rfl) (fun r_36 _ H locs hw_36 hP hD hS => ?_)
        obtain ⟨hw_36, z_36⟩ := hw_36
        have hP : va_P δ vwCl (wR cI cJ cZ aR0 aR1 aR2 aR3 aR4 aR5 aR6 aR7 aR8 aR9 aR10 aR11 aR12 aR13 aR14 aR15 aR16 aR17 aR18 aR19 aR20 aR21 lv sg pd ac dd hd le bd my lf pa kp) H := hP
        have hD : va_D A (wR cI cJ cZ aR0 aR1 aR2 aR3 aR4 aR5 aR6 aR7 aR8 aR9 aR10 aR11 aR12 aR13 aR14 aR15 aR16 aR17 aR18 aR19 aR20 aR21 lv sg pd ac dd hd le bd my lf pa kp) := hD
        have hR := bnd_eq hR hw_36.symm
        refine lv_if_ne (tgt := 45) hx hb dX6_can_39 (by decide) (fun c_39 => ?_) (fun c_39 => ?_)
        · have c_39 : ¬ (r_36 = 0) := c_39
          have hR := hR.trans (if_neg c_39)
          refine lv_aload_n hx hb dX6_can_45 rfl (lv_at hl 0 rfl) ?_
          refine lv_iload_n hx hb dX6_can_46 rfl (lv_at hl 1 rfl) ?_
          have hr := mrV (p := p) (e := e) (R := rm_X6_can) (below := below) (meth := meth) (H := H) (locs := locs) (ls := ls) (As := [.int xh]) (rest := []) (c_X6_ownersOf l δ cI cJ cZ aR0 aR1 aR2 aR3 aR4 aR5 aR6 aR7 aR8 aR9 aR10 aR11 aR12 aR13 aR14 aR15 aR16 aR17 aR18 aR19 aR20 aR21 lv sg pd ac dd hd le bd my lf pa kp xh (isHour_in hw_26 c_29)) hx hb hml hts hown hK hNW hP hD [0, 1, 2, 3, 4, 5, 6, 7, 8, 9, 10, 11, 12, 13, 14, 15, 16, 17, 18, 19, 20, 21] rfl rfl 6 0 rfl rfl (cwV 1 hts gX6_can_X6_ownersOf rfl rfl rfl (by decide +kernel) ⟨(Nat.le_of_ble_eq_true rfl), (Nat.le_of_ble_eq_true rfl)⟩) rfl hl.1 rfl (Nat.le_of_ble_eq_true rfl) dX6_can_47
          refine mc_i (wr := ([] : va_W)) hr hP hD hS hA [0, 1, 2, 3, 4, 5, 6, 7, 8, 9, 10, 11, 12, 13, 14, 15, 16, 17, 18, 19, 20, 21] [] [0, 1, 2, 3, 4, 5, 6, 7, 8, 9, 10, 11, 12, 13, 14, 15, 16, 17, 18, 19, 20, 21] rfl rfl rfl rfl rfl (wn := fun _ => (wR cI cJ cZ aR0 aR1 aR2 aR3 aR4 aR5 aR6 aR7 aR8 aR9 aR10 aR11 aR12 aR13 aR14 aR15 aR16 aR17 aR18 aR19 aR20 aR21 lv sg pd ac dd hd le bd my lf pa kp)) (fun _ => rfl) (fun r_47 _ H locs hw_47 hP hD hS => ?_)
          have hP : va_P δ vwCl (wR cI cJ cZ aR0 aR1 aR2 aR3 aR4 aR5 aR6 aR7 aR8 aR9 aR10 aR11 aR12 aR13 aR14 aR15 aR16 aR17 aR18 aR19 aR20 aR21 lv sg pd ac dd hd le bd my lf pa kp) H := hP
          have hD : va_D A (wR cI cJ cZ aR0 aR1 aR2 aR3 aR4 aR5 aR6 aR7 aR8 aR9 aR10 aR11 aR12 aR13 aR14 aR15 aR16 aR17 aR18 aR19 aR20 aR21 lv sg pd ac dd hd le bd my lf pa kp) := hD
          have hR := bnd_eq hR hw_47.symm
          refine lv_istore (lv' := [(4, .int r_47), (0, .ref aR0), (1, .int xh), (2, .int xs), (3, .int xw)]) hx hb dX6_can_50 hl (by decide) rfl (fun ls hl => ?_)
          refine lv_iload hx hb dX6_can_52 (lv_at hl 0 rfl) ?_
          have hr := mrS (p := p) (e := e) (R := rm_X6_can) (below := below) (meth := meth) (H := H) (locs := locs) (ls := ls) (As := [.int r_47]) (rest := []) (c_X6_ones l δ cI cJ cZ r_47) hx hb hml hts hown hK hNW hP hD [] rfl rfl (va_cwS 1 hts gX6_can_X6_ones rfl rfl rfl (by decide +kernel) ⟨(Nat.le_of_ble_eq_true rfl), (Nat.le_of_ble_eq_true rfl)⟩) rfl hl.1 rfl (Nat.le_of_ble_eq_true rfl) dX6_can_54
          refine mc_i (wr := (wR cI cJ cZ aR0 aR1 aR2 aR3 aR4 aR5 aR6 aR7 aR8 aR9 aR10 aR11 aR12 aR13 aR14 aR15 aR16 aR17 aR18 aR19 aR20 aR21 lv sg pd ac dd hd le bd my lf pa kp)) hr hP hD hS hA [] [0, 1, 2, 3, 4, 5, 6, 7, 8, 9, 10, 11, 12, 13, 14, 15, 16, 17, 18, 19, 20, 21] [0, 1, 2, 3, 4, 5, 6, 7, 8, 9, 10, 11, 12, 13, 14, 15, 16, 17, 18, 19, 20, 21] rfl rfl rfl rfl rfl (wn := fun _ => (wR cI cJ cZ aR0 aR1 aR2 aR3 aR4 aR5 aR6 aR7 aR8 aR9 aR10 aR11 aR12 aR13 aR14 aR15 aR16 aR17 aR18 aR19 aR20 aR21 lv sg pd ac dd hd le bd my lf pa kp)) (fun _ => rfl) (fun r_54 _ H locs hw_54 hP hD hS => ?_)
          have hP : va_P δ vwCl (wR cI cJ cZ aR0 aR1 aR2 aR3 aR4 aR5 aR6 aR7 aR8 aR9 aR10 aR11 aR12 aR13 aR14 aR15 aR16 aR17 aR18 aR19 aR20 aR21 lv sg pd ac dd hd le bd my lf pa kp) H := hP
          have hD : va_D A (wR cI cJ cZ aR0 aR1 aR2 aR3 aR4 aR5 aR6 aR7 aR8 aR9 aR10 aR11 aR12 aR13 aR14 aR15 aR16 aR17 aR18 aR19 aR20 aR21 lv sg pd ac dd hd le bd my lf pa kp) := hD
          have hR := bnd_eq hR hw_54.symm
          refine lv_iload_n hx hb dX6_can_57 rfl (lv_at hl 3 rfl) ?_
          have hr := mrS (p := p) (e := e) (R := rm_X6_can) (below := below) (meth := meth) (H := H) (locs := locs) (ls := ls) (As := [.int xs]) (rest := [.int r_54]) (c_X6_ones l δ cI cJ cZ xs) hx hb hml hts hown hK hNW hP hD [] rfl rfl (va_cwS 1 hts gX6_can_X6_ones rfl rfl rfl (by decide +kernel) ⟨(Nat.le_of_ble_eq_true rfl), (Nat.le_of_ble_eq_true rfl)⟩) rfl hl.1 rfl (Nat.le_of_ble_eq_true rfl) dX6_can_58
          refine mc_i (wr := (wR cI cJ cZ aR0 aR1 aR2 aR3 aR4 aR5 aR6 aR7 aR8 aR9 aR10 aR11 aR12 aR13 aR14 aR15 aR16 aR17 aR18 aR19 aR20 aR21 lv sg pd ac dd hd le bd my lf pa kp)) hr hP hD hS hA [] [0, 1, 2, 3, 4, 5, 6, 7, 8, 9, 10, 11, 12, 13, 14, 15, 16, 17, 18, 19, 20, 21] [0, 1, 2, 3, 4, 5, 6, 7, 8, 9, 10, 11, 12, 13, 14, 15, 16, 17, 18, 19, 20, 21] rfl rfl rfl rfl rfl (wn := fun _ => (wR cI cJ cZ aR0 aR1 aR2 aR3 aR4 aR5 aR6 aR7 aR8 aR9 aR10 aR11 aR12 aR13 aR14 aR15 aR16 aR17 aR18 aR19 aR20 aR21 lv sg pd ac dd hd le bd my lf pa kp)) (fun _ => rfl) (fun r_58 _ H locs hw_58 hP hD hS => ?_)
          have hP : va_P δ vwCl (wR cI cJ cZ aR0 aR1 aR2 aR3 aR4 aR5 aR6 aR7 aR8 aR9 aR10 aR11 aR12 aR13 aR14 aR15 aR16 aR17 aR18 aR19 aR20 aR21 lv sg pd ac dd hd le bd my lf pa kp) H := hP
          have hD : va_D A (wR cI cJ cZ aR0 aR1 aR2 aR3 aR4 aR5 aR6 aR7 aR8 aR9 aR10 aR11 aR12 aR13 aR14 aR15 aR16 aR17 aR18 aR19 aR20 aR21 lv sg pd ac dd hd le bd my lf pa kp) := hD
          have hR := bnd_eq hR hw_58.symm
          refine lv_icmp_ge (tgt := 72) hx hb dX6_can_61 (by decide) (fun c_61 => ?_) (fun c_61 => ?_)
          · have c_61 : (r_58 ≤ r_54) := c_61
            have hR := hR.trans (if_pos c_61)
            refine lv_iload_n hx hb dX6_can_72 rfl (lv_at hl 3 rfl) ?_
            have hr := mrS (p := p) (e := e) (R := rm_X6_can) (below := below) (meth := meth) (H := H) (locs := locs) (ls := ls) (As := [.int xs]) (rest := []) (c_X6_ones l δ cI cJ cZ xs) hx hb hml hts hown hK hNW hP hD [] rfl rfl (va_cwS 1 hts gX6_can_X6_ones rfl rfl rfl (by decide +kernel) ⟨(Nat.le_of_ble_eq_true rfl), (Nat.le_of_ble_eq_true rfl)⟩) rfl hl.1 rfl (Nat.le_of_ble_eq_true rfl) dX6_can_73
            refine mc_i (wr := (wR cI cJ cZ aR0 aR1 aR2 aR3 aR4 aR5 aR6 aR7 aR8 aR9 aR10 aR11 aR12 aR13 aR14 aR15 aR16 aR17 aR18 aR19 aR20 aR21 lv sg pd ac dd hd le bd my lf pa kp)) hr hP hD hS hA [] [0, 1, 2, 3, 4, 5, 6, 7, 8, 9, 10, 11, 12, 13, 14, 15, 16, 17, 18, 19, 20, 21] [0, 1, 2, 3, 4, 5, 6, 7, 8, 9, 10, 11, 12, 13, 14, 15, 16, 17, 18, 19, 20, 21] rfl rfl rfl rfl rfl (wn := fun _ => (wR cI cJ cZ aR0 aR1 aR2 aR3 aR4 aR5 aR6 aR7 aR8 aR9 aR10 aR11 aR12 aR13 aR14 aR15 aR16 aR17 aR18 aR19 aR20 aR21 lv sg pd ac dd hd le bd my lf pa kp)) (fun _ => rfl) (fun r_73 _ H locs hw_73 hP hD hS => ?_)
            have hP : va_P δ vwCl (wR cI cJ cZ aR0 aR1 aR2 aR3 aR4 aR5 aR6 aR7 aR8 aR9 aR10 aR11 aR12 aR13 aR14 aR15 aR16 aR17 aR18 aR19 aR20 aR21 lv sg pd ac dd hd le bd my lf pa kp) H := hP
            have hD : va_D A (wR cI cJ cZ aR0 aR1 aR2 aR3 aR4 aR5 aR6 aR7 aR8 aR9 aR10 aR11 aR12 aR13 aR14 aR15 aR16 aR17 aR18 aR19 aR20 aR21 lv sg pd ac dd hd le bd my lf pa kp) := hD
            have hR := bnd_eq hR hw_73.symm
            refine lv_istore (lv' := [(5, .int r_73), (4, .int r_47), (0, .ref aR0), (1, .int xh), (2, .int xs), (3, .int xw)]) hx hb dX6_can_76 hl (by decide) rfl (fun ls hl => ?_)
            refine lv_iload_n hx hb dX6_can_78 rfl (lv_at hl 5 rfl) ?_
            refine lv_if_ne (tgt := 87) hx hb dX6_can_79 (by decide) (fun c_79 => ?_) (fun c_79 => ?_)
            · have c_79 : ¬ (xw = 0) := c_79
              have hR := hR.trans (if_neg c_79)
              refine lv_iload hx hb dX6_can_87 (lv_at hl 0 rfl) ?_
              refine lv_iload hx hb dX6_can_89 (lv_at hl 1 rfl) ?_
              refine lv_iload_n hx hb dX6_can_91 rfl (lv_at hl 4 rfl) ?_
              refine lv_iand hx hb dX6_can_92 ?_
              have hr := mrS (p := p) (e := e) (R := rm_X6_can) (below := below) (meth := meth) (H := H) (locs := locs) (ls := ls) (As := [.int (r_47 &&& xs)]) (rest := [.int r_73]) (c_X6_ones l δ cI cJ cZ (r_47 &&& xs)) hx hb hml hts hown hK hNW hP hD [] rfl rfl (va_cwS 1 hts gX6_can_X6_ones rfl rfl rfl (by decide +kernel) ⟨(Nat.le_of_ble_eq_true rfl), (Nat.le_of_ble_eq_true rfl)⟩) rfl hl.1 rfl (Nat.le_of_ble_eq_true rfl) dX6_can_93
              refine mc_i (wr := (wR cI cJ cZ aR0 aR1 aR2 aR3 aR4 aR5 aR6 aR7 aR8 aR9 aR10 aR11 aR12 aR13 aR14 aR15 aR16 aR17 aR18 aR19 aR20 aR21 lv sg pd ac dd hd le bd my lf pa kp)) hr hP hD hS hA [] [0, 1, 2, 3, 4, 5, 6, 7, 8, 9, 10, 11, 12, 13, 14, 15, 16, 17, 18, 19, 20, 21] [0, 1, 2, 3, 4, 5, 6, 7, 8, 9, 10, 11, 12, 13, 14, 15, 16, 17, 18, 19, 20, 21] rfl rfl rfl rfl rfl (wn := fun _ => (wR cI cJ cZ aR0 aR1 aR2 aR3 aR4 aR5 aR6 aR7 aR8 aR9 aR10 aR11 aR12 aR13 aR14 aR15 aR16 aR17 aR18 aR19 aR20 aR21 lv sg pd ac dd hd le bd my lf pa kp)) (fun _ => rfl) (fun r_93 _ H locs hw_93 hP hD hS => ?_)
              have hP : va_P δ vwCl (wR cI cJ cZ aR0 aR1 aR2 aR3 aR4 aR5 aR6 aR7 aR8 aR9 aR10 aR11 aR12 aR13 aR14 aR15 aR16 aR17 aR18 aR19 aR20 aR21 lv sg pd ac dd hd le bd my lf pa kp) H := hP
              have hD : va_D A (wR cI cJ cZ aR0 aR1 aR2 aR3 aR4 aR5 aR6 aR7 aR8 aR9 aR10 aR11 aR12 aR13 aR14 aR15 aR16 aR17 aR18 aR19 aR20 aR21 lv sg pd ac dd hd le bd my lf pa kp) := hD
              have hR := bnd_eq hR hw_93.symm
              refine lv_isub hx hb dX6_can_96 ?_
              exact hret _ _ (r_73 - r_93) () _ _ hR hP hD hS dX6_can_97
            · have c_79 : (xw = 0) := c_79
              have hR := hR.trans (if_pos c_79)
              refine lv_iload hx hb dX6_can_82 (lv_at hl 0 rfl) ?_
              refine lv_goto (tgt := 97) hx hb dX6_can_84 (by decide) ?_
              exact hret _ _ r_73 () _ _ hR hP hD hS dX6_can_97
          · have c_61 : ¬ (r_58 ≤ r_54) := c_61
            have hR := hR.trans (if_neg c_61)
            refine lv_iload hx hb dX6_can_64 (lv_at hl 0 rfl) ?_
            have hr := mrS (p := p) (e := e) (R := rm_X6_can) (below := below) (meth := meth) (H := H) (locs := locs) (ls := ls) (As := [.int r_47]) (rest := []) (c_X6_ones l δ cI cJ cZ r_47) hx hb hml hts hown hK hNW hP hD [] rfl rfl (va_cwS 1 hts gX6_can_X6_ones rfl rfl rfl (by decide +kernel) ⟨(Nat.le_of_ble_eq_true rfl), (Nat.le_of_ble_eq_true rfl)⟩) rfl hl.1 rfl (Nat.le_of_ble_eq_true rfl) dX6_can_66
            refine mc_i (wr := (wR cI cJ cZ aR0 aR1 aR2 aR3 aR4 aR5 aR6 aR7 aR8 aR9 aR10 aR11 aR12 aR13 aR14 aR15 aR16 aR17 aR18 aR19 aR20 aR21 lv sg pd ac dd hd le bd my lf pa kp)) hr hP hD hS hA [] [0, 1, 2, 3, 4, 5, 6, 7, 8, 9, 10, 11, 12, 13, 14, 15, 16, 17, 18, 19, 20, 21] [0, 1, 2, 3, 4, 5, 6, 7, 8, 9, 10, 11, 12, 13, 14, 15, 16, 17, 18, 19, 20, 21] rfl rfl rfl rfl rfl (wn := fun _ => (wR cI cJ cZ aR0 aR1 aR2 aR3 aR4 aR5 aR6 aR7 aR8 aR9 aR10 aR11 aR12 aR13 aR14 aR15 aR16 aR17 aR18 aR19 aR20 aR21 lv sg pd ac dd hd le bd my lf pa kp)) (fun _ => rfl) (fun r_66 _ H locs hw_66 hP hD hS => ?_)
            have hP : va_P δ vwCl (wR cI cJ cZ aR0 aR1 aR2 aR3 aR4 aR5 aR6 aR7 aR8 aR9 aR10 aR11 aR12 aR13 aR14 aR15 aR16 aR17 aR18 aR19 aR20 aR21 lv sg pd ac dd hd le bd my lf pa kp) H := hP
            have hD : va_D A (wR cI cJ cZ aR0 aR1 aR2 aR3 aR4 aR5 aR6 aR7 aR8 aR9 aR10 aR11 aR12 aR13 aR14 aR15 aR16 aR17 aR18 aR19 aR20 aR21 lv sg pd ac dd hd le bd my lf pa kp) := hD
            have hR := bnd_eq hR hw_66.symm
            refine lv_goto (tgt := 76) hx hb dX6_can_69 (by decide) ?_
            refine lv_istore (lv' := [(5, .int r_66), (4, .int r_47), (0, .ref aR0), (1, .int xh), (2, .int xs), (3, .int xw)]) hx hb dX6_can_76 hl (by decide) rfl (fun ls hl => ?_)
            refine lv_iload_n hx hb dX6_can_78 rfl (lv_at hl 5 rfl) ?_
            refine lv_if_ne (tgt := 87) hx hb dX6_can_79 (by decide) (fun c_79 => ?_) (fun c_79 => ?_)
            · have c_79 : ¬ (xw = 0) := c_79
              have hR := hR.trans (if_neg c_79)
              refine lv_iload hx hb dX6_can_87 (lv_at hl 0 rfl) ?_
              refine lv_iload hx hb dX6_can_89 (lv_at hl 1 rfl) ?_
              refine lv_iload_n hx hb dX6_can_91 rfl (lv_at hl 4 rfl) ?_
              refine lv_iand hx hb dX6_can_92 ?_
              have hr := mrS (p := p) (e := e) (R := rm_X6_can) (below := below) (meth := meth) (H := H) (locs := locs) (ls := ls) (As := [.int (r_47 &&& xs)]) (rest := [.int r_66]) (c_X6_ones l δ cI cJ cZ (r_47 &&& xs)) hx hb hml hts hown hK hNW hP hD [] rfl rfl (va_cwS 1 hts gX6_can_X6_ones rfl rfl rfl (by decide +kernel) ⟨(Nat.le_of_ble_eq_true rfl), (Nat.le_of_ble_eq_true rfl)⟩) rfl hl.1 rfl (Nat.le_of_ble_eq_true rfl) dX6_can_93
              refine mc_i (wr := (wR cI cJ cZ aR0 aR1 aR2 aR3 aR4 aR5 aR6 aR7 aR8 aR9 aR10 aR11 aR12 aR13 aR14 aR15 aR16 aR17 aR18 aR19 aR20 aR21 lv sg pd ac dd hd le bd my lf pa kp)) hr hP hD hS hA [] [0, 1, 2, 3, 4, 5, 6, 7, 8, 9, 10, 11, 12, 13, 14, 15, 16, 17, 18, 19, 20, 21] [0, 1, 2, 3, 4, 5, 6, 7, 8, 9, 10, 11, 12, 13, 14, 15, 16, 17, 18, 19, 20, 21] rfl rfl rfl rfl rfl (wn := fun _ => (wR cI cJ cZ aR0 aR1 aR2 aR3 aR4 aR5 aR6 aR7 aR8 aR9 aR10 aR11 aR12 aR13 aR14 aR15 aR16 aR17 aR18 aR19 aR20 aR21 lv sg pd ac dd hd le bd my lf pa kp)) (fun _ => rfl) (fun r_93 _ H locs hw_93 hP hD hS => ?_)
              have hP : va_P δ vwCl (wR cI cJ cZ aR0 aR1 aR2 aR3 aR4 aR5 aR6 aR7 aR8 aR9 aR10 aR11 aR12 aR13 aR14 aR15 aR16 aR17 aR18 aR19 aR20 aR21 lv sg pd ac dd hd le bd my lf pa kp) H := hP
              have hD : va_D A (wR cI cJ cZ aR0 aR1 aR2 aR3 aR4 aR5 aR6 aR7 aR8 aR9 aR10 aR11 aR12 aR13 aR14 aR15 aR16 aR17 aR18 aR19 aR20 aR21 lv sg pd ac dd hd le bd my lf pa kp) := hD
              have hR := bnd_eq hR hw_93.symm
              refine lv_isub hx hb dX6_can_96 ?_
              exact hret _ _ (r_66 - r_93) () _ _ hR hP hD hS dX6_can_97
            · have c_79 : (xw = 0) := c_79
              have hR := hR.trans (if_pos c_79)
              refine lv_iload hx hb dX6_can_82 (lv_at hl 0 rfl) ?_
              refine lv_goto (tgt := 97) hx hb dX6_can_84 (by decide) ?_
              exact hret _ _ r_66 () _ _ hR hP hD hS dX6_can_97
        · have c_39 : (r_36 = 0) := c_39
          have hR := hR.trans (if_pos c_39)
          refine lv_bipush (v := (-2 : Int32)) hx hb dX6_can_42 (by decide) ?_
          exact hret _ _ (-2 : Int32) () _ _ hR hP hD hS dX6_can_44
    · have c_20 : ¬ ((xs &&& ((vCourtiers lv) ^^^ (-1 : Int32))) = 0) := c_20
      have hR := hR.trans (if_neg c_20)
      refine lv_iconst (v := (-1 : Int32)) hx hb dX6_can_23 (by decide) ?_
      exact hret _ _ (-1 : Int32) () _ _ hR hP hD hS dX6_can_24

abbrev rm_X6_mostDeeds : Room := { frames := 4, cells := 0, slots := 0, locals := 91 }
set_option maxHeartbeats 4000000 in
set_option maxRecDepth 100000 in
theorem c_X6_mostDeeds (l : Launch) (δ : va_G) (cI cJ cZ : ClassId) (aR0 aR1 aR2 aR3 aR4 aR5 aR6 aR7 aR8 aR9 aR10 aR11 aR12 aR13 aR14 aR15 aR16 aR17 aR18 aR19 aR20 aR21 : Nat) (lv : LV) (sg : SG) (pd : PD) (ac : AC) (dd : DD) (hd : HD) (le : LE) (bd : BD) (my : MY) (lf : LF) (pa : PA) (kp : KP) (xs : Int32) : mMi l δ (mTy cI cJ cZ) yX6_mostDeeds wsX6_mostDeeds rm_X6_mostDeeds [.ref aR0, .int xs] (wR cI cJ cZ aR0 aR1 aR2 aR3 aR4 aR5 aR6 aR7 aR8 aR9 aR10 aR11 aR12 aR13 aR14 aR15 aR16 aR17 aR18 aR19 aR20 aR21 lv sg pd ac dd hd le bd my lf pa kp) (S := Unit) (fun r _ => F_X6_mostDeeds lv my xs = r) (fun _ => (wR cI cJ cZ aR0 aR1 aR2 aR3 aR4 aR5 aR6 aR7 aR8 aR9 aR10 aR11 aR12 aR13 aR14 aR15 aR16 aR17 aR18 aR19 aR20 aR21 lv sg pd ac dd hd le bd my lf pa kp)) := by
  refine mk_i (cc := cX6_mostDeeds) (maxL := 7) (by decide) rfl (Nat.le_of_ble_eq_true rfl) ?_
  intro p e s m args below meth c A Q ls H locs hx hb hml hts hown hK hNW hA hP hD hS hl hret
  have hown : s.vm.findClass RX6 = some m.cls := hown
  have hl : lv_has ls 7 [(0, .ref aR0), (1, .int xs)] := hl
  have hinX6 : ∀ w ∈ u_ws RX6 TX6 34, w ∈ wsX6_mostDeeds := (fun _ h => List.mem_cons_of_mem _ (List.mem_append_right _ (h)))
  have hR := F_X6_mostDeeds.eq_1 lv my xs
  refine lv_bipush (v := (24 : Int32)) hx hb dX6_mostDeeds_0 (by decide) ?_
  refine lv_istore_n (lv' := [(2, .int (24 : Int32)), (0, .ref aR0), (1, .int xs)]) hx hb dX6_mostDeeds_2 rfl hl (by decide) rfl (fun ls hl => ?_)
  refine lv_iconst (v := (0 : Int32)) hx hb dX6_mostDeeds_3 (by decide) ?_
  refine lv_istore_n (lv' := [(3, .int (0 : Int32)), (2, .int (24 : Int32)), (0, .ref aR0), (1, .int xs)]) hx hb dX6_mostDeeds_4 rfl hl (by decide) rfl (fun ls hl => ?_)
  have hloop_5 : ∀ (n_5 : Nat) (i_5 : Nat) (v2_5 : Int32) (H : Heap) (locs : List Loc) (ls : Array Slot), (hi_5 : i_5 ≤ 64) → (hn_5 : 64 < i_5 + n_5) → (hP : va_P δ vwCl (wR cI cJ cZ aR0 aR1 aR2 aR3 aR4 aR5 aR6 aR7 aR8 aR9 aR10 aR11 aR12 aR13 aR14 aR15 aR16 aR17 aR18 aR19 aR20 aR21 lv sg pd ac dd hd le bd my lf pa kp) H) → (hD : va_D A (wR cI cJ cZ aR0 aR1 aR2 aR3 aR4 aR5 aR6 aR7 aR8 aR9 aR10 aR11 aR12 aR13 aR14 aR15 aR16 aR17 aR18 aR19 aR20 aR21 lv sg pd ac dd hd le bd my lf pa kp)) → (hS : va_S A s.heap H locs) → (hl : lv_has ls 7 [(3, .int (nI i_5)), (2, .int v2_5), (0, .ref aR0), (1, .int xs)]) → (kk : ∀ (w_5 : Int32) (H : Heap) (locs : List Loc) (ls : Array Slot), L_X6_mostDeeds_5 lv my xs n_5 i_5 v2_5 = w_5 → va_P δ vwCl (wR cI cJ cZ aR0 aR1 aR2 aR3 aR4 aR5 aR6 aR7 aR8 aR9 aR10 aR11 aR12 aR13 aR14 aR15 aR16 aR17 aR18 aR19 aR20 aR21 lv sg pd ac dd hd le bd my lf pa kp) H → va_D A (wR cI cJ cZ aR0 aR1 aR2 aR3 aR4 aR5 aR6 aR7 aR8 aR9 aR10 aR11 aR12 aR13 aR14 aR15 aR16 aR17 aR18 aR19 aR20 aR21 lv sg pd ac dd hd le bd my lf pa kp) → va_S A s.heap H locs → lv_has ls 7 [(2, .int w_5), (0, .ref aR0), (1, .int xs)] → W p l e rm_X6_mostDeeds s m args below meth c H locs 0 0 Q (F0 m 136 ls [])) → W p l e rm_X6_mostDeeds s m args below meth c H locs 0 0 Q (F0 m 5 ls []) := by
    intro n_5
    induction n_5 with
    | zero => intro i_5 v2_5 H locs ls hi_5 hn_5 hP hD hS hl kk; exact absurd hn_5 (by omega)
    | succ n_5 ih_5 =>
      intro i_5 v2_5 H locs ls hi_5 hn_5 hP hD hS hl kk
      have hR := L_X6_mostDeeds_5_s lv my xs n_5 i_5 v2_5
      refine lv_iload_n hx hb dX6_mostDeeds_5 rfl (lv_at hl 0 rfl) ?_
      refine lv_bipush (v := (64 : Int32)) hx hb dX6_mostDeeds_6 (by decide) ?_
      refine lv_icmp_ge (tgt := 136) hx hb dX6_mostDeeds_8 (by decide) (fun c_8 => ?_) (fun c_8 => ?_)
      · have c_8 : ((64 : Int32) ≤ (nI i_5)) := c_8
        have hR := hR.trans (if_pos c_8)
        exact kk v2_5 H locs ls hR hP hD hS (lv_sub hl [1, 2, 3] rfl)
      · have c_8 : ¬ ((64 : Int32) ≤ (nI i_5)) := c_8
        have hR := hR.trans (if_neg c_8)
        have hlt_5 : i_5 < 64 := lt_g c_8 hi_5 (by decide)
        refine lv_iconst (v := (0 : Int32)) hx hb dX6_mostDeeds_11 (by decide) ?_
        refine lv_istore (lv' := [(4, .int (0 : Int32)), (3, .int (nI i_5)), (2, .int v2_5), (0, .ref aR0), (1, .int xs)]) hx hb dX6_mostDeeds_12 hl (by decide) rfl (fun ls hl => ?_)
        refine lv_iconst (v := (0 : Int32)) hx hb dX6_mostDeeds_14 (by decide) ?_
        refine lv_istore (lv' := [(5, .int (0 : Int32)), (4, .int (0 : Int32)), (3, .int (nI i_5)), (2, .int v2_5), (0, .ref aR0), (1, .int xs)]) hx hb dX6_mostDeeds_15 hl (by decide) rfl (fun ls hl => ?_)
        have hloop_17 : ∀ (n_17 : Nat) (i_17 : Nat) (v4_17 : Int32) (H : Heap) (locs : List Loc) (ls : Array Slot), (hi_17 : i_17 ≤ 6) → (hn_17 : 6 < i_17 + n_17) → (hP : va_P δ vwCl (wR cI cJ cZ aR0 aR1 aR2 aR3 aR4 aR5 aR6 aR7 aR8 aR9 aR10 aR11 aR12 aR13 aR14 aR15 aR16 aR17 aR18 aR19 aR20 aR21 lv sg pd ac dd hd le bd my lf pa kp) H) → (hD : va_D A (wR cI cJ cZ aR0 aR1 aR2 aR3 aR4 aR5 aR6 aR7 aR8 aR9 aR10 aR11 aR12 aR13 aR14 aR15 aR16 aR17 aR18 aR19 aR20 aR21 lv sg pd ac dd hd le bd my lf pa kp)) → (hS : va_S A s.heap H locs) → (hl : lv_has ls 7 [(5, .int (nI i_17)), (4, .int v4_17), (3, .int (nI i_5)), (2, .int v2_5), (0, .ref aR0), (1, .int xs)]) → (kk : ∀ (w_17 : Int32) (H : Heap) (locs : List Loc) (ls : Array Slot), L_X6_mostDeeds_17 my i_5 n_17 i_17 v4_17 = w_17 → va_P δ vwCl (wR cI cJ cZ aR0 aR1 aR2 aR3 aR4 aR5 aR6 aR7 aR8 aR9 aR10 aR11 aR12 aR13 aR14 aR15 aR16 aR17 aR18 aR19 aR20 aR21 lv sg pd ac dd hd le bd my lf pa kp) H → va_D A (wR cI cJ cZ aR0 aR1 aR2 aR3 aR4 aR5 aR6 aR7 aR8 aR9 aR10 aR11 aR12 aR13 aR14 aR15 aR16 aR17 aR18 aR19 aR20 aR21 lv sg pd ac dd hd le bd my lf pa kp) → va_S A s.heap H locs → lv_has ls 7 [(4, .int w_17), (3, .int (nI i_5)), (2, .int v2_5), (0, .ref aR0), (1, .int xs)] → W p l e rm_X6_mostDeeds s m args below meth c H locs 0 0 Q (F0 m 56 ls [])) → W p l e rm_X6_mostDeeds s m args below meth c H locs 0 0 Q (F0 m 17 ls []) := by
          intro n_17
          induction n_17 with
          | zero => intro i_17 v4_17 H locs ls hi_17 hn_17 hP hD hS hl kk; exact absurd hn_17 (by omega)
          | succ n_17 ih_17 =>
            intro i_17 v4_17 H locs ls hi_17 hn_17 hP hD hS hl kk
            have hR := L_X6_mostDeeds_17_s my i_5 n_17 i_17 v4_17
            refine lv_iload hx hb dX6_mostDeeds_17 (lv_at hl 0 rfl) ?_
            refine lv_bipush (v := (6 : Int32)) hx hb dX6_mostDeeds_19 (by decide) ?_
            refine lv_icmp_ge (tgt := 56) hx hb dX6_mostDeeds_21 (by decide) (fun c_21 => ?_) (fun c_21 => ?_)
            · have c_21 : ((6 : Int32) ≤ (nI i_17)) := c_21
              have hR := hR.trans (if_pos c_21)
              exact kk v4_17 H locs ls hR hP hD hS (lv_sub hl [1, 2, 3, 4, 5] rfl)
            · have c_21 : ¬ ((6 : Int32) ≤ (nI i_17)) := c_21
              have hR := hR.trans (if_neg c_21)
              have hlt_17 : i_17 < 6 := lt_g c_21 hi_17 (by decide)
              refine lv_iload hx hb dX6_mostDeeds_24 (lv_at hl 1 rfl) ?_
              refine lv_iload_n hx hb dX6_mostDeeds_26 rfl (lv_at hl 2 rfl) ?_
              refine lv_iload hx hb dX6_mostDeeds_27 (lv_at hl 0 rfl) ?_
              refine lv_ishr hx hb dX6_mostDeeds_29 ?_
              refine lv_iconst (v := (1 : Int32)) hx hb dX6_mostDeeds_30 (by decide) ?_
              refine lv_iand hx hb dX6_mostDeeds_31 ?_
              refine lv_iconst (v := (1 : Int32)) hx hb dX6_mostDeeds_32 (by decide) ?_
              refine lv_icmp_ne (tgt := 46) hx hb dX6_mostDeeds_33 (by decide) (fun c_33 => ?_) (fun c_33 => ?_)
              · have c_33 : ¬ ((((nI i_5) >>> ((nI i_17) &&& 31)) &&& (1 : Int32)) = (1 : Int32)) := c_33
                have hR := hR.trans (if_neg c_33)
                refine lv_iconst (v := (0 : Int32)) hx hb dX6_mostDeeds_46 (by decide) ?_
                refine lv_iadd hx hb dX6_mostDeeds_47 ?_
                refine lv_istore (lv' := [(4, .int (v4_17 + (0 : Int32))), (5, .int (nI i_17)), (3, .int (nI i_5)), (2, .int v2_5), (0, .ref aR0), (1, .int xs)]) hx hb dX6_mostDeeds_48 hl (by decide) rfl (fun ls hl => ?_)
                refine lv_iinc (v := (nI (i_17 + 1))) (lv' := [(5, .int (nI (i_17 + 1))), (4, .int (v4_17 + (0 : Int32))), (3, .int (nI i_5)), (2, .int v2_5), (0, .ref aR0), (1, .int xs)]) hx hb dX6_mostDeeds_50 hl (k := 1) rfl (nI_1 i_17) (by decide) rfl (fun ls hl => ?_)
                refine lv_goto (tgt := 17) hx hb dX6_mostDeeds_53 (by decide) ?_
                exact ih_17 (i_17 + 1) (v4_17 + (0 : Int32)) _ _ _ (by omega) (by omega) hP hD hS (lv_sub hl [0, 1, 2, 3, 4, 5] rfl) (fun w_17 H locs ls he hP hD hS hl => kk w_17 H locs ls (hR.trans he) hP hD hS hl)
              · have c_33 : ((((nI i_5) >>> ((nI i_17) &&& 31)) &&& (1 : Int32)) = (1 : Int32)) := c_33
                have hR := hR.trans (if_pos c_33)
                refine lv_aload_n hx hb dX6_mostDeeds_36 rfl (lv_at hl 4 rfl) ?_
                refine va_get (D := δ) (ci := 6) (v := .ref aR17) (C := RX6) (T := TX6) (N := 34) hx hb hts hinX6 hown hK hP 0 rfl rfl 27 (by decide) (hts (.fieldLink RX6 58 "GloveHoursModel" "may" "[I") (List.mem_of_getElem? (i := 1) rfl)) (fun _ h9 => h9) rfl dX6_mostDeeds_37 ?_
                refine lv_iload hx hb dX6_mostDeeds_40 (lv_at hl 0 rfl) ?_
                refine va_iald hx hb hK hP 17 0 rfl rfl (vp_in_nI (by omega) (by decide)) dX6_mostDeeds_42 ?_
                refine lv_goto (tgt := 47) hx hb dX6_mostDeeds_43 (by decide) ?_
                refine lv_iadd hx hb dX6_mostDeeds_47 ?_
                refine lv_istore (lv' := [(4, .int (v4_17 + ((yMay my) (nI i_17).toNatClampNeg))), (5, .int (nI i_17)), (3, .int (nI i_5)), (2, .int v2_5), (0, .ref aR0), (1, .int xs)]) hx hb dX6_mostDeeds_48 hl (by decide) rfl (fun ls hl => ?_)
                refine lv_iinc (v := (nI (i_17 + 1))) (lv' := [(5, .int (nI (i_17 + 1))), (4, .int (v4_17 + ((yMay my) (nI i_17).toNatClampNeg))), (3, .int (nI i_5)), (2, .int v2_5), (0, .ref aR0), (1, .int xs)]) hx hb dX6_mostDeeds_50 hl (k := 1) rfl (nI_1 i_17) (by decide) rfl (fun ls hl => ?_)
                refine lv_goto (tgt := 17) hx hb dX6_mostDeeds_53 (by decide) ?_
                exact ih_17 (i_17 + 1) (v4_17 + ((yMay my) (nI i_17).toNatClampNeg)) _ _ _ (by omega) (by omega) hP hD hS (lv_sub hl [0, 1, 2, 3, 4, 5] rfl) (fun w_17 H locs ls he hP hD hS hl => kk w_17 H locs ls (hR.trans he) hP hD hS hl)
        refine hloop_17 (6 + 1) 0 (0 : Int32) _ _ _ (by omega) (by omega) hP hD hS (lv_sub hl [0, 1, 2, 3, 4, 5] rfl) (fun w_17 H locs ls hw_17 hP hD hS hl => ?_)
        have hP : va_P δ vwCl (wR cI cJ cZ aR0 aR1 aR2 aR3 aR4 aR5 aR6 aR7 aR8 aR9 aR10 aR11 aR12 aR13 aR14 aR15 aR16 aR17 aR18 aR19 aR20 aR21 lv sg pd ac dd hd le bd my lf pa kp) H := hP
        have hD : va_D A (wR cI cJ cZ aR0 aR1 aR2 aR3 aR4 aR5 aR6 aR7 aR8 aR9 aR10 aR11 aR12 aR13 aR14 aR15 aR16 aR17 aR18 aR19 aR20 aR21 lv sg pd ac dd hd le bd my lf pa kp) := hD
        have hR := bnd_eq hR hw_17.symm
        refine lv_iconst (v := (0 : Int32)) hx hb dX6_mostDeeds_56 (by decide) ?_
        refine lv_istore (lv' := [(5, .int (0 : Int32)), (4, .int w_17), (3, .int (nI i_5)), (2, .int v2_5), (0, .ref aR0), (1, .int xs)]) hx hb dX6_mostDeeds_57 hl (by decide) rfl (fun ls hl => ?_)
        have hloop_59 : ∀ (n_59 : Nat) (i_59 : Nat) (v4_59 : Int32) (H : Heap) (locs : List Loc) (ls : Array Slot), (hi_59 : i_59 ≤ 24) → (hn_59 : 24 < i_59 + n_59) → (hP : va_P δ vwCl (wR cI cJ cZ aR0 aR1 aR2 aR3 aR4 aR5 aR6 aR7 aR8 aR9 aR10 aR11 aR12 aR13 aR14 aR15 aR16 aR17 aR18 aR19 aR20 aR21 lv sg pd ac dd hd le bd my lf pa kp) H) → (hD : va_D A (wR cI cJ cZ aR0 aR1 aR2 aR3 aR4 aR5 aR6 aR7 aR8 aR9 aR10 aR11 aR12 aR13 aR14 aR15 aR16 aR17 aR18 aR19 aR20 aR21 lv sg pd ac dd hd le bd my lf pa kp)) → (hS : va_S A s.heap H locs) → (hl : lv_has ls 7 [(5, .int (nI i_59)), (4, .int v4_59), (3, .int (nI i_5)), (2, .int v2_5), (0, .ref aR0), (1, .int xs)]) → (kk : ∀ (w_59 : Int32) (H : Heap) (locs : List Loc) (ls : Array Slot), L_X6_mostDeeds_59 lv xs i_5 n_59 i_59 v4_59 = w_59 → va_P δ vwCl (wR cI cJ cZ aR0 aR1 aR2 aR3 aR4 aR5 aR6 aR7 aR8 aR9 aR10 aR11 aR12 aR13 aR14 aR15 aR16 aR17 aR18 aR19 aR20 aR21 lv sg pd ac dd hd le bd my lf pa kp) H → va_D A (wR cI cJ cZ aR0 aR1 aR2 aR3 aR4 aR5 aR6 aR7 aR8 aR9 aR10 aR11 aR12 aR13 aR14 aR15 aR16 aR17 aR18 aR19 aR20 aR21 lv sg pd ac dd hd le bd my lf pa kp) → va_S A s.heap H locs → lv_has ls 7 [(4, .int w_59), (3, .int (nI i_5)), (2, .int v2_5), (0, .ref aR0), (1, .int xs)] → W p l e rm_X6_mostDeeds s m args below meth c H locs 0 0 Q (F0 m 117 ls [])) → W p l e rm_X6_mostDeeds s m args below meth c H locs 0 0 Q (F0 m 59 ls []) := by
          intro n_59
          induction n_59 with
          | zero => intro i_59 v4_59 H locs ls hi_59 hn_59 hP hD hS hl kk; exact absurd hn_59 (by omega)
          | succ n_59 ih_59 =>
            intro i_59 v4_59 H locs ls hi_59 hn_59 hP hD hS hl kk
            have hR := L_X6_mostDeeds_59_s lv xs i_5 n_59 i_59 v4_59
            refine lv_iload hx hb dX6_mostDeeds_59 (lv_at hl 0 rfl) ?_
            refine lv_bipush (v := (24 : Int32)) hx hb dX6_mostDeeds_61 (by decide) ?_
            refine lv_icmp_ge (tgt := 117) hx hb dX6_mostDeeds_63 (by decide) (fun c_63 => ?_) (fun c_63 => ?_)
            · have c_63 : ((24 : Int32) ≤ (nI i_59)) := c_63
              have hR := hR.trans (if_pos c_63)
              exact kk v4_59 H locs ls hR hP hD hS (lv_sub hl [1, 2, 3, 4, 5] rfl)
            · have c_63 : ¬ ((24 : Int32) ≤ (nI i_59)) := c_63
              have hR := hR.trans (if_neg c_63)
              have hlt_59 : i_59 < 24 := lt_g c_63 hi_59 (by decide)
              refine lv_iload_n hx hb dX6_mostDeeds_66 rfl (lv_at hl 5 rfl) ?_
              refine lv_iload hx hb dX6_mostDeeds_67 (lv_at hl 0 rfl) ?_
              refine lv_ishr hx hb dX6_mostDeeds_69 ?_
              refine lv_iconst (v := (1 : Int32)) hx hb dX6_mostDeeds_70 (by decide) ?_
              refine lv_iand hx hb dX6_mostDeeds_71 ?_
              refine lv_iconst (v := (1 : Int32)) hx hb dX6_mostDeeds_72 (by decide) ?_
              refine lv_icmp_ne (tgt := 93) hx hb dX6_mostDeeds_73 (by decide) (fun c_73 => ?_) (fun c_73 => ?_)
              · have c_73 : ¬ (((xs >>> ((nI i_59) &&& 31)) &&& (1 : Int32)) = (1 : Int32)) := c_73
                have hR := hR.trans (if_neg c_73)
                refine lv_iconst (v := (0 : Int32)) hx hb dX6_mostDeeds_93 (by decide) ?_
                refine lv_istore (lv' := [(6, .int (0 : Int32)), (5, .int (nI i_59)), (4, .int v4_59), (3, .int (nI i_5)), (2, .int v2_5), (0, .ref aR0), (1, .int xs)]) hx hb dX6_mostDeeds_94 hl (by decide) rfl (fun ls hl => ?_)
                refine lv_iload hx hb dX6_mostDeeds_96 (lv_at hl 2 rfl) ?_
                refine lv_iload hx hb dX6_mostDeeds_98 (lv_at hl 0 rfl) ?_
                refine lv_if_eq (tgt := 107) hx hb dX6_mostDeeds_100 (by decide) (fun c_100 => ?_) (fun c_100 => ?_)
                · have c_100 : ((0 : Int32) = 0) := c_100
                  have hR := hR.trans (if_pos c_100)
                  refine lv_iconst (v := (0 : Int32)) hx hb dX6_mostDeeds_107 (by decide) ?_
                  refine lv_iadd hx hb dX6_mostDeeds_108 ?_
                  refine lv_istore (lv' := [(4, .int (v4_59 + (0 : Int32))), (6, .int (0 : Int32)), (5, .int (nI i_59)), (3, .int (nI i_5)), (2, .int v2_5), (0, .ref aR0), (1, .int xs)]) hx hb dX6_mostDeeds_109 hl (by decide) rfl (fun ls hl => ?_)
                  refine lv_iinc (v := (nI (i_59 + 1))) (lv' := [(5, .int (nI (i_59 + 1))), (4, .int (v4_59 + (0 : Int32))), (6, .int (0 : Int32)), (3, .int (nI i_5)), (2, .int v2_5), (0, .ref aR0), (1, .int xs)]) hx hb dX6_mostDeeds_111 hl (k := 2) rfl (nI_1 i_59) (by decide) rfl (fun ls hl => ?_)
                  refine lv_goto (tgt := 59) hx hb dX6_mostDeeds_114 (by decide) ?_
                  exact ih_59 (i_59 + 1) (v4_59 + (0 : Int32)) _ _ _ (by omega) (by omega) hP hD hS (lv_sub hl [0, 1, 3, 4, 5, 6] rfl) (fun w_59 H locs ls he hP hD hS hl => kk w_59 H locs ls (hR.trans he) hP hD hS hl)
                · have c_100 : ¬ ((0 : Int32) = 0) := c_100
                  have hR := hR.trans (if_neg c_100)
                  refine lv_iconst (v := (1 : Int32)) hx hb dX6_mostDeeds_103 (by decide) ?_
                  refine lv_goto (tgt := 108) hx hb dX6_mostDeeds_104 (by decide) ?_
                  refine lv_iadd hx hb dX6_mostDeeds_108 ?_
                  refine lv_istore (lv' := [(4, .int (v4_59 + (1 : Int32))), (6, .int (0 : Int32)), (5, .int (nI i_59)), (3, .int (nI i_5)), (2, .int v2_5), (0, .ref aR0), (1, .int xs)]) hx hb dX6_mostDeeds_109 hl (by decide) rfl (fun ls hl => ?_)
                  refine lv_iinc (v := (nI (i_59 + 1))) (lv' := [(5, .int (nI (i_59 + 1))), (4, .int (v4_59 + (1 : Int32))), (6, .int (0 : Int32)), (3, .int (nI i_5)), (2, .int v2_5), (0, .ref aR0), (1, .int xs)]) hx hb dX6_mostDeeds_111 hl (k := 2) rfl (nI_1 i_59) (by decide) rfl (fun ls hl => ?_)
                  refine lv_goto (tgt := 59) hx hb dX6_mostDeeds_114 (by decide) ?_
                  exact ih_59 (i_59 + 1) (v4_59 + (1 : Int32)) _ _ _ (by omega) (by omega) hP hD hS (lv_sub hl [0, 1, 3, 4, 5, 6] rfl) (fun w_59 H locs ls he hP hD hS hl => kk w_59 H locs ls (hR.trans he) hP hD hS hl)
              · have c_73 : (((xs >>> ((nI i_59) &&& 31)) &&& (1 : Int32)) = (1 : Int32)) := c_73
                have hR := hR.trans (if_pos c_73)
                refine lv_aload_n hx hb dX6_mostDeeds_76 rfl (lv_at hl 4 rfl) ?_
                refine lv_iload hx hb dX6_mostDeeds_77 (lv_at hl 0 rfl) ?_
                have hr := mrV (p := p) (e := e) (R := rm_X6_mostDeeds) (below := below) (meth := meth) (H := H) (locs := locs) (ls := ls) (As := [.int (nI i_59)]) (rest := []) (c_X6_ownersOf l δ cI cJ cZ aR0 aR1 aR2 aR3 aR4 aR5 aR6 aR7 aR8 aR9 aR10 aR11 aR12 aR13 aR14 aR15 aR16 aR17 aR18 aR19 aR20 aR21 lv sg pd ac dd hd le bd my lf pa kp (nI i_59) (vp_in_nI hlt_59 (by decide))) hx hb hml hts hown hK hNW hP hD [0, 1, 2, 3, 4, 5, 6, 7, 8, 9, 10, 11, 12, 13, 14, 15, 16, 17, 18, 19, 20, 21] rfl rfl 6 0 rfl rfl (cwV 1 hts gX6_mostDeeds_X6_ownersOf rfl rfl rfl (by decide +kernel) ⟨(Nat.le_of_ble_eq_true rfl), (Nat.le_of_ble_eq_true rfl)⟩) rfl hl.1 rfl (Nat.le_of_ble_eq_true rfl) dX6_mostDeeds_79
                refine mc_i (wr := ([] : va_W)) hr hP hD hS hA [0, 1, 2, 3, 4, 5, 6, 7, 8, 9, 10, 11, 12, 13, 14, 15, 16, 17, 18, 19, 20, 21] [] [0, 1, 2, 3, 4, 5, 6, 7, 8, 9, 10, 11, 12, 13, 14, 15, 16, 17, 18, 19, 20, 21] rfl rfl rfl rfl rfl (wn := fun _ => (wR cI cJ cZ aR0 aR1 aR2 aR3 aR4 aR5 aR6 aR7 aR8 aR9 aR10 aR11 aR12 aR13 aR14 aR15 aR16 aR17 aR18 aR19 aR20 aR21 lv sg pd ac dd hd le bd my lf pa kp)) (fun _ => rfl) (fun r_79 _ H locs hw_79 hP hD hS => ?_)
                have hP : va_P δ vwCl (wR cI cJ cZ aR0 aR1 aR2 aR3 aR4 aR5 aR6 aR7 aR8 aR9 aR10 aR11 aR12 aR13 aR14 aR15 aR16 aR17 aR18 aR19 aR20 aR21 lv sg pd ac dd hd le bd my lf pa kp) H := hP
                have hD : va_D A (wR cI cJ cZ aR0 aR1 aR2 aR3 aR4 aR5 aR6 aR7 aR8 aR9 aR10 aR11 aR12 aR13 aR14 aR15 aR16 aR17 aR18 aR19 aR20 aR21 lv sg pd ac dd hd le bd my lf pa kp) := hD
                have hR := bnd_eq hR hw_79.symm
                refine lv_iload_n hx hb dX6_mostDeeds_82 rfl (lv_at hl 2 rfl) ?_
                refine lv_iconst (v := (-1 : Int32)) hx hb dX6_mostDeeds_83 (by decide) ?_
                refine lv_ixor hx hb dX6_mostDeeds_84 ?_
                refine lv_iand hx hb dX6_mostDeeds_85 ?_
                refine lv_if_eq (tgt := 93) hx hb dX6_mostDeeds_86 (by decide) (fun c_86 => ?_) (fun c_86 => ?_)
                · have c_86 : ((r_79 &&& ((nI i_5) ^^^ (-1 : Int32))) = 0) := c_86
                  have hR := hR.trans (if_pos c_86)
                  refine lv_iconst (v := (0 : Int32)) hx hb dX6_mostDeeds_93 (by decide) ?_
                  refine lv_istore (lv' := [(6, .int (0 : Int32)), (5, .int (nI i_59)), (4, .int v4_59), (3, .int (nI i_5)), (2, .int v2_5), (0, .ref aR0), (1, .int xs)]) hx hb dX6_mostDeeds_94 hl (by decide) rfl (fun ls hl => ?_)
                  refine lv_iload hx hb dX6_mostDeeds_96 (lv_at hl 2 rfl) ?_
                  refine lv_iload hx hb dX6_mostDeeds_98 (lv_at hl 0 rfl) ?_
                  refine lv_if_eq (tgt := 107) hx hb dX6_mostDeeds_100 (by decide) (fun c_100 => ?_) (fun c_100 => ?_)
                  · have c_100 : ((0 : Int32) = 0) := c_100
                    have hR := hR.trans (if_pos c_100)
                    refine lv_iconst (v := (0 : Int32)) hx hb dX6_mostDeeds_107 (by decide) ?_
                    refine lv_iadd hx hb dX6_mostDeeds_108 ?_
                    refine lv_istore (lv' := [(4, .int (v4_59 + (0 : Int32))), (6, .int (0 : Int32)), (5, .int (nI i_59)), (3, .int (nI i_5)), (2, .int v2_5), (0, .ref aR0), (1, .int xs)]) hx hb dX6_mostDeeds_109 hl (by decide) rfl (fun ls hl => ?_)
                    refine lv_iinc (v := (nI (i_59 + 1))) (lv' := [(5, .int (nI (i_59 + 1))), (4, .int (v4_59 + (0 : Int32))), (6, .int (0 : Int32)), (3, .int (nI i_5)), (2, .int v2_5), (0, .ref aR0), (1, .int xs)]) hx hb dX6_mostDeeds_111 hl (k := 2) rfl (nI_1 i_59) (by decide) rfl (fun ls hl => ?_)
                    refine lv_goto (tgt := 59) hx hb dX6_mostDeeds_114 (by decide) ?_
                    exact ih_59 (i_59 + 1) (v4_59 + (0 : Int32)) _ _ _ (by omega) (by omega) hP hD hS (lv_sub hl [0, 1, 3, 4, 5, 6] rfl) (fun w_59 H locs ls he hP hD hS hl => kk w_59 H locs ls (hR.trans he) hP hD hS hl)
                  · have c_100 : ¬ ((0 : Int32) = 0) := c_100
                    have hR := hR.trans (if_neg c_100)
                    refine lv_iconst (v := (1 : Int32)) hx hb dX6_mostDeeds_103 (by decide) ?_
                    refine lv_goto (tgt := 108) hx hb dX6_mostDeeds_104 (by decide) ?_
                    refine lv_iadd hx hb dX6_mostDeeds_108 ?_
                    refine lv_istore (lv' := [(4, .int (v4_59 + (1 : Int32))), (6, .int (0 : Int32)), (5, .int (nI i_59)), (3, .int (nI i_5)), (2, .int v2_5), (0, .ref aR0), (1, .int xs)]) hx hb dX6_mostDeeds_109 hl (by decide) rfl (fun ls hl => ?_)
                    refine lv_iinc (v := (nI (i_59 + 1))) (lv' := [(5, .int (nI (i_59 + 1))), (4, .int (v4_59 + (1 : Int32))), (6, .int (0 : Int32)), (3, .int (nI i_5)), (2, .int v2_5), (0, .ref aR0), (1, .int xs)]) hx hb dX6_mostDeeds_111 hl (k := 2) rfl (nI_1 i_59) (by decide) rfl (fun ls hl => ?_)
                    refine lv_goto (tgt := 59) hx hb dX6_mostDeeds_114 (by decide) ?_
                    exact ih_59 (i_59 + 1) (v4_59 + (1 : Int32)) _ _ _ (by omega) (by omega) hP hD hS (lv_sub hl [0, 1, 3, 4, 5, 6] rfl) (fun w_59 H locs ls he hP hD hS hl => kk w_59 H locs ls (hR.trans he) hP hD hS hl)
                · have c_86 : ¬ ((r_79 &&& ((nI i_5) ^^^ (-1 : Int32))) = 0) := c_86
                  have hR := hR.trans (if_neg c_86)
                  refine lv_iconst (v := (1 : Int32)) hx hb dX6_mostDeeds_89 (by decide) ?_
                  refine lv_goto (tgt := 94) hx hb dX6_mostDeeds_90 (by decide) ?_
                  refine lv_istore (lv' := [(6, .int (1 : Int32)), (5, .int (nI i_59)), (4, .int v4_59), (3, .int (nI i_5)), (2, .int v2_5), (0, .ref aR0), (1, .int xs)]) hx hb dX6_mostDeeds_94 hl (by decide) rfl (fun ls hl => ?_)
                  refine lv_iload hx hb dX6_mostDeeds_96 (lv_at hl 2 rfl) ?_
                  refine lv_iload hx hb dX6_mostDeeds_98 (lv_at hl 0 rfl) ?_
                  refine lv_if_eq (tgt := 107) hx hb dX6_mostDeeds_100 (by decide) (fun c_100 => ?_) (fun c_100 => ?_)
                  · have c_100 : ((1 : Int32) = 0) := c_100
                    have hR := hR.trans (if_pos c_100)
                    refine lv_iconst (v := (0 : Int32)) hx hb dX6_mostDeeds_107 (by decide) ?_
                    refine lv_iadd hx hb dX6_mostDeeds_108 ?_
                    refine lv_istore (lv' := [(4, .int (v4_59 + (0 : Int32))), (6, .int (1 : Int32)), (5, .int (nI i_59)), (3, .int (nI i_5)), (2, .int v2_5), (0, .ref aR0), (1, .int xs)]) hx hb dX6_mostDeeds_109 hl (by decide) rfl (fun ls hl => ?_)
                    refine lv_iinc (v := (nI (i_59 + 1))) (lv' := [(5, .int (nI (i_59 + 1))), (4, .int (v4_59 + (0 : Int32))), (6, .int (1 : Int32)), (3, .int (nI i_5)), (2, .int v2_5), (0, .ref aR0), (1, .int xs)]) hx hb dX6_mostDeeds_111 hl (k := 2) rfl (nI_1 i_59) (by decide) rfl (fun ls hl => ?_)
                    refine lv_goto (tgt := 59) hx hb dX6_mostDeeds_114 (by decide) ?_
                    exact ih_59 (i_59 + 1) (v4_59 + (0 : Int32)) _ _ _ (by omega) (by omega) hP hD hS (lv_sub hl [0, 1, 3, 4, 5, 6] rfl) (fun w_59 H locs ls he hP hD hS hl => kk w_59 H locs ls (hR.trans he) hP hD hS hl)
                  · have c_100 : ¬ ((1 : Int32) = 0) := c_100
                    have hR := hR.trans (if_neg c_100)
                    refine lv_iconst (v := (1 : Int32)) hx hb dX6_mostDeeds_103 (by decide) ?_
                    refine lv_goto (tgt := 108) hx hb dX6_mostDeeds_104 (by decide) ?_
                    refine lv_iadd hx hb dX6_mostDeeds_108 ?_
                    refine lv_istore (lv' := [(4, .int (v4_59 + (1 : Int32))), (6, .int (1 : Int32)), (5, .int (nI i_59)), (3, .int (nI i_5)), (2, .int v2_5), (0, .ref aR0), (1, .int xs)]) hx hb dX6_mostDeeds_109 hl (by decide) rfl (fun ls hl => ?_)
                    refine lv_iinc (v := (nI (i_59 + 1))) (lv' := [(5, .int (nI (i_59 + 1))), (4, .int (v4_59 + (1 : Int32))), (6, .int (1 : Int32)), (3, .int (nI i_5)), (2, .int v2_5), (0, .ref aR0), (1, .int xs)]) hx hb dX6_mostDeeds_111 hl (k := 2) rfl (nI_1 i_59) (by decide) rfl (fun ls hl => ?_)
                    refine lv_goto (tgt := 59) hx hb dX6_mostDeeds_114 (by decide) ?_
                    exact ih_59 (i_59 + 1) (v4_59 + (1 : Int32)) _ _ _ (by omega) (by omega) hP hD hS (lv_sub hl [0, 1, 3, 4, 5, 6] rfl) (fun w_59 H locs ls he hP hD hS hl => kk w_59 H locs ls (hR.trans he) hP hD hS hl)
        refine hloop_59 (24 + 1) 0 w_17 _ _ _ (by omega) (by omega) hP hD hS (lv_sub hl [0, 1, 2, 3, 4, 5] rfl) (fun w_59 H locs ls hw_59 hP hD hS hl => ?_)
        have hP : va_P δ vwCl (wR cI cJ cZ aR0 aR1 aR2 aR3 aR4 aR5 aR6 aR7 aR8 aR9 aR10 aR11 aR12 aR13 aR14 aR15 aR16 aR17 aR18 aR19 aR20 aR21 lv sg pd ac dd hd le bd my lf pa kp) H := hP
        have hD : va_D A (wR cI cJ cZ aR0 aR1 aR2 aR3 aR4 aR5 aR6 aR7 aR8 aR9 aR10 aR11 aR12 aR13 aR14 aR15 aR16 aR17 aR18 aR19 aR20 aR21 lv sg pd ac dd hd le bd my lf pa kp) := hD
        have hR := bnd_eq hR hw_59.symm
        refine lv_iload hx hb dX6_mostDeeds_117 (lv_at hl 0 rfl) ?_
        refine lv_iload_n hx hb dX6_mostDeeds_119 rfl (lv_at hl 2 rfl) ?_
        refine lv_icmp_ge (tgt := 128) hx hb dX6_mostDeeds_120 (by decide) (fun c_120 => ?_) (fun c_120 => ?_)
        · have c_120 : (v2_5 ≤ w_59) := c_120
          have hR := hR.trans (if_pos c_120)
          refine lv_iload_n hx hb dX6_mostDeeds_128 rfl (lv_at hl 2 rfl) ?_
          refine lv_istore_n (lv' := [(2, .int v2_5), (4, .int w_59), (3, .int (nI i_5)), (0, .ref aR0), (1, .int xs)]) hx hb dX6_mostDeeds_129 rfl hl (by decide) rfl (fun ls hl => ?_)
          refine lv_iinc (v := (nI (i_5 + 1))) (lv' := [(3, .int (nI (i_5 + 1))), (2, .int v2_5), (4, .int w_59), (0, .ref aR0), (1, .int xs)]) hx hb dX6_mostDeeds_130 hl (k := 2) rfl (nI_1 i_5) (by decide) rfl (fun ls hl => ?_)
          refine lv_goto (tgt := 5) hx hb dX6_mostDeeds_133 (by decide) ?_
          exact ih_5 (i_5 + 1) v2_5 _ _ _ (by omega) (by omega) hP hD hS (lv_sub hl [0, 1, 3, 4] rfl) (fun w_5 H locs ls he hP hD hS hl => kk w_5 H locs ls (hR.trans he) hP hD hS hl)
        · have c_120 : ¬ (v2_5 ≤ w_59) := c_120
          have hR := hR.trans (if_neg c_120)
          refine lv_iload hx hb dX6_mostDeeds_123 (lv_at hl 0 rfl) ?_
          refine lv_goto (tgt := 129) hx hb dX6_mostDeeds_125 (by decide) ?_
          refine lv_istore_n (lv' := [(2, .int w_59), (4, .int w_59), (3, .int (nI i_5)), (0, .ref aR0), (1, .int xs)]) hx hb dX6_mostDeeds_129 rfl hl (by decide) rfl (fun ls hl => ?_)
          refine lv_iinc (v := (nI (i_5 + 1))) (lv' := [(3, .int (nI (i_5 + 1))), (2, .int w_59), (4, .int w_59), (0, .ref aR0), (1, .int xs)]) hx hb dX6_mostDeeds_130 hl (k := 2) rfl (nI_1 i_5) (by decide) rfl (fun ls hl => ?_)
          refine lv_goto (tgt := 5) hx hb dX6_mostDeeds_133 (by decide) ?_
          exact ih_5 (i_5 + 1) w_59 _ _ _ (by omega) (by omega) hP hD hS (lv_sub hl [0, 1, 3, 4] rfl) (fun w_5 H locs ls he hP hD hS hl => kk w_5 H locs ls (hR.trans he) hP hD hS hl)
  refine hloop_5 (64 + 1) 0 (24 : Int32) _ _ _ (by omega) (by omega) hP hD hS (lv_sub hl [0, 1, 2, 3] rfl) (fun w_5 H locs ls hw_5 hP hD hS hl => ?_)
  have hP : va_P δ vwCl (wR cI cJ cZ aR0 aR1 aR2 aR3 aR4 aR5 aR6 aR7 aR8 aR9 aR10 aR11 aR12 aR13 aR14 aR15 aR16 aR17 aR18 aR19 aR20 aR21 lv sg pd ac dd hd le bd my lf pa kp) H := hP
  have hD : va_D A (wR cI cJ cZ aR0 aR1 aR2 aR3 aR4 aR5 aR6 aR7 aR8 aR9 aR10 aR11 aR12 aR13 aR14 aR15 aR16 aR17 aR18 aR19 aR20 aR21 lv sg pd ac dd hd le bd my lf pa kp) := hD
  have hR := bnd_eq hR hw_5.symm
  refine lv_iload_n hx hb dX6_mostDeeds_136 rfl (lv_at hl 0 rfl) ?_
  exact hret _ _ w_5 () _ _ hR hP hD hS dX6_mostDeeds_137

abbrev rm_X6_doer : Room := { frames := 5, cells := 0, slots := 0, locals := 117 }
set_option maxHeartbeats 4000000 in
set_option maxRecDepth 100000 in
theorem c_X6_doer (l : Launch) (δ : va_G) (cI cJ cZ : ClassId) (aR0 aR1 aR2 aR3 aR4 aR5 aR6 aR7 aR8 aR9 aR10 aR11 aR12 aR13 aR14 aR15 aR16 aR17 aR18 aR19 aR20 aR21 : Nat) (lv : LV) (sg : SG) (pd : PD) (ac : AC) (dd : DD) (hd : HD) (le : LE) (bd : BD) (my : MY) (lf : LF) (pa : PA) (kp : KP) (xh : Int32) (xb : Int32) (hh : vp_in xh 24) : mMi l δ (mTy cI cJ cZ) yX6_doer wsX6_doer rm_X6_doer [.ref aR0, .int xh, .int xb] (wR cI cJ cZ aR0 aR1 aR2 aR3 aR4 aR5 aR6 aR7 aR8 aR9 aR10 aR11 aR12 aR13 aR14 aR15 aR16 aR17 aR18 aR19 aR20 aR21 lv sg pd ac dd hd le bd my lf pa kp) (S := MY) (fun r u => F_X6_doer lv my xh xb = (r, u)) (fun u => (wR cI cJ cZ aR0 aR1 aR2 aR3 aR4 aR5 aR6 aR7 aR8 aR9 aR10 aR11 aR12 aR13 aR14 aR15 aR16 aR17 aR18 aR19 aR20 aR21 lv sg pd ac dd hd le bd u lf pa kp)) := by
  refine mk_i (cc := cX6_doer) (maxL := 5) (by decide) rfl (Nat.le_of_ble_eq_true rfl) ?_
  intro p e s m args below meth c A Q ls H locs hx hb hml hts hown hK hNW hA hP hD hS hl hret
  have hown : s.vm.findClass RX6 = some m.cls := hown
  have hl : lv_has ls 5 [(0, .ref aR0), (1, .int xh), (2, .int xb)] := hl
  have hinX6 : ∀ w ∈ u_ws RX6 TX6 34, w ∈ wsX6_doer := (fun _ h => List.mem_cons_of_mem _ (List.mem_append_right _ (h)))
  have hR := F_X6_doer.eq_1 lv my xh xb
  refine lv_aload_n hx hb dX6_doer_0 rfl (lv_at hl 0 rfl) ?_
  refine lv_iload_n hx hb dX6_doer_1 rfl (lv_at hl 2 rfl) ?_
  refine lv_iconst (v := (1 : Int32)) hx hb dX6_doer_2 (by decide) ?_
  refine lv_iload_n hx hb dX6_doer_3 rfl (lv_at hl 1 rfl) ?_
  refine lv_ishl hx hb dX6_doer_4 ?_
  refine lv_ior hx hb dX6_doer_5 ?_
  have hr := mrV (p := p) (e := e) (R := rm_X6_doer) (below := below) (meth := meth) (H := H) (locs := locs) (ls := ls) (As := [.int (xb ||| ((1 : Int32) <<< (xh &&& 31)))]) (rest := []) (c_X6_mostDeeds l δ cI cJ cZ aR0 aR1 aR2 aR3 aR4 aR5 aR6 aR7 aR8 aR9 aR10 aR11 aR12 aR13 aR14 aR15 aR16 aR17 aR18 aR19 aR20 aR21 lv sg pd ac dd hd le bd my lf pa kp (xb ||| ((1 : Int32) <<< (xh &&& 31)))) hx hb hml hts hown hK hNW hP hD [0, 1, 2, 3, 4, 5, 6, 7, 8, 9, 10, 11, 12, 13, 14, 15, 16, 17, 18, 19, 20, 21] rfl rfl 6 0 rfl rfl (cwV 1 hts gX6_doer_X6_mostDeeds rfl rfl rfl (by decide +kernel) ⟨(Nat.le_of_ble_eq_true rfl), (Nat.le_of_ble_eq_true rfl)⟩) rfl hl.1 rfl (Nat.le_of_ble_eq_true rfl) dX6_doer_6
  refine mc_i (wr := ([] : va_W)) hr hP hD hS hA [0, 1, 2, 3, 4, 5, 6, 7, 8, 9, 10, 11, 12, 13, 14, 15, 16, 17, 18, 19, 20, 21] [] [0, 1, 2, 3, 4, 5, 6, 7, 8, 9, 10, 11, 12, 13, 14, 15, 16, 17, 18, 19, 20, 21] rfl rfl rfl rfl rfl (wn := fun _ => (wR cI cJ cZ aR0 aR1 aR2 aR3 aR4 aR5 aR6 aR7 aR8 aR9 aR10 aR11 aR12 aR13 aR14 aR15 aR16 aR17 aR18 aR19 aR20 aR21 lv sg pd ac dd hd le bd my lf pa kp)) (fun _ => rfl) (fun r_6 _ H locs hw_6 hP hD hS => ?_)
  have hP : va_P δ vwCl (wR cI cJ cZ aR0 aR1 aR2 aR3 aR4 aR5 aR6 aR7 aR8 aR9 aR10 aR11 aR12 aR13 aR14 aR15 aR16 aR17 aR18 aR19 aR20 aR21 lv sg pd ac dd hd le bd my lf pa kp) H := hP
  have hD : va_D A (wR cI cJ cZ aR0 aR1 aR2 aR3 aR4 aR5 aR6 aR7 aR8 aR9 aR10 aR11 aR12 aR13 aR14 aR15 aR16 aR17 aR18 aR19 aR20 aR21 lv sg pd ac dd hd le bd my lf pa kp) := hD
  have hR := bnd_eq hR hw_6.symm
  refine lv_istore_n (lv' := [(3, .int r_6), (0, .ref aR0), (1, .int xh), (2, .int xb)]) hx hb dX6_doer_9 rfl hl (by decide) rfl (fun ls hl => ?_)
  refine lv_iconst (v := (0 : Int32)) hx hb dX6_doer_10 (by decide) ?_
  refine lv_istore (lv' := [(4, .int (0 : Int32)), (3, .int r_6), (0, .ref aR0), (1, .int xh), (2, .int xb)]) hx hb dX6_doer_11 hl (by decide) rfl (fun ls hl => ?_)
  have hloop_13 : ∀ (n_13 : Nat) (i_13 : Nat) (my_13 : MY) (H : Heap) (locs : List Loc) (ls : Array Slot), (hi_13 : i_13 ≤ 6) → (hn_13 : 6 < i_13 + n_13) → (hP : va_P δ vwCl (wR cI cJ cZ aR0 aR1 aR2 aR3 aR4 aR5 aR6 aR7 aR8 aR9 aR10 aR11 aR12 aR13 aR14 aR15 aR16 aR17 aR18 aR19 aR20 aR21 lv sg pd ac dd hd le bd my_13 lf pa kp) H) → (hD : va_D A (wR cI cJ cZ aR0 aR1 aR2 aR3 aR4 aR5 aR6 aR7 aR8 aR9 aR10 aR11 aR12 aR13 aR14 aR15 aR16 aR17 aR18 aR19 aR20 aR21 lv sg pd ac dd hd le bd my_13 lf pa kp)) → (hS : va_S A s.heap H locs) → (hl : lv_has ls 5 [(4, .int (nI i_13)), (3, .int r_6), (0, .ref aR0), (1, .int xh), (2, .int xb)]) → (hR : F_X6_doer lv my xh xb = L_X6_doer_13 lv xh xb r_6 n_13 i_13 my_13) → W p l e rm_X6_doer s m args below meth c H locs 0 0 Q (F0 m 13 ls []) := by
    intro n_13
    induction n_13 with
    | zero => intro i_13 my_13 H locs ls hi_13 hn_13 hP hD hS hl hR; exact absurd hn_13 (by omega)
    | succ n_13 ih_13 =>
      intro i_13 my_13 H locs ls hi_13 hn_13 hP hD hS hl hR
      have hR := hR.trans (L_X6_doer_13_s lv xh xb r_6 n_13 i_13 my_13)
      refine lv_iload hx hb dX6_doer_13 (lv_at hl 0 rfl) ?_
      refine lv_bipush (v := (6 : Int32)) hx hb dX6_doer_15 (by decide) ?_
      refine lv_icmp_ge (tgt := 82) hx hb dX6_doer_17 (by decide) (fun c_17 => ?_) (fun c_17 => ?_)
      · have c_17 : ((6 : Int32) ≤ (nI i_13)) := c_17
        have hR := hR.trans (if_pos c_17)
        refine lv_bipush (v := (-6 : Int32)) hx hb dX6_doer_82 (by decide) ?_
        exact hret _ _ (-6 : Int32) my_13 _ _ hR hP hD hS dX6_doer_84
      · have c_17 : ¬ ((6 : Int32) ≤ (nI i_13)) := c_17
        have hR := hR.trans (if_neg c_17)
        have hlt_13 : i_13 < 6 := lt_g c_17 hi_13 (by decide)
        refine lv_aload_n hx hb dX6_doer_20 rfl (lv_at hl 2 rfl) ?_
        refine lv_iload hx hb dX6_doer_21 (lv_at hl 0 rfl) ?_
        refine lv_iload_n hx hb dX6_doer_23 rfl (lv_at hl 3 rfl) ?_
        have hr := mrV (p := p) (e := e) (R := rm_X6_doer) (below := below) (meth := meth) (H := H) (locs := locs) (ls := ls) (As := [.int (nI i_13), .int xh]) (rest := []) (c_X6_owns l δ cI cJ cZ aR0 aR1 aR2 aR3 aR4 aR5 aR6 aR7 aR8 aR9 aR10 aR11 aR12 aR13 aR14 aR15 aR16 aR17 aR18 aR19 aR20 aR21 lv sg pd ac dd hd le bd my_13 lf pa kp (nI i_13) xh hh) hx hb hml hts hown hK hNW hP hD [0, 1, 2, 3, 4, 5, 6, 7, 8, 9, 10, 11, 12, 13, 14, 15, 16, 17, 18, 19, 20, 21] rfl rfl 6 0 rfl rfl (cwV 2 hts gX6_doer_X6_owns rfl rfl rfl (by decide +kernel) ⟨(Nat.le_of_ble_eq_true rfl), (Nat.le_of_ble_eq_true rfl)⟩) rfl hl.1 rfl (Nat.le_of_ble_eq_true rfl) dX6_doer_24
        refine mc_i (wr := ([] : va_W)) hr hP hD hS hA [0, 1, 2, 3, 4, 5, 6, 7, 8, 9, 10, 11, 12, 13, 14, 15, 16, 17, 18, 19, 20, 21] [] [0, 1, 2, 3, 4, 5, 6, 7, 8, 9, 10, 11, 12, 13, 14, 15, 16, 17, 18, 19, 20, 21] rfl rfl rfl rfl rfl (wn := fun _ => (wR cI cJ cZ aR0 aR1 aR2 aR3 aR4 aR5 aR6 aR7 aR8 aR9 aR10 aR11 aR12 aR13 aR14 aR15 aR16 aR17 aR18 aR19 aR20 aR21 lv sg pd ac dd hd le bd my_13 lf pa kp)) (fun _ => rfl) (fun r_24 _ H locs hw_24 hP hD hS => ?_)
        obtain ⟨hw_24, z_24⟩ := hw_24
        have hP : va_P δ vwCl (wR cI cJ cZ aR0 aR1 aR2 aR3 aR4 aR5 aR6 aR7 aR8 aR9 aR10 aR11 aR12 aR13 aR14 aR15 aR16 aR17 aR18 aR19 aR20 aR21 lv sg pd ac dd hd le bd my_13 lf pa kp) H := hP
        have hD : va_D A (wR cI cJ cZ aR0 aR1 aR2 aR3 aR4 aR5 aR6 aR7 aR8 aR9 aR10 aR11 aR12 aR13 aR14 aR15 aR16 aR17 aR18 aR19 aR20 aR21 lv sg pd ac dd hd le bd my_13 lf pa kp) := hD
        have hR := bnd_eq hR hw_24.symm
        refine lv_if_eq (tgt := 76) hx hb dX6_doer_27 (by decide) (fun c_27 => ?_) (fun c_27 => ?_)
        · have c_27 : (r_24 = 0) := c_27
          have hR := hR.trans (if_pos c_27)
          refine lv_iinc (v := (nI (i_13 + 1))) (lv' := [(4, .int (nI (i_13 + 1))), (3, .int r_6), (0, .ref aR0), (1, .int xh), (2, .int xb)]) hx hb dX6_doer_76 hl (k := 0) rfl (nI_1 i_13) (by decide) rfl (fun ls hl => ?_)
          refine lv_goto (tgt := 13) hx hb dX6_doer_79 (by decide) ?_
          exact ih_13 (i_13 + 1) my_13 _ _ _ (by omega) (by omega) hP hD hS (lv_sub hl [0, 1, 2, 3, 4] rfl) hR
        · have c_27 : ¬ (r_24 = 0) := c_27
          have hR := hR.trans (if_neg c_27)
          refine lv_aload_n hx hb dX6_doer_30 rfl (lv_at hl 2 rfl) ?_
          refine va_get (D := δ) (ci := 6) (v := .ref aR17) (C := RX6) (T := TX6) (N := 34) hx hb hts hinX6 hown hK hP 0 rfl rfl 27 (by decide) (hts (.fieldLink RX6 58 "GloveHoursModel" "may" "[I") (List.mem_of_getElem? (i := 1) rfl)) (fun _ h9 => h9) rfl dX6_doer_31 ?_
          refine lv_iload hx hb dX6_doer_34 (lv_at hl 0 rfl) ?_
          refine va_iald hx hb hK hP 17 0 rfl rfl (vp_in_nI (by omega) (by decide)) dX6_doer_36 ?_
          refine lv_if_le (tgt := 76) hx hb dX6_doer_37 (by decide) (fun c_37 => ?_) (fun c_37 => ?_)
          · have c_37 : (((yMay my_13) (nI i_13).toNatClampNeg) ≤ 0) := c_37
            have hR := hR.trans (if_pos c_37)
            refine lv_iinc (v := (nI (i_13 + 1))) (lv' := [(4, .int (nI (i_13 + 1))), (3, .int r_6), (0, .ref aR0), (1, .int xh), (2, .int xb)]) hx hb dX6_doer_76 hl (k := 0) rfl (nI_1 i_13) (by decide) rfl (fun ls hl => ?_)
            refine lv_goto (tgt := 13) hx hb dX6_doer_79 (by decide) ?_
            exact ih_13 (i_13 + 1) my_13 _ _ _ (by omega) (by omega) hP hD hS (lv_sub hl [0, 1, 2, 3, 4] rfl) hR
          · have c_37 : ¬ (((yMay my_13) (nI i_13).toNatClampNeg) ≤ 0) := c_37
            have hR := hR.trans (if_neg c_37)
            refine lv_aload_n hx hb dX6_doer_40 rfl (lv_at hl 2 rfl) ?_
            refine va_get (D := δ) (ci := 6) (v := .ref aR17) (C := RX6) (T := TX6) (N := 34) hx hb hts hinX6 hown hK hP 0 rfl rfl 27 (by decide) (hts (.fieldLink RX6 58 "GloveHoursModel" "may" "[I") (List.mem_of_getElem? (i := 1) rfl)) (fun _ h9 => h9) rfl dX6_doer_41 ?_
            refine lv_iload hx hb dX6_doer_44 (lv_at hl 0 rfl) ?_
            refine lv_dup2_11 hx hb dX6_doer_46 rfl rfl ?_
            refine va_iald hx hb hK hP 17 0 rfl rfl (vp_in_nI (by omega) (by decide)) dX6_doer_47 ?_
            refine lv_iconst (v := (1 : Int32)) hx hb dX6_doer_48 (by decide) ?_
            refine lv_isub hx hb dX6_doer_49 ?_
            refine va_iast hx hb hK hP hD hS 17 0 rfl rfl (vp_in_nI (by omega) (by decide)) dX6_doer_50 (fun H locs hP hD hS => ?_)
            have hP : va_P δ vwCl (wR cI cJ cZ aR0 aR1 aR2 aR3 aR4 aR5 aR6 aR7 aR8 aR9 aR10 aR11 aR12 aR13 aR14 aR15 aR16 aR17 aR18 aR19 aR20 aR21 lv sg pd ac dd hd le bd (upd (yMay my_13) (nI i_13).toNatClampNeg (((yMay my_13) (nI i_13).toNatClampNeg) - (1 : Int32))) lf pa kp) H := hP
            have hD : va_D A (wR cI cJ cZ aR0 aR1 aR2 aR3 aR4 aR5 aR6 aR7 aR8 aR9 aR10 aR11 aR12 aR13 aR14 aR15 aR16 aR17 aR18 aR19 aR20 aR21 lv sg pd ac dd hd le bd (upd (yMay my_13) (nI i_13).toNatClampNeg (((yMay my_13) (nI i_13).toNatClampNeg) - (1 : Int32))) lf pa kp) := hD
            refine lv_iconst (v := (1 : Int32)) hx hb dX6_doer_51 (by decide) ?_
            refine lv_aload_n hx hb dX6_doer_52 rfl (lv_at hl 2 rfl) ?_
            refine lv_iload_n hx hb dX6_doer_53 rfl (lv_at hl 4 rfl) ?_
            have hr := mrV (p := p) (e := e) (R := rm_X6_doer) (below := below) (meth := meth) (H := H) (locs := locs) (ls := ls) (As := [.int xb]) (rest := [.int (1 : Int32)]) (c_X6_mostDeeds l δ cI cJ cZ aR0 aR1 aR2 aR3 aR4 aR5 aR6 aR7 aR8 aR9 aR10 aR11 aR12 aR13 aR14 aR15 aR16 aR17 aR18 aR19 aR20 aR21 lv sg pd ac dd hd le bd (upd (yMay my_13) (nI i_13).toNatClampNeg (((yMay my_13) (nI i_13).toNatClampNeg) - (1 : Int32))) lf pa kp xb) hx hb hml hts hown hK hNW hP hD [0, 1, 2, 3, 4, 5, 6, 7, 8, 9, 10, 11, 12, 13, 14, 15, 16, 17, 18, 19, 20, 21] rfl rfl 6 0 rfl rfl (cwV 1 hts gX6_doer_X6_mostDeeds rfl rfl rfl (by decide +kernel) ⟨(Nat.le_of_ble_eq_true rfl), (Nat.le_of_ble_eq_true rfl)⟩) rfl hl.1 rfl (Nat.le_of_ble_eq_true rfl) dX6_doer_54
            refine mc_i (wr := ([] : va_W)) hr hP hD hS hA [0, 1, 2, 3, 4, 5, 6, 7, 8, 9, 10, 11, 12, 13, 14, 15, 16, 17, 18, 19, 20, 21] [] [0, 1, 2, 3, 4, 5, 6, 7, 8, 9, 10, 11, 12, 13, 14, 15, 16, 17, 18, 19, 20, 21] rfl rfl rfl rfl rfl (wn := fun _ => (wR cI cJ cZ aR0 aR1 aR2 aR3 aR4 aR5 aR6 aR7 aR8 aR9 aR10 aR11 aR12 aR13 aR14 aR15 aR16 aR17 aR18 aR19 aR20 aR21 lv sg pd ac dd hd le bd (upd (yMay my_13) (nI i_13).toNatClampNeg (((yMay my_13) (nI i_13).toNatClampNeg) - (1 : Int32))) lf pa kp)) (fun _ => rfl) (fun r_54 _ H locs hw_54 hP hD hS => ?_)
            have hP : va_P δ vwCl (wR cI cJ cZ aR0 aR1 aR2 aR3 aR4 aR5 aR6 aR7 aR8 aR9 aR10 aR11 aR12 aR13 aR14 aR15 aR16 aR17 aR18 aR19 aR20 aR21 lv sg pd ac dd hd le bd (upd (yMay my_13) (nI i_13).toNatClampNeg (((yMay my_13) (nI i_13).toNatClampNeg) - (1 : Int32))) lf pa kp) H := hP
            have hD : va_D A (wR cI cJ cZ aR0 aR1 aR2 aR3 aR4 aR5 aR6 aR7 aR8 aR9 aR10 aR11 aR12 aR13 aR14 aR15 aR16 aR17 aR18 aR19 aR20 aR21 lv sg pd ac dd hd le bd (upd (yMay my_13) (nI i_13).toNatClampNeg (((yMay my_13) (nI i_13).toNatClampNeg) - (1 : Int32))) lf pa kp) := hD
            have hR := bnd_eq hR hw_54.symm
            refine lv_iadd hx hb dX6_doer_57 ?_
            refine lv_iload_n hx hb dX6_doer_58 rfl (lv_at hl 1 rfl) ?_
            refine lv_icmp_ne (tgt := 65) hx hb dX6_doer_59 (by decide) (fun c_59 => ?_) (fun c_59 => ?_)
            · have c_59 : ¬ (((1 : Int32) + r_54) = r_6) := c_59
              have hR := hR.trans (if_neg c_59)
              refine lv_aload_n hx hb dX6_doer_65 rfl (lv_at hl 2 rfl) ?_
              refine va_get (D := δ) (ci := 6) (v := .ref aR17) (C := RX6) (T := TX6) (N := 34) hx hb hts hinX6 hown hK hP 0 rfl rfl 27 (by decide) (hts (.fieldLink RX6 58 "GloveHoursModel" "may" "[I") (List.mem_of_getElem? (i := 1) rfl)) (fun _ h9 => h9) rfl dX6_doer_66 ?_
              refine lv_iload hx hb dX6_doer_69 (lv_at hl 0 rfl) ?_
              refine lv_dup2_11 hx hb dX6_doer_71 rfl rfl ?_
              refine va_iald hx hb hK hP 17 0 rfl rfl (vp_in_nI (by omega) (by decide)) dX6_doer_72 ?_
              refine lv_iconst (v := (1 : Int32)) hx hb dX6_doer_73 (by decide) ?_
              refine lv_iadd hx hb dX6_doer_74 ?_
              refine va_iast hx hb hK hP hD hS 17 0 rfl rfl (vp_in_nI (by omega) (by decide)) dX6_doer_75 (fun H locs hP hD hS => ?_)
              have hP : va_P δ vwCl (wR cI cJ cZ aR0 aR1 aR2 aR3 aR4 aR5 aR6 aR7 aR8 aR9 aR10 aR11 aR12 aR13 aR14 aR15 aR16 aR17 aR18 aR19 aR20 aR21 lv sg pd ac dd hd le bd (upd (upd (yMay my_13) (nI i_13).toNatClampNeg (((yMay my_13) (nI i_13).toNatClampNeg) - (1 : Int32))) (nI i_13).toNatClampNeg (((upd (yMay my_13) (nI i_13).toNatClampNeg (((yMay my_13) (nI i_13).toNatClampNeg) - (1 : Int32))) (nI i_13).toNatClampNeg) + (1 : Int32))) lf pa kp) H := hP
              have hD : va_D A (wR cI cJ cZ aR0 aR1 aR2 aR3 aR4 aR5 aR6 aR7 aR8 aR9 aR10 aR11 aR12 aR13 aR14 aR15 aR16 aR17 aR18 aR19 aR20 aR21 lv sg pd ac dd hd le bd (upd (upd (yMay my_13) (nI i_13).toNatClampNeg (((yMay my_13) (nI i_13).toNatClampNeg) - (1 : Int32))) (nI i_13).toNatClampNeg (((upd (yMay my_13) (nI i_13).toNatClampNeg (((yMay my_13) (nI i_13).toNatClampNeg) - (1 : Int32))) (nI i_13).toNatClampNeg) + (1 : Int32))) lf pa kp) := hD
              refine lv_iinc (v := (nI (i_13 + 1))) (lv' := [(4, .int (nI (i_13 + 1))), (3, .int r_6), (0, .ref aR0), (1, .int xh), (2, .int xb)]) hx hb dX6_doer_76 hl (k := 0) rfl (nI_1 i_13) (by decide) rfl (fun ls hl => ?_)
              refine lv_goto (tgt := 13) hx hb dX6_doer_79 (by decide) ?_
              exact ih_13 (i_13 + 1) (upd (upd (yMay my_13) (nI i_13).toNatClampNeg (((yMay my_13) (nI i_13).toNatClampNeg) - (1 : Int32))) (nI i_13).toNatClampNeg (((upd (yMay my_13) (nI i_13).toNatClampNeg (((yMay my_13) (nI i_13).toNatClampNeg) - (1 : Int32))) (nI i_13).toNatClampNeg) + (1 : Int32))) _ _ _ (by omega) (by omega) hP hD hS (lv_sub hl [0, 1, 2, 3, 4] rfl) hR
            · have c_59 : (((1 : Int32) + r_54) = r_6) := c_59
              have hR := hR.trans (if_pos c_59)
              refine lv_iload hx hb dX6_doer_62 (lv_at hl 0 rfl) ?_
              exact hret _ _ (nI i_13) (upd (yMay my_13) (nI i_13).toNatClampNeg (((yMay my_13) (nI i_13).toNatClampNeg) - (1 : Int32))) _ _ hR hP hD hS dX6_doer_64
  exact hloop_13 (6 + 1) 0 my _ _ _ (by omega) (by omega) hP hD hS (lv_sub hl [0, 1, 2, 3, 4] rfl) hR

abbrev rm_X6_match : Room := { frames := 6, cells := 0, slots := 0, locals := 141 }
set_option maxHeartbeats 4000000 in
set_option maxRecDepth 100000 in
theorem c_X6_match (l : Launch) (δ : va_G) (cI cJ cZ : ClassId) (aR0 aR1 aR2 aR3 aR4 aR5 aR6 aR7 aR8 aR9 aR10 aR11 aR12 aR13 aR14 aR15 aR16 aR17 aR18 aR19 aR20 aR21 : Nat) (lv : LV) (sg : SG) (pd : PD) (ac : AC) (dd : DD) (hd : HD) (le : LE) (bd : BD) (my : MY) (lf : LF) (pa : PA) (kp : KP) (xs : Int32) (xv : Int32) (xh : Int32) : mMi l δ (mTy cI cJ cZ) yX6_match wsX6_match rm_X6_match [.ref aR0, .int xs, .int xv, .int xh] (wR cI cJ cZ aR0 aR1 aR2 aR3 aR4 aR5 aR6 aR7 aR8 aR9 aR10 aR11 aR12 aR13 aR14 aR15 aR16 aR17 aR18 aR19 aR20 aR21 lv sg pd ac dd hd le bd my lf pa kp) (S := MY) (fun r u => F_X6_match lv my xs xv xh = (r, u)) (fun u => (wR cI cJ cZ aR0 aR1 aR2 aR3 aR4 aR5 aR6 aR7 aR8 aR9 aR10 aR11 aR12 aR13 aR14 aR15 aR16 aR17 aR18 aR19 aR20 aR21 lv sg pd ac dd hd le bd u lf pa kp)) := by
  refine mk_i (cc := cX6_match) (maxL := 7) (by decide) rfl (Nat.le_of_ble_eq_true rfl) ?_
  intro p e s m args below meth c A Q ls H locs hx hb hml hts hown hK hNW hA hP hD hS hl hret
  have hown : s.vm.findClass RX6 = some m.cls := hown
  have hl : lv_has ls 7 [(0, .ref aR0), (1, .int xs), (2, .int xv), (3, .int xh)] := hl
  have hinX6 : ∀ w ∈ u_ws RX6 TX6 34, w ∈ wsX6_match := (fun _ h => List.mem_cons_of_mem _ (List.mem_append_right _ (h)))
  have hR := F_X6_match.eq_1 lv my xs xv xh
  refine lv_iload_n hx hb dX6_match_0 rfl (lv_at hl 1 rfl) ?_
  refine lv_i2l (v := (xs.toInt64)) hx hb dX6_match_1 rfl ?_
  refine lv_lconst (v := (0 : Int64)) hx hb dX6_match_2 (by decide) ?_
  refine lv_ldc2 (v := (16777215 : Int64)) hx hb hown (hts (.constantLong RX6 102 (16777215)) (List.mem_of_getElem? (i := 1) rfl)) dX6_match_3 ?_
  have hr := mrS (p := p) (e := e) (R := rm_X6_match) (below := below) (meth := meth) (H := H) (locs := locs) (ls := ls) (As := [.long (xs.toInt64), .long (0 : Int64), .long (16777215 : Int64)]) (rest := []) (c_X6_in l δ cI cJ cZ (xs.toInt64) (0 : Int64) (16777215 : Int64)) hx hb hml hts hown hK hNW hP hD [] rfl rfl (va_cwS 3 hts gX6_match_X6_in rfl rfl rfl (by decide +kernel) ⟨(Nat.le_of_ble_eq_true rfl), (Nat.le_of_ble_eq_true rfl)⟩) rfl hl.1 rfl (Nat.le_of_ble_eq_true rfl) dX6_match_6
  refine mc_i (wr := (wR cI cJ cZ aR0 aR1 aR2 aR3 aR4 aR5 aR6 aR7 aR8 aR9 aR10 aR11 aR12 aR13 aR14 aR15 aR16 aR17 aR18 aR19 aR20 aR21 lv sg pd ac dd hd le bd my lf pa kp)) hr hP hD hS hA [] [0, 1, 2, 3, 4, 5, 6, 7, 8, 9, 10, 11, 12, 13, 14, 15, 16, 17, 18, 19, 20, 21] [0, 1, 2, 3, 4, 5, 6, 7, 8, 9, 10, 11, 12, 13, 14, 15, 16, 17, 18, 19, 20, 21] rfl rfl rfl rfl rfl (wn := fun _ => (wR cI cJ cZ aR0 aR1 aR2 aR3 aR4 aR5 aR6 aR7 aR8 aR9 aR10 aR11 aR12 aR13 aR14 aR15 aR16 aR17 aR18 aR19 aR20 aR21 lv sg pd ac dd hd le bd my lf pa kp)) (fun _ => rfl) (fun r_6 _ H locs hw_6 hP hD hS => ?_)
  obtain ⟨hw_6, z_6⟩ := hw_6
  have hP : va_P δ vwCl (wR cI cJ cZ aR0 aR1 aR2 aR3 aR4 aR5 aR6 aR7 aR8 aR9 aR10 aR11 aR12 aR13 aR14 aR15 aR16 aR17 aR18 aR19 aR20 aR21 lv sg pd ac dd hd le bd my lf pa kp) H := hP
  have hD : va_D A (wR cI cJ cZ aR0 aR1 aR2 aR3 aR4 aR5 aR6 aR7 aR8 aR9 aR10 aR11 aR12 aR13 aR14 aR15 aR16 aR17 aR18 aR19 aR20 aR21 lv sg pd ac dd hd le bd my lf pa kp) := hD
  have hR := bnd_eq hR hw_6.symm
  refine lv_if_eq (tgt := 24) hx hb dX6_match_9 (by decide) (fun c_9 => ?_) (fun c_9 => ?_)
  · have c_9 : (r_6 = 0) := c_9
    have hR := hR.trans (if_pos c_9)
    refine lv_bipush (v := (-2 : Int32)) hx hb dX6_match_24 (by decide) ?_
    exact hret _ _ (-2 : Int32) my _ _ hR hP hD hS dX6_match_26
  · have c_9 : ¬ (r_6 = 0) := c_9
    have hR := hR.trans (if_neg c_9)
    refine lv_iload_n hx hb dX6_match_12 rfl (lv_at hl 2 rfl) ?_
    refine lv_i2l (v := (xv.toInt64)) hx hb dX6_match_13 rfl ?_
    refine lv_lconst (v := (1 : Int64)) hx hb dX6_match_14 (by decide) ?_
    refine lv_ldc2 (v := (24 : Int64)) hx hb hown (hts (.constantLong RX6 232 (24)) (List.mem_of_getElem? (i := 2) rfl)) dX6_match_15 ?_
    have hr := mrS (p := p) (e := e) (R := rm_X6_match) (below := below) (meth := meth) (H := H) (locs := locs) (ls := ls) (As := [.long (xv.toInt64), .long (1 : Int64), .long (24 : Int64)]) (rest := []) (c_X6_in l δ cI cJ cZ (xv.toInt64) (1 : Int64) (24 : Int64)) hx hb hml hts hown hK hNW hP hD [] rfl rfl (va_cwS 3 hts gX6_match_X6_in rfl rfl rfl (by decide +kernel) ⟨(Nat.le_of_ble_eq_true rfl), (Nat.le_of_ble_eq_true rfl)⟩) rfl hl.1 rfl (Nat.le_of_ble_eq_true rfl) dX6_match_18
    refine mc_i (wr := (wR cI cJ cZ aR0 aR1 aR2 aR3 aR4 aR5 aR6 aR7 aR8 aR9 aR10 aR11 aR12 aR13 aR14 aR15 aR16 aR17 aR18 aR19 aR20 aR21 lv sg pd ac dd hd le bd my lf pa kp)) hr hP hD hS hA [] [0, 1, 2, 3, 4, 5, 6, 7, 8, 9, 10, 11, 12, 13, 14, 15, 16, 17, 18, 19, 20, 21] [0, 1, 2, 3, 4, 5, 6, 7, 8, 9, 10, 11, 12, 13, 14, 15, 16, 17, 18, 19, 20, 21] rfl rfl rfl rfl rfl (wn := fun _ => (wR cI cJ cZ aR0 aR1 aR2 aR3 aR4 aR5 aR6 aR7 aR8 aR9 aR10 aR11 aR12 aR13 aR14 aR15 aR16 aR17 aR18 aR19 aR20 aR21 lv sg pd ac dd hd le bd my lf pa kp)) (fun _ => rfl) (fun r_18 _ H locs hw_18 hP hD hS => ?_)
    obtain ⟨hw_18, z_18⟩ := hw_18
    have hP : va_P δ vwCl (wR cI cJ cZ aR0 aR1 aR2 aR3 aR4 aR5 aR6 aR7 aR8 aR9 aR10 aR11 aR12 aR13 aR14 aR15 aR16 aR17 aR18 aR19 aR20 aR21 lv sg pd ac dd hd le bd my lf pa kp) H := hP
    have hD : va_D A (wR cI cJ cZ aR0 aR1 aR2 aR3 aR4 aR5 aR6 aR7 aR8 aR9 aR10 aR11 aR12 aR13 aR14 aR15 aR16 aR17 aR18 aR19 aR20 aR21 lv sg pd ac dd hd le bd my lf pa kp) := hD
    have hR := bnd_eq hR hw_18.symm
    refine lv_if_ne (tgt := 27) hx hb dX6_match_21 (by decide) (fun c_21 => ?_) (fun c_21 => ?_)
    · have c_21 : ¬ (r_18 = 0) := c_21
      have hR := hR.trans (if_neg c_21)
      refine lv_iload_n hx hb dX6_match_27 rfl (lv_at hl 3 rfl) ?_
      refine lv_iconst (v := (-1 : Int32)) hx hb dX6_match_28 (by decide) ?_
      refine lv_icmp_eq (tgt := 49) hx hb dX6_match_29 (by decide) (fun c_29 => ?_) (fun c_29 => ?_)
      · have c_29 : (xh = (-1 : Int32)) := c_29
        have hR := hR.trans (if_pos c_29)
        refine lv_iconst (v := (0 : Int32)) hx hb dX6_match_49 (by decide) ?_
        refine lv_istore (lv' := [(4, .int (0 : Int32)), (0, .ref aR0), (1, .int xs), (2, .int xv), (3, .int xh)]) hx hb dX6_match_50 hl (by decide) rfl (fun ls hl => ?_)
        have hloop_52 : ∀ (n_52 : Nat) (i_52 : Nat) (my_52 : MY) (H : Heap) (locs : List Loc) (ls : Array Slot), (hi_52 : i_52 ≤ 6) → (hn_52 : 6 < i_52 + n_52) → (hP : va_P δ vwCl (wR cI cJ cZ aR0 aR1 aR2 aR3 aR4 aR5 aR6 aR7 aR8 aR9 aR10 aR11 aR12 aR13 aR14 aR15 aR16 aR17 aR18 aR19 aR20 aR21 lv sg pd ac dd hd le bd my_52 lf pa kp) H) → (hD : va_D A (wR cI cJ cZ aR0 aR1 aR2 aR3 aR4 aR5 aR6 aR7 aR8 aR9 aR10 aR11 aR12 aR13 aR14 aR15 aR16 aR17 aR18 aR19 aR20 aR21 lv sg pd ac dd hd le bd my_52 lf pa kp)) → (hS : va_S A s.heap H locs) → (hl : lv_has ls 7 [(4, .int (nI i_52)), (0, .ref aR0), (1, .int xs), (2, .int xv), (3, .int xh)]) → (kk : ∀ (w_52 : MY) (H : Heap) (locs : List Loc) (ls : Array Slot), L_X6_match_52 xv n_52 i_52 my_52 = w_52 → va_P δ vwCl (wR cI cJ cZ aR0 aR1 aR2 aR3 aR4 aR5 aR6 aR7 aR8 aR9 aR10 aR11 aR12 aR13 aR14 aR15 aR16 aR17 aR18 aR19 aR20 aR21 lv sg pd ac dd hd le bd w_52 lf pa kp) H → va_D A (wR cI cJ cZ aR0 aR1 aR2 aR3 aR4 aR5 aR6 aR7 aR8 aR9 aR10 aR11 aR12 aR13 aR14 aR15 aR16 aR17 aR18 aR19 aR20 aR21 lv sg pd ac dd hd le bd w_52 lf pa kp) → va_S A s.heap H locs → lv_has ls 7 [(0, .ref aR0), (1, .int xs), (2, .int xv), (3, .int xh)] → W p l e rm_X6_match s m args below meth c H locs 0 0 Q (F0 m 73 ls [])) → W p l e rm_X6_match s m args below meth c H locs 0 0 Q (F0 m 52 ls []) := by
          intro n_52
          induction n_52 with
          | zero => intro i_52 my_52 H locs ls hi_52 hn_52 hP hD hS hl kk; exact absurd hn_52 (by omega)
          | succ n_52 ih_52 =>
            intro i_52 my_52 H locs ls hi_52 hn_52 hP hD hS hl kk
            have hR := L_X6_match_52_s xv n_52 i_52 my_52
            refine lv_iload hx hb dX6_match_52 (lv_at hl 0 rfl) ?_
            refine lv_bipush (v := (6 : Int32)) hx hb dX6_match_54 (by decide) ?_
            refine lv_icmp_ge (tgt := 73) hx hb dX6_match_56 (by decide) (fun c_56 => ?_) (fun c_56 => ?_)
            · have c_56 : ((6 : Int32) ≤ (nI i_52)) := c_56
              have hR := hR.trans (if_pos c_56)
              exact kk my_52 H locs ls hR hP hD hS (lv_sub hl [1, 2, 3, 4] rfl)
            · have c_56 : ¬ ((6 : Int32) ≤ (nI i_52)) := c_56
              have hR := hR.trans (if_neg c_56)
              have hlt_52 : i_52 < 6 := lt_g c_56 hi_52 (by decide)
              refine lv_aload_n hx hb dX6_match_59 rfl (lv_at hl 1 rfl) ?_
              refine va_get (D := δ) (ci := 6) (v := .ref aR17) (C := RX6) (T := TX6) (N := 34) hx hb hts hinX6 hown hK hP 0 rfl rfl 27 (by decide) (hts (.fieldLink RX6 58 "GloveHoursModel" "may" "[I") (List.mem_of_getElem? (i := 3) rfl)) (fun _ h9 => h9) rfl dX6_match_60 ?_
              refine lv_iload hx hb dX6_match_63 (lv_at hl 0 rfl) ?_
              refine lv_iload_n hx hb dX6_match_65 rfl (lv_at hl 3 rfl) ?_
              refine va_iast hx hb hK hP hD hS 17 0 rfl rfl (vp_in_nI (by omega) (by decide)) dX6_match_66 (fun H locs hP hD hS => ?_)
              have hP : va_P δ vwCl (wR cI cJ cZ aR0 aR1 aR2 aR3 aR4 aR5 aR6 aR7 aR8 aR9 aR10 aR11 aR12 aR13 aR14 aR15 aR16 aR17 aR18 aR19 aR20 aR21 lv sg pd ac dd hd le bd (upd (yMay my_52) (nI i_52).toNatClampNeg xv) lf pa kp) H := hP
              have hD : va_D A (wR cI cJ cZ aR0 aR1 aR2 aR3 aR4 aR5 aR6 aR7 aR8 aR9 aR10 aR11 aR12 aR13 aR14 aR15 aR16 aR17 aR18 aR19 aR20 aR21 lv sg pd ac dd hd le bd (upd (yMay my_52) (nI i_52).toNatClampNeg xv) lf pa kp) := hD
              refine lv_iinc (v := (nI (i_52 + 1))) (lv' := [(4, .int (nI (i_52 + 1))), (0, .ref aR0), (1, .int xs), (2, .int xv), (3, .int xh)]) hx hb dX6_match_67 hl (k := 0) rfl (nI_1 i_52) (by decide) rfl (fun ls hl => ?_)
              refine lv_goto (tgt := 52) hx hb dX6_match_70 (by decide) ?_
              exact ih_52 (i_52 + 1) (upd (yMay my_52) (nI i_52).toNatClampNeg xv) _ _ _ (by omega) (by omega) hP hD hS (lv_sub hl [0, 1, 2, 3, 4] rfl) (fun w_52 H locs ls he hP hD hS hl => kk w_52 H locs ls (hR.trans he) hP hD hS hl)
        refine hloop_52 (6 + 1) 0 my _ _ _ (by omega) (by omega) hP hD hS (lv_sub hl [0, 1, 2, 3, 4] rfl) (fun w_52 H locs ls hw_52 hP hD hS hl => ?_)
        have hP : va_P δ vwCl (wR cI cJ cZ aR0 aR1 aR2 aR3 aR4 aR5 aR6 aR7 aR8 aR9 aR10 aR11 aR12 aR13 aR14 aR15 aR16 aR17 aR18 aR19 aR20 aR21 lv sg pd ac dd hd le bd w_52 lf pa kp) H := hP
        have hD : va_D A (wR cI cJ cZ aR0 aR1 aR2 aR3 aR4 aR5 aR6 aR7 aR8 aR9 aR10 aR11 aR12 aR13 aR14 aR15 aR16 aR17 aR18 aR19 aR20 aR21 lv sg pd ac dd hd le bd w_52 lf pa kp) := hD
        have hR := bnd_eq hR hw_52.symm
        refine lv_iload_n hx hb dX6_match_73 rfl (lv_at hl 3 rfl) ?_
        refine lv_iconst (v := (-1 : Int32)) hx hb dX6_match_74 (by decide) ?_
        refine lv_icmp_ne (tgt := 84) hx hb dX6_match_75 (by decide) (fun c_75 => ?_) (fun c_75 => ?_)
        · have c_75 : ¬ (xh = (-1 : Int32)) := c_75
          have hR := hR.trans (if_neg c_75)
          refine lv_iload_n hx hb dX6_match_84 rfl (lv_at hl 1 rfl) ?_
          refine lv_istore (lv' := [(4, .int xs), (0, .ref aR0), (1, .int xs), (2, .int xv), (3, .int xh)]) hx hb dX6_match_85 hl (by decide) rfl (fun ls hl => ?_)
          refine lv_bipush (v := (-6 : Int32)) hx hb dX6_match_87 (by decide) ?_
          refine lv_istore (lv' := [(5, .int (-6 : Int32)), (4, .int xs), (0, .ref aR0), (1, .int xs), (2, .int xv), (3, .int xh)]) hx hb dX6_match_89 hl (by decide) rfl (fun ls hl => ?_)
          refine lv_iconst (v := (0 : Int32)) hx hb dX6_match_91 (by decide) ?_
          refine lv_istore (lv' := [(6, .int (0 : Int32)), (5, .int (-6 : Int32)), (4, .int xs), (0, .ref aR0), (1, .int xs), (2, .int xv), (3, .int xh)]) hx hb dX6_match_92 hl (by decide) rfl (fun ls hl => ?_)
          have hloop_94 : ∀ (n_94 : Nat) (i_94 : Nat) (v5_94 : Int32) (v4_94 : Int32) (my_94 : MY) (H : Heap) (locs : List Loc) (ls : Array Slot), (hi_94 : i_94 ≤ 24) → (hn_94 : 24 < i_94 + n_94) → (hP : va_P δ vwCl (wR cI cJ cZ aR0 aR1 aR2 aR3 aR4 aR5 aR6 aR7 aR8 aR9 aR10 aR11 aR12 aR13 aR14 aR15 aR16 aR17 aR18 aR19 aR20 aR21 lv sg pd ac dd hd le bd my_94 lf pa kp) H) → (hD : va_D A (wR cI cJ cZ aR0 aR1 aR2 aR3 aR4 aR5 aR6 aR7 aR8 aR9 aR10 aR11 aR12 aR13 aR14 aR15 aR16 aR17 aR18 aR19 aR20 aR21 lv sg pd ac dd hd le bd my_94 lf pa kp)) → (hS : va_S A s.heap H locs) → (hl : lv_has ls 7 [(6, .int (nI i_94)), (5, .int v5_94), (4, .int v4_94), (0, .ref aR0), (1, .int xs), (2, .int xv), (3, .int xh)]) → (kk : ∀ (w_94 : Int32 × Int32 × MY) (H : Heap) (locs : List Loc) (ls : Array Slot), L_X6_match_94 lv xh n_94 i_94 v5_94 v4_94 my_94 = w_94 → va_P δ vwCl (wR cI cJ cZ aR0 aR1 aR2 aR3 aR4 aR5 aR6 aR7 aR8 aR9 aR10 aR11 aR12 aR13 aR14 aR15 aR16 aR17 aR18 aR19 aR20 aR21 lv sg pd ac dd hd le bd w_94.2.2 lf pa kp) H → va_D A (wR cI cJ cZ aR0 aR1 aR2 aR3 aR4 aR5 aR6 aR7 aR8 aR9 aR10 aR11 aR12 aR13 aR14 aR15 aR16 aR17 aR18 aR19 aR20 aR21 lv sg pd ac dd hd le bd w_94.2.2 lf pa kp) → va_S A s.heap H locs → lv_has ls 7 [(5, .int w_94.1), (4, .int w_94.2.1), (0, .ref aR0), (1, .int xs), (2, .int xv), (3, .int xh)] → W p l e rm_X6_match s m args below meth c H locs 0 0 Q (F0 m 138 ls [])) → W p l e rm_X6_match s m args below meth c H locs 0 0 Q (F0 m 94 ls []) := by
            intro n_94
            induction n_94 with
            | zero => intro i_94 v5_94 v4_94 my_94 H locs ls hi_94 hn_94 hP hD hS hl kk; exact absurd hn_94 (by omega)
            | succ n_94 ih_94 =>
              intro i_94 v5_94 v4_94 my_94 H locs ls hi_94 hn_94 hP hD hS hl kk
              have hR := L_X6_match_94_s lv xh n_94 i_94 v5_94 v4_94 my_94
              refine lv_iload hx hb dX6_match_94 (lv_at hl 0 rfl) ?_
              refine lv_iload_n hx hb dX6_match_96 rfl (lv_at hl 6 rfl) ?_
              refine lv_icmp_gt (tgt := 138) hx hb dX6_match_97 (by decide) (fun c_97 => ?_) (fun c_97 => ?_)
              · have c_97 : (xh < (nI i_94)) := c_97
                have hR := hR.trans (if_pos c_97)
                exact kk (v5_94, v4_94, my_94) H locs ls hR hP hD hS (lv_sub hl [1, 2, 3, 4, 5, 6] rfl)
              · have c_97 : ¬ (xh < (nI i_94)) := c_97
                have hR := hR.trans (if_neg c_97)
                have hlt_94 : i_94 < 24 := lt_m c_97 (by first | exact isHour_in hw_33 c_36 | exact absurd c_29 c_75) hi_94
                refine lv_iload hx hb dX6_match_100 (lv_at hl 2 rfl) ?_
                refine lv_iload hx hb dX6_match_102 (lv_at hl 0 rfl) ?_
                refine lv_ishr hx hb dX6_match_104 ?_
                refine lv_iconst (v := (1 : Int32)) hx hb dX6_match_105 (by decide) ?_
                refine lv_iand hx hb dX6_match_106 ?_
                refine lv_iconst (v := (1 : Int32)) hx hb dX6_match_107 (by decide) ?_
                refine lv_icmp_ne (tgt := 132) hx hb dX6_match_108 (by decide) (fun c_108 => ?_) (fun c_108 => ?_)
                · have c_108 : ¬ (((v4_94 >>> ((nI i_94) &&& 31)) &&& (1 : Int32)) = (1 : Int32)) := c_108
                  have hR := hR.trans (if_neg c_108)
                  refine lv_iinc (v := (nI (i_94 + 1))) (lv' := [(6, .int (nI (i_94 + 1))), (5, .int v5_94), (4, .int v4_94), (0, .ref aR0), (1, .int xs), (2, .int xv), (3, .int xh)]) hx hb dX6_match_132 hl (k := 0) rfl (nI_1 i_94) (by decide) rfl (fun ls hl => ?_)
                  refine lv_goto (tgt := 94) hx hb dX6_match_135 (by decide) ?_
                  exact ih_94 (i_94 + 1) v5_94 v4_94 my_94 _ _ _ (by omega) (by omega) hP hD hS (lv_sub hl [0, 1, 2, 3, 4, 5, 6] rfl) (fun w_94 H locs ls he hP hD hS hl => kk w_94 H locs ls (hR.trans he) hP hD hS hl)
                · have c_108 : (((v4_94 >>> ((nI i_94) &&& 31)) &&& (1 : Int32)) = (1 : Int32)) := c_108
                  have hR := hR.trans (if_pos c_108)
                  refine lv_iload hx hb dX6_match_111 (lv_at hl 2 rfl) ?_
                  refine lv_iconst (v := (1 : Int32)) hx hb dX6_match_113 (by decide) ?_
                  refine lv_iload hx hb dX6_match_114 (lv_at hl 0 rfl) ?_
                  refine lv_ishl hx hb dX6_match_116 ?_
                  refine lv_iconst (v := (-1 : Int32)) hx hb dX6_match_117 (by decide) ?_
                  refine lv_ixor hx hb dX6_match_118 ?_
                  refine lv_iand hx hb dX6_match_119 ?_
                  refine lv_istore (lv' := [(4, .int (v4_94 &&& (((1 : Int32) <<< ((nI i_94) &&& 31)) ^^^ (-1 : Int32)))), (6, .int (nI i_94)), (5, .int v5_94), (0, .ref aR0), (1, .int xs), (2, .int xv), (3, .int xh)]) hx hb dX6_match_120 hl (by decide) rfl (fun ls hl => ?_)
                  refine lv_aload_n hx hb dX6_match_122 rfl (lv_at hl 3 rfl) ?_
                  refine lv_iload hx hb dX6_match_123 (lv_at hl 1 rfl) ?_
                  refine lv_iload hx hb dX6_match_125 (lv_at hl 0 rfl) ?_
                  have hr := mrV (p := p) (e := e) (R := rm_X6_match) (below := below) (meth := meth) (H := H) (locs := locs) (ls := ls) (As := [.int (nI i_94), .int (v4_94 &&& (((1 : Int32) <<< ((nI i_94) &&& 31)) ^^^ (-1 : Int32)))]) (rest := []) (c_X6_doer l δ cI cJ cZ aR0 aR1 aR2 aR3 aR4 aR5 aR6 aR7 aR8 aR9 aR10 aR11 aR12 aR13 aR14 aR15 aR16 aR17 aR18 aR19 aR20 aR21 lv sg pd ac dd hd le bd my_94 lf pa kp (nI i_94) (v4_94 &&& (((1 : Int32) <<< ((nI i_94) &&& 31)) ^^^ (-1 : Int32))) (vp_in_nI hlt_94 (by decide))) hx hb hml hts hown hK hNW hP hD [0, 1, 2, 3, 4, 5, 6, 7, 8, 9, 10, 11, 12, 13, 14, 15, 16, 17, 18, 19, 20, 21] rfl rfl 6 0 rfl rfl (cwV 2 hts gX6_match_X6_doer rfl rfl rfl (by decide +kernel) ⟨(Nat.le_of_ble_eq_true rfl), (Nat.le_of_ble_eq_true rfl)⟩) rfl hl.1 rfl (Nat.le_of_ble_eq_true rfl) dX6_match_127
                  refine mc_i (wr := ([] : va_W)) hr hP hD hS hA [0, 1, 2, 3, 4, 5, 6, 7, 8, 9, 10, 11, 12, 13, 14, 15, 16, 17, 18, 19, 20, 21] [] [0, 1, 2, 3, 4, 5, 6, 7, 8, 9, 10, 11, 12, 13, 14, 15, 16, 17, 18, 19, 20, 21] rfl rfl rfl rfl rfl (wn := fun u_127 => (wR cI cJ cZ aR0 aR1 aR2 aR3 aR4 aR5 aR6 aR7 aR8 aR9 aR10 aR11 aR12 aR13 aR14 aR15 aR16 aR17 aR18 aR19 aR20 aR21 lv sg pd ac dd hd le bd u_127 lf pa kp)) (fun _ => rfl) (fun r_127 u_127 H locs hw_127 hP hD hS => ?_)
                  have hP : va_P δ vwCl (wR cI cJ cZ aR0 aR1 aR2 aR3 aR4 aR5 aR6 aR7 aR8 aR9 aR10 aR11 aR12 aR13 aR14 aR15 aR16 aR17 aR18 aR19 aR20 aR21 lv sg pd ac dd hd le bd u_127 lf pa kp) H := hP
                  have hD : va_D A (wR cI cJ cZ aR0 aR1 aR2 aR3 aR4 aR5 aR6 aR7 aR8 aR9 aR10 aR11 aR12 aR13 aR14 aR15 aR16 aR17 aR18 aR19 aR20 aR21 lv sg pd ac dd hd le bd u_127 lf pa kp) := hD
                  have hR := bnd_eq hR hw_127.symm
                  refine lv_istore (lv' := [(5, .int r_127), (4, .int (v4_94 &&& (((1 : Int32) <<< ((nI i_94) &&& 31)) ^^^ (-1 : Int32)))), (6, .int (nI i_94)), (0, .ref aR0), (1, .int xs), (2, .int xv), (3, .int xh)]) hx hb dX6_match_130 hl (by decide) rfl (fun ls hl => ?_)
                  refine lv_iinc (v := (nI (i_94 + 1))) (lv' := [(6, .int (nI (i_94 + 1))), (5, .int r_127), (4, .int (v4_94 &&& (((1 : Int32) <<< ((nI i_94) &&& 31)) ^^^ (-1 : Int32)))), (0, .ref aR0), (1, .int xs), (2, .int xv), (3, .int xh)]) hx hb dX6_match_132 hl (k := 2) rfl (nI_1 i_94) (by decide) rfl (fun ls hl => ?_)
                  refine lv_goto (tgt := 94) hx hb dX6_match_135 (by decide) ?_
                  exact ih_94 (i_94 + 1) r_127 (v4_94 &&& (((1 : Int32) <<< ((nI i_94) &&& 31)) ^^^ (-1 : Int32))) u_127 _ _ _ (by omega) (by omega) hP hD hS (lv_sub hl [0, 1, 2, 3, 4, 5, 6] rfl) (fun w_94 H locs ls he hP hD hS hl => kk w_94 H locs ls (hR.trans he) hP hD hS hl)
          refine hloop_94 (24 + 1) 0 (-6 : Int32) xs w_52 _ _ _ (by omega) (by omega) hP hD hS (lv_sub hl [0, 1, 2, 3, 4, 5, 6] rfl) (fun w_94 H locs ls hw_94 hP hD hS hl => ?_)
          have hP : va_P δ vwCl (wR cI cJ cZ aR0 aR1 aR2 aR3 aR4 aR5 aR6 aR7 aR8 aR9 aR10 aR11 aR12 aR13 aR14 aR15 aR16 aR17 aR18 aR19 aR20 aR21 lv sg pd ac dd hd le bd w_94.2.2 lf pa kp) H := hP
          have hD : va_D A (wR cI cJ cZ aR0 aR1 aR2 aR3 aR4 aR5 aR6 aR7 aR8 aR9 aR10 aR11 aR12 aR13 aR14 aR15 aR16 aR17 aR18 aR19 aR20 aR21 lv sg pd ac dd hd le bd w_94.2.2 lf pa kp) := hD
          have hR := bnd_eq hR hw_94.symm
          refine lv_iload hx hb dX6_match_138 (lv_at hl 0 rfl) ?_
          exact hret _ _ w_94.1 w_94.2.2 _ _ hR hP hD hS dX6_match_140
        · have c_75 : (xh = (-1 : Int32)) := c_75
          have hR := hR.trans (if_pos c_75)
          refine lv_aload_n hx hb dX6_match_78 rfl (lv_at hl 0 rfl) ?_
          refine lv_iload_n hx hb dX6_match_79 rfl (lv_at hl 1 rfl) ?_
          have hr := mrV (p := p) (e := e) (R := rm_X6_match) (below := below) (meth := meth) (H := H) (locs := locs) (ls := ls) (As := [.int xs]) (rest := []) (c_X6_mostDeeds l δ cI cJ cZ aR0 aR1 aR2 aR3 aR4 aR5 aR6 aR7 aR8 aR9 aR10 aR11 aR12 aR13 aR14 aR15 aR16 aR17 aR18 aR19 aR20 aR21 lv sg pd ac dd hd le bd w_52 lf pa kp xs) hx hb hml hts hown hK hNW hP hD [0, 1, 2, 3, 4, 5, 6, 7, 8, 9, 10, 11, 12, 13, 14, 15, 16, 17, 18, 19, 20, 21] rfl rfl 6 0 rfl rfl (cwV 1 hts gX6_match_X6_mostDeeds rfl rfl rfl (by decide +kernel) ⟨(Nat.le_of_ble_eq_true rfl), (Nat.le_of_ble_eq_true rfl)⟩) rfl hl.1 rfl (Nat.le_of_ble_eq_true rfl) dX6_match_80
          refine mc_i (wr := ([] : va_W)) hr hP hD hS hA [0, 1, 2, 3, 4, 5, 6, 7, 8, 9, 10, 11, 12, 13, 14, 15, 16, 17, 18, 19, 20, 21] [] [0, 1, 2, 3, 4, 5, 6, 7, 8, 9, 10, 11, 12, 13, 14, 15, 16, 17, 18, 19, 20, 21] rfl rfl rfl rfl rfl (wn := fun _ => (wR cI cJ cZ aR0 aR1 aR2 aR3 aR4 aR5 aR6 aR7 aR8 aR9 aR10 aR11 aR12 aR13 aR14 aR15 aR16 aR17 aR18 aR19 aR20 aR21 lv sg pd ac dd hd le bd w_52 lf pa kp)) (fun _ => rfl) (fun r_80 _ H locs hw_80 hP hD hS => ?_)
          have hP : va_P δ vwCl (wR cI cJ cZ aR0 aR1 aR2 aR3 aR4 aR5 aR6 aR7 aR8 aR9 aR10 aR11 aR12 aR13 aR14 aR15 aR16 aR17 aR18 aR19 aR20 aR21 lv sg pd ac dd hd le bd w_52 lf pa kp) H := hP
          have hD : va_D A (wR cI cJ cZ aR0 aR1 aR2 aR3 aR4 aR5 aR6 aR7 aR8 aR9 aR10 aR11 aR12 aR13 aR14 aR15 aR16 aR17 aR18 aR19 aR20 aR21 lv sg pd ac dd hd le bd w_52 lf pa kp) := hD
          have hR := bnd_eq hR hw_80.symm
          exact hret _ _ r_80 w_52 _ _ hR hP hD hS dX6_match_83
      · have c_29 : ¬ (xh = (-1 : Int32)) := c_29
        have hR := hR.trans (if_neg c_29)
        refine lv_iload_n hx hb dX6_match_32 rfl (lv_at hl 3 rfl) ?_
        have hr := mrS (p := p) (e := e) (R := rm_X6_match) (below := below) (meth := meth) (H := H) (locs := locs) (ls := ls) (As := [.int xh]) (rest := []) (c_X6_isHour l δ cI cJ cZ xh) hx hb hml hts hown hK hNW hP hD [] rfl rfl (va_cwS 1 hts gX6_match_X6_isHour rfl rfl rfl (by decide +kernel) ⟨(Nat.le_of_ble_eq_true rfl), (Nat.le_of_ble_eq_true rfl)⟩) rfl hl.1 rfl (Nat.le_of_ble_eq_true rfl) dX6_match_33
        refine mc_i (wr := (wR cI cJ cZ aR0 aR1 aR2 aR3 aR4 aR5 aR6 aR7 aR8 aR9 aR10 aR11 aR12 aR13 aR14 aR15 aR16 aR17 aR18 aR19 aR20 aR21 lv sg pd ac dd hd le bd my lf pa kp)) hr hP hD hS hA [] [0, 1, 2, 3, 4, 5, 6, 7, 8, 9, 10, 11, 12, 13, 14, 15, 16, 17, 18, 19, 20, 21] [0, 1, 2, 3, 4, 5, 6, 7, 8, 9, 10, 11, 12, 13, 14, 15, 16, 17, 18, 19, 20, 21] rfl rfl rfl rfl rfl (wn := fun _ => (wR cI cJ cZ aR0 aR1 aR2 aR3 aR4 aR5 aR6 aR7 aR8 aR9 aR10 aR11 aR12 aR13 aR14 aR15 aR16 aR17 aR18 aR19 aR20 aR21 lv sg pd ac dd hd le bd my lf pa kp)) (fun _ => rfl) (fun r_33 _ H locs hw_33 hP hD hS => ?_)
        obtain ⟨hw_33, z_33⟩ := hw_33
        have hP : va_P δ vwCl (wR cI cJ cZ aR0 aR1 aR2 aR3 aR4 aR5 aR6 aR7 aR8 aR9 aR10 aR11 aR12 aR13 aR14 aR15 aR16 aR17 aR18 aR19 aR20 aR21 lv sg pd ac dd hd le bd my lf pa kp) H := hP
        have hD : va_D A (wR cI cJ cZ aR0 aR1 aR2 aR3 aR4 aR5 aR6 aR7 aR8 aR9 aR10 aR11 aR12 aR13 aR14 aR15 aR16 aR17 aR18 aR19 aR20 aR21 lv sg pd ac dd hd le bd my lf pa kp) := hD
        have hR := bnd_eq hR hw_33.symm
        refine lv_if_eq (tgt := 47) hx hb dX6_match_36 (by decide) (fun c_36 => ?_) (fun c_36 => ?_)
        · have c_36 : (r_33 = 0) := c_36
          have hR := hR.trans (if_pos c_36)
          refine lv_iconst (v := (-1 : Int32)) hx hb dX6_match_47 (by decide) ?_
          exact hret _ _ (-1 : Int32) my _ _ hR hP hD hS dX6_match_48
        · have c_36 : ¬ (r_33 = 0) := c_36
          have hR := hR.trans (if_neg c_36)
          refine lv_iload_n hx hb dX6_match_39 rfl (lv_at hl 1 rfl) ?_
          refine lv_iload_n hx hb dX6_match_40 rfl (lv_at hl 3 rfl) ?_
          refine lv_ishr hx hb dX6_match_41 ?_
          refine lv_iconst (v := (1 : Int32)) hx hb dX6_match_42 (by decide) ?_
          refine lv_iand hx hb dX6_match_43 ?_
          refine lv_if_ne (tgt := 49) hx hb dX6_match_44 (by decide) (fun c_44 => ?_) (fun c_44 => ?_)
          · have c_44 : ¬ (((xs >>> (xh &&& 31)) &&& (1 : Int32)) = 0) := c_44
            have hR := hR.trans (if_neg c_44)
            refine lv_iconst (v := (0 : Int32)) hx hb dX6_match_49 (by decide) ?_
            refine lv_istore (lv' := [(4, .int (0 : Int32)), (0, .ref aR0), (1, .int xs), (2, .int xv), (3, .int xh)]) hx hb dX6_match_50 hl (by decide) rfl (fun ls hl => ?_)
            have hloop_52 : ∀ (n_52 : Nat) (i_52 : Nat) (my_52 : MY) (H : Heap) (locs : List Loc) (ls : Array Slot), (hi_52 : i_52 ≤ 6) → (hn_52 : 6 < i_52 + n_52) → (hP : va_P δ vwCl (wR cI cJ cZ aR0 aR1 aR2 aR3 aR4 aR5 aR6 aR7 aR8 aR9 aR10 aR11 aR12 aR13 aR14 aR15 aR16 aR17 aR18 aR19 aR20 aR21 lv sg pd ac dd hd le bd my_52 lf pa kp) H) → (hD : va_D A (wR cI cJ cZ aR0 aR1 aR2 aR3 aR4 aR5 aR6 aR7 aR8 aR9 aR10 aR11 aR12 aR13 aR14 aR15 aR16 aR17 aR18 aR19 aR20 aR21 lv sg pd ac dd hd le bd my_52 lf pa kp)) → (hS : va_S A s.heap H locs) → (hl : lv_has ls 7 [(4, .int (nI i_52)), (0, .ref aR0), (1, .int xs), (2, .int xv), (3, .int xh)]) → (kk : ∀ (w_52 : MY) (H : Heap) (locs : List Loc) (ls : Array Slot), L_X6_match_52 xv n_52 i_52 my_52 = w_52 → va_P δ vwCl (wR cI cJ cZ aR0 aR1 aR2 aR3 aR4 aR5 aR6 aR7 aR8 aR9 aR10 aR11 aR12 aR13 aR14 aR15 aR16 aR17 aR18 aR19 aR20 aR21 lv sg pd ac dd hd le bd w_52 lf pa kp) H → va_D A (wR cI cJ cZ aR0 aR1 aR2 aR3 aR4 aR5 aR6 aR7 aR8 aR9 aR10 aR11 aR12 aR13 aR14 aR15 aR16 aR17 aR18 aR19 aR20 aR21 lv sg pd ac dd hd le bd w_52 lf pa kp) → va_S A s.heap H locs → lv_has ls 7 [(0, .ref aR0), (1, .int xs), (2, .int xv), (3, .int xh)] → W p l e rm_X6_match s m args below meth c H locs 0 0 Q (F0 m 73 ls [])) → W p l e rm_X6_match s m args below meth c H locs 0 0 Q (F0 m 52 ls []) := by
              intro n_52
              induction n_52 with
              | zero => intro i_52 my_52 H locs ls hi_52 hn_52 hP hD hS hl kk; exact absurd hn_52 (by omega)
              | succ n_52 ih_52 =>
                intro i_52 my_52 H locs ls hi_52 hn_52 hP hD hS hl kk
                have hR := L_X6_match_52_s xv n_52 i_52 my_52
                refine lv_iload hx hb dX6_match_52 (lv_at hl 0 rfl) ?_
                refine lv_bipush (v := (6 : Int32)) hx hb dX6_match_54 (by decide) ?_
                refine lv_icmp_ge (tgt := 73) hx hb dX6_match_56 (by decide) (fun c_56 => ?_) (fun c_56 => ?_)
                · have c_56 : ((6 : Int32) ≤ (nI i_52)) := c_56
                  have hR := hR.trans (if_pos c_56)
                  exact kk my_52 H locs ls hR hP hD hS (lv_sub hl [1, 2, 3, 4] rfl)
                · have c_56 : ¬ ((6 : Int32) ≤ (nI i_52)) := c_56
                  have hR := hR.trans (if_neg c_56)
                  have hlt_52 : i_52 < 6 := lt_g c_56 hi_52 (by decide)
                  refine lv_aload_n hx hb dX6_match_59 rfl (lv_at hl 1 rfl) ?_
                  refine va_get (D := δ) (ci := 6) (v := .ref aR17) (C := RX6) (T := TX6) (N := 34) hx hb hts hinX6 hown hK hP 0 rfl rfl 27 (by decide) (hts (.fieldLink RX6 58 "GloveHoursModel" "may" "[I") (List.mem_of_getElem? (i := 3) rfl)) (fun _ h9 => h9) rfl dX6_match_60 ?_
                  refine lv_iload hx hb dX6_match_63 (lv_at hl 0 rfl) ?_
                  refine lv_iload_n hx hb dX6_match_65 rfl (lv_at hl 3 rfl) ?_
                  refine va_iast hx hb hK hP hD hS 17 0 rfl rfl (vp_in_nI (by omega) (by decide)) dX6_match_66 (fun H locs hP hD hS => ?_)
                  have hP : va_P δ vwCl (wR cI cJ cZ aR0 aR1 aR2 aR3 aR4 aR5 aR6 aR7 aR8 aR9 aR10 aR11 aR12 aR13 aR14 aR15 aR16 aR17 aR18 aR19 aR20 aR21 lv sg pd ac dd hd le bd (upd (yMay my_52) (nI i_52).toNatClampNeg xv) lf pa kp) H := hP
                  have hD : va_D A (wR cI cJ cZ aR0 aR1 aR2 aR3 aR4 aR5 aR6 aR7 aR8 aR9 aR10 aR11 aR12 aR13 aR14 aR15 aR16 aR17 aR18 aR19 aR20 aR21 lv sg pd ac dd hd le bd (upd (yMay my_52) (nI i_52).toNatClampNeg xv) lf pa kp) := hD
                  refine lv_iinc (v := (nI (i_52 + 1))) (lv' := [(4, .int (nI (i_52 + 1))), (0, .ref aR0), (1, .int xs), (2, .int xv), (3, .int xh)]) hx hb dX6_match_67 hl (k := 0) rfl (nI_1 i_52) (by decide) rfl (fun ls hl => ?_)
                  refine lv_goto (tgt := 52) hx hb dX6_match_70 (by decide) ?_
                  exact ih_52 (i_52 + 1) (upd (yMay my_52) (nI i_52).toNatClampNeg xv) _ _ _ (by omega) (by omega) hP hD hS (lv_sub hl [0, 1, 2, 3, 4] rfl) (fun w_52 H locs ls he hP hD hS hl => kk w_52 H locs ls (hR.trans he) hP hD hS hl)
            refine hloop_52 (6 + 1) 0 my _ _ _ (by omega) (by omega) hP hD hS (lv_sub hl [0, 1, 2, 3, 4] rfl) (fun w_52 H locs ls hw_52 hP hD hS hl => ?_)
            have hP : va_P δ vwCl (wR cI cJ cZ aR0 aR1 aR2 aR3 aR4 aR5 aR6 aR7 aR8 aR9 aR10 aR11 aR12 aR13 aR14 aR15 aR16 aR17 aR18 aR19 aR20 aR21 lv sg pd ac dd hd le bd w_52 lf pa kp) H := hP
            have hD : va_D A (wR cI cJ cZ aR0 aR1 aR2 aR3 aR4 aR5 aR6 aR7 aR8 aR9 aR10 aR11 aR12 aR13 aR14 aR15 aR16 aR17 aR18 aR19 aR20 aR21 lv sg pd ac dd hd le bd w_52 lf pa kp) := hD
            have hR := bnd_eq hR hw_52.symm
            refine lv_iload_n hx hb dX6_match_73 rfl (lv_at hl 3 rfl) ?_
            refine lv_iconst (v := (-1 : Int32)) hx hb dX6_match_74 (by decide) ?_
            refine lv_icmp_ne (tgt := 84) hx hb dX6_match_75 (by decide) (fun c_75 => ?_) (fun c_75 => ?_)
            · have c_75 : ¬ (xh = (-1 : Int32)) := c_75
              have hR := hR.trans (if_neg c_75)
              refine lv_iload_n hx hb dX6_match_84 rfl (lv_at hl 1 rfl) ?_
              refine lv_istore (lv' := [(4, .int xs), (0, .ref aR0), (1, .int xs), (2, .int xv), (3, .int xh)]) hx hb dX6_match_85 hl (by decide) rfl (fun ls hl => ?_)
              refine lv_bipush (v := (-6 : Int32)) hx hb dX6_match_87 (by decide) ?_
              refine lv_istore (lv' := [(5, .int (-6 : Int32)), (4, .int xs), (0, .ref aR0), (1, .int xs), (2, .int xv), (3, .int xh)]) hx hb dX6_match_89 hl (by decide) rfl (fun ls hl => ?_)
              refine lv_iconst (v := (0 : Int32)) hx hb dX6_match_91 (by decide) ?_
              refine lv_istore (lv' := [(6, .int (0 : Int32)), (5, .int (-6 : Int32)), (4, .int xs), (0, .ref aR0), (1, .int xs), (2, .int xv), (3, .int xh)]) hx hb dX6_match_92 hl (by decide) rfl (fun ls hl => ?_)
              have hloop_94 : ∀ (n_94 : Nat) (i_94 : Nat) (v5_94 : Int32) (v4_94 : Int32) (my_94 : MY) (H : Heap) (locs : List Loc) (ls : Array Slot), (hi_94 : i_94 ≤ 24) → (hn_94 : 24 < i_94 + n_94) → (hP : va_P δ vwCl (wR cI cJ cZ aR0 aR1 aR2 aR3 aR4 aR5 aR6 aR7 aR8 aR9 aR10 aR11 aR12 aR13 aR14 aR15 aR16 aR17 aR18 aR19 aR20 aR21 lv sg pd ac dd hd le bd my_94 lf pa kp) H) → (hD : va_D A (wR cI cJ cZ aR0 aR1 aR2 aR3 aR4 aR5 aR6 aR7 aR8 aR9 aR10 aR11 aR12 aR13 aR14 aR15 aR16 aR17 aR18 aR19 aR20 aR21 lv sg pd ac dd hd le bd my_94 lf pa kp)) → (hS : va_S A s.heap H locs) → (hl : lv_has ls 7 [(6, .int (nI i_94)), (5, .int v5_94), (4, .int v4_94), (0, .ref aR0), (1, .int xs), (2, .int xv), (3, .int xh)]) → (kk : ∀ (w_94 : Int32 × Int32 × MY) (H : Heap) (locs : List Loc) (ls : Array Slot), L_X6_match_94 lv xh n_94 i_94 v5_94 v4_94 my_94 = w_94 → va_P δ vwCl (wR cI cJ cZ aR0 aR1 aR2 aR3 aR4 aR5 aR6 aR7 aR8 aR9 aR10 aR11 aR12 aR13 aR14 aR15 aR16 aR17 aR18 aR19 aR20 aR21 lv sg pd ac dd hd le bd w_94.2.2 lf pa kp) H → va_D A (wR cI cJ cZ aR0 aR1 aR2 aR3 aR4 aR5 aR6 aR7 aR8 aR9 aR10 aR11 aR12 aR13 aR14 aR15 aR16 aR17 aR18 aR19 aR20 aR21 lv sg pd ac dd hd le bd w_94.2.2 lf pa kp) → va_S A s.heap H locs → lv_has ls 7 [(5, .int w_94.1), (4, .int w_94.2.1), (0, .ref aR0), (1, .int xs), (2, .int xv), (3, .int xh)] → W p l e rm_X6_match s m args below meth c H locs 0 0 Q (F0 m 138 ls [])) → W p l e rm_X6_match s m args below meth c H locs 0 0 Q (F0 m 94 ls []) := by
                intro n_94
                induction n_94 with
                | zero => intro i_94 v5_94 v4_94 my_94 H locs ls hi_94 hn_94 hP hD hS hl kk; exact absurd hn_94 (by omega)
                | succ n_94 ih_94 =>
                  intro i_94 v5_94 v4_94 my_94 H locs ls hi_94 hn_94 hP hD hS hl kk
                  have hR := L_X6_match_94_s lv xh n_94 i_94 v5_94 v4_94 my_94
                  refine lv_iload hx hb dX6_match_94 (lv_at hl 0 rfl) ?_
                  refine lv_iload_n hx hb dX6_match_96 rfl (lv_at hl 6 rfl) ?_
                  refine lv_icmp_gt (tgt := 138) hx hb dX6_match_97 (by decide) (fun c_97 => ?_) (fun c_97 => ?_)
                  · have c_97 : (xh < (nI i_94)) := c_97
                    have hR := hR.trans (if_pos c_97)
                    exact kk (v5_94, v4_94, my_94) H locs ls hR hP hD hS (lv_sub hl [1, 2, 3, 4, 5, 6] rfl)
                  · have c_97 : ¬ (xh < (nI i_94)) := c_97
                    have hR := hR.trans (if_neg c_97)
                    have hlt_94 : i_94 < 24 := lt_m c_97 (by first | exact isHour_in hw_33 c_36 | exact absurd c_29 c_75) hi_94
                    refine lv_iload hx hb dX6_match_100 (lv_at hl 2 rfl) ?_
                    refine lv_iload hx hb dX6_match_102 (lv_at hl 0 rfl) ?_
                    refine lv_ishr hx hb dX6_match_104 ?_
                    refine lv_iconst (v := (1 : Int32)) hx hb dX6_match_105 (by decide) ?_
                    refine lv_iand hx hb dX6_match_106 ?_
                    refine lv_iconst (v := (1 : Int32)) hx hb dX6_match_107 (by decide) ?_
                    refine lv_icmp_ne (tgt := 132) hx hb dX6_match_108 (by decide) (fun c_108 => ?_) (fun c_108 => ?_)
                    · have c_108 : ¬ (((v4_94 >>> ((nI i_94) &&& 31)) &&& (1 : Int32)) = (1 : Int32)) := c_108
                      have hR := hR.trans (if_neg c_108)
                      refine lv_iinc (v := (nI (i_94 + 1))) (lv' := [(6, .int (nI (i_94 + 1))), (5, .int v5_94), (4, .int v4_94), (0, .ref aR0), (1, .int xs), (2, .int xv), (3, .int xh)]) hx hb dX6_match_132 hl (k := 0) rfl (nI_1 i_94) (by decide) rfl (fun ls hl => ?_)
                      refine lv_goto (tgt := 94) hx hb dX6_match_135 (by decide) ?_
                      exact ih_94 (i_94 + 1) v5_94 v4_94 my_94 _ _ _ (by omega) (by omega) hP hD hS (lv_sub hl [0, 1, 2, 3, 4, 5, 6] rfl) (fun w_94 H locs ls he hP hD hS hl => kk w_94 H locs ls (hR.trans he) hP hD hS hl)
                    · have c_108 : (((v4_94 >>> ((nI i_94) &&& 31)) &&& (1 : Int32)) = (1 : Int32)) := c_108
                      have hR := hR.trans (if_pos c_108)
                      refine lv_iload hx hb dX6_match_111 (lv_at hl 2 rfl) ?_
                      refine lv_iconst (v := (1 : Int32)) hx hb dX6_match_113 (by decide) ?_
                      refine lv_iload hx hb dX6_match_114 (lv_at hl 0 rfl) ?_
                      refine lv_ishl hx hb dX6_match_116 ?_
                      refine lv_iconst (v := (-1 : Int32)) hx hb dX6_match_117 (by decide) ?_
                      refine lv_ixor hx hb dX6_match_118 ?_
                      refine lv_iand hx hb dX6_match_119 ?_
                      refine lv_istore (lv' := [(4, .int (v4_94 &&& (((1 : Int32) <<< ((nI i_94) &&& 31)) ^^^ (-1 : Int32)))), (6, .int (nI i_94)), (5, .int v5_94), (0, .ref aR0), (1, .int xs), (2, .int xv), (3, .int xh)]) hx hb dX6_match_120 hl (by decide) rfl (fun ls hl => ?_)
                      refine lv_aload_n hx hb dX6_match_122 rfl (lv_at hl 3 rfl) ?_
                      refine lv_iload hx hb dX6_match_123 (lv_at hl 1 rfl) ?_
                      refine lv_iload hx hb dX6_match_125 (lv_at hl 0 rfl) ?_
                      have hr := mrV (p := p) (e := e) (R := rm_X6_match) (below := below) (meth := meth) (H := H) (locs := locs) (ls := ls) (As := [.int (nI i_94), .int (v4_94 &&& (((1 : Int32) <<< ((nI i_94) &&& 31)) ^^^ (-1 : Int32)))]) (rest := []) (c_X6_doer l δ cI cJ cZ aR0 aR1 aR2 aR3 aR4 aR5 aR6 aR7 aR8 aR9 aR10 aR11 aR12 aR13 aR14 aR15 aR16 aR17 aR18 aR19 aR20 aR21 lv sg pd ac dd hd le bd my_94 lf pa kp (nI i_94) (v4_94 &&& (((1 : Int32) <<< ((nI i_94) &&& 31)) ^^^ (-1 : Int32))) (vp_in_nI hlt_94 (by decide))) hx hb hml hts hown hK hNW hP hD [0, 1, 2, 3, 4, 5, 6, 7, 8, 9, 10, 11, 12, 13, 14, 15, 16, 17, 18, 19, 20, 21] rfl rfl 6 0 rfl rfl (cwV 2 hts gX6_match_X6_doer rfl rfl rfl (by decide +kernel) ⟨(Nat.le_of_ble_eq_true rfl), (Nat.le_of_ble_eq_true rfl)⟩) rfl hl.1 rfl (Nat.le_of_ble_eq_true rfl) dX6_match_127
                      refine mc_i (wr := ([] : va_W)) hr hP hD hS hA [0, 1, 2, 3, 4, 5, 6, 7, 8, 9, 10, 11, 12, 13, 14, 15, 16, 17, 18, 19, 20, 21] [] [0, 1, 2, 3, 4, 5, 6, 7, 8, 9, 10, 11, 12, 13, 14, 15, 16, 17, 18, 19, 20, 21] rfl rfl rfl rfl rfl (wn := fun u_127 => (wR cI cJ cZ aR0 aR1 aR2 aR3 aR4 aR5 aR6 aR7 aR8 aR9 aR10 aR11 aR12 aR13 aR14 aR15 aR16 aR17 aR18 aR19 aR20 aR21 lv sg pd ac dd hd le bd u_127 lf pa kp)) (fun _ => rfl) (fun r_127 u_127 H locs hw_127 hP hD hS => ?_)
                      have hP : va_P δ vwCl (wR cI cJ cZ aR0 aR1 aR2 aR3 aR4 aR5 aR6 aR7 aR8 aR9 aR10 aR11 aR12 aR13 aR14 aR15 aR16 aR17 aR18 aR19 aR20 aR21 lv sg pd ac dd hd le bd u_127 lf pa kp) H := hP
                      have hD : va_D A (wR cI cJ cZ aR0 aR1 aR2 aR3 aR4 aR5 aR6 aR7 aR8 aR9 aR10 aR11 aR12 aR13 aR14 aR15 aR16 aR17 aR18 aR19 aR20 aR21 lv sg pd ac dd hd le bd u_127 lf pa kp) := hD
                      have hR := bnd_eq hR hw_127.symm
                      refine lv_istore (lv' := [(5, .int r_127), (4, .int (v4_94 &&& (((1 : Int32) <<< ((nI i_94) &&& 31)) ^^^ (-1 : Int32)))), (6, .int (nI i_94)), (0, .ref aR0), (1, .int xs), (2, .int xv), (3, .int xh)]) hx hb dX6_match_130 hl (by decide) rfl (fun ls hl => ?_)
                      refine lv_iinc (v := (nI (i_94 + 1))) (lv' := [(6, .int (nI (i_94 + 1))), (5, .int r_127), (4, .int (v4_94 &&& (((1 : Int32) <<< ((nI i_94) &&& 31)) ^^^ (-1 : Int32)))), (0, .ref aR0), (1, .int xs), (2, .int xv), (3, .int xh)]) hx hb dX6_match_132 hl (k := 2) rfl (nI_1 i_94) (by decide) rfl (fun ls hl => ?_)
                      refine lv_goto (tgt := 94) hx hb dX6_match_135 (by decide) ?_
                      exact ih_94 (i_94 + 1) r_127 (v4_94 &&& (((1 : Int32) <<< ((nI i_94) &&& 31)) ^^^ (-1 : Int32))) u_127 _ _ _ (by omega) (by omega) hP hD hS (lv_sub hl [0, 1, 2, 3, 4, 5, 6] rfl) (fun w_94 H locs ls he hP hD hS hl => kk w_94 H locs ls (hR.trans he) hP hD hS hl)
              refine hloop_94 (24 + 1) 0 (-6 : Int32) xs w_52 _ _ _ (by omega) (by omega) hP hD hS (lv_sub hl [0, 1, 2, 3, 4, 5, 6] rfl) (fun w_94 H locs ls hw_94 hP hD hS hl => ?_)
              have hP : va_P δ vwCl (wR cI cJ cZ aR0 aR1 aR2 aR3 aR4 aR5 aR6 aR7 aR8 aR9 aR10 aR11 aR12 aR13 aR14 aR15 aR16 aR17 aR18 aR19 aR20 aR21 lv sg pd ac dd hd le bd w_94.2.2 lf pa kp) H := hP
              have hD : va_D A (wR cI cJ cZ aR0 aR1 aR2 aR3 aR4 aR5 aR6 aR7 aR8 aR9 aR10 aR11 aR12 aR13 aR14 aR15 aR16 aR17 aR18 aR19 aR20 aR21 lv sg pd ac dd hd le bd w_94.2.2 lf pa kp) := hD
              have hR := bnd_eq hR hw_94.symm
              refine lv_iload hx hb dX6_match_138 (lv_at hl 0 rfl) ?_
              exact hret _ _ w_94.1 w_94.2.2 _ _ hR hP hD hS dX6_match_140
            · have c_75 : (xh = (-1 : Int32)) := c_75
              have hR := hR.trans (if_pos c_75)
              refine lv_aload_n hx hb dX6_match_78 rfl (lv_at hl 0 rfl) ?_
              refine lv_iload_n hx hb dX6_match_79 rfl (lv_at hl 1 rfl) ?_
              have hr := mrV (p := p) (e := e) (R := rm_X6_match) (below := below) (meth := meth) (H := H) (locs := locs) (ls := ls) (As := [.int xs]) (rest := []) (c_X6_mostDeeds l δ cI cJ cZ aR0 aR1 aR2 aR3 aR4 aR5 aR6 aR7 aR8 aR9 aR10 aR11 aR12 aR13 aR14 aR15 aR16 aR17 aR18 aR19 aR20 aR21 lv sg pd ac dd hd le bd w_52 lf pa kp xs) hx hb hml hts hown hK hNW hP hD [0, 1, 2, 3, 4, 5, 6, 7, 8, 9, 10, 11, 12, 13, 14, 15, 16, 17, 18, 19, 20, 21] rfl rfl 6 0 rfl rfl (cwV 1 hts gX6_match_X6_mostDeeds rfl rfl rfl (by decide +kernel) ⟨(Nat.le_of_ble_eq_true rfl), (Nat.le_of_ble_eq_true rfl)⟩) rfl hl.1 rfl (Nat.le_of_ble_eq_true rfl) dX6_match_80
              refine mc_i (wr := ([] : va_W)) hr hP hD hS hA [0, 1, 2, 3, 4, 5, 6, 7, 8, 9, 10, 11, 12, 13, 14, 15, 16, 17, 18, 19, 20, 21] [] [0, 1, 2, 3, 4, 5, 6, 7, 8, 9, 10, 11, 12, 13, 14, 15, 16, 17, 18, 19, 20, 21] rfl rfl rfl rfl rfl (wn := fun _ => (wR cI cJ cZ aR0 aR1 aR2 aR3 aR4 aR5 aR6 aR7 aR8 aR9 aR10 aR11 aR12 aR13 aR14 aR15 aR16 aR17 aR18 aR19 aR20 aR21 lv sg pd ac dd hd le bd w_52 lf pa kp)) (fun _ => rfl) (fun r_80 _ H locs hw_80 hP hD hS => ?_)
              have hP : va_P δ vwCl (wR cI cJ cZ aR0 aR1 aR2 aR3 aR4 aR5 aR6 aR7 aR8 aR9 aR10 aR11 aR12 aR13 aR14 aR15 aR16 aR17 aR18 aR19 aR20 aR21 lv sg pd ac dd hd le bd w_52 lf pa kp) H := hP
              have hD : va_D A (wR cI cJ cZ aR0 aR1 aR2 aR3 aR4 aR5 aR6 aR7 aR8 aR9 aR10 aR11 aR12 aR13 aR14 aR15 aR16 aR17 aR18 aR19 aR20 aR21 lv sg pd ac dd hd le bd w_52 lf pa kp) := hD
              have hR := bnd_eq hR hw_80.symm
              exact hret _ _ r_80 w_52 _ _ hR hP hD hS dX6_match_83
          · have c_44 : (((xs >>> (xh &&& 31)) &&& (1 : Int32)) = 0) := c_44
            have hR := hR.trans (if_pos c_44)
            refine lv_iconst (v := (-1 : Int32)) hx hb dX6_match_47 (by decide) ?_
            exact hret _ _ (-1 : Int32) my _ _ hR hP hD hS dX6_match_48
    · have c_21 : (r_18 = 0) := c_21
      have hR := hR.trans (if_pos c_21)
      refine lv_bipush (v := (-2 : Int32)) hx hb dX6_match_24 (by decide) ?_
      exact hret _ _ (-2 : Int32) my _ _ hR hP hD hS dX6_match_26

abbrev rm_X6_all : Room := { frames := 4, cells := 0, slots := 0, locals := 91 }
set_option maxHeartbeats 4000000 in
set_option maxRecDepth 100000 in
theorem c_X6_all (l : Launch) (δ : va_G) (cI cJ cZ : ClassId) (aR0 aR1 aR2 aR3 aR4 aR5 aR6 aR7 aR8 aR9 aR10 aR11 aR12 aR13 aR14 aR15 aR16 aR17 aR18 aR19 aR20 aR21 : Nat) (lv : LV) (sg : SG) (pd : PD) (ac : AC) (dd : DD) (hd : HD) (le : LE) (bd : BD) (my : MY) (lf : LF) (pa : PA) (kp : KP) (xs : Int32) (xw : Int32) : mMi l δ (mTy cI cJ cZ) yX6_all wsX6_all rm_X6_all [.ref aR0, .int xs, .int xw] (wR cI cJ cZ aR0 aR1 aR2 aR3 aR4 aR5 aR6 aR7 aR8 aR9 aR10 aR11 aR12 aR13 aR14 aR15 aR16 aR17 aR18 aR19 aR20 aR21 lv sg pd ac dd hd le bd my lf pa kp) (S := Unit) (fun r _ => F_X6_all lv xs xw = r) (fun _ => (wR cI cJ cZ aR0 aR1 aR2 aR3 aR4 aR5 aR6 aR7 aR8 aR9 aR10 aR11 aR12 aR13 aR14 aR15 aR16 aR17 aR18 aR19 aR20 aR21 lv sg pd ac dd hd le bd my lf pa kp)) := by
  refine mk_i (cc := cX6_all) (maxL := 7) (by decide) rfl (Nat.le_of_ble_eq_true rfl) ?_
  intro p e s m args below meth c A Q ls H locs hx hb hml hts hown hK hNW hA hP hD hS hl hret
  have hown : s.vm.findClass RX6 = some m.cls := hown
  have hl : lv_has ls 7 [(0, .ref aR0), (1, .int xs), (2, .int xw)] := hl
  have hinX6 : ∀ w ∈ u_ws RX6 TX6 34, w ∈ wsX6_all := (fun _ h => List.mem_cons_of_mem _ (List.mem_append_right _ (h)))
  have hR := F_X6_all.eq_1 lv xs xw
  refine lv_iload_n hx hb dX6_all_0 rfl (lv_at hl 1 rfl) ?_
  refine lv_i2l (v := (xs.toInt64)) hx hb dX6_all_1 rfl ?_
  refine lv_lconst (v := (0 : Int64)) hx hb dX6_all_2 (by decide) ?_
  refine lv_ldc2 (v := (16777215 : Int64)) hx hb hown (hts (.constantLong RX6 102 (16777215)) (List.mem_of_getElem? (i := 1) rfl)) dX6_all_3 ?_
  have hr := mrS (p := p) (e := e) (R := rm_X6_all) (below := below) (meth := meth) (H := H) (locs := locs) (ls := ls) (As := [.long (xs.toInt64), .long (0 : Int64), .long (16777215 : Int64)]) (rest := []) (c_X6_in l δ cI cJ cZ (xs.toInt64) (0 : Int64) (16777215 : Int64)) hx hb hml hts hown hK hNW hP hD [] rfl rfl (va_cwS 3 hts gX6_all_X6_in rfl rfl rfl (by decide +kernel) ⟨(Nat.le_of_ble_eq_true rfl), (Nat.le_of_ble_eq_true rfl)⟩) rfl hl.1 rfl (Nat.le_of_ble_eq_true rfl) dX6_all_6
  refine mc_i (wr := (wR cI cJ cZ aR0 aR1 aR2 aR3 aR4 aR5 aR6 aR7 aR8 aR9 aR10 aR11 aR12 aR13 aR14 aR15 aR16 aR17 aR18 aR19 aR20 aR21 lv sg pd ac dd hd le bd my lf pa kp)) hr hP hD hS hA [] [0, 1, 2, 3, 4, 5, 6, 7, 8, 9, 10, 11, 12, 13, 14, 15, 16, 17, 18, 19, 20, 21] [0, 1, 2, 3, 4, 5, 6, 7, 8, 9, 10, 11, 12, 13, 14, 15, 16, 17, 18, 19, 20, 21] rfl rfl rfl rfl rfl (wn := fun _ => (wR cI cJ cZ aR0 aR1 aR2 aR3 aR4 aR5 aR6 aR7 aR8 aR9 aR10 aR11 aR12 aR13 aR14 aR15 aR16 aR17 aR18 aR19 aR20 aR21 lv sg pd ac dd hd le bd my lf pa kp)) (fun _ => rfl) (fun r_6 _ H locs hw_6 hP hD hS => ?_)
  obtain ⟨hw_6, z_6⟩ := hw_6
  have hP : va_P δ vwCl (wR cI cJ cZ aR0 aR1 aR2 aR3 aR4 aR5 aR6 aR7 aR8 aR9 aR10 aR11 aR12 aR13 aR14 aR15 aR16 aR17 aR18 aR19 aR20 aR21 lv sg pd ac dd hd le bd my lf pa kp) H := hP
  have hD : va_D A (wR cI cJ cZ aR0 aR1 aR2 aR3 aR4 aR5 aR6 aR7 aR8 aR9 aR10 aR11 aR12 aR13 aR14 aR15 aR16 aR17 aR18 aR19 aR20 aR21 lv sg pd ac dd hd le bd my lf pa kp) := hD
  have hR := bnd_eq hR hw_6.symm
  refine lv_if_eq (tgt := 22) hx hb dX6_all_9 (by decide) (fun c_9 => ?_) (fun c_9 => ?_)
  · have c_9 : (r_6 = 0) := c_9
    have hR := hR.trans (if_pos c_9)
    refine lv_bipush (v := (-2 : Int32)) hx hb dX6_all_22 (by decide) ?_
    exact hret _ _ (-2 : Int32) () _ _ hR hP hD hS dX6_all_24
  · have c_9 : ¬ (r_6 = 0) := c_9
    have hR := hR.trans (if_neg c_9)
    refine lv_iload_n hx hb dX6_all_12 rfl (lv_at hl 2 rfl) ?_
    refine lv_i2l (v := (xw.toInt64)) hx hb dX6_all_13 rfl ?_
    refine lv_lconst (v := (0 : Int64)) hx hb dX6_all_14 (by decide) ?_
    refine lv_lconst (v := (1 : Int64)) hx hb dX6_all_15 (by decide) ?_
    have hr := mrS (p := p) (e := e) (R := rm_X6_all) (below := below) (meth := meth) (H := H) (locs := locs) (ls := ls) (As := [.long (xw.toInt64), .long (0 : Int64), .long (1 : Int64)]) (rest := []) (c_X6_in l δ cI cJ cZ (xw.toInt64) (0 : Int64) (1 : Int64)) hx hb hml hts hown hK hNW hP hD [] rfl rfl (va_cwS 3 hts gX6_all_X6_in rfl rfl rfl (by decide +kernel) ⟨(Nat.le_of_ble_eq_true rfl), (Nat.le_of_ble_eq_true rfl)⟩) rfl hl.1 rfl (Nat.le_of_ble_eq_true rfl) dX6_all_16
    refine mc_i (wr := (wR cI cJ cZ aR0 aR1 aR2 aR3 aR4 aR5 aR6 aR7 aR8 aR9 aR10 aR11 aR12 aR13 aR14 aR15 aR16 aR17 aR18 aR19 aR20 aR21 lv sg pd ac dd hd le bd my lf pa kp)) hr hP hD hS hA [] [0, 1, 2, 3, 4, 5, 6, 7, 8, 9, 10, 11, 12, 13, 14, 15, 16, 17, 18, 19, 20, 21] [0, 1, 2, 3, 4, 5, 6, 7, 8, 9, 10, 11, 12, 13, 14, 15, 16, 17, 18, 19, 20, 21] rfl rfl rfl rfl rfl (wn := fun _ => (wR cI cJ cZ aR0 aR1 aR2 aR3 aR4 aR5 aR6 aR7 aR8 aR9 aR10 aR11 aR12 aR13 aR14 aR15 aR16 aR17 aR18 aR19 aR20 aR21 lv sg pd ac dd hd le bd my lf pa kp)) (fun _ => rfl) (fun r_16 _ H locs hw_16 hP hD hS => ?_)
    obtain ⟨hw_16, z_16⟩ := hw_16
    have hP : va_P δ vwCl (wR cI cJ cZ aR0 aR1 aR2 aR3 aR4 aR5 aR6 aR7 aR8 aR9 aR10 aR11 aR12 aR13 aR14 aR15 aR16 aR17 aR18 aR19 aR20 aR21 lv sg pd ac dd hd le bd my lf pa kp) H := hP
    have hD : va_D A (wR cI cJ cZ aR0 aR1 aR2 aR3 aR4 aR5 aR6 aR7 aR8 aR9 aR10 aR11 aR12 aR13 aR14 aR15 aR16 aR17 aR18 aR19 aR20 aR21 lv sg pd ac dd hd le bd my lf pa kp) := hD
    have hR := bnd_eq hR hw_16.symm
    refine lv_if_ne (tgt := 25) hx hb dX6_all_19 (by decide) (fun c_19 => ?_) (fun c_19 => ?_)
    · have c_19 : ¬ (r_16 = 0) := c_19
      have hR := hR.trans (if_neg c_19)
      refine lv_bipush (v := (-6 : Int32)) hx hb dX6_all_25 (by decide) ?_
      refine lv_istore_n (lv' := [(3, .int (-6 : Int32)), (0, .ref aR0), (1, .int xs), (2, .int xw)]) hx hb dX6_all_27 rfl hl (by decide) rfl (fun ls hl => ?_)
      refine lv_iconst (v := (0 : Int32)) hx hb dX6_all_28 (by decide) ?_
      refine lv_istore (lv' := [(4, .int (0 : Int32)), (3, .int (-6 : Int32)), (0, .ref aR0), (1, .int xs), (2, .int xw)]) hx hb dX6_all_29 hl (by decide) rfl (fun ls hl => ?_)
      have hloop_31 : ∀ (n_31 : Nat) (i_31 : Nat) (v3_31 : Int32) (H : Heap) (locs : List Loc) (ls : Array Slot), (hi_31 : i_31 ≤ 64) → (hn_31 : 64 < i_31 + n_31) → (hP : va_P δ vwCl (wR cI cJ cZ aR0 aR1 aR2 aR3 aR4 aR5 aR6 aR7 aR8 aR9 aR10 aR11 aR12 aR13 aR14 aR15 aR16 aR17 aR18 aR19 aR20 aR21 lv sg pd ac dd hd le bd my lf pa kp) H) → (hD : va_D A (wR cI cJ cZ aR0 aR1 aR2 aR3 aR4 aR5 aR6 aR7 aR8 aR9 aR10 aR11 aR12 aR13 aR14 aR15 aR16 aR17 aR18 aR19 aR20 aR21 lv sg pd ac dd hd le bd my lf pa kp)) → (hS : va_S A s.heap H locs) → (hl : lv_has ls 7 [(4, .int (nI i_31)), (3, .int v3_31), (0, .ref aR0), (1, .int xs), (2, .int xw)]) → (kk : ∀ (w_31 : Int32) (H : Heap) (locs : List Loc) (ls : Array Slot), L_X6_all_31 lv xs n_31 i_31 v3_31 = w_31 → va_P δ vwCl (wR cI cJ cZ aR0 aR1 aR2 aR3 aR4 aR5 aR6 aR7 aR8 aR9 aR10 aR11 aR12 aR13 aR14 aR15 aR16 aR17 aR18 aR19 aR20 aR21 lv sg pd ac dd hd le bd my lf pa kp) H → va_D A (wR cI cJ cZ aR0 aR1 aR2 aR3 aR4 aR5 aR6 aR7 aR8 aR9 aR10 aR11 aR12 aR13 aR14 aR15 aR16 aR17 aR18 aR19 aR20 aR21 lv sg pd ac dd hd le bd my lf pa kp) → va_S A s.heap H locs → lv_has ls 7 [(3, .int w_31), (0, .ref aR0), (1, .int xs), (2, .int xw)] → W p l e rm_X6_all s m args below meth c H locs 0 0 Q (F0 m 145 ls [])) → W p l e rm_X6_all s m args below meth c H locs 0 0 Q (F0 m 31 ls []) := by
        intro n_31
        induction n_31 with
        | zero => intro i_31 v3_31 H locs ls hi_31 hn_31 hP hD hS hl kk; exact absurd hn_31 (by omega)
        | succ n_31 ih_31 =>
          intro i_31 v3_31 H locs ls hi_31 hn_31 hP hD hS hl kk
          have hR := L_X6_all_31_s lv xs n_31 i_31 v3_31
          refine lv_iload hx hb dX6_all_31 (lv_at hl 0 rfl) ?_
          refine lv_bipush (v := (64 : Int32)) hx hb dX6_all_33 (by decide) ?_
          refine lv_icmp_ge (tgt := 145) hx hb dX6_all_35 (by decide) (fun c_35 => ?_) (fun c_35 => ?_)
          · have c_35 : ((64 : Int32) ≤ (nI i_31)) := c_35
            have hR := hR.trans (if_pos c_35)
            exact kk v3_31 H locs ls hR hP hD hS (lv_sub hl [1, 2, 3, 4] rfl)
          · have c_35 : ¬ ((64 : Int32) ≤ (nI i_31)) := c_35
            have hR := hR.trans (if_neg c_35)
            have hlt_31 : i_31 < 64 := lt_g c_35 hi_31 (by decide)
            refine lv_iconst (v := (0 : Int32)) hx hb dX6_all_38 (by decide) ?_
            refine lv_istore (lv' := [(5, .int (0 : Int32)), (4, .int (nI i_31)), (3, .int v3_31), (0, .ref aR0), (1, .int xs), (2, .int xw)]) hx hb dX6_all_39 hl (by decide) rfl (fun ls hl => ?_)
            refine lv_iconst (v := (0 : Int32)) hx hb dX6_all_41 (by decide) ?_
            refine lv_istore (lv' := [(6, .int (0 : Int32)), (5, .int (0 : Int32)), (4, .int (nI i_31)), (3, .int v3_31), (0, .ref aR0), (1, .int xs), (2, .int xw)]) hx hb dX6_all_42 hl (by decide) rfl (fun ls hl => ?_)
            have hloop_44 : ∀ (n_44 : Nat) (i_44 : Nat) (v5_44 : Int32) (H : Heap) (locs : List Loc) (ls : Array Slot), (hi_44 : i_44 ≤ 6) → (hn_44 : 6 < i_44 + n_44) → (hP : va_P δ vwCl (wR cI cJ cZ aR0 aR1 aR2 aR3 aR4 aR5 aR6 aR7 aR8 aR9 aR10 aR11 aR12 aR13 aR14 aR15 aR16 aR17 aR18 aR19 aR20 aR21 lv sg pd ac dd hd le bd my lf pa kp) H) → (hD : va_D A (wR cI cJ cZ aR0 aR1 aR2 aR3 aR4 aR5 aR6 aR7 aR8 aR9 aR10 aR11 aR12 aR13 aR14 aR15 aR16 aR17 aR18 aR19 aR20 aR21 lv sg pd ac dd hd le bd my lf pa kp)) → (hS : va_S A s.heap H locs) → (hl : lv_has ls 7 [(6, .int (nI i_44)), (5, .int v5_44), (4, .int (nI i_31)), (3, .int v3_31), (0, .ref aR0), (1, .int xs), (2, .int xw)]) → (kk : ∀ (w_44 : Int32) (H : Heap) (locs : List Loc) (ls : Array Slot), L_X6_all_44 lv i_31 n_44 i_44 v5_44 = w_44 → va_P δ vwCl (wR cI cJ cZ aR0 aR1 aR2 aR3 aR4 aR5 aR6 aR7 aR8 aR9 aR10 aR11 aR12 aR13 aR14 aR15 aR16 aR17 aR18 aR19 aR20 aR21 lv sg pd ac dd hd le bd my lf pa kp) H → va_D A (wR cI cJ cZ aR0 aR1 aR2 aR3 aR4 aR5 aR6 aR7 aR8 aR9 aR10 aR11 aR12 aR13 aR14 aR15 aR16 aR17 aR18 aR19 aR20 aR21 lv sg pd ac dd hd le bd my lf pa kp) → va_S A s.heap H locs → lv_has ls 7 [(5, .int w_44), (4, .int (nI i_31)), (3, .int v3_31), (0, .ref aR0), (1, .int xs), (2, .int xw)] → W p l e rm_X6_all s m args below meth c H locs 0 0 Q (F0 m 83 ls [])) → W p l e rm_X6_all s m args below meth c H locs 0 0 Q (F0 m 44 ls []) := by
              intro n_44
              induction n_44 with
              | zero => intro i_44 v5_44 H locs ls hi_44 hn_44 hP hD hS hl kk; exact absurd hn_44 (by omega)
              | succ n_44 ih_44 =>
                intro i_44 v5_44 H locs ls hi_44 hn_44 hP hD hS hl kk
                have hR := L_X6_all_44_s lv i_31 n_44 i_44 v5_44
                refine lv_iload hx hb dX6_all_44 (lv_at hl 0 rfl) ?_
                refine lv_bipush (v := (6 : Int32)) hx hb dX6_all_46 (by decide) ?_
                refine lv_icmp_ge (tgt := 83) hx hb dX6_all_48 (by decide) (fun c_48 => ?_) (fun c_48 => ?_)
                · have c_48 : ((6 : Int32) ≤ (nI i_44)) := c_48
                  have hR := hR.trans (if_pos c_48)
                  exact kk v5_44 H locs ls hR hP hD hS (lv_sub hl [1, 2, 3, 4, 5, 6] rfl)
                · have c_48 : ¬ ((6 : Int32) ≤ (nI i_44)) := c_48
                  have hR := hR.trans (if_neg c_48)
                  have hlt_44 : i_44 < 6 := lt_g c_48 hi_44 (by decide)
                  refine lv_iload hx hb dX6_all_51 (lv_at hl 1 rfl) ?_
                  refine lv_iload hx hb dX6_all_53 (lv_at hl 2 rfl) ?_
                  refine lv_iload hx hb dX6_all_55 (lv_at hl 0 rfl) ?_
                  refine lv_ishr hx hb dX6_all_57 ?_
                  refine lv_iconst (v := (1 : Int32)) hx hb dX6_all_58 (by decide) ?_
                  refine lv_iand hx hb dX6_all_59 ?_
                  refine lv_iconst (v := (1 : Int32)) hx hb dX6_all_60 (by decide) ?_
                  refine lv_icmp_ne (tgt := 73) hx hb dX6_all_61 (by decide) (fun c_61 => ?_) (fun c_61 => ?_)
                  · have c_61 : ¬ ((((nI i_31) >>> ((nI i_44) &&& 31)) &&& (1 : Int32)) = (1 : Int32)) := c_61
                    have hR := hR.trans (if_neg c_61)
                    refine lv_iconst (v := (0 : Int32)) hx hb dX6_all_73 (by decide) ?_
                    refine lv_ior hx hb dX6_all_74 ?_
                    refine lv_istore (lv' := [(5, .int (v5_44 ||| (0 : Int32))), (6, .int (nI i_44)), (4, .int (nI i_31)), (3, .int v3_31), (0, .ref aR0), (1, .int xs), (2, .int xw)]) hx hb dX6_all_75 hl (by decide) rfl (fun ls hl => ?_)
                    refine lv_iinc (v := (nI (i_44 + 1))) (lv' := [(6, .int (nI (i_44 + 1))), (5, .int (v5_44 ||| (0 : Int32))), (4, .int (nI i_31)), (3, .int v3_31), (0, .ref aR0), (1, .int xs), (2, .int xw)]) hx hb dX6_all_77 hl (k := 1) rfl (nI_1 i_44) (by decide) rfl (fun ls hl => ?_)
                    refine lv_goto (tgt := 44) hx hb dX6_all_80 (by decide) ?_
                    exact ih_44 (i_44 + 1) (v5_44 ||| (0 : Int32)) _ _ _ (by omega) (by omega) hP hD hS (lv_sub hl [0, 1, 2, 3, 4, 5, 6] rfl) (fun w_44 H locs ls he hP hD hS hl => kk w_44 H locs ls (hR.trans he) hP hD hS hl)
                  · have c_61 : ((((nI i_31) >>> ((nI i_44) &&& 31)) &&& (1 : Int32)) = (1 : Int32)) := c_61
                    have hR := hR.trans (if_pos c_61)
                    refine lv_aload_n hx hb dX6_all_64 rfl (lv_at hl 4 rfl) ?_
                    refine lv_iload hx hb dX6_all_65 (lv_at hl 0 rfl) ?_
                    have hr := mrV (p := p) (e := e) (R := rm_X6_all) (below := below) (meth := meth) (H := H) (locs := locs) (ls := ls) (As := [.int (nI i_44)]) (rest := [.int v5_44]) (c_X6_pairsOf l δ cI cJ cZ aR0 aR1 aR2 aR3 aR4 aR5 aR6 aR7 aR8 aR9 aR10 aR11 aR12 aR13 aR14 aR15 aR16 aR17 aR18 aR19 aR20 aR21 lv sg pd ac dd hd le bd my lf pa kp (nI i_44)) hx hb hml hts hown hK hNW hP hD [0, 1, 2, 3, 4, 5, 6, 7, 8, 9, 10, 11, 12, 13, 14, 15, 16, 17, 18, 19, 20, 21] rfl rfl 6 0 rfl rfl (cwV 1 hts gX6_all_X6_pairsOf rfl rfl rfl (by decide +kernel) ⟨(Nat.le_of_ble_eq_true rfl), (Nat.le_of_ble_eq_true rfl)⟩) rfl hl.1 rfl (Nat.le_of_ble_eq_true rfl) dX6_all_67
                    refine mc_i (wr := ([] : va_W)) hr hP hD hS hA [0, 1, 2, 3, 4, 5, 6, 7, 8, 9, 10, 11, 12, 13, 14, 15, 16, 17, 18, 19, 20, 21] [] [0, 1, 2, 3, 4, 5, 6, 7, 8, 9, 10, 11, 12, 13, 14, 15, 16, 17, 18, 19, 20, 21] rfl rfl rfl rfl rfl (wn := fun _ => (wR cI cJ cZ aR0 aR1 aR2 aR3 aR4 aR5 aR6 aR7 aR8 aR9 aR10 aR11 aR12 aR13 aR14 aR15 aR16 aR17 aR18 aR19 aR20 aR21 lv sg pd ac dd hd le bd my lf pa kp)) (fun _ => rfl) (fun r_67 _ H locs hw_67 hP hD hS => ?_)
                    have hP : va_P δ vwCl (wR cI cJ cZ aR0 aR1 aR2 aR3 aR4 aR5 aR6 aR7 aR8 aR9 aR10 aR11 aR12 aR13 aR14 aR15 aR16 aR17 aR18 aR19 aR20 aR21 lv sg pd ac dd hd le bd my lf pa kp) H := hP
                    have hD : va_D A (wR cI cJ cZ aR0 aR1 aR2 aR3 aR4 aR5 aR6 aR7 aR8 aR9 aR10 aR11 aR12 aR13 aR14 aR15 aR16 aR17 aR18 aR19 aR20 aR21 lv sg pd ac dd hd le bd my lf pa kp) := hD
                    have hR := bnd_eq hR hw_67.symm
                    refine lv_goto (tgt := 74) hx hb dX6_all_70 (by decide) ?_
                    refine lv_ior hx hb dX6_all_74 ?_
                    refine lv_istore (lv' := [(5, .int (v5_44 ||| r_67)), (6, .int (nI i_44)), (4, .int (nI i_31)), (3, .int v3_31), (0, .ref aR0), (1, .int xs), (2, .int xw)]) hx hb dX6_all_75 hl (by decide) rfl (fun ls hl => ?_)
                    refine lv_iinc (v := (nI (i_44 + 1))) (lv' := [(6, .int (nI (i_44 + 1))), (5, .int (v5_44 ||| r_67)), (4, .int (nI i_31)), (3, .int v3_31), (0, .ref aR0), (1, .int xs), (2, .int xw)]) hx hb dX6_all_77 hl (k := 1) rfl (nI_1 i_44) (by decide) rfl (fun ls hl => ?_)
                    refine lv_goto (tgt := 44) hx hb dX6_all_80 (by decide) ?_
                    exact ih_44 (i_44 + 1) (v5_44 ||| r_67) _ _ _ (by omega) (by omega) hP hD hS (lv_sub hl [0, 1, 2, 3, 4, 5, 6] rfl) (fun w_44 H locs ls he hP hD hS hl => kk w_44 H locs ls (hR.trans he) hP hD hS hl)
            refine hloop_44 (6 + 1) 0 (0 : Int32) _ _ _ (by omega) (by omega) hP hD hS (lv_sub hl [0, 1, 2, 3, 4, 5, 6] rfl) (fun w_44 H locs ls hw_44 hP hD hS hl => ?_)
            have hP : va_P δ vwCl (wR cI cJ cZ aR0 aR1 aR2 aR3 aR4 aR5 aR6 aR7 aR8 aR9 aR10 aR11 aR12 aR13 aR14 aR15 aR16 aR17 aR18 aR19 aR20 aR21 lv sg pd ac dd hd le bd my lf pa kp) H := hP
            have hD : va_D A (wR cI cJ cZ aR0 aR1 aR2 aR3 aR4 aR5 aR6 aR7 aR8 aR9 aR10 aR11 aR12 aR13 aR14 aR15 aR16 aR17 aR18 aR19 aR20 aR21 lv sg pd ac dd hd le bd my lf pa kp) := hD
            have hR := bnd_eq hR hw_44.symm
            refine lv_iload hx hb dX6_all_83 (lv_at hl 1 rfl) ?_
            refine lv_aload_n hx hb dX6_all_85 rfl (lv_at hl 3 rfl) ?_
            refine va_get (D := δ) (ci := 6) (v := .int (vCourtiers lv)) (C := RX6) (T := TX6) (N := 34) hx hb hts hinX6 hown hK hP 0 rfl rfl 0 (by decide) (hts (.fieldLink RX6 87 "GloveHoursModel" "courtiers" "I") (List.mem_of_getElem? (i := 2) rfl)) (fun _ h9 => h9) rfl dX6_all_86 ?_
            refine lv_iconst (v := (-1 : Int32)) hx hb dX6_all_89 (by decide) ?_
            refine lv_ixor hx hb dX6_all_90 ?_
            refine lv_iand hx hb dX6_all_91 ?_
            refine lv_if_ne (tgt := 108) hx hb dX6_all_92 (by decide) (fun c_92 => ?_) (fun c_92 => ?_)
            · have c_92 : ¬ (((nI i_31) &&& ((vCourtiers lv) ^^^ (-1 : Int32))) = 0) := c_92
              have hR := hR.trans (if_neg c_92)
              refine lv_iconst (v := (0 : Int32)) hx hb dX6_all_108 (by decide) ?_
              refine lv_istore (lv' := [(6, .int (0 : Int32)), (5, .int w_44), (4, .int (nI i_31)), (3, .int v3_31), (0, .ref aR0), (1, .int xs), (2, .int xw)]) hx hb dX6_all_109 hl (by decide) rfl (fun ls hl => ?_)
              refine lv_iload hx hb dX6_all_111 (lv_at hl 0 rfl) ?_
              refine lv_if_eq (tgt := 137) hx hb dX6_all_113 (by decide) (fun c_113 => ?_) (fun c_113 => ?_)
              · have c_113 : ((0 : Int32) = 0) := c_113
                have hR := hR.trans (if_pos c_113)
                refine lv_iload_n hx hb dX6_all_137 rfl (lv_at hl 3 rfl) ?_
                refine lv_istore_n (lv' := [(3, .int v3_31), (6, .int (0 : Int32)), (5, .int w_44), (4, .int (nI i_31)), (0, .ref aR0), (1, .int xs), (2, .int xw)]) hx hb dX6_all_138 rfl hl (by decide) rfl (fun ls hl => ?_)
                refine lv_iinc (v := (nI (i_31 + 1))) (lv' := [(4, .int (nI (i_31 + 1))), (3, .int v3_31), (6, .int (0 : Int32)), (5, .int w_44), (0, .ref aR0), (1, .int xs), (2, .int xw)]) hx hb dX6_all_139 hl (k := 3) rfl (nI_1 i_31) (by decide) rfl (fun ls hl => ?_)
                refine lv_goto (tgt := 31) hx hb dX6_all_142 (by decide) ?_
                exact ih_31 (i_31 + 1) v3_31 _ _ _ (by omega) (by omega) hP hD hS (lv_sub hl [0, 1, 4, 5, 6] rfl) (fun w_31 H locs ls he hP hD hS hl => kk w_31 H locs ls (hR.trans he) hP hD hS hl)
              · have c_113 : ¬ ((0 : Int32) = 0) := c_113
                have hR := hR.trans (if_neg c_113)
                refine lv_iload_n hx hb dX6_all_116 rfl (lv_at hl 3 rfl) ?_
                refine lv_if_lt (tgt := 132) hx hb dX6_all_117 (by decide) (fun c_117 => ?_) (fun c_117 => ?_)
                · have c_117 : (v3_31 < 0) := c_117
                  have hR := hR.trans (if_pos c_117)
                  refine lv_iload hx hb dX6_all_132 (lv_at hl 2 rfl) ?_
                  refine lv_goto (tgt := 138) hx hb dX6_all_134 (by decide) ?_
                  refine lv_istore_n (lv' := [(3, .int (nI i_31)), (6, .int (0 : Int32)), (5, .int w_44), (4, .int (nI i_31)), (0, .ref aR0), (1, .int xs), (2, .int xw)]) hx hb dX6_all_138 rfl hl (by decide) rfl (fun ls hl => ?_)
                  refine lv_iinc (v := (nI (i_31 + 1))) (lv' := [(4, .int (nI (i_31 + 1))), (3, .int (nI i_31)), (6, .int (0 : Int32)), (5, .int w_44), (0, .ref aR0), (1, .int xs), (2, .int xw)]) hx hb dX6_all_139 hl (k := 3) rfl (nI_1 i_31) (by decide) rfl (fun ls hl => ?_)
                  refine lv_goto (tgt := 31) hx hb dX6_all_142 (by decide) ?_
                  exact ih_31 (i_31 + 1) (nI i_31) _ _ _ (by omega) (by omega) hP hD hS (lv_sub hl [0, 1, 4, 5, 6] rfl) (fun w_31 H locs ls he hP hD hS hl => kk w_31 H locs ls (hR.trans he) hP hD hS hl)
                · have c_117 : ¬ (v3_31 < 0) := c_117
                  have hR := hR.trans (if_neg c_117)
                  refine lv_iload hx hb dX6_all_120 (lv_at hl 2 rfl) ?_
                  have hr := mrS (p := p) (e := e) (R := rm_X6_all) (below := below) (meth := meth) (H := H) (locs := locs) (ls := ls) (As := [.int (nI i_31)]) (rest := []) (c_X6_ones l δ cI cJ cZ (nI i_31)) hx hb hml hts hown hK hNW hP hD [] rfl rfl (va_cwS 1 hts gX6_all_X6_ones rfl rfl rfl (by decide +kernel) ⟨(Nat.le_of_ble_eq_true rfl), (Nat.le_of_ble_eq_true rfl)⟩) rfl hl.1 rfl (Nat.le_of_ble_eq_true rfl) dX6_all_122
                  refine mc_i (wr := (wR cI cJ cZ aR0 aR1 aR2 aR3 aR4 aR5 aR6 aR7 aR8 aR9 aR10 aR11 aR12 aR13 aR14 aR15 aR16 aR17 aR18 aR19 aR20 aR21 lv sg pd ac dd hd le bd my lf pa kp)) hr hP hD hS hA [] [0, 1, 2, 3, 4, 5, 6, 7, 8, 9, 10, 11, 12, 13, 14, 15, 16, 17, 18, 19, 20, 21] [0, 1, 2, 3, 4, 5, 6, 7, 8, 9, 10, 11, 12, 13, 14, 15, 16, 17, 18, 19, 20, 21] rfl rfl rfl rfl rfl (wn := fun _ => (wR cI cJ cZ aR0 aR1 aR2 aR3 aR4 aR5 aR6 aR7 aR8 aR9 aR10 aR11 aR12 aR13 aR14 aR15 aR16 aR17 aR18 aR19 aR20 aR21 lv sg pd ac dd hd le bd my lf pa kp)) (fun _ => rfl) (fun r_122 _ H locs hw_122 hP hD hS => ?_)
                  have hP : va_P δ vwCl (wR cI cJ cZ aR0 aR1 aR2 aR3 aR4 aR5 aR6 aR7 aR8 aR9 aR10 aR11 aR12 aR13 aR14 aR15 aR16 aR17 aR18 aR19 aR20 aR21 lv sg pd ac dd hd le bd my lf pa kp) H := hP
                  have hD : va_D A (wR cI cJ cZ aR0 aR1 aR2 aR3 aR4 aR5 aR6 aR7 aR8 aR9 aR10 aR11 aR12 aR13 aR14 aR15 aR16 aR17 aR18 aR19 aR20 aR21 lv sg pd ac dd hd le bd my lf pa kp) := hD
                  have hR := bnd_eq hR hw_122.symm
                  refine lv_iload_n hx hb dX6_all_125 rfl (lv_at hl 3 rfl) ?_
                  have hr := mrS (p := p) (e := e) (R := rm_X6_all) (below := below) (meth := meth) (H := H) (locs := locs) (ls := ls) (As := [.int v3_31]) (rest := [.int r_122]) (c_X6_ones l δ cI cJ cZ v3_31) hx hb hml hts hown hK hNW hP hD [] rfl rfl (va_cwS 1 hts gX6_all_X6_ones rfl rfl rfl (by decide +kernel) ⟨(Nat.le_of_ble_eq_true rfl), (Nat.le_of_ble_eq_true rfl)⟩) rfl hl.1 rfl (Nat.le_of_ble_eq_true rfl) dX6_all_126
                  refine mc_i (wr := (wR cI cJ cZ aR0 aR1 aR2 aR3 aR4 aR5 aR6 aR7 aR8 aR9 aR10 aR11 aR12 aR13 aR14 aR15 aR16 aR17 aR18 aR19 aR20 aR21 lv sg pd ac dd hd le bd my lf pa kp)) hr hP hD hS hA [] [0, 1, 2, 3, 4, 5, 6, 7, 8, 9, 10, 11, 12, 13, 14, 15, 16, 17, 18, 19, 20, 21] [0, 1, 2, 3, 4, 5, 6, 7, 8, 9, 10, 11, 12, 13, 14, 15, 16, 17, 18, 19, 20, 21] rfl rfl rfl rfl rfl (wn := fun _ => (wR cI cJ cZ aR0 aR1 aR2 aR3 aR4 aR5 aR6 aR7 aR8 aR9 aR10 aR11 aR12 aR13 aR14 aR15 aR16 aR17 aR18 aR19 aR20 aR21 lv sg pd ac dd hd le bd my lf pa kp)) (fun _ => rfl) (fun r_126 _ H locs hw_126 hP hD hS => ?_)
                  have hP : va_P δ vwCl (wR cI cJ cZ aR0 aR1 aR2 aR3 aR4 aR5 aR6 aR7 aR8 aR9 aR10 aR11 aR12 aR13 aR14 aR15 aR16 aR17 aR18 aR19 aR20 aR21 lv sg pd ac dd hd le bd my lf pa kp) H := hP
                  have hD : va_D A (wR cI cJ cZ aR0 aR1 aR2 aR3 aR4 aR5 aR6 aR7 aR8 aR9 aR10 aR11 aR12 aR13 aR14 aR15 aR16 aR17 aR18 aR19 aR20 aR21 lv sg pd ac dd hd le bd my lf pa kp) := hD
                  have hR := bnd_eq hR hw_126.symm
                  refine lv_icmp_ge (tgt := 137) hx hb dX6_all_129 (by decide) (fun c_129 => ?_) (fun c_129 => ?_)
                  · have c_129 : (r_126 ≤ r_122) := c_129
                    have hR := hR.trans (if_pos c_129)
                    refine lv_iload_n hx hb dX6_all_137 rfl (lv_at hl 3 rfl) ?_
                    refine lv_istore_n (lv' := [(3, .int v3_31), (6, .int (0 : Int32)), (5, .int w_44), (4, .int (nI i_31)), (0, .ref aR0), (1, .int xs), (2, .int xw)]) hx hb dX6_all_138 rfl hl (by decide) rfl (fun ls hl => ?_)
                    refine lv_iinc (v := (nI (i_31 + 1))) (lv' := [(4, .int (nI (i_31 + 1))), (3, .int v3_31), (6, .int (0 : Int32)), (5, .int w_44), (0, .ref aR0), (1, .int xs), (2, .int xw)]) hx hb dX6_all_139 hl (k := 3) rfl (nI_1 i_31) (by decide) rfl (fun ls hl => ?_)
                    refine lv_goto (tgt := 31) hx hb dX6_all_142 (by decide) ?_
                    exact ih_31 (i_31 + 1) v3_31 _ _ _ (by omega) (by omega) hP hD hS (lv_sub hl [0, 1, 4, 5, 6] rfl) (fun w_31 H locs ls he hP hD hS hl => kk w_31 H locs ls (hR.trans he) hP hD hS hl)
                  · have c_129 : ¬ (r_126 ≤ r_122) := c_129
                    have hR := hR.trans (if_neg c_129)
                    refine lv_iload hx hb dX6_all_132 (lv_at hl 2 rfl) ?_
                    refine lv_goto (tgt := 138) hx hb dX6_all_134 (by decide) ?_
                    refine lv_istore_n (lv' := [(3, .int (nI i_31)), (6, .int (0 : Int32)), (5, .int w_44), (4, .int (nI i_31)), (0, .ref aR0), (1, .int xs), (2, .int xw)]) hx hb dX6_all_138 rfl hl (by decide) rfl (fun ls hl => ?_)
                    refine lv_iinc (v := (nI (i_31 + 1))) (lv' := [(4, .int (nI (i_31 + 1))), (3, .int (nI i_31)), (6, .int (0 : Int32)), (5, .int w_44), (0, .ref aR0), (1, .int xs), (2, .int xw)]) hx hb dX6_all_139 hl (k := 3) rfl (nI_1 i_31) (by decide) rfl (fun ls hl => ?_)
                    refine lv_goto (tgt := 31) hx hb dX6_all_142 (by decide) ?_
                    exact ih_31 (i_31 + 1) (nI i_31) _ _ _ (by omega) (by omega) hP hD hS (lv_sub hl [0, 1, 4, 5, 6] rfl) (fun w_31 H locs ls he hP hD hS hl => kk w_31 H locs ls (hR.trans he) hP hD hS hl)
            · have c_92 : (((nI i_31) &&& ((vCourtiers lv) ^^^ (-1 : Int32))) = 0) := c_92
              have hR := hR.trans (if_pos c_92)
              refine lv_iload_n hx hb dX6_all_95 rfl (lv_at hl 4 rfl) ?_
              refine lv_iload hx hb dX6_all_96 (lv_at hl 0 rfl) ?_
              refine lv_iconst (v := (-1 : Int32)) hx hb dX6_all_98 (by decide) ?_
              refine lv_ixor hx hb dX6_all_99 ?_
              refine lv_iand hx hb dX6_all_100 ?_
              refine lv_if_ne (tgt := 108) hx hb dX6_all_101 (by decide) (fun c_101 => ?_) (fun c_101 => ?_)
              · have c_101 : ¬ ((xs &&& (w_44 ^^^ (-1 : Int32))) = 0) := c_101
                have hR := hR.trans (if_neg c_101)
                refine lv_iconst (v := (0 : Int32)) hx hb dX6_all_108 (by decide) ?_
                refine lv_istore (lv' := [(6, .int (0 : Int32)), (5, .int w_44), (4, .int (nI i_31)), (3, .int v3_31), (0, .ref aR0), (1, .int xs), (2, .int xw)]) hx hb dX6_all_109 hl (by decide) rfl (fun ls hl => ?_)
                refine lv_iload hx hb dX6_all_111 (lv_at hl 0 rfl) ?_
                refine lv_if_eq (tgt := 137) hx hb dX6_all_113 (by decide) (fun c_113 => ?_) (fun c_113 => ?_)
                · have c_113 : ((0 : Int32) = 0) := c_113
                  have hR := hR.trans (if_pos c_113)
                  refine lv_iload_n hx hb dX6_all_137 rfl (lv_at hl 3 rfl) ?_
                  refine lv_istore_n (lv' := [(3, .int v3_31), (6, .int (0 : Int32)), (5, .int w_44), (4, .int (nI i_31)), (0, .ref aR0), (1, .int xs), (2, .int xw)]) hx hb dX6_all_138 rfl hl (by decide) rfl (fun ls hl => ?_)
                  refine lv_iinc (v := (nI (i_31 + 1))) (lv' := [(4, .int (nI (i_31 + 1))), (3, .int v3_31), (6, .int (0 : Int32)), (5, .int w_44), (0, .ref aR0), (1, .int xs), (2, .int xw)]) hx hb dX6_all_139 hl (k := 3) rfl (nI_1 i_31) (by decide) rfl (fun ls hl => ?_)
                  refine lv_goto (tgt := 31) hx hb dX6_all_142 (by decide) ?_
                  exact ih_31 (i_31 + 1) v3_31 _ _ _ (by omega) (by omega) hP hD hS (lv_sub hl [0, 1, 4, 5, 6] rfl) (fun w_31 H locs ls he hP hD hS hl => kk w_31 H locs ls (hR.trans he) hP hD hS hl)
                · have c_113 : ¬ ((0 : Int32) = 0) := c_113
                  have hR := hR.trans (if_neg c_113)
                  refine lv_iload_n hx hb dX6_all_116 rfl (lv_at hl 3 rfl) ?_
                  refine lv_if_lt (tgt := 132) hx hb dX6_all_117 (by decide) (fun c_117 => ?_) (fun c_117 => ?_)
                  · have c_117 : (v3_31 < 0) := c_117
                    have hR := hR.trans (if_pos c_117)
                    refine lv_iload hx hb dX6_all_132 (lv_at hl 2 rfl) ?_
                    refine lv_goto (tgt := 138) hx hb dX6_all_134 (by decide) ?_
                    refine lv_istore_n (lv' := [(3, .int (nI i_31)), (6, .int (0 : Int32)), (5, .int w_44), (4, .int (nI i_31)), (0, .ref aR0), (1, .int xs), (2, .int xw)]) hx hb dX6_all_138 rfl hl (by decide) rfl (fun ls hl => ?_)
                    refine lv_iinc (v := (nI (i_31 + 1))) (lv' := [(4, .int (nI (i_31 + 1))), (3, .int (nI i_31)), (6, .int (0 : Int32)), (5, .int w_44), (0, .ref aR0), (1, .int xs), (2, .int xw)]) hx hb dX6_all_139 hl (k := 3) rfl (nI_1 i_31) (by decide) rfl (fun ls hl => ?_)
                    refine lv_goto (tgt := 31) hx hb dX6_all_142 (by decide) ?_
                    exact ih_31 (i_31 + 1) (nI i_31) _ _ _ (by omega) (by omega) hP hD hS (lv_sub hl [0, 1, 4, 5, 6] rfl) (fun w_31 H locs ls he hP hD hS hl => kk w_31 H locs ls (hR.trans he) hP hD hS hl)
                  · have c_117 : ¬ (v3_31 < 0) := c_117
                    have hR := hR.trans (if_neg c_117)
                    refine lv_iload hx hb dX6_all_120 (lv_at hl 2 rfl) ?_
                    have hr := mrS (p := p) (e := e) (R := rm_X6_all) (below := below) (meth := meth) (H := H) (locs := locs) (ls := ls) (As := [.int (nI i_31)]) (rest := []) (c_X6_ones l δ cI cJ cZ (nI i_31)) hx hb hml hts hown hK hNW hP hD [] rfl rfl (va_cwS 1 hts gX6_all_X6_ones rfl rfl rfl (by decide +kernel) ⟨(Nat.le_of_ble_eq_true rfl), (Nat.le_of_ble_eq_true rfl)⟩) rfl hl.1 rfl (Nat.le_of_ble_eq_true rfl) dX6_all_122
                    refine mc_i (wr := (wR cI cJ cZ aR0 aR1 aR2 aR3 aR4 aR5 aR6 aR7 aR8 aR9 aR10 aR11 aR12 aR13 aR14 aR15 aR16 aR17 aR18 aR19 aR20 aR21 lv sg pd ac dd hd le bd my lf pa kp)) hr hP hD hS hA [] [0, 1, 2, 3, 4, 5, 6, 7, 8, 9, 10, 11, 12, 13, 14, 15, 16, 17, 18, 19, 20, 21] [0, 1, 2, 3, 4, 5, 6, 7, 8, 9, 10, 11, 12, 13, 14, 15, 16, 17, 18, 19, 20, 21] rfl rfl rfl rfl rfl (wn := fun _ => (wR cI cJ cZ aR0 aR1 aR2 aR3 aR4 aR5 aR6 aR7 aR8 aR9 aR10 aR11 aR12 aR13 aR14 aR15 aR16 aR17 aR18 aR19 aR20 aR21 lv sg pd ac dd hd le bd my lf pa kp)) (fun _ => rfl) (fun r_122 _ H locs hw_122 hP hD hS => ?_)
                    have hP : va_P δ vwCl (wR cI cJ cZ aR0 aR1 aR2 aR3 aR4 aR5 aR6 aR7 aR8 aR9 aR10 aR11 aR12 aR13 aR14 aR15 aR16 aR17 aR18 aR19 aR20 aR21 lv sg pd ac dd hd le bd my lf pa kp) H := hP
                    have hD : va_D A (wR cI cJ cZ aR0 aR1 aR2 aR3 aR4 aR5 aR6 aR7 aR8 aR9 aR10 aR11 aR12 aR13 aR14 aR15 aR16 aR17 aR18 aR19 aR20 aR21 lv sg pd ac dd hd le bd my lf pa kp) := hD
                    have hR := bnd_eq hR hw_122.symm
                    refine lv_iload_n hx hb dX6_all_125 rfl (lv_at hl 3 rfl) ?_
                    have hr := mrS (p := p) (e := e) (R := rm_X6_all) (below := below) (meth := meth) (H := H) (locs := locs) (ls := ls) (As := [.int v3_31]) (rest := [.int r_122]) (c_X6_ones l δ cI cJ cZ v3_31) hx hb hml hts hown hK hNW hP hD [] rfl rfl (va_cwS 1 hts gX6_all_X6_ones rfl rfl rfl (by decide +kernel) ⟨(Nat.le_of_ble_eq_true rfl), (Nat.le_of_ble_eq_true rfl)⟩) rfl hl.1 rfl (Nat.le_of_ble_eq_true rfl) dX6_all_126
                    refine mc_i (wr := (wR cI cJ cZ aR0 aR1 aR2 aR3 aR4 aR5 aR6 aR7 aR8 aR9 aR10 aR11 aR12 aR13 aR14 aR15 aR16 aR17 aR18 aR19 aR20 aR21 lv sg pd ac dd hd le bd my lf pa kp)) hr hP hD hS hA [] [0, 1, 2, 3, 4, 5, 6, 7, 8, 9, 10, 11, 12, 13, 14, 15, 16, 17, 18, 19, 20, 21] [0, 1, 2, 3, 4, 5, 6, 7, 8, 9, 10, 11, 12, 13, 14, 15, 16, 17, 18, 19, 20, 21] rfl rfl rfl rfl rfl (wn := fun _ => (wR cI cJ cZ aR0 aR1 aR2 aR3 aR4 aR5 aR6 aR7 aR8 aR9 aR10 aR11 aR12 aR13 aR14 aR15 aR16 aR17 aR18 aR19 aR20 aR21 lv sg pd ac dd hd le bd my lf pa kp)) (fun _ => rfl) (fun r_126 _ H locs hw_126 hP hD hS => ?_)
                    have hP : va_P δ vwCl (wR cI cJ cZ aR0 aR1 aR2 aR3 aR4 aR5 aR6 aR7 aR8 aR9 aR10 aR11 aR12 aR13 aR14 aR15 aR16 aR17 aR18 aR19 aR20 aR21 lv sg pd ac dd hd le bd my lf pa kp) H := hP
                    have hD : va_D A (wR cI cJ cZ aR0 aR1 aR2 aR3 aR4 aR5 aR6 aR7 aR8 aR9 aR10 aR11 aR12 aR13 aR14 aR15 aR16 aR17 aR18 aR19 aR20 aR21 lv sg pd ac dd hd le bd my lf pa kp) := hD
                    have hR := bnd_eq hR hw_126.symm
                    refine lv_icmp_ge (tgt := 137) hx hb dX6_all_129 (by decide) (fun c_129 => ?_) (fun c_129 => ?_)
                    · have c_129 : (r_126 ≤ r_122) := c_129
                      have hR := hR.trans (if_pos c_129)
                      refine lv_iload_n hx hb dX6_all_137 rfl (lv_at hl 3 rfl) ?_
                      refine lv_istore_n (lv' := [(3, .int v3_31), (6, .int (0 : Int32)), (5, .int w_44), (4, .int (nI i_31)), (0, .ref aR0), (1, .int xs), (2, .int xw)]) hx hb dX6_all_138 rfl hl (by decide) rfl (fun ls hl => ?_)
                      refine lv_iinc (v := (nI (i_31 + 1))) (lv' := [(4, .int (nI (i_31 + 1))), (3, .int v3_31), (6, .int (0 : Int32)), (5, .int w_44), (0, .ref aR0), (1, .int xs), (2, .int xw)]) hx hb dX6_all_139 hl (k := 3) rfl (nI_1 i_31) (by decide) rfl (fun ls hl => ?_)
                      refine lv_goto (tgt := 31) hx hb dX6_all_142 (by decide) ?_
                      exact ih_31 (i_31 + 1) v3_31 _ _ _ (by omega) (by omega) hP hD hS (lv_sub hl [0, 1, 4, 5, 6] rfl) (fun w_31 H locs ls he hP hD hS hl => kk w_31 H locs ls (hR.trans he) hP hD hS hl)
                    · have c_129 : ¬ (r_126 ≤ r_122) := c_129
                      have hR := hR.trans (if_neg c_129)
                      refine lv_iload hx hb dX6_all_132 (lv_at hl 2 rfl) ?_
                      refine lv_goto (tgt := 138) hx hb dX6_all_134 (by decide) ?_
                      refine lv_istore_n (lv' := [(3, .int (nI i_31)), (6, .int (0 : Int32)), (5, .int w_44), (4, .int (nI i_31)), (0, .ref aR0), (1, .int xs), (2, .int xw)]) hx hb dX6_all_138 rfl hl (by decide) rfl (fun ls hl => ?_)
                      refine lv_iinc (v := (nI (i_31 + 1))) (lv' := [(4, .int (nI (i_31 + 1))), (3, .int (nI i_31)), (6, .int (0 : Int32)), (5, .int w_44), (0, .ref aR0), (1, .int xs), (2, .int xw)]) hx hb dX6_all_139 hl (k := 3) rfl (nI_1 i_31) (by decide) rfl (fun ls hl => ?_)
                      refine lv_goto (tgt := 31) hx hb dX6_all_142 (by decide) ?_
                      exact ih_31 (i_31 + 1) (nI i_31) _ _ _ (by omega) (by omega) hP hD hS (lv_sub hl [0, 1, 4, 5, 6] rfl) (fun w_31 H locs ls he hP hD hS hl => kk w_31 H locs ls (hR.trans he) hP hD hS hl)
              · have c_101 : ((xs &&& (w_44 ^^^ (-1 : Int32))) = 0) := c_101
                have hR := hR.trans (if_pos c_101)
                refine lv_iconst (v := (1 : Int32)) hx hb dX6_all_104 (by decide) ?_
                refine lv_goto (tgt := 109) hx hb dX6_all_105 (by decide) ?_
                refine lv_istore (lv' := [(6, .int (1 : Int32)), (5, .int w_44), (4, .int (nI i_31)), (3, .int v3_31), (0, .ref aR0), (1, .int xs), (2, .int xw)]) hx hb dX6_all_109 hl (by decide) rfl (fun ls hl => ?_)
                refine lv_iload hx hb dX6_all_111 (lv_at hl 0 rfl) ?_
                refine lv_if_eq (tgt := 137) hx hb dX6_all_113 (by decide) (fun c_113 => ?_) (fun c_113 => ?_)
                · have c_113 : ((1 : Int32) = 0) := c_113
                  have hR := hR.trans (if_pos c_113)
                  refine lv_iload_n hx hb dX6_all_137 rfl (lv_at hl 3 rfl) ?_
                  refine lv_istore_n (lv' := [(3, .int v3_31), (6, .int (1 : Int32)), (5, .int w_44), (4, .int (nI i_31)), (0, .ref aR0), (1, .int xs), (2, .int xw)]) hx hb dX6_all_138 rfl hl (by decide) rfl (fun ls hl => ?_)
                  refine lv_iinc (v := (nI (i_31 + 1))) (lv' := [(4, .int (nI (i_31 + 1))), (3, .int v3_31), (6, .int (1 : Int32)), (5, .int w_44), (0, .ref aR0), (1, .int xs), (2, .int xw)]) hx hb dX6_all_139 hl (k := 3) rfl (nI_1 i_31) (by decide) rfl (fun ls hl => ?_)
                  refine lv_goto (tgt := 31) hx hb dX6_all_142 (by decide) ?_
                  exact ih_31 (i_31 + 1) v3_31 _ _ _ (by omega) (by omega) hP hD hS (lv_sub hl [0, 1, 4, 5, 6] rfl) (fun w_31 H locs ls he hP hD hS hl => kk w_31 H locs ls (hR.trans he) hP hD hS hl)
                · have c_113 : ¬ ((1 : Int32) = 0) := c_113
                  have hR := hR.trans (if_neg c_113)
                  refine lv_iload_n hx hb dX6_all_116 rfl (lv_at hl 3 rfl) ?_
                  refine lv_if_lt (tgt := 132) hx hb dX6_all_117 (by decide) (fun c_117 => ?_) (fun c_117 => ?_)
                  · have c_117 : (v3_31 < 0) := c_117
                    have hR := hR.trans (if_pos c_117)
                    refine lv_iload hx hb dX6_all_132 (lv_at hl 2 rfl) ?_
                    refine lv_goto (tgt := 138) hx hb dX6_all_134 (by decide) ?_
                    refine lv_istore_n (lv' := [(3, .int (nI i_31)), (6, .int (1 : Int32)), (5, .int w_44), (4, .int (nI i_31)), (0, .ref aR0), (1, .int xs), (2, .int xw)]) hx hb dX6_all_138 rfl hl (by decide) rfl (fun ls hl => ?_)
                    refine lv_iinc (v := (nI (i_31 + 1))) (lv' := [(4, .int (nI (i_31 + 1))), (3, .int (nI i_31)), (6, .int (1 : Int32)), (5, .int w_44), (0, .ref aR0), (1, .int xs), (2, .int xw)]) hx hb dX6_all_139 hl (k := 3) rfl (nI_1 i_31) (by decide) rfl (fun ls hl => ?_)
                    refine lv_goto (tgt := 31) hx hb dX6_all_142 (by decide) ?_
                    exact ih_31 (i_31 + 1) (nI i_31) _ _ _ (by omega) (by omega) hP hD hS (lv_sub hl [0, 1, 4, 5, 6] rfl) (fun w_31 H locs ls he hP hD hS hl => kk w_31 H locs ls (hR.trans he) hP hD hS hl)
                  · have c_117 : ¬ (v3_31 < 0) := c_117
                    have hR := hR.trans (if_neg c_117)
                    refine lv_iload hx hb dX6_all_120 (lv_at hl 2 rfl) ?_
                    have hr := mrS (p := p) (e := e) (R := rm_X6_all) (below := below) (meth := meth) (H := H) (locs := locs) (ls := ls) (As := [.int (nI i_31)]) (rest := []) (c_X6_ones l δ cI cJ cZ (nI i_31)) hx hb hml hts hown hK hNW hP hD [] rfl rfl (va_cwS 1 hts gX6_all_X6_ones rfl rfl rfl (by decide +kernel) ⟨(Nat.le_of_ble_eq_true rfl), (Nat.le_of_ble_eq_true rfl)⟩) rfl hl.1 rfl (Nat.le_of_ble_eq_true rfl) dX6_all_122
                    refine mc_i (wr := (wR cI cJ cZ aR0 aR1 aR2 aR3 aR4 aR5 aR6 aR7 aR8 aR9 aR10 aR11 aR12 aR13 aR14 aR15 aR16 aR17 aR18 aR19 aR20 aR21 lv sg pd ac dd hd le bd my lf pa kp)) hr hP hD hS hA [] [0, 1, 2, 3, 4, 5, 6, 7, 8, 9, 10, 11, 12, 13, 14, 15, 16, 17, 18, 19, 20, 21] [0, 1, 2, 3, 4, 5, 6, 7, 8, 9, 10, 11, 12, 13, 14, 15, 16, 17, 18, 19, 20, 21] rfl rfl rfl rfl rfl (wn := fun _ => (wR cI cJ cZ aR0 aR1 aR2 aR3 aR4 aR5 aR6 aR7 aR8 aR9 aR10 aR11 aR12 aR13 aR14 aR15 aR16 aR17 aR18 aR19 aR20 aR21 lv sg pd ac dd hd le bd my lf pa kp)) (fun _ => rfl) (fun r_122 _ H locs hw_122 hP hD hS => ?_)
                    have hP : va_P δ vwCl (wR cI cJ cZ aR0 aR1 aR2 aR3 aR4 aR5 aR6 aR7 aR8 aR9 aR10 aR11 aR12 aR13 aR14 aR15 aR16 aR17 aR18 aR19 aR20 aR21 lv sg pd ac dd hd le bd my lf pa kp) H := hP
                    have hD : va_D A (wR cI cJ cZ aR0 aR1 aR2 aR3 aR4 aR5 aR6 aR7 aR8 aR9 aR10 aR11 aR12 aR13 aR14 aR15 aR16 aR17 aR18 aR19 aR20 aR21 lv sg pd ac dd hd le bd my lf pa kp) := hD
                    have hR := bnd_eq hR hw_122.symm
                    refine lv_iload_n hx hb dX6_all_125 rfl (lv_at hl 3 rfl) ?_
                    have hr := mrS (p := p) (e := e) (R := rm_X6_all) (below := below) (meth := meth) (H := H) (locs := locs) (ls := ls) (As := [.int v3_31]) (rest := [.int r_122]) (c_X6_ones l δ cI cJ cZ v3_31) hx hb hml hts hown hK hNW hP hD [] rfl rfl (va_cwS 1 hts gX6_all_X6_ones rfl rfl rfl (by decide +kernel) ⟨(Nat.le_of_ble_eq_true rfl), (Nat.le_of_ble_eq_true rfl)⟩) rfl hl.1 rfl (Nat.le_of_ble_eq_true rfl) dX6_all_126
                    refine mc_i (wr := (wR cI cJ cZ aR0 aR1 aR2 aR3 aR4 aR5 aR6 aR7 aR8 aR9 aR10 aR11 aR12 aR13 aR14 aR15 aR16 aR17 aR18 aR19 aR20 aR21 lv sg pd ac dd hd le bd my lf pa kp)) hr hP hD hS hA [] [0, 1, 2, 3, 4, 5, 6, 7, 8, 9, 10, 11, 12, 13, 14, 15, 16, 17, 18, 19, 20, 21] [0, 1, 2, 3, 4, 5, 6, 7, 8, 9, 10, 11, 12, 13, 14, 15, 16, 17, 18, 19, 20, 21] rfl rfl rfl rfl rfl (wn := fun _ => (wR cI cJ cZ aR0 aR1 aR2 aR3 aR4 aR5 aR6 aR7 aR8 aR9 aR10 aR11 aR12 aR13 aR14 aR15 aR16 aR17 aR18 aR19 aR20 aR21 lv sg pd ac dd hd le bd my lf pa kp)) (fun _ => rfl) (fun r_126 _ H locs hw_126 hP hD hS => ?_)
                    have hP : va_P δ vwCl (wR cI cJ cZ aR0 aR1 aR2 aR3 aR4 aR5 aR6 aR7 aR8 aR9 aR10 aR11 aR12 aR13 aR14 aR15 aR16 aR17 aR18 aR19 aR20 aR21 lv sg pd ac dd hd le bd my lf pa kp) H := hP
                    have hD : va_D A (wR cI cJ cZ aR0 aR1 aR2 aR3 aR4 aR5 aR6 aR7 aR8 aR9 aR10 aR11 aR12 aR13 aR14 aR15 aR16 aR17 aR18 aR19 aR20 aR21 lv sg pd ac dd hd le bd my lf pa kp) := hD
                    have hR := bnd_eq hR hw_126.symm
                    refine lv_icmp_ge (tgt := 137) hx hb dX6_all_129 (by decide) (fun c_129 => ?_) (fun c_129 => ?_)
                    · have c_129 : (r_126 ≤ r_122) := c_129
                      have hR := hR.trans (if_pos c_129)
                      refine lv_iload_n hx hb dX6_all_137 rfl (lv_at hl 3 rfl) ?_
                      refine lv_istore_n (lv' := [(3, .int v3_31), (6, .int (1 : Int32)), (5, .int w_44), (4, .int (nI i_31)), (0, .ref aR0), (1, .int xs), (2, .int xw)]) hx hb dX6_all_138 rfl hl (by decide) rfl (fun ls hl => ?_)
                      refine lv_iinc (v := (nI (i_31 + 1))) (lv' := [(4, .int (nI (i_31 + 1))), (3, .int v3_31), (6, .int (1 : Int32)), (5, .int w_44), (0, .ref aR0), (1, .int xs), (2, .int xw)]) hx hb dX6_all_139 hl (k := 3) rfl (nI_1 i_31) (by decide) rfl (fun ls hl => ?_)
                      refine lv_goto (tgt := 31) hx hb dX6_all_142 (by decide) ?_
                      exact ih_31 (i_31 + 1) v3_31 _ _ _ (by omega) (by omega) hP hD hS (lv_sub hl [0, 1, 4, 5, 6] rfl) (fun w_31 H locs ls he hP hD hS hl => kk w_31 H locs ls (hR.trans he) hP hD hS hl)
                    · have c_129 : ¬ (r_126 ≤ r_122) := c_129
                      have hR := hR.trans (if_neg c_129)
                      refine lv_iload hx hb dX6_all_132 (lv_at hl 2 rfl) ?_
                      refine lv_goto (tgt := 138) hx hb dX6_all_134 (by decide) ?_
                      refine lv_istore_n (lv' := [(3, .int (nI i_31)), (6, .int (1 : Int32)), (5, .int w_44), (4, .int (nI i_31)), (0, .ref aR0), (1, .int xs), (2, .int xw)]) hx hb dX6_all_138 rfl hl (by decide) rfl (fun ls hl => ?_)
                      refine lv_iinc (v := (nI (i_31 + 1))) (lv' := [(4, .int (nI (i_31 + 1))), (3, .int (nI i_31)), (6, .int (1 : Int32)), (5, .int w_44), (0, .ref aR0), (1, .int xs), (2, .int xw)]) hx hb dX6_all_139 hl (k := 3) rfl (nI_1 i_31) (by decide) rfl (fun ls hl => ?_)
                      refine lv_goto (tgt := 31) hx hb dX6_all_142 (by decide) ?_
                      exact ih_31 (i_31 + 1) (nI i_31) _ _ _ (by omega) (by omega) hP hD hS (lv_sub hl [0, 1, 4, 5, 6] rfl) (fun w_31 H locs ls he hP hD hS hl => kk w_31 H locs ls (hR.trans he) hP hD hS hl)
      refine hloop_31 (64 + 1) 0 (-6 : Int32) _ _ _ (by omega) (by omega) hP hD hS (lv_sub hl [0, 1, 2, 3, 4] rfl) (fun w_31 H locs ls hw_31 hP hD hS hl => ?_)
      have hP : va_P δ vwCl (wR cI cJ cZ aR0 aR1 aR2 aR3 aR4 aR5 aR6 aR7 aR8 aR9 aR10 aR11 aR12 aR13 aR14 aR15 aR16 aR17 aR18 aR19 aR20 aR21 lv sg pd ac dd hd le bd my lf pa kp) H := hP
      have hD : va_D A (wR cI cJ cZ aR0 aR1 aR2 aR3 aR4 aR5 aR6 aR7 aR8 aR9 aR10 aR11 aR12 aR13 aR14 aR15 aR16 aR17 aR18 aR19 aR20 aR21 lv sg pd ac dd hd le bd my lf pa kp) := hD
      have hR := bnd_eq hR hw_31.symm
      refine lv_iload_n hx hb dX6_all_145 rfl (lv_at hl 0 rfl) ?_
      refine lv_if_lt (tgt := 154) hx hb dX6_all_146 (by decide) (fun c_146 => ?_) (fun c_146 => ?_)
      · have c_146 : (w_31 < 0) := c_146
        have hR := hR.trans (if_pos c_146)
        refine lv_iload_n hx hb dX6_all_154 rfl (lv_at hl 0 rfl) ?_
        refine lv_goto (tgt := 162) hx hb dX6_all_155 (by decide) ?_
        exact hret _ _ w_31 () _ _ hR hP hD hS dX6_all_162
      · have c_146 : ¬ (w_31 < 0) := c_146
        have hR := hR.trans (if_neg c_146)
        refine lv_iload_n hx hb dX6_all_149 rfl (lv_at hl 3 rfl) ?_
        refine lv_iconst (v := (1 : Int32)) hx hb dX6_all_150 (by decide) ?_
        refine lv_icmp_ne (tgt := 158) hx hb dX6_all_151 (by decide) (fun c_151 => ?_) (fun c_151 => ?_)
        · have c_151 : ¬ (xw = (1 : Int32)) := c_151
          have hR := hR.trans (if_neg c_151)
          refine lv_iload_n hx hb dX6_all_158 rfl (lv_at hl 0 rfl) ?_
          have hr := mrS (p := p) (e := e) (R := rm_X6_all) (below := below) (meth := meth) (H := H) (locs := locs) (ls := ls) (As := [.int w_31]) (rest := []) (c_X6_ones l δ cI cJ cZ w_31) hx hb hml hts hown hK hNW hP hD [] rfl rfl (va_cwS 1 hts gX6_all_X6_ones rfl rfl rfl (by decide +kernel) ⟨(Nat.le_of_ble_eq_true rfl), (Nat.le_of_ble_eq_true rfl)⟩) rfl hl.1 rfl (Nat.le_of_ble_eq_true rfl) dX6_all_159
          refine mc_i (wr := (wR cI cJ cZ aR0 aR1 aR2 aR3 aR4 aR5 aR6 aR7 aR8 aR9 aR10 aR11 aR12 aR13 aR14 aR15 aR16 aR17 aR18 aR19 aR20 aR21 lv sg pd ac dd hd le bd my lf pa kp)) hr hP hD hS hA [] [0, 1, 2, 3, 4, 5, 6, 7, 8, 9, 10, 11, 12, 13, 14, 15, 16, 17, 18, 19, 20, 21] [0, 1, 2, 3, 4, 5, 6, 7, 8, 9, 10, 11, 12, 13, 14, 15, 16, 17, 18, 19, 20, 21] rfl rfl rfl rfl rfl (wn := fun _ => (wR cI cJ cZ aR0 aR1 aR2 aR3 aR4 aR5 aR6 aR7 aR8 aR9 aR10 aR11 aR12 aR13 aR14 aR15 aR16 aR17 aR18 aR19 aR20 aR21 lv sg pd ac dd hd le bd my lf pa kp)) (fun _ => rfl) (fun r_159 _ H locs hw_159 hP hD hS => ?_)
          have hP : va_P δ vwCl (wR cI cJ cZ aR0 aR1 aR2 aR3 aR4 aR5 aR6 aR7 aR8 aR9 aR10 aR11 aR12 aR13 aR14 aR15 aR16 aR17 aR18 aR19 aR20 aR21 lv sg pd ac dd hd le bd my lf pa kp) H := hP
          have hD : va_D A (wR cI cJ cZ aR0 aR1 aR2 aR3 aR4 aR5 aR6 aR7 aR8 aR9 aR10 aR11 aR12 aR13 aR14 aR15 aR16 aR17 aR18 aR19 aR20 aR21 lv sg pd ac dd hd le bd my lf pa kp) := hD
          have hR := bnd_eq hR hw_159.symm
          exact hret _ _ r_159 () _ _ hR hP hD hS dX6_all_162
        · have c_151 : (xw = (1 : Int32)) := c_151
          have hR := hR.trans (if_pos c_151)
          refine lv_iload_n hx hb dX6_all_154 rfl (lv_at hl 0 rfl) ?_
          refine lv_goto (tgt := 162) hx hb dX6_all_155 (by decide) ?_
          exact hret _ _ w_31 () _ _ hR hP hD hS dX6_all_162
    · have c_19 : (r_16 = 0) := c_19
      have hR := hR.trans (if_pos c_19)
      refine lv_bipush (v := (-2 : Int32)) hx hb dX6_all_22 (by decide) ?_
      exact hret _ _ (-2 : Int32) () _ _ hR hP hD hS dX6_all_24

abbrev rm_X6_findLongest : Room := { frames := 0, cells := 0, slots := 0, locals := 0 }
set_option maxHeartbeats 4000000 in
set_option maxRecDepth 100000 in
theorem c_X6_findLongest (l : Launch) (δ : va_G) (cI cJ cZ : ClassId) (aR0 aR1 aR2 aR3 aR4 aR5 aR6 aR7 aR8 aR9 aR10 aR11 aR12 aR13 aR14 aR15 aR16 aR17 aR18 aR19 aR20 aR21 : Nat) (lv : LV) (sg : SG) (pd : PD) (ac : AC) (dd : DD) (hd : HD) (le : LE) (bd : BD) (my : MY) (lf : LF) (pa : PA) (kp : KP) (hde : (eDeeds dd).toNatClampNeg ≤ 60 ∧ 0 ≤ (eDeeds dd).toInt) : mMi l δ (mTy cI cJ cZ) yX6_findLongest wsX6_findLongest rm_X6_findLongest [.ref aR0] (wR cI cJ cZ aR0 aR1 aR2 aR3 aR4 aR5 aR6 aR7 aR8 aR9 aR10 aR11 aR12 aR13 aR14 aR15 aR16 aR17 aR18 aR19 aR20 aR21 lv sg pd ac dd hd le bd my lf pa kp) (S := LF) (fun r u => F_X6_findLongest dd lf = (r, u)) (fun u => (wR cI cJ cZ aR0 aR1 aR2 aR3 aR4 aR5 aR6 aR7 aR8 aR9 aR10 aR11 aR12 aR13 aR14 aR15 aR16 aR17 aR18 aR19 aR20 aR21 lv sg pd ac dd hd le bd my u pa kp)) := by
  refine mk_i (cc := cX6_findLongest) (maxL := 5) (by decide) rfl (Nat.le_of_ble_eq_true rfl) ?_
  intro p e s m args below meth c A Q ls H locs hx hb hml hts hown hK hNW hA hP hD hS hl hret
  have hown : s.vm.findClass RX6 = some m.cls := hown
  have hl : lv_has ls 5 [(0, .ref aR0)] := hl
  have hinX6 : ∀ w ∈ u_ws RX6 TX6 34, w ∈ wsX6_findLongest := (fun _ h => List.mem_cons_of_mem _ (List.mem_append_right _ (h)))
  have hR := F_X6_findLongest.eq_1 dd lf
  refine lv_iconst (v := (0 : Int32)) hx hb dX6_findLongest_0 (by decide) ?_
  refine lv_istore_n (lv' := [(1, .int (0 : Int32)), (0, .ref aR0)]) hx hb dX6_findLongest_1 rfl hl (by decide) rfl (fun ls hl => ?_)
  refine lv_aload_n hx hb dX6_findLongest_2 rfl (lv_at hl 1 rfl) ?_
  refine va_get (D := δ) (ci := 6) (v := .int (eDeeds dd)) (C := RX6) (T := TX6) (N := 34) hx hb hts hinX6 hown hK hP 0 rfl rfl 20 (by decide) (hts (.fieldLink RX6 154 "GloveHoursModel" "deeds" "I") (List.mem_of_getElem? (i := 1) rfl)) (fun _ h9 => h9) rfl dX6_findLongest_3 ?_
  refine lv_iconst (v := (1 : Int32)) hx hb dX6_findLongest_6 (by decide) ?_
  refine lv_isub hx hb dX6_findLongest_7 ?_
  refine lv_topi (fun y_7 e_7 => ?_)
  obtain rfl : y_7 = (nI (eDeeds dd).toNatClampNeg + (-1 : Int32)) := e_7.trans (dl_e hde.2)
  refine lv_istore_n (lv' := [(2, .int (nI (eDeeds dd).toNatClampNeg + (-1 : Int32))), (1, .int (0 : Int32)), (0, .ref aR0)]) hx hb dX6_findLongest_8 rfl hl (by decide) rfl (fun ls hl => ?_)
  have hloop_9 : ∀ (n_9 : Nat) (i_9 : Nat) (v1_9 : Int32) (lf_9 : LF) (H : Heap) (locs : List Loc) (ls : Array Slot), (hn_9 : i_9 < n_9) → (hi_9 : i_9 ≤ (eDeeds dd).toNatClampNeg) → (hP : va_P δ vwCl (wR cI cJ cZ aR0 aR1 aR2 aR3 aR4 aR5 aR6 aR7 aR8 aR9 aR10 aR11 aR12 aR13 aR14 aR15 aR16 aR17 aR18 aR19 aR20 aR21 lv sg pd ac dd hd le bd my lf_9 pa kp) H) → (hD : va_D A (wR cI cJ cZ aR0 aR1 aR2 aR3 aR4 aR5 aR6 aR7 aR8 aR9 aR10 aR11 aR12 aR13 aR14 aR15 aR16 aR17 aR18 aR19 aR20 aR21 lv sg pd ac dd hd le bd my lf_9 pa kp)) → (hS : va_S A s.heap H locs) → (hl : lv_has ls 5 [(2, .int (nI i_9 + (-1 : Int32))), (1, .int v1_9), (0, .ref aR0)]) → (kk : ∀ (w_9 : Int32 × LF) (H : Heap) (locs : List Loc) (ls : Array Slot), L_X6_findLongest_9 dd n_9 i_9 v1_9 lf_9 = w_9 → va_P δ vwCl (wR cI cJ cZ aR0 aR1 aR2 aR3 aR4 aR5 aR6 aR7 aR8 aR9 aR10 aR11 aR12 aR13 aR14 aR15 aR16 aR17 aR18 aR19 aR20 aR21 lv sg pd ac dd hd le bd my w_9.2 pa kp) H → va_D A (wR cI cJ cZ aR0 aR1 aR2 aR3 aR4 aR5 aR6 aR7 aR8 aR9 aR10 aR11 aR12 aR13 aR14 aR15 aR16 aR17 aR18 aR19 aR20 aR21 lv sg pd ac dd hd le bd my w_9.2 pa kp) → va_S A s.heap H locs → lv_has ls 5 [(1, .int w_9.1), (0, .ref aR0)] → W p l e rm_X6_findLongest s m args below meth c H locs 0 0 Q (F0 m 104 ls [])) → W p l e rm_X6_findLongest s m args below meth c H locs 0 0 Q (F0 m 9 ls []) := by
    intro n_9
    induction n_9 with
    | zero => intro i_9 v1_9 lf_9 H locs ls hn_9 hi_9 hP hD hS hl kk; exact absurd hn_9 (by omega)
    | succ n_9 ih_9 =>
      intro i_9 v1_9 lf_9 H locs ls hn_9 hi_9 hP hD hS hl kk
      have hR := L_X6_findLongest_9_s dd n_9 i_9 v1_9 lf_9
      refine lv_iload_n hx hb dX6_findLongest_9 rfl (lv_at hl 0 rfl) ?_
      refine lv_if_lt (tgt := 104) hx hb dX6_findLongest_10 (by decide) (fun c_10 => ?_) (fun c_10 => ?_)
      · have c_10 : ((nI i_9 + (-1 : Int32)) < 0) := c_10
        have hR := hR.trans (if_pos c_10)
        exact kk (v1_9, lf_9) H locs ls hR hP hD hS (lv_sub hl [1, 2] rfl)
      · have c_10 : ¬ ((nI i_9 + (-1 : Int32)) < 0) := c_10
        have hR := hR.trans (if_neg c_10)
        have hpos_9 : 0 < i_9 := dn_pos c_10
        have hl : lv_has ls 5 [(2, .int (nI (i_9 - 1))), (1, .int v1_9), (0, .ref aR0)] := by rw [← dn_e hpos_9]; exact hl
        refine lv_iconst (v := (0 : Int32)) hx hb dX6_findLongest_13 (by decide) ?_
        refine lv_istore_n (lv' := [(3, .int (0 : Int32)), (2, .int (nI (i_9 - 1))), (1, .int v1_9), (0, .ref aR0)]) hx hb dX6_findLongest_14 rfl hl (by decide) rfl (fun ls hl => ?_)
        refine lv_iload_n hx hb dX6_findLongest_15 rfl (lv_at hl 1 rfl) ?_
        refine lv_iconst (v := (1 : Int32)) hx hb dX6_findLongest_16 (by decide) ?_
        refine lv_iadd hx hb dX6_findLongest_17 ?_
        refine lv_topi (fun y_17 e_17 => ?_)
        obtain rfl : y_17 = (nI ((i_9 - 1) + 1)) := e_17.trans (nI_add (i_9 - 1) 1)
        refine lv_istore (lv' := [(4, .int (nI ((i_9 - 1) + 1))), (3, .int (0 : Int32)), (2, .int (nI (i_9 - 1))), (1, .int v1_9), (0, .ref aR0)]) hx hb dX6_findLongest_18 hl (by decide) rfl (fun ls hl => ?_)
        have hloop_20 : ∀ (n_20 : Nat) (i_20 : Nat) (v3_20 : Int32) (H : Heap) (locs : List Loc) (ls : Array Slot), (hi_20 : i_20 ≤ (eDeeds dd).toNatClampNeg) → (hn_20 : (eDeeds dd).toNatClampNeg < i_20 + n_20) → (hP : va_P δ vwCl (wR cI cJ cZ aR0 aR1 aR2 aR3 aR4 aR5 aR6 aR7 aR8 aR9 aR10 aR11 aR12 aR13 aR14 aR15 aR16 aR17 aR18 aR19 aR20 aR21 lv sg pd ac dd hd le bd my lf_9 pa kp) H) → (hD : va_D A (wR cI cJ cZ aR0 aR1 aR2 aR3 aR4 aR5 aR6 aR7 aR8 aR9 aR10 aR11 aR12 aR13 aR14 aR15 aR16 aR17 aR18 aR19 aR20 aR21 lv sg pd ac dd hd le bd my lf_9 pa kp)) → (hS : va_S A s.heap H locs) → (hl : lv_has ls 5 [(4, .int (nI i_20)), (3, .int v3_20), (2, .int (nI (i_9 - 1))), (1, .int v1_9), (0, .ref aR0)]) → (kk : ∀ (w_20 : Int32) (H : Heap) (locs : List Loc) (ls : Array Slot), L_X6_findLongest_20 dd lf_9 i_9 n_20 i_20 v3_20 = w_20 → va_P δ vwCl (wR cI cJ cZ aR0 aR1 aR2 aR3 aR4 aR5 aR6 aR7 aR8 aR9 aR10 aR11 aR12 aR13 aR14 aR15 aR16 aR17 aR18 aR19 aR20 aR21 lv sg pd ac dd hd le bd my lf_9 pa kp) H → va_D A (wR cI cJ cZ aR0 aR1 aR2 aR3 aR4 aR5 aR6 aR7 aR8 aR9 aR10 aR11 aR12 aR13 aR14 aR15 aR16 aR17 aR18 aR19 aR20 aR21 lv sg pd ac dd hd le bd my lf_9 pa kp) → va_S A s.heap H locs → lv_has ls 5 [(3, .int w_20), (2, .int (nI (i_9 - 1))), (1, .int v1_9), (0, .ref aR0)] → W p l e rm_X6_findLongest s m args below meth c H locs 0 0 Q (F0 m 74 ls [])) → W p l e rm_X6_findLongest s m args below meth c H locs 0 0 Q (F0 m 20 ls []) := by
          intro n_20
          induction n_20 with
          | zero => intro i_20 v3_20 H locs ls hi_20 hn_20 hP hD hS hl kk; exact absurd hn_20 (by omega)
          | succ n_20 ih_20 =>
            intro i_20 v3_20 H locs ls hi_20 hn_20 hP hD hS hl kk
            have hR := L_X6_findLongest_20_s dd lf_9 i_9 n_20 i_20 v3_20
            refine lv_iload hx hb dX6_findLongest_20 (lv_at hl 0 rfl) ?_
            refine lv_aload_n hx hb dX6_findLongest_22 rfl (lv_at hl 4 rfl) ?_
            refine va_get (D := δ) (ci := 6) (v := .int (eDeeds dd)) (C := RX6) (T := TX6) (N := 34) hx hb hts hinX6 hown hK hP 0 rfl rfl 20 (by decide) (hts (.fieldLink RX6 154 "GloveHoursModel" "deeds" "I") (List.mem_of_getElem? (i := 1) rfl)) (fun _ h9 => h9) rfl dX6_findLongest_23 ?_
            refine lv_icmp_ge (tgt := 74) hx hb dX6_findLongest_26 (by decide) (fun c_26 => ?_) (fun c_26 => ?_)
            · have c_26 : ((eDeeds dd) ≤ (nI i_20)) := c_26
              have hR := hR.trans (if_pos c_26)
              exact kk v3_20 H locs ls hR hP hD hS (lv_sub hl [1, 2, 3, 4] rfl)
            · have c_26 : ¬ ((eDeeds dd) ≤ (nI i_20)) := c_26
              have hR := hR.trans (if_neg c_26)
              have hlt_20 : i_20 < (eDeeds dd).toNatClampNeg := lt_c c_26 hi_20
              refine lv_aload_n hx hb dX6_findLongest_29 rfl (lv_at hl 4 rfl) ?_
              refine va_get (D := δ) (ci := 6) (v := .ref aR12) (C := RX6) (T := TX6) (N := 34) hx hb hts hinX6 hown hK hP 0 rfl rfl 17 (by decide) (hts (.fieldLink RX6 43 "GloveHoursModel" "deedHour" "[I") (List.mem_of_getElem? (i := 2) rfl)) (fun _ h9 => h9) rfl dX6_findLongest_30 ?_
              refine lv_iload hx hb dX6_findLongest_33 (lv_at hl 0 rfl) ?_
              refine va_iald hx hb hK hP 12 0 rfl rfl (vp_in_nI (by omega) (by decide)) dX6_findLongest_35 ?_
              refine lv_aload_n hx hb dX6_findLongest_36 rfl (lv_at hl 4 rfl) ?_
              refine va_get (D := δ) (ci := 6) (v := .ref aR12) (C := RX6) (T := TX6) (N := 34) hx hb hts hinX6 hown hK hP 0 rfl rfl 17 (by decide) (hts (.fieldLink RX6 43 "GloveHoursModel" "deedHour" "[I") (List.mem_of_getElem? (i := 2) rfl)) (fun _ h9 => h9) rfl dX6_findLongest_37 ?_
              refine lv_iload_n hx hb dX6_findLongest_40 rfl (lv_at hl 2 rfl) ?_
              refine va_iald hx hb hK hP 12 0 rfl rfl (vp_in_nI (by omega) (by decide)) dX6_findLongest_41 ?_
              refine lv_icmp_lt (tgt := 66) hx hb dX6_findLongest_42 (by decide) (fun c_42 => ?_) (fun c_42 => ?_)
              · have c_42 : (((eDeedHour dd) (nI i_20).toNatClampNeg) < ((eDeedHour dd) (nI (i_9 - 1)).toNatClampNeg)) := c_42
                have hR := hR.trans (if_pos c_42)
                refine lv_iload_n hx hb dX6_findLongest_66 rfl (lv_at hl 1 rfl) ?_
                refine lv_istore_n (lv' := [(3, .int v3_20), (4, .int (nI i_20)), (2, .int (nI (i_9 - 1))), (1, .int v1_9), (0, .ref aR0)]) hx hb dX6_findLongest_67 rfl hl (by decide) rfl (fun ls hl => ?_)
                refine lv_iinc (v := (nI (i_20 + 1))) (lv' := [(4, .int (nI (i_20 + 1))), (3, .int v3_20), (2, .int (nI (i_9 - 1))), (1, .int v1_9), (0, .ref aR0)]) hx hb dX6_findLongest_68 hl (k := 1) rfl (nI_1 i_20) (by decide) rfl (fun ls hl => ?_)
                refine lv_goto (tgt := 20) hx hb dX6_findLongest_71 (by decide) ?_
                exact ih_20 (i_20 + 1) v3_20 _ _ _ (by omega) (by omega) hP hD hS (lv_sub hl [0, 1, 2, 3, 4] rfl) (fun w_20 H locs ls he hP hD hS hl => kk w_20 H locs ls (hR.trans he) hP hD hS hl)
              · have c_42 : ¬ (((eDeedHour dd) (nI i_20).toNatClampNeg) < ((eDeedHour dd) (nI (i_9 - 1)).toNatClampNeg)) := c_42
                have hR := hR.trans (if_neg c_42)
                refine lv_aload_n hx hb dX6_findLongest_45 rfl (lv_at hl 4 rfl) ?_
                refine va_get (D := δ) (ci := 6) (v := .ref aR18) (C := RX6) (T := TX6) (N := 34) hx hb hts hinX6 hown hK hP 0 rfl rfl 28 (by decide) (hts (.fieldLink RX6 61 "GloveHoursModel" "longestFrom" "[I") (List.mem_of_getElem? (i := 3) rfl)) (fun _ h9 => h9) rfl dX6_findLongest_46 ?_
                refine lv_iload hx hb dX6_findLongest_49 (lv_at hl 0 rfl) ?_
                refine va_iald hx hb hK hP 18 0 rfl rfl (vp_in_nI (by omega) (by decide)) dX6_findLongest_51 ?_
                refine lv_iload_n hx hb dX6_findLongest_52 rfl (lv_at hl 1 rfl) ?_
                refine lv_icmp_le (tgt := 66) hx hb dX6_findLongest_53 (by decide) (fun c_53 => ?_) (fun c_53 => ?_)
                · have c_53 : (((fLongestFrom lf_9) (nI i_20).toNatClampNeg) ≤ v3_20) := c_53
                  have hR := hR.trans (if_pos c_53)
                  refine lv_iload_n hx hb dX6_findLongest_66 rfl (lv_at hl 1 rfl) ?_
                  refine lv_istore_n (lv' := [(3, .int v3_20), (4, .int (nI i_20)), (2, .int (nI (i_9 - 1))), (1, .int v1_9), (0, .ref aR0)]) hx hb dX6_findLongest_67 rfl hl (by decide) rfl (fun ls hl => ?_)
                  refine lv_iinc (v := (nI (i_20 + 1))) (lv' := [(4, .int (nI (i_20 + 1))), (3, .int v3_20), (2, .int (nI (i_9 - 1))), (1, .int v1_9), (0, .ref aR0)]) hx hb dX6_findLongest_68 hl (k := 1) rfl (nI_1 i_20) (by decide) rfl (fun ls hl => ?_)
                  refine lv_goto (tgt := 20) hx hb dX6_findLongest_71 (by decide) ?_
                  exact ih_20 (i_20 + 1) v3_20 _ _ _ (by omega) (by omega) hP hD hS (lv_sub hl [0, 1, 2, 3, 4] rfl) (fun w_20 H locs ls he hP hD hS hl => kk w_20 H locs ls (hR.trans he) hP hD hS hl)
                · have c_53 : ¬ (((fLongestFrom lf_9) (nI i_20).toNatClampNeg) ≤ v3_20) := c_53
                  have hR := hR.trans (if_neg c_53)
                  refine lv_aload_n hx hb dX6_findLongest_56 rfl (lv_at hl 4 rfl) ?_
                  refine va_get (D := δ) (ci := 6) (v := .ref aR18) (C := RX6) (T := TX6) (N := 34) hx hb hts hinX6 hown hK hP 0 rfl rfl 28 (by decide) (hts (.fieldLink RX6 61 "GloveHoursModel" "longestFrom" "[I") (List.mem_of_getElem? (i := 3) rfl)) (fun _ h9 => h9) rfl dX6_findLongest_57 ?_
                  refine lv_iload hx hb dX6_findLongest_60 (lv_at hl 0 rfl) ?_
                  refine va_iald hx hb hK hP 18 0 rfl rfl (vp_in_nI (by omega) (by decide)) dX6_findLongest_62 ?_
                  refine lv_goto (tgt := 67) hx hb dX6_findLongest_63 (by decide) ?_
                  refine lv_istore_n (lv' := [(3, .int ((fLongestFrom lf_9) (nI i_20).toNatClampNeg)), (4, .int (nI i_20)), (2, .int (nI (i_9 - 1))), (1, .int v1_9), (0, .ref aR0)]) hx hb dX6_findLongest_67 rfl hl (by decide) rfl (fun ls hl => ?_)
                  refine lv_iinc (v := (nI (i_20 + 1))) (lv' := [(4, .int (nI (i_20 + 1))), (3, .int ((fLongestFrom lf_9) (nI i_20).toNatClampNeg)), (2, .int (nI (i_9 - 1))), (1, .int v1_9), (0, .ref aR0)]) hx hb dX6_findLongest_68 hl (k := 1) rfl (nI_1 i_20) (by decide) rfl (fun ls hl => ?_)
                  refine lv_goto (tgt := 20) hx hb dX6_findLongest_71 (by decide) ?_
                  exact ih_20 (i_20 + 1) ((fLongestFrom lf_9) (nI i_20).toNatClampNeg) _ _ _ (by omega) (by omega) hP hD hS (lv_sub hl [0, 1, 2, 3, 4] rfl) (fun w_20 H locs ls he hP hD hS hl => kk w_20 H locs ls (hR.trans he) hP hD hS hl)
        refine hloop_20 ((eDeeds dd).toNatClampNeg + 1) (i_9 - 1 + 1) (0 : Int32) _ _ _ (by omega) (by omega) hP hD hS (lv_sub hl [0, 1, 2, 3, 4] rfl) (fun w_20 H locs ls hw_20 hP hD hS hl => ?_)
        have hP : va_P δ vwCl (wR cI cJ cZ aR0 aR1 aR2 aR3 aR4 aR5 aR6 aR7 aR8 aR9 aR10 aR11 aR12 aR13 aR14 aR15 aR16 aR17 aR18 aR19 aR20 aR21 lv sg pd ac dd hd le bd my lf_9 pa kp) H := hP
        have hD : va_D A (wR cI cJ cZ aR0 aR1 aR2 aR3 aR4 aR5 aR6 aR7 aR8 aR9 aR10 aR11 aR12 aR13 aR14 aR15 aR16 aR17 aR18 aR19 aR20 aR21 lv sg pd ac dd hd le bd my lf_9 pa kp) := hD
        have hR := bnd_eq hR hw_20.symm
        refine lv_aload_n hx hb dX6_findLongest_74 rfl (lv_at hl 3 rfl) ?_
        refine va_get (D := δ) (ci := 6) (v := .ref aR18) (C := RX6) (T := TX6) (N := 34) hx hb hts hinX6 hown hK hP 0 rfl rfl 28 (by decide) (hts (.fieldLink RX6 61 "GloveHoursModel" "longestFrom" "[I") (List.mem_of_getElem? (i := 3) rfl)) (fun _ h9 => h9) rfl dX6_findLongest_75 ?_
        refine lv_iload_n hx hb dX6_findLongest_78 rfl (lv_at hl 1 rfl) ?_
        refine lv_iload_n hx hb dX6_findLongest_79 rfl (lv_at hl 0 rfl) ?_
        refine lv_iconst (v := (1 : Int32)) hx hb dX6_findLongest_80 (by decide) ?_
        refine lv_iadd hx hb dX6_findLongest_81 ?_
        refine va_iast hx hb hK hP hD hS 18 0 rfl rfl (vp_in_nI (by omega) (by decide)) dX6_findLongest_82 (fun H locs hP hD hS => ?_)
        have hP : va_P δ vwCl (wR cI cJ cZ aR0 aR1 aR2 aR3 aR4 aR5 aR6 aR7 aR8 aR9 aR10 aR11 aR12 aR13 aR14 aR15 aR16 aR17 aR18 aR19 aR20 aR21 lv sg pd ac dd hd le bd my (upd (fLongestFrom lf_9) (nI (i_9 - 1)).toNatClampNeg (w_20 + (1 : Int32))) pa kp) H := hP
        have hD : va_D A (wR cI cJ cZ aR0 aR1 aR2 aR3 aR4 aR5 aR6 aR7 aR8 aR9 aR10 aR11 aR12 aR13 aR14 aR15 aR16 aR17 aR18 aR19 aR20 aR21 lv sg pd ac dd hd le bd my (upd (fLongestFrom lf_9) (nI (i_9 - 1)).toNatClampNeg (w_20 + (1 : Int32))) pa kp) := hD
        refine lv_iload_n hx hb dX6_findLongest_83 rfl (lv_at hl 0 rfl) ?_
        refine lv_iconst (v := (1 : Int32)) hx hb dX6_findLongest_84 (by decide) ?_
        refine lv_iadd hx hb dX6_findLongest_85 ?_
        refine lv_iload_n hx hb dX6_findLongest_86 rfl (lv_at hl 2 rfl) ?_
        refine lv_icmp_le (tgt := 96) hx hb dX6_findLongest_87 (by decide) (fun c_87 => ?_) (fun c_87 => ?_)
        · have c_87 : ((w_20 + (1 : Int32)) ≤ v1_9) := c_87
          have hR := hR.trans (if_pos c_87)
          refine lv_iload_n hx hb dX6_findLongest_96 rfl (lv_at hl 2 rfl) ?_
          refine lv_istore_n (lv' := [(1, .int v1_9), (3, .int w_20), (2, .int (nI (i_9 - 1))), (0, .ref aR0)]) hx hb dX6_findLongest_97 rfl hl (by decide) rfl (fun ls hl => ?_)
          refine lv_iinc (v := (nI (i_9 - 1) + (-1 : Int32))) (lv' := [(2, .int (nI (i_9 - 1) + (-1 : Int32))), (1, .int v1_9), (3, .int w_20), (0, .ref aR0)]) hx hb dX6_findLongest_98 hl (k := 2) rfl rfl (by decide) rfl (fun ls hl => ?_)
          refine lv_goto (tgt := 9) hx hb dX6_findLongest_101 (by decide) ?_
          exact ih_9 (i_9 - 1) v1_9 (upd (fLongestFrom lf_9) (nI (i_9 - 1)).toNatClampNeg (w_20 + (1 : Int32))) _ _ _ (by omega) (by omega) hP hD hS (lv_sub hl [0, 1, 3] rfl) (fun w_9 H locs ls he hP hD hS hl => kk w_9 H locs ls (hR.trans he) hP hD hS hl)
        · have c_87 : ¬ ((w_20 + (1 : Int32)) ≤ v1_9) := c_87
          have hR := hR.trans (if_neg c_87)
          refine lv_iload_n hx hb dX6_findLongest_90 rfl (lv_at hl 0 rfl) ?_
          refine lv_iconst (v := (1 : Int32)) hx hb dX6_findLongest_91 (by decide) ?_
          refine lv_iadd hx hb dX6_findLongest_92 ?_
          refine lv_goto (tgt := 97) hx hb dX6_findLongest_93 (by decide) ?_
          refine lv_istore_n (lv' := [(1, .int (w_20 + (1 : Int32))), (3, .int w_20), (2, .int (nI (i_9 - 1))), (0, .ref aR0)]) hx hb dX6_findLongest_97 rfl hl (by decide) rfl (fun ls hl => ?_)
          refine lv_iinc (v := (nI (i_9 - 1) + (-1 : Int32))) (lv' := [(2, .int (nI (i_9 - 1) + (-1 : Int32))), (1, .int (w_20 + (1 : Int32))), (3, .int w_20), (0, .ref aR0)]) hx hb dX6_findLongest_98 hl (k := 2) rfl rfl (by decide) rfl (fun ls hl => ?_)
          refine lv_goto (tgt := 9) hx hb dX6_findLongest_101 (by decide) ?_
          exact ih_9 (i_9 - 1) (w_20 + (1 : Int32)) (upd (fLongestFrom lf_9) (nI (i_9 - 1)).toNatClampNeg (w_20 + (1 : Int32))) _ _ _ (by omega) (by omega) hP hD hS (lv_sub hl [0, 1, 3] rfl) (fun w_9 H locs ls he hP hD hS hl => kk w_9 H locs ls (hR.trans he) hP hD hS hl)
  refine hloop_9 ((eDeeds dd).toNatClampNeg + 1) ((eDeeds dd).toNatClampNeg) (0 : Int32) lf _ _ _ (by omega) (by omega) hP hD hS (lv_sub hl [0, 1, 2] rfl) (fun w_9 H locs ls hw_9 hP hD hS hl => ?_)
  have hP : va_P δ vwCl (wR cI cJ cZ aR0 aR1 aR2 aR3 aR4 aR5 aR6 aR7 aR8 aR9 aR10 aR11 aR12 aR13 aR14 aR15 aR16 aR17 aR18 aR19 aR20 aR21 lv sg pd ac dd hd le bd my w_9.2 pa kp) H := hP
  have hD : va_D A (wR cI cJ cZ aR0 aR1 aR2 aR3 aR4 aR5 aR6 aR7 aR8 aR9 aR10 aR11 aR12 aR13 aR14 aR15 aR16 aR17 aR18 aR19 aR20 aR21 lv sg pd ac dd hd le bd my w_9.2 pa kp) := hD
  have hR := bnd_eq hR hw_9.symm
  refine lv_iload_n hx hb dX6_findLongest_104 rfl (lv_at hl 0 rfl) ?_
  exact hret _ _ w_9.1 w_9.2 _ _ hR hP hD hS dX6_findLongest_105

abbrev rm_X6_mended : Room := { frames := 7, cells := 0, slots := 0, locals := 158 }
set_option maxHeartbeats 4000000 in
set_option maxRecDepth 100000 in
theorem c_X6_mended (l : Launch) (δ : va_G) (cI cJ cZ : ClassId) (aR0 aR1 aR2 aR3 aR4 aR5 aR6 aR7 aR8 aR9 aR10 aR11 aR12 aR13 aR14 aR15 aR16 aR17 aR18 aR19 aR20 aR21 : Nat) (lv : LV) (sg : SG) (pd : PD) (ac : AC) (dd : DD) (hd : HD) (le : LE) (bd : BD) (my : MY) (lf : LF) (pa : PA) (kp : KP) (xw : Int32) (hq : vp_in (qPadMany pd) 61) (hrk : rOK lv) : mMi l δ (mTy cI cJ cZ) yX6_mended wsX6_mended rm_X6_mended [.ref aR0, .int xw] (wR cI cJ cZ aR0 aR1 aR2 aR3 aR4 aR5 aR6 aR7 aR8 aR9 aR10 aR11 aR12 aR13 aR14 aR15 aR16 aR17 aR18 aR19 aR20 aR21 lv sg pd ac dd hd le bd my lf pa kp) (S := LV × AC × DD × HD × LE × BD × LF) (fun r u => F_X6_mended lv pd ac dd hd le bd lf xw = (r, u)) (fun u => (wR cI cJ cZ aR0 aR1 aR2 aR3 aR4 aR5 aR6 aR7 aR8 aR9 aR10 aR11 aR12 aR13 aR14 aR15 aR16 aR17 aR18 aR19 aR20 aR21 u.1 sg pd u.2.1 u.2.2.1 u.2.2.2.1 u.2.2.2.2.1 u.2.2.2.2.2.1 my u.2.2.2.2.2.2 pa kp)) := by
  refine mk_i (cc := cX6_mended) (maxL := 7) (by decide) rfl (Nat.le_of_ble_eq_true rfl) ?_
  intro p e s m args below meth c A Q ls H locs hx hb hml hts hown hK hNW hA hP hD hS hl hret
  have hown : s.vm.findClass RX6 = some m.cls := hown
  have hl : lv_has ls 7 [(0, .ref aR0), (1, .int xw)] := hl
  have hinX6 : ∀ w ∈ u_ws RX6 TX6 34, w ∈ wsX6_mended := (fun _ h => List.mem_cons_of_mem _ (List.mem_append_right _ (h)))
  have hR := F_X6_mended.eq_1 lv pd ac dd hd le bd lf xw
  refine lv_iload_n hx hb dX6_mended_0 rfl (lv_at hl 1 rfl) ?_
  refine lv_i2l (v := (xw.toInt64)) hx hb dX6_mended_1 rfl ?_
  refine lv_lconst (v := (0 : Int64)) hx hb dX6_mended_2 (by decide) ?_
  refine lv_lconst (v := (1 : Int64)) hx hb dX6_mended_3 (by decide) ?_
  have hr := mrS (p := p) (e := e) (R := rm_X6_mended) (below := below) (meth := meth) (H := H) (locs := locs) (ls := ls) (As := [.long (xw.toInt64), .long (0 : Int64), .long (1 : Int64)]) (rest := []) (c_X6_in l δ cI cJ cZ (xw.toInt64) (0 : Int64) (1 : Int64)) hx hb hml hts hown hK hNW hP hD [] rfl rfl (va_cwS 3 hts gX6_mended_X6_in rfl rfl rfl (by decide +kernel) ⟨(Nat.le_of_ble_eq_true rfl), (Nat.le_of_ble_eq_true rfl)⟩) rfl hl.1 rfl (Nat.le_of_ble_eq_true rfl) dX6_mended_4
  refine mc_i (wr := (wR cI cJ cZ aR0 aR1 aR2 aR3 aR4 aR5 aR6 aR7 aR8 aR9 aR10 aR11 aR12 aR13 aR14 aR15 aR16 aR17 aR18 aR19 aR20 aR21 lv sg pd ac dd hd le bd my lf pa kp)) hr hP hD hS hA [] [0, 1, 2, 3, 4, 5, 6, 7, 8, 9, 10, 11, 12, 13, 14, 15, 16, 17, 18, 19, 20, 21] [0, 1, 2, 3, 4, 5, 6, 7, 8, 9, 10, 11, 12, 13, 14, 15, 16, 17, 18, 19, 20, 21] rfl rfl rfl rfl rfl (wn := fun _ => (wR cI cJ cZ aR0 aR1 aR2 aR3 aR4 aR5 aR6 aR7 aR8 aR9 aR10 aR11 aR12 aR13 aR14 aR15 aR16 aR17 aR18 aR19 aR20 aR21 lv sg pd ac dd hd le bd my lf pa kp)) (fun _ => rfl) (fun r_4 _ H locs hw_4 hP hD hS => ?_)
  obtain ⟨hw_4, z_4⟩ := hw_4
  have hP : va_P δ vwCl (wR cI cJ cZ aR0 aR1 aR2 aR3 aR4 aR5 aR6 aR7 aR8 aR9 aR10 aR11 aR12 aR13 aR14 aR15 aR16 aR17 aR18 aR19 aR20 aR21 lv sg pd ac dd hd le bd my lf pa kp) H := hP
  have hD : va_D A (wR cI cJ cZ aR0 aR1 aR2 aR3 aR4 aR5 aR6 aR7 aR8 aR9 aR10 aR11 aR12 aR13 aR14 aR15 aR16 aR17 aR18 aR19 aR20 aR21 lv sg pd ac dd hd le bd my lf pa kp) := hD
  have hR := bnd_eq hR hw_4.symm
  refine lv_if_ne (tgt := 13) hx hb dX6_mended_7 (by decide) (fun c_7 => ?_) (fun c_7 => ?_)
  · have c_7 : ¬ (r_4 = 0) := c_7
    have hR := hR.trans (if_neg c_7)
    refine lv_aload_n hx hb dX6_mended_13 rfl (lv_at hl 0 rfl) ?_
    have hr := mrV (p := p) (e := e) (R := rm_X6_mended) (below := below) (meth := meth) (H := H) (locs := locs) (ls := ls) (As := []) (rest := []) (c_X6_refusal l δ cI cJ cZ aR0 aR1 aR2 aR3 aR4 aR5 aR6 aR7 aR8 aR9 aR10 aR11 aR12 aR13 aR14 aR15 aR16 aR17 aR18 aR19 aR20 aR21 lv sg pd ac dd hd le bd my lf pa kp hq hrk) hx hb hml hts hown hK hNW hP hD [0, 1, 2, 3, 4, 5, 6, 7, 8, 9, 10, 11, 12, 13, 14, 15, 16, 17, 18, 19, 20, 21] rfl rfl 6 0 rfl rfl (cwV 0 hts gX6_mended_X6_refusal rfl rfl rfl (by decide +kernel) ⟨(Nat.le_of_ble_eq_true rfl), (Nat.le_of_ble_eq_true rfl)⟩) rfl hl.1 rfl (Nat.le_of_ble_eq_true rfl) dX6_mended_14
    refine mc_i (wr := ([] : va_W)) hr hP hD hS hA [0, 1, 2, 3, 4, 5, 6, 7, 8, 9, 10, 11, 12, 13, 14, 15, 16, 17, 18, 19, 20, 21] [] [0, 1, 2, 3, 4, 5, 6, 7, 8, 9, 10, 11, 12, 13, 14, 15, 16, 17, 18, 19, 20, 21] rfl rfl rfl rfl rfl (wn := fun u_14 => (wR cI cJ cZ aR0 aR1 aR2 aR3 aR4 aR5 aR6 aR7 aR8 aR9 aR10 aR11 aR12 aR13 aR14 aR15 aR16 aR17 aR18 aR19 aR20 aR21 u_14.1 sg pd u_14.2.1 u_14.2.2.1 u_14.2.2.2.1 u_14.2.2.2.2.1 u_14.2.2.2.2.2 my lf pa kp)) (fun _ => rfl) (fun r_14 u_14 H locs hw_14 hP hD hS => ?_)
    have hP : va_P δ vwCl (wR cI cJ cZ aR0 aR1 aR2 aR3 aR4 aR5 aR6 aR7 aR8 aR9 aR10 aR11 aR12 aR13 aR14 aR15 aR16 aR17 aR18 aR19 aR20 aR21 u_14.1 sg pd u_14.2.1 u_14.2.2.1 u_14.2.2.2.1 u_14.2.2.2.2.1 u_14.2.2.2.2.2 my lf pa kp) H := hP
    have hD : va_D A (wR cI cJ cZ aR0 aR1 aR2 aR3 aR4 aR5 aR6 aR7 aR8 aR9 aR10 aR11 aR12 aR13 aR14 aR15 aR16 aR17 aR18 aR19 aR20 aR21 u_14.1 sg pd u_14.2.1 u_14.2.2.1 u_14.2.2.2.1 u_14.2.2.2.2.1 u_14.2.2.2.2.2 my lf pa kp) := hD
    have hR := bnd_eq hR hw_14.symm
    refine lv_istore_n (lv' := [(2, .int r_14), (0, .ref aR0), (1, .int xw)]) hx hb dX6_mended_17 rfl hl (by decide) rfl (fun ls hl => ?_)
    refine lv_iload_n hx hb dX6_mended_18 rfl (lv_at hl 0 rfl) ?_
    refine lv_bipush (v := (-6 : Int32)) hx hb dX6_mended_19 (by decide) ?_
    refine lv_icmp_eq (tgt := 26) hx hb dX6_mended_21 (by decide) (fun c_21 => ?_) (fun c_21 => ?_)
    · have c_21 : (r_14 = (-6 : Int32)) := c_21
      have hR := hR.trans (if_pos c_21)
      refine lv_aload_n hx hb dX6_mended_26 rfl (lv_at hl 1 rfl) ?_
      have hde := refusal_deeds hw_14 c_21 hq hrk
      have hr := mrV (p := p) (e := e) (R := rm_X6_mended) (below := below) (meth := meth) (H := H) (locs := locs) (ls := ls) (As := []) (rest := []) (c_X6_findLongest l δ cI cJ cZ aR0 aR1 aR2 aR3 aR4 aR5 aR6 aR7 aR8 aR9 aR10 aR11 aR12 aR13 aR14 aR15 aR16 aR17 aR18 aR19 aR20 aR21 u_14.1 sg pd u_14.2.1 u_14.2.2.1 u_14.2.2.2.1 u_14.2.2.2.2.1 u_14.2.2.2.2.2 my lf pa kp hde) hx hb hml hts hown hK hNW hP hD [0, 1, 2, 3, 4, 5, 6, 7, 8, 9, 10, 11, 12, 13, 14, 15, 16, 17, 18, 19, 20, 21] rfl rfl 6 0 rfl rfl (cwV 0 hts gX6_mended_X6_findLongest rfl rfl rfl (by decide +kernel) ⟨(Nat.le_of_ble_eq_true rfl), (Nat.le_of_ble_eq_true rfl)⟩) rfl hl.1 rfl (Nat.le_of_ble_eq_true rfl) dX6_mended_27
      refine mc_i (wr := ([] : va_W)) hr hP hD hS hA [0, 1, 2, 3, 4, 5, 6, 7, 8, 9, 10, 11, 12, 13, 14, 15, 16, 17, 18, 19, 20, 21] [] [0, 1, 2, 3, 4, 5, 6, 7, 8, 9, 10, 11, 12, 13, 14, 15, 16, 17, 18, 19, 20, 21] rfl rfl rfl rfl rfl (wn := fun u_27 => (wR cI cJ cZ aR0 aR1 aR2 aR3 aR4 aR5 aR6 aR7 aR8 aR9 aR10 aR11 aR12 aR13 aR14 aR15 aR16 aR17 aR18 aR19 aR20 aR21 u_14.1 sg pd u_14.2.1 u_14.2.2.1 u_14.2.2.2.1 u_14.2.2.2.2.1 u_14.2.2.2.2.2 my u_27 pa kp)) (fun _ => rfl) (fun r_27 u_27 H locs hw_27 hP hD hS => ?_)
      have hP : va_P δ vwCl (wR cI cJ cZ aR0 aR1 aR2 aR3 aR4 aR5 aR6 aR7 aR8 aR9 aR10 aR11 aR12 aR13 aR14 aR15 aR16 aR17 aR18 aR19 aR20 aR21 u_14.1 sg pd u_14.2.1 u_14.2.2.1 u_14.2.2.2.1 u_14.2.2.2.2.1 u_14.2.2.2.2.2 my u_27 pa kp) H := hP
      have hD : va_D A (wR cI cJ cZ aR0 aR1 aR2 aR3 aR4 aR5 aR6 aR7 aR8 aR9 aR10 aR11 aR12 aR13 aR14 aR15 aR16 aR17 aR18 aR19 aR20 aR21 u_14.1 sg pd u_14.2.1 u_14.2.2.1 u_14.2.2.2.1 u_14.2.2.2.2.1 u_14.2.2.2.2.2 my u_27 pa kp) := hD
      have hR := bnd_eq hR hw_27.symm
      refine lv_istore_n (lv' := [(3, .int r_27), (2, .int r_14), (0, .ref aR0), (1, .int xw)]) hx hb dX6_mended_30 rfl hl (by decide) rfl (fun ls hl => ?_)
      refine lv_iload_n hx hb dX6_mended_31 rfl (lv_at hl 3 rfl) ?_
      refine lv_if_ne (tgt := 42) hx hb dX6_mended_32 (by decide) (fun c_32 => ?_) (fun c_32 => ?_)
      · have c_32 : ¬ (xw = 0) := c_32
        have hR := hR.trans (if_neg c_32)
        refine lv_iconst (v := (0 : Int32)) hx hb dX6_mended_42 (by decide) ?_
        refine lv_istore (lv' := [(4, .int (0 : Int32)), (3, .int r_27), (2, .int r_14), (0, .ref aR0), (1, .int xw)]) hx hb dX6_mended_43 hl (by decide) rfl (fun ls hl => ?_)
        refine lv_iconst (v := (0 : Int32)) hx hb dX6_mended_45 (by decide) ?_
        refine lv_istore (lv' := [(5, .int (0 : Int32)), (4, .int (0 : Int32)), (3, .int r_27), (2, .int r_14), (0, .ref aR0), (1, .int xw)]) hx hb dX6_mended_46 hl (by decide) rfl (fun ls hl => ?_)
        have hloop_48 : ∀ (n_48 : Nat) (i_48 : Nat) (v4_48 : Int32) (v3_48 : Int32) (H : Heap) (locs : List Loc) (ls : Array Slot), (hi_48 : i_48 ≤ (eDeeds u_14.2.2.1).toNatClampNeg) → (hn_48 : (eDeeds u_14.2.2.1).toNatClampNeg < i_48 + n_48) → (hP : va_P δ vwCl (wR cI cJ cZ aR0 aR1 aR2 aR3 aR4 aR5 aR6 aR7 aR8 aR9 aR10 aR11 aR12 aR13 aR14 aR15 aR16 aR17 aR18 aR19 aR20 aR21 u_14.1 sg pd u_14.2.1 u_14.2.2.1 u_14.2.2.2.1 u_14.2.2.2.2.1 u_14.2.2.2.2.2 my u_27 pa kp) H) → (hD : va_D A (wR cI cJ cZ aR0 aR1 aR2 aR3 aR4 aR5 aR6 aR7 aR8 aR9 aR10 aR11 aR12 aR13 aR14 aR15 aR16 aR17 aR18 aR19 aR20 aR21 u_14.1 sg pd u_14.2.1 u_14.2.2.1 u_14.2.2.2.1 u_14.2.2.2.2.1 u_14.2.2.2.2.2 my u_27 pa kp)) → (hS : va_S A s.heap H locs) → (hl : lv_has ls 7 [(5, .int (nI i_48)), (4, .int v4_48), (3, .int v3_48), (2, .int r_14), (0, .ref aR0), (1, .int xw)]) → (hR : F_X6_mended lv pd ac dd hd le bd lf xw = L_X6_mended_48 u_14 u_27 n_48 i_48 v4_48 v3_48) → W p l e rm_X6_mended s m args below meth c H locs 0 0 Q (F0 m 48 ls []) := by
          intro n_48
          induction n_48 with
          | zero => intro i_48 v4_48 v3_48 H locs ls hi_48 hn_48 hP hD hS hl hR; exact absurd hn_48 (by omega)
          | succ n_48 ih_48 =>
            intro i_48 v4_48 v3_48 H locs ls hi_48 hn_48 hP hD hS hl hR
            have hR := hR.trans (L_X6_mended_48_s u_14 u_27 n_48 i_48 v4_48 v3_48)
            refine lv_iload hx hb dX6_mended_48 (lv_at hl 0 rfl) ?_
            refine lv_aload_n hx hb dX6_mended_50 rfl (lv_at hl 4 rfl) ?_
            refine va_get (D := δ) (ci := 6) (v := .int (eDeeds u_14.2.2.1)) (C := RX6) (T := TX6) (N := 34) hx hb hts hinX6 hown hK hP 0 rfl rfl 20 (by decide) (hts (.fieldLink RX6 154 "GloveHoursModel" "deeds" "I") (List.mem_of_getElem? (i := 1) rfl)) (fun _ h9 => h9) rfl dX6_mended_51 ?_
            refine lv_icmp_ge (tgt := 113) hx hb dX6_mended_54 (by decide) (fun c_54 => ?_) (fun c_54 => ?_)
            · have c_54 : ((eDeeds u_14.2.2.1) ≤ (nI i_48)) := c_54
              have hR := hR.trans (if_pos c_54)
              refine lv_bipush (v := (-6 : Int32)) hx hb dX6_mended_113 (by decide) ?_
              exact hret _ _ (-6 : Int32) (u_14.1, u_14.2.1, u_14.2.2.1, u_14.2.2.2.1, u_14.2.2.2.2.1, u_14.2.2.2.2.2, u_27) _ _ hR hP hD hS dX6_mended_115
            · have c_54 : ¬ ((eDeeds u_14.2.2.1) ≤ (nI i_48)) := c_54
              have hR := hR.trans (if_neg c_54)
              have hlt_48 : i_48 < (eDeeds u_14.2.2.1).toNatClampNeg := lt_c c_54 hi_48
              refine lv_aload_n hx hb dX6_mended_57 rfl (lv_at hl 4 rfl) ?_
              refine va_get (D := δ) (ci := 6) (v := .ref aR18) (C := RX6) (T := TX6) (N := 34) hx hb hts hinX6 hown hK hP 0 rfl rfl 28 (by decide) (hts (.fieldLink RX6 61 "GloveHoursModel" "longestFrom" "[I") (List.mem_of_getElem? (i := 2) rfl)) (fun _ h9 => h9) rfl dX6_mended_58 ?_
              refine lv_iload hx hb dX6_mended_61 (lv_at hl 0 rfl) ?_
              refine va_iald hx hb hK hP 18 0 rfl rfl (vp_in_nI (by omega) (by decide)) dX6_mended_63 ?_
              refine lv_iload_n hx hb dX6_mended_64 rfl (lv_at hl 2 rfl) ?_
              refine lv_icmp_ne (tgt := 84) hx hb dX6_mended_65 (by decide) (fun c_65 => ?_) (fun c_65 => ?_)
              · have c_65 : ¬ (((fLongestFrom u_27) (nI i_48).toNatClampNeg) = v3_48) := c_65
                have hR := hR.trans (if_neg c_65)
                refine lv_iconst (v := (0 : Int32)) hx hb dX6_mended_84 (by decide) ?_
                refine lv_istore (lv' := [(6, .int (0 : Int32)), (5, .int (nI i_48)), (4, .int v4_48), (3, .int v3_48), (2, .int r_14), (0, .ref aR0), (1, .int xw)]) hx hb dX6_mended_85 hl (by decide) rfl (fun ls hl => ?_)
                refine lv_iload hx hb dX6_mended_87 (lv_at hl 0 rfl) ?_
                refine lv_if_ne (tgt := 95) hx hb dX6_mended_89 (by decide) (fun c_89 => ?_) (fun c_89 => ?_)
                · have c_89 : ¬ ((0 : Int32) = 0) := c_89
                  have hR := hR.trans (if_neg c_89)
                  refine lv_aload_n hx hb dX6_mended_95 rfl (lv_at hl 5 rfl) ?_
                  refine va_get (D := δ) (ci := 6) (v := .ref aR12) (C := RX6) (T := TX6) (N := 34) hx hb hts hinX6 hown hK hP 0 rfl rfl 17 (by decide) (hts (.fieldLink RX6 43 "GloveHoursModel" "deedHour" "[I") (List.mem_of_getElem? (i := 3) rfl)) (fun _ h9 => h9) rfl dX6_mended_96 ?_
                  refine lv_iload hx hb dX6_mended_99 (lv_at hl 1 rfl) ?_
                  refine va_iald hx hb hK hP 12 0 rfl rfl (vp_in_nI (by omega) (by decide)) dX6_mended_101 ?_
                  refine lv_istore (lv' := [(4, .int ((eDeedHour u_14.2.2.1) (nI i_48).toNatClampNeg)), (6, .int (0 : Int32)), (5, .int (nI i_48)), (3, .int v3_48), (2, .int r_14), (0, .ref aR0), (1, .int xw)]) hx hb dX6_mended_102 hl (by decide) rfl (fun ls hl => ?_)
                  refine lv_iinc (v := (v3_48 + (-1 : Int32))) (lv' := [(3, .int (v3_48 + (-1 : Int32))), (4, .int ((eDeedHour u_14.2.2.1) (nI i_48).toNatClampNeg)), (6, .int (0 : Int32)), (5, .int (nI i_48)), (2, .int r_14), (0, .ref aR0), (1, .int xw)]) hx hb dX6_mended_104 hl (k := 3) rfl rfl (by decide) rfl (fun ls hl => ?_)
                  refine lv_iinc (v := (nI (i_48 + 1))) (lv' := [(5, .int (nI (i_48 + 1))), (3, .int (v3_48 + (-1 : Int32))), (4, .int ((eDeedHour u_14.2.2.1) (nI i_48).toNatClampNeg)), (6, .int (0 : Int32)), (2, .int r_14), (0, .ref aR0), (1, .int xw)]) hx hb dX6_mended_107 hl (k := 3) rfl (nI_1 i_48) (by decide) rfl (fun ls hl => ?_)
                  refine lv_goto (tgt := 48) hx hb dX6_mended_110 (by decide) ?_
                  exact ih_48 (i_48 + 1) ((eDeedHour u_14.2.2.1) (nI i_48).toNatClampNeg) (v3_48 + (-1 : Int32)) _ _ _ (by omega) (by omega) hP hD hS (lv_sub hl [0, 2, 1, 4, 5, 6] rfl) hR
                · have c_89 : ((0 : Int32) = 0) := c_89
                  have hR := hR.trans (if_pos c_89)
                  refine lv_iload hx hb dX6_mended_92 (lv_at hl 1 rfl) ?_
                  exact hret _ _ (nI i_48) (u_14.1, u_14.2.1, u_14.2.2.1, u_14.2.2.2.1, u_14.2.2.2.2.1, u_14.2.2.2.2.2, u_27) _ _ hR hP hD hS dX6_mended_94
              · have c_65 : (((fLongestFrom u_27) (nI i_48).toNatClampNeg) = v3_48) := c_65
                have hR := hR.trans (if_pos c_65)
                refine lv_aload_n hx hb dX6_mended_68 rfl (lv_at hl 4 rfl) ?_
                refine va_get (D := δ) (ci := 6) (v := .ref aR12) (C := RX6) (T := TX6) (N := 34) hx hb hts hinX6 hown hK hP 0 rfl rfl 17 (by decide) (hts (.fieldLink RX6 43 "GloveHoursModel" "deedHour" "[I") (List.mem_of_getElem? (i := 3) rfl)) (fun _ h9 => h9) rfl dX6_mended_69 ?_
                refine lv_iload hx hb dX6_mended_72 (lv_at hl 0 rfl) ?_
                refine va_iald hx hb hK hP 12 0 rfl rfl (vp_in_nI (by omega) (by decide)) dX6_mended_74 ?_
                refine lv_iload hx hb dX6_mended_75 (lv_at hl 1 rfl) ?_
                refine lv_icmp_lt (tgt := 84) hx hb dX6_mended_77 (by decide) (fun c_77 => ?_) (fun c_77 => ?_)
                · have c_77 : (((eDeedHour u_14.2.2.1) (nI i_48).toNatClampNeg) < v4_48) := c_77
                  have hR := hR.trans (if_pos c_77)
                  refine lv_iconst (v := (0 : Int32)) hx hb dX6_mended_84 (by decide) ?_
                  refine lv_istore (lv' := [(6, .int (0 : Int32)), (5, .int (nI i_48)), (4, .int v4_48), (3, .int v3_48), (2, .int r_14), (0, .ref aR0), (1, .int xw)]) hx hb dX6_mended_85 hl (by decide) rfl (fun ls hl => ?_)
                  refine lv_iload hx hb dX6_mended_87 (lv_at hl 0 rfl) ?_
                  refine lv_if_ne (tgt := 95) hx hb dX6_mended_89 (by decide) (fun c_89 => ?_) (fun c_89 => ?_)
                  · have c_89 : ¬ ((0 : Int32) = 0) := c_89
                    have hR := hR.trans (if_neg c_89)
                    refine lv_aload_n hx hb dX6_mended_95 rfl (lv_at hl 5 rfl) ?_
                    refine va_get (D := δ) (ci := 6) (v := .ref aR12) (C := RX6) (T := TX6) (N := 34) hx hb hts hinX6 hown hK hP 0 rfl rfl 17 (by decide) (hts (.fieldLink RX6 43 "GloveHoursModel" "deedHour" "[I") (List.mem_of_getElem? (i := 3) rfl)) (fun _ h9 => h9) rfl dX6_mended_96 ?_
                    refine lv_iload hx hb dX6_mended_99 (lv_at hl 1 rfl) ?_
                    refine va_iald hx hb hK hP 12 0 rfl rfl (vp_in_nI (by omega) (by decide)) dX6_mended_101 ?_
                    refine lv_istore (lv' := [(4, .int ((eDeedHour u_14.2.2.1) (nI i_48).toNatClampNeg)), (6, .int (0 : Int32)), (5, .int (nI i_48)), (3, .int v3_48), (2, .int r_14), (0, .ref aR0), (1, .int xw)]) hx hb dX6_mended_102 hl (by decide) rfl (fun ls hl => ?_)
                    refine lv_iinc (v := (v3_48 + (-1 : Int32))) (lv' := [(3, .int (v3_48 + (-1 : Int32))), (4, .int ((eDeedHour u_14.2.2.1) (nI i_48).toNatClampNeg)), (6, .int (0 : Int32)), (5, .int (nI i_48)), (2, .int r_14), (0, .ref aR0), (1, .int xw)]) hx hb dX6_mended_104 hl (k := 3) rfl rfl (by decide) rfl (fun ls hl => ?_)
                    refine lv_iinc (v := (nI (i_48 + 1))) (lv' := [(5, .int (nI (i_48 + 1))), (3, .int (v3_48 + (-1 : Int32))), (4, .int ((eDeedHour u_14.2.2.1) (nI i_48).toNatClampNeg)), (6, .int (0 : Int32)), (2, .int r_14), (0, .ref aR0), (1, .int xw)]) hx hb dX6_mended_107 hl (k := 3) rfl (nI_1 i_48) (by decide) rfl (fun ls hl => ?_)
                    refine lv_goto (tgt := 48) hx hb dX6_mended_110 (by decide) ?_
                    exact ih_48 (i_48 + 1) ((eDeedHour u_14.2.2.1) (nI i_48).toNatClampNeg) (v3_48 + (-1 : Int32)) _ _ _ (by omega) (by omega) hP hD hS (lv_sub hl [0, 2, 1, 4, 5, 6] rfl) hR
                  · have c_89 : ((0 : Int32) = 0) := c_89
                    have hR := hR.trans (if_pos c_89)
                    refine lv_iload hx hb dX6_mended_92 (lv_at hl 1 rfl) ?_
                    exact hret _ _ (nI i_48) (u_14.1, u_14.2.1, u_14.2.2.1, u_14.2.2.2.1, u_14.2.2.2.2.1, u_14.2.2.2.2.2, u_27) _ _ hR hP hD hS dX6_mended_94
                · have c_77 : ¬ (((eDeedHour u_14.2.2.1) (nI i_48).toNatClampNeg) < v4_48) := c_77
                  have hR := hR.trans (if_neg c_77)
                  refine lv_iconst (v := (1 : Int32)) hx hb dX6_mended_80 (by decide) ?_
                  refine lv_goto (tgt := 85) hx hb dX6_mended_81 (by decide) ?_
                  refine lv_istore (lv' := [(6, .int (1 : Int32)), (5, .int (nI i_48)), (4, .int v4_48), (3, .int v3_48), (2, .int r_14), (0, .ref aR0), (1, .int xw)]) hx hb dX6_mended_85 hl (by decide) rfl (fun ls hl => ?_)
                  refine lv_iload hx hb dX6_mended_87 (lv_at hl 0 rfl) ?_
                  refine lv_if_ne (tgt := 95) hx hb dX6_mended_89 (by decide) (fun c_89 => ?_) (fun c_89 => ?_)
                  · have c_89 : ¬ ((1 : Int32) = 0) := c_89
                    have hR := hR.trans (if_neg c_89)
                    refine lv_aload_n hx hb dX6_mended_95 rfl (lv_at hl 5 rfl) ?_
                    refine va_get (D := δ) (ci := 6) (v := .ref aR12) (C := RX6) (T := TX6) (N := 34) hx hb hts hinX6 hown hK hP 0 rfl rfl 17 (by decide) (hts (.fieldLink RX6 43 "GloveHoursModel" "deedHour" "[I") (List.mem_of_getElem? (i := 3) rfl)) (fun _ h9 => h9) rfl dX6_mended_96 ?_
                    refine lv_iload hx hb dX6_mended_99 (lv_at hl 1 rfl) ?_
                    refine va_iald hx hb hK hP 12 0 rfl rfl (vp_in_nI (by omega) (by decide)) dX6_mended_101 ?_
                    refine lv_istore (lv' := [(4, .int ((eDeedHour u_14.2.2.1) (nI i_48).toNatClampNeg)), (6, .int (1 : Int32)), (5, .int (nI i_48)), (3, .int v3_48), (2, .int r_14), (0, .ref aR0), (1, .int xw)]) hx hb dX6_mended_102 hl (by decide) rfl (fun ls hl => ?_)
                    refine lv_iinc (v := (v3_48 + (-1 : Int32))) (lv' := [(3, .int (v3_48 + (-1 : Int32))), (4, .int ((eDeedHour u_14.2.2.1) (nI i_48).toNatClampNeg)), (6, .int (1 : Int32)), (5, .int (nI i_48)), (2, .int r_14), (0, .ref aR0), (1, .int xw)]) hx hb dX6_mended_104 hl (k := 3) rfl rfl (by decide) rfl (fun ls hl => ?_)
                    refine lv_iinc (v := (nI (i_48 + 1))) (lv' := [(5, .int (nI (i_48 + 1))), (3, .int (v3_48 + (-1 : Int32))), (4, .int ((eDeedHour u_14.2.2.1) (nI i_48).toNatClampNeg)), (6, .int (1 : Int32)), (2, .int r_14), (0, .ref aR0), (1, .int xw)]) hx hb dX6_mended_107 hl (k := 3) rfl (nI_1 i_48) (by decide) rfl (fun ls hl => ?_)
                    refine lv_goto (tgt := 48) hx hb dX6_mended_110 (by decide) ?_
                    exact ih_48 (i_48 + 1) ((eDeedHour u_14.2.2.1) (nI i_48).toNatClampNeg) (v3_48 + (-1 : Int32)) _ _ _ (by omega) (by omega) hP hD hS (lv_sub hl [0, 2, 1, 4, 5, 6] rfl) hR
                  · have c_89 : ((1 : Int32) = 0) := c_89
                    have hR := hR.trans (if_pos c_89)
                    refine lv_iload hx hb dX6_mended_92 (lv_at hl 1 rfl) ?_
                    exact hret _ _ (nI i_48) (u_14.1, u_14.2.1, u_14.2.2.1, u_14.2.2.2.1, u_14.2.2.2.2.1, u_14.2.2.2.2.2, u_27) _ _ hR hP hD hS dX6_mended_94
        exact hloop_48 ((eDeeds u_14.2.2.1).toNatClampNeg + 1) 0 (0 : Int32) r_27 _ _ _ (by omega) (by omega) hP hD hS (lv_sub hl [0, 1, 2, 3, 4, 5] rfl) hR
      · have c_32 : (xw = 0) := c_32
        have hR := hR.trans (if_pos c_32)
        refine lv_aload_n hx hb dX6_mended_35 rfl (lv_at hl 2 rfl) ?_
        refine va_get (D := δ) (ci := 6) (v := .int (eDeeds u_14.2.2.1)) (C := RX6) (T := TX6) (N := 34) hx hb hts hinX6 hown hK hP 0 rfl rfl 20 (by decide) (hts (.fieldLink RX6 154 "GloveHoursModel" "deeds" "I") (List.mem_of_getElem? (i := 1) rfl)) (fun _ h9 => h9) rfl dX6_mended_36 ?_
        refine lv_iload_n hx hb dX6_mended_39 rfl (lv_at hl 0 rfl) ?_
        refine lv_isub hx hb dX6_mended_40 ?_
        exact hret _ _ ((eDeeds u_14.2.2.1) - r_27) (u_14.1, u_14.2.1, u_14.2.2.1, u_14.2.2.2.1, u_14.2.2.2.2.1, u_14.2.2.2.2.2, u_27) _ _ hR hP hD hS dX6_mended_41
    · have c_21 : ¬ (r_14 = (-6 : Int32)) := c_21
      have hR := hR.trans (if_neg c_21)
      refine lv_iload_n hx hb dX6_mended_24 rfl (lv_at hl 0 rfl) ?_
      exact hret _ _ r_14 (u_14.1, u_14.2.1, u_14.2.2.1, u_14.2.2.2.1, u_14.2.2.2.2.1, u_14.2.2.2.2.2, lf) _ _ hR hP hD hS dX6_mended_25
  · have c_7 : (r_4 = 0) := c_7
    have hR := hR.trans (if_pos c_7)
    refine lv_bipush (v := (-2 : Int32)) hx hb dX6_mended_10 (by decide) ?_
    exact hret _ _ (-2 : Int32) (lv, ac, dd, hd, le, bd, lf) _ _ hR hP hD hS dX6_mended_12

abbrev rm_X6_isStrike : Room := { frames := 1, cells := 0, slots := 0, locals := 25 }
set_option maxHeartbeats 4000000 in
set_option maxRecDepth 100000 in
theorem c_X6_isStrike (l : Launch) (δ : va_G) (cI cJ cZ : ClassId) (xa : Int32) (xx : Int32) (xb : Int32) (xy : Int32) : mMi l δ (mTy cI cJ cZ) yX6_isStrike wsX6_isStrike rm_X6_isStrike [.int xa, .int xx, .int xb, .int xy] ([] : va_W) (S := Unit) (fun r _ => F_X6_isStrike xa xx xb xy = r ∧ mZ r) (fun _ => ([] : va_W)) := by
  refine mk_z (post := fun r _ => F_X6_isStrike xa xx xb xy = r) (cc := cX6_isStrike) (maxL := 4) (by decide) rfl (Nat.le_of_ble_eq_true rfl) ?_
  intro p e s m args below meth c A Q ls H locs hx hb hml hts hown hK hNW hA hP hD hS hl hret
  have hown : s.vm.findClass RX6 = some m.cls := hown
  have hl : lv_has ls 4 [(0, .int xa), (1, .int xx), (2, .int xb), (3, .int xy)] := hl
  have hR := F_X6_isStrike.eq_1 xa xx xb xy
  refine lv_iload_n hx hb dX6_isStrike_0 rfl (lv_at hl 0 rfl) ?_
  refine lv_i2l (v := (xa.toInt64)) hx hb dX6_isStrike_1 rfl ?_
  refine lv_lconst (v := (1 : Int64)) hx hb dX6_isStrike_2 (by decide) ?_
  refine lv_ldc2 (v := (999 : Int64)) hx hb hown (hts (.constantLong RX6 243 (999)) (List.mem_of_getElem? (i := 1) rfl)) dX6_isStrike_3 ?_
  have hr := mrS (p := p) (e := e) (R := rm_X6_isStrike) (below := below) (meth := meth) (H := H) (locs := locs) (ls := ls) (As := [.long (xa.toInt64), .long (1 : Int64), .long (999 : Int64)]) (rest := []) (c_X6_in l δ cI cJ cZ (xa.toInt64) (1 : Int64) (999 : Int64)) hx hb hml hts hown hK hNW hP hD [] rfl rfl (va_cwS 3 hts gX6_isStrike_X6_in rfl rfl rfl (by decide +kernel) ⟨(Nat.le_of_ble_eq_true rfl), (Nat.le_of_ble_eq_true rfl)⟩) rfl hl.1 rfl (Nat.le_of_ble_eq_true rfl) dX6_isStrike_6
  refine mc_i (wr := ([] : va_W)) hr hP hD hS hA [] [] [] rfl rfl rfl rfl rfl (wn := fun _ => ([] : va_W)) (fun _ => rfl) (fun r_6 _ H locs hw_6 hP hD hS => ?_)
  obtain ⟨hw_6, z_6⟩ := hw_6
  have hP : va_P δ vwCl ([] : va_W) H := hP
  have hD : va_D A ([] : va_W) := hD
  have hR := bnd_eq hR hw_6.symm
  refine lv_if_eq (tgt := 54) hx hb dX6_isStrike_9 (by decide) (fun c_9 => ?_) (fun c_9 => ?_)
  · have c_9 : (r_6 = 0) := c_9
    have hR := hR.trans (if_pos c_9)
    refine lv_iconst (v := (0 : Int32)) hx hb dX6_isStrike_54 (by decide) ?_
    exact hret _ _ (0 : Int32) () _ _ hR (Or.inl rfl) hP hD hS dX6_isStrike_55
  · have c_9 : ¬ (r_6 = 0) := c_9
    have hR := hR.trans (if_neg c_9)
    refine lv_iload_n hx hb dX6_isStrike_12 rfl (lv_at hl 2 rfl) ?_
    refine lv_i2l (v := (xb.toInt64)) hx hb dX6_isStrike_13 rfl ?_
    refine lv_lconst (v := (1 : Int64)) hx hb dX6_isStrike_14 (by decide) ?_
    refine lv_ldc2 (v := (999 : Int64)) hx hb hown (hts (.constantLong RX6 243 (999)) (List.mem_of_getElem? (i := 1) rfl)) dX6_isStrike_15 ?_
    have hr := mrS (p := p) (e := e) (R := rm_X6_isStrike) (below := below) (meth := meth) (H := H) (locs := locs) (ls := ls) (As := [.long (xb.toInt64), .long (1 : Int64), .long (999 : Int64)]) (rest := []) (c_X6_in l δ cI cJ cZ (xb.toInt64) (1 : Int64) (999 : Int64)) hx hb hml hts hown hK hNW hP hD [] rfl rfl (va_cwS 3 hts gX6_isStrike_X6_in rfl rfl rfl (by decide +kernel) ⟨(Nat.le_of_ble_eq_true rfl), (Nat.le_of_ble_eq_true rfl)⟩) rfl hl.1 rfl (Nat.le_of_ble_eq_true rfl) dX6_isStrike_18
    refine mc_i (wr := ([] : va_W)) hr hP hD hS hA [] [] [] rfl rfl rfl rfl rfl (wn := fun _ => ([] : va_W)) (fun _ => rfl) (fun r_18 _ H locs hw_18 hP hD hS => ?_)
    obtain ⟨hw_18, z_18⟩ := hw_18
    have hP : va_P δ vwCl ([] : va_W) H := hP
    have hD : va_D A ([] : va_W) := hD
    have hR := bnd_eq hR hw_18.symm
    refine lv_if_eq (tgt := 54) hx hb dX6_isStrike_21 (by decide) (fun c_21 => ?_) (fun c_21 => ?_)
    · have c_21 : (r_18 = 0) := c_21
      have hR := hR.trans (if_pos c_21)
      refine lv_iconst (v := (0 : Int32)) hx hb dX6_isStrike_54 (by decide) ?_
      exact hret _ _ (0 : Int32) () _ _ hR (Or.inl rfl) hP hD hS dX6_isStrike_55
    · have c_21 : ¬ (r_18 = 0) := c_21
      have hR := hR.trans (if_neg c_21)
      refine lv_iload_n hx hb dX6_isStrike_24 rfl (lv_at hl 1 rfl) ?_
      refine lv_i2l (v := (xx.toInt64)) hx hb dX6_isStrike_25 rfl ?_
      refine lv_lconst (v := (0 : Int64)) hx hb dX6_isStrike_26 (by decide) ?_
      refine lv_iload_n hx hb dX6_isStrike_27 rfl (lv_at hl 0 rfl) ?_
      refine lv_iconst (v := (1 : Int32)) hx hb dX6_isStrike_28 (by decide) ?_
      refine lv_isub hx hb dX6_isStrike_29 ?_
      refine lv_i2l (v := ((xa - (1 : Int32)).toInt64)) hx hb dX6_isStrike_30 rfl ?_
      have hr := mrS (p := p) (e := e) (R := rm_X6_isStrike) (below := below) (meth := meth) (H := H) (locs := locs) (ls := ls) (As := [.long (xx.toInt64), .long (0 : Int64), .long ((xa - (1 : Int32)).toInt64)]) (rest := []) (c_X6_in l δ cI cJ cZ (xx.toInt64) (0 : Int64) ((xa - (1 : Int32)).toInt64)) hx hb hml hts hown hK hNW hP hD [] rfl rfl (va_cwS 3 hts gX6_isStrike_X6_in rfl rfl rfl (by decide +kernel) ⟨(Nat.le_of_ble_eq_true rfl), (Nat.le_of_ble_eq_true rfl)⟩) rfl hl.1 rfl (Nat.le_of_ble_eq_true rfl) dX6_isStrike_31
      refine mc_i (wr := ([] : va_W)) hr hP hD hS hA [] [] [] rfl rfl rfl rfl rfl (wn := fun _ => ([] : va_W)) (fun _ => rfl) (fun r_31 _ H locs hw_31 hP hD hS => ?_)
      obtain ⟨hw_31, z_31⟩ := hw_31
      have hP : va_P δ vwCl ([] : va_W) H := hP
      have hD : va_D A ([] : va_W) := hD
      have hR := bnd_eq hR hw_31.symm
      refine lv_if_eq (tgt := 54) hx hb dX6_isStrike_34 (by decide) (fun c_34 => ?_) (fun c_34 => ?_)
      · have c_34 : (r_31 = 0) := c_34
        have hR := hR.trans (if_pos c_34)
        refine lv_iconst (v := (0 : Int32)) hx hb dX6_isStrike_54 (by decide) ?_
        exact hret _ _ (0 : Int32) () _ _ hR (Or.inl rfl) hP hD hS dX6_isStrike_55
      · have c_34 : ¬ (r_31 = 0) := c_34
        have hR := hR.trans (if_neg c_34)
        refine lv_iload_n hx hb dX6_isStrike_37 rfl (lv_at hl 3 rfl) ?_
        refine lv_i2l (v := (xy.toInt64)) hx hb dX6_isStrike_38 rfl ?_
        refine lv_lconst (v := (0 : Int64)) hx hb dX6_isStrike_39 (by decide) ?_
        refine lv_iload_n hx hb dX6_isStrike_40 rfl (lv_at hl 2 rfl) ?_
        refine lv_iconst (v := (1 : Int32)) hx hb dX6_isStrike_41 (by decide) ?_
        refine lv_isub hx hb dX6_isStrike_42 ?_
        refine lv_i2l (v := ((xb - (1 : Int32)).toInt64)) hx hb dX6_isStrike_43 rfl ?_
        have hr := mrS (p := p) (e := e) (R := rm_X6_isStrike) (below := below) (meth := meth) (H := H) (locs := locs) (ls := ls) (As := [.long (xy.toInt64), .long (0 : Int64), .long ((xb - (1 : Int32)).toInt64)]) (rest := []) (c_X6_in l δ cI cJ cZ (xy.toInt64) (0 : Int64) ((xb - (1 : Int32)).toInt64)) hx hb hml hts hown hK hNW hP hD [] rfl rfl (va_cwS 3 hts gX6_isStrike_X6_in rfl rfl rfl (by decide +kernel) ⟨(Nat.le_of_ble_eq_true rfl), (Nat.le_of_ble_eq_true rfl)⟩) rfl hl.1 rfl (Nat.le_of_ble_eq_true rfl) dX6_isStrike_44
        refine mc_i (wr := ([] : va_W)) hr hP hD hS hA [] [] [] rfl rfl rfl rfl rfl (wn := fun _ => ([] : va_W)) (fun _ => rfl) (fun r_44 _ H locs hw_44 hP hD hS => ?_)
        obtain ⟨hw_44, z_44⟩ := hw_44
        have hP : va_P δ vwCl ([] : va_W) H := hP
        have hD : va_D A ([] : va_W) := hD
        have hR := bnd_eq hR hw_44.symm
        refine lv_if_eq (tgt := 54) hx hb dX6_isStrike_47 (by decide) (fun c_47 => ?_) (fun c_47 => ?_)
        · have c_47 : (r_44 = 0) := c_47
          have hR := hR.trans (if_pos c_47)
          refine lv_iconst (v := (0 : Int32)) hx hb dX6_isStrike_54 (by decide) ?_
          exact hret _ _ (0 : Int32) () _ _ hR (Or.inl rfl) hP hD hS dX6_isStrike_55
        · have c_47 : ¬ (r_44 = 0) := c_47
          have hR := hR.trans (if_neg c_47)
          refine lv_iconst (v := (1 : Int32)) hx hb dX6_isStrike_50 (by decide) ?_
          refine lv_goto (tgt := 55) hx hb dX6_isStrike_51 (by decide) ?_
          exact hret _ _ (1 : Int32) () _ _ hR (Or.inr rfl) hP hD hS dX6_isStrike_55

abbrev rm_X6_strikes : Room := { frames := 2, cells := 0, slots := 0, locals := 48 }
set_option maxHeartbeats 4000000 in
set_option maxRecDepth 100000 in
theorem c_X6_strikes (l : Launch) (δ : va_G) (cI cJ cZ : ClassId) (aR0 aR1 aR2 aR3 aR4 aR5 aR6 aR7 aR8 aR9 aR10 aR11 aR12 aR13 aR14 aR15 aR16 aR17 aR18 aR19 aR20 aR21 : Nat) (lv : LV) (sg : SG) (pd : PD) (ac : AC) (dd : DD) (hd : HD) (le : LE) (bd : BD) (my : MY) (lf : LF) (pa : PA) (kp : KP) (xa : Int32) (xx : Int32) (xb : Int32) (xy : Int32) : mMi l δ (mTy cI cJ cZ) yX6_strikes wsX6_strikes rm_X6_strikes [.ref aR0, .int xa, .int xx, .int xb, .int xy] (wR cI cJ cZ aR0 aR1 aR2 aR3 aR4 aR5 aR6 aR7 aR8 aR9 aR10 aR11 aR12 aR13 aR14 aR15 aR16 aR17 aR18 aR19 aR20 aR21 lv sg pd ac dd hd le bd my lf pa kp) (S := Unit) (fun r _ => F_X6_strikes xa xx xb xy = r) (fun _ => (wR cI cJ cZ aR0 aR1 aR2 aR3 aR4 aR5 aR6 aR7 aR8 aR9 aR10 aR11 aR12 aR13 aR14 aR15 aR16 aR17 aR18 aR19 aR20 aR21 lv sg pd ac dd hd le bd my lf pa kp)) := by
  refine mk_i (cc := cX6_strikes) (maxL := 6) (by decide) rfl (Nat.le_of_ble_eq_true rfl) ?_
  intro p e s m args below meth c A Q ls H locs hx hb hml hts hown hK hNW hA hP hD hS hl hret
  have hown : s.vm.findClass RX6 = some m.cls := hown
  have hl : lv_has ls 6 [(0, .ref aR0), (1, .int xa), (2, .int xx), (3, .int xb), (4, .int xy)] := hl
  have hR := F_X6_strikes.eq_1 xa xx xb xy
  refine lv_iload_n hx hb dX6_strikes_0 rfl (lv_at hl 1 rfl) ?_
  refine lv_iload_n hx hb dX6_strikes_1 rfl (lv_at hl 2 rfl) ?_
  refine lv_iload_n hx hb dX6_strikes_2 rfl (lv_at hl 3 rfl) ?_
  refine lv_iload hx hb dX6_strikes_3 (lv_at hl 4 rfl) ?_
  have hr := mrS (p := p) (e := e) (R := rm_X6_strikes) (below := below) (meth := meth) (H := H) (locs := locs) (ls := ls) (As := [.int xa, .int xx, .int xb, .int xy]) (rest := []) (c_X6_isStrike l δ cI cJ cZ xa xx xb xy) hx hb hml hts hown hK hNW hP hD [] rfl rfl (va_cwS 4 hts gX6_strikes_X6_isStrike rfl rfl rfl (by decide +kernel) ⟨(Nat.le_of_ble_eq_true rfl), (Nat.le_of_ble_eq_true rfl)⟩) rfl hl.1 rfl (Nat.le_of_ble_eq_true rfl) dX6_strikes_5
  refine mc_i (wr := (wR cI cJ cZ aR0 aR1 aR2 aR3 aR4 aR5 aR6 aR7 aR8 aR9 aR10 aR11 aR12 aR13 aR14 aR15 aR16 aR17 aR18 aR19 aR20 aR21 lv sg pd ac dd hd le bd my lf pa kp)) hr hP hD hS hA [] [0, 1, 2, 3, 4, 5, 6, 7, 8, 9, 10, 11, 12, 13, 14, 15, 16, 17, 18, 19, 20, 21] [0, 1, 2, 3, 4, 5, 6, 7, 8, 9, 10, 11, 12, 13, 14, 15, 16, 17, 18, 19, 20, 21] rfl rfl rfl rfl rfl (wn := fun _ => (wR cI cJ cZ aR0 aR1 aR2 aR3 aR4 aR5 aR6 aR7 aR8 aR9 aR10 aR11 aR12 aR13 aR14 aR15 aR16 aR17 aR18 aR19 aR20 aR21 lv sg pd ac dd hd le bd my lf pa kp)) (fun _ => rfl) (fun r_5 _ H locs hw_5 hP hD hS => ?_)
  obtain ⟨hw_5, z_5⟩ := hw_5
  have hP : va_P δ vwCl (wR cI cJ cZ aR0 aR1 aR2 aR3 aR4 aR5 aR6 aR7 aR8 aR9 aR10 aR11 aR12 aR13 aR14 aR15 aR16 aR17 aR18 aR19 aR20 aR21 lv sg pd ac dd hd le bd my lf pa kp) H := hP
  have hD : va_D A (wR cI cJ cZ aR0 aR1 aR2 aR3 aR4 aR5 aR6 aR7 aR8 aR9 aR10 aR11 aR12 aR13 aR14 aR15 aR16 aR17 aR18 aR19 aR20 aR21 lv sg pd ac dd hd le bd my lf pa kp) := hD
  have hR := bnd_eq hR hw_5.symm
  refine lv_if_ne (tgt := 14) hx hb dX6_strikes_8 (by decide) (fun c_8 => ?_) (fun c_8 => ?_)
  · have c_8 : ¬ (r_5 = 0) := c_8
    have hR := hR.trans (if_neg c_8)
    refine lv_iload_n hx hb dX6_strikes_14 rfl (lv_at hl 2 rfl) ?_
    refine lv_istore (lv' := [(5, .int xx), (0, .ref aR0), (1, .int xa), (2, .int xx), (3, .int xb), (4, .int xy)]) hx hb dX6_strikes_15 hl (by decide) rfl (fun ls hl => ?_)
    have hloop_17 : ∀ (n_17 : Nat) (v5_17 : Int32) (H : Heap) (locs : List Loc) (ls : Array Slot), (hn_17 : (1001000 - v5_17.toInt).toNat < n_17) → (hv_17 : 0 ≤ v5_17.toInt ∧ v5_17.toInt ≤ 1001000) → (hP : va_P δ vwCl (wR cI cJ cZ aR0 aR1 aR2 aR3 aR4 aR5 aR6 aR7 aR8 aR9 aR10 aR11 aR12 aR13 aR14 aR15 aR16 aR17 aR18 aR19 aR20 aR21 lv sg pd ac dd hd le bd my lf pa kp) H) → (hD : va_D A (wR cI cJ cZ aR0 aR1 aR2 aR3 aR4 aR5 aR6 aR7 aR8 aR9 aR10 aR11 aR12 aR13 aR14 aR15 aR16 aR17 aR18 aR19 aR20 aR21 lv sg pd ac dd hd le bd my lf pa kp)) → (hS : va_S A s.heap H locs) → (hl : lv_has ls 6 [(5, .int v5_17), (0, .ref aR0), (1, .int xa), (2, .int xx), (3, .int xb), (4, .int xy)]) → (hR : F_X6_strikes xa xx xb xy = L_X6_strikes_17 xa xb xy n_17 v5_17) → W p l e rm_X6_strikes s m args below meth c H locs 0 0 Q (F0 m 17 ls []) := by
      intro n_17
      induction n_17 with
      | zero => intro v5_17 H locs ls hn_17 hv_17 hP hD hS hl hR; exact absurd hn_17 (by omega)
      | succ n_17 ih_17 =>
        intro v5_17 H locs ls hn_17 hv_17 hP hD hS hl hR
        have hR := hR.trans (L_X6_strikes_17_s xa xb xy n_17 v5_17)
        refine lv_iload hx hb dX6_strikes_17 (lv_at hl 0 rfl) ?_
        refine lv_ldc (v := (1000000 : Int32)) hx hb hown (hts (.constant RX6 249 (1000000)) (List.mem_of_getElem? (i := 1) rfl)) dX6_strikes_19 ?_
        refine lv_icmp_ge (tgt := 45) hx hb dX6_strikes_21 (by decide) (fun c_21 => ?_) (fun c_21 => ?_)
        · have c_21 : ((1000000 : Int32) ≤ v5_17) := c_21
          have hR := hR.trans (if_pos c_21)
          refine lv_bipush (v := (-6 : Int32)) hx hb dX6_strikes_45 (by decide) ?_
          exact hret _ _ (-6 : Int32) () _ _ hR hP hD hS dX6_strikes_47
        · have c_21 : ¬ ((1000000 : Int32) ≤ v5_17) := c_21
          have hR := hR.trans (if_neg c_21)
          refine lv_iload hx hb dX6_strikes_24 (lv_at hl 0 rfl) ?_
          refine lv_iload_n hx hb dX6_strikes_26 rfl (lv_at hl 4 rfl) ?_
          refine lv_irem hx hb dX6_strikes_27 (strike_b (strike_in hw_5 c_8)) ?_
          refine lv_iload hx hb dX6_strikes_28 (lv_at hl 5 rfl) ?_
          refine lv_icmp_ne (tgt := 36) hx hb dX6_strikes_30 (by decide) (fun c_30 => ?_) (fun c_30 => ?_)
          · have c_30 : ¬ ((v5_17 - v5_17 / xb * xb) = xy) := c_30
            have hR := hR.trans (if_neg c_30)
            refine lv_iload hx hb dX6_strikes_36 (lv_at hl 0 rfl) ?_
            refine lv_iload_n hx hb dX6_strikes_38 rfl (lv_at hl 2 rfl) ?_
            refine lv_iadd hx hb dX6_strikes_39 ?_
            refine lv_istore (lv' := [(5, .int (v5_17 + xa)), (0, .ref aR0), (1, .int xa), (2, .int xx), (3, .int xb), (4, .int xy)]) hx hb dX6_strikes_40 hl (by decide) rfl (fun ls hl => ?_)
            refine lv_goto (tgt := 17) hx hb dX6_strikes_42 (by decide) ?_
            exact ih_17 (v5_17 + xa) _ _ _ (strike_m (strike_in hw_5 c_8) hv_17 c_21 hn_17) (strike_v (strike_in hw_5 c_8) hv_17 c_21) hP hD hS (lv_sub hl [0, 1, 2, 3, 4, 5] rfl) hR
          · have c_30 : ((v5_17 - v5_17 / xb * xb) = xy) := c_30
            have hR := hR.trans (if_pos c_30)
            refine lv_iload hx hb dX6_strikes_33 (lv_at hl 0 rfl) ?_
            exact hret _ _ v5_17 () _ _ hR hP hD hS dX6_strikes_35
    exact hloop_17 ((1001000 - xx.toInt).toNat + 1) xx _ _ _ (by omega) (strike_x (strike_in hw_5 c_8)) hP hD hS (lv_sub hl [0, 1, 2, 3, 4, 5] rfl) hR
  · have c_8 : (r_5 = 0) := c_8
    have hR := hR.trans (if_pos c_8)
    refine lv_bipush (v := (-2 : Int32)) hx hb dX6_strikes_11 (by decide) ?_
    exact hret _ _ (-2 : Int32) () _ _ hR hP hD hS dX6_strikes_13

abbrev rm_X6_often : Room := { frames := 2, cells := 0, slots := 0, locals := 48 }
set_option maxHeartbeats 4000000 in
set_option maxRecDepth 100000 in
theorem c_X6_often (l : Launch) (δ : va_G) (cI cJ cZ : ClassId) (aR0 aR1 aR2 aR3 aR4 aR5 aR6 aR7 aR8 aR9 aR10 aR11 aR12 aR13 aR14 aR15 aR16 aR17 aR18 aR19 aR20 aR21 : Nat) (lv : LV) (sg : SG) (pd : PD) (ac : AC) (dd : DD) (hd : HD) (le : LE) (bd : BD) (my : MY) (lf : LF) (pa : PA) (kp : KP) (xa : Int32) (xx : Int32) (xb : Int32) (xy : Int32) (xm : Int32) : mMi l δ (mTy cI cJ cZ) yX6_often wsX6_often rm_X6_often [.ref aR0, .int xa, .int xx, .int xb, .int xy, .int xm] (wR cI cJ cZ aR0 aR1 aR2 aR3 aR4 aR5 aR6 aR7 aR8 aR9 aR10 aR11 aR12 aR13 aR14 aR15 aR16 aR17 aR18 aR19 aR20 aR21 lv sg pd ac dd hd le bd my lf pa kp) (S := Unit) (fun r _ => F_X6_often xa xx xb xy xm = r) (fun _ => (wR cI cJ cZ aR0 aR1 aR2 aR3 aR4 aR5 aR6 aR7 aR8 aR9 aR10 aR11 aR12 aR13 aR14 aR15 aR16 aR17 aR18 aR19 aR20 aR21 lv sg pd ac dd hd le bd my lf pa kp)) := by
  refine mk_i (cc := cX6_often) (maxL := 8) (by decide) rfl (Nat.le_of_ble_eq_true rfl) ?_
  intro p e s m args below meth c A Q ls H locs hx hb hml hts hown hK hNW hA hP hD hS hl hret
  have hown : s.vm.findClass RX6 = some m.cls := hown
  have hl : lv_has ls 8 [(0, .ref aR0), (1, .int xa), (2, .int xx), (3, .int xb), (4, .int xy), (5, .int xm)] := hl
  have hR := F_X6_often.eq_1 xa xx xb xy xm
  refine lv_iload_n hx hb dX6_often_0 rfl (lv_at hl 1 rfl) ?_
  refine lv_iload_n hx hb dX6_often_1 rfl (lv_at hl 2 rfl) ?_
  refine lv_iload_n hx hb dX6_often_2 rfl (lv_at hl 3 rfl) ?_
  refine lv_iload hx hb dX6_often_3 (lv_at hl 4 rfl) ?_
  have hr := mrS (p := p) (e := e) (R := rm_X6_often) (below := below) (meth := meth) (H := H) (locs := locs) (ls := ls) (As := [.int xa, .int xx, .int xb, .int xy]) (rest := []) (c_X6_isStrike l δ cI cJ cZ xa xx xb xy) hx hb hml hts hown hK hNW hP hD [] rfl rfl (va_cwS 4 hts gX6_often_X6_isStrike rfl rfl rfl (by decide +kernel) ⟨(Nat.le_of_ble_eq_true rfl), (Nat.le_of_ble_eq_true rfl)⟩) rfl hl.1 rfl (Nat.le_of_ble_eq_true rfl) dX6_often_5
  refine mc_i (wr := (wR cI cJ cZ aR0 aR1 aR2 aR3 aR4 aR5 aR6 aR7 aR8 aR9 aR10 aR11 aR12 aR13 aR14 aR15 aR16 aR17 aR18 aR19 aR20 aR21 lv sg pd ac dd hd le bd my lf pa kp)) hr hP hD hS hA [] [0, 1, 2, 3, 4, 5, 6, 7, 8, 9, 10, 11, 12, 13, 14, 15, 16, 17, 18, 19, 20, 21] [0, 1, 2, 3, 4, 5, 6, 7, 8, 9, 10, 11, 12, 13, 14, 15, 16, 17, 18, 19, 20, 21] rfl rfl rfl rfl rfl (wn := fun _ => (wR cI cJ cZ aR0 aR1 aR2 aR3 aR4 aR5 aR6 aR7 aR8 aR9 aR10 aR11 aR12 aR13 aR14 aR15 aR16 aR17 aR18 aR19 aR20 aR21 lv sg pd ac dd hd le bd my lf pa kp)) (fun _ => rfl) (fun r_5 _ H locs hw_5 hP hD hS => ?_)
  obtain ⟨hw_5, z_5⟩ := hw_5
  have hP : va_P δ vwCl (wR cI cJ cZ aR0 aR1 aR2 aR3 aR4 aR5 aR6 aR7 aR8 aR9 aR10 aR11 aR12 aR13 aR14 aR15 aR16 aR17 aR18 aR19 aR20 aR21 lv sg pd ac dd hd le bd my lf pa kp) H := hP
  have hD : va_D A (wR cI cJ cZ aR0 aR1 aR2 aR3 aR4 aR5 aR6 aR7 aR8 aR9 aR10 aR11 aR12 aR13 aR14 aR15 aR16 aR17 aR18 aR19 aR20 aR21 lv sg pd ac dd hd le bd my lf pa kp) := hD
  have hR := bnd_eq hR hw_5.symm
  refine lv_if_eq (tgt := 24) hx hb dX6_often_8 (by decide) (fun c_8 => ?_) (fun c_8 => ?_)
  · have c_8 : (r_5 = 0) := c_8
    have hR := hR.trans (if_pos c_8)
    refine lv_bipush (v := (-2 : Int32)) hx hb dX6_often_24 (by decide) ?_
    exact hret _ _ (-2 : Int32) () _ _ hR hP hD hS dX6_often_26
  · have c_8 : ¬ (r_5 = 0) := c_8
    have hR := hR.trans (if_neg c_8)
    refine lv_iload hx hb dX6_often_11 (lv_at hl 5 rfl) ?_
    refine lv_i2l (v := (xm.toInt64)) hx hb dX6_often_13 rfl ?_
    refine lv_lconst (v := (0 : Int64)) hx hb dX6_often_14 (by decide) ?_
    refine lv_ldc2 (v := (999999 : Int64)) hx hb hown (hts (.constantLong RX6 250 (999999)) (List.mem_of_getElem? (i := 1) rfl)) dX6_often_15 ?_
    have hr := mrS (p := p) (e := e) (R := rm_X6_often) (below := below) (meth := meth) (H := H) (locs := locs) (ls := ls) (As := [.long (xm.toInt64), .long (0 : Int64), .long (999999 : Int64)]) (rest := []) (c_X6_in l δ cI cJ cZ (xm.toInt64) (0 : Int64) (999999 : Int64)) hx hb hml hts hown hK hNW hP hD [] rfl rfl (va_cwS 3 hts gX6_often_X6_in rfl rfl rfl (by decide +kernel) ⟨(Nat.le_of_ble_eq_true rfl), (Nat.le_of_ble_eq_true rfl)⟩) rfl hl.1 rfl (Nat.le_of_ble_eq_true rfl) dX6_often_18
    refine mc_i (wr := (wR cI cJ cZ aR0 aR1 aR2 aR3 aR4 aR5 aR6 aR7 aR8 aR9 aR10 aR11 aR12 aR13 aR14 aR15 aR16 aR17 aR18 aR19 aR20 aR21 lv sg pd ac dd hd le bd my lf pa kp)) hr hP hD hS hA [] [0, 1, 2, 3, 4, 5, 6, 7, 8, 9, 10, 11, 12, 13, 14, 15, 16, 17, 18, 19, 20, 21] [0, 1, 2, 3, 4, 5, 6, 7, 8, 9, 10, 11, 12, 13, 14, 15, 16, 17, 18, 19, 20, 21] rfl rfl rfl rfl rfl (wn := fun _ => (wR cI cJ cZ aR0 aR1 aR2 aR3 aR4 aR5 aR6 aR7 aR8 aR9 aR10 aR11 aR12 aR13 aR14 aR15 aR16 aR17 aR18 aR19 aR20 aR21 lv sg pd ac dd hd le bd my lf pa kp)) (fun _ => rfl) (fun r_18 _ H locs hw_18 hP hD hS => ?_)
    obtain ⟨hw_18, z_18⟩ := hw_18
    have hP : va_P δ vwCl (wR cI cJ cZ aR0 aR1 aR2 aR3 aR4 aR5 aR6 aR7 aR8 aR9 aR10 aR11 aR12 aR13 aR14 aR15 aR16 aR17 aR18 aR19 aR20 aR21 lv sg pd ac dd hd le bd my lf pa kp) H := hP
    have hD : va_D A (wR cI cJ cZ aR0 aR1 aR2 aR3 aR4 aR5 aR6 aR7 aR8 aR9 aR10 aR11 aR12 aR13 aR14 aR15 aR16 aR17 aR18 aR19 aR20 aR21 lv sg pd ac dd hd le bd my lf pa kp) := hD
    have hR := bnd_eq hR hw_18.symm
    refine lv_if_ne (tgt := 27) hx hb dX6_often_21 (by decide) (fun c_21 => ?_) (fun c_21 => ?_)
    · have c_21 : ¬ (r_18 = 0) := c_21
      have hR := hR.trans (if_neg c_21)
      refine lv_iconst (v := (0 : Int32)) hx hb dX6_often_27 (by decide) ?_
      refine lv_istore (lv' := [(6, .int (0 : Int32)), (0, .ref aR0), (1, .int xa), (2, .int xx), (3, .int xb), (4, .int xy), (5, .int xm)]) hx hb dX6_often_28 hl (by decide) rfl (fun ls hl => ?_)
      refine lv_iload_n hx hb dX6_often_30 rfl (lv_at hl 3 rfl) ?_
      refine lv_istore (lv' := [(7, .int xx), (6, .int (0 : Int32)), (0, .ref aR0), (1, .int xa), (2, .int xx), (3, .int xb), (4, .int xy), (5, .int xm)]) hx hb dX6_often_31 hl (by decide) rfl (fun ls hl => ?_)
      have hloop_33 : ∀ (n_33 : Nat) (v7_33 : Int32) (v6_33 : Int32) (H : Heap) (locs : List Loc) (ls : Array Slot), (hn_33 : (1001000 - v7_33.toInt).toNat < n_33) → (hv_33 : 0 ≤ v7_33.toInt ∧ v7_33.toInt ≤ 1001000) → (hP : va_P δ vwCl (wR cI cJ cZ aR0 aR1 aR2 aR3 aR4 aR5 aR6 aR7 aR8 aR9 aR10 aR11 aR12 aR13 aR14 aR15 aR16 aR17 aR18 aR19 aR20 aR21 lv sg pd ac dd hd le bd my lf pa kp) H) → (hD : va_D A (wR cI cJ cZ aR0 aR1 aR2 aR3 aR4 aR5 aR6 aR7 aR8 aR9 aR10 aR11 aR12 aR13 aR14 aR15 aR16 aR17 aR18 aR19 aR20 aR21 lv sg pd ac dd hd le bd my lf pa kp)) → (hS : va_S A s.heap H locs) → (hl : lv_has ls 8 [(7, .int v7_33), (6, .int v6_33), (0, .ref aR0), (1, .int xa), (2, .int xx), (3, .int xb), (4, .int xy), (5, .int xm)]) → (kk : ∀ (w_33 : Int32 × Int32) (H : Heap) (locs : List Loc) (ls : Array Slot), L_X6_often_33 xa xb xy xm n_33 v7_33 v6_33 = w_33 → va_P δ vwCl (wR cI cJ cZ aR0 aR1 aR2 aR3 aR4 aR5 aR6 aR7 aR8 aR9 aR10 aR11 aR12 aR13 aR14 aR15 aR16 aR17 aR18 aR19 aR20 aR21 lv sg pd ac dd hd le bd my lf pa kp) H → va_D A (wR cI cJ cZ aR0 aR1 aR2 aR3 aR4 aR5 aR6 aR7 aR8 aR9 aR10 aR11 aR12 aR13 aR14 aR15 aR16 aR17 aR18 aR19 aR20 aR21 lv sg pd ac dd hd le bd my lf pa kp) → va_S A s.heap H locs → lv_has ls 8 [(7, .int w_33.1), (6, .int w_33.2), (0, .ref aR0), (1, .int xa), (2, .int xx), (3, .int xb), (4, .int xy), (5, .int xm)] → W p l e rm_X6_often s m args below meth c H locs 0 0 Q (F0 m 68 ls [])) → W p l e rm_X6_often s m args below meth c H locs 0 0 Q (F0 m 33 ls []) := by
        intro n_33
        induction n_33 with
        | zero => intro v7_33 v6_33 H locs ls hn_33 hv_33 hP hD hS hl kk; exact absurd hn_33 (by omega)
        | succ n_33 ih_33 =>
          intro v7_33 v6_33 H locs ls hn_33 hv_33 hP hD hS hl kk
          have hR := L_X6_often_33_s xa xb xy xm n_33 v7_33 v6_33
          refine lv_iload hx hb dX6_often_33 (lv_at hl 0 rfl) ?_
          refine lv_iload hx hb dX6_often_35 (lv_at hl 7 rfl) ?_
          refine lv_icmp_gt (tgt := 68) hx hb dX6_often_37 (by decide) (fun c_37 => ?_) (fun c_37 => ?_)
          · have c_37 : (xm < v7_33) := c_37
            have hR := hR.trans (if_pos c_37)
            exact kk (v7_33, v6_33) H locs ls hR hP hD hS (lv_sub hl [0, 1, 2, 3, 4, 5, 6, 7] rfl)
          · have c_37 : ¬ (xm < v7_33) := c_37
            have hR := hR.trans (if_neg c_37)
            refine lv_iload hx hb dX6_often_40 (lv_at hl 1 rfl) ?_
            refine lv_iload hx hb dX6_often_42 (lv_at hl 0 rfl) ?_
            refine lv_iload_n hx hb dX6_often_44 rfl (lv_at hl 5 rfl) ?_
            refine lv_irem hx hb dX6_often_45 (strike_b (strike_in hw_5 c_8)) ?_
            refine lv_iload hx hb dX6_often_46 (lv_at hl 6 rfl) ?_
            refine lv_icmp_ne (tgt := 55) hx hb dX6_often_48 (by decide) (fun c_48 => ?_) (fun c_48 => ?_)
            · have c_48 : ¬ ((v7_33 - v7_33 / xb * xb) = xy) := c_48
              have hR := hR.trans (if_neg c_48)
              refine lv_iconst (v := (0 : Int32)) hx hb dX6_often_55 (by decide) ?_
              refine lv_iadd hx hb dX6_often_56 ?_
              refine lv_istore (lv' := [(6, .int (v6_33 + (0 : Int32))), (7, .int v7_33), (0, .ref aR0), (1, .int xa), (2, .int xx), (3, .int xb), (4, .int xy), (5, .int xm)]) hx hb dX6_often_57 hl (by decide) rfl (fun ls hl => ?_)
              refine lv_iload hx hb dX6_often_59 (lv_at hl 1 rfl) ?_
              refine lv_iload_n hx hb dX6_often_61 rfl (lv_at hl 3 rfl) ?_
              refine lv_iadd hx hb dX6_often_62 ?_
              refine lv_istore (lv' := [(7, .int (v7_33 + xa)), (6, .int (v6_33 + (0 : Int32))), (0, .ref aR0), (1, .int xa), (2, .int xx), (3, .int xb), (4, .int xy), (5, .int xm)]) hx hb dX6_often_63 hl (by decide) rfl (fun ls hl => ?_)
              refine lv_goto (tgt := 33) hx hb dX6_often_65 (by decide) ?_
              exact ih_33 (v7_33 + xa) (v6_33 + (0 : Int32)) _ _ _ (often_m (strike_in hw_5 c_8) hv_33 c_37 (minute_in hw_18 c_21) hn_33) (often_v (strike_in hw_5 c_8) hv_33 c_37 (minute_in hw_18 c_21)) hP hD hS (lv_sub hl [0, 1, 2, 3, 4, 5, 6, 7] rfl) (fun w_33 H locs ls he hP hD hS hl => kk w_33 H locs ls (hR.trans he) hP hD hS hl)
            · have c_48 : ((v7_33 - v7_33 / xb * xb) = xy) := c_48
              have hR := hR.trans (if_pos c_48)
              refine lv_iconst (v := (1 : Int32)) hx hb dX6_often_51 (by decide) ?_
              refine lv_goto (tgt := 56) hx hb dX6_often_52 (by decide) ?_
              refine lv_iadd hx hb dX6_often_56 ?_
              refine lv_istore (lv' := [(6, .int (v6_33 + (1 : Int32))), (7, .int v7_33), (0, .ref aR0), (1, .int xa), (2, .int xx), (3, .int xb), (4, .int xy), (5, .int xm)]) hx hb dX6_often_57 hl (by decide) rfl (fun ls hl => ?_)
              refine lv_iload hx hb dX6_often_59 (lv_at hl 1 rfl) ?_
              refine lv_iload_n hx hb dX6_often_61 rfl (lv_at hl 3 rfl) ?_
              refine lv_iadd hx hb dX6_often_62 ?_
              refine lv_istore (lv' := [(7, .int (v7_33 + xa)), (6, .int (v6_33 + (1 : Int32))), (0, .ref aR0), (1, .int xa), (2, .int xx), (3, .int xb), (4, .int xy), (5, .int xm)]) hx hb dX6_often_63 hl (by decide) rfl (fun ls hl => ?_)
              refine lv_goto (tgt := 33) hx hb dX6_often_65 (by decide) ?_
              exact ih_33 (v7_33 + xa) (v6_33 + (1 : Int32)) _ _ _ (often_m (strike_in hw_5 c_8) hv_33 c_37 (minute_in hw_18 c_21) hn_33) (often_v (strike_in hw_5 c_8) hv_33 c_37 (minute_in hw_18 c_21)) hP hD hS (lv_sub hl [0, 1, 2, 3, 4, 5, 6, 7] rfl) (fun w_33 H locs ls he hP hD hS hl => kk w_33 H locs ls (hR.trans he) hP hD hS hl)
      refine hloop_33 ((1001000 - xx.toInt).toNat + 1) xx (0 : Int32) _ _ _ (by omega) (strike_x (strike_in hw_5 c_8)) hP hD hS (lv_sub hl [0, 1, 2, 3, 4, 5, 6, 7] rfl) (fun w_33 H locs ls hw_33 hP hD hS hl => ?_)
      have hP : va_P δ vwCl (wR cI cJ cZ aR0 aR1 aR2 aR3 aR4 aR5 aR6 aR7 aR8 aR9 aR10 aR11 aR12 aR13 aR14 aR15 aR16 aR17 aR18 aR19 aR20 aR21 lv sg pd ac dd hd le bd my lf pa kp) H := hP
      have hD : va_D A (wR cI cJ cZ aR0 aR1 aR2 aR3 aR4 aR5 aR6 aR7 aR8 aR9 aR10 aR11 aR12 aR13 aR14 aR15 aR16 aR17 aR18 aR19 aR20 aR21 lv sg pd ac dd hd le bd my lf pa kp) := hD
      have hR := bnd_eq hR hw_33.symm
      refine lv_iload hx hb dX6_often_68 (lv_at hl 1 rfl) ?_
      exact hret _ _ w_33.2 () _ _ hR hP hD hS dX6_often_70
    · have c_21 : (r_18 = 0) := c_21
      have hR := hR.trans (if_pos c_21)
      refine lv_bipush (v := (-2 : Int32)) hx hb dX6_often_24 (by decide) ?_
      exact hret _ _ (-2 : Int32) () _ _ hR hP hD hS dX6_often_26

abbrev rm_X6_seen : Room := { frames := 2, cells := 0, slots := 0, locals := 45 }
set_option maxHeartbeats 4000000 in
set_option maxRecDepth 100000 in
theorem c_X6_seen (l : Launch) (δ : va_G) (cI cJ cZ : ClassId) (aR0 aR1 aR2 aR3 aR4 aR5 aR6 aR7 aR8 aR9 aR10 aR11 aR12 aR13 aR14 aR15 aR16 aR17 aR18 aR19 aR20 aR21 : Nat) (lv : LV) (sg : SG) (pd : PD) (ac : AC) (dd : DD) (hd : HD) (le : LE) (bd : BD) (my : MY) (lf : LF) (pa : PA) (kp : KP) (xh : Int32) (xo : Int32) (hs : vp_in (sSights sg) 9) : mMi l δ (mTy cI cJ cZ) yX6_seen wsX6_seen rm_X6_seen [.ref aR0, .int xh, .int xo] (wR cI cJ cZ aR0 aR1 aR2 aR3 aR4 aR5 aR6 aR7 aR8 aR9 aR10 aR11 aR12 aR13 aR14 aR15 aR16 aR17 aR18 aR19 aR20 aR21 lv sg pd ac dd hd le bd my lf pa kp) (S := SG) (fun r u => F_X6_seen sg xh xo = (r, u)) (fun u => (wR cI cJ cZ aR0 aR1 aR2 aR3 aR4 aR5 aR6 aR7 aR8 aR9 aR10 aR11 aR12 aR13 aR14 aR15 aR16 aR17 aR18 aR19 aR20 aR21 lv u pd ac dd hd le bd my lf pa kp)) := by
  refine mk_i (cc := cX6_seen) (maxL := 3) (by decide) rfl (Nat.le_of_ble_eq_true rfl) ?_
  intro p e s m args below meth c A Q ls H locs hx hb hml hts hown hK hNW hA hP hD hS hl hret
  have hown : s.vm.findClass RX6 = some m.cls := hown
  have hl : lv_has ls 3 [(0, .ref aR0), (1, .int xh), (2, .int xo)] := hl
  have hinX6 : ∀ w ∈ u_ws RX6 TX6 34, w ∈ wsX6_seen := (fun _ h => List.mem_cons_of_mem _ (List.mem_append_right _ (h)))
  have hR := F_X6_seen.eq_1 sg xh xo
  refine lv_iload_n hx hb dX6_seen_0 rfl (lv_at hl 1 rfl) ?_
  have hr := mrS (p := p) (e := e) (R := rm_X6_seen) (below := below) (meth := meth) (H := H) (locs := locs) (ls := ls) (As := [.int xh]) (rest := []) (c_X6_isHour l δ cI cJ cZ xh) hx hb hml hts hown hK hNW hP hD [] rfl rfl (va_cwS 1 hts gX6_seen_X6_isHour rfl rfl rfl (by decide +kernel) ⟨(Nat.le_of_ble_eq_true rfl), (Nat.le_of_ble_eq_true rfl)⟩) rfl hl.1 rfl (Nat.le_of_ble_eq_true rfl) dX6_seen_1
  refine mc_i (wr := (wR cI cJ cZ aR0 aR1 aR2 aR3 aR4 aR5 aR6 aR7 aR8 aR9 aR10 aR11 aR12 aR13 aR14 aR15 aR16 aR17 aR18 aR19 aR20 aR21 lv sg pd ac dd hd le bd my lf pa kp)) hr hP hD hS hA [] [0, 1, 2, 3, 4, 5, 6, 7, 8, 9, 10, 11, 12, 13, 14, 15, 16, 17, 18, 19, 20, 21] [0, 1, 2, 3, 4, 5, 6, 7, 8, 9, 10, 11, 12, 13, 14, 15, 16, 17, 18, 19, 20, 21] rfl rfl rfl rfl rfl (wn := fun _ => (wR cI cJ cZ aR0 aR1 aR2 aR3 aR4 aR5 aR6 aR7 aR8 aR9 aR10 aR11 aR12 aR13 aR14 aR15 aR16 aR17 aR18 aR19 aR20 aR21 lv sg pd ac dd hd le bd my lf pa kp)) (fun _ => rfl) (fun r_1 _ H locs hw_1 hP hD hS => ?_)
  obtain ⟨hw_1, z_1⟩ := hw_1
  have hP : va_P δ vwCl (wR cI cJ cZ aR0 aR1 aR2 aR3 aR4 aR5 aR6 aR7 aR8 aR9 aR10 aR11 aR12 aR13 aR14 aR15 aR16 aR17 aR18 aR19 aR20 aR21 lv sg pd ac dd hd le bd my lf pa kp) H := hP
  have hD : va_D A (wR cI cJ cZ aR0 aR1 aR2 aR3 aR4 aR5 aR6 aR7 aR8 aR9 aR10 aR11 aR12 aR13 aR14 aR15 aR16 aR17 aR18 aR19 aR20 aR21 lv sg pd ac dd hd le bd my lf pa kp) := hD
  have hR := bnd_eq hR hw_1.symm
  refine lv_if_ne (tgt := 10) hx hb dX6_seen_4 (by decide) (fun c_4 => ?_) (fun c_4 => ?_)
  · have c_4 : ¬ (r_1 = 0) := c_4
    have hR := hR.trans (if_neg c_4)
    refine lv_aload_n hx hb dX6_seen_10 rfl (lv_at hl 0 rfl) ?_
    refine va_get (D := δ) (ci := 6) (v := .int (sSights sg)) (C := RX6) (T := TX6) (N := 34) hx hb hts hinX6 hown hK hP 0 rfl rfl 9 (by decide) (hts (.fieldLink RX6 252 "GloveHoursModel" "sights" "I") (List.mem_of_getElem? (i := 1) rfl)) (fun _ h9 => h9) rfl dX6_seen_11 ?_
    refine lv_bipush (v := (8 : Int32)) hx hb dX6_seen_14 (by decide) ?_
    refine lv_icmp_ne (tgt := 22) hx hb dX6_seen_16 (by decide) (fun c_16 => ?_) (fun c_16 => ?_)
    · have c_16 : ¬ ((sSights sg) = (8 : Int32)) := c_16
      have hR := hR.trans (if_neg c_16)
      refine lv_aload_n hx hb dX6_seen_22 rfl (lv_at hl 0 rfl) ?_
      refine va_get (D := δ) (ci := 6) (v := .ref aR5) (C := RX6) (T := TX6) (N := 34) hx hb hts hinX6 hown hK hP 0 rfl rfl 7 (by decide) (hts (.fieldLink RX6 22 "GloveHoursModel" "sightHour" "[I") (List.mem_of_getElem? (i := 2) rfl)) (fun _ h9 => h9) rfl dX6_seen_23 ?_
      refine lv_aload_n hx hb dX6_seen_26 rfl (lv_at hl 0 rfl) ?_
      refine va_get (D := δ) (ci := 6) (v := .int (sSights sg)) (C := RX6) (T := TX6) (N := 34) hx hb hts hinX6 hown hK hP 0 rfl rfl 9 (by decide) (hts (.fieldLink RX6 252 "GloveHoursModel" "sights" "I") (List.mem_of_getElem? (i := 1) rfl)) (fun _ h9 => h9) rfl dX6_seen_27 ?_
      refine lv_iload_n hx hb dX6_seen_30 rfl (lv_at hl 1 rfl) ?_
      refine va_iast hx hb hK hP hD hS 5 0 rfl rfl (in_less hs c_16 (by decide)) dX6_seen_31 (fun H locs hP hD hS => ?_)
      have hP : va_P δ vwCl (wR cI cJ cZ aR0 aR1 aR2 aR3 aR4 aR5 aR6 aR7 aR8 aR9 aR10 aR11 aR12 aR13 aR14 aR15 aR16 aR17 aR18 aR19 aR20 aR21 lv (sSights sg, (upd (sSightHour sg) (sSights sg).toNatClampNeg xh), sSightOwned sg) pd ac dd hd le bd my lf pa kp) H := hP
      have hD : va_D A (wR cI cJ cZ aR0 aR1 aR2 aR3 aR4 aR5 aR6 aR7 aR8 aR9 aR10 aR11 aR12 aR13 aR14 aR15 aR16 aR17 aR18 aR19 aR20 aR21 lv (sSights sg, (upd (sSightHour sg) (sSights sg).toNatClampNeg xh), sSightOwned sg) pd ac dd hd le bd my lf pa kp) := hD
      refine lv_aload_n hx hb dX6_seen_32 rfl (lv_at hl 0 rfl) ?_
      refine va_get (D := δ) (ci := 6) (v := .ref aR6) (C := RX6) (T := TX6) (N := 34) hx hb hts hinX6 hown hK hP 0 rfl rfl 8 (by decide) (hts (.fieldLink RX6 25 "GloveHoursModel" "sightOwned" "[I") (List.mem_of_getElem? (i := 3) rfl)) (fun _ h9 => h9) rfl dX6_seen_33 ?_
      refine lv_aload_n hx hb dX6_seen_36 rfl (lv_at hl 0 rfl) ?_
      refine va_get (D := δ) (ci := 6) (v := .int (sSights sg)) (C := RX6) (T := TX6) (N := 34) hx hb hts hinX6 hown hK hP 0 rfl rfl 9 (by decide) (hts (.fieldLink RX6 252 "GloveHoursModel" "sights" "I") (List.mem_of_getElem? (i := 1) rfl)) (fun _ h9 => h9) rfl dX6_seen_37 ?_
      refine lv_iload_n hx hb dX6_seen_40 rfl (lv_at hl 2 rfl) ?_
      refine lv_if_eq (tgt := 48) hx hb dX6_seen_41 (by decide) (fun c_41 => ?_) (fun c_41 => ?_)
      · have c_41 : (xo = 0) := c_41
        have hR := hR.trans (if_pos c_41)
        refine lv_iconst (v := (0 : Int32)) hx hb dX6_seen_48 (by decide) ?_
        refine va_iast hx hb hK hP hD hS 6 0 rfl rfl (in_less hs c_16 (by decide)) dX6_seen_49 (fun H locs hP hD hS => ?_)
        have hP : va_P δ vwCl (wR cI cJ cZ aR0 aR1 aR2 aR3 aR4 aR5 aR6 aR7 aR8 aR9 aR10 aR11 aR12 aR13 aR14 aR15 aR16 aR17 aR18 aR19 aR20 aR21 lv (sSights sg, (upd (sSightHour sg) (sSights sg).toNatClampNeg xh), (upd (sSightOwned sg) (sSights sg).toNatClampNeg (0 : Int32))) pd ac dd hd le bd my lf pa kp) H := hP
        have hD : va_D A (wR cI cJ cZ aR0 aR1 aR2 aR3 aR4 aR5 aR6 aR7 aR8 aR9 aR10 aR11 aR12 aR13 aR14 aR15 aR16 aR17 aR18 aR19 aR20 aR21 lv (sSights sg, (upd (sSightHour sg) (sSights sg).toNatClampNeg xh), (upd (sSightOwned sg) (sSights sg).toNatClampNeg (0 : Int32))) pd ac dd hd le bd my lf pa kp) := hD
        refine lv_aload_n hx hb dX6_seen_50 rfl (lv_at hl 0 rfl) ?_
        refine lv_dup hx hb dX6_seen_51 rfl ?_
        refine va_get (D := δ) (ci := 6) (v := .int (sSights sg)) (C := RX6) (T := TX6) (N := 34) hx hb hts hinX6 hown hK hP 0 rfl rfl 9 (by decide) (hts (.fieldLink RX6 252 "GloveHoursModel" "sights" "I") (List.mem_of_getElem? (i := 1) rfl)) (fun _ h9 => h9) rfl dX6_seen_52 ?_
        refine lv_iconst (v := (1 : Int32)) hx hb dX6_seen_55 (by decide) ?_
        refine lv_iadd hx hb dX6_seen_56 ?_
        refine va_put (D := δ) (ci := 6) (v := .int ((sSights sg) + (1 : Int32))) (ty := .int) (C := RX6) (T := TX6) (N := 34) hx hb hts hinX6 tyX6 tyX6_ok nmX6 hown hK hP hD hS 0 rfl rfl 9 (by decide) (hts (.fieldLink RX6 252 "GloveHoursModel" "sights" "I") (List.mem_of_getElem? (i := 1) rfl)) (fun _ h9 => h9) rfl (by decide +kernel) rfl rfl (Nat.le_of_ble_eq_true rfl) dX6_seen_57 (fun H locs hP hD hS => ?_)
        have hP : va_P δ vwCl (wR cI cJ cZ aR0 aR1 aR2 aR3 aR4 aR5 aR6 aR7 aR8 aR9 aR10 aR11 aR12 aR13 aR14 aR15 aR16 aR17 aR18 aR19 aR20 aR21 lv (((sSights sg) + (1 : Int32)), (upd (sSightHour sg) (sSights sg).toNatClampNeg xh), (upd (sSightOwned sg) (sSights sg).toNatClampNeg (0 : Int32))) pd ac dd hd le bd my lf pa kp) H := hP
        have hD : va_D A (wR cI cJ cZ aR0 aR1 aR2 aR3 aR4 aR5 aR6 aR7 aR8 aR9 aR10 aR11 aR12 aR13 aR14 aR15 aR16 aR17 aR18 aR19 aR20 aR21 lv (((sSights sg) + (1 : Int32)), (upd (sSightHour sg) (sSights sg).toNatClampNeg xh), (upd (sSightOwned sg) (sSights sg).toNatClampNeg (0 : Int32))) pd ac dd hd le bd my lf pa kp) := hD
        refine lv_aload_n hx hb dX6_seen_60 rfl (lv_at hl 0 rfl) ?_
        refine va_get (D := δ) (ci := 6) (v := .int ((sSights sg) + (1 : Int32))) (C := RX6) (T := TX6) (N := 34) hx hb hts hinX6 hown hK hP 0 rfl rfl 9 (by decide) (hts (.fieldLink RX6 252 "GloveHoursModel" "sights" "I") (List.mem_of_getElem? (i := 1) rfl)) (fun _ h9 => h9) rfl dX6_seen_61 ?_
        exact hret _ _ ((sSights sg) + (1 : Int32)) (((sSights sg) + (1 : Int32)), (upd (sSightHour sg) (sSights sg).toNatClampNeg xh), (upd (sSightOwned sg) (sSights sg).toNatClampNeg (0 : Int32))) _ _ hR hP hD hS dX6_seen_64
      · have c_41 : ¬ (xo = 0) := c_41
        have hR := hR.trans (if_neg c_41)
        refine lv_iconst (v := (1 : Int32)) hx hb dX6_seen_44 (by decide) ?_
        refine lv_goto (tgt := 49) hx hb dX6_seen_45 (by decide) ?_
        refine va_iast hx hb hK hP hD hS 6 0 rfl rfl (in_less hs c_16 (by decide)) dX6_seen_49 (fun H locs hP hD hS => ?_)
        have hP : va_P δ vwCl (wR cI cJ cZ aR0 aR1 aR2 aR3 aR4 aR5 aR6 aR7 aR8 aR9 aR10 aR11 aR12 aR13 aR14 aR15 aR16 aR17 aR18 aR19 aR20 aR21 lv (sSights sg, (upd (sSightHour sg) (sSights sg).toNatClampNeg xh), (upd (sSightOwned sg) (sSights sg).toNatClampNeg (1 : Int32))) pd ac dd hd le bd my lf pa kp) H := hP
        have hD : va_D A (wR cI cJ cZ aR0 aR1 aR2 aR3 aR4 aR5 aR6 aR7 aR8 aR9 aR10 aR11 aR12 aR13 aR14 aR15 aR16 aR17 aR18 aR19 aR20 aR21 lv (sSights sg, (upd (sSightHour sg) (sSights sg).toNatClampNeg xh), (upd (sSightOwned sg) (sSights sg).toNatClampNeg (1 : Int32))) pd ac dd hd le bd my lf pa kp) := hD
        refine lv_aload_n hx hb dX6_seen_50 rfl (lv_at hl 0 rfl) ?_
        refine lv_dup hx hb dX6_seen_51 rfl ?_
        refine va_get (D := δ) (ci := 6) (v := .int (sSights sg)) (C := RX6) (T := TX6) (N := 34) hx hb hts hinX6 hown hK hP 0 rfl rfl 9 (by decide) (hts (.fieldLink RX6 252 "GloveHoursModel" "sights" "I") (List.mem_of_getElem? (i := 1) rfl)) (fun _ h9 => h9) rfl dX6_seen_52 ?_
        refine lv_iconst (v := (1 : Int32)) hx hb dX6_seen_55 (by decide) ?_
        refine lv_iadd hx hb dX6_seen_56 ?_
        refine va_put (D := δ) (ci := 6) (v := .int ((sSights sg) + (1 : Int32))) (ty := .int) (C := RX6) (T := TX6) (N := 34) hx hb hts hinX6 tyX6 tyX6_ok nmX6 hown hK hP hD hS 0 rfl rfl 9 (by decide) (hts (.fieldLink RX6 252 "GloveHoursModel" "sights" "I") (List.mem_of_getElem? (i := 1) rfl)) (fun _ h9 => h9) rfl (by decide +kernel) rfl rfl (Nat.le_of_ble_eq_true rfl) dX6_seen_57 (fun H locs hP hD hS => ?_)
        have hP : va_P δ vwCl (wR cI cJ cZ aR0 aR1 aR2 aR3 aR4 aR5 aR6 aR7 aR8 aR9 aR10 aR11 aR12 aR13 aR14 aR15 aR16 aR17 aR18 aR19 aR20 aR21 lv (((sSights sg) + (1 : Int32)), (upd (sSightHour sg) (sSights sg).toNatClampNeg xh), (upd (sSightOwned sg) (sSights sg).toNatClampNeg (1 : Int32))) pd ac dd hd le bd my lf pa kp) H := hP
        have hD : va_D A (wR cI cJ cZ aR0 aR1 aR2 aR3 aR4 aR5 aR6 aR7 aR8 aR9 aR10 aR11 aR12 aR13 aR14 aR15 aR16 aR17 aR18 aR19 aR20 aR21 lv (((sSights sg) + (1 : Int32)), (upd (sSightHour sg) (sSights sg).toNatClampNeg xh), (upd (sSightOwned sg) (sSights sg).toNatClampNeg (1 : Int32))) pd ac dd hd le bd my lf pa kp) := hD
        refine lv_aload_n hx hb dX6_seen_60 rfl (lv_at hl 0 rfl) ?_
        refine va_get (D := δ) (ci := 6) (v := .int ((sSights sg) + (1 : Int32))) (C := RX6) (T := TX6) (N := 34) hx hb hts hinX6 hown hK hP 0 rfl rfl 9 (by decide) (hts (.fieldLink RX6 252 "GloveHoursModel" "sights" "I") (List.mem_of_getElem? (i := 1) rfl)) (fun _ h9 => h9) rfl dX6_seen_61 ?_
        exact hret _ _ ((sSights sg) + (1 : Int32)) (((sSights sg) + (1 : Int32)), (upd (sSightHour sg) (sSights sg).toNatClampNeg xh), (upd (sSightOwned sg) (sSights sg).toNatClampNeg (1 : Int32))) _ _ hR hP hD hS dX6_seen_64
    · have c_16 : ((sSights sg) = (8 : Int32)) := c_16
      have hR := hR.trans (if_pos c_16)
      refine lv_bipush (v := (-4 : Int32)) hx hb dX6_seen_19 (by decide) ?_
      exact hret _ _ (-4 : Int32) sg _ _ hR hP hD hS dX6_seen_21
  · have c_4 : (r_1 = 0) := c_4
    have hR := hR.trans (if_pos c_4)
    refine lv_bipush (v := (-2 : Int32)) hx hb dX6_seen_7 (by decide) ?_
    exact hret _ _ (-2 : Int32) sg _ _ hR hP hD hS dX6_seen_9
