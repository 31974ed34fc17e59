abbrev rm_X6_in : Room := { frames := 0, cells := 0, slots := 0, locals := 0 }
set_option maxHeartbeats 4000000 in
set_option maxRecDepth 100000 in
theorem c_X6_in (l : Launch) (δ : va_G) (cI cJ cZ : ClassId) (xv : Int64) (xl : Int64) (xh : Int64) : mMi l δ (mTy cI cJ cZ) yX6_in wsX6_in rm_X6_in [.long xv, .long xl, .long xh] ([] : va_W) (S := Unit) (fun r _ => F_X6_in xv xl xh = r ∧ mZ r) (fun _ => ([] : va_W)) := by
  refine mk_z (post := fun r _ => F_X6_in xv xl xh = r) (cc := cX6_in) (maxL := 6) (by decide) rfl (Nat.le_of_ble_eq_true rfl) ?_
  intro p e s m args below meth c A Q ls H locs hx hb hml hts hown hK hNW hA hP hD hS hl hret
  have hown : s.vm.findClass RX6 = some m.cls := hown
  have hl : lv_has ls 6 [(0, .long xv), (2, .long xl), (4, .long xh)] := hl
  have hR := F_X6_in.eq_1 xv xl xh
  refine lv_lload_n hx hb dX6_in_0 rfl (lv_at hl 0 rfl) ?_
  refine lv_lload_n hx hb dX6_in_1 rfl (lv_at hl 1 rfl) ?_
  refine W.lcmp hx hb dX6_in_2 ?_
  refine lv_if_lt (tgt := 17) hx hb dX6_in_3 (by decide) (fun c_3 => ?_) (fun c_3 => ?_)
  · have c_3 : ((lg_cmp xv xl) < 0) := c_3
    have hR := hR.trans (if_pos c_3)
    refine lv_iconst (v := (0 : Int32)) hx hb dX6_in_17 (by decide) ?_
    exact hret _ _ (0 : Int32) () _ _ hR (Or.inl rfl) hP hD hS dX6_in_18
  · have c_3 : ¬ ((lg_cmp xv xl) < 0) := c_3
    have hR := hR.trans (if_neg c_3)
    refine lv_lload_n hx hb dX6_in_6 rfl (lv_at hl 0 rfl) ?_
    refine lv_lload hx hb dX6_in_7 (lv_at hl 2 rfl) ?_
    refine W.lcmp hx hb dX6_in_9 ?_
    refine lv_if_gt (tgt := 17) hx hb dX6_in_10 (by decide) (fun c_10 => ?_) (fun c_10 => ?_)
    · have c_10 : (0 < (lg_cmp xv xh)) := c_10
      have hR := hR.trans (if_pos c_10)
      refine lv_iconst (v := (0 : Int32)) hx hb dX6_in_17 (by decide) ?_
      exact hret _ _ (0 : Int32) () _ _ hR (Or.inl rfl) hP hD hS dX6_in_18
    · have c_10 : ¬ (0 < (lg_cmp xv xh)) := c_10
      have hR := hR.trans (if_neg c_10)
      refine lv_iconst (v := (1 : Int32)) hx hb dX6_in_13 (by decide) ?_
      refine lv_goto (tgt := 18) hx hb dX6_in_14 (by decide) ?_
      exact hret _ _ (1 : Int32) () _ _ hR (Or.inr rfl) hP hD hS dX6_in_18

abbrev rm_X6_isHour : Room := { frames := 1, cells := 0, slots := 0, locals := 25 }
set_option maxHeartbeats 4000000 in
set_option maxRecDepth 100000 in
theorem c_X6_isHour (l : Launch) (δ : va_G) (cI cJ cZ : ClassId) (xh : Int32) : mMi l δ (mTy cI cJ cZ) yX6_isHour wsX6_isHour rm_X6_isHour [.int xh] ([] : va_W) (S := Unit) (fun r _ => F_X6_isHour xh = r ∧ mZ r) (fun _ => ([] : va_W)) := by
  refine mk_z (post := fun r _ => F_X6_isHour xh = r) (cc := cX6_isHour) (maxL := 1) (by decide) rfl (Nat.le_of_ble_eq_true rfl) ?_
  intro p e s m args below meth c A Q ls H locs hx hb hml hts hown hK hNW hA hP hD hS hl hret
  have hown : s.vm.findClass RX6 = some m.cls := hown
  have hl : lv_has ls 1 [(0, .int xh)] := hl
  have hR := F_X6_isHour.eq_1 xh
  refine lv_iload_n hx hb dX6_isHour_0 rfl (lv_at hl 0 rfl) ?_
  refine lv_i2l (v := (xh.toInt64)) hx hb dX6_isHour_1 rfl ?_
  refine lv_lconst (v := (0 : Int64)) hx hb dX6_isHour_2 (by decide) ?_
  refine lv_ldc2 (v := (23 : Int64)) hx hb hown (hts (.constantLong RX6 79 (23)) (List.mem_of_getElem? (i := 1) rfl)) dX6_isHour_3 ?_
  have hr := mrS (p := p) (e := e) (R := rm_X6_isHour) (below := below) (meth := meth) (H := H) (locs := locs) (ls := ls) (As := [.long (xh.toInt64), .long (0 : Int64), .long (23 : Int64)]) (rest := []) (c_X6_in l δ cI cJ cZ (xh.toInt64) (0 : Int64) (23 : Int64)) hx hb hml hts hown hK hNW hP hD [] rfl rfl (va_cwS 3 hts gX6_isHour_X6_in rfl rfl rfl (by decide +kernel) ⟨(Nat.le_of_ble_eq_true rfl), (Nat.le_of_ble_eq_true rfl)⟩) rfl hl.1 rfl (Nat.le_of_ble_eq_true rfl) dX6_isHour_6
  refine mc_i (wr := ([] : va_W)) hr hP hD hS hA [] [] [] rfl rfl rfl rfl rfl (wn := fun _ => ([] : va_W)) (fun _ => rfl) (fun r_6 _ H locs hw_6 hP hD hS => ?_)
  obtain ⟨hw_6, z_6⟩ := hw_6
  have hP : va_P δ vwCl ([] : va_W) H := hP
  have hD : va_D A ([] : va_W) := hD
  have hR := bnd_eq hR hw_6.symm
  exact hret _ _ r_6 () _ _ hR z_6 hP hD hS dX6_isHour_9

abbrev rm_X6_ones : Room := { frames := 0, cells := 0, slots := 0, locals := 0 }
set_option maxHeartbeats 4000000 in
set_option maxRecDepth 100000 in
theorem c_X6_ones (l : Launch) (δ : va_G) (cI cJ cZ : ClassId) (xb : Int32) : mMi l δ (mTy cI cJ cZ) yX6_ones wsX6_ones rm_X6_ones [.int xb] ([] : va_W) (S := Unit) (fun r _ => F_X6_ones xb = r) (fun _ => ([] : va_W)) := by
  refine mk_i (cc := cX6_ones) (maxL := 3) (by decide) rfl (Nat.le_of_ble_eq_true rfl) ?_
  intro p e s m args below meth c A Q ls H locs hx hb hml hts hown hK hNW hA hP hD hS hl hret
  have hown : s.vm.findClass RX6 = some m.cls := hown
  have hl : lv_has ls 3 [(0, .int xb)] := hl
  have hR := F_X6_ones.eq_1 xb
  refine lv_iconst (v := (0 : Int32)) hx hb dX6_ones_0 (by decide) ?_
  refine lv_istore_n (lv' := [(1, .int (0 : Int32)), (0, .int xb)]) hx hb dX6_ones_1 rfl hl (by decide) rfl (fun ls hl => ?_)
  refine lv_iload_n hx hb dX6_ones_2 rfl (lv_at hl 1 rfl) ?_
  refine lv_istore_n (lv' := [(2, .int xb), (1, .int (0 : Int32)), (0, .int xb)]) hx hb dX6_ones_3 rfl hl (by decide) rfl (fun ls hl => ?_)
  have hloop_4 : ∀ (n_4 : Nat) (v2_4 : Int32) (v1_4 : Int32) (H : Heap) (locs : List Loc) (ls : Array Slot), (hn_4 : v2_4.toBitVec.toNat < n_4) → (hP : va_P δ vwCl ([] : va_W) H) → (hD : va_D A ([] : va_W)) → (hS : va_S A s.heap H locs) → (hl : lv_has ls 3 [(2, .int v2_4), (1, .int v1_4), (0, .int xb)]) → (kk : ∀ (w_4 : Int32 × Int32) (H : Heap) (locs : List Loc) (ls : Array Slot), L_X6_ones_4  n_4 v2_4 v1_4 = w_4 → va_P δ vwCl ([] : va_W) H → va_D A ([] : va_W) → va_S A s.heap H locs → lv_has ls 3 [(2, .int w_4.1), (1, .int w_4.2), (0, .int xb)] → W p l e rm_X6_ones s m args below meth c H locs 0 0 Q (F0 m 20 ls [])) → W p l e rm_X6_ones s m args below meth c H locs 0 0 Q (F0 m 4 ls []) := by
    intro n_4
    induction n_4 with
    | zero => intro v2_4 v1_4 H locs ls hn_4 hP hD hS hl kk; exact absurd hn_4 (by omega)
    | succ n_4 ih_4 =>
      intro v2_4 v1_4 H locs ls hn_4 hP hD hS hl kk
      have hR := L_X6_ones_4_s  n_4 v2_4 v1_4
      refine lv_iload_n hx hb dX6_ones_4 rfl (lv_at hl 0 rfl) ?_
      refine lv_if_eq (tgt := 20) hx hb dX6_ones_5 (by decide) (fun c_5 => ?_) (fun c_5 => ?_)
      · have c_5 : (v2_4 = 0) := c_5
        have hR := hR.trans (if_pos c_5)
        exact kk (v2_4, v1_4) H locs ls hR hP hD hS (lv_sub hl [0, 1, 2] rfl)
      · have c_5 : ¬ (v2_4 = 0) := c_5
        have hR := hR.trans (if_neg c_5)
        refine lv_iinc (v := (v1_4 + (1 : Int32))) (lv' := [(1, .int (v1_4 + (1 : Int32))), (2, .int v2_4), (0, .int xb)]) hx hb dX6_ones_8 hl (k := 1) rfl rfl (by decide) rfl (fun ls hl => ?_)
        refine lv_iload_n hx hb dX6_ones_11 rfl (lv_at hl 1 rfl) ?_
        refine lv_iload_n hx hb dX6_ones_12 rfl (lv_at hl 1 rfl) ?_
        refine lv_iconst (v := (1 : Int32)) hx hb dX6_ones_13 (by decide) ?_
        refine lv_isub hx hb dX6_ones_14 ?_
        refine lv_iand hx hb dX6_ones_15 ?_
        refine lv_istore_n (lv' := [(2, .int (v2_4 &&& (v2_4 - (1 : Int32)))), (1, .int (v1_4 + (1 : Int32))), (0, .int xb)]) hx hb dX6_ones_16 rfl hl (by decide) rfl (fun ls hl => ?_)
        refine lv_goto (tgt := 4) hx hb dX6_ones_17 (by decide) ?_
        exact ih_4 (v2_4 &&& (v2_4 - (1 : Int32))) (v1_4 + (1 : Int32)) _ _ _ (Nat.lt_of_lt_of_le (and_dec c_5) (by omega)) hP hD hS (lv_sub hl [0, 1, 2] rfl) (fun w_4 H locs ls he hP hD hS hl => kk w_4 H locs ls (hR.trans he) hP hD hS hl)
  refine hloop_4 (xb.toBitVec.toNat + 1) xb (0 : Int32) _ _ _ (by omega) hP hD hS (lv_sub hl [0, 1, 2] rfl) (fun w_4 H locs ls hw_4 hP hD hS hl => ?_)
  have hP : va_P δ vwCl ([] : va_W) H := hP
  have hD : va_D A ([] : va_W) := hD
  have hR := bnd_eq hR hw_4.symm
  refine lv_iload_n hx hb dX6_ones_20 rfl (lv_at hl 1 rfl) ?_
  exact hret _ _ w_4.2 () _ _ hR hP hD hS dX6_ones_21

abbrev rm_X6_isCourtier : Room := { frames := 1, cells := 0, slots := 0, locals := 25 }
set_option maxHeartbeats 4000000 in
set_option maxRecDepth 100000 in
theorem c_X6_isCourtier (l : Launch) (δ : va_G) (cI cJ cZ : ClassId) (aR0 aR1 aR2 aR3 aR4 aR5 aR6 aR7 aR8 aR9 aR10 aR11 aR12 aR13 aR14 aR15 aR16 aR17 aR18 aR19 aR20 aR21 : Nat) (lv : LV) (sg : SG) (pd : PD) (ac : AC) (dd : DD) (hd : HD) (le : LE) (bd : BD) (my : MY) (lf : LF) (pa : PA) (kp : KP) (xc : Int32) : mMi l δ (mTy cI cJ cZ) yX6_isCourtier wsX6_isCourtier rm_X6_isCourtier [.ref aR0, .int xc] (wR cI cJ cZ aR0 aR1 aR2 aR3 aR4 aR5 aR6 aR7 aR8 aR9 aR10 aR11 aR12 aR13 aR14 aR15 aR16 aR17 aR18 aR19 aR20 aR21 lv sg pd ac dd hd le bd my lf pa kp) (S := Unit) (fun r _ => F_X6_isCourtier lv xc = r ∧ mZ r) (fun _ => (wR cI cJ cZ aR0 aR1 aR2 aR3 aR4 aR5 aR6 aR7 aR8 aR9 aR10 aR11 aR12 aR13 aR14 aR15 aR16 aR17 aR18 aR19 aR20 aR21 lv sg pd ac dd hd le bd my lf pa kp)) := by
  refine mk_z (post := fun r _ => F_X6_isCourtier lv xc = r) (cc := cX6_isCourtier) (maxL := 2) (by decide) rfl (Nat.le_of_ble_eq_true rfl) ?_
  intro p e s m args below meth c A Q ls H locs hx hb hml hts hown hK hNW hA hP hD hS hl hret
  have hown : s.vm.findClass RX6 = some m.cls := hown
  have hl : lv_has ls 2 [(0, .ref aR0), (1, .int xc)] := hl
  have hinX6 : ∀ w ∈ u_ws RX6 TX6 34, w ∈ wsX6_isCourtier := (fun _ h => List.mem_cons_of_mem _ (List.mem_append_right _ (h)))
  have hR := F_X6_isCourtier.eq_1 lv xc
  refine lv_iload_n hx hb dX6_isCourtier_0 rfl (lv_at hl 1 rfl) ?_
  refine lv_i2l (v := (xc.toInt64)) hx hb dX6_isCourtier_1 rfl ?_
  refine lv_lconst (v := (0 : Int64)) hx hb dX6_isCourtier_2 (by decide) ?_
  refine lv_ldc2 (v := (5 : Int64)) hx hb hown (hts (.constantLong RX6 85 (5)) (List.mem_of_getElem? (i := 1) rfl)) dX6_isCourtier_3 ?_
  have hr := mrS (p := p) (e := e) (R := rm_X6_isCourtier) (below := below) (meth := meth) (H := H) (locs := locs) (ls := ls) (As := [.long (xc.toInt64), .long (0 : Int64), .long (5 : Int64)]) (rest := []) (c_X6_in l δ cI cJ cZ (xc.toInt64) (0 : Int64) (5 : Int64)) hx hb hml hts hown hK hNW hP hD [] rfl rfl (va_cwS 3 hts gX6_isCourtier_X6_in rfl rfl rfl (by decide +kernel) ⟨(Nat.le_of_ble_eq_true rfl), (Nat.le_of_ble_eq_true rfl)⟩) rfl hl.1 rfl (Nat.le_of_ble_eq_true rfl) dX6_isCourtier_6
  refine mc_i (wr := (wR cI cJ cZ aR0 aR1 aR2 aR3 aR4 aR5 aR6 aR7 aR8 aR9 aR10 aR11 aR12 aR13 aR14 aR15 aR16 aR17 aR18 aR19 aR20 aR21 lv sg pd ac dd hd le bd my lf pa kp)) hr hP hD hS hA [] [0, 1, 2, 3, 4, 5, 6, 7, 8, 9, 10, 11, 12, 13, 14, 15, 16, 17, 18, 19, 20, 21] [0, 1, 2, 3, 4, 5, 6, 7, 8, 9, 10, 11, 12, 13, 14, 15, 16, 17, 18, 19, 20, 21] rfl rfl rfl rfl rfl (wn := fun _ => (wR cI cJ cZ aR0 aR1 aR2 aR3 aR4 aR5 aR6 aR7 aR8 aR9 aR10 aR11 aR12 aR13 aR14 aR15 aR16 aR17 aR18 aR19 aR20 aR21 lv sg pd ac dd hd le bd my lf pa kp)) (fun _ => rfl) (fun r_6 _ H locs hw_6 hP hD hS => ?_)
  obtain ⟨hw_6, z_6⟩ := hw_6
  have hP : va_P δ vwCl (wR cI cJ cZ aR0 aR1 aR2 aR3 aR4 aR5 aR6 aR7 aR8 aR9 aR10 aR11 aR12 aR13 aR14 aR15 aR16 aR17 aR18 aR19 aR20 aR21 lv sg pd ac dd hd le bd my lf pa kp) H := hP
  have hD : va_D A (wR cI cJ cZ aR0 aR1 aR2 aR3 aR4 aR5 aR6 aR7 aR8 aR9 aR10 aR11 aR12 aR13 aR14 aR15 aR16 aR17 aR18 aR19 aR20 aR21 lv sg pd ac dd hd le bd my lf pa kp) := hD
  have hR := bnd_eq hR hw_6.symm
  refine lv_if_eq (tgt := 28) hx hb dX6_isCourtier_9 (by decide) (fun c_9 => ?_) (fun c_9 => ?_)
  · have c_9 : (r_6 = 0) := c_9
    have hR := hR.trans (if_pos c_9)
    refine lv_iconst (v := (0 : Int32)) hx hb dX6_isCourtier_28 (by decide) ?_
    exact hret _ _ (0 : Int32) () _ _ hR (Or.inl rfl) hP hD hS dX6_isCourtier_29
  · have c_9 : ¬ (r_6 = 0) := c_9
    have hR := hR.trans (if_neg c_9)
    refine lv_aload_n hx hb dX6_isCourtier_12 rfl (lv_at hl 0 rfl) ?_
    refine va_get (D := δ) (ci := 6) (v := .int (vCourtiers lv)) (C := RX6) (T := TX6) (N := 34) hx hb hts hinX6 hown hK hP 0 rfl rfl 0 (by decide) (hts (.fieldLink RX6 87 "GloveHoursModel" "courtiers" "I") (List.mem_of_getElem? (i := 2) rfl)) (fun _ h9 => h9) rfl dX6_isCourtier_13 ?_
    refine lv_iload_n hx hb dX6_isCourtier_16 rfl (lv_at hl 1 rfl) ?_
    refine lv_ishr hx hb dX6_isCourtier_17 ?_
    refine lv_iconst (v := (1 : Int32)) hx hb dX6_isCourtier_18 (by decide) ?_
    refine lv_iand hx hb dX6_isCourtier_19 ?_
    refine lv_iconst (v := (1 : Int32)) hx hb dX6_isCourtier_20 (by decide) ?_
    refine lv_icmp_ne (tgt := 28) hx hb dX6_isCourtier_21 (by decide) (fun c_21 => ?_) (fun c_21 => ?_)
    · have c_21 : ¬ ((((vCourtiers lv) >>> (xc &&& 31)) &&& (1 : Int32)) = (1 : Int32)) := c_21
      have hR := hR.trans (if_neg c_21)
      refine lv_iconst (v := (0 : Int32)) hx hb dX6_isCourtier_28 (by decide) ?_
      exact hret _ _ (0 : Int32) () _ _ hR (Or.inl rfl) hP hD hS dX6_isCourtier_29
    · have c_21 : ((((vCourtiers lv) >>> (xc &&& 31)) &&& (1 : Int32)) = (1 : Int32)) := c_21
      have hR := hR.trans (if_pos c_21)
      refine lv_iconst (v := (1 : Int32)) hx hb dX6_isCourtier_24 (by decide) ?_
      refine lv_goto (tgt := 29) hx hb dX6_isCourtier_25 (by decide) ?_
      exact hret _ _ (1 : Int32) () _ _ hR (Or.inr rfl) hP hD hS dX6_isCourtier_29

abbrev rm_X6_at : Room := { frames := 0, cells := 0, slots := 0, locals := 0 }
set_option maxHeartbeats 4000000 in
set_option maxRecDepth 100000 in
theorem c_X6_at (l : Launch) (δ : va_G) (cI cJ cZ : ClassId) (xc : Int32) (xh : Int32) : mMi l δ (mTy cI cJ cZ) yX6_at wsX6_at rm_X6_at [.int xc, .int xh] ([] : va_W) (S := Unit) (fun r _ => F_X6_at xc xh = r) (fun _ => ([] : va_W)) := by
  refine mk_i (cc := cX6_at) (maxL := 2) (by decide) rfl (Nat.le_of_ble_eq_true rfl) ?_
  intro p e s m args below meth c A Q ls H locs hx hb hml hts hown hK hNW hA hP hD hS hl hret
  have hown : s.vm.findClass RX6 = some m.cls := hown
  have hl : lv_has ls 2 [(0, .int xc), (1, .int xh)] := hl
  have hR := F_X6_at.eq_1 xc xh
  refine lv_bipush (v := (24 : Int32)) hx hb dX6_at_0 (by decide) ?_
  refine lv_iload_n hx hb dX6_at_2 rfl (lv_at hl 0 rfl) ?_
  refine lv_imul hx hb dX6_at_3 ?_
  refine lv_iload_n hx hb dX6_at_4 rfl (lv_at hl 1 rfl) ?_
  refine lv_iadd hx hb dX6_at_5 ?_
  exact hret _ _ (((24 : Int32) * xc) + xh) () _ _ hR hP hD hS dX6_at_6

abbrev rm_X6_owns : Room := { frames := 2, cells := 0, slots := 0, locals := 46 }
set_option maxHeartbeats 4000000 in
set_option maxRecDepth 100000 in
theorem c_X6_owns (l : Launch) (δ : va_G) (cI cJ cZ : ClassId) (aR0 aR1 aR2 aR3 aR4 aR5 aR6 aR7 aR8 aR9 aR10 aR11 aR12 aR13 aR14 aR15 aR16 aR17 aR18 aR19 aR20 aR21 : Nat) (lv : LV) (sg : SG) (pd : PD) (ac : AC) (dd : DD) (hd : HD) (le : LE) (bd : BD) (my : MY) (lf : LF) (pa : PA) (kp : KP) (xc : Int32) (xh : Int32) (hh : vp_in xh 24) : mMi l δ (mTy cI cJ cZ) yX6_owns wsX6_owns rm_X6_owns [.ref aR0, .int xc, .int xh] (wR cI cJ cZ aR0 aR1 aR2 aR3 aR4 aR5 aR6 aR7 aR8 aR9 aR10 aR11 aR12 aR13 aR14 aR15 aR16 aR17 aR18 aR19 aR20 aR21 lv sg pd ac dd hd le bd my lf pa kp) (S := Unit) (fun r _ => F_X6_owns lv xc xh = r ∧ mZ r) (fun _ => (wR cI cJ cZ aR0 aR1 aR2 aR3 aR4 aR5 aR6 aR7 aR8 aR9 aR10 aR11 aR12 aR13 aR14 aR15 aR16 aR17 aR18 aR19 aR20 aR21 lv sg pd ac dd hd le bd my lf pa kp)) := by
  refine mk_z (post := fun r _ => F_X6_owns lv xc xh = r) (cc := cX6_owns) (maxL := 3) (by decide) rfl (Nat.le_of_ble_eq_true rfl) ?_
  intro p e s m args below meth c A Q ls H locs hx hb hml hts hown hK hNW hA hP hD hS hl hret
  have hown : s.vm.findClass RX6 = some m.cls := hown
  have hl : lv_has ls 3 [(0, .ref aR0), (1, .int xc), (2, .int xh)] := hl
  have hinX6 : ∀ w ∈ u_ws RX6 TX6 34, w ∈ wsX6_owns := (fun _ h => List.mem_cons_of_mem _ (List.mem_append_right _ (h)))
  have hR := F_X6_owns.eq_1 lv xc xh
  refine lv_aload_n hx hb dX6_owns_0 rfl (lv_at hl 0 rfl) ?_
  refine lv_iload_n hx hb dX6_owns_1 rfl (lv_at hl 1 rfl) ?_
  have hr := mrV (p := p) (e := e) (R := rm_X6_owns) (below := below) (meth := meth) (H := H) (locs := locs) (ls := ls) (As := [.int xc]) (rest := []) (c_X6_isCourtier l δ cI cJ cZ aR0 aR1 aR2 aR3 aR4 aR5 aR6 aR7 aR8 aR9 aR10 aR11 aR12 aR13 aR14 aR15 aR16 aR17 aR18 aR19 aR20 aR21 lv sg pd ac dd hd le bd my lf pa kp xc) hx hb hml hts hown hK hNW hP hD [0, 1, 2, 3, 4, 5, 6, 7, 8, 9, 10, 11, 12, 13, 14, 15, 16, 17, 18, 19, 20, 21] rfl rfl 6 0 rfl rfl (cwV 1 hts gX6_owns_X6_isCourtier rfl rfl rfl (by decide +kernel) ⟨(Nat.le_of_ble_eq_true rfl), (Nat.le_of_ble_eq_true rfl)⟩) rfl hl.1 rfl (Nat.le_of_ble_eq_true rfl) dX6_owns_2
  refine mc_i (wr := ([] : va_W)) hr hP hD hS hA [0, 1, 2, 3, 4, 5, 6, 7, 8, 9, 10, 11, 12, 13, 14, 15, 16, 17, 18, 19, 20, 21] [] [0, 1, 2, 3, 4, 5, 6, 7, 8, 9, 10, 11, 12, 13, 14, 15, 16, 17, 18, 19, 20, 21] rfl rfl rfl rfl rfl (wn := fun _ => (wR cI cJ cZ aR0 aR1 aR2 aR3 aR4 aR5 aR6 aR7 aR8 aR9 aR10 aR11 aR12 aR13 aR14 aR15 aR16 aR17 aR18 aR19 aR20 aR21 lv sg pd ac dd hd le bd my lf pa kp)) (fun _ => rfl) (fun r_2 _ H locs hw_2 hP hD hS => ?_)
  obtain ⟨hw_2, z_2⟩ := hw_2
  have hP : va_P δ vwCl (wR cI cJ cZ aR0 aR1 aR2 aR3 aR4 aR5 aR6 aR7 aR8 aR9 aR10 aR11 aR12 aR13 aR14 aR15 aR16 aR17 aR18 aR19 aR20 aR21 lv sg pd ac dd hd le bd my lf pa kp) H := hP
  have hD : va_D A (wR cI cJ cZ aR0 aR1 aR2 aR3 aR4 aR5 aR6 aR7 aR8 aR9 aR10 aR11 aR12 aR13 aR14 aR15 aR16 aR17 aR18 aR19 aR20 aR21 lv sg pd ac dd hd le bd my lf pa kp) := hD
  have hR := bnd_eq hR hw_2.symm
  refine lv_if_eq (tgt := 25) hx hb dX6_owns_5 (by decide) (fun c_5 => ?_) (fun c_5 => ?_)
  · have c_5 : (r_2 = 0) := c_5
    have hR := hR.trans (if_pos c_5)
    refine lv_iconst (v := (0 : Int32)) hx hb dX6_owns_25 (by decide) ?_
    exact hret _ _ (0 : Int32) () _ _ hR (Or.inl rfl) hP hD hS dX6_owns_26
  · have c_5 : ¬ (r_2 = 0) := c_5
    have hR := hR.trans (if_neg c_5)
    refine lv_aload_n hx hb dX6_owns_8 rfl (lv_at hl 0 rfl) ?_
    refine va_get (D := δ) (ci := 6) (v := .ref aR4) (C := RX6) (T := TX6) (N := 34) hx hb hts hinX6 hown hK hP 0 rfl rfl 6 (by decide) (hts (.fieldLink RX6 19 "GloveHoursModel" "wearOf" "[I") (List.mem_of_getElem? (i := 1) rfl)) (fun _ h9 => h9) rfl dX6_owns_9 ?_
    refine lv_iload_n hx hb dX6_owns_12 rfl (lv_at hl 1 rfl) ?_
    refine lv_iload_n hx hb dX6_owns_13 rfl (lv_at hl 2 rfl) ?_
    have hr := mrS (p := p) (e := e) (R := rm_X6_owns) (below := below) (meth := meth) (H := H) (locs := locs) (ls := ls) (As := [.int xc, .int xh]) (rest := [.ref aR4]) (c_X6_at l δ cI cJ cZ xc xh) hx hb hml hts hown hK hNW hP hD [] rfl rfl (va_cwS 2 hts gX6_owns_X6_at rfl rfl rfl (by decide +kernel) ⟨(Nat.le_of_ble_eq_true rfl), (Nat.le_of_ble_eq_true rfl)⟩) rfl hl.1 rfl (Nat.le_of_ble_eq_true rfl) dX6_owns_14
    refine mc_i (wr := (wR cI cJ cZ aR0 aR1 aR2 aR3 aR4 aR5 aR6 aR7 aR8 aR9 aR10 aR11 aR12 aR13 aR14 aR15 aR16 aR17 aR18 aR19 aR20 aR21 lv sg pd ac dd hd le bd my lf pa kp)) hr hP hD hS hA [] [0, 1, 2, 3, 4, 5, 6, 7, 8, 9, 10, 11, 12, 13, 14, 15, 16, 17, 18, 19, 20, 21] [0, 1, 2, 3, 4, 5, 6, 7, 8, 9, 10, 11, 12, 13, 14, 15, 16, 17, 18, 19, 20, 21] rfl rfl rfl rfl rfl (wn := fun _ => (wR cI cJ cZ aR0 aR1 aR2 aR3 aR4 aR5 aR6 aR7 aR8 aR9 aR10 aR11 aR12 aR13 aR14 aR15 aR16 aR17 aR18 aR19 aR20 aR21 lv sg pd ac dd hd le bd my lf pa kp)) (fun _ => rfl) (fun r_14 _ H locs hw_14 hP hD hS => ?_)
    have hP : va_P δ vwCl (wR cI cJ cZ aR0 aR1 aR2 aR3 aR4 aR5 aR6 aR7 aR8 aR9 aR10 aR11 aR12 aR13 aR14 aR15 aR16 aR17 aR18 aR19 aR20 aR21 lv sg pd ac dd hd le bd my lf pa kp) H := hP
    have hD : va_D A (wR cI cJ cZ aR0 aR1 aR2 aR3 aR4 aR5 aR6 aR7 aR8 aR9 aR10 aR11 aR12 aR13 aR14 aR15 aR16 aR17 aR18 aR19 aR20 aR21 lv sg pd ac dd hd le bd my lf pa kp) := hD
    have hR := bnd_eq hR hw_14.symm
    refine va_iald hx hb hK hP 4 0 rfl rfl (at_in hw_14 (court_in hw_2 c_5) hh) dX6_owns_17 ?_
    refine lv_if_lt (tgt := 25) hx hb dX6_owns_18 (by decide) (fun c_18 => ?_) (fun c_18 => ?_)
    · have c_18 : (((vWearOf lv) r_14.toNatClampNeg) < 0) := c_18
      have hR := hR.trans (if_pos c_18)
      refine lv_iconst (v := (0 : Int32)) hx hb dX6_owns_25 (by decide) ?_
      exact hret _ _ (0 : Int32) () _ _ hR (Or.inl rfl) hP hD hS dX6_owns_26
    · have c_18 : ¬ (((vWearOf lv) r_14.toNatClampNeg) < 0) := c_18
      have hR := hR.trans (if_neg c_18)
      refine lv_iconst (v := (1 : Int32)) hx hb dX6_owns_21 (by decide) ?_
      refine lv_goto (tgt := 26) hx hb dX6_owns_22 (by decide) ?_
      exact hret _ _ (1 : Int32) () _ _ hR (Or.inr rfl) hP hD hS dX6_owns_26

abbrev rm_X6_pairsOf : Room := { frames := 3, cells := 0, slots := 0, locals := 68 }
set_option maxHeartbeats 4000000 in
set_option maxRecDepth 100000 in
theorem c_X6_pairsOf (l : Launch) (δ : va_G) (cI cJ cZ : ClassId) (aR0 aR1 aR2 aR3 aR4 aR5 aR6 aR7 aR8 aR9 aR10 aR11 aR12 aR13 aR14 aR15 aR16 aR17 aR18 aR19 aR20 aR21 : Nat) (lv : LV) (sg : SG) (pd : PD) (ac : AC) (dd : DD) (hd : HD) (le : LE) (bd : BD) (my : MY) (lf : LF) (pa : PA) (kp : KP) (xc : Int32) : mMi l δ (mTy cI cJ cZ) yX6_pairsOf wsX6_pairsOf rm_X6_pairsOf [.ref aR0, .int xc] (wR cI cJ cZ aR0 aR1 aR2 aR3 aR4 aR5 aR6 aR7 aR8 aR9 aR10 aR11 aR12 aR13 aR14 aR15 aR16 aR17 aR18 aR19 aR20 aR21 lv sg pd ac dd hd le bd my lf pa kp) (S := Unit) (fun r _ => F_X6_pairsOf lv xc = r) (fun _ => (wR cI cJ cZ aR0 aR1 aR2 aR3 aR4 aR5 aR6 aR7 aR8 aR9 aR10 aR11 aR12 aR13 aR14 aR15 aR16 aR17 aR18 aR19 aR20 aR21 lv sg pd ac dd hd le bd my lf pa kp)) := by
  refine mk_i (cc := cX6_pairsOf) (maxL := 4) (by decide) rfl (Nat.le_of_ble_eq_true rfl) ?_
  intro p e s m args below meth c A Q ls H locs hx hb hml hts hown hK hNW hA hP hD hS hl hret
  have hown : s.vm.findClass RX6 = some m.cls := hown
  have hl : lv_has ls 4 [(0, .ref aR0), (1, .int xc)] := hl
  have hR := F_X6_pairsOf.eq_1 lv xc
  refine lv_iconst (v := (0 : Int32)) hx hb dX6_pairsOf_0 (by decide) ?_
  refine lv_istore_n (lv' := [(2, .int (0 : Int32)), (0, .ref aR0), (1, .int xc)]) hx hb dX6_pairsOf_1 rfl hl (by decide) rfl (fun ls hl => ?_)
  refine lv_iconst (v := (0 : Int32)) hx hb dX6_pairsOf_2 (by decide) ?_
  refine lv_istore_n (lv' := [(3, .int (0 : Int32)), (2, .int (0 : Int32)), (0, .ref aR0), (1, .int xc)]) hx hb dX6_pairsOf_3 rfl hl (by decide) rfl (fun ls hl => ?_)
  have hloop_4 : ∀ (n_4 : Nat) (i_4 : Nat) (v2_4 : Int32) (H : Heap) (locs : List Loc) (ls : Array Slot), (hi_4 : i_4 ≤ 24) → (hn_4 : 24 < i_4 + n_4) → (hP : va_P δ vwCl (wR cI cJ cZ aR0 aR1 aR2 aR3 aR4 aR5 aR6 aR7 aR8 aR9 aR10 aR11 aR12 aR13 aR14 aR15 aR16 aR17 aR18 aR19 aR20 aR21 lv sg pd ac dd hd le bd my lf pa kp) H) → (hD : va_D A (wR cI cJ cZ aR0 aR1 aR2 aR3 aR4 aR5 aR6 aR7 aR8 aR9 aR10 aR11 aR12 aR13 aR14 aR15 aR16 aR17 aR18 aR19 aR20 aR21 lv sg pd ac dd hd le bd my lf pa kp)) → (hS : va_S A s.heap H locs) → (hl : lv_has ls 4 [(3, .int (nI i_4)), (2, .int v2_4), (0, .ref aR0), (1, .int xc)]) → (kk : ∀ (w_4 : Int32) (H : Heap) (locs : List Loc) (ls : Array Slot), L_X6_pairsOf_4 lv xc n_4 i_4 v2_4 = w_4 → va_P δ vwCl (wR cI cJ cZ aR0 aR1 aR2 aR3 aR4 aR5 aR6 aR7 aR8 aR9 aR10 aR11 aR12 aR13 aR14 aR15 aR16 aR17 aR18 aR19 aR20 aR21 lv sg pd ac dd hd le bd my lf pa kp) H → va_D A (wR cI cJ cZ aR0 aR1 aR2 aR3 aR4 aR5 aR6 aR7 aR8 aR9 aR10 aR11 aR12 aR13 aR14 aR15 aR16 aR17 aR18 aR19 aR20 aR21 lv sg pd ac dd hd le bd my lf pa kp) → va_S A s.heap H locs → lv_has ls 4 [(2, .int w_4), (0, .ref aR0), (1, .int xc)] → W p l e rm_X6_pairsOf s m args below meth c H locs 0 0 Q (F0 m 35 ls [])) → W p l e rm_X6_pairsOf s m args below meth c H locs 0 0 Q (F0 m 4 ls []) := by
    intro n_4
    induction n_4 with
    | zero => intro i_4 v2_4 H locs ls hi_4 hn_4 hP hD hS hl kk; exact absurd hn_4 (by omega)
    | succ n_4 ih_4 =>
      intro i_4 v2_4 H locs ls hi_4 hn_4 hP hD hS hl kk
      have hR := L_X6_pairsOf_4_s lv xc n_4 i_4 v2_4
      refine lv_iload_n hx hb dX6_pairsOf_4 rfl (lv_at hl 0 rfl) ?_
      refine lv_bipush (v := (24 : Int32)) hx hb dX6_pairsOf_5 (by decide) ?_
      refine lv_icmp_ge (tgt := 35) hx hb dX6_pairsOf_7 (by decide) (fun c_7 => ?_) (fun c_7 => ?_)
      · have c_7 : ((24 : Int32) ≤ (nI i_4)) := c_7
        have hR := hR.trans (if_pos c_7)
        exact kk v2_4 H locs ls hR hP hD hS (lv_sub hl [1, 2, 3] rfl)
      · have c_7 : ¬ ((24 : Int32) ≤ (nI i_4)) := c_7
        have hR := hR.trans (if_neg c_7)
        have hlt_4 : i_4 < 24 := lt_g c_7 hi_4 (by decide)
        refine lv_iload_n hx hb dX6_pairsOf_10 rfl (lv_at hl 1 rfl) ?_
        refine lv_aload_n hx hb dX6_pairsOf_11 rfl (lv_at hl 2 rfl) ?_
        refine lv_iload_n hx hb dX6_pairsOf_12 rfl (lv_at hl 3 rfl) ?_
        refine lv_iload_n hx hb dX6_pairsOf_13 rfl (lv_at hl 0 rfl) ?_
        have hr := mrV (p := p) (e := e) (R := rm_X6_pairsOf) (below := below) (meth := meth) (H := H) (locs := locs) (ls := ls) (As := [.int xc, .int (nI i_4)]) (rest := [.int v2_4]) (c_X6_owns l δ cI cJ cZ aR0 aR1 aR2 aR3 aR4 aR5 aR6 aR7 aR8 aR9 aR10 aR11 aR12 aR13 aR14 aR15 aR16 aR17 aR18 aR19 aR20 aR21 lv sg pd ac dd hd le bd my lf pa kp xc (nI i_4) (vp_in_nI hlt_4 (by decide))) hx hb hml hts hown hK hNW hP hD [0, 1, 2, 3, 4, 5, 6, 7, 8, 9, 10, 11, 12, 13, 14, 15, 16, 17, 18, 19, 20, 21] rfl rfl 6 0 rfl rfl (cwV 2 hts gX6_pairsOf_X6_owns rfl rfl rfl (by decide +kernel) ⟨(Nat.le_of_ble_eq_true rfl), (Nat.le_of_ble_eq_true rfl)⟩) rfl hl.1 rfl (Nat.le_of_ble_eq_true rfl) dX6_pairsOf_14
        refine mc_i (wr := ([] : va_W)) hr hP hD hS hA [0, 1, 2, 3, 4, 5, 6, 7, 8, 9, 10, 11, 12, 13, 14, 15, 16, 17, 18, 19, 20, 21] [] [0, 1, 2, 3, 4, 5, 6, 7, 8, 9, 10, 11, 12, 13, 14, 15, 16, 17, 18, 19, 20, 21] rfl rfl rfl rfl rfl (wn := fun _ => (wR cI cJ cZ aR0 aR1 aR2 aR3 aR4 aR5 aR6 aR7 aR8 aR9 aR10 aR11 aR12 aR13 aR14 aR15 aR16 aR17 aR18 aR19 aR20 aR21 lv sg pd ac dd hd le bd my lf pa kp)) (fun _ => rfl) (fun r_14 _ H locs hw_14 hP hD hS => ?_)
        obtain ⟨hw_14, z_14⟩ := hw_14
        have hP : va_P δ vwCl (wR cI cJ cZ aR0 aR1 aR2 aR3 aR4 aR5 aR6 aR7 aR8 aR9 aR10 aR11 aR12 aR13 aR14 aR15 aR16 aR17 aR18 aR19 aR20 aR21 lv sg pd ac dd hd le bd my lf pa kp) H := hP
        have hD : va_D A (wR cI cJ cZ aR0 aR1 aR2 aR3 aR4 aR5 aR6 aR7 aR8 aR9 aR10 aR11 aR12 aR13 aR14 aR15 aR16 aR17 aR18 aR19 aR20 aR21 lv sg pd ac dd hd le bd my lf pa kp) := hD
        have hR := bnd_eq hR hw_14.symm
        refine lv_if_eq (tgt := 26) hx hb dX6_pairsOf_17 (by decide) (fun c_17 => ?_) (fun c_17 => ?_)
        · have c_17 : (r_14 = 0) := c_17
          have hR := hR.trans (if_pos c_17)
          refine lv_iconst (v := (0 : Int32)) hx hb dX6_pairsOf_26 (by decide) ?_
          refine lv_ior hx hb dX6_pairsOf_27 ?_
          refine lv_istore_n (lv' := [(2, .int (v2_4 ||| (0 : Int32))), (3, .int (nI i_4)), (0, .ref aR0), (1, .int xc)]) hx hb dX6_pairsOf_28 rfl hl (by decide) rfl (fun ls hl => ?_)
          refine lv_iinc (v := (nI (i_4 + 1))) (lv' := [(3, .int (nI (i_4 + 1))), (2, .int (v2_4 ||| (0 : Int32))), (0, .ref aR0), (1, .int xc)]) hx hb dX6_pairsOf_29 hl (k := 1) rfl (nI_1 i_4) (by decide) rfl (fun ls hl => ?_)
          refine lv_goto (tgt := 4) hx hb dX6_pairsOf_32 (by decide) ?_
          exact ih_4 (i_4 + 1) (v2_4 ||| (0 : Int32)) _ _ _ (by omega) (by omega) hP hD hS (lv_sub hl [0, 1, 2, 3] rfl) (fun w_4 H locs ls he hP hD hS hl => kk w_4 H locs ls (hR.trans he) hP hD hS hl)
        · have c_17 : ¬ (r_14 = 0) := c_17
          have hR := hR.trans (if_neg c_17)
          refine lv_iconst (v := (1 : Int32)) hx hb dX6_pairsOf_20 (by decide) ?_
          refine lv_iload_n hx hb dX6_pairsOf_21 rfl (lv_at hl 0 rfl) ?_
          refine lv_ishl hx hb dX6_pairsOf_22 ?_
          refine lv_goto (tgt := 27) hx hb dX6_pairsOf_23 (by decide) ?_
          refine lv_ior hx hb dX6_pairsOf_27 ?_
          refine lv_istore_n (lv' := [(2, .int (v2_4 ||| ((1 : Int32) <<< ((nI i_4) &&& 31)))), (3, .int (nI i_4)), (0, .ref aR0), (1, .int xc)]) hx hb dX6_pairsOf_28 rfl hl (by decide) rfl (fun ls hl => ?_)
          refine lv_iinc (v := (nI (i_4 + 1))) (lv' := [(3, .int (nI (i_4 + 1))), (2, .int (v2_4 ||| ((1 : Int32) <<< ((nI i_4) &&& 31)))), (0, .ref aR0), (1, .int xc)]) hx hb dX6_pairsOf_29 hl (k := 1) rfl (nI_1 i_4) (by decide) rfl (fun ls hl => ?_)
          refine lv_goto (tgt := 4) hx hb dX6_pairsOf_32 (by decide) ?_
          exact ih_4 (i_4 + 1) (v2_4 ||| ((1 : Int32) <<< ((nI i_4) &&& 31))) _ _ _ (by omega) (by omega) hP hD hS (lv_sub hl [0, 1, 2, 3] rfl) (fun w_4 H locs ls he hP hD hS hl => kk w_4 H locs ls (hR.trans he) hP hD hS hl)
  refine hloop_4 (24 + 1) 0 (0 : Int32) _ _ _ (by omega) (by omega) hP hD hS (lv_sub hl [0, 1, 2, 3] rfl) (fun w_4 H locs ls hw_4 hP hD hS hl => ?_)
  have hP : va_P δ vwCl (wR cI cJ cZ aR0 aR1 aR2 aR3 aR4 aR5 aR6 aR7 aR8 aR9 aR10 aR11 aR12 aR13 aR14 aR15 aR16 aR17 aR18 aR19 aR20 aR21 lv sg pd ac dd hd le bd my lf pa kp) H := hP
  have hD : va_D A (wR cI cJ cZ aR0 aR1 aR2 aR3 aR4 aR5 aR6 aR7 aR8 aR9 aR10 aR11 aR12 aR13 aR14 aR15 aR16 aR17 aR18 aR19 aR20 aR21 lv sg pd ac dd hd le bd my lf pa kp) := hD
  have hR := bnd_eq hR hw_4.symm
  refine lv_iload_n hx hb dX6_pairsOf_35 rfl (lv_at hl 0 rfl) ?_
  exact hret _ _ w_4 () _ _ hR hP hD hS dX6_pairsOf_36

abbrev rm_X6_courtier : Room := { frames := 1, cells := 0, slots := 0, locals := 25 }
set_option maxHeartbeats 4000000 in
set_option maxRecDepth 100000 in
theorem c_X6_courtier (l : Launch) (δ : va_G) (cI cJ cZ : ClassId) (aR0 aR1 aR2 aR3 aR4 aR5 aR6 aR7 aR8 aR9 aR10 aR11 aR12 aR13 aR14 aR15 aR16 aR17 aR18 aR19 aR20 aR21 : Nat) (lv : LV) (sg : SG) (pd : PD) (ac : AC) (dd : DD) (hd : HD) (le : LE) (bd : BD) (my : MY) (lf : LF) (pa : PA) (kp : KP) (xc : Int32) (xp : Int32) : mMi l δ (mTy cI cJ cZ) yX6_courtier wsX6_courtier rm_X6_courtier [.ref aR0, .int xc, .int xp] (wR cI cJ cZ aR0 aR1 aR2 aR3 aR4 aR5 aR6 aR7 aR8 aR9 aR10 aR11 aR12 aR13 aR14 aR15 aR16 aR17 aR18 aR19 aR20 aR21 lv sg pd ac dd hd le bd my lf pa kp) (S := LV) (fun r u => F_X6_courtier lv xc xp = (r, u)) (fun u => (wR cI cJ cZ aR0 aR1 aR2 aR3 aR4 aR5 aR6 aR7 aR8 aR9 aR10 aR11 aR12 aR13 aR14 aR15 aR16 aR17 aR18 aR19 aR20 aR21 u sg pd ac dd hd le bd my lf pa kp)) := by
  refine mk_i (cc := cX6_courtier) (maxL := 4) (by decide) rfl (Nat.le_of_ble_eq_true rfl) ?_
  intro p e s m args below meth c A Q ls H locs hx hb hml hts hown hK hNW hA hP hD hS hl hret
  have hown : s.vm.findClass RX6 = some m.cls := hown
  have hl : lv_has ls 4 [(0, .ref aR0), (1, .int xc), (2, .int xp)] := hl
  have hinX6 : ∀ w ∈ u_ws RX6 TX6 34, w ∈ wsX6_courtier := (fun _ h => List.mem_cons_of_mem _ (List.mem_append_right _ (h)))
  have hR := F_X6_courtier.eq_1 lv xc xp
  refine lv_iload_n hx hb dX6_courtier_0 rfl (lv_at hl 1 rfl) ?_
  refine lv_i2l (v := (xc.toInt64)) hx hb dX6_courtier_1 rfl ?_
  refine lv_lconst (v := (0 : Int64)) hx hb dX6_courtier_2 (by decide) ?_
  refine lv_ldc2 (v := (5 : Int64)) hx hb hown (hts (.constantLong RX6 85 (5)) (List.mem_of_getElem? (i := 1) rfl)) dX6_courtier_3 ?_
  have hr := mrS (p := p) (e := e) (R := rm_X6_courtier) (below := below) (meth := meth) (H := H) (locs := locs) (ls := ls) (As := [.long (xc.toInt64), .long (0 : Int64), .long (5 : Int64)]) (rest := []) (c_X6_in l δ cI cJ cZ (xc.toInt64) (0 : Int64) (5 : Int64)) hx hb hml hts hown hK hNW hP hD [] rfl rfl (va_cwS 3 hts gX6_courtier_X6_in rfl rfl rfl (by decide +kernel) ⟨(Nat.le_of_ble_eq_true rfl), (Nat.le_of_ble_eq_true rfl)⟩) rfl hl.1 rfl (Nat.le_of_ble_eq_true rfl) dX6_courtier_6
  refine mc_i (wr := (wR cI cJ cZ aR0 aR1 aR2 aR3 aR4 aR5 aR6 aR7 aR8 aR9 aR10 aR11 aR12 aR13 aR14 aR15 aR16 aR17 aR18 aR19 aR20 aR21 lv sg pd ac dd hd le bd my lf pa kp)) hr hP hD hS hA [] [0, 1, 2, 3, 4, 5, 6, 7, 8, 9, 10, 11, 12, 13, 14, 15, 16, 17, 18, 19, 20, 21] [0, 1, 2, 3, 4, 5, 6, 7, 8, 9, 10, 11, 12, 13, 14, 15, 16, 17, 18, 19, 20, 21] rfl rfl rfl rfl rfl (wn := fun _ => (wR cI cJ cZ aR0 aR1 aR2 aR3 aR4 aR5 aR6 aR7 aR8 aR9 aR10 aR11 aR12 aR13 aR14 aR15 aR16 aR17 aR18 aR19 aR20 aR21 lv sg pd ac dd hd le bd my lf pa kp)) (fun _ => rfl) (fun r_6 _ H locs hw_6 hP hD hS => ?_)
  obtain ⟨hw_6, z_6⟩ := hw_6
  have hP : va_P δ vwCl (wR cI cJ cZ aR0 aR1 aR2 aR3 aR4 aR5 aR6 aR7 aR8 aR9 aR10 aR11 aR12 aR13 aR14 aR15 aR16 aR17 aR18 aR19 aR20 aR21 lv sg pd ac dd hd le bd my lf pa kp) H := hP
  have hD : va_D A (wR cI cJ cZ aR0 aR1 aR2 aR3 aR4 aR5 aR6 aR7 aR8 aR9 aR10 aR11 aR12 aR13 aR14 aR15 aR16 aR17 aR18 aR19 aR20 aR21 lv sg pd ac dd hd le bd my lf pa kp) := hD
  have hR := bnd_eq hR hw_6.symm
  refine lv_if_ne (tgt := 14) hx hb dX6_courtier_9 (by decide) (fun c_9 => ?_) (fun c_9 => ?_)
  · have c_9 : ¬ (r_6 = 0) := c_9
    have hR := hR.trans (if_neg c_9)
    refine lv_iload_n hx hb dX6_courtier_14 rfl (lv_at hl 2 rfl) ?_
    refine lv_i2l (v := (xp.toInt64)) hx hb dX6_courtier_15 rfl ?_
    refine lv_lconst (v := (0 : Int64)) hx hb dX6_courtier_16 (by decide) ?_
    refine lv_ldc2 (v := (16777215 : Int64)) hx hb hown (hts (.constantLong RX6 102 (16777215)) (List.mem_of_getElem? (i := 2) rfl)) dX6_courtier_17 ?_
    have hr := mrS (p := p) (e := e) (R := rm_X6_courtier) (below := below) (meth := meth) (H := H) (locs := locs) (ls := ls) (As := [.long (xp.toInt64), .long (0 : Int64), .long (16777215 : Int64)]) (rest := []) (c_X6_in l δ cI cJ cZ (xp.toInt64) (0 : Int64) (16777215 : Int64)) hx hb hml hts hown hK hNW hP hD [] rfl rfl (va_cwS 3 hts gX6_courtier_X6_in rfl rfl rfl (by decide +kernel) ⟨(Nat.le_of_ble_eq_true rfl), (Nat.le_of_ble_eq_true rfl)⟩) rfl hl.1 rfl (Nat.le_of_ble_eq_true rfl) dX6_courtier_20
    refine mc_i (wr := (wR cI cJ cZ aR0 aR1 aR2 aR3 aR4 aR5 aR6 aR7 aR8 aR9 aR10 aR11 aR12 aR13 aR14 aR15 aR16 aR17 aR18 aR19 aR20 aR21 lv sg pd ac dd hd le bd my lf pa kp)) hr hP hD hS hA [] [0, 1, 2, 3, 4, 5, 6, 7, 8, 9, 10, 11, 12, 13, 14, 15, 16, 17, 18, 19, 20, 21] [0, 1, 2, 3, 4, 5, 6, 7, 8, 9, 10, 11, 12, 13, 14, 15, 16, 17, 18, 19, 20, 21] rfl rfl rfl rfl rfl (wn := fun _ => (wR cI cJ cZ aR0 aR1 aR2 aR3 aR4 aR5 aR6 aR7 aR8 aR9 aR10 aR11 aR12 aR13 aR14 aR15 aR16 aR17 aR18 aR19 aR20 aR21 lv sg pd ac dd hd le bd my lf pa kp)) (fun _ => rfl) (fun r_20 _ H locs hw_20 hP hD hS => ?_)
    obtain ⟨hw_20, z_20⟩ := hw_20
    have hP : va_P δ vwCl (wR cI cJ cZ aR0 aR1 aR2 aR3 aR4 aR5 aR6 aR7 aR8 aR9 aR10 aR11 aR12 aR13 aR14 aR15 aR16 aR17 aR18 aR19 aR20 aR21 lv sg pd ac dd hd le bd my lf pa kp) H := hP
    have hD : va_D A (wR cI cJ cZ aR0 aR1 aR2 aR3 aR4 aR5 aR6 aR7 aR8 aR9 aR10 aR11 aR12 aR13 aR14 aR15 aR16 aR17 aR18 aR19 aR20 aR21 lv sg pd ac dd hd le bd my lf pa kp) := hD
    have hR := bnd_eq hR hw_20.symm
    refine lv_if_ne (tgt := 29) hx hb dX6_courtier_23 (by decide) (fun c_23 => ?_) (fun c_23 => ?_)
    · have c_23 : ¬ (r_20 = 0) := c_23
      have hR := hR.trans (if_neg c_23)
      refine lv_aload_n hx hb dX6_courtier_29 rfl (lv_at hl 0 rfl) ?_
      refine lv_dup hx hb dX6_courtier_30 rfl ?_
      refine va_get (D := δ) (ci := 6) (v := .int (vCourtiers lv)) (C := RX6) (T := TX6) (N := 34) hx hb hts hinX6 hown hK hP 0 rfl rfl 0 (by decide) (hts (.fieldLink RX6 87 "GloveHoursModel" "courtiers" "I") (List.mem_of_getElem? (i := 3) rfl)) (fun _ h9 => h9) rfl dX6_courtier_31 ?_
      refine lv_iconst (v := (1 : Int32)) hx hb dX6_courtier_34 (by decide) ?_
      refine lv_iload_n hx hb dX6_courtier_35 rfl (lv_at hl 1 rfl) ?_
      refine lv_ishl hx hb dX6_courtier_36 ?_
      refine lv_ior hx hb dX6_courtier_37 ?_
      refine va_put (D := δ) (ci := 6) (v := .int ((vCourtiers lv) ||| ((1 : Int32) <<< (xc &&& 31)))) (ty := .int) (C := RX6) (T := TX6) (N := 34) hx hb hts hinX6 tyX6 tyX6_ok nmX6 hown hK hP hD hS 0 rfl rfl 0 (by decide) (hts (.fieldLink RX6 87 "GloveHoursModel" "courtiers" "I") (List.mem_of_getElem? (i := 3) rfl)) (fun _ h9 => h9) rfl (by decide +kernel) rfl rfl (Nat.le_of_ble_eq_true rfl) dX6_courtier_38 (fun H locs hP hD hS => ?_)
      have hP : va_P δ vwCl (wR cI cJ cZ aR0 aR1 aR2 aR3 aR4 aR5 aR6 aR7 aR8 aR9 aR10 aR11 aR12 aR13 aR14 aR15 aR16 aR17 aR18 aR19 aR20 aR21 (((vCourtiers lv) ||| ((1 : Int32) <<< (xc &&& 31))), vClock lv, vTears lv, vLeft lv, vRight lv, vScandals lv, vWearOf lv) sg pd ac dd hd le bd my lf pa kp) H := hP
      have hD : va_D A (wR cI cJ cZ aR0 aR1 aR2 aR3 aR4 aR5 aR6 aR7 aR8 aR9 aR10 aR11 aR12 aR13 aR14 aR15 aR16 aR17 aR18 aR19 aR20 aR21 (((vCourtiers lv) ||| ((1 : Int32) <<< (xc &&& 31))), vClock lv, vTears lv, vLeft lv, vRight lv, vScandals lv, vWearOf lv) sg pd ac dd hd le bd my lf pa kp) := hD
      refine lv_aload_n hx hb dX6_courtier_41 rfl (lv_at hl 0 rfl) ?_
      refine va_get (D := δ) (ci := 6) (v := .ref aR1) (C := RX6) (T := TX6) (N := 34) hx hb hts hinX6 hown hK hP 0 rfl rfl 3 (by decide) (hts (.fieldLink RX6 7 "GloveHoursModel" "left" "[I") (List.mem_of_getElem? (i := 4) rfl)) (fun _ h9 => h9) rfl dX6_courtier_42 ?_
      refine lv_iload_n hx hb dX6_courtier_45 rfl (lv_at hl 1 rfl) ?_
      refine lv_bipush (v := (24 : Int32)) hx hb dX6_courtier_46 (by decide) ?_
      refine va_iast hx hb hK hP hD hS 1 0 rfl rfl (in_in hw_6 c_9 (by decide)) dX6_courtier_48 (fun H locs hP hD hS => ?_)
      have hP : va_P δ vwCl (wR cI cJ cZ aR0 aR1 aR2 aR3 aR4 aR5 aR6 aR7 aR8 aR9 aR10 aR11 aR12 aR13 aR14 aR15 aR16 aR17 aR18 aR19 aR20 aR21 (((vCourtiers lv) ||| ((1 : Int32) <<< (xc &&& 31))), vClock lv, vTears lv, (upd (vLeft lv) xc.toNatClampNeg (24 : Int32)), vRight lv, vScandals lv, vWearOf lv) sg pd ac dd hd le bd my lf pa kp) H := hP
      have hD : va_D A (wR cI cJ cZ aR0 aR1 aR2 aR3 aR4 aR5 aR6 aR7 aR8 aR9 aR10 aR11 aR12 aR13 aR14 aR15 aR16 aR17 aR18 aR19 aR20 aR21 (((vCourtiers lv) ||| ((1 : Int32) <<< (xc &&& 31))), vClock lv, vTears lv, (upd (vLeft lv) xc.toNatClampNeg (24 : Int32)), vRight lv, vScandals lv, vWearOf lv) sg pd ac dd hd le bd my lf pa kp) := hD
      refine lv_aload_n hx hb dX6_courtier_49 rfl (lv_at hl 0 rfl) ?_
      refine va_get (D := δ) (ci := 6) (v := .ref aR2) (C := RX6) (T := TX6) (N := 34) hx hb hts hinX6 hown hK hP 0 rfl rfl 4 (by decide) (hts (.fieldLink RX6 13 "GloveHoursModel" "right" "[I") (List.mem_of_getElem? (i := 5) rfl)) (fun _ h9 => h9) rfl dX6_courtier_50 ?_
      refine lv_iload_n hx hb dX6_courtier_53 rfl (lv_at hl 1 rfl) ?_
      refine lv_bipush (v := (24 : Int32)) hx hb dX6_courtier_54 (by decide) ?_
      refine va_iast hx hb hK hP hD hS 2 0 rfl rfl (in_in hw_6 c_9 (by decide)) dX6_courtier_56 (fun H locs hP hD hS => ?_)
      have hP : va_P δ vwCl (wR cI cJ cZ aR0 aR1 aR2 aR3 aR4 aR5 aR6 aR7 aR8 aR9 aR10 aR11 aR12 aR13 aR14 aR15 aR16 aR17 aR18 aR19 aR20 aR21 (((vCourtiers lv) ||| ((1 : Int32) <<< (xc &&& 31))), vClock lv, vTears lv, (upd (vLeft lv) xc.toNatClampNeg (24 : Int32)), (upd (vRight lv) xc.toNatClampNeg (24 : Int32)), vScandals lv, vWearOf lv) sg pd ac dd hd le bd my lf pa kp) H := hP
      have hD : va_D A (wR cI cJ cZ aR0 aR1 aR2 aR3 aR4 aR5 aR6 aR7 aR8 aR9 aR10 aR11 aR12 aR13 aR14 aR15 aR16 aR17 aR18 aR19 aR20 aR21 (((vCourtiers lv) ||| ((1 : Int32) <<< (xc &&& 31))), vClock lv, vTears lv, (upd (vLeft lv) xc.toNatClampNeg (24 : Int32)), (upd (vRight lv) xc.toNatClampNeg (24 : Int32)), vScandals lv, vWearOf lv) sg pd ac dd hd le bd my lf pa kp) := hD
      refine lv_aload_n hx hb dX6_courtier_57 rfl (lv_at hl 0 rfl) ?_
      refine va_get (D := δ) (ci := 6) (v := .ref aR3) (C := RX6) (T := TX6) (N := 34) hx hb hts hinX6 hown hK hP 0 rfl rfl 5 (by decide) (hts (.fieldLink RX6 16 "GloveHoursModel" "scandals" "[I") (List.mem_of_getElem? (i := 6) rfl)) (fun _ h9 => h9) rfl dX6_courtier_58 ?_
      refine lv_iload_n hx hb dX6_courtier_61 rfl (lv_at hl 1 rfl) ?_
      refine lv_iconst (v := (0 : Int32)) hx hb dX6_courtier_62 (by decide) ?_
      refine va_iast hx hb hK hP hD hS 3 0 rfl rfl (in_in hw_6 c_9 (by decide)) dX6_courtier_63 (fun H locs hP hD hS => ?_)
      have hP : va_P δ vwCl (wR cI cJ cZ aR0 aR1 aR2 aR3 aR4 aR5 aR6 aR7 aR8 aR9 aR10 aR11 aR12 aR13 aR14 aR15 aR16 aR17 aR18 aR19 aR20 aR21 (((vCourtiers lv) ||| ((1 : Int32) <<< (xc &&& 31))), vClock lv, vTears lv, (upd (vLeft lv) xc.toNatClampNeg (24 : Int32)), (upd (vRight lv) xc.toNatClampNeg (24 : Int32)), (upd (vScandals lv) xc.toNatClampNeg (0 : Int32)), vWearOf lv) sg pd ac dd hd le bd my lf pa kp) H := hP
      have hD : va_D A (wR cI cJ cZ aR0 aR1 aR2 aR3 aR4 aR5 aR6 aR7 aR8 aR9 aR10 aR11 aR12 aR13 aR14 aR15 aR16 aR17 aR18 aR19 aR20 aR21 (((vCourtiers lv) ||| ((1 : Int32) <<< (xc &&& 31))), vClock lv, vTears lv, (upd (vLeft lv) xc.toNatClampNeg (24 : Int32)), (upd (vRight lv) xc.toNatClampNeg (24 : Int32)), (upd (vScandals lv) xc.toNatClampNeg (0 : Int32)), vWearOf lv) sg pd ac dd hd le bd my lf pa kp) := hD
      refine lv_iconst (v := (0 : Int32)) hx hb dX6_courtier_64 (by decide) ?_
      refine lv_istore_n (lv' := [(3, .int (0 : Int32)), (0, .ref aR0), (1, .int xc), (2, .int xp)]) hx hb dX6_courtier_65 rfl hl (by decide) rfl (fun ls hl => ?_)
      have hloop_66 : ∀ (n_66 : Nat) (i_66 : Nat) (lv_66 : LV) (H : Heap) (locs : List Loc) (ls : Array Slot), (hi_66 : i_66 ≤ 24) → (hn_66 : 24 < i_66 + n_66) → (hP : va_P δ vwCl (wR cI cJ cZ aR0 aR1 aR2 aR3 aR4 aR5 aR6 aR7 aR8 aR9 aR10 aR11 aR12 aR13 aR14 aR15 aR16 aR17 aR18 aR19 aR20 aR21 lv_66 sg pd ac dd hd le bd my lf pa kp) H) → (hD : va_D A (wR cI cJ cZ aR0 aR1 aR2 aR3 aR4 aR5 aR6 aR7 aR8 aR9 aR10 aR11 aR12 aR13 aR14 aR15 aR16 aR17 aR18 aR19 aR20 aR21 lv_66 sg pd ac dd hd le bd my lf pa kp)) → (hS : va_S A s.heap H locs) → (hl : lv_has ls 4 [(3, .int (nI i_66)), (0, .ref aR0), (1, .int xc), (2, .int xp)]) → (kk : ∀ (w_66 : LV) (H : Heap) (locs : List Loc) (ls : Array Slot), L_X6_courtier_66 xc xp n_66 i_66 lv_66 = w_66 → va_P δ vwCl (wR cI cJ cZ aR0 aR1 aR2 aR3 aR4 aR5 aR6 aR7 aR8 aR9 aR10 aR11 aR12 aR13 aR14 aR15 aR16 aR17 aR18 aR19 aR20 aR21 w_66 sg pd ac dd hd le bd my lf pa kp) H → va_D A (wR cI cJ cZ aR0 aR1 aR2 aR3 aR4 aR5 aR6 aR7 aR8 aR9 aR10 aR11 aR12 aR13 aR14 aR15 aR16 aR17 aR18 aR19 aR20 aR21 w_66 sg pd ac dd hd le bd my lf pa kp) → va_S A s.heap H locs → lv_has ls 4 [(0, .ref aR0), (1, .int xc), (2, .int xp)] → W p l e rm_X6_courtier s m args below meth c H locs 0 0 Q (F0 m 103 ls [])) → W p l e rm_X6_courtier s m args below meth c H locs 0 0 Q (F0 m 66 ls []) := by
        intro n_66
        induction n_66 with
        | zero => intro i_66 lv_66 H locs ls hi_66 hn_66 hP hD hS hl kk; exact absurd hn_66 (by omega)
        | succ n_66 ih_66 =>
          intro i_66 lv_66 H locs ls hi_66 hn_66 hP hD hS hl kk
          have hR := L_X6_courtier_66_s xc xp n_66 i_66 lv_66
          refine lv_iload_n hx hb dX6_courtier_66 rfl (lv_at hl 0 rfl) ?_
          refine lv_bipush (v := (24 : Int32)) hx hb dX6_courtier_67 (by decide) ?_
          refine lv_icmp_ge (tgt := 103) hx hb dX6_courtier_69 (by decide) (fun c_69 => ?_) (fun c_69 => ?_)
          · have c_69 : ((24 : Int32) ≤ (nI i_66)) := c_69
            have hR := hR.trans (if_pos c_69)
            exact kk lv_66 H locs ls hR hP hD hS (lv_sub hl [1, 2, 3] rfl)
          · have c_69 : ¬ ((24 : Int32) ≤ (nI i_66)) := c_69
            have hR := hR.trans (if_neg c_69)
            have hlt_66 : i_66 < 24 := lt_g c_69 hi_66 (by decide)
            refine lv_aload_n hx hb dX6_courtier_72 rfl (lv_at hl 1 rfl) ?_
            refine va_get (D := δ) (ci := 6) (v := .ref aR4) (C := RX6) (T := TX6) (N := 34) hx hb hts hinX6 hown hK hP 0 rfl rfl 6 (by decide) (hts (.fieldLink RX6 19 "GloveHoursModel" "wearOf" "[I") (List.mem_of_getElem? (i := 7) rfl)) (fun _ h9 => h9) rfl dX6_courtier_73 ?_
            refine lv_iload_n hx hb dX6_courtier_76 rfl (lv_at hl 2 rfl) ?_
            refine lv_iload_n hx hb dX6_courtier_77 rfl (lv_at hl 0 rfl) ?_
            have hr := mrS (p := p) (e := e) (R := rm_X6_courtier) (below := below) (meth := meth) (H := H) (locs := locs) (ls := ls) (As := [.int xc, .int (nI i_66)]) (rest := [.ref aR4]) (c_X6_at l δ cI cJ cZ xc (nI i_66)) hx hb hml hts hown hK hNW hP hD [] rfl rfl (va_cwS 2 hts gX6_courtier_X6_at rfl rfl rfl (by decide +kernel) ⟨(Nat.le_of_ble_eq_true rfl), (Nat.le_of_ble_eq_true rfl)⟩) rfl hl.1 rfl (Nat.le_of_ble_eq_true rfl) dX6_courtier_78
            refine mc_i (wr := (wR cI cJ cZ aR0 aR1 aR2 aR3 aR4 aR5 aR6 aR7 aR8 aR9 aR10 aR11 aR12 aR13 aR14 aR15 aR16 aR17 aR18 aR19 aR20 aR21 lv_66 sg pd ac dd hd le bd my lf pa kp)) hr hP hD hS hA [] [0, 1, 2, 3, 4, 5, 6, 7, 8, 9, 10, 11, 12, 13, 14, 15, 16, 17, 18, 19, 20, 21] [0, 1, 2, 3, 4, 5, 6, 7, 8, 9, 10, 11, 12, 13, 14, 15, 16, 17, 18, 19, 20, 21] rfl rfl rfl rfl rfl (wn := fun _ => (wR cI cJ cZ aR0 aR1 aR2 aR3 aR4 aR5 aR6 aR7 aR8 aR9 aR10 aR11 aR12 aR13 aR14 aR15 aR16 aR17 aR18 aR19 aR20 aR21 lv_66 sg pd ac dd hd le bd my lf pa kp)) (fun _ => rfl) (fun r_78 _ H locs hw_78 hP hD hS => ?_)
            have hP : va_P δ vwCl (wR cI cJ cZ aR0 aR1 aR2 aR3 aR4 aR5 aR6 aR7 aR8 aR9 aR10 aR11 aR12 aR13 aR14 aR15 aR16 aR17 aR18 aR19 aR20 aR21 lv_66 sg pd ac dd hd le bd my lf pa kp) H := hP
            have hD : va_D A (wR cI cJ cZ aR0 aR1 aR2 aR3 aR4 aR5 aR6 aR7 aR8 aR9 aR10 aR11 aR12 aR13 aR14 aR15 aR16 aR17 aR18 aR19 aR20 aR21 lv_66 sg pd ac dd hd le bd my lf pa kp) := hD
            have hR := bnd_eq hR hw_78.symm
            refine lv_iload_n hx hb dX6_courtier_81 rfl (lv_at hl 3 rfl) ?_
            refine lv_iload_n hx hb dX6_courtier_82 rfl (lv_at hl 0 rfl) ?_
            refine lv_ishr hx hb dX6_courtier_83 ?_
            refine lv_iconst (v := (1 : Int32)) hx hb dX6_courtier_84 (by decide) ?_
            refine lv_iand hx hb dX6_courtier_85 ?_
            refine lv_iconst (v := (1 : Int32)) hx hb dX6_courtier_86 (by decide) ?_
            refine lv_icmp_ne (tgt := 94) hx hb dX6_courtier_87 (by decide) (fun c_87 => ?_) (fun c_87 => ?_)
            · have c_87 : ¬ (((xp >>> ((nI i_66) &&& 31)) &&& (1 : Int32)) = (1 : Int32)) := c_87
              have hR := hR.trans (if_neg c_87)
              refine lv_bipush (v := (-6 : Int32)) hx hb dX6_courtier_94 (by decide) ?_
              refine va_iast hx hb hK hP hD hS 4 0 rfl rfl (at_in hw_78 (in_in hw_6 c_9 (by decide)) (vp_in_nI hlt_66 (by decide))) dX6_courtier_96 (fun H locs hP hD hS => ?_)
              have hP : va_P δ vwCl (wR cI cJ cZ aR0 aR1 aR2 aR3 aR4 aR5 aR6 aR7 aR8 aR9 aR10 aR11 aR12 aR13 aR14 aR15 aR16 aR17 aR18 aR19 aR20 aR21 (vCourtiers lv_66, vClock lv_66, vTears lv_66, vLeft lv_66, vRight lv_66, vScandals lv_66, (upd (vWearOf lv_66) r_78.toNatClampNeg (-6 : Int32))) sg pd ac dd hd le bd my lf pa kp) H := hP
              have hD : va_D A (wR cI cJ cZ aR0 aR1 aR2 aR3 aR4 aR5 aR6 aR7 aR8 aR9 aR10 aR11 aR12 aR13 aR14 aR15 aR16 aR17 aR18 aR19 aR20 aR21 (vCourtiers lv_66, vClock lv_66, vTears lv_66, vLeft lv_66, vRight lv_66, vScandals lv_66, (upd (vWearOf lv_66) r_78.toNatClampNeg (-6 : Int32))) sg pd ac dd hd le bd my lf pa kp) := hD
              refine lv_iinc (v := (nI (i_66 + 1))) (lv' := [(3, .int (nI (i_66 + 1))), (0, .ref aR0), (1, .int xc), (2, .int xp)]) hx hb dX6_courtier_97 hl (k := 0) rfl (nI_1 i_66) (by decide) rfl (fun ls hl => ?_)
              refine lv_goto (tgt := 66) hx hb dX6_courtier_100 (by decide) ?_
              exact ih_66 (i_66 + 1) (vCourtiers lv_66, vClock lv_66, vTears lv_66, vLeft lv_66, vRight lv_66, vScandals lv_66, (upd (vWearOf lv_66) r_78.toNatClampNeg (-6 : Int32))) _ _ _ (by omega) (by omega) hP hD hS (lv_sub hl [0, 1, 2, 3] rfl) (fun w_66 H locs ls he hP hD hS hl => kk w_66 H locs ls (hR.trans he) hP hD hS hl)
            · have c_87 : (((xp >>> ((nI i_66) &&& 31)) &&& (1 : Int32)) = (1 : Int32)) := c_87
              have hR := hR.trans (if_pos c_87)
              refine lv_iconst (v := (0 : Int32)) hx hb dX6_courtier_90 (by decide) ?_
              refine lv_goto (tgt := 96) hx hb dX6_courtier_91 (by decide) ?_
              refine va_iast hx hb hK hP hD hS 4 0 rfl rfl (at_in hw_78 (in_in hw_6 c_9 (by decide)) (vp_in_nI hlt_66 (by decide))) dX6_courtier_96 (fun H locs hP hD hS => ?_)
              have hP : va_P δ vwCl (wR cI cJ cZ aR0 aR1 aR2 aR3 aR4 aR5 aR6 aR7 aR8 aR9 aR10 aR11 aR12 aR13 aR14 aR15 aR16 aR17 aR18 aR19 aR20 aR21 (vCourtiers lv_66, vClock lv_66, vTears lv_66, vLeft lv_66, vRight lv_66, vScandals lv_66, (upd (vWearOf lv_66) r_78.toNatClampNeg (0 : Int32))) sg pd ac dd hd le bd my lf pa kp) H := hP
              have hD : va_D A (wR cI cJ cZ aR0 aR1 aR2 aR3 aR4 aR5 aR6 aR7 aR8 aR9 aR10 aR11 aR12 aR13 aR14 aR15 aR16 aR17 aR18 aR19 aR20 aR21 (vCourtiers lv_66, vClock lv_66, vTears lv_66, vLeft lv_66, vRight lv_66, vScandals lv_66, (upd (vWearOf lv_66) r_78.toNatClampNeg (0 : Int32))) sg pd ac dd hd le bd my lf pa kp) := hD
              refine lv_iinc (v := (nI (i_66 + 1))) (lv' := [(3, .int (nI (i_66 + 1))), (0, .ref aR0), (1, .int xc), (2, .int xp)]) hx hb dX6_courtier_97 hl (k := 0) rfl (nI_1 i_66) (by decide) rfl (fun ls hl => ?_)
              refine lv_goto (tgt := 66) hx hb dX6_courtier_100 (by decide) ?_
              exact ih_66 (i_66 + 1) (vCourtiers lv_66, vClock lv_66, vTears lv_66, vLeft lv_66, vRight lv_66, vScandals lv_66, (upd (vWearOf lv_66) r_78.toNatClampNeg (0 : Int32))) _ _ _ (by omega) (by omega) hP hD hS (lv_sub hl [0, 1, 2, 3] rfl) (fun w_66 H locs ls he hP hD hS hl => kk w_66 H locs ls (hR.trans he) hP hD hS hl)
      refine hloop_66 (24 + 1) 0 (((vCourtiers lv) ||| ((1 : Int32) <<< (xc &&& 31))), vClock lv, vTears lv, (upd (vLeft lv) xc.toNatClampNeg (24 : Int32)), (upd (vRight lv) xc.toNatClampNeg (24 : Int32)), (upd (vScandals lv) xc.toNatClampNeg (0 : Int32)), vWearOf lv) _ _ _ (by omega) (by omega) hP hD hS (lv_sub hl [0, 1, 2, 3] rfl) (fun w_66 H locs ls hw_66 hP hD hS hl => ?_)
      have hP : va_P δ vwCl (wR cI cJ cZ aR0 aR1 aR2 aR3 aR4 aR5 aR6 aR7 aR8 aR9 aR10 aR11 aR12 aR13 aR14 aR15 aR16 aR17 aR18 aR19 aR20 aR21 w_66 sg pd ac dd hd le bd my lf pa kp) H := hP
      have hD : va_D A (wR cI cJ cZ aR0 aR1 aR2 aR3 aR4 aR5 aR6 aR7 aR8 aR9 aR10 aR11 aR12 aR13 aR14 aR15 aR16 aR17 aR18 aR19 aR20 aR21 w_66 sg pd ac dd hd le bd my lf pa kp) := hD
      have hR := bnd_eq hR hw_66.symm
      refine lv_aload_n hx hb dX6_courtier_103 rfl (lv_at hl 0 rfl) ?_
      refine va_get (D := δ) (ci := 6) (v := .int (vCourtiers w_66)) (C := RX6) (T := TX6) (N := 34) hx hb hts hinX6 hown hK hP 0 rfl rfl 0 (by decide) (hts (.fieldLink RX6 87 "GloveHoursModel" "courtiers" "I") (List.mem_of_getElem? (i := 3) rfl)) (fun _ h9 => h9) rfl dX6_courtier_104 ?_
      have hr := mrS (p := p) (e := e) (R := rm_X6_courtier) (below := below) (meth := meth) (H := H) (locs := locs) (ls := ls) (As := [.int (vCourtiers w_66)]) (rest := []) (c_X6_ones l δ cI cJ cZ (vCourtiers w_66)) hx hb hml hts hown hK hNW hP hD [] rfl rfl (va_cwS 1 hts gX6_courtier_X6_ones rfl rfl rfl (by decide +kernel) ⟨(Nat.le_of_ble_eq_true rfl), (Nat.le_of_ble_eq_true rfl)⟩) rfl hl.1 rfl (Nat.le_of_ble_eq_true rfl) dX6_courtier_107
      refine mc_i (wr := (wR cI cJ cZ aR0 aR1 aR2 aR3 aR4 aR5 aR6 aR7 aR8 aR9 aR10 aR11 aR12 aR13 aR14 aR15 aR16 aR17 aR18 aR19 aR20 aR21 w_66 sg pd ac dd hd le bd my lf pa kp)) hr hP hD hS hA [] [0, 1, 2, 3, 4, 5, 6, 7, 8, 9, 10, 11, 12, 13, 14, 15, 16, 17, 18, 19, 20, 21] [0, 1, 2, 3, 4, 5, 6, 7, 8, 9, 10, 11, 12, 13, 14, 15, 16, 17, 18, 19, 20, 21] rfl rfl rfl rfl rfl (wn := fun _ => (wR cI cJ cZ aR0 aR1 aR2 aR3 aR4 aR5 aR6 aR7 aR8 aR9 aR10 aR11 aR12 aR13 aR14 aR15 aR16 aR17 aR18 aR19 aR20 aR21 w_66 sg pd ac dd hd le bd my lf pa kp)) (fun _ => rfl) (fun r_107 _ H locs hw_107 hP hD hS => ?_)
      have hP : va_P δ vwCl (wR cI cJ cZ aR0 aR1 aR2 aR3 aR4 aR5 aR6 aR7 aR8 aR9 aR10 aR11 aR12 aR13 aR14 aR15 aR16 aR17 aR18 aR19 aR20 aR21 w_66 sg pd ac dd hd le bd my lf pa kp) H := hP
      have hD : va_D A (wR cI cJ cZ aR0 aR1 aR2 aR3 aR4 aR5 aR6 aR7 aR8 aR9 aR10 aR11 aR12 aR13 aR14 aR15 aR16 aR17 aR18 aR19 aR20 aR21 w_66 sg pd ac dd hd le bd my lf pa kp) := hD
      have hR := bnd_eq hR hw_107.symm
      exact hret _ _ r_107 w_66 _ _ hR hP hD hS dX6_courtier_110
    · have c_23 : (r_20 = 0) := c_23
      have hR := hR.trans (if_pos c_23)
      refine lv_bipush (v := (-2 : Int32)) hx hb dX6_courtier_26 (by decide) ?_
      exact hret _ _ (-2 : Int32) lv _ _ hR hP hD hS dX6_courtier_28
  · have c_9 : (r_6 = 0) := c_9
    have hR := hR.trans (if_pos c_9)
    refine lv_iconst (v := (-1 : Int32)) hx hb dX6_courtier_12 (by decide) ?_
    exact hret _ _ (-1 : Int32) lv _ _ hR hP hD hS dX6_courtier_13

abbrev rm_X6_leave : Room := { frames := 2, cells := 0, slots := 0, locals := 46 }
set_option maxHeartbeats 4000000 in
set_option maxRecDepth 100000 in
theorem c_X6_leave (l : Launch) (δ : va_G) (cI cJ cZ : ClassId) (aR0 aR1 aR2 aR3 aR4 aR5 aR6 aR7 aR8 aR9 aR10 aR11 aR12 aR13 aR14 aR15 aR16 aR17 aR18 aR19 aR20 aR21 : Nat) (lv : LV) (sg : SG) (pd : PD) (ac : AC) (dd : DD) (hd : HD) (le : LE) (bd : BD) (my : MY) (lf : LF) (pa : PA) (kp : KP) (xc : Int32) : mMi l δ (mTy cI cJ cZ) yX6_leave wsX6_leave rm_X6_leave [.ref aR0, .int xc] (wR cI cJ cZ aR0 aR1 aR2 aR3 aR4 aR5 aR6 aR7 aR8 aR9 aR10 aR11 aR12 aR13 aR14 aR15 aR16 aR17 aR18 aR19 aR20 aR21 lv sg pd ac dd hd le bd my lf pa kp) (S := LV) (fun r u => F_X6_leave lv xc = (r, u)) (fun u => (wR cI cJ cZ aR0 aR1 aR2 aR3 aR4 aR5 aR6 aR7 aR8 aR9 aR10 aR11 aR12 aR13 aR14 aR15 aR16 aR17 aR18 aR19 aR20 aR21 u sg pd ac dd hd le bd my lf pa kp)) := by
  refine mk_i (cc := cX6_leave) (maxL := 2) (by decide) rfl (Nat.le_of_ble_eq_true rfl) ?_
  intro p e s m args below meth c A Q ls H locs hx hb hml hts hown hK hNW hA hP hD hS hl hret
  have hown : s.vm.findClass RX6 = some m.cls := hown
  have hl : lv_has ls 2 [(0, .ref aR0), (1, .int xc)] := hl
  have hinX6 : ∀ w ∈ u_ws RX6 TX6 34, w ∈ wsX6_leave := (fun _ h => List.mem_cons_of_mem _ (List.mem_append_right _ (h)))
  have hR := F_X6_leave.eq_1 lv xc
  refine lv_aload_n hx hb dX6_leave_0 rfl (lv_at hl 0 rfl) ?_
  refine lv_iload_n hx hb dX6_leave_1 rfl (lv_at hl 1 rfl) ?_
  have hr := mrV (p := p) (e := e) (R := rm_X6_leave) (below := below) (meth := meth) (H := H) (locs := locs) (ls := ls) (As := [.int xc]) (rest := []) (c_X6_isCourtier l δ cI cJ cZ aR0 aR1 aR2 aR3 aR4 aR5 aR6 aR7 aR8 aR9 aR10 aR11 aR12 aR13 aR14 aR15 aR16 aR17 aR18 aR19 aR20 aR21 lv sg pd ac dd hd le bd my lf pa kp xc) hx hb hml hts hown hK hNW hP hD [0, 1, 2, 3, 4, 5, 6, 7, 8, 9, 10, 11, 12, 13, 14, 15, 16, 17, 18, 19, 20, 21] rfl rfl 6 0 rfl rfl (cwV 1 hts gX6_leave_X6_isCourtier rfl rfl rfl (by decide +kernel) ⟨(Nat.le_of_ble_eq_true rfl), (Nat.le_of_ble_eq_true rfl)⟩) rfl hl.1 rfl (Nat.le_of_ble_eq_true rfl) dX6_leave_2
  refine mc_i (wr := ([] : va_W)) hr hP hD hS hA [0, 1, 2, 3, 4, 5, 6, 7, 8, 9, 10, 11, 12, 13, 14, 15, 16, 17, 18, 19, 20, 21] [] [0, 1, 2, 3, 4, 5, 6, 7, 8, 9, 10, 11, 12, 13, 14, 15, 16, 17, 18, 19, 20, 21] rfl rfl rfl rfl rfl (wn := fun _ => (wR cI cJ cZ aR0 aR1 aR2 aR3 aR4 aR5 aR6 aR7 aR8 aR9 aR10 aR11 aR12 aR13 aR14 aR15 aR16 aR17 aR18 aR19 aR20 aR21 lv sg pd ac dd hd le bd my lf pa kp)) (fun _ => rfl) (fun r_2 _ H locs hw_2 hP hD hS => ?_)
  obtain ⟨hw_2, z_2⟩ := hw_2
  have hP : va_P δ vwCl (wR cI cJ cZ aR0 aR1 aR2 aR3 aR4 aR5 aR6 aR7 aR8 aR9 aR10 aR11 aR12 aR13 aR14 aR15 aR16 aR17 aR18 aR19 aR20 aR21 lv sg pd ac dd hd le bd my lf pa kp) H := hP
  have hD : va_D A (wR cI cJ cZ aR0 aR1 aR2 aR3 aR4 aR5 aR6 aR7 aR8 aR9 aR10 aR11 aR12 aR13 aR14 aR15 aR16 aR17 aR18 aR19 aR20 aR21 lv sg pd ac dd hd le bd my lf pa kp) := hD
  have hR := bnd_eq hR hw_2.symm
  refine lv_if_ne (tgt := 10) hx hb dX6_leave_5 (by decide) (fun c_5 => ?_) (fun c_5 => ?_)
  · have c_5 : ¬ (r_2 = 0) := c_5
    have hR := hR.trans (if_neg c_5)
    refine lv_aload_n hx hb dX6_leave_10 rfl (lv_at hl 0 rfl) ?_
    refine lv_dup hx hb dX6_leave_11 rfl ?_
    refine va_get (D := δ) (ci := 6) (v := .int (vCourtiers lv)) (C := RX6) (T := TX6) (N := 34) hx hb hts hinX6 hown hK hP 0 rfl rfl 0 (by decide) (hts (.fieldLink RX6 87 "GloveHoursModel" "courtiers" "I") (List.mem_of_getElem? (i := 1) rfl)) (fun _ h9 => h9) rfl dX6_leave_12 ?_
    refine lv_iconst (v := (1 : Int32)) hx hb dX6_leave_15 (by decide) ?_
    refine lv_iload_n hx hb dX6_leave_16 rfl (lv_at hl 1 rfl) ?_
    refine lv_ishl hx hb dX6_leave_17 ?_
    refine lv_iconst (v := (-1 : Int32)) hx hb dX6_leave_18 (by decide) ?_
    refine lv_ixor hx hb dX6_leave_19 ?_
    refine lv_iand hx hb dX6_leave_20 ?_
    refine va_put (D := δ) (ci := 6) (v := .int ((vCourtiers lv) &&& (((1 : Int32) <<< (xc &&& 31)) ^^^ (-1 : Int32)))) (ty := .int) (C := RX6) (T := TX6) (N := 34) hx hb hts hinX6 tyX6 tyX6_ok nmX6 hown hK hP hD hS 0 rfl rfl 0 (by decide) (hts (.fieldLink RX6 87 "GloveHoursModel" "courtiers" "I") (List.mem_of_getElem? (i := 1) rfl)) (fun _ h9 => h9) rfl (by decide +kernel) rfl rfl (Nat.le_of_ble_eq_true rfl) dX6_leave_21 (fun H locs hP hD hS => ?_)
    have hP : va_P δ vwCl (wR cI cJ cZ aR0 aR1 aR2 aR3 aR4 aR5 aR6 aR7 aR8 aR9 aR10 aR11 aR12 aR13 aR14 aR15 aR16 aR17 aR18 aR19 aR20 aR21 (((vCourtiers lv) &&& (((1 : Int32) <<< (xc &&& 31)) ^^^ (-1 : Int32))), vClock lv, vTears lv, vLeft lv, vRight lv, vScandals lv, vWearOf lv) sg pd ac dd hd le bd my lf pa kp) H := hP
    have hD : va_D A (wR cI cJ cZ aR0 aR1 aR2 aR3 aR4 aR5 aR6 aR7 aR8 aR9 aR10 aR11 aR12 aR13 aR14 aR15 aR16 aR17 aR18 aR19 aR20 aR21 (((vCourtiers lv) &&& (((1 : Int32) <<< (xc &&& 31)) ^^^ (-1 : Int32))), vClock lv, vTears lv, vLeft lv, vRight lv, vScandals lv, vWearOf lv) sg pd ac dd hd le bd my lf pa kp) := hD
    refine lv_aload_n hx hb dX6_leave_24 rfl (lv_at hl 0 rfl) ?_
    refine va_get (D := δ) (ci := 6) (v := .int ((vCourtiers lv) &&& (((1 : Int32) <<< (xc &&& 31)) ^^^ (-1 : Int32)))) (C := RX6) (T := TX6) (N := 34) hx hb hts hinX6 hown hK hP 0 rfl rfl 0 (by decide) (hts (.fieldLink RX6 87 "GloveHoursModel" "courtiers" "I") (List.mem_of_getElem? (i := 1) rfl)) (fun _ h9 => h9) rfl dX6_leave_25 ?_
    have hr := mrS (p := p) (e := e) (R := rm_X6_leave) (below := below) (meth := meth) (H := H) (locs := locs) (ls := ls) (As := [.int ((vCourtiers lv) &&& (((1 : Int32) <<< (xc &&& 31)) ^^^ (-1 : Int32)))]) (rest := []) (c_X6_ones l δ cI cJ cZ ((vCourtiers lv) &&& (((1 : Int32) <<< (xc &&& 31)) ^^^ (-1 : Int32)))) hx hb hml hts hown hK hNW hP hD [] rfl rfl (va_cwS 1 hts gX6_leave_X6_ones rfl rfl rfl (by decide +kernel) ⟨(Nat.le_of_ble_eq_true rfl), (Nat.le_of_ble_eq_true rfl)⟩) rfl hl.1 rfl (Nat.le_of_ble_eq_true rfl) dX6_leave_28
    refine mc_i (wr := (wR cI cJ cZ aR0 aR1 aR2 aR3 aR4 aR5 aR6 aR7 aR8 aR9 aR10 aR11 aR12 aR13 aR14 aR15 aR16 aR17 aR18 aR19 aR20 aR21 (((vCourtiers lv) &&& (((1 : Int32) <<< (xc &&& 31)) ^^^ (-1 : Int32))), vClock lv, vTears lv, vLeft lv, vRight lv, vScandals lv, vWearOf lv) sg pd ac dd hd le bd my lf pa kp)) hr hP hD hS hA [] [0, 1, 2, 3, 4, 5, 6, 7, 8, 9, 10, 11, 12, 13, 14, 15, 16, 17, 18, 19, 20, 21] [0, 1, 2, 3, 4, 5, 6, 7, 8, 9, 10, 11, 12, 13, 14, 15, 16, 17, 18, 19, 20, 21] rfl rfl rfl rfl rfl (wn := fun _ => (wR cI cJ cZ aR0 aR1 aR2 aR3 aR4 aR5 aR6 aR7 aR8 aR9 aR10 aR11 aR12 aR13 aR14 aR15 aR16 aR17 aR18 aR19 aR20 aR21 (((vCourtiers lv) &&& (((1 : Int32) <<< (xc &&& 31)) ^^^ (-1 : Int32))), vClock lv, vTears lv, vLeft lv, vRight lv, vScandals lv, vWearOf lv) sg pd ac dd hd le bd my lf pa kp)) (fun _ => rfl) (fun r_28 _ H locs hw_28 hP hD hS => ?_)
    have hP : va_P δ vwCl (wR cI cJ cZ aR0 aR1 aR2 aR3 aR4 aR5 aR6 aR7 aR8 aR9 aR10 aR11 aR12 aR13 aR14 aR15 aR16 aR17 aR18 aR19 aR20 aR21 (((vCourtiers lv) &&& (((1 : Int32) <<< (xc &&& 31)) ^^^ (-1 : Int32))), vClock lv, vTears lv, vLeft lv, vRight lv, vScandals lv, vWearOf lv) sg pd ac dd hd le bd my lf pa kp) H := hP
    have hD : va_D A (wR cI cJ cZ aR0 aR1 aR2 aR3 aR4 aR5 aR6 aR7 aR8 aR9 aR10 aR11 aR12 aR13 aR14 aR15 aR16 aR17 aR18 aR19 aR20 aR21 (((vCourtiers lv) &&& (((1 : Int32) <<< (xc &&& 31)) ^^^ (-1 : Int32))), vClock lv, vTears lv, vLeft lv, vRight lv, vScandals lv, vWearOf lv) sg pd ac dd hd le bd my lf pa kp) := hD
    have hR := bnd_eq hR hw_28.symm
    exact hret _ _ r_28 (((vCourtiers lv) &&& (((1 : Int32) <<< (xc &&& 31)) ^^^ (-1 : Int32))), vClock lv, vTears lv, vLeft lv, vRight lv, vScandals lv, vWearOf lv) _ _ hR hP hD hS dX6_leave_31
  · have c_5 : (r_2 = 0) := c_5
    have hR := hR.trans (if_pos c_5)
    refine lv_iconst (v := (-1 : Int32)) hx hb dX6_leave_8 (by decide) ?_
    exact hret _ _ (-1 : Int32) lv _ _ hR hP hD hS dX6_leave_9

abbrev rm_X6_set : Room := { frames := 1, cells := 0, slots := 0, locals := 25 }
set_option maxHeartbeats 4000000 in
set_option maxRecDepth 100000 in
theorem c_X6_set (l : Launch) (δ : va_G) (cI cJ cZ : ClassId) (aR0 aR1 aR2 aR3 aR4 aR5 aR6 aR7 aR8 aR9 aR10 aR11 aR12 aR13 aR14 aR15 aR16 aR17 aR18 aR19 aR20 aR21 : Nat) (lv : LV) (sg : SG) (pd : PD) (ac : AC) (dd : DD) (hd : HD) (le : LE) (bd : BD) (my : MY) (lf : LF) (pa : PA) (kp : KP) (xw : Int32) (xv : Int32) : mMi l δ (mTy cI cJ cZ) yX6_set wsX6_set rm_X6_set [.ref aR0, .int xw, .int xv] (wR cI cJ cZ aR0 aR1 aR2 aR3 aR4 aR5 aR6 aR7 aR8 aR9 aR10 aR11 aR12 aR13 aR14 aR15 aR16 aR17 aR18 aR19 aR20 aR21 lv sg pd ac dd hd le bd my lf pa kp) (S := LV) (fun r u => F_X6_set lv xw xv = (r, u)) (fun u => (wR cI cJ cZ aR0 aR1 aR2 aR3 aR4 aR5 aR6 aR7 aR8 aR9 aR10 aR11 aR12 aR13 aR14 aR15 aR16 aR17 aR18 aR19 aR20 aR21 u sg pd ac dd hd le bd my lf pa kp)) := by
  refine mk_i (cc := cX6_set) (maxL := 4) (by decide) rfl (Nat.le_of_ble_eq_true rfl) ?_
  intro p e s m args below meth c A Q ls H locs hx hb hml hts hown hK hNW hA hP hD hS hl hret
  have hown : s.vm.findClass RX6 = some m.cls := hown
  have hl : lv_has ls 4 [(0, .ref aR0), (1, .int xw), (2, .int xv)] := hl
  have hinX6 : ∀ w ∈ u_ws RX6 TX6 34, w ∈ wsX6_set := (fun _ h => List.mem_cons_of_mem _ (List.mem_append_right _ (h)))
  have hR := F_X6_set.eq_1 lv xw xv
  refine lv_iload_n hx hb dX6_set_0 rfl (lv_at hl 1 rfl) ?_
  refine lv_i2l (v := (xw.toInt64)) hx hb dX6_set_1 rfl ?_
  refine lv_lconst (v := (0 : Int64)) hx hb dX6_set_2 (by decide) ?_
  refine lv_lconst (v := (1 : Int64)) hx hb dX6_set_3 (by decide) ?_
  have hr := mrS (p := p) (e := e) (R := rm_X6_set) (below := below) (meth := meth) (H := H) (locs := locs) (ls := ls) (As := [.long (xw.toInt64), .long (0 : Int64), .long (1 : Int64)]) (rest := []) (c_X6_in l δ cI cJ cZ (xw.toInt64) (0 : Int64) (1 : Int64)) hx hb hml hts hown hK hNW hP hD [] rfl rfl (va_cwS 3 hts gX6_set_X6_in rfl rfl rfl (by decide +kernel) ⟨(Nat.le_of_ble_eq_true rfl), (Nat.le_of_ble_eq_true rfl)⟩) rfl hl.1 rfl (Nat.le_of_ble_eq_true rfl) dX6_set_4
  refine mc_i (wr := (wR cI cJ cZ aR0 aR1 aR2 aR3 aR4 aR5 aR6 aR7 aR8 aR9 aR10 aR11 aR12 aR13 aR14 aR15 aR16 aR17 aR18 aR19 aR20 aR21 lv sg pd ac dd hd le bd my lf pa kp)) hr hP hD hS hA [] [0, 1, 2, 3, 4, 5, 6, 7, 8, 9, 10, 11, 12, 13, 14, 15, 16, 17, 18, 19, 20, 21] [0, 1, 2, 3, 4, 5, 6, 7, 8, 9, 10, 11, 12, 13, 14, 15, 16, 17, 18, 19, 20, 21] rfl rfl rfl rfl rfl (wn := fun _ => (wR cI cJ cZ aR0 aR1 aR2 aR3 aR4 aR5 aR6 aR7 aR8 aR9 aR10 aR11 aR12 aR13 aR14 aR15 aR16 aR17 aR18 aR19 aR20 aR21 lv sg pd ac dd hd le bd my lf pa kp)) (fun _ => rfl) (fun r_4 _ H locs hw_4 hP hD hS => ?_)
  obtain ⟨hw_4, z_4⟩ := hw_4
  have hP : va_P δ vwCl (wR cI cJ cZ aR0 aR1 aR2 aR3 aR4 aR5 aR6 aR7 aR8 aR9 aR10 aR11 aR12 aR13 aR14 aR15 aR16 aR17 aR18 aR19 aR20 aR21 lv sg pd ac dd hd le bd my lf pa kp) H := hP
  have hD : va_D A (wR cI cJ cZ aR0 aR1 aR2 aR3 aR4 aR5 aR6 aR7 aR8 aR9 aR10 aR11 aR12 aR13 aR14 aR15 aR16 aR17 aR18 aR19 aR20 aR21 lv sg pd ac dd hd le bd my lf pa kp) := hD
  have hR := bnd_eq hR hw_4.symm
  refine lv_if_eq (tgt := 33) hx hb dX6_set_7 (by decide) (fun c_7 => ?_) (fun c_7 => ?_)
  · have c_7 : (r_4 = 0) := c_7
    have hR := hR.trans (if_pos c_7)
    refine lv_bipush (v := (-2 : Int32)) hx hb dX6_set_33 (by decide) ?_
    exact hret _ _ (-2 : Int32) lv _ _ hR hP hD hS dX6_set_35
  · have c_7 : ¬ (r_4 = 0) := c_7
    have hR := hR.trans (if_neg c_7)
    refine lv_iload_n hx hb dX6_set_10 rfl (lv_at hl 2 rfl) ?_
    refine lv_i2l (v := (xv.toInt64)) hx hb dX6_set_11 rfl ?_
    refine lv_iload_n hx hb dX6_set_12 rfl (lv_at hl 1 rfl) ?_
    refine lv_i2l (v := (xw.toInt64)) hx hb dX6_set_13 rfl ?_
    refine lv_iload_n hx hb dX6_set_14 rfl (lv_at hl 1 rfl) ?_
    refine lv_if_ne (tgt := 24) hx hb dX6_set_15 (by decide) (fun c_15 => ?_) (fun c_15 => ?_)
    · have c_15 : ¬ (xw = 0) := c_15
      have hR := hR.trans (if_neg c_15)
      refine lv_ldc2 (v := (20 : Int64)) hx hb hown (hts (.constantLong RX6 108 (20)) (List.mem_of_getElem? (i := 2) rfl)) dX6_set_24 ?_
      have hr := mrS (p := p) (e := e) (R := rm_X6_set) (below := below) (meth := meth) (H := H) (locs := locs) (ls := ls) (As := [.long (xv.toInt64), .long (xw.toInt64), .long (20 : Int64)]) (rest := []) (c_X6_in l δ cI cJ cZ (xv.toInt64) (xw.toInt64) (20 : Int64)) hx hb hml hts hown hK hNW hP hD [] rfl rfl (va_cwS 3 hts gX6_set_X6_in rfl rfl rfl (by decide +kernel) ⟨(Nat.le_of_ble_eq_true rfl), (Nat.le_of_ble_eq_true rfl)⟩) rfl hl.1 rfl (Nat.le_of_ble_eq_true rfl) dX6_set_27
      refine mc_i (wr := (wR cI cJ cZ aR0 aR1 aR2 aR3 aR4 aR5 aR6 aR7 aR8 aR9 aR10 aR11 aR12 aR13 aR14 aR15 aR16 aR17 aR18 aR19 aR20 aR21 lv sg pd ac dd hd le bd my lf pa kp)) hr hP hD hS hA [] [0, 1, 2, 3, 4, 5, 6, 7, 8, 9, 10, 11, 12, 13, 14, 15, 16, 17, 18, 19, 20, 21] [0, 1, 2, 3, 4, 5, 6, 7, 8, 9, 10, 11, 12, 13, 14, 15, 16, 17, 18, 19, 20, 21] rfl rfl rfl rfl rfl (wn := fun _ => (wR cI cJ cZ aR0 aR1 aR2 aR3 aR4 aR5 aR6 aR7 aR8 aR9 aR10 aR11 aR12 aR13 aR14 aR15 aR16 aR17 aR18 aR19 aR20 aR21 lv sg pd ac dd hd le bd my lf pa kp)) (fun _ => rfl) (fun r_27 _ H locs hw_27 hP hD hS => ?_)
      obtain ⟨hw_27, z_27⟩ := hw_27
      have hP : va_P δ vwCl (wR cI cJ cZ aR0 aR1 aR2 aR3 aR4 aR5 aR6 aR7 aR8 aR9 aR10 aR11 aR12 aR13 aR14 aR15 aR16 aR17 aR18 aR19 aR20 aR21 lv sg pd ac dd hd le bd my lf pa kp) H := hP
      have hD : va_D A (wR cI cJ cZ aR0 aR1 aR2 aR3 aR4 aR5 aR6 aR7 aR8 aR9 aR10 aR11 aR12 aR13 aR14 aR15 aR16 aR17 aR18 aR19 aR20 aR21 lv sg pd ac dd hd le bd my lf pa kp) := hD
      have hR := bnd_eq hR hw_27.symm
      refine lv_if_ne (tgt := 36) hx hb dX6_set_30 (by decide) (fun c_30 => ?_) (fun c_30 => ?_)
      · have c_30 : ¬ (r_27 = 0) := c_30
        have hR := hR.trans (if_neg c_30)
        refine lv_iload_n hx hb dX6_set_36 rfl (lv_at hl 1 rfl) ?_
        refine lv_if_ne (tgt := 47) hx hb dX6_set_37 (by decide) (fun c_37 => ?_) (fun c_37 => ?_)
        · have c_37 : ¬ (xw = 0) := c_37
          have hR := hR.trans (if_neg c_37)
          refine lv_aload_n hx hb dX6_set_47 rfl (lv_at hl 0 rfl) ?_
          refine va_get (D := δ) (ci := 6) (v := .int (vTears lv)) (C := RX6) (T := TX6) (N := 34) hx hb hts hinX6 hown hK hP 0 rfl rfl 2 (by decide) (hts (.fieldLink RX6 75 "GloveHoursModel" "tears" "I") (List.mem_of_getElem? (i := 4) rfl)) (fun _ h9 => h9) rfl dX6_set_48 ?_
          refine lv_istore_n (lv' := [(3, .int (vTears lv)), (0, .ref aR0), (1, .int xw), (2, .int xv)]) hx hb dX6_set_51 rfl hl (by decide) rfl (fun ls hl => ?_)
          refine lv_aload_n hx hb dX6_set_52 rfl (lv_at hl 1 rfl) ?_
          refine lv_iload_n hx hb dX6_set_53 rfl (lv_at hl 2 rfl) ?_
          refine lv_if_ne (tgt := 61) hx hb dX6_set_54 (by decide) (fun c_54 => ?_) (fun c_54 => ?_)
          · have c_54 : ¬ (xw = 0) := c_54
            have hR := hR.trans (if_neg c_54)
            refine lv_aload_n hx hb dX6_set_61 rfl (lv_at hl 1 rfl) ?_
            refine va_get (D := δ) (ci := 6) (v := .int (vClock lv)) (C := RX6) (T := TX6) (N := 34) hx hb hts hinX6 hown hK hP 0 rfl rfl 1 (by decide) (hts (.fieldLink RX6 110 "GloveHoursModel" "clock" "I") (List.mem_of_getElem? (i := 3) rfl)) (fun _ h9 => h9) rfl dX6_set_62 ?_
            refine va_put (D := δ) (ci := 6) (v := .int (vClock lv)) (ty := .int) (C := RX6) (T := TX6) (N := 34) hx hb hts hinX6 tyX6 tyX6_ok nmX6 hown hK hP hD hS 0 rfl rfl 1 (by decide) (hts (.fieldLink RX6 110 "GloveHoursModel" "clock" "I") (List.mem_of_getElem? (i := 3) rfl)) (fun _ h9 => h9) rfl (by decide +kernel) rfl rfl (Nat.le_of_ble_eq_true rfl) dX6_set_65 (fun H locs hP hD hS => ?_)
            have hP : va_P δ vwCl (wR cI cJ cZ aR0 aR1 aR2 aR3 aR4 aR5 aR6 aR7 aR8 aR9 aR10 aR11 aR12 aR13 aR14 aR15 aR16 aR17 aR18 aR19 aR20 aR21 (vCourtiers lv, (vClock lv), vTears lv, vLeft lv, vRight lv, vScandals lv, vWearOf lv) sg pd ac dd hd le bd my lf pa kp) H := hP
            have hD : va_D A (wR cI cJ cZ aR0 aR1 aR2 aR3 aR4 aR5 aR6 aR7 aR8 aR9 aR10 aR11 aR12 aR13 aR14 aR15 aR16 aR17 aR18 aR19 aR20 aR21 (vCourtiers lv, (vClock lv), vTears lv, vLeft lv, vRight lv, vScandals lv, vWearOf lv) sg pd ac dd hd le bd my lf pa kp) := hD
            refine lv_aload_n hx hb dX6_set_68 rfl (lv_at hl 1 rfl) ?_
            refine lv_iload_n hx hb dX6_set_69 rfl (lv_at hl 2 rfl) ?_
            refine lv_iconst (v := (1 : Int32)) hx hb dX6_set_70 (by decide) ?_
            refine lv_icmp_ne (tgt := 78) hx hb dX6_set_71 (by decide) (fun c_71 => ?_) (fun c_71 => ?_)
            · have c_71 : ¬ (xw = (1 : Int32)) := c_71
              have hR := hR.trans (if_neg c_71)
              refine lv_aload_n hx hb dX6_set_78 rfl (lv_at hl 1 rfl) ?_
              refine va_get (D := δ) (ci := 6) (v := .int (vTears lv)) (C := RX6) (T := TX6) (N := 34) hx hb hts hinX6 hown hK hP 0 rfl rfl 2 (by decide) (hts (.fieldLink RX6 75 "GloveHoursModel" "tears" "I") (List.mem_of_getElem? (i := 4) rfl)) (fun _ h9 => h9) rfl dX6_set_79 ?_
              refine va_put (D := δ) (ci := 6) (v := .int (vTears lv)) (ty := .int) (C := RX6) (T := TX6) (N := 34) hx hb hts hinX6 tyX6 tyX6_ok nmX6 hown hK hP hD hS 0 rfl rfl 2 (by decide) (hts (.fieldLink RX6 75 "GloveHoursModel" "tears" "I") (List.mem_of_getElem? (i := 4) rfl)) (fun _ h9 => h9) rfl (by decide +kernel) rfl rfl (Nat.le_of_ble_eq_true rfl) dX6_set_82 (fun H locs hP hD hS => ?_)
              have hP : va_P δ vwCl (wR cI cJ cZ aR0 aR1 aR2 aR3 aR4 aR5 aR6 aR7 aR8 aR9 aR10 aR11 aR12 aR13 aR14 aR15 aR16 aR17 aR18 aR19 aR20 aR21 (vCourtiers lv, (vClock lv), (vTears lv), vLeft lv, vRight lv, vScandals lv, vWearOf lv) sg pd ac dd hd le bd my lf pa kp) H := hP
              have hD : va_D A (wR cI cJ cZ aR0 aR1 aR2 aR3 aR4 aR5 aR6 aR7 aR8 aR9 aR10 aR11 aR12 aR13 aR14 aR15 aR16 aR17 aR18 aR19 aR20 aR21 (vCourtiers lv, (vClock lv), (vTears lv), vLeft lv, vRight lv, vScandals lv, vWearOf lv) sg pd ac dd hd le bd my lf pa kp) := hD
              refine lv_iload_n hx hb dX6_set_85 rfl (lv_at hl 0 rfl) ?_
              exact hret _ _ (vTears lv) (vCourtiers lv, (vClock lv), (vTears lv), vLeft lv, vRight lv, vScandals lv, vWearOf lv) _ _ hR hP hD hS dX6_set_86
            · have c_71 : (xw = (1 : Int32)) := c_71
              have hR := hR.trans (if_pos c_71)
              refine lv_iload_n hx hb dX6_set_74 rfl (lv_at hl 3 rfl) ?_
              refine lv_goto (tgt := 82) hx hb dX6_set_75 (by decide) ?_
              refine va_put (D := δ) (ci := 6) (v := .int xv) (ty := .int) (C := RX6) (T := TX6) (N := 34) hx hb hts hinX6 tyX6 tyX6_ok nmX6 hown hK hP hD hS 0 rfl rfl 2 (by decide) (hts (.fieldLink RX6 75 "GloveHoursModel" "tears" "I") (List.mem_of_getElem? (i := 4) rfl)) (fun _ h9 => h9) rfl (by decide +kernel) rfl rfl (Nat.le_of_ble_eq_true rfl) dX6_set_82 (fun H locs hP hD hS => ?_)
              have hP : va_P δ vwCl (wR cI cJ cZ aR0 aR1 aR2 aR3 aR4 aR5 aR6 aR7 aR8 aR9 aR10 aR11 aR12 aR13 aR14 aR15 aR16 aR17 aR18 aR19 aR20 aR21 (vCourtiers lv, (vClock lv), xv, vLeft lv, vRight lv, vScandals lv, vWearOf lv) sg pd ac dd hd le bd my lf pa kp) H := hP
              have hD : va_D A (wR cI cJ cZ aR0 aR1 aR2 aR3 aR4 aR5 aR6 aR7 aR8 aR9 aR10 aR11 aR12 aR13 aR14 aR15 aR16 aR17 aR18 aR19 aR20 aR21 (vCourtiers lv, (vClock lv), xv, vLeft lv, vRight lv, vScandals lv, vWearOf lv) sg pd ac dd hd le bd my lf pa kp) := hD
              refine lv_iload_n hx hb dX6_set_85 rfl (lv_at hl 0 rfl) ?_
              exact hret _ _ (vTears lv) (vCourtiers lv, (vClock lv), xv, vLeft lv, vRight lv, vScandals lv, vWearOf lv) _ _ hR hP hD hS dX6_set_86
          · have c_54 : (xw = 0) := c_54
            have hR := hR.trans (if_pos c_54)
            refine lv_iload_n hx hb dX6_set_57 rfl (lv_at hl 3 rfl) ?_
            refine lv_goto (tgt := 65) hx hb dX6_set_58 (by decide) ?_
            refine va_put (D := δ) (ci := 6) (v := .int xv) (ty := .int) (C := RX6) (T := TX6) (N := 34) hx hb hts hinX6 tyX6 tyX6_ok nmX6 hown hK hP hD hS 0 rfl rfl 1 (by decide) (hts (.fieldLink RX6 110 "GloveHoursModel" "clock" "I") (List.mem_of_getElem? (i := 3) rfl)) (fun _ h9 => h9) rfl (by decide +kernel) rfl rfl (Nat.le_of_ble_eq_true rfl) dX6_set_65 (fun H locs hP hD hS => ?_)
            have hP : va_P δ vwCl (wR cI cJ cZ aR0 aR1 aR2 aR3 aR4 aR5 aR6 aR7 aR8 aR9 aR10 aR11 aR12 aR13 aR14 aR15 aR16 aR17 aR18 aR19 aR20 aR21 (vCourtiers lv, xv, vTears lv, vLeft lv, vRight lv, vScandals lv, vWearOf lv) sg pd ac dd hd le bd my lf pa kp) H := hP
            have hD : va_D A (wR cI cJ cZ aR0 aR1 aR2 aR3 aR4 aR5 aR6 aR7 aR8 aR9 aR10 aR11 aR12 aR13 aR14 aR15 aR16 aR17 aR18 aR19 aR20 aR21 (vCourtiers lv, xv, vTears lv, vLeft lv, vRight lv, vScandals lv, vWearOf lv) sg pd ac dd hd le bd my lf pa kp) := hD
            refine lv_aload_n hx hb dX6_set_68 rfl (lv_at hl 1 rfl) ?_
            refine lv_iload_n hx hb dX6_set_69 rfl (lv_at hl 2 rfl) ?_
            refine lv_iconst (v := (1 : Int32)) hx hb dX6_set_70 (by decide) ?_
            refine lv_icmp_ne (tgt := 78) hx hb dX6_set_71 (by decide) (fun c_71 => ?_) (fun c_71 => ?_)
            · have c_71 : ¬ (xw = (1 : Int32)) := c_71
              have hR := hR.trans (if_neg c_71)
              refine lv_aload_n hx hb dX6_set_78 rfl (lv_at hl 1 rfl) ?_
              refine va_get (D := δ) (ci := 6) (v := .int (vTears lv)) (C := RX6) (T := TX6) (N := 34) hx hb hts hinX6 hown hK hP 0 rfl rfl 2 (by decide) (hts (.fieldLink RX6 75 "GloveHoursModel" "tears" "I") (List.mem_of_getElem? (i := 4) rfl)) (fun _ h9 => h9) rfl dX6_set_79 ?_
              refine va_put (D := δ) (ci := 6) (v := .int (vTears lv)) (ty := .int) (C := RX6) (T := TX6) (N := 34) hx hb hts hinX6 tyX6 tyX6_ok nmX6 hown hK hP hD hS 0 rfl rfl 2 (by decide) (hts (.fieldLink RX6 75 "GloveHoursModel" "tears" "I") (List.mem_of_getElem? (i := 4) rfl)) (fun _ h9 => h9) rfl (by decide +kernel) rfl rfl (Nat.le_of_ble_eq_true rfl) dX6_set_82 (fun H locs hP hD hS => ?_)
              have hP : va_P δ vwCl (wR cI cJ cZ aR0 aR1 aR2 aR3 aR4 aR5 aR6 aR7 aR8 aR9 aR10 aR11 aR12 aR13 aR14 aR15 aR16 aR17 aR18 aR19 aR20 aR21 (vCourtiers lv, xv, (vTears lv), vLeft lv, vRight lv, vScandals lv, vWearOf lv) sg pd ac dd hd le bd my lf pa kp) H := hP
              have hD : va_D A (wR cI cJ cZ aR0 aR1 aR2 aR3 aR4 aR5 aR6 aR7 aR8 aR9 aR10 aR11 aR12 aR13 aR14 aR15 aR16 aR17 aR18 aR19 aR20 aR21 (vCourtiers lv, xv, (vTears lv), vLeft lv, vRight lv, vScandals lv, vWearOf lv) sg pd ac dd hd le bd my lf pa kp) := hD
              refine lv_iload_n hx hb dX6_set_85 rfl (lv_at hl 0 rfl) ?_
              exact hret _ _ (vTears lv) (vCourtiers lv, xv, (vTears lv), vLeft lv, vRight lv, vScandals lv, vWearOf lv) _ _ hR hP hD hS dX6_set_86
            · have c_71 : (xw = (1 : Int32)) := c_71
              have hR := hR.trans (if_pos c_71)
              refine lv_iload_n hx hb dX6_set_74 rfl (lv_at hl 3 rfl) ?_
              refine lv_goto (tgt := 82) hx hb dX6_set_75 (by decide) ?_
              refine va_put (D := δ) (ci := 6) (v := .int xv) (ty := .int) (C := RX6) (T := TX6) (N := 34) hx hb hts hinX6 tyX6 tyX6_ok nmX6 hown hK hP hD hS 0 rfl rfl 2 (by decide) (hts (.fieldLink RX6 75 "GloveHoursModel" "tears" "I") (List.mem_of_getElem? (i := 4) rfl)) (fun _ h9 => h9) rfl (by decide +kernel) rfl rfl (Nat.le_of_ble_eq_true rfl) dX6_set_82 (fun H locs hP hD hS => ?_)
              have hP : va_P δ vwCl (wR cI cJ cZ aR0 aR1 aR2 aR3 aR4 aR5 aR6 aR7 aR8 aR9 aR10 aR11 aR12 aR13 aR14 aR15 aR16 aR17 aR18 aR19 aR20 aR21 (vCourtiers lv, xv, xv, vLeft lv, vRight lv, vScandals lv, vWearOf lv) sg pd ac dd hd le bd my lf pa kp) H := hP
              have hD : va_D A (wR cI cJ cZ aR0 aR1 aR2 aR3 aR4 aR5 aR6 aR7 aR8 aR9 aR10 aR11 aR12 aR13 aR14 aR15 aR16 aR17 aR18 aR19 aR20 aR21 (vCourtiers lv, xv, xv, vLeft lv, vRight lv, vScandals lv, vWearOf lv) sg pd ac dd hd le bd my lf pa kp) := hD
              refine lv_iload_n hx hb dX6_set_85 rfl (lv_at hl 0 rfl) ?_
              exact hret _ _ (vTears lv) (vCourtiers lv, xv, xv, vLeft lv, vRight lv, vScandals lv, vWearOf lv) _ _ hR hP hD hS dX6_set_86
        · have c_37 : (xw = 0) := c_37
          have hR := hR.trans (if_pos c_37)
          refine lv_aload_n hx hb dX6_set_40 rfl (lv_at hl 0 rfl) ?_
          refine va_get (D := δ) (ci := 6) (v := .int (vClock lv)) (C := RX6) (T := TX6) (N := 34) hx hb hts hinX6 hown hK hP 0 rfl rfl 1 (by decide) (hts (.fieldLink RX6 110 "GloveHoursModel" "clock" "I") (List.mem_of_getElem? (i := 3) rfl)) (fun _ h9 => h9) rfl dX6_set_41 ?_
          refine lv_goto (tgt := 51) hx hb dX6_set_44 (by decide) ?_
          refine lv_istore_n (lv' := [(3, .int (vClock lv)), (0, .ref aR0), (1, .int xw), (2, .int xv)]) hx hb dX6_set_51 rfl hl (by decide) rfl (fun ls hl => ?_)
          refine lv_aload_n hx hb dX6_set_52 rfl (lv_at hl 1 rfl) ?_
          refine lv_iload_n hx hb dX6_set_53 rfl (lv_at hl 2 rfl) ?_
          refine lv_if_ne (tgt := 61) hx hb dX6_set_54 (by decide) (fun c_54 => ?_) (fun c_54 => ?_)
          · have c_54 : ¬ (xw = 0) := c_54
            have hR := hR.trans (if_neg c_54)
            refine lv_aload_n hx hb dX6_set_61 rfl (lv_at hl 1 rfl) ?_
            refine va_get (D := δ) (ci := 6) (v := .int (vClock lv)) (C := RX6) (T := TX6) (N := 34) hx hb hts hinX6 hown hK hP 0 rfl rfl 1 (by decide) (hts (.fieldLink RX6 110 "GloveHoursModel" "clock" "I") (List.mem_of_getElem? (i := 3) rfl)) (fun _ h9 => h9) rfl dX6_set_62 ?_
            refine va_put (D := δ) (ci := 6) (v := .int (vClock lv)) (ty := .int) (C := RX6) (T := TX6) (N := 34) hx hb hts hinX6 tyX6 tyX6_ok nmX6 hown hK hP hD hS 0 rfl rfl 1 (by decide) (hts (.fieldLink RX6 110 "GloveHoursModel" "clock" "I") (List.mem_of_getElem? (i := 3) rfl)) (fun _ h9 => h9) rfl (by decide +kernel) rfl rfl (Nat.le_of_ble_eq_true rfl) dX6_set_65 (fun H locs hP hD hS => ?_)
            have hP : va_P δ vwCl (wR cI cJ cZ aR0 aR1 aR2 aR3 aR4 aR5 aR6 aR7 aR8 aR9 aR10 aR11 aR12 aR13 aR14 aR15 aR16 aR17 aR18 aR19 aR20 aR21 (vCourtiers lv, (vClock lv), vTears lv, vLeft lv, vRight lv, vScandals lv, vWearOf lv) sg pd ac dd hd le bd my lf pa kp) H := hP
            have hD : va_D A (wR cI cJ cZ aR0 aR1 aR2 aR3 aR4 aR5 aR6 aR7 aR8 aR9 aR10 aR11 aR12 aR13 aR14 aR15 aR16 aR17 aR18 aR19 aR20 aR21 (vCourtiers lv, (vClock lv), vTears lv, vLeft lv, vRight lv, vScandals lv, vWearOf lv) sg pd ac dd hd le bd my lf pa kp) := hD
            refine lv_aload_n hx hb dX6_set_68 rfl (lv_at hl 1 rfl) ?_
            refine lv_iload_n hx hb dX6_set_69 rfl (lv_at hl 2 rfl) ?_
            refine lv_iconst (v := (1 : Int32)) hx hb dX6_set_70 (by decide) ?_
            refine lv_icmp_ne (tgt := 78) hx hb dX6_set_71 (by decide) (fun c_71 => ?_) (fun c_71 => ?_)
            · have c_71 : ¬ (xw = (1 : Int32)) := c_71
              have hR := hR.trans (if_neg c_71)
              refine lv_aload_n hx hb dX6_set_78 rfl (lv_at hl 1 rfl) ?_
              refine va_get (D := δ) (ci := 6) (v := .int (vTears lv)) (C := RX6) (T := TX6) (N := 34) hx hb hts hinX6 hown hK hP 0 rfl rfl 2 (by decide) (hts (.fieldLink RX6 75 "GloveHoursModel" "tears" "I") (List.mem_of_getElem? (i := 4) rfl)) (fun _ h9 => h9) rfl dX6_set_79 ?_
              refine va_put (D := δ) (ci := 6) (v := .int (vTears lv)) (ty := .int) (C := RX6) (T := TX6) (N := 34) hx hb hts hinX6 tyX6 tyX6_ok nmX6 hown hK hP hD hS 0 rfl rfl 2 (by decide) (hts (.fieldLink RX6 75 "GloveHoursModel" "tears" "I") (List.mem_of_getElem? (i := 4) rfl)) (fun _ h9 => h9) rfl (by decide +kernel) rfl rfl (Nat.le_of_ble_eq_true rfl) dX6_set_82 (fun H locs hP hD hS => ?_)
              have hP : va_P δ vwCl (wR cI cJ cZ aR0 aR1 aR2 aR3 aR4 aR5 aR6 aR7 aR8 aR9 aR10 aR11 aR12 aR13 aR14 aR15 aR16 aR17 aR18 aR19 aR20 aR21 (vCourtiers lv, (vClock lv), (vTears lv), vLeft lv, vRight lv, vScandals lv, vWearOf lv) sg pd ac dd hd le bd my lf pa kp) H := hP
              have hD : va_D A (wR cI cJ cZ aR0 aR1 aR2 aR3 aR4 aR5 aR6 aR7 aR8 aR9 aR10 aR11 aR12 aR13 aR14 aR15 aR16 aR17 aR18 aR19 aR20 aR21 (vCourtiers lv, (vClock lv), (vTears lv), vLeft lv, vRight lv, vScandals lv, vWearOf lv) sg pd ac dd hd le bd my lf pa kp) := hD
              refine lv_iload_n hx hb dX6_set_85 rfl (lv_at hl 0 rfl) ?_
              exact hret _ _ (vClock lv) (vCourtiers lv, (vClock lv), (vTears lv), vLeft lv, vRight lv, vScandals lv, vWearOf lv) _ _ hR hP hD hS dX6_set_86
            · have c_71 : (xw = (1 : Int32)) := c_71
              have hR := hR.trans (if_pos c_71)
              refine lv_iload_n hx hb dX6_set_74 rfl (lv_at hl 3 rfl) ?_
              refine lv_goto (tgt := 82) hx hb dX6_set_75 (by decide) ?_
              refine va_put (D := δ) (ci := 6) (v := .int xv) (ty := .int) (C := RX6) (T := TX6) (N := 34) hx hb hts hinX6 tyX6 tyX6_ok nmX6 hown hK hP hD hS 0 rfl rfl 2 (by decide) (hts (.fieldLink RX6 75 "GloveHoursModel" "tears" "I") (List.mem_of_getElem? (i := 4) rfl)) (fun _ h9 => h9) rfl (by decide +kernel) rfl rfl (Nat.le_of_ble_eq_true rfl) dX6_set_82 (fun H locs hP hD hS => ?_)
              have hP : va_P δ vwCl (wR cI cJ cZ aR0 aR1 aR2 aR3 aR4 aR5 aR6 aR7 aR8 aR9 aR10 aR11 aR12 aR13 aR14 aR15 aR16 aR17 aR18 aR19 aR20 aR21 (vCourtiers lv, (vClock lv), xv, vLeft lv, vRight lv, vScandals lv, vWearOf lv) sg pd ac dd hd le bd my lf pa kp) H := hP
              have hD : va_D A (wR cI cJ cZ aR0 aR1 aR2 aR3 aR4 aR5 aR6 aR7 aR8 aR9 aR10 aR11 aR12 aR13 aR14 aR15 aR16 aR17 aR18 aR19 aR20 aR21 (vCourtiers lv, (vClock lv), xv, vLeft lv, vRight lv, vScandals lv, vWearOf lv) sg pd ac dd hd le bd my lf pa kp) := hD
              refine lv_iload_n hx hb dX6_set_85 rfl (lv_at hl 0 rfl) ?_
              exact hret _ _ (vClock lv) (vCourtiers lv, (vClock lv), xv, vLeft lv, vRight lv, vScandals lv, vWearOf lv) _ _ hR hP hD hS dX6_set_86
          · have c_54 : (xw = 0) := c_54
            have hR := hR.trans (if_pos c_54)
            refine lv_iload_n hx hb dX6_set_57 rfl (lv_at hl 3 rfl) ?_
            refine lv_goto (tgt := 65) hx hb dX6_set_58 (by decide) ?_
            refine va_put (D := δ) (ci := 6) (v := .int xv) (ty := .int) (C := RX6) (T := TX6) (N := 34) hx hb hts hinX6 tyX6 tyX6_ok nmX6 hown hK hP hD hS 0 rfl rfl 1 (by decide) (hts (.fieldLink RX6 110 "GloveHoursModel" "clock" "I") (List.mem_of_getElem? (i := 3) rfl)) (fun _ h9 => h9) rfl (by decide +kernel) rfl rfl (Nat.le_of_ble_eq_true rfl) dX6_set_65 (fun H locs hP hD hS => ?_)
            have hP : va_P δ vwCl (wR cI cJ cZ aR0 aR1 aR2 aR3 aR4 aR5 aR6 aR7 aR8 aR9 aR10 aR11 aR12 aR13 aR14 aR15 aR16 aR17 aR18 aR19 aR20 aR21 (vCourtiers lv, xv, vTears lv, vLeft lv, vRight lv, vScandals lv, vWearOf lv) sg pd ac dd hd le bd my lf pa kp) H := hP
            have hD : va_D A (wR cI cJ cZ aR0 aR1 aR2 aR3 aR4 aR5 aR6 aR7 aR8 aR9 aR10 aR11 aR12 aR13 aR14 aR15 aR16 aR17 aR18 aR19 aR20 aR21 (vCourtiers lv, xv, vTears lv, vLeft lv, vRight lv, vScandals lv, vWearOf lv) sg pd ac dd hd le bd my lf pa kp) := hD
            refine lv_aload_n hx hb dX6_set_68 rfl (lv_at hl 1 rfl) ?_
            refine lv_iload_n hx hb dX6_set_69 rfl (lv_at hl 2 rfl) ?_
            refine lv_iconst (v := (1 : Int32)) hx hb dX6_set_70 (by decide) ?_
            refine lv_icmp_ne (tgt := 78) hx hb dX6_set_71 (by decide) (fun c_71 => ?_) (fun c_71 => ?_)
            · have c_71 : ¬ (xw = (1 : Int32)) := c_71
              have hR := hR.trans (if_neg c_71)
              refine lv_aload_n hx hb dX6_set_78 rfl (lv_at hl 1 rfl) ?_
              refine va_get (D := δ) (ci := 6) (v := .int (vTears lv)) (C := RX6) (T := TX6) (N := 34) hx hb hts hinX6 hown hK hP 0 rfl rfl 2 (by decide) (hts (.fieldLink RX6 75 "GloveHoursModel" "tears" "I") (List.mem_of_getElem? (i := 4) rfl)) (fun _ h9 => h9) rfl dX6_set_79 ?_
              refine va_put (D := δ) (ci := 6) (v := .int (vTears lv)) (ty := .int) (C := RX6) (T := TX6) (N := 34) hx hb hts hinX6 tyX6 tyX6_ok nmX6 hown hK hP hD hS 0 rfl rfl 2 (by decide) (hts (.fieldLink RX6 75 "GloveHoursModel" "tears" "I") (List.mem_of_getElem? (i := 4) rfl)) (fun _ h9 => h9) rfl (by decide +kernel) rfl rfl (Nat.le_of_ble_eq_true rfl) dX6_set_82 (fun H locs hP hD hS => ?_)
              have hP : va_P δ vwCl (wR cI cJ cZ aR0 aR1 aR2 aR3 aR4 aR5 aR6 aR7 aR8 aR9 aR10 aR11 aR12 aR13 aR14 aR15 aR16 aR17 aR18 aR19 aR20 aR21 (vCourtiers lv, xv, (vTears lv), vLeft lv, vRight lv, vScandals lv, vWearOf lv) sg pd ac dd hd le bd my lf pa kp) H := hP
              have hD : va_D A (wR cI cJ cZ aR0 aR1 aR2 aR3 aR4 aR5 aR6 aR7 aR8 aR9 aR10 aR11 aR12 aR13 aR14 aR15 aR16 aR17 aR18 aR19 aR20 aR21 (vCourtiers lv, xv, (vTears lv), vLeft lv, vRight lv, vScandals lv, vWearOf lv) sg pd ac dd hd le bd my lf pa kp) := hD
              refine lv_iload_n hx hb dX6_set_85 rfl (lv_at hl 0 rfl) ?_
              exact hret _ _ (vClock lv) (vCourtiers lv, xv, (vTears lv), vLeft lv, vRight lv, vScandals lv, vWearOf lv) _ _ hR hP hD hS dX6_set_86
            · have c_71 : (xw = (1 : Int32)) := c_71
              have hR := hR.trans (if_pos c_71)
              refine lv_iload_n hx hb dX6_set_74 rfl (lv_at hl 3 rfl) ?_
              refine lv_goto (tgt := 82) hx hb dX6_set_75 (by decide) ?_
              refine va_put (D := δ) (ci := 6) (v := .int xv) (ty := .int) (C := RX6) (T := TX6) (N := 34) hx hb hts hinX6 tyX6 tyX6_ok nmX6 hown hK hP hD hS 0 rfl rfl 2 (by decide) (hts (.fieldLink RX6 75 "GloveHoursModel" "tears" "I") (List.mem_of_getElem? (i := 4) rfl)) (fun _ h9 => h9) rfl (by decide +kernel) rfl rfl (Nat.le_of_ble_eq_true rfl) dX6_set_82 (fun H locs hP hD hS => ?_)
              have hP : va_P δ vwCl (wR cI cJ cZ aR0 aR1 aR2 aR3 aR4 aR5 aR6 aR7 aR8 aR9 aR10 aR11 aR12 aR13 aR14 aR15 aR16 aR17 aR18 aR19 aR20 aR21 (vCourtiers lv, xv, xv, vLeft lv, vRight lv, vScandals lv, vWearOf lv) sg pd ac dd hd le bd my lf pa kp) H := hP
              have hD : va_D A (wR cI cJ cZ aR0 aR1 aR2 aR3 aR4 aR5 aR6 aR7 aR8 aR9 aR10 aR11 aR12 aR13 aR14 aR15 aR16 aR17 aR18 aR19 aR20 aR21 (vCourtiers lv, xv, xv, vLeft lv, vRight lv, vScandals lv, vWearOf lv) sg pd ac dd hd le bd my lf pa kp) := hD
              refine lv_iload_n hx hb dX6_set_85 rfl (lv_at hl 0 rfl) ?_
              exact hret _ _ (vClock lv) (vCourtiers lv, xv, xv, vLeft lv, vRight lv, vScandals lv, vWearOf lv) _ _ hR hP hD hS dX6_set_86
      · have c_30 : (r_27 = 0) := c_30
        have hR := hR.trans (if_pos c_30)
        refine lv_bipush (v := (-2 : Int32)) hx hb dX6_set_33 (by decide) ?_
        exact hret _ _ (-2 : Int32) lv _ _ hR hP hD hS dX6_set_35
    · have c_15 : (xw = 0) := c_15
      have hR := hR.trans (if_pos c_15)
      refine lv_ldc2 (v := (23 : Int64)) hx hb hown (hts (.constantLong RX6 79 (23)) (List.mem_of_getElem? (i := 1) rfl)) dX6_set_18 ?_
      refine lv_goto (tgt := 27) hx hb dX6_set_21 (by decide) ?_
      have hr := mrS (p := p) (e := e) (R := rm_X6_set) (below := below) (meth := meth) (H := H) (locs := locs) (ls := ls) (As := [.long (xv.toInt64), .long (xw.toInt64), .long (23 : Int64)]) (rest := []) (c_X6_in l δ cI cJ cZ (xv.toInt64) (xw.toInt64) (23 : Int64)) hx hb hml hts hown hK hNW hP hD [] rfl rfl (va_cwS 3 hts gX6_set_X6_in rfl rfl rfl (by decide +kernel) ⟨(Nat.le_of_ble_eq_true rfl), (Nat.le_of_ble_eq_true rfl)⟩) rfl hl.1 rfl (Nat.le_of_ble_eq_true rfl) dX6_set_27
      refine mc_i (wr := (wR cI cJ cZ aR0 aR1 aR2 aR3 aR4 aR5 aR6 aR7 aR8 aR9 aR10 aR11 aR12 aR13 aR14 aR15 aR16 aR17 aR18 aR19 aR20 aR21 lv sg pd ac dd hd le bd my lf pa kp)) hr hP hD hS hA [] [0, 1, 2, 3, 4, 5, 6, 7, 8, 9, 10, 11, 12, 13, 14, 15, 16, 17, 18, 19, 20, 21] [0, 1, 2, 3, 4, 5, 6, 7, 8, 9, 10, 11, 12, 13, 14, 15, 16, 17, 18, 19, 20, 21] rfl rfl rfl rfl rfl (wn := fun _ => (wR cI cJ cZ aR0 aR1 aR2 aR3 aR4 aR5 aR6 aR7 aR8 aR9 aR10 aR11 aR12 aR13 aR14 aR15 aR16 aR17 aR18 aR19 aR20 aR21 lv sg pd ac dd hd le bd my lf pa kp)) (fun _ => rfl) (fun r_27 _ H locs hw_27 hP hD hS => ?_)
      obtain ⟨hw_27, z_27⟩ := hw_27
      have hP : va_P δ vwCl (wR cI cJ cZ aR0 aR1 aR2 aR3 aR4 aR5 aR6 aR7 aR8 aR9 aR10 aR11 aR12 aR13 aR14 aR15 aR16 aR17 aR18 aR19 aR20 aR21 lv sg pd ac dd hd le bd my lf pa kp) H := hP
      have hD : va_D A (wR cI cJ cZ aR0 aR1 aR2 aR3 aR4 aR5 aR6 aR7 aR8 aR9 aR10 aR11 aR12 aR13 aR14 aR15 aR16 aR17 aR18 aR19 aR20 aR21 lv sg pd ac dd hd le bd my lf pa kp) := hD
      have hR := bnd_eq hR hw_27.symm
      refine lv_if_ne (tgt := 36) hx hb dX6_set_30 (by decide) (fun c_30 => ?_) (fun c_30 => ?_)
      · have c_30 : ¬ (r_27 = 0) := c_30
        have hR := hR.trans (if_neg c_30)
        refine lv_iload_n hx hb dX6_set_36 rfl (lv_at hl 1 rfl) ?_
        refine lv_if_ne (tgt := 47) hx hb dX6_set_37 (by decide) (fun c_37 => ?_) (fun c_37 => ?_)
        · have c_37 : ¬ (xw = 0) := c_37
          have hR := hR.trans (if_neg c_37)
          refine lv_aload_n hx hb dX6_set_47 rfl (lv_at hl 0 rfl) ?_
          refine va_get (D := δ) (ci := 6) (v := .int (vTears lv)) (C := RX6) (T := TX6) (N := 34) hx hb hts hinX6 hown hK hP 0 rfl rfl 2 (by decide) (hts (.fieldLink RX6 75 "GloveHoursModel" "tears" "I") (List.mem_of_getElem? (i := 4) rfl)) (fun _ h9 => h9) rfl dX6_set_48 ?_
          refine lv_istore_n (lv' := [(3, .int (vTears lv)), (0, .ref aR0), (1, .int xw), (2, .int xv)]) hx hb dX6_set_51 rfl hl (by decide) rfl (fun ls hl => ?_)
          refine lv_aload_n hx hb dX6_set_52 rfl (lv_at hl 1 rfl) ?_
          refine lv_iload_n hx hb dX6_set_53 rfl (lv_at hl 2 rfl) ?_
          refine lv_if_ne (tgt := 61) hx hb dX6_set_54 (by decide) (fun c_54 => ?_) (fun c_54 => ?_)
          · have c_54 : ¬ (xw = 0) := c_54
            have hR := hR.trans (if_neg c_54)
            refine lv_aload_n hx hb dX6_set_61 rfl (lv_at hl 1 rfl) ?_
            refine va_get (D := δ) (ci := 6) (v := .int (vClock lv)) (C := RX6) (T := TX6) (N := 34) hx hb hts hinX6 hown hK hP 0 rfl rfl 1 (by decide) (hts (.fieldLink RX6 110 "GloveHoursModel" "clock" "I") (List.mem_of_getElem? (i := 3) rfl)) (fun _ h9 => h9) rfl dX6_set_62 ?_
            refine va_put (D := δ) (ci := 6) (v := .int (vClock lv)) (ty := .int) (C := RX6) (T := TX6) (N := 34) hx hb hts hinX6 tyX6 tyX6_ok nmX6 hown hK hP hD hS 0 rfl rfl 1 (by decide) (hts (.fieldLink RX6 110 "GloveHoursModel" "clock" "I") (List.mem_of_getElem? (i := 3) rfl)) (fun _ h9 => h9) rfl (by decide +kernel) rfl rfl (Nat.le_of_ble_eq_true rfl) dX6_set_65 (fun H locs hP hD hS => ?_)
            have hP : va_P δ vwCl (wR cI cJ cZ aR0 aR1 aR2 aR3 aR4 aR5 aR6 aR7 aR8 aR9 aR10 aR11 aR12 aR13 aR14 aR15 aR16 aR17 aR18 aR19 aR20 aR21 (vCourtiers lv, (vClock lv), vTears lv, vLeft lv, vRight lv, vScandals lv, vWearOf lv) sg pd ac dd hd le bd my lf pa kp) H := hP
            have hD : va_D A (wR cI cJ cZ aR0 aR1 aR2 aR3 aR4 aR5 aR6 aR7 aR8 aR9 aR10 aR11 aR12 aR13 aR14 aR15 aR16 aR17 aR18 aR19 aR20 aR21 (vCourtiers lv, (vClock lv), vTears lv, vLeft lv, vRight lv, vScandals lv, vWearOf lv) sg pd ac dd hd le bd my lf pa kp) := hD
            refine lv_aload_n hx hb dX6_set_68 rfl (lv_at hl 1 rfl) ?_
            refine lv_iload_n hx hb dX6_set_69 rfl (lv_at hl 2 rfl) ?_
            refine lv_iconst (v := (1 : Int32)) hx hb dX6_set_70 (by decide) ?_
            refine lv_icmp_ne (tgt := 78) hx hb dX6_set_71 (by decide) (fun c_71 => ?_) (fun c_71 => ?_)
            · have c_71 : ¬ (xw = (1 : Int32)) := c_71
              have hR := hR.trans (if_neg c_71)
              refine lv_aload_n hx hb dX6_set_78 rfl (lv_at hl 1 rfl) ?_
              refine va_get (D := δ) (ci := 6) (v := .int (vTears lv)) (C := RX6) (T := TX6) (N := 34) hx hb hts hinX6 hown hK hP 0 rfl rfl 2 (by decide) (hts (.fieldLink RX6 75 "GloveHoursModel" "tears" "I") (List.mem_of_getElem? (i := 4) rfl)) (fun _ h9 => h9) rfl dX6_set_79 ?_
              refine va_put (D := δ) (ci := 6) (v := .int (vTears lv)) (ty := .int) (C := RX6) (T := TX6) (N := 34) hx hb hts hinX6 tyX6 tyX6_ok nmX6 hown hK hP hD hS 0 rfl rfl 2 (by decide) (hts (.fieldLink RX6 75 "GloveHoursModel" "tears" "I") (List.mem_of_getElem? (i := 4) rfl)) (fun _ h9 => h9) rfl (by decide +kernel) rfl rfl (Nat.le_of_ble_eq_true rfl) dX6_set_82 (fun H locs hP hD hS => ?_)
              have hP : va_P δ vwCl (wR cI cJ cZ aR0 aR1 aR2 aR3 aR4 aR5 aR6 aR7 aR8 aR9 aR10 aR11 aR12 aR13 aR14 aR15 aR16 aR17 aR18 aR19 aR20 aR21 (vCourtiers lv, (vClock lv), (vTears lv), vLeft lv, vRight lv, vScandals lv, vWearOf lv) sg pd ac dd hd le bd my lf pa kp) H := hP
              have hD : va_D A (wR cI cJ cZ aR0 aR1 aR2 aR3 aR4 aR5 aR6 aR7 aR8 aR9 aR10 aR11 aR12 aR13 aR14 aR15 aR16 aR17 aR18 aR19 aR20 aR21 (vCourtiers lv, (vClock lv), (vTears lv), vLeft lv, vRight lv, vScandals lv, vWearOf lv) sg pd ac dd hd le bd my lf pa kp) := hD
              refine lv_iload_n hx hb dX6_set_85 rfl (lv_at hl 0 rfl) ?_
              exact hret _ _ (vTears lv) (vCourtiers lv, (vClock lv), (vTears lv), vLeft lv, vRight lv, vScandals lv, vWearOf lv) _ _ hR hP hD hS dX6_set_86
            · have c_71 : (xw = (1 : Int32)) := c_71
              have hR := hR.trans (if_pos c_71)
              refine lv_iload_n hx hb dX6_set_74 rfl (lv_at hl 3 rfl) ?_
              refine lv_goto (tgt := 82) hx hb dX6_set_75 (by decide) ?_
              refine va_put (D := δ) (ci := 6) (v := .int xv) (ty := .int) (C := RX6) (T := TX6) (N := 34) hx hb hts hinX6 tyX6 tyX6_ok nmX6 hown hK hP hD hS 0 rfl rfl 2 (by decide) (hts (.fieldLink RX6 75 "GloveHoursModel" "tears" "I") (List.mem_of_getElem? (i := 4) rfl)) (fun _ h9 => h9) rfl (by decide +kernel) rfl rfl (Nat.le_of_ble_eq_true rfl) dX6_set_82 (fun H locs hP hD hS => ?_)
              have hP : va_P δ vwCl (wR cI cJ cZ aR0 aR1 aR2 aR3 aR4 aR5 aR6 aR7 aR8 aR9 aR10 aR11 aR12 aR13 aR14 aR15 aR16 aR17 aR18 aR19 aR20 aR21 (vCourtiers lv, (vClock lv), xv, vLeft lv, vRight lv, vScandals lv, vWearOf lv) sg pd ac dd hd le bd my lf pa kp) H := hP
              have hD : va_D A (wR cI cJ cZ aR0 aR1 aR2 aR3 aR4 aR5 aR6 aR7 aR8 aR9 aR10 aR11 aR12 aR13 aR14 aR15 aR16 aR17 aR18 aR19 aR20 aR21 (vCourtiers lv, (vClock lv), xv, vLeft lv, vRight lv, vScandals lv, vWearOf lv) sg pd ac dd hd le bd my lf pa kp) := hD
              refine lv_iload_n hx hb dX6_set_85 rfl (lv_at hl 0 rfl) ?_
              exact hret _ _ (vTears lv) (vCourtiers lv, (vClock lv), xv, vLeft lv, vRight lv, vScandals lv, vWearOf lv) _ _ hR hP hD hS dX6_set_86
          · have c_54 : (xw = 0) := c_54
            have hR := hR.trans (if_pos c_54)
            refine lv_iload_n hx hb dX6_set_57 rfl (lv_at hl 3 rfl) ?_
            refine lv_goto (tgt := 65) hx hb dX6_set_58 (by decide) ?_
            refine va_put (D := δ) (ci := 6) (v := .int xv) (ty := .int) (C := RX6) (T := TX6) (N := 34) hx hb hts hinX6 tyX6 tyX6_ok nmX6 hown hK hP hD hS 0 rfl rfl 1 (by decide) (hts (.fieldLink RX6 110 "GloveHoursModel" "clock" "I") (List.mem_of_getElem? (i := 3) rfl)) (fun _ h9 => h9) rfl (by decide +kernel) rfl rfl (Nat.le_of_ble_eq_true rfl) dX6_set_65 (fun H locs hP hD hS => ?_)
            have hP : va_P δ vwCl (wR cI cJ cZ aR0 aR1 aR2 aR3 aR4 aR5 aR6 aR7 aR8 aR9 aR10 aR11 aR12 aR13 aR14 aR15 aR16 aR17 aR18 aR19 aR20 aR21 (vCourtiers lv, xv, vTears lv, vLeft lv, vRight lv, vScandals lv, vWearOf lv) sg pd ac dd hd le bd my lf pa kp) H := hP
            have hD : va_D A (wR cI cJ cZ aR0 aR1 aR2 aR3 aR4 aR5 aR6 aR7 aR8 aR9 aR10 aR11 aR12 aR13 aR14 aR15 aR16 aR17 aR18 aR19 aR20 aR21 (vCourtiers lv, xv, vTears lv, vLeft lv, vRight lv, vScandals lv, vWearOf lv) sg pd ac dd hd le bd my lf pa kp) := hD
            refine lv_aload_n hx hb dX6_set_68 rfl (lv_at hl 1 rfl) ?_
            refine lv_iload_n hx hb dX6_set_69 rfl (lv_at hl 2 rfl) ?_
            refine lv_iconst (v := (1 : Int32)) hx hb dX6_set_70 (by decide) ?_
            refine lv_icmp_ne (tgt := 78) hx hb dX6_set_71 (by decide) (fun c_71 => ?_) (fun c_71 => ?_)
            · have c_71 : ¬ (xw = (1 : Int32)) := c_71
              have hR := hR.trans (if_neg c_71)
              refine lv_aload_n hx hb dX6_set_78 rfl (lv_at hl 1 rfl) ?_
              refine va_get (D := δ) (ci := 6) (v := .int (vTears lv)) (C := RX6) (T := TX6) (N := 34) hx hb hts hinX6 hown hK hP 0 rfl rfl 2 (by decide) (hts (.fieldLink RX6 75 "GloveHoursModel" "tears" "I") (List.mem_of_getElem? (i := 4) rfl)) (fun _ h9 => h9) rfl dX6_set_79 ?_
              refine va_put (D := δ) (ci := 6) (v := .int (vTears lv)) (ty := .int) (C := RX6) (T := TX6) (N := 34) hx hb hts hinX6 tyX6 tyX6_ok nmX6 hown hK hP hD hS 0 rfl rfl 2 (by decide) (hts (.fieldLink RX6 75 "GloveHoursModel" "tears" "I") (List.mem_of_getElem? (i := 4) rfl)) (fun _ h9 => h9) rfl (by decide +kernel) rfl rfl (Nat.le_of_ble_eq_true rfl) dX6_set_82 (fun H locs hP hD hS => ?_)
              have hP : va_P δ vwCl (wR cI cJ cZ aR0 aR1 aR2 aR3 aR4 aR5 aR6 aR7 aR8 aR9 aR10 aR11 aR12 aR13 aR14 aR15 aR16 aR17 aR18 aR19 aR20 aR21 (vCourtiers lv, xv, (vTears lv), vLeft lv, vRight lv, vScandals lv, vWearOf lv) sg pd ac dd hd le bd my lf pa kp) H := hP
              have hD : va_D A (wR cI cJ cZ aR0 aR1 aR2 aR3 aR4 aR5 aR6 aR7 aR8 aR9 aR10 aR11 aR12 aR13 aR14 aR15 aR16 aR17 aR18 aR19 aR20 aR21 (vCourtiers lv, xv, (vTears lv), vLeft lv, vRight lv, vScandals lv, vWearOf lv) sg pd ac dd hd le bd my lf pa kp) := hD
              refine lv_iload_n hx hb dX6_set_85 rfl (lv_at hl 0 rfl) ?_
              exact hret _ _ (vTears lv) (vCourtiers lv, xv, (vTears lv), vLeft lv, vRight lv, vScandals lv, vWearOf lv) _ _ hR hP hD hS dX6_set_86
            · have c_71 : (xw = (1 : Int32)) := c_71
              have hR := hR.trans (if_pos c_71)
              refine lv_iload_n hx hb dX6_set_74 rfl (lv_at hl 3 rfl) ?_
              refine lv_goto (tgt := 82) hx hb dX6_set_75 (by decide) ?_
              refine va_put (D := δ) (ci := 6) (v := .int xv) (ty := .int) (C := RX6) (T := TX6) (N := 34) hx hb hts hinX6 tyX6 tyX6_ok nmX6 hown hK hP hD hS 0 rfl rfl 2 (by decide) (hts (.fieldLink RX6 75 "GloveHoursModel" "tears" "I") (List.mem_of_getElem? (i := 4) rfl)) (fun _ h9 => h9) rfl (by decide +kernel) rfl rfl (Nat.le_of_ble_eq_true rfl) dX6_set_82 (fun H locs hP hD hS => ?_)
              have hP : va_P δ vwCl (wR cI cJ cZ aR0 aR1 aR2 aR3 aR4 aR5 aR6 aR7 aR8 aR9 aR10 aR11 aR12 aR13 aR14 aR15 aR16 aR17 aR18 aR19 aR20 aR21 (vCourtiers lv, xv, xv, vLeft lv, vRight lv, vScandals lv, vWearOf lv) sg pd ac dd hd le bd my lf pa kp) H := hP
              have hD : va_D A (wR cI cJ cZ aR0 aR1 aR2 aR3 aR4 aR5 aR6 aR7 aR8 aR9 aR10 aR11 aR12 aR13 aR14 aR15 aR16 aR17 aR18 aR19 aR20 aR21 (vCourtiers lv, xv, xv, vLeft lv, vRight lv, vScandals lv, vWearOf lv) sg pd ac dd hd le bd my lf pa kp) := hD
              refine lv_iload_n hx hb dX6_set_85 rfl (lv_at hl 0 rfl) ?_
              exact hret _ _ (vTears lv) (vCourtiers lv, xv, xv, vLeft lv, vRight lv, vScandals lv, vWearOf lv) _ _ hR hP hD hS dX6_set_86
        · have c_37 : (xw = 0) := c_37
          have hR := hR.trans (if_pos c_37)
          refine lv_aload_n hx hb dX6_set_40 rfl (lv_at hl 0 rfl) ?_
          refine va_get (D := δ) (ci := 6) (v := .int (vClock lv)) (C := RX6) (T := TX6) (N := 34) hx hb hts hinX6 hown hK hP 0 rfl rfl 1 (by decide) (hts (.fieldLink RX6 110 "GloveHoursModel" "clock" "I") (List.mem_of_getElem? (i := 3) rfl)) (fun _ h9 => h9) rfl dX6_set_41 ?_
          refine lv_goto (tgt := 51) hx hb dX6_set_44 (by decide) ?_
          refine lv_istore_n (lv' := [(3, .int (vClock lv)), (0, .ref aR0), (1, .int xw), (2, .int xv)]) hx hb dX6_set_51 rfl hl (by decide) rfl (fun ls hl => ?_)
          refine lv_aload_n hx hb dX6_set_52 rfl (lv_at hl 1 rfl) ?_
          refine lv_iload_n hx hb dX6_set_53 rfl (lv_at hl 2 rfl) ?_
          refine lv_if_ne (tgt := 61) hx hb dX6_set_54 (by decide) (fun c_54 => ?_) (fun c_54 => ?_)
          · have c_54 : ¬ (xw = 0) := c_54
            have hR := hR.trans (if_neg c_54)
            refine lv_aload_n hx hb dX6_set_61 rfl (lv_at hl 1 rfl) ?_
            refine va_get (D := δ) (ci := 6) (v := .int (vClock lv)) (C := RX6) (T := TX6) (N := 34) hx hb hts hinX6 hown hK hP 0 rfl rfl 1 (by decide) (hts (.fieldLink RX6 110 "GloveHoursModel" "clock" "I") (List.mem_of_getElem? (i := 3) rfl)) (fun _ h9 => h9) rfl dX6_set_62 ?_
            refine va_put (D := δ) (ci := 6) (v := .int (vClock lv)) (ty := .int) (C := RX6) (T := TX6) (N := 34) hx hb hts hinX6 tyX6 tyX6_ok nmX6 hown hK hP hD hS 0 rfl rfl 1 (by decide) (hts (.fieldLink RX6 110 "GloveHoursModel" "clock" "I") (List.mem_of_getElem? (i := 3) rfl)) (fun _ h9 => h9) rfl (by decide +kernel) rfl rfl (Nat.le_of_ble_eq_true rfl) dX6_set_65 (fun H locs hP hD hS => ?_)
            have hP : va_P δ vwCl (wR cI cJ cZ aR0 aR1 aR2 aR3 aR4 aR5 aR6 aR7 aR8 aR9 aR10 aR11 aR12 aR13 aR14 aR15 aR16 aR17 aR18 aR19 aR20 aR21 (vCourtiers lv, (vClock lv), vTears lv, vLeft lv, vRight lv, vScandals lv, vWearOf lv) sg pd ac dd hd le bd my lf pa kp) H := hP
            have hD : va_D A (wR cI cJ cZ aR0 aR1 aR2 aR3 aR4 aR5 aR6 aR7 aR8 aR9 aR10 aR11 aR12 aR13 aR14 aR15 aR16 aR17 aR18 aR19 aR20 aR21 (vCourtiers lv, (vClock lv), vTears lv, vLeft lv, vRight lv, vScandals lv, vWearOf lv) sg pd ac dd hd le bd my lf pa kp) := hD
            refine lv_aload_n hx hb dX6_set_68 rfl (lv_at hl 1 rfl) ?_
            refine lv_iload_n hx hb dX6_set_69 rfl (lv_at hl 2 rfl) ?_
            refine lv_iconst (v := (1 : Int32)) hx hb dX6_set_70 (by decide) ?_
            refine lv_icmp_ne (tgt := 78) hx hb dX6_set_71 (by decide) (fun c_71 => ?_) (fun c_71 => ?_)
            · have c_71 : ¬ (xw = (1 : Int32)) := c_71
              have hR := hR.trans (if_neg c_71)
              refine lv_aload_n hx hb dX6_set_78 rfl (lv_at hl 1 rfl) ?_
              refine va_get (D := δ) (ci := 6) (v := .int (vTears lv)) (C := RX6) (T := TX6) (N := 34) hx hb hts hinX6 hown hK hP 0 rfl rfl 2 (by decide) (hts (.fieldLink RX6 75 "GloveHoursModel" "tears" "I") (List.mem_of_getElem? (i := 4) rfl)) (fun _ h9 => h9) rfl dX6_set_79 ?_
              refine va_put (D := δ) (ci := 6) (v := .int (vTears lv)) (ty := .int) (C := RX6) (T := TX6) (N := 34) hx hb hts hinX6 tyX6 tyX6_ok nmX6 hown hK hP hD hS 0 rfl rfl 2 (by decide) (hts (.fieldLink RX6 75 "GloveHoursModel" "tears" "I") (List.mem_of_getElem? (i := 4) rfl)) (fun _ h9 => h9) rfl (by decide +kernel) rfl rfl (Nat.le_of_ble_eq_true rfl) dX6_set_82 (fun H locs hP hD hS => ?_)
              have hP : va_P δ vwCl (wR cI cJ cZ aR0 aR1 aR2 aR3 aR4 aR5 aR6 aR7 aR8 aR9 aR10 aR11 aR12 aR13 aR14 aR15 aR16 aR17 aR18 aR19 aR20 aR21 (vCourtiers lv, (vClock lv), (vTears lv), vLeft lv, vRight lv, vScandals lv, vWearOf lv) sg pd ac dd hd le bd my lf pa kp) H := hP
              have hD : va_D A (wR cI cJ cZ aR0 aR1 aR2 aR3 aR4 aR5 aR6 aR7 aR8 aR9 aR10 aR11 aR12 aR13 aR14 aR15 aR16 aR17 aR18 aR19 aR20 aR21 (vCourtiers lv, (vClock lv), (vTears lv), vLeft lv, vRight lv, vScandals lv, vWearOf lv) sg pd ac dd hd le bd my lf pa kp) := hD
              refine lv_iload_n hx hb dX6_set_85 rfl (lv_at hl 0 rfl) ?_
              exact hret _ _ (vClock lv) (vCourtiers lv, (vClock lv), (vTears lv), vLeft lv, vRight lv, vScandals lv, vWearOf lv) _ _ hR hP hD hS dX6_set_86
            · have c_71 : (xw = (1 : Int32)) := c_71
              have hR := hR.trans (if_pos c_71)
              refine lv_iload_n hx hb dX6_set_74 rfl (lv_at hl 3 rfl) ?_
              refine lv_goto (tgt := 82) hx hb dX6_set_75 (by decide) ?_
              refine va_put (D := δ) (ci := 6) (v := .int xv) (ty := .int) (C := RX6) (T := TX6) (N := 34) hx hb hts hinX6 tyX6 tyX6_ok nmX6 hown hK hP hD hS 0 rfl rfl 2 (by decide) (hts (.fieldLink RX6 75 "GloveHoursModel" "tears" "I") (List.mem_of_getElem? (i := 4) rfl)) (fun _ h9 => h9) rfl (by decide +kernel) rfl rfl (Nat.le_of_ble_eq_true rfl) dX6_set_82 (fun H locs hP hD hS => ?_)
              have hP : va_P δ vwCl (wR cI cJ cZ aR0 aR1 aR2 aR3 aR4 aR5 aR6 aR7 aR8 aR9 aR10 aR11 aR12 aR13 aR14 aR15 aR16 aR17 aR18 aR19 aR20 aR21 (vCourtiers lv, (vClock lv), xv, vLeft lv, vRight lv, vScandals lv, vWearOf lv) sg pd ac dd hd le bd my lf pa kp) H := hP
              have hD : va_D A (wR cI cJ cZ aR0 aR1 aR2 aR3 aR4 aR5 aR6 aR7 aR8 aR9 aR10 aR11 aR12 aR13 aR14 aR15 aR16 aR17 aR18 aR19 aR20 aR21 (vCourtiers lv, (vClock lv), xv, vLeft lv, vRight lv, vScandals lv, vWearOf lv) sg pd ac dd hd le bd my lf pa kp) := hD
              refine lv_iload_n hx hb dX6_set_85 rfl (lv_at hl 0 rfl) ?_
              exact hret _ _ (vClock lv) (vCourtiers lv, (vClock lv), xv, vLeft lv, vRight lv, vScandals lv, vWearOf lv) _ _ hR hP hD hS dX6_set_86
          · have c_54 : (xw = 0) := c_54
            have hR := hR.trans (if_pos c_54)
            refine lv_iload_n hx hb dX6_set_57 rfl (lv_at hl 3 rfl) ?_
            refine lv_goto (tgt := 65) hx hb dX6_set_58 (by decide) ?_
            refine va_put (D := δ) (ci := 6) (v := .int xv) (ty := .int) (C := RX6) (T := TX6) (N := 34) hx hb hts hinX6 tyX6 tyX6_ok nmX6 hown hK hP hD hS 0 rfl rfl 1 (by decide) (hts (.fieldLink RX6 110 "GloveHoursModel" "clock" "I") (List.mem_of_getElem? (i := 3) rfl)) (fun _ h9 => h9) rfl (by decide +kernel) rfl rfl (Nat.le_of_ble_eq_true rfl) dX6_set_65 (fun H locs hP hD hS => ?_)
            have hP : va_P δ vwCl (wR cI cJ cZ aR0 aR1 aR2 aR3 aR4 aR5 aR6 aR7 aR8 aR9 aR10 aR11 aR12 aR13 aR14 aR15 aR16 aR17 aR18 aR19 aR20 aR21 (vCourtiers lv, xv, vTears lv, vLeft lv, vRight lv, vScandals lv, vWearOf lv) sg pd ac dd hd le bd my lf pa kp) H := hP
            have hD : va_D A (wR cI cJ cZ aR0 aR1 aR2 aR3 aR4 aR5 aR6 aR7 aR8 aR9 aR10 aR11 aR12 aR13 aR14 aR15 aR16 aR17 aR18 aR19 aR20 aR21 (vCourtiers lv, xv, vTears lv, vLeft lv, vRight lv, vScandals lv, vWearOf lv) sg pd ac dd hd le bd my lf pa kp) := hD
            refine lv_aload_n hx hb dX6_set_68 rfl (lv_at hl 1 rfl) ?_
            refine lv_iload_n hx hb dX6_set_69 rfl (lv_at hl 2 rfl) ?_
            refine lv_iconst (v := (1 : Int32)) hx hb dX6_set_70 (by decide) ?_
            refine lv_icmp_ne (tgt := 78) hx hb dX6_set_71 (by decide) (fun c_71 => ?_) (fun c_71 => ?_)
            · have c_71 : ¬ (xw = (1 : Int32)) := c_71
              have hR := hR.trans (if_neg c_71)
              refine lv_aload_n hx hb dX6_set_78 rfl (lv_at hl 1 rfl) ?_
              refine va_get (D := δ) (ci := 6) (v := .int (vTears lv)) (C := RX6) (T := TX6) (N := 34) hx hb hts hinX6 hown hK hP 0 rfl rfl 2 (by decide) (hts (.fieldLink RX6 75 "GloveHoursModel" "tears" "I") (List.mem_of_getElem? (i := 4) rfl)) (fun _ h9 => h9) rfl dX6_set_79 ?_
              refine va_put (D := δ) (ci := 6) (v := .int (vTears lv)) (ty := .int) (C := RX6) (T := TX6) (N := 34) hx hb hts hinX6 tyX6 tyX6_ok nmX6 hown hK hP hD hS 0 rfl rfl 2 (by decide) (hts (.fieldLink RX6 75 "GloveHoursModel" "tears" "I") (List.mem_of_getElem? (i := 4) rfl)) (fun _ h9 => h9) rfl (by decide +kernel) rfl rfl (Nat.le_of_ble_eq_true rfl) dX6_set_82 (fun H locs hP hD hS => ?_)
              have hP : va_P δ vwCl (wR cI cJ cZ aR0 aR1 aR2 aR3 aR4 aR5 aR6 aR7 aR8 aR9 aR10 aR11 aR12 aR13 aR14 aR15 aR16 aR17 aR18 aR19 aR20 aR21 (vCourtiers lv, xv, (vTears lv), vLeft lv, vRight lv, vScandals lv, vWearOf lv) sg pd ac dd hd le bd my lf pa kp) H := hP
              have hD : va_D A (wR cI cJ cZ aR0 aR1 aR2 aR3 aR4 aR5 aR6 aR7 aR8 aR9 aR10 aR11 aR12 aR13 aR14 aR15 aR16 aR17 aR18 aR19 aR20 aR21 (vCourtiers lv, xv, (vTears lv), vLeft lv, vRight lv, vScandals lv, vWearOf lv) sg pd ac dd hd le bd my lf pa kp) := hD
              refine lv_iload_n hx hb dX6_set_85 rfl (lv_at hl 0 rfl) ?_
              exact hret _ _ (vClock lv) (vCourtiers lv, xv, (vTears lv), vLeft lv, vRight lv, vScandals lv, vWearOf lv) _ _ hR hP hD hS dX6_set_86
            · have c_71 : (xw = (1 : Int32)) := c_71
              have hR := hR.trans (if_pos c_71)
              refine lv_iload_n hx hb dX6_set_74 rfl (lv_at hl 3 rfl) ?_
              refine lv_goto (tgt := 82) hx hb dX6_set_75 (by decide) ?_
              refine va_put (D := δ) (ci := 6) (v := .int xv) (ty := .int) (C := RX6) (T := TX6) (N := 34) hx hb hts hinX6 tyX6 tyX6_ok nmX6 hown hK hP hD hS 0 rfl rfl 2 (by decide) (hts (.fieldLink RX6 75 "GloveHoursModel" "tears" "I") (List.mem_of_getElem? (i := 4) rfl)) (fun _ h9 => h9) rfl (by decide +kernel) rfl rfl (Nat.le_of_ble_eq_true rfl) dX6_set_82 (fun H locs hP hD hS => ?_)
              have hP : va_P δ vwCl (wR cI cJ cZ aR0 aR1 aR2 aR3 aR4 aR5 aR6 aR7 aR8 aR9 aR10 aR11 aR12 aR13 aR14 aR15 aR16 aR17 aR18 aR19 aR20 aR21 (vCourtiers lv, xv, xv, vLeft lv, vRight lv, vScandals lv, vWearOf lv) sg pd ac dd hd le bd my lf pa kp) H := hP
              have hD : va_D A (wR cI cJ cZ aR0 aR1 aR2 aR3 aR4 aR5 aR6 aR7 aR8 aR9 aR10 aR11 aR12 aR13 aR14 aR15 aR16 aR17 aR18 aR19 aR20 aR21 (vCourtiers lv, xv, xv, vLeft lv, vRight lv, vScandals lv, vWearOf lv) sg pd ac dd hd le bd my lf pa kp) := hD
              refine lv_iload_n hx hb dX6_set_85 rfl (lv_at hl 0 rfl) ?_
              exact hret _ _ (vClock lv) (vCourtiers lv, xv, xv, vLeft lv, vRight lv, vScandals lv, vWearOf lv) _ _ hR hP hD hS dX6_set_86
      · have c_30 : (r_27 = 0) := c_30
        have hR := hR.trans (if_pos c_30)
        refine lv_bipush (v := (-2 : Int32)) hx hb dX6_set_33 (by decide) ?_
        exact hret _ _ (-2 : Int32) lv _ _ hR hP hD hS dX6_set_35

abbrev rm_X6_say : Room := { frames := 1, cells := 0, slots := 0, locals := 25 }
set_option maxHeartbeats 4000000 in
set_option maxRecDepth 100000 in
theorem c_X6_say (l : Launch) (δ : va_G) (cI cJ cZ : ClassId) (aR0 aR1 aR2 aR3 aR4 aR5 aR6 aR7 aR8 aR9 aR10 aR11 aR12 aR13 aR14 aR15 aR16 aR17 aR18 aR19 aR20 aR21 : Nat) (lv : LV) (sg : SG) (pd : PD) (ac : AC) (dd : DD) (hd : HD) (le : LE) (bd : BD) (my : MY) (lf : LF) (pa : PA) (kp : KP) (xs : Int32) (hq : vp_in (qPadMany pd) 61) : mMi l δ (mTy cI cJ cZ) yX6_say wsX6_say rm_X6_say [.ref aR0, .int xs] (wR cI cJ cZ aR0 aR1 aR2 aR3 aR4 aR5 aR6 aR7 aR8 aR9 aR10 aR11 aR12 aR13 aR14 aR15 aR16 aR17 aR18 aR19 aR20 aR21 lv sg pd ac dd hd le bd my lf pa kp) (S := PD) (fun r u => F_X6_say pd xs = (r, u)) (fun u => (wR cI cJ cZ aR0 aR1 aR2 aR3 aR4 aR5 aR6 aR7 aR8 aR9 aR10 aR11 aR12 aR13 aR14 aR15 aR16 aR17 aR18 aR19 aR20 aR21 lv sg u ac dd hd le bd my lf pa kp)) := by
  refine mk_i (cc := cX6_say) (maxL := 2) (by decide) rfl (Nat.le_of_ble_eq_true rfl) ?_
  intro p e s m args below meth c A Q ls H locs hx hb hml hts hown hK hNW hA hP hD hS hl hret
  have hown : s.vm.findClass RX6 = some m.cls := hown
  have hl : lv_has ls 2 [(0, .ref aR0), (1, .int xs)] := hl
  have hinX6 : ∀ w ∈ u_ws RX6 TX6 34, w ∈ wsX6_say := (fun _ h => List.mem_cons_of_mem _ (List.mem_append_right _ (h)))
  have hR := F_X6_say.eq_1 pd xs
  refine lv_iload_n hx hb dX6_say_0 rfl (lv_at hl 1 rfl) ?_
  refine lv_i2l (v := (xs.toInt64)) hx hb dX6_say_1 rfl ?_
  refine lv_ldc2 (v := (33 : Int64)) hx hb hown (hts (.constantLong RX6 113 (33)) (List.mem_of_getElem? (i := 1) rfl)) dX6_say_2 ?_
  refine lv_ldc2 (v := (126 : Int64)) hx hb hown (hts (.constantLong RX6 115 (126)) (List.mem_of_getElem? (i := 2) rfl)) dX6_say_5 ?_
  have hr := mrS (p := p) (e := e) (R := rm_X6_say) (below := below) (meth := meth) (H := H) (locs := locs) (ls := ls) (As := [.long (xs.toInt64), .long (33 : Int64), .long (126 : Int64)]) (rest := []) (c_X6_in l δ cI cJ cZ (xs.toInt64) (33 : Int64) (126 : Int64)) hx hb hml hts hown hK hNW hP hD [] rfl rfl (va_cwS 3 hts gX6_say_X6_in rfl rfl rfl (by decide +kernel) ⟨(Nat.le_of_ble_eq_true rfl), (Nat.le_of_ble_eq_true rfl)⟩) rfl hl.1 rfl (Nat.le_of_ble_eq_true rfl) dX6_say_8
  refine mc_i (wr := (wR cI cJ cZ aR0 aR1 aR2 aR3 aR4 aR5 aR6 aR7 aR8 aR9 aR10 aR11 aR12 aR13 aR14 aR15 aR16 aR17 aR18 aR19 aR20 aR21 lv sg pd ac dd hd le bd my lf pa kp)) hr hP hD hS hA [] [0, 1, 2, 3, 4, 5, 6, 7, 8, 9, 10, 11, 12, 13, 14, 15, 16, 17, 18, 19, 20, 21] [0, 1, 2, 3, 4, 5, 6, 7, 8, 9, 10, 11, 12, 13, 14, 15, 16, 17, 18, 19, 20, 21] rfl rfl rfl rfl rfl (wn := fun _ => (wR cI cJ cZ aR0 aR1 aR2 aR3 aR4 aR5 aR6 aR7 aR8 aR9 aR10 aR11 aR12 aR13 aR14 aR15 aR16 aR17 aR18 aR19 aR20 aR21 lv sg pd ac dd hd le bd my lf pa kp)) (fun _ => rfl) (fun r_8 _ H locs hw_8 hP hD hS => ?_)
  obtain ⟨hw_8, z_8⟩ := hw_8
  have hP : va_P δ vwCl (wR cI cJ cZ aR0 aR1 aR2 aR3 aR4 aR5 aR6 aR7 aR8 aR9 aR10 aR11 aR12 aR13 aR14 aR15 aR16 aR17 aR18 aR19 aR20 aR21 lv sg pd ac dd hd le bd my lf pa kp) H := hP
  have hD : va_D A (wR cI cJ cZ aR0 aR1 aR2 aR3 aR4 aR5 aR6 aR7 aR8 aR9 aR10 aR11 aR12 aR13 aR14 aR15 aR16 aR17 aR18 aR19 aR20 aR21 lv sg pd ac dd hd le bd my lf pa kp) := hD
  have hR := bnd_eq hR hw_8.symm
  refine lv_if_ne (tgt := 17) hx hb dX6_say_11 (by decide) (fun c_11 => ?_) (fun c_11 => ?_)
  · have c_11 : ¬ (r_8 = 0) := c_11
    have hR := hR.trans (if_neg c_11)
    refine lv_aload_n hx hb dX6_say_17 rfl (lv_at hl 0 rfl) ?_
    refine va_get (D := δ) (ci := 6) (v := .int (qPadMany pd)) (C := RX6) (T := TX6) (N := 34) hx hb hts hinX6 hown hK hP 0 rfl rfl 11 (by decide) (hts (.fieldLink RX6 117 "GloveHoursModel" "padMany" "I") (List.mem_of_getElem? (i := 3) rfl)) (fun _ h9 => h9) rfl dX6_say_18 ?_
    refine lv_bipush (v := (60 : Int32)) hx hb dX6_say_21 (by decide) ?_
    refine lv_icmp_ne (tgt := 29) hx hb dX6_say_23 (by decide) (fun c_23 => ?_) (fun c_23 => ?_)
    · have c_23 : ¬ ((qPadMany pd) = (60 : Int32)) := c_23
      have hR := hR.trans (if_neg c_23)
      refine lv_aload_n hx hb dX6_say_29 rfl (lv_at hl 0 rfl) ?_
      refine va_get (D := δ) (ci := 6) (v := .ref aR7) (C := RX6) (T := TX6) (N := 34) hx hb hts hinX6 hown hK hP 0 rfl rfl 10 (by decide) (hts (.fieldLink RX6 28 "GloveHoursModel" "pad" "[I") (List.mem_of_getElem? (i := 4) rfl)) (fun _ h9 => h9) rfl dX6_say_30 ?_
      refine lv_aload_n hx hb dX6_say_33 rfl (lv_at hl 0 rfl) ?_
      refine va_get (D := δ) (ci := 6) (v := .int (qPadMany pd)) (C := RX6) (T := TX6) (N := 34) hx hb hts hinX6 hown hK hP 0 rfl rfl 11 (by decide) (hts (.fieldLink RX6 117 "GloveHoursModel" "padMany" "I") (List.mem_of_getElem? (i := 3) rfl)) (fun _ h9 => h9) rfl dX6_say_34 ?_
      refine lv_iload_n hx hb dX6_say_37 rfl (lv_at hl 1 rfl) ?_
      refine va_iast hx hb hK hP hD hS 7 0 rfl rfl (in_less hq c_23 (by decide)) dX6_say_38 (fun H locs hP hD hS => ?_)
      have hP : va_P δ vwCl (wR cI cJ cZ aR0 aR1 aR2 aR3 aR4 aR5 aR6 aR7 aR8 aR9 aR10 aR11 aR12 aR13 aR14 aR15 aR16 aR17 aR18 aR19 aR20 aR21 lv sg (qPadMany pd, (upd (qPad pd) (qPadMany pd).toNatClampNeg xs)) ac dd hd le bd my lf pa kp) H := hP
      have hD : va_D A (wR cI cJ cZ aR0 aR1 aR2 aR3 aR4 aR5 aR6 aR7 aR8 aR9 aR10 aR11 aR12 aR13 aR14 aR15 aR16 aR17 aR18 aR19 aR20 aR21 lv sg (qPadMany pd, (upd (qPad pd) (qPadMany pd).toNatClampNeg xs)) ac dd hd le bd my lf pa kp) := hD
      refine lv_aload_n hx hb dX6_say_39 rfl (lv_at hl 0 rfl) ?_
      refine lv_dup hx hb dX6_say_40 rfl ?_
      refine va_get (D := δ) (ci := 6) (v := .int (qPadMany pd)) (C := RX6) (T := TX6) (N := 34) hx hb hts hinX6 hown hK hP 0 rfl rfl 11 (by decide) (hts (.fieldLink RX6 117 "GloveHoursModel" "padMany" "I") (List.mem_of_getElem? (i := 3) rfl)) (fun _ h9 => h9) rfl dX6_say_41 ?_
      refine lv_iconst (v := (1 : Int32)) hx hb dX6_say_44 (by decide) ?_
      refine lv_iadd hx hb dX6_say_45 ?_
      refine va_put (D := δ) (ci := 6) (v := .int ((qPadMany pd) + (1 : Int32))) (ty := .int) (C := RX6) (T := TX6) (N := 34) hx hb hts hinX6 tyX6 tyX6_ok nmX6 hown hK hP hD hS 0 rfl rfl 11 (by decide) (hts (.fieldLink RX6 117 "GloveHoursModel" "padMany" "I") (List.mem_of_getElem? (i := 3) rfl)) (fun _ h9 => h9) rfl (by decide +kernel) rfl rfl (Nat.le_of_ble_eq_true rfl) dX6_say_46 (fun H locs hP hD hS => ?_)
      have hP : va_P δ vwCl (wR cI cJ cZ aR0 aR1 aR2 aR3 aR4 aR5 aR6 aR7 aR8 aR9 aR10 aR11 aR12 aR13 aR14 aR15 aR16 aR17 aR18 aR19 aR20 aR21 lv sg (((qPadMany pd) + (1 : Int32)), (upd (qPad pd) (qPadMany pd).toNatClampNeg xs)) ac dd hd le bd my lf pa kp) H := hP
      have hD : va_D A (wR cI cJ cZ aR0 aR1 aR2 aR3 aR4 aR5 aR6 aR7 aR8 aR9 aR10 aR11 aR12 aR13 aR14 aR15 aR16 aR17 aR18 aR19 aR20 aR21 lv sg (((qPadMany pd) + (1 : Int32)), (upd (qPad pd) (qPadMany pd).toNatClampNeg xs)) ac dd hd le bd my lf pa kp) := hD
      refine lv_aload_n hx hb dX6_say_49 rfl (lv_at hl 0 rfl) ?_
      refine va_get (D := δ) (ci := 6) (v := .int ((qPadMany pd) + (1 : Int32))) (C := RX6) (T := TX6) (N := 34) hx hb hts hinX6 hown hK hP 0 rfl rfl 11 (by decide) (hts (.fieldLink RX6 117 "GloveHoursModel" "padMany" "I") (List.mem_of_getElem? (i := 3) rfl)) (fun _ h9 => h9) rfl dX6_say_50 ?_
      exact hret _ _ ((qPadMany pd) + (1 : Int32)) (((qPadMany pd) + (1 : Int32)), (upd (qPad pd) (qPadMany pd).toNatClampNeg xs)) _ _ hR hP hD hS dX6_say_53
    · have c_23 : ((qPadMany pd) = (60 : Int32)) := c_23
      have hR := hR.trans (if_pos c_23)
      refine lv_bipush (v := (-4 : Int32)) hx hb dX6_say_26 (by decide) ?_
      exact hret _ _ (-4 : Int32) pd _ _ hR hP hD hS dX6_say_28
  · have c_11 : (r_8 = 0) := c_11
    have hR := hR.trans (if_pos c_11)
    refine lv_bipush (v := (-2 : Int32)) hx hb dX6_say_14 (by decide) ?_
    exact hret _ _ (-2 : Int32) pd _ _ hR hP hD hS dX6_say_16

abbrev rm_X6_wipe : Room := { frames := 0, cells := 0, slots := 0, locals := 0 }
set_option maxHeartbeats 4000000 in
set_option maxRecDepth 100000 in
theorem c_X6_wipe (l : Launch) (δ : va_G) (cI cJ cZ : ClassId) (aR0 aR1 aR2 aR3 aR4 aR5 aR6 aR7 aR8 aR9 aR10 aR11 aR12 aR13 aR14 aR15 aR16 aR17 aR18 aR19 aR20 aR21 : Nat) (lv : LV) (sg : SG) (pd : PD) (ac : AC) (dd : DD) (hd : HD) (le : LE) (bd : BD) (my : MY) (lf : LF) (pa : PA) (kp : KP) : mMi l δ (mTy cI cJ cZ) yX6_wipe wsX6_wipe rm_X6_wipe [.ref aR0] (wR cI cJ cZ aR0 aR1 aR2 aR3 aR4 aR5 aR6 aR7 aR8 aR9 aR10 aR11 aR12 aR13 aR14 aR15 aR16 aR17 aR18 aR19 aR20 aR21 lv sg pd ac dd hd le bd my lf pa kp) (S := PD) (fun r u => F_X6_wipe pd = (r, u)) (fun u => (wR cI cJ cZ aR0 aR1 aR2 aR3 aR4 aR5 aR6 aR7 aR8 aR9 aR10 aR11 aR12 aR13 aR14 aR15 aR16 aR17 aR18 aR19 aR20 aR21 lv sg u ac dd hd le bd my lf pa kp)) := by
  refine mk_i (cc := cX6_wipe) (maxL := 2) (by decide) rfl (Nat.le_of_ble_eq_true rfl) ?_
  intro p e s m args below meth c A Q ls H locs hx hb hml hts hown hK hNW hA hP hD hS hl hret
  have hown : s.vm.findClass RX6 = some m.cls := hown
  have hl : lv_has ls 2 [(0, .ref aR0)] := hl
  have hinX6 : ∀ w ∈ u_ws RX6 TX6 34, w ∈ wsX6_wipe := (fun _ h => List.mem_cons_of_mem _ (List.mem_append_right _ (h)))
  have hR := F_X6_wipe.eq_1 pd
  refine lv_aload_n hx hb dX6_wipe_0 rfl (lv_at hl 0 rfl) ?_
  refine va_get (D := δ) (ci := 6) (v := .int (qPadMany pd)) (C := RX6) (T := TX6) (N := 34) hx hb hts hinX6 hown hK hP 0 rfl rfl 11 (by decide) (hts (.fieldLink RX6 117 "GloveHoursModel" "padMany" "I") (List.mem_of_getElem? (i := 1) rfl)) (fun _ h9 => h9) rfl dX6_wipe_1 ?_
  refine lv_istore_n (lv' := [(1, .int (qPadMany pd)), (0, .ref aR0)]) hx hb dX6_wipe_4 rfl hl (by decide) rfl (fun ls hl => ?_)
  refine lv_aload_n hx hb dX6_wipe_5 rfl (lv_at hl 1 rfl) ?_
  refine lv_iconst (v := (0 : Int32)) hx hb dX6_wipe_6 (by decide) ?_
  refine va_put (D := δ) (ci := 6) (v := .int (0 : Int32)) (ty := .int) (C := RX6) (T := TX6) (N := 34) hx hb hts hinX6 tyX6 tyX6_ok nmX6 hown hK hP hD hS 0 rfl rfl 11 (by decide) (hts (.fieldLink RX6 117 "GloveHoursModel" "padMany" "I") (List.mem_of_getElem? (i := 1) rfl)) (fun _ h9 => h9) rfl (by decide +kernel) rfl rfl (Nat.le_of_ble_eq_true rfl) dX6_wipe_7 (fun H locs hP hD hS => ?_)
  have hP : va_P δ vwCl (wR cI cJ cZ aR0 aR1 aR2 aR3 aR4 aR5 aR6 aR7 aR8 aR9 aR10 aR11 aR12 aR13 aR14 aR15 aR16 aR17 aR18 aR19 aR20 aR21 lv sg ((0 : Int32), qPad pd) ac dd hd le bd my lf pa kp) H := hP
  have hD : va_D A (wR cI cJ cZ aR0 aR1 aR2 aR3 aR4 aR5 aR6 aR7 aR8 aR9 aR10 aR11 aR12 aR13 aR14 aR15 aR16 aR17 aR18 aR19 aR20 aR21 lv sg ((0 : Int32), qPad pd) ac dd hd le bd my lf pa kp) := hD
  refine lv_iload_n hx hb dX6_wipe_10 rfl (lv_at hl 0 rfl) ?_
  exact hret _ _ (qPadMany pd) ((0 : Int32), qPad pd) _ _ hR hP hD hS dX6_wipe_11

abbrev rm_X6_isLetter : Room := { frames := 1, cells := 0, slots := 0, locals := 25 }
set_option maxHeartbeats 4000000 in
set_option maxRecDepth 100000 in
theorem c_X6_isLetter (l : Launch) (δ : va_G) (cI cJ cZ : ClassId) (xc : Int32) : mMi l δ (mTy cI cJ cZ) yX6_isLetter wsX6_isLetter rm_X6_isLetter [.int xc] ([] : va_W) (S := Unit) (fun r _ => F_X6_isLetter xc = r ∧ mZ r) (fun _ => ([] : va_W)) := by
  refine mk_z (post := fun r _ => F_X6_isLetter xc = r) (cc := cX6_isLetter) (maxL := 1) (by decide) rfl (Nat.le_of_ble_eq_true rfl) ?_
  intro p e s m args below meth c A Q ls H locs hx hb hml hts hown hK hNW hA hP hD hS hl hret
  have hown : s.vm.findClass RX6 = some m.cls := hown
  have hl : lv_has ls 1 [(0, .int xc)] := hl
  have hR := F_X6_isLetter.eq_1 xc
  refine lv_iload_n hx hb dX6_isLetter_0 rfl (lv_at hl 0 rfl) ?_
  refine lv_i2l (v := (xc.toInt64)) hx hb dX6_isLetter_1 rfl ?_
  refine lv_ldc2 (v := (65 : Int64)) hx hb hown (hts (.constantLong RX6 120 (65)) (List.mem_of_getElem? (i := 1) rfl)) dX6_isLetter_2 ?_
  refine lv_ldc2 (v := (70 : Int64)) hx hb hown (hts (.constantLong RX6 122 (70)) (List.mem_of_getElem? (i := 2) rfl)) dX6_isLetter_5 ?_
  have hr := mrS (p := p) (e := e) (R := rm_X6_isLetter) (below := below) (meth := meth) (H := H) (locs := locs) (ls := ls) (As := [.long (xc.toInt64), .long (65 : Int64), .long (70 : Int64)]) (rest := []) (c_X6_in l δ cI cJ cZ (xc.toInt64) (65 : Int64) (70 : Int64)) hx hb hml hts hown hK hNW hP hD [] rfl rfl (va_cwS 3 hts gX6_isLetter_X6_in rfl rfl rfl (by decide +kernel) ⟨(Nat.le_of_ble_eq_true rfl), (Nat.le_of_ble_eq_true rfl)⟩) rfl hl.1 rfl (Nat.le_of_ble_eq_true rfl) dX6_isLetter_8
  refine mc_i (wr := ([] : va_W)) hr hP hD hS hA [] [] [] rfl rfl rfl rfl rfl (wn := fun _ => ([] : va_W)) (fun _ => rfl) (fun r_8 _ H locs hw_8 hP hD hS => ?_)
  obtain ⟨hw_8, z_8⟩ := hw_8
  have hP : va_P δ vwCl ([] : va_W) H := hP
  have hD : va_D A ([] : va_W) := hD
  have hR := bnd_eq hR hw_8.symm
  exact hret _ _ r_8 () _ _ hR z_8 hP hD hS dX6_isLetter_11

abbrev rm_X6_close : Room := { frames := 0, cells := 0, slots := 0, locals := 0 }
set_option maxHeartbeats 4000000 in
set_option maxRecDepth 100000 in
theorem c_X6_close (l : Launch) (δ : va_G) (cI cJ cZ : ClassId) (aR0 aR1 aR2 aR3 aR4 aR5 aR6 aR7 aR8 aR9 aR10 aR11 aR12 aR13 aR14 aR15 aR16 aR17 aR18 aR19 aR20 aR21 : Nat) (lv : LV) (sg : SG) (pd : PD) (ac : AC) (dd : DD) (hd : HD) (le : LE) (bd : BD) (my : MY) (lf : LF) (pa : PA) (kp : KP) (xw : Int32) (ha : vp_in (aActs ac) 60) : mMi l δ (mTy cI cJ cZ) yX6_close wsX6_close rm_X6_close [.ref aR0, .int xw] (wR cI cJ cZ aR0 aR1 aR2 aR3 aR4 aR5 aR6 aR7 aR8 aR9 aR10 aR11 aR12 aR13 aR14 aR15 aR16 aR17 aR18 aR19 aR20 aR21 lv sg pd ac dd hd le bd my lf pa kp) (S := AC) (fun r u => F_X6_close ac xw = (r, u)) (fun u => (wR cI cJ cZ aR0 aR1 aR2 aR3 aR4 aR5 aR6 aR7 aR8 aR9 aR10 aR11 aR12 aR13 aR14 aR15 aR16 aR17 aR18 aR19 aR20 aR21 lv sg pd u dd hd le bd my lf pa kp)) := by
  refine mk_i (cc := cX6_close) (maxL := 2) (by decide) rfl (Nat.le_of_ble_eq_true rfl) ?_
  intro p e s m args below meth c A Q ls H locs hx hb hml hts hown hK hNW hA hP hD hS hl hret
  have hown : s.vm.findClass RX6 = some m.cls := hown
  have hl : lv_has ls 2 [(0, .ref aR0), (1, .int xw)] := hl
  have hinX6 : ∀ w ∈ u_ws RX6 TX6 34, w ∈ wsX6_close := (fun _ h => List.mem_cons_of_mem _ (List.mem_append_right _ (h)))
  have hR := F_X6_close.eq_1 ac xw
  refine lv_aload_n hx hb dX6_close_0 rfl (lv_at hl 0 rfl) ?_
  refine va_get (D := δ) (ci := 6) (v := .ref aR8) (C := RX6) (T := TX6) (N := 34) hx hb hts hinX6 hown hK hP 0 rfl rfl 12 (by decide) (hts (.fieldLink RX6 31 "GloveHoursModel" "act" "[I") (List.mem_of_getElem? (i := 1) rfl)) (fun _ h9 => h9) rfl dX6_close_1 ?_
  refine lv_aload_n hx hb dX6_close_4 rfl (lv_at hl 0 rfl) ?_
  refine va_get (D := δ) (ci := 6) (v := .int (aActs ac)) (C := RX6) (T := TX6) (N := 34) hx hb hts hinX6 hown hK hP 0 rfl rfl 16 (by decide) (hts (.fieldLink RX6 124 "GloveHoursModel" "acts" "I") (List.mem_of_getElem? (i := 2) rfl)) (fun _ h9 => h9) rfl dX6_close_5 ?_
  refine lv_iload_n hx hb dX6_close_8 rfl (lv_at hl 1 rfl) ?_
  refine va_iast hx hb hK hP hD hS 8 0 rfl rfl ha dX6_close_9 (fun H locs hP hD hS => ?_)
  have hP : va_P δ vwCl (wR cI cJ cZ aR0 aR1 aR2 aR3 aR4 aR5 aR6 aR7 aR8 aR9 aR10 aR11 aR12 aR13 aR14 aR15 aR16 aR17 aR18 aR19 aR20 aR21 lv sg pd (aActs ac, (upd (aAct ac) (aActs ac).toNatClampNeg xw), aWho ac, aHour ac, aWhom ac) dd hd le bd my lf pa kp) H := hP
  have hD : va_D A (wR cI cJ cZ aR0 aR1 aR2 aR3 aR4 aR5 aR6 aR7 aR8 aR9 aR10 aR11 aR12 aR13 aR14 aR15 aR16 aR17 aR18 aR19 aR20 aR21 lv sg pd (aActs ac, (upd (aAct ac) (aActs ac).toNatClampNeg xw), aWho ac, aHour ac, aWhom ac) dd hd le bd my lf pa kp) := hD
  refine lv_aload_n hx hb dX6_close_10 rfl (lv_at hl 0 rfl) ?_
  refine lv_dup hx hb dX6_close_11 rfl ?_
  refine va_get (D := δ) (ci := 6) (v := .int (aActs ac)) (C := RX6) (T := TX6) (N := 34) hx hb hts hinX6 hown hK hP 0 rfl rfl 16 (by decide) (hts (.fieldLink RX6 124 "GloveHoursModel" "acts" "I") (List.mem_of_getElem? (i := 2) rfl)) (fun _ h9 => h9) rfl dX6_close_12 ?_
  refine lv_iconst (v := (1 : Int32)) hx hb dX6_close_15 (by decide) ?_
  refine lv_iadd hx hb dX6_close_16 ?_
  refine va_put (D := δ) (ci := 6) (v := .int ((aActs ac) + (1 : Int32))) (ty := .int) (C := RX6) (T := TX6) (N := 34) hx hb hts hinX6 tyX6 tyX6_ok nmX6 hown hK hP hD hS 0 rfl rfl 16 (by decide) (hts (.fieldLink RX6 124 "GloveHoursModel" "acts" "I") (List.mem_of_getElem? (i := 2) rfl)) (fun _ h9 => h9) rfl (by decide +kernel) rfl rfl (Nat.le_of_ble_eq_true rfl) dX6_close_17 (fun H locs hP hD hS => ?_)
  have hP : va_P δ vwCl (wR cI cJ cZ aR0 aR1 aR2 aR3 aR4 aR5 aR6 aR7 aR8 aR9 aR10 aR11 aR12 aR13 aR14 aR15 aR16 aR17 aR18 aR19 aR20 aR21 lv sg pd (((aActs ac) + (1 : Int32)), (upd (aAct ac) (aActs ac).toNatClampNeg xw), aWho ac, aHour ac, aWhom ac) dd hd le bd my lf pa kp) H := hP
  have hD : va_D A (wR cI cJ cZ aR0 aR1 aR2 aR3 aR4 aR5 aR6 aR7 aR8 aR9 aR10 aR11 aR12 aR13 aR14 aR15 aR16 aR17 aR18 aR19 aR20 aR21 lv sg pd (((aActs ac) + (1 : Int32)), (upd (aAct ac) (aActs ac).toNatClampNeg xw), aWho ac, aHour ac, aWhom ac) dd hd le bd my lf pa kp) := hD
  refine lv_iconst (v := (0 : Int32)) hx hb dX6_close_20 (by decide) ?_
  exact hret _ _ (0 : Int32) (((aActs ac) + (1 : Int32)), (upd (aAct ac) (aActs ac).toNatClampNeg xw), aWho ac, aHour ac, aWhom ac) _ _ hR hP hD hS dX6_close_21

abbrev rm_X6_begin : Room := { frames := 2, cells := 0, slots := 0, locals := 45 }
set_option maxHeartbeats 4000000 in
set_option maxRecDepth 100000 in
theorem c_X6_begin (l : Launch) (δ : va_G) (cI cJ cZ : ClassId) (aR0 aR1 aR2 aR3 aR4 aR5 aR6 aR7 aR8 aR9 aR10 aR11 aR12 aR13 aR14 aR15 aR16 aR17 aR18 aR19 aR20 aR21 : Nat) (lv : LV) (sg : SG) (pd : PD) (ac : AC) (dd : DD) (hd : HD) (le : LE) (bd : BD) (my : MY) (lf : LF) (pa : PA) (kp : KP) (xc : Int32) (ha : vp_in (aActs ac) 60) : mMi l δ (mTy cI cJ cZ) yX6_begin wsX6_begin rm_X6_begin [.ref aR0, .int xc] (wR cI cJ cZ aR0 aR1 aR2 aR3 aR4 aR5 aR6 aR7 aR8 aR9 aR10 aR11 aR12 aR13 aR14 aR15 aR16 aR17 aR18 aR19 aR20 aR21 lv sg pd ac dd hd le bd my lf pa kp) (S := AC) (fun r u => F_X6_begin ac xc = (r, u)) (fun u => (wR cI cJ cZ aR0 aR1 aR2 aR3 aR4 aR5 aR6 aR7 aR8 aR9 aR10 aR11 aR12 aR13 aR14 aR15 aR16 aR17 aR18 aR19 aR20 aR21 lv sg pd u dd hd le bd my lf pa kp)) := by
  refine mk_i (cc := cX6_begin) (maxL := 2) (by decide) rfl (Nat.le_of_ble_eq_true rfl) ?_
  intro p e s m args below meth c A Q ls H locs hx hb hml hts hown hK hNW hA hP hD hS hl hret
  have hown : s.vm.findClass RX6 = some m.cls := hown
  have hl : lv_has ls 2 [(0, .ref aR0), (1, .int xc)] := hl
  have hinX6 : ∀ w ∈ u_ws RX6 TX6 34, w ∈ wsX6_begin := (fun _ h => List.mem_cons_of_mem _ (List.mem_append_right _ (h)))
  have hR := F_X6_begin.eq_1 ac xc
  refine lv_aload_n hx hb dX6_begin_0 rfl (lv_at hl 0 rfl) ?_
  refine va_get (D := δ) (ci := 6) (v := .ref aR9) (C := RX6) (T := TX6) (N := 34) hx hb hts hinX6 hown hK hP 0 rfl rfl 13 (by decide) (hts (.fieldLink RX6 34 "GloveHoursModel" "who" "[I") (List.mem_of_getElem? (i := 1) rfl)) (fun _ h9 => h9) rfl dX6_begin_1 ?_
  refine lv_aload_n hx hb dX6_begin_4 rfl (lv_at hl 0 rfl) ?_
  refine va_get (D := δ) (ci := 6) (v := .int (aActs ac)) (C := RX6) (T := TX6) (N := 34) hx hb hts hinX6 hown hK hP 0 rfl rfl 16 (by decide) (hts (.fieldLink RX6 124 "GloveHoursModel" "acts" "I") (List.mem_of_getElem? (i := 2) rfl)) (fun _ h9 => h9) rfl dX6_begin_5 ?_
  refine lv_iload_n hx hb dX6_begin_8 rfl (lv_at hl 1 rfl) ?_
  have hr := mrS (p := p) (e := e) (R := rm_X6_begin) (below := below) (meth := meth) (H := H) (locs := locs) (ls := ls) (As := [.int xc]) (rest := [.int (aActs ac), .ref aR9]) (c_X6_isLetter l δ cI cJ cZ xc) hx hb hml hts hown hK hNW hP hD [] rfl rfl (va_cwS 1 hts gX6_begin_X6_isLetter rfl rfl rfl (by decide +kernel) ⟨(Nat.le_of_ble_eq_true rfl), (Nat.le_of_ble_eq_true rfl)⟩) rfl hl.1 rfl (Nat.le_of_ble_eq_true rfl) dX6_begin_9
  refine mc_i (wr := (wR cI cJ cZ aR0 aR1 aR2 aR3 aR4 aR5 aR6 aR7 aR8 aR9 aR10 aR11 aR12 aR13 aR14 aR15 aR16 aR17 aR18 aR19 aR20 aR21 lv sg pd ac dd hd le bd my lf pa kp)) hr hP hD hS hA [] [0, 1, 2, 3, 4, 5, 6, 7, 8, 9, 10, 11, 12, 13, 14, 15, 16, 17, 18, 19, 20, 21] [0, 1, 2, 3, 4, 5, 6, 7, 8, 9, 10, 11, 12, 13, 14, 15, 16, 17, 18, 19, 20, 21] rfl rfl rfl rfl rfl (wn := fun _ => (wR cI cJ cZ aR0 aR1 aR2 aR3 aR4 aR5 aR6 aR7 aR8 aR9 aR10 aR11 aR12 aR13 aR14 aR15 aR16 aR17 aR18 aR19 aR20 aR21 lv sg pd ac dd hd le bd my lf pa kp)) (fun _ => rfl) (fun r_9 _ H locs hw_9 hP hD hS => ?_)
  obtain ⟨hw_9, z_9⟩ := hw_9
  have hP : va_P δ vwCl (wR cI cJ cZ aR0 aR1 aR2 aR3 aR4 aR5 aR6 aR7 aR8 aR9 aR10 aR11 aR12 aR13 aR14 aR15 aR16 aR17 aR18 aR19 aR20 aR21 lv sg pd ac dd hd le bd my lf pa kp) H := hP
  have hD : va_D A (wR cI cJ cZ aR0 aR1 aR2 aR3 aR4 aR5 aR6 aR7 aR8 aR9 aR10 aR11 aR12 aR13 aR14 aR15 aR16 aR17 aR18 aR19 aR20 aR21 lv sg pd ac dd hd le bd my lf pa kp) := hD
  have hR := bnd_eq hR hw_9.symm
  refine lv_if_eq (tgt := 22) hx hb dX6_begin_12 (by decide) (fun c_12 => ?_) (fun c_12 => ?_)
  · have c_12 : (r_9 = 0) := c_12
    have hR := hR.trans (if_pos c_12)
    refine lv_iconst (v := (0 : Int32)) hx hb dX6_begin_22 (by decide) ?_
    refine va_iast hx hb hK hP hD hS 9 0 rfl rfl ha dX6_begin_23 (fun H locs hP hD hS => ?_)
    have hP : va_P δ vwCl (wR cI cJ cZ aR0 aR1 aR2 aR3 aR4 aR5 aR6 aR7 aR8 aR9 aR10 aR11 aR12 aR13 aR14 aR15 aR16 aR17 aR18 aR19 aR20 aR21 lv sg pd (aActs ac, aAct ac, (upd (aWho ac) (aActs ac).toNatClampNeg (0 : Int32)), aHour ac, aWhom ac) dd hd le bd my lf pa kp) H := hP
    have hD : va_D A (wR cI cJ cZ aR0 aR1 aR2 aR3 aR4 aR5 aR6 aR7 aR8 aR9 aR10 aR11 aR12 aR13 aR14 aR15 aR16 aR17 aR18 aR19 aR20 aR21 lv sg pd (aActs ac, aAct ac, (upd (aWho ac) (aActs ac).toNatClampNeg (0 : Int32)), aHour ac, aWhom ac) dd hd le bd my lf pa kp) := hD
    refine lv_aload_n hx hb dX6_begin_24 rfl (lv_at hl 0 rfl) ?_
    refine va_get (D := δ) (ci := 6) (v := .ref aR10) (C := RX6) (T := TX6) (N := 34) hx hb hts hinX6 hown hK hP 0 rfl rfl 14 (by decide) (hts (.fieldLink RX6 37 "GloveHoursModel" "hour" "[I") (List.mem_of_getElem? (i := 3) rfl)) (fun _ h9 => h9) rfl dX6_begin_25 ?_
    refine lv_aload_n hx hb dX6_begin_28 rfl (lv_at hl 0 rfl) ?_
    refine va_get (D := δ) (ci := 6) (v := .int (aActs ac)) (C := RX6) (T := TX6) (N := 34) hx hb hts hinX6 hown hK hP 0 rfl rfl 16 (by decide) (hts (.fieldLink RX6 124 "GloveHoursModel" "acts" "I") (List.mem_of_getElem? (i := 2) rfl)) (fun _ h9 => h9) rfl dX6_begin_29 ?_
    refine lv_iconst (v := (0 : Int32)) hx hb dX6_begin_32 (by decide) ?_
    refine va_iast hx hb hK hP hD hS 10 0 rfl rfl ha dX6_begin_33 (fun H locs hP hD hS => ?_)
    have hP : va_P δ vwCl (wR cI cJ cZ aR0 aR1 aR2 aR3 aR4 aR5 aR6 aR7 aR8 aR9 aR10 aR11 aR12 aR13 aR14 aR15 aR16 aR17 aR18 aR19 aR20 aR21 lv sg pd (aActs ac, aAct ac, (upd (aWho ac) (aActs ac).toNatClampNeg (0 : Int32)), (upd (aHour ac) (aActs ac).toNatClampNeg (0 : Int32)), aWhom ac) dd hd le bd my lf pa kp) H := hP
    have hD : va_D A (wR cI cJ cZ aR0 aR1 aR2 aR3 aR4 aR5 aR6 aR7 aR8 aR9 aR10 aR11 aR12 aR13 aR14 aR15 aR16 aR17 aR18 aR19 aR20 aR21 lv sg pd (aActs ac, aAct ac, (upd (aWho ac) (aActs ac).toNatClampNeg (0 : Int32)), (upd (aHour ac) (aActs ac).toNatClampNeg (0 : Int32)), aWhom ac) dd hd le bd my lf pa kp) := hD
    refine lv_aload_n hx hb dX6_begin_34 rfl (lv_at hl 0 rfl) ?_
    refine va_get (D := δ) (ci := 6) (v := .ref aR11) (C := RX6) (T := TX6) (N := 34) hx hb hts hinX6 hown hK hP 0 rfl rfl 15 (by decide) (hts (.fieldLink RX6 40 "GloveHoursModel" "whom" "[I") (List.mem_of_getElem? (i := 4) rfl)) (fun _ h9 => h9) rfl dX6_begin_35 ?_
    refine lv_aload_n hx hb dX6_begin_38 rfl (lv_at hl 0 rfl) ?_
    refine va_get (D := δ) (ci := 6) (v := .int (aActs ac)) (C := RX6) (T := TX6) (N := 34) hx hb hts hinX6 hown hK hP 0 rfl rfl 16 (by decide) (hts (.fieldLink RX6 124 "GloveHoursModel" "acts" "I") (List.mem_of_getElem? (i := 2) rfl)) (fun _ h9 => h9) rfl dX6_begin_39 ?_
    refine lv_iconst (v := (0 : Int32)) hx hb dX6_begin_42 (by decide) ?_
    refine va_iast hx hb hK hP hD hS 11 0 rfl rfl ha dX6_begin_43 (fun H locs hP hD hS => ?_)
    have hP : va_P δ vwCl (wR cI cJ cZ aR0 aR1 aR2 aR3 aR4 aR5 aR6 aR7 aR8 aR9 aR10 aR11 aR12 aR13 aR14 aR15 aR16 aR17 aR18 aR19 aR20 aR21 lv sg pd (aActs ac, aAct ac, (upd (aWho ac) (aActs ac).toNatClampNeg (0 : Int32)), (upd (aHour ac) (aActs ac).toNatClampNeg (0 : Int32)), (upd (aWhom ac) (aActs ac).toNatClampNeg (0 : Int32))) dd hd le bd my lf pa kp) H := hP
    have hD : va_D A (wR cI cJ cZ aR0 aR1 aR2 aR3 aR4 aR5 aR6 aR7 aR8 aR9 aR10 aR11 aR12 aR13 aR14 aR15 aR16 aR17 aR18 aR19 aR20 aR21 lv sg pd (aActs ac, aAct ac, (upd (aWho ac) (aActs ac).toNatClampNeg (0 : Int32)), (upd (aHour ac) (aActs ac).toNatClampNeg (0 : Int32)), (upd (aWhom ac) (aActs ac).toNatClampNeg (0 : Int32))) dd hd le bd my lf pa kp) := hD
    refine lv_iload_n hx hb dX6_begin_44 rfl (lv_at hl 1 rfl) ?_
    have hr := mrS (p := p) (e := e) (R := rm_X6_begin) (below := below) (meth := meth) (H := H) (locs := locs) (ls := ls) (As := [.int xc]) (rest := []) (c_X6_isLetter l δ cI cJ cZ xc) hx hb hml hts hown hK hNW hP hD [] rfl rfl (va_cwS 1 hts gX6_begin_X6_isLetter rfl rfl rfl (by decide +kernel) ⟨(Nat.le_of_ble_eq_true rfl), (Nat.le_of_ble_eq_true rfl)⟩) rfl hl.1 rfl (Nat.le_of_ble_eq_true rfl) dX6_begin_45
    refine mc_i (wr := (wR cI cJ cZ aR0 aR1 aR2 aR3 aR4 aR5 aR6 aR7 aR8 aR9 aR10 aR11 aR12 aR13 aR14 aR15 aR16 aR17 aR18 aR19 aR20 aR21 lv sg pd (aActs ac, aAct ac, (upd (aWho ac) (aActs ac).toNatClampNeg (0 : Int32)), (upd (aHour ac) (aActs ac).toNatClampNeg (0 : Int32)), (upd (aWhom ac) (aActs ac).toNatClampNeg (0 : Int32))) dd hd le bd my lf pa kp)) hr hP hD hS hA [] [0, 1, 2, 3, 4, 5, 6, 7, 8, 9, 10, 11, 12, 13, 14, 15, 16, 17, 18, 19, 20, 21] [0, 1, 2, 3, 4, 5, 6, 7, 8, 9, 10, 11, 12, 13, 14, 15, 16, 17, 18, 19, 20, 21] rfl rfl rfl rfl rfl (wn := fun _ => (wR cI cJ cZ aR0 aR1 aR2 aR3 aR4 aR5 aR6 aR7 aR8 aR9 aR10 aR11 aR12 aR13 aR14 aR15 aR16 aR17 aR18 aR19 aR20 aR21 lv sg pd (aActs ac, aAct ac, (upd (aWho ac) (aActs ac).toNatClampNeg (0 : Int32)), (upd (aHour ac) (aActs ac).toNatClampNeg (0 : Int32)), (upd (aWhom ac) (aActs ac).toNatClampNeg (0 : Int32))) dd hd le bd my lf pa kp)) (fun _ => rfl) (fun r_45 _ H locs hw_45 hP hD hS => ?_)
    obtain ⟨hw_45, z_45⟩ := hw_45
    have hP : va_P δ vwCl (wR cI cJ cZ aR0 aR1 aR2 aR3 aR4 aR5 aR6 aR7 aR8 aR9 aR10 aR11 aR12 aR13 aR14 aR15 aR16 aR17 aR18 aR19 aR20 aR21 lv sg pd (aActs ac, aAct ac, (upd (aWho ac) (aActs ac).toNatClampNeg (0 : Int32)), (upd (aHour ac) (aActs ac).toNatClampNeg (0 : Int32)), (upd (aWhom ac) (aActs ac).toNatClampNeg (0 : Int32))) dd hd le bd my lf pa kp) H := hP
    have hD : va_D A (wR cI cJ cZ aR0 aR1 aR2 aR3 aR4 aR5 aR6 aR7 aR8 aR9 aR10 aR11 aR12 aR13 aR14 aR15 aR16 aR17 aR18 aR19 aR20 aR21 lv sg pd (aActs ac, aAct ac, (upd (aWho ac) (aActs ac).toNatClampNeg (0 : Int32)), (upd (aHour ac) (aActs ac).toNatClampNeg (0 : Int32)), (upd (aWhom ac) (aActs ac).toNatClampNeg (0 : Int32))) dd hd le bd my lf pa kp) := hD
    have hR := bnd_eq hR hw_45.symm
    refine lv_if_eq (tgt := 55) hx hb dX6_begin_48 (by decide) (fun c_48 => ?_) (fun c_48 => ?_)
    · have c_48 : (r_45 = 0) := c_48
      have hR := hR.trans (if_pos c_48)
      refine lv_iload_n hx hb dX6_begin_55 rfl (lv_at hl 1 rfl) ?_
      refine lv_bipush (v := (46 : Int32)) hx hb dX6_begin_56 (by decide) ?_
      refine lv_icmp_ne (tgt := 70) hx hb dX6_begin_58 (by decide) (fun c_58 => ?_) (fun c_58 => ?_)
      · have c_58 : ¬ (xc = (46 : Int32)) := c_58
        have hR := hR.trans (if_neg c_58)
        refine lv_bipush (v := (-6 : Int32)) hx hb dX6_begin_70 (by decide) ?_
        exact hret _ _ (-6 : Int32) (aActs ac, aAct ac, (upd (aWho ac) (aActs ac).toNatClampNeg (0 : Int32)), (upd (aHour ac) (aActs ac).toNatClampNeg (0 : Int32)), (upd (aWhom ac) (aActs ac).toNatClampNeg (0 : Int32))) _ _ hR hP hD hS dX6_begin_72
      · have c_58 : (xc = (46 : Int32)) := c_58
        have hR := hR.trans (if_pos c_58)
        refine lv_aload_n hx hb dX6_begin_61 rfl (lv_at hl 0 rfl) ?_
        refine lv_bipush (v := (6 : Int32)) hx hb dX6_begin_62 (by decide) ?_
        have hr := mrV (p := p) (e := e) (R := rm_X6_begin) (below := below) (meth := meth) (H := H) (locs := locs) (ls := ls) (As := [.int (6 : Int32)]) (rest := []) (c_X6_close l δ cI cJ cZ aR0 aR1 aR2 aR3 aR4 aR5 aR6 aR7 aR8 aR9 aR10 aR11 aR12 aR13 aR14 aR15 aR16 aR17 aR18 aR19 aR20 aR21 lv sg pd (aActs ac, aAct ac, (upd (aWho ac) (aActs ac).toNatClampNeg (0 : Int32)), (upd (aHour ac) (aActs ac).toNatClampNeg (0 : Int32)), (upd (aWhom ac) (aActs ac).toNatClampNeg (0 : Int32))) dd hd le bd my lf pa kp (6 : Int32) ha) hx hb hml hts hown hK hNW hP hD [0, 1, 2, 3, 4, 5, 6, 7, 8, 9, 10, 11, 12, 13, 14, 15, 16, 17, 18, 19, 20, 21] rfl rfl 6 0 rfl rfl (cwV 1 hts gX6_begin_X6_close rfl rfl rfl (by decide +kernel) ⟨(Nat.le_of_ble_eq_true rfl), (Nat.le_of_ble_eq_true rfl)⟩) rfl hl.1 rfl (Nat.le_of_ble_eq_true rfl) dX6_begin_64
        refine mc_i (wr := ([] : va_W)) hr hP hD hS hA [0, 1, 2, 3, 4, 5, 6, 7, 8, 9, 10, 11, 12, 13, 14, 15, 16, 17, 18, 19, 20, 21] [] [0, 1, 2, 3, 4, 5, 6, 7, 8, 9, 10, 11, 12, 13, 14, 15, 16, 17, 18, 19, 20, 21] rfl rfl rfl rfl rfl (wn := fun u_64 => (wR cI cJ cZ aR0 aR1 aR2 aR3 aR4 aR5 aR6 aR7 aR8 aR9 aR10 aR11 aR12 aR13 aR14 aR15 aR16 aR17 aR18 aR19 aR20 aR21 lv sg pd u_64 dd hd le bd my lf pa kp)) (fun _ => rfl) (fun r_64 u_64 H locs hw_64 hP hD hS => ?_)
        have hP : va_P δ vwCl (wR cI cJ cZ aR0 aR1 aR2 aR3 aR4 aR5 aR6 aR7 aR8 aR9 aR10 aR11 aR12 aR13 aR14 aR15 aR16 aR17 aR18 aR19 aR20 aR21 lv sg pd u_64 dd hd le bd my lf pa kp) H := hP
        have hD : va_D A (wR cI cJ cZ aR0 aR1 aR2 aR3 aR4 aR5 aR6 aR7 aR8 aR9 aR10 aR11 aR12 aR13 aR14 aR15 aR16 aR17 aR18 aR19 aR20 aR21 lv sg pd u_64 dd hd le bd my lf pa kp) := hD
        have hR := bnd_eq hR hw_64.symm
        refine lv_goto (tgt := 72) hx hb dX6_begin_67 (by decide) ?_
        exact hret _ _ r_64 u_64 _ _ hR hP hD hS dX6_begin_72
    · have c_48 : ¬ (r_45 = 0) := c_48
      have hR := hR.trans (if_neg c_48)
      refine lv_iconst (v := (1 : Int32)) hx hb dX6_begin_51 (by decide) ?_
      refine lv_goto (tgt := 72) hx hb dX6_begin_52 (by decide) ?_
      exact hret _ _ (1 : Int32) (aActs ac, aAct ac, (upd (aWho ac) (aActs ac).toNatClampNeg (0 : Int32)), (upd (aHour ac) (aActs ac).toNatClampNeg (0 : Int32)), (upd (aWhom ac) (aActs ac).toNatClampNeg (0 : Int32))) _ _ hR hP hD hS dX6_begin_72
  · have c_12 : ¬ (r_9 = 0) := c_12
    have hR := hR.trans (if_neg c_12)
    refine lv_iload_n hx hb dX6_begin_15 rfl (lv_at hl 1 rfl) ?_
    refine lv_bipush (v := (65 : Int32)) hx hb dX6_begin_16 (by decide) ?_
    refine lv_isub hx hb dX6_begin_18 ?_
    refine lv_goto (tgt := 23) hx hb dX6_begin_19 (by decide) ?_
    refine va_iast hx hb hK hP hD hS 9 0 rfl rfl ha dX6_begin_23 (fun H locs hP hD hS => ?_)
    have hP : va_P δ vwCl (wR cI cJ cZ aR0 aR1 aR2 aR3 aR4 aR5 aR6 aR7 aR8 aR9 aR10 aR11 aR12 aR13 aR14 aR15 aR16 aR17 aR18 aR19 aR20 aR21 lv sg pd (aActs ac, aAct ac, (upd (aWho ac) (aActs ac).toNatClampNeg (xc - (65 : Int32))), aHour ac, aWhom ac) dd hd le bd my lf pa kp) H := hP
    have hD : va_D A (wR cI cJ cZ aR0 aR1 aR2 aR3 aR4 aR5 aR6 aR7 aR8 aR9 aR10 aR11 aR12 aR13 aR14 aR15 aR16 aR17 aR18 aR19 aR20 aR21 lv sg pd (aActs ac, aAct ac, (upd (aWho ac) (aActs ac).toNatClampNeg (xc - (65 : Int32))), aHour ac, aWhom ac) dd hd le bd my lf pa kp) := hD
    refine lv_aload_n hx hb dX6_begin_24 rfl (lv_at hl 0 rfl) ?_
    refine va_get (D := δ) (ci := 6) (v := .ref aR10) (C := RX6) (T := TX6) (N := 34) hx hb hts hinX6 hown hK hP 0 rfl rfl 14 (by decide) (hts (.fieldLink RX6 37 "GloveHoursModel" "hour" "[I") (List.mem_of_getElem? (i := 3) rfl)) (fun _ h9 => h9) rfl dX6_begin_25 ?_
    refine lv_aload_n hx hb dX6_begin_28 rfl (lv_at hl 0 rfl) ?_
    refine va_get (D := δ) (ci := 6) (v := .int (aActs ac)) (C := RX6) (T := TX6) (N := 34) hx hb hts hinX6 hown hK hP 0 rfl rfl 16 (by decide) (hts (.fieldLink RX6 124 "GloveHoursModel" "acts" "I") (List.mem_of_getElem? (i := 2) rfl)) (fun _ h9 => h9) rfl dX6_begin_29 ?_
    refine lv_iconst (v := (0 : Int32)) hx hb dX6_begin_32 (by decide) ?_
    refine va_iast hx hb hK hP hD hS 10 0 rfl rfl ha dX6_begin_33 (fun H locs hP hD hS => ?_)
    have hP : va_P δ vwCl (wR cI cJ cZ aR0 aR1 aR2 aR3 aR4 aR5 aR6 aR7 aR8 aR9 aR10 aR11 aR12 aR13 aR14 aR15 aR16 aR17 aR18 aR19 aR20 aR21 lv sg pd (aActs ac, aAct ac, (upd (aWho ac) (aActs ac).toNatClampNeg (xc - (65 : Int32))), (upd (aHour ac) (aActs ac).toNatClampNeg (0 : Int32)), aWhom ac) dd hd le bd my lf pa kp) H := hP
    have hD : va_D A (wR cI cJ cZ aR0 aR1 aR2 aR3 aR4 aR5 aR6 aR7 aR8 aR9 aR10 aR11 aR12 aR13 aR14 aR15 aR16 aR17 aR18 aR19 aR20 aR21 lv sg pd (aActs ac, aAct ac, (upd (aWho ac) (aActs ac).toNatClampNeg (xc - (65 : Int32))), (upd (aHour ac) (aActs ac).toNatClampNeg (0 : Int32)), aWhom ac) dd hd le bd my lf pa kp) := hD
    refine lv_aload_n hx hb dX6_begin_34 rfl (lv_at hl 0 rfl) ?_
    refine va_get (D := δ) (ci := 6) (v := .ref aR11) (C := RX6) (T := TX6) (N := 34) hx hb hts hinX6 hown hK hP 0 rfl rfl 15 (by decide) (hts (.fieldLink RX6 40 "GloveHoursModel" "whom" "[I") (List.mem_of_getElem? (i := 4) rfl)) (fun _ h9 => h9) rfl dX6_begin_35 ?_
    refine lv_aload_n hx hb dX6_begin_38 rfl (lv_at hl 0 rfl) ?_
    refine va_get (D := δ) (ci := 6) (v := .int (aActs ac)) (C := RX6) (T := TX6) (N := 34) hx hb hts hinX6 hown hK hP 0 rfl rfl 16 (by decide) (hts (.fieldLink RX6 124 "GloveHoursModel" "acts" "I") (List.mem_of_getElem? (i := 2) rfl)) (fun _ h9 => h9) rfl dX6_begin_39 ?_
    refine lv_iconst (v := (0 : Int32)) hx hb dX6_begin_42 (by decide) ?_
    refine va_iast hx hb hK hP hD hS 11 0 rfl rfl ha dX6_begin_43 (fun H locs hP hD hS => ?_)
    have hP : va_P δ vwCl (wR cI cJ cZ aR0 aR1 aR2 aR3 aR4 aR5 aR6 aR7 aR8 aR9 aR10 aR11 aR12 aR13 aR14 aR15 aR16 aR17 aR18 aR19 aR20 aR21 lv sg pd (aActs ac, aAct ac, (upd (aWho ac) (aActs ac).toNatClampNeg (xc - (65 : Int32))), (upd (aHour ac) (aActs ac).toNatClampNeg (0 : Int32)), (upd (aWhom ac) (aActs ac).toNatClampNeg (0 : Int32))) dd hd le bd my lf pa kp) H := hP
    have hD : va_D A (wR cI cJ cZ aR0 aR1 aR2 aR3 aR4 aR5 aR6 aR7 aR8 aR9 aR10 aR11 aR12 aR13 aR14 aR15 aR16 aR17 aR18 aR19 aR20 aR21 lv sg pd (aActs ac, aAct ac, (upd (aWho ac) (aActs ac).toNatClampNeg (xc - (65 : Int32))), (upd (aHour ac) (aActs ac).toNatClampNeg (0 : Int32)), (upd (aWhom ac) (aActs ac).toNatClampNeg (0 : Int32))) dd hd le bd my lf pa kp) := hD
    refine lv_iload_n hx hb dX6_begin_44 rfl (lv_at hl 1 rfl) ?_
    have hr := mrS (p := p) (e := e) (R := rm_X6_begin) (below := below) (meth := meth) (H := H) (locs := locs) (ls := ls) (As := [.int xc]) (rest := []) (c_X6_isLetter l δ cI cJ cZ xc) hx hb hml hts hown hK hNW hP hD [] rfl rfl (va_cwS 1 hts gX6_begin_X6_isLetter rfl rfl rfl (by decide +kernel) ⟨(Nat.le_of_ble_eq_true rfl), (Nat.le_of_ble_eq_true rfl)⟩) rfl hl.1 rfl (Nat.le_of_ble_eq_true rfl) dX6_begin_45
    refine mc_i (wr := (wR cI cJ cZ aR0 aR1 aR2 aR3 aR4 aR5 aR6 aR7 aR8 aR9 aR10 aR11 aR12 aR13 aR14 aR15 aR16 aR17 aR18 aR19 aR20 aR21 lv sg pd (aActs ac, aAct ac, (upd (aWho ac) (aActs ac).toNatClampNeg (xc - (65 : Int32))), (upd (aHour ac) (aActs ac).toNatClampNeg (0 : Int32)), (upd (aWhom ac) (aActs ac).toNatClampNeg (0 : Int32))) dd hd le bd my lf pa kp)) hr hP hD hS hA [] [0, 1, 2, 3, 4, 5, 6, 7, 8, 9, 10, 11, 12, 13, 14, 15, 16, 17, 18, 19, 20, 21] [0, 1, 2, 3, 4, 5, 6, 7, 8, 9, 10, 11, 12, 13, 14, 15, 16, 17, 18, 19, 20, 21] rfl rfl rfl rfl rfl (wn := fun _ => (wR cI cJ cZ aR0 aR1 aR2 aR3 aR4 aR5 aR6 aR7 aR8 aR9 aR10 aR11 aR12 aR13 aR14 aR15 aR16 aR17 aR18 aR19 aR20 aR21 lv sg pd (aActs ac, aAct ac, (upd (aWho ac) (aActs ac).toNatClampNeg (xc - (65 : Int32))), (upd (aHour ac) (aActs ac).toNatClampNeg (0 : Int32)), (upd (aWhom ac) (aActs ac).toNatClampNeg (0 : Int32))) dd hd le bd my lf pa kp)) (fun _ => rfl) (fun r_45 _ H locs hw_45 hP hD hS => ?_)
    obtain ⟨hw_45, z_45⟩ := hw_45
    have hP : va_P δ vwCl (wR cI cJ cZ aR0 aR1 aR2 aR3 aR4 aR5 aR6 aR7 aR8 aR9 aR10 aR11 aR12 aR13 aR14 aR15 aR16 aR17 aR18 aR19 aR20 aR21 lv sg pd (aActs ac, aAct ac, (upd (aWho ac) (aActs ac).toNatClampNeg (xc - (65 : Int32))), (upd (aHour ac) (aActs ac).toNatClampNeg (0 : Int32)), (upd (aWhom ac) (aActs ac).toNatClampNeg (0 : Int32))) dd hd le bd my lf pa kp) H := hP
    have hD : va_D A (wR cI cJ cZ aR0 aR1 aR2 aR3 aR4 aR5 aR6 aR7 aR8 aR9 aR10 aR11 aR12 aR13 aR14 aR15 aR16 aR17 aR18 aR19 aR20 aR21 lv sg pd (aActs ac, aAct ac, (upd (aWho ac) (aActs ac).toNatClampNeg (xc - (65 : Int32))), (upd (aHour ac) (aActs ac).toNatClampNeg (0 : Int32)), (upd (aWhom ac) (aActs ac).toNatClampNeg (0 : Int32))) dd hd le bd my lf pa kp) := hD
    have hR := bnd_eq hR hw_45.symm
    refine lv_if_eq (tgt := 55) hx hb dX6_begin_48 (by decide) (fun c_48 => ?_) (fun c_48 => ?_)
    · have c_48 : (r_45 = 0) := c_48
      have hR := hR.trans (if_pos c_48)
      refine lv_iload_n hx hb dX6_begin_55 rfl (lv_at hl 1 rfl) ?_
      refine lv_bipush (v := (46 : Int32)) hx hb dX6_begin_56 (by decide) ?_
      refine lv_icmp_ne (tgt := 70) hx hb dX6_begin_58 (by decide) (fun c_58 => ?_) (fun c_58 => ?_)
      · have c_58 : ¬ (xc = (46 : Int32)) := c_58
        have hR := hR.trans (if_neg c_58)
        refine lv_bipush (v := (-6 : Int32)) hx hb dX6_begin_70 (by decide) ?_
        exact hret _ _ (-6 : Int32) (aActs ac, aAct ac, (upd (aWho ac) (aActs ac).toNatClampNeg (xc - (65 : Int32))), (upd (aHour ac) (aActs ac).toNatClampNeg (0 : Int32)), (upd (aWhom ac) (aActs ac).toNatClampNeg (0 : Int32))) _ _ hR hP hD hS dX6_begin_72
      · have c_58 : (xc = (46 : Int32)) := c_58
        have hR := hR.trans (if_pos c_58)
        refine lv_aload_n hx hb dX6_begin_61 rfl (lv_at hl 0 rfl) ?_
        refine lv_bipush (v := (6 : Int32)) hx hb dX6_begin_62 (by decide) ?_
        have hr := mrV (p := p) (e := e) (R := rm_X6_begin) (below := below) (meth := meth) (H := H) (locs := locs) (ls := ls) (As := [.int (6 : Int32)]) (rest := []) (c_X6_close l δ cI cJ cZ aR0 aR1 aR2 aR3 aR4 aR5 aR6 aR7 aR8 aR9 aR10 aR11 aR12 aR13 aR14 aR15 aR16 aR17 aR18 aR19 aR20 aR21 lv sg pd (aActs ac, aAct ac, (upd (aWho ac) (aActs ac).toNatClampNeg (xc - (65 : Int32))), (upd (aHour ac) (aActs ac).toNatClampNeg (0 : Int32)), (upd (aWhom ac) (aActs ac).toNatClampNeg (0 : Int32))) dd hd le bd my lf pa kp (6 : Int32) ha) hx hb hml hts hown hK hNW hP hD [0, 1, 2, 3, 4, 5, 6, 7, 8, 9, 10, 11, 12, 13, 14, 15, 16, 17, 18, 19, 20, 21] rfl rfl 6 0 rfl rfl (cwV 1 hts gX6_begin_X6_close rfl rfl rfl (by decide +kernel) ⟨(Nat.le_of_ble_eq_true rfl), (Nat.le_of_ble_eq_true rfl)⟩) rfl hl.1 rfl (Nat.le_of_ble_eq_true rfl) dX6_begin_64
        refine mc_i (wr := ([] : va_W)) hr hP hD hS hA [0, 1, 2, 3, 4, 5, 6, 7, 8, 9, 10, 11, 12, 13, 14, 15, 16, 17, 18, 19, 20, 21] [] [0, 1, 2, 3, 4, 5, 6, 7, 8, 9, 10, 11, 12, 13, 14, 15, 16, 17, 18, 19, 20, 21] rfl rfl rfl rfl rfl (wn := fun u_64 => (wR cI cJ cZ aR0 aR1 aR2 aR3 aR4 aR5 aR6 aR7 aR8 aR9 aR10 aR11 aR12 aR13 aR14 aR15 aR16 aR17 aR18 aR19 aR20 aR21 lv sg pd u_64 dd hd le bd my lf pa kp)) (fun _ => rfl) (fun r_64 u_64 H locs hw_64 hP hD hS => ?_)
        have hP : va_P δ vwCl (wR cI cJ cZ aR0 aR1 aR2 aR3 aR4 aR5 aR6 aR7 aR8 aR9 aR10 aR11 aR12 aR13 aR14 aR15 aR16 aR17 aR18 aR19 aR20 aR21 lv sg pd u_64 dd hd le bd my lf pa kp) H := hP
        have hD : va_D A (wR cI cJ cZ aR0 aR1 aR2 aR3 aR4 aR5 aR6 aR7 aR8 aR9 aR10 aR11 aR12 aR13 aR14 aR15 aR16 aR17 aR18 aR19 aR20 aR21 lv sg pd u_64 dd hd le bd my lf pa kp) := hD
        have hR := bnd_eq hR hw_64.symm
        refine lv_goto (tgt := 72) hx hb dX6_begin_67 (by decide) ?_
        exact hret _ _ r_64 u_64 _ _ hR hP hD hS dX6_begin_72
    · have c_48 : ¬ (r_45 = 0) := c_48
      have hR := hR.trans (if_neg c_48)
      refine lv_iconst (v := (1 : Int32)) hx hb dX6_begin_51 (by decide) ?_
      refine lv_goto (tgt := 72) hx hb dX6_begin_52 (by decide) ?_
      exact hret _ _ (1 : Int32) (aActs ac, aAct ac, (upd (aWho ac) (aActs ac).toNatClampNeg (xc - (65 : Int32))), (upd (aHour ac) (aActs ac).toNatClampNeg (0 : Int32)), (upd (aWhom ac) (aActs ac).toNatClampNeg (0 : Int32))) _ _ hR hP hD hS dX6_begin_72

abbrev rm_X6_behindLetter : Room := { frames := 2, cells := 0, slots := 0, locals := 45 }
set_option maxHeartbeats 4000000 in
set_option maxRecDepth 100000 in
theorem c_X6_behindLetter (l : Launch) (δ : va_G) (cI cJ cZ : ClassId) (aR0 aR1 aR2 aR3 aR4 aR5 aR6 aR7 aR8 aR9 aR10 aR11 aR12 aR13 aR14 aR15 aR16 aR17 aR18 aR19 aR20 aR21 : Nat) (lv : LV) (sg : SG) (pd : PD) (ac : AC) (dd : DD) (hd : HD) (le : LE) (bd : BD) (my : MY) (lf : LF) (pa : PA) (kp : KP) (xc : Int32) (ha : vp_in (aActs ac) 60) : mMi l δ (mTy cI cJ cZ) yX6_behindLetter wsX6_behindLetter rm_X6_behindLetter [.ref aR0, .int xc] (wR cI cJ cZ aR0 aR1 aR2 aR3 aR4 aR5 aR6 aR7 aR8 aR9 aR10 aR11 aR12 aR13 aR14 aR15 aR16 aR17 aR18 aR19 aR20 aR21 lv sg pd ac dd hd le bd my lf pa kp) (S := AC) (fun r u => F_X6_behindLetter ac xc = (r, u)) (fun u => (wR cI cJ cZ aR0 aR1 aR2 aR3 aR4 aR5 aR6 aR7 aR8 aR9 aR10 aR11 aR12 aR13 aR14 aR15 aR16 aR17 aR18 aR19 aR20 aR21 lv sg pd u dd hd le bd my lf pa kp)) := by
  refine mk_i (cc := cX6_behindLetter) (maxL := 2) (by decide) rfl (Nat.le_of_ble_eq_true rfl) ?_
  intro p e s m args below meth c A Q ls H locs hx hb hml hts hown hK hNW hA hP hD hS hl hret
  have hown : s.vm.findClass RX6 = some m.cls := hown
  have hl : lv_has ls 2 [(0, .ref aR0), (1, .int xc)] := hl
  have hinX6 : ∀ w ∈ u_ws RX6 TX6 34, w ∈ wsX6_behindLetter := (fun _ h => List.mem_cons_of_mem _ (List.mem_append_right _ (h)))
  have hR := F_X6_behindLetter.eq_1 ac xc
  refine lv_iload_n hx hb dX6_behindLetter_0 rfl (lv_at hl 1 rfl) ?_
  have hr := mrS (p := p) (e := e) (R := rm_X6_behindLetter) (below := below) (meth := meth) (H := H) (locs := locs) (ls := ls) (As := [.int xc]) (rest := []) (c_X6_isLetter l δ cI cJ cZ xc) hx hb hml hts hown hK hNW hP hD [] rfl rfl (va_cwS 1 hts gX6_behindLetter_X6_isLetter rfl rfl rfl (by decide +kernel) ⟨(Nat.le_of_ble_eq_true rfl), (Nat.le_of_ble_eq_true rfl)⟩) rfl hl.1 rfl (Nat.le_of_ble_eq_true rfl) dX6_behindLetter_1
  refine mc_i (wr := (wR cI cJ cZ aR0 aR1 aR2 aR3 aR4 aR5 aR6 aR7 aR8 aR9 aR10 aR11 aR12 aR13 aR14 aR15 aR16 aR17 aR18 aR19 aR20 aR21 lv sg pd ac dd hd le bd my lf pa kp)) hr hP hD hS hA [] [0, 1, 2, 3, 4, 5, 6, 7, 8, 9, 10, 11, 12, 13, 14, 15, 16, 17, 18, 19, 20, 21] [0, 1, 2, 3, 4, 5, 6, 7, 8, 9, 10, 11, 12, 13, 14, 15, 16, 17, 18, 19, 20, 21] rfl rfl rfl rfl rfl (wn := fun _ => (wR cI cJ cZ aR0 aR1 aR2 aR3 aR4 aR5 aR6 aR7 aR8 aR9 aR10 aR11 aR12 aR13 aR14 aR15 aR16 aR17 aR18 aR19 aR20 aR21 lv sg pd ac dd hd le bd my lf pa kp)) (fun _ => rfl) (fun r_1 _ H locs hw_1 hP hD hS => ?_)
  obtain ⟨hw_1, z_1⟩ := hw_1
  have hP : va_P δ vwCl (wR cI cJ cZ aR0 aR1 aR2 aR3 aR4 aR5 aR6 aR7 aR8 aR9 aR10 aR11 aR12 aR13 aR14 aR15 aR16 aR17 aR18 aR19 aR20 aR21 lv sg pd ac dd hd le bd my lf pa kp) H := hP
  have hD : va_D A (wR cI cJ cZ aR0 aR1 aR2 aR3 aR4 aR5 aR6 aR7 aR8 aR9 aR10 aR11 aR12 aR13 aR14 aR15 aR16 aR17 aR18 aR19 aR20 aR21 lv sg pd ac dd hd le bd my lf pa kp) := hD
  have hR := bnd_eq hR hw_1.symm
  refine lv_if_eq (tgt := 26) hx hb dX6_behindLetter_4 (by decide) (fun c_4 => ?_) (fun c_4 => ?_)
  · have c_4 : (r_1 = 0) := c_4
    have hR := hR.trans (if_pos c_4)
    refine lv_iload_n hx hb dX6_behindLetter_26 rfl (lv_at hl 1 rfl) ?_
    refine lv_bipush (v := (48 : Int32)) hx hb dX6_behindLetter_27 (by decide) ?_
    refine lv_icmp_eq (tgt := 38) hx hb dX6_behindLetter_29 (by decide) (fun c_29 => ?_) (fun c_29 => ?_)
    · have c_29 : (xc = (48 : Int32)) := c_29
      have hR := hR.trans (if_pos c_29)
      refine lv_aload_n hx hb dX6_behindLetter_38 rfl (lv_at hl 0 rfl) ?_
      refine lv_iload_n hx hb dX6_behindLetter_39 rfl (lv_at hl 1 rfl) ?_
      refine lv_bipush (v := (48 : Int32)) hx hb dX6_behindLetter_40 (by decide) ?_
      refine lv_icmp_ne (tgt := 49) hx hb dX6_behindLetter_42 (by decide) (fun c_42 => ?_) (fun c_42 => ?_)
      · have c_42 : ¬ (xc = (48 : Int32)) := c_42
        have hR := hR.trans (if_neg c_42)
        refine lv_iconst (v := (3 : Int32)) hx hb dX6_behindLetter_49 (by decide) ?_
        have hr := mrV (p := p) (e := e) (R := rm_X6_behindLetter) (below := below) (meth := meth) (H := H) (locs := locs) (ls := ls) (As := [.int (3 : Int32)]) (rest := []) (c_X6_close l δ cI cJ cZ aR0 aR1 aR2 aR3 aR4 aR5 aR6 aR7 aR8 aR9 aR10 aR11 aR12 aR13 aR14 aR15 aR16 aR17 aR18 aR19 aR20 aR21 lv sg pd ac dd hd le bd my lf pa kp (3 : Int32) ha) hx hb hml hts hown hK hNW hP hD [0, 1, 2, 3, 4, 5, 6, 7, 8, 9, 10, 11, 12, 13, 14, 15, 16, 17, 18, 19, 20, 21] rfl rfl 6 0 rfl rfl (cwV 1 hts gX6_behindLetter_X6_close rfl rfl rfl (by decide +kernel) ⟨(Nat.le_of_ble_eq_true rfl), (Nat.le_of_ble_eq_true rfl)⟩) rfl hl.1 rfl (Nat.le_of_ble_eq_true rfl) dX6_behindLetter_50
        refine mc_i (wr := ([] : va_W)) hr hP hD hS hA [0, 1, 2, 3, 4, 5, 6, 7, 8, 9, 10, 11, 12, 13, 14, 15, 16, 17, 18, 19, 20, 21] [] [0, 1, 2, 3, 4, 5, 6, 7, 8, 9, 10, 11, 12, 13, 14, 15, 16, 17, 18, 19, 20, 21] rfl rfl rfl rfl rfl (wn := fun u_50 => (wR cI cJ cZ aR0 aR1 aR2 aR3 aR4 aR5 aR6 aR7 aR8 aR9 aR10 aR11 aR12 aR13 aR14 aR15 aR16 aR17 aR18 aR19 aR20 aR21 lv sg pd u_50 dd hd le bd my lf pa kp)) (fun _ => rfl) (fun r_50 u_50 H locs hw_50 hP hD hS => ?_)
        have hP : va_P δ vwCl (wR cI cJ cZ aR0 aR1 aR2 aR3 aR4 aR5 aR6 aR7 aR8 aR9 aR10 aR11 aR12 aR13 aR14 aR15 aR16 aR17 aR18 aR19 aR20 aR21 lv sg pd u_50 dd hd le bd my lf pa kp) H := hP
        have hD : va_D A (wR cI cJ cZ aR0 aR1 aR2 aR3 aR4 aR5 aR6 aR7 aR8 aR9 aR10 aR11 aR12 aR13 aR14 aR15 aR16 aR17 aR18 aR19 aR20 aR21 lv sg pd u_50 dd hd le bd my lf pa kp) := hD
        have hR := bnd_eq hR hw_50.symm
        exact hret _ _ r_50 u_50 _ _ hR hP hD hS dX6_behindLetter_53
      · have c_42 : (xc = (48 : Int32)) := c_42
        have hR := hR.trans (if_pos c_42)
        refine lv_iconst (v := (2 : Int32)) hx hb dX6_behindLetter_45 (by decide) ?_
        refine lv_goto (tgt := 50) hx hb dX6_behindLetter_46 (by decide) ?_
        have hr := mrV (p := p) (e := e) (R := rm_X6_behindLetter) (below := below) (meth := meth) (H := H) (locs := locs) (ls := ls) (As := [.int (2 : Int32)]) (rest := []) (c_X6_close l δ cI cJ cZ aR0 aR1 aR2 aR3 aR4 aR5 aR6 aR7 aR8 aR9 aR10 aR11 aR12 aR13 aR14 aR15 aR16 aR17 aR18 aR19 aR20 aR21 lv sg pd ac dd hd le bd my lf pa kp (2 : Int32) ha) hx hb hml hts hown hK hNW hP hD [0, 1, 2, 3, 4, 5, 6, 7, 8, 9, 10, 11, 12, 13, 14, 15, 16, 17, 18, 19, 20, 21] rfl rfl 6 0 rfl rfl (cwV 1 hts gX6_behindLetter_X6_close rfl rfl rfl (by decide +kernel) ⟨(Nat.le_of_ble_eq_true rfl), (Nat.le_of_ble_eq_true rfl)⟩) rfl hl.1 rfl (Nat.le_of_ble_eq_true rfl) dX6_behindLetter_50
        refine mc_i (wr := ([] : va_W)) hr hP hD hS hA [0, 1, 2, 3, 4, 5, 6, 7, 8, 9, 10, 11, 12, 13, 14, 15, 16, 17, 18, 19, 20, 21] [] [0, 1, 2, 3, 4, 5, 6, 7, 8, 9, 10, 11, 12, 13, 14, 15, 16, 17, 18, 19, 20, 21] rfl rfl rfl rfl rfl (wn := fun u_50 => (wR cI cJ cZ aR0 aR1 aR2 aR3 aR4 aR5 aR6 aR7 aR8 aR9 aR10 aR11 aR12 aR13 aR14 aR15 aR16 aR17 aR18 aR19 aR20 aR21 lv sg pd u_50 dd hd le bd my lf pa kp)) (fun _ => rfl) (fun r_50 u_50 H locs hw_50 hP hD hS => ?_)
        have hP : va_P δ vwCl (wR cI cJ cZ aR0 aR1 aR2 aR3 aR4 aR5 aR6 aR7 aR8 aR9 aR10 aR11 aR12 aR13 aR14 aR15 aR16 aR17 aR18 aR19 aR20 aR21 lv sg pd u_50 dd hd le bd my lf pa kp) H := hP
        have hD : va_D A (wR cI cJ cZ aR0 aR1 aR2 aR3 aR4 aR5 aR6 aR7 aR8 aR9 aR10 aR11 aR12 aR13 aR14 aR15 aR16 aR17 aR18 aR19 aR20 aR21 lv sg pd u_50 dd hd le bd my lf pa kp) := hD
        have hR := bnd_eq hR hw_50.symm
        exact hret _ _ r_50 u_50 _ _ hR hP hD hS dX6_behindLetter_53
    · have c_29 : ¬ (xc = (48 : Int32)) := c_29
      have hR := hR.trans (if_neg c_29)
      refine lv_iload_n hx hb dX6_behindLetter_32 rfl (lv_at hl 1 rfl) ?_
      refine lv_bipush (v := (33 : Int32)) hx hb dX6_behindLetter_33 (by decide) ?_
      refine lv_icmp_ne (tgt := 54) hx hb dX6_behindLetter_35 (by decide) (fun c_35 => ?_) (fun c_35 => ?_)
      · have c_35 : ¬ (xc = (33 : Int32)) := c_35
        have hR := hR.trans (if_neg c_35)
        refine lv_aload_n hx hb dX6_behindLetter_54 rfl (lv_at hl 0 rfl) ?_
        refine va_get (D := δ) (ci := 6) (v := .ref aR8) (C := RX6) (T := TX6) (N := 34) hx hb hts hinX6 hown hK hP 0 rfl rfl 12 (by decide) (hts (.fieldLink RX6 31 "GloveHoursModel" "act" "[I") (List.mem_of_getElem? (i := 3) rfl)) (fun _ h9 => h9) rfl dX6_behindLetter_55 ?_
        refine lv_aload_n hx hb dX6_behindLetter_58 rfl (lv_at hl 0 rfl) ?_
        refine va_get (D := δ) (ci := 6) (v := .int (aActs ac)) (C := RX6) (T := TX6) (N := 34) hx hb hts hinX6 hown hK hP 0 rfl rfl 16 (by decide) (hts (.fieldLink RX6 124 "GloveHoursModel" "acts" "I") (List.mem_of_getElem? (i := 2) rfl)) (fun _ h9 => h9) rfl dX6_behindLetter_59 ?_
        refine lv_iload_n hx hb dX6_behindLetter_62 rfl (lv_at hl 1 rfl) ?_
        refine lv_bipush (v := (108 : Int32)) hx hb dX6_behindLetter_63 (by decide) ?_
        refine lv_icmp_ne (tgt := 72) hx hb dX6_behindLetter_65 (by decide) (fun c_65 => ?_) (fun c_65 => ?_)
        · have c_65 : ¬ (xc = (108 : Int32)) := c_65
          have hR := hR.trans (if_neg c_65)
          refine lv_iload_n hx hb dX6_behindLetter_72 rfl (lv_at hl 1 rfl) ?_
          refine lv_bipush (v := (114 : Int32)) hx hb dX6_behindLetter_73 (by decide) ?_
          refine lv_icmp_ne (tgt := 82) hx hb dX6_behindLetter_75 (by decide) (fun c_75 => ?_) (fun c_75 => ?_)
          · have c_75 : ¬ (xc = (114 : Int32)) := c_75
            have hR := hR.trans (if_neg c_75)
            refine lv_iconst (v := (5 : Int32)) hx hb dX6_behindLetter_82 (by decide) ?_
            refine va_iast hx hb hK hP hD hS 8 0 rfl rfl ha dX6_behindLetter_83 (fun H locs hP hD hS => ?_)
            have hP : va_P δ vwCl (wR cI cJ cZ aR0 aR1 aR2 aR3 aR4 aR5 aR6 aR7 aR8 aR9 aR10 aR11 aR12 aR13 aR14 aR15 aR16 aR17 aR18 aR19 aR20 aR21 lv sg pd (aActs ac, (upd (aAct ac) (aActs ac).toNatClampNeg (5 : Int32)), aWho ac, aHour ac, aWhom ac) dd hd le bd my lf pa kp) H := hP
            have hD : va_D A (wR cI cJ cZ aR0 aR1 aR2 aR3 aR4 aR5 aR6 aR7 aR8 aR9 aR10 aR11 aR12 aR13 aR14 aR15 aR16 aR17 aR18 aR19 aR20 aR21 lv sg pd (aActs ac, (upd (aAct ac) (aActs ac).toNatClampNeg (5 : Int32)), aWho ac, aHour ac, aWhom ac) dd hd le bd my lf pa kp) := hD
            refine lv_iload_n hx hb dX6_behindLetter_84 rfl (lv_at hl 1 rfl) ?_
            refine lv_bipush (v := (108 : Int32)) hx hb dX6_behindLetter_85 (by decide) ?_
            refine lv_icmp_eq (tgt := 96) hx hb dX6_behindLetter_87 (by decide) (fun c_87 => ?_) (fun c_87 => ?_)
            · have c_87 : (xc = (108 : Int32)) := c_87
              have hR := hR.trans (if_pos c_87)
              refine lv_iconst (v := (3 : Int32)) hx hb dX6_behindLetter_96 (by decide) ?_
              refine lv_goto (tgt := 112) hx hb dX6_behindLetter_97 (by decide) ?_
              exact hret _ _ (3 : Int32) (aActs ac, (upd (aAct ac) (aActs ac).toNatClampNeg (5 : Int32)), aWho ac, aHour ac, aWhom ac) _ _ hR hP hD hS dX6_behindLetter_112
            · have c_87 : ¬ (xc = (108 : Int32)) := c_87
              have hR := hR.trans (if_neg c_87)
              refine lv_iload_n hx hb dX6_behindLetter_90 rfl (lv_at hl 1 rfl) ?_
              refine lv_bipush (v := (114 : Int32)) hx hb dX6_behindLetter_91 (by decide) ?_
              refine lv_icmp_ne (tgt := 100) hx hb dX6_behindLetter_93 (by decide) (fun c_93 => ?_) (fun c_93 => ?_)
              · have c_93 : ¬ (xc = (114 : Int32)) := c_93
                have hR := hR.trans (if_neg c_93)
                refine lv_iload_n hx hb dX6_behindLetter_100 rfl (lv_at hl 1 rfl) ?_
                refine lv_bipush (v := (62 : Int32)) hx hb dX6_behindLetter_101 (by decide) ?_
                refine lv_icmp_ne (tgt := 110) hx hb dX6_behindLetter_103 (by decide) (fun c_103 => ?_) (fun c_103 => ?_)
                · have c_103 : ¬ (xc = (62 : Int32)) := c_103
                  have hR := hR.trans (if_neg c_103)
                  refine lv_bipush (v := (-6 : Int32)) hx hb dX6_behindLetter_110 (by decide) ?_
                  exact hret _ _ (-6 : Int32) (aActs ac, (upd (aAct ac) (aActs ac).toNatClampNeg (5 : Int32)), aWho ac, aHour ac, aWhom ac) _ _ hR hP hD hS dX6_behindLetter_112
                · have c_103 : (xc = (62 : Int32)) := c_103
                  have hR := hR.trans (if_pos c_103)
                  refine lv_iconst (v := (2 : Int32)) hx hb dX6_behindLetter_106 (by decide) ?_
                  refine lv_goto (tgt := 112) hx hb dX6_behindLetter_107 (by decide) ?_
                  exact hret _ _ (2 : Int32) (aActs ac, (upd (aAct ac) (aActs ac).toNatClampNeg (5 : Int32)), aWho ac, aHour ac, aWhom ac) _ _ hR hP hD hS dX6_behindLetter_112
              · have c_93 : (xc = (114 : Int32)) := c_93
                have hR := hR.trans (if_pos c_93)
                refine lv_iconst (v := (3 : Int32)) hx hb dX6_behindLetter_96 (by decide) ?_
                refine lv_goto (tgt := 112) hx hb dX6_behindLetter_97 (by decide) ?_
                exact hret _ _ (3 : Int32) (aActs ac, (upd (aAct ac) (aActs ac).toNatClampNeg (5 : Int32)), aWho ac, aHour ac, aWhom ac) _ _ hR hP hD hS dX6_behindLetter_112
          · have c_75 : (xc = (114 : Int32)) := c_75
            have hR := hR.trans (if_pos c_75)
            refine lv_iconst (v := (1 : Int32)) hx hb dX6_behindLetter_78 (by decide) ?_
            refine lv_goto (tgt := 83) hx hb dX6_behindLetter_79 (by decide) ?_
            refine va_iast hx hb hK hP hD hS 8 0 rfl rfl ha dX6_behindLetter_83 (fun H locs hP hD hS => ?_)
            have hP : va_P δ vwCl (wR cI cJ cZ aR0 aR1 aR2 aR3 aR4 aR5 aR6 aR7 aR8 aR9 aR10 aR11 aR12 aR13 aR14 aR15 aR16 aR17 aR18 aR19 aR20 aR21 lv sg pd (aActs ac, (upd (aAct ac) (aActs ac).toNatClampNeg (1 : Int32)), aWho ac, aHour ac, aWhom ac) dd hd le bd my lf pa kp) H := hP
            have hD : va_D A (wR cI cJ cZ aR0 aR1 aR2 aR3 aR4 aR5 aR6 aR7 aR8 aR9 aR10 aR11 aR12 aR13 aR14 aR15 aR16 aR17 aR18 aR19 aR20 aR21 lv sg pd (aActs ac, (upd (aAct ac) (aActs ac).toNatClampNeg (1 : Int32)), aWho ac, aHour ac, aWhom ac) dd hd le bd my lf pa kp) := hD
            refine lv_iload_n hx hb dX6_behindLetter_84 rfl (lv_at hl 1 rfl) ?_
            refine lv_bipush (v := (108 : Int32)) hx hb dX6_behindLetter_85 (by decide) ?_
            refine lv_icmp_eq (tgt := 96) hx hb dX6_behindLetter_87 (by decide) (fun c_87 => ?_) (fun c_87 => ?_)
            · have c_87 : (xc = (108 : Int32)) := c_87
              have hR := hR.trans (if_pos c_87)
              refine lv_iconst (v := (3 : Int32)) hx hb dX6_behindLetter_96 (by decide) ?_
              refine lv_goto (tgt := 112) hx hb dX6_behindLetter_97 (by decide) ?_
              exact hret _ _ (3 : Int32) (aActs ac, (upd (aAct ac) (aActs ac).toNatClampNeg (1 : Int32)), aWho ac, aHour ac, aWhom ac) _ _ hR hP hD hS dX6_behindLetter_112
            · have c_87 : ¬ (xc = (108 : Int32)) := c_87
              have hR := hR.trans (if_neg c_87)
              refine lv_iload_n hx hb dX6_behindLetter_90 rfl (lv_at hl 1 rfl) ?_
              refine lv_bipush (v := (114 : Int32)) hx hb dX6_behindLetter_91 (by decide) ?_
              refine lv_icmp_ne (tgt := 100) hx hb dX6_behindLetter_93 (by decide) (fun c_93 => ?_) (fun c_93 => ?_)
              · have c_93 : ¬ (xc = (114 : Int32)) := c_93
                have hR := hR.trans (if_neg c_93)
                refine lv_iload_n hx hb dX6_behindLetter_100 rfl (lv_at hl 1 rfl) ?_
                refine lv_bipush (v := (62 : Int32)) hx hb dX6_behindLetter_101 (by decide) ?_
                refine lv_icmp_ne (tgt := 110) hx hb dX6_behindLetter_103 (by decide) (fun c_103 => ?_) (fun c_103 => ?_)
                · have c_103 : ¬ (xc = (62 : Int32)) := c_103
                  have hR := hR.trans (if_neg c_103)
                  refine lv_bipush (v := (-6 : Int32)) hx hb dX6_behindLetter_110 (by decide) ?_
                  exact hret _ _ (-6 : Int32) (aActs ac, (upd (aAct ac) (aActs ac).toNatClampNeg (1 : Int32)), aWho ac, aHour ac, aWhom ac) _ _ hR hP hD hS dX6_behindLetter_112
                · have c_103 : (xc = (62 : Int32)) := c_103
                  have hR := hR.trans (if_pos c_103)
                  refine lv_iconst (v := (2 : Int32)) hx hb dX6_behindLetter_106 (by decide) ?_
                  refine lv_goto (tgt := 112) hx hb dX6_behindLetter_107 (by decide) ?_
                  exact hret _ _ (2 : Int32) (aActs ac, (upd (aAct ac) (aActs ac).toNatClampNeg (1 : Int32)), aWho ac, aHour ac, aWhom ac) _ _ hR hP hD hS dX6_behindLetter_112
              · have c_93 : (xc = (114 : Int32)) := c_93
                have hR := hR.trans (if_pos c_93)
                refine lv_iconst (v := (3 : Int32)) hx hb dX6_behindLetter_96 (by decide) ?_
                refine lv_goto (tgt := 112) hx hb dX6_behindLetter_97 (by decide) ?_
                exact hret _ _ (3 : Int32) (aActs ac, (upd (aAct ac) (aActs ac).toNatClampNeg (1 : Int32)), aWho ac, aHour ac, aWhom ac) _ _ hR hP hD hS dX6_behindLetter_112
        · have c_65 : (xc = (108 : Int32)) := c_65
          have hR := hR.trans (if_pos c_65)
          refine lv_iconst (v := (0 : Int32)) hx hb dX6_behindLetter_68 (by decide) ?_
          refine lv_goto (tgt := 83) hx hb dX6_behindLetter_69 (by decide) ?_
          refine va_iast hx hb hK hP hD hS 8 0 rfl rfl ha dX6_behindLetter_83 (fun H locs hP hD hS => ?_)
          have hP : va_P δ vwCl (wR cI cJ cZ aR0 aR1 aR2 aR3 aR4 aR5 aR6 aR7 aR8 aR9 aR10 aR11 aR12 aR13 aR14 aR15 aR16 aR17 aR18 aR19 aR20 aR21 lv sg pd (aActs ac, (upd (aAct ac) (aActs ac).toNatClampNeg (0 : Int32)), aWho ac, aHour ac, aWhom ac) dd hd le bd my lf pa kp) H := hP
          have hD : va_D A (wR cI cJ cZ aR0 aR1 aR2 aR3 aR4 aR5 aR6 aR7 aR8 aR9 aR10 aR11 aR12 aR13 aR14 aR15 aR16 aR17 aR18 aR19 aR20 aR21 lv sg pd (aActs ac, (upd (aAct ac) (aActs ac).toNatClampNeg (0 : Int32)), aWho ac, aHour ac, aWhom ac) dd hd le bd my lf pa kp) := hD
          refine lv_iload_n hx hb dX6_behindLetter_84 rfl (lv_at hl 1 rfl) ?_
          refine lv_bipush (v := (108 : Int32)) hx hb dX6_behindLetter_85 (by decide) ?_
          refine lv_icmp_eq (tgt := 96) hx hb dX6_behindLetter_87 (by decide) (fun c_87 => ?_) (fun c_87 => ?_)
          · have c_87 : (xc = (108 : Int32)) := c_87
            have hR := hR.trans (if_pos c_87)
            refine lv_iconst (v := (3 : Int32)) hx hb dX6_behindLetter_96 (by decide) ?_
            refine lv_goto (tgt := 112) hx hb dX6_behindLetter_97 (by decide) ?_
            exact hret _ _ (3 : Int32) (aActs ac, (upd (aAct ac) (aActs ac).toNatClampNeg (0 : Int32)), aWho ac, aHour ac, aWhom ac) _ _ hR hP hD hS dX6_behindLetter_112
          · have c_87 : ¬ (xc = (108 : Int32)) := c_87
            have hR := hR.trans (if_neg c_87)
            refine lv_iload_n hx hb dX6_behindLetter_90 rfl (lv_at hl 1 rfl) ?_
            refine lv_bipush (v := (114 : Int32)) hx hb dX6_behindLetter_91 (by decide) ?_
            refine lv_icmp_ne (tgt := 100) hx hb dX6_behindLetter_93 (by decide) (fun c_93 => ?_) (fun c_93 => ?_)
            · have c_93 : ¬ (xc = (114 : Int32)) := c_93
              have hR := hR.trans (if_neg c_93)
              refine lv_iload_n hx hb dX6_behindLetter_100 rfl (lv_at hl 1 rfl) ?_
              refine lv_bipush (v := (62 : Int32)) hx hb dX6_behindLetter_101 (by decide) ?_
              refine lv_icmp_ne (tgt := 110) hx hb dX6_behindLetter_103 (by decide) (fun c_103 => ?_) (fun c_103 => ?_)
              · have c_103 : ¬ (xc = (62 : Int32)) := c_103
                have hR := hR.trans (if_neg c_103)
                refine lv_bipush (v := (-6 : Int32)) hx hb dX6_behindLetter_110 (by decide) ?_
                exact hret _ _ (-6 : Int32) (aActs ac, (upd (aAct ac) (aActs ac).toNatClampNeg (0 : Int32)), aWho ac, aHour ac, aWhom ac) _ _ hR hP hD hS dX6_behindLetter_112
              · have c_103 : (xc = (62 : Int32)) := c_103
                have hR := hR.trans (if_pos c_103)
                refine lv_iconst (v := (2 : Int32)) hx hb dX6_behindLetter_106 (by decide) ?_
                refine lv_goto (tgt := 112) hx hb dX6_behindLetter_107 (by decide) ?_
                exact hret _ _ (2 : Int32) (aActs ac, (upd (aAct ac) (aActs ac).toNatClampNeg (0 : Int32)), aWho ac, aHour ac, aWhom ac) _ _ hR hP hD hS dX6_behindLetter_112
            · have c_93 : (xc = (114 : Int32)) := c_93
              have hR := hR.trans (if_pos c_93)
              refine lv_iconst (v := (3 : Int32)) hx hb dX6_behindLetter_96 (by decide) ?_
              refine lv_goto (tgt := 112) hx hb dX6_behindLetter_97 (by decide) ?_
              exact hret _ _ (3 : Int32) (aActs ac, (upd (aAct ac) (aActs ac).toNatClampNeg (0 : Int32)), aWho ac, aHour ac, aWhom ac) _ _ hR hP hD hS dX6_behindLetter_112
      · have c_35 : (xc = (33 : Int32)) := c_35
        have hR := hR.trans (if_pos c_35)
        refine lv_aload_n hx hb dX6_behindLetter_38 rfl (lv_at hl 0 rfl) ?_
        refine lv_iload_n hx hb dX6_behindLetter_39 rfl (lv_at hl 1 rfl) ?_
        refine lv_bipush (v := (48 : Int32)) hx hb dX6_behindLetter_40 (by decide) ?_
        refine lv_icmp_ne (tgt := 49) hx hb dX6_behindLetter_42 (by decide) (fun c_42 => ?_) (fun c_42 => ?_)
        · have c_42 : ¬ (xc = (48 : Int32)) := c_42
          have hR := hR.trans (if_neg c_42)
          refine lv_iconst (v := (3 : Int32)) hx hb dX6_behindLetter_49 (by decide) ?_
          have hr := mrV (p := p) (e := e) (R := rm_X6_behindLetter) (below := below) (meth := meth) (H := H) (locs := locs) (ls := ls) (As := [.int (3 : Int32)]) (rest := []) (c_X6_close l δ cI cJ cZ aR0 aR1 aR2 aR3 aR4 aR5 aR6 aR7 aR8 aR9 aR10 aR11 aR12 aR13 aR14 aR15 aR16 aR17 aR18 aR19 aR20 aR21 lv sg pd ac dd hd le bd my lf pa kp (3 : Int32) ha) hx hb hml hts hown hK hNW hP hD [0, 1, 2, 3, 4, 5, 6, 7, 8, 9, 10, 11, 12, 13, 14, 15, 16, 17, 18, 19, 20, 21] rfl rfl 6 0 rfl rfl (cwV 1 hts gX6_behindLetter_X6_close rfl rfl rfl (by decide +kernel) ⟨(Nat.le_of_ble_eq_true rfl), (Nat.le_of_ble_eq_true rfl)⟩) rfl hl.1 rfl (Nat.le_of_ble_eq_true rfl) dX6_behindLetter_50
          refine mc_i (wr := ([] : va_W)) hr hP hD hS hA [0, 1, 2, 3, 4, 5, 6, 7, 8, 9, 10, 11, 12, 13, 14, 15, 16, 17, 18, 19, 20, 21] [] [0, 1, 2, 3, 4, 5, 6, 7, 8, 9, 10, 11, 12, 13, 14, 15, 16, 17, 18, 19, 20, 21] rfl rfl rfl rfl rfl (wn := fun u_50 => (wR cI cJ cZ aR0 aR1 aR2 aR3 aR4 aR5 aR6 aR7 aR8 aR9 aR10 aR11 aR12 aR13 aR14 aR15 aR16 aR17 aR18 aR19 aR20 aR21 lv sg pd u_50 dd hd le bd my lf pa kp)) (fun _ => rfl) (fun r_50 u_50 H locs hw_50 hP hD hS => ?_)
          have hP : va_P δ vwCl (wR cI cJ cZ aR0 aR1 aR2 aR3 aR4 aR5 aR6 aR7 aR8 aR9 aR10 aR11 aR12 aR13 aR14 aR15 aR16 aR17 aR18 aR19 aR20 aR21 lv sg pd u_50 dd hd le bd my lf pa kp) H := hP
          have hD : va_D A (wR cI cJ cZ aR0 aR1 aR2 aR3 aR4 aR5 aR6 aR7 aR8 aR9 aR10 aR11 aR12 aR13 aR14 aR15 aR16 aR17 aR18 aR19 aR20 aR21 lv sg pd u_50 dd hd le bd my lf pa kp) := hD
          have hR := bnd_eq hR hw_50.symm
          exact hret _ _ r_50 u_50 _ _ hR hP hD hS dX6_behindLetter_53
        · have c_42 : (xc = (48 : Int32)) := c_42
          have hR := hR.trans (if_pos c_42)
          refine lv_iconst (v := (2 : Int32)) hx hb dX6_behindLetter_45 (by decide) ?_
          refine lv_goto (tgt := 50) hx hb dX6_behindLetter_46 (by decide) ?_
          have hr := mrV (p := p) (e := e) (R := rm_X6_behindLetter) (below := below) (meth := meth) (H := H) (locs := locs) (ls := ls) (As := [.int (2 : Int32)]) (rest := []) (c_X6_close l δ cI cJ cZ aR0 aR1 aR2 aR3 aR4 aR5 aR6 aR7 aR8 aR9 aR10 aR11 aR12 aR13 aR14 aR15 aR16 aR17 aR18 aR19 aR20 aR21 lv sg pd ac dd hd le bd my lf pa kp (2 : Int32) ha) hx hb hml hts hown hK hNW hP hD [0, 1, 2, 3, 4, 5, 6, 7, 8, 9, 10, 11, 12, 13, 14, 15, 16, 17, 18, 19, 20, 21] rfl rfl 6 0 rfl rfl (cwV 1 hts gX6_behindLetter_X6_close rfl rfl rfl (by decide +kernel) ⟨(Nat.le_of_ble_eq_true rfl), (Nat.le_of_ble_eq_true rfl)⟩) rfl hl.1 rfl (Nat.le_of_ble_eq_true rfl) dX6_behindLetter_50
          refine mc_i (wr := ([] : va_W)) hr hP hD hS hA [0, 1, 2, 3, 4, 5, 6, 7, 8, 9, 10, 11, 12, 13, 14, 15, 16, 17, 18, 19, 20, 21] [] [0, 1, 2, 3, 4, 5, 6, 7, 8, 9, 10, 11, 12, 13, 14, 15, 16, 17, 18, 19, 20, 21] rfl rfl rfl rfl rfl (wn := fun u_50 => (wR cI cJ cZ aR0 aR1 aR2 aR3 aR4 aR5 aR6 aR7 aR8 aR9 aR10 aR11 aR12 aR13 aR14 aR15 aR16 aR17 aR18 aR19 aR20 aR21 lv sg pd u_50 dd hd le bd my lf pa kp)) (fun _ => rfl) (fun r_50 u_50 H locs hw_50 hP hD hS => ?_)
          have hP : va_P δ vwCl (wR cI cJ cZ aR0 aR1 aR2 aR3 aR4 aR5 aR6 aR7 aR8 aR9 aR10 aR11 aR12 aR13 aR14 aR15 aR16 aR17 aR18 aR19 aR20 aR21 lv sg pd u_50 dd hd le bd my lf pa kp) H := hP
          have hD : va_D A (wR cI cJ cZ aR0 aR1 aR2 aR3 aR4 aR5 aR6 aR7 aR8 aR9 aR10 aR11 aR12 aR13 aR14 aR15 aR16 aR17 aR18 aR19 aR20 aR21 lv sg pd u_50 dd hd le bd my lf pa kp) := hD
          have hR := bnd_eq hR hw_50.symm
          exact hret _ _ r_50 u_50 _ _ hR hP hD hS dX6_behindLetter_53
  · have c_4 : ¬ (r_1 = 0) := c_4
    have hR := hR.trans (if_neg c_4)
    refine lv_aload_n hx hb dX6_behindLetter_7 rfl (lv_at hl 0 rfl) ?_
    refine va_get (D := δ) (ci := 6) (v := .ref aR11) (C := RX6) (T := TX6) (N := 34) hx hb hts hinX6 hown hK hP 0 rfl rfl 15 (by decide) (hts (.fieldLink RX6 40 "GloveHoursModel" "whom" "[I") (List.mem_of_getElem? (i := 1) rfl)) (fun _ h9 => h9) rfl dX6_behindLetter_8 ?_
    refine lv_aload_n hx hb dX6_behindLetter_11 rfl (lv_at hl 0 rfl) ?_
    refine va_get (D := δ) (ci := 6) (v := .int (aActs ac)) (C := RX6) (T := TX6) (N := 34) hx hb hts hinX6 hown hK hP 0 rfl rfl 16 (by decide) (hts (.fieldLink RX6 124 "GloveHoursModel" "acts" "I") (List.mem_of_getElem? (i := 2) rfl)) (fun _ h9 => h9) rfl dX6_behindLetter_12 ?_
    refine lv_iload_n hx hb dX6_behindLetter_15 rfl (lv_at hl 1 rfl) ?_
    refine lv_bipush (v := (65 : Int32)) hx hb dX6_behindLetter_16 (by decide) ?_
    refine lv_isub hx hb dX6_behindLetter_18 ?_
    refine va_iast hx hb hK hP hD hS 11 0 rfl rfl ha dX6_behindLetter_19 (fun H locs hP hD hS => ?_)
    have hP : va_P δ vwCl (wR cI cJ cZ aR0 aR1 aR2 aR3 aR4 aR5 aR6 aR7 aR8 aR9 aR10 aR11 aR12 aR13 aR14 aR15 aR16 aR17 aR18 aR19 aR20 aR21 lv sg pd (aActs ac, aAct ac, aWho ac, aHour ac, (upd (aWhom ac) (aActs ac).toNatClampNeg (xc - (65 : Int32)))) dd hd le bd my lf pa kp) H := hP
    have hD : va_D A (wR cI cJ cZ aR0 aR1 aR2 aR3 aR4 aR5 aR6 aR7 aR8 aR9 aR10 aR11 aR12 aR13 aR14 aR15 aR16 aR17 aR18 aR19 aR20 aR21 lv sg pd (aActs ac, aAct ac, aWho ac, aHour ac, (upd (aWhom ac) (aActs ac).toNatClampNeg (xc - (65 : Int32)))) dd hd le bd my lf pa kp) := hD
    refine lv_aload_n hx hb dX6_behindLetter_20 rfl (lv_at hl 0 rfl) ?_
    refine lv_iconst (v := (4 : Int32)) hx hb dX6_behindLetter_21 (by decide) ?_
    have hr := mrV (p := p) (e := e) (R := rm_X6_behindLetter) (below := below) (meth := meth) (H := H) (locs := locs) (ls := ls) (As := [.int (4 : Int32)]) (rest := []) (c_X6_close l δ cI cJ cZ aR0 aR1 aR2 aR3 aR4 aR5 aR6 aR7 aR8 aR9 aR10 aR11 aR12 aR13 aR14 aR15 aR16 aR17 aR18 aR19 aR20 aR21 lv sg pd (aActs ac, aAct ac, aWho ac, aHour ac, (upd (aWhom ac) (aActs ac).toNatClampNeg (xc - (65 : Int32)))) dd hd le bd my lf pa kp (4 : Int32) ha) hx hb hml hts hown hK hNW hP hD [0, 1, 2, 3, 4, 5, 6, 7, 8, 9, 10, 11, 12, 13, 14, 15, 16, 17, 18, 19, 20, 21] rfl rfl 6 0 rfl rfl (cwV 1 hts gX6_behindLetter_X6_close rfl rfl rfl (by decide +kernel) ⟨(Nat.le_of_ble_eq_true rfl), (Nat.le_of_ble_eq_true rfl)⟩) rfl hl.1 rfl (Nat.le_of_ble_eq_true rfl) dX6_behindLetter_22
    refine mc_i (wr := ([] : va_W)) hr hP hD hS hA [0, 1, 2, 3, 4, 5, 6, 7, 8, 9, 10, 11, 12, 13, 14, 15, 16, 17, 18, 19, 20, 21] [] [0, 1, 2, 3, 4, 5, 6, 7, 8, 9, 10, 11, 12, 13, 14, 15, 16, 17, 18, 19, 20, 21] rfl rfl rfl rfl rfl (wn := fun u_22 => (wR cI cJ cZ aR0 aR1 aR2 aR3 aR4 aR5 aR6 aR7 aR8 aR9 aR10 aR11 aR12 aR13 aR14 aR15 aR16 aR17 aR18 aR19 aR20 aR21 lv sg pd u_22 dd hd le bd my lf pa kp)) (fun _ => rfl) (fun r_22 u_22 H locs hw_22 hP hD hS => ?_)
    have hP : va_P δ vwCl (wR cI cJ cZ aR0 aR1 aR2 aR3 aR4 aR5 aR6 aR7 aR8 aR9 aR10 aR11 aR12 aR13 aR14 aR15 aR16 aR17 aR18 aR19 aR20 aR21 lv sg pd u_22 dd hd le bd my lf pa kp) H := hP
    have hD : va_D A (wR cI cJ cZ aR0 aR1 aR2 aR3 aR4 aR5 aR6 aR7 aR8 aR9 aR10 aR11 aR12 aR13 aR14 aR15 aR16 aR17 aR18 aR19 aR20 aR21 lv sg pd u_22 dd hd le bd my lf pa kp) := hD
    have hR := bnd_eq hR hw_22.symm
    exact hret _ _ r_22 u_22 _ _ hR hP hD hS dX6_behindLetter_25

abbrev rm_X6_readOn : Room := { frames := 3, cells := 0, slots := 0, locals := 66 }
set_option maxHeartbeats 4000000 in
set_option maxRecDepth 100000 in
theorem c_X6_readOn (l : Launch) (δ : va_G) (cI cJ cZ : ClassId) (aR0 aR1 aR2 aR3 aR4 aR5 aR6 aR7 aR8 aR9 aR10 aR11 aR12 aR13 aR14 aR15 aR16 aR17 aR18 aR19 aR20 aR21 : Nat) (lv : LV) (sg : SG) (pd : PD) (ac : AC) (dd : DD) (hd : HD) (le : LE) (bd : BD) (my : MY) (lf : LF) (pa : PA) (kp : KP) (xd : Int32) (xc : Int32) (ha : vp_in (aActs ac) 60) : mMi l δ (mTy cI cJ cZ) yX6_readOn wsX6_readOn rm_X6_readOn [.ref aR0, .int xd, .int xc] (wR cI cJ cZ aR0 aR1 aR2 aR3 aR4 aR5 aR6 aR7 aR8 aR9 aR10 aR11 aR12 aR13 aR14 aR15 aR16 aR17 aR18 aR19 aR20 aR21 lv sg pd ac dd hd le bd my lf pa kp) (S := AC) (fun r u => F_X6_readOn ac xd xc = (r, u)) (fun u => (wR cI cJ cZ aR0 aR1 aR2 aR3 aR4 aR5 aR6 aR7 aR8 aR9 aR10 aR11 aR12 aR13 aR14 aR15 aR16 aR17 aR18 aR19 aR20 aR21 lv sg pd u dd hd le bd my lf pa kp)) := by
  refine mk_i (cc := cX6_readOn) (maxL := 4) (by decide) rfl (Nat.le_of_ble_eq_true rfl) ?_
  intro p e s m args below meth c A Q ls H locs hx hb hml hts hown hK hNW hA hP hD hS hl hret
  have hown : s.vm.findClass RX6 = some m.cls := hown
  have hl : lv_has ls 4 [(0, .ref aR0), (1, .int xd), (2, .int xc)] := hl
  have hinX6 : ∀ w ∈ u_ws RX6 TX6 34, w ∈ wsX6_readOn := (fun _ h => List.mem_cons_of_mem _ (List.mem_append_right _ (h)))
  have hR := F_X6_readOn.eq_1 ac xd xc
  refine lv_iload_n hx hb dX6_readOn_0 rfl (lv_at hl 1 rfl) ?_
  by_cases c_1_0 : xd = (0 : Int32)
  · have hR := hR.trans (if_pos c_1_0)
    refine lv_tableIn (tgt := 32) (off := 31) hx hb dX6_readOn_1 (by rw [c_1_0]; decide) (by rw [c_1_0]; decide) (by rw [c_1_0]; rfl) (by decide) ?_
    refine lv_aload_n hx hb dX6_readOn_32 rfl (lv_at hl 0 rfl) ?_
    refine lv_iload_n hx hb dX6_readOn_33 rfl (lv_at hl 2 rfl) ?_
    have hr := mrV (p := p) (e := e) (R := rm_X6_readOn) (below := below) (meth := meth) (H := H) (locs := locs) (ls := ls) (As := [.int xc]) (rest := []) (c_X6_begin l δ cI cJ cZ aR0 aR1 aR2 aR3 aR4 aR5 aR6 aR7 aR8 aR9 aR10 aR11 aR12 aR13 aR14 aR15 aR16 aR17 aR18 aR19 aR20 aR21 lv sg pd ac dd hd le bd my lf pa kp xc ha) hx hb hml hts hown hK hNW hP hD [0, 1, 2, 3, 4, 5, 6, 7, 8, 9, 10, 11, 12, 13, 14, 15, 16, 17, 18, 19, 20, 21] rfl rfl 6 0 rfl rfl (cwV 1 hts gX6_readOn_X6_begin rfl rfl rfl (by decide +kernel) ⟨(Nat.le_of_ble_eq_true rfl), (Nat.le_of_ble_eq_true rfl)⟩) rfl hl.1 rfl (Nat.le_of_ble_eq_true rfl) dX6_readOn_34
    refine mc_i (wr := ([] : va_W)) hr hP hD hS hA [0, 1, 2, 3, 4, 5, 6, 7, 8, 9, 10, 11, 12, 13, 14, 15, 16, 17, 18, 19, 20, 21] [] [0, 1, 2, 3, 4, 5, 6, 7, 8, 9, 10, 11, 12, 13, 14, 15, 16, 17, 18, 19, 20, 21] rfl rfl rfl rfl rfl (wn := fun u_34 => (wR cI cJ cZ aR0 aR1 aR2 aR3 aR4 aR5 aR6 aR7 aR8 aR9 aR10 aR11 aR12 aR13 aR14 aR15 aR16 aR17 aR18 aR19 aR20 aR21 lv sg pd u_34 dd hd le bd my lf pa kp)) (fun _ => rfl) (fun r_34 u_34 H locs hw_34 hP hD hS => ?_)
    have hP : va_P δ vwCl (wR cI cJ cZ aR0 aR1 aR2 aR3 aR4 aR5 aR6 aR7 aR8 aR9 aR10 aR11 aR12 aR13 aR14 aR15 aR16 aR17 aR18 aR19 aR20 aR21 lv sg pd u_34 dd hd le bd my lf pa kp) H := hP
    have hD : va_D A (wR cI cJ cZ aR0 aR1 aR2 aR3 aR4 aR5 aR6 aR7 aR8 aR9 aR10 aR11 aR12 aR13 aR14 aR15 aR16 aR17 aR18 aR19 aR20 aR21 lv sg pd u_34 dd hd le bd my lf pa kp) := hD
    have hR := bnd_eq hR hw_34.symm
    exact hret _ _ r_34 u_34 _ _ hR hP hD hS dX6_readOn_37
  have hR := hR.trans (if_neg c_1_0)
  by_cases c_1_1 : xd = (1 : Int32)
  · have hR := hR.trans (if_pos c_1_1)
    refine lv_tableIn (tgt := 38) (off := 37) hx hb dX6_readOn_1 (by rw [c_1_1]; decide) (by rw [c_1_1]; decide) (by rw [c_1_1]; rfl) (by decide) ?_
    refine lv_aload_n hx hb dX6_readOn_38 rfl (lv_at hl 0 rfl) ?_
    refine lv_iload_n hx hb dX6_readOn_39 rfl (lv_at hl 2 rfl) ?_
    have hr := mrV (p := p) (e := e) (R := rm_X6_readOn) (below := below) (meth := meth) (H := H) (locs := locs) (ls := ls) (As := [.int xc]) (rest := []) (c_X6_behindLetter l δ cI cJ cZ aR0 aR1 aR2 aR3 aR4 aR5 aR6 aR7 aR8 aR9 aR10 aR11 aR12 aR13 aR14 aR15 aR16 aR17 aR18 aR19 aR20 aR21 lv sg pd ac dd hd le bd my lf pa kp xc ha) hx hb hml hts hown hK hNW hP hD [0, 1, 2, 3, 4, 5, 6, 7, 8, 9, 10, 11, 12, 13, 14, 15, 16, 17, 18, 19, 20, 21] rfl rfl 6 0 rfl rfl (cwV 1 hts gX6_readOn_X6_behindLetter rfl rfl rfl (by decide +kernel) ⟨(Nat.le_of_ble_eq_true rfl), (Nat.le_of_ble_eq_true rfl)⟩) rfl hl.1 rfl (Nat.le_of_ble_eq_true rfl) dX6_readOn_40
    refine mc_i (wr := ([] : va_W)) hr hP hD hS hA [0, 1, 2, 3, 4, 5, 6, 7, 8, 9, 10, 11, 12, 13, 14, 15, 16, 17, 18, 19, 20, 21] [] [0, 1, 2, 3, 4, 5, 6, 7, 8, 9, 10, 11, 12, 13, 14, 15, 16, 17, 18, 19, 20, 21] rfl rfl rfl rfl rfl (wn := fun u_40 => (wR cI cJ cZ aR0 aR1 aR2 aR3 aR4 aR5 aR6 aR7 aR8 aR9 aR10 aR11 aR12 aR13 aR14 aR15 aR16 aR17 aR18 aR19 aR20 aR21 lv sg pd u_40 dd hd le bd my lf pa kp)) (fun _ => rfl) (fun r_40 u_40 H locs hw_40 hP hD hS => ?_)
    have hP : va_P δ vwCl (wR cI cJ cZ aR0 aR1 aR2 aR3 aR4 aR5 aR6 aR7 aR8 aR9 aR10 aR11 aR12 aR13 aR14 aR15 aR16 aR17 aR18 aR19 aR20 aR21 lv sg pd u_40 dd hd le bd my lf pa kp) H := hP
    have hD : va_D A (wR cI cJ cZ aR0 aR1 aR2 aR3 aR4 aR5 aR6 aR7 aR8 aR9 aR10 aR11 aR12 aR13 aR14 aR15 aR16 aR17 aR18 aR19 aR20 aR21 lv sg pd u_40 dd hd le bd my lf pa kp) := hD
    have hR := bnd_eq hR hw_40.symm
    exact hret _ _ r_40 u_40 _ _ hR hP hD hS dX6_readOn_43
  have hR := hR.trans (if_neg c_1_1)
  by_cases c_1_2 : xd = (2 : Int32)
  · have hR := hR.trans (if_pos c_1_2)
    refine lv_tableIn (tgt := 44) (off := 43) hx hb dX6_readOn_1 (by rw [c_1_2]; decide) (by rw [c_1_2]; decide) (by rw [c_1_2]; rfl) (by decide) ?_
    refine lv_aload_n hx hb dX6_readOn_44 rfl (lv_at hl 0 rfl) ?_
    refine va_get (D := δ) (ci := 6) (v := .ref aR11) (C := RX6) (T := TX6) (N := 34) hx hb hts hinX6 hown hK hP 0 rfl rfl 15 (by decide) (hts (.fieldLink RX6 40 "GloveHoursModel" "whom" "[I") (List.mem_of_getElem? (i := 1) rfl)) (fun _ h9 => h9) rfl dX6_readOn_45 ?_
    refine lv_aload_n hx hb dX6_readOn_48 rfl (lv_at hl 0 rfl) ?_
    refine va_get (D := δ) (ci := 6) (v := .int (aActs ac)) (C := RX6) (T := TX6) (N := 34) hx hb hts hinX6 hown hK hP 0 rfl rfl 16 (by decide) (hts (.fieldLink RX6 124 "GloveHoursModel" "acts" "I") (List.mem_of_getElem? (i := 2) rfl)) (fun _ h9 => h9) rfl dX6_readOn_49 ?_
    refine lv_iload_n hx hb dX6_readOn_52 rfl (lv_at hl 2 rfl) ?_
    refine lv_bipush (v := (65 : Int32)) hx hb dX6_readOn_53 (by decide) ?_
    refine lv_isub hx hb dX6_readOn_55 ?_
    refine va_iast hx hb hK hP hD hS 11 0 rfl rfl ha dX6_readOn_56 (fun H locs hP hD hS => ?_)
    have hP : va_P δ vwCl (wR cI cJ cZ aR0 aR1 aR2 aR3 aR4 aR5 aR6 aR7 aR8 aR9 aR10 aR11 aR12 aR13 aR14 aR15 aR16 aR17 aR18 aR19 aR20 aR21 lv sg pd (aActs ac, aAct ac, aWho ac, aHour ac, (upd (aWhom ac) (aActs ac).toNatClampNeg (xc - (65 : Int32)))) dd hd le bd my lf pa kp) H := hP
    have hD : va_D A (wR cI cJ cZ aR0 aR1 aR2 aR3 aR4 aR5 aR6 aR7 aR8 aR9 aR10 aR11 aR12 aR13 aR14 aR15 aR16 aR17 aR18 aR19 aR20 aR21 lv sg pd (aActs ac, aAct ac, aWho ac, aHour ac, (upd (aWhom ac) (aActs ac).toNatClampNeg (xc - (65 : Int32)))) dd hd le bd my lf pa kp) := hD
    refine lv_iload_n hx hb dX6_readOn_57 rfl (lv_at hl 2 rfl) ?_
    have hr := mrS (p := p) (e := e) (R := rm_X6_readOn) (below := below) (meth := meth) (H := H) (locs := locs) (ls := ls) (As := [.int xc]) (rest := []) (c_X6_isLetter l δ cI cJ cZ xc) hx hb hml hts hown hK hNW hP hD [] rfl rfl (va_cwS 1 hts gX6_readOn_X6_isLetter rfl rfl rfl (by decide +kernel) ⟨(Nat.le_of_ble_eq_true rfl), (Nat.le_of_ble_eq_true rfl)⟩) rfl hl.1 rfl (Nat.le_of_ble_eq_true rfl) dX6_readOn_58
    refine mc_i (wr := (wR cI cJ cZ aR0 aR1 aR2 aR3 aR4 aR5 aR6 aR7 aR8 aR9 aR10 aR11 aR12 aR13 aR14 aR15 aR16 aR17 aR18 aR19 aR20 aR21 lv sg pd (aActs ac, aAct ac, aWho ac, aHour ac, (upd (aWhom ac) (aActs ac).toNatClampNeg (xc - (65 : Int32)))) dd hd le bd my lf pa kp)) hr hP hD hS hA [] [0, 1, 2, 3, 4, 5, 6, 7, 8, 9, 10, 11, 12, 13, 14, 15, 16, 17, 18, 19, 20, 21] [0, 1, 2, 3, 4, 5, 6, 7, 8, 9, 10, 11, 12, 13, 14, 15, 16, 17, 18, 19, 20, 21] rfl rfl rfl rfl rfl (wn := fun _ => (wR cI cJ cZ aR0 aR1 aR2 aR3 aR4 aR5 aR6 aR7 aR8 aR9 aR10 aR11 aR12 aR13 aR14 aR15 aR16 aR17 aR18 aR19 aR20 aR21 lv sg pd (aActs ac, aAct ac, aWho ac, aHour ac, (upd (aWhom ac) (aActs ac).toNatClampNeg (xc - (65 : Int32)))) dd hd le bd my lf pa kp)) (fun _ => rfl) (fun r_58 _ H locs hw_58 hP hD hS => ?_)
    obtain ⟨hw_58, z_58⟩ := hw_58
    have hP : va_P δ vwCl (wR cI cJ cZ aR0 aR1 aR2 aR3 aR4 aR5 aR6 aR7 aR8 aR9 aR10 aR11 aR12 aR13 aR14 aR15 aR16 aR17 aR18 aR19 aR20 aR21 lv sg pd (aActs ac, aAct ac, aWho ac, aHour ac, (upd (aWhom ac) (aActs ac).toNatClampNeg (xc - (65 : Int32)))) dd hd le bd my lf pa kp) H := hP
    have hD : va_D A (wR cI cJ cZ aR0 aR1 aR2 aR3 aR4 aR5 aR6 aR7 aR8 aR9 aR10 aR11 aR12 aR13 aR14 aR15 aR16 aR17 aR18 aR19 aR20 aR21 lv sg pd (aActs ac, aAct ac, aWho ac, aHour ac, (upd (aWhom ac) (aActs ac).toNatClampNeg (xc - (65 : Int32)))) dd hd le bd my lf pa kp) := hD
    have hR := bnd_eq hR hw_58.symm
    refine lv_if_eq (tgt := 68) hx hb dX6_readOn_61 (by decide) (fun c_61 => ?_) (fun c_61 => ?_)
    · have c_61 : (r_58 = 0) := c_61
      have hR := hR.trans (if_pos c_61)
      refine lv_bipush (v := (-6 : Int32)) hx hb dX6_readOn_68 (by decide) ?_
      exact hret _ _ (-6 : Int32) (aActs ac, aAct ac, aWho ac, aHour ac, (upd (aWhom ac) (aActs ac).toNatClampNeg (xc - (65 : Int32)))) _ _ hR hP hD hS dX6_readOn_70
    · have c_61 : ¬ (r_58 = 0) := c_61
      have hR := hR.trans (if_neg c_61)
      refine lv_iconst (v := (3 : Int32)) hx hb dX6_readOn_64 (by decide) ?_
      refine lv_goto (tgt := 70) hx hb dX6_readOn_65 (by decide) ?_
      exact hret _ _ (3 : Int32) (aActs ac, aAct ac, aWho ac, aHour ac, (upd (aWhom ac) (aActs ac).toNatClampNeg (xc - (65 : Int32)))) _ _ hR hP hD hS dX6_readOn_70
  have hR := hR.trans (if_neg c_1_2)
  by_cases c_1_3 : xd = (3 : Int32)
  · have hR := hR.trans (if_pos c_1_3)
    refine lv_tableIn (tgt := 71) (off := 70) hx hb dX6_readOn_1 (by rw [c_1_3]; decide) (by rw [c_1_3]; decide) (by rw [c_1_3]; rfl) (by decide) ?_
    refine lv_aload_n hx hb dX6_readOn_71 rfl (lv_at hl 0 rfl) ?_
    refine va_get (D := δ) (ci := 6) (v := .ref aR10) (C := RX6) (T := TX6) (N := 34) hx hb hts hinX6 hown hK hP 0 rfl rfl 14 (by decide) (hts (.fieldLink RX6 37 "GloveHoursModel" "hour" "[I") (List.mem_of_getElem? (i := 3) rfl)) (fun _ h9 => h9) rfl dX6_readOn_72 ?_
    refine lv_aload_n hx hb dX6_readOn_75 rfl (lv_at hl 0 rfl) ?_
    refine va_get (D := δ) (ci := 6) (v := .int (aActs ac)) (C := RX6) (T := TX6) (N := 34) hx hb hts hinX6 hown hK hP 0 rfl rfl 16 (by decide) (hts (.fieldLink RX6 124 "GloveHoursModel" "acts" "I") (List.mem_of_getElem? (i := 2) rfl)) (fun _ h9 => h9) rfl dX6_readOn_76 ?_
    refine lv_bipush (v := (10 : Int32)) hx hb dX6_readOn_79 (by decide) ?_
    refine lv_iload_n hx hb dX6_readOn_81 rfl (lv_at hl 2 rfl) ?_
    refine lv_bipush (v := (48 : Int32)) hx hb dX6_readOn_82 (by decide) ?_
    refine lv_isub hx hb dX6_readOn_84 ?_
    refine lv_imul hx hb dX6_readOn_85 ?_
    refine va_iast hx hb hK hP hD hS 10 0 rfl rfl ha dX6_readOn_86 (fun H locs hP hD hS => ?_)
    have hP : va_P δ vwCl (wR cI cJ cZ aR0 aR1 aR2 aR3 aR4 aR5 aR6 aR7 aR8 aR9 aR10 aR11 aR12 aR13 aR14 aR15 aR16 aR17 aR18 aR19 aR20 aR21 lv sg pd (aActs ac, aAct ac, aWho ac, (upd (aHour ac) (aActs ac).toNatClampNeg ((10 : Int32) * (xc - (48 : Int32)))), aWhom ac) dd hd le bd my lf pa kp) H := hP
    have hD : va_D A (wR cI cJ cZ aR0 aR1 aR2 aR3 aR4 aR5 aR6 aR7 aR8 aR9 aR10 aR11 aR12 aR13 aR14 aR15 aR16 aR17 aR18 aR19 aR20 aR21 lv sg pd (aActs ac, aAct ac, aWho ac, (upd (aHour ac) (aActs ac).toNatClampNeg ((10 : Int32) * (xc - (48 : Int32)))), aWhom ac) dd hd le bd my lf pa kp) := hD
    refine lv_iload_n hx hb dX6_readOn_87 rfl (lv_at hl 2 rfl) ?_
    refine lv_i2l (v := (xc.toInt64)) hx hb dX6_readOn_88 rfl ?_
    refine lv_ldc2 (v := (48 : Int64)) hx hb hown (hts (.constantLong RX6 139 (48)) (List.mem_of_getElem? (i := 4) rfl)) dX6_readOn_89 ?_
    refine lv_ldc2 (v := (50 : Int64)) hx hb hown (hts (.constantLong RX6 141 (50)) (List.mem_of_getElem? (i := 5) rfl)) dX6_readOn_92 ?_
    have hr := mrS (p := p) (e := e) (R := rm_X6_readOn) (below := below) (meth := meth) (H := H) (locs := locs) (ls := ls) (As := [.long (xc.toInt64), .long (48 : Int64), .long (50 : Int64)]) (rest := []) (c_X6_in l δ cI cJ cZ (xc.toInt64) (48 : Int64) (50 : Int64)) hx hb hml hts hown hK hNW hP hD [] rfl rfl (va_cwS 3 hts gX6_readOn_X6_in rfl rfl rfl (by decide +kernel) ⟨(Nat.le_of_ble_eq_true rfl), (Nat.le_of_ble_eq_true rfl)⟩) rfl hl.1 rfl (Nat.le_of_ble_eq_true rfl) dX6_readOn_95
    refine mc_i (wr := (wR cI cJ cZ aR0 aR1 aR2 aR3 aR4 aR5 aR6 aR7 aR8 aR9 aR10 aR11 aR12 aR13 aR14 aR15 aR16 aR17 aR18 aR19 aR20 aR21 lv sg pd (aActs ac, aAct ac, aWho ac, (upd (aHour ac) (aActs ac).toNatClampNeg ((10 : Int32) * (xc - (48 : Int32)))), aWhom ac) dd hd le bd my lf pa kp)) hr hP hD hS hA [] [0, 1, 2, 3, 4, 5, 6, 7, 8, 9, 10, 11, 12, 13, 14, 15, 16, 17, 18, 19, 20, 21] [0, 1, 2, 3, 4, 5, 6, 7, 8, 9, 10, 11, 12, 13, 14, 15, 16, 17, 18, 19, 20, 21] rfl rfl rfl rfl rfl (wn := fun _ => (wR cI cJ cZ aR0 aR1 aR2 aR3 aR4 aR5 aR6 aR7 aR8 aR9 aR10 aR11 aR12 aR13 aR14 aR15 aR16 aR17 aR18 aR19 aR20 aR21 lv sg pd (aActs ac, aAct ac, aWho ac, (upd (aHour ac) (aActs ac).toNatClampNeg ((10 : Int32) * (xc - (48 : Int32)))), aWhom ac) dd hd le bd my lf pa kp)) (fun _ => rfl) (fun r_95 _ H locs hw_95 hP hD hS => ?_)
    obtain ⟨hw_95, z_95⟩ := hw_95
    have hP : va_P δ vwCl (wR cI cJ cZ aR0 aR1 aR2 aR3 aR4 aR5 aR6 aR7 aR8 aR9 aR10 aR11 aR12 aR13 aR14 aR15 aR16 aR17 aR18 aR19 aR20 aR21 lv sg pd (aActs ac, aAct ac, aWho ac, (upd (aHour ac) (aActs ac).toNatClampNeg ((10 : Int32) * (xc - (48 : Int32)))), aWhom ac) dd hd le bd my lf pa kp) H := hP
    have hD : va_D A (wR cI cJ cZ aR0 aR1 aR2 aR3 aR4 aR5 aR6 aR7 aR8 aR9 aR10 aR11 aR12 aR13 aR14 aR15 aR16 aR17 aR18 aR19 aR20 aR21 lv sg pd (aActs ac, aAct ac, aWho ac, (upd (aHour ac) (aActs ac).toNatClampNeg ((10 : Int32) * (xc - (48 : Int32)))), aWhom ac) dd hd le bd my lf pa kp) := hD
    have hR := bnd_eq hR hw_95.symm
    refine lv_if_eq (tgt := 105) hx hb dX6_readOn_98 (by decide) (fun c_98 => ?_) (fun c_98 => ?_)
    · have c_98 : (r_95 = 0) := c_98
      have hR := hR.trans (if_pos c_98)
      refine lv_bipush (v := (-6 : Int32)) hx hb dX6_readOn_105 (by decide) ?_
      exact hret _ _ (-6 : Int32) (aActs ac, aAct ac, aWho ac, (upd (aHour ac) (aActs ac).toNatClampNeg ((10 : Int32) * (xc - (48 : Int32)))), aWhom ac) _ _ hR hP hD hS dX6_readOn_107
    · have c_98 : ¬ (r_95 = 0) := c_98
      have hR := hR.trans (if_neg c_98)
      refine lv_iconst (v := (4 : Int32)) hx hb dX6_readOn_101 (by decide) ?_
      refine lv_goto (tgt := 107) hx hb dX6_readOn_102 (by decide) ?_
      exact hret _ _ (4 : Int32) (aActs ac, aAct ac, aWho ac, (upd (aHour ac) (aActs ac).toNatClampNeg ((10 : Int32) * (xc - (48 : Int32)))), aWhom ac) _ _ hR hP hD hS dX6_readOn_107
  have hR := hR.trans (if_neg c_1_3)
  refine lv_tableOut (tgt := 108) hx hb dX6_readOn_1 (by have e0 : xd.toInt ≠ 0 := fun e => c_1_0 (Int32.toInt_inj.mp e); have e1 : xd.toInt ≠ 1 := fun e => c_1_1 (Int32.toInt_inj.mp e); have e2 : xd.toInt ≠ 2 := fun e => c_1_2 (Int32.toInt_inj.mp e); have e3 : xd.toInt ≠ 3 := fun e => c_1_3 (Int32.toInt_inj.mp e); omega) (by decide) ?_
  refine lv_iload_n hx hb dX6_readOn_108 rfl (lv_at hl 2 rfl) ?_
  refine lv_i2l (v := (xc.toInt64)) hx hb dX6_readOn_109 rfl ?_
  refine lv_ldc2 (v := (48 : Int64)) hx hb hown (hts (.constantLong RX6 139 (48)) (List.mem_of_getElem? (i := 4) rfl)) dX6_readOn_110 ?_
  refine lv_aload_n hx hb dX6_readOn_113 rfl (lv_at hl 0 rfl) ?_
  refine va_get (D := δ) (ci := 6) (v := .ref aR10) (C := RX6) (T := TX6) (N := 34) hx hb hts hinX6 hown hK hP 0 rfl rfl 14 (by decide) (hts (.fieldLink RX6 37 "GloveHoursModel" "hour" "[I") (List.mem_of_getElem? (i := 3) rfl)) (fun _ h9 => h9) rfl dX6_readOn_114 ?_
  refine lv_aload_n hx hb dX6_readOn_117 rfl (lv_at hl 0 rfl) ?_
  refine va_get (D := δ) (ci := 6) (v := .int (aActs ac)) (C := RX6) (T := TX6) (N := 34) hx hb hts hinX6 hown hK hP 0 rfl rfl 16 (by decide) (hts (.fieldLink RX6 124 "GloveHoursModel" "acts" "I") (List.mem_of_getElem? (i := 2) rfl)) (fun _ h9 => h9) rfl dX6_readOn_118 ?_
  refine va_iald hx hb hK hP 10 0 rfl rfl ha dX6_readOn_121 ?_
  refine lv_bipush (v := (20 : Int32)) hx hb dX6_readOn_122 (by decide) ?_
  refine lv_icmp_ne (tgt := 133) hx hb dX6_readOn_124 (by decide) (fun c_124 => ?_) (fun c_124 => ?_)
  · have c_124 : ¬ (((aHour ac) (aActs ac).toNatClampNeg) = (20 : Int32)) := c_124
    have hR := hR.trans (if_neg c_124)
    refine lv_ldc2 (v := (57 : Int64)) hx hb hown (hts (.constantLong RX6 145 (57)) (List.mem_of_getElem? (i := 7) rfl)) dX6_readOn_133 ?_
    have hr := mrS (p := p) (e := e) (R := rm_X6_readOn) (below := below) (meth := meth) (H := H) (locs := locs) (ls := ls) (As := [.long (xc.toInt64), .long (48 : Int64), .long (57 : Int64)]) (rest := []) (c_X6_in l δ cI cJ cZ (xc.toInt64) (48 : Int64) (57 : Int64)) hx hb hml hts hown hK hNW hP hD [] rfl rfl (va_cwS 3 hts gX6_readOn_X6_in rfl rfl rfl (by decide +kernel) ⟨(Nat.le_of_ble_eq_true rfl), (Nat.le_of_ble_eq_true rfl)⟩) rfl hl.1 rfl (Nat.le_of_ble_eq_true rfl) dX6_readOn_136
    refine mc_i (wr := (wR cI cJ cZ aR0 aR1 aR2 aR3 aR4 aR5 aR6 aR7 aR8 aR9 aR10 aR11 aR12 aR13 aR14 aR15 aR16 aR17 aR18 aR19 aR20 aR21 lv sg pd ac dd hd le bd my lf pa kp)) hr hP hD hS hA [] [0, 1, 2, 3, 4, 5, 6, 7, 8, 9, 10, 11, 12, 13, 14, 15, 16, 17, 18, 19, 20, 21] [0, 1, 2, 3, 4, 5, 6, 7, 8, 9, 10, 11, 12, 13, 14, 15, 16, 17, 18, 19, 20, 21] rfl rfl rfl rfl rfl (wn := fun _ => (wR cI cJ cZ aR0 aR1 aR2 aR3 aR4 aR5 aR6 aR7 aR8 aR9 aR10 aR11 aR12 aR13 aR14 aR15 aR16 aR17 aR18 aR19 aR20 aR21 lv sg pd ac dd hd le bd my lf pa kp)) (fun _ => rfl) (fun r_136 _ H locs hw_136 hP hD hS => ?_)
    obtain ⟨hw_136, z_136⟩ := hw_136
    have hP : va_P δ vwCl (wR cI cJ cZ aR0 aR1 aR2 aR3 aR4 aR5 aR6 aR7 aR8 aR9 aR10 aR11 aR12 aR13 aR14 aR15 aR16 aR17 aR18 aR19 aR20 aR21 lv sg pd ac dd hd le bd my lf pa kp) H := hP
    have hD : va_D A (wR cI cJ cZ aR0 aR1 aR2 aR3 aR4 aR5 aR6 aR7 aR8 aR9 aR10 aR11 aR12 aR13 aR14 aR15 aR16 aR17 aR18 aR19 aR20 aR21 lv sg pd ac dd hd le bd my lf pa kp) := hD
    have hR := bnd_eq hR hw_136.symm
    refine lv_istore_n (lv' := [(3, .int r_136), (0, .ref aR0), (1, .int xd), (2, .int xc)]) hx hb dX6_readOn_139 rfl hl (by decide) rfl (fun ls hl => ?_)
    refine lv_aload_n hx hb dX6_readOn_140 rfl (lv_at hl 1 rfl) ?_
    refine va_get (D := δ) (ci := 6) (v := .ref aR10) (C := RX6) (T := TX6) (N := 34) hx hb hts hinX6 hown hK hP 0 rfl rfl 14 (by decide) (hts (.fieldLink RX6 37 "GloveHoursModel" "hour" "[I") (List.mem_of_getElem? (i := 3) rfl)) (fun _ h9 => h9) rfl dX6_readOn_141 ?_
    refine lv_aload_n hx hb dX6_readOn_144 rfl (lv_at hl 1 rfl) ?_
    refine va_get (D := δ) (ci := 6) (v := .int (aActs ac)) (C := RX6) (T := TX6) (N := 34) hx hb hts hinX6 hown hK hP 0 rfl rfl 16 (by decide) (hts (.fieldLink RX6 124 "GloveHoursModel" "acts" "I") (List.mem_of_getElem? (i := 2) rfl)) (fun _ h9 => h9) rfl dX6_readOn_145 ?_
    refine lv_dup2_11 hx hb dX6_readOn_148 rfl rfl ?_
    refine va_iald hx hb hK hP 10 0 rfl rfl ha dX6_readOn_149 ?_
    refine lv_iload_n hx hb dX6_readOn_150 rfl (lv_at hl 3 rfl) ?_
    refine lv_bipush (v := (48 : Int32)) hx hb dX6_readOn_151 (by decide) ?_
    refine lv_isub hx hb dX6_readOn_153 ?_
    refine lv_iadd hx hb dX6_readOn_154 ?_
    refine va_iast hx hb hK hP hD hS 10 0 rfl rfl ha dX6_readOn_155 (fun H locs hP hD hS => ?_)
    have hP : va_P δ vwCl (wR cI cJ cZ aR0 aR1 aR2 aR3 aR4 aR5 aR6 aR7 aR8 aR9 aR10 aR11 aR12 aR13 aR14 aR15 aR16 aR17 aR18 aR19 aR20 aR21 lv sg pd (aActs ac, aAct ac, aWho ac, (upd (aHour ac) (aActs ac).toNatClampNeg (((aHour ac) (aActs ac).toNatClampNeg) + (xc - (48 : Int32)))), aWhom ac) dd hd le bd my lf pa kp) H := hP
    have hD : va_D A (wR cI cJ cZ aR0 aR1 aR2 aR3 aR4 aR5 aR6 aR7 aR8 aR9 aR10 aR11 aR12 aR13 aR14 aR15 aR16 aR17 aR18 aR19 aR20 aR21 lv sg pd (aActs ac, aAct ac, aWho ac, (upd (aHour ac) (aActs ac).toNatClampNeg (((aHour ac) (aActs ac).toNatClampNeg) + (xc - (48 : Int32)))), aWhom ac) dd hd le bd my lf pa kp) := hD
    refine lv_iload_n hx hb dX6_readOn_156 rfl (lv_at hl 0 rfl) ?_
    refine lv_if_eq (tgt := 176) hx hb dX6_readOn_157 (by decide) (fun c_157 => ?_) (fun c_157 => ?_)
    · have c_157 : (r_136 = 0) := c_157
      have hR := hR.trans (if_pos c_157)
      refine lv_bipush (v := (-6 : Int32)) hx hb dX6_readOn_176 (by decide) ?_
      exact hret _ _ (-6 : Int32) (aActs ac, aAct ac, aWho ac, (upd (aHour ac) (aActs ac).toNatClampNeg (((aHour ac) (aActs ac).toNatClampNeg) + (xc - (48 : Int32)))), aWhom ac) _ _ hR hP hD hS dX6_readOn_178
    · have c_157 : ¬ (r_136 = 0) := c_157
      have hR := hR.trans (if_neg c_157)
      refine lv_aload_n hx hb dX6_readOn_160 rfl (lv_at hl 1 rfl) ?_
      refine lv_aload_n hx hb dX6_readOn_161 rfl (lv_at hl 1 rfl) ?_
      refine va_get (D := δ) (ci := 6) (v := .ref aR8) (C := RX6) (T := TX6) (N := 34) hx hb hts hinX6 hown hK hP 0 rfl rfl 12 (by decide) (hts (.fieldLink RX6 31 "GloveHoursModel" "act" "[I") (List.mem_of_getElem? (i := 8) rfl)) (fun _ h9 => h9) rfl dX6_readOn_162 ?_
      refine lv_aload_n hx hb dX6_readOn_165 rfl (lv_at hl 1 rfl) ?_
      refine va_get (D := δ) (ci := 6) (v := .int (aActs ac)) (C := RX6) (T := TX6) (N := 34) hx hb hts hinX6 hown hK hP 0 rfl rfl 16 (by decide) (hts (.fieldLink RX6 124 "GloveHoursModel" "acts" "I") (List.mem_of_getElem? (i := 2) rfl)) (fun _ h9 => h9) rfl dX6_readOn_166 ?_
      refine va_iald hx hb hK hP 8 0 rfl rfl ha dX6_readOn_169 ?_
      have hr := mrV (p := p) (e := e) (R := rm_X6_readOn) (below := below) (meth := meth) (H := H) (locs := locs) (ls := ls) (As := [.int ((aAct ac) (aActs ac).toNatClampNeg)]) (rest := []) (c_X6_close l δ cI cJ cZ aR0 aR1 aR2 aR3 aR4 aR5 aR6 aR7 aR8 aR9 aR10 aR11 aR12 aR13 aR14 aR15 aR16 aR17 aR18 aR19 aR20 aR21 lv sg pd (aActs ac, aAct ac, aWho ac, (upd (aHour ac) (aActs ac).toNatClampNeg (((aHour ac) (aActs ac).toNatClampNeg) + (xc - (48 : Int32)))), aWhom ac) dd hd le bd my lf pa kp ((aAct ac) (aActs ac).toNatClampNeg) ha) hx hb hml hts hown hK hNW hP hD [0, 1, 2, 3, 4, 5, 6, 7, 8, 9, 10, 11, 12, 13, 14, 15, 16, 17, 18, 19, 20, 21] rfl rfl 6 0 rfl rfl (cwV 1 hts gX6_readOn_X6_close rfl rfl rfl (by decide +kernel) ⟨(Nat.le_of_ble_eq_true rfl), (Nat.le_of_ble_eq_true rfl)⟩) rfl hl.1 rfl (Nat.le_of_ble_eq_true rfl) dX6_readOn_170
      refine mc_i (wr := ([] : va_W)) hr hP hD hS hA [0, 1, 2, 3, 4, 5, 6, 7, 8, 9, 10, 11, 12, 13, 14, 15, 16, 17, 18, 19, 20, 21] [] [0, 1, 2, 3, 4, 5, 6, 7, 8, 9, 10, 11, 12, 13, 14, 15, 16, 17, 18, 19, 20, 21] rfl rfl rfl rfl rfl (wn := fun u_170 => (wR cI cJ cZ aR0 aR1 aR2 aR3 aR4 aR5 aR6 aR7 aR8 aR9 aR10 aR11 aR12 aR13 aR14 aR15 aR16 aR17 aR18 aR19 aR20 aR21 lv sg pd u_170 dd hd le bd my lf pa kp)) (fun _ => rfl) (fun r_170 u_170 H locs hw_170 hP hD hS => ?_)
      have hP : va_P δ vwCl (wR cI cJ cZ aR0 aR1 aR2 aR3 aR4 aR5 aR6 aR7 aR8 aR9 aR10 aR11 aR12 aR13 aR14 aR15 aR16 aR17 aR18 aR19 aR20 aR21 lv sg pd u_170 dd hd le bd my lf pa kp) H := hP
      have hD : va_D A (wR cI cJ cZ aR0 aR1 aR2 aR3 aR4 aR5 aR6 aR7 aR8 aR9 aR10 aR11 aR12 aR13 aR14 aR15 aR16 aR17 aR18 aR19 aR20 aR21 lv sg pd u_170 dd hd le bd my lf pa kp) := hD
      have hR := bnd_eq hR hw_170.symm
      refine lv_goto (tgt := 178) hx hb dX6_readOn_173 (by decide) ?_
      exact hret _ _ r_170 u_170 _ _ hR hP hD hS dX6_readOn_178
  · have c_124 : (((aHour ac) (aActs ac).toNatClampNeg) = (20 : Int32)) := c_124
    have hR := hR.trans (if_pos c_124)
    refine lv_ldc2 (v := (51 : Int64)) hx hb hown (hts (.constantLong RX6 143 (51)) (List.mem_of_getElem? (i := 6) rfl)) dX6_readOn_127 ?_
    refine lv_goto (tgt := 136) hx hb dX6_readOn_130 (by decide) ?_
    have hr := mrS (p := p) (e := e) (R := rm_X6_readOn) (below := below) (meth := meth) (H := H) (locs := locs) (ls := ls) (As := [.long (xc.toInt64), .long (48 : Int64), .long (51 : Int64)]) (rest := []) (c_X6_in l δ cI cJ cZ (xc.toInt64) (48 : Int64) (51 : Int64)) hx hb hml hts hown hK hNW hP hD [] rfl rfl (va_cwS 3 hts gX6_readOn_X6_in rfl rfl rfl (by decide +kernel) ⟨(Nat.le_of_ble_eq_true rfl), (Nat.le_of_ble_eq_true rfl)⟩) rfl hl.1 rfl (Nat.le_of_ble_eq_true rfl) dX6_readOn_136
    refine mc_i (wr := (wR cI cJ cZ aR0 aR1 aR2 aR3 aR4 aR5 aR6 aR7 aR8 aR9 aR10 aR11 aR12 aR13 aR14 aR15 aR16 aR17 aR18 aR19 aR20 aR21 lv sg pd ac dd hd le bd my lf pa kp)) hr hP hD hS hA [] [0, 1, 2, 3, 4, 5, 6, 7, 8, 9, 10, 11, 12, 13, 14, 15, 16, 17, 18, 19, 20, 21] [0, 1, 2, 3, 4, 5, 6, 7, 8, 9, 10, 11, 12, 13, 14, 15, 16, 17, 18, 19, 20, 21] rfl rfl rfl rfl rfl (wn := fun _ => (wR cI cJ cZ aR0 aR1 aR2 aR3 aR4 aR5 aR6 aR7 aR8 aR9 aR10 aR11 aR12 aR13 aR14 aR15 aR16 aR17 aR18 aR19 aR20 aR21 lv sg pd ac dd hd le bd my lf pa kp)) (fun _ => rfl) (fun r_136 _ H locs hw_136 hP hD hS => ?_)
    obtain ⟨hw_136, z_136⟩ := hw_136
    have hP : va_P δ vwCl (wR cI cJ cZ aR0 aR1 aR2 aR3 aR4 aR5 aR6 aR7 aR8 aR9 aR10 aR11 aR12 aR13 aR14 aR15 aR16 aR17 aR18 aR19 aR20 aR21 lv sg pd ac dd hd le bd my lf pa kp) H := hP
    have hD : va_D A (wR cI cJ cZ aR0 aR1 aR2 aR3 aR4 aR5 aR6 aR7 aR8 aR9 aR10 aR11 aR12 aR13 aR14 aR15 aR16 aR17 aR18 aR19 aR20 aR21 lv sg pd ac dd hd le bd my lf pa kp) := hD
    have hR := bnd_eq hR hw_136.symm
    refine lv_istore_n (lv' := [(3, .int r_136), (0, .ref aR0), (1, .int xd), (2, .int xc)]) hx hb dX6_readOn_139 rfl hl (by decide) rfl (fun ls hl => ?_)
    refine lv_aload_n hx hb dX6_readOn_140 rfl (lv_at hl 1 rfl) ?_
    refine va_get (D := δ) (ci := 6) (v := .ref aR10) (C := RX6) (T := TX6) (N := 34) hx hb hts hinX6 hown hK hP 0 rfl rfl 14 (by decide) (hts (.fieldLink RX6 37 "GloveHoursModel" "hour" "[I") (List.mem_of_getElem? (i := 3) rfl)) (fun _ h9 => h9) rfl dX6_readOn_141 ?_
    refine lv_aload_n hx hb dX6_readOn_144 rfl (lv_at hl 1 rfl) ?_
    refine va_get (D := δ) (ci := 6) (v := .int (aActs ac)) (C := RX6) (T := TX6) (N := 34) hx hb hts hinX6 hown hK hP 0 rfl rfl 16 (by decide) (hts (.fieldLink RX6 124 "GloveHoursModel" "acts" "I") (List.mem_of_getElem? (i := 2) rfl)) (fun _ h9 => h9) rfl dX6_readOn_145 ?_
    refine lv_dup2_11 hx hb dX6_readOn_148 rfl rfl ?_
    refine va_iald hx hb hK hP 10 0 rfl rfl ha dX6_readOn_149 ?_
    refine lv_iload_n hx hb dX6_readOn_150 rfl (lv_at hl 3 rfl) ?_
    refine lv_bipush (v := (48 : Int32)) hx hb dX6_readOn_151 (by decide) ?_
    refine lv_isub hx hb dX6_readOn_153 ?_
    refine lv_iadd hx hb dX6_readOn_154 ?_
    refine va_iast hx hb hK hP hD hS 10 0 rfl rfl ha dX6_readOn_155 (fun H locs hP hD hS => ?_)
    have hP : va_P δ vwCl (wR cI cJ cZ aR0 aR1 aR2 aR3 aR4 aR5 aR6 aR7 aR8 aR9 aR10 aR11 aR12 aR13 aR14 aR15 aR16 aR17 aR18 aR19 aR20 aR21 lv sg pd (aActs ac, aAct ac, aWho ac, (upd (aHour ac) (aActs ac).toNatClampNeg (((aHour ac) (aActs ac).toNatClampNeg) + (xc - (48 : Int32)))), aWhom ac) dd hd le bd my lf pa kp) H := hP
    have hD : va_D A (wR cI cJ cZ aR0 aR1 aR2 aR3 aR4 aR5 aR6 aR7 aR8 aR9 aR10 aR11 aR12 aR13 aR14 aR15 aR16 aR17 aR18 aR19 aR20 aR21 lv sg pd (aActs ac, aAct ac, aWho ac, (upd (aHour ac) (aActs ac).toNatClampNeg (((aHour ac) (aActs ac).toNatClampNeg) + (xc - (48 : Int32)))), aWhom ac) dd hd le bd my lf pa kp) := hD
    refine lv_iload_n hx hb dX6_readOn_156 rfl (lv_at hl 0 rfl) ?_
    refine lv_if_eq (tgt := 176) hx hb dX6_readOn_157 (by decide) (fun c_157 => ?_) (fun c_157 => ?_)
    · have c_157 : (r_136 = 0) := c_157
      have hR := hR.trans (if_pos c_157)
      refine lv_bipush (v := (-6 : Int32)) hx hb dX6_readOn_176 (by decide) ?_
      exact hret _ _ (-6 : Int32) (aActs ac, aAct ac, aWho ac, (upd (aHour ac) (aActs ac).toNatClampNeg (((aHour ac) (aActs ac).toNatClampNeg) + (xc - (48 : Int32)))), aWhom ac) _ _ hR hP hD hS dX6_readOn_178
    · have c_157 : ¬ (r_136 = 0) := c_157
      have hR := hR.trans (if_neg c_157)
      refine lv_aload_n hx hb dX6_readOn_160 rfl (lv_at hl 1 rfl) ?_
      refine lv_aload_n hx hb dX6_readOn_161 rfl (lv_at hl 1 rfl) ?_
      refine va_get (D := δ) (ci := 6) (v := .ref aR8) (C := RX6) (T := TX6) (N := 34) hx hb hts hinX6 hown hK hP 0 rfl rfl 12 (by decide) (hts (.fieldLink RX6 31 "GloveHoursModel" "act" "[I") (List.mem_of_getElem? (i := 8) rfl)) (fun _ h9 => h9) rfl dX6_readOn_162 ?_
      refine lv_aload_n hx hb dX6_readOn_165 rfl (lv_at hl 1 rfl) ?_
      refine va_get (D := δ) (ci := 6) (v := .int (aActs ac)) (C := RX6) (T := TX6) (N := 34) hx hb hts hinX6 hown hK hP 0 rfl rfl 16 (by decide) (hts (.fieldLink RX6 124 "GloveHoursModel" "acts" "I") (List.mem_of_getElem? (i := 2) rfl)) (fun _ h9 => h9) rfl dX6_readOn_166 ?_
      refine va_iald hx hb hK hP 8 0 rfl rfl ha dX6_readOn_169 ?_
      have hr := mrV (p := p) (e := e) (R := rm_X6_readOn) (below := below) (meth := meth) (H := H) (locs := locs) (ls := ls) (As := [.int ((aAct ac) (aActs ac).toNatClampNeg)]) (rest := []) (c_X6_close l δ cI cJ cZ aR0 aR1 aR2 aR3 aR4 aR5 aR6 aR7 aR8 aR9 aR10 aR11 aR12 aR13 aR14 aR15 aR16 aR17 aR18 aR19 aR20 aR21 lv sg pd (aActs ac, aAct ac, aWho ac, (upd (aHour ac) (aActs ac).toNatClampNeg (((aHour ac) (aActs ac).toNatClampNeg) + (xc - (48 : Int32)))), aWhom ac) dd hd le bd my lf pa kp ((aAct ac) (aActs ac).toNatClampNeg) ha) hx hb hml hts hown hK hNW hP hD [0, 1, 2, 3, 4, 5, 6, 7, 8, 9, 10, 11, 12, 13, 14, 15, 16, 17, 18, 19, 20, 21] rfl rfl 6 0 rfl rfl (cwV 1 hts gX6_readOn_X6_close rfl rfl rfl (by decide +kernel) ⟨(Nat.le_of_ble_eq_true rfl), (Nat.le_of_ble_eq_true rfl)⟩) rfl hl.1 rfl (Nat.le_of_ble_eq_true rfl) dX6_readOn_170
      refine mc_i (wr := ([] : va_W)) hr hP hD hS hA [0, 1, 2, 3, 4, 5, 6, 7, 8, 9, 10, 11, 12, 13, 14, 15, 16, 17, 18, 19, 20, 21] [] [0, 1, 2, 3, 4, 5, 6, 7, 8, 9, 10, 11, 12, 13, 14, 15, 16, 17, 18, 19, 20, 21] rfl rfl rfl rfl rfl (wn := fun u_170 => (wR cI cJ cZ aR0 aR1 aR2 aR3 aR4 aR5 aR6 aR7 aR8 aR9 aR10 aR11 aR12 aR13 aR14 aR15 aR16 aR17 aR18 aR19 aR20 aR21 lv sg pd u_170 dd hd le bd my lf pa kp)) (fun _ => rfl) (fun r_170 u_170 H locs hw_170 hP hD hS => ?_)
      have hP : va_P δ vwCl (wR cI cJ cZ aR0 aR1 aR2 aR3 aR4 aR5 aR6 aR7 aR8 aR9 aR10 aR11 aR12 aR13 aR14 aR15 aR16 aR17 aR18 aR19 aR20 aR21 lv sg pd u_170 dd hd le bd my lf pa kp) H := hP
      have hD : va_D A (wR cI cJ cZ aR0 aR1 aR2 aR3 aR4 aR5 aR6 aR7 aR8 aR9 aR10 aR11 aR12 aR13 aR14 aR15 aR16 aR17 aR18 aR19 aR20 aR21 lv sg pd u_170 dd hd le bd my lf pa kp) := hD
      have hR := bnd_eq hR hw_170.symm
      refine lv_goto (tgt := 178) hx hb dX6_readOn_173 (by decide) ?_
      exact hret _ _ r_170 u_170 _ _ hR hP hD hS dX6_readOn_178

abbrev rm_X6_fault : Room := { frames := 4, cells := 0, slots := 0, locals := 89 }
set_option maxHeartbeats 4000000 in
set_option maxRecDepth 100000 in
theorem c_X6_fault (l : Launch) (δ : va_G) (cI cJ cZ : ClassId) (aR0 aR1 aR2 aR3 aR4 aR5 aR6 aR7 aR8 aR9 aR10 aR11 aR12 aR13 aR14 aR15 aR16 aR17 aR18 aR19 aR20 aR21 : Nat) (lv : LV) (sg : SG) (pd : PD) (ac : AC) (dd : DD) (hd : HD) (le : LE) (bd : BD) (my : MY) (lf : LF) (pa : PA) (kp : KP) (hq : vp_in (qPadMany pd) 61) : mMi l δ (mTy cI cJ cZ) yX6_fault wsX6_fault rm_X6_fault [.ref aR0] (wR cI cJ cZ aR0 aR1 aR2 aR3 aR4 aR5 aR6 aR7 aR8 aR9 aR10 aR11 aR12 aR13 aR14 aR15 aR16 aR17 aR18 aR19 aR20 aR21 lv sg pd ac dd hd le bd my lf pa kp) (S := AC) (fun r u => F_X6_fault pd ac = (r, u)) (fun u => (wR cI cJ cZ aR0 aR1 aR2 aR3 aR4 aR5 aR6 aR7 aR8 aR9 aR10 aR11 aR12 aR13 aR14 aR15 aR16 aR17 aR18 aR19 aR20 aR21 lv sg pd u dd hd le bd my lf pa kp)) := by
  refine mk_i (cc := cX6_fault) (maxL := 3) (by decide) rfl (Nat.le_of_ble_eq_true rfl) ?_
  intro p e s m args below meth c A Q ls H locs hx hb hml hts hown hK hNW hA hP hD hS hl hret
  have hown : s.vm.findClass RX6 = some m.cls := hown
  have hl : lv_has ls 3 [(0, .ref aR0)] := hl
  have hinX6 : ∀ w ∈ u_ws RX6 TX6 34, w ∈ wsX6_fault := (fun _ h => List.mem_cons_of_mem _ (List.mem_append_right _ (h)))
  have hR := F_X6_fault.eq_1 pd ac
  have hq2 := in_61 hq
  refine lv_aload_n hx hb dX6_fault_0 rfl (lv_at hl 0 rfl) ?_
  refine lv_iconst (v := (0 : Int32)) hx hb dX6_fault_1 (by decide) ?_
  refine va_put (D := δ) (ci := 6) (v := .int (0 : Int32)) (ty := .int) (C := RX6) (T := TX6) (N := 34) hx hb hts hinX6 tyX6 tyX6_ok nmX6 hown hK hP hD hS 0 rfl rfl 16 (by decide) (hts (.fieldLink RX6 124 "GloveHoursModel" "acts" "I") (List.mem_of_getElem? (i := 1) rfl)) (fun _ h9 => h9) rfl (by decide +kernel) rfl rfl (Nat.le_of_ble_eq_true rfl) dX6_fault_2 (fun H locs hP hD hS => ?_)
  have hP : va_P δ vwCl (wR cI cJ cZ aR0 aR1 aR2 aR3 aR4 aR5 aR6 aR7 aR8 aR9 aR10 aR11 aR12 aR13 aR14 aR15 aR16 aR17 aR18 aR19 aR20 aR21 lv sg pd ((0 : Int32), aAct ac, aWho ac, aHour ac, aWhom ac) dd hd le bd my lf pa kp) H := hP
  have hD : va_D A (wR cI cJ cZ aR0 aR1 aR2 aR3 aR4 aR5 aR6 aR7 aR8 aR9 aR10 aR11 aR12 aR13 aR14 aR15 aR16 aR17 aR18 aR19 aR20 aR21 lv sg pd ((0 : Int32), aAct ac, aWho ac, aHour ac, aWhom ac) dd hd le bd my lf pa kp) := hD
  refine lv_iconst (v := (0 : Int32)) hx hb dX6_fault_5 (by decide) ?_
  refine lv_istore_n (lv' := [(1, .int (0 : Int32)), (0, .ref aR0)]) hx hb dX6_fault_6 rfl hl (by decide) rfl (fun ls hl => ?_)
  refine lv_iconst (v := (0 : Int32)) hx hb dX6_fault_7 (by decide) ?_
  refine lv_istore_n (lv' := [(2, .int (0 : Int32)), (1, .int (0 : Int32)), (0, .ref aR0)]) hx hb dX6_fault_8 rfl hl (by decide) rfl (fun ls hl => ?_)
  have hloop_9 : ∀ (n_9 : Nat) (i_9 : Nat) (v1_9 : Int32) (ac_9 : AC) (H : Heap) (locs : List Loc) (ls : Array Slot), (hi_9 : i_9 ≤ (qPadMany pd).toNatClampNeg) → (hn_9 : (qPadMany pd).toNatClampNeg < i_9 + n_9) → (ha_9 : 0 ≤ (aActs ac_9).toInt ∧ (aActs ac_9).toInt ≤ i_9) → (hP : va_P δ vwCl (wR cI cJ cZ aR0 aR1 aR2 aR3 aR4 aR5 aR6 aR7 aR8 aR9 aR10 aR11 aR12 aR13 aR14 aR15 aR16 aR17 aR18 aR19 aR20 aR21 lv sg pd ac_9 dd hd le bd my lf pa kp) H) → (hD : va_D A (wR cI cJ cZ aR0 aR1 aR2 aR3 aR4 aR5 aR6 aR7 aR8 aR9 aR10 aR11 aR12 aR13 aR14 aR15 aR16 aR17 aR18 aR19 aR20 aR21 lv sg pd ac_9 dd hd le bd my lf pa kp)) → (hS : va_S A s.heap H locs) → (hl : lv_has ls 3 [(2, .int (nI i_9)), (1, .int v1_9), (0, .ref aR0)]) → (hR : F_X6_fault pd ac = L_X6_fault_9 pd n_9 i_9 v1_9 ac_9) → W p l e rm_X6_fault s m args below meth c H locs 0 0 Q (F0 m 9 ls []) := by
    intro n_9
    induction n_9 with
    | zero => intro i_9 v1_9 ac_9 H locs ls hi_9 hn_9 ha_9 hP hD hS hl hR; exact absurd hn_9 (by omega)
    | succ n_9 ih_9 =>
      intro i_9 v1_9 ac_9 H locs ls hi_9 hn_9 ha_9 hP hD hS hl hR
      have hR := hR.trans (L_X6_fault_9_s pd n_9 i_9 v1_9 ac_9)
      refine lv_iload_n hx hb dX6_fault_9 rfl (lv_at hl 0 rfl) ?_
      refine lv_aload_n hx hb dX6_fault_10 rfl (lv_at hl 2 rfl) ?_
      refine va_get (D := δ) (ci := 6) (v := .int (qPadMany pd)) (C := RX6) (T := TX6) (N := 34) hx hb hts hinX6 hown hK hP 0 rfl rfl 11 (by decide) (hts (.fieldLink RX6 117 "GloveHoursModel" "padMany" "I") (List.mem_of_getElem? (i := 2) rfl)) (fun _ h9 => h9) rfl dX6_fault_11 ?_
      refine lv_icmp_ge (tgt := 41) hx hb dX6_fault_14 (by decide) (fun c_14 => ?_) (fun c_14 => ?_)
      · have c_14 : ((qPadMany pd) ≤ (nI i_9)) := c_14
        have hR := hR.trans (if_pos c_14)
        refine lv_iload_n hx hb dX6_fault_41 rfl (lv_at hl 1 rfl) ?_
        refine lv_if_ne (tgt := 50) hx hb dX6_fault_42 (by decide) (fun c_42 => ?_) (fun c_42 => ?_)
        · have c_42 : ¬ (v1_9 = 0) := c_42
          have hR := hR.trans (if_neg c_42)
          refine lv_aload_n hx hb dX6_fault_50 rfl (lv_at hl 2 rfl) ?_
          refine va_get (D := δ) (ci := 6) (v := .int (qPadMany pd)) (C := RX6) (T := TX6) (N := 34) hx hb hts hinX6 hown hK hP 0 rfl rfl 11 (by decide) (hts (.fieldLink RX6 117 "GloveHoursModel" "padMany" "I") (List.mem_of_getElem? (i := 2) rfl)) (fun _ h9 => h9) rfl dX6_fault_51 ?_
          exact hret _ _ (qPadMany pd) ac_9 _ _ hR hP hD hS dX6_fault_54
        · have c_42 : (v1_9 = 0) := c_42
          have hR := hR.trans (if_pos c_42)
          refine lv_bipush (v := (-6 : Int32)) hx hb dX6_fault_45 (by decide) ?_
          refine lv_goto (tgt := 54) hx hb dX6_fault_47 (by decide) ?_
          exact hret _ _ (-6 : Int32) ac_9 _ _ hR hP hD hS dX6_fault_54
      · have c_14 : ¬ ((qPadMany pd) ≤ (nI i_9)) := c_14
        have hR := hR.trans (if_neg c_14)
        have hlt_9 : i_9 < (qPadMany pd).toNatClampNeg := lt_c c_14 hi_9
        refine lv_aload_n hx hb dX6_fault_17 rfl (lv_at hl 2 rfl) ?_
        refine lv_iload_n hx hb dX6_fault_18 rfl (lv_at hl 1 rfl) ?_
        refine lv_aload_n hx hb dX6_fault_19 rfl (lv_at hl 2 rfl) ?_
        refine va_get (D := δ) (ci := 6) (v := .ref aR7) (C := RX6) (T := TX6) (N := 34) hx hb hts hinX6 hown hK hP 0 rfl rfl 10 (by decide) (hts (.fieldLink RX6 28 "GloveHoursModel" "pad" "[I") (List.mem_of_getElem? (i := 3) rfl)) (fun _ h9 => h9) rfl dX6_fault_20 ?_
        refine lv_iload_n hx hb dX6_fault_23 rfl (lv_at hl 0 rfl) ?_
        refine va_iald hx hb hK hP 7 0 rfl rfl (vp_in_nI (by omega) (by decide)) dX6_fault_24 ?_
        have hr := mrV (p := p) (e := e) (R := rm_X6_fault) (below := below) (meth := meth) (H := H) (locs := locs) (ls := ls) (As := [.int v1_9, .int ((qPad pd) (nI i_9).toNatClampNeg)]) (rest := []) (c_X6_readOn l δ cI cJ cZ aR0 aR1 aR2 aR3 aR4 aR5 aR6 aR7 aR8 aR9 aR10 aR11 aR12 aR13 aR14 aR15 aR16 aR17 aR18 aR19 aR20 aR21 lv sg pd ac_9 dd hd le bd my lf pa kp v1_9 ((qPad pd) (nI i_9).toNatClampNeg) (acts_in ha_9 (by omega))) hx hb hml hts hown hK hNW hP hD [0, 1, 2, 3, 4, 5, 6, 7, 8, 9, 10, 11, 12, 13, 14, 15, 16, 17, 18, 19, 20, 21] rfl rfl 6 0 rfl rfl (cwV 2 hts gX6_fault_X6_readOn rfl rfl rfl (by decide +kernel) ⟨(Nat.le_of_ble_eq_true rfl), (Nat.le_of_ble_eq_true rfl)⟩) rfl hl.1 rfl (Nat.le_of_ble_eq_true rfl) dX6_fault_25
        refine mc_i (wr := ([] : va_W)) hr hP hD hS hA [0, 1, 2, 3, 4, 5, 6, 7, 8, 9, 10, 11, 12, 13, 14, 15, 16, 17, 18, 19, 20, 21] [] [0, 1, 2, 3, 4, 5, 6, 7, 8, 9, 10, 11, 12, 13, 14, 15, 16, 17, 18, 19, 20, 21] rfl rfl rfl rfl rfl (wn := fun u_25 => (wR cI cJ cZ aR0 aR1 aR2 aR3 aR4 aR5 aR6 aR7 aR8 aR9 aR10 aR11 aR12 aR13 aR14 aR15 aR16 aR17 aR18 aR19 aR20 aR21 lv sg pd u_25 dd hd le bd my lf pa kp)) (fun _ => rfl) (fun r_25 u_25 H locs hw_25 hP hD hS => ?_)
        have hP : va_P δ vwCl (wR cI cJ cZ aR0 aR1 aR2 aR3 aR4 aR5 aR6 aR7 aR8 aR9 aR10 aR11 aR12 aR13 aR14 aR15 aR16 aR17 aR18 aR19 aR20 aR21 lv sg pd u_25 dd hd le bd my lf pa kp) H := hP
        have hD : va_D A (wR cI cJ cZ aR0 aR1 aR2 aR3 aR4 aR5 aR6 aR7 aR8 aR9 aR10 aR11 aR12 aR13 aR14 aR15 aR16 aR17 aR18 aR19 aR20 aR21 lv sg pd u_25 dd hd le bd my lf pa kp) := hD
        have hR := bnd_eq hR hw_25.symm
        refine lv_istore_n (lv' := [(1, .int r_25), (2, .int (nI i_9)), (0, .ref aR0)]) hx hb dX6_fault_28 rfl hl (by decide) rfl (fun ls hl => ?_)
        refine lv_iload_n hx hb dX6_fault_29 rfl (lv_at hl 0 rfl) ?_
        refine lv_if_ge (tgt := 35) hx hb dX6_fault_30 (by decide) (fun c_30 => ?_) (fun c_30 => ?_)
        · have c_30 : (0 ≤ r_25) := c_30
          have hR := hR.trans (if_pos c_30)
          refine lv_iinc (v := (nI (i_9 + 1))) (lv' := [(2, .int (nI (i_9 + 1))), (1, .int r_25), (0, .ref aR0)]) hx hb dX6_fault_35 hl (k := 1) rfl (nI_1 i_9) (by decide) rfl (fun ls hl => ?_)
          refine lv_goto (tgt := 9) hx hb dX6_fault_38 (by decide) ?_
          exact ih_9 (i_9 + 1) r_25 u_25 _ _ _ (by omega) (by omega) (readOn_acts hw_25 ha_9 (by omega)) hP hD hS (lv_sub hl [0, 1, 2] rfl) hR
        · have c_30 : ¬ (0 ≤ r_25) := c_30
          have hR := hR.trans (if_neg c_30)
          refine lv_iload_n hx hb dX6_fault_33 rfl (lv_at hl 1 rfl) ?_
          exact hret _ _ (nI i_9) u_25 _ _ hR hP hD hS dX6_fault_34
  exact hloop_9 ((qPadMany pd).toNatClampNeg + 1) 0 (0 : Int32) ((0 : Int32), aAct ac, aWho ac, aHour ac, aWhom ac) _ _ _ (by omega) (by omega) acts0 hP hD hS (lv_sub hl [0, 1, 2] rfl) hR

abbrev rm_X6_isProper : Room := { frames := 2, cells := 0, slots := 0, locals := 46 }
set_option maxHeartbeats 4000000 in
set_option maxRecDepth 100000 in
theorem c_X6_isProper (l : Launch) (δ : va_G) (cI cJ cZ : ClassId) (aR0 aR1 aR2 aR3 aR4 aR5 aR6 aR7 aR8 aR9 aR10 aR11 aR12 aR13 aR14 aR15 aR16 aR17 aR18 aR19 aR20 aR21 : Nat) (lv : LV) (sg : SG) (pd : PD) (ac : AC) (dd : DD) (hd : HD) (le : LE) (bd : BD) (my : MY) (lf : LF) (pa : PA) (kp : KP) (xc : Int32) : mMi l δ (mTy cI cJ cZ) yX6_isProper wsX6_isProper rm_X6_isProper [.ref aR0, .int xc] (wR cI cJ cZ aR0 aR1 aR2 aR3 aR4 aR5 aR6 aR7 aR8 aR9 aR10 aR11 aR12 aR13 aR14 aR15 aR16 aR17 aR18 aR19 aR20 aR21 lv sg pd ac dd hd le bd my lf pa kp) (S := Unit) (fun r _ => F_X6_isProper lv xc = r ∧ mZ r) (fun _ => (wR cI cJ cZ aR0 aR1 aR2 aR3 aR4 aR5 aR6 aR7 aR8 aR9 aR10 aR11 aR12 aR13 aR14 aR15 aR16 aR17 aR18 aR19 aR20 aR21 lv sg pd ac dd hd le bd my lf pa kp)) := by
  refine mk_z (post := fun r _ => F_X6_isProper lv xc = r) (cc := cX6_isProper) (maxL := 3) (by decide) rfl (Nat.le_of_ble_eq_true rfl) ?_
  intro p e s m args below meth c A Q ls H locs hx hb hml hts hown hK hNW hA hP hD hS hl hret
  have hown : s.vm.findClass RX6 = some m.cls := hown
  have hl : lv_has ls 3 [(0, .ref aR0), (1, .int xc)] := hl
  have hinX6 : ∀ w ∈ u_ws RX6 TX6 34, w ∈ wsX6_isProper := (fun _ h => List.mem_cons_of_mem _ (List.mem_append_right _ (h)))
  have hR := F_X6_isProper.eq_1 lv xc
  refine lv_aload_n hx hb dX6_isProper_0 rfl (lv_at hl 0 rfl) ?_
  refine va_get (D := δ) (ci := 6) (v := .int (vClock lv)) (C := RX6) (T := TX6) (N := 34) hx hb hts hinX6 hown hK hP 0 rfl rfl 1 (by decide) (hts (.fieldLink RX6 110 "GloveHoursModel" "clock" "I") (List.mem_of_getElem? (i := 1) rfl)) (fun _ h9 => h9) rfl dX6_isProper_1 ?_
  refine lv_bipush (v := (24 : Int32)) hx hb dX6_isProper_4 (by decide) ?_
  refine lv_iadd hx hb dX6_isProper_6 ?_
  refine lv_iconst (v := (1 : Int32)) hx hb dX6_isProper_7 (by decide) ?_
  refine lv_isub hx hb dX6_isProper_8 ?_
  refine lv_bipush (v := (24 : Int32)) hx hb dX6_isProper_9 (by decide) ?_
  refine lv_irem hx hb dX6_isProper_11 (by decide) ?_
  refine lv_istore_n (lv' := [(2, .int ((((vClock lv) + (24 : Int32)) - (1 : Int32)) - (((vClock lv) + (24 : Int32)) - (1 : Int32)) / (24 : Int32) * (24 : Int32))), (0, .ref aR0), (1, .int xc)]) hx hb dX6_isProper_12 rfl hl (by decide) rfl (fun ls hl => ?_)
  refine lv_aload_n hx hb dX6_isProper_13 rfl (lv_at hl 1 rfl) ?_
  refine lv_iload_n hx hb dX6_isProper_14 rfl (lv_at hl 2 rfl) ?_
  have hr := mrV (p := p) (e := e) (R := rm_X6_isProper) (below := below) (meth := meth) (H := H) (locs := locs) (ls := ls) (As := [.int xc]) (rest := []) (c_X6_isCourtier l δ cI cJ cZ aR0 aR1 aR2 aR3 aR4 aR5 aR6 aR7 aR8 aR9 aR10 aR11 aR12 aR13 aR14 aR15 aR16 aR17 aR18 aR19 aR20 aR21 lv sg pd ac dd hd le bd my lf pa kp xc) hx hb hml hts hown hK hNW hP hD [0, 1, 2, 3, 4, 5, 6, 7, 8, 9, 10, 11, 12, 13, 14, 15, 16, 17, 18, 19, 20, 21] rfl rfl 6 0 rfl rfl (cwV 1 hts gX6_isProper_X6_isCourtier rfl rfl rfl (by decide +kernel) ⟨(Nat.le_of_ble_eq_true rfl), (Nat.le_of_ble_eq_true rfl)⟩) rfl hl.1 rfl (Nat.le_of_ble_eq_true rfl) dX6_isProper_15
  refine mc_i (wr := ([] : va_W)) hr hP hD hS hA [0, 1, 2, 3, 4, 5, 6, 7, 8, 9, 10, 11, 12, 13, 14, 15, 16, 17, 18, 19, 20, 21] [] [0, 1, 2, 3, 4, 5, 6, 7, 8, 9, 10, 11, 12, 13, 14, 15, 16, 17, 18, 19, 20, 21] rfl rfl rfl rfl rfl (wn := fun _ => (wR cI cJ cZ aR0 aR1 aR2 aR3 aR4 aR5 aR6 aR7 aR8 aR9 aR10 aR11 aR12 aR13 aR14 aR15 aR16 aR17 aR18 aR19 aR20 aR21 lv sg pd ac dd hd le bd my lf pa kp)) (fun _ => rfl) (fun r_15 _ H locs hw_15 hP hD hS => ?_)
  obtain ⟨hw_15, z_15⟩ := hw_15
  have hP : va_P δ vwCl (wR cI cJ cZ aR0 aR1 aR2 aR3 aR4 aR5 aR6 aR7 aR8 aR9 aR10 aR11 aR12 aR13 aR14 aR15 aR16 aR17 aR18 aR19 aR20 aR21 lv sg pd ac dd hd le bd my lf pa kp) H := hP
  have hD : va_D A (wR cI cJ cZ aR0 aR1 aR2 aR3 aR4 aR5 aR6 aR7 aR8 aR9 aR10 aR11 aR12 aR13 aR14 aR15 aR16 aR17 aR18 aR19 aR20 aR21 lv sg pd ac dd hd le bd my lf pa kp) := hD
  have hR := bnd_eq hR hw_15.symm
  refine lv_if_eq (tgt := 61) hx hb dX6_isProper_18 (by decide) (fun c_18 => ?_) (fun c_18 => ?_)
  · have c_18 : (r_15 = 0) := c_18
    have hR := hR.trans (if_pos c_18)
    refine lv_iconst (v := (0 : Int32)) hx hb dX6_isProper_61 (by decide) ?_
    exact hret _ _ (0 : Int32) () _ _ hR (Or.inl rfl) hP hD hS dX6_isProper_62
  · have c_18 : ¬ (r_15 = 0) := c_18
    have hR := hR.trans (if_neg c_18)
    refine lv_aload_n hx hb dX6_isProper_21 rfl (lv_at hl 1 rfl) ?_
    refine va_get (D := δ) (ci := 6) (v := .ref aR2) (C := RX6) (T := TX6) (N := 34) hx hb hts hinX6 hown hK hP 0 rfl rfl 4 (by decide) (hts (.fieldLink RX6 13 "GloveHoursModel" "right" "[I") (List.mem_of_getElem? (i := 2) rfl)) (fun _ h9 => h9) rfl dX6_isProper_22 ?_
    refine lv_iload_n hx hb dX6_isProper_25 rfl (lv_at hl 2 rfl) ?_
    refine va_iald hx hb hK hP 2 0 rfl rfl (court_in hw_15 c_18) dX6_isProper_26 ?_
    refine lv_aload_n hx hb dX6_isProper_27 rfl (lv_at hl 1 rfl) ?_
    refine va_get (D := δ) (ci := 6) (v := .int (vClock lv)) (C := RX6) (T := TX6) (N := 34) hx hb hts hinX6 hown hK hP 0 rfl rfl 1 (by decide) (hts (.fieldLink RX6 110 "GloveHoursModel" "clock" "I") (List.mem_of_getElem? (i := 1) rfl)) (fun _ h9 => h9) rfl dX6_isProper_28 ?_
    refine lv_icmp_ne (tgt := 61) hx hb dX6_isProper_31 (by decide) (fun c_31 => ?_) (fun c_31 => ?_)
    · have c_31 : ¬ (((vRight lv) xc.toNatClampNeg) = (vClock lv)) := c_31
      have hR := hR.trans (if_neg c_31)
      refine lv_iconst (v := (0 : Int32)) hx hb dX6_isProper_61 (by decide) ?_
      exact hret _ _ (0 : Int32) () _ _ hR (Or.inl rfl) hP hD hS dX6_isProper_62
    · have c_31 : (((vRight lv) xc.toNatClampNeg) = (vClock lv)) := c_31
      have hR := hR.trans (if_pos c_31)
      refine lv_aload_n hx hb dX6_isProper_34 rfl (lv_at hl 1 rfl) ?_
      refine va_get (D := δ) (ci := 6) (v := .ref aR1) (C := RX6) (T := TX6) (N := 34) hx hb hts hinX6 hown hK hP 0 rfl rfl 3 (by decide) (hts (.fieldLink RX6 7 "GloveHoursModel" "left" "[I") (List.mem_of_getElem? (i := 3) rfl)) (fun _ h9 => h9) rfl dX6_isProper_35 ?_
      refine lv_iload_n hx hb dX6_isProper_38 rfl (lv_at hl 2 rfl) ?_
      refine va_iald hx hb hK hP 1 0 rfl rfl (court_in hw_15 c_18) dX6_isProper_39 ?_
      refine lv_aload_n hx hb dX6_isProper_40 rfl (lv_at hl 1 rfl) ?_
      refine va_get (D := δ) (ci := 6) (v := .int (vClock lv)) (C := RX6) (T := TX6) (N := 34) hx hb hts hinX6 hown hK hP 0 rfl rfl 1 (by decide) (hts (.fieldLink RX6 110 "GloveHoursModel" "clock" "I") (List.mem_of_getElem? (i := 1) rfl)) (fun _ h9 => h9) rfl dX6_isProper_41 ?_
      refine lv_icmp_eq (tgt := 57) hx hb dX6_isProper_44 (by decide) (fun c_44 => ?_) (fun c_44 => ?_)
      · have c_44 : (((vLeft lv) xc.toNatClampNeg) = (vClock lv)) := c_44
        have hR := hR.trans (if_pos c_44)
        refine lv_iconst (v := (1 : Int32)) hx hb dX6_isProper_57 (by decide) ?_
        refine lv_goto (tgt := 62) hx hb dX6_isProper_58 (by decide) ?_
        exact hret _ _ (1 : Int32) () _ _ hR (Or.inr rfl) hP hD hS dX6_isProper_62
      · have c_44 : ¬ (((vLeft lv) xc.toNatClampNeg) = (vClock lv)) := c_44
        have hR := hR.trans (if_neg c_44)
        refine lv_aload_n hx hb dX6_isProper_47 rfl (lv_at hl 1 rfl) ?_
        refine va_get (D := δ) (ci := 6) (v := .ref aR1) (C := RX6) (T := TX6) (N := 34) hx hb hts hinX6 hown hK hP 0 rfl rfl 3 (by decide) (hts (.fieldLink RX6 7 "GloveHoursModel" "left" "[I") (List.mem_of_getElem? (i := 3) rfl)) (fun _ h9 => h9) rfl dX6_isProper_48 ?_
        refine lv_iload_n hx hb dX6_isProper_51 rfl (lv_at hl 2 rfl) ?_
        refine va_iald hx hb hK hP 1 0 rfl rfl (court_in hw_15 c_18) dX6_isProper_52 ?_
        refine lv_iload_n hx hb dX6_isProper_53 rfl (lv_at hl 0 rfl) ?_
        refine lv_icmp_ne (tgt := 61) hx hb dX6_isProper_54 (by decide) (fun c_54 => ?_) (fun c_54 => ?_)
        · have c_54 : ¬ (((vLeft lv) xc.toNatClampNeg) = ((((vClock lv) + (24 : Int32)) - (1 : Int32)) - (((vClock lv) + (24 : Int32)) - (1 : Int32)) / (24 : Int32) * (24 : Int32))) := c_54
          have hR := hR.trans (if_neg c_54)
          refine lv_iconst (v := (0 : Int32)) hx hb dX6_isProper_61 (by decide) ?_
          exact hret _ _ (0 : Int32) () _ _ hR (Or.inl rfl) hP hD hS dX6_isProper_62
        · have c_54 : (((vLeft lv) xc.toNatClampNeg) = ((((vClock lv) + (24 : Int32)) - (1 : Int32)) - (((vClock lv) + (24 : Int32)) - (1 : Int32)) / (24 : Int32) * (24 : Int32))) := c_54
          have hR := hR.trans (if_pos c_54)
          refine lv_iconst (v := (1 : Int32)) hx hb dX6_isProper_57 (by decide) ?_
          refine lv_goto (tgt := 62) hx hb dX6_isProper_58 (by decide) ?_
          exact hret _ _ (1 : Int32) () _ _ hR (Or.inr rfl) hP hD hS dX6_isProper_62

abbrev rm_X6_whyNotTwo : Room := { frames := 3, cells := 0, slots := 0, locals := 68 }
set_option maxHeartbeats 4000000 in
set_option maxRecDepth 100000 in
theorem c_X6_whyNotTwo (l : Launch) (δ : va_G) (cI cJ cZ : ClassId) (aR0 aR1 aR2 aR3 aR4 aR5 aR6 aR7 aR8 aR9 aR10 aR11 aR12 aR13 aR14 aR15 aR16 aR17 aR18 aR19 aR20 aR21 : Nat) (lv : LV) (sg : SG) (pd : PD) (ac : AC) (dd : DD) (hd : HD) (le : LE) (bd : BD) (my : MY) (lf : LF) (pa : PA) (kp : KP) (xw : Int32) (xa : Int32) (xb : Int32) (xh : Int32) (hh : vp_in xh 24) : mMi l δ (mTy cI cJ cZ) yX6_whyNotTwo wsX6_whyNotTwo rm_X6_whyNotTwo [.ref aR0, .int xw, .int xa, .int xb, .int xh] (wR cI cJ cZ aR0 aR1 aR2 aR3 aR4 aR5 aR6 aR7 aR8 aR9 aR10 aR11 aR12 aR13 aR14 aR15 aR16 aR17 aR18 aR19 aR20 aR21 lv sg pd ac dd hd le bd my lf pa kp) (S := Unit) (fun r _ => F_X6_whyNotTwo lv xw xa xb xh = r) (fun _ => (wR cI cJ cZ aR0 aR1 aR2 aR3 aR4 aR5 aR6 aR7 aR8 aR9 aR10 aR11 aR12 aR13 aR14 aR15 aR16 aR17 aR18 aR19 aR20 aR21 lv sg pd ac dd hd le bd my lf pa kp)) := by
  refine mk_i (cc := cX6_whyNotTwo) (maxL := 5) (by decide) rfl (Nat.le_of_ble_eq_true rfl) ?_
  intro p e s m args below meth c A Q ls H locs hx hb hml hts hown hK hNW hA hP hD hS hl hret
  have hown : s.vm.findClass RX6 = some m.cls := hown
  have hl : lv_has ls 5 [(0, .ref aR0), (1, .int xw), (2, .int xa), (3, .int xb), (4, .int xh)] := hl
  have hinX6 : ∀ w ∈ u_ws RX6 TX6 34, w ∈ wsX6_whyNotTwo := (fun _ h => List.mem_cons_of_mem _ (List.mem_append_right _ (h)))
  have hR := F_X6_whyNotTwo.eq_1 lv xw xa xb xh
  refine lv_aload_n hx hb dX6_whyNotTwo_0 rfl (lv_at hl 0 rfl) ?_
  refine lv_iload_n hx hb dX6_whyNotTwo_1 rfl (lv_at hl 2 rfl) ?_
  have hr := mrV (p := p) (e := e) (R := rm_X6_whyNotTwo) (below := below) (meth := meth) (H := H) (locs := locs) (ls := ls) (As := [.int xa]) (rest := []) (c_X6_isCourtier l δ cI cJ cZ aR0 aR1 aR2 aR3 aR4 aR5 aR6 aR7 aR8 aR9 aR10 aR11 aR12 aR13 aR14 aR15 aR16 aR17 aR18 aR19 aR20 aR21 lv sg pd ac dd hd le bd my lf pa kp xa) hx hb hml hts hown hK hNW hP hD [0, 1, 2, 3, 4, 5, 6, 7, 8, 9, 10, 11, 12, 13, 14, 15, 16, 17, 18, 19, 20, 21] rfl rfl 6 0 rfl rfl (cwV 1 hts gX6_whyNotTwo_X6_isCourtier rfl rfl rfl (by decide +kernel) ⟨(Nat.le_of_ble_eq_true rfl), (Nat.le_of_ble_eq_true rfl)⟩) rfl hl.1 rfl (Nat.le_of_ble_eq_true rfl) dX6_whyNotTwo_2
  refine mc_i (wr := ([] : va_W)) hr hP hD hS hA [0, 1, 2, 3, 4, 5, 6, 7, 8, 9, 10, 11, 12, 13, 14, 15, 16, 17, 18, 19, 20, 21] [] [0, 1, 2, 3, 4, 5, 6, 7, 8, 9, 10, 11, 12, 13, 14, 15, 16, 17, 18, 19, 20, 21] rfl rfl rfl rfl rfl (wn := fun _ => (wR cI cJ cZ aR0 aR1 aR2 aR3 aR4 aR5 aR6 aR7 aR8 aR9 aR10 aR11 aR12 aR13 aR14 aR15 aR16 aR17 aR18 aR19 aR20 aR21 lv sg pd ac dd hd le bd my lf pa kp)) (fun _ => rfl) (fun r_2 _ H locs hw_2 hP hD hS => ?_)
  obtain ⟨hw_2, z_2⟩ := hw_2
  have hP : va_P δ vwCl (wR cI cJ cZ aR0 aR1 aR2 aR3 aR4 aR5 aR6 aR7 aR8 aR9 aR10 aR11 aR12 aR13 aR14 aR15 aR16 aR17 aR18 aR19 aR20 aR21 lv sg pd ac dd hd le bd my lf pa kp) H := hP
  have hD : va_D A (wR cI cJ cZ aR0 aR1 aR2 aR3 aR4 aR5 aR6 aR7 aR8 aR9 aR10 aR11 aR12 aR13 aR14 aR15 aR16 aR17 aR18 aR19 aR20 aR21 lv sg pd ac dd hd le bd my lf pa kp) := hD
  have hR := bnd_eq hR hw_2.symm
  refine lv_if_eq (tgt := 16) hx hb dX6_whyNotTwo_5 (by decide) (fun c_5 => ?_) (fun c_5 => ?_)
  · have c_5 : (r_2 = 0) := c_5
    have hR := hR.trans (if_pos c_5)
    refine lv_iconst (v := (1 : Int32)) hx hb dX6_whyNotTwo_16 (by decide) ?_
    exact hret _ _ (1 : Int32) () _ _ hR hP hD hS dX6_whyNotTwo_17
  · have c_5 : ¬ (r_2 = 0) := c_5
    have hR := hR.trans (if_neg c_5)
    refine lv_aload_n hx hb dX6_whyNotTwo_8 rfl (lv_at hl 0 rfl) ?_
    refine lv_iload_n hx hb dX6_whyNotTwo_9 rfl (lv_at hl 3 rfl) ?_
    have hr := mrV (p := p) (e := e) (R := rm_X6_whyNotTwo) (below := below) (meth := meth) (H := H) (locs := locs) (ls := ls) (As := [.int xb]) (rest := []) (c_X6_isCourtier l δ cI cJ cZ aR0 aR1 aR2 aR3 aR4 aR5 aR6 aR7 aR8 aR9 aR10 aR11 aR12 aR13 aR14 aR15 aR16 aR17 aR18 aR19 aR20 aR21 lv sg pd ac dd hd le bd my lf pa kp xb) hx hb hml hts hown hK hNW hP hD [0, 1, 2, 3, 4, 5, 6, 7, 8, 9, 10, 11, 12, 13, 14, 15, 16, 17, 18, 19, 20, 21] rfl rfl 6 0 rfl rfl (cwV 1 hts gX6_whyNotTwo_X6_isCourtier rfl rfl rfl (by decide +kernel) ⟨(Nat.le_of_ble_eq_true rfl), (Nat.le_of_ble_eq_true rfl)⟩) rfl hl.1 rfl (Nat.le_of_ble_eq_true rfl) dX6_whyNotTwo_10
    refine mc_i (wr := ([] : va_W)) hr hP hD hS hA [0, 1, 2, 3, 4, 5, 6, 7, 8, 9, 10, 11, 12, 13, 14, 15, 16, 17, 18, 19, 20, 21] [] [0, 1, 2, 3, 4, 5, 6, 7, 8, 9, 10, 11, 12, 13, 14, 15, 16, 17, 18, 19, 20, 21] rfl rfl rfl rfl rfl (wn := fun _ => (wR cI cJ cZ aR0 aR1 aR2 aR3 aR4 aR5 aR6 aR7 aR8 aR9 aR10 aR11 aR12 aR13 aR14 aR15 aR16 aR17 aR18 aR19 aR20 aR21 lv sg pd ac dd hd le bd my lf pa kp)) (fun _ => rfl) (fun r_10 _ H locs hw_10 hP hD hS => ?_)
    obtain ⟨hw_10, z_10⟩ := hw_10
    have hP : va_P δ vwCl (wR cI cJ cZ aR0 aR1 aR2 aR3 aR4 aR5 aR6 aR7 aR8 aR9 aR10 aR11 aR12 aR13 aR14 aR15 aR16 aR17 aR18 aR19 aR20 aR21 lv sg pd ac dd hd le bd my lf pa kp) H := hP
    have hD : va_D A (wR cI cJ cZ aR0 aR1 aR2 aR3 aR4 aR5 aR6 aR7 aR8 aR9 aR10 aR11 aR12 aR13 aR14 aR15 aR16 aR17 aR18 aR19 aR20 aR21 lv sg pd ac dd hd le bd my lf pa kp) := hD
    have hR := bnd_eq hR hw_10.symm
    refine lv_if_ne (tgt := 18) hx hb dX6_whyNotTwo_13 (by decide) (fun c_13 => ?_) (fun c_13 => ?_)
    · have c_13 : ¬ (r_10 = 0) := c_13
      have hR := hR.trans (if_neg c_13)
      refine lv_iload_n hx hb dX6_whyNotTwo_18 rfl (lv_at hl 2 rfl) ?_
      refine lv_iload_n hx hb dX6_whyNotTwo_19 rfl (lv_at hl 3 rfl) ?_
      refine lv_icmp_ne (tgt := 25) hx hb dX6_whyNotTwo_20 (by decide) (fun c_20 => ?_) (fun c_20 => ?_)
      · have c_20 : ¬ (xa = xb) := c_20
        have hR := hR.trans (if_neg c_20)
        refine lv_iload_n hx hb dX6_whyNotTwo_25 rfl (lv_at hl 1 rfl) ?_
        refine lv_iconst (v := (5 : Int32)) hx hb dX6_whyNotTwo_26 (by decide) ?_
        refine lv_icmp_ne (tgt := 60) hx hb dX6_whyNotTwo_27 (by decide) (fun c_27 => ?_) (fun c_27 => ?_)
        · have c_27 : ¬ (xw = (5 : Int32)) := c_27
          have hR := hR.trans (if_neg c_27)
          refine lv_aload_n hx hb dX6_whyNotTwo_60 rfl (lv_at hl 0 rfl) ?_
          refine va_get (D := δ) (ci := 6) (v := .ref aR2) (C := RX6) (T := TX6) (N := 34) hx hb hts hinX6 hown hK hP 0 rfl rfl 4 (by decide) (hts (.fieldLink RX6 13 "GloveHoursModel" "right" "[I") (List.mem_of_getElem? (i := 1) rfl)) (fun _ h9 => h9) rfl dX6_whyNotTwo_61 ?_
          refine lv_iload_n hx hb dX6_whyNotTwo_64 rfl (lv_at hl 2 rfl) ?_
          refine va_iald hx hb hK hP 2 0 rfl rfl (court_in hw_2 c_5) dX6_whyNotTwo_65 ?_
          refine lv_bipush (v := (24 : Int32)) hx hb dX6_whyNotTwo_66 (by decide) ?_
          refine lv_icmp_eq (tgt := 82) hx hb dX6_whyNotTwo_68 (by decide) (fun c_68 => ?_) (fun c_68 => ?_)
          · have c_68 : (((vRight lv) xa.toNatClampNeg) = (24 : Int32)) := c_68
            have hR := hR.trans (if_pos c_68)
            refine lv_iconst (v := (5 : Int32)) hx hb dX6_whyNotTwo_82 (by decide) ?_
            refine lv_goto (tgt := 107) hx hb dX6_whyNotTwo_83 (by decide) ?_
            exact hret _ _ (5 : Int32) () _ _ hR hP hD hS dX6_whyNotTwo_107
          · have c_68 : ¬ (((vRight lv) xa.toNatClampNeg) = (24 : Int32)) := c_68
            have hR := hR.trans (if_neg c_68)
            refine lv_aload_n hx hb dX6_whyNotTwo_71 rfl (lv_at hl 0 rfl) ?_
            refine va_get (D := δ) (ci := 6) (v := .ref aR2) (C := RX6) (T := TX6) (N := 34) hx hb hts hinX6 hown hK hP 0 rfl rfl 4 (by decide) (hts (.fieldLink RX6 13 "GloveHoursModel" "right" "[I") (List.mem_of_getElem? (i := 1) rfl)) (fun _ h9 => h9) rfl dX6_whyNotTwo_72 ?_
            refine lv_iload_n hx hb dX6_whyNotTwo_75 rfl (lv_at hl 3 rfl) ?_
            refine va_iald hx hb hK hP 2 0 rfl rfl (court_in hw_10 c_13) dX6_whyNotTwo_76 ?_
            refine lv_bipush (v := (24 : Int32)) hx hb dX6_whyNotTwo_77 (by decide) ?_
            refine lv_icmp_ne (tgt := 86) hx hb dX6_whyNotTwo_79 (by decide) (fun c_79 => ?_) (fun c_79 => ?_)
            · have c_79 : ¬ (((vRight lv) xb.toNatClampNeg) = (24 : Int32)) := c_79
              have hR := hR.trans (if_neg c_79)
              refine lv_aload_n hx hb dX6_whyNotTwo_86 rfl (lv_at hl 0 rfl) ?_
              refine va_get (D := δ) (ci := 6) (v := .ref aR2) (C := RX6) (T := TX6) (N := 34) hx hb hts hinX6 hown hK hP 0 rfl rfl 4 (by decide) (hts (.fieldLink RX6 13 "GloveHoursModel" "right" "[I") (List.mem_of_getElem? (i := 1) rfl)) (fun _ h9 => h9) rfl dX6_whyNotTwo_87 ?_
              refine lv_iload_n hx hb dX6_whyNotTwo_90 rfl (lv_at hl 2 rfl) ?_
              refine va_iald hx hb hK hP 2 0 rfl rfl (court_in hw_2 c_5) dX6_whyNotTwo_91 ?_
              refine lv_aload_n hx hb dX6_whyNotTwo_92 rfl (lv_at hl 0 rfl) ?_
              refine va_get (D := δ) (ci := 6) (v := .ref aR2) (C := RX6) (T := TX6) (N := 34) hx hb hts hinX6 hown hK hP 0 rfl rfl 4 (by decide) (hts (.fieldLink RX6 13 "GloveHoursModel" "right" "[I") (List.mem_of_getElem? (i := 1) rfl)) (fun _ h9 => h9) rfl dX6_whyNotTwo_93 ?_
              refine lv_iload_n hx hb dX6_whyNotTwo_96 rfl (lv_at hl 3 rfl) ?_
              refine va_iald hx hb hK hP 2 0 rfl rfl (court_in hw_10 c_13) dX6_whyNotTwo_97 ?_
              refine lv_icmp_eq (tgt := 106) hx hb dX6_whyNotTwo_98 (by decide) (fun c_98 => ?_) (fun c_98 => ?_)
              · have c_98 : (((vRight lv) xa.toNatClampNeg) = ((vRight lv) xb.toNatClampNeg)) := c_98
                have hR := hR.trans (if_pos c_98)
                refine lv_iconst (v := (0 : Int32)) hx hb dX6_whyNotTwo_106 (by decide) ?_
                exact hret _ _ (0 : Int32) () _ _ hR hP hD hS dX6_whyNotTwo_107
              · have c_98 : ¬ (((vRight lv) xa.toNatClampNeg) = ((vRight lv) xb.toNatClampNeg)) := c_98
                have hR := hR.trans (if_neg c_98)
                refine lv_bipush (v := (6 : Int32)) hx hb dX6_whyNotTwo_101 (by decide) ?_
                refine lv_goto (tgt := 107) hx hb dX6_whyNotTwo_103 (by decide) ?_
                exact hret _ _ (6 : Int32) () _ _ hR hP hD hS dX6_whyNotTwo_107
            · have c_79 : (((vRight lv) xb.toNatClampNeg) = (24 : Int32)) := c_79
              have hR := hR.trans (if_pos c_79)
              refine lv_iconst (v := (5 : Int32)) hx hb dX6_whyNotTwo_82 (by decide) ?_
              refine lv_goto (tgt := 107) hx hb dX6_whyNotTwo_83 (by decide) ?_
              exact hret _ _ (5 : Int32) () _ _ hR hP hD hS dX6_whyNotTwo_107
        · have c_27 : (xw = (5 : Int32)) := c_27
          have hR := hR.trans (if_pos c_27)
          refine lv_aload_n hx hb dX6_whyNotTwo_30 rfl (lv_at hl 0 rfl) ?_
          refine lv_iload_n hx hb dX6_whyNotTwo_31 rfl (lv_at hl 2 rfl) ?_
          refine lv_iload hx hb dX6_whyNotTwo_32 (lv_at hl 4 rfl) ?_
          have hr := mrV (p := p) (e := e) (R := rm_X6_whyNotTwo) (below := below) (meth := meth) (H := H) (locs := locs) (ls := ls) (As := [.int xa, .int xh]) (rest := []) (c_X6_owns l δ cI cJ cZ aR0 aR1 aR2 aR3 aR4 aR5 aR6 aR7 aR8 aR9 aR10 aR11 aR12 aR13 aR14 aR15 aR16 aR17 aR18 aR19 aR20 aR21 lv sg pd ac dd hd le bd my lf pa kp xa xh hh) hx hb hml hts hown hK hNW hP hD [0, 1, 2, 3, 4, 5, 6, 7, 8, 9, 10, 11, 12, 13, 14, 15, 16, 17, 18, 19, 20, 21] rfl rfl 6 0 rfl rfl (cwV 2 hts gX6_whyNotTwo_X6_owns rfl rfl rfl (by decide +kernel) ⟨(Nat.le_of_ble_eq_true rfl), (Nat.le_of_ble_eq_true rfl)⟩) rfl hl.1 rfl (Nat.le_of_ble_eq_true rfl) dX6_whyNotTwo_34
          refine mc_i (wr := ([] : va_W)) hr hP hD hS hA [0, 1, 2, 3, 4, 5, 6, 7, 8, 9, 10, 11, 12, 13, 14, 15, 16, 17, 18, 19, 20, 21] [] [0, 1, 2, 3, 4, 5, 6, 7, 8, 9, 10, 11, 12, 13, 14, 15, 16, 17, 18, 19, 20, 21] rfl rfl rfl rfl rfl (wn := fun _ => (wR cI cJ cZ aR0 aR1 aR2 aR3 aR4 aR5 aR6 aR7 aR8 aR9 aR10 aR11 aR12 aR13 aR14 aR15 aR16 aR17 aR18 aR19 aR20 aR21 lv sg pd ac dd hd le bd my lf pa kp)) (fun _ => rfl) (fun r_34 _ H locs hw_34 hP hD hS => ?_)
          obtain ⟨hw_34, z_34⟩ := hw_34
          have hP : va_P δ vwCl (wR cI cJ cZ aR0 aR1 aR2 aR3 aR4 aR5 aR6 aR7 aR8 aR9 aR10 aR11 aR12 aR13 aR14 aR15 aR16 aR17 aR18 aR19 aR20 aR21 lv sg pd ac dd hd le bd my lf pa kp) H := hP
          have hD : va_D A (wR cI cJ cZ aR0 aR1 aR2 aR3 aR4 aR5 aR6 aR7 aR8 aR9 aR10 aR11 aR12 aR13 aR14 aR15 aR16 aR17 aR18 aR19 aR20 aR21 lv sg pd ac dd hd le bd my lf pa kp) := hD
          have hR := bnd_eq hR hw_34.symm
          refine lv_if_ne (tgt := 44) hx hb dX6_whyNotTwo_37 (by decide) (fun c_37 => ?_) (fun c_37 => ?_)
          · have c_37 : ¬ (r_34 = 0) := c_37
            have hR := hR.trans (if_neg c_37)
            refine lv_aload_n hx hb dX6_whyNotTwo_44 rfl (lv_at hl 0 rfl) ?_
            refine lv_iload_n hx hb dX6_whyNotTwo_45 rfl (lv_at hl 3 rfl) ?_
            refine lv_iload hx hb dX6_whyNotTwo_46 (lv_at hl 4 rfl) ?_
            have hr := mrV (p := p) (e := e) (R := rm_X6_whyNotTwo) (below := below) (meth := meth) (H := H) (locs := locs) (ls := ls) (As := [.int xb, .int xh]) (rest := []) (c_X6_owns l δ cI cJ cZ aR0 aR1 aR2 aR3 aR4 aR5 aR6 aR7 aR8 aR9 aR10 aR11 aR12 aR13 aR14 aR15 aR16 aR17 aR18 aR19 aR20 aR21 lv sg pd ac dd hd le bd my lf pa kp xb xh hh) hx hb hml hts hown hK hNW hP hD [0, 1, 2, 3, 4, 5, 6, 7, 8, 9, 10, 11, 12, 13, 14, 15, 16, 17, 18, 19, 20, 21] rfl rfl 6 0 rfl rfl (cwV 2 hts gX6_whyNotTwo_X6_owns rfl rfl rfl (by decide +kernel) ⟨(Nat.le_of_ble_eq_true rfl), (Nat.le_of_ble_eq_true rfl)⟩) rfl hl.1 rfl (Nat.le_of_ble_eq_true rfl) dX6_whyNotTwo_48
            refine mc_i (wr := ([] : va_W)) hr hP hD hS hA [0, 1, 2, 3, 4, 5, 6, 7, 8, 9, 10, 11, 12, 13, 14, 15, 16, 17, 18, 19, 20, 21] [] [0, 1, 2, 3, 4, 5, 6, 7, 8, 9, 10, 11, 12, 13, 14, 15, 16, 17, 18, 19, 20, 21] rfl rfl rfl rfl rfl (wn := fun _ => (wR cI cJ cZ aR0 aR1 aR2 aR3 aR4 aR5 aR6 aR7 aR8 aR9 aR10 aR11 aR12 aR13 aR14 aR15 aR16 aR17 aR18 aR19 aR20 aR21 lv sg pd ac dd hd le bd my lf pa kp)) (fun _ => rfl) (fun r_48 _ H locs hw_48 hP hD hS => ?_)
            obtain ⟨hw_48, z_48⟩ := hw_48
            have hP : va_P δ vwCl (wR cI cJ cZ aR0 aR1 aR2 aR3 aR4 aR5 aR6 aR7 aR8 aR9 aR10 aR11 aR12 aR13 aR14 aR15 aR16 aR17 aR18 aR19 aR20 aR21 lv sg pd ac dd hd le bd my lf pa kp) H := hP
            have hD : va_D A (wR cI cJ cZ aR0 aR1 aR2 aR3 aR4 aR5 aR6 aR7 aR8 aR9 aR10 aR11 aR12 aR13 aR14 aR15 aR16 aR17 aR18 aR19 aR20 aR21 lv sg pd ac dd hd le bd my lf pa kp) := hD
            have hR := bnd_eq hR hw_48.symm
            refine lv_if_eq (tgt := 58) hx hb dX6_whyNotTwo_51 (by decide) (fun c_51 => ?_) (fun c_51 => ?_)
            · have c_51 : (r_48 = 0) := c_51
              have hR := hR.trans (if_pos c_51)
              refine lv_iconst (v := (0 : Int32)) hx hb dX6_whyNotTwo_58 (by decide) ?_
              exact hret _ _ (0 : Int32) () _ _ hR hP hD hS dX6_whyNotTwo_59
            · have c_51 : ¬ (r_48 = 0) := c_51
              have hR := hR.trans (if_neg c_51)
              refine lv_iconst (v := (4 : Int32)) hx hb dX6_whyNotTwo_54 (by decide) ?_
              refine lv_goto (tgt := 59) hx hb dX6_whyNotTwo_55 (by decide) ?_
              exact hret _ _ (4 : Int32) () _ _ hR hP hD hS dX6_whyNotTwo_59
          · have c_37 : (r_34 = 0) := c_37
            have hR := hR.trans (if_pos c_37)
            refine lv_iconst (v := (3 : Int32)) hx hb dX6_whyNotTwo_40 (by decide) ?_
            refine lv_goto (tgt := 59) hx hb dX6_whyNotTwo_41 (by decide) ?_
            exact hret _ _ (3 : Int32) () _ _ hR hP hD hS dX6_whyNotTwo_59
      · have c_20 : (xa = xb) := c_20
        have hR := hR.trans (if_pos c_20)
        refine lv_iconst (v := (2 : Int32)) hx hb dX6_whyNotTwo_23 (by decide) ?_
        exact hret _ _ (2 : Int32) () _ _ hR hP hD hS dX6_whyNotTwo_24
    · have c_13 : (r_10 = 0) := c_13
      have hR := hR.trans (if_pos c_13)
      refine lv_iconst (v := (1 : Int32)) hx hb dX6_whyNotTwo_16 (by decide) ?_
      exact hret _ _ (1 : Int32) () _ _ hR hP hD hS dX6_whyNotTwo_17

abbrev rm_X6_whyNot : Room := { frames := 4, cells := 0, slots := 0, locals := 92 }
set_option maxHeartbeats 4000000 in
set_option maxRecDepth 100000 in
theorem c_X6_whyNot (l : Launch) (δ : va_G) (cI cJ cZ : ClassId) (aR0 aR1 aR2 aR3 aR4 aR5 aR6 aR7 aR8 aR9 aR10 aR11 aR12 aR13 aR14 aR15 aR16 aR17 aR18 aR19 aR20 aR21 : Nat) (lv : LV) (sg : SG) (pd : PD) (ac : AC) (dd : DD) (hd : HD) (le : LE) (bd : BD) (my : MY) (lf : LF) (pa : PA) (kp : KP) (xw : Int32) (xa : Int32) (xb : Int32) (xh : Int32) (hh : vp_in xh 24) : mMi l δ (mTy cI cJ cZ) yX6_whyNot wsX6_whyNot rm_X6_whyNot [.ref aR0, .int xw, .int xa, .int xb, .int xh] (wR cI cJ cZ aR0 aR1 aR2 aR3 aR4 aR5 aR6 aR7 aR8 aR9 aR10 aR11 aR12 aR13 aR14 aR15 aR16 aR17 aR18 aR19 aR20 aR21 lv sg pd ac dd hd le bd my lf pa kp) (S := Unit) (fun r _ => F_X6_whyNot lv xw xa xb xh = r) (fun _ => (wR cI cJ cZ aR0 aR1 aR2 aR3 aR4 aR5 aR6 aR7 aR8 aR9 aR10 aR11 aR12 aR13 aR14 aR15 aR16 aR17 aR18 aR19 aR20 aR21 lv sg pd ac dd hd le bd my lf pa kp)) := by
  refine mk_i (cc := cX6_whyNot) (maxL := 5) (by decide) rfl (Nat.le_of_ble_eq_true rfl) ?_
  intro p e s m args below meth c A Q ls H locs hx hb hml hts hown hK hNW hA hP hD hS hl hret
  have hown : s.vm.findClass RX6 = some m.cls := hown
  have hl : lv_has ls 5 [(0, .ref aR0), (1, .int xw), (2, .int xa), (3, .int xb), (4, .int xh)] := hl
  have hinX6 : ∀ w ∈ u_ws RX6 TX6 34, w ∈ wsX6_whyNot := (fun _ h => List.mem_cons_of_mem _ (List.mem_append_right _ (h)))
  have hR := F_X6_whyNot.eq_1 lv xw xa xb xh
  refine lv_iload_n hx hb dX6_whyNot_0 rfl (lv_at hl 1 rfl) ?_
  by_cases c_1_2 : xw = (2 : Int32)
  · have hR := hR.trans (if_pos c_1_2)
    refine lv_tableIn (tgt := 48) (off := 47) hx hb dX6_whyNot_1 (by rw [c_1_2]; decide) (by rw [c_1_2]; decide) (by rw [c_1_2]; rfl) (by decide) ?_
    refine lv_aload_n hx hb dX6_whyNot_48 rfl (lv_at hl 0 rfl) ?_
    refine lv_iload_n hx hb dX6_whyNot_49 rfl (lv_at hl 2 rfl) ?_
    have hr := mrV (p := p) (e := e) (R := rm_X6_whyNot) (below := below) (meth := meth) (H := H) (locs := locs) (ls := ls) (As := [.int xa]) (rest := []) (c_X6_isCourtier l δ cI cJ cZ aR0 aR1 aR2 aR3 aR4 aR5 aR6 aR7 aR8 aR9 aR10 aR11 aR12 aR13 aR14 aR15 aR16 aR17 aR18 aR19 aR20 aR21 lv sg pd ac dd hd le bd my lf pa kp xa) hx hb hml hts hown hK hNW hP hD [0, 1, 2, 3, 4, 5, 6, 7, 8, 9, 10, 11, 12, 13, 14, 15, 16, 17, 18, 19, 20, 21] rfl rfl 6 0 rfl rfl (cwV 1 hts gX6_whyNot_X6_isCourtier rfl rfl rfl (by decide +kernel) ⟨(Nat.le_of_ble_eq_true rfl), (Nat.le_of_ble_eq_true rfl)⟩) rfl hl.1 rfl (Nat.le_of_ble_eq_true rfl) dX6_whyNot_50
    refine mc_i (wr := ([] : va_W)) hr hP hD hS hA [0, 1, 2, 3, 4, 5, 6, 7, 8, 9, 10, 11, 12, 13, 14, 15, 16, 17, 18, 19, 20, 21] [] [0, 1, 2, 3, 4, 5, 6, 7, 8, 9, 10, 11, 12, 13, 14, 15, 16, 17, 18, 19, 20, 21] rfl rfl rfl rfl rfl (wn := fun _ => (wR cI cJ cZ aR0 aR1 aR2 aR3 aR4 aR5 aR6 aR7 aR8 aR9 aR10 aR11 aR12 aR13 aR14 aR15 aR16 aR17 aR18 aR19 aR20 aR21 lv sg pd ac dd hd le bd my lf pa kp)) (fun _ => rfl) (fun r_50 _ H locs hw_50 hP hD hS => ?_)
    obtain ⟨hw_50, z_50⟩ := hw_50
    have hP : va_P δ vwCl (wR cI cJ cZ aR0 aR1 aR2 aR3 aR4 aR5 aR6 aR7 aR8 aR9 aR10 aR11 aR12 aR13 aR14 aR15 aR16 aR17 aR18 aR19 aR20 aR21 lv sg pd ac dd hd le bd my lf pa kp) H := hP
    have hD : va_D A (wR cI cJ cZ aR0 aR1 aR2 aR3 aR4 aR5 aR6 aR7 aR8 aR9 aR10 aR11 aR12 aR13 aR14 aR15 aR16 aR17 aR18 aR19 aR20 aR21 lv sg pd ac dd hd le bd my lf pa kp) := hD
    have hR := bnd_eq hR hw_50.symm
    refine lv_if_eq (tgt := 60) hx hb dX6_whyNot_53 (by decide) (fun c_53 => ?_) (fun c_53 => ?_)
    · have c_53 : (r_50 = 0) := c_53
      have hR := hR.trans (if_pos c_53)
      refine lv_iconst (v := (1 : Int32)) hx hb dX6_whyNot_60 (by decide) ?_
      exact hret _ _ (1 : Int32) () _ _ hR hP hD hS dX6_whyNot_61
    · have c_53 : ¬ (r_50 = 0) := c_53
      have hR := hR.trans (if_neg c_53)
      refine lv_iconst (v := (0 : Int32)) hx hb dX6_whyNot_56 (by decide) ?_
      refine lv_goto (tgt := 61) hx hb dX6_whyNot_57 (by decide) ?_
      exact hret _ _ (0 : Int32) () _ _ hR hP hD hS dX6_whyNot_61
  have hR := hR.trans (if_neg c_1_2)
  by_cases c_1_3 : xw = (3 : Int32)
  · have hR := hR.trans (if_pos c_1_3)
    refine lv_tableIn (tgt := 62) (off := 61) hx hb dX6_whyNot_1 (by rw [c_1_3]; decide) (by rw [c_1_3]; decide) (by rw [c_1_3]; rfl) (by decide) ?_
    refine lv_aload_n hx hb dX6_whyNot_62 rfl (lv_at hl 0 rfl) ?_
    refine lv_iload_n hx hb dX6_whyNot_63 rfl (lv_at hl 2 rfl) ?_
    have hr := mrV (p := p) (e := e) (R := rm_X6_whyNot) (below := below) (meth := meth) (H := H) (locs := locs) (ls := ls) (As := [.int xa]) (rest := []) (c_X6_isCourtier l δ cI cJ cZ aR0 aR1 aR2 aR3 aR4 aR5 aR6 aR7 aR8 aR9 aR10 aR11 aR12 aR13 aR14 aR15 aR16 aR17 aR18 aR19 aR20 aR21 lv sg pd ac dd hd le bd my lf pa kp xa) hx hb hml hts hown hK hNW hP hD [0, 1, 2, 3, 4, 5, 6, 7, 8, 9, 10, 11, 12, 13, 14, 15, 16, 17, 18, 19, 20, 21] rfl rfl 6 0 rfl rfl (cwV 1 hts gX6_whyNot_X6_isCourtier rfl rfl rfl (by decide +kernel) ⟨(Nat.le_of_ble_eq_true rfl), (Nat.le_of_ble_eq_true rfl)⟩) rfl hl.1 rfl (Nat.le_of_ble_eq_true rfl) dX6_whyNot_64
    refine mc_i (wr := ([] : va_W)) hr hP hD hS hA [0, 1, 2, 3, 4, 5, 6, 7, 8, 9, 10, 11, 12, 13, 14, 15, 16, 17, 18, 19, 20, 21] [] [0, 1, 2, 3, 4, 5, 6, 7, 8, 9, 10, 11, 12, 13, 14, 15, 16, 17, 18, 19, 20, 21] rfl rfl rfl rfl rfl (wn := fun _ => (wR cI cJ cZ aR0 aR1 aR2 aR3 aR4 aR5 aR6 aR7 aR8 aR9 aR10 aR11 aR12 aR13 aR14 aR15 aR16 aR17 aR18 aR19 aR20 aR21 lv sg pd ac dd hd le bd my lf pa kp)) (fun _ => rfl) (fun r_64 _ H locs hw_64 hP hD hS => ?_)
    obtain ⟨hw_64, z_64⟩ := hw_64
    have hP : va_P δ vwCl (wR cI cJ cZ aR0 aR1 aR2 aR3 aR4 aR5 aR6 aR7 aR8 aR9 aR10 aR11 aR12 aR13 aR14 aR15 aR16 aR17 aR18 aR19 aR20 aR21 lv sg pd ac dd hd le bd my lf pa kp) H := hP
    have hD : va_D A (wR cI cJ cZ aR0 aR1 aR2 aR3 aR4 aR5 aR6 aR7 aR8 aR9 aR10 aR11 aR12 aR13 aR14 aR15 aR16 aR17 aR18 aR19 aR20 aR21 lv sg pd ac dd hd le bd my lf pa kp) := hD
    have hR := bnd_eq hR hw_64.symm
    refine lv_if_ne (tgt := 74) hx hb dX6_whyNot_67 (by decide) (fun c_67 => ?_) (fun c_67 => ?_)
    · have c_67 : ¬ (r_64 = 0) := c_67
      have hR := hR.trans (if_neg c_67)
      refine lv_aload_n hx hb dX6_whyNot_74 rfl (lv_at hl 0 rfl) ?_
      refine va_get (D := δ) (ci := 6) (v := .ref aR2) (C := RX6) (T := TX6) (N := 34) hx hb hts hinX6 hown hK hP 0 rfl rfl 4 (by decide) (hts (.fieldLink RX6 13 "GloveHoursModel" "right" "[I") (List.mem_of_getElem? (i := 1) rfl)) (fun _ h9 => h9) rfl dX6_whyNot_75 ?_
      refine lv_iload_n hx hb dX6_whyNot_78 rfl (lv_at hl 2 rfl) ?_
      refine va_iald hx hb hK hP 2 0 rfl rfl (court_in hw_64 c_67) dX6_whyNot_79 ?_
      refine lv_bipush (v := (24 : Int32)) hx hb dX6_whyNot_80 (by decide) ?_
      refine lv_icmp_ne (tgt := 89) hx hb dX6_whyNot_82 (by decide) (fun c_82 => ?_) (fun c_82 => ?_)
      · have c_82 : ¬ (((vRight lv) xa.toNatClampNeg) = (24 : Int32)) := c_82
        have hR := hR.trans (if_neg c_82)
        refine lv_iconst (v := (0 : Int32)) hx hb dX6_whyNot_89 (by decide) ?_
        exact hret _ _ (0 : Int32) () _ _ hR hP hD hS dX6_whyNot_90
      · have c_82 : (((vRight lv) xa.toNatClampNeg) = (24 : Int32)) := c_82
        have hR := hR.trans (if_pos c_82)
        refine lv_iconst (v := (5 : Int32)) hx hb dX6_whyNot_85 (by decide) ?_
        refine lv_goto (tgt := 90) hx hb dX6_whyNot_86 (by decide) ?_
        exact hret _ _ (5 : Int32) () _ _ hR hP hD hS dX6_whyNot_90
    · have c_67 : (r_64 = 0) := c_67
      have hR := hR.trans (if_pos c_67)
      refine lv_iconst (v := (1 : Int32)) hx hb dX6_whyNot_70 (by decide) ?_
      refine lv_goto (tgt := 90) hx hb dX6_whyNot_71 (by decide) ?_
      exact hret _ _ (1 : Int32) () _ _ hR hP hD hS dX6_whyNot_90
  have hR := hR.trans (if_neg c_1_3)
  by_cases c_1_4 : xw = (4 : Int32)
  · have hR := hR.trans (if_pos c_1_4)
    refine lv_tableIn (tgt := 38) (off := 37) hx hb dX6_whyNot_1 (by rw [c_1_4]; decide) (by rw [c_1_4]; decide) (by rw [c_1_4]; rfl) (by decide) ?_
    refine lv_aload_n hx hb dX6_whyNot_38 rfl (lv_at hl 0 rfl) ?_
    refine lv_iload_n hx hb dX6_whyNot_39 rfl (lv_at hl 1 rfl) ?_
    refine lv_iload_n hx hb dX6_whyNot_40 rfl (lv_at hl 2 rfl) ?_
    refine lv_iload_n hx hb dX6_whyNot_41 rfl (lv_at hl 3 rfl) ?_
    refine lv_iload hx hb dX6_whyNot_42 (lv_at hl 4 rfl) ?_
    have hr := mrV (p := p) (e := e) (R := rm_X6_whyNot) (below := below) (meth := meth) (H := H) (locs := locs) (ls := ls) (As := [.int xw, .int xa, .int xb, .int xh]) (rest := []) (c_X6_whyNotTwo l δ cI cJ cZ aR0 aR1 aR2 aR3 aR4 aR5 aR6 aR7 aR8 aR9 aR10 aR11 aR12 aR13 aR14 aR15 aR16 aR17 aR18 aR19 aR20 aR21 lv sg pd ac dd hd le bd my lf pa kp xw xa xb xh hh) hx hb hml hts hown hK hNW hP hD [0, 1, 2, 3, 4, 5, 6, 7, 8, 9, 10, 11, 12, 13, 14, 15, 16, 17, 18, 19, 20, 21] rfl rfl 6 0 rfl rfl (cwV 4 hts gX6_whyNot_X6_whyNotTwo rfl rfl rfl (by decide +kernel) ⟨(Nat.le_of_ble_eq_true rfl), (Nat.le_of_ble_eq_true rfl)⟩) rfl hl.1 rfl (Nat.le_of_ble_eq_true rfl) dX6_whyNot_44
    refine mc_i (wr := ([] : va_W)) hr hP hD hS hA [0, 1, 2, 3, 4, 5, 6, 7, 8, 9, 10, 11, 12, 13, 14, 15, 16, 17, 18, 19, 20, 21] [] [0, 1, 2, 3, 4, 5, 6, 7, 8, 9, 10, 11, 12, 13, 14, 15, 16, 17, 18, 19, 20, 21] rfl rfl rfl rfl rfl (wn := fun _ => (wR cI cJ cZ aR0 aR1 aR2 aR3 aR4 aR5 aR6 aR7 aR8 aR9 aR10 aR11 aR12 aR13 aR14 aR15 aR16 aR17 aR18 aR19 aR20 aR21 lv sg pd ac dd hd le bd my lf pa kp)) (fun _ => rfl) (fun r_44 _ H locs hw_44 hP hD hS => ?_)
    have hP : va_P δ vwCl (wR cI cJ cZ aR0 aR1 aR2 aR3 aR4 aR5 aR6 aR7 aR8 aR9 aR10 aR11 aR12 aR13 aR14 aR15 aR16 aR17 aR18 aR19 aR20 aR21 lv sg pd ac dd hd le bd my lf pa kp) H := hP
    have hD : va_D A (wR cI cJ cZ aR0 aR1 aR2 aR3 aR4 aR5 aR6 aR7 aR8 aR9 aR10 aR11 aR12 aR13 aR14 aR15 aR16 aR17 aR18 aR19 aR20 aR21 lv sg pd ac dd hd le bd my lf pa kp) := hD
    have hR := bnd_eq hR hw_44.symm
    exact hret _ _ r_44 () _ _ hR hP hD hS dX6_whyNot_47
  have hR := hR.trans (if_neg c_1_4)
  by_cases c_1_5 : xw = (5 : Int32)
  · have hR := hR.trans (if_pos c_1_5)
    refine lv_tableIn (tgt := 38) (off := 37) hx hb dX6_whyNot_1 (by rw [c_1_5]; decide) (by rw [c_1_5]; decide) (by rw [c_1_5]; rfl) (by decide) ?_
    refine lv_aload_n hx hb dX6_whyNot_38 rfl (lv_at hl 0 rfl) ?_
    refine lv_iload_n hx hb dX6_whyNot_39 rfl (lv_at hl 1 rfl) ?_
    refine lv_iload_n hx hb dX6_whyNot_40 rfl (lv_at hl 2 rfl) ?_
    refine lv_iload_n hx hb dX6_whyNot_41 rfl (lv_at hl 3 rfl) ?_
    refine lv_iload hx hb dX6_whyNot_42 (lv_at hl 4 rfl) ?_
    have hr := mrV (p := p) (e := e) (R := rm_X6_whyNot) (below := below) (meth := meth) (H := H) (locs := locs) (ls := ls) (As := [.int xw, .int xa, .int xb, .int xh]) (rest := []) (c_X6_whyNotTwo l δ cI cJ cZ aR0 aR1 aR2 aR3 aR4 aR5 aR6 aR7 aR8 aR9 aR10 aR11 aR12 aR13 aR14 aR15 aR16 aR17 aR18 aR19 aR20 aR21 lv sg pd ac dd hd le bd my lf pa kp xw xa xb xh hh) hx hb hml hts hown hK hNW hP hD [0, 1, 2, 3, 4, 5, 6, 7, 8, 9, 10, 11, 12, 13, 14, 15, 16, 17, 18, 19, 20, 21] rfl rfl 6 0 rfl rfl (cwV 4 hts gX6_whyNot_X6_whyNotTwo rfl rfl rfl (by decide +kernel) ⟨(Nat.le_of_ble_eq_true rfl), (Nat.le_of_ble_eq_true rfl)⟩) rfl hl.1 rfl (Nat.le_of_ble_eq_true rfl) dX6_whyNot_44
    refine mc_i (wr := ([] : va_W)) hr hP hD hS hA [0, 1, 2, 3, 4, 5, 6, 7, 8, 9, 10, 11, 12, 13, 14, 15, 16, 17, 18, 19, 20, 21] [] [0, 1, 2, 3, 4, 5, 6, 7, 8, 9, 10, 11, 12, 13, 14, 15, 16, 17, 18, 19, 20, 21] rfl rfl rfl rfl rfl (wn := fun _ => (wR cI cJ cZ aR0 aR1 aR2 aR3 aR4 aR5 aR6 aR7 aR8 aR9 aR10 aR11 aR12 aR13 aR14 aR15 aR16 aR17 aR18 aR19 aR20 aR21 lv sg pd ac dd hd le bd my lf pa kp)) (fun _ => rfl) (fun r_44 _ H locs hw_44 hP hD hS => ?_)
    have hP : va_P δ vwCl (wR cI cJ cZ aR0 aR1 aR2 aR3 aR4 aR5 aR6 aR7 aR8 aR9 aR10 aR11 aR12 aR13 aR14 aR15 aR16 aR17 aR18 aR19 aR20 aR21 lv sg pd ac dd hd le bd my lf pa kp) H := hP
    have hD : va_D A (wR cI cJ cZ aR0 aR1 aR2 aR3 aR4 aR5 aR6 aR7 aR8 aR9 aR10 aR11 aR12 aR13 aR14 aR15 aR16 aR17 aR18 aR19 aR20 aR21 lv sg pd ac dd hd le bd my lf pa kp) := hD
    have hR := bnd_eq hR hw_44.symm
    exact hret _ _ r_44 () _ _ hR hP hD hS dX6_whyNot_47
  have hR := hR.trans (if_neg c_1_5)
  by_cases c_1_6 : xw = (6 : Int32)
  · have hR := hR.trans (if_pos c_1_6)
    refine lv_tableIn (tgt := 36) (off := 35) hx hb dX6_whyNot_1 (by rw [c_1_6]; decide) (by rw [c_1_6]; decide) (by rw [c_1_6]; rfl) (by decide) ?_
    refine lv_iconst (v := (0 : Int32)) hx hb dX6_whyNot_36 (by decide) ?_
    exact hret _ _ (0 : Int32) () _ _ hR hP hD hS dX6_whyNot_37
  have hR := hR.trans (if_neg c_1_6)
  refine lv_tableOut (tgt := 91) hx hb dX6_whyNot_1 (by have e0 : xw.toInt ≠ 2 := fun e => c_1_2 (Int32.toInt_inj.mp e); have e1 : xw.toInt ≠ 3 := fun e => c_1_3 (Int32.toInt_inj.mp e); have e2 : xw.toInt ≠ 4 := fun e => c_1_4 (Int32.toInt_inj.mp e); have e3 : xw.toInt ≠ 5 := fun e => c_1_5 (Int32.toInt_inj.mp e); have e4 : xw.toInt ≠ 6 := fun e => c_1_6 (Int32.toInt_inj.mp e); omega) (by decide) ?_
  refine lv_aload_n hx hb dX6_whyNot_91 rfl (lv_at hl 0 rfl) ?_
  refine lv_iload_n hx hb dX6_whyNot_92 rfl (lv_at hl 2 rfl) ?_
  have hr := mrV (p := p) (e := e) (R := rm_X6_whyNot) (below := below) (meth := meth) (H := H) (locs := locs) (ls := ls) (As := [.int xa]) (rest := []) (c_X6_isCourtier l δ cI cJ cZ aR0 aR1 aR2 aR3 aR4 aR5 aR6 aR7 aR8 aR9 aR10 aR11 aR12 aR13 aR14 aR15 aR16 aR17 aR18 aR19 aR20 aR21 lv sg pd ac dd hd le bd my lf pa kp xa) hx hb hml hts hown hK hNW hP hD [0, 1, 2, 3, 4, 5, 6, 7, 8, 9, 10, 11, 12, 13, 14, 15, 16, 17, 18, 19, 20, 21] rfl rfl 6 0 rfl rfl (cwV 1 hts gX6_whyNot_X6_isCourtier rfl rfl rfl (by decide +kernel) ⟨(Nat.le_of_ble_eq_true rfl), (Nat.le_of_ble_eq_true rfl)⟩) rfl hl.1 rfl (Nat.le_of_ble_eq_true rfl) dX6_whyNot_93
  refine mc_i (wr := ([] : va_W)) hr hP hD hS hA [0, 1, 2, 3, 4, 5, 6, 7, 8, 9, 10, 11, 12, 13, 14, 15, 16, 17, 18, 19, 20, 21] [] [0, 1, 2, 3, 4, 5, 6, 7, 8, 9, 10, 11, 12, 13, 14, 15, 16, 17, 18, 19, 20, 21] rfl rfl rfl rfl rfl (wn := fun _ => (wR cI cJ cZ aR0 aR1 aR2 aR3 aR4 aR5 aR6 aR7 aR8 aR9 aR10 aR11 aR12 aR13 aR14 aR15 aR16 aR17 aR18 aR19 aR20 aR21 lv sg pd ac dd hd le bd my lf pa kp)) (fun _ => rfl) (fun r_93 _ H locs hw_93 hP hD hS => ?_)
  obtain ⟨hw_93, z_93⟩ := hw_93
  have hP : va_P δ vwCl (wR cI cJ cZ aR0 aR1 aR2 aR3 aR4 aR5 aR6 aR7 aR8 aR9 aR10 aR11 aR12 aR13 aR14 aR15 aR16 aR17 aR18 aR19 aR20 aR21 lv sg pd ac dd hd le bd my lf pa kp) H := hP
  have hD : va_D A (wR cI cJ cZ aR0 aR1 aR2 aR3 aR4 aR5 aR6 aR7 aR8 aR9 aR10 aR11 aR12 aR13 aR14 aR15 aR16 aR17 aR18 aR19 aR20 aR21 lv sg pd ac dd hd le bd my lf pa kp) := hD
  have hR := bnd_eq hR hw_93.symm
  refine lv_if_ne (tgt := 103) hx hb dX6_whyNot_96 (by decide) (fun c_96 => ?_) (fun c_96 => ?_)
  · have c_96 : ¬ (r_93 = 0) := c_96
    have hR := hR.trans (if_neg c_96)
    refine lv_aload_n hx hb dX6_whyNot_103 rfl (lv_at hl 0 rfl) ?_
    refine lv_iload_n hx hb dX6_whyNot_104 rfl (lv_at hl 2 rfl) ?_
    refine lv_iload hx hb dX6_whyNot_105 (lv_at hl 4 rfl) ?_
    have hr := mrV (p := p) (e := e) (R := rm_X6_whyNot) (below := below) (meth := meth) (H := H) (locs := locs) (ls := ls) (As := [.int xa, .int xh]) (rest := []) (c_X6_owns l δ cI cJ cZ aR0 aR1 aR2 aR3 aR4 aR5 aR6 aR7 aR8 aR9 aR10 aR11 aR12 aR13 aR14 aR15 aR16 aR17 aR18 aR19 aR20 aR21 lv sg pd ac dd hd le bd my lf pa kp xa xh hh) hx hb hml hts hown hK hNW hP hD [0, 1, 2, 3, 4, 5, 6, 7, 8, 9, 10, 11, 12, 13, 14, 15, 16, 17, 18, 19, 20, 21] rfl rfl 6 0 rfl rfl (cwV 2 hts gX6_whyNot_X6_owns rfl rfl rfl (by decide +kernel) ⟨(Nat.le_of_ble_eq_true rfl), (Nat.le_of_ble_eq_true rfl)⟩) rfl hl.1 rfl (Nat.le_of_ble_eq_true rfl) dX6_whyNot_107
    refine mc_i (wr := ([] : va_W)) hr hP hD hS hA [0, 1, 2, 3, 4, 5, 6, 7, 8, 9, 10, 11, 12, 13, 14, 15, 16, 17, 18, 19, 20, 21] [] [0, 1, 2, 3, 4, 5, 6, 7, 8, 9, 10, 11, 12, 13, 14, 15, 16, 17, 18, 19, 20, 21] rfl rfl rfl rfl rfl (wn := fun _ => (wR cI cJ cZ aR0 aR1 aR2 aR3 aR4 aR5 aR6 aR7 aR8 aR9 aR10 aR11 aR12 aR13 aR14 aR15 aR16 aR17 aR18 aR19 aR20 aR21 lv sg pd ac dd hd le bd my lf pa kp)) (fun _ => rfl) (fun r_107 _ H locs hw_107 hP hD hS => ?_)
    obtain ⟨hw_107, z_107⟩ := hw_107
    have hP : va_P δ vwCl (wR cI cJ cZ aR0 aR1 aR2 aR3 aR4 aR5 aR6 aR7 aR8 aR9 aR10 aR11 aR12 aR13 aR14 aR15 aR16 aR17 aR18 aR19 aR20 aR21 lv sg pd ac dd hd le bd my lf pa kp) H := hP
    have hD : va_D A (wR cI cJ cZ aR0 aR1 aR2 aR3 aR4 aR5 aR6 aR7 aR8 aR9 aR10 aR11 aR12 aR13 aR14 aR15 aR16 aR17 aR18 aR19 aR20 aR21 lv sg pd ac dd hd le bd my lf pa kp) := hD
    have hR := bnd_eq hR hw_107.symm
    refine lv_if_eq (tgt := 117) hx hb dX6_whyNot_110 (by decide) (fun c_110 => ?_) (fun c_110 => ?_)
    · have c_110 : (r_107 = 0) := c_110
      have hR := hR.trans (if_pos c_110)
      refine lv_iconst (v := (3 : Int32)) hx hb dX6_whyNot_117 (by decide) ?_
      exact hret _ _ (3 : Int32) () _ _ hR hP hD hS dX6_whyNot_118
    · have c_110 : ¬ (r_107 = 0) := c_110
      have hR := hR.trans (if_neg c_110)
      refine lv_iconst (v := (0 : Int32)) hx hb dX6_whyNot_113 (by decide) ?_
      refine lv_goto (tgt := 118) hx hb dX6_whyNot_114 (by decide) ?_
      exact hret _ _ (0 : Int32) () _ _ hR hP hD hS dX6_whyNot_118
  · have c_96 : (r_93 = 0) := c_96
    have hR := hR.trans (if_pos c_96)
    refine lv_iconst (v := (1 : Int32)) hx hb dX6_whyNot_99 (by decide) ?_
    refine lv_goto (tgt := 118) hx hb dX6_whyNot_100 (by decide) ?_
    exact hret _ _ (1 : Int32) () _ _ hR hP hD hS dX6_whyNot_118

abbrev rm_X6_lose : Room := { frames := 1, cells := 0, slots := 0, locals := 21 }
set_option maxHeartbeats 4000000 in
set_option maxRecDepth 100000 in
theorem c_X6_lose (l : Launch) (δ : va_G) (cI cJ cZ : ClassId) (aR0 aR1 aR2 aR3 aR4 aR5 aR6 aR7 aR8 aR9 aR10 aR11 aR12 aR13 aR14 aR15 aR16 aR17 aR18 aR19 aR20 aR21 : Nat) (lv : LV) (sg : SG) (pd : PD) (ac : AC) (dd : DD) (hd : HD) (le : LE) (bd : BD) (my : MY) (lf : LF) (pa : PA) (kp : KP) (xc : Int32) (xh : Int32) (hc : vp_in xc 6) (hh : vp_in xh 24) : mMv l δ (mTy cI cJ cZ) yX6_lose wsX6_lose rm_X6_lose [.ref aR0, .int xc, .int xh] (wR cI cJ cZ aR0 aR1 aR2 aR3 aR4 aR5 aR6 aR7 aR8 aR9 aR10 aR11 aR12 aR13 aR14 aR15 aR16 aR17 aR18 aR19 aR20 aR21 lv sg pd ac dd hd le bd my lf pa kp) (S := LV) (fun u => F_X6_lose lv xc xh = u) (fun u => (wR cI cJ cZ aR0 aR1 aR2 aR3 aR4 aR5 aR6 aR7 aR8 aR9 aR10 aR11 aR12 aR13 aR14 aR15 aR16 aR17 aR18 aR19 aR20 aR21 u sg pd ac dd hd le bd my lf pa kp)) := by
  refine mk_v (cc := cX6_lose) (maxL := 3) (by decide) rfl (Nat.le_of_ble_eq_true rfl) ?_
  intro p e s m args below meth c A Q ls H locs hx hb hml hts hown hK hNW hA hP hD hS hl hret
  have hown : s.vm.findClass RX6 = some m.cls := hown
  have hl : lv_has ls 3 [(0, .ref aR0), (1, .int xc), (2, .int xh)] := hl
  have hinX6 : ∀ w ∈ u_ws RX6 TX6 34, w ∈ wsX6_lose := (fun _ h => List.mem_cons_of_mem _ (List.mem_append_right _ (h)))
  have hR := F_X6_lose.eq_1 lv xc xh
  refine lv_aload_n hx hb dX6_lose_0 rfl (lv_at hl 0 rfl) ?_
  refine va_get (D := δ) (ci := 6) (v := .ref aR4) (C := RX6) (T := TX6) (N := 34) hx hb hts hinX6 hown hK hP 0 rfl rfl 6 (by decide) (hts (.fieldLink RX6 19 "GloveHoursModel" "wearOf" "[I") (List.mem_of_getElem? (i := 1) rfl)) (fun _ h9 => h9) rfl dX6_lose_1 ?_
  refine lv_iload_n hx hb dX6_lose_4 rfl (lv_at hl 1 rfl) ?_
  refine lv_iload_n hx hb dX6_lose_5 rfl (lv_at hl 2 rfl) ?_
  have hr := mrS (p := p) (e := e) (R := rm_X6_lose) (below := below) (meth := meth) (H := H) (locs := locs) (ls := ls) (As := [.int xc, .int xh]) (rest := [.ref aR4]) (c_X6_at l δ cI cJ cZ xc xh) hx hb hml hts hown hK hNW hP hD [] rfl rfl (va_cwS 2 hts gX6_lose_X6_at rfl rfl rfl (by decide +kernel) ⟨(Nat.le_of_ble_eq_true rfl), (Nat.le_of_ble_eq_true rfl)⟩) rfl hl.1 rfl (Nat.le_of_ble_eq_true rfl) dX6_lose_6
  refine mc_i (wr := (wR cI cJ cZ aR0 aR1 aR2 aR3 aR4 aR5 aR6 aR7 aR8 aR9 aR10 aR11 aR12 aR13 aR14 aR15 aR16 aR17 aR18 aR19 aR20 aR21 lv sg pd ac dd hd le bd my lf pa kp)) hr hP hD hS hA [] [0, 1, 2, 3, 4, 5, 6, 7, 8, 9, 10, 11, 12, 13, 14, 15, 16, 17, 18, 19, 20, 21] [0, 1, 2, 3, 4, 5, 6, 7, 8, 9, 10, 11, 12, 13, 14, 15, 16, 17, 18, 19, 20, 21] rfl rfl rfl rfl rfl (wn := fun _ => (wR cI cJ cZ aR0 aR1 aR2 aR3 aR4 aR5 aR6 aR7 aR8 aR9 aR10 aR11 aR12 aR13 aR14 aR15 aR16 aR17 aR18 aR19 aR20 aR21 lv sg pd ac dd hd le bd my lf pa kp)) (fun _ => rfl) (fun r_6 _ H locs hw_6 hP hD hS => ?_)
  have hP : va_P δ vwCl (wR cI cJ cZ aR0 aR1 aR2 aR3 aR4 aR5 aR6 aR7 aR8 aR9 aR10 aR11 aR12 aR13 aR14 aR15 aR16 aR17 aR18 aR19 aR20 aR21 lv sg pd ac dd hd le bd my lf pa kp) H := hP
  have hD : va_D A (wR cI cJ cZ aR0 aR1 aR2 aR3 aR4 aR5 aR6 aR7 aR8 aR9 aR10 aR11 aR12 aR13 aR14 aR15 aR16 aR17 aR18 aR19 aR20 aR21 lv sg pd ac dd hd le bd my lf pa kp) := hD
  have hR := bnd_eq hR hw_6.symm
  refine lv_bipush (v := (-6 : Int32)) hx hb dX6_lose_9 (by decide) ?_
  refine va_iast hx hb hK hP hD hS 4 0 rfl rfl (at_in hw_6 hc hh) dX6_lose_11 (fun H locs hP hD hS => ?_)
  have hP : va_P δ vwCl (wR cI cJ cZ aR0 aR1 aR2 aR3 aR4 aR5 aR6 aR7 aR8 aR9 aR10 aR11 aR12 aR13 aR14 aR15 aR16 aR17 aR18 aR19 aR20 aR21 (vCourtiers lv, vClock lv, vTears lv, vLeft lv, vRight lv, vScandals lv, (upd (vWearOf lv) r_6.toNatClampNeg (-6 : Int32))) sg pd ac dd hd le bd my lf pa kp) H := hP
  have hD : va_D A (wR cI cJ cZ aR0 aR1 aR2 aR3 aR4 aR5 aR6 aR7 aR8 aR9 aR10 aR11 aR12 aR13 aR14 aR15 aR16 aR17 aR18 aR19 aR20 aR21 (vCourtiers lv, vClock lv, vTears lv, vLeft lv, vRight lv, vScandals lv, (upd (vWearOf lv) r_6.toNatClampNeg (-6 : Int32))) sg pd ac dd hd le bd my lf pa kp) := hD
  refine lv_aload_n hx hb dX6_lose_12 rfl (lv_at hl 0 rfl) ?_
  refine va_get (D := δ) (ci := 6) (v := .ref aR1) (C := RX6) (T := TX6) (N := 34) hx hb hts hinX6 hown hK hP 0 rfl rfl 3 (by decide) (hts (.fieldLink RX6 7 "GloveHoursModel" "left" "[I") (List.mem_of_getElem? (i := 2) rfl)) (fun _ h9 => h9) rfl dX6_lose_13 ?_
  refine lv_iload_n hx hb dX6_lose_16 rfl (lv_at hl 1 rfl) ?_
  refine lv_aload_n hx hb dX6_lose_17 rfl (lv_at hl 0 rfl) ?_
  refine va_get (D := δ) (ci := 6) (v := .ref aR1) (C := RX6) (T := TX6) (N := 34) hx hb hts hinX6 hown hK hP 0 rfl rfl 3 (by decide) (hts (.fieldLink RX6 7 "GloveHoursModel" "left" "[I") (List.mem_of_getElem? (i := 2) rfl)) (fun _ h9 => h9) rfl dX6_lose_18 ?_
  refine lv_iload_n hx hb dX6_lose_21 rfl (lv_at hl 1 rfl) ?_
  refine va_iald hx hb hK hP 1 0 rfl rfl hc dX6_lose_22 ?_
  refine lv_iload_n hx hb dX6_lose_23 rfl (lv_at hl 2 rfl) ?_
  refine lv_icmp_ne (tgt := 32) hx hb dX6_lose_24 (by decide) (fun c_24 => ?_) (fun c_24 => ?_)
  · have c_24 : ¬ (((vLeft lv) xc.toNatClampNeg) = xh) := c_24
    have hR := hR.trans (if_neg c_24)
    refine lv_aload_n hx hb dX6_lose_32 rfl (lv_at hl 0 rfl) ?_
    refine va_get (D := δ) (ci := 6) (v := .ref aR1) (C := RX6) (T := TX6) (N := 34) hx hb hts hinX6 hown hK hP 0 rfl rfl 3 (by decide) (hts (.fieldLink RX6 7 "GloveHoursModel" "left" "[I") (List.mem_of_getElem? (i := 2) rfl)) (fun _ h9 => h9) rfl dX6_lose_33 ?_
    refine lv_iload_n hx hb dX6_lose_36 rfl (lv_at hl 1 rfl) ?_
    refine va_iald hx hb hK hP 1 0 rfl rfl hc dX6_lose_37 ?_
    refine va_iast hx hb hK hP hD hS 1 0 rfl rfl hc dX6_lose_38 (fun H locs hP hD hS => ?_)
    have hP : va_P δ vwCl (wR cI cJ cZ aR0 aR1 aR2 aR3 aR4 aR5 aR6 aR7 aR8 aR9 aR10 aR11 aR12 aR13 aR14 aR15 aR16 aR17 aR18 aR19 aR20 aR21 (vCourtiers lv, vClock lv, vTears lv, (upd (vLeft lv) xc.toNatClampNeg ((vLeft lv) xc.toNatClampNeg)), vRight lv, vScandals lv, (upd (vWearOf lv) r_6.toNatClampNeg (-6 : Int32))) sg pd ac dd hd le bd my lf pa kp) H := hP
    have hD : va_D A (wR cI cJ cZ aR0 aR1 aR2 aR3 aR4 aR5 aR6 aR7 aR8 aR9 aR10 aR11 aR12 aR13 aR14 aR15 aR16 aR17 aR18 aR19 aR20 aR21 (vCourtiers lv, vClock lv, vTears lv, (upd (vLeft lv) xc.toNatClampNeg ((vLeft lv) xc.toNatClampNeg)), vRight lv, vScandals lv, (upd (vWearOf lv) r_6.toNatClampNeg (-6 : Int32))) sg pd ac dd hd le bd my lf pa kp) := hD
    refine lv_aload_n hx hb dX6_lose_39 rfl (lv_at hl 0 rfl) ?_
    refine va_get (D := δ) (ci := 6) (v := .ref aR2) (C := RX6) (T := TX6) (N := 34) hx hb hts hinX6 hown hK hP 0 rfl rfl 4 (by decide) (hts (.fieldLink RX6 13 "GloveHoursModel" "right" "[I") (List.mem_of_getElem? (i := 3) rfl)) (fun _ h9 => h9) rfl dX6_lose_40 ?_
    refine lv_iload_n hx hb dX6_lose_43 rfl (lv_at hl 1 rfl) ?_
    refine lv_aload_n hx hb dX6_lose_44 rfl (lv_at hl 0 rfl) ?_
    refine va_get (D := δ) (ci := 6) (v := .ref aR2) (C := RX6) (T := TX6) (N := 34) hx hb hts hinX6 hown hK hP 0 rfl rfl 4 (by decide) (hts (.fieldLink RX6 13 "GloveHoursModel" "right" "[I") (List.mem_of_getElem? (i := 3) rfl)) (fun _ h9 => h9) rfl dX6_lose_45 ?_
    refine lv_iload_n hx hb dX6_lose_48 rfl (lv_at hl 1 rfl) ?_
    refine va_iald hx hb hK hP 2 0 rfl rfl hc dX6_lose_49 ?_
    refine lv_iload_n hx hb dX6_lose_50 rfl (lv_at hl 2 rfl) ?_
    refine lv_icmp_ne (tgt := 59) hx hb dX6_lose_51 (by decide) (fun c_51 => ?_) (fun c_51 => ?_)
    · have c_51 : ¬ (((vRight lv) xc.toNatClampNeg) = xh) := c_51
      have hR := hR.trans (if_neg c_51)
      refine lv_aload_n hx hb dX6_lose_59 rfl (lv_at hl 0 rfl) ?_
      refine va_get (D := δ) (ci := 6) (v := .ref aR2) (C := RX6) (T := TX6) (N := 34) hx hb hts hinX6 hown hK hP 0 rfl rfl 4 (by decide) (hts (.fieldLink RX6 13 "GloveHoursModel" "right" "[I") (List.mem_of_getElem? (i := 3) rfl)) (fun _ h9 => h9) rfl dX6_lose_60 ?_
      refine lv_iload_n hx hb dX6_lose_63 rfl (lv_at hl 1 rfl) ?_
      refine va_iald hx hb hK hP 2 0 rfl rfl hc dX6_lose_64 ?_
      refine va_iast hx hb hK hP hD hS 2 0 rfl rfl hc dX6_lose_65 (fun H locs hP hD hS => ?_)
      have hP : va_P δ vwCl (wR cI cJ cZ aR0 aR1 aR2 aR3 aR4 aR5 aR6 aR7 aR8 aR9 aR10 aR11 aR12 aR13 aR14 aR15 aR16 aR17 aR18 aR19 aR20 aR21 (vCourtiers lv, vClock lv, vTears lv, (upd (vLeft lv) xc.toNatClampNeg ((vLeft lv) xc.toNatClampNeg)), (upd (vRight lv) xc.toNatClampNeg ((vRight lv) xc.toNatClampNeg)), vScandals lv, (upd (vWearOf lv) r_6.toNatClampNeg (-6 : Int32))) sg pd ac dd hd le bd my lf pa kp) H := hP
      have hD : va_D A (wR cI cJ cZ aR0 aR1 aR2 aR3 aR4 aR5 aR6 aR7 aR8 aR9 aR10 aR11 aR12 aR13 aR14 aR15 aR16 aR17 aR18 aR19 aR20 aR21 (vCourtiers lv, vClock lv, vTears lv, (upd (vLeft lv) xc.toNatClampNeg ((vLeft lv) xc.toNatClampNeg)), (upd (vRight lv) xc.toNatClampNeg ((vRight lv) xc.toNatClampNeg)), vScandals lv, (upd (vWearOf lv) r_6.toNatClampNeg (-6 : Int32))) sg pd ac dd hd le bd my lf pa kp) := hD
      exact hret _ _ (vCourtiers lv, vClock lv, vTears lv, (upd (vLeft lv) xc.toNatClampNeg ((vLeft lv) xc.toNatClampNeg)), (upd (vRight lv) xc.toNatClampNeg ((vRight lv) xc.toNatClampNeg)), vScandals lv, (upd (vWearOf lv) r_6.toNatClampNeg (-6 : Int32))) _ _ hR hP hD hS dX6_lose_66
    · have c_51 : (((vRight lv) xc.toNatClampNeg) = xh) := c_51
      have hR := hR.trans (if_pos c_51)
      refine lv_bipush (v := (24 : Int32)) hx hb dX6_lose_54 (by decide) ?_
      refine lv_goto (tgt := 65) hx hb dX6_lose_56 (by decide) ?_
      refine va_iast hx hb hK hP hD hS 2 0 rfl rfl hc dX6_lose_65 (fun H locs hP hD hS => ?_)
      have hP : va_P δ vwCl (wR cI cJ cZ aR0 aR1 aR2 aR3 aR4 aR5 aR6 aR7 aR8 aR9 aR10 aR11 aR12 aR13 aR14 aR15 aR16 aR17 aR18 aR19 aR20 aR21 (vCourtiers lv, vClock lv, vTears lv, (upd (vLeft lv) xc.toNatClampNeg ((vLeft lv) xc.toNatClampNeg)), (upd (vRight lv) xc.toNatClampNeg (24 : Int32)), vScandals lv, (upd (vWearOf lv) r_6.toNatClampNeg (-6 : Int32))) sg pd ac dd hd le bd my lf pa kp) H := hP
      have hD : va_D A (wR cI cJ cZ aR0 aR1 aR2 aR3 aR4 aR5 aR6 aR7 aR8 aR9 aR10 aR11 aR12 aR13 aR14 aR15 aR16 aR17 aR18 aR19 aR20 aR21 (vCourtiers lv, vClock lv, vTears lv, (upd (vLeft lv) xc.toNatClampNeg ((vLeft lv) xc.toNatClampNeg)), (upd (vRight lv) xc.toNatClampNeg (24 : Int32)), vScandals lv, (upd (vWearOf lv) r_6.toNatClampNeg (-6 : Int32))) sg pd ac dd hd le bd my lf pa kp) := hD
      exact hret _ _ (vCourtiers lv, vClock lv, vTears lv, (upd (vLeft lv) xc.toNatClampNeg ((vLeft lv) xc.toNatClampNeg)), (upd (vRight lv) xc.toNatClampNeg (24 : Int32)), vScandals lv, (upd (vWearOf lv) r_6.toNatClampNeg (-6 : Int32))) _ _ hR hP hD hS dX6_lose_66
  · have c_24 : (((vLeft lv) xc.toNatClampNeg) = xh) := c_24
    have hR := hR.trans (if_pos c_24)
    refine lv_bipush (v := (24 : Int32)) hx hb dX6_lose_27 (by decide) ?_
    refine lv_goto (tgt := 38) hx hb dX6_lose_29 (by decide) ?_
    refine va_iast hx hb hK hP hD hS 1 0 rfl rfl hc dX6_lose_38 (fun H locs hP hD hS => ?_)
    have hP : va_P δ vwCl (wR cI cJ cZ aR0 aR1 aR2 aR3 aR4 aR5 aR6 aR7 aR8 aR9 aR10 aR11 aR12 aR13 aR14 aR15 aR16 aR17 aR18 aR19 aR20 aR21 (vCourtiers lv, vClock lv, vTears lv, (upd (vLeft lv) xc.toNatClampNeg (24 : Int32)), vRight lv, vScandals lv, (upd (vWearOf lv) r_6.toNatClampNeg (-6 : Int32))) sg pd ac dd hd le bd my lf pa kp) H := hP
    have hD : va_D A (wR cI cJ cZ aR0 aR1 aR2 aR3 aR4 aR5 aR6 aR7 aR8 aR9 aR10 aR11 aR12 aR13 aR14 aR15 aR16 aR17 aR18 aR19 aR20 aR21 (vCourtiers lv, vClock lv, vTears lv, (upd (vLeft lv) xc.toNatClampNeg (24 : Int32)), vRight lv, vScandals lv, (upd (vWearOf lv) r_6.toNatClampNeg (-6 : Int32))) sg pd ac dd hd le bd my lf pa kp) := hD
    refine lv_aload_n hx hb dX6_lose_39 rfl (lv_at hl 0 rfl) ?_
    refine va_get (D := δ) (ci := 6) (v := .ref aR2) (C := RX6) (T := TX6) (N := 34) hx hb hts hinX6 hown hK hP 0 rfl rfl 4 (by decide) (hts (.fieldLink RX6 13 "GloveHoursModel" "right" "[I") (List.mem_of_getElem? (i := 3) rfl)) (fun _ h9 => h9) rfl dX6_lose_40 ?_
    refine lv_iload_n hx hb dX6_lose_43 rfl (lv_at hl 1 rfl) ?_
    refine lv_aload_n hx hb dX6_lose_44 rfl (lv_at hl 0 rfl) ?_
    refine va_get (D := δ) (ci := 6) (v := .ref aR2) (C := RX6) (T := TX6) (N := 34) hx hb hts hinX6 hown hK hP 0 rfl rfl 4 (by decide) (hts (.fieldLink RX6 13 "GloveHoursModel" "right" "[I") (List.mem_of_getElem? (i := 3) rfl)) (fun _ h9 => h9) rfl dX6_lose_45 ?_
    refine lv_iload_n hx hb dX6_lose_48 rfl (lv_at hl 1 rfl) ?_
    refine va_iald hx hb hK hP 2 0 rfl rfl hc dX6_lose_49 ?_
    refine lv_iload_n hx hb dX6_lose_50 rfl (lv_at hl 2 rfl) ?_
    refine lv_icmp_ne (tgt := 59) hx hb dX6_lose_51 (by decide) (fun c_51 => ?_) (fun c_51 => ?_)
    · have c_51 : ¬ (((vRight lv) xc.toNatClampNeg) = xh) := c_51
      have hR := hR.trans (if_neg c_51)
      refine lv_aload_n hx hb dX6_lose_59 rfl (lv_at hl 0 rfl) ?_
      refine va_get (D := δ) (ci := 6) (v := .ref aR2) (C := RX6) (T := TX6) (N := 34) hx hb hts hinX6 hown hK hP 0 rfl rfl 4 (by decide) (hts (.fieldLink RX6 13 "GloveHoursModel" "right" "[I") (List.mem_of_getElem? (i := 3) rfl)) (fun _ h9 => h9) rfl dX6_lose_60 ?_
      refine lv_iload_n hx hb dX6_lose_63 rfl (lv_at hl 1 rfl) ?_
      refine va_iald hx hb hK hP 2 0 rfl rfl hc dX6_lose_64 ?_
      refine va_iast hx hb hK hP hD hS 2 0 rfl rfl hc dX6_lose_65 (fun H locs hP hD hS => ?_)
      have hP : va_P δ vwCl (wR cI cJ cZ aR0 aR1 aR2 aR3 aR4 aR5 aR6 aR7 aR8 aR9 aR10 aR11 aR12 aR13 aR14 aR15 aR16 aR17 aR18 aR19 aR20 aR21 (vCourtiers lv, vClock lv, vTears lv, (upd (vLeft lv) xc.toNatClampNeg (24 : Int32)), (upd (vRight lv) xc.toNatClampNeg ((vRight lv) xc.toNatClampNeg)), vScandals lv, (upd (vWearOf lv) r_6.toNatClampNeg (-6 : Int32))) sg pd ac dd hd le bd my lf pa kp) H := hP
      have hD : va_D A (wR cI cJ cZ aR0 aR1 aR2 aR3 aR4 aR5 aR6 aR7 aR8 aR9 aR10 aR11 aR12 aR13 aR14 aR15 aR16 aR17 aR18 aR19 aR20 aR21 (vCourtiers lv, vClock lv, vTears lv, (upd (vLeft lv) xc.toNatClampNeg (24 : Int32)), (upd (vRight lv) xc.toNatClampNeg ((vRight lv) xc.toNatClampNeg)), vScandals lv, (upd (vWearOf lv) r_6.toNatClampNeg (-6 : Int32))) sg pd ac dd hd le bd my lf pa kp) := hD
      exact hret _ _ (vCourtiers lv, vClock lv, vTears lv, (upd (vLeft lv) xc.toNatClampNeg (24 : Int32)), (upd (vRight lv) xc.toNatClampNeg ((vRight lv) xc.toNatClampNeg)), vScandals lv, (upd (vWearOf lv) r_6.toNatClampNeg (-6 : Int32))) _ _ hR hP hD hS dX6_lose_66
    · have c_51 : (((vRight lv) xc.toNatClampNeg) = xh) := c_51
      have hR := hR.trans (if_pos c_51)
      refine lv_bipush (v := (24 : Int32)) hx hb dX6_lose_54 (by decide) ?_
      refine lv_goto (tgt := 65) hx hb dX6_lose_56 (by decide) ?_
      refine va_iast hx hb hK hP hD hS 2 0 rfl rfl hc dX6_lose_65 (fun H locs hP hD hS => ?_)
      have hP : va_P δ vwCl (wR cI cJ cZ aR0 aR1 aR2 aR3 aR4 aR5 aR6 aR7 aR8 aR9 aR10 aR11 aR12 aR13 aR14 aR15 aR16 aR17 aR18 aR19 aR20 aR21 (vCourtiers lv, vClock lv, vTears lv, (upd (vLeft lv) xc.toNatClampNeg (24 : Int32)), (upd (vRight lv) xc.toNatClampNeg (24 : Int32)), vScandals lv, (upd (vWearOf lv) r_6.toNatClampNeg (-6 : Int32))) sg pd ac dd hd le bd my lf pa kp) H := hP
      have hD : va_D A (wR cI cJ cZ aR0 aR1 aR2 aR3 aR4 aR5 aR6 aR7 aR8 aR9 aR10 aR11 aR12 aR13 aR14 aR15 aR16 aR17 aR18 aR19 aR20 aR21 (vCourtiers lv, vClock lv, vTears lv, (upd (vLeft lv) xc.toNatClampNeg (24 : Int32)), (upd (vRight lv) xc.toNatClampNeg (24 : Int32)), vScandals lv, (upd (vWearOf lv) r_6.toNatClampNeg (-6 : Int32))) sg pd ac dd hd le bd my lf pa kp) := hD
      exact hret _ _ (vCourtiers lv, vClock lv, vTears lv, (upd (vLeft lv) xc.toNatClampNeg (24 : Int32)), (upd (vRight lv) xc.toNatClampNeg (24 : Int32)), vScandals lv, (upd (vWearOf lv) r_6.toNatClampNeg (-6 : Int32))) _ _ hR hP hD hS dX6_lose_66

abbrev rm_X6_doDeed : Room := { frames := 2, cells := 0, slots := 0, locals := 43 }
set_option maxHeartbeats 4000000 in
set_option maxRecDepth 100000 in
theorem c_X6_doDeed (l : Launch) (δ : va_G) (cI cJ cZ : ClassId) (aR0 aR1 aR2 aR3 aR4 aR5 aR6 aR7 aR8 aR9 aR10 aR11 aR12 aR13 aR14 aR15 aR16 aR17 aR18 aR19 aR20 aR21 : Nat) (lv : LV) (sg : SG) (pd : PD) (ac : AC) (dd : DD) (hd : HD) (le : LE) (bd : BD) (my : MY) (lf : LF) (pa : PA) (kp : KP) (xc : Int32) (hc : vp_in xc 6) (hrt : vp_in (vRight lv xc.toNatClampNeg) 24) (hd0 : 0 ≤ (eDeeds dd).toInt) : mMv l δ (mTy cI cJ cZ) yX6_doDeed wsX6_doDeed rm_X6_doDeed [.ref aR0, .int xc] (wR cI cJ cZ aR0 aR1 aR2 aR3 aR4 aR5 aR6 aR7 aR8 aR9 aR10 aR11 aR12 aR13 aR14 aR15 aR16 aR17 aR18 aR19 aR20 aR21 lv sg pd ac dd hd le bd my lf pa kp) (S := LV × DD) (fun u => F_X6_doDeed lv dd xc = u) (fun u => (wR cI cJ cZ aR0 aR1 aR2 aR3 aR4 aR5 aR6 aR7 aR8 aR9 aR10 aR11 aR12 aR13 aR14 aR15 aR16 aR17 aR18 aR19 aR20 aR21 u.1 sg pd ac u.2 hd le bd my lf pa kp)) := by
  refine mk_v (cc := cX6_doDeed) (maxL := 4) (by decide) rfl (Nat.le_of_ble_eq_true rfl) ?_
  intro p e s m args below meth c A Q ls H locs hx hb hml hts hown hK hNW hA hP hD hS hl hret
  have hown : s.vm.findClass RX6 = some m.cls := hown
  have hl : lv_has ls 4 [(0, .ref aR0), (1, .int xc)] := hl
  have hinX6 : ∀ w ∈ u_ws RX6 TX6 34, w ∈ wsX6_doDeed := (fun _ h => List.mem_cons_of_mem _ (List.mem_append_right _ (h)))
  have hR := F_X6_doDeed.eq_1 lv dd xc
  refine lv_aload_n hx hb dX6_doDeed_0 rfl (lv_at hl 0 rfl) ?_
  refine va_get (D := δ) (ci := 6) (v := .ref aR2) (C := RX6) (T := TX6) (N := 34) hx hb hts hinX6 hown hK hP 0 rfl rfl 4 (by decide) (hts (.fieldLink RX6 13 "GloveHoursModel" "right" "[I") (List.mem_of_getElem? (i := 1) rfl)) (fun _ h9 => h9) rfl dX6_doDeed_1 ?_
  refine lv_iload_n hx hb dX6_doDeed_4 rfl (lv_at hl 1 rfl) ?_
  refine va_iald hx hb hK hP 2 0 rfl rfl hc dX6_doDeed_5 ?_
  refine lv_istore_n (lv' := [(2, .int ((vRight lv) xc.toNatClampNeg)), (0, .ref aR0), (1, .int xc)]) hx hb dX6_doDeed_6 rfl hl (by decide) rfl (fun ls hl => ?_)
  refine lv_aload_n hx hb dX6_doDeed_7 rfl (lv_at hl 1 rfl) ?_
  refine va_get (D := δ) (ci := 6) (v := .int (eDeeds dd)) (C := RX6) (T := TX6) (N := 34) hx hb hts hinX6 hown hK hP 0 rfl rfl 20 (by decide) (hts (.fieldLink RX6 154 "GloveHoursModel" "deeds" "I") (List.mem_of_getElem? (i := 2) rfl)) (fun _ h9 => h9) rfl dX6_doDeed_8 ?_
  refine lv_bipush (v := (60 : Int32)) hx hb dX6_doDeed_11 (by decide) ?_
  refine lv_irem hx hb dX6_doDeed_13 (by decide) ?_
  refine lv_istore_n (lv' := [(3, .int ((eDeeds dd) - (eDeeds dd) / (60 : Int32) * (60 : Int32))), (2, .int ((vRight lv) xc.toNatClampNeg)), (0, .ref aR0), (1, .int xc)]) hx hb dX6_doDeed_14 rfl hl (by decide) rfl (fun ls hl => ?_)
  refine lv_aload_n hx hb dX6_doDeed_15 rfl (lv_at hl 2 rfl) ?_
  refine va_get (D := δ) (ci := 6) (v := .ref aR12) (C := RX6) (T := TX6) (N := 34) hx hb hts hinX6 hown hK hP 0 rfl rfl 17 (by decide) (hts (.fieldLink RX6 43 "GloveHoursModel" "deedHour" "[I") (List.mem_of_getElem? (i := 3) rfl)) (fun _ h9 => h9) rfl dX6_doDeed_16 ?_
  refine lv_iload_n hx hb dX6_doDeed_19 rfl (lv_at hl 0 rfl) ?_
  refine lv_iload_n hx hb dX6_doDeed_20 rfl (lv_at hl 1 rfl) ?_
  refine va_iast hx hb hK hP hD hS 12 0 rfl rfl (rem60 hd0) dX6_doDeed_21 (fun H locs hP hD hS => ?_)
  have hP : va_P δ vwCl (wR cI cJ cZ aR0 aR1 aR2 aR3 aR4 aR5 aR6 aR7 aR8 aR9 aR10 aR11 aR12 aR13 aR14 aR15 aR16 aR17 aR18 aR19 aR20 aR21 lv sg pd ac (eDeeds dd, eFirstLate dd, eLateMany dd, (upd (eDeedHour dd) ((eDeeds dd) - (eDeeds dd) / (60 : Int32) * (60 : Int32)).toNatClampNeg ((vRight lv) xc.toNatClampNeg)), eDeedClock dd, eDeedWho dd) hd le bd my lf pa kp) H := hP
  have hD : va_D A (wR cI cJ cZ aR0 aR1 aR2 aR3 aR4 aR5 aR6 aR7 aR8 aR9 aR10 aR11 aR12 aR13 aR14 aR15 aR16 aR17 aR18 aR19 aR20 aR21 lv sg pd ac (eDeeds dd, eFirstLate dd, eLateMany dd, (upd (eDeedHour dd) ((eDeeds dd) - (eDeeds dd) / (60 : Int32) * (60 : Int32)).toNatClampNeg ((vRight lv) xc.toNatClampNeg)), eDeedClock dd, eDeedWho dd) hd le bd my lf pa kp) := hD
  refine lv_aload_n hx hb dX6_doDeed_22 rfl (lv_at hl 2 rfl) ?_
  refine va_get (D := δ) (ci := 6) (v := .ref aR13) (C := RX6) (T := TX6) (N := 34) hx hb hts hinX6 hown hK hP 0 rfl rfl 18 (by decide) (hts (.fieldLink RX6 46 "GloveHoursModel" "deedClock" "[I") (List.mem_of_getElem? (i := 4) rfl)) (fun _ h9 => h9) rfl dX6_doDeed_23 ?_
  refine lv_iload_n hx hb dX6_doDeed_26 rfl (lv_at hl 0 rfl) ?_
  refine lv_aload_n hx hb dX6_doDeed_27 rfl (lv_at hl 2 rfl) ?_
  refine va_get (D := δ) (ci := 6) (v := .int (vClock lv)) (C := RX6) (T := TX6) (N := 34) hx hb hts hinX6 hown hK hP 0 rfl rfl 1 (by decide) (hts (.fieldLink RX6 110 "GloveHoursModel" "clock" "I") (List.mem_of_getElem? (i := 5) rfl)) (fun _ h9 => h9) rfl dX6_doDeed_28 ?_
  refine va_iast hx hb hK hP hD hS 13 0 rfl rfl (rem60 hd0) dX6_doDeed_31 (fun H locs hP hD hS => ?_)
  have hP : va_P δ vwCl (wR cI cJ cZ aR0 aR1 aR2 aR3 aR4 aR5 aR6 aR7 aR8 aR9 aR10 aR11 aR12 aR13 aR14 aR15 aR16 aR17 aR18 aR19 aR20 aR21 lv sg pd ac (eDeeds dd, eFirstLate dd, eLateMany dd, (upd (eDeedHour dd) ((eDeeds dd) - (eDeeds dd) / (60 : Int32) * (60 : Int32)).toNatClampNeg ((vRight lv) xc.toNatClampNeg)), (upd (eDeedClock dd) ((eDeeds dd) - (eDeeds dd) / (60 : Int32) * (60 : Int32)).toNatClampNeg (vClock lv)), eDeedWho dd) hd le bd my lf pa kp) H := hP
  have hD : va_D A (wR cI cJ cZ aR0 aR1 aR2 aR3 aR4 aR5 aR6 aR7 aR8 aR9 aR10 aR11 aR12 aR13 aR14 aR15 aR16 aR17 aR18 aR19 aR20 aR21 lv sg pd ac (eDeeds dd, eFirstLate dd, eLateMany dd, (upd (eDeedHour dd) ((eDeeds dd) - (eDeeds dd) / (60 : Int32) * (60 : Int32)).toNatClampNeg ((vRight lv) xc.toNatClampNeg)), (upd (eDeedClock dd) ((eDeeds dd) - (eDeeds dd) / (60 : Int32) * (60 : Int32)).toNatClampNeg (vClock lv)), eDeedWho dd) hd le bd my lf pa kp) := hD
  refine lv_aload_n hx hb dX6_doDeed_32 rfl (lv_at hl 2 rfl) ?_
  refine va_get (D := δ) (ci := 6) (v := .ref aR14) (C := RX6) (T := TX6) (N := 34) hx hb hts hinX6 hown hK hP 0 rfl rfl 19 (by decide) (hts (.fieldLink RX6 49 "GloveHoursModel" "deedWho" "[I") (List.mem_of_getElem? (i := 6) rfl)) (fun _ h9 => h9) rfl dX6_doDeed_33 ?_
  refine lv_iload_n hx hb dX6_doDeed_36 rfl (lv_at hl 0 rfl) ?_
  refine lv_iload_n hx hb dX6_doDeed_37 rfl (lv_at hl 3 rfl) ?_
  refine va_iast hx hb hK hP hD hS 14 0 rfl rfl (rem60 hd0) dX6_doDeed_38 (fun H locs hP hD hS => ?_)
  have hP : va_P δ vwCl (wR cI cJ cZ aR0 aR1 aR2 aR3 aR4 aR5 aR6 aR7 aR8 aR9 aR10 aR11 aR12 aR13 aR14 aR15 aR16 aR17 aR18 aR19 aR20 aR21 lv sg pd ac (eDeeds dd, eFirstLate dd, eLateMany dd, (upd (eDeedHour dd) ((eDeeds dd) - (eDeeds dd) / (60 : Int32) * (60 : Int32)).toNatClampNeg ((vRight lv) xc.toNatClampNeg)), (upd (eDeedClock dd) ((eDeeds dd) - (eDeeds dd) / (60 : Int32) * (60 : Int32)).toNatClampNeg (vClock lv)), (upd (eDeedWho dd) ((eDeeds dd) - (eDeeds dd) / (60 : Int32) * (60 : Int32)).toNatClampNeg xc)) hd le bd my lf pa kp) H := hP
  have hD : va_D A (wR cI cJ cZ aR0 aR1 aR2 aR3 aR4 aR5 aR6 aR7 aR8 aR9 aR10 aR11 aR12 aR13 aR14 aR15 aR16 aR17 aR18 aR19 aR20 aR21 lv sg pd ac (eDeeds dd, eFirstLate dd, eLateMany dd, (upd (eDeedHour dd) ((eDeeds dd) - (eDeeds dd) / (60 : Int32) * (60 : Int32)).toNatClampNeg ((vRight lv) xc.toNatClampNeg)), (upd (eDeedClock dd) ((eDeeds dd) - (eDeeds dd) / (60 : Int32) * (60 : Int32)).toNatClampNeg (vClock lv)), (upd (eDeedWho dd) ((eDeeds dd) - (eDeeds dd) / (60 : Int32) * (60 : Int32)).toNatClampNeg xc)) hd le bd my lf pa kp) := hD
  refine lv_aload_n hx hb dX6_doDeed_39 rfl (lv_at hl 2 rfl) ?_
  refine lv_aload_n hx hb dX6_doDeed_40 rfl (lv_at hl 2 rfl) ?_
  refine va_get (D := δ) (ci := 6) (v := .int (eFirstLate dd)) (C := RX6) (T := TX6) (N := 34) hx hb hts hinX6 hown hK hP 0 rfl rfl 21 (by decide) (hts (.fieldLink RX6 157 "GloveHoursModel" "firstLate" "I") (List.mem_of_getElem? (i := 7) rfl)) (fun _ h9 => h9) rfl dX6_doDeed_41 ?_
  refine lv_if_ge (tgt := 62) hx hb dX6_doDeed_44 (by decide) (fun c_44 => ?_) (fun c_44 => ?_)
  · have c_44 : (0 ≤ (eFirstLate dd)) := c_44
    have hR := hR.trans (if_pos c_44)
    refine lv_aload_n hx hb dX6_doDeed_62 rfl (lv_at hl 2 rfl) ?_
    refine va_get (D := δ) (ci := 6) (v := .int (eFirstLate dd)) (C := RX6) (T := TX6) (N := 34) hx hb hts hinX6 hown hK hP 0 rfl rfl 21 (by decide) (hts (.fieldLink RX6 157 "GloveHoursModel" "firstLate" "I") (List.mem_of_getElem? (i := 7) rfl)) (fun _ h9 => h9) rfl dX6_doDeed_63 ?_
    refine va_put (D := δ) (ci := 6) (v := .int (eFirstLate dd)) (ty := .int) (C := RX6) (T := TX6) (N := 34) hx hb hts hinX6 tyX6 tyX6_ok nmX6 hown hK hP hD hS 0 rfl rfl 21 (by decide) (hts (.fieldLink RX6 157 "GloveHoursModel" "firstLate" "I") (List.mem_of_getElem? (i := 7) rfl)) (fun _ h9 => h9) rfl (by decide +kernel) rfl rfl (Nat.le_of_ble_eq_true rfl) dX6_doDeed_66 (fun H locs hP hD hS => ?_)
    have hP : va_P δ vwCl (wR cI cJ cZ aR0 aR1 aR2 aR3 aR4 aR5 aR6 aR7 aR8 aR9 aR10 aR11 aR12 aR13 aR14 aR15 aR16 aR17 aR18 aR19 aR20 aR21 lv sg pd ac (eDeeds dd, (eFirstLate dd), eLateMany dd, (upd (eDeedHour dd) ((eDeeds dd) - (eDeeds dd) / (60 : Int32) * (60 : Int32)).toNatClampNeg ((vRight lv) xc.toNatClampNeg)), (upd (eDeedClock dd) ((eDeeds dd) - (eDeeds dd) / (60 : Int32) * (60 : Int32)).toNatClampNeg (vClock lv)), (upd (eDeedWho dd) ((eDeeds dd) - (eDeeds dd) / (60 : Int32) * (60 : Int32)).toNatClampNeg xc)) hd le bd my lf pa kp) H := hP
    have hD : va_D A (wR cI cJ cZ aR0 aR1 aR2 aR3 aR4 aR5 aR6 aR7 aR8 aR9 aR10 aR11 aR12 aR13 aR14 aR15 aR16 aR17 aR18 aR19 aR20 aR21 lv sg pd ac (eDeeds dd, (eFirstLate dd), eLateMany dd, (upd (eDeedHour dd) ((eDeeds dd) - (eDeeds dd) / (60 : Int32) * (60 : Int32)).toNatClampNeg ((vRight lv) xc.toNatClampNeg)), (upd (eDeedClock dd) ((eDeeds dd) - (eDeeds dd) / (60 : Int32) * (60 : Int32)).toNatClampNeg (vClock lv)), (upd (eDeedWho dd) ((eDeeds dd) - (eDeeds dd) / (60 : Int32) * (60 : Int32)).toNatClampNeg xc)) hd le bd my lf pa kp) := hD
    refine lv_aload_n hx hb dX6_doDeed_69 rfl (lv_at hl 2 rfl) ?_
    refine lv_dup hx hb dX6_doDeed_70 rfl ?_
    refine va_get (D := δ) (ci := 6) (v := .int (eLateMany dd)) (C := RX6) (T := TX6) (N := 34) hx hb hts hinX6 hown hK hP 0 rfl rfl 22 (by decide) (hts (.fieldLink RX6 160 "GloveHoursModel" "lateMany" "I") (List.mem_of_getElem? (i := 8) rfl)) (fun _ h9 => h9) rfl dX6_doDeed_71 ?_
    refine lv_iload_n hx hb dX6_doDeed_74 rfl (lv_at hl 1 rfl) ?_
    refine lv_aload_n hx hb dX6_doDeed_75 rfl (lv_at hl 2 rfl) ?_
    refine va_get (D := δ) (ci := 6) (v := .int (vClock lv)) (C := RX6) (T := TX6) (N := 34) hx hb hts hinX6 hown hK hP 0 rfl rfl 1 (by decide) (hts (.fieldLink RX6 110 "GloveHoursModel" "clock" "I") (List.mem_of_getElem? (i := 5) rfl)) (fun _ h9 => h9) rfl dX6_doDeed_76 ?_
    refine lv_icmp_eq (tgt := 86) hx hb dX6_doDeed_79 (by decide) (fun c_79 => ?_) (fun c_79 => ?_)
    · have c_79 : (((vRight lv) xc.toNatClampNeg) = (vClock lv)) := c_79
      have hR := hR.trans (if_pos c_79)
      refine lv_iconst (v := (0 : Int32)) hx hb dX6_doDeed_86 (by decide) ?_
      refine lv_iadd hx hb dX6_doDeed_87 ?_
      refine va_put (D := δ) (ci := 6) (v := .int ((eLateMany dd) + (0 : Int32))) (ty := .int) (C := RX6) (T := TX6) (N := 34) hx hb hts hinX6 tyX6 tyX6_ok nmX6 hown hK hP hD hS 0 rfl rfl 22 (by decide) (hts (.fieldLink RX6 160 "GloveHoursModel" "lateMany" "I") (List.mem_of_getElem? (i := 8) rfl)) (fun _ h9 => h9) rfl (by decide +kernel) rfl rfl (Nat.le_of_ble_eq_true rfl) dX6_doDeed_88 (fun H locs hP hD hS => ?_)
      have hP : va_P δ vwCl (wR cI cJ cZ aR0 aR1 aR2 aR3 aR4 aR5 aR6 aR7 aR8 aR9 aR10 aR11 aR12 aR13 aR14 aR15 aR16 aR17 aR18 aR19 aR20 aR21 lv sg pd ac (eDeeds dd, (eFirstLate dd), ((eLateMany dd) + (0 : Int32)), (upd (eDeedHour dd) ((eDeeds dd) - (eDeeds dd) / (60 : Int32) * (60 : Int32)).toNatClampNeg ((vRight lv) xc.toNatClampNeg)), (upd (eDeedClock dd) ((eDeeds dd) - (eDeeds dd) / (60 : Int32) * (60 : Int32)).toNatClampNeg (vClock lv)), (upd (eDeedWho dd) ((eDeeds dd) - (eDeeds dd) / (60 : Int32) * (60 : Int32)).toNatClampNeg xc)) hd le bd my lf pa kp) H := hP
      have hD : va_D A (wR cI cJ cZ aR0 aR1 aR2 aR3 aR4 aR5 aR6 aR7 aR8 aR9 aR10 aR11 aR12 aR13 aR14 aR15 aR16 aR17 aR18 aR19 aR20 aR21 lv sg pd ac (eDeeds dd, (eFirstLate dd), ((eLateMany dd) + (0 : Int32)), (upd (eDeedHour dd) ((eDeeds dd) - (eDeeds dd) / (60 : Int32) * (60 : Int32)).toNatClampNeg ((vRight lv) xc.toNatClampNeg)), (upd (eDeedClock dd) ((eDeeds dd) - (eDeeds dd) / (60 : Int32) * (60 : Int32)).toNatClampNeg (vClock lv)), (upd (eDeedWho dd) ((eDeeds dd) - (eDeeds dd) / (60 : Int32) * (60 : Int32)).toNatClampNeg xc)) hd le bd my lf pa kp) := hD
      refine lv_aload_n hx hb dX6_doDeed_91 rfl (lv_at hl 2 rfl) ?_
      refine lv_dup hx hb dX6_doDeed_92 rfl ?_
      refine va_get (D := δ) (ci := 6) (v := .int (eDeeds dd)) (C := RX6) (T := TX6) (N := 34) hx hb hts hinX6 hown hK hP 0 rfl rfl 20 (by decide) (hts (.fieldLink RX6 154 "GloveHoursModel" "deeds" "I") (List.mem_of_getElem? (i := 2) rfl)) (fun _ h9 => h9) rfl dX6_doDeed_93 ?_
      refine lv_iconst (v := (1 : Int32)) hx hb dX6_doDeed_96 (by decide) ?_
      refine lv_iadd hx hb dX6_doDeed_97 ?_
      refine va_put (D := δ) (ci := 6) (v := .int ((eDeeds dd) + (1 : Int32))) (ty := .int) (C := RX6) (T := TX6) (N := 34) hx hb hts hinX6 tyX6 tyX6_ok nmX6 hown hK hP hD hS 0 rfl rfl 20 (by decide) (hts (.fieldLink RX6 154 "GloveHoursModel" "deeds" "I") (List.mem_of_getElem? (i := 2) rfl)) (fun _ h9 => h9) rfl (by decide +kernel) rfl rfl (Nat.le_of_ble_eq_true rfl) dX6_doDeed_98 (fun H locs hP hD hS => ?_)
      have hP : va_P δ vwCl (wR cI cJ cZ aR0 aR1 aR2 aR3 aR4 aR5 aR6 aR7 aR8 aR9 aR10 aR11 aR12 aR13 aR14 aR15 aR16 aR17 aR18 aR19 aR20 aR21 lv sg pd ac (((eDeeds dd) + (1 : Int32)), (eFirstLate dd), ((eLateMany dd) + (0 : Int32)), (upd (eDeedHour dd) ((eDeeds dd) - (eDeeds dd) / (60 : Int32) * (60 : Int32)).toNatClampNeg ((vRight lv) xc.toNatClampNeg)), (upd (eDeedClock dd) ((eDeeds dd) - (eDeeds dd) / (60 : Int32) * (60 : Int32)).toNatClampNeg (vClock lv)), (upd (eDeedWho dd) ((eDeeds dd) - (eDeeds dd) / (60 : Int32) * (60 : Int32)).toNatClampNeg xc)) hd le bd my lf pa kp) H := hP
      have hD : va_D A (wR cI cJ cZ aR0 aR1 aR2 aR3 aR4 aR5 aR6 aR7 aR8 aR9 aR10 aR11 aR12 aR13 aR14 aR15 aR16 aR17 aR18 aR19 aR20 aR21 lv sg pd ac (((eDeeds dd) + (1 : Int32)), (eFirstLate dd), ((eLateMany dd) + (0 : Int32)), (upd (eDeedHour dd) ((eDeeds dd) - (eDeeds dd) / (60 : Int32) * (60 : Int32)).toNatClampNeg ((vRight lv) xc.toNatClampNeg)), (upd (eDeedClock dd) ((eDeeds dd) - (eDeeds dd) / (60 : Int32) * (60 : Int32)).toNatClampNeg (vClock lv)), (upd (eDeedWho dd) ((eDeeds dd) - (eDeeds dd) / (60 : Int32) * (60 : Int32)).toNatClampNeg xc)) hd le bd my lf pa kp) := hD
      refine lv_aload_n hx hb dX6_doDeed_101 rfl (lv_at hl 2 rfl) ?_
      refine va_get (D := δ) (ci := 6) (v := .ref aR4) (C := RX6) (T := TX6) (N := 34) hx hb hts hinX6 hown hK hP 0 rfl rfl 6 (by decide) (hts (.fieldLink RX6 19 "GloveHoursModel" "wearOf" "[I") (List.mem_of_getElem? (i := 9) rfl)) (fun _ h9 => h9) rfl dX6_doDeed_102 ?_
      refine lv_iload_n hx hb dX6_doDeed_105 rfl (lv_at hl 3 rfl) ?_
      refine lv_iload_n hx hb dX6_doDeed_106 rfl (lv_at hl 1 rfl) ?_
      have hr := mrS (p := p) (e := e) (R := rm_X6_doDeed) (below := below) (meth := meth) (H := H) (locs := locs) (ls := ls) (As := [.int xc, .int ((vRight lv) xc.toNatClampNeg)]) (rest := [.ref aR4]) (c_X6_at l δ cI cJ cZ xc ((vRight lv) xc.toNatClampNeg)) hx hb hml hts hown hK hNW hP hD [] rfl rfl (va_cwS 2 hts gX6_doDeed_X6_at rfl rfl rfl (by decide +kernel) ⟨(Nat.le_of_ble_eq_true rfl), (Nat.le_of_ble_eq_true rfl)⟩) rfl hl.1 rfl (Nat.le_of_ble_eq_true rfl) dX6_doDeed_107
      refine mc_i (wr := (wR cI cJ cZ aR0 aR1 aR2 aR3 aR4 aR5 aR6 aR7 aR8 aR9 aR10 aR11 aR12 aR13 aR14 aR15 aR16 aR17 aR18 aR19 aR20 aR21 lv sg pd ac (((eDeeds dd) + (1 : Int32)), (eFirstLate dd), ((eLateMany dd) + (0 : Int32)), (upd (eDeedHour dd) ((eDeeds dd) - (eDeeds dd) / (60 : Int32) * (60 : Int32)).toNatClampNeg ((vRight lv) xc.toNatClampNeg)), (upd (eDeedClock dd) ((eDeeds dd) - (eDeeds dd) / (60 : Int32) * (60 : Int32)).toNatClampNeg (vClock lv)), (upd (eDeedWho dd) ((eDeeds dd) - (eDeeds dd) / (60 : Int32) * (60 : Int32)).toNatClampNeg xc)) hd le bd my lf pa kp)) hr hP hD hS hA [] [0, 1, 2, 3, 4, 5, 6, 7, 8, 9, 10, 11, 12, 13, 14, 15, 16, 17, 18, 19, 20, 21] [0, 1, 2, 3, 4, 5, 6, 7, 8, 9, 10, 11, 12, 13, 14, 15, 16, 17, 18, 19, 20, 21] rfl rfl rfl rfl rfl (wn := fun _ => (wR cI cJ cZ aR0 aR1 aR2 aR3 aR4 aR5 aR6 aR7 aR8 aR9 aR10 aR11 aR12 aR13 aR14 aR15 aR16 aR17 aR18 aR19 aR20 aR21 lv sg pd ac (((eDeeds dd) + (1 : Int32)), (eFirstLate dd), ((eLateMany dd) + (0 : Int32)), (upd (eDeedHour dd) ((eDeeds dd) - (eDeeds dd) / (60 : Int32) * (60 : Int32)).toNatClampNeg ((vRight lv) xc.toNatClampNeg)), (upd (eDeedClock dd) ((eDeeds dd) - (eDeeds dd) / (60 : Int32) * (60 : Int32)).toNatClampNeg (vClock lv)), (upd (eDeedWho dd) ((eDeeds dd) - (eDeeds dd) / (60 : Int32) * (60 : Int32)).toNatClampNeg xc)) hd le bd my lf pa kp)) (fun _ => rfl) (fun r_107 _ H locs hw_107 hP hD hS => ?_)
      have hP : va_P δ vwCl (wR cI cJ cZ aR0 aR1 aR2 aR3 aR4 aR5 aR6 aR7 aR8 aR9 aR10 aR11 aR12 aR13 aR14 aR15 aR16 aR17 aR18 aR19 aR20 aR21 lv sg pd ac (((eDeeds dd) + (1 : Int32)), (eFirstLate dd), ((eLateMany dd) + (0 : Int32)), (upd (eDeedHour dd) ((eDeeds dd) - (eDeeds dd) / (60 : Int32) * (60 : Int32)).toNatClampNeg ((vRight lv) xc.toNatClampNeg)), (upd (eDeedClock dd) ((eDeeds dd) - (eDeeds dd) / (60 : Int32) * (60 : Int32)).toNatClampNeg (vClock lv)), (upd (eDeedWho dd) ((eDeeds dd) - (eDeeds dd) / (60 : Int32) * (60 : Int32)).toNatClampNeg xc)) hd le bd my lf pa kp) H := hP
      have hD : va_D A (wR cI cJ cZ aR0 aR1 aR2 aR3 aR4 aR5 aR6 aR7 aR8 aR9 aR10 aR11 aR12 aR13 aR14 aR15 aR16 aR17 aR18 aR19 aR20 aR21 lv sg pd ac (((eDeeds dd) + (1 : Int32)), (eFirstLate dd), ((eLateMany dd) + (0 : Int32)), (upd (eDeedHour dd) ((eDeeds dd) - (eDeeds dd) / (60 : Int32) * (60 : Int32)).toNatClampNeg ((vRight lv) xc.toNatClampNeg)), (upd (eDeedClock dd) ((eDeeds dd) - (eDeeds dd) / (60 : Int32) * (60 : Int32)).toNatClampNeg (vClock lv)), (upd (eDeedWho dd) ((eDeeds dd) - (eDeeds dd) / (60 : Int32) * (60 : Int32)).toNatClampNeg xc)) hd le bd my lf pa kp) := hD
      have hR := bnd_eq hR hw_107.symm
      refine lv_dup2_11 hx hb dX6_doDeed_110 rfl rfl ?_
      refine va_iald hx hb hK hP 4 0 rfl rfl (at_in hw_107 hc hrt) dX6_doDeed_111 ?_
      refine lv_iconst (v := (1 : Int32)) hx hb dX6_doDeed_112 (by decide) ?_
      refine lv_iadd hx hb dX6_doDeed_113 ?_
      refine va_iast hx hb hK hP hD hS 4 0 rfl rfl (at_in hw_107 hc hrt) dX6_doDeed_114 (fun H locs hP hD hS => ?_)
      have hP : va_P δ vwCl (wR cI cJ cZ aR0 aR1 aR2 aR3 aR4 aR5 aR6 aR7 aR8 aR9 aR10 aR11 aR12 aR13 aR14 aR15 aR16 aR17 aR18 aR19 aR20 aR21 (vCourtiers lv, vClock lv, vTears lv, vLeft lv, vRight lv, vScandals lv, (upd (vWearOf lv) r_107.toNatClampNeg (((vWearOf lv) r_107.toNatClampNeg) + (1 : Int32)))) sg pd ac (((eDeeds dd) + (1 : Int32)), (eFirstLate dd), ((eLateMany dd) + (0 : Int32)), (upd (eDeedHour dd) ((eDeeds dd) - (eDeeds dd) / (60 : Int32) * (60 : Int32)).toNatClampNeg ((vRight lv) xc.toNatClampNeg)), (upd (eDeedClock dd) ((eDeeds dd) - (eDeeds dd) / (60 : Int32) * (60 : Int32)).toNatClampNeg (vClock lv)), (upd (eDeedWho dd) ((eDeeds dd) - (eDeeds dd) / (60 : Int32) * (60 : Int32)).toNatClampNeg xc)) hd le bd my lf pa kp) H := hP
      have hD : va_D A (wR cI cJ cZ aR0 aR1 aR2 aR3 aR4 aR5 aR6 aR7 aR8 aR9 aR10 aR11 aR12 aR13 aR14 aR15 aR16 aR17 aR18 aR19 aR20 aR21 (vCourtiers lv, vClock lv, vTears lv, vLeft lv, vRight lv, vScandals lv, (upd (vWearOf lv) r_107.toNatClampNeg (((vWearOf lv) r_107.toNatClampNeg) + (1 : Int32)))) sg pd ac (((eDeeds dd) + (1 : Int32)), (eFirstLate dd), ((eLateMany dd) + (0 : Int32)), (upd (eDeedHour dd) ((eDeeds dd) - (eDeeds dd) / (60 : Int32) * (60 : Int32)).toNatClampNeg ((vRight lv) xc.toNatClampNeg)), (upd (eDeedClock dd) ((eDeeds dd) - (eDeeds dd) / (60 : Int32) * (60 : Int32)).toNatClampNeg (vClock lv)), (upd (eDeedWho dd) ((eDeeds dd) - (eDeeds dd) / (60 : Int32) * (60 : Int32)).toNatClampNeg xc)) hd le bd my lf pa kp) := hD
      refine lv_aload_n hx hb dX6_doDeed_115 rfl (lv_at hl 2 rfl) ?_
      refine va_get (D := δ) (ci := 6) (v := .ref aR4) (C := RX6) (T := TX6) (N := 34) hx hb hts hinX6 hown hK hP 0 rfl rfl 6 (by decide) (hts (.fieldLink RX6 19 "GloveHoursModel" "wearOf" "[I") (List.mem_of_getElem? (i := 9) rfl)) (fun _ h9 => h9) rfl dX6_doDeed_116 ?_
      refine lv_iload_n hx hb dX6_doDeed_119 rfl (lv_at hl 3 rfl) ?_
      refine lv_iload_n hx hb dX6_doDeed_120 rfl (lv_at hl 1 rfl) ?_
      have hr := mrS (p := p) (e := e) (R := rm_X6_doDeed) (below := below) (meth := meth) (H := H) (locs := locs) (ls := ls) (As := [.int xc, .int ((vRight lv) xc.toNatClampNeg)]) (rest := [.ref aR4]) (c_X6_at l δ cI cJ cZ xc ((vRight lv) xc.toNatClampNeg)) hx hb hml hts hown hK hNW hP hD [] rfl rfl (va_cwS 2 hts gX6_doDeed_X6_at rfl rfl rfl (by decide +kernel) ⟨(Nat.le_of_ble_eq_true rfl), (Nat.le_of_ble_eq_true rfl)⟩) rfl hl.1 rfl (Nat.le_of_ble_eq_true rfl) dX6_doDeed_121
      refine mc_i (wr := (wR cI cJ cZ aR0 aR1 aR2 aR3 aR4 aR5 aR6 aR7 aR8 aR9 aR10 aR11 aR12 aR13 aR14 aR15 aR16 aR17 aR18 aR19 aR20 aR21 (vCourtiers lv, vClock lv, vTears lv, vLeft lv, vRight lv, vScandals lv, (upd (vWearOf lv) r_107.toNatClampNeg (((vWearOf lv) r_107.toNatClampNeg) + (1 : Int32)))) sg pd ac (((eDeeds dd) + (1 : Int32)), (eFirstLate dd), ((eLateMany dd) + (0 : Int32)), (upd (eDeedHour dd) ((eDeeds dd) - (eDeeds dd) / (60 : Int32) * (60 : Int32)).toNatClampNeg ((vRight lv) xc.toNatClampNeg)), (upd (eDeedClock dd) ((eDeeds dd) - (eDeeds dd) / (60 : Int32) * (60 : Int32)).toNatClampNeg (vClock lv)), (upd (eDeedWho dd) ((eDeeds dd) - (eDeeds dd) / (60 : Int32) * (60 : Int32)).toNatClampNeg xc)) hd le bd my lf pa kp)) hr hP hD hS hA [] [0, 1, 2, 3, 4, 5, 6, 7, 8, 9, 10, 11, 12, 13, 14, 15, 16, 17, 18, 19, 20, 21] [0, 1, 2, 3, 4, 5, 6, 7, 8, 9, 10, 11, 12, 13, 14, 15, 16, 17, 18, 19, 20, 21] rfl rfl rfl rfl rfl (wn := fun _ => (wR cI cJ cZ aR0 aR1 aR2 aR3 aR4 aR5 aR6 aR7 aR8 aR9 aR10 aR11 aR12 aR13 aR14 aR15 aR16 aR17 aR18 aR19 aR20 aR21 (vCourtiers lv, vClock lv, vTears lv, vLeft lv, vRight lv, vScandals lv, (upd (vWearOf lv) r_107.toNatClampNeg (((vWearOf lv) r_107.toNatClampNeg) + (1 : Int32)))) sg pd ac (((eDeeds dd) + (1 : Int32)), (eFirstLate dd), ((eLateMany dd) + (0 : Int32)), (upd (eDeedHour dd) ((eDeeds dd) - (eDeeds dd) / (60 : Int32) * (60 : Int32)).toNatClampNeg ((vRight lv) xc.toNatClampNeg)), (upd (eDeedClock dd) ((eDeeds dd) - (eDeeds dd) / (60 : Int32) * (60 : Int32)).toNatClampNeg (vClock lv)), (upd (eDeedWho dd) ((eDeeds dd) - (eDeeds dd) / (60 : Int32) * (60 : Int32)).toNatClampNeg xc)) hd le bd my lf pa kp)) (fun _ => rfl) (fun r_121 _ H locs hw_121 hP hD hS => ?_)
      have hP : va_P δ vwCl (wR cI cJ cZ aR0 aR1 aR2 aR3 aR4 aR5 aR6 aR7 aR8 aR9 aR10 aR11 aR12 aR13 aR14 aR15 aR16 aR17 aR18 aR19 aR20 aR21 (vCourtiers lv, vClock lv, vTears lv, vLeft lv, vRight lv, vScandals lv, (upd (vWearOf lv) r_107.toNatClampNeg (((vWearOf lv) r_107.toNatClampNeg) + (1 : Int32)))) sg pd ac (((eDeeds dd) + (1 : Int32)), (eFirstLate dd), ((eLateMany dd) + (0 : Int32)), (upd (eDeedHour dd) ((eDeeds dd) - (eDeeds dd) / (60 : Int32) * (60 : Int32)).toNatClampNeg ((vRight lv) xc.toNatClampNeg)), (upd (eDeedClock dd) ((eDeeds dd) - (eDeeds dd) / (60 : Int32) * (60 : Int32)).toNatClampNeg (vClock lv)), (upd (eDeedWho dd) ((eDeeds dd) - (eDeeds dd) / (60 : Int32) * (60 : Int32)).toNatClampNeg xc)) hd le bd my lf pa kp) H := hP
      have hD : va_D A (wR cI cJ cZ aR0 aR1 aR2 aR3 aR4 aR5 aR6 aR7 aR8 aR9 aR10 aR11 aR12 aR13 aR14 aR15 aR16 aR17 aR18 aR19 aR20 aR21 (vCourtiers lv, vClock lv, vTears lv, vLeft lv, vRight lv, vScandals lv, (upd (vWearOf lv) r_107.toNatClampNeg (((vWearOf lv) r_107.toNatClampNeg) + (1 : Int32)))) sg pd ac (((eDeeds dd) + (1 : Int32)), (eFirstLate dd), ((eLateMany dd) + (0 : Int32)), (upd (eDeedHour dd) ((eDeeds dd) - (eDeeds dd) / (60 : Int32) * (60 : Int32)).toNatClampNeg ((vRight lv) xc.toNatClampNeg)), (upd (eDeedClock dd) ((eDeeds dd) - (eDeeds dd) / (60 : Int32) * (60 : Int32)).toNatClampNeg (vClock lv)), (upd (eDeedWho dd) ((eDeeds dd) - (eDeeds dd) / (60 : Int32) * (60 : Int32)).toNatClampNeg xc)) hd le bd my lf pa kp) := hD
      have hR := bnd_eq hR hw_121.symm
      refine va_iald hx hb hK hP 4 0 rfl rfl (at_in hw_121 hc hrt) dX6_doDeed_124 ?_
      refine lv_aload_n hx hb dX6_doDeed_125 rfl (lv_at hl 2 rfl) ?_
      refine va_get (D := δ) (ci := 6) (v := .int (vTears lv)) (C := RX6) (T := TX6) (N := 34) hx hb hts hinX6 hown hK hP 0 rfl rfl 2 (by decide) (hts (.fieldLink RX6 75 "GloveHoursModel" "tears" "I") (List.mem_of_getElem? (i := 10) rfl)) (fun _ h9 => h9) rfl dX6_doDeed_126 ?_
      refine lv_icmp_lt (tgt := 138) hx hb dX6_doDeed_129 (by decide) (fun c_129 => ?_) (fun c_129 => ?_)
      · have c_129 : (((upd (vWearOf lv) r_107.toNatClampNeg (((vWearOf lv) r_107.toNatClampNeg) + (1 : Int32))) r_121.toNatClampNeg) < (vTears lv)) := c_129
        have hR := hR.trans (if_pos c_129)
        exact hret _ _ ((vCourtiers lv, vClock lv, vTears lv, vLeft lv, vRight lv, vScandals lv, (upd (vWearOf lv) r_107.toNatClampNeg (((vWearOf lv) r_107.toNatClampNeg) + (1 : Int32)))), (((eDeeds dd) + (1 : Int32)), (eFirstLate dd), ((eLateMany dd) + (0 : Int32)), (upd (eDeedHour dd) ((eDeeds dd) - (eDeeds dd) / (60 : Int32) * (60 : Int32)).toNatClampNeg ((vRight lv) xc.toNatClampNeg)), (upd (eDeedClock dd) ((eDeeds dd) - (eDeeds dd) / (60 : Int32) * (60 : Int32)).toNatClampNeg (vClock lv)), (upd (eDeedWho dd) ((eDeeds dd) - (eDeeds dd) / (60 : Int32) * (60 : Int32)).toNatClampNeg xc))) _ _ hR hP hD hS dX6_doDeed_138
      · have c_129 : ¬ (((upd (vWearOf lv) r_107.toNatClampNeg (((vWearOf lv) r_107.toNatClampNeg) + (1 : Int32))) r_121.toNatClampNeg) < (vTears lv)) := c_129
        have hR := hR.trans (if_neg c_129)
        refine lv_aload_n hx hb dX6_doDeed_132 rfl (lv_at hl 2 rfl) ?_
        refine lv_iload_n hx hb dX6_doDeed_133 rfl (lv_at hl 3 rfl) ?_
        refine lv_iload_n hx hb dX6_doDeed_134 rfl (lv_at hl 1 rfl) ?_
        have hr := mrV (p := p) (e := e) (R := rm_X6_doDeed) (below := below) (meth := meth) (H := H) (locs := locs) (ls := ls) (As := [.int xc, .int ((vRight lv) xc.toNatClampNeg)]) (rest := []) (c_X6_lose l δ cI cJ cZ aR0 aR1 aR2 aR3 aR4 aR5 aR6 aR7 aR8 aR9 aR10 aR11 aR12 aR13 aR14 aR15 aR16 aR17 aR18 aR19 aR20 aR21 (vCourtiers lv, vClock lv, vTears lv, vLeft lv, vRight lv, vScandals lv, (upd (vWearOf lv) r_107.toNatClampNeg (((vWearOf lv) r_107.toNatClampNeg) + (1 : Int32)))) sg pd ac (((eDeeds dd) + (1 : Int32)), (eFirstLate dd), ((eLateMany dd) + (0 : Int32)), (upd (eDeedHour dd) ((eDeeds dd) - (eDeeds dd) / (60 : Int32) * (60 : Int32)).toNatClampNeg ((vRight lv) xc.toNatClampNeg)), (upd (eDeedClock dd) ((eDeeds dd) - (eDeeds dd) / (60 : Int32) * (60 : Int32)).toNatClampNeg (vClock lv)), (upd (eDeedWho dd) ((eDeeds dd) - (eDeeds dd) / (60 : Int32) * (60 : Int32)).toNatClampNeg xc)) hd le bd my lf pa kp xc ((vRight lv) xc.toNatClampNeg) hc hrt) hx hb hml hts hown hK hNW hP hD [0, 1, 2, 3, 4, 5, 6, 7, 8, 9, 10, 11, 12, 13, 14, 15, 16, 17, 18, 19, 20, 21] rfl rfl 6 0 rfl rfl (cwV 2 hts gX6_doDeed_X6_lose rfl rfl rfl (by decide +kernel) ⟨(Nat.le_of_ble_eq_true rfl), (Nat.le_of_ble_eq_true rfl)⟩) rfl hl.1 rfl (Nat.le_of_ble_eq_true rfl) dX6_doDeed_135
        refine mc_v (wr := ([] : va_W)) hr hP hD hS hA [0, 1, 2, 3, 4, 5, 6, 7, 8, 9, 10, 11, 12, 13, 14, 15, 16, 17, 18, 19, 20, 21] [] [0, 1, 2, 3, 4, 5, 6, 7, 8, 9, 10, 11, 12, 13, 14, 15, 16, 17, 18, 19, 20, 21] rfl rfl rfl rfl rfl (wn := fun u_135 => (wR cI cJ cZ aR0 aR1 aR2 aR3 aR4 aR5 aR6 aR7 aR8 aR9 aR10 aR11 aR12 aR13 aR14 aR15 aR16 aR17 aR18 aR19 aR20 aR21 u_135 sg pd ac (((eDeeds dd) + (1 : Int32)), (eFirstLate dd), ((eLateMany dd) + (0 : Int32)), (upd (eDeedHour dd) ((eDeeds dd) - (eDeeds dd) / (60 : Int32) * (60 : Int32)).toNatClampNeg ((vRight lv) xc.toNatClampNeg)), (upd (eDeedClock dd) ((eDeeds dd) - (eDeeds dd) / (60 : Int32) * (60 : Int32)).toNatClampNeg (vClock lv)), (upd (eDeedWho dd) ((eDeeds dd) - (eDeeds dd) / (60 : Int32) * (60 : Int32)).toNatClampNeg xc)) hd le bd my lf pa kp)) (fun _ => rfl) (fun u_135 H locs hw_135 hP hD hS => ?_)
        have hP : va_P δ vwCl (wR cI cJ cZ aR0 aR1 aR2 aR3 aR4 aR5 aR6 aR7 aR8 aR9 aR10 aR11 aR12 aR13 aR14 aR15 aR16 aR17 aR18 aR19 aR20 aR21 u_135 sg pd ac (((eDeeds dd) + (1 : Int32)), (eFirstLate dd), ((eLateMany dd) + (0 : Int32)), (upd (eDeedHour dd) ((eDeeds dd) - (eDeeds dd) / (60 : Int32) * (60 : Int32)).toNatClampNeg ((vRight lv) xc.toNatClampNeg)), (upd (eDeedClock dd) ((eDeeds dd) - (eDeeds dd) / (60 : Int32) * (60 : Int32)).toNatClampNeg (vClock lv)), (upd (eDeedWho dd) ((eDeeds dd) - (eDeeds dd) / (60 : Int32) * (60 : Int32)).toNatClampNeg xc)) hd le bd my lf pa kp) H := hP
        have hD : va_D A (wR cI cJ cZ aR0 aR1 aR2 aR3 aR4 aR5 aR6 aR7 aR8 aR9 aR10 aR11 aR12 aR13 aR14 aR15 aR16 aR17 aR18 aR19 aR20 aR21 u_135 sg pd ac (((eDeeds dd) + (1 : Int32)), (eFirstLate dd), ((eLateMany dd) + (0 : Int32)), (upd (eDeedHour dd) ((eDeeds dd) - (eDeeds dd) / (60 : Int32) * (60 : Int32)).toNatClampNeg ((vRight lv) xc.toNatClampNeg)), (upd (eDeedClock dd) ((eDeeds dd) - (eDeeds dd) / (60 : Int32) * (60 : Int32)).toNatClampNeg (vClock lv)), (upd (eDeedWho dd) ((eDeeds dd) - (eDeeds dd) / (60 : Int32) * (60 : Int32)).toNatClampNeg xc)) hd le bd my lf pa kp) := hD
        have hR := bnd_eq hR hw_135.symm
        exact hret _ _ (u_135, (((eDeeds dd) + (1 : Int32)), (eFirstLate dd), ((eLateMany dd) + (0 : Int32)), (upd (eDeedHour dd) ((eDeeds dd) - (eDeeds dd) / (60 : Int32) * (60 : Int32)).toNatClampNeg ((vRight lv) xc.toNatClampNeg)), (upd (eDeedClock dd) ((eDeeds dd) - (eDeeds dd) / (60 : Int32) * (60 : Int32)).toNatClampNeg (vClock lv)), (upd (eDeedWho dd) ((eDeeds dd) - (eDeeds dd) / (60 : Int32) * (60 : Int32)).toNatClampNeg xc))) _ _ hR hP hD hS dX6_doDeed_138
    · have c_79 : ¬ (((vRight lv) xc.toNatClampNeg) = (vClock lv)) := c_79
      have hR := hR.trans (if_neg c_79)
      refine lv_iconst (v := (1 : Int32)) hx hb dX6_doDeed_82 (by decide) ?_
      refine lv_goto (tgt := 87) hx hb dX6_doDeed_83 (by decide) ?_
      refine lv_iadd hx hb dX6_doDeed_87 ?_
      refine va_put (D := δ) (ci := 6) (v := .int ((eLateMany dd) + (1 : Int32))) (ty := .int) (C := RX6) (T := TX6) (N := 34) hx hb hts hinX6 tyX6 tyX6_ok nmX6 hown hK hP hD hS 0 rfl rfl 22 (by decide) (hts (.fieldLink RX6 160 "GloveHoursModel" "lateMany" "I") (List.mem_of_getElem? (i := 8) rfl)) (fun _ h9 => h9) rfl (by decide +kernel) rfl rfl (Nat.le_of_ble_eq_true rfl) dX6_doDeed_88 (fun H locs hP hD hS => ?_)
      have hP : va_P δ vwCl (wR cI cJ cZ aR0 aR1 aR2 aR3 aR4 aR5 aR6 aR7 aR8 aR9 aR10 aR11 aR12 aR13 aR14 aR15 aR16 aR17 aR18 aR19 aR20 aR21 lv sg pd ac (eDeeds dd, (eFirstLate dd), ((eLateMany dd) + (1 : Int32)), (upd (eDeedHour dd) ((eDeeds dd) - (eDeeds dd) / (60 : Int32) * (60 : Int32)).toNatClampNeg ((vRight lv) xc.toNatClampNeg)), (upd (eDeedClock dd) ((eDeeds dd) - (eDeeds dd) / (60 : Int32) * (60 : Int32)).toNatClampNeg (vClock lv)), (upd (eDeedWho dd) ((eDeeds dd) - (eDeeds dd) / (60 : Int32) * (60 : Int32)).toNatClampNeg xc)) hd le bd my lf pa kp) H := hP
      have hD : va_D A (wR cI cJ cZ aR0 aR1 aR2 aR3 aR4 aR5 aR6 aR7 aR8 aR9 aR10 aR11 aR12 aR13 aR14 aR15 aR16 aR17 aR18 aR19 aR20 aR21 lv sg pd ac (eDeeds dd, (eFirstLate dd), ((eLateMany dd) + (1 : Int32)), (upd (eDeedHour dd) ((eDeeds dd) - (eDeeds dd) / (60 : Int32) * (60 : Int32)).toNatClampNeg ((vRight lv) xc.toNatClampNeg)), (upd (eDeedClock dd) ((eDeeds dd) - (eDeeds dd) / (60 : Int32) * (60 : Int32)).toNatClampNeg (vClock lv)), (upd (eDeedWho dd) ((eDeeds dd) - (eDeeds dd) / (60 : Int32) * (60 : Int32)).toNatClampNeg xc)) hd le bd my lf pa kp) := hD
      refine lv_aload_n hx hb dX6_doDeed_91 rfl (lv_at hl 2 rfl) ?_
      refine lv_dup hx hb dX6_doDeed_92 rfl ?_
      refine va_get (D := δ) (ci := 6) (v := .int (eDeeds dd)) (C := RX6) (T := TX6) (N := 34) hx hb hts hinX6 hown hK hP 0 rfl rfl 20 (by decide) (hts (.fieldLink RX6 154 "GloveHoursModel" "deeds" "I") (List.mem_of_getElem? (i := 2) rfl)) (fun _ h9 => h9) rfl dX6_doDeed_93 ?_
      refine lv_iconst (v := (1 : Int32)) hx hb dX6_doDeed_96 (by decide) ?_
      refine lv_iadd hx hb dX6_doDeed_97 ?_
      refine va_put (D := δ) (ci := 6) (v := .int ((eDeeds dd) + (1 : Int32))) (ty := .int) (C := RX6) (T := TX6) (N := 34) hx hb hts hinX6 tyX6 tyX6_ok nmX6 hown hK hP hD hS 0 rfl rfl 20 (by decide) (hts (.fieldLink RX6 154 "GloveHoursModel" "deeds" "I") (List.mem_of_getElem? (i := 2) rfl)) (fun _ h9 => h9) rfl (by decide +kernel) rfl rfl (Nat.le_of_ble_eq_true rfl) dX6_doDeed_98 (fun H locs hP hD hS => ?_)
      have hP : va_P δ vwCl (wR cI cJ cZ aR0 aR1 aR2 aR3 aR4 aR5 aR6 aR7 aR8 aR9 aR10 aR11 aR12 aR13 aR14 aR15 aR16 aR17 aR18 aR19 aR20 aR21 lv sg pd ac (((eDeeds dd) + (1 : Int32)), (eFirstLate dd), ((eLateMany dd) + (1 : Int32)), (upd (eDeedHour dd) ((eDeeds dd) - (eDeeds dd) / (60 : Int32) * (60 : Int32)).toNatClampNeg ((vRight lv) xc.toNatClampNeg)), (upd (eDeedClock dd) ((eDeeds dd) - (eDeeds dd) / (60 : Int32) * (60 : Int32)).toNatClampNeg (vClock lv)), (upd (eDeedWho dd) ((eDeeds dd) - (eDeeds dd) / (60 : Int32) * (60 : Int32)).toNatClampNeg xc)) hd le bd my lf pa kp) H := hP
      have hD : va_D A (wR cI cJ cZ aR0 aR1 aR2 aR3 aR4 aR5 aR6 aR7 aR8 aR9 aR10 aR11 aR12 aR13 aR14 aR15 aR16 aR17 aR18 aR19 aR20 aR21 lv sg pd ac (((eDeeds dd) + (1 : Int32)), (eFirstLate dd), ((eLateMany dd) + (1 : Int32)), (upd (eDeedHour dd) ((eDeeds dd) - (eDeeds dd) / (60 : Int32) * (60 : Int32)).toNatClampNeg ((vRight lv) xc.toNatClampNeg)), (upd (eDeedClock dd) ((eDeeds dd) - (eDeeds dd) / (60 : Int32) * (60 : Int32)).toNatClampNeg (vClock lv)), (upd (eDeedWho dd) ((eDeeds dd) - (eDeeds dd) / (60 : Int32) * (60 : Int32)).toNatClampNeg xc)) hd le bd my lf pa kp) := hD
      refine lv_aload_n hx hb dX6_doDeed_101 rfl (lv_at hl 2 rfl) ?_
      refine va_get (D := δ) (ci := 6) (v := .ref aR4) (C := RX6) (T := TX6) (N := 34) hx hb hts hinX6 hown hK hP 0 rfl rfl 6 (by decide) (hts (.fieldLink RX6 19 "GloveHoursModel" "wearOf" "[I") (List.mem_of_getElem? (i := 9) rfl)) (fun _ h9 => h9) rfl dX6_doDeed_102 ?_
      refine lv_iload_n hx hb dX6_doDeed_105 rfl (lv_at hl 3 rfl) ?_
      refine lv_iload_n hx hb dX6_doDeed_106 rfl (lv_at hl 1 rfl) ?_
      have hr := mrS (p := p) (e := e) (R := rm_X6_doDeed) (below := below) (meth := meth) (H := H) (locs := locs) (ls := ls) (As := [.int xc, .int ((vRight lv) xc.toNatClampNeg)]) (rest := [.ref aR4]) (c_X6_at l δ cI cJ cZ xc ((vRight lv) xc.toNatClampNeg)) hx hb hml hts hown hK hNW hP hD [] rfl rfl (va_cwS 2 hts gX6_doDeed_X6_at rfl rfl rfl (by decide +kernel) ⟨(Nat.le_of_ble_eq_true rfl), (Nat.le_of_ble_eq_true rfl)⟩) rfl hl.1 rfl (Nat.le_of_ble_eq_true rfl) dX6_doDeed_107
      refine mc_i (wr := (wR cI cJ cZ aR0 aR1 aR2 aR3 aR4 aR5 aR6 aR7 aR8 aR9 aR10 aR11 aR12 aR13 aR14 aR15 aR16 aR17 aR18 aR19 aR20 aR21 lv sg pd ac (((eDeeds dd) + (1 : Int32)), (eFirstLate dd), ((eLateMany dd) + (1 : Int32)), (upd (eDeedHour dd) ((eDeeds dd) - (eDeeds dd) / (60 : Int32) * (60 : Int32)).toNatClampNeg ((vRight lv) xc.toNatClampNeg)), (upd (eDeedClock dd) ((eDeeds dd) - (eDeeds dd) / (60 : Int32) * (60 : Int32)).toNatClampNeg (vClock lv)), (upd (eDeedWho dd) ((eDeeds dd) - (eDeeds dd) / (60 : Int32) * (60 : Int32)).toNatClampNeg xc)) hd le bd my lf pa kp)) hr hP hD hS hA [] [0, 1, 2, 3, 4, 5, 6, 7, 8, 9, 10, 11, 12, 13, 14, 15, 16, 17, 18, 19, 20, 21] [0, 1, 2, 3, 4, 5, 6, 7, 8, 9, 10, 11, 12, 13, 14, 15, 16, 17, 18, 19, 20, 21] rfl rfl rfl rfl rfl (wn := fun _ => (wR cI cJ cZ aR0 aR1 aR2 aR3 aR4 aR5 aR6 aR7 aR8 aR9 aR10 aR11 aR12 aR13 aR14 aR15 aR16 aR17 aR18 aR19 aR20 aR21 lv sg pd ac (((eDeeds dd) + (1 : Int32)), (eFirstLate dd), ((eLateMany dd) + (1 : Int32)), (upd (eDeedHour dd) ((eDeeds dd) - (eDeeds dd) / (60 : Int32) * (60 : Int32)).toNatClampNeg ((vRight lv) xc.toNatClampNeg)), (upd (eDeedClock dd) ((eDeeds dd) - (eDeeds dd) / (60 : Int32) * (60 : Int32)).toNatClampNeg (vClock lv)), (upd (eDeedWho dd) ((eDeeds dd) - (eDeeds dd) / (60 : Int32) * (60 : Int32)).toNatClampNeg xc)) hd le bd my lf pa kp)) (fun _ => rfl) (fun r_107 _ H locs hw_107 hP hD hS => ?_)
      have hP : va_P δ vwCl (wR cI cJ cZ aR0 aR1 aR2 aR3 aR4 aR5 aR6 aR7 aR8 aR9 aR10 aR11 aR12 aR13 aR14 aR15 aR16 aR17 aR18 aR19 aR20 aR21 lv sg pd ac (((eDeeds dd) + (1 : Int32)), (eFirstLate dd), ((eLateMany dd) + (1 : Int32)), (upd (eDeedHour dd) ((eDeeds dd) - (eDeeds dd) / (60 : Int32) * (60 : Int32)).toNatClampNeg ((vRight lv) xc.toNatClampNeg)), (upd (eDeedClock dd) ((eDeeds dd) - (eDeeds dd) / (60 : Int32) * (60 : Int32)).toNatClampNeg (vClock lv)), (upd (eDeedWho dd) ((eDeeds dd) - (eDeeds dd) / (60 : Int32) * (60 : Int32)).toNatClampNeg xc)) hd le bd my lf pa kp) H := hP
      have hD : va_D A (wR cI cJ cZ aR0 aR1 aR2 aR3 aR4 aR5 aR6 aR7 aR8 aR9 aR10 aR11 aR12 aR13 aR14 aR15 aR16 aR17 aR18 aR19 aR20 aR21 lv sg pd ac (((eDeeds dd) + (1 : Int32)), (eFirstLate dd), ((eLateMany dd) + (1 : Int32)), (upd (eDeedHour dd) ((eDeeds dd) - (eDeeds dd) / (60 : Int32) * (60 : Int32)).toNatClampNeg ((vRight lv) xc.toNatClampNeg)), (upd (eDeedClock dd) ((eDeeds dd) - (eDeeds dd) / (60 : Int32) * (60 : Int32)).toNatClampNeg (vClock lv)), (upd (eDeedWho dd) ((eDeeds dd) - (eDeeds dd) / (60 : Int32) * (60 : Int32)).toNatClampNeg xc)) hd le bd my lf pa kp) := hD
      have hR := bnd_eq hR hw_107.symm
      refine lv_dup2_11 hx hb dX6_doDeed_110 rfl rfl ?_
      refine va_iald hx hb hK hP 4 0 rfl rfl (at_in hw_107 hc hrt) dX6_doDeed_111 ?_
      refine lv_iconst (v := (1 : Int32)) hx hb dX6_doDeed_112 (by decide) ?_
      refine lv_iadd hx hb dX6_doDeed_113 ?_
      refine va_iast hx hb hK hP hD hS 4 0 rfl rfl (at_in hw_107 hc hrt) dX6_doDeed_114 (fun H locs hP hD hS => ?_)
      have hP : va_P δ vwCl (wR cI cJ cZ aR0 aR1 aR2 aR3 aR4 aR5 aR6 aR7 aR8 aR9 aR10 aR11 aR12 aR13 aR14 aR15 aR16 aR17 aR18 aR19 aR20 aR21 (vCourtiers lv, vClock lv, vTears lv, vLeft lv, vRight lv, vScandals lv, (upd (vWearOf lv) r_107.toNatClampNeg (((vWearOf lv) r_107.toNatClampNeg) + (1 : Int32)))) sg pd ac (((eDeeds dd) + (1 : Int32)), (eFirstLate dd), ((eLateMany dd) + (1 : Int32)), (upd (eDeedHour dd) ((eDeeds dd) - (eDeeds dd) / (60 : Int32) * (60 : Int32)).toNatClampNeg ((vRight lv) xc.toNatClampNeg)), (upd (eDeedClock dd) ((eDeeds dd) - (eDeeds dd) / (60 : Int32) * (60 : Int32)).toNatClampNeg (vClock lv)), (upd (eDeedWho dd) ((eDeeds dd) - (eDeeds dd) / (60 : Int32) * (60 : Int32)).toNatClampNeg xc)) hd le bd my lf pa kp) H := hP
      have hD : va_D A (wR cI cJ cZ aR0 aR1 aR2 aR3 aR4 aR5 aR6 aR7 aR8 aR9 aR10 aR11 aR12 aR13 aR14 aR15 aR16 aR17 aR18 aR19 aR20 aR21 (vCourtiers lv, vClock lv, vTears lv, vLeft lv, vRight lv, vScandals lv, (upd (vWearOf lv) r_107.toNatClampNeg (((vWearOf lv) r_107.toNatClampNeg) + (1 : Int32)))) sg pd ac (((eDeeds dd) + (1 : Int32)), (eFirstLate dd), ((eLateMany dd) + (1 : Int32)), (upd (eDeedHour dd) ((eDeeds dd) - (eDeeds dd) / (60 : Int32) * (60 : Int32)).toNatClampNeg ((vRight lv) xc.toNatClampNeg)), (upd (eDeedClock dd) ((eDeeds dd) - (eDeeds dd) / (60 : Int32) * (60 : Int32)).toNatClampNeg (vClock lv)), (upd (eDeedWho dd) ((eDeeds dd) - (eDeeds dd) / (60 : Int32) * (60 : Int32)).toNatClampNeg xc)) hd le bd my lf pa kp) := hD
      refine lv_aload_n hx hb dX6_doDeed_115 rfl (lv_at hl 2 rfl) ?_
      refine va_get (D := δ) (ci := 6) (v := .ref aR4) (C := RX6) (T := TX6) (N := 34) hx hb hts hinX6 hown hK hP 0 rfl rfl 6 (by decide) (hts (.fieldLink RX6 19 "GloveHoursModel" "wearOf" "[I") (List.mem_of_getElem? (i := 9) rfl)) (fun _ h9 => h9) rfl dX6_doDeed_116 ?_
      refine lv_iload_n hx hb dX6_doDeed_119 rfl (lv_at hl 3 rfl) ?_
      refine lv_iload_n hx hb dX6_doDeed_120 rfl (lv_at hl 1 rfl) ?_
      have hr := mrS (p := p) (e := e) (R := rm_X6_doDeed) (below := below) (meth := meth) (H := H) (locs := locs) (ls := ls) (As := [.int xc, .int ((vRight lv) xc.toNatClampNeg)]) (rest := [.ref aR4]) (c_X6_at l δ cI cJ cZ xc ((vRight lv) xc.toNatClampNeg)) hx hb hml hts hown hK hNW hP hD [] rfl rfl (va_cwS 2 hts gX6_doDeed_X6_at rfl rfl rfl (by decide +kernel) ⟨(Nat.le_of_ble_eq_true rfl), (Nat.le_of_ble_eq_true rfl)⟩) rfl hl.1 rfl (Nat.le_of_ble_eq_true rfl) dX6_doDeed_121
      refine mc_i (wr := (wR cI cJ cZ aR0 aR1 aR2 aR3 aR4 aR5 aR6 aR7 aR8 aR9 aR10 aR11 aR12 aR13 aR14 aR15 aR16 aR17 aR18 aR19 aR20 aR21 (vCourtiers lv, vClock lv, vTears lv, vLeft lv, vRight lv, vScandals lv, (upd (vWearOf lv) r_107.toNatClampNeg (((vWearOf lv) r_107.toNatClampNeg) + (1 : Int32)))) sg pd ac (((eDeeds dd) + (1 : Int32)), (eFirstLate dd), ((eLateMany dd) + (1 : Int32)), (upd (eDeedHour dd) ((eDeeds dd) - (eDeeds dd) / (60 : Int32) * (60 : Int32)).toNatClampNeg ((vRight lv) xc.toNatClampNeg)), (upd (eDeedClock dd) ((eDeeds dd) - (eDeeds dd) / (60 : Int32) * (60 : Int32)).toNatClampNeg (vClock lv)), (upd (eDeedWho dd) ((eDeeds dd) - (eDeeds dd) / (60 : Int32) * (60 : Int32)).toNatClampNeg xc)) hd le bd my lf pa kp)) hr hP hD hS hA [] [0, 1, 2, 3, 4, 5, 6, 7, 8, 9, 10, 11, 12, 13, 14, 15, 16, 17, 18, 19, 20, 21] [0, 1, 2, 3, 4, 5, 6, 7, 8, 9, 10, 11, 12, 13, 14, 15, 16, 17, 18, 19, 20, 21] rfl rfl rfl rfl rfl (wn := fun _ => (wR cI cJ cZ aR0 aR1 aR2 aR3 aR4 aR5 aR6 aR7 aR8 aR9 aR10 aR11 aR12 aR13 aR14 aR15 aR16 aR17 aR18 aR19 aR20 aR21 (vCourtiers lv, vClock lv, vTears lv, vLeft lv, vRight lv, vScandals lv, (upd (vWearOf lv) r_107.toNatClampNeg (((vWearOf lv) r_107.toNatClampNeg) + (1 : Int32)))) sg pd ac (((eDeeds dd) + (1 : Int32)), (eFirstLate dd), ((eLateMany dd) + (1 : Int32)), (upd (eDeedHour dd) ((eDeeds dd) - (eDeeds dd) / (60 : Int32) * (60 : Int32)).toNatClampNeg ((vRight lv) xc.toNatClampNeg)), (upd (eDeedClock dd) ((eDeeds dd) - (eDeeds dd) / (60 : Int32) * (60 : Int32)).toNatClampNeg (vClock lv)), (upd (eDeedWho dd) ((eDeeds dd) - (eDeeds dd) / (60 : Int32) * (60 : Int32)).toNatClampNeg xc)) hd le bd my lf pa kp)) (fun _ => rfl) (fun r_121 _ H locs hw_121 hP hD hS => ?_)
      have hP : va_P δ vwCl (wR cI cJ cZ aR0 aR1 aR2 aR3 aR4 aR5 aR6 aR7 aR8 aR9 aR10 aR11 aR12 aR13 aR14 aR15 aR16 aR17 aR18 aR19 aR20 aR21 (vCourtiers lv, vClock lv, vTears lv, vLeft lv, vRight lv, vScandals lv, (upd (vWearOf lv) r_107.toNatClampNeg (((vWearOf lv) r_107.toNatClampNeg) + (1 : Int32)))) sg pd ac (((eDeeds dd) + (1 : Int32)), (eFirstLate dd), ((eLateMany dd) + (1 : Int32)), (upd (eDeedHour dd) ((eDeeds dd) - (eDeeds dd) / (60 : Int32) * (60 : Int32)).toNatClampNeg ((vRight lv) xc.toNatClampNeg)), (upd (eDeedClock dd) ((eDeeds dd) - (eDeeds dd) / (60 : Int32) * (60 : Int32)).toNatClampNeg (vClock lv)), (upd (eDeedWho dd) ((eDeeds dd) - (eDeeds dd) / (60 : Int32) * (60 : Int32)).toNatClampNeg xc)) hd le bd my lf pa kp) H := hP
      have hD : va_D A (wR cI cJ cZ aR0 aR1 aR2 aR3 aR4 aR5 aR6 aR7 aR8 aR9 aR10 aR11 aR12 aR13 aR14 aR15 aR16 aR17 aR18 aR19 aR20 aR21 (vCourtiers lv, vClock lv, vTears lv, vLeft lv, vRight lv, vScandals lv, (upd (vWearOf lv) r_107.toNatClampNeg (((vWearOf lv) r_107.toNatClampNeg) + (1 : Int32)))) sg pd ac (((eDeeds dd) + (1 : Int32)), (eFirstLate dd), ((eLateMany dd) + (1 : Int32)), (upd (eDeedHour dd) ((eDeeds dd) - (eDeeds dd) / (60 : Int32) * (60 : Int32)).toNatClampNeg ((vRight lv) xc.toNatClampNeg)), (upd (eDeedClock dd) ((eDeeds dd) - (eDeeds dd) / (60 : Int32) * (60 : Int32)).toNatClampNeg (vClock lv)), (upd (eDeedWho dd) ((eDeeds dd) - (eDeeds dd) / (60 : Int32) * (60 : Int32)).toNatClampNeg xc)) hd le bd my lf pa kp) := hD
      have hR := bnd_eq hR hw_121.symm
      refine va_iald hx hb hK hP 4 0 rfl rfl (at_in hw_121 hc hrt) dX6_doDeed_124 ?_
      refine lv_aload_n hx hb dX6_doDeed_125 rfl (lv_at hl 2 rfl) ?_
      refine va_get (D := δ) (ci := 6) (v := .int (vTears lv)) (C := RX6) (T := TX6) (N := 34) hx hb hts hinX6 hown hK hP 0 rfl rfl 2 (by decide) (hts (.fieldLink RX6 75 "GloveHoursModel" "tears" "I") (List.mem_of_getElem? (i := 10) rfl)) (fun _ h9 => h9) rfl dX6_doDeed_126 ?_
      refine lv_icmp_lt (tgt := 138) hx hb dX6_doDeed_129 (by decide) (fun c_129 => ?_) (fun c_129 => ?_)
      · have c_129 : (((upd (vWearOf lv) r_107.toNatClampNeg (((vWearOf lv) r_107.toNatClampNeg) + (1 : Int32))) r_121.toNatClampNeg) < (vTears lv)) := c_129
        have hR := hR.trans (if_pos c_129)
        exact hret _ _ ((vCourtiers lv, vClock lv, vTears lv, vLeft lv, vRight lv, vScandals lv, (upd (vWearOf lv) r_107.toNatClampNeg (((vWearOf lv) r_107.toNatClampNeg) + (1 : Int32)))), (((eDeeds dd) + (1 : Int32)), (eFirstLate dd), ((eLateMany dd) + (1 : Int32)), (upd (eDeedHour dd) ((eDeeds dd) - (eDeeds dd) / (60 : Int32) * (60 : Int32)).toNatClampNeg ((vRight lv) xc.toNatClampNeg)), (upd (eDeedClock dd) ((eDeeds dd) - (eDeeds dd) / (60 : Int32) * (60 : Int32)).toNatClampNeg (vClock lv)), (upd (eDeedWho dd) ((eDeeds dd) - (eDeeds dd) / (60 : Int32) * (60 : Int32)).toNatClampNeg xc))) _ _ hR hP hD hS dX6_doDeed_138
      · have c_129 : ¬ (((upd (vWearOf lv) r_107.toNatClampNeg (((vWearOf lv) r_107.toNatClampNeg) + (1 : Int32))) r_121.toNatClampNeg) < (vTears lv)) := c_129
        have hR := hR.trans (if_neg c_129)
        refine lv_aload_n hx hb dX6_doDeed_132 rfl (lv_at hl 2 rfl) ?_
        refine lv_iload_n hx hb dX6_doDeed_133 rfl (lv_at hl 3 rfl) ?_
        refine lv_iload_n hx hb dX6_doDeed_134 rfl (lv_at hl 1 rfl) ?_
        have hr := mrV (p := p) (e := e) (R := rm_X6_doDeed) (below := below) (meth := meth) (H := H) (locs := locs) (ls := ls) (As := [.int xc, .int ((vRight lv) xc.toNatClampNeg)]) (rest := []) (c_X6_lose l δ cI cJ cZ aR0 aR1 aR2 aR3 aR4 aR5 aR6 aR7 aR8 aR9 aR10 aR11 aR12 aR13 aR14 aR15 aR16 aR17 aR18 aR19 aR20 aR21 (vCourtiers lv, vClock lv, vTears lv, vLeft lv, vRight lv, vScandals lv, (upd (vWearOf lv) r_107.toNatClampNeg (((vWearOf lv) r_107.toNatClampNeg) + (1 : Int32)))) sg pd ac (((eDeeds dd) + (1 : Int32)), (eFirstLate dd), ((eLateMany dd) + (1 : Int32)), (upd (eDeedHour dd) ((eDeeds dd) - (eDeeds dd) / (60 : Int32) * (60 : Int32)).toNatClampNeg ((vRight lv) xc.toNatClampNeg)), (upd (eDeedClock dd) ((eDeeds dd) - (eDeeds dd) / (60 : Int32) * (60 : Int32)).toNatClampNeg (vClock lv)), (upd (eDeedWho dd) ((eDeeds dd) - (eDeeds dd) / (60 : Int32) * (60 : Int32)).toNatClampNeg xc)) hd le bd my lf pa kp xc ((vRight lv) xc.toNatClampNeg) hc hrt) hx hb hml hts hown hK hNW hP hD [0, 1, 2, 3, 4, 5, 6, 7, 8, 9, 10, 11, 12, 13, 14, 15, 16, 17, 18, 19, 20, 21] rfl rfl 6 0 rfl rfl (cwV 2 hts gX6_doDeed_X6_lose rfl rfl rfl (by decide +kernel) ⟨(Nat.le_of_ble_eq_true rfl), (Nat.le_of_ble_eq_true rfl)⟩) rfl hl.1 rfl (Nat.le_of_ble_eq_true rfl) dX6_doDeed_135
        refine mc_v (wr := ([] : va_W)) hr hP hD hS hA [0, 1, 2, 3, 4, 5, 6, 7, 8, 9, 10, 11, 12, 13, 14, 15, 16, 17, 18, 19, 20, 21] [] [0, 1, 2, 3, 4, 5, 6, 7, 8, 9, 10, 11, 12, 13, 14, 15, 16, 17, 18, 19, 20, 21] rfl rfl rfl rfl rfl (wn := fun u_135 => (wR cI cJ cZ aR0 aR1 aR2 aR3 aR4 aR5 aR6 aR7 aR8 aR9 aR10 aR11 aR12 aR13 aR14 aR15 aR16 aR17 aR18 aR19 aR20 aR21 u_135 sg pd ac (((eDeeds dd) + (1 : Int32)), (eFirstLate dd), ((eLateMany dd) + (1 : Int32)), (upd (eDeedHour dd) ((eDeeds dd) - (eDeeds dd) / (60 : Int32) * (60 : Int32)).toNatClampNeg ((vRight lv) xc.toNatClampNeg)), (upd (eDeedClock dd) ((eDeeds dd) - (eDeeds dd) / (60 : Int32) * (60 : Int32)).toNatClampNeg (vClock lv)), (upd (eDeedWho dd) ((eDeeds dd) - (eDeeds dd) / (60 : Int32) * (60 : Int32)).toNatClampNeg xc)) hd le bd my lf pa kp)) (fun _ => rfl) (fun u_135 H locs hw_135 hP hD hS => ?_)
        have hP : va_P δ vwCl (wR cI cJ cZ aR0 aR1 aR2 aR3 aR4 aR5 aR6 aR7 aR8 aR9 aR10 aR11 aR12 aR13 aR14 aR15 aR16 aR17 aR18 aR19 aR20 aR21 u_135 sg pd ac (((eDeeds dd) + (1 : Int32)), (eFirstLate dd), ((eLateMany dd) + (1 : Int32)), (upd (eDeedHour dd) ((eDeeds dd) - (eDeeds dd) / (60 : Int32) * (60 : Int32)).toNatClampNeg ((vRight lv) xc.toNatClampNeg)), (upd (eDeedClock dd) ((eDeeds dd) - (eDeeds dd) / (60 : Int32) * (60 : Int32)).toNatClampNeg (vClock lv)), (upd (eDeedWho dd) ((eDeeds dd) - (eDeeds dd) / (60 : Int32) * (60 : Int32)).toNatClampNeg xc)) hd le bd my lf pa kp) H := hP
        have hD : va_D A (wR cI cJ cZ aR0 aR1 aR2 aR3 aR4 aR5 aR6 aR7 aR8 aR9 aR10 aR11 aR12 aR13 aR14 aR15 aR16 aR17 aR18 aR19 aR20 aR21 u_135 sg pd ac (((eDeeds dd) + (1 : Int32)), (eFirstLate dd), ((eLateMany dd) + (1 : Int32)), (upd (eDeedHour dd) ((eDeeds dd) - (eDeeds dd) / (60 : Int32) * (60 : Int32)).toNatClampNeg ((vRight lv) xc.toNatClampNeg)), (upd (eDeedClock dd) ((eDeeds dd) - (eDeeds dd) / (60 : Int32) * (60 : Int32)).toNatClampNeg (vClock lv)), (upd (eDeedWho dd) ((eDeeds dd) - (eDeeds dd) / (60 : Int32) * (60 : Int32)).toNatClampNeg xc)) hd le bd my lf pa kp) := hD
        have hR := bnd_eq hR hw_135.symm
        exact hret _ _ (u_135, (((eDeeds dd) + (1 : Int32)), (eFirstLate dd), ((eLateMany dd) + (1 : Int32)), (upd (eDeedHour dd) ((eDeeds dd) - (eDeeds dd) / (60 : Int32) * (60 : Int32)).toNatClampNeg ((vRight lv) xc.toNatClampNeg)), (upd (eDeedClock dd) ((eDeeds dd) - (eDeeds dd) / (60 : Int32) * (60 : Int32)).toNatClampNeg (vClock lv)), (upd (eDeedWho dd) ((eDeeds dd) - (eDeeds dd) / (60 : Int32) * (60 : Int32)).toNatClampNeg xc))) _ _ hR hP hD hS dX6_doDeed_138
  · have c_44 : ¬ (0 ≤ (eFirstLate dd)) := c_44
    have hR := hR.trans (if_neg c_44)
    refine lv_iload_n hx hb dX6_doDeed_47 rfl (lv_at hl 1 rfl) ?_
    refine lv_aload_n hx hb dX6_doDeed_48 rfl (lv_at hl 2 rfl) ?_
    refine va_get (D := δ) (ci := 6) (v := .int (vClock lv)) (C := RX6) (T := TX6) (N := 34) hx hb hts hinX6 hown hK hP 0 rfl rfl 1 (by decide) (hts (.fieldLink RX6 110 "GloveHoursModel" "clock" "I") (List.mem_of_getElem? (i := 5) rfl)) (fun _ h9 => h9) rfl dX6_doDeed_49 ?_
    refine lv_icmp_eq (tgt := 62) hx hb dX6_doDeed_52 (by decide) (fun c_52 => ?_) (fun c_52 => ?_)
    · have c_52 : (((vRight lv) xc.toNatClampNeg) = (vClock lv)) := c_52
      have hR := hR.trans (if_pos c_52)
      refine lv_aload_n hx hb dX6_doDeed_62 rfl (lv_at hl 2 rfl) ?_
      refine va_get (D := δ) (ci := 6) (v := .int (eFirstLate dd)) (C := RX6) (T := TX6) (N := 34) hx hb hts hinX6 hown hK hP 0 rfl rfl 21 (by decide) (hts (.fieldLink RX6 157 "GloveHoursModel" "firstLate" "I") (List.mem_of_getElem? (i := 7) rfl)) (fun _ h9 => h9) rfl dX6_doDeed_63 ?_
      refine va_put (D := δ) (ci := 6) (v := .int (eFirstLate dd)) (ty := .int) (C := RX6) (T := TX6) (N := 34) hx hb hts hinX6 tyX6 tyX6_ok nmX6 hown hK hP hD hS 0 rfl rfl 21 (by decide) (hts (.fieldLink RX6 157 "GloveHoursModel" "firstLate" "I") (List.mem_of_getElem? (i := 7) rfl)) (fun _ h9 => h9) rfl (by decide +kernel) rfl rfl (Nat.le_of_ble_eq_true rfl) dX6_doDeed_66 (fun H locs hP hD hS => ?_)
      have hP : va_P δ vwCl (wR cI cJ cZ aR0 aR1 aR2 aR3 aR4 aR5 aR6 aR7 aR8 aR9 aR10 aR11 aR12 aR13 aR14 aR15 aR16 aR17 aR18 aR19 aR20 aR21 lv sg pd ac (eDeeds dd, (eFirstLate dd), eLateMany dd, (upd (eDeedHour dd) ((eDeeds dd) - (eDeeds dd) / (60 : Int32) * (60 : Int32)).toNatClampNeg ((vRight lv) xc.toNatClampNeg)), (upd (eDeedClock dd) ((eDeeds dd) - (eDeeds dd) / (60 : Int32) * (60 : Int32)).toNatClampNeg (vClock lv)), (upd (eDeedWho dd) ((eDeeds dd) - (eDeeds dd) / (60 : Int32) * (60 : Int32)).toNatClampNeg xc)) hd le bd my lf pa kp) H := hP
      have hD : va_D A (wR cI cJ cZ aR0 aR1 aR2 aR3 aR4 aR5 aR6 aR7 aR8 aR9 aR10 aR11 aR12 aR13 aR14 aR15 aR16 aR17 aR18 aR19 aR20 aR21 lv sg pd ac (eDeeds dd, (eFirstLate dd), eLateMany dd, (upd (eDeedHour dd) ((eDeeds dd) - (eDeeds dd) / (60 : Int32) * (60 : Int32)).toNatClampNeg ((vRight lv) xc.toNatClampNeg)), (upd (eDeedClock dd) ((eDeeds dd) - (eDeeds dd) / (60 : Int32) * (60 : Int32)).toNatClampNeg (vClock lv)), (upd (eDeedWho dd) ((eDeeds dd) - (eDeeds dd) / (60 : Int32) * (60 : Int32)).toNatClampNeg xc)) hd le bd my lf pa kp) := hD
      refine lv_aload_n hx hb dX6_doDeed_69 rfl (lv_at hl 2 rfl) ?_
      refine lv_dup hx hb dX6_doDeed_70 rfl ?_
      refine va_get (D := δ) (ci := 6) (v := .int (eLateMany dd)) (C := RX6) (T := TX6) (N := 34) hx hb hts hinX6 hown hK hP 0 rfl rfl 22 (by decide) (hts (.fieldLink RX6 160 "GloveHoursModel" "lateMany" "I") (List.mem_of_getElem? (i := 8) rfl)) (fun _ h9 => h9) rfl dX6_doDeed_71 ?_
      refine lv_iload_n hx hb dX6_doDeed_74 rfl (lv_at hl 1 rfl) ?_
      refine lv_aload_n hx hb dX6_doDeed_75 rfl (lv_at hl 2 rfl) ?_
      refine va_get (D := δ) (ci := 6) (v := .int (vClock lv)) (C := RX6) (T := TX6) (N := 34) hx hb hts hinX6 hown hK hP 0 rfl rfl 1 (by decide) (hts (.fieldLink RX6 110 "GloveHoursModel" "clock" "I") (List.mem_of_getElem? (i := 5) rfl)) (fun _ h9 => h9) rfl dX6_doDeed_76 ?_
      refine lv_icmp_eq (tgt := 86) hx hb dX6_doDeed_79 (by decide) (fun c_79 => ?_) (fun c_79 => ?_)
      · have c_79 : (((vRight lv) xc.toNatClampNeg) = (vClock lv)) := c_79
        have hR := hR.trans (if_pos c_79)
        refine lv_iconst (v := (0 : Int32)) hx hb dX6_doDeed_86 (by decide) ?_
        refine lv_iadd hx hb dX6_doDeed_87 ?_
        refine va_put (D := δ) (ci := 6) (v := .int ((eLateMany dd) + (0 : Int32))) (ty := .int) (C := RX6) (T := TX6) (N := 34) hx hb hts hinX6 tyX6 tyX6_ok nmX6 hown hK hP hD hS 0 rfl rfl 22 (by decide) (hts (.fieldLink RX6 160 "GloveHoursModel" "lateMany" "I") (List.mem_of_getElem? (i := 8) rfl)) (fun _ h9 => h9) rfl (by decide +kernel) rfl rfl (Nat.le_of_ble_eq_true rfl) dX6_doDeed_88 (fun H locs hP hD hS => ?_)
        have hP : va_P δ vwCl (wR cI cJ cZ aR0 aR1 aR2 aR3 aR4 aR5 aR6 aR7 aR8 aR9 aR10 aR11 aR12 aR13 aR14 aR15 aR16 aR17 aR18 aR19 aR20 aR21 lv sg pd ac (eDeeds dd, (eFirstLate dd), ((eLateMany dd) + (0 : Int32)), (upd (eDeedHour dd) ((eDeeds dd) - (eDeeds dd) / (60 : Int32) * (60 : Int32)).toNatClampNeg ((vRight lv) xc.toNatClampNeg)), (upd (eDeedClock dd) ((eDeeds dd) - (eDeeds dd) / (60 : Int32) * (60 : Int32)).toNatClampNeg (vClock lv)), (upd (eDeedWho dd) ((eDeeds dd) - (eDeeds dd) / (60 : Int32) * (60 : Int32)).toNatClampNeg xc)) hd le bd my lf pa kp) H := hP
        have hD : va_D A (wR cI cJ cZ aR0 aR1 aR2 aR3 aR4 aR5 aR6 aR7 aR8 aR9 aR10 aR11 aR12 aR13 aR14 aR15 aR16 aR17 aR18 aR19 aR20 aR21 lv sg pd ac (eDeeds dd, (eFirstLate dd), ((eLateMany dd) + (0 : Int32)), (upd (eDeedHour dd) ((eDeeds dd) - (eDeeds dd) / (60 : Int32) * (60 : Int32)).toNatClampNeg ((vRight lv) xc.toNatClampNeg)), (upd (eDeedClock dd) ((eDeeds dd) - (eDeeds dd) / (60 : Int32) * (60 : Int32)).toNatClampNeg (vClock lv)), (upd (eDeedWho dd) ((eDeeds dd) - (eDeeds dd) / (60 : Int32) * (60 : Int32)).toNatClampNeg xc)) hd le bd my lf pa kp) := hD
        refine lv_aload_n hx hb dX6_doDeed_91 rfl (lv_at hl 2 rfl) ?_
        refine lv_dup hx hb dX6_doDeed_92 rfl ?_
        refine va_get (D := δ) (ci := 6) (v := .int (eDeeds dd)) (C := RX6) (T := TX6) (N := 34) hx hb hts hinX6 hown hK hP 0 rfl rfl 20 (by decide) (hts (.fieldLink RX6 154 "GloveHoursModel" "deeds" "I") (List.mem_of_getElem? (i := 2) rfl)) (fun _ h9 => h9) rfl dX6_doDeed_93 ?_
        refine lv_iconst (v := (1 : Int32)) hx hb dX6_doDeed_96 (by decide) ?_
        refine lv_iadd hx hb dX6_doDeed_97 ?_
        refine va_put (D := δ) (ci := 6) (v := .int ((eDeeds dd) + (1 : Int32))) (ty := .int) (C := RX6) (T := TX6) (N := 34) hx hb hts hinX6 tyX6 tyX6_ok nmX6 hown hK hP hD hS 0 rfl rfl 20 (by decide) (hts (.fieldLink RX6 154 "GloveHoursModel" "deeds" "I") (List.mem_of_getElem? (i := 2) rfl)) (fun _ h9 => h9) rfl (by decide +kernel) rfl rfl (Nat.le_of_ble_eq_true rfl) dX6_doDeed_98 (fun H locs hP hD hS => ?_)
        have hP : va_P δ vwCl (wR cI cJ cZ aR0 aR1 aR2 aR3 aR4 aR5 aR6 aR7 aR8 aR9 aR10 aR11 aR12 aR13 aR14 aR15 aR16 aR17 aR18 aR19 aR20 aR21 lv sg pd ac (((eDeeds dd) + (1 : Int32)), (eFirstLate dd), ((eLateMany dd) + (0 : Int32)), (upd (eDeedHour dd) ((eDeeds dd) - (eDeeds dd) / (60 : Int32) * (60 : Int32)).toNatClampNeg ((vRight lv) xc.toNatClampNeg)), (upd (eDeedClock dd) ((eDeeds dd) - (eDeeds dd) / (60 : Int32) * (60 : Int32)).toNatClampNeg (vClock lv)), (upd (eDeedWho dd) ((eDeeds dd) - (eDeeds dd) / (60 : Int32) * (60 : Int32)).toNatClampNeg xc)) hd le bd my lf pa kp) H := hP
        have hD : va_D A (wR cI cJ cZ aR0 aR1 aR2 aR3 aR4 aR5 aR6 aR7 aR8 aR9 aR10 aR11 aR12 aR13 aR14 aR15 aR16 aR17 aR18 aR19 aR20 aR21 lv sg pd ac (((eDeeds dd) + (1 : Int32)), (eFirstLate dd), ((eLateMany dd) + (0 : Int32)), (upd (eDeedHour dd) ((eDeeds dd) - (eDeeds dd) / (60 : Int32) * (60 : Int32)).toNatClampNeg ((vRight lv) xc.toNatClampNeg)), (upd (eDeedClock dd) ((eDeeds dd) - (eDeeds dd) / (60 : Int32) * (60 : Int32)).toNatClampNeg (vClock lv)), (upd (eDeedWho dd) ((eDeeds dd) - (eDeeds dd) / (60 : Int32) * (60 : Int32)).toNatClampNeg xc)) hd le bd my lf pa kp) := hD
        refine lv_aload_n hx hb dX6_doDeed_101 rfl (lv_at hl 2 rfl) ?_
        refine va_get (D := δ) (ci := 6) (v := .ref aR4) (C := RX6) (T := TX6) (N := 34) hx hb hts hinX6 hown hK hP 0 rfl rfl 6 (by decide) (hts (.fieldLink RX6 19 "GloveHoursModel" "wearOf" "[I") (List.mem_of_getElem? (i := 9) rfl)) (fun _ h9 => h9) rfl dX6_doDeed_102 ?_
        refine lv_iload_n hx hb dX6_doDeed_105 rfl (lv_at hl 3 rfl) ?_
        refine lv_iload_n hx hb dX6_doDeed_106 rfl (lv_at hl 1 rfl) ?_
        have hr := mrS (p := p) (e := e) (R := rm_X6_doDeed) (below := below) (meth := meth) (H := H) (locs := locs) (ls := ls) (As := [.int xc, .int ((vRight lv) xc.toNatClampNeg)]) (rest := [.ref aR4]) (c_X6_at l δ cI cJ cZ xc ((vRight lv) xc.toNatClampNeg)) hx hb hml hts hown hK hNW hP hD [] rfl rfl (va_cwS 2 hts gX6_doDeed_X6_at rfl rfl rfl (by decide +kernel) ⟨(Nat.le_of_ble_eq_true rfl), (Nat.le_of_ble_eq_true rfl)⟩) rfl hl.1 rfl (Nat.le_of_ble_eq_true rfl) dX6_doDeed_107
        refine mc_i (wr := (wR cI cJ cZ aR0 aR1 aR2 aR3 aR4 aR5 aR6 aR7 aR8 aR9 aR10 aR11 aR12 aR13 aR14 aR15 aR16 aR17 aR18 aR19 aR20 aR21 lv sg pd ac (((eDeeds dd) + (1 : Int32)), (eFirstLate dd), ((eLateMany dd) + (0 : Int32)), (upd (eDeedHour dd) ((eDeeds dd) - (eDeeds dd) / (60 : Int32) * (60 : Int32)).toNatClampNeg ((vRight lv) xc.toNatClampNeg)), (upd (eDeedClock dd) ((eDeeds dd) - (eDeeds dd) / (60 : Int32) * (60 : Int32)).toNatClampNeg (vClock lv)), (upd (eDeedWho dd) ((eDeeds dd) - (eDeeds dd) / (60 : Int32) * (60 : Int32)).toNatClampNeg xc)) hd le bd my lf pa kp)) hr hP hD hS hA [] [0, 1, 2, 3, 4, 5, 6, 7, 8, 9, 10, 11, 12, 13, 14, 15, 16, 17, 18, 19, 20, 21] [0, 1, 2, 3, 4, 5, 6, 7, 8, 9, 10, 11, 12, 13, 14, 15, 16, 17, 18, 19, 20, 21] rfl rfl rfl rfl rfl (wn := fun _ => (wR cI cJ cZ aR0 aR1 aR2 aR3 aR4 aR5 aR6 aR7 aR8 aR9 aR10 aR11 aR12 aR13 aR14 aR15 aR16 aR17 aR18 aR19 aR20 aR21 lv sg pd ac (((eDeeds dd) + (1 : Int32)), (eFirstLate dd), ((eLateMany dd) + (0 : Int32)), (upd (eDeedHour dd) ((eDeeds dd) - (eDeeds dd) / (60 : Int32) * (60 : Int32)).toNatClampNeg ((vRight lv) xc.toNatClampNeg)), (upd (eDeedClock dd) ((eDeeds dd) - (eDeeds dd) / (60 : Int32) * (60 : Int32)).toNatClampNeg (vClock lv)), (upd (eDeedWho dd) ((eDeeds dd) - (eDeeds dd) / (60 : Int32) * (60 : Int32)).toNatClampNeg xc)) hd le bd my lf pa kp)) (fun _ => rfl) (fun r_107 _ H locs hw_107 hP hD hS => ?_)
        have hP : va_P δ vwCl (wR cI cJ cZ aR0 aR1 aR2 aR3 aR4 aR5 aR6 aR7 aR8 aR9 aR10 aR11 aR12 aR13 aR14 aR15 aR16 aR17 aR18 aR19 aR20 aR21 lv sg pd ac (((eDeeds dd) + (1 : Int32)), (eFirstLate dd), ((eLateMany dd) + (0 : Int32)), (upd (eDeedHour dd) ((eDeeds dd) - (eDeeds dd) / (60 : Int32) * (60 : Int32)).toNatClampNeg ((vRight lv) xc.toNatClampNeg)), (upd (eDeedClock dd) ((eDeeds dd) - (eDeeds dd) / (60 : Int32) * (60 : Int32)).toNatClampNeg (vClock lv)), (upd (eDeedWho dd) ((eDeeds dd) - (eDeeds dd) / (60 : Int32) * (60 : Int32)).toNatClampNeg xc)) hd le bd my lf pa kp) H := hP
        have hD : va_D A (wR cI cJ cZ aR0 aR1 aR2 aR3 aR4 aR5 aR6 aR7 aR8 aR9 aR10 aR11 aR12 aR13 aR14 aR15 aR16 aR17 aR18 aR19 aR20 aR21 lv sg pd ac (((eDeeds dd) + (1 : Int32)), (eFirstLate dd), ((eLateMany dd) + (0 : Int32)), (upd (eDeedHour dd) ((eDeeds dd) - (eDeeds dd) / (60 : Int32) * (60 : Int32)).toNatClampNeg ((vRight lv) xc.toNatClampNeg)), (upd (eDeedClock dd) ((eDeeds dd) - (eDeeds dd) / (60 : Int32) * (60 : Int32)).toNatClampNeg (vClock lv)), (upd (eDeedWho dd) ((eDeeds dd) - (eDeeds dd) / (60 : Int32) * (60 : Int32)).toNatClampNeg xc)) hd le bd my lf pa kp) := hD
        have hR := bnd_eq hR hw_107.symm
        refine lv_dup2_11 hx hb dX6_doDeed_110 rfl rfl ?_
        refine va_iald hx hb hK hP 4 0 rfl rfl (at_in hw_107 hc hrt) dX6_doDeed_111 ?_
        refine lv_iconst (v := (1 : Int32)) hx hb dX6_doDeed_112 (by decide) ?_
        refine lv_iadd hx hb dX6_doDeed_113 ?_
        refine va_iast hx hb hK hP hD hS 4 0 rfl rfl (at_in hw_107 hc hrt) dX6_doDeed_114 (fun H locs hP hD hS => ?_)
        have hP : va_P δ vwCl (wR cI cJ cZ aR0 aR1 aR2 aR3 aR4 aR5 aR6 aR7 aR8 aR9 aR10 aR11 aR12 aR13 aR14 aR15 aR16 aR17 aR18 aR19 aR20 aR21 (vCourtiers lv, vClock lv, vTears lv, vLeft lv, vRight lv, vScandals lv, (upd (vWearOf lv) r_107.toNatClampNeg (((vWearOf lv) r_107.toNatClampNeg) + (1 : Int32)))) sg pd ac (((eDeeds dd) + (1 : Int32)), (eFirstLate dd), ((eLateMany dd) + (0 : Int32)), (upd (eDeedHour dd) ((eDeeds dd) - (eDeeds dd) / (60 : Int32) * (60 : Int32)).toNatClampNeg ((vRight lv) xc.toNatClampNeg)), (upd (eDeedClock dd) ((eDeeds dd) - (eDeeds dd) / (60 : Int32) * (60 : Int32)).toNatClampNeg (vClock lv)), (upd (eDeedWho dd) ((eDeeds dd) - (eDeeds dd) / (60 : Int32) * (60 : Int32)).toNatClampNeg xc)) hd le bd my lf pa kp) H := hP
        have hD : va_D A (wR cI cJ cZ aR0 aR1 aR2 aR3 aR4 aR5 aR6 aR7 aR8 aR9 aR10 aR11 aR12 aR13 aR14 aR15 aR16 aR17 aR18 aR19 aR20 aR21 (vCourtiers lv, vClock lv, vTears lv, vLeft lv, vRight lv, vScandals lv, (upd (vWearOf lv) r_107.toNatClampNeg (((vWearOf lv) r_107.toNatClampNeg) + (1 : Int32)))) sg pd ac (((eDeeds dd) + (1 : Int32)), (eFirstLate dd), ((eLateMany dd) + (0 : Int32)), (upd (eDeedHour dd) ((eDeeds dd) - (eDeeds dd) / (60 : Int32) * (60 : Int32)).toNatClampNeg ((vRight lv) xc.toNatClampNeg)), (upd (eDeedClock dd) ((eDeeds dd) - (eDeeds dd) / (60 : Int32) * (60 : Int32)).toNatClampNeg (vClock lv)), (upd (eDeedWho dd) ((eDeeds dd) - (eDeeds dd) / (60 : Int32) * (60 : Int32)).toNatClampNeg xc)) hd le bd my lf pa kp) := hD
        refine lv_aload_n hx hb dX6_doDeed_115 rfl (lv_at hl 2 rfl) ?_
        refine va_get (D := δ) (ci := 6) (v := .ref aR4) (C := RX6) (T := TX6) (N := 34) hx hb hts hinX6 hown hK hP 0 rfl rfl 6 (by decide) (hts (.fieldLink RX6 19 "GloveHoursModel" "wearOf" "[I") (List.mem_of_getElem? (i := 9) rfl)) (fun _ h9 => h9) rfl dX6_doDeed_116 ?_
        refine lv_iload_n hx hb dX6_doDeed_119 rfl (lv_at hl 3 rfl) ?_
        refine lv_iload_n hx hb dX6_doDeed_120 rfl (lv_at hl 1 rfl) ?_
        have hr := mrS (p := p) (e := e) (R := rm_X6_doDeed) (below := below) (meth := meth) (H := H) (locs := locs) (ls := ls) (As := [.int xc, .int ((vRight lv) xc.toNatClampNeg)]) (rest := [.ref aR4]) (c_X6_at l δ cI cJ cZ xc ((vRight lv) xc.toNatClampNeg)) hx hb hml hts hown hK hNW hP hD [] rfl rfl (va_cwS 2 hts gX6_doDeed_X6_at rfl rfl rfl (by decide +kernel) ⟨(Nat.le_of_ble_eq_true rfl), (Nat.le_of_ble_eq_true rfl)⟩) rfl hl.1 rfl (Nat.le_of_ble_eq_true rfl) dX6_doDeed_121
        refine mc_i (wr := (wR cI cJ cZ aR0 aR1 aR2 aR3 aR4 aR5 aR6 aR7 aR8 aR9 aR10 aR11 aR12 aR13 aR14 aR15 aR16 aR17 aR18 aR19 aR20 aR21 (vCourtiers lv, vClock lv, vTears lv, vLeft lv, vRight lv, vScandals lv, (upd (vWearOf lv) r_107.toNatClampNeg (((vWearOf lv) r_107.toNatClampNeg) + (1 : Int32)))) sg pd ac (((eDeeds dd) + (1 : Int32)), (eFirstLate dd), ((eLateMany dd) + (0 : Int32)), (upd (eDeedHour dd) ((eDeeds dd) - (eDeeds dd) / (60 : Int32) * (60 : Int32)).toNatClampNeg ((vRight lv) xc.toNatClampNeg)), (upd (eDeedClock dd) ((eDeeds dd) - (eDeeds dd) / (60 : Int32) * (60 : Int32)).toNatClampNeg (vClock lv)), (upd (eDeedWho dd) ((eDeeds dd) - (eDeeds dd) / (60 : Int32) * (60 : Int32)).toNatClampNeg xc)) hd le bd my lf pa kp)) hr hP hD hS hA [] [0, 1, 2, 3, 4, 5, 6, 7, 8, 9, 10, 11, 12, 13, 14, 15, 16, 17, 18, 19, 20, 21] [0, 1, 2, 3, 4, 5, 6, 7, 8, 9, 10, 11, 12, 13, 14, 15, 16, 17, 18, 19, 20, 21] rfl rfl rfl rfl rfl (wn := fun _ => (wR cI cJ cZ aR0 aR1 aR2 aR3 aR4 aR5 aR6 aR7 aR8 aR9 aR10 aR11 aR12 aR13 aR14 aR15 aR16 aR17 aR18 aR19 aR20 aR21 (vCourtiers lv, vClock lv, vTears lv, vLeft lv, vRight lv, vScandals lv, (upd (vWearOf lv) r_107.toNatClampNeg (((vWearOf lv) r_107.toNatClampNeg) + (1 : Int32)))) sg pd ac (((eDeeds dd) + (1 : Int32)), (eFirstLate dd), ((eLateMany dd) + (0 : Int32)), (upd (eDeedHour dd) ((eDeeds dd) - (eDeeds dd) / (60 : Int32) * (60 : Int32)).toNatClampNeg ((vRight lv) xc.toNatClampNeg)), (upd (eDeedClock dd) ((eDeeds dd) - (eDeeds dd) / (60 : Int32) * (60 : Int32)).toNatClampNeg (vClock lv)), (upd (eDeedWho dd) ((eDeeds dd) - (eDeeds dd) / (60 : Int32) * (60 : Int32)).toNatClampNeg xc)) hd le bd my lf pa kp)) (fun _ => rfl) (fun r_121 _ H locs hw_121 hP hD hS => ?_)
        have hP : va_P δ vwCl (wR cI cJ cZ aR0 aR1 aR2 aR3 aR4 aR5 aR6 aR7 aR8 aR9 aR10 aR11 aR12 aR13 aR14 aR15 aR16 aR17 aR18 aR19 aR20 aR21 (vCourtiers lv, vClock lv, vTears lv, vLeft lv, vRight lv, vScandals lv, (upd (vWearOf lv) r_107.toNatClampNeg (((vWearOf lv) r_107.toNatClampNeg) + (1 : Int32)))) sg pd ac (((eDeeds dd) + (1 : Int32)), (eFirstLate dd), ((eLateMany dd) + (0 : Int32)), (upd (eDeedHour dd) ((eDeeds dd) - (eDeeds dd) / (60 : Int32) * (60 : Int32)).toNatClampNeg ((vRight lv) xc.toNatClampNeg)), (upd (eDeedClock dd) ((eDeeds dd) - (eDeeds dd) / (60 : Int32) * (60 : Int32)).toNatClampNeg (vClock lv)), (upd (eDeedWho dd) ((eDeeds dd) - (eDeeds dd) / (60 : Int32) * (60 : Int32)).toNatClampNeg xc)) hd le bd my lf pa kp) H := hP
        have hD : va_D A (wR cI cJ cZ aR0 aR1 aR2 aR3 aR4 aR5 aR6 aR7 aR8 aR9 aR10 aR11 aR12 aR13 aR14 aR15 aR16 aR17 aR18 aR19 aR20 aR21 (vCourtiers lv, vClock lv, vTears lv, vLeft lv, vRight lv, vScandals lv, (upd (vWearOf lv) r_107.toNatClampNeg (((vWearOf lv) r_107.toNatClampNeg) + (1 : Int32)))) sg pd ac (((eDeeds dd) + (1 : Int32)), (eFirstLate dd), ((eLateMany dd) + (0 : Int32)), (upd (eDeedHour dd) ((eDeeds dd) - (eDeeds dd) / (60 : Int32) * (60 : Int32)).toNatClampNeg ((vRight lv) xc.toNatClampNeg)), (upd (eDeedClock dd) ((eDeeds dd) - (eDeeds dd) / (60 : Int32) * (60 : Int32)).toNatClampNeg (vClock lv)), (upd (eDeedWho dd) ((eDeeds dd) - (eDeeds dd) / (60 : Int32) * (60 : Int32)).toNatClampNeg xc)) hd le bd my lf pa kp) := hD
        have hR := bnd_eq hR hw_121.symm
        refine va_iald hx hb hK hP 4 0 rfl rfl (at_in hw_121 hc hrt) dX6_doDeed_124 ?_
        refine lv_aload_n hx hb dX6_doDeed_125 rfl (lv_at hl 2 rfl) ?_
        refine va_get (D := δ) (ci := 6) (v := .int (vTears lv)) (C := RX6) (T := TX6) (N := 34) hx hb hts hinX6 hown hK hP 0 rfl rfl 2 (by decide) (hts (.fieldLink RX6 75 "GloveHoursModel" "tears" "I") (List.mem_of_getElem? (i := 10) rfl)) (fun _ h9 => h9) rfl dX6_doDeed_126 ?_
        refine lv_icmp_lt (tgt := 138) hx hb dX6_doDeed_129 (by decide) (fun c_129 => ?_) (fun c_129 => ?_)
        · have c_129 : (((upd (vWearOf lv) r_107.toNatClampNeg (((vWearOf lv) r_107.toNatClampNeg) + (1 : Int32))) r_121.toNatClampNeg) < (vTears lv)) := c_129
          have hR := hR.trans (if_pos c_129)
          exact hret _ _ ((vCourtiers lv, vClock lv, vTears lv, vLeft lv, vRight lv, vScandals lv, (upd (vWearOf lv) r_107.toNatClampNeg (((vWearOf lv) r_107.toNatClampNeg) + (1 : Int32)))), (((eDeeds dd) + (1 : Int32)), (eFirstLate dd), ((eLateMany dd) + (0 : Int32)), (upd (eDeedHour dd) ((eDeeds dd) - (eDeeds dd) / (60 : Int32) * (60 : Int32)).toNatClampNeg ((vRight lv) xc.toNatClampNeg)), (upd (eDeedClock dd) ((eDeeds dd) - (eDeeds dd) / (60 : Int32) * (60 : Int32)).toNatClampNeg (vClock lv)), (upd (eDeedWho dd) ((eDeeds dd) - (eDeeds dd) / (60 : Int32) * (60 : Int32)).toNatClampNeg xc))) _ _ hR hP hD hS dX6_doDeed_138
        · have c_129 : ¬ (((upd (vWearOf lv) r_107.toNatClampNeg (((vWearOf lv) r_107.toNatClampNeg) + (1 : Int32))) r_121.toNatClampNeg) < (vTears lv)) := c_129
          have hR := hR.trans (if_neg c_129)
          refine lv_aload_n hx hb dX6_doDeed_132 rfl (lv_at hl 2 rfl) ?_
          refine lv_iload_n hx hb dX6_doDeed_133 rfl (lv_at hl 3 rfl) ?_
          refine lv_iload_n hx hb dX6_doDeed_134 rfl (lv_at hl 1 rfl) ?_
          have hr := mrV (p := p) (e := e) (R := rm_X6_doDeed) (below := below) (meth := meth) (H := H) (locs := locs) (ls := ls) (As := [.int xc, .int ((vRight lv) xc.toNatClampNeg)]) (rest := []) (c_X6_lose l δ cI cJ cZ aR0 aR1 aR2 aR3 aR4 aR5 aR6 aR7 aR8 aR9 aR10 aR11 aR12 aR13 aR14 aR15 aR16 aR17 aR18 aR19 aR20 aR21 (vCourtiers lv, vClock lv, vTears lv, vLeft lv, vRight lv, vScandals lv, (upd (vWearOf lv) r_107.toNatClampNeg (((vWearOf lv) r_107.toNatClampNeg) + (1 : Int32)))) sg pd ac (((eDeeds dd) + (1 : Int32)), (eFirstLate dd), ((eLateMany dd) + (0 : Int32)), (upd (eDeedHour dd) ((eDeeds dd) - (eDeeds dd) / (60 : Int32) * (60 : Int32)).toNatClampNeg ((vRight lv) xc.toNatClampNeg)), (upd (eDeedClock dd) ((eDeeds dd) - (eDeeds dd) / (60 : Int32) * (60 : Int32)).toNatClampNeg (vClock lv)), (upd (eDeedWho dd) ((eDeeds dd) - (eDeeds dd) / (60 : Int32) * (60 : Int32)).toNatClampNeg xc)) hd le bd my lf pa kp xc ((vRight lv) xc.toNatClampNeg) hc hrt) hx hb hml hts hown hK hNW hP hD [0, 1, 2, 3, 4, 5, 6, 7, 8, 9, 10, 11, 12, 13, 14, 15, 16, 17, 18, 19, 20, 21] rfl rfl 6 0 rfl rfl (cwV 2 hts gX6_doDeed_X6_lose rfl rfl rfl (by decide +kernel) ⟨(Nat.le_of_ble_eq_true rfl), (Nat.le_of_ble_eq_true rfl)⟩) rfl hl.1 rfl (Nat.le_of_ble_eq_true rfl) dX6_doDeed_135
          refine mc_v (wr := ([] : va_W)) hr hP hD hS hA [0, 1, 2, 3, 4, 5, 6, 7, 8, 9, 10, 11, 12, 13, 14, 15, 16, 17, 18, 19, 20, 21] [] [0, 1, 2, 3, 4, 5, 6, 7, 8, 9, 10, 11, 12, 13, 14, 15, 16, 17, 18, 19, 20, 21] rfl rfl rfl rfl rfl (wn := fun u_135 => (wR cI cJ cZ aR0 aR1 aR2 aR3 aR4 aR5 aR6 aR7 aR8 aR9 aR10 aR11 aR12 aR13 aR14 aR15 aR16 aR17 aR18 aR19 aR20 aR21 u_135 sg pd ac (((eDeeds dd) + (1 : Int32)), (eFirstLate dd), ((eLateMany dd) + (0 : Int32)), (upd (eDeedHour dd) ((eDeeds dd) - (eDeeds dd) / (60 : Int32) * (60 : Int32)).toNatClampNeg ((vRight lv) xc.toNatClampNeg)), (upd (eDeedClock dd) ((eDeeds dd) - (eDeeds dd) / (60 : Int32) * (60 : Int32)).toNatClampNeg (vClock lv)), (upd (eDeedWho dd) ((eDeeds dd) - (eDeeds dd) / (60 : Int32) * (60 : Int32)).toNatClampNeg xc)) hd le bd my lf pa kp)) (fun _ => rfl) (fun u_135 H locs hw_135 hP hD hS => ?_)
          have hP : va_P δ vwCl (wR cI cJ cZ aR0 aR1 aR2 aR3 aR4 aR5 aR6 aR7 aR8 aR9 aR10 aR11 aR12 aR13 aR14 aR15 aR16 aR17 aR18 aR19 aR20 aR21 u_135 sg pd ac (((eDeeds dd) + (1 : Int32)), (eFirstLate dd), ((eLateMany dd) + (0 : Int32)), (upd (eDeedHour dd) ((eDeeds dd) - (eDeeds dd) / (60 : Int32) * (60 : Int32)).toNatClampNeg ((vRight lv) xc.toNatClampNeg)), (upd (eDeedClock dd) ((eDeeds dd) - (eDeeds dd) / (60 : Int32) * (60 : Int32)).toNatClampNeg (vClock lv)), (upd (eDeedWho dd) ((eDeeds dd) - (eDeeds dd) / (60 : Int32) * (60 : Int32)).toNatClampNeg xc)) hd le bd my lf pa kp) H := hP
          have hD : va_D A (wR cI cJ cZ aR0 aR1 aR2 aR3 aR4 aR5 aR6 aR7 aR8 aR9 aR10 aR11 aR12 aR13 aR14 aR15 aR16 aR17 aR18 aR19 aR20 aR21 u_135 sg pd ac (((eDeeds dd) + (1 : Int32)), (eFirstLate dd), ((eLateMany dd) + (0 : Int32)), (upd (eDeedHour dd) ((eDeeds dd) - (eDeeds dd) / (60 : Int32) * (60 : Int32)).toNatClampNeg ((vRight lv) xc.toNatClampNeg)), (upd (eDeedClock dd) ((eDeeds dd) - (eDeeds dd) / (60 : Int32) * (60 : Int32)).toNatClampNeg (vClock lv)), (upd (eDeedWho dd) ((eDeeds dd) - (eDeeds dd) / (60 : Int32) * (60 : Int32)).toNatClampNeg xc)) hd le bd my lf pa kp) := hD
          have hR := bnd_eq hR hw_135.symm
          exact hret _ _ (u_135, (((eDeeds dd) + (1 : Int32)), (eFirstLate dd), ((eLateMany dd) + (0 : Int32)), (upd (eDeedHour dd) ((eDeeds dd) - (eDeeds dd) / (60 : Int32) * (60 : Int32)).toNatClampNeg ((vRight lv) xc.toNatClampNeg)), (upd (eDeedClock dd) ((eDeeds dd) - (eDeeds dd) / (60 : Int32) * (60 : Int32)).toNatClampNeg (vClock lv)), (upd (eDeedWho dd) ((eDeeds dd) - (eDeeds dd) / (60 : Int32) * (60 : Int32)).toNatClampNeg xc))) _ _ hR hP hD hS dX6_doDeed_138
      · have c_79 : ¬ (((vRight lv) xc.toNatClampNeg) = (vClock lv)) := c_79
        have hR := hR.trans (if_neg c_79)
        refine lv_iconst (v := (1 : Int32)) hx hb dX6_doDeed_82 (by decide) ?_
        refine lv_goto (tgt := 87) hx hb dX6_doDeed_83 (by decide) ?_
        refine lv_iadd hx hb dX6_doDeed_87 ?_
        refine va_put (D := δ) (ci := 6) (v := .int ((eLateMany dd) + (1 : Int32))) (ty := .int) (C := RX6) (T := TX6) (N := 34) hx hb hts hinX6 tyX6 tyX6_ok nmX6 hown hK hP hD hS 0 rfl rfl 22 (by decide) (hts (.fieldLink RX6 160 "GloveHoursModel" "lateMany" "I") (List.mem_of_getElem? (i := 8) rfl)) (fun _ h9 => h9) rfl (by decide +kernel) rfl rfl (Nat.le_of_ble_eq_true rfl) dX6_doDeed_88 (fun H locs hP hD hS => ?_)
        have hP : va_P δ vwCl (wR cI cJ cZ aR0 aR1 aR2 aR3 aR4 aR5 aR6 aR7 aR8 aR9 aR10 aR11 aR12 aR13 aR14 aR15 aR16 aR17 aR18 aR19 aR20 aR21 lv sg pd ac (eDeeds dd, (eFirstLate dd), ((eLateMany dd) + (1 : Int32)), (upd (eDeedHour dd) ((eDeeds dd) - (eDeeds dd) / (60 : Int32) * (60 : Int32)).toNatClampNeg ((vRight lv) xc.toNatClampNeg)), (upd (eDeedClock dd) ((eDeeds dd) - (eDeeds dd) / (60 : Int32) * (60 : Int32)).toNatClampNeg (vClock lv)), (upd (eDeedWho dd) ((eDeeds dd) - (eDeeds dd) / (60 : Int32) * (60 : Int32)).toNatClampNeg xc)) hd le bd my lf pa kp) H := hP
        have hD : va_D A (wR cI cJ cZ aR0 aR1 aR2 aR3 aR4 aR5 aR6 aR7 aR8 aR9 aR10 aR11 aR12 aR13 aR14 aR15 aR16 aR17 aR18 aR19 aR20 aR21 lv sg pd ac (eDeeds dd, (eFirstLate dd), ((eLateMany dd) + (1 : Int32)), (upd (eDeedHour dd) ((eDeeds dd) - (eDeeds dd) / (60 : Int32) * (60 : Int32)).toNatClampNeg ((vRight lv) xc.toNatClampNeg)), (upd (eDeedClock dd) ((eDeeds dd) - (eDeeds dd) / (60 : Int32) * (60 : Int32)).toNatClampNeg (vClock lv)), (upd (eDeedWho dd) ((eDeeds dd) - (eDeeds dd) / (60 : Int32) * (60 : Int32)).toNatClampNeg xc)) hd le bd my lf pa kp) := hD
        refine lv_aload_n hx hb dX6_doDeed_91 rfl (lv_at hl 2 rfl) ?_
        refine lv_dup hx hb dX6_doDeed_92 rfl ?_
        refine va_get (D := δ) (ci := 6) (v := .int (eDeeds dd)) (C := RX6) (T := TX6) (N := 34) hx hb hts hinX6 hown hK hP 0 rfl rfl 20 (by decide) (hts (.fieldLink RX6 154 "GloveHoursModel" "deeds" "I") (List.mem_of_getElem? (i := 2) rfl)) (fun _ h9 => h9) rfl dX6_doDeed_93 ?_
        refine lv_iconst (v := (1 : Int32)) hx hb dX6_doDeed_96 (by decide) ?_
        refine lv_iadd hx hb dX6_doDeed_97 ?_
        refine va_put (D := δ) (ci := 6) (v := .int ((eDeeds dd) + (1 : Int32))) (ty := .int) (C := RX6) (T := TX6) (N := 34) hx hb hts hinX6 tyX6 tyX6_ok nmX6 hown hK hP hD hS 0 rfl rfl 20 (by decide) (hts (.fieldLink RX6 154 "GloveHoursModel" "deeds" "I") (List.mem_of_getElem? (i := 2) rfl)) (fun _ h9 => h9) rfl (by decide +kernel) rfl rfl (Nat.le_of_ble_eq_true rfl) dX6_doDeed_98 (fun H locs hP hD hS => ?_)
        have hP : va_P δ vwCl (wR cI cJ cZ aR0 aR1 aR2 aR3 aR4 aR5 aR6 aR7 aR8 aR9 aR10 aR11 aR12 aR13 aR14 aR15 aR16 aR17 aR18 aR19 aR20 aR21 lv sg pd ac (((eDeeds dd) + (1 : Int32)), (eFirstLate dd), ((eLateMany dd) + (1 : Int32)), (upd (eDeedHour dd) ((eDeeds dd) - (eDeeds dd) / (60 : Int32) * (60 : Int32)).toNatClampNeg ((vRight lv) xc.toNatClampNeg)), (upd (eDeedClock dd) ((eDeeds dd) - (eDeeds dd) / (60 : Int32) * (60 : Int32)).toNatClampNeg (vClock lv)), (upd (eDeedWho dd) ((eDeeds dd) - (eDeeds dd) / (60 : Int32) * (60 : Int32)).toNatClampNeg xc)) hd le bd my lf pa kp) H := hP
        have hD : va_D A (wR cI cJ cZ aR0 aR1 aR2 aR3 aR4 aR5 aR6 aR7 aR8 aR9 aR10 aR11 aR12 aR13 aR14 aR15 aR16 aR17 aR18 aR19 aR20 aR21 lv sg pd ac (((eDeeds dd) + (1 : Int32)), (eFirstLate dd), ((eLateMany dd) + (1 : Int32)), (upd (eDeedHour dd) ((eDeeds dd) - (eDeeds dd) / (60 : Int32) * (60 : Int32)).toNatClampNeg ((vRight lv) xc.toNatClampNeg)), (upd (eDeedClock dd) ((eDeeds dd) - (eDeeds dd) / (60 : Int32) * (60 : Int32)).toNatClampNeg (vClock lv)), (upd (eDeedWho dd) ((eDeeds dd) - (eDeeds dd) / (60 : Int32) * (60 : Int32)).toNatClampNeg xc)) hd le bd my lf pa kp) := hD
        refine lv_aload_n hx hb dX6_doDeed_101 rfl (lv_at hl 2 rfl) ?_
        refine va_get (D := δ) (ci := 6) (v := .ref aR4) (C := RX6) (T := TX6) (N := 34) hx hb hts hinX6 hown hK hP 0 rfl rfl 6 (by decide) (hts (.fieldLink RX6 19 "GloveHoursModel" "wearOf" "[I") (List.mem_of_getElem? (i := 9) rfl)) (fun _ h9 => h9) rfl dX6_doDeed_102 ?_
        refine lv_iload_n hx hb dX6_doDeed_105 rfl (lv_at hl 3 rfl) ?_
        refine lv_iload_n hx hb dX6_doDeed_106 rfl (lv_at hl 1 rfl) ?_
        have hr := mrS (p := p) (e := e) (R := rm_X6_doDeed) (below := below) (meth := meth) (H := H) (locs := locs) (ls := ls) (As := [.int xc, .int ((vRight lv) xc.toNatClampNeg)]) (rest := [.ref aR4]) (c_X6_at l δ cI cJ cZ xc ((vRight lv) xc.toNatClampNeg)) hx hb hml hts hown hK hNW hP hD [] rfl rfl (va_cwS 2 hts gX6_doDeed_X6_at rfl rfl rfl (by decide +kernel) ⟨(Nat.le_of_ble_eq_true rfl), (Nat.le_of_ble_eq_true rfl)⟩) rfl hl.1 rfl (Nat.le_of_ble_eq_true rfl) dX6_doDeed_107
        refine mc_i (wr := (wR cI cJ cZ aR0 aR1 aR2 aR3 aR4 aR5 aR6 aR7 aR8 aR9 aR10 aR11 aR12 aR13 aR14 aR15 aR16 aR17 aR18 aR19 aR20 aR21 lv sg pd ac (((eDeeds dd) + (1 : Int32)), (eFirstLate dd), ((eLateMany dd) + (1 : Int32)), (upd (eDeedHour dd) ((eDeeds dd) - (eDeeds dd) / (60 : Int32) * (60 : Int32)).toNatClampNeg ((vRight lv) xc.toNatClampNeg)), (upd (eDeedClock dd) ((eDeeds dd) - (eDeeds dd) / (60 : Int32) * (60 : Int32)).toNatClampNeg (vClock lv)), (upd (eDeedWho dd) ((eDeeds dd) - (eDeeds dd) / (60 : Int32) * (60 : Int32)).toNatClampNeg xc)) hd le bd my lf pa kp)) hr hP hD hS hA [] [0, 1, 2, 3, 4, 5, 6, 7, 8, 9, 10, 11, 12, 13, 14, 15, 16, 17, 18, 19, 20, 21] [0, 1, 2, 3, 4, 5, 6, 7, 8, 9, 10, 11, 12, 13, 14, 15, 16, 17, 18, 19, 20, 21] rfl rfl rfl rfl rfl (wn := fun _ => (wR cI cJ cZ aR0 aR1 aR2 aR3 aR4 aR5 aR6 aR7 aR8 aR9 aR10 aR11 aR12 aR13 aR14 aR15 aR16 aR17 aR18 aR19 aR20 aR21 lv sg pd ac (((eDeeds dd) + (1 : Int32)), (eFirstLate dd), ((eLateMany dd) + (1 : Int32)), (upd (eDeedHour dd) ((eDeeds dd) - (eDeeds dd) / (60 : Int32) * (60 : Int32)).toNatClampNeg ((vRight lv) xc.toNatClampNeg)), (upd (eDeedClock dd) ((eDeeds dd) - (eDeeds dd) / (60 : Int32) * (60 : Int32)).toNatClampNeg (vClock lv)), (upd (eDeedWho dd) ((eDeeds dd) - (eDeeds dd) / (60 : Int32) * (60 : Int32)).toNatClampNeg xc)) hd le bd my lf pa kp)) (fun _ => rfl) (fun r_107 _ H locs hw_107 hP hD hS => ?_)
        have hP : va_P δ vwCl (wR cI cJ cZ aR0 aR1 aR2 aR3 aR4 aR5 aR6 aR7 aR8 aR9 aR10 aR11 aR12 aR13 aR14 aR15 aR16 aR17 aR18 aR19 aR20 aR21 lv sg pd ac (((eDeeds dd) + (1 : Int32)), (eFirstLate dd), ((eLateMany dd) + (1 : Int32)), (upd (eDeedHour dd) ((eDeeds dd) - (eDeeds dd) / (60 : Int32) * (60 : Int32)).toNatClampNeg ((vRight lv) xc.toNatClampNeg)), (upd (eDeedClock dd) ((eDeeds dd) - (eDeeds dd) / (60 : Int32) * (60 : Int32)).toNatClampNeg (vClock lv)), (upd (eDeedWho dd) ((eDeeds dd) - (eDeeds dd) / (60 : Int32) * (60 : Int32)).toNatClampNeg xc)) hd le bd my lf pa kp) H := hP
        have hD : va_D A (wR cI cJ cZ aR0 aR1 aR2 aR3 aR4 aR5 aR6 aR7 aR8 aR9 aR10 aR11 aR12 aR13 aR14 aR15 aR16 aR17 aR18 aR19 aR20 aR21 lv sg pd ac (((eDeeds dd) + (1 : Int32)), (eFirstLate dd), ((eLateMany dd) + (1 : Int32)), (upd (eDeedHour dd) ((eDeeds dd) - (eDeeds dd) / (60 : Int32) * (60 : Int32)).toNatClampNeg ((vRight lv) xc.toNatClampNeg)), (upd (eDeedClock dd) ((eDeeds dd) - (eDeeds dd) / (60 : Int32) * (60 : Int32)).toNatClampNeg (vClock lv)), (upd (eDeedWho dd) ((eDeeds dd) - (eDeeds dd) / (60 : Int32) * (60 : Int32)).toNatClampNeg xc)) hd le bd my lf pa kp) := hD
        have hR := bnd_eq hR hw_107.symm
        refine lv_dup2_11 hx hb dX6_doDeed_110 rfl rfl ?_
        refine va_iald hx hb hK hP 4 0 rfl rfl (at_in hw_107 hc hrt) dX6_doDeed_111 ?_
        refine lv_iconst (v := (1 : Int32)) hx hb dX6_doDeed_112 (by decide) ?_
        refine lv_iadd hx hb dX6_doDeed_113 ?_
        refine va_iast hx hb hK hP hD hS 4 0 rfl rfl (at_in hw_107 hc hrt) dX6_doDeed_114 (fun H locs hP hD hS => ?_)
        have hP : va_P δ vwCl (wR cI cJ cZ aR0 aR1 aR2 aR3 aR4 aR5 aR6 aR7 aR8 aR9 aR10 aR11 aR12 aR13 aR14 aR15 aR16 aR17 aR18 aR19 aR20 aR21 (vCourtiers lv, vClock lv, vTears lv, vLeft lv, vRight lv, vScandals lv, (upd (vWearOf lv) r_107.toNatClampNeg (((vWearOf lv) r_107.toNatClampNeg) + (1 : Int32)))) sg pd ac (((eDeeds dd) + (1 : Int32)), (eFirstLate dd), ((eLateMany dd) + (1 : Int32)), (upd (eDeedHour dd) ((eDeeds dd) - (eDeeds dd) / (60 : Int32) * (60 : Int32)).toNatClampNeg ((vRight lv) xc.toNatClampNeg)), (upd (eDeedClock dd) ((eDeeds dd) - (eDeeds dd) / (60 : Int32) * (60 : Int32)).toNatClampNeg (vClock lv)), (upd (eDeedWho dd) ((eDeeds dd) - (eDeeds dd) / (60 : Int32) * (60 : Int32)).toNatClampNeg xc)) hd le bd my lf pa kp) H := hP
        have hD : va_D A (wR cI cJ cZ aR0 aR1 aR2 aR3 aR4 aR5 aR6 aR7 aR8 aR9 aR10 aR11 aR12 aR13 aR14 aR15 aR16 aR17 aR18 aR19 aR20 aR21 (vCourtiers lv, vClock lv, vTears lv, vLeft lv, vRight lv, vScandals lv, (upd (vWearOf lv) r_107.toNatClampNeg (((vWearOf lv) r_107.toNatClampNeg) + (1 : Int32)))) sg pd ac (((eDeeds dd) + (1 : Int32)), (eFirstLate dd), ((eLateMany dd) + (1 : Int32)), (upd (eDeedHour dd) ((eDeeds dd) - (eDeeds dd) / (60 : Int32) * (60 : Int32)).toNatClampNeg ((vRight lv) xc.toNatClampNeg)), (upd (eDeedClock dd) ((eDeeds dd) - (eDeeds dd) / (60 : Int32) * (60 : Int32)).toNatClampNeg (vClock lv)), (upd (eDeedWho dd) ((eDeeds dd) - (eDeeds dd) / (60 : Int32) * (60 : Int32)).toNatClampNeg xc)) hd le bd my lf pa kp) := hD
        refine lv_aload_n hx hb dX6_doDeed_115 rfl (lv_at hl 2 rfl) ?_
        refine va_get (D := δ) (ci := 6) (v := .ref aR4) (C := RX6) (T := TX6) (N := 34) hx hb hts hinX6 hown hK hP 0 rfl rfl 6 (by decide) (hts (.fieldLink RX6 19 "GloveHoursModel" "wearOf" "[I") (List.mem_of_getElem? (i := 9) rfl)) (fun _ h9 => h9) rfl dX6_doDeed_116 ?_
        refine lv_iload_n hx hb dX6_doDeed_119 rfl (lv_at hl 3 rfl) ?_
        refine lv_iload_n hx hb dX6_doDeed_120 rfl (lv_at hl 1 rfl) ?_
        have hr := mrS (p := p) (e := e) (R := rm_X6_doDeed) (below := below) (meth := meth) (H := H) (locs := locs) (ls := ls) (As := [.int xc, .int ((vRight lv) xc.toNatClampNeg)]) (rest := [.ref aR4]) (c_X6_at l δ cI cJ cZ xc ((vRight lv) xc.toNatClampNeg)) hx hb hml hts hown hK hNW hP hD [] rfl rfl (va_cwS 2 hts gX6_doDeed_X6_at rfl rfl rfl (by decide +kernel) ⟨(Nat.le_of_ble_eq_true rfl), (Nat.le_of_ble_eq_true rfl)⟩) rfl hl.1 rfl (Nat.le_of_ble_eq_true rfl) dX6_doDeed_121
        refine mc_i (wr := (wR cI cJ cZ aR0 aR1 aR2 aR3 aR4 aR5 aR6 aR7 aR8 aR9 aR10 aR11 aR12 aR13 aR14 aR15 aR16 aR17 aR18 aR19 aR20 aR21 (vCourtiers lv, vClock lv, vTears lv, vLeft lv, vRight lv, vScandals lv, (upd (vWearOf lv) r_107.toNatClampNeg (((vWearOf lv) r_107.toNatClampNeg) + (1 : Int32)))) sg pd ac (((eDeeds dd) + (1 : Int32)), (eFirstLate dd), ((eLateMany dd) + (1 : Int32)), (upd (eDeedHour dd) ((eDeeds dd) - (eDeeds dd) / (60 : Int32) * (60 : Int32)).toNatClampNeg ((vRight lv) xc.toNatClampNeg)), (upd (eDeedClock dd) ((eDeeds dd) - (eDeeds dd) / (60 : Int32) * (60 : Int32)).toNatClampNeg (vClock lv)), (upd (eDeedWho dd) ((eDeeds dd) - (eDeeds dd) / (60 : Int32) * (60 : Int32)).toNatClampNeg xc)) hd le bd my lf pa kp)) hr hP hD hS hA [] [0, 1, 2, 3, 4, 5, 6, 7, 8, 9, 10, 11, 12, 13, 14, 15, 16, 17, 18, 19, 20, 21] [0, 1, 2, 3, 4, 5, 6, 7, 8, 9, 10, 11, 12, 13, 14, 15, 16, 17, 18, 19, 20, 21] rfl rfl rfl rfl rfl (wn := fun _ => (wR cI cJ cZ aR0 aR1 aR2 aR3 aR4 aR5 aR6 aR7 aR8 aR9 aR10 aR11 aR12 aR13 aR14 aR15 aR16 aR17 aR18 aR19 aR20 aR21 (vCourtiers lv, vClock lv, vTears lv, vLeft lv, vRight lv, vScandals lv, (upd (vWearOf lv) r_107.toNatClampNeg (((vWearOf lv) r_107.toNatClampNeg) + (1 : Int32)))) sg pd ac (((eDeeds dd) + (1 : Int32)), (eFirstLate dd), ((eLateMany dd) + (1 : Int32)), (upd (eDeedHour dd) ((eDeeds dd) - (eDeeds dd) / (60 : Int32) * (60 : Int32)).toNatClampNeg ((vRight lv) xc.toNatClampNeg)), (upd (eDeedClock dd) ((eDeeds dd) - (eDeeds dd) / (60 : Int32) * (60 : Int32)).toNatClampNeg (vClock lv)), (upd (eDeedWho dd) ((eDeeds dd) - (eDeeds dd) / (60 : Int32) * (60 : Int32)).toNatClampNeg xc)) hd le bd my lf pa kp)) (fun _ => rfl) (fun r_121 _ H locs hw_121 hP hD hS => ?_)
        have hP : va_P δ vwCl (wR cI cJ cZ aR0 aR1 aR2 aR3 aR4 aR5 aR6 aR7 aR8 aR9 aR10 aR11 aR12 aR13 aR14 aR15 aR16 aR17 aR18 aR19 aR20 aR21 (vCourtiers lv, vClock lv, vTears lv, vLeft lv, vRight lv, vScandals lv, (upd (vWearOf lv) r_107.toNatClampNeg (((vWearOf lv) r_107.toNatClampNeg) + (1 : Int32)))) sg pd ac (((eDeeds dd) + (1 : Int32)), (eFirstLate dd), ((eLateMany dd) + (1 : Int32)), (upd (eDeedHour dd) ((eDeeds dd) - (eDeeds dd) / (60 : Int32) * (60 : Int32)).toNatClampNeg ((vRight lv) xc.toNatClampNeg)), (upd (eDeedClock dd) ((eDeeds dd) - (eDeeds dd) / (60 : Int32) * (60 : Int32)).toNatClampNeg (vClock lv)), (upd (eDeedWho dd) ((eDeeds dd) - (eDeeds dd) / (60 : Int32) * (60 : Int32)).toNatClampNeg xc)) hd le bd my lf pa kp) H := hP
        have hD : va_D A (wR cI cJ cZ aR0 aR1 aR2 aR3 aR4 aR5 aR6 aR7 aR8 aR9 aR10 aR11 aR12 aR13 aR14 aR15 aR16 aR17 aR18 aR19 aR20 aR21 (vCourtiers lv, vClock lv, vTears lv, vLeft lv, vRight lv, vScandals lv, (upd (vWearOf lv) r_107.toNatClampNeg (((vWearOf lv) r_107.toNatClampNeg) + (1 : Int32)))) sg pd ac (((eDeeds dd) + (1 : Int32)), (eFirstLate dd), ((eLateMany dd) + (1 : Int32)), (upd (eDeedHour dd) ((eDeeds dd) - (eDeeds dd) / (60 : Int32) * (60 : Int32)).toNatClampNeg ((vRight lv) xc.toNatClampNeg)), (upd (eDeedClock dd) ((eDeeds dd) - (eDeeds dd) / (60 : Int32) * (60 : Int32)).toNatClampNeg (vClock lv)), (upd (eDeedWho dd) ((eDeeds dd) - (eDeeds dd) / (60 : Int32) * (60 : Int32)).toNatClampNeg xc)) hd le bd my lf pa kp) := hD
        have hR := bnd_eq hR hw_121.symm
        refine va_iald hx hb hK hP 4 0 rfl rfl (at_in hw_121 hc hrt) dX6_doDeed_124 ?_
        refine lv_aload_n hx hb dX6_doDeed_125 rfl (lv_at hl 2 rfl) ?_
        refine va_get (D := δ) (ci := 6) (v := .int (vTears lv)) (C := RX6) (T := TX6) (N := 34) hx hb hts hinX6 hown hK hP 0 rfl rfl 2 (by decide) (hts (.fieldLink RX6 75 "GloveHoursModel" "tears" "I") (List.mem_of_getElem? (i := 10) rfl)) (fun _ h9 => h9) rfl dX6_doDeed_126 ?_
        refine lv_icmp_lt (tgt := 138) hx hb dX6_doDeed_129 (by decide) (fun c_129 => ?_) (fun c_129 => ?_)
        · have c_129 : (((upd (vWearOf lv) r_107.toNatClampNeg (((vWearOf lv) r_107.toNatClampNeg) + (1 : Int32))) r_121.toNatClampNeg) < (vTears lv)) := c_129
          have hR := hR.trans (if_pos c_129)
          exact hret _ _ ((vCourtiers lv, vClock lv, vTears lv, vLeft lv, vRight lv, vScandals lv, (upd (vWearOf lv) r_107.toNatClampNeg (((vWearOf lv) r_107.toNatClampNeg) + (1 : Int32)))), (((eDeeds dd) + (1 : Int32)), (eFirstLate dd), ((eLateMany dd) + (1 : Int32)), (upd (eDeedHour dd) ((eDeeds dd) - (eDeeds dd) / (60 : Int32) * (60 : Int32)).toNatClampNeg ((vRight lv) xc.toNatClampNeg)), (upd (eDeedClock dd) ((eDeeds dd) - (eDeeds dd) / (60 : Int32) * (60 : Int32)).toNatClampNeg (vClock lv)), (upd (eDeedWho dd) ((eDeeds dd) - (eDeeds dd) / (60 : Int32) * (60 : Int32)).toNatClampNeg xc))) _ _ hR hP hD hS dX6_doDeed_138
        · have c_129 : ¬ (((upd (vWearOf lv) r_107.toNatClampNeg (((vWearOf lv) r_107.toNatClampNeg) + (1 : Int32))) r_121.toNatClampNeg) < (vTears lv)) := c_129
          have hR := hR.trans (if_neg c_129)
          refine lv_aload_n hx hb dX6_doDeed_132 rfl (lv_at hl 2 rfl) ?_
          refine lv_iload_n hx hb dX6_doDeed_133 rfl (lv_at hl 3 rfl) ?_
          refine lv_iload_n hx hb dX6_doDeed_134 rfl (lv_at hl 1 rfl) ?_
          have hr := mrV (p := p) (e := e) (R := rm_X6_doDeed) (below := below) (meth := meth) (H := H) (locs := locs) (ls := ls) (As := [.int xc, .int ((vRight lv) xc.toNatClampNeg)]) (rest := []) (c_X6_lose l δ cI cJ cZ aR0 aR1 aR2 aR3 aR4 aR5 aR6 aR7 aR8 aR9 aR10 aR11 aR12 aR13 aR14 aR15 aR16 aR17 aR18 aR19 aR20 aR21 (vCourtiers lv, vClock lv, vTears lv, vLeft lv, vRight lv, vScandals lv, (upd (vWearOf lv) r_107.toNatClampNeg (((vWearOf lv) r_107.toNatClampNeg) + (1 : Int32)))) sg pd ac (((eDeeds dd) + (1 : Int32)), (eFirstLate dd), ((eLateMany dd) + (1 : Int32)), (upd (eDeedHour dd) ((eDeeds dd) - (eDeeds dd) / (60 : Int32) * (60 : Int32)).toNatClampNeg ((vRight lv) xc.toNatClampNeg)), (upd (eDeedClock dd) ((eDeeds dd) - (eDeeds dd) / (60 : Int32) * (60 : Int32)).toNatClampNeg (vClock lv)), (upd (eDeedWho dd) ((eDeeds dd) - (eDeeds dd) / (60 : Int32) * (60 : Int32)).toNatClampNeg xc)) hd le bd my lf pa kp xc ((vRight lv) xc.toNatClampNeg) hc hrt) hx hb hml hts hown hK hNW hP hD [0, 1, 2, 3, 4, 5, 6, 7, 8, 9, 10, 11, 12, 13, 14, 15, 16, 17, 18, 19, 20, 21] rfl rfl 6 0 rfl rfl (cwV 2 hts gX6_doDeed_X6_lose rfl rfl rfl (by decide +kernel) ⟨(Nat.le_of_ble_eq_true rfl), (Nat.le_of_ble_eq_true rfl)⟩) rfl hl.1 rfl (Nat.le_of_ble_eq_true rfl) dX6_doDeed_135
          refine mc_v (wr := ([] : va_W)) hr hP hD hS hA [0, 1, 2, 3, 4, 5, 6, 7, 8, 9, 10, 11, 12, 13, 14, 15, 16, 17, 18, 19, 20, 21] [] [0, 1, 2, 3, 4, 5, 6, 7, 8, 9, 10, 11, 12, 13, 14, 15, 16, 17, 18, 19, 20, 21] rfl rfl rfl rfl rfl (wn := fun u_135 => (wR cI cJ cZ aR0 aR1 aR2 aR3 aR4 aR5 aR6 aR7 aR8 aR9 aR10 aR11 aR12 aR13 aR14 aR15 aR16 aR17 aR18 aR19 aR20 aR21 u_135 sg pd ac (((eDeeds dd) + (1 : Int32)), (eFirstLate dd), ((eLateMany dd) + (1 : Int32)), (upd (eDeedHour dd) ((eDeeds dd) - (eDeeds dd) / (60 : Int32) * (60 : Int32)).toNatClampNeg ((vRight lv) xc.toNatClampNeg)), (upd (eDeedClock dd) ((eDeeds dd) - (eDeeds dd) / (60 : Int32) * (60 : Int32)).toNatClampNeg (vClock lv)), (upd (eDeedWho dd) ((eDeeds dd) - (eDeeds dd) / (60 : Int32) * (60 : Int32)).toNatClampNeg xc)) hd le bd my lf pa kp)) (fun _ => rfl) (fun u_135 H locs hw_135 hP hD hS => ?_)
          have hP : va_P δ vwCl (wR cI cJ cZ aR0 aR1 aR2 aR3 aR4 aR5 aR6 aR7 aR8 aR9 aR10 aR11 aR12 aR13 aR14 aR15 aR16 aR17 aR18 aR19 aR20 aR21 u_135 sg pd ac (((eDeeds dd) + (1 : Int32)), (eFirstLate dd), ((eLateMany dd) + (1 : Int32)), (upd (eDeedHour dd) ((eDeeds dd) - (eDeeds dd) / (60 : Int32) * (60 : Int32)).toNatClampNeg ((vRight lv) xc.toNatClampNeg)), (upd (eDeedClock dd) ((eDeeds dd) - (eDeeds dd) / (60 : Int32) * (60 : Int32)).toNatClampNeg (vClock lv)), (upd (eDeedWho dd) ((eDeeds dd) - (eDeeds dd) / (60 : Int32) * (60 : Int32)).toNatClampNeg xc)) hd le bd my lf pa kp) H := hP
          have hD : va_D A (wR cI cJ cZ aR0 aR1 aR2 aR3 aR4 aR5 aR6 aR7 aR8 aR9 aR10 aR11 aR12 aR13 aR14 aR15 aR16 aR17 aR18 aR19 aR20 aR21 u_135 sg pd ac (((eDeeds dd) + (1 : Int32)), (eFirstLate dd), ((eLateMany dd) + (1 : Int32)), (upd (eDeedHour dd) ((eDeeds dd) - (eDeeds dd) / (60 : Int32) * (60 : Int32)).toNatClampNeg ((vRight lv) xc.toNatClampNeg)), (upd (eDeedClock dd) ((eDeeds dd) - (eDeeds dd) / (60 : Int32) * (60 : Int32)).toNatClampNeg (vClock lv)), (upd (eDeedWho dd) ((eDeeds dd) - (eDeeds dd) / (60 : Int32) * (60 : Int32)).toNatClampNeg xc)) hd le bd my lf pa kp) := hD
          have hR := bnd_eq hR hw_135.symm
          exact hret _ _ (u_135, (((eDeeds dd) + (1 : Int32)), (eFirstLate dd), ((eLateMany dd) + (1 : Int32)), (upd (eDeedHour dd) ((eDeeds dd) - (eDeeds dd) / (60 : Int32) * (60 : Int32)).toNatClampNeg ((vRight lv) xc.toNatClampNeg)), (upd (eDeedClock dd) ((eDeeds dd) - (eDeeds dd) / (60 : Int32) * (60 : Int32)).toNatClampNeg (vClock lv)), (upd (eDeedWho dd) ((eDeeds dd) - (eDeeds dd) / (60 : Int32) * (60 : Int32)).toNatClampNeg xc))) _ _ hR hP hD hS dX6_doDeed_138
    · have c_52 : ¬ (((vRight lv) xc.toNatClampNeg) = (vClock lv)) := c_52
      have hR := hR.trans (if_neg c_52)
      refine lv_aload_n hx hb dX6_doDeed_55 rfl (lv_at hl 2 rfl) ?_
      refine va_get (D := δ) (ci := 6) (v := .int (eDeeds dd)) (C := RX6) (T := TX6) (N := 34) hx hb hts hinX6 hown hK hP 0 rfl rfl 20 (by decide) (hts (.fieldLink RX6 154 "GloveHoursModel" "deeds" "I") (List.mem_of_getElem? (i := 2) rfl)) (fun _ h9 => h9) rfl dX6_doDeed_56 ?_
      refine lv_goto (tgt := 66) hx hb dX6_doDeed_59 (by decide) ?_
      refine va_put (D := δ) (ci := 6) (v := .int (eDeeds dd)) (ty := .int) (C := RX6) (T := TX6) (N := 34) hx hb hts hinX6 tyX6 tyX6_ok nmX6 hown hK hP hD hS 0 rfl rfl 21 (by decide) (hts (.fieldLink RX6 157 "GloveHoursModel" "firstLate" "I") (List.mem_of_getElem? (i := 7) rfl)) (fun _ h9 => h9) rfl (by decide +kernel) rfl rfl (Nat.le_of_ble_eq_true rfl) dX6_doDeed_66 (fun H locs hP hD hS => ?_)
      have hP : va_P δ vwCl (wR cI cJ cZ aR0 aR1 aR2 aR3 aR4 aR5 aR6 aR7 aR8 aR9 aR10 aR11 aR12 aR13 aR14 aR15 aR16 aR17 aR18 aR19 aR20 aR21 lv sg pd ac (eDeeds dd, (eDeeds dd), eLateMany dd, (upd (eDeedHour dd) ((eDeeds dd) - (eDeeds dd) / (60 : Int32) * (60 : Int32)).toNatClampNeg ((vRight lv) xc.toNatClampNeg)), (upd (eDeedClock dd) ((eDeeds dd) - (eDeeds dd) / (60 : Int32) * (60 : Int32)).toNatClampNeg (vClock lv)), (upd (eDeedWho dd) ((eDeeds dd) - (eDeeds dd) / (60 : Int32) * (60 : Int32)).toNatClampNeg xc)) hd le bd my lf pa kp) H := hP
      have hD : va_D A (wR cI cJ cZ aR0 aR1 aR2 aR3 aR4 aR5 aR6 aR7 aR8 aR9 aR10 aR11 aR12 aR13 aR14 aR15 aR16 aR17 aR18 aR19 aR20 aR21 lv sg pd ac (eDeeds dd, (eDeeds dd), eLateMany dd, (upd (eDeedHour dd) ((eDeeds dd) - (eDeeds dd) / (60 : Int32) * (60 : Int32)).toNatClampNeg ((vRight lv) xc.toNatClampNeg)), (upd (eDeedClock dd) ((eDeeds dd) - (eDeeds dd) / (60 : Int32) * (60 : Int32)).toNatClampNeg (vClock lv)), (upd (eDeedWho dd) ((eDeeds dd) - (eDeeds dd) / (60 : Int32) * (60 : Int32)).toNatClampNeg xc)) hd le bd my lf pa kp) := hD
      refine lv_aload_n hx hb dX6_doDeed_69 rfl (lv_at hl 2 rfl) ?_
      refine lv_dup hx hb dX6_doDeed_70 rfl ?_
      refine va_get (D := δ) (ci := 6) (v := .int (eLateMany dd)) (C := RX6) (T := TX6) (N := 34) hx hb hts hinX6 hown hK hP 0 rfl rfl 22 (by decide) (hts (.fieldLink RX6 160 "GloveHoursModel" "lateMany" "I") (List.mem_of_getElem? (i := 8) rfl)) (fun _ h9 => h9) rfl dX6_doDeed_71 ?_
      refine lv_iload_n hx hb dX6_doDeed_74 rfl (lv_at hl 1 rfl) ?_
      refine lv_aload_n hx hb dX6_doDeed_75 rfl (lv_at hl 2 rfl) ?_
      refine va_get (D := δ) (ci := 6) (v := .int (vClock lv)) (C := RX6) (T := TX6) (N := 34) hx hb hts hinX6 hown hK hP 0 rfl rfl 1 (by decide) (hts (.fieldLink RX6 110 "GloveHoursModel" "clock" "I") (List.mem_of_getElem? (i := 5) rfl)) (fun _ h9 => h9) rfl dX6_doDeed_76 ?_
      refine lv_icmp_eq (tgt := 86) hx hb dX6_doDeed_79 (by decide) (fun c_79 => ?_) (fun c_79 => ?_)
      · have c_79 : (((vRight lv) xc.toNatClampNeg) = (vClock lv)) := c_79
        have hR := hR.trans (if_pos c_79)
        refine lv_iconst (v := (0 : Int32)) hx hb dX6_doDeed_86 (by decide) ?_
        refine lv_iadd hx hb dX6_doDeed_87 ?_
        refine va_put (D := δ) (ci := 6) (v := .int ((eLateMany dd) + (0 : Int32))) (ty := .int) (C := RX6) (T := TX6) (N := 34) hx hb hts hinX6 tyX6 tyX6_ok nmX6 hown hK hP hD hS 0 rfl rfl 22 (by decide) (hts (.fieldLink RX6 160 "GloveHoursModel" "lateMany" "I") (List.mem_of_getElem? (i := 8) rfl)) (fun _ h9 => h9) rfl (by decide +kernel) rfl rfl (Nat.le_of_ble_eq_true rfl) dX6_doDeed_88 (fun H locs hP hD hS => ?_)
        have hP : va_P δ vwCl (wR cI cJ cZ aR0 aR1 aR2 aR3 aR4 aR5 aR6 aR7 aR8 aR9 aR10 aR11 aR12 aR13 aR14 aR15 aR16 aR17 aR18 aR19 aR20 aR21 lv sg pd ac (eDeeds dd, (eDeeds dd), ((eLateMany dd) + (0 : Int32)), (upd (eDeedHour dd) ((eDeeds dd) - (eDeeds dd) / (60 : Int32) * (60 : Int32)).toNatClampNeg ((vRight lv) xc.toNatClampNeg)), (upd (eDeedClock dd) ((eDeeds dd) - (eDeeds dd) / (60 : Int32) * (60 : Int32)).toNatClampNeg (vClock lv)), (upd (eDeedWho dd) ((eDeeds dd) - (eDeeds dd) / (60 : Int32) * (60 : Int32)).toNatClampNeg xc)) hd le bd my lf pa kp) H := hP
        have hD : va_D A (wR cI cJ cZ aR0 aR1 aR2 aR3 aR4 aR5 aR6 aR7 aR8 aR9 aR10 aR11 aR12 aR13 aR14 aR15 aR16 aR17 aR18 aR19 aR20 aR21 lv sg pd ac (eDeeds dd, (eDeeds dd), ((eLateMany dd) + (0 : Int32)), (upd (eDeedHour dd) ((eDeeds dd) - (eDeeds dd) / (60 : Int32) * (60 : Int32)).toNatClampNeg ((vRight lv) xc.toNatClampNeg)), (upd (eDeedClock dd) ((eDeeds dd) - (eDeeds dd) / (60 : Int32) * (60 : Int32)).toNatClampNeg (vClock lv)), (upd (eDeedWho dd) ((eDeeds dd) - (eDeeds dd) / (60 : Int32) * (60 : Int32)).toNatClampNeg xc)) hd le bd my lf pa kp) := hD
        refine lv_aload_n hx hb dX6_doDeed_91 rfl (lv_at hl 2 rfl) ?_
        refine lv_dup hx hb dX6_doDeed_92 rfl ?_
        refine va_get (D := δ) (ci := 6) (v := .int (eDeeds dd)) (C := RX6) (T := TX6) (N := 34) hx hb hts hinX6 hown hK hP 0 rfl rfl 20 (by decide) (hts (.fieldLink RX6 154 "GloveHoursModel" "deeds" "I") (List.mem_of_getElem? (i := 2) rfl)) (fun _ h9 => h9) rfl dX6_doDeed_93 ?_
        refine lv_iconst (v := (1 : Int32)) hx hb dX6_doDeed_96 (by decide) ?_
        refine lv_iadd hx hb dX6_doDeed_97 ?_
        refine va_put (D := δ) (ci := 6) (v := .int ((eDeeds dd) + (1 : Int32))) (ty := .int) (C := RX6) (T := TX6) (N := 34) hx hb hts hinX6 tyX6 tyX6_ok nmX6 hown hK hP hD hS 0 rfl rfl 20 (by decide) (hts (.fieldLink RX6 154 "GloveHoursModel" "deeds" "I") (List.mem_of_getElem? (i := 2) rfl)) (fun _ h9 => h9) rfl (by decide +kernel) rfl rfl (Nat.le_of_ble_eq_true rfl) dX6_doDeed_98 (fun H locs hP hD hS => ?_)
        have hP : va_P δ vwCl (wR cI cJ cZ aR0 aR1 aR2 aR3 aR4 aR5 aR6 aR7 aR8 aR9 aR10 aR11 aR12 aR13 aR14 aR15 aR16 aR17 aR18 aR19 aR20 aR21 lv sg pd ac (((eDeeds dd) + (1 : Int32)), (eDeeds dd), ((eLateMany dd) + (0 : Int32)), (upd (eDeedHour dd) ((eDeeds dd) - (eDeeds dd) / (60 : Int32) * (60 : Int32)).toNatClampNeg ((vRight lv) xc.toNatClampNeg)), (upd (eDeedClock dd) ((eDeeds dd) - (eDeeds dd) / (60 : Int32) * (60 : Int32)).toNatClampNeg (vClock lv)), (upd (eDeedWho dd) ((eDeeds dd) - (eDeeds dd) / (60 : Int32) * (60 : Int32)).toNatClampNeg xc)) hd le bd my lf pa kp) H := hP
        have hD : va_D A (wR cI cJ cZ aR0 aR1 aR2 aR3 aR4 aR5 aR6 aR7 aR8 aR9 aR10 aR11 aR12 aR13 aR14 aR15 aR16 aR17 aR18 aR19 aR20 aR21 lv sg pd ac (((eDeeds dd) + (1 : Int32)), (eDeeds dd), ((eLateMany dd) + (0 : Int32)), (upd (eDeedHour dd) ((eDeeds dd) - (eDeeds dd) / (60 : Int32) * (60 : Int32)).toNatClampNeg ((vRight lv) xc.toNatClampNeg)), (upd (eDeedClock dd) ((eDeeds dd) - (eDeeds dd) / (60 : Int32) * (60 : Int32)).toNatClampNeg (vClock lv)), (upd (eDeedWho dd) ((eDeeds dd) - (eDeeds dd) / (60 : Int32) * (60 : Int32)).toNatClampNeg xc)) hd le bd my lf pa kp) := hD
        refine lv_aload_n hx hb dX6_doDeed_101 rfl (lv_at hl 2 rfl) ?_
        refine va_get (D := δ) (ci := 6) (v := .ref aR4) (C := RX6) (T := TX6) (N := 34) hx hb hts hinX6 hown hK hP 0 rfl rfl 6 (by decide) (hts (.fieldLink RX6 19 "GloveHoursModel" "wearOf" "[I") (List.mem_of_getElem? (i := 9) rfl)) (fun _ h9 => h9) rfl dX6_doDeed_102 ?_
        refine lv_iload_n hx hb dX6_doDeed_105 rfl (lv_at hl 3 rfl) ?_
        refine lv_iload_n hx hb dX6_doDeed_106 rfl (lv_at hl 1 rfl) ?_
        have hr := mrS (p := p) (e := e) (R := rm_X6_doDeed) (below := below) (meth := meth) (H := H) (locs := locs) (ls := ls) (As := [.int xc, .int ((vRight lv) xc.toNatClampNeg)]) (rest := [.ref aR4]) (c_X6_at l δ cI cJ cZ xc ((vRight lv) xc.toNatClampNeg)) hx hb hml hts hown hK hNW hP hD [] rfl rfl (va_cwS 2 hts gX6_doDeed_X6_at rfl rfl rfl (by decide +kernel) ⟨(Nat.le_of_ble_eq_true rfl), (Nat.le_of_ble_eq_true rfl)⟩) rfl hl.1 rfl (Nat.le_of_ble_eq_true rfl) dX6_doDeed_107
        refine mc_i (wr := (wR cI cJ cZ aR0 aR1 aR2 aR3 aR4 aR5 aR6 aR7 aR8 aR9 aR10 aR11 aR12 aR13 aR14 aR15 aR16 aR17 aR18 aR19 aR20 aR21 lv sg pd ac (((eDeeds dd) + (1 : Int32)), (eDeeds dd), ((eLateMany dd) + (0 : Int32)), (upd (eDeedHour dd) ((eDeeds dd) - (eDeeds dd) / (60 : Int32) * (60 : Int32)).toNatClampNeg ((vRight lv) xc.toNatClampNeg)), (upd (eDeedClock dd) ((eDeeds dd) - (eDeeds dd) / (60 : Int32) * (60 : Int32)).toNatClampNeg (vClock lv)), (upd (eDeedWho dd) ((eDeeds dd) - (eDeeds dd) / (60 : Int32) * (60 : Int32)).toNatClampNeg xc)) hd le bd my lf pa kp)) hr hP hD hS hA [] [0, 1, 2, 3, 4, 5, 6, 7, 8, 9, 10, 11, 12, 13, 14, 15, 16, 17, 18, 19, 20, 21] [0, 1, 2, 3, 4, 5, 6, 7, 8, 9, 10, 11, 12, 13, 14, 15, 16, 17, 18, 19, 20, 21] rfl rfl rfl rfl rfl (wn := fun _ => (wR cI cJ cZ aR0 aR1 aR2 aR3 aR4 aR5 aR6 aR7 aR8 aR9 aR10 aR11 aR12 aR13 aR14 aR15 aR16 aR17 aR18 aR19 aR20 aR21 lv sg pd ac (((eDeeds dd) + (1 : Int32)), (eDeeds dd), ((eLateMany dd) + (0 : Int32)), (upd (eDeedHour dd) ((eDeeds dd) - (eDeeds dd) / (60 : Int32) * (60 : Int32)).toNatClampNeg ((vRight lv) xc.toNatClampNeg)), (upd (eDeedClock dd) ((eDeeds dd) - (eDeeds dd) / (60 : Int32) * (60 : Int32)).toNatClampNeg (vClock lv)), (upd (eDeedWho dd) ((eDeeds dd) - (eDeeds dd) / (60 : Int32) * (60 : Int32)).toNatClampNeg xc)) hd le bd my lf pa kp)) (fun _ => rfl) (fun r_107 _ H locs hw_107 hP hD hS => ?_)
        have hP : va_P δ vwCl (wR cI cJ cZ aR0 aR1 aR2 aR3 aR4 aR5 aR6 aR7 aR8 aR9 aR10 aR11 aR12 aR13 aR14 aR15 aR16 aR17 aR18 aR19 aR20 aR21 lv sg pd ac (((eDeeds dd) + (1 : Int32)), (eDeeds dd), ((eLateMany dd) + (0 : Int32)), (upd (eDeedHour dd) ((eDeeds dd) - (eDeeds dd) / (60 : Int32) * (60 : Int32)).toNatClampNeg ((vRight lv) xc.toNatClampNeg)), (upd (eDeedClock dd) ((eDeeds dd) - (eDeeds dd) / (60 : Int32) * (60 : Int32)).toNatClampNeg (vClock lv)), (upd (eDeedWho dd) ((eDeeds dd) - (eDeeds dd) / (60 : Int32) * (60 : Int32)).toNatClampNeg xc)) hd le bd my lf pa kp) H := hP
        have hD : va_D A (wR cI cJ cZ aR0 aR1 aR2 aR3 aR4 aR5 aR6 aR7 aR8 aR9 aR10 aR11 aR12 aR13 aR14 aR15 aR16 aR17 aR18 aR19 aR20 aR21 lv sg pd ac (((eDeeds dd) + (1 : Int32)), (eDeeds dd), ((eLateMany dd) + (0 : Int32)), (upd (eDeedHour dd) ((eDeeds dd) - (eDeeds dd) / (60 : Int32) * (60 : Int32)).toNatClampNeg ((vRight lv) xc.toNatClampNeg)), (upd (eDeedClock dd) ((eDeeds dd) - (eDeeds dd) / (60 : Int32) * (60 : Int32)).toNatClampNeg (vClock lv)), (upd (eDeedWho dd) ((eDeeds dd) - (eDeeds dd) / (60 : Int32) * (60 : Int32)).toNatClampNeg xc)) hd le bd my lf pa kp) := hD
        have hR := bnd_eq hR hw_107.symm
        refine lv_dup2_11 hx hb dX6_doDeed_110 rfl rfl ?_
        refine va_iald hx hb hK hP 4 0 rfl rfl (at_in hw_107 hc hrt) dX6_doDeed_111 ?_
        refine lv_iconst (v := (1 : Int32)) hx hb dX6_doDeed_112 (by decide) ?_
        refine lv_iadd hx hb dX6_doDeed_113 ?_
        refine va_iast hx hb hK hP hD hS 4 0 rfl rfl (at_in hw_107 hc hrt) dX6_doDeed_114 (fun H locs hP hD hS => ?_)
        have hP : va_P δ vwCl (wR cI cJ cZ aR0 aR1 aR2 aR3 aR4 aR5 aR6 aR7 aR8 aR9 aR10 aR11 aR12 aR13 aR14 aR15 aR16 aR17 aR18 aR19 aR20 aR21 (vCourtiers lv, vClock lv, vTears lv, vLeft lv, vRight lv, vScandals lv, (upd (vWearOf lv) r_107.toNatClampNeg (((vWearOf lv) r_107.toNatClampNeg) + (1 : Int32)))) sg pd ac (((eDeeds dd) + (1 : Int32)), (eDeeds dd), ((eLateMany dd) + (0 : Int32)), (upd (eDeedHour dd) ((eDeeds dd) - (eDeeds dd) / (60 : Int32) * (60 : Int32)).toNatClampNeg ((vRight lv) xc.toNatClampNeg)), (upd (eDeedClock dd) ((eDeeds dd) - (eDeeds dd) / (60 : Int32) * (60 : Int32)).toNatClampNeg (vClock lv)), (upd (eDeedWho dd) ((eDeeds dd) - (eDeeds dd) / (60 : Int32) * (60 : Int32)).toNatClampNeg xc)) hd le bd my lf pa kp) H := hP
        have hD : va_D A (wR cI cJ cZ aR0 aR1 aR2 aR3 aR4 aR5 aR6 aR7 aR8 aR9 aR10 aR11 aR12 aR13 aR14 aR15 aR16 aR17 aR18 aR19 aR20 aR21 (vCourtiers lv, vClock lv, vTears lv, vLeft lv, vRight lv, vScandals lv, (upd (vWearOf lv) r_107.toNatClampNeg (((vWearOf lv) r_107.toNatClampNeg) + (1 : Int32)))) sg pd ac (((eDeeds dd) + (1 : Int32)), (eDeeds dd), ((eLateMany dd) + (0 : Int32)), (upd (eDeedHour dd) ((eDeeds dd) - (eDeeds dd) / (60 : Int32) * (60 : Int32)).toNatClampNeg ((vRight lv) xc.toNatClampNeg)), (upd (eDeedClock dd) ((eDeeds dd) - (eDeeds dd) / (60 : Int32) * (60 : Int32)).toNatClampNeg (vClock lv)), (upd (eDeedWho dd) ((eDeeds dd) - (eDeeds dd) / (60 : Int32) * (60 : Int32)).toNatClampNeg xc)) hd le bd my lf pa kp) := hD
        refine lv_aload_n hx hb dX6_doDeed_115 rfl (lv_at hl 2 rfl) ?_
        refine va_get (D := δ) (ci := 6) (v := .ref aR4) (C := RX6) (T := TX6) (N := 34) hx hb hts hinX6 hown hK hP 0 rfl rfl 6 (by decide) (hts (.fieldLink RX6 19 "GloveHoursModel" "wearOf" "[I") (List.mem_of_getElem? (i := 9) rfl)) (fun _ h9 => h9) rfl dX6_doDeed_116 ?_
        refine lv_iload_n hx hb dX6_doDeed_119 rfl (lv_at hl 3 rfl) ?_
        refine lv_iload_n hx hb dX6_doDeed_120 rfl (lv_at hl 1 rfl) ?_
        have hr := mrS (p := p) (e := e) (R := rm_X6_doDeed) (below := below) (meth := meth) (H := H) (locs := locs) (ls := ls) (As := [.int xc, .int ((vRight lv) xc.toNatClampNeg)]) (rest := [.ref aR4]) (c_X6_at l δ cI cJ cZ xc ((vRight lv) xc.toNatClampNeg)) hx hb hml hts hown hK hNW hP hD [] rfl rfl (va_cwS 2 hts gX6_doDeed_X6_at rfl rfl rfl (by decide +kernel) ⟨(Nat.le_of_ble_eq_true rfl), (Nat.le_of_ble_eq_true rfl)⟩) rfl hl.1 rfl (Nat.le_of_ble_eq_true rfl) dX6_doDeed_121
        refine mc_i (wr := (wR cI cJ cZ aR0 aR1 aR2 aR3 aR4 aR5 aR6 aR7 aR8 aR9 aR10 aR11 aR12 aR13 aR14 aR15 aR16 aR17 aR18 aR19 aR20 aR21 (vCourtiers lv, vClock lv, vTears lv, vLeft lv, vRight lv, vScandals lv, (upd (vWearOf lv) r_107.toNatClampNeg (((vWearOf lv) r_107.toNatClampNeg) + (1 : Int32)))) sg pd ac (((eDeeds dd) + (1 : Int32)), (eDeeds dd), ((eLateMany dd) + (0 : Int32)), (upd (eDeedHour dd) ((eDeeds dd) - (eDeeds dd) / (60 : Int32) * (60 : Int32)).toNatClampNeg ((vRight lv) xc.toNatClampNeg)), (upd (eDeedClock dd) ((eDeeds dd) - (eDeeds dd) / (60 : Int32) * (60 : Int32)).toNatClampNeg (vClock lv)), (upd (eDeedWho dd) ((eDeeds dd) - (eDeeds dd) / (60 : Int32) * (60 : Int32)).toNatClampNeg xc)) hd le bd my lf pa kp)) hr hP hD hS hA [] [0, 1, 2, 3, 4, 5, 6, 7, 8, 9, 10, 11, 12, 13, 14, 15, 16, 17, 18, 19, 20, 21] [0, 1, 2, 3, 4, 5, 6, 7, 8, 9, 10, 11, 12, 13, 14, 15, 16, 17, 18, 19, 20, 21] rfl rfl rfl rfl rfl (wn := fun _ => (wR cI cJ cZ aR0 aR1 aR2 aR3 aR4 aR5 aR6 aR7 aR8 aR9 aR10 aR11 aR12 aR13 aR14 aR15 aR16 aR17 aR18 aR19 aR20 aR21 (vCourtiers lv, vClock lv, vTears lv, vLeft lv, vRight lv, vScandals lv, (upd (vWearOf lv) r_107.toNatClampNeg (((vWearOf lv) r_107.toNatClampNeg) + (1 : Int32)))) sg pd ac (((eDeeds dd) + (1 : Int32)), (eDeeds dd), ((eLateMany dd) + (0 : Int32)), (upd (eDeedHour dd) ((eDeeds dd) - (eDeeds dd) / (60 : Int32) * (60 : Int32)).toNatClampNeg ((vRight lv) xc.toNatClampNeg)), (upd (eDeedClock dd) ((eDeeds dd) - (eDeeds dd) / (60 : Int32) * (60 : Int32)).toNatClampNeg (vClock lv)), (upd (eDeedWho dd) ((eDeeds dd) - (eDeeds dd) / (60 : Int32) * (60 : Int32)).toNatClampNeg xc)) hd le bd my lf pa kp)) (fun _ => rfl) (fun r_121 _ H locs hw_121 hP hD hS => ?_)
        have hP : va_P δ vwCl (wR cI cJ cZ aR0 aR1 aR2 aR3 aR4 aR5 aR6 aR7 aR8 aR9 aR10 aR11 aR12 aR13 aR14 aR15 aR16 aR17 aR18 aR19 aR20 aR21 (vCourtiers lv, vClock lv, vTears lv, vLeft lv, vRight lv, vScandals lv, (upd (vWearOf lv) r_107.toNatClampNeg (((vWearOf lv) r_107.toNatClampNeg) + (1 : Int32)))) sg pd ac (((eDeeds dd) + (1 : Int32)), (eDeeds dd), ((eLateMany dd) + (0 : Int32)), (upd (eDeedHour dd) ((eDeeds dd) - (eDeeds dd) / (60 : Int32) * (60 : Int32)).toNatClampNeg ((vRight lv) xc.toNatClampNeg)), (upd (eDeedClock dd) ((eDeeds dd) - (eDeeds dd) / (60 : Int32) * (60 : Int32)).toNatClampNeg (vClock lv)), (upd (eDeedWho dd) ((eDeeds dd) - (eDeeds dd) / (60 : Int32) * (60 : Int32)).toNatClampNeg xc)) hd le bd my lf pa kp) H := hP
        have hD : va_D A (wR cI cJ cZ aR0 aR1 aR2 aR3 aR4 aR5 aR6 aR7 aR8 aR9 aR10 aR11 aR12 aR13 aR14 aR15 aR16 aR17 aR18 aR19 aR20 aR21 (vCourtiers lv, vClock lv, vTears lv, vLeft lv, vRight lv, vScandals lv, (upd (vWearOf lv) r_107.toNatClampNeg (((vWearOf lv) r_107.toNatClampNeg) + (1 : Int32)))) sg pd ac (((eDeeds dd) + (1 : Int32)), (eDeeds dd), ((eLateMany dd) + (0 : Int32)), (upd (eDeedHour dd) ((eDeeds dd) - (eDeeds dd) / (60 : Int32) * (60 : Int32)).toNatClampNeg ((vRight lv) xc.toNatClampNeg)), (upd (eDeedClock dd) ((eDeeds dd) - (eDeeds dd) / (60 : Int32) * (60 : Int32)).toNatClampNeg (vClock lv)), (upd (eDeedWho dd) ((eDeeds dd) - (eDeeds dd) / (60 : Int32) * (60 : Int32)).toNatClampNeg xc)) hd le bd my lf pa kp) := hD
        have hR := bnd_eq hR hw_121.symm
        refine va_iald hx hb hK hP 4 0 rfl rfl (at_in hw_121 hc hrt) dX6_doDeed_124 ?_
        refine lv_aload_n hx hb dX6_doDeed_125 rfl (lv_at hl 2 rfl) ?_
        refine va_get (D := δ) (ci := 6) (v := .int (vTears lv)) (C := RX6) (T := TX6) (N := 34) hx hb hts hinX6 hown hK hP 0 rfl rfl 2 (by decide) (hts (.fieldLink RX6 75 "GloveHoursModel" "tears" "I") (List.mem_of_getElem? (i := 10) rfl)) (fun _ h9 => h9) rfl dX6_doDeed_126 ?_
        refine lv_icmp_lt (tgt := 138) hx hb dX6_doDeed_129 (by decide) (fun c_129 => ?_) (fun c_129 => ?_)
        · have c_129 : (((upd (vWearOf lv) r_107.toNatClampNeg (((vWearOf lv) r_107.toNatClampNeg) + (1 : Int32))) r_121.toNatClampNeg) < (vTears lv)) := c_129
          have hR := hR.trans (if_pos c_129)
          exact hret _ _ ((vCourtiers lv, vClock lv, vTears lv, vLeft lv, vRight lv, vScandals lv, (upd (vWearOf lv) r_107.toNatClampNeg (((vWearOf lv) r_107.toNatClampNeg) + (1 : Int32)))), (((eDeeds dd) + (1 : Int32)), (eDeeds dd), ((eLateMany dd) + (0 : Int32)), (upd (eDeedHour dd) ((eDeeds dd) - (eDeeds dd) / (60 : Int32) * (60 : Int32)).toNatClampNeg ((vRight lv) xc.toNatClampNeg)), (upd (eDeedClock dd) ((eDeeds dd) - (eDeeds dd) / (60 : Int32) * (60 : Int32)).toNatClampNeg (vClock lv)), (upd (eDeedWho dd) ((eDeeds dd) - (eDeeds dd) / (60 : Int32) * (60 : Int32)).toNatClampNeg xc))) _ _ hR hP hD hS dX6_doDeed_138
        · have c_129 : ¬ (((upd (vWearOf lv) r_107.toNatClampNeg (((vWearOf lv) r_107.toNatClampNeg) + (1 : Int32))) r_121.toNatClampNeg) < (vTears lv)) := c_129
          have hR := hR.trans (if_neg c_129)
          refine lv_aload_n hx hb dX6_doDeed_132 rfl (lv_at hl 2 rfl) ?_
          refine lv_iload_n hx hb dX6_doDeed_133 rfl (lv_at hl 3 rfl) ?_
          refine lv_iload_n hx hb dX6_doDeed_134 rfl (lv_at hl 1 rfl) ?_
          have hr := mrV (p := p) (e := e) (R := rm_X6_doDeed) (below := below) (meth := meth) (H := H) (locs := locs) (ls := ls) (As := [.int xc, .int ((vRight lv) xc.toNatClampNeg)]) (rest := []) (c_X6_lose l δ cI cJ cZ aR0 aR1 aR2 aR3 aR4 aR5 aR6 aR7 aR8 aR9 aR10 aR11 aR12 aR13 aR14 aR15 aR16 aR17 aR18 aR19 aR20 aR21 (vCourtiers lv, vClock lv, vTears lv, vLeft lv, vRight lv, vScandals lv, (upd (vWearOf lv) r_107.toNatClampNeg (((vWearOf lv) r_107.toNatClampNeg) + (1 : Int32)))) sg pd ac (((eDeeds dd) + (1 : Int32)), (eDeeds dd), ((eLateMany dd) + (0 : Int32)), (upd (eDeedHour dd) ((eDeeds dd) - (eDeeds dd) / (60 : Int32) * (60 : Int32)).toNatClampNeg ((vRight lv) xc.toNatClampNeg)), (upd (eDeedClock dd) ((eDeeds dd) - (eDeeds dd) / (60 : Int32) * (60 : Int32)).toNatClampNeg (vClock lv)), (upd (eDeedWho dd) ((eDeeds dd) - (eDeeds dd) / (60 : Int32) * (60 : Int32)).toNatClampNeg xc)) hd le bd my lf pa kp xc ((vRight lv) xc.toNatClampNeg) hc hrt) hx hb hml hts hown hK hNW hP hD [0, 1, 2, 3, 4, 5, 6, 7, 8, 9, 10, 11, 12, 13, 14, 15, 16, 17, 18, 19, 20, 21] rfl rfl 6 0 rfl rfl (cwV 2 hts gX6_doDeed_X6_lose rfl rfl rfl (by decide +kernel) ⟨(Nat.le_of_ble_eq_true rfl), (Nat.le_of_ble_eq_true rfl)⟩) rfl hl.1 rfl (Nat.le_of_ble_eq_true rfl) dX6_doDeed_135
          refine mc_v (wr := ([] : va_W)) hr hP hD hS hA [0, 1, 2, 3, 4, 5, 6, 7, 8, 9, 10, 11, 12, 13, 14, 15, 16, 17, 18, 19, 20, 21] [] [0, 1, 2, 3, 4, 5, 6, 7, 8, 9, 10, 11, 12, 13, 14, 15, 16, 17, 18, 19, 20, 21] rfl rfl rfl rfl rfl (wn := fun u_135 => (wR cI cJ cZ aR0 aR1 aR2 aR3 aR4 aR5 aR6 aR7 aR8 aR9 aR10 aR11 aR12 aR13 aR14 aR15 aR16 aR17 aR18 aR19 aR20 aR21 u_135 sg pd ac (((eDeeds dd) + (1 : Int32)), (eDeeds dd), ((eLateMany dd) + (0 : Int32)), (upd (eDeedHour dd) ((eDeeds dd) - (eDeeds dd) / (60 : Int32) * (60 : Int32)).toNatClampNeg ((vRight lv) xc.toNatClampNeg)), (upd (eDeedClock dd) ((eDeeds dd) - (eDeeds dd) / (60 : Int32) * (60 : Int32)).toNatClampNeg (vClock lv)), (upd (eDeedWho dd) ((eDeeds dd) - (eDeeds dd) / (60 : Int32) * (60 : Int32)).toNatClampNeg xc)) hd le bd my lf pa kp)) (fun _ => rfl) (fun u_135 H locs hw_135 hP hD hS => ?_)
          have hP : va_P δ vwCl (wR cI cJ cZ aR0 aR1 aR2 aR3 aR4 aR5 aR6 aR7 aR8 aR9 aR10 aR11 aR12 aR13 aR14 aR15 aR16 aR17 aR18 aR19 aR20 aR21 u_135 sg pd ac (((eDeeds dd) + (1 : Int32)), (eDeeds dd), ((eLateMany dd) + (0 : Int32)), (upd (eDeedHour dd) ((eDeeds dd) - (eDeeds dd) / (60 : Int32) * (60 : Int32)).toNatClampNeg ((vRight lv) xc.toNatClampNeg)), (upd (eDeedClock dd) ((eDeeds dd) - (eDeeds dd) / (60 : Int32) * (60 : Int32)).toNatClampNeg (vClock lv)), (upd (eDeedWho dd) ((eDeeds dd) - (eDeeds dd) / (60 : Int32) * (60 : Int32)).toNatClampNeg xc)) hd le bd my lf pa kp) H := hP
          have hD : va_D A (wR cI cJ cZ aR0 aR1 aR2 aR3 aR4 aR5 aR6 aR7 aR8 aR9 aR10 aR11 aR12 aR13 aR14 aR15 aR16 aR17 aR18 aR19 aR20 aR21 u_135 sg pd ac (((eDeeds dd) + (1 : Int32)), (eDeeds dd), ((eLateMany dd) + (0 : Int32)), (upd (eDeedHour dd) ((eDeeds dd) - (eDeeds dd) / (60 : Int32) * (60 : Int32)).toNatClampNeg ((vRight lv) xc.toNatClampNeg)), (upd (eDeedClock dd) ((eDeeds dd) - (eDeeds dd) / (60 : Int32) * (60 : Int32)).toNatClampNeg (vClock lv)), (upd (eDeedWho dd) ((eDeeds dd) - (eDeeds dd) / (60 : Int32) * (60 : Int32)).toNatClampNeg xc)) hd le bd my lf pa kp) := hD
          have hR := bnd_eq hR hw_135.symm
          exact hret _ _ (u_135, (((eDeeds dd) + (1 : Int32)), (eDeeds dd), ((eLateMany dd) + (0 : Int32)), (upd (eDeedHour dd) ((eDeeds dd) - (eDeeds dd) / (60 : Int32) * (60 : Int32)).toNatClampNeg ((vRight lv) xc.toNatClampNeg)), (upd (eDeedClock dd) ((eDeeds dd) - (eDeeds dd) / (60 : Int32) * (60 : Int32)).toNatClampNeg (vClock lv)), (upd (eDeedWho dd) ((eDeeds dd) - (eDeeds dd) / (60 : Int32) * (60 : Int32)).toNatClampNeg xc))) _ _ hR hP hD hS dX6_doDeed_138
      · have c_79 : ¬ (((vRight lv) xc.toNatClampNeg) = (vClock lv)) := c_79
        have hR := hR.trans (if_neg c_79)
        refine lv_iconst (v := (1 : Int32)) hx hb dX6_doDeed_82 (by decide) ?_
        refine lv_goto (tgt := 87) hx hb dX6_doDeed_83 (by decide) ?_
        refine lv_iadd hx hb dX6_doDeed_87 ?_
        refine va_put (D := δ) (ci := 6) (v := .int ((eLateMany dd) + (1 : Int32))) (ty := .int) (C := RX6) (T := TX6) (N := 34) hx hb hts hinX6 tyX6 tyX6_ok nmX6 hown hK hP hD hS 0 rfl rfl 22 (by decide) (hts (.fieldLink RX6 160 "GloveHoursModel" "lateMany" "I") (List.mem_of_getElem? (i := 8) rfl)) (fun _ h9 => h9) rfl (by decide +kernel) rfl rfl (Nat.le_of_ble_eq_true rfl) dX6_doDeed_88 (fun H locs hP hD hS => ?_)
        have hP : va_P δ vwCl (wR cI cJ cZ aR0 aR1 aR2 aR3 aR4 aR5 aR6 aR7 aR8 aR9 aR10 aR11 aR12 aR13 aR14 aR15 aR16 aR17 aR18 aR19 aR20 aR21 lv sg pd ac (eDeeds dd, (eDeeds dd), ((eLateMany dd) + (1 : Int32)), (upd (eDeedHour dd) ((eDeeds dd) - (eDeeds dd) / (60 : Int32) * (60 : Int32)).toNatClampNeg ((vRight lv) xc.toNatClampNeg)), (upd (eDeedClock dd) ((eDeeds dd) - (eDeeds dd) / (60 : Int32) * (60 : Int32)).toNatClampNeg (vClock lv)), (upd (eDeedWho dd) ((eDeeds dd) - (eDeeds dd) / (60 : Int32) * (60 : Int32)).toNatClampNeg xc)) hd le bd my lf pa kp) H := hP
        have hD : va_D A (wR cI cJ cZ aR0 aR1 aR2 aR3 aR4 aR5 aR6 aR7 aR8 aR9 aR10 aR11 aR12 aR13 aR14 aR15 aR16 aR17 aR18 aR19 aR20 aR21 lv sg pd ac (eDeeds dd, (eDeeds dd), ((eLateMany dd) + (1 : Int32)), (upd (eDeedHour dd) ((eDeeds dd) - (eDeeds dd) / (60 : Int32) * (60 : Int32)).toNatClampNeg ((vRight lv) xc.toNatClampNeg)), (upd (eDeedClock dd) ((eDeeds dd) - (eDeeds dd) / (60 : Int32) * (60 : Int32)).toNatClampNeg (vClock lv)), (upd (eDeedWho dd) ((eDeeds dd) - (eDeeds dd) / (60 : Int32) * (60 : Int32)).toNatClampNeg xc)) hd le bd my lf pa kp) := hD
        refine lv_aload_n hx hb dX6_doDeed_91 rfl (lv_at hl 2 rfl) ?_
        refine lv_dup hx hb dX6_doDeed_92 rfl ?_
        refine va_get (D := δ) (ci := 6) (v := .int (eDeeds dd)) (C := RX6) (T := TX6) (N := 34) hx hb hts hinX6 hown hK hP 0 rfl rfl 20 (by decide) (hts (.fieldLink RX6 154 "GloveHoursModel" "deeds" "I") (List.mem_of_getElem? (i := 2) rfl)) (fun _ h9 => h9) rfl dX6_doDeed_93 ?_
        refine lv_iconst (v := (1 : Int32)) hx hb dX6_doDeed_96 (by decide) ?_
        refine lv_iadd hx hb dX6_doDeed_97 ?_
        refine va_put (D := δ) (ci := 6) (v := .int ((eDeeds dd) + (1 : Int32))) (ty := .int) (C := RX6) (T := TX6) (N := 34) hx hb hts hinX6 tyX6 tyX6_ok nmX6 hown hK hP hD hS 0 rfl rfl 20 (by decide) (hts (.fieldLink RX6 154 "GloveHoursModel" "deeds" "I") (List.mem_of_getElem? (i := 2) rfl)) (fun _ h9 => h9) rfl (by decide +kernel) rfl rfl (Nat.le_of_ble_eq_true rfl) dX6_doDeed_98 (fun H locs hP hD hS => ?_)
        have hP : va_P δ vwCl (wR cI cJ cZ aR0 aR1 aR2 aR3 aR4 aR5 aR6 aR7 aR8 aR9 aR10 aR11 aR12 aR13 aR14 aR15 aR16 aR17 aR18 aR19 aR20 aR21 lv sg pd ac (((eDeeds dd) + (1 : Int32)), (eDeeds dd), ((eLateMany dd) + (1 : Int32)), (upd (eDeedHour dd) ((eDeeds dd) - (eDeeds dd) / (60 : Int32) * (60 : Int32)).toNatClampNeg ((vRight lv) xc.toNatClampNeg)), (upd (eDeedClock dd) ((eDeeds dd) - (eDeeds dd) / (60 : Int32) * (60 : Int32)).toNatClampNeg (vClock lv)), (upd (eDeedWho dd) ((eDeeds dd) - (eDeeds dd) / (60 : Int32) * (60 : Int32)).toNatClampNeg xc)) hd le bd my lf pa kp) H := hP
        have hD : va_D A (wR cI cJ cZ aR0 aR1 aR2 aR3 aR4 aR5 aR6 aR7 aR8 aR9 aR10 aR11 aR12 aR13 aR14 aR15 aR16 aR17 aR18 aR19 aR20 aR21 lv sg pd ac (((eDeeds dd) + (1 : Int32)), (eDeeds dd), ((eLateMany dd) + (1 : Int32)), (upd (eDeedHour dd) ((eDeeds dd) - (eDeeds dd) / (60 : Int32) * (60 : Int32)).toNatClampNeg ((vRight lv) xc.toNatClampNeg)), (upd (eDeedClock dd) ((eDeeds dd) - (eDeeds dd) / (60 : Int32) * (60 : Int32)).toNatClampNeg (vClock lv)), (upd (eDeedWho dd) ((eDeeds dd) - (eDeeds dd) / (60 : Int32) * (60 : Int32)).toNatClampNeg xc)) hd le bd my lf pa kp) := hD
        refine lv_aload_n hx hb dX6_doDeed_101 rfl (lv_at hl 2 rfl) ?_
        refine va_get (D := δ) (ci := 6) (v := .ref aR4) (C := RX6) (T := TX6) (N := 34) hx hb hts hinX6 hown hK hP 0 rfl rfl 6 (by decide) (hts (.fieldLink RX6 19 "GloveHoursModel" "wearOf" "[I") (List.mem_of_getElem? (i := 9) rfl)) (fun _ h9 => h9) rfl dX6_doDeed_102 ?_
        refine lv_iload_n hx hb dX6_doDeed_105 rfl (lv_at hl 3 rfl) ?_
        refine lv_iload_n hx hb dX6_doDeed_106 rfl (lv_at hl 1 rfl) ?_
        have hr := mrS (p := p) (e := e) (R := rm_X6_doDeed) (below := below) (meth := meth) (H := H) (locs := locs) (ls := ls) (As := [.int xc, .int ((vRight lv) xc.toNatClampNeg)]) (rest := [.ref aR4]) (c_X6_at l δ cI cJ cZ xc ((vRight lv) xc.toNatClampNeg)) hx hb hml hts hown hK hNW hP hD [] rfl rfl (va_cwS 2 hts gX6_doDeed_X6_at rfl rfl rfl (by decide +kernel) ⟨(Nat.le_of_ble_eq_true rfl), (Nat.le_of_ble_eq_true rfl)⟩) rfl hl.1 rfl (Nat.le_of_ble_eq_true rfl) dX6_doDeed_107
        refine mc_i (wr := (wR cI cJ cZ aR0 aR1 aR2 aR3 aR4 aR5 aR6 aR7 aR8 aR9 aR10 aR11 aR12 aR13 aR14 aR15 aR16 aR17 aR18 aR19 aR20 aR21 lv sg pd ac (((eDeeds dd) + (1 : Int32)), (eDeeds dd), ((eLateMany dd) + (1 : Int32)), (upd (eDeedHour dd) ((eDeeds dd) - (eDeeds dd) / (60 : Int32) * (60 : Int32)).toNatClampNeg ((vRight lv) xc.toNatClampNeg)), (upd (eDeedClock dd) ((eDeeds dd) - (eDeeds dd) / (60 : Int32) * (60 : Int32)).toNatClampNeg (vClock lv)), (upd (eDeedWho dd) ((eDeeds dd) - (eDeeds dd) / (60 : Int32) * (60 : Int32)).toNatClampNeg xc)) hd le bd my lf pa kp)) hr hP hD hS hA [] [0, 1, 2, 3, 4, 5, 6, 7, 8, 9, 10, 11, 12, 13, 14, 15, 16, 17, 18, 19, 20, 21] [0, 1, 2, 3, 4, 5, 6, 7, 8, 9, 10, 11, 12, 13, 14, 15, 16, 17, 18, 19, 20, 21] rfl rfl rfl rfl rfl (wn := fun _ => (wR cI cJ cZ aR0 aR1 aR2 aR3 aR4 aR5 aR6 aR7 aR8 aR9 aR10 aR11 aR12 aR13 aR14 aR15 aR16 aR17 aR18 aR19 aR20 aR21 lv sg pd ac (((eDeeds dd) + (1 : Int32)), (eDeeds dd), ((eLateMany dd) + (1 : Int32)), (upd (eDeedHour dd) ((eDeeds dd) - (eDeeds dd) / (60 : Int32) * (60 : Int32)).toNatClampNeg ((vRight lv) xc.toNatClampNeg)), (upd (eDeedClock dd) ((eDeeds dd) - (eDeeds dd) / (60 : Int32) * (60 : Int32)).toNatClampNeg (vClock lv)), (upd (eDeedWho dd) ((eDeeds dd) - (eDeeds dd) / (60 : Int32) * (60 : Int32)).toNatClampNeg xc)) hd le bd my lf pa kp)) (fun _ => rfl) (fun r_107 _ H locs hw_107 hP hD hS => ?_)
        have hP : va_P δ vwCl (wR cI cJ cZ aR0 aR1 aR2 aR3 aR4 aR5 aR6 aR7 aR8 aR9 aR10 aR11 aR12 aR13 aR14 aR15 aR16 aR17 aR18 aR19 aR20 aR21 lv sg pd ac (((eDeeds dd) + (1 : Int32)), (eDeeds dd), ((eLateMany dd) + (1 : Int32)), (upd (eDeedHour dd) ((eDeeds dd) - (eDeeds dd) / (60 : Int32) * (60 : Int32)).toNatClampNeg ((vRight lv) xc.toNatClampNeg)), (upd (eDeedClock dd) ((eDeeds dd) - (eDeeds dd) / (60 : Int32) * (60 : Int32)).toNatClampNeg (vClock lv)), (upd (eDeedWho dd) ((eDeeds dd) - (eDeeds dd) / (60 : Int32) * (60 : Int32)).toNatClampNeg xc)) hd le bd my lf pa kp) H := hP
        have hD : va_D A (wR cI cJ cZ aR0 aR1 aR2 aR3 aR4 aR5 aR6 aR7 aR8 aR9 aR10 aR11 aR12 aR13 aR14 aR15 aR16 aR17 aR18 aR19 aR20 aR21 lv sg pd ac (((eDeeds dd) + (1 : Int32)), (eDeeds dd), ((eLateMany dd) + (1 : Int32)), (upd (eDeedHour dd) ((eDeeds dd) - (eDeeds dd) / (60 : Int32) * (60 : Int32)).toNatClampNeg ((vRight lv) xc.toNatClampNeg)), (upd (eDeedClock dd) ((eDeeds dd) - (eDeeds dd) / (60 : Int32) * (60 : Int32)).toNatClampNeg (vClock lv)), (upd (eDeedWho dd) ((eDeeds dd) - (eDeeds dd) / (60 : Int32) * (60 : Int32)).toNatClampNeg xc)) hd le bd my lf pa kp) := hD
        have hR := bnd_eq hR hw_107.symm
        refine lv_dup2_11 hx hb dX6_doDeed_110 rfl rfl ?_
        refine va_iald hx hb hK hP 4 0 rfl rfl (at_in hw_107 hc hrt) dX6_doDeed_111 ?_
        refine lv_iconst (v := (1 : Int32)) hx hb dX6_doDeed_112 (by decide) ?_
        refine lv_iadd hx hb dX6_doDeed_113 ?_
        refine va_iast hx hb hK hP hD hS 4 0 rfl rfl (at_in hw_107 hc hrt) dX6_doDeed_114 (fun H locs hP hD hS => ?_)
        have hP : va_P δ vwCl (wR cI cJ cZ aR0 aR1 aR2 aR3 aR4 aR5 aR6 aR7 aR8 aR9 aR10 aR11 aR12 aR13 aR14 aR15 aR16 aR17 aR18 aR19 aR20 aR21 (vCourtiers lv, vClock lv, vTears lv, vLeft lv, vRight lv, vScandals lv, (upd (vWearOf lv) r_107.toNatClampNeg (((vWearOf lv) r_107.toNatClampNeg) + (1 : Int32)))) sg pd ac (((eDeeds dd) + (1 : Int32)), (eDeeds dd), ((eLateMany dd) + (1 : Int32)), (upd (eDeedHour dd) ((eDeeds dd) - (eDeeds dd) / (60 : Int32) * (60 : Int32)).toNatClampNeg ((vRight lv) xc.toNatClampNeg)), (upd (eDeedClock dd) ((eDeeds dd) - (eDeeds dd) / (60 : Int32) * (60 : Int32)).toNatClampNeg (vClock lv)), (upd (eDeedWho dd) ((eDeeds dd) - (eDeeds dd) / (60 : Int32) * (60 : Int32)).toNatClampNeg xc)) hd le bd my lf pa kp) H := hP
        have hD : va_D A (wR cI cJ cZ aR0 aR1 aR2 aR3 aR4 aR5 aR6 aR7 aR8 aR9 aR10 aR11 aR12 aR13 aR14 aR15 aR16 aR17 aR18 aR19 aR20 aR21 (vCourtiers lv, vClock lv, vTears lv, vLeft lv, vRight lv, vScandals lv, (upd (vWearOf lv) r_107.toNatClampNeg (((vWearOf lv) r_107.toNatClampNeg) + (1 : Int32)))) sg pd ac (((eDeeds dd) + (1 : Int32)), (eDeeds dd), ((eLateMany dd) + (1 : Int32)), (upd (eDeedHour dd) ((eDeeds dd) - (eDeeds dd) / (60 : Int32) * (60 : Int32)).toNatClampNeg ((vRight lv) xc.toNatClampNeg)), (upd (eDeedClock dd) ((eDeeds dd) - (eDeeds dd) / (60 : Int32) * (60 : Int32)).toNatClampNeg (vClock lv)), (upd (eDeedWho dd) ((eDeeds dd) - (eDeeds dd) / (60 : Int32) * (60 : Int32)).toNatClampNeg xc)) hd le bd my lf pa kp) := hD
        refine lv_aload_n hx hb dX6_doDeed_115 rfl (lv_at hl 2 rfl) ?_
        refine va_get (D := δ) (ci := 6) (v := .ref aR4) (C := RX6) (T := TX6) (N := 34) hx hb hts hinX6 hown hK hP 0 rfl rfl 6 (by decide) (hts (.fieldLink RX6 19 "GloveHoursModel" "wearOf" "[I") (List.mem_of_getElem? (i := 9) rfl)) (fun _ h9 => h9) rfl dX6_doDeed_116 ?_
        refine lv_iload_n hx hb dX6_doDeed_119 rfl (lv_at hl 3 rfl) ?_
        refine lv_iload_n hx hb dX6_doDeed_120 rfl (lv_at hl 1 rfl) ?_
        have hr := mrS (p := p) (e := e) (R := rm_X6_doDeed) (below := below) (meth := meth) (H := H) (locs := locs) (ls := ls) (As := [.int xc, .int ((vRight lv) xc.toNatClampNeg)]) (rest := [.ref aR4]) (c_X6_at l δ cI cJ cZ xc ((vRight lv) xc.toNatClampNeg)) hx hb hml hts hown hK hNW hP hD [] rfl rfl (va_cwS 2 hts gX6_doDeed_X6_at rfl rfl rfl (by decide +kernel) ⟨(Nat.le_of_ble_eq_true rfl), (Nat.le_of_ble_eq_true rfl)⟩) rfl hl.1 rfl (Nat.le_of_ble_eq_true rfl) dX6_doDeed_121
        refine mc_i (wr := (wR cI cJ cZ aR0 aR1 aR2 aR3 aR4 aR5 aR6 aR7 aR8 aR9 aR10 aR11 aR12 aR13 aR14 aR15 aR16 aR17 aR18 aR19 aR20 aR21 (vCourtiers lv, vClock lv, vTears lv, vLeft lv, vRight lv, vScandals lv, (upd (vWearOf lv) r_107.toNatClampNeg (((vWearOf lv) r_107.toNatClampNeg) + (1 : Int32)))) sg pd ac (((eDeeds dd) + (1 : Int32)), (eDeeds dd), ((eLateMany dd) + (1 : Int32)), (upd (eDeedHour dd) ((eDeeds dd) - (eDeeds dd) / (60 : Int32) * (60 : Int32)).toNatClampNeg ((vRight lv) xc.toNatClampNeg)), (upd (eDeedClock dd) ((eDeeds dd) - (eDeeds dd) / (60 : Int32) * (60 : Int32)).toNatClampNeg (vClock lv)), (upd (eDeedWho dd) ((eDeeds dd) - (eDeeds dd) / (60 : Int32) * (60 : Int32)).toNatClampNeg xc)) hd le bd my lf pa kp)) hr hP hD hS hA [] [0, 1, 2, 3, 4, 5, 6, 7, 8, 9, 10, 11, 12, 13, 14, 15, 16, 17, 18, 19, 20, 21] [0, 1, 2, 3, 4, 5, 6, 7, 8, 9, 10, 11, 12, 13, 14, 15, 16, 17, 18, 19, 20, 21] rfl rfl rfl rfl rfl (wn := fun _ => (wR cI cJ cZ aR0 aR1 aR2 aR3 aR4 aR5 aR6 aR7 aR8 aR9 aR10 aR11 aR12 aR13 aR14 aR15 aR16 aR17 aR18 aR19 aR20 aR21 (vCourtiers lv, vClock lv, vTears lv, vLeft lv, vRight lv, vScandals lv, (upd (vWearOf lv) r_107.toNatClampNeg (((vWearOf lv) r_107.toNatClampNeg) + (1 : Int32)))) sg pd ac (((eDeeds dd) + (1 : Int32)), (eDeeds dd), ((eLateMany dd) + (1 : Int32)), (upd (eDeedHour dd) ((eDeeds dd) - (eDeeds dd) / (60 : Int32) * (60 : Int32)).toNatClampNeg ((vRight lv) xc.toNatClampNeg)), (upd (eDeedClock dd) ((eDeeds dd) - (eDeeds dd) / (60 : Int32) * (60 : Int32)).toNatClampNeg (vClock lv)), (upd (eDeedWho dd) ((eDeeds dd) - (eDeeds dd) / (60 : Int32) * (60 : Int32)).toNatClampNeg xc)) hd le bd my lf pa kp)) (fun _ => rfl) (fun r_121 _ H locs hw_121 hP hD hS => ?_)
        have hP : va_P δ vwCl (wR cI cJ cZ aR0 aR1 aR2 aR3 aR4 aR5 aR6 aR7 aR8 aR9 aR10 aR11 aR12 aR13 aR14 aR15 aR16 aR17 aR18 aR19 aR20 aR21 (vCourtiers lv, vClock lv, vTears lv, vLeft lv, vRight lv, vScandals lv, (upd (vWearOf lv) r_107.toNatClampNeg (((vWearOf lv) r_107.toNatClampNeg) + (1 : Int32)))) sg pd ac (((eDeeds dd) + (1 : Int32)), (eDeeds dd), ((eLateMany dd) + (1 : Int32)), (upd (eDeedHour dd) ((eDeeds dd) - (eDeeds dd) / (60 : Int32) * (60 : Int32)).toNatClampNeg ((vRight lv) xc.toNatClampNeg)), (upd (eDeedClock dd) ((eDeeds dd) - (eDeeds dd) / (60 : Int32) * (60 : Int32)).toNatClampNeg (vClock lv)), (upd (eDeedWho dd) ((eDeeds dd) - (eDeeds dd) / (60 : Int32) * (60 : Int32)).toNatClampNeg xc)) hd le bd my lf pa kp) H := hP
        have hD : va_D A (wR cI cJ cZ aR0 aR1 aR2 aR3 aR4 aR5 aR6 aR7 aR8 aR9 aR10 aR11 aR12 aR13 aR14 aR15 aR16 aR17 aR18 aR19 aR20 aR21 (vCourtiers lv, vClock lv, vTears lv, vLeft lv, vRight lv, vScandals lv, (upd (vWearOf lv) r_107.toNatClampNeg (((vWearOf lv) r_107.toNatClampNeg) + (1 : Int32)))) sg pd ac (((eDeeds dd) + (1 : Int32)), (eDeeds dd), ((eLateMany dd) + (1 : Int32)), (upd (eDeedHour dd) ((eDeeds dd) - (eDeeds dd) / (60 : Int32) * (60 : Int32)).toNatClampNeg ((vRight lv) xc.toNatClampNeg)), (upd (eDeedClock dd) ((eDeeds dd) - (eDeeds dd) / (60 : Int32) * (60 : Int32)).toNatClampNeg (vClock lv)), (upd (eDeedWho dd) ((eDeeds dd) - (eDeeds dd) / (60 : Int32) * (60 : Int32)).toNatClampNeg xc)) hd le bd my lf pa kp) := hD
        have hR := bnd_eq hR hw_121.symm
        refine va_iald hx hb hK hP 4 0 rfl rfl (at_in hw_121 hc hrt) dX6_doDeed_124 ?_
        refine lv_aload_n hx hb dX6_doDeed_125 rfl (lv_at hl 2 rfl) ?_
        refine va_get (D := δ) (ci := 6) (v := .int (vTears lv)) (C := RX6) (T := TX6) (N := 34) hx hb hts hinX6 hown hK hP 0 rfl rfl 2 (by decide) (hts (.fieldLink RX6 75 "GloveHoursModel" "tears" "I") (List.mem_of_getElem? (i := 10) rfl)) (fun _ h9 => h9) rfl dX6_doDeed_126 ?_
        refine lv_icmp_lt (tgt := 138) hx hb dX6_doDeed_129 (by decide) (fun c_129 => ?_) (fun c_129 => ?_)
        · have c_129 : (((upd (vWearOf lv) r_107.toNatClampNeg (((vWearOf lv) r_107.toNatClampNeg) + (1 : Int32))) r_121.toNatClampNeg) < (vTears lv)) := c_129
          have hR := hR.trans (if_pos c_129)
          exact hret _ _ ((vCourtiers lv, vClock lv, vTears lv, vLeft lv, vRight lv, vScandals lv, (upd (vWearOf lv) r_107.toNatClampNeg (((vWearOf lv) r_107.toNatClampNeg) + (1 : Int32)))), (((eDeeds dd) + (1 : Int32)), (eDeeds dd), ((eLateMany dd) + (1 : Int32)), (upd (eDeedHour dd) ((eDeeds dd) - (eDeeds dd) / (60 : Int32) * (60 : Int32)).toNatClampNeg ((vRight lv) xc.toNatClampNeg)), (upd (eDeedClock dd) ((eDeeds dd) - (eDeeds dd) / (60 : Int32) * (60 : Int32)).toNatClampNeg (vClock lv)), (upd (eDeedWho dd) ((eDeeds dd) - (eDeeds dd) / (60 : Int32) * (60 : Int32)).toNatClampNeg xc))) _ _ hR hP hD hS dX6_doDeed_138
        · have c_129 : ¬ (((upd (vWearOf lv) r_107.toNatClampNeg (((vWearOf lv) r_107.toNatClampNeg) + (1 : Int32))) r_121.toNatClampNeg) < (vTears lv)) := c_129
          have hR := hR.trans (if_neg c_129)
          refine lv_aload_n hx hb dX6_doDeed_132 rfl (lv_at hl 2 rfl) ?_
          refine lv_iload_n hx hb dX6_doDeed_133 rfl (lv_at hl 3 rfl) ?_
          refine lv_iload_n hx hb dX6_doDeed_134 rfl (lv_at hl 1 rfl) ?_
          have hr := mrV (p := p) (e := e) (R := rm_X6_doDeed) (below := below) (meth := meth) (H := H) (locs := locs) (ls := ls) (As := [.int xc, .int ((vRight lv) xc.toNatClampNeg)]) (rest := []) (c_X6_lose l δ cI cJ cZ aR0 aR1 aR2 aR3 aR4 aR5 aR6 aR7 aR8 aR9 aR10 aR11 aR12 aR13 aR14 aR15 aR16 aR17 aR18 aR19 aR20 aR21 (vCourtiers lv, vClock lv, vTears lv, vLeft lv, vRight lv, vScandals lv, (upd (vWearOf lv) r_107.toNatClampNeg (((vWearOf lv) r_107.toNatClampNeg) + (1 : Int32)))) sg pd ac (((eDeeds dd) + (1 : Int32)), (eDeeds dd), ((eLateMany dd) + (1 : Int32)), (upd (eDeedHour dd) ((eDeeds dd) - (eDeeds dd) / (60 : Int32) * (60 : Int32)).toNatClampNeg ((vRight lv) xc.toNatClampNeg)), (upd (eDeedClock dd) ((eDeeds dd) - (eDeeds dd) / (60 : Int32) * (60 : Int32)).toNatClampNeg (vClock lv)), (upd (eDeedWho dd) ((eDeeds dd) - (eDeeds dd) / (60 : Int32) * (60 : Int32)).toNatClampNeg xc)) hd le bd my lf pa kp xc ((vRight lv) xc.toNatClampNeg) hc hrt) hx hb hml hts hown hK hNW hP hD [0, 1, 2, 3, 4, 5, 6, 7, 8, 9, 10, 11, 12, 13, 14, 15, 16, 17, 18, 19, 20, 21] rfl rfl 6 0 rfl rfl (cwV 2 hts gX6_doDeed_X6_lose rfl rfl rfl (by decide +kernel) ⟨(Nat.le_of_ble_eq_true rfl), (Nat.le_of_ble_eq_true rfl)⟩) rfl hl.1 rfl (Nat.le_of_ble_eq_true rfl) dX6_doDeed_135
          refine mc_v (wr := ([] : va_W)) hr hP hD hS hA [0, 1, 2, 3, 4, 5, 6, 7, 8, 9, 10, 11, 12, 13, 14, 15, 16, 17, 18, 19, 20, 21] [] [0, 1, 2, 3, 4, 5, 6, 7, 8, 9, 10, 11, 12, 13, 14, 15, 16, 17, 18, 19, 20, 21] rfl rfl rfl rfl rfl (wn := fun u_135 => (wR cI cJ cZ aR0 aR1 aR2 aR3 aR4 aR5 aR6 aR7 aR8 aR9 aR10 aR11 aR12 aR13 aR14 aR15 aR16 aR17 aR18 aR19 aR20 aR21 u_135 sg pd ac (((eDeeds dd) + (1 : Int32)), (eDeeds dd), ((eLateMany dd) + (1 : Int32)), (upd (eDeedHour dd) ((eDeeds dd) - (eDeeds dd) / (60 : Int32) * (60 : Int32)).toNatClampNeg ((vRight lv) xc.toNatClampNeg)), (upd (eDeedClock dd) ((eDeeds dd) - (eDeeds dd) / (60 : Int32) * (60 : Int32)).toNatClampNeg (vClock lv)), (upd (eDeedWho dd) ((eDeeds dd) - (eDeeds dd) / (60 : Int32) * (60 : Int32)).toNatClampNeg xc)) hd le bd my lf pa kp)) (fun _ => rfl) (fun u_135 H locs hw_135 hP hD hS => ?_)
          have hP : va_P δ vwCl (wR cI cJ cZ aR0 aR1 aR2 aR3 aR4 aR5 aR6 aR7 aR8 aR9 aR10 aR11 aR12 aR13 aR14 aR15 aR16 aR17 aR18 aR19 aR20 aR21 u_135 sg pd ac (((eDeeds dd) + (1 : Int32)), (eDeeds dd), ((eLateMany dd) + (1 : Int32)), (upd (eDeedHour dd) ((eDeeds dd) - (eDeeds dd) / (60 : Int32) * (60 : Int32)).toNatClampNeg ((vRight lv) xc.toNatClampNeg)), (upd (eDeedClock dd) ((eDeeds dd) - (eDeeds dd) / (60 : Int32) * (60 : Int32)).toNatClampNeg (vClock lv)), (upd (eDeedWho dd) ((eDeeds dd) - (eDeeds dd) / (60 : Int32) * (60 : Int32)).toNatClampNeg xc)) hd le bd my lf pa kp) H := hP
          have hD : va_D A (wR cI cJ cZ aR0 aR1 aR2 aR3 aR4 aR5 aR6 aR7 aR8 aR9 aR10 aR11 aR12 aR13 aR14 aR15 aR16 aR17 aR18 aR19 aR20 aR21 u_135 sg pd ac (((eDeeds dd) + (1 : Int32)), (eDeeds dd), ((eLateMany dd) + (1 : Int32)), (upd (eDeedHour dd) ((eDeeds dd) - (eDeeds dd) / (60 : Int32) * (60 : Int32)).toNatClampNeg ((vRight lv) xc.toNatClampNeg)), (upd (eDeedClock dd) ((eDeeds dd) - (eDeeds dd) / (60 : Int32) * (60 : Int32)).toNatClampNeg (vClock lv)), (upd (eDeedWho dd) ((eDeeds dd) - (eDeeds dd) / (60 : Int32) * (60 : Int32)).toNatClampNeg xc)) hd le bd my lf pa kp) := hD
          have hR := bnd_eq hR hw_135.symm
          exact hret _ _ (u_135, (((eDeeds dd) + (1 : Int32)), (eDeeds dd), ((eLateMany dd) + (1 : Int32)), (upd (eDeedHour dd) ((eDeeds dd) - (eDeeds dd) / (60 : Int32) * (60 : Int32)).toNatClampNeg ((vRight lv) xc.toNatClampNeg)), (upd (eDeedClock dd) ((eDeeds dd) - (eDeeds dd) / (60 : Int32) * (60 : Int32)).toNatClampNeg (vClock lv)), (upd (eDeedWho dd) ((eDeeds dd) - (eDeeds dd) / (60 : Int32) * (60 : Int32)).toNatClampNeg xc))) _ _ hR hP hD hS dX6_doDeed_138
