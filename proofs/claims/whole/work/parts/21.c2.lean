abbrev rm_X0_someLeft : Room := { frames := 0, cells := 0, slots := 0, locals := 0 }
set_option maxHeartbeats 4000000 in
set_option maxRecDepth 100000 in
theorem c_X0_someLeft (l : Launch) (δ : va_G) (cI cJ cZ : ClassId) (aC0 aC1 : Nat) (ch : CS) : mMl l δ (mTy cI cJ cZ) yX0_someLeft wsX0_someLeft rm_X0_someLeft [.ref aC0] (wC cJ aC0 aC1 ch) (S := Unit) (fun r _ => F_X0_someLeft ch = r) (fun _ => (wC cJ aC0 aC1 ch)) := by
  refine mk_l (cc := cX0_someLeft) (maxL := 4) (by decide) rfl (Nat.le_of_ble_eq_true rfl) ?_
  intro p e s m args below meth c A Q ls H locs hx hb hml hts hown hK hNW hA hP hD hS hl hret
  have hown : s.vm.findClass RX0 = some m.cls := hown
  have hl : lv_has ls 4 [(0, .ref aC0)] := hl
  have hinX0 : ∀ w ∈ u_ws RX0 TX0 3, w ∈ wsX0_someLeft := (fun _ h => List.mem_cons_of_mem _ (List.mem_append_right _ (h)))
  have hR := F_X0_someLeft.eq_1 ch
  refine lv_lconst (v := (0 : Int64)) hx hb dX0_someLeft_0 (by decide) ?_
  refine lv_lstore_n (lv' := [(1, .long (0 : Int64)), (0, .ref aC0)]) hx hb dX0_someLeft_1 rfl hl (by decide) rfl (fun ls hl => ?_)
  refine lv_iconst (v := (1 : Int32)) hx hb dX0_someLeft_2 (by decide) ?_
  refine lv_istore_n (lv' := [(3, .int (1 : Int32)), (1, .long (0 : Int64)), (0, .ref aC0)]) hx hb dX0_someLeft_3 rfl hl (by decide) rfl (fun ls hl => ?_)
  have hloop_4 : ∀ (n_4 : Nat) (i_4 : Nat) (v1_4 : Int64) (H : Heap) (locs : List Loc) (ls : Array Slot), (hi_4 : i_4 ≤ 10) → (hn_4 : 10 < i_4 + n_4) → (hP : va_P δ vwCl (wC cJ aC0 aC1 ch) H) → (hD : va_D A (wC cJ aC0 aC1 ch)) → (hS : va_S A s.heap H locs) → (hl : lv_has ls 4 [(3, .int (nI i_4)), (1, .long v1_4), (0, .ref aC0)]) → (kk : ∀ (w_4 : Int64) (H : Heap) (locs : List Loc) (ls : Array Slot), L_X0_someLeft_4 ch n_4 i_4 v1_4 = w_4 → va_P δ vwCl (wC cJ aC0 aC1 ch) H → va_D A (wC cJ aC0 aC1 ch) → va_S A s.heap H locs → lv_has ls 4 [(1, .long w_4), (0, .ref aC0)] → W p l e rm_X0_someLeft s m args below meth c H locs 0 0 Q (F0 m 25 ls [])) → W p l e rm_X0_someLeft s m args below meth c H locs 0 0 Q (F0 m 4 ls []) := by
    intro n_4
    induction n_4 with
    | zero => intro i_4 v1_4 H locs ls hi_4 hn_4 hP hD hS hl kk; exact absurd hn_4 (by omega)
    | succ n_4 ih_4 =>
      intro i_4 v1_4 H locs ls hi_4 hn_4 hP hD hS hl kk
      have hR := L_X0_someLeft_4_s ch n_4 i_4 v1_4
      refine lv_iload_n hx hb dX0_someLeft_4 rfl (lv_at hl 0 rfl) ?_
      refine lv_bipush (v := (10 : Int32)) hx hb dX0_someLeft_5 (by decide) ?_
      refine lv_icmp_ge (tgt := 25) hx hb dX0_someLeft_7 (by decide) (fun c_7 => ?_) (fun c_7 => ?_)
      · have c_7 : ((10 : Int32) ≤ (nI i_4)) := c_7
        have hR := hR.trans (if_pos c_7)
        exact kk v1_4 H locs ls hR hP hD hS (lv_sub hl [1, 2] rfl)
      · have c_7 : ¬ ((10 : Int32) ≤ (nI i_4)) := c_7
        have hR := hR.trans (if_neg c_7)
        have hlt_4 : i_4 < 10 := lt_g c_7 hi_4 (by decide)
        refine lv_lload_n hx hb dX0_someLeft_10 rfl (lv_at hl 1 rfl) ?_
        refine lv_aload_n hx hb dX0_someLeft_11 rfl (lv_at hl 2 rfl) ?_
        refine va_get (D := δ) (ci := 0) (v := .ref aC1) (C := RX0) (T := TX0) (N := 3) hx hb hts hinX0 hown hK hP 0 rfl rfl 2 (by decide) (hts (.fieldLink RX0 9 "GloveHours$Chances" "left" "[J") (List.mem_of_getElem? (i := 1) rfl)) (fun _ h9 => h9) rfl dX0_someLeft_12 ?_
        refine lv_iload_n hx hb dX0_someLeft_15 rfl (lv_at hl 0 rfl) ?_
        refine va_lald hx hb hK hP 1 1 rfl rfl (vp_in_nI (by omega) (by decide)) dX0_someLeft_16 ?_
        refine lv_ladd hx hb dX0_someLeft_17 ?_
        refine lv_lstore_n (lv' := [(1, .long (v1_4 + ((cLeft ch) (nI i_4).toNatClampNeg))), (3, .int (nI i_4)), (0, .ref aC0)]) hx hb dX0_someLeft_18 rfl hl (by decide) rfl (fun ls hl => ?_)
        refine lv_iinc (v := (nI (i_4 + 1))) (lv' := [(3, .int (nI (i_4 + 1))), (1, .long (v1_4 + ((cLeft ch) (nI i_4).toNatClampNeg))), (0, .ref aC0)]) hx hb dX0_someLeft_19 hl (k := 1) rfl (nI_1 i_4) (by decide) rfl (fun ls hl => ?_)
        refine lv_goto (tgt := 4) hx hb dX0_someLeft_22 (by decide) ?_
        exact ih_4 (i_4 + 1) (v1_4 + ((cLeft ch) (nI i_4).toNatClampNeg)) _ _ _ (by omega) (by omega) hP hD hS (lv_sub hl [0, 1, 2] rfl) (fun w_4 H locs ls he hP hD hS hl => kk w_4 H locs ls (hR.trans he) hP hD hS hl)
  refine hloop_4 (10 + 1) 1 (0 : Int64) _ _ _ (by omega) (by omega) hP hD hS (lv_sub hl [0, 1, 2] rfl) (fun w_4 H locs ls hw_4 hP hD hS hl => ?_)
  have hP : va_P δ vwCl (wC cJ aC0 aC1 ch) H := hP
  have hD : va_D A (wC cJ aC0 aC1 ch) := hD
  have hR := bnd_eq hR hw_4.symm
  refine lv_lload_n hx hb dX0_someLeft_25 rfl (lv_at hl 0 rfl) ?_
  exact hret _ _ w_4 () _ _ hR hP hD hS dX0_someLeft_26

abbrev rm_X0_tryDeed : Room := { frames := 0, cells := 0, slots := 0, locals := 0 }
set_option maxHeartbeats 4000000 in
set_option maxRecDepth 100000 in
theorem c_X0_tryDeed (l : Launch) (δ : va_G) (cI cJ cZ : ClassId) (aC0 aC1 : Nat) (ch : CS) (xt : Int32) : mMv l δ (mTy cI cJ cZ) yX0_tryDeed wsX0_tryDeed rm_X0_tryDeed [.ref aC0, .int xt] (wC cJ aC0 aC1 ch) (S := CS) (fun u => F_X0_tryDeed ch xt = u) (fun u => (wC cJ aC0 aC1 u)) := by
  refine mk_v (cc := cX0_tryDeed) (maxL := 3) (by decide) rfl (Nat.le_of_ble_eq_true rfl) ?_
  intro p e s m args below meth c A Q ls H locs hx hb hml hts hown hK hNW hA hP hD hS hl hret
  have hown : s.vm.findClass RX0 = some m.cls := hown
  have hl : lv_has ls 3 [(0, .ref aC0), (1, .int xt)] := hl
  have hinX0 : ∀ w ∈ u_ws RX0 TX0 3, w ∈ wsX0_tryDeed := (fun _ h => List.mem_cons_of_mem _ (List.mem_append_right _ (h)))
  have hR := F_X0_tryDeed.eq_1 ch xt
  refine lv_iconst (v := (1 : Int32)) hx hb dX0_tryDeed_0 (by decide) ?_
  refine lv_istore_n (lv' := [(2, .int (1 : Int32)), (0, .ref aC0), (1, .int xt)]) hx hb dX0_tryDeed_1 rfl hl (by decide) rfl (fun ls hl => ?_)
  have hloop_2 : ∀ (n_2 : Nat) (i_2 : Nat) (ch_2 : CS) (H : Heap) (locs : List Loc) (ls : Array Slot), (hi_2 : i_2 ≤ 10) → (hn_2 : 10 < i_2 + n_2) → (hP : va_P δ vwCl (wC cJ aC0 aC1 ch_2) H) → (hD : va_D A (wC cJ aC0 aC1 ch_2)) → (hS : va_S A s.heap H locs) → (hl : lv_has ls 3 [(2, .int (nI i_2)), (0, .ref aC0), (1, .int xt)]) → (kk : ∀ (w_2 : CS) (H : Heap) (locs : List Loc) (ls : Array Slot), L_X0_tryDeed_2 xt n_2 i_2 ch_2 = w_2 → va_P δ vwCl (wC cJ aC0 aC1 w_2) H → va_D A (wC cJ aC0 aC1 w_2) → va_S A s.heap H locs → lv_has ls 3 [(0, .ref aC0), (1, .int xt)] → W p l e rm_X0_tryDeed s m args below meth c H locs 0 0 Q (F0 m 44 ls [])) → W p l e rm_X0_tryDeed s m args below meth c H locs 0 0 Q (F0 m 2 ls []) := by
    intro n_2
    induction n_2 with
    | zero => intro i_2 ch_2 H locs ls hi_2 hn_2 hP hD hS hl kk; exact absurd hn_2 (by omega)
    | succ n_2 ih_2 =>
      intro i_2 ch_2 H locs ls hi_2 hn_2 hP hD hS hl kk
      have hR := L_X0_tryDeed_2_s xt n_2 i_2 ch_2
      refine lv_iload_n hx hb dX0_tryDeed_2 rfl (lv_at hl 0 rfl) ?_
      refine lv_bipush (v := (10 : Int32)) hx hb dX0_tryDeed_3 (by decide) ?_
      refine lv_icmp_ge (tgt := 44) hx hb dX0_tryDeed_5 (by decide) (fun c_5 => ?_) (fun c_5 => ?_)
      · have c_5 : ((10 : Int32) ≤ (nI i_2)) := c_5
        have hR := hR.trans (if_pos c_5)
        exact kk ch_2 H locs ls hR hP hD hS (lv_sub hl [1, 2] rfl)
      · have c_5 : ¬ ((10 : Int32) ≤ (nI i_2)) := c_5
        have hR := hR.trans (if_neg c_5)
        have hlt_2 : i_2 < 10 := lt_g c_5 hi_2 (by decide)
        refine lv_aload_n hx hb dX0_tryDeed_8 rfl (lv_at hl 1 rfl) ?_
        refine va_get (D := δ) (ci := 0) (v := .ref aC1) (C := RX0) (T := TX0) (N := 3) hx hb hts hinX0 hown hK hP 0 rfl rfl 2 (by decide) (hts (.fieldLink RX0 9 "GloveHours$Chances" "left" "[J") (List.mem_of_getElem? (i := 1) rfl)) (fun _ h9 => h9) rfl dX0_tryDeed_9 ?_
        refine lv_iload_n hx hb dX0_tryDeed_12 rfl (lv_at hl 0 rfl) ?_
        refine lv_bipush (v := (10 : Int32)) hx hb dX0_tryDeed_13 (by decide) ?_
        refine lv_iload_n hx hb dX0_tryDeed_15 rfl (lv_at hl 2 rfl) ?_
        refine lv_isub hx hb dX0_tryDeed_16 ?_
        refine lv_i2l (v := (((10 : Int32) - xt).toInt64)) hx hb dX0_tryDeed_17 rfl ?_
        refine lv_aload_n hx hb dX0_tryDeed_18 rfl (lv_at hl 1 rfl) ?_
        refine va_get (D := δ) (ci := 0) (v := .ref aC1) (C := RX0) (T := TX0) (N := 3) hx hb hts hinX0 hown hK hP 0 rfl rfl 2 (by decide) (hts (.fieldLink RX0 9 "GloveHours$Chances" "left" "[J") (List.mem_of_getElem? (i := 1) rfl)) (fun _ h9 => h9) rfl dX0_tryDeed_19 ?_
        refine lv_iload_n hx hb dX0_tryDeed_22 rfl (lv_at hl 0 rfl) ?_
        refine va_lald hx hb hK hP 1 1 rfl rfl (vp_in_nI (by omega) (by decide)) dX0_tryDeed_23 ?_
        refine lv_lmul hx hb dX0_tryDeed_24 ?_
        refine lv_iload_n hx hb dX0_tryDeed_25 rfl (lv_at hl 2 rfl) ?_
        refine lv_i2l (v := (xt.toInt64)) hx hb dX0_tryDeed_26 rfl ?_
        refine lv_aload_n hx hb dX0_tryDeed_27 rfl (lv_at hl 1 rfl) ?_
        refine va_get (D := δ) (ci := 0) (v := .ref aC1) (C := RX0) (T := TX0) (N := 3) hx hb hts hinX0 hown hK hP 0 rfl rfl 2 (by decide) (hts (.fieldLink RX0 9 "GloveHours$Chances" "left" "[J") (List.mem_of_getElem? (i := 1) rfl)) (fun _ h9 => h9) rfl dX0_tryDeed_28 ?_
        refine lv_iload_n hx hb dX0_tryDeed_31 rfl (lv_at hl 0 rfl) ?_
        refine lv_iconst (v := (1 : Int32)) hx hb dX0_tryDeed_32 (by decide) ?_
        refine lv_iadd hx hb dX0_tryDeed_33 ?_
        refine lv_topi (fun y_33 e_33 => ?_)
        obtain rfl : y_33 = (nI (i_2 + 1)) := e_33.trans (nI_add i_2 1)
        refine va_lald hx hb hK hP 1 1 rfl rfl (vp_in_nI (by omega) (by decide)) dX0_tryDeed_34 ?_
        refine lv_lmul hx hb dX0_tryDeed_35 ?_
        refine lv_ladd hx hb dX0_tryDeed_36 ?_
        refine va_last hx hb hK hP hD hS 1 1 rfl rfl (vp_in_nI (by omega) (by decide)) dX0_tryDeed_37 (fun H locs hP hD hS => ?_)
        have hP : va_P δ vwCl (wC cJ aC0 aC1 (cWhole ch_2, cDeedsDone ch_2, (vp_updL (cLeft ch_2) (nI i_2).toNatClampNeg (((((10 : Int32) - xt).toInt64) * ((cLeft ch_2) (nI i_2).toNatClampNeg)) + ((xt.toInt64) * ((cLeft ch_2) (nI (i_2 + 1)).toNatClampNeg)))))) H := hP
        have hD : va_D A (wC cJ aC0 aC1 (cWhole ch_2, cDeedsDone ch_2, (vp_updL (cLeft ch_2) (nI i_2).toNatClampNeg (((((10 : Int32) - xt).toInt64) * ((cLeft ch_2) (nI i_2).toNatClampNeg)) + ((xt.toInt64) * ((cLeft ch_2) (nI (i_2 + 1)).toNatClampNeg)))))) := hD
        refine lv_iinc (v := (nI (i_2 + 1))) (lv' := [(2, .int (nI (i_2 + 1))), (0, .ref aC0), (1, .int xt)]) hx hb dX0_tryDeed_38 hl (k := 0) rfl (nI_1 i_2) (by decide) rfl (fun ls hl => ?_)
        refine lv_goto (tgt := 2) hx hb dX0_tryDeed_41 (by decide) ?_
        exact ih_2 (i_2 + 1) (cWhole ch_2, cDeedsDone ch_2, (vp_updL (cLeft ch_2) (nI i_2).toNatClampNeg (((((10 : Int32) - xt).toInt64) * ((cLeft ch_2) (nI i_2).toNatClampNeg)) + ((xt.toInt64) * ((cLeft ch_2) (nI (i_2 + 1)).toNatClampNeg))))) _ _ _ (by omega) (by omega) hP hD hS (lv_sub hl [0, 1, 2] rfl) (fun w_2 H locs ls he hP hD hS hl => kk w_2 H locs ls (hR.trans he) hP hD hS hl)
  refine hloop_2 (10 + 1) 1 ch _ _ _ (by omega) (by omega) hP hD hS (lv_sub hl [0, 1, 2] rfl) (fun w_2 H locs ls hw_2 hP hD hS hl => ?_)
  have hP : va_P δ vwCl (wC cJ aC0 aC1 w_2) H := hP
  have hD : va_D A (wC cJ aC0 aC1 w_2) := hD
  have hR := bnd_eq hR hw_2.symm
  exact hret _ _ w_2 _ _ hR hP hD hS dX0_tryDeed_44

abbrev rm_X0_run : Room := { frames := 1, cells := 0, slots := 0, locals := 23 }
set_option maxHeartbeats 4000000 in
set_option maxRecDepth 100000 in
theorem c_X0_run (l : Launch) (δ : va_G) (cI cJ cZ : ClassId) (aC0 aC1 : Nat) (ch : CS) (xp : Int32) (xd : Int32) (xt : Int32) : mMv l δ (mTy cI cJ cZ) yX0_run wsX0_run rm_X0_run [.ref aC0, .int xp, .int xd, .int xt] (wC cJ aC0 aC1 ch) (S := CS) (fun u => F_X0_run ch xp xd xt = u) (fun u => (wC cJ aC0 aC1 u)) := by
  refine mk_v (cc := cX0_run) (maxL := 5) (by decide) rfl (Nat.le_of_ble_eq_true rfl) ?_
  intro p e s m args below meth c A Q ls H locs hx hb hml hts hown hK hNW hA hP hD hS hl hret
  have hown : s.vm.findClass RX0 = some m.cls := hown
  have hl : lv_has ls 5 [(0, .ref aC0), (1, .int xp), (2, .int xd), (3, .int xt)] := hl
  have hinX0 : ∀ w ∈ u_ws RX0 TX0 3, w ∈ wsX0_run := (fun _ h => List.mem_cons_of_mem _ (List.mem_append_right _ (h)))
  have hR := F_X0_run.eq_1 ch xp xd xt
  refine lv_iconst (v := (0 : Int32)) hx hb dX0_run_0 (by decide) ?_
  refine lv_istore (lv' := [(4, .int (0 : Int32)), (0, .ref aC0), (1, .int xp), (2, .int xd), (3, .int xt)]) hx hb dX0_run_1 hl (by decide) rfl (fun ls hl => ?_)
  have hloop_3 : ∀ (n_3 : Nat) (i_3 : Nat) (ch_3 : CS) (H : Heap) (locs : List Loc) (ls : Array Slot), (hi_3 : i_3 ≤ 11) → (hn_3 : 11 < i_3 + n_3) → (hP : va_P δ vwCl (wC cJ aC0 aC1 ch_3) H) → (hD : va_D A (wC cJ aC0 aC1 ch_3)) → (hS : va_S A s.heap H locs) → (hl : lv_has ls 5 [(4, .int (nI i_3)), (0, .ref aC0), (1, .int xp), (2, .int xd), (3, .int xt)]) → (kk : ∀ (w_3 : CS) (H : Heap) (locs : List Loc) (ls : Array Slot), L_X0_run_3 xp n_3 i_3 ch_3 = w_3 → va_P δ vwCl (wC cJ aC0 aC1 w_3) H → va_D A (wC cJ aC0 aC1 w_3) → va_S A s.heap H locs → lv_has ls 5 [(0, .ref aC0), (1, .int xp), (2, .int xd), (3, .int xt)] → W p l e rm_X0_run s m args below meth c H locs 0 0 Q (F0 m 34 ls [])) → W p l e rm_X0_run s m args below meth c H locs 0 0 Q (F0 m 3 ls []) := by
    intro n_3
    induction n_3 with
    | zero => intro i_3 ch_3 H locs ls hi_3 hn_3 hP hD hS hl kk; exact absurd hn_3 (by omega)
    | succ n_3 ih_3 =>
      intro i_3 ch_3 H locs ls hi_3 hn_3 hP hD hS hl kk
      have hR := L_X0_run_3_s xp n_3 i_3 ch_3
      refine lv_iload hx hb dX0_run_3 (lv_at hl 0 rfl) ?_
      refine lv_bipush (v := (11 : Int32)) hx hb dX0_run_5 (by decide) ?_
      refine lv_icmp_ge (tgt := 34) hx hb dX0_run_7 (by decide) (fun c_7 => ?_) (fun c_7 => ?_)
      · have c_7 : ((11 : Int32) ≤ (nI i_3)) := c_7
        have hR := hR.trans (if_pos c_7)
        exact kk ch_3 H locs ls hR hP hD hS (lv_sub hl [1, 2, 3, 4] rfl)
      · have c_7 : ¬ ((11 : Int32) ≤ (nI i_3)) := c_7
        have hR := hR.trans (if_neg c_7)
        have hlt_3 : i_3 < 11 := lt_g c_7 hi_3 (by decide)
        refine lv_aload_n hx hb dX0_run_10 rfl (lv_at hl 1 rfl) ?_
        refine va_get (D := δ) (ci := 0) (v := .ref aC1) (C := RX0) (T := TX0) (N := 3) hx hb hts hinX0 hown hK hP 0 rfl rfl 2 (by decide) (hts (.fieldLink RX0 9 "GloveHours$Chances" "left" "[J") (List.mem_of_getElem? (i := 1) rfl)) (fun _ h9 => h9) rfl dX0_run_11 ?_
        refine lv_iload hx hb dX0_run_14 (lv_at hl 0 rfl) ?_
        refine lv_iload hx hb dX0_run_16 (lv_at hl 0 rfl) ?_
        refine lv_iload_n hx hb dX0_run_18 rfl (lv_at hl 2 rfl) ?_
        refine lv_icmp_ne (tgt := 26) hx hb dX0_run_19 (by decide) (fun c_19 => ?_) (fun c_19 => ?_)
        · have c_19 : ¬ ((nI i_3) = xp) := c_19
          have hR := hR.trans (if_neg c_19)
          refine lv_lconst (v := (0 : Int64)) hx hb dX0_run_26 (by decide) ?_
          refine va_last hx hb hK hP hD hS 1 1 rfl rfl (vp_in_nI (by omega) (by decide)) dX0_run_27 (fun H locs hP hD hS => ?_)
          have hP : va_P δ vwCl (wC cJ aC0 aC1 (cWhole ch_3, cDeedsDone ch_3, (vp_updL (cLeft ch_3) (nI i_3).toNatClampNeg (0 : Int64)))) H := hP
          have hD : va_D A (wC cJ aC0 aC1 (cWhole ch_3, cDeedsDone ch_3, (vp_updL (cLeft ch_3) (nI i_3).toNatClampNeg (0 : Int64)))) := hD
          refine lv_iinc (v := (nI (i_3 + 1))) (lv' := [(4, .int (nI (i_3 + 1))), (0, .ref aC0), (1, .int xp), (2, .int xd), (3, .int xt)]) hx hb dX0_run_28 hl (k := 0) rfl (nI_1 i_3) (by decide) rfl (fun ls hl => ?_)
          refine lv_goto (tgt := 3) hx hb dX0_run_31 (by decide) ?_
          exact ih_3 (i_3 + 1) (cWhole ch_3, cDeedsDone ch_3, (vp_updL (cLeft ch_3) (nI i_3).toNatClampNeg (0 : Int64))) _ _ _ (by omega) (by omega) hP hD hS (lv_sub hl [0, 1, 2, 3, 4] rfl) (fun w_3 H locs ls he hP hD hS hl => kk w_3 H locs ls (hR.trans he) hP hD hS hl)
        · have c_19 : ((nI i_3) = xp) := c_19
          have hR := hR.trans (if_pos c_19)
          refine lv_lconst (v := (1 : Int64)) hx hb dX0_run_22 (by decide) ?_
          refine lv_goto (tgt := 27) hx hb dX0_run_23 (by decide) ?_
          refine va_last hx hb hK hP hD hS 1 1 rfl rfl (vp_in_nI (by omega) (by decide)) dX0_run_27 (fun H locs hP hD hS => ?_)
          have hP : va_P δ vwCl (wC cJ aC0 aC1 (cWhole ch_3, cDeedsDone ch_3, (vp_updL (cLeft ch_3) (nI i_3).toNatClampNeg (1 : Int64)))) H := hP
          have hD : va_D A (wC cJ aC0 aC1 (cWhole ch_3, cDeedsDone ch_3, (vp_updL (cLeft ch_3) (nI i_3).toNatClampNeg (1 : Int64)))) := hD
          refine lv_iinc (v := (nI (i_3 + 1))) (lv' := [(4, .int (nI (i_3 + 1))), (0, .ref aC0), (1, .int xp), (2, .int xd), (3, .int xt)]) hx hb dX0_run_28 hl (k := 0) rfl (nI_1 i_3) (by decide) rfl (fun ls hl => ?_)
          refine lv_goto (tgt := 3) hx hb dX0_run_31 (by decide) ?_
          exact ih_3 (i_3 + 1) (cWhole ch_3, cDeedsDone ch_3, (vp_updL (cLeft ch_3) (nI i_3).toNatClampNeg (1 : Int64))) _ _ _ (by omega) (by omega) hP hD hS (lv_sub hl [0, 1, 2, 3, 4] rfl) (fun w_3 H locs ls he hP hD hS hl => kk w_3 H locs ls (hR.trans he) hP hD hS hl)
  refine hloop_3 (11 + 1) 0 ch _ _ _ (by omega) (by omega) hP hD hS (lv_sub hl [0, 1, 2, 3, 4] rfl) (fun w_3 H locs ls hw_3 hP hD hS hl => ?_)
  have hP : va_P δ vwCl (wC cJ aC0 aC1 w_3) H := hP
  have hD : va_D A (wC cJ aC0 aC1 w_3) := hD
  have hR := bnd_eq hR hw_3.symm
  refine lv_aload_n hx hb dX0_run_34 rfl (lv_at hl 0 rfl) ?_
  refine lv_lconst (v := (1 : Int64)) hx hb dX0_run_35 (by decide) ?_
  refine va_put (D := δ) (ci := 0) (v := .long (1 : Int64)) (ty := .long) (C := RX0) (T := TX0) (N := 3) hx hb hts hinX0 tyX0 tyX0_ok nmX0 hown hK hP hD hS 0 rfl rfl 0 (by decide) (hts (.fieldLink RX0 15 "GloveHours$Chances" "whole" "J") (List.mem_of_getElem? (i := 2) rfl)) (fun _ h9 => h9) rfl (by decide +kernel) rfl rfl (Nat.le_of_ble_eq_true rfl) dX0_run_36 (fun H locs hP hD hS => ?_)
  have hP : va_P δ vwCl (wC cJ aC0 aC1 ((1 : Int64), cDeedsDone w_3, cLeft w_3)) H := hP
  have hD : va_D A (wC cJ aC0 aC1 ((1 : Int64), cDeedsDone w_3, cLeft w_3)) := hD
  refine lv_aload_n hx hb dX0_run_39 rfl (lv_at hl 0 rfl) ?_
  refine lv_lconst (v := (0 : Int64)) hx hb dX0_run_40 (by decide) ?_
  refine va_put (D := δ) (ci := 0) (v := .long (0 : Int64)) (ty := .long) (C := RX0) (T := TX0) (N := 3) hx hb hts hinX0 tyX0 tyX0_ok nmX0 hown hK hP hD hS 0 rfl rfl 1 (by decide) (hts (.fieldLink RX0 19 "GloveHours$Chances" "deedsDone" "J") (List.mem_of_getElem? (i := 3) rfl)) (fun _ h9 => h9) rfl (by decide +kernel) rfl rfl (Nat.le_of_ble_eq_true rfl) dX0_run_41 (fun H locs hP hD hS => ?_)
  have hP : va_P δ vwCl (wC cJ aC0 aC1 ((1 : Int64), (0 : Int64), cLeft w_3)) H := hP
  have hD : va_D A (wC cJ aC0 aC1 ((1 : Int64), (0 : Int64), cLeft w_3)) := hD
  refine lv_iconst (v := (0 : Int32)) hx hb dX0_run_44 (by decide) ?_
  refine lv_istore (lv' := [(4, .int (0 : Int32)), (0, .ref aC0), (1, .int xp), (2, .int xd), (3, .int xt)]) hx hb dX0_run_45 hl (by decide) rfl (fun ls hl => ?_)
  have hloop_47 : ∀ (n_47 : Nat) (i_47 : Nat) (ch_47 : CS) (H : Heap) (locs : List Loc) (ls : Array Slot), (hi_47 : i_47 ≤ xd.toNatClampNeg) → (hn_47 : xd.toNatClampNeg < i_47 + n_47) → (hP : va_P δ vwCl (wC cJ aC0 aC1 ch_47) H) → (hD : va_D A (wC cJ aC0 aC1 ch_47)) → (hS : va_S A s.heap H locs) → (hl : lv_has ls 5 [(4, .int (nI i_47)), (0, .ref aC0), (1, .int xp), (2, .int xd), (3, .int xt)]) → (kk : ∀ (w_47 : CS) (H : Heap) (locs : List Loc) (ls : Array Slot), L_X0_run_47 xd xt n_47 i_47 ch_47 = w_47 → va_P δ vwCl (wC cJ aC0 aC1 w_47) H → va_D A (wC cJ aC0 aC1 w_47) → va_S A s.heap H locs → lv_has ls 5 [(0, .ref aC0), (1, .int xp), (2, .int xd), (3, .int xt)] → W p l e rm_X0_run s m args below meth c H locs 0 0 Q (F0 m 93 ls [])) → W p l e rm_X0_run s m args below meth c H locs 0 0 Q (F0 m 47 ls []) := by
    intro n_47
    induction n_47 with
    | zero => intro i_47 ch_47 H locs ls hi_47 hn_47 hP hD hS hl kk; exact absurd hn_47 (by omega)
    | succ n_47 ih_47 =>
      intro i_47 ch_47 H locs ls hi_47 hn_47 hP hD hS hl kk
      have hR := L_X0_run_47_s xd xt n_47 i_47 ch_47
      refine lv_iload hx hb dX0_run_47 (lv_at hl 0 rfl) ?_
      refine lv_iload_n hx hb dX0_run_49 rfl (lv_at hl 3 rfl) ?_
      refine lv_icmp_ge (tgt := 93) hx hb dX0_run_50 (by decide) (fun c_50 => ?_) (fun c_50 => ?_)
      · have c_50 : (xd ≤ (nI i_47)) := c_50
        have hR := hR.trans (if_pos c_50)
        exact kk ch_47 H locs ls hR hP hD hS (lv_sub hl [1, 2, 3, 4] rfl)
      · have c_50 : ¬ (xd ≤ (nI i_47)) := c_50
        have hR := hR.trans (if_neg c_50)
        have hlt_47 : i_47 < xd.toNatClampNeg := lt_c c_50 hi_47
        refine lv_aload_n hx hb dX0_run_53 rfl (lv_at hl 1 rfl) ?_
        refine lv_ldc2 (v := (10 : Int64)) hx hb hown (hts (.constantLong RX0 22 (10)) (List.mem_of_getElem? (i := 4) rfl)) dX0_run_54 ?_
        refine lv_aload_n hx hb dX0_run_57 rfl (lv_at hl 1 rfl) ?_
        refine va_get (D := δ) (ci := 0) (v := .long (cDeedsDone ch_47)) (C := RX0) (T := TX0) (N := 3) hx hb hts hinX0 hown hK hP 0 rfl rfl 1 (by decide) (hts (.fieldLink RX0 19 "GloveHours$Chances" "deedsDone" "J") (List.mem_of_getElem? (i := 3) rfl)) (fun _ h9 => h9) rfl dX0_run_58 ?_
        refine lv_aload_n hx hb dX0_run_61 rfl (lv_at hl 1 rfl) ?_
        have hr := mrV (p := p) (e := e) (R := rm_X0_run) (below := below) (meth := meth) (H := H) (locs := locs) (ls := ls) (As := []) (rest := [.long (cDeedsDone ch_47), .long (10 : Int64), .ref aC0]) (c_X0_someLeft l δ cI cJ cZ aC0 aC1 ch_47) hx hb hml hts hown hK hNW hP hD [0, 1] rfl rfl 0 0 rfl rfl (cwV 0 hts gX0_run_X0_someLeft rfl rfl rfl (by decide +kernel) ⟨(Nat.le_of_ble_eq_true rfl), (Nat.le_of_ble_eq_true rfl)⟩) rfl hl.1 rfl (Nat.le_of_ble_eq_true rfl) dX0_run_62
        refine mc_l (wr := ([] : va_W)) hr hP hD hS hA [0, 1] [] [0, 1] rfl rfl rfl rfl rfl (wn := fun _ => (wC cJ aC0 aC1 ch_47)) (fun _ => rfl) (fun r_62 _ H locs hw_62 hP hD hS => ?_)
        have hP : va_P δ vwCl (wC cJ aC0 aC1 ch_47) H := hP
        have hD : va_D A (wC cJ aC0 aC1 ch_47) := hD
        have hR := bnd_eq hR hw_62.symm
        refine lv_ladd hx hb dX0_run_65 ?_
        refine lv_lmul hx hb dX0_run_66 ?_
        refine va_put (D := δ) (ci := 0) (v := .long ((10 : Int64) * ((cDeedsDone ch_47) + r_62))) (ty := .long) (C := RX0) (T := TX0) (N := 3) hx hb hts hinX0 tyX0 tyX0_ok nmX0 hown hK hP hD hS 0 rfl rfl 1 (by decide) (hts (.fieldLink RX0 19 "GloveHours$Chances" "deedsDone" "J") (List.mem_of_getElem? (i := 3) rfl)) (fun _ h9 => h9) rfl (by decide +kernel) rfl rfl (Nat.le_of_ble_eq_true rfl) dX0_run_67 (fun H locs hP hD hS => ?_)
        have hP : va_P δ vwCl (wC cJ aC0 aC1 (cWhole ch_47, ((10 : Int64) * ((cDeedsDone ch_47) + r_62)), cLeft ch_47)) H := hP
        have hD : va_D A (wC cJ aC0 aC1 (cWhole ch_47, ((10 : Int64) * ((cDeedsDone ch_47) + r_62)), cLeft ch_47)) := hD
        refine lv_aload_n hx hb dX0_run_70 rfl (lv_at hl 1 rfl) ?_
        refine lv_dup hx hb dX0_run_71 rfl ?_
        refine va_get (D := δ) (ci := 0) (v := .long (cWhole ch_47)) (C := RX0) (T := TX0) (N := 3) hx hb hts hinX0 hown hK hP 0 rfl rfl 0 (by decide) (hts (.fieldLink RX0 15 "GloveHours$Chances" "whole" "J") (List.mem_of_getElem? (i := 2) rfl)) (fun _ h9 => h9) rfl dX0_run_72 ?_
        refine lv_ldc2 (v := (10 : Int64)) hx hb hown (hts (.constantLong RX0 22 (10)) (List.mem_of_getElem? (i := 4) rfl)) dX0_run_75 ?_
        refine lv_lmul hx hb dX0_run_78 ?_
        refine va_put (D := δ) (ci := 0) (v := .long ((cWhole ch_47) * (10 : Int64))) (ty := .long) (C := RX0) (T := TX0) (N := 3) hx hb hts hinX0 tyX0 tyX0_ok nmX0 hown hK hP hD hS 0 rfl rfl 0 (by decide) (hts (.fieldLink RX0 15 "GloveHours$Chances" "whole" "J") (List.mem_of_getElem? (i := 2) rfl)) (fun _ h9 => h9) rfl (by decide +kernel) rfl rfl (Nat.le_of_ble_eq_true rfl) dX0_run_79 (fun H locs hP hD hS => ?_)
        have hP : va_P δ vwCl (wC cJ aC0 aC1 (((cWhole ch_47) * (10 : Int64)), ((10 : Int64) * ((cDeedsDone ch_47) + r_62)), cLeft ch_47)) H := hP
        have hD : va_D A (wC cJ aC0 aC1 (((cWhole ch_47) * (10 : Int64)), ((10 : Int64) * ((cDeedsDone ch_47) + r_62)), cLeft ch_47)) := hD
        refine lv_aload_n hx hb dX0_run_82 rfl (lv_at hl 1 rfl) ?_
        refine lv_iload_n hx hb dX0_run_83 rfl (lv_at hl 4 rfl) ?_
        have hr := mrV (p := p) (e := e) (R := rm_X0_run) (below := below) (meth := meth) (H := H) (locs := locs) (ls := ls) (As := [.int xt]) (rest := []) (c_X0_tryDeed l δ cI cJ cZ aC0 aC1 (((cWhole ch_47) * (10 : Int64)), ((10 : Int64) * ((cDeedsDone ch_47) + r_62)), cLeft ch_47) xt) hx hb hml hts hown hK hNW hP hD [0, 1] rfl rfl 0 0 rfl rfl (cwV 1 hts gX0_run_X0_tryDeed rfl rfl rfl (by decide +kernel) ⟨(Nat.le_of_ble_eq_true rfl), (Nat.le_of_ble_eq_true rfl)⟩) rfl hl.1 rfl (Nat.le_of_ble_eq_true rfl) dX0_run_84
        refine mc_v (wr := ([] : va_W)) hr hP hD hS hA [0, 1] [] [0, 1] rfl rfl rfl rfl rfl (wn := fun u_84 => (wC cJ aC0 aC1 u_84)) (fun _ => rfl) (fun u_84 H locs hw_84 hP hD hS => ?_)
        have hP : va_P δ vwCl (wC cJ aC0 aC1 u_84) H := hP
        have hD : va_D A (wC cJ aC0 aC1 u_84) := hD
        have hR := bnd_eq hR hw_84.symm
        refine lv_iinc (v := (nI (i_47 + 1))) (lv' := [(4, .int (nI (i_47 + 1))), (0, .ref aC0), (1, .int xp), (2, .int xd), (3, .int xt)]) hx hb dX0_run_87 hl (k := 0) rfl (nI_1 i_47) (by decide) rfl (fun ls hl => ?_)
        refine lv_goto (tgt := 47) hx hb dX0_run_90 (by decide) ?_
        exact ih_47 (i_47 + 1) u_84 _ _ _ (by omega) (by omega) hP hD hS (lv_sub hl [0, 1, 2, 3, 4] rfl) (fun w_47 H locs ls he hP hD hS hl => kk w_47 H locs ls (hR.trans he) hP hD hS hl)
  refine hloop_47 (xd.toNatClampNeg + 1) 0 ((1 : Int64), (0 : Int64), cLeft w_3) _ _ _ (by omega) (by omega) hP hD hS (lv_sub hl [0, 1, 2, 3, 4] rfl) (fun w_47 H locs ls hw_47 hP hD hS hl => ?_)
  have hP : va_P δ vwCl (wC cJ aC0 aC1 w_47) H := hP
  have hD : va_D A (wC cJ aC0 aC1 w_47) := hD
  have hR := bnd_eq hR hw_47.symm
  exact hret _ _ w_47 _ _ hR hP hD hS dX0_run_93

abbrev rm_X4_isLetter : Room := { frames := 0, cells := 0, slots := 0, locals := 0 }
set_option maxHeartbeats 4000000 in
set_option maxRecDepth 100000 in
theorem c_X4_isLetter (l : Launch) (δ : va_G) (cI cJ cZ : ClassId) (xs : Int32) : mMi l δ (mTy cI cJ cZ) yX4_isLetter wsX4_isLetter rm_X4_isLetter [.int xs] ([] : va_W) (S := Unit) (fun r _ => F_X4_isLetter xs = r ∧ mZ r) (fun _ => ([] : va_W)) := by
  refine mk_z (post := fun r _ => F_X4_isLetter xs = r) (cc := cX4_isLetter) (maxL := 1) (by decide) rfl (Nat.le_of_ble_eq_true rfl) ?_
  intro p e s m args below meth c A Q ls H locs hx hb hml hts hown hK hNW hA hP hD hS hl hret
  have hown : s.vm.findClass RX4 = some m.cls := hown
  have hl : lv_has ls 1 [(0, .int xs)] := hl
  have hR := F_X4_isLetter.eq_1 xs
  refine lv_iload_n hx hb dX4_isLetter_0 rfl (lv_at hl 0 rfl) ?_
  refine lv_bipush (v := (65 : Int32)) hx hb dX4_isLetter_1 (by decide) ?_
  refine lv_icmp_lt (tgt := 16) hx hb dX4_isLetter_3 (by decide) (fun c_3 => ?_) (fun c_3 => ?_)
  · have c_3 : (xs < (65 : Int32)) := c_3
    have hR := hR.trans (if_pos c_3)
    refine lv_iconst (v := (0 : Int32)) hx hb dX4_isLetter_16 (by decide) ?_
    exact hret _ _ (0 : Int32) () _ _ hR (Or.inl rfl) hP hD hS dX4_isLetter_17
  · have c_3 : ¬ (xs < (65 : Int32)) := c_3
    have hR := hR.trans (if_neg c_3)
    refine lv_iload_n hx hb dX4_isLetter_6 rfl (lv_at hl 0 rfl) ?_
    refine lv_bipush (v := (71 : Int32)) hx hb dX4_isLetter_7 (by decide) ?_
    refine lv_icmp_ge (tgt := 16) hx hb dX4_isLetter_9 (by decide) (fun c_9 => ?_) (fun c_9 => ?_)
    · have c_9 : ((71 : Int32) ≤ xs) := c_9
      have hR := hR.trans (if_pos c_9)
      refine lv_iconst (v := (0 : Int32)) hx hb dX4_isLetter_16 (by decide) ?_
      exact hret _ _ (0 : Int32) () _ _ hR (Or.inl rfl) hP hD hS dX4_isLetter_17
    · have c_9 : ¬ ((71 : Int32) ≤ xs) := c_9
      have hR := hR.trans (if_neg c_9)
      refine lv_iconst (v := (1 : Int32)) hx hb dX4_isLetter_12 (by decide) ?_
      refine lv_goto (tgt := 17) hx hb dX4_isLetter_13 (by decide) ?_
      exact hret _ _ (1 : Int32) () _ _ hR (Or.inr rfl) hP hD hS dX4_isLetter_17

abbrev rm_X4_nextBehindLetter : Room := { frames := 1, cells := 0, slots := 0, locals := 20 }
set_option maxHeartbeats 4000000 in
set_option maxRecDepth 100000 in
theorem c_X4_nextBehindLetter (l : Launch) (δ : va_G) (cI cJ cZ : ClassId) (xs : Int32) : mMi l δ (mTy cI cJ cZ) yX4_nextBehindLetter wsX4_nextBehindLetter rm_X4_nextBehindLetter [.int xs] ([] : va_W) (S := Unit) (fun r _ => F_X4_nextBehindLetter xs = r) (fun _ => ([] : va_W)) := by
  refine mk_i (cc := cX4_nextBehindLetter) (maxL := 1) (by decide) rfl (Nat.le_of_ble_eq_true rfl) ?_
  intro p e s m args below meth c A Q ls H locs hx hb hml hts hown hK hNW hA hP hD hS hl hret
  have hown : s.vm.findClass RX4 = some m.cls := hown
  have hl : lv_has ls 1 [(0, .int xs)] := hl
  have hR := F_X4_nextBehindLetter.eq_1 xs
  refine lv_iload_n hx hb dX4_nextBehindLetter_0 rfl (lv_at hl 0 rfl) ?_
  by_cases c_1_33 : xs = (33 : Int32)
  · have hR := hR.trans (if_pos c_1_33)
    refine lv_lookup (tgt := 56) (off := 55) hx hb dX4_nextBehindLetter_1 (by decide) (by rw [c_1_33]; rfl) (by decide) ?_
    refine lv_iconst (v := (0 : Int32)) hx hb dX4_nextBehindLetter_56 (by decide) ?_
    exact hret _ _ (0 : Int32) () _ _ hR hP hD hS dX4_nextBehindLetter_57
  have hR := hR.trans (if_neg c_1_33)
  by_cases c_1_48 : xs = (48 : Int32)
  · have hR := hR.trans (if_pos c_1_48)
    refine lv_lookup (tgt := 56) (off := 55) hx hb dX4_nextBehindLetter_1 (by decide) (by rw [c_1_48]; rfl) (by decide) ?_
    refine lv_iconst (v := (0 : Int32)) hx hb dX4_nextBehindLetter_56 (by decide) ?_
    exact hret _ _ (0 : Int32) () _ _ hR hP hD hS dX4_nextBehindLetter_57
  have hR := hR.trans (if_neg c_1_48)
  by_cases c_1_62 : xs = (62 : Int32)
  · have hR := hR.trans (if_pos c_1_62)
    refine lv_lookup (tgt := 54) (off := 53) hx hb dX4_nextBehindLetter_1 (by decide) (by rw [c_1_62]; rfl) (by decide) ?_
    refine lv_iconst (v := (5 : Int32)) hx hb dX4_nextBehindLetter_54 (by decide) ?_
    exact hret _ _ (5 : Int32) () _ _ hR hP hD hS dX4_nextBehindLetter_55
  have hR := hR.trans (if_neg c_1_62)
  by_cases c_1_108 : xs = (108 : Int32)
  · have hR := hR.trans (if_pos c_1_108)
    refine lv_lookup (tgt := 52) (off := 51) hx hb dX4_nextBehindLetter_1 (by decide) (by rw [c_1_108]; rfl) (by decide) ?_
    refine lv_iconst (v := (2 : Int32)) hx hb dX4_nextBehindLetter_52 (by decide) ?_
    exact hret _ _ (2 : Int32) () _ _ hR hP hD hS dX4_nextBehindLetter_53
  have hR := hR.trans (if_neg c_1_108)
  by_cases c_1_114 : xs = (114 : Int32)
  · have hR := hR.trans (if_pos c_1_114)
    refine lv_lookup (tgt := 52) (off := 51) hx hb dX4_nextBehindLetter_1 (by decide) (by rw [c_1_114]; rfl) (by decide) ?_
    refine lv_iconst (v := (2 : Int32)) hx hb dX4_nextBehindLetter_52 (by decide) ?_
    exact hret _ _ (2 : Int32) () _ _ hR hP hD hS dX4_nextBehindLetter_53
  have hR := hR.trans (if_neg c_1_114)
  refine lv_lookup (tgt := 58) (off := 57) hx hb dX4_nextBehindLetter_1 (by decide) (by have e0 : ¬ xs.toInt = 33 := fun e => c_1_33 (Int32.toInt_inj.mp e); have e1 : ¬ xs.toInt = 48 := fun e => c_1_48 (Int32.toInt_inj.mp e); have e2 : ¬ xs.toInt = 62 := fun e => c_1_62 (Int32.toInt_inj.mp e); have e3 : ¬ xs.toInt = 108 := fun e => c_1_108 (Int32.toInt_inj.mp e); have e4 : ¬ xs.toInt = 114 := fun e => c_1_114 (Int32.toInt_inj.mp e); simp [Op.lookupswitch.offset, e0, Ne.symm e0, e1, Ne.symm e1, e2, Ne.symm e2, e3, Ne.symm e3, e4, Ne.symm e4]) (by decide) ?_
  refine lv_iload_n hx hb dX4_nextBehindLetter_58 rfl (lv_at hl 0 rfl) ?_
  have hr := mrS (p := p) (e := e) (R := rm_X4_nextBehindLetter) (below := below) (meth := meth) (H := H) (locs := locs) (ls := ls) (As := [.int xs]) (rest := []) (c_X4_isLetter l δ cI cJ cZ xs) hx hb hml hts hown hK hNW hP hD [] rfl rfl (va_cwS 1 hts gX4_nextBehindLetter_X4_isLetter rfl rfl rfl (by decide +kernel) ⟨(Nat.le_of_ble_eq_true rfl), (Nat.le_of_ble_eq_true rfl)⟩) rfl hl.1 rfl (Nat.le_of_ble_eq_true rfl) dX4_nextBehindLetter_59
  refine mc_i (wr := ([] : va_W)) hr hP hD hS hA [] [] [] rfl rfl rfl rfl rfl (wn := fun _ => ([] : va_W)) (fun _ => rfl) (fun r_59 _ H locs hw_59 hP hD hS => ?_)
  obtain ⟨hw_59, z_59⟩ := hw_59
  have hP : va_P δ vwCl ([] : va_W) H := hP
  have hD : va_D A ([] : va_W) := hD
  have hR := bnd_eq hR hw_59.symm
  refine lv_if_eq (tgt := 69) hx hb dX4_nextBehindLetter_62 (by decide) (fun c_62 => ?_) (fun c_62 => ?_)
  · have c_62 : (r_59 = 0) := c_62
    have hR := hR.trans (if_pos c_62)
    refine lv_iconst (v := (-1 : Int32)) hx hb dX4_nextBehindLetter_69 (by decide) ?_
    exact hret _ _ (-1 : Int32) () _ _ hR hP hD hS dX4_nextBehindLetter_70
  · have c_62 : ¬ (r_59 = 0) := c_62
    have hR := hR.trans (if_neg c_62)
    refine lv_iconst (v := (0 : Int32)) hx hb dX4_nextBehindLetter_65 (by decide) ?_
    refine lv_goto (tgt := 70) hx hb dX4_nextBehindLetter_66 (by decide) ?_
    exact hret _ _ (0 : Int32) () _ _ hR hP hD hS dX4_nextBehindLetter_70

abbrev rm_X4_nextBehind : Room := { frames := 2, cells := 0, slots := 0, locals := 40 }
set_option maxHeartbeats 4000000 in
set_option maxRecDepth 100000 in
theorem c_X4_nextBehind (l : Launch) (δ : va_G) (cI cJ cZ : ClassId) (xe : Int32) (xs : Int32) : mMi l δ (mTy cI cJ cZ) yX4_nextBehind wsX4_nextBehind rm_X4_nextBehind [.int xe, .int xs] ([] : va_W) (S := Unit) (fun r _ => F_X4_nextBehind xe xs = r) (fun _ => ([] : va_W)) := by
  refine mk_i (cc := cX4_nextBehind) (maxL := 2) (by decide) rfl (Nat.le_of_ble_eq_true rfl) ?_
  intro p e s m args below meth c A Q ls H locs hx hb hml hts hown hK hNW hA hP hD hS hl hret
  have hown : s.vm.findClass RX4 = some m.cls := hown
  have hl : lv_has ls 2 [(0, .int xe), (1, .int xs)] := hl
  have hR := F_X4_nextBehind.eq_1 xe xs
  refine lv_iload_n hx hb dX4_nextBehind_0 rfl (lv_at hl 0 rfl) ?_
  by_cases c_1_0 : xe = (0 : Int32)
  · have hR := hR.trans (if_pos c_1_0)
    refine lv_tableIn (tgt := 36) (off := 35) hx hb dX4_nextBehind_1 (by rw [c_1_0]; decide) (by rw [c_1_0]; decide) (by rw [c_1_0]; rfl) (by decide) ?_
    refine lv_iload_n hx hb dX4_nextBehind_36 rfl (lv_at hl 1 rfl) ?_
    refine lv_bipush (v := (46 : Int32)) hx hb dX4_nextBehind_37 (by decide) ?_
    refine lv_icmp_ne (tgt := 46) hx hb dX4_nextBehind_39 (by decide) (fun c_39 => ?_) (fun c_39 => ?_)
    · have c_39 : ¬ (xs = (46 : Int32)) := c_39
      have hR := hR.trans (if_neg c_39)
      refine lv_iload_n hx hb dX4_nextBehind_46 rfl (lv_at hl 1 rfl) ?_
      have hr := mrS (p := p) (e := e) (R := rm_X4_nextBehind) (below := below) (meth := meth) (H := H) (locs := locs) (ls := ls) (As := [.int xs]) (rest := []) (c_X4_isLetter l δ cI cJ cZ xs) hx hb hml hts hown hK hNW hP hD [] rfl rfl (va_cwS 1 hts gX4_nextBehind_X4_isLetter rfl rfl rfl (by decide +kernel) ⟨(Nat.le_of_ble_eq_true rfl), (Nat.le_of_ble_eq_true rfl)⟩) rfl hl.1 rfl (Nat.le_of_ble_eq_true rfl) dX4_nextBehind_47
      refine mc_i (wr := ([] : va_W)) hr hP hD hS hA [] [] [] rfl rfl rfl rfl rfl (wn := fun _ => ([] : va_W)) (fun _ => rfl) (fun r_47 _ H locs hw_47 hP hD hS => ?_)
      obtain ⟨hw_47, z_47⟩ := hw_47
      have hP : va_P δ vwCl ([] : va_W) H := hP
      have hD : va_D A ([] : va_W) := hD
      have hR := bnd_eq hR hw_47.symm
      refine lv_if_eq (tgt := 57) hx hb dX4_nextBehind_50 (by decide) (fun c_50 => ?_) (fun c_50 => ?_)
      · have c_50 : (r_47 = 0) := c_50
        have hR := hR.trans (if_pos c_50)
        refine lv_iconst (v := (-1 : Int32)) hx hb dX4_nextBehind_57 (by decide) ?_
        exact hret _ _ (-1 : Int32) () _ _ hR hP hD hS dX4_nextBehind_58
      · have c_50 : ¬ (r_47 = 0) := c_50
        have hR := hR.trans (if_neg c_50)
        refine lv_iconst (v := (1 : Int32)) hx hb dX4_nextBehind_53 (by decide) ?_
        refine lv_goto (tgt := 58) hx hb dX4_nextBehind_54 (by decide) ?_
        exact hret _ _ (1 : Int32) () _ _ hR hP hD hS dX4_nextBehind_58
    · have c_39 : (xs = (46 : Int32)) := c_39
      have hR := hR.trans (if_pos c_39)
      refine lv_iconst (v := (0 : Int32)) hx hb dX4_nextBehind_42 (by decide) ?_
      refine lv_goto (tgt := 58) hx hb dX4_nextBehind_43 (by decide) ?_
      exact hret _ _ (0 : Int32) () _ _ hR hP hD hS dX4_nextBehind_58
  have hR := hR.trans (if_neg c_1_0)
  by_cases c_1_1 : xe = (1 : Int32)
  · have hR := hR.trans (if_pos c_1_1)
    refine lv_tableIn (tgt := 59) (off := 58) hx hb dX4_nextBehind_1 (by rw [c_1_1]; decide) (by rw [c_1_1]; decide) (by rw [c_1_1]; rfl) (by decide) ?_
    refine lv_iload_n hx hb dX4_nextBehind_59 rfl (lv_at hl 1 rfl) ?_
    have hr := mrS (p := p) (e := e) (R := rm_X4_nextBehind) (below := below) (meth := meth) (H := H) (locs := locs) (ls := ls) (As := [.int xs]) (rest := []) (c_X4_nextBehindLetter l δ cI cJ cZ xs) hx hb hml hts hown hK hNW hP hD [] rfl rfl (va_cwS 1 hts gX4_nextBehind_X4_nextBehindLetter rfl rfl rfl (by decide +kernel) ⟨(Nat.le_of_ble_eq_true rfl), (Nat.le_of_ble_eq_true rfl)⟩) rfl hl.1 rfl (Nat.le_of_ble_eq_true rfl) dX4_nextBehind_60
    refine mc_i (wr := ([] : va_W)) hr hP hD hS hA [] [] [] rfl rfl rfl rfl rfl (wn := fun _ => ([] : va_W)) (fun _ => rfl) (fun r_60 _ H locs hw_60 hP hD hS => ?_)
    have hP : va_P δ vwCl ([] : va_W) H := hP
    have hD : va_D A ([] : va_W) := hD
    have hR := bnd_eq hR hw_60.symm
    exact hret _ _ r_60 () _ _ hR hP hD hS dX4_nextBehind_63
  have hR := hR.trans (if_neg c_1_1)
  by_cases c_1_2 : xe = (2 : Int32)
  · have hR := hR.trans (if_pos c_1_2)
    refine lv_tableIn (tgt := 64) (off := 63) hx hb dX4_nextBehind_1 (by rw [c_1_2]; decide) (by rw [c_1_2]; decide) (by rw [c_1_2]; rfl) (by decide) ?_
    refine lv_iload_n hx hb dX4_nextBehind_64 rfl (lv_at hl 1 rfl) ?_
    refine lv_bipush (v := (50 : Int32)) hx hb dX4_nextBehind_65 (by decide) ?_
    refine lv_icmp_ne (tgt := 74) hx hb dX4_nextBehind_67 (by decide) (fun c_67 => ?_) (fun c_67 => ?_)
    · have c_67 : ¬ (xs = (50 : Int32)) := c_67
      have hR := hR.trans (if_neg c_67)
      refine lv_iload_n hx hb dX4_nextBehind_74 rfl (lv_at hl 1 rfl) ?_
      refine lv_bipush (v := (48 : Int32)) hx hb dX4_nextBehind_75 (by decide) ?_
      refine lv_bipush (v := (49 : Int32)) hx hb dX4_nextBehind_77 (by decide) ?_
      have hr := mrN (p := p) (e := e) (R := rm_X4_nextBehind) (below := below) (meth := meth) (H := H) (locs := locs) (ls := ls) (As := [.int xs, .int (48 : Int32), .int (49 : Int32)]) (rest := []) (c_X5_isWithin l δ cI cJ cZ xs (48 : Int32) (49 : Int32)) hx hb hml hts hown hK hNW hP hD [] rfl rfl (va_cnB 3 hts gX4_nextBehind_X5_isWithin_n19 rfl rfl rfl hNW.2.2.2.2 (hts (.initialized RX5) (List.mem_of_getElem? (i := 9) rfl)) (by decide +kernel) ⟨(Nat.le_of_ble_eq_true rfl), (Nat.le_of_ble_eq_true rfl)⟩) (hts (.static yX5_isWithin) (List.mem_of_getElem? (i := 8) rfl)) rfl hl.1 rfl (Nat.le_of_ble_eq_true rfl) dX4_nextBehind_79
      refine mc_i (wr := ([] : va_W)) hr hP hD hS hA [] [] [] rfl rfl rfl rfl rfl (wn := fun _ => ([] : va_W)) (fun _ => rfl) (fun r_79 _ H locs hw_79 hP hD hS => ?_)
      obtain ⟨hw_79, z_79⟩ := hw_79
      have hP : va_P δ vwCl ([] : va_W) H := hP
      have hD : va_D A ([] : va_W) := hD
      have hR := bnd_eq hR hw_79.symm
      refine lv_if_eq (tgt := 89) hx hb dX4_nextBehind_82 (by decide) (fun c_82 => ?_) (fun c_82 => ?_)
      · have c_82 : (r_79 = 0) := c_82
        have hR := hR.trans (if_pos c_82)
        refine lv_iconst (v := (-1 : Int32)) hx hb dX4_nextBehind_89 (by decide) ?_
        exact hret _ _ (-1 : Int32) () _ _ hR hP hD hS dX4_nextBehind_90
      · have c_82 : ¬ (r_79 = 0) := c_82
        have hR := hR.trans (if_neg c_82)
        refine lv_iconst (v := (3 : Int32)) hx hb dX4_nextBehind_85 (by decide) ?_
        refine lv_goto (tgt := 90) hx hb dX4_nextBehind_86 (by decide) ?_
        exact hret _ _ (3 : Int32) () _ _ hR hP hD hS dX4_nextBehind_90
    · have c_67 : (xs = (50 : Int32)) := c_67
      have hR := hR.trans (if_pos c_67)
      refine lv_iconst (v := (4 : Int32)) hx hb dX4_nextBehind_70 (by decide) ?_
      refine lv_goto (tgt := 90) hx hb dX4_nextBehind_71 (by decide) ?_
      exact hret _ _ (4 : Int32) () _ _ hR hP hD hS dX4_nextBehind_90
  have hR := hR.trans (if_neg c_1_2)
  by_cases c_1_3 : xe = (3 : Int32)
  · have hR := hR.trans (if_pos c_1_3)
    refine lv_tableIn (tgt := 91) (off := 90) hx hb dX4_nextBehind_1 (by rw [c_1_3]; decide) (by rw [c_1_3]; decide) (by rw [c_1_3]; rfl) (by decide) ?_
    refine lv_iload_n hx hb dX4_nextBehind_91 rfl (lv_at hl 1 rfl) ?_
    refine lv_bipush (v := (48 : Int32)) hx hb dX4_nextBehind_92 (by decide) ?_
    refine lv_bipush (v := (57 : Int32)) hx hb dX4_nextBehind_94 (by decide) ?_
    have hr := mrN (p := p) (e := e) (R := rm_X4_nextBehind) (below := below) (meth := meth) (H := H) (locs := locs) (ls := ls) (As := [.int xs, .int (48 : Int32), .int (57 : Int32)]) (rest := []) (c_X5_isWithin l δ cI cJ cZ xs (48 : Int32) (57 : Int32)) hx hb hml hts hown hK hNW hP hD [] rfl rfl (va_cnB 3 hts gX4_nextBehind_X5_isWithin_n19 rfl rfl rfl hNW.2.2.2.2 (hts (.initialized RX5) (List.mem_of_getElem? (i := 9) rfl)) (by decide +kernel) ⟨(Nat.le_of_ble_eq_true rfl), (Nat.le_of_ble_eq_true rfl)⟩) (hts (.static yX5_isWithin) (List.mem_of_getElem? (i := 8) rfl)) rfl hl.1 rfl (Nat.le_of_ble_eq_true rfl) dX4_nextBehind_96
    refine mc_i (wr := ([] : va_W)) hr hP hD hS hA [] [] [] rfl rfl rfl rfl rfl (wn := fun _ => ([] : va_W)) (fun _ => rfl) (fun r_96 _ H locs hw_96 hP hD hS => ?_)
    obtain ⟨hw_96, z_96⟩ := hw_96
    have hP : va_P δ vwCl ([] : va_W) H := hP
    have hD : va_D A ([] : va_W) := hD
    have hR := bnd_eq hR hw_96.symm
    refine lv_if_eq (tgt := 106) hx hb dX4_nextBehind_99 (by decide) (fun c_99 => ?_) (fun c_99 => ?_)
    · have c_99 : (r_96 = 0) := c_99
      have hR := hR.trans (if_pos c_99)
      refine lv_iconst (v := (-1 : Int32)) hx hb dX4_nextBehind_106 (by decide) ?_
      exact hret _ _ (-1 : Int32) () _ _ hR hP hD hS dX4_nextBehind_107
    · have c_99 : ¬ (r_96 = 0) := c_99
      have hR := hR.trans (if_neg c_99)
      refine lv_iconst (v := (0 : Int32)) hx hb dX4_nextBehind_102 (by decide) ?_
      refine lv_goto (tgt := 107) hx hb dX4_nextBehind_103 (by decide) ?_
      exact hret _ _ (0 : Int32) () _ _ hR hP hD hS dX4_nextBehind_107
  have hR := hR.trans (if_neg c_1_3)
  by_cases c_1_4 : xe = (4 : Int32)
  · have hR := hR.trans (if_pos c_1_4)
    refine lv_tableIn (tgt := 108) (off := 107) hx hb dX4_nextBehind_1 (by rw [c_1_4]; decide) (by rw [c_1_4]; decide) (by rw [c_1_4]; rfl) (by decide) ?_
    refine lv_iload_n hx hb dX4_nextBehind_108 rfl (lv_at hl 1 rfl) ?_
    refine lv_bipush (v := (48 : Int32)) hx hb dX4_nextBehind_109 (by decide) ?_
    refine lv_bipush (v := (51 : Int32)) hx hb dX4_nextBehind_111 (by decide) ?_
    have hr := mrN (p := p) (e := e) (R := rm_X4_nextBehind) (below := below) (meth := meth) (H := H) (locs := locs) (ls := ls) (As := [.int xs, .int (48 : Int32), .int (51 : Int32)]) (rest := []) (c_X5_isWithin l δ cI cJ cZ xs (48 : Int32) (51 : Int32)) hx hb hml hts hown hK hNW hP hD [] rfl rfl (va_cnB 3 hts gX4_nextBehind_X5_isWithin_n19 rfl rfl rfl hNW.2.2.2.2 (hts (.initialized RX5) (List.mem_of_getElem? (i := 9) rfl)) (by decide +kernel) ⟨(Nat.le_of_ble_eq_true rfl), (Nat.le_of_ble_eq_true rfl)⟩) (hts (.static yX5_isWithin) (List.mem_of_getElem? (i := 8) rfl)) rfl hl.1 rfl (Nat.le_of_ble_eq_true rfl) dX4_nextBehind_113
    refine mc_i (wr := ([] : va_W)) hr hP hD hS hA [] [] [] rfl rfl rfl rfl rfl (wn := fun _ => ([] : va_W)) (fun _ => rfl) (fun r_113 _ H locs hw_113 hP hD hS => ?_)
    obtain ⟨hw_113, z_113⟩ := hw_113
    have hP : va_P δ vwCl ([] : va_W) H := hP
    have hD : va_D A ([] : va_W) := hD
    have hR := bnd_eq hR hw_113.symm
    refine lv_if_eq (tgt := 123) hx hb dX4_nextBehind_116 (by decide) (fun c_116 => ?_) (fun c_116 => ?_)
    · have c_116 : (r_113 = 0) := c_116
      have hR := hR.trans (if_pos c_116)
      refine lv_iconst (v := (-1 : Int32)) hx hb dX4_nextBehind_123 (by decide) ?_
      exact hret _ _ (-1 : Int32) () _ _ hR hP hD hS dX4_nextBehind_124
    · have c_116 : ¬ (r_113 = 0) := c_116
      have hR := hR.trans (if_neg c_116)
      refine lv_iconst (v := (0 : Int32)) hx hb dX4_nextBehind_119 (by decide) ?_
      refine lv_goto (tgt := 124) hx hb dX4_nextBehind_120 (by decide) ?_
      exact hret _ _ (0 : Int32) () _ _ hR hP hD hS dX4_nextBehind_124
  have hR := hR.trans (if_neg c_1_4)
  refine lv_tableOut (tgt := 125) hx hb dX4_nextBehind_1 (by have e0 : xe.toInt ≠ 0 := fun e => c_1_0 (Int32.toInt_inj.mp e); have e1 : xe.toInt ≠ 1 := fun e => c_1_1 (Int32.toInt_inj.mp e); have e2 : xe.toInt ≠ 2 := fun e => c_1_2 (Int32.toInt_inj.mp e); have e3 : xe.toInt ≠ 3 := fun e => c_1_3 (Int32.toInt_inj.mp e); have e4 : xe.toInt ≠ 4 := fun e => c_1_4 (Int32.toInt_inj.mp e); omega) (by decide) ?_
  refine lv_iload_n hx hb dX4_nextBehind_125 rfl (lv_at hl 1 rfl) ?_
  have hr := mrS (p := p) (e := e) (R := rm_X4_nextBehind) (below := below) (meth := meth) (H := H) (locs := locs) (ls := ls) (As := [.int xs]) (rest := []) (c_X4_isLetter l δ cI cJ cZ xs) hx hb hml hts hown hK hNW hP hD [] rfl rfl (va_cwS 1 hts gX4_nextBehind_X4_isLetter rfl rfl rfl (by decide +kernel) ⟨(Nat.le_of_ble_eq_true rfl), (Nat.le_of_ble_eq_true rfl)⟩) rfl hl.1 rfl (Nat.le_of_ble_eq_true rfl) dX4_nextBehind_126
  refine mc_i (wr := ([] : va_W)) hr hP hD hS hA [] [] [] rfl rfl rfl rfl rfl (wn := fun _ => ([] : va_W)) (fun _ => rfl) (fun r_126 _ H locs hw_126 hP hD hS => ?_)
  obtain ⟨hw_126, z_126⟩ := hw_126
  have hP : va_P δ vwCl ([] : va_W) H := hP
  have hD : va_D A ([] : va_W) := hD
  have hR := bnd_eq hR hw_126.symm
  refine lv_if_eq (tgt := 136) hx hb dX4_nextBehind_129 (by decide) (fun c_129 => ?_) (fun c_129 => ?_)
  · have c_129 : (r_126 = 0) := c_129
    have hR := hR.trans (if_pos c_129)
    refine lv_iconst (v := (-1 : Int32)) hx hb dX4_nextBehind_136 (by decide) ?_
    exact hret _ _ (-1 : Int32) () _ _ hR hP hD hS dX4_nextBehind_137
  · have c_129 : ¬ (r_126 = 0) := c_129
    have hR := hR.trans (if_neg c_129)
    refine lv_iconst (v := (2 : Int32)) hx hb dX4_nextBehind_132 (by decide) ?_
    refine lv_goto (tgt := 137) hx hb dX4_nextBehind_133 (by decide) ?_
    exact hret _ _ (2 : Int32) () _ _ hR hP hD hS dX4_nextBehind_137

abbrev rm_X4_append : Room := { frames := 1, cells := 0, slots := 0, locals := 22 }
set_option maxHeartbeats 4000000 in
set_option maxRecDepth 100000 in
theorem c_X4_append (l : Launch) (δ : va_G) (cI cJ cZ : ClassId) (aP0 aP1 : Nat) (pp : PS) (xs : Int32) : mMi l δ (mTy cI cJ cZ) yX4_append wsX4_append rm_X4_append [.ref aP0, .int xs] (wP cI aP0 aP1 pp) (S := PS) (fun r u => F_X4_append pp xs = (r, u) ∧ mZ r) (fun u => (wP cI aP0 aP1 u)) := by
  refine mk_z (post := fun r u => F_X4_append pp xs = (r, u)) (cc := cX4_append) (maxL := 2) (by decide) rfl (Nat.le_of_ble_eq_true rfl) ?_
  intro p e s m args below meth c A Q ls H locs hx hb hml hts hown hK hNW hA hP hD hS hl hret
  have hown : s.vm.findClass RX4 = some m.cls := hown
  have hl : lv_has ls 2 [(0, .ref aP0), (1, .int xs)] := hl
  have hinX4 : ∀ w ∈ u_ws RX4 TX4 2, w ∈ wsX4_append := (fun _ h => List.mem_cons_of_mem _ (List.mem_append_right _ (h)))
  have hR := F_X4_append.eq_1 pp xs
  refine lv_aload_n hx hb dX4_append_0 rfl (lv_at hl 0 rfl) ?_
  refine va_get (D := δ) (ci := 4) (v := .int (pLength pp)) (C := RX4) (T := TX4) (N := 2) hx hb hts hinX4 hown hK hP 0 rfl rfl 0 (by decide) (hts (.fieldLink RX4 15 "GloveHours$Pad" "length" "I") (List.mem_of_getElem? (i := 1) rfl)) (fun _ h9 => h9) rfl dX4_append_1 ?_
  refine lv_iconst (v := (0 : Int32)) hx hb dX4_append_4 (by decide) ?_
  refine lv_bipush (v := (59 : Int32)) hx hb dX4_append_5 (by decide) ?_
  have hr := mrN (p := p) (e := e) (R := rm_X4_append) (below := below) (meth := meth) (H := H) (locs := locs) (ls := ls) (As := [.int (pLength pp), .int (0 : Int32), .int (59 : Int32)]) (rest := []) (c_X5_isWithin l δ cI cJ cZ (pLength pp) (0 : Int32) (59 : Int32)) hx hb hml hts hown hK hNW hP hD [] rfl rfl (va_cnB 3 hts gX4_append_X5_isWithin_n19 rfl rfl rfl hNW.2.2.2.2 (hts (.initialized RX5) (List.mem_of_getElem? (i := 4) rfl)) (by decide +kernel) ⟨(Nat.le_of_ble_eq_true rfl), (Nat.le_of_ble_eq_true rfl)⟩) (hts (.static yX5_isWithin) (List.mem_of_getElem? (i := 3) rfl)) rfl hl.1 rfl (Nat.le_of_ble_eq_true rfl) dX4_append_7
  refine mc_i (wr := (wP cI aP0 aP1 pp)) hr hP hD hS hA [] [0, 1] [0, 1] rfl rfl rfl rfl rfl (wn := fun _ => (wP cI aP0 aP1 pp)) (fun _ => rfl) (fun r_7 _ H locs hw_7 hP hD hS => ?_)
  obtain ⟨hw_7, z_7⟩ := hw_7
  have hP : va_P δ vwCl (wP cI aP0 aP1 pp) H := hP
  have hD : va_D A (wP cI aP0 aP1 pp) := hD
  have hR := bnd_eq hR hw_7.symm
  refine lv_if_ne (tgt := 15) hx hb dX4_append_10 (by decide) (fun c_10 => ?_) (fun c_10 => ?_)
  · have c_10 : ¬ (r_7 = 0) := c_10
    have hR := hR.trans (if_neg c_10)
    refine lv_aload_n hx hb dX4_append_15 rfl (lv_at hl 0 rfl) ?_
    refine va_get (D := δ) (ci := 4) (v := .ref aP1) (C := RX4) (T := TX4) (N := 2) hx hb hts hinX4 hown hK hP 0 rfl rfl 1 (by decide) (hts (.fieldLink RX4 9 "GloveHours$Pad" "signs" "[I") (List.mem_of_getElem? (i := 2) rfl)) (fun _ h9 => h9) rfl dX4_append_16 ?_
    refine lv_aload_n hx hb dX4_append_19 rfl (lv_at hl 0 rfl) ?_
    refine va_get (D := δ) (ci := 4) (v := .int (pLength pp)) (C := RX4) (T := TX4) (N := 2) hx hb hts hinX4 hown hK hP 0 rfl rfl 0 (by decide) (hts (.fieldLink RX4 15 "GloveHours$Pad" "length" "I") (List.mem_of_getElem? (i := 1) rfl)) (fun _ h9 => h9) rfl dX4_append_20 ?_
    refine lv_iload_n hx hb dX4_append_23 rfl (lv_at hl 1 rfl) ?_
    refine va_iast hx hb hK hP hD hS 1 0 rfl rfl (wi_in hw_7 c_10 (by decide)) dX4_append_24 (fun H locs hP hD hS => ?_)
    have hP : va_P δ vwCl (wP cI aP0 aP1 (pLength pp, (upd (pSigns pp) (pLength pp).toNatClampNeg xs))) H := hP
    have hD : va_D A (wP cI aP0 aP1 (pLength pp, (upd (pSigns pp) (pLength pp).toNatClampNeg xs))) := hD
    refine lv_aload_n hx hb dX4_append_25 rfl (lv_at hl 0 rfl) ?_
    refine lv_dup hx hb dX4_append_26 rfl ?_
    refine va_get (D := δ) (ci := 4) (v := .int (pLength pp)) (C := RX4) (T := TX4) (N := 2) hx hb hts hinX4 hown hK hP 0 rfl rfl 0 (by decide) (hts (.fieldLink RX4 15 "GloveHours$Pad" "length" "I") (List.mem_of_getElem? (i := 1) rfl)) (fun _ h9 => h9) rfl dX4_append_27 ?_
    refine lv_iconst (v := (1 : Int32)) hx hb dX4_append_30 (by decide) ?_
    refine lv_iadd hx hb dX4_append_31 ?_
    refine va_put (D := δ) (ci := 4) (v := .int ((pLength pp) + (1 : Int32))) (ty := .int) (C := RX4) (T := TX4) (N := 2) hx hb hts hinX4 tyX4 tyX4_ok nmX4 hown hK hP hD hS 0 rfl rfl 0 (by decide) (hts (.fieldLink RX4 15 "GloveHours$Pad" "length" "I") (List.mem_of_getElem? (i := 1) rfl)) (fun _ h9 => h9) rfl (by decide +kernel) rfl rfl (Nat.le_of_ble_eq_true rfl) dX4_append_32 (fun H locs hP hD hS => ?_)
    have hP : va_P δ vwCl (wP cI aP0 aP1 (((pLength pp) + (1 : Int32)), (upd (pSigns pp) (pLength pp).toNatClampNeg xs))) H := hP
    have hD : va_D A (wP cI aP0 aP1 (((pLength pp) + (1 : Int32)), (upd (pSigns pp) (pLength pp).toNatClampNeg xs))) := hD
    refine lv_iconst (v := (1 : Int32)) hx hb dX4_append_35 (by decide) ?_
    exact hret _ _ (1 : Int32) (((pLength pp) + (1 : Int32)), (upd (pSigns pp) (pLength pp).toNatClampNeg xs)) _ _ hR (Or.inr rfl) hP hD hS dX4_append_36
  · have c_10 : (r_7 = 0) := c_10
    have hR := hR.trans (if_pos c_10)
    refine lv_iconst (v := (0 : Int32)) hx hb dX4_append_13 (by decide) ?_
    exact hret _ _ (0 : Int32) pp _ _ hR (Or.inl rfl) hP hD hS dX4_append_14

abbrev rm_X4_signAt : Room := { frames := 1, cells := 0, slots := 0, locals := 22 }
set_option maxHeartbeats 4000000 in
set_option maxRecDepth 100000 in
theorem c_X4_signAt (l : Launch) (δ : va_G) (cI cJ cZ : ClassId) (aP0 aP1 : Nat) (pp : PS) (xp : Int32) : mMi l δ (mTy cI cJ cZ) yX4_signAt wsX4_signAt rm_X4_signAt [.ref aP0, .int xp] (wP cI aP0 aP1 pp) (S := Unit) (fun r _ => F_X4_signAt pp xp = r) (fun _ => (wP cI aP0 aP1 pp)) := by
  refine mk_i (cc := cX4_signAt) (maxL := 2) (by decide) rfl (Nat.le_of_ble_eq_true rfl) ?_
  intro p e s m args below meth c A Q ls H locs hx hb hml hts hown hK hNW hA hP hD hS hl hret
  have hown : s.vm.findClass RX4 = some m.cls := hown
  have hl : lv_has ls 2 [(0, .ref aP0), (1, .int xp)] := hl
  have hinX4 : ∀ w ∈ u_ws RX4 TX4 2, w ∈ wsX4_signAt := (fun _ h => List.mem_cons_of_mem _ (List.mem_append_right _ (h)))
  have hR := F_X4_signAt.eq_1 pp xp
  refine lv_iload_n hx hb dX4_signAt_0 rfl (lv_at hl 1 rfl) ?_
  refine lv_iconst (v := (0 : Int32)) hx hb dX4_signAt_1 (by decide) ?_
  refine lv_bipush (v := (59 : Int32)) hx hb dX4_signAt_2 (by decide) ?_
  have hr := mrN (p := p) (e := e) (R := rm_X4_signAt) (below := below) (meth := meth) (H := H) (locs := locs) (ls := ls) (As := [.int xp, .int (0 : Int32), .int (59 : Int32)]) (rest := []) (c_X5_isWithin l δ cI cJ cZ xp (0 : Int32) (59 : Int32)) hx hb hml hts hown hK hNW hP hD [] rfl rfl (va_cnB 3 hts gX4_signAt_X5_isWithin_n19 rfl rfl rfl hNW.2.2.2.2 (hts (.initialized RX5) (List.mem_of_getElem? (i := 4) rfl)) (by decide +kernel) ⟨(Nat.le_of_ble_eq_true rfl), (Nat.le_of_ble_eq_true rfl)⟩) (hts (.static yX5_isWithin) (List.mem_of_getElem? (i := 3) rfl)) rfl hl.1 rfl (Nat.le_of_ble_eq_true rfl) dX4_signAt_4
  refine mc_i (wr := (wP cI aP0 aP1 pp)) hr hP hD hS hA [] [0, 1] [0, 1] rfl rfl rfl rfl rfl (wn := fun _ => (wP cI aP0 aP1 pp)) (fun _ => rfl) (fun r_4 _ H locs hw_4 hP hD hS => ?_)
  obtain ⟨hw_4, z_4⟩ := hw_4
  have hP : va_P δ vwCl (wP cI aP0 aP1 pp) H := hP
  have hD : va_D A (wP cI aP0 aP1 pp) := hD
  have hR := bnd_eq hR hw_4.symm
  refine lv_if_eq (tgt := 27) hx hb dX4_signAt_7 (by decide) (fun c_7 => ?_) (fun c_7 => ?_)
  · have c_7 : (r_4 = 0) := c_7
    have hR := hR.trans (if_pos c_7)
    refine lv_iconst (v := (0 : Int32)) hx hb dX4_signAt_27 (by decide) ?_
    exact hret _ _ (0 : Int32) () _ _ hR hP hD hS dX4_signAt_28
  · have c_7 : ¬ (r_4 = 0) := c_7
    have hR := hR.trans (if_neg c_7)
    refine lv_iload_n hx hb dX4_signAt_10 rfl (lv_at hl 1 rfl) ?_
    refine lv_aload_n hx hb dX4_signAt_11 rfl (lv_at hl 0 rfl) ?_
    refine va_get (D := δ) (ci := 4) (v := .int (pLength pp)) (C := RX4) (T := TX4) (N := 2) hx hb hts hinX4 hown hK hP 0 rfl rfl 0 (by decide) (hts (.fieldLink RX4 15 "GloveHours$Pad" "length" "I") (List.mem_of_getElem? (i := 1) rfl)) (fun _ h9 => h9) rfl dX4_signAt_12 ?_
    refine lv_icmp_ge (tgt := 27) hx hb dX4_signAt_15 (by decide) (fun c_15 => ?_) (fun c_15 => ?_)
    · have c_15 : ((pLength pp) ≤ xp) := c_15
      have hR := hR.trans (if_pos c_15)
      refine lv_iconst (v := (0 : Int32)) hx hb dX4_signAt_27 (by decide) ?_
      exact hret _ _ (0 : Int32) () _ _ hR hP hD hS dX4_signAt_28
    · have c_15 : ¬ ((pLength pp) ≤ xp) := c_15
      have hR := hR.trans (if_neg c_15)
      refine lv_aload_n hx hb dX4_signAt_18 rfl (lv_at hl 0 rfl) ?_
      refine va_get (D := δ) (ci := 4) (v := .ref aP1) (C := RX4) (T := TX4) (N := 2) hx hb hts hinX4 hown hK hP 0 rfl rfl 1 (by decide) (hts (.fieldLink RX4 9 "GloveHours$Pad" "signs" "[I") (List.mem_of_getElem? (i := 2) rfl)) (fun _ h9 => h9) rfl dX4_signAt_19 ?_
      refine lv_iload_n hx hb dX4_signAt_22 rfl (lv_at hl 1 rfl) ?_
      refine va_iald hx hb hK hP 1 0 rfl rfl (wi_in hw_4 c_7 (by decide)) dX4_signAt_23 ?_
      refine lv_goto (tgt := 28) hx hb dX4_signAt_24 (by decide) ?_
      exact hret _ _ ((pSigns pp) xp.toNatClampNeg) () _ _ hR hP hD hS dX4_signAt_28

abbrev rm_X4_courtierAt : Room := { frames := 2, cells := 0, slots := 0, locals := 43 }
set_option maxHeartbeats 4000000 in
set_option maxRecDepth 100000 in
theorem c_X4_courtierAt (l : Launch) (δ : va_G) (cI cJ cZ : ClassId) (aP0 aP1 : Nat) (pp : PS) (xp : Int32) : mMi l δ (mTy cI cJ cZ) yX4_courtierAt wsX4_courtierAt rm_X4_courtierAt [.ref aP0, .int xp] (wP cI aP0 aP1 pp) (S := Unit) (fun r _ => F_X4_courtierAt pp xp = r) (fun _ => (wP cI aP0 aP1 pp)) := by
  refine mk_i (cc := cX4_courtierAt) (maxL := 2) (by decide) rfl (Nat.le_of_ble_eq_true rfl) ?_
  intro p e s m args below meth c A Q ls H locs hx hb hml hts hown hK hNW hA hP hD hS hl hret
  have hown : s.vm.findClass RX4 = some m.cls := hown
  have hl : lv_has ls 2 [(0, .ref aP0), (1, .int xp)] := hl
  have hR := F_X4_courtierAt.eq_1 pp xp
  refine lv_aload_n hx hb dX4_courtierAt_0 rfl (lv_at hl 0 rfl) ?_
  refine lv_iload_n hx hb dX4_courtierAt_1 rfl (lv_at hl 1 rfl) ?_
  have hr := mrV (p := p) (e := e) (R := rm_X4_courtierAt) (below := below) (meth := meth) (H := H) (locs := locs) (ls := ls) (As := [.int xp]) (rest := []) (c_X4_signAt l δ cI cJ cZ aP0 aP1 pp xp) hx hb hml hts hown hK hNW hP hD [0, 1] rfl rfl 4 0 rfl rfl (cwV 1 hts gX4_courtierAt_X4_signAt rfl rfl rfl (by decide +kernel) ⟨(Nat.le_of_ble_eq_true rfl), (Nat.le_of_ble_eq_true rfl)⟩) rfl hl.1 rfl (Nat.le_of_ble_eq_true rfl) dX4_courtierAt_2
  refine mc_i (wr := ([] : va_W)) hr hP hD hS hA [0, 1] [] [0, 1] rfl rfl rfl rfl rfl (wn := fun _ => (wP cI aP0 aP1 pp)) (fun _ => rfl) (fun r_2 _ H locs hw_2 hP hD hS => ?_)
  have hP : va_P δ vwCl (wP cI aP0 aP1 pp) H := hP
  have hD : va_D A (wP cI aP0 aP1 pp) := hD
  have hR := bnd_eq hR hw_2.symm
  refine lv_bipush (v := (65 : Int32)) hx hb dX4_courtierAt_5 (by decide) ?_
  refine lv_isub hx hb dX4_courtierAt_7 ?_
  exact hret _ _ (r_2 - (65 : Int32)) () _ _ hR hP hD hS dX4_courtierAt_8

abbrev rm_X4_hourAt : Room := { frames := 2, cells := 0, slots := 0, locals := 43 }
set_option maxHeartbeats 4000000 in
set_option maxRecDepth 100000 in
theorem c_X4_hourAt (l : Launch) (δ : va_G) (cI cJ cZ : ClassId) (aP0 aP1 : Nat) (pp : PS) (xp : Int32) : mMi l δ (mTy cI cJ cZ) yX4_hourAt wsX4_hourAt rm_X4_hourAt [.ref aP0, .int xp] (wP cI aP0 aP1 pp) (S := Unit) (fun r _ => F_X4_hourAt pp xp = r) (fun _ => (wP cI aP0 aP1 pp)) := by
  refine mk_i (cc := cX4_hourAt) (maxL := 2) (by decide) rfl (Nat.le_of_ble_eq_true rfl) ?_
  intro p e s m args below meth c A Q ls H locs hx hb hml hts hown hK hNW hA hP hD hS hl hret
  have hown : s.vm.findClass RX4 = some m.cls := hown
  have hl : lv_has ls 2 [(0, .ref aP0), (1, .int xp)] := hl
  have hR := F_X4_hourAt.eq_1 pp xp
  refine lv_bipush (v := (10 : Int32)) hx hb dX4_hourAt_0 (by decide) ?_
  refine lv_aload_n hx hb dX4_hourAt_2 rfl (lv_at hl 0 rfl) ?_
  refine lv_iload_n hx hb dX4_hourAt_3 rfl (lv_at hl 1 rfl) ?_
  have hr := mrV (p := p) (e := e) (R := rm_X4_hourAt) (below := below) (meth := meth) (H := H) (locs := locs) (ls := ls) (As := [.int xp]) (rest := [.int (10 : Int32)]) (c_X4_signAt l δ cI cJ cZ aP0 aP1 pp xp) hx hb hml hts hown hK hNW hP hD [0, 1] rfl rfl 4 0 rfl rfl (cwV 1 hts gX4_hourAt_X4_signAt rfl rfl rfl (by decide +kernel) ⟨(Nat.le_of_ble_eq_true rfl), (Nat.le_of_ble_eq_true rfl)⟩) rfl hl.1 rfl (Nat.le_of_ble_eq_true rfl) dX4_hourAt_4
  refine mc_i (wr := ([] : va_W)) hr hP hD hS hA [0, 1] [] [0, 1] rfl rfl rfl rfl rfl (wn := fun _ => (wP cI aP0 aP1 pp)) (fun _ => rfl) (fun r_4 _ H locs hw_4 hP hD hS => ?_)
  have hP : va_P δ vwCl (wP cI aP0 aP1 pp) H := hP
  have hD : va_D A (wP cI aP0 aP1 pp) := hD
  have hR := bnd_eq hR hw_4.symm
  refine lv_bipush (v := (48 : Int32)) hx hb dX4_hourAt_7 (by decide) ?_
  refine lv_isub hx hb dX4_hourAt_9 ?_
  refine lv_imul hx hb dX4_hourAt_10 ?_
  refine lv_aload_n hx hb dX4_hourAt_11 rfl (lv_at hl 0 rfl) ?_
  refine lv_iload_n hx hb dX4_hourAt_12 rfl (lv_at hl 1 rfl) ?_
  refine lv_iconst (v := (1 : Int32)) hx hb dX4_hourAt_13 (by decide) ?_
  refine lv_iadd hx hb dX4_hourAt_14 ?_
  have hr := mrV (p := p) (e := e) (R := rm_X4_hourAt) (below := below) (meth := meth) (H := H) (locs := locs) (ls := ls) (As := [.int (xp + (1 : Int32))]) (rest := [.int ((10 : Int32) * (r_4 - (48 : Int32)))]) (c_X4_signAt l δ cI cJ cZ aP0 aP1 pp (xp + (1 : Int32))) hx hb hml hts hown hK hNW hP hD [0, 1] rfl rfl 4 0 rfl rfl (cwV 1 hts gX4_hourAt_X4_signAt rfl rfl rfl (by decide +kernel) ⟨(Nat.le_of_ble_eq_true rfl), (Nat.le_of_ble_eq_true rfl)⟩) rfl hl.1 rfl (Nat.le_of_ble_eq_true rfl) dX4_hourAt_15
  refine mc_i (wr := ([] : va_W)) hr hP hD hS hA [0, 1] [] [0, 1] rfl rfl rfl rfl rfl (wn := fun _ => (wP cI aP0 aP1 pp)) (fun _ => rfl) (fun r_15 _ H locs hw_15 hP hD hS => ?_)
  have hP : va_P δ vwCl (wP cI aP0 aP1 pp) H := hP
  have hD : va_D A (wP cI aP0 aP1 pp) := hD
  have hR := bnd_eq hR hw_15.symm
  refine lv_iadd hx hb dX4_hourAt_18 ?_
  refine lv_bipush (v := (48 : Int32)) hx hb dX4_hourAt_19 (by decide) ?_
  refine lv_isub hx hb dX4_hourAt_21 ?_
  exact hret _ _ ((((10 : Int32) * (r_4 - (48 : Int32))) + r_15) - (48 : Int32)) () _ _ hR hP hD hS dX4_hourAt_22

abbrev rm_X4_widthAt : Room := { frames := 2, cells := 0, slots := 0, locals := 43 }
set_option maxHeartbeats 4000000 in
set_option maxRecDepth 100000 in
theorem c_X4_widthAt (l : Launch) (δ : va_G) (cI cJ cZ : ClassId) (aP0 aP1 : Nat) (pp : PS) (xp : Int32) : mMi l δ (mTy cI cJ cZ) yX4_widthAt wsX4_widthAt rm_X4_widthAt [.ref aP0, .int xp] (wP cI aP0 aP1 pp) (S := Unit) (fun r _ => F_X4_widthAt pp xp = r) (fun _ => (wP cI aP0 aP1 pp)) := by
  refine mk_i (cc := cX4_widthAt) (maxL := 2) (by decide) rfl (Nat.le_of_ble_eq_true rfl) ?_
  intro p e s m args below meth c A Q ls H locs hx hb hml hts hown hK hNW hA hP hD hS hl hret
  have hown : s.vm.findClass RX4 = some m.cls := hown
  have hl : lv_has ls 2 [(0, .ref aP0), (1, .int xp)] := hl
  have hR := F_X4_widthAt.eq_1 pp xp
  refine lv_aload_n hx hb dX4_widthAt_0 rfl (lv_at hl 0 rfl) ?_
  refine lv_iload_n hx hb dX4_widthAt_1 rfl (lv_at hl 1 rfl) ?_
  have hr := mrV (p := p) (e := e) (R := rm_X4_widthAt) (below := below) (meth := meth) (H := H) (locs := locs) (ls := ls) (As := [.int xp]) (rest := []) (c_X4_signAt l δ cI cJ cZ aP0 aP1 pp xp) hx hb hml hts hown hK hNW hP hD [0, 1] rfl rfl 4 0 rfl rfl (cwV 1 hts gX4_widthAt_X4_signAt rfl rfl rfl (by decide +kernel) ⟨(Nat.le_of_ble_eq_true rfl), (Nat.le_of_ble_eq_true rfl)⟩) rfl hl.1 rfl (Nat.le_of_ble_eq_true rfl) dX4_widthAt_2
  refine mc_i (wr := ([] : va_W)) hr hP hD hS hA [0, 1] [] [0, 1] rfl rfl rfl rfl rfl (wn := fun _ => (wP cI aP0 aP1 pp)) (fun _ => rfl) (fun r_2 _ H locs hw_2 hP hD hS => ?_)
  have hP : va_P δ vwCl (wP cI aP0 aP1 pp) H := hP
  have hD : va_D A (wP cI aP0 aP1 pp) := hD
  have hR := bnd_eq hR hw_2.symm
  refine lv_bipush (v := (46 : Int32)) hx hb dX4_widthAt_5 (by decide) ?_
  refine lv_icmp_ne (tgt := 12) hx hb dX4_widthAt_7 (by decide) (fun c_7 => ?_) (fun c_7 => ?_)
  · have c_7 : ¬ (r_2 = (46 : Int32)) := c_7
    have hR := hR.trans (if_neg c_7)
    refine lv_aload_n hx hb dX4_widthAt_12 rfl (lv_at hl 0 rfl) ?_
    refine lv_iload_n hx hb dX4_widthAt_13 rfl (lv_at hl 1 rfl) ?_
    refine lv_iconst (v := (1 : Int32)) hx hb dX4_widthAt_14 (by decide) ?_
    refine lv_iadd hx hb dX4_widthAt_15 ?_
    have hr := mrV (p := p) (e := e) (R := rm_X4_widthAt) (below := below) (meth := meth) (H := H) (locs := locs) (ls := ls) (As := [.int (xp + (1 : Int32))]) (rest := []) (c_X4_signAt l δ cI cJ cZ aP0 aP1 pp (xp + (1 : Int32))) hx hb hml hts hown hK hNW hP hD [0, 1] rfl rfl 4 0 rfl rfl (cwV 1 hts gX4_widthAt_X4_signAt rfl rfl rfl (by decide +kernel) ⟨(Nat.le_of_ble_eq_true rfl), (Nat.le_of_ble_eq_true rfl)⟩) rfl hl.1 rfl (Nat.le_of_ble_eq_true rfl) dX4_widthAt_16
    refine mc_i (wr := ([] : va_W)) hr hP hD hS hA [0, 1] [] [0, 1] rfl rfl rfl rfl rfl (wn := fun _ => (wP cI aP0 aP1 pp)) (fun _ => rfl) (fun r_16 _ H locs hw_16 hP hD hS => ?_)
    have hP : va_P δ vwCl (wP cI aP0 aP1 pp) H := hP
    have hD : va_D A (wP cI aP0 aP1 pp) := hD
    have hR := bnd_eq hR hw_16.symm
    by_cases c_19_62 : r_16 = (62 : Int32)
    · have hR := hR.trans (if_pos c_19_62)
      refine lv_lookup (tgt := 54) (off := 35) hx hb dX4_widthAt_19 (by decide) (by rw [c_19_62]; rfl) (by decide) ?_
      refine lv_iconst (v := (5 : Int32)) hx hb dX4_widthAt_54 (by decide) ?_
      exact hret _ _ (5 : Int32) () _ _ hR hP hD hS dX4_widthAt_55
    have hR := hR.trans (if_neg c_19_62)
    by_cases c_19_108 : r_16 = (108 : Int32)
    · have hR := hR.trans (if_pos c_19_108)
      refine lv_lookup (tgt := 52) (off := 33) hx hb dX4_widthAt_19 (by decide) (by rw [c_19_108]; rfl) (by decide) ?_
      refine lv_iconst (v := (4 : Int32)) hx hb dX4_widthAt_52 (by decide) ?_
      exact hret _ _ (4 : Int32) () _ _ hR hP hD hS dX4_widthAt_53
    have hR := hR.trans (if_neg c_19_108)
    by_cases c_19_114 : r_16 = (114 : Int32)
    · have hR := hR.trans (if_pos c_19_114)
      refine lv_lookup (tgt := 52) (off := 33) hx hb dX4_widthAt_19 (by decide) (by rw [c_19_114]; rfl) (by decide) ?_
      refine lv_iconst (v := (4 : Int32)) hx hb dX4_widthAt_52 (by decide) ?_
      exact hret _ _ (4 : Int32) () _ _ hR hP hD hS dX4_widthAt_53
    have hR := hR.trans (if_neg c_19_114)
    refine lv_lookup (tgt := 56) (off := 37) hx hb dX4_widthAt_19 (by decide) (by have e0 : ¬ r_16.toInt = 62 := fun e => c_19_62 (Int32.toInt_inj.mp e); have e1 : ¬ r_16.toInt = 108 := fun e => c_19_108 (Int32.toInt_inj.mp e); have e2 : ¬ r_16.toInt = 114 := fun e => c_19_114 (Int32.toInt_inj.mp e); simp [Op.lookupswitch.offset, e0, Ne.symm e0, e1, Ne.symm e1, e2, Ne.symm e2]) (by decide) ?_
    refine lv_iconst (v := (2 : Int32)) hx hb dX4_widthAt_56 (by decide) ?_
    exact hret _ _ (2 : Int32) () _ _ hR hP hD hS dX4_widthAt_57
  · have c_7 : (r_2 = (46 : Int32)) := c_7
    have hR := hR.trans (if_pos c_7)
    refine lv_iconst (v := (1 : Int32)) hx hb dX4_widthAt_10 (by decide) ?_
    exact hret _ _ (1 : Int32) () _ _ hR hP hD hS dX4_widthAt_11

abbrev rm_X4_firstFault : Room := { frames := 3, cells := 0, slots := 0, locals := 61 }
set_option maxHeartbeats 4000000 in
set_option maxRecDepth 100000 in
theorem c_X4_firstFault (l : Launch) (δ : va_G) (cI cJ cZ : ClassId) (aP0 aP1 : Nat) (pp : PS) : mMi l δ (mTy cI cJ cZ) yX4_firstFault wsX4_firstFault rm_X4_firstFault [.ref aP0] (wP cI aP0 aP1 pp) (S := Unit) (fun r _ => F_X4_firstFault pp = r) (fun _ => (wP cI aP0 aP1 pp)) := by
  refine mk_i (cc := cX4_firstFault) (maxL := 3) (by decide) rfl (Nat.le_of_ble_eq_true rfl) ?_
  intro p e s m args below meth c A Q ls H locs hx hb hml hts hown hK hNW hA hP hD hS hl hret
  have hown : s.vm.findClass RX4 = some m.cls := hown
  have hl : lv_has ls 3 [(0, .ref aP0)] := hl
  have hinX4 : ∀ w ∈ u_ws RX4 TX4 2, w ∈ wsX4_firstFault := (fun _ h => List.mem_cons_of_mem _ (List.mem_append_right _ (h)))
  have hR := F_X4_firstFault.eq_1 pp
  refine lv_iconst (v := (0 : Int32)) hx hb dX4_firstFault_0 (by decide) ?_
  refine lv_istore_n (lv' := [(1, .int (0 : Int32)), (0, .ref aP0)]) hx hb dX4_firstFault_1 rfl hl (by decide) rfl (fun ls hl => ?_)
  refine lv_iconst (v := (0 : Int32)) hx hb dX4_firstFault_2 (by decide) ?_
  refine lv_istore_n (lv' := [(2, .int (0 : Int32)), (1, .int (0 : Int32)), (0, .ref aP0)]) hx hb dX4_firstFault_3 rfl hl (by decide) rfl (fun ls hl => ?_)
  have hloop_4 : ∀ (n_4 : Nat) (i_4 : Nat) (v1_4 : Int32) (H : Heap) (locs : List Loc) (ls : Array Slot), (hi_4 : i_4 ≤ (pLength pp).toNatClampNeg) → (hn_4 : (pLength pp).toNatClampNeg < i_4 + n_4) → (hP : va_P δ vwCl (wP cI aP0 aP1 pp) H) → (hD : va_D A (wP cI aP0 aP1 pp)) → (hS : va_S A s.heap H locs) → (hl : lv_has ls 3 [(2, .int (nI i_4)), (1, .int v1_4), (0, .ref aP0)]) → (hR : F_X4_firstFault pp = L_X4_firstFault_4 pp n_4 i_4 v1_4) → W p l e rm_X4_firstFault s m args below meth c H locs 0 0 Q (F0 m 4 ls []) := by
    intro n_4
    induction n_4 with
    | zero => intro i_4 v1_4 H locs ls hi_4 hn_4 hP hD hS hl hR; exact absurd hn_4 (by omega)
    | succ n_4 ih_4 =>
      intro i_4 v1_4 H locs ls hi_4 hn_4 hP hD hS hl hR
      have hR := hR.trans (L_X4_firstFault_4_s pp n_4 i_4 v1_4)
      refine lv_iload_n hx hb dX4_firstFault_4 rfl (lv_at hl 0 rfl) ?_
      refine lv_aload_n hx hb dX4_firstFault_5 rfl (lv_at hl 2 rfl) ?_
      refine va_get (D := δ) (ci := 4) (v := .int (pLength pp)) (C := RX4) (T := TX4) (N := 2) hx hb hts hinX4 hown hK hP 0 rfl rfl 0 (by decide) (hts (.fieldLink RX4 15 "GloveHours$Pad" "length" "I") (List.mem_of_getElem? (i := 1) rfl)) (fun _ h9 => h9) rfl dX4_firstFault_6 ?_
      refine lv_icmp_ge (tgt := 35) hx hb dX4_firstFault_9 (by decide) (fun c_9 => ?_) (fun c_9 => ?_)
      · have c_9 : ((pLength pp) ≤ (nI i_4)) := c_9
        have hR := hR.trans (if_pos c_9)
        refine lv_iload_n hx hb dX4_firstFault_35 rfl (lv_at hl 1 rfl) ?_
        refine lv_if_ne (tgt := 44) hx hb dX4_firstFault_36 (by decide) (fun c_36 => ?_) (fun c_36 => ?_)
        · have c_36 : ¬ (v1_4 = 0) := c_36
          have hR := hR.trans (if_neg c_36)
          refine lv_aload_n hx hb dX4_firstFault_44 rfl (lv_at hl 2 rfl) ?_
          refine va_get (D := δ) (ci := 4) (v := .int (pLength pp)) (C := RX4) (T := TX4) (N := 2) hx hb hts hinX4 hown hK hP 0 rfl rfl 0 (by decide) (hts (.fieldLink RX4 15 "GloveHours$Pad" "length" "I") (List.mem_of_getElem? (i := 1) rfl)) (fun _ h9 => h9) rfl dX4_firstFault_45 ?_
          exact hret _ _ (pLength pp) () _ _ hR hP hD hS dX4_firstFault_48
        · have c_36 : (v1_4 = 0) := c_36
          have hR := hR.trans (if_pos c_36)
          refine lv_bipush (v := (-6 : Int32)) hx hb dX4_firstFault_39 (by decide) ?_
          refine lv_goto (tgt := 48) hx hb dX4_firstFault_41 (by decide) ?_
          exact hret _ _ (-6 : Int32) () _ _ hR hP hD hS dX4_firstFault_48
      · have c_9 : ¬ ((pLength pp) ≤ (nI i_4)) := c_9
        have hR := hR.trans (if_neg c_9)
        have hlt_4 : i_4 < (pLength pp).toNatClampNeg := lt_c c_9 hi_4
        refine lv_iload_n hx hb dX4_firstFault_12 rfl (lv_at hl 1 rfl) ?_
        refine lv_aload_n hx hb dX4_firstFault_13 rfl (lv_at hl 2 rfl) ?_
        refine lv_iload_n hx hb dX4_firstFault_14 rfl (lv_at hl 0 rfl) ?_
        have hr := mrV (p := p) (e := e) (R := rm_X4_firstFault) (below := below) (meth := meth) (H := H) (locs := locs) (ls := ls) (As := [.int (nI i_4)]) (rest := [.int v1_4]) (c_X4_signAt l δ cI cJ cZ aP0 aP1 pp (nI i_4)) hx hb hml hts hown hK hNW hP hD [0, 1] rfl rfl 4 0 rfl rfl (cwV 1 hts gX4_firstFault_X4_signAt rfl rfl rfl (by decide +kernel) ⟨(Nat.le_of_ble_eq_true rfl), (Nat.le_of_ble_eq_true rfl)⟩) rfl hl.1 rfl (Nat.le_of_ble_eq_true rfl) dX4_firstFault_15
        refine mc_i (wr := ([] : va_W)) hr hP hD hS hA [0, 1] [] [0, 1] rfl rfl rfl rfl rfl (wn := fun _ => (wP cI aP0 aP1 pp)) (fun _ => rfl) (fun r_15 _ H locs hw_15 hP hD hS => ?_)
        have hP : va_P δ vwCl (wP cI aP0 aP1 pp) H := hP
        have hD : va_D A (wP cI aP0 aP1 pp) := hD
        have hR := bnd_eq hR hw_15.symm
        have hr := mrS (p := p) (e := e) (R := rm_X4_firstFault) (below := below) (meth := meth) (H := H) (locs := locs) (ls := ls) (As := [.int v1_4, .int r_15]) (rest := []) (c_X4_nextBehind l δ cI cJ cZ v1_4 r_15) hx hb hml hts hown hK hNW hP hD [] rfl rfl (va_cwS 2 hts gX4_firstFault_X4_nextBehind rfl rfl rfl (by decide +kernel) ⟨(Nat.le_of_ble_eq_true rfl), (Nat.le_of_ble_eq_true rfl)⟩) rfl hl.1 rfl (Nat.le_of_ble_eq_true rfl) dX4_firstFault_18
        refine mc_i (wr := (wP cI aP0 aP1 pp)) hr hP hD hS hA [] [0, 1] [0, 1] rfl rfl rfl rfl rfl (wn := fun _ => (wP cI aP0 aP1 pp)) (fun _ => rfl) (fun r_18 _ H locs hw_18 hP hD hS => ?_)
        have hP : va_P δ vwCl (wP cI aP0 aP1 pp) H := hP
        have hD : va_D A (wP cI aP0 aP1 pp) := hD
        have hR := bnd_eq hR hw_18.symm
        refine lv_istore_n (lv' := [(1, .int r_18), (2, .int (nI i_4)), (0, .ref aP0)]) hx hb dX4_firstFault_21 rfl hl (by decide) rfl (fun ls hl => ?_)
        refine lv_iload_n hx hb dX4_firstFault_22 rfl (lv_at hl 0 rfl) ?_
        refine lv_iconst (v := (-1 : Int32)) hx hb dX4_firstFault_23 (by decide) ?_
        refine lv_icmp_ne (tgt := 29) hx hb dX4_firstFault_24 (by decide) (fun c_24 => ?_) (fun c_24 => ?_)
        · have c_24 : ¬ (r_18 = (-1 : Int32)) := c_24
          have hR := hR.trans (if_neg c_24)
          refine lv_iinc (v := (nI (i_4 + 1))) (lv' := [(2, .int (nI (i_4 + 1))), (1, .int r_18), (0, .ref aP0)]) hx hb dX4_firstFault_29 hl (k := 1) rfl (nI_1 i_4) (by decide) rfl (fun ls hl => ?_)
          refine lv_goto (tgt := 4) hx hb dX4_firstFault_32 (by decide) ?_
          exact ih_4 (i_4 + 1) r_18 _ _ _ (by omega) (by omega) hP hD hS (lv_sub hl [0, 1, 2] rfl) hR
        · have c_24 : (r_18 = (-1 : Int32)) := c_24
          have hR := hR.trans (if_pos c_24)
          refine lv_iload_n hx hb dX4_firstFault_27 rfl (lv_at hl 1 rfl) ?_
          exact hret _ _ (nI i_4) () _ _ hR hP hD hS dX4_firstFault_28
  exact hloop_4 ((pLength pp).toNatClampNeg + 1) 0 (0 : Int32) _ _ _ (by omega) (by omega) hP hD hS (lv_sub hl [0, 1, 2] rfl) hR

abbrev rm_X2_isDeed : Room := { frames := 1, cells := 0, slots := 0, locals := 22 }
set_option maxHeartbeats 4000000 in
set_option maxRecDepth 100000 in
theorem c_X2_isDeed (l : Launch) (δ : va_G) (cI cJ cZ : ClassId) (aD0 aD1 aD2 aD3 aD4 aT0 : Nat) (dy : DS) (xk : Int32) : mMi l δ (mTy cI cJ cZ) yX2_isDeed wsX2_isDeed rm_X2_isDeed [.ref aD0, .int xk] (wD cI aD0 aD1 aD2 aD3 aD4 aT0 dy) (S := Unit) (fun r _ => F_X2_isDeed dy xk = r ∧ mZ r) (fun _ => (wD cI aD0 aD1 aD2 aD3 aD4 aT0 dy)) := by
  refine mk_z (post := fun r _ => F_X2_isDeed dy xk = r) (cc := cX2_isDeed) (maxL := 2) (by decide) rfl (Nat.le_of_ble_eq_true rfl) ?_
  intro p e s m args below meth c A Q ls H locs hx hb hml hts hown hK hNW hA hP hD hS hl hret
  have hown : s.vm.findClass RX2 = some m.cls := hown
  have hl : lv_has ls 2 [(0, .ref aD0), (1, .int xk)] := hl
  have hinX2 : ∀ w ∈ u_ws RX2 TX2 9, w ∈ wsX2_isDeed := (fun _ h => List.mem_cons_of_mem _ (List.mem_append_right _ (h)))
  have hR := F_X2_isDeed.eq_1 dy xk
  refine lv_iload_n hx hb dX2_isDeed_0 rfl (lv_at hl 1 rfl) ?_
  refine lv_iconst (v := (0 : Int32)) hx hb dX2_isDeed_1 (by decide) ?_
  refine lv_bipush (v := (98 : Int32)) hx hb dX2_isDeed_2 (by decide) ?_
  have hr := mrN (p := p) (e := e) (R := rm_X2_isDeed) (below := below) (meth := meth) (H := H) (locs := locs) (ls := ls) (As := [.int xk, .int (0 : Int32), .int (98 : Int32)]) (rest := []) (c_X5_isWithin l δ cI cJ cZ xk (0 : Int32) (98 : Int32)) hx hb hml hts hown hK hNW hP hD [] rfl rfl (va_cnB 3 hts gX2_isDeed_X5_isWithin_n111 rfl rfl rfl hNW.2.1 (hts (.initialized RX5) (List.mem_of_getElem? (i := 3) rfl)) (by decide +kernel) ⟨(Nat.le_of_ble_eq_true rfl), (Nat.le_of_ble_eq_true rfl)⟩) (hts (.static yX5_isWithin) (List.mem_of_getElem? (i := 2) rfl)) rfl hl.1 rfl (Nat.le_of_ble_eq_true rfl) dX2_isDeed_4
  refine mc_i (wr := (wD cI aD0 aD1 aD2 aD3 aD4 aT0 dy)) hr hP hD hS hA [] [0, 1, 2, 3, 4] [0, 1, 2, 3, 4] rfl rfl rfl rfl rfl (wn := fun _ => (wD cI aD0 aD1 aD2 aD3 aD4 aT0 dy)) (fun _ => rfl) (fun r_4 _ H locs hw_4 hP hD hS => ?_)
  obtain ⟨hw_4, z_4⟩ := hw_4
  have hP : va_P δ vwCl (wD cI aD0 aD1 aD2 aD3 aD4 aT0 dy) H := hP
  have hD : va_D A (wD cI aD0 aD1 aD2 aD3 aD4 aT0 dy) := hD
  have hR := bnd_eq hR hw_4.symm
  refine lv_if_eq (tgt := 22) hx hb dX2_isDeed_7 (by decide) (fun c_7 => ?_) (fun c_7 => ?_)
  · have c_7 : (r_4 = 0) := c_7
    have hR := hR.trans (if_pos c_7)
    refine lv_iconst (v := (0 : Int32)) hx hb dX2_isDeed_22 (by decide) ?_
    exact hret _ _ (0 : Int32) () _ _ hR (Or.inl rfl) hP hD hS dX2_isDeed_23
  · have c_7 : ¬ (r_4 = 0) := c_7
    have hR := hR.trans (if_neg c_7)
    refine lv_iload_n hx hb dX2_isDeed_10 rfl (lv_at hl 1 rfl) ?_
    refine lv_aload_n hx hb dX2_isDeed_11 rfl (lv_at hl 0 rfl) ?_
    refine va_get (D := δ) (ci := 2) (v := .int (dDeeds dy)) (C := RX2) (T := TX2) (N := 9) hx hb hts hinX2 hown hK hP 0 rfl rfl 2 (by decide) (hts (.fieldLink RX2 39 "GloveHours$Day" "deeds" "I") (List.mem_of_getElem? (i := 1) rfl)) (fun _ h9 => h9) rfl dX2_isDeed_12 ?_
    refine lv_icmp_ge (tgt := 22) hx hb dX2_isDeed_15 (by decide) (fun c_15 => ?_) (fun c_15 => ?_)
    · have c_15 : ((dDeeds dy) ≤ xk) := c_15
      have hR := hR.trans (if_pos c_15)
      refine lv_iconst (v := (0 : Int32)) hx hb dX2_isDeed_22 (by decide) ?_
      exact hret _ _ (0 : Int32) () _ _ hR (Or.inl rfl) hP hD hS dX2_isDeed_23
    · have c_15 : ¬ ((dDeeds dy) ≤ xk) := c_15
      have hR := hR.trans (if_neg c_15)
      refine lv_iconst (v := (1 : Int32)) hx hb dX2_isDeed_18 (by decide) ?_
      refine lv_goto (tgt := 23) hx hb dX2_isDeed_19 (by decide) ?_
      exact hret _ _ (1 : Int32) () _ _ hR (Or.inr rfl) hP hD hS dX2_isDeed_23

abbrev rm_X2_tellOfDeed : Room := { frames := 2, cells := 0, slots := 0, locals := 43 }
set_option maxHeartbeats 4000000 in
set_option maxRecDepth 100000 in
theorem c_X2_tellOfDeed (l : Launch) (δ : va_G) (cI cJ cZ : ClassId) (aD0 aD1 aD2 aD3 aD4 aT0 : Nat) (dy : DS) (xk : Int32) (xw : Int32) : mMi l δ (mTy cI cJ cZ) yX2_tellOfDeed wsX2_tellOfDeed rm_X2_tellOfDeed [.ref aD0, .int xk, .int xw] (wD cI aD0 aD1 aD2 aD3 aD4 aT0 dy) (S := Unit) (fun r _ => F_X2_tellOfDeed dy xk xw = r) (fun _ => (wD cI aD0 aD1 aD2 aD3 aD4 aT0 dy)) := by
  refine mk_i (cc := cX2_tellOfDeed) (maxL := 3) (by decide) rfl (Nat.le_of_ble_eq_true rfl) ?_
  intro p e s m args below meth c A Q ls H locs hx hb hml hts hown hK hNW hA hP hD hS hl hret
  have hown : s.vm.findClass RX2 = some m.cls := hown
  have hl : lv_has ls 3 [(0, .ref aD0), (1, .int xk), (2, .int xw)] := hl
  have hinX2 : ∀ w ∈ u_ws RX2 TX2 9, w ∈ wsX2_tellOfDeed := (fun _ h => List.mem_cons_of_mem _ (List.mem_append_right _ (h)))
  have hR := F_X2_tellOfDeed.eq_1 dy xk xw
  refine lv_aload_n hx hb dX2_tellOfDeed_0 rfl (lv_at hl 0 rfl) ?_
  refine lv_iload_n hx hb dX2_tellOfDeed_1 rfl (lv_at hl 1 rfl) ?_
  have hr := mrV (p := p) (e := e) (R := rm_X2_tellOfDeed) (below := below) (meth := meth) (H := H) (locs := locs) (ls := ls) (As := [.int xk]) (rest := []) (c_X2_isDeed l δ cI cJ cZ aD0 aD1 aD2 aD3 aD4 aT0 dy xk) hx hb hml hts hown hK hNW hP hD [0, 1, 2, 3, 4] rfl rfl 2 0 rfl rfl (cwV 1 hts gX2_tellOfDeed_X2_isDeed rfl rfl rfl (by decide +kernel) ⟨(Nat.le_of_ble_eq_true rfl), (Nat.le_of_ble_eq_true rfl)⟩) rfl hl.1 rfl (Nat.le_of_ble_eq_true rfl) dX2_tellOfDeed_2
  refine mc_i (wr := ([] : va_W)) hr hP hD hS hA [0, 1, 2, 3, 4] [] [0, 1, 2, 3, 4] rfl rfl rfl rfl rfl (wn := fun _ => (wD cI aD0 aD1 aD2 aD3 aD4 aT0 dy)) (fun _ => rfl) (fun r_2 _ H locs hw_2 hP hD hS => ?_)
  obtain ⟨hw_2, z_2⟩ := hw_2
  have hP : va_P δ vwCl (wD cI aD0 aD1 aD2 aD3 aD4 aT0 dy) H := hP
  have hD : va_D A (wD cI aD0 aD1 aD2 aD3 aD4 aT0 dy) := hD
  have hR := bnd_eq hR hw_2.symm
  refine lv_if_ne (tgt := 10) hx hb dX2_tellOfDeed_5 (by decide) (fun c_5 => ?_) (fun c_5 => ?_)
  · have c_5 : ¬ (r_2 = 0) := c_5
    have hR := hR.trans (if_neg c_5)
    refine lv_iload_n hx hb dX2_tellOfDeed_10 rfl (lv_at hl 2 rfl) ?_
    refine lv_iconst (v := (2 : Int32)) hx hb dX2_tellOfDeed_11 (by decide) ?_
    refine lv_icmp_ne (tgt := 22) hx hb dX2_tellOfDeed_12 (by decide) (fun c_12 => ?_) (fun c_12 => ?_)
    · have c_12 : ¬ (xw = (2 : Int32)) := c_12
      have hR := hR.trans (if_neg c_12)
      refine lv_iload_n hx hb dX2_tellOfDeed_22 rfl (lv_at hl 2 rfl) ?_
      refine lv_if_ne (tgt := 35) hx hb dX2_tellOfDeed_23 (by decide) (fun c_23 => ?_) (fun c_23 => ?_)
      · have c_23 : ¬ (xw = 0) := c_23
        have hR := hR.trans (if_neg c_23)
        refine lv_aload_n hx hb dX2_tellOfDeed_35 rfl (lv_at hl 0 rfl) ?_
        refine va_get (D := δ) (ci := 2) (v := .ref aD2) (C := RX2) (T := TX2) (N := 9) hx hb hts hinX2 hown hK hP 0 rfl rfl 6 (by decide) (hts (.fieldLink RX2 22 "GloveHours$Day" "deedClocks" "[I") (List.mem_of_getElem? (i := 3) rfl)) (fun _ h9 => h9) rfl dX2_tellOfDeed_36 ?_
        refine lv_iload_n hx hb dX2_tellOfDeed_39 rfl (lv_at hl 1 rfl) ?_
        refine va_iald hx hb hK hP 2 0 rfl rfl (deed_in hw_2 c_5) dX2_tellOfDeed_40 ?_
        exact hret _ _ ((dDeedClocks dy) xk.toNatClampNeg) () _ _ hR hP hD hS dX2_tellOfDeed_41
      · have c_23 : (xw = 0) := c_23
        have hR := hR.trans (if_pos c_23)
        refine lv_aload_n hx hb dX2_tellOfDeed_26 rfl (lv_at hl 0 rfl) ?_
        refine va_get (D := δ) (ci := 2) (v := .ref aD1) (C := RX2) (T := TX2) (N := 9) hx hb hts hinX2 hown hK hP 0 rfl rfl 5 (by decide) (hts (.fieldLink RX2 18 "GloveHours$Day" "deedHours" "[I") (List.mem_of_getElem? (i := 2) rfl)) (fun _ h9 => h9) rfl dX2_tellOfDeed_27 ?_
        refine lv_iload_n hx hb dX2_tellOfDeed_30 rfl (lv_at hl 1 rfl) ?_
        refine va_iald hx hb hK hP 1 0 rfl rfl (deed_in hw_2 c_5) dX2_tellOfDeed_31 ?_
        refine lv_goto (tgt := 41) hx hb dX2_tellOfDeed_32 (by decide) ?_
        exact hret _ _ ((dDeedHours dy) xk.toNatClampNeg) () _ _ hR hP hD hS dX2_tellOfDeed_41
    · have c_12 : (xw = (2 : Int32)) := c_12
      have hR := hR.trans (if_pos c_12)
      refine lv_aload_n hx hb dX2_tellOfDeed_15 rfl (lv_at hl 0 rfl) ?_
      refine va_get (D := δ) (ci := 2) (v := .ref aD3) (C := RX2) (T := TX2) (N := 9) hx hb hts hinX2 hown hK hP 0 rfl rfl 7 (by decide) (hts (.fieldLink RX2 25 "GloveHours$Day" "deedCourtiers" "[I") (List.mem_of_getElem? (i := 1) rfl)) (fun _ h9 => h9) rfl dX2_tellOfDeed_16 ?_
      refine lv_iload_n hx hb dX2_tellOfDeed_19 rfl (lv_at hl 1 rfl) ?_
      refine va_iald hx hb hK hP 3 0 rfl rfl (deed_in hw_2 c_5) dX2_tellOfDeed_20 ?_
      exact hret _ _ ((dDeedCourtiers dy) xk.toNatClampNeg) () _ _ hR hP hD hS dX2_tellOfDeed_21
  · have c_5 : (r_2 = 0) := c_5
    have hR := hR.trans (if_pos c_5)
    refine lv_iconst (v := (-1 : Int32)) hx hb dX2_tellOfDeed_8 (by decide) ?_
    exact hret _ _ (-1 : Int32) () _ _ hR hP hD hS dX2_tellOfDeed_9

abbrev rm_X2_isLate : Room := { frames := 2, cells := 0, slots := 0, locals := 43 }
set_option maxHeartbeats 4000000 in
set_option maxRecDepth 100000 in
theorem c_X2_isLate (l : Launch) (δ : va_G) (cI cJ cZ : ClassId) (aD0 aD1 aD2 aD3 aD4 aT0 : Nat) (dy : DS) (xk : Int32) : mMi l δ (mTy cI cJ cZ) yX2_isLate wsX2_isLate rm_X2_isLate [.ref aD0, .int xk] (wD cI aD0 aD1 aD2 aD3 aD4 aT0 dy) (S := Unit) (fun r _ => F_X2_isLate dy xk = r ∧ mZ r) (fun _ => (wD cI aD0 aD1 aD2 aD3 aD4 aT0 dy)) := by
  refine mk_z (post := fun r _ => F_X2_isLate dy xk = r) (cc := cX2_isLate) (maxL := 2) (by decide) rfl (Nat.le_of_ble_eq_true rfl) ?_
  intro p e s m args below meth c A Q ls H locs hx hb hml hts hown hK hNW hA hP hD hS hl hret
  have hown : s.vm.findClass RX2 = some m.cls := hown
  have hl : lv_has ls 2 [(0, .ref aD0), (1, .int xk)] := hl
  have hinX2 : ∀ w ∈ u_ws RX2 TX2 9, w ∈ wsX2_isLate := (fun _ h => List.mem_cons_of_mem _ (List.mem_append_right _ (h)))
  have hR := F_X2_isLate.eq_1 dy xk
  refine lv_aload_n hx hb dX2_isLate_0 rfl (lv_at hl 0 rfl) ?_
  refine lv_iload_n hx hb dX2_isLate_1 rfl (lv_at hl 1 rfl) ?_
  have hr := mrV (p := p) (e := e) (R := rm_X2_isLate) (below := below) (meth := meth) (H := H) (locs := locs) (ls := ls) (As := [.int xk]) (rest := []) (c_X2_isDeed l δ cI cJ cZ aD0 aD1 aD2 aD3 aD4 aT0 dy xk) hx hb hml hts hown hK hNW hP hD [0, 1, 2, 3, 4] rfl rfl 2 0 rfl rfl (cwV 1 hts gX2_isLate_X2_isDeed rfl rfl rfl (by decide +kernel) ⟨(Nat.le_of_ble_eq_true rfl), (Nat.le_of_ble_eq_true rfl)⟩) rfl hl.1 rfl (Nat.le_of_ble_eq_true rfl) dX2_isLate_2
  refine mc_i (wr := ([] : va_W)) hr hP hD hS hA [0, 1, 2, 3, 4] [] [0, 1, 2, 3, 4] rfl rfl rfl rfl rfl (wn := fun _ => (wD cI aD0 aD1 aD2 aD3 aD4 aT0 dy)) (fun _ => rfl) (fun r_2 _ H locs hw_2 hP hD hS => ?_)
  obtain ⟨hw_2, z_2⟩ := hw_2
  have hP : va_P δ vwCl (wD cI aD0 aD1 aD2 aD3 aD4 aT0 dy) H := hP
  have hD : va_D A (wD cI aD0 aD1 aD2 aD3 aD4 aT0 dy) := hD
  have hR := bnd_eq hR hw_2.symm
  refine lv_if_eq (tgt := 27) hx hb dX2_isLate_5 (by decide) (fun c_5 => ?_) (fun c_5 => ?_)
  · have c_5 : (r_2 = 0) := c_5
    have hR := hR.trans (if_pos c_5)
    refine lv_iconst (v := (0 : Int32)) hx hb dX2_isLate_27 (by decide) ?_
    exact hret _ _ (0 : Int32) () _ _ hR (Or.inl rfl) hP hD hS dX2_isLate_28
  · have c_5 : ¬ (r_2 = 0) := c_5
    have hR := hR.trans (if_neg c_5)
    refine lv_aload_n hx hb dX2_isLate_8 rfl (lv_at hl 0 rfl) ?_
    refine va_get (D := δ) (ci := 2) (v := .ref aD1) (C := RX2) (T := TX2) (N := 9) hx hb hts hinX2 hown hK hP 0 rfl rfl 5 (by decide) (hts (.fieldLink RX2 18 "GloveHours$Day" "deedHours" "[I") (List.mem_of_getElem? (i := 1) rfl)) (fun _ h9 => h9) rfl dX2_isLate_9 ?_
    refine lv_iload_n hx hb dX2_isLate_12 rfl (lv_at hl 1 rfl) ?_
    refine va_iald hx hb hK hP 1 0 rfl rfl (deed_in hw_2 c_5) dX2_isLate_13 ?_
    refine lv_aload_n hx hb dX2_isLate_14 rfl (lv_at hl 0 rfl) ?_
    refine va_get (D := δ) (ci := 2) (v := .ref aD2) (C := RX2) (T := TX2) (N := 9) hx hb hts hinX2 hown hK hP 0 rfl rfl 6 (by decide) (hts (.fieldLink RX2 22 "GloveHours$Day" "deedClocks" "[I") (List.mem_of_getElem? (i := 2) rfl)) (fun _ h9 => h9) rfl dX2_isLate_15 ?_
    refine lv_iload_n hx hb dX2_isLate_18 rfl (lv_at hl 1 rfl) ?_
    refine va_iald hx hb hK hP 2 0 rfl rfl (deed_in hw_2 c_5) dX2_isLate_19 ?_
    refine lv_icmp_eq (tgt := 27) hx hb dX2_isLate_20 (by decide) (fun c_20 => ?_) (fun c_20 => ?_)
    · have c_20 : (((dDeedHours dy) xk.toNatClampNeg) = ((dDeedClocks dy) xk.toNatClampNeg)) := c_20
      have hR := hR.trans (if_pos c_20)
      refine lv_iconst (v := (0 : Int32)) hx hb dX2_isLate_27 (by decide) ?_
      exact hret _ _ (0 : Int32) () _ _ hR (Or.inl rfl) hP hD hS dX2_isLate_28
    · have c_20 : ¬ (((dDeedHours dy) xk.toNatClampNeg) = ((dDeedClocks dy) xk.toNatClampNeg)) := c_20
      have hR := hR.trans (if_neg c_20)
      refine lv_iconst (v := (1 : Int32)) hx hb dX2_isLate_23 (by decide) ?_
      refine lv_goto (tgt := 28) hx hb dX2_isLate_24 (by decide) ?_
      exact hret _ _ (1 : Int32) () _ _ hR (Or.inr rfl) hP hD hS dX2_isLate_28

abbrev rm_X2_firstLate : Room := { frames := 3, cells := 0, slots := 0, locals := 64 }
set_option maxHeartbeats 4000000 in
set_option maxRecDepth 100000 in
theorem c_X2_firstLate (l : Launch) (δ : va_G) (cI cJ cZ : ClassId) (aD0 aD1 aD2 aD3 aD4 aT0 : Nat) (dy : DS) : mMi l δ (mTy cI cJ cZ) yX2_firstLate wsX2_firstLate rm_X2_firstLate [.ref aD0] (wD cI aD0 aD1 aD2 aD3 aD4 aT0 dy) (S := Unit) (fun r _ => F_X2_firstLate dy = r) (fun _ => (wD cI aD0 aD1 aD2 aD3 aD4 aT0 dy)) := by
  refine mk_i (cc := cX2_firstLate) (maxL := 2) (by decide) rfl (Nat.le_of_ble_eq_true rfl) ?_
  intro p e s m args below meth c A Q ls H locs hx hb hml hts hown hK hNW hA hP hD hS hl hret
  have hown : s.vm.findClass RX2 = some m.cls := hown
  have hl : lv_has ls 2 [(0, .ref aD0)] := hl
  have hinX2 : ∀ w ∈ u_ws RX2 TX2 9, w ∈ wsX2_firstLate := (fun _ h => List.mem_cons_of_mem _ (List.mem_append_right _ (h)))
  have hR := F_X2_firstLate.eq_1 dy
  refine lv_iconst (v := (0 : Int32)) hx hb dX2_firstLate_0 (by decide) ?_
  refine lv_istore_n (lv' := [(1, .int (0 : Int32)), (0, .ref aD0)]) hx hb dX2_firstLate_1 rfl hl (by decide) rfl (fun ls hl => ?_)
  have hloop_2 : ∀ (n_2 : Nat) (i_2 : Nat) (H : Heap) (locs : List Loc) (ls : Array Slot), (hi_2 : i_2 ≤ (dDeeds dy).toNatClampNeg) → (hn_2 : (dDeeds dy).toNatClampNeg < i_2 + n_2) → (hP : va_P δ vwCl (wD cI aD0 aD1 aD2 aD3 aD4 aT0 dy) H) → (hD : va_D A (wD cI aD0 aD1 aD2 aD3 aD4 aT0 dy)) → (hS : va_S A s.heap H locs) → (hl : lv_has ls 2 [(1, .int (nI i_2)), (0, .ref aD0)]) → (hR : F_X2_firstLate dy = L_X2_firstLate_2 dy n_2 i_2) → W p l e rm_X2_firstLate s m args below meth c H locs 0 0 Q (F0 m 2 ls []) := by
    intro n_2
    induction n_2 with
    | zero => intro i_2 H locs ls hi_2 hn_2 hP hD hS hl hR; exact absurd hn_2 (by omega)
    | succ n_2 ih_2 =>
      intro i_2 H locs ls hi_2 hn_2 hP hD hS hl hR
      have hR := hR.trans (L_X2_firstLate_2_s dy n_2 i_2)
      refine lv_iload_n hx hb dX2_firstLate_2 rfl (lv_at hl 0 rfl) ?_
      refine lv_aload_n hx hb dX2_firstLate_3 rfl (lv_at hl 1 rfl) ?_
      refine va_get (D := δ) (ci := 2) (v := .int (dDeeds dy)) (C := RX2) (T := TX2) (N := 9) hx hb hts hinX2 hown hK hP 0 rfl rfl 2 (by decide) (hts (.fieldLink RX2 39 "GloveHours$Day" "deeds" "I") (List.mem_of_getElem? (i := 1) rfl)) (fun _ h9 => h9) rfl dX2_firstLate_4 ?_
      refine lv_icmp_ge (tgt := 26) hx hb dX2_firstLate_7 (by decide) (fun c_7 => ?_) (fun c_7 => ?_)
      · have c_7 : ((dDeeds dy) ≤ (nI i_2)) := c_7
        have hR := hR.trans (if_pos c_7)
        refine lv_bipush (v := (-6 : Int32)) hx hb dX2_firstLate_26 (by decide) ?_
        exact hret _ _ (-6 : Int32) () _ _ hR hP hD hS dX2_firstLate_28
      · have c_7 : ¬ ((dDeeds dy) ≤ (nI i_2)) := c_7
        have hR := hR.trans (if_neg c_7)
        have hlt_2 : i_2 < (dDeeds dy).toNatClampNeg := lt_c c_7 hi_2
        refine lv_aload_n hx hb dX2_firstLate_10 rfl (lv_at hl 1 rfl) ?_
        refine lv_iload_n hx hb dX2_firstLate_11 rfl (lv_at hl 0 rfl) ?_
        have hr := mrV (p := p) (e := e) (R := rm_X2_firstLate) (below := below) (meth := meth) (H := H) (locs := locs) (ls := ls) (As := [.int (nI i_2)]) (rest := []) (c_X2_isLate l δ cI cJ cZ aD0 aD1 aD2 aD3 aD4 aT0 dy (nI i_2)) hx hb hml hts hown hK hNW hP hD [0, 1, 2, 3, 4] rfl rfl 2 0 rfl rfl (cwV 1 hts gX2_firstLate_X2_isLate rfl rfl rfl (by decide +kernel) ⟨(Nat.le_of_ble_eq_true rfl), (Nat.le_of_ble_eq_true rfl)⟩) rfl hl.1 rfl (Nat.le_of_ble_eq_true rfl) dX2_firstLate_12
        refine mc_i (wr := ([] : va_W)) hr hP hD hS hA [0, 1, 2, 3, 4] [] [0, 1, 2, 3, 4] rfl rfl rfl rfl rfl (wn := fun _ => (wD cI aD0 aD1 aD2 aD3 aD4 aT0 dy)) (fun _ => rfl) (fun r_12 _ H locs hw_12 hP hD hS => ?_)
        obtain ⟨hw_12, z_12⟩ := hw_12
        have hP : va_P δ vwCl (wD cI aD0 aD1 aD2 aD3 aD4 aT0 dy) H := hP
        have hD : va_D A (wD cI aD0 aD1 aD2 aD3 aD4 aT0 dy) := hD
        have hR := bnd_eq hR hw_12.symm
        refine lv_if_eq (tgt := 20) hx hb dX2_firstLate_15 (by decide) (fun c_15 => ?_) (fun c_15 => ?_)
        · have c_15 : (r_12 = 0) := c_15
          have hR := hR.trans (if_pos c_15)
          refine lv_iinc (v := (nI (i_2 + 1))) (lv' := [(1, .int (nI (i_2 + 1))), (0, .ref aD0)]) hx hb dX2_firstLate_20 hl (k := 0) rfl (nI_1 i_2) (by decide) rfl (fun ls hl => ?_)
          refine lv_goto (tgt := 2) hx hb dX2_firstLate_23 (by decide) ?_
          exact ih_2 (i_2 + 1) _ _ _ (by omega) (by omega) hP hD hS (lv_sub hl [0, 1] rfl) hR
        · have c_15 : ¬ (r_12 = 0) := c_15
          have hR := hR.trans (if_neg c_15)
          refine lv_iload_n hx hb dX2_firstLate_18 rfl (lv_at hl 0 rfl) ?_
          exact hret _ _ (nI i_2) () _ _ hR hP hD hS dX2_firstLate_19
  exact hloop_2 ((dDeeds dy).toNatClampNeg + 1) 0 _ _ _ (by omega) (by omega) hP hD hS (lv_sub hl [0, 1] rfl) hR

abbrev rm_X2_countLate : Room := { frames := 3, cells := 0, slots := 0, locals := 64 }
set_option maxHeartbeats 4000000 in
set_option maxRecDepth 100000 in
theorem c_X2_countLate (l : Launch) (δ : va_G) (cI cJ cZ : ClassId) (aD0 aD1 aD2 aD3 aD4 aT0 : Nat) (dy : DS) : mMi l δ (mTy cI cJ cZ) yX2_countLate wsX2_countLate rm_X2_countLate [.ref aD0] (wD cI aD0 aD1 aD2 aD3 aD4 aT0 dy) (S := Unit) (fun r _ => F_X2_countLate dy = r) (fun _ => (wD cI aD0 aD1 aD2 aD3 aD4 aT0 dy)) := by
  refine mk_i (cc := cX2_countLate) (maxL := 3) (by decide) rfl (Nat.le_of_ble_eq_true rfl) ?_
  intro p e s m args below meth c A Q ls H locs hx hb hml hts hown hK hNW hA hP hD hS hl hret
  have hown : s.vm.findClass RX2 = some m.cls := hown
  have hl : lv_has ls 3 [(0, .ref aD0)] := hl
  have hinX2 : ∀ w ∈ u_ws RX2 TX2 9, w ∈ wsX2_countLate := (fun _ h => List.mem_cons_of_mem _ (List.mem_append_right _ (h)))
  have hR := F_X2_countLate.eq_1 dy
  refine lv_iconst (v := (0 : Int32)) hx hb dX2_countLate_0 (by decide) ?_
  refine lv_istore_n (lv' := [(1, .int (0 : Int32)), (0, .ref aD0)]) hx hb dX2_countLate_1 rfl hl (by decide) rfl (fun ls hl => ?_)
  refine lv_iconst (v := (0 : Int32)) hx hb dX2_countLate_2 (by decide) ?_
  refine lv_istore_n (lv' := [(2, .int (0 : Int32)), (1, .int (0 : Int32)), (0, .ref aD0)]) hx hb dX2_countLate_3 rfl hl (by decide) rfl (fun ls hl => ?_)
  have hloop_4 : ∀ (n_4 : Nat) (i_4 : Nat) (v1_4 : Int32) (H : Heap) (locs : List Loc) (ls : Array Slot), (hi_4 : i_4 ≤ (dDeeds dy).toNatClampNeg) → (hn_4 : (dDeeds dy).toNatClampNeg < i_4 + n_4) → (hP : va_P δ vwCl (wD cI aD0 aD1 aD2 aD3 aD4 aT0 dy) H) → (hD : va_D A (wD cI aD0 aD1 aD2 aD3 aD4 aT0 dy)) → (hS : va_S A s.heap H locs) → (hl : lv_has ls 3 [(2, .int (nI i_4)), (1, .int v1_4), (0, .ref aD0)]) → (kk : ∀ (w_4 : Int32) (H : Heap) (locs : List Loc) (ls : Array Slot), L_X2_countLate_4 dy n_4 i_4 v1_4 = w_4 → va_P δ vwCl (wD cI aD0 aD1 aD2 aD3 aD4 aT0 dy) H → va_D A (wD cI aD0 aD1 aD2 aD3 aD4 aT0 dy) → va_S A s.heap H locs → lv_has ls 3 [(1, .int w_4), (0, .ref aD0)] → W p l e rm_X2_countLate s m args below meth c H locs 0 0 Q (F0 m 29 ls [])) → W p l e rm_X2_countLate s m args below meth c H locs 0 0 Q (F0 m 4 ls []) := by
    intro n_4
    induction n_4 with
    | zero => intro i_4 v1_4 H locs ls hi_4 hn_4 hP hD hS hl kk; exact absurd hn_4 (by omega)
    | succ n_4 ih_4 =>
      intro i_4 v1_4 H locs ls hi_4 hn_4 hP hD hS hl kk
      have hR := L_X2_countLate_4_s dy n_4 i_4 v1_4
      refine lv_iload_n hx hb dX2_countLate_4 rfl (lv_at hl 0 rfl) ?_
      refine lv_aload_n hx hb dX2_countLate_5 rfl (lv_at hl 2 rfl) ?_
      refine va_get (D := δ) (ci := 2) (v := .int (dDeeds dy)) (C := RX2) (T := TX2) (N := 9) hx hb hts hinX2 hown hK hP 0 rfl rfl 2 (by decide) (hts (.fieldLink RX2 39 "GloveHours$Day" "deeds" "I") (List.mem_of_getElem? (i := 1) rfl)) (fun _ h9 => h9) rfl dX2_countLate_6 ?_
      refine lv_icmp_ge (tgt := 29) hx hb dX2_countLate_9 (by decide) (fun c_9 => ?_) (fun c_9 => ?_)
      · have c_9 : ((dDeeds dy) ≤ (nI i_4)) := c_9
        have hR := hR.trans (if_pos c_9)
        exact kk v1_4 H locs ls hR hP hD hS (lv_sub hl [1, 2] rfl)
      · have c_9 : ¬ ((dDeeds dy) ≤ (nI i_4)) := c_9
        have hR := hR.trans (if_neg c_9)
        have hlt_4 : i_4 < (dDeeds dy).toNatClampNeg := lt_c c_9 hi_4
        refine lv_aload_n hx hb dX2_countLate_12 rfl (lv_at hl 2 rfl) ?_
        refine lv_iload_n hx hb dX2_countLate_13 rfl (lv_at hl 0 rfl) ?_
        have hr := mrV (p := p) (e := e) (R := rm_X2_countLate) (below := below) (meth := meth) (H := H) (locs := locs) (ls := ls) (As := [.int (nI i_4)]) (rest := []) (c_X2_isLate l δ cI cJ cZ aD0 aD1 aD2 aD3 aD4 aT0 dy (nI i_4)) hx hb hml hts hown hK hNW hP hD [0, 1, 2, 3, 4] rfl rfl 2 0 rfl rfl (cwV 1 hts gX2_countLate_X2_isLate rfl rfl rfl (by decide +kernel) ⟨(Nat.le_of_ble_eq_true rfl), (Nat.le_of_ble_eq_true rfl)⟩) rfl hl.1 rfl (Nat.le_of_ble_eq_true rfl) dX2_countLate_14
        refine mc_i (wr := ([] : va_W)) hr hP hD hS hA [0, 1, 2, 3, 4] [] [0, 1, 2, 3, 4] rfl rfl rfl rfl rfl (wn := fun _ => (wD cI aD0 aD1 aD2 aD3 aD4 aT0 dy)) (fun _ => rfl) (fun r_14 _ H locs hw_14 hP hD hS => ?_)
        obtain ⟨hw_14, z_14⟩ := hw_14
        have hP : va_P δ vwCl (wD cI aD0 aD1 aD2 aD3 aD4 aT0 dy) H := hP
        have hD : va_D A (wD cI aD0 aD1 aD2 aD3 aD4 aT0 dy) := hD
        have hR := bnd_eq hR hw_14.symm
        refine lv_if_eq (tgt := 23) hx hb dX2_countLate_17 (by decide) (fun c_17 => ?_) (fun c_17 => ?_)
        · have c_17 : (r_14 = 0) := c_17
          have hR := hR.trans (if_pos c_17)
          refine lv_iinc (v := (nI (i_4 + 1))) (lv' := [(2, .int (nI (i_4 + 1))), (1, .int v1_4), (0, .ref aD0)]) hx hb dX2_countLate_23 hl (k := 0) rfl (nI_1 i_4) (by decide) rfl (fun ls hl => ?_)
          refine lv_goto (tgt := 4) hx hb dX2_countLate_26 (by decide) ?_
          exact ih_4 (i_4 + 1) v1_4 _ _ _ (by omega) (by omega) hP hD hS (lv_sub hl [0, 1, 2] rfl) (fun w_4 H locs ls he hP hD hS hl => kk w_4 H locs ls (hR.trans he) hP hD hS hl)
        · have c_17 : ¬ (r_14 = 0) := c_17
          have hR := hR.trans (if_neg c_17)
          refine lv_iinc (v := (v1_4 + (1 : Int32))) (lv' := [(1, .int (v1_4 + (1 : Int32))), (2, .int (nI i_4)), (0, .ref aD0)]) hx hb dX2_countLate_20 hl (k := 1) rfl rfl (by decide) rfl (fun ls hl => ?_)
          refine lv_iinc (v := (nI (i_4 + 1))) (lv' := [(2, .int (nI (i_4 + 1))), (1, .int (v1_4 + (1 : Int32))), (0, .ref aD0)]) hx hb dX2_countLate_23 hl (k := 1) rfl (nI_1 i_4) (by decide) rfl (fun ls hl => ?_)
          refine lv_goto (tgt := 4) hx hb dX2_countLate_26 (by decide) ?_
          exact ih_4 (i_4 + 1) (v1_4 + (1 : Int32)) _ _ _ (by omega) (by omega) hP hD hS (lv_sub hl [0, 1, 2] rfl) (fun w_4 H locs ls he hP hD hS hl => kk w_4 H locs ls (hR.trans he) hP hD hS hl)
  refine hloop_4 ((dDeeds dy).toNatClampNeg + 1) 0 (0 : Int32) _ _ _ (by omega) (by omega) hP hD hS (lv_sub hl [0, 1, 2] rfl) (fun w_4 H locs ls hw_4 hP hD hS hl => ?_)
  have hP : va_P δ vwCl (wD cI aD0 aD1 aD2 aD3 aD4 aT0 dy) H := hP
  have hD : va_D A (wD cI aD0 aD1 aD2 aD3 aD4 aT0 dy) := hD
  have hR := bnd_eq hR hw_4.symm
  refine lv_iload_n hx hb dX2_countLate_29 rfl (lv_at hl 0 rfl) ?_
  exact hret _ _ w_4 () _ _ hR hP hD hS dX2_countLate_30

abbrev rm_X2_longestBehind : Room := { frames := 2, cells := 0, slots := 0, locals := 43 }
set_option maxHeartbeats 4000000 in
set_option maxRecDepth 100000 in
theorem c_X2_longestBehind (l : Launch) (δ : va_G) (cI cJ cZ : ClassId) (aD0 aD1 aD2 aD3 aD4 aT0 : Nat) (dy : DS) (xk : Nat) (hk : xk < 99) : mMi l δ (mTy cI cJ cZ) yX2_longestBehind wsX2_longestBehind rm_X2_longestBehind [.ref aD0, .int (nI xk)] (wD cI aD0 aD1 aD2 aD3 aD4 aT0 dy) (S := Unit) (fun r _ => F_X2_longestBehind dy xk = r) (fun _ => (wD cI aD0 aD1 aD2 aD3 aD4 aT0 dy)) := by
  refine mk_i (cc := cX2_longestBehind) (maxL := 4) (by decide) rfl (Nat.le_of_ble_eq_true rfl) ?_
  intro p e s m args below meth c A Q ls H locs hx hb hml hts hown hK hNW hA hP hD hS hl hret
  have hown : s.vm.findClass RX2 = some m.cls := hown
  have hl : lv_has ls 4 [(0, .ref aD0), (1, .int (nI xk))] := hl
  have hinX2 : ∀ w ∈ u_ws RX2 TX2 9, w ∈ wsX2_longestBehind := (fun _ h => List.mem_cons_of_mem _ (List.mem_append_right _ (h)))
  have hR := F_X2_longestBehind.eq_1 dy xk
  refine lv_iconst (v := (0 : Int32)) hx hb dX2_longestBehind_0 (by decide) ?_
  refine lv_istore_n (lv' := [(2, .int (0 : Int32)), (0, .ref aD0), (1, .int (nI xk))]) hx hb dX2_longestBehind_1 rfl hl (by decide) rfl (fun ls hl => ?_)
  refine lv_iload_n hx hb dX2_longestBehind_2 rfl (lv_at hl 2 rfl) ?_
  refine lv_iconst (v := (1 : Int32)) hx hb dX2_longestBehind_3 (by decide) ?_
  refine lv_iadd hx hb dX2_longestBehind_4 ?_
  refine lv_topi (fun y_4 e_4 => ?_)
  obtain rfl : y_4 = (nI (xk + 1)) := e_4.trans (nI_add xk 1)
  refine lv_istore_n (lv' := [(3, .int (nI (xk + 1))), (2, .int (0 : Int32)), (0, .ref aD0), (1, .int (nI xk))]) hx hb dX2_longestBehind_5 rfl hl (by decide) rfl (fun ls hl => ?_)
  have hloop_6 : ∀ (n_6 : Nat) (i_6 : Nat) (v2_6 : Int32) (H : Heap) (locs : List Loc) (ls : Array Slot), (hi_6 : i_6 ≤ 99) → (hn_6 : 99 < i_6 + n_6) → (hP : va_P δ vwCl (wD cI aD0 aD1 aD2 aD3 aD4 aT0 dy) H) → (hD : va_D A (wD cI aD0 aD1 aD2 aD3 aD4 aT0 dy)) → (hS : va_S A s.heap H locs) → (hl : lv_has ls 4 [(3, .int (nI i_6)), (2, .int v2_6), (0, .ref aD0), (1, .int (nI xk))]) → (kk : ∀ (w_6 : Int32) (H : Heap) (locs : List Loc) (ls : Array Slot), L_X2_longestBehind_6 dy xk n_6 i_6 v2_6 = w_6 → va_P δ vwCl (wD cI aD0 aD1 aD2 aD3 aD4 aT0 dy) H → va_D A (wD cI aD0 aD1 aD2 aD3 aD4 aT0 dy) → va_S A s.heap H locs → lv_has ls 4 [(2, .int w_6), (0, .ref aD0), (1, .int (nI xk))] → W p l e rm_X2_longestBehind s m args below meth c H locs 0 0 Q (F0 m 60 ls [])) → W p l e rm_X2_longestBehind s m args below meth c H locs 0 0 Q (F0 m 6 ls []) := by
    intro n_6
    induction n_6 with
    | zero => intro i_6 v2_6 H locs ls hi_6 hn_6 hP hD hS hl kk; exact absurd hn_6 (by omega)
    | succ n_6 ih_6 =>
      intro i_6 v2_6 H locs ls hi_6 hn_6 hP hD hS hl kk
      have hR := L_X2_longestBehind_6_s dy xk n_6 i_6 v2_6
      refine lv_iload_n hx hb dX2_longestBehind_6 rfl (lv_at hl 0 rfl) ?_
      refine lv_bipush (v := (99 : Int32)) hx hb dX2_longestBehind_7 (by decide) ?_
      refine lv_icmp_ge (tgt := 60) hx hb dX2_longestBehind_9 (by decide) (fun c_9 => ?_) (fun c_9 => ?_)
      · have c_9 : ((99 : Int32) ≤ (nI i_6)) := c_9
        have hR := hR.trans (if_pos c_9)
        exact kk v2_6 H locs ls hR hP hD hS (lv_sub hl [1, 2, 3] rfl)
      · have c_9 : ¬ ((99 : Int32) ≤ (nI i_6)) := c_9
        have hR := hR.trans (if_neg c_9)
        have hlt_6 : i_6 < 99 := lt_g c_9 hi_6 (by decide)
        refine lv_iload_n hx hb dX2_longestBehind_12 rfl (lv_at hl 0 rfl) ?_
        refine lv_aload_n hx hb dX2_longestBehind_13 rfl (lv_at hl 2 rfl) ?_
        refine va_get (D := δ) (ci := 2) (v := .int (dDeeds dy)) (C := RX2) (T := TX2) (N := 9) hx hb hts hinX2 hown hK hP 0 rfl rfl 2 (by decide) (hts (.fieldLink RX2 39 "GloveHours$Day" "deeds" "I") (List.mem_of_getElem? (i := 1) rfl)) (fun _ h9 => h9) rfl dX2_longestBehind_14 ?_
        refine lv_icmp_ge (tgt := 60) hx hb dX2_longestBehind_17 (by decide) (fun c_17 => ?_) (fun c_17 => ?_)
        · have c_17 : ((dDeeds dy) ≤ (nI i_6)) := c_17
          have hR := hR.trans (if_pos c_17)
          exact kk v2_6 H locs ls hR hP hD hS (lv_sub hl [1, 2, 3] rfl)
        · have c_17 : ¬ ((dDeeds dy) ≤ (nI i_6)) := c_17
          have hR := hR.trans (if_neg c_17)
          refine lv_aload_n hx hb dX2_longestBehind_20 rfl (lv_at hl 2 rfl) ?_
          refine lv_iload_n hx hb dX2_longestBehind_21 rfl (lv_at hl 3 rfl) ?_
          have hr := mrV (p := p) (e := e) (R := rm_X2_longestBehind) (below := below) (meth := meth) (H := H) (locs := locs) (ls := ls) (As := [.int (nI xk)]) (rest := []) (c_X2_isDeed l δ cI cJ cZ aD0 aD1 aD2 aD3 aD4 aT0 dy (nI xk)) hx hb hml hts hown hK hNW hP hD [0, 1, 2, 3, 4] rfl rfl 2 0 rfl rfl (cwV 1 hts gX2_longestBehind_X2_isDeed rfl rfl rfl (by decide +kernel) ⟨(Nat.le_of_ble_eq_true rfl), (Nat.le_of_ble_eq_true rfl)⟩) rfl hl.1 rfl (Nat.le_of_ble_eq_true rfl) dX2_longestBehind_22
          refine mc_i (wr := ([] : va_W)) hr hP hD hS hA [0, 1, 2, 3, 4] [] [0, 1, 2, 3, 4] rfl rfl rfl rfl rfl (wn := fun _ => (wD cI aD0 aD1 aD2 aD3 aD4 aT0 dy)) (fun _ => rfl) (fun r_22 _ H locs hw_22 hP hD hS => ?_)
          obtain ⟨hw_22, z_22⟩ := hw_22
          have hP : va_P δ vwCl (wD cI aD0 aD1 aD2 aD3 aD4 aT0 dy) H := hP
          have hD : va_D A (wD cI aD0 aD1 aD2 aD3 aD4 aT0 dy) := hD
          have hR := bnd_eq hR hw_22.symm
          refine lv_if_eq (tgt := 54) hx hb dX2_longestBehind_25 (by decide) (fun c_25 => ?_) (fun c_25 => ?_)
          · have c_25 : (r_22 = 0) := c_25
            have hR := hR.trans (if_pos c_25)
            refine lv_iinc (v := (nI (i_6 + 1))) (lv' := [(3, .int (nI (i_6 + 1))), (2, .int v2_6), (0, .ref aD0), (1, .int (nI xk))]) hx hb dX2_longestBehind_54 hl (k := 0) rfl (nI_1 i_6) (by decide) rfl (fun ls hl => ?_)
            refine lv_goto (tgt := 6) hx hb dX2_longestBehind_57 (by decide) ?_
            exact ih_6 (i_6 + 1) v2_6 _ _ _ (by omega) (by omega) hP hD hS (lv_sub hl [0, 1, 2, 3] rfl) (fun w_6 H locs ls he hP hD hS hl => kk w_6 H locs ls (hR.trans he) hP hD hS hl)
          · have c_25 : ¬ (r_22 = 0) := c_25
            have hR := hR.trans (if_neg c_25)
            refine lv_aload_n hx hb dX2_longestBehind_28 rfl (lv_at hl 2 rfl) ?_
            refine va_get (D := δ) (ci := 2) (v := .ref aD1) (C := RX2) (T := TX2) (N := 9) hx hb hts hinX2 hown hK hP 0 rfl rfl 5 (by decide) (hts (.fieldLink RX2 18 "GloveHours$Day" "deedHours" "[I") (List.mem_of_getElem? (i := 2) rfl)) (fun _ h9 => h9) rfl dX2_longestBehind_29 ?_
            refine lv_iload_n hx hb dX2_longestBehind_32 rfl (lv_at hl 0 rfl) ?_
            refine va_iald hx hb hK hP 1 0 rfl rfl (vp_in_nI (by omega) (by decide)) dX2_longestBehind_33 ?_
            refine lv_aload_n hx hb dX2_longestBehind_34 rfl (lv_at hl 2 rfl) ?_
            refine va_get (D := δ) (ci := 2) (v := .ref aD1) (C := RX2) (T := TX2) (N := 9) hx hb hts hinX2 hown hK hP 0 rfl rfl 5 (by decide) (hts (.fieldLink RX2 18 "GloveHours$Day" "deedHours" "[I") (List.mem_of_getElem? (i := 2) rfl)) (fun _ h9 => h9) rfl dX2_longestBehind_35 ?_
            refine lv_iload_n hx hb dX2_longestBehind_38 rfl (lv_at hl 3 rfl) ?_
            refine va_iald hx hb hK hP 1 0 rfl rfl (vp_in_nI (by omega) (by decide)) dX2_longestBehind_39 ?_
            refine lv_icmp_lt (tgt := 54) hx hb dX2_longestBehind_40 (by decide) (fun c_40 => ?_) (fun c_40 => ?_)
            · have c_40 : (((dDeedHours dy) (nI i_6).toNatClampNeg) < ((dDeedHours dy) (nI xk).toNatClampNeg)) := c_40
              have hR := hR.trans (if_pos c_40)
              refine lv_iinc (v := (nI (i_6 + 1))) (lv' := [(3, .int (nI (i_6 + 1))), (2, .int v2_6), (0, .ref aD0), (1, .int (nI xk))]) hx hb dX2_longestBehind_54 hl (k := 0) rfl (nI_1 i_6) (by decide) rfl (fun ls hl => ?_)
              refine lv_goto (tgt := 6) hx hb dX2_longestBehind_57 (by decide) ?_
              exact ih_6 (i_6 + 1) v2_6 _ _ _ (by omega) (by omega) hP hD hS (lv_sub hl [0, 1, 2, 3] rfl) (fun w_6 H locs ls he hP hD hS hl => kk w_6 H locs ls (hR.trans he) hP hD hS hl)
            · have c_40 : ¬ (((dDeedHours dy) (nI i_6).toNatClampNeg) < ((dDeedHours dy) (nI xk).toNatClampNeg)) := c_40
              have hR := hR.trans (if_neg c_40)
              refine lv_iload_n hx hb dX2_longestBehind_43 rfl (lv_at hl 1 rfl) ?_
              refine lv_aload_n hx hb dX2_longestBehind_44 rfl (lv_at hl 2 rfl) ?_
              refine va_get (D := δ) (ci := 2) (v := .ref aD4) (C := RX2) (T := TX2) (N := 9) hx hb hts hinX2 hown hK hP 0 rfl rfl 8 (by decide) (hts (.fieldLink RX2 28 "GloveHours$Day" "longestFrom" "[I") (List.mem_of_getElem? (i := 3) rfl)) (fun _ h9 => h9) rfl dX2_longestBehind_45 ?_
              refine lv_iload_n hx hb dX2_longestBehind_48 rfl (lv_at hl 0 rfl) ?_
              refine va_iald hx hb hK hP 4 0 rfl rfl (vp_in_nI (by omega) (by decide)) dX2_longestBehind_49 ?_
              refine va_mmax hx hb (hml.trans hl.1.symm) hown (hts (.methodLink RX2 135 Lib.Math.max.name) (List.mem_of_getElem? (i := 4) rfl)) (hts (.static Lib.Math.max.name) (List.mem_of_getElem? (i := 5) rfl)) (hts (.initialized "java/lang/Math") (List.mem_of_getElem? (i := 6) rfl)) (hts (.code Lib.Math.max.name Lib.Math.max.code 2 (some .int)) (List.mem_of_getElem? (i := 7) rfl)) (Nat.le_of_ble_eq_true rfl) (Nat.le_of_ble_eq_true rfl) (Nat.zero_le _) (Nat.zero_le _) dX2_longestBehind_50 ?_
              refine lv_istore_n (lv' := [(2, .int (if v2_6 < ((dLongestFrom dy) (nI i_6).toNatClampNeg) then ((dLongestFrom dy) (nI i_6).toNatClampNeg) else v2_6)), (3, .int (nI i_6)), (0, .ref aD0), (1, .int (nI xk))]) hx hb dX2_longestBehind_53 rfl hl (by decide) rfl (fun ls hl => ?_)
              refine lv_iinc (v := (nI (i_6 + 1))) (lv' := [(3, .int (nI (i_6 + 1))), (2, .int (if v2_6 < ((dLongestFrom dy) (nI i_6).toNatClampNeg) then ((dLongestFrom dy) (nI i_6).toNatClampNeg) else v2_6)), (0, .ref aD0), (1, .int (nI xk))]) hx hb dX2_longestBehind_54 hl (k := 1) rfl (nI_1 i_6) (by decide) rfl (fun ls hl => ?_)
              refine lv_goto (tgt := 6) hx hb dX2_longestBehind_57 (by decide) ?_
              exact ih_6 (i_6 + 1) (if v2_6 < ((dLongestFrom dy) (nI i_6).toNatClampNeg) then ((dLongestFrom dy) (nI i_6).toNatClampNeg) else v2_6) _ _ _ (by omega) (by omega) hP hD hS (lv_sub hl [0, 1, 2, 3] rfl) (fun w_6 H locs ls he hP hD hS hl => kk w_6 H locs ls (hR.trans he) hP hD hS hl)
  refine hloop_6 (99 + 1) (xk + 1) (0 : Int32) _ _ _ (by omega) (by omega) hP hD hS (lv_sub hl [0, 1, 2, 3] rfl) (fun w_6 H locs ls hw_6 hP hD hS hl => ?_)
  have hP : va_P δ vwCl (wD cI aD0 aD1 aD2 aD3 aD4 aT0 dy) H := hP
  have hD : va_D A (wD cI aD0 aD1 aD2 aD3 aD4 aT0 dy) := hD
  have hR := bnd_eq hR hw_6.symm
  refine lv_iload_n hx hb dX2_longestBehind_60 rfl (lv_at hl 0 rfl) ?_
  exact hret _ _ w_6 () _ _ hR hP hD hS dX2_longestBehind_61

abbrev rm_X2_mostKept : Room := { frames := 3, cells := 0, slots := 0, locals := 66 }
set_option maxHeartbeats 4000000 in
set_option maxRecDepth 100000 in
theorem c_X2_mostKept (l : Launch) (δ : va_G) (cI cJ cZ : ClassId) (aD0 aD1 aD2 aD3 aD4 aT0 : Nat) (dy : DS) : mMi l δ (mTy cI cJ cZ) yX2_mostKept wsX2_mostKept rm_X2_mostKept [.ref aD0] (wD cI aD0 aD1 aD2 aD3 aD4 aT0 dy) (S := DS) (fun r u => F_X2_mostKept dy = (r, u)) (fun u => (wD cI aD0 aD1 aD2 aD3 aD4 aT0 u)) := by
  refine mk_i (cc := cX2_mostKept) (maxL := 3) (by decide) rfl (Nat.le_of_ble_eq_true rfl) ?_
  intro p e s m args below meth c A Q ls H locs hx hb hml hts hown hK hNW hA hP hD hS hl hret
  have hown : s.vm.findClass RX2 = some m.cls := hown
  have hl : lv_has ls 3 [(0, .ref aD0)] := hl
  have hinX2 : ∀ w ∈ u_ws RX2 TX2 9, w ∈ wsX2_mostKept := (fun _ h => List.mem_cons_of_mem _ (List.mem_append_right _ (h)))
  have hR := F_X2_mostKept.eq_1 dy
  refine lv_iconst (v := (0 : Int32)) hx hb dX2_mostKept_0 (by decide) ?_
  refine lv_istore_n (lv' := [(1, .int (0 : Int32)), (0, .ref aD0)]) hx hb dX2_mostKept_1 rfl hl (by decide) rfl (fun ls hl => ?_)
  refine lv_bipush (v := (98 : Int32)) hx hb dX2_mostKept_2 (by decide) ?_
  refine lv_istore_n (lv' := [(2, .int (98 : Int32)), (1, .int (0 : Int32)), (0, .ref aD0)]) hx hb dX2_mostKept_4 rfl hl (by decide) rfl (fun ls hl => ?_)
  have hloop_5 : ∀ (n_5 : Nat) (i_5 : Nat) (v1_5 : Int32) (dy_5 : DS) (H : Heap) (locs : List Loc) (ls : Array Slot), (hn_5 : i_5 < n_5) → (hi_5 : i_5 ≤ 99) → (hP : va_P δ vwCl (wD cI aD0 aD1 aD2 aD3 aD4 aT0 dy_5) H) → (hD : va_D A (wD cI aD0 aD1 aD2 aD3 aD4 aT0 dy_5)) → (hS : va_S A s.heap H locs) → (hl : lv_has ls 3 [(2, .int (nI i_5 + (-1 : Int32))), (1, .int v1_5), (0, .ref aD0)]) → (kk : ∀ (w_5 : Int32 × DS) (H : Heap) (locs : List Loc) (ls : Array Slot), L_X2_mostKept_5  n_5 i_5 v1_5 dy_5 = w_5 → va_P δ vwCl (wD cI aD0 aD1 aD2 aD3 aD4 aT0 w_5.2) H → va_D A (wD cI aD0 aD1 aD2 aD3 aD4 aT0 w_5.2) → va_S A s.heap H locs → lv_has ls 3 [(1, .int w_5.1), (0, .ref aD0)] → W p l e rm_X2_mostKept s m args below meth c H locs 0 0 Q (F0 m 51 ls [])) → W p l e rm_X2_mostKept s m args below meth c H locs 0 0 Q (F0 m 5 ls []) := by
    intro n_5
    induction n_5 with
    | zero => intro i_5 v1_5 dy_5 H locs ls hn_5 hi_5 hP hD hS hl kk; exact absurd hn_5 (by omega)
    | succ n_5 ih_5 =>
      intro i_5 v1_5 dy_5 H locs ls hn_5 hi_5 hP hD hS hl kk
      have hR := L_X2_mostKept_5_s  n_5 i_5 v1_5 dy_5
      refine lv_iload_n hx hb dX2_mostKept_5 rfl (lv_at hl 0 rfl) ?_
      refine lv_if_lt (tgt := 51) hx hb dX2_mostKept_6 (by decide) (fun c_6 => ?_) (fun c_6 => ?_)
      · have c_6 : ((nI i_5 + (-1 : Int32)) < 0) := c_6
        have hR := hR.trans (if_pos c_6)
        exact kk (v1_5, dy_5) H locs ls hR hP hD hS (lv_sub hl [1, 2] rfl)
      · have c_6 : ¬ ((nI i_5 + (-1 : Int32)) < 0) := c_6
        have hR := hR.trans (if_neg c_6)
        have hpos_5 : 0 < i_5 := dn_pos c_6
        have hl : lv_has ls 3 [(2, .int (nI (i_5 - 1))), (1, .int v1_5), (0, .ref aD0)] := by rw [← dn_e hpos_5]; exact hl
        refine lv_aload_n hx hb dX2_mostKept_9 rfl (lv_at hl 2 rfl) ?_
        refine va_get (D := δ) (ci := 2) (v := .ref aD4) (C := RX2) (T := TX2) (N := 9) hx hb hts hinX2 hown hK hP 0 rfl rfl 8 (by decide) (hts (.fieldLink RX2 28 "GloveHours$Day" "longestFrom" "[I") (List.mem_of_getElem? (i := 1) rfl)) (fun _ h9 => h9) rfl dX2_mostKept_10 ?_
        refine lv_iload_n hx hb dX2_mostKept_13 rfl (lv_at hl 0 rfl) ?_
        refine lv_aload_n hx hb dX2_mostKept_14 rfl (lv_at hl 2 rfl) ?_
        refine lv_iload_n hx hb dX2_mostKept_15 rfl (lv_at hl 0 rfl) ?_
        have hr := mrV (p := p) (e := e) (R := rm_X2_mostKept) (below := below) (meth := meth) (H := H) (locs := locs) (ls := ls) (As := [.int (nI (i_5 - 1))]) (rest := [.int (nI (i_5 - 1)), .ref aD4]) (c_X2_isDeed l δ cI cJ cZ aD0 aD1 aD2 aD3 aD4 aT0 dy_5 (nI (i_5 - 1))) hx hb hml hts hown hK hNW hP hD [0, 1, 2, 3, 4] rfl rfl 2 0 rfl rfl (cwV 1 hts gX2_mostKept_X2_isDeed rfl rfl rfl (by decide +kernel) ⟨(Nat.le_of_ble_eq_true rfl), (Nat.le_of_ble_eq_true rfl)⟩) rfl hl.1 rfl (Nat.le_of_ble_eq_true rfl) dX2_mostKept_16
        refine mc_i (wr := ([] : va_W)) hr hP hD hS hA [0, 1, 2, 3, 4] [] [0, 1, 2, 3, 4] rfl rfl rfl rfl rfl (wn := fun _ => (wD cI aD0 aD1 aD2 aD3 aD4 aT0 dy_5)) (fun _ => rfl) (fun r_16 _ H locs hw_16 hP hD hS => ?_)
        obtain ⟨hw_16, z_16⟩ := hw_16
        have hP : va_P δ vwCl (wD cI aD0 aD1 aD2 aD3 aD4 aT0 dy_5) H := hP
        have hD : va_D A (wD cI aD0 aD1 aD2 aD3 aD4 aT0 dy_5) := hD
        have hR := bnd_eq hR hw_16.symm
        refine lv_if_eq (tgt := 32) hx hb dX2_mostKept_19 (by decide) (fun c_19 => ?_) (fun c_19 => ?_)
        · have c_19 : (r_16 = 0) := c_19
          have hR := hR.trans (if_pos c_19)
          refine lv_iconst (v := (0 : Int32)) hx hb dX2_mostKept_32 (by decide) ?_
          refine va_iast hx hb hK hP hD hS 4 0 rfl rfl (vp_in_nI (by omega) (by decide)) dX2_mostKept_33 (fun H locs hP hD hS => ?_)
          have hP : va_P δ vwCl (wD cI aD0 aD1 aD2 aD3 aD4 aT0 (dActs dy_5, dDeeds dy_5, dStoppedAct dy_5, dStoppedWhy dy_5, dDeedHours dy_5, dDeedClocks dy_5, dDeedCourtiers dy_5, (upd (dLongestFrom dy_5) (nI (i_5 - 1)).toNatClampNeg (0 : Int32)))) H := hP
          have hD : va_D A (wD cI aD0 aD1 aD2 aD3 aD4 aT0 (dActs dy_5, dDeeds dy_5, dStoppedAct dy_5, dStoppedWhy dy_5, dDeedHours dy_5, dDeedClocks dy_5, dDeedCourtiers dy_5, (upd (dLongestFrom dy_5) (nI (i_5 - 1)).toNatClampNeg (0 : Int32)))) := hD
          refine lv_iload_n hx hb dX2_mostKept_34 rfl (lv_at hl 1 rfl) ?_
          refine lv_aload_n hx hb dX2_mostKept_35 rfl (lv_at hl 2 rfl) ?_
          refine va_get (D := δ) (ci := 2) (v := .ref aD4) (C := RX2) (T := TX2) (N := 9) hx hb hts hinX2 hown hK hP 0 rfl rfl 8 (by decide) (hts (.fieldLink RX2 28 "GloveHours$Day" "longestFrom" "[I") (List.mem_of_getElem? (i := 1) rfl)) (fun _ h9 => h9) rfl dX2_mostKept_36 ?_
          refine lv_iload_n hx hb dX2_mostKept_39 rfl (lv_at hl 0 rfl) ?_
          refine va_iald hx hb hK hP 4 0 rfl rfl (vp_in_nI (by omega) (by decide)) dX2_mostKept_40 ?_
          refine va_mmax hx hb (hml.trans hl.1.symm) hown (hts (.methodLink RX2 135 Lib.Math.max.name) (List.mem_of_getElem? (i := 2) rfl)) (hts (.static Lib.Math.max.name) (List.mem_of_getElem? (i := 3) rfl)) (hts (.initialized "java/lang/Math") (List.mem_of_getElem? (i := 4) rfl)) (hts (.code Lib.Math.max.name Lib.Math.max.code 2 (some .int)) (List.mem_of_getElem? (i := 5) rfl)) (Nat.le_of_ble_eq_true rfl) (Nat.le_of_ble_eq_true rfl) (Nat.zero_le _) (Nat.zero_le _) dX2_mostKept_41 ?_
          refine lv_istore_n (lv' := [(1, .int (if v1_5 < ((upd (dLongestFrom dy_5) (nI (i_5 - 1)).toNatClampNeg (0 : Int32)) (nI (i_5 - 1)).toNatClampNeg) then ((upd (dLongestFrom dy_5) (nI (i_5 - 1)).toNatClampNeg (0 : Int32)) (nI (i_5 - 1)).toNatClampNeg) else v1_5)), (2, .int (nI (i_5 - 1))), (0, .ref aD0)]) hx hb dX2_mostKept_44 rfl hl (by decide) rfl (fun ls hl => ?_)
          refine lv_iinc (v := (nI (i_5 - 1) + (-1 : Int32))) (lv' := [(2, .int (nI (i_5 - 1) + (-1 : Int32))), (1, .int (if v1_5 < ((upd (dLongestFrom dy_5) (nI (i_5 - 1)).toNatClampNeg (0 : Int32)) (nI (i_5 - 1)).toNatClampNeg) then ((upd (dLongestFrom dy_5) (nI (i_5 - 1)).toNatClampNeg (0 : Int32)) (nI (i_5 - 1)).toNatClampNeg) else v1_5)), (0, .ref aD0)]) hx hb dX2_mostKept_45 hl (k := 1) rfl rfl (by decide) rfl (fun ls hl => ?_)
          refine lv_goto (tgt := 5) hx hb dX2_mostKept_48 (by decide) ?_
          exact ih_5 (i_5 - 1) (if v1_5 < ((upd (dLongestFrom dy_5) (nI (i_5 - 1)).toNatClampNeg (0 : Int32)) (nI (i_5 - 1)).toNatClampNeg) then ((upd (dLongestFrom dy_5) (nI (i_5 - 1)).toNatClampNeg (0 : Int32)) (nI (i_5 - 1)).toNatClampNeg) else v1_5) (dActs dy_5, dDeeds dy_5, dStoppedAct dy_5, dStoppedWhy dy_5, dDeedHours dy_5, dDeedClocks dy_5, dDeedCourtiers dy_5, (upd (dLongestFrom dy_5) (nI (i_5 - 1)).toNatClampNeg (0 : Int32))) _ _ _ (by omega) (by omega) hP hD hS (lv_sub hl [0, 1, 2] rfl) (fun w_5 H locs ls he hP hD hS hl => kk w_5 H locs ls (hR.trans he) hP hD hS hl)
        · have c_19 : ¬ (r_16 = 0) := c_19
          have hR := hR.trans (if_neg c_19)
          refine lv_iconst (v := (1 : Int32)) hx hb dX2_mostKept_22 (by decide) ?_
          refine lv_aload_n hx hb dX2_mostKept_23 rfl (lv_at hl 2 rfl) ?_
          refine lv_iload_n hx hb dX2_mostKept_24 rfl (lv_at hl 0 rfl) ?_
          have hr := mrV (p := p) (e := e) (R := rm_X2_mostKept) (below := below) (meth := meth) (H := H) (locs := locs) (ls := ls) (As := [.int (nI (i_5 - 1))]) (rest := [.int (1 : Int32), .int (nI (i_5 - 1)), .ref aD4]) (c_X2_longestBehind l δ cI cJ cZ aD0 aD1 aD2 aD3 aD4 aT0 dy_5 (i_5 - 1) (by omega)) hx hb hml hts hown hK hNW hP hD [0, 1, 2, 3, 4] rfl rfl 2 0 rfl rfl (cwV 1 hts gX2_mostKept_X2_longestBehind rfl rfl rfl (by decide +kernel) ⟨(Nat.le_of_ble_eq_true rfl), (Nat.le_of_ble_eq_true rfl)⟩) rfl hl.1 rfl (Nat.le_of_ble_eq_true rfl) dX2_mostKept_25
          refine mc_i (wr := ([] : va_W)) hr hP hD hS hA [0, 1, 2, 3, 4] [] [0, 1, 2, 3, 4] rfl rfl rfl rfl rfl (wn := fun _ => (wD cI aD0 aD1 aD2 aD3 aD4 aT0 dy_5)) (fun _ => rfl) (fun r_25 _ H locs hw_25 hP hD hS => ?_)
          have hP : va_P δ vwCl (wD cI aD0 aD1 aD2 aD3 aD4 aT0 dy_5) H := hP
          have hD : va_D A (wD cI aD0 aD1 aD2 aD3 aD4 aT0 dy_5) := hD
          have hR := bnd_eq hR hw_25.symm
          refine lv_iadd hx hb dX2_mostKept_28 ?_
          refine lv_goto (tgt := 33) hx hb dX2_mostKept_29 (by decide) ?_
          refine va_iast hx hb hK hP hD hS 4 0 rfl rfl (vp_in_nI (by omega) (by decide)) dX2_mostKept_33 (fun H locs hP hD hS => ?_)
          have hP : va_P δ vwCl (wD cI aD0 aD1 aD2 aD3 aD4 aT0 (dActs dy_5, dDeeds dy_5, dStoppedAct dy_5, dStoppedWhy dy_5, dDeedHours dy_5, dDeedClocks dy_5, dDeedCourtiers dy_5, (upd (dLongestFrom dy_5) (nI (i_5 - 1)).toNatClampNeg ((1 : Int32) + r_25)))) H := hP
          have hD : va_D A (wD cI aD0 aD1 aD2 aD3 aD4 aT0 (dActs dy_5, dDeeds dy_5, dStoppedAct dy_5, dStoppedWhy dy_5, dDeedHours dy_5, dDeedClocks dy_5, dDeedCourtiers dy_5, (upd (dLongestFrom dy_5) (nI (i_5 - 1)).toNatClampNeg ((1 : Int32) + r_25)))) := hD
          refine lv_iload_n hx hb dX2_mostKept_34 rfl (lv_at hl 1 rfl) ?_
          refine lv_aload_n hx hb dX2_mostKept_35 rfl (lv_at hl 2 rfl) ?_
          refine va_get (D := δ) (ci := 2) (v := .ref aD4) (C := RX2) (T := TX2) (N := 9) hx hb hts hinX2 hown hK hP 0 rfl rfl 8 (by decide) (hts (.fieldLink RX2 28 "GloveHours$Day" "longestFrom" "[I") (List.mem_of_getElem? (i := 1) rfl)) (fun _ h9 => h9) rfl dX2_mostKept_36 ?_
          refine lv_iload_n hx hb dX2_mostKept_39 rfl (lv_at hl 0 rfl) ?_
          refine va_iald hx hb hK hP 4 0 rfl rfl (vp_in_nI (by omega) (by decide)) dX2_mostKept_40 ?_
          refine va_mmax hx hb (hml.trans hl.1.symm) hown (hts (.methodLink RX2 135 Lib.Math.max.name) (List.mem_of_getElem? (i := 2) rfl)) (hts (.static Lib.Math.max.name) (List.mem_of_getElem? (i := 3) rfl)) (hts (.initialized "java/lang/Math") (List.mem_of_getElem? (i := 4) rfl)) (hts (.code Lib.Math.max.name Lib.Math.max.code 2 (some .int)) (List.mem_of_getElem? (i := 5) rfl)) (Nat.le_of_ble_eq_true rfl) (Nat.le_of_ble_eq_true rfl) (Nat.zero_le _) (Nat.zero_le _) dX2_mostKept_41 ?_
          refine lv_istore_n (lv' := [(1, .int (if v1_5 < ((upd (dLongestFrom dy_5) (nI (i_5 - 1)).toNatClampNeg ((1 : Int32) + r_25)) (nI (i_5 - 1)).toNatClampNeg) then ((upd (dLongestFrom dy_5) (nI (i_5 - 1)).toNatClampNeg ((1 : Int32) + r_25)) (nI (i_5 - 1)).toNatClampNeg) else v1_5)), (2, .int (nI (i_5 - 1))), (0, .ref aD0)]) hx hb dX2_mostKept_44 rfl hl (by decide) rfl (fun ls hl => ?_)
          refine lv_iinc (v := (nI (i_5 - 1) + (-1 : Int32))) (lv' := [(2, .int (nI (i_5 - 1) + (-1 : Int32))), (1, .int (if v1_5 < ((upd (dLongestFrom dy_5) (nI (i_5 - 1)).toNatClampNeg ((1 : Int32) + r_25)) (nI (i_5 - 1)).toNatClampNeg) then ((upd (dLongestFrom dy_5) (nI (i_5 - 1)).toNatClampNeg ((1 : Int32) + r_25)) (nI (i_5 - 1)).toNatClampNeg) else v1_5)), (0, .ref aD0)]) hx hb dX2_mostKept_45 hl (k := 1) rfl rfl (by decide) rfl (fun ls hl => ?_)
          refine lv_goto (tgt := 5) hx hb dX2_mostKept_48 (by decide) ?_
          exact ih_5 (i_5 - 1) (if v1_5 < ((upd (dLongestFrom dy_5) (nI (i_5 - 1)).toNatClampNeg ((1 : Int32) + r_25)) (nI (i_5 - 1)).toNatClampNeg) then ((upd (dLongestFrom dy_5) (nI (i_5 - 1)).toNatClampNeg ((1 : Int32) + r_25)) (nI (i_5 - 1)).toNatClampNeg) else v1_5) (dActs dy_5, dDeeds dy_5, dStoppedAct dy_5, dStoppedWhy dy_5, dDeedHours dy_5, dDeedClocks dy_5, dDeedCourtiers dy_5, (upd (dLongestFrom dy_5) (nI (i_5 - 1)).toNatClampNeg ((1 : Int32) + r_25))) _ _ _ (by omega) (by omega) hP hD hS (lv_sub hl [0, 1, 2] rfl) (fun w_5 H locs ls he hP hD hS hl => kk w_5 H locs ls (hR.trans he) hP hD hS hl)
  refine hloop_5 (99 + 1) 99 (0 : Int32) dy _ _ _ (by omega) (by omega) hP hD hS (lv_sub hl [0, 1, 2] rfl) (fun w_5 H locs ls hw_5 hP hD hS hl => ?_)
  have hP : va_P δ vwCl (wD cI aD0 aD1 aD2 aD3 aD4 aT0 w_5.2) H := hP
  have hD : va_D A (wD cI aD0 aD1 aD2 aD3 aD4 aT0 w_5.2) := hD
  have hR := bnd_eq hR hw_5.symm
  refine lv_iload_n hx hb dX2_mostKept_51 rfl (lv_at hl 0 rfl) ?_
  exact hret _ _ w_5.1 w_5.2 _ _ hR hP hD hS dX2_mostKept_52

abbrev rm_X2_firstLeftOut : Room := { frames := 0, cells := 0, slots := 0, locals := 0 }
set_option maxHeartbeats 4000000 in
set_option maxRecDepth 100000 in
theorem c_X2_firstLeftOut (l : Launch) (δ : va_G) (cI cJ cZ : ClassId) (aD0 aD1 aD2 aD3 aD4 aT0 : Nat) (dy : DS) (xk : Int32) : mMi l δ (mTy cI cJ cZ) yX2_firstLeftOut wsX2_firstLeftOut rm_X2_firstLeftOut [.ref aD0, .int xk] (wD cI aD0 aD1 aD2 aD3 aD4 aT0 dy) (S := Unit) (fun r _ => F_X2_firstLeftOut dy xk = r) (fun _ => (wD cI aD0 aD1 aD2 aD3 aD4 aT0 dy)) := by
  refine mk_i (cc := cX2_firstLeftOut) (maxL := 5) (by decide) rfl (Nat.le_of_ble_eq_true rfl) ?_
  intro p e s m args below meth c A Q ls H locs hx hb hml hts hown hK hNW hA hP hD hS hl hret
  have hown : s.vm.findClass RX2 = some m.cls := hown
  have hl : lv_has ls 5 [(0, .ref aD0), (1, .int xk)] := hl
  have hinX2 : ∀ w ∈ u_ws RX2 TX2 9, w ∈ wsX2_firstLeftOut := (fun _ h => List.mem_cons_of_mem _ (List.mem_append_right _ (h)))
  have hR := F_X2_firstLeftOut.eq_1 dy xk
  refine lv_iconst (v := (0 : Int32)) hx hb dX2_firstLeftOut_0 (by decide) ?_
  refine lv_istore_n (lv' := [(2, .int (0 : Int32)), (0, .ref aD0), (1, .int xk)]) hx hb dX2_firstLeftOut_1 rfl hl (by decide) rfl (fun ls hl => ?_)
  refine lv_iload_n hx hb dX2_firstLeftOut_2 rfl (lv_at hl 2 rfl) ?_
  refine lv_istore_n (lv' := [(3, .int xk), (2, .int (0 : Int32)), (0, .ref aD0), (1, .int xk)]) hx hb dX2_firstLeftOut_3 rfl hl (by decide) rfl (fun ls hl => ?_)
  refine lv_iconst (v := (0 : Int32)) hx hb dX2_firstLeftOut_4 (by decide) ?_
  refine lv_istore (lv' := [(4, .int (0 : Int32)), (3, .int xk), (2, .int (0 : Int32)), (0, .ref aD0), (1, .int xk)]) hx hb dX2_firstLeftOut_5 hl (by decide) rfl (fun ls hl => ?_)
  have hloop_7 : ∀ (n_7 : Nat) (i_7 : Nat) (v3_7 : Int32) (v2_7 : Int32) (H : Heap) (locs : List Loc) (ls : Array Slot), (hi_7 : i_7 ≤ 99) → (hn_7 : 99 < i_7 + n_7) → (hP : va_P δ vwCl (wD cI aD0 aD1 aD2 aD3 aD4 aT0 dy) H) → (hD : va_D A (wD cI aD0 aD1 aD2 aD3 aD4 aT0 dy)) → (hS : va_S A s.heap H locs) → (hl : lv_has ls 5 [(4, .int (nI i_7)), (3, .int v3_7), (2, .int v2_7), (0, .ref aD0), (1, .int xk)]) → (hR : F_X2_firstLeftOut dy xk = L_X2_firstLeftOut_7 dy n_7 i_7 v3_7 v2_7) → W p l e rm_X2_firstLeftOut s m args below meth c H locs 0 0 Q (F0 m 7 ls []) := by
    intro n_7
    induction n_7 with
    | zero => intro i_7 v3_7 v2_7 H locs ls hi_7 hn_7 hP hD hS hl hR; exact absurd hn_7 (by omega)
    | succ n_7 ih_7 =>
      intro i_7 v3_7 v2_7 H locs ls hi_7 hn_7 hP hD hS hl hR
      have hR := hR.trans (L_X2_firstLeftOut_7_s dy n_7 i_7 v3_7 v2_7)
      refine lv_iload hx hb dX2_firstLeftOut_7 (lv_at hl 0 rfl) ?_
      refine lv_bipush (v := (99 : Int32)) hx hb dX2_firstLeftOut_9 (by decide) ?_
      refine lv_icmp_ge (tgt := 65) hx hb dX2_firstLeftOut_11 (by decide) (fun c_11 => ?_) (fun c_11 => ?_)
      · have c_11 : ((99 : Int32) ≤ (nI i_7)) := c_11
        have hR := hR.trans (if_pos c_11)
        refine lv_bipush (v := (-6 : Int32)) hx hb dX2_firstLeftOut_65 (by decide) ?_
        exact hret _ _ (-6 : Int32) () _ _ hR hP hD hS dX2_firstLeftOut_67
      · have c_11 : ¬ ((99 : Int32) ≤ (nI i_7)) := c_11
        have hR := hR.trans (if_neg c_11)
        have hlt_7 : i_7 < 99 := lt_g c_11 hi_7 (by decide)
        refine lv_iload hx hb dX2_firstLeftOut_14 (lv_at hl 0 rfl) ?_
        refine lv_aload_n hx hb dX2_firstLeftOut_16 rfl (lv_at hl 3 rfl) ?_
        refine va_get (D := δ) (ci := 2) (v := .int (dDeeds dy)) (C := RX2) (T := TX2) (N := 9) hx hb hts hinX2 hown hK hP 0 rfl rfl 2 (by decide) (hts (.fieldLink RX2 39 "GloveHours$Day" "deeds" "I") (List.mem_of_getElem? (i := 1) rfl)) (fun _ h9 => h9) rfl dX2_firstLeftOut_17 ?_
        refine lv_icmp_ge (tgt := 65) hx hb dX2_firstLeftOut_20 (by decide) (fun c_20 => ?_) (fun c_20 => ?_)
        · have c_20 : ((dDeeds dy) ≤ (nI i_7)) := c_20
          have hR := hR.trans (if_pos c_20)
          refine lv_bipush (v := (-6 : Int32)) hx hb dX2_firstLeftOut_65 (by decide) ?_
          exact hret _ _ (-6 : Int32) () _ _ hR hP hD hS dX2_firstLeftOut_67
        · have c_20 : ¬ ((dDeeds dy) ≤ (nI i_7)) := c_20
          have hR := hR.trans (if_neg c_20)
          refine lv_aload_n hx hb dX2_firstLeftOut_23 rfl (lv_at hl 3 rfl) ?_
          refine va_get (D := δ) (ci := 2) (v := .ref aD1) (C := RX2) (T := TX2) (N := 9) hx hb hts hinX2 hown hK hP 0 rfl rfl 5 (by decide) (hts (.fieldLink RX2 18 "GloveHours$Day" "deedHours" "[I") (List.mem_of_getElem? (i := 2) rfl)) (fun _ h9 => h9) rfl dX2_firstLeftOut_24 ?_
          refine lv_iload hx hb dX2_firstLeftOut_27 (lv_at hl 0 rfl) ?_
          refine va_iald hx hb hK hP 1 0 rfl rfl (vp_in_nI (by omega) (by decide)) dX2_firstLeftOut_29 ?_
          refine lv_iload_n hx hb dX2_firstLeftOut_30 rfl (lv_at hl 2 rfl) ?_
          refine lv_icmp_lt (tgt := 45) hx hb dX2_firstLeftOut_31 (by decide) (fun c_31 => ?_) (fun c_31 => ?_)
          · have c_31 : (((dDeedHours dy) (nI i_7).toNatClampNeg) < v2_7) := c_31
            have hR := hR.trans (if_pos c_31)
            refine lv_iload hx hb dX2_firstLeftOut_45 (lv_at hl 0 rfl) ?_
            exact hret _ _ (nI i_7) () _ _ hR hP hD hS dX2_firstLeftOut_47
          · have c_31 : ¬ (((dDeedHours dy) (nI i_7).toNatClampNeg) < v2_7) := c_31
            have hR := hR.trans (if_neg c_31)
            refine lv_aload_n hx hb dX2_firstLeftOut_34 rfl (lv_at hl 3 rfl) ?_
            refine va_get (D := δ) (ci := 2) (v := .ref aD4) (C := RX2) (T := TX2) (N := 9) hx hb hts hinX2 hown hK hP 0 rfl rfl 8 (by decide) (hts (.fieldLink RX2 28 "GloveHours$Day" "longestFrom" "[I") (List.mem_of_getElem? (i := 3) rfl)) (fun _ h9 => h9) rfl dX2_firstLeftOut_35 ?_
            refine lv_iload hx hb dX2_firstLeftOut_38 (lv_at hl 0 rfl) ?_
            refine va_iald hx hb hK hP 4 0 rfl rfl (vp_in_nI (by omega) (by decide)) dX2_firstLeftOut_40 ?_
            refine lv_iload_n hx hb dX2_firstLeftOut_41 rfl (lv_at hl 1 rfl) ?_
            refine lv_icmp_ge (tgt := 48) hx hb dX2_firstLeftOut_42 (by decide) (fun c_42 => ?_) (fun c_42 => ?_)
            · have c_42 : (v3_7 ≤ ((dLongestFrom dy) (nI i_7).toNatClampNeg)) := c_42
              have hR := hR.trans (if_pos c_42)
              refine lv_aload_n hx hb dX2_firstLeftOut_48 rfl (lv_at hl 3 rfl) ?_
              refine va_get (D := δ) (ci := 2) (v := .ref aD1) (C := RX2) (T := TX2) (N := 9) hx hb hts hinX2 hown hK hP 0 rfl rfl 5 (by decide) (hts (.fieldLink RX2 18 "GloveHours$Day" "deedHours" "[I") (List.mem_of_getElem? (i := 2) rfl)) (fun _ h9 => h9) rfl dX2_firstLeftOut_49 ?_
              refine lv_iload hx hb dX2_firstLeftOut_52 (lv_at hl 0 rfl) ?_
              refine va_iald hx hb hK hP 1 0 rfl rfl (vp_in_nI (by omega) (by decide)) dX2_firstLeftOut_54 ?_
              refine lv_istore_n (lv' := [(2, .int ((dDeedHours dy) (nI i_7).toNatClampNeg)), (4, .int (nI i_7)), (3, .int v3_7), (0, .ref aD0), (1, .int xk)]) hx hb dX2_firstLeftOut_55 rfl hl (by decide) rfl (fun ls hl => ?_)
              refine lv_iinc (v := (v3_7 + (-1 : Int32))) (lv' := [(3, .int (v3_7 + (-1 : Int32))), (2, .int ((dDeedHours dy) (nI i_7).toNatClampNeg)), (4, .int (nI i_7)), (0, .ref aD0), (1, .int xk)]) hx hb dX2_firstLeftOut_56 hl (k := 2) rfl rfl (by decide) rfl (fun ls hl => ?_)
              refine lv_iinc (v := (nI (i_7 + 1))) (lv' := [(4, .int (nI (i_7 + 1))), (3, .int (v3_7 + (-1 : Int32))), (2, .int ((dDeedHours dy) (nI i_7).toNatClampNeg)), (0, .ref aD0), (1, .int xk)]) hx hb dX2_firstLeftOut_59 hl (k := 2) rfl (nI_1 i_7) (by decide) rfl (fun ls hl => ?_)
              refine lv_goto (tgt := 7) hx hb dX2_firstLeftOut_62 (by decide) ?_
              exact ih_7 (i_7 + 1) (v3_7 + (-1 : Int32)) ((dDeedHours dy) (nI i_7).toNatClampNeg) _ _ _ (by omega) (by omega) hP hD hS (lv_sub hl [0, 1, 2, 3, 4] rfl) hR
            · have c_42 : ¬ (v3_7 ≤ ((dLongestFrom dy) (nI i_7).toNatClampNeg)) := c_42
              have hR := hR.trans (if_neg c_42)
              refine lv_iload hx hb dX2_firstLeftOut_45 (lv_at hl 0 rfl) ?_
              exact hret _ _ (nI i_7) () _ _ hR hP hD hS dX2_firstLeftOut_47
  exact hloop_7 (99 + 1) 0 xk (0 : Int32) _ _ _ (by omega) (by omega) hP hD hS (lv_sub hl [0, 1, 2, 3, 4] rfl) hR

abbrev rm_X2_addDeed : Room := { frames := 2, cells := 0, slots := 0, locals := 45 }
set_option maxHeartbeats 4000000 in
set_option maxRecDepth 100000 in
theorem c_X2_addDeed (l : Launch) (δ : va_G) (cI cJ cZ : ClassId) (aD0 aD1 aD2 aD3 aD4 aT0 aT1 aT2 aT3 aT4 aT5 : Nat) (dy : DS) (kT : KS) (xc : Int32) : mMv l δ (mTy cI cJ cZ) yX2_addDeed wsX2_addDeed rm_X2_addDeed [.ref aD0, .int xc] ((wD cI aD0 aD1 aD2 aD3 aD4 aT0 dy) ++ (wK cI aT0 aT1 aT2 aT3 aT4 aT5 kT)) (S := DS × KS) (fun u => F_X2_addDeed dy kT xc = u) (fun u => ((wD cI aD0 aD1 aD2 aD3 aD4 aT0 u.1) ++ (wK cI aT0 aT1 aT2 aT3 aT4 aT5 u.2))) := by
  refine mk_v (cc := cX2_addDeed) (maxL := 3) (by decide) rfl (Nat.le_of_ble_eq_true rfl) ?_
  intro p e s m args below meth c A Q ls H locs hx hb hml hts hown hK hNW hA hP hD hS hl hret
  have hown : s.vm.findClass RX2 = some m.cls := hown
  have hl : lv_has ls 3 [(0, .ref aD0), (1, .int xc)] := hl
  have hinX1 : ∀ w ∈ u_ws RX1 TX1 11, w ∈ wsX2_addDeed := (fun _ h => List.mem_cons_of_mem _ (List.mem_append_right _ (h)))
  have hinX2 : ∀ w ∈ u_ws RX2 TX2 9, w ∈ wsX2_addDeed := (fun _ h => List.mem_cons_of_mem _ (List.mem_append_left _ (List.mem_append_right _ (h))))
  have hR := F_X2_addDeed.eq_1 dy kT xc
  refine lv_aload_n hx hb dX2_addDeed_0 rfl (lv_at hl 0 rfl) ?_
  refine va_get (D := δ) (ci := 2) (v := .int (dDeeds dy)) (C := RX2) (T := TX2) (N := 9) hx hb hts hinX2 hown hK hP 0 rfl rfl 2 (by decide) (hts (.fieldLink RX2 39 "GloveHours$Day" "deeds" "I") (List.mem_of_getElem? (i := 1) rfl)) (fun _ h9 => h9) rfl dX2_addDeed_1 ?_
  refine lv_iconst (v := (0 : Int32)) hx hb dX2_addDeed_4 (by decide) ?_
  refine lv_bipush (v := (98 : Int32)) hx hb dX2_addDeed_5 (by decide) ?_
  have hr := mrN (p := p) (e := e) (R := rm_X2_addDeed) (below := below) (meth := meth) (H := H) (locs := locs) (ls := ls) (As := [.int (dDeeds dy), .int (0 : Int32), .int (98 : Int32)]) (rest := []) (c_X5_isWithin l δ cI cJ cZ (dDeeds dy) (0 : Int32) (98 : Int32)) hx hb hml hts hown hK hNW hP hD [] rfl rfl (va_cnB 3 hts gX2_addDeed_X5_isWithin_n111 rfl rfl rfl hNW.2.1 (hts (.initialized RX5) (List.mem_of_getElem? (i := 8) rfl)) (by decide +kernel) ⟨(Nat.le_of_ble_eq_true rfl), (Nat.le_of_ble_eq_true rfl)⟩) (hts (.static yX5_isWithin) (List.mem_of_getElem? (i := 7) rfl)) rfl hl.1 rfl (Nat.le_of_ble_eq_true rfl) dX2_addDeed_7
  refine mc_i (wr := ((wD cI aD0 aD1 aD2 aD3 aD4 aT0 dy) ++ (wK cI aT0 aT1 aT2 aT3 aT4 aT5 kT))) hr hP hD hS hA [] [0, 1, 2, 3, 4, 5, 6, 7, 8, 9, 10] [0, 1, 2, 3, 4, 5, 6, 7, 8, 9, 10] rfl rfl rfl rfl rfl (wn := fun _ => ((wD cI aD0 aD1 aD2 aD3 aD4 aT0 dy) ++ (wK cI aT0 aT1 aT2 aT3 aT4 aT5 kT))) (fun _ => rfl) (fun r_7 _ H locs hw_7 hP hD hS => ?_)
  obtain ⟨hw_7, z_7⟩ := hw_7
  have hP : va_P δ vwCl ((wD cI aD0 aD1 aD2 aD3 aD4 aT0 dy) ++ (wK cI aT0 aT1 aT2 aT3 aT4 aT5 kT)) H := hP
  have hD : va_D A ((wD cI aD0 aD1 aD2 aD3 aD4 aT0 dy) ++ (wK cI aT0 aT1 aT2 aT3 aT4 aT5 kT)) := hD
  have hR := bnd_eq hR hw_7.symm
  refine lv_if_ne (tgt := 14) hx hb dX2_addDeed_10 (by decide) (fun c_10 => ?_) (fun c_10 => ?_)
  · have c_10 : ¬ (r_7 = 0) := c_10
    have hR := hR.trans (if_neg c_10)
    refine lv_aload_n hx hb dX2_addDeed_14 rfl (lv_at hl 0 rfl) ?_
    refine va_get (D := δ) (ci := 2) (v := .ref aT0) (C := RX2) (T := TX2) (N := 9) hx hb hts hinX2 hown hK hP 0 rfl rfl 0 (by decide) (hts (.fieldLink RX2 12 "GloveHours$Day" "court" "LGloveHours$Court;") (List.mem_of_getElem? (i := 2) rfl)) (fun _ h9 => h9) rfl dX2_addDeed_15 ?_
    refine lv_iload_n hx hb dX2_addDeed_18 rfl (lv_at hl 1 rfl) ?_
    have hr := mrV (p := p) (e := e) (R := rm_X2_addDeed) (below := below) (meth := meth) (H := H) (locs := locs) (ls := ls) (As := [.int xc]) (rest := []) (c_X1_rightOf l δ cI cJ cZ aT0 aT1 aT2 aT3 aT4 aT5 kT xc) hx hb hml hts hown hK hNW hP hD [5, 6, 7, 8, 9, 10] rfl rfl 1 0 rfl rfl (cwV 1 hts gX2_addDeed_X1_rightOf rfl rfl rfl (by decide +kernel) ⟨(Nat.le_of_ble_eq_true rfl), (Nat.le_of_ble_eq_true rfl)⟩) rfl hl.1 rfl (Nat.le_of_ble_eq_true rfl) dX2_addDeed_19
    refine mc_i (wr := (wD cI aD0 aD1 aD2 aD3 aD4 aT0 dy)) hr hP hD hS hA [5, 6, 7, 8, 9, 10] [0, 1, 2, 3, 4] [0, 1, 2, 3, 4, 5, 6, 7, 8, 9, 10] rfl rfl rfl rfl rfl (wn := fun _ => ((wD cI aD0 aD1 aD2 aD3 aD4 aT0 dy) ++ (wK cI aT0 aT1 aT2 aT3 aT4 aT5 kT))) (fun _ => rfl) (fun r_19 _ H locs hw_19 hP hD hS => ?_)
    have hP : va_P δ vwCl ((wD cI aD0 aD1 aD2 aD3 aD4 aT0 dy) ++ (wK cI aT0 aT1 aT2 aT3 aT4 aT5 kT)) H := hP
    have hD : va_D A ((wD cI aD0 aD1 aD2 aD3 aD4 aT0 dy) ++ (wK cI aT0 aT1 aT2 aT3 aT4 aT5 kT)) := hD
    have hR := bnd_eq hR hw_19.symm
    refine lv_istore_n (lv' := [(2, .int r_19), (0, .ref aD0), (1, .int xc)]) hx hb dX2_addDeed_22 rfl hl (by decide) rfl (fun ls hl => ?_)
    refine lv_aload_n hx hb dX2_addDeed_23 rfl (lv_at hl 1 rfl) ?_
    refine va_get (D := δ) (ci := 2) (v := .ref aD1) (C := RX2) (T := TX2) (N := 9) hx hb hts hinX2 hown hK hP 0 rfl rfl 5 (by decide) (hts (.fieldLink RX2 18 "GloveHours$Day" "deedHours" "[I") (List.mem_of_getElem? (i := 3) rfl)) (fun _ h9 => h9) rfl dX2_addDeed_24 ?_
    refine lv_aload_n hx hb dX2_addDeed_27 rfl (lv_at hl 1 rfl) ?_
    refine va_get (D := δ) (ci := 2) (v := .int (dDeeds dy)) (C := RX2) (T := TX2) (N := 9) hx hb hts hinX2 hown hK hP 0 rfl rfl 2 (by decide) (hts (.fieldLink RX2 39 "GloveHours$Day" "deeds" "I") (List.mem_of_getElem? (i := 1) rfl)) (fun _ h9 => h9) rfl dX2_addDeed_28 ?_
    refine lv_iload_n hx hb dX2_addDeed_31 rfl (lv_at hl 0 rfl) ?_
    refine va_iast hx hb hK hP hD hS 1 0 rfl rfl (wi_in hw_7 c_10 (by decide)) dX2_addDeed_32 (fun H locs hP hD hS => ?_)
    have hP : va_P δ vwCl ((wD cI aD0 aD1 aD2 aD3 aD4 aT0 (dActs dy, dDeeds dy, dStoppedAct dy, dStoppedWhy dy, (upd (dDeedHours dy) (dDeeds dy).toNatClampNeg r_19), dDeedClocks dy, dDeedCourtiers dy, dLongestFrom dy)) ++ (wK cI aT0 aT1 aT2 aT3 aT4 aT5 kT)) H := hP
    have hD : va_D A ((wD cI aD0 aD1 aD2 aD3 aD4 aT0 (dActs dy, dDeeds dy, dStoppedAct dy, dStoppedWhy dy, (upd (dDeedHours dy) (dDeeds dy).toNatClampNeg r_19), dDeedClocks dy, dDeedCourtiers dy, dLongestFrom dy)) ++ (wK cI aT0 aT1 aT2 aT3 aT4 aT5 kT)) := hD
    refine lv_aload_n hx hb dX2_addDeed_33 rfl (lv_at hl 1 rfl) ?_
    refine va_get (D := δ) (ci := 2) (v := .ref aD2) (C := RX2) (T := TX2) (N := 9) hx hb hts hinX2 hown hK hP 0 rfl rfl 6 (by decide) (hts (.fieldLink RX2 22 "GloveHours$Day" "deedClocks" "[I") (List.mem_of_getElem? (i := 4) rfl)) (fun _ h9 => h9) rfl dX2_addDeed_34 ?_
    refine lv_aload_n hx hb dX2_addDeed_37 rfl (lv_at hl 1 rfl) ?_
    refine va_get (D := δ) (ci := 2) (v := .int (dDeeds dy)) (C := RX2) (T := TX2) (N := 9) hx hb hts hinX2 hown hK hP 0 rfl rfl 2 (by decide) (hts (.fieldLink RX2 39 "GloveHours$Day" "deeds" "I") (List.mem_of_getElem? (i := 1) rfl)) (fun _ h9 => h9) rfl dX2_addDeed_38 ?_
    refine lv_aload_n hx hb dX2_addDeed_41 rfl (lv_at hl 1 rfl) ?_
    refine va_get (D := δ) (ci := 2) (v := .ref aT0) (C := RX2) (T := TX2) (N := 9) hx hb hts hinX2 hown hK hP 0 rfl rfl 0 (by decide) (hts (.fieldLink RX2 12 "GloveHours$Day" "court" "LGloveHours$Court;") (List.mem_of_getElem? (i := 2) rfl)) (fun _ h9 => h9) rfl dX2_addDeed_42 ?_
    refine va_get (D := δ) (ci := 1) (v := .int (kClock kT)) (C := RX1) (T := TX1) (N := 11) hx hb hts hinX1 hown hK hP 5 rfl rfl 1 (by decide) (hts (.fieldLink RX2 118 "GloveHours$Court" "clock" "I") (List.mem_of_getElem? (i := 5) rfl)) (fun _ h9 => h9) rfl dX2_addDeed_45 ?_
    refine va_iast hx hb hK hP hD hS 2 0 rfl rfl (wi_in hw_7 c_10 (by decide)) dX2_addDeed_48 (fun H locs hP hD hS => ?_)
    have hP : va_P δ vwCl ((wD cI aD0 aD1 aD2 aD3 aD4 aT0 (dActs dy, dDeeds dy, dStoppedAct dy, dStoppedWhy dy, (upd (dDeedHours dy) (dDeeds dy).toNatClampNeg r_19), (upd (dDeedClocks dy) (dDeeds dy).toNatClampNeg (kClock kT)), dDeedCourtiers dy, dLongestFrom dy)) ++ (wK cI aT0 aT1 aT2 aT3 aT4 aT5 kT)) H := hP
    have hD : va_D A ((wD cI aD0 aD1 aD2 aD3 aD4 aT0 (dActs dy, dDeeds dy, dStoppedAct dy, dStoppedWhy dy, (upd (dDeedHours dy) (dDeeds dy).toNatClampNeg r_19), (upd (dDeedClocks dy) (dDeeds dy).toNatClampNeg (kClock kT)), dDeedCourtiers dy, dLongestFrom dy)) ++ (wK cI aT0 aT1 aT2 aT3 aT4 aT5 kT)) := hD
    refine lv_aload_n hx hb dX2_addDeed_49 rfl (lv_at hl 1 rfl) ?_
    refine va_get (D := δ) (ci := 2) (v := .ref aD3) (C := RX2) (T := TX2) (N := 9) hx hb hts hinX2 hown hK hP 0 rfl rfl 7 (by decide) (hts (.fieldLink RX2 25 "GloveHours$Day" "deedCourtiers" "[I") (List.mem_of_getElem? (i := 6) rfl)) (fun _ h9 => h9) rfl dX2_addDeed_50 ?_
    refine lv_aload_n hx hb dX2_addDeed_53 rfl (lv_at hl 1 rfl) ?_
    refine va_get (D := δ) (ci := 2) (v := .int (dDeeds dy)) (C := RX2) (T := TX2) (N := 9) hx hb hts hinX2 hown hK hP 0 rfl rfl 2 (by decide) (hts (.fieldLink RX2 39 "GloveHours$Day" "deeds" "I") (List.mem_of_getElem? (i := 1) rfl)) (fun _ h9 => h9) rfl dX2_addDeed_54 ?_
    refine lv_iload_n hx hb dX2_addDeed_57 rfl (lv_at hl 2 rfl) ?_
    refine va_iast hx hb hK hP hD hS 3 0 rfl rfl (wi_in hw_7 c_10 (by decide)) dX2_addDeed_58 (fun H locs hP hD hS => ?_)
    have hP : va_P δ vwCl ((wD cI aD0 aD1 aD2 aD3 aD4 aT0 (dActs dy, dDeeds dy, dStoppedAct dy, dStoppedWhy dy, (upd (dDeedHours dy) (dDeeds dy).toNatClampNeg r_19), (upd (dDeedClocks dy) (dDeeds dy).toNatClampNeg (kClock kT)), (upd (dDeedCourtiers dy) (dDeeds dy).toNatClampNeg xc), dLongestFrom dy)) ++ (wK cI aT0 aT1 aT2 aT3 aT4 aT5 kT)) H := hP
    have hD : va_D A ((wD cI aD0 aD1 aD2 aD3 aD4 aT0 (dActs dy, dDeeds dy, dStoppedAct dy, dStoppedWhy dy, (upd (dDeedHours dy) (dDeeds dy).toNatClampNeg r_19), (upd (dDeedClocks dy) (dDeeds dy).toNatClampNeg (kClock kT)), (upd (dDeedCourtiers dy) (dDeeds dy).toNatClampNeg xc), dLongestFrom dy)) ++ (wK cI aT0 aT1 aT2 aT3 aT4 aT5 kT)) := hD
    refine lv_aload_n hx hb dX2_addDeed_59 rfl (lv_at hl 1 rfl) ?_
    refine lv_dup hx hb dX2_addDeed_60 rfl ?_
    refine va_get (D := δ) (ci := 2) (v := .int (dDeeds dy)) (C := RX2) (T := TX2) (N := 9) hx hb hts hinX2 hown hK hP 0 rfl rfl 2 (by decide) (hts (.fieldLink RX2 39 "GloveHours$Day" "deeds" "I") (List.mem_of_getElem? (i := 1) rfl)) (fun _ h9 => h9) rfl dX2_addDeed_61 ?_
    refine lv_iconst (v := (1 : Int32)) hx hb dX2_addDeed_64 (by decide) ?_
    refine lv_iadd hx hb dX2_addDeed_65 ?_
    refine va_put (D := δ) (ci := 2) (v := .int ((dDeeds dy) + (1 : Int32))) (ty := .int) (C := RX2) (T := TX2) (N := 9) hx hb hts hinX2 tyX2 tyX2_ok nmX2 hown hK hP hD hS 0 rfl rfl 2 (by decide) (hts (.fieldLink RX2 39 "GloveHours$Day" "deeds" "I") (List.mem_of_getElem? (i := 1) rfl)) (fun _ h9 => h9) rfl (by decide +kernel) rfl rfl (Nat.le_of_ble_eq_true rfl) dX2_addDeed_66 (fun H locs hP hD hS => ?_)
    have hP : va_P δ vwCl ((wD cI aD0 aD1 aD2 aD3 aD4 aT0 (dActs dy, ((dDeeds dy) + (1 : Int32)), dStoppedAct dy, dStoppedWhy dy, (upd (dDeedHours dy) (dDeeds dy).toNatClampNeg r_19), (upd (dDeedClocks dy) (dDeeds dy).toNatClampNeg (kClock kT)), (upd (dDeedCourtiers dy) (dDeeds dy).toNatClampNeg xc), dLongestFrom dy)) ++ (wK cI aT0 aT1 aT2 aT3 aT4 aT5 kT)) H := hP
    have hD : va_D A ((wD cI aD0 aD1 aD2 aD3 aD4 aT0 (dActs dy, ((dDeeds dy) + (1 : Int32)), dStoppedAct dy, dStoppedWhy dy, (upd (dDeedHours dy) (dDeeds dy).toNatClampNeg r_19), (upd (dDeedClocks dy) (dDeeds dy).toNatClampNeg (kClock kT)), (upd (dDeedCourtiers dy) (dDeeds dy).toNatClampNeg xc), dLongestFrom dy)) ++ (wK cI aT0 aT1 aT2 aT3 aT4 aT5 kT)) := hD
    refine lv_aload_n hx hb dX2_addDeed_69 rfl (lv_at hl 1 rfl) ?_
    refine va_get (D := δ) (ci := 2) (v := .ref aT0) (C := RX2) (T := TX2) (N := 9) hx hb hts hinX2 hown hK hP 0 rfl rfl 0 (by decide) (hts (.fieldLink RX2 12 "GloveHours$Day" "court" "LGloveHours$Court;") (List.mem_of_getElem? (i := 2) rfl)) (fun _ h9 => h9) rfl dX2_addDeed_70 ?_
    refine lv_iload_n hx hb dX2_addDeed_73 rfl (lv_at hl 2 rfl) ?_
    refine lv_iload_n hx hb dX2_addDeed_74 rfl (lv_at hl 0 rfl) ?_
    have hr := mrV (p := p) (e := e) (R := rm_X2_addDeed) (below := below) (meth := meth) (H := H) (locs := locs) (ls := ls) (As := [.int xc, .int r_19]) (rest := []) (c_X1_usePair l δ cI cJ cZ aT0 aT1 aT2 aT3 aT4 aT5 kT xc r_19) hx hb hml hts hown hK hNW hP hD [5, 6, 7, 8, 9, 10] rfl rfl 1 0 rfl rfl (cwV 2 hts gX2_addDeed_X1_usePair rfl rfl rfl (by decide +kernel) ⟨(Nat.le_of_ble_eq_true rfl), (Nat.le_of_ble_eq_true rfl)⟩) rfl hl.1 rfl (Nat.le_of_ble_eq_true rfl) dX2_addDeed_75
    refine mc_v (wr := (wD cI aD0 aD1 aD2 aD3 aD4 aT0 (dActs dy, ((dDeeds dy) + (1 : Int32)), dStoppedAct dy, dStoppedWhy dy, (upd (dDeedHours dy) (dDeeds dy).toNatClampNeg r_19), (upd (dDeedClocks dy) (dDeeds dy).toNatClampNeg (kClock kT)), (upd (dDeedCourtiers dy) (dDeeds dy).toNatClampNeg xc), dLongestFrom dy))) hr hP hD hS hA [5, 6, 7, 8, 9, 10] [0, 1, 2, 3, 4] [0, 1, 2, 3, 4, 5, 6, 7, 8, 9, 10] rfl rfl rfl rfl rfl (wn := fun u_75 => ((wD cI aD0 aD1 aD2 aD3 aD4 aT0 (dActs dy, ((dDeeds dy) + (1 : Int32)), dStoppedAct dy, dStoppedWhy dy, (upd (dDeedHours dy) (dDeeds dy).toNatClampNeg r_19), (upd (dDeedClocks dy) (dDeeds dy).toNatClampNeg (kClock kT)), (upd (dDeedCourtiers dy) (dDeeds dy).toNatClampNeg xc), dLongestFrom dy)) ++ (wK cI aT0 aT1 aT2 aT3 aT4 aT5 u_75))) (fun _ => rfl) (fun u_75 H locs hw_75 hP hD hS => ?_)
    have hP : va_P δ vwCl ((wD cI aD0 aD1 aD2 aD3 aD4 aT0 (dActs dy, ((dDeeds dy) + (1 : Int32)), dStoppedAct dy, dStoppedWhy dy, (upd (dDeedHours dy) (dDeeds dy).toNatClampNeg r_19), (upd (dDeedClocks dy) (dDeeds dy).toNatClampNeg (kClock kT)), (upd (dDeedCourtiers dy) (dDeeds dy).toNatClampNeg xc), dLongestFrom dy)) ++ (wK cI aT0 aT1 aT2 aT3 aT4 aT5 u_75)) H := hP
    have hD : va_D A ((wD cI aD0 aD1 aD2 aD3 aD4 aT0 (dActs dy, ((dDeeds dy) + (1 : Int32)), dStoppedAct dy, dStoppedWhy dy, (upd (dDeedHours dy) (dDeeds dy).toNatClampNeg r_19), (upd (dDeedClocks dy) (dDeeds dy).toNatClampNeg (kClock kT)), (upd (dDeedCourtiers dy) (dDeeds dy).toNatClampNeg xc), dLongestFrom dy)) ++ (wK cI aT0 aT1 aT2 aT3 aT4 aT5 u_75)) := hD
    have hR := bnd_eq hR hw_75.symm
    exact hret _ _ ((dActs dy, ((dDeeds dy) + (1 : Int32)), dStoppedAct dy, dStoppedWhy dy, (upd (dDeedHours dy) (dDeeds dy).toNatClampNeg r_19), (upd (dDeedClocks dy) (dDeeds dy).toNatClampNeg (kClock kT)), (upd (dDeedCourtiers dy) (dDeeds dy).toNatClampNeg xc), dLongestFrom dy), u_75) _ _ hR hP hD hS dX2_addDeed_78
  · have c_10 : (r_7 = 0) := c_10
    have hR := hR.trans (if_pos c_10)
    exact hret _ _ (dy, kT) _ _ hR hP hD hS dX2_addDeed_13

abbrev rm_X2_playDeeds : Room := { frames := 3, cells := 0, slots := 0, locals := 67 }
set_option maxHeartbeats 4000000 in
set_option maxRecDepth 100000 in
theorem c_X2_playDeeds (l : Launch) (δ : va_G) (cI cJ cZ : ClassId) (aD0 aD1 aD2 aD3 aD4 aT0 aT1 aT2 aT3 aT4 aT5 : Nat) (dy : DS) (kT : KS) (xa : Int32) (xb : Int32) (xw : Int32) : mMi l δ (mTy cI cJ cZ) yX2_playDeeds wsX2_playDeeds rm_X2_playDeeds [.ref aD0, .int xa, .int xb, .int xw] ((wD cI aD0 aD1 aD2 aD3 aD4 aT0 dy) ++ (wK cI aT0 aT1 aT2 aT3 aT4 aT5 kT)) (S := DS × KS) (fun r u => F_X2_playDeeds dy kT xa xb xw = (r, u)) (fun u => ((wD cI aD0 aD1 aD2 aD3 aD4 aT0 u.1) ++ (wK cI aT0 aT1 aT2 aT3 aT4 aT5 u.2))) := by
  refine mk_i (cc := cX2_playDeeds) (maxL := 4) (by decide) rfl (Nat.le_of_ble_eq_true rfl) ?_
  intro p e s m args below meth c A Q ls H locs hx hb hml hts hown hK hNW hA hP hD hS hl hret
  have hown : s.vm.findClass RX2 = some m.cls := hown
  have hl : lv_has ls 4 [(0, .ref aD0), (1, .int xa), (2, .int xb), (3, .int xw)] := hl
  have hR := F_X2_playDeeds.eq_1 dy kT xa xb xw
  refine lv_iload_n hx hb dX2_playDeeds_0 rfl (lv_at hl 3 rfl) ?_
  refine lv_if_ne (tgt := 19) hx hb dX2_playDeeds_1 (by decide) (fun c_1 => ?_) (fun c_1 => ?_)
  · have c_1 : ¬ (xw = 0) := c_1
    have hR := hR.trans (if_neg c_1)
    refine lv_iload_n hx hb dX2_playDeeds_19 rfl (lv_at hl 3 rfl) ?_
    exact hret _ _ xw (dy, kT) _ _ hR hP hD hS dX2_playDeeds_20
  · have c_1 : (xw = 0) := c_1
    have hR := hR.trans (if_pos c_1)
    refine lv_aload_n hx hb dX2_playDeeds_4 rfl (lv_at hl 0 rfl) ?_
    refine lv_iload_n hx hb dX2_playDeeds_5 rfl (lv_at hl 1 rfl) ?_
    have hr := mrV (p := p) (e := e) (R := rm_X2_playDeeds) (below := below) (meth := meth) (H := H) (locs := locs) (ls := ls) (As := [.int xa]) (rest := []) (c_X2_addDeed l δ cI cJ cZ aD0 aD1 aD2 aD3 aD4 aT0 aT1 aT2 aT3 aT4 aT5 dy kT xa) hx hb hml hts hown hK hNW hP hD [0, 1, 2, 3, 4, 5, 6, 7, 8, 9, 10] rfl rfl 2 0 rfl rfl (cwV 1 hts gX2_playDeeds_X2_addDeed rfl rfl rfl (by decide +kernel) ⟨(Nat.le_of_ble_eq_true rfl), (Nat.le_of_ble_eq_true rfl)⟩) rfl hl.1 rfl (Nat.le_of_ble_eq_true rfl) dX2_playDeeds_6
    refine mc_v (wr := ([] : va_W)) hr hP hD hS hA [0, 1, 2, 3, 4, 5, 6, 7, 8, 9, 10] [] [0, 1, 2, 3, 4, 5, 6, 7, 8, 9, 10] rfl rfl rfl rfl rfl (wn := fun u_6 => ((wD cI aD0 aD1 aD2 aD3 aD4 aT0 u_6.1) ++ (wK cI aT0 aT1 aT2 aT3 aT4 aT5 u_6.2))) (fun _ => rfl) (fun u_6 H locs hw_6 hP hD hS => ?_)
    have hP : va_P δ vwCl ((wD cI aD0 aD1 aD2 aD3 aD4 aT0 u_6.1) ++ (wK cI aT0 aT1 aT2 aT3 aT4 aT5 u_6.2)) H := hP
    have hD : va_D A ((wD cI aD0 aD1 aD2 aD3 aD4 aT0 u_6.1) ++ (wK cI aT0 aT1 aT2 aT3 aT4 aT5 u_6.2)) := hD
    have hR := bnd_eq hR hw_6.symm
    refine lv_iload_n hx hb dX2_playDeeds_9 rfl (lv_at hl 2 rfl) ?_
    refine lv_iload_n hx hb dX2_playDeeds_10 rfl (lv_at hl 1 rfl) ?_
    refine lv_icmp_eq (tgt := 19) hx hb dX2_playDeeds_11 (by decide) (fun c_11 => ?_) (fun c_11 => ?_)
    · have c_11 : (xb = xa) := c_11
      have hR := hR.trans (if_pos c_11)
      refine lv_iload_n hx hb dX2_playDeeds_19 rfl (lv_at hl 3 rfl) ?_
      exact hret _ _ xw (u_6.1, u_6.2) _ _ hR hP hD hS dX2_playDeeds_20
    · have c_11 : ¬ (xb = xa) := c_11
      have hR := hR.trans (if_neg c_11)
      refine lv_aload_n hx hb dX2_playDeeds_14 rfl (lv_at hl 0 rfl) ?_
      refine lv_iload_n hx hb dX2_playDeeds_15 rfl (lv_at hl 2 rfl) ?_
      have hr := mrV (p := p) (e := e) (R := rm_X2_playDeeds) (below := below) (meth := meth) (H := H) (locs := locs) (ls := ls) (As := [.int xb]) (rest := []) (c_X2_addDeed l δ cI cJ cZ aD0 aD1 aD2 aD3 aD4 aT0 aT1 aT2 aT3 aT4 aT5 u_6.1 u_6.2 xb) hx hb hml hts hown hK hNW hP hD [0, 1, 2, 3, 4, 5, 6, 7, 8, 9, 10] rfl rfl 2 0 rfl rfl (cwV 1 hts gX2_playDeeds_X2_addDeed rfl rfl rfl (by decide +kernel) ⟨(Nat.le_of_ble_eq_true rfl), (Nat.le_of_ble_eq_true rfl)⟩) rfl hl.1 rfl (Nat.le_of_ble_eq_true rfl) dX2_playDeeds_16
      refine mc_v (wr := ([] : va_W)) hr hP hD hS hA [0, 1, 2, 3, 4, 5, 6, 7, 8, 9, 10] [] [0, 1, 2, 3, 4, 5, 6, 7, 8, 9, 10] rfl rfl rfl rfl rfl (wn := fun u_16 => ((wD cI aD0 aD1 aD2 aD3 aD4 aT0 u_16.1) ++ (wK cI aT0 aT1 aT2 aT3 aT4 aT5 u_16.2))) (fun _ => rfl) (fun u_16 H locs hw_16 hP hD hS => ?_)
      have hP : va_P δ vwCl ((wD cI aD0 aD1 aD2 aD3 aD4 aT0 u_16.1) ++ (wK cI aT0 aT1 aT2 aT3 aT4 aT5 u_16.2)) H := hP
      have hD : va_D A ((wD cI aD0 aD1 aD2 aD3 aD4 aT0 u_16.1) ++ (wK cI aT0 aT1 aT2 aT3 aT4 aT5 u_16.2)) := hD
      have hR := bnd_eq hR hw_16.symm
      refine lv_iload_n hx hb dX2_playDeeds_19 rfl (lv_at hl 3 rfl) ?_
      exact hret _ _ xw (u_16.1, u_16.2) _ _ hR hP hD hS dX2_playDeeds_20

abbrev rm_X2_playDraw : Room := { frames := 4, cells := 0, slots := 0, locals := 90 }
set_option maxHeartbeats 4000000 in
set_option maxRecDepth 100000 in
theorem c_X2_playDraw (l : Launch) (δ : va_G) (cI cJ cZ : ClassId) (aD0 aD1 aD2 aD3 aD4 aT0 aT1 aT2 aT3 aT4 aT5 : Nat) (dy : DS) (kT : KS) (xx : Int32) : mMv l δ (mTy cI cJ cZ) yX2_playDraw wsX2_playDraw rm_X2_playDraw [.ref aD0, .int xx] ((wD cI aD0 aD1 aD2 aD3 aD4 aT0 dy) ++ (wK cI aT0 aT1 aT2 aT3 aT4 aT5 kT)) (S := DS × KS) (fun u => F_X2_playDraw dy kT xx = u) (fun u => ((wD cI aD0 aD1 aD2 aD3 aD4 aT0 u.1) ++ (wK cI aT0 aT1 aT2 aT3 aT4 aT5 u.2))) := by
  refine mk_v (cc := cX2_playDraw) (maxL := 4) (by decide) rfl (Nat.le_of_ble_eq_true rfl) ?_
  intro p e s m args below meth c A Q ls H locs hx hb hml hts hown hK hNW hA hP hD hS hl hret
  have hown : s.vm.findClass RX2 = some m.cls := hown
  have hl : lv_has ls 4 [(0, .ref aD0), (1, .int xx)] := hl
  have hinX2 : ∀ w ∈ u_ws RX2 TX2 9, w ∈ wsX2_playDraw := (fun _ h => List.mem_cons_of_mem _ (List.mem_append_left _ (List.mem_append_right _ (h))))
  have hR := F_X2_playDraw.eq_1 dy kT xx
  refine lv_iload_n hx hb dX2_playDraw_0 rfl (lv_at hl 1 rfl) ?_
  refine lv_bipush (v := (6 : Int32)) hx hb dX2_playDraw_1 (by decide) ?_
  refine lv_irem hx hb dX2_playDraw_3 (by decide) ?_
  refine lv_istore_n (lv' := [(2, .int (xx - xx / (6 : Int32) * (6 : Int32))), (0, .ref aD0), (1, .int xx)]) hx hb dX2_playDraw_4 rfl hl (by decide) rfl (fun ls hl => ?_)
  refine lv_iload_n hx hb dX2_playDraw_5 rfl (lv_at hl 2 rfl) ?_
  refine lv_bipush (v := (24 : Int32)) hx hb dX2_playDraw_6 (by decide) ?_
  refine lv_idiv hx hb dX2_playDraw_8 (by decide) ?_
  refine lv_bipush (v := (24 : Int32)) hx hb dX2_playDraw_9 (by decide) ?_
  refine lv_irem hx hb dX2_playDraw_11 (by decide) ?_
  refine lv_istore_n (lv' := [(3, .int ((xx / (24 : Int32)) - (xx / (24 : Int32)) / (24 : Int32) * (24 : Int32))), (2, .int (xx - xx / (6 : Int32) * (6 : Int32))), (0, .ref aD0), (1, .int xx)]) hx hb dX2_playDraw_12 rfl hl (by decide) rfl (fun ls hl => ?_)
  refine lv_iload_n hx hb dX2_playDraw_13 rfl (lv_at hl 3 rfl) ?_
  refine lv_bipush (v := (6 : Int32)) hx hb dX2_playDraw_14 (by decide) ?_
  refine lv_idiv hx hb dX2_playDraw_16 (by decide) ?_
  refine lv_iconst (v := (4 : Int32)) hx hb dX2_playDraw_17 (by decide) ?_
  refine lv_irem hx hb dX2_playDraw_18 (by decide) ?_
  by_cases c_19_0 : ((xx / (6 : Int32)) - (xx / (6 : Int32)) / (4 : Int32) * (4 : Int32)) = (0 : Int32)
  · have hR := hR.trans (if_pos c_19_0)
    refine lv_tableIn (tgt := 44) (off := 25) hx hb dX2_playDraw_19 (by rw [c_19_0]; decide) (by rw [c_19_0]; decide) (by rw [c_19_0]; rfl) (by decide) ?_
    refine lv_aload_n hx hb dX2_playDraw_44 rfl (lv_at hl 2 rfl) ?_
    refine va_get (D := δ) (ci := 2) (v := .ref aT0) (C := RX2) (T := TX2) (N := 9) hx hb hts hinX2 hown hK hP 0 rfl rfl 0 (by decide) (hts (.fieldLink RX2 12 "GloveHours$Day" "court" "LGloveHours$Court;") (List.mem_of_getElem? (i := 1) rfl)) (fun _ h9 => h9) rfl dX2_playDraw_45 ?_
    have hr := mrV (p := p) (e := e) (R := rm_X2_playDraw) (below := below) (meth := meth) (H := H) (locs := locs) (ls := ls) (As := []) (rest := []) (c_X1_passHour l δ cI cJ cZ aT0 aT1 aT2 aT3 aT4 aT5 kT) hx hb hml hts hown hK hNW hP hD [5, 6, 7, 8, 9, 10] rfl rfl 1 0 rfl rfl (cwV 0 hts gX2_playDraw_X1_passHour rfl rfl rfl (by decide +kernel) ⟨(Nat.le_of_ble_eq_true rfl), (Nat.le_of_ble_eq_true rfl)⟩) rfl hl.1 rfl (Nat.le_of_ble_eq_true rfl) dX2_playDraw_48
    refine mc_v (wr := (wD cI aD0 aD1 aD2 aD3 aD4 aT0 dy)) hr hP hD hS hA [5, 6, 7, 8, 9, 10] [0, 1, 2, 3, 4] [0, 1, 2, 3, 4, 5, 6, 7, 8, 9, 10] rfl rfl rfl rfl rfl (wn := fun u_48 => ((wD cI aD0 aD1 aD2 aD3 aD4 aT0 dy) ++ (wK cI aT0 aT1 aT2 aT3 aT4 aT5 u_48))) (fun _ => rfl) (fun u_48 H locs hw_48 hP hD hS => ?_)
    have hP : va_P δ vwCl ((wD cI aD0 aD1 aD2 aD3 aD4 aT0 dy) ++ (wK cI aT0 aT1 aT2 aT3 aT4 aT5 u_48)) H := hP
    have hD : va_D A ((wD cI aD0 aD1 aD2 aD3 aD4 aT0 dy) ++ (wK cI aT0 aT1 aT2 aT3 aT4 aT5 u_48)) := hD
    have hR := bnd_eq hR hw_48.symm
    refine lv_goto (tgt := 95) hx hb dX2_playDraw_51 (by decide) ?_
    exact hret _ _ (dy, u_48) _ _ hR hP hD hS dX2_playDraw_95
  have hR := hR.trans (if_neg c_19_0)
  by_cases c_19_1 : ((xx / (6 : Int32)) - (xx / (6 : Int32)) / (4 : Int32) * (4 : Int32)) = (1 : Int32)
  · have hR := hR.trans (if_pos c_19_1)
    refine lv_tableIn (tgt := 54) (off := 35) hx hb dX2_playDraw_19 (by rw [c_19_1]; decide) (by rw [c_19_1]; decide) (by rw [c_19_1]; rfl) (by decide) ?_
    refine lv_aload_n hx hb dX2_playDraw_54 rfl (lv_at hl 2 rfl) ?_
    refine va_get (D := δ) (ci := 2) (v := .ref aT0) (C := RX2) (T := TX2) (N := 9) hx hb hts hinX2 hown hK hP 0 rfl rfl 0 (by decide) (hts (.fieldLink RX2 12 "GloveHours$Day" "court" "LGloveHours$Court;") (List.mem_of_getElem? (i := 1) rfl)) (fun _ h9 => h9) rfl dX2_playDraw_55 ?_
    refine lv_iload_n hx hb dX2_playDraw_58 rfl (lv_at hl 1 rfl) ?_
    refine lv_iload_n hx hb dX2_playDraw_59 rfl (lv_at hl 0 rfl) ?_
    have hr := mrV (p := p) (e := e) (R := rm_X2_playDraw) (below := below) (meth := meth) (H := H) (locs := locs) (ls := ls) (As := [.int (xx - xx / (6 : Int32) * (6 : Int32)), .int ((xx / (24 : Int32)) - (xx / (24 : Int32)) / (24 : Int32) * (24 : Int32))]) (rest := []) (c_X1_putOnRight l δ cI cJ cZ aT0 aT1 aT2 aT3 aT4 aT5 kT (xx - xx / (6 : Int32) * (6 : Int32)) ((xx / (24 : Int32)) - (xx / (24 : Int32)) / (24 : Int32) * (24 : Int32))) hx hb hml hts hown hK hNW hP hD [5, 6, 7, 8, 9, 10] rfl rfl 1 0 rfl rfl (cwV 2 hts gX2_playDraw_X1_putOnRight rfl rfl rfl (by decide +kernel) ⟨(Nat.le_of_ble_eq_true rfl), (Nat.le_of_ble_eq_true rfl)⟩) rfl hl.1 rfl (Nat.le_of_ble_eq_true rfl) dX2_playDraw_60
    refine mc_i (wr := (wD cI aD0 aD1 aD2 aD3 aD4 aT0 dy)) hr hP hD hS hA [5, 6, 7, 8, 9, 10] [0, 1, 2, 3, 4] [0, 1, 2, 3, 4, 5, 6, 7, 8, 9, 10] rfl rfl rfl rfl rfl (wn := fun u_60 => ((wD cI aD0 aD1 aD2 aD3 aD4 aT0 dy) ++ (wK cI aT0 aT1 aT2 aT3 aT4 aT5 u_60))) (fun _ => rfl) (fun r_60 u_60 H locs hw_60 hP hD hS => ?_)
    have hP : va_P δ vwCl ((wD cI aD0 aD1 aD2 aD3 aD4 aT0 dy) ++ (wK cI aT0 aT1 aT2 aT3 aT4 aT5 u_60)) H := hP
    have hD : va_D A ((wD cI aD0 aD1 aD2 aD3 aD4 aT0 dy) ++ (wK cI aT0 aT1 aT2 aT3 aT4 aT5 u_60)) := hD
    have hR := bnd_eq hR hw_60.symm
    refine lv_pop hx hb dX2_playDraw_63 rfl ?_
    refine lv_goto (tgt := 95) hx hb dX2_playDraw_64 (by decide) ?_
    exact hret _ _ (dy, u_60) _ _ hR hP hD hS dX2_playDraw_95
  have hR := hR.trans (if_neg c_19_1)
  by_cases c_19_2 : ((xx / (6 : Int32)) - (xx / (6 : Int32)) / (4 : Int32) * (4 : Int32)) = (2 : Int32)
  · have hR := hR.trans (if_pos c_19_2)
    refine lv_tableIn (tgt := 67) (off := 48) hx hb dX2_playDraw_19 (by rw [c_19_2]; decide) (by rw [c_19_2]; decide) (by rw [c_19_2]; rfl) (by decide) ?_
    refine lv_aload_n hx hb dX2_playDraw_67 rfl (lv_at hl 2 rfl) ?_
    refine va_get (D := δ) (ci := 2) (v := .ref aT0) (C := RX2) (T := TX2) (N := 9) hx hb hts hinX2 hown hK hP 0 rfl rfl 0 (by decide) (hts (.fieldLink RX2 12 "GloveHours$Day" "court" "LGloveHours$Court;") (List.mem_of_getElem? (i := 1) rfl)) (fun _ h9 => h9) rfl dX2_playDraw_68 ?_
    refine lv_iload_n hx hb dX2_playDraw_71 rfl (lv_at hl 1 rfl) ?_
    refine lv_iload_n hx hb dX2_playDraw_72 rfl (lv_at hl 0 rfl) ?_
    have hr := mrV (p := p) (e := e) (R := rm_X2_playDraw) (below := below) (meth := meth) (H := H) (locs := locs) (ls := ls) (As := [.int (xx - xx / (6 : Int32) * (6 : Int32)), .int ((xx / (24 : Int32)) - (xx / (24 : Int32)) / (24 : Int32) * (24 : Int32))]) (rest := []) (c_X1_putOnLeft l δ cI cJ cZ aT0 aT1 aT2 aT3 aT4 aT5 kT (xx - xx / (6 : Int32) * (6 : Int32)) ((xx / (24 : Int32)) - (xx / (24 : Int32)) / (24 : Int32) * (24 : Int32))) hx hb hml hts hown hK hNW hP hD [5, 6, 7, 8, 9, 10] rfl rfl 1 0 rfl rfl (cwV 2 hts gX2_playDraw_X1_putOnLeft rfl rfl rfl (by decide +kernel) ⟨(Nat.le_of_ble_eq_true rfl), (Nat.le_of_ble_eq_true rfl)⟩) rfl hl.1 rfl (Nat.le_of_ble_eq_true rfl) dX2_playDraw_73
    refine mc_i (wr := (wD cI aD0 aD1 aD2 aD3 aD4 aT0 dy)) hr hP hD hS hA [5, 6, 7, 8, 9, 10] [0, 1, 2, 3, 4] [0, 1, 2, 3, 4, 5, 6, 7, 8, 9, 10] rfl rfl rfl rfl rfl (wn := fun u_73 => ((wD cI aD0 aD1 aD2 aD3 aD4 aT0 dy) ++ (wK cI aT0 aT1 aT2 aT3 aT4 aT5 u_73))) (fun _ => rfl) (fun r_73 u_73 H locs hw_73 hP hD hS => ?_)
    have hP : va_P δ vwCl ((wD cI aD0 aD1 aD2 aD3 aD4 aT0 dy) ++ (wK cI aT0 aT1 aT2 aT3 aT4 aT5 u_73)) H := hP
    have hD : va_D A ((wD cI aD0 aD1 aD2 aD3 aD4 aT0 dy) ++ (wK cI aT0 aT1 aT2 aT3 aT4 aT5 u_73)) := hD
    have hR := bnd_eq hR hw_73.symm
    refine lv_pop hx hb dX2_playDraw_76 rfl ?_
    refine lv_goto (tgt := 95) hx hb dX2_playDraw_77 (by decide) ?_
    exact hret _ _ (dy, u_73) _ _ hR hP hD hS dX2_playDraw_95
  have hR := hR.trans (if_neg c_19_2)
  refine lv_tableOut (tgt := 80) hx hb dX2_playDraw_19 (by have e0 : ((xx / (6 : Int32)) - (xx / (6 : Int32)) / (4 : Int32) * (4 : Int32)).toInt ≠ 0 := fun e => c_19_0 (Int32.toInt_inj.mp e); have e1 : ((xx / (6 : Int32)) - (xx / (6 : Int32)) / (4 : Int32) * (4 : Int32)).toInt ≠ 1 := fun e => c_19_1 (Int32.toInt_inj.mp e); have e2 : ((xx / (6 : Int32)) - (xx / (6 : Int32)) / (4 : Int32) * (4 : Int32)).toInt ≠ 2 := fun e => c_19_2 (Int32.toInt_inj.mp e); omega) (by decide) ?_
  refine lv_aload_n hx hb dX2_playDraw_80 rfl (lv_at hl 2 rfl) ?_
  refine lv_iload_n hx hb dX2_playDraw_81 rfl (lv_at hl 1 rfl) ?_
  refine lv_iload_n hx hb dX2_playDraw_82 rfl (lv_at hl 1 rfl) ?_
  refine lv_aload_n hx hb dX2_playDraw_83 rfl (lv_at hl 2 rfl) ?_
  refine va_get (D := δ) (ci := 2) (v := .ref aT0) (C := RX2) (T := TX2) (N := 9) hx hb hts hinX2 hown hK hP 0 rfl rfl 0 (by decide) (hts (.fieldLink RX2 12 "GloveHours$Day" "court" "LGloveHours$Court;") (List.mem_of_getElem? (i := 1) rfl)) (fun _ h9 => h9) rfl dX2_playDraw_84 ?_
  refine lv_iload_n hx hb dX2_playDraw_87 rfl (lv_at hl 1 rfl) ?_
  have hr := mrV (p := p) (e := e) (R := rm_X2_playDraw) (below := below) (meth := meth) (H := H) (locs := locs) (ls := ls) (As := [.int (xx - xx / (6 : Int32) * (6 : Int32))]) (rest := [.int (xx - xx / (6 : Int32) * (6 : Int32)), .int (xx - xx / (6 : Int32) * (6 : Int32)), .ref aD0]) (c_X1_whyNoDeed l δ cI cJ cZ aT0 aT1 aT2 aT3 aT4 aT5 kT (xx - xx / (6 : Int32) * (6 : Int32))) hx hb hml hts hown hK hNW hP hD [5, 6, 7, 8, 9, 10] rfl rfl 1 0 rfl rfl (cwV 1 hts gX2_playDraw_X1_whyNoDeed rfl rfl rfl (by decide +kernel) ⟨(Nat.le_of_ble_eq_true rfl), (Nat.le_of_ble_eq_true rfl)⟩) rfl hl.1 rfl (Nat.le_of_ble_eq_true rfl) dX2_playDraw_88
  refine mc_i (wr := (wD cI aD0 aD1 aD2 aD3 aD4 aT0 dy)) hr hP hD hS hA [5, 6, 7, 8, 9, 10] [0, 1, 2, 3, 4] [0, 1, 2, 3, 4, 5, 6, 7, 8, 9, 10] rfl rfl rfl rfl rfl (wn := fun _ => ((wD cI aD0 aD1 aD2 aD3 aD4 aT0 dy) ++ (wK cI aT0 aT1 aT2 aT3 aT4 aT5 kT))) (fun _ => rfl) (fun r_88 _ H locs hw_88 hP hD hS => ?_)
  have hP : va_P δ vwCl ((wD cI aD0 aD1 aD2 aD3 aD4 aT0 dy) ++ (wK cI aT0 aT1 aT2 aT3 aT4 aT5 kT)) H := hP
  have hD : va_D A ((wD cI aD0 aD1 aD2 aD3 aD4 aT0 dy) ++ (wK cI aT0 aT1 aT2 aT3 aT4 aT5 kT)) := hD
  have hR := bnd_eq hR hw_88.symm
  have hr := mrV (p := p) (e := e) (R := rm_X2_playDraw) (below := below) (meth := meth) (H := H) (locs := locs) (ls := ls) (As := [.int (xx - xx / (6 : Int32) * (6 : Int32)), .int (xx - xx / (6 : Int32) * (6 : Int32)), .int r_88]) (rest := []) (c_X2_playDeeds l δ cI cJ cZ aD0 aD1 aD2 aD3 aD4 aT0 aT1 aT2 aT3 aT4 aT5 dy kT (xx - xx / (6 : Int32) * (6 : Int32)) (xx - xx / (6 : Int32) * (6 : Int32)) r_88) hx hb hml hts hown hK hNW hP hD [0, 1, 2, 3, 4, 5, 6, 7, 8, 9, 10] rfl rfl 2 0 rfl rfl (cwV 3 hts gX2_playDraw_X2_playDeeds rfl rfl rfl (by decide +kernel) ⟨(Nat.le_of_ble_eq_true rfl), (Nat.le_of_ble_eq_true rfl)⟩) rfl hl.1 rfl (Nat.le_of_ble_eq_true rfl) dX2_playDraw_91
  refine mc_i (wr := ([] : va_W)) hr hP hD hS hA [0, 1, 2, 3, 4, 5, 6, 7, 8, 9, 10] [] [0, 1, 2, 3, 4, 5, 6, 7, 8, 9, 10] rfl rfl rfl rfl rfl (wn := fun u_91 => ((wD cI aD0 aD1 aD2 aD3 aD4 aT0 u_91.1) ++ (wK cI aT0 aT1 aT2 aT3 aT4 aT5 u_91.2))) (fun _ => rfl) (fun r_91 u_91 H locs hw_91 hP hD hS => ?_)
  have hP : va_P δ vwCl ((wD cI aD0 aD1 aD2 aD3 aD4 aT0 u_91.1) ++ (wK cI aT0 aT1 aT2 aT3 aT4 aT5 u_91.2)) H := hP
  have hD : va_D A ((wD cI aD0 aD1 aD2 aD3 aD4 aT0 u_91.1) ++ (wK cI aT0 aT1 aT2 aT3 aT4 aT5 u_91.2)) := hD
  have hR := bnd_eq hR hw_91.symm
  refine lv_pop hx hb dX2_playDraw_94 rfl ?_
  exact hret _ _ (u_91.1, u_91.2) _ _ hR hP hD hS dX2_playDraw_95

abbrev rm_X2_begin : Room := { frames := 2, cells := 0, slots := 0, locals := 69 }
set_option maxHeartbeats 4000000 in
set_option maxRecDepth 100000 in
theorem c_X2_begin (l : Launch) (δ : va_G) (cI cJ cZ : ClassId) (aD0 aD1 aD2 aD3 aD4 aT0 aT1 aT2 aT3 aT4 aT5 aK0 aK1 aK2 aK3 aK4 aK5 : Nat) (dy : DS) (kT : KS) (k : KS) : mMv l δ (mTy cI cJ cZ) yX2_begin wsX2_begin rm_X2_begin [.ref aD0, .ref aK0] ((wD cI aD0 aD1 aD2 aD3 aD4 aT0 dy) ++ (wK cI aT0 aT1 aT2 aT3 aT4 aT5 kT) ++ (wK cI aK0 aK1 aK2 aK3 aK4 aK5 k)) (S := DS × KS) (fun u => F_X2_begin dy kT k = u) (fun u => ((wD cI aD0 aD1 aD2 aD3 aD4 aT0 u.1) ++ (wK cI aT0 aT1 aT2 aT3 aT4 aT5 u.2) ++ (wK cI aK0 aK1 aK2 aK3 aK4 aK5 k))) := by
  refine mk_v (cc := cX2_begin) (maxL := 2) (by decide) rfl (Nat.le_of_ble_eq_true rfl) ?_
  intro p e s m args below meth c A Q ls H locs hx hb hml hts hown hK hNW hA hP hD hS hl hret
  have hown : s.vm.findClass RX2 = some m.cls := hown
  have hl : lv_has ls 2 [(0, .ref aD0), (1, .ref aK0)] := hl
  have hinX2 : ∀ w ∈ u_ws RX2 TX2 9, w ∈ wsX2_begin := (fun _ h => List.mem_cons_of_mem _ (List.mem_append_left _ (List.mem_append_right _ (h))))
  have hR := F_X2_begin.eq_1 dy kT k
  refine lv_aload_n hx hb dX2_begin_0 rfl (lv_at hl 0 rfl) ?_
  refine va_get (D := δ) (ci := 2) (v := .ref aT0) (C := RX2) (T := TX2) (N := 9) hx hb hts hinX2 hown hK hP 0 rfl rfl 0 (by decide) (hts (.fieldLink RX2 12 "GloveHours$Day" "court" "LGloveHours$Court;") (List.mem_of_getElem? (i := 1) rfl)) (fun _ h9 => h9) rfl dX2_begin_1 ?_
  refine lv_aload_n hx hb dX2_begin_4 rfl (lv_at hl 1 rfl) ?_
  have hr := mrV (p := p) (e := e) (R := rm_X2_begin) (below := below) (meth := meth) (H := H) (locs := locs) (ls := ls) (As := [.ref aK0]) (rest := []) (c_X1_copyFrom l δ cI cJ cZ aT0 aT1 aT2 aT3 aT4 aT5 aK0 aK1 aK2 aK3 aK4 aK5 kT k) hx hb hml hts hown hK hNW hP hD [5, 6, 7, 8, 9, 10, 11, 12, 13, 14, 15, 16] rfl rfl 1 0 rfl rfl (cwV 1 hts gX2_begin_X1_copyFrom rfl rfl rfl (by decide +kernel) ⟨(Nat.le_of_ble_eq_true rfl), (Nat.le_of_ble_eq_true rfl)⟩) rfl hl.1 rfl (Nat.le_of_ble_eq_true rfl) dX2_begin_5
  refine mc_v (wr := (wD cI aD0 aD1 aD2 aD3 aD4 aT0 dy)) hr hP hD hS hA [5, 6, 7, 8, 9, 10, 11, 12, 13, 14, 15, 16] [0, 1, 2, 3, 4] [0, 1, 2, 3, 4, 5, 6, 7, 8, 9, 10, 11, 12, 13, 14, 15, 16] rfl rfl rfl rfl rfl (wn := fun u_5 => ((wD cI aD0 aD1 aD2 aD3 aD4 aT0 dy) ++ (wK cI aT0 aT1 aT2 aT3 aT4 aT5 u_5) ++ (wK cI aK0 aK1 aK2 aK3 aK4 aK5 k))) (fun _ => rfl) (fun u_5 H locs hw_5 hP hD hS => ?_)
  have hP : va_P δ vwCl ((wD cI aD0 aD1 aD2 aD3 aD4 aT0 dy) ++ (wK cI aT0 aT1 aT2 aT3 aT4 aT5 u_5) ++ (wK cI aK0 aK1 aK2 aK3 aK4 aK5 k)) H := hP
  have hD : va_D A ((wD cI aD0 aD1 aD2 aD3 aD4 aT0 dy) ++ (wK cI aT0 aT1 aT2 aT3 aT4 aT5 u_5) ++ (wK cI aK0 aK1 aK2 aK3 aK4 aK5 k)) := hD
  have hR := bnd_eq hR hw_5.symm
  refine lv_aload_n hx hb dX2_begin_8 rfl (lv_at hl 0 rfl) ?_
  refine lv_iconst (v := (0 : Int32)) hx hb dX2_begin_9 (by decide) ?_
  refine va_put (D := δ) (ci := 2) (v := .int (0 : Int32)) (ty := .int) (C := RX2) (T := TX2) (N := 9) hx hb hts hinX2 tyX2 tyX2_ok nmX2 hown hK hP hD hS 0 rfl rfl 1 (by decide) (hts (.fieldLink RX2 35 "GloveHours$Day" "acts" "I") (List.mem_of_getElem? (i := 2) rfl)) (fun _ h9 => h9) rfl (by decide +kernel) rfl rfl (Nat.le_of_ble_eq_true rfl) dX2_begin_10 (fun H locs hP hD hS => ?_)
  have hP : va_P δ vwCl ((wD cI aD0 aD1 aD2 aD3 aD4 aT0 ((0 : Int32), dDeeds dy, dStoppedAct dy, dStoppedWhy dy, dDeedHours dy, dDeedClocks dy, dDeedCourtiers dy, dLongestFrom dy)) ++ (wK cI aT0 aT1 aT2 aT3 aT4 aT5 u_5) ++ (wK cI aK0 aK1 aK2 aK3 aK4 aK5 k)) H := hP
  have hD : va_D A ((wD cI aD0 aD1 aD2 aD3 aD4 aT0 ((0 : Int32), dDeeds dy, dStoppedAct dy, dStoppedWhy dy, dDeedHours dy, dDeedClocks dy, dDeedCourtiers dy, dLongestFrom dy)) ++ (wK cI aT0 aT1 aT2 aT3 aT4 aT5 u_5) ++ (wK cI aK0 aK1 aK2 aK3 aK4 aK5 k)) := hD
  refine lv_aload_n hx hb dX2_begin_13 rfl (lv_at hl 0 rfl) ?_
  refine lv_iconst (v := (0 : Int32)) hx hb dX2_begin_14 (by decide) ?_
  refine va_put (D := δ) (ci := 2) (v := .int (0 : Int32)) (ty := .int) (C := RX2) (T := TX2) (N := 9) hx hb hts hinX2 tyX2 tyX2_ok nmX2 hown hK hP hD hS 0 rfl rfl 2 (by decide) (hts (.fieldLink RX2 39 "GloveHours$Day" "deeds" "I") (List.mem_of_getElem? (i := 3) rfl)) (fun _ h9 => h9) rfl (by decide +kernel) rfl rfl (Nat.le_of_ble_eq_true rfl) dX2_begin_15 (fun H locs hP hD hS => ?_)
  have hP : va_P δ vwCl ((wD cI aD0 aD1 aD2 aD3 aD4 aT0 ((0 : Int32), (0 : Int32), dStoppedAct dy, dStoppedWhy dy, dDeedHours dy, dDeedClocks dy, dDeedCourtiers dy, dLongestFrom dy)) ++ (wK cI aT0 aT1 aT2 aT3 aT4 aT5 u_5) ++ (wK cI aK0 aK1 aK2 aK3 aK4 aK5 k)) H := hP
  have hD : va_D A ((wD cI aD0 aD1 aD2 aD3 aD4 aT0 ((0 : Int32), (0 : Int32), dStoppedAct dy, dStoppedWhy dy, dDeedHours dy, dDeedClocks dy, dDeedCourtiers dy, dLongestFrom dy)) ++ (wK cI aT0 aT1 aT2 aT3 aT4 aT5 u_5) ++ (wK cI aK0 aK1 aK2 aK3 aK4 aK5 k)) := hD
  refine lv_aload_n hx hb dX2_begin_18 rfl (lv_at hl 0 rfl) ?_
  refine lv_bipush (v := (-6 : Int32)) hx hb dX2_begin_19 (by decide) ?_
  refine va_put (D := δ) (ci := 2) (v := .int (-6 : Int32)) (ty := .int) (C := RX2) (T := TX2) (N := 9) hx hb hts hinX2 tyX2 tyX2_ok nmX2 hown hK hP hD hS 0 rfl rfl 3 (by decide) (hts (.fieldLink RX2 42 "GloveHours$Day" "stoppedAct" "I") (List.mem_of_getElem? (i := 4) rfl)) (fun _ h9 => h9) rfl (by decide +kernel) rfl rfl (Nat.le_of_ble_eq_true rfl) dX2_begin_21 (fun H locs hP hD hS => ?_)
  have hP : va_P δ vwCl ((wD cI aD0 aD1 aD2 aD3 aD4 aT0 ((0 : Int32), (0 : Int32), (-6 : Int32), dStoppedWhy dy, dDeedHours dy, dDeedClocks dy, dDeedCourtiers dy, dLongestFrom dy)) ++ (wK cI aT0 aT1 aT2 aT3 aT4 aT5 u_5) ++ (wK cI aK0 aK1 aK2 aK3 aK4 aK5 k)) H := hP
  have hD : va_D A ((wD cI aD0 aD1 aD2 aD3 aD4 aT0 ((0 : Int32), (0 : Int32), (-6 : Int32), dStoppedWhy dy, dDeedHours dy, dDeedClocks dy, dDeedCourtiers dy, dLongestFrom dy)) ++ (wK cI aT0 aT1 aT2 aT3 aT4 aT5 u_5) ++ (wK cI aK0 aK1 aK2 aK3 aK4 aK5 k)) := hD
  refine lv_aload_n hx hb dX2_begin_24 rfl (lv_at hl 0 rfl) ?_
  refine lv_bipush (v := (-6 : Int32)) hx hb dX2_begin_25 (by decide) ?_
  refine va_put (D := δ) (ci := 2) (v := .int (-6 : Int32)) (ty := .int) (C := RX2) (T := TX2) (N := 9) hx hb hts hinX2 tyX2 tyX2_ok nmX2 hown hK hP hD hS 0 rfl rfl 4 (by decide) (hts (.fieldLink RX2 45 "GloveHours$Day" "stoppedWhy" "I") (List.mem_of_getElem? (i := 5) rfl)) (fun _ h9 => h9) rfl (by decide +kernel) rfl rfl (Nat.le_of_ble_eq_true rfl) dX2_begin_27 (fun H locs hP hD hS => ?_)
  have hP : va_P δ vwCl ((wD cI aD0 aD1 aD2 aD3 aD4 aT0 ((0 : Int32), (0 : Int32), (-6 : Int32), (-6 : Int32), dDeedHours dy, dDeedClocks dy, dDeedCourtiers dy, dLongestFrom dy)) ++ (wK cI aT0 aT1 aT2 aT3 aT4 aT5 u_5) ++ (wK cI aK0 aK1 aK2 aK3 aK4 aK5 k)) H := hP
  have hD : va_D A ((wD cI aD0 aD1 aD2 aD3 aD4 aT0 ((0 : Int32), (0 : Int32), (-6 : Int32), (-6 : Int32), dDeedHours dy, dDeedClocks dy, dDeedCourtiers dy, dLongestFrom dy)) ++ (wK cI aT0 aT1 aT2 aT3 aT4 aT5 u_5) ++ (wK cI aK0 aK1 aK2 aK3 aK4 aK5 k)) := hD
  exact hret _ _ (((0 : Int32), (0 : Int32), (-6 : Int32), (-6 : Int32), dDeedHours dy, dDeedClocks dy, dDeedCourtiers dy, dLongestFrom dy), u_5) _ _ hR hP hD hS dX2_begin_30

abbrev rm_X2_playDraws : Room := { frames := 5, cells := 0, slots := 0, locals := 113 }
set_option maxHeartbeats 4000000 in
set_option maxRecDepth 100000 in
theorem c_X2_playDraws (l : Launch) (δ : va_G) (cI cJ cZ : ClassId) (aD0 aD1 aD2 aD3 aD4 aT0 aT1 aT2 aT3 aT4 aT5 aK0 aK1 aK2 aK3 aK4 aK5 : Nat) (dy : DS) (kT : KS) (k : KS) (xs : Int32) (xd : Int32) : mMv l δ (mTy cI cJ cZ) yX2_playDraws wsX2_playDraws rm_X2_playDraws [.ref aD0, .ref aK0, .int xs, .int xd] ((wD cI aD0 aD1 aD2 aD3 aD4 aT0 dy) ++ (wK cI aT0 aT1 aT2 aT3 aT4 aT5 kT) ++ (wK cI aK0 aK1 aK2 aK3 aK4 aK5 k)) (S := DS × KS) (fun u => F_X2_playDraws dy kT k xs xd = u) (fun u => ((wD cI aD0 aD1 aD2 aD3 aD4 aT0 u.1) ++ (wK cI aT0 aT1 aT2 aT3 aT4 aT5 u.2) ++ (wK cI aK0 aK1 aK2 aK3 aK4 aK5 k))) := by
  refine mk_v (cc := cX2_playDraws) (maxL := 6) (by decide) rfl (Nat.le_of_ble_eq_true rfl) ?_
  intro p e s m args below meth c A Q ls H locs hx hb hml hts hown hK hNW hA hP hD hS hl hret
  have hown : s.vm.findClass RX2 = some m.cls := hown
  have hl : lv_has ls 6 [(0, .ref aD0), (1, .ref aK0), (2, .int xs), (3, .int xd)] := hl
  have hR := F_X2_playDraws.eq_1 dy kT k xs xd
  refine lv_aload_n hx hb dX2_playDraws_0 rfl (lv_at hl 0 rfl) ?_
  refine lv_aload_n hx hb dX2_playDraws_1 rfl (lv_at hl 1 rfl) ?_
  have hr := mrV (p := p) (e := e) (R := rm_X2_playDraws) (below := below) (meth := meth) (H := H) (locs := locs) (ls := ls) (As := [.ref aK0]) (rest := []) (c_X2_begin l δ cI cJ cZ aD0 aD1 aD2 aD3 aD4 aT0 aT1 aT2 aT3 aT4 aT5 aK0 aK1 aK2 aK3 aK4 aK5 dy kT k) hx hb hml hts hown hK hNW hP hD [0, 1, 2, 3, 4, 5, 6, 7, 8, 9, 10, 11, 12, 13, 14, 15, 16] rfl rfl 2 0 rfl rfl (cwV 1 hts gX2_playDraws_X2_begin rfl rfl rfl (by decide +kernel) ⟨(Nat.le_of_ble_eq_true rfl), (Nat.le_of_ble_eq_true rfl)⟩) rfl hl.1 rfl (Nat.le_of_ble_eq_true rfl) dX2_playDraws_2
  refine mc_v (wr := ([] : va_W)) hr hP hD hS hA [0, 1, 2, 3, 4, 5, 6, 7, 8, 9, 10, 11, 12, 13, 14, 15, 16] [] [0, 1, 2, 3, 4, 5, 6, 7, 8, 9, 10, 11, 12, 13, 14, 15, 16] rfl rfl rfl rfl rfl (wn := fun u_2 => ((wD cI aD0 aD1 aD2 aD3 aD4 aT0 u_2.1) ++ (wK cI aT0 aT1 aT2 aT3 aT4 aT5 u_2.2) ++ (wK cI aK0 aK1 aK2 aK3 aK4 aK5 k))) (fun _ => rfl) (fun u_2 H locs hw_2 hP hD hS => ?_)
  have hP : va_P δ vwCl ((wD cI aD0 aD1 aD2 aD3 aD4 aT0 u_2.1) ++ (wK cI aT0 aT1 aT2 aT3 aT4 aT5 u_2.2) ++ (wK cI aK0 aK1 aK2 aK3 aK4 aK5 k)) H := hP
  have hD : va_D A ((wD cI aD0 aD1 aD2 aD3 aD4 aT0 u_2.1) ++ (wK cI aT0 aT1 aT2 aT3 aT4 aT5 u_2.2) ++ (wK cI aK0 aK1 aK2 aK3 aK4 aK5 k)) := hD
  have hR := bnd_eq hR hw_2.symm
  refine lv_iload_n hx hb dX2_playDraws_5 rfl (lv_at hl 2 rfl) ?_
  refine lv_istore (lv' := [(4, .int xs), (0, .ref aD0), (1, .ref aK0), (2, .int xs), (3, .int xd)]) hx hb dX2_playDraws_6 hl (by decide) rfl (fun ls hl => ?_)
  refine lv_iconst (v := (0 : Int32)) hx hb dX2_playDraws_8 (by decide) ?_
  refine lv_istore (lv' := [(5, .int (0 : Int32)), (4, .int xs), (0, .ref aD0), (1, .ref aK0), (2, .int xs), (3, .int xd)]) hx hb dX2_playDraws_9 hl (by decide) rfl (fun ls hl => ?_)
  have hloop_11 : ∀ (n_11 : Nat) (i_11 : Nat) (v4_11 : Int32) (dy_11 : DS) (kT_11 : KS) (H : Heap) (locs : List Loc) (ls : Array Slot), (hi_11 : i_11 ≤ xd.toNatClampNeg) → (hn_11 : xd.toNatClampNeg < i_11 + n_11) → (hP : va_P δ vwCl ((wD cI aD0 aD1 aD2 aD3 aD4 aT0 dy_11) ++ (wK cI aT0 aT1 aT2 aT3 aT4 aT5 kT_11) ++ (wK cI aK0 aK1 aK2 aK3 aK4 aK5 k)) H) → (hD : va_D A ((wD cI aD0 aD1 aD2 aD3 aD4 aT0 dy_11) ++ (wK cI aT0 aT1 aT2 aT3 aT4 aT5 kT_11) ++ (wK cI aK0 aK1 aK2 aK3 aK4 aK5 k))) → (hS : va_S A s.heap H locs) → (hl : lv_has ls 6 [(5, .int (nI i_11)), (4, .int v4_11), (0, .ref aD0), (1, .ref aK0), (2, .int xs), (3, .int xd)]) → (kk : ∀ (w_11 : Int32 × DS × KS) (H : Heap) (locs : List Loc) (ls : Array Slot), L_X2_playDraws_11 xd n_11 i_11 v4_11 dy_11 kT_11 = w_11 → va_P δ vwCl ((wD cI aD0 aD1 aD2 aD3 aD4 aT0 w_11.2.1) ++ (wK cI aT0 aT1 aT2 aT3 aT4 aT5 w_11.2.2) ++ (wK cI aK0 aK1 aK2 aK3 aK4 aK5 k)) H → va_D A ((wD cI aD0 aD1 aD2 aD3 aD4 aT0 w_11.2.1) ++ (wK cI aT0 aT1 aT2 aT3 aT4 aT5 w_11.2.2) ++ (wK cI aK0 aK1 aK2 aK3 aK4 aK5 k)) → va_S A s.heap H locs → lv_has ls 6 [(4, .int w_11.1), (0, .ref aD0), (1, .ref aK0), (2, .int xs), (3, .int xd)] → W p l e rm_X2_playDraws s m args below meth c H locs 0 0 Q (F0 m 42 ls [])) → W p l e rm_X2_playDraws s m args below meth c H locs 0 0 Q (F0 m 11 ls []) := by
    intro n_11
    induction n_11 with
    | zero => intro i_11 v4_11 dy_11 kT_11 H locs ls hi_11 hn_11 hP hD hS hl kk; exact absurd hn_11 (by omega)
    | succ n_11 ih_11 =>
      intro i_11 v4_11 dy_11 kT_11 H locs ls hi_11 hn_11 hP hD hS hl kk
      have hR := L_X2_playDraws_11_s xd n_11 i_11 v4_11 dy_11 kT_11
      refine lv_iload hx hb dX2_playDraws_11 (lv_at hl 0 rfl) ?_
      refine lv_iload_n hx hb dX2_playDraws_13 rfl (lv_at hl 5 rfl) ?_
      refine lv_icmp_ge (tgt := 42) hx hb dX2_playDraws_14 (by decide) (fun c_14 => ?_) (fun c_14 => ?_)
      · have c_14 : (xd ≤ (nI i_11)) := c_14
        have hR := hR.trans (if_pos c_14)
        exact kk (v4_11, dy_11, kT_11) H locs ls hR hP hD hS (lv_sub hl [1, 2, 3, 4, 5] rfl)
      · have c_14 : ¬ (xd ≤ (nI i_11)) := c_14
        have hR := hR.trans (if_neg c_14)
        have hlt_11 : i_11 < xd.toNatClampNeg := lt_c c_14 hi_11
        refine lv_bipush (v := (75 : Int32)) hx hb dX2_playDraws_17 (by decide) ?_
        refine lv_iload hx hb dX2_playDraws_19 (lv_at hl 1 rfl) ?_
        refine lv_imul hx hb dX2_playDraws_21 ?_
        refine lv_bipush (v := (74 : Int32)) hx hb dX2_playDraws_22 (by decide) ?_
        refine lv_iadd hx hb dX2_playDraws_24 ?_
        refine lv_ldc (v := (65537 : Int32)) hx hb hown (hts (.constant RX2 103 (65537)) (List.mem_of_getElem? (i := 1) rfl)) dX2_playDraws_25 ?_
        refine lv_irem hx hb dX2_playDraws_27 (by decide) ?_
        refine lv_istore (lv' := [(4, .int ((((75 : Int32) * v4_11) + (74 : Int32)) - (((75 : Int32) * v4_11) + (74 : Int32)) / (65537 : Int32) * (65537 : Int32))), (5, .int (nI i_11)), (0, .ref aD0), (1, .ref aK0), (2, .int xs), (3, .int xd)]) hx hb dX2_playDraws_28 hl (by decide) rfl (fun ls hl => ?_)
        refine lv_aload_n hx hb dX2_playDraws_30 rfl (lv_at hl 2 rfl) ?_
        refine lv_iload hx hb dX2_playDraws_31 (lv_at hl 0 rfl) ?_
        have hr := mrV (p := p) (e := e) (R := rm_X2_playDraws) (below := below) (meth := meth) (H := H) (locs := locs) (ls := ls) (As := [.int ((((75 : Int32) * v4_11) + (74 : Int32)) - (((75 : Int32) * v4_11) + (74 : Int32)) / (65537 : Int32) * (65537 : Int32))]) (rest := []) (c_X2_playDraw l δ cI cJ cZ aD0 aD1 aD2 aD3 aD4 aT0 aT1 aT2 aT3 aT4 aT5 dy_11 kT_11 ((((75 : Int32) * v4_11) + (74 : Int32)) - (((75 : Int32) * v4_11) + (74 : Int32)) / (65537 : Int32) * (65537 : Int32))) hx hb hml hts hown hK hNW hP hD [0, 1, 2, 3, 4, 5, 6, 7, 8, 9, 10] rfl rfl 2 0 rfl rfl (cwV 1 hts gX2_playDraws_X2_playDraw rfl rfl rfl (by decide +kernel) ⟨(Nat.le_of_ble_eq_true rfl), (Nat.le_of_ble_eq_true rfl)⟩) rfl hl.1 rfl (Nat.le_of_ble_eq_true rfl) dX2_playDraws_33
        refine mc_v (wr := (wK cI aK0 aK1 aK2 aK3 aK4 aK5 k)) hr hP hD hS hA [0, 1, 2, 3, 4, 5, 6, 7, 8, 9, 10] [11, 12, 13, 14, 15, 16] [6, 7, 8, 9, 10, 11, 12, 13, 14, 15, 16, 0, 1, 2, 3, 4, 5] rfl rfl rfl rfl rfl (wn := fun u_33 => ((wD cI aD0 aD1 aD2 aD3 aD4 aT0 u_33.1) ++ (wK cI aT0 aT1 aT2 aT3 aT4 aT5 u_33.2) ++ (wK cI aK0 aK1 aK2 aK3 aK4 aK5 k))) (fun _ => rfl) (fun u_33 H locs hw_33 hP hD hS => ?_)
        have hP : va_P δ vwCl ((wD cI aD0 aD1 aD2 aD3 aD4 aT0 u_33.1) ++ (wK cI aT0 aT1 aT2 aT3 aT4 aT5 u_33.2) ++ (wK cI aK0 aK1 aK2 aK3 aK4 aK5 k)) H := hP
        have hD : va_D A ((wD cI aD0 aD1 aD2 aD3 aD4 aT0 u_33.1) ++ (wK cI aT0 aT1 aT2 aT3 aT4 aT5 u_33.2) ++ (wK cI aK0 aK1 aK2 aK3 aK4 aK5 k)) := hD
        have hR := bnd_eq hR hw_33.symm
        refine lv_iinc (v := (nI (i_11 + 1))) (lv' := [(5, .int (nI (i_11 + 1))), (4, .int ((((75 : Int32) * v4_11) + (74 : Int32)) - (((75 : Int32) * v4_11) + (74 : Int32)) / (65537 : Int32) * (65537 : Int32))), (0, .ref aD0), (1, .ref aK0), (2, .int xs), (3, .int xd)]) hx hb dX2_playDraws_36 hl (k := 1) rfl (nI_1 i_11) (by decide) rfl (fun ls hl => ?_)
        refine lv_goto (tgt := 11) hx hb dX2_playDraws_39 (by decide) ?_
        exact ih_11 (i_11 + 1) ((((75 : Int32) * v4_11) + (74 : Int32)) - (((75 : Int32) * v4_11) + (74 : Int32)) / (65537 : Int32) * (65537 : Int32)) u_33.1 u_33.2 _ _ _ (by omega) (by omega) hP hD hS (lv_sub hl [0, 1, 2, 3, 4, 5] rfl) (fun w_11 H locs ls he hP hD hS hl => kk w_11 H locs ls (hR.trans he) hP hD hS hl)
  refine hloop_11 (xd.toNatClampNeg + 1) 0 xs u_2.1 u_2.2 _ _ _ (by omega) (by omega) hP hD hS (lv_sub hl [0, 1, 2, 3, 4, 5] rfl) (fun w_11 H locs ls hw_11 hP hD hS hl => ?_)
  have hP : va_P δ vwCl ((wD cI aD0 aD1 aD2 aD3 aD4 aT0 w_11.2.1) ++ (wK cI aT0 aT1 aT2 aT3 aT4 aT5 w_11.2.2) ++ (wK cI aK0 aK1 aK2 aK3 aK4 aK5 k)) H := hP
  have hD : va_D A ((wD cI aD0 aD1 aD2 aD3 aD4 aT0 w_11.2.1) ++ (wK cI aT0 aT1 aT2 aT3 aT4 aT5 w_11.2.2) ++ (wK cI aK0 aK1 aK2 aK3 aK4 aK5 k)) := hD
  have hR := bnd_eq hR hw_11.symm
  exact hret _ _ (w_11.2.1, w_11.2.2) _ _ hR hP hD hS dX2_playDraws_42

abbrev rm_X2_playAct : Room := { frames := 4, cells := 0, slots := 0, locals := 90 }
set_option maxHeartbeats 4000000 in
set_option maxRecDepth 100000 in
theorem c_X2_playAct (l : Launch) (δ : va_G) (cI cJ cZ : ClassId) (aD0 aD1 aD2 aD3 aD4 aT0 aT1 aT2 aT3 aT4 aT5 aP0 aP1 : Nat) (dy : DS) (kT : KS) (pp : PS) (xp : Int32) : mMi l δ (mTy cI cJ cZ) yX2_playAct wsX2_playAct rm_X2_playAct [.ref aD0, .ref aP0, .int xp] ((wD cI aD0 aD1 aD2 aD3 aD4 aT0 dy) ++ (wK cI aT0 aT1 aT2 aT3 aT4 aT5 kT) ++ (wP cI aP0 aP1 pp)) (S := DS × KS) (fun r u => F_X2_playAct dy kT pp xp = (r, u)) (fun u => ((wD cI aD0 aD1 aD2 aD3 aD4 aT0 u.1) ++ (wK cI aT0 aT1 aT2 aT3 aT4 aT5 u.2) ++ (wP cI aP0 aP1 pp))) := by
  refine mk_i (cc := cX2_playAct) (maxL := 5) (by decide) rfl (Nat.le_of_ble_eq_true rfl) ?_
  intro p e s m args below meth c A Q ls H locs hx hb hml hts hown hK hNW hA hP hD hS hl hret
  have hown : s.vm.findClass RX2 = some m.cls := hown
  have hl : lv_has ls 5 [(0, .ref aD0), (1, .ref aP0), (2, .int xp)] := hl
  have hinX2 : ∀ w ∈ u_ws RX2 TX2 9, w ∈ wsX2_playAct := (fun _ h => List.mem_cons_of_mem _ (List.mem_append_left _ (List.mem_append_left _ (List.mem_append_right _ (h)))))
  have hR := F_X2_playAct.eq_1 dy kT pp xp
  refine lv_aload_n hx hb dX2_playAct_0 rfl (lv_at hl 1 rfl) ?_
  refine lv_iload_n hx hb dX2_playAct_1 rfl (lv_at hl 2 rfl) ?_
  have hr := mrV (p := p) (e := e) (R := rm_X2_playAct) (below := below) (meth := meth) (H := H) (locs := locs) (ls := ls) (As := [.int xp]) (rest := []) (c_X4_signAt l δ cI cJ cZ aP0 aP1 pp xp) hx hb hml hts hown hK hNW hP hD [11, 12] rfl rfl 4 0 rfl rfl (cwV 1 hts gX2_playAct_X4_signAt rfl rfl rfl (by decide +kernel) ⟨(Nat.le_of_ble_eq_true rfl), (Nat.le_of_ble_eq_true rfl)⟩) rfl hl.1 rfl (Nat.le_of_ble_eq_true rfl) dX2_playAct_2
  refine mc_i (wr := ((wD cI aD0 aD1 aD2 aD3 aD4 aT0 dy) ++ (wK cI aT0 aT1 aT2 aT3 aT4 aT5 kT))) hr hP hD hS hA [11, 12] [0, 1, 2, 3, 4, 5, 6, 7, 8, 9, 10] [0, 1, 2, 3, 4, 5, 6, 7, 8, 9, 10, 11, 12] rfl rfl rfl rfl rfl (wn := fun _ => ((wD cI aD0 aD1 aD2 aD3 aD4 aT0 dy) ++ (wK cI aT0 aT1 aT2 aT3 aT4 aT5 kT) ++ (wP cI aP0 aP1 pp))) (fun _ => rfl) (fun r_2 _ H locs hw_2 hP hD hS => ?_)
  have hP : va_P δ vwCl ((wD cI aD0 aD1 aD2 aD3 aD4 aT0 dy) ++ (wK cI aT0 aT1 aT2 aT3 aT4 aT5 kT) ++ (wP cI aP0 aP1 pp)) H := hP
  have hD : va_D A ((wD cI aD0 aD1 aD2 aD3 aD4 aT0 dy) ++ (wK cI aT0 aT1 aT2 aT3 aT4 aT5 kT) ++ (wP cI aP0 aP1 pp)) := hD
  have hR := bnd_eq hR hw_2.symm
  refine lv_bipush (v := (46 : Int32)) hx hb dX2_playAct_5 (by decide) ?_
  refine lv_icmp_ne (tgt := 19) hx hb dX2_playAct_7 (by decide) (fun c_7 => ?_) (fun c_7 => ?_)
  · have c_7 : ¬ (r_2 = (46 : Int32)) := c_7
    have hR := hR.trans (if_neg c_7)
    refine lv_aload_n hx hb dX2_playAct_19 rfl (lv_at hl 1 rfl) ?_
    refine lv_iload_n hx hb dX2_playAct_20 rfl (lv_at hl 2 rfl) ?_
    have hr := mrV (p := p) (e := e) (R := rm_X2_playAct) (below := below) (meth := meth) (H := H) (locs := locs) (ls := ls) (As := [.int xp]) (rest := []) (c_X4_courtierAt l δ cI cJ cZ aP0 aP1 pp xp) hx hb hml hts hown hK hNW hP hD [11, 12] rfl rfl 4 0 rfl rfl (cwV 1 hts gX2_playAct_X4_courtierAt rfl rfl rfl (by decide +kernel) ⟨(Nat.le_of_ble_eq_true rfl), (Nat.le_of_ble_eq_true rfl)⟩) rfl hl.1 rfl (Nat.le_of_ble_eq_true rfl) dX2_playAct_21
    refine mc_i (wr := ((wD cI aD0 aD1 aD2 aD3 aD4 aT0 dy) ++ (wK cI aT0 aT1 aT2 aT3 aT4 aT5 kT))) hr hP hD hS hA [11, 12] [0, 1, 2, 3, 4, 5, 6, 7, 8, 9, 10] [0, 1, 2, 3, 4, 5, 6, 7, 8, 9, 10, 11, 12] rfl rfl rfl rfl rfl (wn := fun _ => ((wD cI aD0 aD1 aD2 aD3 aD4 aT0 dy) ++ (wK cI aT0 aT1 aT2 aT3 aT4 aT5 kT) ++ (wP cI aP0 aP1 pp))) (fun _ => rfl) (fun r_21 _ H locs hw_21 hP hD hS => ?_)
    have hP : va_P δ vwCl ((wD cI aD0 aD1 aD2 aD3 aD4 aT0 dy) ++ (wK cI aT0 aT1 aT2 aT3 aT4 aT5 kT) ++ (wP cI aP0 aP1 pp)) H := hP
    have hD : va_D A ((wD cI aD0 aD1 aD2 aD3 aD4 aT0 dy) ++ (wK cI aT0 aT1 aT2 aT3 aT4 aT5 kT) ++ (wP cI aP0 aP1 pp)) := hD
    have hR := bnd_eq hR hw_21.symm
    refine lv_istore_n (lv' := [(3, .int r_21), (0, .ref aD0), (1, .ref aP0), (2, .int xp)]) hx hb dX2_playAct_24 rfl hl (by decide) rfl (fun ls hl => ?_)
    refine lv_aload_n hx hb dX2_playAct_25 rfl (lv_at hl 2 rfl) ?_
    refine lv_iload_n hx hb dX2_playAct_26 rfl (lv_at hl 3 rfl) ?_
    refine lv_iconst (v := (1 : Int32)) hx hb dX2_playAct_27 (by decide) ?_
    refine lv_iadd hx hb dX2_playAct_28 ?_
    have hr := mrV (p := p) (e := e) (R := rm_X2_playAct) (below := below) (meth := meth) (H := H) (locs := locs) (ls := ls) (As := [.int (xp + (1 : Int32))]) (rest := []) (c_X4_signAt l δ cI cJ cZ aP0 aP1 pp (xp + (1 : Int32))) hx hb hml hts hown hK hNW hP hD [11, 12] rfl rfl 4 0 rfl rfl (cwV 1 hts gX2_playAct_X4_signAt rfl rfl rfl (by decide +kernel) ⟨(Nat.le_of_ble_eq_true rfl), (Nat.le_of_ble_eq_true rfl)⟩) rfl hl.1 rfl (Nat.le_of_ble_eq_true rfl) dX2_playAct_29
    refine mc_i (wr := ((wD cI aD0 aD1 aD2 aD3 aD4 aT0 dy) ++ (wK cI aT0 aT1 aT2 aT3 aT4 aT5 kT))) hr hP hD hS hA [11, 12] [0, 1, 2, 3, 4, 5, 6, 7, 8, 9, 10] [0, 1, 2, 3, 4, 5, 6, 7, 8, 9, 10, 11, 12] rfl rfl rfl rfl rfl (wn := fun _ => ((wD cI aD0 aD1 aD2 aD3 aD4 aT0 dy) ++ (wK cI aT0 aT1 aT2 aT3 aT4 aT5 kT) ++ (wP cI aP0 aP1 pp))) (fun _ => rfl) (fun r_29 _ H locs hw_29 hP hD hS => ?_)
    have hP : va_P δ vwCl ((wD cI aD0 aD1 aD2 aD3 aD4 aT0 dy) ++ (wK cI aT0 aT1 aT2 aT3 aT4 aT5 kT) ++ (wP cI aP0 aP1 pp)) H := hP
    have hD : va_D A ((wD cI aD0 aD1 aD2 aD3 aD4 aT0 dy) ++ (wK cI aT0 aT1 aT2 aT3 aT4 aT5 kT) ++ (wP cI aP0 aP1 pp)) := hD
    have hR := bnd_eq hR hw_29.symm
    by_cases c_32_33 : r_29 = (33 : Int32)
    · have hR := hR.trans (if_pos c_32_33)
      refine lv_lookup (tgt := 125) (off := 93) hx hb dX2_playAct_32 (by decide) (by rw [c_32_33]; rfl) (by decide) ?_
      refine lv_aload_n hx hb dX2_playAct_125 rfl (lv_at hl 1 rfl) ?_
      refine lv_iload_n hx hb dX2_playAct_126 rfl (lv_at hl 0 rfl) ?_
      refine lv_iload_n hx hb dX2_playAct_127 rfl (lv_at hl 0 rfl) ?_
      refine lv_aload_n hx hb dX2_playAct_128 rfl (lv_at hl 1 rfl) ?_
      refine va_get (D := δ) (ci := 2) (v := .ref aT0) (C := RX2) (T := TX2) (N := 9) hx hb hts hinX2 hown hK hP 0 rfl rfl 0 (by decide) (hts (.fieldLink RX2 12 "GloveHours$Day" "court" "LGloveHours$Court;") (List.mem_of_getElem? (i := 1) rfl)) (fun _ h9 => h9) rfl dX2_playAct_129 ?_
      refine lv_iload_n hx hb dX2_playAct_132 rfl (lv_at hl 0 rfl) ?_
      have hr := mrV (p := p) (e := e) (R := rm_X2_playAct) (below := below) (meth := meth) (H := H) (locs := locs) (ls := ls) (As := [.int r_21]) (rest := [.int r_21, .int r_21, .ref aD0]) (c_X1_whyNoDeed l δ cI cJ cZ aT0 aT1 aT2 aT3 aT4 aT5 kT r_21) hx hb hml hts hown hK hNW hP hD [5, 6, 7, 8, 9, 10] rfl rfl 1 0 rfl rfl (cwV 1 hts gX2_playAct_X1_whyNoDeed rfl rfl rfl (by decide +kernel) ⟨(Nat.le_of_ble_eq_true rfl), (Nat.le_of_ble_eq_true rfl)⟩) rfl hl.1 rfl (Nat.le_of_ble_eq_true rfl) dX2_playAct_133
      refine mc_i (wr := ((wD cI aD0 aD1 aD2 aD3 aD4 aT0 dy) ++ (wP cI aP0 aP1 pp))) hr hP hD hS hA [5, 6, 7, 8, 9, 10] [0, 1, 2, 3, 4, 11, 12] [0, 1, 2, 3, 4, 7, 8, 9, 10, 11, 12, 5, 6] rfl rfl rfl rfl rfl (wn := fun _ => ((wD cI aD0 aD1 aD2 aD3 aD4 aT0 dy) ++ (wK cI aT0 aT1 aT2 aT3 aT4 aT5 kT) ++ (wP cI aP0 aP1 pp))) (fun _ => rfl) (fun r_133 _ H locs hw_133 hP hD hS => ?_)
      have hP : va_P δ vwCl ((wD cI aD0 aD1 aD2 aD3 aD4 aT0 dy) ++ (wK cI aT0 aT1 aT2 aT3 aT4 aT5 kT) ++ (wP cI aP0 aP1 pp)) H := hP
      have hD : va_D A ((wD cI aD0 aD1 aD2 aD3 aD4 aT0 dy) ++ (wK cI aT0 aT1 aT2 aT3 aT4 aT5 kT) ++ (wP cI aP0 aP1 pp)) := hD
      have hR := bnd_eq hR hw_133.symm
      have hr := mrV (p := p) (e := e) (R := rm_X2_playAct) (below := below) (meth := meth) (H := H) (locs := locs) (ls := ls) (As := [.int r_21, .int r_21, .int r_133]) (rest := []) (c_X2_playDeeds l δ cI cJ cZ aD0 aD1 aD2 aD3 aD4 aT0 aT1 aT2 aT3 aT4 aT5 dy kT r_21 r_21 r_133) hx hb hml hts hown hK hNW hP hD [0, 1, 2, 3, 4, 5, 6, 7, 8, 9, 10] rfl rfl 2 0 rfl rfl (cwV 3 hts gX2_playAct_X2_playDeeds rfl rfl rfl (by decide +kernel) ⟨(Nat.le_of_ble_eq_true rfl), (Nat.le_of_ble_eq_true rfl)⟩) rfl hl.1 rfl (Nat.le_of_ble_eq_true rfl) dX2_playAct_136
      refine mc_i (wr := (wP cI aP0 aP1 pp)) hr hP hD hS hA [0, 1, 2, 3, 4, 5, 6, 7, 8, 9, 10] [11, 12] [2, 3, 4, 5, 6, 7, 8, 9, 10, 11, 12, 0, 1] rfl rfl rfl rfl rfl (wn := fun u_136 => ((wD cI aD0 aD1 aD2 aD3 aD4 aT0 u_136.1) ++ (wK cI aT0 aT1 aT2 aT3 aT4 aT5 u_136.2) ++ (wP cI aP0 aP1 pp))) (fun _ => rfl) (fun r_136 u_136 H locs hw_136 hP hD hS => ?_)
      have hP : va_P δ vwCl ((wD cI aD0 aD1 aD2 aD3 aD4 aT0 u_136.1) ++ (wK cI aT0 aT1 aT2 aT3 aT4 aT5 u_136.2) ++ (wP cI aP0 aP1 pp)) H := hP
      have hD : va_D A ((wD cI aD0 aD1 aD2 aD3 aD4 aT0 u_136.1) ++ (wK cI aT0 aT1 aT2 aT3 aT4 aT5 u_136.2) ++ (wP cI aP0 aP1 pp)) := hD
      have hR := bnd_eq hR hw_136.symm
      exact hret _ _ r_136 (u_136.1, u_136.2) _ _ hR hP hD hS dX2_playAct_139
    have hR := hR.trans (if_neg c_32_33)
    by_cases c_32_48 : r_29 = (48 : Int32)
    · have hR := hR.trans (if_pos c_32_48)
      refine lv_lookup (tgt := 116) (off := 84) hx hb dX2_playAct_32 (by decide) (by rw [c_32_48]; rfl) (by decide) ?_
      refine lv_aload_n hx hb dX2_playAct_116 rfl (lv_at hl 1 rfl) ?_
      refine va_get (D := δ) (ci := 2) (v := .ref aT0) (C := RX2) (T := TX2) (N := 9) hx hb hts hinX2 hown hK hP 0 rfl rfl 0 (by decide) (hts (.fieldLink RX2 12 "GloveHours$Day" "court" "LGloveHours$Court;") (List.mem_of_getElem? (i := 1) rfl)) (fun _ h9 => h9) rfl dX2_playAct_117 ?_
      refine lv_iload_n hx hb dX2_playAct_120 rfl (lv_at hl 0 rfl) ?_
      have hr := mrV (p := p) (e := e) (R := rm_X2_playAct) (below := below) (meth := meth) (H := H) (locs := locs) (ls := ls) (As := [.int r_21]) (rest := []) (c_X1_takeOff l δ cI cJ cZ aT0 aT1 aT2 aT3 aT4 aT5 kT r_21) hx hb hml hts hown hK hNW hP hD [5, 6, 7, 8, 9, 10] rfl rfl 1 0 rfl rfl (cwV 1 hts gX2_playAct_X1_takeOff rfl rfl rfl (by decide +kernel) ⟨(Nat.le_of_ble_eq_true rfl), (Nat.le_of_ble_eq_true rfl)⟩) rfl hl.1 rfl (Nat.le_of_ble_eq_true rfl) dX2_playAct_121
      refine mc_i (wr := ((wD cI aD0 aD1 aD2 aD3 aD4 aT0 dy) ++ (wP cI aP0 aP1 pp))) hr hP hD hS hA [5, 6, 7, 8, 9, 10] [0, 1, 2, 3, 4, 11, 12] [0, 1, 2, 3, 4, 7, 8, 9, 10, 11, 12, 5, 6] rfl rfl rfl rfl rfl (wn := fun u_121 => ((wD cI aD0 aD1 aD2 aD3 aD4 aT0 dy) ++ (wK cI aT0 aT1 aT2 aT3 aT4 aT5 u_121) ++ (wP cI aP0 aP1 pp))) (fun _ => rfl) (fun r_121 u_121 H locs hw_121 hP hD hS => ?_)
      have hP : va_P δ vwCl ((wD cI aD0 aD1 aD2 aD3 aD4 aT0 dy) ++ (wK cI aT0 aT1 aT2 aT3 aT4 aT5 u_121) ++ (wP cI aP0 aP1 pp)) H := hP
      have hD : va_D A ((wD cI aD0 aD1 aD2 aD3 aD4 aT0 dy) ++ (wK cI aT0 aT1 aT2 aT3 aT4 aT5 u_121) ++ (wP cI aP0 aP1 pp)) := hD
      have hR := bnd_eq hR hw_121.symm
      exact hret _ _ r_121 (dy, u_121) _ _ hR hP hD hS dX2_playAct_124
    have hR := hR.trans (if_neg c_32_48)
    by_cases c_32_62 : r_29 = (62 : Int32)
    · have hR := hR.trans (if_pos c_32_62)
      refine lv_lookup (tgt := 140) (off := 108) hx hb dX2_playAct_32 (by decide) (by rw [c_32_62]; rfl) (by decide) ?_
      refine lv_aload_n hx hb dX2_playAct_140 rfl (lv_at hl 1 rfl) ?_
      refine va_get (D := δ) (ci := 2) (v := .ref aT0) (C := RX2) (T := TX2) (N := 9) hx hb hts hinX2 hown hK hP 0 rfl rfl 0 (by decide) (hts (.fieldLink RX2 12 "GloveHours$Day" "court" "LGloveHours$Court;") (List.mem_of_getElem? (i := 1) rfl)) (fun _ h9 => h9) rfl dX2_playAct_141 ?_
      refine lv_iload_n hx hb dX2_playAct_144 rfl (lv_at hl 0 rfl) ?_
      refine lv_aload_n hx hb dX2_playAct_145 rfl (lv_at hl 2 rfl) ?_
      refine lv_iload_n hx hb dX2_playAct_146 rfl (lv_at hl 3 rfl) ?_
      refine lv_iconst (v := (2 : Int32)) hx hb dX2_playAct_147 (by decide) ?_
      refine lv_iadd hx hb dX2_playAct_148 ?_
      have hr := mrV (p := p) (e := e) (R := rm_X2_playAct) (below := below) (meth := meth) (H := H) (locs := locs) (ls := ls) (As := [.int (xp + (2 : Int32))]) (rest := [.int r_21, .ref aT0]) (c_X4_courtierAt l δ cI cJ cZ aP0 aP1 pp (xp + (2 : Int32))) hx hb hml hts hown hK hNW hP hD [11, 12] rfl rfl 4 0 rfl rfl (cwV 1 hts gX2_playAct_X4_courtierAt rfl rfl rfl (by decide +kernel) ⟨(Nat.le_of_ble_eq_true rfl), (Nat.le_of_ble_eq_true rfl)⟩) rfl hl.1 rfl (Nat.le_of_ble_eq_true rfl) dX2_playAct_149
      refine mc_i (wr := ((wD cI aD0 aD1 aD2 aD3 aD4 aT0 dy) ++ (wK cI aT0 aT1 aT2 aT3 aT4 aT5 kT))) hr hP hD hS hA [11, 12] [0, 1, 2, 3, 4, 5, 6, 7, 8, 9, 10] [0, 1, 2, 3, 4, 5, 6, 7, 8, 9, 10, 11, 12] rfl rfl rfl rfl rfl (wn := fun _ => ((wD cI aD0 aD1 aD2 aD3 aD4 aT0 dy) ++ (wK cI aT0 aT1 aT2 aT3 aT4 aT5 kT) ++ (wP cI aP0 aP1 pp))) (fun _ => rfl) (fun r_149 _ H locs hw_149 hP hD hS => ?_)
      have hP : va_P δ vwCl ((wD cI aD0 aD1 aD2 aD3 aD4 aT0 dy) ++ (wK cI aT0 aT1 aT2 aT3 aT4 aT5 kT) ++ (wP cI aP0 aP1 pp)) H := hP
      have hD : va_D A ((wD cI aD0 aD1 aD2 aD3 aD4 aT0 dy) ++ (wK cI aT0 aT1 aT2 aT3 aT4 aT5 kT) ++ (wP cI aP0 aP1 pp)) := hD
      have hR := bnd_eq hR hw_149.symm
      refine lv_aload_n hx hb dX2_playAct_152 rfl (lv_at hl 2 rfl) ?_
      refine lv_iload_n hx hb dX2_playAct_153 rfl (lv_at hl 3 rfl) ?_
      refine lv_iconst (v := (3 : Int32)) hx hb dX2_playAct_154 (by decide) ?_
      refine lv_iadd hx hb dX2_playAct_155 ?_
      have hr := mrV (p := p) (e := e) (R := rm_X2_playAct) (below := below) (meth := meth) (H := H) (locs := locs) (ls := ls) (As := [.int (xp + (3 : Int32))]) (rest := [.int r_149, .int r_21, .ref aT0]) (c_X4_hourAt l δ cI cJ cZ aP0 aP1 pp (xp + (3 : Int32))) hx hb hml hts hown hK hNW hP hD [11, 12] rfl rfl 4 0 rfl rfl (cwV 1 hts gX2_playAct_X4_hourAt rfl rfl rfl (by decide +kernel) ⟨(Nat.le_of_ble_eq_true rfl), (Nat.le_of_ble_eq_true rfl)⟩) rfl hl.1 rfl (Nat.le_of_ble_eq_true rfl) dX2_playAct_156
      refine mc_i (wr := ((wD cI aD0 aD1 aD2 aD3 aD4 aT0 dy) ++ (wK cI aT0 aT1 aT2 aT3 aT4 aT5 kT))) hr hP hD hS hA [11, 12] [0, 1, 2, 3, 4, 5, 6, 7, 8, 9, 10] [0, 1, 2, 3, 4, 5, 6, 7, 8, 9, 10, 11, 12] rfl rfl rfl rfl rfl (wn := fun _ => ((wD cI aD0 aD1 aD2 aD3 aD4 aT0 dy) ++ (wK cI aT0 aT1 aT2 aT3 aT4 aT5 kT) ++ (wP cI aP0 aP1 pp))) (fun _ => rfl) (fun r_156 _ H locs hw_156 hP hD hS => ?_)
      have hP : va_P δ vwCl ((wD cI aD0 aD1 aD2 aD3 aD4 aT0 dy) ++ (wK cI aT0 aT1 aT2 aT3 aT4 aT5 kT) ++ (wP cI aP0 aP1 pp)) H := hP
      have hD : va_D A ((wD cI aD0 aD1 aD2 aD3 aD4 aT0 dy) ++ (wK cI aT0 aT1 aT2 aT3 aT4 aT5 kT) ++ (wP cI aP0 aP1 pp)) := hD
      have hR := bnd_eq hR hw_156.symm
      have hr := mrV (p := p) (e := e) (R := rm_X2_playAct) (below := below) (meth := meth) (H := H) (locs := locs) (ls := ls) (As := [.int r_21, .int r_149, .int r_156]) (rest := []) (c_X1_give l δ cI cJ cZ aT0 aT1 aT2 aT3 aT4 aT5 kT r_21 r_149 r_156) hx hb hml hts hown hK hNW hP hD [5, 6, 7, 8, 9, 10] rfl rfl 1 0 rfl rfl (cwV 3 hts gX2_playAct_X1_give rfl rfl rfl (by decide +kernel) ⟨(Nat.le_of_ble_eq_true rfl), (Nat.le_of_ble_eq_true rfl)⟩) rfl hl.1 rfl (Nat.le_of_ble_eq_true rfl) dX2_playAct_159
      refine mc_i (wr := ((wD cI aD0 aD1 aD2 aD3 aD4 aT0 dy) ++ (wP cI aP0 aP1 pp))) hr hP hD hS hA [5, 6, 7, 8, 9, 10] [0, 1, 2, 3, 4, 11, 12] [0, 1, 2, 3, 4, 7, 8, 9, 10, 11, 12, 5, 6] rfl rfl rfl rfl rfl (wn := fun u_159 => ((wD cI aD0 aD1 aD2 aD3 aD4 aT0 dy) ++ (wK cI aT0 aT1 aT2 aT3 aT4 aT5 u_159) ++ (wP cI aP0 aP1 pp))) (fun _ => rfl) (fun r_159 u_159 H locs hw_159 hP hD hS => ?_)
      have hP : va_P δ vwCl ((wD cI aD0 aD1 aD2 aD3 aD4 aT0 dy) ++ (wK cI aT0 aT1 aT2 aT3 aT4 aT5 u_159) ++ (wP cI aP0 aP1 pp)) H := hP
      have hD : va_D A ((wD cI aD0 aD1 aD2 aD3 aD4 aT0 dy) ++ (wK cI aT0 aT1 aT2 aT3 aT4 aT5 u_159) ++ (wP cI aP0 aP1 pp)) := hD
      have hR := bnd_eq hR hw_159.symm
      exact hret _ _ r_159 (dy, u_159) _ _ hR hP hD hS dX2_playAct_162
    have hR := hR.trans (if_neg c_32_62)
    by_cases c_32_108 : r_29 = (108 : Int32)
    · have hR := hR.trans (if_pos c_32_108)
      refine lv_lookup (tgt := 84) (off := 52) hx hb dX2_playAct_32 (by decide) (by rw [c_32_108]; rfl) (by decide) ?_
      refine lv_aload_n hx hb dX2_playAct_84 rfl (lv_at hl 1 rfl) ?_
      refine va_get (D := δ) (ci := 2) (v := .ref aT0) (C := RX2) (T := TX2) (N := 9) hx hb hts hinX2 hown hK hP 0 rfl rfl 0 (by decide) (hts (.fieldLink RX2 12 "GloveHours$Day" "court" "LGloveHours$Court;") (List.mem_of_getElem? (i := 1) rfl)) (fun _ h9 => h9) rfl dX2_playAct_85 ?_
      refine lv_iload_n hx hb dX2_playAct_88 rfl (lv_at hl 0 rfl) ?_
      refine lv_aload_n hx hb dX2_playAct_89 rfl (lv_at hl 2 rfl) ?_
      refine lv_iload_n hx hb dX2_playAct_90 rfl (lv_at hl 3 rfl) ?_
      refine lv_iconst (v := (2 : Int32)) hx hb dX2_playAct_91 (by decide) ?_
      refine lv_iadd hx hb dX2_playAct_92 ?_
      have hr := mrV (p := p) (e := e) (R := rm_X2_playAct) (below := below) (meth := meth) (H := H) (locs := locs) (ls := ls) (As := [.int (xp + (2 : Int32))]) (rest := [.int r_21, .ref aT0]) (c_X4_hourAt l δ cI cJ cZ aP0 aP1 pp (xp + (2 : Int32))) hx hb hml hts hown hK hNW hP hD [11, 12] rfl rfl 4 0 rfl rfl (cwV 1 hts gX2_playAct_X4_hourAt rfl rfl rfl (by decide +kernel) ⟨(Nat.le_of_ble_eq_true rfl), (Nat.le_of_ble_eq_true rfl)⟩) rfl hl.1 rfl (Nat.le_of_ble_eq_true rfl) dX2_playAct_93
      refine mc_i (wr := ((wD cI aD0 aD1 aD2 aD3 aD4 aT0 dy) ++ (wK cI aT0 aT1 aT2 aT3 aT4 aT5 kT))) hr hP hD hS hA [11, 12] [0, 1, 2, 3, 4, 5, 6, 7, 8, 9, 10] [0, 1, 2, 3, 4, 5, 6, 7, 8, 9, 10, 11, 12] rfl rfl rfl rfl rfl (wn := fun _ => ((wD cI aD0 aD1 aD2 aD3 aD4 aT0 dy) ++ (wK cI aT0 aT1 aT2 aT3 aT4 aT5 kT) ++ (wP cI aP0 aP1 pp))) (fun _ => rfl) (fun r_93 _ H locs hw_93 hP hD hS => ?_)
      have hP : va_P δ vwCl ((wD cI aD0 aD1 aD2 aD3 aD4 aT0 dy) ++ (wK cI aT0 aT1 aT2 aT3 aT4 aT5 kT) ++ (wP cI aP0 aP1 pp)) H := hP
      have hD : va_D A ((wD cI aD0 aD1 aD2 aD3 aD4 aT0 dy) ++ (wK cI aT0 aT1 aT2 aT3 aT4 aT5 kT) ++ (wP cI aP0 aP1 pp)) := hD
      have hR := bnd_eq hR hw_93.symm
      have hr := mrV (p := p) (e := e) (R := rm_X2_playAct) (below := below) (meth := meth) (H := H) (locs := locs) (ls := ls) (As := [.int r_21, .int r_93]) (rest := []) (c_X1_putOnLeft l δ cI cJ cZ aT0 aT1 aT2 aT3 aT4 aT5 kT r_21 r_93) hx hb hml hts hown hK hNW hP hD [5, 6, 7, 8, 9, 10] rfl rfl 1 0 rfl rfl (cwV 2 hts gX2_playAct_X1_putOnLeft rfl rfl rfl (by decide +kernel) ⟨(Nat.le_of_ble_eq_true rfl), (Nat.le_of_ble_eq_true rfl)⟩) rfl hl.1 rfl (Nat.le_of_ble_eq_true rfl) dX2_playAct_96
      refine mc_i (wr := ((wD cI aD0 aD1 aD2 aD3 aD4 aT0 dy) ++ (wP cI aP0 aP1 pp))) hr hP hD hS hA [5, 6, 7, 8, 9, 10] [0, 1, 2, 3, 4, 11, 12] [0, 1, 2, 3, 4, 7, 8, 9, 10, 11, 12, 5, 6] rfl rfl rfl rfl rfl (wn := fun u_96 => ((wD cI aD0 aD1 aD2 aD3 aD4 aT0 dy) ++ (wK cI aT0 aT1 aT2 aT3 aT4 aT5 u_96) ++ (wP cI aP0 aP1 pp))) (fun _ => rfl) (fun r_96 u_96 H locs hw_96 hP hD hS => ?_)
      have hP : va_P δ vwCl ((wD cI aD0 aD1 aD2 aD3 aD4 aT0 dy) ++ (wK cI aT0 aT1 aT2 aT3 aT4 aT5 u_96) ++ (wP cI aP0 aP1 pp)) H := hP
      have hD : va_D A ((wD cI aD0 aD1 aD2 aD3 aD4 aT0 dy) ++ (wK cI aT0 aT1 aT2 aT3 aT4 aT5 u_96) ++ (wP cI aP0 aP1 pp)) := hD
      have hR := bnd_eq hR hw_96.symm
      exact hret _ _ r_96 (dy, u_96) _ _ hR hP hD hS dX2_playAct_99
    have hR := hR.trans (if_neg c_32_108)
    by_cases c_32_114 : r_29 = (114 : Int32)
    · have hR := hR.trans (if_pos c_32_114)
      refine lv_lookup (tgt := 100) (off := 68) hx hb dX2_playAct_32 (by decide) (by rw [c_32_114]; rfl) (by decide) ?_
      refine lv_aload_n hx hb dX2_playAct_100 rfl (lv_at hl 1 rfl) ?_
      refine va_get (D := δ) (ci := 2) (v := .ref aT0) (C := RX2) (T := TX2) (N := 9) hx hb hts hinX2 hown hK hP 0 rfl rfl 0 (by decide) (hts (.fieldLink RX2 12 "GloveHours$Day" "court" "LGloveHours$Court;") (List.mem_of_getElem? (i := 1) rfl)) (fun _ h9 => h9) rfl dX2_playAct_101 ?_
      refine lv_iload_n hx hb dX2_playAct_104 rfl (lv_at hl 0 rfl) ?_
      refine lv_aload_n hx hb dX2_playAct_105 rfl (lv_at hl 2 rfl) ?_
      refine lv_iload_n hx hb dX2_playAct_106 rfl (lv_at hl 3 rfl) ?_
      refine lv_iconst (v := (2 : Int32)) hx hb dX2_playAct_107 (by decide) ?_
      refine lv_iadd hx hb dX2_playAct_108 ?_
      have hr := mrV (p := p) (e := e) (R := rm_X2_playAct) (below := below) (meth := meth) (H := H) (locs := locs) (ls := ls) (As := [.int (xp + (2 : Int32))]) (rest := [.int r_21, .ref aT0]) (c_X4_hourAt l δ cI cJ cZ aP0 aP1 pp (xp + (2 : Int32))) hx hb hml hts hown hK hNW hP hD [11, 12] rfl rfl 4 0 rfl rfl (cwV 1 hts gX2_playAct_X4_hourAt rfl rfl rfl (by decide +kernel) ⟨(Nat.le_of_ble_eq_true rfl), (Nat.le_of_ble_eq_true rfl)⟩) rfl hl.1 rfl (Nat.le_of_ble_eq_true rfl) dX2_playAct_109
      refine mc_i (wr := ((wD cI aD0 aD1 aD2 aD3 aD4 aT0 dy) ++ (wK cI aT0 aT1 aT2 aT3 aT4 aT5 kT))) hr hP hD hS hA [11, 12] [0, 1, 2, 3, 4, 5, 6, 7, 8, 9, 10] [0, 1, 2, 3, 4, 5, 6, 7, 8, 9, 10, 11, 12] rfl rfl rfl rfl rfl (wn := fun _ => ((wD cI aD0 aD1 aD2 aD3 aD4 aT0 dy) ++ (wK cI aT0 aT1 aT2 aT3 aT4 aT5 kT) ++ (wP cI aP0 aP1 pp))) (fun _ => rfl) (fun r_109 _ H locs hw_109 hP hD hS => ?_)
      have hP : va_P δ vwCl ((wD cI aD0 aD1 aD2 aD3 aD4 aT0 dy) ++ (wK cI aT0 aT1 aT2 aT3 aT4 aT5 kT) ++ (wP cI aP0 aP1 pp)) H := hP
      have hD : va_D A ((wD cI aD0 aD1 aD2 aD3 aD4 aT0 dy) ++ (wK cI aT0 aT1 aT2 aT3 aT4 aT5 kT) ++ (wP cI aP0 aP1 pp)) := hD
      have hR := bnd_eq hR hw_109.symm
      have hr := mrV (p := p) (e := e) (R := rm_X2_playAct) (below := below) (meth := meth) (H := H) (locs := locs) (ls := ls) (As := [.int r_21, .int r_109]) (rest := []) (c_X1_putOnRight l δ cI cJ cZ aT0 aT1 aT2 aT3 aT4 aT5 kT r_21 r_109) hx hb hml hts hown hK hNW hP hD [5, 6, 7, 8, 9, 10] rfl rfl 1 0 rfl rfl (cwV 2 hts gX2_playAct_X1_putOnRight rfl rfl rfl (by decide +kernel) ⟨(Nat.le_of_ble_eq_true rfl), (Nat.le_of_ble_eq_true rfl)⟩) rfl hl.1 rfl (Nat.le_of_ble_eq_true rfl) dX2_playAct_112
      refine mc_i (wr := ((wD cI aD0 aD1 aD2 aD3 aD4 aT0 dy) ++ (wP cI aP0 aP1 pp))) hr hP hD hS hA [5, 6, 7, 8, 9, 10] [0, 1, 2, 3, 4, 11, 12] [0, 1, 2, 3, 4, 7, 8, 9, 10, 11, 12, 5, 6] rfl rfl rfl rfl rfl (wn := fun u_112 => ((wD cI aD0 aD1 aD2 aD3 aD4 aT0 dy) ++ (wK cI aT0 aT1 aT2 aT3 aT4 aT5 u_112) ++ (wP cI aP0 aP1 pp))) (fun _ => rfl) (fun r_112 u_112 H locs hw_112 hP hD hS => ?_)
      have hP : va_P δ vwCl ((wD cI aD0 aD1 aD2 aD3 aD4 aT0 dy) ++ (wK cI aT0 aT1 aT2 aT3 aT4 aT5 u_112) ++ (wP cI aP0 aP1 pp)) H := hP
      have hD : va_D A ((wD cI aD0 aD1 aD2 aD3 aD4 aT0 dy) ++ (wK cI aT0 aT1 aT2 aT3 aT4 aT5 u_112) ++ (wP cI aP0 aP1 pp)) := hD
      have hR := bnd_eq hR hw_112.symm
      exact hret _ _ r_112 (dy, u_112) _ _ hR hP hD hS dX2_playAct_115
    have hR := hR.trans (if_neg c_32_114)
    refine lv_lookup (tgt := 163) (off := 131) hx hb dX2_playAct_32 (by decide) (by have e0 : ¬ r_29.toInt = 33 := fun e => c_32_33 (Int32.toInt_inj.mp e); have e1 : ¬ r_29.toInt = 48 := fun e => c_32_48 (Int32.toInt_inj.mp e); have e2 : ¬ r_29.toInt = 62 := fun e => c_32_62 (Int32.toInt_inj.mp e); have e3 : ¬ r_29.toInt = 108 := fun e => c_32_108 (Int32.toInt_inj.mp e); have e4 : ¬ r_29.toInt = 114 := fun e => c_32_114 (Int32.toInt_inj.mp e); simp [Op.lookupswitch.offset, e0, Ne.symm e0, e1, Ne.symm e1, e2, Ne.symm e2, e3, Ne.symm e3, e4, Ne.symm e4]) (by decide) ?_
    refine lv_aload_n hx hb dX2_playAct_163 rfl (lv_at hl 2 rfl) ?_
    refine lv_iload_n hx hb dX2_playAct_164 rfl (lv_at hl 3 rfl) ?_
    refine lv_iconst (v := (1 : Int32)) hx hb dX2_playAct_165 (by decide) ?_
    refine lv_iadd hx hb dX2_playAct_166 ?_
    have hr := mrV (p := p) (e := e) (R := rm_X2_playAct) (below := below) (meth := meth) (H := H) (locs := locs) (ls := ls) (As := [.int (xp + (1 : Int32))]) (rest := []) (c_X4_courtierAt l δ cI cJ cZ aP0 aP1 pp (xp + (1 : Int32))) hx hb hml hts hown hK hNW hP hD [11, 12] rfl rfl 4 0 rfl rfl (cwV 1 hts gX2_playAct_X4_courtierAt rfl rfl rfl (by decide +kernel) ⟨(Nat.le_of_ble_eq_true rfl), (Nat.le_of_ble_eq_true rfl)⟩) rfl hl.1 rfl (Nat.le_of_ble_eq_true rfl) dX2_playAct_167
    refine mc_i (wr := ((wD cI aD0 aD1 aD2 aD3 aD4 aT0 dy) ++ (wK cI aT0 aT1 aT2 aT3 aT4 aT5 kT))) hr hP hD hS hA [11, 12] [0, 1, 2, 3, 4, 5, 6, 7, 8, 9, 10] [0, 1, 2, 3, 4, 5, 6, 7, 8, 9, 10, 11, 12] rfl rfl rfl rfl rfl (wn := fun _ => ((wD cI aD0 aD1 aD2 aD3 aD4 aT0 dy) ++ (wK cI aT0 aT1 aT2 aT3 aT4 aT5 kT) ++ (wP cI aP0 aP1 pp))) (fun _ => rfl) (fun r_167 _ H locs hw_167 hP hD hS => ?_)
    have hP : va_P δ vwCl ((wD cI aD0 aD1 aD2 aD3 aD4 aT0 dy) ++ (wK cI aT0 aT1 aT2 aT3 aT4 aT5 kT) ++ (wP cI aP0 aP1 pp)) H := hP
    have hD : va_D A ((wD cI aD0 aD1 aD2 aD3 aD4 aT0 dy) ++ (wK cI aT0 aT1 aT2 aT3 aT4 aT5 kT) ++ (wP cI aP0 aP1 pp)) := hD
    have hR := bnd_eq hR hw_167.symm
    refine lv_istore (lv' := [(4, .int r_167), (3, .int r_21), (0, .ref aD0), (1, .ref aP0), (2, .int xp)]) hx hb dX2_playAct_170 hl (by decide) rfl (fun ls hl => ?_)
    refine lv_aload_n hx hb dX2_playAct_172 rfl (lv_at hl 2 rfl) ?_
    refine lv_iload_n hx hb dX2_playAct_173 rfl (lv_at hl 1 rfl) ?_
    refine lv_iload hx hb dX2_playAct_174 (lv_at hl 0 rfl) ?_
    refine lv_aload_n hx hb dX2_playAct_176 rfl (lv_at hl 2 rfl) ?_
    refine va_get (D := δ) (ci := 2) (v := .ref aT0) (C := RX2) (T := TX2) (N := 9) hx hb hts hinX2 hown hK hP 0 rfl rfl 0 (by decide) (hts (.fieldLink RX2 12 "GloveHours$Day" "court" "LGloveHours$Court;") (List.mem_of_getElem? (i := 1) rfl)) (fun _ h9 => h9) rfl dX2_playAct_177 ?_
    refine lv_iload_n hx hb dX2_playAct_180 rfl (lv_at hl 1 rfl) ?_
    refine lv_iload hx hb dX2_playAct_181 (lv_at hl 0 rfl) ?_
    have hr := mrV (p := p) (e := e) (R := rm_X2_playAct) (below := below) (meth := meth) (H := H) (locs := locs) (ls := ls) (As := [.int r_21, .int r_167]) (rest := [.int r_167, .int r_21, .ref aD0]) (c_X1_whyNoPromise l δ cI cJ cZ aT0 aT1 aT2 aT3 aT4 aT5 kT r_21 r_167) hx hb hml hts hown hK hNW hP hD [5, 6, 7, 8, 9, 10] rfl rfl 1 0 rfl rfl (cwV 2 hts gX2_playAct_X1_whyNoPromise rfl rfl rfl (by decide +kernel) ⟨(Nat.le_of_ble_eq_true rfl), (Nat.le_of_ble_eq_true rfl)⟩) rfl hl.1 rfl (Nat.le_of_ble_eq_true rfl) dX2_playAct_183
    refine mc_i (wr := ((wD cI aD0 aD1 aD2 aD3 aD4 aT0 dy) ++ (wP cI aP0 aP1 pp))) hr hP hD hS hA [5, 6, 7, 8, 9, 10] [0, 1, 2, 3, 4, 11, 12] [0, 1, 2, 3, 4, 7, 8, 9, 10, 11, 12, 5, 6] rfl rfl rfl rfl rfl (wn := fun _ => ((wD cI aD0 aD1 aD2 aD3 aD4 aT0 dy) ++ (wK cI aT0 aT1 aT2 aT3 aT4 aT5 kT) ++ (wP cI aP0 aP1 pp))) (fun _ => rfl) (fun r_183 _ H locs hw_183 hP hD hS => ?_)
    have hP : va_P δ vwCl ((wD cI aD0 aD1 aD2 aD3 aD4 aT0 dy) ++ (wK cI aT0 aT1 aT2 aT3 aT4 aT5 kT) ++ (wP cI aP0 aP1 pp)) H := hP
    have hD : va_D A ((wD cI aD0 aD1 aD2 aD3 aD4 aT0 dy) ++ (wK cI aT0 aT1 aT2 aT3 aT4 aT5 kT) ++ (wP cI aP0 aP1 pp)) := hD
    have hR := bnd_eq hR hw_183.symm
    have hr := mrV (p := p) (e := e) (R := rm_X2_playAct) (below := below) (meth := meth) (H := H) (locs := locs) (ls := ls) (As := [.int r_21, .int r_167, .int r_183]) (rest := []) (c_X2_playDeeds l δ cI cJ cZ aD0 aD1 aD2 aD3 aD4 aT0 aT1 aT2 aT3 aT4 aT5 dy kT r_21 r_167 r_183) hx hb hml hts hown hK hNW hP hD [0, 1, 2, 3, 4, 5, 6, 7, 8, 9, 10] rfl rfl 2 0 rfl rfl (cwV 3 hts gX2_playAct_X2_playDeeds rfl rfl rfl (by decide +kernel) ⟨(Nat.le_of_ble_eq_true rfl), (Nat.le_of_ble_eq_true rfl)⟩) rfl hl.1 rfl (Nat.le_of_ble_eq_true rfl) dX2_playAct_186
    refine mc_i (wr := (wP cI aP0 aP1 pp)) hr hP hD hS hA [0, 1, 2, 3, 4, 5, 6, 7, 8, 9, 10] [11, 12] [2, 3, 4, 5, 6, 7, 8, 9, 10, 11, 12, 0, 1] rfl rfl rfl rfl rfl (wn := fun u_186 => ((wD cI aD0 aD1 aD2 aD3 aD4 aT0 u_186.1) ++ (wK cI aT0 aT1 aT2 aT3 aT4 aT5 u_186.2) ++ (wP cI aP0 aP1 pp))) (fun _ => rfl) (fun r_186 u_186 H locs hw_186 hP hD hS => ?_)
    have hP : va_P δ vwCl ((wD cI aD0 aD1 aD2 aD3 aD4 aT0 u_186.1) ++ (wK cI aT0 aT1 aT2 aT3 aT4 aT5 u_186.2) ++ (wP cI aP0 aP1 pp)) H := hP
    have hD : va_D A ((wD cI aD0 aD1 aD2 aD3 aD4 aT0 u_186.1) ++ (wK cI aT0 aT1 aT2 aT3 aT4 aT5 u_186.2) ++ (wP cI aP0 aP1 pp)) := hD
    have hR := bnd_eq hR hw_186.symm
    exact hret _ _ r_186 (u_186.1, u_186.2) _ _ hR hP hD hS dX2_playAct_189
  · have c_7 : (r_2 = (46 : Int32)) := c_7
    have hR := hR.trans (if_pos c_7)
    refine lv_aload_n hx hb dX2_playAct_10 rfl (lv_at hl 0 rfl) ?_
    refine va_get (D := δ) (ci := 2) (v := .ref aT0) (C := RX2) (T := TX2) (N := 9) hx hb hts hinX2 hown hK hP 0 rfl rfl 0 (by decide) (hts (.fieldLink RX2 12 "GloveHours$Day" "court" "LGloveHours$Court;") (List.mem_of_getElem? (i := 1) rfl)) (fun _ h9 => h9) rfl dX2_playAct_11 ?_
    have hr := mrV (p := p) (e := e) (R := rm_X2_playAct) (below := below) (meth := meth) (H := H) (locs := locs) (ls := ls) (As := []) (rest := []) (c_X1_passHour l δ cI cJ cZ aT0 aT1 aT2 aT3 aT4 aT5 kT) hx hb hml hts hown hK hNW hP hD [5, 6, 7, 8, 9, 10] rfl rfl 1 0 rfl rfl (cwV 0 hts gX2_playAct_X1_passHour rfl rfl rfl (by decide +kernel) ⟨(Nat.le_of_ble_eq_true rfl), (Nat.le_of_ble_eq_true rfl)⟩) rfl hl.1 rfl (Nat.le_of_ble_eq_true rfl) dX2_playAct_14
    refine mc_v (wr := ((wD cI aD0 aD1 aD2 aD3 aD4 aT0 dy) ++ (wP cI aP0 aP1 pp))) hr hP hD hS hA [5, 6, 7, 8, 9, 10] [0, 1, 2, 3, 4, 11, 12] [0, 1, 2, 3, 4, 7, 8, 9, 10, 11, 12, 5, 6] rfl rfl rfl rfl rfl (wn := fun u_14 => ((wD cI aD0 aD1 aD2 aD3 aD4 aT0 dy) ++ (wK cI aT0 aT1 aT2 aT3 aT4 aT5 u_14) ++ (wP cI aP0 aP1 pp))) (fun _ => rfl) (fun u_14 H locs hw_14 hP hD hS => ?_)
    have hP : va_P δ vwCl ((wD cI aD0 aD1 aD2 aD3 aD4 aT0 dy) ++ (wK cI aT0 aT1 aT2 aT3 aT4 aT5 u_14) ++ (wP cI aP0 aP1 pp)) H := hP
    have hD : va_D A ((wD cI aD0 aD1 aD2 aD3 aD4 aT0 dy) ++ (wK cI aT0 aT1 aT2 aT3 aT4 aT5 u_14) ++ (wP cI aP0 aP1 pp)) := hD
    have hR := bnd_eq hR hw_14.symm
    refine lv_iconst (v := (0 : Int32)) hx hb dX2_playAct_17 (by decide) ?_
    exact hret _ _ (0 : Int32) (dy, u_14) _ _ hR hP hD hS dX2_playAct_18

abbrev rm_X2_playPad : Room := { frames := 5, cells := 0, slots := 0, locals := 114 }
set_option maxHeartbeats 4000000 in
set_option maxRecDepth 100000 in
theorem c_X2_playPad (l : Launch) (δ : va_G) (cI cJ cZ : ClassId) (aD0 aD1 aD2 aD3 aD4 aT0 aT1 aT2 aT3 aT4 aT5 aK0 aK1 aK2 aK3 aK4 aK5 aP0 aP1 : Nat) (dy : DS) (kT : KS) (k : KS) (pp : PS) : mMi l δ (mTy cI cJ cZ) yX2_playPad wsX2_playPad rm_X2_playPad [.ref aD0, .ref aK0, .ref aP0] ((wD cI aD0 aD1 aD2 aD3 aD4 aT0 dy) ++ (wK cI aT0 aT1 aT2 aT3 aT4 aT5 kT) ++ (wK cI aK0 aK1 aK2 aK3 aK4 aK5 k) ++ (wP cI aP0 aP1 pp)) (S := DS × KS) (fun r u => F_X2_playPad dy kT k pp = (r, u)) (fun u => ((wD cI aD0 aD1 aD2 aD3 aD4 aT0 u.1) ++ (wK cI aT0 aT1 aT2 aT3 aT4 aT5 u.2) ++ (wK cI aK0 aK1 aK2 aK3 aK4 aK5 k) ++ (wP cI aP0 aP1 pp))) := by
  refine mk_i (cc := cX2_playPad) (maxL := 6) (by decide) rfl (Nat.le_of_ble_eq_true rfl) ?_
  intro p e s m args below meth c A Q ls H locs hx hb hml hts hown hK hNW hA hP hD hS hl hret
  have hown : s.vm.findClass RX2 = some m.cls := hown
  have hl : lv_has ls 6 [(0, .ref aD0), (1, .ref aK0), (2, .ref aP0)] := hl
  have hinX2 : ∀ w ∈ u_ws RX2 TX2 9, w ∈ wsX2_playPad := (fun _ h => List.mem_cons_of_mem _ (List.mem_append_left _ (List.mem_append_right _ (h))))
  have hinX4 : ∀ w ∈ u_ws RX4 TX4 2, w ∈ wsX2_playPad := (fun _ h => List.mem_cons_of_mem _ (List.mem_append_left _ (List.mem_append_left _ (List.mem_append_right _ (h)))))
  have hR := F_X2_playPad.eq_1 dy kT k pp
  refine lv_aload_n hx hb dX2_playPad_0 rfl (lv_at hl 2 rfl) ?_
  have hr := mrV (p := p) (e := e) (R := rm_X2_playPad) (below := below) (meth := meth) (H := H) (locs := locs) (ls := ls) (As := []) (rest := []) (c_X4_firstFault l δ cI cJ cZ aP0 aP1 pp) hx hb hml hts hown hK hNW hP hD [17, 18] rfl rfl 4 0 rfl rfl (cwV 0 hts gX2_playPad_X4_firstFault rfl rfl rfl (by decide +kernel) ⟨(Nat.le_of_ble_eq_true rfl), (Nat.le_of_ble_eq_true rfl)⟩) rfl hl.1 rfl (Nat.le_of_ble_eq_true rfl) dX2_playPad_1
  refine mc_i (wr := ((wD cI aD0 aD1 aD2 aD3 aD4 aT0 dy) ++ (wK cI aT0 aT1 aT2 aT3 aT4 aT5 kT) ++ (wK cI aK0 aK1 aK2 aK3 aK4 aK5 k))) hr hP hD hS hA [17, 18] [0, 1, 2, 3, 4, 5, 6, 7, 8, 9, 10, 11, 12, 13, 14, 15, 16] [0, 1, 2, 3, 4, 5, 6, 7, 8, 9, 10, 11, 12, 13, 14, 15, 16, 17, 18] rfl rfl rfl rfl rfl (wn := fun _ => ((wD cI aD0 aD1 aD2 aD3 aD4 aT0 dy) ++ (wK cI aT0 aT1 aT2 aT3 aT4 aT5 kT) ++ (wK cI aK0 aK1 aK2 aK3 aK4 aK5 k) ++ (wP cI aP0 aP1 pp))) (fun _ => rfl) (fun r_1 _ H locs hw_1 hP hD hS => ?_)
  have hP : va_P δ vwCl ((wD cI aD0 aD1 aD2 aD3 aD4 aT0 dy) ++ (wK cI aT0 aT1 aT2 aT3 aT4 aT5 kT) ++ (wK cI aK0 aK1 aK2 aK3 aK4 aK5 k) ++ (wP cI aP0 aP1 pp)) H := hP
  have hD : va_D A ((wD cI aD0 aD1 aD2 aD3 aD4 aT0 dy) ++ (wK cI aT0 aT1 aT2 aT3 aT4 aT5 kT) ++ (wK cI aK0 aK1 aK2 aK3 aK4 aK5 k) ++ (wP cI aP0 aP1 pp)) := hD
  have hR := bnd_eq hR hw_1.symm
  refine lv_bipush (v := (-6 : Int32)) hx hb dX2_playPad_4 (by decide) ?_
  refine lv_icmp_eq (tgt := 12) hx hb dX2_playPad_6 (by decide) (fun c_6 => ?_) (fun c_6 => ?_)
  · have c_6 : (r_1 = (-6 : Int32)) := c_6
    have hR := hR.trans (if_pos c_6)
    refine lv_aload_n hx hb dX2_playPad_12 rfl (lv_at hl 0 rfl) ?_
    refine lv_aload_n hx hb dX2_playPad_13 rfl (lv_at hl 1 rfl) ?_
    have hr := mrV (p := p) (e := e) (R := rm_X2_playPad) (below := below) (meth := meth) (H := H) (locs := locs) (ls := ls) (As := [.ref aK0]) (rest := []) (c_X2_begin l δ cI cJ cZ aD0 aD1 aD2 aD3 aD4 aT0 aT1 aT2 aT3 aT4 aT5 aK0 aK1 aK2 aK3 aK4 aK5 dy kT k) hx hb hml hts hown hK hNW hP hD [0, 1, 2, 3, 4, 5, 6, 7, 8, 9, 10, 11, 12, 13, 14, 15, 16] rfl rfl 2 0 rfl rfl (cwV 1 hts gX2_playPad_X2_begin rfl rfl rfl (by decide +kernel) ⟨(Nat.le_of_ble_eq_true rfl), (Nat.le_of_ble_eq_true rfl)⟩) rfl hl.1 rfl (Nat.le_of_ble_eq_true rfl) dX2_playPad_14
    refine mc_v (wr := (wP cI aP0 aP1 pp)) hr hP hD hS hA [0, 1, 2, 3, 4, 5, 6, 7, 8, 9, 10, 11, 12, 13, 14, 15, 16] [17, 18] [2, 3, 4, 5, 6, 7, 8, 9, 10, 11, 12, 13, 14, 15, 16, 17, 18, 0, 1] rfl rfl rfl rfl rfl (wn := fun u_14 => ((wD cI aD0 aD1 aD2 aD3 aD4 aT0 u_14.1) ++ (wK cI aT0 aT1 aT2 aT3 aT4 aT5 u_14.2) ++ (wK cI aK0 aK1 aK2 aK3 aK4 aK5 k) ++ (wP cI aP0 aP1 pp))) (fun _ => rfl) (fun u_14 H locs hw_14 hP hD hS => ?_)
    have hP : va_P δ vwCl ((wD cI aD0 aD1 aD2 aD3 aD4 aT0 u_14.1) ++ (wK cI aT0 aT1 aT2 aT3 aT4 aT5 u_14.2) ++ (wK cI aK0 aK1 aK2 aK3 aK4 aK5 k) ++ (wP cI aP0 aP1 pp)) H := hP
    have hD : va_D A ((wD cI aD0 aD1 aD2 aD3 aD4 aT0 u_14.1) ++ (wK cI aT0 aT1 aT2 aT3 aT4 aT5 u_14.2) ++ (wK cI aK0 aK1 aK2 aK3 aK4 aK5 k) ++ (wP cI aP0 aP1 pp)) := hD
    have hR := bnd_eq hR hw_14.symm
    refine lv_iconst (v := (0 : Int32)) hx hb dX2_playPad_17 (by decide) ?_
    refine lv_istore_n (lv' := [(3, .int (0 : Int32)), (0, .ref aD0), (1, .ref aK0), (2, .ref aP0)]) hx hb dX2_playPad_18 rfl hl (by decide) rfl (fun ls hl => ?_)
    refine lv_iconst (v := (0 : Int32)) hx hb dX2_playPad_19 (by decide) ?_
    refine lv_istore (lv' := [(4, .int (0 : Int32)), (3, .int (0 : Int32)), (0, .ref aD0), (1, .ref aK0), (2, .ref aP0)]) hx hb dX2_playPad_20 hl (by decide) rfl (fun ls hl => ?_)
    have hloop_22 : ∀ (n_22 : Nat) (i_22 : Nat) (v3_22 : Int32) (dy_22 : DS) (kT_22 : KS) (H : Heap) (locs : List Loc) (ls : Array Slot), (hi_22 : i_22 ≤ 60) → (hn_22 : 60 < i_22 + n_22) → (hP : va_P δ vwCl ((wD cI aD0 aD1 aD2 aD3 aD4 aT0 dy_22) ++ (wK cI aT0 aT1 aT2 aT3 aT4 aT5 kT_22) ++ (wK cI aK0 aK1 aK2 aK3 aK4 aK5 k) ++ (wP cI aP0 aP1 pp)) H) → (hD : va_D A ((wD cI aD0 aD1 aD2 aD3 aD4 aT0 dy_22) ++ (wK cI aT0 aT1 aT2 aT3 aT4 aT5 kT_22) ++ (wK cI aK0 aK1 aK2 aK3 aK4 aK5 k) ++ (wP cI aP0 aP1 pp))) → (hS : va_S A s.heap H locs) → (hl : lv_has ls 6 [(4, .int (nI i_22)), (3, .int v3_22), (0, .ref aD0), (1, .ref aK0), (2, .ref aP0)]) → (hR : F_X2_playPad dy kT k pp = L_X2_playPad_22 pp n_22 i_22 v3_22 dy_22 kT_22) → W p l e rm_X2_playPad s m args below meth c H locs 0 0 Q (F0 m 22 ls []) := by
      intro n_22
      induction n_22 with
      | zero => intro i_22 v3_22 dy_22 kT_22 H locs ls hi_22 hn_22 hP hD hS hl hR; exact absurd hn_22 (by omega)
      | succ n_22 ih_22 =>
        intro i_22 v3_22 dy_22 kT_22 H locs ls hi_22 hn_22 hP hD hS hl hR
        have hR := hR.trans (L_X2_playPad_22_s pp n_22 i_22 v3_22 dy_22 kT_22)
        refine lv_iload hx hb dX2_playPad_22 (lv_at hl 0 rfl) ?_
        refine lv_bipush (v := (60 : Int32)) hx hb dX2_playPad_24 (by decide) ?_
        refine lv_icmp_ge (tgt := 89) hx hb dX2_playPad_26 (by decide) (fun c_26 => ?_) (fun c_26 => ?_)
        · have c_26 : ((60 : Int32) ≤ (nI i_22)) := c_26
          have hR := hR.trans (if_pos c_26)
          refine lv_iconst (v := (0 : Int32)) hx hb dX2_playPad_89 (by decide) ?_
          exact hret _ _ (0 : Int32) (dy_22, kT_22) _ _ hR hP hD hS dX2_playPad_90
        · have c_26 : ¬ ((60 : Int32) ≤ (nI i_22)) := c_26
          have hR := hR.trans (if_neg c_26)
          have hlt_22 : i_22 < 60 := lt_g c_26 hi_22 (by decide)
          refine lv_iload_n hx hb dX2_playPad_29 rfl (lv_at hl 1 rfl) ?_
          refine lv_aload_n hx hb dX2_playPad_30 rfl (lv_at hl 4 rfl) ?_
          refine va_get (D := δ) (ci := 4) (v := .int (pLength pp)) (C := RX4) (T := TX4) (N := 2) hx hb hts hinX4 hown hK hP 17 rfl rfl 0 (by decide) (hts (.fieldLink RX2 57 "GloveHours$Pad" "length" "I") (List.mem_of_getElem? (i := 1) rfl)) (fun _ h9 => h9) rfl dX2_playPad_31 ?_
          refine lv_icmp_ge (tgt := 89) hx hb dX2_playPad_34 (by decide) (fun c_34 => ?_) (fun c_34 => ?_)
          · have c_34 : ((pLength pp) ≤ v3_22) := c_34
            have hR := hR.trans (if_pos c_34)
            refine lv_iconst (v := (0 : Int32)) hx hb dX2_playPad_89 (by decide) ?_
            exact hret _ _ (0 : Int32) (dy_22, kT_22) _ _ hR hP hD hS dX2_playPad_90
          · have c_34 : ¬ ((pLength pp) ≤ v3_22) := c_34
            have hR := hR.trans (if_neg c_34)
            refine lv_aload_n hx hb dX2_playPad_37 rfl (lv_at hl 2 rfl) ?_
            refine lv_aload_n hx hb dX2_playPad_38 rfl (lv_at hl 4 rfl) ?_
            refine lv_iload_n hx hb dX2_playPad_39 rfl (lv_at hl 1 rfl) ?_
            have hr := mrV (p := p) (e := e) (R := rm_X2_playPad) (below := below) (meth := meth) (H := H) (locs := locs) (ls := ls) (As := [.ref aP0, .int v3_22]) (rest := []) (c_X2_playAct l δ cI cJ cZ aD0 aD1 aD2 aD3 aD4 aT0 aT1 aT2 aT3 aT4 aT5 aP0 aP1 dy_22 kT_22 pp v3_22) hx hb hml hts hown hK hNW hP hD [0, 1, 2, 3, 4, 5, 6, 7, 8, 9, 10, 17, 18] rfl rfl 2 0 rfl rfl (cwV 2 hts gX2_playPad_X2_playAct rfl rfl rfl (by decide +kernel) ⟨(Nat.le_of_ble_eq_true rfl), (Nat.le_of_ble_eq_true rfl)⟩) rfl hl.1 rfl (Nat.le_of_ble_eq_true rfl) dX2_playPad_40
            refine mc_i (wr := (wK cI aK0 aK1 aK2 aK3 aK4 aK5 k)) hr hP hD hS hA [0, 1, 2, 3, 4, 5, 6, 7, 8, 9, 10, 17, 18] [11, 12, 13, 14, 15, 16] [6, 7, 8, 9, 10, 11, 12, 13, 14, 15, 16, 0, 1, 2, 3, 4, 5, 17, 18] rfl rfl rfl rfl rfl (wn := fun u_40 => ((wD cI aD0 aD1 aD2 aD3 aD4 aT0 u_40.1) ++ (wK cI aT0 aT1 aT2 aT3 aT4 aT5 u_40.2) ++ (wK cI aK0 aK1 aK2 aK3 aK4 aK5 k) ++ (wP cI aP0 aP1 pp))) (fun _ => rfl) (fun r_40 u_40 H locs hw_40 hP hD hS => ?_)
            have hP : va_P δ vwCl ((wD cI aD0 aD1 aD2 aD3 aD4 aT0 u_40.1) ++ (wK cI aT0 aT1 aT2 aT3 aT4 aT5 u_40.2) ++ (wK cI aK0 aK1 aK2 aK3 aK4 aK5 k) ++ (wP cI aP0 aP1 pp)) H := hP
            have hD : va_D A ((wD cI aD0 aD1 aD2 aD3 aD4 aT0 u_40.1) ++ (wK cI aT0 aT1 aT2 aT3 aT4 aT5 u_40.2) ++ (wK cI aK0 aK1 aK2 aK3 aK4 aK5 k) ++ (wP cI aP0 aP1 pp)) := hD
            have hR := bnd_eq hR hw_40.symm
            refine lv_istore (lv' := [(5, .int r_40), (4, .int (nI i_22)), (3, .int v3_22), (0, .ref aD0), (1, .ref aK0), (2, .ref aP0)]) hx hb dX2_playPad_43 hl (by decide) rfl (fun ls hl => ?_)
            refine lv_iload hx hb dX2_playPad_45 (lv_at hl 0 rfl) ?_
            refine lv_if_eq (tgt := 65) hx hb dX2_playPad_47 (by decide) (fun c_47 => ?_) (fun c_47 => ?_)
            · have c_47 : (r_40 = 0) := c_47
              have hR := hR.trans (if_pos c_47)
              refine lv_aload_n hx hb dX2_playPad_65 rfl (lv_at hl 3 rfl) ?_
              refine lv_dup hx hb dX2_playPad_66 rfl ?_
              refine va_get (D := δ) (ci := 2) (v := .int (dActs u_40.1)) (C := RX2) (T := TX2) (N := 9) hx hb hts hinX2 hown hK hP 0 rfl rfl 1 (by decide) (hts (.fieldLink RX2 35 "GloveHours$Day" "acts" "I") (List.mem_of_getElem? (i := 4) rfl)) (fun _ h9 => h9) rfl dX2_playPad_67 ?_
              refine lv_iconst (v := (1 : Int32)) hx hb dX2_playPad_70 (by decide) ?_
              refine lv_iadd hx hb dX2_playPad_71 ?_
              refine va_put (D := δ) (ci := 2) (v := .int ((dActs u_40.1) + (1 : Int32))) (ty := .int) (C := RX2) (T := TX2) (N := 9) hx hb hts hinX2 tyX2 tyX2_ok nmX2 hown hK hP hD hS 0 rfl rfl 1 (by decide) (hts (.fieldLink RX2 35 "GloveHours$Day" "acts" "I") (List.mem_of_getElem? (i := 4) rfl)) (fun _ h9 => h9) rfl (by decide +kernel) rfl rfl (Nat.le_of_ble_eq_true rfl) dX2_playPad_72 (fun H locs hP hD hS => ?_)
              have hP : va_P δ vwCl ((wD cI aD0 aD1 aD2 aD3 aD4 aT0 (((dActs u_40.1) + (1 : Int32)), dDeeds u_40.1, dStoppedAct u_40.1, dStoppedWhy u_40.1, dDeedHours u_40.1, dDeedClocks u_40.1, dDeedCourtiers u_40.1, dLongestFrom u_40.1)) ++ (wK cI aT0 aT1 aT2 aT3 aT4 aT5 u_40.2) ++ (wK cI aK0 aK1 aK2 aK3 aK4 aK5 k) ++ (wP cI aP0 aP1 pp)) H := hP
              have hD : va_D A ((wD cI aD0 aD1 aD2 aD3 aD4 aT0 (((dActs u_40.1) + (1 : Int32)), dDeeds u_40.1, dStoppedAct u_40.1, dStoppedWhy u_40.1, dDeedHours u_40.1, dDeedClocks u_40.1, dDeedCourtiers u_40.1, dLongestFrom u_40.1)) ++ (wK cI aT0 aT1 aT2 aT3 aT4 aT5 u_40.2) ++ (wK cI aK0 aK1 aK2 aK3 aK4 aK5 k) ++ (wP cI aP0 aP1 pp)) := hD
              refine lv_iload_n hx hb dX2_playPad_75 rfl (lv_at hl 2 rfl) ?_
              refine lv_aload_n hx hb dX2_playPad_76 rfl (lv_at hl 5 rfl) ?_
              refine lv_iload_n hx hb dX2_playPad_77 rfl (lv_at hl 2 rfl) ?_
              have hr := mrV (p := p) (e := e) (R := rm_X2_playPad) (below := below) (meth := meth) (H := H) (locs := locs) (ls := ls) (As := [.int v3_22]) (rest := [.int v3_22]) (c_X4_widthAt l δ cI cJ cZ aP0 aP1 pp v3_22) hx hb hml hts hown hK hNW hP hD [17, 18] rfl rfl 4 0 rfl rfl (cwV 1 hts gX2_playPad_X4_widthAt rfl rfl rfl (by decide +kernel) ⟨(Nat.le_of_ble_eq_true rfl), (Nat.le_of_ble_eq_true rfl)⟩) rfl hl.1 rfl (Nat.le_of_ble_eq_true rfl) dX2_playPad_78
              refine mc_i (wr := ((wD cI aD0 aD1 aD2 aD3 aD4 aT0 (((dActs u_40.1) + (1 : Int32)), dDeeds u_40.1, dStoppedAct u_40.1, dStoppedWhy u_40.1, dDeedHours u_40.1, dDeedClocks u_40.1, dDeedCourtiers u_40.1, dLongestFrom u_40.1)) ++ (wK cI aT0 aT1 aT2 aT3 aT4 aT5 u_40.2) ++ (wK cI aK0 aK1 aK2 aK3 aK4 aK5 k))) hr hP hD hS hA [17, 18] [0, 1, 2, 3, 4, 5, 6, 7, 8, 9, 10, 11, 12, 13, 14, 15, 16] [0, 1, 2, 3, 4, 5, 6, 7, 8, 9, 10, 11, 12, 13, 14, 15, 16, 17, 18] rfl rfl rfl rfl rfl (wn := fun _ => ((wD cI aD0 aD1 aD2 aD3 aD4 aT0 (((dActs u_40.1) + (1 : Int32)), dDeeds u_40.1, dStoppedAct u_40.1, dStoppedWhy u_40.1, dDeedHours u_40.1, dDeedClocks u_40.1, dDeedCourtiers u_40.1, dLongestFrom u_40.1)) ++ (wK cI aT0 aT1 aT2 aT3 aT4 aT5 u_40.2) ++ (wK cI aK0 aK1 aK2 aK3 aK4 aK5 k) ++ (wP cI aP0 aP1 pp))) (fun _ => rfl) (fun r_78 _ H locs hw_78 hP hD hS => ?_)
              have hP : va_P δ vwCl ((wD cI aD0 aD1 aD2 aD3 aD4 aT0 (((dActs u_40.1) + (1 : Int32)), dDeeds u_40.1, dStoppedAct u_40.1, dStoppedWhy u_40.1, dDeedHours u_40.1, dDeedClocks u_40.1, dDeedCourtiers u_40.1, dLongestFrom u_40.1)) ++ (wK cI aT0 aT1 aT2 aT3 aT4 aT5 u_40.2) ++ (wK cI aK0 aK1 aK2 aK3 aK4 aK5 k) ++ (wP cI aP0 aP1 pp)) H := hP
              have hD : va_D A ((wD cI aD0 aD1 aD2 aD3 aD4 aT0 (((dActs u_40.1) + (1 : Int32)), dDeeds u_40.1, dStoppedAct u_40.1, dStoppedWhy u_40.1, dDeedHours u_40.1, dDeedClocks u_40.1, dDeedCourtiers u_40.1, dLongestFrom u_40.1)) ++ (wK cI aT0 aT1 aT2 aT3 aT4 aT5 u_40.2) ++ (wK cI aK0 aK1 aK2 aK3 aK4 aK5 k) ++ (wP cI aP0 aP1 pp)) := hD
              have hR := bnd_eq hR hw_78.symm
              refine lv_iadd hx hb dX2_playPad_81 ?_
              refine lv_istore_n (lv' := [(3, .int (v3_22 + r_78)), (5, .int r_40), (4, .int (nI i_22)), (0, .ref aD0), (1, .ref aK0), (2, .ref aP0)]) hx hb dX2_playPad_82 rfl hl (by decide) rfl (fun ls hl => ?_)
              refine lv_iinc (v := (nI (i_22 + 1))) (lv' := [(4, .int (nI (i_22 + 1))), (3, .int (v3_22 + r_78)), (5, .int r_40), (0, .ref aD0), (1, .ref aK0), (2, .ref aP0)]) hx hb dX2_playPad_83 hl (k := 2) rfl (nI_1 i_22) (by decide) rfl (fun ls hl => ?_)
              refine lv_goto (tgt := 22) hx hb dX2_playPad_86 (by decide) ?_
              exact ih_22 (i_22 + 1) (v3_22 + r_78) (((dActs u_40.1) + (1 : Int32)), dDeeds u_40.1, dStoppedAct u_40.1, dStoppedWhy u_40.1, dDeedHours u_40.1, dDeedClocks u_40.1, dDeedCourtiers u_40.1, dLongestFrom u_40.1) u_40.2 _ _ _ (by omega) (by omega) hP hD hS (lv_sub hl [0, 1, 3, 4, 5] rfl) hR
            · have c_47 : ¬ (r_40 = 0) := c_47
              have hR := hR.trans (if_neg c_47)
              refine lv_aload_n hx hb dX2_playPad_50 rfl (lv_at hl 3 rfl) ?_
              refine lv_iload hx hb dX2_playPad_51 (lv_at hl 1 rfl) ?_
              refine va_put (D := δ) (ci := 2) (v := .int (nI i_22)) (ty := .int) (C := RX2) (T := TX2) (N := 9) hx hb hts hinX2 tyX2 tyX2_ok nmX2 hown hK hP hD hS 0 rfl rfl 3 (by decide) (hts (.fieldLink RX2 42 "GloveHours$Day" "stoppedAct" "I") (List.mem_of_getElem? (i := 2) rfl)) (fun _ h9 => h9) rfl (by decide +kernel) rfl rfl (Nat.le_of_ble_eq_true rfl) dX2_playPad_53 (fun H locs hP hD hS => ?_)
              have hP : va_P δ vwCl ((wD cI aD0 aD1 aD2 aD3 aD4 aT0 (dActs u_40.1, dDeeds u_40.1, (nI i_22), dStoppedWhy u_40.1, dDeedHours u_40.1, dDeedClocks u_40.1, dDeedCourtiers u_40.1, dLongestFrom u_40.1)) ++ (wK cI aT0 aT1 aT2 aT3 aT4 aT5 u_40.2) ++ (wK cI aK0 aK1 aK2 aK3 aK4 aK5 k) ++ (wP cI aP0 aP1 pp)) H := hP
              have hD : va_D A ((wD cI aD0 aD1 aD2 aD3 aD4 aT0 (dActs u_40.1, dDeeds u_40.1, (nI i_22), dStoppedWhy u_40.1, dDeedHours u_40.1, dDeedClocks u_40.1, dDeedCourtiers u_40.1, dLongestFrom u_40.1)) ++ (wK cI aT0 aT1 aT2 aT3 aT4 aT5 u_40.2) ++ (wK cI aK0 aK1 aK2 aK3 aK4 aK5 k) ++ (wP cI aP0 aP1 pp)) := hD
              refine lv_aload_n hx hb dX2_playPad_56 rfl (lv_at hl 3 rfl) ?_
              refine lv_iload hx hb dX2_playPad_57 (lv_at hl 0 rfl) ?_
              refine va_put (D := δ) (ci := 2) (v := .int r_40) (ty := .int) (C := RX2) (T := TX2) (N := 9) hx hb hts hinX2 tyX2 tyX2_ok nmX2 hown hK hP hD hS 0 rfl rfl 4 (by decide) (hts (.fieldLink RX2 45 "GloveHours$Day" "stoppedWhy" "I") (List.mem_of_getElem? (i := 3) rfl)) (fun _ h9 => h9) rfl (by decide +kernel) rfl rfl (Nat.le_of_ble_eq_true rfl) dX2_playPad_59 (fun H locs hP hD hS => ?_)
              have hP : va_P δ vwCl ((wD cI aD0 aD1 aD2 aD3 aD4 aT0 (dActs u_40.1, dDeeds u_40.1, (nI i_22), r_40, dDeedHours u_40.1, dDeedClocks u_40.1, dDeedCourtiers u_40.1, dLongestFrom u_40.1)) ++ (wK cI aT0 aT1 aT2 aT3 aT4 aT5 u_40.2) ++ (wK cI aK0 aK1 aK2 aK3 aK4 aK5 k) ++ (wP cI aP0 aP1 pp)) H := hP
              have hD : va_D A ((wD cI aD0 aD1 aD2 aD3 aD4 aT0 (dActs u_40.1, dDeeds u_40.1, (nI i_22), r_40, dDeedHours u_40.1, dDeedClocks u_40.1, dDeedCourtiers u_40.1, dLongestFrom u_40.1)) ++ (wK cI aT0 aT1 aT2 aT3 aT4 aT5 u_40.2) ++ (wK cI aK0 aK1 aK2 aK3 aK4 aK5 k) ++ (wP cI aP0 aP1 pp)) := hD
              refine lv_bipush (v := (-3 : Int32)) hx hb dX2_playPad_62 (by decide) ?_
              exact hret _ _ (-3 : Int32) ((dActs u_40.1, dDeeds u_40.1, (nI i_22), r_40, dDeedHours u_40.1, dDeedClocks u_40.1, dDeedCourtiers u_40.1, dLongestFrom u_40.1), u_40.2) _ _ hR hP hD hS dX2_playPad_64
    exact hloop_22 (60 + 1) 0 (0 : Int32) u_14.1 u_14.2 _ _ _ (by omega) (by omega) hP hD hS (lv_sub hl [0, 1, 2, 3, 4] rfl) hR
  · have c_6 : ¬ (r_1 = (-6 : Int32)) := c_6
    have hR := hR.trans (if_neg c_6)
    refine lv_bipush (v := (-5 : Int32)) hx hb dX2_playPad_9 (by decide) ?_
    exact hret _ _ (-5 : Int32) (dy, kT) _ _ hR hP hD hS dX2_playPad_11

abbrev rm_X3_most : Room := { frames := 1, cells := 0, slots := 0, locals := 21 }
set_option maxHeartbeats 4000000 in
set_option maxRecDepth 100000 in
theorem c_X3_most (l : Launch) (δ : va_G) (cI cJ cZ : ClassId) (aM0 aM1 aM2 : Nat) (mm : MS) : mMi l δ (mTy cI cJ cZ) yX3_most wsX3_most rm_X3_most [.ref aM0] (wM cI aM0 aM1 aM2 mm) (S := Unit) (fun r _ => F_X3_most mm = r) (fun _ => (wM cI aM0 aM1 aM2 mm)) := by
  refine mk_i (cc := cX3_most) (maxL := 3) (by decide) rfl (Nat.le_of_ble_eq_true rfl) ?_
  intro p e s m args below meth c A Q ls H locs hx hb hml hts hown hK hNW hA hP hD hS hl hret
  have hown : s.vm.findClass RX3 = some m.cls := hown
  have hl : lv_has ls 3 [(0, .ref aM0)] := hl
  have hinX3 : ∀ w ∈ u_ws RX3 TX3 3, w ∈ wsX3_most := (fun _ h => List.mem_cons_of_mem _ (List.mem_append_right _ (h)))
  have hR := F_X3_most.eq_1 mm
  refine lv_aload_n hx hb dX3_most_0 rfl (lv_at hl 0 rfl) ?_
  refine va_get (D := δ) (ci := 3) (v := .ref aM2) (C := RX3) (T := TX3) (N := 3) hx hb hts hinX3 hown hK hP 0 rfl rfl 2 (by decide) (hts (.fieldLink RX3 15 "GloveHours$Matching" "slack" "[I") (List.mem_of_getElem? (i := 1) rfl)) (fun _ h9 => h9) rfl dX3_most_1 ?_
  refine lv_iconst (v := (0 : Int32)) hx hb dX3_most_4 (by decide) ?_
  refine va_iald hx hb hK hP 2 0 rfl rfl (by unfold vp_in; decide) dX3_most_5 ?_
  refine lv_istore_n (lv' := [(1, .int ((mSlack mm) (0 : Int32).toNatClampNeg)), (0, .ref aM0)]) hx hb dX3_most_6 rfl hl (by decide) rfl (fun ls hl => ?_)
  refine lv_iconst (v := (1 : Int32)) hx hb dX3_most_7 (by decide) ?_
  refine lv_istore_n (lv' := [(2, .int (1 : Int32)), (1, .int ((mSlack mm) (0 : Int32).toNatClampNeg)), (0, .ref aM0)]) hx hb dX3_most_8 rfl hl (by decide) rfl (fun ls hl => ?_)
  have hloop_9 : ∀ (n_9 : Nat) (i_9 : Nat) (v1_9 : Int32) (H : Heap) (locs : List Loc) (ls : Array Slot), (hi_9 : i_9 ≤ 64) → (hn_9 : 64 < i_9 + n_9) → (hP : va_P δ vwCl (wM cI aM0 aM1 aM2 mm) H) → (hD : va_D A (wM cI aM0 aM1 aM2 mm)) → (hS : va_S A s.heap H locs) → (hl : lv_has ls 3 [(2, .int (nI i_9)), (1, .int v1_9), (0, .ref aM0)]) → (kk : ∀ (w_9 : Int32) (H : Heap) (locs : List Loc) (ls : Array Slot), L_X3_most_9 mm n_9 i_9 v1_9 = w_9 → va_P δ vwCl (wM cI aM0 aM1 aM2 mm) H → va_D A (wM cI aM0 aM1 aM2 mm) → va_S A s.heap H locs → lv_has ls 3 [(1, .int w_9), (0, .ref aM0)] → W p l e rm_X3_most s m args below meth c H locs 0 0 Q (F0 m 32 ls [])) → W p l e rm_X3_most s m args below meth c H locs 0 0 Q (F0 m 9 ls []) := by
    intro n_9
    induction n_9 with
    | zero => intro i_9 v1_9 H locs ls hi_9 hn_9 hP hD hS hl kk; exact absurd hn_9 (by omega)
    | succ n_9 ih_9 =>
      intro i_9 v1_9 H locs ls hi_9 hn_9 hP hD hS hl kk
      have hR := L_X3_most_9_s mm n_9 i_9 v1_9
      refine lv_iload_n hx hb dX3_most_9 rfl (lv_at hl 0 rfl) ?_
      refine lv_bipush (v := (64 : Int32)) hx hb dX3_most_10 (by decide) ?_
      refine lv_icmp_ge (tgt := 32) hx hb dX3_most_12 (by decide) (fun c_12 => ?_) (fun c_12 => ?_)
      · have c_12 : ((64 : Int32) ≤ (nI i_9)) := c_12
        have hR := hR.trans (if_pos c_12)
        exact kk v1_9 H locs ls hR hP hD hS (lv_sub hl [1, 2] rfl)
      · have c_12 : ¬ ((64 : Int32) ≤ (nI i_9)) := c_12
        have hR := hR.trans (if_neg c_12)
        have hlt_9 : i_9 < 64 := lt_g c_12 hi_9 (by decide)
        refine lv_iload_n hx hb dX3_most_15 rfl (lv_at hl 1 rfl) ?_
        refine lv_aload_n hx hb dX3_most_16 rfl (lv_at hl 2 rfl) ?_
        refine va_get (D := δ) (ci := 3) (v := .ref aM2) (C := RX3) (T := TX3) (N := 3) hx hb hts hinX3 hown hK hP 0 rfl rfl 2 (by decide) (hts (.fieldLink RX3 15 "GloveHours$Matching" "slack" "[I") (List.mem_of_getElem? (i := 1) rfl)) (fun _ h9 => h9) rfl dX3_most_17 ?_
        refine lv_iload_n hx hb dX3_most_20 rfl (lv_at hl 0 rfl) ?_
        refine va_iald hx hb hK hP 2 0 rfl rfl (vp_in_nI (by omega) (by decide)) dX3_most_21 ?_
        refine va_mmin hx hb (hml.trans hl.1.symm) hown (hts (.methodLink RX3 41 Lib.Math.min.name) (List.mem_of_getElem? (i := 2) rfl)) (hts (.static Lib.Math.min.name) (List.mem_of_getElem? (i := 3) rfl)) (hts (.initialized "java/lang/Math") (List.mem_of_getElem? (i := 4) rfl)) (hts (.code Lib.Math.min.name Lib.Math.min.code 2 (some .int)) (List.mem_of_getElem? (i := 5) rfl)) (Nat.le_of_ble_eq_true rfl) (Nat.le_of_ble_eq_true rfl) (Nat.zero_le _) (Nat.zero_le _) dX3_most_22 ?_
        refine lv_istore_n (lv' := [(1, .int (if ((mSlack mm) (nI i_9).toNatClampNeg) < v1_9 then ((mSlack mm) (nI i_9).toNatClampNeg) else v1_9)), (2, .int (nI i_9)), (0, .ref aM0)]) hx hb dX3_most_25 rfl hl (by decide) rfl (fun ls hl => ?_)
        refine lv_iinc (v := (nI (i_9 + 1))) (lv' := [(2, .int (nI (i_9 + 1))), (1, .int (if ((mSlack mm) (nI i_9).toNatClampNeg) < v1_9 then ((mSlack mm) (nI i_9).toNatClampNeg) else v1_9)), (0, .ref aM0)]) hx hb dX3_most_26 hl (k := 1) rfl (nI_1 i_9) (by decide) rfl (fun ls hl => ?_)
        refine lv_goto (tgt := 9) hx hb dX3_most_29 (by decide) ?_
        exact ih_9 (i_9 + 1) (if ((mSlack mm) (nI i_9).toNatClampNeg) < v1_9 then ((mSlack mm) (nI i_9).toNatClampNeg) else v1_9) _ _ _ (by omega) (by omega) hP hD hS (lv_sub hl [0, 1, 2] rfl) (fun w_9 H locs ls he hP hD hS hl => kk w_9 H locs ls (hR.trans he) hP hD hS hl)
  refine hloop_9 (64 + 1) 1 ((mSlack mm) (0 : Int32).toNatClampNeg) _ _ _ (by omega) (by omega) hP hD hS (lv_sub hl [0, 1, 2] rfl) (fun w_9 H locs ls hw_9 hP hD hS hl => ?_)
  have hP : va_P δ vwCl (wM cI aM0 aM1 aM2 mm) H := hP
  have hD : va_D A (wM cI aM0 aM1 aM2 mm) := hD
  have hR := bnd_eq hR hw_9.symm
  refine lv_aload_n hx hb dX3_most_32 rfl (lv_at hl 1 rfl) ?_
  refine va_get (D := δ) (ci := 3) (v := .int (mHoursToCome mm)) (C := RX3) (T := TX3) (N := 3) hx hb hts hinX3 hown hK hP 0 rfl rfl 0 (by decide) (hts (.fieldLink RX3 18 "GloveHours$Matching" "hoursToCome" "I") (List.mem_of_getElem? (i := 6) rfl)) (fun _ h9 => h9) rfl dX3_most_33 ?_
  refine lv_iload_n hx hb dX3_most_36 rfl (lv_at hl 0 rfl) ?_
  refine lv_iadd hx hb dX3_most_37 ?_
  exact hret _ _ ((mHoursToCome mm) + w_9) () _ _ hR hP hD hS dX3_most_38

abbrev rm_X3_changeHours : Room := { frames := 0, cells := 0, slots := 0, locals := 0 }
set_option maxHeartbeats 4000000 in
set_option maxRecDepth 100000 in
theorem c_X3_changeHours (l : Launch) (δ : va_G) (cI cJ cZ : ClassId) (aM0 aM1 aM2 : Nat) (mm : MS) (xo : Int32) (xb : Int32) : mMv l δ (mTy cI cJ cZ) yX3_changeHours wsX3_changeHours rm_X3_changeHours [.ref aM0, .int xo, .int xb] (wM cI aM0 aM1 aM2 mm) (S := MS) (fun u => F_X3_changeHours mm xo xb = u) (fun u => (wM cI aM0 aM1 aM2 u)) := by
  refine mk_v (cc := cX3_changeHours) (maxL := 4) (by decide) rfl (Nat.le_of_ble_eq_true rfl) ?_
  intro p e s m args below meth c A Q ls H locs hx hb hml hts hown hK hNW hA hP hD hS hl hret
  have hown : s.vm.findClass RX3 = some m.cls := hown
  have hl : lv_has ls 4 [(0, .ref aM0), (1, .int xo), (2, .int xb)] := hl
  have hinX3 : ∀ w ∈ u_ws RX3 TX3 3, w ∈ wsX3_changeHours := (fun _ h => List.mem_cons_of_mem _ (List.mem_append_right _ (h)))
  have hR := F_X3_changeHours.eq_1 mm xo xb
  refine lv_aload_n hx hb dX3_changeHours_0 rfl (lv_at hl 0 rfl) ?_
  refine lv_dup hx hb dX3_changeHours_1 rfl ?_
  refine va_get (D := δ) (ci := 3) (v := .int (mHoursToCome mm)) (C := RX3) (T := TX3) (N := 3) hx hb hts hinX3 hown hK hP 0 rfl rfl 0 (by decide) (hts (.fieldLink RX3 18 "GloveHours$Matching" "hoursToCome" "I") (List.mem_of_getElem? (i := 1) rfl)) (fun _ h9 => h9) rfl dX3_changeHours_2 ?_
  refine lv_iload_n hx hb dX3_changeHours_5 rfl (lv_at hl 2 rfl) ?_
  refine lv_iadd hx hb dX3_changeHours_6 ?_
  refine va_put (D := δ) (ci := 3) (v := .int ((mHoursToCome mm) + xb)) (ty := .int) (C := RX3) (T := TX3) (N := 3) hx hb hts hinX3 tyX3 tyX3_ok nmX3 hown hK hP hD hS 0 rfl rfl 0 (by decide) (hts (.fieldLink RX3 18 "GloveHours$Matching" "hoursToCome" "I") (List.mem_of_getElem? (i := 1) rfl)) (fun _ h9 => h9) rfl (by decide +kernel) rfl rfl (Nat.le_of_ble_eq_true rfl) dX3_changeHours_7 (fun H locs hP hD hS => ?_)
  have hP : va_P δ vwCl (wM cI aM0 aM1 aM2 (((mHoursToCome mm) + xb), mRoom mm, mSlack mm)) H := hP
  have hD : va_D A (wM cI aM0 aM1 aM2 (((mHoursToCome mm) + xb), mRoom mm, mSlack mm)) := hD
  refine lv_iconst (v := (0 : Int32)) hx hb dX3_changeHours_10 (by decide) ?_
  refine lv_istore_n (lv' := [(3, .int (0 : Int32)), (0, .ref aM0), (1, .int xo), (2, .int xb)]) hx hb dX3_changeHours_11 rfl hl (by decide) rfl (fun ls hl => ?_)
  have hloop_12 : ∀ (n_12 : Nat) (i_12 : Nat) (mm_12 : MS) (H : Heap) (locs : List Loc) (ls : Array Slot), (hi_12 : i_12 ≤ 64) → (hn_12 : 64 < i_12 + n_12) → (hP : va_P δ vwCl (wM cI aM0 aM1 aM2 mm_12) H) → (hD : va_D A (wM cI aM0 aM1 aM2 mm_12)) → (hS : va_S A s.heap H locs) → (hl : lv_has ls 4 [(3, .int (nI i_12)), (0, .ref aM0), (1, .int xo), (2, .int xb)]) → (kk : ∀ (w_12 : MS) (H : Heap) (locs : List Loc) (ls : Array Slot), L_X3_changeHours_12 xo xb n_12 i_12 mm_12 = w_12 → va_P δ vwCl (wM cI aM0 aM1 aM2 w_12) H → va_D A (wM cI aM0 aM1 aM2 w_12) → va_S A s.heap H locs → lv_has ls 4 [(0, .ref aM0), (1, .int xo), (2, .int xb)] → W p l e rm_X3_changeHours s m args below meth c H locs 0 0 Q (F0 m 42 ls [])) → W p l e rm_X3_changeHours s m args below meth c H locs 0 0 Q (F0 m 12 ls []) := by
    intro n_12
    induction n_12 with
    | zero => intro i_12 mm_12 H locs ls hi_12 hn_12 hP hD hS hl kk; exact absurd hn_12 (by omega)
    | succ n_12 ih_12 =>
      intro i_12 mm_12 H locs ls hi_12 hn_12 hP hD hS hl kk
      have hR := L_X3_changeHours_12_s xo xb n_12 i_12 mm_12
      refine lv_iload_n hx hb dX3_changeHours_12 rfl (lv_at hl 0 rfl) ?_
      refine lv_bipush (v := (64 : Int32)) hx hb dX3_changeHours_13 (by decide) ?_
      refine lv_icmp_ge (tgt := 42) hx hb dX3_changeHours_15 (by decide) (fun c_15 => ?_) (fun c_15 => ?_)
      · have c_15 : ((64 : Int32) ≤ (nI i_12)) := c_15
        have hR := hR.trans (if_pos c_15)
        exact kk mm_12 H locs ls hR hP hD hS (lv_sub hl [1, 2, 3] rfl)
      · have c_15 : ¬ ((64 : Int32) ≤ (nI i_12)) := c_15
        have hR := hR.trans (if_neg c_15)
        have hlt_12 : i_12 < 64 := lt_g c_15 hi_12 (by decide)
        refine lv_iload_n hx hb dX3_changeHours_18 rfl (lv_at hl 2 rfl) ?_
        refine lv_iload_n hx hb dX3_changeHours_19 rfl (lv_at hl 0 rfl) ?_
        refine lv_iconst (v := (-1 : Int32)) hx hb dX3_changeHours_20 (by decide) ?_
        refine lv_ixor hx hb dX3_changeHours_21 ?_
        refine lv_iand hx hb dX3_changeHours_22 ?_
        refine lv_if_ne (tgt := 36) hx hb dX3_changeHours_23 (by decide) (fun c_23 => ?_) (fun c_23 => ?_)
        · have c_23 : ¬ ((xo &&& ((nI i_12) ^^^ (-1 : Int32))) = 0) := c_23
          have hR := hR.trans (if_neg c_23)
          refine lv_iinc (v := (nI (i_12 + 1))) (lv' := [(3, .int (nI (i_12 + 1))), (0, .ref aM0), (1, .int xo), (2, .int xb)]) hx hb dX3_changeHours_36 hl (k := 0) rfl (nI_1 i_12) (by decide) rfl (fun ls hl => ?_)
          refine lv_goto (tgt := 12) hx hb dX3_changeHours_39 (by decide) ?_
          exact ih_12 (i_12 + 1) mm_12 _ _ _ (by omega) (by omega) hP hD hS (lv_sub hl [0, 1, 2, 3] rfl) (fun w_12 H locs ls he hP hD hS hl => kk w_12 H locs ls (hR.trans he) hP hD hS hl)
        · have c_23 : ((xo &&& ((nI i_12) ^^^ (-1 : Int32))) = 0) := c_23
          have hR := hR.trans (if_pos c_23)
          refine lv_aload_n hx hb dX3_changeHours_26 rfl (lv_at hl 1 rfl) ?_
          refine va_get (D := δ) (ci := 3) (v := .ref aM2) (C := RX3) (T := TX3) (N := 3) hx hb hts hinX3 hown hK hP 0 rfl rfl 2 (by decide) (hts (.fieldLink RX3 15 "GloveHours$Matching" "slack" "[I") (List.mem_of_getElem? (i := 2) rfl)) (fun _ h9 => h9) rfl dX3_changeHours_27 ?_
          refine lv_iload_n hx hb dX3_changeHours_30 rfl (lv_at hl 0 rfl) ?_
          refine lv_dup2_11 hx hb dX3_changeHours_31 rfl rfl ?_
          refine va_iald hx hb hK hP 2 0 rfl rfl (vp_in_nI (by omega) (by decide)) dX3_changeHours_32 ?_
          refine lv_iload_n hx hb dX3_changeHours_33 rfl (lv_at hl 3 rfl) ?_
          refine lv_isub hx hb dX3_changeHours_34 ?_
          refine va_iast hx hb hK hP hD hS 2 0 rfl rfl (vp_in_nI (by omega) (by decide)) dX3_changeHours_35 (fun H locs hP hD hS => ?_)
          have hP : va_P δ vwCl (wM cI aM0 aM1 aM2 (mHoursToCome mm_12, mRoom mm_12, (upd (mSlack mm_12) (nI i_12).toNatClampNeg (((mSlack mm_12) (nI i_12).toNatClampNeg) - xb)))) H := hP
          have hD : va_D A (wM cI aM0 aM1 aM2 (mHoursToCome mm_12, mRoom mm_12, (upd (mSlack mm_12) (nI i_12).toNatClampNeg (((mSlack mm_12) (nI i_12).toNatClampNeg) - xb)))) := hD
          refine lv_iinc (v := (nI (i_12 + 1))) (lv' := [(3, .int (nI (i_12 + 1))), (0, .ref aM0), (1, .int xo), (2, .int xb)]) hx hb dX3_changeHours_36 hl (k := 0) rfl (nI_1 i_12) (by decide) rfl (fun ls hl => ?_)
          refine lv_goto (tgt := 12) hx hb dX3_changeHours_39 (by decide) ?_
          exact ih_12 (i_12 + 1) (mHoursToCome mm_12, mRoom mm_12, (upd (mSlack mm_12) (nI i_12).toNatClampNeg (((mSlack mm_12) (nI i_12).toNatClampNeg) - xb))) _ _ _ (by omega) (by omega) hP hD hS (lv_sub hl [0, 1, 2, 3] rfl) (fun w_12 H locs ls he hP hD hS hl => kk w_12 H locs ls (hR.trans he) hP hD hS hl)
  refine hloop_12 (64 + 1) 0 (((mHoursToCome mm) + xb), mRoom mm, mSlack mm) _ _ _ (by omega) (by omega) hP hD hS (lv_sub hl [0, 1, 2, 3] rfl) (fun w_12 H locs ls hw_12 hP hD hS hl => ?_)
  have hP : va_P δ vwCl (wM cI aM0 aM1 aM2 w_12) H := hP
  have hD : va_D A (wM cI aM0 aM1 aM2 w_12) := hD
  have hR := bnd_eq hR hw_12.symm
  exact hret _ _ w_12 _ _ hR hP hD hS dX3_changeHours_42

abbrev rm_X3_changeRoom : Room := { frames := 1, cells := 0, slots := 0, locals := 22 }
set_option maxHeartbeats 4000000 in
set_option maxRecDepth 100000 in
theorem c_X3_changeRoom (l : Launch) (δ : va_G) (cI cJ cZ : ClassId) (aM0 aM1 aM2 : Nat) (mm : MS) (xc : Int32) (xb : Int32) : mMv l δ (mTy cI cJ cZ) yX3_changeRoom wsX3_changeRoom rm_X3_changeRoom [.ref aM0, .int xc, .int xb] (wM cI aM0 aM1 aM2 mm) (S := MS) (fun u => F_X3_changeRoom mm xc xb = u) (fun u => (wM cI aM0 aM1 aM2 u)) := by
  refine mk_v (cc := cX3_changeRoom) (maxL := 4) (by decide) rfl (Nat.le_of_ble_eq_true rfl) ?_
  intro p e s m args below meth c A Q ls H locs hx hb hml hts hown hK hNW hA hP hD hS hl hret
  have hown : s.vm.findClass RX3 = some m.cls := hown
  have hl : lv_has ls 4 [(0, .ref aM0), (1, .int xc), (2, .int xb)] := hl
  have hinX3 : ∀ w ∈ u_ws RX3 TX3 3, w ∈ wsX3_changeRoom := (fun _ h => List.mem_cons_of_mem _ (List.mem_append_right _ (h)))
  have hR := F_X3_changeRoom.eq_1 mm xc xb
  refine lv_iload_n hx hb dX3_changeRoom_0 rfl (lv_at hl 1 rfl) ?_
  refine lv_iconst (v := (0 : Int32)) hx hb dX3_changeRoom_1 (by decide) ?_
  refine lv_iconst (v := (5 : Int32)) hx hb dX3_changeRoom_2 (by decide) ?_
  have hr := mrN (p := p) (e := e) (R := rm_X3_changeRoom) (below := below) (meth := meth) (H := H) (locs := locs) (ls := ls) (As := [.int xc, .int (0 : Int32), .int (5 : Int32)]) (rest := []) (c_X5_isWithin l δ cI cJ cZ xc (0 : Int32) (5 : Int32)) hx hb hml hts hown hK hNW hP hD [] rfl rfl (va_cnB 3 hts gX3_changeRoom_X5_isWithin_n57 rfl rfl rfl hNW.2.2.2.1 (hts (.initialized RX5) (List.mem_of_getElem? (i := 4) rfl)) (by decide +kernel) ⟨(Nat.le_of_ble_eq_true rfl), (Nat.le_of_ble_eq_true rfl)⟩) (hts (.static yX5_isWithin) (List.mem_of_getElem? (i := 3) rfl)) rfl hl.1 rfl (Nat.le_of_ble_eq_true rfl) dX3_changeRoom_3
  refine mc_i (wr := (wM cI aM0 aM1 aM2 mm)) hr hP hD hS hA [] [0, 1, 2] [0, 1, 2] rfl rfl rfl rfl rfl (wn := fun _ => (wM cI aM0 aM1 aM2 mm)) (fun _ => rfl) (fun r_3 _ H locs hw_3 hP hD hS => ?_)
  obtain ⟨hw_3, z_3⟩ := hw_3
  have hP : va_P δ vwCl (wM cI aM0 aM1 aM2 mm) H := hP
  have hD : va_D A (wM cI aM0 aM1 aM2 mm) := hD
  have hR := bnd_eq hR hw_3.symm
  refine lv_if_ne (tgt := 10) hx hb dX3_changeRoom_6 (by decide) (fun c_6 => ?_) (fun c_6 => ?_)
  · have c_6 : ¬ (r_3 = 0) := c_6
    have hR := hR.trans (if_neg c_6)
    refine lv_aload_n hx hb dX3_changeRoom_10 rfl (lv_at hl 0 rfl) ?_
    refine va_get (D := δ) (ci := 3) (v := .ref aM1) (C := RX3) (T := TX3) (N := 3) hx hb hts hinX3 hown hK hP 0 rfl rfl 1 (by decide) (hts (.fieldLink RX3 9 "GloveHours$Matching" "room" "[I") (List.mem_of_getElem? (i := 1) rfl)) (fun _ h9 => h9) rfl dX3_changeRoom_11 ?_
    refine lv_iload_n hx hb dX3_changeRoom_14 rfl (lv_at hl 1 rfl) ?_
    refine lv_dup2_11 hx hb dX3_changeRoom_15 rfl rfl ?_
    refine va_iald hx hb hK hP 1 0 rfl rfl (wi_in hw_3 c_6 (by decide)) dX3_changeRoom_16 ?_
    refine lv_iload_n hx hb dX3_changeRoom_17 rfl (lv_at hl 2 rfl) ?_
    refine lv_iadd hx hb dX3_changeRoom_18 ?_
    refine va_iast hx hb hK hP hD hS 1 0 rfl rfl (wi_in hw_3 c_6 (by decide)) dX3_changeRoom_19 (fun H locs hP hD hS => ?_)
    have hP : va_P δ vwCl (wM cI aM0 aM1 aM2 (mHoursToCome mm, (upd (mRoom mm) xc.toNatClampNeg (((mRoom mm) xc.toNatClampNeg) + xb)), mSlack mm)) H := hP
    have hD : va_D A (wM cI aM0 aM1 aM2 (mHoursToCome mm, (upd (mRoom mm) xc.toNatClampNeg (((mRoom mm) xc.toNatClampNeg) + xb)), mSlack mm)) := hD
    refine lv_iconst (v := (0 : Int32)) hx hb dX3_changeRoom_20 (by decide) ?_
    refine lv_istore_n (lv' := [(3, .int (0 : Int32)), (0, .ref aM0), (1, .int xc), (2, .int xb)]) hx hb dX3_changeRoom_21 rfl hl (by decide) rfl (fun ls hl => ?_)
    have hloop_22 : ∀ (n_22 : Nat) (i_22 : Nat) (mm_22 : MS) (H : Heap) (locs : List Loc) (ls : Array Slot), (hi_22 : i_22 ≤ 64) → (hn_22 : 64 < i_22 + n_22) → (hP : va_P δ vwCl (wM cI aM0 aM1 aM2 mm_22) H) → (hD : va_D A (wM cI aM0 aM1 aM2 mm_22)) → (hS : va_S A s.heap H locs) → (hl : lv_has ls 4 [(3, .int (nI i_22)), (0, .ref aM0), (1, .int xc), (2, .int xb)]) → (kk : ∀ (w_22 : MS) (H : Heap) (locs : List Loc) (ls : Array Slot), L_X3_changeRoom_22 xc xb n_22 i_22 mm_22 = w_22 → va_P δ vwCl (wM cI aM0 aM1 aM2 w_22) H → va_D A (wM cI aM0 aM1 aM2 w_22) → va_S A s.heap H locs → lv_has ls 4 [(0, .ref aM0), (1, .int xc), (2, .int xb)] → W p l e rm_X3_changeRoom s m args below meth c H locs 0 0 Q (F0 m 52 ls [])) → W p l e rm_X3_changeRoom s m args below meth c H locs 0 0 Q (F0 m 22 ls []) := by
      intro n_22
      induction n_22 with
      | zero => intro i_22 mm_22 H locs ls hi_22 hn_22 hP hD hS hl kk; exact absurd hn_22 (by omega)
      | succ n_22 ih_22 =>
        intro i_22 mm_22 H locs ls hi_22 hn_22 hP hD hS hl kk
        have hR := L_X3_changeRoom_22_s xc xb n_22 i_22 mm_22
        refine lv_iload_n hx hb dX3_changeRoom_22 rfl (lv_at hl 0 rfl) ?_
        refine lv_bipush (v := (64 : Int32)) hx hb dX3_changeRoom_23 (by decide) ?_
        refine lv_icmp_ge (tgt := 52) hx hb dX3_changeRoom_25 (by decide) (fun c_25 => ?_) (fun c_25 => ?_)
        · have c_25 : ((64 : Int32) ≤ (nI i_22)) := c_25
          have hR := hR.trans (if_pos c_25)
          exact kk mm_22 H locs ls hR hP hD hS (lv_sub hl [1, 2, 3] rfl)
        · have c_25 : ¬ ((64 : Int32) ≤ (nI i_22)) := c_25
          have hR := hR.trans (if_neg c_25)
          have hlt_22 : i_22 < 64 := lt_g c_25 hi_22 (by decide)
          refine lv_iload_n hx hb dX3_changeRoom_28 rfl (lv_at hl 0 rfl) ?_
          refine lv_iconst (v := (1 : Int32)) hx hb dX3_changeRoom_29 (by decide) ?_
          refine lv_iload_n hx hb dX3_changeRoom_30 rfl (lv_at hl 2 rfl) ?_
          refine lv_ishl hx hb dX3_changeRoom_31 ?_
          refine lv_iand hx hb dX3_changeRoom_32 ?_
          refine lv_if_eq (tgt := 46) hx hb dX3_changeRoom_33 (by decide) (fun c_33 => ?_) (fun c_33 => ?_)
          · have c_33 : (((nI i_22) &&& ((1 : Int32) <<< (xc &&& 31))) = 0) := c_33
            have hR := hR.trans (if_pos c_33)
            refine lv_iinc (v := (nI (i_22 + 1))) (lv' := [(3, .int (nI (i_22 + 1))), (0, .ref aM0), (1, .int xc), (2, .int xb)]) hx hb dX3_changeRoom_46 hl (k := 0) rfl (nI_1 i_22) (by decide) rfl (fun ls hl => ?_)
            refine lv_goto (tgt := 22) hx hb dX3_changeRoom_49 (by decide) ?_
            exact ih_22 (i_22 + 1) mm_22 _ _ _ (by omega) (by omega) hP hD hS (lv_sub hl [0, 1, 2, 3] rfl) (fun w_22 H locs ls he hP hD hS hl => kk w_22 H locs ls (hR.trans he) hP hD hS hl)
          · have c_33 : ¬ (((nI i_22) &&& ((1 : Int32) <<< (xc &&& 31))) = 0) := c_33
            have hR := hR.trans (if_neg c_33)
            refine lv_aload_n hx hb dX3_changeRoom_36 rfl (lv_at hl 1 rfl) ?_
            refine va_get (D := δ) (ci := 3) (v := .ref aM2) (C := RX3) (T := TX3) (N := 3) hx hb hts hinX3 hown hK hP 0 rfl rfl 2 (by decide) (hts (.fieldLink RX3 15 "GloveHours$Matching" "slack" "[I") (List.mem_of_getElem? (i := 2) rfl)) (fun _ h9 => h9) rfl dX3_changeRoom_37 ?_
            refine lv_iload_n hx hb dX3_changeRoom_40 rfl (lv_at hl 0 rfl) ?_
            refine lv_dup2_11 hx hb dX3_changeRoom_41 rfl rfl ?_
            refine va_iald hx hb hK hP 2 0 rfl rfl (vp_in_nI (by omega) (by decide)) dX3_changeRoom_42 ?_
            refine lv_iload_n hx hb dX3_changeRoom_43 rfl (lv_at hl 3 rfl) ?_
            refine lv_iadd hx hb dX3_changeRoom_44 ?_
            refine va_iast hx hb hK hP hD hS 2 0 rfl rfl (vp_in_nI (by omega) (by decide)) dX3_changeRoom_45 (fun H locs hP hD hS => ?_)
            have hP : va_P δ vwCl (wM cI aM0 aM1 aM2 (mHoursToCome mm_22, mRoom mm_22, (upd (mSlack mm_22) (nI i_22).toNatClampNeg (((mSlack mm_22) (nI i_22).toNatClampNeg) + xb)))) H := hP
            have hD : va_D A (wM cI aM0 aM1 aM2 (mHoursToCome mm_22, mRoom mm_22, (upd (mSlack mm_22) (nI i_22).toNatClampNeg (((mSlack mm_22) (nI i_22).toNatClampNeg) + xb)))) := hD
            refine lv_iinc (v := (nI (i_22 + 1))) (lv' := [(3, .int (nI (i_22 + 1))), (0, .ref aM0), (1, .int xc), (2, .int xb)]) hx hb dX3_changeRoom_46 hl (k := 0) rfl (nI_1 i_22) (by decide) rfl (fun ls hl => ?_)
            refine lv_goto (tgt := 22) hx hb dX3_changeRoom_49 (by decide) ?_
            exact ih_22 (i_22 + 1) (mHoursToCome mm_22, mRoom mm_22, (upd (mSlack mm_22) (nI i_22).toNatClampNeg (((mSlack mm_22) (nI i_22).toNatClampNeg) + xb))) _ _ _ (by omega) (by omega) hP hD hS (lv_sub hl [0, 1, 2, 3] rfl) (fun w_22 H locs ls he hP hD hS hl => kk w_22 H locs ls (hR.trans he) hP hD hS hl)
    refine hloop_22 (64 + 1) 0 (mHoursToCome mm, (upd (mRoom mm) xc.toNatClampNeg (((mRoom mm) xc.toNatClampNeg) + xb)), mSlack mm) _ _ _ (by omega) (by omega) hP hD hS (lv_sub hl [0, 1, 2, 3] rfl) (fun w_22 H locs ls hw_22 hP hD hS hl => ?_)
    have hP : va_P δ vwCl (wM cI aM0 aM1 aM2 w_22) H := hP
    have hD : va_D A (wM cI aM0 aM1 aM2 w_22) := hD
    have hR := bnd_eq hR hw_22.symm
    exact hret _ _ w_22 _ _ hR hP hD hS dX3_changeRoom_52
  · have c_6 : (r_3 = 0) := c_6
    have hR := hR.trans (if_pos c_6)
    exact hret _ _ mm _ _ hR hP hD hS dX3_changeRoom_9

abbrev rm_X3_leastWho : Room := { frames := 2, cells := 0, slots := 0, locals := 45 }
set_option maxHeartbeats 4000000 in
set_option maxRecDepth 100000 in
theorem c_X3_leastWho (l : Launch) (δ : va_G) (cI cJ cZ : ClassId) (aM0 aM1 aM2 : Nat) (mm : MS) (xo : Int32) (xm : Int32) : mMi l δ (mTy cI cJ cZ) yX3_leastWho wsX3_leastWho rm_X3_leastWho [.ref aM0, .int xo, .int xm] (wM cI aM0 aM1 aM2 mm) (S := MS) (fun r u => F_X3_leastWho mm xo xm = (r, u)) (fun u => (wM cI aM0 aM1 aM2 u)) := by
  refine mk_i (cc := cX3_leastWho) (maxL := 4) (by decide) rfl (Nat.le_of_ble_eq_true rfl) ?_
  intro p e s m args below meth c A Q ls H locs hx hb hml hts hown hK hNW hA hP hD hS hl hret
  have hown : s.vm.findClass RX3 = some m.cls := hown
  have hl : lv_has ls 4 [(0, .ref aM0), (1, .int xo), (2, .int xm)] := hl
  have hinX3 : ∀ w ∈ u_ws RX3 TX3 3, w ∈ wsX3_leastWho := (fun _ h => List.mem_cons_of_mem _ (List.mem_append_right _ (h)))
  have hR := F_X3_leastWho.eq_1 mm xo xm
  refine lv_iconst (v := (0 : Int32)) hx hb dX3_leastWho_0 (by decide) ?_
  refine lv_istore_n (lv' := [(3, .int (0 : Int32)), (0, .ref aM0), (1, .int xo), (2, .int xm)]) hx hb dX3_leastWho_1 rfl hl (by decide) rfl (fun ls hl => ?_)
  have hloop_2 : ∀ (n_2 : Nat) (i_2 : Nat) (mm_2 : MS) (H : Heap) (locs : List Loc) (ls : Array Slot), (hi_2 : i_2 ≤ 6) → (hn_2 : 6 < i_2 + n_2) → (hP : va_P δ vwCl (wM cI aM0 aM1 aM2 mm_2) H) → (hD : va_D A (wM cI aM0 aM1 aM2 mm_2)) → (hS : va_S A s.heap H locs) → (hl : lv_has ls 4 [(3, .int (nI i_2)), (0, .ref aM0), (1, .int xo), (2, .int xm)]) → (hR : F_X3_leastWho mm xo xm = L_X3_leastWho_2 xo xm n_2 i_2 mm_2) → W p l e rm_X3_leastWho s m args below meth c H locs 0 0 Q (F0 m 2 ls []) := by
    intro n_2
    induction n_2 with
    | zero => intro i_2 mm_2 H locs ls hi_2 hn_2 hP hD hS hl hR; exact absurd hn_2 (by omega)
    | succ n_2 ih_2 =>
      intro i_2 mm_2 H locs ls hi_2 hn_2 hP hD hS hl hR
      have hR := hR.trans (L_X3_leastWho_2_s xo xm n_2 i_2 mm_2)
      refine lv_iload_n hx hb dX3_leastWho_2 rfl (lv_at hl 0 rfl) ?_
      refine lv_bipush (v := (6 : Int32)) hx hb dX3_leastWho_3 (by decide) ?_
      refine lv_icmp_ge (tgt := 55) hx hb dX3_leastWho_5 (by decide) (fun c_5 => ?_) (fun c_5 => ?_)
      · have c_5 : ((6 : Int32) ≤ (nI i_2)) := c_5
        have hR := hR.trans (if_pos c_5)
        refine lv_bipush (v := (-6 : Int32)) hx hb dX3_leastWho_55 (by decide) ?_
        exact hret _ _ (-6 : Int32) mm_2 _ _ hR hP hD hS dX3_leastWho_57
      · have c_5 : ¬ ((6 : Int32) ≤ (nI i_2)) := c_5
        have hR := hR.trans (if_neg c_5)
        have hlt_2 : i_2 < 6 := lt_g c_5 hi_2 (by decide)
        refine lv_iload_n hx hb dX3_leastWho_8 rfl (lv_at hl 2 rfl) ?_
        refine lv_iconst (v := (1 : Int32)) hx hb dX3_leastWho_9 (by decide) ?_
        refine lv_iload_n hx hb dX3_leastWho_10 rfl (lv_at hl 0 rfl) ?_
        refine lv_ishl hx hb dX3_leastWho_11 ?_
        refine lv_iand hx hb dX3_leastWho_12 ?_
        refine lv_if_eq (tgt := 49) hx hb dX3_leastWho_13 (by decide) (fun c_13 => ?_) (fun c_13 => ?_)
        · have c_13 : ((xo &&& ((1 : Int32) <<< ((nI i_2) &&& 31))) = 0) := c_13
          have hR := hR.trans (if_pos c_13)
          refine lv_iinc (v := (nI (i_2 + 1))) (lv' := [(3, .int (nI (i_2 + 1))), (0, .ref aM0), (1, .int xo), (2, .int xm)]) hx hb dX3_leastWho_49 hl (k := 0) rfl (nI_1 i_2) (by decide) rfl (fun ls hl => ?_)
          refine lv_goto (tgt := 2) hx hb dX3_leastWho_52 (by decide) ?_
          exact ih_2 (i_2 + 1) mm_2 _ _ _ (by omega) (by omega) hP hD hS (lv_sub hl [0, 1, 2, 3] rfl) hR
        · have c_13 : ¬ ((xo &&& ((1 : Int32) <<< ((nI i_2) &&& 31))) = 0) := c_13
          have hR := hR.trans (if_neg c_13)
          refine lv_aload_n hx hb dX3_leastWho_16 rfl (lv_at hl 1 rfl) ?_
          refine va_get (D := δ) (ci := 3) (v := .ref aM1) (C := RX3) (T := TX3) (N := 3) hx hb hts hinX3 hown hK hP 0 rfl rfl 1 (by decide) (hts (.fieldLink RX3 9 "GloveHours$Matching" "room" "[I") (List.mem_of_getElem? (i := 1) rfl)) (fun _ h9 => h9) rfl dX3_leastWho_17 ?_
          refine lv_iload_n hx hb dX3_leastWho_20 rfl (lv_at hl 0 rfl) ?_
          refine va_iald hx hb hK hP 1 0 rfl rfl (vp_in_nI (by omega) (by decide)) dX3_leastWho_21 ?_
          refine lv_if_le (tgt := 49) hx hb dX3_leastWho_22 (by decide) (fun c_22 => ?_) (fun c_22 => ?_)
          · have c_22 : (((mRoom mm_2) (nI i_2).toNatClampNeg) ≤ 0) := c_22
            have hR := hR.trans (if_pos c_22)
            refine lv_iinc (v := (nI (i_2 + 1))) (lv' := [(3, .int (nI (i_2 + 1))), (0, .ref aM0), (1, .int xo), (2, .int xm)]) hx hb dX3_leastWho_49 hl (k := 0) rfl (nI_1 i_2) (by decide) rfl (fun ls hl => ?_)
            refine lv_goto (tgt := 2) hx hb dX3_leastWho_52 (by decide) ?_
            exact ih_2 (i_2 + 1) mm_2 _ _ _ (by omega) (by omega) hP hD hS (lv_sub hl [0, 1, 2, 3] rfl) hR
          · have c_22 : ¬ (((mRoom mm_2) (nI i_2).toNatClampNeg) ≤ 0) := c_22
            have hR := hR.trans (if_neg c_22)
            refine lv_aload_n hx hb dX3_leastWho_25 rfl (lv_at hl 1 rfl) ?_
            refine lv_iload_n hx hb dX3_leastWho_26 rfl (lv_at hl 0 rfl) ?_
            refine lv_iconst (v := (-1 : Int32)) hx hb dX3_leastWho_27 (by decide) ?_
            have hr := mrV (p := p) (e := e) (R := rm_X3_leastWho) (below := below) (meth := meth) (H := H) (locs := locs) (ls := ls) (As := [.int (nI i_2), .int (-1 : Int32)]) (rest := []) (c_X3_changeRoom l δ cI cJ cZ aM0 aM1 aM2 mm_2 (nI i_2) (-1 : Int32)) hx hb hml hts hown hK hNW hP hD [0, 1, 2] rfl rfl 3 0 rfl rfl (cwV 2 hts gX3_leastWho_X3_changeRoom rfl rfl rfl (by decide +kernel) ⟨(Nat.le_of_ble_eq_true rfl), (Nat.le_of_ble_eq_true rfl)⟩) rfl hl.1 rfl (Nat.le_of_ble_eq_true rfl) dX3_leastWho_28
            refine mc_v (wr := ([] : va_W)) hr hP hD hS hA [0, 1, 2] [] [0, 1, 2] rfl rfl rfl rfl rfl (wn := fun u_28 => (wM cI aM0 aM1 aM2 u_28)) (fun _ => rfl) (fun u_28 H locs hw_28 hP hD hS => ?_)
            have hP : va_P δ vwCl (wM cI aM0 aM1 aM2 u_28) H := hP
            have hD : va_D A (wM cI aM0 aM1 aM2 u_28) := hD
            have hR := bnd_eq hR hw_28.symm
            refine lv_aload_n hx hb dX3_leastWho_31 rfl (lv_at hl 1 rfl) ?_
            have hr := mrV (p := p) (e := e) (R := rm_X3_leastWho) (below := below) (meth := meth) (H := H) (locs := locs) (ls := ls) (As := []) (rest := []) (c_X3_most l δ cI cJ cZ aM0 aM1 aM2 u_28) hx hb hml hts hown hK hNW hP hD [0, 1, 2] rfl rfl 3 0 rfl rfl (cwV 0 hts gX3_leastWho_X3_most rfl rfl rfl (by decide +kernel) ⟨(Nat.le_of_ble_eq_true rfl), (Nat.le_of_ble_eq_true rfl)⟩) rfl hl.1 rfl (Nat.le_of_ble_eq_true rfl) dX3_leastWho_32
            refine mc_i (wr := ([] : va_W)) hr hP hD hS hA [0, 1, 2] [] [0, 1, 2] rfl rfl rfl rfl rfl (wn := fun _ => (wM cI aM0 aM1 aM2 u_28)) (fun _ => rfl) (fun r_32 _ H locs hw_32 hP hD hS => ?_)
            have hP : va_P δ vwCl (wM cI aM0 aM1 aM2 u_28) H := hP
            have hD : va_D A (wM cI aM0 aM1 aM2 u_28) := hD
            have hR := bnd_eq hR hw_32.symm
            refine lv_iconst (v := (1 : Int32)) hx hb dX3_leastWho_35 (by decide) ?_
            refine lv_iadd hx hb dX3_leastWho_36 ?_
            refine lv_iload_n hx hb dX3_leastWho_37 rfl (lv_at hl 3 rfl) ?_
            refine lv_icmp_ne (tgt := 43) hx hb dX3_leastWho_38 (by decide) (fun c_38 => ?_) (fun c_38 => ?_)
            · have c_38 : ¬ ((r_32 + (1 : Int32)) = xm) := c_38
              have hR := hR.trans (if_neg c_38)
              refine lv_aload_n hx hb dX3_leastWho_43 rfl (lv_at hl 1 rfl) ?_
              refine lv_iload_n hx hb dX3_leastWho_44 rfl (lv_at hl 0 rfl) ?_
              refine lv_iconst (v := (1 : Int32)) hx hb dX3_leastWho_45 (by decide) ?_
              have hr := mrV (p := p) (e := e) (R := rm_X3_leastWho) (below := below) (meth := meth) (H := H) (locs := locs) (ls := ls) (As := [.int (nI i_2), .int (1 : Int32)]) (rest := []) (c_X3_changeRoom l δ cI cJ cZ aM0 aM1 aM2 u_28 (nI i_2) (1 : Int32)) hx hb hml hts hown hK hNW hP hD [0, 1, 2] rfl rfl 3 0 rfl rfl (cwV 2 hts gX3_leastWho_X3_changeRoom rfl rfl rfl (by decide +kernel) ⟨(Nat.le_of_ble_eq_true rfl), (Nat.le_of_ble_eq_true rfl)⟩) rfl hl.1 rfl (Nat.le_of_ble_eq_true rfl) dX3_leastWho_46
              refine mc_v (wr := ([] : va_W)) hr hP hD hS hA [0, 1, 2] [] [0, 1, 2] rfl rfl rfl rfl rfl (wn := fun u_46 => (wM cI aM0 aM1 aM2 u_46)) (fun _ => rfl) (fun u_46 H locs hw_46 hP hD hS => ?_)
              have hP : va_P δ vwCl (wM cI aM0 aM1 aM2 u_46) H := hP
              have hD : va_D A (wM cI aM0 aM1 aM2 u_46) := hD
              have hR := bnd_eq hR hw_46.symm
              refine lv_iinc (v := (nI (i_2 + 1))) (lv' := [(3, .int (nI (i_2 + 1))), (0, .ref aM0), (1, .int xo), (2, .int xm)]) hx hb dX3_leastWho_49 hl (k := 0) rfl (nI_1 i_2) (by decide) rfl (fun ls hl => ?_)
              refine lv_goto (tgt := 2) hx hb dX3_leastWho_52 (by decide) ?_
              exact ih_2 (i_2 + 1) u_46 _ _ _ (by omega) (by omega) hP hD hS (lv_sub hl [0, 1, 2, 3] rfl) hR
            · have c_38 : ((r_32 + (1 : Int32)) = xm) := c_38
              have hR := hR.trans (if_pos c_38)
              refine lv_iload_n hx hb dX3_leastWho_41 rfl (lv_at hl 0 rfl) ?_
              exact hret _ _ (nI i_2) u_28 _ _ hR hP hD hS dX3_leastWho_42
  exact hloop_2 (6 + 1) 0 mm _ _ _ (by omega) (by omega) hP hD hS (lv_sub hl [0, 1, 2, 3] rfl) hR

abbrev rm_X3_begin : Room := { frames := 2, cells := 0, slots := 0, locals := 45 }
set_option maxHeartbeats 4000000 in
set_option maxRecDepth 100000 in
theorem c_X3_begin (l : Launch) (δ : va_G) (cI cJ cZ : ClassId) (aM0 aM1 aM2 aK0 aK1 aK2 aK3 aK4 aK5 : Nat) (mm : MS) (k : KS) (xh : Int32) (xd : Int32) : mMv l δ (mTy cI cJ cZ) yX3_begin wsX3_begin rm_X3_begin [.ref aM0, .ref aK0, .int xh, .int xd] ((wM cI aM0 aM1 aM2 mm) ++ (wK cI aK0 aK1 aK2 aK3 aK4 aK5 k)) (S := MS) (fun u => F_X3_begin mm k xh xd = u) (fun u => ((wM cI aM0 aM1 aM2 u) ++ (wK cI aK0 aK1 aK2 aK3 aK4 aK5 k))) := by
  refine mk_v (cc := cX3_begin) (maxL := 5) (by decide) rfl (Nat.le_of_ble_eq_true rfl) ?_
  intro p e s m args below meth c A Q ls H locs hx hb hml hts hown hK hNW hA hP hD hS hl hret
  have hown : s.vm.findClass RX3 = some m.cls := hown
  have hl : lv_has ls 5 [(0, .ref aM0), (1, .ref aK0), (2, .int xh), (3, .int xd)] := hl
  have hinX3 : ∀ w ∈ u_ws RX3 TX3 3, w ∈ wsX3_begin := (fun _ h => List.mem_cons_of_mem _ (List.mem_append_left _ (List.mem_append_right _ (h))))
  have hR := F_X3_begin.eq_1 mm k xh xd
  refine lv_aload_n hx hb dX3_begin_0 rfl (lv_at hl 0 rfl) ?_
  refine lv_iconst (v := (0 : Int32)) hx hb dX3_begin_1 (by decide) ?_
  refine va_put (D := δ) (ci := 3) (v := .int (0 : Int32)) (ty := .int) (C := RX3) (T := TX3) (N := 3) hx hb hts hinX3 tyX3 tyX3_ok nmX3 hown hK hP hD hS 0 rfl rfl 0 (by decide) (hts (.fieldLink RX3 18 "GloveHours$Matching" "hoursToCome" "I") (List.mem_of_getElem? (i := 1) rfl)) (fun _ h9 => h9) rfl (by decide +kernel) rfl rfl (Nat.le_of_ble_eq_true rfl) dX3_begin_2 (fun H locs hP hD hS => ?_)
  have hP : va_P δ vwCl ((wM cI aM0 aM1 aM2 ((0 : Int32), mRoom mm, mSlack mm)) ++ (wK cI aK0 aK1 aK2 aK3 aK4 aK5 k)) H := hP
  have hD : va_D A ((wM cI aM0 aM1 aM2 ((0 : Int32), mRoom mm, mSlack mm)) ++ (wK cI aK0 aK1 aK2 aK3 aK4 aK5 k)) := hD
  refine lv_iconst (v := (0 : Int32)) hx hb dX3_begin_5 (by decide) ?_
  refine lv_istore (lv' := [(4, .int (0 : Int32)), (0, .ref aM0), (1, .ref aK0), (2, .int xh), (3, .int xd)]) hx hb dX3_begin_6 hl (by decide) rfl (fun ls hl => ?_)
  have hloop_8 : ∀ (n_8 : Nat) (i_8 : Nat) (mm_8 : MS) (H : Heap) (locs : List Loc) (ls : Array Slot), (hi_8 : i_8 ≤ 6) → (hn_8 : 6 < i_8 + n_8) → (hP : va_P δ vwCl ((wM cI aM0 aM1 aM2 mm_8) ++ (wK cI aK0 aK1 aK2 aK3 aK4 aK5 k)) H) → (hD : va_D A ((wM cI aM0 aM1 aM2 mm_8) ++ (wK cI aK0 aK1 aK2 aK3 aK4 aK5 k))) → (hS : va_S A s.heap H locs) → (hl : lv_has ls 5 [(4, .int (nI i_8)), (0, .ref aM0), (1, .ref aK0), (2, .int xh), (3, .int xd)]) → (kk : ∀ (w_8 : MS) (H : Heap) (locs : List Loc) (ls : Array Slot), L_X3_begin_8 xd n_8 i_8 mm_8 = w_8 → va_P δ vwCl ((wM cI aM0 aM1 aM2 w_8) ++ (wK cI aK0 aK1 aK2 aK3 aK4 aK5 k)) H → va_D A ((wM cI aM0 aM1 aM2 w_8) ++ (wK cI aK0 aK1 aK2 aK3 aK4 aK5 k)) → va_S A s.heap H locs → lv_has ls 5 [(0, .ref aM0), (1, .ref aK0), (2, .int xh), (3, .int xd)] → W p l e rm_X3_begin s m args below meth c H locs 0 0 Q (F0 m 29 ls [])) → W p l e rm_X3_begin s m args below meth c H locs 0 0 Q (F0 m 8 ls []) := by
    intro n_8
    induction n_8 with
    | zero => intro i_8 mm_8 H locs ls hi_8 hn_8 hP hD hS hl kk; exact absurd hn_8 (by omega)
    | succ n_8 ih_8 =>
      intro i_8 mm_8 H locs ls hi_8 hn_8 hP hD hS hl kk
      have hR := L_X3_begin_8_s xd n_8 i_8 mm_8
      refine lv_iload hx hb dX3_begin_8 (lv_at hl 0 rfl) ?_
      refine lv_bipush (v := (6 : Int32)) hx hb dX3_begin_10 (by decide) ?_
      refine lv_icmp_ge (tgt := 29) hx hb dX3_begin_12 (by decide) (fun c_12 => ?_) (fun c_12 => ?_)
      · have c_12 : ((6 : Int32) ≤ (nI i_8)) := c_12
        have hR := hR.trans (if_pos c_12)
        exact kk mm_8 H locs ls hR hP hD hS (lv_sub hl [1, 2, 3, 4] rfl)
      · have c_12 : ¬ ((6 : Int32) ≤ (nI i_8)) := c_12
        have hR := hR.trans (if_neg c_12)
        have hlt_8 : i_8 < 6 := lt_g c_12 hi_8 (by decide)
        refine lv_aload_n hx hb dX3_begin_15 rfl (lv_at hl 1 rfl) ?_
        refine va_get (D := δ) (ci := 3) (v := .ref aM1) (C := RX3) (T := TX3) (N := 3) hx hb hts hinX3 hown hK hP 0 rfl rfl 1 (by decide) (hts (.fieldLink RX3 9 "GloveHours$Matching" "room" "[I") (List.mem_of_getElem? (i := 2) rfl)) (fun _ h9 => h9) rfl dX3_begin_16 ?_
        refine lv_iload hx hb dX3_begin_19 (lv_at hl 0 rfl) ?_
        refine lv_iload_n hx hb dX3_begin_21 rfl (lv_at hl 4 rfl) ?_
        refine va_iast hx hb hK hP hD hS 1 0 rfl rfl (vp_in_nI (by omega) (by decide)) dX3_begin_22 (fun H locs hP hD hS => ?_)
        have hP : va_P δ vwCl ((wM cI aM0 aM1 aM2 (mHoursToCome mm_8, (upd (mRoom mm_8) (nI i_8).toNatClampNeg xd), mSlack mm_8)) ++ (wK cI aK0 aK1 aK2 aK3 aK4 aK5 k)) H := hP
        have hD : va_D A ((wM cI aM0 aM1 aM2 (mHoursToCome mm_8, (upd (mRoom mm_8) (nI i_8).toNatClampNeg xd), mSlack mm_8)) ++ (wK cI aK0 aK1 aK2 aK3 aK4 aK5 k)) := hD
        refine lv_iinc (v := (nI (i_8 + 1))) (lv' := [(4, .int (nI (i_8 + 1))), (0, .ref aM0), (1, .ref aK0), (2, .int xh), (3, .int xd)]) hx hb dX3_begin_23 hl (k := 0) rfl (nI_1 i_8) (by decide) rfl (fun ls hl => ?_)
        refine lv_goto (tgt := 8) hx hb dX3_begin_26 (by decide) ?_
        exact ih_8 (i_8 + 1) (mHoursToCome mm_8, (upd (mRoom mm_8) (nI i_8).toNatClampNeg xd), mSlack mm_8) _ _ _ (by omega) (by omega) hP hD hS (lv_sub hl [0, 1, 2, 3, 4] rfl) (fun w_8 H locs ls he hP hD hS hl => kk w_8 H locs ls (hR.trans he) hP hD hS hl)
  refine hloop_8 (6 + 1) 0 ((0 : Int32), mRoom mm, mSlack mm) _ _ _ (by omega) (by omega) hP hD hS (lv_sub hl [0, 1, 2, 3, 4] rfl) (fun w_8 H locs ls hw_8 hP hD hS hl => ?_)
  have hP : va_P δ vwCl ((wM cI aM0 aM1 aM2 w_8) ++ (wK cI aK0 aK1 aK2 aK3 aK4 aK5 k)) H := hP
  have hD : va_D A ((wM cI aM0 aM1 aM2 w_8) ++ (wK cI aK0 aK1 aK2 aK3 aK4 aK5 k)) := hD
  have hR := bnd_eq hR hw_8.symm
  refine lv_iconst (v := (0 : Int32)) hx hb dX3_begin_29 (by decide) ?_
  refine lv_istore (lv' := [(4, .int (0 : Int32)), (0, .ref aM0), (1, .ref aK0), (2, .int xh), (3, .int xd)]) hx hb dX3_begin_30 hl (by decide) rfl (fun ls hl => ?_)
  have hloop_32 : ∀ (n_32 : Nat) (i_32 : Nat) (mm_32 : MS) (H : Heap) (locs : List Loc) (ls : Array Slot), (hi_32 : i_32 ≤ 64) → (hn_32 : 64 < i_32 + n_32) → (hP : va_P δ vwCl ((wM cI aM0 aM1 aM2 mm_32) ++ (wK cI aK0 aK1 aK2 aK3 aK4 aK5 k)) H) → (hD : va_D A ((wM cI aM0 aM1 aM2 mm_32) ++ (wK cI aK0 aK1 aK2 aK3 aK4 aK5 k))) → (hS : va_S A s.heap H locs) → (hl : lv_has ls 5 [(4, .int (nI i_32)), (0, .ref aM0), (1, .ref aK0), (2, .int xh), (3, .int xd)]) → (kk : ∀ (w_32 : MS) (H : Heap) (locs : List Loc) (ls : Array Slot), L_X3_begin_32 xd n_32 i_32 mm_32 = w_32 → va_P δ vwCl ((wM cI aM0 aM1 aM2 w_32) ++ (wK cI aK0 aK1 aK2 aK3 aK4 aK5 k)) H → va_D A ((wM cI aM0 aM1 aM2 w_32) ++ (wK cI aK0 aK1 aK2 aK3 aK4 aK5 k)) → va_S A s.heap H locs → lv_has ls 5 [(0, .ref aM0), (1, .ref aK0), (2, .int xh), (3, .int xd)] → W p l e rm_X3_begin s m args below meth c H locs 0 0 Q (F0 m 59 ls [])) → W p l e rm_X3_begin s m args below meth c H locs 0 0 Q (F0 m 32 ls []) := by
    intro n_32
    induction n_32 with
    | zero => intro i_32 mm_32 H locs ls hi_32 hn_32 hP hD hS hl kk; exact absurd hn_32 (by omega)
    | succ n_32 ih_32 =>
      intro i_32 mm_32 H locs ls hi_32 hn_32 hP hD hS hl kk
      have hR := L_X3_begin_32_s xd n_32 i_32 mm_32
      refine lv_iload hx hb dX3_begin_32 (lv_at hl 0 rfl) ?_
      refine lv_bipush (v := (64 : Int32)) hx hb dX3_begin_34 (by decide) ?_
      refine lv_icmp_ge (tgt := 59) hx hb dX3_begin_36 (by decide) (fun c_36 => ?_) (fun c_36 => ?_)
      · have c_36 : ((64 : Int32) ≤ (nI i_32)) := c_36
        have hR := hR.trans (if_pos c_36)
        exact kk mm_32 H locs ls hR hP hD hS (lv_sub hl [1, 2, 3, 4] rfl)
      · have c_36 : ¬ ((64 : Int32) ≤ (nI i_32)) := c_36
        have hR := hR.trans (if_neg c_36)
        have hlt_32 : i_32 < 64 := lt_g c_36 hi_32 (by decide)
        refine lv_aload_n hx hb dX3_begin_39 rfl (lv_at hl 1 rfl) ?_
        refine va_get (D := δ) (ci := 3) (v := .ref aM2) (C := RX3) (T := TX3) (N := 3) hx hb hts hinX3 hown hK hP 0 rfl rfl 2 (by decide) (hts (.fieldLink RX3 15 "GloveHours$Matching" "slack" "[I") (List.mem_of_getElem? (i := 3) rfl)) (fun _ h9 => h9) rfl dX3_begin_40 ?_
        refine lv_iload hx hb dX3_begin_43 (lv_at hl 0 rfl) ?_
        refine lv_iload_n hx hb dX3_begin_45 rfl (lv_at hl 4 rfl) ?_
        refine lv_iload hx hb dX3_begin_46 (lv_at hl 0 rfl) ?_
        have hr := mrS (p := p) (e := e) (R := rm_X3_begin) (below := below) (meth := meth) (H := H) (locs := locs) (ls := ls) (As := [.int (nI i_32)]) (rest := [.int xd, .int (nI i_32), .ref aM2]) (c_J6_bitCount_0f7a4 l δ cI cJ cZ (nI i_32)) hx hb hml hts hown hK hNW hP hD [] rfl rfl (va_cwS 1 hts gX3_begin_J6_bitCount_0f7a4 rfl rfl rfl (by decide +kernel) ⟨(Nat.le_of_ble_eq_true rfl), (Nat.le_of_ble_eq_true rfl)⟩) rfl hl.1 rfl (Nat.le_of_ble_eq_true rfl) dX3_begin_48
        refine mc_i (wr := ((wM cI aM0 aM1 aM2 mm_32) ++ (wK cI aK0 aK1 aK2 aK3 aK4 aK5 k))) hr hP hD hS hA [] [0, 1, 2, 3, 4, 5, 6, 7, 8] [0, 1, 2, 3, 4, 5, 6, 7, 8] rfl rfl rfl rfl rfl (wn := fun _ => ((wM cI aM0 aM1 aM2 mm_32) ++ (wK cI aK0 aK1 aK2 aK3 aK4 aK5 k))) (fun _ => rfl) (fun r_48 _ H locs hw_48 hP hD hS => ?_)
        have hP : va_P δ vwCl ((wM cI aM0 aM1 aM2 mm_32) ++ (wK cI aK0 aK1 aK2 aK3 aK4 aK5 k)) H := hP
        have hD : va_D A ((wM cI aM0 aM1 aM2 mm_32) ++ (wK cI aK0 aK1 aK2 aK3 aK4 aK5 k)) := hD
        have hR := bnd_eq hR hw_48.symm
        refine lv_imul hx hb dX3_begin_51 ?_
        refine va_iast hx hb hK hP hD hS 2 0 rfl rfl (vp_in_nI (by omega) (by decide)) dX3_begin_52 (fun H locs hP hD hS => ?_)
        have hP : va_P δ vwCl ((wM cI aM0 aM1 aM2 (mHoursToCome mm_32, mRoom mm_32, (upd (mSlack mm_32) (nI i_32).toNatClampNeg (xd * r_48)))) ++ (wK cI aK0 aK1 aK2 aK3 aK4 aK5 k)) H := hP
        have hD : va_D A ((wM cI aM0 aM1 aM2 (mHoursToCome mm_32, mRoom mm_32, (upd (mSlack mm_32) (nI i_32).toNatClampNeg (xd * r_48)))) ++ (wK cI aK0 aK1 aK2 aK3 aK4 aK5 k)) := hD
        refine lv_iinc (v := (nI (i_32 + 1))) (lv' := [(4, .int (nI (i_32 + 1))), (0, .ref aM0), (1, .ref aK0), (2, .int xh), (3, .int xd)]) hx hb dX3_begin_53 hl (k := 0) rfl (nI_1 i_32) (by decide) rfl (fun ls hl => ?_)
        refine lv_goto (tgt := 32) hx hb dX3_begin_56 (by decide) ?_
        exact ih_32 (i_32 + 1) (mHoursToCome mm_32, mRoom mm_32, (upd (mSlack mm_32) (nI i_32).toNatClampNeg (xd * r_48))) _ _ _ (by omega) (by omega) hP hD hS (lv_sub hl [0, 1, 2, 3, 4] rfl) (fun w_32 H locs ls he hP hD hS hl => kk w_32 H locs ls (hR.trans he) hP hD hS hl)
  refine hloop_32 (64 + 1) 0 w_8 _ _ _ (by omega) (by omega) hP hD hS (lv_sub hl [0, 1, 2, 3, 4] rfl) (fun w_32 H locs ls hw_32 hP hD hS hl => ?_)
  have hP : va_P δ vwCl ((wM cI aM0 aM1 aM2 w_32) ++ (wK cI aK0 aK1 aK2 aK3 aK4 aK5 k)) H := hP
  have hD : va_D A ((wM cI aM0 aM1 aM2 w_32) ++ (wK cI aK0 aK1 aK2 aK3 aK4 aK5 k)) := hD
  have hR := bnd_eq hR hw_32.symm
  refine lv_iconst (v := (0 : Int32)) hx hb dX3_begin_59 (by decide) ?_
  refine lv_istore (lv' := [(4, .int (0 : Int32)), (0, .ref aM0), (1, .ref aK0), (2, .int xh), (3, .int xd)]) hx hb dX3_begin_60 hl (by decide) rfl (fun ls hl => ?_)
  have hloop_62 : ∀ (n_62 : Nat) (i_62 : Nat) (mm_62 : MS) (H : Heap) (locs : List Loc) (ls : Array Slot), (hi_62 : i_62 ≤ 24) → (hn_62 : 24 < i_62 + n_62) → (hP : va_P δ vwCl ((wM cI aM0 aM1 aM2 mm_62) ++ (wK cI aK0 aK1 aK2 aK3 aK4 aK5 k)) H) → (hD : va_D A ((wM cI aM0 aM1 aM2 mm_62) ++ (wK cI aK0 aK1 aK2 aK3 aK4 aK5 k))) → (hS : va_S A s.heap H locs) → (hl : lv_has ls 5 [(4, .int (nI i_62)), (0, .ref aM0), (1, .ref aK0), (2, .int xh), (3, .int xd)]) → (kk : ∀ (w_62 : MS) (H : Heap) (locs : List Loc) (ls : Array Slot), L_X3_begin_62 k xh n_62 i_62 mm_62 = w_62 → va_P δ vwCl ((wM cI aM0 aM1 aM2 w_62) ++ (wK cI aK0 aK1 aK2 aK3 aK4 aK5 k)) H → va_D A ((wM cI aM0 aM1 aM2 w_62) ++ (wK cI aK0 aK1 aK2 aK3 aK4 aK5 k)) → va_S A s.heap H locs → lv_has ls 5 [(0, .ref aM0), (1, .ref aK0), (2, .int xh), (3, .int xd)] → W p l e rm_X3_begin s m args below meth c H locs 0 0 Q (F0 m 95 ls [])) → W p l e rm_X3_begin s m args below meth c H locs 0 0 Q (F0 m 62 ls []) := by
    intro n_62
    induction n_62 with
    | zero => intro i_62 mm_62 H locs ls hi_62 hn_62 hP hD hS hl kk; exact absurd hn_62 (by omega)
    | succ n_62 ih_62 =>
      intro i_62 mm_62 H locs ls hi_62 hn_62 hP hD hS hl kk
      have hR := L_X3_begin_62_s k xh n_62 i_62 mm_62
      refine lv_iload hx hb dX3_begin_62 (lv_at hl 0 rfl) ?_
      refine lv_bipush (v := (24 : Int32)) hx hb dX3_begin_64 (by decide) ?_
      refine lv_icmp_ge (tgt := 95) hx hb dX3_begin_66 (by decide) (fun c_66 => ?_) (fun c_66 => ?_)
      · have c_66 : ((24 : Int32) ≤ (nI i_62)) := c_66
        have hR := hR.trans (if_pos c_66)
        exact kk mm_62 H locs ls hR hP hD hS (lv_sub hl [1, 2, 3, 4] rfl)
      · have c_66 : ¬ ((24 : Int32) ≤ (nI i_62)) := c_66
        have hR := hR.trans (if_neg c_66)
        have hlt_62 : i_62 < 24 := lt_g c_66 hi_62 (by decide)
        refine lv_iload_n hx hb dX3_begin_69 rfl (lv_at hl 3 rfl) ?_
        refine lv_iload hx hb dX3_begin_70 (lv_at hl 0 rfl) ?_
        have hr := mrN (p := p) (e := e) (R := rm_X3_begin) (below := below) (meth := meth) (H := H) (locs := locs) (ls := ls) (As := [.int xh, .int (nI i_62)]) (rest := []) (c_X5_hasHour l δ cI cJ cZ xh (nI i_62)) hx hb hml hts hown hK hNW hP hD [] rfl rfl (va_cnB 2 hts gX3_begin_X5_hasHour_n28 rfl rfl rfl hNW.2.2.1 (hts (.initialized RX5) (List.mem_of_getElem? (i := 12) rfl)) (by decide +kernel) ⟨(Nat.le_of_ble_eq_true rfl), (Nat.le_of_ble_eq_true rfl)⟩) (hts (.static yX5_hasHour) (List.mem_of_getElem? (i := 11) rfl)) rfl hl.1 rfl (Nat.le_of_ble_eq_true rfl) dX3_begin_72
        refine mc_i (wr := ((wM cI aM0 aM1 aM2 mm_62) ++ (wK cI aK0 aK1 aK2 aK3 aK4 aK5 k))) hr hP hD hS hA [] [0, 1, 2, 3, 4, 5, 6, 7, 8] [0, 1, 2, 3, 4, 5, 6, 7, 8] rfl rfl rfl rfl rfl (wn := fun _ => ((wM cI aM0 aM1 aM2 mm_62) ++ (wK cI aK0 aK1 aK2 aK3 aK4 aK5 k))) (fun _ => rfl) (fun r_72 _ H locs hw_72 hP hD hS => ?_)
        obtain ⟨hw_72, z_72⟩ := hw_72
        have hP : va_P δ vwCl ((wM cI aM0 aM1 aM2 mm_62) ++ (wK cI aK0 aK1 aK2 aK3 aK4 aK5 k)) H := hP
        have hD : va_D A ((wM cI aM0 aM1 aM2 mm_62) ++ (wK cI aK0 aK1 aK2 aK3 aK4 aK5 k)) := hD
        have hR := bnd_eq hR hw_72.symm
        refine lv_if_eq (tgt := 89) hx hb dX3_begin_75 (by decide) (fun c_75 => ?_) (fun c_75 => ?_)
        · have c_75 : (r_72 = 0) := c_75
          have hR := hR.trans (if_pos c_75)
          refine lv_iinc (v := (nI (i_62 + 1))) (lv' := [(4, .int (nI (i_62 + 1))), (0, .ref aM0), (1, .ref aK0), (2, .int xh), (3, .int xd)]) hx hb dX3_begin_89 hl (k := 0) rfl (nI_1 i_62) (by decide) rfl (fun ls hl => ?_)
          refine lv_goto (tgt := 62) hx hb dX3_begin_92 (by decide) ?_
          exact ih_62 (i_62 + 1) mm_62 _ _ _ (by omega) (by omega) hP hD hS (lv_sub hl [0, 1, 2, 3, 4] rfl) (fun w_62 H locs ls he hP hD hS hl => kk w_62 H locs ls (hR.trans he) hP hD hS hl)
        · have c_75 : ¬ (r_72 = 0) := c_75
          have hR := hR.trans (if_neg c_75)
          refine lv_aload_n hx hb dX3_begin_78 rfl (lv_at hl 1 rfl) ?_
          refine lv_aload_n hx hb dX3_begin_79 rfl (lv_at hl 2 rfl) ?_
          refine lv_iload hx hb dX3_begin_80 (lv_at hl 0 rfl) ?_
          have hr := mrV (p := p) (e := e) (R := rm_X3_begin) (below := below) (meth := meth) (H := H) (locs := locs) (ls := ls) (As := [.int (nI i_62)]) (rest := [.ref aM0]) (c_X1_ownersOf l δ cI cJ cZ aK0 aK1 aK2 aK3 aK4 aK5 k (nI i_62)) hx hb hml hts hown hK hNW hP hD [3, 4, 5, 6, 7, 8] rfl rfl 1 0 rfl rfl (cwV 1 hts gX3_begin_X1_ownersOf rfl rfl rfl (by decide +kernel) ⟨(Nat.le_of_ble_eq_true rfl), (Nat.le_of_ble_eq_true rfl)⟩) rfl hl.1 rfl (Nat.le_of_ble_eq_true rfl) dX3_begin_82
          refine mc_i (wr := (wM cI aM0 aM1 aM2 mm_62)) hr hP hD hS hA [3, 4, 5, 6, 7, 8] [0, 1, 2] [0, 1, 2, 3, 4, 5, 6, 7, 8] rfl rfl rfl rfl rfl (wn := fun _ => ((wM cI aM0 aM1 aM2 mm_62) ++ (wK cI aK0 aK1 aK2 aK3 aK4 aK5 k))) (fun _ => rfl) (fun r_82 _ H locs hw_82 hP hD hS => ?_)
          have hP : va_P δ vwCl ((wM cI aM0 aM1 aM2 mm_62) ++ (wK cI aK0 aK1 aK2 aK3 aK4 aK5 k)) H := hP
          have hD : va_D A ((wM cI aM0 aM1 aM2 mm_62) ++ (wK cI aK0 aK1 aK2 aK3 aK4 aK5 k)) := hD
          have hR := bnd_eq hR hw_82.symm
          refine lv_iconst (v := (1 : Int32)) hx hb dX3_begin_85 (by decide) ?_
          have hr := mrV (p := p) (e := e) (R := rm_X3_begin) (below := below) (meth := meth) (H := H) (locs := locs) (ls := ls) (As := [.int r_82, .int (1 : Int32)]) (rest := []) (c_X3_changeHours l δ cI cJ cZ aM0 aM1 aM2 mm_62 r_82 (1 : Int32)) hx hb hml hts hown hK hNW hP hD [0, 1, 2] rfl rfl 3 0 rfl rfl (cwV 2 hts gX3_begin_X3_changeHours rfl rfl rfl (by decide +kernel) ⟨(Nat.le_of_ble_eq_true rfl), (Nat.le_of_ble_eq_true rfl)⟩) rfl hl.1 rfl (Nat.le_of_ble_eq_true rfl) dX3_begin_86
          refine mc_v (wr := (wK cI aK0 aK1 aK2 aK3 aK4 aK5 k)) hr hP hD hS hA [0, 1, 2] [3, 4, 5, 6, 7, 8] [6, 7, 8, 0, 1, 2, 3, 4, 5] rfl rfl rfl rfl rfl (wn := fun u_86 => ((wM cI aM0 aM1 aM2 u_86) ++ (wK cI aK0 aK1 aK2 aK3 aK4 aK5 k))) (fun _ => rfl) (fun u_86 H locs hw_86 hP hD hS => ?_)
          have hP : va_P δ vwCl ((wM cI aM0 aM1 aM2 u_86) ++ (wK cI aK0 aK1 aK2 aK3 aK4 aK5 k)) H := hP
          have hD : va_D A ((wM cI aM0 aM1 aM2 u_86) ++ (wK cI aK0 aK1 aK2 aK3 aK4 aK5 k)) := hD
          have hR := bnd_eq hR hw_86.symm
          refine lv_iinc (v := (nI (i_62 + 1))) (lv' := [(4, .int (nI (i_62 + 1))), (0, .ref aM0), (1, .ref aK0), (2, .int xh), (3, .int xd)]) hx hb dX3_begin_89 hl (k := 0) rfl (nI_1 i_62) (by decide) rfl (fun ls hl => ?_)
          refine lv_goto (tgt := 62) hx hb dX3_begin_92 (by decide) ?_
          exact ih_62 (i_62 + 1) u_86 _ _ _ (by omega) (by omega) hP hD hS (lv_sub hl [0, 1, 2, 3, 4] rfl) (fun w_62 H locs ls he hP hD hS hl => kk w_62 H locs ls (hR.trans he) hP hD hS hl)
  refine hloop_62 (24 + 1) 0 w_32 _ _ _ (by omega) (by omega) hP hD hS (lv_sub hl [0, 1, 2, 3, 4] rfl) (fun w_62 H locs ls hw_62 hP hD hS hl => ?_)
  have hP : va_P δ vwCl ((wM cI aM0 aM1 aM2 w_62) ++ (wK cI aK0 aK1 aK2 aK3 aK4 aK5 k)) H := hP
  have hD : va_D A ((wM cI aM0 aM1 aM2 w_62) ++ (wK cI aK0 aK1 aK2 aK3 aK4 aK5 k)) := hD
  have hR := bnd_eq hR hw_62.symm
  exact hret _ _ w_62 _ _ hR hP hD hS dX3_begin_95

abbrev rm_X3_whoDoes : Room := { frames := 3, cells := 0, slots := 0, locals := 68 }
set_option maxHeartbeats 4000000 in
set_option maxRecDepth 100000 in
theorem c_X3_whoDoes (l : Launch) (δ : va_G) (cI cJ cZ : ClassId) (aM0 aM1 aM2 aK0 aK1 aK2 aK3 aK4 aK5 : Nat) (mm : MS) (k : KS) (xh : Int32) (xt : Int32) : mMi l δ (mTy cI cJ cZ) yX3_whoDoes wsX3_whoDoes rm_X3_whoDoes [.ref aM0, .ref aK0, .int xh, .int xt] ((wM cI aM0 aM1 aM2 mm) ++ (wK cI aK0 aK1 aK2 aK3 aK4 aK5 k)) (S := MS) (fun r u => F_X3_whoDoes mm k xh xt = (r, u)) (fun u => ((wM cI aM0 aM1 aM2 u) ++ (wK cI aK0 aK1 aK2 aK3 aK4 aK5 k))) := by
  refine mk_i (cc := cX3_whoDoes) (maxL := 8) (by decide) rfl (Nat.le_of_ble_eq_true rfl) ?_
  intro p e s m args below meth c A Q ls H locs hx hb hml hts hown hK hNW hA hP hD hS hl hret
  have hown : s.vm.findClass RX3 = some m.cls := hown
  have hl : lv_has ls 8 [(0, .ref aM0), (1, .ref aK0), (2, .int xh), (3, .int xt)] := hl
  have hR := F_X3_whoDoes.eq_1 mm k xh xt
  refine lv_aload_n hx hb dX3_whoDoes_0 rfl (lv_at hl 0 rfl) ?_
  have hr := mrV (p := p) (e := e) (R := rm_X3_whoDoes) (below := below) (meth := meth) (H := H) (locs := locs) (ls := ls) (As := []) (rest := []) (c_X3_most l δ cI cJ cZ aM0 aM1 aM2 mm) hx hb hml hts hown hK hNW hP hD [0, 1, 2] rfl rfl 3 0 rfl rfl (cwV 0 hts gX3_whoDoes_X3_most rfl rfl rfl (by decide +kernel) ⟨(Nat.le_of_ble_eq_true rfl), (Nat.le_of_ble_eq_true rfl)⟩) rfl hl.1 rfl (Nat.le_of_ble_eq_true rfl) dX3_whoDoes_1
  refine mc_i (wr := (wK cI aK0 aK1 aK2 aK3 aK4 aK5 k)) hr hP hD hS hA [0, 1, 2] [3, 4, 5, 6, 7, 8] [6, 7, 8, 0, 1, 2, 3, 4, 5] rfl rfl rfl rfl rfl (wn := fun _ => ((wM cI aM0 aM1 aM2 mm) ++ (wK cI aK0 aK1 aK2 aK3 aK4 aK5 k))) (fun _ => rfl) (fun r_1 _ H locs hw_1 hP hD hS => ?_)
  have hP : va_P δ vwCl ((wM cI aM0 aM1 aM2 mm) ++ (wK cI aK0 aK1 aK2 aK3 aK4 aK5 k)) H := hP
  have hD : va_D A ((wM cI aM0 aM1 aM2 mm) ++ (wK cI aK0 aK1 aK2 aK3 aK4 aK5 k)) := hD
  have hR := bnd_eq hR hw_1.symm
  refine lv_istore (lv' := [(4, .int r_1), (0, .ref aM0), (1, .ref aK0), (2, .int xh), (3, .int xt)]) hx hb dX3_whoDoes_4 hl (by decide) rfl (fun ls hl => ?_)
  refine lv_bipush (v := (-6 : Int32)) hx hb dX3_whoDoes_6 (by decide) ?_
  refine lv_istore (lv' := [(5, .int (-6 : Int32)), (4, .int r_1), (0, .ref aM0), (1, .ref aK0), (2, .int xh), (3, .int xt)]) hx hb dX3_whoDoes_8 hl (by decide) rfl (fun ls hl => ?_)
  refine lv_iconst (v := (0 : Int32)) hx hb dX3_whoDoes_10 (by decide) ?_
  refine lv_istore (lv' := [(6, .int (0 : Int32)), (5, .int (-6 : Int32)), (4, .int r_1), (0, .ref aM0), (1, .ref aK0), (2, .int xh), (3, .int xt)]) hx hb dX3_whoDoes_11 hl (by decide) rfl (fun ls hl => ?_)
  have hloop_13 : ∀ (n_13 : Nat) (i_13 : Nat) (v5_13 : Int32) (v4_13 : Int32) (mm_13 : MS) (H : Heap) (locs : List Loc) (ls : Array Slot), (hi_13 : i_13 ≤ 24) → (hn_13 : 24 < i_13 + n_13) → (hP : va_P δ vwCl ((wM cI aM0 aM1 aM2 mm_13) ++ (wK cI aK0 aK1 aK2 aK3 aK4 aK5 k)) H) → (hD : va_D A ((wM cI aM0 aM1 aM2 mm_13) ++ (wK cI aK0 aK1 aK2 aK3 aK4 aK5 k))) → (hS : va_S A s.heap H locs) → (hl : lv_has ls 8 [(6, .int (nI i_13)), (5, .int v5_13), (4, .int v4_13), (0, .ref aM0), (1, .ref aK0), (2, .int xh), (3, .int xt)]) → (kk : ∀ (w_13 : Int32 × Int32 × MS) (H : Heap) (locs : List Loc) (ls : Array Slot), L_X3_whoDoes_13 k xh xt n_13 i_13 v5_13 v4_13 mm_13 = w_13 → va_P δ vwCl ((wM cI aM0 aM1 aM2 w_13.2.2) ++ (wK cI aK0 aK1 aK2 aK3 aK4 aK5 k)) H → va_D A ((wM cI aM0 aM1 aM2 w_13.2.2) ++ (wK cI aK0 aK1 aK2 aK3 aK4 aK5 k)) → va_S A s.heap H locs → lv_has ls 8 [(5, .int w_13.1), (4, .int w_13.2.1), (0, .ref aM0), (1, .ref aK0), (2, .int xh), (3, .int xt)] → W p l e rm_X3_whoDoes s m args below meth c H locs 0 0 Q (F0 m 84 ls [])) → W p l e rm_X3_whoDoes s m args below meth c H locs 0 0 Q (F0 m 13 ls []) := by
    intro n_13
    induction n_13 with
    | zero => intro i_13 v5_13 v4_13 mm_13 H locs ls hi_13 hn_13 hP hD hS hl kk; exact absurd hn_13 (by omega)
    | succ n_13 ih_13 =>
      intro i_13 v5_13 v4_13 mm_13 H locs ls hi_13 hn_13 hP hD hS hl kk
      have hR := L_X3_whoDoes_13_s k xh xt n_13 i_13 v5_13 v4_13 mm_13
      refine lv_iload hx hb dX3_whoDoes_13 (lv_at hl 0 rfl) ?_
      refine lv_bipush (v := (24 : Int32)) hx hb dX3_whoDoes_15 (by decide) ?_
      refine lv_icmp_ge (tgt := 84) hx hb dX3_whoDoes_17 (by decide) (fun c_17 => ?_) (fun c_17 => ?_)
      · have c_17 : ((24 : Int32) ≤ (nI i_13)) := c_17
        have hR := hR.trans (if_pos c_17)
        exact kk (v5_13, v4_13, mm_13) H locs ls hR hP hD hS (lv_sub hl [1, 2, 3, 4, 5, 6] rfl)
      · have c_17 : ¬ ((24 : Int32) ≤ (nI i_13)) := c_17
        have hR := hR.trans (if_neg c_17)
        have hlt_13 : i_13 < 24 := lt_g c_17 hi_13 (by decide)
        refine lv_iload hx hb dX3_whoDoes_20 (lv_at hl 0 rfl) ?_
        refine lv_iload_n hx hb dX3_whoDoes_22 rfl (lv_at hl 6 rfl) ?_
        refine lv_icmp_gt (tgt := 84) hx hb dX3_whoDoes_23 (by decide) (fun c_23 => ?_) (fun c_23 => ?_)
        · have c_23 : (xt < (nI i_13)) := c_23
          have hR := hR.trans (if_pos c_23)
          exact kk (v5_13, v4_13, mm_13) H locs ls hR hP hD hS (lv_sub hl [1, 2, 3, 4, 5, 6] rfl)
        · have c_23 : ¬ (xt < (nI i_13)) := c_23
          have hR := hR.trans (if_neg c_23)
          refine lv_iload_n hx hb dX3_whoDoes_26 rfl (lv_at hl 5 rfl) ?_
          refine lv_iload hx hb dX3_whoDoes_27 (lv_at hl 0 rfl) ?_
          have hr := mrN (p := p) (e := e) (R := rm_X3_whoDoes) (below := below) (meth := meth) (H := H) (locs := locs) (ls := ls) (As := [.int xh, .int (nI i_13)]) (rest := []) (c_X5_hasHour l δ cI cJ cZ xh (nI i_13)) hx hb hml hts hown hK hNW hP hD [] rfl rfl (va_cnB 2 hts gX3_whoDoes_X5_hasHour_n28 rfl rfl rfl hNW.2.2.1 (hts (.initialized RX5) (List.mem_of_getElem? (i := 13) rfl)) (by decide +kernel) ⟨(Nat.le_of_ble_eq_true rfl), (Nat.le_of_ble_eq_true rfl)⟩) (hts (.static yX5_hasHour) (List.mem_of_getElem? (i := 12) rfl)) rfl hl.1 rfl (Nat.le_of_ble_eq_true rfl) dX3_whoDoes_29
          refine mc_i (wr := ((wM cI aM0 aM1 aM2 mm_13) ++ (wK cI aK0 aK1 aK2 aK3 aK4 aK5 k))) hr hP hD hS hA [] [0, 1, 2, 3, 4, 5, 6, 7, 8] [0, 1, 2, 3, 4, 5, 6, 7, 8] rfl rfl rfl rfl rfl (wn := fun _ => ((wM cI aM0 aM1 aM2 mm_13) ++ (wK cI aK0 aK1 aK2 aK3 aK4 aK5 k))) (fun _ => rfl) (fun r_29 _ H locs hw_29 hP hD hS => ?_)
          obtain ⟨hw_29, z_29⟩ := hw_29
          have hP : va_P δ vwCl ((wM cI aM0 aM1 aM2 mm_13) ++ (wK cI aK0 aK1 aK2 aK3 aK4 aK5 k)) H := hP
          have hD : va_D A ((wM cI aM0 aM1 aM2 mm_13) ++ (wK cI aK0 aK1 aK2 aK3 aK4 aK5 k)) := hD
          have hR := bnd_eq hR hw_29.symm
          refine lv_if_eq (tgt := 78) hx hb dX3_whoDoes_32 (by decide) (fun c_32 => ?_) (fun c_32 => ?_)
          · have c_32 : (r_29 = 0) := c_32
            have hR := hR.trans (if_pos c_32)
            refine lv_iinc (v := (nI (i_13 + 1))) (lv' := [(6, .int (nI (i_13 + 1))), (5, .int v5_13), (4, .int v4_13), (0, .ref aM0), (1, .ref aK0), (2, .int xh), (3, .int xt)]) hx hb dX3_whoDoes_78 hl (k := 0) rfl (nI_1 i_13) (by decide) rfl (fun ls hl => ?_)
            refine lv_goto (tgt := 13) hx hb dX3_whoDoes_81 (by decide) ?_
            exact ih_13 (i_13 + 1) v5_13 v4_13 mm_13 _ _ _ (by omega) (by omega) hP hD hS (lv_sub hl [0, 1, 2, 3, 4, 5, 6] rfl) (fun w_13 H locs ls he hP hD hS hl => kk w_13 H locs ls (hR.trans he) hP hD hS hl)
          · have c_32 : ¬ (r_29 = 0) := c_32
            have hR := hR.trans (if_neg c_32)
            refine lv_aload_n hx hb dX3_whoDoes_35 rfl (lv_at hl 4 rfl) ?_
            refine lv_iload hx hb dX3_whoDoes_36 (lv_at hl 0 rfl) ?_
            have hr := mrV (p := p) (e := e) (R := rm_X3_whoDoes) (below := below) (meth := meth) (H := H) (locs := locs) (ls := ls) (As := [.int (nI i_13)]) (rest := []) (c_X1_ownersOf l δ cI cJ cZ aK0 aK1 aK2 aK3 aK4 aK5 k (nI i_13)) hx hb hml hts hown hK hNW hP hD [3, 4, 5, 6, 7, 8] rfl rfl 1 0 rfl rfl (cwV 1 hts gX3_whoDoes_X1_ownersOf rfl rfl rfl (by decide +kernel) ⟨(Nat.le_of_ble_eq_true rfl), (Nat.le_of_ble_eq_true rfl)⟩) rfl hl.1 rfl (Nat.le_of_ble_eq_true rfl) dX3_whoDoes_38
            refine mc_i (wr := (wM cI aM0 aM1 aM2 mm_13)) hr hP hD hS hA [3, 4, 5, 6, 7, 8] [0, 1, 2] [0, 1, 2, 3, 4, 5, 6, 7, 8] rfl rfl rfl rfl rfl (wn := fun _ => ((wM cI aM0 aM1 aM2 mm_13) ++ (wK cI aK0 aK1 aK2 aK3 aK4 aK5 k))) (fun _ => rfl) (fun r_38 _ H locs hw_38 hP hD hS => ?_)
            have hP : va_P δ vwCl ((wM cI aM0 aM1 aM2 mm_13) ++ (wK cI aK0 aK1 aK2 aK3 aK4 aK5 k)) H := hP
            have hD : va_D A ((wM cI aM0 aM1 aM2 mm_13) ++ (wK cI aK0 aK1 aK2 aK3 aK4 aK5 k)) := hD
            have hR := bnd_eq hR hw_38.symm
            refine lv_istore (lv' := [(7, .int r_38), (6, .int (nI i_13)), (5, .int v5_13), (4, .int v4_13), (0, .ref aM0), (1, .ref aK0), (2, .int xh), (3, .int xt)]) hx hb dX3_whoDoes_41 hl (by decide) rfl (fun ls hl => ?_)
            refine lv_aload_n hx hb dX3_whoDoes_43 rfl (lv_at hl 4 rfl) ?_
            refine lv_iload hx hb dX3_whoDoes_44 (lv_at hl 0 rfl) ?_
            refine lv_iconst (v := (-1 : Int32)) hx hb dX3_whoDoes_46 (by decide) ?_
            have hr := mrV (p := p) (e := e) (R := rm_X3_whoDoes) (below := below) (meth := meth) (H := H) (locs := locs) (ls := ls) (As := [.int r_38, .int (-1 : Int32)]) (rest := []) (c_X3_changeHours l δ cI cJ cZ aM0 aM1 aM2 mm_13 r_38 (-1 : Int32)) hx hb hml hts hown hK hNW hP hD [0, 1, 2] rfl rfl 3 0 rfl rfl (cwV 2 hts gX3_whoDoes_X3_changeHours rfl rfl rfl (by decide +kernel) ⟨(Nat.le_of_ble_eq_true rfl), (Nat.le_of_ble_eq_true rfl)⟩) rfl hl.1 rfl (Nat.le_of_ble_eq_true rfl) dX3_whoDoes_47
            refine mc_v (wr := (wK cI aK0 aK1 aK2 aK3 aK4 aK5 k)) hr hP hD hS hA [0, 1, 2] [3, 4, 5, 6, 7, 8] [6, 7, 8, 0, 1, 2, 3, 4, 5] rfl rfl rfl rfl rfl (wn := fun u_47 => ((wM cI aM0 aM1 aM2 u_47) ++ (wK cI aK0 aK1 aK2 aK3 aK4 aK5 k))) (fun _ => rfl) (fun u_47 H locs hw_47 hP hD hS => ?_)
            have hP : va_P δ vwCl ((wM cI aM0 aM1 aM2 u_47) ++ (wK cI aK0 aK1 aK2 aK3 aK4 aK5 k)) H := hP
            have hD : va_D A ((wM cI aM0 aM1 aM2 u_47) ++ (wK cI aK0 aK1 aK2 aK3 aK4 aK5 k)) := hD
            have hR := bnd_eq hR hw_47.symm
            refine lv_aload_n hx hb dX3_whoDoes_50 rfl (lv_at hl 4 rfl) ?_
            refine lv_iload hx hb dX3_whoDoes_51 (lv_at hl 0 rfl) ?_
            refine lv_iload hx hb dX3_whoDoes_53 (lv_at hl 3 rfl) ?_
            have hr := mrV (p := p) (e := e) (R := rm_X3_whoDoes) (below := below) (meth := meth) (H := H) (locs := locs) (ls := ls) (As := [.int r_38, .int v4_13]) (rest := []) (c_X3_leastWho l δ cI cJ cZ aM0 aM1 aM2 u_47 r_38 v4_13) hx hb hml hts hown hK hNW hP hD [0, 1, 2] rfl rfl 3 0 rfl rfl (cwV 2 hts gX3_whoDoes_X3_leastWho rfl rfl rfl (by decide +kernel) ⟨(Nat.le_of_ble_eq_true rfl), (Nat.le_of_ble_eq_true rfl)⟩) rfl hl.1 rfl (Nat.le_of_ble_eq_true rfl) dX3_whoDoes_55
            refine mc_i (wr := (wK cI aK0 aK1 aK2 aK3 aK4 aK5 k)) hr hP hD hS hA [0, 1, 2] [3, 4, 5, 6, 7, 8] [6, 7, 8, 0, 1, 2, 3, 4, 5] rfl rfl rfl rfl rfl (wn := fun u_55 => ((wM cI aM0 aM1 aM2 u_55) ++ (wK cI aK0 aK1 aK2 aK3 aK4 aK5 k))) (fun _ => rfl) (fun r_55 u_55 H locs hw_55 hP hD hS => ?_)
            have hP : va_P δ vwCl ((wM cI aM0 aM1 aM2 u_55) ++ (wK cI aK0 aK1 aK2 aK3 aK4 aK5 k)) H := hP
            have hD : va_D A ((wM cI aM0 aM1 aM2 u_55) ++ (wK cI aK0 aK1 aK2 aK3 aK4 aK5 k)) := hD
            have hR := bnd_eq hR hw_55.symm
            refine lv_istore (lv' := [(5, .int r_55), (7, .int r_38), (6, .int (nI i_13)), (4, .int v4_13), (0, .ref aM0), (1, .ref aK0), (2, .int xh), (3, .int xt)]) hx hb dX3_whoDoes_58 hl (by decide) rfl (fun ls hl => ?_)
            refine lv_iload hx hb dX3_whoDoes_60 (lv_at hl 0 rfl) ?_
            refine lv_bipush (v := (-6 : Int32)) hx hb dX3_whoDoes_62 (by decide) ?_
            refine lv_icmp_ne (tgt := 72) hx hb dX3_whoDoes_64 (by decide) (fun c_64 => ?_) (fun c_64 => ?_)
            · have c_64 : ¬ (r_55 = (-6 : Int32)) := c_64
              have hR := hR.trans (if_neg c_64)
              refine lv_iload hx hb dX3_whoDoes_72 (lv_at hl 3 rfl) ?_
              refine lv_iconst (v := (1 : Int32)) hx hb dX3_whoDoes_74 (by decide) ?_
              refine lv_isub hx hb dX3_whoDoes_75 ?_
              refine lv_istore (lv' := [(4, .int (v4_13 - (1 : Int32))), (5, .int r_55), (7, .int r_38), (6, .int (nI i_13)), (0, .ref aM0), (1, .ref aK0), (2, .int xh), (3, .int xt)]) hx hb dX3_whoDoes_76 hl (by decide) rfl (fun ls hl => ?_)
              refine lv_iinc (v := (nI (i_13 + 1))) (lv' := [(6, .int (nI (i_13 + 1))), (4, .int (v4_13 - (1 : Int32))), (5, .int r_55), (7, .int r_38), (0, .ref aM0), (1, .ref aK0), (2, .int xh), (3, .int xt)]) hx hb dX3_whoDoes_78 hl (k := 3) rfl (nI_1 i_13) (by decide) rfl (fun ls hl => ?_)
              refine lv_goto (tgt := 13) hx hb dX3_whoDoes_81 (by decide) ?_
              exact ih_13 (i_13 + 1) r_55 (v4_13 - (1 : Int32)) u_55 _ _ _ (by omega) (by omega) hP hD hS (lv_sub hl [0, 2, 1, 4, 5, 6, 7] rfl) (fun w_13 H locs ls he hP hD hS hl => kk w_13 H locs ls (hR.trans he) hP hD hS hl)
            · have c_64 : (r_55 = (-6 : Int32)) := c_64
              have hR := hR.trans (if_pos c_64)
              refine lv_iload hx hb dX3_whoDoes_67 (lv_at hl 3 rfl) ?_
              refine lv_goto (tgt := 76) hx hb dX3_whoDoes_69 (by decide) ?_
              refine lv_istore (lv' := [(4, .int v4_13), (5, .int r_55), (7, .int r_38), (6, .int (nI i_13)), (0, .ref aM0), (1, .ref aK0), (2, .int xh), (3, .int xt)]) hx hb dX3_whoDoes_76 hl (by decide) rfl (fun ls hl => ?_)
              refine lv_iinc (v := (nI (i_13 + 1))) (lv' := [(6, .int (nI (i_13 + 1))), (4, .int v4_13), (5, .int r_55), (7, .int r_38), (0, .ref aM0), (1, .ref aK0), (2, .int xh), (3, .int xt)]) hx hb dX3_whoDoes_78 hl (k := 3) rfl (nI_1 i_13) (by decide) rfl (fun ls hl => ?_)
              refine lv_goto (tgt := 13) hx hb dX3_whoDoes_81 (by decide) ?_
              exact ih_13 (i_13 + 1) r_55 v4_13 u_55 _ _ _ (by omega) (by omega) hP hD hS (lv_sub hl [0, 2, 1, 4, 5, 6, 7] rfl) (fun w_13 H locs ls he hP hD hS hl => kk w_13 H locs ls (hR.trans he) hP hD hS hl)
  refine hloop_13 (24 + 1) 0 (-6 : Int32) r_1 mm _ _ _ (by omega) (by omega) hP hD hS (lv_sub hl [0, 1, 2, 3, 4, 5, 6] rfl) (fun w_13 H locs ls hw_13 hP hD hS hl => ?_)
  have hP : va_P δ vwCl ((wM cI aM0 aM1 aM2 w_13.2.2) ++ (wK cI aK0 aK1 aK2 aK3 aK4 aK5 k)) H := hP
  have hD : va_D A ((wM cI aM0 aM1 aM2 w_13.2.2) ++ (wK cI aK0 aK1 aK2 aK3 aK4 aK5 k)) := hD
  have hR := bnd_eq hR hw_13.symm
  refine lv_iload hx hb dX3_whoDoes_84 (lv_at hl 0 rfl) ?_
  exact hret _ _ w_13.1 w_13.2.2 _ _ hR hP hD hS dX3_whoDoes_86
