abbrev rm_X5_areCountries : Room := { frames := 1, cells := 0, slots := 0, locals := 22 }
set_option maxHeartbeats 4000000 in
set_option maxRecDepth 100000 in
theorem c_X5_areCountries (l : Launch) (δ : va_G) (cI cJ cZ : ClassId) (xa : Int32) (xx : Int32) (xb : Int32) (xy : Int32) : mMi l δ (mTy cI cJ cZ) yX5_areCountries wsX5_areCountries rm_X5_areCountries [.int xa, .int xx, .int xb, .int xy] ([] : va_W) (S := Unit) (fun r _ => F_X5_areCountries xa xx xb xy = r ∧ mZ r) (fun _ => ([] : va_W)) := by
  refine mk_z (post := fun r _ => F_X5_areCountries xa xx xb xy = r) (cc := cX5_areCountries) (maxL := 4) (by decide) rfl (Nat.le_of_ble_eq_true rfl) ?_
  intro p e s m args below meth c A Q ls H locs hx hb hml hts hown hK hNW hA hP hD hS hl hret
  have hown : s.vm.findClass RX5 = some m.cls := hown
  have hl : lv_has ls 4 [(0, .int xa), (1, .int xx), (2, .int xb), (3, .int xy)] := hl
  have hR := F_X5_areCountries.eq_1 xa xx xb xy
  refine lv_iload_n hx hb dX5_areCountries_0 rfl (lv_at hl 0 rfl) ?_
  refine lv_iconst (v := (1 : Int32)) hx hb dX5_areCountries_1 (by decide) ?_
  refine lv_sipush (v := (999 : Int32)) hx hb dX5_areCountries_2 (by decide) ?_
  have hr := mrS (p := p) (e := e) (R := rm_X5_areCountries) (below := below) (meth := meth) (H := H) (locs := locs) (ls := ls) (As := [.int xa, .int (1 : Int32), .int (999 : Int32)]) (rest := []) (c_X5_isWithin l δ cI cJ cZ xa (1 : Int32) (999 : Int32)) hx hb hml hts hown hK hNW hP hD [] rfl rfl (va_cwS 3 hts gX5_areCountries_X5_isWithin rfl rfl rfl (by decide +kernel) ⟨(Nat.le_of_ble_eq_true rfl), (Nat.le_of_ble_eq_true rfl)⟩) rfl hl.1 rfl (Nat.le_of_ble_eq_true rfl) dX5_areCountries_5
  refine mc_i (wr := ([] : va_W)) hr hP hD hS hA [] [] [] rfl rfl rfl rfl rfl (wn := fun _ => ([] : va_W)) (fun _ => rfl) (fun r_5 _ H locs hw_5 hP hD hS => ?_)
  obtain ⟨hw_5, z_5⟩ := hw_5
  have hP : va_P δ vwCl ([] : va_W) H := hP
  have hD : va_D A ([] : va_W) := hD
  have hR := bnd_eq hR hw_5.symm
  refine lv_if_eq (tgt := 48) hx hb dX5_areCountries_8 (by decide) (fun c_8 => ?_) (fun c_8 => ?_)
  · have c_8 : (r_5 = 0) := c_8
    have hR := hR.trans (if_pos c_8)
    refine lv_iconst (v := (0 : Int32)) hx hb dX5_areCountries_48 (by decide) ?_
    exact hret _ _ (0 : Int32) () _ _ hR (Or.inl rfl) hP hD hS dX5_areCountries_49
  · have c_8 : ¬ (r_5 = 0) := c_8
    have hR := hR.trans (if_neg c_8)
    refine lv_iload_n hx hb dX5_areCountries_11 rfl (lv_at hl 2 rfl) ?_
    refine lv_iconst (v := (1 : Int32)) hx hb dX5_areCountries_12 (by decide) ?_
    refine lv_sipush (v := (999 : Int32)) hx hb dX5_areCountries_13 (by decide) ?_
    have hr := mrS (p := p) (e := e) (R := rm_X5_areCountries) (below := below) (meth := meth) (H := H) (locs := locs) (ls := ls) (As := [.int xb, .int (1 : Int32), .int (999 : Int32)]) (rest := []) (c_X5_isWithin l δ cI cJ cZ xb (1 : Int32) (999 : Int32)) hx hb hml hts hown hK hNW hP hD [] rfl rfl (va_cwS 3 hts gX5_areCountries_X5_isWithin rfl rfl rfl (by decide +kernel) ⟨(Nat.le_of_ble_eq_true rfl), (Nat.le_of_ble_eq_true rfl)⟩) rfl hl.1 rfl (Nat.le_of_ble_eq_true rfl) dX5_areCountries_16
    refine mc_i (wr := ([] : va_W)) hr hP hD hS hA [] [] [] rfl rfl rfl rfl rfl (wn := fun _ => ([] : va_W)) (fun _ => rfl) (fun r_16 _ H locs hw_16 hP hD hS => ?_)
    obtain ⟨hw_16, z_16⟩ := hw_16
    have hP : va_P δ vwCl ([] : va_W) H := hP
    have hD : va_D A ([] : va_W) := hD
    have hR := bnd_eq hR hw_16.symm
    refine lv_if_eq (tgt := 48) hx hb dX5_areCountries_19 (by decide) (fun c_19 => ?_) (fun c_19 => ?_)
    · have c_19 : (r_16 = 0) := c_19
      have hR := hR.trans (if_pos c_19)
      refine lv_iconst (v := (0 : Int32)) hx hb dX5_areCountries_48 (by decide) ?_
      exact hret _ _ (0 : Int32) () _ _ hR (Or.inl rfl) hP hD hS dX5_areCountries_49
    · have c_19 : ¬ (r_16 = 0) := c_19
      have hR := hR.trans (if_neg c_19)
      refine lv_iload_n hx hb dX5_areCountries_22 rfl (lv_at hl 1 rfl) ?_
      refine lv_iconst (v := (0 : Int32)) hx hb dX5_areCountries_23 (by decide) ?_
      refine lv_iload_n hx hb dX5_areCountries_24 rfl (lv_at hl 0 rfl) ?_
      refine lv_iconst (v := (1 : Int32)) hx hb dX5_areCountries_25 (by decide) ?_
      refine lv_isub hx hb dX5_areCountries_26 ?_
      have hr := mrS (p := p) (e := e) (R := rm_X5_areCountries) (below := below) (meth := meth) (H := H) (locs := locs) (ls := ls) (As := [.int xx, .int (0 : Int32), .int (xa - (1 : Int32))]) (rest := []) (c_X5_isWithin l δ cI cJ cZ xx (0 : Int32) (xa - (1 : Int32))) hx hb hml hts hown hK hNW hP hD [] rfl rfl (va_cwS 3 hts gX5_areCountries_X5_isWithin rfl rfl rfl (by decide +kernel) ⟨(Nat.le_of_ble_eq_true rfl), (Nat.le_of_ble_eq_true rfl)⟩) rfl hl.1 rfl (Nat.le_of_ble_eq_true rfl) dX5_areCountries_27
      refine mc_i (wr := ([] : va_W)) hr hP hD hS hA [] [] [] rfl rfl rfl rfl rfl (wn := fun _ => ([] : va_W)) (fun _ => rfl) (fun r_27 _ H locs hw_27 hP hD hS => ?_)
      obtain ⟨hw_27, z_27⟩ := hw_27
      have hP : va_P δ vwCl ([] : va_W) H := hP
      have hD : va_D A ([] : va_W) := hD
      have hR := bnd_eq hR hw_27.symm
      refine lv_if_eq (tgt := 48) hx hb dX5_areCountries_30 (by decide) (fun c_30 => ?_) (fun c_30 => ?_)
      · have c_30 : (r_27 = 0) := c_30
        have hR := hR.trans (if_pos c_30)
        refine lv_iconst (v := (0 : Int32)) hx hb dX5_areCountries_48 (by decide) ?_
        exact hret _ _ (0 : Int32) () _ _ hR (Or.inl rfl) hP hD hS dX5_areCountries_49
      · have c_30 : ¬ (r_27 = 0) := c_30
        have hR := hR.trans (if_neg c_30)
        refine lv_iload_n hx hb dX5_areCountries_33 rfl (lv_at hl 3 rfl) ?_
        refine lv_iconst (v := (0 : Int32)) hx hb dX5_areCountries_34 (by decide) ?_
        refine lv_iload_n hx hb dX5_areCountries_35 rfl (lv_at hl 2 rfl) ?_
        refine lv_iconst (v := (1 : Int32)) hx hb dX5_areCountries_36 (by decide) ?_
        refine lv_isub hx hb dX5_areCountries_37 ?_
        have hr := mrS (p := p) (e := e) (R := rm_X5_areCountries) (below := below) (meth := meth) (H := H) (locs := locs) (ls := ls) (As := [.int xy, .int (0 : Int32), .int (xb - (1 : Int32))]) (rest := []) (c_X5_isWithin l δ cI cJ cZ xy (0 : Int32) (xb - (1 : Int32))) hx hb hml hts hown hK hNW hP hD [] rfl rfl (va_cwS 3 hts gX5_areCountries_X5_isWithin rfl rfl rfl (by decide +kernel) ⟨(Nat.le_of_ble_eq_true rfl), (Nat.le_of_ble_eq_true rfl)⟩) rfl hl.1 rfl (Nat.le_of_ble_eq_true rfl) dX5_areCountries_38
        refine mc_i (wr := ([] : va_W)) hr hP hD hS hA [] [] [] rfl rfl rfl rfl rfl (wn := fun _ => ([] : va_W)) (fun _ => rfl) (fun r_38 _ H locs hw_38 hP hD hS => ?_)
        obtain ⟨hw_38, z_38⟩ := hw_38
        have hP : va_P δ vwCl ([] : va_W) H := hP
        have hD : va_D A ([] : va_W) := hD
        have hR := bnd_eq hR hw_38.symm
        refine lv_if_eq (tgt := 48) hx hb dX5_areCountries_41 (by decide) (fun c_41 => ?_) (fun c_41 => ?_)
        · have c_41 : (r_38 = 0) := c_41
          have hR := hR.trans (if_pos c_41)
          refine lv_iconst (v := (0 : Int32)) hx hb dX5_areCountries_48 (by decide) ?_
          exact hret _ _ (0 : Int32) () _ _ hR (Or.inl rfl) hP hD hS dX5_areCountries_49
        · have c_41 : ¬ (r_38 = 0) := c_41
          have hR := hR.trans (if_neg c_41)
          refine lv_iconst (v := (1 : Int32)) hx hb dX5_areCountries_44 (by decide) ?_
          refine lv_goto (tgt := 49) hx hb dX5_areCountries_45 (by decide) ?_
          exact hret _ _ (1 : Int32) () _ _ hR (Or.inr rfl) hP hD hS dX5_areCountries_49

abbrev rm_X5_firstStrike : Room := { frames := 0, cells := 0, slots := 0, locals := 0 }
set_option maxHeartbeats 4000000 in
set_option maxRecDepth 100000 in
theorem c_X5_firstStrike (l : Launch) (δ : va_G) (cI cJ cZ : ClassId) (xa : Int32) (xx : Int32) (xb : Int32) (xy : Int32) : mMi l δ (mTy cI cJ cZ) yX5_firstStrike wsX5_firstStrike rm_X5_firstStrike [.int xa, .int xx, .int xb, .int xy] ([] : va_W) (S := Unit) (fun r _ => F_X5_firstStrike xa xx xb xy = r) (fun _ => ([] : va_W)) := by
  refine mk_i (cc := cX5_firstStrike) (maxL := 6) (by decide) rfl (Nat.le_of_ble_eq_true rfl) ?_
  intro p e s m args below meth c A Q ls H locs hx hb hml hts hown hK hNW hA hP hD hS hl hret
  have hown : s.vm.findClass RX5 = some m.cls := hown
  have hl : lv_has ls 6 [(0, .int xa), (1, .int xx), (2, .int xb), (3, .int xy)] := hl
  have hR := F_X5_firstStrike.eq_1 xa xx xb xy
  refine lv_iload_n hx hb dX5_firstStrike_0 rfl (lv_at hl 2 rfl) ?_
  refine lv_iconst (v := (1 : Int32)) hx hb dX5_firstStrike_1 (by decide) ?_
  refine lv_icmp_ge (tgt := 8) hx hb dX5_firstStrike_2 (by decide) (fun c_2 => ?_) (fun c_2 => ?_)
  · have c_2 : ((1 : Int32) ≤ xb) := c_2
    have hR := hR.trans (if_pos c_2)
    refine lv_iload_n hx hb dX5_firstStrike_8 rfl (lv_at hl 1 rfl) ?_
    refine lv_istore (lv' := [(4, .int xx), (0, .int xa), (1, .int xx), (2, .int xb), (3, .int xy)]) hx hb dX5_firstStrike_9 hl (by decide) rfl (fun ls hl => ?_)
    refine lv_iconst (v := (0 : Int32)) hx hb dX5_firstStrike_11 (by decide) ?_
    refine lv_istore (lv' := [(5, .int (0 : Int32)), (4, .int xx), (0, .int xa), (1, .int xx), (2, .int xb), (3, .int xy)]) hx hb dX5_firstStrike_12 hl (by decide) rfl (fun ls hl => ?_)
    have hloop_14 : ∀ (n_14 : Nat) (i_14 : Nat) (v4_14 : Int32) (H : Heap) (locs : List Loc) (ls : Array Slot), (hi_14 : i_14 ≤ xb.toNatClampNeg) → (hn_14 : xb.toNatClampNeg < i_14 + n_14) → (hP : va_P δ vwCl ([] : va_W) H) → (hD : va_D A ([] : va_W)) → (hS : va_S A s.heap H locs) → (hl : lv_has ls 6 [(5, .int (nI i_14)), (4, .int v4_14), (0, .int xa), (1, .int xx), (2, .int xb), (3, .int xy)]) → (hR : F_X5_firstStrike xa xx xb xy = L_X5_firstStrike_14 xa xb xy n_14 i_14 v4_14) → W p l e rm_X5_firstStrike s m args below meth c H locs 0 0 Q (F0 m 14 ls []) := by
      intro n_14
      induction n_14 with
      | zero => intro i_14 v4_14 H locs ls hi_14 hn_14 hP hD hS hl hR; exact absurd hn_14 (by omega)
      | succ n_14 ih_14 =>
        intro i_14 v4_14 H locs ls hi_14 hn_14 hP hD hS hl hR
        have hR := hR.trans (L_X5_firstStrike_14_s xa xb xy n_14 i_14 v4_14)
        refine lv_iload hx hb dX5_firstStrike_14 (lv_at hl 0 rfl) ?_
        refine lv_iload_n hx hb dX5_firstStrike_16 rfl (lv_at hl 4 rfl) ?_
        refine lv_icmp_ge (tgt := 43) hx hb dX5_firstStrike_17 (by decide) (fun c_17 => ?_) (fun c_17 => ?_)
        · have c_17 : (xb ≤ (nI i_14)) := c_17
          have hR := hR.trans (if_pos c_17)
          refine lv_bipush (v := (-6 : Int32)) hx hb dX5_firstStrike_43 (by decide) ?_
          exact hret _ _ (-6 : Int32) () _ _ hR hP hD hS dX5_firstStrike_45
        · have c_17 : ¬ (xb ≤ (nI i_14)) := c_17
          have hR := hR.trans (if_neg c_17)
          have hlt_14 : i_14 < xb.toNatClampNeg := lt_c c_17 hi_14
          refine lv_iload hx hb dX5_firstStrike_20 (lv_at hl 1 rfl) ?_
          refine lv_iload_n hx hb dX5_firstStrike_22 rfl (lv_at hl 4 rfl) ?_
          refine lv_irem hx hb dX5_firstStrike_23 (ne_1 c_2) ?_
          refine lv_iload_n hx hb dX5_firstStrike_24 rfl (lv_at hl 5 rfl) ?_
          refine lv_icmp_ne (tgt := 31) hx hb dX5_firstStrike_25 (by decide) (fun c_25 => ?_) (fun c_25 => ?_)
          · have c_25 : ¬ ((v4_14 - v4_14 / xb * xb) = xy) := c_25
            have hR := hR.trans (if_neg c_25)
            refine lv_iload hx hb dX5_firstStrike_31 (lv_at hl 1 rfl) ?_
            refine lv_iload_n hx hb dX5_firstStrike_33 rfl (lv_at hl 2 rfl) ?_
            refine lv_iadd hx hb dX5_firstStrike_34 ?_
            refine lv_istore (lv' := [(4, .int (v4_14 + xa)), (5, .int (nI i_14)), (0, .int xa), (1, .int xx), (2, .int xb), (3, .int xy)]) hx hb dX5_firstStrike_35 hl (by decide) rfl (fun ls hl => ?_)
            refine lv_iinc (v := (nI (i_14 + 1))) (lv' := [(5, .int (nI (i_14 + 1))), (4, .int (v4_14 + xa)), (0, .int xa), (1, .int xx), (2, .int xb), (3, .int xy)]) hx hb dX5_firstStrike_37 hl (k := 1) rfl (nI_1 i_14) (by decide) rfl (fun ls hl => ?_)
            refine lv_goto (tgt := 14) hx hb dX5_firstStrike_40 (by decide) ?_
            exact ih_14 (i_14 + 1) (v4_14 + xa) _ _ _ (by omega) (by omega) hP hD hS (lv_sub hl [0, 1, 2, 3, 4, 5] rfl) hR
          · have c_25 : ((v4_14 - v4_14 / xb * xb) = xy) := c_25
            have hR := hR.trans (if_pos c_25)
            refine lv_iload hx hb dX5_firstStrike_28 (lv_at hl 1 rfl) ?_
            exact hret _ _ v4_14 () _ _ hR hP hD hS dX5_firstStrike_30
    exact hloop_14 (xb.toNatClampNeg + 1) 0 xx _ _ _ (by omega) (by omega) hP hD hS (lv_sub hl [0, 1, 2, 3, 4, 5] rfl) hR
  · have c_2 : ¬ ((1 : Int32) ≤ xb) := c_2
    have hR := hR.trans (if_neg c_2)
    refine lv_bipush (v := (-6 : Int32)) hx hb dX5_firstStrike_5 (by decide) ?_
    exact hret _ _ (-6 : Int32) () _ _ hR hP hD hS dX5_firstStrike_7

abbrev rm_X5_commonDivisor : Room := { frames := 0, cells := 0, slots := 0, locals := 0 }
set_option maxHeartbeats 4000000 in
set_option maxRecDepth 100000 in
theorem c_X5_commonDivisor (l : Launch) (δ : va_G) (cI cJ cZ : ClassId) (xo : Int64) (xt : Int64) : mMl l δ (mTy cI cJ cZ) yX5_commonDivisor wsX5_commonDivisor rm_X5_commonDivisor [.long xo, .long xt] ([] : va_W) (S := Unit) (fun r _ => F_X5_commonDivisor xo xt = r) (fun _ => ([] : va_W)) := by
  refine mk_l (cc := cX5_commonDivisor) (maxL := 11) (by decide) rfl (Nat.le_of_ble_eq_true rfl) ?_
  intro p e s m args below meth c A Q ls H locs hx hb hml hts hown hK hNW hA hP hD hS hl hret
  have hown : s.vm.findClass RX5 = some m.cls := hown
  have hl : lv_has ls 11 [(0, .long xo), (2, .long xt)] := hl
  have hR := F_X5_commonDivisor.eq_1 xo xt
  refine lv_lload_n hx hb dX5_commonDivisor_0 rfl (lv_at hl 0 rfl) ?_
  refine lv_lstore (lv' := [(4, .long xo), (0, .long xo), (2, .long xt)]) hx hb dX5_commonDivisor_1 hl (by decide) rfl (fun ls hl => ?_)
  refine lv_lload_n hx hb dX5_commonDivisor_3 rfl (lv_at hl 2 rfl) ?_
  refine lv_lstore (lv' := [(6, .long xt), (4, .long xo), (0, .long xo), (2, .long xt)]) hx hb dX5_commonDivisor_4 hl (by decide) rfl (fun ls hl => ?_)
  refine lv_iconst (v := (0 : Int32)) hx hb dX5_commonDivisor_6 (by decide) ?_
  refine lv_istore (lv' := [(8, .int (0 : Int32)), (6, .long xt), (4, .long xo), (0, .long xo), (2, .long xt)]) hx hb dX5_commonDivisor_7 hl (by decide) rfl (fun ls hl => ?_)
  have hloop_9 : ∀ (n_9 : Nat) (i_9 : Nat) (v6_9 : Int64) (v4_9 : Int64) (H : Heap) (locs : List Loc) (ls : Array Slot), (hi_9 : i_9 ≤ 100) → (hn_9 : 100 < i_9 + n_9) → (hP : va_P δ vwCl ([] : va_W) H) → (hD : va_D A ([] : va_W)) → (hS : va_S A s.heap H locs) → (hl : lv_has ls 11 [(8, .int (nI i_9)), (6, .long v6_9), (4, .long v4_9), (0, .long xo), (2, .long xt)]) → (kk : ∀ (w_9 : Int64 × Int64) (H : Heap) (locs : List Loc) (ls : Array Slot), L_X5_commonDivisor_9  n_9 i_9 v6_9 v4_9 = w_9 → va_P δ vwCl ([] : va_W) H → va_D A ([] : va_W) → va_S A s.heap H locs → lv_has ls 11 [(6, .long w_9.1), (4, .long w_9.2), (0, .long xo), (2, .long xt)] → W p l e rm_X5_commonDivisor s m args below meth c H locs 0 0 Q (F0 m 44 ls [])) → W p l e rm_X5_commonDivisor s m args below meth c H locs 0 0 Q (F0 m 9 ls []) := by
    intro n_9
    induction n_9 with
    | zero => intro i_9 v6_9 v4_9 H locs ls hi_9 hn_9 hP hD hS hl kk; exact absurd hn_9 (by omega)
    | succ n_9 ih_9 =>
      intro i_9 v6_9 v4_9 H locs ls hi_9 hn_9 hP hD hS hl kk
      have hR := L_X5_commonDivisor_9_s  n_9 i_9 v6_9 v4_9
      refine lv_iload hx hb dX5_commonDivisor_9 (lv_at hl 0 rfl) ?_
      refine lv_bipush (v := (100 : Int32)) hx hb dX5_commonDivisor_11 (by decide) ?_
      refine lv_icmp_ge (tgt := 44) hx hb dX5_commonDivisor_13 (by decide) (fun c_13 => ?_) (fun c_13 => ?_)
      · have c_13 : ((100 : Int32) ≤ (nI i_9)) := c_13
        have hR := hR.trans (if_pos c_13)
        exact kk (v6_9, v4_9) H locs ls hR hP hD hS (lv_sub hl [1, 2, 3, 4] rfl)
      · have c_13 : ¬ ((100 : Int32) ≤ (nI i_9)) := c_13
        have hR := hR.trans (if_neg c_13)
        have hlt_9 : i_9 < 100 := lt_g c_13 hi_9 (by decide)
        refine lv_lload hx hb dX5_commonDivisor_16 (lv_at hl 1 rfl) ?_
        refine lv_lconst (v := (0 : Int64)) hx hb dX5_commonDivisor_18 (by decide) ?_
        refine W.lcmp hx hb dX5_commonDivisor_19 ?_
        refine lv_if_eq (tgt := 44) hx hb dX5_commonDivisor_20 (by decide) (fun c_20 => ?_) (fun c_20 => ?_)
        · have c_20 : ((lg_cmp v6_9 (0 : Int64)) = 0) := c_20
          have hR := hR.trans (if_pos c_20)
          exact kk (v6_9, v4_9) H locs ls hR hP hD hS (lv_sub hl [1, 2, 3, 4] rfl)
        · have c_20 : ¬ ((lg_cmp v6_9 (0 : Int64)) = 0) := c_20
          have hR := hR.trans (if_neg c_20)
          refine lv_lload hx hb dX5_commonDivisor_23 (lv_at hl 2 rfl) ?_
          refine lv_lload hx hb dX5_commonDivisor_25 (lv_at hl 1 rfl) ?_
          refine lv_lrem hx hb dX5_commonDivisor_27 (lg_ne c_20) ?_
          refine lv_lstore (lv' := [(9, .long (v4_9 - v4_9 / v6_9 * v6_9)), (8, .int (nI i_9)), (6, .long v6_9), (4, .long v4_9), (0, .long xo), (2, .long xt)]) hx hb dX5_commonDivisor_28 hl (by decide) rfl (fun ls hl => ?_)
          refine lv_lload hx hb dX5_commonDivisor_30 (lv_at hl 2 rfl) ?_
          refine lv_lstore (lv' := [(4, .long v6_9), (9, .long (v4_9 - v4_9 / v6_9 * v6_9)), (8, .int (nI i_9)), (6, .long v6_9), (0, .long xo), (2, .long xt)]) hx hb dX5_commonDivisor_32 hl (by decide) rfl (fun ls hl => ?_)
          refine lv_lload hx hb dX5_commonDivisor_34 (lv_at hl 1 rfl) ?_
          refine lv_lstore (lv' := [(6, .long (v4_9 - v4_9 / v6_9 * v6_9)), (4, .long v6_9), (9, .long (v4_9 - v4_9 / v6_9 * v6_9)), (8, .int (nI i_9)), (0, .long xo), (2, .long xt)]) hx hb dX5_commonDivisor_36 hl (by decide) rfl (fun ls hl => ?_)
          refine lv_iinc (v := (nI (i_9 + 1))) (lv' := [(8, .int (nI (i_9 + 1))), (6, .long (v4_9 - v4_9 / v6_9 * v6_9)), (4, .long v6_9), (9, .long (v4_9 - v4_9 / v6_9 * v6_9)), (0, .long xo), (2, .long xt)]) hx hb dX5_commonDivisor_38 hl (k := 3) rfl (nI_1 i_9) (by decide) rfl (fun ls hl => ?_)
          refine lv_goto (tgt := 9) hx hb dX5_commonDivisor_41 (by decide) ?_
          exact ih_9 (i_9 + 1) (v4_9 - v4_9 / v6_9 * v6_9) v6_9 _ _ _ (by omega) (by omega) hP hD hS (lv_sub hl [0, 1, 2, 4, 5] rfl) (fun w_9 H locs ls he hP hD hS hl => kk w_9 H locs ls (hR.trans he) hP hD hS hl)
  refine hloop_9 (100 + 1) 0 xt xo _ _ _ (by omega) (by omega) hP hD hS (lv_sub hl [0, 1, 2, 3, 4] rfl) (fun w_9 H locs ls hw_9 hP hD hS hl => ?_)
  have hP : va_P δ vwCl ([] : va_W) H := hP
  have hD : va_D A ([] : va_W) := hD
  have hR := bnd_eq hR hw_9.symm
  refine lv_lload hx hb dX5_commonDivisor_44 (lv_at hl 1 rfl) ?_
  exact hret _ _ w_9.2 () _ _ hR hP hD hS dX5_commonDivisor_46

abbrev rm_X5_candlesOf : Room := { frames := 3, cells := 0, slots := 0, locals := 63 }
set_option maxHeartbeats 4000000 in
set_option maxRecDepth 100000 in
theorem c_X5_candlesOf (l : Launch) (δ : va_G) (cI cJ cZ : ClassId) (aG0 aK0 aK1 aK2 aK3 aK4 aK5 aE0 aF0 aP0 aD0 aM0 aC0 : Nat) (gg : GS) (k : KS) (xc : Int32) (xn : Int32) : mMi l δ (mTy cI cJ cZ) yX5_candlesOf wsX5_candlesOf rm_X5_candlesOf [.ref aG0, .int xc, .int xn] ((wG  aG0 aK0 aE0 aF0 aP0 aD0 aM0 aC0 gg) ++ (wK cI aK0 aK1 aK2 aK3 aK4 aK5 k)) (S := Unit) (fun r _ => F_X5_candlesOf k xc xn = r) (fun _ => ((wG  aG0 aK0 aE0 aF0 aP0 aD0 aM0 aC0 gg) ++ (wK cI aK0 aK1 aK2 aK3 aK4 aK5 k))) := by
  refine mk_i (cc := cX5_candlesOf) (maxL := 9) (by decide) rfl (Nat.le_of_ble_eq_true rfl) ?_
  intro p e s m args below meth c A Q ls H locs hx hb hml hts hown hK hNW hA hP hD hS hl hret
  have hown : s.vm.findClass RX5 = some m.cls := hown
  have hl : lv_has ls 9 [(0, .ref aG0), (1, .int xc), (2, .int xn)] := hl
  have hinX5 : ∀ w ∈ u_ws RX5 TX5 9, w ∈ wsX5_candlesOf := (fun _ h => List.mem_cons_of_mem _ (List.mem_append_left _ (List.mem_append_right _ (h))))
  have hR := F_X5_candlesOf.eq_1 k xc xn
  refine lv_iconst (v := (0 : Int32)) hx hb dX5_candlesOf_0 (by decide) ?_
  refine lv_istore_n (lv' := [(3, .int (0 : Int32)), (0, .ref aG0), (1, .int xc), (2, .int xn)]) hx hb dX5_candlesOf_1 rfl hl (by decide) rfl (fun ls hl => ?_)
  refine lv_iconst (v := (0 : Int32)) hx hb dX5_candlesOf_2 (by decide) ?_
  refine lv_istore (lv' := [(4, .int (0 : Int32)), (3, .int (0 : Int32)), (0, .ref aG0), (1, .int xc), (2, .int xn)]) hx hb dX5_candlesOf_3 hl (by decide) rfl (fun ls hl => ?_)
  have hloop_5 : ∀ (n_5 : Nat) (i_5 : Nat) (v3_5 : Int32) (H : Heap) (locs : List Loc) (ls : Array Slot), (hi_5 : i_5 ≤ 6) → (hn_5 : 6 < i_5 + n_5) → (hP : va_P δ vwCl ((wG  aG0 aK0 aE0 aF0 aP0 aD0 aM0 aC0 gg) ++ (wK cI aK0 aK1 aK2 aK3 aK4 aK5 k)) H) → (hD : va_D A ((wG  aG0 aK0 aE0 aF0 aP0 aD0 aM0 aC0 gg) ++ (wK cI aK0 aK1 aK2 aK3 aK4 aK5 k))) → (hS : va_S A s.heap H locs) → (hl : lv_has ls 9 [(4, .int (nI i_5)), (3, .int v3_5), (0, .ref aG0), (1, .int xc), (2, .int xn)]) → (kk : ∀ (w_5 : Int32) (H : Heap) (locs : List Loc) (ls : Array Slot), L_X5_candlesOf_5 k n_5 i_5 v3_5 = w_5 → va_P δ vwCl ((wG  aG0 aK0 aE0 aF0 aP0 aD0 aM0 aC0 gg) ++ (wK cI aK0 aK1 aK2 aK3 aK4 aK5 k)) H → va_D A ((wG  aG0 aK0 aE0 aF0 aP0 aD0 aM0 aC0 gg) ++ (wK cI aK0 aK1 aK2 aK3 aK4 aK5 k)) → va_S A s.heap H locs → lv_has ls 9 [(3, .int w_5), (0, .ref aG0), (1, .int xc), (2, .int xn)] → W p l e rm_X5_candlesOf s m args below meth c H locs 0 0 Q (F0 m 30 ls [])) → W p l e rm_X5_candlesOf s m args below meth c H locs 0 0 Q (F0 m 5 ls []) := by
    intro n_5
    induction n_5 with
    | zero => intro i_5 v3_5 H locs ls hi_5 hn_5 hP hD hS hl kk; exact absurd hn_5 (by omega)
    | succ n_5 ih_5 =>
      intro i_5 v3_5 H locs ls hi_5 hn_5 hP hD hS hl kk
      have hR := L_X5_candlesOf_5_s k n_5 i_5 v3_5
      refine lv_iload hx hb dX5_candlesOf_5 (lv_at hl 0 rfl) ?_
      refine lv_bipush (v := (6 : Int32)) hx hb dX5_candlesOf_7 (by decide) ?_
      refine lv_icmp_ge (tgt := 30) hx hb dX5_candlesOf_9 (by decide) (fun c_9 => ?_) (fun c_9 => ?_)
      · have c_9 : ((6 : Int32) ≤ (nI i_5)) := c_9
        have hR := hR.trans (if_pos c_9)
        exact kk v3_5 H locs ls hR hP hD hS (lv_sub hl [1, 2, 3, 4] rfl)
      · have c_9 : ¬ ((6 : Int32) ≤ (nI i_5)) := c_9
        have hR := hR.trans (if_neg c_9)
        have hlt_5 : i_5 < 6 := lt_g c_9 hi_5 (by decide)
        refine lv_iload_n hx hb dX5_candlesOf_12 rfl (lv_at hl 1 rfl) ?_
        refine lv_aload_n hx hb dX5_candlesOf_13 rfl (lv_at hl 2 rfl) ?_
        refine va_get (D := δ) (ci := 5) (v := .ref aK0) (C := RX5) (T := TX5) (N := 9) hx hb hts hinX5 hown hK hP 0 rfl rfl 0 (by decide) (hts (.fieldLink RX5 10 "GloveHours" "court" "LGloveHours$Court;") (List.mem_of_getElem? (i := 1) rfl)) (fun _ h9 => h9) rfl dX5_candlesOf_14 ?_
        refine lv_iload hx hb dX5_candlesOf_17 (lv_at hl 0 rfl) ?_
        have hr := mrV (p := p) (e := e) (R := rm_X5_candlesOf) (below := below) (meth := meth) (H := H) (locs := locs) (ls := ls) (As := [.int (nI i_5)]) (rest := [.int v3_5]) (c_X1_countPairs l δ cI cJ cZ aK0 aK1 aK2 aK3 aK4 aK5 k (nI i_5)) hx hb hml hts hown hK hNW hP hD [1, 2, 3, 4, 5, 6] rfl rfl 1 0 rfl rfl (cwV 1 hts gX5_candlesOf_X1_countPairs rfl rfl rfl (by decide +kernel) ⟨(Nat.le_of_ble_eq_true rfl), (Nat.le_of_ble_eq_true rfl)⟩) rfl hl.1 rfl (Nat.le_of_ble_eq_true rfl) dX5_candlesOf_19
        refine mc_i (wr := (wG  aG0 aK0 aE0 aF0 aP0 aD0 aM0 aC0 gg)) hr hP hD hS hA [1, 2, 3, 4, 5, 6] [0] [0, 1, 2, 3, 4, 5, 6] rfl rfl rfl rfl rfl (wn := fun _ => ((wG  aG0 aK0 aE0 aF0 aP0 aD0 aM0 aC0 gg) ++ (wK cI aK0 aK1 aK2 aK3 aK4 aK5 k))) (fun _ => rfl) (fun r_19 _ H locs hw_19 hP hD hS => ?_)
        have hP : va_P δ vwCl ((wG  aG0 aK0 aE0 aF0 aP0 aD0 aM0 aC0 gg) ++ (wK cI aK0 aK1 aK2 aK3 aK4 aK5 k)) H := hP
        have hD : va_D A ((wG  aG0 aK0 aE0 aF0 aP0 aD0 aM0 aC0 gg) ++ (wK cI aK0 aK1 aK2 aK3 aK4 aK5 k)) := hD
        have hR := bnd_eq hR hw_19.symm
        refine lv_iadd hx hb dX5_candlesOf_22 ?_
        refine lv_istore_n (lv' := [(3, .int (v3_5 + r_19)), (4, .int (nI i_5)), (0, .ref aG0), (1, .int xc), (2, .int xn)]) hx hb dX5_candlesOf_23 rfl hl (by decide) rfl (fun ls hl => ?_)
        refine lv_iinc (v := (nI (i_5 + 1))) (lv' := [(4, .int (nI (i_5 + 1))), (3, .int (v3_5 + r_19)), (0, .ref aG0), (1, .int xc), (2, .int xn)]) hx hb dX5_candlesOf_24 hl (k := 1) rfl (nI_1 i_5) (by decide) rfl (fun ls hl => ?_)
        refine lv_goto (tgt := 5) hx hb dX5_candlesOf_27 (by decide) ?_
        exact ih_5 (i_5 + 1) (v3_5 + r_19) _ _ _ (by omega) (by omega) hP hD hS (lv_sub hl [0, 1, 2, 3, 4] rfl) (fun w_5 H locs ls he hP hD hS hl => kk w_5 H locs ls (hR.trans he) hP hD hS hl)
  refine hloop_5 (6 + 1) 0 (0 : Int32) _ _ _ (by omega) (by omega) hP hD hS (lv_sub hl [0, 1, 2, 3, 4] rfl) (fun w_5 H locs ls hw_5 hP hD hS hl => ?_)
  have hP : va_P δ vwCl ((wG  aG0 aK0 aE0 aF0 aP0 aD0 aM0 aC0 gg) ++ (wK cI aK0 aK1 aK2 aK3 aK4 aK5 k)) H := hP
  have hD : va_D A ((wG  aG0 aK0 aE0 aF0 aP0 aD0 aM0 aC0 gg) ++ (wK cI aK0 aK1 aK2 aK3 aK4 aK5 k)) := hD
  have hR := bnd_eq hR hw_5.symm
  refine lv_iload_n hx hb dX5_candlesOf_30 rfl (lv_at hl 0 rfl) ?_
  refine lv_iconst (v := (1 : Int32)) hx hb dX5_candlesOf_31 (by decide) ?_
  refine lv_icmp_ge (tgt := 37) hx hb dX5_candlesOf_32 (by decide) (fun c_32 => ?_) (fun c_32 => ?_)
  · have c_32 : ((1 : Int32) ≤ w_5) := c_32
    have hR := hR.trans (if_pos c_32)
    refine lv_aload_n hx hb dX5_candlesOf_37 rfl (lv_at hl 1 rfl) ?_
    refine va_get (D := δ) (ci := 5) (v := .ref aK0) (C := RX5) (T := TX5) (N := 9) hx hb hts hinX5 hown hK hP 0 rfl rfl 0 (by decide) (hts (.fieldLink RX5 10 "GloveHours" "court" "LGloveHours$Court;") (List.mem_of_getElem? (i := 1) rfl)) (fun _ h9 => h9) rfl dX5_candlesOf_38 ?_
    refine lv_iload_n hx hb dX5_candlesOf_41 rfl (lv_at hl 2 rfl) ?_
    have hr := mrV (p := p) (e := e) (R := rm_X5_candlesOf) (below := below) (meth := meth) (H := H) (locs := locs) (ls := ls) (As := [.int xc]) (rest := []) (c_X1_countPairs l δ cI cJ cZ aK0 aK1 aK2 aK3 aK4 aK5 k xc) hx hb hml hts hown hK hNW hP hD [1, 2, 3, 4, 5, 6] rfl rfl 1 0 rfl rfl (cwV 1 hts gX5_candlesOf_X1_countPairs rfl rfl rfl (by decide +kernel) ⟨(Nat.le_of_ble_eq_true rfl), (Nat.le_of_ble_eq_true rfl)⟩) rfl hl.1 rfl (Nat.le_of_ble_eq_true rfl) dX5_candlesOf_42
    refine mc_i (wr := (wG  aG0 aK0 aE0 aF0 aP0 aD0 aM0 aC0 gg)) hr hP hD hS hA [1, 2, 3, 4, 5, 6] [0] [0, 1, 2, 3, 4, 5, 6] rfl rfl rfl rfl rfl (wn := fun _ => ((wG  aG0 aK0 aE0 aF0 aP0 aD0 aM0 aC0 gg) ++ (wK cI aK0 aK1 aK2 aK3 aK4 aK5 k))) (fun _ => rfl) (fun r_42 _ H locs hw_42 hP hD hS => ?_)
    have hP : va_P δ vwCl ((wG  aG0 aK0 aE0 aF0 aP0 aD0 aM0 aC0 gg) ++ (wK cI aK0 aK1 aK2 aK3 aK4 aK5 k)) H := hP
    have hD : va_D A ((wG  aG0 aK0 aE0 aF0 aP0 aD0 aM0 aC0 gg) ++ (wK cI aK0 aK1 aK2 aK3 aK4 aK5 k)) := hD
    have hR := bnd_eq hR hw_42.symm
    refine lv_istore (lv' := [(4, .int r_42), (3, .int w_5), (0, .ref aG0), (1, .int xc), (2, .int xn)]) hx hb dX5_candlesOf_45 hl (by decide) rfl (fun ls hl => ?_)
    refine lv_iload_n hx hb dX5_candlesOf_47 rfl (lv_at hl 4 rfl) ?_
    refine lv_istore (lv' := [(5, .int xn), (4, .int r_42), (3, .int w_5), (0, .ref aG0), (1, .int xc), (2, .int xn)]) hx hb dX5_candlesOf_48 hl (by decide) rfl (fun ls hl => ?_)
    refine lv_iconst (v := (0 : Int32)) hx hb dX5_candlesOf_50 (by decide) ?_
    refine lv_istore (lv' := [(6, .int (0 : Int32)), (5, .int xn), (4, .int r_42), (3, .int w_5), (0, .ref aG0), (1, .int xc), (2, .int xn)]) hx hb dX5_candlesOf_51 hl (by decide) rfl (fun ls hl => ?_)
    refine lv_iconst (v := (0 : Int32)) hx hb dX5_candlesOf_53 (by decide) ?_
    refine lv_istore (lv' := [(7, .int (0 : Int32)), (6, .int (0 : Int32)), (5, .int xn), (4, .int r_42), (3, .int w_5), (0, .ref aG0), (1, .int xc), (2, .int xn)]) hx hb dX5_candlesOf_54 hl (by decide) rfl (fun ls hl => ?_)
    have hloop_56 : ∀ (n_56 : Nat) (i_56 : Nat) (v6_56 : Int32) (v5_56 : Int32) (H : Heap) (locs : List Loc) (ls : Array Slot), (hi_56 : i_56 ≤ 6) → (hn_56 : 6 < i_56 + n_56) → (hP : va_P δ vwCl ((wG  aG0 aK0 aE0 aF0 aP0 aD0 aM0 aC0 gg) ++ (wK cI aK0 aK1 aK2 aK3 aK4 aK5 k)) H) → (hD : va_D A ((wG  aG0 aK0 aE0 aF0 aP0 aD0 aM0 aC0 gg) ++ (wK cI aK0 aK1 aK2 aK3 aK4 aK5 k))) → (hS : va_S A s.heap H locs) → (hl : lv_has ls 9 [(7, .int (nI i_56)), (6, .int v6_56), (5, .int v5_56), (4, .int r_42), (3, .int w_5), (0, .ref aG0), (1, .int xc), (2, .int xn)]) → (kk : ∀ (w_56 : Int32 × Int32) (H : Heap) (locs : List Loc) (ls : Array Slot), L_X5_candlesOf_56 k xc xn w_5 r_42 n_56 i_56 v6_56 v5_56 = w_56 → va_P δ vwCl ((wG  aG0 aK0 aE0 aF0 aP0 aD0 aM0 aC0 gg) ++ (wK cI aK0 aK1 aK2 aK3 aK4 aK5 k)) H → va_D A ((wG  aG0 aK0 aE0 aF0 aP0 aD0 aM0 aC0 gg) ++ (wK cI aK0 aK1 aK2 aK3 aK4 aK5 k)) → va_S A s.heap H locs → lv_has ls 9 [(6, .int w_56.1), (5, .int w_56.2), (4, .int r_42), (3, .int w_5), (0, .ref aG0), (1, .int xc), (2, .int xn)] → W p l e rm_X5_candlesOf s m args below meth c H locs 0 0 Q (F0 m 126 ls [])) → W p l e rm_X5_candlesOf s m args below meth c H locs 0 0 Q (F0 m 56 ls []) := by
      intro n_56
      induction n_56 with
      | zero => intro i_56 v6_56 v5_56 H locs ls hi_56 hn_56 hP hD hS hl kk; exact absurd hn_56 (by omega)
      | succ n_56 ih_56 =>
        intro i_56 v6_56 v5_56 H locs ls hi_56 hn_56 hP hD hS hl kk
        have hR := L_X5_candlesOf_56_s k xc xn w_5 r_42 n_56 i_56 v6_56 v5_56
        refine lv_iload hx hb dX5_candlesOf_56 (lv_at hl 0 rfl) ?_
        refine lv_bipush (v := (6 : Int32)) hx hb dX5_candlesOf_58 (by decide) ?_
        refine lv_icmp_ge (tgt := 126) hx hb dX5_candlesOf_60 (by decide) (fun c_60 => ?_) (fun c_60 => ?_)
        · have c_60 : ((6 : Int32) ≤ (nI i_56)) := c_60
          have hR := hR.trans (if_pos c_60)
          exact kk (v6_56, v5_56) H locs ls hR hP hD hS (lv_sub hl [1, 2, 3, 4, 5, 6, 7] rfl)
        · have c_60 : ¬ ((6 : Int32) ≤ (nI i_56)) := c_60
          have hR := hR.trans (if_neg c_60)
          have hlt_56 : i_56 < 6 := lt_g c_60 hi_56 (by decide)
          refine lv_aload_n hx hb dX5_candlesOf_63 rfl (lv_at hl 5 rfl) ?_
          refine va_get (D := δ) (ci := 5) (v := .ref aK0) (C := RX5) (T := TX5) (N := 9) hx hb hts hinX5 hown hK hP 0 rfl rfl 0 (by decide) (hts (.fieldLink RX5 10 "GloveHours" "court" "LGloveHours$Court;") (List.mem_of_getElem? (i := 1) rfl)) (fun _ h9 => h9) rfl dX5_candlesOf_64 ?_
          refine lv_iload hx hb dX5_candlesOf_67 (lv_at hl 0 rfl) ?_
          have hr := mrV (p := p) (e := e) (R := rm_X5_candlesOf) (below := below) (meth := meth) (H := H) (locs := locs) (ls := ls) (As := [.int (nI i_56)]) (rest := []) (c_X1_countPairs l δ cI cJ cZ aK0 aK1 aK2 aK3 aK4 aK5 k (nI i_56)) hx hb hml hts hown hK hNW hP hD [1, 2, 3, 4, 5, 6] rfl rfl 1 0 rfl rfl (cwV 1 hts gX5_candlesOf_X1_countPairs rfl rfl rfl (by decide +kernel) ⟨(Nat.le_of_ble_eq_true rfl), (Nat.le_of_ble_eq_true rfl)⟩) rfl hl.1 rfl (Nat.le_of_ble_eq_true rfl) dX5_candlesOf_69
          refine mc_i (wr := (wG  aG0 aK0 aE0 aF0 aP0 aD0 aM0 aC0 gg)) hr hP hD hS hA [1, 2, 3, 4, 5, 6] [0] [0, 1, 2, 3, 4, 5, 6] rfl rfl rfl rfl rfl (wn := fun _ => ((wG  aG0 aK0 aE0 aF0 aP0 aD0 aM0 aC0 gg) ++ (wK cI aK0 aK1 aK2 aK3 aK4 aK5 k))) (fun _ => rfl) (fun r_69 _ H locs hw_69 hP hD hS => ?_)
          have hP : va_P δ vwCl ((wG  aG0 aK0 aE0 aF0 aP0 aD0 aM0 aC0 gg) ++ (wK cI aK0 aK1 aK2 aK3 aK4 aK5 k)) H := hP
          have hD : va_D A ((wG  aG0 aK0 aE0 aF0 aP0 aD0 aM0 aC0 gg) ++ (wK cI aK0 aK1 aK2 aK3 aK4 aK5 k)) := hD
          have hR := bnd_eq hR hw_69.symm
          refine lv_istore (lv' := [(8, .int r_69), (7, .int (nI i_56)), (6, .int v6_56), (5, .int v5_56), (4, .int r_42), (3, .int w_5), (0, .ref aG0), (1, .int xc), (2, .int xn)]) hx hb dX5_candlesOf_72 hl (by decide) rfl (fun ls hl => ?_)
          refine lv_iload hx hb dX5_candlesOf_74 (lv_at hl 3 rfl) ?_
          refine lv_iload_n hx hb dX5_candlesOf_76 rfl (lv_at hl 8 rfl) ?_
          refine lv_iload hx hb dX5_candlesOf_77 (lv_at hl 0 rfl) ?_
          refine lv_imul hx hb dX5_candlesOf_79 ?_
          refine lv_iload_n hx hb dX5_candlesOf_80 rfl (lv_at hl 5 rfl) ?_
          refine lv_idiv hx hb dX5_candlesOf_81 (ne_1 c_32) ?_
          refine lv_isub hx hb dX5_candlesOf_82 ?_
          refine lv_istore (lv' := [(5, .int (v5_56 - ((xn * r_69) / w_5))), (8, .int r_69), (7, .int (nI i_56)), (6, .int v6_56), (4, .int r_42), (3, .int w_5), (0, .ref aG0), (1, .int xc), (2, .int xn)]) hx hb dX5_candlesOf_83 hl (by decide) rfl (fun ls hl => ?_)
          refine lv_aload_n hx hb dX5_candlesOf_85 rfl (lv_at hl 6 rfl) ?_
          refine va_get (D := δ) (ci := 5) (v := .ref aK0) (C := RX5) (T := TX5) (N := 9) hx hb hts hinX5 hown hK hP 0 rfl rfl 0 (by decide) (hts (.fieldLink RX5 10 "GloveHours" "court" "LGloveHours$Court;") (List.mem_of_getElem? (i := 1) rfl)) (fun _ h9 => h9) rfl dX5_candlesOf_86 ?_
          refine lv_iload hx hb dX5_candlesOf_89 (lv_at hl 2 rfl) ?_
          have hr := mrV (p := p) (e := e) (R := rm_X5_candlesOf) (below := below) (meth := meth) (H := H) (locs := locs) (ls := ls) (As := [.int (nI i_56)]) (rest := []) (c_X1_isThere l δ cI cJ cZ aK0 aK1 aK2 aK3 aK4 aK5 k (nI i_56)) hx hb hml hts hown hK hNW hP hD [1, 2, 3, 4, 5, 6] rfl rfl 1 0 rfl rfl (cwV 1 hts gX5_candlesOf_X1_isThere rfl rfl rfl (by decide +kernel) ⟨(Nat.le_of_ble_eq_true rfl), (Nat.le_of_ble_eq_true rfl)⟩) rfl hl.1 rfl (Nat.le_of_ble_eq_true rfl) dX5_candlesOf_91
          refine mc_i (wr := (wG  aG0 aK0 aE0 aF0 aP0 aD0 aM0 aC0 gg)) hr hP hD hS hA [1, 2, 3, 4, 5, 6] [0] [0, 1, 2, 3, 4, 5, 6] rfl rfl rfl rfl rfl (wn := fun _ => ((wG  aG0 aK0 aE0 aF0 aP0 aD0 aM0 aC0 gg) ++ (wK cI aK0 aK1 aK2 aK3 aK4 aK5 k))) (fun _ => rfl) (fun r_91 _ H locs hw_91 hP hD hS => ?_)
          obtain ⟨hw_91, z_91⟩ := hw_91
          have hP : va_P δ vwCl ((wG  aG0 aK0 aE0 aF0 aP0 aD0 aM0 aC0 gg) ++ (wK cI aK0 aK1 aK2 aK3 aK4 aK5 k)) H := hP
          have hD : va_D A ((wG  aG0 aK0 aE0 aF0 aP0 aD0 aM0 aC0 gg) ++ (wK cI aK0 aK1 aK2 aK3 aK4 aK5 k)) := hD
          have hR := bnd_eq hR hw_91.symm
          refine lv_if_eq (tgt := 120) hx hb dX5_candlesOf_94 (by decide) (fun c_94 => ?_) (fun c_94 => ?_)
          · have c_94 : (r_91 = 0) := c_94
            have hR := hR.trans (if_pos c_94)
            refine lv_iinc (v := (nI (i_56 + 1))) (lv' := [(7, .int (nI (i_56 + 1))), (5, .int (v5_56 - ((xn * r_69) / w_5))), (8, .int r_69), (6, .int v6_56), (4, .int r_42), (3, .int w_5), (0, .ref aG0), (1, .int xc), (2, .int xn)]) hx hb dX5_candlesOf_120 hl (k := 2) rfl (nI_1 i_56) (by decide) rfl (fun ls hl => ?_)
            refine lv_goto (tgt := 56) hx hb dX5_candlesOf_123 (by decide) ?_
            exact ih_56 (i_56 + 1) v6_56 (v5_56 - ((xn * r_69) / w_5)) _ _ _ (by omega) (by omega) hP hD hS (lv_sub hl [0, 3, 1, 4, 5, 6, 7, 8] rfl) (fun w_56 H locs ls he hP hD hS hl => kk w_56 H locs ls (hR.trans he) hP hD hS hl)
          · have c_94 : ¬ (r_91 = 0) := c_94
            have hR := hR.trans (if_neg c_94)
            refine lv_iload hx hb dX5_candlesOf_97 (lv_at hl 1 rfl) ?_
            refine lv_iload hx hb dX5_candlesOf_99 (lv_at hl 4 rfl) ?_
            refine lv_icmp_lt (tgt := 117) hx hb dX5_candlesOf_101 (by decide) (fun c_101 => ?_) (fun c_101 => ?_)
            · have c_101 : (r_69 < r_42) := c_101
              have hR := hR.trans (if_pos c_101)
              refine lv_iinc (v := (v6_56 + (1 : Int32))) (lv' := [(6, .int (v6_56 + (1 : Int32))), (5, .int (v5_56 - ((xn * r_69) / w_5))), (8, .int r_69), (7, .int (nI i_56)), (4, .int r_42), (3, .int w_5), (0, .ref aG0), (1, .int xc), (2, .int xn)]) hx hb dX5_candlesOf_117 hl (k := 3) rfl rfl (by decide) rfl (fun ls hl => ?_)
              refine lv_iinc (v := (nI (i_56 + 1))) (lv' := [(7, .int (nI (i_56 + 1))), (6, .int (v6_56 + (1 : Int32))), (5, .int (v5_56 - ((xn * r_69) / w_5))), (8, .int r_69), (4, .int r_42), (3, .int w_5), (0, .ref aG0), (1, .int xc), (2, .int xn)]) hx hb dX5_candlesOf_120 hl (k := 3) rfl (nI_1 i_56) (by decide) rfl (fun ls hl => ?_)
              refine lv_goto (tgt := 56) hx hb dX5_candlesOf_123 (by decide) ?_
              exact ih_56 (i_56 + 1) (v6_56 + (1 : Int32)) (v5_56 - ((xn * r_69) / w_5)) _ _ _ (by omega) (by omega) hP hD hS (lv_sub hl [0, 1, 2, 4, 5, 6, 7, 8] rfl) (fun w_56 H locs ls he hP hD hS hl => kk w_56 H locs ls (hR.trans he) hP hD hS hl)
            · have c_101 : ¬ (r_69 < r_42) := c_101
              have hR := hR.trans (if_neg c_101)
              refine lv_iload hx hb dX5_candlesOf_104 (lv_at hl 1 rfl) ?_
              refine lv_iload hx hb dX5_candlesOf_106 (lv_at hl 4 rfl) ?_
              refine lv_icmp_ne (tgt := 120) hx hb dX5_candlesOf_108 (by decide) (fun c_108 => ?_) (fun c_108 => ?_)
              · have c_108 : ¬ (r_69 = r_42) := c_108
                have hR := hR.trans (if_neg c_108)
                refine lv_iinc (v := (nI (i_56 + 1))) (lv' := [(7, .int (nI (i_56 + 1))), (5, .int (v5_56 - ((xn * r_69) / w_5))), (8, .int r_69), (6, .int v6_56), (4, .int r_42), (3, .int w_5), (0, .ref aG0), (1, .int xc), (2, .int xn)]) hx hb dX5_candlesOf_120 hl (k := 2) rfl (nI_1 i_56) (by decide) rfl (fun ls hl => ?_)
                refine lv_goto (tgt := 56) hx hb dX5_candlesOf_123 (by decide) ?_
                exact ih_56 (i_56 + 1) v6_56 (v5_56 - ((xn * r_69) / w_5)) _ _ _ (by omega) (by omega) hP hD hS (lv_sub hl [0, 3, 1, 4, 5, 6, 7, 8] rfl) (fun w_56 H locs ls he hP hD hS hl => kk w_56 H locs ls (hR.trans he) hP hD hS hl)
              · have c_108 : (r_69 = r_42) := c_108
                have hR := hR.trans (if_pos c_108)
                refine lv_iload hx hb dX5_candlesOf_111 (lv_at hl 2 rfl) ?_
                refine lv_iload_n hx hb dX5_candlesOf_113 rfl (lv_at hl 7 rfl) ?_
                refine lv_icmp_ge (tgt := 120) hx hb dX5_candlesOf_114 (by decide) (fun c_114 => ?_) (fun c_114 => ?_)
                · have c_114 : (xc ≤ (nI i_56)) := c_114
                  have hR := hR.trans (if_pos c_114)
                  refine lv_iinc (v := (nI (i_56 + 1))) (lv' := [(7, .int (nI (i_56 + 1))), (5, .int (v5_56 - ((xn * r_69) / w_5))), (8, .int r_69), (6, .int v6_56), (4, .int r_42), (3, .int w_5), (0, .ref aG0), (1, .int xc), (2, .int xn)]) hx hb dX5_candlesOf_120 hl (k := 2) rfl (nI_1 i_56) (by decide) rfl (fun ls hl => ?_)
                  refine lv_goto (tgt := 56) hx hb dX5_candlesOf_123 (by decide) ?_
                  exact ih_56 (i_56 + 1) v6_56 (v5_56 - ((xn * r_69) / w_5)) _ _ _ (by omega) (by omega) hP hD hS (lv_sub hl [0, 3, 1, 4, 5, 6, 7, 8] rfl) (fun w_56 H locs ls he hP hD hS hl => kk w_56 H locs ls (hR.trans he) hP hD hS hl)
                · have c_114 : ¬ (xc ≤ (nI i_56)) := c_114
                  have hR := hR.trans (if_neg c_114)
                  refine lv_iinc (v := (v6_56 + (1 : Int32))) (lv' := [(6, .int (v6_56 + (1 : Int32))), (5, .int (v5_56 - ((xn * r_69) / w_5))), (8, .int r_69), (7, .int (nI i_56)), (4, .int r_42), (3, .int w_5), (0, .ref aG0), (1, .int xc), (2, .int xn)]) hx hb dX5_candlesOf_117 hl (k := 3) rfl rfl (by decide) rfl (fun ls hl => ?_)
                  refine lv_iinc (v := (nI (i_56 + 1))) (lv' := [(7, .int (nI (i_56 + 1))), (6, .int (v6_56 + (1 : Int32))), (5, .int (v5_56 - ((xn * r_69) / w_5))), (8, .int r_69), (4, .int r_42), (3, .int w_5), (0, .ref aG0), (1, .int xc), (2, .int xn)]) hx hb dX5_candlesOf_120 hl (k := 3) rfl (nI_1 i_56) (by decide) rfl (fun ls hl => ?_)
                  refine lv_goto (tgt := 56) hx hb dX5_candlesOf_123 (by decide) ?_
                  exact ih_56 (i_56 + 1) (v6_56 + (1 : Int32)) (v5_56 - ((xn * r_69) / w_5)) _ _ _ (by omega) (by omega) hP hD hS (lv_sub hl [0, 1, 2, 4, 5, 6, 7, 8] rfl) (fun w_56 H locs ls he hP hD hS hl => kk w_56 H locs ls (hR.trans he) hP hD hS hl)
    refine hloop_56 (6 + 1) 0 (0 : Int32) xn _ _ _ (by omega) (by omega) hP hD hS (lv_sub hl [0, 1, 2, 3, 4, 5, 6, 7] rfl) (fun w_56 H locs ls hw_56 hP hD hS hl => ?_)
    have hP : va_P δ vwCl ((wG  aG0 aK0 aE0 aF0 aP0 aD0 aM0 aC0 gg) ++ (wK cI aK0 aK1 aK2 aK3 aK4 aK5 k)) H := hP
    have hD : va_D A ((wG  aG0 aK0 aE0 aF0 aP0 aD0 aM0 aC0 gg) ++ (wK cI aK0 aK1 aK2 aK3 aK4 aK5 k)) := hD
    have hR := bnd_eq hR hw_56.symm
    refine lv_iload_n hx hb dX5_candlesOf_126 rfl (lv_at hl 6 rfl) ?_
    refine lv_iload hx hb dX5_candlesOf_127 (lv_at hl 2 rfl) ?_
    refine lv_imul hx hb dX5_candlesOf_129 ?_
    refine lv_iload_n hx hb dX5_candlesOf_130 rfl (lv_at hl 3 rfl) ?_
    refine lv_idiv hx hb dX5_candlesOf_131 (ne_1 c_32) ?_
    refine lv_istore (lv' := [(7, .int ((xn * r_42) / w_5)), (6, .int w_56.1), (5, .int w_56.2), (4, .int r_42), (3, .int w_5), (0, .ref aG0), (1, .int xc), (2, .int xn)]) hx hb dX5_candlesOf_132 hl (by decide) rfl (fun ls hl => ?_)
    refine lv_iload hx hb dX5_candlesOf_134 (lv_at hl 1 rfl) ?_
    refine lv_iload hx hb dX5_candlesOf_136 (lv_at hl 2 rfl) ?_
    refine lv_icmp_ge (tgt := 148) hx hb dX5_candlesOf_138 (by decide) (fun c_138 => ?_) (fun c_138 => ?_)
    · have c_138 : (w_56.2 ≤ w_56.1) := c_138
      have hR := hR.trans (if_pos c_138)
      refine lv_iload hx hb dX5_candlesOf_148 (lv_at hl 0 rfl) ?_
      exact hret _ _ ((xn * r_42) / w_5) () _ _ hR hP hD hS dX5_candlesOf_150
    · have c_138 : ¬ (w_56.2 ≤ w_56.1) := c_138
      have hR := hR.trans (if_neg c_138)
      refine lv_iload hx hb dX5_candlesOf_141 (lv_at hl 0 rfl) ?_
      refine lv_iconst (v := (1 : Int32)) hx hb dX5_candlesOf_143 (by decide) ?_
      refine lv_iadd hx hb dX5_candlesOf_144 ?_
      refine lv_goto (tgt := 150) hx hb dX5_candlesOf_145 (by decide) ?_
      exact hret _ _ (((xn * r_42) / w_5) + (1 : Int32)) () _ _ hR hP hD hS dX5_candlesOf_150
  · have c_32 : ¬ ((1 : Int32) ≤ w_5) := c_32
    have hR := hR.trans (if_neg c_32)
    refine lv_iconst (v := (0 : Int32)) hx hb dX5_candlesOf_35 (by decide) ?_
    exact hret _ _ (0 : Int32) () _ _ hR hP hD hS dX5_candlesOf_36

abbrev rm_X5_toldOfCourtier : Room := { frames := 2, cells := 0, slots := 0, locals := 44 }
set_option maxHeartbeats 4000000 in
set_option maxRecDepth 100000 in
theorem c_X5_toldOfCourtier (l : Launch) (δ : va_G) (cI cJ cZ : ClassId) (aG0 aK0 aK1 aK2 aK3 aK4 aK5 aE0 aF0 aP0 aD0 aM0 aC0 : Nat) (gg : GS) (k : KS) (xw : Int32) : mMi l δ (mTy cI cJ cZ) yX5_toldOfCourtier wsX5_toldOfCourtier rm_X5_toldOfCourtier [.ref aG0, .int xw] ((wG  aG0 aK0 aE0 aF0 aP0 aD0 aM0 aC0 gg) ++ (wK cI aK0 aK1 aK2 aK3 aK4 aK5 k)) (S := Unit) (fun r _ => F_X5_toldOfCourtier k xw = r) (fun _ => ((wG  aG0 aK0 aE0 aF0 aP0 aD0 aM0 aC0 gg) ++ (wK cI aK0 aK1 aK2 aK3 aK4 aK5 k))) := by
  refine mk_i (cc := cX5_toldOfCourtier) (maxL := 4) (by decide) rfl (Nat.le_of_ble_eq_true rfl) ?_
  intro p e s m args below meth c A Q ls H locs hx hb hml hts hown hK hNW hA hP hD hS hl hret
  have hown : s.vm.findClass RX5 = some m.cls := hown
  have hl : lv_has ls 4 [(0, .ref aG0), (1, .int xw)] := hl
  have hinX5 : ∀ w ∈ u_ws RX5 TX5 9, w ∈ wsX5_toldOfCourtier := (fun _ h => List.mem_cons_of_mem _ (List.mem_append_left _ (List.mem_append_right _ (h))))
  have hR := F_X5_toldOfCourtier.eq_1 k xw
  refine lv_iload_n hx hb dX5_toldOfCourtier_0 rfl (lv_at hl 1 rfl) ?_
  refine lv_bipush (v := (10 : Int32)) hx hb dX5_toldOfCourtier_1 (by decide) ?_
  refine lv_idiv hx hb dX5_toldOfCourtier_3 (by decide) ?_
  refine lv_iconst (v := (1 : Int32)) hx hb dX5_toldOfCourtier_4 (by decide) ?_
  refine lv_isub hx hb dX5_toldOfCourtier_5 ?_
  refine lv_istore_n (lv' := [(2, .int ((xw / (10 : Int32)) - (1 : Int32))), (0, .ref aG0), (1, .int xw)]) hx hb dX5_toldOfCourtier_6 rfl hl (by decide) rfl (fun ls hl => ?_)
  refine lv_aload_n hx hb dX5_toldOfCourtier_7 rfl (lv_at hl 1 rfl) ?_
  refine va_get (D := δ) (ci := 5) (v := .ref aK0) (C := RX5) (T := TX5) (N := 9) hx hb hts hinX5 hown hK hP 0 rfl rfl 0 (by decide) (hts (.fieldLink RX5 10 "GloveHours" "court" "LGloveHours$Court;") (List.mem_of_getElem? (i := 1) rfl)) (fun _ h9 => h9) rfl dX5_toldOfCourtier_8 ?_
  refine lv_iload_n hx hb dX5_toldOfCourtier_11 rfl (lv_at hl 0 rfl) ?_
  have hr := mrV (p := p) (e := e) (R := rm_X5_toldOfCourtier) (below := below) (meth := meth) (H := H) (locs := locs) (ls := ls) (As := [.int ((xw / (10 : Int32)) - (1 : Int32))]) (rest := []) (c_X1_isThere l δ cI cJ cZ aK0 aK1 aK2 aK3 aK4 aK5 k ((xw / (10 : Int32)) - (1 : Int32))) hx hb hml hts hown hK hNW hP hD [1, 2, 3, 4, 5, 6] rfl rfl 1 0 rfl rfl (cwV 1 hts gX5_toldOfCourtier_X1_isThere rfl rfl rfl (by decide +kernel) ⟨(Nat.le_of_ble_eq_true rfl), (Nat.le_of_ble_eq_true rfl)⟩) rfl hl.1 rfl (Nat.le_of_ble_eq_true rfl) dX5_toldOfCourtier_12
  refine mc_i (wr := (wG  aG0 aK0 aE0 aF0 aP0 aD0 aM0 aC0 gg)) hr hP hD hS hA [1, 2, 3, 4, 5, 6] [0] [0, 1, 2, 3, 4, 5, 6] rfl rfl rfl rfl rfl (wn := fun _ => ((wG  aG0 aK0 aE0 aF0 aP0 aD0 aM0 aC0 gg) ++ (wK cI aK0 aK1 aK2 aK3 aK4 aK5 k))) (fun _ => rfl) (fun r_12 _ H locs hw_12 hP hD hS => ?_)
  obtain ⟨hw_12, z_12⟩ := hw_12
  have hP : va_P δ vwCl ((wG  aG0 aK0 aE0 aF0 aP0 aD0 aM0 aC0 gg) ++ (wK cI aK0 aK1 aK2 aK3 aK4 aK5 k)) H := hP
  have hD : va_D A ((wG  aG0 aK0 aE0 aF0 aP0 aD0 aM0 aC0 gg) ++ (wK cI aK0 aK1 aK2 aK3 aK4 aK5 k)) := hD
  have hR := bnd_eq hR hw_12.symm
  refine lv_if_eq (tgt := 43) hx hb dX5_toldOfCourtier_15 (by decide) (fun c_15 => ?_) (fun c_15 => ?_)
  · have c_15 : (r_12 = 0) := c_15
    have hR := hR.trans (if_pos c_15)
    refine lv_iload_n hx hb dX5_toldOfCourtier_43 rfl (lv_at hl 2 rfl) ?_
    refine lv_bipush (v := (100 : Int32)) hx hb dX5_toldOfCourtier_44 (by decide) ?_
    refine lv_idiv hx hb dX5_toldOfCourtier_46 (by decide) ?_
    refine lv_iconst (v := (1 : Int32)) hx hb dX5_toldOfCourtier_47 (by decide) ?_
    refine lv_isub hx hb dX5_toldOfCourtier_48 ?_
    refine lv_istore_n (lv' := [(3, .int ((xw / (100 : Int32)) - (1 : Int32))), (2, .int ((xw / (10 : Int32)) - (1 : Int32))), (0, .ref aG0), (1, .int xw)]) hx hb dX5_toldOfCourtier_49 rfl hl (by decide) rfl (fun ls hl => ?_)
    refine lv_aload_n hx hb dX5_toldOfCourtier_50 rfl (lv_at hl 2 rfl) ?_
    refine va_get (D := δ) (ci := 5) (v := .ref aK0) (C := RX5) (T := TX5) (N := 9) hx hb hts hinX5 hown hK hP 0 rfl rfl 0 (by decide) (hts (.fieldLink RX5 10 "GloveHours" "court" "LGloveHours$Court;") (List.mem_of_getElem? (i := 1) rfl)) (fun _ h9 => h9) rfl dX5_toldOfCourtier_51 ?_
    refine lv_iload_n hx hb dX5_toldOfCourtier_54 rfl (lv_at hl 0 rfl) ?_
    have hr := mrV (p := p) (e := e) (R := rm_X5_toldOfCourtier) (below := below) (meth := meth) (H := H) (locs := locs) (ls := ls) (As := [.int ((xw / (100 : Int32)) - (1 : Int32))]) (rest := []) (c_X1_isThere l δ cI cJ cZ aK0 aK1 aK2 aK3 aK4 aK5 k ((xw / (100 : Int32)) - (1 : Int32))) hx hb hml hts hown hK hNW hP hD [1, 2, 3, 4, 5, 6] rfl rfl 1 0 rfl rfl (cwV 1 hts gX5_toldOfCourtier_X1_isThere rfl rfl rfl (by decide +kernel) ⟨(Nat.le_of_ble_eq_true rfl), (Nat.le_of_ble_eq_true rfl)⟩) rfl hl.1 rfl (Nat.le_of_ble_eq_true rfl) dX5_toldOfCourtier_55
    refine mc_i (wr := (wG  aG0 aK0 aE0 aF0 aP0 aD0 aM0 aC0 gg)) hr hP hD hS hA [1, 2, 3, 4, 5, 6] [0] [0, 1, 2, 3, 4, 5, 6] rfl rfl rfl rfl rfl (wn := fun _ => ((wG  aG0 aK0 aE0 aF0 aP0 aD0 aM0 aC0 gg) ++ (wK cI aK0 aK1 aK2 aK3 aK4 aK5 k))) (fun _ => rfl) (fun r_55 _ H locs hw_55 hP hD hS => ?_)
    obtain ⟨hw_55, z_55⟩ := hw_55
    have hP : va_P δ vwCl ((wG  aG0 aK0 aE0 aF0 aP0 aD0 aM0 aC0 gg) ++ (wK cI aK0 aK1 aK2 aK3 aK4 aK5 k)) H := hP
    have hD : va_D A ((wG  aG0 aK0 aE0 aF0 aP0 aD0 aM0 aC0 gg) ++ (wK cI aK0 aK1 aK2 aK3 aK4 aK5 k)) := hD
    have hR := bnd_eq hR hw_55.symm
    refine lv_if_eq (tgt := 87) hx hb dX5_toldOfCourtier_58 (by decide) (fun c_58 => ?_) (fun c_58 => ?_)
    · have c_58 : (r_55 = 0) := c_58
      have hR := hR.trans (if_pos c_58)
      refine lv_bipush (v := (-2 : Int32)) hx hb dX5_toldOfCourtier_87 (by decide) ?_
      exact hret _ _ (-2 : Int32) () _ _ hR hP hD hS dX5_toldOfCourtier_89
    · have c_58 : ¬ (r_55 = 0) := c_58
      have hR := hR.trans (if_neg c_58)
      refine lv_iload_n hx hb dX5_toldOfCourtier_61 rfl (lv_at hl 3 rfl) ?_
      refine lv_bipush (v := (100 : Int32)) hx hb dX5_toldOfCourtier_62 (by decide) ?_
      refine lv_irem hx hb dX5_toldOfCourtier_64 (by decide) ?_
      refine lv_iconst (v := (0 : Int32)) hx hb dX5_toldOfCourtier_65 (by decide) ?_
      refine lv_bipush (v := (23 : Int32)) hx hb dX5_toldOfCourtier_66 (by decide) ?_
      have hr := mrS (p := p) (e := e) (R := rm_X5_toldOfCourtier) (below := below) (meth := meth) (H := H) (locs := locs) (ls := ls) (As := [.int (xw - xw / (100 : Int32) * (100 : Int32)), .int (0 : Int32), .int (23 : Int32)]) (rest := []) (c_X5_isWithin l δ cI cJ cZ (xw - xw / (100 : Int32) * (100 : Int32)) (0 : Int32) (23 : Int32)) hx hb hml hts hown hK hNW hP hD [] rfl rfl (va_cwS 3 hts gX5_toldOfCourtier_X5_isWithin rfl rfl rfl (by decide +kernel) ⟨(Nat.le_of_ble_eq_true rfl), (Nat.le_of_ble_eq_true rfl)⟩) rfl hl.1 rfl (Nat.le_of_ble_eq_true rfl) dX5_toldOfCourtier_68
      refine mc_i (wr := ((wG  aG0 aK0 aE0 aF0 aP0 aD0 aM0 aC0 gg) ++ (wK cI aK0 aK1 aK2 aK3 aK4 aK5 k))) hr hP hD hS hA [] [0, 1, 2, 3, 4, 5, 6] [0, 1, 2, 3, 4, 5, 6] rfl rfl rfl rfl rfl (wn := fun _ => ((wG  aG0 aK0 aE0 aF0 aP0 aD0 aM0 aC0 gg) ++ (wK cI aK0 aK1 aK2 aK3 aK4 aK5 k))) (fun _ => rfl) (fun r_68 _ H locs hw_68 hP hD hS => ?_)
      obtain ⟨hw_68, z_68⟩ := hw_68
      have hP : va_P δ vwCl ((wG  aG0 aK0 aE0 aF0 aP0 aD0 aM0 aC0 gg) ++ (wK cI aK0 aK1 aK2 aK3 aK4 aK5 k)) H := hP
      have hD : va_D A ((wG  aG0 aK0 aE0 aF0 aP0 aD0 aM0 aC0 gg) ++ (wK cI aK0 aK1 aK2 aK3 aK4 aK5 k)) := hD
      have hR := bnd_eq hR hw_68.symm
      refine lv_if_eq (tgt := 87) hx hb dX5_toldOfCourtier_71 (by decide) (fun c_71 => ?_) (fun c_71 => ?_)
      · have c_71 : (r_68 = 0) := c_71
        have hR := hR.trans (if_pos c_71)
        refine lv_bipush (v := (-2 : Int32)) hx hb dX5_toldOfCourtier_87 (by decide) ?_
        exact hret _ _ (-2 : Int32) () _ _ hR hP hD hS dX5_toldOfCourtier_89
      · have c_71 : ¬ (r_68 = 0) := c_71
        have hR := hR.trans (if_neg c_71)
        refine lv_aload_n hx hb dX5_toldOfCourtier_74 rfl (lv_at hl 2 rfl) ?_
        refine va_get (D := δ) (ci := 5) (v := .ref aK0) (C := RX5) (T := TX5) (N := 9) hx hb hts hinX5 hown hK hP 0 rfl rfl 0 (by decide) (hts (.fieldLink RX5 10 "GloveHours" "court" "LGloveHours$Court;") (List.mem_of_getElem? (i := 1) rfl)) (fun _ h9 => h9) rfl dX5_toldOfCourtier_75 ?_
        refine lv_iload_n hx hb dX5_toldOfCourtier_78 rfl (lv_at hl 0 rfl) ?_
        refine lv_iload_n hx hb dX5_toldOfCourtier_79 rfl (lv_at hl 3 rfl) ?_
        refine lv_bipush (v := (100 : Int32)) hx hb dX5_toldOfCourtier_80 (by decide) ?_
        refine lv_irem hx hb dX5_toldOfCourtier_82 (by decide) ?_
        have hr := mrV (p := p) (e := e) (R := rm_X5_toldOfCourtier) (below := below) (meth := meth) (H := H) (locs := locs) (ls := ls) (As := [.int ((xw / (100 : Int32)) - (1 : Int32)), .int (xw - xw / (100 : Int32) * (100 : Int32))]) (rest := []) (c_X1_wearOf l δ cI cJ cZ aK0 aK1 aK2 aK3 aK4 aK5 k ((xw / (100 : Int32)) - (1 : Int32)) (xw - xw / (100 : Int32) * (100 : Int32))) hx hb hml hts hown hK hNW hP hD [1, 2, 3, 4, 5, 6] rfl rfl 1 0 rfl rfl (cwV 2 hts gX5_toldOfCourtier_X1_wearOf rfl rfl rfl (by decide +kernel) ⟨(Nat.le_of_ble_eq_true rfl), (Nat.le_of_ble_eq_true rfl)⟩) rfl hl.1 rfl (Nat.le_of_ble_eq_true rfl) dX5_toldOfCourtier_83
        refine mc_i (wr := (wG  aG0 aK0 aE0 aF0 aP0 aD0 aM0 aC0 gg)) hr hP hD hS hA [1, 2, 3, 4, 5, 6] [0] [0, 1, 2, 3, 4, 5, 6] rfl rfl rfl rfl rfl (wn := fun _ => ((wG  aG0 aK0 aE0 aF0 aP0 aD0 aM0 aC0 gg) ++ (wK cI aK0 aK1 aK2 aK3 aK4 aK5 k))) (fun _ => rfl) (fun r_83 _ H locs hw_83 hP hD hS => ?_)
        have hP : va_P δ vwCl ((wG  aG0 aK0 aE0 aF0 aP0 aD0 aM0 aC0 gg) ++ (wK cI aK0 aK1 aK2 aK3 aK4 aK5 k)) H := hP
        have hD : va_D A ((wG  aG0 aK0 aE0 aF0 aP0 aD0 aM0 aC0 gg) ++ (wK cI aK0 aK1 aK2 aK3 aK4 aK5 k)) := hD
        have hR := bnd_eq hR hw_83.symm
        exact hret _ _ r_83 () _ _ hR hP hD hS dX5_toldOfCourtier_86
  · have c_15 : ¬ (r_12 = 0) := c_15
    have hR := hR.trans (if_neg c_15)
    refine lv_iload_n hx hb dX5_toldOfCourtier_18 rfl (lv_at hl 2 rfl) ?_
    refine lv_bipush (v := (10 : Int32)) hx hb dX5_toldOfCourtier_19 (by decide) ?_
    refine lv_irem hx hb dX5_toldOfCourtier_21 (by decide) ?_
    refine lv_iconst (v := (0 : Int32)) hx hb dX5_toldOfCourtier_22 (by decide) ?_
    refine lv_iconst (v := (2 : Int32)) hx hb dX5_toldOfCourtier_23 (by decide) ?_
    have hr := mrS (p := p) (e := e) (R := rm_X5_toldOfCourtier) (below := below) (meth := meth) (H := H) (locs := locs) (ls := ls) (As := [.int (xw - xw / (10 : Int32) * (10 : Int32)), .int (0 : Int32), .int (2 : Int32)]) (rest := []) (c_X5_isWithin l δ cI cJ cZ (xw - xw / (10 : Int32) * (10 : Int32)) (0 : Int32) (2 : Int32)) hx hb hml hts hown hK hNW hP hD [] rfl rfl (va_cwS 3 hts gX5_toldOfCourtier_X5_isWithin rfl rfl rfl (by decide +kernel) ⟨(Nat.le_of_ble_eq_true rfl), (Nat.le_of_ble_eq_true rfl)⟩) rfl hl.1 rfl (Nat.le_of_ble_eq_true rfl) dX5_toldOfCourtier_24
    refine mc_i (wr := ((wG  aG0 aK0 aE0 aF0 aP0 aD0 aM0 aC0 gg) ++ (wK cI aK0 aK1 aK2 aK3 aK4 aK5 k))) hr hP hD hS hA [] [0, 1, 2, 3, 4, 5, 6] [0, 1, 2, 3, 4, 5, 6] rfl rfl rfl rfl rfl (wn := fun _ => ((wG  aG0 aK0 aE0 aF0 aP0 aD0 aM0 aC0 gg) ++ (wK cI aK0 aK1 aK2 aK3 aK4 aK5 k))) (fun _ => rfl) (fun r_24 _ H locs hw_24 hP hD hS => ?_)
    obtain ⟨hw_24, z_24⟩ := hw_24
    have hP : va_P δ vwCl ((wG  aG0 aK0 aE0 aF0 aP0 aD0 aM0 aC0 gg) ++ (wK cI aK0 aK1 aK2 aK3 aK4 aK5 k)) H := hP
    have hD : va_D A ((wG  aG0 aK0 aE0 aF0 aP0 aD0 aM0 aC0 gg) ++ (wK cI aK0 aK1 aK2 aK3 aK4 aK5 k)) := hD
    have hR := bnd_eq hR hw_24.symm
    refine lv_if_eq (tgt := 43) hx hb dX5_toldOfCourtier_27 (by decide) (fun c_27 => ?_) (fun c_27 => ?_)
    · have c_27 : (r_24 = 0) := c_27
      have hR := hR.trans (if_pos c_27)
      refine lv_iload_n hx hb dX5_toldOfCourtier_43 rfl (lv_at hl 2 rfl) ?_
      refine lv_bipush (v := (100 : Int32)) hx hb dX5_toldOfCourtier_44 (by decide) ?_
      refine lv_idiv hx hb dX5_toldOfCourtier_46 (by decide) ?_
      refine lv_iconst (v := (1 : Int32)) hx hb dX5_toldOfCourtier_47 (by decide) ?_
      refine lv_isub hx hb dX5_toldOfCourtier_48 ?_
      refine lv_istore_n (lv' := [(3, .int ((xw / (100 : Int32)) - (1 : Int32))), (2, .int ((xw / (10 : Int32)) - (1 : Int32))), (0, .ref aG0), (1, .int xw)]) hx hb dX5_toldOfCourtier_49 rfl hl (by decide) rfl (fun ls hl => ?_)
      refine lv_aload_n hx hb dX5_toldOfCourtier_50 rfl (lv_at hl 2 rfl) ?_
      refine va_get (D := δ) (ci := 5) (v := .ref aK0) (C := RX5) (T := TX5) (N := 9) hx hb hts hinX5 hown hK hP 0 rfl rfl 0 (by decide) (hts (.fieldLink RX5 10 "GloveHours" "court" "LGloveHours$Court;") (List.mem_of_getElem? (i := 1) rfl)) (fun _ h9 => h9) rfl dX5_toldOfCourtier_51 ?_
      refine lv_iload_n hx hb dX5_toldOfCourtier_54 rfl (lv_at hl 0 rfl) ?_
      have hr := mrV (p := p) (e := e) (R := rm_X5_toldOfCourtier) (below := below) (meth := meth) (H := H) (locs := locs) (ls := ls) (As := [.int ((xw / (100 : Int32)) - (1 : Int32))]) (rest := []) (c_X1_isThere l δ cI cJ cZ aK0 aK1 aK2 aK3 aK4 aK5 k ((xw / (100 : Int32)) - (1 : Int32))) hx hb hml hts hown hK hNW hP hD [1, 2, 3, 4, 5, 6] rfl rfl 1 0 rfl rfl (cwV 1 hts gX5_toldOfCourtier_X1_isThere rfl rfl rfl (by decide +kernel) ⟨(Nat.le_of_ble_eq_true rfl), (Nat.le_of_ble_eq_true rfl)⟩) rfl hl.1 rfl (Nat.le_of_ble_eq_true rfl) dX5_toldOfCourtier_55
      refine mc_i (wr := (wG  aG0 aK0 aE0 aF0 aP0 aD0 aM0 aC0 gg)) hr hP hD hS hA [1, 2, 3, 4, 5, 6] [0] [0, 1, 2, 3, 4, 5, 6] rfl rfl rfl rfl rfl (wn := fun _ => ((wG  aG0 aK0 aE0 aF0 aP0 aD0 aM0 aC0 gg) ++ (wK cI aK0 aK1 aK2 aK3 aK4 aK5 k))) (fun _ => rfl) (fun r_55 _ H locs hw_55 hP hD hS => ?_)
      obtain ⟨hw_55, z_55⟩ := hw_55
      have hP : va_P δ vwCl ((wG  aG0 aK0 aE0 aF0 aP0 aD0 aM0 aC0 gg) ++ (wK cI aK0 aK1 aK2 aK3 aK4 aK5 k)) H := hP
      have hD : va_D A ((wG  aG0 aK0 aE0 aF0 aP0 aD0 aM0 aC0 gg) ++ (wK cI aK0 aK1 aK2 aK3 aK4 aK5 k)) := hD
      have hR := bnd_eq hR hw_55.symm
      refine lv_if_eq (tgt := 87) hx hb dX5_toldOfCourtier_58 (by decide) (fun c_58 => ?_) (fun c_58 => ?_)
      · have c_58 : (r_55 = 0) := c_58
        have hR := hR.trans (if_pos c_58)
        refine lv_bipush (v := (-2 : Int32)) hx hb dX5_toldOfCourtier_87 (by decide) ?_
        exact hret _ _ (-2 : Int32) () _ _ hR hP hD hS dX5_toldOfCourtier_89
      · have c_58 : ¬ (r_55 = 0) := c_58
        have hR := hR.trans (if_neg c_58)
        refine lv_iload_n hx hb dX5_toldOfCourtier_61 rfl (lv_at hl 3 rfl) ?_
        refine lv_bipush (v := (100 : Int32)) hx hb dX5_toldOfCourtier_62 (by decide) ?_
        refine lv_irem hx hb dX5_toldOfCourtier_64 (by decide) ?_
        refine lv_iconst (v := (0 : Int32)) hx hb dX5_toldOfCourtier_65 (by decide) ?_
        refine lv_bipush (v := (23 : Int32)) hx hb dX5_toldOfCourtier_66 (by decide) ?_
        have hr := mrS (p := p) (e := e) (R := rm_X5_toldOfCourtier) (below := below) (meth := meth) (H := H) (locs := locs) (ls := ls) (As := [.int (xw - xw / (100 : Int32) * (100 : Int32)), .int (0 : Int32), .int (23 : Int32)]) (rest := []) (c_X5_isWithin l δ cI cJ cZ (xw - xw / (100 : Int32) * (100 : Int32)) (0 : Int32) (23 : Int32)) hx hb hml hts hown hK hNW hP hD [] rfl rfl (va_cwS 3 hts gX5_toldOfCourtier_X5_isWithin rfl rfl rfl (by decide +kernel) ⟨(Nat.le_of_ble_eq_true rfl), (Nat.le_of_ble_eq_true rfl)⟩) rfl hl.1 rfl (Nat.le_of_ble_eq_true rfl) dX5_toldOfCourtier_68
        refine mc_i (wr := ((wG  aG0 aK0 aE0 aF0 aP0 aD0 aM0 aC0 gg) ++ (wK cI aK0 aK1 aK2 aK3 aK4 aK5 k))) hr hP hD hS hA [] [0, 1, 2, 3, 4, 5, 6] [0, 1, 2, 3, 4, 5, 6] rfl rfl rfl rfl rfl (wn := fun _ => ((wG  aG0 aK0 aE0 aF0 aP0 aD0 aM0 aC0 gg) ++ (wK cI aK0 aK1 aK2 aK3 aK4 aK5 k))) (fun _ => rfl) (fun r_68 _ H locs hw_68 hP hD hS => ?_)
        obtain ⟨hw_68, z_68⟩ := hw_68
        have hP : va_P δ vwCl ((wG  aG0 aK0 aE0 aF0 aP0 aD0 aM0 aC0 gg) ++ (wK cI aK0 aK1 aK2 aK3 aK4 aK5 k)) H := hP
        have hD : va_D A ((wG  aG0 aK0 aE0 aF0 aP0 aD0 aM0 aC0 gg) ++ (wK cI aK0 aK1 aK2 aK3 aK4 aK5 k)) := hD
        have hR := bnd_eq hR hw_68.symm
        refine lv_if_eq (tgt := 87) hx hb dX5_toldOfCourtier_71 (by decide) (fun c_71 => ?_) (fun c_71 => ?_)
        · have c_71 : (r_68 = 0) := c_71
          have hR := hR.trans (if_pos c_71)
          refine lv_bipush (v := (-2 : Int32)) hx hb dX5_toldOfCourtier_87 (by decide) ?_
          exact hret _ _ (-2 : Int32) () _ _ hR hP hD hS dX5_toldOfCourtier_89
        · have c_71 : ¬ (r_68 = 0) := c_71
          have hR := hR.trans (if_neg c_71)
          refine lv_aload_n hx hb dX5_toldOfCourtier_74 rfl (lv_at hl 2 rfl) ?_
          refine va_get (D := δ) (ci := 5) (v := .ref aK0) (C := RX5) (T := TX5) (N := 9) hx hb hts hinX5 hown hK hP 0 rfl rfl 0 (by decide) (hts (.fieldLink RX5 10 "GloveHours" "court" "LGloveHours$Court;") (List.mem_of_getElem? (i := 1) rfl)) (fun _ h9 => h9) rfl dX5_toldOfCourtier_75 ?_
          refine lv_iload_n hx hb dX5_toldOfCourtier_78 rfl (lv_at hl 0 rfl) ?_
          refine lv_iload_n hx hb dX5_toldOfCourtier_79 rfl (lv_at hl 3 rfl) ?_
          refine lv_bipush (v := (100 : Int32)) hx hb dX5_toldOfCourtier_80 (by decide) ?_
          refine lv_irem hx hb dX5_toldOfCourtier_82 (by decide) ?_
          have hr := mrV (p := p) (e := e) (R := rm_X5_toldOfCourtier) (below := below) (meth := meth) (H := H) (locs := locs) (ls := ls) (As := [.int ((xw / (100 : Int32)) - (1 : Int32)), .int (xw - xw / (100 : Int32) * (100 : Int32))]) (rest := []) (c_X1_wearOf l δ cI cJ cZ aK0 aK1 aK2 aK3 aK4 aK5 k ((xw / (100 : Int32)) - (1 : Int32)) (xw - xw / (100 : Int32) * (100 : Int32))) hx hb hml hts hown hK hNW hP hD [1, 2, 3, 4, 5, 6] rfl rfl 1 0 rfl rfl (cwV 2 hts gX5_toldOfCourtier_X1_wearOf rfl rfl rfl (by decide +kernel) ⟨(Nat.le_of_ble_eq_true rfl), (Nat.le_of_ble_eq_true rfl)⟩) rfl hl.1 rfl (Nat.le_of_ble_eq_true rfl) dX5_toldOfCourtier_83
          refine mc_i (wr := (wG  aG0 aK0 aE0 aF0 aP0 aD0 aM0 aC0 gg)) hr hP hD hS hA [1, 2, 3, 4, 5, 6] [0] [0, 1, 2, 3, 4, 5, 6] rfl rfl rfl rfl rfl (wn := fun _ => ((wG  aG0 aK0 aE0 aF0 aP0 aD0 aM0 aC0 gg) ++ (wK cI aK0 aK1 aK2 aK3 aK4 aK5 k))) (fun _ => rfl) (fun r_83 _ H locs hw_83 hP hD hS => ?_)
          have hP : va_P δ vwCl ((wG  aG0 aK0 aE0 aF0 aP0 aD0 aM0 aC0 gg) ++ (wK cI aK0 aK1 aK2 aK3 aK4 aK5 k)) H := hP
          have hD : va_D A ((wG  aG0 aK0 aE0 aF0 aP0 aD0 aM0 aC0 gg) ++ (wK cI aK0 aK1 aK2 aK3 aK4 aK5 k)) := hD
          have hR := bnd_eq hR hw_83.symm
          exact hret _ _ r_83 () _ _ hR hP hD hS dX5_toldOfCourtier_86
    · have c_27 : ¬ (r_24 = 0) := c_27
      have hR := hR.trans (if_neg c_27)
      refine lv_aload_n hx hb dX5_toldOfCourtier_30 rfl (lv_at hl 1 rfl) ?_
      refine va_get (D := δ) (ci := 5) (v := .ref aK0) (C := RX5) (T := TX5) (N := 9) hx hb hts hinX5 hown hK hP 0 rfl rfl 0 (by decide) (hts (.fieldLink RX5 10 "GloveHours" "court" "LGloveHours$Court;") (List.mem_of_getElem? (i := 1) rfl)) (fun _ h9 => h9) rfl dX5_toldOfCourtier_31 ?_
      refine lv_iload_n hx hb dX5_toldOfCourtier_34 rfl (lv_at hl 0 rfl) ?_
      refine lv_iload_n hx hb dX5_toldOfCourtier_35 rfl (lv_at hl 2 rfl) ?_
      refine lv_bipush (v := (10 : Int32)) hx hb dX5_toldOfCourtier_36 (by decide) ?_
      refine lv_irem hx hb dX5_toldOfCourtier_38 (by decide) ?_
      have hr := mrV (p := p) (e := e) (R := rm_X5_toldOfCourtier) (below := below) (meth := meth) (H := H) (locs := locs) (ls := ls) (As := [.int ((xw / (10 : Int32)) - (1 : Int32)), .int (xw - xw / (10 : Int32) * (10 : Int32))]) (rest := []) (c_X1_tellOf l δ cI cJ cZ aK0 aK1 aK2 aK3 aK4 aK5 k ((xw / (10 : Int32)) - (1 : Int32)) (xw - xw / (10 : Int32) * (10 : Int32))) hx hb hml hts hown hK hNW hP hD [1, 2, 3, 4, 5, 6] rfl rfl 1 0 rfl rfl (cwV 2 hts gX5_toldOfCourtier_X1_tellOf rfl rfl rfl (by decide +kernel) ⟨(Nat.le_of_ble_eq_true rfl), (Nat.le_of_ble_eq_true rfl)⟩) rfl hl.1 rfl (Nat.le_of_ble_eq_true rfl) dX5_toldOfCourtier_39
      refine mc_i (wr := (wG  aG0 aK0 aE0 aF0 aP0 aD0 aM0 aC0 gg)) hr hP hD hS hA [1, 2, 3, 4, 5, 6] [0] [0, 1, 2, 3, 4, 5, 6] rfl rfl rfl rfl rfl (wn := fun _ => ((wG  aG0 aK0 aE0 aF0 aP0 aD0 aM0 aC0 gg) ++ (wK cI aK0 aK1 aK2 aK3 aK4 aK5 k))) (fun _ => rfl) (fun r_39 _ H locs hw_39 hP hD hS => ?_)
      have hP : va_P δ vwCl ((wG  aG0 aK0 aE0 aF0 aP0 aD0 aM0 aC0 gg) ++ (wK cI aK0 aK1 aK2 aK3 aK4 aK5 k)) H := hP
      have hD : va_D A ((wG  aG0 aK0 aE0 aF0 aP0 aD0 aM0 aC0 gg) ++ (wK cI aK0 aK1 aK2 aK3 aK4 aK5 k)) := hD
      have hR := bnd_eq hR hw_39.symm
      exact hret _ _ r_39 () _ _ hR hP hD hS dX5_toldOfCourtier_42

abbrev rm_X5_courtier : Room := { frames := 2, cells := 0, slots := 0, locals := 45 }
set_option maxHeartbeats 4000000 in
set_option maxRecDepth 100000 in
theorem c_X5_courtier (l : Launch) (δ : va_G) (cI cJ cZ : ClassId) (aG0 aK0 aK1 aK2 aK3 aK4 aK5 aE0 aF0 aP0 aD0 aM0 aC0 : Nat) (gg : GS) (k : KS) (xc : Int32) (xp : Int32) : mMi l δ (mTy cI cJ cZ) yX5_courtier wsX5_courtier rm_X5_courtier [.ref aG0, .int xc, .int xp] ((wG  aG0 aK0 aE0 aF0 aP0 aD0 aM0 aC0 gg) ++ (wK cI aK0 aK1 aK2 aK3 aK4 aK5 k)) (S := KS) (fun r u => F_X5_courtier k xc xp = (r, u)) (fun u => ((wG  aG0 aK0 aE0 aF0 aP0 aD0 aM0 aC0 gg) ++ (wK cI aK0 aK1 aK2 aK3 aK4 aK5 u))) := by
  refine mk_i (cc := cX5_courtier) (maxL := 3) (by decide) rfl (Nat.le_of_ble_eq_true rfl) ?_
  intro p e s m args below meth c A Q ls H locs hx hb hml hts hown hK hNW hA hP hD hS hl hret
  have hown : s.vm.findClass RX5 = some m.cls := hown
  have hl : lv_has ls 3 [(0, .ref aG0), (1, .int xc), (2, .int xp)] := hl
  have hinX1 : ∀ w ∈ u_ws RX1 TX1 11, w ∈ wsX5_courtier := (fun _ h => List.mem_cons_of_mem _ (List.mem_append_right _ (h)))
  have hinX5 : ∀ w ∈ u_ws RX5 TX5 9, w ∈ wsX5_courtier := (fun _ h => List.mem_cons_of_mem _ (List.mem_append_left _ (List.mem_append_right _ (h))))
  have hR := F_X5_courtier.eq_1 k xc xp
  refine lv_iload_n hx hb dX5_courtier_0 rfl (lv_at hl 1 rfl) ?_
  refine lv_iconst (v := (0 : Int32)) hx hb dX5_courtier_1 (by decide) ?_
  refine lv_iconst (v := (5 : Int32)) hx hb dX5_courtier_2 (by decide) ?_
  have hr := mrS (p := p) (e := e) (R := rm_X5_courtier) (below := below) (meth := meth) (H := H) (locs := locs) (ls := ls) (As := [.int xc, .int (0 : Int32), .int (5 : Int32)]) (rest := []) (c_X5_isWithin l δ cI cJ cZ xc (0 : Int32) (5 : Int32)) hx hb hml hts hown hK hNW hP hD [] rfl rfl (va_cwS 3 hts gX5_courtier_X5_isWithin rfl rfl rfl (by decide +kernel) ⟨(Nat.le_of_ble_eq_true rfl), (Nat.le_of_ble_eq_true rfl)⟩) rfl hl.1 rfl (Nat.le_of_ble_eq_true rfl) dX5_courtier_3
  refine mc_i (wr := ((wG  aG0 aK0 aE0 aF0 aP0 aD0 aM0 aC0 gg) ++ (wK cI aK0 aK1 aK2 aK3 aK4 aK5 k))) hr hP hD hS hA [] [0, 1, 2, 3, 4, 5, 6] [0, 1, 2, 3, 4, 5, 6] rfl rfl rfl rfl rfl (wn := fun _ => ((wG  aG0 aK0 aE0 aF0 aP0 aD0 aM0 aC0 gg) ++ (wK cI aK0 aK1 aK2 aK3 aK4 aK5 k))) (fun _ => rfl) (fun r_3 _ H locs hw_3 hP hD hS => ?_)
  obtain ⟨hw_3, z_3⟩ := hw_3
  have hP : va_P δ vwCl ((wG  aG0 aK0 aE0 aF0 aP0 aD0 aM0 aC0 gg) ++ (wK cI aK0 aK1 aK2 aK3 aK4 aK5 k)) H := hP
  have hD : va_D A ((wG  aG0 aK0 aE0 aF0 aP0 aD0 aM0 aC0 gg) ++ (wK cI aK0 aK1 aK2 aK3 aK4 aK5 k)) := hD
  have hR := bnd_eq hR hw_3.symm
  refine lv_if_ne (tgt := 11) hx hb dX5_courtier_6 (by decide) (fun c_6 => ?_) (fun c_6 => ?_)
  · have c_6 : ¬ (r_3 = 0) := c_6
    have hR := hR.trans (if_neg c_6)
    refine lv_iload_n hx hb dX5_courtier_11 rfl (lv_at hl 2 rfl) ?_
    refine lv_iconst (v := (0 : Int32)) hx hb dX5_courtier_12 (by decide) ?_
    refine lv_ldc (v := (16777215 : Int32)) hx hb hown (hts (.constant RX5 54 (16777215)) (List.mem_of_getElem? (i := 1) rfl)) dX5_courtier_13 ?_
    have hr := mrS (p := p) (e := e) (R := rm_X5_courtier) (below := below) (meth := meth) (H := H) (locs := locs) (ls := ls) (As := [.int xp, .int (0 : Int32), .int (16777215 : Int32)]) (rest := []) (c_X5_isWithin l δ cI cJ cZ xp (0 : Int32) (16777215 : Int32)) hx hb hml hts hown hK hNW hP hD [] rfl rfl (va_cwS 3 hts gX5_courtier_X5_isWithin rfl rfl rfl (by decide +kernel) ⟨(Nat.le_of_ble_eq_true rfl), (Nat.le_of_ble_eq_true rfl)⟩) rfl hl.1 rfl (Nat.le_of_ble_eq_true rfl) dX5_courtier_15
    refine mc_i (wr := ((wG  aG0 aK0 aE0 aF0 aP0 aD0 aM0 aC0 gg) ++ (wK cI aK0 aK1 aK2 aK3 aK4 aK5 k))) hr hP hD hS hA [] [0, 1, 2, 3, 4, 5, 6] [0, 1, 2, 3, 4, 5, 6] rfl rfl rfl rfl rfl (wn := fun _ => ((wG  aG0 aK0 aE0 aF0 aP0 aD0 aM0 aC0 gg) ++ (wK cI aK0 aK1 aK2 aK3 aK4 aK5 k))) (fun _ => rfl) (fun r_15 _ H locs hw_15 hP hD hS => ?_)
    obtain ⟨hw_15, z_15⟩ := hw_15
    have hP : va_P δ vwCl ((wG  aG0 aK0 aE0 aF0 aP0 aD0 aM0 aC0 gg) ++ (wK cI aK0 aK1 aK2 aK3 aK4 aK5 k)) H := hP
    have hD : va_D A ((wG  aG0 aK0 aE0 aF0 aP0 aD0 aM0 aC0 gg) ++ (wK cI aK0 aK1 aK2 aK3 aK4 aK5 k)) := hD
    have hR := bnd_eq hR hw_15.symm
    refine lv_if_ne (tgt := 24) hx hb dX5_courtier_18 (by decide) (fun c_18 => ?_) (fun c_18 => ?_)
    · have c_18 : ¬ (r_15 = 0) := c_18
      have hR := hR.trans (if_neg c_18)
      refine lv_aload_n hx hb dX5_courtier_24 rfl (lv_at hl 0 rfl) ?_
      refine va_get (D := δ) (ci := 5) (v := .ref aK0) (C := RX5) (T := TX5) (N := 9) hx hb hts hinX5 hown hK hP 0 rfl rfl 0 (by decide) (hts (.fieldLink RX5 10 "GloveHours" "court" "LGloveHours$Court;") (List.mem_of_getElem? (i := 2) rfl)) (fun _ h9 => h9) rfl dX5_courtier_25 ?_
      refine lv_iload_n hx hb dX5_courtier_28 rfl (lv_at hl 1 rfl) ?_
      refine lv_iload_n hx hb dX5_courtier_29 rfl (lv_at hl 2 rfl) ?_
      have hr := mrV (p := p) (e := e) (R := rm_X5_courtier) (below := below) (meth := meth) (H := H) (locs := locs) (ls := ls) (As := [.int xc, .int xp]) (rest := []) (c_X1_arrive l δ cI cJ cZ aK0 aK1 aK2 aK3 aK4 aK5 k xc xp) hx hb hml hts hown hK hNW hP hD [1, 2, 3, 4, 5, 6] rfl rfl 1 0 rfl rfl (cwV 2 hts gX5_courtier_X1_arrive rfl rfl rfl (by decide +kernel) ⟨(Nat.le_of_ble_eq_true rfl), (Nat.le_of_ble_eq_true rfl)⟩) rfl hl.1 rfl (Nat.le_of_ble_eq_true rfl) dX5_courtier_30
      refine mc_v (wr := (wG  aG0 aK0 aE0 aF0 aP0 aD0 aM0 aC0 gg)) hr hP hD hS hA [1, 2, 3, 4, 5, 6] [0] [0, 1, 2, 3, 4, 5, 6] rfl rfl rfl rfl rfl (wn := fun u_30 => ((wG  aG0 aK0 aE0 aF0 aP0 aD0 aM0 aC0 gg) ++ (wK cI aK0 aK1 aK2 aK3 aK4 aK5 u_30))) (fun _ => rfl) (fun u_30 H locs hw_30 hP hD hS => ?_)
      have hP : va_P δ vwCl ((wG  aG0 aK0 aE0 aF0 aP0 aD0 aM0 aC0 gg) ++ (wK cI aK0 aK1 aK2 aK3 aK4 aK5 u_30)) H := hP
      have hD : va_D A ((wG  aG0 aK0 aE0 aF0 aP0 aD0 aM0 aC0 gg) ++ (wK cI aK0 aK1 aK2 aK3 aK4 aK5 u_30)) := hD
      have hR := bnd_eq hR hw_30.symm
      refine lv_aload_n hx hb dX5_courtier_33 rfl (lv_at hl 0 rfl) ?_
      refine va_get (D := δ) (ci := 5) (v := .ref aK0) (C := RX5) (T := TX5) (N := 9) hx hb hts hinX5 hown hK hP 0 rfl rfl 0 (by decide) (hts (.fieldLink RX5 10 "GloveHours" "court" "LGloveHours$Court;") (List.mem_of_getElem? (i := 2) rfl)) (fun _ h9 => h9) rfl dX5_courtier_34 ?_
      refine va_get (D := δ) (ci := 1) (v := .int (kPresent u_30)) (C := RX1) (T := TX1) (N := 11) hx hb hts hinX1 hown hK hP 1 rfl rfl 0 (by decide) (hts (.fieldLink RX5 59 "GloveHours$Court" "present" "I") (List.mem_of_getElem? (i := 3) rfl)) (fun _ h9 => h9) rfl dX5_courtier_37 ?_
      have hr := mrS (p := p) (e := e) (R := rm_X5_courtier) (below := below) (meth := meth) (H := H) (locs := locs) (ls := ls) (As := [.int (kPresent u_30)]) (rest := []) (c_J6_bitCount_0f7a4 l δ cI cJ cZ (kPresent u_30)) hx hb hml hts hown hK hNW hP hD [] rfl rfl (va_cwS 1 hts gX5_courtier_J6_bitCount_0f7a4 rfl rfl rfl (by decide +kernel) ⟨(Nat.le_of_ble_eq_true rfl), (Nat.le_of_ble_eq_true rfl)⟩) rfl hl.1 rfl (Nat.le_of_ble_eq_true rfl) dX5_courtier_40
      refine mc_i (wr := ((wG  aG0 aK0 aE0 aF0 aP0 aD0 aM0 aC0 gg) ++ (wK cI aK0 aK1 aK2 aK3 aK4 aK5 u_30))) hr hP hD hS hA [] [0, 1, 2, 3, 4, 5, 6] [0, 1, 2, 3, 4, 5, 6] rfl rfl rfl rfl rfl (wn := fun _ => ((wG  aG0 aK0 aE0 aF0 aP0 aD0 aM0 aC0 gg) ++ (wK cI aK0 aK1 aK2 aK3 aK4 aK5 u_30))) (fun _ => rfl) (fun r_40 _ H locs hw_40 hP hD hS => ?_)
      have hP : va_P δ vwCl ((wG  aG0 aK0 aE0 aF0 aP0 aD0 aM0 aC0 gg) ++ (wK cI aK0 aK1 aK2 aK3 aK4 aK5 u_30)) H := hP
      have hD : va_D A ((wG  aG0 aK0 aE0 aF0 aP0 aD0 aM0 aC0 gg) ++ (wK cI aK0 aK1 aK2 aK3 aK4 aK5 u_30)) := hD
      have hR := bnd_eq hR hw_40.symm
      exact hret _ _ r_40 u_30 _ _ hR hP hD hS dX5_courtier_43
    · have c_18 : (r_15 = 0) := c_18
      have hR := hR.trans (if_pos c_18)
      refine lv_bipush (v := (-2 : Int32)) hx hb dX5_courtier_21 (by decide) ?_
      exact hret _ _ (-2 : Int32) k _ _ hR hP hD hS dX5_courtier_23
  · have c_6 : (r_3 = 0) := c_6
    have hR := hR.trans (if_pos c_6)
    refine lv_iconst (v := (-1 : Int32)) hx hb dX5_courtier_9 (by decide) ?_
    exact hret _ _ (-1 : Int32) k _ _ hR hP hD hS dX5_courtier_10

abbrev rm_X5_leave : Room := { frames := 2, cells := 0, slots := 0, locals := 42 }
set_option maxHeartbeats 4000000 in
set_option maxRecDepth 100000 in
theorem c_X5_leave (l : Launch) (δ : va_G) (cI cJ cZ : ClassId) (aG0 aK0 aK1 aK2 aK3 aK4 aK5 aE0 aF0 aP0 aD0 aM0 aC0 : Nat) (gg : GS) (k : KS) (xc : Int32) : mMi l δ (mTy cI cJ cZ) yX5_leave wsX5_leave rm_X5_leave [.ref aG0, .int xc] ((wG  aG0 aK0 aE0 aF0 aP0 aD0 aM0 aC0 gg) ++ (wK cI aK0 aK1 aK2 aK3 aK4 aK5 k)) (S := KS) (fun r u => F_X5_leave k xc = (r, u)) (fun u => ((wG  aG0 aK0 aE0 aF0 aP0 aD0 aM0 aC0 gg) ++ (wK cI aK0 aK1 aK2 aK3 aK4 aK5 u))) := by
  refine mk_i (cc := cX5_leave) (maxL := 2) (by decide) rfl (Nat.le_of_ble_eq_true rfl) ?_
  intro p e s m args below meth c A Q ls H locs hx hb hml hts hown hK hNW hA hP hD hS hl hret
  have hown : s.vm.findClass RX5 = some m.cls := hown
  have hl : lv_has ls 2 [(0, .ref aG0), (1, .int xc)] := hl
  have hinX1 : ∀ w ∈ u_ws RX1 TX1 11, w ∈ wsX5_leave := (fun _ h => List.mem_cons_of_mem _ (List.mem_append_right _ (h)))
  have hinX5 : ∀ w ∈ u_ws RX5 TX5 9, w ∈ wsX5_leave := (fun _ h => List.mem_cons_of_mem _ (List.mem_append_left _ (List.mem_append_right _ (h))))
  have hR := F_X5_leave.eq_1 k xc
  refine lv_aload_n hx hb dX5_leave_0 rfl (lv_at hl 0 rfl) ?_
  refine va_get (D := δ) (ci := 5) (v := .ref aK0) (C := RX5) (T := TX5) (N := 9) hx hb hts hinX5 hown hK hP 0 rfl rfl 0 (by decide) (hts (.fieldLink RX5 10 "GloveHours" "court" "LGloveHours$Court;") (List.mem_of_getElem? (i := 1) rfl)) (fun _ h9 => h9) rfl dX5_leave_1 ?_
  refine lv_iload_n hx hb dX5_leave_4 rfl (lv_at hl 1 rfl) ?_
  have hr := mrV (p := p) (e := e) (R := rm_X5_leave) (below := below) (meth := meth) (H := H) (locs := locs) (ls := ls) (As := [.int xc]) (rest := []) (c_X1_isThere l δ cI cJ cZ aK0 aK1 aK2 aK3 aK4 aK5 k xc) hx hb hml hts hown hK hNW hP hD [1, 2, 3, 4, 5, 6] rfl rfl 1 0 rfl rfl (cwV 1 hts gX5_leave_X1_isThere rfl rfl rfl (by decide +kernel) ⟨(Nat.le_of_ble_eq_true rfl), (Nat.le_of_ble_eq_true rfl)⟩) rfl hl.1 rfl (Nat.le_of_ble_eq_true rfl) dX5_leave_5
  refine mc_i (wr := (wG  aG0 aK0 aE0 aF0 aP0 aD0 aM0 aC0 gg)) hr hP hD hS hA [1, 2, 3, 4, 5, 6] [0] [0, 1, 2, 3, 4, 5, 6] rfl rfl rfl rfl rfl (wn := fun _ => ((wG  aG0 aK0 aE0 aF0 aP0 aD0 aM0 aC0 gg) ++ (wK cI aK0 aK1 aK2 aK3 aK4 aK5 k))) (fun _ => rfl) (fun r_5 _ H locs hw_5 hP hD hS => ?_)
  obtain ⟨hw_5, z_5⟩ := hw_5
  have hP : va_P δ vwCl ((wG  aG0 aK0 aE0 aF0 aP0 aD0 aM0 aC0 gg) ++ (wK cI aK0 aK1 aK2 aK3 aK4 aK5 k)) H := hP
  have hD : va_D A ((wG  aG0 aK0 aE0 aF0 aP0 aD0 aM0 aC0 gg) ++ (wK cI aK0 aK1 aK2 aK3 aK4 aK5 k)) := hD
  have hR := bnd_eq hR hw_5.symm
  refine lv_if_ne (tgt := 13) hx hb dX5_leave_8 (by decide) (fun c_8 => ?_) (fun c_8 => ?_)
  · have c_8 : ¬ (r_5 = 0) := c_8
    have hR := hR.trans (if_neg c_8)
    refine lv_aload_n hx hb dX5_leave_13 rfl (lv_at hl 0 rfl) ?_
    refine va_get (D := δ) (ci := 5) (v := .ref aK0) (C := RX5) (T := TX5) (N := 9) hx hb hts hinX5 hown hK hP 0 rfl rfl 0 (by decide) (hts (.fieldLink RX5 10 "GloveHours" "court" "LGloveHours$Court;") (List.mem_of_getElem? (i := 1) rfl)) (fun _ h9 => h9) rfl dX5_leave_14 ?_
    refine lv_iload_n hx hb dX5_leave_17 rfl (lv_at hl 1 rfl) ?_
    have hr := mrV (p := p) (e := e) (R := rm_X5_leave) (below := below) (meth := meth) (H := H) (locs := locs) (ls := ls) (As := [.int xc]) (rest := []) (c_X1_goAway l δ cI cJ cZ aK0 aK1 aK2 aK3 aK4 aK5 k xc) hx hb hml hts hown hK hNW hP hD [1, 2, 3, 4, 5, 6] rfl rfl 1 0 rfl rfl (cwV 1 hts gX5_leave_X1_goAway rfl rfl rfl (by decide +kernel) ⟨(Nat.le_of_ble_eq_true rfl), (Nat.le_of_ble_eq_true rfl)⟩) rfl hl.1 rfl (Nat.le_of_ble_eq_true rfl) dX5_leave_18
    refine mc_v (wr := (wG  aG0 aK0 aE0 aF0 aP0 aD0 aM0 aC0 gg)) hr hP hD hS hA [1, 2, 3, 4, 5, 6] [0] [0, 1, 2, 3, 4, 5, 6] rfl rfl rfl rfl rfl (wn := fun u_18 => ((wG  aG0 aK0 aE0 aF0 aP0 aD0 aM0 aC0 gg) ++ (wK cI aK0 aK1 aK2 aK3 aK4 aK5 u_18))) (fun _ => rfl) (fun u_18 H locs hw_18 hP hD hS => ?_)
    have hP : va_P δ vwCl ((wG  aG0 aK0 aE0 aF0 aP0 aD0 aM0 aC0 gg) ++ (wK cI aK0 aK1 aK2 aK3 aK4 aK5 u_18)) H := hP
    have hD : va_D A ((wG  aG0 aK0 aE0 aF0 aP0 aD0 aM0 aC0 gg) ++ (wK cI aK0 aK1 aK2 aK3 aK4 aK5 u_18)) := hD
    have hR := bnd_eq hR hw_18.symm
    refine lv_aload_n hx hb dX5_leave_21 rfl (lv_at hl 0 rfl) ?_
    refine va_get (D := δ) (ci := 5) (v := .ref aK0) (C := RX5) (T := TX5) (N := 9) hx hb hts hinX5 hown hK hP 0 rfl rfl 0 (by decide) (hts (.fieldLink RX5 10 "GloveHours" "court" "LGloveHours$Court;") (List.mem_of_getElem? (i := 1) rfl)) (fun _ h9 => h9) rfl dX5_leave_22 ?_
    refine va_get (D := δ) (ci := 1) (v := .int (kPresent u_18)) (C := RX1) (T := TX1) (N := 11) hx hb hts hinX1 hown hK hP 1 rfl rfl 0 (by decide) (hts (.fieldLink RX5 59 "GloveHours$Court" "present" "I") (List.mem_of_getElem? (i := 2) rfl)) (fun _ h9 => h9) rfl dX5_leave_25 ?_
    have hr := mrS (p := p) (e := e) (R := rm_X5_leave) (below := below) (meth := meth) (H := H) (locs := locs) (ls := ls) (As := [.int (kPresent u_18)]) (rest := []) (c_J6_bitCount_0f7a4 l δ cI cJ cZ (kPresent u_18)) hx hb hml hts hown hK hNW hP hD [] rfl rfl (va_cwS 1 hts gX5_leave_J6_bitCount_0f7a4 rfl rfl rfl (by decide +kernel) ⟨(Nat.le_of_ble_eq_true rfl), (Nat.le_of_ble_eq_true rfl)⟩) rfl hl.1 rfl (Nat.le_of_ble_eq_true rfl) dX5_leave_28
    refine mc_i (wr := ((wG  aG0 aK0 aE0 aF0 aP0 aD0 aM0 aC0 gg) ++ (wK cI aK0 aK1 aK2 aK3 aK4 aK5 u_18))) hr hP hD hS hA [] [0, 1, 2, 3, 4, 5, 6] [0, 1, 2, 3, 4, 5, 6] rfl rfl rfl rfl rfl (wn := fun _ => ((wG  aG0 aK0 aE0 aF0 aP0 aD0 aM0 aC0 gg) ++ (wK cI aK0 aK1 aK2 aK3 aK4 aK5 u_18))) (fun _ => rfl) (fun r_28 _ H locs hw_28 hP hD hS => ?_)
    have hP : va_P δ vwCl ((wG  aG0 aK0 aE0 aF0 aP0 aD0 aM0 aC0 gg) ++ (wK cI aK0 aK1 aK2 aK3 aK4 aK5 u_18)) H := hP
    have hD : va_D A ((wG  aG0 aK0 aE0 aF0 aP0 aD0 aM0 aC0 gg) ++ (wK cI aK0 aK1 aK2 aK3 aK4 aK5 u_18)) := hD
    have hR := bnd_eq hR hw_28.symm
    exact hret _ _ r_28 u_18 _ _ hR hP hD hS dX5_leave_31
  · have c_8 : (r_5 = 0) := c_8
    have hR := hR.trans (if_pos c_8)
    refine lv_iconst (v := (-1 : Int32)) hx hb dX5_leave_11 (by decide) ?_
    exact hret _ _ (-1 : Int32) k _ _ hR hP hD hS dX5_leave_12

abbrev rm_X5_set : Room := { frames := 1, cells := 0, slots := 0, locals := 22 }
set_option maxHeartbeats 4000000 in
set_option maxRecDepth 100000 in
theorem c_X5_set (l : Launch) (δ : va_G) (cI cJ cZ : ClassId) (aG0 aK0 aK1 aK2 aK3 aK4 aK5 aE0 aF0 aP0 aD0 aM0 aC0 : Nat) (gg : GS) (k : KS) (xw : Int32) (xv : Int32) : mMi l δ (mTy cI cJ cZ) yX5_set wsX5_set rm_X5_set [.ref aG0, .int xw, .int xv] ((wG  aG0 aK0 aE0 aF0 aP0 aD0 aM0 aC0 gg) ++ (wK cI aK0 aK1 aK2 aK3 aK4 aK5 k)) (S := KS) (fun r u => F_X5_set k xw xv = (r, u)) (fun u => ((wG  aG0 aK0 aE0 aF0 aP0 aD0 aM0 aC0 gg) ++ (wK cI aK0 aK1 aK2 aK3 aK4 aK5 u))) := by
  refine mk_i (cc := cX5_set) (maxL := 4) (by decide) rfl (Nat.le_of_ble_eq_true rfl) ?_
  intro p e s m args below meth c A Q ls H locs hx hb hml hts hown hK hNW hA hP hD hS hl hret
  have hown : s.vm.findClass RX5 = some m.cls := hown
  have hl : lv_has ls 4 [(0, .ref aG0), (1, .int xw), (2, .int xv)] := hl
  have hinX1 : ∀ w ∈ u_ws RX1 TX1 11, w ∈ wsX5_set := (fun _ h => List.mem_cons_of_mem _ (List.mem_append_right _ (h)))
  have hinX5 : ∀ w ∈ u_ws RX5 TX5 9, w ∈ wsX5_set := (fun _ h => List.mem_cons_of_mem _ (List.mem_append_left _ (List.mem_append_right _ (h))))
  have hR := F_X5_set.eq_1 k xw xv
  refine lv_iload_n hx hb dX5_set_0 rfl (lv_at hl 1 rfl) ?_
  refine lv_if_ne (tgt := 33) hx hb dX5_set_1 (by decide) (fun c_1 => ?_) (fun c_1 => ?_)
  · have c_1 : ¬ (xw = 0) := c_1
    have hR := hR.trans (if_neg c_1)
    refine lv_iload_n hx hb dX5_set_33 rfl (lv_at hl 1 rfl) ?_
    refine lv_iconst (v := (1 : Int32)) hx hb dX5_set_34 (by decide) ?_
    refine lv_icmp_ne (tgt := 67) hx hb dX5_set_35 (by decide) (fun c_35 => ?_) (fun c_35 => ?_)
    · have c_35 : ¬ (xw = (1 : Int32)) := c_35
      have hR := hR.trans (if_neg c_35)
      refine lv_bipush (v := (-2 : Int32)) hx hb dX5_set_67 (by decide) ?_
      refine lv_istore_n (lv' := [(3, .int (-2 : Int32)), (0, .ref aG0), (1, .int xw), (2, .int xv)]) hx hb dX5_set_69 rfl hl (by decide) rfl (fun ls hl => ?_)
      refine lv_iload_n hx hb dX5_set_70 rfl (lv_at hl 0 rfl) ?_
      exact hret _ _ (-2 : Int32) k _ _ hR hP hD hS dX5_set_71
    · have c_35 : (xw = (1 : Int32)) := c_35
      have hR := hR.trans (if_pos c_35)
      refine lv_iload_n hx hb dX5_set_38 rfl (lv_at hl 2 rfl) ?_
      refine lv_iconst (v := (1 : Int32)) hx hb dX5_set_39 (by decide) ?_
      refine lv_bipush (v := (20 : Int32)) hx hb dX5_set_40 (by decide) ?_
      have hr := mrS (p := p) (e := e) (R := rm_X5_set) (below := below) (meth := meth) (H := H) (locs := locs) (ls := ls) (As := [.int xv, .int (1 : Int32), .int (20 : Int32)]) (rest := []) (c_X5_isWithin l δ cI cJ cZ xv (1 : Int32) (20 : Int32)) hx hb hml hts hown hK hNW hP hD [] rfl rfl (va_cwS 3 hts gX5_set_X5_isWithin rfl rfl rfl (by decide +kernel) ⟨(Nat.le_of_ble_eq_true rfl), (Nat.le_of_ble_eq_true rfl)⟩) rfl hl.1 rfl (Nat.le_of_ble_eq_true rfl) dX5_set_42
      refine mc_i (wr := ((wG  aG0 aK0 aE0 aF0 aP0 aD0 aM0 aC0 gg) ++ (wK cI aK0 aK1 aK2 aK3 aK4 aK5 k))) hr hP hD hS hA [] [0, 1, 2, 3, 4, 5, 6] [0, 1, 2, 3, 4, 5, 6] rfl rfl rfl rfl rfl (wn := fun _ => ((wG  aG0 aK0 aE0 aF0 aP0 aD0 aM0 aC0 gg) ++ (wK cI aK0 aK1 aK2 aK3 aK4 aK5 k))) (fun _ => rfl) (fun r_42 _ H locs hw_42 hP hD hS => ?_)
      obtain ⟨hw_42, z_42⟩ := hw_42
      have hP : va_P δ vwCl ((wG  aG0 aK0 aE0 aF0 aP0 aD0 aM0 aC0 gg) ++ (wK cI aK0 aK1 aK2 aK3 aK4 aK5 k)) H := hP
      have hD : va_D A ((wG  aG0 aK0 aE0 aF0 aP0 aD0 aM0 aC0 gg) ++ (wK cI aK0 aK1 aK2 aK3 aK4 aK5 k)) := hD
      have hR := bnd_eq hR hw_42.symm
      refine lv_if_eq (tgt := 67) hx hb dX5_set_45 (by decide) (fun c_45 => ?_) (fun c_45 => ?_)
      · have c_45 : (r_42 = 0) := c_45
        have hR := hR.trans (if_pos c_45)
        refine lv_bipush (v := (-2 : Int32)) hx hb dX5_set_67 (by decide) ?_
        refine lv_istore_n (lv' := [(3, .int (-2 : Int32)), (0, .ref aG0), (1, .int xw), (2, .int xv)]) hx hb dX5_set_69 rfl hl (by decide) rfl (fun ls hl => ?_)
        refine lv_iload_n hx hb dX5_set_70 rfl (lv_at hl 0 rfl) ?_
        exact hret _ _ (-2 : Int32) k _ _ hR hP hD hS dX5_set_71
      · have c_45 : ¬ (r_42 = 0) := c_45
        have hR := hR.trans (if_neg c_45)
        refine lv_aload_n hx hb dX5_set_48 rfl (lv_at hl 0 rfl) ?_
        refine va_get (D := δ) (ci := 5) (v := .ref aK0) (C := RX5) (T := TX5) (N := 9) hx hb hts hinX5 hown hK hP 0 rfl rfl 0 (by decide) (hts (.fieldLink RX5 10 "GloveHours" "court" "LGloveHours$Court;") (List.mem_of_getElem? (i := 1) rfl)) (fun _ h9 => h9) rfl dX5_set_49 ?_
        refine va_get (D := δ) (ci := 1) (v := .int (kTears k)) (C := RX1) (T := TX1) (N := 11) hx hb hts hinX1 hown hK hP 1 rfl rfl 2 (by decide) (hts (.fieldLink RX5 80 "GloveHours$Court" "tears" "I") (List.mem_of_getElem? (i := 3) rfl)) (fun _ h9 => h9) rfl dX5_set_52 ?_
        refine lv_istore_n (lv' := [(3, .int (kTears k)), (0, .ref aG0), (1, .int xw), (2, .int xv)]) hx hb dX5_set_55 rfl hl (by decide) rfl (fun ls hl => ?_)
        refine lv_aload_n hx hb dX5_set_56 rfl (lv_at hl 1 rfl) ?_
        refine va_get (D := δ) (ci := 5) (v := .ref aK0) (C := RX5) (T := TX5) (N := 9) hx hb hts hinX5 hown hK hP 0 rfl rfl 0 (by decide) (hts (.fieldLink RX5 10 "GloveHours" "court" "LGloveHours$Court;") (List.mem_of_getElem? (i := 1) rfl)) (fun _ h9 => h9) rfl dX5_set_57 ?_
        refine lv_iload_n hx hb dX5_set_60 rfl (lv_at hl 3 rfl) ?_
        refine va_put (D := δ) (ci := 1) (v := .int xv) (ty := .int) (C := RX1) (T := TX1) (N := 11) hx hb hts hinX1 tyX1 tyX1_ok nmX1 hown hK hP hD hS 1 rfl rfl 2 (by decide) (hts (.fieldLink RX5 80 "GloveHours$Court" "tears" "I") (List.mem_of_getElem? (i := 3) rfl)) (fun _ h9 => h9) rfl (by decide +kernel) rfl rfl (Nat.le_of_ble_eq_true rfl) dX5_set_61 (fun H locs hP hD hS => ?_)
        have hP : va_P δ vwCl ((wG  aG0 aK0 aE0 aF0 aP0 aD0 aM0 aC0 gg) ++ (wK cI aK0 aK1 aK2 aK3 aK4 aK5 (kPresent k, kClock k, xv, kSights k, kHoursSeen k, kHoursNotOwned k, kPairs k, kLeft k, kRight k, kScandals k, kWears k))) H := hP
        have hD : va_D A ((wG  aG0 aK0 aE0 aF0 aP0 aD0 aM0 aC0 gg) ++ (wK cI aK0 aK1 aK2 aK3 aK4 aK5 (kPresent k, kClock k, xv, kSights k, kHoursSeen k, kHoursNotOwned k, kPairs k, kLeft k, kRight k, kScandals k, kWears k))) := hD
        refine lv_goto (tgt := 70) hx hb dX5_set_64 (by decide) ?_
        refine lv_iload_n hx hb dX5_set_70 rfl (lv_at hl 0 rfl) ?_
        exact hret _ _ (kTears k) (kPresent k, kClock k, xv, kSights k, kHoursSeen k, kHoursNotOwned k, kPairs k, kLeft k, kRight k, kScandals k, kWears k) _ _ hR hP hD hS dX5_set_71
  · have c_1 : (xw = 0) := c_1
    have hR := hR.trans (if_pos c_1)
    refine lv_iload_n hx hb dX5_set_4 rfl (lv_at hl 2 rfl) ?_
    refine lv_iconst (v := (0 : Int32)) hx hb dX5_set_5 (by decide) ?_
    refine lv_bipush (v := (23 : Int32)) hx hb dX5_set_6 (by decide) ?_
    have hr := mrS (p := p) (e := e) (R := rm_X5_set) (below := below) (meth := meth) (H := H) (locs := locs) (ls := ls) (As := [.int xv, .int (0 : Int32), .int (23 : Int32)]) (rest := []) (c_X5_isWithin l δ cI cJ cZ xv (0 : Int32) (23 : Int32)) hx hb hml hts hown hK hNW hP hD [] rfl rfl (va_cwS 3 hts gX5_set_X5_isWithin rfl rfl rfl (by decide +kernel) ⟨(Nat.le_of_ble_eq_true rfl), (Nat.le_of_ble_eq_true rfl)⟩) rfl hl.1 rfl (Nat.le_of_ble_eq_true rfl) dX5_set_8
    refine mc_i (wr := ((wG  aG0 aK0 aE0 aF0 aP0 aD0 aM0 aC0 gg) ++ (wK cI aK0 aK1 aK2 aK3 aK4 aK5 k))) hr hP hD hS hA [] [0, 1, 2, 3, 4, 5, 6] [0, 1, 2, 3, 4, 5, 6] rfl rfl rfl rfl rfl (wn := fun _ => ((wG  aG0 aK0 aE0 aF0 aP0 aD0 aM0 aC0 gg) ++ (wK cI aK0 aK1 aK2 aK3 aK4 aK5 k))) (fun _ => rfl) (fun r_8 _ H locs hw_8 hP hD hS => ?_)
    obtain ⟨hw_8, z_8⟩ := hw_8
    have hP : va_P δ vwCl ((wG  aG0 aK0 aE0 aF0 aP0 aD0 aM0 aC0 gg) ++ (wK cI aK0 aK1 aK2 aK3 aK4 aK5 k)) H := hP
    have hD : va_D A ((wG  aG0 aK0 aE0 aF0 aP0 aD0 aM0 aC0 gg) ++ (wK cI aK0 aK1 aK2 aK3 aK4 aK5 k)) := hD
    have hR := bnd_eq hR hw_8.symm
    refine lv_if_eq (tgt := 33) hx hb dX5_set_11 (by decide) (fun c_11 => ?_) (fun c_11 => ?_)
    · have c_11 : (r_8 = 0) := c_11
      have hR := hR.trans (if_pos c_11)
      refine lv_iload_n hx hb dX5_set_33 rfl (lv_at hl 1 rfl) ?_
      refine lv_iconst (v := (1 : Int32)) hx hb dX5_set_34 (by decide) ?_
      refine lv_icmp_ne (tgt := 67) hx hb dX5_set_35 (by decide) (fun c_35 => ?_) (fun c_35 => ?_)
      · have c_35 : ¬ (xw = (1 : Int32)) := c_35
        have hR := hR.trans (if_neg c_35)
        refine lv_bipush (v := (-2 : Int32)) hx hb dX5_set_67 (by decide) ?_
        refine lv_istore_n (lv' := [(3, .int (-2 : Int32)), (0, .ref aG0), (1, .int xw), (2, .int xv)]) hx hb dX5_set_69 rfl hl (by decide) rfl (fun ls hl => ?_)
        refine lv_iload_n hx hb dX5_set_70 rfl (lv_at hl 0 rfl) ?_
        exact hret _ _ (-2 : Int32) k _ _ hR hP hD hS dX5_set_71
      · have c_35 : (xw = (1 : Int32)) := c_35
        have hR := hR.trans (if_pos c_35)
        refine lv_iload_n hx hb dX5_set_38 rfl (lv_at hl 2 rfl) ?_
        refine lv_iconst (v := (1 : Int32)) hx hb dX5_set_39 (by decide) ?_
        refine lv_bipush (v := (20 : Int32)) hx hb dX5_set_40 (by decide) ?_
        have hr := mrS (p := p) (e := e) (R := rm_X5_set) (below := below) (meth := meth) (H := H) (locs := locs) (ls := ls) (As := [.int xv, .int (1 : Int32), .int (20 : Int32)]) (rest := []) (c_X5_isWithin l δ cI cJ cZ xv (1 : Int32) (20 : Int32)) hx hb hml hts hown hK hNW hP hD [] rfl rfl (va_cwS 3 hts gX5_set_X5_isWithin rfl rfl rfl (by decide +kernel) ⟨(Nat.le_of_ble_eq_true rfl), (Nat.le_of_ble_eq_true rfl)⟩) rfl hl.1 rfl (Nat.le_of_ble_eq_true rfl) dX5_set_42
        refine mc_i (wr := ((wG  aG0 aK0 aE0 aF0 aP0 aD0 aM0 aC0 gg) ++ (wK cI aK0 aK1 aK2 aK3 aK4 aK5 k))) hr hP hD hS hA [] [0, 1, 2, 3, 4, 5, 6] [0, 1, 2, 3, 4, 5, 6] rfl rfl rfl rfl rfl (wn := fun _ => ((wG  aG0 aK0 aE0 aF0 aP0 aD0 aM0 aC0 gg) ++ (wK cI aK0 aK1 aK2 aK3 aK4 aK5 k))) (fun _ => rfl) (fun r_42 _ H locs hw_42 hP hD hS => ?_)
        obtain ⟨hw_42, z_42⟩ := hw_42
        have hP : va_P δ vwCl ((wG  aG0 aK0 aE0 aF0 aP0 aD0 aM0 aC0 gg) ++ (wK cI aK0 aK1 aK2 aK3 aK4 aK5 k)) H := hP
        have hD : va_D A ((wG  aG0 aK0 aE0 aF0 aP0 aD0 aM0 aC0 gg) ++ (wK cI aK0 aK1 aK2 aK3 aK4 aK5 k)) := hD
        have hR := bnd_eq hR hw_42.symm
        refine lv_if_eq (tgt := 67) hx hb dX5_set_45 (by decide) (fun c_45 => ?_) (fun c_45 => ?_)
        · have c_45 : (r_42 = 0) := c_45
          have hR := hR.trans (if_pos c_45)
          refine lv_bipush (v := (-2 : Int32)) hx hb dX5_set_67 (by decide) ?_
          refine lv_istore_n (lv' := [(3, .int (-2 : Int32)), (0, .ref aG0), (1, .int xw), (2, .int xv)]) hx hb dX5_set_69 rfl hl (by decide) rfl (fun ls hl => ?_)
          refine lv_iload_n hx hb dX5_set_70 rfl (lv_at hl 0 rfl) ?_
          exact hret _ _ (-2 : Int32) k _ _ hR hP hD hS dX5_set_71
        · have c_45 : ¬ (r_42 = 0) := c_45
          have hR := hR.trans (if_neg c_45)
          refine lv_aload_n hx hb dX5_set_48 rfl (lv_at hl 0 rfl) ?_
          refine va_get (D := δ) (ci := 5) (v := .ref aK0) (C := RX5) (T := TX5) (N := 9) hx hb hts hinX5 hown hK hP 0 rfl rfl 0 (by decide) (hts (.fieldLink RX5 10 "GloveHours" "court" "LGloveHours$Court;") (List.mem_of_getElem? (i := 1) rfl)) (fun _ h9 => h9) rfl dX5_set_49 ?_
          refine va_get (D := δ) (ci := 1) (v := .int (kTears k)) (C := RX1) (T := TX1) (N := 11) hx hb hts hinX1 hown hK hP 1 rfl rfl 2 (by decide) (hts (.fieldLink RX5 80 "GloveHours$Court" "tears" "I") (List.mem_of_getElem? (i := 3) rfl)) (fun _ h9 => h9) rfl dX5_set_52 ?_
          refine lv_istore_n (lv' := [(3, .int (kTears k)), (0, .ref aG0), (1, .int xw), (2, .int xv)]) hx hb dX5_set_55 rfl hl (by decide) rfl (fun ls hl => ?_)
          refine lv_aload_n hx hb dX5_set_56 rfl (lv_at hl 1 rfl) ?_
          refine va_get (D := δ) (ci := 5) (v := .ref aK0) (C := RX5) (T := TX5) (N := 9) hx hb hts hinX5 hown hK hP 0 rfl rfl 0 (by decide) (hts (.fieldLink RX5 10 "GloveHours" "court" "LGloveHours$Court;") (List.mem_of_getElem? (i := 1) rfl)) (fun _ h9 => h9) rfl dX5_set_57 ?_
          refine lv_iload_n hx hb dX5_set_60 rfl (lv_at hl 3 rfl) ?_
          refine va_put (D := δ) (ci := 1) (v := .int xv) (ty := .int) (C := RX1) (T := TX1) (N := 11) hx hb hts hinX1 tyX1 tyX1_ok nmX1 hown hK hP hD hS 1 rfl rfl 2 (by decide) (hts (.fieldLink RX5 80 "GloveHours$Court" "tears" "I") (List.mem_of_getElem? (i := 3) rfl)) (fun _ h9 => h9) rfl (by decide +kernel) rfl rfl (Nat.le_of_ble_eq_true rfl) dX5_set_61 (fun H locs hP hD hS => ?_)
          have hP : va_P δ vwCl ((wG  aG0 aK0 aE0 aF0 aP0 aD0 aM0 aC0 gg) ++ (wK cI aK0 aK1 aK2 aK3 aK4 aK5 (kPresent k, kClock k, xv, kSights k, kHoursSeen k, kHoursNotOwned k, kPairs k, kLeft k, kRight k, kScandals k, kWears k))) H := hP
          have hD : va_D A ((wG  aG0 aK0 aE0 aF0 aP0 aD0 aM0 aC0 gg) ++ (wK cI aK0 aK1 aK2 aK3 aK4 aK5 (kPresent k, kClock k, xv, kSights k, kHoursSeen k, kHoursNotOwned k, kPairs k, kLeft k, kRight k, kScandals k, kWears k))) := hD
          refine lv_goto (tgt := 70) hx hb dX5_set_64 (by decide) ?_
          refine lv_iload_n hx hb dX5_set_70 rfl (lv_at hl 0 rfl) ?_
          exact hret _ _ (kTears k) (kPresent k, kClock k, xv, kSights k, kHoursSeen k, kHoursNotOwned k, kPairs k, kLeft k, kRight k, kScandals k, kWears k) _ _ hR hP hD hS dX5_set_71
    · have c_11 : ¬ (r_8 = 0) := c_11
      have hR := hR.trans (if_neg c_11)
      refine lv_aload_n hx hb dX5_set_14 rfl (lv_at hl 0 rfl) ?_
      refine va_get (D := δ) (ci := 5) (v := .ref aK0) (C := RX5) (T := TX5) (N := 9) hx hb hts hinX5 hown hK hP 0 rfl rfl 0 (by decide) (hts (.fieldLink RX5 10 "GloveHours" "court" "LGloveHours$Court;") (List.mem_of_getElem? (i := 1) rfl)) (fun _ h9 => h9) rfl dX5_set_15 ?_
      refine va_get (D := δ) (ci := 1) (v := .int (kClock k)) (C := RX1) (T := TX1) (N := 11) hx hb hts hinX1 hown hK hP 1 rfl rfl 1 (by decide) (hts (.fieldLink RX5 77 "GloveHours$Court" "clock" "I") (List.mem_of_getElem? (i := 2) rfl)) (fun _ h9 => h9) rfl dX5_set_18 ?_
      refine lv_istore_n (lv' := [(3, .int (kClock k)), (0, .ref aG0), (1, .int xw), (2, .int xv)]) hx hb dX5_set_21 rfl hl (by decide) rfl (fun ls hl => ?_)
      refine lv_aload_n hx hb dX5_set_22 rfl (lv_at hl 1 rfl) ?_
      refine va_get (D := δ) (ci := 5) (v := .ref aK0) (C := RX5) (T := TX5) (N := 9) hx hb hts hinX5 hown hK hP 0 rfl rfl 0 (by decide) (hts (.fieldLink RX5 10 "GloveHours" "court" "LGloveHours$Court;") (List.mem_of_getElem? (i := 1) rfl)) (fun _ h9 => h9) rfl dX5_set_23 ?_
      refine lv_iload_n hx hb dX5_set_26 rfl (lv_at hl 3 rfl) ?_
      refine va_put (D := δ) (ci := 1) (v := .int xv) (ty := .int) (C := RX1) (T := TX1) (N := 11) hx hb hts hinX1 tyX1 tyX1_ok nmX1 hown hK hP hD hS 1 rfl rfl 1 (by decide) (hts (.fieldLink RX5 77 "GloveHours$Court" "clock" "I") (List.mem_of_getElem? (i := 2) rfl)) (fun _ h9 => h9) rfl (by decide +kernel) rfl rfl (Nat.le_of_ble_eq_true rfl) dX5_set_27 (fun H locs hP hD hS => ?_)
      have hP : va_P δ vwCl ((wG  aG0 aK0 aE0 aF0 aP0 aD0 aM0 aC0 gg) ++ (wK cI aK0 aK1 aK2 aK3 aK4 aK5 (kPresent k, xv, kTears k, kSights k, kHoursSeen k, kHoursNotOwned k, kPairs k, kLeft k, kRight k, kScandals k, kWears k))) H := hP
      have hD : va_D A ((wG  aG0 aK0 aE0 aF0 aP0 aD0 aM0 aC0 gg) ++ (wK cI aK0 aK1 aK2 aK3 aK4 aK5 (kPresent k, xv, kTears k, kSights k, kHoursSeen k, kHoursNotOwned k, kPairs k, kLeft k, kRight k, kScandals k, kWears k))) := hD
      refine lv_goto (tgt := 70) hx hb dX5_set_30 (by decide) ?_
      refine lv_iload_n hx hb dX5_set_70 rfl (lv_at hl 0 rfl) ?_
      exact hret _ _ (kClock k) (kPresent k, xv, kTears k, kSights k, kHoursSeen k, kHoursNotOwned k, kPairs k, kLeft k, kRight k, kScandals k, kWears k) _ _ hR hP hD hS dX5_set_71

abbrev rm_X5_say : Room := { frames := 2, cells := 0, slots := 0, locals := 43 }
set_option maxHeartbeats 4000000 in
set_option maxRecDepth 100000 in
theorem c_X5_say (l : Launch) (δ : va_G) (cI cJ cZ : ClassId) (aG0 aP0 aP1 aK0 aE0 aF0 aD0 aM0 aC0 : Nat) (gg : GS) (pp : PS) (xs : Int32) : mMi l δ (mTy cI cJ cZ) yX5_say wsX5_say rm_X5_say [.ref aG0, .int xs] ((wG  aG0 aK0 aE0 aF0 aP0 aD0 aM0 aC0 gg) ++ (wP cI aP0 aP1 pp)) (S := PS) (fun r u => F_X5_say pp xs = (r, u)) (fun u => ((wG  aG0 aK0 aE0 aF0 aP0 aD0 aM0 aC0 gg) ++ (wP cI aP0 aP1 u))) := by
  refine mk_i (cc := cX5_say) (maxL := 2) (by decide) rfl (Nat.le_of_ble_eq_true rfl) ?_
  intro p e s m args below meth c A Q ls H locs hx hb hml hts hown hK hNW hA hP hD hS hl hret
  have hown : s.vm.findClass RX5 = some m.cls := hown
  have hl : lv_has ls 2 [(0, .ref aG0), (1, .int xs)] := hl
  have hinX4 : ∀ w ∈ u_ws RX4 TX4 2, w ∈ wsX5_say := (fun _ h => List.mem_cons_of_mem _ (List.mem_append_right _ (h)))
  have hinX5 : ∀ w ∈ u_ws RX5 TX5 9, w ∈ wsX5_say := (fun _ h => List.mem_cons_of_mem _ (List.mem_append_left _ (List.mem_append_right _ (h))))
  have hR := F_X5_say.eq_1 pp xs
  refine lv_iload_n hx hb dX5_say_0 rfl (lv_at hl 1 rfl) ?_
  refine lv_bipush (v := (33 : Int32)) hx hb dX5_say_1 (by decide) ?_
  refine lv_bipush (v := (126 : Int32)) hx hb dX5_say_3 (by decide) ?_
  have hr := mrS (p := p) (e := e) (R := rm_X5_say) (below := below) (meth := meth) (H := H) (locs := locs) (ls := ls) (As := [.int xs, .int (33 : Int32), .int (126 : Int32)]) (rest := []) (c_X5_isWithin l δ cI cJ cZ xs (33 : Int32) (126 : Int32)) hx hb hml hts hown hK hNW hP hD [] rfl rfl (va_cwS 3 hts gX5_say_X5_isWithin rfl rfl rfl (by decide +kernel) ⟨(Nat.le_of_ble_eq_true rfl), (Nat.le_of_ble_eq_true rfl)⟩) rfl hl.1 rfl (Nat.le_of_ble_eq_true rfl) dX5_say_5
  refine mc_i (wr := ((wG  aG0 aK0 aE0 aF0 aP0 aD0 aM0 aC0 gg) ++ (wP cI aP0 aP1 pp))) hr hP hD hS hA [] [0, 1, 2] [0, 1, 2] rfl rfl rfl rfl rfl (wn := fun _ => ((wG  aG0 aK0 aE0 aF0 aP0 aD0 aM0 aC0 gg) ++ (wP cI aP0 aP1 pp))) (fun _ => rfl) (fun r_5 _ H locs hw_5 hP hD hS => ?_)
  obtain ⟨hw_5, z_5⟩ := hw_5
  have hP : va_P δ vwCl ((wG  aG0 aK0 aE0 aF0 aP0 aD0 aM0 aC0 gg) ++ (wP cI aP0 aP1 pp)) H := hP
  have hD : va_D A ((wG  aG0 aK0 aE0 aF0 aP0 aD0 aM0 aC0 gg) ++ (wP cI aP0 aP1 pp)) := hD
  have hR := bnd_eq hR hw_5.symm
  refine lv_if_ne (tgt := 14) hx hb dX5_say_8 (by decide) (fun c_8 => ?_) (fun c_8 => ?_)
  · have c_8 : ¬ (r_5 = 0) := c_8
    have hR := hR.trans (if_neg c_8)
    refine lv_aload_n hx hb dX5_say_14 rfl (lv_at hl 0 rfl) ?_
    refine va_get (D := δ) (ci := 5) (v := .ref aP0) (C := RX5) (T := TX5) (N := 9) hx hb hts hinX5 hown hK hP 0 rfl rfl 5 (by decide) (hts (.fieldLink RX5 25 "GloveHours" "pad" "LGloveHours$Pad;") (List.mem_of_getElem? (i := 1) rfl)) (fun _ h9 => h9) rfl dX5_say_15 ?_
    refine lv_iload_n hx hb dX5_say_18 rfl (lv_at hl 1 rfl) ?_
    have hr := mrV (p := p) (e := e) (R := rm_X5_say) (below := below) (meth := meth) (H := H) (locs := locs) (ls := ls) (As := [.int xs]) (rest := []) (c_X4_append l δ cI cJ cZ aP0 aP1 pp xs) hx hb hml hts hown hK hNW hP hD [1, 2] rfl rfl 4 0 rfl rfl (cwV 1 hts gX5_say_X4_append rfl rfl rfl (by decide +kernel) ⟨(Nat.le_of_ble_eq_true rfl), (Nat.le_of_ble_eq_true rfl)⟩) rfl hl.1 rfl (Nat.le_of_ble_eq_true rfl) dX5_say_19
    refine mc_i (wr := (wG  aG0 aK0 aE0 aF0 aP0 aD0 aM0 aC0 gg)) hr hP hD hS hA [1, 2] [0] [0, 1, 2] rfl rfl rfl rfl rfl (wn := fun u_19 => ((wG  aG0 aK0 aE0 aF0 aP0 aD0 aM0 aC0 gg) ++ (wP cI aP0 aP1 u_19))) (fun _ => rfl) (fun r_19 u_19 H locs hw_19 hP hD hS => ?_)
    obtain ⟨hw_19, z_19⟩ := hw_19
    have hP : va_P δ vwCl ((wG  aG0 aK0 aE0 aF0 aP0 aD0 aM0 aC0 gg) ++ (wP cI aP0 aP1 u_19)) H := hP
    have hD : va_D A ((wG  aG0 aK0 aE0 aF0 aP0 aD0 aM0 aC0 gg) ++ (wP cI aP0 aP1 u_19)) := hD
    have hR := bnd_eq hR hw_19.symm
    refine lv_if_eq (tgt := 35) hx hb dX5_say_22 (by decide) (fun c_22 => ?_) (fun c_22 => ?_)
    · have c_22 : (r_19 = 0) := c_22
      have hR := hR.trans (if_pos c_22)
      refine lv_bipush (v := (-4 : Int32)) hx hb dX5_say_35 (by decide) ?_
      exact hret _ _ (-4 : Int32) u_19 _ _ hR hP hD hS dX5_say_37
    · have c_22 : ¬ (r_19 = 0) := c_22
      have hR := hR.trans (if_neg c_22)
      refine lv_aload_n hx hb dX5_say_25 rfl (lv_at hl 0 rfl) ?_
      refine va_get (D := δ) (ci := 5) (v := .ref aP0) (C := RX5) (T := TX5) (N := 9) hx hb hts hinX5 hown hK hP 0 rfl rfl 5 (by decide) (hts (.fieldLink RX5 25 "GloveHours" "pad" "LGloveHours$Pad;") (List.mem_of_getElem? (i := 1) rfl)) (fun _ h9 => h9) rfl dX5_say_26 ?_
      refine va_get (D := δ) (ci := 4) (v := .int (pLength u_19)) (C := RX4) (T := TX4) (N := 2) hx hb hts hinX4 hown hK hP 1 rfl rfl 0 (by decide) (hts (.fieldLink RX5 86 "GloveHours$Pad" "length" "I") (List.mem_of_getElem? (i := 2) rfl)) (fun _ h9 => h9) rfl dX5_say_29 ?_
      refine lv_goto (tgt := 37) hx hb dX5_say_32 (by decide) ?_
      exact hret _ _ (pLength u_19) u_19 _ _ hR hP hD hS dX5_say_37
  · have c_8 : (r_5 = 0) := c_8
    have hR := hR.trans (if_pos c_8)
    refine lv_bipush (v := (-2 : Int32)) hx hb dX5_say_11 (by decide) ?_
    exact hret _ _ (-2 : Int32) pp _ _ hR hP hD hS dX5_say_13

abbrev rm_X5_wipe : Room := { frames := 0, cells := 0, slots := 0, locals := 0 }
set_option maxHeartbeats 4000000 in
set_option maxRecDepth 100000 in
theorem c_X5_wipe (l : Launch) (δ : va_G) (cI cJ cZ : ClassId) (aG0 aP0 aP1 aK0 aE0 aF0 aD0 aM0 aC0 : Nat) (gg : GS) (pp : PS) : mMi l δ (mTy cI cJ cZ) yX5_wipe wsX5_wipe rm_X5_wipe [.ref aG0] ((wG  aG0 aK0 aE0 aF0 aP0 aD0 aM0 aC0 gg) ++ (wP cI aP0 aP1 pp)) (S := PS) (fun r u => F_X5_wipe pp = (r, u)) (fun u => ((wG  aG0 aK0 aE0 aF0 aP0 aD0 aM0 aC0 gg) ++ (wP cI aP0 aP1 u))) := by
  refine mk_i (cc := cX5_wipe) (maxL := 2) (by decide) rfl (Nat.le_of_ble_eq_true rfl) ?_
  intro p e s m args below meth c A Q ls H locs hx hb hml hts hown hK hNW hA hP hD hS hl hret
  have hown : s.vm.findClass RX5 = some m.cls := hown
  have hl : lv_has ls 2 [(0, .ref aG0)] := hl
  have hinX4 : ∀ w ∈ u_ws RX4 TX4 2, w ∈ wsX5_wipe := (fun _ h => List.mem_cons_of_mem _ (List.mem_append_right _ (h)))
  have hinX5 : ∀ w ∈ u_ws RX5 TX5 9, w ∈ wsX5_wipe := (fun _ h => List.mem_cons_of_mem _ (List.mem_append_left _ (List.mem_append_right _ (h))))
  have hR := F_X5_wipe.eq_1 pp
  refine lv_aload_n hx hb dX5_wipe_0 rfl (lv_at hl 0 rfl) ?_
  refine va_get (D := δ) (ci := 5) (v := .ref aP0) (C := RX5) (T := TX5) (N := 9) hx hb hts hinX5 hown hK hP 0 rfl rfl 5 (by decide) (hts (.fieldLink RX5 25 "GloveHours" "pad" "LGloveHours$Pad;") (List.mem_of_getElem? (i := 1) rfl)) (fun _ h9 => h9) rfl dX5_wipe_1 ?_
  refine va_get (D := δ) (ci := 4) (v := .int (pLength pp)) (C := RX4) (T := TX4) (N := 2) hx hb hts hinX4 hown hK hP 1 rfl rfl 0 (by decide) (hts (.fieldLink RX5 86 "GloveHours$Pad" "length" "I") (List.mem_of_getElem? (i := 2) rfl)) (fun _ h9 => h9) rfl dX5_wipe_4 ?_
  refine lv_istore_n (lv' := [(1, .int (pLength pp)), (0, .ref aG0)]) hx hb dX5_wipe_7 rfl hl (by decide) rfl (fun ls hl => ?_)
  refine lv_aload_n hx hb dX5_wipe_8 rfl (lv_at hl 1 rfl) ?_
  refine va_get (D := δ) (ci := 5) (v := .ref aP0) (C := RX5) (T := TX5) (N := 9) hx hb hts hinX5 hown hK hP 0 rfl rfl 5 (by decide) (hts (.fieldLink RX5 25 "GloveHours" "pad" "LGloveHours$Pad;") (List.mem_of_getElem? (i := 1) rfl)) (fun _ h9 => h9) rfl dX5_wipe_9 ?_
  refine lv_iconst (v := (0 : Int32)) hx hb dX5_wipe_12 (by decide) ?_
  refine va_put (D := δ) (ci := 4) (v := .int (0 : Int32)) (ty := .int) (C := RX4) (T := TX4) (N := 2) hx hb hts hinX4 tyX4 tyX4_ok nmX4 hown hK hP hD hS 1 rfl rfl 0 (by decide) (hts (.fieldLink RX5 86 "GloveHours$Pad" "length" "I") (List.mem_of_getElem? (i := 2) rfl)) (fun _ h9 => h9) rfl (by decide +kernel) rfl rfl (Nat.le_of_ble_eq_true rfl) dX5_wipe_13 (fun H locs hP hD hS => ?_)
  have hP : va_P δ vwCl ((wG  aG0 aK0 aE0 aF0 aP0 aD0 aM0 aC0 gg) ++ (wP cI aP0 aP1 ((0 : Int32), pSigns pp))) H := hP
  have hD : va_D A ((wG  aG0 aK0 aE0 aF0 aP0 aD0 aM0 aC0 gg) ++ (wP cI aP0 aP1 ((0 : Int32), pSigns pp))) := hD
  refine lv_iload_n hx hb dX5_wipe_16 rfl (lv_at hl 0 rfl) ?_
  exact hret _ _ (pLength pp) ((0 : Int32), pSigns pp) _ _ hR hP hD hS dX5_wipe_17

abbrev rm_X5_fault : Room := { frames := 4, cells := 0, slots := 0, locals := 83 }
set_option maxHeartbeats 4000000 in
set_option maxRecDepth 100000 in
theorem c_X5_fault (l : Launch) (δ : va_G) (cI cJ cZ : ClassId) (aG0 aP0 aP1 aK0 aE0 aF0 aD0 aM0 aC0 : Nat) (gg : GS) (pp : PS) : mMi l δ (mTy cI cJ cZ) yX5_fault wsX5_fault rm_X5_fault [.ref aG0] ((wG  aG0 aK0 aE0 aF0 aP0 aD0 aM0 aC0 gg) ++ (wP cI aP0 aP1 pp)) (S := Unit) (fun r _ => F_X5_fault pp = r) (fun _ => ((wG  aG0 aK0 aE0 aF0 aP0 aD0 aM0 aC0 gg) ++ (wP cI aP0 aP1 pp))) := by
  refine mk_i (cc := cX5_fault) (maxL := 1) (by decide) rfl (Nat.le_of_ble_eq_true rfl) ?_
  intro p e s m args below meth c A Q ls H locs hx hb hml hts hown hK hNW hA hP hD hS hl hret
  have hown : s.vm.findClass RX5 = some m.cls := hown
  have hl : lv_has ls 1 [(0, .ref aG0)] := hl
  have hinX5 : ∀ w ∈ u_ws RX5 TX5 9, w ∈ wsX5_fault := (fun _ h => List.mem_cons_of_mem _ (List.mem_append_left _ (List.mem_append_right _ (h))))
  have hR := F_X5_fault.eq_1 pp
  refine lv_aload_n hx hb dX5_fault_0 rfl (lv_at hl 0 rfl) ?_
  refine va_get (D := δ) (ci := 5) (v := .ref aP0) (C := RX5) (T := TX5) (N := 9) hx hb hts hinX5 hown hK hP 0 rfl rfl 5 (by decide) (hts (.fieldLink RX5 25 "GloveHours" "pad" "LGloveHours$Pad;") (List.mem_of_getElem? (i := 1) rfl)) (fun _ h9 => h9) rfl dX5_fault_1 ?_
  have hr := mrV (p := p) (e := e) (R := rm_X5_fault) (below := below) (meth := meth) (H := H) (locs := locs) (ls := ls) (As := []) (rest := []) (c_X4_firstFault l δ cI cJ cZ aP0 aP1 pp) hx hb hml hts hown hK hNW hP hD [1, 2] rfl rfl 4 0 rfl rfl (cwV 0 hts gX5_fault_X4_firstFault rfl rfl rfl (by decide +kernel) ⟨(Nat.le_of_ble_eq_true rfl), (Nat.le_of_ble_eq_true rfl)⟩) rfl hl.1 rfl (Nat.le_of_ble_eq_true rfl) dX5_fault_4
  refine mc_i (wr := (wG  aG0 aK0 aE0 aF0 aP0 aD0 aM0 aC0 gg)) hr hP hD hS hA [1, 2] [0] [0, 1, 2] rfl rfl rfl rfl rfl (wn := fun _ => ((wG  aG0 aK0 aE0 aF0 aP0 aD0 aM0 aC0 gg) ++ (wP cI aP0 aP1 pp))) (fun _ => rfl) (fun r_4 _ H locs hw_4 hP hD hS => ?_)
  have hP : va_P δ vwCl ((wG  aG0 aK0 aE0 aF0 aP0 aD0 aM0 aC0 gg) ++ (wP cI aP0 aP1 pp)) H := hP
  have hD : va_D A ((wG  aG0 aK0 aE0 aF0 aP0 aD0 aM0 aC0 gg) ++ (wP cI aP0 aP1 pp)) := hD
  have hR := bnd_eq hR hw_4.symm
  exact hret _ _ r_4 () _ _ hR hP hD hS dX5_fault_7

abbrev rm_X5_judge : Room := { frames := 6, cells := 0, slots := 0, locals := 139 }
set_option maxHeartbeats 4000000 in
set_option maxRecDepth 100000 in
theorem c_X5_judge (l : Launch) (δ : va_G) (cI cJ cZ : ClassId) (aG0 aK0 aK1 aK2 aK3 aK4 aK5 aP0 aP1 aD0 aD1 aD2 aD3 aD4 aT0 aT1 aT2 aT3 aT4 aT5 aE0 aF0 aM0 aC0 : Nat) (gg : GS) (k : KS) (pp : PS) (dy : DS) (kT : KS) (xw : Int32) : mMi l δ (mTy cI cJ cZ) yX5_judge wsX5_judge rm_X5_judge [.ref aG0, .int xw] ((wG  aG0 aK0 aE0 aF0 aP0 aD0 aM0 aC0 gg) ++ (wK cI aK0 aK1 aK2 aK3 aK4 aK5 k) ++ (wP cI aP0 aP1 pp) ++ (wD cI aD0 aD1 aD2 aD3 aD4 aT0 dy) ++ (wK cI aT0 aT1 aT2 aT3 aT4 aT5 kT)) (S := DS × KS) (fun r u => F_X5_judge k pp dy kT xw = (r, u)) (fun u => ((wG  aG0 aK0 aE0 aF0 aP0 aD0 aM0 aC0 gg) ++ (wK cI aK0 aK1 aK2 aK3 aK4 aK5 k) ++ (wP cI aP0 aP1 pp) ++ (wD cI aD0 aD1 aD2 aD3 aD4 aT0 u.1) ++ (wK cI aT0 aT1 aT2 aT3 aT4 aT5 u.2))) := by
  refine mk_i (cc := cX5_judge) (maxL := 3) (by decide) rfl (Nat.le_of_ble_eq_true rfl) ?_
  intro p e s m args below meth c A Q ls H locs hx hb hml hts hown hK hNW hA hP hD hS hl hret
  have hown : s.vm.findClass RX5 = some m.cls := hown
  have hl : lv_has ls 3 [(0, .ref aG0), (1, .int xw)] := hl
  have hinX2 : ∀ w ∈ u_ws RX2 TX2 9, w ∈ wsX5_judge := (fun _ h => List.mem_cons_of_mem _ (List.mem_append_left _ (List.mem_append_left _ (List.mem_append_right _ (h)))))
  have hinX5 : ∀ w ∈ u_ws RX5 TX5 9, w ∈ wsX5_judge := (fun _ h => List.mem_cons_of_mem _ (List.mem_append_left _ (List.mem_append_left _ (List.mem_append_left _ (List.mem_append_right _ (h))))))
  have hR := F_X5_judge.eq_1 k pp dy kT xw
  refine lv_iload_n hx hb dX5_judge_0 rfl (lv_at hl 1 rfl) ?_
  refine lv_iconst (v := (0 : Int32)) hx hb dX5_judge_1 (by decide) ?_
  refine lv_iconst (v := (2 : Int32)) hx hb dX5_judge_2 (by decide) ?_
  have hr := mrS (p := p) (e := e) (R := rm_X5_judge) (below := below) (meth := meth) (H := H) (locs := locs) (ls := ls) (As := [.int xw, .int (0 : Int32), .int (2 : Int32)]) (rest := []) (c_X5_isWithin l δ cI cJ cZ xw (0 : Int32) (2 : Int32)) hx hb hml hts hown hK hNW hP hD [] rfl rfl (va_cwS 3 hts gX5_judge_X5_isWithin rfl rfl rfl (by decide +kernel) ⟨(Nat.le_of_ble_eq_true rfl), (Nat.le_of_ble_eq_true rfl)⟩) rfl hl.1 rfl (Nat.le_of_ble_eq_true rfl) dX5_judge_3
  refine mc_i (wr := ((wG  aG0 aK0 aE0 aF0 aP0 aD0 aM0 aC0 gg) ++ (wK cI aK0 aK1 aK2 aK3 aK4 aK5 k) ++ (wP cI aP0 aP1 pp) ++ (wD cI aD0 aD1 aD2 aD3 aD4 aT0 dy) ++ (wK cI aT0 aT1 aT2 aT3 aT4 aT5 kT))) hr hP hD hS hA [] [0, 1, 2, 3, 4, 5, 6, 7, 8, 9, 10, 11, 12, 13, 14, 15, 16, 17, 18, 19] [0, 1, 2, 3, 4, 5, 6, 7, 8, 9, 10, 11, 12, 13, 14, 15, 16, 17, 18, 19] rfl rfl rfl rfl rfl (wn := fun _ => ((wG  aG0 aK0 aE0 aF0 aP0 aD0 aM0 aC0 gg) ++ (wK cI aK0 aK1 aK2 aK3 aK4 aK5 k) ++ (wP cI aP0 aP1 pp) ++ (wD cI aD0 aD1 aD2 aD3 aD4 aT0 dy) ++ (wK cI aT0 aT1 aT2 aT3 aT4 aT5 kT))) (fun _ => rfl) (fun r_3 _ H locs hw_3 hP hD hS => ?_)
  obtain ⟨hw_3, z_3⟩ := hw_3
  have hP : va_P δ vwCl ((wG  aG0 aK0 aE0 aF0 aP0 aD0 aM0 aC0 gg) ++ (wK cI aK0 aK1 aK2 aK3 aK4 aK5 k) ++ (wP cI aP0 aP1 pp) ++ (wD cI aD0 aD1 aD2 aD3 aD4 aT0 dy) ++ (wK cI aT0 aT1 aT2 aT3 aT4 aT5 kT)) H := hP
  have hD : va_D A ((wG  aG0 aK0 aE0 aF0 aP0 aD0 aM0 aC0 gg) ++ (wK cI aK0 aK1 aK2 aK3 aK4 aK5 k) ++ (wP cI aP0 aP1 pp) ++ (wD cI aD0 aD1 aD2 aD3 aD4 aT0 dy) ++ (wK cI aT0 aT1 aT2 aT3 aT4 aT5 kT)) := hD
  have hR := bnd_eq hR hw_3.symm
  refine lv_if_ne (tgt := 12) hx hb dX5_judge_6 (by decide) (fun c_6 => ?_) (fun c_6 => ?_)
  · have c_6 : ¬ (r_3 = 0) := c_6
    have hR := hR.trans (if_neg c_6)
    refine lv_aload_n hx hb dX5_judge_12 rfl (lv_at hl 0 rfl) ?_
    refine va_get (D := δ) (ci := 5) (v := .ref aD0) (C := RX5) (T := TX5) (N := 9) hx hb hts hinX5 hown hK hP 0 rfl rfl 6 (by decide) (hts (.fieldLink RX5 32 "GloveHours" "day" "LGloveHours$Day;") (List.mem_of_getElem? (i := 1) rfl)) (fun _ h9 => h9) rfl dX5_judge_13 ?_
    refine lv_aload_n hx hb dX5_judge_16 rfl (lv_at hl 0 rfl) ?_
    refine va_get (D := δ) (ci := 5) (v := .ref aK0) (C := RX5) (T := TX5) (N := 9) hx hb hts hinX5 hown hK hP 0 rfl rfl 0 (by decide) (hts (.fieldLink RX5 10 "GloveHours" "court" "LGloveHours$Court;") (List.mem_of_getElem? (i := 2) rfl)) (fun _ h9 => h9) rfl dX5_judge_17 ?_
    refine lv_aload_n hx hb dX5_judge_20 rfl (lv_at hl 0 rfl) ?_
    refine va_get (D := δ) (ci := 5) (v := .ref aP0) (C := RX5) (T := TX5) (N := 9) hx hb hts hinX5 hown hK hP 0 rfl rfl 5 (by decide) (hts (.fieldLink RX5 25 "GloveHours" "pad" "LGloveHours$Pad;") (List.mem_of_getElem? (i := 3) rfl)) (fun _ h9 => h9) rfl dX5_judge_21 ?_
    have hr := mrV (p := p) (e := e) (R := rm_X5_judge) (below := below) (meth := meth) (H := H) (locs := locs) (ls := ls) (As := [.ref aK0, .ref aP0]) (rest := []) (c_X2_playPad l δ cI cJ cZ aD0 aD1 aD2 aD3 aD4 aT0 aT1 aT2 aT3 aT4 aT5 aK0 aK1 aK2 aK3 aK4 aK5 aP0 aP1 dy kT k pp) hx hb hml hts hown hK hNW hP hD [9, 10, 11, 12, 13, 14, 15, 16, 17, 18, 19, 1, 2, 3, 4, 5, 6, 7, 8] rfl rfl 2 0 rfl rfl (cwV 2 hts gX5_judge_X2_playPad rfl rfl rfl (by decide +kernel) ⟨(Nat.le_of_ble_eq_true rfl), (Nat.le_of_ble_eq_true rfl)⟩) rfl hl.1 rfl (Nat.le_of_ble_eq_true rfl) dX5_judge_24
    refine mc_i (wr := (wG  aG0 aK0 aE0 aF0 aP0 aD0 aM0 aC0 gg)) hr hP hD hS hA [9, 10, 11, 12, 13, 14, 15, 16, 17, 18, 19, 1, 2, 3, 4, 5, 6, 7, 8] [0] [0, 12, 13, 14, 15, 16, 17, 18, 19, 1, 2, 3, 4, 5, 6, 7, 8, 9, 10, 11] rfl rfl rfl rfl rfl (wn := fun u_24 => ((wG  aG0 aK0 aE0 aF0 aP0 aD0 aM0 aC0 gg) ++ (wK cI aK0 aK1 aK2 aK3 aK4 aK5 k) ++ (wP cI aP0 aP1 pp) ++ (wD cI aD0 aD1 aD2 aD3 aD4 aT0 u_24.1) ++ (wK cI aT0 aT1 aT2 aT3 aT4 aT5 u_24.2))) (fun _ => rfl) (fun r_24 u_24 H locs hw_24 hP hD hS => ?_)
    have hP : va_P δ vwCl ((wG  aG0 aK0 aE0 aF0 aP0 aD0 aM0 aC0 gg) ++ (wK cI aK0 aK1 aK2 aK3 aK4 aK5 k) ++ (wP cI aP0 aP1 pp) ++ (wD cI aD0 aD1 aD2 aD3 aD4 aT0 u_24.1) ++ (wK cI aT0 aT1 aT2 aT3 aT4 aT5 u_24.2)) H := hP
    have hD : va_D A ((wG  aG0 aK0 aE0 aF0 aP0 aD0 aM0 aC0 gg) ++ (wK cI aK0 aK1 aK2 aK3 aK4 aK5 k) ++ (wP cI aP0 aP1 pp) ++ (wD cI aD0 aD1 aD2 aD3 aD4 aT0 u_24.1) ++ (wK cI aT0 aT1 aT2 aT3 aT4 aT5 u_24.2)) := hD
    have hR := bnd_eq hR hw_24.symm
    refine lv_istore_n (lv' := [(2, .int r_24), (0, .ref aG0), (1, .int xw)]) hx hb dX5_judge_27 rfl hl (by decide) rfl (fun ls hl => ?_)
    refine lv_iload_n hx hb dX5_judge_28 rfl (lv_at hl 0 rfl) ?_
    refine lv_bipush (v := (-5 : Int32)) hx hb dX5_judge_29 (by decide) ?_
    refine lv_icmp_ne (tgt := 37) hx hb dX5_judge_31 (by decide) (fun c_31 => ?_) (fun c_31 => ?_)
    · have c_31 : ¬ (r_24 = (-5 : Int32)) := c_31
      have hR := hR.trans (if_neg c_31)
      refine lv_iload_n hx hb dX5_judge_37 rfl (lv_at hl 2 rfl) ?_
      refine lv_iconst (v := (2 : Int32)) hx hb dX5_judge_38 (by decide) ?_
      refine lv_icmp_ne (tgt := 61) hx hb dX5_judge_39 (by decide) (fun c_39 => ?_) (fun c_39 => ?_)
      · have c_39 : ¬ (xw = (2 : Int32)) := c_39
        have hR := hR.trans (if_neg c_39)
        refine lv_iload_n hx hb dX5_judge_61 rfl (lv_at hl 2 rfl) ?_
        refine lv_if_ne (tgt := 75) hx hb dX5_judge_62 (by decide) (fun c_62 => ?_) (fun c_62 => ?_)
        · have c_62 : ¬ (xw = 0) := c_62
          have hR := hR.trans (if_neg c_62)
          refine lv_aload_n hx hb dX5_judge_75 rfl (lv_at hl 1 rfl) ?_
          refine va_get (D := δ) (ci := 5) (v := .ref aD0) (C := RX5) (T := TX5) (N := 9) hx hb hts hinX5 hown hK hP 0 rfl rfl 6 (by decide) (hts (.fieldLink RX5 32 "GloveHours" "day" "LGloveHours$Day;") (List.mem_of_getElem? (i := 1) rfl)) (fun _ h9 => h9) rfl dX5_judge_76 ?_
          refine va_get (D := δ) (ci := 2) (v := .int (dStoppedWhy u_24.1)) (C := RX2) (T := TX2) (N := 9) hx hb hts hinX2 hown hK hP 9 rfl rfl 4 (by decide) (hts (.fieldLink RX5 103 "GloveHours$Day" "stoppedWhy" "I") (List.mem_of_getElem? (i := 6) rfl)) (fun _ h9 => h9) rfl dX5_judge_79 ?_
          exact hret _ _ (dStoppedWhy u_24.1) (u_24.1, u_24.2) _ _ hR hP hD hS dX5_judge_82
        · have c_62 : (xw = 0) := c_62
          have hR := hR.trans (if_pos c_62)
          refine lv_aload_n hx hb dX5_judge_65 rfl (lv_at hl 1 rfl) ?_
          refine va_get (D := δ) (ci := 5) (v := .ref aD0) (C := RX5) (T := TX5) (N := 9) hx hb hts hinX5 hown hK hP 0 rfl rfl 6 (by decide) (hts (.fieldLink RX5 32 "GloveHours" "day" "LGloveHours$Day;") (List.mem_of_getElem? (i := 1) rfl)) (fun _ h9 => h9) rfl dX5_judge_66 ?_
          refine va_get (D := δ) (ci := 2) (v := .int (dStoppedAct u_24.1)) (C := RX2) (T := TX2) (N := 9) hx hb hts hinX2 hown hK hP 9 rfl rfl 3 (by decide) (hts (.fieldLink RX5 100 "GloveHours$Day" "stoppedAct" "I") (List.mem_of_getElem? (i := 5) rfl)) (fun _ h9 => h9) rfl dX5_judge_69 ?_
          refine lv_goto (tgt := 82) hx hb dX5_judge_72 (by decide) ?_
          exact hret _ _ (dStoppedAct u_24.1) (u_24.1, u_24.2) _ _ hR hP hD hS dX5_judge_82
      · have c_39 : (xw = (2 : Int32)) := c_39
        have hR := hR.trans (if_pos c_39)
        refine lv_iload_n hx hb dX5_judge_42 rfl (lv_at hl 0 rfl) ?_
        refine lv_bipush (v := (-3 : Int32)) hx hb dX5_judge_43 (by decide) ?_
        refine lv_icmp_ne (tgt := 53) hx hb dX5_judge_45 (by decide) (fun c_45 => ?_) (fun c_45 => ?_)
        · have c_45 : ¬ (r_24 = (-3 : Int32)) := c_45
          have hR := hR.trans (if_neg c_45)
          refine lv_aload_n hx hb dX5_judge_53 rfl (lv_at hl 1 rfl) ?_
          refine va_get (D := δ) (ci := 5) (v := .ref aD0) (C := RX5) (T := TX5) (N := 9) hx hb hts hinX5 hown hK hP 0 rfl rfl 6 (by decide) (hts (.fieldLink RX5 32 "GloveHours" "day" "LGloveHours$Day;") (List.mem_of_getElem? (i := 1) rfl)) (fun _ h9 => h9) rfl dX5_judge_54 ?_
          refine va_get (D := δ) (ci := 2) (v := .int (dDeeds u_24.1)) (C := RX2) (T := TX2) (N := 9) hx hb hts hinX2 hown hK hP 9 rfl rfl 2 (by decide) (hts (.fieldLink RX5 97 "GloveHours$Day" "deeds" "I") (List.mem_of_getElem? (i := 4) rfl)) (fun _ h9 => h9) rfl dX5_judge_57 ?_
          exact hret _ _ (dDeeds u_24.1) (u_24.1, u_24.2) _ _ hR hP hD hS dX5_judge_60
        · have c_45 : (r_24 = (-3 : Int32)) := c_45
          have hR := hR.trans (if_pos c_45)
          refine lv_bipush (v := (-3 : Int32)) hx hb dX5_judge_48 (by decide) ?_
          refine lv_goto (tgt := 60) hx hb dX5_judge_50 (by decide) ?_
          exact hret _ _ (-3 : Int32) (u_24.1, u_24.2) _ _ hR hP hD hS dX5_judge_60
    · have c_31 : (r_24 = (-5 : Int32)) := c_31
      have hR := hR.trans (if_pos c_31)
      refine lv_bipush (v := (-5 : Int32)) hx hb dX5_judge_34 (by decide) ?_
      exact hret _ _ (-5 : Int32) (u_24.1, u_24.2) _ _ hR hP hD hS dX5_judge_36
  · have c_6 : (r_3 = 0) := c_6
    have hR := hR.trans (if_pos c_6)
    refine lv_bipush (v := (-2 : Int32)) hx hb dX5_judge_9 (by decide) ?_
    exact hret _ _ (-2 : Int32) (dy, kT) _ _ hR hP hD hS dX5_judge_11

abbrev rm_X5_behind : Room := { frames := 6, cells := 0, slots := 0, locals := 139 }
set_option maxHeartbeats 4000000 in
set_option maxRecDepth 100000 in
theorem c_X5_behind (l : Launch) (δ : va_G) (cI cJ cZ : ClassId) (aG0 aK0 aK1 aK2 aK3 aK4 aK5 aP0 aP1 aD0 aD1 aD2 aD3 aD4 aT0 aT1 aT2 aT3 aT4 aT5 aE0 aF0 aM0 aC0 : Nat) (gg : GS) (k : KS) (pp : PS) (dy : DS) (kT : KS) (xc : Int32) (xw : Int32) : mMi l δ (mTy cI cJ cZ) yX5_behind wsX5_behind rm_X5_behind [.ref aG0, .int xc, .int xw] ((wG  aG0 aK0 aE0 aF0 aP0 aD0 aM0 aC0 gg) ++ (wK cI aK0 aK1 aK2 aK3 aK4 aK5 k) ++ (wP cI aP0 aP1 pp) ++ (wD cI aD0 aD1 aD2 aD3 aD4 aT0 dy) ++ (wK cI aT0 aT1 aT2 aT3 aT4 aT5 kT)) (S := DS × KS) (fun r u => F_X5_behind k pp dy kT xc xw = (r, u)) (fun u => ((wG  aG0 aK0 aE0 aF0 aP0 aD0 aM0 aC0 gg) ++ (wK cI aK0 aK1 aK2 aK3 aK4 aK5 k) ++ (wP cI aP0 aP1 pp) ++ (wD cI aD0 aD1 aD2 aD3 aD4 aT0 u.1) ++ (wK cI aT0 aT1 aT2 aT3 aT4 aT5 u.2))) := by
  refine mk_i (cc := cX5_behind) (maxL := 4) (by decide) rfl (Nat.le_of_ble_eq_true rfl) ?_
  intro p e s m args below meth c A Q ls H locs hx hb hml hts hown hK hNW hA hP hD hS hl hret
  have hown : s.vm.findClass RX5 = some m.cls := hown
  have hl : lv_has ls 4 [(0, .ref aG0), (1, .int xc), (2, .int xw)] := hl
  have hinX2 : ∀ w ∈ u_ws RX2 TX2 9, w ∈ wsX5_behind := (fun _ h => List.mem_cons_of_mem _ (List.mem_append_left _ (List.mem_append_left _ (List.mem_append_right _ (h)))))
  have hinX5 : ∀ w ∈ u_ws RX5 TX5 9, w ∈ wsX5_behind := (fun _ h => List.mem_cons_of_mem _ (List.mem_append_left _ (List.mem_append_left _ (List.mem_append_left _ (List.mem_append_right _ (h))))))
  have hR := F_X5_behind.eq_1 k pp dy kT xc xw
  refine lv_aload_n hx hb dX5_behind_0 rfl (lv_at hl 0 rfl) ?_
  refine va_get (D := δ) (ci := 5) (v := .ref aK0) (C := RX5) (T := TX5) (N := 9) hx hb hts hinX5 hown hK hP 0 rfl rfl 0 (by decide) (hts (.fieldLink RX5 10 "GloveHours" "court" "LGloveHours$Court;") (List.mem_of_getElem? (i := 1) rfl)) (fun _ h9 => h9) rfl dX5_behind_1 ?_
  refine lv_iload_n hx hb dX5_behind_4 rfl (lv_at hl 1 rfl) ?_
  have hr := mrV (p := p) (e := e) (R := rm_X5_behind) (below := below) (meth := meth) (H := H) (locs := locs) (ls := ls) (As := [.int xc]) (rest := []) (c_X1_isThere l δ cI cJ cZ aK0 aK1 aK2 aK3 aK4 aK5 k xc) hx hb hml hts hown hK hNW hP hD [1, 2, 3, 4, 5, 6] rfl rfl 1 0 rfl rfl (cwV 1 hts gX5_behind_X1_isThere rfl rfl rfl (by decide +kernel) ⟨(Nat.le_of_ble_eq_true rfl), (Nat.le_of_ble_eq_true rfl)⟩) rfl hl.1 rfl (Nat.le_of_ble_eq_true rfl) dX5_behind_5
  refine mc_i (wr := ((wG  aG0 aK0 aE0 aF0 aP0 aD0 aM0 aC0 gg) ++ (wP cI aP0 aP1 pp) ++ (wD cI aD0 aD1 aD2 aD3 aD4 aT0 dy) ++ (wK cI aT0 aT1 aT2 aT3 aT4 aT5 kT))) hr hP hD hS hA [1, 2, 3, 4, 5, 6] [0, 7, 8, 9, 10, 11, 12, 13, 14, 15, 16, 17, 18, 19] [0, 14, 15, 16, 17, 18, 19, 1, 2, 3, 4, 5, 6, 7, 8, 9, 10, 11, 12, 13] rfl rfl rfl rfl rfl (wn := fun _ => ((wG  aG0 aK0 aE0 aF0 aP0 aD0 aM0 aC0 gg) ++ (wK cI aK0 aK1 aK2 aK3 aK4 aK5 k) ++ (wP cI aP0 aP1 pp) ++ (wD cI aD0 aD1 aD2 aD3 aD4 aT0 dy) ++ (wK cI aT0 aT1 aT2 aT3 aT4 aT5 kT))) (fun _ => rfl) (fun r_5 _ H locs hw_5 hP hD hS => ?_)
  obtain ⟨hw_5, z_5⟩ := hw_5
  have hP : va_P δ vwCl ((wG  aG0 aK0 aE0 aF0 aP0 aD0 aM0 aC0 gg) ++ (wK cI aK0 aK1 aK2 aK3 aK4 aK5 k) ++ (wP cI aP0 aP1 pp) ++ (wD cI aD0 aD1 aD2 aD3 aD4 aT0 dy) ++ (wK cI aT0 aT1 aT2 aT3 aT4 aT5 kT)) H := hP
  have hD : va_D A ((wG  aG0 aK0 aE0 aF0 aP0 aD0 aM0 aC0 gg) ++ (wK cI aK0 aK1 aK2 aK3 aK4 aK5 k) ++ (wP cI aP0 aP1 pp) ++ (wD cI aD0 aD1 aD2 aD3 aD4 aT0 dy) ++ (wK cI aT0 aT1 aT2 aT3 aT4 aT5 kT)) := hD
  have hR := bnd_eq hR hw_5.symm
  refine lv_if_ne (tgt := 13) hx hb dX5_behind_8 (by decide) (fun c_8 => ?_) (fun c_8 => ?_)
  · have c_8 : ¬ (r_5 = 0) := c_8
    have hR := hR.trans (if_neg c_8)
    refine lv_iload_n hx hb dX5_behind_13 rfl (lv_at hl 2 rfl) ?_
    refine lv_iconst (v := (0 : Int32)) hx hb dX5_behind_14 (by decide) ?_
    refine lv_iconst (v := (3 : Int32)) hx hb dX5_behind_15 (by decide) ?_
    have hr := mrS (p := p) (e := e) (R := rm_X5_behind) (below := below) (meth := meth) (H := H) (locs := locs) (ls := ls) (As := [.int xw, .int (0 : Int32), .int (3 : Int32)]) (rest := []) (c_X5_isWithin l δ cI cJ cZ xw (0 : Int32) (3 : Int32)) hx hb hml hts hown hK hNW hP hD [] rfl rfl (va_cwS 3 hts gX5_behind_X5_isWithin rfl rfl rfl (by decide +kernel) ⟨(Nat.le_of_ble_eq_true rfl), (Nat.le_of_ble_eq_true rfl)⟩) rfl hl.1 rfl (Nat.le_of_ble_eq_true rfl) dX5_behind_16
    refine mc_i (wr := ((wG  aG0 aK0 aE0 aF0 aP0 aD0 aM0 aC0 gg) ++ (wK cI aK0 aK1 aK2 aK3 aK4 aK5 k) ++ (wP cI aP0 aP1 pp) ++ (wD cI aD0 aD1 aD2 aD3 aD4 aT0 dy) ++ (wK cI aT0 aT1 aT2 aT3 aT4 aT5 kT))) hr hP hD hS hA [] [0, 1, 2, 3, 4, 5, 6, 7, 8, 9, 10, 11, 12, 13, 14, 15, 16, 17, 18, 19] [0, 1, 2, 3, 4, 5, 6, 7, 8, 9, 10, 11, 12, 13, 14, 15, 16, 17, 18, 19] rfl rfl rfl rfl rfl (wn := fun _ => ((wG  aG0 aK0 aE0 aF0 aP0 aD0 aM0 aC0 gg) ++ (wK cI aK0 aK1 aK2 aK3 aK4 aK5 k) ++ (wP cI aP0 aP1 pp) ++ (wD cI aD0 aD1 aD2 aD3 aD4 aT0 dy) ++ (wK cI aT0 aT1 aT2 aT3 aT4 aT5 kT))) (fun _ => rfl) (fun r_16 _ H locs hw_16 hP hD hS => ?_)
    obtain ⟨hw_16, z_16⟩ := hw_16
    have hP : va_P δ vwCl ((wG  aG0 aK0 aE0 aF0 aP0 aD0 aM0 aC0 gg) ++ (wK cI aK0 aK1 aK2 aK3 aK4 aK5 k) ++ (wP cI aP0 aP1 pp) ++ (wD cI aD0 aD1 aD2 aD3 aD4 aT0 dy) ++ (wK cI aT0 aT1 aT2 aT3 aT4 aT5 kT)) H := hP
    have hD : va_D A ((wG  aG0 aK0 aE0 aF0 aP0 aD0 aM0 aC0 gg) ++ (wK cI aK0 aK1 aK2 aK3 aK4 aK5 k) ++ (wP cI aP0 aP1 pp) ++ (wD cI aD0 aD1 aD2 aD3 aD4 aT0 dy) ++ (wK cI aT0 aT1 aT2 aT3 aT4 aT5 kT)) := hD
    have hR := bnd_eq hR hw_16.symm
    refine lv_if_ne (tgt := 25) hx hb dX5_behind_19 (by decide) (fun c_19 => ?_) (fun c_19 => ?_)
    · have c_19 : ¬ (r_16 = 0) := c_19
      have hR := hR.trans (if_neg c_19)
      refine lv_aload_n hx hb dX5_behind_25 rfl (lv_at hl 0 rfl) ?_
      refine va_get (D := δ) (ci := 5) (v := .ref aD0) (C := RX5) (T := TX5) (N := 9) hx hb hts hinX5 hown hK hP 0 rfl rfl 6 (by decide) (hts (.fieldLink RX5 32 "GloveHours" "day" "LGloveHours$Day;") (List.mem_of_getElem? (i := 2) rfl)) (fun _ h9 => h9) rfl dX5_behind_26 ?_
      refine lv_aload_n hx hb dX5_behind_29 rfl (lv_at hl 0 rfl) ?_
      refine va_get (D := δ) (ci := 5) (v := .ref aK0) (C := RX5) (T := TX5) (N := 9) hx hb hts hinX5 hown hK hP 0 rfl rfl 0 (by decide) (hts (.fieldLink RX5 10 "GloveHours" "court" "LGloveHours$Court;") (List.mem_of_getElem? (i := 1) rfl)) (fun _ h9 => h9) rfl dX5_behind_30 ?_
      refine lv_aload_n hx hb dX5_behind_33 rfl (lv_at hl 0 rfl) ?_
      refine va_get (D := δ) (ci := 5) (v := .ref aP0) (C := RX5) (T := TX5) (N := 9) hx hb hts hinX5 hown hK hP 0 rfl rfl 5 (by decide) (hts (.fieldLink RX5 25 "GloveHours" "pad" "LGloveHours$Pad;") (List.mem_of_getElem? (i := 3) rfl)) (fun _ h9 => h9) rfl dX5_behind_34 ?_
      have hr := mrV (p := p) (e := e) (R := rm_X5_behind) (below := below) (meth := meth) (H := H) (locs := locs) (ls := ls) (As := [.ref aK0, .ref aP0]) (rest := []) (c_X2_playPad l δ cI cJ cZ aD0 aD1 aD2 aD3 aD4 aT0 aT1 aT2 aT3 aT4 aT5 aK0 aK1 aK2 aK3 aK4 aK5 aP0 aP1 dy kT k pp) hx hb hml hts hown hK hNW hP hD [9, 10, 11, 12, 13, 14, 15, 16, 17, 18, 19, 1, 2, 3, 4, 5, 6, 7, 8] rfl rfl 2 0 rfl rfl (cwV 2 hts gX5_behind_X2_playPad rfl rfl rfl (by decide +kernel) ⟨(Nat.le_of_ble_eq_true rfl), (Nat.le_of_ble_eq_true rfl)⟩) rfl hl.1 rfl (Nat.le_of_ble_eq_true rfl) dX5_behind_37
      refine mc_i (wr := (wG  aG0 aK0 aE0 aF0 aP0 aD0 aM0 aC0 gg)) hr hP hD hS hA [9, 10, 11, 12, 13, 14, 15, 16, 17, 18, 19, 1, 2, 3, 4, 5, 6, 7, 8] [0] [0, 12, 13, 14, 15, 16, 17, 18, 19, 1, 2, 3, 4, 5, 6, 7, 8, 9, 10, 11] rfl rfl rfl rfl rfl (wn := fun u_37 => ((wG  aG0 aK0 aE0 aF0 aP0 aD0 aM0 aC0 gg) ++ (wK cI aK0 aK1 aK2 aK3 aK4 aK5 k) ++ (wP cI aP0 aP1 pp) ++ (wD cI aD0 aD1 aD2 aD3 aD4 aT0 u_37.1) ++ (wK cI aT0 aT1 aT2 aT3 aT4 aT5 u_37.2))) (fun _ => rfl) (fun r_37 u_37 H locs hw_37 hP hD hS => ?_)
      have hP : va_P δ vwCl ((wG  aG0 aK0 aE0 aF0 aP0 aD0 aM0 aC0 gg) ++ (wK cI aK0 aK1 aK2 aK3 aK4 aK5 k) ++ (wP cI aP0 aP1 pp) ++ (wD cI aD0 aD1 aD2 aD3 aD4 aT0 u_37.1) ++ (wK cI aT0 aT1 aT2 aT3 aT4 aT5 u_37.2)) H := hP
      have hD : va_D A ((wG  aG0 aK0 aE0 aF0 aP0 aD0 aM0 aC0 gg) ++ (wK cI aK0 aK1 aK2 aK3 aK4 aK5 k) ++ (wP cI aP0 aP1 pp) ++ (wD cI aD0 aD1 aD2 aD3 aD4 aT0 u_37.1) ++ (wK cI aT0 aT1 aT2 aT3 aT4 aT5 u_37.2)) := hD
      have hR := bnd_eq hR hw_37.symm
      refine lv_istore_n (lv' := [(3, .int r_37), (0, .ref aG0), (1, .int xc), (2, .int xw)]) hx hb dX5_behind_40 rfl hl (by decide) rfl (fun ls hl => ?_)
      refine lv_iload_n hx hb dX5_behind_41 rfl (lv_at hl 0 rfl) ?_
      refine lv_if_ge (tgt := 47) hx hb dX5_behind_42 (by decide) (fun c_42 => ?_) (fun c_42 => ?_)
      · have c_42 : (0 ≤ r_37) := c_42
        have hR := hR.trans (if_pos c_42)
        refine lv_iload_n hx hb dX5_behind_47 rfl (lv_at hl 3 rfl) ?_
        refine lv_iconst (v := (3 : Int32)) hx hb dX5_behind_48 (by decide) ?_
        refine lv_icmp_ne (tgt := 66) hx hb dX5_behind_49 (by decide) (fun c_49 => ?_) (fun c_49 => ?_)
        · have c_49 : ¬ (xw = (3 : Int32)) := c_49
          have hR := hR.trans (if_neg c_49)
          refine lv_aload_n hx hb dX5_behind_66 rfl (lv_at hl 1 rfl) ?_
          refine va_get (D := δ) (ci := 5) (v := .ref aD0) (C := RX5) (T := TX5) (N := 9) hx hb hts hinX5 hown hK hP 0 rfl rfl 6 (by decide) (hts (.fieldLink RX5 32 "GloveHours" "day" "LGloveHours$Day;") (List.mem_of_getElem? (i := 2) rfl)) (fun _ h9 => h9) rfl dX5_behind_67 ?_
          refine va_get (D := δ) (ci := 2) (v := .ref aT0) (C := RX2) (T := TX2) (N := 9) hx hb hts hinX2 hown hK hP 9 rfl rfl 0 (by decide) (hts (.fieldLink RX5 106 "GloveHours$Day" "court" "LGloveHours$Court;") (List.mem_of_getElem? (i := 4) rfl)) (fun _ h9 => h9) rfl dX5_behind_70 ?_
          refine lv_iload_n hx hb dX5_behind_73 rfl (lv_at hl 2 rfl) ?_
          refine lv_iload_n hx hb dX5_behind_74 rfl (lv_at hl 3 rfl) ?_
          have hr := mrV (p := p) (e := e) (R := rm_X5_behind) (below := below) (meth := meth) (H := H) (locs := locs) (ls := ls) (As := [.int xc, .int xw]) (rest := []) (c_X1_tellOf l δ cI cJ cZ aT0 aT1 aT2 aT3 aT4 aT5 u_37.2 xc xw) hx hb hml hts hown hK hNW hP hD [14, 15, 16, 17, 18, 19] rfl rfl 1 0 rfl rfl (cwV 2 hts gX5_behind_X1_tellOf rfl rfl rfl (by decide +kernel) ⟨(Nat.le_of_ble_eq_true rfl), (Nat.le_of_ble_eq_true rfl)⟩) rfl hl.1 rfl (Nat.le_of_ble_eq_true rfl) dX5_behind_75
          refine mc_i (wr := ((wG  aG0 aK0 aE0 aF0 aP0 aD0 aM0 aC0 gg) ++ (wK cI aK0 aK1 aK2 aK3 aK4 aK5 k) ++ (wP cI aP0 aP1 pp) ++ (wD cI aD0 aD1 aD2 aD3 aD4 aT0 u_37.1))) hr hP hD hS hA [14, 15, 16, 17, 18, 19] [0, 1, 2, 3, 4, 5, 6, 7, 8, 9, 10, 11, 12, 13] [0, 1, 2, 3, 4, 5, 6, 7, 8, 9, 10, 11, 12, 13, 14, 15, 16, 17, 18, 19] rfl rfl rfl rfl rfl (wn := fun _ => ((wG  aG0 aK0 aE0 aF0 aP0 aD0 aM0 aC0 gg) ++ (wK cI aK0 aK1 aK2 aK3 aK4 aK5 k) ++ (wP cI aP0 aP1 pp) ++ (wD cI aD0 aD1 aD2 aD3 aD4 aT0 u_37.1) ++ (wK cI aT0 aT1 aT2 aT3 aT4 aT5 u_37.2))) (fun _ => rfl) (fun r_75 _ H locs hw_75 hP hD hS => ?_)
          have hP : va_P δ vwCl ((wG  aG0 aK0 aE0 aF0 aP0 aD0 aM0 aC0 gg) ++ (wK cI aK0 aK1 aK2 aK3 aK4 aK5 k) ++ (wP cI aP0 aP1 pp) ++ (wD cI aD0 aD1 aD2 aD3 aD4 aT0 u_37.1) ++ (wK cI aT0 aT1 aT2 aT3 aT4 aT5 u_37.2)) H := hP
          have hD : va_D A ((wG  aG0 aK0 aE0 aF0 aP0 aD0 aM0 aC0 gg) ++ (wK cI aK0 aK1 aK2 aK3 aK4 aK5 k) ++ (wP cI aP0 aP1 pp) ++ (wD cI aD0 aD1 aD2 aD3 aD4 aT0 u_37.1) ++ (wK cI aT0 aT1 aT2 aT3 aT4 aT5 u_37.2)) := hD
          have hR := bnd_eq hR hw_75.symm
          exact hret _ _ r_75 (u_37.1, u_37.2) _ _ hR hP hD hS dX5_behind_78
        · have c_49 : (xw = (3 : Int32)) := c_49
          have hR := hR.trans (if_pos c_49)
          refine lv_aload_n hx hb dX5_behind_52 rfl (lv_at hl 1 rfl) ?_
          refine va_get (D := δ) (ci := 5) (v := .ref aD0) (C := RX5) (T := TX5) (N := 9) hx hb hts hinX5 hown hK hP 0 rfl rfl 6 (by decide) (hts (.fieldLink RX5 32 "GloveHours" "day" "LGloveHours$Day;") (List.mem_of_getElem? (i := 2) rfl)) (fun _ h9 => h9) rfl dX5_behind_53 ?_
          refine va_get (D := δ) (ci := 2) (v := .ref aT0) (C := RX2) (T := TX2) (N := 9) hx hb hts hinX2 hown hK hP 9 rfl rfl 0 (by decide) (hts (.fieldLink RX5 106 "GloveHours$Day" "court" "LGloveHours$Court;") (List.mem_of_getElem? (i := 4) rfl)) (fun _ h9 => h9) rfl dX5_behind_56 ?_
          refine lv_iload_n hx hb dX5_behind_59 rfl (lv_at hl 2 rfl) ?_
          have hr := mrV (p := p) (e := e) (R := rm_X5_behind) (below := below) (meth := meth) (H := H) (locs := locs) (ls := ls) (As := [.int xc]) (rest := []) (c_X1_pairsOf l δ cI cJ cZ aT0 aT1 aT2 aT3 aT4 aT5 u_37.2 xc) hx hb hml hts hown hK hNW hP hD [14, 15, 16, 17, 18, 19] rfl rfl 1 0 rfl rfl (cwV 1 hts gX5_behind_X1_pairsOf rfl rfl rfl (by decide +kernel) ⟨(Nat.le_of_ble_eq_true rfl), (Nat.le_of_ble_eq_true rfl)⟩) rfl hl.1 rfl (Nat.le_of_ble_eq_true rfl) dX5_behind_60
          refine mc_i (wr := ((wG  aG0 aK0 aE0 aF0 aP0 aD0 aM0 aC0 gg) ++ (wK cI aK0 aK1 aK2 aK3 aK4 aK5 k) ++ (wP cI aP0 aP1 pp) ++ (wD cI aD0 aD1 aD2 aD3 aD4 aT0 u_37.1))) hr hP hD hS hA [14, 15, 16, 17, 18, 19] [0, 1, 2, 3, 4, 5, 6, 7, 8, 9, 10, 11, 12, 13] [0, 1, 2, 3, 4, 5, 6, 7, 8, 9, 10, 11, 12, 13, 14, 15, 16, 17, 18, 19] rfl rfl rfl rfl rfl (wn := fun _ => ((wG  aG0 aK0 aE0 aF0 aP0 aD0 aM0 aC0 gg) ++ (wK cI aK0 aK1 aK2 aK3 aK4 aK5 k) ++ (wP cI aP0 aP1 pp) ++ (wD cI aD0 aD1 aD2 aD3 aD4 aT0 u_37.1) ++ (wK cI aT0 aT1 aT2 aT3 aT4 aT5 u_37.2))) (fun _ => rfl) (fun r_60 _ H locs hw_60 hP hD hS => ?_)
          have hP : va_P δ vwCl ((wG  aG0 aK0 aE0 aF0 aP0 aD0 aM0 aC0 gg) ++ (wK cI aK0 aK1 aK2 aK3 aK4 aK5 k) ++ (wP cI aP0 aP1 pp) ++ (wD cI aD0 aD1 aD2 aD3 aD4 aT0 u_37.1) ++ (wK cI aT0 aT1 aT2 aT3 aT4 aT5 u_37.2)) H := hP
          have hD : va_D A ((wG  aG0 aK0 aE0 aF0 aP0 aD0 aM0 aC0 gg) ++ (wK cI aK0 aK1 aK2 aK3 aK4 aK5 k) ++ (wP cI aP0 aP1 pp) ++ (wD cI aD0 aD1 aD2 aD3 aD4 aT0 u_37.1) ++ (wK cI aT0 aT1 aT2 aT3 aT4 aT5 u_37.2)) := hD
          have hR := bnd_eq hR hw_60.symm
          refine lv_goto (tgt := 78) hx hb dX5_behind_63 (by decide) ?_
          exact hret _ _ r_60 (u_37.1, u_37.2) _ _ hR hP hD hS dX5_behind_78
      · have c_42 : ¬ (0 ≤ r_37) := c_42
        have hR := hR.trans (if_neg c_42)
        refine lv_iload_n hx hb dX5_behind_45 rfl (lv_at hl 0 rfl) ?_
        exact hret _ _ r_37 (u_37.1, u_37.2) _ _ hR hP hD hS dX5_behind_46
    · have c_19 : (r_16 = 0) := c_19
      have hR := hR.trans (if_pos c_19)
      refine lv_bipush (v := (-2 : Int32)) hx hb dX5_behind_22 (by decide) ?_
      exact hret _ _ (-2 : Int32) (dy, kT) _ _ hR hP hD hS dX5_behind_24
  · have c_8 : (r_5 = 0) := c_8
    have hR := hR.trans (if_pos c_8)
    refine lv_iconst (v := (-1 : Int32)) hx hb dX5_behind_11 (by decide) ?_
    exact hret _ _ (-1 : Int32) (dy, kT) _ _ hR hP hD hS dX5_behind_12

abbrev rm_X5_wear : Room := { frames := 6, cells := 0, slots := 0, locals := 139 }
set_option maxHeartbeats 4000000 in
set_option maxRecDepth 100000 in
theorem c_X5_wear (l : Launch) (δ : va_G) (cI cJ cZ : ClassId) (aG0 aK0 aK1 aK2 aK3 aK4 aK5 aP0 aP1 aD0 aD1 aD2 aD3 aD4 aT0 aT1 aT2 aT3 aT4 aT5 aE0 aF0 aM0 aC0 : Nat) (gg : GS) (k : KS) (pp : PS) (dy : DS) (kT : KS) (xc : Int32) (xh : Int32) : mMi l δ (mTy cI cJ cZ) yX5_wear wsX5_wear rm_X5_wear [.ref aG0, .int xc, .int xh] ((wG  aG0 aK0 aE0 aF0 aP0 aD0 aM0 aC0 gg) ++ (wK cI aK0 aK1 aK2 aK3 aK4 aK5 k) ++ (wP cI aP0 aP1 pp) ++ (wD cI aD0 aD1 aD2 aD3 aD4 aT0 dy) ++ (wK cI aT0 aT1 aT2 aT3 aT4 aT5 kT)) (S := DS × KS) (fun r u => F_X5_wear k pp dy kT xc xh = (r, u)) (fun u => ((wG  aG0 aK0 aE0 aF0 aP0 aD0 aM0 aC0 gg) ++ (wK cI aK0 aK1 aK2 aK3 aK4 aK5 k) ++ (wP cI aP0 aP1 pp) ++ (wD cI aD0 aD1 aD2 aD3 aD4 aT0 u.1) ++ (wK cI aT0 aT1 aT2 aT3 aT4 aT5 u.2))) := by
  refine mk_i (cc := cX5_wear) (maxL := 4) (by decide) rfl (Nat.le_of_ble_eq_true rfl) ?_
  intro p e s m args below meth c A Q ls H locs hx hb hml hts hown hK hNW hA hP hD hS hl hret
  have hown : s.vm.findClass RX5 = some m.cls := hown
  have hl : lv_has ls 4 [(0, .ref aG0), (1, .int xc), (2, .int xh)] := hl
  have hinX2 : ∀ w ∈ u_ws RX2 TX2 9, w ∈ wsX5_wear := (fun _ h => List.mem_cons_of_mem _ (List.mem_append_left _ (List.mem_append_left _ (List.mem_append_right _ (h)))))
  have hinX5 : ∀ w ∈ u_ws RX5 TX5 9, w ∈ wsX5_wear := (fun _ h => List.mem_cons_of_mem _ (List.mem_append_left _ (List.mem_append_left _ (List.mem_append_left _ (List.mem_append_right _ (h))))))
  have hR := F_X5_wear.eq_1 k pp dy kT xc xh
  refine lv_aload_n hx hb dX5_wear_0 rfl (lv_at hl 0 rfl) ?_
  refine va_get (D := δ) (ci := 5) (v := .ref aK0) (C := RX5) (T := TX5) (N := 9) hx hb hts hinX5 hown hK hP 0 rfl rfl 0 (by decide) (hts (.fieldLink RX5 10 "GloveHours" "court" "LGloveHours$Court;") (List.mem_of_getElem? (i := 1) rfl)) (fun _ h9 => h9) rfl dX5_wear_1 ?_
  refine lv_iload_n hx hb dX5_wear_4 rfl (lv_at hl 1 rfl) ?_
  have hr := mrV (p := p) (e := e) (R := rm_X5_wear) (below := below) (meth := meth) (H := H) (locs := locs) (ls := ls) (As := [.int xc]) (rest := []) (c_X1_isThere l δ cI cJ cZ aK0 aK1 aK2 aK3 aK4 aK5 k xc) hx hb hml hts hown hK hNW hP hD [1, 2, 3, 4, 5, 6] rfl rfl 1 0 rfl rfl (cwV 1 hts gX5_wear_X1_isThere rfl rfl rfl (by decide +kernel) ⟨(Nat.le_of_ble_eq_true rfl), (Nat.le_of_ble_eq_true rfl)⟩) rfl hl.1 rfl (Nat.le_of_ble_eq_true rfl) dX5_wear_5
  refine mc_i (wr := ((wG  aG0 aK0 aE0 aF0 aP0 aD0 aM0 aC0 gg) ++ (wP cI aP0 aP1 pp) ++ (wD cI aD0 aD1 aD2 aD3 aD4 aT0 dy) ++ (wK cI aT0 aT1 aT2 aT3 aT4 aT5 kT))) hr hP hD hS hA [1, 2, 3, 4, 5, 6] [0, 7, 8, 9, 10, 11, 12, 13, 14, 15, 16, 17, 18, 19] [0, 14, 15, 16, 17, 18, 19, 1, 2, 3, 4, 5, 6, 7, 8, 9, 10, 11, 12, 13] rfl rfl rfl rfl rfl (wn := fun _ => ((wG  aG0 aK0 aE0 aF0 aP0 aD0 aM0 aC0 gg) ++ (wK cI aK0 aK1 aK2 aK3 aK4 aK5 k) ++ (wP cI aP0 aP1 pp) ++ (wD cI aD0 aD1 aD2 aD3 aD4 aT0 dy) ++ (wK cI aT0 aT1 aT2 aT3 aT4 aT5 kT))) (fun _ => rfl) (fun r_5 _ H locs hw_5 hP hD hS => ?_)
  obtain ⟨hw_5, z_5⟩ := hw_5
  have hP : va_P δ vwCl ((wG  aG0 aK0 aE0 aF0 aP0 aD0 aM0 aC0 gg) ++ (wK cI aK0 aK1 aK2 aK3 aK4 aK5 k) ++ (wP cI aP0 aP1 pp) ++ (wD cI aD0 aD1 aD2 aD3 aD4 aT0 dy) ++ (wK cI aT0 aT1 aT2 aT3 aT4 aT5 kT)) H := hP
  have hD : va_D A ((wG  aG0 aK0 aE0 aF0 aP0 aD0 aM0 aC0 gg) ++ (wK cI aK0 aK1 aK2 aK3 aK4 aK5 k) ++ (wP cI aP0 aP1 pp) ++ (wD cI aD0 aD1 aD2 aD3 aD4 aT0 dy) ++ (wK cI aT0 aT1 aT2 aT3 aT4 aT5 kT)) := hD
  have hR := bnd_eq hR hw_5.symm
  refine lv_if_ne (tgt := 13) hx hb dX5_wear_8 (by decide) (fun c_8 => ?_) (fun c_8 => ?_)
  · have c_8 : ¬ (r_5 = 0) := c_8
    have hR := hR.trans (if_neg c_8)
    refine lv_iload_n hx hb dX5_wear_13 rfl (lv_at hl 2 rfl) ?_
    refine lv_iconst (v := (0 : Int32)) hx hb dX5_wear_14 (by decide) ?_
    refine lv_bipush (v := (23 : Int32)) hx hb dX5_wear_15 (by decide) ?_
    have hr := mrS (p := p) (e := e) (R := rm_X5_wear) (below := below) (meth := meth) (H := H) (locs := locs) (ls := ls) (As := [.int xh, .int (0 : Int32), .int (23 : Int32)]) (rest := []) (c_X5_isWithin l δ cI cJ cZ xh (0 : Int32) (23 : Int32)) hx hb hml hts hown hK hNW hP hD [] rfl rfl (va_cwS 3 hts gX5_wear_X5_isWithin rfl rfl rfl (by decide +kernel) ⟨(Nat.le_of_ble_eq_true rfl), (Nat.le_of_ble_eq_true rfl)⟩) rfl hl.1 rfl (Nat.le_of_ble_eq_true rfl) dX5_wear_17
    refine mc_i (wr := ((wG  aG0 aK0 aE0 aF0 aP0 aD0 aM0 aC0 gg) ++ (wK cI aK0 aK1 aK2 aK3 aK4 aK5 k) ++ (wP cI aP0 aP1 pp) ++ (wD cI aD0 aD1 aD2 aD3 aD4 aT0 dy) ++ (wK cI aT0 aT1 aT2 aT3 aT4 aT5 kT))) hr hP hD hS hA [] [0, 1, 2, 3, 4, 5, 6, 7, 8, 9, 10, 11, 12, 13, 14, 15, 16, 17, 18, 19] [0, 1, 2, 3, 4, 5, 6, 7, 8, 9, 10, 11, 12, 13, 14, 15, 16, 17, 18, 19] rfl rfl rfl rfl rfl (wn := fun _ => ((wG  aG0 aK0 aE0 aF0 aP0 aD0 aM0 aC0 gg) ++ (wK cI aK0 aK1 aK2 aK3 aK4 aK5 k) ++ (wP cI aP0 aP1 pp) ++ (wD cI aD0 aD1 aD2 aD3 aD4 aT0 dy) ++ (wK cI aT0 aT1 aT2 aT3 aT4 aT5 kT))) (fun _ => rfl) (fun r_17 _ H locs hw_17 hP hD hS => ?_)
    obtain ⟨hw_17, z_17⟩ := hw_17
    have hP : va_P δ vwCl ((wG  aG0 aK0 aE0 aF0 aP0 aD0 aM0 aC0 gg) ++ (wK cI aK0 aK1 aK2 aK3 aK4 aK5 k) ++ (wP cI aP0 aP1 pp) ++ (wD cI aD0 aD1 aD2 aD3 aD4 aT0 dy) ++ (wK cI aT0 aT1 aT2 aT3 aT4 aT5 kT)) H := hP
    have hD : va_D A ((wG  aG0 aK0 aE0 aF0 aP0 aD0 aM0 aC0 gg) ++ (wK cI aK0 aK1 aK2 aK3 aK4 aK5 k) ++ (wP cI aP0 aP1 pp) ++ (wD cI aD0 aD1 aD2 aD3 aD4 aT0 dy) ++ (wK cI aT0 aT1 aT2 aT3 aT4 aT5 kT)) := hD
    have hR := bnd_eq hR hw_17.symm
    refine lv_if_ne (tgt := 26) hx hb dX5_wear_20 (by decide) (fun c_20 => ?_) (fun c_20 => ?_)
    · have c_20 : ¬ (r_17 = 0) := c_20
      have hR := hR.trans (if_neg c_20)
      refine lv_aload_n hx hb dX5_wear_26 rfl (lv_at hl 0 rfl) ?_
      refine va_get (D := δ) (ci := 5) (v := .ref aD0) (C := RX5) (T := TX5) (N := 9) hx hb hts hinX5 hown hK hP 0 rfl rfl 6 (by decide) (hts (.fieldLink RX5 32 "GloveHours" "day" "LGloveHours$Day;") (List.mem_of_getElem? (i := 2) rfl)) (fun _ h9 => h9) rfl dX5_wear_27 ?_
      refine lv_aload_n hx hb dX5_wear_30 rfl (lv_at hl 0 rfl) ?_
      refine va_get (D := δ) (ci := 5) (v := .ref aK0) (C := RX5) (T := TX5) (N := 9) hx hb hts hinX5 hown hK hP 0 rfl rfl 0 (by decide) (hts (.fieldLink RX5 10 "GloveHours" "court" "LGloveHours$Court;") (List.mem_of_getElem? (i := 1) rfl)) (fun _ h9 => h9) rfl dX5_wear_31 ?_
      refine lv_aload_n hx hb dX5_wear_34 rfl (lv_at hl 0 rfl) ?_
      refine va_get (D := δ) (ci := 5) (v := .ref aP0) (C := RX5) (T := TX5) (N := 9) hx hb hts hinX5 hown hK hP 0 rfl rfl 5 (by decide) (hts (.fieldLink RX5 25 "GloveHours" "pad" "LGloveHours$Pad;") (List.mem_of_getElem? (i := 3) rfl)) (fun _ h9 => h9) rfl dX5_wear_35 ?_
      have hr := mrV (p := p) (e := e) (R := rm_X5_wear) (below := below) (meth := meth) (H := H) (locs := locs) (ls := ls) (As := [.ref aK0, .ref aP0]) (rest := []) (c_X2_playPad l δ cI cJ cZ aD0 aD1 aD2 aD3 aD4 aT0 aT1 aT2 aT3 aT4 aT5 aK0 aK1 aK2 aK3 aK4 aK5 aP0 aP1 dy kT k pp) hx hb hml hts hown hK hNW hP hD [9, 10, 11, 12, 13, 14, 15, 16, 17, 18, 19, 1, 2, 3, 4, 5, 6, 7, 8] rfl rfl 2 0 rfl rfl (cwV 2 hts gX5_wear_X2_playPad rfl rfl rfl (by decide +kernel) ⟨(Nat.le_of_ble_eq_true rfl), (Nat.le_of_ble_eq_true rfl)⟩) rfl hl.1 rfl (Nat.le_of_ble_eq_true rfl) dX5_wear_38
      refine mc_i (wr := (wG  aG0 aK0 aE0 aF0 aP0 aD0 aM0 aC0 gg)) hr hP hD hS hA [9, 10, 11, 12, 13, 14, 15, 16, 17, 18, 19, 1, 2, 3, 4, 5, 6, 7, 8] [0] [0, 12, 13, 14, 15, 16, 17, 18, 19, 1, 2, 3, 4, 5, 6, 7, 8, 9, 10, 11] rfl rfl rfl rfl rfl (wn := fun u_38 => ((wG  aG0 aK0 aE0 aF0 aP0 aD0 aM0 aC0 gg) ++ (wK cI aK0 aK1 aK2 aK3 aK4 aK5 k) ++ (wP cI aP0 aP1 pp) ++ (wD cI aD0 aD1 aD2 aD3 aD4 aT0 u_38.1) ++ (wK cI aT0 aT1 aT2 aT3 aT4 aT5 u_38.2))) (fun _ => rfl) (fun r_38 u_38 H locs hw_38 hP hD hS => ?_)
      have hP : va_P δ vwCl ((wG  aG0 aK0 aE0 aF0 aP0 aD0 aM0 aC0 gg) ++ (wK cI aK0 aK1 aK2 aK3 aK4 aK5 k) ++ (wP cI aP0 aP1 pp) ++ (wD cI aD0 aD1 aD2 aD3 aD4 aT0 u_38.1) ++ (wK cI aT0 aT1 aT2 aT3 aT4 aT5 u_38.2)) H := hP
      have hD : va_D A ((wG  aG0 aK0 aE0 aF0 aP0 aD0 aM0 aC0 gg) ++ (wK cI aK0 aK1 aK2 aK3 aK4 aK5 k) ++ (wP cI aP0 aP1 pp) ++ (wD cI aD0 aD1 aD2 aD3 aD4 aT0 u_38.1) ++ (wK cI aT0 aT1 aT2 aT3 aT4 aT5 u_38.2)) := hD
      have hR := bnd_eq hR hw_38.symm
      refine lv_istore_n (lv' := [(3, .int r_38), (0, .ref aG0), (1, .int xc), (2, .int xh)]) hx hb dX5_wear_41 rfl hl (by decide) rfl (fun ls hl => ?_)
      refine lv_iload_n hx hb dX5_wear_42 rfl (lv_at hl 0 rfl) ?_
      refine lv_if_ge (tgt := 50) hx hb dX5_wear_43 (by decide) (fun c_43 => ?_) (fun c_43 => ?_)
      · have c_43 : (0 ≤ r_38) := c_43
        have hR := hR.trans (if_pos c_43)
        refine lv_aload_n hx hb dX5_wear_50 rfl (lv_at hl 1 rfl) ?_
        refine va_get (D := δ) (ci := 5) (v := .ref aD0) (C := RX5) (T := TX5) (N := 9) hx hb hts hinX5 hown hK hP 0 rfl rfl 6 (by decide) (hts (.fieldLink RX5 32 "GloveHours" "day" "LGloveHours$Day;") (List.mem_of_getElem? (i := 2) rfl)) (fun _ h9 => h9) rfl dX5_wear_51 ?_
        refine va_get (D := δ) (ci := 2) (v := .ref aT0) (C := RX2) (T := TX2) (N := 9) hx hb hts hinX2 hown hK hP 9 rfl rfl 0 (by decide) (hts (.fieldLink RX5 106 "GloveHours$Day" "court" "LGloveHours$Court;") (List.mem_of_getElem? (i := 4) rfl)) (fun _ h9 => h9) rfl dX5_wear_54 ?_
        refine lv_iload_n hx hb dX5_wear_57 rfl (lv_at hl 2 rfl) ?_
        refine lv_iload_n hx hb dX5_wear_58 rfl (lv_at hl 3 rfl) ?_
        have hr := mrV (p := p) (e := e) (R := rm_X5_wear) (below := below) (meth := meth) (H := H) (locs := locs) (ls := ls) (As := [.int xc, .int xh]) (rest := []) (c_X1_wearOf l δ cI cJ cZ aT0 aT1 aT2 aT3 aT4 aT5 u_38.2 xc xh) hx hb hml hts hown hK hNW hP hD [14, 15, 16, 17, 18, 19] rfl rfl 1 0 rfl rfl (cwV 2 hts gX5_wear_X1_wearOf rfl rfl rfl (by decide +kernel) ⟨(Nat.le_of_ble_eq_true rfl), (Nat.le_of_ble_eq_true rfl)⟩) rfl hl.1 rfl (Nat.le_of_ble_eq_true rfl) dX5_wear_59
        refine mc_i (wr := ((wG  aG0 aK0 aE0 aF0 aP0 aD0 aM0 aC0 gg) ++ (wK cI aK0 aK1 aK2 aK3 aK4 aK5 k) ++ (wP cI aP0 aP1 pp) ++ (wD cI aD0 aD1 aD2 aD3 aD4 aT0 u_38.1))) hr hP hD hS hA [14, 15, 16, 17, 18, 19] [0, 1, 2, 3, 4, 5, 6, 7, 8, 9, 10, 11, 12, 13] [0, 1, 2, 3, 4, 5, 6, 7, 8, 9, 10, 11, 12, 13, 14, 15, 16, 17, 18, 19] rfl rfl rfl rfl rfl (wn := fun _ => ((wG  aG0 aK0 aE0 aF0 aP0 aD0 aM0 aC0 gg) ++ (wK cI aK0 aK1 aK2 aK3 aK4 aK5 k) ++ (wP cI aP0 aP1 pp) ++ (wD cI aD0 aD1 aD2 aD3 aD4 aT0 u_38.1) ++ (wK cI aT0 aT1 aT2 aT3 aT4 aT5 u_38.2))) (fun _ => rfl) (fun r_59 _ H locs hw_59 hP hD hS => ?_)
        have hP : va_P δ vwCl ((wG  aG0 aK0 aE0 aF0 aP0 aD0 aM0 aC0 gg) ++ (wK cI aK0 aK1 aK2 aK3 aK4 aK5 k) ++ (wP cI aP0 aP1 pp) ++ (wD cI aD0 aD1 aD2 aD3 aD4 aT0 u_38.1) ++ (wK cI aT0 aT1 aT2 aT3 aT4 aT5 u_38.2)) H := hP
        have hD : va_D A ((wG  aG0 aK0 aE0 aF0 aP0 aD0 aM0 aC0 gg) ++ (wK cI aK0 aK1 aK2 aK3 aK4 aK5 k) ++ (wP cI aP0 aP1 pp) ++ (wD cI aD0 aD1 aD2 aD3 aD4 aT0 u_38.1) ++ (wK cI aT0 aT1 aT2 aT3 aT4 aT5 u_38.2)) := hD
        have hR := bnd_eq hR hw_59.symm
        exact hret _ _ r_59 (u_38.1, u_38.2) _ _ hR hP hD hS dX5_wear_62
      · have c_43 : ¬ (0 ≤ r_38) := c_43
        have hR := hR.trans (if_neg c_43)
        refine lv_iload_n hx hb dX5_wear_46 rfl (lv_at hl 0 rfl) ?_
        refine lv_goto (tgt := 62) hx hb dX5_wear_47 (by decide) ?_
        exact hret _ _ r_38 (u_38.1, u_38.2) _ _ hR hP hD hS dX5_wear_62
    · have c_20 : (r_17 = 0) := c_20
      have hR := hR.trans (if_pos c_20)
      refine lv_bipush (v := (-2 : Int32)) hx hb dX5_wear_23 (by decide) ?_
      exact hret _ _ (-2 : Int32) (dy, kT) _ _ hR hP hD hS dX5_wear_25
  · have c_8 : (r_5 = 0) := c_8
    have hR := hR.trans (if_pos c_8)
    refine lv_iconst (v := (-1 : Int32)) hx hb dX5_wear_11 (by decide) ?_
    exact hret _ _ (-1 : Int32) (dy, kT) _ _ hR hP hD hS dX5_wear_12

abbrev rm_X5_deed : Room := { frames := 6, cells := 0, slots := 0, locals := 139 }
set_option maxHeartbeats 4000000 in
set_option maxRecDepth 100000 in
theorem c_X5_deed (l : Launch) (δ : va_G) (cI cJ cZ : ClassId) (aG0 aK0 aK1 aK2 aK3 aK4 aK5 aP0 aP1 aD0 aD1 aD2 aD3 aD4 aT0 aT1 aT2 aT3 aT4 aT5 aE0 aF0 aM0 aC0 : Nat) (gg : GS) (k : KS) (pp : PS) (dy : DS) (kT : KS) (xk : Int32) (xw : Int32) : mMi l δ (mTy cI cJ cZ) yX5_deed wsX5_deed rm_X5_deed [.ref aG0, .int xk, .int xw] ((wG  aG0 aK0 aE0 aF0 aP0 aD0 aM0 aC0 gg) ++ (wK cI aK0 aK1 aK2 aK3 aK4 aK5 k) ++ (wP cI aP0 aP1 pp) ++ (wD cI aD0 aD1 aD2 aD3 aD4 aT0 dy) ++ (wK cI aT0 aT1 aT2 aT3 aT4 aT5 kT)) (S := DS × KS) (fun r u => F_X5_deed k pp dy kT xk xw = (r, u)) (fun u => ((wG  aG0 aK0 aE0 aF0 aP0 aD0 aM0 aC0 gg) ++ (wK cI aK0 aK1 aK2 aK3 aK4 aK5 k) ++ (wP cI aP0 aP1 pp) ++ (wD cI aD0 aD1 aD2 aD3 aD4 aT0 u.1) ++ (wK cI aT0 aT1 aT2 aT3 aT4 aT5 u.2))) := by
  refine mk_i (cc := cX5_deed) (maxL := 4) (by decide) rfl (Nat.le_of_ble_eq_true rfl) ?_
  intro p e s m args below meth c A Q ls H locs hx hb hml hts hown hK hNW hA hP hD hS hl hret
  have hown : s.vm.findClass RX5 = some m.cls := hown
  have hl : lv_has ls 4 [(0, .ref aG0), (1, .int xk), (2, .int xw)] := hl
  have hinX5 : ∀ w ∈ u_ws RX5 TX5 9, w ∈ wsX5_deed := (fun _ h => List.mem_cons_of_mem _ (List.mem_append_left _ (List.mem_append_left _ (List.mem_append_left _ (List.mem_append_right _ (h))))))
  have hR := F_X5_deed.eq_1 k pp dy kT xk xw
  refine lv_iload_n hx hb dX5_deed_0 rfl (lv_at hl 2 rfl) ?_
  refine lv_iconst (v := (0 : Int32)) hx hb dX5_deed_1 (by decide) ?_
  refine lv_iconst (v := (2 : Int32)) hx hb dX5_deed_2 (by decide) ?_
  have hr := mrS (p := p) (e := e) (R := rm_X5_deed) (below := below) (meth := meth) (H := H) (locs := locs) (ls := ls) (As := [.int xw, .int (0 : Int32), .int (2 : Int32)]) (rest := []) (c_X5_isWithin l δ cI cJ cZ xw (0 : Int32) (2 : Int32)) hx hb hml hts hown hK hNW hP hD [] rfl rfl (va_cwS 3 hts gX5_deed_X5_isWithin rfl rfl rfl (by decide +kernel) ⟨(Nat.le_of_ble_eq_true rfl), (Nat.le_of_ble_eq_true rfl)⟩) rfl hl.1 rfl (Nat.le_of_ble_eq_true rfl) dX5_deed_3
  refine mc_i (wr := ((wG  aG0 aK0 aE0 aF0 aP0 aD0 aM0 aC0 gg) ++ (wK cI aK0 aK1 aK2 aK3 aK4 aK5 k) ++ (wP cI aP0 aP1 pp) ++ (wD cI aD0 aD1 aD2 aD3 aD4 aT0 dy) ++ (wK cI aT0 aT1 aT2 aT3 aT4 aT5 kT))) hr hP hD hS hA [] [0, 1, 2, 3, 4, 5, 6, 7, 8, 9, 10, 11, 12, 13, 14, 15, 16, 17, 18, 19] [0, 1, 2, 3, 4, 5, 6, 7, 8, 9, 10, 11, 12, 13, 14, 15, 16, 17, 18, 19] rfl rfl rfl rfl rfl (wn := fun _ => ((wG  aG0 aK0 aE0 aF0 aP0 aD0 aM0 aC0 gg) ++ (wK cI aK0 aK1 aK2 aK3 aK4 aK5 k) ++ (wP cI aP0 aP1 pp) ++ (wD cI aD0 aD1 aD2 aD3 aD4 aT0 dy) ++ (wK cI aT0 aT1 aT2 aT3 aT4 aT5 kT))) (fun _ => rfl) (fun r_3 _ H locs hw_3 hP hD hS => ?_)
  obtain ⟨hw_3, z_3⟩ := hw_3
  have hP : va_P δ vwCl ((wG  aG0 aK0 aE0 aF0 aP0 aD0 aM0 aC0 gg) ++ (wK cI aK0 aK1 aK2 aK3 aK4 aK5 k) ++ (wP cI aP0 aP1 pp) ++ (wD cI aD0 aD1 aD2 aD3 aD4 aT0 dy) ++ (wK cI aT0 aT1 aT2 aT3 aT4 aT5 kT)) H := hP
  have hD : va_D A ((wG  aG0 aK0 aE0 aF0 aP0 aD0 aM0 aC0 gg) ++ (wK cI aK0 aK1 aK2 aK3 aK4 aK5 k) ++ (wP cI aP0 aP1 pp) ++ (wD cI aD0 aD1 aD2 aD3 aD4 aT0 dy) ++ (wK cI aT0 aT1 aT2 aT3 aT4 aT5 kT)) := hD
  have hR := bnd_eq hR hw_3.symm
  refine lv_if_ne (tgt := 12) hx hb dX5_deed_6 (by decide) (fun c_6 => ?_) (fun c_6 => ?_)
  · have c_6 : ¬ (r_3 = 0) := c_6
    have hR := hR.trans (if_neg c_6)
    refine lv_aload_n hx hb dX5_deed_12 rfl (lv_at hl 0 rfl) ?_
    refine va_get (D := δ) (ci := 5) (v := .ref aD0) (C := RX5) (T := TX5) (N := 9) hx hb hts hinX5 hown hK hP 0 rfl rfl 6 (by decide) (hts (.fieldLink RX5 32 "GloveHours" "day" "LGloveHours$Day;") (List.mem_of_getElem? (i := 1) rfl)) (fun _ h9 => h9) rfl dX5_deed_13 ?_
    refine lv_aload_n hx hb dX5_deed_16 rfl (lv_at hl 0 rfl) ?_
    refine va_get (D := δ) (ci := 5) (v := .ref aK0) (C := RX5) (T := TX5) (N := 9) hx hb hts hinX5 hown hK hP 0 rfl rfl 0 (by decide) (hts (.fieldLink RX5 10 "GloveHours" "court" "LGloveHours$Court;") (List.mem_of_getElem? (i := 2) rfl)) (fun _ h9 => h9) rfl dX5_deed_17 ?_
    refine lv_aload_n hx hb dX5_deed_20 rfl (lv_at hl 0 rfl) ?_
    refine va_get (D := δ) (ci := 5) (v := .ref aP0) (C := RX5) (T := TX5) (N := 9) hx hb hts hinX5 hown hK hP 0 rfl rfl 5 (by decide) (hts (.fieldLink RX5 25 "GloveHours" "pad" "LGloveHours$Pad;") (List.mem_of_getElem? (i := 3) rfl)) (fun _ h9 => h9) rfl dX5_deed_21 ?_
    have hr := mrV (p := p) (e := e) (R := rm_X5_deed) (below := below) (meth := meth) (H := H) (locs := locs) (ls := ls) (As := [.ref aK0, .ref aP0]) (rest := []) (c_X2_playPad l δ cI cJ cZ aD0 aD1 aD2 aD3 aD4 aT0 aT1 aT2 aT3 aT4 aT5 aK0 aK1 aK2 aK3 aK4 aK5 aP0 aP1 dy kT k pp) hx hb hml hts hown hK hNW hP hD [9, 10, 11, 12, 13, 14, 15, 16, 17, 18, 19, 1, 2, 3, 4, 5, 6, 7, 8] rfl rfl 2 0 rfl rfl (cwV 2 hts gX5_deed_X2_playPad rfl rfl rfl (by decide +kernel) ⟨(Nat.le_of_ble_eq_true rfl), (Nat.le_of_ble_eq_true rfl)⟩) rfl hl.1 rfl (Nat.le_of_ble_eq_true rfl) dX5_deed_24
    refine mc_i (wr := (wG  aG0 aK0 aE0 aF0 aP0 aD0 aM0 aC0 gg)) hr hP hD hS hA [9, 10, 11, 12, 13, 14, 15, 16, 17, 18, 19, 1, 2, 3, 4, 5, 6, 7, 8] [0] [0, 12, 13, 14, 15, 16, 17, 18, 19, 1, 2, 3, 4, 5, 6, 7, 8, 9, 10, 11] rfl rfl rfl rfl rfl (wn := fun u_24 => ((wG  aG0 aK0 aE0 aF0 aP0 aD0 aM0 aC0 gg) ++ (wK cI aK0 aK1 aK2 aK3 aK4 aK5 k) ++ (wP cI aP0 aP1 pp) ++ (wD cI aD0 aD1 aD2 aD3 aD4 aT0 u_24.1) ++ (wK cI aT0 aT1 aT2 aT3 aT4 aT5 u_24.2))) (fun _ => rfl) (fun r_24 u_24 H locs hw_24 hP hD hS => ?_)
    have hP : va_P δ vwCl ((wG  aG0 aK0 aE0 aF0 aP0 aD0 aM0 aC0 gg) ++ (wK cI aK0 aK1 aK2 aK3 aK4 aK5 k) ++ (wP cI aP0 aP1 pp) ++ (wD cI aD0 aD1 aD2 aD3 aD4 aT0 u_24.1) ++ (wK cI aT0 aT1 aT2 aT3 aT4 aT5 u_24.2)) H := hP
    have hD : va_D A ((wG  aG0 aK0 aE0 aF0 aP0 aD0 aM0 aC0 gg) ++ (wK cI aK0 aK1 aK2 aK3 aK4 aK5 k) ++ (wP cI aP0 aP1 pp) ++ (wD cI aD0 aD1 aD2 aD3 aD4 aT0 u_24.1) ++ (wK cI aT0 aT1 aT2 aT3 aT4 aT5 u_24.2)) := hD
    have hR := bnd_eq hR hw_24.symm
    refine lv_istore_n (lv' := [(3, .int r_24), (0, .ref aG0), (1, .int xk), (2, .int xw)]) hx hb dX5_deed_27 rfl hl (by decide) rfl (fun ls hl => ?_)
    refine lv_iload_n hx hb dX5_deed_28 rfl (lv_at hl 0 rfl) ?_
    refine lv_if_ge (tgt := 36) hx hb dX5_deed_29 (by decide) (fun c_29 => ?_) (fun c_29 => ?_)
    · have c_29 : (0 ≤ r_24) := c_29
      have hR := hR.trans (if_pos c_29)
      refine lv_aload_n hx hb dX5_deed_36 rfl (lv_at hl 1 rfl) ?_
      refine va_get (D := δ) (ci := 5) (v := .ref aD0) (C := RX5) (T := TX5) (N := 9) hx hb hts hinX5 hown hK hP 0 rfl rfl 6 (by decide) (hts (.fieldLink RX5 32 "GloveHours" "day" "LGloveHours$Day;") (List.mem_of_getElem? (i := 1) rfl)) (fun _ h9 => h9) rfl dX5_deed_37 ?_
      refine lv_iload_n hx hb dX5_deed_40 rfl (lv_at hl 2 rfl) ?_
      refine lv_iload_n hx hb dX5_deed_41 rfl (lv_at hl 3 rfl) ?_
      have hr := mrV (p := p) (e := e) (R := rm_X5_deed) (below := below) (meth := meth) (H := H) (locs := locs) (ls := ls) (As := [.int xk, .int xw]) (rest := []) (c_X2_tellOfDeed l δ cI cJ cZ aD0 aD1 aD2 aD3 aD4 aT0 u_24.1 xk xw) hx hb hml hts hown hK hNW hP hD [9, 10, 11, 12, 13] rfl rfl 2 0 rfl rfl (cwV 2 hts gX5_deed_X2_tellOfDeed rfl rfl rfl (by decide +kernel) ⟨(Nat.le_of_ble_eq_true rfl), (Nat.le_of_ble_eq_true rfl)⟩) rfl hl.1 rfl (Nat.le_of_ble_eq_true rfl) dX5_deed_42
      refine mc_i (wr := ((wG  aG0 aK0 aE0 aF0 aP0 aD0 aM0 aC0 gg) ++ (wK cI aK0 aK1 aK2 aK3 aK4 aK5 k) ++ (wP cI aP0 aP1 pp) ++ (wK cI aT0 aT1 aT2 aT3 aT4 aT5 u_24.2))) hr hP hD hS hA [9, 10, 11, 12, 13] [0, 1, 2, 3, 4, 5, 6, 7, 8, 14, 15, 16, 17, 18, 19] [0, 1, 2, 3, 4, 5, 6, 7, 8, 15, 16, 17, 18, 19, 9, 10, 11, 12, 13, 14] rfl rfl rfl rfl rfl (wn := fun _ => ((wG  aG0 aK0 aE0 aF0 aP0 aD0 aM0 aC0 gg) ++ (wK cI aK0 aK1 aK2 aK3 aK4 aK5 k) ++ (wP cI aP0 aP1 pp) ++ (wD cI aD0 aD1 aD2 aD3 aD4 aT0 u_24.1) ++ (wK cI aT0 aT1 aT2 aT3 aT4 aT5 u_24.2))) (fun _ => rfl) (fun r_42 _ H locs hw_42 hP hD hS => ?_)
      have hP : va_P δ vwCl ((wG  aG0 aK0 aE0 aF0 aP0 aD0 aM0 aC0 gg) ++ (wK cI aK0 aK1 aK2 aK3 aK4 aK5 k) ++ (wP cI aP0 aP1 pp) ++ (wD cI aD0 aD1 aD2 aD3 aD4 aT0 u_24.1) ++ (wK cI aT0 aT1 aT2 aT3 aT4 aT5 u_24.2)) H := hP
      have hD : va_D A ((wG  aG0 aK0 aE0 aF0 aP0 aD0 aM0 aC0 gg) ++ (wK cI aK0 aK1 aK2 aK3 aK4 aK5 k) ++ (wP cI aP0 aP1 pp) ++ (wD cI aD0 aD1 aD2 aD3 aD4 aT0 u_24.1) ++ (wK cI aT0 aT1 aT2 aT3 aT4 aT5 u_24.2)) := hD
      have hR := bnd_eq hR hw_42.symm
      exact hret _ _ r_42 (u_24.1, u_24.2) _ _ hR hP hD hS dX5_deed_45
    · have c_29 : ¬ (0 ≤ r_24) := c_29
      have hR := hR.trans (if_neg c_29)
      refine lv_iload_n hx hb dX5_deed_32 rfl (lv_at hl 0 rfl) ?_
      refine lv_goto (tgt := 45) hx hb dX5_deed_33 (by decide) ?_
      exact hret _ _ r_24 (u_24.1, u_24.2) _ _ hR hP hD hS dX5_deed_45
  · have c_6 : (r_3 = 0) := c_6
    have hR := hR.trans (if_pos c_6)
    refine lv_bipush (v := (-2 : Int32)) hx hb dX5_deed_9 (by decide) ?_
    exact hret _ _ (-2 : Int32) (dy, kT) _ _ hR hP hD hS dX5_deed_11

abbrev rm_X5_late : Room := { frames := 6, cells := 0, slots := 0, locals := 139 }
set_option maxHeartbeats 4000000 in
set_option maxRecDepth 100000 in
theorem c_X5_late (l : Launch) (δ : va_G) (cI cJ cZ : ClassId) (aG0 aK0 aK1 aK2 aK3 aK4 aK5 aP0 aP1 aD0 aD1 aD2 aD3 aD4 aT0 aT1 aT2 aT3 aT4 aT5 aE0 aF0 aM0 aC0 : Nat) (gg : GS) (k : KS) (pp : PS) (dy : DS) (kT : KS) (xw : Int32) : mMi l δ (mTy cI cJ cZ) yX5_late wsX5_late rm_X5_late [.ref aG0, .int xw] ((wG  aG0 aK0 aE0 aF0 aP0 aD0 aM0 aC0 gg) ++ (wK cI aK0 aK1 aK2 aK3 aK4 aK5 k) ++ (wP cI aP0 aP1 pp) ++ (wD cI aD0 aD1 aD2 aD3 aD4 aT0 dy) ++ (wK cI aT0 aT1 aT2 aT3 aT4 aT5 kT)) (S := DS × KS) (fun r u => F_X5_late k pp dy kT xw = (r, u)) (fun u => ((wG  aG0 aK0 aE0 aF0 aP0 aD0 aM0 aC0 gg) ++ (wK cI aK0 aK1 aK2 aK3 aK4 aK5 k) ++ (wP cI aP0 aP1 pp) ++ (wD cI aD0 aD1 aD2 aD3 aD4 aT0 u.1) ++ (wK cI aT0 aT1 aT2 aT3 aT4 aT5 u.2))) := by
  refine mk_i (cc := cX5_late) (maxL := 3) (by decide) rfl (Nat.le_of_ble_eq_true rfl) ?_
  intro p e s m args below meth c A Q ls H locs hx hb hml hts hown hK hNW hA hP hD hS hl hret
  have hown : s.vm.findClass RX5 = some m.cls := hown
  have hl : lv_has ls 3 [(0, .ref aG0), (1, .int xw)] := hl
  have hinX5 : ∀ w ∈ u_ws RX5 TX5 9, w ∈ wsX5_late := (fun _ h => List.mem_cons_of_mem _ (List.mem_append_left _ (List.mem_append_left _ (List.mem_append_left _ (List.mem_append_right _ (h))))))
  have hR := F_X5_late.eq_1 k pp dy kT xw
  refine lv_iload_n hx hb dX5_late_0 rfl (lv_at hl 1 rfl) ?_
  refine lv_iconst (v := (0 : Int32)) hx hb dX5_late_1 (by decide) ?_
  refine lv_iconst (v := (1 : Int32)) hx hb dX5_late_2 (by decide) ?_
  have hr := mrS (p := p) (e := e) (R := rm_X5_late) (below := below) (meth := meth) (H := H) (locs := locs) (ls := ls) (As := [.int xw, .int (0 : Int32), .int (1 : Int32)]) (rest := []) (c_X5_isWithin l δ cI cJ cZ xw (0 : Int32) (1 : Int32)) hx hb hml hts hown hK hNW hP hD [] rfl rfl (va_cwS 3 hts gX5_late_X5_isWithin rfl rfl rfl (by decide +kernel) ⟨(Nat.le_of_ble_eq_true rfl), (Nat.le_of_ble_eq_true rfl)⟩) rfl hl.1 rfl (Nat.le_of_ble_eq_true rfl) dX5_late_3
  refine mc_i (wr := ((wG  aG0 aK0 aE0 aF0 aP0 aD0 aM0 aC0 gg) ++ (wK cI aK0 aK1 aK2 aK3 aK4 aK5 k) ++ (wP cI aP0 aP1 pp) ++ (wD cI aD0 aD1 aD2 aD3 aD4 aT0 dy) ++ (wK cI aT0 aT1 aT2 aT3 aT4 aT5 kT))) hr hP hD hS hA [] [0, 1, 2, 3, 4, 5, 6, 7, 8, 9, 10, 11, 12, 13, 14, 15, 16, 17, 18, 19] [0, 1, 2, 3, 4, 5, 6, 7, 8, 9, 10, 11, 12, 13, 14, 15, 16, 17, 18, 19] rfl rfl rfl rfl rfl (wn := fun _ => ((wG  aG0 aK0 aE0 aF0 aP0 aD0 aM0 aC0 gg) ++ (wK cI aK0 aK1 aK2 aK3 aK4 aK5 k) ++ (wP cI aP0 aP1 pp) ++ (wD cI aD0 aD1 aD2 aD3 aD4 aT0 dy) ++ (wK cI aT0 aT1 aT2 aT3 aT4 aT5 kT))) (fun _ => rfl) (fun r_3 _ H locs hw_3 hP hD hS => ?_)
  obtain ⟨hw_3, z_3⟩ := hw_3
  have hP : va_P δ vwCl ((wG  aG0 aK0 aE0 aF0 aP0 aD0 aM0 aC0 gg) ++ (wK cI aK0 aK1 aK2 aK3 aK4 aK5 k) ++ (wP cI aP0 aP1 pp) ++ (wD cI aD0 aD1 aD2 aD3 aD4 aT0 dy) ++ (wK cI aT0 aT1 aT2 aT3 aT4 aT5 kT)) H := hP
  have hD : va_D A ((wG  aG0 aK0 aE0 aF0 aP0 aD0 aM0 aC0 gg) ++ (wK cI aK0 aK1 aK2 aK3 aK4 aK5 k) ++ (wP cI aP0 aP1 pp) ++ (wD cI aD0 aD1 aD2 aD3 aD4 aT0 dy) ++ (wK cI aT0 aT1 aT2 aT3 aT4 aT5 kT)) := hD
  have hR := bnd_eq hR hw_3.symm
  refine lv_if_ne (tgt := 12) hx hb dX5_late_6 (by decide) (fun c_6 => ?_) (fun c_6 => ?_)
  · have c_6 : ¬ (r_3 = 0) := c_6
    have hR := hR.trans (if_neg c_6)
    refine lv_aload_n hx hb dX5_late_12 rfl (lv_at hl 0 rfl) ?_
    refine va_get (D := δ) (ci := 5) (v := .ref aD0) (C := RX5) (T := TX5) (N := 9) hx hb hts hinX5 hown hK hP 0 rfl rfl 6 (by decide) (hts (.fieldLink RX5 32 "GloveHours" "day" "LGloveHours$Day;") (List.mem_of_getElem? (i := 1) rfl)) (fun _ h9 => h9) rfl dX5_late_13 ?_
    refine lv_aload_n hx hb dX5_late_16 rfl (lv_at hl 0 rfl) ?_
    refine va_get (D := δ) (ci := 5) (v := .ref aK0) (C := RX5) (T := TX5) (N := 9) hx hb hts hinX5 hown hK hP 0 rfl rfl 0 (by decide) (hts (.fieldLink RX5 10 "GloveHours" "court" "LGloveHours$Court;") (List.mem_of_getElem? (i := 2) rfl)) (fun _ h9 => h9) rfl dX5_late_17 ?_
    refine lv_aload_n hx hb dX5_late_20 rfl (lv_at hl 0 rfl) ?_
    refine va_get (D := δ) (ci := 5) (v := .ref aP0) (C := RX5) (T := TX5) (N := 9) hx hb hts hinX5 hown hK hP 0 rfl rfl 5 (by decide) (hts (.fieldLink RX5 25 "GloveHours" "pad" "LGloveHours$Pad;") (List.mem_of_getElem? (i := 3) rfl)) (fun _ h9 => h9) rfl dX5_late_21 ?_
    have hr := mrV (p := p) (e := e) (R := rm_X5_late) (below := below) (meth := meth) (H := H) (locs := locs) (ls := ls) (As := [.ref aK0, .ref aP0]) (rest := []) (c_X2_playPad l δ cI cJ cZ aD0 aD1 aD2 aD3 aD4 aT0 aT1 aT2 aT3 aT4 aT5 aK0 aK1 aK2 aK3 aK4 aK5 aP0 aP1 dy kT k pp) hx hb hml hts hown hK hNW hP hD [9, 10, 11, 12, 13, 14, 15, 16, 17, 18, 19, 1, 2, 3, 4, 5, 6, 7, 8] rfl rfl 2 0 rfl rfl (cwV 2 hts gX5_late_X2_playPad rfl rfl rfl (by decide +kernel) ⟨(Nat.le_of_ble_eq_true rfl), (Nat.le_of_ble_eq_true rfl)⟩) rfl hl.1 rfl (Nat.le_of_ble_eq_true rfl) dX5_late_24
    refine mc_i (wr := (wG  aG0 aK0 aE0 aF0 aP0 aD0 aM0 aC0 gg)) hr hP hD hS hA [9, 10, 11, 12, 13, 14, 15, 16, 17, 18, 19, 1, 2, 3, 4, 5, 6, 7, 8] [0] [0, 12, 13, 14, 15, 16, 17, 18, 19, 1, 2, 3, 4, 5, 6, 7, 8, 9, 10, 11] rfl rfl rfl rfl rfl (wn := fun u_24 => ((wG  aG0 aK0 aE0 aF0 aP0 aD0 aM0 aC0 gg) ++ (wK cI aK0 aK1 aK2 aK3 aK4 aK5 k) ++ (wP cI aP0 aP1 pp) ++ (wD cI aD0 aD1 aD2 aD3 aD4 aT0 u_24.1) ++ (wK cI aT0 aT1 aT2 aT3 aT4 aT5 u_24.2))) (fun _ => rfl) (fun r_24 u_24 H locs hw_24 hP hD hS => ?_)
    have hP : va_P δ vwCl ((wG  aG0 aK0 aE0 aF0 aP0 aD0 aM0 aC0 gg) ++ (wK cI aK0 aK1 aK2 aK3 aK4 aK5 k) ++ (wP cI aP0 aP1 pp) ++ (wD cI aD0 aD1 aD2 aD3 aD4 aT0 u_24.1) ++ (wK cI aT0 aT1 aT2 aT3 aT4 aT5 u_24.2)) H := hP
    have hD : va_D A ((wG  aG0 aK0 aE0 aF0 aP0 aD0 aM0 aC0 gg) ++ (wK cI aK0 aK1 aK2 aK3 aK4 aK5 k) ++ (wP cI aP0 aP1 pp) ++ (wD cI aD0 aD1 aD2 aD3 aD4 aT0 u_24.1) ++ (wK cI aT0 aT1 aT2 aT3 aT4 aT5 u_24.2)) := hD
    have hR := bnd_eq hR hw_24.symm
    refine lv_istore_n (lv' := [(2, .int r_24), (0, .ref aG0), (1, .int xw)]) hx hb dX5_late_27 rfl hl (by decide) rfl (fun ls hl => ?_)
    refine lv_iload_n hx hb dX5_late_28 rfl (lv_at hl 0 rfl) ?_
    refine lv_if_ge (tgt := 34) hx hb dX5_late_29 (by decide) (fun c_29 => ?_) (fun c_29 => ?_)
    · have c_29 : (0 ≤ r_24) := c_29
      have hR := hR.trans (if_pos c_29)
      refine lv_iload_n hx hb dX5_late_34 rfl (lv_at hl 2 rfl) ?_
      refine lv_if_ne (tgt := 48) hx hb dX5_late_35 (by decide) (fun c_35 => ?_) (fun c_35 => ?_)
      · have c_35 : ¬ (xw = 0) := c_35
        have hR := hR.trans (if_neg c_35)
        refine lv_aload_n hx hb dX5_late_48 rfl (lv_at hl 1 rfl) ?_
        refine va_get (D := δ) (ci := 5) (v := .ref aD0) (C := RX5) (T := TX5) (N := 9) hx hb hts hinX5 hown hK hP 0 rfl rfl 6 (by decide) (hts (.fieldLink RX5 32 "GloveHours" "day" "LGloveHours$Day;") (List.mem_of_getElem? (i := 1) rfl)) (fun _ h9 => h9) rfl dX5_late_49 ?_
        have hr := mrV (p := p) (e := e) (R := rm_X5_late) (below := below) (meth := meth) (H := H) (locs := locs) (ls := ls) (As := []) (rest := []) (c_X2_countLate l δ cI cJ cZ aD0 aD1 aD2 aD3 aD4 aT0 u_24.1) hx hb hml hts hown hK hNW hP hD [9, 10, 11, 12, 13] rfl rfl 2 0 rfl rfl (cwV 0 hts gX5_late_X2_countLate rfl rfl rfl (by decide +kernel) ⟨(Nat.le_of_ble_eq_true rfl), (Nat.le_of_ble_eq_true rfl)⟩) rfl hl.1 rfl (Nat.le_of_ble_eq_true rfl) dX5_late_52
        refine mc_i (wr := ((wG  aG0 aK0 aE0 aF0 aP0 aD0 aM0 aC0 gg) ++ (wK cI aK0 aK1 aK2 aK3 aK4 aK5 k) ++ (wP cI aP0 aP1 pp) ++ (wK cI aT0 aT1 aT2 aT3 aT4 aT5 u_24.2))) hr hP hD hS hA [9, 10, 11, 12, 13] [0, 1, 2, 3, 4, 5, 6, 7, 8, 14, 15, 16, 17, 18, 19] [0, 1, 2, 3, 4, 5, 6, 7, 8, 15, 16, 17, 18, 19, 9, 10, 11, 12, 13, 14] rfl rfl rfl rfl rfl (wn := fun _ => ((wG  aG0 aK0 aE0 aF0 aP0 aD0 aM0 aC0 gg) ++ (wK cI aK0 aK1 aK2 aK3 aK4 aK5 k) ++ (wP cI aP0 aP1 pp) ++ (wD cI aD0 aD1 aD2 aD3 aD4 aT0 u_24.1) ++ (wK cI aT0 aT1 aT2 aT3 aT4 aT5 u_24.2))) (fun _ => rfl) (fun r_52 _ H locs hw_52 hP hD hS => ?_)
        have hP : va_P δ vwCl ((wG  aG0 aK0 aE0 aF0 aP0 aD0 aM0 aC0 gg) ++ (wK cI aK0 aK1 aK2 aK3 aK4 aK5 k) ++ (wP cI aP0 aP1 pp) ++ (wD cI aD0 aD1 aD2 aD3 aD4 aT0 u_24.1) ++ (wK cI aT0 aT1 aT2 aT3 aT4 aT5 u_24.2)) H := hP
        have hD : va_D A ((wG  aG0 aK0 aE0 aF0 aP0 aD0 aM0 aC0 gg) ++ (wK cI aK0 aK1 aK2 aK3 aK4 aK5 k) ++ (wP cI aP0 aP1 pp) ++ (wD cI aD0 aD1 aD2 aD3 aD4 aT0 u_24.1) ++ (wK cI aT0 aT1 aT2 aT3 aT4 aT5 u_24.2)) := hD
        have hR := bnd_eq hR hw_52.symm
        exact hret _ _ r_52 (u_24.1, u_24.2) _ _ hR hP hD hS dX5_late_55
      · have c_35 : (xw = 0) := c_35
        have hR := hR.trans (if_pos c_35)
        refine lv_aload_n hx hb dX5_late_38 rfl (lv_at hl 1 rfl) ?_
        refine va_get (D := δ) (ci := 5) (v := .ref aD0) (C := RX5) (T := TX5) (N := 9) hx hb hts hinX5 hown hK hP 0 rfl rfl 6 (by decide) (hts (.fieldLink RX5 32 "GloveHours" "day" "LGloveHours$Day;") (List.mem_of_getElem? (i := 1) rfl)) (fun _ h9 => h9) rfl dX5_late_39 ?_
        have hr := mrV (p := p) (e := e) (R := rm_X5_late) (below := below) (meth := meth) (H := H) (locs := locs) (ls := ls) (As := []) (rest := []) (c_X2_firstLate l δ cI cJ cZ aD0 aD1 aD2 aD3 aD4 aT0 u_24.1) hx hb hml hts hown hK hNW hP hD [9, 10, 11, 12, 13] rfl rfl 2 0 rfl rfl (cwV 0 hts gX5_late_X2_firstLate rfl rfl rfl (by decide +kernel) ⟨(Nat.le_of_ble_eq_true rfl), (Nat.le_of_ble_eq_true rfl)⟩) rfl hl.1 rfl (Nat.le_of_ble_eq_true rfl) dX5_late_42
        refine mc_i (wr := ((wG  aG0 aK0 aE0 aF0 aP0 aD0 aM0 aC0 gg) ++ (wK cI aK0 aK1 aK2 aK3 aK4 aK5 k) ++ (wP cI aP0 aP1 pp) ++ (wK cI aT0 aT1 aT2 aT3 aT4 aT5 u_24.2))) hr hP hD hS hA [9, 10, 11, 12, 13] [0, 1, 2, 3, 4, 5, 6, 7, 8, 14, 15, 16, 17, 18, 19] [0, 1, 2, 3, 4, 5, 6, 7, 8, 15, 16, 17, 18, 19, 9, 10, 11, 12, 13, 14] rfl rfl rfl rfl rfl (wn := fun _ => ((wG  aG0 aK0 aE0 aF0 aP0 aD0 aM0 aC0 gg) ++ (wK cI aK0 aK1 aK2 aK3 aK4 aK5 k) ++ (wP cI aP0 aP1 pp) ++ (wD cI aD0 aD1 aD2 aD3 aD4 aT0 u_24.1) ++ (wK cI aT0 aT1 aT2 aT3 aT4 aT5 u_24.2))) (fun _ => rfl) (fun r_42 _ H locs hw_42 hP hD hS => ?_)
        have hP : va_P δ vwCl ((wG  aG0 aK0 aE0 aF0 aP0 aD0 aM0 aC0 gg) ++ (wK cI aK0 aK1 aK2 aK3 aK4 aK5 k) ++ (wP cI aP0 aP1 pp) ++ (wD cI aD0 aD1 aD2 aD3 aD4 aT0 u_24.1) ++ (wK cI aT0 aT1 aT2 aT3 aT4 aT5 u_24.2)) H := hP
        have hD : va_D A ((wG  aG0 aK0 aE0 aF0 aP0 aD0 aM0 aC0 gg) ++ (wK cI aK0 aK1 aK2 aK3 aK4 aK5 k) ++ (wP cI aP0 aP1 pp) ++ (wD cI aD0 aD1 aD2 aD3 aD4 aT0 u_24.1) ++ (wK cI aT0 aT1 aT2 aT3 aT4 aT5 u_24.2)) := hD
        have hR := bnd_eq hR hw_42.symm
        refine lv_goto (tgt := 55) hx hb dX5_late_45 (by decide) ?_
        exact hret _ _ r_42 (u_24.1, u_24.2) _ _ hR hP hD hS dX5_late_55
    · have c_29 : ¬ (0 ≤ r_24) := c_29
      have hR := hR.trans (if_neg c_29)
      refine lv_iload_n hx hb dX5_late_32 rfl (lv_at hl 0 rfl) ?_
      exact hret _ _ r_24 (u_24.1, u_24.2) _ _ hR hP hD hS dX5_late_33
  · have c_6 : (r_3 = 0) := c_6
    have hR := hR.trans (if_pos c_6)
    refine lv_bipush (v := (-2 : Int32)) hx hb dX5_late_9 (by decide) ?_
    exact hret _ _ (-2 : Int32) (dy, kT) _ _ hR hP hD hS dX5_late_11

abbrev rm_X5_done : Room := { frames := 6, cells := 0, slots := 0, locals := 139 }
set_option maxHeartbeats 4000000 in
set_option maxRecDepth 100000 in
theorem c_X5_done (l : Launch) (δ : va_G) (cI cJ cZ : ClassId) (aG0 aK0 aK1 aK2 aK3 aK4 aK5 aP0 aP1 aD0 aD1 aD2 aD3 aD4 aT0 aT1 aT2 aT3 aT4 aT5 aE0 aF0 aM0 aC0 : Nat) (gg : GS) (k : KS) (pp : PS) (dy : DS) (kT : KS) : mMi l δ (mTy cI cJ cZ) yX5_done wsX5_done rm_X5_done [.ref aG0] ((wG  aG0 aK0 aE0 aF0 aP0 aD0 aM0 aC0 gg) ++ (wK cI aK0 aK1 aK2 aK3 aK4 aK5 k) ++ (wP cI aP0 aP1 pp) ++ (wD cI aD0 aD1 aD2 aD3 aD4 aT0 dy) ++ (wK cI aT0 aT1 aT2 aT3 aT4 aT5 kT)) (S := KS × PS × DS × KS) (fun r u => F_X5_done k pp dy kT = (r, u)) (fun u => ((wG  aG0 aK0 aE0 aF0 aP0 aD0 aM0 aC0 gg) ++ (wK cI aK0 aK1 aK2 aK3 aK4 aK5 u.1) ++ (wP cI aP0 aP1 u.2.1) ++ (wD cI aD0 aD1 aD2 aD3 aD4 aT0 u.2.2.1) ++ (wK cI aT0 aT1 aT2 aT3 aT4 aT5 u.2.2.2))) := by
  refine mk_i (cc := cX5_done) (maxL := 2) (by decide) rfl (Nat.le_of_ble_eq_true rfl) ?_
  intro p e s m args below meth c A Q ls H locs hx hb hml hts hown hK hNW hA hP hD hS hl hret
  have hown : s.vm.findClass RX5 = some m.cls := hown
  have hl : lv_has ls 2 [(0, .ref aG0)] := hl
  have hinX2 : ∀ w ∈ u_ws RX2 TX2 9, w ∈ wsX5_done := (fun _ h => List.mem_cons_of_mem _ (List.mem_append_left _ (List.mem_append_left _ (List.mem_append_right _ (h)))))
  have hinX4 : ∀ w ∈ u_ws RX4 TX4 2, w ∈ wsX5_done := (fun _ h => List.mem_cons_of_mem _ (List.mem_append_left _ (List.mem_append_right _ (h))))
  have hinX5 : ∀ w ∈ u_ws RX5 TX5 9, w ∈ wsX5_done := (fun _ h => List.mem_cons_of_mem _ (List.mem_append_left _ (List.mem_append_left _ (List.mem_append_left _ (List.mem_append_right _ (h))))))
  have hR := F_X5_done.eq_1 k pp dy kT
  refine lv_aload_n hx hb dX5_done_0 rfl (lv_at hl 0 rfl) ?_
  refine va_get (D := δ) (ci := 5) (v := .ref aD0) (C := RX5) (T := TX5) (N := 9) hx hb hts hinX5 hown hK hP 0 rfl rfl 6 (by decide) (hts (.fieldLink RX5 32 "GloveHours" "day" "LGloveHours$Day;") (List.mem_of_getElem? (i := 1) rfl)) (fun _ h9 => h9) rfl dX5_done_1 ?_
  refine lv_aload_n hx hb dX5_done_4 rfl (lv_at hl 0 rfl) ?_
  refine va_get (D := δ) (ci := 5) (v := .ref aK0) (C := RX5) (T := TX5) (N := 9) hx hb hts hinX5 hown hK hP 0 rfl rfl 0 (by decide) (hts (.fieldLink RX5 10 "GloveHours" "court" "LGloveHours$Court;") (List.mem_of_getElem? (i := 2) rfl)) (fun _ h9 => h9) rfl dX5_done_5 ?_
  refine lv_aload_n hx hb dX5_done_8 rfl (lv_at hl 0 rfl) ?_
  refine va_get (D := δ) (ci := 5) (v := .ref aP0) (C := RX5) (T := TX5) (N := 9) hx hb hts hinX5 hown hK hP 0 rfl rfl 5 (by decide) (hts (.fieldLink RX5 25 "GloveHours" "pad" "LGloveHours$Pad;") (List.mem_of_getElem? (i := 3) rfl)) (fun _ h9 => h9) rfl dX5_done_9 ?_
  have hr := mrV (p := p) (e := e) (R := rm_X5_done) (below := below) (meth := meth) (H := H) (locs := locs) (ls := ls) (As := [.ref aK0, .ref aP0]) (rest := []) (c_X2_playPad l δ cI cJ cZ aD0 aD1 aD2 aD3 aD4 aT0 aT1 aT2 aT3 aT4 aT5 aK0 aK1 aK2 aK3 aK4 aK5 aP0 aP1 dy kT k pp) hx hb hml hts hown hK hNW hP hD [9, 10, 11, 12, 13, 14, 15, 16, 17, 18, 19, 1, 2, 3, 4, 5, 6, 7, 8] rfl rfl 2 0 rfl rfl (cwV 2 hts gX5_done_X2_playPad rfl rfl rfl (by decide +kernel) ⟨(Nat.le_of_ble_eq_true rfl), (Nat.le_of_ble_eq_true rfl)⟩) rfl hl.1 rfl (Nat.le_of_ble_eq_true rfl) dX5_done_12
  refine mc_i (wr := (wG  aG0 aK0 aE0 aF0 aP0 aD0 aM0 aC0 gg)) hr hP hD hS hA [9, 10, 11, 12, 13, 14, 15, 16, 17, 18, 19, 1, 2, 3, 4, 5, 6, 7, 8] [0] [0, 12, 13, 14, 15, 16, 17, 18, 19, 1, 2, 3, 4, 5, 6, 7, 8, 9, 10, 11] rfl rfl rfl rfl rfl (wn := fun u_12 => ((wG  aG0 aK0 aE0 aF0 aP0 aD0 aM0 aC0 gg) ++ (wK cI aK0 aK1 aK2 aK3 aK4 aK5 k) ++ (wP cI aP0 aP1 pp) ++ (wD cI aD0 aD1 aD2 aD3 aD4 aT0 u_12.1) ++ (wK cI aT0 aT1 aT2 aT3 aT4 aT5 u_12.2))) (fun _ => rfl) (fun r_12 u_12 H locs hw_12 hP hD hS => ?_)
  have hP : va_P δ vwCl ((wG  aG0 aK0 aE0 aF0 aP0 aD0 aM0 aC0 gg) ++ (wK cI aK0 aK1 aK2 aK3 aK4 aK5 k) ++ (wP cI aP0 aP1 pp) ++ (wD cI aD0 aD1 aD2 aD3 aD4 aT0 u_12.1) ++ (wK cI aT0 aT1 aT2 aT3 aT4 aT5 u_12.2)) H := hP
  have hD : va_D A ((wG  aG0 aK0 aE0 aF0 aP0 aD0 aM0 aC0 gg) ++ (wK cI aK0 aK1 aK2 aK3 aK4 aK5 k) ++ (wP cI aP0 aP1 pp) ++ (wD cI aD0 aD1 aD2 aD3 aD4 aT0 u_12.1) ++ (wK cI aT0 aT1 aT2 aT3 aT4 aT5 u_12.2)) := hD
  have hR := bnd_eq hR hw_12.symm
  refine lv_istore_n (lv' := [(1, .int r_12), (0, .ref aG0)]) hx hb dX5_done_15 rfl hl (by decide) rfl (fun ls hl => ?_)
  refine lv_iload_n hx hb dX5_done_16 rfl (lv_at hl 0 rfl) ?_
  refine lv_if_ge (tgt := 22) hx hb dX5_done_17 (by decide) (fun c_17 => ?_) (fun c_17 => ?_)
  · have c_17 : (0 ≤ r_12) := c_17
    have hR := hR.trans (if_pos c_17)
    refine lv_aload_n hx hb dX5_done_22 rfl (lv_at hl 1 rfl) ?_
    refine va_get (D := δ) (ci := 5) (v := .ref aK0) (C := RX5) (T := TX5) (N := 9) hx hb hts hinX5 hown hK hP 0 rfl rfl 0 (by decide) (hts (.fieldLink RX5 10 "GloveHours" "court" "LGloveHours$Court;") (List.mem_of_getElem? (i := 2) rfl)) (fun _ h9 => h9) rfl dX5_done_23 ?_
    refine lv_aload_n hx hb dX5_done_26 rfl (lv_at hl 1 rfl) ?_
    refine va_get (D := δ) (ci := 5) (v := .ref aD0) (C := RX5) (T := TX5) (N := 9) hx hb hts hinX5 hown hK hP 0 rfl rfl 6 (by decide) (hts (.fieldLink RX5 32 "GloveHours" "day" "LGloveHours$Day;") (List.mem_of_getElem? (i := 1) rfl)) (fun _ h9 => h9) rfl dX5_done_27 ?_
    refine va_get (D := δ) (ci := 2) (v := .ref aT0) (C := RX2) (T := TX2) (N := 9) hx hb hts hinX2 hown hK hP 9 rfl rfl 0 (by decide) (hts (.fieldLink RX5 106 "GloveHours$Day" "court" "LGloveHours$Court;") (List.mem_of_getElem? (i := 4) rfl)) (fun _ h9 => h9) rfl dX5_done_30 ?_
    have hr := mrV (p := p) (e := e) (R := rm_X5_done) (below := below) (meth := meth) (H := H) (locs := locs) (ls := ls) (As := [.ref aT0]) (rest := []) (c_X1_copyFrom l δ cI cJ cZ aK0 aK1 aK2 aK3 aK4 aK5 aT0 aT1 aT2 aT3 aT4 aT5 k u_12.2) hx hb hml hts hown hK hNW hP hD [1, 2, 3, 4, 5, 6, 14, 15, 16, 17, 18, 19] rfl rfl 1 0 rfl rfl (cwV 1 hts gX5_done_X1_copyFrom rfl rfl rfl (by decide +kernel) ⟨(Nat.le_of_ble_eq_true rfl), (Nat.le_of_ble_eq_true rfl)⟩) rfl hl.1 rfl (Nat.le_of_ble_eq_true rfl) dX5_done_33
    refine mc_v (wr := ((wG  aG0 aK0 aE0 aF0 aP0 aD0 aM0 aC0 gg) ++ (wP cI aP0 aP1 pp) ++ (wD cI aD0 aD1 aD2 aD3 aD4 aT0 u_12.1))) hr hP hD hS hA [1, 2, 3, 4, 5, 6, 14, 15, 16, 17, 18, 19] [0, 7, 8, 9, 10, 11, 12, 13] [0, 8, 9, 10, 11, 12, 13, 1, 2, 3, 4, 5, 6, 7, 14, 15, 16, 17, 18, 19] rfl rfl rfl rfl rfl (wn := fun u_33 => ((wG  aG0 aK0 aE0 aF0 aP0 aD0 aM0 aC0 gg) ++ (wK cI aK0 aK1 aK2 aK3 aK4 aK5 u_33) ++ (wP cI aP0 aP1 pp) ++ (wD cI aD0 aD1 aD2 aD3 aD4 aT0 u_12.1) ++ (wK cI aT0 aT1 aT2 aT3 aT4 aT5 u_12.2))) (fun _ => rfl) (fun u_33 H locs hw_33 hP hD hS => ?_)
    have hP : va_P δ vwCl ((wG  aG0 aK0 aE0 aF0 aP0 aD0 aM0 aC0 gg) ++ (wK cI aK0 aK1 aK2 aK3 aK4 aK5 u_33) ++ (wP cI aP0 aP1 pp) ++ (wD cI aD0 aD1 aD2 aD3 aD4 aT0 u_12.1) ++ (wK cI aT0 aT1 aT2 aT3 aT4 aT5 u_12.2)) H := hP
    have hD : va_D A ((wG  aG0 aK0 aE0 aF0 aP0 aD0 aM0 aC0 gg) ++ (wK cI aK0 aK1 aK2 aK3 aK4 aK5 u_33) ++ (wP cI aP0 aP1 pp) ++ (wD cI aD0 aD1 aD2 aD3 aD4 aT0 u_12.1) ++ (wK cI aT0 aT1 aT2 aT3 aT4 aT5 u_12.2)) := hD
    have hR := bnd_eq hR hw_33.symm
    refine lv_aload_n hx hb dX5_done_36 rfl (lv_at hl 1 rfl) ?_
    refine va_get (D := δ) (ci := 5) (v := .ref aP0) (C := RX5) (T := TX5) (N := 9) hx hb hts hinX5 hown hK hP 0 rfl rfl 5 (by decide) (hts (.fieldLink RX5 25 "GloveHours" "pad" "LGloveHours$Pad;") (List.mem_of_getElem? (i := 3) rfl)) (fun _ h9 => h9) rfl dX5_done_37 ?_
    refine lv_iconst (v := (0 : Int32)) hx hb dX5_done_40 (by decide) ?_
    refine va_put (D := δ) (ci := 4) (v := .int (0 : Int32)) (ty := .int) (C := RX4) (T := TX4) (N := 2) hx hb hts hinX4 tyX4 tyX4_ok nmX4 hown hK hP hD hS 7 rfl rfl 0 (by decide) (hts (.fieldLink RX5 86 "GloveHours$Pad" "length" "I") (List.mem_of_getElem? (i := 5) rfl)) (fun _ h9 => h9) rfl (by decide +kernel) rfl rfl (Nat.le_of_ble_eq_true rfl) dX5_done_41 (fun H locs hP hD hS => ?_)
    have hP : va_P δ vwCl ((wG  aG0 aK0 aE0 aF0 aP0 aD0 aM0 aC0 gg) ++ (wK cI aK0 aK1 aK2 aK3 aK4 aK5 u_33) ++ (wP cI aP0 aP1 ((0 : Int32), pSigns pp)) ++ (wD cI aD0 aD1 aD2 aD3 aD4 aT0 u_12.1) ++ (wK cI aT0 aT1 aT2 aT3 aT4 aT5 u_12.2)) H := hP
    have hD : va_D A ((wG  aG0 aK0 aE0 aF0 aP0 aD0 aM0 aC0 gg) ++ (wK cI aK0 aK1 aK2 aK3 aK4 aK5 u_33) ++ (wP cI aP0 aP1 ((0 : Int32), pSigns pp)) ++ (wD cI aD0 aD1 aD2 aD3 aD4 aT0 u_12.1) ++ (wK cI aT0 aT1 aT2 aT3 aT4 aT5 u_12.2)) := hD
    refine lv_aload_n hx hb dX5_done_44 rfl (lv_at hl 1 rfl) ?_
    refine va_get (D := δ) (ci := 5) (v := .ref aD0) (C := RX5) (T := TX5) (N := 9) hx hb hts hinX5 hown hK hP 0 rfl rfl 6 (by decide) (hts (.fieldLink RX5 32 "GloveHours" "day" "LGloveHours$Day;") (List.mem_of_getElem? (i := 1) rfl)) (fun _ h9 => h9) rfl dX5_done_45 ?_
    refine va_get (D := δ) (ci := 2) (v := .int (dActs u_12.1)) (C := RX2) (T := TX2) (N := 9) hx hb hts hinX2 hown hK hP 9 rfl rfl 1 (by decide) (hts (.fieldLink RX5 130 "GloveHours$Day" "acts" "I") (List.mem_of_getElem? (i := 6) rfl)) (fun _ h9 => h9) rfl dX5_done_48 ?_
    exact hret _ _ (dActs u_12.1) (u_33, ((0 : Int32), pSigns pp), u_12.1, u_12.2) _ _ hR hP hD hS dX5_done_51
  · have c_17 : ¬ (0 ≤ r_12) := c_17
    have hR := hR.trans (if_neg c_17)
    refine lv_iload_n hx hb dX5_done_20 rfl (lv_at hl 0 rfl) ?_
    exact hret _ _ r_12 (k, pp, u_12.1, u_12.2) _ _ hR hP hD hS dX5_done_21

abbrev rm_X5_proper : Room := { frames := 2, cells := 0, slots := 0, locals := 43 }
set_option maxHeartbeats 4000000 in
set_option maxRecDepth 100000 in
theorem c_X5_proper (l : Launch) (δ : va_G) (cI cJ cZ : ClassId) (aG0 aK0 aK1 aK2 aK3 aK4 aK5 aE0 aF0 aP0 aD0 aM0 aC0 : Nat) (gg : GS) (k : KS) : mMi l δ (mTy cI cJ cZ) yX5_proper wsX5_proper rm_X5_proper [.ref aG0] ((wG  aG0 aK0 aE0 aF0 aP0 aD0 aM0 aC0 gg) ++ (wK cI aK0 aK1 aK2 aK3 aK4 aK5 k)) (S := Unit) (fun r _ => F_X5_proper k = r) (fun _ => ((wG  aG0 aK0 aE0 aF0 aP0 aD0 aM0 aC0 gg) ++ (wK cI aK0 aK1 aK2 aK3 aK4 aK5 k))) := by
  refine mk_i (cc := cX5_proper) (maxL := 3) (by decide) rfl (Nat.le_of_ble_eq_true rfl) ?_
  intro p e s m args below meth c A Q ls H locs hx hb hml hts hown hK hNW hA hP hD hS hl hret
  have hown : s.vm.findClass RX5 = some m.cls := hown
  have hl : lv_has ls 3 [(0, .ref aG0)] := hl
  have hinX5 : ∀ w ∈ u_ws RX5 TX5 9, w ∈ wsX5_proper := (fun _ h => List.mem_cons_of_mem _ (List.mem_append_left _ (List.mem_append_right _ (h))))
  have hR := F_X5_proper.eq_1 k
  refine lv_iconst (v := (0 : Int32)) hx hb dX5_proper_0 (by decide) ?_
  refine lv_istore_n (lv' := [(1, .int (0 : Int32)), (0, .ref aG0)]) hx hb dX5_proper_1 rfl hl (by decide) rfl (fun ls hl => ?_)
  refine lv_iconst (v := (0 : Int32)) hx hb dX5_proper_2 (by decide) ?_
  refine lv_istore_n (lv' := [(2, .int (0 : Int32)), (1, .int (0 : Int32)), (0, .ref aG0)]) hx hb dX5_proper_3 rfl hl (by decide) rfl (fun ls hl => ?_)
  have hloop_4 : ∀ (n_4 : Nat) (i_4 : Nat) (v1_4 : Int32) (H : Heap) (locs : List Loc) (ls : Array Slot), (hi_4 : i_4 ≤ 6) → (hn_4 : 6 < i_4 + n_4) → (hP : va_P δ vwCl ((wG  aG0 aK0 aE0 aF0 aP0 aD0 aM0 aC0 gg) ++ (wK cI aK0 aK1 aK2 aK3 aK4 aK5 k)) H) → (hD : va_D A ((wG  aG0 aK0 aE0 aF0 aP0 aD0 aM0 aC0 gg) ++ (wK cI aK0 aK1 aK2 aK3 aK4 aK5 k))) → (hS : va_S A s.heap H locs) → (hl : lv_has ls 3 [(2, .int (nI i_4)), (1, .int v1_4), (0, .ref aG0)]) → (kk : ∀ (w_4 : Int32) (H : Heap) (locs : List Loc) (ls : Array Slot), L_X5_proper_4 k n_4 i_4 v1_4 = w_4 → va_P δ vwCl ((wG  aG0 aK0 aE0 aF0 aP0 aD0 aM0 aC0 gg) ++ (wK cI aK0 aK1 aK2 aK3 aK4 aK5 k)) H → va_D A ((wG  aG0 aK0 aE0 aF0 aP0 aD0 aM0 aC0 gg) ++ (wK cI aK0 aK1 aK2 aK3 aK4 aK5 k)) → va_S A s.heap H locs → lv_has ls 3 [(1, .int w_4), (0, .ref aG0)] → W p l e rm_X5_proper s m args below meth c H locs 0 0 Q (F0 m 33 ls [])) → W p l e rm_X5_proper s m args below meth c H locs 0 0 Q (F0 m 4 ls []) := by
    intro n_4
    induction n_4 with
    | zero => intro i_4 v1_4 H locs ls hi_4 hn_4 hP hD hS hl kk; exact absurd hn_4 (by omega)
    | succ n_4 ih_4 =>
      intro i_4 v1_4 H locs ls hi_4 hn_4 hP hD hS hl kk
      have hR := L_X5_proper_4_s k n_4 i_4 v1_4
      refine lv_iload_n hx hb dX5_proper_4 rfl (lv_at hl 0 rfl) ?_
      refine lv_bipush (v := (6 : Int32)) hx hb dX5_proper_5 (by decide) ?_
      refine lv_icmp_ge (tgt := 33) hx hb dX5_proper_7 (by decide) (fun c_7 => ?_) (fun c_7 => ?_)
      · have c_7 : ((6 : Int32) ≤ (nI i_4)) := c_7
        have hR := hR.trans (if_pos c_7)
        exact kk v1_4 H locs ls hR hP hD hS (lv_sub hl [1, 2] rfl)
      · have c_7 : ¬ ((6 : Int32) ≤ (nI i_4)) := c_7
        have hR := hR.trans (if_neg c_7)
        have hlt_4 : i_4 < 6 := lt_g c_7 hi_4 (by decide)
        refine lv_aload_n hx hb dX5_proper_10 rfl (lv_at hl 2 rfl) ?_
        refine va_get (D := δ) (ci := 5) (v := .ref aK0) (C := RX5) (T := TX5) (N := 9) hx hb hts hinX5 hown hK hP 0 rfl rfl 0 (by decide) (hts (.fieldLink RX5 10 "GloveHours" "court" "LGloveHours$Court;") (List.mem_of_getElem? (i := 1) rfl)) (fun _ h9 => h9) rfl dX5_proper_11 ?_
        refine lv_iload_n hx hb dX5_proper_14 rfl (lv_at hl 0 rfl) ?_
        have hr := mrV (p := p) (e := e) (R := rm_X5_proper) (below := below) (meth := meth) (H := H) (locs := locs) (ls := ls) (As := [.int (nI i_4)]) (rest := []) (c_X1_isProper l δ cI cJ cZ aK0 aK1 aK2 aK3 aK4 aK5 k (nI i_4)) hx hb hml hts hown hK hNW hP hD [1, 2, 3, 4, 5, 6] rfl rfl 1 0 rfl rfl (cwV 1 hts gX5_proper_X1_isProper rfl rfl rfl (by decide +kernel) ⟨(Nat.le_of_ble_eq_true rfl), (Nat.le_of_ble_eq_true rfl)⟩) rfl hl.1 rfl (Nat.le_of_ble_eq_true rfl) dX5_proper_15
        refine mc_i (wr := (wG  aG0 aK0 aE0 aF0 aP0 aD0 aM0 aC0 gg)) hr hP hD hS hA [1, 2, 3, 4, 5, 6] [0] [0, 1, 2, 3, 4, 5, 6] rfl rfl rfl rfl rfl (wn := fun _ => ((wG  aG0 aK0 aE0 aF0 aP0 aD0 aM0 aC0 gg) ++ (wK cI aK0 aK1 aK2 aK3 aK4 aK5 k))) (fun _ => rfl) (fun r_15 _ H locs hw_15 hP hD hS => ?_)
        obtain ⟨hw_15, z_15⟩ := hw_15
        have hP : va_P δ vwCl ((wG  aG0 aK0 aE0 aF0 aP0 aD0 aM0 aC0 gg) ++ (wK cI aK0 aK1 aK2 aK3 aK4 aK5 k)) H := hP
        have hD : va_D A ((wG  aG0 aK0 aE0 aF0 aP0 aD0 aM0 aC0 gg) ++ (wK cI aK0 aK1 aK2 aK3 aK4 aK5 k)) := hD
        have hR := bnd_eq hR hw_15.symm
        refine lv_if_eq (tgt := 27) hx hb dX5_proper_18 (by decide) (fun c_18 => ?_) (fun c_18 => ?_)
        · have c_18 : (r_15 = 0) := c_18
          have hR := hR.trans (if_pos c_18)
          refine lv_iinc (v := (nI (i_4 + 1))) (lv' := [(2, .int (nI (i_4 + 1))), (1, .int v1_4), (0, .ref aG0)]) hx hb dX5_proper_27 hl (k := 0) rfl (nI_1 i_4) (by decide) rfl (fun ls hl => ?_)
          refine lv_goto (tgt := 4) hx hb dX5_proper_30 (by decide) ?_
          exact ih_4 (i_4 + 1) v1_4 _ _ _ (by omega) (by omega) hP hD hS (lv_sub hl [0, 1, 2] rfl) (fun w_4 H locs ls he hP hD hS hl => kk w_4 H locs ls (hR.trans he) hP hD hS hl)
        · have c_18 : ¬ (r_15 = 0) := c_18
          have hR := hR.trans (if_neg c_18)
          refine lv_iload_n hx hb dX5_proper_21 rfl (lv_at hl 1 rfl) ?_
          refine lv_iconst (v := (1 : Int32)) hx hb dX5_proper_22 (by decide) ?_
          refine lv_iload_n hx hb dX5_proper_23 rfl (lv_at hl 0 rfl) ?_
          refine lv_ishl hx hb dX5_proper_24 ?_
          refine lv_ior hx hb dX5_proper_25 ?_
          refine lv_istore_n (lv' := [(1, .int (v1_4 ||| ((1 : Int32) <<< ((nI i_4) &&& 31)))), (2, .int (nI i_4)), (0, .ref aG0)]) hx hb dX5_proper_26 rfl hl (by decide) rfl (fun ls hl => ?_)
          refine lv_iinc (v := (nI (i_4 + 1))) (lv' := [(2, .int (nI (i_4 + 1))), (1, .int (v1_4 ||| ((1 : Int32) <<< ((nI i_4) &&& 31)))), (0, .ref aG0)]) hx hb dX5_proper_27 hl (k := 1) rfl (nI_1 i_4) (by decide) rfl (fun ls hl => ?_)
          refine lv_goto (tgt := 4) hx hb dX5_proper_30 (by decide) ?_
          exact ih_4 (i_4 + 1) (v1_4 ||| ((1 : Int32) <<< ((nI i_4) &&& 31))) _ _ _ (by omega) (by omega) hP hD hS (lv_sub hl [0, 1, 2] rfl) (fun w_4 H locs ls he hP hD hS hl => kk w_4 H locs ls (hR.trans he) hP hD hS hl)
  refine hloop_4 (6 + 1) 0 (0 : Int32) _ _ _ (by omega) (by omega) hP hD hS (lv_sub hl [0, 1, 2] rfl) (fun w_4 H locs ls hw_4 hP hD hS hl => ?_)
  have hP : va_P δ vwCl ((wG  aG0 aK0 aE0 aF0 aP0 aD0 aM0 aC0 gg) ++ (wK cI aK0 aK1 aK2 aK3 aK4 aK5 k)) H := hP
  have hD : va_D A ((wG  aG0 aK0 aE0 aF0 aP0 aD0 aM0 aC0 gg) ++ (wK cI aK0 aK1 aK2 aK3 aK4 aK5 k)) := hD
  have hR := bnd_eq hR hw_4.symm
  refine lv_iload_n hx hb dX5_proper_33 rfl (lv_at hl 0 rfl) ?_
  exact hret _ _ w_4 () _ _ hR hP hD hS dX5_proper_34

abbrev rm_X5_can : Room := { frames := 2, cells := 0, slots := 0, locals := 45 }
set_option maxHeartbeats 4000000 in
set_option maxRecDepth 100000 in
theorem c_X5_can (l : Launch) (δ : va_G) (cI cJ cZ : ClassId) (aG0 aK0 aK1 aK2 aK3 aK4 aK5 aE0 aF0 aP0 aD0 aM0 aC0 : Nat) (gg : GS) (k : KS) (xh : Int32) (xs : Int32) (xw : Int32) : mMi l δ (mTy cI cJ cZ) yX5_can wsX5_can rm_X5_can [.ref aG0, .int xh, .int xs, .int xw] ((wG  aG0 aK0 aE0 aF0 aP0 aD0 aM0 aC0 gg) ++ (wK cI aK0 aK1 aK2 aK3 aK4 aK5 k)) (S := Unit) (fun r _ => F_X5_can k xh xs xw = r) (fun _ => ((wG  aG0 aK0 aE0 aF0 aP0 aD0 aM0 aC0 gg) ++ (wK cI aK0 aK1 aK2 aK3 aK4 aK5 k))) := by
  refine mk_i (cc := cX5_can) (maxL := 6) (by decide) rfl (Nat.le_of_ble_eq_true rfl) ?_
  intro p e s m args below meth c A Q ls H locs hx hb hml hts hown hK hNW hA hP hD hS hl hret
  have hown : s.vm.findClass RX5 = some m.cls := hown
  have hl : lv_has ls 6 [(0, .ref aG0), (1, .int xh), (2, .int xs), (3, .int xw)] := hl
  have hinX1 : ∀ w ∈ u_ws RX1 TX1 11, w ∈ wsX5_can := (fun _ h => List.mem_cons_of_mem _ (List.mem_append_right _ (h)))
  have hinX5 : ∀ w ∈ u_ws RX5 TX5 9, w ∈ wsX5_can := (fun _ h => List.mem_cons_of_mem _ (List.mem_append_left _ (List.mem_append_right _ (h))))
  have hR := F_X5_can.eq_1 k xh xs xw
  refine lv_iload_n hx hb dX5_can_0 rfl (lv_at hl 2 rfl) ?_
  refine lv_aload_n hx hb dX5_can_1 rfl (lv_at hl 0 rfl) ?_
  refine va_get (D := δ) (ci := 5) (v := .ref aK0) (C := RX5) (T := TX5) (N := 9) hx hb hts hinX5 hown hK hP 0 rfl rfl 0 (by decide) (hts (.fieldLink RX5 10 "GloveHours" "court" "LGloveHours$Court;") (List.mem_of_getElem? (i := 1) rfl)) (fun _ h9 => h9) rfl dX5_can_2 ?_
  refine va_get (D := δ) (ci := 1) (v := .int (kPresent k)) (C := RX1) (T := TX1) (N := 11) hx hb hts hinX1 hown hK hP 1 rfl rfl 0 (by decide) (hts (.fieldLink RX5 59 "GloveHours$Court" "present" "I") (List.mem_of_getElem? (i := 2) rfl)) (fun _ h9 => h9) rfl dX5_can_5 ?_
  refine lv_iconst (v := (-1 : Int32)) hx hb dX5_can_8 (by decide) ?_
  refine lv_ixor hx hb dX5_can_9 ?_
  refine lv_iand hx hb dX5_can_10 ?_
  refine lv_if_eq (tgt := 16) hx hb dX5_can_11 (by decide) (fun c_11 => ?_) (fun c_11 => ?_)
  · have c_11 : ((xs &&& ((kPresent k) ^^^ (-1 : Int32))) = 0) := c_11
    have hR := hR.trans (if_pos c_11)
    refine lv_iload_n hx hb dX5_can_16 rfl (lv_at hl 1 rfl) ?_
    refine lv_iconst (v := (0 : Int32)) hx hb dX5_can_17 (by decide) ?_
    refine lv_bipush (v := (23 : Int32)) hx hb dX5_can_18 (by decide) ?_
    have hr := mrS (p := p) (e := e) (R := rm_X5_can) (below := below) (meth := meth) (H := H) (locs := locs) (ls := ls) (As := [.int xh, .int (0 : Int32), .int (23 : Int32)]) (rest := []) (c_X5_isWithin l δ cI cJ cZ xh (0 : Int32) (23 : Int32)) hx hb hml hts hown hK hNW hP hD [] rfl rfl (va_cwS 3 hts gX5_can_X5_isWithin rfl rfl rfl (by decide +kernel) ⟨(Nat.le_of_ble_eq_true rfl), (Nat.le_of_ble_eq_true rfl)⟩) rfl hl.1 rfl (Nat.le_of_ble_eq_true rfl) dX5_can_20
    refine mc_i (wr := ((wG  aG0 aK0 aE0 aF0 aP0 aD0 aM0 aC0 gg) ++ (wK cI aK0 aK1 aK2 aK3 aK4 aK5 k))) hr hP hD hS hA [] [0, 1, 2, 3, 4, 5, 6] [0, 1, 2, 3, 4, 5, 6] rfl rfl rfl rfl rfl (wn := fun _ => ((wG  aG0 aK0 aE0 aF0 aP0 aD0 aM0 aC0 gg) ++ (wK cI aK0 aK1 aK2 aK3 aK4 aK5 k))) (fun _ => rfl) (fun r_20 _ H locs hw_20 hP hD hS => ?_)
    obtain ⟨hw_20, z_20⟩ := hw_20
    have hP : va_P δ vwCl ((wG  aG0 aK0 aE0 aF0 aP0 aD0 aM0 aC0 gg) ++ (wK cI aK0 aK1 aK2 aK3 aK4 aK5 k)) H := hP
    have hD : va_D A ((wG  aG0 aK0 aE0 aF0 aP0 aD0 aM0 aC0 gg) ++ (wK cI aK0 aK1 aK2 aK3 aK4 aK5 k)) := hD
    have hR := bnd_eq hR hw_20.symm
    refine lv_if_eq (tgt := 35) hx hb dX5_can_23 (by decide) (fun c_23 => ?_) (fun c_23 => ?_)
    · have c_23 : (r_20 = 0) := c_23
      have hR := hR.trans (if_pos c_23)
      refine lv_bipush (v := (-2 : Int32)) hx hb dX5_can_35 (by decide) ?_
      exact hret _ _ (-2 : Int32) () _ _ hR hP hD hS dX5_can_37
    · have c_23 : ¬ (r_20 = 0) := c_23
      have hR := hR.trans (if_neg c_23)
      refine lv_iload_n hx hb dX5_can_26 rfl (lv_at hl 3 rfl) ?_
      refine lv_iconst (v := (0 : Int32)) hx hb dX5_can_27 (by decide) ?_
      refine lv_iconst (v := (1 : Int32)) hx hb dX5_can_28 (by decide) ?_
      have hr := mrS (p := p) (e := e) (R := rm_X5_can) (below := below) (meth := meth) (H := H) (locs := locs) (ls := ls) (As := [.int xw, .int (0 : Int32), .int (1 : Int32)]) (rest := []) (c_X5_isWithin l δ cI cJ cZ xw (0 : Int32) (1 : Int32)) hx hb hml hts hown hK hNW hP hD [] rfl rfl (va_cwS 3 hts gX5_can_X5_isWithin rfl rfl rfl (by decide +kernel) ⟨(Nat.le_of_ble_eq_true rfl), (Nat.le_of_ble_eq_true rfl)⟩) rfl hl.1 rfl (Nat.le_of_ble_eq_true rfl) dX5_can_29
      refine mc_i (wr := ((wG  aG0 aK0 aE0 aF0 aP0 aD0 aM0 aC0 gg) ++ (wK cI aK0 aK1 aK2 aK3 aK4 aK5 k))) hr hP hD hS hA [] [0, 1, 2, 3, 4, 5, 6] [0, 1, 2, 3, 4, 5, 6] rfl rfl rfl rfl rfl (wn := fun _ => ((wG  aG0 aK0 aE0 aF0 aP0 aD0 aM0 aC0 gg) ++ (wK cI aK0 aK1 aK2 aK3 aK4 aK5 k))) (fun _ => rfl) (fun r_29 _ H locs hw_29 hP hD hS => ?_)
      obtain ⟨hw_29, z_29⟩ := hw_29
      have hP : va_P δ vwCl ((wG  aG0 aK0 aE0 aF0 aP0 aD0 aM0 aC0 gg) ++ (wK cI aK0 aK1 aK2 aK3 aK4 aK5 k)) H := hP
      have hD : va_D A ((wG  aG0 aK0 aE0 aF0 aP0 aD0 aM0 aC0 gg) ++ (wK cI aK0 aK1 aK2 aK3 aK4 aK5 k)) := hD
      have hR := bnd_eq hR hw_29.symm
      refine lv_if_ne (tgt := 38) hx hb dX5_can_32 (by decide) (fun c_32 => ?_) (fun c_32 => ?_)
      · have c_32 : ¬ (r_29 = 0) := c_32
        have hR := hR.trans (if_neg c_32)
        refine lv_aload_n hx hb dX5_can_38 rfl (lv_at hl 0 rfl) ?_
        refine va_get (D := δ) (ci := 5) (v := .ref aK0) (C := RX5) (T := TX5) (N := 9) hx hb hts hinX5 hown hK hP 0 rfl rfl 0 (by decide) (hts (.fieldLink RX5 10 "GloveHours" "court" "LGloveHours$Court;") (List.mem_of_getElem? (i := 1) rfl)) (fun _ h9 => h9) rfl dX5_can_39 ?_
        refine lv_iload_n hx hb dX5_can_42 rfl (lv_at hl 1 rfl) ?_
        have hr := mrV (p := p) (e := e) (R := rm_X5_can) (below := below) (meth := meth) (H := H) (locs := locs) (ls := ls) (As := [.int xh]) (rest := []) (c_X1_ownersOf l δ cI cJ cZ aK0 aK1 aK2 aK3 aK4 aK5 k xh) hx hb hml hts hown hK hNW hP hD [1, 2, 3, 4, 5, 6] rfl rfl 1 0 rfl rfl (cwV 1 hts gX5_can_X1_ownersOf rfl rfl rfl (by decide +kernel) ⟨(Nat.le_of_ble_eq_true rfl), (Nat.le_of_ble_eq_true rfl)⟩) rfl hl.1 rfl (Nat.le_of_ble_eq_true rfl) dX5_can_43
        refine mc_i (wr := (wG  aG0 aK0 aE0 aF0 aP0 aD0 aM0 aC0 gg)) hr hP hD hS hA [1, 2, 3, 4, 5, 6] [0] [0, 1, 2, 3, 4, 5, 6] rfl rfl rfl rfl rfl (wn := fun _ => ((wG  aG0 aK0 aE0 aF0 aP0 aD0 aM0 aC0 gg) ++ (wK cI aK0 aK1 aK2 aK3 aK4 aK5 k))) (fun _ => rfl) (fun r_43 _ H locs hw_43 hP hD hS => ?_)
        have hP : va_P δ vwCl ((wG  aG0 aK0 aE0 aF0 aP0 aD0 aM0 aC0 gg) ++ (wK cI aK0 aK1 aK2 aK3 aK4 aK5 k)) H := hP
        have hD : va_D A ((wG  aG0 aK0 aE0 aF0 aP0 aD0 aM0 aC0 gg) ++ (wK cI aK0 aK1 aK2 aK3 aK4 aK5 k)) := hD
        have hR := bnd_eq hR hw_43.symm
        refine lv_istore (lv' := [(4, .int r_43), (0, .ref aG0), (1, .int xh), (2, .int xs), (3, .int xw)]) hx hb dX5_can_46 hl (by decide) rfl (fun ls hl => ?_)
        refine lv_iload_n hx hb dX5_can_48 rfl (lv_at hl 3 rfl) ?_
        have hr := mrS (p := p) (e := e) (R := rm_X5_can) (below := below) (meth := meth) (H := H) (locs := locs) (ls := ls) (As := [.int xs]) (rest := []) (c_J6_bitCount_0f7a4 l δ cI cJ cZ xs) hx hb hml hts hown hK hNW hP hD [] rfl rfl (va_cwS 1 hts gX5_can_J6_bitCount_0f7a4 rfl rfl rfl (by decide +kernel) ⟨(Nat.le_of_ble_eq_true rfl), (Nat.le_of_ble_eq_true rfl)⟩) rfl hl.1 rfl (Nat.le_of_ble_eq_true rfl) dX5_can_49
        refine mc_i (wr := ((wG  aG0 aK0 aE0 aF0 aP0 aD0 aM0 aC0 gg) ++ (wK cI aK0 aK1 aK2 aK3 aK4 aK5 k))) hr hP hD hS hA [] [0, 1, 2, 3, 4, 5, 6] [0, 1, 2, 3, 4, 5, 6] rfl rfl rfl rfl rfl (wn := fun _ => ((wG  aG0 aK0 aE0 aF0 aP0 aD0 aM0 aC0 gg) ++ (wK cI aK0 aK1 aK2 aK3 aK4 aK5 k))) (fun _ => rfl) (fun r_49 _ H locs hw_49 hP hD hS => ?_)
        have hP : va_P δ vwCl ((wG  aG0 aK0 aE0 aF0 aP0 aD0 aM0 aC0 gg) ++ (wK cI aK0 aK1 aK2 aK3 aK4 aK5 k)) H := hP
        have hD : va_D A ((wG  aG0 aK0 aE0 aF0 aP0 aD0 aM0 aC0 gg) ++ (wK cI aK0 aK1 aK2 aK3 aK4 aK5 k)) := hD
        have hR := bnd_eq hR hw_49.symm
        refine lv_iload hx hb dX5_can_52 (lv_at hl 0 rfl) ?_
        have hr := mrS (p := p) (e := e) (R := rm_X5_can) (below := below) (meth := meth) (H := H) (locs := locs) (ls := ls) (As := [.int r_43]) (rest := [.int r_49]) (c_J6_bitCount_0f7a4 l δ cI cJ cZ r_43) hx hb hml hts hown hK hNW hP hD [] rfl rfl (va_cwS 1 hts gX5_can_J6_bitCount_0f7a4 rfl rfl rfl (by decide +kernel) ⟨(Nat.le_of_ble_eq_true rfl), (Nat.le_of_ble_eq_true rfl)⟩) rfl hl.1 rfl (Nat.le_of_ble_eq_true rfl) dX5_can_54
        refine mc_i (wr := ((wG  aG0 aK0 aE0 aF0 aP0 aD0 aM0 aC0 gg) ++ (wK cI aK0 aK1 aK2 aK3 aK4 aK5 k))) hr hP hD hS hA [] [0, 1, 2, 3, 4, 5, 6] [0, 1, 2, 3, 4, 5, 6] rfl rfl rfl rfl rfl (wn := fun _ => ((wG  aG0 aK0 aE0 aF0 aP0 aD0 aM0 aC0 gg) ++ (wK cI aK0 aK1 aK2 aK3 aK4 aK5 k))) (fun _ => rfl) (fun r_54 _ H locs hw_54 hP hD hS => ?_)
        have hP : va_P δ vwCl ((wG  aG0 aK0 aE0 aF0 aP0 aD0 aM0 aC0 gg) ++ (wK cI aK0 aK1 aK2 aK3 aK4 aK5 k)) H := hP
        have hD : va_D A ((wG  aG0 aK0 aE0 aF0 aP0 aD0 aM0 aC0 gg) ++ (wK cI aK0 aK1 aK2 aK3 aK4 aK5 k)) := hD
        have hR := bnd_eq hR hw_54.symm
        refine va_mmin hx hb (hml.trans hl.1.symm) hown (hts (.methodLink RX5 139 Lib.Math.min.name) (List.mem_of_getElem? (i := 3) rfl)) (hts (.static Lib.Math.min.name) (List.mem_of_getElem? (i := 4) rfl)) (hts (.initialized "java/lang/Math") (List.mem_of_getElem? (i := 5) rfl)) (hts (.code Lib.Math.min.name Lib.Math.min.code 2 (some .int)) (List.mem_of_getElem? (i := 6) rfl)) (Nat.le_of_ble_eq_true rfl) (Nat.le_of_ble_eq_true rfl) (Nat.zero_le _) (Nat.zero_le _) dX5_can_57 ?_
        refine lv_istore (lv' := [(5, .int (if r_54 < r_49 then r_54 else r_49)), (4, .int r_43), (0, .ref aG0), (1, .int xh), (2, .int xs), (3, .int xw)]) hx hb dX5_can_60 hl (by decide) rfl (fun ls hl => ?_)
        refine lv_iload_n hx hb dX5_can_62 rfl (lv_at hl 5 rfl) ?_
        refine lv_if_ne (tgt := 71) hx hb dX5_can_63 (by decide) (fun c_63 => ?_) (fun c_63 => ?_)
        · have c_63 : ¬ (xw = 0) := c_63
          have hR := hR.trans (if_neg c_63)
          refine lv_iload hx hb dX5_can_71 (lv_at hl 0 rfl) ?_
          refine lv_iload_n hx hb dX5_can_73 rfl (lv_at hl 4 rfl) ?_
          refine lv_iload hx hb dX5_can_74 (lv_at hl 1 rfl) ?_
          refine lv_iand hx hb dX5_can_76 ?_
          have hr := mrS (p := p) (e := e) (R := rm_X5_can) (below := below) (meth := meth) (H := H) (locs := locs) (ls := ls) (As := [.int (xs &&& r_43)]) (rest := [.int (if r_54 < r_49 then r_54 else r_49)]) (c_J6_bitCount_0f7a4 l δ cI cJ cZ (xs &&& r_43)) hx hb hml hts hown hK hNW hP hD [] rfl rfl (va_cwS 1 hts gX5_can_J6_bitCount_0f7a4 rfl rfl rfl (by decide +kernel) ⟨(Nat.le_of_ble_eq_true rfl), (Nat.le_of_ble_eq_true rfl)⟩) rfl hl.1 rfl (Nat.le_of_ble_eq_true rfl) dX5_can_77
          refine mc_i (wr := ((wG  aG0 aK0 aE0 aF0 aP0 aD0 aM0 aC0 gg) ++ (wK cI aK0 aK1 aK2 aK3 aK4 aK5 k))) hr hP hD hS hA [] [0, 1, 2, 3, 4, 5, 6] [0, 1, 2, 3, 4, 5, 6] rfl rfl rfl rfl rfl (wn := fun _ => ((wG  aG0 aK0 aE0 aF0 aP0 aD0 aM0 aC0 gg) ++ (wK cI aK0 aK1 aK2 aK3 aK4 aK5 k))) (fun _ => rfl) (fun r_77 _ H locs hw_77 hP hD hS => ?_)
          have hP : va_P δ vwCl ((wG  aG0 aK0 aE0 aF0 aP0 aD0 aM0 aC0 gg) ++ (wK cI aK0 aK1 aK2 aK3 aK4 aK5 k)) H := hP
          have hD : va_D A ((wG  aG0 aK0 aE0 aF0 aP0 aD0 aM0 aC0 gg) ++ (wK cI aK0 aK1 aK2 aK3 aK4 aK5 k)) := hD
          have hR := bnd_eq hR hw_77.symm
          refine lv_isub hx hb dX5_can_80 ?_
          exact hret _ _ ((if r_54 < r_49 then r_54 else r_49) - r_77) () _ _ hR hP hD hS dX5_can_81
        · have c_63 : (xw = 0) := c_63
          have hR := hR.trans (if_pos c_63)
          refine lv_iload hx hb dX5_can_66 (lv_at hl 0 rfl) ?_
          refine lv_goto (tgt := 81) hx hb dX5_can_68 (by decide) ?_
          exact hret _ _ (if r_54 < r_49 then r_54 else r_49) () _ _ hR hP hD hS dX5_can_81
      · have c_32 : (r_29 = 0) := c_32
        have hR := hR.trans (if_pos c_32)
        refine lv_bipush (v := (-2 : Int32)) hx hb dX5_can_35 (by decide) ?_
        exact hret _ _ (-2 : Int32) () _ _ hR hP hD hS dX5_can_37
  · have c_11 : ¬ ((xs &&& ((kPresent k) ^^^ (-1 : Int32))) = 0) := c_11
    have hR := hR.trans (if_neg c_11)
    refine lv_iconst (v := (-1 : Int32)) hx hb dX5_can_14 (by decide) ?_
    exact hret _ _ (-1 : Int32) () _ _ hR hP hD hS dX5_can_15

abbrev rm_X5_match : Room := { frames := 4, cells := 0, slots := 0, locals := 95 }
set_option maxHeartbeats 4000000 in
set_option maxRecDepth 100000 in
theorem c_X5_match (l : Launch) (δ : va_G) (cI cJ cZ : ClassId) (aG0 aK0 aK1 aK2 aK3 aK4 aK5 aM0 aM1 aM2 aE0 aF0 aP0 aD0 aC0 : Nat) (gg : GS) (k : KS) (mm : MS) (xs : Int32) (xv : Int32) (xh : Int32) : mMi l δ (mTy cI cJ cZ) yX5_match wsX5_match rm_X5_match [.ref aG0, .int xs, .int xv, .int xh] ((wG  aG0 aK0 aE0 aF0 aP0 aD0 aM0 aC0 gg) ++ (wK cI aK0 aK1 aK2 aK3 aK4 aK5 k) ++ (wM cI aM0 aM1 aM2 mm)) (S := MS) (fun r u => F_X5_match k mm xs xv xh = (r, u)) (fun u => ((wG  aG0 aK0 aE0 aF0 aP0 aD0 aM0 aC0 gg) ++ (wK cI aK0 aK1 aK2 aK3 aK4 aK5 k) ++ (wM cI aM0 aM1 aM2 u))) := by
  refine mk_i (cc := cX5_match) (maxL := 4) (by decide) rfl (Nat.le_of_ble_eq_true rfl) ?_
  intro p e s m args below meth c A Q ls H locs hx hb hml hts hown hK hNW hA hP hD hS hl hret
  have hown : s.vm.findClass RX5 = some m.cls := hown
  have hl : lv_has ls 4 [(0, .ref aG0), (1, .int xs), (2, .int xv), (3, .int xh)] := hl
  have hinX5 : ∀ w ∈ u_ws RX5 TX5 9, w ∈ wsX5_match := (fun _ h => List.mem_cons_of_mem _ (List.mem_append_left _ (List.mem_append_left _ (List.mem_append_right _ (h)))))
  have hR := F_X5_match.eq_1 k mm xs xv xh
  refine lv_iload_n hx hb dX5_match_0 rfl (lv_at hl 1 rfl) ?_
  refine lv_iconst (v := (0 : Int32)) hx hb dX5_match_1 (by decide) ?_
  refine lv_ldc (v := (16777215 : Int32)) hx hb hown (hts (.constant RX5 54 (16777215)) (List.mem_of_getElem? (i := 1) rfl)) dX5_match_2 ?_
  have hr := mrS (p := p) (e := e) (R := rm_X5_match) (below := below) (meth := meth) (H := H) (locs := locs) (ls := ls) (As := [.int xs, .int (0 : Int32), .int (16777215 : Int32)]) (rest := []) (c_X5_isWithin l δ cI cJ cZ xs (0 : Int32) (16777215 : Int32)) hx hb hml hts hown hK hNW hP hD [] rfl rfl (va_cwS 3 hts gX5_match_X5_isWithin rfl rfl rfl (by decide +kernel) ⟨(Nat.le_of_ble_eq_true rfl), (Nat.le_of_ble_eq_true rfl)⟩) rfl hl.1 rfl (Nat.le_of_ble_eq_true rfl) dX5_match_4
  refine mc_i (wr := ((wG  aG0 aK0 aE0 aF0 aP0 aD0 aM0 aC0 gg) ++ (wK cI aK0 aK1 aK2 aK3 aK4 aK5 k) ++ (wM cI aM0 aM1 aM2 mm))) hr hP hD hS hA [] [0, 1, 2, 3, 4, 5, 6, 7, 8, 9] [0, 1, 2, 3, 4, 5, 6, 7, 8, 9] rfl rfl rfl rfl rfl (wn := fun _ => ((wG  aG0 aK0 aE0 aF0 aP0 aD0 aM0 aC0 gg) ++ (wK cI aK0 aK1 aK2 aK3 aK4 aK5 k) ++ (wM cI aM0 aM1 aM2 mm))) (fun _ => rfl) (fun r_4 _ H locs hw_4 hP hD hS => ?_)
  obtain ⟨hw_4, z_4⟩ := hw_4
  have hP : va_P δ vwCl ((wG  aG0 aK0 aE0 aF0 aP0 aD0 aM0 aC0 gg) ++ (wK cI aK0 aK1 aK2 aK3 aK4 aK5 k) ++ (wM cI aM0 aM1 aM2 mm)) H := hP
  have hD : va_D A ((wG  aG0 aK0 aE0 aF0 aP0 aD0 aM0 aC0 gg) ++ (wK cI aK0 aK1 aK2 aK3 aK4 aK5 k) ++ (wM cI aM0 aM1 aM2 mm)) := hD
  have hR := bnd_eq hR hw_4.symm
  refine lv_if_eq (tgt := 20) hx hb dX5_match_7 (by decide) (fun c_7 => ?_) (fun c_7 => ?_)
  · have c_7 : (r_4 = 0) := c_7
    have hR := hR.trans (if_pos c_7)
    refine lv_bipush (v := (-2 : Int32)) hx hb dX5_match_20 (by decide) ?_
    exact hret _ _ (-2 : Int32) mm _ _ hR hP hD hS dX5_match_22
  · have c_7 : ¬ (r_4 = 0) := c_7
    have hR := hR.trans (if_neg c_7)
    refine lv_iload_n hx hb dX5_match_10 rfl (lv_at hl 2 rfl) ?_
    refine lv_iconst (v := (1 : Int32)) hx hb dX5_match_11 (by decide) ?_
    refine lv_bipush (v := (24 : Int32)) hx hb dX5_match_12 (by decide) ?_
    have hr := mrS (p := p) (e := e) (R := rm_X5_match) (below := below) (meth := meth) (H := H) (locs := locs) (ls := ls) (As := [.int xv, .int (1 : Int32), .int (24 : Int32)]) (rest := []) (c_X5_isWithin l δ cI cJ cZ xv (1 : Int32) (24 : Int32)) hx hb hml hts hown hK hNW hP hD [] rfl rfl (va_cwS 3 hts gX5_match_X5_isWithin rfl rfl rfl (by decide +kernel) ⟨(Nat.le_of_ble_eq_true rfl), (Nat.le_of_ble_eq_true rfl)⟩) rfl hl.1 rfl (Nat.le_of_ble_eq_true rfl) dX5_match_14
    refine mc_i (wr := ((wG  aG0 aK0 aE0 aF0 aP0 aD0 aM0 aC0 gg) ++ (wK cI aK0 aK1 aK2 aK3 aK4 aK5 k) ++ (wM cI aM0 aM1 aM2 mm))) hr hP hD hS hA [] [0, 1, 2, 3, 4, 5, 6, 7, 8, 9] [0, 1, 2, 3, 4, 5, 6, 7, 8, 9] rfl rfl rfl rfl rfl (wn := fun _ => ((wG  aG0 aK0 aE0 aF0 aP0 aD0 aM0 aC0 gg) ++ (wK cI aK0 aK1 aK2 aK3 aK4 aK5 k) ++ (wM cI aM0 aM1 aM2 mm))) (fun _ => rfl) (fun r_14 _ H locs hw_14 hP hD hS => ?_)
    obtain ⟨hw_14, z_14⟩ := hw_14
    have hP : va_P δ vwCl ((wG  aG0 aK0 aE0 aF0 aP0 aD0 aM0 aC0 gg) ++ (wK cI aK0 aK1 aK2 aK3 aK4 aK5 k) ++ (wM cI aM0 aM1 aM2 mm)) H := hP
    have hD : va_D A ((wG  aG0 aK0 aE0 aF0 aP0 aD0 aM0 aC0 gg) ++ (wK cI aK0 aK1 aK2 aK3 aK4 aK5 k) ++ (wM cI aM0 aM1 aM2 mm)) := hD
    have hR := bnd_eq hR hw_14.symm
    refine lv_if_ne (tgt := 23) hx hb dX5_match_17 (by decide) (fun c_17 => ?_) (fun c_17 => ?_)
    · have c_17 : ¬ (r_14 = 0) := c_17
      have hR := hR.trans (if_neg c_17)
      refine lv_iload_n hx hb dX5_match_23 rfl (lv_at hl 3 rfl) ?_
      refine lv_iconst (v := (-1 : Int32)) hx hb dX5_match_24 (by decide) ?_
      refine lv_icmp_eq (tgt := 38) hx hb dX5_match_25 (by decide) (fun c_25 => ?_) (fun c_25 => ?_)
      · have c_25 : (xh = (-1 : Int32)) := c_25
        have hR := hR.trans (if_pos c_25)
        refine lv_aload_n hx hb dX5_match_38 rfl (lv_at hl 0 rfl) ?_
        refine va_get (D := δ) (ci := 5) (v := .ref aM0) (C := RX5) (T := TX5) (N := 9) hx hb hts hinX5 hown hK hP 0 rfl rfl 7 (by decide) (hts (.fieldLink RX5 39 "GloveHours" "matching" "LGloveHours$Matching;") (List.mem_of_getElem? (i := 2) rfl)) (fun _ h9 => h9) rfl dX5_match_39 ?_
        refine lv_aload_n hx hb dX5_match_42 rfl (lv_at hl 0 rfl) ?_
        refine va_get (D := δ) (ci := 5) (v := .ref aK0) (C := RX5) (T := TX5) (N := 9) hx hb hts hinX5 hown hK hP 0 rfl rfl 0 (by decide) (hts (.fieldLink RX5 10 "GloveHours" "court" "LGloveHours$Court;") (List.mem_of_getElem? (i := 3) rfl)) (fun _ h9 => h9) rfl dX5_match_43 ?_
        refine lv_iload_n hx hb dX5_match_46 rfl (lv_at hl 1 rfl) ?_
        refine lv_iload_n hx hb dX5_match_47 rfl (lv_at hl 2 rfl) ?_
        have hr := mrV (p := p) (e := e) (R := rm_X5_match) (below := below) (meth := meth) (H := H) (locs := locs) (ls := ls) (As := [.ref aK0, .int xs, .int xv]) (rest := []) (c_X3_begin l δ cI cJ cZ aM0 aM1 aM2 aK0 aK1 aK2 aK3 aK4 aK5 mm k xs xv) hx hb hml hts hown hK hNW hP hD [7, 8, 9, 1, 2, 3, 4, 5, 6] rfl rfl 3 0 rfl rfl (cwV 3 hts gX5_match_X3_begin rfl rfl rfl (by decide +kernel) ⟨(Nat.le_of_ble_eq_true rfl), (Nat.le_of_ble_eq_true rfl)⟩) rfl hl.1 rfl (Nat.le_of_ble_eq_true rfl) dX5_match_48
        refine mc_v (wr := (wG  aG0 aK0 aE0 aF0 aP0 aD0 aM0 aC0 gg)) hr hP hD hS hA [7, 8, 9, 1, 2, 3, 4, 5, 6] [0] [0, 4, 5, 6, 7, 8, 9, 1, 2, 3] rfl rfl rfl rfl rfl (wn := fun u_48 => ((wG  aG0 aK0 aE0 aF0 aP0 aD0 aM0 aC0 gg) ++ (wK cI aK0 aK1 aK2 aK3 aK4 aK5 k) ++ (wM cI aM0 aM1 aM2 u_48))) (fun _ => rfl) (fun u_48 H locs hw_48 hP hD hS => ?_)
        have hP : va_P δ vwCl ((wG  aG0 aK0 aE0 aF0 aP0 aD0 aM0 aC0 gg) ++ (wK cI aK0 aK1 aK2 aK3 aK4 aK5 k) ++ (wM cI aM0 aM1 aM2 u_48)) H := hP
        have hD : va_D A ((wG  aG0 aK0 aE0 aF0 aP0 aD0 aM0 aC0 gg) ++ (wK cI aK0 aK1 aK2 aK3 aK4 aK5 k) ++ (wM cI aM0 aM1 aM2 u_48)) := hD
        have hR := bnd_eq hR hw_48.symm
        refine lv_iload_n hx hb dX5_match_51 rfl (lv_at hl 3 rfl) ?_
        refine lv_iconst (v := (-1 : Int32)) hx hb dX5_match_52 (by decide) ?_
        refine lv_icmp_ne (tgt := 66) hx hb dX5_match_53 (by decide) (fun c_53 => ?_) (fun c_53 => ?_)
        · have c_53 : ¬ (xh = (-1 : Int32)) := c_53
          have hR := hR.trans (if_neg c_53)
          refine lv_aload_n hx hb dX5_match_66 rfl (lv_at hl 0 rfl) ?_
          refine va_get (D := δ) (ci := 5) (v := .ref aM0) (C := RX5) (T := TX5) (N := 9) hx hb hts hinX5 hown hK hP 0 rfl rfl 7 (by decide) (hts (.fieldLink RX5 39 "GloveHours" "matching" "LGloveHours$Matching;") (List.mem_of_getElem? (i := 2) rfl)) (fun _ h9 => h9) rfl dX5_match_67 ?_
          refine lv_aload_n hx hb dX5_match_70 rfl (lv_at hl 0 rfl) ?_
          refine va_get (D := δ) (ci := 5) (v := .ref aK0) (C := RX5) (T := TX5) (N := 9) hx hb hts hinX5 hown hK hP 0 rfl rfl 0 (by decide) (hts (.fieldLink RX5 10 "GloveHours" "court" "LGloveHours$Court;") (List.mem_of_getElem? (i := 3) rfl)) (fun _ h9 => h9) rfl dX5_match_71 ?_
          refine lv_iload_n hx hb dX5_match_74 rfl (lv_at hl 1 rfl) ?_
          refine lv_iload_n hx hb dX5_match_75 rfl (lv_at hl 3 rfl) ?_
          have hr := mrV (p := p) (e := e) (R := rm_X5_match) (below := below) (meth := meth) (H := H) (locs := locs) (ls := ls) (As := [.ref aK0, .int xs, .int xh]) (rest := []) (c_X3_whoDoes l δ cI cJ cZ aM0 aM1 aM2 aK0 aK1 aK2 aK3 aK4 aK5 u_48 k xs xh) hx hb hml hts hown hK hNW hP hD [7, 8, 9, 1, 2, 3, 4, 5, 6] rfl rfl 3 0 rfl rfl (cwV 3 hts gX5_match_X3_whoDoes rfl rfl rfl (by decide +kernel) ⟨(Nat.le_of_ble_eq_true rfl), (Nat.le_of_ble_eq_true rfl)⟩) rfl hl.1 rfl (Nat.le_of_ble_eq_true rfl) dX5_match_76
          refine mc_i (wr := (wG  aG0 aK0 aE0 aF0 aP0 aD0 aM0 aC0 gg)) hr hP hD hS hA [7, 8, 9, 1, 2, 3, 4, 5, 6] [0] [0, 4, 5, 6, 7, 8, 9, 1, 2, 3] rfl rfl rfl rfl rfl (wn := fun u_76 => ((wG  aG0 aK0 aE0 aF0 aP0 aD0 aM0 aC0 gg) ++ (wK cI aK0 aK1 aK2 aK3 aK4 aK5 k) ++ (wM cI aM0 aM1 aM2 u_76))) (fun _ => rfl) (fun r_76 u_76 H locs hw_76 hP hD hS => ?_)
          have hP : va_P δ vwCl ((wG  aG0 aK0 aE0 aF0 aP0 aD0 aM0 aC0 gg) ++ (wK cI aK0 aK1 aK2 aK3 aK4 aK5 k) ++ (wM cI aM0 aM1 aM2 u_76)) H := hP
          have hD : va_D A ((wG  aG0 aK0 aE0 aF0 aP0 aD0 aM0 aC0 gg) ++ (wK cI aK0 aK1 aK2 aK3 aK4 aK5 k) ++ (wM cI aM0 aM1 aM2 u_76)) := hD
          have hR := bnd_eq hR hw_76.symm
          exact hret _ _ r_76 u_76 _ _ hR hP hD hS dX5_match_79
        · have c_53 : (xh = (-1 : Int32)) := c_53
          have hR := hR.trans (if_pos c_53)
          refine lv_aload_n hx hb dX5_match_56 rfl (lv_at hl 0 rfl) ?_
          refine va_get (D := δ) (ci := 5) (v := .ref aM0) (C := RX5) (T := TX5) (N := 9) hx hb hts hinX5 hown hK hP 0 rfl rfl 7 (by decide) (hts (.fieldLink RX5 39 "GloveHours" "matching" "LGloveHours$Matching;") (List.mem_of_getElem? (i := 2) rfl)) (fun _ h9 => h9) rfl dX5_match_57 ?_
          have hr := mrV (p := p) (e := e) (R := rm_X5_match) (below := below) (meth := meth) (H := H) (locs := locs) (ls := ls) (As := []) (rest := []) (c_X3_most l δ cI cJ cZ aM0 aM1 aM2 u_48) hx hb hml hts hown hK hNW hP hD [7, 8, 9] rfl rfl 3 0 rfl rfl (cwV 0 hts gX5_match_X3_most rfl rfl rfl (by decide +kernel) ⟨(Nat.le_of_ble_eq_true rfl), (Nat.le_of_ble_eq_true rfl)⟩) rfl hl.1 rfl (Nat.le_of_ble_eq_true rfl) dX5_match_60
          refine mc_i (wr := ((wG  aG0 aK0 aE0 aF0 aP0 aD0 aM0 aC0 gg) ++ (wK cI aK0 aK1 aK2 aK3 aK4 aK5 k))) hr hP hD hS hA [7, 8, 9] [0, 1, 2, 3, 4, 5, 6] [0, 1, 2, 3, 4, 5, 6, 7, 8, 9] rfl rfl rfl rfl rfl (wn := fun _ => ((wG  aG0 aK0 aE0 aF0 aP0 aD0 aM0 aC0 gg) ++ (wK cI aK0 aK1 aK2 aK3 aK4 aK5 k) ++ (wM cI aM0 aM1 aM2 u_48))) (fun _ => rfl) (fun r_60 _ H locs hw_60 hP hD hS => ?_)
          have hP : va_P δ vwCl ((wG  aG0 aK0 aE0 aF0 aP0 aD0 aM0 aC0 gg) ++ (wK cI aK0 aK1 aK2 aK3 aK4 aK5 k) ++ (wM cI aM0 aM1 aM2 u_48)) H := hP
          have hD : va_D A ((wG  aG0 aK0 aE0 aF0 aP0 aD0 aM0 aC0 gg) ++ (wK cI aK0 aK1 aK2 aK3 aK4 aK5 k) ++ (wM cI aM0 aM1 aM2 u_48)) := hD
          have hR := bnd_eq hR hw_60.symm
          refine lv_goto (tgt := 79) hx hb dX5_match_63 (by decide) ?_
          exact hret _ _ r_60 u_48 _ _ hR hP hD hS dX5_match_79
      · have c_25 : ¬ (xh = (-1 : Int32)) := c_25
        have hR := hR.trans (if_neg c_25)
        refine lv_iload_n hx hb dX5_match_28 rfl (lv_at hl 1 rfl) ?_
        refine lv_iload_n hx hb dX5_match_29 rfl (lv_at hl 3 rfl) ?_
        have hr := mrS (p := p) (e := e) (R := rm_X5_match) (below := below) (meth := meth) (H := H) (locs := locs) (ls := ls) (As := [.int xs, .int xh]) (rest := []) (c_X5_hasHour l δ cI cJ cZ xs xh) hx hb hml hts hown hK hNW hP hD [] rfl rfl (va_cwS 2 hts gX5_match_X5_hasHour rfl rfl rfl (by decide +kernel) ⟨(Nat.le_of_ble_eq_true rfl), (Nat.le_of_ble_eq_true rfl)⟩) rfl hl.1 rfl (Nat.le_of_ble_eq_true rfl) dX5_match_30
        refine mc_i (wr := ((wG  aG0 aK0 aE0 aF0 aP0 aD0 aM0 aC0 gg) ++ (wK cI aK0 aK1 aK2 aK3 aK4 aK5 k) ++ (wM cI aM0 aM1 aM2 mm))) hr hP hD hS hA [] [0, 1, 2, 3, 4, 5, 6, 7, 8, 9] [0, 1, 2, 3, 4, 5, 6, 7, 8, 9] rfl rfl rfl rfl rfl (wn := fun _ => ((wG  aG0 aK0 aE0 aF0 aP0 aD0 aM0 aC0 gg) ++ (wK cI aK0 aK1 aK2 aK3 aK4 aK5 k) ++ (wM cI aM0 aM1 aM2 mm))) (fun _ => rfl) (fun r_30 _ H locs hw_30 hP hD hS => ?_)
        obtain ⟨hw_30, z_30⟩ := hw_30
        have hP : va_P δ vwCl ((wG  aG0 aK0 aE0 aF0 aP0 aD0 aM0 aC0 gg) ++ (wK cI aK0 aK1 aK2 aK3 aK4 aK5 k) ++ (wM cI aM0 aM1 aM2 mm)) H := hP
        have hD : va_D A ((wG  aG0 aK0 aE0 aF0 aP0 aD0 aM0 aC0 gg) ++ (wK cI aK0 aK1 aK2 aK3 aK4 aK5 k) ++ (wM cI aM0 aM1 aM2 mm)) := hD
        have hR := bnd_eq hR hw_30.symm
        refine lv_if_ne (tgt := 38) hx hb dX5_match_33 (by decide) (fun c_33 => ?_) (fun c_33 => ?_)
        · have c_33 : ¬ (r_30 = 0) := c_33
          have hR := hR.trans (if_neg c_33)
          refine lv_aload_n hx hb dX5_match_38 rfl (lv_at hl 0 rfl) ?_
          refine va_get (D := δ) (ci := 5) (v := .ref aM0) (C := RX5) (T := TX5) (N := 9) hx hb hts hinX5 hown hK hP 0 rfl rfl 7 (by decide) (hts (.fieldLink RX5 39 "GloveHours" "matching" "LGloveHours$Matching;") (List.mem_of_getElem? (i := 2) rfl)) (fun _ h9 => h9) rfl dX5_match_39 ?_
          refine lv_aload_n hx hb dX5_match_42 rfl (lv_at hl 0 rfl) ?_
          refine va_get (D := δ) (ci := 5) (v := .ref aK0) (C := RX5) (T := TX5) (N := 9) hx hb hts hinX5 hown hK hP 0 rfl rfl 0 (by decide) (hts (.fieldLink RX5 10 "GloveHours" "court" "LGloveHours$Court;") (List.mem_of_getElem? (i := 3) rfl)) (fun _ h9 => h9) rfl dX5_match_43 ?_
          refine lv_iload_n hx hb dX5_match_46 rfl (lv_at hl 1 rfl) ?_
          refine lv_iload_n hx hb dX5_match_47 rfl (lv_at hl 2 rfl) ?_
          have hr := mrV (p := p) (e := e) (R := rm_X5_match) (below := below) (meth := meth) (H := H) (locs := locs) (ls := ls) (As := [.ref aK0, .int xs, .int xv]) (rest := []) (c_X3_begin l δ cI cJ cZ aM0 aM1 aM2 aK0 aK1 aK2 aK3 aK4 aK5 mm k xs xv) hx hb hml hts hown hK hNW hP hD [7, 8, 9, 1, 2, 3, 4, 5, 6] rfl rfl 3 0 rfl rfl (cwV 3 hts gX5_match_X3_begin rfl rfl rfl (by decide +kernel) ⟨(Nat.le_of_ble_eq_true rfl), (Nat.le_of_ble_eq_true rfl)⟩) rfl hl.1 rfl (Nat.le_of_ble_eq_true rfl) dX5_match_48
          refine mc_v (wr := (wG  aG0 aK0 aE0 aF0 aP0 aD0 aM0 aC0 gg)) hr hP hD hS hA [7, 8, 9, 1, 2, 3, 4, 5, 6] [0] [0, 4, 5, 6, 7, 8, 9, 1, 2, 3] rfl rfl rfl rfl rfl (wn := fun u_48 => ((wG  aG0 aK0 aE0 aF0 aP0 aD0 aM0 aC0 gg) ++ (wK cI aK0 aK1 aK2 aK3 aK4 aK5 k) ++ (wM cI aM0 aM1 aM2 u_48))) (fun _ => rfl) (fun u_48 H locs hw_48 hP hD hS => ?_)
          have hP : va_P δ vwCl ((wG  aG0 aK0 aE0 aF0 aP0 aD0 aM0 aC0 gg) ++ (wK cI aK0 aK1 aK2 aK3 aK4 aK5 k) ++ (wM cI aM0 aM1 aM2 u_48)) H := hP
          have hD : va_D A ((wG  aG0 aK0 aE0 aF0 aP0 aD0 aM0 aC0 gg) ++ (wK cI aK0 aK1 aK2 aK3 aK4 aK5 k) ++ (wM cI aM0 aM1 aM2 u_48)) := hD
          have hR := bnd_eq hR hw_48.symm
          refine lv_iload_n hx hb dX5_match_51 rfl (lv_at hl 3 rfl) ?_
          refine lv_iconst (v := (-1 : Int32)) hx hb dX5_match_52 (by decide) ?_
          refine lv_icmp_ne (tgt := 66) hx hb dX5_match_53 (by decide) (fun c_53 => ?_) (fun c_53 => ?_)
          · have c_53 : ¬ (xh = (-1 : Int32)) := c_53
            have hR := hR.trans (if_neg c_53)
            refine lv_aload_n hx hb dX5_match_66 rfl (lv_at hl 0 rfl) ?_
            refine va_get (D := δ) (ci := 5) (v := .ref aM0) (C := RX5) (T := TX5) (N := 9) hx hb hts hinX5 hown hK hP 0 rfl rfl 7 (by decide) (hts (.fieldLink RX5 39 "GloveHours" "matching" "LGloveHours$Matching;") (List.mem_of_getElem? (i := 2) rfl)) (fun _ h9 => h9) rfl dX5_match_67 ?_
            refine lv_aload_n hx hb dX5_match_70 rfl (lv_at hl 0 rfl) ?_
            refine va_get (D := δ) (ci := 5) (v := .ref aK0) (C := RX5) (T := TX5) (N := 9) hx hb hts hinX5 hown hK hP 0 rfl rfl 0 (by decide) (hts (.fieldLink RX5 10 "GloveHours" "court" "LGloveHours$Court;") (List.mem_of_getElem? (i := 3) rfl)) (fun _ h9 => h9) rfl dX5_match_71 ?_
            refine lv_iload_n hx hb dX5_match_74 rfl (lv_at hl 1 rfl) ?_
            refine lv_iload_n hx hb dX5_match_75 rfl (lv_at hl 3 rfl) ?_
            have hr := mrV (p := p) (e := e) (R := rm_X5_match) (below := below) (meth := meth) (H := H) (locs := locs) (ls := ls) (As := [.ref aK0, .int xs, .int xh]) (rest := []) (c_X3_whoDoes l δ cI cJ cZ aM0 aM1 aM2 aK0 aK1 aK2 aK3 aK4 aK5 u_48 k xs xh) hx hb hml hts hown hK hNW hP hD [7, 8, 9, 1, 2, 3, 4, 5, 6] rfl rfl 3 0 rfl rfl (cwV 3 hts gX5_match_X3_whoDoes rfl rfl rfl (by decide +kernel) ⟨(Nat.le_of_ble_eq_true rfl), (Nat.le_of_ble_eq_true rfl)⟩) rfl hl.1 rfl (Nat.le_of_ble_eq_true rfl) dX5_match_76
            refine mc_i (wr := (wG  aG0 aK0 aE0 aF0 aP0 aD0 aM0 aC0 gg)) hr hP hD hS hA [7, 8, 9, 1, 2, 3, 4, 5, 6] [0] [0, 4, 5, 6, 7, 8, 9, 1, 2, 3] rfl rfl rfl rfl rfl (wn := fun u_76 => ((wG  aG0 aK0 aE0 aF0 aP0 aD0 aM0 aC0 gg) ++ (wK cI aK0 aK1 aK2 aK3 aK4 aK5 k) ++ (wM cI aM0 aM1 aM2 u_76))) (fun _ => rfl) (fun r_76 u_76 H locs hw_76 hP hD hS => ?_)
            have hP : va_P δ vwCl ((wG  aG0 aK0 aE0 aF0 aP0 aD0 aM0 aC0 gg) ++ (wK cI aK0 aK1 aK2 aK3 aK4 aK5 k) ++ (wM cI aM0 aM1 aM2 u_76)) H := hP
            have hD : va_D A ((wG  aG0 aK0 aE0 aF0 aP0 aD0 aM0 aC0 gg) ++ (wK cI aK0 aK1 aK2 aK3 aK4 aK5 k) ++ (wM cI aM0 aM1 aM2 u_76)) := hD
            have hR := bnd_eq hR hw_76.symm
            exact hret _ _ r_76 u_76 _ _ hR hP hD hS dX5_match_79
          · have c_53 : (xh = (-1 : Int32)) := c_53
            have hR := hR.trans (if_pos c_53)
            refine lv_aload_n hx hb dX5_match_56 rfl (lv_at hl 0 rfl) ?_
            refine va_get (D := δ) (ci := 5) (v := .ref aM0) (C := RX5) (T := TX5) (N := 9) hx hb hts hinX5 hown hK hP 0 rfl rfl 7 (by decide) (hts (.fieldLink RX5 39 "GloveHours" "matching" "LGloveHours$Matching;") (List.mem_of_getElem? (i := 2) rfl)) (fun _ h9 => h9) rfl dX5_match_57 ?_
            have hr := mrV (p := p) (e := e) (R := rm_X5_match) (below := below) (meth := meth) (H := H) (locs := locs) (ls := ls) (As := []) (rest := []) (c_X3_most l δ cI cJ cZ aM0 aM1 aM2 u_48) hx hb hml hts hown hK hNW hP hD [7, 8, 9] rfl rfl 3 0 rfl rfl (cwV 0 hts gX5_match_X3_most rfl rfl rfl (by decide +kernel) ⟨(Nat.le_of_ble_eq_true rfl), (Nat.le_of_ble_eq_true rfl)⟩) rfl hl.1 rfl (Nat.le_of_ble_eq_true rfl) dX5_match_60
            refine mc_i (wr := ((wG  aG0 aK0 aE0 aF0 aP0 aD0 aM0 aC0 gg) ++ (wK cI aK0 aK1 aK2 aK3 aK4 aK5 k))) hr hP hD hS hA [7, 8, 9] [0, 1, 2, 3, 4, 5, 6] [0, 1, 2, 3, 4, 5, 6, 7, 8, 9] rfl rfl rfl rfl rfl (wn := fun _ => ((wG  aG0 aK0 aE0 aF0 aP0 aD0 aM0 aC0 gg) ++ (wK cI aK0 aK1 aK2 aK3 aK4 aK5 k) ++ (wM cI aM0 aM1 aM2 u_48))) (fun _ => rfl) (fun r_60 _ H locs hw_60 hP hD hS => ?_)
            have hP : va_P δ vwCl ((wG  aG0 aK0 aE0 aF0 aP0 aD0 aM0 aC0 gg) ++ (wK cI aK0 aK1 aK2 aK3 aK4 aK5 k) ++ (wM cI aM0 aM1 aM2 u_48)) H := hP
            have hD : va_D A ((wG  aG0 aK0 aE0 aF0 aP0 aD0 aM0 aC0 gg) ++ (wK cI aK0 aK1 aK2 aK3 aK4 aK5 k) ++ (wM cI aM0 aM1 aM2 u_48)) := hD
            have hR := bnd_eq hR hw_60.symm
            refine lv_goto (tgt := 79) hx hb dX5_match_63 (by decide) ?_
            exact hret _ _ r_60 u_48 _ _ hR hP hD hS dX5_match_79
        · have c_33 : (r_30 = 0) := c_33
          have hR := hR.trans (if_pos c_33)
          refine lv_iconst (v := (-1 : Int32)) hx hb dX5_match_36 (by decide) ?_
          exact hret _ _ (-1 : Int32) mm _ _ hR hP hD hS dX5_match_37
    · have c_17 : (r_14 = 0) := c_17
      have hR := hR.trans (if_pos c_17)
      refine lv_bipush (v := (-2 : Int32)) hx hb dX5_match_20 (by decide) ?_
      exact hret _ _ (-2 : Int32) mm _ _ hR hP hD hS dX5_match_22

abbrev rm_X5_all : Room := { frames := 3, cells := 0, slots := 0, locals := 65 }
set_option maxHeartbeats 4000000 in
set_option maxRecDepth 100000 in
theorem c_X5_all (l : Launch) (δ : va_G) (cI cJ cZ : ClassId) (aG0 aK0 aK1 aK2 aK3 aK4 aK5 aE0 aF0 aP0 aD0 aM0 aC0 : Nat) (gg : GS) (k : KS) (xs : Int32) (xw : Int32) : mMi l δ (mTy cI cJ cZ) yX5_all wsX5_all rm_X5_all [.ref aG0, .int xs, .int xw] ((wG  aG0 aK0 aE0 aF0 aP0 aD0 aM0 aC0 gg) ++ (wK cI aK0 aK1 aK2 aK3 aK4 aK5 k)) (S := Unit) (fun r _ => F_X5_all k xs xw = r) (fun _ => ((wG  aG0 aK0 aE0 aF0 aP0 aD0 aM0 aC0 gg) ++ (wK cI aK0 aK1 aK2 aK3 aK4 aK5 k))) := by
  refine mk_i (cc := cX5_all) (maxL := 7) (by decide) rfl (Nat.le_of_ble_eq_true rfl) ?_
  intro p e s m args below meth c A Q ls H locs hx hb hml hts hown hK hNW hA hP hD hS hl hret
  have hown : s.vm.findClass RX5 = some m.cls := hown
  have hl : lv_has ls 7 [(0, .ref aG0), (1, .int xs), (2, .int xw)] := hl
  have hinX5 : ∀ w ∈ u_ws RX5 TX5 9, w ∈ wsX5_all := (fun _ h => List.mem_cons_of_mem _ (List.mem_append_left _ (List.mem_append_right _ (h))))
  have hR := F_X5_all.eq_1 k xs xw
  refine lv_iload_n hx hb dX5_all_0 rfl (lv_at hl 1 rfl) ?_
  refine lv_iconst (v := (0 : Int32)) hx hb dX5_all_1 (by decide) ?_
  refine lv_ldc (v := (16777215 : Int32)) hx hb hown (hts (.constant RX5 54 (16777215)) (List.mem_of_getElem? (i := 1) rfl)) dX5_all_2 ?_
  have hr := mrS (p := p) (e := e) (R := rm_X5_all) (below := below) (meth := meth) (H := H) (locs := locs) (ls := ls) (As := [.int xs, .int (0 : Int32), .int (16777215 : Int32)]) (rest := []) (c_X5_isWithin l δ cI cJ cZ xs (0 : Int32) (16777215 : Int32)) hx hb hml hts hown hK hNW hP hD [] rfl rfl (va_cwS 3 hts gX5_all_X5_isWithin rfl rfl rfl (by decide +kernel) ⟨(Nat.le_of_ble_eq_true rfl), (Nat.le_of_ble_eq_true rfl)⟩) rfl hl.1 rfl (Nat.le_of_ble_eq_true rfl) dX5_all_4
  refine mc_i (wr := ((wG  aG0 aK0 aE0 aF0 aP0 aD0 aM0 aC0 gg) ++ (wK cI aK0 aK1 aK2 aK3 aK4 aK5 k))) hr hP hD hS hA [] [0, 1, 2, 3, 4, 5, 6] [0, 1, 2, 3, 4, 5, 6] rfl rfl rfl rfl rfl (wn := fun _ => ((wG  aG0 aK0 aE0 aF0 aP0 aD0 aM0 aC0 gg) ++ (wK cI aK0 aK1 aK2 aK3 aK4 aK5 k))) (fun _ => rfl) (fun r_4 _ H locs hw_4 hP hD hS => ?_)
  obtain ⟨hw_4, z_4⟩ := hw_4
  have hP : va_P δ vwCl ((wG  aG0 aK0 aE0 aF0 aP0 aD0 aM0 aC0 gg) ++ (wK cI aK0 aK1 aK2 aK3 aK4 aK5 k)) H := hP
  have hD : va_D A ((wG  aG0 aK0 aE0 aF0 aP0 aD0 aM0 aC0 gg) ++ (wK cI aK0 aK1 aK2 aK3 aK4 aK5 k)) := hD
  have hR := bnd_eq hR hw_4.symm
  refine lv_if_eq (tgt := 19) hx hb dX5_all_7 (by decide) (fun c_7 => ?_) (fun c_7 => ?_)
  · have c_7 : (r_4 = 0) := c_7
    have hR := hR.trans (if_pos c_7)
    refine lv_bipush (v := (-2 : Int32)) hx hb dX5_all_19 (by decide) ?_
    exact hret _ _ (-2 : Int32) () _ _ hR hP hD hS dX5_all_21
  · have c_7 : ¬ (r_4 = 0) := c_7
    have hR := hR.trans (if_neg c_7)
    refine lv_iload_n hx hb dX5_all_10 rfl (lv_at hl 2 rfl) ?_
    refine lv_iconst (v := (0 : Int32)) hx hb dX5_all_11 (by decide) ?_
    refine lv_iconst (v := (1 : Int32)) hx hb dX5_all_12 (by decide) ?_
    have hr := mrS (p := p) (e := e) (R := rm_X5_all) (below := below) (meth := meth) (H := H) (locs := locs) (ls := ls) (As := [.int xw, .int (0 : Int32), .int (1 : Int32)]) (rest := []) (c_X5_isWithin l δ cI cJ cZ xw (0 : Int32) (1 : Int32)) hx hb hml hts hown hK hNW hP hD [] rfl rfl (va_cwS 3 hts gX5_all_X5_isWithin rfl rfl rfl (by decide +kernel) ⟨(Nat.le_of_ble_eq_true rfl), (Nat.le_of_ble_eq_true rfl)⟩) rfl hl.1 rfl (Nat.le_of_ble_eq_true rfl) dX5_all_13
    refine mc_i (wr := ((wG  aG0 aK0 aE0 aF0 aP0 aD0 aM0 aC0 gg) ++ (wK cI aK0 aK1 aK2 aK3 aK4 aK5 k))) hr hP hD hS hA [] [0, 1, 2, 3, 4, 5, 6] [0, 1, 2, 3, 4, 5, 6] rfl rfl rfl rfl rfl (wn := fun _ => ((wG  aG0 aK0 aE0 aF0 aP0 aD0 aM0 aC0 gg) ++ (wK cI aK0 aK1 aK2 aK3 aK4 aK5 k))) (fun _ => rfl) (fun r_13 _ H locs hw_13 hP hD hS => ?_)
    obtain ⟨hw_13, z_13⟩ := hw_13
    have hP : va_P δ vwCl ((wG  aG0 aK0 aE0 aF0 aP0 aD0 aM0 aC0 gg) ++ (wK cI aK0 aK1 aK2 aK3 aK4 aK5 k)) H := hP
    have hD : va_D A ((wG  aG0 aK0 aE0 aF0 aP0 aD0 aM0 aC0 gg) ++ (wK cI aK0 aK1 aK2 aK3 aK4 aK5 k)) := hD
    have hR := bnd_eq hR hw_13.symm
    refine lv_if_ne (tgt := 22) hx hb dX5_all_16 (by decide) (fun c_16 => ?_) (fun c_16 => ?_)
    · have c_16 : ¬ (r_13 = 0) := c_16
      have hR := hR.trans (if_neg c_16)
      refine lv_bipush (v := (-6 : Int32)) hx hb dX5_all_22 (by decide) ?_
      refine lv_istore_n (lv' := [(3, .int (-6 : Int32)), (0, .ref aG0), (1, .int xs), (2, .int xw)]) hx hb dX5_all_24 rfl hl (by decide) rfl (fun ls hl => ?_)
      refine lv_bipush (v := (7 : Int32)) hx hb dX5_all_25 (by decide) ?_
      refine lv_istore (lv' := [(4, .int (7 : Int32)), (3, .int (-6 : Int32)), (0, .ref aG0), (1, .int xs), (2, .int xw)]) hx hb dX5_all_27 hl (by decide) rfl (fun ls hl => ?_)
      refine lv_iconst (v := (0 : Int32)) hx hb dX5_all_29 (by decide) ?_
      refine lv_istore (lv' := [(5, .int (0 : Int32)), (4, .int (7 : Int32)), (3, .int (-6 : Int32)), (0, .ref aG0), (1, .int xs), (2, .int xw)]) hx hb dX5_all_30 hl (by decide) rfl (fun ls hl => ?_)
      have hloop_32 : ∀ (n_32 : Nat) (i_32 : Nat) (v4_32 : Int32) (v3_32 : Int32) (H : Heap) (locs : List Loc) (ls : Array Slot), (hi_32 : i_32 ≤ 64) → (hn_32 : 64 < i_32 + n_32) → (hP : va_P δ vwCl ((wG  aG0 aK0 aE0 aF0 aP0 aD0 aM0 aC0 gg) ++ (wK cI aK0 aK1 aK2 aK3 aK4 aK5 k)) H) → (hD : va_D A ((wG  aG0 aK0 aE0 aF0 aP0 aD0 aM0 aC0 gg) ++ (wK cI aK0 aK1 aK2 aK3 aK4 aK5 k))) → (hS : va_S A s.heap H locs) → (hl : lv_has ls 7 [(5, .int (nI i_32)), (4, .int v4_32), (3, .int v3_32), (0, .ref aG0), (1, .int xs), (2, .int xw)]) → (kk : ∀ (w_32 : Int32 × Int32) (H : Heap) (locs : List Loc) (ls : Array Slot), L_X5_all_32 k xs n_32 i_32 v4_32 v3_32 = w_32 → va_P δ vwCl ((wG  aG0 aK0 aE0 aF0 aP0 aD0 aM0 aC0 gg) ++ (wK cI aK0 aK1 aK2 aK3 aK4 aK5 k)) H → va_D A ((wG  aG0 aK0 aE0 aF0 aP0 aD0 aM0 aC0 gg) ++ (wK cI aK0 aK1 aK2 aK3 aK4 aK5 k)) → va_S A s.heap H locs → lv_has ls 7 [(4, .int w_32.1), (3, .int w_32.2), (0, .ref aG0), (1, .int xs), (2, .int xw)] → W p l e rm_X5_all s m args below meth c H locs 0 0 Q (F0 m 82 ls [])) → W p l e rm_X5_all s m args below meth c H locs 0 0 Q (F0 m 32 ls []) := by
        intro n_32
        induction n_32 with
        | zero => intro i_32 v4_32 v3_32 H locs ls hi_32 hn_32 hP hD hS hl kk; exact absurd hn_32 (by omega)
        | succ n_32 ih_32 =>
          intro i_32 v4_32 v3_32 H locs ls hi_32 hn_32 hP hD hS hl kk
          have hR := L_X5_all_32_s k xs n_32 i_32 v4_32 v3_32
          refine lv_iload hx hb dX5_all_32 (lv_at hl 0 rfl) ?_
          refine lv_bipush (v := (64 : Int32)) hx hb dX5_all_34 (by decide) ?_
          refine lv_icmp_ge (tgt := 82) hx hb dX5_all_36 (by decide) (fun c_36 => ?_) (fun c_36 => ?_)
          · have c_36 : ((64 : Int32) ≤ (nI i_32)) := c_36
            have hR := hR.trans (if_pos c_36)
            exact kk (v4_32, v3_32) H locs ls hR hP hD hS (lv_sub hl [1, 2, 3, 4, 5] rfl)
          · have c_36 : ¬ ((64 : Int32) ≤ (nI i_32)) := c_36
            have hR := hR.trans (if_neg c_36)
            have hlt_32 : i_32 < 64 := lt_g c_36 hi_32 (by decide)
            refine lv_iload hx hb dX5_all_39 (lv_at hl 0 rfl) ?_
            have hr := mrS (p := p) (e := e) (R := rm_X5_all) (below := below) (meth := meth) (H := H) (locs := locs) (ls := ls) (As := [.int (nI i_32)]) (rest := []) (c_J6_bitCount_0f7a4 l δ cI cJ cZ (nI i_32)) hx hb hml hts hown hK hNW hP hD [] rfl rfl (va_cwS 1 hts gX5_all_J6_bitCount_0f7a4 rfl rfl rfl (by decide +kernel) ⟨(Nat.le_of_ble_eq_true rfl), (Nat.le_of_ble_eq_true rfl)⟩) rfl hl.1 rfl (Nat.le_of_ble_eq_true rfl) dX5_all_41
            refine mc_i (wr := ((wG  aG0 aK0 aE0 aF0 aP0 aD0 aM0 aC0 gg) ++ (wK cI aK0 aK1 aK2 aK3 aK4 aK5 k))) hr hP hD hS hA [] [0, 1, 2, 3, 4, 5, 6] [0, 1, 2, 3, 4, 5, 6] rfl rfl rfl rfl rfl (wn := fun _ => ((wG  aG0 aK0 aE0 aF0 aP0 aD0 aM0 aC0 gg) ++ (wK cI aK0 aK1 aK2 aK3 aK4 aK5 k))) (fun _ => rfl) (fun r_41 _ H locs hw_41 hP hD hS => ?_)
            have hP : va_P δ vwCl ((wG  aG0 aK0 aE0 aF0 aP0 aD0 aM0 aC0 gg) ++ (wK cI aK0 aK1 aK2 aK3 aK4 aK5 k)) H := hP
            have hD : va_D A ((wG  aG0 aK0 aE0 aF0 aP0 aD0 aM0 aC0 gg) ++ (wK cI aK0 aK1 aK2 aK3 aK4 aK5 k)) := hD
            have hR := bnd_eq hR hw_41.symm
            refine lv_istore (lv' := [(6, .int r_41), (5, .int (nI i_32)), (4, .int v4_32), (3, .int v3_32), (0, .ref aG0), (1, .int xs), (2, .int xw)]) hx hb dX5_all_44 hl (by decide) rfl (fun ls hl => ?_)
            refine lv_iload hx hb dX5_all_46 (lv_at hl 0 rfl) ?_
            refine lv_iload hx hb dX5_all_48 (lv_at hl 2 rfl) ?_
            refine lv_icmp_ge (tgt := 76) hx hb dX5_all_50 (by decide) (fun c_50 => ?_) (fun c_50 => ?_)
            · have c_50 : (v4_32 ≤ r_41) := c_50
              have hR := hR.trans (if_pos c_50)
              refine lv_iinc (v := (nI (i_32 + 1))) (lv' := [(5, .int (nI (i_32 + 1))), (6, .int r_41), (4, .int v4_32), (3, .int v3_32), (0, .ref aG0), (1, .int xs), (2, .int xw)]) hx hb dX5_all_76 hl (k := 1) rfl (nI_1 i_32) (by decide) rfl (fun ls hl => ?_)
              refine lv_goto (tgt := 32) hx hb dX5_all_79 (by decide) ?_
              exact ih_32 (i_32 + 1) v4_32 v3_32 _ _ _ (by omega) (by omega) hP hD hS (lv_sub hl [0, 2, 3, 4, 5, 6] rfl) (fun w_32 H locs ls he hP hD hS hl => kk w_32 H locs ls (hR.trans he) hP hD hS hl)
            · have c_50 : ¬ (v4_32 ≤ r_41) := c_50
              have hR := hR.trans (if_neg c_50)
              refine lv_iload_n hx hb dX5_all_53 rfl (lv_at hl 5 rfl) ?_
              refine lv_aload_n hx hb dX5_all_54 rfl (lv_at hl 4 rfl) ?_
              refine va_get (D := δ) (ci := 5) (v := .ref aK0) (C := RX5) (T := TX5) (N := 9) hx hb hts hinX5 hown hK hP 0 rfl rfl 0 (by decide) (hts (.fieldLink RX5 10 "GloveHours" "court" "LGloveHours$Court;") (List.mem_of_getElem? (i := 2) rfl)) (fun _ h9 => h9) rfl dX5_all_55 ?_
              refine lv_iload hx hb dX5_all_58 (lv_at hl 1 rfl) ?_
              have hr := mrV (p := p) (e := e) (R := rm_X5_all) (below := below) (meth := meth) (H := H) (locs := locs) (ls := ls) (As := [.int (nI i_32)]) (rest := [.int xs]) (c_X1_pairsOfSet l δ cI cJ cZ aK0 aK1 aK2 aK3 aK4 aK5 k (nI i_32)) hx hb hml hts hown hK hNW hP hD [1, 2, 3, 4, 5, 6] rfl rfl 1 0 rfl rfl (cwV 1 hts gX5_all_X1_pairsOfSet rfl rfl rfl (by decide +kernel) ⟨(Nat.le_of_ble_eq_true rfl), (Nat.le_of_ble_eq_true rfl)⟩) rfl hl.1 rfl (Nat.le_of_ble_eq_true rfl) dX5_all_60
              refine mc_i (wr := (wG  aG0 aK0 aE0 aF0 aP0 aD0 aM0 aC0 gg)) hr hP hD hS hA [1, 2, 3, 4, 5, 6] [0] [0, 1, 2, 3, 4, 5, 6] rfl rfl rfl rfl rfl (wn := fun _ => ((wG  aG0 aK0 aE0 aF0 aP0 aD0 aM0 aC0 gg) ++ (wK cI aK0 aK1 aK2 aK3 aK4 aK5 k))) (fun _ => rfl) (fun r_60 _ H locs hw_60 hP hD hS => ?_)
              have hP : va_P δ vwCl ((wG  aG0 aK0 aE0 aF0 aP0 aD0 aM0 aC0 gg) ++ (wK cI aK0 aK1 aK2 aK3 aK4 aK5 k)) H := hP
              have hD : va_D A ((wG  aG0 aK0 aE0 aF0 aP0 aD0 aM0 aC0 gg) ++ (wK cI aK0 aK1 aK2 aK3 aK4 aK5 k)) := hD
              have hR := bnd_eq hR hw_60.symm
              refine lv_iconst (v := (-1 : Int32)) hx hb dX5_all_63 (by decide) ?_
              refine lv_ixor hx hb dX5_all_64 ?_
              refine lv_iand hx hb dX5_all_65 ?_
              refine lv_if_ne (tgt := 76) hx hb dX5_all_66 (by decide) (fun c_66 => ?_) (fun c_66 => ?_)
              · have c_66 : ¬ ((xs &&& (r_60 ^^^ (-1 : Int32))) = 0) := c_66
                have hR := hR.trans (if_neg c_66)
                refine lv_iinc (v := (nI (i_32 + 1))) (lv' := [(5, .int (nI (i_32 + 1))), (6, .int r_41), (4, .int v4_32), (3, .int v3_32), (0, .ref aG0), (1, .int xs), (2, .int xw)]) hx hb dX5_all_76 hl (k := 1) rfl (nI_1 i_32) (by decide) rfl (fun ls hl => ?_)
                refine lv_goto (tgt := 32) hx hb dX5_all_79 (by decide) ?_
                exact ih_32 (i_32 + 1) v4_32 v3_32 _ _ _ (by omega) (by omega) hP hD hS (lv_sub hl [0, 2, 3, 4, 5, 6] rfl) (fun w_32 H locs ls he hP hD hS hl => kk w_32 H locs ls (hR.trans he) hP hD hS hl)
              · have c_66 : ((xs &&& (r_60 ^^^ (-1 : Int32))) = 0) := c_66
                have hR := hR.trans (if_pos c_66)
                refine lv_iload hx hb dX5_all_69 (lv_at hl 1 rfl) ?_
                refine lv_istore_n (lv' := [(3, .int (nI i_32)), (6, .int r_41), (5, .int (nI i_32)), (4, .int v4_32), (0, .ref aG0), (1, .int xs), (2, .int xw)]) hx hb dX5_all_71 rfl hl (by decide) rfl (fun ls hl => ?_)
                refine lv_iload hx hb dX5_all_72 (lv_at hl 1 rfl) ?_
                refine lv_istore (lv' := [(4, .int r_41), (3, .int (nI i_32)), (6, .int r_41), (5, .int (nI i_32)), (0, .ref aG0), (1, .int xs), (2, .int xw)]) hx hb dX5_all_74 hl (by decide) rfl (fun ls hl => ?_)
                refine lv_iinc (v := (nI (i_32 + 1))) (lv' := [(5, .int (nI (i_32 + 1))), (4, .int r_41), (3, .int (nI i_32)), (6, .int r_41), (0, .ref aG0), (1, .int xs), (2, .int xw)]) hx hb dX5_all_76 hl (k := 3) rfl (nI_1 i_32) (by decide) rfl (fun ls hl => ?_)
                refine lv_goto (tgt := 32) hx hb dX5_all_79 (by decide) ?_
                exact ih_32 (i_32 + 1) r_41 (nI i_32) _ _ _ (by omega) (by omega) hP hD hS (lv_sub hl [0, 1, 2, 4, 5, 6] rfl) (fun w_32 H locs ls he hP hD hS hl => kk w_32 H locs ls (hR.trans he) hP hD hS hl)
      refine hloop_32 (64 + 1) 0 (7 : Int32) (-6 : Int32) _ _ _ (by omega) (by omega) hP hD hS (lv_sub hl [0, 1, 2, 3, 4, 5] rfl) (fun w_32 H locs ls hw_32 hP hD hS hl => ?_)
      have hP : va_P δ vwCl ((wG  aG0 aK0 aE0 aF0 aP0 aD0 aM0 aC0 gg) ++ (wK cI aK0 aK1 aK2 aK3 aK4 aK5 k)) H := hP
      have hD : va_D A ((wG  aG0 aK0 aE0 aF0 aP0 aD0 aM0 aC0 gg) ++ (wK cI aK0 aK1 aK2 aK3 aK4 aK5 k)) := hD
      have hR := bnd_eq hR hw_32.symm
      refine lv_iload_n hx hb dX5_all_82 rfl (lv_at hl 1 rfl) ?_
      refine lv_bipush (v := (-6 : Int32)) hx hb dX5_all_83 (by decide) ?_
      refine lv_icmp_eq (tgt := 93) hx hb dX5_all_85 (by decide) (fun c_85 => ?_) (fun c_85 => ?_)
      · have c_85 : (w_32.2 = (-6 : Int32)) := c_85
        have hR := hR.trans (if_pos c_85)
        refine lv_iload_n hx hb dX5_all_93 rfl (lv_at hl 1 rfl) ?_
        refine lv_goto (tgt := 99) hx hb dX5_all_94 (by decide) ?_
        exact hret _ _ w_32.2 () _ _ hR hP hD hS dX5_all_99
      · have c_85 : ¬ (w_32.2 = (-6 : Int32)) := c_85
        have hR := hR.trans (if_neg c_85)
        refine lv_iload_n hx hb dX5_all_88 rfl (lv_at hl 4 rfl) ?_
        refine lv_iconst (v := (1 : Int32)) hx hb dX5_all_89 (by decide) ?_
        refine lv_icmp_ne (tgt := 97) hx hb dX5_all_90 (by decide) (fun c_90 => ?_) (fun c_90 => ?_)
        · have c_90 : ¬ (xw = (1 : Int32)) := c_90
          have hR := hR.trans (if_neg c_90)
          refine lv_iload hx hb dX5_all_97 (lv_at hl 0 rfl) ?_
          exact hret _ _ w_32.1 () _ _ hR hP hD hS dX5_all_99
        · have c_90 : (xw = (1 : Int32)) := c_90
          have hR := hR.trans (if_pos c_90)
          refine lv_iload_n hx hb dX5_all_93 rfl (lv_at hl 1 rfl) ?_
          refine lv_goto (tgt := 99) hx hb dX5_all_94 (by decide) ?_
          exact hret _ _ w_32.2 () _ _ hR hP hD hS dX5_all_99
    · have c_16 : (r_13 = 0) := c_16
      have hR := hR.trans (if_pos c_16)
      refine lv_bipush (v := (-2 : Int32)) hx hb dX5_all_19 (by decide) ?_
      exact hret _ _ (-2 : Int32) () _ _ hR hP hD hS dX5_all_21

abbrev rm_X5_mended : Room := { frames := 6, cells := 0, slots := 0, locals := 139 }
set_option maxHeartbeats 4000000 in
set_option maxRecDepth 100000 in
theorem c_X5_mended (l : Launch) (δ : va_G) (cI cJ cZ : ClassId) (aG0 aK0 aK1 aK2 aK3 aK4 aK5 aP0 aP1 aD0 aD1 aD2 aD3 aD4 aT0 aT1 aT2 aT3 aT4 aT5 aE0 aF0 aM0 aC0 : Nat) (gg : GS) (k : KS) (pp : PS) (dy : DS) (kT : KS) (xw : Int32) : mMi l δ (mTy cI cJ cZ) yX5_mended wsX5_mended rm_X5_mended [.ref aG0, .int xw] ((wG  aG0 aK0 aE0 aF0 aP0 aD0 aM0 aC0 gg) ++ (wK cI aK0 aK1 aK2 aK3 aK4 aK5 k) ++ (wP cI aP0 aP1 pp) ++ (wD cI aD0 aD1 aD2 aD3 aD4 aT0 dy) ++ (wK cI aT0 aT1 aT2 aT3 aT4 aT5 kT)) (S := DS × KS) (fun r u => F_X5_mended k pp dy kT xw = (r, u)) (fun u => ((wG  aG0 aK0 aE0 aF0 aP0 aD0 aM0 aC0 gg) ++ (wK cI aK0 aK1 aK2 aK3 aK4 aK5 k) ++ (wP cI aP0 aP1 pp) ++ (wD cI aD0 aD1 aD2 aD3 aD4 aT0 u.1) ++ (wK cI aT0 aT1 aT2 aT3 aT4 aT5 u.2))) := by
  refine mk_i (cc := cX5_mended) (maxL := 4) (by decide) rfl (Nat.le_of_ble_eq_true rfl) ?_
  intro p e s m args below meth c A Q ls H locs hx hb hml hts hown hK hNW hA hP hD hS hl hret
  have hown : s.vm.findClass RX5 = some m.cls := hown
  have hl : lv_has ls 4 [(0, .ref aG0), (1, .int xw)] := hl
  have hinX2 : ∀ w ∈ u_ws RX2 TX2 9, w ∈ wsX5_mended := (fun _ h => List.mem_cons_of_mem _ (List.mem_append_left _ (List.mem_append_left _ (List.mem_append_right _ (h)))))
  have hinX5 : ∀ w ∈ u_ws RX5 TX5 9, w ∈ wsX5_mended := (fun _ h => List.mem_cons_of_mem _ (List.mem_append_left _ (List.mem_append_left _ (List.mem_append_left _ (List.mem_append_right _ (h))))))
  have hR := F_X5_mended.eq_1 k pp dy kT xw
  refine lv_iload_n hx hb dX5_mended_0 rfl (lv_at hl 1 rfl) ?_
  refine lv_iconst (v := (0 : Int32)) hx hb dX5_mended_1 (by decide) ?_
  refine lv_iconst (v := (1 : Int32)) hx hb dX5_mended_2 (by decide) ?_
  have hr := mrS (p := p) (e := e) (R := rm_X5_mended) (below := below) (meth := meth) (H := H) (locs := locs) (ls := ls) (As := [.int xw, .int (0 : Int32), .int (1 : Int32)]) (rest := []) (c_X5_isWithin l δ cI cJ cZ xw (0 : Int32) (1 : Int32)) hx hb hml hts hown hK hNW hP hD [] rfl rfl (va_cwS 3 hts gX5_mended_X5_isWithin rfl rfl rfl (by decide +kernel) ⟨(Nat.le_of_ble_eq_true rfl), (Nat.le_of_ble_eq_true rfl)⟩) rfl hl.1 rfl (Nat.le_of_ble_eq_true rfl) dX5_mended_3
  refine mc_i (wr := ((wG  aG0 aK0 aE0 aF0 aP0 aD0 aM0 aC0 gg) ++ (wK cI aK0 aK1 aK2 aK3 aK4 aK5 k) ++ (wP cI aP0 aP1 pp) ++ (wD cI aD0 aD1 aD2 aD3 aD4 aT0 dy) ++ (wK cI aT0 aT1 aT2 aT3 aT4 aT5 kT))) hr hP hD hS hA [] [0, 1, 2, 3, 4, 5, 6, 7, 8, 9, 10, 11, 12, 13, 14, 15, 16, 17, 18, 19] [0, 1, 2, 3, 4, 5, 6, 7, 8, 9, 10, 11, 12, 13, 14, 15, 16, 17, 18, 19] rfl rfl rfl rfl rfl (wn := fun _ => ((wG  aG0 aK0 aE0 aF0 aP0 aD0 aM0 aC0 gg) ++ (wK cI aK0 aK1 aK2 aK3 aK4 aK5 k) ++ (wP cI aP0 aP1 pp) ++ (wD cI aD0 aD1 aD2 aD3 aD4 aT0 dy) ++ (wK cI aT0 aT1 aT2 aT3 aT4 aT5 kT))) (fun _ => rfl) (fun r_3 _ H locs hw_3 hP hD hS => ?_)
  obtain ⟨hw_3, z_3⟩ := hw_3
  have hP : va_P δ vwCl ((wG  aG0 aK0 aE0 aF0 aP0 aD0 aM0 aC0 gg) ++ (wK cI aK0 aK1 aK2 aK3 aK4 aK5 k) ++ (wP cI aP0 aP1 pp) ++ (wD cI aD0 aD1 aD2 aD3 aD4 aT0 dy) ++ (wK cI aT0 aT1 aT2 aT3 aT4 aT5 kT)) H := hP
  have hD : va_D A ((wG  aG0 aK0 aE0 aF0 aP0 aD0 aM0 aC0 gg) ++ (wK cI aK0 aK1 aK2 aK3 aK4 aK5 k) ++ (wP cI aP0 aP1 pp) ++ (wD cI aD0 aD1 aD2 aD3 aD4 aT0 dy) ++ (wK cI aT0 aT1 aT2 aT3 aT4 aT5 kT)) := hD
  have hR := bnd_eq hR hw_3.symm
  refine lv_if_ne (tgt := 12) hx hb dX5_mended_6 (by decide) (fun c_6 => ?_) (fun c_6 => ?_)
  · have c_6 : ¬ (r_3 = 0) := c_6
    have hR := hR.trans (if_neg c_6)
    refine lv_aload_n hx hb dX5_mended_12 rfl (lv_at hl 0 rfl) ?_
    refine va_get (D := δ) (ci := 5) (v := .ref aD0) (C := RX5) (T := TX5) (N := 9) hx hb hts hinX5 hown hK hP 0 rfl rfl 6 (by decide) (hts (.fieldLink RX5 32 "GloveHours" "day" "LGloveHours$Day;") (List.mem_of_getElem? (i := 1) rfl)) (fun _ h9 => h9) rfl dX5_mended_13 ?_
    refine lv_aload_n hx hb dX5_mended_16 rfl (lv_at hl 0 rfl) ?_
    refine va_get (D := δ) (ci := 5) (v := .ref aK0) (C := RX5) (T := TX5) (N := 9) hx hb hts hinX5 hown hK hP 0 rfl rfl 0 (by decide) (hts (.fieldLink RX5 10 "GloveHours" "court" "LGloveHours$Court;") (List.mem_of_getElem? (i := 2) rfl)) (fun _ h9 => h9) rfl dX5_mended_17 ?_
    refine lv_aload_n hx hb dX5_mended_20 rfl (lv_at hl 0 rfl) ?_
    refine va_get (D := δ) (ci := 5) (v := .ref aP0) (C := RX5) (T := TX5) (N := 9) hx hb hts hinX5 hown hK hP 0 rfl rfl 5 (by decide) (hts (.fieldLink RX5 25 "GloveHours" "pad" "LGloveHours$Pad;") (List.mem_of_getElem? (i := 3) rfl)) (fun _ h9 => h9) rfl dX5_mended_21 ?_
    have hr := mrV (p := p) (e := e) (R := rm_X5_mended) (below := below) (meth := meth) (H := H) (locs := locs) (ls := ls) (As := [.ref aK0, .ref aP0]) (rest := []) (c_X2_playPad l δ cI cJ cZ aD0 aD1 aD2 aD3 aD4 aT0 aT1 aT2 aT3 aT4 aT5 aK0 aK1 aK2 aK3 aK4 aK5 aP0 aP1 dy kT k pp) hx hb hml hts hown hK hNW hP hD [9, 10, 11, 12, 13, 14, 15, 16, 17, 18, 19, 1, 2, 3, 4, 5, 6, 7, 8] rfl rfl 2 0 rfl rfl (cwV 2 hts gX5_mended_X2_playPad rfl rfl rfl (by decide +kernel) ⟨(Nat.le_of_ble_eq_true rfl), (Nat.le_of_ble_eq_true rfl)⟩) rfl hl.1 rfl (Nat.le_of_ble_eq_true rfl) dX5_mended_24
    refine mc_i (wr := (wG  aG0 aK0 aE0 aF0 aP0 aD0 aM0 aC0 gg)) hr hP hD hS hA [9, 10, 11, 12, 13, 14, 15, 16, 17, 18, 19, 1, 2, 3, 4, 5, 6, 7, 8] [0] [0, 12, 13, 14, 15, 16, 17, 18, 19, 1, 2, 3, 4, 5, 6, 7, 8, 9, 10, 11] rfl rfl rfl rfl rfl (wn := fun u_24 => ((wG  aG0 aK0 aE0 aF0 aP0 aD0 aM0 aC0 gg) ++ (wK cI aK0 aK1 aK2 aK3 aK4 aK5 k) ++ (wP cI aP0 aP1 pp) ++ (wD cI aD0 aD1 aD2 aD3 aD4 aT0 u_24.1) ++ (wK cI aT0 aT1 aT2 aT3 aT4 aT5 u_24.2))) (fun _ => rfl) (fun r_24 u_24 H locs hw_24 hP hD hS => ?_)
    have hP : va_P δ vwCl ((wG  aG0 aK0 aE0 aF0 aP0 aD0 aM0 aC0 gg) ++ (wK cI aK0 aK1 aK2 aK3 aK4 aK5 k) ++ (wP cI aP0 aP1 pp) ++ (wD cI aD0 aD1 aD2 aD3 aD4 aT0 u_24.1) ++ (wK cI aT0 aT1 aT2 aT3 aT4 aT5 u_24.2)) H := hP
    have hD : va_D A ((wG  aG0 aK0 aE0 aF0 aP0 aD0 aM0 aC0 gg) ++ (wK cI aK0 aK1 aK2 aK3 aK4 aK5 k) ++ (wP cI aP0 aP1 pp) ++ (wD cI aD0 aD1 aD2 aD3 aD4 aT0 u_24.1) ++ (wK cI aT0 aT1 aT2 aT3 aT4 aT5 u_24.2)) := hD
    have hR := bnd_eq hR hw_24.symm
    refine lv_istore_n (lv' := [(2, .int r_24), (0, .ref aG0), (1, .int xw)]) hx hb dX5_mended_27 rfl hl (by decide) rfl (fun ls hl => ?_)
    refine lv_iload_n hx hb dX5_mended_28 rfl (lv_at hl 0 rfl) ?_
    refine lv_if_ge (tgt := 34) hx hb dX5_mended_29 (by decide) (fun c_29 => ?_) (fun c_29 => ?_)
    · have c_29 : (0 ≤ r_24) := c_29
      have hR := hR.trans (if_pos c_29)
      refine lv_aload_n hx hb dX5_mended_34 rfl (lv_at hl 1 rfl) ?_
      refine va_get (D := δ) (ci := 5) (v := .ref aD0) (C := RX5) (T := TX5) (N := 9) hx hb hts hinX5 hown hK hP 0 rfl rfl 6 (by decide) (hts (.fieldLink RX5 32 "GloveHours" "day" "LGloveHours$Day;") (List.mem_of_getElem? (i := 1) rfl)) (fun _ h9 => h9) rfl dX5_mended_35 ?_
      have hr := mrV (p := p) (e := e) (R := rm_X5_mended) (below := below) (meth := meth) (H := H) (locs := locs) (ls := ls) (As := []) (rest := []) (c_X2_mostKept l δ cI cJ cZ aD0 aD1 aD2 aD3 aD4 aT0 u_24.1) hx hb hml hts hown hK hNW hP hD [9, 10, 11, 12, 13] rfl rfl 2 0 rfl rfl (cwV 0 hts gX5_mended_X2_mostKept rfl rfl rfl (by decide +kernel) ⟨(Nat.le_of_ble_eq_true rfl), (Nat.le_of_ble_eq_true rfl)⟩) rfl hl.1 rfl (Nat.le_of_ble_eq_true rfl) dX5_mended_38
      refine mc_i (wr := ((wG  aG0 aK0 aE0 aF0 aP0 aD0 aM0 aC0 gg) ++ (wK cI aK0 aK1 aK2 aK3 aK4 aK5 k) ++ (wP cI aP0 aP1 pp) ++ (wK cI aT0 aT1 aT2 aT3 aT4 aT5 u_24.2))) hr hP hD hS hA [9, 10, 11, 12, 13] [0, 1, 2, 3, 4, 5, 6, 7, 8, 14, 15, 16, 17, 18, 19] [0, 1, 2, 3, 4, 5, 6, 7, 8, 15, 16, 17, 18, 19, 9, 10, 11, 12, 13, 14] rfl rfl rfl rfl rfl (wn := fun u_38 => ((wG  aG0 aK0 aE0 aF0 aP0 aD0 aM0 aC0 gg) ++ (wK cI aK0 aK1 aK2 aK3 aK4 aK5 k) ++ (wP cI aP0 aP1 pp) ++ (wD cI aD0 aD1 aD2 aD3 aD4 aT0 u_38) ++ (wK cI aT0 aT1 aT2 aT3 aT4 aT5 u_24.2))) (fun _ => rfl) (fun r_38 u_38 H locs hw_38 hP hD hS => ?_)
      have hP : va_P δ vwCl ((wG  aG0 aK0 aE0 aF0 aP0 aD0 aM0 aC0 gg) ++ (wK cI aK0 aK1 aK2 aK3 aK4 aK5 k) ++ (wP cI aP0 aP1 pp) ++ (wD cI aD0 aD1 aD2 aD3 aD4 aT0 u_38) ++ (wK cI aT0 aT1 aT2 aT3 aT4 aT5 u_24.2)) H := hP
      have hD : va_D A ((wG  aG0 aK0 aE0 aF0 aP0 aD0 aM0 aC0 gg) ++ (wK cI aK0 aK1 aK2 aK3 aK4 aK5 k) ++ (wP cI aP0 aP1 pp) ++ (wD cI aD0 aD1 aD2 aD3 aD4 aT0 u_38) ++ (wK cI aT0 aT1 aT2 aT3 aT4 aT5 u_24.2)) := hD
      have hR := bnd_eq hR hw_38.symm
      refine lv_istore_n (lv' := [(3, .int r_38), (2, .int r_24), (0, .ref aG0), (1, .int xw)]) hx hb dX5_mended_41 rfl hl (by decide) rfl (fun ls hl => ?_)
      refine lv_iload_n hx hb dX5_mended_42 rfl (lv_at hl 3 rfl) ?_
      refine lv_if_ne (tgt := 58) hx hb dX5_mended_43 (by decide) (fun c_43 => ?_) (fun c_43 => ?_)
      · have c_43 : ¬ (xw = 0) := c_43
        have hR := hR.trans (if_neg c_43)
        refine lv_aload_n hx hb dX5_mended_58 rfl (lv_at hl 2 rfl) ?_
        refine va_get (D := δ) (ci := 5) (v := .ref aD0) (C := RX5) (T := TX5) (N := 9) hx hb hts hinX5 hown hK hP 0 rfl rfl 6 (by decide) (hts (.fieldLink RX5 32 "GloveHours" "day" "LGloveHours$Day;") (List.mem_of_getElem? (i := 1) rfl)) (fun _ h9 => h9) rfl dX5_mended_59 ?_
        refine lv_iload_n hx hb dX5_mended_62 rfl (lv_at hl 0 rfl) ?_
        have hr := mrV (p := p) (e := e) (R := rm_X5_mended) (below := below) (meth := meth) (H := H) (locs := locs) (ls := ls) (As := [.int r_38]) (rest := []) (c_X2_firstLeftOut l δ cI cJ cZ aD0 aD1 aD2 aD3 aD4 aT0 u_38 r_38) hx hb hml hts hown hK hNW hP hD [9, 10, 11, 12, 13] rfl rfl 2 0 rfl rfl (cwV 1 hts gX5_mended_X2_firstLeftOut rfl rfl rfl (by decide +kernel) ⟨(Nat.le_of_ble_eq_true rfl), (Nat.le_of_ble_eq_true rfl)⟩) rfl hl.1 rfl (Nat.le_of_ble_eq_true rfl) dX5_mended_63
        refine mc_i (wr := ((wG  aG0 aK0 aE0 aF0 aP0 aD0 aM0 aC0 gg) ++ (wK cI aK0 aK1 aK2 aK3 aK4 aK5 k) ++ (wP cI aP0 aP1 pp) ++ (wK cI aT0 aT1 aT2 aT3 aT4 aT5 u_24.2))) hr hP hD hS hA [9, 10, 11, 12, 13] [0, 1, 2, 3, 4, 5, 6, 7, 8, 14, 15, 16, 17, 18, 19] [0, 1, 2, 3, 4, 5, 6, 7, 8, 15, 16, 17, 18, 19, 9, 10, 11, 12, 13, 14] rfl rfl rfl rfl rfl (wn := fun _ => ((wG  aG0 aK0 aE0 aF0 aP0 aD0 aM0 aC0 gg) ++ (wK cI aK0 aK1 aK2 aK3 aK4 aK5 k) ++ (wP cI aP0 aP1 pp) ++ (wD cI aD0 aD1 aD2 aD3 aD4 aT0 u_38) ++ (wK cI aT0 aT1 aT2 aT3 aT4 aT5 u_24.2))) (fun _ => rfl) (fun r_63 _ H locs hw_63 hP hD hS => ?_)
        have hP : va_P δ vwCl ((wG  aG0 aK0 aE0 aF0 aP0 aD0 aM0 aC0 gg) ++ (wK cI aK0 aK1 aK2 aK3 aK4 aK5 k) ++ (wP cI aP0 aP1 pp) ++ (wD cI aD0 aD1 aD2 aD3 aD4 aT0 u_38) ++ (wK cI aT0 aT1 aT2 aT3 aT4 aT5 u_24.2)) H := hP
        have hD : va_D A ((wG  aG0 aK0 aE0 aF0 aP0 aD0 aM0 aC0 gg) ++ (wK cI aK0 aK1 aK2 aK3 aK4 aK5 k) ++ (wP cI aP0 aP1 pp) ++ (wD cI aD0 aD1 aD2 aD3 aD4 aT0 u_38) ++ (wK cI aT0 aT1 aT2 aT3 aT4 aT5 u_24.2)) := hD
        have hR := bnd_eq hR hw_63.symm
        exact hret _ _ r_63 (u_38, u_24.2) _ _ hR hP hD hS dX5_mended_66
      · have c_43 : (xw = 0) := c_43
        have hR := hR.trans (if_pos c_43)
        refine lv_aload_n hx hb dX5_mended_46 rfl (lv_at hl 2 rfl) ?_
        refine va_get (D := δ) (ci := 5) (v := .ref aD0) (C := RX5) (T := TX5) (N := 9) hx hb hts hinX5 hown hK hP 0 rfl rfl 6 (by decide) (hts (.fieldLink RX5 32 "GloveHours" "day" "LGloveHours$Day;") (List.mem_of_getElem? (i := 1) rfl)) (fun _ h9 => h9) rfl dX5_mended_47 ?_
        refine va_get (D := δ) (ci := 2) (v := .int (dDeeds u_38)) (C := RX2) (T := TX2) (N := 9) hx hb hts hinX2 hown hK hP 9 rfl rfl 2 (by decide) (hts (.fieldLink RX5 97 "GloveHours$Day" "deeds" "I") (List.mem_of_getElem? (i := 4) rfl)) (fun _ h9 => h9) rfl dX5_mended_50 ?_
        refine lv_iload_n hx hb dX5_mended_53 rfl (lv_at hl 0 rfl) ?_
        refine lv_isub hx hb dX5_mended_54 ?_
        refine lv_goto (tgt := 66) hx hb dX5_mended_55 (by decide) ?_
        exact hret _ _ ((dDeeds u_38) - r_38) (u_38, u_24.2) _ _ hR hP hD hS dX5_mended_66
    · have c_29 : ¬ (0 ≤ r_24) := c_29
      have hR := hR.trans (if_neg c_29)
      refine lv_iload_n hx hb dX5_mended_32 rfl (lv_at hl 0 rfl) ?_
      exact hret _ _ r_24 (u_24.1, u_24.2) _ _ hR hP hD hS dX5_mended_33
  · have c_6 : (r_3 = 0) := c_6
    have hR := hR.trans (if_pos c_6)
    refine lv_bipush (v := (-2 : Int32)) hx hb dX5_mended_9 (by decide) ?_
    exact hret _ _ (-2 : Int32) (dy, kT) _ _ hR hP hD hS dX5_mended_11

abbrev rm_X5_strikes : Room := { frames := 2, cells := 0, slots := 0, locals := 45 }
set_option maxHeartbeats 4000000 in
set_option maxRecDepth 100000 in
theorem c_X5_strikes (l : Launch) (δ : va_G) (cI cJ cZ : ClassId) (aG0 aK0 aE0 aF0 aP0 aD0 aM0 aC0 : Nat) (gg : GS) (xa : Int32) (xx : Int32) (xb : Int32) (xy : Int32) : mMi l δ (mTy cI cJ cZ) yX5_strikes wsX5_strikes rm_X5_strikes [.ref aG0, .int xa, .int xx, .int xb, .int xy] (wG  aG0 aK0 aE0 aF0 aP0 aD0 aM0 aC0 gg) (S := Unit) (fun r _ => F_X5_strikes xa xx xb xy = r) (fun _ => (wG  aG0 aK0 aE0 aF0 aP0 aD0 aM0 aC0 gg)) := by
  refine mk_i (cc := cX5_strikes) (maxL := 5) (by decide) rfl (Nat.le_of_ble_eq_true rfl) ?_
  intro p e s m args below meth c A Q ls H locs hx hb hml hts hown hK hNW hA hP hD hS hl hret
  have hown : s.vm.findClass RX5 = some m.cls := hown
  have hl : lv_has ls 5 [(0, .ref aG0), (1, .int xa), (2, .int xx), (3, .int xb), (4, .int xy)] := hl
  have hR := F_X5_strikes.eq_1 xa xx xb xy
  refine lv_iload_n hx hb dX5_strikes_0 rfl (lv_at hl 1 rfl) ?_
  refine lv_iload_n hx hb dX5_strikes_1 rfl (lv_at hl 2 rfl) ?_
  refine lv_iload_n hx hb dX5_strikes_2 rfl (lv_at hl 3 rfl) ?_
  refine lv_iload hx hb dX5_strikes_3 (lv_at hl 4 rfl) ?_
  have hr := mrS (p := p) (e := e) (R := rm_X5_strikes) (below := below) (meth := meth) (H := H) (locs := locs) (ls := ls) (As := [.int xa, .int xx, .int xb, .int xy]) (rest := []) (c_X5_areCountries l δ cI cJ cZ xa xx xb xy) hx hb hml hts hown hK hNW hP hD [] rfl rfl (va_cwS 4 hts gX5_strikes_X5_areCountries rfl rfl rfl (by decide +kernel) ⟨(Nat.le_of_ble_eq_true rfl), (Nat.le_of_ble_eq_true rfl)⟩) rfl hl.1 rfl (Nat.le_of_ble_eq_true rfl) dX5_strikes_5
  refine mc_i (wr := (wG  aG0 aK0 aE0 aF0 aP0 aD0 aM0 aC0 gg)) hr hP hD hS hA [] [0] [0] rfl rfl rfl rfl rfl (wn := fun _ => (wG  aG0 aK0 aE0 aF0 aP0 aD0 aM0 aC0 gg)) (fun _ => rfl) (fun r_5 _ H locs hw_5 hP hD hS => ?_)
  obtain ⟨hw_5, z_5⟩ := hw_5
  have hP : va_P δ vwCl (wG  aG0 aK0 aE0 aF0 aP0 aD0 aM0 aC0 gg) H := hP
  have hD : va_D A (wG  aG0 aK0 aE0 aF0 aP0 aD0 aM0 aC0 gg) := hD
  have hR := bnd_eq hR hw_5.symm
  refine lv_if_eq (tgt := 22) hx hb dX5_strikes_8 (by decide) (fun c_8 => ?_) (fun c_8 => ?_)
  · have c_8 : (r_5 = 0) := c_8
    have hR := hR.trans (if_pos c_8)
    refine lv_bipush (v := (-2 : Int32)) hx hb dX5_strikes_22 (by decide) ?_
    exact hret _ _ (-2 : Int32) () _ _ hR hP hD hS dX5_strikes_24
  · have c_8 : ¬ (r_5 = 0) := c_8
    have hR := hR.trans (if_neg c_8)
    refine lv_iload_n hx hb dX5_strikes_11 rfl (lv_at hl 1 rfl) ?_
    refine lv_iload_n hx hb dX5_strikes_12 rfl (lv_at hl 2 rfl) ?_
    refine lv_iload_n hx hb dX5_strikes_13 rfl (lv_at hl 3 rfl) ?_
    refine lv_iload hx hb dX5_strikes_14 (lv_at hl 4 rfl) ?_
    have hr := mrS (p := p) (e := e) (R := rm_X5_strikes) (below := below) (meth := meth) (H := H) (locs := locs) (ls := ls) (As := [.int xa, .int xx, .int xb, .int xy]) (rest := []) (c_X5_firstStrike l δ cI cJ cZ xa xx xb xy) hx hb hml hts hown hK hNW hP hD [] rfl rfl (va_cwS 4 hts gX5_strikes_X5_firstStrike rfl rfl rfl (by decide +kernel) ⟨(Nat.le_of_ble_eq_true rfl), (Nat.le_of_ble_eq_true rfl)⟩) rfl hl.1 rfl (Nat.le_of_ble_eq_true rfl) dX5_strikes_16
    refine mc_i (wr := (wG  aG0 aK0 aE0 aF0 aP0 aD0 aM0 aC0 gg)) hr hP hD hS hA [] [0] [0] rfl rfl rfl rfl rfl (wn := fun _ => (wG  aG0 aK0 aE0 aF0 aP0 aD0 aM0 aC0 gg)) (fun _ => rfl) (fun r_16 _ H locs hw_16 hP hD hS => ?_)
    have hP : va_P δ vwCl (wG  aG0 aK0 aE0 aF0 aP0 aD0 aM0 aC0 gg) H := hP
    have hD : va_D A (wG  aG0 aK0 aE0 aF0 aP0 aD0 aM0 aC0 gg) := hD
    have hR := bnd_eq hR hw_16.symm
    refine lv_goto (tgt := 24) hx hb dX5_strikes_19 (by decide) ?_
    exact hret _ _ r_16 () _ _ hR hP hD hS dX5_strikes_24

abbrev rm_X5_often : Room := { frames := 2, cells := 0, slots := 0, locals := 45 }
set_option maxHeartbeats 4000000 in
set_option maxRecDepth 100000 in
theorem c_X5_often (l : Launch) (δ : va_G) (cI cJ cZ : ClassId) (aG0 aK0 aE0 aF0 aP0 aD0 aM0 aC0 : Nat) (gg : GS) (xa : Int32) (xx : Int32) (xb : Int32) (xy : Int32) (xm : Int32) : mMi l δ (mTy cI cJ cZ) yX5_often wsX5_often rm_X5_often [.ref aG0, .int xa, .int xx, .int xb, .int xy, .int xm] (wG  aG0 aK0 aE0 aF0 aP0 aD0 aM0 aC0 gg) (S := Unit) (fun r _ => F_X5_often xa xx xb xy xm = r) (fun _ => (wG  aG0 aK0 aE0 aF0 aP0 aD0 aM0 aC0 gg)) := by
  refine mk_i (cc := cX5_often) (maxL := 9) (by decide) rfl (Nat.le_of_ble_eq_true rfl) ?_
  intro p e s m args below meth c A Q ls H locs hx hb hml hts hown hK hNW hA hP hD hS hl hret
  have hown : s.vm.findClass RX5 = some m.cls := hown
  have hl : lv_has ls 9 [(0, .ref aG0), (1, .int xa), (2, .int xx), (3, .int xb), (4, .int xy), (5, .int xm)] := hl
  have hR := F_X5_often.eq_1 xa xx xb xy xm
  refine lv_iload_n hx hb dX5_often_0 rfl (lv_at hl 1 rfl) ?_
  refine lv_iload_n hx hb dX5_often_1 rfl (lv_at hl 2 rfl) ?_
  refine lv_iload_n hx hb dX5_often_2 rfl (lv_at hl 3 rfl) ?_
  refine lv_iload hx hb dX5_often_3 (lv_at hl 4 rfl) ?_
  have hr := mrS (p := p) (e := e) (R := rm_X5_often) (below := below) (meth := meth) (H := H) (locs := locs) (ls := ls) (As := [.int xa, .int xx, .int xb, .int xy]) (rest := []) (c_X5_areCountries l δ cI cJ cZ xa xx xb xy) hx hb hml hts hown hK hNW hP hD [] rfl rfl (va_cwS 4 hts gX5_often_X5_areCountries rfl rfl rfl (by decide +kernel) ⟨(Nat.le_of_ble_eq_true rfl), (Nat.le_of_ble_eq_true rfl)⟩) rfl hl.1 rfl (Nat.le_of_ble_eq_true rfl) dX5_often_5
  refine mc_i (wr := (wG  aG0 aK0 aE0 aF0 aP0 aD0 aM0 aC0 gg)) hr hP hD hS hA [] [0] [0] rfl rfl rfl rfl rfl (wn := fun _ => (wG  aG0 aK0 aE0 aF0 aP0 aD0 aM0 aC0 gg)) (fun _ => rfl) (fun r_5 _ H locs hw_5 hP hD hS => ?_)
  obtain ⟨hw_5, z_5⟩ := hw_5
  have hP : va_P δ vwCl (wG  aG0 aK0 aE0 aF0 aP0 aD0 aM0 aC0 gg) H := hP
  have hD : va_D A (wG  aG0 aK0 aE0 aF0 aP0 aD0 aM0 aC0 gg) := hD
  have hR := bnd_eq hR hw_5.symm
  refine lv_if_eq (tgt := 22) hx hb dX5_often_8 (by decide) (fun c_8 => ?_) (fun c_8 => ?_)
  · have c_8 : (r_5 = 0) := c_8
    have hR := hR.trans (if_pos c_8)
    refine lv_bipush (v := (-2 : Int32)) hx hb dX5_often_22 (by decide) ?_
    exact hret _ _ (-2 : Int32) () _ _ hR hP hD hS dX5_often_24
  · have c_8 : ¬ (r_5 = 0) := c_8
    have hR := hR.trans (if_neg c_8)
    refine lv_iload hx hb dX5_often_11 (lv_at hl 5 rfl) ?_
    refine lv_iconst (v := (0 : Int32)) hx hb dX5_often_13 (by decide) ?_
    refine lv_ldc (v := (999999 : Int32)) hx hb hown (hts (.constant RX5 176 (999999)) (List.mem_of_getElem? (i := 1) rfl)) dX5_often_14 ?_
    have hr := mrS (p := p) (e := e) (R := rm_X5_often) (below := below) (meth := meth) (H := H) (locs := locs) (ls := ls) (As := [.int xm, .int (0 : Int32), .int (999999 : Int32)]) (rest := []) (c_X5_isWithin l δ cI cJ cZ xm (0 : Int32) (999999 : Int32)) hx hb hml hts hown hK hNW hP hD [] rfl rfl (va_cwS 3 hts gX5_often_X5_isWithin rfl rfl rfl (by decide +kernel) ⟨(Nat.le_of_ble_eq_true rfl), (Nat.le_of_ble_eq_true rfl)⟩) rfl hl.1 rfl (Nat.le_of_ble_eq_true rfl) dX5_often_16
    refine mc_i (wr := (wG  aG0 aK0 aE0 aF0 aP0 aD0 aM0 aC0 gg)) hr hP hD hS hA [] [0] [0] rfl rfl rfl rfl rfl (wn := fun _ => (wG  aG0 aK0 aE0 aF0 aP0 aD0 aM0 aC0 gg)) (fun _ => rfl) (fun r_16 _ H locs hw_16 hP hD hS => ?_)
    obtain ⟨hw_16, z_16⟩ := hw_16
    have hP : va_P δ vwCl (wG  aG0 aK0 aE0 aF0 aP0 aD0 aM0 aC0 gg) H := hP
    have hD : va_D A (wG  aG0 aK0 aE0 aF0 aP0 aD0 aM0 aC0 gg) := hD
    have hR := bnd_eq hR hw_16.symm
    refine lv_if_ne (tgt := 25) hx hb dX5_often_19 (by decide) (fun c_19 => ?_) (fun c_19 => ?_)
    · have c_19 : ¬ (r_16 = 0) := c_19
      have hR := hR.trans (if_neg c_19)
      refine lv_iload_n hx hb dX5_often_25 rfl (lv_at hl 1 rfl) ?_
      refine lv_iload_n hx hb dX5_often_26 rfl (lv_at hl 2 rfl) ?_
      refine lv_iload_n hx hb dX5_often_27 rfl (lv_at hl 3 rfl) ?_
      refine lv_iload hx hb dX5_often_28 (lv_at hl 4 rfl) ?_
      have hr := mrS (p := p) (e := e) (R := rm_X5_often) (below := below) (meth := meth) (H := H) (locs := locs) (ls := ls) (As := [.int xa, .int xx, .int xb, .int xy]) (rest := []) (c_X5_firstStrike l δ cI cJ cZ xa xx xb xy) hx hb hml hts hown hK hNW hP hD [] rfl rfl (va_cwS 4 hts gX5_often_X5_firstStrike rfl rfl rfl (by decide +kernel) ⟨(Nat.le_of_ble_eq_true rfl), (Nat.le_of_ble_eq_true rfl)⟩) rfl hl.1 rfl (Nat.le_of_ble_eq_true rfl) dX5_often_30
      refine mc_i (wr := (wG  aG0 aK0 aE0 aF0 aP0 aD0 aM0 aC0 gg)) hr hP hD hS hA [] [0] [0] rfl rfl rfl rfl rfl (wn := fun _ => (wG  aG0 aK0 aE0 aF0 aP0 aD0 aM0 aC0 gg)) (fun _ => rfl) (fun r_30 _ H locs hw_30 hP hD hS => ?_)
      have hP : va_P δ vwCl (wG  aG0 aK0 aE0 aF0 aP0 aD0 aM0 aC0 gg) H := hP
      have hD : va_D A (wG  aG0 aK0 aE0 aF0 aP0 aD0 aM0 aC0 gg) := hD
      have hR := bnd_eq hR hw_30.symm
      refine lv_istore (lv' := [(6, .int r_30), (0, .ref aG0), (1, .int xa), (2, .int xx), (3, .int xb), (4, .int xy), (5, .int xm)]) hx hb dX5_often_33 hl (by decide) rfl (fun ls hl => ?_)
      refine lv_iload_n hx hb dX5_often_35 rfl (lv_at hl 2 rfl) ?_
      refine lv_i2l (v := (xa.toInt64)) hx hb dX5_often_36 rfl ?_
      refine lv_iload_n hx hb dX5_often_37 rfl (lv_at hl 4 rfl) ?_
      refine lv_i2l (v := (xb.toInt64)) hx hb dX5_often_38 rfl ?_
      have hr := mrS (p := p) (e := e) (R := rm_X5_often) (below := below) (meth := meth) (H := H) (locs := locs) (ls := ls) (As := [.long (xa.toInt64), .long (xb.toInt64)]) (rest := []) (c_X5_commonDivisor l δ cI cJ cZ (xa.toInt64) (xb.toInt64)) hx hb hml hts hown hK hNW hP hD [] rfl rfl (va_cwS 2 hts gX5_often_X5_commonDivisor rfl rfl rfl (by decide +kernel) ⟨(Nat.le_of_ble_eq_true rfl), (Nat.le_of_ble_eq_true rfl)⟩) rfl hl.1 rfl (Nat.le_of_ble_eq_true rfl) dX5_often_39
      refine mc_l (wr := (wG  aG0 aK0 aE0 aF0 aP0 aD0 aM0 aC0 gg)) hr hP hD hS hA [] [0] [0] rfl rfl rfl rfl rfl (wn := fun _ => (wG  aG0 aK0 aE0 aF0 aP0 aD0 aM0 aC0 gg)) (fun _ => rfl) (fun r_39 _ H locs hw_39 hP hD hS => ?_)
      have hP : va_P δ vwCl (wG  aG0 aK0 aE0 aF0 aP0 aD0 aM0 aC0 gg) H := hP
      have hD : va_D A (wG  aG0 aK0 aE0 aF0 aP0 aD0 aM0 aC0 gg) := hD
      have hR := bnd_eq hR hw_39.symm
      refine lv_l2i (v := (r_39.toInt32)) hx hb dX5_often_42 rfl ?_
      refine lv_istore (lv' := [(7, .int (r_39.toInt32)), (6, .int r_30), (0, .ref aG0), (1, .int xa), (2, .int xx), (3, .int xb), (4, .int xy), (5, .int xm)]) hx hb dX5_often_43 hl (by decide) rfl (fun ls hl => ?_)
      refine lv_iload hx hb dX5_often_45 (lv_at hl 1 rfl) ?_
      refine lv_bipush (v := (-6 : Int32)) hx hb dX5_often_47 (by decide) ?_
      refine lv_icmp_eq (tgt := 65) hx hb dX5_often_49 (by decide) (fun c_49 => ?_) (fun c_49 => ?_)
      · have c_49 : (r_30 = (-6 : Int32)) := c_49
        have hR := hR.trans (if_pos c_49)
        refine lv_iconst (v := (0 : Int32)) hx hb dX5_often_65 (by decide) ?_
        exact hret _ _ (0 : Int32) () _ _ hR hP hD hS dX5_often_66
      · have c_49 : ¬ (r_30 = (-6 : Int32)) := c_49
        have hR := hR.trans (if_neg c_49)
        refine lv_iload hx hb dX5_often_52 (lv_at hl 1 rfl) ?_
        refine lv_iload hx hb dX5_often_54 (lv_at hl 7 rfl) ?_
        refine lv_icmp_gt (tgt := 65) hx hb dX5_often_56 (by decide) (fun c_56 => ?_) (fun c_56 => ?_)
        · have c_56 : (xm < r_30) := c_56
          have hR := hR.trans (if_pos c_56)
          refine lv_iconst (v := (0 : Int32)) hx hb dX5_often_65 (by decide) ?_
          exact hret _ _ (0 : Int32) () _ _ hR hP hD hS dX5_often_66
        · have c_56 : ¬ (xm < r_30) := c_56
          have hR := hR.trans (if_neg c_56)
          refine lv_iload hx hb dX5_often_59 (lv_at hl 0 rfl) ?_
          refine lv_iconst (v := (1 : Int32)) hx hb dX5_often_61 (by decide) ?_
          refine lv_icmp_ge (tgt := 67) hx hb dX5_often_62 (by decide) (fun c_62 => ?_) (fun c_62 => ?_)
          · have c_62 : ((1 : Int32) ≤ (r_39.toInt32)) := c_62
            have hR := hR.trans (if_pos c_62)
            refine lv_iload_n hx hb dX5_often_67 rfl (lv_at hl 3 rfl) ?_
            refine lv_iload hx hb dX5_often_68 (lv_at hl 0 rfl) ?_
            refine lv_idiv hx hb dX5_often_70 (ne_1 c_62) ?_
            refine lv_iload_n hx hb dX5_often_71 rfl (lv_at hl 5 rfl) ?_
            refine lv_imul hx hb dX5_often_72 ?_
            refine lv_istore (lv' := [(8, .int ((xa / (r_39.toInt32)) * xb)), (7, .int (r_39.toInt32)), (6, .int r_30), (0, .ref aG0), (1, .int xa), (2, .int xx), (3, .int xb), (4, .int xy), (5, .int xm)]) hx hb dX5_often_73 hl (by decide) rfl (fun ls hl => ?_)
            refine lv_iload hx hb dX5_often_75 (lv_at hl 0 rfl) ?_
            refine lv_iconst (v := (1 : Int32)) hx hb dX5_often_77 (by decide) ?_
            refine lv_icmp_ge (tgt := 85) hx hb dX5_often_78 (by decide) (fun c_78 => ?_) (fun c_78 => ?_)
            · have c_78 : ((1 : Int32) ≤ ((xa / (r_39.toInt32)) * xb)) := c_78
              have hR := hR.trans (if_pos c_78)
              refine lv_iload hx hb dX5_often_85 (lv_at hl 8 rfl) ?_
              refine lv_iload hx hb dX5_often_87 (lv_at hl 2 rfl) ?_
              refine lv_isub hx hb dX5_often_89 ?_
              refine lv_iload hx hb dX5_often_90 (lv_at hl 0 rfl) ?_
              refine lv_idiv hx hb dX5_often_92 (ne_1 c_78) ?_
              refine lv_iconst (v := (1 : Int32)) hx hb dX5_often_93 (by decide) ?_
              refine lv_iadd hx hb dX5_often_94 ?_
              exact hret _ _ (((xm - r_30) / ((xa / (r_39.toInt32)) * xb)) + (1 : Int32)) () _ _ hR hP hD hS dX5_often_95
            · have c_78 : ¬ ((1 : Int32) ≤ ((xa / (r_39.toInt32)) * xb)) := c_78
              have hR := hR.trans (if_neg c_78)
              refine lv_iconst (v := (0 : Int32)) hx hb dX5_often_81 (by decide) ?_
              refine lv_goto (tgt := 95) hx hb dX5_often_82 (by decide) ?_
              exact hret _ _ (0 : Int32) () _ _ hR hP hD hS dX5_often_95
          · have c_62 : ¬ ((1 : Int32) ≤ (r_39.toInt32)) := c_62
            have hR := hR.trans (if_neg c_62)
            refine lv_iconst (v := (0 : Int32)) hx hb dX5_often_65 (by decide) ?_
            exact hret _ _ (0 : Int32) () _ _ hR hP hD hS dX5_often_66
    · have c_19 : (r_16 = 0) := c_19
      have hR := hR.trans (if_pos c_19)
      refine lv_bipush (v := (-2 : Int32)) hx hb dX5_often_22 (by decide) ?_
      exact hret _ _ (-2 : Int32) () _ _ hR hP hD hS dX5_often_24

abbrev rm_X5_seen : Room := { frames := 1, cells := 0, slots := 0, locals := 22 }
set_option maxHeartbeats 4000000 in
set_option maxRecDepth 100000 in
theorem c_X5_seen (l : Launch) (δ : va_G) (cI cJ cZ : ClassId) (aG0 aK0 aK1 aK2 aK3 aK4 aK5 aE0 aF0 aP0 aD0 aM0 aC0 : Nat) (gg : GS) (k : KS) (xh : Int32) (xo : Int32) : mMi l δ (mTy cI cJ cZ) yX5_seen wsX5_seen rm_X5_seen [.ref aG0, .int xh, .int xo] ((wG  aG0 aK0 aE0 aF0 aP0 aD0 aM0 aC0 gg) ++ (wK cI aK0 aK1 aK2 aK3 aK4 aK5 k)) (S := KS) (fun r u => F_X5_seen k xh xo = (r, u)) (fun u => ((wG  aG0 aK0 aE0 aF0 aP0 aD0 aM0 aC0 gg) ++ (wK cI aK0 aK1 aK2 aK3 aK4 aK5 u))) := by
  refine mk_i (cc := cX5_seen) (maxL := 3) (by decide) rfl (Nat.le_of_ble_eq_true rfl) ?_
  intro p e s m args below meth c A Q ls H locs hx hb hml hts hown hK hNW hA hP hD hS hl hret
  have hown : s.vm.findClass RX5 = some m.cls := hown
  have hl : lv_has ls 3 [(0, .ref aG0), (1, .int xh), (2, .int xo)] := hl
  have hinX1 : ∀ w ∈ u_ws RX1 TX1 11, w ∈ wsX5_seen := (fun _ h => List.mem_cons_of_mem _ (List.mem_append_right _ (h)))
  have hinX5 : ∀ w ∈ u_ws RX5 TX5 9, w ∈ wsX5_seen := (fun _ h => List.mem_cons_of_mem _ (List.mem_append_left _ (List.mem_append_right _ (h))))
  have hR := F_X5_seen.eq_1 k xh xo
  refine lv_iload_n hx hb dX5_seen_0 rfl (lv_at hl 1 rfl) ?_
  refine lv_iconst (v := (0 : Int32)) hx hb dX5_seen_1 (by decide) ?_
  refine lv_bipush (v := (23 : Int32)) hx hb dX5_seen_2 (by decide) ?_
  have hr := mrS (p := p) (e := e) (R := rm_X5_seen) (below := below) (meth := meth) (H := H) (locs := locs) (ls := ls) (As := [.int xh, .int (0 : Int32), .int (23 : Int32)]) (rest := []) (c_X5_isWithin l δ cI cJ cZ xh (0 : Int32) (23 : Int32)) hx hb hml hts hown hK hNW hP hD [] rfl rfl (va_cwS 3 hts gX5_seen_X5_isWithin rfl rfl rfl (by decide +kernel) ⟨(Nat.le_of_ble_eq_true rfl), (Nat.le_of_ble_eq_true rfl)⟩) rfl hl.1 rfl (Nat.le_of_ble_eq_true rfl) dX5_seen_4
  refine mc_i (wr := ((wG  aG0 aK0 aE0 aF0 aP0 aD0 aM0 aC0 gg) ++ (wK cI aK0 aK1 aK2 aK3 aK4 aK5 k))) hr hP hD hS hA [] [0, 1, 2, 3, 4, 5, 6] [0, 1, 2, 3, 4, 5, 6] rfl rfl rfl rfl rfl (wn := fun _ => ((wG  aG0 aK0 aE0 aF0 aP0 aD0 aM0 aC0 gg) ++ (wK cI aK0 aK1 aK2 aK3 aK4 aK5 k))) (fun _ => rfl) (fun r_4 _ H locs hw_4 hP hD hS => ?_)
  obtain ⟨hw_4, z_4⟩ := hw_4
  have hP : va_P δ vwCl ((wG  aG0 aK0 aE0 aF0 aP0 aD0 aM0 aC0 gg) ++ (wK cI aK0 aK1 aK2 aK3 aK4 aK5 k)) H := hP
  have hD : va_D A ((wG  aG0 aK0 aE0 aF0 aP0 aD0 aM0 aC0 gg) ++ (wK cI aK0 aK1 aK2 aK3 aK4 aK5 k)) := hD
  have hR := bnd_eq hR hw_4.symm
  refine lv_if_ne (tgt := 13) hx hb dX5_seen_7 (by decide) (fun c_7 => ?_) (fun c_7 => ?_)
  · have c_7 : ¬ (r_4 = 0) := c_7
    have hR := hR.trans (if_neg c_7)
    refine lv_aload_n hx hb dX5_seen_13 rfl (lv_at hl 0 rfl) ?_
    refine va_get (D := δ) (ci := 5) (v := .ref aK0) (C := RX5) (T := TX5) (N := 9) hx hb hts hinX5 hown hK hP 0 rfl rfl 0 (by decide) (hts (.fieldLink RX5 10 "GloveHours" "court" "LGloveHours$Court;") (List.mem_of_getElem? (i := 1) rfl)) (fun _ h9 => h9) rfl dX5_seen_14 ?_
    refine va_get (D := δ) (ci := 1) (v := .int (kSights k)) (C := RX1) (T := TX1) (N := 11) hx hb hts hinX1 hown hK hP 1 rfl rfl 3 (by decide) (hts (.fieldLink RX5 181 "GloveHours$Court" "sights" "I") (List.mem_of_getElem? (i := 2) rfl)) (fun _ h9 => h9) rfl dX5_seen_17 ?_
    refine lv_bipush (v := (8 : Int32)) hx hb dX5_seen_20 (by decide) ?_
    refine lv_icmp_lt (tgt := 28) hx hb dX5_seen_22 (by decide) (fun c_22 => ?_) (fun c_22 => ?_)
    · have c_22 : ((kSights k) < (8 : Int32)) := c_22
      have hR := hR.trans (if_pos c_22)
      refine lv_aload_n hx hb dX5_seen_28 rfl (lv_at hl 0 rfl) ?_
      refine va_get (D := δ) (ci := 5) (v := .ref aK0) (C := RX5) (T := TX5) (N := 9) hx hb hts hinX5 hown hK hP 0 rfl rfl 0 (by decide) (hts (.fieldLink RX5 10 "GloveHours" "court" "LGloveHours$Court;") (List.mem_of_getElem? (i := 1) rfl)) (fun _ h9 => h9) rfl dX5_seen_29 ?_
      refine lv_iload_n hx hb dX5_seen_32 rfl (lv_at hl 1 rfl) ?_
      refine lv_iload_n hx hb dX5_seen_33 rfl (lv_at hl 2 rfl) ?_
      have hr := mrV (p := p) (e := e) (R := rm_X5_seen) (below := below) (meth := meth) (H := H) (locs := locs) (ls := ls) (As := [.int xh, .int xo]) (rest := []) (c_X1_addSight l δ cI cJ cZ aK0 aK1 aK2 aK3 aK4 aK5 k xh xo) hx hb hml hts hown hK hNW hP hD [1, 2, 3, 4, 5, 6] rfl rfl 1 0 rfl rfl (cwV 2 hts gX5_seen_X1_addSight rfl rfl rfl (by decide +kernel) ⟨(Nat.le_of_ble_eq_true rfl), (Nat.le_of_ble_eq_true rfl)⟩) rfl hl.1 rfl (Nat.le_of_ble_eq_true rfl) dX5_seen_34
      refine mc_v (wr := (wG  aG0 aK0 aE0 aF0 aP0 aD0 aM0 aC0 gg)) hr hP hD hS hA [1, 2, 3, 4, 5, 6] [0] [0, 1, 2, 3, 4, 5, 6] rfl rfl rfl rfl rfl (wn := fun u_34 => ((wG  aG0 aK0 aE0 aF0 aP0 aD0 aM0 aC0 gg) ++ (wK cI aK0 aK1 aK2 aK3 aK4 aK5 u_34))) (fun _ => rfl) (fun u_34 H locs hw_34 hP hD hS => ?_)
      have hP : va_P δ vwCl ((wG  aG0 aK0 aE0 aF0 aP0 aD0 aM0 aC0 gg) ++ (wK cI aK0 aK1 aK2 aK3 aK4 aK5 u_34)) H := hP
      have hD : va_D A ((wG  aG0 aK0 aE0 aF0 aP0 aD0 aM0 aC0 gg) ++ (wK cI aK0 aK1 aK2 aK3 aK4 aK5 u_34)) := hD
      have hR := bnd_eq hR hw_34.symm
      refine lv_aload_n hx hb dX5_seen_37 rfl (lv_at hl 0 rfl) ?_
      refine va_get (D := δ) (ci := 5) (v := .ref aK0) (C := RX5) (T := TX5) (N := 9) hx hb hts hinX5 hown hK hP 0 rfl rfl 0 (by decide) (hts (.fieldLink RX5 10 "GloveHours" "court" "LGloveHours$Court;") (List.mem_of_getElem? (i := 1) rfl)) (fun _ h9 => h9) rfl dX5_seen_38 ?_
      refine va_get (D := δ) (ci := 1) (v := .int (kSights u_34)) (C := RX1) (T := TX1) (N := 11) hx hb hts hinX1 hown hK hP 1 rfl rfl 3 (by decide) (hts (.fieldLink RX5 181 "GloveHours$Court" "sights" "I") (List.mem_of_getElem? (i := 2) rfl)) (fun _ h9 => h9) rfl dX5_seen_41 ?_
      exact hret _ _ (kSights u_34) u_34 _ _ hR hP hD hS dX5_seen_44
    · have c_22 : ¬ ((kSights k) < (8 : Int32)) := c_22
      have hR := hR.trans (if_neg c_22)
      refine lv_bipush (v := (-4 : Int32)) hx hb dX5_seen_25 (by decide) ?_
      exact hret _ _ (-4 : Int32) k _ _ hR hP hD hS dX5_seen_27
  · have c_7 : (r_4 = 0) := c_7
    have hR := hR.trans (if_pos c_7)
    refine lv_bipush (v := (-2 : Int32)) hx hb dX5_seen_10 (by decide) ?_
    exact hret _ _ (-2 : Int32) k _ _ hR hP hD hS dX5_seen_12

abbrev rm_X5_forget : Room := { frames := 1, cells := 0, slots := 0, locals := 21 }
set_option maxHeartbeats 4000000 in
set_option maxRecDepth 100000 in
theorem c_X5_forget (l : Launch) (δ : va_G) (cI cJ cZ : ClassId) (aG0 aK0 aK1 aK2 aK3 aK4 aK5 aE0 aF0 aP0 aD0 aM0 aC0 : Nat) (gg : GS) (k : KS) : mMi l δ (mTy cI cJ cZ) yX5_forget wsX5_forget rm_X5_forget [.ref aG0] ((wG  aG0 aK0 aE0 aF0 aP0 aD0 aM0 aC0 gg) ++ (wK cI aK0 aK1 aK2 aK3 aK4 aK5 k)) (S := KS) (fun r u => F_X5_forget k = (r, u)) (fun u => ((wG  aG0 aK0 aE0 aF0 aP0 aD0 aM0 aC0 gg) ++ (wK cI aK0 aK1 aK2 aK3 aK4 aK5 u))) := by
  refine mk_i (cc := cX5_forget) (maxL := 1) (by decide) rfl (Nat.le_of_ble_eq_true rfl) ?_
  intro p e s m args below meth c A Q ls H locs hx hb hml hts hown hK hNW hA hP hD hS hl hret
  have hown : s.vm.findClass RX5 = some m.cls := hown
  have hl : lv_has ls 1 [(0, .ref aG0)] := hl
  have hinX5 : ∀ w ∈ u_ws RX5 TX5 9, w ∈ wsX5_forget := (fun _ h => List.mem_cons_of_mem _ (List.mem_append_left _ (List.mem_append_right _ (h))))
  have hR := F_X5_forget.eq_1 k
  refine lv_aload_n hx hb dX5_forget_0 rfl (lv_at hl 0 rfl) ?_
  refine va_get (D := δ) (ci := 5) (v := .ref aK0) (C := RX5) (T := TX5) (N := 9) hx hb hts hinX5 hown hK hP 0 rfl rfl 0 (by decide) (hts (.fieldLink RX5 10 "GloveHours" "court" "LGloveHours$Court;") (List.mem_of_getElem? (i := 1) rfl)) (fun _ h9 => h9) rfl dX5_forget_1 ?_
  have hr := mrV (p := p) (e := e) (R := rm_X5_forget) (below := below) (meth := meth) (H := H) (locs := locs) (ls := ls) (As := []) (rest := []) (c_X1_dropSights l δ cI cJ cZ aK0 aK1 aK2 aK3 aK4 aK5 k) hx hb hml hts hown hK hNW hP hD [1, 2, 3, 4, 5, 6] rfl rfl 1 0 rfl rfl (cwV 0 hts gX5_forget_X1_dropSights rfl rfl rfl (by decide +kernel) ⟨(Nat.le_of_ble_eq_true rfl), (Nat.le_of_ble_eq_true rfl)⟩) rfl hl.1 rfl (Nat.le_of_ble_eq_true rfl) dX5_forget_4
  refine mc_i (wr := (wG  aG0 aK0 aE0 aF0 aP0 aD0 aM0 aC0 gg)) hr hP hD hS hA [1, 2, 3, 4, 5, 6] [0] [0, 1, 2, 3, 4, 5, 6] rfl rfl rfl rfl rfl (wn := fun u_4 => ((wG  aG0 aK0 aE0 aF0 aP0 aD0 aM0 aC0 gg) ++ (wK cI aK0 aK1 aK2 aK3 aK4 aK5 u_4))) (fun _ => rfl) (fun r_4 u_4 H locs hw_4 hP hD hS => ?_)
  have hP : va_P δ vwCl ((wG  aG0 aK0 aE0 aF0 aP0 aD0 aM0 aC0 gg) ++ (wK cI aK0 aK1 aK2 aK3 aK4 aK5 u_4)) H := hP
  have hD : va_D A ((wG  aG0 aK0 aE0 aF0 aP0 aD0 aM0 aC0 gg) ++ (wK cI aK0 aK1 aK2 aK3 aK4 aK5 u_4)) := hD
  have hR := bnd_eq hR hw_4.symm
  exact hret _ _ r_4 u_4 _ _ hR hP hD hS dX5_forget_7

abbrev rm_X5_wore : Room := { frames := 3, cells := 0, slots := 0, locals := 65 }
set_option maxHeartbeats 4000000 in
set_option maxRecDepth 100000 in
theorem c_X5_wore (l : Launch) (δ : va_G) (cI cJ cZ : ClassId) (aG0 aK0 aK1 aK2 aK3 aK4 aK5 aE0 aF0 aP0 aD0 aM0 aC0 : Nat) (gg : GS) (k : KS) : mMi l δ (mTy cI cJ cZ) yX5_wore wsX5_wore rm_X5_wore [.ref aG0] ((wG  aG0 aK0 aE0 aF0 aP0 aD0 aM0 aC0 gg) ++ (wK cI aK0 aK1 aK2 aK3 aK4 aK5 k)) (S := Unit) (fun r _ => F_X5_wore k = r) (fun _ => ((wG  aG0 aK0 aE0 aF0 aP0 aD0 aM0 aC0 gg) ++ (wK cI aK0 aK1 aK2 aK3 aK4 aK5 k))) := by
  refine mk_i (cc := cX5_wore) (maxL := 1) (by decide) rfl (Nat.le_of_ble_eq_true rfl) ?_
  intro p e s m args below meth c A Q ls H locs hx hb hml hts hown hK hNW hA hP hD hS hl hret
  have hown : s.vm.findClass RX5 = some m.cls := hown
  have hl : lv_has ls 1 [(0, .ref aG0)] := hl
  have hinX5 : ∀ w ∈ u_ws RX5 TX5 9, w ∈ wsX5_wore := (fun _ h => List.mem_cons_of_mem _ (List.mem_append_left _ (List.mem_append_right _ (h))))
  have hR := F_X5_wore.eq_1 k
  refine lv_aload_n hx hb dX5_wore_0 rfl (lv_at hl 0 rfl) ?_
  refine va_get (D := δ) (ci := 5) (v := .ref aK0) (C := RX5) (T := TX5) (N := 9) hx hb hts hinX5 hown hK hP 0 rfl rfl 0 (by decide) (hts (.fieldLink RX5 10 "GloveHours" "court" "LGloveHours$Court;") (List.mem_of_getElem? (i := 1) rfl)) (fun _ h9 => h9) rfl dX5_wore_1 ?_
  have hr := mrV (p := p) (e := e) (R := rm_X5_wore) (below := below) (meth := meth) (H := H) (locs := locs) (ls := ls) (As := []) (rest := []) (c_X1_suspects l δ cI cJ cZ aK0 aK1 aK2 aK3 aK4 aK5 k) hx hb hml hts hown hK hNW hP hD [1, 2, 3, 4, 5, 6] rfl rfl 1 0 rfl rfl (cwV 0 hts gX5_wore_X1_suspects rfl rfl rfl (by decide +kernel) ⟨(Nat.le_of_ble_eq_true rfl), (Nat.le_of_ble_eq_true rfl)⟩) rfl hl.1 rfl (Nat.le_of_ble_eq_true rfl) dX5_wore_4
  refine mc_i (wr := (wG  aG0 aK0 aE0 aF0 aP0 aD0 aM0 aC0 gg)) hr hP hD hS hA [1, 2, 3, 4, 5, 6] [0] [0, 1, 2, 3, 4, 5, 6] rfl rfl rfl rfl rfl (wn := fun _ => ((wG  aG0 aK0 aE0 aF0 aP0 aD0 aM0 aC0 gg) ++ (wK cI aK0 aK1 aK2 aK3 aK4 aK5 k))) (fun _ => rfl) (fun r_4 _ H locs hw_4 hP hD hS => ?_)
  have hP : va_P δ vwCl ((wG  aG0 aK0 aE0 aF0 aP0 aD0 aM0 aC0 gg) ++ (wK cI aK0 aK1 aK2 aK3 aK4 aK5 k)) H := hP
  have hD : va_D A ((wG  aG0 aK0 aE0 aF0 aP0 aD0 aM0 aC0 gg) ++ (wK cI aK0 aK1 aK2 aK3 aK4 aK5 k)) := hD
  have hR := bnd_eq hR hw_4.symm
  exact hret _ _ r_4 () _ _ hR hP hD hS dX5_wore_7

abbrev rm_X5_ask : Room := { frames := 3, cells := 0, slots := 0, locals := 65 }
set_option maxHeartbeats 4000000 in
set_option maxRecDepth 100000 in
theorem c_X5_ask (l : Launch) (δ : va_G) (cI cJ cZ : ClassId) (aG0 aK0 aK1 aK2 aK3 aK4 aK5 aE0 aF0 aP0 aD0 aM0 aC0 : Nat) (gg : GS) (k : KS) (xw : Int32) : mMi l δ (mTy cI cJ cZ) yX5_ask wsX5_ask rm_X5_ask [.ref aG0, .int xw] ((wG  aG0 aK0 aE0 aF0 aP0 aD0 aM0 aC0 gg) ++ (wK cI aK0 aK1 aK2 aK3 aK4 aK5 k)) (S := Unit) (fun r _ => F_X5_ask k xw = r) (fun _ => ((wG  aG0 aK0 aE0 aF0 aP0 aD0 aM0 aC0 gg) ++ (wK cI aK0 aK1 aK2 aK3 aK4 aK5 k))) := by
  refine mk_i (cc := cX5_ask) (maxL := 8) (by decide) rfl (Nat.le_of_ble_eq_true rfl) ?_
  intro p e s m args below meth c A Q ls H locs hx hb hml hts hown hK hNW hA hP hD hS hl hret
  have hown : s.vm.findClass RX5 = some m.cls := hown
  have hl : lv_has ls 8 [(0, .ref aG0), (1, .int xw)] := hl
  have hinX5 : ∀ w ∈ u_ws RX5 TX5 9, w ∈ wsX5_ask := (fun _ h => List.mem_cons_of_mem _ (List.mem_append_left _ (List.mem_append_right _ (h))))
  have hR := F_X5_ask.eq_1 k xw
  refine lv_iload_n hx hb dX5_ask_0 rfl (lv_at hl 1 rfl) ?_
  refine lv_iconst (v := (0 : Int32)) hx hb dX5_ask_1 (by decide) ?_
  refine lv_iconst (v := (1 : Int32)) hx hb dX5_ask_2 (by decide) ?_
  have hr := mrS (p := p) (e := e) (R := rm_X5_ask) (below := below) (meth := meth) (H := H) (locs := locs) (ls := ls) (As := [.int xw, .int (0 : Int32), .int (1 : Int32)]) (rest := []) (c_X5_isWithin l δ cI cJ cZ xw (0 : Int32) (1 : Int32)) hx hb hml hts hown hK hNW hP hD [] rfl rfl (va_cwS 3 hts gX5_ask_X5_isWithin rfl rfl rfl (by decide +kernel) ⟨(Nat.le_of_ble_eq_true rfl), (Nat.le_of_ble_eq_true rfl)⟩) rfl hl.1 rfl (Nat.le_of_ble_eq_true rfl) dX5_ask_3
  refine mc_i (wr := ((wG  aG0 aK0 aE0 aF0 aP0 aD0 aM0 aC0 gg) ++ (wK cI aK0 aK1 aK2 aK3 aK4 aK5 k))) hr hP hD hS hA [] [0, 1, 2, 3, 4, 5, 6] [0, 1, 2, 3, 4, 5, 6] rfl rfl rfl rfl rfl (wn := fun _ => ((wG  aG0 aK0 aE0 aF0 aP0 aD0 aM0 aC0 gg) ++ (wK cI aK0 aK1 aK2 aK3 aK4 aK5 k))) (fun _ => rfl) (fun r_3 _ H locs hw_3 hP hD hS => ?_)
  obtain ⟨hw_3, z_3⟩ := hw_3
  have hP : va_P δ vwCl ((wG  aG0 aK0 aE0 aF0 aP0 aD0 aM0 aC0 gg) ++ (wK cI aK0 aK1 aK2 aK3 aK4 aK5 k)) H := hP
  have hD : va_D A ((wG  aG0 aK0 aE0 aF0 aP0 aD0 aM0 aC0 gg) ++ (wK cI aK0 aK1 aK2 aK3 aK4 aK5 k)) := hD
  have hR := bnd_eq hR hw_3.symm
  refine lv_if_ne (tgt := 12) hx hb dX5_ask_6 (by decide) (fun c_6 => ?_) (fun c_6 => ?_)
  · have c_6 : ¬ (r_3 = 0) := c_6
    have hR := hR.trans (if_neg c_6)
    refine lv_aload_n hx hb dX5_ask_12 rfl (lv_at hl 0 rfl) ?_
    refine va_get (D := δ) (ci := 5) (v := .ref aK0) (C := RX5) (T := TX5) (N := 9) hx hb hts hinX5 hown hK hP 0 rfl rfl 0 (by decide) (hts (.fieldLink RX5 10 "GloveHours" "court" "LGloveHours$Court;") (List.mem_of_getElem? (i := 1) rfl)) (fun _ h9 => h9) rfl dX5_ask_13 ?_
    have hr := mrV (p := p) (e := e) (R := rm_X5_ask) (below := below) (meth := meth) (H := H) (locs := locs) (ls := ls) (As := []) (rest := []) (c_X1_suspects l δ cI cJ cZ aK0 aK1 aK2 aK3 aK4 aK5 k) hx hb hml hts hown hK hNW hP hD [1, 2, 3, 4, 5, 6] rfl rfl 1 0 rfl rfl (cwV 0 hts gX5_ask_X1_suspects rfl rfl rfl (by decide +kernel) ⟨(Nat.le_of_ble_eq_true rfl), (Nat.le_of_ble_eq_true rfl)⟩) rfl hl.1 rfl (Nat.le_of_ble_eq_true rfl) dX5_ask_16
    refine mc_i (wr := (wG  aG0 aK0 aE0 aF0 aP0 aD0 aM0 aC0 gg)) hr hP hD hS hA [1, 2, 3, 4, 5, 6] [0] [0, 1, 2, 3, 4, 5, 6] rfl rfl rfl rfl rfl (wn := fun _ => ((wG  aG0 aK0 aE0 aF0 aP0 aD0 aM0 aC0 gg) ++ (wK cI aK0 aK1 aK2 aK3 aK4 aK5 k))) (fun _ => rfl) (fun r_16 _ H locs hw_16 hP hD hS => ?_)
    have hP : va_P δ vwCl ((wG  aG0 aK0 aE0 aF0 aP0 aD0 aM0 aC0 gg) ++ (wK cI aK0 aK1 aK2 aK3 aK4 aK5 k)) H := hP
    have hD : va_D A ((wG  aG0 aK0 aE0 aF0 aP0 aD0 aM0 aC0 gg) ++ (wK cI aK0 aK1 aK2 aK3 aK4 aK5 k)) := hD
    have hR := bnd_eq hR hw_16.symm
    refine lv_istore_n (lv' := [(2, .int r_16), (0, .ref aG0), (1, .int xw)]) hx hb dX5_ask_19 rfl hl (by decide) rfl (fun ls hl => ?_)
    refine lv_iload_n hx hb dX5_ask_20 rfl (lv_at hl 0 rfl) ?_
    refine lv_if_ne (tgt := 27) hx hb dX5_ask_21 (by decide) (fun c_21 => ?_) (fun c_21 => ?_)
    · have c_21 : ¬ (r_16 = 0) := c_21
      have hR := hR.trans (if_neg c_21)
      refine lv_iconst (v := (0 : Int32)) hx hb dX5_ask_27 (by decide) ?_
      refine lv_istore_n (lv' := [(3, .int (0 : Int32)), (2, .int r_16), (0, .ref aG0), (1, .int xw)]) hx hb dX5_ask_28 rfl hl (by decide) rfl (fun ls hl => ?_)
      refine lv_bipush (v := (7 : Int32)) hx hb dX5_ask_29 (by decide) ?_
      refine lv_istore (lv' := [(4, .int (7 : Int32)), (3, .int (0 : Int32)), (2, .int r_16), (0, .ref aG0), (1, .int xw)]) hx hb dX5_ask_31 hl (by decide) rfl (fun ls hl => ?_)
      refine lv_iconst (v := (0 : Int32)) hx hb dX5_ask_33 (by decide) ?_
      refine lv_istore (lv' := [(5, .int (0 : Int32)), (4, .int (7 : Int32)), (3, .int (0 : Int32)), (2, .int r_16), (0, .ref aG0), (1, .int xw)]) hx hb dX5_ask_34 hl (by decide) rfl (fun ls hl => ?_)
      have hloop_36 : ∀ (n_36 : Nat) (i_36 : Nat) (v4_36 : Int32) (v3_36 : Int32) (H : Heap) (locs : List Loc) (ls : Array Slot), (hi_36 : i_36 ≤ 24) → (hn_36 : 24 < i_36 + n_36) → (hP : va_P δ vwCl ((wG  aG0 aK0 aE0 aF0 aP0 aD0 aM0 aC0 gg) ++ (wK cI aK0 aK1 aK2 aK3 aK4 aK5 k)) H) → (hD : va_D A ((wG  aG0 aK0 aE0 aF0 aP0 aD0 aM0 aC0 gg) ++ (wK cI aK0 aK1 aK2 aK3 aK4 aK5 k))) → (hS : va_S A s.heap H locs) → (hl : lv_has ls 8 [(5, .int (nI i_36)), (4, .int v4_36), (3, .int v3_36), (2, .int r_16), (0, .ref aG0), (1, .int xw)]) → (kk : ∀ (w_36 : Int32 × Int32) (H : Heap) (locs : List Loc) (ls : Array Slot), L_X5_ask_36 k r_16 n_36 i_36 v4_36 v3_36 = w_36 → va_P δ vwCl ((wG  aG0 aK0 aE0 aF0 aP0 aD0 aM0 aC0 gg) ++ (wK cI aK0 aK1 aK2 aK3 aK4 aK5 k)) H → va_D A ((wG  aG0 aK0 aE0 aF0 aP0 aD0 aM0 aC0 gg) ++ (wK cI aK0 aK1 aK2 aK3 aK4 aK5 k)) → va_S A s.heap H locs → lv_has ls 8 [(4, .int w_36.1), (3, .int w_36.2), (2, .int r_16), (0, .ref aG0), (1, .int xw)] → W p l e rm_X5_ask s m args below meth c H locs 0 0 Q (F0 m 93 ls [])) → W p l e rm_X5_ask s m args below meth c H locs 0 0 Q (F0 m 36 ls []) := by
        intro n_36
        induction n_36 with
        | zero => intro i_36 v4_36 v3_36 H locs ls hi_36 hn_36 hP hD hS hl kk; exact absurd hn_36 (by omega)
        | succ n_36 ih_36 =>
          intro i_36 v4_36 v3_36 H locs ls hi_36 hn_36 hP hD hS hl kk
          have hR := L_X5_ask_36_s k r_16 n_36 i_36 v4_36 v3_36
          refine lv_iload hx hb dX5_ask_36 (lv_at hl 0 rfl) ?_
          refine lv_bipush (v := (24 : Int32)) hx hb dX5_ask_38 (by decide) ?_
          refine lv_icmp_ge (tgt := 93) hx hb dX5_ask_40 (by decide) (fun c_40 => ?_) (fun c_40 => ?_)
          · have c_40 : ((24 : Int32) ≤ (nI i_36)) := c_40
            have hR := hR.trans (if_pos c_40)
            exact kk (v4_36, v3_36) H locs ls hR hP hD hS (lv_sub hl [1, 2, 3, 4, 5] rfl)
          · have c_40 : ¬ ((24 : Int32) ≤ (nI i_36)) := c_40
            have hR := hR.trans (if_neg c_40)
            have hlt_36 : i_36 < 24 := lt_g c_40 hi_36 (by decide)
            refine lv_iload_n hx hb dX5_ask_43 rfl (lv_at hl 3 rfl) ?_
            refine lv_aload_n hx hb dX5_ask_44 rfl (lv_at hl 4 rfl) ?_
            refine va_get (D := δ) (ci := 5) (v := .ref aK0) (C := RX5) (T := TX5) (N := 9) hx hb hts hinX5 hown hK hP 0 rfl rfl 0 (by decide) (hts (.fieldLink RX5 10 "GloveHours" "court" "LGloveHours$Court;") (List.mem_of_getElem? (i := 1) rfl)) (fun _ h9 => h9) rfl dX5_ask_45 ?_
            refine lv_iload hx hb dX5_ask_48 (lv_at hl 0 rfl) ?_
            have hr := mrV (p := p) (e := e) (R := rm_X5_ask) (below := below) (meth := meth) (H := H) (locs := locs) (ls := ls) (As := [.int (nI i_36)]) (rest := [.int r_16]) (c_X1_ownersOf l δ cI cJ cZ aK0 aK1 aK2 aK3 aK4 aK5 k (nI i_36)) hx hb hml hts hown hK hNW hP hD [1, 2, 3, 4, 5, 6] rfl rfl 1 0 rfl rfl (cwV 1 hts gX5_ask_X1_ownersOf rfl rfl rfl (by decide +kernel) ⟨(Nat.le_of_ble_eq_true rfl), (Nat.le_of_ble_eq_true rfl)⟩) rfl hl.1 rfl (Nat.le_of_ble_eq_true rfl) dX5_ask_50
            refine mc_i (wr := (wG  aG0 aK0 aE0 aF0 aP0 aD0 aM0 aC0 gg)) hr hP hD hS hA [1, 2, 3, 4, 5, 6] [0] [0, 1, 2, 3, 4, 5, 6] rfl rfl rfl rfl rfl (wn := fun _ => ((wG  aG0 aK0 aE0 aF0 aP0 aD0 aM0 aC0 gg) ++ (wK cI aK0 aK1 aK2 aK3 aK4 aK5 k))) (fun _ => rfl) (fun r_50 _ H locs hw_50 hP hD hS => ?_)
            have hP : va_P δ vwCl ((wG  aG0 aK0 aE0 aF0 aP0 aD0 aM0 aC0 gg) ++ (wK cI aK0 aK1 aK2 aK3 aK4 aK5 k)) H := hP
            have hD : va_D A ((wG  aG0 aK0 aE0 aF0 aP0 aD0 aM0 aC0 gg) ++ (wK cI aK0 aK1 aK2 aK3 aK4 aK5 k)) := hD
            have hR := bnd_eq hR hw_50.symm
            refine lv_iand hx hb dX5_ask_53 ?_
            have hr := mrS (p := p) (e := e) (R := rm_X5_ask) (below := below) (meth := meth) (H := H) (locs := locs) (ls := ls) (As := [.int (r_16 &&& r_50)]) (rest := []) (c_J6_bitCount_0f7a4 l δ cI cJ cZ (r_16 &&& r_50)) hx hb hml hts hown hK hNW hP hD [] rfl rfl (va_cwS 1 hts gX5_ask_J6_bitCount_0f7a4 rfl rfl rfl (by decide +kernel) ⟨(Nat.le_of_ble_eq_true rfl), (Nat.le_of_ble_eq_true rfl)⟩) rfl hl.1 rfl (Nat.le_of_ble_eq_true rfl) dX5_ask_54
            refine mc_i (wr := ((wG  aG0 aK0 aE0 aF0 aP0 aD0 aM0 aC0 gg) ++ (wK cI aK0 aK1 aK2 aK3 aK4 aK5 k))) hr hP hD hS hA [] [0, 1, 2, 3, 4, 5, 6] [0, 1, 2, 3, 4, 5, 6] rfl rfl rfl rfl rfl (wn := fun _ => ((wG  aG0 aK0 aE0 aF0 aP0 aD0 aM0 aC0 gg) ++ (wK cI aK0 aK1 aK2 aK3 aK4 aK5 k))) (fun _ => rfl) (fun r_54 _ H locs hw_54 hP hD hS => ?_)
            have hP : va_P δ vwCl ((wG  aG0 aK0 aE0 aF0 aP0 aD0 aM0 aC0 gg) ++ (wK cI aK0 aK1 aK2 aK3 aK4 aK5 k)) H := hP
            have hD : va_D A ((wG  aG0 aK0 aE0 aF0 aP0 aD0 aM0 aC0 gg) ++ (wK cI aK0 aK1 aK2 aK3 aK4 aK5 k)) := hD
            have hR := bnd_eq hR hw_54.symm
            refine lv_istore (lv' := [(6, .int r_54), (5, .int (nI i_36)), (4, .int v4_36), (3, .int v3_36), (2, .int r_16), (0, .ref aG0), (1, .int xw)]) hx hb dX5_ask_57 hl (by decide) rfl (fun ls hl => ?_)
            refine lv_iload hx hb dX5_ask_59 (lv_at hl 0 rfl) ?_
            refine lv_iload_n hx hb dX5_ask_61 rfl (lv_at hl 4 rfl) ?_
            have hr := mrS (p := p) (e := e) (R := rm_X5_ask) (below := below) (meth := meth) (H := H) (locs := locs) (ls := ls) (As := [.int r_16]) (rest := [.int r_54]) (c_J6_bitCount_0f7a4 l δ cI cJ cZ r_16) hx hb hml hts hown hK hNW hP hD [] rfl rfl (va_cwS 1 hts gX5_ask_J6_bitCount_0f7a4 rfl rfl rfl (by decide +kernel) ⟨(Nat.le_of_ble_eq_true rfl), (Nat.le_of_ble_eq_true rfl)⟩) rfl hl.1 rfl (Nat.le_of_ble_eq_true rfl) dX5_ask_62
            refine mc_i (wr := ((wG  aG0 aK0 aE0 aF0 aP0 aD0 aM0 aC0 gg) ++ (wK cI aK0 aK1 aK2 aK3 aK4 aK5 k))) hr hP hD hS hA [] [0, 1, 2, 3, 4, 5, 6] [0, 1, 2, 3, 4, 5, 6] rfl rfl rfl rfl rfl (wn := fun _ => ((wG  aG0 aK0 aE0 aF0 aP0 aD0 aM0 aC0 gg) ++ (wK cI aK0 aK1 aK2 aK3 aK4 aK5 k))) (fun _ => rfl) (fun r_62 _ H locs hw_62 hP hD hS => ?_)
            have hP : va_P δ vwCl ((wG  aG0 aK0 aE0 aF0 aP0 aD0 aM0 aC0 gg) ++ (wK cI aK0 aK1 aK2 aK3 aK4 aK5 k)) H := hP
            have hD : va_D A ((wG  aG0 aK0 aE0 aF0 aP0 aD0 aM0 aC0 gg) ++ (wK cI aK0 aK1 aK2 aK3 aK4 aK5 k)) := hD
            have hR := bnd_eq hR hw_62.symm
            refine lv_iload hx hb dX5_ask_65 (lv_at hl 0 rfl) ?_
            refine lv_isub hx hb dX5_ask_67 ?_
            refine va_mmax hx hb (hml.trans hl.1.symm) hown (hts (.methodLink RX5 194 Lib.Math.max.name) (List.mem_of_getElem? (i := 2) rfl)) (hts (.static Lib.Math.max.name) (List.mem_of_getElem? (i := 3) rfl)) (hts (.initialized "java/lang/Math") (List.mem_of_getElem? (i := 4) rfl)) (hts (.code Lib.Math.max.name Lib.Math.max.code 2 (some .int)) (List.mem_of_getElem? (i := 5) rfl)) (Nat.le_of_ble_eq_true rfl) (Nat.le_of_ble_eq_true rfl) (Nat.zero_le _) (Nat.zero_le _) dX5_ask_68 ?_
            refine lv_istore (lv' := [(7, .int (if r_54 < (r_62 - r_54) then (r_62 - r_54) else r_54)), (6, .int r_54), (5, .int (nI i_36)), (4, .int v4_36), (3, .int v3_36), (2, .int r_16), (0, .ref aG0), (1, .int xw)]) hx hb dX5_ask_71 hl (by decide) rfl (fun ls hl => ?_)
            refine lv_iload hx hb dX5_ask_73 (lv_at hl 0 rfl) ?_
            refine lv_iload hx hb dX5_ask_75 (lv_at hl 3 rfl) ?_
            refine lv_icmp_ge (tgt := 87) hx hb dX5_ask_77 (by decide) (fun c_77 => ?_) (fun c_77 => ?_)
            · have c_77 : (v4_36 ≤ (if r_54 < (r_62 - r_54) then (r_62 - r_54) else r_54)) := c_77
              have hR := hR.trans (if_pos c_77)
              refine lv_iinc (v := (nI (i_36 + 1))) (lv' := [(5, .int (nI (i_36 + 1))), (7, .int (if r_54 < (r_62 - r_54) then (r_62 - r_54) else r_54)), (6, .int r_54), (4, .int v4_36), (3, .int v3_36), (2, .int r_16), (0, .ref aG0), (1, .int xw)]) hx hb dX5_ask_87 hl (k := 2) rfl (nI_1 i_36) (by decide) rfl (fun ls hl => ?_)
              refine lv_goto (tgt := 36) hx hb dX5_ask_90 (by decide) ?_
              exact ih_36 (i_36 + 1) v4_36 v3_36 _ _ _ (by omega) (by omega) hP hD hS (lv_sub hl [0, 3, 4, 5, 6, 7] rfl) (fun w_36 H locs ls he hP hD hS hl => kk w_36 H locs ls (hR.trans he) hP hD hS hl)
            · have c_77 : ¬ (v4_36 ≤ (if r_54 < (r_62 - r_54) then (r_62 - r_54) else r_54)) := c_77
              have hR := hR.trans (if_neg c_77)
              refine lv_iload hx hb dX5_ask_80 (lv_at hl 2 rfl) ?_
              refine lv_istore_n (lv' := [(3, .int (nI i_36)), (7, .int (if r_54 < (r_62 - r_54) then (r_62 - r_54) else r_54)), (6, .int r_54), (5, .int (nI i_36)), (4, .int v4_36), (2, .int r_16), (0, .ref aG0), (1, .int xw)]) hx hb dX5_ask_82 rfl hl (by decide) rfl (fun ls hl => ?_)
              refine lv_iload hx hb dX5_ask_83 (lv_at hl 1 rfl) ?_
              refine lv_istore (lv' := [(4, .int (if r_54 < (r_62 - r_54) then (r_62 - r_54) else r_54)), (3, .int (nI i_36)), (7, .int (if r_54 < (r_62 - r_54) then (r_62 - r_54) else r_54)), (6, .int r_54), (5, .int (nI i_36)), (2, .int r_16), (0, .ref aG0), (1, .int xw)]) hx hb dX5_ask_85 hl (by decide) rfl (fun ls hl => ?_)
              refine lv_iinc (v := (nI (i_36 + 1))) (lv' := [(5, .int (nI (i_36 + 1))), (4, .int (if r_54 < (r_62 - r_54) then (r_62 - r_54) else r_54)), (3, .int (nI i_36)), (7, .int (if r_54 < (r_62 - r_54) then (r_62 - r_54) else r_54)), (6, .int r_54), (2, .int r_16), (0, .ref aG0), (1, .int xw)]) hx hb dX5_ask_87 hl (k := 4) rfl (nI_1 i_36) (by decide) rfl (fun ls hl => ?_)
              refine lv_goto (tgt := 36) hx hb dX5_ask_90 (by decide) ?_
              exact ih_36 (i_36 + 1) (if r_54 < (r_62 - r_54) then (r_62 - r_54) else r_54) (nI i_36) _ _ _ (by omega) (by omega) hP hD hS (lv_sub hl [0, 1, 2, 5, 6, 7] rfl) (fun w_36 H locs ls he hP hD hS hl => kk w_36 H locs ls (hR.trans he) hP hD hS hl)
      refine hloop_36 (24 + 1) 0 (7 : Int32) (0 : Int32) _ _ _ (by omega) (by omega) hP hD hS (lv_sub hl [0, 1, 2, 3, 4, 5] rfl) (fun w_36 H locs ls hw_36 hP hD hS hl => ?_)
      have hP : va_P δ vwCl ((wG  aG0 aK0 aE0 aF0 aP0 aD0 aM0 aC0 gg) ++ (wK cI aK0 aK1 aK2 aK3 aK4 aK5 k)) H := hP
      have hD : va_D A ((wG  aG0 aK0 aE0 aF0 aP0 aD0 aM0 aC0 gg) ++ (wK cI aK0 aK1 aK2 aK3 aK4 aK5 k)) := hD
      have hR := bnd_eq hR hw_36.symm
      refine lv_iload_n hx hb dX5_ask_93 rfl (lv_at hl 4 rfl) ?_
      refine lv_if_ne (tgt := 101) hx hb dX5_ask_94 (by decide) (fun c_94 => ?_) (fun c_94 => ?_)
      · have c_94 : ¬ (xw = 0) := c_94
        have hR := hR.trans (if_neg c_94)
        refine lv_iload hx hb dX5_ask_101 (lv_at hl 0 rfl) ?_
        exact hret _ _ w_36.1 () _ _ hR hP hD hS dX5_ask_103
      · have c_94 : (xw = 0) := c_94
        have hR := hR.trans (if_pos c_94)
        refine lv_iload_n hx hb dX5_ask_97 rfl (lv_at hl 1 rfl) ?_
        refine lv_goto (tgt := 103) hx hb dX5_ask_98 (by decide) ?_
        exact hret _ _ w_36.2 () _ _ hR hP hD hS dX5_ask_103
    · have c_21 : (r_16 = 0) := c_21
      have hR := hR.trans (if_pos c_21)
      refine lv_bipush (v := (-6 : Int32)) hx hb dX5_ask_24 (by decide) ?_
      exact hret _ _ (-6 : Int32) () _ _ hR hP hD hS dX5_ask_26
  · have c_6 : (r_3 = 0) := c_6
    have hR := hR.trans (if_pos c_6)
    refine lv_bipush (v := (-2 : Int32)) hx hb dX5_ask_9 (by decide) ?_
    exact hret _ _ (-2 : Int32) () _ _ hR hP hD hS dX5_ask_11

abbrev rm_X5_tear : Room := { frames := 2, cells := 0, slots := 0, locals := 47 }
set_option maxHeartbeats 4000000 in
set_option maxRecDepth 100000 in
theorem c_X5_tear (l : Launch) (δ : va_G) (cI cJ cZ : ClassId) (aG0 aC0 aC1 aK0 aE0 aF0 aP0 aD0 aM0 : Nat) (gg : GS) (ch : CS) (xn : Int32) (xm : Int32) (xt : Int32) (xw : Int32) (xp : Int32) : mMl l δ (mTy cI cJ cZ) yX5_tear wsX5_tear rm_X5_tear [.ref aG0, .int xn, .int xm, .int xt, .int xw, .int xp] ((wG  aG0 aK0 aE0 aF0 aP0 aD0 aM0 aC0 gg) ++ (wC cJ aC0 aC1 ch)) (S := CS) (fun r u => F_X5_tear ch xn xm xt xw xp = (r, u)) (fun u => ((wG  aG0 aK0 aE0 aF0 aP0 aD0 aM0 aC0 gg) ++ (wC cJ aC0 aC1 u))) := by
  refine mk_l (cc := cX5_tear) (maxL := 11) (by decide) rfl (Nat.le_of_ble_eq_true rfl) ?_
  intro p e s m args below meth c A Q ls H locs hx hb hml hts hown hK hNW hA hP hD hS hl hret
  have hown : s.vm.findClass RX5 = some m.cls := hown
  have hl : lv_has ls 11 [(0, .ref aG0), (1, .int xn), (2, .int xm), (3, .int xt), (4, .int xw), (5, .int xp)] := hl
  have hinX0 : ∀ w ∈ u_ws RX0 TX0 3, w ∈ wsX5_tear := (fun _ h => List.mem_cons_of_mem _ (List.mem_append_right _ (h)))
  have hinX5 : ∀ w ∈ u_ws RX5 TX5 9, w ∈ wsX5_tear := (fun _ h => List.mem_cons_of_mem _ (List.mem_append_left _ (List.mem_append_right _ (h))))
  have hR := F_X5_tear.eq_1 ch xn xm xt xw xp
  refine lv_iload_n hx hb dX5_tear_0 rfl (lv_at hl 1 rfl) ?_
  refine lv_iconst (v := (0 : Int32)) hx hb dX5_tear_1 (by decide) ?_
  refine lv_bipush (v := (9 : Int32)) hx hb dX5_tear_2 (by decide) ?_
  have hr := mrS (p := p) (e := e) (R := rm_X5_tear) (below := below) (meth := meth) (H := H) (locs := locs) (ls := ls) (As := [.int xn, .int (0 : Int32), .int (9 : Int32)]) (rest := []) (c_X5_isWithin l δ cI cJ cZ xn (0 : Int32) (9 : Int32)) hx hb hml hts hown hK hNW hP hD [] rfl rfl (va_cwS 3 hts gX5_tear_X5_isWithin rfl rfl rfl (by decide +kernel) ⟨(Nat.le_of_ble_eq_true rfl), (Nat.le_of_ble_eq_true rfl)⟩) rfl hl.1 rfl (Nat.le_of_ble_eq_true rfl) dX5_tear_4
  refine mc_i (wr := ((wG  aG0 aK0 aE0 aF0 aP0 aD0 aM0 aC0 gg) ++ (wC cJ aC0 aC1 ch))) hr hP hD hS hA [] [0, 1, 2] [0, 1, 2] rfl rfl rfl rfl rfl (wn := fun _ => ((wG  aG0 aK0 aE0 aF0 aP0 aD0 aM0 aC0 gg) ++ (wC cJ aC0 aC1 ch))) (fun _ => rfl) (fun r_4 _ H locs hw_4 hP hD hS => ?_)
  obtain ⟨hw_4, z_4⟩ := hw_4
  have hP : va_P δ vwCl ((wG  aG0 aK0 aE0 aF0 aP0 aD0 aM0 aC0 gg) ++ (wC cJ aC0 aC1 ch)) H := hP
  have hD : va_D A ((wG  aG0 aK0 aE0 aF0 aP0 aD0 aM0 aC0 gg) ++ (wC cJ aC0 aC1 ch)) := hD
  have hR := bnd_eq hR hw_4.symm
  refine lv_if_eq (tgt := 54) hx hb dX5_tear_7 (by decide) (fun c_7 => ?_) (fun c_7 => ?_)
  · have c_7 : (r_4 = 0) := c_7
    have hR := hR.trans (if_pos c_7)
    refine lv_iconst (v := (0 : Int32)) hx hb dX5_tear_54 (by decide) ?_
    refine lv_istore (lv' := [(6, .int (0 : Int32)), (0, .ref aG0), (1, .int xn), (2, .int xm), (3, .int xt), (4, .int xw), (5, .int xp)]) hx hb dX5_tear_55 hl (by decide) rfl (fun ls hl => ?_)
    refine lv_iload hx hb dX5_tear_57 (lv_at hl 0 rfl) ?_
    refine lv_if_ne (tgt := 66) hx hb dX5_tear_59 (by decide) (fun c_59 => ?_) (fun c_59 => ?_)
    · have c_59 : ¬ ((0 : Int32) = 0) := c_59
      have hR := hR.trans (if_neg c_59)
      refine lv_aload_n hx hb dX5_tear_66 rfl (lv_at hl 1 rfl) ?_
      refine va_get (D := δ) (ci := 5) (v := .ref aC0) (C := RX5) (T := TX5) (N := 9) hx hb hts hinX5 hown hK hP 0 rfl rfl 8 (by decide) (hts (.fieldLink RX5 46 "GloveHours" "chances" "LGloveHours$Chances;") (List.mem_of_getElem? (i := 2) rfl)) (fun _ h9 => h9) rfl dX5_tear_67 ?_
      refine lv_iload_n hx hb dX5_tear_70 rfl (lv_at hl 2 rfl) ?_
      refine lv_iload_n hx hb dX5_tear_71 rfl (lv_at hl 3 rfl) ?_
      refine lv_iload_n hx hb dX5_tear_72 rfl (lv_at hl 4 rfl) ?_
      have hr := mrV (p := p) (e := e) (R := rm_X5_tear) (below := below) (meth := meth) (H := H) (locs := locs) (ls := ls) (As := [.int xn, .int xm, .int xt]) (rest := []) (c_X0_run l δ cI cJ cZ aC0 aC1 ch xn xm xt) hx hb hml hts hown hK hNW hP hD [1, 2] rfl rfl 0 0 rfl rfl (cwV 3 hts gX5_tear_X0_run rfl rfl rfl (by decide +kernel) ⟨(Nat.le_of_ble_eq_true rfl), (Nat.le_of_ble_eq_true rfl)⟩) rfl hl.1 rfl (Nat.le_of_ble_eq_true rfl) dX5_tear_73
      refine mc_v (wr := (wG  aG0 aK0 aE0 aF0 aP0 aD0 aM0 aC0 gg)) hr hP hD hS hA [1, 2] [0] [0, 1, 2] rfl rfl rfl rfl rfl (wn := fun u_73 => ((wG  aG0 aK0 aE0 aF0 aP0 aD0 aM0 aC0 gg) ++ (wC cJ aC0 aC1 u_73))) (fun _ => rfl) (fun u_73 H locs hw_73 hP hD hS => ?_)
      have hP : va_P δ vwCl ((wG  aG0 aK0 aE0 aF0 aP0 aD0 aM0 aC0 gg) ++ (wC cJ aC0 aC1 u_73)) H := hP
      have hD : va_D A ((wG  aG0 aK0 aE0 aF0 aP0 aD0 aM0 aC0 gg) ++ (wC cJ aC0 aC1 u_73)) := hD
      have hR := bnd_eq hR hw_73.symm
      refine lv_iload hx hb dX5_tear_76 (lv_at hl 5 rfl) ?_
      refine lv_if_ne (tgt := 91) hx hb dX5_tear_78 (by decide) (fun c_78 => ?_) (fun c_78 => ?_)
      · have c_78 : ¬ (xw = 0) := c_78
        have hR := hR.trans (if_neg c_78)
        refine lv_aload_n hx hb dX5_tear_91 rfl (lv_at hl 1 rfl) ?_
        refine va_get (D := δ) (ci := 5) (v := .ref aC0) (C := RX5) (T := TX5) (N := 9) hx hb hts hinX5 hown hK hP 0 rfl rfl 8 (by decide) (hts (.fieldLink RX5 46 "GloveHours" "chances" "LGloveHours$Chances;") (List.mem_of_getElem? (i := 2) rfl)) (fun _ h9 => h9) rfl dX5_tear_92 ?_
        refine va_get (D := δ) (ci := 0) (v := .long (cDeedsDone u_73)) (C := RX0) (T := TX0) (N := 3) hx hb hts hinX0 hown hK hP 1 rfl rfl 1 (by decide) (hts (.fieldLink RX5 207 "GloveHours$Chances" "deedsDone" "J") (List.mem_of_getElem? (i := 3) rfl)) (fun _ h9 => h9) rfl dX5_tear_95 ?_
        refine lv_lstore (lv' := [(7, .long (cDeedsDone u_73)), (6, .int (0 : Int32)), (0, .ref aG0), (1, .int xn), (2, .int xm), (3, .int xt), (4, .int xw), (5, .int xp)]) hx hb dX5_tear_98 hl (by decide) rfl (fun ls hl => ?_)
        refine lv_lload hx hb dX5_tear_100 (lv_at hl 0 rfl) ?_
        refine lv_aload_n hx hb dX5_tear_102 rfl (lv_at hl 2 rfl) ?_
        refine va_get (D := δ) (ci := 5) (v := .ref aC0) (C := RX5) (T := TX5) (N := 9) hx hb hts hinX5 hown hK hP 0 rfl rfl 8 (by decide) (hts (.fieldLink RX5 46 "GloveHours" "chances" "LGloveHours$Chances;") (List.mem_of_getElem? (i := 2) rfl)) (fun _ h9 => h9) rfl dX5_tear_103 ?_
        refine va_get (D := δ) (ci := 0) (v := .long (cWhole u_73)) (C := RX0) (T := TX0) (N := 3) hx hb hts hinX0 hown hK hP 1 rfl rfl 0 (by decide) (hts (.fieldLink RX5 211 "GloveHours$Chances" "whole" "J") (List.mem_of_getElem? (i := 4) rfl)) (fun _ h9 => h9) rfl dX5_tear_106 ?_
        have hr := mrS (p := p) (e := e) (R := rm_X5_tear) (below := below) (meth := meth) (H := H) (locs := locs) (ls := ls) (As := [.long (cDeedsDone u_73), .long (cWhole u_73)]) (rest := []) (c_X5_commonDivisor l δ cI cJ cZ (cDeedsDone u_73) (cWhole u_73)) hx hb hml hts hown hK hNW hP hD [] rfl rfl (va_cwS 2 hts gX5_tear_X5_commonDivisor rfl rfl rfl (by decide +kernel) ⟨(Nat.le_of_ble_eq_true rfl), (Nat.le_of_ble_eq_true rfl)⟩) rfl hl.1 rfl (Nat.le_of_ble_eq_true rfl) dX5_tear_109
        refine mc_l (wr := ((wG  aG0 aK0 aE0 aF0 aP0 aD0 aM0 aC0 gg) ++ (wC cJ aC0 aC1 u_73))) hr hP hD hS hA [] [0, 1, 2] [0, 1, 2] rfl rfl rfl rfl rfl (wn := fun _ => ((wG  aG0 aK0 aE0 aF0 aP0 aD0 aM0 aC0 gg) ++ (wC cJ aC0 aC1 u_73))) (fun _ => rfl) (fun r_109 _ H locs hw_109 hP hD hS => ?_)
        have hP : va_P δ vwCl ((wG  aG0 aK0 aE0 aF0 aP0 aD0 aM0 aC0 gg) ++ (wC cJ aC0 aC1 u_73)) H := hP
        have hD : va_D A ((wG  aG0 aK0 aE0 aF0 aP0 aD0 aM0 aC0 gg) ++ (wC cJ aC0 aC1 u_73)) := hD
        have hR := bnd_eq hR hw_109.symm
        refine lv_lstore (lv' := [(9, .long r_109), (7, .long (cDeedsDone u_73)), (6, .int (0 : Int32)), (0, .ref aG0), (1, .int xn), (2, .int xm), (3, .int xt), (4, .int xw), (5, .int xp)]) hx hb dX5_tear_112 hl (by decide) rfl (fun ls hl => ?_)
        refine lv_lload hx hb dX5_tear_114 (lv_at hl 0 rfl) ?_
        refine lv_lconst (v := (1 : Int64)) hx hb dX5_tear_116 (by decide) ?_
        refine W.lcmp hx hb dX5_tear_117 ?_
        refine lv_if_ge (tgt := 123) hx hb dX5_tear_118 (by decide) (fun c_118 => ?_) (fun c_118 => ?_)
        · have c_118 : (0 ≤ (lg_cmp r_109 (1 : Int64))) := c_118
          have hR := hR.trans (if_pos c_118)
          refine lv_iload hx hb dX5_tear_123 (lv_at hl 8 rfl) ?_
          refine lv_if_ne (tgt := 136) hx hb dX5_tear_125 (by decide) (fun c_125 => ?_) (fun c_125 => ?_)
          · have c_125 : ¬ (xp = 0) := c_125
            have hR := hR.trans (if_neg c_125)
            refine lv_aload_n hx hb dX5_tear_136 rfl (lv_at hl 3 rfl) ?_
            refine va_get (D := δ) (ci := 5) (v := .ref aC0) (C := RX5) (T := TX5) (N := 9) hx hb hts hinX5 hown hK hP 0 rfl rfl 8 (by decide) (hts (.fieldLink RX5 46 "GloveHours" "chances" "LGloveHours$Chances;") (List.mem_of_getElem? (i := 2) rfl)) (fun _ h9 => h9) rfl dX5_tear_137 ?_
            refine va_get (D := δ) (ci := 0) (v := .long (cWhole u_73)) (C := RX0) (T := TX0) (N := 3) hx hb hts hinX0 hown hK hP 1 rfl rfl 0 (by decide) (hts (.fieldLink RX5 211 "GloveHours$Chances" "whole" "J") (List.mem_of_getElem? (i := 4) rfl)) (fun _ h9 => h9) rfl dX5_tear_140 ?_
            refine lv_lload hx hb dX5_tear_143 (lv_at hl 0 rfl) ?_
            refine lv_ldiv hx hb dX5_tear_145 (lg_ne1 c_118) ?_
            exact hret _ _ ((cWhole u_73) / r_109) u_73 _ _ hR hP hD hS dX5_tear_146
          · have c_125 : (xp = 0) := c_125
            have hR := hR.trans (if_pos c_125)
            refine lv_lload hx hb dX5_tear_128 (lv_at hl 1 rfl) ?_
            refine lv_lload hx hb dX5_tear_130 (lv_at hl 0 rfl) ?_
            refine lv_ldiv hx hb dX5_tear_132 (lg_ne1 c_118) ?_
            refine lv_goto (tgt := 146) hx hb dX5_tear_133 (by decide) ?_
            exact hret _ _ ((cDeedsDone u_73) / r_109) u_73 _ _ hR hP hD hS dX5_tear_146
        · have c_118 : ¬ (0 ≤ (lg_cmp r_109 (1 : Int64))) := c_118
          have hR := hR.trans (if_neg c_118)
          refine lv_lconst (v := (0 : Int64)) hx hb dX5_tear_121 (by decide) ?_
          exact hret _ _ (0 : Int64) u_73 _ _ hR hP hD hS dX5_tear_122
      · have c_78 : (xw = 0) := c_78
        have hR := hR.trans (if_pos c_78)
        refine lv_aload_n hx hb dX5_tear_81 rfl (lv_at hl 1 rfl) ?_
        refine va_get (D := δ) (ci := 5) (v := .ref aC0) (C := RX5) (T := TX5) (N := 9) hx hb hts hinX5 hown hK hP 0 rfl rfl 8 (by decide) (hts (.fieldLink RX5 46 "GloveHours" "chances" "LGloveHours$Chances;") (List.mem_of_getElem? (i := 2) rfl)) (fun _ h9 => h9) rfl dX5_tear_82 ?_
        have hr := mrV (p := p) (e := e) (R := rm_X5_tear) (below := below) (meth := meth) (H := H) (locs := locs) (ls := ls) (As := []) (rest := []) (c_X0_someLeft l δ cI cJ cZ aC0 aC1 u_73) hx hb hml hts hown hK hNW hP hD [1, 2] rfl rfl 0 0 rfl rfl (cwV 0 hts gX5_tear_X0_someLeft rfl rfl rfl (by decide +kernel) ⟨(Nat.le_of_ble_eq_true rfl), (Nat.le_of_ble_eq_true rfl)⟩) rfl hl.1 rfl (Nat.le_of_ble_eq_true rfl) dX5_tear_85
        refine mc_l (wr := (wG  aG0 aK0 aE0 aF0 aP0 aD0 aM0 aC0 gg)) hr hP hD hS hA [1, 2] [0] [0, 1, 2] rfl rfl rfl rfl rfl (wn := fun _ => ((wG  aG0 aK0 aE0 aF0 aP0 aD0 aM0 aC0 gg) ++ (wC cJ aC0 aC1 u_73))) (fun _ => rfl) (fun r_85 _ H locs hw_85 hP hD hS => ?_)
        have hP : va_P δ vwCl ((wG  aG0 aK0 aE0 aF0 aP0 aD0 aM0 aC0 gg) ++ (wC cJ aC0 aC1 u_73)) H := hP
        have hD : va_D A ((wG  aG0 aK0 aE0 aF0 aP0 aD0 aM0 aC0 gg) ++ (wC cJ aC0 aC1 u_73)) := hD
        have hR := bnd_eq hR hw_85.symm
        refine lv_goto (tgt := 98) hx hb dX5_tear_88 (by decide) ?_
        refine lv_lstore (lv' := [(7, .long r_85), (6, .int (0 : Int32)), (0, .ref aG0), (1, .int xn), (2, .int xm), (3, .int xt), (4, .int xw), (5, .int xp)]) hx hb dX5_tear_98 hl (by decide) rfl (fun ls hl => ?_)
        refine lv_lload hx hb dX5_tear_100 (lv_at hl 0 rfl) ?_
        refine lv_aload_n hx hb dX5_tear_102 rfl (lv_at hl 2 rfl) ?_
        refine va_get (D := δ) (ci := 5) (v := .ref aC0) (C := RX5) (T := TX5) (N := 9) hx hb hts hinX5 hown hK hP 0 rfl rfl 8 (by decide) (hts (.fieldLink RX5 46 "GloveHours" "chances" "LGloveHours$Chances;") (List.mem_of_getElem? (i := 2) rfl)) (fun _ h9 => h9) rfl dX5_tear_103 ?_
        refine va_get (D := δ) (ci := 0) (v := .long (cWhole u_73)) (C := RX0) (T := TX0) (N := 3) hx hb hts hinX0 hown hK hP 1 rfl rfl 0 (by decide) (hts (.fieldLink RX5 211 "GloveHours$Chances" "whole" "J") (List.mem_of_getElem? (i := 4) rfl)) (fun _ h9 => h9) rfl dX5_tear_106 ?_
        have hr := mrS (p := p) (e := e) (R := rm_X5_tear) (below := below) (meth := meth) (H := H) (locs := locs) (ls := ls) (As := [.long r_85, .long (cWhole u_73)]) (rest := []) (c_X5_commonDivisor l δ cI cJ cZ r_85 (cWhole u_73)) hx hb hml hts hown hK hNW hP hD [] rfl rfl (va_cwS 2 hts gX5_tear_X5_commonDivisor rfl rfl rfl (by decide +kernel) ⟨(Nat.le_of_ble_eq_true rfl), (Nat.le_of_ble_eq_true rfl)⟩) rfl hl.1 rfl (Nat.le_of_ble_eq_true rfl) dX5_tear_109
        refine mc_l (wr := ((wG  aG0 aK0 aE0 aF0 aP0 aD0 aM0 aC0 gg) ++ (wC cJ aC0 aC1 u_73))) hr hP hD hS hA [] [0, 1, 2] [0, 1, 2] rfl rfl rfl rfl rfl (wn := fun _ => ((wG  aG0 aK0 aE0 aF0 aP0 aD0 aM0 aC0 gg) ++ (wC cJ aC0 aC1 u_73))) (fun _ => rfl) (fun r_109 _ H locs hw_109 hP hD hS => ?_)
        have hP : va_P δ vwCl ((wG  aG0 aK0 aE0 aF0 aP0 aD0 aM0 aC0 gg) ++ (wC cJ aC0 aC1 u_73)) H := hP
        have hD : va_D A ((wG  aG0 aK0 aE0 aF0 aP0 aD0 aM0 aC0 gg) ++ (wC cJ aC0 aC1 u_73)) := hD
        have hR := bnd_eq hR hw_109.symm
        refine lv_lstore (lv' := [(9, .long r_109), (7, .long r_85), (6, .int (0 : Int32)), (0, .ref aG0), (1, .int xn), (2, .int xm), (3, .int xt), (4, .int xw), (5, .int xp)]) hx hb dX5_tear_112 hl (by decide) rfl (fun ls hl => ?_)
        refine lv_lload hx hb dX5_tear_114 (lv_at hl 0 rfl) ?_
        refine lv_lconst (v := (1 : Int64)) hx hb dX5_tear_116 (by decide) ?_
        refine W.lcmp hx hb dX5_tear_117 ?_
        refine lv_if_ge (tgt := 123) hx hb dX5_tear_118 (by decide) (fun c_118 => ?_) (fun c_118 => ?_)
        · have c_118 : (0 ≤ (lg_cmp r_109 (1 : Int64))) := c_118
          have hR := hR.trans (if_pos c_118)
          refine lv_iload hx hb dX5_tear_123 (lv_at hl 8 rfl) ?_
          refine lv_if_ne (tgt := 136) hx hb dX5_tear_125 (by decide) (fun c_125 => ?_) (fun c_125 => ?_)
          · have c_125 : ¬ (xp = 0) := c_125
            have hR := hR.trans (if_neg c_125)
            refine lv_aload_n hx hb dX5_tear_136 rfl (lv_at hl 3 rfl) ?_
            refine va_get (D := δ) (ci := 5) (v := .ref aC0) (C := RX5) (T := TX5) (N := 9) hx hb hts hinX5 hown hK hP 0 rfl rfl 8 (by decide) (hts (.fieldLink RX5 46 "GloveHours" "chances" "LGloveHours$Chances;") (List.mem_of_getElem? (i := 2) rfl)) (fun _ h9 => h9) rfl dX5_tear_137 ?_
            refine va_get (D := δ) (ci := 0) (v := .long (cWhole u_73)) (C := RX0) (T := TX0) (N := 3) hx hb hts hinX0 hown hK hP 1 rfl rfl 0 (by decide) (hts (.fieldLink RX5 211 "GloveHours$Chances" "whole" "J") (List.mem_of_getElem? (i := 4) rfl)) (fun _ h9 => h9) rfl dX5_tear_140 ?_
            refine lv_lload hx hb dX5_tear_143 (lv_at hl 0 rfl) ?_
            refine lv_ldiv hx hb dX5_tear_145 (lg_ne1 c_118) ?_
            exact hret _ _ ((cWhole u_73) / r_109) u_73 _ _ hR hP hD hS dX5_tear_146
          · have c_125 : (xp = 0) := c_125
            have hR := hR.trans (if_pos c_125)
            refine lv_lload hx hb dX5_tear_128 (lv_at hl 1 rfl) ?_
            refine lv_lload hx hb dX5_tear_130 (lv_at hl 0 rfl) ?_
            refine lv_ldiv hx hb dX5_tear_132 (lg_ne1 c_118) ?_
            refine lv_goto (tgt := 146) hx hb dX5_tear_133 (by decide) ?_
            exact hret _ _ (r_85 / r_109) u_73 _ _ hR hP hD hS dX5_tear_146
        · have c_118 : ¬ (0 ≤ (lg_cmp r_109 (1 : Int64))) := c_118
          have hR := hR.trans (if_neg c_118)
          refine lv_lconst (v := (0 : Int64)) hx hb dX5_tear_121 (by decide) ?_
          exact hret _ _ (0 : Int64) u_73 _ _ hR hP hD hS dX5_tear_122
    · have c_59 : ((0 : Int32) = 0) := c_59
      have hR := hR.trans (if_pos c_59)
      refine lv_ldc2 (v := (-1000000000000000002 : Int64)) hx hb hown (hts (.constantLong RX5 197 (-1000000000000000002)) (List.mem_of_getElem? (i := 1) rfl)) dX5_tear_62 ?_
      exact hret _ _ (-1000000000000000002 : Int64) ch _ _ hR hP hD hS dX5_tear_65
  · have c_7 : ¬ (r_4 = 0) := c_7
    have hR := hR.trans (if_neg c_7)
    refine lv_iload_n hx hb dX5_tear_10 rfl (lv_at hl 2 rfl) ?_
    refine lv_iconst (v := (0 : Int32)) hx hb dX5_tear_11 (by decide) ?_
    refine lv_bipush (v := (12 : Int32)) hx hb dX5_tear_12 (by decide) ?_
    have hr := mrS (p := p) (e := e) (R := rm_X5_tear) (below := below) (meth := meth) (H := H) (locs := locs) (ls := ls) (As := [.int xm, .int (0 : Int32), .int (12 : Int32)]) (rest := []) (c_X5_isWithin l δ cI cJ cZ xm (0 : Int32) (12 : Int32)) hx hb hml hts hown hK hNW hP hD [] rfl rfl (va_cwS 3 hts gX5_tear_X5_isWithin rfl rfl rfl (by decide +kernel) ⟨(Nat.le_of_ble_eq_true rfl), (Nat.le_of_ble_eq_true rfl)⟩) rfl hl.1 rfl (Nat.le_of_ble_eq_true rfl) dX5_tear_14
    refine mc_i (wr := ((wG  aG0 aK0 aE0 aF0 aP0 aD0 aM0 aC0 gg) ++ (wC cJ aC0 aC1 ch))) hr hP hD hS hA [] [0, 1, 2] [0, 1, 2] rfl rfl rfl rfl rfl (wn := fun _ => ((wG  aG0 aK0 aE0 aF0 aP0 aD0 aM0 aC0 gg) ++ (wC cJ aC0 aC1 ch))) (fun _ => rfl) (fun r_14 _ H locs hw_14 hP hD hS => ?_)
    obtain ⟨hw_14, z_14⟩ := hw_14
    have hP : va_P δ vwCl ((wG  aG0 aK0 aE0 aF0 aP0 aD0 aM0 aC0 gg) ++ (wC cJ aC0 aC1 ch)) H := hP
    have hD : va_D A ((wG  aG0 aK0 aE0 aF0 aP0 aD0 aM0 aC0 gg) ++ (wC cJ aC0 aC1 ch)) := hD
    have hR := bnd_eq hR hw_14.symm
    refine lv_if_eq (tgt := 54) hx hb dX5_tear_17 (by decide) (fun c_17 => ?_) (fun c_17 => ?_)
    · have c_17 : (r_14 = 0) := c_17
      have hR := hR.trans (if_pos c_17)
      refine lv_iconst (v := (0 : Int32)) hx hb dX5_tear_54 (by decide) ?_
      refine lv_istore (lv' := [(6, .int (0 : Int32)), (0, .ref aG0), (1, .int xn), (2, .int xm), (3, .int xt), (4, .int xw), (5, .int xp)]) hx hb dX5_tear_55 hl (by decide) rfl (fun ls hl => ?_)
      refine lv_iload hx hb dX5_tear_57 (lv_at hl 0 rfl) ?_
      refine lv_if_ne (tgt := 66) hx hb dX5_tear_59 (by decide) (fun c_59 => ?_) (fun c_59 => ?_)
      · have c_59 : ¬ ((0 : Int32) = 0) := c_59
        have hR := hR.trans (if_neg c_59)
        refine lv_aload_n hx hb dX5_tear_66 rfl (lv_at hl 1 rfl) ?_
        refine va_get (D := δ) (ci := 5) (v := .ref aC0) (C := RX5) (T := TX5) (N := 9) hx hb hts hinX5 hown hK hP 0 rfl rfl 8 (by decide) (hts (.fieldLink RX5 46 "GloveHours" "chances" "LGloveHours$Chances;") (List.mem_of_getElem? (i := 2) rfl)) (fun _ h9 => h9) rfl dX5_tear_67 ?_
        refine lv_iload_n hx hb dX5_tear_70 rfl (lv_at hl 2 rfl) ?_
        refine lv_iload_n hx hb dX5_tear_71 rfl (lv_at hl 3 rfl) ?_
        refine lv_iload_n hx hb dX5_tear_72 rfl (lv_at hl 4 rfl) ?_
        have hr := mrV (p := p) (e := e) (R := rm_X5_tear) (below := below) (meth := meth) (H := H) (locs := locs) (ls := ls) (As := [.int xn, .int xm, .int xt]) (rest := []) (c_X0_run l δ cI cJ cZ aC0 aC1 ch xn xm xt) hx hb hml hts hown hK hNW hP hD [1, 2] rfl rfl 0 0 rfl rfl (cwV 3 hts gX5_tear_X0_run rfl rfl rfl (by decide +kernel) ⟨(Nat.le_of_ble_eq_true rfl), (Nat.le_of_ble_eq_true rfl)⟩) rfl hl.1 rfl (Nat.le_of_ble_eq_true rfl) dX5_tear_73
        refine mc_v (wr := (wG  aG0 aK0 aE0 aF0 aP0 aD0 aM0 aC0 gg)) hr hP hD hS hA [1, 2] [0] [0, 1, 2] rfl rfl rfl rfl rfl (wn := fun u_73 => ((wG  aG0 aK0 aE0 aF0 aP0 aD0 aM0 aC0 gg) ++ (wC cJ aC0 aC1 u_73))) (fun _ => rfl) (fun u_73 H locs hw_73 hP hD hS => ?_)
        have hP : va_P δ vwCl ((wG  aG0 aK0 aE0 aF0 aP0 aD0 aM0 aC0 gg) ++ (wC cJ aC0 aC1 u_73)) H := hP
        have hD : va_D A ((wG  aG0 aK0 aE0 aF0 aP0 aD0 aM0 aC0 gg) ++ (wC cJ aC0 aC1 u_73)) := hD
        have hR := bnd_eq hR hw_73.symm
        refine lv_iload hx hb dX5_tear_76 (lv_at hl 5 rfl) ?_
        refine lv_if_ne (tgt := 91) hx hb dX5_tear_78 (by decide) (fun c_78 => ?_) (fun c_78 => ?_)
        · have c_78 : ¬ (xw = 0) := c_78
          have hR := hR.trans (if_neg c_78)
          refine lv_aload_n hx hb dX5_tear_91 rfl (lv_at hl 1 rfl) ?_
          refine va_get (D := δ) (ci := 5) (v := .ref aC0) (C := RX5) (T := TX5) (N := 9) hx hb hts hinX5 hown hK hP 0 rfl rfl 8 (by decide) (hts (.fieldLink RX5 46 "GloveHours" "chances" "LGloveHours$Chances;") (List.mem_of_getElem? (i := 2) rfl)) (fun _ h9 => h9) rfl dX5_tear_92 ?_
          refine va_get (D := δ) (ci := 0) (v := .long (cDeedsDone u_73)) (C := RX0) (T := TX0) (N := 3) hx hb hts hinX0 hown hK hP 1 rfl rfl 1 (by decide) (hts (.fieldLink RX5 207 "GloveHours$Chances" "deedsDone" "J") (List.mem_of_getElem? (i := 3) rfl)) (fun _ h9 => h9) rfl dX5_tear_95 ?_
          refine lv_lstore (lv' := [(7, .long (cDeedsDone u_73)), (6, .int (0 : Int32)), (0, .ref aG0), (1, .int xn), (2, .int xm), (3, .int xt), (4, .int xw), (5, .int xp)]) hx hb dX5_tear_98 hl (by decide) rfl (fun ls hl => ?_)
          refine lv_lload hx hb dX5_tear_100 (lv_at hl 0 rfl) ?_
          refine lv_aload_n hx hb dX5_tear_102 rfl (lv_at hl 2 rfl) ?_
          refine va_get (D := δ) (ci := 5) (v := .ref aC0) (C := RX5) (T := TX5) (N := 9) hx hb hts hinX5 hown hK hP 0 rfl rfl 8 (by decide) (hts (.fieldLink RX5 46 "GloveHours" "chances" "LGloveHours$Chances;") (List.mem_of_getElem? (i := 2) rfl)) (fun _ h9 => h9) rfl dX5_tear_103 ?_
          refine va_get (D := δ) (ci := 0) (v := .long (cWhole u_73)) (C := RX0) (T := TX0) (N := 3) hx hb hts hinX0 hown hK hP 1 rfl rfl 0 (by decide) (hts (.fieldLink RX5 211 "GloveHours$Chances" "whole" "J") (List.mem_of_getElem? (i := 4) rfl)) (fun _ h9 => h9) rfl dX5_tear_106 ?_
          have hr := mrS (p := p) (e := e) (R := rm_X5_tear) (below := below) (meth := meth) (H := H) (locs := locs) (ls := ls) (As := [.long (cDeedsDone u_73), .long (cWhole u_73)]) (rest := []) (c_X5_commonDivisor l δ cI cJ cZ (cDeedsDone u_73) (cWhole u_73)) hx hb hml hts hown hK hNW hP hD [] rfl rfl (va_cwS 2 hts gX5_tear_X5_commonDivisor rfl rfl rfl (by decide +kernel) ⟨(Nat.le_of_ble_eq_true rfl), (Nat.le_of_ble_eq_true rfl)⟩) rfl hl.1 rfl (Nat.le_of_ble_eq_true rfl) dX5_tear_109
          refine mc_l (wr := ((wG  aG0 aK0 aE0 aF0 aP0 aD0 aM0 aC0 gg) ++ (wC cJ aC0 aC1 u_73))) hr hP hD hS hA [] [0, 1, 2] [0, 1, 2] rfl rfl rfl rfl rfl (wn := fun _ => ((wG  aG0 aK0 aE0 aF0 aP0 aD0 aM0 aC0 gg) ++ (wC cJ aC0 aC1 u_73))) (fun _ => rfl) (fun r_109 _ H locs hw_109 hP hD hS => ?_)
          have hP : va_P δ vwCl ((wG  aG0 aK0 aE0 aF0 aP0 aD0 aM0 aC0 gg) ++ (wC cJ aC0 aC1 u_73)) H := hP
          have hD : va_D A ((wG  aG0 aK0 aE0 aF0 aP0 aD0 aM0 aC0 gg) ++ (wC cJ aC0 aC1 u_73)) := hD
          have hR := bnd_eq hR hw_109.symm
          refine lv_lstore (lv' := [(9, .long r_109), (7, .long (cDeedsDone u_73)), (6, .int (0 : Int32)), (0, .ref aG0), (1, .int xn), (2, .int xm), (3, .int xt), (4, .int xw), (5, .int xp)]) hx hb dX5_tear_112 hl (by decide) rfl (fun ls hl => ?_)
          refine lv_lload hx hb dX5_tear_114 (lv_at hl 0 rfl) ?_
          refine lv_lconst (v := (1 : Int64)) hx hb dX5_tear_116 (by decide) ?_
          refine W.lcmp hx hb dX5_tear_117 ?_
          refine lv_if_ge (tgt := 123) hx hb dX5_tear_118 (by decide) (fun c_118 => ?_) (fun c_118 => ?_)
          · have c_118 : (0 ≤ (lg_cmp r_109 (1 : Int64))) := c_118
            have hR := hR.trans (if_pos c_118)
            refine lv_iload hx hb dX5_tear_123 (lv_at hl 8 rfl) ?_
            refine lv_if_ne (tgt := 136) hx hb dX5_tear_125 (by decide) (fun c_125 => ?_) (fun c_125 => ?_)
            · have c_125 : ¬ (xp = 0) := c_125
              have hR := hR.trans (if_neg c_125)
              refine lv_aload_n hx hb dX5_tear_136 rfl (lv_at hl 3 rfl) ?_
              refine va_get (D := δ) (ci := 5) (v := .ref aC0) (C := RX5) (T := TX5) (N := 9) hx hb hts hinX5 hown hK hP 0 rfl rfl 8 (by decide) (hts (.fieldLink RX5 46 "GloveHours" "chances" "LGloveHours$Chances;") (List.mem_of_getElem? (i := 2) rfl)) (fun _ h9 => h9) rfl dX5_tear_137 ?_
              refine va_get (D := δ) (ci := 0) (v := .long (cWhole u_73)) (C := RX0) (T := TX0) (N := 3) hx hb hts hinX0 hown hK hP 1 rfl rfl 0 (by decide) (hts (.fieldLink RX5 211 "GloveHours$Chances" "whole" "J") (List.mem_of_getElem? (i := 4) rfl)) (fun _ h9 => h9) rfl dX5_tear_140 ?_
              refine lv_lload hx hb dX5_tear_143 (lv_at hl 0 rfl) ?_
              refine lv_ldiv hx hb dX5_tear_145 (lg_ne1 c_118) ?_
              exact hret _ _ ((cWhole u_73) / r_109) u_73 _ _ hR hP hD hS dX5_tear_146
            · have c_125 : (xp = 0) := c_125
              have hR := hR.trans (if_pos c_125)
              refine lv_lload hx hb dX5_tear_128 (lv_at hl 1 rfl) ?_
              refine lv_lload hx hb dX5_tear_130 (lv_at hl 0 rfl) ?_
              refine lv_ldiv hx hb dX5_tear_132 (lg_ne1 c_118) ?_
              refine lv_goto (tgt := 146) hx hb dX5_tear_133 (by decide) ?_
              exact hret _ _ ((cDeedsDone u_73) / r_109) u_73 _ _ hR hP hD hS dX5_tear_146
          · have c_118 : ¬ (0 ≤ (lg_cmp r_109 (1 : Int64))) := c_118
            have hR := hR.trans (if_neg c_118)
            refine lv_lconst (v := (0 : Int64)) hx hb dX5_tear_121 (by decide) ?_
            exact hret _ _ (0 : Int64) u_73 _ _ hR hP hD hS dX5_tear_122
        · have c_78 : (xw = 0) := c_78
          have hR := hR.trans (if_pos c_78)
          refine lv_aload_n hx hb dX5_tear_81 rfl (lv_at hl 1 rfl) ?_
          refine va_get (D := δ) (ci := 5) (v := .ref aC0) (C := RX5) (T := TX5) (N := 9) hx hb hts hinX5 hown hK hP 0 rfl rfl 8 (by decide) (hts (.fieldLink RX5 46 "GloveHours" "chances" "LGloveHours$Chances;") (List.mem_of_getElem? (i := 2) rfl)) (fun _ h9 => h9) rfl dX5_tear_82 ?_
          have hr := mrV (p := p) (e := e) (R := rm_X5_tear) (below := below) (meth := meth) (H := H) (locs := locs) (ls := ls) (As := []) (rest := []) (c_X0_someLeft l δ cI cJ cZ aC0 aC1 u_73) hx hb hml hts hown hK hNW hP hD [1, 2] rfl rfl 0 0 rfl rfl (cwV 0 hts gX5_tear_X0_someLeft rfl rfl rfl (by decide +kernel) ⟨(Nat.le_of_ble_eq_true rfl), (Nat.le_of_ble_eq_true rfl)⟩) rfl hl.1 rfl (Nat.le_of_ble_eq_true rfl) dX5_tear_85
          refine mc_l (wr := (wG  aG0 aK0 aE0 aF0 aP0 aD0 aM0 aC0 gg)) hr hP hD hS hA [1, 2] [0] [0, 1, 2] rfl rfl rfl rfl rfl (wn := fun _ => ((wG  aG0 aK0 aE0 aF0 aP0 aD0 aM0 aC0 gg) ++ (wC cJ aC0 aC1 u_73))) (fun _ => rfl) (fun r_85 _ H locs hw_85 hP hD hS => ?_)
          have hP : va_P δ vwCl ((wG  aG0 aK0 aE0 aF0 aP0 aD0 aM0 aC0 gg) ++ (wC cJ aC0 aC1 u_73)) H := hP
          have hD : va_D A ((wG  aG0 aK0 aE0 aF0 aP0 aD0 aM0 aC0 gg) ++ (wC cJ aC0 aC1 u_73)) := hD
          have hR := bnd_eq hR hw_85.symm
          refine lv_goto (tgt := 98) hx hb dX5_tear_88 (by decide) ?_
          refine lv_lstore (lv' := [(7, .long r_85), (6, .int (0 : Int32)), (0, .ref aG0), (1, .int xn), (2, .int xm), (3, .int xt), (4, .int xw), (5, .int xp)]) hx hb dX5_tear_98 hl (by decide) rfl (fun ls hl => ?_)
          refine lv_lload hx hb dX5_tear_100 (lv_at hl 0 rfl) ?_
          refine lv_aload_n hx hb dX5_tear_102 rfl (lv_at hl 2 rfl) ?_
          refine va_get (D := δ) (ci := 5) (v := .ref aC0) (C := RX5) (T := TX5) (N := 9) hx hb hts hinX5 hown hK hP 0 rfl rfl 8 (by decide) (hts (.fieldLink RX5 46 "GloveHours" "chances" "LGloveHours$Chances;") (List.mem_of_getElem? (i := 2) rfl)) (fun _ h9 => h9) rfl dX5_tear_103 ?_
          refine va_get (D := δ) (ci := 0) (v := .long (cWhole u_73)) (C := RX0) (T := TX0) (N := 3) hx hb hts hinX0 hown hK hP 1 rfl rfl 0 (by decide) (hts (.fieldLink RX5 211 "GloveHours$Chances" "whole" "J") (List.mem_of_getElem? (i := 4) rfl)) (fun _ h9 => h9) rfl dX5_tear_106 ?_
          have hr := mrS (p := p) (e := e) (R := rm_X5_tear) (below := below) (meth := meth) (H := H) (locs := locs) (ls := ls) (As := [.long r_85, .long (cWhole u_73)]) (rest := []) (c_X5_commonDivisor l δ cI cJ cZ r_85 (cWhole u_73)) hx hb hml hts hown hK hNW hP hD [] rfl rfl (va_cwS 2 hts gX5_tear_X5_commonDivisor rfl rfl rfl (by decide +kernel) ⟨(Nat.le_of_ble_eq_true rfl), (Nat.le_of_ble_eq_true rfl)⟩) rfl hl.1 rfl (Nat.le_of_ble_eq_true rfl) dX5_tear_109
          refine mc_l (wr := ((wG  aG0 aK0 aE0 aF0 aP0 aD0 aM0 aC0 gg) ++ (wC cJ aC0 aC1 u_73))) hr hP hD hS hA [] [0, 1, 2] [0, 1, 2] rfl rfl rfl rfl rfl (wn := fun _ => ((wG  aG0 aK0 aE0 aF0 aP0 aD0 aM0 aC0 gg) ++ (wC cJ aC0 aC1 u_73))) (fun _ => rfl) (fun r_109 _ H locs hw_109 hP hD hS => ?_)
          have hP : va_P δ vwCl ((wG  aG0 aK0 aE0 aF0 aP0 aD0 aM0 aC0 gg) ++ (wC cJ aC0 aC1 u_73)) H := hP
          have hD : va_D A ((wG  aG0 aK0 aE0 aF0 aP0 aD0 aM0 aC0 gg) ++ (wC cJ aC0 aC1 u_73)) := hD
          have hR := bnd_eq hR hw_109.symm
          refine lv_lstore (lv' := [(9, .long r_109), (7, .long r_85), (6, .int (0 : Int32)), (0, .ref aG0), (1, .int xn), (2, .int xm), (3, .int xt), (4, .int xw), (5, .int xp)]) hx hb dX5_tear_112 hl (by decide) rfl (fun ls hl => ?_)
          refine lv_lload hx hb dX5_tear_114 (lv_at hl 0 rfl) ?_
          refine lv_lconst (v := (1 : Int64)) hx hb dX5_tear_116 (by decide) ?_
          refine W.lcmp hx hb dX5_tear_117 ?_
          refine lv_if_ge (tgt := 123) hx hb dX5_tear_118 (by decide) (fun c_118 => ?_) (fun c_118 => ?_)
          · have c_118 : (0 ≤ (lg_cmp r_109 (1 : Int64))) := c_118
            have hR := hR.trans (if_pos c_118)
            refine lv_iload hx hb dX5_tear_123 (lv_at hl 8 rfl) ?_
            refine lv_if_ne (tgt := 136) hx hb dX5_tear_125 (by decide) (fun c_125 => ?_) (fun c_125 => ?_)
            · have c_125 : ¬ (xp = 0) := c_125
              have hR := hR.trans (if_neg c_125)
              refine lv_aload_n hx hb dX5_tear_136 rfl (lv_at hl 3 rfl) ?_
              refine va_get (D := δ) (ci := 5) (v := .ref aC0) (C := RX5) (T := TX5) (N := 9) hx hb hts hinX5 hown hK hP 0 rfl rfl 8 (by decide) (hts (.fieldLink RX5 46 "GloveHours" "chances" "LGloveHours$Chances;") (List.mem_of_getElem? (i := 2) rfl)) (fun _ h9 => h9) rfl dX5_tear_137 ?_
              refine va_get (D := δ) (ci := 0) (v := .long (cWhole u_73)) (C := RX0) (T := TX0) (N := 3) hx hb hts hinX0 hown hK hP 1 rfl rfl 0 (by decide) (hts (.fieldLink RX5 211 "GloveHours$Chances" "whole" "J") (List.mem_of_getElem? (i := 4) rfl)) (fun _ h9 => h9) rfl dX5_tear_140 ?_
              refine lv_lload hx hb dX5_tear_143 (lv_at hl 0 rfl) ?_
              refine lv_ldiv hx hb dX5_tear_145 (lg_ne1 c_118) ?_
              exact hret _ _ ((cWhole u_73) / r_109) u_73 _ _ hR hP hD hS dX5_tear_146
            · have c_125 : (xp = 0) := c_125
              have hR := hR.trans (if_pos c_125)
              refine lv_lload hx hb dX5_tear_128 (lv_at hl 1 rfl) ?_
              refine lv_lload hx hb dX5_tear_130 (lv_at hl 0 rfl) ?_
              refine lv_ldiv hx hb dX5_tear_132 (lg_ne1 c_118) ?_
              refine lv_goto (tgt := 146) hx hb dX5_tear_133 (by decide) ?_
              exact hret _ _ (r_85 / r_109) u_73 _ _ hR hP hD hS dX5_tear_146
          · have c_118 : ¬ (0 ≤ (lg_cmp r_109 (1 : Int64))) := c_118
            have hR := hR.trans (if_neg c_118)
            refine lv_lconst (v := (0 : Int64)) hx hb dX5_tear_121 (by decide) ?_
            exact hret _ _ (0 : Int64) u_73 _ _ hR hP hD hS dX5_tear_122
      · have c_59 : ((0 : Int32) = 0) := c_59
        have hR := hR.trans (if_pos c_59)
        refine lv_ldc2 (v := (-1000000000000000002 : Int64)) hx hb hown (hts (.constantLong RX5 197 (-1000000000000000002)) (List.mem_of_getElem? (i := 1) rfl)) dX5_tear_62 ?_
        exact hret _ _ (-1000000000000000002 : Int64) ch _ _ hR hP hD hS dX5_tear_65
    · have c_17 : ¬ (r_14 = 0) := c_17
      have hR := hR.trans (if_neg c_17)
      refine lv_iload_n hx hb dX5_tear_20 rfl (lv_at hl 3 rfl) ?_
      refine lv_iconst (v := (0 : Int32)) hx hb dX5_tear_21 (by decide) ?_
      refine lv_bipush (v := (10 : Int32)) hx hb dX5_tear_22 (by decide) ?_
      have hr := mrS (p := p) (e := e) (R := rm_X5_tear) (below := below) (meth := meth) (H := H) (locs := locs) (ls := ls) (As := [.int xt, .int (0 : Int32), .int (10 : Int32)]) (rest := []) (c_X5_isWithin l δ cI cJ cZ xt (0 : Int32) (10 : Int32)) hx hb hml hts hown hK hNW hP hD [] rfl rfl (va_cwS 3 hts gX5_tear_X5_isWithin rfl rfl rfl (by decide +kernel) ⟨(Nat.le_of_ble_eq_true rfl), (Nat.le_of_ble_eq_true rfl)⟩) rfl hl.1 rfl (Nat.le_of_ble_eq_true rfl) dX5_tear_24
      refine mc_i (wr := ((wG  aG0 aK0 aE0 aF0 aP0 aD0 aM0 aC0 gg) ++ (wC cJ aC0 aC1 ch))) hr hP hD hS hA [] [0, 1, 2] [0, 1, 2] rfl rfl rfl rfl rfl (wn := fun _ => ((wG  aG0 aK0 aE0 aF0 aP0 aD0 aM0 aC0 gg) ++ (wC cJ aC0 aC1 ch))) (fun _ => rfl) (fun r_24 _ H locs hw_24 hP hD hS => ?_)
      obtain ⟨hw_24, z_24⟩ := hw_24
      have hP : va_P δ vwCl ((wG  aG0 aK0 aE0 aF0 aP0 aD0 aM0 aC0 gg) ++ (wC cJ aC0 aC1 ch)) H := hP
      have hD : va_D A ((wG  aG0 aK0 aE0 aF0 aP0 aD0 aM0 aC0 gg) ++ (wC cJ aC0 aC1 ch)) := hD
      have hR := bnd_eq hR hw_24.symm
      refine lv_if_eq (tgt := 54) hx hb dX5_tear_27 (by decide) (fun c_27 => ?_) (fun c_27 => ?_)
      · have c_27 : (r_24 = 0) := c_27
        have hR := hR.trans (if_pos c_27)
        refine lv_iconst (v := (0 : Int32)) hx hb dX5_tear_54 (by decide) ?_
        refine lv_istore (lv' := [(6, .int (0 : Int32)), (0, .ref aG0), (1, .int xn), (2, .int xm), (3, .int xt), (4, .int xw), (5, .int xp)]) hx hb dX5_tear_55 hl (by decide) rfl (fun ls hl => ?_)
        refine lv_iload hx hb dX5_tear_57 (lv_at hl 0 rfl) ?_
        refine lv_if_ne (tgt := 66) hx hb dX5_tear_59 (by decide) (fun c_59 => ?_) (fun c_59 => ?_)
        · have c_59 : ¬ ((0 : Int32) = 0) := c_59
          have hR := hR.trans (if_neg c_59)
          refine lv_aload_n hx hb dX5_tear_66 rfl (lv_at hl 1 rfl) ?_
          refine va_get (D := δ) (ci := 5) (v := .ref aC0) (C := RX5) (T := TX5) (N := 9) hx hb hts hinX5 hown hK hP 0 rfl rfl 8 (by decide) (hts (.fieldLink RX5 46 "GloveHours" "chances" "LGloveHours$Chances;") (List.mem_of_getElem? (i := 2) rfl)) (fun _ h9 => h9) rfl dX5_tear_67 ?_
          refine lv_iload_n hx hb dX5_tear_70 rfl (lv_at hl 2 rfl) ?_
          refine lv_iload_n hx hb dX5_tear_71 rfl (lv_at hl 3 rfl) ?_
          refine lv_iload_n hx hb dX5_tear_72 rfl (lv_at hl 4 rfl) ?_
          have hr := mrV (p := p) (e := e) (R := rm_X5_tear) (below := below) (meth := meth) (H := H) (locs := locs) (ls := ls) (As := [.int xn, .int xm, .int xt]) (rest := []) (c_X0_run l δ cI cJ cZ aC0 aC1 ch xn xm xt) hx hb hml hts hown hK hNW hP hD [1, 2] rfl rfl 0 0 rfl rfl (cwV 3 hts gX5_tear_X0_run rfl rfl rfl (by decide +kernel) ⟨(Nat.le_of_ble_eq_true rfl), (Nat.le_of_ble_eq_true rfl)⟩) rfl hl.1 rfl (Nat.le_of_ble_eq_true rfl) dX5_tear_73
          refine mc_v (wr := (wG  aG0 aK0 aE0 aF0 aP0 aD0 aM0 aC0 gg)) hr hP hD hS hA [1, 2] [0] [0, 1, 2] rfl rfl rfl rfl rfl (wn := fun u_73 => ((wG  aG0 aK0 aE0 aF0 aP0 aD0 aM0 aC0 gg) ++ (wC cJ aC0 aC1 u_73))) (fun _ => rfl) (fun u_73 H locs hw_73 hP hD hS => ?_)
          have hP : va_P δ vwCl ((wG  aG0 aK0 aE0 aF0 aP0 aD0 aM0 aC0 gg) ++ (wC cJ aC0 aC1 u_73)) H := hP
          have hD : va_D A ((wG  aG0 aK0 aE0 aF0 aP0 aD0 aM0 aC0 gg) ++ (wC cJ aC0 aC1 u_73)) := hD
          have hR := bnd_eq hR hw_73.symm
          refine lv_iload hx hb dX5_tear_76 (lv_at hl 5 rfl) ?_
          refine lv_if_ne (tgt := 91) hx hb dX5_tear_78 (by decide) (fun c_78 => ?_) (fun c_78 => ?_)
          · have c_78 : ¬ (xw = 0) := c_78
            have hR := hR.trans (if_neg c_78)
            refine lv_aload_n hx hb dX5_tear_91 rfl (lv_at hl 1 rfl) ?_
            refine va_get (D := δ) (ci := 5) (v := .ref aC0) (C := RX5) (T := TX5) (N := 9) hx hb hts hinX5 hown hK hP 0 rfl rfl 8 (by decide) (hts (.fieldLink RX5 46 "GloveHours" "chances" "LGloveHours$Chances;") (List.mem_of_getElem? (i := 2) rfl)) (fun _ h9 => h9) rfl dX5_tear_92 ?_
            refine va_get (D := δ) (ci := 0) (v := .long (cDeedsDone u_73)) (C := RX0) (T := TX0) (N := 3) hx hb hts hinX0 hown hK hP 1 rfl rfl 1 (by decide) (hts (.fieldLink RX5 207 "GloveHours$Chances" "deedsDone" "J") (List.mem_of_getElem? (i := 3) rfl)) (fun _ h9 => h9) rfl dX5_tear_95 ?_
            refine lv_lstore (lv' := [(7, .long (cDeedsDone u_73)), (6, .int (0 : Int32)), (0, .ref aG0), (1, .int xn), (2, .int xm), (3, .int xt), (4, .int xw), (5, .int xp)]) hx hb dX5_tear_98 hl (by decide) rfl (fun ls hl => ?_)
            refine lv_lload hx hb dX5_tear_100 (lv_at hl 0 rfl) ?_
            refine lv_aload_n hx hb dX5_tear_102 rfl (lv_at hl 2 rfl) ?_
            refine va_get (D := δ) (ci := 5) (v := .ref aC0) (C := RX5) (T := TX5) (N := 9) hx hb hts hinX5 hown hK hP 0 rfl rfl 8 (by decide) (hts (.fieldLink RX5 46 "GloveHours" "chances" "LGloveHours$Chances;") (List.mem_of_getElem? (i := 2) rfl)) (fun _ h9 => h9) rfl dX5_tear_103 ?_
            refine va_get (D := δ) (ci := 0) (v := .long (cWhole u_73)) (C := RX0) (T := TX0) (N := 3) hx hb hts hinX0 hown hK hP 1 rfl rfl 0 (by decide) (hts (.fieldLink RX5 211 "GloveHours$Chances" "whole" "J") (List.mem_of_getElem? (i := 4) rfl)) (fun _ h9 => h9) rfl dX5_tear_106 ?_
            have hr := mrS (p := p) (e := e) (R := rm_X5_tear) (below := below) (meth := meth) (H := H) (locs := locs) (ls := ls) (As := [.long (cDeedsDone u_73), .long (cWhole u_73)]) (rest := []) (c_X5_commonDivisor l δ cI cJ cZ (cDeedsDone u_73) (cWhole u_73)) hx hb hml hts hown hK hNW hP hD [] rfl rfl (va_cwS 2 hts gX5_tear_X5_commonDivisor rfl rfl rfl (by decide +kernel) ⟨(Nat.le_of_ble_eq_true rfl), (Nat.le_of_ble_eq_true rfl)⟩) rfl hl.1 rfl (Nat.le_of_ble_eq_true rfl) dX5_tear_109
            refine mc_l (wr := ((wG  aG0 aK0 aE0 aF0 aP0 aD0 aM0 aC0 gg) ++ (wC cJ aC0 aC1 u_73))) hr hP hD hS hA [] [0, 1, 2] [0, 1, 2] rfl rfl rfl rfl rfl (wn := fun _ => ((wG  aG0 aK0 aE0 aF0 aP0 aD0 aM0 aC0 gg) ++ (wC cJ aC0 aC1 u_73))) (fun _ => rfl) (fun r_109 _ H locs hw_109 hP hD hS => ?_)
            have hP : va_P δ vwCl ((wG  aG0 aK0 aE0 aF0 aP0 aD0 aM0 aC0 gg) ++ (wC cJ aC0 aC1 u_73)) H := hP
            have hD : va_D A ((wG  aG0 aK0 aE0 aF0 aP0 aD0 aM0 aC0 gg) ++ (wC cJ aC0 aC1 u_73)) := hD
            have hR := bnd_eq hR hw_109.symm
            refine lv_lstore (lv' := [(9, .long r_109), (7, .long (cDeedsDone u_73)), (6, .int (0 : Int32)), (0, .ref aG0), (1, .int xn), (2, .int xm), (3, .int xt), (4, .int xw), (5, .int xp)]) hx hb dX5_tear_112 hl (by decide) rfl (fun ls hl => ?_)
            refine lv_lload hx hb dX5_tear_114 (lv_at hl 0 rfl) ?_
            refine lv_lconst (v := (1 : Int64)) hx hb dX5_tear_116 (by decide) ?_
            refine W.lcmp hx hb dX5_tear_117 ?_
            refine lv_if_ge (tgt := 123) hx hb dX5_tear_118 (by decide) (fun c_118 => ?_) (fun c_118 => ?_)
            · have c_118 : (0 ≤ (lg_cmp r_109 (1 : Int64))) := c_118
              have hR := hR.trans (if_pos c_118)
              refine lv_iload hx hb dX5_tear_123 (lv_at hl 8 rfl) ?_
              refine lv_if_ne (tgt := 136) hx hb dX5_tear_125 (by decide) (fun c_125 => ?_) (fun c_125 => ?_)
              · have c_125 : ¬ (xp = 0) := c_125
                have hR := hR.trans (if_neg c_125)
                refine lv_aload_n hx hb dX5_tear_136 rfl (lv_at hl 3 rfl) ?_
                refine va_get (D := δ) (ci := 5) (v := .ref aC0) (C := RX5) (T := TX5) (N := 9) hx hb hts hinX5 hown hK hP 0 rfl rfl 8 (by decide) (hts (.fieldLink RX5 46 "GloveHours" "chances" "LGloveHours$Chances;") (List.mem_of_getElem? (i := 2) rfl)) (fun _ h9 => h9) rfl dX5_tear_137 ?_
                refine va_get (D := δ) (ci := 0) (v := .long (cWhole u_73)) (C := RX0) (T := TX0) (N := 3) hx hb hts hinX0 hown hK hP 1 rfl rfl 0 (by decide) (hts (.fieldLink RX5 211 "GloveHours$Chances" "whole" "J") (List.mem_of_getElem? (i := 4) rfl)) (fun _ h9 => h9) rfl dX5_tear_140 ?_
                refine lv_lload hx hb dX5_tear_143 (lv_at hl 0 rfl) ?_
                refine lv_ldiv hx hb dX5_tear_145 (lg_ne1 c_118) ?_
                exact hret _ _ ((cWhole u_73) / r_109) u_73 _ _ hR hP hD hS dX5_tear_146
              · have c_125 : (xp = 0) := c_125
                have hR := hR.trans (if_pos c_125)
                refine lv_lload hx hb dX5_tear_128 (lv_at hl 1 rfl) ?_
                refine lv_lload hx hb dX5_tear_130 (lv_at hl 0 rfl) ?_
                refine lv_ldiv hx hb dX5_tear_132 (lg_ne1 c_118) ?_
                refine lv_goto (tgt := 146) hx hb dX5_tear_133 (by decide) ?_
                exact hret _ _ ((cDeedsDone u_73) / r_109) u_73 _ _ hR hP hD hS dX5_tear_146
            · have c_118 : ¬ (0 ≤ (lg_cmp r_109 (1 : Int64))) := c_118
              have hR := hR.trans (if_neg c_118)
              refine lv_lconst (v := (0 : Int64)) hx hb dX5_tear_121 (by decide) ?_
              exact hret _ _ (0 : Int64) u_73 _ _ hR hP hD hS dX5_tear_122
          · have c_78 : (xw = 0) := c_78
            have hR := hR.trans (if_pos c_78)
            refine lv_aload_n hx hb dX5_tear_81 rfl (lv_at hl 1 rfl) ?_
            refine va_get (D := δ) (ci := 5) (v := .ref aC0) (C := RX5) (T := TX5) (N := 9) hx hb hts hinX5 hown hK hP 0 rfl rfl 8 (by decide) (hts (.fieldLink RX5 46 "GloveHours" "chances" "LGloveHours$Chances;") (List.mem_of_getElem? (i := 2) rfl)) (fun _ h9 => h9) rfl dX5_tear_82 ?_
            have hr := mrV (p := p) (e := e) (R := rm_X5_tear) (below := below) (meth := meth) (H := H) (locs := locs) (ls := ls) (As := []) (rest := []) (c_X0_someLeft l δ cI cJ cZ aC0 aC1 u_73) hx hb hml hts hown hK hNW hP hD [1, 2] rfl rfl 0 0 rfl rfl (cwV 0 hts gX5_tear_X0_someLeft rfl rfl rfl (by decide +kernel) ⟨(Nat.le_of_ble_eq_true rfl), (Nat.le_of_ble_eq_true rfl)⟩) rfl hl.1 rfl (Nat.le_of_ble_eq_true rfl) dX5_tear_85
            refine mc_l (wr := (wG  aG0 aK0 aE0 aF0 aP0 aD0 aM0 aC0 gg)) hr hP hD hS hA [1, 2] [0] [0, 1, 2] rfl rfl rfl rfl rfl (wn := fun _ => ((wG  aG0 aK0 aE0 aF0 aP0 aD0 aM0 aC0 gg) ++ (wC cJ aC0 aC1 u_73))) (fun _ => rfl) (fun r_85 _ H locs hw_85 hP hD hS => ?_)
            have hP : va_P δ vwCl ((wG  aG0 aK0 aE0 aF0 aP0 aD0 aM0 aC0 gg) ++ (wC cJ aC0 aC1 u_73)) H := hP
            have hD : va_D A ((wG  aG0 aK0 aE0 aF0 aP0 aD0 aM0 aC0 gg) ++ (wC cJ aC0 aC1 u_73)) := hD
            have hR := bnd_eq hR hw_85.symm
            refine lv_goto (tgt := 98) hx hb dX5_tear_88 (by decide) ?_
            refine lv_lstore (lv' := [(7, .long r_85), (6, .int (0 : Int32)), (0, .ref aG0), (1, .int xn), (2, .int xm), (3, .int xt), (4, .int xw), (5, .int xp)]) hx hb dX5_tear_98 hl (by decide) rfl (fun ls hl => ?_)
            refine lv_lload hx hb dX5_tear_100 (lv_at hl 0 rfl) ?_
            refine lv_aload_n hx hb dX5_tear_102 rfl (lv_at hl 2 rfl) ?_
            refine va_get (D := δ) (ci := 5) (v := .ref aC0) (C := RX5) (T := TX5) (N := 9) hx hb hts hinX5 hown hK hP 0 rfl rfl 8 (by decide) (hts (.fieldLink RX5 46 "GloveHours" "chances" "LGloveHours$Chances;") (List.mem_of_getElem? (i := 2) rfl)) (fun _ h9 => h9) rfl dX5_tear_103 ?_
            refine va_get (D := δ) (ci := 0) (v := .long (cWhole u_73)) (C := RX0) (T := TX0) (N := 3) hx hb hts hinX0 hown hK hP 1 rfl rfl 0 (by decide) (hts (.fieldLink RX5 211 "GloveHours$Chances" "whole" "J") (List.mem_of_getElem? (i := 4) rfl)) (fun _ h9 => h9) rfl dX5_tear_106 ?_
            have hr := mrS (p := p) (e := e) (R := rm_X5_tear) (below := below) (meth := meth) (H := H) (locs := locs) (ls := ls) (As := [.long r_85, .long (cWhole u_73)]) (rest := []) (c_X5_commonDivisor l δ cI cJ cZ r_85 (cWhole u_73)) hx hb hml hts hown hK hNW hP hD [] rfl rfl (va_cwS 2 hts gX5_tear_X5_commonDivisor rfl rfl rfl (by decide +kernel) ⟨(Nat.le_of_ble_eq_true rfl), (Nat.le_of_ble_eq_true rfl)⟩) rfl hl.1 rfl (Nat.le_of_ble_eq_true rfl) dX5_tear_109
            refine mc_l (wr := ((wG  aG0 aK0 aE0 aF0 aP0 aD0 aM0 aC0 gg) ++ (wC cJ aC0 aC1 u_73))) hr hP hD hS hA [] [0, 1, 2] [0, 1, 2] rfl rfl rfl rfl rfl (wn := fun _ => ((wG  aG0 aK0 aE0 aF0 aP0 aD0 aM0 aC0 gg) ++ (wC cJ aC0 aC1 u_73))) (fun _ => rfl) (fun r_109 _ H locs hw_109 hP hD hS => ?_)
            have hP : va_P δ vwCl ((wG  aG0 aK0 aE0 aF0 aP0 aD0 aM0 aC0 gg) ++ (wC cJ aC0 aC1 u_73)) H := hP
            have hD : va_D A ((wG  aG0 aK0 aE0 aF0 aP0 aD0 aM0 aC0 gg) ++ (wC cJ aC0 aC1 u_73)) := hD
            have hR := bnd_eq hR hw_109.symm
            refine lv_lstore (lv' := [(9, .long r_109), (7, .long r_85), (6, .int (0 : Int32)), (0, .ref aG0), (1, .int xn), (2, .int xm), (3, .int xt), (4, .int xw), (5, .int xp)]) hx hb dX5_tear_112 hl (by decide) rfl (fun ls hl => ?_)
            refine lv_lload hx hb dX5_tear_114 (lv_at hl 0 rfl) ?_
            refine lv_lconst (v := (1 : Int64)) hx hb dX5_tear_116 (by decide) ?_
            refine W.lcmp hx hb dX5_tear_117 ?_
            refine lv_if_ge (tgt := 123) hx hb dX5_tear_118 (by decide) (fun c_118 => ?_) (fun c_118 => ?_)
            · have c_118 : (0 ≤ (lg_cmp r_109 (1 : Int64))) := c_118
              have hR := hR.trans (if_pos c_118)
              refine lv_iload hx hb dX5_tear_123 (lv_at hl 8 rfl) ?_
              refine lv_if_ne (tgt := 136) hx hb dX5_tear_125 (by decide) (fun c_125 => ?_) (fun c_125 => ?_)
              · have c_125 : ¬ (xp = 0) := c_125
                have hR := hR.trans (if_neg c_125)
                refine lv_aload_n hx hb dX5_tear_136 rfl (lv_at hl 3 rfl) ?_
                refine va_get (D := δ) (ci := 5) (v := .ref aC0) (C := RX5) (T := TX5) (N := 9) hx hb hts hinX5 hown hK hP 0 rfl rfl 8 (by decide) (hts (.fieldLink RX5 46 "GloveHours" "chances" "LGloveHours$Chances;") (List.mem_of_getElem? (i := 2) rfl)) (fun _ h9 => h9) rfl dX5_tear_137 ?_
                refine va_get (D := δ) (ci := 0) (v := .long (cWhole u_73)) (C := RX0) (T := TX0) (N := 3) hx hb hts hinX0 hown hK hP 1 rfl rfl 0 (by decide) (hts (.fieldLink RX5 211 "GloveHours$Chances" "whole" "J") (List.mem_of_getElem? (i := 4) rfl)) (fun _ h9 => h9) rfl dX5_tear_140 ?_
                refine lv_lload hx hb dX5_tear_143 (lv_at hl 0 rfl) ?_
                refine lv_ldiv hx hb dX5_tear_145 (lg_ne1 c_118) ?_
                exact hret _ _ ((cWhole u_73) / r_109) u_73 _ _ hR hP hD hS dX5_tear_146
              · have c_125 : (xp = 0) := c_125
                have hR := hR.trans (if_pos c_125)
                refine lv_lload hx hb dX5_tear_128 (lv_at hl 1 rfl) ?_
                refine lv_lload hx hb dX5_tear_130 (lv_at hl 0 rfl) ?_
                refine lv_ldiv hx hb dX5_tear_132 (lg_ne1 c_118) ?_
                refine lv_goto (tgt := 146) hx hb dX5_tear_133 (by decide) ?_
                exact hret _ _ (r_85 / r_109) u_73 _ _ hR hP hD hS dX5_tear_146
            · have c_118 : ¬ (0 ≤ (lg_cmp r_109 (1 : Int64))) := c_118
              have hR := hR.trans (if_neg c_118)
              refine lv_lconst (v := (0 : Int64)) hx hb dX5_tear_121 (by decide) ?_
              exact hret _ _ (0 : Int64) u_73 _ _ hR hP hD hS dX5_tear_122
        · have c_59 : ((0 : Int32) = 0) := c_59
          have hR := hR.trans (if_pos c_59)
          refine lv_ldc2 (v := (-1000000000000000002 : Int64)) hx hb hown (hts (.constantLong RX5 197 (-1000000000000000002)) (List.mem_of_getElem? (i := 1) rfl)) dX5_tear_62 ?_
          exact hret _ _ (-1000000000000000002 : Int64) ch _ _ hR hP hD hS dX5_tear_65
      · have c_27 : ¬ (r_24 = 0) := c_27
        have hR := hR.trans (if_neg c_27)
        refine lv_iload hx hb dX5_tear_30 (lv_at hl 4 rfl) ?_
        refine lv_iconst (v := (0 : Int32)) hx hb dX5_tear_32 (by decide) ?_
        refine lv_iconst (v := (1 : Int32)) hx hb dX5_tear_33 (by decide) ?_
        have hr := mrS (p := p) (e := e) (R := rm_X5_tear) (below := below) (meth := meth) (H := H) (locs := locs) (ls := ls) (As := [.int xw, .int (0 : Int32), .int (1 : Int32)]) (rest := []) (c_X5_isWithin l δ cI cJ cZ xw (0 : Int32) (1 : Int32)) hx hb hml hts hown hK hNW hP hD [] rfl rfl (va_cwS 3 hts gX5_tear_X5_isWithin rfl rfl rfl (by decide +kernel) ⟨(Nat.le_of_ble_eq_true rfl), (Nat.le_of_ble_eq_true rfl)⟩) rfl hl.1 rfl (Nat.le_of_ble_eq_true rfl) dX5_tear_34
        refine mc_i (wr := ((wG  aG0 aK0 aE0 aF0 aP0 aD0 aM0 aC0 gg) ++ (wC cJ aC0 aC1 ch))) hr hP hD hS hA [] [0, 1, 2] [0, 1, 2] rfl rfl rfl rfl rfl (wn := fun _ => ((wG  aG0 aK0 aE0 aF0 aP0 aD0 aM0 aC0 gg) ++ (wC cJ aC0 aC1 ch))) (fun _ => rfl) (fun r_34 _ H locs hw_34 hP hD hS => ?_)
        obtain ⟨hw_34, z_34⟩ := hw_34
        have hP : va_P δ vwCl ((wG  aG0 aK0 aE0 aF0 aP0 aD0 aM0 aC0 gg) ++ (wC cJ aC0 aC1 ch)) H := hP
        have hD : va_D A ((wG  aG0 aK0 aE0 aF0 aP0 aD0 aM0 aC0 gg) ++ (wC cJ aC0 aC1 ch)) := hD
        have hR := bnd_eq hR hw_34.symm
        refine lv_if_eq (tgt := 54) hx hb dX5_tear_37 (by decide) (fun c_37 => ?_) (fun c_37 => ?_)
        · have c_37 : (r_34 = 0) := c_37
          have hR := hR.trans (if_pos c_37)
          refine lv_iconst (v := (0 : Int32)) hx hb dX5_tear_54 (by decide) ?_
          refine lv_istore (lv' := [(6, .int (0 : Int32)), (0, .ref aG0), (1, .int xn), (2, .int xm), (3, .int xt), (4, .int xw), (5, .int xp)]) hx hb dX5_tear_55 hl (by decide) rfl (fun ls hl => ?_)
          refine lv_iload hx hb dX5_tear_57 (lv_at hl 0 rfl) ?_
          refine lv_if_ne (tgt := 66) hx hb dX5_tear_59 (by decide) (fun c_59 => ?_) (fun c_59 => ?_)
          · have c_59 : ¬ ((0 : Int32) = 0) := c_59
            have hR := hR.trans (if_neg c_59)
            refine lv_aload_n hx hb dX5_tear_66 rfl (lv_at hl 1 rfl) ?_
            refine va_get (D := δ) (ci := 5) (v := .ref aC0) (C := RX5) (T := TX5) (N := 9) hx hb hts hinX5 hown hK hP 0 rfl rfl 8 (by decide) (hts (.fieldLink RX5 46 "GloveHours" "chances" "LGloveHours$Chances;") (List.mem_of_getElem? (i := 2) rfl)) (fun _ h9 => h9) rfl dX5_tear_67 ?_
            refine lv_iload_n hx hb dX5_tear_70 rfl (lv_at hl 2 rfl) ?_
            refine lv_iload_n hx hb dX5_tear_71 rfl (lv_at hl 3 rfl) ?_
            refine lv_iload_n hx hb dX5_tear_72 rfl (lv_at hl 4 rfl) ?_
            have hr := mrV (p := p) (e := e) (R := rm_X5_tear) (below := below) (meth := meth) (H := H) (locs := locs) (ls := ls) (As := [.int xn, .int xm, .int xt]) (rest := []) (c_X0_run l δ cI cJ cZ aC0 aC1 ch xn xm xt) hx hb hml hts hown hK hNW hP hD [1, 2] rfl rfl 0 0 rfl rfl (cwV 3 hts gX5_tear_X0_run rfl rfl rfl (by decide +kernel) ⟨(Nat.le_of_ble_eq_true rfl), (Nat.le_of_ble_eq_true rfl)⟩) rfl hl.1 rfl (Nat.le_of_ble_eq_true rfl) dX5_tear_73
            refine mc_v (wr := (wG  aG0 aK0 aE0 aF0 aP0 aD0 aM0 aC0 gg)) hr hP hD hS hA [1, 2] [0] [0, 1, 2] rfl rfl rfl rfl rfl (wn := fun u_73 => ((wG  aG0 aK0 aE0 aF0 aP0 aD0 aM0 aC0 gg) ++ (wC cJ aC0 aC1 u_73))) (fun _ => rfl) (fun u_73 H locs hw_73 hP hD hS => ?_)
            have hP : va_P δ vwCl ((wG  aG0 aK0 aE0 aF0 aP0 aD0 aM0 aC0 gg) ++ (wC cJ aC0 aC1 u_73)) H := hP
            have hD : va_D A ((wG  aG0 aK0 aE0 aF0 aP0 aD0 aM0 aC0 gg) ++ (wC cJ aC0 aC1 u_73)) := hD
            have hR := bnd_eq hR hw_73.symm
            refine lv_iload hx hb dX5_tear_76 (lv_at hl 5 rfl) ?_
            refine lv_if_ne (tgt := 91) hx hb dX5_tear_78 (by decide) (fun c_78 => ?_) (fun c_78 => ?_)
            · have c_78 : ¬ (xw = 0) := c_78
              have hR := hR.trans (if_neg c_78)
              refine lv_aload_n hx hb dX5_tear_91 rfl (lv_at hl 1 rfl) ?_
              refine va_get (D := δ) (ci := 5) (v := .ref aC0) (C := RX5) (T := TX5) (N := 9) hx hb hts hinX5 hown hK hP 0 rfl rfl 8 (by decide) (hts (.fieldLink RX5 46 "GloveHours" "chances" "LGloveHours$Chances;") (List.mem_of_getElem? (i := 2) rfl)) (fun _ h9 => h9) rfl dX5_tear_92 ?_
              refine va_get (D := δ) (ci := 0) (v := .long (cDeedsDone u_73)) (C := RX0) (T := TX0) (N := 3) hx hb hts hinX0 hown hK hP 1 rfl rfl 1 (by decide) (hts (.fieldLink RX5 207 "GloveHours$Chances" "deedsDone" "J") (List.mem_of_getElem? (i := 3) rfl)) (fun _ h9 => h9) rfl dX5_tear_95 ?_
              refine lv_lstore (lv' := [(7, .long (cDeedsDone u_73)), (6, .int (0 : Int32)), (0, .ref aG0), (1, .int xn), (2, .int xm), (3, .int xt), (4, .int xw), (5, .int xp)]) hx hb dX5_tear_98 hl (by decide) rfl (fun ls hl => ?_)
              refine lv_lload hx hb dX5_tear_100 (lv_at hl 0 rfl) ?_
              refine lv_aload_n hx hb dX5_tear_102 rfl (lv_at hl 2 rfl) ?_
              refine va_get (D := δ) (ci := 5) (v := .ref aC0) (C := RX5) (T := TX5) (N := 9) hx hb hts hinX5 hown hK hP 0 rfl rfl 8 (by decide) (hts (.fieldLink RX5 46 "GloveHours" "chances" "LGloveHours$Chances;") (List.mem_of_getElem? (i := 2) rfl)) (fun _ h9 => h9) rfl dX5_tear_103 ?_
              refine va_get (D := δ) (ci := 0) (v := .long (cWhole u_73)) (C := RX0) (T := TX0) (N := 3) hx hb hts hinX0 hown hK hP 1 rfl rfl 0 (by decide) (hts (.fieldLink RX5 211 "GloveHours$Chances" "whole" "J") (List.mem_of_getElem? (i := 4) rfl)) (fun _ h9 => h9) rfl dX5_tear_106 ?_
              have hr := mrS (p := p) (e := e) (R := rm_X5_tear) (below := below) (meth := meth) (H := H) (locs := locs) (ls := ls) (As := [.long (cDeedsDone u_73), .long (cWhole u_73)]) (rest := []) (c_X5_commonDivisor l δ cI cJ cZ (cDeedsDone u_73) (cWhole u_73)) hx hb hml hts hown hK hNW hP hD [] rfl rfl (va_cwS 2 hts gX5_tear_X5_commonDivisor rfl rfl rfl (by decide +kernel) ⟨(Nat.le_of_ble_eq_true rfl), (Nat.le_of_ble_eq_true rfl)⟩) rfl hl.1 rfl (Nat.le_of_ble_eq_true rfl) dX5_tear_109
              refine mc_l (wr := ((wG  aG0 aK0 aE0 aF0 aP0 aD0 aM0 aC0 gg) ++ (wC cJ aC0 aC1 u_73))) hr hP hD hS hA [] [0, 1, 2] [0, 1, 2] rfl rfl rfl rfl rfl (wn := fun _ => ((wG  aG0 aK0 aE0 aF0 aP0 aD0 aM0 aC0 gg) ++ (wC cJ aC0 aC1 u_73))) (fun _ => rfl) (fun r_109 _ H locs hw_109 hP hD hS => ?_)
              have hP : va_P δ vwCl ((wG  aG0 aK0 aE0 aF0 aP0 aD0 aM0 aC0 gg) ++ (wC cJ aC0 aC1 u_73)) H := hP
              have hD : va_D A ((wG  aG0 aK0 aE0 aF0 aP0 aD0 aM0 aC0 gg) ++ (wC cJ aC0 aC1 u_73)) := hD
              have hR := bnd_eq hR hw_109.symm
              refine lv_lstore (lv' := [(9, .long r_109), (7, .long (cDeedsDone u_73)), (6, .int (0 : Int32)), (0, .ref aG0), (1, .int xn), (2, .int xm), (3, .int xt), (4, .int xw), (5, .int xp)]) hx hb dX5_tear_112 hl (by decide) rfl (fun ls hl => ?_)
              refine lv_lload hx hb dX5_tear_114 (lv_at hl 0 rfl) ?_
              refine lv_lconst (v := (1 : Int64)) hx hb dX5_tear_116 (by decide) ?_
              refine W.lcmp hx hb dX5_tear_117 ?_
              refine lv_if_ge (tgt := 123) hx hb dX5_tear_118 (by decide) (fun c_118 => ?_) (fun c_118 => ?_)
              · have c_118 : (0 ≤ (lg_cmp r_109 (1 : Int64))) := c_118
                have hR := hR.trans (if_pos c_118)
                refine lv_iload hx hb dX5_tear_123 (lv_at hl 8 rfl) ?_
                refine lv_if_ne (tgt := 136) hx hb dX5_tear_125 (by decide) (fun c_125 => ?_) (fun c_125 => ?_)
                · have c_125 : ¬ (xp = 0) := c_125
                  have hR := hR.trans (if_neg c_125)
                  refine lv_aload_n hx hb dX5_tear_136 rfl (lv_at hl 3 rfl) ?_
                  refine va_get (D := δ) (ci := 5) (v := .ref aC0) (C := RX5) (T := TX5) (N := 9) hx hb hts hinX5 hown hK hP 0 rfl rfl 8 (by decide) (hts (.fieldLink RX5 46 "GloveHours" "chances" "LGloveHours$Chances;") (List.mem_of_getElem? (i := 2) rfl)) (fun _ h9 => h9) rfl dX5_tear_137 ?_
                  refine va_get (D := δ) (ci := 0) (v := .long (cWhole u_73)) (C := RX0) (T := TX0) (N := 3) hx hb hts hinX0 hown hK hP 1 rfl rfl 0 (by decide) (hts (.fieldLink RX5 211 "GloveHours$Chances" "whole" "J") (List.mem_of_getElem? (i := 4) rfl)) (fun _ h9 => h9) rfl dX5_tear_140 ?_
                  refine lv_lload hx hb dX5_tear_143 (lv_at hl 0 rfl) ?_
                  refine lv_ldiv hx hb dX5_tear_145 (lg_ne1 c_118) ?_
                  exact hret _ _ ((cWhole u_73) / r_109) u_73 _ _ hR hP hD hS dX5_tear_146
                · have c_125 : (xp = 0) := c_125
                  have hR := hR.trans (if_pos c_125)
                  refine lv_lload hx hb dX5_tear_128 (lv_at hl 1 rfl) ?_
                  refine lv_lload hx hb dX5_tear_130 (lv_at hl 0 rfl) ?_
                  refine lv_ldiv hx hb dX5_tear_132 (lg_ne1 c_118) ?_
                  refine lv_goto (tgt := 146) hx hb dX5_tear_133 (by decide) ?_
                  exact hret _ _ ((cDeedsDone u_73) / r_109) u_73 _ _ hR hP hD hS dX5_tear_146
              · have c_118 : ¬ (0 ≤ (lg_cmp r_109 (1 : Int64))) := c_118
                have hR := hR.trans (if_neg c_118)
                refine lv_lconst (v := (0 : Int64)) hx hb dX5_tear_121 (by decide) ?_
                exact hret _ _ (0 : Int64) u_73 _ _ hR hP hD hS dX5_tear_122
            · have c_78 : (xw = 0) := c_78
              have hR := hR.trans (if_pos c_78)
              refine lv_aload_n hx hb dX5_tear_81 rfl (lv_at hl 1 rfl) ?_
              refine va_get (D := δ) (ci := 5) (v := .ref aC0) (C := RX5) (T := TX5) (N := 9) hx hb hts hinX5 hown hK hP 0 rfl rfl 8 (by decide) (hts (.fieldLink RX5 46 "GloveHours" "chances" "LGloveHours$Chances;") (List.mem_of_getElem? (i := 2) rfl)) (fun _ h9 => h9) rfl dX5_tear_82 ?_
              have hr := mrV (p := p) (e := e) (R := rm_X5_tear) (below := below) (meth := meth) (H := H) (locs := locs) (ls := ls) (As := []) (rest := []) (c_X0_someLeft l δ cI cJ cZ aC0 aC1 u_73) hx hb hml hts hown hK hNW hP hD [1, 2] rfl rfl 0 0 rfl rfl (cwV 0 hts gX5_tear_X0_someLeft rfl rfl rfl (by decide +kernel) ⟨(Nat.le_of_ble_eq_true rfl), (Nat.le_of_ble_eq_true rfl)⟩) rfl hl.1 rfl (Nat.le_of_ble_eq_true rfl) dX5_tear_85
              refine mc_l (wr := (wG  aG0 aK0 aE0 aF0 aP0 aD0 aM0 aC0 gg)) hr hP hD hS hA [1, 2] [0] [0, 1, 2] rfl rfl rfl rfl rfl (wn := fun _ => ((wG  aG0 aK0 aE0 aF0 aP0 aD0 aM0 aC0 gg) ++ (wC cJ aC0 aC1 u_73))) (fun _ => rfl) (fun r_85 _ H locs hw_85 hP hD hS => ?_)
              have hP : va_P δ vwCl ((wG  aG0 aK0 aE0 aF0 aP0 aD0 aM0 aC0 gg) ++ (wC cJ aC0 aC1 u_73)) H := hP
              have hD : va_D A ((wG  aG0 aK0 aE0 aF0 aP0 aD0 aM0 aC0 gg) ++ (wC cJ aC0 aC1 u_73)) := hD
              have hR := bnd_eq hR hw_85.symm
              refine lv_goto (tgt := 98) hx hb dX5_tear_88 (by decide) ?_
              refine lv_lstore (lv' := [(7, .long r_85), (6, .int (0 : Int32)), (0, .ref aG0), (1, .int xn), (2, .int xm), (3, .int xt), (4, .int xw), (5, .int xp)]) hx hb dX5_tear_98 hl (by decide) rfl (fun ls hl => ?_)
              refine lv_lload hx hb dX5_tear_100 (lv_at hl 0 rfl) ?_
              refine lv_aload_n hx hb dX5_tear_102 rfl (lv_at hl 2 rfl) ?_
              refine va_get (D := δ) (ci := 5) (v := .ref aC0) (C := RX5) (T := TX5) (N := 9) hx hb hts hinX5 hown hK hP 0 rfl rfl 8 (by decide) (hts (.fieldLink RX5 46 "GloveHours" "chances" "LGloveHours$Chances;") (List.mem_of_getElem? (i := 2) rfl)) (fun _ h9 => h9) rfl dX5_tear_103 ?_
              refine va_get (D := δ) (ci := 0) (v := .long (cWhole u_73)) (C := RX0) (T := TX0) (N := 3) hx hb hts hinX0 hown hK hP 1 rfl rfl 0 (by decide) (hts (.fieldLink RX5 211 "GloveHours$Chances" "whole" "J") (List.mem_of_getElem? (i := 4) rfl)) (fun _ h9 => h9) rfl dX5_tear_106 ?_
              have hr := mrS (p := p) (e := e) (R := rm_X5_tear) (below := below) (meth := meth) (H := H) (locs := locs) (ls := ls) (As := [.long r_85, .long (cWhole u_73)]) (rest := []) (c_X5_commonDivisor l δ cI cJ cZ r_85 (cWhole u_73)) hx hb hml hts hown hK hNW hP hD [] rfl rfl (va_cwS 2 hts gX5_tear_X5_commonDivisor rfl rfl rfl (by decide +kernel) ⟨(Nat.le_of_ble_eq_true rfl), (Nat.le_of_ble_eq_true rfl)⟩) rfl hl.1 rfl (Nat.le_of_ble_eq_true rfl) dX5_tear_109
              refine mc_l (wr := ((wG  aG0 aK0 aE0 aF0 aP0 aD0 aM0 aC0 gg) ++ (wC cJ aC0 aC1 u_73))) hr hP hD hS hA [] [0, 1, 2] [0, 1, 2] rfl rfl rfl rfl rfl (wn := fun _ => ((wG  aG0 aK0 aE0 aF0 aP0 aD0 aM0 aC0 gg) ++ (wC cJ aC0 aC1 u_73))) (fun _ => rfl) (fun r_109 _ H locs hw_109 hP hD hS => ?_)
              have hP : va_P δ vwCl ((wG  aG0 aK0 aE0 aF0 aP0 aD0 aM0 aC0 gg) ++ (wC cJ aC0 aC1 u_73)) H := hP
              have hD : va_D A ((wG  aG0 aK0 aE0 aF0 aP0 aD0 aM0 aC0 gg) ++ (wC cJ aC0 aC1 u_73)) := hD
              have hR := bnd_eq hR hw_109.symm
              refine lv_lstore (lv' := [(9, .long r_109), (7, .long r_85), (6, .int (0 : Int32)), (0, .ref aG0), (1, .int xn), (2, .int xm), (3, .int xt), (4, .int xw), (5, .int xp)]) hx hb dX5_tear_112 hl (by decide) rfl (fun ls hl => ?_)
              refine lv_lload hx hb dX5_tear_114 (lv_at hl 0 rfl) ?_
              refine lv_lconst (v := (1 : Int64)) hx hb dX5_tear_116 (by decide) ?_
              refine W.lcmp hx hb dX5_tear_117 ?_
              refine lv_if_ge (tgt := 123) hx hb dX5_tear_118 (by decide) (fun c_118 => ?_) (fun c_118 => ?_)
              · have c_118 : (0 ≤ (lg_cmp r_109 (1 : Int64))) := c_118
                have hR := hR.trans (if_pos c_118)
                refine lv_iload hx hb dX5_tear_123 (lv_at hl 8 rfl) ?_
                refine lv_if_ne (tgt := 136) hx hb dX5_tear_125 (by decide) (fun c_125 => ?_) (fun c_125 => ?_)
                · have c_125 : ¬ (xp = 0) := c_125
                  have hR := hR.trans (if_neg c_125)
                  refine lv_aload_n hx hb dX5_tear_136 rfl (lv_at hl 3 rfl) ?_
                  refine va_get (D := δ) (ci := 5) (v := .ref aC0) (C := RX5) (T := TX5) (N := 9) hx hb hts hinX5 hown hK hP 0 rfl rfl 8 (by decide) (hts (.fieldLink RX5 46 "GloveHours" "chances" "LGloveHours$Chances;") (List.mem_of_getElem? (i := 2) rfl)) (fun _ h9 => h9) rfl dX5_tear_137 ?_
                  refine va_get (D := δ) (ci := 0) (v := .long (cWhole u_73)) (C := RX0) (T := TX0) (N := 3) hx hb hts hinX0 hown hK hP 1 rfl rfl 0 (by decide) (hts (.fieldLink RX5 211 "GloveHours$Chances" "whole" "J") (List.mem_of_getElem? (i := 4) rfl)) (fun _ h9 => h9) rfl dX5_tear_140 ?_
                  refine lv_lload hx hb dX5_tear_143 (lv_at hl 0 rfl) ?_
                  refine lv_ldiv hx hb dX5_tear_145 (lg_ne1 c_118) ?_
                  exact hret _ _ ((cWhole u_73) / r_109) u_73 _ _ hR hP hD hS dX5_tear_146
                · have c_125 : (xp = 0) := c_125
                  have hR := hR.trans (if_pos c_125)
                  refine lv_lload hx hb dX5_tear_128 (lv_at hl 1 rfl) ?_
                  refine lv_lload hx hb dX5_tear_130 (lv_at hl 0 rfl) ?_
                  refine lv_ldiv hx hb dX5_tear_132 (lg_ne1 c_118) ?_
                  refine lv_goto (tgt := 146) hx hb dX5_tear_133 (by decide) ?_
                  exact hret _ _ (r_85 / r_109) u_73 _ _ hR hP hD hS dX5_tear_146
              · have c_118 : ¬ (0 ≤ (lg_cmp r_109 (1 : Int64))) := c_118
                have hR := hR.trans (if_neg c_118)
                refine lv_lconst (v := (0 : Int64)) hx hb dX5_tear_121 (by decide) ?_
                exact hret _ _ (0 : Int64) u_73 _ _ hR hP hD hS dX5_tear_122
          · have c_59 : ((0 : Int32) = 0) := c_59
            have hR := hR.trans (if_pos c_59)
            refine lv_ldc2 (v := (-1000000000000000002 : Int64)) hx hb hown (hts (.constantLong RX5 197 (-1000000000000000002)) (List.mem_of_getElem? (i := 1) rfl)) dX5_tear_62 ?_
            exact hret _ _ (-1000000000000000002 : Int64) ch _ _ hR hP hD hS dX5_tear_65
        · have c_37 : ¬ (r_34 = 0) := c_37
          have hR := hR.trans (if_neg c_37)
          refine lv_iload hx hb dX5_tear_40 (lv_at hl 5 rfl) ?_
          refine lv_iconst (v := (0 : Int32)) hx hb dX5_tear_42 (by decide) ?_
          refine lv_iconst (v := (1 : Int32)) hx hb dX5_tear_43 (by decide) ?_
          have hr := mrS (p := p) (e := e) (R := rm_X5_tear) (below := below) (meth := meth) (H := H) (locs := locs) (ls := ls) (As := [.int xp, .int (0 : Int32), .int (1 : Int32)]) (rest := []) (c_X5_isWithin l δ cI cJ cZ xp (0 : Int32) (1 : Int32)) hx hb hml hts hown hK hNW hP hD [] rfl rfl (va_cwS 3 hts gX5_tear_X5_isWithin rfl rfl rfl (by decide +kernel) ⟨(Nat.le_of_ble_eq_true rfl), (Nat.le_of_ble_eq_true rfl)⟩) rfl hl.1 rfl (Nat.le_of_ble_eq_true rfl) dX5_tear_44
          refine mc_i (wr := ((wG  aG0 aK0 aE0 aF0 aP0 aD0 aM0 aC0 gg) ++ (wC cJ aC0 aC1 ch))) hr hP hD hS hA [] [0, 1, 2] [0, 1, 2] rfl rfl rfl rfl rfl (wn := fun _ => ((wG  aG0 aK0 aE0 aF0 aP0 aD0 aM0 aC0 gg) ++ (wC cJ aC0 aC1 ch))) (fun _ => rfl) (fun r_44 _ H locs hw_44 hP hD hS => ?_)
          obtain ⟨hw_44, z_44⟩ := hw_44
          have hP : va_P δ vwCl ((wG  aG0 aK0 aE0 aF0 aP0 aD0 aM0 aC0 gg) ++ (wC cJ aC0 aC1 ch)) H := hP
          have hD : va_D A ((wG  aG0 aK0 aE0 aF0 aP0 aD0 aM0 aC0 gg) ++ (wC cJ aC0 aC1 ch)) := hD
          have hR := bnd_eq hR hw_44.symm
          refine lv_if_eq (tgt := 54) hx hb dX5_tear_47 (by decide) (fun c_47 => ?_) (fun c_47 => ?_)
          · have c_47 : (r_44 = 0) := c_47
            have hR := hR.trans (if_pos c_47)
            refine lv_iconst (v := (0 : Int32)) hx hb dX5_tear_54 (by decide) ?_
            refine lv_istore (lv' := [(6, .int (0 : Int32)), (0, .ref aG0), (1, .int xn), (2, .int xm), (3, .int xt), (4, .int xw), (5, .int xp)]) hx hb dX5_tear_55 hl (by decide) rfl (fun ls hl => ?_)
            refine lv_iload hx hb dX5_tear_57 (lv_at hl 0 rfl) ?_
            refine lv_if_ne (tgt := 66) hx hb dX5_tear_59 (by decide) (fun c_59 => ?_) (fun c_59 => ?_)
            · have c_59 : ¬ ((0 : Int32) = 0) := c_59
              have hR := hR.trans (if_neg c_59)
              refine lv_aload_n hx hb dX5_tear_66 rfl (lv_at hl 1 rfl) ?_
              refine va_get (D := δ) (ci := 5) (v := .ref aC0) (C := RX5) (T := TX5) (N := 9) hx hb hts hinX5 hown hK hP 0 rfl rfl 8 (by decide) (hts (.fieldLink RX5 46 "GloveHours" "chances" "LGloveHours$Chances;") (List.mem_of_getElem? (i := 2) rfl)) (fun _ h9 => h9) rfl dX5_tear_67 ?_
              refine lv_iload_n hx hb dX5_tear_70 rfl (lv_at hl 2 rfl) ?_
              refine lv_iload_n hx hb dX5_tear_71 rfl (lv_at hl 3 rfl) ?_
              refine lv_iload_n hx hb dX5_tear_72 rfl (lv_at hl 4 rfl) ?_
              have hr := mrV (p := p) (e := e) (R := rm_X5_tear) (below := below) (meth := meth) (H := H) (locs := locs) (ls := ls) (As := [.int xn, .int xm, .int xt]) (rest := []) (c_X0_run l δ cI cJ cZ aC0 aC1 ch xn xm xt) hx hb hml hts hown hK hNW hP hD [1, 2] rfl rfl 0 0 rfl rfl (cwV 3 hts gX5_tear_X0_run rfl rfl rfl (by decide +kernel) ⟨(Nat.le_of_ble_eq_true rfl), (Nat.le_of_ble_eq_true rfl)⟩) rfl hl.1 rfl (Nat.le_of_ble_eq_true rfl) dX5_tear_73
              refine mc_v (wr := (wG  aG0 aK0 aE0 aF0 aP0 aD0 aM0 aC0 gg)) hr hP hD hS hA [1, 2] [0] [0, 1, 2] rfl rfl rfl rfl rfl (wn := fun u_73 => ((wG  aG0 aK0 aE0 aF0 aP0 aD0 aM0 aC0 gg) ++ (wC cJ aC0 aC1 u_73))) (fun _ => rfl) (fun u_73 H locs hw_73 hP hD hS => ?_)
              have hP : va_P δ vwCl ((wG  aG0 aK0 aE0 aF0 aP0 aD0 aM0 aC0 gg) ++ (wC cJ aC0 aC1 u_73)) H := hP
              have hD : va_D A ((wG  aG0 aK0 aE0 aF0 aP0 aD0 aM0 aC0 gg) ++ (wC cJ aC0 aC1 u_73)) := hD
              have hR := bnd_eq hR hw_73.symm
              refine lv_iload hx hb dX5_tear_76 (lv_at hl 5 rfl) ?_
              refine lv_if_ne (tgt := 91) hx hb dX5_tear_78 (by decide) (fun c_78 => ?_) (fun c_78 => ?_)
              · have c_78 : ¬ (xw = 0) := c_78
                have hR := hR.trans (if_neg c_78)
                refine lv_aload_n hx hb dX5_tear_91 rfl (lv_at hl 1 rfl) ?_
                refine va_get (D := δ) (ci := 5) (v := .ref aC0) (C := RX5) (T := TX5) (N := 9) hx hb hts hinX5 hown hK hP 0 rfl rfl 8 (by decide) (hts (.fieldLink RX5 46 "GloveHours" "chances" "LGloveHours$Chances;") (List.mem_of_getElem? (i := 2) rfl)) (fun _ h9 => h9) rfl dX5_tear_92 ?_
                refine va_get (D := δ) (ci := 0) (v := .long (cDeedsDone u_73)) (C := RX0) (T := TX0) (N := 3) hx hb hts hinX0 hown hK hP 1 rfl rfl 1 (by decide) (hts (.fieldLink RX5 207 "GloveHours$Chances" "deedsDone" "J") (List.mem_of_getElem? (i := 3) rfl)) (fun _ h9 => h9) rfl dX5_tear_95 ?_
                refine lv_lstore (lv' := [(7, .long (cDeedsDone u_73)), (6, .int (0 : Int32)), (0, .ref aG0), (1, .int xn), (2, .int xm), (3, .int xt), (4, .int xw), (5, .int xp)]) hx hb dX5_tear_98 hl (by decide) rfl (fun ls hl => ?_)
                refine lv_lload hx hb dX5_tear_100 (lv_at hl 0 rfl) ?_
                refine lv_aload_n hx hb dX5_tear_102 rfl (lv_at hl 2 rfl) ?_
                refine va_get (D := δ) (ci := 5) (v := .ref aC0) (C := RX5) (T := TX5) (N := 9) hx hb hts hinX5 hown hK hP 0 rfl rfl 8 (by decide) (hts (.fieldLink RX5 46 "GloveHours" "chances" "LGloveHours$Chances;") (List.mem_of_getElem? (i := 2) rfl)) (fun _ h9 => h9) rfl dX5_tear_103 ?_
                refine va_get (D := δ) (ci := 0) (v := .long (cWhole u_73)) (C := RX0) (T := TX0) (N := 3) hx hb hts hinX0 hown hK hP 1 rfl rfl 0 (by decide) (hts (.fieldLink RX5 211 "GloveHours$Chances" "whole" "J") (List.mem_of_getElem? (i := 4) rfl)) (fun _ h9 => h9) rfl dX5_tear_106 ?_
                have hr := mrS (p := p) (e := e) (R := rm_X5_tear) (below := below) (meth := meth) (H := H) (locs := locs) (ls := ls) (As := [.long (cDeedsDone u_73), .long (cWhole u_73)]) (rest := []) (c_X5_commonDivisor l δ cI cJ cZ (cDeedsDone u_73) (cWhole u_73)) hx hb hml hts hown hK hNW hP hD [] rfl rfl (va_cwS 2 hts gX5_tear_X5_commonDivisor rfl rfl rfl (by decide +kernel) ⟨(Nat.le_of_ble_eq_true rfl), (Nat.le_of_ble_eq_true rfl)⟩) rfl hl.1 rfl (Nat.le_of_ble_eq_true rfl) dX5_tear_109
                refine mc_l (wr := ((wG  aG0 aK0 aE0 aF0 aP0 aD0 aM0 aC0 gg) ++ (wC cJ aC0 aC1 u_73))) hr hP hD hS hA [] [0, 1, 2] [0, 1, 2] rfl rfl rfl rfl rfl (wn := fun _ => ((wG  aG0 aK0 aE0 aF0 aP0 aD0 aM0 aC0 gg) ++ (wC cJ aC0 aC1 u_73))) (fun _ => rfl) (fun r_109 _ H locs hw_109 hP hD hS => ?_)
                have hP : va_P δ vwCl ((wG  aG0 aK0 aE0 aF0 aP0 aD0 aM0 aC0 gg) ++ (wC cJ aC0 aC1 u_73)) H := hP
                have hD : va_D A ((wG  aG0 aK0 aE0 aF0 aP0 aD0 aM0 aC0 gg) ++ (wC cJ aC0 aC1 u_73)) := hD
                have hR := bnd_eq hR hw_109.symm
                refine lv_lstore (lv' := [(9, .long r_109), (7, .long (cDeedsDone u_73)), (6, .int (0 : Int32)), (0, .ref aG0), (1, .int xn), (2, .int xm), (3, .int xt), (4, .int xw), (5, .int xp)]) hx hb dX5_tear_112 hl (by decide) rfl (fun ls hl => ?_)
                refine lv_lload hx hb dX5_tear_114 (lv_at hl 0 rfl) ?_
                refine lv_lconst (v := (1 : Int64)) hx hb dX5_tear_116 (by decide) ?_
                refine W.lcmp hx hb dX5_tear_117 ?_
                refine lv_if_ge (tgt := 123) hx hb dX5_tear_118 (by decide) (fun c_118 => ?_) (fun c_118 => ?_)
                · have c_118 : (0 ≤ (lg_cmp r_109 (1 : Int64))) := c_118
                  have hR := hR.trans (if_pos c_118)
                  refine lv_iload hx hb dX5_tear_123 (lv_at hl 8 rfl) ?_
                  refine lv_if_ne (tgt := 136) hx hb dX5_tear_125 (by decide) (fun c_125 => ?_) (fun c_125 => ?_)
                  · have c_125 : ¬ (xp = 0) := c_125
                    have hR := hR.trans (if_neg c_125)
                    refine lv_aload_n hx hb dX5_tear_136 rfl (lv_at hl 3 rfl) ?_
                    refine va_get (D := δ) (ci := 5) (v := .ref aC0) (C := RX5) (T := TX5) (N := 9) hx hb hts hinX5 hown hK hP 0 rfl rfl 8 (by decide) (hts (.fieldLink RX5 46 "GloveHours" "chances" "LGloveHours$Chances;") (List.mem_of_getElem? (i := 2) rfl)) (fun _ h9 => h9) rfl dX5_tear_137 ?_
                    refine va_get (D := δ) (ci := 0) (v := .long (cWhole u_73)) (C := RX0) (T := TX0) (N := 3) hx hb hts hinX0 hown hK hP 1 rfl rfl 0 (by decide) (hts (.fieldLink RX5 211 "GloveHours$Chances" "whole" "J") (List.mem_of_getElem? (i := 4) rfl)) (fun _ h9 => h9) rfl dX5_tear_140 ?_
                    refine lv_lload hx hb dX5_tear_143 (lv_at hl 0 rfl) ?_
                    refine lv_ldiv hx hb dX5_tear_145 (lg_ne1 c_118) ?_
                    exact hret _ _ ((cWhole u_73) / r_109) u_73 _ _ hR hP hD hS dX5_tear_146
                  · have c_125 : (xp = 0) := c_125
                    have hR := hR.trans (if_pos c_125)
                    refine lv_lload hx hb dX5_tear_128 (lv_at hl 1 rfl) ?_
                    refine lv_lload hx hb dX5_tear_130 (lv_at hl 0 rfl) ?_
                    refine lv_ldiv hx hb dX5_tear_132 (lg_ne1 c_118) ?_
                    refine lv_goto (tgt := 146) hx hb dX5_tear_133 (by decide) ?_
                    exact hret _ _ ((cDeedsDone u_73) / r_109) u_73 _ _ hR hP hD hS dX5_tear_146
                · have c_118 : ¬ (0 ≤ (lg_cmp r_109 (1 : Int64))) := c_118
                  have hR := hR.trans (if_neg c_118)
                  refine lv_lconst (v := (0 : Int64)) hx hb dX5_tear_121 (by decide) ?_
                  exact hret _ _ (0 : Int64) u_73 _ _ hR hP hD hS dX5_tear_122
              · have c_78 : (xw = 0) := c_78
                have hR := hR.trans (if_pos c_78)
                refine lv_aload_n hx hb dX5_tear_81 rfl (lv_at hl 1 rfl) ?_
                refine va_get (D := δ) (ci := 5) (v := .ref aC0) (C := RX5) (T := TX5) (N := 9) hx hb hts hinX5 hown hK hP 0 rfl rfl 8 (by decide) (hts (.fieldLink RX5 46 "GloveHours" "chances" "LGloveHours$Chances;") (List.mem_of_getElem? (i := 2) rfl)) (fun _ h9 => h9) rfl dX5_tear_82 ?_
                have hr := mrV (p := p) (e := e) (R := rm_X5_tear) (below := below) (meth := meth) (H := H) (locs := locs) (ls := ls) (As := []) (rest := []) (c_X0_someLeft l δ cI cJ cZ aC0 aC1 u_73) hx hb hml hts hown hK hNW hP hD [1, 2] rfl rfl 0 0 rfl rfl (cwV 0 hts gX5_tear_X0_someLeft rfl rfl rfl (by decide +kernel) ⟨(Nat.le_of_ble_eq_true rfl), (Nat.le_of_ble_eq_true rfl)⟩) rfl hl.1 rfl (Nat.le_of_ble_eq_true rfl) dX5_tear_85
                refine mc_l (wr := (wG  aG0 aK0 aE0 aF0 aP0 aD0 aM0 aC0 gg)) hr hP hD hS hA [1, 2] [0] [0, 1, 2] rfl rfl rfl rfl rfl (wn := fun _ => ((wG  aG0 aK0 aE0 aF0 aP0 aD0 aM0 aC0 gg) ++ (wC cJ aC0 aC1 u_73))) (fun _ => rfl) (fun r_85 _ H locs hw_85 hP hD hS => ?_)
                have hP : va_P δ vwCl ((wG  aG0 aK0 aE0 aF0 aP0 aD0 aM0 aC0 gg) ++ (wC cJ aC0 aC1 u_73)) H := hP
                have hD : va_D A ((wG  aG0 aK0 aE0 aF0 aP0 aD0 aM0 aC0 gg) ++ (wC cJ aC0 aC1 u_73)) := hD
                have hR := bnd_eq hR hw_85.symm
                refine lv_goto (tgt := 98) hx hb dX5_tear_88 (by decide) ?_
                refine lv_lstore (lv' := [(7, .long r_85), (6, .int (0 : Int32)), (0, .ref aG0), (1, .int xn), (2, .int xm), (3, .int xt), (4, .int xw), (5, .int xp)]) hx hb dX5_tear_98 hl (by decide) rfl (fun ls hl => ?_)
                refine lv_lload hx hb dX5_tear_100 (lv_at hl 0 rfl) ?_
                refine lv_aload_n hx hb dX5_tear_102 rfl (lv_at hl 2 rfl) ?_
                refine va_get (D := δ) (ci := 5) (v := .ref aC0) (C := RX5) (T := TX5) (N := 9) hx hb hts hinX5 hown hK hP 0 rfl rfl 8 (by decide) (hts (.fieldLink RX5 46 "GloveHours" "chances" "LGloveHours$Chances;") (List.mem_of_getElem? (i := 2) rfl)) (fun _ h9 => h9) rfl dX5_tear_103 ?_
                refine va_get (D := δ) (ci := 0) (v := .long (cWhole u_73)) (C := RX0) (T := TX0) (N := 3) hx hb hts hinX0 hown hK hP 1 rfl rfl 0 (by decide) (hts (.fieldLink RX5 211 "GloveHours$Chances" "whole" "J") (List.mem_of_getElem? (i := 4) rfl)) (fun _ h9 => h9) rfl dX5_tear_106 ?_
                have hr := mrS (p := p) (e := e) (R := rm_X5_tear) (below := below) (meth := meth) (H := H) (locs := locs) (ls := ls) (As := [.long r_85, .long (cWhole u_73)]) (rest := []) (c_X5_commonDivisor l δ cI cJ cZ r_85 (cWhole u_73)) hx hb hml hts hown hK hNW hP hD [] rfl rfl (va_cwS 2 hts gX5_tear_X5_commonDivisor rfl rfl rfl (by decide +kernel) ⟨(Nat.le_of_ble_eq_true rfl), (Nat.le_of_ble_eq_true rfl)⟩) rfl hl.1 rfl (Nat.le_of_ble_eq_true rfl) dX5_tear_109
                refine mc_l (wr := ((wG  aG0 aK0 aE0 aF0 aP0 aD0 aM0 aC0 gg) ++ (wC cJ aC0 aC1 u_73))) hr hP hD hS hA [] [0, 1, 2] [0, 1, 2] rfl rfl rfl rfl rfl (wn := fun _ => ((wG  aG0 aK0 aE0 aF0 aP0 aD0 aM0 aC0 gg) ++ (wC cJ aC0 aC1 u_73))) (fun _ => rfl) (fun r_109 _ H locs hw_109 hP hD hS => ?_)
                have hP : va_P δ vwCl ((wG  aG0 aK0 aE0 aF0 aP0 aD0 aM0 aC0 gg) ++ (wC cJ aC0 aC1 u_73)) H := hP
                have hD : va_D A ((wG  aG0 aK0 aE0 aF0 aP0 aD0 aM0 aC0 gg) ++ (wC cJ aC0 aC1 u_73)) := hD
                have hR := bnd_eq hR hw_109.symm
                refine lv_lstore (lv' := [(9, .long r_109), (7, .long r_85), (6, .int (0 : Int32)), (0, .ref aG0), (1, .int xn), (2, .int xm), (3, .int xt), (4, .int xw), (5, .int xp)]) hx hb dX5_tear_112 hl (by decide) rfl (fun ls hl => ?_)
                refine lv_lload hx hb dX5_tear_114 (lv_at hl 0 rfl) ?_
                refine lv_lconst (v := (1 : Int64)) hx hb dX5_tear_116 (by decide) ?_
                refine W.lcmp hx hb dX5_tear_117 ?_
                refine lv_if_ge (tgt := 123) hx hb dX5_tear_118 (by decide) (fun c_118 => ?_) (fun c_118 => ?_)
                · have c_118 : (0 ≤ (lg_cmp r_109 (1 : Int64))) := c_118
                  have hR := hR.trans (if_pos c_118)
                  refine lv_iload hx hb dX5_tear_123 (lv_at hl 8 rfl) ?_
                  refine lv_if_ne (tgt := 136) hx hb dX5_tear_125 (by decide) (fun c_125 => ?_) (fun c_125 => ?_)
                  · have c_125 : ¬ (xp = 0) := c_125
                    have hR := hR.trans (if_neg c_125)
                    refine lv_aload_n hx hb dX5_tear_136 rfl (lv_at hl 3 rfl) ?_
                    refine va_get (D := δ) (ci := 5) (v := .ref aC0) (C := RX5) (T := TX5) (N := 9) hx hb hts hinX5 hown hK hP 0 rfl rfl 8 (by decide) (hts (.fieldLink RX5 46 "GloveHours" "chances" "LGloveHours$Chances;") (List.mem_of_getElem? (i := 2) rfl)) (fun _ h9 => h9) rfl dX5_tear_137 ?_
                    refine va_get (D := δ) (ci := 0) (v := .long (cWhole u_73)) (C := RX0) (T := TX0) (N := 3) hx hb hts hinX0 hown hK hP 1 rfl rfl 0 (by decide) (hts (.fieldLink RX5 211 "GloveHours$Chances" "whole" "J") (List.mem_of_getElem? (i := 4) rfl)) (fun _ h9 => h9) rfl dX5_tear_140 ?_
                    refine lv_lload hx hb dX5_tear_143 (lv_at hl 0 rfl) ?_
                    refine lv_ldiv hx hb dX5_tear_145 (lg_ne1 c_118) ?_
                    exact hret _ _ ((cWhole u_73) / r_109) u_73 _ _ hR hP hD hS dX5_tear_146
                  · have c_125 : (xp = 0) := c_125
                    have hR := hR.trans (if_pos c_125)
                    refine lv_lload hx hb dX5_tear_128 (lv_at hl 1 rfl) ?_
                    refine lv_lload hx hb dX5_tear_130 (lv_at hl 0 rfl) ?_
                    refine lv_ldiv hx hb dX5_tear_132 (lg_ne1 c_118) ?_
                    refine lv_goto (tgt := 146) hx hb dX5_tear_133 (by decide) ?_
                    exact hret _ _ (r_85 / r_109) u_73 _ _ hR hP hD hS dX5_tear_146
                · have c_118 : ¬ (0 ≤ (lg_cmp r_109 (1 : Int64))) := c_118
                  have hR := hR.trans (if_neg c_118)
                  refine lv_lconst (v := (0 : Int64)) hx hb dX5_tear_121 (by decide) ?_
                  exact hret _ _ (0 : Int64) u_73 _ _ hR hP hD hS dX5_tear_122
            · have c_59 : ((0 : Int32) = 0) := c_59
              have hR := hR.trans (if_pos c_59)
              refine lv_ldc2 (v := (-1000000000000000002 : Int64)) hx hb hown (hts (.constantLong RX5 197 (-1000000000000000002)) (List.mem_of_getElem? (i := 1) rfl)) dX5_tear_62 ?_
              exact hret _ _ (-1000000000000000002 : Int64) ch _ _ hR hP hD hS dX5_tear_65
          · have c_47 : ¬ (r_44 = 0) := c_47
            have hR := hR.trans (if_neg c_47)
            refine lv_iconst (v := (1 : Int32)) hx hb dX5_tear_50 (by decide) ?_
            refine lv_goto (tgt := 55) hx hb dX5_tear_51 (by decide) ?_
            refine lv_istore (lv' := [(6, .int (1 : Int32)), (0, .ref aG0), (1, .int xn), (2, .int xm), (3, .int xt), (4, .int xw), (5, .int xp)]) hx hb dX5_tear_55 hl (by decide) rfl (fun ls hl => ?_)
            refine lv_iload hx hb dX5_tear_57 (lv_at hl 0 rfl) ?_
            refine lv_if_ne (tgt := 66) hx hb dX5_tear_59 (by decide) (fun c_59 => ?_) (fun c_59 => ?_)
            · have c_59 : ¬ ((1 : Int32) = 0) := c_59
              have hR := hR.trans (if_neg c_59)
              refine lv_aload_n hx hb dX5_tear_66 rfl (lv_at hl 1 rfl) ?_
              refine va_get (D := δ) (ci := 5) (v := .ref aC0) (C := RX5) (T := TX5) (N := 9) hx hb hts hinX5 hown hK hP 0 rfl rfl 8 (by decide) (hts (.fieldLink RX5 46 "GloveHours" "chances" "LGloveHours$Chances;") (List.mem_of_getElem? (i := 2) rfl)) (fun _ h9 => h9) rfl dX5_tear_67 ?_
              refine lv_iload_n hx hb dX5_tear_70 rfl (lv_at hl 2 rfl) ?_
              refine lv_iload_n hx hb dX5_tear_71 rfl (lv_at hl 3 rfl) ?_
              refine lv_iload_n hx hb dX5_tear_72 rfl (lv_at hl 4 rfl) ?_
              have hr := mrV (p := p) (e := e) (R := rm_X5_tear) (below := below) (meth := meth) (H := H) (locs := locs) (ls := ls) (As := [.int xn, .int xm, .int xt]) (rest := []) (c_X0_run l δ cI cJ cZ aC0 aC1 ch xn xm xt) hx hb hml hts hown hK hNW hP hD [1, 2] rfl rfl 0 0 rfl rfl (cwV 3 hts gX5_tear_X0_run rfl rfl rfl (by decide +kernel) ⟨(Nat.le_of_ble_eq_true rfl), (Nat.le_of_ble_eq_true rfl)⟩) rfl hl.1 rfl (Nat.le_of_ble_eq_true rfl) dX5_tear_73
              refine mc_v (wr := (wG  aG0 aK0 aE0 aF0 aP0 aD0 aM0 aC0 gg)) hr hP hD hS hA [1, 2] [0] [0, 1, 2] rfl rfl rfl rfl rfl (wn := fun u_73 => ((wG  aG0 aK0 aE0 aF0 aP0 aD0 aM0 aC0 gg) ++ (wC cJ aC0 aC1 u_73))) (fun _ => rfl) (fun u_73 H locs hw_73 hP hD hS => ?_)
              have hP : va_P δ vwCl ((wG  aG0 aK0 aE0 aF0 aP0 aD0 aM0 aC0 gg) ++ (wC cJ aC0 aC1 u_73)) H := hP
              have hD : va_D A ((wG  aG0 aK0 aE0 aF0 aP0 aD0 aM0 aC0 gg) ++ (wC cJ aC0 aC1 u_73)) := hD
              have hR := bnd_eq hR hw_73.symm
              refine lv_iload hx hb dX5_tear_76 (lv_at hl 5 rfl) ?_
              refine lv_if_ne (tgt := 91) hx hb dX5_tear_78 (by decide) (fun c_78 => ?_) (fun c_78 => ?_)
              · have c_78 : ¬ (xw = 0) := c_78
                have hR := hR.trans (if_neg c_78)
                refine lv_aload_n hx hb dX5_tear_91 rfl (lv_at hl 1 rfl) ?_
                refine va_get (D := δ) (ci := 5) (v := .ref aC0) (C := RX5) (T := TX5) (N := 9) hx hb hts hinX5 hown hK hP 0 rfl rfl 8 (by decide) (hts (.fieldLink RX5 46 "GloveHours" "chances" "LGloveHours$Chances;") (List.mem_of_getElem? (i := 2) rfl)) (fun _ h9 => h9) rfl dX5_tear_92 ?_
                refine va_get (D := δ) (ci := 0) (v := .long (cDeedsDone u_73)) (C := RX0) (T := TX0) (N := 3) hx hb hts hinX0 hown hK hP 1 rfl rfl 1 (by decide) (hts (.fieldLink RX5 207 "GloveHours$Chances" "deedsDone" "J") (List.mem_of_getElem? (i := 3) rfl)) (fun _ h9 => h9) rfl dX5_tear_95 ?_
                refine lv_lstore (lv' := [(7, .long (cDeedsDone u_73)), (6, .int (1 : Int32)), (0, .ref aG0), (1, .int xn), (2, .int xm), (3, .int xt), (4, .int xw), (5, .int xp)]) hx hb dX5_tear_98 hl (by decide) rfl (fun ls hl => ?_)
                refine lv_lload hx hb dX5_tear_100 (lv_at hl 0 rfl) ?_
                refine lv_aload_n hx hb dX5_tear_102 rfl (lv_at hl 2 rfl) ?_
                refine va_get (D := δ) (ci := 5) (v := .ref aC0) (C := RX5) (T := TX5) (N := 9) hx hb hts hinX5 hown hK hP 0 rfl rfl 8 (by decide) (hts (.fieldLink RX5 46 "GloveHours" "chances" "LGloveHours$Chances;") (List.mem_of_getElem? (i := 2) rfl)) (fun _ h9 => h9) rfl dX5_tear_103 ?_
                refine va_get (D := δ) (ci := 0) (v := .long (cWhole u_73)) (C := RX0) (T := TX0) (N := 3) hx hb hts hinX0 hown hK hP 1 rfl rfl 0 (by decide) (hts (.fieldLink RX5 211 "GloveHours$Chances" "whole" "J") (List.mem_of_getElem? (i := 4) rfl)) (fun _ h9 => h9) rfl dX5_tear_106 ?_
                have hr := mrS (p := p) (e := e) (R := rm_X5_tear) (below := below) (meth := meth) (H := H) (locs := locs) (ls := ls) (As := [.long (cDeedsDone u_73), .long (cWhole u_73)]) (rest := []) (c_X5_commonDivisor l δ cI cJ cZ (cDeedsDone u_73) (cWhole u_73)) hx hb hml hts hown hK hNW hP hD [] rfl rfl (va_cwS 2 hts gX5_tear_X5_commonDivisor rfl rfl rfl (by decide +kernel) ⟨(Nat.le_of_ble_eq_true rfl), (Nat.le_of_ble_eq_true rfl)⟩) rfl hl.1 rfl (Nat.le_of_ble_eq_true rfl) dX5_tear_109
                refine mc_l (wr := ((wG  aG0 aK0 aE0 aF0 aP0 aD0 aM0 aC0 gg) ++ (wC cJ aC0 aC1 u_73))) hr hP hD hS hA [] [0, 1, 2] [0, 1, 2] rfl rfl rfl rfl rfl (wn := fun _ => ((wG  aG0 aK0 aE0 aF0 aP0 aD0 aM0 aC0 gg) ++ (wC cJ aC0 aC1 u_73))) (fun _ => rfl) (fun r_109 _ H locs hw_109 hP hD hS => ?_)
                have hP : va_P δ vwCl ((wG  aG0 aK0 aE0 aF0 aP0 aD0 aM0 aC0 gg) ++ (wC cJ aC0 aC1 u_73)) H := hP
                have hD : va_D A ((wG  aG0 aK0 aE0 aF0 aP0 aD0 aM0 aC0 gg) ++ (wC cJ aC0 aC1 u_73)) := hD
                have hR := bnd_eq hR hw_109.symm
                refine lv_lstore (lv' := [(9, .long r_109), (7, .long (cDeedsDone u_73)), (6, .int (1 : Int32)), (0, .ref aG0), (1, .int xn), (2, .int xm), (3, .int xt), (4, .int xw), (5, .int xp)]) hx hb dX5_tear_112 hl (by decide) rfl (fun ls hl => ?_)
                refine lv_lload hx hb dX5_tear_114 (lv_at hl 0 rfl) ?_
                refine lv_lconst (v := (1 : Int64)) hx hb dX5_tear_116 (by decide) ?_
                refine W.lcmp hx hb dX5_tear_117 ?_
                refine lv_if_ge (tgt := 123) hx hb dX5_tear_118 (by decide) (fun c_118 => ?_) (fun c_118 => ?_)
                · have c_118 : (0 ≤ (lg_cmp r_109 (1 : Int64))) := c_118
                  have hR := hR.trans (if_pos c_118)
                  refine lv_iload hx hb dX5_tear_123 (lv_at hl 8 rfl) ?_
                  refine lv_if_ne (tgt := 136) hx hb dX5_tear_125 (by decide) (fun c_125 => ?_) (fun c_125 => ?_)
                  · have c_125 : ¬ (xp = 0) := c_125
                    have hR := hR.trans (if_neg c_125)
                    refine lv_aload_n hx hb dX5_tear_136 rfl (lv_at hl 3 rfl) ?_
                    refine va_get (D := δ) (ci := 5) (v := .ref aC0) (C := RX5) (T := TX5) (N := 9) hx hb hts hinX5 hown hK hP 0 rfl rfl 8 (by decide) (hts (.fieldLink RX5 46 "GloveHours" "chances" "LGloveHours$Chances;") (List.mem_of_getElem? (i := 2) rfl)) (fun _ h9 => h9) rfl dX5_tear_137 ?_
                    refine va_get (D := δ) (ci := 0) (v := .long (cWhole u_73)) (C := RX0) (T := TX0) (N := 3) hx hb hts hinX0 hown hK hP 1 rfl rfl 0 (by decide) (hts (.fieldLink RX5 211 "GloveHours$Chances" "whole" "J") (List.mem_of_getElem? (i := 4) rfl)) (fun _ h9 => h9) rfl dX5_tear_140 ?_
                    refine lv_lload hx hb dX5_tear_143 (lv_at hl 0 rfl) ?_
                    refine lv_ldiv hx hb dX5_tear_145 (lg_ne1 c_118) ?_
                    exact hret _ _ ((cWhole u_73) / r_109) u_73 _ _ hR hP hD hS dX5_tear_146
                  · have c_125 : (xp = 0) := c_125
                    have hR := hR.trans (if_pos c_125)
                    refine lv_lload hx hb dX5_tear_128 (lv_at hl 1 rfl) ?_
                    refine lv_lload hx hb dX5_tear_130 (lv_at hl 0 rfl) ?_
                    refine lv_ldiv hx hb dX5_tear_132 (lg_ne1 c_118) ?_
                    refine lv_goto (tgt := 146) hx hb dX5_tear_133 (by decide) ?_
                    exact hret _ _ ((cDeedsDone u_73) / r_109) u_73 _ _ hR hP hD hS dX5_tear_146
                · have c_118 : ¬ (0 ≤ (lg_cmp r_109 (1 : Int64))) := c_118
                  have hR := hR.trans (if_neg c_118)
                  refine lv_lconst (v := (0 : Int64)) hx hb dX5_tear_121 (by decide) ?_
                  exact hret _ _ (0 : Int64) u_73 _ _ hR hP hD hS dX5_tear_122
              · have c_78 : (xw = 0) := c_78
                have hR := hR.trans (if_pos c_78)
                refine lv_aload_n hx hb dX5_tear_81 rfl (lv_at hl 1 rfl) ?_
                refine va_get (D := δ) (ci := 5) (v := .ref aC0) (C := RX5) (T := TX5) (N := 9) hx hb hts hinX5 hown hK hP 0 rfl rfl 8 (by decide) (hts (.fieldLink RX5 46 "GloveHours" "chances" "LGloveHours$Chances;") (List.mem_of_getElem? (i := 2) rfl)) (fun _ h9 => h9) rfl dX5_tear_82 ?_
                have hr := mrV (p := p) (e := e) (R := rm_X5_tear) (below := below) (meth := meth) (H := H) (locs := locs) (ls := ls) (As := []) (rest := []) (c_X0_someLeft l δ cI cJ cZ aC0 aC1 u_73) hx hb hml hts hown hK hNW hP hD [1, 2] rfl rfl 0 0 rfl rfl (cwV 0 hts gX5_tear_X0_someLeft rfl rfl rfl (by decide +kernel) ⟨(Nat.le_of_ble_eq_true rfl), (Nat.le_of_ble_eq_true rfl)⟩) rfl hl.1 rfl (Nat.le_of_ble_eq_true rfl) dX5_tear_85
                refine mc_l (wr := (wG  aG0 aK0 aE0 aF0 aP0 aD0 aM0 aC0 gg)) hr hP hD hS hA [1, 2] [0] [0, 1, 2] rfl rfl rfl rfl rfl (wn := fun _ => ((wG  aG0 aK0 aE0 aF0 aP0 aD0 aM0 aC0 gg) ++ (wC cJ aC0 aC1 u_73))) (fun _ => rfl) (fun r_85 _ H locs hw_85 hP hD hS => ?_)
                have hP : va_P δ vwCl ((wG  aG0 aK0 aE0 aF0 aP0 aD0 aM0 aC0 gg) ++ (wC cJ aC0 aC1 u_73)) H := hP
                have hD : va_D A ((wG  aG0 aK0 aE0 aF0 aP0 aD0 aM0 aC0 gg) ++ (wC cJ aC0 aC1 u_73)) := hD
                have hR := bnd_eq hR hw_85.symm
                refine lv_goto (tgt := 98) hx hb dX5_tear_88 (by decide) ?_
                refine lv_lstore (lv' := [(7, .long r_85), (6, .int (1 : Int32)), (0, .ref aG0), (1, .int xn), (2, .int xm), (3, .int xt), (4, .int xw), (5, .int xp)]) hx hb dX5_tear_98 hl (by decide) rfl (fun ls hl => ?_)
                refine lv_lload hx hb dX5_tear_100 (lv_at hl 0 rfl) ?_
                refine lv_aload_n hx hb dX5_tear_102 rfl (lv_at hl 2 rfl) ?_
                refine va_get (D := δ) (ci := 5) (v := .ref aC0) (C := RX5) (T := TX5) (N := 9) hx hb hts hinX5 hown hK hP 0 rfl rfl 8 (by decide) (hts (.fieldLink RX5 46 "GloveHours" "chances" "LGloveHours$Chances;") (List.mem_of_getElem? (i := 2) rfl)) (fun _ h9 => h9) rfl dX5_tear_103 ?_
                refine va_get (D := δ) (ci := 0) (v := .long (cWhole u_73)) (C := RX0) (T := TX0) (N := 3) hx hb hts hinX0 hown hK hP 1 rfl rfl 0 (by decide) (hts (.fieldLink RX5 211 "GloveHours$Chances" "whole" "J") (List.mem_of_getElem? (i := 4) rfl)) (fun _ h9 => h9) rfl dX5_tear_106 ?_
                have hr := mrS (p := p) (e := e) (R := rm_X5_tear) (below := below) (meth := meth) (H := H) (locs := locs) (ls := ls) (As := [.long r_85, .long (cWhole u_73)]) (rest := []) (c_X5_commonDivisor l δ cI cJ cZ r_85 (cWhole u_73)) hx hb hml hts hown hK hNW hP hD [] rfl rfl (va_cwS 2 hts gX5_tear_X5_commonDivisor rfl rfl rfl (by decide +kernel) ⟨(Nat.le_of_ble_eq_true rfl), (Nat.le_of_ble_eq_true rfl)⟩) rfl hl.1 rfl (Nat.le_of_ble_eq_true rfl) dX5_tear_109
                refine mc_l (wr := ((wG  aG0 aK0 aE0 aF0 aP0 aD0 aM0 aC0 gg) ++ (wC cJ aC0 aC1 u_73))) hr hP hD hS hA [] [0, 1, 2] [0, 1, 2] rfl rfl rfl rfl rfl (wn := fun _ => ((wG  aG0 aK0 aE0 aF0 aP0 aD0 aM0 aC0 gg) ++ (wC cJ aC0 aC1 u_73))) (fun _ => rfl) (fun r_109 _ H locs hw_109 hP hD hS => ?_)
                have hP : va_P δ vwCl ((wG  aG0 aK0 aE0 aF0 aP0 aD0 aM0 aC0 gg) ++ (wC cJ aC0 aC1 u_73)) H := hP
                have hD : va_D A ((wG  aG0 aK0 aE0 aF0 aP0 aD0 aM0 aC0 gg) ++ (wC cJ aC0 aC1 u_73)) := hD
                have hR := bnd_eq hR hw_109.symm
                refine lv_lstore (lv' := [(9, .long r_109), (7, .long r_85), (6, .int (1 : Int32)), (0, .ref aG0), (1, .int xn), (2, .int xm), (3, .int xt), (4, .int xw), (5, .int xp)]) hx hb dX5_tear_112 hl (by decide) rfl (fun ls hl => ?_)
                refine lv_lload hx hb dX5_tear_114 (lv_at hl 0 rfl) ?_
                refine lv_lconst (v := (1 : Int64)) hx hb dX5_tear_116 (by decide) ?_
                refine W.lcmp hx hb dX5_tear_117 ?_
                refine lv_if_ge (tgt := 123) hx hb dX5_tear_118 (by decide) (fun c_118 => ?_) (fun c_118 => ?_)
                · have c_118 : (0 ≤ (lg_cmp r_109 (1 : Int64))) := c_118
                  have hR := hR.trans (if_pos c_118)
                  refine lv_iload hx hb dX5_tear_123 (lv_at hl 8 rfl) ?_
                  refine lv_if_ne (tgt := 136) hx hb dX5_tear_125 (by decide) (fun c_125 => ?_) (fun c_125 => ?_)
                  · have c_125 : ¬ (xp = 0) := c_125
                    have hR := hR.trans (if_neg c_125)
                    refine lv_aload_n hx hb dX5_tear_136 rfl (lv_at hl 3 rfl) ?_
                    refine va_get (D := δ) (ci := 5) (v := .ref aC0) (C := RX5) (T := TX5) (N := 9) hx hb hts hinX5 hown hK hP 0 rfl rfl 8 (by decide) (hts (.fieldLink RX5 46 "GloveHours" "chances" "LGloveHours$Chances;") (List.mem_of_getElem? (i := 2) rfl)) (fun _ h9 => h9) rfl dX5_tear_137 ?_
                    refine va_get (D := δ) (ci := 0) (v := .long (cWhole u_73)) (C := RX0) (T := TX0) (N := 3) hx hb hts hinX0 hown hK hP 1 rfl rfl 0 (by decide) (hts (.fieldLink RX5 211 "GloveHours$Chances" "whole" "J") (List.mem_of_getElem? (i := 4) rfl)) (fun _ h9 => h9) rfl dX5_tear_140 ?_
                    refine lv_lload hx hb dX5_tear_143 (lv_at hl 0 rfl) ?_
                    refine lv_ldiv hx hb dX5_tear_145 (lg_ne1 c_118) ?_
                    exact hret _ _ ((cWhole u_73) / r_109) u_73 _ _ hR hP hD hS dX5_tear_146
                  · have c_125 : (xp = 0) := c_125
                    have hR := hR.trans (if_pos c_125)
                    refine lv_lload hx hb dX5_tear_128 (lv_at hl 1 rfl) ?_
                    refine lv_lload hx hb dX5_tear_130 (lv_at hl 0 rfl) ?_
                    refine lv_ldiv hx hb dX5_tear_132 (lg_ne1 c_118) ?_
                    refine lv_goto (tgt := 146) hx hb dX5_tear_133 (by decide) ?_
                    exact hret _ _ (r_85 / r_109) u_73 _ _ hR hP hD hS dX5_tear_146
                · have c_118 : ¬ (0 ≤ (lg_cmp r_109 (1 : Int64))) := c_118
                  have hR := hR.trans (if_neg c_118)
                  refine lv_lconst (v := (0 : Int64)) hx hb dX5_tear_121 (by decide) ?_
                  exact hret _ _ (0 : Int64) u_73 _ _ hR hP hD hS dX5_tear_122
            · have c_59 : ((1 : Int32) = 0) := c_59
              have hR := hR.trans (if_pos c_59)
              refine lv_ldc2 (v := (-1000000000000000002 : Int64)) hx hb hown (hts (.constantLong RX5 197 (-1000000000000000002)) (List.mem_of_getElem? (i := 1) rfl)) dX5_tear_62 ?_
              exact hret _ _ (-1000000000000000002 : Int64) ch _ _ hR hP hD hS dX5_tear_65

abbrev rm_X5_vespers : Room := { frames := 4, cells := 0, slots := 0, locals := 91 }
set_option maxHeartbeats 4000000 in
set_option maxRecDepth 100000 in
theorem c_X5_vespers (l : Launch) (δ : va_G) (cI cJ cZ : ClassId) (aG0 aK0 aK1 aK2 aK3 aK4 aK5 aE0 aF0 aP0 aD0 aM0 aC0 : Nat) (gg : GS) (k : KS) (xc : Int32) (xn : Int32) : mMi l δ (mTy cI cJ cZ) yX5_vespers wsX5_vespers rm_X5_vespers [.ref aG0, .int xc, .int xn] ((wG  aG0 aK0 aE0 aF0 aP0 aD0 aM0 aC0 gg) ++ (wK cI aK0 aK1 aK2 aK3 aK4 aK5 k)) (S := Unit) (fun r _ => F_X5_vespers k xc xn = r) (fun _ => ((wG  aG0 aK0 aE0 aF0 aP0 aD0 aM0 aC0 gg) ++ (wK cI aK0 aK1 aK2 aK3 aK4 aK5 k))) := by
  refine mk_i (cc := cX5_vespers) (maxL := 3) (by decide) rfl (Nat.le_of_ble_eq_true rfl) ?_
  intro p e s m args below meth c A Q ls H locs hx hb hml hts hown hK hNW hA hP hD hS hl hret
  have hown : s.vm.findClass RX5 = some m.cls := hown
  have hl : lv_has ls 3 [(0, .ref aG0), (1, .int xc), (2, .int xn)] := hl
  have hinX5 : ∀ w ∈ u_ws RX5 TX5 9, w ∈ wsX5_vespers := (fun _ h => List.mem_cons_of_mem _ (List.mem_append_left _ (List.mem_append_right _ (h))))
  have hR := F_X5_vespers.eq_1 k xc xn
  refine lv_aload_n hx hb dX5_vespers_0 rfl (lv_at hl 0 rfl) ?_
  refine va_get (D := δ) (ci := 5) (v := .ref aK0) (C := RX5) (T := TX5) (N := 9) hx hb hts hinX5 hown hK hP 0 rfl rfl 0 (by decide) (hts (.fieldLink RX5 10 "GloveHours" "court" "LGloveHours$Court;") (List.mem_of_getElem? (i := 1) rfl)) (fun _ h9 => h9) rfl dX5_vespers_1 ?_
  refine lv_iload_n hx hb dX5_vespers_4 rfl (lv_at hl 1 rfl) ?_
  have hr := mrV (p := p) (e := e) (R := rm_X5_vespers) (below := below) (meth := meth) (H := H) (locs := locs) (ls := ls) (As := [.int xc]) (rest := []) (c_X1_isThere l δ cI cJ cZ aK0 aK1 aK2 aK3 aK4 aK5 k xc) hx hb hml hts hown hK hNW hP hD [1, 2, 3, 4, 5, 6] rfl rfl 1 0 rfl rfl (cwV 1 hts gX5_vespers_X1_isThere rfl rfl rfl (by decide +kernel) ⟨(Nat.le_of_ble_eq_true rfl), (Nat.le_of_ble_eq_true rfl)⟩) rfl hl.1 rfl (Nat.le_of_ble_eq_true rfl) dX5_vespers_5
  refine mc_i (wr := (wG  aG0 aK0 aE0 aF0 aP0 aD0 aM0 aC0 gg)) hr hP hD hS hA [1, 2, 3, 4, 5, 6] [0] [0, 1, 2, 3, 4, 5, 6] rfl rfl rfl rfl rfl (wn := fun _ => ((wG  aG0 aK0 aE0 aF0 aP0 aD0 aM0 aC0 gg) ++ (wK cI aK0 aK1 aK2 aK3 aK4 aK5 k))) (fun _ => rfl) (fun r_5 _ H locs hw_5 hP hD hS => ?_)
  obtain ⟨hw_5, z_5⟩ := hw_5
  have hP : va_P δ vwCl ((wG  aG0 aK0 aE0 aF0 aP0 aD0 aM0 aC0 gg) ++ (wK cI aK0 aK1 aK2 aK3 aK4 aK5 k)) H := hP
  have hD : va_D A ((wG  aG0 aK0 aE0 aF0 aP0 aD0 aM0 aC0 gg) ++ (wK cI aK0 aK1 aK2 aK3 aK4 aK5 k)) := hD
  have hR := bnd_eq hR hw_5.symm
  refine lv_if_ne (tgt := 13) hx hb dX5_vespers_8 (by decide) (fun c_8 => ?_) (fun c_8 => ?_)
  · have c_8 : ¬ (r_5 = 0) := c_8
    have hR := hR.trans (if_neg c_8)
    refine lv_iload_n hx hb dX5_vespers_13 rfl (lv_at hl 2 rfl) ?_
    refine lv_iconst (v := (0 : Int32)) hx hb dX5_vespers_14 (by decide) ?_
    refine lv_sipush (v := (999 : Int32)) hx hb dX5_vespers_15 (by decide) ?_
    have hr := mrS (p := p) (e := e) (R := rm_X5_vespers) (below := below) (meth := meth) (H := H) (locs := locs) (ls := ls) (As := [.int xn, .int (0 : Int32), .int (999 : Int32)]) (rest := []) (c_X5_isWithin l δ cI cJ cZ xn (0 : Int32) (999 : Int32)) hx hb hml hts hown hK hNW hP hD [] rfl rfl (va_cwS 3 hts gX5_vespers_X5_isWithin rfl rfl rfl (by decide +kernel) ⟨(Nat.le_of_ble_eq_true rfl), (Nat.le_of_ble_eq_true rfl)⟩) rfl hl.1 rfl (Nat.le_of_ble_eq_true rfl) dX5_vespers_18
    refine mc_i (wr := ((wG  aG0 aK0 aE0 aF0 aP0 aD0 aM0 aC0 gg) ++ (wK cI aK0 aK1 aK2 aK3 aK4 aK5 k))) hr hP hD hS hA [] [0, 1, 2, 3, 4, 5, 6] [0, 1, 2, 3, 4, 5, 6] rfl rfl rfl rfl rfl (wn := fun _ => ((wG  aG0 aK0 aE0 aF0 aP0 aD0 aM0 aC0 gg) ++ (wK cI aK0 aK1 aK2 aK3 aK4 aK5 k))) (fun _ => rfl) (fun r_18 _ H locs hw_18 hP hD hS => ?_)
    obtain ⟨hw_18, z_18⟩ := hw_18
    have hP : va_P δ vwCl ((wG  aG0 aK0 aE0 aF0 aP0 aD0 aM0 aC0 gg) ++ (wK cI aK0 aK1 aK2 aK3 aK4 aK5 k)) H := hP
    have hD : va_D A ((wG  aG0 aK0 aE0 aF0 aP0 aD0 aM0 aC0 gg) ++ (wK cI aK0 aK1 aK2 aK3 aK4 aK5 k)) := hD
    have hR := bnd_eq hR hw_18.symm
    refine lv_if_ne (tgt := 27) hx hb dX5_vespers_21 (by decide) (fun c_21 => ?_) (fun c_21 => ?_)
    · have c_21 : ¬ (r_18 = 0) := c_21
      have hR := hR.trans (if_neg c_21)
      refine lv_aload_n hx hb dX5_vespers_27 rfl (lv_at hl 0 rfl) ?_
      refine lv_iload_n hx hb dX5_vespers_28 rfl (lv_at hl 1 rfl) ?_
      refine lv_iload_n hx hb dX5_vespers_29 rfl (lv_at hl 2 rfl) ?_
      have hr := mrV (p := p) (e := e) (R := rm_X5_vespers) (below := below) (meth := meth) (H := H) (locs := locs) (ls := ls) (As := [.int xc, .int xn]) (rest := []) (c_X5_candlesOf l δ cI cJ cZ aG0 aK0 aK1 aK2 aK3 aK4 aK5 aE0 aF0 aP0 aD0 aM0 aC0 gg k xc xn) hx hb hml hts hown hK hNW hP hD [0, 1, 2, 3, 4, 5, 6] rfl rfl 5 0 rfl rfl (cwV 2 hts gX5_vespers_X5_candlesOf rfl rfl rfl (by decide +kernel) ⟨(Nat.le_of_ble_eq_true rfl), (Nat.le_of_ble_eq_true rfl)⟩) rfl hl.1 rfl (Nat.le_of_ble_eq_true rfl) dX5_vespers_30
      refine mc_i (wr := ([] : va_W)) hr hP hD hS hA [0, 1, 2, 3, 4, 5, 6] [] [0, 1, 2, 3, 4, 5, 6] rfl rfl rfl rfl rfl (wn := fun _ => ((wG  aG0 aK0 aE0 aF0 aP0 aD0 aM0 aC0 gg) ++ (wK cI aK0 aK1 aK2 aK3 aK4 aK5 k))) (fun _ => rfl) (fun r_30 _ H locs hw_30 hP hD hS => ?_)
      have hP : va_P δ vwCl ((wG  aG0 aK0 aE0 aF0 aP0 aD0 aM0 aC0 gg) ++ (wK cI aK0 aK1 aK2 aK3 aK4 aK5 k)) H := hP
      have hD : va_D A ((wG  aG0 aK0 aE0 aF0 aP0 aD0 aM0 aC0 gg) ++ (wK cI aK0 aK1 aK2 aK3 aK4 aK5 k)) := hD
      have hR := bnd_eq hR hw_30.symm
      exact hret _ _ r_30 () _ _ hR hP hD hS dX5_vespers_33
    · have c_21 : (r_18 = 0) := c_21
      have hR := hR.trans (if_pos c_21)
      refine lv_bipush (v := (-2 : Int32)) hx hb dX5_vespers_24 (by decide) ?_
      exact hret _ _ (-2 : Int32) () _ _ hR hP hD hS dX5_vespers_26
  · have c_8 : (r_5 = 0) := c_8
    have hR := hR.trans (if_pos c_8)
    refine lv_iconst (v := (-1 : Int32)) hx hb dX5_vespers_11 (by decide) ?_
    exact hret _ _ (-1 : Int32) () _ _ hR hP hD hS dX5_vespers_12

abbrev rm_X5_reign : Room := { frames := 6, cells := 0, slots := 0, locals := 138 }
set_option maxHeartbeats 4000000 in
set_option maxRecDepth 100000 in
theorem c_X5_reign (l : Launch) (δ : va_G) (cI cJ cZ : ClassId) (aG0 aK0 aK1 aK2 aK3 aK4 aK5 aD0 aD1 aD2 aD3 aD4 aT0 aT1 aT2 aT3 aT4 aT5 aE0 aF0 aP0 aM0 aC0 : Nat) (gg : GS) (k : KS) (dy : DS) (kT : KS) (xs : Int32) (xm : Int32) (xw : Int32) : mMi l δ (mTy cI cJ cZ) yX5_reign wsX5_reign rm_X5_reign [.ref aG0, .int xs, .int xm, .int xw] ((wG  aG0 aK0 aE0 aF0 aP0 aD0 aM0 aC0 gg) ++ (wK cI aK0 aK1 aK2 aK3 aK4 aK5 k) ++ (wD cI aD0 aD1 aD2 aD3 aD4 aT0 dy) ++ (wK cI aT0 aT1 aT2 aT3 aT4 aT5 kT)) (S := DS × KS) (fun r u => F_X5_reign k dy kT xs xm xw = (r, u)) (fun u => ((wG  aG0 aK0 aE0 aF0 aP0 aD0 aM0 aC0 gg) ++ (wK cI aK0 aK1 aK2 aK3 aK4 aK5 k) ++ (wD cI aD0 aD1 aD2 aD3 aD4 aT0 u.1) ++ (wK cI aT0 aT1 aT2 aT3 aT4 aT5 u.2))) := by
  refine mk_i (cc := cX5_reign) (maxL := 4) (by decide) rfl (Nat.le_of_ble_eq_true rfl) ?_
  intro p e s m args below meth c A Q ls H locs hx hb hml hts hown hK hNW hA hP hD hS hl hret
  have hown : s.vm.findClass RX5 = some m.cls := hown
  have hl : lv_has ls 4 [(0, .ref aG0), (1, .int xs), (2, .int xm), (3, .int xw)] := hl
  have hinX2 : ∀ w ∈ u_ws RX2 TX2 9, w ∈ wsX5_reign := (fun _ h => List.mem_cons_of_mem _ (List.mem_append_left _ (List.mem_append_right _ (h))))
  have hinX5 : ∀ w ∈ u_ws RX5 TX5 9, w ∈ wsX5_reign := (fun _ h => List.mem_cons_of_mem _ (List.mem_append_left _ (List.mem_append_left _ (List.mem_append_right _ (h)))))
  have hR := F_X5_reign.eq_1 k dy kT xs xm xw
  refine lv_iload_n hx hb dX5_reign_0 rfl (lv_at hl 1 rfl) ?_
  refine lv_iconst (v := (0 : Int32)) hx hb dX5_reign_1 (by decide) ?_
  refine lv_sipush (v := (9999 : Int32)) hx hb dX5_reign_2 (by decide) ?_
  have hr := mrS (p := p) (e := e) (R := rm_X5_reign) (below := below) (meth := meth) (H := H) (locs := locs) (ls := ls) (As := [.int xs, .int (0 : Int32), .int (9999 : Int32)]) (rest := []) (c_X5_isWithin l δ cI cJ cZ xs (0 : Int32) (9999 : Int32)) hx hb hml hts hown hK hNW hP hD [] rfl rfl (va_cwS 3 hts gX5_reign_X5_isWithin rfl rfl rfl (by decide +kernel) ⟨(Nat.le_of_ble_eq_true rfl), (Nat.le_of_ble_eq_true rfl)⟩) rfl hl.1 rfl (Nat.le_of_ble_eq_true rfl) dX5_reign_5
  refine mc_i (wr := ((wG  aG0 aK0 aE0 aF0 aP0 aD0 aM0 aC0 gg) ++ (wK cI aK0 aK1 aK2 aK3 aK4 aK5 k) ++ (wD cI aD0 aD1 aD2 aD3 aD4 aT0 dy) ++ (wK cI aT0 aT1 aT2 aT3 aT4 aT5 kT))) hr hP hD hS hA [] [0, 1, 2, 3, 4, 5, 6, 7, 8, 9, 10, 11, 12, 13, 14, 15, 16, 17] [0, 1, 2, 3, 4, 5, 6, 7, 8, 9, 10, 11, 12, 13, 14, 15, 16, 17] rfl rfl rfl rfl rfl (wn := fun _ => ((wG  aG0 aK0 aE0 aF0 aP0 aD0 aM0 aC0 gg) ++ (wK cI aK0 aK1 aK2 aK3 aK4 aK5 k) ++ (wD cI aD0 aD1 aD2 aD3 aD4 aT0 dy) ++ (wK cI aT0 aT1 aT2 aT3 aT4 aT5 kT))) (fun _ => rfl) (fun r_5 _ H locs hw_5 hP hD hS => ?_)
  obtain ⟨hw_5, z_5⟩ := hw_5
  have hP : va_P δ vwCl ((wG  aG0 aK0 aE0 aF0 aP0 aD0 aM0 aC0 gg) ++ (wK cI aK0 aK1 aK2 aK3 aK4 aK5 k) ++ (wD cI aD0 aD1 aD2 aD3 aD4 aT0 dy) ++ (wK cI aT0 aT1 aT2 aT3 aT4 aT5 kT)) H := hP
  have hD : va_D A ((wG  aG0 aK0 aE0 aF0 aP0 aD0 aM0 aC0 gg) ++ (wK cI aK0 aK1 aK2 aK3 aK4 aK5 k) ++ (wD cI aD0 aD1 aD2 aD3 aD4 aT0 dy) ++ (wK cI aT0 aT1 aT2 aT3 aT4 aT5 kT)) := hD
  have hR := bnd_eq hR hw_5.symm
  refine lv_if_eq (tgt := 30) hx hb dX5_reign_8 (by decide) (fun c_8 => ?_) (fun c_8 => ?_)
  · have c_8 : (r_5 = 0) := c_8
    have hR := hR.trans (if_pos c_8)
    refine lv_bipush (v := (-2 : Int32)) hx hb dX5_reign_30 (by decide) ?_
    exact hret _ _ (-2 : Int32) (dy, kT) _ _ hR hP hD hS dX5_reign_32
  · have c_8 : ¬ (r_5 = 0) := c_8
    have hR := hR.trans (if_neg c_8)
    refine lv_iload_n hx hb dX5_reign_11 rfl (lv_at hl 2 rfl) ?_
    refine lv_iconst (v := (1 : Int32)) hx hb dX5_reign_12 (by decide) ?_
    refine lv_bipush (v := (99 : Int32)) hx hb dX5_reign_13 (by decide) ?_
    have hr := mrS (p := p) (e := e) (R := rm_X5_reign) (below := below) (meth := meth) (H := H) (locs := locs) (ls := ls) (As := [.int xm, .int (1 : Int32), .int (99 : Int32)]) (rest := []) (c_X5_isWithin l δ cI cJ cZ xm (1 : Int32) (99 : Int32)) hx hb hml hts hown hK hNW hP hD [] rfl rfl (va_cwS 3 hts gX5_reign_X5_isWithin rfl rfl rfl (by decide +kernel) ⟨(Nat.le_of_ble_eq_true rfl), (Nat.le_of_ble_eq_true rfl)⟩) rfl hl.1 rfl (Nat.le_of_ble_eq_true rfl) dX5_reign_15
    refine mc_i (wr := ((wG  aG0 aK0 aE0 aF0 aP0 aD0 aM0 aC0 gg) ++ (wK cI aK0 aK1 aK2 aK3 aK4 aK5 k) ++ (wD cI aD0 aD1 aD2 aD3 aD4 aT0 dy) ++ (wK cI aT0 aT1 aT2 aT3 aT4 aT5 kT))) hr hP hD hS hA [] [0, 1, 2, 3, 4, 5, 6, 7, 8, 9, 10, 11, 12, 13, 14, 15, 16, 17] [0, 1, 2, 3, 4, 5, 6, 7, 8, 9, 10, 11, 12, 13, 14, 15, 16, 17] rfl rfl rfl rfl rfl (wn := fun _ => ((wG  aG0 aK0 aE0 aF0 aP0 aD0 aM0 aC0 gg) ++ (wK cI aK0 aK1 aK2 aK3 aK4 aK5 k) ++ (wD cI aD0 aD1 aD2 aD3 aD4 aT0 dy) ++ (wK cI aT0 aT1 aT2 aT3 aT4 aT5 kT))) (fun _ => rfl) (fun r_15 _ H locs hw_15 hP hD hS => ?_)
    obtain ⟨hw_15, z_15⟩ := hw_15
    have hP : va_P δ vwCl ((wG  aG0 aK0 aE0 aF0 aP0 aD0 aM0 aC0 gg) ++ (wK cI aK0 aK1 aK2 aK3 aK4 aK5 k) ++ (wD cI aD0 aD1 aD2 aD3 aD4 aT0 dy) ++ (wK cI aT0 aT1 aT2 aT3 aT4 aT5 kT)) H := hP
    have hD : va_D A ((wG  aG0 aK0 aE0 aF0 aP0 aD0 aM0 aC0 gg) ++ (wK cI aK0 aK1 aK2 aK3 aK4 aK5 k) ++ (wD cI aD0 aD1 aD2 aD3 aD4 aT0 dy) ++ (wK cI aT0 aT1 aT2 aT3 aT4 aT5 kT)) := hD
    have hR := bnd_eq hR hw_15.symm
    refine lv_if_eq (tgt := 30) hx hb dX5_reign_18 (by decide) (fun c_18 => ?_) (fun c_18 => ?_)
    · have c_18 : (r_15 = 0) := c_18
      have hR := hR.trans (if_pos c_18)
      refine lv_bipush (v := (-2 : Int32)) hx hb dX5_reign_30 (by decide) ?_
      exact hret _ _ (-2 : Int32) (dy, kT) _ _ hR hP hD hS dX5_reign_32
    · have c_18 : ¬ (r_15 = 0) := c_18
      have hR := hR.trans (if_neg c_18)
      refine lv_iload_n hx hb dX5_reign_21 rfl (lv_at hl 3 rfl) ?_
      refine lv_iconst (v := (0 : Int32)) hx hb dX5_reign_22 (by decide) ?_
      refine lv_iconst (v := (2 : Int32)) hx hb dX5_reign_23 (by decide) ?_
      have hr := mrS (p := p) (e := e) (R := rm_X5_reign) (below := below) (meth := meth) (H := H) (locs := locs) (ls := ls) (As := [.int xw, .int (0 : Int32), .int (2 : Int32)]) (rest := []) (c_X5_isWithin l δ cI cJ cZ xw (0 : Int32) (2 : Int32)) hx hb hml hts hown hK hNW hP hD [] rfl rfl (va_cwS 3 hts gX5_reign_X5_isWithin rfl rfl rfl (by decide +kernel) ⟨(Nat.le_of_ble_eq_true rfl), (Nat.le_of_ble_eq_true rfl)⟩) rfl hl.1 rfl (Nat.le_of_ble_eq_true rfl) dX5_reign_24
      refine mc_i (wr := ((wG  aG0 aK0 aE0 aF0 aP0 aD0 aM0 aC0 gg) ++ (wK cI aK0 aK1 aK2 aK3 aK4 aK5 k) ++ (wD cI aD0 aD1 aD2 aD3 aD4 aT0 dy) ++ (wK cI aT0 aT1 aT2 aT3 aT4 aT5 kT))) hr hP hD hS hA [] [0, 1, 2, 3, 4, 5, 6, 7, 8, 9, 10, 11, 12, 13, 14, 15, 16, 17] [0, 1, 2, 3, 4, 5, 6, 7, 8, 9, 10, 11, 12, 13, 14, 15, 16, 17] rfl rfl rfl rfl rfl (wn := fun _ => ((wG  aG0 aK0 aE0 aF0 aP0 aD0 aM0 aC0 gg) ++ (wK cI aK0 aK1 aK2 aK3 aK4 aK5 k) ++ (wD cI aD0 aD1 aD2 aD3 aD4 aT0 dy) ++ (wK cI aT0 aT1 aT2 aT3 aT4 aT5 kT))) (fun _ => rfl) (fun r_24 _ H locs hw_24 hP hD hS => ?_)
      obtain ⟨hw_24, z_24⟩ := hw_24
      have hP : va_P δ vwCl ((wG  aG0 aK0 aE0 aF0 aP0 aD0 aM0 aC0 gg) ++ (wK cI aK0 aK1 aK2 aK3 aK4 aK5 k) ++ (wD cI aD0 aD1 aD2 aD3 aD4 aT0 dy) ++ (wK cI aT0 aT1 aT2 aT3 aT4 aT5 kT)) H := hP
      have hD : va_D A ((wG  aG0 aK0 aE0 aF0 aP0 aD0 aM0 aC0 gg) ++ (wK cI aK0 aK1 aK2 aK3 aK4 aK5 k) ++ (wD cI aD0 aD1 aD2 aD3 aD4 aT0 dy) ++ (wK cI aT0 aT1 aT2 aT3 aT4 aT5 kT)) := hD
      have hR := bnd_eq hR hw_24.symm
      refine lv_if_ne (tgt := 33) hx hb dX5_reign_27 (by decide) (fun c_27 => ?_) (fun c_27 => ?_)
      · have c_27 : ¬ (r_24 = 0) := c_27
        have hR := hR.trans (if_neg c_27)
        refine lv_aload_n hx hb dX5_reign_33 rfl (lv_at hl 0 rfl) ?_
        refine va_get (D := δ) (ci := 5) (v := .ref aD0) (C := RX5) (T := TX5) (N := 9) hx hb hts hinX5 hown hK hP 0 rfl rfl 6 (by decide) (hts (.fieldLink RX5 32 "GloveHours" "day" "LGloveHours$Day;") (List.mem_of_getElem? (i := 1) rfl)) (fun _ h9 => h9) rfl dX5_reign_34 ?_
        refine lv_aload_n hx hb dX5_reign_37 rfl (lv_at hl 0 rfl) ?_
        refine va_get (D := δ) (ci := 5) (v := .ref aK0) (C := RX5) (T := TX5) (N := 9) hx hb hts hinX5 hown hK hP 0 rfl rfl 0 (by decide) (hts (.fieldLink RX5 10 "GloveHours" "court" "LGloveHours$Court;") (List.mem_of_getElem? (i := 2) rfl)) (fun _ h9 => h9) rfl dX5_reign_38 ?_
        refine lv_iload_n hx hb dX5_reign_41 rfl (lv_at hl 1 rfl) ?_
        refine lv_iload_n hx hb dX5_reign_42 rfl (lv_at hl 2 rfl) ?_
        have hr := mrV (p := p) (e := e) (R := rm_X5_reign) (below := below) (meth := meth) (H := H) (locs := locs) (ls := ls) (As := [.ref aK0, .int xs, .int xm]) (rest := []) (c_X2_playDraws l δ cI cJ cZ aD0 aD1 aD2 aD3 aD4 aT0 aT1 aT2 aT3 aT4 aT5 aK0 aK1 aK2 aK3 aK4 aK5 dy kT k xs xm) hx hb hml hts hown hK hNW hP hD [7, 8, 9, 10, 11, 12, 13, 14, 15, 16, 17, 1, 2, 3, 4, 5, 6] rfl rfl 2 0 rfl rfl (cwV 3 hts gX5_reign_X2_playDraws rfl rfl rfl (by decide +kernel) ⟨(Nat.le_of_ble_eq_true rfl), (Nat.le_of_ble_eq_true rfl)⟩) rfl hl.1 rfl (Nat.le_of_ble_eq_true rfl) dX5_reign_43
        refine mc_v (wr := (wG  aG0 aK0 aE0 aF0 aP0 aD0 aM0 aC0 gg)) hr hP hD hS hA [7, 8, 9, 10, 11, 12, 13, 14, 15, 16, 17, 1, 2, 3, 4, 5, 6] [0] [0, 12, 13, 14, 15, 16, 17, 1, 2, 3, 4, 5, 6, 7, 8, 9, 10, 11] rfl rfl rfl rfl rfl (wn := fun u_43 => ((wG  aG0 aK0 aE0 aF0 aP0 aD0 aM0 aC0 gg) ++ (wK cI aK0 aK1 aK2 aK3 aK4 aK5 k) ++ (wD cI aD0 aD1 aD2 aD3 aD4 aT0 u_43.1) ++ (wK cI aT0 aT1 aT2 aT3 aT4 aT5 u_43.2))) (fun _ => rfl) (fun u_43 H locs hw_43 hP hD hS => ?_)
        have hP : va_P δ vwCl ((wG  aG0 aK0 aE0 aF0 aP0 aD0 aM0 aC0 gg) ++ (wK cI aK0 aK1 aK2 aK3 aK4 aK5 k) ++ (wD cI aD0 aD1 aD2 aD3 aD4 aT0 u_43.1) ++ (wK cI aT0 aT1 aT2 aT3 aT4 aT5 u_43.2)) H := hP
        have hD : va_D A ((wG  aG0 aK0 aE0 aF0 aP0 aD0 aM0 aC0 gg) ++ (wK cI aK0 aK1 aK2 aK3 aK4 aK5 k) ++ (wD cI aD0 aD1 aD2 aD3 aD4 aT0 u_43.1) ++ (wK cI aT0 aT1 aT2 aT3 aT4 aT5 u_43.2)) := hD
        have hR := bnd_eq hR hw_43.symm
        refine lv_iload_n hx hb dX5_reign_46 rfl (lv_at hl 3 rfl) ?_
        refine lv_iconst (v := (2 : Int32)) hx hb dX5_reign_47 (by decide) ?_
        refine lv_icmp_ne (tgt := 62) hx hb dX5_reign_48 (by decide) (fun c_48 => ?_) (fun c_48 => ?_)
        · have c_48 : ¬ (xw = (2 : Int32)) := c_48
          have hR := hR.trans (if_neg c_48)
          refine lv_iload_n hx hb dX5_reign_62 rfl (lv_at hl 3 rfl) ?_
          refine lv_if_ne (tgt := 76) hx hb dX5_reign_63 (by decide) (fun c_63 => ?_) (fun c_63 => ?_)
          · have c_63 : ¬ (xw = 0) := c_63
            have hR := hR.trans (if_neg c_63)
            refine lv_aload_n hx hb dX5_reign_76 rfl (lv_at hl 0 rfl) ?_
            refine va_get (D := δ) (ci := 5) (v := .ref aD0) (C := RX5) (T := TX5) (N := 9) hx hb hts hinX5 hown hK hP 0 rfl rfl 6 (by decide) (hts (.fieldLink RX5 32 "GloveHours" "day" "LGloveHours$Day;") (List.mem_of_getElem? (i := 1) rfl)) (fun _ h9 => h9) rfl dX5_reign_77 ?_
            have hr := mrV (p := p) (e := e) (R := rm_X5_reign) (below := below) (meth := meth) (H := H) (locs := locs) (ls := ls) (As := []) (rest := []) (c_X2_countLate l δ cI cJ cZ aD0 aD1 aD2 aD3 aD4 aT0 u_43.1) hx hb hml hts hown hK hNW hP hD [7, 8, 9, 10, 11] rfl rfl 2 0 rfl rfl (cwV 0 hts gX5_reign_X2_countLate rfl rfl rfl (by decide +kernel) ⟨(Nat.le_of_ble_eq_true rfl), (Nat.le_of_ble_eq_true rfl)⟩) rfl hl.1 rfl (Nat.le_of_ble_eq_true rfl) dX5_reign_80
            refine mc_i (wr := ((wG  aG0 aK0 aE0 aF0 aP0 aD0 aM0 aC0 gg) ++ (wK cI aK0 aK1 aK2 aK3 aK4 aK5 k) ++ (wK cI aT0 aT1 aT2 aT3 aT4 aT5 u_43.2))) hr hP hD hS hA [7, 8, 9, 10, 11] [0, 1, 2, 3, 4, 5, 6, 12, 13, 14, 15, 16, 17] [0, 1, 2, 3, 4, 5, 6, 13, 14, 15, 16, 17, 7, 8, 9, 10, 11, 12] rfl rfl rfl rfl rfl (wn := fun _ => ((wG  aG0 aK0 aE0 aF0 aP0 aD0 aM0 aC0 gg) ++ (wK cI aK0 aK1 aK2 aK3 aK4 aK5 k) ++ (wD cI aD0 aD1 aD2 aD3 aD4 aT0 u_43.1) ++ (wK cI aT0 aT1 aT2 aT3 aT4 aT5 u_43.2))) (fun _ => rfl) (fun r_80 _ H locs hw_80 hP hD hS => ?_)
            have hP : va_P δ vwCl ((wG  aG0 aK0 aE0 aF0 aP0 aD0 aM0 aC0 gg) ++ (wK cI aK0 aK1 aK2 aK3 aK4 aK5 k) ++ (wD cI aD0 aD1 aD2 aD3 aD4 aT0 u_43.1) ++ (wK cI aT0 aT1 aT2 aT3 aT4 aT5 u_43.2)) H := hP
            have hD : va_D A ((wG  aG0 aK0 aE0 aF0 aP0 aD0 aM0 aC0 gg) ++ (wK cI aK0 aK1 aK2 aK3 aK4 aK5 k) ++ (wD cI aD0 aD1 aD2 aD3 aD4 aT0 u_43.1) ++ (wK cI aT0 aT1 aT2 aT3 aT4 aT5 u_43.2)) := hD
            have hR := bnd_eq hR hw_80.symm
            exact hret _ _ r_80 (u_43.1, u_43.2) _ _ hR hP hD hS dX5_reign_83
          · have c_63 : (xw = 0) := c_63
            have hR := hR.trans (if_pos c_63)
            refine lv_aload_n hx hb dX5_reign_66 rfl (lv_at hl 0 rfl) ?_
            refine va_get (D := δ) (ci := 5) (v := .ref aD0) (C := RX5) (T := TX5) (N := 9) hx hb hts hinX5 hown hK hP 0 rfl rfl 6 (by decide) (hts (.fieldLink RX5 32 "GloveHours" "day" "LGloveHours$Day;") (List.mem_of_getElem? (i := 1) rfl)) (fun _ h9 => h9) rfl dX5_reign_67 ?_
            refine va_get (D := δ) (ci := 2) (v := .int (dDeeds u_43.1)) (C := RX2) (T := TX2) (N := 9) hx hb hts hinX2 hown hK hP 7 rfl rfl 2 (by decide) (hts (.fieldLink RX5 97 "GloveHours$Day" "deeds" "I") (List.mem_of_getElem? (i := 4) rfl)) (fun _ h9 => h9) rfl dX5_reign_70 ?_
            refine lv_goto (tgt := 83) hx hb dX5_reign_73 (by decide) ?_
            exact hret _ _ (dDeeds u_43.1) (u_43.1, u_43.2) _ _ hR hP hD hS dX5_reign_83
        · have c_48 : (xw = (2 : Int32)) := c_48
          have hR := hR.trans (if_pos c_48)
          refine lv_aload_n hx hb dX5_reign_51 rfl (lv_at hl 0 rfl) ?_
          refine va_get (D := δ) (ci := 5) (v := .ref aD0) (C := RX5) (T := TX5) (N := 9) hx hb hts hinX5 hown hK hP 0 rfl rfl 6 (by decide) (hts (.fieldLink RX5 32 "GloveHours" "day" "LGloveHours$Day;") (List.mem_of_getElem? (i := 1) rfl)) (fun _ h9 => h9) rfl dX5_reign_52 ?_
          refine va_get (D := δ) (ci := 2) (v := .ref aT0) (C := RX2) (T := TX2) (N := 9) hx hb hts hinX2 hown hK hP 7 rfl rfl 0 (by decide) (hts (.fieldLink RX5 106 "GloveHours$Day" "court" "LGloveHours$Court;") (List.mem_of_getElem? (i := 3) rfl)) (fun _ h9 => h9) rfl dX5_reign_55 ?_
          have hr := mrV (p := p) (e := e) (R := rm_X5_reign) (below := below) (meth := meth) (H := H) (locs := locs) (ls := ls) (As := []) (rest := []) (c_X1_scandalsTogether l δ cI cJ cZ aT0 aT1 aT2 aT3 aT4 aT5 u_43.2) hx hb hml hts hown hK hNW hP hD [12, 13, 14, 15, 16, 17] rfl rfl 1 0 rfl rfl (cwV 0 hts gX5_reign_X1_scandalsTogether rfl rfl rfl (by decide +kernel) ⟨(Nat.le_of_ble_eq_true rfl), (Nat.le_of_ble_eq_true rfl)⟩) rfl hl.1 rfl (Nat.le_of_ble_eq_true rfl) dX5_reign_58
          refine mc_i (wr := ((wG  aG0 aK0 aE0 aF0 aP0 aD0 aM0 aC0 gg) ++ (wK cI aK0 aK1 aK2 aK3 aK4 aK5 k) ++ (wD cI aD0 aD1 aD2 aD3 aD4 aT0 u_43.1))) hr hP hD hS hA [12, 13, 14, 15, 16, 17] [0, 1, 2, 3, 4, 5, 6, 7, 8, 9, 10, 11] [0, 1, 2, 3, 4, 5, 6, 7, 8, 9, 10, 11, 12, 13, 14, 15, 16, 17] rfl rfl rfl rfl rfl (wn := fun _ => ((wG  aG0 aK0 aE0 aF0 aP0 aD0 aM0 aC0 gg) ++ (wK cI aK0 aK1 aK2 aK3 aK4 aK5 k) ++ (wD cI aD0 aD1 aD2 aD3 aD4 aT0 u_43.1) ++ (wK cI aT0 aT1 aT2 aT3 aT4 aT5 u_43.2))) (fun _ => rfl) (fun r_58 _ H locs hw_58 hP hD hS => ?_)
          have hP : va_P δ vwCl ((wG  aG0 aK0 aE0 aF0 aP0 aD0 aM0 aC0 gg) ++ (wK cI aK0 aK1 aK2 aK3 aK4 aK5 k) ++ (wD cI aD0 aD1 aD2 aD3 aD4 aT0 u_43.1) ++ (wK cI aT0 aT1 aT2 aT3 aT4 aT5 u_43.2)) H := hP
          have hD : va_D A ((wG  aG0 aK0 aE0 aF0 aP0 aD0 aM0 aC0 gg) ++ (wK cI aK0 aK1 aK2 aK3 aK4 aK5 k) ++ (wD cI aD0 aD1 aD2 aD3 aD4 aT0 u_43.1) ++ (wK cI aT0 aT1 aT2 aT3 aT4 aT5 u_43.2)) := hD
          have hR := bnd_eq hR hw_58.symm
          exact hret _ _ r_58 (u_43.1, u_43.2) _ _ hR hP hD hS dX5_reign_61
      · have c_27 : (r_24 = 0) := c_27
        have hR := hR.trans (if_pos c_27)
        refine lv_bipush (v := (-2 : Int32)) hx hb dX5_reign_30 (by decide) ?_
        exact hret _ _ (-2 : Int32) (dy, kT) _ _ hR hP hD hS dX5_reign_32

abbrev rm_X5_image : Room := { frames := 2, cells := 0, slots := 0, locals := 69 }
set_option maxHeartbeats 4000000 in
set_option maxRecDepth 100000 in
theorem c_X5_image (l : Launch) (δ : va_G) (cI cJ cZ : ClassId) (aG0 aK0 aK1 aK2 aK3 aK4 aK5 aE0 aE1 aE2 aE3 aE4 aE5 aF0 aF1 aF2 aF3 aF4 aF5 aP0 aD0 aM0 aC0 : Nat) (gg : GS) (k : KS) (kE : KS) (kF : KS) (xk : Int32) : mMi l δ (mTy cI cJ cZ) yX5_image wsX5_image rm_X5_image [.ref aG0, .int xk] ((wG  aG0 aK0 aE0 aF0 aP0 aD0 aM0 aC0 gg) ++ (wK cI aK0 aK1 aK2 aK3 aK4 aK5 k) ++ (wK cI aE0 aE1 aE2 aE3 aE4 aE5 kE) ++ (wK cI aF0 aF1 aF2 aF3 aF4 aF5 kF)) (S := GS × KS × KS) (fun r u => F_X5_image gg k kE kF xk = (r, u)) (fun u => ((wG  aG0 aK0 aE0 aF0 aP0 aD0 aM0 aC0 u.1) ++ (wK cI aK0 aK1 aK2 aK3 aK4 aK5 k) ++ (wK cI aE0 aE1 aE2 aE3 aE4 aE5 u.2.1) ++ (wK cI aF0 aF1 aF2 aF3 aF4 aF5 u.2.2))) := by
  refine mk_i (cc := cX5_image) (maxL := 2) (by decide) rfl (Nat.le_of_ble_eq_true rfl) ?_
  intro p e s m args below meth c A Q ls H locs hx hb hml hts hown hK hNW hA hP hD hS hl hret
  have hown : s.vm.findClass RX5 = some m.cls := hown
  have hl : lv_has ls 2 [(0, .ref aG0), (1, .int xk)] := hl
  have hinX5 : ∀ w ∈ u_ws RX5 TX5 9, w ∈ wsX5_image := (fun _ h => List.mem_cons_of_mem _ (List.mem_append_left _ (List.mem_append_right _ (h))))
  have hR := F_X5_image.eq_1 gg k kE kF xk
  refine lv_iload_n hx hb dX5_image_0 rfl (lv_at hl 1 rfl) ?_
  refine lv_iconst (v := (0 : Int32)) hx hb dX5_image_1 (by decide) ?_
  refine lv_iconst (v := (1 : Int32)) hx hb dX5_image_2 (by decide) ?_
  have hr := mrS (p := p) (e := e) (R := rm_X5_image) (below := below) (meth := meth) (H := H) (locs := locs) (ls := ls) (As := [.int xk, .int (0 : Int32), .int (1 : Int32)]) (rest := []) (c_X5_isWithin l δ cI cJ cZ xk (0 : Int32) (1 : Int32)) hx hb hml hts hown hK hNW hP hD [] rfl rfl (va_cwS 3 hts gX5_image_X5_isWithin rfl rfl rfl (by decide +kernel) ⟨(Nat.le_of_ble_eq_true rfl), (Nat.le_of_ble_eq_true rfl)⟩) rfl hl.1 rfl (Nat.le_of_ble_eq_true rfl) dX5_image_3
  refine mc_i (wr := ((wG  aG0 aK0 aE0 aF0 aP0 aD0 aM0 aC0 gg) ++ (wK cI aK0 aK1 aK2 aK3 aK4 aK5 k) ++ (wK cI aE0 aE1 aE2 aE3 aE4 aE5 kE) ++ (wK cI aF0 aF1 aF2 aF3 aF4 aF5 kF))) hr hP hD hS hA [] [0, 1, 2, 3, 4, 5, 6, 7, 8, 9, 10, 11, 12, 13, 14, 15, 16, 17, 18] [0, 1, 2, 3, 4, 5, 6, 7, 8, 9, 10, 11, 12, 13, 14, 15, 16, 17, 18] rfl rfl rfl rfl rfl (wn := fun _ => ((wG  aG0 aK0 aE0 aF0 aP0 aD0 aM0 aC0 gg) ++ (wK cI aK0 aK1 aK2 aK3 aK4 aK5 k) ++ (wK cI aE0 aE1 aE2 aE3 aE4 aE5 kE) ++ (wK cI aF0 aF1 aF2 aF3 aF4 aF5 kF))) (fun _ => rfl) (fun r_3 _ H locs hw_3 hP hD hS => ?_)
  obtain ⟨hw_3, z_3⟩ := hw_3
  have hP : va_P δ vwCl ((wG  aG0 aK0 aE0 aF0 aP0 aD0 aM0 aC0 gg) ++ (wK cI aK0 aK1 aK2 aK3 aK4 aK5 k) ++ (wK cI aE0 aE1 aE2 aE3 aE4 aE5 kE) ++ (wK cI aF0 aF1 aF2 aF3 aF4 aF5 kF)) H := hP
  have hD : va_D A ((wG  aG0 aK0 aE0 aF0 aP0 aD0 aM0 aC0 gg) ++ (wK cI aK0 aK1 aK2 aK3 aK4 aK5 k) ++ (wK cI aE0 aE1 aE2 aE3 aE4 aE5 kE) ++ (wK cI aF0 aF1 aF2 aF3 aF4 aF5 kF)) := hD
  have hR := bnd_eq hR hw_3.symm
  refine lv_if_ne (tgt := 12) hx hb dX5_image_6 (by decide) (fun c_6 => ?_) (fun c_6 => ?_)
  · have c_6 : ¬ (r_3 = 0) := c_6
    have hR := hR.trans (if_neg c_6)
    refine lv_iload_n hx hb dX5_image_12 rfl (lv_at hl 1 rfl) ?_
    refine lv_if_ne (tgt := 35) hx hb dX5_image_13 (by decide) (fun c_13 => ?_) (fun c_13 => ?_)
    · have c_13 : ¬ (xk = 0) := c_13
      have hR := hR.trans (if_neg c_13)
      refine lv_aload_n hx hb dX5_image_35 rfl (lv_at hl 0 rfl) ?_
      refine va_get (D := δ) (ci := 5) (v := .ref aF0) (C := RX5) (T := TX5) (N := 9) hx hb hts hinX5 hown hK hP 0 rfl rfl 2 (by decide) (hts (.fieldLink RX5 19 "GloveHours" "secondImage" "LGloveHours$Court;") (List.mem_of_getElem? (i := 4) rfl)) (fun _ h9 => h9) rfl dX5_image_36 ?_
      refine lv_aload_n hx hb dX5_image_39 rfl (lv_at hl 0 rfl) ?_
      refine va_get (D := δ) (ci := 5) (v := .ref aK0) (C := RX5) (T := TX5) (N := 9) hx hb hts hinX5 hown hK hP 0 rfl rfl 0 (by decide) (hts (.fieldLink RX5 10 "GloveHours" "court" "LGloveHours$Court;") (List.mem_of_getElem? (i := 2) rfl)) (fun _ h9 => h9) rfl dX5_image_40 ?_
      have hr := mrV (p := p) (e := e) (R := rm_X5_image) (below := below) (meth := meth) (H := H) (locs := locs) (ls := ls) (As := [.ref aK0]) (rest := []) (c_X1_copyFrom l δ cI cJ cZ aF0 aF1 aF2 aF3 aF4 aF5 aK0 aK1 aK2 aK3 aK4 aK5 kF k) hx hb hml hts hown hK hNW hP hD [13, 14, 15, 16, 17, 18, 1, 2, 3, 4, 5, 6] rfl rfl 1 0 rfl rfl (cwV 1 hts gX5_image_X1_copyFrom rfl rfl rfl (by decide +kernel) ⟨(Nat.le_of_ble_eq_true rfl), (Nat.le_of_ble_eq_true rfl)⟩) rfl hl.1 rfl (Nat.le_of_ble_eq_true rfl) dX5_image_43
      refine mc_v (wr := ((wG  aG0 aK0 aE0 aF0 aP0 aD0 aM0 aC0 gg) ++ (wK cI aE0 aE1 aE2 aE3 aE4 aE5 kE))) hr hP hD hS hA [13, 14, 15, 16, 17, 18, 1, 2, 3, 4, 5, 6] [0, 7, 8, 9, 10, 11, 12] [0, 13, 14, 15, 16, 17, 18, 1, 2, 3, 4, 5, 6, 7, 8, 9, 10, 11, 12] rfl rfl rfl rfl rfl (wn := fun u_43 => ((wG  aG0 aK0 aE0 aF0 aP0 aD0 aM0 aC0 gg) ++ (wK cI aK0 aK1 aK2 aK3 aK4 aK5 k) ++ (wK cI aE0 aE1 aE2 aE3 aE4 aE5 kE) ++ (wK cI aF0 aF1 aF2 aF3 aF4 aF5 u_43))) (fun _ => rfl) (fun u_43 H locs hw_43 hP hD hS => ?_)
      have hP : va_P δ vwCl ((wG  aG0 aK0 aE0 aF0 aP0 aD0 aM0 aC0 gg) ++ (wK cI aK0 aK1 aK2 aK3 aK4 aK5 k) ++ (wK cI aE0 aE1 aE2 aE3 aE4 aE5 kE) ++ (wK cI aF0 aF1 aF2 aF3 aF4 aF5 u_43)) H := hP
      have hD : va_D A ((wG  aG0 aK0 aE0 aF0 aP0 aD0 aM0 aC0 gg) ++ (wK cI aK0 aK1 aK2 aK3 aK4 aK5 k) ++ (wK cI aE0 aE1 aE2 aE3 aE4 aE5 kE) ++ (wK cI aF0 aF1 aF2 aF3 aF4 aF5 u_43)) := hD
      have hR := bnd_eq hR hw_43.symm
      refine lv_aload_n hx hb dX5_image_46 rfl (lv_at hl 0 rfl) ?_
      refine lv_iconst (v := (1 : Int32)) hx hb dX5_image_47 (by decide) ?_
      refine va_put (D := δ) (ci := 5) (v := .int (1 : Int32)) (ty := .boolean) (C := RX5) (T := TX5) (N := 9) hx hb hts hinX5 tyX5 tyX5_ok nmX5 hown hK hP hD hS 0 rfl rfl 4 (by decide) (hts (.fieldLink RX5 227 "GloveHours" "secondKept" "Z") (List.mem_of_getElem? (i := 5) rfl)) (fun _ h9 => h9) rfl (by decide +kernel) rfl rfl (Nat.le_of_ble_eq_true rfl) dX5_image_48 (fun H locs hP hD hS => ?_)
      have hP : va_P δ vwCl ((wG  aG0 aK0 aE0 aF0 aP0 aD0 aM0 aC0 (gFirstKept gg, (1 : Int32))) ++ (wK cI aK0 aK1 aK2 aK3 aK4 aK5 k) ++ (wK cI aE0 aE1 aE2 aE3 aE4 aE5 kE) ++ (wK cI aF0 aF1 aF2 aF3 aF4 aF5 u_43)) H := hP
      have hD : va_D A ((wG  aG0 aK0 aE0 aF0 aP0 aD0 aM0 aC0 (gFirstKept gg, (1 : Int32))) ++ (wK cI aK0 aK1 aK2 aK3 aK4 aK5 k) ++ (wK cI aE0 aE1 aE2 aE3 aE4 aE5 kE) ++ (wK cI aF0 aF1 aF2 aF3 aF4 aF5 u_43)) := hD
      refine lv_iconst (v := (1 : Int32)) hx hb dX5_image_51 (by decide) ?_
      exact hret _ _ (1 : Int32) ((gFirstKept gg, (1 : Int32)), kE, u_43) _ _ hR hP hD hS dX5_image_52
    · have c_13 : (xk = 0) := c_13
      have hR := hR.trans (if_pos c_13)
      refine lv_aload_n hx hb dX5_image_16 rfl (lv_at hl 0 rfl) ?_
      refine va_get (D := δ) (ci := 5) (v := .ref aE0) (C := RX5) (T := TX5) (N := 9) hx hb hts hinX5 hown hK hP 0 rfl rfl 1 (by decide) (hts (.fieldLink RX5 16 "GloveHours" "firstImage" "LGloveHours$Court;") (List.mem_of_getElem? (i := 1) rfl)) (fun _ h9 => h9) rfl dX5_image_17 ?_
      refine lv_aload_n hx hb dX5_image_20 rfl (lv_at hl 0 rfl) ?_
      refine va_get (D := δ) (ci := 5) (v := .ref aK0) (C := RX5) (T := TX5) (N := 9) hx hb hts hinX5 hown hK hP 0 rfl rfl 0 (by decide) (hts (.fieldLink RX5 10 "GloveHours" "court" "LGloveHours$Court;") (List.mem_of_getElem? (i := 2) rfl)) (fun _ h9 => h9) rfl dX5_image_21 ?_
      have hr := mrV (p := p) (e := e) (R := rm_X5_image) (below := below) (meth := meth) (H := H) (locs := locs) (ls := ls) (As := [.ref aK0]) (rest := []) (c_X1_copyFrom l δ cI cJ cZ aE0 aE1 aE2 aE3 aE4 aE5 aK0 aK1 aK2 aK3 aK4 aK5 kE k) hx hb hml hts hown hK hNW hP hD [7, 8, 9, 10, 11, 12, 1, 2, 3, 4, 5, 6] rfl rfl 1 0 rfl rfl (cwV 1 hts gX5_image_X1_copyFrom rfl rfl rfl (by decide +kernel) ⟨(Nat.le_of_ble_eq_true rfl), (Nat.le_of_ble_eq_true rfl)⟩) rfl hl.1 rfl (Nat.le_of_ble_eq_true rfl) dX5_image_24
      refine mc_v (wr := ((wG  aG0 aK0 aE0 aF0 aP0 aD0 aM0 aC0 gg) ++ (wK cI aF0 aF1 aF2 aF3 aF4 aF5 kF))) hr hP hD hS hA [7, 8, 9, 10, 11, 12, 1, 2, 3, 4, 5, 6] [0, 13, 14, 15, 16, 17, 18] [0, 13, 14, 15, 16, 17, 18, 7, 8, 9, 10, 11, 12, 1, 2, 3, 4, 5, 6] rfl rfl rfl rfl rfl (wn := fun u_24 => ((wG  aG0 aK0 aE0 aF0 aP0 aD0 aM0 aC0 gg) ++ (wK cI aK0 aK1 aK2 aK3 aK4 aK5 k) ++ (wK cI aE0 aE1 aE2 aE3 aE4 aE5 u_24) ++ (wK cI aF0 aF1 aF2 aF3 aF4 aF5 kF))) (fun _ => rfl) (fun u_24 H locs hw_24 hP hD hS => ?_)
      have hP : va_P δ vwCl ((wG  aG0 aK0 aE0 aF0 aP0 aD0 aM0 aC0 gg) ++ (wK cI aK0 aK1 aK2 aK3 aK4 aK5 k) ++ (wK cI aE0 aE1 aE2 aE3 aE4 aE5 u_24) ++ (wK cI aF0 aF1 aF2 aF3 aF4 aF5 kF)) H := hP
      have hD : va_D A ((wG  aG0 aK0 aE0 aF0 aP0 aD0 aM0 aC0 gg) ++ (wK cI aK0 aK1 aK2 aK3 aK4 aK5 k) ++ (wK cI aE0 aE1 aE2 aE3 aE4 aE5 u_24) ++ (wK cI aF0 aF1 aF2 aF3 aF4 aF5 kF)) := hD
      have hR := bnd_eq hR hw_24.symm
      refine lv_aload_n hx hb dX5_image_27 rfl (lv_at hl 0 rfl) ?_
      refine lv_iconst (v := (1 : Int32)) hx hb dX5_image_28 (by decide) ?_
      refine va_put (D := δ) (ci := 5) (v := .int (1 : Int32)) (ty := .boolean) (C := RX5) (T := TX5) (N := 9) hx hb hts hinX5 tyX5 tyX5_ok nmX5 hown hK hP hD hS 0 rfl rfl 3 (by decide) (hts (.fieldLink RX5 223 "GloveHours" "firstKept" "Z") (List.mem_of_getElem? (i := 3) rfl)) (fun _ h9 => h9) rfl (by decide +kernel) rfl rfl (Nat.le_of_ble_eq_true rfl) dX5_image_29 (fun H locs hP hD hS => ?_)
      have hP : va_P δ vwCl ((wG  aG0 aK0 aE0 aF0 aP0 aD0 aM0 aC0 ((1 : Int32), gSecondKept gg)) ++ (wK cI aK0 aK1 aK2 aK3 aK4 aK5 k) ++ (wK cI aE0 aE1 aE2 aE3 aE4 aE5 u_24) ++ (wK cI aF0 aF1 aF2 aF3 aF4 aF5 kF)) H := hP
      have hD : va_D A ((wG  aG0 aK0 aE0 aF0 aP0 aD0 aM0 aC0 ((1 : Int32), gSecondKept gg)) ++ (wK cI aK0 aK1 aK2 aK3 aK4 aK5 k) ++ (wK cI aE0 aE1 aE2 aE3 aE4 aE5 u_24) ++ (wK cI aF0 aF1 aF2 aF3 aF4 aF5 kF)) := hD
      refine lv_goto (tgt := 51) hx hb dX5_image_32 (by decide) ?_
      refine lv_iconst (v := (1 : Int32)) hx hb dX5_image_51 (by decide) ?_
      exact hret _ _ (1 : Int32) (((1 : Int32), gSecondKept gg), u_24, kF) _ _ hR hP hD hS dX5_image_52
  · have c_6 : (r_3 = 0) := c_6
    have hR := hR.trans (if_pos c_6)
    refine lv_bipush (v := (-2 : Int32)) hx hb dX5_image_9 (by decide) ?_
    exact hret _ _ (-2 : Int32) (gg, kE, kF) _ _ hR hP hD hS dX5_image_11

abbrev rm_X5_restore : Room := { frames := 2, cells := 0, slots := 0, locals := 69 }
set_option maxHeartbeats 4000000 in
set_option maxRecDepth 100000 in
theorem c_X5_restore (l : Launch) (δ : va_G) (cI cJ cZ : ClassId) (aG0 aK0 aK1 aK2 aK3 aK4 aK5 aE0 aE1 aE2 aE3 aE4 aE5 aF0 aF1 aF2 aF3 aF4 aF5 aP0 aD0 aM0 aC0 : Nat) (gg : GS) (k : KS) (kE : KS) (kF : KS) (xk : Int32) : mMi l δ (mTy cI cJ cZ) yX5_restore wsX5_restore rm_X5_restore [.ref aG0, .int xk] ((wG  aG0 aK0 aE0 aF0 aP0 aD0 aM0 aC0 gg) ++ (wK cI aK0 aK1 aK2 aK3 aK4 aK5 k) ++ (wK cI aE0 aE1 aE2 aE3 aE4 aE5 kE) ++ (wK cI aF0 aF1 aF2 aF3 aF4 aF5 kF)) (S := KS) (fun r u => F_X5_restore gg k kE kF xk = (r, u)) (fun u => ((wG  aG0 aK0 aE0 aF0 aP0 aD0 aM0 aC0 gg) ++ (wK cI aK0 aK1 aK2 aK3 aK4 aK5 u) ++ (wK cI aE0 aE1 aE2 aE3 aE4 aE5 kE) ++ (wK cI aF0 aF1 aF2 aF3 aF4 aF5 kF))) := by
  refine mk_i (cc := cX5_restore) (maxL := 3) (by decide) rfl (Nat.le_of_ble_eq_true rfl) ?_
  intro p e s m args below meth c A Q ls H locs hx hb hml hts hown hK hNW hA hP hD hS hl hret
  have hown : s.vm.findClass RX5 = some m.cls := hown
  have hl : lv_has ls 3 [(0, .ref aG0), (1, .int xk)] := hl
  have hinX5 : ∀ w ∈ u_ws RX5 TX5 9, w ∈ wsX5_restore := (fun _ h => List.mem_cons_of_mem _ (List.mem_append_left _ (List.mem_append_right _ (h))))
  have hR := F_X5_restore.eq_1 gg k kE kF xk
  refine lv_iload_n hx hb dX5_restore_0 rfl (lv_at hl 1 rfl) ?_
  refine lv_iconst (v := (0 : Int32)) hx hb dX5_restore_1 (by decide) ?_
  refine lv_iconst (v := (1 : Int32)) hx hb dX5_restore_2 (by decide) ?_
  have hr := mrS (p := p) (e := e) (R := rm_X5_restore) (below := below) (meth := meth) (H := H) (locs := locs) (ls := ls) (As := [.int xk, .int (0 : Int32), .int (1 : Int32)]) (rest := []) (c_X5_isWithin l δ cI cJ cZ xk (0 : Int32) (1 : Int32)) hx hb hml hts hown hK hNW hP hD [] rfl rfl (va_cwS 3 hts gX5_restore_X5_isWithin rfl rfl rfl (by decide +kernel) ⟨(Nat.le_of_ble_eq_true rfl), (Nat.le_of_ble_eq_true rfl)⟩) rfl hl.1 rfl (Nat.le_of_ble_eq_true rfl) dX5_restore_3
  refine mc_i (wr := ((wG  aG0 aK0 aE0 aF0 aP0 aD0 aM0 aC0 gg) ++ (wK cI aK0 aK1 aK2 aK3 aK4 aK5 k) ++ (wK cI aE0 aE1 aE2 aE3 aE4 aE5 kE) ++ (wK cI aF0 aF1 aF2 aF3 aF4 aF5 kF))) hr hP hD hS hA [] [0, 1, 2, 3, 4, 5, 6, 7, 8, 9, 10, 11, 12, 13, 14, 15, 16, 17, 18] [0, 1, 2, 3, 4, 5, 6, 7, 8, 9, 10, 11, 12, 13, 14, 15, 16, 17, 18] rfl rfl rfl rfl rfl (wn := fun _ => ((wG  aG0 aK0 aE0 aF0 aP0 aD0 aM0 aC0 gg) ++ (wK cI aK0 aK1 aK2 aK3 aK4 aK5 k) ++ (wK cI aE0 aE1 aE2 aE3 aE4 aE5 kE) ++ (wK cI aF0 aF1 aF2 aF3 aF4 aF5 kF))) (fun _ => rfl) (fun r_3 _ H locs hw_3 hP hD hS => ?_)
  obtain ⟨hw_3, z_3⟩ := hw_3
  have hP : va_P δ vwCl ((wG  aG0 aK0 aE0 aF0 aP0 aD0 aM0 aC0 gg) ++ (wK cI aK0 aK1 aK2 aK3 aK4 aK5 k) ++ (wK cI aE0 aE1 aE2 aE3 aE4 aE5 kE) ++ (wK cI aF0 aF1 aF2 aF3 aF4 aF5 kF)) H := hP
  have hD : va_D A ((wG  aG0 aK0 aE0 aF0 aP0 aD0 aM0 aC0 gg) ++ (wK cI aK0 aK1 aK2 aK3 aK4 aK5 k) ++ (wK cI aE0 aE1 aE2 aE3 aE4 aE5 kE) ++ (wK cI aF0 aF1 aF2 aF3 aF4 aF5 kF)) := hD
  have hR := bnd_eq hR hw_3.symm
  refine lv_if_ne (tgt := 12) hx hb dX5_restore_6 (by decide) (fun c_6 => ?_) (fun c_6 => ?_)
  · have c_6 : ¬ (r_3 = 0) := c_6
    have hR := hR.trans (if_neg c_6)
    refine lv_iload_n hx hb dX5_restore_12 rfl (lv_at hl 1 rfl) ?_
    refine lv_if_ne (tgt := 23) hx hb dX5_restore_13 (by decide) (fun c_13 => ?_) (fun c_13 => ?_)
    · have c_13 : ¬ (xk = 0) := c_13
      have hR := hR.trans (if_neg c_13)
      refine lv_aload_n hx hb dX5_restore_23 rfl (lv_at hl 0 rfl) ?_
      refine va_get (D := δ) (ci := 5) (v := .int (gSecondKept gg)) (C := RX5) (T := TX5) (N := 9) hx hb hts hinX5 hown hK hP 0 rfl rfl 4 (by decide) (hts (.fieldLink RX5 227 "GloveHours" "secondKept" "Z") (List.mem_of_getElem? (i := 2) rfl)) (fun _ h9 => h9) rfl dX5_restore_24 ?_
      refine lv_istore_n (lv' := [(2, .int (gSecondKept gg)), (0, .ref aG0), (1, .int xk)]) hx hb dX5_restore_27 rfl hl (by decide) rfl (fun ls hl => ?_)
      refine lv_iload_n hx hb dX5_restore_28 rfl (lv_at hl 0 rfl) ?_
      refine lv_if_ne (tgt := 35) hx hb dX5_restore_29 (by decide) (fun c_29 => ?_) (fun c_29 => ?_)
      · have c_29 : ¬ ((gSecondKept gg) = 0) := c_29
        have hR := hR.trans (if_neg c_29)
        refine lv_aload_n hx hb dX5_restore_35 rfl (lv_at hl 1 rfl) ?_
        refine va_get (D := δ) (ci := 5) (v := .ref aK0) (C := RX5) (T := TX5) (N := 9) hx hb hts hinX5 hown hK hP 0 rfl rfl 0 (by decide) (hts (.fieldLink RX5 10 "GloveHours" "court" "LGloveHours$Court;") (List.mem_of_getElem? (i := 3) rfl)) (fun _ h9 => h9) rfl dX5_restore_36 ?_
        refine lv_iload_n hx hb dX5_restore_39 rfl (lv_at hl 2 rfl) ?_
        refine lv_if_ne (tgt := 50) hx hb dX5_restore_40 (by decide) (fun c_40 => ?_) (fun c_40 => ?_)
        · have c_40 : ¬ (xk = 0) := c_40
          have hR := hR.trans (if_neg c_40)
          refine lv_aload_n hx hb dX5_restore_50 rfl (lv_at hl 1 rfl) ?_
          refine va_get (D := δ) (ci := 5) (v := .ref aF0) (C := RX5) (T := TX5) (N := 9) hx hb hts hinX5 hown hK hP 0 rfl rfl 2 (by decide) (hts (.fieldLink RX5 19 "GloveHours" "secondImage" "LGloveHours$Court;") (List.mem_of_getElem? (i := 5) rfl)) (fun _ h9 => h9) rfl dX5_restore_51 ?_
          have hr := mrV (p := p) (e := e) (R := rm_X5_restore) (below := below) (meth := meth) (H := H) (locs := locs) (ls := ls) (As := [.ref aF0]) (rest := []) (c_X1_copyFrom l δ cI cJ cZ aK0 aK1 aK2 aK3 aK4 aK5 aF0 aF1 aF2 aF3 aF4 aF5 k kF) hx hb hml hts hown hK hNW hP hD [1, 2, 3, 4, 5, 6, 13, 14, 15, 16, 17, 18] rfl rfl 1 0 rfl rfl (cwV 1 hts gX5_restore_X1_copyFrom rfl rfl rfl (by decide +kernel) ⟨(Nat.le_of_ble_eq_true rfl), (Nat.le_of_ble_eq_true rfl)⟩) rfl hl.1 rfl (Nat.le_of_ble_eq_true rfl) dX5_restore_54
          refine mc_v (wr := ((wG  aG0 aK0 aE0 aF0 aP0 aD0 aM0 aC0 gg) ++ (wK cI aE0 aE1 aE2 aE3 aE4 aE5 kE))) hr hP hD hS hA [1, 2, 3, 4, 5, 6, 13, 14, 15, 16, 17, 18] [0, 7, 8, 9, 10, 11, 12] [0, 7, 8, 9, 10, 11, 12, 1, 2, 3, 4, 5, 6, 13, 14, 15, 16, 17, 18] rfl rfl rfl rfl rfl (wn := fun u_54 => ((wG  aG0 aK0 aE0 aF0 aP0 aD0 aM0 aC0 gg) ++ (wK cI aK0 aK1 aK2 aK3 aK4 aK5 u_54) ++ (wK cI aE0 aE1 aE2 aE3 aE4 aE5 kE) ++ (wK cI aF0 aF1 aF2 aF3 aF4 aF5 kF))) (fun _ => rfl) (fun u_54 H locs hw_54 hP hD hS => ?_)
          have hP : va_P δ vwCl ((wG  aG0 aK0 aE0 aF0 aP0 aD0 aM0 aC0 gg) ++ (wK cI aK0 aK1 aK2 aK3 aK4 aK5 u_54) ++ (wK cI aE0 aE1 aE2 aE3 aE4 aE5 kE) ++ (wK cI aF0 aF1 aF2 aF3 aF4 aF5 kF)) H := hP
          have hD : va_D A ((wG  aG0 aK0 aE0 aF0 aP0 aD0 aM0 aC0 gg) ++ (wK cI aK0 aK1 aK2 aK3 aK4 aK5 u_54) ++ (wK cI aE0 aE1 aE2 aE3 aE4 aE5 kE) ++ (wK cI aF0 aF1 aF2 aF3 aF4 aF5 kF)) := hD
          have hR := bnd_eq hR hw_54.symm
          refine lv_iconst (v := (1 : Int32)) hx hb dX5_restore_57 (by decide) ?_
          exact hret _ _ (1 : Int32) u_54 _ _ hR hP hD hS dX5_restore_58
        · have c_40 : (xk = 0) := c_40
          have hR := hR.trans (if_pos c_40)
          refine lv_aload_n hx hb dX5_restore_43 rfl (lv_at hl 1 rfl) ?_
          refine va_get (D := δ) (ci := 5) (v := .ref aE0) (C := RX5) (T := TX5) (N := 9) hx hb hts hinX5 hown hK hP 0 rfl rfl 1 (by decide) (hts (.fieldLink RX5 16 "GloveHours" "firstImage" "LGloveHours$Court;") (List.mem_of_getElem? (i := 4) rfl)) (fun _ h9 => h9) rfl dX5_restore_44 ?_
          refine lv_goto (tgt := 54) hx hb dX5_restore_47 (by decide) ?_
          have hr := mrV (p := p) (e := e) (R := rm_X5_restore) (below := below) (meth := meth) (H := H) (locs := locs) (ls := ls) (As := [.ref aE0]) (rest := []) (c_X1_copyFrom l δ cI cJ cZ aK0 aK1 aK2 aK3 aK4 aK5 aE0 aE1 aE2 aE3 aE4 aE5 k kE) hx hb hml hts hown hK hNW hP hD [1, 2, 3, 4, 5, 6, 7, 8, 9, 10, 11, 12] rfl rfl 1 0 rfl rfl (cwV 1 hts gX5_restore_X1_copyFrom rfl rfl rfl (by decide +kernel) ⟨(Nat.le_of_ble_eq_true rfl), (Nat.le_of_ble_eq_true rfl)⟩) rfl hl.1 rfl (Nat.le_of_ble_eq_true rfl) dX5_restore_54
          refine mc_v (wr := ((wG  aG0 aK0 aE0 aF0 aP0 aD0 aM0 aC0 gg) ++ (wK cI aF0 aF1 aF2 aF3 aF4 aF5 kF))) hr hP hD hS hA [1, 2, 3, 4, 5, 6, 7, 8, 9, 10, 11, 12] [0, 13, 14, 15, 16, 17, 18] [0, 7, 8, 9, 10, 11, 12, 13, 14, 15, 16, 17, 18, 1, 2, 3, 4, 5, 6] rfl rfl rfl rfl rfl (wn := fun u_54 => ((wG  aG0 aK0 aE0 aF0 aP0 aD0 aM0 aC0 gg) ++ (wK cI aK0 aK1 aK2 aK3 aK4 aK5 u_54) ++ (wK cI aE0 aE1 aE2 aE3 aE4 aE5 kE) ++ (wK cI aF0 aF1 aF2 aF3 aF4 aF5 kF))) (fun _ => rfl) (fun u_54 H locs hw_54 hP hD hS => ?_)
          have hP : va_P δ vwCl ((wG  aG0 aK0 aE0 aF0 aP0 aD0 aM0 aC0 gg) ++ (wK cI aK0 aK1 aK2 aK3 aK4 aK5 u_54) ++ (wK cI aE0 aE1 aE2 aE3 aE4 aE5 kE) ++ (wK cI aF0 aF1 aF2 aF3 aF4 aF5 kF)) H := hP
          have hD : va_D A ((wG  aG0 aK0 aE0 aF0 aP0 aD0 aM0 aC0 gg) ++ (wK cI aK0 aK1 aK2 aK3 aK4 aK5 u_54) ++ (wK cI aE0 aE1 aE2 aE3 aE4 aE5 kE) ++ (wK cI aF0 aF1 aF2 aF3 aF4 aF5 kF)) := hD
          have hR := bnd_eq hR hw_54.symm
          refine lv_iconst (v := (1 : Int32)) hx hb dX5_restore_57 (by decide) ?_
          exact hret _ _ (1 : Int32) u_54 _ _ hR hP hD hS dX5_restore_58
      · have c_29 : ((gSecondKept gg) = 0) := c_29
        have hR := hR.trans (if_pos c_29)
        refine lv_bipush (v := (-3 : Int32)) hx hb dX5_restore_32 (by decide) ?_
        exact hret _ _ (-3 : Int32) k _ _ hR hP hD hS dX5_restore_34
    · have c_13 : (xk = 0) := c_13
      have hR := hR.trans (if_pos c_13)
      refine lv_aload_n hx hb dX5_restore_16 rfl (lv_at hl 0 rfl) ?_
      refine va_get (D := δ) (ci := 5) (v := .int (gFirstKept gg)) (C := RX5) (T := TX5) (N := 9) hx hb hts hinX5 hown hK hP 0 rfl rfl 3 (by decide) (hts (.fieldLink RX5 223 "GloveHours" "firstKept" "Z") (List.mem_of_getElem? (i := 1) rfl)) (fun _ h9 => h9) rfl dX5_restore_17 ?_
      refine lv_goto (tgt := 27) hx hb dX5_restore_20 (by decide) ?_
      refine lv_istore_n (lv' := [(2, .int (gFirstKept gg)), (0, .ref aG0), (1, .int xk)]) hx hb dX5_restore_27 rfl hl (by decide) rfl (fun ls hl => ?_)
      refine lv_iload_n hx hb dX5_restore_28 rfl (lv_at hl 0 rfl) ?_
      refine lv_if_ne (tgt := 35) hx hb dX5_restore_29 (by decide) (fun c_29 => ?_) (fun c_29 => ?_)
      · have c_29 : ¬ ((gFirstKept gg) = 0) := c_29
        have hR := hR.trans (if_neg c_29)
        refine lv_aload_n hx hb dX5_restore_35 rfl (lv_at hl 1 rfl) ?_
        refine va_get (D := δ) (ci := 5) (v := .ref aK0) (C := RX5) (T := TX5) (N := 9) hx hb hts hinX5 hown hK hP 0 rfl rfl 0 (by decide) (hts (.fieldLink RX5 10 "GloveHours" "court" "LGloveHours$Court;") (List.mem_of_getElem? (i := 3) rfl)) (fun _ h9 => h9) rfl dX5_restore_36 ?_
        refine lv_iload_n hx hb dX5_restore_39 rfl (lv_at hl 2 rfl) ?_
        refine lv_if_ne (tgt := 50) hx hb dX5_restore_40 (by decide) (fun c_40 => ?_) (fun c_40 => ?_)
        · have c_40 : ¬ (xk = 0) := c_40
          have hR := hR.trans (if_neg c_40)
          refine lv_aload_n hx hb dX5_restore_50 rfl (lv_at hl 1 rfl) ?_
          refine va_get (D := δ) (ci := 5) (v := .ref aF0) (C := RX5) (T := TX5) (N := 9) hx hb hts hinX5 hown hK hP 0 rfl rfl 2 (by decide) (hts (.fieldLink RX5 19 "GloveHours" "secondImage" "LGloveHours$Court;") (List.mem_of_getElem? (i := 5) rfl)) (fun _ h9 => h9) rfl dX5_restore_51 ?_
          have hr := mrV (p := p) (e := e) (R := rm_X5_restore) (below := below) (meth := meth) (H := H) (locs := locs) (ls := ls) (As := [.ref aF0]) (rest := []) (c_X1_copyFrom l δ cI cJ cZ aK0 aK1 aK2 aK3 aK4 aK5 aF0 aF1 aF2 aF3 aF4 aF5 k kF) hx hb hml hts hown hK hNW hP hD [1, 2, 3, 4, 5, 6, 13, 14, 15, 16, 17, 18] rfl rfl 1 0 rfl rfl (cwV 1 hts gX5_restore_X1_copyFrom rfl rfl rfl (by decide +kernel) ⟨(Nat.le_of_ble_eq_true rfl), (Nat.le_of_ble_eq_true rfl)⟩) rfl hl.1 rfl (Nat.le_of_ble_eq_true rfl) dX5_restore_54
          refine mc_v (wr := ((wG  aG0 aK0 aE0 aF0 aP0 aD0 aM0 aC0 gg) ++ (wK cI aE0 aE1 aE2 aE3 aE4 aE5 kE))) hr hP hD hS hA [1, 2, 3, 4, 5, 6, 13, 14, 15, 16, 17, 18] [0, 7, 8, 9, 10, 11, 12] [0, 7, 8, 9, 10, 11, 12, 1, 2, 3, 4, 5, 6, 13, 14, 15, 16, 17, 18] rfl rfl rfl rfl rfl (wn := fun u_54 => ((wG  aG0 aK0 aE0 aF0 aP0 aD0 aM0 aC0 gg) ++ (wK cI aK0 aK1 aK2 aK3 aK4 aK5 u_54) ++ (wK cI aE0 aE1 aE2 aE3 aE4 aE5 kE) ++ (wK cI aF0 aF1 aF2 aF3 aF4 aF5 kF))) (fun _ => rfl) (fun u_54 H locs hw_54 hP hD hS => ?_)
          have hP : va_P δ vwCl ((wG  aG0 aK0 aE0 aF0 aP0 aD0 aM0 aC0 gg) ++ (wK cI aK0 aK1 aK2 aK3 aK4 aK5 u_54) ++ (wK cI aE0 aE1 aE2 aE3 aE4 aE5 kE) ++ (wK cI aF0 aF1 aF2 aF3 aF4 aF5 kF)) H := hP
          have hD : va_D A ((wG  aG0 aK0 aE0 aF0 aP0 aD0 aM0 aC0 gg) ++ (wK cI aK0 aK1 aK2 aK3 aK4 aK5 u_54) ++ (wK cI aE0 aE1 aE2 aE3 aE4 aE5 kE) ++ (wK cI aF0 aF1 aF2 aF3 aF4 aF5 kF)) := hD
          have hR := bnd_eq hR hw_54.symm
          refine lv_iconst (v := (1 : Int32)) hx hb dX5_restore_57 (by decide) ?_
          exact hret _ _ (1 : Int32) u_54 _ _ hR hP hD hS dX5_restore_58
        · have c_40 : (xk = 0) := c_40
          have hR := hR.trans (if_pos c_40)
          refine lv_aload_n hx hb dX5_restore_43 rfl (lv_at hl 1 rfl) ?_
          refine va_get (D := δ) (ci := 5) (v := .ref aE0) (C := RX5) (T := TX5) (N := 9) hx hb hts hinX5 hown hK hP 0 rfl rfl 1 (by decide) (hts (.fieldLink RX5 16 "GloveHours" "firstImage" "LGloveHours$Court;") (List.mem_of_getElem? (i := 4) rfl)) (fun _ h9 => h9) rfl dX5_restore_44 ?_
          refine lv_goto (tgt := 54) hx hb dX5_restore_47 (by decide) ?_
          have hr := mrV (p := p) (e := e) (R := rm_X5_restore) (below := below) (meth := meth) (H := H) (locs := locs) (ls := ls) (As := [.ref aE0]) (rest := []) (c_X1_copyFrom l δ cI cJ cZ aK0 aK1 aK2 aK3 aK4 aK5 aE0 aE1 aE2 aE3 aE4 aE5 k kE) hx hb hml hts hown hK hNW hP hD [1, 2, 3, 4, 5, 6, 7, 8, 9, 10, 11, 12] rfl rfl 1 0 rfl rfl (cwV 1 hts gX5_restore_X1_copyFrom rfl rfl rfl (by decide +kernel) ⟨(Nat.le_of_ble_eq_true rfl), (Nat.le_of_ble_eq_true rfl)⟩) rfl hl.1 rfl (Nat.le_of_ble_eq_true rfl) dX5_restore_54
          refine mc_v (wr := ((wG  aG0 aK0 aE0 aF0 aP0 aD0 aM0 aC0 gg) ++ (wK cI aF0 aF1 aF2 aF3 aF4 aF5 kF))) hr hP hD hS hA [1, 2, 3, 4, 5, 6, 7, 8, 9, 10, 11, 12] [0, 13, 14, 15, 16, 17, 18] [0, 7, 8, 9, 10, 11, 12, 13, 14, 15, 16, 17, 18, 1, 2, 3, 4, 5, 6] rfl rfl rfl rfl rfl (wn := fun u_54 => ((wG  aG0 aK0 aE0 aF0 aP0 aD0 aM0 aC0 gg) ++ (wK cI aK0 aK1 aK2 aK3 aK4 aK5 u_54) ++ (wK cI aE0 aE1 aE2 aE3 aE4 aE5 kE) ++ (wK cI aF0 aF1 aF2 aF3 aF4 aF5 kF))) (fun _ => rfl) (fun u_54 H locs hw_54 hP hD hS => ?_)
          have hP : va_P δ vwCl ((wG  aG0 aK0 aE0 aF0 aP0 aD0 aM0 aC0 gg) ++ (wK cI aK0 aK1 aK2 aK3 aK4 aK5 u_54) ++ (wK cI aE0 aE1 aE2 aE3 aE4 aE5 kE) ++ (wK cI aF0 aF1 aF2 aF3 aF4 aF5 kF)) H := hP
          have hD : va_D A ((wG  aG0 aK0 aE0 aF0 aP0 aD0 aM0 aC0 gg) ++ (wK cI aK0 aK1 aK2 aK3 aK4 aK5 u_54) ++ (wK cI aE0 aE1 aE2 aE3 aE4 aE5 kE) ++ (wK cI aF0 aF1 aF2 aF3 aF4 aF5 kF)) := hD
          have hR := bnd_eq hR hw_54.symm
          refine lv_iconst (v := (1 : Int32)) hx hb dX5_restore_57 (by decide) ?_
          exact hret _ _ (1 : Int32) u_54 _ _ hR hP hD hS dX5_restore_58
      · have c_29 : ((gFirstKept gg) = 0) := c_29
        have hR := hR.trans (if_pos c_29)
        refine lv_bipush (v := (-3 : Int32)) hx hb dX5_restore_32 (by decide) ?_
        exact hret _ _ (-3 : Int32) k _ _ hR hP hD hS dX5_restore_34
  · have c_6 : (r_3 = 0) := c_6
    have hR := hR.trans (if_pos c_6)
    refine lv_bipush (v := (-2 : Int32)) hx hb dX5_restore_9 (by decide) ?_
    exact hret _ _ (-2 : Int32) k _ _ hR hP hD hS dX5_restore_11

abbrev rm_X5_told : Room := { frames := 3, cells := 0, slots := 0, locals := 67 }
set_option maxHeartbeats 4000000 in
set_option maxRecDepth 100000 in
theorem c_X5_told (l : Launch) (δ : va_G) (cI cJ cZ : ClassId) (aG0 aK0 aK1 aK2 aK3 aK4 aK5 aP0 aP1 aE0 aF0 aD0 aM0 aC0 : Nat) (gg : GS) (k : KS) (pp : PS) (xw : Int32) : mMi l δ (mTy cI cJ cZ) yX5_told wsX5_told rm_X5_told [.ref aG0, .int xw] ((wG  aG0 aK0 aE0 aF0 aP0 aD0 aM0 aC0 gg) ++ (wK cI aK0 aK1 aK2 aK3 aK4 aK5 k) ++ (wP cI aP0 aP1 pp)) (S := Unit) (fun r _ => F_X5_told k pp xw = r) (fun _ => ((wG  aG0 aK0 aE0 aF0 aP0 aD0 aM0 aC0 gg) ++ (wK cI aK0 aK1 aK2 aK3 aK4 aK5 k) ++ (wP cI aP0 aP1 pp))) := by
  refine mk_i (cc := cX5_told) (maxL := 2) (by decide) rfl (Nat.le_of_ble_eq_true rfl) ?_
  intro p e s m args below meth c A Q ls H locs hx hb hml hts hown hK hNW hA hP hD hS hl hret
  have hown : s.vm.findClass RX5 = some m.cls := hown
  have hl : lv_has ls 2 [(0, .ref aG0), (1, .int xw)] := hl
  have hinX1 : ∀ w ∈ u_ws RX1 TX1 11, w ∈ wsX5_told := (fun _ h => List.mem_cons_of_mem _ (List.mem_append_right _ (h)))
  have hinX4 : ∀ w ∈ u_ws RX4 TX4 2, w ∈ wsX5_told := (fun _ h => List.mem_cons_of_mem _ (List.mem_append_left _ (List.mem_append_right _ (h))))
  have hinX5 : ∀ w ∈ u_ws RX5 TX5 9, w ∈ wsX5_told := (fun _ h => List.mem_cons_of_mem _ (List.mem_append_left _ (List.mem_append_left _ (List.mem_append_right _ (h)))))
  have hR := F_X5_told.eq_1 k pp xw
  refine lv_iload_n hx hb dX5_told_0 rfl (lv_at hl 1 rfl) ?_
  by_cases c_1_0 : xw = (0 : Int32)
  · have hR := hR.trans (if_pos c_1_0)
    refine lv_tableIn (tgt := 36) (off := 35) hx hb dX5_told_1 (by rw [c_1_0]; decide) (by rw [c_1_0]; decide) (by rw [c_1_0]; rfl) (by decide) ?_
    refine lv_aload_n hx hb dX5_told_36 rfl (lv_at hl 0 rfl) ?_
    refine va_get (D := δ) (ci := 5) (v := .ref aP0) (C := RX5) (T := TX5) (N := 9) hx hb hts hinX5 hown hK hP 0 rfl rfl 5 (by decide) (hts (.fieldLink RX5 25 "GloveHours" "pad" "LGloveHours$Pad;") (List.mem_of_getElem? (i := 1) rfl)) (fun _ h9 => h9) rfl dX5_told_37 ?_
    refine va_get (D := δ) (ci := 4) (v := .int (pLength pp)) (C := RX4) (T := TX4) (N := 2) hx hb hts hinX4 hown hK hP 7 rfl rfl 0 (by decide) (hts (.fieldLink RX5 86 "GloveHours$Pad" "length" "I") (List.mem_of_getElem? (i := 2) rfl)) (fun _ h9 => h9) rfl dX5_told_40 ?_
    exact hret _ _ (pLength pp) () _ _ hR hP hD hS dX5_told_43
  have hR := hR.trans (if_neg c_1_0)
  by_cases c_1_1 : xw = (1 : Int32)
  · have hR := hR.trans (if_pos c_1_1)
    refine lv_tableIn (tgt := 44) (off := 43) hx hb dX5_told_1 (by rw [c_1_1]; decide) (by rw [c_1_1]; decide) (by rw [c_1_1]; rfl) (by decide) ?_
    refine lv_aload_n hx hb dX5_told_44 rfl (lv_at hl 0 rfl) ?_
    refine va_get (D := δ) (ci := 5) (v := .ref aK0) (C := RX5) (T := TX5) (N := 9) hx hb hts hinX5 hown hK hP 0 rfl rfl 0 (by decide) (hts (.fieldLink RX5 10 "GloveHours" "court" "LGloveHours$Court;") (List.mem_of_getElem? (i := 3) rfl)) (fun _ h9 => h9) rfl dX5_told_45 ?_
    refine va_get (D := δ) (ci := 1) (v := .int (kPresent k)) (C := RX1) (T := TX1) (N := 11) hx hb hts hinX1 hown hK hP 1 rfl rfl 0 (by decide) (hts (.fieldLink RX5 59 "GloveHours$Court" "present" "I") (List.mem_of_getElem? (i := 4) rfl)) (fun _ h9 => h9) rfl dX5_told_48 ?_
    exact hret _ _ (kPresent k) () _ _ hR hP hD hS dX5_told_51
  have hR := hR.trans (if_neg c_1_1)
  by_cases c_1_2 : xw = (2 : Int32)
  · have hR := hR.trans (if_pos c_1_2)
    refine lv_tableIn (tgt := 52) (off := 51) hx hb dX5_told_1 (by rw [c_1_2]; decide) (by rw [c_1_2]; decide) (by rw [c_1_2]; rfl) (by decide) ?_
    refine lv_aload_n hx hb dX5_told_52 rfl (lv_at hl 0 rfl) ?_
    refine va_get (D := δ) (ci := 5) (v := .ref aK0) (C := RX5) (T := TX5) (N := 9) hx hb hts hinX5 hown hK hP 0 rfl rfl 0 (by decide) (hts (.fieldLink RX5 10 "GloveHours" "court" "LGloveHours$Court;") (List.mem_of_getElem? (i := 3) rfl)) (fun _ h9 => h9) rfl dX5_told_53 ?_
    refine va_get (D := δ) (ci := 1) (v := .int (kClock k)) (C := RX1) (T := TX1) (N := 11) hx hb hts hinX1 hown hK hP 1 rfl rfl 1 (by decide) (hts (.fieldLink RX5 77 "GloveHours$Court" "clock" "I") (List.mem_of_getElem? (i := 5) rfl)) (fun _ h9 => h9) rfl dX5_told_56 ?_
    exact hret _ _ (kClock k) () _ _ hR hP hD hS dX5_told_59
  have hR := hR.trans (if_neg c_1_2)
  by_cases c_1_3 : xw = (3 : Int32)
  · have hR := hR.trans (if_pos c_1_3)
    refine lv_tableIn (tgt := 60) (off := 59) hx hb dX5_told_1 (by rw [c_1_3]; decide) (by rw [c_1_3]; decide) (by rw [c_1_3]; rfl) (by decide) ?_
    refine lv_aload_n hx hb dX5_told_60 rfl (lv_at hl 0 rfl) ?_
    refine va_get (D := δ) (ci := 5) (v := .ref aK0) (C := RX5) (T := TX5) (N := 9) hx hb hts hinX5 hown hK hP 0 rfl rfl 0 (by decide) (hts (.fieldLink RX5 10 "GloveHours" "court" "LGloveHours$Court;") (List.mem_of_getElem? (i := 3) rfl)) (fun _ h9 => h9) rfl dX5_told_61 ?_
    refine va_get (D := δ) (ci := 1) (v := .int (kTears k)) (C := RX1) (T := TX1) (N := 11) hx hb hts hinX1 hown hK hP 1 rfl rfl 2 (by decide) (hts (.fieldLink RX5 80 "GloveHours$Court" "tears" "I") (List.mem_of_getElem? (i := 6) rfl)) (fun _ h9 => h9) rfl dX5_told_64 ?_
    exact hret _ _ (kTears k) () _ _ hR hP hD hS dX5_told_67
  have hR := hR.trans (if_neg c_1_3)
  by_cases c_1_4 : xw = (4 : Int32)
  · have hR := hR.trans (if_pos c_1_4)
    refine lv_tableIn (tgt := 68) (off := 67) hx hb dX5_told_1 (by rw [c_1_4]; decide) (by rw [c_1_4]; decide) (by rw [c_1_4]; rfl) (by decide) ?_
    refine lv_aload_n hx hb dX5_told_68 rfl (lv_at hl 0 rfl) ?_
    refine va_get (D := δ) (ci := 5) (v := .ref aK0) (C := RX5) (T := TX5) (N := 9) hx hb hts hinX5 hown hK hP 0 rfl rfl 0 (by decide) (hts (.fieldLink RX5 10 "GloveHours" "court" "LGloveHours$Court;") (List.mem_of_getElem? (i := 3) rfl)) (fun _ h9 => h9) rfl dX5_told_69 ?_
    refine va_get (D := δ) (ci := 1) (v := .int (kSights k)) (C := RX1) (T := TX1) (N := 11) hx hb hts hinX1 hown hK hP 1 rfl rfl 3 (by decide) (hts (.fieldLink RX5 181 "GloveHours$Court" "sights" "I") (List.mem_of_getElem? (i := 7) rfl)) (fun _ h9 => h9) rfl dX5_told_72 ?_
    exact hret _ _ (kSights k) () _ _ hR hP hD hS dX5_told_75
  have hR := hR.trans (if_neg c_1_4)
  refine lv_tableOut (tgt := 76) hx hb dX5_told_1 (by have e0 : xw.toInt ≠ 0 := fun e => c_1_0 (Int32.toInt_inj.mp e); have e1 : xw.toInt ≠ 1 := fun e => c_1_1 (Int32.toInt_inj.mp e); have e2 : xw.toInt ≠ 2 := fun e => c_1_2 (Int32.toInt_inj.mp e); have e3 : xw.toInt ≠ 3 := fun e => c_1_3 (Int32.toInt_inj.mp e); have e4 : xw.toInt ≠ 4 := fun e => c_1_4 (Int32.toInt_inj.mp e); omega) (by decide) ?_
  refine lv_aload_n hx hb dX5_told_76 rfl (lv_at hl 0 rfl) ?_
  refine lv_iload_n hx hb dX5_told_77 rfl (lv_at hl 1 rfl) ?_
  have hr := mrV (p := p) (e := e) (R := rm_X5_told) (below := below) (meth := meth) (H := H) (locs := locs) (ls := ls) (As := [.int xw]) (rest := []) (c_X5_toldOfCourtier l δ cI cJ cZ aG0 aK0 aK1 aK2 aK3 aK4 aK5 aE0 aF0 aP0 aD0 aM0 aC0 gg k xw) hx hb hml hts hown hK hNW hP hD [0, 1, 2, 3, 4, 5, 6] rfl rfl 5 0 rfl rfl (cwV 1 hts gX5_told_X5_toldOfCourtier rfl rfl rfl (by decide +kernel) ⟨(Nat.le_of_ble_eq_true rfl), (Nat.le_of_ble_eq_true rfl)⟩) rfl hl.1 rfl (Nat.le_of_ble_eq_true rfl) dX5_told_78
  refine mc_i (wr := (wP cI aP0 aP1 pp)) hr hP hD hS hA [0, 1, 2, 3, 4, 5, 6] [7, 8] [2, 3, 4, 5, 6, 7, 8, 0, 1] rfl rfl rfl rfl rfl (wn := fun _ => ((wG  aG0 aK0 aE0 aF0 aP0 aD0 aM0 aC0 gg) ++ (wK cI aK0 aK1 aK2 aK3 aK4 aK5 k) ++ (wP cI aP0 aP1 pp))) (fun _ => rfl) (fun r_78 _ H locs hw_78 hP hD hS => ?_)
  have hP : va_P δ vwCl ((wG  aG0 aK0 aE0 aF0 aP0 aD0 aM0 aC0 gg) ++ (wK cI aK0 aK1 aK2 aK3 aK4 aK5 k) ++ (wP cI aP0 aP1 pp)) H := hP
  have hD : va_D A ((wG  aG0 aK0 aE0 aF0 aP0 aD0 aM0 aC0 gg) ++ (wK cI aK0 aK1 aK2 aK3 aK4 aK5 k) ++ (wP cI aP0 aP1 pp)) := hD
  have hR := bnd_eq hR hw_78.symm
  exact hret _ _ r_78 () _ _ hR hP hD hS dX5_told_81
