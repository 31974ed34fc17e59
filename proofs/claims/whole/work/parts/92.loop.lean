/-! the loop -/
set_option maxHeartbeats 40000000 in
set_option maxRecDepth 100000 in
theorem law_loop {p : Program} {l : Launch} {e : Env} {s : State} {m : MethodId} {below : List Frame} {meth : Method} {c : Code} {δ : va_G} {cI cJ cZ : ClassId} {b L : Nat} {xs : Nat → Int32} (hL : L ≤ 384) (C0 : lw_At p s m meth c b L xs) (hK : va_K δ vwCl (mTy cI cJ cZ) s) (hNW : mNW s) {aG0 aK0 aK1 aK2 aK3 aK4 aK5 aE0 aE1 aE2 aE3 aE4 aE5 aF0 aF1 aF2 aF3 aF4 aF5 aP0 aP1 aD0 aD1 aD2 aD3 aD4 aT0 aT1 aT2 aT3 aT4 aT5 aM0 aM1 aM2 aC0 aC1 aR0 aR1 aR2 aR3 aR4 aR5 aR6 aR7 aR8 aR9 aR10 aR11 aR12 aR13 aR14 aR15 aR16 aR17 aR18 aR19 aR20 aR21 : Nat} : ∀ (n i : Nat), i ≤ L → L < i + n → LInv p l e s m below meth c δ cI cJ cZ b aG0 aK0 aK1 aK2 aK3 aK4 aK5 aE0 aE1 aE2 aE3 aE4 aE5 aF0 aF1 aF2 aF3 aF4 aF5 aP0 aP1 aD0 aD1 aD2 aD3 aD4 aT0 aT1 aT2 aT3 aT4 aT5 aM0 aM1 aM2 aC0 aC1 aR0 aR1 aR2 aR3 aR4 aR5 aR6 aR7 aR8 aR9 aR10 aR11 aR12 aR13 aR14 aR15 aR16 aR17 aR18 aR19 aR20 aR21 i := by
  obtain ⟨hx, hb, hr0, hml, hown, hts, hX, hbl, hlocks, hgv⟩ := id C0
  have htsL : ∀ w ∈ wsL_law, w.before #[Value.ref b] s = true := fun w h => hts w (wsL_law_in w h)
  have hA : ∀ q : Nat, s.heap.size ≤ q → (fun q : Nat => s.heap.size ≤ q) q := fun _ h => h
  have hbA : ¬ (fun q : Nat => s.heap.size ≤ q) b := Nat.not_le.mpr hbl
  intro n
  induction n with
  | zero =>
    intro i h1 h2
    exact absurd h2 (by omega)
  | succ n ih =>
    intro i hi hin gg k kE kF pp dy kT mm ch lv sg pd ac dd hd le bd my lf pa kp H locs hrel hP hD hS ls hl
    refine lv_iload_n hx hb dL_law_18 rfl (lv_at hl 3 rfl) ?_
    refine lv_aload_n hx hb dL_law_19 rfl (lv_at hl 0 rfl) ?_
    refine va_slen hx hb hX hbl hbA hS dL_law_20 ?_
    refine lv_bipush (v := (6 : Int32)) hx hb dL_law_21 (by decide) ?_
    refine lv_isub hx hb dL_law_23 ?_
    refine lv_icmp_gt (tgt := 1044) hx hb dL_law_24 (by decide) (fun c_24 => ?_) (fun c_24 => ?_)
    · refine lv_iconst (v := (1 : Int32)) hx hb dL_law_1044 (by decide) ?_
      refine va_forget (fun q hq => hS.2.2 q hq) ?_
      exact lw_ret hx hb hr0 hlocks dL_law_1045
    have hi6 : i + 6 ≤ L := law_i6 c_24 (by omega)
    refine lv_aload_n hx hb dL_law_27 rfl (lv_at hl 0 rfl) ?_
    refine lv_iload_n hx hb dL_law_28 rfl (lv_at hl 3 rfl) ?_
    refine va_sld hx hb hX hbl hbA hS (vp_in_nI (by omega) (by omega)) dL_law_29 ?_
    refine lv_bipush (v := (31 : Int32)) hx hb dL_law_30 (by decide) ?_
    refine lv_iand hx hb dL_law_32 ?_
    refine lv_topi (fun sw esw => ?_)
    by_cases c_33_0 : sw = (0 : Int32)
    · refine lv_tableIn (tgt := 164) (off := 131) hx hb dL_law_33 (by rw [c_33_0]; decide) (by rw [c_33_0]; decide) (by rw [c_33_0]; rfl) (by decide) ?_
      exact law_c0 hL C0 hK hNW hi6 (ih (i + 6) (by omega) (by omega)) hrel hP hD hS hl
    by_cases c_33_1 : sw = (1 : Int32)
    · refine lv_tableIn (tgt := 197) (off := 164) hx hb dL_law_33 (by rw [c_33_1]; decide) (by rw [c_33_1]; decide) (by rw [c_33_1]; rfl) (by decide) ?_
      exact law_c1 hL C0 hK hNW hi6 (ih (i + 6) (by omega) (by omega)) hrel hP hD hS hl
    by_cases c_33_2 : sw = (2 : Int32)
    · refine lv_tableIn (tgt := 220) (off := 187) hx hb dL_law_33 (by rw [c_33_2]; decide) (by rw [c_33_2]; decide) (by rw [c_33_2]; rfl) (by decide) ?_
      exact law_c2 hL C0 hK hNW hi6 (ih (i + 6) (by omega) (by omega)) hrel hP hD hS hl
    by_cases c_33_3 : sw = (3 : Int32)
    · refine lv_tableIn (tgt := 253) (off := 220) hx hb dL_law_33 (by rw [c_33_3]; decide) (by rw [c_33_3]; decide) (by rw [c_33_3]; rfl) (by decide) ?_
      exact law_c3 hL C0 hK hNW hi6 (ih (i + 6) (by omega) (by omega)) hrel hP hD hS hl
    by_cases c_33_4 : sw = (4 : Int32)
    · refine lv_tableIn (tgt := 276) (off := 243) hx hb dL_law_33 (by rw [c_33_4]; decide) (by rw [c_33_4]; decide) (by rw [c_33_4]; rfl) (by decide) ?_
      exact law_c4 hL C0 hK hNW hi6 (ih (i + 6) (by omega) (by omega)) hrel hP hD hS hl
    by_cases c_33_5 : sw = (5 : Int32)
    · refine lv_tableIn (tgt := 289) (off := 256) hx hb dL_law_33 (by rw [c_33_5]; decide) (by rw [c_33_5]; decide) (by rw [c_33_5]; rfl) (by decide) ?_
      exact law_c5 hL C0 hK hNW hi6 (ih (i + 6) (by omega) (by omega)) hrel hP hD hS hl
    by_cases c_33_6 : sw = (6 : Int32)
    · refine lv_tableIn (tgt := 302) (off := 269) hx hb dL_law_33 (by rw [c_33_6]; decide) (by rw [c_33_6]; decide) (by rw [c_33_6]; rfl) (by decide) ?_
      exact law_c6 hL C0 hK hNW hi6 (ih (i + 6) (by omega) (by omega)) hrel hP hD hS hl
    by_cases c_33_7 : sw = (7 : Int32)
    · refine lv_tableIn (tgt := 325) (off := 292) hx hb dL_law_33 (by rw [c_33_7]; decide) (by rw [c_33_7]; decide) (by rw [c_33_7]; rfl) (by decide) ?_
      exact law_c7 hL C0 hK hNW hi6 (ih (i + 6) (by omega) (by omega)) hrel hP hD hS hl
    by_cases c_33_8 : sw = (8 : Int32)
    · refine lv_tableIn (tgt := 358) (off := 325) hx hb dL_law_33 (by rw [c_33_8]; decide) (by rw [c_33_8]; decide) (by rw [c_33_8]; rfl) (by decide) ?_
      exact law_c8 hL C0 hK hNW hi6 (ih (i + 6) (by omega) (by omega)) hrel hP hD hS hl
    by_cases c_33_9 : sw = (9 : Int32)
    · refine lv_tableIn (tgt := 391) (off := 358) hx hb dL_law_33 (by rw [c_33_9]; decide) (by rw [c_33_9]; decide) (by rw [c_33_9]; rfl) (by decide) ?_
      exact law_c9 hL C0 hK hNW hi6 (ih (i + 6) (by omega) (by omega)) hrel hP hD hS hl
    by_cases c_33_10 : sw = (10 : Int32)
    · refine lv_tableIn (tgt := 424) (off := 391) hx hb dL_law_33 (by rw [c_33_10]; decide) (by rw [c_33_10]; decide) (by rw [c_33_10]; rfl) (by decide) ?_
      exact law_c10 hL C0 hK hNW hi6 (ih (i + 6) (by omega) (by omega)) hrel hP hD hS hl
    by_cases c_33_11 : sw = (11 : Int32)
    · refine lv_tableIn (tgt := 447) (off := 414) hx hb dL_law_33 (by rw [c_33_11]; decide) (by rw [c_33_11]; decide) (by rw [c_33_11]; rfl) (by decide) ?_
      exact law_c11 hL C0 hK hNW hi6 (ih (i + 6) (by omega) (by omega)) hrel hP hD hS hl
    by_cases c_33_12 : sw = (12 : Int32)
    · refine lv_tableIn (tgt := 460) (off := 427) hx hb dL_law_33 (by rw [c_33_12]; decide) (by rw [c_33_12]; decide) (by rw [c_33_12]; rfl) (by decide) ?_
      exact law_c12 hL C0 hK hNW hi6 (ih (i + 6) (by omega) (by omega)) hrel hP hD hS hl
    by_cases c_33_13 : sw = (13 : Int32)
    · refine lv_tableIn (tgt := 473) (off := 440) hx hb dL_law_33 (by rw [c_33_13]; decide) (by rw [c_33_13]; decide) (by rw [c_33_13]; rfl) (by decide) ?_
      exact law_c13 hL C0 hK hNW hi6 (ih (i + 6) (by omega) (by omega)) hrel hP hD hS hl
    by_cases c_33_14 : sw = (14 : Int32)
    · refine lv_tableIn (tgt := 516) (off := 483) hx hb dL_law_33 (by rw [c_33_14]; decide) (by rw [c_33_14]; decide) (by rw [c_33_14]; rfl) (by decide) ?_
      exact law_c14 hL C0 hK hNW hi6 (ih (i + 6) (by omega) (by omega)) hrel hP hD hS hl
    by_cases c_33_15 : sw = (15 : Int32)
    · refine lv_tableIn (tgt := 559) (off := 526) hx hb dL_law_33 (by rw [c_33_15]; decide) (by rw [c_33_15]; decide) (by rw [c_33_15]; rfl) (by decide) ?_
      exact law_c15 hL C0 hK hNW hi6 (ih (i + 6) (by omega) (by omega)) hrel hP hD hS hl
    by_cases c_33_16 : sw = (16 : Int32)
    · refine lv_tableIn (tgt := 592) (off := 559) hx hb dL_law_33 (by rw [c_33_16]; decide) (by rw [c_33_16]; decide) (by rw [c_33_16]; rfl) (by decide) ?_
      exact law_c16 hL C0 hK hNW hi6 (ih (i + 6) (by omega) (by omega)) hrel hP hD hS hl
    by_cases c_33_17 : sw = (17 : Int32)
    · refine lv_tableIn (tgt := 615) (off := 582) hx hb dL_law_33 (by rw [c_33_17]; decide) (by rw [c_33_17]; decide) (by rw [c_33_17]; rfl) (by decide) ?_
      exact law_c17 hL C0 hK hNW hi6 (ih (i + 6) (by omega) (by omega)) hrel hP hD hS hl
    by_cases c_33_18 : sw = (18 : Int32)
    · refine lv_tableIn (tgt := 668) (off := 635) hx hb dL_law_33 (by rw [c_33_18]; decide) (by rw [c_33_18]; decide) (by rw [c_33_18]; rfl) (by decide) ?_
      exact law_c18 hL C0 hK hNW hi6 (ih (i + 6) (by omega) (by omega)) hrel hP hD hS hl
    by_cases c_33_19 : sw = (19 : Int32)
    · refine lv_tableIn (tgt := 731) (off := 698) hx hb dL_law_33 (by rw [c_33_19]; decide) (by rw [c_33_19]; decide) (by rw [c_33_19]; rfl) (by decide) ?_
      exact law_c19 hL C0 hK hNW hi6 (ih (i + 6) (by omega) (by omega)) hrel hP hD hS hl
    by_cases c_33_20 : sw = (20 : Int32)
    · refine lv_tableIn (tgt := 780) (off := 747) hx hb dL_law_33 (by rw [c_33_20]; decide) (by rw [c_33_20]; decide) (by rw [c_33_20]; rfl) (by decide) ?_
      exact law_c20 hL C0 hK hNW hi6 (ih (i + 6) (by omega) (by omega)) hrel hP hD hS hl
    by_cases c_33_21 : sw = (21 : Int32)
    · refine lv_tableIn (tgt := 793) (off := 760) hx hb dL_law_33 (by rw [c_33_21]; decide) (by rw [c_33_21]; decide) (by rw [c_33_21]; rfl) (by decide) ?_
      exact law_c21 hL C0 hK hNW hi6 (ih (i + 6) (by omega) (by omega)) hrel hP hD hS hl
    by_cases c_33_22 : sw = (22 : Int32)
    · refine lv_tableIn (tgt := 806) (off := 773) hx hb dL_law_33 (by rw [c_33_22]; decide) (by rw [c_33_22]; decide) (by rw [c_33_22]; rfl) (by decide) ?_
      exact law_c22 hL C0 hK hNW hi6 (ih (i + 6) (by omega) (by omega)) hrel hP hD hS hl
    by_cases c_33_23 : sw = (23 : Int32)
    · refine lv_tableIn (tgt := 829) (off := 796) hx hb dL_law_33 (by rw [c_33_23]; decide) (by rw [c_33_23]; decide) (by rw [c_33_23]; rfl) (by decide) ?_
      exact law_c23 hL C0 hK hNW hi6 (ih (i + 6) (by omega) (by omega)) hrel hP hD hS hl
    by_cases c_33_24 : sw = (24 : Int32)
    · refine lv_tableIn (tgt := 893) (off := 860) hx hb dL_law_33 (by rw [c_33_24]; decide) (by rw [c_33_24]; decide) (by rw [c_33_24]; rfl) (by decide) ?_
      exact law_c24 hL C0 hK hNW hi6 (ih (i + 6) (by omega) (by omega)) hrel hP hD hS hl
    by_cases c_33_25 : sw = (25 : Int32)
    · refine lv_tableIn (tgt := 926) (off := 893) hx hb dL_law_33 (by rw [c_33_25]; decide) (by rw [c_33_25]; decide) (by rw [c_33_25]; rfl) (by decide) ?_
      exact law_c25 hL C0 hK hNW hi6 (ih (i + 6) (by omega) (by omega)) hrel hP hD hS hl
    by_cases c_33_26 : sw = (26 : Int32)
    · refine lv_tableIn (tgt := 969) (off := 936) hx hb dL_law_33 (by rw [c_33_26]; decide) (by rw [c_33_26]; decide) (by rw [c_33_26]; rfl) (by decide) ?_
      exact law_c26 hL C0 hK hNW hi6 (ih (i + 6) (by omega) (by omega)) hrel hP hD hS hl
    by_cases c_33_27 : sw = (27 : Int32)
    · refine lv_tableIn (tgt := 992) (off := 959) hx hb dL_law_33 (by rw [c_33_27]; decide) (by rw [c_33_27]; decide) (by rw [c_33_27]; rfl) (by decide) ?_
      exact law_c27 hL C0 hK hNW hi6 (ih (i + 6) (by omega) (by omega)) hrel hP hD hS hl
    by_cases c_33_28 : sw = (28 : Int32)
    · refine lv_tableIn (tgt := 1015) (off := 982) hx hb dL_law_33 (by rw [c_33_28]; decide) (by rw [c_33_28]; decide) (by rw [c_33_28]; rfl) (by decide) ?_
      exact law_c28 hL C0 hK hNW hi6 (ih (i + 6) (by omega) (by omega)) hrel hP hD hS hl
    refine lv_tableOut (tgt := 1038) hx hb dL_law_33 (by have e0 : sw.toInt ≠ 0 := fun e => c_33_0 (Int32.toInt_inj.mp e); have e1 : sw.toInt ≠ 1 := fun e => c_33_1 (Int32.toInt_inj.mp e); have e2 : sw.toInt ≠ 2 := fun e => c_33_2 (Int32.toInt_inj.mp e); have e3 : sw.toInt ≠ 3 := fun e => c_33_3 (Int32.toInt_inj.mp e); have e4 : sw.toInt ≠ 4 := fun e => c_33_4 (Int32.toInt_inj.mp e); have e5 : sw.toInt ≠ 5 := fun e => c_33_5 (Int32.toInt_inj.mp e); have e6 : sw.toInt ≠ 6 := fun e => c_33_6 (Int32.toInt_inj.mp e); have e7 : sw.toInt ≠ 7 := fun e => c_33_7 (Int32.toInt_inj.mp e); have e8 : sw.toInt ≠ 8 := fun e => c_33_8 (Int32.toInt_inj.mp e); have e9 : sw.toInt ≠ 9 := fun e => c_33_9 (Int32.toInt_inj.mp e); have e10 : sw.toInt ≠ 10 := fun e => c_33_10 (Int32.toInt_inj.mp e); have e11 : sw.toInt ≠ 11 := fun e => c_33_11 (Int32.toInt_inj.mp e); have e12 : sw.toInt ≠ 12 := fun e => c_33_12 (Int32.toInt_inj.mp e); have e13 : sw.toInt ≠ 13 := fun e => c_33_13 (Int32.toInt_inj.mp e); have e14 : sw.toInt ≠ 14 := fun e => c_33_14 (Int32.toInt_inj.mp e); have e15 : sw.toInt ≠ 15 := fun e => c_33_15 (Int32.toInt_inj.mp e); have e16 : sw.toInt ≠ 16 := fun e => c_33_16 (Int32.toInt_inj.mp e); have e17 : sw.toInt ≠ 17 := fun e => c_33_17 (Int32.toInt_inj.mp e); have e18 : sw.toInt ≠ 18 := fun e => c_33_18 (Int32.toInt_inj.mp e); have e19 : sw.toInt ≠ 19 := fun e => c_33_19 (Int32.toInt_inj.mp e); have e20 : sw.toInt ≠ 20 := fun e => c_33_20 (Int32.toInt_inj.mp e); have e21 : sw.toInt ≠ 21 := fun e => c_33_21 (Int32.toInt_inj.mp e); have e22 : sw.toInt ≠ 22 := fun e => c_33_22 (Int32.toInt_inj.mp e); have e23 : sw.toInt ≠ 23 := fun e => c_33_23 (Int32.toInt_inj.mp e); have e24 : sw.toInt ≠ 24 := fun e => c_33_24 (Int32.toInt_inj.mp e); have e25 : sw.toInt ≠ 25 := fun e => c_33_25 (Int32.toInt_inj.mp e); have e26 : sw.toInt ≠ 26 := fun e => c_33_26 (Int32.toInt_inj.mp e); have e27 : sw.toInt ≠ 27 := fun e => c_33_27 (Int32.toInt_inj.mp e); have e28 : sw.toInt ≠ 28 := fun e => c_33_28 (Int32.toInt_inj.mp e); omega) (by decide) ?_
    have ih := ih (i + 6) (by omega) (by omega)
    refine lv_iinc (v := nI (i + 6)) (lv' := [(3, .int (nI (i + 6))), (0, .ref b), (1, .ref aG0), (2, .ref aR0)]) hx hb dL_law_1038 hl (k := 3) rfl (nI_add i 6) (by decide) rfl (fun ls hl => ?_)
    refine lv_goto (tgt := 18) hx hb dL_law_1041 (by decide) ?_
    exact ih gg k kE kF pp dy kT mm ch lv sg pd ac dd hd le bd my lf pa kp _ _ hrel hP hD hS ls (lv_sub hl [1, 2, 3, 0] rfl)
