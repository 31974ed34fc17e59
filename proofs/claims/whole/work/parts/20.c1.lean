abbrev rm_J6_bitCount_0f7a4 : Room := { frames := 0, cells := 0, slots := 0, locals := 0 }
set_option maxHeartbeats 4000000 in
set_option maxRecDepth 100000 in
theorem c_J6_bitCount_0f7a4 (l : Launch) (δ : va_G) (cI cJ cZ : ClassId) (xb : Int32) : mMi l δ (mTy cI cJ cZ) yJ6_bitCount_0f7a4 wsJ6_bitCount_0f7a4 rm_J6_bitCount_0f7a4 [.int xb] ([] : va_W) (S := Unit) (fun r _ => F_J6_bitCount_0f7a4 xb = r) (fun _ => ([] : va_W)) := by
  refine mk_i (cc := cJ6_bitCount_0f7a4) (maxL := 1) (by decide) rfl (Nat.le_of_ble_eq_true rfl) ?_
  intro p e s m args below meth c A Q ls H locs hx hb hml hts hown hK hNW hA hP hD hS hl hret
  have hown : s.vm.findClass RJ6 = some m.cls := hown
  have hl : lv_has ls 1 [(0, .int xb)] := hl
  have hR := F_J6_bitCount_0f7a4.eq_1 xb
  refine lv_iload_n hx hb dJ6_bitCount_0f7a4_0 rfl (lv_at hl 0 rfl) ?_
  refine lv_iload_n hx hb dJ6_bitCount_0f7a4_1 rfl (lv_at hl 0 rfl) ?_
  refine lv_iconst (v := (1 : Int32)) hx hb dJ6_bitCount_0f7a4_2 (by decide) ?_
  refine lv_iushr (v := ((xb.toUInt32 >>> ((1 : Int32).toUInt32 &&& Int32.toUInt32 31)).toInt32)) hx hb dJ6_bitCount_0f7a4_3 rfl ?_
  refine lv_ldcw (v := (1431655765 : Int32)) hx hb hown (hts (.constant RJ6 265 (1431655765)) (List.mem_of_getElem? (i := 1) rfl)) dJ6_bitCount_0f7a4_4 ?_
  refine lv_iand hx hb dJ6_bitCount_0f7a4_7 ?_
  refine lv_isub hx hb dJ6_bitCount_0f7a4_8 ?_
  refine lv_istore_n (lv' := [(0, .int (xb - (((xb.toUInt32 >>> ((1 : Int32).toUInt32 &&& Int32.toUInt32 31)).toInt32) &&& (1431655765 : Int32))))]) hx hb dJ6_bitCount_0f7a4_9 rfl hl (by decide) rfl (fun ls hl => ?_)
  refine lv_iload_n hx hb dJ6_bitCount_0f7a4_10 rfl (lv_at hl 0 rfl) ?_
  refine lv_ldcw (v := (858993459 : Int32)) hx hb hown (hts (.constant RJ6 266 (858993459)) (List.mem_of_getElem? (i := 2) rfl)) dJ6_bitCount_0f7a4_11 ?_
  refine lv_iand hx hb dJ6_bitCount_0f7a4_14 ?_
  refine lv_iload_n hx hb dJ6_bitCount_0f7a4_15 rfl (lv_at hl 0 rfl) ?_
  refine lv_iconst (v := (2 : Int32)) hx hb dJ6_bitCount_0f7a4_16 (by decide) ?_
  refine lv_iushr (v := (((xb - (((xb.toUInt32 >>> ((1 : Int32).toUInt32 &&& Int32.toUInt32 31)).toInt32) &&& (1431655765 : Int32))).toUInt32 >>> ((2 : Int32).toUInt32 &&& Int32.toUInt32 31)).toInt32)) hx hb dJ6_bitCount_0f7a4_17 rfl ?_
  refine lv_ldcw (v := (858993459 : Int32)) hx hb hown (hts (.constant RJ6 266 (858993459)) (List.mem_of_getElem? (i := 2) rfl)) dJ6_bitCount_0f7a4_18 ?_
  refine lv_iand hx hb dJ6_bitCount_0f7a4_21 ?_
  refine lv_iadd hx hb dJ6_bitCount_0f7a4_22 ?_
  refine lv_istore_n (lv' := [(0, .int (((xb - (((xb.toUInt32 >>> ((1 : Int32).toUInt32 &&& Int32.toUInt32 31)).toInt32) &&& (1431655765 : Int32))) &&& (858993459 : Int32)) + ((((xb - (((xb.toUInt32 >>> ((1 : Int32).toUInt32 &&& Int32.toUInt32 31)).toInt32) &&& (1431655765 : Int32))).toUInt32 >>> ((2 : Int32).toUInt32 &&& Int32.toUInt32 31)).toInt32) &&& (858993459 : Int32))))]) hx hb dJ6_bitCount_0f7a4_23 rfl hl (by decide) rfl (fun ls hl => ?_)
  refine lv_iload_n hx hb dJ6_bitCount_0f7a4_24 rfl (lv_at hl 0 rfl) ?_
  refine lv_iload_n hx hb dJ6_bitCount_0f7a4_25 rfl (lv_at hl 0 rfl) ?_
  refine lv_iconst (v := (4 : Int32)) hx hb dJ6_bitCount_0f7a4_26 (by decide) ?_
  refine lv_iushr (v := (((((xb - (((xb.toUInt32 >>> ((1 : Int32).toUInt32 &&& Int32.toUInt32 31)).toInt32) &&& (1431655765 : Int32))) &&& (858993459 : Int32)) + ((((xb - (((xb.toUInt32 >>> ((1 : Int32).toUInt32 &&& Int32.toUInt32 31)).toInt32) &&& (1431655765 : Int32))).toUInt32 >>> ((2 : Int32).toUInt32 &&& Int32.toUInt32 31)).toInt32) &&& (858993459 : Int32))).toUInt32 >>> ((4 : Int32).toUInt32 &&& Int32.toUInt32 31)).toInt32)) hx hb dJ6_bitCount_0f7a4_27 rfl ?_
  refine lv_iadd hx hb dJ6_bitCount_0f7a4_28 ?_
  refine lv_ldcw (v := (252645135 : Int32)) hx hb hown (hts (.constant RJ6 267 (252645135)) (List.mem_of_getElem? (i := 3) rfl)) dJ6_bitCount_0f7a4_29 ?_
  refine lv_iand hx hb dJ6_bitCount_0f7a4_32 ?_
  refine lv_istore_n (lv' := [(0, .int (((((xb - (((xb.toUInt32 >>> ((1 : Int32).toUInt32 &&& Int32.toUInt32 31)).toInt32) &&& (1431655765 : Int32))) &&& (858993459 : Int32)) + ((((xb - (((xb.toUInt32 >>> ((1 : Int32).toUInt32 &&& Int32.toUInt32 31)).toInt32) &&& (1431655765 : Int32))).toUInt32 >>> ((2 : Int32).toUInt32 &&& Int32.toUInt32 31)).toInt32) &&& (858993459 : Int32))) + (((((xb - (((xb.toUInt32 >>> ((1 : Int32).toUInt32 &&& Int32.toUInt32 31)).toInt32) &&& (1431655765 : Int32))) &&& (858993459 : Int32)) + ((((xb - (((xb.toUInt32 >>> ((1 : Int32).toUInt32 &&& Int32.toUInt32 31)).toInt32) &&& (1431655765 : Int32))).toUInt32 >>> ((2 : Int32).toUInt32 &&& Int32.toUInt32 31)).toInt32) &&& (858993459 : Int32))).toUInt32 >>> ((4 : Int32).toUInt32 &&& Int32.toUInt32 31)).toInt32)) &&& (252645135 : Int32)))]) hx hb dJ6_bitCount_0f7a4_33 rfl hl (by decide) rfl (fun ls hl => ?_)
  refine lv_iload_n hx hb dJ6_bitCount_0f7a4_34 rfl (lv_at hl 0 rfl) ?_
  refine lv_iload_n hx hb dJ6_bitCount_0f7a4_35 rfl (lv_at hl 0 rfl) ?_
  refine lv_bipush (v := (8 : Int32)) hx hb dJ6_bitCount_0f7a4_36 (by decide) ?_
  refine lv_iushr (v := (((((((xb - (((xb.toUInt32 >>> ((1 : Int32).toUInt32 &&& Int32.toUInt32 31)).toInt32) &&& (1431655765 : Int32))) &&& (858993459 : Int32)) + ((((xb - (((xb.toUInt32 >>> ((1 : Int32).toUInt32 &&& Int32.toUInt32 31)).toInt32) &&& (1431655765 : Int32))).toUInt32 >>> ((2 : Int32).toUInt32 &&& Int32.toUInt32 31)).toInt32) &&& (858993459 : Int32))) + (((((xb - (((xb.toUInt32 >>> ((1 : Int32).toUInt32 &&& Int32.toUInt32 31)).toInt32) &&& (1431655765 : Int32))) &&& (858993459 : Int32)) + ((((xb - (((xb.toUInt32 >>> ((1 : Int32).toUInt32 &&& Int32.toUInt32 31)).toInt32) &&& (1431655765 : Int32))).toUInt32 >>> ((2 : Int32).toUInt32 &&& Int32.toUInt32 31)).toInt32) &&& (858993459 : Int32))).toUInt32 >>> ((4 : Int32).toUInt32 &&& Int32.toUInt32 31)).toInt32)) &&& (252645135 : Int32)).toUInt32 >>> ((8 : Int32).toUInt32 &&& Int32.toUInt32 31)).toInt32)) hx hb dJ6_bitCount_0f7a4_38 rfl ?_
  refine lv_iadd hx hb dJ6_bitCount_0f7a4_39 ?_
  refine lv_istore_n (lv' := [(0, .int ((((((xb - (((xb.toUInt32 >>> ((1 : Int32).toUInt32 &&& Int32.toUInt32 31)).toInt32) &&& (1431655765 : Int32))) &&& (858993459 : Int32)) + ((((xb - (((xb.toUInt32 >>> ((1 : Int32).toUInt32 &&& Int32.toUInt32 31)).toInt32) &&& (1431655765 : Int32))).toUInt32 >>> ((2 : Int32).toUInt32 &&& Int32.toUInt32 31)).toInt32) &&& (858993459 : Int32))) + (((((xb - (((xb.toUInt32 >>> ((1 : Int32).toUInt32 &&& Int32.toUInt32 31)).toInt32) &&& (1431655765 : Int32))) &&& (858993459 : Int32)) + ((((xb - (((xb.toUInt32 >>> ((1 : Int32).toUInt32 &&& Int32.toUInt32 31)).toInt32) &&& (1431655765 : Int32))).toUInt32 >>> ((2 : Int32).toUInt32 &&& Int32.toUInt32 31)).toInt32) &&& (858993459 : Int32))).toUInt32 >>> ((4 : Int32).toUInt32 &&& Int32.toUInt32 31)).toInt32)) &&& (252645135 : Int32)) + (((((((xb - (((xb.toUInt32 >>> ((1 : Int32).toUInt32 &&& Int32.toUInt32 31)).toInt32) &&& (1431655765 : Int32))) &&& (858993459 : Int32)) + ((((xb - (((xb.toUInt32 >>> ((1 : Int32).toUInt32 &&& Int32.toUInt32 31)).toInt32) &&& (1431655765 : Int32))).toUInt32 >>> ((2 : Int32).toUInt32 &&& Int32.toUInt32 31)).toInt32) &&& (858993459 : Int32))) + (((((xb - (((xb.toUInt32 >>> ((1 : Int32).toUInt32 &&& Int32.toUInt32 31)).toInt32) &&& (1431655765 : Int32))) &&& (858993459 : Int32)) + ((((xb - (((xb.toUInt32 >>> ((1 : Int32).toUInt32 &&& Int32.toUInt32 31)).toInt32) &&& (1431655765 : Int32))).toUInt32 >>> ((2 : Int32).toUInt32 &&& Int32.toUInt32 31)).toInt32) &&& (858993459 : Int32))).toUInt32 >>> ((4 : Int32).toUInt32 &&& Int32.toUInt32 31)).toInt32)) &&& (252645135 : Int32)).toUInt32 >>> ((8 : Int32).toUInt32 &&& Int32.toUInt32 31)).toInt32)))]) hx hb dJ6_bitCount_0f7a4_40 rfl hl (by decide) rfl (fun ls hl => ?_)
  refine lv_iload_n hx hb dJ6_bitCount_0f7a4_41 rfl (lv_at hl 0 rfl) ?_
  refine lv_iload_n hx hb dJ6_bitCount_0f7a4_42 rfl (lv_at hl 0 rfl) ?_
  refine lv_bipush (v := (16 : Int32)) hx hb dJ6_bitCount_0f7a4_43 (by decide) ?_
  refine lv_iushr (v := ((((((((xb - (((xb.toUInt32 >>> ((1 : Int32).toUInt32 &&& Int32.toUInt32 31)).toInt32) &&& (1431655765 : Int32))) &&& (858993459 : Int32)) + ((((xb - (((xb.toUInt32 >>> ((1 : Int32).toUInt32 &&& Int32.toUInt32 31)).toInt32) &&& (1431655765 : Int32))).toUInt32 >>> ((2 : Int32).toUInt32 &&& Int32.toUInt32 31)).toInt32) &&& (858993459 : Int32))) + (((((xb - (((xb.toUInt32 >>> ((1 : Int32).toUInt32 &&& Int32.toUInt32 31)).toInt32) &&& (1431655765 : Int32))) &&& (858993459 : Int32)) + ((((xb - (((xb.toUInt32 >>> ((1 : Int32).toUInt32 &&& Int32.toUInt32 31)).toInt32) &&& (1431655765 : Int32))).toUInt32 >>> ((2 : Int32).toUInt32 &&& Int32.toUInt32 31)).toInt32) &&& (858993459 : Int32))).toUInt32 >>> ((4 : Int32).toUInt32 &&& Int32.toUInt32 31)).toInt32)) &&& (252645135 : Int32)) + (((((((xb - (((xb.toUInt32 >>> ((1 : Int32).toUInt32 &&& Int32.toUInt32 31)).toInt32) &&& (1431655765 : Int32))) &&& (858993459 : Int32)) + ((((xb - (((xb.toUInt32 >>> ((1 : Int32).toUInt32 &&& Int32.toUInt32 31)).toInt32) &&& (1431655765 : Int32))).toUInt32 >>> ((2 : Int32).toUInt32 &&& Int32.toUInt32 31)).toInt32) &&& (858993459 : Int32))) + (((((xb - (((xb.toUInt32 >>> ((1 : Int32).toUInt32 &&& Int32.toUInt32 31)).toInt32) &&& (1431655765 : Int32))) &&& (858993459 : Int32)) + ((((xb - (((xb.toUInt32 >>> ((1 : Int32).toUInt32 &&& Int32.toUInt32 31)).toInt32) &&& (1431655765 : Int32))).toUInt32 >>> ((2 : Int32).toUInt32 &&& Int32.toUInt32 31)).toInt32) &&& (858993459 : Int32))).toUInt32 >>> ((4 : Int32).toUInt32 &&& Int32.toUInt32 31)).toInt32)) &&& (252645135 : Int32)).toUInt32 >>> ((8 : Int32).toUInt32 &&& Int32.toUInt32 31)).toInt32)).toUInt32 >>> ((16 : Int32).toUInt32 &&& Int32.toUInt32 31)).toInt32)) hx hb dJ6_bitCount_0f7a4_45 rfl ?_
  refine lv_iadd hx hb dJ6_bitCount_0f7a4_46 ?_
  refine lv_istore_n (lv' := [(0, .int (((((((xb - (((xb.toUInt32 >>> ((1 : Int32).toUInt32 &&& Int32.toUInt32 31)).toInt32) &&& (1431655765 : Int32))) &&& (858993459 : Int32)) + ((((xb - (((xb.toUInt32 >>> ((1 : Int32).toUInt32 &&& Int32.toUInt32 31)).toInt32) &&& (1431655765 : Int32))).toUInt32 >>> ((2 : Int32).toUInt32 &&& Int32.toUInt32 31)).toInt32) &&& (858993459 : Int32))) + (((((xb - (((xb.toUInt32 >>> ((1 : Int32).toUInt32 &&& Int32.toUInt32 31)).toInt32) &&& (1431655765 : Int32))) &&& (858993459 : Int32)) + ((((xb - (((xb.toUInt32 >>> ((1 : Int32).toUInt32 &&& Int32.toUInt32 31)).toInt32) &&& (1431655765 : Int32))).toUInt32 >>> ((2 : Int32).toUInt32 &&& Int32.toUInt32 31)).toInt32) &&& (858993459 : Int32))).toUInt32 >>> ((4 : Int32).toUInt32 &&& Int32.toUInt32 31)).toInt32)) &&& (252645135 : Int32)) + (((((((xb - (((xb.toUInt32 >>> ((1 : Int32).toUInt32 &&& Int32.toUInt32 31)).toInt32) &&& (1431655765 : Int32))) &&& (858993459 : Int32)) + ((((xb - (((xb.toUInt32 >>> ((1 : Int32).toUInt32 &&& Int32.toUInt32 31)).toInt32) &&& (1431655765 : Int32))).toUInt32 >>> ((2 : Int32).toUInt32 &&& Int32.toUInt32 31)).toInt32) &&& (858993459 : Int32))) + (((((xb - (((xb.toUInt32 >>> ((1 : Int32).toUInt32 &&& Int32.toUInt32 31)).toInt32) &&& (1431655765 : Int32))) &&& (858993459 : Int32)) + ((((xb - (((xb.toUInt32 >>> ((1 : Int32).toUInt32 &&& Int32.toUInt32 31)).toInt32) &&& (1431655765 : Int32))).toUInt32 >>> ((2 : Int32).toUInt32 &&& Int32.toUInt32 31)).toInt32) &&& (858993459 : Int32))).toUInt32 >>> ((4 : Int32).toUInt32 &&& Int32.toUInt32 31)).toInt32)) &&& (252645135 : Int32)).toUInt32 >>> ((8 : Int32).toUInt32 &&& Int32.toUInt32 31)).toInt32)) + ((((((((xb - (((xb.toUInt32 >>> ((1 : Int32).toUInt32 &&& Int32.toUInt32 31)).toInt32) &&& (1431655765 : Int32))) &&& (858993459 : Int32)) + ((((xb - (((xb.toUInt32 >>> ((1 : Int32).toUInt32 &&& Int32.toUInt32 31)).toInt32) &&& (1431655765 : Int32))).toUInt32 >>> ((2 : Int32).toUInt32 &&& Int32.toUInt32 31)).toInt32) &&& (858993459 : Int32))) + (((((xb - (((xb.toUInt32 >>> ((1 : Int32).toUInt32 &&& Int32.toUInt32 31)).toInt32) &&& (1431655765 : Int32))) &&& (858993459 : Int32)) + ((((xb - (((xb.toUInt32 >>> ((1 : Int32).toUInt32 &&& Int32.toUInt32 31)).toInt32) &&& (1431655765 : Int32))).toUInt32 >>> ((2 : Int32).toUInt32 &&& Int32.toUInt32 31)).toInt32) &&& (858993459 : Int32))).toUInt32 >>> ((4 : Int32).toUInt32 &&& Int32.toUInt32 31)).toInt32)) &&& (252645135 : Int32)) + (((((((xb - (((xb.toUInt32 >>> ((1 : Int32).toUInt32 &&& Int32.toUInt32 31)).toInt32) &&& (1431655765 : Int32))) &&& (858993459 : Int32)) + ((((xb - (((xb.toUInt32 >>> ((1 : Int32).toUInt32 &&& Int32.toUInt32 31)).toInt32) &&& (1431655765 : Int32))).toUInt32 >>> ((2 : Int32).toUInt32 &&& Int32.toUInt32 31)).toInt32) &&& (858993459 : Int32))) + (((((xb - (((xb.toUInt32 >>> ((1 : Int32).toUInt32 &&& Int32.toUInt32 31)).toInt32) &&& (1431655765 : Int32))) &&& (858993459 : Int32)) + ((((xb - (((xb.toUInt32 >>> ((1 : Int32).toUInt32 &&& Int32.toUInt32 31)).toInt32) &&& (1431655765 : Int32))).toUInt32 >>> ((2 : Int32).toUInt32 &&& Int32.toUInt32 31)).toInt32) &&& (858993459 : Int32))).toUInt32 >>> ((4 : Int32).toUInt32 &&& Int32.toUInt32 31)).toInt32)) &&& (252645135 : Int32)).toUInt32 >>> ((8 : Int32).toUInt32 &&& Int32.toUInt32 31)).toInt32)).toUInt32 >>> ((16 : Int32).toUInt32 &&& Int32.toUInt32 31)).toInt32)))]) hx hb dJ6_bitCount_0f7a4_47 rfl hl (by decide) rfl (fun ls hl => ?_)
  refine lv_iload_n hx hb dJ6_bitCount_0f7a4_48 rfl (lv_at hl 0 rfl) ?_
  refine lv_bipush (v := (63 : Int32)) hx hb dJ6_bitCount_0f7a4_49 (by decide) ?_
  refine lv_iand hx hb dJ6_bitCount_0f7a4_51 ?_
  exact hret _ _ ((((((((xb - (((xb.toUInt32 >>> ((1 : Int32).toUInt32 &&& Int32.toUInt32 31)).toInt32) &&& (1431655765 : Int32))) &&& (858993459 : Int32)) + ((((xb - (((xb.toUInt32 >>> ((1 : Int32).toUInt32 &&& Int32.toUInt32 31)).toInt32) &&& (1431655765 : Int32))).toUInt32 >>> ((2 : Int32).toUInt32 &&& Int32.toUInt32 31)).toInt32) &&& (858993459 : Int32))) + (((((xb - (((xb.toUInt32 >>> ((1 : Int32).toUInt32 &&& Int32.toUInt32 31)).toInt32) &&& (1431655765 : Int32))) &&& (858993459 : Int32)) + ((((xb - (((xb.toUInt32 >>> ((1 : Int32).toUInt32 &&& Int32.toUInt32 31)).toInt32) &&& (1431655765 : Int32))).toUInt32 >>> ((2 : Int32).toUInt32 &&& Int32.toUInt32 31)).toInt32) &&& (858993459 : Int32))).toUInt32 >>> ((4 : Int32).toUInt32 &&& Int32.toUInt32 31)).toInt32)) &&& (252645135 : Int32)) + (((((((xb - (((xb.toUInt32 >>> ((1 : Int32).toUInt32 &&& Int32.toUInt32 31)).toInt32) &&& (1431655765 : Int32))) &&& (858993459 : Int32)) + ((((xb - (((xb.toUInt32 >>> ((1 : Int32).toUInt32 &&& Int32.toUInt32 31)).toInt32) &&& (1431655765 : Int32))).toUInt32 >>> ((2 : Int32).toUInt32 &&& Int32.toUInt32 31)).toInt32) &&& (858993459 : Int32))) + (((((xb - (((xb.toUInt32 >>> ((1 : Int32).toUInt32 &&& Int32.toUInt32 31)).toInt32) &&& (1431655765 : Int32))) &&& (858993459 : Int32)) + ((((xb - (((xb.toUInt32 >>> ((1 : Int32).toUInt32 &&& Int32.toUInt32 31)).toInt32) &&& (1431655765 : Int32))).toUInt32 >>> ((2 : Int32).toUInt32 &&& Int32.toUInt32 31)).toInt32) &&& (858993459 : Int32))).toUInt32 >>> ((4 : Int32).toUInt32 &&& Int32.toUInt32 31)).toInt32)) &&& (252645135 : Int32)).toUInt32 >>> ((8 : Int32).toUInt32 &&& Int32.toUInt32 31)).toInt32)) + ((((((((xb - (((xb.toUInt32 >>> ((1 : Int32).toUInt32 &&& Int32.toUInt32 31)).toInt32) &&& (1431655765 : Int32))) &&& (858993459 : Int32)) + ((((xb - (((xb.toUInt32 >>> ((1 : Int32).toUInt32 &&& Int32.toUInt32 31)).toInt32) &&& (1431655765 : Int32))).toUInt32 >>> ((2 : Int32).toUInt32 &&& Int32.toUInt32 31)).toInt32) &&& (858993459 : Int32))) + (((((xb - (((xb.toUInt32 >>> ((1 : Int32).toUInt32 &&& Int32.toUInt32 31)).toInt32) &&& (1431655765 : Int32))) &&& (858993459 : Int32)) + ((((xb - (((xb.toUInt32 >>> ((1 : Int32).toUInt32 &&& Int32.toUInt32 31)).toInt32) &&& (1431655765 : Int32))).toUInt32 >>> ((2 : Int32).toUInt32 &&& Int32.toUInt32 31)).toInt32) &&& (858993459 : Int32))).toUInt32 >>> ((4 : Int32).toUInt32 &&& Int32.toUInt32 31)).toInt32)) &&& (252645135 : Int32)) + (((((((xb - (((xb.toUInt32 >>> ((1 : Int32).toUInt32 &&& Int32.toUInt32 31)).toInt32) &&& (1431655765 : Int32))) &&& (858993459 : Int32)) + ((((xb - (((xb.toUInt32 >>> ((1 : Int32).toUInt32 &&& Int32.toUInt32 31)).toInt32) &&& (1431655765 : Int32))).toUInt32 >>> ((2 : Int32).toUInt32 &&& Int32.toUInt32 31)).toInt32) &&& (858993459 : Int32))) + (((((xb - (((xb.toUInt32 >>> ((1 : Int32).toUInt32 &&& Int32.toUInt32 31)).toInt32) &&& (1431655765 : Int32))) &&& (858993459 : Int32)) + ((((xb - (((xb.toUInt32 >>> ((1 : Int32).toUInt32 &&& Int32.toUInt32 31)).toInt32) &&& (1431655765 : Int32))).toUInt32 >>> ((2 : Int32).toUInt32 &&& Int32.toUInt32 31)).toInt32) &&& (858993459 : Int32))).toUInt32 >>> ((4 : Int32).toUInt32 &&& Int32.toUInt32 31)).toInt32)) &&& (252645135 : Int32)).toUInt32 >>> ((8 : Int32).toUInt32 &&& Int32.toUInt32 31)).toInt32)).toUInt32 >>> ((16 : Int32).toUInt32 &&& Int32.toUInt32 31)).toInt32)) &&& (63 : Int32)) () _ _ hR hP hD hS dJ6_bitCount_0f7a4_52

abbrev rm_X5_isWithin : Room := { frames := 0, cells := 0, slots := 0, locals := 0 }
set_option maxHeartbeats 4000000 in
set_option maxRecDepth 100000 in
theorem c_X5_isWithin (l : Launch) (δ : va_G) (cI cJ cZ : ClassId) (xn : Int32) (xa : Int32) (xb : Int32) : mMi l δ (mTy cI cJ cZ) yX5_isWithin wsX5_isWithin rm_X5_isWithin [.int xn, .int xa, .int xb] ([] : va_W) (S := Unit) (fun r _ => F_X5_isWithin xn xa xb = r ∧ mZ r) (fun _ => ([] : va_W)) := by
  refine mk_z (post := fun r _ => F_X5_isWithin xn xa xb = r) (cc := cX5_isWithin) (maxL := 3) (by decide) rfl (Nat.le_of_ble_eq_true rfl) ?_
  intro p e s m args below meth c A Q ls H locs hx hb hml hts hown hK hNW hA hP hD hS hl hret
  have hown : s.vm.findClass RX5 = some m.cls := hown
  have hl : lv_has ls 3 [(0, .int xn), (1, .int xa), (2, .int xb)] := hl
  have hR := F_X5_isWithin.eq_1 xn xa xb
  refine lv_iload_n hx hb dX5_isWithin_0 rfl (lv_at hl 0 rfl) ?_
  refine lv_iload_n hx hb dX5_isWithin_1 rfl (lv_at hl 1 rfl) ?_
  refine lv_icmp_lt (tgt := 14) hx hb dX5_isWithin_2 (by decide) (fun c_2 => ?_) (fun c_2 => ?_)
  · have c_2 : (xn < xa) := c_2
    have hR := hR.trans (if_pos c_2)
    refine lv_iconst (v := (0 : Int32)) hx hb dX5_isWithin_14 (by decide) ?_
    exact hret _ _ (0 : Int32) () _ _ hR (Or.inl rfl) hP hD hS dX5_isWithin_15
  · have c_2 : ¬ (xn < xa) := c_2
    have hR := hR.trans (if_neg c_2)
    refine lv_iload_n hx hb dX5_isWithin_5 rfl (lv_at hl 0 rfl) ?_
    refine lv_iload_n hx hb dX5_isWithin_6 rfl (lv_at hl 2 rfl) ?_
    refine lv_icmp_gt (tgt := 14) hx hb dX5_isWithin_7 (by decide) (fun c_7 => ?_) (fun c_7 => ?_)
    · have c_7 : (xb < xn) := c_7
      have hR := hR.trans (if_pos c_7)
      refine lv_iconst (v := (0 : Int32)) hx hb dX5_isWithin_14 (by decide) ?_
      exact hret _ _ (0 : Int32) () _ _ hR (Or.inl rfl) hP hD hS dX5_isWithin_15
    · have c_7 : ¬ (xb < xn) := c_7
      have hR := hR.trans (if_neg c_7)
      refine lv_iconst (v := (1 : Int32)) hx hb dX5_isWithin_10 (by decide) ?_
      refine lv_goto (tgt := 15) hx hb dX5_isWithin_11 (by decide) ?_
      exact hret _ _ (1 : Int32) () _ _ hR (Or.inr rfl) hP hD hS dX5_isWithin_15

abbrev rm_X5_hasHour : Room := { frames := 1, cells := 0, slots := 0, locals := 22 }
set_option maxHeartbeats 4000000 in
set_option maxRecDepth 100000 in
theorem c_X5_hasHour (l : Launch) (δ : va_G) (cI cJ cZ : ClassId) (xs : Int32) (xh : Int32) : mMi l δ (mTy cI cJ cZ) yX5_hasHour wsX5_hasHour rm_X5_hasHour [.int xs, .int xh] ([] : va_W) (S := Unit) (fun r _ => F_X5_hasHour xs xh = r ∧ mZ r) (fun _ => ([] : va_W)) := by
  refine mk_z (post := fun r _ => F_X5_hasHour xs xh = r) (cc := cX5_hasHour) (maxL := 2) (by decide) rfl (Nat.le_of_ble_eq_true rfl) ?_
  intro p e s m args below meth c A Q ls H locs hx hb hml hts hown hK hNW hA hP hD hS hl hret
  have hown : s.vm.findClass RX5 = some m.cls := hown
  have hl : lv_has ls 2 [(0, .int xs), (1, .int xh)] := hl
  have hR := F_X5_hasHour.eq_1 xs xh
  refine lv_iload_n hx hb dX5_hasHour_0 rfl (lv_at hl 1 rfl) ?_
  refine lv_iconst (v := (0 : Int32)) hx hb dX5_hasHour_1 (by decide) ?_
  refine lv_bipush (v := (23 : Int32)) hx hb dX5_hasHour_2 (by decide) ?_
  have hr := mrS (p := p) (e := e) (R := rm_X5_hasHour) (below := below) (meth := meth) (H := H) (locs := locs) (ls := ls) (As := [.int xh, .int (0 : Int32), .int (23 : Int32)]) (rest := []) (c_X5_isWithin l δ cI cJ cZ xh (0 : Int32) (23 : Int32)) hx hb hml hts hown hK hNW hP hD [] rfl rfl (va_cwS 3 hts gX5_hasHour_X5_isWithin rfl rfl rfl (by decide +kernel) ⟨(Nat.le_of_ble_eq_true rfl), (Nat.le_of_ble_eq_true rfl)⟩) rfl hl.1 rfl (Nat.le_of_ble_eq_true rfl) dX5_hasHour_4
  refine mc_i (wr := ([] : va_W)) hr hP hD hS hA [] [] [] rfl rfl rfl rfl rfl (wn := fun _ => ([] : va_W)) (fun _ => rfl) (fun r_4 _ H locs hw_4 hP hD hS => ?_)
  obtain ⟨hw_4, z_4⟩ := hw_4
  have hP : va_P δ vwCl ([] : va_W) H := hP
  have hD : va_D A ([] : va_W) := hD
  have hR := bnd_eq hR hw_4.symm
  refine lv_if_eq (tgt := 22) hx hb dX5_hasHour_7 (by decide) (fun c_7 => ?_) (fun c_7 => ?_)
  · have c_7 : (r_4 = 0) := c_7
    have hR := hR.trans (if_pos c_7)
    refine lv_iconst (v := (0 : Int32)) hx hb dX5_hasHour_22 (by decide) ?_
    exact hret _ _ (0 : Int32) () _ _ hR (Or.inl rfl) hP hD hS dX5_hasHour_23
  · have c_7 : ¬ (r_4 = 0) := c_7
    have hR := hR.trans (if_neg c_7)
    refine lv_iload_n hx hb dX5_hasHour_10 rfl (lv_at hl 0 rfl) ?_
    refine lv_iconst (v := (1 : Int32)) hx hb dX5_hasHour_11 (by decide) ?_
    refine lv_iload_n hx hb dX5_hasHour_12 rfl (lv_at hl 1 rfl) ?_
    refine lv_ishl hx hb dX5_hasHour_13 ?_
    refine lv_iand hx hb dX5_hasHour_14 ?_
    refine lv_if_eq (tgt := 22) hx hb dX5_hasHour_15 (by decide) (fun c_15 => ?_) (fun c_15 => ?_)
    · have c_15 : ((xs &&& ((1 : Int32) <<< (xh &&& 31))) = 0) := c_15
      have hR := hR.trans (if_pos c_15)
      refine lv_iconst (v := (0 : Int32)) hx hb dX5_hasHour_22 (by decide) ?_
      exact hret _ _ (0 : Int32) () _ _ hR (Or.inl rfl) hP hD hS dX5_hasHour_23
    · have c_15 : ¬ ((xs &&& ((1 : Int32) <<< (xh &&& 31))) = 0) := c_15
      have hR := hR.trans (if_neg c_15)
      refine lv_iconst (v := (1 : Int32)) hx hb dX5_hasHour_18 (by decide) ?_
      refine lv_goto (tgt := 23) hx hb dX5_hasHour_19 (by decide) ?_
      exact hret _ _ (1 : Int32) () _ _ hR (Or.inr rfl) hP hD hS dX5_hasHour_23

abbrev rm_X1_isThere : Room := { frames := 0, cells := 0, slots := 0, locals := 0 }
set_option maxHeartbeats 4000000 in
set_option maxRecDepth 100000 in
theorem c_X1_isThere (l : Launch) (δ : va_G) (cI cJ cZ : ClassId) (aK0 aK1 aK2 aK3 aK4 aK5 : Nat) (k : KS) (xc : Int32) : mMi l δ (mTy cI cJ cZ) yX1_isThere wsX1_isThere rm_X1_isThere [.ref aK0, .int xc] (wK cI aK0 aK1 aK2 aK3 aK4 aK5 k) (S := Unit) (fun r _ => F_X1_isThere k xc = r ∧ mZ r) (fun _ => (wK cI aK0 aK1 aK2 aK3 aK4 aK5 k)) := by
  refine mk_z (post := fun r _ => F_X1_isThere k xc = r) (cc := cX1_isThere) (maxL := 2) (by decide) rfl (Nat.le_of_ble_eq_true rfl) ?_
  intro p e s m args below meth c A Q ls H locs hx hb hml hts hown hK hNW hA hP hD hS hl hret
  have hown : s.vm.findClass RX1 = some m.cls := hown
  have hl : lv_has ls 2 [(0, .ref aK0), (1, .int xc)] := hl
  have hinX1 : ∀ w ∈ u_ws RX1 TX1 11, w ∈ wsX1_isThere := (fun _ h => List.mem_cons_of_mem _ (List.mem_append_right _ (h)))
  have hR := F_X1_isThere.eq_1 k xc
  refine lv_iload_n hx hb dX1_isThere_0 rfl (lv_at hl 1 rfl) ?_
  refine lv_if_lt (tgt := 25) hx hb dX1_isThere_1 (by decide) (fun c_1 => ?_) (fun c_1 => ?_)
  · have c_1 : (xc < 0) := c_1
    have hR := hR.trans (if_pos c_1)
    refine lv_iconst (v := (0 : Int32)) hx hb dX1_isThere_25 (by decide) ?_
    exact hret _ _ (0 : Int32) () _ _ hR (Or.inl rfl) hP hD hS dX1_isThere_26
  · have c_1 : ¬ (xc < 0) := c_1
    have hR := hR.trans (if_neg c_1)
    refine lv_iload_n hx hb dX1_isThere_4 rfl (lv_at hl 1 rfl) ?_
    refine lv_bipush (v := (6 : Int32)) hx hb dX1_isThere_5 (by decide) ?_
    refine lv_icmp_ge (tgt := 25) hx hb dX1_isThere_7 (by decide) (fun c_7 => ?_) (fun c_7 => ?_)
    · have c_7 : ((6 : Int32) ≤ xc) := c_7
      have hR := hR.trans (if_pos c_7)
      refine lv_iconst (v := (0 : Int32)) hx hb dX1_isThere_25 (by decide) ?_
      exact hret _ _ (0 : Int32) () _ _ hR (Or.inl rfl) hP hD hS dX1_isThere_26
    · have c_7 : ¬ ((6 : Int32) ≤ xc) := c_7
      have hR := hR.trans (if_neg c_7)
      refine lv_aload_n hx hb dX1_isThere_10 rfl (lv_at hl 0 rfl) ?_
      refine va_get (D := δ) (ci := 1) (v := .int (kPresent k)) (C := RX1) (T := TX1) (N := 11) hx hb hts hinX1 hown hK hP 0 rfl rfl 0 (by decide) (hts (.fieldLink RX1 31 "GloveHours$Court" "present" "I") (List.mem_of_getElem? (i := 1) rfl)) (fun _ h9 => h9) rfl dX1_isThere_11 ?_
      refine lv_iconst (v := (1 : Int32)) hx hb dX1_isThere_14 (by decide) ?_
      refine lv_iload_n hx hb dX1_isThere_15 rfl (lv_at hl 1 rfl) ?_
      refine lv_ishl hx hb dX1_isThere_16 ?_
      refine lv_iand hx hb dX1_isThere_17 ?_
      refine lv_if_eq (tgt := 25) hx hb dX1_isThere_18 (by decide) (fun c_18 => ?_) (fun c_18 => ?_)
      · have c_18 : (((kPresent k) &&& ((1 : Int32) <<< (xc &&& 31))) = 0) := c_18
        have hR := hR.trans (if_pos c_18)
        refine lv_iconst (v := (0 : Int32)) hx hb dX1_isThere_25 (by decide) ?_
        exact hret _ _ (0 : Int32) () _ _ hR (Or.inl rfl) hP hD hS dX1_isThere_26
      · have c_18 : ¬ (((kPresent k) &&& ((1 : Int32) <<< (xc &&& 31))) = 0) := c_18
        have hR := hR.trans (if_neg c_18)
        refine lv_iconst (v := (1 : Int32)) hx hb dX1_isThere_21 (by decide) ?_
        refine lv_goto (tgt := 26) hx hb dX1_isThere_22 (by decide) ?_
        exact hret _ _ (1 : Int32) () _ _ hR (Or.inr rfl) hP hD hS dX1_isThere_26

abbrev rm_X1_owns : Room := { frames := 0, cells := 0, slots := 0, locals := 0 }
set_option maxHeartbeats 4000000 in
set_option maxRecDepth 100000 in
theorem c_X1_owns (l : Launch) (δ : va_G) (cI cJ cZ : ClassId) (aK0 aK1 aK2 aK3 aK4 aK5 : Nat) (k : KS) (xc : Int32) (xh : Int32) : mMi l δ (mTy cI cJ cZ) yX1_owns wsX1_owns rm_X1_owns [.ref aK0, .int xc, .int xh] (wK cI aK0 aK1 aK2 aK3 aK4 aK5 k) (S := Unit) (fun r _ => F_X1_owns k xc xh = r ∧ mZ r) (fun _ => (wK cI aK0 aK1 aK2 aK3 aK4 aK5 k)) := by
  refine mk_z (post := fun r _ => F_X1_owns k xc xh = r) (cc := cX1_owns) (maxL := 3) (by decide) rfl (Nat.le_of_ble_eq_true rfl) ?_
  intro p e s m args below meth c A Q ls H locs hx hb hml hts hown hK hNW hA hP hD hS hl hret
  have hown : s.vm.findClass RX1 = some m.cls := hown
  have hl : lv_has ls 3 [(0, .ref aK0), (1, .int xc), (2, .int xh)] := hl
  have hinX1 : ∀ w ∈ u_ws RX1 TX1 11, w ∈ wsX1_owns := (fun _ h => List.mem_cons_of_mem _ (List.mem_append_right _ (h)))
  have hR := F_X1_owns.eq_1 k xc xh
  refine lv_iload_n hx hb dX1_owns_0 rfl (lv_at hl 1 rfl) ?_
  refine lv_if_lt (tgt := 37) hx hb dX1_owns_1 (by decide) (fun c_1 => ?_) (fun c_1 => ?_)
  · have c_1 : (xc < 0) := c_1
    have hR := hR.trans (if_pos c_1)
    refine lv_iconst (v := (0 : Int32)) hx hb dX1_owns_37 (by decide) ?_
    exact hret _ _ (0 : Int32) () _ _ hR (Or.inl rfl) hP hD hS dX1_owns_38
  · have c_1 : ¬ (xc < 0) := c_1
    have hR := hR.trans (if_neg c_1)
    refine lv_iload_n hx hb dX1_owns_4 rfl (lv_at hl 1 rfl) ?_
    refine lv_bipush (v := (6 : Int32)) hx hb dX1_owns_5 (by decide) ?_
    refine lv_icmp_ge (tgt := 37) hx hb dX1_owns_7 (by decide) (fun c_7 => ?_) (fun c_7 => ?_)
    · have c_7 : ((6 : Int32) ≤ xc) := c_7
      have hR := hR.trans (if_pos c_7)
      refine lv_iconst (v := (0 : Int32)) hx hb dX1_owns_37 (by decide) ?_
      exact hret _ _ (0 : Int32) () _ _ hR (Or.inl rfl) hP hD hS dX1_owns_38
    · have c_7 : ¬ ((6 : Int32) ≤ xc) := c_7
      have hR := hR.trans (if_neg c_7)
      refine lv_iload_n hx hb dX1_owns_10 rfl (lv_at hl 2 rfl) ?_
      refine lv_if_lt (tgt := 37) hx hb dX1_owns_11 (by decide) (fun c_11 => ?_) (fun c_11 => ?_)
      · have c_11 : (xh < 0) := c_11
        have hR := hR.trans (if_pos c_11)
        refine lv_iconst (v := (0 : Int32)) hx hb dX1_owns_37 (by decide) ?_
        exact hret _ _ (0 : Int32) () _ _ hR (Or.inl rfl) hP hD hS dX1_owns_38
      · have c_11 : ¬ (xh < 0) := c_11
        have hR := hR.trans (if_neg c_11)
        refine lv_iload_n hx hb dX1_owns_14 rfl (lv_at hl 2 rfl) ?_
        refine lv_bipush (v := (24 : Int32)) hx hb dX1_owns_15 (by decide) ?_
        refine lv_icmp_ge (tgt := 37) hx hb dX1_owns_17 (by decide) (fun c_17 => ?_) (fun c_17 => ?_)
        · have c_17 : ((24 : Int32) ≤ xh) := c_17
          have hR := hR.trans (if_pos c_17)
          refine lv_iconst (v := (0 : Int32)) hx hb dX1_owns_37 (by decide) ?_
          exact hret _ _ (0 : Int32) () _ _ hR (Or.inl rfl) hP hD hS dX1_owns_38
        · have c_17 : ¬ ((24 : Int32) ≤ xh) := c_17
          have hR := hR.trans (if_neg c_17)
          refine lv_aload_n hx hb dX1_owns_20 rfl (lv_at hl 0 rfl) ?_
          refine va_get (D := δ) (ci := 1) (v := .ref aK1) (C := RX1) (T := TX1) (N := 11) hx hb hts hinX1 hown hK hP 0 rfl rfl 6 (by decide) (hts (.fieldLink RX1 15 "GloveHours$Court" "pairs" "[I") (List.mem_of_getElem? (i := 1) rfl)) (fun _ h9 => h9) rfl dX1_owns_21 ?_
          refine lv_iload_n hx hb dX1_owns_24 rfl (lv_at hl 1 rfl) ?_
          refine va_iald hx hb hK hP 1 0 rfl rfl (in_gd c_1 c_7 (by decide)) dX1_owns_25 ?_
          refine lv_iconst (v := (1 : Int32)) hx hb dX1_owns_26 (by decide) ?_
          refine lv_iload_n hx hb dX1_owns_27 rfl (lv_at hl 2 rfl) ?_
          refine lv_ishl hx hb dX1_owns_28 ?_
          refine lv_iand hx hb dX1_owns_29 ?_
          refine lv_if_eq (tgt := 37) hx hb dX1_owns_30 (by decide) (fun c_30 => ?_) (fun c_30 => ?_)
          · have c_30 : ((((kPairs k) xc.toNatClampNeg) &&& ((1 : Int32) <<< (xh &&& 31))) = 0) := c_30
            have hR := hR.trans (if_pos c_30)
            refine lv_iconst (v := (0 : Int32)) hx hb dX1_owns_37 (by decide) ?_
            exact hret _ _ (0 : Int32) () _ _ hR (Or.inl rfl) hP hD hS dX1_owns_38
          · have c_30 : ¬ ((((kPairs k) xc.toNatClampNeg) &&& ((1 : Int32) <<< (xh &&& 31))) = 0) := c_30
            have hR := hR.trans (if_neg c_30)
            refine lv_iconst (v := (1 : Int32)) hx hb dX1_owns_33 (by decide) ?_
            refine lv_goto (tgt := 38) hx hb dX1_owns_34 (by decide) ?_
            exact hret _ _ (1 : Int32) () _ _ hR (Or.inr rfl) hP hD hS dX1_owns_38

abbrev rm_X1_pairsOf : Room := { frames := 1, cells := 0, slots := 0, locals := 21 }
set_option maxHeartbeats 4000000 in
set_option maxRecDepth 100000 in
theorem c_X1_pairsOf (l : Launch) (δ : va_G) (cI cJ cZ : ClassId) (aK0 aK1 aK2 aK3 aK4 aK5 : Nat) (k : KS) (xc : Int32) : mMi l δ (mTy cI cJ cZ) yX1_pairsOf wsX1_pairsOf rm_X1_pairsOf [.ref aK0, .int xc] (wK cI aK0 aK1 aK2 aK3 aK4 aK5 k) (S := Unit) (fun r _ => F_X1_pairsOf k xc = r) (fun _ => (wK cI aK0 aK1 aK2 aK3 aK4 aK5 k)) := by
  refine mk_i (cc := cX1_pairsOf) (maxL := 2) (by decide) rfl (Nat.le_of_ble_eq_true rfl) ?_
  intro p e s m args below meth c A Q ls H locs hx hb hml hts hown hK hNW hA hP hD hS hl hret
  have hown : s.vm.findClass RX1 = some m.cls := hown
  have hl : lv_has ls 2 [(0, .ref aK0), (1, .int xc)] := hl
  have hinX1 : ∀ w ∈ u_ws RX1 TX1 11, w ∈ wsX1_pairsOf := (fun _ h => List.mem_cons_of_mem _ (List.mem_append_right _ (h)))
  have hR := F_X1_pairsOf.eq_1 k xc
  refine lv_aload_n hx hb dX1_pairsOf_0 rfl (lv_at hl 0 rfl) ?_
  refine lv_iload_n hx hb dX1_pairsOf_1 rfl (lv_at hl 1 rfl) ?_
  have hr := mrV (p := p) (e := e) (R := rm_X1_pairsOf) (below := below) (meth := meth) (H := H) (locs := locs) (ls := ls) (As := [.int xc]) (rest := []) (c_X1_isThere l δ cI cJ cZ aK0 aK1 aK2 aK3 aK4 aK5 k xc) hx hb hml hts hown hK hNW hP hD [0, 1, 2, 3, 4, 5] rfl rfl 1 0 rfl rfl (cwV 1 hts gX1_pairsOf_X1_isThere rfl rfl rfl (by decide +kernel) ⟨(Nat.le_of_ble_eq_true rfl), (Nat.le_of_ble_eq_true rfl)⟩) rfl hl.1 rfl (Nat.le_of_ble_eq_true rfl) dX1_pairsOf_2
  refine mc_i (wr := ([] : va_W)) hr hP hD hS hA [0, 1, 2, 3, 4, 5] [] [0, 1, 2, 3, 4, 5] rfl rfl rfl rfl rfl (wn := fun _ => (wK cI aK0 aK1 aK2 aK3 aK4 aK5 k)) (fun _ => rfl) (fun r_2 _ H locs hw_2 hP hD hS => ?_)
  obtain ⟨hw_2, z_2⟩ := hw_2
  have hP : va_P δ vwCl (wK cI aK0 aK1 aK2 aK3 aK4 aK5 k) H := hP
  have hD : va_D A (wK cI aK0 aK1 aK2 aK3 aK4 aK5 k) := hD
  have hR := bnd_eq hR hw_2.symm
  refine lv_if_eq (tgt := 17) hx hb dX1_pairsOf_5 (by decide) (fun c_5 => ?_) (fun c_5 => ?_)
  · have c_5 : (r_2 = 0) := c_5
    have hR := hR.trans (if_pos c_5)
    refine lv_iconst (v := (0 : Int32)) hx hb dX1_pairsOf_17 (by decide) ?_
    exact hret _ _ (0 : Int32) () _ _ hR hP hD hS dX1_pairsOf_18
  · have c_5 : ¬ (r_2 = 0) := c_5
    have hR := hR.trans (if_neg c_5)
    refine lv_aload_n hx hb dX1_pairsOf_8 rfl (lv_at hl 0 rfl) ?_
    refine va_get (D := δ) (ci := 1) (v := .ref aK1) (C := RX1) (T := TX1) (N := 11) hx hb hts hinX1 hown hK hP 0 rfl rfl 6 (by decide) (hts (.fieldLink RX1 15 "GloveHours$Court" "pairs" "[I") (List.mem_of_getElem? (i := 1) rfl)) (fun _ h9 => h9) rfl dX1_pairsOf_9 ?_
    refine lv_iload_n hx hb dX1_pairsOf_12 rfl (lv_at hl 1 rfl) ?_
    refine va_iald hx hb hK hP 1 0 rfl rfl (there_in hw_2 c_5) dX1_pairsOf_13 ?_
    refine lv_goto (tgt := 18) hx hb dX1_pairsOf_14 (by decide) ?_
    exact hret _ _ ((kPairs k) xc.toNatClampNeg) () _ _ hR hP hD hS dX1_pairsOf_18

abbrev rm_X1_countPairs : Room := { frames := 2, cells := 0, slots := 0, locals := 42 }
set_option maxHeartbeats 4000000 in
set_option maxRecDepth 100000 in
theorem c_X1_countPairs (l : Launch) (δ : va_G) (cI cJ cZ : ClassId) (aK0 aK1 aK2 aK3 aK4 aK5 : Nat) (k : KS) (xc : Int32) : mMi l δ (mTy cI cJ cZ) yX1_countPairs wsX1_countPairs rm_X1_countPairs [.ref aK0, .int xc] (wK cI aK0 aK1 aK2 aK3 aK4 aK5 k) (S := Unit) (fun r _ => F_X1_countPairs k xc = r) (fun _ => (wK cI aK0 aK1 aK2 aK3 aK4 aK5 k)) := by
  refine mk_i (cc := cX1_countPairs) (maxL := 2) (by decide) rfl (Nat.le_of_ble_eq_true rfl) ?_
  intro p e s m args below meth c A Q ls H locs hx hb hml hts hown hK hNW hA hP hD hS hl hret
  have hown : s.vm.findClass RX1 = some m.cls := hown
  have hl : lv_has ls 2 [(0, .ref aK0), (1, .int xc)] := hl
  have hR := F_X1_countPairs.eq_1 k xc
  refine lv_aload_n hx hb dX1_countPairs_0 rfl (lv_at hl 0 rfl) ?_
  refine lv_iload_n hx hb dX1_countPairs_1 rfl (lv_at hl 1 rfl) ?_
  have hr := mrV (p := p) (e := e) (R := rm_X1_countPairs) (below := below) (meth := meth) (H := H) (locs := locs) (ls := ls) (As := [.int xc]) (rest := []) (c_X1_pairsOf l δ cI cJ cZ aK0 aK1 aK2 aK3 aK4 aK5 k xc) hx hb hml hts hown hK hNW hP hD [0, 1, 2, 3, 4, 5] rfl rfl 1 0 rfl rfl (cwV 1 hts gX1_countPairs_X1_pairsOf rfl rfl rfl (by decide +kernel) ⟨(Nat.le_of_ble_eq_true rfl), (Nat.le_of_ble_eq_true rfl)⟩) rfl hl.1 rfl (Nat.le_of_ble_eq_true rfl) dX1_countPairs_2
  refine mc_i (wr := ([] : va_W)) hr hP hD hS hA [0, 1, 2, 3, 4, 5] [] [0, 1, 2, 3, 4, 5] rfl rfl rfl rfl rfl (wn := fun _ => (wK cI aK0 aK1 aK2 aK3 aK4 aK5 k)) (fun _ => rfl) (fun r_2 _ H locs hw_2 hP hD hS => ?_)
  have hP : va_P δ vwCl (wK cI aK0 aK1 aK2 aK3 aK4 aK5 k) H := hP
  have hD : va_D A (wK cI aK0 aK1 aK2 aK3 aK4 aK5 k) := hD
  have hR := bnd_eq hR hw_2.symm
  have hr := mrS (p := p) (e := e) (R := rm_X1_countPairs) (below := below) (meth := meth) (H := H) (locs := locs) (ls := ls) (As := [.int r_2]) (rest := []) (c_J6_bitCount_0f7a4 l δ cI cJ cZ r_2) hx hb hml hts hown hK hNW hP hD [] rfl rfl (va_cwS 1 hts gX1_countPairs_J6_bitCount_0f7a4 rfl rfl rfl (by decide +kernel) ⟨(Nat.le_of_ble_eq_true rfl), (Nat.le_of_ble_eq_true rfl)⟩) rfl hl.1 rfl (Nat.le_of_ble_eq_true rfl) dX1_countPairs_5
  refine mc_i (wr := (wK cI aK0 aK1 aK2 aK3 aK4 aK5 k)) hr hP hD hS hA [] [0, 1, 2, 3, 4, 5] [0, 1, 2, 3, 4, 5] rfl rfl rfl rfl rfl (wn := fun _ => (wK cI aK0 aK1 aK2 aK3 aK4 aK5 k)) (fun _ => rfl) (fun r_5 _ H locs hw_5 hP hD hS => ?_)
  have hP : va_P δ vwCl (wK cI aK0 aK1 aK2 aK3 aK4 aK5 k) H := hP
  have hD : va_D A (wK cI aK0 aK1 aK2 aK3 aK4 aK5 k) := hD
  have hR := bnd_eq hR hw_5.symm
  exact hret _ _ r_5 () _ _ hR hP hD hS dX1_countPairs_8

abbrev rm_X1_pairsOfSet : Room := { frames := 2, cells := 0, slots := 0, locals := 42 }
set_option maxHeartbeats 4000000 in
set_option maxRecDepth 100000 in
theorem c_X1_pairsOfSet (l : Launch) (δ : va_G) (cI cJ cZ : ClassId) (aK0 aK1 aK2 aK3 aK4 aK5 : Nat) (k : KS) (xs : Int32) : mMi l δ (mTy cI cJ cZ) yX1_pairsOfSet wsX1_pairsOfSet rm_X1_pairsOfSet [.ref aK0, .int xs] (wK cI aK0 aK1 aK2 aK3 aK4 aK5 k) (S := Unit) (fun r _ => F_X1_pairsOfSet k xs = r) (fun _ => (wK cI aK0 aK1 aK2 aK3 aK4 aK5 k)) := by
  refine mk_i (cc := cX1_pairsOfSet) (maxL := 4) (by decide) rfl (Nat.le_of_ble_eq_true rfl) ?_
  intro p e s m args below meth c A Q ls H locs hx hb hml hts hown hK hNW hA hP hD hS hl hret
  have hown : s.vm.findClass RX1 = some m.cls := hown
  have hl : lv_has ls 4 [(0, .ref aK0), (1, .int xs)] := hl
  have hR := F_X1_pairsOfSet.eq_1 k xs
  refine lv_iconst (v := (0 : Int32)) hx hb dX1_pairsOfSet_0 (by decide) ?_
  refine lv_istore_n (lv' := [(2, .int (0 : Int32)), (0, .ref aK0), (1, .int xs)]) hx hb dX1_pairsOfSet_1 rfl hl (by decide) rfl (fun ls hl => ?_)
  refine lv_iconst (v := (0 : Int32)) hx hb dX1_pairsOfSet_2 (by decide) ?_
  refine lv_istore_n (lv' := [(3, .int (0 : Int32)), (2, .int (0 : Int32)), (0, .ref aK0), (1, .int xs)]) hx hb dX1_pairsOfSet_3 rfl hl (by decide) rfl (fun ls hl => ?_)
  have hloop_4 : ∀ (n_4 : Nat) (i_4 : Nat) (v2_4 : Int32) (H : Heap) (locs : List Loc) (ls : Array Slot), (hi_4 : i_4 ≤ 6) → (hn_4 : 6 < i_4 + n_4) → (hP : va_P δ vwCl (wK cI aK0 aK1 aK2 aK3 aK4 aK5 k) H) → (hD : va_D A (wK cI aK0 aK1 aK2 aK3 aK4 aK5 k)) → (hS : va_S A s.heap H locs) → (hl : lv_has ls 4 [(3, .int (nI i_4)), (2, .int v2_4), (0, .ref aK0), (1, .int xs)]) → (kk : ∀ (w_4 : Int32) (H : Heap) (locs : List Loc) (ls : Array Slot), L_X1_pairsOfSet_4 k xs n_4 i_4 v2_4 = w_4 → va_P δ vwCl (wK cI aK0 aK1 aK2 aK3 aK4 aK5 k) H → va_D A (wK cI aK0 aK1 aK2 aK3 aK4 aK5 k) → va_S A s.heap H locs → lv_has ls 4 [(2, .int w_4), (0, .ref aK0), (1, .int xs)] → W p l e rm_X1_pairsOfSet s m args below meth c H locs 0 0 Q (F0 m 32 ls [])) → W p l e rm_X1_pairsOfSet s m args below meth c H locs 0 0 Q (F0 m 4 ls []) := by
    intro n_4
    induction n_4 with
    | zero => intro i_4 v2_4 H locs ls hi_4 hn_4 hP hD hS hl kk; exact absurd hn_4 (by omega)
    | succ n_4 ih_4 =>
      intro i_4 v2_4 H locs ls hi_4 hn_4 hP hD hS hl kk
      have hR := L_X1_pairsOfSet_4_s k xs n_4 i_4 v2_4
      refine lv_iload_n hx hb dX1_pairsOfSet_4 rfl (lv_at hl 0 rfl) ?_
      refine lv_bipush (v := (6 : Int32)) hx hb dX1_pairsOfSet_5 (by decide) ?_
      refine lv_icmp_ge (tgt := 32) hx hb dX1_pairsOfSet_7 (by decide) (fun c_7 => ?_) (fun c_7 => ?_)
      · have c_7 : ((6 : Int32) ≤ (nI i_4)) := c_7
        have hR := hR.trans (if_pos c_7)
        exact kk v2_4 H locs ls hR hP hD hS (lv_sub hl [1, 2, 3] rfl)
      · have c_7 : ¬ ((6 : Int32) ≤ (nI i_4)) := c_7
        have hR := hR.trans (if_neg c_7)
        have hlt_4 : i_4 < 6 := lt_g c_7 hi_4 (by decide)
        refine lv_iload_n hx hb dX1_pairsOfSet_10 rfl (lv_at hl 3 rfl) ?_
        refine lv_iconst (v := (1 : Int32)) hx hb dX1_pairsOfSet_11 (by decide) ?_
        refine lv_iload_n hx hb dX1_pairsOfSet_12 rfl (lv_at hl 0 rfl) ?_
        refine lv_ishl hx hb dX1_pairsOfSet_13 ?_
        refine lv_iand hx hb dX1_pairsOfSet_14 ?_
        refine lv_if_eq (tgt := 26) hx hb dX1_pairsOfSet_15 (by decide) (fun c_15 => ?_) (fun c_15 => ?_)
        · have c_15 : ((xs &&& ((1 : Int32) <<< ((nI i_4) &&& 31))) = 0) := c_15
          have hR := hR.trans (if_pos c_15)
          refine lv_iinc (v := (nI (i_4 + 1))) (lv' := [(3, .int (nI (i_4 + 1))), (2, .int v2_4), (0, .ref aK0), (1, .int xs)]) hx hb dX1_pairsOfSet_26 hl (k := 0) rfl (nI_1 i_4) (by decide) rfl (fun ls hl => ?_)
          refine lv_goto (tgt := 4) hx hb dX1_pairsOfSet_29 (by decide) ?_
          exact ih_4 (i_4 + 1) v2_4 _ _ _ (by omega) (by omega) hP hD hS (lv_sub hl [0, 1, 2, 3] rfl) (fun w_4 H locs ls he hP hD hS hl => kk w_4 H locs ls (hR.trans he) hP hD hS hl)
        · have c_15 : ¬ ((xs &&& ((1 : Int32) <<< ((nI i_4) &&& 31))) = 0) := c_15
          have hR := hR.trans (if_neg c_15)
          refine lv_iload_n hx hb dX1_pairsOfSet_18 rfl (lv_at hl 1 rfl) ?_
          refine lv_aload_n hx hb dX1_pairsOfSet_19 rfl (lv_at hl 2 rfl) ?_
          refine lv_iload_n hx hb dX1_pairsOfSet_20 rfl (lv_at hl 0 rfl) ?_
          have hr := mrV (p := p) (e := e) (R := rm_X1_pairsOfSet) (below := below) (meth := meth) (H := H) (locs := locs) (ls := ls) (As := [.int (nI i_4)]) (rest := [.int v2_4]) (c_X1_pairsOf l δ cI cJ cZ aK0 aK1 aK2 aK3 aK4 aK5 k (nI i_4)) hx hb hml hts hown hK hNW hP hD [0, 1, 2, 3, 4, 5] rfl rfl 1 0 rfl rfl (cwV 1 hts gX1_pairsOfSet_X1_pairsOf rfl rfl rfl (by decide +kernel) ⟨(Nat.le_of_ble_eq_true rfl), (Nat.le_of_ble_eq_true rfl)⟩) rfl hl.1 rfl (Nat.le_of_ble_eq_true rfl) dX1_pairsOfSet_21
          refine mc_i (wr := ([] : va_W)) hr hP hD hS hA [0, 1, 2, 3, 4, 5] [] [0, 1, 2, 3, 4, 5] rfl rfl rfl rfl rfl (wn := fun _ => (wK cI aK0 aK1 aK2 aK3 aK4 aK5 k)) (fun _ => rfl) (fun r_21 _ H locs hw_21 hP hD hS => ?_)
          have hP : va_P δ vwCl (wK cI aK0 aK1 aK2 aK3 aK4 aK5 k) H := hP
          have hD : va_D A (wK cI aK0 aK1 aK2 aK3 aK4 aK5 k) := hD
          have hR := bnd_eq hR hw_21.symm
          refine lv_ior hx hb dX1_pairsOfSet_24 ?_
          refine lv_istore_n (lv' := [(2, .int (v2_4 ||| r_21)), (3, .int (nI i_4)), (0, .ref aK0), (1, .int xs)]) hx hb dX1_pairsOfSet_25 rfl hl (by decide) rfl (fun ls hl => ?_)
          refine lv_iinc (v := (nI (i_4 + 1))) (lv' := [(3, .int (nI (i_4 + 1))), (2, .int (v2_4 ||| r_21)), (0, .ref aK0), (1, .int xs)]) hx hb dX1_pairsOfSet_26 hl (k := 1) rfl (nI_1 i_4) (by decide) rfl (fun ls hl => ?_)
          refine lv_goto (tgt := 4) hx hb dX1_pairsOfSet_29 (by decide) ?_
          exact ih_4 (i_4 + 1) (v2_4 ||| r_21) _ _ _ (by omega) (by omega) hP hD hS (lv_sub hl [0, 1, 2, 3] rfl) (fun w_4 H locs ls he hP hD hS hl => kk w_4 H locs ls (hR.trans he) hP hD hS hl)
  refine hloop_4 (6 + 1) 0 (0 : Int32) _ _ _ (by omega) (by omega) hP hD hS (lv_sub hl [0, 1, 2, 3] rfl) (fun w_4 H locs ls hw_4 hP hD hS hl => ?_)
  have hP : va_P δ vwCl (wK cI aK0 aK1 aK2 aK3 aK4 aK5 k) H := hP
  have hD : va_D A (wK cI aK0 aK1 aK2 aK3 aK4 aK5 k) := hD
  have hR := bnd_eq hR hw_4.symm
  refine lv_iload_n hx hb dX1_pairsOfSet_32 rfl (lv_at hl 0 rfl) ?_
  exact hret _ _ w_4 () _ _ hR hP hD hS dX1_pairsOfSet_33

abbrev rm_X1_ownersOf : Room := { frames := 1, cells := 0, slots := 0, locals := 22 }
set_option maxHeartbeats 4000000 in
set_option maxRecDepth 100000 in
theorem c_X1_ownersOf (l : Launch) (δ : va_G) (cI cJ cZ : ClassId) (aK0 aK1 aK2 aK3 aK4 aK5 : Nat) (k : KS) (xh : Int32) : mMi l δ (mTy cI cJ cZ) yX1_ownersOf wsX1_ownersOf rm_X1_ownersOf [.ref aK0, .int xh] (wK cI aK0 aK1 aK2 aK3 aK4 aK5 k) (S := Unit) (fun r _ => F_X1_ownersOf k xh = r) (fun _ => (wK cI aK0 aK1 aK2 aK3 aK4 aK5 k)) := by
  refine mk_i (cc := cX1_ownersOf) (maxL := 4) (by decide) rfl (Nat.le_of_ble_eq_true rfl) ?_
  intro p e s m args below meth c A Q ls H locs hx hb hml hts hown hK hNW hA hP hD hS hl hret
  have hown : s.vm.findClass RX1 = some m.cls := hown
  have hl : lv_has ls 4 [(0, .ref aK0), (1, .int xh)] := hl
  have hR := F_X1_ownersOf.eq_1 k xh
  refine lv_iconst (v := (0 : Int32)) hx hb dX1_ownersOf_0 (by decide) ?_
  refine lv_istore_n (lv' := [(2, .int (0 : Int32)), (0, .ref aK0), (1, .int xh)]) hx hb dX1_ownersOf_1 rfl hl (by decide) rfl (fun ls hl => ?_)
  refine lv_iconst (v := (0 : Int32)) hx hb dX1_ownersOf_2 (by decide) ?_
  refine lv_istore_n (lv' := [(3, .int (0 : Int32)), (2, .int (0 : Int32)), (0, .ref aK0), (1, .int xh)]) hx hb dX1_ownersOf_3 rfl hl (by decide) rfl (fun ls hl => ?_)
  have hloop_4 : ∀ (n_4 : Nat) (i_4 : Nat) (v2_4 : Int32) (H : Heap) (locs : List Loc) (ls : Array Slot), (hi_4 : i_4 ≤ 6) → (hn_4 : 6 < i_4 + n_4) → (hP : va_P δ vwCl (wK cI aK0 aK1 aK2 aK3 aK4 aK5 k) H) → (hD : va_D A (wK cI aK0 aK1 aK2 aK3 aK4 aK5 k)) → (hS : va_S A s.heap H locs) → (hl : lv_has ls 4 [(3, .int (nI i_4)), (2, .int v2_4), (0, .ref aK0), (1, .int xh)]) → (kk : ∀ (w_4 : Int32) (H : Heap) (locs : List Loc) (ls : Array Slot), L_X1_ownersOf_4 k xh n_4 i_4 v2_4 = w_4 → va_P δ vwCl (wK cI aK0 aK1 aK2 aK3 aK4 aK5 k) H → va_D A (wK cI aK0 aK1 aK2 aK3 aK4 aK5 k) → va_S A s.heap H locs → lv_has ls 4 [(2, .int w_4), (0, .ref aK0), (1, .int xh)] → W p l e rm_X1_ownersOf s m args below meth c H locs 0 0 Q (F0 m 31 ls [])) → W p l e rm_X1_ownersOf s m args below meth c H locs 0 0 Q (F0 m 4 ls []) := by
    intro n_4
    induction n_4 with
    | zero => intro i_4 v2_4 H locs ls hi_4 hn_4 hP hD hS hl kk; exact absurd hn_4 (by omega)
    | succ n_4 ih_4 =>
      intro i_4 v2_4 H locs ls hi_4 hn_4 hP hD hS hl kk
      have hR := L_X1_ownersOf_4_s k xh n_4 i_4 v2_4
      refine lv_iload_n hx hb dX1_ownersOf_4 rfl (lv_at hl 0 rfl) ?_
      refine lv_bipush (v := (6 : Int32)) hx hb dX1_ownersOf_5 (by decide) ?_
      refine lv_icmp_ge (tgt := 31) hx hb dX1_ownersOf_7 (by decide) (fun c_7 => ?_) (fun c_7 => ?_)
      · have c_7 : ((6 : Int32) ≤ (nI i_4)) := c_7
        have hR := hR.trans (if_pos c_7)
        exact kk v2_4 H locs ls hR hP hD hS (lv_sub hl [1, 2, 3] rfl)
      · have c_7 : ¬ ((6 : Int32) ≤ (nI i_4)) := c_7
        have hR := hR.trans (if_neg c_7)
        have hlt_4 : i_4 < 6 := lt_g c_7 hi_4 (by decide)
        refine lv_aload_n hx hb dX1_ownersOf_10 rfl (lv_at hl 2 rfl) ?_
        refine lv_iload_n hx hb dX1_ownersOf_11 rfl (lv_at hl 0 rfl) ?_
        refine lv_iload_n hx hb dX1_ownersOf_12 rfl (lv_at hl 3 rfl) ?_
        have hr := mrV (p := p) (e := e) (R := rm_X1_ownersOf) (below := below) (meth := meth) (H := H) (locs := locs) (ls := ls) (As := [.int (nI i_4), .int xh]) (rest := []) (c_X1_owns l δ cI cJ cZ aK0 aK1 aK2 aK3 aK4 aK5 k (nI i_4) xh) hx hb hml hts hown hK hNW hP hD [0, 1, 2, 3, 4, 5] rfl rfl 1 0 rfl rfl (cwV 2 hts gX1_ownersOf_X1_owns rfl rfl rfl (by decide +kernel) ⟨(Nat.le_of_ble_eq_true rfl), (Nat.le_of_ble_eq_true rfl)⟩) rfl hl.1 rfl (Nat.le_of_ble_eq_true rfl) dX1_ownersOf_13
        refine mc_i (wr := ([] : va_W)) hr hP hD hS hA [0, 1, 2, 3, 4, 5] [] [0, 1, 2, 3, 4, 5] rfl rfl rfl rfl rfl (wn := fun _ => (wK cI aK0 aK1 aK2 aK3 aK4 aK5 k)) (fun _ => rfl) (fun r_13 _ H locs hw_13 hP hD hS => ?_)
        obtain ⟨hw_13, z_13⟩ := hw_13
        have hP : va_P δ vwCl (wK cI aK0 aK1 aK2 aK3 aK4 aK5 k) H := hP
        have hD : va_D A (wK cI aK0 aK1 aK2 aK3 aK4 aK5 k) := hD
        have hR := bnd_eq hR hw_13.symm
        refine lv_if_eq (tgt := 25) hx hb dX1_ownersOf_16 (by decide) (fun c_16 => ?_) (fun c_16 => ?_)
        · have c_16 : (r_13 = 0) := c_16
          have hR := hR.trans (if_pos c_16)
          refine lv_iinc (v := (nI (i_4 + 1))) (lv' := [(3, .int (nI (i_4 + 1))), (2, .int v2_4), (0, .ref aK0), (1, .int xh)]) hx hb dX1_ownersOf_25 hl (k := 0) rfl (nI_1 i_4) (by decide) rfl (fun ls hl => ?_)
          refine lv_goto (tgt := 4) hx hb dX1_ownersOf_28 (by decide) ?_
          exact ih_4 (i_4 + 1) v2_4 _ _ _ (by omega) (by omega) hP hD hS (lv_sub hl [0, 1, 2, 3] rfl) (fun w_4 H locs ls he hP hD hS hl => kk w_4 H locs ls (hR.trans he) hP hD hS hl)
        · have c_16 : ¬ (r_13 = 0) := c_16
          have hR := hR.trans (if_neg c_16)
          refine lv_iload_n hx hb dX1_ownersOf_19 rfl (lv_at hl 1 rfl) ?_
          refine lv_iconst (v := (1 : Int32)) hx hb dX1_ownersOf_20 (by decide) ?_
          refine lv_iload_n hx hb dX1_ownersOf_21 rfl (lv_at hl 0 rfl) ?_
          refine lv_ishl hx hb dX1_ownersOf_22 ?_
          refine lv_ior hx hb dX1_ownersOf_23 ?_
          refine lv_istore_n (lv' := [(2, .int (v2_4 ||| ((1 : Int32) <<< ((nI i_4) &&& 31)))), (3, .int (nI i_4)), (0, .ref aK0), (1, .int xh)]) hx hb dX1_ownersOf_24 rfl hl (by decide) rfl (fun ls hl => ?_)
          refine lv_iinc (v := (nI (i_4 + 1))) (lv' := [(3, .int (nI (i_4 + 1))), (2, .int (v2_4 ||| ((1 : Int32) <<< ((nI i_4) &&& 31)))), (0, .ref aK0), (1, .int xh)]) hx hb dX1_ownersOf_25 hl (k := 1) rfl (nI_1 i_4) (by decide) rfl (fun ls hl => ?_)
          refine lv_goto (tgt := 4) hx hb dX1_ownersOf_28 (by decide) ?_
          exact ih_4 (i_4 + 1) (v2_4 ||| ((1 : Int32) <<< ((nI i_4) &&& 31))) _ _ _ (by omega) (by omega) hP hD hS (lv_sub hl [0, 1, 2, 3] rfl) (fun w_4 H locs ls he hP hD hS hl => kk w_4 H locs ls (hR.trans he) hP hD hS hl)
  refine hloop_4 (6 + 1) 0 (0 : Int32) _ _ _ (by omega) (by omega) hP hD hS (lv_sub hl [0, 1, 2, 3] rfl) (fun w_4 H locs ls hw_4 hP hD hS hl => ?_)
  have hP : va_P δ vwCl (wK cI aK0 aK1 aK2 aK3 aK4 aK5 k) H := hP
  have hD : va_D A (wK cI aK0 aK1 aK2 aK3 aK4 aK5 k) := hD
  have hR := bnd_eq hR hw_4.symm
  refine lv_iload_n hx hb dX1_ownersOf_31 rfl (lv_at hl 0 rfl) ?_
  exact hret _ _ w_4 () _ _ hR hP hD hS dX1_ownersOf_32

abbrev rm_X1_wearOf : Room := { frames := 1, cells := 0, slots := 0, locals := 22 }
set_option maxHeartbeats 4000000 in
set_option maxRecDepth 100000 in
theorem c_X1_wearOf (l : Launch) (δ : va_G) (cI cJ cZ : ClassId) (aK0 aK1 aK2 aK3 aK4 aK5 : Nat) (k : KS) (xc : Int32) (xh : Int32) : mMi l δ (mTy cI cJ cZ) yX1_wearOf wsX1_wearOf rm_X1_wearOf [.ref aK0, .int xc, .int xh] (wK cI aK0 aK1 aK2 aK3 aK4 aK5 k) (S := Unit) (fun r _ => F_X1_wearOf k xc xh = r) (fun _ => (wK cI aK0 aK1 aK2 aK3 aK4 aK5 k)) := by
  refine mk_i (cc := cX1_wearOf) (maxL := 3) (by decide) rfl (Nat.le_of_ble_eq_true rfl) ?_
  intro p e s m args below meth c A Q ls H locs hx hb hml hts hown hK hNW hA hP hD hS hl hret
  have hown : s.vm.findClass RX1 = some m.cls := hown
  have hl : lv_has ls 3 [(0, .ref aK0), (1, .int xc), (2, .int xh)] := hl
  have hinX1 : ∀ w ∈ u_ws RX1 TX1 11, w ∈ wsX1_wearOf := (fun _ h => List.mem_cons_of_mem _ (List.mem_append_right _ (h)))
  have hR := F_X1_wearOf.eq_1 k xc xh
  refine lv_aload_n hx hb dX1_wearOf_0 rfl (lv_at hl 0 rfl) ?_
  refine lv_iload_n hx hb dX1_wearOf_1 rfl (lv_at hl 1 rfl) ?_
  refine lv_iload_n hx hb dX1_wearOf_2 rfl (lv_at hl 2 rfl) ?_
  have hr := mrV (p := p) (e := e) (R := rm_X1_wearOf) (below := below) (meth := meth) (H := H) (locs := locs) (ls := ls) (As := [.int xc, .int xh]) (rest := []) (c_X1_owns l δ cI cJ cZ aK0 aK1 aK2 aK3 aK4 aK5 k xc xh) hx hb hml hts hown hK hNW hP hD [0, 1, 2, 3, 4, 5] rfl rfl 1 0 rfl rfl (cwV 2 hts gX1_wearOf_X1_owns rfl rfl rfl (by decide +kernel) ⟨(Nat.le_of_ble_eq_true rfl), (Nat.le_of_ble_eq_true rfl)⟩) rfl hl.1 rfl (Nat.le_of_ble_eq_true rfl) dX1_wearOf_3
  refine mc_i (wr := ([] : va_W)) hr hP hD hS hA [0, 1, 2, 3, 4, 5] [] [0, 1, 2, 3, 4, 5] rfl rfl rfl rfl rfl (wn := fun _ => (wK cI aK0 aK1 aK2 aK3 aK4 aK5 k)) (fun _ => rfl) (fun r_3 _ H locs hw_3 hP hD hS => ?_)
  obtain ⟨hw_3, z_3⟩ := hw_3
  have hP : va_P δ vwCl (wK cI aK0 aK1 aK2 aK3 aK4 aK5 k) H := hP
  have hD : va_D A (wK cI aK0 aK1 aK2 aK3 aK4 aK5 k) := hD
  have hR := bnd_eq hR hw_3.symm
  refine lv_if_eq (tgt := 23) hx hb dX1_wearOf_6 (by decide) (fun c_6 => ?_) (fun c_6 => ?_)
  · have c_6 : (r_3 = 0) := c_6
    have hR := hR.trans (if_pos c_6)
    refine lv_bipush (v := (-6 : Int32)) hx hb dX1_wearOf_23 (by decide) ?_
    exact hret _ _ (-6 : Int32) () _ _ hR hP hD hS dX1_wearOf_25
  · have c_6 : ¬ (r_3 = 0) := c_6
    have hR := hR.trans (if_neg c_6)
    refine lv_aload_n hx hb dX1_wearOf_9 rfl (lv_at hl 0 rfl) ?_
    refine va_get (D := δ) (ci := 1) (v := .ref aK5) (C := RX1) (T := TX1) (N := 11) hx hb hts hinX1 hown hK hP 0 rfl rfl 10 (by decide) (hts (.fieldLink RX1 28 "GloveHours$Court" "wears" "[I") (List.mem_of_getElem? (i := 1) rfl)) (fun _ h9 => h9) rfl dX1_wearOf_10 ?_
    refine lv_iload_n hx hb dX1_wearOf_13 rfl (lv_at hl 1 rfl) ?_
    refine lv_bipush (v := (24 : Int32)) hx hb dX1_wearOf_14 (by decide) ?_
    refine lv_imul hx hb dX1_wearOf_16 ?_
    refine lv_iload_n hx hb dX1_wearOf_17 rfl (lv_at hl 2 rfl) ?_
    refine lv_iadd hx hb dX1_wearOf_18 ?_
    refine va_iald hx hb hK hP 5 0 rfl rfl (in_144 (own_in hw_3 c_6).1 (own_in hw_3 c_6).2) dX1_wearOf_19 ?_
    refine lv_goto (tgt := 25) hx hb dX1_wearOf_20 (by decide) ?_
    exact hret _ _ ((kWears k) ((xc * (24 : Int32)) + xh).toNatClampNeg) () _ _ hR hP hD hS dX1_wearOf_25

abbrev rm_X1_rightOf : Room := { frames := 1, cells := 0, slots := 0, locals := 21 }
set_option maxHeartbeats 4000000 in
set_option maxRecDepth 100000 in
theorem c_X1_rightOf (l : Launch) (δ : va_G) (cI cJ cZ : ClassId) (aK0 aK1 aK2 aK3 aK4 aK5 : Nat) (k : KS) (xc : Int32) : mMi l δ (mTy cI cJ cZ) yX1_rightOf wsX1_rightOf rm_X1_rightOf [.ref aK0, .int xc] (wK cI aK0 aK1 aK2 aK3 aK4 aK5 k) (S := Unit) (fun r _ => F_X1_rightOf k xc = r) (fun _ => (wK cI aK0 aK1 aK2 aK3 aK4 aK5 k)) := by
  refine mk_i (cc := cX1_rightOf) (maxL := 2) (by decide) rfl (Nat.le_of_ble_eq_true rfl) ?_
  intro p e s m args below meth c A Q ls H locs hx hb hml hts hown hK hNW hA hP hD hS hl hret
  have hown : s.vm.findClass RX1 = some m.cls := hown
  have hl : lv_has ls 2 [(0, .ref aK0), (1, .int xc)] := hl
  have hinX1 : ∀ w ∈ u_ws RX1 TX1 11, w ∈ wsX1_rightOf := (fun _ h => List.mem_cons_of_mem _ (List.mem_append_right _ (h)))
  have hR := F_X1_rightOf.eq_1 k xc
  refine lv_aload_n hx hb dX1_rightOf_0 rfl (lv_at hl 0 rfl) ?_
  refine lv_iload_n hx hb dX1_rightOf_1 rfl (lv_at hl 1 rfl) ?_
  have hr := mrV (p := p) (e := e) (R := rm_X1_rightOf) (below := below) (meth := meth) (H := H) (locs := locs) (ls := ls) (As := [.int xc]) (rest := []) (c_X1_isThere l δ cI cJ cZ aK0 aK1 aK2 aK3 aK4 aK5 k xc) hx hb hml hts hown hK hNW hP hD [0, 1, 2, 3, 4, 5] rfl rfl 1 0 rfl rfl (cwV 1 hts gX1_rightOf_X1_isThere rfl rfl rfl (by decide +kernel) ⟨(Nat.le_of_ble_eq_true rfl), (Nat.le_of_ble_eq_true rfl)⟩) rfl hl.1 rfl (Nat.le_of_ble_eq_true rfl) dX1_rightOf_2
  refine mc_i (wr := ([] : va_W)) hr hP hD hS hA [0, 1, 2, 3, 4, 5] [] [0, 1, 2, 3, 4, 5] rfl rfl rfl rfl rfl (wn := fun _ => (wK cI aK0 aK1 aK2 aK3 aK4 aK5 k)) (fun _ => rfl) (fun r_2 _ H locs hw_2 hP hD hS => ?_)
  obtain ⟨hw_2, z_2⟩ := hw_2
  have hP : va_P δ vwCl (wK cI aK0 aK1 aK2 aK3 aK4 aK5 k) H := hP
  have hD : va_D A (wK cI aK0 aK1 aK2 aK3 aK4 aK5 k) := hD
  have hR := bnd_eq hR hw_2.symm
  refine lv_if_eq (tgt := 17) hx hb dX1_rightOf_5 (by decide) (fun c_5 => ?_) (fun c_5 => ?_)
  · have c_5 : (r_2 = 0) := c_5
    have hR := hR.trans (if_pos c_5)
    refine lv_bipush (v := (24 : Int32)) hx hb dX1_rightOf_17 (by decide) ?_
    exact hret _ _ (24 : Int32) () _ _ hR hP hD hS dX1_rightOf_19
  · have c_5 : ¬ (r_2 = 0) := c_5
    have hR := hR.trans (if_neg c_5)
    refine lv_aload_n hx hb dX1_rightOf_8 rfl (lv_at hl 0 rfl) ?_
    refine va_get (D := δ) (ci := 1) (v := .ref aK3) (C := RX1) (T := TX1) (N := 11) hx hb hts hinX1 hown hK hP 0 rfl rfl 8 (by decide) (hts (.fieldLink RX1 22 "GloveHours$Court" "right" "[I") (List.mem_of_getElem? (i := 1) rfl)) (fun _ h9 => h9) rfl dX1_rightOf_9 ?_
    refine lv_iload_n hx hb dX1_rightOf_12 rfl (lv_at hl 1 rfl) ?_
    refine va_iald hx hb hK hP 3 0 rfl rfl (there_in hw_2 c_5) dX1_rightOf_13 ?_
    refine lv_goto (tgt := 19) hx hb dX1_rightOf_14 (by decide) ?_
    exact hret _ _ ((kRight k) xc.toNatClampNeg) () _ _ hR hP hD hS dX1_rightOf_19

abbrev rm_X1_tellOf : Room := { frames := 1, cells := 0, slots := 0, locals := 21 }
set_option maxHeartbeats 4000000 in
set_option maxRecDepth 100000 in
theorem c_X1_tellOf (l : Launch) (δ : va_G) (cI cJ cZ : ClassId) (aK0 aK1 aK2 aK3 aK4 aK5 : Nat) (k : KS) (xc : Int32) (xw : Int32) : mMi l δ (mTy cI cJ cZ) yX1_tellOf wsX1_tellOf rm_X1_tellOf [.ref aK0, .int xc, .int xw] (wK cI aK0 aK1 aK2 aK3 aK4 aK5 k) (S := Unit) (fun r _ => F_X1_tellOf k xc xw = r) (fun _ => (wK cI aK0 aK1 aK2 aK3 aK4 aK5 k)) := by
  refine mk_i (cc := cX1_tellOf) (maxL := 3) (by decide) rfl (Nat.le_of_ble_eq_true rfl) ?_
  intro p e s m args below meth c A Q ls H locs hx hb hml hts hown hK hNW hA hP hD hS hl hret
  have hown : s.vm.findClass RX1 = some m.cls := hown
  have hl : lv_has ls 3 [(0, .ref aK0), (1, .int xc), (2, .int xw)] := hl
  have hinX1 : ∀ w ∈ u_ws RX1 TX1 11, w ∈ wsX1_tellOf := (fun _ h => List.mem_cons_of_mem _ (List.mem_append_right _ (h)))
  have hR := F_X1_tellOf.eq_1 k xc xw
  refine lv_aload_n hx hb dX1_tellOf_0 rfl (lv_at hl 0 rfl) ?_
  refine lv_iload_n hx hb dX1_tellOf_1 rfl (lv_at hl 1 rfl) ?_
  have hr := mrV (p := p) (e := e) (R := rm_X1_tellOf) (below := below) (meth := meth) (H := H) (locs := locs) (ls := ls) (As := [.int xc]) (rest := []) (c_X1_isThere l δ cI cJ cZ aK0 aK1 aK2 aK3 aK4 aK5 k xc) hx hb hml hts hown hK hNW hP hD [0, 1, 2, 3, 4, 5] rfl rfl 1 0 rfl rfl (cwV 1 hts gX1_tellOf_X1_isThere rfl rfl rfl (by decide +kernel) ⟨(Nat.le_of_ble_eq_true rfl), (Nat.le_of_ble_eq_true rfl)⟩) rfl hl.1 rfl (Nat.le_of_ble_eq_true rfl) dX1_tellOf_2
  refine mc_i (wr := ([] : va_W)) hr hP hD hS hA [0, 1, 2, 3, 4, 5] [] [0, 1, 2, 3, 4, 5] rfl rfl rfl rfl rfl (wn := fun _ => (wK cI aK0 aK1 aK2 aK3 aK4 aK5 k)) (fun _ => rfl) (fun r_2 _ H locs hw_2 hP hD hS => ?_)
  obtain ⟨hw_2, z_2⟩ := hw_2
  have hP : va_P δ vwCl (wK cI aK0 aK1 aK2 aK3 aK4 aK5 k) H := hP
  have hD : va_D A (wK cI aK0 aK1 aK2 aK3 aK4 aK5 k) := hD
  have hR := bnd_eq hR hw_2.symm
  refine lv_if_ne (tgt := 11) hx hb dX1_tellOf_5 (by decide) (fun c_5 => ?_) (fun c_5 => ?_)
  · have c_5 : ¬ (r_2 = 0) := c_5
    have hR := hR.trans (if_neg c_5)
    refine lv_iload_n hx hb dX1_tellOf_11 rfl (lv_at hl 2 rfl) ?_
    refine lv_iconst (v := (2 : Int32)) hx hb dX1_tellOf_12 (by decide) ?_
    refine lv_icmp_ne (tgt := 23) hx hb dX1_tellOf_13 (by decide) (fun c_13 => ?_) (fun c_13 => ?_)
    · have c_13 : ¬ (xw = (2 : Int32)) := c_13
      have hR := hR.trans (if_neg c_13)
      refine lv_iload_n hx hb dX1_tellOf_23 rfl (lv_at hl 2 rfl) ?_
      refine lv_if_ne (tgt := 36) hx hb dX1_tellOf_24 (by decide) (fun c_24 => ?_) (fun c_24 => ?_)
      · have c_24 : ¬ (xw = 0) := c_24
        have hR := hR.trans (if_neg c_24)
        refine lv_aload_n hx hb dX1_tellOf_36 rfl (lv_at hl 0 rfl) ?_
        refine va_get (D := δ) (ci := 1) (v := .ref aK3) (C := RX1) (T := TX1) (N := 11) hx hb hts hinX1 hown hK hP 0 rfl rfl 8 (by decide) (hts (.fieldLink RX1 22 "GloveHours$Court" "right" "[I") (List.mem_of_getElem? (i := 3) rfl)) (fun _ h9 => h9) rfl dX1_tellOf_37 ?_
        refine lv_iload_n hx hb dX1_tellOf_40 rfl (lv_at hl 1 rfl) ?_
        refine va_iald hx hb hK hP 3 0 rfl rfl (there_in hw_2 c_5) dX1_tellOf_41 ?_
        exact hret _ _ ((kRight k) xc.toNatClampNeg) () _ _ hR hP hD hS dX1_tellOf_42
      · have c_24 : (xw = 0) := c_24
        have hR := hR.trans (if_pos c_24)
        refine lv_aload_n hx hb dX1_tellOf_27 rfl (lv_at hl 0 rfl) ?_
        refine va_get (D := δ) (ci := 1) (v := .ref aK2) (C := RX1) (T := TX1) (N := 11) hx hb hts hinX1 hown hK hP 0 rfl rfl 7 (by decide) (hts (.fieldLink RX1 19 "GloveHours$Court" "left" "[I") (List.mem_of_getElem? (i := 2) rfl)) (fun _ h9 => h9) rfl dX1_tellOf_28 ?_
        refine lv_iload_n hx hb dX1_tellOf_31 rfl (lv_at hl 1 rfl) ?_
        refine va_iald hx hb hK hP 2 0 rfl rfl (there_in hw_2 c_5) dX1_tellOf_32 ?_
        refine lv_goto (tgt := 42) hx hb dX1_tellOf_33 (by decide) ?_
        exact hret _ _ ((kLeft k) xc.toNatClampNeg) () _ _ hR hP hD hS dX1_tellOf_42
    · have c_13 : (xw = (2 : Int32)) := c_13
      have hR := hR.trans (if_pos c_13)
      refine lv_aload_n hx hb dX1_tellOf_16 rfl (lv_at hl 0 rfl) ?_
      refine va_get (D := δ) (ci := 1) (v := .ref aK4) (C := RX1) (T := TX1) (N := 11) hx hb hts hinX1 hown hK hP 0 rfl rfl 9 (by decide) (hts (.fieldLink RX1 25 "GloveHours$Court" "scandals" "[I") (List.mem_of_getElem? (i := 1) rfl)) (fun _ h9 => h9) rfl dX1_tellOf_17 ?_
      refine lv_iload_n hx hb dX1_tellOf_20 rfl (lv_at hl 1 rfl) ?_
      refine va_iald hx hb hK hP 4 0 rfl rfl (there_in hw_2 c_5) dX1_tellOf_21 ?_
      exact hret _ _ ((kScandals k) xc.toNatClampNeg) () _ _ hR hP hD hS dX1_tellOf_22
  · have c_5 : (r_2 = 0) := c_5
    have hR := hR.trans (if_pos c_5)
    refine lv_bipush (v := (-6 : Int32)) hx hb dX1_tellOf_8 (by decide) ?_
    exact hret _ _ (-6 : Int32) () _ _ hR hP hD hS dX1_tellOf_10

abbrev rm_X1_arrive : Room := { frames := 1, cells := 0, slots := 0, locals := 22 }
set_option maxHeartbeats 4000000 in
set_option maxRecDepth 100000 in
theorem c_X1_arrive (l : Launch) (δ : va_G) (cI cJ cZ : ClassId) (aK0 aK1 aK2 aK3 aK4 aK5 : Nat) (k : KS) (xc : Int32) (xh : Int32) : mMv l δ (mTy cI cJ cZ) yX1_arrive wsX1_arrive rm_X1_arrive [.ref aK0, .int xc, .int xh] (wK cI aK0 aK1 aK2 aK3 aK4 aK5 k) (S := KS) (fun u => F_X1_arrive k xc xh = u) (fun u => (wK cI aK0 aK1 aK2 aK3 aK4 aK5 u)) := by
  refine mk_v (cc := cX1_arrive) (maxL := 4) (by decide) rfl (Nat.le_of_ble_eq_true rfl) ?_
  intro p e s m args below meth c A Q ls H locs hx hb hml hts hown hK hNW hA hP hD hS hl hret
  have hown : s.vm.findClass RX1 = some m.cls := hown
  have hl : lv_has ls 4 [(0, .ref aK0), (1, .int xc), (2, .int xh)] := hl
  have hinX1 : ∀ w ∈ u_ws RX1 TX1 11, w ∈ wsX1_arrive := (fun _ h => List.mem_cons_of_mem _ (List.mem_append_right _ (h)))
  have hR := F_X1_arrive.eq_1 k xc xh
  refine lv_iload_n hx hb dX1_arrive_0 rfl (lv_at hl 1 rfl) ?_
  refine lv_iconst (v := (0 : Int32)) hx hb dX1_arrive_1 (by decide) ?_
  refine lv_iconst (v := (5 : Int32)) hx hb dX1_arrive_2 (by decide) ?_
  have hr := mrN (p := p) (e := e) (R := rm_X1_arrive) (below := below) (meth := meth) (H := H) (locs := locs) (ls := ls) (As := [.int xc, .int (0 : Int32), .int (5 : Int32)]) (rest := []) (c_X5_isWithin l δ cI cJ cZ xc (0 : Int32) (5 : Int32)) hx hb hml hts hown hK hNW hP hD [] rfl rfl (va_cnB 3 hts gX1_arrive_X5_isWithin_n69 rfl rfl rfl hNW.1 (hts (.initialized RX5) (List.mem_of_getElem? (i := 8) rfl)) (by decide +kernel) ⟨(Nat.le_of_ble_eq_true rfl), (Nat.le_of_ble_eq_true rfl)⟩) (hts (.static yX5_isWithin) (List.mem_of_getElem? (i := 7) rfl)) rfl hl.1 rfl (Nat.le_of_ble_eq_true rfl) dX1_arrive_3
  refine mc_i (wr := (wK cI aK0 aK1 aK2 aK3 aK4 aK5 k)) hr hP hD hS hA [] [0, 1, 2, 3, 4, 5] [0, 1, 2, 3, 4, 5] rfl rfl rfl rfl rfl (wn := fun _ => (wK cI aK0 aK1 aK2 aK3 aK4 aK5 k)) (fun _ => rfl) (fun r_3 _ H locs hw_3 hP hD hS => ?_)
  obtain ⟨hw_3, z_3⟩ := hw_3
  have hP : va_P δ vwCl (wK cI aK0 aK1 aK2 aK3 aK4 aK5 k) H := hP
  have hD : va_D A (wK cI aK0 aK1 aK2 aK3 aK4 aK5 k) := hD
  have hR := bnd_eq hR hw_3.symm
  refine lv_if_ne (tgt := 10) hx hb dX1_arrive_6 (by decide) (fun c_6 => ?_) (fun c_6 => ?_)
  · have c_6 : ¬ (r_3 = 0) := c_6
    have hR := hR.trans (if_neg c_6)
    refine lv_aload_n hx hb dX1_arrive_10 rfl (lv_at hl 0 rfl) ?_
    refine lv_dup hx hb dX1_arrive_11 rfl ?_
    refine va_get (D := δ) (ci := 1) (v := .int (kPresent k)) (C := RX1) (T := TX1) (N := 11) hx hb hts hinX1 hown hK hP 0 rfl rfl 0 (by decide) (hts (.fieldLink RX1 31 "GloveHours$Court" "present" "I") (List.mem_of_getElem? (i := 1) rfl)) (fun _ h9 => h9) rfl dX1_arrive_12 ?_
    refine lv_iconst (v := (1 : Int32)) hx hb dX1_arrive_15 (by decide) ?_
    refine lv_iload_n hx hb dX1_arrive_16 rfl (lv_at hl 1 rfl) ?_
    refine lv_ishl hx hb dX1_arrive_17 ?_
    refine lv_ior hx hb dX1_arrive_18 ?_
    refine va_put (D := δ) (ci := 1) (v := .int ((kPresent k) ||| ((1 : Int32) <<< (xc &&& 31)))) (ty := .int) (C := RX1) (T := TX1) (N := 11) hx hb hts hinX1 tyX1 tyX1_ok nmX1 hown hK hP hD hS 0 rfl rfl 0 (by decide) (hts (.fieldLink RX1 31 "GloveHours$Court" "present" "I") (List.mem_of_getElem? (i := 1) rfl)) (fun _ h9 => h9) rfl (by decide +kernel) rfl rfl (Nat.le_of_ble_eq_true rfl) dX1_arrive_19 (fun H locs hP hD hS => ?_)
    have hP : va_P δ vwCl (wK cI aK0 aK1 aK2 aK3 aK4 aK5 (((kPresent k) ||| ((1 : Int32) <<< (xc &&& 31))), kClock k, kTears k, kSights k, kHoursSeen k, kHoursNotOwned k, kPairs k, kLeft k, kRight k, kScandals k, kWears k)) H := hP
    have hD : va_D A (wK cI aK0 aK1 aK2 aK3 aK4 aK5 (((kPresent k) ||| ((1 : Int32) <<< (xc &&& 31))), kClock k, kTears k, kSights k, kHoursSeen k, kHoursNotOwned k, kPairs k, kLeft k, kRight k, kScandals k, kWears k)) := hD
    refine lv_aload_n hx hb dX1_arrive_22 rfl (lv_at hl 0 rfl) ?_
    refine va_get (D := δ) (ci := 1) (v := .ref aK1) (C := RX1) (T := TX1) (N := 11) hx hb hts hinX1 hown hK hP 0 rfl rfl 6 (by decide) (hts (.fieldLink RX1 15 "GloveHours$Court" "pairs" "[I") (List.mem_of_getElem? (i := 2) rfl)) (fun _ h9 => h9) rfl dX1_arrive_23 ?_
    refine lv_iload_n hx hb dX1_arrive_26 rfl (lv_at hl 1 rfl) ?_
    refine lv_iload_n hx hb dX1_arrive_27 rfl (lv_at hl 2 rfl) ?_
    refine va_iast hx hb hK hP hD hS 1 0 rfl rfl (wi_in hw_3 c_6 (by decide)) dX1_arrive_28 (fun H locs hP hD hS => ?_)
    have hP : va_P δ vwCl (wK cI aK0 aK1 aK2 aK3 aK4 aK5 (((kPresent k) ||| ((1 : Int32) <<< (xc &&& 31))), kClock k, kTears k, kSights k, kHoursSeen k, kHoursNotOwned k, (upd (kPairs k) xc.toNatClampNeg xh), kLeft k, kRight k, kScandals k, kWears k)) H := hP
    have hD : va_D A (wK cI aK0 aK1 aK2 aK3 aK4 aK5 (((kPresent k) ||| ((1 : Int32) <<< (xc &&& 31))), kClock k, kTears k, kSights k, kHoursSeen k, kHoursNotOwned k, (upd (kPairs k) xc.toNatClampNeg xh), kLeft k, kRight k, kScandals k, kWears k)) := hD
    refine lv_aload_n hx hb dX1_arrive_29 rfl (lv_at hl 0 rfl) ?_
    refine va_get (D := δ) (ci := 1) (v := .ref aK2) (C := RX1) (T := TX1) (N := 11) hx hb hts hinX1 hown hK hP 0 rfl rfl 7 (by decide) (hts (.fieldLink RX1 19 "GloveHours$Court" "left" "[I") (List.mem_of_getElem? (i := 3) rfl)) (fun _ h9 => h9) rfl dX1_arrive_30 ?_
    refine lv_iload_n hx hb dX1_arrive_33 rfl (lv_at hl 1 rfl) ?_
    refine lv_bipush (v := (24 : Int32)) hx hb dX1_arrive_34 (by decide) ?_
    refine va_iast hx hb hK hP hD hS 2 0 rfl rfl (wi_in hw_3 c_6 (by decide)) dX1_arrive_36 (fun H locs hP hD hS => ?_)
    have hP : va_P δ vwCl (wK cI aK0 aK1 aK2 aK3 aK4 aK5 (((kPresent k) ||| ((1 : Int32) <<< (xc &&& 31))), kClock k, kTears k, kSights k, kHoursSeen k, kHoursNotOwned k, (upd (kPairs k) xc.toNatClampNeg xh), (upd (kLeft k) xc.toNatClampNeg (24 : Int32)), kRight k, kScandals k, kWears k)) H := hP
    have hD : va_D A (wK cI aK0 aK1 aK2 aK3 aK4 aK5 (((kPresent k) ||| ((1 : Int32) <<< (xc &&& 31))), kClock k, kTears k, kSights k, kHoursSeen k, kHoursNotOwned k, (upd (kPairs k) xc.toNatClampNeg xh), (upd (kLeft k) xc.toNatClampNeg (24 : Int32)), kRight k, kScandals k, kWears k)) := hD
    refine lv_aload_n hx hb dX1_arrive_37 rfl (lv_at hl 0 rfl) ?_
    refine va_get (D := δ) (ci := 1) (v := .ref aK3) (C := RX1) (T := TX1) (N := 11) hx hb hts hinX1 hown hK hP 0 rfl rfl 8 (by decide) (hts (.fieldLink RX1 22 "GloveHours$Court" "right" "[I") (List.mem_of_getElem? (i := 4) rfl)) (fun _ h9 => h9) rfl dX1_arrive_38 ?_
    refine lv_iload_n hx hb dX1_arrive_41 rfl (lv_at hl 1 rfl) ?_
    refine lv_bipush (v := (24 : Int32)) hx hb dX1_arrive_42 (by decide) ?_
    refine va_iast hx hb hK hP hD hS 3 0 rfl rfl (wi_in hw_3 c_6 (by decide)) dX1_arrive_44 (fun H locs hP hD hS => ?_)
    have hP : va_P δ vwCl (wK cI aK0 aK1 aK2 aK3 aK4 aK5 (((kPresent k) ||| ((1 : Int32) <<< (xc &&& 31))), kClock k, kTears k, kSights k, kHoursSeen k, kHoursNotOwned k, (upd (kPairs k) xc.toNatClampNeg xh), (upd (kLeft k) xc.toNatClampNeg (24 : Int32)), (upd (kRight k) xc.toNatClampNeg (24 : Int32)), kScandals k, kWears k)) H := hP
    have hD : va_D A (wK cI aK0 aK1 aK2 aK3 aK4 aK5 (((kPresent k) ||| ((1 : Int32) <<< (xc &&& 31))), kClock k, kTears k, kSights k, kHoursSeen k, kHoursNotOwned k, (upd (kPairs k) xc.toNatClampNeg xh), (upd (kLeft k) xc.toNatClampNeg (24 : Int32)), (upd (kRight k) xc.toNatClampNeg (24 : Int32)), kScandals k, kWears k)) := hD
    refine lv_aload_n hx hb dX1_arrive_45 rfl (lv_at hl 0 rfl) ?_
    refine va_get (D := δ) (ci := 1) (v := .ref aK4) (C := RX1) (T := TX1) (N := 11) hx hb hts hinX1 hown hK hP 0 rfl rfl 9 (by decide) (hts (.fieldLink RX1 25 "GloveHours$Court" "scandals" "[I") (List.mem_of_getElem? (i := 5) rfl)) (fun _ h9 => h9) rfl dX1_arrive_46 ?_
    refine lv_iload_n hx hb dX1_arrive_49 rfl (lv_at hl 1 rfl) ?_
    refine lv_iconst (v := (0 : Int32)) hx hb dX1_arrive_50 (by decide) ?_
    refine va_iast hx hb hK hP hD hS 4 0 rfl rfl (wi_in hw_3 c_6 (by decide)) dX1_arrive_51 (fun H locs hP hD hS => ?_)
    have hP : va_P δ vwCl (wK cI aK0 aK1 aK2 aK3 aK4 aK5 (((kPresent k) ||| ((1 : Int32) <<< (xc &&& 31))), kClock k, kTears k, kSights k, kHoursSeen k, kHoursNotOwned k, (upd (kPairs k) xc.toNatClampNeg xh), (upd (kLeft k) xc.toNatClampNeg (24 : Int32)), (upd (kRight k) xc.toNatClampNeg (24 : Int32)), (upd (kScandals k) xc.toNatClampNeg (0 : Int32)), kWears k)) H := hP
    have hD : va_D A (wK cI aK0 aK1 aK2 aK3 aK4 aK5 (((kPresent k) ||| ((1 : Int32) <<< (xc &&& 31))), kClock k, kTears k, kSights k, kHoursSeen k, kHoursNotOwned k, (upd (kPairs k) xc.toNatClampNeg xh), (upd (kLeft k) xc.toNatClampNeg (24 : Int32)), (upd (kRight k) xc.toNatClampNeg (24 : Int32)), (upd (kScandals k) xc.toNatClampNeg (0 : Int32)), kWears k)) := hD
    refine lv_iconst (v := (0 : Int32)) hx hb dX1_arrive_52 (by decide) ?_
    refine lv_istore_n (lv' := [(3, .int (0 : Int32)), (0, .ref aK0), (1, .int xc), (2, .int xh)]) hx hb dX1_arrive_53 rfl hl (by decide) rfl (fun ls hl => ?_)
    have hloop_54 : ∀ (n_54 : Nat) (i_54 : Nat) (k_54 : KS) (H : Heap) (locs : List Loc) (ls : Array Slot), (hi_54 : i_54 ≤ 24) → (hn_54 : 24 < i_54 + n_54) → (hP : va_P δ vwCl (wK cI aK0 aK1 aK2 aK3 aK4 aK5 k_54) H) → (hD : va_D A (wK cI aK0 aK1 aK2 aK3 aK4 aK5 k_54)) → (hS : va_S A s.heap H locs) → (hl : lv_has ls 4 [(3, .int (nI i_54)), (0, .ref aK0), (1, .int xc), (2, .int xh)]) → (kk : ∀ (w_54 : KS) (H : Heap) (locs : List Loc) (ls : Array Slot), L_X1_arrive_54 xc n_54 i_54 k_54 = w_54 → va_P δ vwCl (wK cI aK0 aK1 aK2 aK3 aK4 aK5 w_54) H → va_D A (wK cI aK0 aK1 aK2 aK3 aK4 aK5 w_54) → va_S A s.heap H locs → lv_has ls 4 [(0, .ref aK0), (1, .int xc), (2, .int xh)] → W p l e rm_X1_arrive s m args below meth c H locs 0 0 Q (F0 m 78 ls [])) → W p l e rm_X1_arrive s m args below meth c H locs 0 0 Q (F0 m 54 ls []) := by
      intro n_54
      induction n_54 with
      | zero => intro i_54 k_54 H locs ls hi_54 hn_54 hP hD hS hl kk; exact absurd hn_54 (by omega)
      | succ n_54 ih_54 =>
        intro i_54 k_54 H locs ls hi_54 hn_54 hP hD hS hl kk
        have hR := L_X1_arrive_54_s xc n_54 i_54 k_54
        refine lv_iload_n hx hb dX1_arrive_54 rfl (lv_at hl 0 rfl) ?_
        refine lv_bipush (v := (24 : Int32)) hx hb dX1_arrive_55 (by decide) ?_
        refine lv_icmp_ge (tgt := 78) hx hb dX1_arrive_57 (by decide) (fun c_57 => ?_) (fun c_57 => ?_)
        · have c_57 : ((24 : Int32) ≤ (nI i_54)) := c_57
          have hR := hR.trans (if_pos c_57)
          exact kk k_54 H locs ls hR hP hD hS (lv_sub hl [1, 2, 3] rfl)
        · have c_57 : ¬ ((24 : Int32) ≤ (nI i_54)) := c_57
          have hR := hR.trans (if_neg c_57)
          have hlt_54 : i_54 < 24 := lt_g c_57 hi_54 (by decide)
          refine lv_aload_n hx hb dX1_arrive_60 rfl (lv_at hl 1 rfl) ?_
          refine va_get (D := δ) (ci := 1) (v := .ref aK5) (C := RX1) (T := TX1) (N := 11) hx hb hts hinX1 hown hK hP 0 rfl rfl 10 (by decide) (hts (.fieldLink RX1 28 "GloveHours$Court" "wears" "[I") (List.mem_of_getElem? (i := 6) rfl)) (fun _ h9 => h9) rfl dX1_arrive_61 ?_
          refine lv_iload_n hx hb dX1_arrive_64 rfl (lv_at hl 2 rfl) ?_
          refine lv_bipush (v := (24 : Int32)) hx hb dX1_arrive_65 (by decide) ?_
          refine lv_imul hx hb dX1_arrive_67 ?_
          refine lv_iload_n hx hb dX1_arrive_68 rfl (lv_at hl 0 rfl) ?_
          refine lv_iadd hx hb dX1_arrive_69 ?_
          refine lv_iconst (v := (0 : Int32)) hx hb dX1_arrive_70 (by decide) ?_
          refine va_iast hx hb hK hP hD hS 5 0 rfl rfl (in_144 (wi_in hw_3 c_6 (by decide)) (vp_in_nI hlt_54 (by decide))) dX1_arrive_71 (fun H locs hP hD hS => ?_)
          have hP : va_P δ vwCl (wK cI aK0 aK1 aK2 aK3 aK4 aK5 (kPresent k_54, kClock k_54, kTears k_54, kSights k_54, kHoursSeen k_54, kHoursNotOwned k_54, kPairs k_54, kLeft k_54, kRight k_54, kScandals k_54, (upd (kWears k_54) ((xc * (24 : Int32)) + (nI i_54)).toNatClampNeg (0 : Int32)))) H := hP
          have hD : va_D A (wK cI aK0 aK1 aK2 aK3 aK4 aK5 (kPresent k_54, kClock k_54, kTears k_54, kSights k_54, kHoursSeen k_54, kHoursNotOwned k_54, kPairs k_54, kLeft k_54, kRight k_54, kScandals k_54, (upd (kWears k_54) ((xc * (24 : Int32)) + (nI i_54)).toNatClampNeg (0 : Int32)))) := hD
          refine lv_iinc (v := (nI (i_54 + 1))) (lv' := [(3, .int (nI (i_54 + 1))), (0, .ref aK0), (1, .int xc), (2, .int xh)]) hx hb dX1_arrive_72 hl (k := 0) rfl (nI_1 i_54) (by decide) rfl (fun ls hl => ?_)
          refine lv_goto (tgt := 54) hx hb dX1_arrive_75 (by decide) ?_
          exact ih_54 (i_54 + 1) (kPresent k_54, kClock k_54, kTears k_54, kSights k_54, kHoursSeen k_54, kHoursNotOwned k_54, kPairs k_54, kLeft k_54, kRight k_54, kScandals k_54, (upd (kWears k_54) ((xc * (24 : Int32)) + (nI i_54)).toNatClampNeg (0 : Int32))) _ _ _ (by omega) (by omega) hP hD hS (lv_sub hl [0, 1, 2, 3] rfl) (fun w_54 H locs ls he hP hD hS hl => kk w_54 H locs ls (hR.trans he) hP hD hS hl)
    refine hloop_54 (24 + 1) 0 (((kPresent k) ||| ((1 : Int32) <<< (xc &&& 31))), kClock k, kTears k, kSights k, kHoursSeen k, kHoursNotOwned k, (upd (kPairs k) xc.toNatClampNeg xh), (upd (kLeft k) xc.toNatClampNeg (24 : Int32)), (upd (kRight k) xc.toNatClampNeg (24 : Int32)), (upd (kScandals k) xc.toNatClampNeg (0 : Int32)), kWears k) _ _ _ (by omega) (by omega) hP hD hS (lv_sub hl [0, 1, 2, 3] rfl) (fun w_54 H locs ls hw_54 hP hD hS hl => ?_)
    have hP : va_P δ vwCl (wK cI aK0 aK1 aK2 aK3 aK4 aK5 w_54) H := hP
    have hD : va_D A (wK cI aK0 aK1 aK2 aK3 aK4 aK5 w_54) := hD
    have hR := bnd_eq hR hw_54.symm
    exact hret _ _ w_54 _ _ hR hP hD hS dX1_arrive_78
  · have c_6 : (r_3 = 0) := c_6
    have hR := hR.trans (if_pos c_6)
    exact hret _ _ k _ _ hR hP hD hS dX1_arrive_9

abbrev rm_X1_goAway : Room := { frames := 1, cells := 0, slots := 0, locals := 21 }
set_option maxHeartbeats 4000000 in
set_option maxRecDepth 100000 in
theorem c_X1_goAway (l : Launch) (δ : va_G) (cI cJ cZ : ClassId) (aK0 aK1 aK2 aK3 aK4 aK5 : Nat) (k : KS) (xc : Int32) : mMv l δ (mTy cI cJ cZ) yX1_goAway wsX1_goAway rm_X1_goAway [.ref aK0, .int xc] (wK cI aK0 aK1 aK2 aK3 aK4 aK5 k) (S := KS) (fun u => F_X1_goAway k xc = u) (fun u => (wK cI aK0 aK1 aK2 aK3 aK4 aK5 u)) := by
  refine mk_v (cc := cX1_goAway) (maxL := 2) (by decide) rfl (Nat.le_of_ble_eq_true rfl) ?_
  intro p e s m args below meth c A Q ls H locs hx hb hml hts hown hK hNW hA hP hD hS hl hret
  have hown : s.vm.findClass RX1 = some m.cls := hown
  have hl : lv_has ls 2 [(0, .ref aK0), (1, .int xc)] := hl
  have hinX1 : ∀ w ∈ u_ws RX1 TX1 11, w ∈ wsX1_goAway := (fun _ h => List.mem_cons_of_mem _ (List.mem_append_right _ (h)))
  have hR := F_X1_goAway.eq_1 k xc
  refine lv_aload_n hx hb dX1_goAway_0 rfl (lv_at hl 0 rfl) ?_
  refine lv_iload_n hx hb dX1_goAway_1 rfl (lv_at hl 1 rfl) ?_
  have hr := mrV (p := p) (e := e) (R := rm_X1_goAway) (below := below) (meth := meth) (H := H) (locs := locs) (ls := ls) (As := [.int xc]) (rest := []) (c_X1_isThere l δ cI cJ cZ aK0 aK1 aK2 aK3 aK4 aK5 k xc) hx hb hml hts hown hK hNW hP hD [0, 1, 2, 3, 4, 5] rfl rfl 1 0 rfl rfl (cwV 1 hts gX1_goAway_X1_isThere rfl rfl rfl (by decide +kernel) ⟨(Nat.le_of_ble_eq_true rfl), (Nat.le_of_ble_eq_true rfl)⟩) rfl hl.1 rfl (Nat.le_of_ble_eq_true rfl) dX1_goAway_2
  refine mc_i (wr := ([] : va_W)) hr hP hD hS hA [0, 1, 2, 3, 4, 5] [] [0, 1, 2, 3, 4, 5] rfl rfl rfl rfl rfl (wn := fun _ => (wK cI aK0 aK1 aK2 aK3 aK4 aK5 k)) (fun _ => rfl) (fun r_2 _ H locs hw_2 hP hD hS => ?_)
  obtain ⟨hw_2, z_2⟩ := hw_2
  have hP : va_P δ vwCl (wK cI aK0 aK1 aK2 aK3 aK4 aK5 k) H := hP
  have hD : va_D A (wK cI aK0 aK1 aK2 aK3 aK4 aK5 k) := hD
  have hR := bnd_eq hR hw_2.symm
  refine lv_if_eq (tgt := 29) hx hb dX1_goAway_5 (by decide) (fun c_5 => ?_) (fun c_5 => ?_)
  · have c_5 : (r_2 = 0) := c_5
    have hR := hR.trans (if_pos c_5)
    exact hret _ _ k _ _ hR hP hD hS dX1_goAway_29
  · have c_5 : ¬ (r_2 = 0) := c_5
    have hR := hR.trans (if_neg c_5)
    refine lv_aload_n hx hb dX1_goAway_8 rfl (lv_at hl 0 rfl) ?_
    refine lv_dup hx hb dX1_goAway_9 rfl ?_
    refine va_get (D := δ) (ci := 1) (v := .int (kPresent k)) (C := RX1) (T := TX1) (N := 11) hx hb hts hinX1 hown hK hP 0 rfl rfl 0 (by decide) (hts (.fieldLink RX1 31 "GloveHours$Court" "present" "I") (List.mem_of_getElem? (i := 1) rfl)) (fun _ h9 => h9) rfl dX1_goAway_10 ?_
    refine lv_iconst (v := (1 : Int32)) hx hb dX1_goAway_13 (by decide) ?_
    refine lv_iload_n hx hb dX1_goAway_14 rfl (lv_at hl 1 rfl) ?_
    refine lv_ishl hx hb dX1_goAway_15 ?_
    refine lv_iconst (v := (-1 : Int32)) hx hb dX1_goAway_16 (by decide) ?_
    refine lv_ixor hx hb dX1_goAway_17 ?_
    refine lv_iand hx hb dX1_goAway_18 ?_
    refine va_put (D := δ) (ci := 1) (v := .int ((kPresent k) &&& (((1 : Int32) <<< (xc &&& 31)) ^^^ (-1 : Int32)))) (ty := .int) (C := RX1) (T := TX1) (N := 11) hx hb hts hinX1 tyX1 tyX1_ok nmX1 hown hK hP hD hS 0 rfl rfl 0 (by decide) (hts (.fieldLink RX1 31 "GloveHours$Court" "present" "I") (List.mem_of_getElem? (i := 1) rfl)) (fun _ h9 => h9) rfl (by decide +kernel) rfl rfl (Nat.le_of_ble_eq_true rfl) dX1_goAway_19 (fun H locs hP hD hS => ?_)
    have hP : va_P δ vwCl (wK cI aK0 aK1 aK2 aK3 aK4 aK5 (((kPresent k) &&& (((1 : Int32) <<< (xc &&& 31)) ^^^ (-1 : Int32))), kClock k, kTears k, kSights k, kHoursSeen k, kHoursNotOwned k, kPairs k, kLeft k, kRight k, kScandals k, kWears k)) H := hP
    have hD : va_D A (wK cI aK0 aK1 aK2 aK3 aK4 aK5 (((kPresent k) &&& (((1 : Int32) <<< (xc &&& 31)) ^^^ (-1 : Int32))), kClock k, kTears k, kSights k, kHoursSeen k, kHoursNotOwned k, kPairs k, kLeft k, kRight k, kScandals k, kWears k)) := hD
    refine lv_aload_n hx hb dX1_goAway_22 rfl (lv_at hl 0 rfl) ?_
    refine va_get (D := δ) (ci := 1) (v := .ref aK1) (C := RX1) (T := TX1) (N := 11) hx hb hts hinX1 hown hK hP 0 rfl rfl 6 (by decide) (hts (.fieldLink RX1 15 "GloveHours$Court" "pairs" "[I") (List.mem_of_getElem? (i := 2) rfl)) (fun _ h9 => h9) rfl dX1_goAway_23 ?_
    refine lv_iload_n hx hb dX1_goAway_26 rfl (lv_at hl 1 rfl) ?_
    refine lv_iconst (v := (0 : Int32)) hx hb dX1_goAway_27 (by decide) ?_
    refine va_iast hx hb hK hP hD hS 1 0 rfl rfl (there_in hw_2 c_5) dX1_goAway_28 (fun H locs hP hD hS => ?_)
    have hP : va_P δ vwCl (wK cI aK0 aK1 aK2 aK3 aK4 aK5 (((kPresent k) &&& (((1 : Int32) <<< (xc &&& 31)) ^^^ (-1 : Int32))), kClock k, kTears k, kSights k, kHoursSeen k, kHoursNotOwned k, (upd (kPairs k) xc.toNatClampNeg (0 : Int32)), kLeft k, kRight k, kScandals k, kWears k)) H := hP
    have hD : va_D A (wK cI aK0 aK1 aK2 aK3 aK4 aK5 (((kPresent k) &&& (((1 : Int32) <<< (xc &&& 31)) ^^^ (-1 : Int32))), kClock k, kTears k, kSights k, kHoursSeen k, kHoursNotOwned k, (upd (kPairs k) xc.toNatClampNeg (0 : Int32)), kLeft k, kRight k, kScandals k, kWears k)) := hD
    exact hret _ _ (((kPresent k) &&& (((1 : Int32) <<< (xc &&& 31)) ^^^ (-1 : Int32))), kClock k, kTears k, kSights k, kHoursSeen k, kHoursNotOwned k, (upd (kPairs k) xc.toNatClampNeg (0 : Int32)), kLeft k, kRight k, kScandals k, kWears k) _ _ hR hP hD hS dX1_goAway_29

abbrev rm_X1_isProper : Room := { frames := 1, cells := 0, slots := 0, locals := 21 }
set_option maxHeartbeats 4000000 in
set_option maxRecDepth 100000 in
theorem c_X1_isProper (l : Launch) (δ : va_G) (cI cJ cZ : ClassId) (aK0 aK1 aK2 aK3 aK4 aK5 : Nat) (k : KS) (xc : Int32) : mMi l δ (mTy cI cJ cZ) yX1_isProper wsX1_isProper rm_X1_isProper [.ref aK0, .int xc] (wK cI aK0 aK1 aK2 aK3 aK4 aK5 k) (S := Unit) (fun r _ => F_X1_isProper k xc = r ∧ mZ r) (fun _ => (wK cI aK0 aK1 aK2 aK3 aK4 aK5 k)) := by
  refine mk_z (post := fun r _ => F_X1_isProper k xc = r) (cc := cX1_isProper) (maxL := 3) (by decide) rfl (Nat.le_of_ble_eq_true rfl) ?_
  intro p e s m args below meth c A Q ls H locs hx hb hml hts hown hK hNW hA hP hD hS hl hret
  have hown : s.vm.findClass RX1 = some m.cls := hown
  have hl : lv_has ls 3 [(0, .ref aK0), (1, .int xc)] := hl
  have hinX1 : ∀ w ∈ u_ws RX1 TX1 11, w ∈ wsX1_isProper := (fun _ h => List.mem_cons_of_mem _ (List.mem_append_right _ (h)))
  have hR := F_X1_isProper.eq_1 k xc
  refine lv_aload_n hx hb dX1_isProper_0 rfl (lv_at hl 0 rfl) ?_
  refine lv_iload_n hx hb dX1_isProper_1 rfl (lv_at hl 1 rfl) ?_
  have hr := mrV (p := p) (e := e) (R := rm_X1_isProper) (below := below) (meth := meth) (H := H) (locs := locs) (ls := ls) (As := [.int xc]) (rest := []) (c_X1_isThere l δ cI cJ cZ aK0 aK1 aK2 aK3 aK4 aK5 k xc) hx hb hml hts hown hK hNW hP hD [0, 1, 2, 3, 4, 5] rfl rfl 1 0 rfl rfl (cwV 1 hts gX1_isProper_X1_isThere rfl rfl rfl (by decide +kernel) ⟨(Nat.le_of_ble_eq_true rfl), (Nat.le_of_ble_eq_true rfl)⟩) rfl hl.1 rfl (Nat.le_of_ble_eq_true rfl) dX1_isProper_2
  refine mc_i (wr := ([] : va_W)) hr hP hD hS hA [0, 1, 2, 3, 4, 5] [] [0, 1, 2, 3, 4, 5] rfl rfl rfl rfl rfl (wn := fun _ => (wK cI aK0 aK1 aK2 aK3 aK4 aK5 k)) (fun _ => rfl) (fun r_2 _ H locs hw_2 hP hD hS => ?_)
  obtain ⟨hw_2, z_2⟩ := hw_2
  have hP : va_P δ vwCl (wK cI aK0 aK1 aK2 aK3 aK4 aK5 k) H := hP
  have hD : va_D A (wK cI aK0 aK1 aK2 aK3 aK4 aK5 k) := hD
  have hR := bnd_eq hR hw_2.symm
  refine lv_if_eq (tgt := 21) hx hb dX1_isProper_5 (by decide) (fun c_5 => ?_) (fun c_5 => ?_)
  · have c_5 : (r_2 = 0) := c_5
    have hR := hR.trans (if_pos c_5)
    refine lv_iconst (v := (0 : Int32)) hx hb dX1_isProper_21 (by decide) ?_
    exact hret _ _ (0 : Int32) () _ _ hR (Or.inl rfl) hP hD hS dX1_isProper_22
  · have c_5 : ¬ (r_2 = 0) := c_5
    have hR := hR.trans (if_neg c_5)
    refine lv_aload_n hx hb dX1_isProper_8 rfl (lv_at hl 0 rfl) ?_
    refine va_get (D := δ) (ci := 1) (v := .ref aK3) (C := RX1) (T := TX1) (N := 11) hx hb hts hinX1 hown hK hP 0 rfl rfl 8 (by decide) (hts (.fieldLink RX1 22 "GloveHours$Court" "right" "[I") (List.mem_of_getElem? (i := 1) rfl)) (fun _ h9 => h9) rfl dX1_isProper_9 ?_
    refine lv_iload_n hx hb dX1_isProper_12 rfl (lv_at hl 1 rfl) ?_
    refine va_iald hx hb hK hP 3 0 rfl rfl (there_in hw_2 c_5) dX1_isProper_13 ?_
    refine lv_aload_n hx hb dX1_isProper_14 rfl (lv_at hl 0 rfl) ?_
    refine va_get (D := δ) (ci := 1) (v := .int (kClock k)) (C := RX1) (T := TX1) (N := 11) hx hb hts hinX1 hown hK hP 0 rfl rfl 1 (by decide) (hts (.fieldLink RX1 34 "GloveHours$Court" "clock" "I") (List.mem_of_getElem? (i := 2) rfl)) (fun _ h9 => h9) rfl dX1_isProper_15 ?_
    refine lv_icmp_eq (tgt := 23) hx hb dX1_isProper_18 (by decide) (fun c_18 => ?_) (fun c_18 => ?_)
    · have c_18 : (((kRight k) xc.toNatClampNeg) = (kClock k)) := c_18
      have hR := hR.trans (if_pos c_18)
      refine lv_aload_n hx hb dX1_isProper_23 rfl (lv_at hl 0 rfl) ?_
      refine va_get (D := δ) (ci := 1) (v := .int (kClock k)) (C := RX1) (T := TX1) (N := 11) hx hb hts hinX1 hown hK hP 0 rfl rfl 1 (by decide) (hts (.fieldLink RX1 34 "GloveHours$Court" "clock" "I") (List.mem_of_getElem? (i := 2) rfl)) (fun _ h9 => h9) rfl dX1_isProper_24 ?_
      refine lv_if_ne (tgt := 35) hx hb dX1_isProper_27 (by decide) (fun c_27 => ?_) (fun c_27 => ?_)
      · have c_27 : ¬ ((kClock k) = 0) := c_27
        have hR := hR.trans (if_neg c_27)
        refine lv_aload_n hx hb dX1_isProper_35 rfl (lv_at hl 0 rfl) ?_
        refine va_get (D := δ) (ci := 1) (v := .int (kClock k)) (C := RX1) (T := TX1) (N := 11) hx hb hts hinX1 hown hK hP 0 rfl rfl 1 (by decide) (hts (.fieldLink RX1 34 "GloveHours$Court" "clock" "I") (List.mem_of_getElem? (i := 2) rfl)) (fun _ h9 => h9) rfl dX1_isProper_36 ?_
        refine lv_iconst (v := (1 : Int32)) hx hb dX1_isProper_39 (by decide) ?_
        refine lv_isub hx hb dX1_isProper_40 ?_
        refine lv_istore_n (lv' := [(2, .int ((kClock k) - (1 : Int32))), (0, .ref aK0), (1, .int xc)]) hx hb dX1_isProper_41 rfl hl (by decide) rfl (fun ls hl => ?_)
        refine lv_aload_n hx hb dX1_isProper_42 rfl (lv_at hl 1 rfl) ?_
        refine va_get (D := δ) (ci := 1) (v := .ref aK2) (C := RX1) (T := TX1) (N := 11) hx hb hts hinX1 hown hK hP 0 rfl rfl 7 (by decide) (hts (.fieldLink RX1 19 "GloveHours$Court" "left" "[I") (List.mem_of_getElem? (i := 3) rfl)) (fun _ h9 => h9) rfl dX1_isProper_43 ?_
        refine lv_iload_n hx hb dX1_isProper_46 rfl (lv_at hl 2 rfl) ?_
        refine va_iald hx hb hK hP 2 0 rfl rfl (there_in hw_2 c_5) dX1_isProper_47 ?_
        refine lv_aload_n hx hb dX1_isProper_48 rfl (lv_at hl 1 rfl) ?_
        refine va_get (D := δ) (ci := 1) (v := .int (kClock k)) (C := RX1) (T := TX1) (N := 11) hx hb hts hinX1 hown hK hP 0 rfl rfl 1 (by decide) (hts (.fieldLink RX1 34 "GloveHours$Court" "clock" "I") (List.mem_of_getElem? (i := 2) rfl)) (fun _ h9 => h9) rfl dX1_isProper_49 ?_
        refine lv_icmp_eq (tgt := 65) hx hb dX1_isProper_52 (by decide) (fun c_52 => ?_) (fun c_52 => ?_)
        · have c_52 : (((kLeft k) xc.toNatClampNeg) = (kClock k)) := c_52
          have hR := hR.trans (if_pos c_52)
          refine lv_iconst (v := (1 : Int32)) hx hb dX1_isProper_65 (by decide) ?_
          refine lv_goto (tgt := 70) hx hb dX1_isProper_66 (by decide) ?_
          exact hret _ _ (1 : Int32) () _ _ hR (Or.inr rfl) hP hD hS dX1_isProper_70
        · have c_52 : ¬ (((kLeft k) xc.toNatClampNeg) = (kClock k)) := c_52
          have hR := hR.trans (if_neg c_52)
          refine lv_aload_n hx hb dX1_isProper_55 rfl (lv_at hl 1 rfl) ?_
          refine va_get (D := δ) (ci := 1) (v := .ref aK2) (C := RX1) (T := TX1) (N := 11) hx hb hts hinX1 hown hK hP 0 rfl rfl 7 (by decide) (hts (.fieldLink RX1 19 "GloveHours$Court" "left" "[I") (List.mem_of_getElem? (i := 3) rfl)) (fun _ h9 => h9) rfl dX1_isProper_56 ?_
          refine lv_iload_n hx hb dX1_isProper_59 rfl (lv_at hl 2 rfl) ?_
          refine va_iald hx hb hK hP 2 0 rfl rfl (there_in hw_2 c_5) dX1_isProper_60 ?_
          refine lv_iload_n hx hb dX1_isProper_61 rfl (lv_at hl 0 rfl) ?_
          refine lv_icmp_ne (tgt := 69) hx hb dX1_isProper_62 (by decide) (fun c_62 => ?_) (fun c_62 => ?_)
          · have c_62 : ¬ (((kLeft k) xc.toNatClampNeg) = ((kClock k) - (1 : Int32))) := c_62
            have hR := hR.trans (if_neg c_62)
            refine lv_iconst (v := (0 : Int32)) hx hb dX1_isProper_69 (by decide) ?_
            exact hret _ _ (0 : Int32) () _ _ hR (Or.inl rfl) hP hD hS dX1_isProper_70
          · have c_62 : (((kLeft k) xc.toNatClampNeg) = ((kClock k) - (1 : Int32))) := c_62
            have hR := hR.trans (if_pos c_62)
            refine lv_iconst (v := (1 : Int32)) hx hb dX1_isProper_65 (by decide) ?_
            refine lv_goto (tgt := 70) hx hb dX1_isProper_66 (by decide) ?_
            exact hret _ _ (1 : Int32) () _ _ hR (Or.inr rfl) hP hD hS dX1_isProper_70
      · have c_27 : ((kClock k) = 0) := c_27
        have hR := hR.trans (if_pos c_27)
        refine lv_bipush (v := (23 : Int32)) hx hb dX1_isProper_30 (by decide) ?_
        refine lv_goto (tgt := 41) hx hb dX1_isProper_32 (by decide) ?_
        refine lv_istore_n (lv' := [(2, .int (23 : Int32)), (0, .ref aK0), (1, .int xc)]) hx hb dX1_isProper_41 rfl hl (by decide) rfl (fun ls hl => ?_)
        refine lv_aload_n hx hb dX1_isProper_42 rfl (lv_at hl 1 rfl) ?_
        refine va_get (D := δ) (ci := 1) (v := .ref aK2) (C := RX1) (T := TX1) (N := 11) hx hb hts hinX1 hown hK hP 0 rfl rfl 7 (by decide) (hts (.fieldLink RX1 19 "GloveHours$Court" "left" "[I") (List.mem_of_getElem? (i := 3) rfl)) (fun _ h9 => h9) rfl dX1_isProper_43 ?_
        refine lv_iload_n hx hb dX1_isProper_46 rfl (lv_at hl 2 rfl) ?_
        refine va_iald hx hb hK hP 2 0 rfl rfl (there_in hw_2 c_5) dX1_isProper_47 ?_
        refine lv_aload_n hx hb dX1_isProper_48 rfl (lv_at hl 1 rfl) ?_
        refine va_get (D := δ) (ci := 1) (v := .int (kClock k)) (C := RX1) (T := TX1) (N := 11) hx hb hts hinX1 hown hK hP 0 rfl rfl 1 (by decide) (hts (.fieldLink RX1 34 "GloveHours$Court" "clock" "I") (List.mem_of_getElem? (i := 2) rfl)) (fun _ h9 => h9) rfl dX1_isProper_49 ?_
        refine lv_icmp_eq (tgt := 65) hx hb dX1_isProper_52 (by decide) (fun c_52 => ?_) (fun c_52 => ?_)
        · have c_52 : (((kLeft k) xc.toNatClampNeg) = (kClock k)) := c_52
          have hR := hR.trans (if_pos c_52)
          refine lv_iconst (v := (1 : Int32)) hx hb dX1_isProper_65 (by decide) ?_
          refine lv_goto (tgt := 70) hx hb dX1_isProper_66 (by decide) ?_
          exact hret _ _ (1 : Int32) () _ _ hR (Or.inr rfl) hP hD hS dX1_isProper_70
        · have c_52 : ¬ (((kLeft k) xc.toNatClampNeg) = (kClock k)) := c_52
          have hR := hR.trans (if_neg c_52)
          refine lv_aload_n hx hb dX1_isProper_55 rfl (lv_at hl 1 rfl) ?_
          refine va_get (D := δ) (ci := 1) (v := .ref aK2) (C := RX1) (T := TX1) (N := 11) hx hb hts hinX1 hown hK hP 0 rfl rfl 7 (by decide) (hts (.fieldLink RX1 19 "GloveHours$Court" "left" "[I") (List.mem_of_getElem? (i := 3) rfl)) (fun _ h9 => h9) rfl dX1_isProper_56 ?_
          refine lv_iload_n hx hb dX1_isProper_59 rfl (lv_at hl 2 rfl) ?_
          refine va_iald hx hb hK hP 2 0 rfl rfl (there_in hw_2 c_5) dX1_isProper_60 ?_
          refine lv_iload_n hx hb dX1_isProper_61 rfl (lv_at hl 0 rfl) ?_
          refine lv_icmp_ne (tgt := 69) hx hb dX1_isProper_62 (by decide) (fun c_62 => ?_) (fun c_62 => ?_)
          · have c_62 : ¬ (((kLeft k) xc.toNatClampNeg) = (23 : Int32)) := c_62
            have hR := hR.trans (if_neg c_62)
            refine lv_iconst (v := (0 : Int32)) hx hb dX1_isProper_69 (by decide) ?_
            exact hret _ _ (0 : Int32) () _ _ hR (Or.inl rfl) hP hD hS dX1_isProper_70
          · have c_62 : (((kLeft k) xc.toNatClampNeg) = (23 : Int32)) := c_62
            have hR := hR.trans (if_pos c_62)
            refine lv_iconst (v := (1 : Int32)) hx hb dX1_isProper_65 (by decide) ?_
            refine lv_goto (tgt := 70) hx hb dX1_isProper_66 (by decide) ?_
            exact hret _ _ (1 : Int32) () _ _ hR (Or.inr rfl) hP hD hS dX1_isProper_70
    · have c_18 : ¬ (((kRight k) xc.toNatClampNeg) = (kClock k)) := c_18
      have hR := hR.trans (if_neg c_18)
      refine lv_iconst (v := (0 : Int32)) hx hb dX1_isProper_21 (by decide) ?_
      exact hret _ _ (0 : Int32) () _ _ hR (Or.inl rfl) hP hD hS dX1_isProper_22

abbrev rm_X1_passHour : Room := { frames := 2, cells := 0, slots := 0, locals := 43 }
set_option maxHeartbeats 4000000 in
set_option maxRecDepth 100000 in
theorem c_X1_passHour (l : Launch) (δ : va_G) (cI cJ cZ : ClassId) (aK0 aK1 aK2 aK3 aK4 aK5 : Nat) (k : KS) : mMv l δ (mTy cI cJ cZ) yX1_passHour wsX1_passHour rm_X1_passHour [.ref aK0] (wK cI aK0 aK1 aK2 aK3 aK4 aK5 k) (S := KS) (fun u => F_X1_passHour k = u) (fun u => (wK cI aK0 aK1 aK2 aK3 aK4 aK5 u)) := by
  refine mk_v (cc := cX1_passHour) (maxL := 2) (by decide) rfl (Nat.le_of_ble_eq_true rfl) ?_
  intro p e s m args below meth c A Q ls H locs hx hb hml hts hown hK hNW hA hP hD hS hl hret
  have hown : s.vm.findClass RX1 = some m.cls := hown
  have hl : lv_has ls 2 [(0, .ref aK0)] := hl
  have hinX1 : ∀ w ∈ u_ws RX1 TX1 11, w ∈ wsX1_passHour := (fun _ h => List.mem_cons_of_mem _ (List.mem_append_right _ (h)))
  have hR := F_X1_passHour.eq_1 k
  refine lv_iconst (v := (0 : Int32)) hx hb dX1_passHour_0 (by decide) ?_
  refine lv_istore_n (lv' := [(1, .int (0 : Int32)), (0, .ref aK0)]) hx hb dX1_passHour_1 rfl hl (by decide) rfl (fun ls hl => ?_)
  have hloop_2 : ∀ (n_2 : Nat) (i_2 : Nat) (k_2 : KS) (H : Heap) (locs : List Loc) (ls : Array Slot), (hi_2 : i_2 ≤ 6) → (hn_2 : 6 < i_2 + n_2) → (hP : va_P δ vwCl (wK cI aK0 aK1 aK2 aK3 aK4 aK5 k_2) H) → (hD : va_D A (wK cI aK0 aK1 aK2 aK3 aK4 aK5 k_2)) → (hS : va_S A s.heap H locs) → (hl : lv_has ls 2 [(1, .int (nI i_2)), (0, .ref aK0)]) → (kk : ∀ (w_2 : KS) (H : Heap) (locs : List Loc) (ls : Array Slot), L_X1_passHour_2  n_2 i_2 k_2 = w_2 → va_P δ vwCl (wK cI aK0 aK1 aK2 aK3 aK4 aK5 w_2) H → va_D A (wK cI aK0 aK1 aK2 aK3 aK4 aK5 w_2) → va_S A s.heap H locs → lv_has ls 2 [(0, .ref aK0)] → W p l e rm_X1_passHour s m args below meth c H locs 0 0 Q (F0 m 51 ls [])) → W p l e rm_X1_passHour s m args below meth c H locs 0 0 Q (F0 m 2 ls []) := by
    intro n_2
    induction n_2 with
    | zero => intro i_2 k_2 H locs ls hi_2 hn_2 hP hD hS hl kk; exact absurd hn_2 (by omega)
    | succ n_2 ih_2 =>
      intro i_2 k_2 H locs ls hi_2 hn_2 hP hD hS hl kk
      have hR := L_X1_passHour_2_s  n_2 i_2 k_2
      refine lv_iload_n hx hb dX1_passHour_2 rfl (lv_at hl 0 rfl) ?_
      refine lv_bipush (v := (6 : Int32)) hx hb dX1_passHour_3 (by decide) ?_
      refine lv_icmp_ge (tgt := 51) hx hb dX1_passHour_5 (by decide) (fun c_5 => ?_) (fun c_5 => ?_)
      · have c_5 : ((6 : Int32) ≤ (nI i_2)) := c_5
        have hR := hR.trans (if_pos c_5)
        exact kk k_2 H locs ls hR hP hD hS (lv_sub hl [1] rfl)
      · have c_5 : ¬ ((6 : Int32) ≤ (nI i_2)) := c_5
        have hR := hR.trans (if_neg c_5)
        have hlt_2 : i_2 < 6 := lt_g c_5 hi_2 (by decide)
        refine lv_aload_n hx hb dX1_passHour_8 rfl (lv_at hl 1 rfl) ?_
        refine lv_iload_n hx hb dX1_passHour_9 rfl (lv_at hl 0 rfl) ?_
        have hr := mrV (p := p) (e := e) (R := rm_X1_passHour) (below := below) (meth := meth) (H := H) (locs := locs) (ls := ls) (As := [.int (nI i_2)]) (rest := []) (c_X1_isThere l δ cI cJ cZ aK0 aK1 aK2 aK3 aK4 aK5 k_2 (nI i_2)) hx hb hml hts hown hK hNW hP hD [0, 1, 2, 3, 4, 5] rfl rfl 1 0 rfl rfl (cwV 1 hts gX1_passHour_X1_isThere rfl rfl rfl (by decide +kernel) ⟨(Nat.le_of_ble_eq_true rfl), (Nat.le_of_ble_eq_true rfl)⟩) rfl hl.1 rfl (Nat.le_of_ble_eq_true rfl) dX1_passHour_10
        refine mc_i (wr := ([] : va_W)) hr hP hD hS hA [0, 1, 2, 3, 4, 5] [] [0, 1, 2, 3, 4, 5] rfl rfl rfl rfl rfl (wn := fun _ => (wK cI aK0 aK1 aK2 aK3 aK4 aK5 k_2)) (fun _ => rfl) (fun r_10 _ H locs hw_10 hP hD hS => ?_)
        obtain ⟨hw_10, z_10⟩ := hw_10
        have hP : va_P δ vwCl (wK cI aK0 aK1 aK2 aK3 aK4 aK5 k_2) H := hP
        have hD : va_D A (wK cI aK0 aK1 aK2 aK3 aK4 aK5 k_2) := hD
        have hR := bnd_eq hR hw_10.symm
        refine lv_if_eq (tgt := 45) hx hb dX1_passHour_13 (by decide) (fun c_13 => ?_) (fun c_13 => ?_)
        · have c_13 : (r_10 = 0) := c_13
          have hR := hR.trans (if_pos c_13)
          refine lv_iinc (v := (nI (i_2 + 1))) (lv' := [(1, .int (nI (i_2 + 1))), (0, .ref aK0)]) hx hb dX1_passHour_45 hl (k := 0) rfl (nI_1 i_2) (by decide) rfl (fun ls hl => ?_)
          refine lv_goto (tgt := 2) hx hb dX1_passHour_48 (by decide) ?_
          exact ih_2 (i_2 + 1) k_2 _ _ _ (by omega) (by omega) hP hD hS (lv_sub hl [0, 1] rfl) (fun w_2 H locs ls he hP hD hS hl => kk w_2 H locs ls (hR.trans he) hP hD hS hl)
        · have c_13 : ¬ (r_10 = 0) := c_13
          have hR := hR.trans (if_neg c_13)
          refine lv_aload_n hx hb dX1_passHour_16 rfl (lv_at hl 1 rfl) ?_
          refine lv_iload_n hx hb dX1_passHour_17 rfl (lv_at hl 0 rfl) ?_
          have hr := mrV (p := p) (e := e) (R := rm_X1_passHour) (below := below) (meth := meth) (H := H) (locs := locs) (ls := ls) (As := [.int (nI i_2)]) (rest := []) (c_X1_isProper l δ cI cJ cZ aK0 aK1 aK2 aK3 aK4 aK5 k_2 (nI i_2)) hx hb hml hts hown hK hNW hP hD [0, 1, 2, 3, 4, 5] rfl rfl 1 0 rfl rfl (cwV 1 hts gX1_passHour_X1_isProper rfl rfl rfl (by decide +kernel) ⟨(Nat.le_of_ble_eq_true rfl), (Nat.le_of_ble_eq_true rfl)⟩) rfl hl.1 rfl (Nat.le_of_ble_eq_true rfl) dX1_passHour_18
          refine mc_i (wr := ([] : va_W)) hr hP hD hS hA [0, 1, 2, 3, 4, 5] [] [0, 1, 2, 3, 4, 5] rfl rfl rfl rfl rfl (wn := fun _ => (wK cI aK0 aK1 aK2 aK3 aK4 aK5 k_2)) (fun _ => rfl) (fun r_18 _ H locs hw_18 hP hD hS => ?_)
          obtain ⟨hw_18, z_18⟩ := hw_18
          have hP : va_P δ vwCl (wK cI aK0 aK1 aK2 aK3 aK4 aK5 k_2) H := hP
          have hD : va_D A (wK cI aK0 aK1 aK2 aK3 aK4 aK5 k_2) := hD
          have hR := bnd_eq hR hw_18.symm
          refine lv_if_ne (tgt := 45) hx hb dX1_passHour_21 (by decide) (fun c_21 => ?_) (fun c_21 => ?_)
          · have c_21 : ¬ (r_18 = 0) := c_21
            have hR := hR.trans (if_neg c_21)
            refine lv_iinc (v := (nI (i_2 + 1))) (lv' := [(1, .int (nI (i_2 + 1))), (0, .ref aK0)]) hx hb dX1_passHour_45 hl (k := 0) rfl (nI_1 i_2) (by decide) rfl (fun ls hl => ?_)
            refine lv_goto (tgt := 2) hx hb dX1_passHour_48 (by decide) ?_
            exact ih_2 (i_2 + 1) k_2 _ _ _ (by omega) (by omega) hP hD hS (lv_sub hl [0, 1] rfl) (fun w_2 H locs ls he hP hD hS hl => kk w_2 H locs ls (hR.trans he) hP hD hS hl)
          · have c_21 : (r_18 = 0) := c_21
            have hR := hR.trans (if_pos c_21)
            refine lv_aload_n hx hb dX1_passHour_24 rfl (lv_at hl 1 rfl) ?_
            refine va_get (D := δ) (ci := 1) (v := .ref aK4) (C := RX1) (T := TX1) (N := 11) hx hb hts hinX1 hown hK hP 0 rfl rfl 9 (by decide) (hts (.fieldLink RX1 25 "GloveHours$Court" "scandals" "[I") (List.mem_of_getElem? (i := 1) rfl)) (fun _ h9 => h9) rfl dX1_passHour_25 ?_
            refine lv_iload_n hx hb dX1_passHour_28 rfl (lv_at hl 0 rfl) ?_
            refine va_iald hx hb hK hP 4 0 rfl rfl (vp_in_nI (by omega) (by decide)) dX1_passHour_29 ?_
            refine lv_bipush (v := (99 : Int32)) hx hb dX1_passHour_30 (by decide) ?_
            refine lv_icmp_ge (tgt := 45) hx hb dX1_passHour_32 (by decide) (fun c_32 => ?_) (fun c_32 => ?_)
            · have c_32 : ((99 : Int32) ≤ ((kScandals k_2) (nI i_2).toNatClampNeg)) := c_32
              have hR := hR.trans (if_pos c_32)
              refine lv_iinc (v := (nI (i_2 + 1))) (lv' := [(1, .int (nI (i_2 + 1))), (0, .ref aK0)]) hx hb dX1_passHour_45 hl (k := 0) rfl (nI_1 i_2) (by decide) rfl (fun ls hl => ?_)
              refine lv_goto (tgt := 2) hx hb dX1_passHour_48 (by decide) ?_
              exact ih_2 (i_2 + 1) k_2 _ _ _ (by omega) (by omega) hP hD hS (lv_sub hl [0, 1] rfl) (fun w_2 H locs ls he hP hD hS hl => kk w_2 H locs ls (hR.trans he) hP hD hS hl)
            · have c_32 : ¬ ((99 : Int32) ≤ ((kScandals k_2) (nI i_2).toNatClampNeg)) := c_32
              have hR := hR.trans (if_neg c_32)
              refine lv_aload_n hx hb dX1_passHour_35 rfl (lv_at hl 1 rfl) ?_
              refine va_get (D := δ) (ci := 1) (v := .ref aK4) (C := RX1) (T := TX1) (N := 11) hx hb hts hinX1 hown hK hP 0 rfl rfl 9 (by decide) (hts (.fieldLink RX1 25 "GloveHours$Court" "scandals" "[I") (List.mem_of_getElem? (i := 1) rfl)) (fun _ h9 => h9) rfl dX1_passHour_36 ?_
              refine lv_iload_n hx hb dX1_passHour_39 rfl (lv_at hl 0 rfl) ?_
              refine lv_dup2_11 hx hb dX1_passHour_40 rfl rfl ?_
              refine va_iald hx hb hK hP 4 0 rfl rfl (vp_in_nI (by omega) (by decide)) dX1_passHour_41 ?_
              refine lv_iconst (v := (1 : Int32)) hx hb dX1_passHour_42 (by decide) ?_
              refine lv_iadd hx hb dX1_passHour_43 ?_
              refine va_iast hx hb hK hP hD hS 4 0 rfl rfl (vp_in_nI (by omega) (by decide)) dX1_passHour_44 (fun H locs hP hD hS => ?_)
              have hP : va_P δ vwCl (wK cI aK0 aK1 aK2 aK3 aK4 aK5 (kPresent k_2, kClock k_2, kTears k_2, kSights k_2, kHoursSeen k_2, kHoursNotOwned k_2, kPairs k_2, kLeft k_2, kRight k_2, (upd (kScandals k_2) (nI i_2).toNatClampNeg (((kScandals k_2) (nI i_2).toNatClampNeg) + (1 : Int32))), kWears k_2)) H := hP
              have hD : va_D A (wK cI aK0 aK1 aK2 aK3 aK4 aK5 (kPresent k_2, kClock k_2, kTears k_2, kSights k_2, kHoursSeen k_2, kHoursNotOwned k_2, kPairs k_2, kLeft k_2, kRight k_2, (upd (kScandals k_2) (nI i_2).toNatClampNeg (((kScandals k_2) (nI i_2).toNatClampNeg) + (1 : Int32))), kWears k_2)) := hD
              refine lv_iinc (v := (nI (i_2 + 1))) (lv' := [(1, .int (nI (i_2 + 1))), (0, .ref aK0)]) hx hb dX1_passHour_45 hl (k := 0) rfl (nI_1 i_2) (by decide) rfl (fun ls hl => ?_)
              refine lv_goto (tgt := 2) hx hb dX1_passHour_48 (by decide) ?_
              exact ih_2 (i_2 + 1) (kPresent k_2, kClock k_2, kTears k_2, kSights k_2, kHoursSeen k_2, kHoursNotOwned k_2, kPairs k_2, kLeft k_2, kRight k_2, (upd (kScandals k_2) (nI i_2).toNatClampNeg (((kScandals k_2) (nI i_2).toNatClampNeg) + (1 : Int32))), kWears k_2) _ _ _ (by omega) (by omega) hP hD hS (lv_sub hl [0, 1] rfl) (fun w_2 H locs ls he hP hD hS hl => kk w_2 H locs ls (hR.trans he) hP hD hS hl)
  refine hloop_2 (6 + 1) 0 k _ _ _ (by omega) (by omega) hP hD hS (lv_sub hl [0, 1] rfl) (fun w_2 H locs ls hw_2 hP hD hS hl => ?_)
  have hP : va_P δ vwCl (wK cI aK0 aK1 aK2 aK3 aK4 aK5 w_2) H := hP
  have hD : va_D A (wK cI aK0 aK1 aK2 aK3 aK4 aK5 w_2) := hD
  have hR := bnd_eq hR hw_2.symm
  refine lv_aload_n hx hb dX1_passHour_51 rfl (lv_at hl 0 rfl) ?_
  refine lv_aload_n hx hb dX1_passHour_52 rfl (lv_at hl 0 rfl) ?_
  refine va_get (D := δ) (ci := 1) (v := .int (kClock w_2)) (C := RX1) (T := TX1) (N := 11) hx hb hts hinX1 hown hK hP 0 rfl rfl 1 (by decide) (hts (.fieldLink RX1 34 "GloveHours$Court" "clock" "I") (List.mem_of_getElem? (i := 2) rfl)) (fun _ h9 => h9) rfl dX1_passHour_53 ?_
  refine lv_bipush (v := (23 : Int32)) hx hb dX1_passHour_56 (by decide) ?_
  refine lv_icmp_ne (tgt := 65) hx hb dX1_passHour_58 (by decide) (fun c_58 => ?_) (fun c_58 => ?_)
  · have c_58 : ¬ ((kClock w_2) = (23 : Int32)) := c_58
    have hR := hR.trans (if_neg c_58)
    refine lv_aload_n hx hb dX1_passHour_65 rfl (lv_at hl 0 rfl) ?_
    refine va_get (D := δ) (ci := 1) (v := .int (kClock w_2)) (C := RX1) (T := TX1) (N := 11) hx hb hts hinX1 hown hK hP 0 rfl rfl 1 (by decide) (hts (.fieldLink RX1 34 "GloveHours$Court" "clock" "I") (List.mem_of_getElem? (i := 2) rfl)) (fun _ h9 => h9) rfl dX1_passHour_66 ?_
    refine lv_iconst (v := (1 : Int32)) hx hb dX1_passHour_69 (by decide) ?_
    refine lv_iadd hx hb dX1_passHour_70 ?_
    refine va_put (D := δ) (ci := 1) (v := .int ((kClock w_2) + (1 : Int32))) (ty := .int) (C := RX1) (T := TX1) (N := 11) hx hb hts hinX1 tyX1 tyX1_ok nmX1 hown hK hP hD hS 0 rfl rfl 1 (by decide) (hts (.fieldLink RX1 34 "GloveHours$Court" "clock" "I") (List.mem_of_getElem? (i := 2) rfl)) (fun _ h9 => h9) rfl (by decide +kernel) rfl rfl (Nat.le_of_ble_eq_true rfl) dX1_passHour_71 (fun H locs hP hD hS => ?_)
    have hP : va_P δ vwCl (wK cI aK0 aK1 aK2 aK3 aK4 aK5 (kPresent w_2, ((kClock w_2) + (1 : Int32)), kTears w_2, kSights w_2, kHoursSeen w_2, kHoursNotOwned w_2, kPairs w_2, kLeft w_2, kRight w_2, kScandals w_2, kWears w_2)) H := hP
    have hD : va_D A (wK cI aK0 aK1 aK2 aK3 aK4 aK5 (kPresent w_2, ((kClock w_2) + (1 : Int32)), kTears w_2, kSights w_2, kHoursSeen w_2, kHoursNotOwned w_2, kPairs w_2, kLeft w_2, kRight w_2, kScandals w_2, kWears w_2)) := hD
    exact hret _ _ (kPresent w_2, ((kClock w_2) + (1 : Int32)), kTears w_2, kSights w_2, kHoursSeen w_2, kHoursNotOwned w_2, kPairs w_2, kLeft w_2, kRight w_2, kScandals w_2, kWears w_2) _ _ hR hP hD hS dX1_passHour_74
  · have c_58 : ((kClock w_2) = (23 : Int32)) := c_58
    have hR := hR.trans (if_pos c_58)
    refine lv_iconst (v := (0 : Int32)) hx hb dX1_passHour_61 (by decide) ?_
    refine lv_goto (tgt := 71) hx hb dX1_passHour_62 (by decide) ?_
    refine va_put (D := δ) (ci := 1) (v := .int (0 : Int32)) (ty := .int) (C := RX1) (T := TX1) (N := 11) hx hb hts hinX1 tyX1 tyX1_ok nmX1 hown hK hP hD hS 0 rfl rfl 1 (by decide) (hts (.fieldLink RX1 34 "GloveHours$Court" "clock" "I") (List.mem_of_getElem? (i := 2) rfl)) (fun _ h9 => h9) rfl (by decide +kernel) rfl rfl (Nat.le_of_ble_eq_true rfl) dX1_passHour_71 (fun H locs hP hD hS => ?_)
    have hP : va_P δ vwCl (wK cI aK0 aK1 aK2 aK3 aK4 aK5 (kPresent w_2, (0 : Int32), kTears w_2, kSights w_2, kHoursSeen w_2, kHoursNotOwned w_2, kPairs w_2, kLeft w_2, kRight w_2, kScandals w_2, kWears w_2)) H := hP
    have hD : va_D A (wK cI aK0 aK1 aK2 aK3 aK4 aK5 (kPresent w_2, (0 : Int32), kTears w_2, kSights w_2, kHoursSeen w_2, kHoursNotOwned w_2, kPairs w_2, kLeft w_2, kRight w_2, kScandals w_2, kWears w_2)) := hD
    exact hret _ _ (kPresent w_2, (0 : Int32), kTears w_2, kSights w_2, kHoursSeen w_2, kHoursNotOwned w_2, kPairs w_2, kLeft w_2, kRight w_2, kScandals w_2, kWears w_2) _ _ hR hP hD hS dX1_passHour_74

abbrev rm_X1_whyNotHis : Room := { frames := 1, cells := 0, slots := 0, locals := 22 }
set_option maxHeartbeats 4000000 in
set_option maxRecDepth 100000 in
theorem c_X1_whyNotHis (l : Launch) (δ : va_G) (cI cJ cZ : ClassId) (aK0 aK1 aK2 aK3 aK4 aK5 : Nat) (k : KS) (xc : Int32) (xh : Int32) : mMi l δ (mTy cI cJ cZ) yX1_whyNotHis wsX1_whyNotHis rm_X1_whyNotHis [.ref aK0, .int xc, .int xh] (wK cI aK0 aK1 aK2 aK3 aK4 aK5 k) (S := Unit) (fun r _ => F_X1_whyNotHis k xc xh = r) (fun _ => (wK cI aK0 aK1 aK2 aK3 aK4 aK5 k)) := by
  refine mk_i (cc := cX1_whyNotHis) (maxL := 3) (by decide) rfl (Nat.le_of_ble_eq_true rfl) ?_
  intro p e s m args below meth c A Q ls H locs hx hb hml hts hown hK hNW hA hP hD hS hl hret
  have hown : s.vm.findClass RX1 = some m.cls := hown
  have hl : lv_has ls 3 [(0, .ref aK0), (1, .int xc), (2, .int xh)] := hl
  have hR := F_X1_whyNotHis.eq_1 k xc xh
  refine lv_aload_n hx hb dX1_whyNotHis_0 rfl (lv_at hl 0 rfl) ?_
  refine lv_iload_n hx hb dX1_whyNotHis_1 rfl (lv_at hl 1 rfl) ?_
  have hr := mrV (p := p) (e := e) (R := rm_X1_whyNotHis) (below := below) (meth := meth) (H := H) (locs := locs) (ls := ls) (As := [.int xc]) (rest := []) (c_X1_isThere l δ cI cJ cZ aK0 aK1 aK2 aK3 aK4 aK5 k xc) hx hb hml hts hown hK hNW hP hD [0, 1, 2, 3, 4, 5] rfl rfl 1 0 rfl rfl (cwV 1 hts gX1_whyNotHis_X1_isThere rfl rfl rfl (by decide +kernel) ⟨(Nat.le_of_ble_eq_true rfl), (Nat.le_of_ble_eq_true rfl)⟩) rfl hl.1 rfl (Nat.le_of_ble_eq_true rfl) dX1_whyNotHis_2
  refine mc_i (wr := ([] : va_W)) hr hP hD hS hA [0, 1, 2, 3, 4, 5] [] [0, 1, 2, 3, 4, 5] rfl rfl rfl rfl rfl (wn := fun _ => (wK cI aK0 aK1 aK2 aK3 aK4 aK5 k)) (fun _ => rfl) (fun r_2 _ H locs hw_2 hP hD hS => ?_)
  obtain ⟨hw_2, z_2⟩ := hw_2
  have hP : va_P δ vwCl (wK cI aK0 aK1 aK2 aK3 aK4 aK5 k) H := hP
  have hD : va_D A (wK cI aK0 aK1 aK2 aK3 aK4 aK5 k) := hD
  have hR := bnd_eq hR hw_2.symm
  refine lv_if_ne (tgt := 10) hx hb dX1_whyNotHis_5 (by decide) (fun c_5 => ?_) (fun c_5 => ?_)
  · have c_5 : ¬ (r_2 = 0) := c_5
    have hR := hR.trans (if_neg c_5)
    refine lv_aload_n hx hb dX1_whyNotHis_10 rfl (lv_at hl 0 rfl) ?_
    refine lv_iload_n hx hb dX1_whyNotHis_11 rfl (lv_at hl 1 rfl) ?_
    refine lv_iload_n hx hb dX1_whyNotHis_12 rfl (lv_at hl 2 rfl) ?_
    have hr := mrV (p := p) (e := e) (R := rm_X1_whyNotHis) (below := below) (meth := meth) (H := H) (locs := locs) (ls := ls) (As := [.int xc, .int xh]) (rest := []) (c_X1_owns l δ cI cJ cZ aK0 aK1 aK2 aK3 aK4 aK5 k xc xh) hx hb hml hts hown hK hNW hP hD [0, 1, 2, 3, 4, 5] rfl rfl 1 0 rfl rfl (cwV 2 hts gX1_whyNotHis_X1_owns rfl rfl rfl (by decide +kernel) ⟨(Nat.le_of_ble_eq_true rfl), (Nat.le_of_ble_eq_true rfl)⟩) rfl hl.1 rfl (Nat.le_of_ble_eq_true rfl) dX1_whyNotHis_13
    refine mc_i (wr := ([] : va_W)) hr hP hD hS hA [0, 1, 2, 3, 4, 5] [] [0, 1, 2, 3, 4, 5] rfl rfl rfl rfl rfl (wn := fun _ => (wK cI aK0 aK1 aK2 aK3 aK4 aK5 k)) (fun _ => rfl) (fun r_13 _ H locs hw_13 hP hD hS => ?_)
    obtain ⟨hw_13, z_13⟩ := hw_13
    have hP : va_P δ vwCl (wK cI aK0 aK1 aK2 aK3 aK4 aK5 k) H := hP
    have hD : va_D A (wK cI aK0 aK1 aK2 aK3 aK4 aK5 k) := hD
    have hR := bnd_eq hR hw_13.symm
    refine lv_if_eq (tgt := 23) hx hb dX1_whyNotHis_16 (by decide) (fun c_16 => ?_) (fun c_16 => ?_)
    · have c_16 : (r_13 = 0) := c_16
      have hR := hR.trans (if_pos c_16)
      refine lv_iconst (v := (3 : Int32)) hx hb dX1_whyNotHis_23 (by decide) ?_
      exact hret _ _ (3 : Int32) () _ _ hR hP hD hS dX1_whyNotHis_24
    · have c_16 : ¬ (r_13 = 0) := c_16
      have hR := hR.trans (if_neg c_16)
      refine lv_iconst (v := (0 : Int32)) hx hb dX1_whyNotHis_19 (by decide) ?_
      refine lv_goto (tgt := 24) hx hb dX1_whyNotHis_20 (by decide) ?_
      exact hret _ _ (0 : Int32) () _ _ hR hP hD hS dX1_whyNotHis_24
  · have c_5 : (r_2 = 0) := c_5
    have hR := hR.trans (if_pos c_5)
    refine lv_iconst (v := (1 : Int32)) hx hb dX1_whyNotHis_8 (by decide) ?_
    exact hret _ _ (1 : Int32) () _ _ hR hP hD hS dX1_whyNotHis_9

abbrev rm_X1_putOnLeft : Room := { frames := 2, cells := 0, slots := 0, locals := 44 }
set_option maxHeartbeats 4000000 in
set_option maxRecDepth 100000 in
theorem c_X1_putOnLeft (l : Launch) (δ : va_G) (cI cJ cZ : ClassId) (aK0 aK1 aK2 aK3 aK4 aK5 : Nat) (k : KS) (xc : Int32) (xh : Int32) : mMi l δ (mTy cI cJ cZ) yX1_putOnLeft wsX1_putOnLeft rm_X1_putOnLeft [.ref aK0, .int xc, .int xh] (wK cI aK0 aK1 aK2 aK3 aK4 aK5 k) (S := KS) (fun r u => F_X1_putOnLeft k xc xh = (r, u)) (fun u => (wK cI aK0 aK1 aK2 aK3 aK4 aK5 u)) := by
  refine mk_i (cc := cX1_putOnLeft) (maxL := 3) (by decide) rfl (Nat.le_of_ble_eq_true rfl) ?_
  intro p e s m args below meth c A Q ls H locs hx hb hml hts hown hK hNW hA hP hD hS hl hret
  have hown : s.vm.findClass RX1 = some m.cls := hown
  have hl : lv_has ls 3 [(0, .ref aK0), (1, .int xc), (2, .int xh)] := hl
  have hinX1 : ∀ w ∈ u_ws RX1 TX1 11, w ∈ wsX1_putOnLeft := (fun _ h => List.mem_cons_of_mem _ (List.mem_append_right _ (h)))
  have hR := F_X1_putOnLeft.eq_1 k xc xh
  refine lv_aload_n hx hb dX1_putOnLeft_0 rfl (lv_at hl 0 rfl) ?_
  refine lv_iload_n hx hb dX1_putOnLeft_1 rfl (lv_at hl 1 rfl) ?_
  refine lv_iload_n hx hb dX1_putOnLeft_2 rfl (lv_at hl 2 rfl) ?_
  have hr := mrV (p := p) (e := e) (R := rm_X1_putOnLeft) (below := below) (meth := meth) (H := H) (locs := locs) (ls := ls) (As := [.int xc, .int xh]) (rest := []) (c_X1_owns l δ cI cJ cZ aK0 aK1 aK2 aK3 aK4 aK5 k xc xh) hx hb hml hts hown hK hNW hP hD [0, 1, 2, 3, 4, 5] rfl rfl 1 0 rfl rfl (cwV 2 hts gX1_putOnLeft_X1_owns rfl rfl rfl (by decide +kernel) ⟨(Nat.le_of_ble_eq_true rfl), (Nat.le_of_ble_eq_true rfl)⟩) rfl hl.1 rfl (Nat.le_of_ble_eq_true rfl) dX1_putOnLeft_3
  refine mc_i (wr := ([] : va_W)) hr hP hD hS hA [0, 1, 2, 3, 4, 5] [] [0, 1, 2, 3, 4, 5] rfl rfl rfl rfl rfl (wn := fun _ => (wK cI aK0 aK1 aK2 aK3 aK4 aK5 k)) (fun _ => rfl) (fun r_3 _ H locs hw_3 hP hD hS => ?_)
  obtain ⟨hw_3, z_3⟩ := hw_3
  have hP : va_P δ vwCl (wK cI aK0 aK1 aK2 aK3 aK4 aK5 k) H := hP
  have hD : va_D A (wK cI aK0 aK1 aK2 aK3 aK4 aK5 k) := hD
  have hR := bnd_eq hR hw_3.symm
  refine lv_if_eq (tgt := 16) hx hb dX1_putOnLeft_6 (by decide) (fun c_6 => ?_) (fun c_6 => ?_)
  · have c_6 : (r_3 = 0) := c_6
    have hR := hR.trans (if_pos c_6)
    refine lv_aload_n hx hb dX1_putOnLeft_16 rfl (lv_at hl 0 rfl) ?_
    refine lv_iload_n hx hb dX1_putOnLeft_17 rfl (lv_at hl 1 rfl) ?_
    refine lv_iload_n hx hb dX1_putOnLeft_18 rfl (lv_at hl 2 rfl) ?_
    have hr := mrV (p := p) (e := e) (R := rm_X1_putOnLeft) (below := below) (meth := meth) (H := H) (locs := locs) (ls := ls) (As := [.int xc, .int xh]) (rest := []) (c_X1_whyNotHis l δ cI cJ cZ aK0 aK1 aK2 aK3 aK4 aK5 k xc xh) hx hb hml hts hown hK hNW hP hD [0, 1, 2, 3, 4, 5] rfl rfl 1 0 rfl rfl (cwV 2 hts gX1_putOnLeft_X1_whyNotHis rfl rfl rfl (by decide +kernel) ⟨(Nat.le_of_ble_eq_true rfl), (Nat.le_of_ble_eq_true rfl)⟩) rfl hl.1 rfl (Nat.le_of_ble_eq_true rfl) dX1_putOnLeft_19
    refine mc_i (wr := ([] : va_W)) hr hP hD hS hA [0, 1, 2, 3, 4, 5] [] [0, 1, 2, 3, 4, 5] rfl rfl rfl rfl rfl (wn := fun _ => (wK cI aK0 aK1 aK2 aK3 aK4 aK5 k)) (fun _ => rfl) (fun r_19 _ H locs hw_19 hP hD hS => ?_)
    have hP : va_P δ vwCl (wK cI aK0 aK1 aK2 aK3 aK4 aK5 k) H := hP
    have hD : va_D A (wK cI aK0 aK1 aK2 aK3 aK4 aK5 k) := hD
    have hR := bnd_eq hR hw_19.symm
    exact hret _ _ r_19 k _ _ hR hP hD hS dX1_putOnLeft_22
  · have c_6 : ¬ (r_3 = 0) := c_6
    have hR := hR.trans (if_neg c_6)
    refine lv_aload_n hx hb dX1_putOnLeft_9 rfl (lv_at hl 0 rfl) ?_
    refine va_get (D := δ) (ci := 1) (v := .ref aK2) (C := RX1) (T := TX1) (N := 11) hx hb hts hinX1 hown hK hP 0 rfl rfl 7 (by decide) (hts (.fieldLink RX1 19 "GloveHours$Court" "left" "[I") (List.mem_of_getElem? (i := 1) rfl)) (fun _ h9 => h9) rfl dX1_putOnLeft_10 ?_
    refine lv_iload_n hx hb dX1_putOnLeft_13 rfl (lv_at hl 1 rfl) ?_
    refine lv_iload_n hx hb dX1_putOnLeft_14 rfl (lv_at hl 2 rfl) ?_
    refine va_iast hx hb hK hP hD hS 2 0 rfl rfl (own_in hw_3 c_6).1 dX1_putOnLeft_15 (fun H locs hP hD hS => ?_)
    have hP : va_P δ vwCl (wK cI aK0 aK1 aK2 aK3 aK4 aK5 (kPresent k, kClock k, kTears k, kSights k, kHoursSeen k, kHoursNotOwned k, kPairs k, (upd (kLeft k) xc.toNatClampNeg xh), kRight k, kScandals k, kWears k)) H := hP
    have hD : va_D A (wK cI aK0 aK1 aK2 aK3 aK4 aK5 (kPresent k, kClock k, kTears k, kSights k, kHoursSeen k, kHoursNotOwned k, kPairs k, (upd (kLeft k) xc.toNatClampNeg xh), kRight k, kScandals k, kWears k)) := hD
    refine lv_aload_n hx hb dX1_putOnLeft_16 rfl (lv_at hl 0 rfl) ?_
    refine lv_iload_n hx hb dX1_putOnLeft_17 rfl (lv_at hl 1 rfl) ?_
    refine lv_iload_n hx hb dX1_putOnLeft_18 rfl (lv_at hl 2 rfl) ?_
    have hr := mrV (p := p) (e := e) (R := rm_X1_putOnLeft) (below := below) (meth := meth) (H := H) (locs := locs) (ls := ls) (As := [.int xc, .int xh]) (rest := []) (c_X1_whyNotHis l δ cI cJ cZ aK0 aK1 aK2 aK3 aK4 aK5 (kPresent k, kClock k, kTears k, kSights k, kHoursSeen k, kHoursNotOwned k, kPairs k, (upd (kLeft k) xc.toNatClampNeg xh), kRight k, kScandals k, kWears k) xc xh) hx hb hml hts hown hK hNW hP hD [0, 1, 2, 3, 4, 5] rfl rfl 1 0 rfl rfl (cwV 2 hts gX1_putOnLeft_X1_whyNotHis rfl rfl rfl (by decide +kernel) ⟨(Nat.le_of_ble_eq_true rfl), (Nat.le_of_ble_eq_true rfl)⟩) rfl hl.1 rfl (Nat.le_of_ble_eq_true rfl) dX1_putOnLeft_19
    refine mc_i (wr := ([] : va_W)) hr hP hD hS hA [0, 1, 2, 3, 4, 5] [] [0, 1, 2, 3, 4, 5] rfl rfl rfl rfl rfl (wn := fun _ => (wK cI aK0 aK1 aK2 aK3 aK4 aK5 (kPresent k, kClock k, kTears k, kSights k, kHoursSeen k, kHoursNotOwned k, kPairs k, (upd (kLeft k) xc.toNatClampNeg xh), kRight k, kScandals k, kWears k))) (fun _ => rfl) (fun r_19 _ H locs hw_19 hP hD hS => ?_)
    have hP : va_P δ vwCl (wK cI aK0 aK1 aK2 aK3 aK4 aK5 (kPresent k, kClock k, kTears k, kSights k, kHoursSeen k, kHoursNotOwned k, kPairs k, (upd (kLeft k) xc.toNatClampNeg xh), kRight k, kScandals k, kWears k)) H := hP
    have hD : va_D A (wK cI aK0 aK1 aK2 aK3 aK4 aK5 (kPresent k, kClock k, kTears k, kSights k, kHoursSeen k, kHoursNotOwned k, kPairs k, (upd (kLeft k) xc.toNatClampNeg xh), kRight k, kScandals k, kWears k)) := hD
    have hR := bnd_eq hR hw_19.symm
    exact hret _ _ r_19 (kPresent k, kClock k, kTears k, kSights k, kHoursSeen k, kHoursNotOwned k, kPairs k, (upd (kLeft k) xc.toNatClampNeg xh), kRight k, kScandals k, kWears k) _ _ hR hP hD hS dX1_putOnLeft_22

abbrev rm_X1_putOnRight : Room := { frames := 2, cells := 0, slots := 0, locals := 44 }
set_option maxHeartbeats 4000000 in
set_option maxRecDepth 100000 in
theorem c_X1_putOnRight (l : Launch) (δ : va_G) (cI cJ cZ : ClassId) (aK0 aK1 aK2 aK3 aK4 aK5 : Nat) (k : KS) (xc : Int32) (xh : Int32) : mMi l δ (mTy cI cJ cZ) yX1_putOnRight wsX1_putOnRight rm_X1_putOnRight [.ref aK0, .int xc, .int xh] (wK cI aK0 aK1 aK2 aK3 aK4 aK5 k) (S := KS) (fun r u => F_X1_putOnRight k xc xh = (r, u)) (fun u => (wK cI aK0 aK1 aK2 aK3 aK4 aK5 u)) := by
  refine mk_i (cc := cX1_putOnRight) (maxL := 3) (by decide) rfl (Nat.le_of_ble_eq_true rfl) ?_
  intro p e s m args below meth c A Q ls H locs hx hb hml hts hown hK hNW hA hP hD hS hl hret
  have hown : s.vm.findClass RX1 = some m.cls := hown
  have hl : lv_has ls 3 [(0, .ref aK0), (1, .int xc), (2, .int xh)] := hl
  have hinX1 : ∀ w ∈ u_ws RX1 TX1 11, w ∈ wsX1_putOnRight := (fun _ h => List.mem_cons_of_mem _ (List.mem_append_right _ (h)))
  have hR := F_X1_putOnRight.eq_1 k xc xh
  refine lv_aload_n hx hb dX1_putOnRight_0 rfl (lv_at hl 0 rfl) ?_
  refine lv_iload_n hx hb dX1_putOnRight_1 rfl (lv_at hl 1 rfl) ?_
  refine lv_iload_n hx hb dX1_putOnRight_2 rfl (lv_at hl 2 rfl) ?_
  have hr := mrV (p := p) (e := e) (R := rm_X1_putOnRight) (below := below) (meth := meth) (H := H) (locs := locs) (ls := ls) (As := [.int xc, .int xh]) (rest := []) (c_X1_owns l δ cI cJ cZ aK0 aK1 aK2 aK3 aK4 aK5 k xc xh) hx hb hml hts hown hK hNW hP hD [0, 1, 2, 3, 4, 5] rfl rfl 1 0 rfl rfl (cwV 2 hts gX1_putOnRight_X1_owns rfl rfl rfl (by decide +kernel) ⟨(Nat.le_of_ble_eq_true rfl), (Nat.le_of_ble_eq_true rfl)⟩) rfl hl.1 rfl (Nat.le_of_ble_eq_true rfl) dX1_putOnRight_3
  refine mc_i (wr := ([] : va_W)) hr hP hD hS hA [0, 1, 2, 3, 4, 5] [] [0, 1, 2, 3, 4, 5] rfl rfl rfl rfl rfl (wn := fun _ => (wK cI aK0 aK1 aK2 aK3 aK4 aK5 k)) (fun _ => rfl) (fun r_3 _ H locs hw_3 hP hD hS => ?_)
  obtain ⟨hw_3, z_3⟩ := hw_3
  have hP : va_P δ vwCl (wK cI aK0 aK1 aK2 aK3 aK4 aK5 k) H := hP
  have hD : va_D A (wK cI aK0 aK1 aK2 aK3 aK4 aK5 k) := hD
  have hR := bnd_eq hR hw_3.symm
  refine lv_if_eq (tgt := 16) hx hb dX1_putOnRight_6 (by decide) (fun c_6 => ?_) (fun c_6 => ?_)
  · have c_6 : (r_3 = 0) := c_6
    have hR := hR.trans (if_pos c_6)
    refine lv_aload_n hx hb dX1_putOnRight_16 rfl (lv_at hl 0 rfl) ?_
    refine lv_iload_n hx hb dX1_putOnRight_17 rfl (lv_at hl 1 rfl) ?_
    refine lv_iload_n hx hb dX1_putOnRight_18 rfl (lv_at hl 2 rfl) ?_
    have hr := mrV (p := p) (e := e) (R := rm_X1_putOnRight) (below := below) (meth := meth) (H := H) (locs := locs) (ls := ls) (As := [.int xc, .int xh]) (rest := []) (c_X1_whyNotHis l δ cI cJ cZ aK0 aK1 aK2 aK3 aK4 aK5 k xc xh) hx hb hml hts hown hK hNW hP hD [0, 1, 2, 3, 4, 5] rfl rfl 1 0 rfl rfl (cwV 2 hts gX1_putOnRight_X1_whyNotHis rfl rfl rfl (by decide +kernel) ⟨(Nat.le_of_ble_eq_true rfl), (Nat.le_of_ble_eq_true rfl)⟩) rfl hl.1 rfl (Nat.le_of_ble_eq_true rfl) dX1_putOnRight_19
    refine mc_i (wr := ([] : va_W)) hr hP hD hS hA [0, 1, 2, 3, 4, 5] [] [0, 1, 2, 3, 4, 5] rfl rfl rfl rfl rfl (wn := fun _ => (wK cI aK0 aK1 aK2 aK3 aK4 aK5 k)) (fun _ => rfl) (fun r_19 _ H locs hw_19 hP hD hS => ?_)
    have hP : va_P δ vwCl (wK cI aK0 aK1 aK2 aK3 aK4 aK5 k) H := hP
    have hD : va_D A (wK cI aK0 aK1 aK2 aK3 aK4 aK5 k) := hD
    have hR := bnd_eq hR hw_19.symm
    exact hret _ _ r_19 k _ _ hR hP hD hS dX1_putOnRight_22
  · have c_6 : ¬ (r_3 = 0) := c_6
    have hR := hR.trans (if_neg c_6)
    refine lv_aload_n hx hb dX1_putOnRight_9 rfl (lv_at hl 0 rfl) ?_
    refine va_get (D := δ) (ci := 1) (v := .ref aK3) (C := RX1) (T := TX1) (N := 11) hx hb hts hinX1 hown hK hP 0 rfl rfl 8 (by decide) (hts (.fieldLink RX1 22 "GloveHours$Court" "right" "[I") (List.mem_of_getElem? (i := 1) rfl)) (fun _ h9 => h9) rfl dX1_putOnRight_10 ?_
    refine lv_iload_n hx hb dX1_putOnRight_13 rfl (lv_at hl 1 rfl) ?_
    refine lv_iload_n hx hb dX1_putOnRight_14 rfl (lv_at hl 2 rfl) ?_
    refine va_iast hx hb hK hP hD hS 3 0 rfl rfl (own_in hw_3 c_6).1 dX1_putOnRight_15 (fun H locs hP hD hS => ?_)
    have hP : va_P δ vwCl (wK cI aK0 aK1 aK2 aK3 aK4 aK5 (kPresent k, kClock k, kTears k, kSights k, kHoursSeen k, kHoursNotOwned k, kPairs k, kLeft k, (upd (kRight k) xc.toNatClampNeg xh), kScandals k, kWears k)) H := hP
    have hD : va_D A (wK cI aK0 aK1 aK2 aK3 aK4 aK5 (kPresent k, kClock k, kTears k, kSights k, kHoursSeen k, kHoursNotOwned k, kPairs k, kLeft k, (upd (kRight k) xc.toNatClampNeg xh), kScandals k, kWears k)) := hD
    refine lv_aload_n hx hb dX1_putOnRight_16 rfl (lv_at hl 0 rfl) ?_
    refine lv_iload_n hx hb dX1_putOnRight_17 rfl (lv_at hl 1 rfl) ?_
    refine lv_iload_n hx hb dX1_putOnRight_18 rfl (lv_at hl 2 rfl) ?_
    have hr := mrV (p := p) (e := e) (R := rm_X1_putOnRight) (below := below) (meth := meth) (H := H) (locs := locs) (ls := ls) (As := [.int xc, .int xh]) (rest := []) (c_X1_whyNotHis l δ cI cJ cZ aK0 aK1 aK2 aK3 aK4 aK5 (kPresent k, kClock k, kTears k, kSights k, kHoursSeen k, kHoursNotOwned k, kPairs k, kLeft k, (upd (kRight k) xc.toNatClampNeg xh), kScandals k, kWears k) xc xh) hx hb hml hts hown hK hNW hP hD [0, 1, 2, 3, 4, 5] rfl rfl 1 0 rfl rfl (cwV 2 hts gX1_putOnRight_X1_whyNotHis rfl rfl rfl (by decide +kernel) ⟨(Nat.le_of_ble_eq_true rfl), (Nat.le_of_ble_eq_true rfl)⟩) rfl hl.1 rfl (Nat.le_of_ble_eq_true rfl) dX1_putOnRight_19
    refine mc_i (wr := ([] : va_W)) hr hP hD hS hA [0, 1, 2, 3, 4, 5] [] [0, 1, 2, 3, 4, 5] rfl rfl rfl rfl rfl (wn := fun _ => (wK cI aK0 aK1 aK2 aK3 aK4 aK5 (kPresent k, kClock k, kTears k, kSights k, kHoursSeen k, kHoursNotOwned k, kPairs k, kLeft k, (upd (kRight k) xc.toNatClampNeg xh), kScandals k, kWears k))) (fun _ => rfl) (fun r_19 _ H locs hw_19 hP hD hS => ?_)
    have hP : va_P δ vwCl (wK cI aK0 aK1 aK2 aK3 aK4 aK5 (kPresent k, kClock k, kTears k, kSights k, kHoursSeen k, kHoursNotOwned k, kPairs k, kLeft k, (upd (kRight k) xc.toNatClampNeg xh), kScandals k, kWears k)) H := hP
    have hD : va_D A (wK cI aK0 aK1 aK2 aK3 aK4 aK5 (kPresent k, kClock k, kTears k, kSights k, kHoursSeen k, kHoursNotOwned k, kPairs k, kLeft k, (upd (kRight k) xc.toNatClampNeg xh), kScandals k, kWears k)) := hD
    have hR := bnd_eq hR hw_19.symm
    exact hret _ _ r_19 (kPresent k, kClock k, kTears k, kSights k, kHoursSeen k, kHoursNotOwned k, kPairs k, kLeft k, (upd (kRight k) xc.toNatClampNeg xh), kScandals k, kWears k) _ _ hR hP hD hS dX1_putOnRight_22

abbrev rm_X1_takeOff : Room := { frames := 1, cells := 0, slots := 0, locals := 21 }
set_option maxHeartbeats 4000000 in
set_option maxRecDepth 100000 in
theorem c_X1_takeOff (l : Launch) (δ : va_G) (cI cJ cZ : ClassId) (aK0 aK1 aK2 aK3 aK4 aK5 : Nat) (k : KS) (xc : Int32) : mMi l δ (mTy cI cJ cZ) yX1_takeOff wsX1_takeOff rm_X1_takeOff [.ref aK0, .int xc] (wK cI aK0 aK1 aK2 aK3 aK4 aK5 k) (S := KS) (fun r u => F_X1_takeOff k xc = (r, u)) (fun u => (wK cI aK0 aK1 aK2 aK3 aK4 aK5 u)) := by
  refine mk_i (cc := cX1_takeOff) (maxL := 2) (by decide) rfl (Nat.le_of_ble_eq_true rfl) ?_
  intro p e s m args below meth c A Q ls H locs hx hb hml hts hown hK hNW hA hP hD hS hl hret
  have hown : s.vm.findClass RX1 = some m.cls := hown
  have hl : lv_has ls 2 [(0, .ref aK0), (1, .int xc)] := hl
  have hinX1 : ∀ w ∈ u_ws RX1 TX1 11, w ∈ wsX1_takeOff := (fun _ h => List.mem_cons_of_mem _ (List.mem_append_right _ (h)))
  have hR := F_X1_takeOff.eq_1 k xc
  refine lv_aload_n hx hb dX1_takeOff_0 rfl (lv_at hl 0 rfl) ?_
  refine lv_iload_n hx hb dX1_takeOff_1 rfl (lv_at hl 1 rfl) ?_
  have hr := mrV (p := p) (e := e) (R := rm_X1_takeOff) (below := below) (meth := meth) (H := H) (locs := locs) (ls := ls) (As := [.int xc]) (rest := []) (c_X1_isThere l δ cI cJ cZ aK0 aK1 aK2 aK3 aK4 aK5 k xc) hx hb hml hts hown hK hNW hP hD [0, 1, 2, 3, 4, 5] rfl rfl 1 0 rfl rfl (cwV 1 hts gX1_takeOff_X1_isThere rfl rfl rfl (by decide +kernel) ⟨(Nat.le_of_ble_eq_true rfl), (Nat.le_of_ble_eq_true rfl)⟩) rfl hl.1 rfl (Nat.le_of_ble_eq_true rfl) dX1_takeOff_2
  refine mc_i (wr := ([] : va_W)) hr hP hD hS hA [0, 1, 2, 3, 4, 5] [] [0, 1, 2, 3, 4, 5] rfl rfl rfl rfl rfl (wn := fun _ => (wK cI aK0 aK1 aK2 aK3 aK4 aK5 k)) (fun _ => rfl) (fun r_2 _ H locs hw_2 hP hD hS => ?_)
  obtain ⟨hw_2, z_2⟩ := hw_2
  have hP : va_P δ vwCl (wK cI aK0 aK1 aK2 aK3 aK4 aK5 k) H := hP
  have hD : va_D A (wK cI aK0 aK1 aK2 aK3 aK4 aK5 k) := hD
  have hR := bnd_eq hR hw_2.symm
  refine lv_if_ne (tgt := 10) hx hb dX1_takeOff_5 (by decide) (fun c_5 => ?_) (fun c_5 => ?_)
  · have c_5 : ¬ (r_2 = 0) := c_5
    have hR := hR.trans (if_neg c_5)
    refine lv_aload_n hx hb dX1_takeOff_10 rfl (lv_at hl 0 rfl) ?_
    refine va_get (D := δ) (ci := 1) (v := .ref aK2) (C := RX1) (T := TX1) (N := 11) hx hb hts hinX1 hown hK hP 0 rfl rfl 7 (by decide) (hts (.fieldLink RX1 19 "GloveHours$Court" "left" "[I") (List.mem_of_getElem? (i := 1) rfl)) (fun _ h9 => h9) rfl dX1_takeOff_11 ?_
    refine lv_iload_n hx hb dX1_takeOff_14 rfl (lv_at hl 1 rfl) ?_
    refine lv_bipush (v := (24 : Int32)) hx hb dX1_takeOff_15 (by decide) ?_
    refine va_iast hx hb hK hP hD hS 2 0 rfl rfl (there_in hw_2 c_5) dX1_takeOff_17 (fun H locs hP hD hS => ?_)
    have hP : va_P δ vwCl (wK cI aK0 aK1 aK2 aK3 aK4 aK5 (kPresent k, kClock k, kTears k, kSights k, kHoursSeen k, kHoursNotOwned k, kPairs k, (upd (kLeft k) xc.toNatClampNeg (24 : Int32)), kRight k, kScandals k, kWears k)) H := hP
    have hD : va_D A (wK cI aK0 aK1 aK2 aK3 aK4 aK5 (kPresent k, kClock k, kTears k, kSights k, kHoursSeen k, kHoursNotOwned k, kPairs k, (upd (kLeft k) xc.toNatClampNeg (24 : Int32)), kRight k, kScandals k, kWears k)) := hD
    refine lv_aload_n hx hb dX1_takeOff_18 rfl (lv_at hl 0 rfl) ?_
    refine va_get (D := δ) (ci := 1) (v := .ref aK3) (C := RX1) (T := TX1) (N := 11) hx hb hts hinX1 hown hK hP 0 rfl rfl 8 (by decide) (hts (.fieldLink RX1 22 "GloveHours$Court" "right" "[I") (List.mem_of_getElem? (i := 2) rfl)) (fun _ h9 => h9) rfl dX1_takeOff_19 ?_
    refine lv_iload_n hx hb dX1_takeOff_22 rfl (lv_at hl 1 rfl) ?_
    refine lv_bipush (v := (24 : Int32)) hx hb dX1_takeOff_23 (by decide) ?_
    refine va_iast hx hb hK hP hD hS 3 0 rfl rfl (there_in hw_2 c_5) dX1_takeOff_25 (fun H locs hP hD hS => ?_)
    have hP : va_P δ vwCl (wK cI aK0 aK1 aK2 aK3 aK4 aK5 (kPresent k, kClock k, kTears k, kSights k, kHoursSeen k, kHoursNotOwned k, kPairs k, (upd (kLeft k) xc.toNatClampNeg (24 : Int32)), (upd (kRight k) xc.toNatClampNeg (24 : Int32)), kScandals k, kWears k)) H := hP
    have hD : va_D A (wK cI aK0 aK1 aK2 aK3 aK4 aK5 (kPresent k, kClock k, kTears k, kSights k, kHoursSeen k, kHoursNotOwned k, kPairs k, (upd (kLeft k) xc.toNatClampNeg (24 : Int32)), (upd (kRight k) xc.toNatClampNeg (24 : Int32)), kScandals k, kWears k)) := hD
    refine lv_iconst (v := (0 : Int32)) hx hb dX1_takeOff_26 (by decide) ?_
    exact hret _ _ (0 : Int32) (kPresent k, kClock k, kTears k, kSights k, kHoursSeen k, kHoursNotOwned k, kPairs k, (upd (kLeft k) xc.toNatClampNeg (24 : Int32)), (upd (kRight k) xc.toNatClampNeg (24 : Int32)), kScandals k, kWears k) _ _ hR hP hD hS dX1_takeOff_27
  · have c_5 : (r_2 = 0) := c_5
    have hR := hR.trans (if_pos c_5)
    refine lv_iconst (v := (1 : Int32)) hx hb dX1_takeOff_8 (by decide) ?_
    exact hret _ _ (1 : Int32) k _ _ hR hP hD hS dX1_takeOff_9

abbrev rm_X1_whyNotGiven : Room := { frames := 1, cells := 0, slots := 0, locals := 22 }
set_option maxHeartbeats 4000000 in
set_option maxRecDepth 100000 in
theorem c_X1_whyNotGiven (l : Launch) (δ : va_G) (cI cJ cZ : ClassId) (aK0 aK1 aK2 aK3 aK4 aK5 : Nat) (k : KS) (xa : Int32) (xb : Int32) (xh : Int32) : mMi l δ (mTy cI cJ cZ) yX1_whyNotGiven wsX1_whyNotGiven rm_X1_whyNotGiven [.ref aK0, .int xa, .int xb, .int xh] (wK cI aK0 aK1 aK2 aK3 aK4 aK5 k) (S := Unit) (fun r _ => F_X1_whyNotGiven k xa xb xh = r) (fun _ => (wK cI aK0 aK1 aK2 aK3 aK4 aK5 k)) := by
  refine mk_i (cc := cX1_whyNotGiven) (maxL := 4) (by decide) rfl (Nat.le_of_ble_eq_true rfl) ?_
  intro p e s m args below meth c A Q ls H locs hx hb hml hts hown hK hNW hA hP hD hS hl hret
  have hown : s.vm.findClass RX1 = some m.cls := hown
  have hl : lv_has ls 4 [(0, .ref aK0), (1, .int xa), (2, .int xb), (3, .int xh)] := hl
  have hR := F_X1_whyNotGiven.eq_1 k xa xb xh
  refine lv_aload_n hx hb dX1_whyNotGiven_0 rfl (lv_at hl 0 rfl) ?_
  refine lv_iload_n hx hb dX1_whyNotGiven_1 rfl (lv_at hl 1 rfl) ?_
  have hr := mrV (p := p) (e := e) (R := rm_X1_whyNotGiven) (below := below) (meth := meth) (H := H) (locs := locs) (ls := ls) (As := [.int xa]) (rest := []) (c_X1_isThere l δ cI cJ cZ aK0 aK1 aK2 aK3 aK4 aK5 k xa) hx hb hml hts hown hK hNW hP hD [0, 1, 2, 3, 4, 5] rfl rfl 1 0 rfl rfl (cwV 1 hts gX1_whyNotGiven_X1_isThere rfl rfl rfl (by decide +kernel) ⟨(Nat.le_of_ble_eq_true rfl), (Nat.le_of_ble_eq_true rfl)⟩) rfl hl.1 rfl (Nat.le_of_ble_eq_true rfl) dX1_whyNotGiven_2
  refine mc_i (wr := ([] : va_W)) hr hP hD hS hA [0, 1, 2, 3, 4, 5] [] [0, 1, 2, 3, 4, 5] rfl rfl rfl rfl rfl (wn := fun _ => (wK cI aK0 aK1 aK2 aK3 aK4 aK5 k)) (fun _ => rfl) (fun r_2 _ H locs hw_2 hP hD hS => ?_)
  obtain ⟨hw_2, z_2⟩ := hw_2
  have hP : va_P δ vwCl (wK cI aK0 aK1 aK2 aK3 aK4 aK5 k) H := hP
  have hD : va_D A (wK cI aK0 aK1 aK2 aK3 aK4 aK5 k) := hD
  have hR := bnd_eq hR hw_2.symm
  refine lv_if_eq (tgt := 16) hx hb dX1_whyNotGiven_5 (by decide) (fun c_5 => ?_) (fun c_5 => ?_)
  · have c_5 : (r_2 = 0) := c_5
    have hR := hR.trans (if_pos c_5)
    refine lv_iconst (v := (1 : Int32)) hx hb dX1_whyNotGiven_16 (by decide) ?_
    exact hret _ _ (1 : Int32) () _ _ hR hP hD hS dX1_whyNotGiven_17
  · have c_5 : ¬ (r_2 = 0) := c_5
    have hR := hR.trans (if_neg c_5)
    refine lv_aload_n hx hb dX1_whyNotGiven_8 rfl (lv_at hl 0 rfl) ?_
    refine lv_iload_n hx hb dX1_whyNotGiven_9 rfl (lv_at hl 2 rfl) ?_
    have hr := mrV (p := p) (e := e) (R := rm_X1_whyNotGiven) (below := below) (meth := meth) (H := H) (locs := locs) (ls := ls) (As := [.int xb]) (rest := []) (c_X1_isThere l δ cI cJ cZ aK0 aK1 aK2 aK3 aK4 aK5 k xb) hx hb hml hts hown hK hNW hP hD [0, 1, 2, 3, 4, 5] rfl rfl 1 0 rfl rfl (cwV 1 hts gX1_whyNotGiven_X1_isThere rfl rfl rfl (by decide +kernel) ⟨(Nat.le_of_ble_eq_true rfl), (Nat.le_of_ble_eq_true rfl)⟩) rfl hl.1 rfl (Nat.le_of_ble_eq_true rfl) dX1_whyNotGiven_10
    refine mc_i (wr := ([] : va_W)) hr hP hD hS hA [0, 1, 2, 3, 4, 5] [] [0, 1, 2, 3, 4, 5] rfl rfl rfl rfl rfl (wn := fun _ => (wK cI aK0 aK1 aK2 aK3 aK4 aK5 k)) (fun _ => rfl) (fun r_10 _ H locs hw_10 hP hD hS => ?_)
    obtain ⟨hw_10, z_10⟩ := hw_10
    have hP : va_P δ vwCl (wK cI aK0 aK1 aK2 aK3 aK4 aK5 k) H := hP
    have hD : va_D A (wK cI aK0 aK1 aK2 aK3 aK4 aK5 k) := hD
    have hR := bnd_eq hR hw_10.symm
    refine lv_if_ne (tgt := 18) hx hb dX1_whyNotGiven_13 (by decide) (fun c_13 => ?_) (fun c_13 => ?_)
    · have c_13 : ¬ (r_10 = 0) := c_13
      have hR := hR.trans (if_neg c_13)
      refine lv_iload_n hx hb dX1_whyNotGiven_18 rfl (lv_at hl 1 rfl) ?_
      refine lv_iload_n hx hb dX1_whyNotGiven_19 rfl (lv_at hl 2 rfl) ?_
      refine lv_icmp_ne (tgt := 25) hx hb dX1_whyNotGiven_20 (by decide) (fun c_20 => ?_) (fun c_20 => ?_)
      · have c_20 : ¬ (xa = xb) := c_20
        have hR := hR.trans (if_neg c_20)
        refine lv_aload_n hx hb dX1_whyNotGiven_25 rfl (lv_at hl 0 rfl) ?_
        refine lv_iload_n hx hb dX1_whyNotGiven_26 rfl (lv_at hl 1 rfl) ?_
        refine lv_iload_n hx hb dX1_whyNotGiven_27 rfl (lv_at hl 3 rfl) ?_
        have hr := mrV (p := p) (e := e) (R := rm_X1_whyNotGiven) (below := below) (meth := meth) (H := H) (locs := locs) (ls := ls) (As := [.int xa, .int xh]) (rest := []) (c_X1_owns l δ cI cJ cZ aK0 aK1 aK2 aK3 aK4 aK5 k xa xh) hx hb hml hts hown hK hNW hP hD [0, 1, 2, 3, 4, 5] rfl rfl 1 0 rfl rfl (cwV 2 hts gX1_whyNotGiven_X1_owns rfl rfl rfl (by decide +kernel) ⟨(Nat.le_of_ble_eq_true rfl), (Nat.le_of_ble_eq_true rfl)⟩) rfl hl.1 rfl (Nat.le_of_ble_eq_true rfl) dX1_whyNotGiven_28
        refine mc_i (wr := ([] : va_W)) hr hP hD hS hA [0, 1, 2, 3, 4, 5] [] [0, 1, 2, 3, 4, 5] rfl rfl rfl rfl rfl (wn := fun _ => (wK cI aK0 aK1 aK2 aK3 aK4 aK5 k)) (fun _ => rfl) (fun r_28 _ H locs hw_28 hP hD hS => ?_)
        obtain ⟨hw_28, z_28⟩ := hw_28
        have hP : va_P δ vwCl (wK cI aK0 aK1 aK2 aK3 aK4 aK5 k) H := hP
        have hD : va_D A (wK cI aK0 aK1 aK2 aK3 aK4 aK5 k) := hD
        have hR := bnd_eq hR hw_28.symm
        refine lv_if_ne (tgt := 36) hx hb dX1_whyNotGiven_31 (by decide) (fun c_31 => ?_) (fun c_31 => ?_)
        · have c_31 : ¬ (r_28 = 0) := c_31
          have hR := hR.trans (if_neg c_31)
          refine lv_aload_n hx hb dX1_whyNotGiven_36 rfl (lv_at hl 0 rfl) ?_
          refine lv_iload_n hx hb dX1_whyNotGiven_37 rfl (lv_at hl 2 rfl) ?_
          refine lv_iload_n hx hb dX1_whyNotGiven_38 rfl (lv_at hl 3 rfl) ?_
          have hr := mrV (p := p) (e := e) (R := rm_X1_whyNotGiven) (below := below) (meth := meth) (H := H) (locs := locs) (ls := ls) (As := [.int xb, .int xh]) (rest := []) (c_X1_owns l δ cI cJ cZ aK0 aK1 aK2 aK3 aK4 aK5 k xb xh) hx hb hml hts hown hK hNW hP hD [0, 1, 2, 3, 4, 5] rfl rfl 1 0 rfl rfl (cwV 2 hts gX1_whyNotGiven_X1_owns rfl rfl rfl (by decide +kernel) ⟨(Nat.le_of_ble_eq_true rfl), (Nat.le_of_ble_eq_true rfl)⟩) rfl hl.1 rfl (Nat.le_of_ble_eq_true rfl) dX1_whyNotGiven_39
          refine mc_i (wr := ([] : va_W)) hr hP hD hS hA [0, 1, 2, 3, 4, 5] [] [0, 1, 2, 3, 4, 5] rfl rfl rfl rfl rfl (wn := fun _ => (wK cI aK0 aK1 aK2 aK3 aK4 aK5 k)) (fun _ => rfl) (fun r_39 _ H locs hw_39 hP hD hS => ?_)
          obtain ⟨hw_39, z_39⟩ := hw_39
          have hP : va_P δ vwCl (wK cI aK0 aK1 aK2 aK3 aK4 aK5 k) H := hP
          have hD : va_D A (wK cI aK0 aK1 aK2 aK3 aK4 aK5 k) := hD
          have hR := bnd_eq hR hw_39.symm
          refine lv_if_eq (tgt := 49) hx hb dX1_whyNotGiven_42 (by decide) (fun c_42 => ?_) (fun c_42 => ?_)
          · have c_42 : (r_39 = 0) := c_42
            have hR := hR.trans (if_pos c_42)
            refine lv_iconst (v := (0 : Int32)) hx hb dX1_whyNotGiven_49 (by decide) ?_
            exact hret _ _ (0 : Int32) () _ _ hR hP hD hS dX1_whyNotGiven_50
          · have c_42 : ¬ (r_39 = 0) := c_42
            have hR := hR.trans (if_neg c_42)
            refine lv_iconst (v := (4 : Int32)) hx hb dX1_whyNotGiven_45 (by decide) ?_
            refine lv_goto (tgt := 50) hx hb dX1_whyNotGiven_46 (by decide) ?_
            exact hret _ _ (4 : Int32) () _ _ hR hP hD hS dX1_whyNotGiven_50
        · have c_31 : (r_28 = 0) := c_31
          have hR := hR.trans (if_pos c_31)
          refine lv_iconst (v := (3 : Int32)) hx hb dX1_whyNotGiven_34 (by decide) ?_
          exact hret _ _ (3 : Int32) () _ _ hR hP hD hS dX1_whyNotGiven_35
      · have c_20 : (xa = xb) := c_20
        have hR := hR.trans (if_pos c_20)
        refine lv_iconst (v := (2 : Int32)) hx hb dX1_whyNotGiven_23 (by decide) ?_
        exact hret _ _ (2 : Int32) () _ _ hR hP hD hS dX1_whyNotGiven_24
    · have c_13 : (r_10 = 0) := c_13
      have hR := hR.trans (if_pos c_13)
      refine lv_iconst (v := (1 : Int32)) hx hb dX1_whyNotGiven_16 (by decide) ?_
      exact hret _ _ (1 : Int32) () _ _ hR hP hD hS dX1_whyNotGiven_17

abbrev rm_X1_losePair : Room := { frames := 0, cells := 0, slots := 0, locals := 0 }
set_option maxHeartbeats 4000000 in
set_option maxRecDepth 100000 in
theorem c_X1_losePair (l : Launch) (δ : va_G) (cI cJ cZ : ClassId) (aK0 aK1 aK2 aK3 aK4 aK5 : Nat) (k : KS) (xc : Int32) (xh : Int32) : mMv l δ (mTy cI cJ cZ) yX1_losePair wsX1_losePair rm_X1_losePair [.ref aK0, .int xc, .int xh] (wK cI aK0 aK1 aK2 aK3 aK4 aK5 k) (S := KS) (fun u => F_X1_losePair k xc xh = u) (fun u => (wK cI aK0 aK1 aK2 aK3 aK4 aK5 u)) := by
  refine mk_v (cc := cX1_losePair) (maxL := 3) (by decide) rfl (Nat.le_of_ble_eq_true rfl) ?_
  intro p e s m args below meth c A Q ls H locs hx hb hml hts hown hK hNW hA hP hD hS hl hret
  have hown : s.vm.findClass RX1 = some m.cls := hown
  have hl : lv_has ls 3 [(0, .ref aK0), (1, .int xc), (2, .int xh)] := hl
  have hinX1 : ∀ w ∈ u_ws RX1 TX1 11, w ∈ wsX1_losePair := (fun _ h => List.mem_cons_of_mem _ (List.mem_append_right _ (h)))
  have hR := F_X1_losePair.eq_1 k xc xh
  refine lv_iload_n hx hb dX1_losePair_0 rfl (lv_at hl 1 rfl) ?_
  refine lv_if_lt (tgt := 10) hx hb dX1_losePair_1 (by decide) (fun c_1 => ?_) (fun c_1 => ?_)
  · have c_1 : (xc < 0) := c_1
    have hR := hR.trans (if_pos c_1)
    exact hret _ _ k _ _ hR hP hD hS dX1_losePair_10
  · have c_1 : ¬ (xc < 0) := c_1
    have hR := hR.trans (if_neg c_1)
    refine lv_iload_n hx hb dX1_losePair_4 rfl (lv_at hl 1 rfl) ?_
    refine lv_bipush (v := (6 : Int32)) hx hb dX1_losePair_5 (by decide) ?_
    refine lv_icmp_lt (tgt := 11) hx hb dX1_losePair_7 (by decide) (fun c_7 => ?_) (fun c_7 => ?_)
    · have c_7 : (xc < (6 : Int32)) := c_7
      have hR := hR.trans (if_pos c_7)
      refine lv_aload_n hx hb dX1_losePair_11 rfl (lv_at hl 0 rfl) ?_
      refine va_get (D := δ) (ci := 1) (v := .ref aK1) (C := RX1) (T := TX1) (N := 11) hx hb hts hinX1 hown hK hP 0 rfl rfl 6 (by decide) (hts (.fieldLink RX1 15 "GloveHours$Court" "pairs" "[I") (List.mem_of_getElem? (i := 1) rfl)) (fun _ h9 => h9) rfl dX1_losePair_12 ?_
      refine lv_iload_n hx hb dX1_losePair_15 rfl (lv_at hl 1 rfl) ?_
      refine lv_dup2_11 hx hb dX1_losePair_16 rfl rfl ?_
      refine va_iald hx hb hK hP 1 0 rfl rfl (in_lt c_1 c_7 (by decide)) dX1_losePair_17 ?_
      refine lv_iconst (v := (1 : Int32)) hx hb dX1_losePair_18 (by decide) ?_
      refine lv_iload_n hx hb dX1_losePair_19 rfl (lv_at hl 2 rfl) ?_
      refine lv_ishl hx hb dX1_losePair_20 ?_
      refine lv_iconst (v := (-1 : Int32)) hx hb dX1_losePair_21 (by decide) ?_
      refine lv_ixor hx hb dX1_losePair_22 ?_
      refine lv_iand hx hb dX1_losePair_23 ?_
      refine va_iast hx hb hK hP hD hS 1 0 rfl rfl (in_lt c_1 c_7 (by decide)) dX1_losePair_24 (fun H locs hP hD hS => ?_)
      have hP : va_P δ vwCl (wK cI aK0 aK1 aK2 aK3 aK4 aK5 (kPresent k, kClock k, kTears k, kSights k, kHoursSeen k, kHoursNotOwned k, (upd (kPairs k) xc.toNatClampNeg (((kPairs k) xc.toNatClampNeg) &&& (((1 : Int32) <<< (xh &&& 31)) ^^^ (-1 : Int32)))), kLeft k, kRight k, kScandals k, kWears k)) H := hP
      have hD : va_D A (wK cI aK0 aK1 aK2 aK3 aK4 aK5 (kPresent k, kClock k, kTears k, kSights k, kHoursSeen k, kHoursNotOwned k, (upd (kPairs k) xc.toNatClampNeg (((kPairs k) xc.toNatClampNeg) &&& (((1 : Int32) <<< (xh &&& 31)) ^^^ (-1 : Int32)))), kLeft k, kRight k, kScandals k, kWears k)) := hD
      refine lv_aload_n hx hb dX1_losePair_25 rfl (lv_at hl 0 rfl) ?_
      refine va_get (D := δ) (ci := 1) (v := .ref aK2) (C := RX1) (T := TX1) (N := 11) hx hb hts hinX1 hown hK hP 0 rfl rfl 7 (by decide) (hts (.fieldLink RX1 19 "GloveHours$Court" "left" "[I") (List.mem_of_getElem? (i := 2) rfl)) (fun _ h9 => h9) rfl dX1_losePair_26 ?_
      refine lv_iload_n hx hb dX1_losePair_29 rfl (lv_at hl 1 rfl) ?_
      refine va_iald hx hb hK hP 2 0 rfl rfl (in_lt c_1 c_7 (by decide)) dX1_losePair_30 ?_
      refine lv_iload_n hx hb dX1_losePair_31 rfl (lv_at hl 2 rfl) ?_
      refine lv_icmp_ne (tgt := 43) hx hb dX1_losePair_32 (by decide) (fun c_32 => ?_) (fun c_32 => ?_)
      · have c_32 : ¬ (((kLeft k) xc.toNatClampNeg) = xh) := c_32
        have hR := hR.trans (if_neg c_32)
        refine lv_aload_n hx hb dX1_losePair_43 rfl (lv_at hl 0 rfl) ?_
        refine va_get (D := δ) (ci := 1) (v := .ref aK3) (C := RX1) (T := TX1) (N := 11) hx hb hts hinX1 hown hK hP 0 rfl rfl 8 (by decide) (hts (.fieldLink RX1 22 "GloveHours$Court" "right" "[I") (List.mem_of_getElem? (i := 3) rfl)) (fun _ h9 => h9) rfl dX1_losePair_44 ?_
        refine lv_iload_n hx hb dX1_losePair_47 rfl (lv_at hl 1 rfl) ?_
        refine va_iald hx hb hK hP 3 0 rfl rfl (in_lt c_1 c_7 (by decide)) dX1_losePair_48 ?_
        refine lv_iload_n hx hb dX1_losePair_49 rfl (lv_at hl 2 rfl) ?_
        refine lv_icmp_ne (tgt := 61) hx hb dX1_losePair_50 (by decide) (fun c_50 => ?_) (fun c_50 => ?_)
        · have c_50 : ¬ (((kRight k) xc.toNatClampNeg) = xh) := c_50
          have hR := hR.trans (if_neg c_50)
          exact hret _ _ (kPresent k, kClock k, kTears k, kSights k, kHoursSeen k, kHoursNotOwned k, (upd (kPairs k) xc.toNatClampNeg (((kPairs k) xc.toNatClampNeg) &&& (((1 : Int32) <<< (xh &&& 31)) ^^^ (-1 : Int32)))), kLeft k, kRight k, kScandals k, kWears k) _ _ hR hP hD hS dX1_losePair_61
        · have c_50 : (((kRight k) xc.toNatClampNeg) = xh) := c_50
          have hR := hR.trans (if_pos c_50)
          refine lv_aload_n hx hb dX1_losePair_53 rfl (lv_at hl 0 rfl) ?_
          refine va_get (D := δ) (ci := 1) (v := .ref aK3) (C := RX1) (T := TX1) (N := 11) hx hb hts hinX1 hown hK hP 0 rfl rfl 8 (by decide) (hts (.fieldLink RX1 22 "GloveHours$Court" "right" "[I") (List.mem_of_getElem? (i := 3) rfl)) (fun _ h9 => h9) rfl dX1_losePair_54 ?_
          refine lv_iload_n hx hb dX1_losePair_57 rfl (lv_at hl 1 rfl) ?_
          refine lv_bipush (v := (24 : Int32)) hx hb dX1_losePair_58 (by decide) ?_
          refine va_iast hx hb hK hP hD hS 3 0 rfl rfl (in_lt c_1 c_7 (by decide)) dX1_losePair_60 (fun H locs hP hD hS => ?_)
          have hP : va_P δ vwCl (wK cI aK0 aK1 aK2 aK3 aK4 aK5 (kPresent k, kClock k, kTears k, kSights k, kHoursSeen k, kHoursNotOwned k, (upd (kPairs k) xc.toNatClampNeg (((kPairs k) xc.toNatClampNeg) &&& (((1 : Int32) <<< (xh &&& 31)) ^^^ (-1 : Int32)))), kLeft k, (upd (kRight k) xc.toNatClampNeg (24 : Int32)), kScandals k, kWears k)) H := hP
          have hD : va_D A (wK cI aK0 aK1 aK2 aK3 aK4 aK5 (kPresent k, kClock k, kTears k, kSights k, kHoursSeen k, kHoursNotOwned k, (upd (kPairs k) xc.toNatClampNeg (((kPairs k) xc.toNatClampNeg) &&& (((1 : Int32) <<< (xh &&& 31)) ^^^ (-1 : Int32)))), kLeft k, (upd (kRight k) xc.toNatClampNeg (24 : Int32)), kScandals k, kWears k)) := hD
          exact hret _ _ (kPresent k, kClock k, kTears k, kSights k, kHoursSeen k, kHoursNotOwned k, (upd (kPairs k) xc.toNatClampNeg (((kPairs k) xc.toNatClampNeg) &&& (((1 : Int32) <<< (xh &&& 31)) ^^^ (-1 : Int32)))), kLeft k, (upd (kRight k) xc.toNatClampNeg (24 : Int32)), kScandals k, kWears k) _ _ hR hP hD hS dX1_losePair_61
      · have c_32 : (((kLeft k) xc.toNatClampNeg) = xh) := c_32
        have hR := hR.trans (if_pos c_32)
        refine lv_aload_n hx hb dX1_losePair_35 rfl (lv_at hl 0 rfl) ?_
        refine va_get (D := δ) (ci := 1) (v := .ref aK2) (C := RX1) (T := TX1) (N := 11) hx hb hts hinX1 hown hK hP 0 rfl rfl 7 (by decide) (hts (.fieldLink RX1 19 "GloveHours$Court" "left" "[I") (List.mem_of_getElem? (i := 2) rfl)) (fun _ h9 => h9) rfl dX1_losePair_36 ?_
        refine lv_iload_n hx hb dX1_losePair_39 rfl (lv_at hl 1 rfl) ?_
        refine lv_bipush (v := (24 : Int32)) hx hb dX1_losePair_40 (by decide) ?_
        refine va_iast hx hb hK hP hD hS 2 0 rfl rfl (in_lt c_1 c_7 (by decide)) dX1_losePair_42 (fun H locs hP hD hS => ?_)
        have hP : va_P δ vwCl (wK cI aK0 aK1 aK2 aK3 aK4 aK5 (kPresent k, kClock k, kTears k, kSights k, kHoursSeen k, kHoursNotOwned k, (upd (kPairs k) xc.toNatClampNeg (((kPairs k) xc.toNatClampNeg) &&& (((1 : Int32) <<< (xh &&& 31)) ^^^ (-1 : Int32)))), (upd (kLeft k) xc.toNatClampNeg (24 : Int32)), kRight k, kScandals k, kWears k)) H := hP
        have hD : va_D A (wK cI aK0 aK1 aK2 aK3 aK4 aK5 (kPresent k, kClock k, kTears k, kSights k, kHoursSeen k, kHoursNotOwned k, (upd (kPairs k) xc.toNatClampNeg (((kPairs k) xc.toNatClampNeg) &&& (((1 : Int32) <<< (xh &&& 31)) ^^^ (-1 : Int32)))), (upd (kLeft k) xc.toNatClampNeg (24 : Int32)), kRight k, kScandals k, kWears k)) := hD
        refine lv_aload_n hx hb dX1_losePair_43 rfl (lv_at hl 0 rfl) ?_
        refine va_get (D := δ) (ci := 1) (v := .ref aK3) (C := RX1) (T := TX1) (N := 11) hx hb hts hinX1 hown hK hP 0 rfl rfl 8 (by decide) (hts (.fieldLink RX1 22 "GloveHours$Court" "right" "[I") (List.mem_of_getElem? (i := 3) rfl)) (fun _ h9 => h9) rfl dX1_losePair_44 ?_
        refine lv_iload_n hx hb dX1_losePair_47 rfl (lv_at hl 1 rfl) ?_
        refine va_iald hx hb hK hP 3 0 rfl rfl (in_lt c_1 c_7 (by decide)) dX1_losePair_48 ?_
        refine lv_iload_n hx hb dX1_losePair_49 rfl (lv_at hl 2 rfl) ?_
        refine lv_icmp_ne (tgt := 61) hx hb dX1_losePair_50 (by decide) (fun c_50 => ?_) (fun c_50 => ?_)
        · have c_50 : ¬ (((kRight k) xc.toNatClampNeg) = xh) := c_50
          have hR := hR.trans (if_neg c_50)
          exact hret _ _ (kPresent k, kClock k, kTears k, kSights k, kHoursSeen k, kHoursNotOwned k, (upd (kPairs k) xc.toNatClampNeg (((kPairs k) xc.toNatClampNeg) &&& (((1 : Int32) <<< (xh &&& 31)) ^^^ (-1 : Int32)))), (upd (kLeft k) xc.toNatClampNeg (24 : Int32)), kRight k, kScandals k, kWears k) _ _ hR hP hD hS dX1_losePair_61
        · have c_50 : (((kRight k) xc.toNatClampNeg) = xh) := c_50
          have hR := hR.trans (if_pos c_50)
          refine lv_aload_n hx hb dX1_losePair_53 rfl (lv_at hl 0 rfl) ?_
          refine va_get (D := δ) (ci := 1) (v := .ref aK3) (C := RX1) (T := TX1) (N := 11) hx hb hts hinX1 hown hK hP 0 rfl rfl 8 (by decide) (hts (.fieldLink RX1 22 "GloveHours$Court" "right" "[I") (List.mem_of_getElem? (i := 3) rfl)) (fun _ h9 => h9) rfl dX1_losePair_54 ?_
          refine lv_iload_n hx hb dX1_losePair_57 rfl (lv_at hl 1 rfl) ?_
          refine lv_bipush (v := (24 : Int32)) hx hb dX1_losePair_58 (by decide) ?_
          refine va_iast hx hb hK hP hD hS 3 0 rfl rfl (in_lt c_1 c_7 (by decide)) dX1_losePair_60 (fun H locs hP hD hS => ?_)
          have hP : va_P δ vwCl (wK cI aK0 aK1 aK2 aK3 aK4 aK5 (kPresent k, kClock k, kTears k, kSights k, kHoursSeen k, kHoursNotOwned k, (upd (kPairs k) xc.toNatClampNeg (((kPairs k) xc.toNatClampNeg) &&& (((1 : Int32) <<< (xh &&& 31)) ^^^ (-1 : Int32)))), (upd (kLeft k) xc.toNatClampNeg (24 : Int32)), (upd (kRight k) xc.toNatClampNeg (24 : Int32)), kScandals k, kWears k)) H := hP
          have hD : va_D A (wK cI aK0 aK1 aK2 aK3 aK4 aK5 (kPresent k, kClock k, kTears k, kSights k, kHoursSeen k, kHoursNotOwned k, (upd (kPairs k) xc.toNatClampNeg (((kPairs k) xc.toNatClampNeg) &&& (((1 : Int32) <<< (xh &&& 31)) ^^^ (-1 : Int32)))), (upd (kLeft k) xc.toNatClampNeg (24 : Int32)), (upd (kRight k) xc.toNatClampNeg (24 : Int32)), kScandals k, kWears k)) := hD
          exact hret _ _ (kPresent k, kClock k, kTears k, kSights k, kHoursSeen k, kHoursNotOwned k, (upd (kPairs k) xc.toNatClampNeg (((kPairs k) xc.toNatClampNeg) &&& (((1 : Int32) <<< (xh &&& 31)) ^^^ (-1 : Int32)))), (upd (kLeft k) xc.toNatClampNeg (24 : Int32)), (upd (kRight k) xc.toNatClampNeg (24 : Int32)), kScandals k, kWears k) _ _ hR hP hD hS dX1_losePair_61
    · have c_7 : ¬ (xc < (6 : Int32)) := c_7
      have hR := hR.trans (if_neg c_7)
      exact hret _ _ k _ _ hR hP hD hS dX1_losePair_10

abbrev rm_X1_give : Room := { frames := 2, cells := 0, slots := 0, locals := 45 }
set_option maxHeartbeats 4000000 in
set_option maxRecDepth 100000 in
theorem c_X1_give (l : Launch) (δ : va_G) (cI cJ cZ : ClassId) (aK0 aK1 aK2 aK3 aK4 aK5 : Nat) (k : KS) (xa : Int32) (xb : Int32) (xh : Int32) : mMi l δ (mTy cI cJ cZ) yX1_give wsX1_give rm_X1_give [.ref aK0, .int xa, .int xb, .int xh] (wK cI aK0 aK1 aK2 aK3 aK4 aK5 k) (S := KS) (fun r u => F_X1_give k xa xb xh = (r, u)) (fun u => (wK cI aK0 aK1 aK2 aK3 aK4 aK5 u)) := by
  refine mk_i (cc := cX1_give) (maxL := 5) (by decide) rfl (Nat.le_of_ble_eq_true rfl) ?_
  intro p e s m args below meth c A Q ls H locs hx hb hml hts hown hK hNW hA hP hD hS hl hret
  have hown : s.vm.findClass RX1 = some m.cls := hown
  have hl : lv_has ls 5 [(0, .ref aK0), (1, .int xa), (2, .int xb), (3, .int xh)] := hl
  have hinX1 : ∀ w ∈ u_ws RX1 TX1 11, w ∈ wsX1_give := (fun _ h => List.mem_cons_of_mem _ (List.mem_append_right _ (h)))
  have hR := F_X1_give.eq_1 k xa xb xh
  refine lv_aload_n hx hb dX1_give_0 rfl (lv_at hl 0 rfl) ?_
  refine lv_iload_n hx hb dX1_give_1 rfl (lv_at hl 1 rfl) ?_
  refine lv_iload_n hx hb dX1_give_2 rfl (lv_at hl 2 rfl) ?_
  refine lv_iload_n hx hb dX1_give_3 rfl (lv_at hl 3 rfl) ?_
  have hr := mrV (p := p) (e := e) (R := rm_X1_give) (below := below) (meth := meth) (H := H) (locs := locs) (ls := ls) (As := [.int xa, .int xb, .int xh]) (rest := []) (c_X1_whyNotGiven l δ cI cJ cZ aK0 aK1 aK2 aK3 aK4 aK5 k xa xb xh) hx hb hml hts hown hK hNW hP hD [0, 1, 2, 3, 4, 5] rfl rfl 1 0 rfl rfl (cwV 3 hts gX1_give_X1_whyNotGiven rfl rfl rfl (by decide +kernel) ⟨(Nat.le_of_ble_eq_true rfl), (Nat.le_of_ble_eq_true rfl)⟩) rfl hl.1 rfl (Nat.le_of_ble_eq_true rfl) dX1_give_4
  refine mc_i (wr := ([] : va_W)) hr hP hD hS hA [0, 1, 2, 3, 4, 5] [] [0, 1, 2, 3, 4, 5] rfl rfl rfl rfl rfl (wn := fun _ => (wK cI aK0 aK1 aK2 aK3 aK4 aK5 k)) (fun _ => rfl) (fun r_4 _ H locs hw_4 hP hD hS => ?_)
  have hP : va_P δ vwCl (wK cI aK0 aK1 aK2 aK3 aK4 aK5 k) H := hP
  have hD : va_D A (wK cI aK0 aK1 aK2 aK3 aK4 aK5 k) := hD
  have hR := bnd_eq hR hw_4.symm
  refine lv_istore (lv' := [(4, .int r_4), (0, .ref aK0), (1, .int xa), (2, .int xb), (3, .int xh)]) hx hb dX1_give_7 hl (by decide) rfl (fun ls hl => ?_)
  refine lv_iload hx hb dX1_give_9 (lv_at hl 0 rfl) ?_
  refine lv_if_ne (tgt := 71) hx hb dX1_give_11 (by decide) (fun c_11 => ?_) (fun c_11 => ?_)
  · have c_11 : ¬ (r_4 = 0) := c_11
    have hR := hR.trans (if_neg c_11)
    refine lv_iload hx hb dX1_give_71 (lv_at hl 0 rfl) ?_
    exact hret _ _ r_4 k _ _ hR hP hD hS dX1_give_73
  · have c_11 : (r_4 = 0) := c_11
    have hR := hR.trans (if_pos c_11)
    refine lv_aload_n hx hb dX1_give_14 rfl (lv_at hl 1 rfl) ?_
    refine lv_iload_n hx hb dX1_give_15 rfl (lv_at hl 2 rfl) ?_
    refine lv_iload_n hx hb dX1_give_16 rfl (lv_at hl 4 rfl) ?_
    have hr := mrV (p := p) (e := e) (R := rm_X1_give) (below := below) (meth := meth) (H := H) (locs := locs) (ls := ls) (As := [.int xa, .int xh]) (rest := []) (c_X1_owns l δ cI cJ cZ aK0 aK1 aK2 aK3 aK4 aK5 k xa xh) hx hb hml hts hown hK hNW hP hD [0, 1, 2, 3, 4, 5] rfl rfl 1 0 rfl rfl (cwV 2 hts gX1_give_X1_owns rfl rfl rfl (by decide +kernel) ⟨(Nat.le_of_ble_eq_true rfl), (Nat.le_of_ble_eq_true rfl)⟩) rfl hl.1 rfl (Nat.le_of_ble_eq_true rfl) dX1_give_17
    refine mc_i (wr := ([] : va_W)) hr hP hD hS hA [0, 1, 2, 3, 4, 5] [] [0, 1, 2, 3, 4, 5] rfl rfl rfl rfl rfl (wn := fun _ => (wK cI aK0 aK1 aK2 aK3 aK4 aK5 k)) (fun _ => rfl) (fun r_17 _ H locs hw_17 hP hD hS => ?_)
    obtain ⟨hw_17, z_17⟩ := hw_17
    have hP : va_P δ vwCl (wK cI aK0 aK1 aK2 aK3 aK4 aK5 k) H := hP
    have hD : va_D A (wK cI aK0 aK1 aK2 aK3 aK4 aK5 k) := hD
    have hR := bnd_eq hR hw_17.symm
    refine lv_if_eq (tgt := 71) hx hb dX1_give_20 (by decide) (fun c_20 => ?_) (fun c_20 => ?_)
    · have c_20 : (r_17 = 0) := c_20
      have hR := hR.trans (if_pos c_20)
      refine lv_iload hx hb dX1_give_71 (lv_at hl 0 rfl) ?_
      exact hret _ _ r_4 k _ _ hR hP hD hS dX1_give_73
    · have c_20 : ¬ (r_17 = 0) := c_20
      have hR := hR.trans (if_neg c_20)
      refine lv_aload_n hx hb dX1_give_23 rfl (lv_at hl 1 rfl) ?_
      refine lv_iload_n hx hb dX1_give_24 rfl (lv_at hl 3 rfl) ?_
      have hr := mrV (p := p) (e := e) (R := rm_X1_give) (below := below) (meth := meth) (H := H) (locs := locs) (ls := ls) (As := [.int xb]) (rest := []) (c_X1_isThere l δ cI cJ cZ aK0 aK1 aK2 aK3 aK4 aK5 k xb) hx hb hml hts hown hK hNW hP hD [0, 1, 2, 3, 4, 5] rfl rfl 1 0 rfl rfl (cwV 1 hts gX1_give_X1_isThere rfl rfl rfl (by decide +kernel) ⟨(Nat.le_of_ble_eq_true rfl), (Nat.le_of_ble_eq_true rfl)⟩) rfl hl.1 rfl (Nat.le_of_ble_eq_true rfl) dX1_give_25
      refine mc_i (wr := ([] : va_W)) hr hP hD hS hA [0, 1, 2, 3, 4, 5] [] [0, 1, 2, 3, 4, 5] rfl rfl rfl rfl rfl (wn := fun _ => (wK cI aK0 aK1 aK2 aK3 aK4 aK5 k)) (fun _ => rfl) (fun r_25 _ H locs hw_25 hP hD hS => ?_)
      obtain ⟨hw_25, z_25⟩ := hw_25
      have hP : va_P δ vwCl (wK cI aK0 aK1 aK2 aK3 aK4 aK5 k) H := hP
      have hD : va_D A (wK cI aK0 aK1 aK2 aK3 aK4 aK5 k) := hD
      have hR := bnd_eq hR hw_25.symm
      refine lv_if_eq (tgt := 71) hx hb dX1_give_28 (by decide) (fun c_28 => ?_) (fun c_28 => ?_)
      · have c_28 : (r_25 = 0) := c_28
        have hR := hR.trans (if_pos c_28)
        refine lv_iload hx hb dX1_give_71 (lv_at hl 0 rfl) ?_
        exact hret _ _ r_4 k _ _ hR hP hD hS dX1_give_73
      · have c_28 : ¬ (r_25 = 0) := c_28
        have hR := hR.trans (if_neg c_28)
        refine lv_aload_n hx hb dX1_give_31 rfl (lv_at hl 1 rfl) ?_
        refine va_get (D := δ) (ci := 1) (v := .ref aK5) (C := RX1) (T := TX1) (N := 11) hx hb hts hinX1 hown hK hP 0 rfl rfl 10 (by decide) (hts (.fieldLink RX1 28 "GloveHours$Court" "wears" "[I") (List.mem_of_getElem? (i := 1) rfl)) (fun _ h9 => h9) rfl dX1_give_32 ?_
        refine lv_iload_n hx hb dX1_give_35 rfl (lv_at hl 3 rfl) ?_
        refine lv_bipush (v := (24 : Int32)) hx hb dX1_give_36 (by decide) ?_
        refine lv_imul hx hb dX1_give_38 ?_
        refine lv_iload_n hx hb dX1_give_39 rfl (lv_at hl 4 rfl) ?_
        refine lv_iadd hx hb dX1_give_40 ?_
        refine lv_aload_n hx hb dX1_give_41 rfl (lv_at hl 1 rfl) ?_
        refine va_get (D := δ) (ci := 1) (v := .ref aK5) (C := RX1) (T := TX1) (N := 11) hx hb hts hinX1 hown hK hP 0 rfl rfl 10 (by decide) (hts (.fieldLink RX1 28 "GloveHours$Court" "wears" "[I") (List.mem_of_getElem? (i := 1) rfl)) (fun _ h9 => h9) rfl dX1_give_42 ?_
        refine lv_iload_n hx hb dX1_give_45 rfl (lv_at hl 2 rfl) ?_
        refine lv_bipush (v := (24 : Int32)) hx hb dX1_give_46 (by decide) ?_
        refine lv_imul hx hb dX1_give_48 ?_
        refine lv_iload_n hx hb dX1_give_49 rfl (lv_at hl 4 rfl) ?_
        refine lv_iadd hx hb dX1_give_50 ?_
        refine va_iald hx hb hK hP 5 0 rfl rfl (in_144 (own_in hw_17 c_20).1 (own_in hw_17 c_20).2) dX1_give_51 ?_
        refine va_iast hx hb hK hP hD hS 5 0 rfl rfl (in_144 (there_in hw_25 c_28) (own_in hw_17 c_20).2) dX1_give_52 (fun H locs hP hD hS => ?_)
        have hP : va_P δ vwCl (wK cI aK0 aK1 aK2 aK3 aK4 aK5 (kPresent k, kClock k, kTears k, kSights k, kHoursSeen k, kHoursNotOwned k, kPairs k, kLeft k, kRight k, kScandals k, (upd (kWears k) ((xb * (24 : Int32)) + xh).toNatClampNeg ((kWears k) ((xa * (24 : Int32)) + xh).toNatClampNeg)))) H := hP
        have hD : va_D A (wK cI aK0 aK1 aK2 aK3 aK4 aK5 (kPresent k, kClock k, kTears k, kSights k, kHoursSeen k, kHoursNotOwned k, kPairs k, kLeft k, kRight k, kScandals k, (upd (kWears k) ((xb * (24 : Int32)) + xh).toNatClampNeg ((kWears k) ((xa * (24 : Int32)) + xh).toNatClampNeg)))) := hD
        refine lv_aload_n hx hb dX1_give_53 rfl (lv_at hl 1 rfl) ?_
        refine va_get (D := δ) (ci := 1) (v := .ref aK1) (C := RX1) (T := TX1) (N := 11) hx hb hts hinX1 hown hK hP 0 rfl rfl 6 (by decide) (hts (.fieldLink RX1 15 "GloveHours$Court" "pairs" "[I") (List.mem_of_getElem? (i := 2) rfl)) (fun _ h9 => h9) rfl dX1_give_54 ?_
        refine lv_iload_n hx hb dX1_give_57 rfl (lv_at hl 3 rfl) ?_
        refine lv_dup2_11 hx hb dX1_give_58 rfl rfl ?_
        refine va_iald hx hb hK hP 1 0 rfl rfl (there_in hw_25 c_28) dX1_give_59 ?_
        refine lv_iconst (v := (1 : Int32)) hx hb dX1_give_60 (by decide) ?_
        refine lv_iload_n hx hb dX1_give_61 rfl (lv_at hl 4 rfl) ?_
        refine lv_ishl hx hb dX1_give_62 ?_
        refine lv_ior hx hb dX1_give_63 ?_
        refine va_iast hx hb hK hP hD hS 1 0 rfl rfl (there_in hw_25 c_28) dX1_give_64 (fun H locs hP hD hS => ?_)
        have hP : va_P δ vwCl (wK cI aK0 aK1 aK2 aK3 aK4 aK5 (kPresent k, kClock k, kTears k, kSights k, kHoursSeen k, kHoursNotOwned k, (upd (kPairs k) xb.toNatClampNeg (((kPairs k) xb.toNatClampNeg) ||| ((1 : Int32) <<< (xh &&& 31)))), kLeft k, kRight k, kScandals k, (upd (kWears k) ((xb * (24 : Int32)) + xh).toNatClampNeg ((kWears k) ((xa * (24 : Int32)) + xh).toNatClampNeg)))) H := hP
        have hD : va_D A (wK cI aK0 aK1 aK2 aK3 aK4 aK5 (kPresent k, kClock k, kTears k, kSights k, kHoursSeen k, kHoursNotOwned k, (upd (kPairs k) xb.toNatClampNeg (((kPairs k) xb.toNatClampNeg) ||| ((1 : Int32) <<< (xh &&& 31)))), kLeft k, kRight k, kScandals k, (upd (kWears k) ((xb * (24 : Int32)) + xh).toNatClampNeg ((kWears k) ((xa * (24 : Int32)) + xh).toNatClampNeg)))) := hD
        refine lv_aload_n hx hb dX1_give_65 rfl (lv_at hl 1 rfl) ?_
        refine lv_iload_n hx hb dX1_give_66 rfl (lv_at hl 2 rfl) ?_
        refine lv_iload_n hx hb dX1_give_67 rfl (lv_at hl 4 rfl) ?_
        have hr := mrV (p := p) (e := e) (R := rm_X1_give) (below := below) (meth := meth) (H := H) (locs := locs) (ls := ls) (As := [.int xa, .int xh]) (rest := []) (c_X1_losePair l δ cI cJ cZ aK0 aK1 aK2 aK3 aK4 aK5 (kPresent k, kClock k, kTears k, kSights k, kHoursSeen k, kHoursNotOwned k, (upd (kPairs k) xb.toNatClampNeg (((kPairs k) xb.toNatClampNeg) ||| ((1 : Int32) <<< (xh &&& 31)))), kLeft k, kRight k, kScandals k, (upd (kWears k) ((xb * (24 : Int32)) + xh).toNatClampNeg ((kWears k) ((xa * (24 : Int32)) + xh).toNatClampNeg))) xa xh) hx hb hml hts hown hK hNW hP hD [0, 1, 2, 3, 4, 5] rfl rfl 1 0 rfl rfl (cwV 2 hts gX1_give_X1_losePair rfl rfl rfl (by decide +kernel) ⟨(Nat.le_of_ble_eq_true rfl), (Nat.le_of_ble_eq_true rfl)⟩) rfl hl.1 rfl (Nat.le_of_ble_eq_true rfl) dX1_give_68
        refine mc_v (wr := ([] : va_W)) hr hP hD hS hA [0, 1, 2, 3, 4, 5] [] [0, 1, 2, 3, 4, 5] rfl rfl rfl rfl rfl (wn := fun u_68 => (wK cI aK0 aK1 aK2 aK3 aK4 aK5 u_68)) (fun _ => rfl) (fun u_68 H locs hw_68 hP hD hS => ?_)
        have hP : va_P δ vwCl (wK cI aK0 aK1 aK2 aK3 aK4 aK5 u_68) H := hP
        have hD : va_D A (wK cI aK0 aK1 aK2 aK3 aK4 aK5 u_68) := hD
        have hR := bnd_eq hR hw_68.symm
        refine lv_iload hx hb dX1_give_71 (lv_at hl 0 rfl) ?_
        exact hret _ _ r_4 u_68 _ _ hR hP hD hS dX1_give_73

abbrev rm_X1_whyNoDeed : Room := { frames := 1, cells := 0, slots := 0, locals := 21 }
set_option maxHeartbeats 4000000 in
set_option maxRecDepth 100000 in
theorem c_X1_whyNoDeed (l : Launch) (δ : va_G) (cI cJ cZ : ClassId) (aK0 aK1 aK2 aK3 aK4 aK5 : Nat) (k : KS) (xc : Int32) : mMi l δ (mTy cI cJ cZ) yX1_whyNoDeed wsX1_whyNoDeed rm_X1_whyNoDeed [.ref aK0, .int xc] (wK cI aK0 aK1 aK2 aK3 aK4 aK5 k) (S := Unit) (fun r _ => F_X1_whyNoDeed k xc = r) (fun _ => (wK cI aK0 aK1 aK2 aK3 aK4 aK5 k)) := by
  refine mk_i (cc := cX1_whyNoDeed) (maxL := 2) (by decide) rfl (Nat.le_of_ble_eq_true rfl) ?_
  intro p e s m args below meth c A Q ls H locs hx hb hml hts hown hK hNW hA hP hD hS hl hret
  have hown : s.vm.findClass RX1 = some m.cls := hown
  have hl : lv_has ls 2 [(0, .ref aK0), (1, .int xc)] := hl
  have hinX1 : ∀ w ∈ u_ws RX1 TX1 11, w ∈ wsX1_whyNoDeed := (fun _ h => List.mem_cons_of_mem _ (List.mem_append_right _ (h)))
  have hR := F_X1_whyNoDeed.eq_1 k xc
  refine lv_aload_n hx hb dX1_whyNoDeed_0 rfl (lv_at hl 0 rfl) ?_
  refine lv_iload_n hx hb dX1_whyNoDeed_1 rfl (lv_at hl 1 rfl) ?_
  have hr := mrV (p := p) (e := e) (R := rm_X1_whyNoDeed) (below := below) (meth := meth) (H := H) (locs := locs) (ls := ls) (As := [.int xc]) (rest := []) (c_X1_isThere l δ cI cJ cZ aK0 aK1 aK2 aK3 aK4 aK5 k xc) hx hb hml hts hown hK hNW hP hD [0, 1, 2, 3, 4, 5] rfl rfl 1 0 rfl rfl (cwV 1 hts gX1_whyNoDeed_X1_isThere rfl rfl rfl (by decide +kernel) ⟨(Nat.le_of_ble_eq_true rfl), (Nat.le_of_ble_eq_true rfl)⟩) rfl hl.1 rfl (Nat.le_of_ble_eq_true rfl) dX1_whyNoDeed_2
  refine mc_i (wr := ([] : va_W)) hr hP hD hS hA [0, 1, 2, 3, 4, 5] [] [0, 1, 2, 3, 4, 5] rfl rfl rfl rfl rfl (wn := fun _ => (wK cI aK0 aK1 aK2 aK3 aK4 aK5 k)) (fun _ => rfl) (fun r_2 _ H locs hw_2 hP hD hS => ?_)
  obtain ⟨hw_2, z_2⟩ := hw_2
  have hP : va_P δ vwCl (wK cI aK0 aK1 aK2 aK3 aK4 aK5 k) H := hP
  have hD : va_D A (wK cI aK0 aK1 aK2 aK3 aK4 aK5 k) := hD
  have hR := bnd_eq hR hw_2.symm
  refine lv_if_ne (tgt := 10) hx hb dX1_whyNoDeed_5 (by decide) (fun c_5 => ?_) (fun c_5 => ?_)
  · have c_5 : ¬ (r_2 = 0) := c_5
    have hR := hR.trans (if_neg c_5)
    refine lv_aload_n hx hb dX1_whyNoDeed_10 rfl (lv_at hl 0 rfl) ?_
    refine va_get (D := δ) (ci := 1) (v := .ref aK3) (C := RX1) (T := TX1) (N := 11) hx hb hts hinX1 hown hK hP 0 rfl rfl 8 (by decide) (hts (.fieldLink RX1 22 "GloveHours$Court" "right" "[I") (List.mem_of_getElem? (i := 1) rfl)) (fun _ h9 => h9) rfl dX1_whyNoDeed_11 ?_
    refine lv_iload_n hx hb dX1_whyNoDeed_14 rfl (lv_at hl 1 rfl) ?_
    refine va_iald hx hb hK hP 3 0 rfl rfl (there_in hw_2 c_5) dX1_whyNoDeed_15 ?_
    refine lv_bipush (v := (24 : Int32)) hx hb dX1_whyNoDeed_16 (by decide) ?_
    refine lv_icmp_ne (tgt := 25) hx hb dX1_whyNoDeed_18 (by decide) (fun c_18 => ?_) (fun c_18 => ?_)
    · have c_18 : ¬ (((kRight k) xc.toNatClampNeg) = (24 : Int32)) := c_18
      have hR := hR.trans (if_neg c_18)
      refine lv_iconst (v := (0 : Int32)) hx hb dX1_whyNoDeed_25 (by decide) ?_
      exact hret _ _ (0 : Int32) () _ _ hR hP hD hS dX1_whyNoDeed_26
    · have c_18 : (((kRight k) xc.toNatClampNeg) = (24 : Int32)) := c_18
      have hR := hR.trans (if_pos c_18)
      refine lv_iconst (v := (5 : Int32)) hx hb dX1_whyNoDeed_21 (by decide) ?_
      refine lv_goto (tgt := 26) hx hb dX1_whyNoDeed_22 (by decide) ?_
      exact hret _ _ (5 : Int32) () _ _ hR hP hD hS dX1_whyNoDeed_26
  · have c_5 : (r_2 = 0) := c_5
    have hR := hR.trans (if_pos c_5)
    refine lv_iconst (v := (1 : Int32)) hx hb dX1_whyNoDeed_8 (by decide) ?_
    exact hret _ _ (1 : Int32) () _ _ hR hP hD hS dX1_whyNoDeed_9

abbrev rm_X1_whyNoPromise : Room := { frames := 1, cells := 0, slots := 0, locals := 21 }
set_option maxHeartbeats 4000000 in
set_option maxRecDepth 100000 in
theorem c_X1_whyNoPromise (l : Launch) (δ : va_G) (cI cJ cZ : ClassId) (aK0 aK1 aK2 aK3 aK4 aK5 : Nat) (k : KS) (xa : Int32) (xb : Int32) : mMi l δ (mTy cI cJ cZ) yX1_whyNoPromise wsX1_whyNoPromise rm_X1_whyNoPromise [.ref aK0, .int xa, .int xb] (wK cI aK0 aK1 aK2 aK3 aK4 aK5 k) (S := Unit) (fun r _ => F_X1_whyNoPromise k xa xb = r) (fun _ => (wK cI aK0 aK1 aK2 aK3 aK4 aK5 k)) := by
  refine mk_i (cc := cX1_whyNoPromise) (maxL := 3) (by decide) rfl (Nat.le_of_ble_eq_true rfl) ?_
  intro p e s m args below meth c A Q ls H locs hx hb hml hts hown hK hNW hA hP hD hS hl hret
  have hown : s.vm.findClass RX1 = some m.cls := hown
  have hl : lv_has ls 3 [(0, .ref aK0), (1, .int xa), (2, .int xb)] := hl
  have hinX1 : ∀ w ∈ u_ws RX1 TX1 11, w ∈ wsX1_whyNoPromise := (fun _ h => List.mem_cons_of_mem _ (List.mem_append_right _ (h)))
  have hR := F_X1_whyNoPromise.eq_1 k xa xb
  refine lv_aload_n hx hb dX1_whyNoPromise_0 rfl (lv_at hl 0 rfl) ?_
  refine lv_iload_n hx hb dX1_whyNoPromise_1 rfl (lv_at hl 1 rfl) ?_
  have hr := mrV (p := p) (e := e) (R := rm_X1_whyNoPromise) (below := below) (meth := meth) (H := H) (locs := locs) (ls := ls) (As := [.int xa]) (rest := []) (c_X1_isThere l δ cI cJ cZ aK0 aK1 aK2 aK3 aK4 aK5 k xa) hx hb hml hts hown hK hNW hP hD [0, 1, 2, 3, 4, 5] rfl rfl 1 0 rfl rfl (cwV 1 hts gX1_whyNoPromise_X1_isThere rfl rfl rfl (by decide +kernel) ⟨(Nat.le_of_ble_eq_true rfl), (Nat.le_of_ble_eq_true rfl)⟩) rfl hl.1 rfl (Nat.le_of_ble_eq_true rfl) dX1_whyNoPromise_2
  refine mc_i (wr := ([] : va_W)) hr hP hD hS hA [0, 1, 2, 3, 4, 5] [] [0, 1, 2, 3, 4, 5] rfl rfl rfl rfl rfl (wn := fun _ => (wK cI aK0 aK1 aK2 aK3 aK4 aK5 k)) (fun _ => rfl) (fun r_2 _ H locs hw_2 hP hD hS => ?_)
  obtain ⟨hw_2, z_2⟩ := hw_2
  have hP : va_P δ vwCl (wK cI aK0 aK1 aK2 aK3 aK4 aK5 k) H := hP
  have hD : va_D A (wK cI aK0 aK1 aK2 aK3 aK4 aK5 k) := hD
  have hR := bnd_eq hR hw_2.symm
  refine lv_if_eq (tgt := 16) hx hb dX1_whyNoPromise_5 (by decide) (fun c_5 => ?_) (fun c_5 => ?_)
  · have c_5 : (r_2 = 0) := c_5
    have hR := hR.trans (if_pos c_5)
    refine lv_iconst (v := (1 : Int32)) hx hb dX1_whyNoPromise_16 (by decide) ?_
    exact hret _ _ (1 : Int32) () _ _ hR hP hD hS dX1_whyNoPromise_17
  · have c_5 : ¬ (r_2 = 0) := c_5
    have hR := hR.trans (if_neg c_5)
    refine lv_aload_n hx hb dX1_whyNoPromise_8 rfl (lv_at hl 0 rfl) ?_
    refine lv_iload_n hx hb dX1_whyNoPromise_9 rfl (lv_at hl 2 rfl) ?_
    have hr := mrV (p := p) (e := e) (R := rm_X1_whyNoPromise) (below := below) (meth := meth) (H := H) (locs := locs) (ls := ls) (As := [.int xb]) (rest := []) (c_X1_isThere l δ cI cJ cZ aK0 aK1 aK2 aK3 aK4 aK5 k xb) hx hb hml hts hown hK hNW hP hD [0, 1, 2, 3, 4, 5] rfl rfl 1 0 rfl rfl (cwV 1 hts gX1_whyNoPromise_X1_isThere rfl rfl rfl (by decide +kernel) ⟨(Nat.le_of_ble_eq_true rfl), (Nat.le_of_ble_eq_true rfl)⟩) rfl hl.1 rfl (Nat.le_of_ble_eq_true rfl) dX1_whyNoPromise_10
    refine mc_i (wr := ([] : va_W)) hr hP hD hS hA [0, 1, 2, 3, 4, 5] [] [0, 1, 2, 3, 4, 5] rfl rfl rfl rfl rfl (wn := fun _ => (wK cI aK0 aK1 aK2 aK3 aK4 aK5 k)) (fun _ => rfl) (fun r_10 _ H locs hw_10 hP hD hS => ?_)
    obtain ⟨hw_10, z_10⟩ := hw_10
    have hP : va_P δ vwCl (wK cI aK0 aK1 aK2 aK3 aK4 aK5 k) H := hP
    have hD : va_D A (wK cI aK0 aK1 aK2 aK3 aK4 aK5 k) := hD
    have hR := bnd_eq hR hw_10.symm
    refine lv_if_ne (tgt := 18) hx hb dX1_whyNoPromise_13 (by decide) (fun c_13 => ?_) (fun c_13 => ?_)
    · have c_13 : ¬ (r_10 = 0) := c_13
      have hR := hR.trans (if_neg c_13)
      refine lv_iload_n hx hb dX1_whyNoPromise_18 rfl (lv_at hl 1 rfl) ?_
      refine lv_iload_n hx hb dX1_whyNoPromise_19 rfl (lv_at hl 2 rfl) ?_
      refine lv_icmp_ne (tgt := 25) hx hb dX1_whyNoPromise_20 (by decide) (fun c_20 => ?_) (fun c_20 => ?_)
      · have c_20 : ¬ (xa = xb) := c_20
        have hR := hR.trans (if_neg c_20)
        refine lv_aload_n hx hb dX1_whyNoPromise_25 rfl (lv_at hl 0 rfl) ?_
        refine va_get (D := δ) (ci := 1) (v := .ref aK3) (C := RX1) (T := TX1) (N := 11) hx hb hts hinX1 hown hK hP 0 rfl rfl 8 (by decide) (hts (.fieldLink RX1 22 "GloveHours$Court" "right" "[I") (List.mem_of_getElem? (i := 1) rfl)) (fun _ h9 => h9) rfl dX1_whyNoPromise_26 ?_
        refine lv_iload_n hx hb dX1_whyNoPromise_29 rfl (lv_at hl 1 rfl) ?_
        refine va_iald hx hb hK hP 3 0 rfl rfl (there_in hw_2 c_5) dX1_whyNoPromise_30 ?_
        refine lv_bipush (v := (24 : Int32)) hx hb dX1_whyNoPromise_31 (by decide) ?_
        refine lv_icmp_eq (tgt := 47) hx hb dX1_whyNoPromise_33 (by decide) (fun c_33 => ?_) (fun c_33 => ?_)
        · have c_33 : (((kRight k) xa.toNatClampNeg) = (24 : Int32)) := c_33
          have hR := hR.trans (if_pos c_33)
          refine lv_iconst (v := (5 : Int32)) hx hb dX1_whyNoPromise_47 (by decide) ?_
          exact hret _ _ (5 : Int32) () _ _ hR hP hD hS dX1_whyNoPromise_48
        · have c_33 : ¬ (((kRight k) xa.toNatClampNeg) = (24 : Int32)) := c_33
          have hR := hR.trans (if_neg c_33)
          refine lv_aload_n hx hb dX1_whyNoPromise_36 rfl (lv_at hl 0 rfl) ?_
          refine va_get (D := δ) (ci := 1) (v := .ref aK3) (C := RX1) (T := TX1) (N := 11) hx hb hts hinX1 hown hK hP 0 rfl rfl 8 (by decide) (hts (.fieldLink RX1 22 "GloveHours$Court" "right" "[I") (List.mem_of_getElem? (i := 1) rfl)) (fun _ h9 => h9) rfl dX1_whyNoPromise_37 ?_
          refine lv_iload_n hx hb dX1_whyNoPromise_40 rfl (lv_at hl 2 rfl) ?_
          refine va_iald hx hb hK hP 3 0 rfl rfl (there_in hw_10 c_13) dX1_whyNoPromise_41 ?_
          refine lv_bipush (v := (24 : Int32)) hx hb dX1_whyNoPromise_42 (by decide) ?_
          refine lv_icmp_ne (tgt := 49) hx hb dX1_whyNoPromise_44 (by decide) (fun c_44 => ?_) (fun c_44 => ?_)
          · have c_44 : ¬ (((kRight k) xb.toNatClampNeg) = (24 : Int32)) := c_44
            have hR := hR.trans (if_neg c_44)
            refine lv_aload_n hx hb dX1_whyNoPromise_49 rfl (lv_at hl 0 rfl) ?_
            refine va_get (D := δ) (ci := 1) (v := .ref aK3) (C := RX1) (T := TX1) (N := 11) hx hb hts hinX1 hown hK hP 0 rfl rfl 8 (by decide) (hts (.fieldLink RX1 22 "GloveHours$Court" "right" "[I") (List.mem_of_getElem? (i := 1) rfl)) (fun _ h9 => h9) rfl dX1_whyNoPromise_50 ?_
            refine lv_iload_n hx hb dX1_whyNoPromise_53 rfl (lv_at hl 1 rfl) ?_
            refine va_iald hx hb hK hP 3 0 rfl rfl (there_in hw_2 c_5) dX1_whyNoPromise_54 ?_
            refine lv_aload_n hx hb dX1_whyNoPromise_55 rfl (lv_at hl 0 rfl) ?_
            refine va_get (D := δ) (ci := 1) (v := .ref aK3) (C := RX1) (T := TX1) (N := 11) hx hb hts hinX1 hown hK hP 0 rfl rfl 8 (by decide) (hts (.fieldLink RX1 22 "GloveHours$Court" "right" "[I") (List.mem_of_getElem? (i := 1) rfl)) (fun _ h9 => h9) rfl dX1_whyNoPromise_56 ?_
            refine lv_iload_n hx hb dX1_whyNoPromise_59 rfl (lv_at hl 2 rfl) ?_
            refine va_iald hx hb hK hP 3 0 rfl rfl (there_in hw_10 c_13) dX1_whyNoPromise_60 ?_
            refine lv_icmp_ne (tgt := 68) hx hb dX1_whyNoPromise_61 (by decide) (fun c_61 => ?_) (fun c_61 => ?_)
            · have c_61 : ¬ (((kRight k) xa.toNatClampNeg) = ((kRight k) xb.toNatClampNeg)) := c_61
              have hR := hR.trans (if_neg c_61)
              refine lv_bipush (v := (6 : Int32)) hx hb dX1_whyNoPromise_68 (by decide) ?_
              exact hret _ _ (6 : Int32) () _ _ hR hP hD hS dX1_whyNoPromise_70
            · have c_61 : (((kRight k) xa.toNatClampNeg) = ((kRight k) xb.toNatClampNeg)) := c_61
              have hR := hR.trans (if_pos c_61)
              refine lv_iconst (v := (0 : Int32)) hx hb dX1_whyNoPromise_64 (by decide) ?_
              refine lv_goto (tgt := 70) hx hb dX1_whyNoPromise_65 (by decide) ?_
              exact hret _ _ (0 : Int32) () _ _ hR hP hD hS dX1_whyNoPromise_70
          · have c_44 : (((kRight k) xb.toNatClampNeg) = (24 : Int32)) := c_44
            have hR := hR.trans (if_pos c_44)
            refine lv_iconst (v := (5 : Int32)) hx hb dX1_whyNoPromise_47 (by decide) ?_
            exact hret _ _ (5 : Int32) () _ _ hR hP hD hS dX1_whyNoPromise_48
      · have c_20 : (xa = xb) := c_20
        have hR := hR.trans (if_pos c_20)
        refine lv_iconst (v := (2 : Int32)) hx hb dX1_whyNoPromise_23 (by decide) ?_
        exact hret _ _ (2 : Int32) () _ _ hR hP hD hS dX1_whyNoPromise_24
    · have c_13 : (r_10 = 0) := c_13
      have hR := hR.trans (if_pos c_13)
      refine lv_iconst (v := (1 : Int32)) hx hb dX1_whyNoPromise_16 (by decide) ?_
      exact hret _ _ (1 : Int32) () _ _ hR hP hD hS dX1_whyNoPromise_17

abbrev rm_X1_usePair : Room := { frames := 1, cells := 0, slots := 0, locals := 22 }
set_option maxHeartbeats 4000000 in
set_option maxRecDepth 100000 in
theorem c_X1_usePair (l : Launch) (δ : va_G) (cI cJ cZ : ClassId) (aK0 aK1 aK2 aK3 aK4 aK5 : Nat) (k : KS) (xc : Int32) (xh : Int32) : mMv l δ (mTy cI cJ cZ) yX1_usePair wsX1_usePair rm_X1_usePair [.ref aK0, .int xc, .int xh] (wK cI aK0 aK1 aK2 aK3 aK4 aK5 k) (S := KS) (fun u => F_X1_usePair k xc xh = u) (fun u => (wK cI aK0 aK1 aK2 aK3 aK4 aK5 u)) := by
  refine mk_v (cc := cX1_usePair) (maxL := 4) (by decide) rfl (Nat.le_of_ble_eq_true rfl) ?_
  intro p e s m args below meth c A Q ls H locs hx hb hml hts hown hK hNW hA hP hD hS hl hret
  have hown : s.vm.findClass RX1 = some m.cls := hown
  have hl : lv_has ls 4 [(0, .ref aK0), (1, .int xc), (2, .int xh)] := hl
  have hinX1 : ∀ w ∈ u_ws RX1 TX1 11, w ∈ wsX1_usePair := (fun _ h => List.mem_cons_of_mem _ (List.mem_append_right _ (h)))
  have hR := F_X1_usePair.eq_1 k xc xh
  refine lv_aload_n hx hb dX1_usePair_0 rfl (lv_at hl 0 rfl) ?_
  refine lv_iload_n hx hb dX1_usePair_1 rfl (lv_at hl 1 rfl) ?_
  refine lv_iload_n hx hb dX1_usePair_2 rfl (lv_at hl 2 rfl) ?_
  have hr := mrV (p := p) (e := e) (R := rm_X1_usePair) (below := below) (meth := meth) (H := H) (locs := locs) (ls := ls) (As := [.int xc, .int xh]) (rest := []) (c_X1_owns l δ cI cJ cZ aK0 aK1 aK2 aK3 aK4 aK5 k xc xh) hx hb hml hts hown hK hNW hP hD [0, 1, 2, 3, 4, 5] rfl rfl 1 0 rfl rfl (cwV 2 hts gX1_usePair_X1_owns rfl rfl rfl (by decide +kernel) ⟨(Nat.le_of_ble_eq_true rfl), (Nat.le_of_ble_eq_true rfl)⟩) rfl hl.1 rfl (Nat.le_of_ble_eq_true rfl) dX1_usePair_3
  refine mc_i (wr := ([] : va_W)) hr hP hD hS hA [0, 1, 2, 3, 4, 5] [] [0, 1, 2, 3, 4, 5] rfl rfl rfl rfl rfl (wn := fun _ => (wK cI aK0 aK1 aK2 aK3 aK4 aK5 k)) (fun _ => rfl) (fun r_3 _ H locs hw_3 hP hD hS => ?_)
  obtain ⟨hw_3, z_3⟩ := hw_3
  have hP : va_P δ vwCl (wK cI aK0 aK1 aK2 aK3 aK4 aK5 k) H := hP
  have hD : va_D A (wK cI aK0 aK1 aK2 aK3 aK4 aK5 k) := hD
  have hR := bnd_eq hR hw_3.symm
  refine lv_if_ne (tgt := 10) hx hb dX1_usePair_6 (by decide) (fun c_6 => ?_) (fun c_6 => ?_)
  · have c_6 : ¬ (r_3 = 0) := c_6
    have hR := hR.trans (if_neg c_6)
    refine lv_aload_n hx hb dX1_usePair_10 rfl (lv_at hl 0 rfl) ?_
    refine va_get (D := δ) (ci := 1) (v := .ref aK5) (C := RX1) (T := TX1) (N := 11) hx hb hts hinX1 hown hK hP 0 rfl rfl 10 (by decide) (hts (.fieldLink RX1 28 "GloveHours$Court" "wears" "[I") (List.mem_of_getElem? (i := 1) rfl)) (fun _ h9 => h9) rfl dX1_usePair_11 ?_
    refine lv_iload_n hx hb dX1_usePair_14 rfl (lv_at hl 1 rfl) ?_
    refine lv_bipush (v := (24 : Int32)) hx hb dX1_usePair_15 (by decide) ?_
    refine lv_imul hx hb dX1_usePair_17 ?_
    refine lv_iload_n hx hb dX1_usePair_18 rfl (lv_at hl 2 rfl) ?_
    refine lv_iadd hx hb dX1_usePair_19 ?_
    refine va_iald hx hb hK hP 5 0 rfl rfl (in_144 (own_in hw_3 c_6).1 (own_in hw_3 c_6).2) dX1_usePair_20 ?_
    refine lv_iconst (v := (1 : Int32)) hx hb dX1_usePair_21 (by decide) ?_
    refine lv_iadd hx hb dX1_usePair_22 ?_
    refine lv_istore_n (lv' := [(3, .int (((kWears k) ((xc * (24 : Int32)) + xh).toNatClampNeg) + (1 : Int32))), (0, .ref aK0), (1, .int xc), (2, .int xh)]) hx hb dX1_usePair_23 rfl hl (by decide) rfl (fun ls hl => ?_)
    refine lv_aload_n hx hb dX1_usePair_24 rfl (lv_at hl 1 rfl) ?_
    refine va_get (D := δ) (ci := 1) (v := .ref aK5) (C := RX1) (T := TX1) (N := 11) hx hb hts hinX1 hown hK hP 0 rfl rfl 10 (by decide) (hts (.fieldLink RX1 28 "GloveHours$Court" "wears" "[I") (List.mem_of_getElem? (i := 1) rfl)) (fun _ h9 => h9) rfl dX1_usePair_25 ?_
    refine lv_iload_n hx hb dX1_usePair_28 rfl (lv_at hl 2 rfl) ?_
    refine lv_bipush (v := (24 : Int32)) hx hb dX1_usePair_29 (by decide) ?_
    refine lv_imul hx hb dX1_usePair_31 ?_
    refine lv_iload_n hx hb dX1_usePair_32 rfl (lv_at hl 3 rfl) ?_
    refine lv_iadd hx hb dX1_usePair_33 ?_
    refine lv_iload_n hx hb dX1_usePair_34 rfl (lv_at hl 0 rfl) ?_
    refine va_iast hx hb hK hP hD hS 5 0 rfl rfl (in_144 (own_in hw_3 c_6).1 (own_in hw_3 c_6).2) dX1_usePair_35 (fun H locs hP hD hS => ?_)
    have hP : va_P δ vwCl (wK cI aK0 aK1 aK2 aK3 aK4 aK5 (kPresent k, kClock k, kTears k, kSights k, kHoursSeen k, kHoursNotOwned k, kPairs k, kLeft k, kRight k, kScandals k, (upd (kWears k) ((xc * (24 : Int32)) + xh).toNatClampNeg (((kWears k) ((xc * (24 : Int32)) + xh).toNatClampNeg) + (1 : Int32))))) H := hP
    have hD : va_D A (wK cI aK0 aK1 aK2 aK3 aK4 aK5 (kPresent k, kClock k, kTears k, kSights k, kHoursSeen k, kHoursNotOwned k, kPairs k, kLeft k, kRight k, kScandals k, (upd (kWears k) ((xc * (24 : Int32)) + xh).toNatClampNeg (((kWears k) ((xc * (24 : Int32)) + xh).toNatClampNeg) + (1 : Int32))))) := hD
    refine lv_iload_n hx hb dX1_usePair_36 rfl (lv_at hl 0 rfl) ?_
    refine lv_aload_n hx hb dX1_usePair_37 rfl (lv_at hl 1 rfl) ?_
    refine va_get (D := δ) (ci := 1) (v := .int (kTears k)) (C := RX1) (T := TX1) (N := 11) hx hb hts hinX1 hown hK hP 0 rfl rfl 2 (by decide) (hts (.fieldLink RX1 9 "GloveHours$Court" "tears" "I") (List.mem_of_getElem? (i := 2) rfl)) (fun _ h9 => h9) rfl dX1_usePair_38 ?_
    refine lv_icmp_lt (tgt := 50) hx hb dX1_usePair_41 (by decide) (fun c_41 => ?_) (fun c_41 => ?_)
    · have c_41 : ((((kWears k) ((xc * (24 : Int32)) + xh).toNatClampNeg) + (1 : Int32)) < (kTears k)) := c_41
      have hR := hR.trans (if_pos c_41)
      exact hret _ _ (kPresent k, kClock k, kTears k, kSights k, kHoursSeen k, kHoursNotOwned k, kPairs k, kLeft k, kRight k, kScandals k, (upd (kWears k) ((xc * (24 : Int32)) + xh).toNatClampNeg (((kWears k) ((xc * (24 : Int32)) + xh).toNatClampNeg) + (1 : Int32)))) _ _ hR hP hD hS dX1_usePair_50
    · have c_41 : ¬ ((((kWears k) ((xc * (24 : Int32)) + xh).toNatClampNeg) + (1 : Int32)) < (kTears k)) := c_41
      have hR := hR.trans (if_neg c_41)
      refine lv_aload_n hx hb dX1_usePair_44 rfl (lv_at hl 1 rfl) ?_
      refine lv_iload_n hx hb dX1_usePair_45 rfl (lv_at hl 2 rfl) ?_
      refine lv_iload_n hx hb dX1_usePair_46 rfl (lv_at hl 3 rfl) ?_
      have hr := mrV (p := p) (e := e) (R := rm_X1_usePair) (below := below) (meth := meth) (H := H) (locs := locs) (ls := ls) (As := [.int xc, .int xh]) (rest := []) (c_X1_losePair l δ cI cJ cZ aK0 aK1 aK2 aK3 aK4 aK5 (kPresent k, kClock k, kTears k, kSights k, kHoursSeen k, kHoursNotOwned k, kPairs k, kLeft k, kRight k, kScandals k, (upd (kWears k) ((xc * (24 : Int32)) + xh).toNatClampNeg (((kWears k) ((xc * (24 : Int32)) + xh).toNatClampNeg) + (1 : Int32)))) xc xh) hx hb hml hts hown hK hNW hP hD [0, 1, 2, 3, 4, 5] rfl rfl 1 0 rfl rfl (cwV 2 hts gX1_usePair_X1_losePair rfl rfl rfl (by decide +kernel) ⟨(Nat.le_of_ble_eq_true rfl), (Nat.le_of_ble_eq_true rfl)⟩) rfl hl.1 rfl (Nat.le_of_ble_eq_true rfl) dX1_usePair_47
      refine mc_v (wr := ([] : va_W)) hr hP hD hS hA [0, 1, 2, 3, 4, 5] [] [0, 1, 2, 3, 4, 5] rfl rfl rfl rfl rfl (wn := fun u_47 => (wK cI aK0 aK1 aK2 aK3 aK4 aK5 u_47)) (fun _ => rfl) (fun u_47 H locs hw_47 hP hD hS => ?_)
      have hP : va_P δ vwCl (wK cI aK0 aK1 aK2 aK3 aK4 aK5 u_47) H := hP
      have hD : va_D A (wK cI aK0 aK1 aK2 aK3 aK4 aK5 u_47) := hD
      have hR := bnd_eq hR hw_47.symm
      exact hret _ _ u_47 _ _ hR hP hD hS dX1_usePair_50
  · have c_6 : (r_3 = 0) := c_6
    have hR := hR.trans (if_pos c_6)
    exact hret _ _ k _ _ hR hP hD hS dX1_usePair_9

abbrev rm_X1_scandalsTogether : Room := { frames := 1, cells := 0, slots := 0, locals := 21 }
set_option maxHeartbeats 4000000 in
set_option maxRecDepth 100000 in
theorem c_X1_scandalsTogether (l : Launch) (δ : va_G) (cI cJ cZ : ClassId) (aK0 aK1 aK2 aK3 aK4 aK5 : Nat) (k : KS) : mMi l δ (mTy cI cJ cZ) yX1_scandalsTogether wsX1_scandalsTogether rm_X1_scandalsTogether [.ref aK0] (wK cI aK0 aK1 aK2 aK3 aK4 aK5 k) (S := Unit) (fun r _ => F_X1_scandalsTogether k = r) (fun _ => (wK cI aK0 aK1 aK2 aK3 aK4 aK5 k)) := by
  refine mk_i (cc := cX1_scandalsTogether) (maxL := 3) (by decide) rfl (Nat.le_of_ble_eq_true rfl) ?_
  intro p e s m args below meth c A Q ls H locs hx hb hml hts hown hK hNW hA hP hD hS hl hret
  have hown : s.vm.findClass RX1 = some m.cls := hown
  have hl : lv_has ls 3 [(0, .ref aK0)] := hl
  have hinX1 : ∀ w ∈ u_ws RX1 TX1 11, w ∈ wsX1_scandalsTogether := (fun _ h => List.mem_cons_of_mem _ (List.mem_append_right _ (h)))
  have hR := F_X1_scandalsTogether.eq_1 k
  refine lv_iconst (v := (0 : Int32)) hx hb dX1_scandalsTogether_0 (by decide) ?_
  refine lv_istore_n (lv' := [(1, .int (0 : Int32)), (0, .ref aK0)]) hx hb dX1_scandalsTogether_1 rfl hl (by decide) rfl (fun ls hl => ?_)
  refine lv_iconst (v := (0 : Int32)) hx hb dX1_scandalsTogether_2 (by decide) ?_
  refine lv_istore_n (lv' := [(2, .int (0 : Int32)), (1, .int (0 : Int32)), (0, .ref aK0)]) hx hb dX1_scandalsTogether_3 rfl hl (by decide) rfl (fun ls hl => ?_)
  have hloop_4 : ∀ (n_4 : Nat) (i_4 : Nat) (v1_4 : Int32) (H : Heap) (locs : List Loc) (ls : Array Slot), (hi_4 : i_4 ≤ 6) → (hn_4 : 6 < i_4 + n_4) → (hP : va_P δ vwCl (wK cI aK0 aK1 aK2 aK3 aK4 aK5 k) H) → (hD : va_D A (wK cI aK0 aK1 aK2 aK3 aK4 aK5 k)) → (hS : va_S A s.heap H locs) → (hl : lv_has ls 3 [(2, .int (nI i_4)), (1, .int v1_4), (0, .ref aK0)]) → (kk : ∀ (w_4 : Int32) (H : Heap) (locs : List Loc) (ls : Array Slot), L_X1_scandalsTogether_4 k n_4 i_4 v1_4 = w_4 → va_P δ vwCl (wK cI aK0 aK1 aK2 aK3 aK4 aK5 k) H → va_D A (wK cI aK0 aK1 aK2 aK3 aK4 aK5 k) → va_S A s.heap H locs → lv_has ls 3 [(1, .int w_4), (0, .ref aK0)] → W p l e rm_X1_scandalsTogether s m args below meth c H locs 0 0 Q (F0 m 33 ls [])) → W p l e rm_X1_scandalsTogether s m args below meth c H locs 0 0 Q (F0 m 4 ls []) := by
    intro n_4
    induction n_4 with
    | zero => intro i_4 v1_4 H locs ls hi_4 hn_4 hP hD hS hl kk; exact absurd hn_4 (by omega)
    | succ n_4 ih_4 =>
      intro i_4 v1_4 H locs ls hi_4 hn_4 hP hD hS hl kk
      have hR := L_X1_scandalsTogether_4_s k n_4 i_4 v1_4
      refine lv_iload_n hx hb dX1_scandalsTogether_4 rfl (lv_at hl 0 rfl) ?_
      refine lv_bipush (v := (6 : Int32)) hx hb dX1_scandalsTogether_5 (by decide) ?_
      refine lv_icmp_ge (tgt := 33) hx hb dX1_scandalsTogether_7 (by decide) (fun c_7 => ?_) (fun c_7 => ?_)
      · have c_7 : ((6 : Int32) ≤ (nI i_4)) := c_7
        have hR := hR.trans (if_pos c_7)
        exact kk v1_4 H locs ls hR hP hD hS (lv_sub hl [1, 2] rfl)
      · have c_7 : ¬ ((6 : Int32) ≤ (nI i_4)) := c_7
        have hR := hR.trans (if_neg c_7)
        have hlt_4 : i_4 < 6 := lt_g c_7 hi_4 (by decide)
        refine lv_aload_n hx hb dX1_scandalsTogether_10 rfl (lv_at hl 2 rfl) ?_
        refine lv_iload_n hx hb dX1_scandalsTogether_11 rfl (lv_at hl 0 rfl) ?_
        have hr := mrV (p := p) (e := e) (R := rm_X1_scandalsTogether) (below := below) (meth := meth) (H := H) (locs := locs) (ls := ls) (As := [.int (nI i_4)]) (rest := []) (c_X1_isThere l δ cI cJ cZ aK0 aK1 aK2 aK3 aK4 aK5 k (nI i_4)) hx hb hml hts hown hK hNW hP hD [0, 1, 2, 3, 4, 5] rfl rfl 1 0 rfl rfl (cwV 1 hts gX1_scandalsTogether_X1_isThere rfl rfl rfl (by decide +kernel) ⟨(Nat.le_of_ble_eq_true rfl), (Nat.le_of_ble_eq_true rfl)⟩) rfl hl.1 rfl (Nat.le_of_ble_eq_true rfl) dX1_scandalsTogether_12
        refine mc_i (wr := ([] : va_W)) hr hP hD hS hA [0, 1, 2, 3, 4, 5] [] [0, 1, 2, 3, 4, 5] rfl rfl rfl rfl rfl (wn := fun _ => (wK cI aK0 aK1 aK2 aK3 aK4 aK5 k)) (fun _ => rfl) (fun r_12 _ H locs hw_12 hP hD hS => ?_)
        obtain ⟨hw_12, z_12⟩ := hw_12
        have hP : va_P δ vwCl (wK cI aK0 aK1 aK2 aK3 aK4 aK5 k) H := hP
        have hD : va_D A (wK cI aK0 aK1 aK2 aK3 aK4 aK5 k) := hD
        have hR := bnd_eq hR hw_12.symm
        refine lv_if_eq (tgt := 27) hx hb dX1_scandalsTogether_15 (by decide) (fun c_15 => ?_) (fun c_15 => ?_)
        · have c_15 : (r_12 = 0) := c_15
          have hR := hR.trans (if_pos c_15)
          refine lv_iinc (v := (nI (i_4 + 1))) (lv' := [(2, .int (nI (i_4 + 1))), (1, .int v1_4), (0, .ref aK0)]) hx hb dX1_scandalsTogether_27 hl (k := 0) rfl (nI_1 i_4) (by decide) rfl (fun ls hl => ?_)
          refine lv_goto (tgt := 4) hx hb dX1_scandalsTogether_30 (by decide) ?_
          exact ih_4 (i_4 + 1) v1_4 _ _ _ (by omega) (by omega) hP hD hS (lv_sub hl [0, 1, 2] rfl) (fun w_4 H locs ls he hP hD hS hl => kk w_4 H locs ls (hR.trans he) hP hD hS hl)
        · have c_15 : ¬ (r_12 = 0) := c_15
          have hR := hR.trans (if_neg c_15)
          refine lv_iload_n hx hb dX1_scandalsTogether_18 rfl (lv_at hl 1 rfl) ?_
          refine lv_aload_n hx hb dX1_scandalsTogether_19 rfl (lv_at hl 2 rfl) ?_
          refine va_get (D := δ) (ci := 1) (v := .ref aK4) (C := RX1) (T := TX1) (N := 11) hx hb hts hinX1 hown hK hP 0 rfl rfl 9 (by decide) (hts (.fieldLink RX1 25 "GloveHours$Court" "scandals" "[I") (List.mem_of_getElem? (i := 1) rfl)) (fun _ h9 => h9) rfl dX1_scandalsTogether_20 ?_
          refine lv_iload_n hx hb dX1_scandalsTogether_23 rfl (lv_at hl 0 rfl) ?_
          refine va_iald hx hb hK hP 4 0 rfl rfl (vp_in_nI (by omega) (by decide)) dX1_scandalsTogether_24 ?_
          refine lv_iadd hx hb dX1_scandalsTogether_25 ?_
          refine lv_istore_n (lv' := [(1, .int (v1_4 + ((kScandals k) (nI i_4).toNatClampNeg))), (2, .int (nI i_4)), (0, .ref aK0)]) hx hb dX1_scandalsTogether_26 rfl hl (by decide) rfl (fun ls hl => ?_)
          refine lv_iinc (v := (nI (i_4 + 1))) (lv' := [(2, .int (nI (i_4 + 1))), (1, .int (v1_4 + ((kScandals k) (nI i_4).toNatClampNeg))), (0, .ref aK0)]) hx hb dX1_scandalsTogether_27 hl (k := 1) rfl (nI_1 i_4) (by decide) rfl (fun ls hl => ?_)
          refine lv_goto (tgt := 4) hx hb dX1_scandalsTogether_30 (by decide) ?_
          exact ih_4 (i_4 + 1) (v1_4 + ((kScandals k) (nI i_4).toNatClampNeg)) _ _ _ (by omega) (by omega) hP hD hS (lv_sub hl [0, 1, 2] rfl) (fun w_4 H locs ls he hP hD hS hl => kk w_4 H locs ls (hR.trans he) hP hD hS hl)
  refine hloop_4 (6 + 1) 0 (0 : Int32) _ _ _ (by omega) (by omega) hP hD hS (lv_sub hl [0, 1, 2] rfl) (fun w_4 H locs ls hw_4 hP hD hS hl => ?_)
  have hP : va_P δ vwCl (wK cI aK0 aK1 aK2 aK3 aK4 aK5 k) H := hP
  have hD : va_D A (wK cI aK0 aK1 aK2 aK3 aK4 aK5 k) := hD
  have hR := bnd_eq hR hw_4.symm
  refine lv_iload_n hx hb dX1_scandalsTogether_33 rfl (lv_at hl 0 rfl) ?_
  exact hret _ _ w_4 () _ _ hR hP hD hS dX1_scandalsTogether_34

abbrev rm_X1_addSight : Room := { frames := 0, cells := 0, slots := 0, locals := 0 }
set_option maxHeartbeats 4000000 in
set_option maxRecDepth 100000 in
theorem c_X1_addSight (l : Launch) (δ : va_G) (cI cJ cZ : ClassId) (aK0 aK1 aK2 aK3 aK4 aK5 : Nat) (k : KS) (xh : Int32) (xo : Int32) : mMv l δ (mTy cI cJ cZ) yX1_addSight wsX1_addSight rm_X1_addSight [.ref aK0, .int xh, .int xo] (wK cI aK0 aK1 aK2 aK3 aK4 aK5 k) (S := KS) (fun u => F_X1_addSight k xh xo = u) (fun u => (wK cI aK0 aK1 aK2 aK3 aK4 aK5 u)) := by
  refine mk_v (cc := cX1_addSight) (maxL := 3) (by decide) rfl (Nat.le_of_ble_eq_true rfl) ?_
  intro p e s m args below meth c A Q ls H locs hx hb hml hts hown hK hNW hA hP hD hS hl hret
  have hown : s.vm.findClass RX1 = some m.cls := hown
  have hl : lv_has ls 3 [(0, .ref aK0), (1, .int xh), (2, .int xo)] := hl
  have hinX1 : ∀ w ∈ u_ws RX1 TX1 11, w ∈ wsX1_addSight := (fun _ h => List.mem_cons_of_mem _ (List.mem_append_right _ (h)))
  have hR := F_X1_addSight.eq_1 k xh xo
  refine lv_aload_n hx hb dX1_addSight_0 rfl (lv_at hl 0 rfl) ?_
  refine lv_dup hx hb dX1_addSight_1 rfl ?_
  refine va_get (D := δ) (ci := 1) (v := .int (kSights k)) (C := RX1) (T := TX1) (N := 11) hx hb hts hinX1 hown hK hP 0 rfl rfl 3 (by decide) (hts (.fieldLink RX1 37 "GloveHours$Court" "sights" "I") (List.mem_of_getElem? (i := 1) rfl)) (fun _ h9 => h9) rfl dX1_addSight_2 ?_
  refine lv_iconst (v := (1 : Int32)) hx hb dX1_addSight_5 (by decide) ?_
  refine lv_iadd hx hb dX1_addSight_6 ?_
  refine va_put (D := δ) (ci := 1) (v := .int ((kSights k) + (1 : Int32))) (ty := .int) (C := RX1) (T := TX1) (N := 11) hx hb hts hinX1 tyX1 tyX1_ok nmX1 hown hK hP hD hS 0 rfl rfl 3 (by decide) (hts (.fieldLink RX1 37 "GloveHours$Court" "sights" "I") (List.mem_of_getElem? (i := 1) rfl)) (fun _ h9 => h9) rfl (by decide +kernel) rfl rfl (Nat.le_of_ble_eq_true rfl) dX1_addSight_7 (fun H locs hP hD hS => ?_)
  have hP : va_P δ vwCl (wK cI aK0 aK1 aK2 aK3 aK4 aK5 (kPresent k, kClock k, kTears k, ((kSights k) + (1 : Int32)), kHoursSeen k, kHoursNotOwned k, kPairs k, kLeft k, kRight k, kScandals k, kWears k)) H := hP
  have hD : va_D A (wK cI aK0 aK1 aK2 aK3 aK4 aK5 (kPresent k, kClock k, kTears k, ((kSights k) + (1 : Int32)), kHoursSeen k, kHoursNotOwned k, kPairs k, kLeft k, kRight k, kScandals k, kWears k)) := hD
  refine lv_iload_n hx hb dX1_addSight_10 rfl (lv_at hl 2 rfl) ?_
  refine lv_if_eq (tgt := 29) hx hb dX1_addSight_11 (by decide) (fun c_11 => ?_) (fun c_11 => ?_)
  · have c_11 : (xo = 0) := c_11
    have hR := hR.trans (if_pos c_11)
    refine lv_aload_n hx hb dX1_addSight_29 rfl (lv_at hl 0 rfl) ?_
    refine lv_dup hx hb dX1_addSight_30 rfl ?_
    refine va_get (D := δ) (ci := 1) (v := .int (kHoursNotOwned k)) (C := RX1) (T := TX1) (N := 11) hx hb hts hinX1 hown hK hP 0 rfl rfl 5 (by decide) (hts (.fieldLink RX1 43 "GloveHours$Court" "hoursNotOwned" "I") (List.mem_of_getElem? (i := 3) rfl)) (fun _ h9 => h9) rfl dX1_addSight_31 ?_
    refine lv_iconst (v := (1 : Int32)) hx hb dX1_addSight_34 (by decide) ?_
    refine lv_iload_n hx hb dX1_addSight_35 rfl (lv_at hl 1 rfl) ?_
    refine lv_ishl hx hb dX1_addSight_36 ?_
    refine lv_ior hx hb dX1_addSight_37 ?_
    refine va_put (D := δ) (ci := 1) (v := .int ((kHoursNotOwned k) ||| ((1 : Int32) <<< (xh &&& 31)))) (ty := .int) (C := RX1) (T := TX1) (N := 11) hx hb hts hinX1 tyX1 tyX1_ok nmX1 hown hK hP hD hS 0 rfl rfl 5 (by decide) (hts (.fieldLink RX1 43 "GloveHours$Court" "hoursNotOwned" "I") (List.mem_of_getElem? (i := 3) rfl)) (fun _ h9 => h9) rfl (by decide +kernel) rfl rfl (Nat.le_of_ble_eq_true rfl) dX1_addSight_38 (fun H locs hP hD hS => ?_)
    have hP : va_P δ vwCl (wK cI aK0 aK1 aK2 aK3 aK4 aK5 (kPresent k, kClock k, kTears k, ((kSights k) + (1 : Int32)), kHoursSeen k, ((kHoursNotOwned k) ||| ((1 : Int32) <<< (xh &&& 31))), kPairs k, kLeft k, kRight k, kScandals k, kWears k)) H := hP
    have hD : va_D A (wK cI aK0 aK1 aK2 aK3 aK4 aK5 (kPresent k, kClock k, kTears k, ((kSights k) + (1 : Int32)), kHoursSeen k, ((kHoursNotOwned k) ||| ((1 : Int32) <<< (xh &&& 31))), kPairs k, kLeft k, kRight k, kScandals k, kWears k)) := hD
    exact hret _ _ (kPresent k, kClock k, kTears k, ((kSights k) + (1 : Int32)), kHoursSeen k, ((kHoursNotOwned k) ||| ((1 : Int32) <<< (xh &&& 31))), kPairs k, kLeft k, kRight k, kScandals k, kWears k) _ _ hR hP hD hS dX1_addSight_41
  · have c_11 : ¬ (xo = 0) := c_11
    have hR := hR.trans (if_neg c_11)
    refine lv_aload_n hx hb dX1_addSight_14 rfl (lv_at hl 0 rfl) ?_
    refine lv_dup hx hb dX1_addSight_15 rfl ?_
    refine va_get (D := δ) (ci := 1) (v := .int (kHoursSeen k)) (C := RX1) (T := TX1) (N := 11) hx hb hts hinX1 hown hK hP 0 rfl rfl 4 (by decide) (hts (.fieldLink RX1 40 "GloveHours$Court" "hoursSeen" "I") (List.mem_of_getElem? (i := 2) rfl)) (fun _ h9 => h9) rfl dX1_addSight_16 ?_
    refine lv_iconst (v := (1 : Int32)) hx hb dX1_addSight_19 (by decide) ?_
    refine lv_iload_n hx hb dX1_addSight_20 rfl (lv_at hl 1 rfl) ?_
    refine lv_ishl hx hb dX1_addSight_21 ?_
    refine lv_ior hx hb dX1_addSight_22 ?_
    refine va_put (D := δ) (ci := 1) (v := .int ((kHoursSeen k) ||| ((1 : Int32) <<< (xh &&& 31)))) (ty := .int) (C := RX1) (T := TX1) (N := 11) hx hb hts hinX1 tyX1 tyX1_ok nmX1 hown hK hP hD hS 0 rfl rfl 4 (by decide) (hts (.fieldLink RX1 40 "GloveHours$Court" "hoursSeen" "I") (List.mem_of_getElem? (i := 2) rfl)) (fun _ h9 => h9) rfl (by decide +kernel) rfl rfl (Nat.le_of_ble_eq_true rfl) dX1_addSight_23 (fun H locs hP hD hS => ?_)
    have hP : va_P δ vwCl (wK cI aK0 aK1 aK2 aK3 aK4 aK5 (kPresent k, kClock k, kTears k, ((kSights k) + (1 : Int32)), ((kHoursSeen k) ||| ((1 : Int32) <<< (xh &&& 31))), kHoursNotOwned k, kPairs k, kLeft k, kRight k, kScandals k, kWears k)) H := hP
    have hD : va_D A (wK cI aK0 aK1 aK2 aK3 aK4 aK5 (kPresent k, kClock k, kTears k, ((kSights k) + (1 : Int32)), ((kHoursSeen k) ||| ((1 : Int32) <<< (xh &&& 31))), kHoursNotOwned k, kPairs k, kLeft k, kRight k, kScandals k, kWears k)) := hD
    refine lv_goto (tgt := 41) hx hb dX1_addSight_26 (by decide) ?_
    exact hret _ _ (kPresent k, kClock k, kTears k, ((kSights k) + (1 : Int32)), ((kHoursSeen k) ||| ((1 : Int32) <<< (xh &&& 31))), kHoursNotOwned k, kPairs k, kLeft k, kRight k, kScandals k, kWears k) _ _ hR hP hD hS dX1_addSight_41

abbrev rm_X1_dropSights : Room := { frames := 0, cells := 0, slots := 0, locals := 0 }
set_option maxHeartbeats 4000000 in
set_option maxRecDepth 100000 in
theorem c_X1_dropSights (l : Launch) (δ : va_G) (cI cJ cZ : ClassId) (aK0 aK1 aK2 aK3 aK4 aK5 : Nat) (k : KS) : mMi l δ (mTy cI cJ cZ) yX1_dropSights wsX1_dropSights rm_X1_dropSights [.ref aK0] (wK cI aK0 aK1 aK2 aK3 aK4 aK5 k) (S := KS) (fun r u => F_X1_dropSights k = (r, u)) (fun u => (wK cI aK0 aK1 aK2 aK3 aK4 aK5 u)) := by
  refine mk_i (cc := cX1_dropSights) (maxL := 2) (by decide) rfl (Nat.le_of_ble_eq_true rfl) ?_
  intro p e s m args below meth c A Q ls H locs hx hb hml hts hown hK hNW hA hP hD hS hl hret
  have hown : s.vm.findClass RX1 = some m.cls := hown
  have hl : lv_has ls 2 [(0, .ref aK0)] := hl
  have hinX1 : ∀ w ∈ u_ws RX1 TX1 11, w ∈ wsX1_dropSights := (fun _ h => List.mem_cons_of_mem _ (List.mem_append_right _ (h)))
  have hR := F_X1_dropSights.eq_1 k
  refine lv_aload_n hx hb dX1_dropSights_0 rfl (lv_at hl 0 rfl) ?_
  refine va_get (D := δ) (ci := 1) (v := .int (kSights k)) (C := RX1) (T := TX1) (N := 11) hx hb hts hinX1 hown hK hP 0 rfl rfl 3 (by decide) (hts (.fieldLink RX1 37 "GloveHours$Court" "sights" "I") (List.mem_of_getElem? (i := 1) rfl)) (fun _ h9 => h9) rfl dX1_dropSights_1 ?_
  refine lv_istore_n (lv' := [(1, .int (kSights k)), (0, .ref aK0)]) hx hb dX1_dropSights_4 rfl hl (by decide) rfl (fun ls hl => ?_)
  refine lv_aload_n hx hb dX1_dropSights_5 rfl (lv_at hl 1 rfl) ?_
  refine lv_iconst (v := (0 : Int32)) hx hb dX1_dropSights_6 (by decide) ?_
  refine va_put (D := δ) (ci := 1) (v := .int (0 : Int32)) (ty := .int) (C := RX1) (T := TX1) (N := 11) hx hb hts hinX1 tyX1 tyX1_ok nmX1 hown hK hP hD hS 0 rfl rfl 3 (by decide) (hts (.fieldLink RX1 37 "GloveHours$Court" "sights" "I") (List.mem_of_getElem? (i := 1) rfl)) (fun _ h9 => h9) rfl (by decide +kernel) rfl rfl (Nat.le_of_ble_eq_true rfl) dX1_dropSights_7 (fun H locs hP hD hS => ?_)
  have hP : va_P δ vwCl (wK cI aK0 aK1 aK2 aK3 aK4 aK5 (kPresent k, kClock k, kTears k, (0 : Int32), kHoursSeen k, kHoursNotOwned k, kPairs k, kLeft k, kRight k, kScandals k, kWears k)) H := hP
  have hD : va_D A (wK cI aK0 aK1 aK2 aK3 aK4 aK5 (kPresent k, kClock k, kTears k, (0 : Int32), kHoursSeen k, kHoursNotOwned k, kPairs k, kLeft k, kRight k, kScandals k, kWears k)) := hD
  refine lv_aload_n hx hb dX1_dropSights_10 rfl (lv_at hl 1 rfl) ?_
  refine lv_iconst (v := (0 : Int32)) hx hb dX1_dropSights_11 (by decide) ?_
  refine va_put (D := δ) (ci := 1) (v := .int (0 : Int32)) (ty := .int) (C := RX1) (T := TX1) (N := 11) hx hb hts hinX1 tyX1 tyX1_ok nmX1 hown hK hP hD hS 0 rfl rfl 4 (by decide) (hts (.fieldLink RX1 40 "GloveHours$Court" "hoursSeen" "I") (List.mem_of_getElem? (i := 2) rfl)) (fun _ h9 => h9) rfl (by decide +kernel) rfl rfl (Nat.le_of_ble_eq_true rfl) dX1_dropSights_12 (fun H locs hP hD hS => ?_)
  have hP : va_P δ vwCl (wK cI aK0 aK1 aK2 aK3 aK4 aK5 (kPresent k, kClock k, kTears k, (0 : Int32), (0 : Int32), kHoursNotOwned k, kPairs k, kLeft k, kRight k, kScandals k, kWears k)) H := hP
  have hD : va_D A (wK cI aK0 aK1 aK2 aK3 aK4 aK5 (kPresent k, kClock k, kTears k, (0 : Int32), (0 : Int32), kHoursNotOwned k, kPairs k, kLeft k, kRight k, kScandals k, kWears k)) := hD
  refine lv_aload_n hx hb dX1_dropSights_15 rfl (lv_at hl 1 rfl) ?_
  refine lv_iconst (v := (0 : Int32)) hx hb dX1_dropSights_16 (by decide) ?_
  refine va_put (D := δ) (ci := 1) (v := .int (0 : Int32)) (ty := .int) (C := RX1) (T := TX1) (N := 11) hx hb hts hinX1 tyX1 tyX1_ok nmX1 hown hK hP hD hS 0 rfl rfl 5 (by decide) (hts (.fieldLink RX1 43 "GloveHours$Court" "hoursNotOwned" "I") (List.mem_of_getElem? (i := 3) rfl)) (fun _ h9 => h9) rfl (by decide +kernel) rfl rfl (Nat.le_of_ble_eq_true rfl) dX1_dropSights_17 (fun H locs hP hD hS => ?_)
  have hP : va_P δ vwCl (wK cI aK0 aK1 aK2 aK3 aK4 aK5 (kPresent k, kClock k, kTears k, (0 : Int32), (0 : Int32), (0 : Int32), kPairs k, kLeft k, kRight k, kScandals k, kWears k)) H := hP
  have hD : va_D A (wK cI aK0 aK1 aK2 aK3 aK4 aK5 (kPresent k, kClock k, kTears k, (0 : Int32), (0 : Int32), (0 : Int32), kPairs k, kLeft k, kRight k, kScandals k, kWears k)) := hD
  refine lv_iload_n hx hb dX1_dropSights_20 rfl (lv_at hl 0 rfl) ?_
  exact hret _ _ (kSights k) (kPresent k, kClock k, kTears k, (0 : Int32), (0 : Int32), (0 : Int32), kPairs k, kLeft k, kRight k, kScandals k, kWears k) _ _ hR hP hD hS dX1_dropSights_21

abbrev rm_X1_suspects : Room := { frames := 2, cells := 0, slots := 0, locals := 42 }
set_option maxHeartbeats 4000000 in
set_option maxRecDepth 100000 in
theorem c_X1_suspects (l : Launch) (δ : va_G) (cI cJ cZ : ClassId) (aK0 aK1 aK2 aK3 aK4 aK5 : Nat) (k : KS) : mMi l δ (mTy cI cJ cZ) yX1_suspects wsX1_suspects rm_X1_suspects [.ref aK0] (wK cI aK0 aK1 aK2 aK3 aK4 aK5 k) (S := Unit) (fun r _ => F_X1_suspects k = r) (fun _ => (wK cI aK0 aK1 aK2 aK3 aK4 aK5 k)) := by
  refine mk_i (cc := cX1_suspects) (maxL := 4) (by decide) rfl (Nat.le_of_ble_eq_true rfl) ?_
  intro p e s m args below meth c A Q ls H locs hx hb hml hts hown hK hNW hA hP hD hS hl hret
  have hown : s.vm.findClass RX1 = some m.cls := hown
  have hl : lv_has ls 4 [(0, .ref aK0)] := hl
  have hinX1 : ∀ w ∈ u_ws RX1 TX1 11, w ∈ wsX1_suspects := (fun _ h => List.mem_cons_of_mem _ (List.mem_append_right _ (h)))
  have hR := F_X1_suspects.eq_1 k
  refine lv_iconst (v := (0 : Int32)) hx hb dX1_suspects_0 (by decide) ?_
  refine lv_istore_n (lv' := [(1, .int (0 : Int32)), (0, .ref aK0)]) hx hb dX1_suspects_1 rfl hl (by decide) rfl (fun ls hl => ?_)
  refine lv_iconst (v := (0 : Int32)) hx hb dX1_suspects_2 (by decide) ?_
  refine lv_istore_n (lv' := [(2, .int (0 : Int32)), (1, .int (0 : Int32)), (0, .ref aK0)]) hx hb dX1_suspects_3 rfl hl (by decide) rfl (fun ls hl => ?_)
  have hloop_4 : ∀ (n_4 : Nat) (i_4 : Nat) (v1_4 : Int32) (H : Heap) (locs : List Loc) (ls : Array Slot), (hi_4 : i_4 ≤ 6) → (hn_4 : 6 < i_4 + n_4) → (hP : va_P δ vwCl (wK cI aK0 aK1 aK2 aK3 aK4 aK5 k) H) → (hD : va_D A (wK cI aK0 aK1 aK2 aK3 aK4 aK5 k)) → (hS : va_S A s.heap H locs) → (hl : lv_has ls 4 [(2, .int (nI i_4)), (1, .int v1_4), (0, .ref aK0)]) → (kk : ∀ (w_4 : Int32) (H : Heap) (locs : List Loc) (ls : Array Slot), L_X1_suspects_4 k n_4 i_4 v1_4 = w_4 → va_P δ vwCl (wK cI aK0 aK1 aK2 aK3 aK4 aK5 k) H → va_D A (wK cI aK0 aK1 aK2 aK3 aK4 aK5 k) → va_S A s.heap H locs → lv_has ls 4 [(1, .int w_4), (0, .ref aK0)] → W p l e rm_X1_suspects s m args below meth c H locs 0 0 Q (F0 m 56 ls [])) → W p l e rm_X1_suspects s m args below meth c H locs 0 0 Q (F0 m 4 ls []) := by
    intro n_4
    induction n_4 with
    | zero => intro i_4 v1_4 H locs ls hi_4 hn_4 hP hD hS hl kk; exact absurd hn_4 (by omega)
    | succ n_4 ih_4 =>
      intro i_4 v1_4 H locs ls hi_4 hn_4 hP hD hS hl kk
      have hR := L_X1_suspects_4_s k n_4 i_4 v1_4
      refine lv_iload_n hx hb dX1_suspects_4 rfl (lv_at hl 0 rfl) ?_
      refine lv_bipush (v := (6 : Int32)) hx hb dX1_suspects_5 (by decide) ?_
      refine lv_icmp_ge (tgt := 56) hx hb dX1_suspects_7 (by decide) (fun c_7 => ?_) (fun c_7 => ?_)
      · have c_7 : ((6 : Int32) ≤ (nI i_4)) := c_7
        have hR := hR.trans (if_pos c_7)
        exact kk v1_4 H locs ls hR hP hD hS (lv_sub hl [1, 2] rfl)
      · have c_7 : ¬ ((6 : Int32) ≤ (nI i_4)) := c_7
        have hR := hR.trans (if_neg c_7)
        have hlt_4 : i_4 < 6 := lt_g c_7 hi_4 (by decide)
        refine lv_aload_n hx hb dX1_suspects_10 rfl (lv_at hl 2 rfl) ?_
        refine lv_iload_n hx hb dX1_suspects_11 rfl (lv_at hl 0 rfl) ?_
        have hr := mrV (p := p) (e := e) (R := rm_X1_suspects) (below := below) (meth := meth) (H := H) (locs := locs) (ls := ls) (As := [.int (nI i_4)]) (rest := []) (c_X1_pairsOf l δ cI cJ cZ aK0 aK1 aK2 aK3 aK4 aK5 k (nI i_4)) hx hb hml hts hown hK hNW hP hD [0, 1, 2, 3, 4, 5] rfl rfl 1 0 rfl rfl (cwV 1 hts gX1_suspects_X1_pairsOf rfl rfl rfl (by decide +kernel) ⟨(Nat.le_of_ble_eq_true rfl), (Nat.le_of_ble_eq_true rfl)⟩) rfl hl.1 rfl (Nat.le_of_ble_eq_true rfl) dX1_suspects_12
        refine mc_i (wr := ([] : va_W)) hr hP hD hS hA [0, 1, 2, 3, 4, 5] [] [0, 1, 2, 3, 4, 5] rfl rfl rfl rfl rfl (wn := fun _ => (wK cI aK0 aK1 aK2 aK3 aK4 aK5 k)) (fun _ => rfl) (fun r_12 _ H locs hw_12 hP hD hS => ?_)
        have hP : va_P δ vwCl (wK cI aK0 aK1 aK2 aK3 aK4 aK5 k) H := hP
        have hD : va_D A (wK cI aK0 aK1 aK2 aK3 aK4 aK5 k) := hD
        have hR := bnd_eq hR hw_12.symm
        refine lv_istore_n (lv' := [(3, .int r_12), (2, .int (nI i_4)), (1, .int v1_4), (0, .ref aK0)]) hx hb dX1_suspects_15 rfl hl (by decide) rfl (fun ls hl => ?_)
        refine lv_aload_n hx hb dX1_suspects_16 rfl (lv_at hl 3 rfl) ?_
        refine lv_iload_n hx hb dX1_suspects_17 rfl (lv_at hl 1 rfl) ?_
        have hr := mrV (p := p) (e := e) (R := rm_X1_suspects) (below := below) (meth := meth) (H := H) (locs := locs) (ls := ls) (As := [.int (nI i_4)]) (rest := []) (c_X1_isThere l δ cI cJ cZ aK0 aK1 aK2 aK3 aK4 aK5 k (nI i_4)) hx hb hml hts hown hK hNW hP hD [0, 1, 2, 3, 4, 5] rfl rfl 1 0 rfl rfl (cwV 1 hts gX1_suspects_X1_isThere rfl rfl rfl (by decide +kernel) ⟨(Nat.le_of_ble_eq_true rfl), (Nat.le_of_ble_eq_true rfl)⟩) rfl hl.1 rfl (Nat.le_of_ble_eq_true rfl) dX1_suspects_18
        refine mc_i (wr := ([] : va_W)) hr hP hD hS hA [0, 1, 2, 3, 4, 5] [] [0, 1, 2, 3, 4, 5] rfl rfl rfl rfl rfl (wn := fun _ => (wK cI aK0 aK1 aK2 aK3 aK4 aK5 k)) (fun _ => rfl) (fun r_18 _ H locs hw_18 hP hD hS => ?_)
        obtain ⟨hw_18, z_18⟩ := hw_18
        have hP : va_P δ vwCl (wK cI aK0 aK1 aK2 aK3 aK4 aK5 k) H := hP
        have hD : va_D A (wK cI aK0 aK1 aK2 aK3 aK4 aK5 k) := hD
        have hR := bnd_eq hR hw_18.symm
        refine lv_if_eq (tgt := 50) hx hb dX1_suspects_21 (by decide) (fun c_21 => ?_) (fun c_21 => ?_)
        · have c_21 : (r_18 = 0) := c_21
          have hR := hR.trans (if_pos c_21)
          refine lv_iinc (v := (nI (i_4 + 1))) (lv' := [(2, .int (nI (i_4 + 1))), (3, .int r_12), (1, .int v1_4), (0, .ref aK0)]) hx hb dX1_suspects_50 hl (k := 1) rfl (nI_1 i_4) (by decide) rfl (fun ls hl => ?_)
          refine lv_goto (tgt := 4) hx hb dX1_suspects_53 (by decide) ?_
          exact ih_4 (i_4 + 1) v1_4 _ _ _ (by omega) (by omega) hP hD hS (lv_sub hl [0, 2, 3] rfl) (fun w_4 H locs ls he hP hD hS hl => kk w_4 H locs ls (hR.trans he) hP hD hS hl)
        · have c_21 : ¬ (r_18 = 0) := c_21
          have hR := hR.trans (if_neg c_21)
          refine lv_aload_n hx hb dX1_suspects_24 rfl (lv_at hl 3 rfl) ?_
          refine va_get (D := δ) (ci := 1) (v := .int (kHoursSeen k)) (C := RX1) (T := TX1) (N := 11) hx hb hts hinX1 hown hK hP 0 rfl rfl 4 (by decide) (hts (.fieldLink RX1 40 "GloveHours$Court" "hoursSeen" "I") (List.mem_of_getElem? (i := 1) rfl)) (fun _ h9 => h9) rfl dX1_suspects_25 ?_
          refine lv_iload_n hx hb dX1_suspects_28 rfl (lv_at hl 0 rfl) ?_
          refine lv_iconst (v := (-1 : Int32)) hx hb dX1_suspects_29 (by decide) ?_
          refine lv_ixor hx hb dX1_suspects_30 ?_
          refine lv_iand hx hb dX1_suspects_31 ?_
          refine lv_if_ne (tgt := 50) hx hb dX1_suspects_32 (by decide) (fun c_32 => ?_) (fun c_32 => ?_)
          · have c_32 : ¬ (((kHoursSeen k) &&& (r_12 ^^^ (-1 : Int32))) = 0) := c_32
            have hR := hR.trans (if_neg c_32)
            refine lv_iinc (v := (nI (i_4 + 1))) (lv' := [(2, .int (nI (i_4 + 1))), (3, .int r_12), (1, .int v1_4), (0, .ref aK0)]) hx hb dX1_suspects_50 hl (k := 1) rfl (nI_1 i_4) (by decide) rfl (fun ls hl => ?_)
            refine lv_goto (tgt := 4) hx hb dX1_suspects_53 (by decide) ?_
            exact ih_4 (i_4 + 1) v1_4 _ _ _ (by omega) (by omega) hP hD hS (lv_sub hl [0, 2, 3] rfl) (fun w_4 H locs ls he hP hD hS hl => kk w_4 H locs ls (hR.trans he) hP hD hS hl)
          · have c_32 : (((kHoursSeen k) &&& (r_12 ^^^ (-1 : Int32))) = 0) := c_32
            have hR := hR.trans (if_pos c_32)
            refine lv_aload_n hx hb dX1_suspects_35 rfl (lv_at hl 3 rfl) ?_
            refine va_get (D := δ) (ci := 1) (v := .int (kHoursNotOwned k)) (C := RX1) (T := TX1) (N := 11) hx hb hts hinX1 hown hK hP 0 rfl rfl 5 (by decide) (hts (.fieldLink RX1 43 "GloveHours$Court" "hoursNotOwned" "I") (List.mem_of_getElem? (i := 2) rfl)) (fun _ h9 => h9) rfl dX1_suspects_36 ?_
            refine lv_iload_n hx hb dX1_suspects_39 rfl (lv_at hl 0 rfl) ?_
            refine lv_iand hx hb dX1_suspects_40 ?_
            refine lv_if_ne (tgt := 50) hx hb dX1_suspects_41 (by decide) (fun c_41 => ?_) (fun c_41 => ?_)
            · have c_41 : ¬ (((kHoursNotOwned k) &&& r_12) = 0) := c_41
              have hR := hR.trans (if_neg c_41)
              refine lv_iinc (v := (nI (i_4 + 1))) (lv' := [(2, .int (nI (i_4 + 1))), (3, .int r_12), (1, .int v1_4), (0, .ref aK0)]) hx hb dX1_suspects_50 hl (k := 1) rfl (nI_1 i_4) (by decide) rfl (fun ls hl => ?_)
              refine lv_goto (tgt := 4) hx hb dX1_suspects_53 (by decide) ?_
              exact ih_4 (i_4 + 1) v1_4 _ _ _ (by omega) (by omega) hP hD hS (lv_sub hl [0, 2, 3] rfl) (fun w_4 H locs ls he hP hD hS hl => kk w_4 H locs ls (hR.trans he) hP hD hS hl)
            · have c_41 : (((kHoursNotOwned k) &&& r_12) = 0) := c_41
              have hR := hR.trans (if_pos c_41)
              refine lv_iload_n hx hb dX1_suspects_44 rfl (lv_at hl 2 rfl) ?_
              refine lv_iconst (v := (1 : Int32)) hx hb dX1_suspects_45 (by decide) ?_
              refine lv_iload_n hx hb dX1_suspects_46 rfl (lv_at hl 1 rfl) ?_
              refine lv_ishl hx hb dX1_suspects_47 ?_
              refine lv_ior hx hb dX1_suspects_48 ?_
              refine lv_istore_n (lv' := [(1, .int (v1_4 ||| ((1 : Int32) <<< ((nI i_4) &&& 31)))), (3, .int r_12), (2, .int (nI i_4)), (0, .ref aK0)]) hx hb dX1_suspects_49 rfl hl (by decide) rfl (fun ls hl => ?_)
              refine lv_iinc (v := (nI (i_4 + 1))) (lv' := [(2, .int (nI (i_4 + 1))), (1, .int (v1_4 ||| ((1 : Int32) <<< ((nI i_4) &&& 31)))), (3, .int r_12), (0, .ref aK0)]) hx hb dX1_suspects_50 hl (k := 2) rfl (nI_1 i_4) (by decide) rfl (fun ls hl => ?_)
              refine lv_goto (tgt := 4) hx hb dX1_suspects_53 (by decide) ?_
              exact ih_4 (i_4 + 1) (v1_4 ||| ((1 : Int32) <<< ((nI i_4) &&& 31))) _ _ _ (by omega) (by omega) hP hD hS (lv_sub hl [0, 1, 3] rfl) (fun w_4 H locs ls he hP hD hS hl => kk w_4 H locs ls (hR.trans he) hP hD hS hl)
  refine hloop_4 (6 + 1) 0 (0 : Int32) _ _ _ (by omega) (by omega) hP hD hS (lv_sub hl [0, 1, 2] rfl) (fun w_4 H locs ls hw_4 hP hD hS hl => ?_)
  have hP : va_P δ vwCl (wK cI aK0 aK1 aK2 aK3 aK4 aK5 k) H := hP
  have hD : va_D A (wK cI aK0 aK1 aK2 aK3 aK4 aK5 k) := hD
  have hR := bnd_eq hR hw_4.symm
  refine lv_iload_n hx hb dX1_suspects_56 rfl (lv_at hl 0 rfl) ?_
  exact hret _ _ w_4 () _ _ hR hP hD hS dX1_suspects_57

abbrev rm_X1_copyFrom : Room := { frames := 1, cells := 0, slots := 0, locals := 48 }
set_option maxHeartbeats 4000000 in
set_option maxRecDepth 100000 in
theorem c_X1_copyFrom (l : Launch) (δ : va_G) (cI cJ cZ : ClassId) (aK0 aK1 aK2 aK3 aK4 aK5 aJ0 aJ1 aJ2 aJ3 aJ4 aJ5 : Nat) (k : KS) (kJ : KS) : mMv l δ (mTy cI cJ cZ) yX1_copyFrom wsX1_copyFrom rm_X1_copyFrom [.ref aK0, .ref aJ0] ((wK cI aK0 aK1 aK2 aK3 aK4 aK5 k) ++ (wK cI aJ0 aJ1 aJ2 aJ3 aJ4 aJ5 kJ)) (S := KS) (fun u => F_X1_copyFrom k kJ = u) (fun u => ((wK cI aK0 aK1 aK2 aK3 aK4 aK5 u) ++ (wK cI aJ0 aJ1 aJ2 aJ3 aJ4 aJ5 kJ))) := by
  refine mk_v (cc := cX1_copyFrom) (maxL := 2) (by decide) rfl (Nat.le_of_ble_eq_true rfl) ?_
  intro p e s m args below meth c A Q ls H locs hx hb hml hts hown hK hNW hA hP hD hS hl hret
  have hown : s.vm.findClass RX1 = some m.cls := hown
  have hl : lv_has ls 2 [(0, .ref aK0), (1, .ref aJ0)] := hl
  have hinX1 : ∀ w ∈ u_ws RX1 TX1 11, w ∈ wsX1_copyFrom := (fun _ h => List.mem_cons_of_mem _ (List.mem_append_right _ (h)))
  have hR := F_X1_copyFrom.eq_1 k kJ
  refine lv_aload_n hx hb dX1_copyFrom_0 rfl (lv_at hl 0 rfl) ?_
  refine lv_aload_n hx hb dX1_copyFrom_1 rfl (lv_at hl 1 rfl) ?_
  refine va_get (D := δ) (ci := 1) (v := .int (kPresent kJ)) (C := RX1) (T := TX1) (N := 11) hx hb hts hinX1 hown hK hP 6 rfl rfl 0 (by decide) (hts (.fieldLink RX1 31 "GloveHours$Court" "present" "I") (List.mem_of_getElem? (i := 1) rfl)) (fun _ h9 => h9) rfl dX1_copyFrom_2 ?_
  refine va_put (D := δ) (ci := 1) (v := .int (kPresent kJ)) (ty := .int) (C := RX1) (T := TX1) (N := 11) hx hb hts hinX1 tyX1 tyX1_ok nmX1 hown hK hP hD hS 0 rfl rfl 0 (by decide) (hts (.fieldLink RX1 31 "GloveHours$Court" "present" "I") (List.mem_of_getElem? (i := 1) rfl)) (fun _ h9 => h9) rfl (by decide +kernel) rfl rfl (Nat.le_of_ble_eq_true rfl) dX1_copyFrom_5 (fun H locs hP hD hS => ?_)
  have hP : va_P δ vwCl ((wK cI aK0 aK1 aK2 aK3 aK4 aK5 ((kPresent kJ), kClock k, kTears k, kSights k, kHoursSeen k, kHoursNotOwned k, kPairs k, kLeft k, kRight k, kScandals k, kWears k)) ++ (wK cI aJ0 aJ1 aJ2 aJ3 aJ4 aJ5 kJ)) H := hP
  have hD : va_D A ((wK cI aK0 aK1 aK2 aK3 aK4 aK5 ((kPresent kJ), kClock k, kTears k, kSights k, kHoursSeen k, kHoursNotOwned k, kPairs k, kLeft k, kRight k, kScandals k, kWears k)) ++ (wK cI aJ0 aJ1 aJ2 aJ3 aJ4 aJ5 kJ)) := hD
  refine lv_aload_n hx hb dX1_copyFrom_8 rfl (lv_at hl 0 rfl) ?_
  refine lv_aload_n hx hb dX1_copyFrom_9 rfl (lv_at hl 1 rfl) ?_
  refine va_get (D := δ) (ci := 1) (v := .int (kClock kJ)) (C := RX1) (T := TX1) (N := 11) hx hb hts hinX1 hown hK hP 6 rfl rfl 1 (by decide) (hts (.fieldLink RX1 34 "GloveHours$Court" "clock" "I") (List.mem_of_getElem? (i := 2) rfl)) (fun _ h9 => h9) rfl dX1_copyFrom_10 ?_
  refine va_put (D := δ) (ci := 1) (v := .int (kClock kJ)) (ty := .int) (C := RX1) (T := TX1) (N := 11) hx hb hts hinX1 tyX1 tyX1_ok nmX1 hown hK hP hD hS 0 rfl rfl 1 (by decide) (hts (.fieldLink RX1 34 "GloveHours$Court" "clock" "I") (List.mem_of_getElem? (i := 2) rfl)) (fun _ h9 => h9) rfl (by decide +kernel) rfl rfl (Nat.le_of_ble_eq_true rfl) dX1_copyFrom_13 (fun H locs hP hD hS => ?_)
  have hP : va_P δ vwCl ((wK cI aK0 aK1 aK2 aK3 aK4 aK5 ((kPresent kJ), (kClock kJ), kTears k, kSights k, kHoursSeen k, kHoursNotOwned k, kPairs k, kLeft k, kRight k, kScandals k, kWears k)) ++ (wK cI aJ0 aJ1 aJ2 aJ3 aJ4 aJ5 kJ)) H := hP
  have hD : va_D A ((wK cI aK0 aK1 aK2 aK3 aK4 aK5 ((kPresent kJ), (kClock kJ), kTears k, kSights k, kHoursSeen k, kHoursNotOwned k, kPairs k, kLeft k, kRight k, kScandals k, kWears k)) ++ (wK cI aJ0 aJ1 aJ2 aJ3 aJ4 aJ5 kJ)) := hD
  refine lv_aload_n hx hb dX1_copyFrom_16 rfl (lv_at hl 0 rfl) ?_
  refine lv_aload_n hx hb dX1_copyFrom_17 rfl (lv_at hl 1 rfl) ?_
  refine va_get (D := δ) (ci := 1) (v := .int (kTears kJ)) (C := RX1) (T := TX1) (N := 11) hx hb hts hinX1 hown hK hP 6 rfl rfl 2 (by decide) (hts (.fieldLink RX1 9 "GloveHours$Court" "tears" "I") (List.mem_of_getElem? (i := 3) rfl)) (fun _ h9 => h9) rfl dX1_copyFrom_18 ?_
  refine va_put (D := δ) (ci := 1) (v := .int (kTears kJ)) (ty := .int) (C := RX1) (T := TX1) (N := 11) hx hb hts hinX1 tyX1 tyX1_ok nmX1 hown hK hP hD hS 0 rfl rfl 2 (by decide) (hts (.fieldLink RX1 9 "GloveHours$Court" "tears" "I") (List.mem_of_getElem? (i := 3) rfl)) (fun _ h9 => h9) rfl (by decide +kernel) rfl rfl (Nat.le_of_ble_eq_true rfl) dX1_copyFrom_21 (fun H locs hP hD hS => ?_)
  have hP : va_P δ vwCl ((wK cI aK0 aK1 aK2 aK3 aK4 aK5 ((kPresent kJ), (kClock kJ), (kTears kJ), kSights k, kHoursSeen k, kHoursNotOwned k, kPairs k, kLeft k, kRight k, kScandals k, kWears k)) ++ (wK cI aJ0 aJ1 aJ2 aJ3 aJ4 aJ5 kJ)) H := hP
  have hD : va_D A ((wK cI aK0 aK1 aK2 aK3 aK4 aK5 ((kPresent kJ), (kClock kJ), (kTears kJ), kSights k, kHoursSeen k, kHoursNotOwned k, kPairs k, kLeft k, kRight k, kScandals k, kWears k)) ++ (wK cI aJ0 aJ1 aJ2 aJ3 aJ4 aJ5 kJ)) := hD
  refine lv_aload_n hx hb dX1_copyFrom_24 rfl (lv_at hl 0 rfl) ?_
  refine lv_aload_n hx hb dX1_copyFrom_25 rfl (lv_at hl 1 rfl) ?_
  refine va_get (D := δ) (ci := 1) (v := .int (kSights kJ)) (C := RX1) (T := TX1) (N := 11) hx hb hts hinX1 hown hK hP 6 rfl rfl 3 (by decide) (hts (.fieldLink RX1 37 "GloveHours$Court" "sights" "I") (List.mem_of_getElem? (i := 4) rfl)) (fun _ h9 => h9) rfl dX1_copyFrom_26 ?_
  refine va_put (D := δ) (ci := 1) (v := .int (kSights kJ)) (ty := .int) (C := RX1) (T := TX1) (N := 11) hx hb hts hinX1 tyX1 tyX1_ok nmX1 hown hK hP hD hS 0 rfl rfl 3 (by decide) (hts (.fieldLink RX1 37 "GloveHours$Court" "sights" "I") (List.mem_of_getElem? (i := 4) rfl)) (fun _ h9 => h9) rfl (by decide +kernel) rfl rfl (Nat.le_of_ble_eq_true rfl) dX1_copyFrom_29 (fun H locs hP hD hS => ?_)
  have hP : va_P δ vwCl ((wK cI aK0 aK1 aK2 aK3 aK4 aK5 ((kPresent kJ), (kClock kJ), (kTears kJ), (kSights kJ), kHoursSeen k, kHoursNotOwned k, kPairs k, kLeft k, kRight k, kScandals k, kWears k)) ++ (wK cI aJ0 aJ1 aJ2 aJ3 aJ4 aJ5 kJ)) H := hP
  have hD : va_D A ((wK cI aK0 aK1 aK2 aK3 aK4 aK5 ((kPresent kJ), (kClock kJ), (kTears kJ), (kSights kJ), kHoursSeen k, kHoursNotOwned k, kPairs k, kLeft k, kRight k, kScandals k, kWears k)) ++ (wK cI aJ0 aJ1 aJ2 aJ3 aJ4 aJ5 kJ)) := hD
  refine lv_aload_n hx hb dX1_copyFrom_32 rfl (lv_at hl 0 rfl) ?_
  refine lv_aload_n hx hb dX1_copyFrom_33 rfl (lv_at hl 1 rfl) ?_
  refine va_get (D := δ) (ci := 1) (v := .int (kHoursSeen kJ)) (C := RX1) (T := TX1) (N := 11) hx hb hts hinX1 hown hK hP 6 rfl rfl 4 (by decide) (hts (.fieldLink RX1 40 "GloveHours$Court" "hoursSeen" "I") (List.mem_of_getElem? (i := 5) rfl)) (fun _ h9 => h9) rfl dX1_copyFrom_34 ?_
  refine va_put (D := δ) (ci := 1) (v := .int (kHoursSeen kJ)) (ty := .int) (C := RX1) (T := TX1) (N := 11) hx hb hts hinX1 tyX1 tyX1_ok nmX1 hown hK hP hD hS 0 rfl rfl 4 (by decide) (hts (.fieldLink RX1 40 "GloveHours$Court" "hoursSeen" "I") (List.mem_of_getElem? (i := 5) rfl)) (fun _ h9 => h9) rfl (by decide +kernel) rfl rfl (Nat.le_of_ble_eq_true rfl) dX1_copyFrom_37 (fun H locs hP hD hS => ?_)
  have hP : va_P δ vwCl ((wK cI aK0 aK1 aK2 aK3 aK4 aK5 ((kPresent kJ), (kClock kJ), (kTears kJ), (kSights kJ), (kHoursSeen kJ), kHoursNotOwned k, kPairs k, kLeft k, kRight k, kScandals k, kWears k)) ++ (wK cI aJ0 aJ1 aJ2 aJ3 aJ4 aJ5 kJ)) H := hP
  have hD : va_D A ((wK cI aK0 aK1 aK2 aK3 aK4 aK5 ((kPresent kJ), (kClock kJ), (kTears kJ), (kSights kJ), (kHoursSeen kJ), kHoursNotOwned k, kPairs k, kLeft k, kRight k, kScandals k, kWears k)) ++ (wK cI aJ0 aJ1 aJ2 aJ3 aJ4 aJ5 kJ)) := hD
  refine lv_aload_n hx hb dX1_copyFrom_40 rfl (lv_at hl 0 rfl) ?_
  refine lv_aload_n hx hb dX1_copyFrom_41 rfl (lv_at hl 1 rfl) ?_
  refine va_get (D := δ) (ci := 1) (v := .int (kHoursNotOwned kJ)) (C := RX1) (T := TX1) (N := 11) hx hb hts hinX1 hown hK hP 6 rfl rfl 5 (by decide) (hts (.fieldLink RX1 43 "GloveHours$Court" "hoursNotOwned" "I") (List.mem_of_getElem? (i := 6) rfl)) (fun _ h9 => h9) rfl dX1_copyFrom_42 ?_
  refine va_put (D := δ) (ci := 1) (v := .int (kHoursNotOwned kJ)) (ty := .int) (C := RX1) (T := TX1) (N := 11) hx hb hts hinX1 tyX1 tyX1_ok nmX1 hown hK hP hD hS 0 rfl rfl 5 (by decide) (hts (.fieldLink RX1 43 "GloveHours$Court" "hoursNotOwned" "I") (List.mem_of_getElem? (i := 6) rfl)) (fun _ h9 => h9) rfl (by decide +kernel) rfl rfl (Nat.le_of_ble_eq_true rfl) dX1_copyFrom_45 (fun H locs hP hD hS => ?_)
  have hP : va_P δ vwCl ((wK cI aK0 aK1 aK2 aK3 aK4 aK5 ((kPresent kJ), (kClock kJ), (kTears kJ), (kSights kJ), (kHoursSeen kJ), (kHoursNotOwned kJ), kPairs k, kLeft k, kRight k, kScandals k, kWears k)) ++ (wK cI aJ0 aJ1 aJ2 aJ3 aJ4 aJ5 kJ)) H := hP
  have hD : va_D A ((wK cI aK0 aK1 aK2 aK3 aK4 aK5 ((kPresent kJ), (kClock kJ), (kTears kJ), (kSights kJ), (kHoursSeen kJ), (kHoursNotOwned kJ), kPairs k, kLeft k, kRight k, kScandals k, kWears k)) ++ (wK cI aJ0 aJ1 aJ2 aJ3 aJ4 aJ5 kJ)) := hD
  refine lv_aload_n hx hb dX1_copyFrom_48 rfl (lv_at hl 1 rfl) ?_
  refine va_get (D := δ) (ci := 1) (v := .ref aJ1) (C := RX1) (T := TX1) (N := 11) hx hb hts hinX1 hown hK hP 6 rfl rfl 6 (by decide) (hts (.fieldLink RX1 15 "GloveHours$Court" "pairs" "[I") (List.mem_of_getElem? (i := 7) rfl)) (fun _ h9 => h9) rfl dX1_copyFrom_49 ?_
  refine lv_iconst (v := (0 : Int32)) hx hb dX1_copyFrom_52 (by decide) ?_
  refine lv_aload_n hx hb dX1_copyFrom_53 rfl (lv_at hl 0 rfl) ?_
  refine va_get (D := δ) (ci := 1) (v := .ref aK1) (C := RX1) (T := TX1) (N := 11) hx hb hts hinX1 hown hK hP 0 rfl rfl 6 (by decide) (hts (.fieldLink RX1 15 "GloveHours$Court" "pairs" "[I") (List.mem_of_getElem? (i := 7) rfl)) (fun _ h9 => h9) rfl dX1_copyFrom_54 ?_
  refine lv_iconst (v := (0 : Int32)) hx hb dX1_copyFrom_57 (by decide) ?_
  refine lv_bipush (v := (6 : Int32)) hx hb dX1_copyFrom_58 (by decide) ?_
  refine va_copyi hx hb (hml.trans hl.1.symm) hown (hts (.methodLink RX1 46 arraycopyName) (List.mem_of_getElem? (i := 8) rfl)) (hts (.native arraycopyName) (List.mem_of_getElem? (i := 9) rfl)) (hts (.static arraycopyName) (List.mem_of_getElem? (i := 10) rfl)) (hts (.initialized "java/lang/System") (List.mem_of_getElem? (i := 11) rfl)) hK hP hD hS 7 1 0 0 rfl rfl rfl rfl rfl (by decide) (by decide) (by decide) (by decide) (by decide) (fun _ _ => rfl) (Nat.le_of_ble_eq_true rfl) (Nat.le_of_ble_eq_true rfl) dX1_copyFrom_60 (fun H locs hP hD hS => ?_)
  have hP : va_P δ vwCl ((wK cI aK0 aK1 aK2 aK3 aK4 aK5 ((kPresent kJ), (kClock kJ), (kTears kJ), (kSights kJ), (kHoursSeen kJ), (kHoursNotOwned kJ), (va_cpy (kPairs kJ) (kPairs k) (0 : Int32).toNatClampNeg (0 : Int32).toNatClampNeg (6 : Int32).toNatClampNeg), kLeft k, kRight k, kScandals k, kWears k)) ++ (wK cI aJ0 aJ1 aJ2 aJ3 aJ4 aJ5 kJ)) H := hP
  have hD : va_D A ((wK cI aK0 aK1 aK2 aK3 aK4 aK5 ((kPresent kJ), (kClock kJ), (kTears kJ), (kSights kJ), (kHoursSeen kJ), (kHoursNotOwned kJ), (va_cpy (kPairs kJ) (kPairs k) (0 : Int32).toNatClampNeg (0 : Int32).toNatClampNeg (6 : Int32).toNatClampNeg), kLeft k, kRight k, kScandals k, kWears k)) ++ (wK cI aJ0 aJ1 aJ2 aJ3 aJ4 aJ5 kJ)) := hD
  refine lv_aload_n hx hb dX1_copyFrom_63 rfl (lv_at hl 1 rfl) ?_
  refine va_get (D := δ) (ci := 1) (v := .ref aJ2) (C := RX1) (T := TX1) (N := 11) hx hb hts hinX1 hown hK hP 6 rfl rfl 7 (by decide) (hts (.fieldLink RX1 19 "GloveHours$Court" "left" "[I") (List.mem_of_getElem? (i := 12) rfl)) (fun _ h9 => h9) rfl dX1_copyFrom_64 ?_
  refine lv_iconst (v := (0 : Int32)) hx hb dX1_copyFrom_67 (by decide) ?_
  refine lv_aload_n hx hb dX1_copyFrom_68 rfl (lv_at hl 0 rfl) ?_
  refine va_get (D := δ) (ci := 1) (v := .ref aK2) (C := RX1) (T := TX1) (N := 11) hx hb hts hinX1 hown hK hP 0 rfl rfl 7 (by decide) (hts (.fieldLink RX1 19 "GloveHours$Court" "left" "[I") (List.mem_of_getElem? (i := 12) rfl)) (fun _ h9 => h9) rfl dX1_copyFrom_69 ?_
  refine lv_iconst (v := (0 : Int32)) hx hb dX1_copyFrom_72 (by decide) ?_
  refine lv_bipush (v := (6 : Int32)) hx hb dX1_copyFrom_73 (by decide) ?_
  refine va_copyi hx hb (hml.trans hl.1.symm) hown (hts (.methodLink RX1 46 arraycopyName) (List.mem_of_getElem? (i := 8) rfl)) (hts (.native arraycopyName) (List.mem_of_getElem? (i := 9) rfl)) (hts (.static arraycopyName) (List.mem_of_getElem? (i := 10) rfl)) (hts (.initialized "java/lang/System") (List.mem_of_getElem? (i := 11) rfl)) hK hP hD hS 8 2 0 0 rfl rfl rfl rfl rfl (by decide) (by decide) (by decide) (by decide) (by decide) (fun _ _ => rfl) (Nat.le_of_ble_eq_true rfl) (Nat.le_of_ble_eq_true rfl) dX1_copyFrom_75 (fun H locs hP hD hS => ?_)
  have hP : va_P δ vwCl ((wK cI aK0 aK1 aK2 aK3 aK4 aK5 ((kPresent kJ), (kClock kJ), (kTears kJ), (kSights kJ), (kHoursSeen kJ), (kHoursNotOwned kJ), (va_cpy (kPairs kJ) (kPairs k) (0 : Int32).toNatClampNeg (0 : Int32).toNatClampNeg (6 : Int32).toNatClampNeg), (va_cpy (kLeft kJ) (kLeft k) (0 : Int32).toNatClampNeg (0 : Int32).toNatClampNeg (6 : Int32).toNatClampNeg), kRight k, kScandals k, kWears k)) ++ (wK cI aJ0 aJ1 aJ2 aJ3 aJ4 aJ5 kJ)) H := hP
  have hD : va_D A ((wK cI aK0 aK1 aK2 aK3 aK4 aK5 ((kPresent kJ), (kClock kJ), (kTears kJ), (kSights kJ), (kHoursSeen kJ), (kHoursNotOwned kJ), (va_cpy (kPairs kJ) (kPairs k) (0 : Int32).toNatClampNeg (0 : Int32).toNatClampNeg (6 : Int32).toNatClampNeg), (va_cpy (kLeft kJ) (kLeft k) (0 : Int32).toNatClampNeg (0 : Int32).toNatClampNeg (6 : Int32).toNatClampNeg), kRight k, kScandals k, kWears k)) ++ (wK cI aJ0 aJ1 aJ2 aJ3 aJ4 aJ5 kJ)) := hD
  refine lv_aload_n hx hb dX1_copyFrom_78 rfl (lv_at hl 1 rfl) ?_
  refine va_get (D := δ) (ci := 1) (v := .ref aJ3) (C := RX1) (T := TX1) (N := 11) hx hb hts hinX1 hown hK hP 6 rfl rfl 8 (by decide) (hts (.fieldLink RX1 22 "GloveHours$Court" "right" "[I") (List.mem_of_getElem? (i := 13) rfl)) (fun _ h9 => h9) rfl dX1_copyFrom_79 ?_
  refine lv_iconst (v := (0 : Int32)) hx hb dX1_copyFrom_82 (by decide) ?_
  refine lv_aload_n hx hb dX1_copyFrom_83 rfl (lv_at hl 0 rfl) ?_
  refine va_get (D := δ) (ci := 1) (v := .ref aK3) (C := RX1) (T := TX1) (N := 11) hx hb hts hinX1 hown hK hP 0 rfl rfl 8 (by decide) (hts (.fieldLink RX1 22 "GloveHours$Court" "right" "[I") (List.mem_of_getElem? (i := 13) rfl)) (fun _ h9 => h9) rfl dX1_copyFrom_84 ?_
  refine lv_iconst (v := (0 : Int32)) hx hb dX1_copyFrom_87 (by decide) ?_
  refine lv_bipush (v := (6 : Int32)) hx hb dX1_copyFrom_88 (by decide) ?_
  refine va_copyi hx hb (hml.trans hl.1.symm) hown (hts (.methodLink RX1 46 arraycopyName) (List.mem_of_getElem? (i := 8) rfl)) (hts (.native arraycopyName) (List.mem_of_getElem? (i := 9) rfl)) (hts (.static arraycopyName) (List.mem_of_getElem? (i := 10) rfl)) (hts (.initialized "java/lang/System") (List.mem_of_getElem? (i := 11) rfl)) hK hP hD hS 9 3 0 0 rfl rfl rfl rfl rfl (by decide) (by decide) (by decide) (by decide) (by decide) (fun _ _ => rfl) (Nat.le_of_ble_eq_true rfl) (Nat.le_of_ble_eq_true rfl) dX1_copyFrom_90 (fun H locs hP hD hS => ?_)
  have hP : va_P δ vwCl ((wK cI aK0 aK1 aK2 aK3 aK4 aK5 ((kPresent kJ), (kClock kJ), (kTears kJ), (kSights kJ), (kHoursSeen kJ), (kHoursNotOwned kJ), (va_cpy (kPairs kJ) (kPairs k) (0 : Int32).toNatClampNeg (0 : Int32).toNatClampNeg (6 : Int32).toNatClampNeg), (va_cpy (kLeft kJ) (kLeft k) (0 : Int32).toNatClampNeg (0 : Int32).toNatClampNeg (6 : Int32).toNatClampNeg), (va_cpy (kRight kJ) (kRight k) (0 : Int32).toNatClampNeg (0 : Int32).toNatClampNeg (6 : Int32).toNatClampNeg), kScandals k, kWears k)) ++ (wK cI aJ0 aJ1 aJ2 aJ3 aJ4 aJ5 kJ)) H := hP
  have hD : va_D A ((wK cI aK0 aK1 aK2 aK3 aK4 aK5 ((kPresent kJ), (kClock kJ), (kTears kJ), (kSights kJ), (kHoursSeen kJ), (kHoursNotOwned kJ), (va_cpy (kPairs kJ) (kPairs k) (0 : Int32).toNatClampNeg (0 : Int32).toNatClampNeg (6 : Int32).toNatClampNeg), (va_cpy (kLeft kJ) (kLeft k) (0 : Int32).toNatClampNeg (0 : Int32).toNatClampNeg (6 : Int32).toNatClampNeg), (va_cpy (kRight kJ) (kRight k) (0 : Int32).toNatClampNeg (0 : Int32).toNatClampNeg (6 : Int32).toNatClampNeg), kScandals k, kWears k)) ++ (wK cI aJ0 aJ1 aJ2 aJ3 aJ4 aJ5 kJ)) := hD
  refine lv_aload_n hx hb dX1_copyFrom_93 rfl (lv_at hl 1 rfl) ?_
  refine va_get (D := δ) (ci := 1) (v := .ref aJ4) (C := RX1) (T := TX1) (N := 11) hx hb hts hinX1 hown hK hP 6 rfl rfl 9 (by decide) (hts (.fieldLink RX1 25 "GloveHours$Court" "scandals" "[I") (List.mem_of_getElem? (i := 14) rfl)) (fun _ h9 => h9) rfl dX1_copyFrom_94 ?_
  refine lv_iconst (v := (0 : Int32)) hx hb dX1_copyFrom_97 (by decide) ?_
  refine lv_aload_n hx hb dX1_copyFrom_98 rfl (lv_at hl 0 rfl) ?_
  refine va_get (D := δ) (ci := 1) (v := .ref aK4) (C := RX1) (T := TX1) (N := 11) hx hb hts hinX1 hown hK hP 0 rfl rfl 9 (by decide) (hts (.fieldLink RX1 25 "GloveHours$Court" "scandals" "[I") (List.mem_of_getElem? (i := 14) rfl)) (fun _ h9 => h9) rfl dX1_copyFrom_99 ?_
  refine lv_iconst (v := (0 : Int32)) hx hb dX1_copyFrom_102 (by decide) ?_
  refine lv_bipush (v := (6 : Int32)) hx hb dX1_copyFrom_103 (by decide) ?_
  refine va_copyi hx hb (hml.trans hl.1.symm) hown (hts (.methodLink RX1 46 arraycopyName) (List.mem_of_getElem? (i := 8) rfl)) (hts (.native arraycopyName) (List.mem_of_getElem? (i := 9) rfl)) (hts (.static arraycopyName) (List.mem_of_getElem? (i := 10) rfl)) (hts (.initialized "java/lang/System") (List.mem_of_getElem? (i := 11) rfl)) hK hP hD hS 10 4 0 0 rfl rfl rfl rfl rfl (by decide) (by decide) (by decide) (by decide) (by decide) (fun _ _ => rfl) (Nat.le_of_ble_eq_true rfl) (Nat.le_of_ble_eq_true rfl) dX1_copyFrom_105 (fun H locs hP hD hS => ?_)
  have hP : va_P δ vwCl ((wK cI aK0 aK1 aK2 aK3 aK4 aK5 ((kPresent kJ), (kClock kJ), (kTears kJ), (kSights kJ), (kHoursSeen kJ), (kHoursNotOwned kJ), (va_cpy (kPairs kJ) (kPairs k) (0 : Int32).toNatClampNeg (0 : Int32).toNatClampNeg (6 : Int32).toNatClampNeg), (va_cpy (kLeft kJ) (kLeft k) (0 : Int32).toNatClampNeg (0 : Int32).toNatClampNeg (6 : Int32).toNatClampNeg), (va_cpy (kRight kJ) (kRight k) (0 : Int32).toNatClampNeg (0 : Int32).toNatClampNeg (6 : Int32).toNatClampNeg), (va_cpy (kScandals kJ) (kScandals k) (0 : Int32).toNatClampNeg (0 : Int32).toNatClampNeg (6 : Int32).toNatClampNeg), kWears k)) ++ (wK cI aJ0 aJ1 aJ2 aJ3 aJ4 aJ5 kJ)) H := hP
  have hD : va_D A ((wK cI aK0 aK1 aK2 aK3 aK4 aK5 ((kPresent kJ), (kClock kJ), (kTears kJ), (kSights kJ), (kHoursSeen kJ), (kHoursNotOwned kJ), (va_cpy (kPairs kJ) (kPairs k) (0 : Int32).toNatClampNeg (0 : Int32).toNatClampNeg (6 : Int32).toNatClampNeg), (va_cpy (kLeft kJ) (kLeft k) (0 : Int32).toNatClampNeg (0 : Int32).toNatClampNeg (6 : Int32).toNatClampNeg), (va_cpy (kRight kJ) (kRight k) (0 : Int32).toNatClampNeg (0 : Int32).toNatClampNeg (6 : Int32).toNatClampNeg), (va_cpy (kScandals kJ) (kScandals k) (0 : Int32).toNatClampNeg (0 : Int32).toNatClampNeg (6 : Int32).toNatClampNeg), kWears k)) ++ (wK cI aJ0 aJ1 aJ2 aJ3 aJ4 aJ5 kJ)) := hD
  refine lv_aload_n hx hb dX1_copyFrom_108 rfl (lv_at hl 1 rfl) ?_
  refine va_get (D := δ) (ci := 1) (v := .ref aJ5) (C := RX1) (T := TX1) (N := 11) hx hb hts hinX1 hown hK hP 6 rfl rfl 10 (by decide) (hts (.fieldLink RX1 28 "GloveHours$Court" "wears" "[I") (List.mem_of_getElem? (i := 15) rfl)) (fun _ h9 => h9) rfl dX1_copyFrom_109 ?_
  refine lv_iconst (v := (0 : Int32)) hx hb dX1_copyFrom_112 (by decide) ?_
  refine lv_aload_n hx hb dX1_copyFrom_113 rfl (lv_at hl 0 rfl) ?_
  refine va_get (D := δ) (ci := 1) (v := .ref aK5) (C := RX1) (T := TX1) (N := 11) hx hb hts hinX1 hown hK hP 0 rfl rfl 10 (by decide) (hts (.fieldLink RX1 28 "GloveHours$Court" "wears" "[I") (List.mem_of_getElem? (i := 15) rfl)) (fun _ h9 => h9) rfl dX1_copyFrom_114 ?_
  refine lv_iconst (v := (0 : Int32)) hx hb dX1_copyFrom_117 (by decide) ?_
  refine lv_sipush (v := (144 : Int32)) hx hb dX1_copyFrom_118 (by decide) ?_
  refine va_copyi hx hb (hml.trans hl.1.symm) hown (hts (.methodLink RX1 46 arraycopyName) (List.mem_of_getElem? (i := 8) rfl)) (hts (.native arraycopyName) (List.mem_of_getElem? (i := 9) rfl)) (hts (.static arraycopyName) (List.mem_of_getElem? (i := 10) rfl)) (hts (.initialized "java/lang/System") (List.mem_of_getElem? (i := 11) rfl)) hK hP hD hS 11 5 0 0 rfl rfl rfl rfl rfl (by decide) (by decide) (by decide) (by decide) (by decide) (fun _ _ => rfl) (Nat.le_of_ble_eq_true rfl) (Nat.le_of_ble_eq_true rfl) dX1_copyFrom_121 (fun H locs hP hD hS => ?_)
  have hP : va_P δ vwCl ((wK cI aK0 aK1 aK2 aK3 aK4 aK5 ((kPresent kJ), (kClock kJ), (kTears kJ), (kSights kJ), (kHoursSeen kJ), (kHoursNotOwned kJ), (va_cpy (kPairs kJ) (kPairs k) (0 : Int32).toNatClampNeg (0 : Int32).toNatClampNeg (6 : Int32).toNatClampNeg), (va_cpy (kLeft kJ) (kLeft k) (0 : Int32).toNatClampNeg (0 : Int32).toNatClampNeg (6 : Int32).toNatClampNeg), (va_cpy (kRight kJ) (kRight k) (0 : Int32).toNatClampNeg (0 : Int32).toNatClampNeg (6 : Int32).toNatClampNeg), (va_cpy (kScandals kJ) (kScandals k) (0 : Int32).toNatClampNeg (0 : Int32).toNatClampNeg (6 : Int32).toNatClampNeg), (va_cpy (kWears kJ) (kWears k) (0 : Int32).toNatClampNeg (0 : Int32).toNatClampNeg (144 : Int32).toNatClampNeg))) ++ (wK cI aJ0 aJ1 aJ2 aJ3 aJ4 aJ5 kJ)) H := hP
  have hD : va_D A ((wK cI aK0 aK1 aK2 aK3 aK4 aK5 ((kPresent kJ), (kClock kJ), (kTears kJ), (kSights kJ), (kHoursSeen kJ), (kHoursNotOwned kJ), (va_cpy (kPairs kJ) (kPairs k) (0 : Int32).toNatClampNeg (0 : Int32).toNatClampNeg (6 : Int32).toNatClampNeg), (va_cpy (kLeft kJ) (kLeft k) (0 : Int32).toNatClampNeg (0 : Int32).toNatClampNeg (6 : Int32).toNatClampNeg), (va_cpy (kRight kJ) (kRight k) (0 : Int32).toNatClampNeg (0 : Int32).toNatClampNeg (6 : Int32).toNatClampNeg), (va_cpy (kScandals kJ) (kScandals k) (0 : Int32).toNatClampNeg (0 : Int32).toNatClampNeg (6 : Int32).toNatClampNeg), (va_cpy (kWears kJ) (kWears k) (0 : Int32).toNatClampNeg (0 : Int32).toNatClampNeg (144 : Int32).toNatClampNeg))) ++ (wK cI aJ0 aJ1 aJ2 aJ3 aJ4 aJ5 kJ)) := hD
  exact hret _ _ ((kPresent kJ), (kClock kJ), (kTears kJ), (kSights kJ), (kHoursSeen kJ), (kHoursNotOwned kJ), (va_cpy (kPairs kJ) (kPairs k) (0 : Int32).toNatClampNeg (0 : Int32).toNatClampNeg (6 : Int32).toNatClampNeg), (va_cpy (kLeft kJ) (kLeft k) (0 : Int32).toNatClampNeg (0 : Int32).toNatClampNeg (6 : Int32).toNatClampNeg), (va_cpy (kRight kJ) (kRight k) (0 : Int32).toNatClampNeg (0 : Int32).toNatClampNeg (6 : Int32).toNatClampNeg), (va_cpy (kScandals kJ) (kScandals k) (0 : Int32).toNatClampNeg (0 : Int32).toNatClampNeg (6 : Int32).toNatClampNeg), (va_cpy (kWears kJ) (kWears k) (0 : Int32).toNatClampNeg (0 : Int32).toNatClampNeg (144 : Int32).toNatClampNeg)) _ _ hR hP hD hS dX1_copyFrom_124
