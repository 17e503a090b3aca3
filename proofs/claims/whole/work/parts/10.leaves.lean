def f_J6_bitCount_0f7a4 (x0 : Int32) : Int32 := ((((((((x0 - ((x0.toUInt32 >>> ((1 : Int32).toUInt32 &&& Int32.toUInt32 31)).toInt32 &&& (1431655765 : Int32))) &&& (858993459 : Int32)) + (((x0 - ((x0.toUInt32 >>> ((1 : Int32).toUInt32 &&& Int32.toUInt32 31)).toInt32 &&& (1431655765 : Int32))).toUInt32 >>> ((2 : Int32).toUInt32 &&& Int32.toUInt32 31)).toInt32 &&& (858993459 : Int32))) + ((((x0 - ((x0.toUInt32 >>> ((1 : Int32).toUInt32 &&& Int32.toUInt32 31)).toInt32 &&& (1431655765 : Int32))) &&& (858993459 : Int32)) + (((x0 - ((x0.toUInt32 >>> ((1 : Int32).toUInt32 &&& Int32.toUInt32 31)).toInt32 &&& (1431655765 : Int32))).toUInt32 >>> ((2 : Int32).toUInt32 &&& Int32.toUInt32 31)).toInt32 &&& (858993459 : Int32))).toUInt32 >>> ((4 : Int32).toUInt32 &&& Int32.toUInt32 31)).toInt32) &&& (252645135 : Int32)) + ((((((x0 - ((x0.toUInt32 >>> ((1 : Int32).toUInt32 &&& Int32.toUInt32 31)).toInt32 &&& (1431655765 : Int32))) &&& (858993459 : Int32)) + (((x0 - ((x0.toUInt32 >>> ((1 : Int32).toUInt32 &&& Int32.toUInt32 31)).toInt32 &&& (1431655765 : Int32))).toUInt32 >>> ((2 : Int32).toUInt32 &&& Int32.toUInt32 31)).toInt32 &&& (858993459 : Int32))) + ((((x0 - ((x0.toUInt32 >>> ((1 : Int32).toUInt32 &&& Int32.toUInt32 31)).toInt32 &&& (1431655765 : Int32))) &&& (858993459 : Int32)) + (((x0 - ((x0.toUInt32 >>> ((1 : Int32).toUInt32 &&& Int32.toUInt32 31)).toInt32 &&& (1431655765 : Int32))).toUInt32 >>> ((2 : Int32).toUInt32 &&& Int32.toUInt32 31)).toInt32 &&& (858993459 : Int32))).toUInt32 >>> ((4 : Int32).toUInt32 &&& Int32.toUInt32 31)).toInt32) &&& (252645135 : Int32)).toUInt32 >>> ((8 : Int32).toUInt32 &&& Int32.toUInt32 31)).toInt32) + (((((((x0 - ((x0.toUInt32 >>> ((1 : Int32).toUInt32 &&& Int32.toUInt32 31)).toInt32 &&& (1431655765 : Int32))) &&& (858993459 : Int32)) + (((x0 - ((x0.toUInt32 >>> ((1 : Int32).toUInt32 &&& Int32.toUInt32 31)).toInt32 &&& (1431655765 : Int32))).toUInt32 >>> ((2 : Int32).toUInt32 &&& Int32.toUInt32 31)).toInt32 &&& (858993459 : Int32))) + ((((x0 - ((x0.toUInt32 >>> ((1 : Int32).toUInt32 &&& Int32.toUInt32 31)).toInt32 &&& (1431655765 : Int32))) &&& (858993459 : Int32)) + (((x0 - ((x0.toUInt32 >>> ((1 : Int32).toUInt32 &&& Int32.toUInt32 31)).toInt32 &&& (1431655765 : Int32))).toUInt32 >>> ((2 : Int32).toUInt32 &&& Int32.toUInt32 31)).toInt32 &&& (858993459 : Int32))).toUInt32 >>> ((4 : Int32).toUInt32 &&& Int32.toUInt32 31)).toInt32) &&& (252645135 : Int32)) + ((((((x0 - ((x0.toUInt32 >>> ((1 : Int32).toUInt32 &&& Int32.toUInt32 31)).toInt32 &&& (1431655765 : Int32))) &&& (858993459 : Int32)) + (((x0 - ((x0.toUInt32 >>> ((1 : Int32).toUInt32 &&& Int32.toUInt32 31)).toInt32 &&& (1431655765 : Int32))).toUInt32 >>> ((2 : Int32).toUInt32 &&& Int32.toUInt32 31)).toInt32 &&& (858993459 : Int32))) + ((((x0 - ((x0.toUInt32 >>> ((1 : Int32).toUInt32 &&& Int32.toUInt32 31)).toInt32 &&& (1431655765 : Int32))) &&& (858993459 : Int32)) + (((x0 - ((x0.toUInt32 >>> ((1 : Int32).toUInt32 &&& Int32.toUInt32 31)).toInt32 &&& (1431655765 : Int32))).toUInt32 >>> ((2 : Int32).toUInt32 &&& Int32.toUInt32 31)).toInt32 &&& (858993459 : Int32))).toUInt32 >>> ((4 : Int32).toUInt32 &&& Int32.toUInt32 31)).toInt32) &&& (252645135 : Int32)).toUInt32 >>> ((8 : Int32).toUInt32 &&& Int32.toUInt32 31)).toInt32).toUInt32 >>> ((16 : Int32).toUInt32 &&& Int32.toUInt32 31)).toInt32) &&& (63 : Int32))
set_option maxHeartbeats 4000000 in
set_option maxRecDepth 100000 in
theorem c_J6_bitCount_0f7a4 (l : Launch) (D : va_G) (cI cO : ClassId) (tF : Nat) (x0 : Int32) : Ct l yJ6_bitCount_0f7a4 wsJ6_bitCount_0f7a4 ({ frames := 0, cells := 0, slots := 0, locals := 0 }) D cI cO tF [.int x0] ([]) (some (.int (f_J6_bitCount_0f7a4 x0))) ([]) := by
  refine Ct.of (cc := cJ6_bitCount_0f7a4) (maxL := 1) (ret := (some .int)) (own := RJ6) (by decide) rfl rfl (Nat.le_of_ble_eq_true rfl) ?_
  intro p e s m args below meth c A ls B hP hD hS hl
  obtain ⟨hx, hb, hret, hml, hts, hown, hlocks, hE, hA⟩ := id B
  have hK := hE.1
  have hl : lv_has ls 1 [(0, .int x0)] := hl
  refine lv_iload_n hx hb dJ6_bitCount_0f7a4_0 rfl (lv_at hl 0 rfl) ?_
  refine lv_iload_n hx hb dJ6_bitCount_0f7a4_1 rfl (lv_at hl 0 rfl) ?_
  refine lv_iconst (v := (1 : Int32)) hx hb dJ6_bitCount_0f7a4_2 (by decide) ?_
  refine lv_iushr (v := (x0.toUInt32 >>> ((1 : Int32).toUInt32 &&& Int32.toUInt32 31)).toInt32) hx hb dJ6_bitCount_0f7a4_3 rfl ?_
  refine lv_ldcw hx hb hown (hts (.constant RJ6 265 (1431655765 : Int32)) (by decide +kernel)) dJ6_bitCount_0f7a4_4 ?_
  refine lv_iand hx hb dJ6_bitCount_0f7a4_7 ?_
  refine lv_isub hx hb dJ6_bitCount_0f7a4_8 ?_
  refine lv_istore_n (lv' := [(0, .int (x0 - ((x0.toUInt32 >>> ((1 : Int32).toUInt32 &&& Int32.toUInt32 31)).toInt32 &&& (1431655765 : Int32))))]) hx hb dJ6_bitCount_0f7a4_9 rfl hl (by decide) rfl (fun ls hl => ?_)
  refine lv_iload_n hx hb dJ6_bitCount_0f7a4_10 rfl (lv_at hl 0 rfl) ?_
  refine lv_ldcw hx hb hown (hts (.constant RJ6 266 (858993459 : Int32)) (by decide +kernel)) dJ6_bitCount_0f7a4_11 ?_
  refine lv_iand hx hb dJ6_bitCount_0f7a4_14 ?_
  refine lv_iload_n hx hb dJ6_bitCount_0f7a4_15 rfl (lv_at hl 0 rfl) ?_
  refine lv_iconst (v := (2 : Int32)) hx hb dJ6_bitCount_0f7a4_16 (by decide) ?_
  refine lv_iushr (v := ((x0 - ((x0.toUInt32 >>> ((1 : Int32).toUInt32 &&& Int32.toUInt32 31)).toInt32 &&& (1431655765 : Int32))).toUInt32 >>> ((2 : Int32).toUInt32 &&& Int32.toUInt32 31)).toInt32) hx hb dJ6_bitCount_0f7a4_17 rfl ?_
  refine lv_ldcw hx hb hown (hts (.constant RJ6 266 (858993459 : Int32)) (by decide +kernel)) dJ6_bitCount_0f7a4_18 ?_
  refine lv_iand hx hb dJ6_bitCount_0f7a4_21 ?_
  refine lv_iadd hx hb dJ6_bitCount_0f7a4_22 ?_
  refine lv_istore_n (lv' := [(0, .int (((x0 - ((x0.toUInt32 >>> ((1 : Int32).toUInt32 &&& Int32.toUInt32 31)).toInt32 &&& (1431655765 : Int32))) &&& (858993459 : Int32)) + (((x0 - ((x0.toUInt32 >>> ((1 : Int32).toUInt32 &&& Int32.toUInt32 31)).toInt32 &&& (1431655765 : Int32))).toUInt32 >>> ((2 : Int32).toUInt32 &&& Int32.toUInt32 31)).toInt32 &&& (858993459 : Int32))))]) hx hb dJ6_bitCount_0f7a4_23 rfl hl (by decide) rfl (fun ls hl => ?_)
  refine lv_iload_n hx hb dJ6_bitCount_0f7a4_24 rfl (lv_at hl 0 rfl) ?_
  refine lv_iload_n hx hb dJ6_bitCount_0f7a4_25 rfl (lv_at hl 0 rfl) ?_
  refine lv_iconst (v := (4 : Int32)) hx hb dJ6_bitCount_0f7a4_26 (by decide) ?_
  refine lv_iushr (v := ((((x0 - ((x0.toUInt32 >>> ((1 : Int32).toUInt32 &&& Int32.toUInt32 31)).toInt32 &&& (1431655765 : Int32))) &&& (858993459 : Int32)) + (((x0 - ((x0.toUInt32 >>> ((1 : Int32).toUInt32 &&& Int32.toUInt32 31)).toInt32 &&& (1431655765 : Int32))).toUInt32 >>> ((2 : Int32).toUInt32 &&& Int32.toUInt32 31)).toInt32 &&& (858993459 : Int32))).toUInt32 >>> ((4 : Int32).toUInt32 &&& Int32.toUInt32 31)).toInt32) hx hb dJ6_bitCount_0f7a4_27 rfl ?_
  refine lv_iadd hx hb dJ6_bitCount_0f7a4_28 ?_
  refine lv_ldcw hx hb hown (hts (.constant RJ6 267 (252645135 : Int32)) (by decide +kernel)) dJ6_bitCount_0f7a4_29 ?_
  refine lv_iand hx hb dJ6_bitCount_0f7a4_32 ?_
  refine lv_istore_n (lv' := [(0, .int (((((x0 - ((x0.toUInt32 >>> ((1 : Int32).toUInt32 &&& Int32.toUInt32 31)).toInt32 &&& (1431655765 : Int32))) &&& (858993459 : Int32)) + (((x0 - ((x0.toUInt32 >>> ((1 : Int32).toUInt32 &&& Int32.toUInt32 31)).toInt32 &&& (1431655765 : Int32))).toUInt32 >>> ((2 : Int32).toUInt32 &&& Int32.toUInt32 31)).toInt32 &&& (858993459 : Int32))) + ((((x0 - ((x0.toUInt32 >>> ((1 : Int32).toUInt32 &&& Int32.toUInt32 31)).toInt32 &&& (1431655765 : Int32))) &&& (858993459 : Int32)) + (((x0 - ((x0.toUInt32 >>> ((1 : Int32).toUInt32 &&& Int32.toUInt32 31)).toInt32 &&& (1431655765 : Int32))).toUInt32 >>> ((2 : Int32).toUInt32 &&& Int32.toUInt32 31)).toInt32 &&& (858993459 : Int32))).toUInt32 >>> ((4 : Int32).toUInt32 &&& Int32.toUInt32 31)).toInt32) &&& (252645135 : Int32)))]) hx hb dJ6_bitCount_0f7a4_33 rfl hl (by decide) rfl (fun ls hl => ?_)
  refine lv_iload_n hx hb dJ6_bitCount_0f7a4_34 rfl (lv_at hl 0 rfl) ?_
  refine lv_iload_n hx hb dJ6_bitCount_0f7a4_35 rfl (lv_at hl 0 rfl) ?_
  refine lv_bipush (v := (8 : Int32)) hx hb dJ6_bitCount_0f7a4_36 (by decide) ?_
  refine lv_iushr (v := ((((((x0 - ((x0.toUInt32 >>> ((1 : Int32).toUInt32 &&& Int32.toUInt32 31)).toInt32 &&& (1431655765 : Int32))) &&& (858993459 : Int32)) + (((x0 - ((x0.toUInt32 >>> ((1 : Int32).toUInt32 &&& Int32.toUInt32 31)).toInt32 &&& (1431655765 : Int32))).toUInt32 >>> ((2 : Int32).toUInt32 &&& Int32.toUInt32 31)).toInt32 &&& (858993459 : Int32))) + ((((x0 - ((x0.toUInt32 >>> ((1 : Int32).toUInt32 &&& Int32.toUInt32 31)).toInt32 &&& (1431655765 : Int32))) &&& (858993459 : Int32)) + (((x0 - ((x0.toUInt32 >>> ((1 : Int32).toUInt32 &&& Int32.toUInt32 31)).toInt32 &&& (1431655765 : Int32))).toUInt32 >>> ((2 : Int32).toUInt32 &&& Int32.toUInt32 31)).toInt32 &&& (858993459 : Int32))).toUInt32 >>> ((4 : Int32).toUInt32 &&& Int32.toUInt32 31)).toInt32) &&& (252645135 : Int32)).toUInt32 >>> ((8 : Int32).toUInt32 &&& Int32.toUInt32 31)).toInt32) hx hb dJ6_bitCount_0f7a4_38 rfl ?_
  refine lv_iadd hx hb dJ6_bitCount_0f7a4_39 ?_
  refine lv_istore_n (lv' := [(0, .int ((((((x0 - ((x0.toUInt32 >>> ((1 : Int32).toUInt32 &&& Int32.toUInt32 31)).toInt32 &&& (1431655765 : Int32))) &&& (858993459 : Int32)) + (((x0 - ((x0.toUInt32 >>> ((1 : Int32).toUInt32 &&& Int32.toUInt32 31)).toInt32 &&& (1431655765 : Int32))).toUInt32 >>> ((2 : Int32).toUInt32 &&& Int32.toUInt32 31)).toInt32 &&& (858993459 : Int32))) + ((((x0 - ((x0.toUInt32 >>> ((1 : Int32).toUInt32 &&& Int32.toUInt32 31)).toInt32 &&& (1431655765 : Int32))) &&& (858993459 : Int32)) + (((x0 - ((x0.toUInt32 >>> ((1 : Int32).toUInt32 &&& Int32.toUInt32 31)).toInt32 &&& (1431655765 : Int32))).toUInt32 >>> ((2 : Int32).toUInt32 &&& Int32.toUInt32 31)).toInt32 &&& (858993459 : Int32))).toUInt32 >>> ((4 : Int32).toUInt32 &&& Int32.toUInt32 31)).toInt32) &&& (252645135 : Int32)) + ((((((x0 - ((x0.toUInt32 >>> ((1 : Int32).toUInt32 &&& Int32.toUInt32 31)).toInt32 &&& (1431655765 : Int32))) &&& (858993459 : Int32)) + (((x0 - ((x0.toUInt32 >>> ((1 : Int32).toUInt32 &&& Int32.toUInt32 31)).toInt32 &&& (1431655765 : Int32))).toUInt32 >>> ((2 : Int32).toUInt32 &&& Int32.toUInt32 31)).toInt32 &&& (858993459 : Int32))) + ((((x0 - ((x0.toUInt32 >>> ((1 : Int32).toUInt32 &&& Int32.toUInt32 31)).toInt32 &&& (1431655765 : Int32))) &&& (858993459 : Int32)) + (((x0 - ((x0.toUInt32 >>> ((1 : Int32).toUInt32 &&& Int32.toUInt32 31)).toInt32 &&& (1431655765 : Int32))).toUInt32 >>> ((2 : Int32).toUInt32 &&& Int32.toUInt32 31)).toInt32 &&& (858993459 : Int32))).toUInt32 >>> ((4 : Int32).toUInt32 &&& Int32.toUInt32 31)).toInt32) &&& (252645135 : Int32)).toUInt32 >>> ((8 : Int32).toUInt32 &&& Int32.toUInt32 31)).toInt32))]) hx hb dJ6_bitCount_0f7a4_40 rfl hl (by decide) rfl (fun ls hl => ?_)
  refine lv_iload_n hx hb dJ6_bitCount_0f7a4_41 rfl (lv_at hl 0 rfl) ?_
  refine lv_iload_n hx hb dJ6_bitCount_0f7a4_42 rfl (lv_at hl 0 rfl) ?_
  refine lv_bipush (v := (16 : Int32)) hx hb dJ6_bitCount_0f7a4_43 (by decide) ?_
  refine lv_iushr (v := (((((((x0 - ((x0.toUInt32 >>> ((1 : Int32).toUInt32 &&& Int32.toUInt32 31)).toInt32 &&& (1431655765 : Int32))) &&& (858993459 : Int32)) + (((x0 - ((x0.toUInt32 >>> ((1 : Int32).toUInt32 &&& Int32.toUInt32 31)).toInt32 &&& (1431655765 : Int32))).toUInt32 >>> ((2 : Int32).toUInt32 &&& Int32.toUInt32 31)).toInt32 &&& (858993459 : Int32))) + ((((x0 - ((x0.toUInt32 >>> ((1 : Int32).toUInt32 &&& Int32.toUInt32 31)).toInt32 &&& (1431655765 : Int32))) &&& (858993459 : Int32)) + (((x0 - ((x0.toUInt32 >>> ((1 : Int32).toUInt32 &&& Int32.toUInt32 31)).toInt32 &&& (1431655765 : Int32))).toUInt32 >>> ((2 : Int32).toUInt32 &&& Int32.toUInt32 31)).toInt32 &&& (858993459 : Int32))).toUInt32 >>> ((4 : Int32).toUInt32 &&& Int32.toUInt32 31)).toInt32) &&& (252645135 : Int32)) + ((((((x0 - ((x0.toUInt32 >>> ((1 : Int32).toUInt32 &&& Int32.toUInt32 31)).toInt32 &&& (1431655765 : Int32))) &&& (858993459 : Int32)) + (((x0 - ((x0.toUInt32 >>> ((1 : Int32).toUInt32 &&& Int32.toUInt32 31)).toInt32 &&& (1431655765 : Int32))).toUInt32 >>> ((2 : Int32).toUInt32 &&& Int32.toUInt32 31)).toInt32 &&& (858993459 : Int32))) + ((((x0 - ((x0.toUInt32 >>> ((1 : Int32).toUInt32 &&& Int32.toUInt32 31)).toInt32 &&& (1431655765 : Int32))) &&& (858993459 : Int32)) + (((x0 - ((x0.toUInt32 >>> ((1 : Int32).toUInt32 &&& Int32.toUInt32 31)).toInt32 &&& (1431655765 : Int32))).toUInt32 >>> ((2 : Int32).toUInt32 &&& Int32.toUInt32 31)).toInt32 &&& (858993459 : Int32))).toUInt32 >>> ((4 : Int32).toUInt32 &&& Int32.toUInt32 31)).toInt32) &&& (252645135 : Int32)).toUInt32 >>> ((8 : Int32).toUInt32 &&& Int32.toUInt32 31)).toInt32).toUInt32 >>> ((16 : Int32).toUInt32 &&& Int32.toUInt32 31)).toInt32) hx hb dJ6_bitCount_0f7a4_45 rfl ?_
  refine lv_iadd hx hb dJ6_bitCount_0f7a4_46 ?_
  refine lv_istore_n (lv' := [(0, .int (((((((x0 - ((x0.toUInt32 >>> ((1 : Int32).toUInt32 &&& Int32.toUInt32 31)).toInt32 &&& (1431655765 : Int32))) &&& (858993459 : Int32)) + (((x0 - ((x0.toUInt32 >>> ((1 : Int32).toUInt32 &&& Int32.toUInt32 31)).toInt32 &&& (1431655765 : Int32))).toUInt32 >>> ((2 : Int32).toUInt32 &&& Int32.toUInt32 31)).toInt32 &&& (858993459 : Int32))) + ((((x0 - ((x0.toUInt32 >>> ((1 : Int32).toUInt32 &&& Int32.toUInt32 31)).toInt32 &&& (1431655765 : Int32))) &&& (858993459 : Int32)) + (((x0 - ((x0.toUInt32 >>> ((1 : Int32).toUInt32 &&& Int32.toUInt32 31)).toInt32 &&& (1431655765 : Int32))).toUInt32 >>> ((2 : Int32).toUInt32 &&& Int32.toUInt32 31)).toInt32 &&& (858993459 : Int32))).toUInt32 >>> ((4 : Int32).toUInt32 &&& Int32.toUInt32 31)).toInt32) &&& (252645135 : Int32)) + ((((((x0 - ((x0.toUInt32 >>> ((1 : Int32).toUInt32 &&& Int32.toUInt32 31)).toInt32 &&& (1431655765 : Int32))) &&& (858993459 : Int32)) + (((x0 - ((x0.toUInt32 >>> ((1 : Int32).toUInt32 &&& Int32.toUInt32 31)).toInt32 &&& (1431655765 : Int32))).toUInt32 >>> ((2 : Int32).toUInt32 &&& Int32.toUInt32 31)).toInt32 &&& (858993459 : Int32))) + ((((x0 - ((x0.toUInt32 >>> ((1 : Int32).toUInt32 &&& Int32.toUInt32 31)).toInt32 &&& (1431655765 : Int32))) &&& (858993459 : Int32)) + (((x0 - ((x0.toUInt32 >>> ((1 : Int32).toUInt32 &&& Int32.toUInt32 31)).toInt32 &&& (1431655765 : Int32))).toUInt32 >>> ((2 : Int32).toUInt32 &&& Int32.toUInt32 31)).toInt32 &&& (858993459 : Int32))).toUInt32 >>> ((4 : Int32).toUInt32 &&& Int32.toUInt32 31)).toInt32) &&& (252645135 : Int32)).toUInt32 >>> ((8 : Int32).toUInt32 &&& Int32.toUInt32 31)).toInt32) + (((((((x0 - ((x0.toUInt32 >>> ((1 : Int32).toUInt32 &&& Int32.toUInt32 31)).toInt32 &&& (1431655765 : Int32))) &&& (858993459 : Int32)) + (((x0 - ((x0.toUInt32 >>> ((1 : Int32).toUInt32 &&& Int32.toUInt32 31)).toInt32 &&& (1431655765 : Int32))).toUInt32 >>> ((2 : Int32).toUInt32 &&& Int32.toUInt32 31)).toInt32 &&& (858993459 : Int32))) + ((((x0 - ((x0.toUInt32 >>> ((1 : Int32).toUInt32 &&& Int32.toUInt32 31)).toInt32 &&& (1431655765 : Int32))) &&& (858993459 : Int32)) + (((x0 - ((x0.toUInt32 >>> ((1 : Int32).toUInt32 &&& Int32.toUInt32 31)).toInt32 &&& (1431655765 : Int32))).toUInt32 >>> ((2 : Int32).toUInt32 &&& Int32.toUInt32 31)).toInt32 &&& (858993459 : Int32))).toUInt32 >>> ((4 : Int32).toUInt32 &&& Int32.toUInt32 31)).toInt32) &&& (252645135 : Int32)) + ((((((x0 - ((x0.toUInt32 >>> ((1 : Int32).toUInt32 &&& Int32.toUInt32 31)).toInt32 &&& (1431655765 : Int32))) &&& (858993459 : Int32)) + (((x0 - ((x0.toUInt32 >>> ((1 : Int32).toUInt32 &&& Int32.toUInt32 31)).toInt32 &&& (1431655765 : Int32))).toUInt32 >>> ((2 : Int32).toUInt32 &&& Int32.toUInt32 31)).toInt32 &&& (858993459 : Int32))) + ((((x0 - ((x0.toUInt32 >>> ((1 : Int32).toUInt32 &&& Int32.toUInt32 31)).toInt32 &&& (1431655765 : Int32))) &&& (858993459 : Int32)) + (((x0 - ((x0.toUInt32 >>> ((1 : Int32).toUInt32 &&& Int32.toUInt32 31)).toInt32 &&& (1431655765 : Int32))).toUInt32 >>> ((2 : Int32).toUInt32 &&& Int32.toUInt32 31)).toInt32 &&& (858993459 : Int32))).toUInt32 >>> ((4 : Int32).toUInt32 &&& Int32.toUInt32 31)).toInt32) &&& (252645135 : Int32)).toUInt32 >>> ((8 : Int32).toUInt32 &&& Int32.toUInt32 31)).toInt32).toUInt32 >>> ((16 : Int32).toUInt32 &&& Int32.toUInt32 31)).toInt32))]) hx hb dJ6_bitCount_0f7a4_47 rfl hl (by decide) rfl (fun ls hl => ?_)
  refine lv_iload_n hx hb dJ6_bitCount_0f7a4_48 rfl (lv_at hl 0 rfl) ?_
  refine lv_bipush (v := (63 : Int32)) hx hb dJ6_bitCount_0f7a4_49 (by decide) ?_
  refine lv_iand hx hb dJ6_bitCount_0f7a4_51 ?_
  have hF : f_J6_bitCount_0f7a4 x0 = ((((((((x0 - ((x0.toUInt32 >>> ((1 : Int32).toUInt32 &&& Int32.toUInt32 31)).toInt32 &&& (1431655765 : Int32))) &&& (858993459 : Int32)) + (((x0 - ((x0.toUInt32 >>> ((1 : Int32).toUInt32 &&& Int32.toUInt32 31)).toInt32 &&& (1431655765 : Int32))).toUInt32 >>> ((2 : Int32).toUInt32 &&& Int32.toUInt32 31)).toInt32 &&& (858993459 : Int32))) + ((((x0 - ((x0.toUInt32 >>> ((1 : Int32).toUInt32 &&& Int32.toUInt32 31)).toInt32 &&& (1431655765 : Int32))) &&& (858993459 : Int32)) + (((x0 - ((x0.toUInt32 >>> ((1 : Int32).toUInt32 &&& Int32.toUInt32 31)).toInt32 &&& (1431655765 : Int32))).toUInt32 >>> ((2 : Int32).toUInt32 &&& Int32.toUInt32 31)).toInt32 &&& (858993459 : Int32))).toUInt32 >>> ((4 : Int32).toUInt32 &&& Int32.toUInt32 31)).toInt32) &&& (252645135 : Int32)) + ((((((x0 - ((x0.toUInt32 >>> ((1 : Int32).toUInt32 &&& Int32.toUInt32 31)).toInt32 &&& (1431655765 : Int32))) &&& (858993459 : Int32)) + (((x0 - ((x0.toUInt32 >>> ((1 : Int32).toUInt32 &&& Int32.toUInt32 31)).toInt32 &&& (1431655765 : Int32))).toUInt32 >>> ((2 : Int32).toUInt32 &&& Int32.toUInt32 31)).toInt32 &&& (858993459 : Int32))) + ((((x0 - ((x0.toUInt32 >>> ((1 : Int32).toUInt32 &&& Int32.toUInt32 31)).toInt32 &&& (1431655765 : Int32))) &&& (858993459 : Int32)) + (((x0 - ((x0.toUInt32 >>> ((1 : Int32).toUInt32 &&& Int32.toUInt32 31)).toInt32 &&& (1431655765 : Int32))).toUInt32 >>> ((2 : Int32).toUInt32 &&& Int32.toUInt32 31)).toInt32 &&& (858993459 : Int32))).toUInt32 >>> ((4 : Int32).toUInt32 &&& Int32.toUInt32 31)).toInt32) &&& (252645135 : Int32)).toUInt32 >>> ((8 : Int32).toUInt32 &&& Int32.toUInt32 31)).toInt32) + (((((((x0 - ((x0.toUInt32 >>> ((1 : Int32).toUInt32 &&& Int32.toUInt32 31)).toInt32 &&& (1431655765 : Int32))) &&& (858993459 : Int32)) + (((x0 - ((x0.toUInt32 >>> ((1 : Int32).toUInt32 &&& Int32.toUInt32 31)).toInt32 &&& (1431655765 : Int32))).toUInt32 >>> ((2 : Int32).toUInt32 &&& Int32.toUInt32 31)).toInt32 &&& (858993459 : Int32))) + ((((x0 - ((x0.toUInt32 >>> ((1 : Int32).toUInt32 &&& Int32.toUInt32 31)).toInt32 &&& (1431655765 : Int32))) &&& (858993459 : Int32)) + (((x0 - ((x0.toUInt32 >>> ((1 : Int32).toUInt32 &&& Int32.toUInt32 31)).toInt32 &&& (1431655765 : Int32))).toUInt32 >>> ((2 : Int32).toUInt32 &&& Int32.toUInt32 31)).toInt32 &&& (858993459 : Int32))).toUInt32 >>> ((4 : Int32).toUInt32 &&& Int32.toUInt32 31)).toInt32) &&& (252645135 : Int32)) + ((((((x0 - ((x0.toUInt32 >>> ((1 : Int32).toUInt32 &&& Int32.toUInt32 31)).toInt32 &&& (1431655765 : Int32))) &&& (858993459 : Int32)) + (((x0 - ((x0.toUInt32 >>> ((1 : Int32).toUInt32 &&& Int32.toUInt32 31)).toInt32 &&& (1431655765 : Int32))).toUInt32 >>> ((2 : Int32).toUInt32 &&& Int32.toUInt32 31)).toInt32 &&& (858993459 : Int32))) + ((((x0 - ((x0.toUInt32 >>> ((1 : Int32).toUInt32 &&& Int32.toUInt32 31)).toInt32 &&& (1431655765 : Int32))) &&& (858993459 : Int32)) + (((x0 - ((x0.toUInt32 >>> ((1 : Int32).toUInt32 &&& Int32.toUInt32 31)).toInt32 &&& (1431655765 : Int32))).toUInt32 >>> ((2 : Int32).toUInt32 &&& Int32.toUInt32 31)).toInt32 &&& (858993459 : Int32))).toUInt32 >>> ((4 : Int32).toUInt32 &&& Int32.toUInt32 31)).toInt32) &&& (252645135 : Int32)).toUInt32 >>> ((8 : Int32).toUInt32 &&& Int32.toUInt32 31)).toInt32).toUInt32 >>> ((16 : Int32).toUInt32 &&& Int32.toUInt32 31)).toInt32) &&& (63 : Int32)) := by rw [f_J6_bitCount_0f7a4]
  rw [hF]
  exact kr_i B hP hS rfl rfl dJ6_bitCount_0f7a4_52
def f_X3_isMember (x0 : Int32) (x1 : Int32) : Int32 := (if ((x0 >>> (x1 &&& 31)) &&& (1 : Int32)) = (1 : Int32) then (1 : Int32) else (0 : Int32))
theorem bb_X3_isMember (x0 : Int32) (x1 : Int32) : f_X3_isMember x0 x1 = 0 ∨ f_X3_isMember x0 x1 = 1 := by
  unfold f_X3_isMember
  repeat' split
  all_goals first | exact Or.inl rfl | exact Or.inr rfl
set_option maxHeartbeats 4000000 in
set_option maxRecDepth 100000 in
theorem c_X3_isMember (l : Launch) (D : va_G) (cI cO : ClassId) (tF : Nat) (x0 : Int32) (x1 : Int32) : Ct l yX3_isMember wsX3_isMember ({ frames := 0, cells := 0, slots := 0, locals := 0 }) D cI cO tF [.int x0, .int x1] ([]) (some (.int (f_X3_isMember x0 x1))) ([]) := by
  refine Ct.of (cc := cX3_isMember) (maxL := 2) (ret := (some .boolean)) (own := RX3) (by decide) rfl rfl (Nat.le_of_ble_eq_true rfl) ?_
  intro p e s m args below meth c A ls B hP hD hS hl
  obtain ⟨hx, hb, hret, hml, hts, hown, hlocks, hE, hA⟩ := id B
  have hK := hE.1
  have hl : lv_has ls 2 [(0, .int x0), (1, .int x1)] := hl
  refine lv_iload_n hx hb dX3_isMember_0 rfl (lv_at hl 0 rfl) ?_
  refine lv_iload_n hx hb dX3_isMember_1 rfl (lv_at hl 1 rfl) ?_
  refine lv_ishr hx hb dX3_isMember_2 ?_
  refine lv_iconst (v := (1 : Int32)) hx hb dX3_isMember_3 (by decide) ?_
  refine lv_iand hx hb dX3_isMember_4 ?_
  refine lv_iconst (v := (1 : Int32)) hx hb dX3_isMember_5 (by decide) ?_
  refine lv_icmp_ne (tgt := 13) hx hb dX3_isMember_6 (by decide) (fun c_6 => ?_) (fun c_6 => ?_)
  · refine lv_iconst (v := (0 : Int32)) hx hb dX3_isMember_13 (by decide) ?_
    have hF : f_X3_isMember x0 x1 = (0 : Int32) := by rw [f_X3_isMember, if_neg c_6]
    rw [hF]
    exact kr_z B hP hS rfl rfl (Or.inl rfl) dX3_isMember_14
  · refine lv_iconst (v := (1 : Int32)) hx hb dX3_isMember_9 (by decide) ?_
    refine lv_goto (tgt := 14) hx hb dX3_isMember_10 (by decide) ?_
    have hF : f_X3_isMember x0 x1 = (1 : Int32) := by rw [f_X3_isMember, if_pos c_6]
    rw [hF]
    exact kr_z B hP hS rfl rfl (Or.inr rfl) dX3_isMember_14
def f_X3_says (x0 : Int32) (x1 : Int32) (x2 : Int32) : Int32 := (if x2 ≤ 0 then (if x0 = (1 : Int32) then (if ((0 : Int32) - (1 : Int32)) < (0 : Int32) then (0 : Int32) else ((0 : Int32) - (1 : Int32))) else (if x0 = (2 : Int32) then ((2 : Int32) * (0 : Int32)) else (0 : Int32))) else (if x0 = (1 : Int32) then (if ((x1 / x2) - (1 : Int32)) < (0 : Int32) then (0 : Int32) else ((x1 / x2) - (1 : Int32))) else (if x0 = (2 : Int32) then ((2 : Int32) * (x1 / x2)) else (x1 / x2))))
set_option maxHeartbeats 4000000 in
set_option maxRecDepth 100000 in
theorem c_X3_says (l : Launch) (D : va_G) (cI cO : ClassId) (tF : Nat) (x0 : Int32) (x1 : Int32) (x2 : Int32) : Ct l yX3_says wsX3_says ({ frames := 1, cells := 0, slots := 0, locals := 24 }) D cI cO tF [.int x0, .int x1, .int x2] ([]) (some (.int (f_X3_says x0 x1 x2))) ([]) := by
  refine Ct.of (cc := cX3_says) (maxL := 4) (ret := (some .int)) (own := RX3) (by decide) rfl rfl (Nat.le_of_ble_eq_true rfl) ?_
  intro p e s m args below meth c A ls B hP hD hS hl
  obtain ⟨hx, hb, hret, hml, hts, hown, hlocks, hE, hA⟩ := id B
  have hK := hE.1
  have hl : lv_has ls 4 [(0, .int x0), (1, .int x1), (2, .int x2)] := hl
  refine lv_iload_n hx hb dX3_says_0 rfl (lv_at hl 2 rfl) ?_
  refine lv_if_le (tgt := 10) hx hb dX3_says_1 (by decide) (fun c_1 => ?_) (fun c_1 => ?_)
  · refine lv_iconst (v := (0 : Int32)) hx hb dX3_says_10 (by decide) ?_
    refine lv_istore_n (lv' := [(3, .int (0 : Int32)), (0, .int x0), (1, .int x1), (2, .int x2)]) hx hb dX3_says_11 rfl hl (by decide) rfl (fun ls hl => ?_)
    refine lv_iload_n hx hb dX3_says_12 rfl (lv_at hl 1 rfl) ?_
    by_cases c_13_1 : x0 = (1 : Int32)
    · refine lv_lookup (off := 27) (tgt := 40) hx hb dX3_says_13 (by decide) (by rw [c_13_1]; rfl) (by decide) ?_
      refine lv_iload_n hx hb dX3_says_40 rfl (lv_at hl 0 rfl) ?_
      refine lv_iconst (v := (1 : Int32)) hx hb dX3_says_41 (by decide) ?_
      refine lv_isub hx hb dX3_says_42 ?_
      refine lv_iconst (v := (0 : Int32)) hx hb dX3_says_43 (by decide) ?_
      refine va_mmax hx hb (hml.trans hl.1.symm) hown (hts (.methodLink RX3 212 Lib.Math.max.name) (by decide +kernel)) (hts (.static Lib.Math.max.name) (by decide +kernel)) (hts (.initialized "java/lang/Math") (by decide +kernel)) (hts (.code Lib.Math.max.name Lib.Math.max.code 2 (some .int)) (by decide +kernel)) (Nat.le_of_ble_eq_true rfl) (Nat.le_of_ble_eq_true rfl) (Nat.zero_le _) (Nat.zero_le _) dX3_says_44 ?_
      have hF : f_X3_says x0 x1 x2 = (if ((0 : Int32) - (1 : Int32)) < (0 : Int32) then (0 : Int32) else ((0 : Int32) - (1 : Int32))) := by rw [f_X3_says, if_pos c_1, if_pos c_13_1]
      rw [hF]
      exact kr_i B hP hS rfl rfl dX3_says_47
    by_cases c_13_2 : x0 = (2 : Int32)
    · refine lv_lookup (off := 35) (tgt := 48) hx hb dX3_says_13 (by decide) (by rw [c_13_2]; rfl) (by decide) ?_
      refine lv_iconst (v := (2 : Int32)) hx hb dX3_says_48 (by decide) ?_
      refine lv_iload_n hx hb dX3_says_49 rfl (lv_at hl 0 rfl) ?_
      refine lv_imul hx hb dX3_says_50 ?_
      have hF : f_X3_says x0 x1 x2 = ((2 : Int32) * (0 : Int32)) := by rw [f_X3_says, if_pos c_1, if_neg c_13_1, if_pos c_13_2]
      rw [hF]
      exact kr_i B hP hS rfl rfl dX3_says_51
    refine lv_lookup (off := 39) (tgt := 52) hx hb dX3_says_13 (by decide) (by show Op.lookupswitch.offset [(1, 27), (2, 35)] 39 _ = _; rw [Op.lookupswitch.offset_cons, if_neg (fun h => c_13_1 ((fa_eq _ _).mpr h.symm)), Op.lookupswitch.offset_cons, if_neg (fun h => c_13_2 ((fa_eq _ _).mpr h.symm)), Op.lookupswitch.offset_nil]) (by decide) ?_
    refine lv_iload_n hx hb dX3_says_52 rfl (lv_at hl 0 rfl) ?_
    have hF : f_X3_says x0 x1 x2 = (0 : Int32) := by rw [f_X3_says, if_pos c_1, if_neg c_13_1, if_neg c_13_2]
    rw [hF]
    exact kr_i B hP hS rfl rfl dX3_says_53
  · refine lv_iload_n hx hb dX3_says_4 rfl (lv_at hl 1 rfl) ?_
    refine lv_iload_n hx hb dX3_says_5 rfl (lv_at hl 2 rfl) ?_
    refine lv_idiv hx hb dX3_says_6 (by intro h; exact absurd c_1 (by rw [h]; decide)) ?_
    refine lv_goto (tgt := 11) hx hb dX3_says_7 (by decide) ?_
    refine lv_istore_n (lv' := [(3, .int (x1 / x2)), (0, .int x0), (1, .int x1), (2, .int x2)]) hx hb dX3_says_11 rfl hl (by decide) rfl (fun ls hl => ?_)
    refine lv_iload_n hx hb dX3_says_12 rfl (lv_at hl 1 rfl) ?_
    by_cases c_13_1 : x0 = (1 : Int32)
    · refine lv_lookup (off := 27) (tgt := 40) hx hb dX3_says_13 (by decide) (by rw [c_13_1]; rfl) (by decide) ?_
      refine lv_iload_n hx hb dX3_says_40 rfl (lv_at hl 0 rfl) ?_
      refine lv_iconst (v := (1 : Int32)) hx hb dX3_says_41 (by decide) ?_
      refine lv_isub hx hb dX3_says_42 ?_
      refine lv_iconst (v := (0 : Int32)) hx hb dX3_says_43 (by decide) ?_
      refine va_mmax hx hb (hml.trans hl.1.symm) hown (hts (.methodLink RX3 212 Lib.Math.max.name) (by decide +kernel)) (hts (.static Lib.Math.max.name) (by decide +kernel)) (hts (.initialized "java/lang/Math") (by decide +kernel)) (hts (.code Lib.Math.max.name Lib.Math.max.code 2 (some .int)) (by decide +kernel)) (Nat.le_of_ble_eq_true rfl) (Nat.le_of_ble_eq_true rfl) (Nat.zero_le _) (Nat.zero_le _) dX3_says_44 ?_
      have hF : f_X3_says x0 x1 x2 = (if ((x1 / x2) - (1 : Int32)) < (0 : Int32) then (0 : Int32) else ((x1 / x2) - (1 : Int32))) := by rw [f_X3_says, if_neg c_1, if_pos c_13_1]
      rw [hF]
      exact kr_i B hP hS rfl rfl dX3_says_47
    by_cases c_13_2 : x0 = (2 : Int32)
    · refine lv_lookup (off := 35) (tgt := 48) hx hb dX3_says_13 (by decide) (by rw [c_13_2]; rfl) (by decide) ?_
      refine lv_iconst (v := (2 : Int32)) hx hb dX3_says_48 (by decide) ?_
      refine lv_iload_n hx hb dX3_says_49 rfl (lv_at hl 0 rfl) ?_
      refine lv_imul hx hb dX3_says_50 ?_
      have hF : f_X3_says x0 x1 x2 = ((2 : Int32) * (x1 / x2)) := by rw [f_X3_says, if_neg c_1, if_neg c_13_1, if_pos c_13_2]
      rw [hF]
      exact kr_i B hP hS rfl rfl dX3_says_51
    refine lv_lookup (off := 39) (tgt := 52) hx hb dX3_says_13 (by decide) (by show Op.lookupswitch.offset [(1, 27), (2, 35)] 39 _ = _; rw [Op.lookupswitch.offset_cons, if_neg (fun h => c_13_1 ((fa_eq _ _).mpr h.symm)), Op.lookupswitch.offset_cons, if_neg (fun h => c_13_2 ((fa_eq _ _).mpr h.symm)), Op.lookupswitch.offset_nil]) (by decide) ?_
    refine lv_iload_n hx hb dX3_says_52 rfl (lv_at hl 0 rfl) ?_
    have hF : f_X3_says x0 x1 x2 = (x1 / x2) := by rw [f_X3_says, if_neg c_1, if_neg c_13_1, if_neg c_13_2]
    rw [hF]
    exact kr_i B hP hS rfl rfl dX3_says_53
def f_X2_has (T : TN) (x1 : Int32) : Int32 := (if x1 < 0 then (0 : Int32) else (if (T_count T) ≤ x1 then (0 : Int32) else (1 : Int32)))
theorem iw_X2_has_2 : ∀ w ∈ wsX20, w ∈ wsX2_has := fun _ h => List.mem_cons_of_mem _ (List.mem_append_right _ h)
theorem bb_X2_has (T : TN) (x1 : Int32) : f_X2_has T x1 = 0 ∨ f_X2_has T x1 = 1 := by
  unfold f_X2_has
  repeat' split
  all_goals first | exact Or.inl rfl | exact Or.inr rfl
set_option maxHeartbeats 4000000 in
set_option maxRecDepth 100000 in
theorem c_X2_has (l : Launch) (D : va_G) (cI cO : ClassId) (tF : Nat) (a0 a1 a2 a3 : Nat) (T : TN) (x1 : Int32) : Ct l yX2_has wsX2_has ({ frames := 0, cells := 0, slots := 0, locals := 0 }) D cI cO tF [.ref a0, .int x1] (wT a0 a1 a2 a3 cI T) (some (.int (f_X2_has T x1))) (wT a0 a1 a2 a3 cI T) := by
  refine Ct.of (cc := cX2_has) (maxL := 2) (ret := (some .boolean)) (own := RX2) (by decide) rfl rfl (Nat.le_of_ble_eq_true rfl) ?_
  intro p e s m args below meth c A ls B hP hD hS hl
  obtain ⟨hx, hb, hret, hml, hts, hown, hlocks, hE, hA⟩ := id B
  have hK := hE.1
  have hl : lv_has ls 2 [(0, .ref a0), (1, .int x1)] := hl
  refine lv_iload_n hx hb dX2_has_0 rfl (lv_at hl 1 rfl) ?_
  refine lv_if_lt (tgt := 16) hx hb dX2_has_1 (by decide) (fun c_1 => ?_) (fun c_1 => ?_)
  · refine lv_iconst (v := (0 : Int32)) hx hb dX2_has_16 (by decide) ?_
    have hF : f_X2_has T x1 = (0 : Int32) := by rw [f_X2_has, if_pos c_1]
    rw [hF]
    exact kr_z B hP hS rfl rfl (Or.inl rfl) dX2_has_17
  · refine lv_iload_n hx hb dX2_has_4 rfl (lv_at hl 1 rfl) ?_
    refine lv_aload_n hx hb dX2_has_5 rfl (lv_at hl 0 rfl) ?_
    refine va_get (D := D) (ci := 2) (v := .int (T_count T)) (C := RX2) (T := TX2) (N := 6) hx hb hts iw_X2_has_2 hown hK hP 0 rfl rfl 3 (by decide) (hts (.fieldLink RX2 30 "TownLisp$Town" "count" "I") (by decide +kernel)) (fun _ h9 => h9) rfl dX2_has_6 ?_
    refine lv_icmp_ge (tgt := 16) hx hb dX2_has_9 (by decide) (fun c_9 => ?_) (fun c_9 => ?_)
    · refine lv_iconst (v := (0 : Int32)) hx hb dX2_has_16 (by decide) ?_
      have hF : f_X2_has T x1 = (0 : Int32) := by rw [f_X2_has, if_neg c_1, if_pos c_9]
      rw [hF]
      exact kr_z B hP hS rfl rfl (Or.inl rfl) dX2_has_17
    · refine lv_iconst (v := (1 : Int32)) hx hb dX2_has_12 (by decide) ?_
      refine lv_goto (tgt := 17) hx hb dX2_has_13 (by decide) ?_
      have hF : f_X2_has T x1 = (1 : Int32) := by rw [f_X2_has, if_neg c_1, if_neg c_9]
      rw [hF]
      exact kr_z B hP hS rfl rfl (Or.inr rfl) dX2_has_17
def f_X2_isIn (T : TN) (x1 : Int32) : Int32 := (f_X3_isMember (T_inside T) x1)
theorem iw_X2_isIn_2 : ∀ w ∈ wsX20, w ∈ wsX2_isIn := fun _ h => List.mem_cons_of_mem _ (List.mem_append_right _ h)
theorem bb_X2_isIn (T : TN) (x1 : Int32) : f_X2_isIn T x1 = 0 ∨ f_X2_isIn T x1 = 1 := by
  unfold f_X2_isIn
  repeat' split
  all_goals first | exact Or.inl rfl | exact Or.inr rfl | exact bb_X3_isMember _ _
set_option maxHeartbeats 4000000 in
set_option maxRecDepth 100000 in
theorem c_X2_isIn (l : Launch) (D : va_G) (cI cO : ClassId) (tF : Nat) (a0 a1 a2 a3 : Nat) (T : TN) (x1 : Int32) : Ct l yX2_isIn wsX2_isIn ({ frames := 1, cells := 0, slots := 0, locals := 21 }) D cI cO tF [.ref a0, .int x1] (wT a0 a1 a2 a3 cI T) (some (.int (f_X2_isIn T x1))) (wT a0 a1 a2 a3 cI T) := by
  refine Ct.of (cc := cX2_isIn) (maxL := 2) (ret := (some .boolean)) (own := RX2) (by decide) rfl rfl (Nat.le_of_ble_eq_true rfl) ?_
  intro p e s m args below meth c A ls B hP hD hS hl
  obtain ⟨hx, hb, hret, hml, hts, hown, hlocks, hE, hA⟩ := id B
  have hK := hE.1
  have hl : lv_has ls 2 [(0, .ref a0), (1, .int x1)] := hl
  refine lv_aload_n hx hb dX2_isIn_0 rfl (lv_at hl 0 rfl) ?_
  refine va_get (D := D) (ci := 2) (v := .int (T_inside T)) (C := RX2) (T := TX2) (N := 6) hx hb hts iw_X2_isIn_2 hown hK hP 0 rfl rfl 4 (by decide) (hts (.fieldLink RX2 41 "TownLisp$Town" "inside" "I") (by decide +kernel)) (fun _ h9 => h9) rfl dX2_isIn_1 ?_
  refine lv_iload_n hx hb dX2_isIn_4 rfl (lv_at hl 1 rfl) ?_
  refine kc_SN (As := [.int (T_inside T), .int x1]) (rest := []) B (c_X3_isMember l D cI cO tF (T_inside T) x1 ) ⟨va_cnB (host := RX3) 2 hts gX2_isIn_X3_isMember_n53 rfl rfl rfl hE.2.1.1 (hts (.initialized RX3) (by decide +kernel)) (by decide +kernel) ⟨Nat.le_of_ble_eq_true rfl, Nat.le_of_ble_eq_true rfl⟩, hts (.static yX3_isMember) (by decide +kernel), trivial⟩ hP hD hS [] rfl (by decide) (w' := wT a0 a1 a2 a3 cI T) rfl rfl rfl hl.1 rfl (Nat.le_of_ble_eq_true rfl) dX2_isIn_5 ⟨Nat.zero_le _, Nat.zero_le _⟩ (fun H locs hP hD hS => ?_)
  have hD : va_D A (wT a0 a1 a2 a3 cI T) := hD
  have hF : f_X2_isIn T x1 = (f_X3_isMember (T_inside T) x1) := by rw [f_X2_isIn]
  rw [hF]
  exact kr_z B hP hS rfl rfl (bb_X3_isMember _ _) dX2_isIn_8
def f_X2_heads (T : TN) : Int32 := (f_J6_bitCount_0f7a4 (T_inside T))
theorem iw_X2_heads_2 : ∀ w ∈ wsX20, w ∈ wsX2_heads := fun _ h => List.mem_cons_of_mem _ (List.mem_append_right _ h)
set_option maxHeartbeats 4000000 in
set_option maxRecDepth 100000 in
theorem c_X2_heads (l : Launch) (D : va_G) (cI cO : ClassId) (tF : Nat) (a0 a1 a2 a3 : Nat) (T : TN) : Ct l yX2_heads wsX2_heads ({ frames := 1, cells := 0, slots := 0, locals := 20 }) D cI cO tF [.ref a0] (wT a0 a1 a2 a3 cI T) (some (.int (f_X2_heads T))) (wT a0 a1 a2 a3 cI T) := by
  refine Ct.of (cc := cX2_heads) (maxL := 1) (ret := (some .int)) (own := RX2) (by decide) rfl rfl (Nat.le_of_ble_eq_true rfl) ?_
  intro p e s m args below meth c A ls B hP hD hS hl
  obtain ⟨hx, hb, hret, hml, hts, hown, hlocks, hE, hA⟩ := id B
  have hK := hE.1
  have hl : lv_has ls 1 [(0, .ref a0)] := hl
  refine lv_aload_n hx hb dX2_heads_0 rfl (lv_at hl 0 rfl) ?_
  refine va_get (D := D) (ci := 2) (v := .int (T_inside T)) (C := RX2) (T := TX2) (N := 6) hx hb hts iw_X2_heads_2 hown hK hP 0 rfl rfl 4 (by decide) (hts (.fieldLink RX2 41 "TownLisp$Town" "inside" "I") (by decide +kernel)) (fun _ h9 => h9) rfl dX2_heads_1 ?_
  refine kc_S (As := [.int (T_inside T)]) (rest := []) B (c_J6_bitCount_0f7a4 l D cI cO tF (T_inside T) ) (va_cwS 1 hts gX2_heads_J6_bitCount_0f7a4 rfl rfl rfl (by decide +kernel) ⟨Nat.le_of_ble_eq_true rfl, Nat.le_of_ble_eq_true rfl⟩) hP hD hS [] rfl (by decide) (w' := wT a0 a1 a2 a3 cI T) rfl rfl rfl hl.1 rfl (Nat.le_of_ble_eq_true rfl) dX2_heads_4 ⟨Nat.zero_le _, Nat.zero_le _⟩ (fun H locs hP hD hS => ?_)
  have hD : va_D A (wT a0 a1 a2 a3 cI T) := hD
  have hF : f_X2_heads T = (f_J6_bitCount_0f7a4 (T_inside T)) := by rw [f_X2_heads]
  rw [hF]
  exact kr_i B hP hS rfl rfl dX2_heads_7
def f_X2_allSets (T : TN) : Int32 := ((1 : Int32) <<< ((T_count T) &&& 31))
theorem iw_X2_allSets_2 : ∀ w ∈ wsX20, w ∈ wsX2_allSets := fun _ h => List.mem_cons_of_mem _ (List.mem_append_right _ h)
set_option maxHeartbeats 4000000 in
set_option maxRecDepth 100000 in
theorem c_X2_allSets (l : Launch) (D : va_G) (cI cO : ClassId) (tF : Nat) (a0 a1 a2 a3 : Nat) (T : TN) : Ct l yX2_allSets wsX2_allSets ({ frames := 0, cells := 0, slots := 0, locals := 0 }) D cI cO tF [.ref a0] (wT a0 a1 a2 a3 cI T) (some (.int (f_X2_allSets T))) (wT a0 a1 a2 a3 cI T) := by
  refine Ct.of (cc := cX2_allSets) (maxL := 1) (ret := (some .int)) (own := RX2) (by decide) rfl rfl (Nat.le_of_ble_eq_true rfl) ?_
  intro p e s m args below meth c A ls B hP hD hS hl
  obtain ⟨hx, hb, hret, hml, hts, hown, hlocks, hE, hA⟩ := id B
  have hK := hE.1
  have hl : lv_has ls 1 [(0, .ref a0)] := hl
  refine lv_iconst (v := (1 : Int32)) hx hb dX2_allSets_0 (by decide) ?_
  refine lv_aload_n hx hb dX2_allSets_1 rfl (lv_at hl 0 rfl) ?_
  refine va_get (D := D) (ci := 2) (v := .int (T_count T)) (C := RX2) (T := TX2) (N := 6) hx hb hts iw_X2_allSets_2 hown hK hP 0 rfl rfl 3 (by decide) (hts (.fieldLink RX2 30 "TownLisp$Town" "count" "I") (by decide +kernel)) (fun _ h9 => h9) rfl dX2_allSets_2 ?_
  refine lv_ishl hx hb dX2_allSets_5 ?_
  have hF : f_X2_allSets T = ((1 : Int32) <<< ((T_count T) &&& 31)) := by rw [f_X2_allSets]
  rw [hF]
  exact kr_i B hP hS rfl rfl dX2_allSets_6
def fL_X2_partsOf_4 (T : TN) (x1 : Int32) : Nat → Int32 → Int32 → Int32
  | 0, _, _ => 0
  | k + 1, x2, x3 => (if (T_count T) ≤ x3 then x2 else (if (f_X3_isMember x1 x3) = 0 then fL_X2_partsOf_4 T x1 k (x2 + (0 : Int32)) (x3 + (1 : Int32)) else fL_X2_partsOf_4 T x1 k (x2 + ((T_parts T) x3.toNatClampNeg)) (x3 + (1 : Int32))))
def f_X2_partsOf (T : TN) (x1 : Int32) : Int32 := fL_X2_partsOf_4 T x1 7 (0 : Int32) (0 : Int32)
theorem iw_X2_partsOf_2 : ∀ w ∈ wsX20, w ∈ wsX2_partsOf := fun _ h => List.mem_cons_of_mem _ (List.mem_append_right _ h)
set_option maxHeartbeats 4000000 in
set_option maxRecDepth 100000 in
theorem L_X2_partsOf_4 {p : Program} (l : Launch) {e : Env} {s : State} {m : MethodId} {args : Array Value} {below : List Frame} {meth : Method} {c : Code} {A : Nat → Prop} (D : va_G) (cI cO : ClassId) (tF : Nat) (a0 a1 a2 a3 : Nat) (T : TN) (x1 : Int32) (hn : (T_count T).toInt ≤ 6) (B : Bx p s m args meth c cX2_partsOf 4 (some .int) wsX2_partsOf RX2 D cI cO tF A) : ∀ (k : Nat) (x2 : Int32) (x3 : Int32), (0 ≤ x3.toInt) → (((T_count T).toInt - x3.toInt).toNat < k) → ∀ (H : Heap) (locs : List Loc), va_P D vwCl (wT a0 a1 a2 a3 cI T) H → va_D A (wT a0 a1 a2 a3 cI T) → va_S A s.heap H locs → ∀ ls : Array Slot, lv_has ls 4 [(0, .ref a0), (1, .int x1), (2, .int x2), (3, .int x3)] → W p l e ({ frames := 1, cells := 0, slots := 0, locals := 21 }) s m args below meth c H locs 0 0 (MQ below (Qp D (some (.int (fL_X2_partsOf_4 T x1 k x2 x3))) (wT a0 a1 a2 a3 cI T) A) args s 0 0 A) (F0 m 4 ls []) := by
  obtain ⟨hx, hb, hret, hml, hts, hown, hlocks, hE, hA⟩ := id B
  have hK := hE.1
  intro k
  induction k with
  | zero =>
    intro x2 x3 h0 hk
    exact absurd hk (Nat.not_lt_zero _)
  | succ k ih =>
    intro x2 x3 h0 hk H locs hP hD hS ls hl
    refine lv_iload_n hx hb dX2_partsOf_4 rfl (lv_at hl 3 rfl) ?_
    refine lv_aload_n hx hb dX2_partsOf_5 rfl (lv_at hl 0 rfl) ?_
    refine va_get (D := D) (ci := 2) (v := .int (T_count T)) (C := RX2) (T := TX2) (N := 6) hx hb hts iw_X2_partsOf_2 hown hK hP 0 rfl rfl 3 (by decide) (hts (.fieldLink RX2 30 "TownLisp$Town" "count" "I") (by decide +kernel)) (fun _ h9 => h9) rfl dX2_partsOf_6 ?_
    refine lv_icmp_ge (tgt := 39) hx hb dX2_partsOf_9 (by decide) (fun c_9 => ?_) (fun c_9 => ?_)
    · refine lv_iload_n hx hb dX2_partsOf_39 rfl (lv_at hl 2 rfl) ?_
      have hF : fL_X2_partsOf_4 T x1 (k + 1) x2 x3 = x2 := by rw [fL_X2_partsOf_4, if_pos c_9]
      rw [hF]
      exact kr_i B hP hS rfl rfl dX2_partsOf_40
    · refine lv_iload_n hx hb dX2_partsOf_12 rfl (lv_at hl 2 rfl) ?_
      refine lv_iload_n hx hb dX2_partsOf_13 rfl (lv_at hl 1 rfl) ?_
      refine lv_iload_n hx hb dX2_partsOf_14 rfl (lv_at hl 3 rfl) ?_
      refine kc_SN (As := [.int x1, .int x3]) (rest := [.int x2]) B (c_X3_isMember l D cI cO tF x1 x3 ) ⟨va_cnB (host := RX3) 2 hts gX2_partsOf_X3_isMember_n53 rfl rfl rfl hE.2.1.1 (hts (.initialized RX3) (by decide +kernel)) (by decide +kernel) ⟨Nat.le_of_ble_eq_true rfl, Nat.le_of_ble_eq_true rfl⟩, hts (.static yX3_isMember) (by decide +kernel), trivial⟩ hP hD hS [] rfl (by decide) (w' := wT a0 a1 a2 a3 cI T) rfl rfl rfl hl.1 rfl (Nat.le_of_ble_eq_true rfl) dX2_partsOf_15 ⟨Nat.zero_le _, Nat.zero_le _⟩ (fun H locs hP hD hS => ?_)
      have hD : va_D A (wT a0 a1 a2 a3 cI T) := hD
      refine lv_if_eq (tgt := 30) hx hb dX2_partsOf_18 (by decide) (fun c_18 => ?_) (fun c_18 => ?_)
      · refine lv_iconst (v := (0 : Int32)) hx hb dX2_partsOf_30 (by decide) ?_
        refine lv_iadd hx hb dX2_partsOf_31 ?_
        refine lv_istore_n (lv' := [(2, .int (x2 + (0 : Int32))), (0, .ref a0), (1, .int x1), (3, .int x3)]) hx hb dX2_partsOf_32 rfl hl (by decide) rfl (fun ls hl => ?_)
        refine lv_iinc (v := (x3 + (1 : Int32))) (lv' := [(3, .int (x3 + (1 : Int32))), (2, .int (x2 + (0 : Int32))), (0, .ref a0), (1, .int x1)]) hx hb dX2_partsOf_33 hl (k := 3) rfl rfl (by decide) rfl (fun ls hl => ?_)
        refine lv_goto (tgt := 4) hx hb dX2_partsOf_36 (by decide) ?_
        have hF : fL_X2_partsOf_4 T x1 (k + 1) x2 x3 = fL_X2_partsOf_4 T x1 k (x2 + (0 : Int32)) (x3 + (1 : Int32)) := by rw [fL_X2_partsOf_4, if_neg c_9, if_pos c_18]
        rw [hF]
        exact ih (x2 + (0 : Int32)) (x3 + (1 : Int32)) (lp_pre h0 c_9) (lp_mu h0 c_9 hk) _ _ hP hD hS ls (lv_sub hl [2, 3, 1, 0] rfl)
      · refine lv_aload_n hx hb dX2_partsOf_21 rfl (lv_at hl 0 rfl) ?_
        refine va_get (D := D) (ci := 2) (v := .ref a2) (C := RX2) (T := TX2) (N := 6) hx hb hts iw_X2_partsOf_2 hown hK hP 0 rfl rfl 1 (by decide) (hts (.fieldLink RX2 15 "TownLisp$Town" "parts" "[I") (by decide +kernel)) (fun _ h9 => h9) rfl dX2_partsOf_22 ?_
        refine lv_iload_n hx hb dX2_partsOf_25 rfl (lv_at hl 3 rfl) ?_
        refine va_iald hx hb hK hP 2 0 rfl rfl (lp_in h0 hn c_9) dX2_partsOf_26 ?_
        refine lv_goto (tgt := 31) hx hb dX2_partsOf_27 (by decide) ?_
        refine lv_iadd hx hb dX2_partsOf_31 ?_
        refine lv_istore_n (lv' := [(2, .int (x2 + ((T_parts T) x3.toNatClampNeg))), (0, .ref a0), (1, .int x1), (3, .int x3)]) hx hb dX2_partsOf_32 rfl hl (by decide) rfl (fun ls hl => ?_)
        refine lv_iinc (v := (x3 + (1 : Int32))) (lv' := [(3, .int (x3 + (1 : Int32))), (2, .int (x2 + ((T_parts T) x3.toNatClampNeg))), (0, .ref a0), (1, .int x1)]) hx hb dX2_partsOf_33 hl (k := 3) rfl rfl (by decide) rfl (fun ls hl => ?_)
        refine lv_goto (tgt := 4) hx hb dX2_partsOf_36 (by decide) ?_
        have hF : fL_X2_partsOf_4 T x1 (k + 1) x2 x3 = fL_X2_partsOf_4 T x1 k (x2 + ((T_parts T) x3.toNatClampNeg)) (x3 + (1 : Int32)) := by rw [fL_X2_partsOf_4, if_neg c_9, if_neg c_18]
        rw [hF]
        exact ih (x2 + ((T_parts T) x3.toNatClampNeg)) (x3 + (1 : Int32)) (lp_pre h0 c_9) (lp_mu h0 c_9 hk) _ _ hP hD hS ls (lv_sub hl [2, 3, 1, 0] rfl)
set_option maxHeartbeats 4000000 in
set_option maxRecDepth 100000 in
theorem c_X2_partsOf (l : Launch) (D : va_G) (cI cO : ClassId) (tF : Nat) (a0 a1 a2 a3 : Nat) (T : TN) (x1 : Int32) (hn : (T_count T).toInt ≤ 6) : Ct l yX2_partsOf wsX2_partsOf ({ frames := 1, cells := 0, slots := 0, locals := 21 }) D cI cO tF [.ref a0, .int x1] (wT a0 a1 a2 a3 cI T) (some (.int (f_X2_partsOf T x1))) (wT a0 a1 a2 a3 cI T) := by
  refine Ct.of (cc := cX2_partsOf) (maxL := 4) (ret := (some .int)) (own := RX2) (by decide) rfl rfl (Nat.le_of_ble_eq_true rfl) ?_
  intro p e s m args below meth c A ls B hP hD hS hl
  obtain ⟨hx, hb, hret, hml, hts, hown, hlocks, hE, hA⟩ := id B
  have hK := hE.1
  have hl : lv_has ls 4 [(0, .ref a0), (1, .int x1)] := hl
  refine lv_iconst (v := (0 : Int32)) hx hb dX2_partsOf_0 (by decide) ?_
  refine lv_istore_n (lv' := [(2, .int (0 : Int32)), (0, .ref a0), (1, .int x1)]) hx hb dX2_partsOf_1 rfl hl (by decide) rfl (fun ls hl => ?_)
  refine lv_iconst (v := (0 : Int32)) hx hb dX2_partsOf_2 (by decide) ?_
  refine lv_istore_n (lv' := [(3, .int (0 : Int32)), (2, .int (0 : Int32)), (0, .ref a0), (1, .int x1)]) hx hb dX2_partsOf_3 rfl hl (by decide) rfl (fun ls hl => ?_)
  have hF : f_X2_partsOf T x1 = fL_X2_partsOf_4 T x1 7 (0 : Int32) (0 : Int32) := by rw [f_X2_partsOf]
  rw [hF]
  exact L_X2_partsOf_4 l D cI cO tF a0 a1 a2 a3 T x1 hn B  7 (0 : Int32) (0 : Int32) (Int.le_refl _) (by rw [show (0 : Int32).toInt = 0 from rfl]; omega) _ _ hP hD hS ls (lv_sub hl [2, 3, 1, 0] rfl)
def f_X2_saysNow (T : TN) (x1 : Int32) : Int32 := (f_X3_says ((T_kind T) x1.toNatClampNeg) ((T_parts T) x1.toNatClampNeg) ((T_thick T) x1.toNatClampNeg))
theorem iw_X2_saysNow_2 : ∀ w ∈ wsX20, w ∈ wsX2_saysNow := fun _ h => List.mem_cons_of_mem _ (List.mem_append_right _ h)
set_option maxHeartbeats 4000000 in
set_option maxRecDepth 100000 in
theorem c_X2_saysNow (l : Launch) (D : va_G) (cI cO : ClassId) (tF : Nat) (a0 a1 a2 a3 : Nat) (T : TN) (x1 : Int32) (hp : vp_in x1 6) : Ct l yX2_saysNow wsX2_saysNow ({ frames := 2, cells := 0, slots := 0, locals := 47 }) D cI cO tF [.ref a0, .int x1] (wT a0 a1 a2 a3 cI T) (some (.int (f_X2_saysNow T x1))) (wT a0 a1 a2 a3 cI T) := by
  refine Ct.of (cc := cX2_saysNow) (maxL := 2) (ret := (some .int)) (own := RX2) (by decide) rfl rfl (Nat.le_of_ble_eq_true rfl) ?_
  intro p e s m args below meth c A ls B hP hD hS hl
  obtain ⟨hx, hb, hret, hml, hts, hown, hlocks, hE, hA⟩ := id B
  have hK := hE.1
  have hl : lv_has ls 2 [(0, .ref a0), (1, .int x1)] := hl
  refine lv_aload_n hx hb dX2_saysNow_0 rfl (lv_at hl 0 rfl) ?_
  refine va_get (D := D) (ci := 2) (v := .ref a1) (C := RX2) (T := TX2) (N := 6) hx hb hts iw_X2_saysNow_2 hown hK hP 0 rfl rfl 0 (by decide) (hts (.fieldLink RX2 9 "TownLisp$Town" "kind" "[I") (by decide +kernel)) (fun _ h9 => h9) rfl dX2_saysNow_1 ?_
  refine lv_iload_n hx hb dX2_saysNow_4 rfl (lv_at hl 1 rfl) ?_
  refine va_iald hx hb hK hP 1 0 rfl rfl (hp) dX2_saysNow_5 ?_
  refine lv_aload_n hx hb dX2_saysNow_6 rfl (lv_at hl 0 rfl) ?_
  refine va_get (D := D) (ci := 2) (v := .ref a2) (C := RX2) (T := TX2) (N := 6) hx hb hts iw_X2_saysNow_2 hown hK hP 0 rfl rfl 1 (by decide) (hts (.fieldLink RX2 15 "TownLisp$Town" "parts" "[I") (by decide +kernel)) (fun _ h9 => h9) rfl dX2_saysNow_7 ?_
  refine lv_iload_n hx hb dX2_saysNow_10 rfl (lv_at hl 1 rfl) ?_
  refine va_iald hx hb hK hP 2 0 rfl rfl (hp) dX2_saysNow_11 ?_
  refine lv_aload_n hx hb dX2_saysNow_12 rfl (lv_at hl 0 rfl) ?_
  refine va_get (D := D) (ci := 2) (v := .ref a3) (C := RX2) (T := TX2) (N := 6) hx hb hts iw_X2_saysNow_2 hown hK hP 0 rfl rfl 2 (by decide) (hts (.fieldLink RX2 18 "TownLisp$Town" "thick" "[I") (by decide +kernel)) (fun _ h9 => h9) rfl dX2_saysNow_13 ?_
  refine lv_iload_n hx hb dX2_saysNow_16 rfl (lv_at hl 1 rfl) ?_
  refine va_iald hx hb hK hP 3 0 rfl rfl (hp) dX2_saysNow_17 ?_
  refine kc_SN (As := [.int ((T_kind T) x1.toNatClampNeg), .int ((T_parts T) x1.toNatClampNeg), .int ((T_thick T) x1.toNatClampNeg)]) (rest := []) B (c_X3_says l D cI cO tF ((T_kind T) x1.toNatClampNeg) ((T_parts T) x1.toNatClampNeg) ((T_thick T) x1.toNatClampNeg) ) ⟨va_cnB (host := RX3) 3 hts gX2_saysNow_X3_says_n62 rfl rfl rfl hE.2.1.2.1 (hts (.initialized RX3) (by decide +kernel)) (by decide +kernel) ⟨Nat.le_of_ble_eq_true rfl, Nat.le_of_ble_eq_true rfl⟩, hts (.static yX3_says) (by decide +kernel), trivial⟩ hP hD hS [] rfl (by decide) (w' := wT a0 a1 a2 a3 cI T) rfl rfl rfl hl.1 rfl (Nat.le_of_ble_eq_true rfl) dX2_saysNow_18 ⟨Nat.zero_le _, Nat.zero_le _⟩ (fun H locs hP hD hS => ?_)
  have hD : va_D A (wT a0 a1 a2 a3 cI T) := hD
  have hF : f_X2_saysNow T x1 = (f_X3_says ((T_kind T) x1.toNatClampNeg) ((T_parts T) x1.toNatClampNeg) ((T_thick T) x1.toNatClampNeg)) := by rw [f_X2_saysNow]
  rw [hF]
  exact kr_i B hP hS rfl rfl dX2_saysNow_21
def fL_X2_allSay_4 (T : TN) : Nat → Int32 → Int32 → Int32
  | 0, _, _ => 0
  | k + 1, x1, x2 => (if (T_count T) ≤ x2 then x1 else (if (f_X2_isIn T x2) = 0 then fL_X2_allSay_4 T k (x1 + (0 : Int32)) (x2 + (1 : Int32)) else fL_X2_allSay_4 T k (x1 + (f_X2_saysNow T x2)) (x2 + (1 : Int32))))
def f_X2_allSay (T : TN) : Int32 := fL_X2_allSay_4 T 7 (0 : Int32) (0 : Int32)
theorem iw_X2_allSay_2 : ∀ w ∈ wsX20, w ∈ wsX2_allSay := fun _ h => List.mem_cons_of_mem _ (List.mem_append_right _ h)
set_option maxHeartbeats 4000000 in
set_option maxRecDepth 100000 in
theorem L_X2_allSay_4 {p : Program} (l : Launch) {e : Env} {s : State} {m : MethodId} {args : Array Value} {below : List Frame} {meth : Method} {c : Code} {A : Nat → Prop} (D : va_G) (cI cO : ClassId) (tF : Nat) (a0 a1 a2 a3 : Nat) (T : TN) (hn : (T_count T).toInt ≤ 6) (B : Bx p s m args meth c cX2_allSay 3 (some .int) wsX2_allSay RX2 D cI cO tF A) : ∀ (k : Nat) (x1 : Int32) (x2 : Int32), (0 ≤ x2.toInt) → (((T_count T).toInt - x2.toInt).toNat < k) → ∀ (H : Heap) (locs : List Loc), va_P D vwCl (wT a0 a1 a2 a3 cI T) H → va_D A (wT a0 a1 a2 a3 cI T) → va_S A s.heap H locs → ∀ ls : Array Slot, lv_has ls 3 [(0, .ref a0), (1, .int x1), (2, .int x2)] → W p l e ({ frames := 3, cells := 0, slots := 0, locals := 68 }) s m args below meth c H locs 0 0 (MQ below (Qp D (some (.int (fL_X2_allSay_4 T k x1 x2))) (wT a0 a1 a2 a3 cI T) A) args s 0 0 A) (F0 m 4 ls []) := by
  obtain ⟨hx, hb, hret, hml, hts, hown, hlocks, hE, hA⟩ := id B
  have hK := hE.1
  intro k
  induction k with
  | zero =>
    intro x1 x2 h0 hk
    exact absurd hk (Nat.not_lt_zero _)
  | succ k ih =>
    intro x1 x2 h0 hk H locs hP hD hS ls hl
    refine lv_iload_n hx hb dX2_allSay_4 rfl (lv_at hl 2 rfl) ?_
    refine lv_aload_n hx hb dX2_allSay_5 rfl (lv_at hl 0 rfl) ?_
    refine va_get (D := D) (ci := 2) (v := .int (T_count T)) (C := RX2) (T := TX2) (N := 6) hx hb hts iw_X2_allSay_2 hown hK hP 0 rfl rfl 3 (by decide) (hts (.fieldLink RX2 30 "TownLisp$Town" "count" "I") (by decide +kernel)) (fun _ h9 => h9) rfl dX2_allSay_6 ?_
    refine lv_icmp_ge (tgt := 38) hx hb dX2_allSay_9 (by decide) (fun c_9 => ?_) (fun c_9 => ?_)
    · refine lv_iload_n hx hb dX2_allSay_38 rfl (lv_at hl 1 rfl) ?_
      have hF : fL_X2_allSay_4 T (k + 1) x1 x2 = x1 := by rw [fL_X2_allSay_4, if_pos c_9]
      rw [hF]
      exact kr_i B hP hS rfl rfl dX2_allSay_39
    · refine lv_iload_n hx hb dX2_allSay_12 rfl (lv_at hl 1 rfl) ?_
      refine lv_aload_n hx hb dX2_allSay_13 rfl (lv_at hl 0 rfl) ?_
      refine lv_iload_n hx hb dX2_allSay_14 rfl (lv_at hl 2 rfl) ?_
      refine kc_V (As := [.int x2]) (rest := [.int x1]) B (c_X2_isIn l D cI cO tF a0 a1 a2 a3 T x2 ) (cwV 1 hts gX2_allSay_X2_isIn rfl rfl rfl (by decide +kernel) ⟨Nat.le_of_ble_eq_true rfl, Nat.le_of_ble_eq_true rfl⟩) hP hD hS [0, 1, 2, 3] rfl (by decide) (w' := wT a0 a1 a2 a3 cI T) rfl rfl 0 2 rfl rfl rfl rfl hl.1 rfl (Nat.le_of_ble_eq_true rfl) dX2_allSay_15 ⟨Nat.zero_le _, Nat.zero_le _⟩ (fun H locs hP hD hS => ?_)
      have hD : va_D A (wT a0 a1 a2 a3 cI T) := hD
      refine lv_if_eq (tgt := 29) hx hb dX2_allSay_18 (by decide) (fun c_18 => ?_) (fun c_18 => ?_)
      · refine lv_iconst (v := (0 : Int32)) hx hb dX2_allSay_29 (by decide) ?_
        refine lv_iadd hx hb dX2_allSay_30 ?_
        refine lv_istore_n (lv' := [(1, .int (x1 + (0 : Int32))), (0, .ref a0), (2, .int x2)]) hx hb dX2_allSay_31 rfl hl (by decide) rfl (fun ls hl => ?_)
        refine lv_iinc (v := (x2 + (1 : Int32))) (lv' := [(2, .int (x2 + (1 : Int32))), (1, .int (x1 + (0 : Int32))), (0, .ref a0)]) hx hb dX2_allSay_32 hl (k := 2) rfl rfl (by decide) rfl (fun ls hl => ?_)
        refine lv_goto (tgt := 4) hx hb dX2_allSay_35 (by decide) ?_
        have hF : fL_X2_allSay_4 T (k + 1) x1 x2 = fL_X2_allSay_4 T k (x1 + (0 : Int32)) (x2 + (1 : Int32)) := by rw [fL_X2_allSay_4, if_neg c_9, if_pos c_18]
        rw [hF]
        exact ih (x1 + (0 : Int32)) (x2 + (1 : Int32)) (lp_pre h0 c_9) (lp_mu h0 c_9 hk) _ _ hP hD hS ls (lv_sub hl [2, 1, 0] rfl)
      · refine lv_aload_n hx hb dX2_allSay_21 rfl (lv_at hl 0 rfl) ?_
        refine lv_iload_n hx hb dX2_allSay_22 rfl (lv_at hl 2 rfl) ?_
        refine kc_V (As := [.int x2]) (rest := [.int x1]) B (c_X2_saysNow l D cI cO tF a0 a1 a2 a3 T x2 (lp_in h0 hn c_9)) (cwV 1 hts gX2_allSay_X2_saysNow rfl rfl rfl (by decide +kernel) ⟨Nat.le_of_ble_eq_true rfl, Nat.le_of_ble_eq_true rfl⟩) hP hD hS [0, 1, 2, 3] rfl (by decide) (w' := wT a0 a1 a2 a3 cI T) rfl rfl 0 2 rfl rfl rfl rfl hl.1 rfl (Nat.le_of_ble_eq_true rfl) dX2_allSay_23 ⟨Nat.zero_le _, Nat.zero_le _⟩ (fun H locs hP hD hS => ?_)
        have hD : va_D A (wT a0 a1 a2 a3 cI T) := hD
        refine lv_goto (tgt := 30) hx hb dX2_allSay_26 (by decide) ?_
        refine lv_iadd hx hb dX2_allSay_30 ?_
        refine lv_istore_n (lv' := [(1, .int (x1 + (f_X2_saysNow T x2))), (0, .ref a0), (2, .int x2)]) hx hb dX2_allSay_31 rfl hl (by decide) rfl (fun ls hl => ?_)
        refine lv_iinc (v := (x2 + (1 : Int32))) (lv' := [(2, .int (x2 + (1 : Int32))), (1, .int (x1 + (f_X2_saysNow T x2))), (0, .ref a0)]) hx hb dX2_allSay_32 hl (k := 2) rfl rfl (by decide) rfl (fun ls hl => ?_)
        refine lv_goto (tgt := 4) hx hb dX2_allSay_35 (by decide) ?_
        have hF : fL_X2_allSay_4 T (k + 1) x1 x2 = fL_X2_allSay_4 T k (x1 + (f_X2_saysNow T x2)) (x2 + (1 : Int32)) := by rw [fL_X2_allSay_4, if_neg c_9, if_neg c_18]
        rw [hF]
        exact ih (x1 + (f_X2_saysNow T x2)) (x2 + (1 : Int32)) (lp_pre h0 c_9) (lp_mu h0 c_9 hk) _ _ hP hD hS ls (lv_sub hl [2, 1, 0] rfl)
set_option maxHeartbeats 4000000 in
set_option maxRecDepth 100000 in
theorem c_X2_allSay (l : Launch) (D : va_G) (cI cO : ClassId) (tF : Nat) (a0 a1 a2 a3 : Nat) (T : TN) (hn : (T_count T).toInt ≤ 6) : Ct l yX2_allSay wsX2_allSay ({ frames := 3, cells := 0, slots := 0, locals := 68 }) D cI cO tF [.ref a0] (wT a0 a1 a2 a3 cI T) (some (.int (f_X2_allSay T))) (wT a0 a1 a2 a3 cI T) := by
  refine Ct.of (cc := cX2_allSay) (maxL := 3) (ret := (some .int)) (own := RX2) (by decide) rfl rfl (Nat.le_of_ble_eq_true rfl) ?_
  intro p e s m args below meth c A ls B hP hD hS hl
  obtain ⟨hx, hb, hret, hml, hts, hown, hlocks, hE, hA⟩ := id B
  have hK := hE.1
  have hl : lv_has ls 3 [(0, .ref a0)] := hl
  refine lv_iconst (v := (0 : Int32)) hx hb dX2_allSay_0 (by decide) ?_
  refine lv_istore_n (lv' := [(1, .int (0 : Int32)), (0, .ref a0)]) hx hb dX2_allSay_1 rfl hl (by decide) rfl (fun ls hl => ?_)
  refine lv_iconst (v := (0 : Int32)) hx hb dX2_allSay_2 (by decide) ?_
  refine lv_istore_n (lv' := [(2, .int (0 : Int32)), (1, .int (0 : Int32)), (0, .ref a0)]) hx hb dX2_allSay_3 rfl hl (by decide) rfl (fun ls hl => ?_)
  have hF : f_X2_allSay T = fL_X2_allSay_4 T 7 (0 : Int32) (0 : Int32) := by rw [f_X2_allSay]
  rw [hF]
  exact L_X2_allSay_4 l D cI cO tF a0 a1 a2 a3 T  hn B  7 (0 : Int32) (0 : Int32) (Int.le_refl _) (by rw [show (0 : Int32).toInt = 0 from rfl]; omega) _ _ hP hD hS ls (lv_sub hl [2, 1, 0] rfl)
