theorem dk_J6_bitCount_0f7a4 : yJ6_bitCount_0f7a4.cls ≠ "java/lang/invoke/MethodHandle" ∧ yJ6_bitCount_0f7a4.cls ≠ "java/lang/invoke/VarHandle" ∧ (parseMethodDescriptor yJ6_bitCount_0f7a4.desc).map (fun d => d.parameters.length) = some 1 := by decide +kernel
set_option maxHeartbeats 4000000 in
set_option maxRecDepth 100000 in
theorem k_J6_bitCount_0f7a4 {l : Launch} {G : Gx} (x0 : Int32) {r : Int32} (hf : f_J6_bitCount_0f7a4 x0 = some r) : FC l G yJ6_bitCount_0f7a4 wsJ6_bitCount_0f7a4 ({ frames := 0, cells := 0, slots := 0, locals := 0 } : Room) [.int x0] ([] : va_W) ([] : va_W) (some (.int r)) := by
  refine fc_head (cc := cJ6_bitCount_0f7a4) (maxL := 1) (ret := (some .int)) (C := RJ6) (lv := [(0, .int x0)]) (by decide) rfl rfl (Nat.le_of_ble_eq_true rfl) rfl ?_
  intro p e s m below meth c ls A hx hb hr hml hown hts hlocks hE hP hD hAB hS hl
  have hCF : CallFix p m c cJ6_bitCount_0f7a4 1 s ([.int x0] : List Value).toArray wsJ6_bitCount_0f7a4 RJ6 := ⟨hx, hb, hml, hown, hts⟩
  have hk_constant_RJ6_265__1431655765_ := hts (.constant RJ6 265 (1431655765)) (List.mem_of_getElem? (i := 1) rfl)
  have hk_constant_RJ6_266__858993459_ := hts (.constant RJ6 266 (858993459)) (List.mem_of_getElem? (i := 2) rfl)
  have hk_constant_RJ6_267__252645135_ := hts (.constant RJ6 267 (252645135)) (List.mem_of_getElem? (i := 3) rfl)
  rw [f_J6_bitCount_0f7a4] at hf
  refine lv_iload_n hx hb dJ6_bitCount_0f7a4_0 rfl (lv_at hl 0 rfl) ?_
  refine lv_iload_n hx hb dJ6_bitCount_0f7a4_1 rfl (lv_at hl 0 rfl) ?_
  refine lv_iconst (v := (1 : Int32)) hx hb dJ6_bitCount_0f7a4_2 (by decide) ?_
  refine lv_iushr (v := (x0.toUInt32 >>> ((1 : Int32).toUInt32 &&& Int32.toUInt32 31)).toInt32) hx hb dJ6_bitCount_0f7a4_3 rfl ?_
  refine lv_ldcw (v := (1431655765 : Int32)) hx hb hown hk_constant_RJ6_265__1431655765_ dJ6_bitCount_0f7a4_4 ?_
  refine lv_iand hx hb dJ6_bitCount_0f7a4_7 ?_
  refine lv_isub hx hb dJ6_bitCount_0f7a4_8 ?_
  refine lv_istore_n (lv' := [(0, .int (x0 - (((x0.toUInt32 >>> ((1 : Int32).toUInt32 &&& Int32.toUInt32 31)).toInt32) &&& (1431655765 : Int32))))]) hx hb dJ6_bitCount_0f7a4_9 rfl hl (by decide) rfl (fun ls hl => ?_)
  refine lv_iload_n hx hb dJ6_bitCount_0f7a4_10 rfl (lv_at hl 0 rfl) ?_
  refine lv_ldcw (v := (858993459 : Int32)) hx hb hown hk_constant_RJ6_266__858993459_ dJ6_bitCount_0f7a4_11 ?_
  refine lv_iand hx hb dJ6_bitCount_0f7a4_14 ?_
  refine lv_iload_n hx hb dJ6_bitCount_0f7a4_15 rfl (lv_at hl 0 rfl) ?_
  refine lv_iconst (v := (2 : Int32)) hx hb dJ6_bitCount_0f7a4_16 (by decide) ?_
  refine lv_iushr (v := ((x0 - (((x0.toUInt32 >>> ((1 : Int32).toUInt32 &&& Int32.toUInt32 31)).toInt32) &&& (1431655765 : Int32))).toUInt32 >>> ((2 : Int32).toUInt32 &&& Int32.toUInt32 31)).toInt32) hx hb dJ6_bitCount_0f7a4_17 rfl ?_
  refine lv_ldcw (v := (858993459 : Int32)) hx hb hown hk_constant_RJ6_266__858993459_ dJ6_bitCount_0f7a4_18 ?_
  refine lv_iand hx hb dJ6_bitCount_0f7a4_21 ?_
  refine lv_iadd hx hb dJ6_bitCount_0f7a4_22 ?_
  refine lv_istore_n (lv' := [(0, .int (((x0 - (((x0.toUInt32 >>> ((1 : Int32).toUInt32 &&& Int32.toUInt32 31)).toInt32) &&& (1431655765 : Int32))) &&& (858993459 : Int32)) + ((((x0 - (((x0.toUInt32 >>> ((1 : Int32).toUInt32 &&& Int32.toUInt32 31)).toInt32) &&& (1431655765 : Int32))).toUInt32 >>> ((2 : Int32).toUInt32 &&& Int32.toUInt32 31)).toInt32) &&& (858993459 : Int32))))]) hx hb dJ6_bitCount_0f7a4_23 rfl hl (by decide) rfl (fun ls hl => ?_)
  refine lv_iload_n hx hb dJ6_bitCount_0f7a4_24 rfl (lv_at hl 0 rfl) ?_
  refine lv_iload_n hx hb dJ6_bitCount_0f7a4_25 rfl (lv_at hl 0 rfl) ?_
  refine lv_iconst (v := (4 : Int32)) hx hb dJ6_bitCount_0f7a4_26 (by decide) ?_
  refine lv_iushr (v := ((((x0 - (((x0.toUInt32 >>> ((1 : Int32).toUInt32 &&& Int32.toUInt32 31)).toInt32) &&& (1431655765 : Int32))) &&& (858993459 : Int32)) + ((((x0 - (((x0.toUInt32 >>> ((1 : Int32).toUInt32 &&& Int32.toUInt32 31)).toInt32) &&& (1431655765 : Int32))).toUInt32 >>> ((2 : Int32).toUInt32 &&& Int32.toUInt32 31)).toInt32) &&& (858993459 : Int32))).toUInt32 >>> ((4 : Int32).toUInt32 &&& Int32.toUInt32 31)).toInt32) hx hb dJ6_bitCount_0f7a4_27 rfl ?_
  refine lv_iadd hx hb dJ6_bitCount_0f7a4_28 ?_
  refine lv_ldcw (v := (252645135 : Int32)) hx hb hown hk_constant_RJ6_267__252645135_ dJ6_bitCount_0f7a4_29 ?_
  refine lv_iand hx hb dJ6_bitCount_0f7a4_32 ?_
  refine lv_istore_n (lv' := [(0, .int (((((x0 - (((x0.toUInt32 >>> ((1 : Int32).toUInt32 &&& Int32.toUInt32 31)).toInt32) &&& (1431655765 : Int32))) &&& (858993459 : Int32)) + ((((x0 - (((x0.toUInt32 >>> ((1 : Int32).toUInt32 &&& Int32.toUInt32 31)).toInt32) &&& (1431655765 : Int32))).toUInt32 >>> ((2 : Int32).toUInt32 &&& Int32.toUInt32 31)).toInt32) &&& (858993459 : Int32))) + (((((x0 - (((x0.toUInt32 >>> ((1 : Int32).toUInt32 &&& Int32.toUInt32 31)).toInt32) &&& (1431655765 : Int32))) &&& (858993459 : Int32)) + ((((x0 - (((x0.toUInt32 >>> ((1 : Int32).toUInt32 &&& Int32.toUInt32 31)).toInt32) &&& (1431655765 : Int32))).toUInt32 >>> ((2 : Int32).toUInt32 &&& Int32.toUInt32 31)).toInt32) &&& (858993459 : Int32))).toUInt32 >>> ((4 : Int32).toUInt32 &&& Int32.toUInt32 31)).toInt32)) &&& (252645135 : Int32)))]) hx hb dJ6_bitCount_0f7a4_33 rfl hl (by decide) rfl (fun ls hl => ?_)
  refine lv_iload_n hx hb dJ6_bitCount_0f7a4_34 rfl (lv_at hl 0 rfl) ?_
  refine lv_iload_n hx hb dJ6_bitCount_0f7a4_35 rfl (lv_at hl 0 rfl) ?_
  refine lv_bipush (v := (8 : Int32)) hx hb dJ6_bitCount_0f7a4_36 (by decide) ?_
  refine lv_iushr (v := ((((((x0 - (((x0.toUInt32 >>> ((1 : Int32).toUInt32 &&& Int32.toUInt32 31)).toInt32) &&& (1431655765 : Int32))) &&& (858993459 : Int32)) + ((((x0 - (((x0.toUInt32 >>> ((1 : Int32).toUInt32 &&& Int32.toUInt32 31)).toInt32) &&& (1431655765 : Int32))).toUInt32 >>> ((2 : Int32).toUInt32 &&& Int32.toUInt32 31)).toInt32) &&& (858993459 : Int32))) + (((((x0 - (((x0.toUInt32 >>> ((1 : Int32).toUInt32 &&& Int32.toUInt32 31)).toInt32) &&& (1431655765 : Int32))) &&& (858993459 : Int32)) + ((((x0 - (((x0.toUInt32 >>> ((1 : Int32).toUInt32 &&& Int32.toUInt32 31)).toInt32) &&& (1431655765 : Int32))).toUInt32 >>> ((2 : Int32).toUInt32 &&& Int32.toUInt32 31)).toInt32) &&& (858993459 : Int32))).toUInt32 >>> ((4 : Int32).toUInt32 &&& Int32.toUInt32 31)).toInt32)) &&& (252645135 : Int32)).toUInt32 >>> ((8 : Int32).toUInt32 &&& Int32.toUInt32 31)).toInt32) hx hb dJ6_bitCount_0f7a4_38 rfl ?_
  refine lv_iadd hx hb dJ6_bitCount_0f7a4_39 ?_
  refine lv_istore_n (lv' := [(0, .int ((((((x0 - (((x0.toUInt32 >>> ((1 : Int32).toUInt32 &&& Int32.toUInt32 31)).toInt32) &&& (1431655765 : Int32))) &&& (858993459 : Int32)) + ((((x0 - (((x0.toUInt32 >>> ((1 : Int32).toUInt32 &&& Int32.toUInt32 31)).toInt32) &&& (1431655765 : Int32))).toUInt32 >>> ((2 : Int32).toUInt32 &&& Int32.toUInt32 31)).toInt32) &&& (858993459 : Int32))) + (((((x0 - (((x0.toUInt32 >>> ((1 : Int32).toUInt32 &&& Int32.toUInt32 31)).toInt32) &&& (1431655765 : Int32))) &&& (858993459 : Int32)) + ((((x0 - (((x0.toUInt32 >>> ((1 : Int32).toUInt32 &&& Int32.toUInt32 31)).toInt32) &&& (1431655765 : Int32))).toUInt32 >>> ((2 : Int32).toUInt32 &&& Int32.toUInt32 31)).toInt32) &&& (858993459 : Int32))).toUInt32 >>> ((4 : Int32).toUInt32 &&& Int32.toUInt32 31)).toInt32)) &&& (252645135 : Int32)) + (((((((x0 - (((x0.toUInt32 >>> ((1 : Int32).toUInt32 &&& Int32.toUInt32 31)).toInt32) &&& (1431655765 : Int32))) &&& (858993459 : Int32)) + ((((x0 - (((x0.toUInt32 >>> ((1 : Int32).toUInt32 &&& Int32.toUInt32 31)).toInt32) &&& (1431655765 : Int32))).toUInt32 >>> ((2 : Int32).toUInt32 &&& Int32.toUInt32 31)).toInt32) &&& (858993459 : Int32))) + (((((x0 - (((x0.toUInt32 >>> ((1 : Int32).toUInt32 &&& Int32.toUInt32 31)).toInt32) &&& (1431655765 : Int32))) &&& (858993459 : Int32)) + ((((x0 - (((x0.toUInt32 >>> ((1 : Int32).toUInt32 &&& Int32.toUInt32 31)).toInt32) &&& (1431655765 : Int32))).toUInt32 >>> ((2 : Int32).toUInt32 &&& Int32.toUInt32 31)).toInt32) &&& (858993459 : Int32))).toUInt32 >>> ((4 : Int32).toUInt32 &&& Int32.toUInt32 31)).toInt32)) &&& (252645135 : Int32)).toUInt32 >>> ((8 : Int32).toUInt32 &&& Int32.toUInt32 31)).toInt32)))]) hx hb dJ6_bitCount_0f7a4_40 rfl hl (by decide) rfl (fun ls hl => ?_)
  refine lv_iload_n hx hb dJ6_bitCount_0f7a4_41 rfl (lv_at hl 0 rfl) ?_
  refine lv_iload_n hx hb dJ6_bitCount_0f7a4_42 rfl (lv_at hl 0 rfl) ?_
  refine lv_bipush (v := (16 : Int32)) hx hb dJ6_bitCount_0f7a4_43 (by decide) ?_
  refine lv_iushr (v := (((((((x0 - (((x0.toUInt32 >>> ((1 : Int32).toUInt32 &&& Int32.toUInt32 31)).toInt32) &&& (1431655765 : Int32))) &&& (858993459 : Int32)) + ((((x0 - (((x0.toUInt32 >>> ((1 : Int32).toUInt32 &&& Int32.toUInt32 31)).toInt32) &&& (1431655765 : Int32))).toUInt32 >>> ((2 : Int32).toUInt32 &&& Int32.toUInt32 31)).toInt32) &&& (858993459 : Int32))) + (((((x0 - (((x0.toUInt32 >>> ((1 : Int32).toUInt32 &&& Int32.toUInt32 31)).toInt32) &&& (1431655765 : Int32))) &&& (858993459 : Int32)) + ((((x0 - (((x0.toUInt32 >>> ((1 : Int32).toUInt32 &&& Int32.toUInt32 31)).toInt32) &&& (1431655765 : Int32))).toUInt32 >>> ((2 : Int32).toUInt32 &&& Int32.toUInt32 31)).toInt32) &&& (858993459 : Int32))).toUInt32 >>> ((4 : Int32).toUInt32 &&& Int32.toUInt32 31)).toInt32)) &&& (252645135 : Int32)) + (((((((x0 - (((x0.toUInt32 >>> ((1 : Int32).toUInt32 &&& Int32.toUInt32 31)).toInt32) &&& (1431655765 : Int32))) &&& (858993459 : Int32)) + ((((x0 - (((x0.toUInt32 >>> ((1 : Int32).toUInt32 &&& Int32.toUInt32 31)).toInt32) &&& (1431655765 : Int32))).toUInt32 >>> ((2 : Int32).toUInt32 &&& Int32.toUInt32 31)).toInt32) &&& (858993459 : Int32))) + (((((x0 - (((x0.toUInt32 >>> ((1 : Int32).toUInt32 &&& Int32.toUInt32 31)).toInt32) &&& (1431655765 : Int32))) &&& (858993459 : Int32)) + ((((x0 - (((x0.toUInt32 >>> ((1 : Int32).toUInt32 &&& Int32.toUInt32 31)).toInt32) &&& (1431655765 : Int32))).toUInt32 >>> ((2 : Int32).toUInt32 &&& Int32.toUInt32 31)).toInt32) &&& (858993459 : Int32))).toUInt32 >>> ((4 : Int32).toUInt32 &&& Int32.toUInt32 31)).toInt32)) &&& (252645135 : Int32)).toUInt32 >>> ((8 : Int32).toUInt32 &&& Int32.toUInt32 31)).toInt32)).toUInt32 >>> ((16 : Int32).toUInt32 &&& Int32.toUInt32 31)).toInt32) hx hb dJ6_bitCount_0f7a4_45 rfl ?_
  refine lv_iadd hx hb dJ6_bitCount_0f7a4_46 ?_
  refine lv_istore_n (lv' := [(0, .int (((((((x0 - (((x0.toUInt32 >>> ((1 : Int32).toUInt32 &&& Int32.toUInt32 31)).toInt32) &&& (1431655765 : Int32))) &&& (858993459 : Int32)) + ((((x0 - (((x0.toUInt32 >>> ((1 : Int32).toUInt32 &&& Int32.toUInt32 31)).toInt32) &&& (1431655765 : Int32))).toUInt32 >>> ((2 : Int32).toUInt32 &&& Int32.toUInt32 31)).toInt32) &&& (858993459 : Int32))) + (((((x0 - (((x0.toUInt32 >>> ((1 : Int32).toUInt32 &&& Int32.toUInt32 31)).toInt32) &&& (1431655765 : Int32))) &&& (858993459 : Int32)) + ((((x0 - (((x0.toUInt32 >>> ((1 : Int32).toUInt32 &&& Int32.toUInt32 31)).toInt32) &&& (1431655765 : Int32))).toUInt32 >>> ((2 : Int32).toUInt32 &&& Int32.toUInt32 31)).toInt32) &&& (858993459 : Int32))).toUInt32 >>> ((4 : Int32).toUInt32 &&& Int32.toUInt32 31)).toInt32)) &&& (252645135 : Int32)) + (((((((x0 - (((x0.toUInt32 >>> ((1 : Int32).toUInt32 &&& Int32.toUInt32 31)).toInt32) &&& (1431655765 : Int32))) &&& (858993459 : Int32)) + ((((x0 - (((x0.toUInt32 >>> ((1 : Int32).toUInt32 &&& Int32.toUInt32 31)).toInt32) &&& (1431655765 : Int32))).toUInt32 >>> ((2 : Int32).toUInt32 &&& Int32.toUInt32 31)).toInt32) &&& (858993459 : Int32))) + (((((x0 - (((x0.toUInt32 >>> ((1 : Int32).toUInt32 &&& Int32.toUInt32 31)).toInt32) &&& (1431655765 : Int32))) &&& (858993459 : Int32)) + ((((x0 - (((x0.toUInt32 >>> ((1 : Int32).toUInt32 &&& Int32.toUInt32 31)).toInt32) &&& (1431655765 : Int32))).toUInt32 >>> ((2 : Int32).toUInt32 &&& Int32.toUInt32 31)).toInt32) &&& (858993459 : Int32))).toUInt32 >>> ((4 : Int32).toUInt32 &&& Int32.toUInt32 31)).toInt32)) &&& (252645135 : Int32)).toUInt32 >>> ((8 : Int32).toUInt32 &&& Int32.toUInt32 31)).toInt32)) + ((((((((x0 - (((x0.toUInt32 >>> ((1 : Int32).toUInt32 &&& Int32.toUInt32 31)).toInt32) &&& (1431655765 : Int32))) &&& (858993459 : Int32)) + ((((x0 - (((x0.toUInt32 >>> ((1 : Int32).toUInt32 &&& Int32.toUInt32 31)).toInt32) &&& (1431655765 : Int32))).toUInt32 >>> ((2 : Int32).toUInt32 &&& Int32.toUInt32 31)).toInt32) &&& (858993459 : Int32))) + (((((x0 - (((x0.toUInt32 >>> ((1 : Int32).toUInt32 &&& Int32.toUInt32 31)).toInt32) &&& (1431655765 : Int32))) &&& (858993459 : Int32)) + ((((x0 - (((x0.toUInt32 >>> ((1 : Int32).toUInt32 &&& Int32.toUInt32 31)).toInt32) &&& (1431655765 : Int32))).toUInt32 >>> ((2 : Int32).toUInt32 &&& Int32.toUInt32 31)).toInt32) &&& (858993459 : Int32))).toUInt32 >>> ((4 : Int32).toUInt32 &&& Int32.toUInt32 31)).toInt32)) &&& (252645135 : Int32)) + (((((((x0 - (((x0.toUInt32 >>> ((1 : Int32).toUInt32 &&& Int32.toUInt32 31)).toInt32) &&& (1431655765 : Int32))) &&& (858993459 : Int32)) + ((((x0 - (((x0.toUInt32 >>> ((1 : Int32).toUInt32 &&& Int32.toUInt32 31)).toInt32) &&& (1431655765 : Int32))).toUInt32 >>> ((2 : Int32).toUInt32 &&& Int32.toUInt32 31)).toInt32) &&& (858993459 : Int32))) + (((((x0 - (((x0.toUInt32 >>> ((1 : Int32).toUInt32 &&& Int32.toUInt32 31)).toInt32) &&& (1431655765 : Int32))) &&& (858993459 : Int32)) + ((((x0 - (((x0.toUInt32 >>> ((1 : Int32).toUInt32 &&& Int32.toUInt32 31)).toInt32) &&& (1431655765 : Int32))).toUInt32 >>> ((2 : Int32).toUInt32 &&& Int32.toUInt32 31)).toInt32) &&& (858993459 : Int32))).toUInt32 >>> ((4 : Int32).toUInt32 &&& Int32.toUInt32 31)).toInt32)) &&& (252645135 : Int32)).toUInt32 >>> ((8 : Int32).toUInt32 &&& Int32.toUInt32 31)).toInt32)).toUInt32 >>> ((16 : Int32).toUInt32 &&& Int32.toUInt32 31)).toInt32)))]) hx hb dJ6_bitCount_0f7a4_47 rfl hl (by decide) rfl (fun ls hl => ?_)
  refine lv_iload_n hx hb dJ6_bitCount_0f7a4_48 rfl (lv_at hl 0 rfl) ?_
  refine lv_bipush (v := (63 : Int32)) hx hb dJ6_bitCount_0f7a4_49 (by decide) ?_
  refine lv_iand hx hb dJ6_bitCount_0f7a4_51 ?_
  exact fc_reti hx hb hr hlocks hP hS dJ6_bitCount_0f7a4_52 (i1 hf) rfl
theorem dk_J0_isEmpty_aae02 : yJ0_isEmpty_aae02.cls ≠ "java/lang/invoke/MethodHandle" ∧ yJ0_isEmpty_aae02.cls ≠ "java/lang/invoke/VarHandle" ∧ (parseMethodDescriptor yJ0_isEmpty_aae02.desc).map (fun d => d.parameters.length) = some 0 := by decide +kernel
theorem lt6_J0_isEmpty_aae02 {k : Nat} {r : Int32} (h : f_J0_isEmpty_aae02 k = some r) : k < 6 := by
  rw [f_J0_isEmpty_aae02] at h
  exact of_decide_eq_true (gd_some h).1
set_option maxHeartbeats 4000000 in
set_option maxRecDepth 100000 in
theorem k_J0_isEmpty_aae02 {l : Launch} {G : Gx} (k : Nat) {r : Int32} (hf : f_J0_isEmpty_aae02 k = some r) : FC l G yJ0_isEmpty_aae02 wsJ0_isEmpty_aae02 ({ frames := 0, cells := 0, slots := 0, locals := 0 } : Room) [.ref (gK G k)] ([] : va_W) ([] : va_W) (some (.int r)) := by
  refine fc_head (cc := cJ0_isEmpty_aae02) (maxL := 1) (ret := (some .boolean)) (C := RJ0) (lv := [(0, .ref (gK G k))]) (by decide) rfl rfl (Nat.le_of_ble_eq_true rfl) rfl ?_
  intro p e s m below meth c ls A hx hb hr hml hown hts hlocks hE hP hD hAB hS hl
  have hCF : CallFix p m c cJ0_isEmpty_aae02 1 s ([.ref (gK G k)] : List Value).toArray wsJ0_isEmpty_aae02 RJ0 := ⟨hx, hb, hml, hown, hts⟩
  have hk_fieldLink_RJ0_9__java_lang_String___value____B_ := hts (.fieldLink RJ0 9 "java/lang/String" "value" "[B") (List.mem_of_getElem? (i := 1) rfl)
  rw [f_J0_isEmpty_aae02] at hf
  obtain ⟨hk6, hf⟩ := gd_some hf
  have hk6 := of_decide_eq_true hk6
  refine lv_aload_n hx hb dJ0_isEmpty_aae02_0 rfl (lv_at hl 0 rfl) ?_
  refine vk_getf hx hb ((hE.2.2.1.narrow hAB).2.2.2.2.1 k hk6).2.2.1 hS hown hk_fieldLink_RJ0_9__java_lang_String___value____B_ (fun _ h => h) dJ0_isEmpty_aae02_1 ?_
  refine va_tlen (ty := .byte) (N := strLen.getD k 0) (v := (Int32.ofNat (strLen.getD k 0))) hx hb ((hE.2.2.1.narrow hAB).2.2.2.2.1 k hk6).2.2.2 hS rfl dJ0_isEmpty_aae02_4 ?_
  refine lv_if_ne (tgt := 12) hx hb dJ0_isEmpty_aae02_5 (by decide) (fun c1 => ?_) (fun c1 => ?_)
  · have hf := ifF hf c1
    refine lv_iconst (v := (0 : Int32)) hx hb dJ0_isEmpty_aae02_12 (by decide) ?_
    exact fc_retz hx hb hr hlocks hP hS dJ0_isEmpty_aae02_13 (by decide) (i1 hf) rfl
  · have hf := ifT hf c1
    refine lv_iconst (v := (1 : Int32)) hx hb dJ0_isEmpty_aae02_8 (by decide) ?_
    refine lv_goto (tgt := 13) hx hb dJ0_isEmpty_aae02_9 (by decide) ?_
    exact fc_retz hx hb hr hlocks hP hS dJ0_isEmpty_aae02_13 (by decide) (i1 hf) rfl
theorem dk_J0_coder_7d493 : yJ0_coder_7d493.cls ≠ "java/lang/invoke/MethodHandle" ∧ yJ0_coder_7d493.cls ≠ "java/lang/invoke/VarHandle" ∧ (parseMethodDescriptor yJ0_coder_7d493.desc).map (fun d => d.parameters.length) = some 0 := by decide +kernel
theorem lt6_J0_coder_7d493 {k : Nat} {r : Int32} (h : f_J0_coder_7d493 k = some r) : k < 6 := by
  rw [f_J0_coder_7d493] at h
  exact of_decide_eq_true (gd_some h).1
set_option maxHeartbeats 4000000 in
set_option maxRecDepth 100000 in
theorem k_J0_coder_7d493 {l : Launch} {G : Gx} (k : Nat) {r : Int32} (hf : f_J0_coder_7d493 k = some r) : FC l G yJ0_coder_7d493 wsJ0_coder_7d493 ({ frames := 0, cells := 0, slots := 0, locals := 0 } : Room) [.ref (gK G k)] ([] : va_W) ([] : va_W) (some (.int r)) := by
  refine fc_head (cc := cJ0_coder_7d493) (maxL := 1) (ret := (some .byte)) (C := RJ0) (lv := [(0, .ref (gK G k))]) (by decide) rfl rfl (Nat.le_of_ble_eq_true rfl) rfl ?_
  intro p e s m below meth c ls A hx hb hr hml hown hts hlocks hE hP hD hAB hS hl
  have hCF : CallFix p m c cJ0_coder_7d493 1 s ([.ref (gK G k)] : List Value).toArray wsJ0_coder_7d493 RJ0 := ⟨hx, hb, hml, hown, hts⟩
  have hk_fieldLink_RJ0_38__java_lang_String___COMPACT_STRINGS___Z_ := hts (.fieldLink RJ0 38 "java/lang/String" "COMPACT_STRINGS" "Z") (List.mem_of_getElem? (i := 1) rfl)
  have hk_fieldLink_RJ0_15__java_lang_String___coder___B_ := hts (.fieldLink RJ0 15 "java/lang/String" "coder" "B") (List.mem_of_getElem? (i := 2) rfl)
  rw [f_J0_coder_7d493] at hf
  obtain ⟨hk6, hf⟩ := gd_some hf
  have hk6 := of_decide_eq_true hk6
  refine va_gets hx hb ((hE.2.2.1.narrow hAB).2.2.1) hS hown hk_fieldLink_RJ0_38__java_lang_String___COMPACT_STRINGS___Z_ (fun _ h => h) dJ0_coder_7d493_0 ?_
  refine lv_if_eq (tgt := 13) hx hb dJ0_coder_7d493_3 (by decide) (fun z => absurd z (by decide)) (fun _ => ?_)
  refine lv_aload_n hx hb dJ0_coder_7d493_6 rfl (lv_at hl 0 rfl) ?_
  refine vk_getf hx hb ((hE.2.2.1.narrow hAB).2.2.2.2.1 k hk6).2.1 hS hown hk_fieldLink_RJ0_15__java_lang_String___coder___B_ (fun _ h => h) dJ0_coder_7d493_7 ?_
  refine lv_goto (tgt := 14) hx hb dJ0_coder_7d493_10 (by decide) ?_
  exact fc_retz hx hb hr hlocks hP hS dJ0_coder_7d493_14 (by decide) (i1 hf) rfl
theorem dk_J0_length_8abf5 : yJ0_length_8abf5.cls ≠ "java/lang/invoke/MethodHandle" ∧ yJ0_length_8abf5.cls ≠ "java/lang/invoke/VarHandle" ∧ (parseMethodDescriptor yJ0_length_8abf5.desc).map (fun d => d.parameters.length) = some 0 := by decide +kernel
theorem lt6_J0_length_8abf5 {k : Nat} {r : Int32} (h : f_J0_length_8abf5 k = some r) : k < 6 := by
  rw [f_J0_length_8abf5] at h
  exact of_decide_eq_true (gd_some h).1
set_option maxHeartbeats 4000000 in
set_option maxRecDepth 100000 in
theorem k_J0_length_8abf5 {l : Launch} {G : Gx} (k : Nat) {r : Int32} (hf : f_J0_length_8abf5 k = some r) : FC l G yJ0_length_8abf5 wsJ0_length_8abf5 ({ frames := 1, cells := 0, slots := 0, locals := 20 } : Room) [.ref (gK G k)] ([] : va_W) ([] : va_W) (some (.int r)) := by
  refine fc_head (cc := cJ0_length_8abf5) (maxL := 1) (ret := (some .int)) (C := RJ0) (lv := [(0, .ref (gK G k))]) (by decide) rfl rfl (Nat.le_of_ble_eq_true rfl) rfl ?_
  intro p e s m below meth c ls A hx hb hr hml hown hts hlocks hE hP hD hAB hS hl
  have hCF : CallFix p m c cJ0_length_8abf5 1 s ([.ref (gK G k)] : List Value).toArray wsJ0_length_8abf5 RJ0 := ⟨hx, hb, hml, hown, hts⟩
  have hk_fieldLink_RJ0_9__java_lang_String___value____B_ := hts (.fieldLink RJ0 9 "java/lang/String" "value" "[B") (List.mem_of_getElem? (i := 1) rfl)
  rw [f_J0_length_8abf5] at hf
  obtain ⟨hk6, hf⟩ := gd_some hf
  have hk6 := of_decide_eq_true hk6
  refine lv_aload_n hx hb dJ0_length_8abf5_0 rfl (lv_at hl 0 rfl) ?_
  refine vk_getf hx hb ((hE.2.2.1.narrow hAB).2.2.2.2.1 k hk6).2.2.1 hS hown hk_fieldLink_RJ0_9__java_lang_String___value____B_ (fun _ h => h) dJ0_length_8abf5_1 ?_
  refine va_tlen (ty := .byte) (N := strLen.getD k 0) (v := (Int32.ofNat (strLen.getD k 0))) hx hb ((hE.2.2.1.narrow hAB).2.2.2.2.1 k hk6).2.2.2 hS rfl dJ0_length_8abf5_4 ?_
  refine lv_aload_n hx hb dJ0_length_8abf5_5 rfl (lv_at hl 0 rfl) ?_
  obtain ⟨q3, hq3, hf⟩ := bnd hf
  refine fc_callV (Wa' := ([] : va_W)) (st1 := [.int q3, .int (Int32.ofNat (strLen.getD k 0))]) (As := []) (rest := [.int (Int32.ofNat (strLen.getD k 0))]) hCF (k_J0_coder_7d493 k hq3) (cwV 0 hts gJ0_length_8abf5_J0_coder_7d493 rfl rfl rfl ⟨rfl, dk_J0_coder_7d493⟩ ⟨Nat.le_of_ble_eq_true rfl, Nat.le_of_ble_eq_true rfl⟩) hE hAB hP hD hS [] rfl rfl (vk_recv (hE.2.2.1.narrow hAB).2.2.2.2 (lt6_J0_coder_7d493 hq3) hS) rfl rfl rfl rfl hl.1 rfl (Nat.le_of_ble_eq_true rfl) dJ0_length_8abf5_6 ⟨Nat.le_refl _, Nat.le_refl _⟩ (fun H locs hP hD hS => ?_)
  refine lv_ishr hx hb dJ0_length_8abf5_9 ?_
  exact fc_reti hx hb hr hlocks hP hS dJ0_length_8abf5_10 (i1 hf) rfl
theorem dk_J0_isLatin1_aae02 : yJ0_isLatin1_aae02.cls ≠ "java/lang/invoke/MethodHandle" ∧ yJ0_isLatin1_aae02.cls ≠ "java/lang/invoke/VarHandle" ∧ (parseMethodDescriptor yJ0_isLatin1_aae02.desc).map (fun d => d.parameters.length) = some 0 := by decide +kernel
theorem lt6_J0_isLatin1_aae02 {k : Nat} {r : Int32} (h : f_J0_isLatin1_aae02 k = some r) : k < 6 := by
  rw [f_J0_isLatin1_aae02] at h
  exact of_decide_eq_true (gd_some h).1
set_option maxHeartbeats 4000000 in
set_option maxRecDepth 100000 in
theorem k_J0_isLatin1_aae02 {l : Launch} {G : Gx} (k : Nat) {r : Int32} (hf : f_J0_isLatin1_aae02 k = some r) : FC l G yJ0_isLatin1_aae02 wsJ0_isLatin1_aae02 ({ frames := 0, cells := 0, slots := 0, locals := 0 } : Room) [.ref (gK G k)] ([] : va_W) ([] : va_W) (some (.int r)) := by
  refine fc_head (cc := cJ0_isLatin1_aae02) (maxL := 1) (ret := (some .boolean)) (C := RJ0) (lv := [(0, .ref (gK G k))]) (by decide) rfl rfl (Nat.le_of_ble_eq_true rfl) rfl ?_
  intro p e s m below meth c ls A hx hb hr hml hown hts hlocks hE hP hD hAB hS hl
  have hCF : CallFix p m c cJ0_isLatin1_aae02 1 s ([.ref (gK G k)] : List Value).toArray wsJ0_isLatin1_aae02 RJ0 := ⟨hx, hb, hml, hown, hts⟩
  have hk_fieldLink_RJ0_38__java_lang_String___COMPACT_STRINGS___Z_ := hts (.fieldLink RJ0 38 "java/lang/String" "COMPACT_STRINGS" "Z") (List.mem_of_getElem? (i := 1) rfl)
  have hk_fieldLink_RJ0_15__java_lang_String___coder___B_ := hts (.fieldLink RJ0 15 "java/lang/String" "coder" "B") (List.mem_of_getElem? (i := 2) rfl)
  rw [f_J0_isLatin1_aae02] at hf
  obtain ⟨hk6, hf⟩ := gd_some hf
  have hk6 := of_decide_eq_true hk6
  refine va_gets hx hb ((hE.2.2.1.narrow hAB).2.2.1) hS hown hk_fieldLink_RJ0_38__java_lang_String___COMPACT_STRINGS___Z_ (fun _ h => h) dJ0_isLatin1_aae02_0 ?_
  refine lv_if_eq (tgt := 17) hx hb dJ0_isLatin1_aae02_3 (by decide) (fun z => absurd z (by decide)) (fun _ => ?_)
  refine lv_aload_n hx hb dJ0_isLatin1_aae02_6 rfl (lv_at hl 0 rfl) ?_
  refine vk_getf hx hb ((hE.2.2.1.narrow hAB).2.2.2.2.1 k hk6).2.1 hS hown hk_fieldLink_RJ0_15__java_lang_String___coder___B_ (fun _ h => h) dJ0_isLatin1_aae02_7 ?_
  refine lv_if_ne (tgt := 17) hx hb dJ0_isLatin1_aae02_10 (by decide) (fun z => absurd (by decide) z) (fun _ => ?_)
  refine lv_iconst (v := (1 : Int32)) hx hb dJ0_isLatin1_aae02_13 (by decide) ?_
  refine lv_goto (tgt := 18) hx hb dJ0_isLatin1_aae02_14 (by decide) ?_
  exact fc_retz hx hb hr hlocks hP hS dJ0_isLatin1_aae02_18 (by decide) (i1 hf) rfl
theorem dk_J3_checkIndex_8e157 : yJ3_checkIndex_8e157.cls ≠ "java/lang/invoke/MethodHandle" ∧ yJ3_checkIndex_8e157.cls ≠ "java/lang/invoke/VarHandle" ∧ (parseMethodDescriptor yJ3_checkIndex_8e157.desc).map (fun d => d.parameters.length) = some 3 := by decide +kernel
set_option maxHeartbeats 4000000 in
set_option maxRecDepth 100000 in
theorem k_J3_checkIndex_8e157_n {l : Launch} {G : Gx} (x0 : Int32) (x1 : Int32) {r : Int32} (hf : f_J3_checkIndex_8e157 x0 x1 = some r) : FC l G yJ3_checkIndex_8e157 wsJ3_checkIndex_8e157 ({ frames := 0, cells := 0, slots := 0, locals := 0 } : Room) [.int x0, .int x1, .null] ([] : va_W) ([] : va_W) (some (.int r)) := by
  refine fc_head (cc := cJ3_checkIndex_8e157) (maxL := 3) (ret := (some .int)) (C := RJ3) (lv := [(0, .int x0), (1, .int x1), (2, .null)]) (by decide) rfl rfl (Nat.le_of_ble_eq_true rfl) rfl ?_
  intro p e s m below meth c ls A hx hb hr hml hown hts hlocks hE hP hD hAB hS hl
  have hCF : CallFix p m c cJ3_checkIndex_8e157 3 s ([.int x0, .int x1, .null] : List Value).toArray wsJ3_checkIndex_8e157 RJ3 := ⟨hx, hb, hml, hown, hts⟩
  rw [f_J3_checkIndex_8e157] at hf
  refine lv_iload_n hx hb dJ3_checkIndex_8e157_0 rfl (lv_at hl 0 rfl) ?_
  refine lv_if_lt (tgt := 9) hx hb dJ3_checkIndex_8e157_1 (by decide) (fun c4 => ?_) (fun c4 => ?_)
  · have hf := ifT hf c4
    exact no_some hf
  · have hf := ifF hf c4
    refine lv_iload_n hx hb dJ3_checkIndex_8e157_4 rfl (lv_at hl 0 rfl) ?_
    refine lv_iload_n hx hb dJ3_checkIndex_8e157_5 rfl (lv_at hl 1 rfl) ?_
    refine lv_icmp_lt (tgt := 16) hx hb dJ3_checkIndex_8e157_6 (by decide) (fun c5 => ?_) (fun c5 => ?_)
    · have hf := ifT hf c5
      refine lv_iload_n hx hb dJ3_checkIndex_8e157_16 rfl (lv_at hl 0 rfl) ?_
      exact fc_reti hx hb hr hlocks hP hS dJ3_checkIndex_8e157_17 (i1 hf) rfl
    · have hf := ifF hf c5
      exact no_some hf
set_option maxHeartbeats 4000000 in
set_option maxRecDepth 100000 in
theorem k_J3_checkIndex_8e157_t {l : Launch} {G : Gx} (tz : Nat) (x0 : Int32) (x1 : Int32) {r : Int32} (hf : f_J3_checkIndex_8e157 x0 x1 = some r) : FC l G yJ3_checkIndex_8e157 wsJ3_checkIndex_8e157 ({ frames := 0, cells := 0, slots := 0, locals := 0 } : Room) [.int x0, .int x1, .ref tz] ([] : va_W) ([] : va_W) (some (.int r)) := by
  refine fc_head (cc := cJ3_checkIndex_8e157) (maxL := 3) (ret := (some .int)) (C := RJ3) (lv := [(0, .int x0), (1, .int x1), (2, .ref tz)]) (by decide) rfl rfl (Nat.le_of_ble_eq_true rfl) rfl ?_
  intro p e s m below meth c ls A hx hb hr hml hown hts hlocks hE hP hD hAB hS hl
  have hCF : CallFix p m c cJ3_checkIndex_8e157 3 s ([.int x0, .int x1, .ref tz] : List Value).toArray wsJ3_checkIndex_8e157 RJ3 := ⟨hx, hb, hml, hown, hts⟩
  rw [f_J3_checkIndex_8e157] at hf
  refine lv_iload_n hx hb dJ3_checkIndex_8e157_0 rfl (lv_at hl 0 rfl) ?_
  refine lv_if_lt (tgt := 9) hx hb dJ3_checkIndex_8e157_1 (by decide) (fun c6 => ?_) (fun c6 => ?_)
  · have hf := ifT hf c6
    exact no_some hf
  · have hf := ifF hf c6
    refine lv_iload_n hx hb dJ3_checkIndex_8e157_4 rfl (lv_at hl 0 rfl) ?_
    refine lv_iload_n hx hb dJ3_checkIndex_8e157_5 rfl (lv_at hl 1 rfl) ?_
    refine lv_icmp_lt (tgt := 16) hx hb dJ3_checkIndex_8e157_6 (by decide) (fun c7 => ?_) (fun c7 => ?_)
    · have hf := ifT hf c7
      refine lv_iload_n hx hb dJ3_checkIndex_8e157_16 rfl (lv_at hl 0 rfl) ?_
      exact fc_reti hx hb hr hlocks hP hS dJ3_checkIndex_8e157_17 (i1 hf) rfl
    · have hf := ifF hf c7
      exact no_some hf
theorem dk_J0_checkIndex_df160 : yJ0_checkIndex_df160.cls ≠ "java/lang/invoke/MethodHandle" ∧ yJ0_checkIndex_df160.cls ≠ "java/lang/invoke/VarHandle" ∧ (parseMethodDescriptor yJ0_checkIndex_df160.desc).map (fun d => d.parameters.length) = some 2 := by decide +kernel
set_option maxHeartbeats 4000000 in
set_option maxRecDepth 100000 in
theorem k_J0_checkIndex_df160 {l : Launch} {G : Gx} (x0 : Int32) (x1 : Int32)  (hf : f_J0_checkIndex_df160 x0 x1 = some ()) : FC l G yJ0_checkIndex_df160 wsJ0_checkIndex_df160 ({ frames := 1, cells := 0, slots := 0, locals := 22 } : Room) [.int x0, .int x1] ([] : va_W) ([] : va_W) none := by
  refine fc_head (cc := cJ0_checkIndex_df160) (maxL := 2) (ret := none) (C := RJ0) (lv := [(0, .int x0), (1, .int x1)]) (by decide) rfl rfl (Nat.le_of_ble_eq_true rfl) rfl ?_
  intro p e s m below meth c ls A hx hb hr hml hown hts hlocks hE hP hD hAB hS hl
  have hCF : CallFix p m c cJ0_checkIndex_df160 2 s ([.int x0, .int x1] : List Value).toArray wsJ0_checkIndex_df160 RJ0 := ⟨hx, hb, hml, hown, hts⟩
  have hk_fieldLink_RJ0_1053__jdk_internal_util_Preconditions___SIOOBE_FORMATTER___Ljava_util_function_BiFunction__ := hts (.fieldLink RJ0 1053 "jdk/internal/util/Preconditions" "SIOOBE_FORMATTER" "Ljava/util/function/BiFunction;") (List.mem_of_getElem? (i := 1) rfl)
  rw [f_J0_checkIndex_df160] at hf
  refine lv_iload_n hx hb dJ0_checkIndex_df160_0 rfl (lv_at hl 0 rfl) ?_
  refine lv_iload_n hx hb dJ0_checkIndex_df160_1 rfl (lv_at hl 1 rfl) ?_
  rcases (hE.2.2.1.narrow hAB).2.2.2.1 with hz | ⟨tz, hz⟩
  · refine va_gets (v := .null) hx hb hz hS hown hk_fieldLink_RJ0_1053__jdk_internal_util_Preconditions___SIOOBE_FORMATTER___Ljava_util_function_BiFunction__ (fun _ h => h) dJ0_checkIndex_df160_2 ?_
    obtain ⟨q9, hq9, hf⟩ := bnd hf
    refine fc_callS (Wa' := ([] : va_W)) (st1 := [.int q9]) (As := [.int x0, .int x1, .null]) (rest := []) hCF (k_J3_checkIndex_8e157_n x0 x1 hq9) (va_cwS 3 hts gJ0_checkIndex_df160_J3_checkIndex_8e157 rfl rfl rfl dk_J3_checkIndex_8e157 ⟨Nat.le_of_ble_eq_true rfl, Nat.le_of_ble_eq_true rfl⟩) hE hAB hP hD hS [] rfl rfl rfl rfl rfl rfl hl.1 rfl (Nat.le_of_ble_eq_true rfl) dJ0_checkIndex_df160_5 ⟨Nat.le_refl _, Nat.le_refl _⟩ (fun H locs hP hD hS => ?_)
    refine lv_pop hx hb dJ0_checkIndex_df160_8 rfl ?_
    exact fc_retv hx hb hr hlocks hP hS dJ0_checkIndex_df160_9 rfl
  · refine va_gets (v := .ref tz) hx hb hz hS hown hk_fieldLink_RJ0_1053__jdk_internal_util_Preconditions___SIOOBE_FORMATTER___Ljava_util_function_BiFunction__ (fun _ h => h) dJ0_checkIndex_df160_2 ?_
    obtain ⟨q10, hq10, hf⟩ := bnd hf
    refine fc_callS (Wa' := ([] : va_W)) (st1 := [.int q10]) (As := [.int x0, .int x1, .ref tz]) (rest := []) hCF (k_J3_checkIndex_8e157_t tz x0 x1 hq10) (va_cwS 3 hts gJ0_checkIndex_df160_J3_checkIndex_8e157 rfl rfl rfl dk_J3_checkIndex_8e157 ⟨Nat.le_of_ble_eq_true rfl, Nat.le_of_ble_eq_true rfl⟩) hE hAB hP hD hS [] rfl rfl rfl rfl rfl rfl hl.1 rfl (Nat.le_of_ble_eq_true rfl) dJ0_checkIndex_df160_5 ⟨Nat.le_refl _, Nat.le_refl _⟩ (fun H locs hP hD hS => ?_)
    refine lv_pop hx hb dJ0_checkIndex_df160_8 rfl ?_
    exact fc_retv hx hb hr hlocks hP hS dJ0_checkIndex_df160_9 rfl
theorem dk_J1_charAt_3b067 : yJ1_charAt_3b067.cls ≠ "java/lang/invoke/MethodHandle" ∧ yJ1_charAt_3b067.cls ≠ "java/lang/invoke/VarHandle" ∧ (parseMethodDescriptor yJ1_charAt_3b067.desc).map (fun d => d.parameters.length) = some 2 := by decide +kernel
theorem lt6_J1_charAt_3b067 {k : Nat} {x1 : Int32} {r : Int32} (h : f_J1_charAt_3b067 k x1 = some r) : k < 6 := by
  rw [f_J1_charAt_3b067] at h
  exact of_decide_eq_true (gd_some h).1
set_option maxHeartbeats 4000000 in
set_option maxRecDepth 100000 in
theorem k_J1_charAt_3b067 {l : Launch} {G : Gx} (k : Nat) (x1 : Int32) {r : Int32} (hf : f_J1_charAt_3b067 k x1 = some r) : FC l G yJ1_charAt_3b067 wsJ1_charAt_3b067 ({ frames := 2, cells := 0, slots := 0, locals := 43 } : Room) [.ref (gV G k), .int x1] ([] : va_W) ([] : va_W) (some (.int r)) := by
  refine fc_head (cc := cJ1_charAt_3b067) (maxL := 2) (ret := (some .char)) (C := RJ1) (lv := [(0, .ref (gV G k)), (1, .int x1)]) (by decide) rfl rfl (Nat.le_of_ble_eq_true rfl) rfl ?_
  intro p e s m below meth c ls A hx hb hr hml hown hts hlocks hE hP hD hAB hS hl
  have hCF : CallFix p m c cJ1_charAt_3b067 2 s ([.ref (gV G k), .int x1] : List Value).toArray wsJ1_charAt_3b067 RJ1 := ⟨hx, hb, hml, hown, hts⟩
  rw [f_J1_charAt_3b067] at hf
  obtain ⟨hk6, hf⟩ := gd_some hf
  have hk6 := of_decide_eq_true hk6
  refine lv_iload_n hx hb dJ1_charAt_3b067_0 rfl (lv_at hl 1 rfl) ?_
  refine lv_aload_n hx hb dJ1_charAt_3b067_1 rfl (lv_at hl 0 rfl) ?_
  refine va_tlen (ty := .byte) (N := strLen.getD k 0) (v := (Int32.ofNat (strLen.getD k 0))) hx hb ((hE.2.2.1.narrow hAB).2.2.2.2.1 k hk6).2.2.2 hS rfl dJ1_charAt_3b067_2 ?_
  obtain ⟨q12, hq12, hf⟩ := bnd hf
  refine fc_callS (Wa' := ([] : va_W)) (st1 := []) (As := [.int x1, .int (Int32.ofNat (strLen.getD k 0))]) (rest := []) hCF (k_J0_checkIndex_df160 x1 (Int32.ofNat (strLen.getD k 0)) hq12) (va_cwS 2 hts gJ1_charAt_3b067_J0_checkIndex_df160 rfl rfl rfl dk_J0_checkIndex_df160 ⟨Nat.le_of_ble_eq_true rfl, Nat.le_of_ble_eq_true rfl⟩) hE hAB hP hD hS [] rfl rfl rfl rfl rfl rfl hl.1 rfl (Nat.le_of_ble_eq_true rfl) dJ1_charAt_3b067_3 ⟨Nat.le_refl _, Nat.le_refl _⟩ (fun H locs hP hD hS => ?_)
  refine lv_aload_n hx hb dJ1_charAt_3b067_6 rfl (lv_at hl 0 rfl) ?_
  refine lv_iload_n hx hb dJ1_charAt_3b067_7 rfl (lv_at hl 1 rfl) ?_
  obtain ⟨c13, hf⟩ := gd_some hf
  refine va_tb (N := strLen.getD k 0) (v := .int ((strByt.getD k []).getD x1.toNatClampNeg 0)) hx hb ((hE.2.2.1.narrow hAB).2.2.2.2.1 k hk6).2.2.2 hS (inB_in c13) rfl dJ1_charAt_3b067_8 ?_
  refine lv_sipush (v := (255 : Int32)) hx hb dJ1_charAt_3b067_9 (by decide) ?_
  refine lv_iand hx hb dJ1_charAt_3b067_12 ?_
  refine lv_i2c (v := ((((strByt.getD k []).getD x1.toNatClampNeg 0) &&& (255 : Int32)).toUInt32 % 65536).toInt32) hx hb dJ1_charAt_3b067_13 rfl ?_
  obtain ⟨c14, hf⟩ := gd_some hf
  exact fc_retz hx hb hr hlocks hP hS dJ1_charAt_3b067_14 (isCh_nar c14) (i1 hf) rfl
theorem dk_J0_charAt_5068e : yJ0_charAt_5068e.cls ≠ "java/lang/invoke/MethodHandle" ∧ yJ0_charAt_5068e.cls ≠ "java/lang/invoke/VarHandle" ∧ (parseMethodDescriptor yJ0_charAt_5068e.desc).map (fun d => d.parameters.length) = some 1 := by decide +kernel
theorem lt6_J0_charAt_5068e {k : Nat} {x1 : Int32} {r : Int32} (h : f_J0_charAt_5068e k x1 = some r) : k < 6 := by
  rw [f_J0_charAt_5068e] at h
  exact of_decide_eq_true (gd_some h).1
set_option maxHeartbeats 4000000 in
set_option maxRecDepth 100000 in
theorem k_J0_charAt_5068e {l : Launch} {G : Gx} (k : Nat) (x1 : Int32) {r : Int32} (hf : f_J0_charAt_5068e k x1 = some r) : FC l G yJ0_charAt_5068e wsJ0_charAt_5068e ({ frames := 3, cells := 0, slots := 0, locals := 64 } : Room) [.ref (gK G k), .int x1] ([] : va_W) ([] : va_W) (some (.int r)) := by
  refine fc_head (cc := cJ0_charAt_5068e) (maxL := 2) (ret := (some .char)) (C := RJ0) (lv := [(0, .ref (gK G k)), (1, .int x1)]) (by decide) rfl rfl (Nat.le_of_ble_eq_true rfl) rfl ?_
  intro p e s m below meth c ls A hx hb hr hml hown hts hlocks hE hP hD hAB hS hl
  have hCF : CallFix p m c cJ0_charAt_5068e 2 s ([.ref (gK G k), .int x1] : List Value).toArray wsJ0_charAt_5068e RJ0 := ⟨hx, hb, hml, hown, hts⟩
  have hk_fieldLink_RJ0_9__java_lang_String___value____B_ := hts (.fieldLink RJ0 9 "java/lang/String" "value" "[B") (List.mem_of_getElem? (i := 1) rfl)
  rw [f_J0_charAt_5068e] at hf
  obtain ⟨hk6, hf⟩ := gd_some hf
  have hk6 := of_decide_eq_true hk6
  refine lv_aload_n hx hb dJ0_charAt_5068e_0 rfl (lv_at hl 0 rfl) ?_
  obtain ⟨q17, hq17, hf⟩ := bnd hf
  refine fc_callV (Wa' := ([] : va_W)) (st1 := [.int q17]) (As := []) (rest := []) hCF (k_J0_isLatin1_aae02 k hq17) (cwV 0 hts gJ0_charAt_5068e_J0_isLatin1_aae02 rfl rfl rfl ⟨rfl, dk_J0_isLatin1_aae02⟩ ⟨Nat.le_of_ble_eq_true rfl, Nat.le_of_ble_eq_true rfl⟩) hE hAB hP hD hS [] rfl rfl (vk_recv (hE.2.2.1.narrow hAB).2.2.2.2 (lt6_J0_isLatin1_aae02 hq17) hS) rfl rfl rfl rfl hl.1 rfl (Nat.le_of_ble_eq_true rfl) dJ0_charAt_5068e_1 ⟨Nat.le_refl _, Nat.le_refl _⟩ (fun H locs hP hD hS => ?_)
  refine lv_if_eq (tgt := 16) hx hb dJ0_charAt_5068e_4 (by decide) (fun c18 => ?_) (fun c18 => ?_)
  · have hf := ifT hf c18
    refine lv_aload_n hx hb dJ0_charAt_5068e_16 rfl (lv_at hl 0 rfl) ?_
    refine vk_getf hx hb ((hE.2.2.1.narrow hAB).2.2.2.2.1 k hk6).2.2.1 hS hown hk_fieldLink_RJ0_9__java_lang_String___value____B_ (fun _ h => h) dJ0_charAt_5068e_17 ?_
    refine lv_iload_n hx hb dJ0_charAt_5068e_20 rfl (lv_at hl 1 rfl) ?_
    exact no_some hf
  · have hf := ifF hf c18
    refine lv_aload_n hx hb dJ0_charAt_5068e_7 rfl (lv_at hl 0 rfl) ?_
    refine vk_getf hx hb ((hE.2.2.1.narrow hAB).2.2.2.2.1 k hk6).2.2.1 hS hown hk_fieldLink_RJ0_9__java_lang_String___value____B_ (fun _ h => h) dJ0_charAt_5068e_8 ?_
    refine lv_iload_n hx hb dJ0_charAt_5068e_11 rfl (lv_at hl 1 rfl) ?_
    obtain ⟨q19, hq19, hf⟩ := bnd hf
    refine fc_callS (Wa' := ([] : va_W)) (st1 := [.int q19]) (As := [.ref (gV G k), .int x1]) (rest := []) hCF (k_J1_charAt_3b067 k x1 hq19) (va_cwS 2 hts gJ0_charAt_5068e_J1_charAt_3b067 rfl rfl rfl dk_J1_charAt_3b067 ⟨Nat.le_of_ble_eq_true rfl, Nat.le_of_ble_eq_true rfl⟩) hE hAB hP hD hS [] rfl rfl rfl rfl rfl rfl hl.1 rfl (Nat.le_of_ble_eq_true rfl) dJ0_charAt_5068e_12 ⟨Nat.le_refl _, Nat.le_refl _⟩ (fun H locs hP hD hS => ?_)
    obtain ⟨c20, hf⟩ := gd_some hf
    exact fc_retz hx hb hr hlocks hP hS dJ0_charAt_5068e_15 (isCh_nar c20) (i1 hf) rfl
theorem dk_J1_canEncode_9a6ad : yJ1_canEncode_9a6ad.cls ≠ "java/lang/invoke/MethodHandle" ∧ yJ1_canEncode_9a6ad.cls ≠ "java/lang/invoke/VarHandle" ∧ (parseMethodDescriptor yJ1_canEncode_9a6ad.desc).map (fun d => d.parameters.length) = some 1 := by decide +kernel
set_option maxHeartbeats 4000000 in
set_option maxRecDepth 100000 in
theorem k_J1_canEncode_9a6ad {l : Launch} {G : Gx} (x0 : Int32) {r : Int32} (hf : f_J1_canEncode_9a6ad x0 = some r) : FC l G yJ1_canEncode_9a6ad wsJ1_canEncode_9a6ad ({ frames := 0, cells := 0, slots := 0, locals := 0 } : Room) [.int x0] ([] : va_W) ([] : va_W) (some (.int r)) := by
  refine fc_head (cc := cJ1_canEncode_9a6ad) (maxL := 1) (ret := (some .boolean)) (C := RJ1) (lv := [(0, .int x0)]) (by decide) rfl rfl (Nat.le_of_ble_eq_true rfl) rfl ?_
  intro p e s m below meth c ls A hx hb hr hml hown hts hlocks hE hP hD hAB hS hl
  have hCF : CallFix p m c cJ1_canEncode_9a6ad 1 s ([.int x0] : List Value).toArray wsJ1_canEncode_9a6ad RJ1 := ⟨hx, hb, hml, hown, hts⟩
  rw [f_J1_canEncode_9a6ad] at hf
  refine lv_iload_n hx hb dJ1_canEncode_9a6ad_0 rfl (lv_at hl 0 rfl) ?_
  refine lv_if_lt (tgt := 15) hx hb dJ1_canEncode_9a6ad_1 (by decide) (fun c21 => ?_) (fun c21 => ?_)
  · have hf := ifT hf c21
    refine lv_iconst (v := (0 : Int32)) hx hb dJ1_canEncode_9a6ad_15 (by decide) ?_
    exact fc_retz hx hb hr hlocks hP hS dJ1_canEncode_9a6ad_16 (by decide) (i1 hf) rfl
  · have hf := ifF hf c21
    refine lv_iload_n hx hb dJ1_canEncode_9a6ad_4 rfl (lv_at hl 0 rfl) ?_
    refine lv_sipush (v := (255 : Int32)) hx hb dJ1_canEncode_9a6ad_5 (by decide) ?_
    refine lv_icmp_gt (tgt := 15) hx hb dJ1_canEncode_9a6ad_8 (by decide) (fun c22 => ?_) (fun c22 => ?_)
    · have hf := ifT hf c22
      refine lv_iconst (v := (0 : Int32)) hx hb dJ1_canEncode_9a6ad_15 (by decide) ?_
      exact fc_retz hx hb hr hlocks hP hS dJ1_canEncode_9a6ad_16 (by decide) (i1 hf) rfl
    · have hf := ifF hf c22
      refine lv_iconst (v := (1 : Int32)) hx hb dJ1_canEncode_9a6ad_11 (by decide) ?_
      refine lv_goto (tgt := 16) hx hb dJ1_canEncode_9a6ad_12 (by decide) ?_
      exact fc_retz hx hb hr hlocks hP hS dJ1_canEncode_9a6ad_16 (by decide) (i1 hf) rfl
theorem dk_J1_indexOfChar_4cfef : yJ1_indexOfChar_4cfef.cls ≠ "java/lang/invoke/MethodHandle" ∧ yJ1_indexOfChar_4cfef.cls ≠ "java/lang/invoke/VarHandle" ∧ (parseMethodDescriptor yJ1_indexOfChar_4cfef.desc).map (fun d => d.parameters.length) = some 4 := by decide +kernel
theorem lt6_J1_indexOfChar_4cfef {k : Nat} {x1 : Int32} {x2 : Int32} {x3 : Int32} {r : Int32} (h : f_J1_indexOfChar_4cfef k x1 x2 x3 = some r) : k < 6 := by
  rw [f_J1_indexOfChar_4cfef] at h
  exact of_decide_eq_true (gd_some h).1
set_option maxHeartbeats 4000000 in
set_option maxRecDepth 100000 in
theorem k_J1_indexOfChar_4cfef {l : Launch} {G : Gx} (k : Nat) (x1 : Int32) (x2 : Int32) (x3 : Int32) {r : Int32} (hf : f_J1_indexOfChar_4cfef k x1 x2 x3 = some r) : FC l G yJ1_indexOfChar_4cfef wsJ1_indexOfChar_4cfef ({ frames := 0, cells := 0, slots := 0, locals := 0 } : Room) [.ref (gV G k), .int x1, .int x2, .int x3] ([] : va_W) ([] : va_W) (some (.int r)) := by
  refine fc_head (cc := cJ1_indexOfChar_4cfef) (maxL := 6) (ret := (some .int)) (C := RJ1) (lv := [(0, .ref (gV G k)), (1, .int x1), (2, .int x2), (3, .int x3)]) (by decide) rfl rfl (Nat.le_of_ble_eq_true rfl) rfl ?_
  intro p e s m below meth c ls A hx hb hr hml hown hts hlocks hE hP hD hAB hS hl
  have hCF : CallFix p m c cJ1_indexOfChar_4cfef 6 s ([.ref (gV G k), .int x1, .int x2, .int x3] : List Value).toArray wsJ1_indexOfChar_4cfef RJ1 := ⟨hx, hb, hml, hown, hts⟩
  rw [f_J1_indexOfChar_4cfef] at hf
  obtain ⟨hk6, hf⟩ := gd_some hf
  have hk6 := of_decide_eq_true hk6
  refine lv_iload_n hx hb dJ1_indexOfChar_4cfef_0 rfl (lv_at hl 1 rfl) ?_
  refine lv_i2b (v := x1.toInt8.toInt32) hx hb dJ1_indexOfChar_4cfef_1 rfl ?_
  refine lv_istore (lv' := [(4, .int (x1.toInt8.toInt32)), (0, .ref (gV G k)), (1, .int x1), (2, .int x2), (3, .int x3)]) hx hb dJ1_indexOfChar_4cfef_2 hl (by decide) rfl (fun ls hl => ?_)
  refine lv_iload_n hx hb dJ1_indexOfChar_4cfef_4 rfl (lv_at hl 3 rfl) ?_
  refine lv_istore (lv' := [(5, .int x2), (4, .int (x1.toInt8.toInt32)), (0, .ref (gV G k)), (1, .int x1), (2, .int x2), (3, .int x3)]) hx hb dJ1_indexOfChar_4cfef_5 hl (by decide) rfl (fun ls hl => ?_)
  have L7_24 : ∀ (n : Nat) (x5_23 : Int32) (H : Heap) (locs : List Loc) (ls : Array Slot), va_P (gD G) vwCl ([] : va_W) H → va_D A ([] : va_W) → va_S A s.heap H locs → lv_has ls 6 [(0, .ref (gV G k)), (3, .int x3), (4, .int (x1.toInt8.toInt32)), (5, .int x5_23)] → f_J1_indexOfChar_4cfef_7 k x3 (x1.toInt8.toInt32) n x5_23 = some r → W p l e (headSpec wsJ1_indexOfChar_4cfef ({ frames := 0, cells := 0, slots := 0, locals := 0 } : Room)).room s m ([.ref (gV G k), .int x1, .int x2, .int x3] : List Value).toArray below meth c H locs 0 0 (MQ below (FQ G A ([] : va_W) (some (.int r))) ([.ref (gV G k), .int x1, .int x2, .int x3] : List Value).toArray s 0 0 A) (F0 m 7 ls []) := by
    intro n
    induction n with
    | zero =>
      intro x5_23 H locs ls hP hD hS hl hf
      exact no_some hf
    | succ n ih =>
      intro x5_23 H locs ls hP hD hS hl hf
      rw [f_J1_indexOfChar_4cfef_7] at hf
      refine lv_iload hx hb dJ1_indexOfChar_4cfef_7 (lv_at hl 3 rfl) ?_
      refine lv_iload_n hx hb dJ1_indexOfChar_4cfef_9 rfl (lv_at hl 1 rfl) ?_
      refine lv_icmp_ge (tgt := 31) hx hb dJ1_indexOfChar_4cfef_10 (by decide) (fun c25 => ?_) (fun c25 => ?_)
      · have hf := ifT hf c25
        refine lv_iconst (v := (-1 : Int32)) hx hb dJ1_indexOfChar_4cfef_31 (by decide) ?_
        exact fc_reti hx hb hr hlocks hP hS dJ1_indexOfChar_4cfef_32 (i1 hf) rfl
      · have hf := ifF hf c25
        refine lv_aload_n hx hb dJ1_indexOfChar_4cfef_13 rfl (lv_at hl 0 rfl) ?_
        refine lv_iload hx hb dJ1_indexOfChar_4cfef_14 (lv_at hl 3 rfl) ?_
        obtain ⟨c26, hf⟩ := gd_some hf
        refine va_tb (N := strLen.getD k 0) (v := .int ((strByt.getD k []).getD x5_23.toNatClampNeg 0)) hx hb ((hE.2.2.1.narrow hAB).2.2.2.2.1 k hk6).2.2.2 hS (inB_in c26) rfl dJ1_indexOfChar_4cfef_16 ?_
        refine lv_iload hx hb dJ1_indexOfChar_4cfef_17 (lv_at hl 2 rfl) ?_
        refine lv_icmp_ne (tgt := 25) hx hb dJ1_indexOfChar_4cfef_19 (by decide) (fun c27 => ?_) (fun c27 => ?_)
        · have hf := ifF hf c27
          refine lv_iinc (v := (x5_23 + (1 : Int32))) (lv' := [(5, .int (x5_23 + (1 : Int32))), (0, .ref (gV G k)), (3, .int x3), (4, .int (x1.toInt8.toInt32))]) hx hb dJ1_indexOfChar_4cfef_25 hl (k := 3) rfl rfl (by decide) rfl (fun ls hl => ?_)
          refine lv_goto (tgt := 7) hx hb dJ1_indexOfChar_4cfef_28 (by decide) ?_
          exact ih (x5_23 + (1 : Int32)) _ _ _ hP hD hS (lv_sub hl [1, 2, 3, 0] rfl) hf
        · have hf := ifT hf c27
          refine lv_iload hx hb dJ1_indexOfChar_4cfef_22 (lv_at hl 3 rfl) ?_
          exact fc_reti hx hb hr hlocks hP hS dJ1_indexOfChar_4cfef_24 (i1 hf) rfl
  exact L7_24 FUEL x2 _ _ _ hP hD hS (lv_sub hl [2, 5, 1, 0] rfl) hf
theorem dk_J1_indexOf_4cfef : yJ1_indexOf_4cfef.cls ≠ "java/lang/invoke/MethodHandle" ∧ yJ1_indexOf_4cfef.cls ≠ "java/lang/invoke/VarHandle" ∧ (parseMethodDescriptor yJ1_indexOf_4cfef.desc).map (fun d => d.parameters.length) = some 4 := by decide +kernel
theorem lt6_J1_indexOf_4cfef {k : Nat} {x1 : Int32} {x2 : Int32} {x3 : Int32} {r : Int32} (h : f_J1_indexOf_4cfef k x1 x2 x3 = some r) : k < 6 := by
  rw [f_J1_indexOf_4cfef] at h
  exact of_decide_eq_true (gd_some h).1
set_option maxHeartbeats 4000000 in
set_option maxRecDepth 100000 in
theorem k_J1_indexOf_4cfef {l : Launch} {G : Gx} (k : Nat) (x1 : Int32) (x2 : Int32) (x3 : Int32) {r : Int32} (hf : f_J1_indexOf_4cfef k x1 x2 x3 = some r) : FC l G yJ1_indexOf_4cfef wsJ1_indexOf_4cfef ({ frames := 1, cells := 0, slots := 0, locals := 25 } : Room) [.ref (gV G k), .int x1, .int x2, .int x3] ([] : va_W) ([] : va_W) (some (.int r)) := by
  refine fc_head (cc := cJ1_indexOf_4cfef) (maxL := 4) (ret := (some .int)) (C := RJ1) (lv := [(0, .ref (gV G k)), (1, .int x1), (2, .int x2), (3, .int x3)]) (by decide) rfl rfl (Nat.le_of_ble_eq_true rfl) rfl ?_
  intro p e s m below meth c ls A hx hb hr hml hown hts hlocks hE hP hD hAB hS hl
  have hCF : CallFix p m c cJ1_indexOf_4cfef 4 s ([.ref (gV G k), .int x1, .int x2, .int x3] : List Value).toArray wsJ1_indexOf_4cfef RJ1 := ⟨hx, hb, hml, hown, hts⟩
  have hk_methodLink_RJ1_92_Lib_Math_max_name := hts (.methodLink RJ1 92 Lib.Math.max.name) (List.mem_of_getElem? (i := 1) rfl)
  have hk_static_Lib_Math_max_name := hts (.static Lib.Math.max.name) (List.mem_of_getElem? (i := 2) rfl)
  have hk_initialized__java_lang_Math_ := hts (.initialized "java/lang/Math") (List.mem_of_getElem? (i := 3) rfl)
  have hk_code_Lib_Math_max_name_Lib_Math_max_code_2__some__int_ := hts (.code Lib.Math.max.name Lib.Math.max.code 2 (some .int)) (List.mem_of_getElem? (i := 4) rfl)
  have hk_methodLink_RJ1_38_Lib_Math_min_name := hts (.methodLink RJ1 38 Lib.Math.min.name) (List.mem_of_getElem? (i := 5) rfl)
  have hk_static_Lib_Math_min_name := hts (.static Lib.Math.min.name) (List.mem_of_getElem? (i := 6) rfl)
  have hk_code_Lib_Math_min_name_Lib_Math_min_code_2__some__int_ := hts (.code Lib.Math.min.name Lib.Math.min.code 2 (some .int)) (List.mem_of_getElem? (i := 7) rfl)
  rw [f_J1_indexOf_4cfef] at hf
  obtain ⟨hk6, hf⟩ := gd_some hf
  have hk6 := of_decide_eq_true hk6
  refine lv_iload_n hx hb dJ1_indexOf_4cfef_0 rfl (lv_at hl 1 rfl) ?_
  obtain ⟨q30, hq30, hf⟩ := bnd hf
  refine fc_callS (Wa' := ([] : va_W)) (st1 := [.int q30]) (As := [.int x1]) (rest := []) hCF (k_J1_canEncode_9a6ad x1 hq30) (va_cwS 1 hts gJ1_indexOf_4cfef_J1_canEncode_9a6ad rfl rfl rfl dk_J1_canEncode_9a6ad ⟨Nat.le_of_ble_eq_true rfl, Nat.le_of_ble_eq_true rfl⟩) hE hAB hP hD hS [] rfl rfl rfl rfl rfl rfl hl.1 rfl (Nat.le_of_ble_eq_true rfl) dJ1_indexOf_4cfef_1 ⟨Nat.le_refl _, Nat.le_refl _⟩ (fun H locs hP hD hS => ?_)
  refine lv_if_ne (tgt := 9) hx hb dJ1_indexOf_4cfef_4 (by decide) (fun c31 => ?_) (fun c31 => ?_)
  · have hf := ifF hf c31
    refine lv_iload_n hx hb dJ1_indexOf_4cfef_9 rfl (lv_at hl 2 rfl) ?_
    refine lv_iconst (v := (0 : Int32)) hx hb dJ1_indexOf_4cfef_10 (by decide) ?_
    refine va_mmax hx hb (hml.trans hl.1.symm) hown hk_methodLink_RJ1_92_Lib_Math_max_name hk_static_Lib_Math_max_name hk_initialized__java_lang_Math_ hk_code_Lib_Math_max_name_Lib_Math_max_code_2__some__int_ (Nat.le_of_ble_eq_true rfl) (Nat.le_of_ble_eq_true rfl) (Nat.zero_le _) (Nat.zero_le _) dJ1_indexOf_4cfef_11 ?_
    refine lv_istore_n (lv' := [(2, .int (if x2 < (0 : Int32) then (0 : Int32) else x2)), (0, .ref (gV G k)), (1, .int x1), (3, .int x3)]) hx hb dJ1_indexOf_4cfef_14 rfl hl (by decide) rfl (fun ls hl => ?_)
    refine lv_iload_n hx hb dJ1_indexOf_4cfef_15 rfl (lv_at hl 3 rfl) ?_
    refine lv_aload_n hx hb dJ1_indexOf_4cfef_16 rfl (lv_at hl 1 rfl) ?_
    refine va_tlen (ty := .byte) (N := strLen.getD k 0) (v := (Int32.ofNat (strLen.getD k 0))) hx hb ((hE.2.2.1.narrow hAB).2.2.2.2.1 k hk6).2.2.2 hS rfl dJ1_indexOf_4cfef_17 ?_
    refine va_mmin hx hb (hml.trans hl.1.symm) hown hk_methodLink_RJ1_38_Lib_Math_min_name hk_static_Lib_Math_min_name hk_initialized__java_lang_Math_ hk_code_Lib_Math_min_name_Lib_Math_min_code_2__some__int_ (Nat.le_of_ble_eq_true rfl) (Nat.le_of_ble_eq_true rfl) (Nat.zero_le _) (Nat.zero_le _) dJ1_indexOf_4cfef_18 ?_
    refine lv_istore_n (lv' := [(3, .int (if (Int32.ofNat (strLen.getD k 0)) < x3 then (Int32.ofNat (strLen.getD k 0)) else x3)), (2, .int (if x2 < (0 : Int32) then (0 : Int32) else x2)), (0, .ref (gV G k)), (1, .int x1)]) hx hb dJ1_indexOf_4cfef_21 rfl hl (by decide) rfl (fun ls hl => ?_)
    refine lv_iload_n hx hb dJ1_indexOf_4cfef_22 rfl (lv_at hl 1 rfl) ?_
    refine lv_iload_n hx hb dJ1_indexOf_4cfef_23 rfl (lv_at hl 0 rfl) ?_
    refine lv_icmp_lt (tgt := 29) hx hb dJ1_indexOf_4cfef_24 (by decide) (fun c32 => ?_) (fun c32 => ?_)
    · have hf := ifT hf c32
      refine lv_aload_n hx hb dJ1_indexOf_4cfef_29 rfl (lv_at hl 2 rfl) ?_
      refine lv_iload_n hx hb dJ1_indexOf_4cfef_30 rfl (lv_at hl 3 rfl) ?_
      refine lv_iload_n hx hb dJ1_indexOf_4cfef_31 rfl (lv_at hl 1 rfl) ?_
      refine lv_iload_n hx hb dJ1_indexOf_4cfef_32 rfl (lv_at hl 0 rfl) ?_
      obtain ⟨q33, hq33, hf⟩ := bnd hf
      refine fc_callS (Wa' := ([] : va_W)) (st1 := [.int q33]) (As := [.ref (gV G k), .int x1, .int (if x2 < (0 : Int32) then (0 : Int32) else x2), .int (if (Int32.ofNat (strLen.getD k 0)) < x3 then (Int32.ofNat (strLen.getD k 0)) else x3)]) (rest := []) hCF (k_J1_indexOfChar_4cfef k x1 (if x2 < (0 : Int32) then (0 : Int32) else x2) (if (Int32.ofNat (strLen.getD k 0)) < x3 then (Int32.ofNat (strLen.getD k 0)) else x3) hq33) (va_cwS 4 hts gJ1_indexOf_4cfef_J1_indexOfChar_4cfef rfl rfl rfl dk_J1_indexOfChar_4cfef ⟨Nat.le_of_ble_eq_true rfl, Nat.le_of_ble_eq_true rfl⟩) hE hAB hP hD hS [] rfl rfl rfl rfl rfl rfl hl.1 rfl (Nat.le_of_ble_eq_true rfl) dJ1_indexOf_4cfef_33 ⟨Nat.le_refl _, Nat.le_refl _⟩ (fun H locs hP hD hS => ?_)
      exact fc_reti hx hb hr hlocks hP hS dJ1_indexOf_4cfef_36 (i1 hf) rfl
    · have hf := ifF hf c32
      refine lv_iconst (v := (-1 : Int32)) hx hb dJ1_indexOf_4cfef_27 (by decide) ?_
      exact fc_reti hx hb hr hlocks hP hS dJ1_indexOf_4cfef_28 (i1 hf) rfl
  · have hf := ifT hf c31
    refine lv_iconst (v := (-1 : Int32)) hx hb dJ1_indexOf_4cfef_7 (by decide) ?_
    exact fc_reti hx hb hr hlocks hP hS dJ1_indexOf_4cfef_8 (i1 hf) rfl
theorem dk_J0_indexOf_7cf53 : yJ0_indexOf_7cf53.cls ≠ "java/lang/invoke/MethodHandle" ∧ yJ0_indexOf_7cf53.cls ≠ "java/lang/invoke/VarHandle" ∧ (parseMethodDescriptor yJ0_indexOf_7cf53.desc).map (fun d => d.parameters.length) = some 2 := by decide +kernel
theorem lt6_J0_indexOf_7cf53 {k : Nat} {x1 : Int32} {x2 : Int32} {r : Int32} (h : f_J0_indexOf_7cf53 k x1 x2 = some r) : k < 6 := by
  rw [f_J0_indexOf_7cf53] at h
  exact of_decide_eq_true (gd_some h).1
set_option maxHeartbeats 4000000 in
set_option maxRecDepth 100000 in
theorem k_J0_indexOf_7cf53 {l : Launch} {G : Gx} (k : Nat) (x1 : Int32) (x2 : Int32) {r : Int32} (hf : f_J0_indexOf_7cf53 k x1 x2 = some r) : FC l G yJ0_indexOf_7cf53 wsJ0_indexOf_7cf53 ({ frames := 2, cells := 0, slots := 0, locals := 48 } : Room) [.ref (gK G k), .int x1, .int x2] ([] : va_W) ([] : va_W) (some (.int r)) := by
  refine fc_head (cc := cJ0_indexOf_7cf53) (maxL := 3) (ret := (some .int)) (C := RJ0) (lv := [(0, .ref (gK G k)), (1, .int x1), (2, .int x2)]) (by decide) rfl rfl (Nat.le_of_ble_eq_true rfl) rfl ?_
  intro p e s m below meth c ls A hx hb hr hml hown hts hlocks hE hP hD hAB hS hl
  have hCF : CallFix p m c cJ0_indexOf_7cf53 3 s ([.ref (gK G k), .int x1, .int x2] : List Value).toArray wsJ0_indexOf_7cf53 RJ0 := ⟨hx, hb, hml, hown, hts⟩
  have hk_fieldLink_RJ0_9__java_lang_String___value____B_ := hts (.fieldLink RJ0 9 "java/lang/String" "value" "[B") (List.mem_of_getElem? (i := 1) rfl)
  rw [f_J0_indexOf_7cf53] at hf
  obtain ⟨hk6, hf⟩ := gd_some hf
  have hk6 := of_decide_eq_true hk6
  refine lv_aload_n hx hb dJ0_indexOf_7cf53_0 rfl (lv_at hl 0 rfl) ?_
  obtain ⟨q38, hq38, hf⟩ := bnd hf
  refine fc_callV (Wa' := ([] : va_W)) (st1 := [.int q38]) (As := []) (rest := []) hCF (k_J0_isLatin1_aae02 k hq38) (cwV 0 hts gJ0_indexOf_7cf53_J0_isLatin1_aae02 rfl rfl rfl ⟨rfl, dk_J0_isLatin1_aae02⟩ ⟨Nat.le_of_ble_eq_true rfl, Nat.le_of_ble_eq_true rfl⟩) hE hAB hP hD hS [] rfl rfl (vk_recv (hE.2.2.1.narrow hAB).2.2.2.2 (lt6_J0_isLatin1_aae02 hq38) hS) rfl rfl rfl rfl hl.1 rfl (Nat.le_of_ble_eq_true rfl) dJ0_indexOf_7cf53_1 ⟨Nat.le_refl _, Nat.le_refl _⟩ (fun H locs hP hD hS => ?_)
  refine lv_if_eq (tgt := 23) hx hb dJ0_indexOf_7cf53_4 (by decide) (fun c39 => ?_) (fun c39 => ?_)
  · have hf := ifT hf c39
    refine lv_aload_n hx hb dJ0_indexOf_7cf53_23 rfl (lv_at hl 0 rfl) ?_
    refine vk_getf hx hb ((hE.2.2.1.narrow hAB).2.2.2.2.1 k hk6).2.2.1 hS hown hk_fieldLink_RJ0_9__java_lang_String___value____B_ (fun _ h => h) dJ0_indexOf_7cf53_24 ?_
    refine lv_iload_n hx hb dJ0_indexOf_7cf53_27 rfl (lv_at hl 1 rfl) ?_
    refine lv_iload_n hx hb dJ0_indexOf_7cf53_28 rfl (lv_at hl 2 rfl) ?_
    refine lv_aload_n hx hb dJ0_indexOf_7cf53_29 rfl (lv_at hl 0 rfl) ?_
    obtain ⟨q40, hq40, hf⟩ := bnd hf
    refine fc_callV (Wa' := ([] : va_W)) (st1 := [.int q40, .int x2, .int x1, .ref (gV G k)]) (As := []) (rest := [.int x2, .int x1, .ref (gV G k)]) hCF (k_J0_length_8abf5 k hq40) (cwV 0 hts gJ0_indexOf_7cf53_J0_length_8abf5 rfl rfl rfl ⟨rfl, dk_J0_length_8abf5⟩ ⟨Nat.le_of_ble_eq_true rfl, Nat.le_of_ble_eq_true rfl⟩) hE hAB hP hD hS [] rfl rfl (vk_recv (hE.2.2.1.narrow hAB).2.2.2.2 (lt6_J0_length_8abf5 hq40) hS) rfl rfl rfl rfl hl.1 rfl (Nat.le_of_ble_eq_true rfl) dJ0_indexOf_7cf53_30 ⟨Nat.le_refl _, Nat.le_refl _⟩ (fun H locs hP hD hS => ?_)
    exact no_some hf
  · have hf := ifF hf c39
    refine lv_aload_n hx hb dJ0_indexOf_7cf53_7 rfl (lv_at hl 0 rfl) ?_
    refine vk_getf hx hb ((hE.2.2.1.narrow hAB).2.2.2.2.1 k hk6).2.2.1 hS hown hk_fieldLink_RJ0_9__java_lang_String___value____B_ (fun _ h => h) dJ0_indexOf_7cf53_8 ?_
    refine lv_iload_n hx hb dJ0_indexOf_7cf53_11 rfl (lv_at hl 1 rfl) ?_
    refine lv_iload_n hx hb dJ0_indexOf_7cf53_12 rfl (lv_at hl 2 rfl) ?_
    refine lv_aload_n hx hb dJ0_indexOf_7cf53_13 rfl (lv_at hl 0 rfl) ?_
    obtain ⟨q41, hq41, hf⟩ := bnd hf
    refine fc_callV (Wa' := ([] : va_W)) (st1 := [.int q41, .int x2, .int x1, .ref (gV G k)]) (As := []) (rest := [.int x2, .int x1, .ref (gV G k)]) hCF (k_J0_length_8abf5 k hq41) (cwV 0 hts gJ0_indexOf_7cf53_J0_length_8abf5 rfl rfl rfl ⟨rfl, dk_J0_length_8abf5⟩ ⟨Nat.le_of_ble_eq_true rfl, Nat.le_of_ble_eq_true rfl⟩) hE hAB hP hD hS [] rfl rfl (vk_recv (hE.2.2.1.narrow hAB).2.2.2.2 (lt6_J0_length_8abf5 hq41) hS) rfl rfl rfl rfl hl.1 rfl (Nat.le_of_ble_eq_true rfl) dJ0_indexOf_7cf53_14 ⟨Nat.le_refl _, Nat.le_refl _⟩ (fun H locs hP hD hS => ?_)
    obtain ⟨q42, hq42, hf⟩ := bnd hf
    refine fc_callS (Wa' := ([] : va_W)) (st1 := [.int q42]) (As := [.ref (gV G k), .int x1, .int x2, .int q41]) (rest := []) hCF (k_J1_indexOf_4cfef k x1 x2 q41 hq42) (va_cwS 4 hts gJ0_indexOf_7cf53_J1_indexOf_4cfef rfl rfl rfl dk_J1_indexOf_4cfef ⟨Nat.le_of_ble_eq_true rfl, Nat.le_of_ble_eq_true rfl⟩) hE hAB hP hD hS [] rfl rfl rfl rfl rfl rfl hl.1 rfl (Nat.le_of_ble_eq_true rfl) dJ0_indexOf_7cf53_17 ⟨Nat.le_refl _, Nat.le_refl _⟩ (fun H locs hP hD hS => ?_)
    refine lv_goto (tgt := 36) hx hb dJ0_indexOf_7cf53_20 (by decide) ?_
    exact fc_reti hx hb hr hlocks hP hS dJ0_indexOf_7cf53_36 (i1 hf) rfl
theorem dk_J0_indexOf_0f7a4 : yJ0_indexOf_0f7a4.cls ≠ "java/lang/invoke/MethodHandle" ∧ yJ0_indexOf_0f7a4.cls ≠ "java/lang/invoke/VarHandle" ∧ (parseMethodDescriptor yJ0_indexOf_0f7a4.desc).map (fun d => d.parameters.length) = some 1 := by decide +kernel
theorem lt6_J0_indexOf_0f7a4 {k : Nat} {x1 : Int32} {r : Int32} (h : f_J0_indexOf_0f7a4 k x1 = some r) : k < 6 := by
  rw [f_J0_indexOf_0f7a4] at h
  exact of_decide_eq_true (gd_some h).1
set_option maxHeartbeats 4000000 in
set_option maxRecDepth 100000 in
theorem k_J0_indexOf_0f7a4 {l : Launch} {G : Gx} (k : Nat) (x1 : Int32) {r : Int32} (hf : f_J0_indexOf_0f7a4 k x1 = some r) : FC l G yJ0_indexOf_0f7a4 wsJ0_indexOf_0f7a4 ({ frames := 3, cells := 0, slots := 0, locals := 70 } : Room) [.ref (gK G k), .int x1] ([] : va_W) ([] : va_W) (some (.int r)) := by
  refine fc_head (cc := cJ0_indexOf_0f7a4) (maxL := 2) (ret := (some .int)) (C := RJ0) (lv := [(0, .ref (gK G k)), (1, .int x1)]) (by decide) rfl rfl (Nat.le_of_ble_eq_true rfl) rfl ?_
  intro p e s m below meth c ls A hx hb hr hml hown hts hlocks hE hP hD hAB hS hl
  have hCF : CallFix p m c cJ0_indexOf_0f7a4 2 s ([.ref (gK G k), .int x1] : List Value).toArray wsJ0_indexOf_0f7a4 RJ0 := ⟨hx, hb, hml, hown, hts⟩
  rw [f_J0_indexOf_0f7a4] at hf
  obtain ⟨hk6, hf⟩ := gd_some hf
  have hk6 := of_decide_eq_true hk6
  refine lv_aload_n hx hb dJ0_indexOf_0f7a4_0 rfl (lv_at hl 0 rfl) ?_
  refine lv_iload_n hx hb dJ0_indexOf_0f7a4_1 rfl (lv_at hl 1 rfl) ?_
  refine lv_iconst (v := (0 : Int32)) hx hb dJ0_indexOf_0f7a4_2 (by decide) ?_
  obtain ⟨q44, hq44, hf⟩ := bnd hf
  refine fc_callV (Wa' := ([] : va_W)) (st1 := [.int q44]) (As := [.int x1, .int (0 : Int32)]) (rest := []) hCF (k_J0_indexOf_7cf53 k x1 (0 : Int32) hq44) (cwV 2 hts gJ0_indexOf_0f7a4_J0_indexOf_7cf53 rfl rfl rfl ⟨rfl, dk_J0_indexOf_7cf53⟩ ⟨Nat.le_of_ble_eq_true rfl, Nat.le_of_ble_eq_true rfl⟩) hE hAB hP hD hS [] rfl rfl (vk_recv (hE.2.2.1.narrow hAB).2.2.2.2 (lt6_J0_indexOf_7cf53 hq44) hS) rfl rfl rfl rfl hl.1 rfl (Nat.le_of_ble_eq_true rfl) dJ0_indexOf_0f7a4_3 ⟨Nat.le_refl _, Nat.le_refl _⟩ (fun H locs hP hD hS => ?_)
  exact fc_reti hx hb hr hlocks hP hS dJ0_indexOf_0f7a4_6 (i1 hf) rfl
theorem dk_X7_has : yX7_has.cls ≠ "java/lang/invoke/MethodHandle" ∧ yX7_has.cls ≠ "java/lang/invoke/VarHandle" ∧ (parseMethodDescriptor yX7_has.desc).map (fun d => d.parameters.length) = some 2 := by decide +kernel
set_option maxHeartbeats 4000000 in
set_option maxRecDepth 100000 in
theorem k_X7_has {l : Launch} {G : Gx} (x0 : Int32) (x1 : Int32) {r : Int32} (hf : f_X7_has x0 x1 = some r) : FC l G yX7_has wsX7_has ({ frames := 0, cells := 0, slots := 0, locals := 0 } : Room) [.int x0, .int x1] ([] : va_W) ([] : va_W) (some (.int r)) := by
  refine fc_head (cc := cX7_has) (maxL := 2) (ret := (some .boolean)) (C := RX7) (lv := [(0, .int x0), (1, .int x1)]) (by decide) rfl rfl (Nat.le_of_ble_eq_true rfl) rfl ?_
  intro p e s m below meth c ls A hx hb hr hml hown hts hlocks hE hP hD hAB hS hl
  have hCF : CallFix p m c cX7_has 2 s ([.int x0, .int x1] : List Value).toArray wsX7_has RX7 := ⟨hx, hb, hml, hown, hts⟩
  rw [f_X7_has] at hf
  refine lv_iload_n hx hb dX7_has_0 rfl (lv_at hl 1 rfl) ?_
  refine lv_if_lt (tgt := 23) hx hb dX7_has_1 (by decide) (fun c45 => ?_) (fun c45 => ?_)
  · have hf := ifT hf c45
    refine lv_iconst (v := (0 : Int32)) hx hb dX7_has_23 (by decide) ?_
    exact fc_retz hx hb hr hlocks hP hS dX7_has_24 (by decide) (i1 hf) rfl
  · have hf := ifF hf c45
    refine lv_iload_n hx hb dX7_has_4 rfl (lv_at hl 1 rfl) ?_
    refine lv_bipush (v := (32 : Int32)) hx hb dX7_has_5 (by decide) ?_
    refine lv_icmp_ge (tgt := 23) hx hb dX7_has_7 (by decide) (fun c46 => ?_) (fun c46 => ?_)
    · have hf := ifT hf c46
      refine lv_iconst (v := (0 : Int32)) hx hb dX7_has_23 (by decide) ?_
      exact fc_retz hx hb hr hlocks hP hS dX7_has_24 (by decide) (i1 hf) rfl
    · have hf := ifF hf c46
      refine lv_iload_n hx hb dX7_has_10 rfl (lv_at hl 0 rfl) ?_
      refine lv_iload_n hx hb dX7_has_11 rfl (lv_at hl 1 rfl) ?_
      refine lv_ishr hx hb dX7_has_12 ?_
      refine lv_iconst (v := (1 : Int32)) hx hb dX7_has_13 (by decide) ?_
      refine lv_iand hx hb dX7_has_14 ?_
      refine lv_iconst (v := (1 : Int32)) hx hb dX7_has_15 (by decide) ?_
      refine lv_icmp_ne (tgt := 23) hx hb dX7_has_16 (by decide) (fun c47 => ?_) (fun c47 => ?_)
      · have hf := ifF hf c47
        refine lv_iconst (v := (0 : Int32)) hx hb dX7_has_23 (by decide) ?_
        exact fc_retz hx hb hr hlocks hP hS dX7_has_24 (by decide) (i1 hf) rfl
      · have hf := ifT hf c47
        refine lv_iconst (v := (1 : Int32)) hx hb dX7_has_19 (by decide) ?_
        refine lv_goto (tgt := 24) hx hb dX7_has_20 (by decide) ?_
        exact fc_retz hx hb hr hlocks hP hS dX7_has_24 (by decide) (i1 hf) rfl
theorem dk_X6_isUnmarried : yX6_isUnmarried.cls ≠ "java/lang/invoke/MethodHandle" ∧ yX6_isUnmarried.cls ≠ "java/lang/invoke/VarHandle" ∧ (parseMethodDescriptor yX6_isUnmarried.desc).map (fun d => d.parameters.length) = some 1 := by decide +kernel
theorem iu_X6_isUnmarried_X6 : ∀ w ∈ u_ws RX6 TX6 12, w ∈ wsX6_isUnmarried := by decide +kernel
set_option maxHeartbeats 4000000 in
set_option maxRecDepth 100000 in
theorem k_X6_isUnmarried {l : Launch} {G : Gx} (a : Nat → Nat) (v : St) (x1 : Int32) {r : Int32} (hf : f_X6_isUnmarried v x1 = some r) : FC l G yX6_isUnmarried wsX6_isUnmarried ({ frames := 1, cells := 0, slots := 0, locals := 21 } : Room) [.ref (a 0), .int x1] (vW G a v) (vW G a v) (some (.int r)) := by
  refine fc_head (cc := cX6_isUnmarried) (maxL := 2) (ret := (some .boolean)) (C := RX6) (lv := [(0, .ref (a 0)), (1, .int x1)]) (by decide) rfl rfl (Nat.le_of_ble_eq_true rfl) rfl ?_
  intro p e s m below meth c ls A hx hb hr hml hown hts hlocks hE hP hD hAB hS hl
  have hCF : CallFix p m c cX6_isUnmarried 2 s ([.ref (a 0), .int x1] : List Value).toArray wsX6_isUnmarried RX6 := ⟨hx, hb, hml, hown, hts⟩
  have hwX6 : ∀ w ∈ u_ws RX6 TX6 12, w.before ([.ref (a 0), .int x1] : List Value).toArray s = true := fun w h => hts w (iu_X6_isUnmarried_X6 w h)
  have hk_fieldLink_RX6_50__BrideNotKnown_Valley___marriedGrooms___I_ := hts (.fieldLink RX6 50 "BrideNotKnown$Valley" "marriedGrooms" "I") (List.mem_of_getElem? (i := 1) rfl)
  have hk_initialized_RX7 := hts (.initialized RX7) (List.mem_of_getElem? (i := 3) rfl)
  have hk_static_yX7_has := hts (.static yX7_has) (List.mem_of_getElem? (i := 2) rfl)
  rw [f_X6_isUnmarried] at hf
  refine lv_aload_n hx hb dX6_isUnmarried_0 rfl (lv_at hl 0 rfl) ?_
  refine fc_get (v := .int (v 7 4)) (ci := 3) (C := RX6) (T := TX6) (N := 12) hx hb hwX6 hown hE hP 0 (vW_o G a v) rfl 11 (by decide) hk_fieldLink_RX6_50__BrideNotKnown_Valley___marriedGrooms___I_ (fun _ h => h) rfl dX6_isUnmarried_1 ?_
  refine lv_iload_n hx hb dX6_isUnmarried_4 rfl (lv_at hl 1 rfl) ?_
  obtain ⟨q49, hq49, hf⟩ := bnd hf
  refine fc_callN (Wa' := (vW G a v)) (st1 := [.int q49]) (As := [.int (v 7 4), .int x1]) (rest := []) hCF (k_X7_has (v 7 4) x1 hq49) ⟨va_cnB 2 hts gX6_isUnmarried_X7_has_n57 rfl rfl rfl (hE.2.1 _ (List.mem_of_getElem? (i := 9) rfl)) hk_initialized_RX7 dk_X7_has ⟨Nat.le_of_ble_eq_true rfl, Nat.le_of_ble_eq_true rfl⟩, hk_static_yX7_has, trivial⟩ hE hAB hP hD hS [] rfl rfl rfl rfl rfl rfl hl.1 rfl (Nat.le_of_ble_eq_true rfl) dX6_isUnmarried_5 ⟨Nat.le_refl _, Nat.le_refl _⟩ (fun H locs hP hD hS => ?_)
  refine lv_if_ne (tgt := 15) hx hb dX6_isUnmarried_8 (by decide) (fun c50 => ?_) (fun c50 => ?_)
  · have hf := ifF hf c50
    refine lv_iconst (v := (0 : Int32)) hx hb dX6_isUnmarried_15 (by decide) ?_
    exact fc_retz hx hb hr hlocks hP hS dX6_isUnmarried_16 (by decide) (i1 hf) rfl
  · have hf := ifT hf c50
    refine lv_iconst (v := (1 : Int32)) hx hb dX6_isUnmarried_11 (by decide) ?_
    refine lv_goto (tgt := 16) hx hb dX6_isUnmarried_12 (by decide) ?_
    exact fc_retz hx hb hr hlocks hP hS dX6_isUnmarried_16 (by decide) (i1 hf) rfl
theorem dk_X7_at : yX7_at.cls ≠ "java/lang/invoke/MethodHandle" ∧ yX7_at.cls ≠ "java/lang/invoke/VarHandle" ∧ (parseMethodDescriptor yX7_at.desc).map (fun d => d.parameters.length) = some 2 := by decide +kernel
set_option maxHeartbeats 4000000 in
set_option maxRecDepth 100000 in
theorem k_X7_at {l : Launch} {G : Gx} (q : Nat) (N0 : Nat) (f : Nat → Int32) (x1 : Int32) {r : Int32} (hf : f_X7_at N0 f x1 = some r) : FC l G yX7_at wsX7_at ({ frames := 0, cells := 0, slots := 0, locals := 0 } : Room) [.ref q, .int x1] (aW G q N0 f) (aW G q N0 f) (some (.int r)) := by
  refine fc_head (cc := cX7_at) (maxL := 2) (ret := (some .int)) (C := RX7) (lv := [(0, .ref q), (1, .int x1)]) (by decide) rfl rfl (Nat.le_of_ble_eq_true rfl) rfl ?_
  intro p e s m below meth c ls A hx hb hr hml hown hts hlocks hE hP hD hAB hS hl
  have hCF : CallFix p m c cX7_at 2 s ([.ref q, .int x1] : List Value).toArray wsX7_at RX7 := ⟨hx, hb, hml, hown, hts⟩
  rw [f_X7_at] at hf
  refine lv_aload_n hx hb dX7_at_0 rfl (lv_at hl 0 rfl) ?_
  refine lv_ifnull hx hb dX7_at_1 ?_
  refine lv_iload_n hx hb dX7_at_4 rfl (lv_at hl 1 rfl) ?_
  refine lv_if_lt (tgt := 20) hx hb dX7_at_5 (by decide) (fun c51 => ?_) (fun c51 => ?_)
  · have hf := ifT hf c51
    refine lv_iconst (v := (0 : Int32)) hx hb dX7_at_20 (by decide) ?_
    exact fc_reti hx hb hr hlocks hP hS dX7_at_21 (i1 hf) rfl
  · have hf := ifF hf c51
    refine lv_iload_n hx hb dX7_at_8 rfl (lv_at hl 1 rfl) ?_
    refine lv_aload_n hx hb dX7_at_9 rfl (lv_at hl 0 rfl) ?_
    refine fc_alen (n := N0) (f := f) hx hb hE hP 0 (aW_a G q N0 f) dX7_at_10 ?_
    refine lv_icmp_ge (tgt := 20) hx hb dX7_at_11 (by decide) (fun c52 => ?_) (fun c52 => ?_)
    · have hf := ifT hf c52
      refine lv_iconst (v := (0 : Int32)) hx hb dX7_at_20 (by decide) ?_
      exact fc_reti hx hb hr hlocks hP hS dX7_at_21 (i1 hf) rfl
    · have hf := ifF hf c52
      refine lv_aload_n hx hb dX7_at_14 rfl (lv_at hl 0 rfl) ?_
      refine lv_iload_n hx hb dX7_at_15 rfl (lv_at hl 1 rfl) ?_
      obtain ⟨c53, hf⟩ := gd_some hf
      refine fc_iald (n := N0) (f := f) hx hb hE hP 0 (aW_a G q N0 f) (inB_in c53) dX7_at_16 ?_
      refine lv_goto (tgt := 21) hx hb dX7_at_17 (by decide) ?_
      exact fc_reti hx hb hr hlocks hP hS dX7_at_21 (i1 hf) rfl
theorem dk_X6_hereThen : yX6_hereThen.cls ≠ "java/lang/invoke/MethodHandle" ∧ yX6_hereThen.cls ≠ "java/lang/invoke/VarHandle" ∧ (parseMethodDescriptor yX6_hereThen.desc).map (fun d => d.parameters.length) = some 1 := by decide +kernel
theorem iu_X6_hereThen_X6 : ∀ w ∈ u_ws RX6 TX6 12, w ∈ wsX6_hereThen := by decide +kernel
set_option maxHeartbeats 4000000 in
set_option maxRecDepth 100000 in
theorem k_X6_hereThen {l : Launch} {G : Gx} (a : Nat → Nat) (v : St) (x1 : Int32) {r : Int32} (hf : f_X6_hereThen v x1 = some r) : FC l G yX6_hereThen wsX6_hereThen ({ frames := 1, cells := 0, slots := 0, locals := 21 } : Room) [.ref (a 0), .int x1] (vW G a v) (vW G a v) (some (.int r)) := by
  refine fc_head (cc := cX6_hereThen) (maxL := 4) (ret := (some .int)) (C := RX6) (lv := [(0, .ref (a 0)), (1, .int x1)]) (by decide) rfl rfl (Nat.le_of_ble_eq_true rfl) rfl ?_
  intro p e s m below meth c ls A hx hb hr hml hown hts hlocks hE hP hD hAB hS hl
  have hCF : CallFix p m c cX6_hereThen 4 s ([.ref (a 0), .int x1] : List Value).toArray wsX6_hereThen RX6 := ⟨hx, hb, hml, hown, hts⟩
  have hwX6 : ∀ w ∈ u_ws RX6 TX6 12, w.before ([.ref (a 0), .int x1] : List Value).toArray s = true := fun w h => hts w (iu_X6_hereThen_X6 w h)
  have hk_fieldLink_RX6_37__BrideNotKnown_Valley___brideCount___I_ := hts (.fieldLink RX6 37 "BrideNotKnown$Valley" "brideCount" "I") (List.mem_of_getElem? (i := 1) rfl)
  have hk_fieldLink_RX6_44__BrideNotKnown_Valley___marriedBrides___I_ := hts (.fieldLink RX6 44 "BrideNotKnown$Valley" "marriedBrides" "I") (List.mem_of_getElem? (i := 2) rfl)
  have hk_initialized_RX7 := hts (.initialized RX7) (List.mem_of_getElem? (i := 5) rfl)
  have hk_static_yX7_has := hts (.static yX7_has) (List.mem_of_getElem? (i := 4) rfl)
  have hk_fieldLink_RX6_21__BrideNotKnown_Valley___sentYears____I_ := hts (.fieldLink RX6 21 "BrideNotKnown$Valley" "sentYears" "[I") (List.mem_of_getElem? (i := 3) rfl)
  have hk_static_yX7_at := hts (.static yX7_at) (List.mem_of_getElem? (i := 7) rfl)
  rw [f_X6_hereThen] at hf
  refine lv_iconst (v := (0 : Int32)) hx hb dX6_hereThen_0 (by decide) ?_
  refine lv_istore_n (lv' := [(2, .int (0 : Int32)), (0, .ref (a 0)), (1, .int x1)]) hx hb dX6_hereThen_1 rfl hl (by decide) rfl (fun ls hl => ?_)
  refine lv_iconst (v := (0 : Int32)) hx hb dX6_hereThen_2 (by decide) ?_
  refine lv_istore_n (lv' := [(3, .int (0 : Int32)), (2, .int (0 : Int32)), (0, .ref (a 0)), (1, .int x1)]) hx hb dX6_hereThen_3 rfl hl (by decide) rfl (fun ls hl => ?_)
  have L4_58 : ∀ (n : Nat) (x2_56 : Int32) (x3_57 : Int32) (H : Heap) (locs : List Loc) (ls : Array Slot), va_P (gD G) vwCl (vW G a v) H → va_D A (vW G a v) → va_S A s.heap H locs → lv_has ls 4 [(0, .ref (a 0)), (1, .int x1), (2, .int x2_56), (3, .int x3_57)] → f_X6_hereThen_4 v x1 n x2_56 x3_57 = some r → W p l e (headSpec wsX6_hereThen ({ frames := 1, cells := 0, slots := 0, locals := 21 } : Room)).room s m ([.ref (a 0), .int x1] : List Value).toArray below meth c H locs 0 0 (MQ below (FQ G A (vW G a v) (some (.int r))) ([.ref (a 0), .int x1] : List Value).toArray s 0 0 A) (F0 m 4 ls []) := by
    intro n
    induction n with
    | zero =>
      intro x2_56 x3_57 H locs ls hP hD hS hl hf
      exact no_some hf
    | succ n ih =>
      intro x2_56 x3_57 H locs ls hP hD hS hl hf
      rw [f_X6_hereThen_4] at hf
      refine lv_iload_n hx hb dX6_hereThen_4 rfl (lv_at hl 3 rfl) ?_
      refine lv_aload_n hx hb dX6_hereThen_5 rfl (lv_at hl 0 rfl) ?_
      refine fc_get (v := .int (v 7 1)) (ci := 3) (C := RX6) (T := TX6) (N := 12) hx hb hwX6 hown hE hP 0 (vW_o G a v) rfl 1 (by decide) hk_fieldLink_RX6_37__BrideNotKnown_Valley___brideCount___I_ (fun _ h => h) rfl dX6_hereThen_6 ?_
      refine lv_icmp_ge (tgt := 47) hx hb dX6_hereThen_9 (by decide) (fun c59 => ?_) (fun c59 => ?_)
      · have hf := ifT hf c59
        refine lv_iload_n hx hb dX6_hereThen_47 rfl (lv_at hl 2 rfl) ?_
        exact fc_reti hx hb hr hlocks hP hS dX6_hereThen_48 (i1 hf) rfl
      · have hf := ifF hf c59
        refine lv_aload_n hx hb dX6_hereThen_12 rfl (lv_at hl 0 rfl) ?_
        refine fc_get (v := .int (v 7 2)) (ci := 3) (C := RX6) (T := TX6) (N := 12) hx hb hwX6 hown hE hP 0 (vW_o G a v) rfl 6 (by decide) hk_fieldLink_RX6_44__BrideNotKnown_Valley___marriedBrides___I_ (fun _ h => h) rfl dX6_hereThen_13 ?_
        refine lv_iload_n hx hb dX6_hereThen_16 rfl (lv_at hl 3 rfl) ?_
        obtain ⟨q60, hq60, hf⟩ := bnd hf
        refine fc_callN (Wa' := (vW G a v)) (st1 := [.int q60]) (As := [.int (v 7 2), .int x3_57]) (rest := []) hCF (k_X7_has (v 7 2) x3_57 hq60) ⟨va_cnB 2 hts gX6_hereThen_X7_has_n57 rfl rfl rfl (hE.2.1 _ (List.mem_of_getElem? (i := 9) rfl)) hk_initialized_RX7 dk_X7_has ⟨Nat.le_of_ble_eq_true rfl, Nat.le_of_ble_eq_true rfl⟩, hk_static_yX7_has, trivial⟩ hE hAB hP hD hS [] rfl rfl rfl rfl rfl rfl hl.1 rfl (Nat.le_of_ble_eq_true rfl) dX6_hereThen_17 ⟨Nat.le_refl _, Nat.le_refl _⟩ (fun H locs hP hD hS => ?_)
        refine lv_if_ne (tgt := 41) hx hb dX6_hereThen_20 (by decide) (fun c61 => ?_) (fun c61 => ?_)
        · have hf := ifF hf c61
          refine lv_iinc (v := (x3_57 + (1 : Int32))) (lv' := [(3, .int (x3_57 + (1 : Int32))), (0, .ref (a 0)), (1, .int x1), (2, .int x2_56)]) hx hb dX6_hereThen_41 hl (k := 3) rfl rfl (by decide) rfl (fun ls hl => ?_)
          refine lv_goto (tgt := 4) hx hb dX6_hereThen_44 (by decide) ?_
          exact ih x2_56 (x3_57 + (1 : Int32)) _ _ _ hP hD hS (lv_sub hl [1, 2, 3, 0] rfl) hf
        · have hf := ifT hf c61
          refine lv_aload_n hx hb dX6_hereThen_23 rfl (lv_at hl 0 rfl) ?_
          refine fc_get (v := .ref (a 4)) (ci := 3) (C := RX6) (T := TX6) (N := 12) hx hb hwX6 hown hE hP 0 (vW_o G a v) rfl 5 (by decide) hk_fieldLink_RX6_21__BrideNotKnown_Valley___sentYears____I_ (fun _ h => h) rfl dX6_hereThen_24 ?_
          refine lv_iload_n hx hb dX6_hereThen_27 rfl (lv_at hl 3 rfl) ?_
          obtain ⟨q62, hq62, hf⟩ := bnd hf
          refine fc_callN (Wa' := (vW G a v)) (st1 := [.int q62]) (As := [.ref (a 4), .int x3_57]) (rest := []) hCF (k_X7_at (a 4) 8 (v 3) x3_57 hq62) ⟨va_cnB 2 hts gX6_hereThen_X7_at_n53 rfl rfl rfl (hE.2.1 _ (List.mem_of_getElem? (i := 8) rfl)) hk_initialized_RX7 dk_X7_at ⟨Nat.le_of_ble_eq_true rfl, Nat.le_of_ble_eq_true rfl⟩, hk_static_yX7_at, trivial⟩ hE hAB hP hD hS [4] rfl (vW_ca4 G a v) (aW_f G (a 4) 8 (v 3) (v 3)) (vW_ia4 G a v) rfl rfl hl.1 rfl (Nat.le_of_ble_eq_true rfl) dX6_hereThen_28 ⟨Nat.le_refl _, Nat.le_refl _⟩ (fun H locs hP hD hS => ?_)
          refine lv_iload_n hx hb dX6_hereThen_31 rfl (lv_at hl 1 rfl) ?_
          refine lv_icmp_gt (tgt := 41) hx hb dX6_hereThen_32 (by decide) (fun c63 => ?_) (fun c63 => ?_)
          · have hf := ifT hf c63
            refine lv_iinc (v := (x3_57 + (1 : Int32))) (lv' := [(3, .int (x3_57 + (1 : Int32))), (0, .ref (a 0)), (1, .int x1), (2, .int x2_56)]) hx hb dX6_hereThen_41 hl (k := 3) rfl rfl (by decide) rfl (fun ls hl => ?_)
            refine lv_goto (tgt := 4) hx hb dX6_hereThen_44 (by decide) ?_
            exact ih x2_56 (x3_57 + (1 : Int32)) _ _ _ hP hD hS (lv_sub hl [1, 2, 3, 0] rfl) hf
          · have hf := ifF hf c63
            refine lv_iload_n hx hb dX6_hereThen_35 rfl (lv_at hl 2 rfl) ?_
            refine lv_iconst (v := (1 : Int32)) hx hb dX6_hereThen_36 (by decide) ?_
            refine lv_iload_n hx hb dX6_hereThen_37 rfl (lv_at hl 3 rfl) ?_
            refine lv_ishl hx hb dX6_hereThen_38 ?_
            refine lv_ior hx hb dX6_hereThen_39 ?_
            refine lv_istore_n (lv' := [(2, .int (x2_56 ||| ((1 : Int32) <<< (x3_57 &&& 31)))), (0, .ref (a 0)), (1, .int x1), (3, .int x3_57)]) hx hb dX6_hereThen_40 rfl hl (by decide) rfl (fun ls hl => ?_)
            refine lv_iinc (v := (x3_57 + (1 : Int32))) (lv' := [(3, .int (x3_57 + (1 : Int32))), (2, .int (x2_56 ||| ((1 : Int32) <<< (x3_57 &&& 31)))), (0, .ref (a 0)), (1, .int x1)]) hx hb dX6_hereThen_41 hl (k := 3) rfl rfl (by decide) rfl (fun ls hl => ?_)
            refine lv_goto (tgt := 4) hx hb dX6_hereThen_44 (by decide) ?_
            exact ih (x2_56 ||| ((1 : Int32) <<< (x3_57 &&& 31))) (x3_57 + (1 : Int32)) _ _ _ hP hD hS (lv_sub hl [2, 3, 1, 0] rfl) hf
  exact L4_58 FUEL (0 : Int32) (0 : Int32) _ _ _ hP hD hS (lv_sub hl [2, 3, 1, 0] rfl) hf
theorem dk_X6_showsAs : yX6_showsAs.cls ≠ "java/lang/invoke/MethodHandle" ∧ yX6_showsAs.cls ≠ "java/lang/invoke/VarHandle" ∧ (parseMethodDescriptor yX6_showsAs.desc).map (fun d => d.parameters.length) = some 4 := by decide +kernel
theorem iu_X6_showsAs_X6 : ∀ w ∈ u_ws RX6 TX6 12, w ∈ wsX6_showsAs := by decide +kernel
set_option maxHeartbeats 4000000 in
set_option maxRecDepth 100000 in
theorem k_X6_showsAs {l : Launch} {G : Gx} (a : Nat → Nat) (v : St) (x1 : Int32) (x2 : Int32) (x3 : Int32) (x4 : Int32) {r : Int32} (hf : f_X6_showsAs v x1 x2 x3 x4 = some r) : FC l G yX6_showsAs wsX6_showsAs ({ frames := 1, cells := 0, slots := 0, locals := 21 } : Room) [.ref (a 0), .int x1, .int x2, .int x3, .int x4] (vW G a v) (vW G a v) (some (.int r)) := by
  refine fc_head (cc := cX6_showsAs) (maxL := 9) (ret := (some .int)) (C := RX6) (lv := [(0, .ref (a 0)), (1, .int x1), (2, .int x2), (3, .int x3), (4, .int x4)]) (by decide) rfl rfl (Nat.le_of_ble_eq_true rfl) rfl ?_
  intro p e s m below meth c ls A hx hb hr hml hown hts hlocks hE hP hD hAB hS hl
  have hCF : CallFix p m c cX6_showsAs 9 s ([.ref (a 0), .int x1, .int x2, .int x3, .int x4] : List Value).toArray wsX6_showsAs RX6 := ⟨hx, hb, hml, hown, hts⟩
  have hwX6 : ∀ w ∈ u_ws RX6 TX6 12, w.before ([.ref (a 0), .int x1, .int x2, .int x3, .int x4] : List Value).toArray s = true := fun w h => hts w (iu_X6_showsAs_X6 w h)
  have hk_fieldLink_RX6_18__BrideNotKnown_Valley___feet____I_ := hts (.fieldLink RX6 18 "BrideNotKnown$Valley" "feet" "[I") (List.mem_of_getElem? (i := 1) rfl)
  have hk_initialized_RX7 := hts (.initialized RX7) (List.mem_of_getElem? (i := 4) rfl)
  have hk_static_yX7_at := hts (.static yX7_at) (List.mem_of_getElem? (i := 3) rfl)
  have hk_fieldLink_RX6_33__BrideNotKnown_Valley___year___I_ := hts (.fieldLink RX6 33 "BrideNotKnown$Valley" "year" "I") (List.mem_of_getElem? (i := 2) rfl)
  rw [f_X6_showsAs] at hf
  refine lv_aload_n hx hb dX6_showsAs_0 rfl (lv_at hl 0 rfl) ?_
  refine fc_get (v := .ref (a 3)) (ci := 3) (C := RX6) (T := TX6) (N := 12) hx hb hwX6 hown hE hP 0 (vW_o G a v) rfl 4 (by decide) hk_fieldLink_RX6_18__BrideNotKnown_Valley___feet____I_ (fun _ h => h) rfl dX6_showsAs_1 ?_
  refine lv_iload_n hx hb dX6_showsAs_4 rfl (lv_at hl 1 rfl) ?_
  obtain ⟨q66, hq66, hf⟩ := bnd hf
  refine fc_callN (Wa' := (vW G a v)) (st1 := [.int q66]) (As := [.ref (a 3), .int x1]) (rest := []) hCF (k_X7_at (a 3) 8 (v 2) x1 hq66) ⟨va_cnB 2 hts gX6_showsAs_X7_at_n53 rfl rfl rfl (hE.2.1 _ (List.mem_of_getElem? (i := 8) rfl)) hk_initialized_RX7 dk_X7_at ⟨Nat.le_of_ble_eq_true rfl, Nat.le_of_ble_eq_true rfl⟩, hk_static_yX7_at, trivial⟩ hE hAB hP hD hS [3] rfl (vW_ca3 G a v) (aW_f G (a 3) 8 (v 2) (v 2)) (vW_ia3 G a v) rfl rfl hl.1 rfl (Nat.le_of_ble_eq_true rfl) dX6_showsAs_5 ⟨Nat.le_refl _, Nat.le_refl _⟩ (fun H locs hP hD hS => ?_)
  refine lv_istore (lv' := [(5, .int q66), (0, .ref (a 0)), (1, .int x1), (2, .int x2), (3, .int x3), (4, .int x4)]) hx hb dX6_showsAs_8 hl (by decide) rfl (fun ls hl => ?_)
  refine lv_iload_n hx hb dX6_showsAs_10 rfl (lv_at hl 2 rfl) ?_
  have J29_68 : ∀ (s0_67 : Int32) (H : Heap) (locs : List Loc) (ls : Array Slot), va_P (gD G) vwCl (vW G a v) H → va_D A (vW G a v) → va_S A s.heap H locs → lv_has ls 9 [(0, .ref (a 0)), (2, .int x2), (3, .int x3), (4, .int x4), (5, .int q66)] → f_X6_showsAs_29 v x2 x3 x4 q66 s0_67 = some r → W p l e (headSpec wsX6_showsAs ({ frames := 1, cells := 0, slots := 0, locals := 21 } : Room)).room s m ([.ref (a 0), .int x1, .int x2, .int x3, .int x4] : List Value).toArray below meth c H locs 0 0 (MQ below (FQ G A (vW G a v) (some (.int r))) ([.ref (a 0), .int x1, .int x2, .int x3, .int x4] : List Value).toArray s 0 0 A) (F0 m 29 ls [.int s0_67]) := by
    intro s0_67 H locs ls hP hD hS hl hf
    rw [f_X6_showsAs_29] at hf
    refine lv_istore (lv' := [(6, .int s0_67), (0, .ref (a 0)), (2, .int x2), (3, .int x3), (4, .int x4), (5, .int q66)]) hx hb dX6_showsAs_29 hl (by decide) rfl (fun ls hl => ?_)
    refine lv_iload hx hb dX6_showsAs_31 (lv_at hl 5 rfl) ?_
    refine lv_iconst (v := (1 : Int32)) hx hb dX6_showsAs_33 (by decide) ?_
    refine lv_iload_n hx hb dX6_showsAs_34 rfl (lv_at hl 3 rfl) ?_
    refine lv_bipush (v := (6 : Int32)) hx hb dX6_showsAs_35 (by decide) ?_
    refine lv_irem hx hb dX6_showsAs_37 (by decide) ?_
    refine lv_ishl hx hb dX6_showsAs_38 ?_
    refine lv_ixor hx hb dX6_showsAs_39 ?_
    refine lv_istore (lv' := [(7, .int (q66 ^^^ ((1 : Int32) <<< ((x3 - x3 / (6 : Int32) * (6 : Int32)) &&& 31)))), (6, .int s0_67), (0, .ref (a 0)), (2, .int x2), (3, .int x3), (4, .int x4), (5, .int q66)]) hx hb dX6_showsAs_40 hl (by decide) rfl (fun ls hl => ?_)
    refine lv_aload_n hx hb dX6_showsAs_42 rfl (lv_at hl 2 rfl) ?_
    refine fc_get (v := .int (v 7 0)) (ci := 3) (C := RX6) (T := TX6) (N := 12) hx hb hwX6 hown hE hP 0 (vW_o G a v) rfl 0 (by decide) hk_fieldLink_RX6_33__BrideNotKnown_Valley___year___I_ (fun _ h => h) rfl dX6_showsAs_43 ?_
    refine lv_iload hx hb dX6_showsAs_46 (lv_at hl 5 rfl) ?_
    refine lv_iadd hx hb dX6_showsAs_48 ?_
    refine lv_iconst (v := (2 : Int32)) hx hb dX6_showsAs_49 (by decide) ?_
    refine lv_irem hx hb dX6_showsAs_50 (by decide) ?_
    refine lv_iconst (v := (1 : Int32)) hx hb dX6_showsAs_51 (by decide) ?_
    have J62_70 : ∀ (s0_69 : Int32) (H : Heap) (locs : List Loc) (ls : Array Slot), va_P (gD G) vwCl (vW G a v) H → va_D A (vW G a v) → va_S A s.heap H locs → lv_has ls 9 [(2, .int x2), (5, .int q66), (6, .int s0_67), (7, .int (q66 ^^^ ((1 : Int32) <<< ((x3 - x3 / (6 : Int32) * (6 : Int32)) &&& 31))))] → f_X6_showsAs_62 x2 q66 s0_67 (q66 ^^^ ((1 : Int32) <<< ((x3 - x3 / (6 : Int32) * (6 : Int32)) &&& 31))) s0_69 = some r → W p l e (headSpec wsX6_showsAs ({ frames := 1, cells := 0, slots := 0, locals := 21 } : Room)).room s m ([.ref (a 0), .int x1, .int x2, .int x3, .int x4] : List Value).toArray below meth c H locs 0 0 (MQ below (FQ G A (vW G a v) (some (.int r))) ([.ref (a 0), .int x1, .int x2, .int x3, .int x4] : List Value).toArray s 0 0 A) (F0 m 62 ls [.int s0_69]) := by
      intro s0_69 H locs ls hP hD hS hl hf
      rw [f_X6_showsAs_62] at hf
      refine lv_istore (lv' := [(8, .int s0_69), (2, .int x2), (5, .int q66), (6, .int s0_67), (7, .int (q66 ^^^ ((1 : Int32) <<< ((x3 - x3 / (6 : Int32) * (6 : Int32)) &&& 31))))]) hx hb dX6_showsAs_62 hl (by decide) rfl (fun ls hl => ?_)
      refine lv_iload_n hx hb dX6_showsAs_64 rfl (lv_at hl 1 rfl) ?_
      by_cases c71 : x2 = (1 : Int32)
      · have hf := ifT hf c71
        refine lv_tableIn (off := 35) (tgt := 100) hx hb dX6_showsAs_65 (by rw [c71]; decide) (by rw [c71]; decide) (by rw [c71]; rfl) (by decide) ?_
        refine lv_iload hx hb dX6_showsAs_100 (lv_at hl 3 rfl) ?_
        exact fc_reti hx hb hr hlocks hP hS dX6_showsAs_102 (i1 hf) rfl
      · have hf := ifF hf c71
        by_cases c72 : x2 = (2 : Int32)
        · have hf := ifT hf c72
          refine lv_tableIn (off := 38) (tgt := 103) hx hb dX6_showsAs_65 (by rw [c72]; decide) (by rw [c72]; decide) (by rw [c72]; rfl) (by decide) ?_
          refine lv_iload hx hb dX6_showsAs_103 (lv_at hl 4 rfl) ?_
          exact fc_reti hx hb hr hlocks hP hS dX6_showsAs_105 (i1 hf) rfl
        · have hf := ifF hf c72
          by_cases c73 : x2 = (3 : Int32)
          · have hf := ifT hf c73
            refine lv_tableIn (off := 41) (tgt := 106) hx hb dX6_showsAs_65 (by rw [c73]; decide) (by rw [c73]; decide) (by rw [c73]; rfl) (by decide) ?_
            refine lv_iload hx hb dX6_showsAs_106 (lv_at hl 0 rfl) ?_
            exact fc_reti hx hb hr hlocks hP hS dX6_showsAs_108 (i1 hf) rfl
          · have hf := ifF hf c73
            by_cases c74 : x2 = (4 : Int32)
            · have hf := ifT hf c74
              refine lv_tableIn (off := 44) (tgt := 109) hx hb dX6_showsAs_65 (by rw [c74]; decide) (by rw [c74]; decide) (by rw [c74]; rfl) (by decide) ?_
              refine lv_iload hx hb dX6_showsAs_109 (lv_at hl 3 rfl) ?_
              refine lv_iload hx hb dX6_showsAs_111 (lv_at hl 2 rfl) ?_
              refine lv_ixor hx hb dX6_showsAs_113 ?_
              exact fc_reti hx hb hr hlocks hP hS dX6_showsAs_114 (i1 hf) rfl
            · have hf := ifF hf c74
              by_cases c75 : x2 = (5 : Int32)
              · have hf := ifT hf c75
                refine lv_tableIn (off := 50) (tgt := 115) hx hb dX6_showsAs_65 (by rw [c75]; decide) (by rw [c75]; decide) (by rw [c75]; rfl) (by decide) ?_
                refine lv_iload hx hb dX6_showsAs_115 (lv_at hl 0 rfl) ?_
                refine lv_bipush (v := (-34 : Int32)) hx hb dX6_showsAs_117 (by decide) ?_
                refine lv_iand hx hb dX6_showsAs_119 ?_
                exact fc_reti hx hb hr hlocks hP hS dX6_showsAs_120 (i1 hf) rfl
              · have hf := ifF hf c75
                refine lv_tableOut (tgt := 121) hx hb dX6_showsAs_65 (by have dc71 := lv_neT c71 (a := 1) (by decide); have dc72 := lv_neT c72 (a := 2) (by decide); have dc73 := lv_neT c73 (a := 3) (by decide); have dc74 := lv_neT c74 (a := 4) (by decide); have dc75 := lv_neT c75 (a := 5) (by decide); omega) (by decide) ?_
                refine lv_iload hx hb dX6_showsAs_121 (lv_at hl 2 rfl) ?_
                exact fc_reti hx hb hr hlocks hP hS dX6_showsAs_123 (i1 hf) rfl
    refine lv_icmp_ne (tgt := 60) hx hb dX6_showsAs_52 (by decide) (fun c76 => ?_) (fun c76 => ?_)
    · have hf := ifF hf c76
      refine lv_iload hx hb dX6_showsAs_60 (lv_at hl 6 rfl) ?_
      exact J62_70 q66 _ _ _ hP hD hS (lv_sub hl [3, 6, 1, 0] rfl) hf
    · have hf := ifT hf c76
      refine lv_iload hx hb dX6_showsAs_55 (lv_at hl 0 rfl) ?_
      refine lv_goto (tgt := 62) hx hb dX6_showsAs_57 (by decide) ?_
      exact J62_70 (q66 ^^^ ((1 : Int32) <<< ((x3 - x3 / (6 : Int32) * (6 : Int32)) &&& 31))) _ _ _ hP hD hS (lv_sub hl [3, 6, 1, 0] rfl) hf
  refine lv_if_le (tgt := 27) hx hb dX6_showsAs_11 (by decide) (fun c77 => ?_) (fun c77 => ?_)
  · have hf := ifT hf c77
    refine lv_iload hx hb dX6_showsAs_27 (lv_at hl 0 rfl) ?_
    exact J29_68 q66 _ _ _ hP hD hS (lv_sub hl [1, 3, 4, 5, 0] rfl) hf
  · have hf := ifF hf c77
    refine lv_aload_n hx hb dX6_showsAs_14 rfl (lv_at hl 1 rfl) ?_
    refine fc_get (v := .ref (a 3)) (ci := 3) (C := RX6) (T := TX6) (N := 12) hx hb hwX6 hown hE hP 0 (vW_o G a v) rfl 4 (by decide) hk_fieldLink_RX6_18__BrideNotKnown_Valley___feet____I_ (fun _ h => h) rfl dX6_showsAs_15 ?_
    refine lv_iload_n hx hb dX6_showsAs_18 rfl (lv_at hl 2 rfl) ?_
    refine lv_iconst (v := (1 : Int32)) hx hb dX6_showsAs_19 (by decide) ?_
    refine lv_isub hx hb dX6_showsAs_20 ?_
    obtain ⟨q78, hq78, hf⟩ := bnd hf
    refine fc_callN (Wa' := (vW G a v)) (st1 := [.int q78]) (As := [.ref (a 3), .int (x1 - (1 : Int32))]) (rest := []) hCF (k_X7_at (a 3) 8 (v 2) (x1 - (1 : Int32)) hq78) ⟨va_cnB 2 hts gX6_showsAs_X7_at_n53 rfl rfl rfl (hE.2.1 _ (List.mem_of_getElem? (i := 8) rfl)) hk_initialized_RX7 dk_X7_at ⟨Nat.le_of_ble_eq_true rfl, Nat.le_of_ble_eq_true rfl⟩, hk_static_yX7_at, trivial⟩ hE hAB hP hD hS [3] rfl (vW_ca3 G a v) (aW_f G (a 3) 8 (v 2) (v 2)) (vW_ia3 G a v) rfl rfl hl.1 rfl (Nat.le_of_ble_eq_true rfl) dX6_showsAs_21 ⟨Nat.le_refl _, Nat.le_refl _⟩ (fun H locs hP hD hS => ?_)
    refine lv_goto (tgt := 29) hx hb dX6_showsAs_24 (by decide) ?_
    exact J29_68 q78 _ _ _ hP hD hS (lv_sub hl [1, 3, 4, 5, 0] rfl) hf
theorem dk_X6_guessesBy : yX6_guessesBy.cls ≠ "java/lang/invoke/MethodHandle" ∧ yX6_guessesBy.cls ≠ "java/lang/invoke/VarHandle" ∧ (parseMethodDescriptor yX6_guessesBy.desc).map (fun d => d.parameters.length) = some 3 := by decide +kernel
theorem iu_X6_guessesBy_X6 : ∀ w ∈ u_ws RX6 TX6 12, w ∈ wsX6_guessesBy := by decide +kernel
set_option maxHeartbeats 4000000 in
set_option maxRecDepth 100000 in
theorem k_X6_guessesBy {l : Launch} {G : Gx} (a : Nat → Nat) (v : St) (x1 : Int32) (x2 : Int32) (x3 : Int32) {r : Int32} (hf : f_X6_guessesBy v x1 x2 x3 = some r) : FC l G yX6_guessesBy wsX6_guessesBy ({ frames := 2, cells := 0, slots := 0, locals := 49 } : Room) [.ref (a 0), .int x1, .int x2, .int x3] (vW G a v) (vW G a v) (some (.int r)) := by
  refine fc_head (cc := cX6_guessesBy) (maxL := 9) (ret := (some .int)) (C := RX6) (lv := [(0, .ref (a 0)), (1, .int x1), (2, .int x2), (3, .int x3)]) (by decide) rfl rfl (Nat.le_of_ble_eq_true rfl) rfl ?_
  intro p e s m below meth c ls A hx hb hr hml hown hts hlocks hE hP hD hAB hS hl
  have hCF : CallFix p m c cX6_guessesBy 9 s ([.ref (a 0), .int x1, .int x2, .int x3] : List Value).toArray wsX6_guessesBy RX6 := ⟨hx, hb, hml, hown, hts⟩
  have hwX6 : ∀ w ∈ u_ws RX6 TX6 12, w.before ([.ref (a 0), .int x1, .int x2, .int x3] : List Value).toArray s = true := fun w h => hts w (iu_X6_guessesBy_X6 w h)
  have hk_fieldLink_RX6_27__BrideNotKnown_Valley___mindFeet____I_ := hts (.fieldLink RX6 27 "BrideNotKnown$Valley" "mindFeet" "[I") (List.mem_of_getElem? (i := 1) rfl)
  have hk_initialized_RX7 := hts (.initialized RX7) (List.mem_of_getElem? (i := 6) rfl)
  have hk_static_yX7_at := hts (.static yX7_at) (List.mem_of_getElem? (i := 5) rfl)
  have hk_fieldLink_RX6_37__BrideNotKnown_Valley___brideCount___I_ := hts (.fieldLink RX6 37 "BrideNotKnown$Valley" "brideCount" "I") (List.mem_of_getElem? (i := 2) rfl)
  have hk_fieldLink_RX6_9__BrideNotKnown_Valley___kinds____I_ := hts (.fieldLink RX6 9 "BrideNotKnown$Valley" "kinds" "[I") (List.mem_of_getElem? (i := 3) rfl)
  have hk_fieldLink_RX6_15__BrideNotKnown_Valley___figures____I_ := hts (.fieldLink RX6 15 "BrideNotKnown$Valley" "figures" "[I") (List.mem_of_getElem? (i := 4) rfl)
  have hk_static_yX7_has := hts (.static yX7_has) (List.mem_of_getElem? (i := 15) rfl)
  rw [f_X6_guessesBy] at hf
  refine lv_aload_n hx hb dX6_guessesBy_0 rfl (lv_at hl 0 rfl) ?_
  refine fc_get (v := .ref (a 6)) (ci := 3) (C := RX6) (T := TX6) (N := 12) hx hb hwX6 hown hE hP 0 (vW_o G a v) rfl 9 (by decide) hk_fieldLink_RX6_27__BrideNotKnown_Valley___mindFeet____I_ (fun _ h => h) rfl dX6_guessesBy_1 ?_
  refine lv_iload_n hx hb dX6_guessesBy_4 rfl (lv_at hl 1 rfl) ?_
  obtain ⟨q85, hq85, hf⟩ := bnd hf
  refine fc_callN (Wa' := (vW G a v)) (st1 := [.int q85]) (As := [.ref (a 6), .int x1]) (rest := []) hCF (k_X7_at (a 6) 5 (v 5) x1 hq85) ⟨va_cnB 2 hts gX6_guessesBy_X7_at_n53 rfl rfl rfl (hE.2.1 _ (List.mem_of_getElem? (i := 8) rfl)) hk_initialized_RX7 dk_X7_at ⟨Nat.le_of_ble_eq_true rfl, Nat.le_of_ble_eq_true rfl⟩, hk_static_yX7_at, trivial⟩ hE hAB hP hD hS [6] rfl (vW_ca6 G a v) (aW_f G (a 6) 5 (v 5) (v 5)) (vW_ia6 G a v) rfl rfl hl.1 rfl (Nat.le_of_ble_eq_true rfl) dX6_guessesBy_5 ⟨Nat.le_refl _, Nat.le_refl _⟩ (fun H locs hP hD hS => ?_)
  refine lv_iload_n hx hb dX6_guessesBy_8 rfl (lv_at hl 2 rfl) ?_
  refine lv_iand hx hb dX6_guessesBy_9 ?_
  refine lv_istore (lv' := [(4, .int (q85 &&& x2)), (0, .ref (a 0)), (1, .int x1), (2, .int x2), (3, .int x3)]) hx hb dX6_guessesBy_10 hl (by decide) rfl (fun ls hl => ?_)
  refine lv_aload_n hx hb dX6_guessesBy_12 rfl (lv_at hl 1 rfl) ?_
  refine lv_iload_n hx hb dX6_guessesBy_13 rfl (lv_at hl 4 rfl) ?_
  obtain ⟨q86, hq86, hf⟩ := bnd hf
  refine fc_callV (Wa' := (vW G a v)) (st1 := [.int q86]) (As := [.int x3]) (rest := []) hCF (k_X6_hereThen a v x3 hq86) (cwV 1 hts gX6_guessesBy_X6_hereThen rfl rfl rfl ⟨rfl, dk_X6_hereThen⟩ ⟨Nat.le_of_ble_eq_true rfl, Nat.le_of_ble_eq_true rfl⟩) hE hAB hP hD hS [0, 1, 2, 3, 4, 5, 6, 7] vW_d (vW_c G a v) (va_recv hE.1 hP (ci := 3) (q0 := 0) rfl (vW_o G a v)) (vW_f G a v v) (vW_s G a v v) rfl rfl hl.1 rfl (Nat.le_of_ble_eq_true rfl) dX6_guessesBy_14 ⟨Nat.le_refl _, Nat.le_refl _⟩ (fun H locs hP hD hS => ?_)
  refine lv_istore (lv' := [(5, .int q86), (4, .int (q85 &&& x2)), (0, .ref (a 0)), (1, .int x1), (2, .int x2), (3, .int x3)]) hx hb dX6_guessesBy_17 hl (by decide) rfl (fun ls hl => ?_)
  refine lv_iconst (v := (0 : Int32)) hx hb dX6_guessesBy_19 (by decide) ?_
  refine lv_istore (lv' := [(6, .int (0 : Int32)), (5, .int q86), (4, .int (q85 &&& x2)), (0, .ref (a 0)), (1, .int x1), (2, .int x2), (3, .int x3)]) hx hb dX6_guessesBy_20 hl (by decide) rfl (fun ls hl => ?_)
  refine lv_iconst (v := (0 : Int32)) hx hb dX6_guessesBy_22 (by decide) ?_
  refine lv_istore (lv' := [(7, .int (0 : Int32)), (6, .int (0 : Int32)), (5, .int q86), (4, .int (q85 &&& x2)), (0, .ref (a 0)), (1, .int x1), (2, .int x2), (3, .int x3)]) hx hb dX6_guessesBy_23 hl (by decide) rfl (fun ls hl => ?_)
  have L25_89 : ∀ (n : Nat) (x6_87 : Int32) (x7_88 : Int32) (H : Heap) (locs : List Loc) (ls : Array Slot), va_P (gD G) vwCl (vW G a v) H → va_D A (vW G a v) → va_S A s.heap H locs → lv_has ls 9 [(0, .ref (a 0)), (2, .int x2), (3, .int x3), (4, .int (q85 &&& x2)), (5, .int q86), (6, .int x6_87), (7, .int x7_88)] → f_X6_guessesBy_25 v x2 x3 (q85 &&& x2) q86 n x6_87 x7_88 = some r → W p l e (headSpec wsX6_guessesBy ({ frames := 2, cells := 0, slots := 0, locals := 49 } : Room)).room s m ([.ref (a 0), .int x1, .int x2, .int x3] : List Value).toArray below meth c H locs 0 0 (MQ below (FQ G A (vW G a v) (some (.int r))) ([.ref (a 0), .int x1, .int x2, .int x3] : List Value).toArray s 0 0 A) (F0 m 25 ls []) := by
    intro n
    induction n with
    | zero =>
      intro x6_87 x7_88 H locs ls hP hD hS hl hf
      exact no_some hf
    | succ n ih =>
      intro x6_87 x7_88 H locs ls hP hD hS hl hf
      rw [f_X6_guessesBy_25] at hf
      refine lv_iload hx hb dX6_guessesBy_25 (lv_at hl 6 rfl) ?_
      refine lv_aload_n hx hb dX6_guessesBy_27 rfl (lv_at hl 0 rfl) ?_
      refine fc_get (v := .int (v 7 1)) (ci := 3) (C := RX6) (T := TX6) (N := 12) hx hb hwX6 hown hE hP 0 (vW_o G a v) rfl 1 (by decide) hk_fieldLink_RX6_37__BrideNotKnown_Valley___brideCount___I_ (fun _ h => h) rfl dX6_guessesBy_28 ?_
      refine lv_icmp_ge (tgt := 95) hx hb dX6_guessesBy_31 (by decide) (fun c90 => ?_) (fun c90 => ?_)
      · have hf := ifT hf c90
        refine lv_iload hx hb dX6_guessesBy_95 (lv_at hl 5 rfl) ?_
        exact fc_reti hx hb hr hlocks hP hS dX6_guessesBy_97 (i1 hf) rfl
      · have hf := ifF hf c90
        refine lv_aload_n hx hb dX6_guessesBy_34 rfl (lv_at hl 0 rfl) ?_
        refine lv_iload hx hb dX6_guessesBy_35 (lv_at hl 6 rfl) ?_
        refine lv_aload_n hx hb dX6_guessesBy_37 rfl (lv_at hl 0 rfl) ?_
        refine fc_get (v := .ref (a 1)) (ci := 3) (C := RX6) (T := TX6) (N := 12) hx hb hwX6 hown hE hP 0 (vW_o G a v) rfl 2 (by decide) hk_fieldLink_RX6_9__BrideNotKnown_Valley___kinds____I_ (fun _ h => h) rfl dX6_guessesBy_38 ?_
        refine lv_iload hx hb dX6_guessesBy_41 (lv_at hl 6 rfl) ?_
        obtain ⟨q91, hq91, hf⟩ := bnd hf
        refine fc_callN (Wa' := (vW G a v)) (st1 := [.int q91, .int x7_88, .ref (a 0)]) (As := [.ref (a 1), .int x7_88]) (rest := [.int x7_88, .ref (a 0)]) hCF (k_X7_at (a 1) 8 (v 0) x7_88 hq91) ⟨va_cnB 2 hts gX6_guessesBy_X7_at_n53 rfl rfl rfl (hE.2.1 _ (List.mem_of_getElem? (i := 8) rfl)) hk_initialized_RX7 dk_X7_at ⟨Nat.le_of_ble_eq_true rfl, Nat.le_of_ble_eq_true rfl⟩, hk_static_yX7_at, trivial⟩ hE hAB hP hD hS [1] rfl (vW_ca1 G a v) (aW_f G (a 1) 8 (v 0) (v 0)) (vW_ia1 G a v) rfl rfl hl.1 rfl (Nat.le_of_ble_eq_true rfl) dX6_guessesBy_43 ⟨Nat.le_refl _, Nat.le_refl _⟩ (fun H locs hP hD hS => ?_)
        refine lv_aload_n hx hb dX6_guessesBy_46 rfl (lv_at hl 0 rfl) ?_
        refine fc_get (v := .ref (a 2)) (ci := 3) (C := RX6) (T := TX6) (N := 12) hx hb hwX6 hown hE hP 0 (vW_o G a v) rfl 3 (by decide) hk_fieldLink_RX6_15__BrideNotKnown_Valley___figures____I_ (fun _ h => h) rfl dX6_guessesBy_47 ?_
        refine lv_iload hx hb dX6_guessesBy_50 (lv_at hl 6 rfl) ?_
        obtain ⟨q92, hq92, hf⟩ := bnd hf
        refine fc_callN (Wa' := (vW G a v)) (st1 := [.int q92, .int q91, .int x7_88, .ref (a 0)]) (As := [.ref (a 2), .int x7_88]) (rest := [.int q91, .int x7_88, .ref (a 0)]) hCF (k_X7_at (a 2) 8 (v 1) x7_88 hq92) ⟨va_cnB 2 hts gX6_guessesBy_X7_at_n53 rfl rfl rfl (hE.2.1 _ (List.mem_of_getElem? (i := 8) rfl)) hk_initialized_RX7 dk_X7_at ⟨Nat.le_of_ble_eq_true rfl, Nat.le_of_ble_eq_true rfl⟩, hk_static_yX7_at, trivial⟩ hE hAB hP hD hS [2] rfl (vW_ca2 G a v) (aW_f G (a 2) 8 (v 1) (v 1)) (vW_ia2 G a v) rfl rfl hl.1 rfl (Nat.le_of_ble_eq_true rfl) dX6_guessesBy_52 ⟨Nat.le_refl _, Nat.le_refl _⟩ (fun H locs hP hD hS => ?_)
        refine lv_iload_n hx hb dX6_guessesBy_55 rfl (lv_at hl 2 rfl) ?_
        obtain ⟨q93, hq93, hf⟩ := bnd hf
        refine fc_callV (Wa' := (vW G a v)) (st1 := [.int q93]) (As := [.int x7_88, .int q91, .int q92, .int x3]) (rest := []) hCF (k_X6_showsAs a v x7_88 q91 q92 x3 hq93) (cwV 4 hts gX6_guessesBy_X6_showsAs rfl rfl rfl ⟨rfl, dk_X6_showsAs⟩ ⟨Nat.le_of_ble_eq_true rfl, Nat.le_of_ble_eq_true rfl⟩) hE hAB hP hD hS [0, 1, 2, 3, 4, 5, 6, 7] vW_d (vW_c G a v) (va_recv hE.1 hP (ci := 3) (q0 := 0) rfl (vW_o G a v)) (vW_f G a v v) (vW_s G a v v) rfl rfl hl.1 rfl (Nat.le_of_ble_eq_true rfl) dX6_guessesBy_56 ⟨Nat.le_refl _, Nat.le_refl _⟩ (fun H locs hP hD hS => ?_)
        refine lv_istore (lv' := [(8, .int q93), (0, .ref (a 0)), (2, .int x2), (3, .int x3), (4, .int (q85 &&& x2)), (5, .int q86), (6, .int x6_87), (7, .int x7_88)]) hx hb dX6_guessesBy_59 hl (by decide) rfl (fun ls hl => ?_)
        refine lv_iload hx hb dX6_guessesBy_61 (lv_at hl 5 rfl) ?_
        refine lv_iload hx hb dX6_guessesBy_63 (lv_at hl 7 rfl) ?_
        obtain ⟨q94, hq94, hf⟩ := bnd hf
        refine fc_callN (Wa' := (vW G a v)) (st1 := [.int q94]) (As := [.int q86, .int x7_88]) (rest := []) hCF (k_X7_has q86 x7_88 hq94) ⟨va_cnB 2 hts gX6_guessesBy_X7_has_n57 rfl rfl rfl (hE.2.1 _ (List.mem_of_getElem? (i := 9) rfl)) hk_initialized_RX7 dk_X7_has ⟨Nat.le_of_ble_eq_true rfl, Nat.le_of_ble_eq_true rfl⟩, hk_static_yX7_has, trivial⟩ hE hAB hP hD hS [] rfl rfl rfl rfl rfl rfl hl.1 rfl (Nat.le_of_ble_eq_true rfl) dX6_guessesBy_65 ⟨Nat.le_refl _, Nat.le_refl _⟩ (fun H locs hP hD hS => ?_)
        refine lv_if_eq (tgt := 89) hx hb dX6_guessesBy_68 (by decide) (fun c95 => ?_) (fun c95 => ?_)
        · have hf := ifT hf c95
          refine lv_iinc (v := (x7_88 + (1 : Int32))) (lv' := [(7, .int (x7_88 + (1 : Int32))), (8, .int q93), (0, .ref (a 0)), (2, .int x2), (3, .int x3), (4, .int (q85 &&& x2)), (5, .int q86), (6, .int x6_87)]) hx hb dX6_guessesBy_89 hl (k := 7) rfl rfl (by decide) rfl (fun ls hl => ?_)
          refine lv_goto (tgt := 25) hx hb dX6_guessesBy_92 (by decide) ?_
          exact ih x6_87 (x7_88 + (1 : Int32)) _ _ _ hP hD hS (lv_sub hl [2, 3, 4, 5, 6, 7, 0] rfl) hf
        · have hf := ifF hf c95
          refine lv_iload hx hb dX6_guessesBy_71 (lv_at hl 0 rfl) ?_
          refine lv_iload_n hx hb dX6_guessesBy_73 rfl (lv_at hl 2 rfl) ?_
          refine lv_iand hx hb dX6_guessesBy_74 ?_
          refine lv_iload hx hb dX6_guessesBy_75 (lv_at hl 4 rfl) ?_
          refine lv_icmp_ne (tgt := 89) hx hb dX6_guessesBy_77 (by decide) (fun c96 => ?_) (fun c96 => ?_)
          · have hf := ifF hf c96
            refine lv_iinc (v := (x7_88 + (1 : Int32))) (lv' := [(7, .int (x7_88 + (1 : Int32))), (8, .int q93), (0, .ref (a 0)), (2, .int x2), (3, .int x3), (4, .int (q85 &&& x2)), (5, .int q86), (6, .int x6_87)]) hx hb dX6_guessesBy_89 hl (k := 7) rfl rfl (by decide) rfl (fun ls hl => ?_)
            refine lv_goto (tgt := 25) hx hb dX6_guessesBy_92 (by decide) ?_
            exact ih x6_87 (x7_88 + (1 : Int32)) _ _ _ hP hD hS (lv_sub hl [2, 3, 4, 5, 6, 7, 0] rfl) hf
          · have hf := ifT hf c96
            refine lv_iload hx hb dX6_guessesBy_80 (lv_at hl 6 rfl) ?_
            refine lv_iconst (v := (1 : Int32)) hx hb dX6_guessesBy_82 (by decide) ?_
            refine lv_iload hx hb dX6_guessesBy_83 (lv_at hl 7 rfl) ?_
            refine lv_ishl hx hb dX6_guessesBy_85 ?_
            refine lv_ior hx hb dX6_guessesBy_86 ?_
            refine lv_istore (lv' := [(6, .int (x6_87 ||| ((1 : Int32) <<< (x7_88 &&& 31)))), (8, .int q93), (0, .ref (a 0)), (2, .int x2), (3, .int x3), (4, .int (q85 &&& x2)), (5, .int q86), (7, .int x7_88)]) hx hb dX6_guessesBy_87 hl (by decide) rfl (fun ls hl => ?_)
            refine lv_iinc (v := (x7_88 + (1 : Int32))) (lv' := [(7, .int (x7_88 + (1 : Int32))), (6, .int (x6_87 ||| ((1 : Int32) <<< (x7_88 &&& 31)))), (8, .int q93), (0, .ref (a 0)), (2, .int x2), (3, .int x3), (4, .int (q85 &&& x2)), (5, .int q86)]) hx hb dX6_guessesBy_89 hl (k := 7) rfl rfl (by decide) rfl (fun ls hl => ?_)
            refine lv_goto (tgt := 25) hx hb dX6_guessesBy_92 (by decide) ?_
            exact ih (x6_87 ||| ((1 : Int32) <<< (x7_88 &&& 31))) (x7_88 + (1 : Int32)) _ _ _ hP hD hS (lv_sub hl [3, 4, 5, 6, 7, 1, 0] rfl) hf
  exact L25_89 FUEL (0 : Int32) (0 : Int32) _ _ _ hP hD hS (lv_sub hl [4, 6, 7, 3, 2, 1, 0] rfl) hf
theorem dk_X7_bitAt : yX7_bitAt.cls ≠ "java/lang/invoke/MethodHandle" ∧ yX7_bitAt.cls ≠ "java/lang/invoke/VarHandle" ∧ (parseMethodDescriptor yX7_bitAt.desc).map (fun d => d.parameters.length) = some 2 := by decide +kernel
set_option maxHeartbeats 4000000 in
set_option maxRecDepth 100000 in
theorem k_X7_bitAt {l : Launch} {G : Gx} (x0 : Int32) (x1 : Int32) {r : Int32} (hf : f_X7_bitAt x0 x1 = some r) : FC l G yX7_bitAt wsX7_bitAt ({ frames := 1, cells := 0, slots := 0, locals := 21 } : Room) [.int x0, .int x1] ([] : va_W) ([] : va_W) (some (.int r)) := by
  refine fc_head (cc := cX7_bitAt) (maxL := 4) (ret := (some .int)) (C := RX7) (lv := [(0, .int x0), (1, .int x1)]) (by decide) rfl rfl (Nat.le_of_ble_eq_true rfl) rfl ?_
  intro p e s m below meth c ls A hx hb hr hml hown hts hlocks hE hP hD hAB hS hl
  have hCF : CallFix p m c cX7_bitAt 4 s ([.int x0, .int x1] : List Value).toArray wsX7_bitAt RX7 := ⟨hx, hb, hml, hown, hts⟩
  rw [f_X7_bitAt] at hf
  refine lv_iload_n hx hb dX7_bitAt_0 rfl (lv_at hl 1 rfl) ?_
  refine lv_istore_n (lv' := [(2, .int x1), (0, .int x0), (1, .int x1)]) hx hb dX7_bitAt_1 rfl hl (by decide) rfl (fun ls hl => ?_)
  refine lv_iconst (v := (0 : Int32)) hx hb dX7_bitAt_2 (by decide) ?_
  refine lv_istore_n (lv' := [(3, .int (0 : Int32)), (2, .int x1), (0, .int x0), (1, .int x1)]) hx hb dX7_bitAt_3 rfl hl (by decide) rfl (fun ls hl => ?_)
  have L4_100 : ∀ (n : Nat) (x2_98 : Int32) (x3_99 : Int32) (H : Heap) (locs : List Loc) (ls : Array Slot), va_P (gD G) vwCl ([] : va_W) H → va_D A ([] : va_W) → va_S A s.heap H locs → lv_has ls 4 [(0, .int x0), (2, .int x2_98), (3, .int x3_99)] → f_X7_bitAt_4 x0 n x2_98 x3_99 = some r → W p l e (headSpec wsX7_bitAt ({ frames := 1, cells := 0, slots := 0, locals := 21 } : Room)).room s m ([.int x0, .int x1] : List Value).toArray below meth c H locs 0 0 (MQ below (FQ G A ([] : va_W) (some (.int r))) ([.int x0, .int x1] : List Value).toArray s 0 0 A) (F0 m 4 ls []) := by
    intro n
    induction n with
    | zero =>
      intro x2_98 x3_99 H locs ls hP hD hS hl hf
      exact no_some hf
    | succ n ih =>
      intro x2_98 x3_99 H locs ls hP hD hS hl hf
      rw [f_X7_bitAt_4] at hf
      refine lv_iload_n hx hb dX7_bitAt_4 rfl (lv_at hl 2 rfl) ?_
      refine lv_bipush (v := (32 : Int32)) hx hb dX7_bitAt_5 (by decide) ?_
      refine lv_icmp_ge (tgt := 33) hx hb dX7_bitAt_7 (by decide) (fun c101 => ?_) (fun c101 => ?_)
      · have hf := ifT hf c101
        refine lv_bipush (v := (-9 : Int32)) hx hb dX7_bitAt_33 (by decide) ?_
        exact fc_reti hx hb hr hlocks hP hS dX7_bitAt_35 (i1 hf) rfl
      · have hf := ifF hf c101
        refine lv_iload_n hx hb dX7_bitAt_10 rfl (lv_at hl 0 rfl) ?_
        refine lv_iload_n hx hb dX7_bitAt_11 rfl (lv_at hl 2 rfl) ?_
        obtain ⟨q102, hq102, hf⟩ := bnd hf
        refine fc_callS (Wa' := ([] : va_W)) (st1 := [.int q102]) (As := [.int x0, .int x3_99]) (rest := []) hCF (k_X7_has x0 x3_99 hq102) (va_cwS 2 hts gX7_bitAt_X7_has rfl rfl rfl dk_X7_has ⟨Nat.le_of_ble_eq_true rfl, Nat.le_of_ble_eq_true rfl⟩) hE hAB hP hD hS [] rfl rfl rfl rfl rfl rfl hl.1 rfl (Nat.le_of_ble_eq_true rfl) dX7_bitAt_12 ⟨Nat.le_refl _, Nat.le_refl _⟩ (fun H locs hP hD hS => ?_)
        refine lv_if_eq (tgt := 27) hx hb dX7_bitAt_15 (by decide) (fun c103 => ?_) (fun c103 => ?_)
        · have hf := ifT hf c103
          refine lv_iinc (v := (x3_99 + (1 : Int32))) (lv' := [(3, .int (x3_99 + (1 : Int32))), (0, .int x0), (2, .int x2_98)]) hx hb dX7_bitAt_27 hl (k := 2) rfl rfl (by decide) rfl (fun ls hl => ?_)
          refine lv_goto (tgt := 4) hx hb dX7_bitAt_30 (by decide) ?_
          exact ih x2_98 (x3_99 + (1 : Int32)) _ _ _ hP hD hS (lv_sub hl [1, 2, 0] rfl) hf
        · have hf := ifF hf c103
          refine lv_iload_n hx hb dX7_bitAt_18 rfl (lv_at hl 1 rfl) ?_
          refine lv_if_ne (tgt := 24) hx hb dX7_bitAt_19 (by decide) (fun c104 => ?_) (fun c104 => ?_)
          · have hf := ifF hf c104
            refine lv_iinc (v := (x2_98 + (-1 : Int32))) (lv' := [(2, .int (x2_98 + (-1 : Int32))), (0, .int x0), (3, .int x3_99)]) hx hb dX7_bitAt_24 hl (k := 1) rfl rfl (by decide) rfl (fun ls hl => ?_)
            refine lv_iinc (v := (x3_99 + (1 : Int32))) (lv' := [(3, .int (x3_99 + (1 : Int32))), (2, .int (x2_98 + (-1 : Int32))), (0, .int x0)]) hx hb dX7_bitAt_27 hl (k := 2) rfl rfl (by decide) rfl (fun ls hl => ?_)
            refine lv_goto (tgt := 4) hx hb dX7_bitAt_30 (by decide) ?_
            exact ih (x2_98 + (-1 : Int32)) (x3_99 + (1 : Int32)) _ _ _ hP hD hS (lv_sub hl [2, 1, 0] rfl) hf
          · have hf := ifT hf c104
            refine lv_iload_n hx hb dX7_bitAt_22 rfl (lv_at hl 2 rfl) ?_
            exact fc_reti hx hb hr hlocks hP hS dX7_bitAt_23 (i1 hf) rfl
  exact L4_100 FUEL x1 (0 : Int32) _ _ _ hP hD hS (lv_sub hl [2, 1, 0] rfl) hf
theorem dk_X7_onlyOne : yX7_onlyOne.cls ≠ "java/lang/invoke/MethodHandle" ∧ yX7_onlyOne.cls ≠ "java/lang/invoke/VarHandle" ∧ (parseMethodDescriptor yX7_onlyOne.desc).map (fun d => d.parameters.length) = some 1 := by decide +kernel
set_option maxHeartbeats 4000000 in
set_option maxRecDepth 100000 in
theorem k_X7_onlyOne {l : Launch} {G : Gx} (x0 : Int32) {r : Int32} (hf : f_X7_onlyOne x0 = some r) : FC l G yX7_onlyOne wsX7_onlyOne ({ frames := 2, cells := 0, slots := 0, locals := 44 } : Room) [.int x0] ([] : va_W) ([] : va_W) (some (.int r)) := by
  refine fc_head (cc := cX7_onlyOne) (maxL := 1) (ret := (some .int)) (C := RX7) (lv := [(0, .int x0)]) (by decide) rfl rfl (Nat.le_of_ble_eq_true rfl) rfl ?_
  intro p e s m below meth c ls A hx hb hr hml hown hts hlocks hE hP hD hAB hS hl
  have hCF : CallFix p m c cX7_onlyOne 1 s ([.int x0] : List Value).toArray wsX7_onlyOne RX7 := ⟨hx, hb, hml, hown, hts⟩
  rw [f_X7_onlyOne] at hf
  refine lv_iload_n hx hb dX7_onlyOne_0 rfl (lv_at hl 0 rfl) ?_
  obtain ⟨q107, hq107, hf⟩ := bnd hf
  refine fc_callS (Wa' := ([] : va_W)) (st1 := [.int q107]) (As := [.int x0]) (rest := []) hCF (k_J6_bitCount_0f7a4 x0 hq107) (va_cwS 1 hts gX7_onlyOne_J6_bitCount_0f7a4 rfl rfl rfl dk_J6_bitCount_0f7a4 ⟨Nat.le_of_ble_eq_true rfl, Nat.le_of_ble_eq_true rfl⟩) hE hAB hP hD hS [] rfl rfl rfl rfl rfl rfl hl.1 rfl (Nat.le_of_ble_eq_true rfl) dX7_onlyOne_1 ⟨Nat.le_refl _, Nat.le_refl _⟩ (fun H locs hP hD hS => ?_)
  refine lv_iconst (v := (1 : Int32)) hx hb dX7_onlyOne_4 (by decide) ?_
  refine lv_icmp_ne (tgt := 16) hx hb dX7_onlyOne_5 (by decide) (fun c108 => ?_) (fun c108 => ?_)
  · have hf := ifF hf c108
    refine lv_bipush (v := (-9 : Int32)) hx hb dX7_onlyOne_16 (by decide) ?_
    exact fc_reti hx hb hr hlocks hP hS dX7_onlyOne_18 (i1 hf) rfl
  · have hf := ifT hf c108
    refine lv_iload_n hx hb dX7_onlyOne_8 rfl (lv_at hl 0 rfl) ?_
    refine lv_iconst (v := (0 : Int32)) hx hb dX7_onlyOne_9 (by decide) ?_
    obtain ⟨q109, hq109, hf⟩ := bnd hf
    refine fc_callS (Wa' := ([] : va_W)) (st1 := [.int q109]) (As := [.int x0, .int (0 : Int32)]) (rest := []) hCF (k_X7_bitAt x0 (0 : Int32) hq109) (va_cwS 2 hts gX7_onlyOne_X7_bitAt rfl rfl rfl dk_X7_bitAt ⟨Nat.le_of_ble_eq_true rfl, Nat.le_of_ble_eq_true rfl⟩) hE hAB hP hD hS [] rfl rfl rfl rfl rfl rfl hl.1 rfl (Nat.le_of_ble_eq_true rfl) dX7_onlyOne_10 ⟨Nat.le_refl _, Nat.le_refl _⟩ (fun H locs hP hD hS => ?_)
    refine lv_goto (tgt := 18) hx hb dX7_onlyOne_13 (by decide) ?_
    exact fc_reti hx hb hr hlocks hP hS dX7_onlyOne_18 (i1 hf) rfl
theorem dk_X6_knows : yX6_knows.cls ≠ "java/lang/invoke/MethodHandle" ∧ yX6_knows.cls ≠ "java/lang/invoke/VarHandle" ∧ (parseMethodDescriptor yX6_knows.desc).map (fun d => d.parameters.length) = some 2 := by decide +kernel
theorem iu_X6_knows_X6 : ∀ w ∈ u_ws RX6 TX6 12, w ∈ wsX6_knows := by decide +kernel
set_option maxHeartbeats 4000000 in
set_option maxRecDepth 100000 in
theorem k_X6_knows {l : Launch} {G : Gx} (a : Nat → Nat) (v : St) (x1 : Int32) (x2 : Int32) {r : Int32} (hf : f_X6_knows v x1 x2 = some r) : FC l G yX6_knows wsX6_knows ({ frames := 3, cells := 0, slots := 0, locals := 77 } : Room) [.ref (a 0), .int x1, .int x2] (vW G a v) (vW G a v) (some (.int r)) := by
  refine fc_head (cc := cX6_knows) (maxL := 3) (ret := (some .int)) (C := RX6) (lv := [(0, .ref (a 0)), (1, .int x1), (2, .int x2)]) (by decide) rfl rfl (Nat.le_of_ble_eq_true rfl) rfl ?_
  intro p e s m below meth c ls A hx hb hr hml hown hts hlocks hE hP hD hAB hS hl
  have hCF : CallFix p m c cX6_knows 3 s ([.ref (a 0), .int x1, .int x2] : List Value).toArray wsX6_knows RX6 := ⟨hx, hb, hml, hown, hts⟩
  have hwX6 : ∀ w ∈ u_ws RX6 TX6 12, w.before ([.ref (a 0), .int x1, .int x2] : List Value).toArray s = true := fun w h => hts w (iu_X6_knows_X6 w h)
  have hk_fieldLink_RX6_24__BrideNotKnown_Valley___lookBits____I_ := hts (.fieldLink RX6 24 "BrideNotKnown$Valley" "lookBits" "[I") (List.mem_of_getElem? (i := 1) rfl)
  have hk_initialized_RX7 := hts (.initialized RX7) (List.mem_of_getElem? (i := 3) rfl)
  have hk_static_yX7_at := hts (.static yX7_at) (List.mem_of_getElem? (i := 2) rfl)
  have hk_static_yX7_onlyOne := hts (.static yX7_onlyOne) (List.mem_of_getElem? (i := 28) rfl)
  rw [f_X6_knows] at hf
  refine lv_aload_n hx hb dX6_knows_0 rfl (lv_at hl 0 rfl) ?_
  refine lv_iload_n hx hb dX6_knows_1 rfl (lv_at hl 1 rfl) ?_
  refine lv_aload_n hx hb dX6_knows_2 rfl (lv_at hl 0 rfl) ?_
  refine fc_get (v := .ref (a 5)) (ci := 3) (C := RX6) (T := TX6) (N := 12) hx hb hwX6 hown hE hP 0 (vW_o G a v) rfl 8 (by decide) hk_fieldLink_RX6_24__BrideNotKnown_Valley___lookBits____I_ (fun _ h => h) rfl dX6_knows_3 ?_
  refine lv_iload_n hx hb dX6_knows_6 rfl (lv_at hl 1 rfl) ?_
  obtain ⟨q113, hq113, hf⟩ := bnd hf
  refine fc_callN (Wa' := (vW G a v)) (st1 := [.int q113, .int x1, .ref (a 0)]) (As := [.ref (a 5), .int x1]) (rest := [.int x1, .ref (a 0)]) hCF (k_X7_at (a 5) 5 (v 4) x1 hq113) ⟨va_cnB 2 hts gX6_knows_X7_at_n53 rfl rfl rfl (hE.2.1 _ (List.mem_of_getElem? (i := 8) rfl)) hk_initialized_RX7 dk_X7_at ⟨Nat.le_of_ble_eq_true rfl, Nat.le_of_ble_eq_true rfl⟩, hk_static_yX7_at, trivial⟩ hE hAB hP hD hS [5] rfl (vW_ca5 G a v) (aW_f G (a 5) 5 (v 4) (v 4)) (vW_ia5 G a v) rfl rfl hl.1 rfl (Nat.le_of_ble_eq_true rfl) dX6_knows_7 ⟨Nat.le_refl _, Nat.le_refl _⟩ (fun H locs hP hD hS => ?_)
  refine lv_iload_n hx hb dX6_knows_10 rfl (lv_at hl 2 rfl) ?_
  obtain ⟨q114, hq114, hf⟩ := bnd hf
  refine fc_callV (Wa' := (vW G a v)) (st1 := [.int q114]) (As := [.int x1, .int q113, .int x2]) (rest := []) hCF (k_X6_guessesBy a v x1 q113 x2 hq114) (cwV 3 hts gX6_knows_X6_guessesBy rfl rfl rfl ⟨rfl, dk_X6_guessesBy⟩ ⟨Nat.le_of_ble_eq_true rfl, Nat.le_of_ble_eq_true rfl⟩) hE hAB hP hD hS [0, 1, 2, 3, 4, 5, 6, 7] vW_d (vW_c G a v) (va_recv hE.1 hP (ci := 3) (q0 := 0) rfl (vW_o G a v)) (vW_f G a v v) (vW_s G a v v) rfl rfl hl.1 rfl (Nat.le_of_ble_eq_true rfl) dX6_knows_11 ⟨Nat.le_refl _, Nat.le_refl _⟩ (fun H locs hP hD hS => ?_)
  obtain ⟨q115, hq115, hf⟩ := bnd hf
  refine fc_callN (Wa' := (vW G a v)) (st1 := [.int q115]) (As := [.int q114]) (rest := []) hCF (k_X7_onlyOne q114 hq115) ⟨va_cnB 1 hts gX6_knows_X7_onlyOne_n109 rfl rfl rfl (hE.2.1 _ (List.mem_of_getElem? (i := 10) rfl)) hk_initialized_RX7 dk_X7_onlyOne ⟨Nat.le_of_ble_eq_true rfl, Nat.le_of_ble_eq_true rfl⟩, hk_static_yX7_onlyOne, trivial⟩ hE hAB hP hD hS [] rfl rfl rfl rfl rfl rfl hl.1 rfl (Nat.le_of_ble_eq_true rfl) dX6_knows_14 ⟨Nat.le_refl _, Nat.le_refl _⟩ (fun H locs hP hD hS => ?_)
  exact fc_reti hx hb hr hlocks hP hS dX6_knows_17 (i1 hf) rfl
theorem dk_X6_knownBits : yX6_knownBits.cls ≠ "java/lang/invoke/MethodHandle" ∧ yX6_knownBits.cls ≠ "java/lang/invoke/VarHandle" ∧ (parseMethodDescriptor yX6_knownBits.desc).map (fun d => d.parameters.length) = some 0 := by decide +kernel
theorem iu_X6_knownBits_X6 : ∀ w ∈ u_ws RX6 TX6 12, w ∈ wsX6_knownBits := by decide +kernel
set_option maxHeartbeats 4000000 in
set_option maxRecDepth 100000 in
theorem k_X6_knownBits {l : Launch} {G : Gx} (a : Nat → Nat) (v : St) {r : Int32} (hf : f_X6_knownBits v = some r) : FC l G yX6_knownBits wsX6_knownBits ({ frames := 4, cells := 0, slots := 0, locals := 99 } : Room) [.ref (a 0)] (vW G a v) (vW G a v) (some (.int r)) := by
  refine fc_head (cc := cX6_knownBits) (maxL := 4) (ret := (some .int)) (C := RX6) (lv := [(0, .ref (a 0))]) (by decide) rfl rfl (Nat.le_of_ble_eq_true rfl) rfl ?_
  intro p e s m below meth c ls A hx hb hr hml hown hts hlocks hE hP hD hAB hS hl
  have hCF : CallFix p m c cX6_knownBits 4 s ([.ref (a 0)] : List Value).toArray wsX6_knownBits RX6 := ⟨hx, hb, hml, hown, hts⟩
  have hwX6 : ∀ w ∈ u_ws RX6 TX6 12, w.before ([.ref (a 0)] : List Value).toArray s = true := fun w h => hts w (iu_X6_knownBits_X6 w h)
  have hk_fieldLink_RX6_47__BrideNotKnown_Valley___groomCount___I_ := hts (.fieldLink RX6 47 "BrideNotKnown$Valley" "groomCount" "I") (List.mem_of_getElem? (i := 1) rfl)
  rw [f_X6_knownBits] at hf
  refine lv_iconst (v := (0 : Int32)) hx hb dX6_knownBits_0 (by decide) ?_
  refine lv_istore_n (lv' := [(1, .int (0 : Int32)), (0, .ref (a 0))]) hx hb dX6_knownBits_1 rfl hl (by decide) rfl (fun ls hl => ?_)
  refine lv_iconst (v := (0 : Int32)) hx hb dX6_knownBits_2 (by decide) ?_
  refine lv_istore_n (lv' := [(2, .int (0 : Int32)), (1, .int (0 : Int32)), (0, .ref (a 0))]) hx hb dX6_knownBits_3 rfl hl (by decide) rfl (fun ls hl => ?_)
  have L4_124 : ∀ (n : Nat) (x1_122 : Int32) (x2_123 : Int32) (H : Heap) (locs : List Loc) (ls : Array Slot), va_P (gD G) vwCl (vW G a v) H → va_D A (vW G a v) → va_S A s.heap H locs → lv_has ls 4 [(0, .ref (a 0)), (1, .int x1_122), (2, .int x2_123)] → f_X6_knownBits_4 v n x1_122 x2_123 = some r → W p l e (headSpec wsX6_knownBits ({ frames := 4, cells := 0, slots := 0, locals := 99 } : Room)).room s m ([.ref (a 0)] : List Value).toArray below meth c H locs 0 0 (MQ below (FQ G A (vW G a v) (some (.int r))) ([.ref (a 0)] : List Value).toArray s 0 0 A) (F0 m 4 ls []) := by
    intro n
    induction n with
    | zero =>
      intro x1_122 x2_123 H locs ls hP hD hS hl hf
      exact no_some hf
    | succ n ih =>
      intro x1_122 x2_123 H locs ls hP hD hS hl hf
      rw [f_X6_knownBits_4] at hf
      refine lv_iload_n hx hb dX6_knownBits_4 rfl (lv_at hl 2 rfl) ?_
      refine lv_aload_n hx hb dX6_knownBits_5 rfl (lv_at hl 0 rfl) ?_
      refine fc_get (v := .int (v 7 3)) (ci := 3) (C := RX6) (T := TX6) (N := 12) hx hb hwX6 hown hE hP 0 (vW_o G a v) rfl 7 (by decide) hk_fieldLink_RX6_47__BrideNotKnown_Valley___groomCount___I_ (fun _ h => h) rfl dX6_knownBits_6 ?_
      refine lv_icmp_ge (tgt := 50) hx hb dX6_knownBits_9 (by decide) (fun c125 => ?_) (fun c125 => ?_)
      · have hf := ifT hf c125
        refine lv_iload_n hx hb dX6_knownBits_50 rfl (lv_at hl 1 rfl) ?_
        exact fc_reti hx hb hr hlocks hP hS dX6_knownBits_51 (i1 hf) rfl
      · have hf := ifF hf c125
        refine lv_aload_n hx hb dX6_knownBits_12 rfl (lv_at hl 0 rfl) ?_
        refine lv_iload_n hx hb dX6_knownBits_13 rfl (lv_at hl 2 rfl) ?_
        obtain ⟨q126, hq126, hf⟩ := bnd hf
        refine fc_callV (Wa' := (vW G a v)) (st1 := [.int q126]) (As := [.int x2_123]) (rest := []) hCF (k_X6_isUnmarried a v x2_123 hq126) (cwV 1 hts gX6_knownBits_X6_isUnmarried rfl rfl rfl ⟨rfl, dk_X6_isUnmarried⟩ ⟨Nat.le_of_ble_eq_true rfl, Nat.le_of_ble_eq_true rfl⟩) hE hAB hP hD hS [0, 1, 2, 3, 4, 5, 6, 7] vW_d (vW_c G a v) (va_recv hE.1 hP (ci := 3) (q0 := 0) rfl (vW_o G a v)) (vW_f G a v v) (vW_s G a v v) rfl rfl hl.1 rfl (Nat.le_of_ble_eq_true rfl) dX6_knownBits_14 ⟨Nat.le_refl _, Nat.le_refl _⟩ (fun H locs hP hD hS => ?_)
        have J31_128 : ∀ (s0_127 : Int32) (H : Heap) (locs : List Loc) (ls : Array Slot), va_P (gD G) vwCl (vW G a v) H → va_D A (vW G a v) → va_S A s.heap H locs → lv_has ls 4 [(0, .ref (a 0)), (1, .int x1_122), (2, .int x2_123)] → f_X6_knownBits_31 x1_122 x2_123 s0_127 (fun (x1_129 : Int32) (x2_130 : Int32) => f_X6_knownBits_4 v n x1_129 x2_130) = some r → W p l e (headSpec wsX6_knownBits ({ frames := 4, cells := 0, slots := 0, locals := 99 } : Room)).room s m ([.ref (a 0)] : List Value).toArray below meth c H locs 0 0 (MQ below (FQ G A (vW G a v) (some (.int r))) ([.ref (a 0)] : List Value).toArray s 0 0 A) (F0 m 31 ls [.int s0_127]) := by
          intro s0_127 H locs ls hP hD hS hl hf
          rw [f_X6_knownBits_31] at hf
          refine lv_istore_n (lv' := [(3, .int s0_127), (0, .ref (a 0)), (1, .int x1_122), (2, .int x2_123)]) hx hb dX6_knownBits_31 rfl hl (by decide) rfl (fun ls hl => ?_)
          refine lv_iload_n hx hb dX6_knownBits_32 rfl (lv_at hl 0 rfl) ?_
          refine lv_bipush (v := (-9 : Int32)) hx hb dX6_knownBits_33 (by decide) ?_
          refine lv_icmp_eq (tgt := 44) hx hb dX6_knownBits_35 (by decide) (fun c131 => ?_) (fun c131 => ?_)
          · have hf := ifT hf c131
            refine lv_iinc (v := (x2_123 + (1 : Int32))) (lv' := [(2, .int (x2_123 + (1 : Int32))), (3, .int s0_127), (0, .ref (a 0)), (1, .int x1_122)]) hx hb dX6_knownBits_44 hl (k := 3) rfl rfl (by decide) rfl (fun ls hl => ?_)
            refine lv_goto (tgt := 4) hx hb dX6_knownBits_47 (by decide) ?_
            exact ih x1_122 (x2_123 + (1 : Int32)) _ _ _ hP hD hS (lv_sub hl [2, 3, 0] rfl) hf
          · have hf := ifF hf c131
            refine lv_iload_n hx hb dX6_knownBits_38 rfl (lv_at hl 2 rfl) ?_
            refine lv_iconst (v := (1 : Int32)) hx hb dX6_knownBits_39 (by decide) ?_
            refine lv_iload_n hx hb dX6_knownBits_40 rfl (lv_at hl 0 rfl) ?_
            refine lv_ishl hx hb dX6_knownBits_41 ?_
            refine lv_ior hx hb dX6_knownBits_42 ?_
            refine lv_istore_n (lv' := [(1, .int (x1_122 ||| ((1 : Int32) <<< (s0_127 &&& 31)))), (3, .int s0_127), (0, .ref (a 0)), (2, .int x2_123)]) hx hb dX6_knownBits_43 rfl hl (by decide) rfl (fun ls hl => ?_)
            refine lv_iinc (v := (x2_123 + (1 : Int32))) (lv' := [(2, .int (x2_123 + (1 : Int32))), (1, .int (x1_122 ||| ((1 : Int32) <<< (s0_127 &&& 31)))), (3, .int s0_127), (0, .ref (a 0))]) hx hb dX6_knownBits_44 hl (k := 3) rfl rfl (by decide) rfl (fun ls hl => ?_)
            refine lv_goto (tgt := 4) hx hb dX6_knownBits_47 (by decide) ?_
            exact ih (x1_122 ||| ((1 : Int32) <<< (s0_127 &&& 31))) (x2_123 + (1 : Int32)) _ _ _ hP hD hS (lv_sub hl [3, 1, 0] rfl) hf
        refine lv_if_eq (tgt := 29) hx hb dX6_knownBits_17 (by decide) (fun c132 => ?_) (fun c132 => ?_)
        · have hf := ifT hf c132
          refine lv_bipush (v := (-9 : Int32)) hx hb dX6_knownBits_29 (by decide) ?_
          exact J31_128 (-9 : Int32) _ _ _ hP hD hS (lv_sub hl [0, 1, 2] rfl) hf
        · have hf := ifF hf c132
          refine lv_aload_n hx hb dX6_knownBits_20 rfl (lv_at hl 0 rfl) ?_
          refine lv_iload_n hx hb dX6_knownBits_21 rfl (lv_at hl 2 rfl) ?_
          refine lv_iconst (v := (0 : Int32)) hx hb dX6_knownBits_22 (by decide) ?_
          obtain ⟨q133, hq133, hf⟩ := bnd hf
          refine fc_callV (Wa' := (vW G a v)) (st1 := [.int q133]) (As := [.int x2_123, .int (0 : Int32)]) (rest := []) hCF (k_X6_knows a v x2_123 (0 : Int32) hq133) (cwV 2 hts gX6_knownBits_X6_knows rfl rfl rfl ⟨rfl, dk_X6_knows⟩ ⟨Nat.le_of_ble_eq_true rfl, Nat.le_of_ble_eq_true rfl⟩) hE hAB hP hD hS [0, 1, 2, 3, 4, 5, 6, 7] vW_d (vW_c G a v) (va_recv hE.1 hP (ci := 3) (q0 := 0) rfl (vW_o G a v)) (vW_f G a v v) (vW_s G a v v) rfl rfl hl.1 rfl (Nat.le_of_ble_eq_true rfl) dX6_knownBits_23 ⟨Nat.le_refl _, Nat.le_refl _⟩ (fun H locs hP hD hS => ?_)
          refine lv_goto (tgt := 31) hx hb dX6_knownBits_26 (by decide) ?_
          exact J31_128 q133 _ _ _ hP hD hS (lv_sub hl [0, 1, 2] rfl) hf
  exact L4_124 FUEL (0 : Int32) (0 : Int32) _ _ _ hP hD hS (lv_sub hl [2, 1, 0] rfl) hf
theorem dk_X6_placeOf : yX6_placeOf.cls ≠ "java/lang/invoke/MethodHandle" ∧ yX6_placeOf.cls ≠ "java/lang/invoke/VarHandle" ∧ (parseMethodDescriptor yX6_placeOf.desc).map (fun d => d.parameters.length) = some 1 := by decide +kernel
theorem iu_X6_placeOf_X6 : ∀ w ∈ u_ws RX6 TX6 12, w ∈ wsX6_placeOf := by decide +kernel
set_option maxHeartbeats 4000000 in
set_option maxRecDepth 100000 in
theorem k_X6_placeOf {l : Launch} {G : Gx} (a : Nat → Nat) (v : St) (x1 : Int32) {r : Int32} (hf : f_X6_placeOf v x1 = some r) : FC l G yX6_placeOf wsX6_placeOf ({ frames := 1, cells := 0, slots := 0, locals := 21 } : Room) [.ref (a 0), .int x1] (vW G a v) (vW G a v) (some (.int r)) := by
  refine fc_head (cc := cX6_placeOf) (maxL := 2) (ret := (some .int)) (C := RX6) (lv := [(0, .ref (a 0)), (1, .int x1)]) (by decide) rfl rfl (Nat.le_of_ble_eq_true rfl) rfl ?_
  intro p e s m below meth c ls A hx hb hr hml hown hts hlocks hE hP hD hAB hS hl
  have hCF : CallFix p m c cX6_placeOf 2 s ([.ref (a 0), .int x1] : List Value).toArray wsX6_placeOf RX6 := ⟨hx, hb, hml, hown, hts⟩
  have hwX6 : ∀ w ∈ u_ws RX6 TX6 12, w.before ([.ref (a 0), .int x1] : List Value).toArray s = true := fun w h => hts w (iu_X6_placeOf_X6 w h)
  have hk_fieldLink_RX6_44__BrideNotKnown_Valley___marriedBrides___I_ := hts (.fieldLink RX6 44 "BrideNotKnown$Valley" "marriedBrides" "I") (List.mem_of_getElem? (i := 1) rfl)
  have hk_initialized_RX7 := hts (.initialized RX7) (List.mem_of_getElem? (i := 4) rfl)
  have hk_static_yX7_has := hts (.static yX7_has) (List.mem_of_getElem? (i := 3) rfl)
  have hk_fieldLink_RX6_21__BrideNotKnown_Valley___sentYears____I_ := hts (.fieldLink RX6 21 "BrideNotKnown$Valley" "sentYears" "[I") (List.mem_of_getElem? (i := 2) rfl)
  have hk_static_yX7_at := hts (.static yX7_at) (List.mem_of_getElem? (i := 6) rfl)
  rw [f_X6_placeOf] at hf
  refine lv_aload_n hx hb dX6_placeOf_0 rfl (lv_at hl 0 rfl) ?_
  refine fc_get (v := .int (v 7 2)) (ci := 3) (C := RX6) (T := TX6) (N := 12) hx hb hwX6 hown hE hP 0 (vW_o G a v) rfl 6 (by decide) hk_fieldLink_RX6_44__BrideNotKnown_Valley___marriedBrides___I_ (fun _ h => h) rfl dX6_placeOf_1 ?_
  refine lv_iload_n hx hb dX6_placeOf_4 rfl (lv_at hl 1 rfl) ?_
  obtain ⟨q136, hq136, hf⟩ := bnd hf
  refine fc_callN (Wa' := (vW G a v)) (st1 := [.int q136]) (As := [.int (v 7 2), .int x1]) (rest := []) hCF (k_X7_has (v 7 2) x1 hq136) ⟨va_cnB 2 hts gX6_placeOf_X7_has_n57 rfl rfl rfl (hE.2.1 _ (List.mem_of_getElem? (i := 9) rfl)) hk_initialized_RX7 dk_X7_has ⟨Nat.le_of_ble_eq_true rfl, Nat.le_of_ble_eq_true rfl⟩, hk_static_yX7_has, trivial⟩ hE hAB hP hD hS [] rfl rfl rfl rfl rfl rfl hl.1 rfl (Nat.le_of_ble_eq_true rfl) dX6_placeOf_5 ⟨Nat.le_refl _, Nat.le_refl _⟩ (fun H locs hP hD hS => ?_)
  refine lv_if_eq (tgt := 13) hx hb dX6_placeOf_8 (by decide) (fun c137 => ?_) (fun c137 => ?_)
  · have hf := ifT hf c137
    refine lv_aload_n hx hb dX6_placeOf_13 rfl (lv_at hl 0 rfl) ?_
    refine fc_get (v := .ref (a 4)) (ci := 3) (C := RX6) (T := TX6) (N := 12) hx hb hwX6 hown hE hP 0 (vW_o G a v) rfl 5 (by decide) hk_fieldLink_RX6_21__BrideNotKnown_Valley___sentYears____I_ (fun _ h => h) rfl dX6_placeOf_14 ?_
    refine lv_iload_n hx hb dX6_placeOf_17 rfl (lv_at hl 1 rfl) ?_
    obtain ⟨q138, hq138, hf⟩ := bnd hf
    refine fc_callN (Wa' := (vW G a v)) (st1 := [.int q138]) (As := [.ref (a 4), .int x1]) (rest := []) hCF (k_X7_at (a 4) 8 (v 3) x1 hq138) ⟨va_cnB 2 hts gX6_placeOf_X7_at_n53 rfl rfl rfl (hE.2.1 _ (List.mem_of_getElem? (i := 8) rfl)) hk_initialized_RX7 dk_X7_at ⟨Nat.le_of_ble_eq_true rfl, Nat.le_of_ble_eq_true rfl⟩, hk_static_yX7_at, trivial⟩ hE hAB hP hD hS [4] rfl (vW_ca4 G a v) (aW_f G (a 4) 8 (v 3) (v 3)) (vW_ia4 G a v) rfl rfl hl.1 rfl (Nat.le_of_ble_eq_true rfl) dX6_placeOf_18 ⟨Nat.le_refl _, Nat.le_refl _⟩ (fun H locs hP hD hS => ?_)
    refine lv_if_le (tgt := 28) hx hb dX6_placeOf_21 (by decide) (fun c139 => ?_) (fun c139 => ?_)
    · have hf := ifT hf c139
      refine lv_iconst (v := (0 : Int32)) hx hb dX6_placeOf_28 (by decide) ?_
      exact fc_reti hx hb hr hlocks hP hS dX6_placeOf_29 (i1 hf) rfl
    · have hf := ifF hf c139
      refine lv_iconst (v := (1 : Int32)) hx hb dX6_placeOf_24 (by decide) ?_
      refine lv_goto (tgt := 29) hx hb dX6_placeOf_25 (by decide) ?_
      exact fc_reti hx hb hr hlocks hP hS dX6_placeOf_29 (i1 hf) rfl
  · have hf := ifF hf c137
    refine lv_iconst (v := (2 : Int32)) hx hb dX6_placeOf_11 (by decide) ?_
    exact fc_reti hx hb hr hlocks hP hS dX6_placeOf_12 (i1 hf) rfl
theorem dk_X6_isHere : yX6_isHere.cls ≠ "java/lang/invoke/MethodHandle" ∧ yX6_isHere.cls ≠ "java/lang/invoke/VarHandle" ∧ (parseMethodDescriptor yX6_isHere.desc).map (fun d => d.parameters.length) = some 1 := by decide +kernel
set_option maxHeartbeats 4000000 in
set_option maxRecDepth 100000 in
theorem k_X6_isHere {l : Launch} {G : Gx} (a : Nat → Nat) (v : St) (x1 : Int32) {r : Int32} (hf : f_X6_isHere v x1 = some r) : FC l G yX6_isHere wsX6_isHere ({ frames := 2, cells := 0, slots := 0, locals := 42 } : Room) [.ref (a 0), .int x1] (vW G a v) (vW G a v) (some (.int r)) := by
  refine fc_head (cc := cX6_isHere) (maxL := 2) (ret := (some .boolean)) (C := RX6) (lv := [(0, .ref (a 0)), (1, .int x1)]) (by decide) rfl rfl (Nat.le_of_ble_eq_true rfl) rfl ?_
  intro p e s m below meth c ls A hx hb hr hml hown hts hlocks hE hP hD hAB hS hl
  have hCF : CallFix p m c cX6_isHere 2 s ([.ref (a 0), .int x1] : List Value).toArray wsX6_isHere RX6 := ⟨hx, hb, hml, hown, hts⟩
  rw [f_X6_isHere] at hf
  refine lv_aload_n hx hb dX6_isHere_0 rfl (lv_at hl 0 rfl) ?_
  refine lv_iload_n hx hb dX6_isHere_1 rfl (lv_at hl 1 rfl) ?_
  obtain ⟨q141, hq141, hf⟩ := bnd hf
  refine fc_callV (Wa' := (vW G a v)) (st1 := [.int q141]) (As := [.int x1]) (rest := []) hCF (k_X6_placeOf a v x1 hq141) (cwV 1 hts gX6_isHere_X6_placeOf rfl rfl rfl ⟨rfl, dk_X6_placeOf⟩ ⟨Nat.le_of_ble_eq_true rfl, Nat.le_of_ble_eq_true rfl⟩) hE hAB hP hD hS [0, 1, 2, 3, 4, 5, 6, 7] vW_d (vW_c G a v) (va_recv hE.1 hP (ci := 3) (q0 := 0) rfl (vW_o G a v)) (vW_f G a v v) (vW_s G a v v) rfl rfl hl.1 rfl (Nat.le_of_ble_eq_true rfl) dX6_isHere_2 ⟨Nat.le_refl _, Nat.le_refl _⟩ (fun H locs hP hD hS => ?_)
  refine lv_if_ne (tgt := 12) hx hb dX6_isHere_5 (by decide) (fun c142 => ?_) (fun c142 => ?_)
  · have hf := ifF hf c142
    refine lv_iconst (v := (0 : Int32)) hx hb dX6_isHere_12 (by decide) ?_
    exact fc_retz hx hb hr hlocks hP hS dX6_isHere_13 (by decide) (i1 hf) rfl
  · have hf := ifT hf c142
    refine lv_iconst (v := (1 : Int32)) hx hb dX6_isHere_8 (by decide) ?_
    refine lv_goto (tgt := 13) hx hb dX6_isHere_9 (by decide) ?_
    exact fc_retz hx hb hr hlocks hP hS dX6_isHere_13 (by decide) (i1 hf) rfl
theorem dk_X7_copy : yX7_copy.cls ≠ "java/lang/invoke/MethodHandle" ∧ yX7_copy.cls ≠ "java/lang/invoke/VarHandle" ∧ (parseMethodDescriptor yX7_copy.desc).map (fun d => d.parameters.length) = some 2 := by decide +kernel
set_option maxHeartbeats 4000000 in
set_option maxRecDepth 100000 in
theorem k_X7_copy {l : Launch} {G : Gx} (q : Nat) (N0 : Nat) (f : Nat → Int32) (r : Nat) (N1 : Nat) (g : Nat → Int32) {g' : (Nat → Int32)} (hf : f_X7_copy N0 f N1 g = some g') : FC l G yX7_copy wsX7_copy ({ frames := 0, cells := 0, slots := 0, locals := 0 } : Room) [.ref q, .ref r] (aW G q N0 f ++ aW G r N1 g) (aW G q N0 f ++ aW G r N1 (g')) none := by
  refine fc_head (cc := cX7_copy) (maxL := 3) (ret := none) (C := RX7) (lv := [(0, .ref q), (1, .ref r)]) (by decide) rfl rfl (Nat.le_of_ble_eq_true rfl) rfl ?_
  intro p e s m below meth c ls A hx hb hr hml hown hts hlocks hE hP hD hAB hS hl
  have hCF : CallFix p m c cX7_copy 3 s ([.ref q, .ref r] : List Value).toArray wsX7_copy RX7 := ⟨hx, hb, hml, hown, hts⟩
  rw [f_X7_copy] at hf
  refine lv_aload_n hx hb dX7_copy_0 rfl (lv_at hl 0 rfl) ?_
  refine lv_ifnull hx hb dX7_copy_1 ?_
  refine lv_aload_n hx hb dX7_copy_4 rfl (lv_at hl 1 rfl) ?_
  refine lv_ifnonnull (tgt := 9) hx hb dX7_copy_5 (by decide) ?_
  refine lv_iconst (v := (0 : Int32)) hx hb dX7_copy_9 (by decide) ?_
  refine lv_istore_n (lv' := [(2, .int (0 : Int32)), (0, .ref q), (1, .ref r)]) hx hb dX7_copy_10 rfl hl (by decide) rfl (fun ls hl => ?_)
  have L11_145 : ∀ (n : Nat) (x2_143 : Int32) (g_144 : (Nat → Int32)) (H : Heap) (locs : List Loc) (ls : Array Slot), va_P (gD G) vwCl (aW G q N0 f ++ aW G r N1 g_144) H → va_D A (aW G q N0 f ++ aW G r N1 g_144) → va_S A s.heap H locs → lv_has ls 3 [(0, .ref q), (1, .ref r), (2, .int x2_143)] → f_X7_copy_11 N0 f N1 n x2_143 g_144 = some g' → W p l e (headSpec wsX7_copy ({ frames := 0, cells := 0, slots := 0, locals := 0 } : Room)).room s m ([.ref q, .ref r] : List Value).toArray below meth c H locs 0 0 (MQ below (FQ G A (aW G q N0 f ++ aW G r N1 (g')) none) ([.ref q, .ref r] : List Value).toArray s 0 0 A) (F0 m 11 ls []) := by
    intro n
    induction n with
    | zero =>
      intro x2_143 g_144 H locs ls hP hD hS hl hf
      exact no_some hf
    | succ n ih =>
      intro x2_143 g_144 H locs ls hP hD hS hl hf
      rw [f_X7_copy_11] at hf
      refine lv_iload_n hx hb dX7_copy_11 rfl (lv_at hl 2 rfl) ?_
      refine lv_aload_n hx hb dX7_copy_12 rfl (lv_at hl 0 rfl) ?_
      refine fc_alen (n := N0) (f := f) hx hb hE hP 0 (get_l (aW_a G q N0 f)) dX7_copy_13 ?_
      refine lv_icmp_ge (tgt := 35) hx hb dX7_copy_14 (by decide) (fun c146 => ?_) (fun c146 => ?_)
      · have hf := ifT hf c146
        exact fc_retv hx hb hr hlocks hP hS dX7_copy_35 (congrArg (fun z => (aW G q N0 f ++ aW G r N1 z)) (i1 hf))
      · have hf := ifF hf c146
        refine lv_iload_n hx hb dX7_copy_17 rfl (lv_at hl 2 rfl) ?_
        refine lv_aload_n hx hb dX7_copy_18 rfl (lv_at hl 1 rfl) ?_
        refine fc_alen (n := N1) (f := g_144) hx hb hE hP 1 (get_r (aW_n G q N0 f) (aW_a G r N1 g_144)) dX7_copy_19 ?_
        refine lv_icmp_ge (tgt := 35) hx hb dX7_copy_20 (by decide) (fun c147 => ?_) (fun c147 => ?_)
        · have hf := ifT hf c147
          exact fc_retv hx hb hr hlocks hP hS dX7_copy_35 (congrArg (fun z => (aW G q N0 f ++ aW G r N1 z)) (i1 hf))
        · have hf := ifF hf c147
          refine lv_aload_n hx hb dX7_copy_23 rfl (lv_at hl 1 rfl) ?_
          refine lv_iload_n hx hb dX7_copy_24 rfl (lv_at hl 2 rfl) ?_
          refine lv_aload_n hx hb dX7_copy_25 rfl (lv_at hl 0 rfl) ?_
          refine lv_iload_n hx hb dX7_copy_26 rfl (lv_at hl 2 rfl) ?_
          obtain ⟨c148, hf⟩ := gd_some hf
          refine fc_iald (n := N0) (f := f) hx hb hE hP 0 (get_l (aW_a G q N0 f)) (inB_in c148) dX7_copy_27 ?_
          obtain ⟨c149, hf⟩ := gd_some hf
          refine fc_iast (n := N1) (f := g_144) (Wa' := (aW G q N0 f ++ aW G r N1 (upd g_144 x2_143.toNatClampNeg (f x2_143.toNatClampNeg)))) hx hb hE hP hD hS 1 (get_r (aW_n G q N0 f) (aW_a G r N1 g_144)) (inB_in c149) dX7_copy_28 (put_r (aW_n G q N0 f) (aW_t G r N1 g_144 (upd g_144 x2_143.toNatClampNeg (f x2_143.toNatClampNeg)))) (fun H locs hP hD hS => ?_)
          refine lv_iinc (v := (x2_143 + (1 : Int32))) (lv' := [(2, .int (x2_143 + (1 : Int32))), (0, .ref q), (1, .ref r)]) hx hb dX7_copy_29 hl (k := 2) rfl rfl (by decide) rfl (fun ls hl => ?_)
          refine lv_goto (tgt := 11) hx hb dX7_copy_32 (by decide) ?_
          exact ih (x2_143 + (1 : Int32)) (upd g_144 x2_143.toNatClampNeg (f x2_143.toNatClampNeg)) _ _ _ hP hD hS (lv_sub hl [1, 2, 0] rfl) hf
  exact L11_145 FUEL (0 : Int32) g _ _ _ hP hD hS (lv_sub hl [1, 2, 0] rfl) hf
theorem dk_X6_become : yX6_become.cls ≠ "java/lang/invoke/MethodHandle" ∧ yX6_become.cls ≠ "java/lang/invoke/VarHandle" ∧ (parseMethodDescriptor yX6_become.desc).map (fun d => d.parameters.length) = some 1 := by decide +kernel
theorem iu_X6_become_X6 : ∀ w ∈ u_ws RX6 TX6 12, w ∈ wsX6_become := by decide +kernel
set_option maxHeartbeats 4000000 in
set_option maxRecDepth 100000 in
theorem k_X6_become {l : Launch} {G : Gx} (a : Nat → Nat) (v : St) (b : Nat → Nat) (u : St) {v' : St} (hf : f_X6_become v u = some v') : FC l G yX6_become wsX6_become ({ frames := 1, cells := 0, slots := 0, locals := 22 } : Room) [.ref (a 0), .ref (b 0)] (vW G a v ++ vW G b u) (vW G a v' ++ vW G b u) none := by
  refine fc_head (cc := cX6_become) (maxL := 2) (ret := none) (C := RX6) (lv := [(0, .ref (a 0)), (1, .ref (b 0))]) (by decide) rfl rfl (Nat.le_of_ble_eq_true rfl) rfl ?_
  intro p e s m below meth c ls A hx hb hr hml hown hts hlocks hE hP hD hAB hS hl
  have hCF : CallFix p m c cX6_become 2 s ([.ref (a 0), .ref (b 0)] : List Value).toArray wsX6_become RX6 := ⟨hx, hb, hml, hown, hts⟩
  have hwX6 : ∀ w ∈ u_ws RX6 TX6 12, w.before ([.ref (a 0), .ref (b 0)] : List Value).toArray s = true := fun w h => hts w (iu_X6_become_X6 w h)
  have hk_fieldLink_RX6_33__BrideNotKnown_Valley___year___I_ := hts (.fieldLink RX6 33 "BrideNotKnown$Valley" "year" "I") (List.mem_of_getElem? (i := 1) rfl)
  have hk_fieldLink_RX6_37__BrideNotKnown_Valley___brideCount___I_ := hts (.fieldLink RX6 37 "BrideNotKnown$Valley" "brideCount" "I") (List.mem_of_getElem? (i := 2) rfl)
  have hk_fieldLink_RX6_9__BrideNotKnown_Valley___kinds____I_ := hts (.fieldLink RX6 9 "BrideNotKnown$Valley" "kinds" "[I") (List.mem_of_getElem? (i := 3) rfl)
  have hk_initialized_RX7 := hts (.initialized RX7) (List.mem_of_getElem? (i := 14) rfl)
  have hk_static_yX7_copy := hts (.static yX7_copy) (List.mem_of_getElem? (i := 13) rfl)
  have hk_fieldLink_RX6_15__BrideNotKnown_Valley___figures____I_ := hts (.fieldLink RX6 15 "BrideNotKnown$Valley" "figures" "[I") (List.mem_of_getElem? (i := 4) rfl)
  have hk_fieldLink_RX6_18__BrideNotKnown_Valley___feet____I_ := hts (.fieldLink RX6 18 "BrideNotKnown$Valley" "feet" "[I") (List.mem_of_getElem? (i := 5) rfl)
  have hk_fieldLink_RX6_21__BrideNotKnown_Valley___sentYears____I_ := hts (.fieldLink RX6 21 "BrideNotKnown$Valley" "sentYears" "[I") (List.mem_of_getElem? (i := 6) rfl)
  have hk_fieldLink_RX6_44__BrideNotKnown_Valley___marriedBrides___I_ := hts (.fieldLink RX6 44 "BrideNotKnown$Valley" "marriedBrides" "I") (List.mem_of_getElem? (i := 7) rfl)
  have hk_fieldLink_RX6_47__BrideNotKnown_Valley___groomCount___I_ := hts (.fieldLink RX6 47 "BrideNotKnown$Valley" "groomCount" "I") (List.mem_of_getElem? (i := 8) rfl)
  have hk_fieldLink_RX6_24__BrideNotKnown_Valley___lookBits____I_ := hts (.fieldLink RX6 24 "BrideNotKnown$Valley" "lookBits" "[I") (List.mem_of_getElem? (i := 9) rfl)
  have hk_fieldLink_RX6_27__BrideNotKnown_Valley___mindFeet____I_ := hts (.fieldLink RX6 27 "BrideNotKnown$Valley" "mindFeet" "[I") (List.mem_of_getElem? (i := 10) rfl)
  have hk_fieldLink_RX6_30__BrideNotKnown_Valley___liquors____I_ := hts (.fieldLink RX6 30 "BrideNotKnown$Valley" "liquors" "[I") (List.mem_of_getElem? (i := 11) rfl)
  have hk_fieldLink_RX6_50__BrideNotKnown_Valley___marriedGrooms___I_ := hts (.fieldLink RX6 50 "BrideNotKnown$Valley" "marriedGrooms" "I") (List.mem_of_getElem? (i := 12) rfl)
  rw [f_X6_become] at hf
  refine lv_aload_n hx hb dX6_become_0 rfl (lv_at hl 1 rfl) ?_
  refine lv_ifnonnull (tgt := 5) hx hb dX6_become_1 (by decide) ?_
  refine lv_aload_n hx hb dX6_become_5 rfl (lv_at hl 0 rfl) ?_
  refine lv_aload_n hx hb dX6_become_6 rfl (lv_at hl 1 rfl) ?_
  refine fc_get (v := .int (u 7 0)) (ci := 3) (C := RX6) (T := TX6) (N := 12) hx hb hwX6 hown hE hP 8 (get_r (vW_n G a v) (vW_o G b u)) rfl 0 (by decide) hk_fieldLink_RX6_33__BrideNotKnown_Valley___year___I_ (fun _ h => h) rfl dX6_become_7 ?_
  refine fc_put (Wa' := (vW G a (sA v 7 (upd (v 7) 0 (u 7 0))) ++ vW G b u)) (ci := 3) (C := RX6) (T := TX6) (N := 12) hx hb hwX6 tyX6 tyX6_ok nmX6 hown hE hP hD hS 0 (get_l (vW_o G a v)) rfl 0 (by decide) hk_fieldLink_RX6_33__BrideNotKnown_Valley___year___I_ (fun _ h => h) rfl rfl rfl (Nat.le_of_ble_eq_true rfl) dX6_become_10 (put_l (vW_o G a v) (vW_p0 G a v (u 7 0))) (fun H locs hP hD hS => ?_)
  refine lv_aload_n hx hb dX6_become_13 rfl (lv_at hl 0 rfl) ?_
  refine lv_aload_n hx hb dX6_become_14 rfl (lv_at hl 1 rfl) ?_
  refine fc_get (v := .int (u 7 1)) (ci := 3) (C := RX6) (T := TX6) (N := 12) hx hb hwX6 hown hE hP 8 (get_r (vW_n G a (sA v 7 (upd (v 7) 0 (u 7 0)))) (vW_o G b u)) rfl 1 (by decide) hk_fieldLink_RX6_37__BrideNotKnown_Valley___brideCount___I_ (fun _ h => h) rfl dX6_become_15 ?_
  refine fc_put (Wa' := (vW G a (sA (sA v 7 (upd (v 7) 0 (u 7 0))) 7 (upd (upd (v 7) 0 (u 7 0)) 1 (u 7 1))) ++ vW G b u)) (ci := 3) (C := RX6) (T := TX6) (N := 12) hx hb hwX6 tyX6 tyX6_ok nmX6 hown hE hP hD hS 0 (get_l (vW_o G a (sA v 7 (upd (v 7) 0 (u 7 0))))) rfl 1 (by decide) hk_fieldLink_RX6_37__BrideNotKnown_Valley___brideCount___I_ (fun _ h => h) rfl rfl rfl (Nat.le_of_ble_eq_true rfl) dX6_become_18 (put_l (vW_o G a (sA v 7 (upd (v 7) 0 (u 7 0)))) (vW_p1 G a (sA v 7 (upd (v 7) 0 (u 7 0))) (u 7 1))) (fun H locs hP hD hS => ?_)
  refine lv_aload_n hx hb dX6_become_21 rfl (lv_at hl 1 rfl) ?_
  refine fc_get (v := .ref (b 1)) (ci := 3) (C := RX6) (T := TX6) (N := 12) hx hb hwX6 hown hE hP 8 (get_r (vW_n G a (sA (sA v 7 (upd (v 7) 0 (u 7 0))) 7 (upd (upd (v 7) 0 (u 7 0)) 1 (u 7 1)))) (vW_o G b u)) rfl 2 (by decide) hk_fieldLink_RX6_9__BrideNotKnown_Valley___kinds____I_ (fun _ h => h) rfl dX6_become_22 ?_
  refine lv_aload_n hx hb dX6_become_25 rfl (lv_at hl 0 rfl) ?_
  refine fc_get (v := .ref (a 1)) (ci := 3) (C := RX6) (T := TX6) (N := 12) hx hb hwX6 hown hE hP 0 (get_l (vW_o G a (sA (sA v 7 (upd (v 7) 0 (u 7 0))) 7 (upd (upd (v 7) 0 (u 7 0)) 1 (u 7 1))))) rfl 2 (by decide) hk_fieldLink_RX6_9__BrideNotKnown_Valley___kinds____I_ (fun _ h => h) rfl dX6_become_26 ?_
  obtain ⟨q157, hq157, hf⟩ := bnd hf
  refine fc_callN (Wa' := (vW G a (sA (sA (sA v 7 (upd (v 7) 0 (u 7 0))) 7 (upd (upd (v 7) 0 (u 7 0)) 1 (u 7 1))) 0 q157) ++ vW G b u)) (st1 := []) (As := [.ref (b 1), .ref (a 1)]) (rest := []) hCF (k_X7_copy (b 1) 8 (u 0) (a 1) 8 (v 0) hq157) ⟨va_cnB 2 hts gX6_become_X7_copy_n40 rfl rfl rfl (hE.2.1 _ (List.mem_of_getElem? (i := 5) rfl)) hk_initialized_RX7 dk_X7_copy ⟨Nat.le_of_ble_eq_true rfl, Nat.le_of_ble_eq_true rfl⟩, hk_static_yX7_copy, trivial⟩ hE hAB hP hD hS [9, 1] (by decide +kernel) (cut_cut (app_r (vW_n G a (sA (sA v 7 (upd (v 7) 0 (u 7 0))) 7 (upd (upd (v 7) 0 (u 7 0)) 1 (u 7 1)))) (vW_ca1 G b u)) (app_c (vW_ca1 G a (sA (sA v 7 (upd (v 7) 0 (u 7 0))) 7 (upd (upd (v 7) 0 (u 7 0)) 1 (u 7 1)))))) (fst_fst (aW_f G (b 1) 8 (u 0) (u 0)) (aW_f G (a 1) 8 (v 0) q157)) ((set_set (i1 := [9]) (W1 := (aW G (b 1) 8 (u 0))) (aW_n G (b 1) 8 (u 0)).symm).trans ((congrArg (fun z => setAll z _ _) ((set_q (vW_ca1 G a (sA (sA v 7 (upd (v 7) 0 (u 7 0))) 7 (upd (upd (v 7) 0 (u 7 0)) 1 (u 7 1))))).trans (congrArg (fun z => z ++ vW G b u) (vW_sa1 G a (sA (sA v 7 (upd (v 7) 0 (u 7 0))) 7 (upd (upd (v 7) 0 (u 7 0)) 1 (u 7 1))) q157)))).trans ((set_r (vW_n G a (sA (sA (sA v 7 (upd (v 7) 0 (u 7 0))) 7 (upd (upd (v 7) 0 (u 7 0)) 1 (u 7 1))) 0 q157))).trans (congrArg (fun z => vW G a (sA (sA (sA v 7 (upd (v 7) 0 (u 7 0))) 7 (upd (upd (v 7) 0 (u 7 0)) 1 (u 7 1))) 0 q157) ++ z) (vW_ia1 G b u))))) rfl rfl hl.1 rfl (Nat.le_of_ble_eq_true rfl) dX6_become_29 ⟨Nat.le_refl _, Nat.le_refl _⟩ (fun H locs hP hD hS => ?_)
  refine lv_aload_n hx hb dX6_become_32 rfl (lv_at hl 1 rfl) ?_
  refine fc_get (v := .ref (b 2)) (ci := 3) (C := RX6) (T := TX6) (N := 12) hx hb hwX6 hown hE hP 8 (get_r (vW_n G a (sA (sA (sA v 7 (upd (v 7) 0 (u 7 0))) 7 (upd (upd (v 7) 0 (u 7 0)) 1 (u 7 1))) 0 q157)) (vW_o G b u)) rfl 3 (by decide) hk_fieldLink_RX6_15__BrideNotKnown_Valley___figures____I_ (fun _ h => h) rfl dX6_become_33 ?_
  refine lv_aload_n hx hb dX6_become_36 rfl (lv_at hl 0 rfl) ?_
  refine fc_get (v := .ref (a 2)) (ci := 3) (C := RX6) (T := TX6) (N := 12) hx hb hwX6 hown hE hP 0 (get_l (vW_o G a (sA (sA (sA v 7 (upd (v 7) 0 (u 7 0))) 7 (upd (upd (v 7) 0 (u 7 0)) 1 (u 7 1))) 0 q157))) rfl 3 (by decide) hk_fieldLink_RX6_15__BrideNotKnown_Valley___figures____I_ (fun _ h => h) rfl dX6_become_37 ?_
  obtain ⟨q158, hq158, hf⟩ := bnd hf
  refine fc_callN (Wa' := (vW G a (sA (sA (sA (sA v 7 (upd (v 7) 0 (u 7 0))) 7 (upd (upd (v 7) 0 (u 7 0)) 1 (u 7 1))) 0 q157) 1 q158) ++ vW G b u)) (st1 := []) (As := [.ref (b 2), .ref (a 2)]) (rest := []) hCF (k_X7_copy (b 2) 8 (u 1) (a 2) 8 (v 1) hq158) ⟨va_cnB 2 hts gX6_become_X7_copy_n40 rfl rfl rfl (hE.2.1 _ (List.mem_of_getElem? (i := 5) rfl)) hk_initialized_RX7 dk_X7_copy ⟨Nat.le_of_ble_eq_true rfl, Nat.le_of_ble_eq_true rfl⟩, hk_static_yX7_copy, trivial⟩ hE hAB hP hD hS [10, 2] (by decide +kernel) (cut_cut (app_r (vW_n G a (sA (sA (sA v 7 (upd (v 7) 0 (u 7 0))) 7 (upd (upd (v 7) 0 (u 7 0)) 1 (u 7 1))) 0 q157)) (vW_ca2 G b u)) (app_c (vW_ca2 G a (sA (sA (sA v 7 (upd (v 7) 0 (u 7 0))) 7 (upd (upd (v 7) 0 (u 7 0)) 1 (u 7 1))) 0 q157)))) (fst_fst (aW_f G (b 2) 8 (u 1) (u 1)) (aW_f G (a 2) 8 (v 1) q158)) ((set_set (i1 := [10]) (W1 := (aW G (b 2) 8 (u 1))) (aW_n G (b 2) 8 (u 1)).symm).trans ((congrArg (fun z => setAll z _ _) ((set_q (vW_ca2 G a (sA (sA (sA v 7 (upd (v 7) 0 (u 7 0))) 7 (upd (upd (v 7) 0 (u 7 0)) 1 (u 7 1))) 0 q157))).trans (congrArg (fun z => z ++ vW G b u) (vW_sa2 G a (sA (sA (sA v 7 (upd (v 7) 0 (u 7 0))) 7 (upd (upd (v 7) 0 (u 7 0)) 1 (u 7 1))) 0 q157) q158)))).trans ((set_r (vW_n G a (sA (sA (sA (sA v 7 (upd (v 7) 0 (u 7 0))) 7 (upd (upd (v 7) 0 (u 7 0)) 1 (u 7 1))) 0 q157) 1 q158))).trans (congrArg (fun z => vW G a (sA (sA (sA (sA v 7 (upd (v 7) 0 (u 7 0))) 7 (upd (upd (v 7) 0 (u 7 0)) 1 (u 7 1))) 0 q157) 1 q158) ++ z) (vW_ia2 G b u))))) rfl rfl hl.1 rfl (Nat.le_of_ble_eq_true rfl) dX6_become_40 ⟨Nat.le_refl _, Nat.le_refl _⟩ (fun H locs hP hD hS => ?_)
  refine lv_aload_n hx hb dX6_become_43 rfl (lv_at hl 1 rfl) ?_
  refine fc_get (v := .ref (b 3)) (ci := 3) (C := RX6) (T := TX6) (N := 12) hx hb hwX6 hown hE hP 8 (get_r (vW_n G a (sA (sA (sA (sA v 7 (upd (v 7) 0 (u 7 0))) 7 (upd (upd (v 7) 0 (u 7 0)) 1 (u 7 1))) 0 q157) 1 q158)) (vW_o G b u)) rfl 4 (by decide) hk_fieldLink_RX6_18__BrideNotKnown_Valley___feet____I_ (fun _ h => h) rfl dX6_become_44 ?_
  refine lv_aload_n hx hb dX6_become_47 rfl (lv_at hl 0 rfl) ?_
  refine fc_get (v := .ref (a 3)) (ci := 3) (C := RX6) (T := TX6) (N := 12) hx hb hwX6 hown hE hP 0 (get_l (vW_o G a (sA (sA (sA (sA v 7 (upd (v 7) 0 (u 7 0))) 7 (upd (upd (v 7) 0 (u 7 0)) 1 (u 7 1))) 0 q157) 1 q158))) rfl 4 (by decide) hk_fieldLink_RX6_18__BrideNotKnown_Valley___feet____I_ (fun _ h => h) rfl dX6_become_48 ?_
  obtain ⟨q159, hq159, hf⟩ := bnd hf
  refine fc_callN (Wa' := (vW G a (sA (sA (sA (sA (sA v 7 (upd (v 7) 0 (u 7 0))) 7 (upd (upd (v 7) 0 (u 7 0)) 1 (u 7 1))) 0 q157) 1 q158) 2 q159) ++ vW G b u)) (st1 := []) (As := [.ref (b 3), .ref (a 3)]) (rest := []) hCF (k_X7_copy (b 3) 8 (u 2) (a 3) 8 (v 2) hq159) ⟨va_cnB 2 hts gX6_become_X7_copy_n40 rfl rfl rfl (hE.2.1 _ (List.mem_of_getElem? (i := 5) rfl)) hk_initialized_RX7 dk_X7_copy ⟨Nat.le_of_ble_eq_true rfl, Nat.le_of_ble_eq_true rfl⟩, hk_static_yX7_copy, trivial⟩ hE hAB hP hD hS [11, 3] (by decide +kernel) (cut_cut (app_r (vW_n G a (sA (sA (sA (sA v 7 (upd (v 7) 0 (u 7 0))) 7 (upd (upd (v 7) 0 (u 7 0)) 1 (u 7 1))) 0 q157) 1 q158)) (vW_ca3 G b u)) (app_c (vW_ca3 G a (sA (sA (sA (sA v 7 (upd (v 7) 0 (u 7 0))) 7 (upd (upd (v 7) 0 (u 7 0)) 1 (u 7 1))) 0 q157) 1 q158)))) (fst_fst (aW_f G (b 3) 8 (u 2) (u 2)) (aW_f G (a 3) 8 (v 2) q159)) ((set_set (i1 := [11]) (W1 := (aW G (b 3) 8 (u 2))) (aW_n G (b 3) 8 (u 2)).symm).trans ((congrArg (fun z => setAll z _ _) ((set_q (vW_ca3 G a (sA (sA (sA (sA v 7 (upd (v 7) 0 (u 7 0))) 7 (upd (upd (v 7) 0 (u 7 0)) 1 (u 7 1))) 0 q157) 1 q158))).trans (congrArg (fun z => z ++ vW G b u) (vW_sa3 G a (sA (sA (sA (sA v 7 (upd (v 7) 0 (u 7 0))) 7 (upd (upd (v 7) 0 (u 7 0)) 1 (u 7 1))) 0 q157) 1 q158) q159)))).trans ((set_r (vW_n G a (sA (sA (sA (sA (sA v 7 (upd (v 7) 0 (u 7 0))) 7 (upd (upd (v 7) 0 (u 7 0)) 1 (u 7 1))) 0 q157) 1 q158) 2 q159))).trans (congrArg (fun z => vW G a (sA (sA (sA (sA (sA v 7 (upd (v 7) 0 (u 7 0))) 7 (upd (upd (v 7) 0 (u 7 0)) 1 (u 7 1))) 0 q157) 1 q158) 2 q159) ++ z) (vW_ia3 G b u))))) rfl rfl hl.1 rfl (Nat.le_of_ble_eq_true rfl) dX6_become_51 ⟨Nat.le_refl _, Nat.le_refl _⟩ (fun H locs hP hD hS => ?_)
  refine lv_aload_n hx hb dX6_become_54 rfl (lv_at hl 1 rfl) ?_
  refine fc_get (v := .ref (b 4)) (ci := 3) (C := RX6) (T := TX6) (N := 12) hx hb hwX6 hown hE hP 8 (get_r (vW_n G a (sA (sA (sA (sA (sA v 7 (upd (v 7) 0 (u 7 0))) 7 (upd (upd (v 7) 0 (u 7 0)) 1 (u 7 1))) 0 q157) 1 q158) 2 q159)) (vW_o G b u)) rfl 5 (by decide) hk_fieldLink_RX6_21__BrideNotKnown_Valley___sentYears____I_ (fun _ h => h) rfl dX6_become_55 ?_
  refine lv_aload_n hx hb dX6_become_58 rfl (lv_at hl 0 rfl) ?_
  refine fc_get (v := .ref (a 4)) (ci := 3) (C := RX6) (T := TX6) (N := 12) hx hb hwX6 hown hE hP 0 (get_l (vW_o G a (sA (sA (sA (sA (sA v 7 (upd (v 7) 0 (u 7 0))) 7 (upd (upd (v 7) 0 (u 7 0)) 1 (u 7 1))) 0 q157) 1 q158) 2 q159))) rfl 5 (by decide) hk_fieldLink_RX6_21__BrideNotKnown_Valley___sentYears____I_ (fun _ h => h) rfl dX6_become_59 ?_
  obtain ⟨q160, hq160, hf⟩ := bnd hf
  refine fc_callN (Wa' := (vW G a (sA (sA (sA (sA (sA (sA v 7 (upd (v 7) 0 (u 7 0))) 7 (upd (upd (v 7) 0 (u 7 0)) 1 (u 7 1))) 0 q157) 1 q158) 2 q159) 3 q160) ++ vW G b u)) (st1 := []) (As := [.ref (b 4), .ref (a 4)]) (rest := []) hCF (k_X7_copy (b 4) 8 (u 3) (a 4) 8 (v 3) hq160) ⟨va_cnB 2 hts gX6_become_X7_copy_n40 rfl rfl rfl (hE.2.1 _ (List.mem_of_getElem? (i := 5) rfl)) hk_initialized_RX7 dk_X7_copy ⟨Nat.le_of_ble_eq_true rfl, Nat.le_of_ble_eq_true rfl⟩, hk_static_yX7_copy, trivial⟩ hE hAB hP hD hS [12, 4] (by decide +kernel) (cut_cut (app_r (vW_n G a (sA (sA (sA (sA (sA v 7 (upd (v 7) 0 (u 7 0))) 7 (upd (upd (v 7) 0 (u 7 0)) 1 (u 7 1))) 0 q157) 1 q158) 2 q159)) (vW_ca4 G b u)) (app_c (vW_ca4 G a (sA (sA (sA (sA (sA v 7 (upd (v 7) 0 (u 7 0))) 7 (upd (upd (v 7) 0 (u 7 0)) 1 (u 7 1))) 0 q157) 1 q158) 2 q159)))) (fst_fst (aW_f G (b 4) 8 (u 3) (u 3)) (aW_f G (a 4) 8 (v 3) q160)) ((set_set (i1 := [12]) (W1 := (aW G (b 4) 8 (u 3))) (aW_n G (b 4) 8 (u 3)).symm).trans ((congrArg (fun z => setAll z _ _) ((set_q (vW_ca4 G a (sA (sA (sA (sA (sA v 7 (upd (v 7) 0 (u 7 0))) 7 (upd (upd (v 7) 0 (u 7 0)) 1 (u 7 1))) 0 q157) 1 q158) 2 q159))).trans (congrArg (fun z => z ++ vW G b u) (vW_sa4 G a (sA (sA (sA (sA (sA v 7 (upd (v 7) 0 (u 7 0))) 7 (upd (upd (v 7) 0 (u 7 0)) 1 (u 7 1))) 0 q157) 1 q158) 2 q159) q160)))).trans ((set_r (vW_n G a (sA (sA (sA (sA (sA (sA v 7 (upd (v 7) 0 (u 7 0))) 7 (upd (upd (v 7) 0 (u 7 0)) 1 (u 7 1))) 0 q157) 1 q158) 2 q159) 3 q160))).trans (congrArg (fun z => vW G a (sA (sA (sA (sA (sA (sA v 7 (upd (v 7) 0 (u 7 0))) 7 (upd (upd (v 7) 0 (u 7 0)) 1 (u 7 1))) 0 q157) 1 q158) 2 q159) 3 q160) ++ z) (vW_ia4 G b u))))) rfl rfl hl.1 rfl (Nat.le_of_ble_eq_true rfl) dX6_become_62 ⟨Nat.le_refl _, Nat.le_refl _⟩ (fun H locs hP hD hS => ?_)
  refine lv_aload_n hx hb dX6_become_65 rfl (lv_at hl 0 rfl) ?_
  refine lv_aload_n hx hb dX6_become_66 rfl (lv_at hl 1 rfl) ?_
  refine fc_get (v := .int (u 7 2)) (ci := 3) (C := RX6) (T := TX6) (N := 12) hx hb hwX6 hown hE hP 8 (get_r (vW_n G a (sA (sA (sA (sA (sA (sA v 7 (upd (v 7) 0 (u 7 0))) 7 (upd (upd (v 7) 0 (u 7 0)) 1 (u 7 1))) 0 q157) 1 q158) 2 q159) 3 q160)) (vW_o G b u)) rfl 6 (by decide) hk_fieldLink_RX6_44__BrideNotKnown_Valley___marriedBrides___I_ (fun _ h => h) rfl dX6_become_67 ?_
  refine fc_put (Wa' := (vW G a (sA (sA (sA (sA (sA (sA (sA v 7 (upd (v 7) 0 (u 7 0))) 7 (upd (upd (v 7) 0 (u 7 0)) 1 (u 7 1))) 0 q157) 1 q158) 2 q159) 3 q160) 7 (upd (upd (upd (v 7) 0 (u 7 0)) 1 (u 7 1)) 2 (u 7 2))) ++ vW G b u)) (ci := 3) (C := RX6) (T := TX6) (N := 12) hx hb hwX6 tyX6 tyX6_ok nmX6 hown hE hP hD hS 0 (get_l (vW_o G a (sA (sA (sA (sA (sA (sA v 7 (upd (v 7) 0 (u 7 0))) 7 (upd (upd (v 7) 0 (u 7 0)) 1 (u 7 1))) 0 q157) 1 q158) 2 q159) 3 q160))) rfl 6 (by decide) hk_fieldLink_RX6_44__BrideNotKnown_Valley___marriedBrides___I_ (fun _ h => h) rfl rfl rfl (Nat.le_of_ble_eq_true rfl) dX6_become_70 (put_l (vW_o G a (sA (sA (sA (sA (sA (sA v 7 (upd (v 7) 0 (u 7 0))) 7 (upd (upd (v 7) 0 (u 7 0)) 1 (u 7 1))) 0 q157) 1 q158) 2 q159) 3 q160)) (vW_p6 G a (sA (sA (sA (sA (sA (sA v 7 (upd (v 7) 0 (u 7 0))) 7 (upd (upd (v 7) 0 (u 7 0)) 1 (u 7 1))) 0 q157) 1 q158) 2 q159) 3 q160) (u 7 2))) (fun H locs hP hD hS => ?_)
  refine lv_aload_n hx hb dX6_become_73 rfl (lv_at hl 0 rfl) ?_
  refine lv_aload_n hx hb dX6_become_74 rfl (lv_at hl 1 rfl) ?_
  refine fc_get (v := .int (u 7 3)) (ci := 3) (C := RX6) (T := TX6) (N := 12) hx hb hwX6 hown hE hP 8 (get_r (vW_n G a (sA (sA (sA (sA (sA (sA (sA v 7 (upd (v 7) 0 (u 7 0))) 7 (upd (upd (v 7) 0 (u 7 0)) 1 (u 7 1))) 0 q157) 1 q158) 2 q159) 3 q160) 7 (upd (upd (upd (v 7) 0 (u 7 0)) 1 (u 7 1)) 2 (u 7 2)))) (vW_o G b u)) rfl 7 (by decide) hk_fieldLink_RX6_47__BrideNotKnown_Valley___groomCount___I_ (fun _ h => h) rfl dX6_become_75 ?_
  refine fc_put (Wa' := (vW G a (sA (sA (sA (sA (sA (sA (sA (sA v 7 (upd (v 7) 0 (u 7 0))) 7 (upd (upd (v 7) 0 (u 7 0)) 1 (u 7 1))) 0 q157) 1 q158) 2 q159) 3 q160) 7 (upd (upd (upd (v 7) 0 (u 7 0)) 1 (u 7 1)) 2 (u 7 2))) 7 (upd (upd (upd (upd (v 7) 0 (u 7 0)) 1 (u 7 1)) 2 (u 7 2)) 3 (u 7 3))) ++ vW G b u)) (ci := 3) (C := RX6) (T := TX6) (N := 12) hx hb hwX6 tyX6 tyX6_ok nmX6 hown hE hP hD hS 0 (get_l (vW_o G a (sA (sA (sA (sA (sA (sA (sA v 7 (upd (v 7) 0 (u 7 0))) 7 (upd (upd (v 7) 0 (u 7 0)) 1 (u 7 1))) 0 q157) 1 q158) 2 q159) 3 q160) 7 (upd (upd (upd (v 7) 0 (u 7 0)) 1 (u 7 1)) 2 (u 7 2))))) rfl 7 (by decide) hk_fieldLink_RX6_47__BrideNotKnown_Valley___groomCount___I_ (fun _ h => h) rfl rfl rfl (Nat.le_of_ble_eq_true rfl) dX6_become_78 (put_l (vW_o G a (sA (sA (sA (sA (sA (sA (sA v 7 (upd (v 7) 0 (u 7 0))) 7 (upd (upd (v 7) 0 (u 7 0)) 1 (u 7 1))) 0 q157) 1 q158) 2 q159) 3 q160) 7 (upd (upd (upd (v 7) 0 (u 7 0)) 1 (u 7 1)) 2 (u 7 2)))) (vW_p7 G a (sA (sA (sA (sA (sA (sA (sA v 7 (upd (v 7) 0 (u 7 0))) 7 (upd (upd (v 7) 0 (u 7 0)) 1 (u 7 1))) 0 q157) 1 q158) 2 q159) 3 q160) 7 (upd (upd (upd (v 7) 0 (u 7 0)) 1 (u 7 1)) 2 (u 7 2))) (u 7 3))) (fun H locs hP hD hS => ?_)
  refine lv_aload_n hx hb dX6_become_81 rfl (lv_at hl 1 rfl) ?_
  refine fc_get (v := .ref (b 5)) (ci := 3) (C := RX6) (T := TX6) (N := 12) hx hb hwX6 hown hE hP 8 (get_r (vW_n G a (sA (sA (sA (sA (sA (sA (sA (sA v 7 (upd (v 7) 0 (u 7 0))) 7 (upd (upd (v 7) 0 (u 7 0)) 1 (u 7 1))) 0 q157) 1 q158) 2 q159) 3 q160) 7 (upd (upd (upd (v 7) 0 (u 7 0)) 1 (u 7 1)) 2 (u 7 2))) 7 (upd (upd (upd (upd (v 7) 0 (u 7 0)) 1 (u 7 1)) 2 (u 7 2)) 3 (u 7 3)))) (vW_o G b u)) rfl 8 (by decide) hk_fieldLink_RX6_24__BrideNotKnown_Valley___lookBits____I_ (fun _ h => h) rfl dX6_become_82 ?_
  refine lv_aload_n hx hb dX6_become_85 rfl (lv_at hl 0 rfl) ?_
  refine fc_get (v := .ref (a 5)) (ci := 3) (C := RX6) (T := TX6) (N := 12) hx hb hwX6 hown hE hP 0 (get_l (vW_o G a (sA (sA (sA (sA (sA (sA (sA (sA v 7 (upd (v 7) 0 (u 7 0))) 7 (upd (upd (v 7) 0 (u 7 0)) 1 (u 7 1))) 0 q157) 1 q158) 2 q159) 3 q160) 7 (upd (upd (upd (v 7) 0 (u 7 0)) 1 (u 7 1)) 2 (u 7 2))) 7 (upd (upd (upd (upd (v 7) 0 (u 7 0)) 1 (u 7 1)) 2 (u 7 2)) 3 (u 7 3))))) rfl 8 (by decide) hk_fieldLink_RX6_24__BrideNotKnown_Valley___lookBits____I_ (fun _ h => h) rfl dX6_become_86 ?_
  obtain ⟨q161, hq161, hf⟩ := bnd hf
  refine fc_callN (Wa' := (vW G a (sA (sA (sA (sA (sA (sA (sA (sA (sA v 7 (upd (v 7) 0 (u 7 0))) 7 (upd (upd (v 7) 0 (u 7 0)) 1 (u 7 1))) 0 q157) 1 q158) 2 q159) 3 q160) 7 (upd (upd (upd (v 7) 0 (u 7 0)) 1 (u 7 1)) 2 (u 7 2))) 7 (upd (upd (upd (upd (v 7) 0 (u 7 0)) 1 (u 7 1)) 2 (u 7 2)) 3 (u 7 3))) 4 q161) ++ vW G b u)) (st1 := []) (As := [.ref (b 5), .ref (a 5)]) (rest := []) hCF (k_X7_copy (b 5) 5 (u 4) (a 5) 5 (v 4) hq161) ⟨va_cnB 2 hts gX6_become_X7_copy_n40 rfl rfl rfl (hE.2.1 _ (List.mem_of_getElem? (i := 5) rfl)) hk_initialized_RX7 dk_X7_copy ⟨Nat.le_of_ble_eq_true rfl, Nat.le_of_ble_eq_true rfl⟩, hk_static_yX7_copy, trivial⟩ hE hAB hP hD hS [13, 5] (by decide +kernel) (cut_cut (app_r (vW_n G a (sA (sA (sA (sA (sA (sA (sA (sA v 7 (upd (v 7) 0 (u 7 0))) 7 (upd (upd (v 7) 0 (u 7 0)) 1 (u 7 1))) 0 q157) 1 q158) 2 q159) 3 q160) 7 (upd (upd (upd (v 7) 0 (u 7 0)) 1 (u 7 1)) 2 (u 7 2))) 7 (upd (upd (upd (upd (v 7) 0 (u 7 0)) 1 (u 7 1)) 2 (u 7 2)) 3 (u 7 3)))) (vW_ca5 G b u)) (app_c (vW_ca5 G a (sA (sA (sA (sA (sA (sA (sA (sA v 7 (upd (v 7) 0 (u 7 0))) 7 (upd (upd (v 7) 0 (u 7 0)) 1 (u 7 1))) 0 q157) 1 q158) 2 q159) 3 q160) 7 (upd (upd (upd (v 7) 0 (u 7 0)) 1 (u 7 1)) 2 (u 7 2))) 7 (upd (upd (upd (upd (v 7) 0 (u 7 0)) 1 (u 7 1)) 2 (u 7 2)) 3 (u 7 3)))))) (fst_fst (aW_f G (b 5) 5 (u 4) (u 4)) (aW_f G (a 5) 5 (v 4) q161)) ((set_set (i1 := [13]) (W1 := (aW G (b 5) 5 (u 4))) (aW_n G (b 5) 5 (u 4)).symm).trans ((congrArg (fun z => setAll z _ _) ((set_q (vW_ca5 G a (sA (sA (sA (sA (sA (sA (sA (sA v 7 (upd (v 7) 0 (u 7 0))) 7 (upd (upd (v 7) 0 (u 7 0)) 1 (u 7 1))) 0 q157) 1 q158) 2 q159) 3 q160) 7 (upd (upd (upd (v 7) 0 (u 7 0)) 1 (u 7 1)) 2 (u 7 2))) 7 (upd (upd (upd (upd (v 7) 0 (u 7 0)) 1 (u 7 1)) 2 (u 7 2)) 3 (u 7 3))))).trans (congrArg (fun z => z ++ vW G b u) (vW_sa5 G a (sA (sA (sA (sA (sA (sA (sA (sA v 7 (upd (v 7) 0 (u 7 0))) 7 (upd (upd (v 7) 0 (u 7 0)) 1 (u 7 1))) 0 q157) 1 q158) 2 q159) 3 q160) 7 (upd (upd (upd (v 7) 0 (u 7 0)) 1 (u 7 1)) 2 (u 7 2))) 7 (upd (upd (upd (upd (v 7) 0 (u 7 0)) 1 (u 7 1)) 2 (u 7 2)) 3 (u 7 3))) q161)))).trans ((set_r (vW_n G a (sA (sA (sA (sA (sA (sA (sA (sA (sA v 7 (upd (v 7) 0 (u 7 0))) 7 (upd (upd (v 7) 0 (u 7 0)) 1 (u 7 1))) 0 q157) 1 q158) 2 q159) 3 q160) 7 (upd (upd (upd (v 7) 0 (u 7 0)) 1 (u 7 1)) 2 (u 7 2))) 7 (upd (upd (upd (upd (v 7) 0 (u 7 0)) 1 (u 7 1)) 2 (u 7 2)) 3 (u 7 3))) 4 q161))).trans (congrArg (fun z => vW G a (sA (sA (sA (sA (sA (sA (sA (sA (sA v 7 (upd (v 7) 0 (u 7 0))) 7 (upd (upd (v 7) 0 (u 7 0)) 1 (u 7 1))) 0 q157) 1 q158) 2 q159) 3 q160) 7 (upd (upd (upd (v 7) 0 (u 7 0)) 1 (u 7 1)) 2 (u 7 2))) 7 (upd (upd (upd (upd (v 7) 0 (u 7 0)) 1 (u 7 1)) 2 (u 7 2)) 3 (u 7 3))) 4 q161) ++ z) (vW_ia5 G b u))))) rfl rfl hl.1 rfl (Nat.le_of_ble_eq_true rfl) dX6_become_89 ⟨Nat.le_refl _, Nat.le_refl _⟩ (fun H locs hP hD hS => ?_)
  refine lv_aload_n hx hb dX6_become_92 rfl (lv_at hl 1 rfl) ?_
  refine fc_get (v := .ref (b 6)) (ci := 3) (C := RX6) (T := TX6) (N := 12) hx hb hwX6 hown hE hP 8 (get_r (vW_n G a (sA (sA (sA (sA (sA (sA (sA (sA (sA v 7 (upd (v 7) 0 (u 7 0))) 7 (upd (upd (v 7) 0 (u 7 0)) 1 (u 7 1))) 0 q157) 1 q158) 2 q159) 3 q160) 7 (upd (upd (upd (v 7) 0 (u 7 0)) 1 (u 7 1)) 2 (u 7 2))) 7 (upd (upd (upd (upd (v 7) 0 (u 7 0)) 1 (u 7 1)) 2 (u 7 2)) 3 (u 7 3))) 4 q161)) (vW_o G b u)) rfl 9 (by decide) hk_fieldLink_RX6_27__BrideNotKnown_Valley___mindFeet____I_ (fun _ h => h) rfl dX6_become_93 ?_
  refine lv_aload_n hx hb dX6_become_96 rfl (lv_at hl 0 rfl) ?_
  refine fc_get (v := .ref (a 6)) (ci := 3) (C := RX6) (T := TX6) (N := 12) hx hb hwX6 hown hE hP 0 (get_l (vW_o G a (sA (sA (sA (sA (sA (sA (sA (sA (sA v 7 (upd (v 7) 0 (u 7 0))) 7 (upd (upd (v 7) 0 (u 7 0)) 1 (u 7 1))) 0 q157) 1 q158) 2 q159) 3 q160) 7 (upd (upd (upd (v 7) 0 (u 7 0)) 1 (u 7 1)) 2 (u 7 2))) 7 (upd (upd (upd (upd (v 7) 0 (u 7 0)) 1 (u 7 1)) 2 (u 7 2)) 3 (u 7 3))) 4 q161))) rfl 9 (by decide) hk_fieldLink_RX6_27__BrideNotKnown_Valley___mindFeet____I_ (fun _ h => h) rfl dX6_become_97 ?_
  obtain ⟨q162, hq162, hf⟩ := bnd hf
  refine fc_callN (Wa' := (vW G a (sA (sA (sA (sA (sA (sA (sA (sA (sA (sA v 7 (upd (v 7) 0 (u 7 0))) 7 (upd (upd (v 7) 0 (u 7 0)) 1 (u 7 1))) 0 q157) 1 q158) 2 q159) 3 q160) 7 (upd (upd (upd (v 7) 0 (u 7 0)) 1 (u 7 1)) 2 (u 7 2))) 7 (upd (upd (upd (upd (v 7) 0 (u 7 0)) 1 (u 7 1)) 2 (u 7 2)) 3 (u 7 3))) 4 q161) 5 q162) ++ vW G b u)) (st1 := []) (As := [.ref (b 6), .ref (a 6)]) (rest := []) hCF (k_X7_copy (b 6) 5 (u 5) (a 6) 5 (v 5) hq162) ⟨va_cnB 2 hts gX6_become_X7_copy_n40 rfl rfl rfl (hE.2.1 _ (List.mem_of_getElem? (i := 5) rfl)) hk_initialized_RX7 dk_X7_copy ⟨Nat.le_of_ble_eq_true rfl, Nat.le_of_ble_eq_true rfl⟩, hk_static_yX7_copy, trivial⟩ hE hAB hP hD hS [14, 6] (by decide +kernel) (cut_cut (app_r (vW_n G a (sA (sA (sA (sA (sA (sA (sA (sA (sA v 7 (upd (v 7) 0 (u 7 0))) 7 (upd (upd (v 7) 0 (u 7 0)) 1 (u 7 1))) 0 q157) 1 q158) 2 q159) 3 q160) 7 (upd (upd (upd (v 7) 0 (u 7 0)) 1 (u 7 1)) 2 (u 7 2))) 7 (upd (upd (upd (upd (v 7) 0 (u 7 0)) 1 (u 7 1)) 2 (u 7 2)) 3 (u 7 3))) 4 q161)) (vW_ca6 G b u)) (app_c (vW_ca6 G a (sA (sA (sA (sA (sA (sA (sA (sA (sA v 7 (upd (v 7) 0 (u 7 0))) 7 (upd (upd (v 7) 0 (u 7 0)) 1 (u 7 1))) 0 q157) 1 q158) 2 q159) 3 q160) 7 (upd (upd (upd (v 7) 0 (u 7 0)) 1 (u 7 1)) 2 (u 7 2))) 7 (upd (upd (upd (upd (v 7) 0 (u 7 0)) 1 (u 7 1)) 2 (u 7 2)) 3 (u 7 3))) 4 q161)))) (fst_fst (aW_f G (b 6) 5 (u 5) (u 5)) (aW_f G (a 6) 5 (v 5) q162)) ((set_set (i1 := [14]) (W1 := (aW G (b 6) 5 (u 5))) (aW_n G (b 6) 5 (u 5)).symm).trans ((congrArg (fun z => setAll z _ _) ((set_q (vW_ca6 G a (sA (sA (sA (sA (sA (sA (sA (sA (sA v 7 (upd (v 7) 0 (u 7 0))) 7 (upd (upd (v 7) 0 (u 7 0)) 1 (u 7 1))) 0 q157) 1 q158) 2 q159) 3 q160) 7 (upd (upd (upd (v 7) 0 (u 7 0)) 1 (u 7 1)) 2 (u 7 2))) 7 (upd (upd (upd (upd (v 7) 0 (u 7 0)) 1 (u 7 1)) 2 (u 7 2)) 3 (u 7 3))) 4 q161))).trans (congrArg (fun z => z ++ vW G b u) (vW_sa6 G a (sA (sA (sA (sA (sA (sA (sA (sA (sA v 7 (upd (v 7) 0 (u 7 0))) 7 (upd (upd (v 7) 0 (u 7 0)) 1 (u 7 1))) 0 q157) 1 q158) 2 q159) 3 q160) 7 (upd (upd (upd (v 7) 0 (u 7 0)) 1 (u 7 1)) 2 (u 7 2))) 7 (upd (upd (upd (upd (v 7) 0 (u 7 0)) 1 (u 7 1)) 2 (u 7 2)) 3 (u 7 3))) 4 q161) q162)))).trans ((set_r (vW_n G a (sA (sA (sA (sA (sA (sA (sA (sA (sA (sA v 7 (upd (v 7) 0 (u 7 0))) 7 (upd (upd (v 7) 0 (u 7 0)) 1 (u 7 1))) 0 q157) 1 q158) 2 q159) 3 q160) 7 (upd (upd (upd (v 7) 0 (u 7 0)) 1 (u 7 1)) 2 (u 7 2))) 7 (upd (upd (upd (upd (v 7) 0 (u 7 0)) 1 (u 7 1)) 2 (u 7 2)) 3 (u 7 3))) 4 q161) 5 q162))).trans (congrArg (fun z => vW G a (sA (sA (sA (sA (sA (sA (sA (sA (sA (sA v 7 (upd (v 7) 0 (u 7 0))) 7 (upd (upd (v 7) 0 (u 7 0)) 1 (u 7 1))) 0 q157) 1 q158) 2 q159) 3 q160) 7 (upd (upd (upd (v 7) 0 (u 7 0)) 1 (u 7 1)) 2 (u 7 2))) 7 (upd (upd (upd (upd (v 7) 0 (u 7 0)) 1 (u 7 1)) 2 (u 7 2)) 3 (u 7 3))) 4 q161) 5 q162) ++ z) (vW_ia6 G b u))))) rfl rfl hl.1 rfl (Nat.le_of_ble_eq_true rfl) dX6_become_100 ⟨Nat.le_refl _, Nat.le_refl _⟩ (fun H locs hP hD hS => ?_)
  refine lv_aload_n hx hb dX6_become_103 rfl (lv_at hl 1 rfl) ?_
  refine fc_get (v := .ref (b 7)) (ci := 3) (C := RX6) (T := TX6) (N := 12) hx hb hwX6 hown hE hP 8 (get_r (vW_n G a (sA (sA (sA (sA (sA (sA (sA (sA (sA (sA v 7 (upd (v 7) 0 (u 7 0))) 7 (upd (upd (v 7) 0 (u 7 0)) 1 (u 7 1))) 0 q157) 1 q158) 2 q159) 3 q160) 7 (upd (upd (upd (v 7) 0 (u 7 0)) 1 (u 7 1)) 2 (u 7 2))) 7 (upd (upd (upd (upd (v 7) 0 (u 7 0)) 1 (u 7 1)) 2 (u 7 2)) 3 (u 7 3))) 4 q161) 5 q162)) (vW_o G b u)) rfl 10 (by decide) hk_fieldLink_RX6_30__BrideNotKnown_Valley___liquors____I_ (fun _ h => h) rfl dX6_become_104 ?_
  refine lv_aload_n hx hb dX6_become_107 rfl (lv_at hl 0 rfl) ?_
  refine fc_get (v := .ref (a 7)) (ci := 3) (C := RX6) (T := TX6) (N := 12) hx hb hwX6 hown hE hP 0 (get_l (vW_o G a (sA (sA (sA (sA (sA (sA (sA (sA (sA (sA v 7 (upd (v 7) 0 (u 7 0))) 7 (upd (upd (v 7) 0 (u 7 0)) 1 (u 7 1))) 0 q157) 1 q158) 2 q159) 3 q160) 7 (upd (upd (upd (v 7) 0 (u 7 0)) 1 (u 7 1)) 2 (u 7 2))) 7 (upd (upd (upd (upd (v 7) 0 (u 7 0)) 1 (u 7 1)) 2 (u 7 2)) 3 (u 7 3))) 4 q161) 5 q162))) rfl 10 (by decide) hk_fieldLink_RX6_30__BrideNotKnown_Valley___liquors____I_ (fun _ h => h) rfl dX6_become_108 ?_
  obtain ⟨q163, hq163, hf⟩ := bnd hf
  refine fc_callN (Wa' := (vW G a (sA (sA (sA (sA (sA (sA (sA (sA (sA (sA (sA v 7 (upd (v 7) 0 (u 7 0))) 7 (upd (upd (v 7) 0 (u 7 0)) 1 (u 7 1))) 0 q157) 1 q158) 2 q159) 3 q160) 7 (upd (upd (upd (v 7) 0 (u 7 0)) 1 (u 7 1)) 2 (u 7 2))) 7 (upd (upd (upd (upd (v 7) 0 (u 7 0)) 1 (u 7 1)) 2 (u 7 2)) 3 (u 7 3))) 4 q161) 5 q162) 6 q163) ++ vW G b u)) (st1 := []) (As := [.ref (b 7), .ref (a 7)]) (rest := []) hCF (k_X7_copy (b 7) 5 (u 6) (a 7) 5 (v 6) hq163) ⟨va_cnB 2 hts gX6_become_X7_copy_n40 rfl rfl rfl (hE.2.1 _ (List.mem_of_getElem? (i := 5) rfl)) hk_initialized_RX7 dk_X7_copy ⟨Nat.le_of_ble_eq_true rfl, Nat.le_of_ble_eq_true rfl⟩, hk_static_yX7_copy, trivial⟩ hE hAB hP hD hS [15, 7] (by decide +kernel) (cut_cut (app_r (vW_n G a (sA (sA (sA (sA (sA (sA (sA (sA (sA (sA v 7 (upd (v 7) 0 (u 7 0))) 7 (upd (upd (v 7) 0 (u 7 0)) 1 (u 7 1))) 0 q157) 1 q158) 2 q159) 3 q160) 7 (upd (upd (upd (v 7) 0 (u 7 0)) 1 (u 7 1)) 2 (u 7 2))) 7 (upd (upd (upd (upd (v 7) 0 (u 7 0)) 1 (u 7 1)) 2 (u 7 2)) 3 (u 7 3))) 4 q161) 5 q162)) (vW_ca7 G b u)) (app_c (vW_ca7 G a (sA (sA (sA (sA (sA (sA (sA (sA (sA (sA v 7 (upd (v 7) 0 (u 7 0))) 7 (upd (upd (v 7) 0 (u 7 0)) 1 (u 7 1))) 0 q157) 1 q158) 2 q159) 3 q160) 7 (upd (upd (upd (v 7) 0 (u 7 0)) 1 (u 7 1)) 2 (u 7 2))) 7 (upd (upd (upd (upd (v 7) 0 (u 7 0)) 1 (u 7 1)) 2 (u 7 2)) 3 (u 7 3))) 4 q161) 5 q162)))) (fst_fst (aW_f G (b 7) 5 (u 6) (u 6)) (aW_f G (a 7) 5 (v 6) q163)) ((set_set (i1 := [15]) (W1 := (aW G (b 7) 5 (u 6))) (aW_n G (b 7) 5 (u 6)).symm).trans ((congrArg (fun z => setAll z _ _) ((set_q (vW_ca7 G a (sA (sA (sA (sA (sA (sA (sA (sA (sA (sA v 7 (upd (v 7) 0 (u 7 0))) 7 (upd (upd (v 7) 0 (u 7 0)) 1 (u 7 1))) 0 q157) 1 q158) 2 q159) 3 q160) 7 (upd (upd (upd (v 7) 0 (u 7 0)) 1 (u 7 1)) 2 (u 7 2))) 7 (upd (upd (upd (upd (v 7) 0 (u 7 0)) 1 (u 7 1)) 2 (u 7 2)) 3 (u 7 3))) 4 q161) 5 q162))).trans (congrArg (fun z => z ++ vW G b u) (vW_sa7 G a (sA (sA (sA (sA (sA (sA (sA (sA (sA (sA v 7 (upd (v 7) 0 (u 7 0))) 7 (upd (upd (v 7) 0 (u 7 0)) 1 (u 7 1))) 0 q157) 1 q158) 2 q159) 3 q160) 7 (upd (upd (upd (v 7) 0 (u 7 0)) 1 (u 7 1)) 2 (u 7 2))) 7 (upd (upd (upd (upd (v 7) 0 (u 7 0)) 1 (u 7 1)) 2 (u 7 2)) 3 (u 7 3))) 4 q161) 5 q162) q163)))).trans ((set_r (vW_n G a (sA (sA (sA (sA (sA (sA (sA (sA (sA (sA (sA v 7 (upd (v 7) 0 (u 7 0))) 7 (upd (upd (v 7) 0 (u 7 0)) 1 (u 7 1))) 0 q157) 1 q158) 2 q159) 3 q160) 7 (upd (upd (upd (v 7) 0 (u 7 0)) 1 (u 7 1)) 2 (u 7 2))) 7 (upd (upd (upd (upd (v 7) 0 (u 7 0)) 1 (u 7 1)) 2 (u 7 2)) 3 (u 7 3))) 4 q161) 5 q162) 6 q163))).trans (congrArg (fun z => vW G a (sA (sA (sA (sA (sA (sA (sA (sA (sA (sA (sA v 7 (upd (v 7) 0 (u 7 0))) 7 (upd (upd (v 7) 0 (u 7 0)) 1 (u 7 1))) 0 q157) 1 q158) 2 q159) 3 q160) 7 (upd (upd (upd (v 7) 0 (u 7 0)) 1 (u 7 1)) 2 (u 7 2))) 7 (upd (upd (upd (upd (v 7) 0 (u 7 0)) 1 (u 7 1)) 2 (u 7 2)) 3 (u 7 3))) 4 q161) 5 q162) 6 q163) ++ z) (vW_ia7 G b u))))) rfl rfl hl.1 rfl (Nat.le_of_ble_eq_true rfl) dX6_become_111 ⟨Nat.le_refl _, Nat.le_refl _⟩ (fun H locs hP hD hS => ?_)
  refine lv_aload_n hx hb dX6_become_114 rfl (lv_at hl 0 rfl) ?_
  refine lv_aload_n hx hb dX6_become_115 rfl (lv_at hl 1 rfl) ?_
  refine fc_get (v := .int (u 7 4)) (ci := 3) (C := RX6) (T := TX6) (N := 12) hx hb hwX6 hown hE hP 8 (get_r (vW_n G a (sA (sA (sA (sA (sA (sA (sA (sA (sA (sA (sA v 7 (upd (v 7) 0 (u 7 0))) 7 (upd (upd (v 7) 0 (u 7 0)) 1 (u 7 1))) 0 q157) 1 q158) 2 q159) 3 q160) 7 (upd (upd (upd (v 7) 0 (u 7 0)) 1 (u 7 1)) 2 (u 7 2))) 7 (upd (upd (upd (upd (v 7) 0 (u 7 0)) 1 (u 7 1)) 2 (u 7 2)) 3 (u 7 3))) 4 q161) 5 q162) 6 q163)) (vW_o G b u)) rfl 11 (by decide) hk_fieldLink_RX6_50__BrideNotKnown_Valley___marriedGrooms___I_ (fun _ h => h) rfl dX6_become_116 ?_
  refine fc_put (Wa' := (vW G a (sA (sA (sA (sA (sA (sA (sA (sA (sA (sA (sA (sA v 7 (upd (v 7) 0 (u 7 0))) 7 (upd (upd (v 7) 0 (u 7 0)) 1 (u 7 1))) 0 q157) 1 q158) 2 q159) 3 q160) 7 (upd (upd (upd (v 7) 0 (u 7 0)) 1 (u 7 1)) 2 (u 7 2))) 7 (upd (upd (upd (upd (v 7) 0 (u 7 0)) 1 (u 7 1)) 2 (u 7 2)) 3 (u 7 3))) 4 q161) 5 q162) 6 q163) 7 (upd (upd (upd (upd (upd (v 7) 0 (u 7 0)) 1 (u 7 1)) 2 (u 7 2)) 3 (u 7 3)) 4 (u 7 4))) ++ vW G b u)) (ci := 3) (C := RX6) (T := TX6) (N := 12) hx hb hwX6 tyX6 tyX6_ok nmX6 hown hE hP hD hS 0 (get_l (vW_o G a (sA (sA (sA (sA (sA (sA (sA (sA (sA (sA (sA v 7 (upd (v 7) 0 (u 7 0))) 7 (upd (upd (v 7) 0 (u 7 0)) 1 (u 7 1))) 0 q157) 1 q158) 2 q159) 3 q160) 7 (upd (upd (upd (v 7) 0 (u 7 0)) 1 (u 7 1)) 2 (u 7 2))) 7 (upd (upd (upd (upd (v 7) 0 (u 7 0)) 1 (u 7 1)) 2 (u 7 2)) 3 (u 7 3))) 4 q161) 5 q162) 6 q163))) rfl 11 (by decide) hk_fieldLink_RX6_50__BrideNotKnown_Valley___marriedGrooms___I_ (fun _ h => h) rfl rfl rfl (Nat.le_of_ble_eq_true rfl) dX6_become_119 (put_l (vW_o G a (sA (sA (sA (sA (sA (sA (sA (sA (sA (sA (sA v 7 (upd (v 7) 0 (u 7 0))) 7 (upd (upd (v 7) 0 (u 7 0)) 1 (u 7 1))) 0 q157) 1 q158) 2 q159) 3 q160) 7 (upd (upd (upd (v 7) 0 (u 7 0)) 1 (u 7 1)) 2 (u 7 2))) 7 (upd (upd (upd (upd (v 7) 0 (u 7 0)) 1 (u 7 1)) 2 (u 7 2)) 3 (u 7 3))) 4 q161) 5 q162) 6 q163)) (vW_p11 G a (sA (sA (sA (sA (sA (sA (sA (sA (sA (sA (sA v 7 (upd (v 7) 0 (u 7 0))) 7 (upd (upd (v 7) 0 (u 7 0)) 1 (u 7 1))) 0 q157) 1 q158) 2 q159) 3 q160) 7 (upd (upd (upd (v 7) 0 (u 7 0)) 1 (u 7 1)) 2 (u 7 2))) 7 (upd (upd (upd (upd (v 7) 0 (u 7 0)) 1 (u 7 1)) 2 (u 7 2)) 3 (u 7 3))) 4 q161) 5 q162) 6 q163) (u 7 4))) (fun H locs hP hD hS => ?_)
  exact fc_retv hx hb hr hlocks hP hS dX6_become_122 (congrArg (fun z => (vW G a z ++ vW G b u)) (i1 hf))
theorem dk_X7_put : yX7_put.cls ≠ "java/lang/invoke/MethodHandle" ∧ yX7_put.cls ≠ "java/lang/invoke/VarHandle" ∧ (parseMethodDescriptor yX7_put.desc).map (fun d => d.parameters.length) = some 3 := by decide +kernel
set_option maxHeartbeats 4000000 in
set_option maxRecDepth 100000 in
theorem k_X7_put {l : Launch} {G : Gx} (q : Nat) (N0 : Nat) (f : Nat → Int32) (x1 : Int32) (x2 : Int32) {f' : (Nat → Int32)} (hf : f_X7_put N0 f x1 x2 = some f') : FC l G yX7_put wsX7_put ({ frames := 0, cells := 0, slots := 0, locals := 0 } : Room) [.ref q, .int x1, .int x2] (aW G q N0 f) (aW G q N0 (f')) none := by
  refine fc_head (cc := cX7_put) (maxL := 3) (ret := none) (C := RX7) (lv := [(0, .ref q), (1, .int x1), (2, .int x2)]) (by decide) rfl rfl (Nat.le_of_ble_eq_true rfl) rfl ?_
  intro p e s m below meth c ls A hx hb hr hml hown hts hlocks hE hP hD hAB hS hl
  have hCF : CallFix p m c cX7_put 3 s ([.ref q, .int x1, .int x2] : List Value).toArray wsX7_put RX7 := ⟨hx, hb, hml, hown, hts⟩
  rw [f_X7_put] at hf
  refine lv_aload_n hx hb dX7_put_0 rfl (lv_at hl 0 rfl) ?_
  refine lv_ifnull hx hb dX7_put_1 ?_
  refine lv_iload_n hx hb dX7_put_4 rfl (lv_at hl 1 rfl) ?_
  refine lv_if_lt (tgt := 18) hx hb dX7_put_5 (by decide) (fun c164 => ?_) (fun c164 => ?_)
  · have hf := ifT hf c164
    exact fc_retv hx hb hr hlocks hP hS dX7_put_18 (congrArg (fun z => (aW G q N0 z)) (i1 hf))
  · have hf := ifF hf c164
    refine lv_iload_n hx hb dX7_put_8 rfl (lv_at hl 1 rfl) ?_
    refine lv_aload_n hx hb dX7_put_9 rfl (lv_at hl 0 rfl) ?_
    refine fc_alen (n := N0) (f := f) hx hb hE hP 0 (aW_a G q N0 f) dX7_put_10 ?_
    refine lv_icmp_ge (tgt := 18) hx hb dX7_put_11 (by decide) (fun c165 => ?_) (fun c165 => ?_)
    · have hf := ifT hf c165
      exact fc_retv hx hb hr hlocks hP hS dX7_put_18 (congrArg (fun z => (aW G q N0 z)) (i1 hf))
    · have hf := ifF hf c165
      refine lv_aload_n hx hb dX7_put_14 rfl (lv_at hl 0 rfl) ?_
      refine lv_iload_n hx hb dX7_put_15 rfl (lv_at hl 1 rfl) ?_
      refine lv_iload_n hx hb dX7_put_16 rfl (lv_at hl 2 rfl) ?_
      obtain ⟨c166, hf⟩ := gd_some hf
      refine fc_iast (n := N0) (f := f) (Wa' := (aW G q N0 (upd f x1.toNatClampNeg x2))) hx hb hE hP hD hS 0 (aW_a G q N0 f) (inB_in c166) dX7_put_17 (aW_t G q N0 f (upd f x1.toNatClampNeg x2)) (fun H locs hP hD hS => ?_)
      exact fc_retv hx hb hr hlocks hP hS dX7_put_18 (congrArg (fun z => (aW G q N0 z)) (i1 hf))
theorem dk_X6_sendHome : yX6_sendHome.cls ≠ "java/lang/invoke/MethodHandle" ∧ yX6_sendHome.cls ≠ "java/lang/invoke/VarHandle" ∧ (parseMethodDescriptor yX6_sendHome.desc).map (fun d => d.parameters.length) = some 2 := by decide +kernel
theorem iu_X6_sendHome_X6 : ∀ w ∈ u_ws RX6 TX6 12, w ∈ wsX6_sendHome := by decide +kernel
set_option maxHeartbeats 4000000 in
set_option maxRecDepth 100000 in
theorem k_X6_sendHome {l : Launch} {G : Gx} (a : Nat → Nat) (v : St) (x1 : Int32) (x2 : Int32) {v' : St} (hf : f_X6_sendHome v x1 x2 = some v') : FC l G yX6_sendHome wsX6_sendHome ({ frames := 1, cells := 0, slots := 0, locals := 22 } : Room) [.ref (a 0), .int x1, .int x2] (vW G a v) (vW G a v') none := by
  refine fc_head (cc := cX6_sendHome) (maxL := 3) (ret := none) (C := RX6) (lv := [(0, .ref (a 0)), (1, .int x1), (2, .int x2)]) (by decide) rfl rfl (Nat.le_of_ble_eq_true rfl) rfl ?_
  intro p e s m below meth c ls A hx hb hr hml hown hts hlocks hE hP hD hAB hS hl
  have hCF : CallFix p m c cX6_sendHome 3 s ([.ref (a 0), .int x1, .int x2] : List Value).toArray wsX6_sendHome RX6 := ⟨hx, hb, hml, hown, hts⟩
  have hwX6 : ∀ w ∈ u_ws RX6 TX6 12, w.before ([.ref (a 0), .int x1, .int x2] : List Value).toArray s = true := fun w h => hts w (iu_X6_sendHome_X6 w h)
  have hk_fieldLink_RX6_21__BrideNotKnown_Valley___sentYears____I_ := hts (.fieldLink RX6 21 "BrideNotKnown$Valley" "sentYears" "[I") (List.mem_of_getElem? (i := 1) rfl)
  have hk_initialized_RX7 := hts (.initialized RX7) (List.mem_of_getElem? (i := 3) rfl)
  have hk_static_yX7_put := hts (.static yX7_put) (List.mem_of_getElem? (i := 2) rfl)
  rw [f_X6_sendHome] at hf
  refine lv_aload_n hx hb dX6_sendHome_0 rfl (lv_at hl 0 rfl) ?_
  refine fc_get (v := .ref (a 4)) (ci := 3) (C := RX6) (T := TX6) (N := 12) hx hb hwX6 hown hE hP 0 (vW_o G a v) rfl 5 (by decide) hk_fieldLink_RX6_21__BrideNotKnown_Valley___sentYears____I_ (fun _ h => h) rfl dX6_sendHome_1 ?_
  refine lv_iload_n hx hb dX6_sendHome_4 rfl (lv_at hl 1 rfl) ?_
  refine lv_iload_n hx hb dX6_sendHome_5 rfl (lv_at hl 2 rfl) ?_
  obtain ⟨q168, hq168, hf⟩ := bnd hf
  refine fc_callN (Wa' := (vW G a (sA v 3 q168))) (st1 := []) (As := [.ref (a 4), .int x1, .int x2]) (rest := []) hCF (k_X7_put (a 4) 8 (v 3) x1 x2 hq168) ⟨va_cnB 3 hts gX6_sendHome_X7_put_n65 rfl rfl rfl (hE.2.1 _ (List.mem_of_getElem? (i := 7) rfl)) hk_initialized_RX7 dk_X7_put ⟨Nat.le_of_ble_eq_true rfl, Nat.le_of_ble_eq_true rfl⟩, hk_static_yX7_put, trivial⟩ hE hAB hP hD hS [4] rfl (vW_ca4 G a v) (aW_f G (a 4) 8 (v 3) q168) (vW_sa4 G a v q168) rfl rfl hl.1 rfl (Nat.le_of_ble_eq_true rfl) dX6_sendHome_6 ⟨Nat.le_refl _, Nat.le_refl _⟩ (fun H locs hP hD hS => ?_)
  exact fc_retv hx hb hr hlocks hP hS dX6_sendHome_9 (congrArg (fun z => (vW G a z)) (i1 hf))
theorem dk_X6_footOf : yX6_footOf.cls ≠ "java/lang/invoke/MethodHandle" ∧ yX6_footOf.cls ≠ "java/lang/invoke/VarHandle" ∧ (parseMethodDescriptor yX6_footOf.desc).map (fun d => d.parameters.length) = some 1 := by decide +kernel
theorem iu_X6_footOf_X6 : ∀ w ∈ u_ws RX6 TX6 12, w ∈ wsX6_footOf := by decide +kernel
set_option maxHeartbeats 4000000 in
set_option maxRecDepth 100000 in
theorem k_X6_footOf {l : Launch} {G : Gx} (a : Nat → Nat) (v : St) (x1 : Int32) {r : Int32} (hf : f_X6_footOf v x1 = some r) : FC l G yX6_footOf wsX6_footOf ({ frames := 1, cells := 0, slots := 0, locals := 21 } : Room) [.ref (a 0), .int x1] (vW G a v) (vW G a v) (some (.int r)) := by
  refine fc_head (cc := cX6_footOf) (maxL := 2) (ret := (some .int)) (C := RX6) (lv := [(0, .ref (a 0)), (1, .int x1)]) (by decide) rfl rfl (Nat.le_of_ble_eq_true rfl) rfl ?_
  intro p e s m below meth c ls A hx hb hr hml hown hts hlocks hE hP hD hAB hS hl
  have hCF : CallFix p m c cX6_footOf 2 s ([.ref (a 0), .int x1] : List Value).toArray wsX6_footOf RX6 := ⟨hx, hb, hml, hown, hts⟩
  have hwX6 : ∀ w ∈ u_ws RX6 TX6 12, w.before ([.ref (a 0), .int x1] : List Value).toArray s = true := fun w h => hts w (iu_X6_footOf_X6 w h)
  have hk_fieldLink_RX6_18__BrideNotKnown_Valley___feet____I_ := hts (.fieldLink RX6 18 "BrideNotKnown$Valley" "feet" "[I") (List.mem_of_getElem? (i := 1) rfl)
  have hk_initialized_RX7 := hts (.initialized RX7) (List.mem_of_getElem? (i := 3) rfl)
  have hk_static_yX7_at := hts (.static yX7_at) (List.mem_of_getElem? (i := 2) rfl)
  rw [f_X6_footOf] at hf
  refine lv_aload_n hx hb dX6_footOf_0 rfl (lv_at hl 0 rfl) ?_
  refine fc_get (v := .ref (a 3)) (ci := 3) (C := RX6) (T := TX6) (N := 12) hx hb hwX6 hown hE hP 0 (vW_o G a v) rfl 4 (by decide) hk_fieldLink_RX6_18__BrideNotKnown_Valley___feet____I_ (fun _ h => h) rfl dX6_footOf_1 ?_
  refine lv_iload_n hx hb dX6_footOf_4 rfl (lv_at hl 1 rfl) ?_
  obtain ⟨q192, hq192, hf⟩ := bnd hf
  refine fc_callN (Wa' := (vW G a v)) (st1 := [.int q192]) (As := [.ref (a 3), .int x1]) (rest := []) hCF (k_X7_at (a 3) 8 (v 2) x1 hq192) ⟨va_cnB 2 hts gX6_footOf_X7_at_n53 rfl rfl rfl (hE.2.1 _ (List.mem_of_getElem? (i := 8) rfl)) hk_initialized_RX7 dk_X7_at ⟨Nat.le_of_ble_eq_true rfl, Nat.le_of_ble_eq_true rfl⟩, hk_static_yX7_at, trivial⟩ hE hAB hP hD hS [3] rfl (vW_ca3 G a v) (aW_f G (a 3) 8 (v 2) (v 2)) (vW_ia3 G a v) rfl rfl hl.1 rfl (Nat.le_of_ble_eq_true rfl) dX6_footOf_5 ⟨Nat.le_refl _, Nat.le_refl _⟩ (fun H locs hP hD hS => ?_)
  exact fc_reti hx hb hr hlocks hP hS dX6_footOf_8 (i1 hf) rfl
theorem dk_X6_changeToes : yX6_changeToes.cls ≠ "java/lang/invoke/MethodHandle" ∧ yX6_changeToes.cls ≠ "java/lang/invoke/VarHandle" ∧ (parseMethodDescriptor yX6_changeToes.desc).map (fun d => d.parameters.length) = some 2 := by decide +kernel
theorem iu_X6_changeToes_X6 : ∀ w ∈ u_ws RX6 TX6 12, w ∈ wsX6_changeToes := by decide +kernel
set_option maxHeartbeats 4000000 in
set_option maxRecDepth 100000 in
theorem k_X6_changeToes {l : Launch} {G : Gx} (a : Nat → Nat) (v : St) (x1 : Int32) (x2 : Int32) {v' : St} (hf : f_X6_changeToes v x1 x2 = some v') : FC l G yX6_changeToes wsX6_changeToes ({ frames := 2, cells := 0, slots := 0, locals := 42 } : Room) [.ref (a 0), .int x1, .int x2] (vW G a v) (vW G a v') none := by
  refine fc_head (cc := cX6_changeToes) (maxL := 3) (ret := none) (C := RX6) (lv := [(0, .ref (a 0)), (1, .int x1), (2, .int x2)]) (by decide) rfl rfl (Nat.le_of_ble_eq_true rfl) rfl ?_
  intro p e s m below meth c ls A hx hb hr hml hown hts hlocks hE hP hD hAB hS hl
  have hCF : CallFix p m c cX6_changeToes 3 s ([.ref (a 0), .int x1, .int x2] : List Value).toArray wsX6_changeToes RX6 := ⟨hx, hb, hml, hown, hts⟩
  have hwX6 : ∀ w ∈ u_ws RX6 TX6 12, w.before ([.ref (a 0), .int x1, .int x2] : List Value).toArray s = true := fun w h => hts w (iu_X6_changeToes_X6 w h)
  have hk_fieldLink_RX6_18__BrideNotKnown_Valley___feet____I_ := hts (.fieldLink RX6 18 "BrideNotKnown$Valley" "feet" "[I") (List.mem_of_getElem? (i := 1) rfl)
  have hk_initialized_RX7 := hts (.initialized RX7) (List.mem_of_getElem? (i := 8) rfl)
  have hk_static_yX7_put := hts (.static yX7_put) (List.mem_of_getElem? (i := 10) rfl)
  rw [f_X6_changeToes] at hf
  refine lv_aload_n hx hb dX6_changeToes_0 rfl (lv_at hl 0 rfl) ?_
  refine fc_get (v := .ref (a 3)) (ci := 3) (C := RX6) (T := TX6) (N := 12) hx hb hwX6 hown hE hP 0 (vW_o G a v) rfl 4 (by decide) hk_fieldLink_RX6_18__BrideNotKnown_Valley___feet____I_ (fun _ h => h) rfl dX6_changeToes_1 ?_
  refine lv_iload_n hx hb dX6_changeToes_4 rfl (lv_at hl 1 rfl) ?_
  refine lv_aload_n hx hb dX6_changeToes_5 rfl (lv_at hl 0 rfl) ?_
  refine lv_iload_n hx hb dX6_changeToes_6 rfl (lv_at hl 1 rfl) ?_
  obtain ⟨q195, hq195, hf⟩ := bnd hf
  refine fc_callV (Wa' := (vW G a v)) (st1 := [.int q195, .int x1, .ref (a 3)]) (As := [.int x1]) (rest := [.int x1, .ref (a 3)]) hCF (k_X6_footOf a v x1 hq195) (cwV 1 hts gX6_changeToes_X6_footOf rfl rfl rfl ⟨rfl, dk_X6_footOf⟩ ⟨Nat.le_of_ble_eq_true rfl, Nat.le_of_ble_eq_true rfl⟩) hE hAB hP hD hS [0, 1, 2, 3, 4, 5, 6, 7] vW_d (vW_c G a v) (va_recv hE.1 hP (ci := 3) (q0 := 0) rfl (vW_o G a v)) (vW_f G a v v) (vW_s G a v v) rfl rfl hl.1 rfl (Nat.le_of_ble_eq_true rfl) dX6_changeToes_7 ⟨Nat.le_refl _, Nat.le_refl _⟩ (fun H locs hP hD hS => ?_)
  refine lv_iload_n hx hb dX6_changeToes_10 rfl (lv_at hl 2 rfl) ?_
  refine lv_ixor hx hb dX6_changeToes_11 ?_
  obtain ⟨q196, hq196, hf⟩ := bnd hf
  refine fc_callN (Wa' := (vW G a (sA v 2 q196))) (st1 := []) (As := [.ref (a 3), .int x1, .int (q195 ^^^ x2)]) (rest := []) hCF (k_X7_put (a 3) 8 (v 2) x1 (q195 ^^^ x2) hq196) ⟨va_cnB 3 hts gX6_changeToes_X7_put_n65 rfl rfl rfl (hE.2.1 _ (List.mem_of_getElem? (i := 7) rfl)) hk_initialized_RX7 dk_X7_put ⟨Nat.le_of_ble_eq_true rfl, Nat.le_of_ble_eq_true rfl⟩, hk_static_yX7_put, trivial⟩ hE hAB hP hD hS [3] rfl (vW_ca3 G a v) (aW_f G (a 3) 8 (v 2) q196) (vW_sa3 G a v q196) rfl rfl hl.1 rfl (Nat.le_of_ble_eq_true rfl) dX6_changeToes_12 ⟨Nat.le_refl _, Nat.le_refl _⟩ (fun H locs hP hD hS => ?_)
  exact fc_retv hx hb hr hlocks hP hS dX6_changeToes_15 (congrArg (fun z => (vW G a z)) (i1 hf))
theorem dk_X6_guesses : yX6_guesses.cls ≠ "java/lang/invoke/MethodHandle" ∧ yX6_guesses.cls ≠ "java/lang/invoke/VarHandle" ∧ (parseMethodDescriptor yX6_guesses.desc).map (fun d => d.parameters.length) = some 2 := by decide +kernel
theorem iu_X6_guesses_X6 : ∀ w ∈ u_ws RX6 TX6 12, w ∈ wsX6_guesses := by decide +kernel
set_option maxHeartbeats 4000000 in
set_option maxRecDepth 100000 in
theorem k_X6_guesses {l : Launch} {G : Gx} (a : Nat → Nat) (v : St) (x1 : Int32) (x2 : Int32) {r : Int32} (hf : f_X6_guesses v x1 x2 = some r) : FC l G yX6_guesses wsX6_guesses ({ frames := 3, cells := 0, slots := 0, locals := 77 } : Room) [.ref (a 0), .int x1, .int x2] (vW G a v) (vW G a v) (some (.int r)) := by
  refine fc_head (cc := cX6_guesses) (maxL := 3) (ret := (some .int)) (C := RX6) (lv := [(0, .ref (a 0)), (1, .int x1), (2, .int x2)]) (by decide) rfl rfl (Nat.le_of_ble_eq_true rfl) rfl ?_
  intro p e s m below meth c ls A hx hb hr hml hown hts hlocks hE hP hD hAB hS hl
  have hCF : CallFix p m c cX6_guesses 3 s ([.ref (a 0), .int x1, .int x2] : List Value).toArray wsX6_guesses RX6 := ⟨hx, hb, hml, hown, hts⟩
  have hwX6 : ∀ w ∈ u_ws RX6 TX6 12, w.before ([.ref (a 0), .int x1, .int x2] : List Value).toArray s = true := fun w h => hts w (iu_X6_guesses_X6 w h)
  have hk_fieldLink_RX6_24__BrideNotKnown_Valley___lookBits____I_ := hts (.fieldLink RX6 24 "BrideNotKnown$Valley" "lookBits" "[I") (List.mem_of_getElem? (i := 1) rfl)
  have hk_initialized_RX7 := hts (.initialized RX7) (List.mem_of_getElem? (i := 3) rfl)
  have hk_static_yX7_at := hts (.static yX7_at) (List.mem_of_getElem? (i := 2) rfl)
  rw [f_X6_guesses] at hf
  refine lv_aload_n hx hb dX6_guesses_0 rfl (lv_at hl 0 rfl) ?_
  refine lv_iload_n hx hb dX6_guesses_1 rfl (lv_at hl 1 rfl) ?_
  refine lv_aload_n hx hb dX6_guesses_2 rfl (lv_at hl 0 rfl) ?_
  refine fc_get (v := .ref (a 5)) (ci := 3) (C := RX6) (T := TX6) (N := 12) hx hb hwX6 hown hE hP 0 (vW_o G a v) rfl 8 (by decide) hk_fieldLink_RX6_24__BrideNotKnown_Valley___lookBits____I_ (fun _ h => h) rfl dX6_guesses_3 ?_
  refine lv_iload_n hx hb dX6_guesses_6 rfl (lv_at hl 1 rfl) ?_
  obtain ⟨q205, hq205, hf⟩ := bnd hf
  refine fc_callN (Wa' := (vW G a v)) (st1 := [.int q205, .int x1, .ref (a 0)]) (As := [.ref (a 5), .int x1]) (rest := [.int x1, .ref (a 0)]) hCF (k_X7_at (a 5) 5 (v 4) x1 hq205) ⟨va_cnB 2 hts gX6_guesses_X7_at_n53 rfl rfl rfl (hE.2.1 _ (List.mem_of_getElem? (i := 8) rfl)) hk_initialized_RX7 dk_X7_at ⟨Nat.le_of_ble_eq_true rfl, Nat.le_of_ble_eq_true rfl⟩, hk_static_yX7_at, trivial⟩ hE hAB hP hD hS [5] rfl (vW_ca5 G a v) (aW_f G (a 5) 5 (v 4) (v 4)) (vW_ia5 G a v) rfl rfl hl.1 rfl (Nat.le_of_ble_eq_true rfl) dX6_guesses_7 ⟨Nat.le_refl _, Nat.le_refl _⟩ (fun H locs hP hD hS => ?_)
  refine lv_iload_n hx hb dX6_guesses_10 rfl (lv_at hl 2 rfl) ?_
  obtain ⟨q206, hq206, hf⟩ := bnd hf
  refine fc_callV (Wa' := (vW G a v)) (st1 := [.int q206]) (As := [.int x1, .int q205, .int x2]) (rest := []) hCF (k_X6_guessesBy a v x1 q205 x2 hq206) (cwV 3 hts gX6_guesses_X6_guessesBy rfl rfl rfl ⟨rfl, dk_X6_guessesBy⟩ ⟨Nat.le_of_ble_eq_true rfl, Nat.le_of_ble_eq_true rfl⟩) hE hAB hP hD hS [0, 1, 2, 3, 4, 5, 6, 7] vW_d (vW_c G a v) (va_recv hE.1 hP (ci := 3) (q0 := 0) rfl (vW_o G a v)) (vW_f G a v v) (vW_s G a v v) rfl rfl hl.1 rfl (Nat.le_of_ble_eq_true rfl) dX6_guesses_11 ⟨Nat.le_refl _, Nat.le_refl _⟩ (fun H locs hP hD hS => ?_)
  exact fc_reti hx hb hr hlocks hP hS dX6_guesses_14 (i1 hf) rfl
theorem dk_X6_lookOf : yX6_lookOf.cls ≠ "java/lang/invoke/MethodHandle" ∧ yX6_lookOf.cls ≠ "java/lang/invoke/VarHandle" ∧ (parseMethodDescriptor yX6_lookOf.desc).map (fun d => d.parameters.length) = some 1 := by decide +kernel
theorem iu_X6_lookOf_X6 : ∀ w ∈ u_ws RX6 TX6 12, w ∈ wsX6_lookOf := by decide +kernel
set_option maxHeartbeats 4000000 in
set_option maxRecDepth 100000 in
theorem k_X6_lookOf {l : Launch} {G : Gx} (a : Nat → Nat) (v : St) (x1 : Int32) {r : Int32} (hf : f_X6_lookOf v x1 = some r) : FC l G yX6_lookOf wsX6_lookOf ({ frames := 1, cells := 0, slots := 0, locals := 21 } : Room) [.ref (a 0), .int x1] (vW G a v) (vW G a v) (some (.int r)) := by
  refine fc_head (cc := cX6_lookOf) (maxL := 2) (ret := (some .int)) (C := RX6) (lv := [(0, .ref (a 0)), (1, .int x1)]) (by decide) rfl rfl (Nat.le_of_ble_eq_true rfl) rfl ?_
  intro p e s m below meth c ls A hx hb hr hml hown hts hlocks hE hP hD hAB hS hl
  have hCF : CallFix p m c cX6_lookOf 2 s ([.ref (a 0), .int x1] : List Value).toArray wsX6_lookOf RX6 := ⟨hx, hb, hml, hown, hts⟩
  have hwX6 : ∀ w ∈ u_ws RX6 TX6 12, w.before ([.ref (a 0), .int x1] : List Value).toArray s = true := fun w h => hts w (iu_X6_lookOf_X6 w h)
  have hk_fieldLink_RX6_24__BrideNotKnown_Valley___lookBits____I_ := hts (.fieldLink RX6 24 "BrideNotKnown$Valley" "lookBits" "[I") (List.mem_of_getElem? (i := 1) rfl)
  have hk_initialized_RX7 := hts (.initialized RX7) (List.mem_of_getElem? (i := 3) rfl)
  have hk_static_yX7_at := hts (.static yX7_at) (List.mem_of_getElem? (i := 2) rfl)
  rw [f_X6_lookOf] at hf
  refine lv_aload_n hx hb dX6_lookOf_0 rfl (lv_at hl 0 rfl) ?_
  refine fc_get (v := .ref (a 5)) (ci := 3) (C := RX6) (T := TX6) (N := 12) hx hb hwX6 hown hE hP 0 (vW_o G a v) rfl 8 (by decide) hk_fieldLink_RX6_24__BrideNotKnown_Valley___lookBits____I_ (fun _ h => h) rfl dX6_lookOf_1 ?_
  refine lv_iload_n hx hb dX6_lookOf_4 rfl (lv_at hl 1 rfl) ?_
  obtain ⟨q235, hq235, hf⟩ := bnd hf
  refine fc_callN (Wa' := (vW G a v)) (st1 := [.int q235]) (As := [.ref (a 5), .int x1]) (rest := []) hCF (k_X7_at (a 5) 5 (v 4) x1 hq235) ⟨va_cnB 2 hts gX6_lookOf_X7_at_n53 rfl rfl rfl (hE.2.1 _ (List.mem_of_getElem? (i := 8) rfl)) hk_initialized_RX7 dk_X7_at ⟨Nat.le_of_ble_eq_true rfl, Nat.le_of_ble_eq_true rfl⟩, hk_static_yX7_at, trivial⟩ hE hAB hP hD hS [5] rfl (vW_ca5 G a v) (aW_f G (a 5) 5 (v 4) (v 4)) (vW_ia5 G a v) rfl rfl hl.1 rfl (Nat.le_of_ble_eq_true rfl) dX6_lookOf_5 ⟨Nat.le_refl _, Nat.le_refl _⟩ (fun H locs hP hD hS => ?_)
  exact fc_reti hx hb hr hlocks hP hS dX6_lookOf_8 (i1 hf) rfl
theorem dk_X6_shows : yX6_shows.cls ≠ "java/lang/invoke/MethodHandle" ∧ yX6_shows.cls ≠ "java/lang/invoke/VarHandle" ∧ (parseMethodDescriptor yX6_shows.desc).map (fun d => d.parameters.length) = some 2 := by decide +kernel
theorem iu_X6_shows_X6 : ∀ w ∈ u_ws RX6 TX6 12, w ∈ wsX6_shows := by decide +kernel
set_option maxHeartbeats 4000000 in
set_option maxRecDepth 100000 in
theorem k_X6_shows {l : Launch} {G : Gx} (a : Nat → Nat) (v : St) (x1 : Int32) (x2 : Int32) {r : Int32} (hf : f_X6_shows v x1 x2 = some r) : FC l G yX6_shows wsX6_shows ({ frames := 2, cells := 0, slots := 0, locals := 49 } : Room) [.ref (a 0), .int x1, .int x2] (vW G a v) (vW G a v) (some (.int r)) := by
  refine fc_head (cc := cX6_shows) (maxL := 3) (ret := (some .int)) (C := RX6) (lv := [(0, .ref (a 0)), (1, .int x1), (2, .int x2)]) (by decide) rfl rfl (Nat.le_of_ble_eq_true rfl) rfl ?_
  intro p e s m below meth c ls A hx hb hr hml hown hts hlocks hE hP hD hAB hS hl
  have hCF : CallFix p m c cX6_shows 3 s ([.ref (a 0), .int x1, .int x2] : List Value).toArray wsX6_shows RX6 := ⟨hx, hb, hml, hown, hts⟩
  have hwX6 : ∀ w ∈ u_ws RX6 TX6 12, w.before ([.ref (a 0), .int x1, .int x2] : List Value).toArray s = true := fun w h => hts w (iu_X6_shows_X6 w h)
  have hk_fieldLink_RX6_9__BrideNotKnown_Valley___kinds____I_ := hts (.fieldLink RX6 9 "BrideNotKnown$Valley" "kinds" "[I") (List.mem_of_getElem? (i := 1) rfl)
  have hk_initialized_RX7 := hts (.initialized RX7) (List.mem_of_getElem? (i := 4) rfl)
  have hk_static_yX7_at := hts (.static yX7_at) (List.mem_of_getElem? (i := 3) rfl)
  have hk_fieldLink_RX6_15__BrideNotKnown_Valley___figures____I_ := hts (.fieldLink RX6 15 "BrideNotKnown$Valley" "figures" "[I") (List.mem_of_getElem? (i := 2) rfl)
  rw [f_X6_shows] at hf
  refine lv_aload_n hx hb dX6_shows_0 rfl (lv_at hl 0 rfl) ?_
  refine lv_iload_n hx hb dX6_shows_1 rfl (lv_at hl 1 rfl) ?_
  refine lv_aload_n hx hb dX6_shows_2 rfl (lv_at hl 0 rfl) ?_
  refine fc_get (v := .ref (a 1)) (ci := 3) (C := RX6) (T := TX6) (N := 12) hx hb hwX6 hown hE hP 0 (vW_o G a v) rfl 2 (by decide) hk_fieldLink_RX6_9__BrideNotKnown_Valley___kinds____I_ (fun _ h => h) rfl dX6_shows_3 ?_
  refine lv_iload_n hx hb dX6_shows_6 rfl (lv_at hl 1 rfl) ?_
  obtain ⟨q312, hq312, hf⟩ := bnd hf
  refine fc_callN (Wa' := (vW G a v)) (st1 := [.int q312, .int x1, .ref (a 0)]) (As := [.ref (a 1), .int x1]) (rest := [.int x1, .ref (a 0)]) hCF (k_X7_at (a 1) 8 (v 0) x1 hq312) ⟨va_cnB 2 hts gX6_shows_X7_at_n53 rfl rfl rfl (hE.2.1 _ (List.mem_of_getElem? (i := 8) rfl)) hk_initialized_RX7 dk_X7_at ⟨Nat.le_of_ble_eq_true rfl, Nat.le_of_ble_eq_true rfl⟩, hk_static_yX7_at, trivial⟩ hE hAB hP hD hS [1] rfl (vW_ca1 G a v) (aW_f G (a 1) 8 (v 0) (v 0)) (vW_ia1 G a v) rfl rfl hl.1 rfl (Nat.le_of_ble_eq_true rfl) dX6_shows_7 ⟨Nat.le_refl _, Nat.le_refl _⟩ (fun H locs hP hD hS => ?_)
  refine lv_aload_n hx hb dX6_shows_10 rfl (lv_at hl 0 rfl) ?_
  refine fc_get (v := .ref (a 2)) (ci := 3) (C := RX6) (T := TX6) (N := 12) hx hb hwX6 hown hE hP 0 (vW_o G a v) rfl 3 (by decide) hk_fieldLink_RX6_15__BrideNotKnown_Valley___figures____I_ (fun _ h => h) rfl dX6_shows_11 ?_
  refine lv_iload_n hx hb dX6_shows_14 rfl (lv_at hl 1 rfl) ?_
  obtain ⟨q313, hq313, hf⟩ := bnd hf
  refine fc_callN (Wa' := (vW G a v)) (st1 := [.int q313, .int q312, .int x1, .ref (a 0)]) (As := [.ref (a 2), .int x1]) (rest := [.int q312, .int x1, .ref (a 0)]) hCF (k_X7_at (a 2) 8 (v 1) x1 hq313) ⟨va_cnB 2 hts gX6_shows_X7_at_n53 rfl rfl rfl (hE.2.1 _ (List.mem_of_getElem? (i := 8) rfl)) hk_initialized_RX7 dk_X7_at ⟨Nat.le_of_ble_eq_true rfl, Nat.le_of_ble_eq_true rfl⟩, hk_static_yX7_at, trivial⟩ hE hAB hP hD hS [2] rfl (vW_ca2 G a v) (aW_f G (a 2) 8 (v 1) (v 1)) (vW_ia2 G a v) rfl rfl hl.1 rfl (Nat.le_of_ble_eq_true rfl) dX6_shows_15 ⟨Nat.le_refl _, Nat.le_refl _⟩ (fun H locs hP hD hS => ?_)
  refine lv_iload_n hx hb dX6_shows_18 rfl (lv_at hl 2 rfl) ?_
  obtain ⟨q314, hq314, hf⟩ := bnd hf
  refine fc_callV (Wa' := (vW G a v)) (st1 := [.int q314]) (As := [.int x1, .int q312, .int q313, .int x2]) (rest := []) hCF (k_X6_showsAs a v x1 q312 q313 x2 hq314) (cwV 4 hts gX6_shows_X6_showsAs rfl rfl rfl ⟨rfl, dk_X6_showsAs⟩ ⟨Nat.le_of_ble_eq_true rfl, Nat.le_of_ble_eq_true rfl⟩) hE hAB hP hD hS [0, 1, 2, 3, 4, 5, 6, 7] vW_d (vW_c G a v) (va_recv hE.1 hP (ci := 3) (q0 := 0) rfl (vW_o G a v)) (vW_f G a v v) (vW_s G a v v) rfl rfl hl.1 rfl (Nat.le_of_ble_eq_true rfl) dX6_shows_19 ⟨Nat.le_refl _, Nat.le_refl _⟩ (fun H locs hP hD hS => ?_)
  exact fc_reti hx hb hr hlocks hP hS dX6_shows_22 (i1 hf) rfl
theorem dk_X6_choiceFrom : yX6_choiceFrom.cls ≠ "java/lang/invoke/MethodHandle" ∧ yX6_choiceFrom.cls ≠ "java/lang/invoke/VarHandle" ∧ (parseMethodDescriptor yX6_choiceFrom.desc).map (fun d => d.parameters.length) = some 1 := by decide +kernel
set_option maxHeartbeats 4000000 in
set_option maxRecDepth 100000 in
theorem k_X6_choiceFrom {l : Launch} {G : Gx} (a : Nat → Nat) (v : St) (x1 : Int32) {r : Int32} (hf : f_X6_choiceFrom v x1 = some r) : FC l G yX6_choiceFrom wsX6_choiceFrom ({ frames := 2, cells := 0, slots := 0, locals := 44 } : Room) [.ref (a 0), .int x1] (vW G a v) (vW G a v) (some (.int r)) := by
  refine fc_head (cc := cX6_choiceFrom) (maxL := 2) (ret := (some .int)) (C := RX6) (lv := [(0, .ref (a 0)), (1, .int x1)]) (by decide) rfl rfl (Nat.le_of_ble_eq_true rfl) rfl ?_
  intro p e s m below meth c ls A hx hb hr hml hown hts hlocks hE hP hD hAB hS hl
  have hCF : CallFix p m c cX6_choiceFrom 2 s ([.ref (a 0), .int x1] : List Value).toArray wsX6_choiceFrom RX6 := ⟨hx, hb, hml, hown, hts⟩
  rw [f_X6_choiceFrom] at hf
  refine lv_iload_n hx hb dX6_choiceFrom_0 rfl (lv_at hl 1 rfl) ?_
  refine lv_if_eq (tgt := 8) hx hb dX6_choiceFrom_1 (by decide) (fun c432 => ?_) (fun c432 => ?_)
  · have hf := ifT hf c432
    refine lv_aload_n hx hb dX6_choiceFrom_8 rfl (lv_at hl 0 rfl) ?_
    refine lv_iconst (v := (0 : Int32)) hx hb dX6_choiceFrom_9 (by decide) ?_
    obtain ⟨q433, hq433, hf⟩ := bnd hf
    refine fc_callV (Wa' := (vW G a v)) (st1 := [.int q433]) (As := [.int (0 : Int32)]) (rest := []) hCF (k_X6_hereThen a v (0 : Int32) hq433) (cwV 1 hts gX6_choiceFrom_X6_hereThen rfl rfl rfl ⟨rfl, dk_X6_hereThen⟩ ⟨Nat.le_of_ble_eq_true rfl, Nat.le_of_ble_eq_true rfl⟩) hE hAB hP hD hS [0, 1, 2, 3, 4, 5, 6, 7] vW_d (vW_c G a v) (va_recv hE.1 hP (ci := 3) (q0 := 0) rfl (vW_o G a v)) (vW_f G a v v) (vW_s G a v v) rfl rfl hl.1 rfl (Nat.le_of_ble_eq_true rfl) dX6_choiceFrom_10 ⟨Nat.le_refl _, Nat.le_refl _⟩ (fun H locs hP hD hS => ?_)
    exact fc_reti hx hb hr hlocks hP hS dX6_choiceFrom_13 (i1 hf) rfl
  · have hf := ifF hf c432
    refine lv_iload_n hx hb dX6_choiceFrom_4 rfl (lv_at hl 1 rfl) ?_
    refine lv_goto (tgt := 13) hx hb dX6_choiceFrom_5 (by decide) ?_
    exact fc_reti hx hb hr hlocks hP hS dX6_choiceFrom_13 (i1 hf) rfl
theorem dk_X6_choiceOf : yX6_choiceOf.cls ≠ "java/lang/invoke/MethodHandle" ∧ yX6_choiceOf.cls ≠ "java/lang/invoke/VarHandle" ∧ (parseMethodDescriptor yX6_choiceOf.desc).map (fun d => d.parameters.length) = some 1 := by decide +kernel
set_option maxHeartbeats 4000000 in
set_option maxRecDepth 100000 in
theorem k_X6_choiceOf {l : Launch} {G : Gx} (a : Nat → Nat) (v : St) (x1 : Int32) {r : Int32} (hf : f_X6_choiceOf v x1 = some r) : FC l G yX6_choiceOf wsX6_choiceOf ({ frames := 4, cells := 0, slots := 0, locals := 99 } : Room) [.ref (a 0), .int x1] (vW G a v) (vW G a v) (some (.int r)) := by
  refine fc_head (cc := cX6_choiceOf) (maxL := 2) (ret := (some .int)) (C := RX6) (lv := [(0, .ref (a 0)), (1, .int x1)]) (by decide) rfl rfl (Nat.le_of_ble_eq_true rfl) rfl ?_
  intro p e s m below meth c ls A hx hb hr hml hown hts hlocks hE hP hD hAB hS hl
  have hCF : CallFix p m c cX6_choiceOf 2 s ([.ref (a 0), .int x1] : List Value).toArray wsX6_choiceOf RX6 := ⟨hx, hb, hml, hown, hts⟩
  rw [f_X6_choiceOf] at hf
  refine lv_aload_n hx hb dX6_choiceOf_0 rfl (lv_at hl 0 rfl) ?_
  refine lv_aload_n hx hb dX6_choiceOf_1 rfl (lv_at hl 0 rfl) ?_
  refine lv_iload_n hx hb dX6_choiceOf_2 rfl (lv_at hl 1 rfl) ?_
  refine lv_iconst (v := (0 : Int32)) hx hb dX6_choiceOf_3 (by decide) ?_
  obtain ⟨q436, hq436, hf⟩ := bnd hf
  refine fc_callV (Wa' := (vW G a v)) (st1 := [.int q436, .ref (a 0)]) (As := [.int x1, .int (0 : Int32)]) (rest := [.ref (a 0)]) hCF (k_X6_guesses a v x1 (0 : Int32) hq436) (cwV 2 hts gX6_choiceOf_X6_guesses rfl rfl rfl ⟨rfl, dk_X6_guesses⟩ ⟨Nat.le_of_ble_eq_true rfl, Nat.le_of_ble_eq_true rfl⟩) hE hAB hP hD hS [0, 1, 2, 3, 4, 5, 6, 7] vW_d (vW_c G a v) (va_recv hE.1 hP (ci := 3) (q0 := 0) rfl (vW_o G a v)) (vW_f G a v v) (vW_s G a v v) rfl rfl hl.1 rfl (Nat.le_of_ble_eq_true rfl) dX6_choiceOf_4 ⟨Nat.le_refl _, Nat.le_refl _⟩ (fun H locs hP hD hS => ?_)
  obtain ⟨q437, hq437, hf⟩ := bnd hf
  refine fc_callV (Wa' := (vW G a v)) (st1 := [.int q437]) (As := [.int q436]) (rest := []) hCF (k_X6_choiceFrom a v q436 hq437) (cwV 1 hts gX6_choiceOf_X6_choiceFrom rfl rfl rfl ⟨rfl, dk_X6_choiceFrom⟩ ⟨Nat.le_of_ble_eq_true rfl, Nat.le_of_ble_eq_true rfl⟩) hE hAB hP hD hS [0, 1, 2, 3, 4, 5, 6, 7] vW_d (vW_c G a v) (va_recv hE.1 hP (ci := 3) (q0 := 0) rfl (vW_o G a v)) (vW_f G a v v) (vW_s G a v v) rfl rfl hl.1 rfl (Nat.le_of_ble_eq_true rfl) dX6_choiceOf_7 ⟨Nat.le_refl _, Nat.le_refl _⟩ (fun H locs hP hD hS => ?_)
  exact fc_reti hx hb hr hlocks hP hS dX6_choiceOf_10 (i1 hf) rfl
theorem dk_X6_kindOf : yX6_kindOf.cls ≠ "java/lang/invoke/MethodHandle" ∧ yX6_kindOf.cls ≠ "java/lang/invoke/VarHandle" ∧ (parseMethodDescriptor yX6_kindOf.desc).map (fun d => d.parameters.length) = some 1 := by decide +kernel
theorem iu_X6_kindOf_X6 : ∀ w ∈ u_ws RX6 TX6 12, w ∈ wsX6_kindOf := by decide +kernel
set_option maxHeartbeats 4000000 in
set_option maxRecDepth 100000 in
theorem k_X6_kindOf {l : Launch} {G : Gx} (a : Nat → Nat) (v : St) (x1 : Int32) {r : Int32} (hf : f_X6_kindOf v x1 = some r) : FC l G yX6_kindOf wsX6_kindOf ({ frames := 1, cells := 0, slots := 0, locals := 21 } : Room) [.ref (a 0), .int x1] (vW G a v) (vW G a v) (some (.int r)) := by
  refine fc_head (cc := cX6_kindOf) (maxL := 2) (ret := (some .int)) (C := RX6) (lv := [(0, .ref (a 0)), (1, .int x1)]) (by decide) rfl rfl (Nat.le_of_ble_eq_true rfl) rfl ?_
  intro p e s m below meth c ls A hx hb hr hml hown hts hlocks hE hP hD hAB hS hl
  have hCF : CallFix p m c cX6_kindOf 2 s ([.ref (a 0), .int x1] : List Value).toArray wsX6_kindOf RX6 := ⟨hx, hb, hml, hown, hts⟩
  have hwX6 : ∀ w ∈ u_ws RX6 TX6 12, w.before ([.ref (a 0), .int x1] : List Value).toArray s = true := fun w h => hts w (iu_X6_kindOf_X6 w h)
  have hk_fieldLink_RX6_9__BrideNotKnown_Valley___kinds____I_ := hts (.fieldLink RX6 9 "BrideNotKnown$Valley" "kinds" "[I") (List.mem_of_getElem? (i := 1) rfl)
  have hk_initialized_RX7 := hts (.initialized RX7) (List.mem_of_getElem? (i := 3) rfl)
  have hk_static_yX7_at := hts (.static yX7_at) (List.mem_of_getElem? (i := 2) rfl)
  rw [f_X6_kindOf] at hf
  refine lv_aload_n hx hb dX6_kindOf_0 rfl (lv_at hl 0 rfl) ?_
  refine fc_get (v := .ref (a 1)) (ci := 3) (C := RX6) (T := TX6) (N := 12) hx hb hwX6 hown hE hP 0 (vW_o G a v) rfl 2 (by decide) hk_fieldLink_RX6_9__BrideNotKnown_Valley___kinds____I_ (fun _ h => h) rfl dX6_kindOf_1 ?_
  refine lv_iload_n hx hb dX6_kindOf_4 rfl (lv_at hl 1 rfl) ?_
  obtain ⟨q525, hq525, hf⟩ := bnd hf
  refine fc_callN (Wa' := (vW G a v)) (st1 := [.int q525]) (As := [.ref (a 1), .int x1]) (rest := []) hCF (k_X7_at (a 1) 8 (v 0) x1 hq525) ⟨va_cnB 2 hts gX6_kindOf_X7_at_n53 rfl rfl rfl (hE.2.1 _ (List.mem_of_getElem? (i := 8) rfl)) hk_initialized_RX7 dk_X7_at ⟨Nat.le_of_ble_eq_true rfl, Nat.le_of_ble_eq_true rfl⟩, hk_static_yX7_at, trivial⟩ hE hAB hP hD hS [1] rfl (vW_ca1 G a v) (aW_f G (a 1) 8 (v 0) (v 0)) (vW_ia1 G a v) rfl rfl hl.1 rfl (Nat.le_of_ble_eq_true rfl) dX6_kindOf_5 ⟨Nat.le_refl _, Nat.le_refl _⟩ (fun H locs hP hD hS => ?_)
  exact fc_reti hx hb hr hlocks hP hS dX6_kindOf_8 (i1 hf) rfl
theorem dk_X6_hasGroom : yX6_hasGroom.cls ≠ "java/lang/invoke/MethodHandle" ∧ yX6_hasGroom.cls ≠ "java/lang/invoke/VarHandle" ∧ (parseMethodDescriptor yX6_hasGroom.desc).map (fun d => d.parameters.length) = some 1 := by decide +kernel
theorem iu_X6_hasGroom_X6 : ∀ w ∈ u_ws RX6 TX6 12, w ∈ wsX6_hasGroom := by decide +kernel
set_option maxHeartbeats 4000000 in
set_option maxRecDepth 100000 in
theorem k_X6_hasGroom {l : Launch} {G : Gx} (a : Nat → Nat) (v : St) (x1 : Int32) {r : Int32} (hf : f_X6_hasGroom v x1 = some r) : FC l G yX6_hasGroom wsX6_hasGroom ({ frames := 0, cells := 0, slots := 0, locals := 0 } : Room) [.ref (a 0), .int x1] (vW G a v) (vW G a v) (some (.int r)) := by
  refine fc_head (cc := cX6_hasGroom) (maxL := 2) (ret := (some .boolean)) (C := RX6) (lv := [(0, .ref (a 0)), (1, .int x1)]) (by decide) rfl rfl (Nat.le_of_ble_eq_true rfl) rfl ?_
  intro p e s m below meth c ls A hx hb hr hml hown hts hlocks hE hP hD hAB hS hl
  have hCF : CallFix p m c cX6_hasGroom 2 s ([.ref (a 0), .int x1] : List Value).toArray wsX6_hasGroom RX6 := ⟨hx, hb, hml, hown, hts⟩
  have hwX6 : ∀ w ∈ u_ws RX6 TX6 12, w.before ([.ref (a 0), .int x1] : List Value).toArray s = true := fun w h => hts w (iu_X6_hasGroom_X6 w h)
  have hk_fieldLink_RX6_47__BrideNotKnown_Valley___groomCount___I_ := hts (.fieldLink RX6 47 "BrideNotKnown$Valley" "groomCount" "I") (List.mem_of_getElem? (i := 1) rfl)
  rw [f_X6_hasGroom] at hf
  refine lv_iload_n hx hb dX6_hasGroom_0 rfl (lv_at hl 1 rfl) ?_
  refine lv_if_lt (tgt := 16) hx hb dX6_hasGroom_1 (by decide) (fun c543 => ?_) (fun c543 => ?_)
  · have hf := ifT hf c543
    refine lv_iconst (v := (0 : Int32)) hx hb dX6_hasGroom_16 (by decide) ?_
    exact fc_retz hx hb hr hlocks hP hS dX6_hasGroom_17 (by decide) (i1 hf) rfl
  · have hf := ifF hf c543
    refine lv_iload_n hx hb dX6_hasGroom_4 rfl (lv_at hl 1 rfl) ?_
    refine lv_aload_n hx hb dX6_hasGroom_5 rfl (lv_at hl 0 rfl) ?_
    refine fc_get (v := .int (v 7 3)) (ci := 3) (C := RX6) (T := TX6) (N := 12) hx hb hwX6 hown hE hP 0 (vW_o G a v) rfl 7 (by decide) hk_fieldLink_RX6_47__BrideNotKnown_Valley___groomCount___I_ (fun _ h => h) rfl dX6_hasGroom_6 ?_
    refine lv_icmp_ge (tgt := 16) hx hb dX6_hasGroom_9 (by decide) (fun c544 => ?_) (fun c544 => ?_)
    · have hf := ifT hf c544
      refine lv_iconst (v := (0 : Int32)) hx hb dX6_hasGroom_16 (by decide) ?_
      exact fc_retz hx hb hr hlocks hP hS dX6_hasGroom_17 (by decide) (i1 hf) rfl
    · have hf := ifF hf c544
      refine lv_iconst (v := (1 : Int32)) hx hb dX6_hasGroom_12 (by decide) ?_
      refine lv_goto (tgt := 17) hx hb dX6_hasGroom_13 (by decide) ?_
      exact fc_retz hx hb hr hlocks hP hS dX6_hasGroom_17 (by decide) (i1 hf) rfl
theorem dk_X6_figureOf : yX6_figureOf.cls ≠ "java/lang/invoke/MethodHandle" ∧ yX6_figureOf.cls ≠ "java/lang/invoke/VarHandle" ∧ (parseMethodDescriptor yX6_figureOf.desc).map (fun d => d.parameters.length) = some 1 := by decide +kernel
theorem iu_X6_figureOf_X6 : ∀ w ∈ u_ws RX6 TX6 12, w ∈ wsX6_figureOf := by decide +kernel
set_option maxHeartbeats 4000000 in
set_option maxRecDepth 100000 in
theorem k_X6_figureOf {l : Launch} {G : Gx} (a : Nat → Nat) (v : St) (x1 : Int32) {r : Int32} (hf : f_X6_figureOf v x1 = some r) : FC l G yX6_figureOf wsX6_figureOf ({ frames := 1, cells := 0, slots := 0, locals := 21 } : Room) [.ref (a 0), .int x1] (vW G a v) (vW G a v) (some (.int r)) := by
  refine fc_head (cc := cX6_figureOf) (maxL := 2) (ret := (some .int)) (C := RX6) (lv := [(0, .ref (a 0)), (1, .int x1)]) (by decide) rfl rfl (Nat.le_of_ble_eq_true rfl) rfl ?_
  intro p e s m below meth c ls A hx hb hr hml hown hts hlocks hE hP hD hAB hS hl
  have hCF : CallFix p m c cX6_figureOf 2 s ([.ref (a 0), .int x1] : List Value).toArray wsX6_figureOf RX6 := ⟨hx, hb, hml, hown, hts⟩
  have hwX6 : ∀ w ∈ u_ws RX6 TX6 12, w.before ([.ref (a 0), .int x1] : List Value).toArray s = true := fun w h => hts w (iu_X6_figureOf_X6 w h)
  have hk_fieldLink_RX6_15__BrideNotKnown_Valley___figures____I_ := hts (.fieldLink RX6 15 "BrideNotKnown$Valley" "figures" "[I") (List.mem_of_getElem? (i := 1) rfl)
  have hk_initialized_RX7 := hts (.initialized RX7) (List.mem_of_getElem? (i := 3) rfl)
  have hk_static_yX7_at := hts (.static yX7_at) (List.mem_of_getElem? (i := 2) rfl)
  rw [f_X6_figureOf] at hf
  refine lv_aload_n hx hb dX6_figureOf_0 rfl (lv_at hl 0 rfl) ?_
  refine fc_get (v := .ref (a 2)) (ci := 3) (C := RX6) (T := TX6) (N := 12) hx hb hwX6 hown hE hP 0 (vW_o G a v) rfl 3 (by decide) hk_fieldLink_RX6_15__BrideNotKnown_Valley___figures____I_ (fun _ h => h) rfl dX6_figureOf_1 ?_
  refine lv_iload_n hx hb dX6_figureOf_4 rfl (lv_at hl 1 rfl) ?_
  obtain ⟨q576, hq576, hf⟩ := bnd hf
  refine fc_callN (Wa' := (vW G a v)) (st1 := [.int q576]) (As := [.ref (a 2), .int x1]) (rest := []) hCF (k_X7_at (a 2) 8 (v 1) x1 hq576) ⟨va_cnB 2 hts gX6_figureOf_X7_at_n53 rfl rfl rfl (hE.2.1 _ (List.mem_of_getElem? (i := 8) rfl)) hk_initialized_RX7 dk_X7_at ⟨Nat.le_of_ble_eq_true rfl, Nat.le_of_ble_eq_true rfl⟩, hk_static_yX7_at, trivial⟩ hE hAB hP hD hS [2] rfl (vW_ca2 G a v) (aW_f G (a 2) 8 (v 1) (v 1)) (vW_ia2 G a v) rfl rfl hl.1 rfl (Nat.le_of_ble_eq_true rfl) dX6_figureOf_5 ⟨Nat.le_refl _, Nat.le_refl _⟩ (fun H locs hP hD hS => ?_)
  exact fc_reti hx hb hr hlocks hP hS dX6_figureOf_8 (i1 hf) rfl
theorem dk_X6_setKind : yX6_setKind.cls ≠ "java/lang/invoke/MethodHandle" ∧ yX6_setKind.cls ≠ "java/lang/invoke/VarHandle" ∧ (parseMethodDescriptor yX6_setKind.desc).map (fun d => d.parameters.length) = some 3 := by decide +kernel
theorem iu_X6_setKind_X6 : ∀ w ∈ u_ws RX6 TX6 12, w ∈ wsX6_setKind := by decide +kernel
set_option maxHeartbeats 4000000 in
set_option maxRecDepth 100000 in
theorem k_X6_setKind {l : Launch} {G : Gx} (a : Nat → Nat) (v : St) (x1 : Int32) (x2 : Int32) (x3 : Int32) {v' : St} (hf : f_X6_setKind v x1 x2 x3 = some v') : FC l G yX6_setKind wsX6_setKind ({ frames := 1, cells := 0, slots := 0, locals := 22 } : Room) [.ref (a 0), .int x1, .int x2, .int x3] (vW G a v) (vW G a v') none := by
  refine fc_head (cc := cX6_setKind) (maxL := 4) (ret := none) (C := RX6) (lv := [(0, .ref (a 0)), (1, .int x1), (2, .int x2), (3, .int x3)]) (by decide) rfl rfl (Nat.le_of_ble_eq_true rfl) rfl ?_
  intro p e s m below meth c ls A hx hb hr hml hown hts hlocks hE hP hD hAB hS hl
  have hCF : CallFix p m c cX6_setKind 4 s ([.ref (a 0), .int x1, .int x2, .int x3] : List Value).toArray wsX6_setKind RX6 := ⟨hx, hb, hml, hown, hts⟩
  have hwX6 : ∀ w ∈ u_ws RX6 TX6 12, w.before ([.ref (a 0), .int x1, .int x2, .int x3] : List Value).toArray s = true := fun w h => hts w (iu_X6_setKind_X6 w h)
  have hk_fieldLink_RX6_9__BrideNotKnown_Valley___kinds____I_ := hts (.fieldLink RX6 9 "BrideNotKnown$Valley" "kinds" "[I") (List.mem_of_getElem? (i := 1) rfl)
  have hk_initialized_RX7 := hts (.initialized RX7) (List.mem_of_getElem? (i := 4) rfl)
  have hk_static_yX7_put := hts (.static yX7_put) (List.mem_of_getElem? (i := 3) rfl)
  have hk_fieldLink_RX6_15__BrideNotKnown_Valley___figures____I_ := hts (.fieldLink RX6 15 "BrideNotKnown$Valley" "figures" "[I") (List.mem_of_getElem? (i := 2) rfl)
  rw [f_X6_setKind] at hf
  refine lv_aload_n hx hb dX6_setKind_0 rfl (lv_at hl 0 rfl) ?_
  refine fc_get (v := .ref (a 1)) (ci := 3) (C := RX6) (T := TX6) (N := 12) hx hb hwX6 hown hE hP 0 (vW_o G a v) rfl 2 (by decide) hk_fieldLink_RX6_9__BrideNotKnown_Valley___kinds____I_ (fun _ h => h) rfl dX6_setKind_1 ?_
  refine lv_iload_n hx hb dX6_setKind_4 rfl (lv_at hl 1 rfl) ?_
  refine lv_iload_n hx hb dX6_setKind_5 rfl (lv_at hl 2 rfl) ?_
  obtain ⟨q643, hq643, hf⟩ := bnd hf
  refine fc_callN (Wa' := (vW G a (sA v 0 q643))) (st1 := []) (As := [.ref (a 1), .int x1, .int x2]) (rest := []) hCF (k_X7_put (a 1) 8 (v 0) x1 x2 hq643) ⟨va_cnB 3 hts gX6_setKind_X7_put_n65 rfl rfl rfl (hE.2.1 _ (List.mem_of_getElem? (i := 7) rfl)) hk_initialized_RX7 dk_X7_put ⟨Nat.le_of_ble_eq_true rfl, Nat.le_of_ble_eq_true rfl⟩, hk_static_yX7_put, trivial⟩ hE hAB hP hD hS [1] rfl (vW_ca1 G a v) (aW_f G (a 1) 8 (v 0) q643) (vW_sa1 G a v q643) rfl rfl hl.1 rfl (Nat.le_of_ble_eq_true rfl) dX6_setKind_6 ⟨Nat.le_refl _, Nat.le_refl _⟩ (fun H locs hP hD hS => ?_)
  refine lv_aload_n hx hb dX6_setKind_9 rfl (lv_at hl 0 rfl) ?_
  refine fc_get (v := .ref (a 2)) (ci := 3) (C := RX6) (T := TX6) (N := 12) hx hb hwX6 hown hE hP 0 (vW_o G a (sA v 0 q643)) rfl 3 (by decide) hk_fieldLink_RX6_15__BrideNotKnown_Valley___figures____I_ (fun _ h => h) rfl dX6_setKind_10 ?_
  refine lv_iload_n hx hb dX6_setKind_13 rfl (lv_at hl 1 rfl) ?_
  refine lv_iload_n hx hb dX6_setKind_14 rfl (lv_at hl 3 rfl) ?_
  obtain ⟨q644, hq644, hf⟩ := bnd hf
  refine fc_callN (Wa' := (vW G a (sA (sA v 0 q643) 1 q644))) (st1 := []) (As := [.ref (a 2), .int x1, .int x3]) (rest := []) hCF (k_X7_put (a 2) 8 (v 1) x1 x3 hq644) ⟨va_cnB 3 hts gX6_setKind_X7_put_n65 rfl rfl rfl (hE.2.1 _ (List.mem_of_getElem? (i := 7) rfl)) hk_initialized_RX7 dk_X7_put ⟨Nat.le_of_ble_eq_true rfl, Nat.le_of_ble_eq_true rfl⟩, hk_static_yX7_put, trivial⟩ hE hAB hP hD hS [2] rfl (vW_ca2 G a (sA v 0 q643)) (aW_f G (a 2) 8 (v 1) q644) (vW_sa2 G a (sA v 0 q643) q644) rfl rfl hl.1 rfl (Nat.le_of_ble_eq_true rfl) dX6_setKind_15 ⟨Nat.le_refl _, Nat.le_refl _⟩ (fun H locs hP hD hS => ?_)
  exact fc_retv hx hb hr hlocks hP hS dX6_setKind_18 (congrArg (fun z => (vW G a z)) (i1 hf))
theorem dk_X6_addBride : yX6_addBride.cls ≠ "java/lang/invoke/MethodHandle" ∧ yX6_addBride.cls ≠ "java/lang/invoke/VarHandle" ∧ (parseMethodDescriptor yX6_addBride.desc).map (fun d => d.parameters.length) = some 3 := by decide +kernel
theorem iu_X6_addBride_X6 : ∀ w ∈ u_ws RX6 TX6 12, w ∈ wsX6_addBride := by decide +kernel
set_option maxHeartbeats 4000000 in
set_option maxRecDepth 100000 in
theorem k_X6_addBride {l : Launch} {G : Gx} (a : Nat → Nat) (v : St) (x1 : Int32) (x2 : Int32) (x3 : Int32) {r : Int32} {v' : St} (hf : f_X6_addBride v x1 x2 x3 = some (r, v')) : FC l G yX6_addBride wsX6_addBride ({ frames := 2, cells := 0, slots := 0, locals := 45 } : Room) [.ref (a 0), .int x1, .int x2, .int x3] (vW G a v) (vW G a v') (some (.int r)) := by
  refine fc_head (cc := cX6_addBride) (maxL := 4) (ret := (some .boolean)) (C := RX6) (lv := [(0, .ref (a 0)), (1, .int x1), (2, .int x2), (3, .int x3)]) (by decide) rfl rfl (Nat.le_of_ble_eq_true rfl) rfl ?_
  intro p e s m below meth c ls A hx hb hr hml hown hts hlocks hE hP hD hAB hS hl
  have hCF : CallFix p m c cX6_addBride 4 s ([.ref (a 0), .int x1, .int x2, .int x3] : List Value).toArray wsX6_addBride RX6 := ⟨hx, hb, hml, hown, hts⟩
  have hwX6 : ∀ w ∈ u_ws RX6 TX6 12, w.before ([.ref (a 0), .int x1, .int x2, .int x3] : List Value).toArray s = true := fun w h => hts w (iu_X6_addBride_X6 w h)
  have hk_fieldLink_RX6_37__BrideNotKnown_Valley___brideCount___I_ := hts (.fieldLink RX6 37 "BrideNotKnown$Valley" "brideCount" "I") (List.mem_of_getElem? (i := 1) rfl)
  have hk_fieldLink_RX6_18__BrideNotKnown_Valley___feet____I_ := hts (.fieldLink RX6 18 "BrideNotKnown$Valley" "feet" "[I") (List.mem_of_getElem? (i := 2) rfl)
  have hk_initialized_RX7 := hts (.initialized RX7) (List.mem_of_getElem? (i := 11) rfl)
  have hk_static_yX7_put := hts (.static yX7_put) (List.mem_of_getElem? (i := 10) rfl)
  rw [f_X6_addBride] at hf
  refine lv_aload_n hx hb dX6_addBride_0 rfl (lv_at hl 0 rfl) ?_
  refine fc_get (v := .int (v 7 1)) (ci := 3) (C := RX6) (T := TX6) (N := 12) hx hb hwX6 hown hE hP 0 (vW_o G a v) rfl 1 (by decide) hk_fieldLink_RX6_37__BrideNotKnown_Valley___brideCount___I_ (fun _ h => h) rfl dX6_addBride_1 ?_
  refine lv_bipush (v := (8 : Int32)) hx hb dX6_addBride_4 (by decide) ?_
  refine lv_icmp_ge (tgt := 15) hx hb dX6_addBride_6 (by decide) (fun c647 => ?_) (fun c647 => ?_)
  · have hf := ifT hf c647
    refine lv_iconst (v := (0 : Int32)) hx hb dX6_addBride_15 (by decide) ?_
    exact fc_retz hx hb hr hlocks hP hS dX6_addBride_16 (by decide) (i2a hf) (congrArg (fun z => (vW G a z)) (i2b hf))
  · have hf := ifF hf c647
    refine lv_iload_n hx hb dX6_addBride_9 rfl (lv_at hl 3 rfl) ?_
    refine lv_bipush (v := (63 : Int32)) hx hb dX6_addBride_10 (by decide) ?_
    refine lv_icmp_le (tgt := 17) hx hb dX6_addBride_12 (by decide) (fun c648 => ?_) (fun c648 => ?_)
    · have hf := ifT hf c648
      refine lv_aload_n hx hb dX6_addBride_17 rfl (lv_at hl 0 rfl) ?_
      refine lv_aload_n hx hb dX6_addBride_18 rfl (lv_at hl 0 rfl) ?_
      refine fc_get (v := .int (v 7 1)) (ci := 3) (C := RX6) (T := TX6) (N := 12) hx hb hwX6 hown hE hP 0 (vW_o G a v) rfl 1 (by decide) hk_fieldLink_RX6_37__BrideNotKnown_Valley___brideCount___I_ (fun _ h => h) rfl dX6_addBride_19 ?_
      refine lv_iload_n hx hb dX6_addBride_22 rfl (lv_at hl 1 rfl) ?_
      refine lv_iload_n hx hb dX6_addBride_23 rfl (lv_at hl 2 rfl) ?_
      obtain ⟨q649, hq649, hf⟩ := bnd hf
      refine fc_callV (Wa' := (vW G a q649)) (st1 := []) (As := [.int (v 7 1), .int x1, .int x2]) (rest := []) hCF (k_X6_setKind a v (v 7 1) x1 x2 hq649) (cwV 3 hts gX6_addBride_X6_setKind rfl rfl rfl ⟨rfl, dk_X6_setKind⟩ ⟨Nat.le_of_ble_eq_true rfl, Nat.le_of_ble_eq_true rfl⟩) hE hAB hP hD hS [0, 1, 2, 3, 4, 5, 6, 7] vW_d (vW_c G a v) (va_recv hE.1 hP (ci := 3) (q0 := 0) rfl (vW_o G a v)) (vW_f G a v q649) (vW_s G a v q649) rfl rfl hl.1 rfl (Nat.le_of_ble_eq_true rfl) dX6_addBride_24 ⟨Nat.le_refl _, Nat.le_refl _⟩ (fun H locs hP hD hS => ?_)
      refine lv_aload_n hx hb dX6_addBride_27 rfl (lv_at hl 0 rfl) ?_
      refine fc_get (v := .ref (a 3)) (ci := 3) (C := RX6) (T := TX6) (N := 12) hx hb hwX6 hown hE hP 0 (vW_o G a q649) rfl 4 (by decide) hk_fieldLink_RX6_18__BrideNotKnown_Valley___feet____I_ (fun _ h => h) rfl dX6_addBride_28 ?_
      refine lv_aload_n hx hb dX6_addBride_31 rfl (lv_at hl 0 rfl) ?_
      refine fc_get (v := .int (q649 7 1)) (ci := 3) (C := RX6) (T := TX6) (N := 12) hx hb hwX6 hown hE hP 0 (vW_o G a q649) rfl 1 (by decide) hk_fieldLink_RX6_37__BrideNotKnown_Valley___brideCount___I_ (fun _ h => h) rfl dX6_addBride_32 ?_
      refine lv_iload_n hx hb dX6_addBride_35 rfl (lv_at hl 3 rfl) ?_
      obtain ⟨q650, hq650, hf⟩ := bnd hf
      refine fc_callN (Wa' := (vW G a (sA q649 2 q650))) (st1 := []) (As := [.ref (a 3), .int (q649 7 1), .int x3]) (rest := []) hCF (k_X7_put (a 3) 8 (q649 2) (q649 7 1) x3 hq650) ⟨va_cnB 3 hts gX6_addBride_X7_put_n65 rfl rfl rfl (hE.2.1 _ (List.mem_of_getElem? (i := 7) rfl)) hk_initialized_RX7 dk_X7_put ⟨Nat.le_of_ble_eq_true rfl, Nat.le_of_ble_eq_true rfl⟩, hk_static_yX7_put, trivial⟩ hE hAB hP hD hS [3] rfl (vW_ca3 G a q649) (aW_f G (a 3) 8 (q649 2) q650) (vW_sa3 G a q649 q650) rfl rfl hl.1 rfl (Nat.le_of_ble_eq_true rfl) dX6_addBride_36 ⟨Nat.le_refl _, Nat.le_refl _⟩ (fun H locs hP hD hS => ?_)
      refine lv_aload_n hx hb dX6_addBride_39 rfl (lv_at hl 0 rfl) ?_
      refine lv_dup hx hb dX6_addBride_40 rfl ?_
      refine fc_get (v := .int (q649 7 1)) (ci := 3) (C := RX6) (T := TX6) (N := 12) hx hb hwX6 hown hE hP 0 (vW_o G a (sA q649 2 q650)) rfl 1 (by decide) hk_fieldLink_RX6_37__BrideNotKnown_Valley___brideCount___I_ (fun _ h => h) rfl dX6_addBride_41 ?_
      refine lv_iconst (v := (1 : Int32)) hx hb dX6_addBride_44 (by decide) ?_
      refine lv_iadd hx hb dX6_addBride_45 ?_
      refine fc_put (Wa' := (vW G a (sA (sA q649 2 q650) 7 (upd (q649 7) 1 ((q649 7 1) + (1 : Int32)))))) (ci := 3) (C := RX6) (T := TX6) (N := 12) hx hb hwX6 tyX6 tyX6_ok nmX6 hown hE hP hD hS 0 (vW_o G a (sA q649 2 q650)) rfl 1 (by decide) hk_fieldLink_RX6_37__BrideNotKnown_Valley___brideCount___I_ (fun _ h => h) rfl rfl rfl (Nat.le_of_ble_eq_true rfl) dX6_addBride_46 (vW_p1 G a (sA q649 2 q650) ((q649 7 1) + (1 : Int32))) (fun H locs hP hD hS => ?_)
      refine lv_iconst (v := (1 : Int32)) hx hb dX6_addBride_49 (by decide) ?_
      exact fc_retz hx hb hr hlocks hP hS dX6_addBride_50 (by decide) (i2a hf) (congrArg (fun z => (vW G a z)) (i2b hf))
    · have hf := ifF hf c648
      refine lv_iconst (v := (0 : Int32)) hx hb dX6_addBride_15 (by decide) ?_
      exact fc_retz hx hb hr hlocks hP hS dX6_addBride_16 (by decide) (i2a hf) (congrArg (fun z => (vW G a z)) (i2b hf))
theorem dk_X6_setLook : yX6_setLook.cls ≠ "java/lang/invoke/MethodHandle" ∧ yX6_setLook.cls ≠ "java/lang/invoke/VarHandle" ∧ (parseMethodDescriptor yX6_setLook.desc).map (fun d => d.parameters.length) = some 2 := by decide +kernel
theorem iu_X6_setLook_X6 : ∀ w ∈ u_ws RX6 TX6 12, w ∈ wsX6_setLook := by decide +kernel
set_option maxHeartbeats 4000000 in
set_option maxRecDepth 100000 in
theorem k_X6_setLook {l : Launch} {G : Gx} (a : Nat → Nat) (v : St) (x1 : Int32) (x2 : Int32) {v' : St} (hf : f_X6_setLook v x1 x2 = some v') : FC l G yX6_setLook wsX6_setLook ({ frames := 1, cells := 0, slots := 0, locals := 22 } : Room) [.ref (a 0), .int x1, .int x2] (vW G a v) (vW G a v') none := by
  refine fc_head (cc := cX6_setLook) (maxL := 3) (ret := none) (C := RX6) (lv := [(0, .ref (a 0)), (1, .int x1), (2, .int x2)]) (by decide) rfl rfl (Nat.le_of_ble_eq_true rfl) rfl ?_
  intro p e s m below meth c ls A hx hb hr hml hown hts hlocks hE hP hD hAB hS hl
  have hCF : CallFix p m c cX6_setLook 3 s ([.ref (a 0), .int x1, .int x2] : List Value).toArray wsX6_setLook RX6 := ⟨hx, hb, hml, hown, hts⟩
  have hwX6 : ∀ w ∈ u_ws RX6 TX6 12, w.before ([.ref (a 0), .int x1, .int x2] : List Value).toArray s = true := fun w h => hts w (iu_X6_setLook_X6 w h)
  have hk_fieldLink_RX6_24__BrideNotKnown_Valley___lookBits____I_ := hts (.fieldLink RX6 24 "BrideNotKnown$Valley" "lookBits" "[I") (List.mem_of_getElem? (i := 1) rfl)
  have hk_initialized_RX7 := hts (.initialized RX7) (List.mem_of_getElem? (i := 3) rfl)
  have hk_static_yX7_put := hts (.static yX7_put) (List.mem_of_getElem? (i := 2) rfl)
  rw [f_X6_setLook] at hf
  refine lv_aload_n hx hb dX6_setLook_0 rfl (lv_at hl 0 rfl) ?_
  refine fc_get (v := .ref (a 5)) (ci := 3) (C := RX6) (T := TX6) (N := 12) hx hb hwX6 hown hE hP 0 (vW_o G a v) rfl 8 (by decide) hk_fieldLink_RX6_24__BrideNotKnown_Valley___lookBits____I_ (fun _ h => h) rfl dX6_setLook_1 ?_
  refine lv_iload_n hx hb dX6_setLook_4 rfl (lv_at hl 1 rfl) ?_
  refine lv_iload_n hx hb dX6_setLook_5 rfl (lv_at hl 2 rfl) ?_
  obtain ⟨q652, hq652, hf⟩ := bnd hf
  refine fc_callN (Wa' := (vW G a (sA v 4 q652))) (st1 := []) (As := [.ref (a 5), .int x1, .int x2]) (rest := []) hCF (k_X7_put (a 5) 5 (v 4) x1 x2 hq652) ⟨va_cnB 3 hts gX6_setLook_X7_put_n65 rfl rfl rfl (hE.2.1 _ (List.mem_of_getElem? (i := 7) rfl)) hk_initialized_RX7 dk_X7_put ⟨Nat.le_of_ble_eq_true rfl, Nat.le_of_ble_eq_true rfl⟩, hk_static_yX7_put, trivial⟩ hE hAB hP hD hS [5] rfl (vW_ca5 G a v) (aW_f G (a 5) 5 (v 4) q652) (vW_sa5 G a v q652) rfl rfl hl.1 rfl (Nat.le_of_ble_eq_true rfl) dX6_setLook_6 ⟨Nat.le_refl _, Nat.le_refl _⟩ (fun H locs hP hD hS => ?_)
  exact fc_retv hx hb hr hlocks hP hS dX6_setLook_9 (congrArg (fun z => (vW G a z)) (i1 hf))
theorem dk_X6_setMind : yX6_setMind.cls ≠ "java/lang/invoke/MethodHandle" ∧ yX6_setMind.cls ≠ "java/lang/invoke/VarHandle" ∧ (parseMethodDescriptor yX6_setMind.desc).map (fun d => d.parameters.length) = some 2 := by decide +kernel
theorem iu_X6_setMind_X6 : ∀ w ∈ u_ws RX6 TX6 12, w ∈ wsX6_setMind := by decide +kernel
set_option maxHeartbeats 4000000 in
set_option maxRecDepth 100000 in
theorem k_X6_setMind {l : Launch} {G : Gx} (a : Nat → Nat) (v : St) (x1 : Int32) (x2 : Int32) {v' : St} (hf : f_X6_setMind v x1 x2 = some v') : FC l G yX6_setMind wsX6_setMind ({ frames := 1, cells := 0, slots := 0, locals := 22 } : Room) [.ref (a 0), .int x1, .int x2] (vW G a v) (vW G a v') none := by
  refine fc_head (cc := cX6_setMind) (maxL := 3) (ret := none) (C := RX6) (lv := [(0, .ref (a 0)), (1, .int x1), (2, .int x2)]) (by decide) rfl rfl (Nat.le_of_ble_eq_true rfl) rfl ?_
  intro p e s m below meth c ls A hx hb hr hml hown hts hlocks hE hP hD hAB hS hl
  have hCF : CallFix p m c cX6_setMind 3 s ([.ref (a 0), .int x1, .int x2] : List Value).toArray wsX6_setMind RX6 := ⟨hx, hb, hml, hown, hts⟩
  have hwX6 : ∀ w ∈ u_ws RX6 TX6 12, w.before ([.ref (a 0), .int x1, .int x2] : List Value).toArray s = true := fun w h => hts w (iu_X6_setMind_X6 w h)
  have hk_fieldLink_RX6_27__BrideNotKnown_Valley___mindFeet____I_ := hts (.fieldLink RX6 27 "BrideNotKnown$Valley" "mindFeet" "[I") (List.mem_of_getElem? (i := 1) rfl)
  have hk_initialized_RX7 := hts (.initialized RX7) (List.mem_of_getElem? (i := 3) rfl)
  have hk_static_yX7_put := hts (.static yX7_put) (List.mem_of_getElem? (i := 2) rfl)
  rw [f_X6_setMind] at hf
  refine lv_aload_n hx hb dX6_setMind_0 rfl (lv_at hl 0 rfl) ?_
  refine fc_get (v := .ref (a 6)) (ci := 3) (C := RX6) (T := TX6) (N := 12) hx hb hwX6 hown hE hP 0 (vW_o G a v) rfl 9 (by decide) hk_fieldLink_RX6_27__BrideNotKnown_Valley___mindFeet____I_ (fun _ h => h) rfl dX6_setMind_1 ?_
  refine lv_iload_n hx hb dX6_setMind_4 rfl (lv_at hl 1 rfl) ?_
  refine lv_iload_n hx hb dX6_setMind_5 rfl (lv_at hl 2 rfl) ?_
  obtain ⟨q654, hq654, hf⟩ := bnd hf
  refine fc_callN (Wa' := (vW G a (sA v 5 q654))) (st1 := []) (As := [.ref (a 6), .int x1, .int x2]) (rest := []) hCF (k_X7_put (a 6) 5 (v 5) x1 x2 hq654) ⟨va_cnB 3 hts gX6_setMind_X7_put_n65 rfl rfl rfl (hE.2.1 _ (List.mem_of_getElem? (i := 7) rfl)) hk_initialized_RX7 dk_X7_put ⟨Nat.le_of_ble_eq_true rfl, Nat.le_of_ble_eq_true rfl⟩, hk_static_yX7_put, trivial⟩ hE hAB hP hD hS [6] rfl (vW_ca6 G a v) (aW_f G (a 6) 5 (v 5) q654) (vW_sa6 G a v q654) rfl rfl hl.1 rfl (Nat.le_of_ble_eq_true rfl) dX6_setMind_6 ⟨Nat.le_refl _, Nat.le_refl _⟩ (fun H locs hP hD hS => ?_)
  exact fc_retv hx hb hr hlocks hP hS dX6_setMind_9 (congrArg (fun z => (vW G a z)) (i1 hf))
theorem dk_X6_addGroom : yX6_addGroom.cls ≠ "java/lang/invoke/MethodHandle" ∧ yX6_addGroom.cls ≠ "java/lang/invoke/VarHandle" ∧ (parseMethodDescriptor yX6_addGroom.desc).map (fun d => d.parameters.length) = some 2 := by decide +kernel
theorem iu_X6_addGroom_X6 : ∀ w ∈ u_ws RX6 TX6 12, w ∈ wsX6_addGroom := by decide +kernel
set_option maxHeartbeats 4000000 in
set_option maxRecDepth 100000 in
theorem k_X6_addGroom {l : Launch} {G : Gx} (a : Nat → Nat) (v : St) (x1 : Int32) (x2 : Int32) {r : Int32} {v' : St} (hf : f_X6_addGroom v x1 x2 = some (r, v')) : FC l G yX6_addGroom wsX6_addGroom ({ frames := 2, cells := 0, slots := 0, locals := 44 } : Room) [.ref (a 0), .int x1, .int x2] (vW G a v) (vW G a v') (some (.int r)) := by
  refine fc_head (cc := cX6_addGroom) (maxL := 3) (ret := (some .boolean)) (C := RX6) (lv := [(0, .ref (a 0)), (1, .int x1), (2, .int x2)]) (by decide) rfl rfl (Nat.le_of_ble_eq_true rfl) rfl ?_
  intro p e s m below meth c ls A hx hb hr hml hown hts hlocks hE hP hD hAB hS hl
  have hCF : CallFix p m c cX6_addGroom 3 s ([.ref (a 0), .int x1, .int x2] : List Value).toArray wsX6_addGroom RX6 := ⟨hx, hb, hml, hown, hts⟩
  have hwX6 : ∀ w ∈ u_ws RX6 TX6 12, w.before ([.ref (a 0), .int x1, .int x2] : List Value).toArray s = true := fun w h => hts w (iu_X6_addGroom_X6 w h)
  have hk_fieldLink_RX6_47__BrideNotKnown_Valley___groomCount___I_ := hts (.fieldLink RX6 47 "BrideNotKnown$Valley" "groomCount" "I") (List.mem_of_getElem? (i := 1) rfl)
  rw [f_X6_addGroom] at hf
  refine lv_aload_n hx hb dX6_addGroom_0 rfl (lv_at hl 0 rfl) ?_
  refine fc_get (v := .int (v 7 3)) (ci := 3) (C := RX6) (T := TX6) (N := 12) hx hb hwX6 hown hE hP 0 (vW_o G a v) rfl 7 (by decide) hk_fieldLink_RX6_47__BrideNotKnown_Valley___groomCount___I_ (fun _ h => h) rfl dX6_addGroom_1 ?_
  refine lv_iconst (v := (5 : Int32)) hx hb dX6_addGroom_4 (by decide) ?_
  refine lv_icmp_ge (tgt := 20) hx hb dX6_addGroom_5 (by decide) (fun c657 => ?_) (fun c657 => ?_)
  · have hf := ifT hf c657
    refine lv_iconst (v := (0 : Int32)) hx hb dX6_addGroom_20 (by decide) ?_
    exact fc_retz hx hb hr hlocks hP hS dX6_addGroom_21 (by decide) (i2a hf) (congrArg (fun z => (vW G a z)) (i2b hf))
  · have hf := ifF hf c657
    refine lv_iload_n hx hb dX6_addGroom_8 rfl (lv_at hl 1 rfl) ?_
    refine lv_bipush (v := (63 : Int32)) hx hb dX6_addGroom_9 (by decide) ?_
    refine lv_icmp_gt (tgt := 20) hx hb dX6_addGroom_11 (by decide) (fun c658 => ?_) (fun c658 => ?_)
    · have hf := ifT hf c658
      refine lv_iconst (v := (0 : Int32)) hx hb dX6_addGroom_20 (by decide) ?_
      exact fc_retz hx hb hr hlocks hP hS dX6_addGroom_21 (by decide) (i2a hf) (congrArg (fun z => (vW G a z)) (i2b hf))
    · have hf := ifF hf c658
      refine lv_iload_n hx hb dX6_addGroom_14 rfl (lv_at hl 2 rfl) ?_
      refine lv_bipush (v := (63 : Int32)) hx hb dX6_addGroom_15 (by decide) ?_
      refine lv_icmp_le (tgt := 22) hx hb dX6_addGroom_17 (by decide) (fun c659 => ?_) (fun c659 => ?_)
      · have hf := ifT hf c659
        refine lv_aload_n hx hb dX6_addGroom_22 rfl (lv_at hl 0 rfl) ?_
        refine lv_aload_n hx hb dX6_addGroom_23 rfl (lv_at hl 0 rfl) ?_
        refine fc_get (v := .int (v 7 3)) (ci := 3) (C := RX6) (T := TX6) (N := 12) hx hb hwX6 hown hE hP 0 (vW_o G a v) rfl 7 (by decide) hk_fieldLink_RX6_47__BrideNotKnown_Valley___groomCount___I_ (fun _ h => h) rfl dX6_addGroom_24 ?_
        refine lv_iload_n hx hb dX6_addGroom_27 rfl (lv_at hl 1 rfl) ?_
        obtain ⟨q660, hq660, hf⟩ := bnd hf
        refine fc_callV (Wa' := (vW G a q660)) (st1 := []) (As := [.int (v 7 3), .int x1]) (rest := []) hCF (k_X6_setLook a v (v 7 3) x1 hq660) (cwV 2 hts gX6_addGroom_X6_setLook rfl rfl rfl ⟨rfl, dk_X6_setLook⟩ ⟨Nat.le_of_ble_eq_true rfl, Nat.le_of_ble_eq_true rfl⟩) hE hAB hP hD hS [0, 1, 2, 3, 4, 5, 6, 7] vW_d (vW_c G a v) (va_recv hE.1 hP (ci := 3) (q0 := 0) rfl (vW_o G a v)) (vW_f G a v q660) (vW_s G a v q660) rfl rfl hl.1 rfl (Nat.le_of_ble_eq_true rfl) dX6_addGroom_28 ⟨Nat.le_refl _, Nat.le_refl _⟩ (fun H locs hP hD hS => ?_)
        refine lv_aload_n hx hb dX6_addGroom_31 rfl (lv_at hl 0 rfl) ?_
        refine lv_aload_n hx hb dX6_addGroom_32 rfl (lv_at hl 0 rfl) ?_
        refine fc_get (v := .int (q660 7 3)) (ci := 3) (C := RX6) (T := TX6) (N := 12) hx hb hwX6 hown hE hP 0 (vW_o G a q660) rfl 7 (by decide) hk_fieldLink_RX6_47__BrideNotKnown_Valley___groomCount___I_ (fun _ h => h) rfl dX6_addGroom_33 ?_
        refine lv_iload_n hx hb dX6_addGroom_36 rfl (lv_at hl 2 rfl) ?_
        obtain ⟨q661, hq661, hf⟩ := bnd hf
        refine fc_callV (Wa' := (vW G a q661)) (st1 := []) (As := [.int (q660 7 3), .int x2]) (rest := []) hCF (k_X6_setMind a q660 (q660 7 3) x2 hq661) (cwV 2 hts gX6_addGroom_X6_setMind rfl rfl rfl ⟨rfl, dk_X6_setMind⟩ ⟨Nat.le_of_ble_eq_true rfl, Nat.le_of_ble_eq_true rfl⟩) hE hAB hP hD hS [0, 1, 2, 3, 4, 5, 6, 7] vW_d (vW_c G a q660) (va_recv hE.1 hP (ci := 3) (q0 := 0) rfl (vW_o G a q660)) (vW_f G a q660 q661) (vW_s G a q660 q661) rfl rfl hl.1 rfl (Nat.le_of_ble_eq_true rfl) dX6_addGroom_37 ⟨Nat.le_refl _, Nat.le_refl _⟩ (fun H locs hP hD hS => ?_)
        refine lv_aload_n hx hb dX6_addGroom_40 rfl (lv_at hl 0 rfl) ?_
        refine lv_dup hx hb dX6_addGroom_41 rfl ?_
        refine fc_get (v := .int (q661 7 3)) (ci := 3) (C := RX6) (T := TX6) (N := 12) hx hb hwX6 hown hE hP 0 (vW_o G a q661) rfl 7 (by decide) hk_fieldLink_RX6_47__BrideNotKnown_Valley___groomCount___I_ (fun _ h => h) rfl dX6_addGroom_42 ?_
        refine lv_iconst (v := (1 : Int32)) hx hb dX6_addGroom_45 (by decide) ?_
        refine lv_iadd hx hb dX6_addGroom_46 ?_
        refine fc_put (Wa' := (vW G a (sA q661 7 (upd (q661 7) 3 ((q661 7 3) + (1 : Int32)))))) (ci := 3) (C := RX6) (T := TX6) (N := 12) hx hb hwX6 tyX6 tyX6_ok nmX6 hown hE hP hD hS 0 (vW_o G a q661) rfl 7 (by decide) hk_fieldLink_RX6_47__BrideNotKnown_Valley___groomCount___I_ (fun _ h => h) rfl rfl rfl (Nat.le_of_ble_eq_true rfl) dX6_addGroom_47 (vW_p7 G a q661 ((q661 7 3) + (1 : Int32))) (fun H locs hP hD hS => ?_)
        refine lv_iconst (v := (1 : Int32)) hx hb dX6_addGroom_50 (by decide) ?_
        exact fc_retz hx hb hr hlocks hP hS dX6_addGroom_51 (by decide) (i2a hf) (congrArg (fun z => (vW G a z)) (i2b hf))
      · have hf := ifF hf c659
        refine lv_iconst (v := (0 : Int32)) hx hb dX6_addGroom_20 (by decide) ?_
        exact fc_retz hx hb hr hlocks hP hS dX6_addGroom_21 (by decide) (i2a hf) (congrArg (fun z => (vW G a z)) (i2b hf))
theorem dk_X6_hasBride : yX6_hasBride.cls ≠ "java/lang/invoke/MethodHandle" ∧ yX6_hasBride.cls ≠ "java/lang/invoke/VarHandle" ∧ (parseMethodDescriptor yX6_hasBride.desc).map (fun d => d.parameters.length) = some 1 := by decide +kernel
theorem iu_X6_hasBride_X6 : ∀ w ∈ u_ws RX6 TX6 12, w ∈ wsX6_hasBride := by decide +kernel
set_option maxHeartbeats 4000000 in
set_option maxRecDepth 100000 in
theorem k_X6_hasBride {l : Launch} {G : Gx} (a : Nat → Nat) (v : St) (x1 : Int32) {r : Int32} (hf : f_X6_hasBride v x1 = some r) : FC l G yX6_hasBride wsX6_hasBride ({ frames := 0, cells := 0, slots := 0, locals := 0 } : Room) [.ref (a 0), .int x1] (vW G a v) (vW G a v) (some (.int r)) := by
  refine fc_head (cc := cX6_hasBride) (maxL := 2) (ret := (some .boolean)) (C := RX6) (lv := [(0, .ref (a 0)), (1, .int x1)]) (by decide) rfl rfl (Nat.le_of_ble_eq_true rfl) rfl ?_
  intro p e s m below meth c ls A hx hb hr hml hown hts hlocks hE hP hD hAB hS hl
  have hCF : CallFix p m c cX6_hasBride 2 s ([.ref (a 0), .int x1] : List Value).toArray wsX6_hasBride RX6 := ⟨hx, hb, hml, hown, hts⟩
  have hwX6 : ∀ w ∈ u_ws RX6 TX6 12, w.before ([.ref (a 0), .int x1] : List Value).toArray s = true := fun w h => hts w (iu_X6_hasBride_X6 w h)
  have hk_fieldLink_RX6_37__BrideNotKnown_Valley___brideCount___I_ := hts (.fieldLink RX6 37 "BrideNotKnown$Valley" "brideCount" "I") (List.mem_of_getElem? (i := 1) rfl)
  rw [f_X6_hasBride] at hf
  refine lv_iload_n hx hb dX6_hasBride_0 rfl (lv_at hl 1 rfl) ?_
  refine lv_if_lt (tgt := 16) hx hb dX6_hasBride_1 (by decide) (fun c662 => ?_) (fun c662 => ?_)
  · have hf := ifT hf c662
    refine lv_iconst (v := (0 : Int32)) hx hb dX6_hasBride_16 (by decide) ?_
    exact fc_retz hx hb hr hlocks hP hS dX6_hasBride_17 (by decide) (i1 hf) rfl
  · have hf := ifF hf c662
    refine lv_iload_n hx hb dX6_hasBride_4 rfl (lv_at hl 1 rfl) ?_
    refine lv_aload_n hx hb dX6_hasBride_5 rfl (lv_at hl 0 rfl) ?_
    refine fc_get (v := .int (v 7 1)) (ci := 3) (C := RX6) (T := TX6) (N := 12) hx hb hwX6 hown hE hP 0 (vW_o G a v) rfl 1 (by decide) hk_fieldLink_RX6_37__BrideNotKnown_Valley___brideCount___I_ (fun _ h => h) rfl dX6_hasBride_6 ?_
    refine lv_icmp_ge (tgt := 16) hx hb dX6_hasBride_9 (by decide) (fun c663 => ?_) (fun c663 => ?_)
    · have hf := ifT hf c663
      refine lv_iconst (v := (0 : Int32)) hx hb dX6_hasBride_16 (by decide) ?_
      exact fc_retz hx hb hr hlocks hP hS dX6_hasBride_17 (by decide) (i1 hf) rfl
    · have hf := ifF hf c663
      refine lv_iconst (v := (1 : Int32)) hx hb dX6_hasBride_12 (by decide) ?_
      refine lv_goto (tgt := 17) hx hb dX6_hasBride_13 (by decide) ?_
      exact fc_retz hx hb hr hlocks hP hS dX6_hasBride_17 (by decide) (i1 hf) rfl
theorem dk_X6_setLiquor : yX6_setLiquor.cls ≠ "java/lang/invoke/MethodHandle" ∧ yX6_setLiquor.cls ≠ "java/lang/invoke/VarHandle" ∧ (parseMethodDescriptor yX6_setLiquor.desc).map (fun d => d.parameters.length) = some 2 := by decide +kernel
theorem iu_X6_setLiquor_X6 : ∀ w ∈ u_ws RX6 TX6 12, w ∈ wsX6_setLiquor := by decide +kernel
set_option maxHeartbeats 4000000 in
set_option maxRecDepth 100000 in
theorem k_X6_setLiquor {l : Launch} {G : Gx} (a : Nat → Nat) (v : St) (x1 : Int32) (x2 : Int32) {v' : St} (hf : f_X6_setLiquor v x1 x2 = some v') : FC l G yX6_setLiquor wsX6_setLiquor ({ frames := 1, cells := 0, slots := 0, locals := 22 } : Room) [.ref (a 0), .int x1, .int x2] (vW G a v) (vW G a v') none := by
  refine fc_head (cc := cX6_setLiquor) (maxL := 3) (ret := none) (C := RX6) (lv := [(0, .ref (a 0)), (1, .int x1), (2, .int x2)]) (by decide) rfl rfl (Nat.le_of_ble_eq_true rfl) rfl ?_
  intro p e s m below meth c ls A hx hb hr hml hown hts hlocks hE hP hD hAB hS hl
  have hCF : CallFix p m c cX6_setLiquor 3 s ([.ref (a 0), .int x1, .int x2] : List Value).toArray wsX6_setLiquor RX6 := ⟨hx, hb, hml, hown, hts⟩
  have hwX6 : ∀ w ∈ u_ws RX6 TX6 12, w.before ([.ref (a 0), .int x1, .int x2] : List Value).toArray s = true := fun w h => hts w (iu_X6_setLiquor_X6 w h)
  have hk_fieldLink_RX6_30__BrideNotKnown_Valley___liquors____I_ := hts (.fieldLink RX6 30 "BrideNotKnown$Valley" "liquors" "[I") (List.mem_of_getElem? (i := 1) rfl)
  have hk_initialized_RX7 := hts (.initialized RX7) (List.mem_of_getElem? (i := 3) rfl)
  have hk_static_yX7_put := hts (.static yX7_put) (List.mem_of_getElem? (i := 2) rfl)
  rw [f_X6_setLiquor] at hf
  refine lv_aload_n hx hb dX6_setLiquor_0 rfl (lv_at hl 0 rfl) ?_
  refine fc_get (v := .ref (a 7)) (ci := 3) (C := RX6) (T := TX6) (N := 12) hx hb hwX6 hown hE hP 0 (vW_o G a v) rfl 10 (by decide) hk_fieldLink_RX6_30__BrideNotKnown_Valley___liquors____I_ (fun _ h => h) rfl dX6_setLiquor_1 ?_
  refine lv_iload_n hx hb dX6_setLiquor_4 rfl (lv_at hl 1 rfl) ?_
  refine lv_iload_n hx hb dX6_setLiquor_5 rfl (lv_at hl 2 rfl) ?_
  obtain ⟨q671, hq671, hf⟩ := bnd hf
  refine fc_callN (Wa' := (vW G a (sA v 6 q671))) (st1 := []) (As := [.ref (a 7), .int x1, .int x2]) (rest := []) hCF (k_X7_put (a 7) 5 (v 6) x1 x2 hq671) ⟨va_cnB 3 hts gX6_setLiquor_X7_put_n65 rfl rfl rfl (hE.2.1 _ (List.mem_of_getElem? (i := 7) rfl)) hk_initialized_RX7 dk_X7_put ⟨Nat.le_of_ble_eq_true rfl, Nat.le_of_ble_eq_true rfl⟩, hk_static_yX7_put, trivial⟩ hE hAB hP hD hS [7] rfl (vW_ca7 G a v) (aW_f G (a 7) 5 (v 6) q671) (vW_sa7 G a v q671) rfl rfl hl.1 rfl (Nat.le_of_ble_eq_true rfl) dX6_setLiquor_6 ⟨Nat.le_refl _, Nat.le_refl _⟩ (fun H locs hP hD hS => ?_)
  exact fc_retv hx hb hr hlocks hP hS dX6_setLiquor_9 (congrArg (fun z => (vW G a z)) (i1 hf))
theorem dk_X6_canWed : yX6_canWed.cls ≠ "java/lang/invoke/MethodHandle" ∧ yX6_canWed.cls ≠ "java/lang/invoke/VarHandle" ∧ (parseMethodDescriptor yX6_canWed.desc).map (fun d => d.parameters.length) = some 1 := by decide +kernel
set_option maxHeartbeats 4000000 in
set_option maxRecDepth 100000 in
theorem k_X6_canWed {l : Launch} {G : Gx} (a : Nat → Nat) (v : St) (x1 : Int32) {r : Int32} (hf : f_X6_canWed v x1 = some r) : FC l G yX6_canWed wsX6_canWed ({ frames := 2, cells := 0, slots := 0, locals := 44 } : Room) [.ref (a 0), .int x1] (vW G a v) (vW G a v) (some (.int r)) := by
  refine fc_head (cc := cX6_canWed) (maxL := 2) (ret := (some .boolean)) (C := RX6) (lv := [(0, .ref (a 0)), (1, .int x1)]) (by decide) rfl rfl (Nat.le_of_ble_eq_true rfl) rfl ?_
  intro p e s m below meth c ls A hx hb hr hml hown hts hlocks hE hP hD hAB hS hl
  have hCF : CallFix p m c cX6_canWed 2 s ([.ref (a 0), .int x1] : List Value).toArray wsX6_canWed RX6 := ⟨hx, hb, hml, hown, hts⟩
  rw [f_X6_canWed] at hf
  refine lv_aload_n hx hb dX6_canWed_0 rfl (lv_at hl 0 rfl) ?_
  refine lv_iload_n hx hb dX6_canWed_1 rfl (lv_at hl 1 rfl) ?_
  obtain ⟨q680, hq680, hf⟩ := bnd hf
  refine fc_callV (Wa' := (vW G a v)) (st1 := [.int q680]) (As := [.int x1]) (rest := []) hCF (k_X6_hasGroom a v x1 hq680) (cwV 1 hts gX6_canWed_X6_hasGroom rfl rfl rfl ⟨rfl, dk_X6_hasGroom⟩ ⟨Nat.le_of_ble_eq_true rfl, Nat.le_of_ble_eq_true rfl⟩) hE hAB hP hD hS [0, 1, 2, 3, 4, 5, 6, 7] vW_d (vW_c G a v) (va_recv hE.1 hP (ci := 3) (q0 := 0) rfl (vW_o G a v)) (vW_f G a v v) (vW_s G a v v) rfl rfl hl.1 rfl (Nat.le_of_ble_eq_true rfl) dX6_canWed_2 ⟨Nat.le_refl _, Nat.le_refl _⟩ (fun H locs hP hD hS => ?_)
  refine lv_if_eq (tgt := 28) hx hb dX6_canWed_5 (by decide) (fun c681 => ?_) (fun c681 => ?_)
  · have hf := ifT hf c681
    refine lv_iconst (v := (0 : Int32)) hx hb dX6_canWed_28 (by decide) ?_
    exact fc_retz hx hb hr hlocks hP hS dX6_canWed_29 (by decide) (i1 hf) rfl
  · have hf := ifF hf c681
    refine lv_aload_n hx hb dX6_canWed_8 rfl (lv_at hl 0 rfl) ?_
    refine lv_iload_n hx hb dX6_canWed_9 rfl (lv_at hl 1 rfl) ?_
    obtain ⟨q682, hq682, hf⟩ := bnd hf
    refine fc_callV (Wa' := (vW G a v)) (st1 := [.int q682]) (As := [.int x1]) (rest := []) hCF (k_X6_isUnmarried a v x1 hq682) (cwV 1 hts gX6_canWed_X6_isUnmarried rfl rfl rfl ⟨rfl, dk_X6_isUnmarried⟩ ⟨Nat.le_of_ble_eq_true rfl, Nat.le_of_ble_eq_true rfl⟩) hE hAB hP hD hS [0, 1, 2, 3, 4, 5, 6, 7] vW_d (vW_c G a v) (va_recv hE.1 hP (ci := 3) (q0 := 0) rfl (vW_o G a v)) (vW_f G a v v) (vW_s G a v v) rfl rfl hl.1 rfl (Nat.le_of_ble_eq_true rfl) dX6_canWed_10 ⟨Nat.le_refl _, Nat.le_refl _⟩ (fun H locs hP hD hS => ?_)
    refine lv_if_eq (tgt := 28) hx hb dX6_canWed_13 (by decide) (fun c683 => ?_) (fun c683 => ?_)
    · have hf := ifT hf c683
      refine lv_iconst (v := (0 : Int32)) hx hb dX6_canWed_28 (by decide) ?_
      exact fc_retz hx hb hr hlocks hP hS dX6_canWed_29 (by decide) (i1 hf) rfl
    · have hf := ifF hf c683
      refine lv_aload_n hx hb dX6_canWed_16 rfl (lv_at hl 0 rfl) ?_
      refine lv_iconst (v := (0 : Int32)) hx hb dX6_canWed_17 (by decide) ?_
      obtain ⟨q684, hq684, hf⟩ := bnd hf
      refine fc_callV (Wa' := (vW G a v)) (st1 := [.int q684]) (As := [.int (0 : Int32)]) (rest := []) hCF (k_X6_hereThen a v (0 : Int32) hq684) (cwV 1 hts gX6_canWed_X6_hereThen rfl rfl rfl ⟨rfl, dk_X6_hereThen⟩ ⟨Nat.le_of_ble_eq_true rfl, Nat.le_of_ble_eq_true rfl⟩) hE hAB hP hD hS [0, 1, 2, 3, 4, 5, 6, 7] vW_d (vW_c G a v) (va_recv hE.1 hP (ci := 3) (q0 := 0) rfl (vW_o G a v)) (vW_f G a v v) (vW_s G a v v) rfl rfl hl.1 rfl (Nat.le_of_ble_eq_true rfl) dX6_canWed_18 ⟨Nat.le_refl _, Nat.le_refl _⟩ (fun H locs hP hD hS => ?_)
      refine lv_if_eq (tgt := 28) hx hb dX6_canWed_21 (by decide) (fun c685 => ?_) (fun c685 => ?_)
      · have hf := ifT hf c685
        refine lv_iconst (v := (0 : Int32)) hx hb dX6_canWed_28 (by decide) ?_
        exact fc_retz hx hb hr hlocks hP hS dX6_canWed_29 (by decide) (i1 hf) rfl
      · have hf := ifF hf c685
        refine lv_iconst (v := (1 : Int32)) hx hb dX6_canWed_24 (by decide) ?_
        refine lv_goto (tgt := 29) hx hb dX6_canWed_25 (by decide) ?_
        exact fc_retz hx hb hr hlocks hP hS dX6_canWed_29 (by decide) (i1 hf) rfl
theorem dk_X6_takenOf : yX6_takenOf.cls ≠ "java/lang/invoke/MethodHandle" ∧ yX6_takenOf.cls ≠ "java/lang/invoke/VarHandle" ∧ (parseMethodDescriptor yX6_takenOf.desc).map (fun d => d.parameters.length) = some 2 := by decide +kernel
set_option maxHeartbeats 4000000 in
set_option maxRecDepth 100000 in
theorem k_X6_takenOf {l : Launch} {G : Gx} (x0 : Int32) (x1 : Int32) {r : Int32} (hf : f_X6_takenOf x0 x1 = some r) : FC l G yX6_takenOf wsX6_takenOf ({ frames := 2, cells := 0, slots := 0, locals := 44 } : Room) [.int x0, .int x1] ([] : va_W) ([] : va_W) (some (.int r)) := by
  refine fc_head (cc := cX6_takenOf) (maxL := 3) (ret := (some .int)) (C := RX6) (lv := [(0, .int x0), (1, .int x1)]) (by decide) rfl rfl (Nat.le_of_ble_eq_true rfl) rfl ?_
  intro p e s m below meth c ls A hx hb hr hml hown hts hlocks hE hP hD hAB hS hl
  have hCF : CallFix p m c cX6_takenOf 3 s ([.int x0, .int x1] : List Value).toArray wsX6_takenOf RX6 := ⟨hx, hb, hml, hown, hts⟩
  have hk_initialized_RX7 := hts (.initialized RX7) (List.mem_of_getElem? (i := 9) rfl)
  have hk_static_yX7_bitAt := hts (.static yX7_bitAt) (List.mem_of_getElem? (i := 8) rfl)
  rw [f_X6_takenOf] at hf
  refine lv_iload_n hx hb dX6_takenOf_0 rfl (lv_at hl 0 rfl) ?_
  obtain ⟨q688, hq688, hf⟩ := bnd hf
  refine fc_callS (Wa' := ([] : va_W)) (st1 := [.int q688]) (As := [.int x0]) (rest := []) hCF (k_J6_bitCount_0f7a4 x0 hq688) (va_cwS 1 hts gX6_takenOf_J6_bitCount_0f7a4 rfl rfl rfl dk_J6_bitCount_0f7a4 ⟨Nat.le_of_ble_eq_true rfl, Nat.le_of_ble_eq_true rfl⟩) hE hAB hP hD hS [] rfl rfl rfl rfl rfl rfl hl.1 rfl (Nat.le_of_ble_eq_true rfl) dX6_takenOf_1 ⟨Nat.le_refl _, Nat.le_refl _⟩ (fun H locs hP hD hS => ?_)
  refine lv_istore_n (lv' := [(2, .int q688), (0, .int x0), (1, .int x1)]) hx hb dX6_takenOf_4 rfl hl (by decide) rfl (fun ls hl => ?_)
  refine lv_iload_n hx hb dX6_takenOf_5 rfl (lv_at hl 0 rfl) ?_
  refine lv_if_ne (tgt := 14) hx hb dX6_takenOf_6 (by decide) (fun c689 => ?_) (fun c689 => ?_)
  · have hf := ifF hf c689
    refine lv_iload_n hx hb dX6_takenOf_14 rfl (lv_at hl 1 rfl) ?_
    refine lv_iload_n hx hb dX6_takenOf_15 rfl (lv_at hl 2 rfl) ?_
    refine lv_iload_n hx hb dX6_takenOf_16 rfl (lv_at hl 0 rfl) ?_
    obtain ⟨c690, hf⟩ := gd_some hf
    refine lv_irem hx hb dX6_takenOf_17 (nzI_ne c690) ?_
    obtain ⟨q691, hq691, hf⟩ := bnd hf
    refine fc_callN (Wa' := ([] : va_W)) (st1 := [.int q691]) (As := [.int x0, .int (x1 - x1 / q688 * q688)]) (rest := []) hCF (k_X7_bitAt x0 (x1 - x1 / q688 * q688) hq691) ⟨va_cnB 2 hts gX6_takenOf_X7_bitAt_n139 rfl rfl rfl (hE.2.1 _ (List.mem_of_getElem? (i := 11) rfl)) hk_initialized_RX7 dk_X7_bitAt ⟨Nat.le_of_ble_eq_true rfl, Nat.le_of_ble_eq_true rfl⟩, hk_static_yX7_bitAt, trivial⟩ hE hAB hP hD hS [] rfl rfl rfl rfl rfl rfl hl.1 rfl (Nat.le_of_ble_eq_true rfl) dX6_takenOf_18 ⟨Nat.le_refl _, Nat.le_refl _⟩ (fun H locs hP hD hS => ?_)
    exact fc_reti hx hb hr hlocks hP hS dX6_takenOf_21 (i1 hf) rfl
  · have hf := ifT hf c689
    refine lv_bipush (v := (-9 : Int32)) hx hb dX6_takenOf_9 (by decide) ?_
    refine lv_goto (tgt := 21) hx hb dX6_takenOf_11 (by decide) ?_
    exact fc_reti hx hb hr hlocks hP hS dX6_takenOf_21 (i1 hf) rfl
theorem dk_X6_wed : yX6_wed.cls ≠ "java/lang/invoke/MethodHandle" ∧ yX6_wed.cls ≠ "java/lang/invoke/VarHandle" ∧ (parseMethodDescriptor yX6_wed.desc).map (fun d => d.parameters.length) = some 1 := by decide +kernel
theorem iu_X6_wed_X6 : ∀ w ∈ u_ws RX6 TX6 12, w ∈ wsX6_wed := by decide +kernel
set_option maxHeartbeats 4000000 in
set_option maxRecDepth 100000 in
theorem k_X6_wed {l : Launch} {G : Gx} (a : Nat → Nat) (v : St) (x1 : Int32) {r : Int32} {v' : St} (hf : f_X6_wed v x1 = some (r, v')) : FC l G yX6_wed wsX6_wed ({ frames := 3, cells := 0, slots := 0, locals := 77 } : Room) [.ref (a 0), .int x1] (vW G a v) (vW G a v') (some (.int r)) := by
  refine fc_head (cc := cX6_wed) (maxL := 6) (ret := (some .int)) (C := RX6) (lv := [(0, .ref (a 0)), (1, .int x1)]) (by decide) rfl rfl (Nat.le_of_ble_eq_true rfl) rfl ?_
  intro p e s m below meth c ls A hx hb hr hml hown hts hlocks hE hP hD hAB hS hl
  have hCF : CallFix p m c cX6_wed 6 s ([.ref (a 0), .int x1] : List Value).toArray wsX6_wed RX6 := ⟨hx, hb, hml, hown, hts⟩
  have hwX6 : ∀ w ∈ u_ws RX6 TX6 12, w.before ([.ref (a 0), .int x1] : List Value).toArray s = true := fun w h => hts w (iu_X6_wed_X6 w h)
  have hk_fieldLink_RX6_30__BrideNotKnown_Valley___liquors____I_ := hts (.fieldLink RX6 30 "BrideNotKnown$Valley" "liquors" "[I") (List.mem_of_getElem? (i := 1) rfl)
  have hk_initialized_RX7 := hts (.initialized RX7) (List.mem_of_getElem? (i := 7) rfl)
  have hk_static_yX7_at := hts (.static yX7_at) (List.mem_of_getElem? (i := 6) rfl)
  have hk_fieldLink_RX6_24__BrideNotKnown_Valley___lookBits____I_ := hts (.fieldLink RX6 24 "BrideNotKnown$Valley" "lookBits" "[I") (List.mem_of_getElem? (i := 2) rfl)
  have hk_static_yX7_onlyOne := hts (.static yX7_onlyOne) (List.mem_of_getElem? (i := 30) rfl)
  have hk_fieldLink_RX6_44__BrideNotKnown_Valley___marriedBrides___I_ := hts (.fieldLink RX6 44 "BrideNotKnown$Valley" "marriedBrides" "I") (List.mem_of_getElem? (i := 4) rfl)
  have hk_fieldLink_RX6_50__BrideNotKnown_Valley___marriedGrooms___I_ := hts (.fieldLink RX6 50 "BrideNotKnown$Valley" "marriedGrooms" "I") (List.mem_of_getElem? (i := 5) rfl)
  have hk_fieldLink_RX6_21__BrideNotKnown_Valley___sentYears____I_ := hts (.fieldLink RX6 21 "BrideNotKnown$Valley" "sentYears" "[I") (List.mem_of_getElem? (i := 3) rfl)
  have hk_static_yX7_put := hts (.static yX7_put) (List.mem_of_getElem? (i := 43) rfl)
  rw [f_X6_wed] at hf
  refine lv_aload_n hx hb dX6_wed_0 rfl (lv_at hl 0 rfl) ?_
  refine fc_get (v := .ref (a 7)) (ci := 3) (C := RX6) (T := TX6) (N := 12) hx hb hwX6 hown hE hP 0 (vW_o G a v) rfl 10 (by decide) hk_fieldLink_RX6_30__BrideNotKnown_Valley___liquors____I_ (fun _ h => h) rfl dX6_wed_1 ?_
  refine lv_iload_n hx hb dX6_wed_4 rfl (lv_at hl 1 rfl) ?_
  obtain ⟨q699, hq699, hf⟩ := bnd hf
  refine fc_callN (Wa' := (vW G a v)) (st1 := [.int q699]) (As := [.ref (a 7), .int x1]) (rest := []) hCF (k_X7_at (a 7) 5 (v 6) x1 hq699) ⟨va_cnB 2 hts gX6_wed_X7_at_n53 rfl rfl rfl (hE.2.1 _ (List.mem_of_getElem? (i := 8) rfl)) hk_initialized_RX7 dk_X7_at ⟨Nat.le_of_ble_eq_true rfl, Nat.le_of_ble_eq_true rfl⟩, hk_static_yX7_at, trivial⟩ hE hAB hP hD hS [7] rfl (vW_ca7 G a v) (aW_f G (a 7) 5 (v 6) (v 6)) (vW_ia7 G a v) rfl rfl hl.1 rfl (Nat.le_of_ble_eq_true rfl) dX6_wed_5 ⟨Nat.le_refl _, Nat.le_refl _⟩ (fun H locs hP hD hS => ?_)
  refine lv_istore_n (lv' := [(2, .int q699), (0, .ref (a 0)), (1, .int x1)]) hx hb dX6_wed_8 rfl hl (by decide) rfl (fun ls hl => ?_)
  refine lv_aload_n hx hb dX6_wed_9 rfl (lv_at hl 1 rfl) ?_
  refine lv_iload_n hx hb dX6_wed_10 rfl (lv_at hl 2 rfl) ?_
  refine lv_aload_n hx hb dX6_wed_11 rfl (lv_at hl 1 rfl) ?_
  refine fc_get (v := .ref (a 5)) (ci := 3) (C := RX6) (T := TX6) (N := 12) hx hb hwX6 hown hE hP 0 (vW_o G a v) rfl 8 (by decide) hk_fieldLink_RX6_24__BrideNotKnown_Valley___lookBits____I_ (fun _ h => h) rfl dX6_wed_12 ?_
  refine lv_iload_n hx hb dX6_wed_15 rfl (lv_at hl 2 rfl) ?_
  obtain ⟨q700, hq700, hf⟩ := bnd hf
  refine fc_callN (Wa' := (vW G a v)) (st1 := [.int q700, .int x1, .ref (a 0)]) (As := [.ref (a 5), .int x1]) (rest := [.int x1, .ref (a 0)]) hCF (k_X7_at (a 5) 5 (v 4) x1 hq700) ⟨va_cnB 2 hts gX6_wed_X7_at_n53 rfl rfl rfl (hE.2.1 _ (List.mem_of_getElem? (i := 8) rfl)) hk_initialized_RX7 dk_X7_at ⟨Nat.le_of_ble_eq_true rfl, Nat.le_of_ble_eq_true rfl⟩, hk_static_yX7_at, trivial⟩ hE hAB hP hD hS [5] rfl (vW_ca5 G a v) (aW_f G (a 5) 5 (v 4) (v 4)) (vW_ia5 G a v) rfl rfl hl.1 rfl (Nat.le_of_ble_eq_true rfl) dX6_wed_16 ⟨Nat.le_refl _, Nat.le_refl _⟩ (fun H locs hP hD hS => ?_)
  refine lv_iconst (v := (0 : Int32)) hx hb dX6_wed_19 (by decide) ?_
  obtain ⟨q701, hq701, hf⟩ := bnd hf
  refine fc_callV (Wa' := (vW G a v)) (st1 := [.int q701]) (As := [.int x1, .int q700, .int (0 : Int32)]) (rest := []) hCF (k_X6_guessesBy a v x1 q700 (0 : Int32) hq701) (cwV 3 hts gX6_wed_X6_guessesBy rfl rfl rfl ⟨rfl, dk_X6_guessesBy⟩ ⟨Nat.le_of_ble_eq_true rfl, Nat.le_of_ble_eq_true rfl⟩) hE hAB hP hD hS [0, 1, 2, 3, 4, 5, 6, 7] vW_d (vW_c G a v) (va_recv hE.1 hP (ci := 3) (q0 := 0) rfl (vW_o G a v)) (vW_f G a v v) (vW_s G a v v) rfl rfl hl.1 rfl (Nat.le_of_ble_eq_true rfl) dX6_wed_20 ⟨Nat.le_refl _, Nat.le_refl _⟩ (fun H locs hP hD hS => ?_)
  refine lv_istore_n (lv' := [(3, .int q701), (2, .int q699), (0, .ref (a 0)), (1, .int x1)]) hx hb dX6_wed_23 rfl hl (by decide) rfl (fun ls hl => ?_)
  refine lv_iload_n hx hb dX6_wed_24 rfl (lv_at hl 0 rfl) ?_
  obtain ⟨q702, hq702, hf⟩ := bnd hf
  refine fc_callN (Wa' := (vW G a v)) (st1 := [.int q702]) (As := [.int q701]) (rest := []) hCF (k_X7_onlyOne q701 hq702) ⟨va_cnB 1 hts gX6_wed_X7_onlyOne_n109 rfl rfl rfl (hE.2.1 _ (List.mem_of_getElem? (i := 10) rfl)) hk_initialized_RX7 dk_X7_onlyOne ⟨Nat.le_of_ble_eq_true rfl, Nat.le_of_ble_eq_true rfl⟩, hk_static_yX7_onlyOne, trivial⟩ hE hAB hP hD hS [] rfl rfl rfl rfl rfl rfl hl.1 rfl (Nat.le_of_ble_eq_true rfl) dX6_wed_25 ⟨Nat.le_refl _, Nat.le_refl _⟩ (fun H locs hP hD hS => ?_)
  refine lv_istore (lv' := [(4, .int q702), (3, .int q701), (2, .int q699), (0, .ref (a 0)), (1, .int x1)]) hx hb dX6_wed_28 hl (by decide) rfl (fun ls hl => ?_)
  refine lv_iload hx hb dX6_wed_30 (lv_at hl 0 rfl) ?_
  refine lv_bipush (v := (-9 : Int32)) hx hb dX6_wed_32 (by decide) ?_
  refine lv_icmp_eq (tgt := 54) hx hb dX6_wed_34 (by decide) (fun c703 => ?_) (fun c703 => ?_)
  · have hf := ifT hf c703
    refine lv_aload_n hx hb dX6_wed_54 rfl (lv_at hl 3 rfl) ?_
    refine lv_iload_n hx hb dX6_wed_55 rfl (lv_at hl 1 rfl) ?_
    obtain ⟨q704, hq704, hf⟩ := bnd hf
    refine fc_callV (Wa' := (vW G a v)) (st1 := [.int q704]) (As := [.int q701]) (rest := []) hCF (k_X6_choiceFrom a v q701 hq704) (cwV 1 hts gX6_wed_X6_choiceFrom rfl rfl rfl ⟨rfl, dk_X6_choiceFrom⟩ ⟨Nat.le_of_ble_eq_true rfl, Nat.le_of_ble_eq_true rfl⟩) hE hAB hP hD hS [0, 1, 2, 3, 4, 5, 6, 7] vW_d (vW_c G a v) (va_recv hE.1 hP (ci := 3) (q0 := 0) rfl (vW_o G a v)) (vW_f G a v v) (vW_s G a v v) rfl rfl hl.1 rfl (Nat.le_of_ble_eq_true rfl) dX6_wed_56 ⟨Nat.le_refl _, Nat.le_refl _⟩ (fun H locs hP hD hS => ?_)
    refine lv_iload_n hx hb dX6_wed_59 rfl (lv_at hl 2 rfl) ?_
    obtain ⟨q705, hq705, hf⟩ := bnd hf
    refine fc_callS (Wa' := (vW G a v)) (st1 := [.int q705]) (As := [.int q704, .int q699]) (rest := []) hCF (k_X6_takenOf q704 q699 hq705) (va_cwS 2 hts gX6_wed_X6_takenOf rfl rfl rfl dk_X6_takenOf ⟨Nat.le_of_ble_eq_true rfl, Nat.le_of_ble_eq_true rfl⟩) hE hAB hP hD hS [] rfl rfl rfl rfl rfl rfl hl.1 rfl (Nat.le_of_ble_eq_true rfl) dX6_wed_60 ⟨Nat.le_refl _, Nat.le_refl _⟩ (fun H locs hP hD hS => ?_)
    refine lv_istore (lv' := [(5, .int q705), (4, .int q702), (3, .int q701), (2, .int q699), (0, .ref (a 0)), (1, .int x1)]) hx hb dX6_wed_63 hl (by decide) rfl (fun ls hl => ?_)
    refine lv_iload hx hb dX6_wed_65 (lv_at hl 0 rfl) ?_
    refine lv_bipush (v := (-9 : Int32)) hx hb dX6_wed_67 (by decide) ?_
    refine lv_icmp_ne (tgt := 75) hx hb dX6_wed_69 (by decide) (fun c706 => ?_) (fun c706 => ?_)
    · have hf := ifF hf c706
      refine lv_aload_n hx hb dX6_wed_75 rfl (lv_at hl 4 rfl) ?_
      refine lv_dup hx hb dX6_wed_76 rfl ?_
      refine fc_get (v := .int (v 7 2)) (ci := 3) (C := RX6) (T := TX6) (N := 12) hx hb hwX6 hown hE hP 0 (vW_o G a v) rfl 6 (by decide) hk_fieldLink_RX6_44__BrideNotKnown_Valley___marriedBrides___I_ (fun _ h => h) rfl dX6_wed_77 ?_
      refine lv_iconst (v := (1 : Int32)) hx hb dX6_wed_80 (by decide) ?_
      refine lv_iload hx hb dX6_wed_81 (lv_at hl 0 rfl) ?_
      refine lv_ishl hx hb dX6_wed_83 ?_
      refine lv_ior hx hb dX6_wed_84 ?_
      refine fc_put (Wa' := (vW G a (sA v 7 (upd (v 7) 2 ((v 7 2) ||| ((1 : Int32) <<< (q705 &&& 31))))))) (ci := 3) (C := RX6) (T := TX6) (N := 12) hx hb hwX6 tyX6 tyX6_ok nmX6 hown hE hP hD hS 0 (vW_o G a v) rfl 6 (by decide) hk_fieldLink_RX6_44__BrideNotKnown_Valley___marriedBrides___I_ (fun _ h => h) rfl rfl rfl (Nat.le_of_ble_eq_true rfl) dX6_wed_85 (vW_p6 G a v ((v 7 2) ||| ((1 : Int32) <<< (q705 &&& 31)))) (fun H locs hP hD hS => ?_)
      refine lv_aload_n hx hb dX6_wed_88 rfl (lv_at hl 4 rfl) ?_
      refine lv_dup hx hb dX6_wed_89 rfl ?_
      refine fc_get (v := .int (v 7 4)) (ci := 3) (C := RX6) (T := TX6) (N := 12) hx hb hwX6 hown hE hP 0 (vW_o G a (sA v 7 (upd (v 7) 2 ((v 7 2) ||| ((1 : Int32) <<< (q705 &&& 31)))))) rfl 11 (by decide) hk_fieldLink_RX6_50__BrideNotKnown_Valley___marriedGrooms___I_ (fun _ h => h) rfl dX6_wed_90 ?_
      refine lv_iconst (v := (1 : Int32)) hx hb dX6_wed_93 (by decide) ?_
      refine lv_iload_n hx hb dX6_wed_94 rfl (lv_at hl 5 rfl) ?_
      refine lv_ishl hx hb dX6_wed_95 ?_
      refine lv_ior hx hb dX6_wed_96 ?_
      refine fc_put (Wa' := (vW G a (sA (sA v 7 (upd (v 7) 2 ((v 7 2) ||| ((1 : Int32) <<< (q705 &&& 31))))) 7 (upd (upd (v 7) 2 ((v 7 2) ||| ((1 : Int32) <<< (q705 &&& 31)))) 4 ((v 7 4) ||| ((1 : Int32) <<< (x1 &&& 31))))))) (ci := 3) (C := RX6) (T := TX6) (N := 12) hx hb hwX6 tyX6 tyX6_ok nmX6 hown hE hP hD hS 0 (vW_o G a (sA v 7 (upd (v 7) 2 ((v 7 2) ||| ((1 : Int32) <<< (q705 &&& 31)))))) rfl 11 (by decide) hk_fieldLink_RX6_50__BrideNotKnown_Valley___marriedGrooms___I_ (fun _ h => h) rfl rfl rfl (Nat.le_of_ble_eq_true rfl) dX6_wed_97 (vW_p11 G a (sA v 7 (upd (v 7) 2 ((v 7 2) ||| ((1 : Int32) <<< (q705 &&& 31))))) ((v 7 4) ||| ((1 : Int32) <<< (x1 &&& 31)))) (fun H locs hP hD hS => ?_)
      refine lv_bipush (v := (100 : Int32)) hx hb dX6_wed_100 (by decide) ?_
      refine lv_iload hx hb dX6_wed_102 (lv_at hl 0 rfl) ?_
      refine lv_iadd hx hb dX6_wed_104 ?_
      exact fc_reti hx hb hr hlocks hP hS dX6_wed_105 (i2a hf) (congrArg (fun z => (vW G a z)) (i2b hf))
    · have hf := ifT hf c706
      refine lv_bipush (v := (-9 : Int32)) hx hb dX6_wed_72 (by decide) ?_
      exact fc_reti hx hb hr hlocks hP hS dX6_wed_74 (i2a hf) (congrArg (fun z => (vW G a z)) (i2b hf))
  · have hf := ifF hf c703
    refine lv_aload_n hx hb dX6_wed_37 rfl (lv_at hl 3 rfl) ?_
    refine fc_get (v := .ref (a 4)) (ci := 3) (C := RX6) (T := TX6) (N := 12) hx hb hwX6 hown hE hP 0 (vW_o G a v) rfl 5 (by decide) hk_fieldLink_RX6_21__BrideNotKnown_Valley___sentYears____I_ (fun _ h => h) rfl dX6_wed_38 ?_
    refine lv_iload hx hb dX6_wed_41 (lv_at hl 0 rfl) ?_
    refine lv_iconst (v := (1 : Int32)) hx hb dX6_wed_43 (by decide) ?_
    refine lv_iload_n hx hb dX6_wed_44 rfl (lv_at hl 2 rfl) ?_
    refine lv_iconst (v := (3 : Int32)) hx hb dX6_wed_45 (by decide) ?_
    refine lv_idiv hx hb dX6_wed_46 (by decide) ?_
    refine lv_iadd hx hb dX6_wed_47 ?_
    obtain ⟨q707, hq707, hf⟩ := bnd hf
    refine fc_callN (Wa' := (vW G a (sA v 3 q707))) (st1 := []) (As := [.ref (a 4), .int q702, .int ((1 : Int32) + (q699 / (3 : Int32)))]) (rest := []) hCF (k_X7_put (a 4) 8 (v 3) q702 ((1 : Int32) + (q699 / (3 : Int32))) hq707) ⟨va_cnB 3 hts gX6_wed_X7_put_n65 rfl rfl rfl (hE.2.1 _ (List.mem_of_getElem? (i := 7) rfl)) hk_initialized_RX7 dk_X7_put ⟨Nat.le_of_ble_eq_true rfl, Nat.le_of_ble_eq_true rfl⟩, hk_static_yX7_put, trivial⟩ hE hAB hP hD hS [4] rfl (vW_ca4 G a v) (aW_f G (a 4) 8 (v 3) q707) (vW_sa4 G a v q707) rfl rfl hl.1 rfl (Nat.le_of_ble_eq_true rfl) dX6_wed_48 ⟨Nat.le_refl _, Nat.le_refl _⟩ (fun H locs hP hD hS => ?_)
    refine lv_iload hx hb dX6_wed_51 (lv_at hl 0 rfl) ?_
    exact fc_reti hx hb hr hlocks hP hS dX6_wed_53 (i2a hf) (congrArg (fun z => (vW G a z)) (i2b hf))
theorem dk_X6_canPass : yX6_canPass.cls ≠ "java/lang/invoke/MethodHandle" ∧ yX6_canPass.cls ≠ "java/lang/invoke/VarHandle" ∧ (parseMethodDescriptor yX6_canPass.desc).map (fun d => d.parameters.length) = some 1 := by decide +kernel
theorem iu_X6_canPass_X6 : ∀ w ∈ u_ws RX6 TX6 12, w ∈ wsX6_canPass := by decide +kernel
set_option maxHeartbeats 4000000 in
set_option maxRecDepth 100000 in
theorem k_X6_canPass {l : Launch} {G : Gx} (a : Nat → Nat) (v : St) (x1 : Int32) {r : Int32} (hf : f_X6_canPass v x1 = some r) : FC l G yX6_canPass wsX6_canPass ({ frames := 0, cells := 0, slots := 0, locals := 0 } : Room) [.ref (a 0), .int x1] (vW G a v) (vW G a v) (some (.int r)) := by
  refine fc_head (cc := cX6_canPass) (maxL := 2) (ret := (some .boolean)) (C := RX6) (lv := [(0, .ref (a 0)), (1, .int x1)]) (by decide) rfl rfl (Nat.le_of_ble_eq_true rfl) rfl ?_
  intro p e s m below meth c ls A hx hb hr hml hown hts hlocks hE hP hD hAB hS hl
  have hCF : CallFix p m c cX6_canPass 2 s ([.ref (a 0), .int x1] : List Value).toArray wsX6_canPass RX6 := ⟨hx, hb, hml, hown, hts⟩
  have hwX6 : ∀ w ∈ u_ws RX6 TX6 12, w.before ([.ref (a 0), .int x1] : List Value).toArray s = true := fun w h => hts w (iu_X6_canPass_X6 w h)
  have hk_fieldLink_RX6_33__BrideNotKnown_Valley___year___I_ := hts (.fieldLink RX6 33 "BrideNotKnown$Valley" "year" "I") (List.mem_of_getElem? (i := 1) rfl)
  rw [f_X6_canPass] at hf
  refine lv_aload_n hx hb dX6_canPass_0 rfl (lv_at hl 0 rfl) ?_
  refine fc_get (v := .int (v 7 0)) (ci := 3) (C := RX6) (T := TX6) (N := 12) hx hb hwX6 hown hE hP 0 (vW_o G a v) rfl 0 (by decide) hk_fieldLink_RX6_33__BrideNotKnown_Valley___year___I_ (fun _ h => h) rfl dX6_canPass_1 ?_
  refine lv_iload_n hx hb dX6_canPass_4 rfl (lv_at hl 1 rfl) ?_
  refine lv_iadd hx hb dX6_canPass_5 ?_
  refine lv_sipush (v := (999 : Int32)) hx hb dX6_canPass_6 (by decide) ?_
  refine lv_icmp_gt (tgt := 16) hx hb dX6_canPass_9 (by decide) (fun c708 => ?_) (fun c708 => ?_)
  · have hf := ifT hf c708
    refine lv_iconst (v := (0 : Int32)) hx hb dX6_canPass_16 (by decide) ?_
    exact fc_retz hx hb hr hlocks hP hS dX6_canPass_17 (by decide) (i1 hf) rfl
  · have hf := ifF hf c708
    refine lv_iconst (v := (1 : Int32)) hx hb dX6_canPass_12 (by decide) ?_
    refine lv_goto (tgt := 17) hx hb dX6_canPass_13 (by decide) ?_
    exact fc_retz hx hb hr hlocks hP hS dX6_canPass_17 (by decide) (i1 hf) rfl
theorem dk_X6_sentFor : yX6_sentFor.cls ≠ "java/lang/invoke/MethodHandle" ∧ yX6_sentFor.cls ≠ "java/lang/invoke/VarHandle" ∧ (parseMethodDescriptor yX6_sentFor.desc).map (fun d => d.parameters.length) = some 1 := by decide +kernel
theorem iu_X6_sentFor_X6 : ∀ w ∈ u_ws RX6 TX6 12, w ∈ wsX6_sentFor := by decide +kernel
set_option maxHeartbeats 4000000 in
set_option maxRecDepth 100000 in
theorem k_X6_sentFor {l : Launch} {G : Gx} (a : Nat → Nat) (v : St) (x1 : Int32) {r : Int32} (hf : f_X6_sentFor v x1 = some r) : FC l G yX6_sentFor wsX6_sentFor ({ frames := 1, cells := 0, slots := 0, locals := 21 } : Room) [.ref (a 0), .int x1] (vW G a v) (vW G a v) (some (.int r)) := by
  refine fc_head (cc := cX6_sentFor) (maxL := 2) (ret := (some .int)) (C := RX6) (lv := [(0, .ref (a 0)), (1, .int x1)]) (by decide) rfl rfl (Nat.le_of_ble_eq_true rfl) rfl ?_
  intro p e s m below meth c ls A hx hb hr hml hown hts hlocks hE hP hD hAB hS hl
  have hCF : CallFix p m c cX6_sentFor 2 s ([.ref (a 0), .int x1] : List Value).toArray wsX6_sentFor RX6 := ⟨hx, hb, hml, hown, hts⟩
  have hwX6 : ∀ w ∈ u_ws RX6 TX6 12, w.before ([.ref (a 0), .int x1] : List Value).toArray s = true := fun w h => hts w (iu_X6_sentFor_X6 w h)
  have hk_fieldLink_RX6_21__BrideNotKnown_Valley___sentYears____I_ := hts (.fieldLink RX6 21 "BrideNotKnown$Valley" "sentYears" "[I") (List.mem_of_getElem? (i := 1) rfl)
  have hk_initialized_RX7 := hts (.initialized RX7) (List.mem_of_getElem? (i := 3) rfl)
  have hk_static_yX7_at := hts (.static yX7_at) (List.mem_of_getElem? (i := 2) rfl)
  rw [f_X6_sentFor] at hf
  refine lv_aload_n hx hb dX6_sentFor_0 rfl (lv_at hl 0 rfl) ?_
  refine fc_get (v := .ref (a 4)) (ci := 3) (C := RX6) (T := TX6) (N := 12) hx hb hwX6 hown hE hP 0 (vW_o G a v) rfl 5 (by decide) hk_fieldLink_RX6_21__BrideNotKnown_Valley___sentYears____I_ (fun _ h => h) rfl dX6_sentFor_1 ?_
  refine lv_iload_n hx hb dX6_sentFor_4 rfl (lv_at hl 1 rfl) ?_
  obtain ⟨q710, hq710, hf⟩ := bnd hf
  refine fc_callN (Wa' := (vW G a v)) (st1 := [.int q710]) (As := [.ref (a 4), .int x1]) (rest := []) hCF (k_X7_at (a 4) 8 (v 3) x1 hq710) ⟨va_cnB 2 hts gX6_sentFor_X7_at_n53 rfl rfl rfl (hE.2.1 _ (List.mem_of_getElem? (i := 8) rfl)) hk_initialized_RX7 dk_X7_at ⟨Nat.le_of_ble_eq_true rfl, Nat.le_of_ble_eq_true rfl⟩, hk_static_yX7_at, trivial⟩ hE hAB hP hD hS [4] rfl (vW_ca4 G a v) (aW_f G (a 4) 8 (v 3) (v 3)) (vW_ia4 G a v) rfl rfl hl.1 rfl (Nat.le_of_ble_eq_true rfl) dX6_sentFor_5 ⟨Nat.le_refl _, Nat.le_refl _⟩ (fun H locs hP hD hS => ?_)
  exact fc_reti hx hb hr hlocks hP hS dX6_sentFor_8 (i1 hf) rfl
theorem dk_X6_liquorOf : yX6_liquorOf.cls ≠ "java/lang/invoke/MethodHandle" ∧ yX6_liquorOf.cls ≠ "java/lang/invoke/VarHandle" ∧ (parseMethodDescriptor yX6_liquorOf.desc).map (fun d => d.parameters.length) = some 1 := by decide +kernel
theorem iu_X6_liquorOf_X6 : ∀ w ∈ u_ws RX6 TX6 12, w ∈ wsX6_liquorOf := by decide +kernel
set_option maxHeartbeats 4000000 in
set_option maxRecDepth 100000 in
theorem k_X6_liquorOf {l : Launch} {G : Gx} (a : Nat → Nat) (v : St) (x1 : Int32) {r : Int32} (hf : f_X6_liquorOf v x1 = some r) : FC l G yX6_liquorOf wsX6_liquorOf ({ frames := 1, cells := 0, slots := 0, locals := 21 } : Room) [.ref (a 0), .int x1] (vW G a v) (vW G a v) (some (.int r)) := by
  refine fc_head (cc := cX6_liquorOf) (maxL := 2) (ret := (some .int)) (C := RX6) (lv := [(0, .ref (a 0)), (1, .int x1)]) (by decide) rfl rfl (Nat.le_of_ble_eq_true rfl) rfl ?_
  intro p e s m below meth c ls A hx hb hr hml hown hts hlocks hE hP hD hAB hS hl
  have hCF : CallFix p m c cX6_liquorOf 2 s ([.ref (a 0), .int x1] : List Value).toArray wsX6_liquorOf RX6 := ⟨hx, hb, hml, hown, hts⟩
  have hwX6 : ∀ w ∈ u_ws RX6 TX6 12, w.before ([.ref (a 0), .int x1] : List Value).toArray s = true := fun w h => hts w (iu_X6_liquorOf_X6 w h)
  have hk_fieldLink_RX6_30__BrideNotKnown_Valley___liquors____I_ := hts (.fieldLink RX6 30 "BrideNotKnown$Valley" "liquors" "[I") (List.mem_of_getElem? (i := 1) rfl)
  have hk_initialized_RX7 := hts (.initialized RX7) (List.mem_of_getElem? (i := 3) rfl)
  have hk_static_yX7_at := hts (.static yX7_at) (List.mem_of_getElem? (i := 2) rfl)
  rw [f_X6_liquorOf] at hf
  refine lv_aload_n hx hb dX6_liquorOf_0 rfl (lv_at hl 0 rfl) ?_
  refine fc_get (v := .ref (a 7)) (ci := 3) (C := RX6) (T := TX6) (N := 12) hx hb hwX6 hown hE hP 0 (vW_o G a v) rfl 10 (by decide) hk_fieldLink_RX6_30__BrideNotKnown_Valley___liquors____I_ (fun _ h => h) rfl dX6_liquorOf_1 ?_
  refine lv_iload_n hx hb dX6_liquorOf_4 rfl (lv_at hl 1 rfl) ?_
  obtain ⟨q712, hq712, hf⟩ := bnd hf
  refine fc_callN (Wa' := (vW G a v)) (st1 := [.int q712]) (As := [.ref (a 7), .int x1]) (rest := []) hCF (k_X7_at (a 7) 5 (v 6) x1 hq712) ⟨va_cnB 2 hts gX6_liquorOf_X7_at_n53 rfl rfl rfl (hE.2.1 _ (List.mem_of_getElem? (i := 8) rfl)) hk_initialized_RX7 dk_X7_at ⟨Nat.le_of_ble_eq_true rfl, Nat.le_of_ble_eq_true rfl⟩, hk_static_yX7_at, trivial⟩ hE hAB hP hD hS [7] rfl (vW_ca7 G a v) (aW_f G (a 7) 5 (v 6) (v 6)) (vW_ia7 G a v) rfl rfl hl.1 rfl (Nat.le_of_ble_eq_true rfl) dX6_liquorOf_5 ⟨Nat.le_refl _, Nat.le_refl _⟩ (fun H locs hP hD hS => ?_)
  exact fc_reti hx hb hr hlocks hP hS dX6_liquorOf_8 (i1 hf) rfl
theorem dk_X6_passYears : yX6_passYears.cls ≠ "java/lang/invoke/MethodHandle" ∧ yX6_passYears.cls ≠ "java/lang/invoke/VarHandle" ∧ (parseMethodDescriptor yX6_passYears.desc).map (fun d => d.parameters.length) = some 1 := by decide +kernel
theorem iu_X6_passYears_X6 : ∀ w ∈ u_ws RX6 TX6 12, w ∈ wsX6_passYears := by decide +kernel
set_option maxHeartbeats 4000000 in
set_option maxRecDepth 100000 in
theorem k_X6_passYears {l : Launch} {G : Gx} (a : Nat → Nat) (v : St) (x1 : Int32) {v' : St} (hf : f_X6_passYears v x1 = some v') : FC l G yX6_passYears wsX6_passYears ({ frames := 2, cells := 0, slots := 0, locals := 44 } : Room) [.ref (a 0), .int x1] (vW G a v) (vW G a v') none := by
  refine fc_head (cc := cX6_passYears) (maxL := 3) (ret := none) (C := RX6) (lv := [(0, .ref (a 0)), (1, .int x1)]) (by decide) rfl rfl (Nat.le_of_ble_eq_true rfl) rfl ?_
  intro p e s m below meth c ls A hx hb hr hml hown hts hlocks hE hP hD hAB hS hl
  have hCF : CallFix p m c cX6_passYears 3 s ([.ref (a 0), .int x1] : List Value).toArray wsX6_passYears RX6 := ⟨hx, hb, hml, hown, hts⟩
  have hwX6 : ∀ w ∈ u_ws RX6 TX6 12, w.before ([.ref (a 0), .int x1] : List Value).toArray s = true := fun w h => hts w (iu_X6_passYears_X6 w h)
  have hk_fieldLink_RX6_33__BrideNotKnown_Valley___year___I_ := hts (.fieldLink RX6 33 "BrideNotKnown$Valley" "year" "I") (List.mem_of_getElem? (i := 1) rfl)
  have hk_fieldLink_RX6_37__BrideNotKnown_Valley___brideCount___I_ := hts (.fieldLink RX6 37 "BrideNotKnown$Valley" "brideCount" "I") (List.mem_of_getElem? (i := 2) rfl)
  have hk_fieldLink_RX6_21__BrideNotKnown_Valley___sentYears____I_ := hts (.fieldLink RX6 21 "BrideNotKnown$Valley" "sentYears" "[I") (List.mem_of_getElem? (i := 3) rfl)
  have hk_methodLink_RX6_86_Lib_Math_max_name := hts (.methodLink RX6 86 Lib.Math.max.name) (List.mem_of_getElem? (i := 4) rfl)
  have hk_static_Lib_Math_max_name := hts (.static Lib.Math.max.name) (List.mem_of_getElem? (i := 5) rfl)
  have hk_initialized__java_lang_Math_ := hts (.initialized "java/lang/Math") (List.mem_of_getElem? (i := 6) rfl)
  have hk_code_Lib_Math_max_name_Lib_Math_max_code_2__some__int_ := hts (.code Lib.Math.max.name Lib.Math.max.code 2 (some .int)) (List.mem_of_getElem? (i := 7) rfl)
  have hk_initialized_RX7 := hts (.initialized RX7) (List.mem_of_getElem? (i := 15) rfl)
  have hk_static_yX7_put := hts (.static yX7_put) (List.mem_of_getElem? (i := 17) rfl)
  have hk_fieldLink_RX6_47__BrideNotKnown_Valley___groomCount___I_ := hts (.fieldLink RX6 47 "BrideNotKnown$Valley" "groomCount" "I") (List.mem_of_getElem? (i := 8) rfl)
  rw [f_X6_passYears] at hf
  refine lv_aload_n hx hb dX6_passYears_0 rfl (lv_at hl 0 rfl) ?_
  refine lv_dup hx hb dX6_passYears_1 rfl ?_
  refine fc_get (v := .int (v 7 0)) (ci := 3) (C := RX6) (T := TX6) (N := 12) hx hb hwX6 hown hE hP 0 (vW_o G a v) rfl 0 (by decide) hk_fieldLink_RX6_33__BrideNotKnown_Valley___year___I_ (fun _ h => h) rfl dX6_passYears_2 ?_
  refine lv_iload_n hx hb dX6_passYears_5 rfl (lv_at hl 1 rfl) ?_
  refine lv_iadd hx hb dX6_passYears_6 ?_
  refine fc_put (Wa' := (vW G a (sA v 7 (upd (v 7) 0 ((v 7 0) + x1))))) (ci := 3) (C := RX6) (T := TX6) (N := 12) hx hb hwX6 tyX6 tyX6_ok nmX6 hown hE hP hD hS 0 (vW_o G a v) rfl 0 (by decide) hk_fieldLink_RX6_33__BrideNotKnown_Valley___year___I_ (fun _ h => h) rfl rfl rfl (Nat.le_of_ble_eq_true rfl) dX6_passYears_7 (vW_p0 G a v ((v 7 0) + x1)) (fun H locs hP hD hS => ?_)
  refine lv_iconst (v := (0 : Int32)) hx hb dX6_passYears_10 (by decide) ?_
  refine lv_istore_n (lv' := [(2, .int (0 : Int32)), (0, .ref (a 0)), (1, .int x1)]) hx hb dX6_passYears_11 rfl hl (by decide) rfl (fun ls hl => ?_)
  have L12_720 : ∀ (K12_45 : St → Option (St)) (hK12_45 : ∀ (v_721 : St) (H : Heap) (locs : List Loc) (ls : Array Slot), va_P (gD G) vwCl (vW G a v_721) H → va_D A (vW G a v_721) → va_S A s.heap H locs → lv_has ls 3 [(0, .ref (a 0)), (1, .int x1)] → K12_45 v_721 = some v' → W p l e (headSpec wsX6_passYears ({ frames := 2, cells := 0, slots := 0, locals := 44 } : Room)).room s m ([.ref (a 0), .int x1] : List Value).toArray below meth c H locs 0 0 (MQ below (FQ G A (vW G a v') none) ([.ref (a 0), .int x1] : List Value).toArray s 0 0 A) (F0 m 45 ls [])) (n : Nat) (x2_718 : Int32) (v_719 : St) (H : Heap) (locs : List Loc) (ls : Array Slot), va_P (gD G) vwCl (vW G a v_719) H → va_D A (vW G a v_719) → va_S A s.heap H locs → lv_has ls 3 [(0, .ref (a 0)), (1, .int x1), (2, .int x2_718)] → f_X6_passYears_12 x1 n x2_718 v_719 K12_45 = some v' → W p l e (headSpec wsX6_passYears ({ frames := 2, cells := 0, slots := 0, locals := 44 } : Room)).room s m ([.ref (a 0), .int x1] : List Value).toArray below meth c H locs 0 0 (MQ below (FQ G A (vW G a v') none) ([.ref (a 0), .int x1] : List Value).toArray s 0 0 A) (F0 m 12 ls []) := by
    intro K12_45 hK12_45 n
    induction n with
    | zero =>
      intro x2_718 v_719 H locs ls hP hD hS hl hf
      exact no_some hf
    | succ n ih =>
      intro x2_718 v_719 H locs ls hP hD hS hl hf
      rw [f_X6_passYears_12] at hf
      refine lv_iload_n hx hb dX6_passYears_12 rfl (lv_at hl 2 rfl) ?_
      refine lv_aload_n hx hb dX6_passYears_13 rfl (lv_at hl 0 rfl) ?_
      refine fc_get (v := .int (v_719 7 1)) (ci := 3) (C := RX6) (T := TX6) (N := 12) hx hb hwX6 hown hE hP 0 (vW_o G a v_719) rfl 1 (by decide) hk_fieldLink_RX6_37__BrideNotKnown_Valley___brideCount___I_ (fun _ h => h) rfl dX6_passYears_14 ?_
      refine lv_icmp_ge (tgt := 45) hx hb dX6_passYears_17 (by decide) (fun c722 => ?_) (fun c722 => ?_)
      · have hf := ifT hf c722
        exact hK12_45 v_719 _ _ _ hP hD hS (lv_sub hl [0, 1] rfl) hf
      · have hf := ifF hf c722
        refine lv_aload_n hx hb dX6_passYears_20 rfl (lv_at hl 0 rfl) ?_
        refine fc_get (v := .ref (a 4)) (ci := 3) (C := RX6) (T := TX6) (N := 12) hx hb hwX6 hown hE hP 0 (vW_o G a v_719) rfl 5 (by decide) hk_fieldLink_RX6_21__BrideNotKnown_Valley___sentYears____I_ (fun _ h => h) rfl dX6_passYears_21 ?_
        refine lv_iload_n hx hb dX6_passYears_24 rfl (lv_at hl 2 rfl) ?_
        refine lv_iconst (v := (0 : Int32)) hx hb dX6_passYears_25 (by decide) ?_
        refine lv_aload_n hx hb dX6_passYears_26 rfl (lv_at hl 0 rfl) ?_
        refine lv_iload_n hx hb dX6_passYears_27 rfl (lv_at hl 2 rfl) ?_
        obtain ⟨q723, hq723, hf⟩ := bnd hf
        refine fc_callV (Wa' := (vW G a v_719)) (st1 := [.int q723, .int (0 : Int32), .int x2_718, .ref (a 4)]) (As := [.int x2_718]) (rest := [.int (0 : Int32), .int x2_718, .ref (a 4)]) hCF (k_X6_sentFor a v_719 x2_718 hq723) (cwV 1 hts gX6_passYears_X6_sentFor rfl rfl rfl ⟨rfl, dk_X6_sentFor⟩ ⟨Nat.le_of_ble_eq_true rfl, Nat.le_of_ble_eq_true rfl⟩) hE hAB hP hD hS [0, 1, 2, 3, 4, 5, 6, 7] vW_d (vW_c G a v_719) (va_recv hE.1 hP (ci := 3) (q0 := 0) rfl (vW_o G a v_719)) (vW_f G a v_719 v_719) (vW_s G a v_719 v_719) rfl rfl hl.1 rfl (Nat.le_of_ble_eq_true rfl) dX6_passYears_28 ⟨Nat.le_refl _, Nat.le_refl _⟩ (fun H locs hP hD hS => ?_)
        refine lv_iload_n hx hb dX6_passYears_31 rfl (lv_at hl 1 rfl) ?_
        refine lv_isub hx hb dX6_passYears_32 ?_
        refine va_mmax hx hb (hml.trans hl.1.symm) hown hk_methodLink_RX6_86_Lib_Math_max_name hk_static_Lib_Math_max_name hk_initialized__java_lang_Math_ hk_code_Lib_Math_max_name_Lib_Math_max_code_2__some__int_ (Nat.le_of_ble_eq_true rfl) (Nat.le_of_ble_eq_true rfl) (Nat.zero_le _) (Nat.zero_le _) dX6_passYears_33 ?_
        obtain ⟨q724, hq724, hf⟩ := bnd hf
        refine fc_callN (Wa' := (vW G a (sA v_719 3 q724))) (st1 := []) (As := [.ref (a 4), .int x2_718, .int (if (0 : Int32) < (q723 - x1) then (q723 - x1) else (0 : Int32))]) (rest := []) hCF (k_X7_put (a 4) 8 (v_719 3) x2_718 (if (0 : Int32) < (q723 - x1) then (q723 - x1) else (0 : Int32)) hq724) ⟨va_cnB 3 hts gX6_passYears_X7_put_n65 rfl rfl rfl (hE.2.1 _ (List.mem_of_getElem? (i := 7) rfl)) hk_initialized_RX7 dk_X7_put ⟨Nat.le_of_ble_eq_true rfl, Nat.le_of_ble_eq_true rfl⟩, hk_static_yX7_put, trivial⟩ hE hAB hP hD hS [4] rfl (vW_ca4 G a v_719) (aW_f G (a 4) 8 (v_719 3) q724) (vW_sa4 G a v_719 q724) rfl rfl hl.1 rfl (Nat.le_of_ble_eq_true rfl) dX6_passYears_36 ⟨Nat.le_refl _, Nat.le_refl _⟩ (fun H locs hP hD hS => ?_)
        refine lv_iinc (v := (x2_718 + (1 : Int32))) (lv' := [(2, .int (x2_718 + (1 : Int32))), (0, .ref (a 0)), (1, .int x1)]) hx hb dX6_passYears_39 hl (k := 2) rfl rfl (by decide) rfl (fun ls hl => ?_)
        refine lv_goto (tgt := 12) hx hb dX6_passYears_42 (by decide) ?_
        exact ih (x2_718 + (1 : Int32)) (sA v_719 3 q724) _ _ _ hP hD hS (lv_sub hl [1, 2, 0] rfl) hf
  refine L12_720 _ ?_ FUEL (0 : Int32) (sA v 7 (upd (v 7) 0 ((v 7 0) + x1))) _ _ _ hP hD hS (lv_sub hl [1, 2, 0] rfl) hf
  intro v_725 H locs ls hP hD hS hl hf
  refine lv_iconst (v := (0 : Int32)) hx hb dX6_passYears_45 (by decide) ?_
  refine lv_istore_n (lv' := [(2, .int (0 : Int32)), (0, .ref (a 0)), (1, .int x1)]) hx hb dX6_passYears_46 rfl hl (by decide) rfl (fun ls hl => ?_)
  have L47_728 : ∀ (n : Nat) (x2_726 : Int32) (v_727 : St) (H : Heap) (locs : List Loc) (ls : Array Slot), va_P (gD G) vwCl (vW G a v_727) H → va_D A (vW G a v_727) → va_S A s.heap H locs → lv_has ls 3 [(0, .ref (a 0)), (1, .int x1), (2, .int x2_726)] → f_X6_passYears_47 x1 n x2_726 v_727 = some v' → W p l e (headSpec wsX6_passYears ({ frames := 2, cells := 0, slots := 0, locals := 44 } : Room)).room s m ([.ref (a 0), .int x1] : List Value).toArray below meth c H locs 0 0 (MQ below (FQ G A (vW G a v') none) ([.ref (a 0), .int x1] : List Value).toArray s 0 0 A) (F0 m 47 ls []) := by
    intro n
    induction n with
    | zero =>
      intro x2_726 v_727 H locs ls hP hD hS hl hf
      exact no_some hf
    | succ n ih =>
      intro x2_726 v_727 H locs ls hP hD hS hl hf
      rw [f_X6_passYears_47] at hf
      refine lv_iload_n hx hb dX6_passYears_47 rfl (lv_at hl 2 rfl) ?_
      refine lv_aload_n hx hb dX6_passYears_48 rfl (lv_at hl 0 rfl) ?_
      refine fc_get (v := .int (v_727 7 3)) (ci := 3) (C := RX6) (T := TX6) (N := 12) hx hb hwX6 hown hE hP 0 (vW_o G a v_727) rfl 7 (by decide) hk_fieldLink_RX6_47__BrideNotKnown_Valley___groomCount___I_ (fun _ h => h) rfl dX6_passYears_49 ?_
      refine lv_icmp_ge (tgt := 77) hx hb dX6_passYears_52 (by decide) (fun c729 => ?_) (fun c729 => ?_)
      · have hf := ifT hf c729
        exact fc_retv hx hb hr hlocks hP hS dX6_passYears_77 (congrArg (fun z => (vW G a z)) (i1 hf))
      · have hf := ifF hf c729
        refine lv_aload_n hx hb dX6_passYears_55 rfl (lv_at hl 0 rfl) ?_
        refine lv_iload_n hx hb dX6_passYears_56 rfl (lv_at hl 2 rfl) ?_
        refine lv_iconst (v := (0 : Int32)) hx hb dX6_passYears_57 (by decide) ?_
        refine lv_aload_n hx hb dX6_passYears_58 rfl (lv_at hl 0 rfl) ?_
        refine lv_iload_n hx hb dX6_passYears_59 rfl (lv_at hl 2 rfl) ?_
        obtain ⟨q730, hq730, hf⟩ := bnd hf
        refine fc_callV (Wa' := (vW G a v_727)) (st1 := [.int q730, .int (0 : Int32), .int x2_726, .ref (a 0)]) (As := [.int x2_726]) (rest := [.int (0 : Int32), .int x2_726, .ref (a 0)]) hCF (k_X6_liquorOf a v_727 x2_726 hq730) (cwV 1 hts gX6_passYears_X6_liquorOf rfl rfl rfl ⟨rfl, dk_X6_liquorOf⟩ ⟨Nat.le_of_ble_eq_true rfl, Nat.le_of_ble_eq_true rfl⟩) hE hAB hP hD hS [0, 1, 2, 3, 4, 5, 6, 7] vW_d (vW_c G a v_727) (va_recv hE.1 hP (ci := 3) (q0 := 0) rfl (vW_o G a v_727)) (vW_f G a v_727 v_727) (vW_s G a v_727 v_727) rfl rfl hl.1 rfl (Nat.le_of_ble_eq_true rfl) dX6_passYears_60 ⟨Nat.le_refl _, Nat.le_refl _⟩ (fun H locs hP hD hS => ?_)
        refine lv_iload_n hx hb dX6_passYears_63 rfl (lv_at hl 1 rfl) ?_
        refine lv_isub hx hb dX6_passYears_64 ?_
        refine va_mmax hx hb (hml.trans hl.1.symm) hown hk_methodLink_RX6_86_Lib_Math_max_name hk_static_Lib_Math_max_name hk_initialized__java_lang_Math_ hk_code_Lib_Math_max_name_Lib_Math_max_code_2__some__int_ (Nat.le_of_ble_eq_true rfl) (Nat.le_of_ble_eq_true rfl) (Nat.zero_le _) (Nat.zero_le _) dX6_passYears_65 ?_
        obtain ⟨q731, hq731, hf⟩ := bnd hf
        refine fc_callV (Wa' := (vW G a q731)) (st1 := []) (As := [.int x2_726, .int (if (0 : Int32) < (q730 - x1) then (q730 - x1) else (0 : Int32))]) (rest := []) hCF (k_X6_setLiquor a v_727 x2_726 (if (0 : Int32) < (q730 - x1) then (q730 - x1) else (0 : Int32)) hq731) (cwV 2 hts gX6_passYears_X6_setLiquor rfl rfl rfl ⟨rfl, dk_X6_setLiquor⟩ ⟨Nat.le_of_ble_eq_true rfl, Nat.le_of_ble_eq_true rfl⟩) hE hAB hP hD hS [0, 1, 2, 3, 4, 5, 6, 7] vW_d (vW_c G a v_727) (va_recv hE.1 hP (ci := 3) (q0 := 0) rfl (vW_o G a v_727)) (vW_f G a v_727 q731) (vW_s G a v_727 q731) rfl rfl hl.1 rfl (Nat.le_of_ble_eq_true rfl) dX6_passYears_68 ⟨Nat.le_refl _, Nat.le_refl _⟩ (fun H locs hP hD hS => ?_)
        refine lv_iinc (v := (x2_726 + (1 : Int32))) (lv' := [(2, .int (x2_726 + (1 : Int32))), (0, .ref (a 0)), (1, .int x1)]) hx hb dX6_passYears_71 hl (k := 2) rfl rfl (by decide) rfl (fun ls hl => ?_)
        refine lv_goto (tgt := 47) hx hb dX6_passYears_74 (by decide) ?_
        exact ih (x2_726 + (1 : Int32)) q731 _ _ _ hP hD hS (lv_sub hl [1, 2, 0] rfl) hf
  exact L47_728 FUEL (0 : Int32) v_725 _ _ _ hP hD hS (lv_sub hl [1, 2, 0] rfl) hf
theorem dk_X6_allLiquor : yX6_allLiquor.cls ≠ "java/lang/invoke/MethodHandle" ∧ yX6_allLiquor.cls ≠ "java/lang/invoke/VarHandle" ∧ (parseMethodDescriptor yX6_allLiquor.desc).map (fun d => d.parameters.length) = some 0 := by decide +kernel
theorem iu_X6_allLiquor_X6 : ∀ w ∈ u_ws RX6 TX6 12, w ∈ wsX6_allLiquor := by decide +kernel
set_option maxHeartbeats 4000000 in
set_option maxRecDepth 100000 in
theorem k_X6_allLiquor {l : Launch} {G : Gx} (a : Nat → Nat) (v : St) {r : Int32} (hf : f_X6_allLiquor v = some r) : FC l G yX6_allLiquor wsX6_allLiquor ({ frames := 2, cells := 0, slots := 0, locals := 42 } : Room) [.ref (a 0)] (vW G a v) (vW G a v) (some (.int r)) := by
  refine fc_head (cc := cX6_allLiquor) (maxL := 3) (ret := (some .int)) (C := RX6) (lv := [(0, .ref (a 0))]) (by decide) rfl rfl (Nat.le_of_ble_eq_true rfl) rfl ?_
  intro p e s m below meth c ls A hx hb hr hml hown hts hlocks hE hP hD hAB hS hl
  have hCF : CallFix p m c cX6_allLiquor 3 s ([.ref (a 0)] : List Value).toArray wsX6_allLiquor RX6 := ⟨hx, hb, hml, hown, hts⟩
  have hwX6 : ∀ w ∈ u_ws RX6 TX6 12, w.before ([.ref (a 0)] : List Value).toArray s = true := fun w h => hts w (iu_X6_allLiquor_X6 w h)
  have hk_fieldLink_RX6_47__BrideNotKnown_Valley___groomCount___I_ := hts (.fieldLink RX6 47 "BrideNotKnown$Valley" "groomCount" "I") (List.mem_of_getElem? (i := 1) rfl)
  rw [f_X6_allLiquor] at hf
  refine lv_iconst (v := (0 : Int32)) hx hb dX6_allLiquor_0 (by decide) ?_
  refine lv_istore_n (lv' := [(1, .int (0 : Int32)), (0, .ref (a 0))]) hx hb dX6_allLiquor_1 rfl hl (by decide) rfl (fun ls hl => ?_)
  refine lv_iconst (v := (0 : Int32)) hx hb dX6_allLiquor_2 (by decide) ?_
  refine lv_istore_n (lv' := [(2, .int (0 : Int32)), (1, .int (0 : Int32)), (0, .ref (a 0))]) hx hb dX6_allLiquor_3 rfl hl (by decide) rfl (fun ls hl => ?_)
  have L4_801 : ∀ (n : Nat) (x1_799 : Int32) (x2_800 : Int32) (H : Heap) (locs : List Loc) (ls : Array Slot), va_P (gD G) vwCl (vW G a v) H → va_D A (vW G a v) → va_S A s.heap H locs → lv_has ls 3 [(0, .ref (a 0)), (1, .int x1_799), (2, .int x2_800)] → f_X6_allLiquor_4 v n x1_799 x2_800 = some r → W p l e (headSpec wsX6_allLiquor ({ frames := 2, cells := 0, slots := 0, locals := 42 } : Room)).room s m ([.ref (a 0)] : List Value).toArray below meth c H locs 0 0 (MQ below (FQ G A (vW G a v) (some (.int r))) ([.ref (a 0)] : List Value).toArray s 0 0 A) (F0 m 4 ls []) := by
    intro n
    induction n with
    | zero =>
      intro x1_799 x2_800 H locs ls hP hD hS hl hf
      exact no_some hf
    | succ n ih =>
      intro x1_799 x2_800 H locs ls hP hD hS hl hf
      rw [f_X6_allLiquor_4] at hf
      refine lv_iload_n hx hb dX6_allLiquor_4 rfl (lv_at hl 2 rfl) ?_
      refine lv_aload_n hx hb dX6_allLiquor_5 rfl (lv_at hl 0 rfl) ?_
      refine fc_get (v := .int (v 7 3)) (ci := 3) (C := RX6) (T := TX6) (N := 12) hx hb hwX6 hown hE hP 0 (vW_o G a v) rfl 7 (by decide) hk_fieldLink_RX6_47__BrideNotKnown_Valley___groomCount___I_ (fun _ h => h) rfl dX6_allLiquor_6 ?_
      refine lv_icmp_ge (tgt := 26) hx hb dX6_allLiquor_9 (by decide) (fun c802 => ?_) (fun c802 => ?_)
      · have hf := ifT hf c802
        refine lv_iload_n hx hb dX6_allLiquor_26 rfl (lv_at hl 1 rfl) ?_
        exact fc_reti hx hb hr hlocks hP hS dX6_allLiquor_27 (i1 hf) rfl
      · have hf := ifF hf c802
        refine lv_iload_n hx hb dX6_allLiquor_12 rfl (lv_at hl 1 rfl) ?_
        refine lv_aload_n hx hb dX6_allLiquor_13 rfl (lv_at hl 0 rfl) ?_
        refine lv_iload_n hx hb dX6_allLiquor_14 rfl (lv_at hl 2 rfl) ?_
        obtain ⟨q803, hq803, hf⟩ := bnd hf
        refine fc_callV (Wa' := (vW G a v)) (st1 := [.int q803, .int x1_799]) (As := [.int x2_800]) (rest := [.int x1_799]) hCF (k_X6_liquorOf a v x2_800 hq803) (cwV 1 hts gX6_allLiquor_X6_liquorOf rfl rfl rfl ⟨rfl, dk_X6_liquorOf⟩ ⟨Nat.le_of_ble_eq_true rfl, Nat.le_of_ble_eq_true rfl⟩) hE hAB hP hD hS [0, 1, 2, 3, 4, 5, 6, 7] vW_d (vW_c G a v) (va_recv hE.1 hP (ci := 3) (q0 := 0) rfl (vW_o G a v)) (vW_f G a v v) (vW_s G a v v) rfl rfl hl.1 rfl (Nat.le_of_ble_eq_true rfl) dX6_allLiquor_15 ⟨Nat.le_refl _, Nat.le_refl _⟩ (fun H locs hP hD hS => ?_)
        refine lv_iadd hx hb dX6_allLiquor_18 ?_
        refine lv_istore_n (lv' := [(1, .int (x1_799 + q803)), (0, .ref (a 0)), (2, .int x2_800)]) hx hb dX6_allLiquor_19 rfl hl (by decide) rfl (fun ls hl => ?_)
        refine lv_iinc (v := (x2_800 + (1 : Int32))) (lv' := [(2, .int (x2_800 + (1 : Int32))), (1, .int (x1_799 + q803)), (0, .ref (a 0))]) hx hb dX6_allLiquor_20 hl (k := 2) rfl rfl (by decide) rfl (fun ls hl => ?_)
        refine lv_goto (tgt := 4) hx hb dX6_allLiquor_23 (by decide) ?_
        exact ih (x1_799 + q803) (x2_800 + (1 : Int32)) _ _ _ hP hD hS (lv_sub hl [2, 1, 0] rfl) hf
  exact L4_801 FUEL (0 : Int32) (0 : Int32) _ _ _ hP hD hS (lv_sub hl [2, 1, 0] rfl) hf
theorem dk_X6_nextSeed : yX6_nextSeed.cls ≠ "java/lang/invoke/MethodHandle" ∧ yX6_nextSeed.cls ≠ "java/lang/invoke/VarHandle" ∧ (parseMethodDescriptor yX6_nextSeed.desc).map (fun d => d.parameters.length) = some 1 := by decide +kernel
set_option maxHeartbeats 4000000 in
set_option maxRecDepth 100000 in
theorem k_X6_nextSeed {l : Launch} {G : Gx} (x0 : Int32) {r : Int32} (hf : f_X6_nextSeed x0 = some r) : FC l G yX6_nextSeed wsX6_nextSeed ({ frames := 0, cells := 0, slots := 0, locals := 0 } : Room) [.int x0] ([] : va_W) ([] : va_W) (some (.int r)) := by
  refine fc_head (cc := cX6_nextSeed) (maxL := 1) (ret := (some .int)) (C := RX6) (lv := [(0, .int x0)]) (by decide) rfl rfl (Nat.le_of_ble_eq_true rfl) rfl ?_
  intro p e s m below meth c ls A hx hb hr hml hown hts hlocks hE hP hD hAB hS hl
  have hCF : CallFix p m c cX6_nextSeed 1 s ([.int x0] : List Value).toArray wsX6_nextSeed RX6 := ⟨hx, hb, hml, hown, hts⟩
  have hk_constant_RX6_157__1664525_ := hts (.constant RX6 157 (1664525)) (List.mem_of_getElem? (i := 1) rfl)
  have hk_constant_RX6_158__1013904223_ := hts (.constant RX6 158 (1013904223)) (List.mem_of_getElem? (i := 2) rfl)
  rw [f_X6_nextSeed] at hf
  refine lv_iload_n hx hb dX6_nextSeed_0 rfl (lv_at hl 0 rfl) ?_
  refine lv_ldc (v := (1664525 : Int32)) hx hb hown hk_constant_RX6_157__1664525_ dX6_nextSeed_1 ?_
  refine lv_imul hx hb dX6_nextSeed_3 ?_
  refine lv_ldc (v := (1013904223 : Int32)) hx hb hown hk_constant_RX6_158__1013904223_ dX6_nextSeed_4 ?_
  refine lv_iadd hx hb dX6_nextSeed_6 ?_
  exact fc_reti hx hb hr hlocks hP hS dX6_nextSeed_7 (i1 hf) rfl
theorem dk_X6_drawnFoot : yX6_drawnFoot.cls ≠ "java/lang/invoke/MethodHandle" ∧ yX6_drawnFoot.cls ≠ "java/lang/invoke/VarHandle" ∧ (parseMethodDescriptor yX6_drawnFoot.desc).map (fun d => d.parameters.length) = some 1 := by decide +kernel
set_option maxHeartbeats 4000000 in
set_option maxRecDepth 100000 in
theorem k_X6_drawnFoot {l : Launch} {G : Gx} (x0 : Int32) {r : Int32} (hf : f_X6_drawnFoot x0 = some r) : FC l G yX6_drawnFoot wsX6_drawnFoot ({ frames := 0, cells := 0, slots := 0, locals := 0 } : Room) [.int x0] ([] : va_W) ([] : va_W) (some (.int r)) := by
  refine fc_head (cc := cX6_drawnFoot) (maxL := 1) (ret := (some .int)) (C := RX6) (lv := [(0, .int x0)]) (by decide) rfl rfl (Nat.le_of_ble_eq_true rfl) rfl ?_
  intro p e s m below meth c ls A hx hb hr hml hown hts hlocks hE hP hD hAB hS hl
  have hCF : CallFix p m c cX6_drawnFoot 1 s ([.int x0] : List Value).toArray wsX6_drawnFoot RX6 := ⟨hx, hb, hml, hown, hts⟩
  have hk_constant_RX6_159__2147483647_ := hts (.constant RX6 159 (2147483647)) (List.mem_of_getElem? (i := 1) rfl)
  rw [f_X6_drawnFoot] at hf
  refine lv_iload_n hx hb dX6_drawnFoot_0 rfl (lv_at hl 0 rfl) ?_
  refine lv_ldc (v := (2147483647 : Int32)) hx hb hown hk_constant_RX6_159__2147483647_ dX6_drawnFoot_1 ?_
  refine lv_iand hx hb dX6_drawnFoot_3 ?_
  refine lv_sipush (v := (256 : Int32)) hx hb dX6_drawnFoot_4 (by decide) ?_
  refine lv_idiv hx hb dX6_drawnFoot_7 (by decide) ?_
  refine lv_bipush (v := (64 : Int32)) hx hb dX6_drawnFoot_8 (by decide) ?_
  refine lv_irem hx hb dX6_drawnFoot_10 (by decide) ?_
  exact fc_reti hx hb hr hlocks hP hS dX6_drawnFoot_11 (i1 hf) rfl
theorem dk_X6_drawFeetAndMinds : yX6_drawFeetAndMinds.cls ≠ "java/lang/invoke/MethodHandle" ∧ yX6_drawFeetAndMinds.cls ≠ "java/lang/invoke/VarHandle" ∧ (parseMethodDescriptor yX6_drawFeetAndMinds.desc).map (fun d => d.parameters.length) = some 1 := by decide +kernel
theorem iu_X6_drawFeetAndMinds_X6 : ∀ w ∈ u_ws RX6 TX6 12, w ∈ wsX6_drawFeetAndMinds := by decide +kernel
set_option maxHeartbeats 4000000 in
set_option maxRecDepth 100000 in
theorem k_X6_drawFeetAndMinds {l : Launch} {G : Gx} (a : Nat → Nat) (v : St) (x1 : Int32) {r : Int32} {v' : St} (hf : f_X6_drawFeetAndMinds v x1 = some (r, v')) : FC l G yX6_drawFeetAndMinds wsX6_drawFeetAndMinds ({ frames := 2, cells := 0, slots := 0, locals := 44 } : Room) [.ref (a 0), .int x1] (vW G a v) (vW G a v') (some (.int r)) := by
  refine fc_head (cc := cX6_drawFeetAndMinds) (maxL := 4) (ret := (some .int)) (C := RX6) (lv := [(0, .ref (a 0)), (1, .int x1)]) (by decide) rfl rfl (Nat.le_of_ble_eq_true rfl) rfl ?_
  intro p e s m below meth c ls A hx hb hr hml hown hts hlocks hE hP hD hAB hS hl
  have hCF : CallFix p m c cX6_drawFeetAndMinds 4 s ([.ref (a 0), .int x1] : List Value).toArray wsX6_drawFeetAndMinds RX6 := ⟨hx, hb, hml, hown, hts⟩
  have hwX6 : ∀ w ∈ u_ws RX6 TX6 12, w.before ([.ref (a 0), .int x1] : List Value).toArray s = true := fun w h => hts w (iu_X6_drawFeetAndMinds_X6 w h)
  have hk_fieldLink_RX6_37__BrideNotKnown_Valley___brideCount___I_ := hts (.fieldLink RX6 37 "BrideNotKnown$Valley" "brideCount" "I") (List.mem_of_getElem? (i := 1) rfl)
  have hk_fieldLink_RX6_18__BrideNotKnown_Valley___feet____I_ := hts (.fieldLink RX6 18 "BrideNotKnown$Valley" "feet" "[I") (List.mem_of_getElem? (i := 2) rfl)
  have hk_initialized_RX7 := hts (.initialized RX7) (List.mem_of_getElem? (i := 15) rfl)
  have hk_static_yX7_put := hts (.static yX7_put) (List.mem_of_getElem? (i := 14) rfl)
  have hk_fieldLink_RX6_47__BrideNotKnown_Valley___groomCount___I_ := hts (.fieldLink RX6 47 "BrideNotKnown$Valley" "groomCount" "I") (List.mem_of_getElem? (i := 3) rfl)
  rw [f_X6_drawFeetAndMinds] at hf
  refine lv_iload_n hx hb dX6_drawFeetAndMinds_0 rfl (lv_at hl 1 rfl) ?_
  refine lv_istore_n (lv' := [(2, .int x1), (0, .ref (a 0)), (1, .int x1)]) hx hb dX6_drawFeetAndMinds_1 rfl hl (by decide) rfl (fun ls hl => ?_)
  refine lv_iconst (v := (0 : Int32)) hx hb dX6_drawFeetAndMinds_2 (by decide) ?_
  refine lv_istore_n (lv' := [(3, .int (0 : Int32)), (2, .int x1), (0, .ref (a 0)), (1, .int x1)]) hx hb dX6_drawFeetAndMinds_3 rfl hl (by decide) rfl (fun ls hl => ?_)
  have L4_815 : ∀ (K4_35 : Int32 → St → Option (Int32 × St)) (hK4_35 : ∀ (x2_816 : Int32) (v_817 : St) (H : Heap) (locs : List Loc) (ls : Array Slot), va_P (gD G) vwCl (vW G a v_817) H → va_D A (vW G a v_817) → va_S A s.heap H locs → lv_has ls 4 [(0, .ref (a 0)), (2, .int x2_816)] → K4_35 x2_816 v_817 = some (r, v') → W p l e (headSpec wsX6_drawFeetAndMinds ({ frames := 2, cells := 0, slots := 0, locals := 44 } : Room)).room s m ([.ref (a 0), .int x1] : List Value).toArray below meth c H locs 0 0 (MQ below (FQ G A (vW G a v') (some (.int r))) ([.ref (a 0), .int x1] : List Value).toArray s 0 0 A) (F0 m 35 ls [])) (n : Nat) (x2_812 : Int32) (x3_813 : Int32) (v_814 : St) (H : Heap) (locs : List Loc) (ls : Array Slot), va_P (gD G) vwCl (vW G a v_814) H → va_D A (vW G a v_814) → va_S A s.heap H locs → lv_has ls 4 [(0, .ref (a 0)), (2, .int x2_812), (3, .int x3_813)] → f_X6_drawFeetAndMinds_4 n x2_812 x3_813 v_814 K4_35 = some (r, v') → W p l e (headSpec wsX6_drawFeetAndMinds ({ frames := 2, cells := 0, slots := 0, locals := 44 } : Room)).room s m ([.ref (a 0), .int x1] : List Value).toArray below meth c H locs 0 0 (MQ below (FQ G A (vW G a v') (some (.int r))) ([.ref (a 0), .int x1] : List Value).toArray s 0 0 A) (F0 m 4 ls []) := by
    intro K4_35 hK4_35 n
    induction n with
    | zero =>
      intro x2_812 x3_813 v_814 H locs ls hP hD hS hl hf
      exact no_some hf
    | succ n ih =>
      intro x2_812 x3_813 v_814 H locs ls hP hD hS hl hf
      rw [f_X6_drawFeetAndMinds_4] at hf
      refine lv_iload_n hx hb dX6_drawFeetAndMinds_4 rfl (lv_at hl 2 rfl) ?_
      refine lv_aload_n hx hb dX6_drawFeetAndMinds_5 rfl (lv_at hl 0 rfl) ?_
      refine fc_get (v := .int (v_814 7 1)) (ci := 3) (C := RX6) (T := TX6) (N := 12) hx hb hwX6 hown hE hP 0 (vW_o G a v_814) rfl 1 (by decide) hk_fieldLink_RX6_37__BrideNotKnown_Valley___brideCount___I_ (fun _ h => h) rfl dX6_drawFeetAndMinds_6 ?_
      refine lv_icmp_ge (tgt := 35) hx hb dX6_drawFeetAndMinds_9 (by decide) (fun c818 => ?_) (fun c818 => ?_)
      · have hf := ifT hf c818
        exact hK4_35 x2_812 v_814 _ _ _ hP hD hS (lv_sub hl [0, 1] rfl) hf
      · have hf := ifF hf c818
        refine lv_iload_n hx hb dX6_drawFeetAndMinds_12 rfl (lv_at hl 1 rfl) ?_
        obtain ⟨q819, hq819, hf⟩ := bnd hf
        refine fc_callS (Wa' := (vW G a v_814)) (st1 := [.int q819]) (As := [.int x2_812]) (rest := []) hCF (k_X6_nextSeed x2_812 hq819) (va_cwS 1 hts gX6_drawFeetAndMinds_X6_nextSeed rfl rfl rfl dk_X6_nextSeed ⟨Nat.le_of_ble_eq_true rfl, Nat.le_of_ble_eq_true rfl⟩) hE hAB hP hD hS [] rfl rfl rfl rfl rfl rfl hl.1 rfl (Nat.le_of_ble_eq_true rfl) dX6_drawFeetAndMinds_13 ⟨Nat.le_refl _, Nat.le_refl _⟩ (fun H locs hP hD hS => ?_)
        refine lv_istore_n (lv' := [(2, .int q819), (0, .ref (a 0)), (3, .int x3_813)]) hx hb dX6_drawFeetAndMinds_16 rfl hl (by decide) rfl (fun ls hl => ?_)
        refine lv_aload_n hx hb dX6_drawFeetAndMinds_17 rfl (lv_at hl 1 rfl) ?_
        refine fc_get (v := .ref (a 3)) (ci := 3) (C := RX6) (T := TX6) (N := 12) hx hb hwX6 hown hE hP 0 (vW_o G a v_814) rfl 4 (by decide) hk_fieldLink_RX6_18__BrideNotKnown_Valley___feet____I_ (fun _ h => h) rfl dX6_drawFeetAndMinds_18 ?_
        refine lv_iload_n hx hb dX6_drawFeetAndMinds_21 rfl (lv_at hl 2 rfl) ?_
        refine lv_iload_n hx hb dX6_drawFeetAndMinds_22 rfl (lv_at hl 0 rfl) ?_
        obtain ⟨q820, hq820, hf⟩ := bnd hf
        refine fc_callS (Wa' := (vW G a v_814)) (st1 := [.int q820, .int x3_813, .ref (a 3)]) (As := [.int q819]) (rest := [.int x3_813, .ref (a 3)]) hCF (k_X6_drawnFoot q819 hq820) (va_cwS 1 hts gX6_drawFeetAndMinds_X6_drawnFoot rfl rfl rfl dk_X6_drawnFoot ⟨Nat.le_of_ble_eq_true rfl, Nat.le_of_ble_eq_true rfl⟩) hE hAB hP hD hS [] rfl rfl rfl rfl rfl rfl hl.1 rfl (Nat.le_of_ble_eq_true rfl) dX6_drawFeetAndMinds_23 ⟨Nat.le_refl _, Nat.le_refl _⟩ (fun H locs hP hD hS => ?_)
        obtain ⟨q821, hq821, hf⟩ := bnd hf
        refine fc_callN (Wa' := (vW G a (sA v_814 2 q821))) (st1 := []) (As := [.ref (a 3), .int x3_813, .int q820]) (rest := []) hCF (k_X7_put (a 3) 8 (v_814 2) x3_813 q820 hq821) ⟨va_cnB 3 hts gX6_drawFeetAndMinds_X7_put_n65 rfl rfl rfl (hE.2.1 _ (List.mem_of_getElem? (i := 7) rfl)) hk_initialized_RX7 dk_X7_put ⟨Nat.le_of_ble_eq_true rfl, Nat.le_of_ble_eq_true rfl⟩, hk_static_yX7_put, trivial⟩ hE hAB hP hD hS [3] rfl (vW_ca3 G a v_814) (aW_f G (a 3) 8 (v_814 2) q821) (vW_sa3 G a v_814 q821) rfl rfl hl.1 rfl (Nat.le_of_ble_eq_true rfl) dX6_drawFeetAndMinds_26 ⟨Nat.le_refl _, Nat.le_refl _⟩ (fun H locs hP hD hS => ?_)
        refine lv_iinc (v := (x3_813 + (1 : Int32))) (lv' := [(3, .int (x3_813 + (1 : Int32))), (2, .int q819), (0, .ref (a 0))]) hx hb dX6_drawFeetAndMinds_29 hl (k := 2) rfl rfl (by decide) rfl (fun ls hl => ?_)
        refine lv_goto (tgt := 4) hx hb dX6_drawFeetAndMinds_32 (by decide) ?_
        exact ih q819 (x3_813 + (1 : Int32)) (sA v_814 2 q821) _ _ _ hP hD hS (lv_sub hl [2, 1, 0] rfl) hf
  refine L4_815 _ ?_ FUEL x1 (0 : Int32) v _ _ _ hP hD hS (lv_sub hl [2, 1, 0] rfl) hf
  intro x2_822 v_823 H locs ls hP hD hS hl hf
  refine lv_iconst (v := (0 : Int32)) hx hb dX6_drawFeetAndMinds_35 (by decide) ?_
  refine lv_istore_n (lv' := [(3, .int (0 : Int32)), (0, .ref (a 0)), (2, .int x2_822)]) hx hb dX6_drawFeetAndMinds_36 rfl hl (by decide) rfl (fun ls hl => ?_)
  have L37_827 : ∀ (n : Nat) (x2_824 : Int32) (x3_825 : Int32) (v_826 : St) (H : Heap) (locs : List Loc) (ls : Array Slot), va_P (gD G) vwCl (vW G a v_826) H → va_D A (vW G a v_826) → va_S A s.heap H locs → lv_has ls 4 [(0, .ref (a 0)), (2, .int x2_824), (3, .int x3_825)] → f_X6_drawFeetAndMinds_37 n x2_824 x3_825 v_826 = some (r, v') → W p l e (headSpec wsX6_drawFeetAndMinds ({ frames := 2, cells := 0, slots := 0, locals := 44 } : Room)).room s m ([.ref (a 0), .int x1] : List Value).toArray below meth c H locs 0 0 (MQ below (FQ G A (vW G a v') (some (.int r))) ([.ref (a 0), .int x1] : List Value).toArray s 0 0 A) (F0 m 37 ls []) := by
    intro n
    induction n with
    | zero =>
      intro x2_824 x3_825 v_826 H locs ls hP hD hS hl hf
      exact no_some hf
    | succ n ih =>
      intro x2_824 x3_825 v_826 H locs ls hP hD hS hl hf
      rw [f_X6_drawFeetAndMinds_37] at hf
      refine lv_iload_n hx hb dX6_drawFeetAndMinds_37 rfl (lv_at hl 2 rfl) ?_
      refine lv_aload_n hx hb dX6_drawFeetAndMinds_38 rfl (lv_at hl 0 rfl) ?_
      refine fc_get (v := .int (v_826 7 3)) (ci := 3) (C := RX6) (T := TX6) (N := 12) hx hb hwX6 hown hE hP 0 (vW_o G a v_826) rfl 7 (by decide) hk_fieldLink_RX6_47__BrideNotKnown_Valley___groomCount___I_ (fun _ h => h) rfl dX6_drawFeetAndMinds_39 ?_
      refine lv_icmp_ge (tgt := 65) hx hb dX6_drawFeetAndMinds_42 (by decide) (fun c828 => ?_) (fun c828 => ?_)
      · have hf := ifT hf c828
        refine lv_iload_n hx hb dX6_drawFeetAndMinds_65 rfl (lv_at hl 1 rfl) ?_
        exact fc_reti hx hb hr hlocks hP hS dX6_drawFeetAndMinds_66 (i2a hf) (congrArg (fun z => (vW G a z)) (i2b hf))
      · have hf := ifF hf c828
        refine lv_iload_n hx hb dX6_drawFeetAndMinds_45 rfl (lv_at hl 1 rfl) ?_
        obtain ⟨q829, hq829, hf⟩ := bnd hf
        refine fc_callS (Wa' := (vW G a v_826)) (st1 := [.int q829]) (As := [.int x2_824]) (rest := []) hCF (k_X6_nextSeed x2_824 hq829) (va_cwS 1 hts gX6_drawFeetAndMinds_X6_nextSeed rfl rfl rfl dk_X6_nextSeed ⟨Nat.le_of_ble_eq_true rfl, Nat.le_of_ble_eq_true rfl⟩) hE hAB hP hD hS [] rfl rfl rfl rfl rfl rfl hl.1 rfl (Nat.le_of_ble_eq_true rfl) dX6_drawFeetAndMinds_46 ⟨Nat.le_refl _, Nat.le_refl _⟩ (fun H locs hP hD hS => ?_)
        refine lv_istore_n (lv' := [(2, .int q829), (0, .ref (a 0)), (3, .int x3_825)]) hx hb dX6_drawFeetAndMinds_49 rfl hl (by decide) rfl (fun ls hl => ?_)
        refine lv_aload_n hx hb dX6_drawFeetAndMinds_50 rfl (lv_at hl 1 rfl) ?_
        refine lv_iload_n hx hb dX6_drawFeetAndMinds_51 rfl (lv_at hl 2 rfl) ?_
        refine lv_iload_n hx hb dX6_drawFeetAndMinds_52 rfl (lv_at hl 0 rfl) ?_
        obtain ⟨q830, hq830, hf⟩ := bnd hf
        refine fc_callS (Wa' := (vW G a v_826)) (st1 := [.int q830, .int x3_825, .ref (a 0)]) (As := [.int q829]) (rest := [.int x3_825, .ref (a 0)]) hCF (k_X6_drawnFoot q829 hq830) (va_cwS 1 hts gX6_drawFeetAndMinds_X6_drawnFoot rfl rfl rfl dk_X6_drawnFoot ⟨Nat.le_of_ble_eq_true rfl, Nat.le_of_ble_eq_true rfl⟩) hE hAB hP hD hS [] rfl rfl rfl rfl rfl rfl hl.1 rfl (Nat.le_of_ble_eq_true rfl) dX6_drawFeetAndMinds_53 ⟨Nat.le_refl _, Nat.le_refl _⟩ (fun H locs hP hD hS => ?_)
        obtain ⟨q831, hq831, hf⟩ := bnd hf
        refine fc_callV (Wa' := (vW G a q831)) (st1 := []) (As := [.int x3_825, .int q830]) (rest := []) hCF (k_X6_setMind a v_826 x3_825 q830 hq831) (cwV 2 hts gX6_drawFeetAndMinds_X6_setMind rfl rfl rfl ⟨rfl, dk_X6_setMind⟩ ⟨Nat.le_of_ble_eq_true rfl, Nat.le_of_ble_eq_true rfl⟩) hE hAB hP hD hS [0, 1, 2, 3, 4, 5, 6, 7] vW_d (vW_c G a v_826) (va_recv hE.1 hP (ci := 3) (q0 := 0) rfl (vW_o G a v_826)) (vW_f G a v_826 q831) (vW_s G a v_826 q831) rfl rfl hl.1 rfl (Nat.le_of_ble_eq_true rfl) dX6_drawFeetAndMinds_56 ⟨Nat.le_refl _, Nat.le_refl _⟩ (fun H locs hP hD hS => ?_)
        refine lv_iinc (v := (x3_825 + (1 : Int32))) (lv' := [(3, .int (x3_825 + (1 : Int32))), (2, .int q829), (0, .ref (a 0))]) hx hb dX6_drawFeetAndMinds_59 hl (k := 2) rfl rfl (by decide) rfl (fun ls hl => ?_)
        refine lv_goto (tgt := 37) hx hb dX6_drawFeetAndMinds_62 (by decide) ?_
        exact ih q829 (x3_825 + (1 : Int32)) q831 _ _ _ hP hD hS (lv_sub hl [2, 1, 0] rfl) hf
  exact L37_827 FUEL x2_822 (0 : Int32) v_823 _ _ _ hP hD hS (lv_sub hl [1, 2, 0] rfl) hf
theorem dk_X6_mindOf : yX6_mindOf.cls ≠ "java/lang/invoke/MethodHandle" ∧ yX6_mindOf.cls ≠ "java/lang/invoke/VarHandle" ∧ (parseMethodDescriptor yX6_mindOf.desc).map (fun d => d.parameters.length) = some 1 := by decide +kernel
theorem iu_X6_mindOf_X6 : ∀ w ∈ u_ws RX6 TX6 12, w ∈ wsX6_mindOf := by decide +kernel
set_option maxHeartbeats 4000000 in
set_option maxRecDepth 100000 in
theorem k_X6_mindOf {l : Launch} {G : Gx} (a : Nat → Nat) (v : St) (x1 : Int32) {r : Int32} (hf : f_X6_mindOf v x1 = some r) : FC l G yX6_mindOf wsX6_mindOf ({ frames := 1, cells := 0, slots := 0, locals := 21 } : Room) [.ref (a 0), .int x1] (vW G a v) (vW G a v) (some (.int r)) := by
  refine fc_head (cc := cX6_mindOf) (maxL := 2) (ret := (some .int)) (C := RX6) (lv := [(0, .ref (a 0)), (1, .int x1)]) (by decide) rfl rfl (Nat.le_of_ble_eq_true rfl) rfl ?_
  intro p e s m below meth c ls A hx hb hr hml hown hts hlocks hE hP hD hAB hS hl
  have hCF : CallFix p m c cX6_mindOf 2 s ([.ref (a 0), .int x1] : List Value).toArray wsX6_mindOf RX6 := ⟨hx, hb, hml, hown, hts⟩
  have hwX6 : ∀ w ∈ u_ws RX6 TX6 12, w.before ([.ref (a 0), .int x1] : List Value).toArray s = true := fun w h => hts w (iu_X6_mindOf_X6 w h)
  have hk_fieldLink_RX6_27__BrideNotKnown_Valley___mindFeet____I_ := hts (.fieldLink RX6 27 "BrideNotKnown$Valley" "mindFeet" "[I") (List.mem_of_getElem? (i := 1) rfl)
  have hk_initialized_RX7 := hts (.initialized RX7) (List.mem_of_getElem? (i := 3) rfl)
  have hk_static_yX7_at := hts (.static yX7_at) (List.mem_of_getElem? (i := 2) rfl)
  rw [f_X6_mindOf] at hf
  refine lv_aload_n hx hb dX6_mindOf_0 rfl (lv_at hl 0 rfl) ?_
  refine fc_get (v := .ref (a 6)) (ci := 3) (C := RX6) (T := TX6) (N := 12) hx hb hwX6 hown hE hP 0 (vW_o G a v) rfl 9 (by decide) hk_fieldLink_RX6_27__BrideNotKnown_Valley___mindFeet____I_ (fun _ h => h) rfl dX6_mindOf_1 ?_
  refine lv_iload_n hx hb dX6_mindOf_4 rfl (lv_at hl 1 rfl) ?_
  obtain ⟨q833, hq833, hf⟩ := bnd hf
  refine fc_callN (Wa' := (vW G a v)) (st1 := [.int q833]) (As := [.ref (a 6), .int x1]) (rest := []) hCF (k_X7_at (a 6) 5 (v 5) x1 hq833) ⟨va_cnB 2 hts gX6_mindOf_X7_at_n53 rfl rfl rfl (hE.2.1 _ (List.mem_of_getElem? (i := 8) rfl)) hk_initialized_RX7 dk_X7_at ⟨Nat.le_of_ble_eq_true rfl, Nat.le_of_ble_eq_true rfl⟩, hk_static_yX7_at, trivial⟩ hE hAB hP hD hS [6] rfl (vW_ca6 G a v) (aW_f G (a 6) 5 (v 5) (v 5)) (vW_ia6 G a v) rfl rfl hl.1 rfl (Nat.le_of_ble_eq_true rfl) dX6_mindOf_5 ⟨Nat.le_refl _, Nat.le_refl _⟩ (fun H locs hP hD hS => ?_)
  exact fc_reti hx hb hr hlocks hP hS dX6_mindOf_8 (i1 hf) rfl
theorem dk_X6_toesFromMind : yX6_toesFromMind.cls ≠ "java/lang/invoke/MethodHandle" ∧ yX6_toesFromMind.cls ≠ "java/lang/invoke/VarHandle" ∧ (parseMethodDescriptor yX6_toesFromMind.desc).map (fun d => d.parameters.length) = some 2 := by decide +kernel
set_option maxHeartbeats 4000000 in
set_option maxRecDepth 100000 in
theorem k_X6_toesFromMind {l : Launch} {G : Gx} (a : Nat → Nat) (v : St) (x1 : Int32) (x2 : Int32) {r : Int32} (hf : f_X6_toesFromMind v x1 x2 = some r) : FC l G yX6_toesFromMind wsX6_toesFromMind ({ frames := 2, cells := 0, slots := 0, locals := 42 } : Room) [.ref (a 0), .int x1, .int x2] (vW G a v) (vW G a v) (some (.int r)) := by
  refine fc_head (cc := cX6_toesFromMind) (maxL := 3) (ret := (some .int)) (C := RX6) (lv := [(0, .ref (a 0)), (1, .int x1), (2, .int x2)]) (by decide) rfl rfl (Nat.le_of_ble_eq_true rfl) rfl ?_
  intro p e s m below meth c ls A hx hb hr hml hown hts hlocks hE hP hD hAB hS hl
  have hCF : CallFix p m c cX6_toesFromMind 3 s ([.ref (a 0), .int x1, .int x2] : List Value).toArray wsX6_toesFromMind RX6 := ⟨hx, hb, hml, hown, hts⟩
  rw [f_X6_toesFromMind] at hf
  refine lv_aload_n hx hb dX6_toesFromMind_0 rfl (lv_at hl 0 rfl) ?_
  refine lv_iload_n hx hb dX6_toesFromMind_1 rfl (lv_at hl 2 rfl) ?_
  obtain ⟨q837, hq837, hf⟩ := bnd hf
  refine fc_callV (Wa' := (vW G a v)) (st1 := [.int q837]) (As := [.int x2]) (rest := []) hCF (k_X6_footOf a v x2 hq837) (cwV 1 hts gX6_toesFromMind_X6_footOf rfl rfl rfl ⟨rfl, dk_X6_footOf⟩ ⟨Nat.le_of_ble_eq_true rfl, Nat.le_of_ble_eq_true rfl⟩) hE hAB hP hD hS [0, 1, 2, 3, 4, 5, 6, 7] vW_d (vW_c G a v) (va_recv hE.1 hP (ci := 3) (q0 := 0) rfl (vW_o G a v)) (vW_f G a v v) (vW_s G a v v) rfl rfl hl.1 rfl (Nat.le_of_ble_eq_true rfl) dX6_toesFromMind_2 ⟨Nat.le_refl _, Nat.le_refl _⟩ (fun H locs hP hD hS => ?_)
  refine lv_aload_n hx hb dX6_toesFromMind_5 rfl (lv_at hl 0 rfl) ?_
  refine lv_iload_n hx hb dX6_toesFromMind_6 rfl (lv_at hl 1 rfl) ?_
  obtain ⟨q838, hq838, hf⟩ := bnd hf
  refine fc_callV (Wa' := (vW G a v)) (st1 := [.int q838, .int q837]) (As := [.int x1]) (rest := [.int q837]) hCF (k_X6_mindOf a v x1 hq838) (cwV 1 hts gX6_toesFromMind_X6_mindOf rfl rfl rfl ⟨rfl, dk_X6_mindOf⟩ ⟨Nat.le_of_ble_eq_true rfl, Nat.le_of_ble_eq_true rfl⟩) hE hAB hP hD hS [0, 1, 2, 3, 4, 5, 6, 7] vW_d (vW_c G a v) (va_recv hE.1 hP (ci := 3) (q0 := 0) rfl (vW_o G a v)) (vW_f G a v v) (vW_s G a v v) rfl rfl hl.1 rfl (Nat.le_of_ble_eq_true rfl) dX6_toesFromMind_7 ⟨Nat.le_refl _, Nat.le_refl _⟩ (fun H locs hP hD hS => ?_)
  refine lv_ixor hx hb dX6_toesFromMind_10 ?_
  obtain ⟨q839, hq839, hf⟩ := bnd hf
  refine fc_callS (Wa' := (vW G a v)) (st1 := [.int q839]) (As := [.int (q837 ^^^ q838)]) (rest := []) hCF (k_J6_bitCount_0f7a4 (q837 ^^^ q838) hq839) (va_cwS 1 hts gX6_toesFromMind_J6_bitCount_0f7a4 rfl rfl rfl dk_J6_bitCount_0f7a4 ⟨Nat.le_of_ble_eq_true rfl, Nat.le_of_ble_eq_true rfl⟩) hE hAB hP hD hS [] rfl rfl rfl rfl rfl rfl hl.1 rfl (Nat.le_of_ble_eq_true rfl) dX6_toesFromMind_11 ⟨Nat.le_refl _, Nat.le_refl _⟩ (fun H locs hP hD hS => ?_)
  exact fc_reti hx hb hr hlocks hP hS dX6_toesFromMind_14 (i1 hf) rfl
theorem dk_X6_nearestTo : yX6_nearestTo.cls ≠ "java/lang/invoke/MethodHandle" ∧ yX6_nearestTo.cls ≠ "java/lang/invoke/VarHandle" ∧ (parseMethodDescriptor yX6_nearestTo.desc).map (fun d => d.parameters.length) = some 1 := by decide +kernel
theorem iu_X6_nearestTo_X6 : ∀ w ∈ u_ws RX6 TX6 12, w ∈ wsX6_nearestTo := by decide +kernel
set_option maxHeartbeats 4000000 in
set_option maxRecDepth 100000 in
theorem k_X6_nearestTo {l : Launch} {G : Gx} (a : Nat → Nat) (v : St) (x1 : Int32) {r : Int32} (hf : f_X6_nearestTo v x1 = some r) : FC l G yX6_nearestTo wsX6_nearestTo ({ frames := 3, cells := 0, slots := 0, locals := 64 } : Room) [.ref (a 0), .int x1] (vW G a v) (vW G a v) (some (.int r)) := by
  refine fc_head (cc := cX6_nearestTo) (maxL := 6) (ret := (some .int)) (C := RX6) (lv := [(0, .ref (a 0)), (1, .int x1)]) (by decide) rfl rfl (Nat.le_of_ble_eq_true rfl) rfl ?_
  intro p e s m below meth c ls A hx hb hr hml hown hts hlocks hE hP hD hAB hS hl
  have hCF : CallFix p m c cX6_nearestTo 6 s ([.ref (a 0), .int x1] : List Value).toArray wsX6_nearestTo RX6 := ⟨hx, hb, hml, hown, hts⟩
  have hwX6 : ∀ w ∈ u_ws RX6 TX6 12, w.before ([.ref (a 0), .int x1] : List Value).toArray s = true := fun w h => hts w (iu_X6_nearestTo_X6 w h)
  have hk_fieldLink_RX6_37__BrideNotKnown_Valley___brideCount___I_ := hts (.fieldLink RX6 37 "BrideNotKnown$Valley" "brideCount" "I") (List.mem_of_getElem? (i := 1) rfl)
  rw [f_X6_nearestTo] at hf
  refine lv_bipush (v := (-9 : Int32)) hx hb dX6_nearestTo_0 (by decide) ?_
  refine lv_istore_n (lv' := [(2, .int (-9 : Int32)), (0, .ref (a 0)), (1, .int x1)]) hx hb dX6_nearestTo_2 rfl hl (by decide) rfl (fun ls hl => ?_)
  refine lv_bipush (v := (7 : Int32)) hx hb dX6_nearestTo_3 (by decide) ?_
  refine lv_istore_n (lv' := [(3, .int (7 : Int32)), (2, .int (-9 : Int32)), (0, .ref (a 0)), (1, .int x1)]) hx hb dX6_nearestTo_5 rfl hl (by decide) rfl (fun ls hl => ?_)
  refine lv_iconst (v := (0 : Int32)) hx hb dX6_nearestTo_6 (by decide) ?_
  refine lv_istore (lv' := [(4, .int (0 : Int32)), (3, .int (7 : Int32)), (2, .int (-9 : Int32)), (0, .ref (a 0)), (1, .int x1)]) hx hb dX6_nearestTo_7 hl (by decide) rfl (fun ls hl => ?_)
  have L9_844 : ∀ (n : Nat) (x2_841 : Int32) (x3_842 : Int32) (x4_843 : Int32) (H : Heap) (locs : List Loc) (ls : Array Slot), va_P (gD G) vwCl (vW G a v) H → va_D A (vW G a v) → va_S A s.heap H locs → lv_has ls 6 [(0, .ref (a 0)), (1, .int x1), (2, .int x2_841), (3, .int x3_842), (4, .int x4_843)] → f_X6_nearestTo_9 v x1 n x2_841 x3_842 x4_843 = some r → W p l e (headSpec wsX6_nearestTo ({ frames := 3, cells := 0, slots := 0, locals := 64 } : Room)).room s m ([.ref (a 0), .int x1] : List Value).toArray below meth c H locs 0 0 (MQ below (FQ G A (vW G a v) (some (.int r))) ([.ref (a 0), .int x1] : List Value).toArray s 0 0 A) (F0 m 9 ls []) := by
    intro n
    induction n with
    | zero =>
      intro x2_841 x3_842 x4_843 H locs ls hP hD hS hl hf
      exact no_some hf
    | succ n ih =>
      intro x2_841 x3_842 x4_843 H locs ls hP hD hS hl hf
      rw [f_X6_nearestTo_9] at hf
      refine lv_iload hx hb dX6_nearestTo_9 (lv_at hl 4 rfl) ?_
      refine lv_aload_n hx hb dX6_nearestTo_11 rfl (lv_at hl 0 rfl) ?_
      refine fc_get (v := .int (v 7 1)) (ci := 3) (C := RX6) (T := TX6) (N := 12) hx hb hwX6 hown hE hP 0 (vW_o G a v) rfl 1 (by decide) hk_fieldLink_RX6_37__BrideNotKnown_Valley___brideCount___I_ (fun _ h => h) rfl dX6_nearestTo_12 ?_
      refine lv_icmp_ge (tgt := 45) hx hb dX6_nearestTo_15 (by decide) (fun c845 => ?_) (fun c845 => ?_)
      · have hf := ifT hf c845
        refine lv_iload_n hx hb dX6_nearestTo_45 rfl (lv_at hl 2 rfl) ?_
        exact fc_reti hx hb hr hlocks hP hS dX6_nearestTo_46 (i1 hf) rfl
      · have hf := ifF hf c845
        refine lv_aload_n hx hb dX6_nearestTo_18 rfl (lv_at hl 0 rfl) ?_
        refine lv_iload_n hx hb dX6_nearestTo_19 rfl (lv_at hl 1 rfl) ?_
        refine lv_iload hx hb dX6_nearestTo_20 (lv_at hl 4 rfl) ?_
        obtain ⟨q846, hq846, hf⟩ := bnd hf
        refine fc_callV (Wa' := (vW G a v)) (st1 := [.int q846]) (As := [.int x1, .int x4_843]) (rest := []) hCF (k_X6_toesFromMind a v x1 x4_843 hq846) (cwV 2 hts gX6_nearestTo_X6_toesFromMind rfl rfl rfl ⟨rfl, dk_X6_toesFromMind⟩ ⟨Nat.le_of_ble_eq_true rfl, Nat.le_of_ble_eq_true rfl⟩) hE hAB hP hD hS [0, 1, 2, 3, 4, 5, 6, 7] vW_d (vW_c G a v) (va_recv hE.1 hP (ci := 3) (q0 := 0) rfl (vW_o G a v)) (vW_f G a v v) (vW_s G a v v) rfl rfl hl.1 rfl (Nat.le_of_ble_eq_true rfl) dX6_nearestTo_22 ⟨Nat.le_refl _, Nat.le_refl _⟩ (fun H locs hP hD hS => ?_)
        refine lv_istore (lv' := [(5, .int q846), (0, .ref (a 0)), (1, .int x1), (2, .int x2_841), (3, .int x3_842), (4, .int x4_843)]) hx hb dX6_nearestTo_25 hl (by decide) rfl (fun ls hl => ?_)
        refine lv_iload hx hb dX6_nearestTo_27 (lv_at hl 0 rfl) ?_
        refine lv_iload_n hx hb dX6_nearestTo_29 rfl (lv_at hl 4 rfl) ?_
        refine lv_icmp_ge (tgt := 39) hx hb dX6_nearestTo_30 (by decide) (fun c847 => ?_) (fun c847 => ?_)
        · have hf := ifT hf c847
          refine lv_iinc (v := (x4_843 + (1 : Int32))) (lv' := [(4, .int (x4_843 + (1 : Int32))), (5, .int q846), (0, .ref (a 0)), (1, .int x1), (2, .int x2_841), (3, .int x3_842)]) hx hb dX6_nearestTo_39 hl (k := 5) rfl rfl (by decide) rfl (fun ls hl => ?_)
          refine lv_goto (tgt := 9) hx hb dX6_nearestTo_42 (by decide) ?_
          exact ih x2_841 x3_842 (x4_843 + (1 : Int32)) _ _ _ hP hD hS (lv_sub hl [2, 3, 4, 5, 0] rfl) hf
        · have hf := ifF hf c847
          refine lv_iload hx hb dX6_nearestTo_33 (lv_at hl 0 rfl) ?_
          refine lv_istore_n (lv' := [(3, .int q846), (5, .int q846), (0, .ref (a 0)), (1, .int x1), (2, .int x2_841), (4, .int x4_843)]) hx hb dX6_nearestTo_35 rfl hl (by decide) rfl (fun ls hl => ?_)
          refine lv_iload hx hb dX6_nearestTo_36 (lv_at hl 5 rfl) ?_
          refine lv_istore_n (lv' := [(2, .int x4_843), (3, .int q846), (5, .int q846), (0, .ref (a 0)), (1, .int x1), (4, .int x4_843)]) hx hb dX6_nearestTo_38 rfl hl (by decide) rfl (fun ls hl => ?_)
          refine lv_iinc (v := (x4_843 + (1 : Int32))) (lv' := [(4, .int (x4_843 + (1 : Int32))), (2, .int x4_843), (3, .int q846), (5, .int q846), (0, .ref (a 0)), (1, .int x1)]) hx hb dX6_nearestTo_39 hl (k := 5) rfl rfl (by decide) rfl (fun ls hl => ?_)
          refine lv_goto (tgt := 9) hx hb dX6_nearestTo_42 (by decide) ?_
          exact ih x4_843 q846 (x4_843 + (1 : Int32)) _ _ _ hP hD hS (lv_sub hl [4, 5, 1, 2, 0] rfl) hf
  exact L9_844 FUEL (-9 : Int32) (7 : Int32) (0 : Int32) _ _ _ hP hD hS (lv_sub hl [3, 4, 2, 1, 0] rfl) hf
theorem dk_X6_takenWith : yX6_takenWith.cls ≠ "java/lang/invoke/MethodHandle" ∧ yX6_takenWith.cls ≠ "java/lang/invoke/VarHandle" ∧ (parseMethodDescriptor yX6_takenWith.desc).map (fun d => d.parameters.length) = some 2 := by decide +kernel
set_option maxHeartbeats 4000000 in
set_option maxRecDepth 100000 in
theorem k_X6_takenWith {l : Launch} {G : Gx} (a : Nat → Nat) (v : St) (x1 : Int32) (x2 : Int32) {r : Int32} (hf : f_X6_takenWith v x1 x2 = some r) : FC l G yX6_takenWith wsX6_takenWith ({ frames := 4, cells := 0, slots := 0, locals := 99 } : Room) [.ref (a 0), .int x1, .int x2] (vW G a v) (vW G a v) (some (.int r)) := by
  refine fc_head (cc := cX6_takenWith) (maxL := 4) (ret := (some .int)) (C := RX6) (lv := [(0, .ref (a 0)), (1, .int x1), (2, .int x2)]) (by decide) rfl rfl (Nat.le_of_ble_eq_true rfl) rfl ?_
  intro p e s m below meth c ls A hx hb hr hml hown hts hlocks hE hP hD hAB hS hl
  have hCF : CallFix p m c cX6_takenWith 4 s ([.ref (a 0), .int x1, .int x2] : List Value).toArray wsX6_takenWith RX6 := ⟨hx, hb, hml, hown, hts⟩
  have hk_initialized_RX7 := hts (.initialized RX7) (List.mem_of_getElem? (i := 8) rfl)
  have hk_static_yX7_onlyOne := hts (.static yX7_onlyOne) (List.mem_of_getElem? (i := 46) rfl)
  rw [f_X6_takenWith] at hf
  refine lv_aload_n hx hb dX6_takenWith_0 rfl (lv_at hl 0 rfl) ?_
  refine lv_iload_n hx hb dX6_takenWith_1 rfl (lv_at hl 1 rfl) ?_
  refine lv_iconst (v := (0 : Int32)) hx hb dX6_takenWith_2 (by decide) ?_
  obtain ⟨q853, hq853, hf⟩ := bnd hf
  refine fc_callV (Wa' := (vW G a v)) (st1 := [.int q853]) (As := [.int x1, .int (0 : Int32)]) (rest := []) hCF (k_X6_guesses a v x1 (0 : Int32) hq853) (cwV 2 hts gX6_takenWith_X6_guesses rfl rfl rfl ⟨rfl, dk_X6_guesses⟩ ⟨Nat.le_of_ble_eq_true rfl, Nat.le_of_ble_eq_true rfl⟩) hE hAB hP hD hS [0, 1, 2, 3, 4, 5, 6, 7] vW_d (vW_c G a v) (va_recv hE.1 hP (ci := 3) (q0 := 0) rfl (vW_o G a v)) (vW_f G a v v) (vW_s G a v v) rfl rfl hl.1 rfl (Nat.le_of_ble_eq_true rfl) dX6_takenWith_3 ⟨Nat.le_refl _, Nat.le_refl _⟩ (fun H locs hP hD hS => ?_)
  refine lv_istore_n (lv' := [(3, .int q853), (0, .ref (a 0)), (1, .int x1), (2, .int x2)]) hx hb dX6_takenWith_6 rfl hl (by decide) rfl (fun ls hl => ?_)
  refine lv_aload_n hx hb dX6_takenWith_7 rfl (lv_at hl 1 rfl) ?_
  refine lv_iload_n hx hb dX6_takenWith_8 rfl (lv_at hl 2 rfl) ?_
  obtain ⟨q854, hq854, hf⟩ := bnd hf
  refine fc_callV (Wa' := (vW G a v)) (st1 := [.int q854]) (As := [.int x1]) (rest := []) hCF (k_X6_canWed a v x1 hq854) (cwV 1 hts gX6_takenWith_X6_canWed rfl rfl rfl ⟨rfl, dk_X6_canWed⟩ ⟨Nat.le_of_ble_eq_true rfl, Nat.le_of_ble_eq_true rfl⟩) hE hAB hP hD hS [0, 1, 2, 3, 4, 5, 6, 7] vW_d (vW_c G a v) (va_recv hE.1 hP (ci := 3) (q0 := 0) rfl (vW_o G a v)) (vW_f G a v v) (vW_s G a v v) rfl rfl hl.1 rfl (Nat.le_of_ble_eq_true rfl) dX6_takenWith_9 ⟨Nat.le_refl _, Nat.le_refl _⟩ (fun H locs hP hD hS => ?_)
  refine lv_if_eq (tgt := 24) hx hb dX6_takenWith_12 (by decide) (fun c855 => ?_) (fun c855 => ?_)
  · have hf := ifT hf c855
    refine lv_bipush (v := (-9 : Int32)) hx hb dX6_takenWith_24 (by decide) ?_
    exact fc_reti hx hb hr hlocks hP hS dX6_takenWith_26 (i1 hf) rfl
  · have hf := ifF hf c855
    refine lv_iload_n hx hb dX6_takenWith_15 rfl (lv_at hl 0 rfl) ?_
    obtain ⟨q856, hq856, hf⟩ := bnd hf
    refine fc_callN (Wa' := (vW G a v)) (st1 := [.int q856]) (As := [.int q853]) (rest := []) hCF (k_X7_onlyOne q853 hq856) ⟨va_cnB 1 hts gX6_takenWith_X7_onlyOne_n109 rfl rfl rfl (hE.2.1 _ (List.mem_of_getElem? (i := 10) rfl)) hk_initialized_RX7 dk_X7_onlyOne ⟨Nat.le_of_ble_eq_true rfl, Nat.le_of_ble_eq_true rfl⟩, hk_static_yX7_onlyOne, trivial⟩ hE hAB hP hD hS [] rfl rfl rfl rfl rfl rfl hl.1 rfl (Nat.le_of_ble_eq_true rfl) dX6_takenWith_16 ⟨Nat.le_refl _, Nat.le_refl _⟩ (fun H locs hP hD hS => ?_)
    refine lv_bipush (v := (-9 : Int32)) hx hb dX6_takenWith_19 (by decide) ?_
    refine lv_icmp_eq (tgt := 27) hx hb dX6_takenWith_21 (by decide) (fun c857 => ?_) (fun c857 => ?_)
    · have hf := ifT hf c857
      refine lv_aload_n hx hb dX6_takenWith_27 rfl (lv_at hl 1 rfl) ?_
      refine lv_iload_n hx hb dX6_takenWith_28 rfl (lv_at hl 0 rfl) ?_
      obtain ⟨q858, hq858, hf⟩ := bnd hf
      refine fc_callV (Wa' := (vW G a v)) (st1 := [.int q858]) (As := [.int q853]) (rest := []) hCF (k_X6_choiceFrom a v q853 hq858) (cwV 1 hts gX6_takenWith_X6_choiceFrom rfl rfl rfl ⟨rfl, dk_X6_choiceFrom⟩ ⟨Nat.le_of_ble_eq_true rfl, Nat.le_of_ble_eq_true rfl⟩) hE hAB hP hD hS [0, 1, 2, 3, 4, 5, 6, 7] vW_d (vW_c G a v) (va_recv hE.1 hP (ci := 3) (q0 := 0) rfl (vW_o G a v)) (vW_f G a v v) (vW_s G a v v) rfl rfl hl.1 rfl (Nat.le_of_ble_eq_true rfl) dX6_takenWith_29 ⟨Nat.le_refl _, Nat.le_refl _⟩ (fun H locs hP hD hS => ?_)
      refine lv_iload_n hx hb dX6_takenWith_32 rfl (lv_at hl 3 rfl) ?_
      obtain ⟨q859, hq859, hf⟩ := bnd hf
      refine fc_callS (Wa' := (vW G a v)) (st1 := [.int q859]) (As := [.int q858, .int x2]) (rest := []) hCF (k_X6_takenOf q858 x2 hq859) (va_cwS 2 hts gX6_takenWith_X6_takenOf rfl rfl rfl dk_X6_takenOf ⟨Nat.le_of_ble_eq_true rfl, Nat.le_of_ble_eq_true rfl⟩) hE hAB hP hD hS [] rfl rfl rfl rfl rfl rfl hl.1 rfl (Nat.le_of_ble_eq_true rfl) dX6_takenWith_33 ⟨Nat.le_refl _, Nat.le_refl _⟩ (fun H locs hP hD hS => ?_)
      exact fc_reti hx hb hr hlocks hP hS dX6_takenWith_36 (i1 hf) rfl
    · have hf := ifF hf c857
      refine lv_bipush (v := (-9 : Int32)) hx hb dX6_takenWith_24 (by decide) ?_
      exact fc_reti hx hb hr hlocks hP hS dX6_takenWith_26 (i1 hf) rfl
theorem dk_X6_wedAll : yX6_wedAll.cls ≠ "java/lang/invoke/MethodHandle" ∧ yX6_wedAll.cls ≠ "java/lang/invoke/VarHandle" ∧ (parseMethodDescriptor yX6_wedAll.desc).map (fun d => d.parameters.length) = some 1 := by decide +kernel
theorem iu_X6_wedAll_X6 : ∀ w ∈ u_ws RX6 TX6 12, w ∈ wsX6_wedAll := by decide +kernel
set_option maxHeartbeats 4000000 in
set_option maxRecDepth 100000 in
theorem k_X6_wedAll {l : Launch} {G : Gx} (a : Nat → Nat) (v : St) (x1 : Int32) {r : Int32} {v' : St} (hf : f_X6_wedAll v x1 = some (r, v')) : FC l G yX6_wedAll wsX6_wedAll ({ frames := 4, cells := 0, slots := 0, locals := 102 } : Room) [.ref (a 0), .int x1] (vW G a v) (vW G a v') (some (.int r)) := by
  refine fc_head (cc := cX6_wedAll) (maxL := 5) (ret := (some .int)) (C := RX6) (lv := [(0, .ref (a 0)), (1, .int x1)]) (by decide) rfl rfl (Nat.le_of_ble_eq_true rfl) rfl ?_
  intro p e s m below meth c ls A hx hb hr hml hown hts hlocks hE hP hD hAB hS hl
  have hCF : CallFix p m c cX6_wedAll 5 s ([.ref (a 0), .int x1] : List Value).toArray wsX6_wedAll RX6 := ⟨hx, hb, hml, hown, hts⟩
  have hwX6 : ∀ w ∈ u_ws RX6 TX6 12, w.before ([.ref (a 0), .int x1] : List Value).toArray s = true := fun w h => hts w (iu_X6_wedAll_X6 w h)
  have hk_fieldLink_RX6_47__BrideNotKnown_Valley___groomCount___I_ := hts (.fieldLink RX6 47 "BrideNotKnown$Valley" "groomCount" "I") (List.mem_of_getElem? (i := 1) rfl)
  rw [f_X6_wedAll] at hf
  refine lv_iconst (v := (0 : Int32)) hx hb dX6_wedAll_0 (by decide) ?_
  refine lv_istore_n (lv' := [(2, .int (0 : Int32)), (0, .ref (a 0)), (1, .int x1)]) hx hb dX6_wedAll_1 rfl hl (by decide) rfl (fun ls hl => ?_)
  refine lv_iconst (v := (0 : Int32)) hx hb dX6_wedAll_2 (by decide) ?_
  refine lv_istore_n (lv' := [(3, .int (0 : Int32)), (2, .int (0 : Int32)), (0, .ref (a 0)), (1, .int x1)]) hx hb dX6_wedAll_3 rfl hl (by decide) rfl (fun ls hl => ?_)
  refine lv_iconst (v := (0 : Int32)) hx hb dX6_wedAll_4 (by decide) ?_
  refine lv_istore (lv' := [(4, .int (0 : Int32)), (3, .int (0 : Int32)), (2, .int (0 : Int32)), (0, .ref (a 0)), (1, .int x1)]) hx hb dX6_wedAll_5 hl (by decide) rfl (fun ls hl => ?_)
  have L7_869 : ∀ (K7_51 : Int32 → Int32 → St → Option (Int32 × St)) (hK7_51 : ∀ (x2_870 : Int32) (x3_871 : Int32) (v_872 : St) (H : Heap) (locs : List Loc) (ls : Array Slot), va_P (gD G) vwCl (vW G a v_872) H → va_D A (vW G a v_872) → va_S A s.heap H locs → lv_has ls 5 [(1, .int x1), (2, .int x2_870), (3, .int x3_871)] → K7_51 x2_870 x3_871 v_872 = some (r, v') → W p l e (headSpec wsX6_wedAll ({ frames := 4, cells := 0, slots := 0, locals := 102 } : Room)).room s m ([.ref (a 0), .int x1] : List Value).toArray below meth c H locs 0 0 (MQ below (FQ G A (vW G a v') (some (.int r))) ([.ref (a 0), .int x1] : List Value).toArray s 0 0 A) (F0 m 51 ls [])) (n : Nat) (x2_865 : Int32) (x3_866 : Int32) (x4_867 : Int32) (v_868 : St) (H : Heap) (locs : List Loc) (ls : Array Slot), va_P (gD G) vwCl (vW G a v_868) H → va_D A (vW G a v_868) → va_S A s.heap H locs → lv_has ls 5 [(0, .ref (a 0)), (1, .int x1), (2, .int x2_865), (3, .int x3_866), (4, .int x4_867)] → f_X6_wedAll_7 n x2_865 x3_866 x4_867 v_868 K7_51 = some (r, v') → W p l e (headSpec wsX6_wedAll ({ frames := 4, cells := 0, slots := 0, locals := 102 } : Room)).room s m ([.ref (a 0), .int x1] : List Value).toArray below meth c H locs 0 0 (MQ below (FQ G A (vW G a v') (some (.int r))) ([.ref (a 0), .int x1] : List Value).toArray s 0 0 A) (F0 m 7 ls []) := by
    intro K7_51 hK7_51 n
    induction n with
    | zero =>
      intro x2_865 x3_866 x4_867 v_868 H locs ls hP hD hS hl hf
      exact no_some hf
    | succ n ih =>
      intro x2_865 x3_866 x4_867 v_868 H locs ls hP hD hS hl hf
      rw [f_X6_wedAll_7] at hf
      refine lv_iload hx hb dX6_wedAll_7 (lv_at hl 4 rfl) ?_
      refine lv_aload_n hx hb dX6_wedAll_9 rfl (lv_at hl 0 rfl) ?_
      refine fc_get (v := .int (v_868 7 3)) (ci := 3) (C := RX6) (T := TX6) (N := 12) hx hb hwX6 hown hE hP 0 (vW_o G a v_868) rfl 7 (by decide) hk_fieldLink_RX6_47__BrideNotKnown_Valley___groomCount___I_ (fun _ h => h) rfl dX6_wedAll_10 ?_
      refine lv_icmp_ge (tgt := 51) hx hb dX6_wedAll_13 (by decide) (fun c873 => ?_) (fun c873 => ?_)
      · have hf := ifT hf c873
        exact hK7_51 x2_865 x3_866 v_868 _ _ _ hP hD hS (lv_sub hl [1, 2, 3] rfl) hf
      · have hf := ifF hf c873
        refine lv_aload_n hx hb dX6_wedAll_16 rfl (lv_at hl 0 rfl) ?_
        refine lv_iload hx hb dX6_wedAll_17 (lv_at hl 4 rfl) ?_
        obtain ⟨q874, hq874, hf⟩ := bnd hf
        refine fc_callV (Wa' := (vW G a v_868)) (st1 := [.int q874]) (As := [.int x4_867]) (rest := []) hCF (k_X6_canWed a v_868 x4_867 hq874) (cwV 1 hts gX6_wedAll_X6_canWed rfl rfl rfl ⟨rfl, dk_X6_canWed⟩ ⟨Nat.le_of_ble_eq_true rfl, Nat.le_of_ble_eq_true rfl⟩) hE hAB hP hD hS [0, 1, 2, 3, 4, 5, 6, 7] vW_d (vW_c G a v_868) (va_recv hE.1 hP (ci := 3) (q0 := 0) rfl (vW_o G a v_868)) (vW_f G a v_868 v_868) (vW_s G a v_868 v_868) rfl rfl hl.1 rfl (Nat.le_of_ble_eq_true rfl) dX6_wedAll_19 ⟨Nat.le_refl _, Nat.le_refl _⟩ (fun H locs hP hD hS => ?_)
        refine lv_if_eq (tgt := 45) hx hb dX6_wedAll_22 (by decide) (fun c875 => ?_) (fun c875 => ?_)
        · have hf := ifT hf c875
          refine lv_iinc (v := (x4_867 + (1 : Int32))) (lv' := [(4, .int (x4_867 + (1 : Int32))), (0, .ref (a 0)), (1, .int x1), (2, .int x2_865), (3, .int x3_866)]) hx hb dX6_wedAll_45 hl (k := 4) rfl rfl (by decide) rfl (fun ls hl => ?_)
          refine lv_goto (tgt := 7) hx hb dX6_wedAll_48 (by decide) ?_
          exact ih x2_865 x3_866 (x4_867 + (1 : Int32)) v_868 _ _ _ hP hD hS (lv_sub hl [1, 2, 3, 4, 0] rfl) hf
        · have hf := ifF hf c875
          refine lv_aload_n hx hb dX6_wedAll_25 rfl (lv_at hl 0 rfl) ?_
          refine lv_iload hx hb dX6_wedAll_26 (lv_at hl 4 rfl) ?_
          obtain ⟨q876, hq876, hf⟩ := bnd hf
          refine fc_callV (Wa' := (vW G a q876.2)) (st1 := [.int q876.1]) (As := [.int x4_867]) (rest := []) hCF (k_X6_wed a v_868 x4_867 hq876) (cwV 1 hts gX6_wedAll_X6_wed rfl rfl rfl ⟨rfl, dk_X6_wed⟩ ⟨Nat.le_of_ble_eq_true rfl, Nat.le_of_ble_eq_true rfl⟩) hE hAB hP hD hS [0, 1, 2, 3, 4, 5, 6, 7] vW_d (vW_c G a v_868) (va_recv hE.1 hP (ci := 3) (q0 := 0) rfl (vW_o G a v_868)) (vW_f G a v_868 q876.2) (vW_s G a v_868 q876.2) rfl rfl hl.1 rfl (Nat.le_of_ble_eq_true rfl) dX6_wedAll_28 ⟨Nat.le_refl _, Nat.le_refl _⟩ (fun H locs hP hD hS => ?_)
          refine lv_bipush (v := (100 : Int32)) hx hb dX6_wedAll_31 (by decide) ?_
          refine lv_icmp_lt (tgt := 42) hx hb dX6_wedAll_33 (by decide) (fun c877 => ?_) (fun c877 => ?_)
          · have hf := ifT hf c877
            refine lv_iinc (v := (x3_866 + (1 : Int32))) (lv' := [(3, .int (x3_866 + (1 : Int32))), (0, .ref (a 0)), (1, .int x1), (2, .int x2_865), (4, .int x4_867)]) hx hb dX6_wedAll_42 hl (k := 3) rfl rfl (by decide) rfl (fun ls hl => ?_)
            refine lv_iinc (v := (x4_867 + (1 : Int32))) (lv' := [(4, .int (x4_867 + (1 : Int32))), (3, .int (x3_866 + (1 : Int32))), (0, .ref (a 0)), (1, .int x1), (2, .int x2_865)]) hx hb dX6_wedAll_45 hl (k := 4) rfl rfl (by decide) rfl (fun ls hl => ?_)
            refine lv_goto (tgt := 7) hx hb dX6_wedAll_48 (by decide) ?_
            exact ih x2_865 (x3_866 + (1 : Int32)) (x4_867 + (1 : Int32)) q876.2 _ _ _ hP hD hS (lv_sub hl [2, 3, 4, 1, 0] rfl) hf
          · have hf := ifF hf c877
            refine lv_iinc (v := (x2_865 + (1 : Int32))) (lv' := [(2, .int (x2_865 + (1 : Int32))), (0, .ref (a 0)), (1, .int x1), (3, .int x3_866), (4, .int x4_867)]) hx hb dX6_wedAll_36 hl (k := 2) rfl rfl (by decide) rfl (fun ls hl => ?_)
            refine lv_goto (tgt := 45) hx hb dX6_wedAll_39 (by decide) ?_
            refine lv_iinc (v := (x4_867 + (1 : Int32))) (lv' := [(4, .int (x4_867 + (1 : Int32))), (2, .int (x2_865 + (1 : Int32))), (0, .ref (a 0)), (1, .int x1), (3, .int x3_866)]) hx hb dX6_wedAll_45 hl (k := 4) rfl rfl (by decide) rfl (fun ls hl => ?_)
            refine lv_goto (tgt := 7) hx hb dX6_wedAll_48 (by decide) ?_
            exact ih (x2_865 + (1 : Int32)) x3_866 (x4_867 + (1 : Int32)) q876.2 _ _ _ hP hD hS (lv_sub hl [2, 3, 1, 4, 0] rfl) hf
  refine L7_869 _ ?_ FUEL (0 : Int32) (0 : Int32) (0 : Int32) v _ _ _ hP hD hS (lv_sub hl [3, 4, 2, 1, 0] rfl) hf
  intro x2_878 x3_879 v_880 H locs ls hP hD hS hl hf
  refine lv_iload_n hx hb dX6_wedAll_51 rfl (lv_at hl 0 rfl) ?_
  refine lv_if_ne (tgt := 59) hx hb dX6_wedAll_52 (by decide) (fun c881 => ?_) (fun c881 => ?_)
  · have hf := ifF hf c881
    refine lv_iload_n hx hb dX6_wedAll_59 rfl (lv_at hl 2 rfl) ?_
    exact fc_reti hx hb hr hlocks hP hS dX6_wedAll_60 (i2a hf) (congrArg (fun z => (vW G a z)) (i2b hf))
  · have hf := ifT hf c881
    refine lv_iload_n hx hb dX6_wedAll_55 rfl (lv_at hl 1 rfl) ?_
    refine lv_goto (tgt := 60) hx hb dX6_wedAll_56 (by decide) ?_
    exact fc_reti hx hb hr hlocks hP hS dX6_wedAll_60 (i2a hf) (congrArg (fun z => (vW G a z)) (i2b hf))
