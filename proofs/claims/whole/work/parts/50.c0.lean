theorem dk_J6_bitCount_0f7a4 : yJ6_bitCount_0f7a4.cls ≠ "java/lang/invoke/MethodHandle" ∧ yJ6_bitCount_0f7a4.cls ≠ "java/lang/invoke/VarHandle" ∧ (parseMethodDescriptor yJ6_bitCount_0f7a4.desc).map (fun d => d.parameters.length) = some 1 := by decide +kernel
set_option maxHeartbeats 4000000 in
set_option maxRecDepth 100000 in
theorem k_J6_bitCount_0f7a4 {l : Launch} {G : Gx} (x0 : Int32) {r : Int32} (hf : f_J6_bitCount_0f7a4 x0 = some r) : FC l G yJ6_bitCount_0f7a4 wsJ6_bitCount_0f7a4 ({ frames := 0, cells := 0, slots := 0, locals := 0 } : Room) [.int x0] ([] : va_W) ([] : va_W) (some (.int r)) := by
  refine fc_head (cc := cJ6_bitCount_0f7a4) (maxL := 1) (ret := (some .int)) (C := RJ6) (lv := [(0, .int x0)]) (by decide) rfl rfl (Nat.le_of_ble_eq_true rfl) rfl ?_
  intro p e s m below meth c ls A hx hb hr hml hown hts hlocks hE hP hD hAB hS hl
  have hCF : CallFix p m c cJ6_bitCount_0f7a4 1 s ([.int x0] : List Value).toArray wsJ6_bitCount_0f7a4 RJ6 := ⟨hx, hb, hml, hown, hts⟩
  have hk_constant_RJ6_265__1431655765_ := hts (.constant RJ6 265 (1431655765)) (List.mem_of_getElem? (i := 1) rfl)
  have hk_constant_RJ6_266__858993459_ := hts (.constant RJ6 266 (858993459)) (List.mem_of_getElem? (i := 2) rfl)
  have hk_constant_RJ6_267__252645135_ := hts (.constant RJ6 267 (252645135)) (List.mem_of_getElem? (i := 3) rfl)
  rw [f_J6_bitCount_0f7a4] at hf
  refine lv_iload_n hx hb dJ6_bitCount_0f7a4_0 rfl (lv_at hl 0 rfl) ?_
  refine lv_iload_n hx hb dJ6_bitCount_0f7a4_1 rfl (lv_at hl 0 rfl) ?_
  refine lv_iconst (v := (1 : Int32)) hx hb dJ6_bitCount_0f7a4_2 (by decide) ?_
  refine lv_iushr (v := (x0.toUInt32 >>> ((1 : Int32).toUInt32 &&& Int32.toUInt32 31)).toInt32) hx hb dJ6_bitCount_0f7a4_3 rfl ?_
  refine lv_ldcw (v := (1431655765 : Int32)) hx hb hown hk_constant_RJ6_265__1431655765_ dJ6_bitCount_0f7a4_4 ?_
  refine lv_iand hx hb dJ6_bitCount_0f7a4_7 ?_
  refine lv_isub hx hb dJ6_bitCount_0f7a4_8 ?_
  refine lv_istore_n (lv' := [(0, .int (x0 - (((x0.toUInt32 >>> ((1 : Int32).toUInt32 &&& Int32.toUInt32 31)).toInt32) &&& (1431655765 : Int32))))]) hx hb dJ6_bitCount_0f7a4_9 rfl hl (by decide) rfl (fun ls hl => ?_)
  refine lv_iload_n hx hb dJ6_bitCount_0f7a4_10 rfl (lv_at hl 0 rfl) ?_
  refine lv_ldcw (v := (858993459 : Int32)) hx hb hown hk_constant_RJ6_266__858993459_ dJ6_bitCount_0f7a4_11 ?_
  refine lv_iand hx hb dJ6_bitCount_0f7a4_14 ?_
  refine lv_iload_n hx hb dJ6_bitCount_0f7a4_15 rfl (lv_at hl 0 rfl) ?_
  refine lv_iconst (v := (2 : Int32)) hx hb dJ6_bitCount_0f7a4_16 (by decide) ?_
  refine lv_iushr (v := ((x0 - (((x0.toUInt32 >>> ((1 : Int32).toUInt32 &&& Int32.toUInt32 31)).toInt32) &&& (1431655765 : Int32))).toUInt32 >>> ((2 : Int32).toUInt32 &&& Int32.toUInt32 31)).toInt32) hx hb dJ6_bitCount_0f7a4_17 rfl ?_
  refine lv_ldcw (v := (858993459 : Int32)) hx hb hown hk_constant_RJ6_266__858993459_ dJ6_bitCount_0f7a4_18 ?_
  refine lv_iand hx hb dJ6_bitCount_0f7a4_21 ?_
  refine lv_iadd hx hb dJ6_bitCount_0f7a4_22 ?_
  refine lv_istore_n (lv' := [(0, .int (((x0 - (((x0.toUInt32 >>> ((1 : Int32).toUInt32 &&& Int32.toUInt32 31)).toInt32) &&& (1431655765 : Int32))) &&& (858993459 : Int32)) + ((((x0 - (((x0.toUInt32 >>> ((1 : Int32).toUInt32 &&& Int32.toUInt32 31)).toInt32) &&& (1431655765 : Int32))).toUInt32 >>> ((2 : Int32).toUInt32 &&& Int32.toUInt32 31)).toInt32) &&& (858993459 : Int32))))]) hx hb dJ6_bitCount_0f7a4_23 rfl hl (by decide) rfl (fun ls hl => ?_)
  refine lv_iload_n hx hb dJ6_bitCount_0f7a4_24 rfl (lv_at hl 0 rfl) ?_
  refine lv_iload_n hx hb dJ6_bitCount_0f7a4_25 rfl (lv_at hl 0 rfl) ?_
  refine lv_iconst (v := (4 : Int32)) hx hb dJ6_bitCount_0f7a4_26 (by decide) ?_
  refine lv_iushr (v := ((((x0 - (((x0.toUInt32 >>> ((1 : Int32).toUInt32 &&& Int32.toUInt32 31)).toInt32) &&& (1431655765 : Int32))) &&& (858993459 : Int32)) + ((((x0 - (((x0.toUInt32 >>> ((1 : Int32).toUInt32 &&& Int32.toUInt32 31)).toInt32) &&& (1431655765 : Int32))).toUInt32 >>> ((2 : Int32).toUInt32 &&& Int32.toUInt32 31)).toInt32) &&& (858993459 : Int32))).toUInt32 >>> ((4 : Int32).toUInt32 &&& Int32.toUInt32 31)).toInt32) hx hb dJ6_bitCount_0f7a4_27 rfl ?_
  refine lv_iadd hx hb dJ6_bitCount_0f7a4_28 ?_
  refine lv_ldcw (v := (252645135 : Int32)) hx hb hown hk_constant_RJ6_267__252645135_ dJ6_bitCount_0f7a4_29 ?_
  refine lv_iand hx hb dJ6_bitCount_0f7a4_32 ?_
  refine lv_istore_n (lv' := [(0, .int (((((x0 - (((x0.toUInt32 >>> ((1 : Int32).toUInt32 &&& Int32.toUInt32 31)).toInt32) &&& (1431655765 : Int32))) &&& (858993459 : Int32)) + ((((x0 - (((x0.toUInt32 >>> ((1 : Int32).toUInt32 &&& Int32.toUInt32 31)).toInt32) &&& (1431655765 : Int32))).toUInt32 >>> ((2 : Int32).toUInt32 &&& Int32.toUInt32 31)).toInt32) &&& (858993459 : Int32))) + (((((x0 - (((x0.toUInt32 >>> ((1 : Int32).toUInt32 &&& Int32.toUInt32 31)).toInt32) &&& (1431655765 : Int32))) &&& (858993459 : Int32)) + ((((x0 - (((x0.toUInt32 >>> ((1 : Int32).toUInt32 &&& Int32.toUInt32 31)).toInt32) &&& (1431655765 : Int32))).toUInt32 >>> ((2 : Int32).toUInt32 &&& Int32.toUInt32 31)).toInt32) &&& (858993459 : Int32))).toUInt32 >>> ((4 : Int32).toUInt32 &&& Int32.toUInt32 31)).toInt32)) &&& (252645135 : Int32)))]) hx hb dJ6_bitCount_0f7a4_33 rfl hl (by decide) rfl (fun ls hl => ?_)
  refine lv_iload_n hx hb dJ6_bitCount_0f7a4_34 rfl (lv_at hl 0 rfl) ?_
  refine lv_iload_n hx hb dJ6_bitCount_0f7a4_35 rfl (lv_at hl 0 rfl) ?_
  refine lv_bipush (v := (8 : Int32)) hx hb dJ6_bitCount_0f7a4_36 (by decide) ?_
  refine lv_iushr (v := ((((((x0 - (((x0.toUInt32 >>> ((1 : Int32).toUInt32 &&& Int32.toUInt32 31)).toInt32) &&& (1431655765 : Int32))) &&& (858993459 : Int32)) + ((((x0 - (((x0.toUInt32 >>> ((1 : Int32).toUInt32 &&& Int32.toUInt32 31)).toInt32) &&& (1431655765 : Int32))).toUInt32 >>> ((2 : Int32).toUInt32 &&& Int32.toUInt32 31)).toInt32) &&& (858993459 : Int32))) + (((((x0 - (((x0.toUInt32 >>> ((1 : Int32).toUInt32 &&& Int32.toUInt32 31)).toInt32) &&& (1431655765 : Int32))) &&& (858993459 : Int32)) + ((((x0 - (((x0.toUInt32 >>> ((1 : Int32).toUInt32 &&& Int32.toUInt32 31)).toInt32) &&& (1431655765 : Int32))).toUInt32 >>> ((2 : Int32).toUInt32 &&& Int32.toUInt32 31)).toInt32) &&& (858993459 : Int32))).toUInt32 >>> ((4 : Int32).toUInt32 &&& Int32.toUInt32 31)).toInt32)) &&& (252645135 : Int32)).toUInt32 >>> ((8 : Int32).toUInt32 &&& Int32.toUInt32 31)).toInt32) hx hb dJ6_bitCount_0f7a4_38 rfl ?_
  refine lv_iadd hx hb dJ6_bitCount_0f7a4_39 ?_
  refine lv_istore_n (lv' := [(0, .int ((((((x0 - (((x0.toUInt32 >>> ((1 : Int32).toUInt32 &&& Int32.toUInt32 31)).toInt32) &&& (1431655765 : Int32))) &&& (858993459 : Int32)) + ((((x0 - (((x0.toUInt32 >>> ((1 : Int32).toUInt32 &&& Int32.toUInt32 31)).toInt32) &&& (1431655765 : Int32))).toUInt32 >>> ((2 : Int32).toUInt32 &&& Int32.toUInt32 31)).toInt32) &&& (858993459 : Int32))) + (((((x0 - (((x0.toUInt32 >>> ((1 : Int32).toUInt32 &&& Int32.toUInt32 31)).toInt32) &&& (1431655765 : Int32))) &&& (858993459 : Int32)) + ((((x0 - (((x0.toUInt32 >>> ((1 : Int32).toUInt32 &&& Int32.toUInt32 31)).toInt32) &&& (1431655765 : Int32))).toUInt32 >>> ((2 : Int32).toUInt32 &&& Int32.toUInt32 31)).toInt32) &&& (858993459 : Int32))).toUInt32 >>> ((4 : Int32).toUInt32 &&& Int32.toUInt32 31)).toInt32)) &&& (252645135 : Int32)) + (((((((x0 - (((x0.toUInt32 >>> ((1 : Int32).toUInt32 &&& Int32.toUInt32 31)).toInt32) &&& (1431655765 : Int32))) &&& (858993459 : Int32)) + ((((x0 - (((x0.toUInt32 >>> ((1 : Int32).toUInt32 &&& Int32.toUInt32 31)).toInt32) &&& (1431655765 : Int32))).toUInt32 >>> ((2 : Int32).toUInt32 &&& Int32.toUInt32 31)).toInt32) &&& (858993459 : Int32))) + (((((x0 - (((x0.toUInt32 >>> ((1 : Int32).toUInt32 &&& Int32.toUInt32 31)).toInt32) &&& (1431655765 : Int32))) &&& (858993459 : Int32)) + ((((x0 - (((x0.toUInt32 >>> ((1 : Int32).toUInt32 &&& Int32.toUInt32 31)).toInt32) &&& (1431655765 : Int32))).toUInt32 >>> ((2 : Int32).toUInt32 &&& Int32.toUInt32 31)).toInt32) &&& (858993459 : Int32))).toUInt32 >>> ((4 : Int32).toUInt32 &&& Int32.toUInt32 31)).toInt32)) &&& (252645135 : Int32)).toUInt32 >>> ((8 : Int32).toUInt32 &&& Int32.toUInt32 31)).toInt32)))]) hx hb dJ6_bitCount_0f7a4_40 rfl hl (by decide) rfl (fun ls hl => ?_)
  refine lv_iload_n hx hb dJ6_bitCount_0f7a4_41 rfl (lv_at hl 0 rfl) ?_
  refine lv_iload_n hx hb dJ6_bitCount_0f7a4_42 rfl (lv_at hl 0 rfl) ?_
  refine lv_bipush (v := (16 : Int32)) hx hb dJ6_bitCount_0f7a4_43 (by decide) ?_
  refine lv_iushr (v := (((((((x0 - (((x0.toUInt32 >>> ((1 : Int32).toUInt32 &&& Int32.toUInt32 31)).toInt32) &&& (1431655765 : Int32))) &&& (858993459 : Int32)) + ((((x0 - (((x0.toUInt32 >>> ((1 : Int32).toUInt32 &&& Int32.toUInt32 31)).toInt32) &&& (1431655765 : Int32))).toUInt32 >>> ((2 : Int32).toUInt32 &&& Int32.toUInt32 31)).toInt32) &&& (858993459 : Int32))) + (((((x0 - (((x0.toUInt32 >>> ((1 : Int32).toUInt32 &&& Int32.toUInt32 31)).toInt32) &&& (1431655765 : Int32))) &&& (858993459 : Int32)) + ((((x0 - (((x0.toUInt32 >>> ((1 : Int32).toUInt32 &&& Int32.toUInt32 31)).toInt32) &&& (1431655765 : Int32))).toUInt32 >>> ((2 : Int32).toUInt32 &&& Int32.toUInt32 31)).toInt32) &&& (858993459 : Int32))).toUInt32 >>> ((4 : Int32).toUInt32 &&& Int32.toUInt32 31)).toInt32)) &&& (252645135 : Int32)) + (((((((x0 - (((x0.toUInt32 >>> ((1 : Int32).toUInt32 &&& Int32.toUInt32 31)).toInt32) &&& (1431655765 : Int32))) &&& (858993459 : Int32)) + ((((x0 - (((x0.toUInt32 >>> ((1 : Int32).toUInt32 &&& Int32.toUInt32 31)).toInt32) &&& (1431655765 : Int32))).toUInt32 >>> ((2 : Int32).toUInt32 &&& Int32.toUInt32 31)).toInt32) &&& (858993459 : Int32))) + (((((x0 - (((x0.toUInt32 >>> ((1 : Int32).toUInt32 &&& Int32.toUInt32 31)).toInt32) &&& (1431655765 : Int32))) &&& (858993459 : Int32)) + ((((x0 - (((x0.toUInt32 >>> ((1 : Int32).toUInt32 &&& Int32.toUInt32 31)).toInt32) &&& (1431655765 : Int32))).toUInt32 >>> ((2 : Int32).toUInt32 &&& Int32.toUInt32 31)).toInt32) &&& (858993459 : Int32))).toUInt32 >>> ((4 : Int32).toUInt32 &&& Int32.toUInt32 31)).toInt32)) &&& (252645135 : Int32)).toUInt32 >>> ((8 : Int32).toUInt32 &&& Int32.toUInt32 31)).toInt32)).toUInt32 >>> ((16 : Int32).toUInt32 &&& Int32.toUInt32 31)).toInt32) hx hb dJ6_bitCount_0f7a4_45 rfl ?_
  refine lv_iadd hx hb dJ6_bitCount_0f7a4_46 ?_
  refine lv_istore_n (lv' := [(0, .int (((((((x0 - (((x0.toUInt32 >>> ((1 : Int32).toUInt32 &&& Int32.toUInt32 31)).toInt32) &&& (1431655765 : Int32))) &&& (858993459 : Int32)) + ((((x0 - (((x0.toUInt32 >>> ((1 : Int32).toUInt32 &&& Int32.toUInt32 31)).toInt32) &&& (1431655765 : Int32))).toUInt32 >>> ((2 : Int32).toUInt32 &&& Int32.toUInt32 31)).toInt32) &&& (858993459 : Int32))) + (((((x0 - (((x0.toUInt32 >>> ((1 : Int32).toUInt32 &&& Int32.toUInt32 31)).toInt32) &&& (1431655765 : Int32))) &&& (858993459 : Int32)) + ((((x0 - (((x0.toUInt32 >>> ((1 : Int32).toUInt32 &&& Int32.toUInt32 31)).toInt32) &&& (1431655765 : Int32))).toUInt32 >>> ((2 : Int32).toUInt32 &&& Int32.toUInt32 31)).toInt32) &&& (858993459 : Int32))).toUInt32 >>> ((4 : Int32).toUInt32 &&& Int32.toUInt32 31)).toInt32)) &&& (252645135 : Int32)) + (((((((x0 - (((x0.toUInt32 >>> ((1 : Int32).toUInt32 &&& Int32.toUInt32 31)).toInt32) &&& (1431655765 : Int32))) &&& (858993459 : Int32)) + ((((x0 - (((x0.toUInt32 >>> ((1 : Int32).toUInt32 &&& Int32.toUInt32 31)).toInt32) &&& (1431655765 : Int32))).toUInt32 >>> ((2 : Int32).toUInt32 &&& Int32.toUInt32 31)).toInt32) &&& (858993459 : Int32))) + (((((x0 - (((x0.toUInt32 >>> ((1 : Int32).toUInt32 &&& Int32.toUInt32 31)).toInt32) &&& (1431655765 : Int32))) &&& (858993459 : Int32)) + ((((x0 - (((x0.toUInt32 >>> ((1 : Int32).toUInt32 &&& Int32.toUInt32 31)).toInt32) &&& (1431655765 : Int32))).toUInt32 >>> ((2 : Int32).toUInt32 &&& Int32.toUInt32 31)).toInt32) &&& (858993459 : Int32))).toUInt32 >>> ((4 : Int32).toUInt32 &&& Int32.toUInt32 31)).toInt32)) &&& (252645135 : Int32)).toUInt32 >>> ((8 : Int32).toUInt32 &&& Int32.toUInt32 31)).toInt32)) + ((((((((x0 - (((x0.toUInt32 >>> ((1 : Int32).toUInt32 &&& Int32.toUInt32 31)).toInt32) &&& (1431655765 : Int32))) &&& (858993459 : Int32)) + ((((x0 - (((x0.toUInt32 >>> ((1 : Int32).toUInt32 &&& Int32.toUInt32 31)).toInt32) &&& (1431655765 : Int32))).toUInt32 >>> ((2 : Int32).toUInt32 &&& Int32.toUInt32 31)).toInt32) &&& (858993459 : Int32))) + (((((x0 - (((x0.toUInt32 >>> ((1 : Int32).toUInt32 &&& Int32.toUInt32 31)).toInt32) &&& (1431655765 : Int32))) &&& (858993459 : Int32)) + ((((x0 - (((x0.toUInt32 >>> ((1 : Int32).toUInt32 &&& Int32.toUInt32 31)).toInt32) &&& (1431655765 : Int32))).toUInt32 >>> ((2 : Int32).toUInt32 &&& Int32.toUInt32 31)).toInt32) &&& (858993459 : Int32))).toUInt32 >>> ((4 : Int32).toUInt32 &&& Int32.toUInt32 31)).toInt32)) &&& (252645135 : Int32)) + (((((((x0 - (((x0.toUInt32 >>> ((1 : Int32).toUInt32 &&& Int32.toUInt32 31)).toInt32) &&& (1431655765 : Int32))) &&& (858993459 : Int32)) + ((((x0 - (((x0.toUInt32 >>> ((1 : Int32).toUInt32 &&& Int32.toUInt32 31)).toInt32) &&& (1431655765 : Int32))).toUInt32 >>> ((2 : Int32).toUInt32 &&& Int32.toUInt32 31)).toInt32) &&& (858993459 : Int32))) + (((((x0 - (((x0.toUInt32 >>> ((1 : Int32).toUInt32 &&& Int32.toUInt32 31)).toInt32) &&& (1431655765 : Int32))) &&& (858993459 : Int32)) + ((((x0 - (((x0.toUInt32 >>> ((1 : Int32).toUInt32 &&& Int32.toUInt32 31)).toInt32) &&& (1431655765 : Int32))).toUInt32 >>> ((2 : Int32).toUInt32 &&& Int32.toUInt32 31)).toInt32) &&& (858993459 : Int32))).toUInt32 >>> ((4 : Int32).toUInt32 &&& Int32.toUInt32 31)).toInt32)) &&& (252645135 : Int32)).toUInt32 >>> ((8 : Int32).toUInt32 &&& Int32.toUInt32 31)).toInt32)).toUInt32 >>> ((16 : Int32).toUInt32 &&& Int32.toUInt32 31)).toInt32)))]) hx hb dJ6_bitCount_0f7a4_47 rfl hl (by decide) rfl (fun ls hl => ?_)
  refine lv_iload_n hx hb dJ6_bitCount_0f7a4_48 rfl (lv_at hl 0 rfl) ?_
  refine lv_bipush (v := (63 : Int32)) hx hb dJ6_bitCount_0f7a4_49 (by decide) ?_
  refine lv_iand hx hb dJ6_bitCount_0f7a4_51 ?_
  exact fc_reti hx hb hr hlocks hP hS dJ6_bitCount_0f7a4_52 (i1 hf) rfl
theorem dk_X7_has : yX7_has.cls ≠ "java/lang/invoke/MethodHandle" ∧ yX7_has.cls ≠ "java/lang/invoke/VarHandle" ∧ (parseMethodDescriptor yX7_has.desc).map (fun d => d.parameters.length) = some 2 := by decide +kernel
set_option maxHeartbeats 4000000 in
set_option maxRecDepth 100000 in
theorem k_X7_has {l : Launch} {G : Gx} (x0 : Int32) (x1 : Int32) {r : Int32} (hf : f_X7_has x0 x1 = some r) : FC l G yX7_has wsX7_has ({ frames := 0, cells := 0, slots := 0, locals := 0 } : Room) [.int x0, .int x1] ([] : va_W) ([] : va_W) (some (.int r)) := by
  refine fc_head (cc := cX7_has) (maxL := 2) (ret := (some .boolean)) (C := RX7) (lv := [(0, .int x0), (1, .int x1)]) (by decide) rfl rfl (Nat.le_of_ble_eq_true rfl) rfl ?_
  intro p e s m below meth c ls A hx hb hr hml hown hts hlocks hE hP hD hAB hS hl
  have hCF : CallFix p m c cX7_has 2 s ([.int x0, .int x1] : List Value).toArray wsX7_has RX7 := ⟨hx, hb, hml, hown, hts⟩
  rw [f_X7_has] at hf
  refine lv_iload_n hx hb dX7_has_0 rfl (lv_at hl 1 rfl) ?_
  refine lv_if_lt (tgt := 23) hx hb dX7_has_1 (by decide) (fun c1 => ?_) (fun c1 => ?_)
  · have hf := ifT hf c1
    refine lv_iconst (v := (0 : Int32)) hx hb dX7_has_23 (by decide) ?_
    exact fc_retz hx hb hr hlocks hP hS dX7_has_24 (by decide) (i1 hf) rfl
  · have hf := ifF hf c1
    refine lv_iload_n hx hb dX7_has_4 rfl (lv_at hl 1 rfl) ?_
    refine lv_bipush (v := (32 : Int32)) hx hb dX7_has_5 (by decide) ?_
    refine lv_icmp_ge (tgt := 23) hx hb dX7_has_7 (by decide) (fun c2 => ?_) (fun c2 => ?_)
    · have hf := ifT hf c2
      refine lv_iconst (v := (0 : Int32)) hx hb dX7_has_23 (by decide) ?_
      exact fc_retz hx hb hr hlocks hP hS dX7_has_24 (by decide) (i1 hf) rfl
    · have hf := ifF hf c2
      refine lv_iload_n hx hb dX7_has_10 rfl (lv_at hl 0 rfl) ?_
      refine lv_iload_n hx hb dX7_has_11 rfl (lv_at hl 1 rfl) ?_
      refine lv_ishr hx hb dX7_has_12 ?_
      refine lv_iconst (v := (1 : Int32)) hx hb dX7_has_13 (by decide) ?_
      refine lv_iand hx hb dX7_has_14 ?_
      refine lv_iconst (v := (1 : Int32)) hx hb dX7_has_15 (by decide) ?_
      refine lv_icmp_ne (tgt := 23) hx hb dX7_has_16 (by decide) (fun c3 => ?_) (fun c3 => ?_)
      · have hf := ifF hf c3
        refine lv_iconst (v := (0 : Int32)) hx hb dX7_has_23 (by decide) ?_
        exact fc_retz hx hb hr hlocks hP hS dX7_has_24 (by decide) (i1 hf) rfl
      · have hf := ifT hf c3
        refine lv_iconst (v := (1 : Int32)) hx hb dX7_has_19 (by decide) ?_
        refine lv_goto (tgt := 24) hx hb dX7_has_20 (by decide) ?_
        exact fc_retz hx hb hr hlocks hP hS dX7_has_24 (by decide) (i1 hf) rfl
theorem dk_X6_isUnmarried : yX6_isUnmarried.cls ≠ "java/lang/invoke/MethodHandle" ∧ yX6_isUnmarried.cls ≠ "java/lang/invoke/VarHandle" ∧ (parseMethodDescriptor yX6_isUnmarried.desc).map (fun d => d.parameters.length) = some 1 := by decide +kernel
theorem iu_X6_isUnmarried_X6 : ∀ w ∈ u_ws RX6 TX6 12, w ∈ wsX6_isUnmarried := by decide +kernel
set_option maxHeartbeats 4000000 in
set_option maxRecDepth 100000 in
theorem k_X6_isUnmarried {l : Launch} {G : Gx} (a : Nat → Nat) (v : St) (x1 : Int32) {r : Int32} (hf : f_X6_isUnmarried v x1 = some r) : FC l G yX6_isUnmarried wsX6_isUnmarried ({ frames := 1, cells := 0, slots := 0, locals := 21 } : Room) [.ref (a 0), .int x1] (vW G a v) (vW G a v) (some (.int r)) := by
  refine fc_head (cc := cX6_isUnmarried) (maxL := 2) (ret := (some .boolean)) (C := RX6) (lv := [(0, .ref (a 0)), (1, .int x1)]) (by decide) rfl rfl (Nat.le_of_ble_eq_true rfl) rfl ?_
  intro p e s m below meth c ls A hx hb hr hml hown hts hlocks hE hP hD hAB hS hl
  have hCF : CallFix p m c cX6_isUnmarried 2 s ([.ref (a 0), .int x1] : List Value).toArray wsX6_isUnmarried RX6 := ⟨hx, hb, hml, hown, hts⟩
  have hwX6 : ∀ w ∈ u_ws RX6 TX6 12, w.before ([.ref (a 0), .int x1] : List Value).toArray s = true := fun w h => hts w (iu_X6_isUnmarried_X6 w h)
  have hk_fieldLink_RX6_50__BrideNotKnown_Valley___marriedGrooms___I_ := hts (.fieldLink RX6 50 "BrideNotKnown$Valley" "marriedGrooms" "I") (List.mem_of_getElem? (i := 1) rfl)
  have hk_initialized_RX7 := hts (.initialized RX7) (List.mem_of_getElem? (i := 3) rfl)
  have hk_static_yX7_has := hts (.static yX7_has) (List.mem_of_getElem? (i := 2) rfl)
  rw [f_X6_isUnmarried] at hf
  refine lv_aload_n hx hb dX6_isUnmarried_0 rfl (lv_at hl 0 rfl) ?_
  refine fc_get (v := .int (v 7 4)) (ci := 3) (C := RX6) (T := TX6) (N := 12) hx hb hwX6 hown hE hP 0 rfl rfl 11 (by decide) hk_fieldLink_RX6_50__BrideNotKnown_Valley___marriedGrooms___I_ (fun _ h => h) rfl dX6_isUnmarried_1 ?_
  refine lv_iload_n hx hb dX6_isUnmarried_4 rfl (lv_at hl 1 rfl) ?_
  obtain ⟨q5, hq5, hf⟩ := bnd hf
  refine fc_callN (Wa' := (vW G a v)) (st1 := [.int q5]) (As := [.int (v 7 4), .int x1]) (rest := []) hCF (k_X7_has (v 7 4) x1 hq5) ⟨va_cnB 2 hts gX6_isUnmarried_X7_has_n57 rfl rfl rfl (hE.2.1 _ (List.mem_of_getElem? (i := 9) rfl)) hk_initialized_RX7 dk_X7_has ⟨Nat.le_of_ble_eq_true rfl, Nat.le_of_ble_eq_true rfl⟩, hk_static_yX7_has, trivial⟩ hE hAB hP hD hS [] rfl rfl rfl rfl rfl rfl hl.1 rfl (Nat.le_of_ble_eq_true rfl) dX6_isUnmarried_5 ⟨Nat.le_refl _, Nat.le_refl _⟩ (fun H locs hP hD hS => ?_)
  refine lv_if_ne (tgt := 15) hx hb dX6_isUnmarried_8 (by decide) (fun c6 => ?_) (fun c6 => ?_)
  · have hf := ifF hf c6
    refine lv_iconst (v := (0 : Int32)) hx hb dX6_isUnmarried_15 (by decide) ?_
    exact fc_retz hx hb hr hlocks hP hS dX6_isUnmarried_16 (by decide) (i1 hf) rfl
  · have hf := ifT hf c6
    refine lv_iconst (v := (1 : Int32)) hx hb dX6_isUnmarried_11 (by decide) ?_
    refine lv_goto (tgt := 16) hx hb dX6_isUnmarried_12 (by decide) ?_
    exact fc_retz hx hb hr hlocks hP hS dX6_isUnmarried_16 (by decide) (i1 hf) rfl
theorem dk_X7_at : yX7_at.cls ≠ "java/lang/invoke/MethodHandle" ∧ yX7_at.cls ≠ "java/lang/invoke/VarHandle" ∧ (parseMethodDescriptor yX7_at.desc).map (fun d => d.parameters.length) = some 2 := by decide +kernel
set_option maxHeartbeats 4000000 in
set_option maxRecDepth 100000 in
theorem k_X7_at {l : Launch} {G : Gx} (q : Nat) (N0 : Nat) (f : Nat → Int32) (x1 : Int32) {r : Int32} (hf : f_X7_at N0 f x1 = some r) : FC l G yX7_at wsX7_at ({ frames := 0, cells := 0, slots := 0, locals := 0 } : Room) [.ref q, .int x1] (aW G q N0 f) (aW G q N0 f) (some (.int r)) := by
  refine fc_head (cc := cX7_at) (maxL := 2) (ret := (some .int)) (C := RX7) (lv := [(0, .ref q), (1, .int x1)]) (by decide) rfl rfl (Nat.le_of_ble_eq_true rfl) rfl ?_
  intro p e s m below meth c ls A hx hb hr hml hown hts hlocks hE hP hD hAB hS hl
  have hCF : CallFix p m c cX7_at 2 s ([.ref q, .int x1] : List Value).toArray wsX7_at RX7 := ⟨hx, hb, hml, hown, hts⟩
  rw [f_X7_at] at hf
  refine lv_aload_n hx hb dX7_at_0 rfl (lv_at hl 0 rfl) ?_
  refine lv_ifnull hx hb dX7_at_1 ?_
  refine lv_iload_n hx hb dX7_at_4 rfl (lv_at hl 1 rfl) ?_
  refine lv_if_lt (tgt := 20) hx hb dX7_at_5 (by decide) (fun c7 => ?_) (fun c7 => ?_)
  · have hf := ifT hf c7
    refine lv_iconst (v := (0 : Int32)) hx hb dX7_at_20 (by decide) ?_
    exact fc_reti hx hb hr hlocks hP hS dX7_at_21 (i1 hf) rfl
  · have hf := ifF hf c7
    refine lv_iload_n hx hb dX7_at_8 rfl (lv_at hl 1 rfl) ?_
    refine lv_aload_n hx hb dX7_at_9 rfl (lv_at hl 0 rfl) ?_
    refine fc_alen (n := N0) (f := f) hx hb hE hP 0 rfl dX7_at_10 ?_
    refine lv_icmp_ge (tgt := 20) hx hb dX7_at_11 (by decide) (fun c8 => ?_) (fun c8 => ?_)
    · have hf := ifT hf c8
      refine lv_iconst (v := (0 : Int32)) hx hb dX7_at_20 (by decide) ?_
      exact fc_reti hx hb hr hlocks hP hS dX7_at_21 (i1 hf) rfl
    · have hf := ifF hf c8
      refine lv_aload_n hx hb dX7_at_14 rfl (lv_at hl 0 rfl) ?_
      refine lv_iload_n hx hb dX7_at_15 rfl (lv_at hl 1 rfl) ?_
      obtain ⟨c9, hf⟩ := gd_some hf
      refine fc_iald (n := N0) (f := f) hx hb hE hP 0 rfl (inB_in c9) dX7_at_16 ?_
      refine lv_goto (tgt := 21) hx hb dX7_at_17 (by decide) ?_
      exact fc_reti hx hb hr hlocks hP hS dX7_at_21 (i1 hf) rfl
theorem dk_X6_hereThen : yX6_hereThen.cls ≠ "java/lang/invoke/MethodHandle" ∧ yX6_hereThen.cls ≠ "java/lang/invoke/VarHandle" ∧ (parseMethodDescriptor yX6_hereThen.desc).map (fun d => d.parameters.length) = some 1 := by decide +kernel
theorem iu_X6_hereThen_X6 : ∀ w ∈ u_ws RX6 TX6 12, w ∈ wsX6_hereThen := by decide +kernel
set_option maxHeartbeats 4000000 in
set_option maxRecDepth 100000 in
theorem k_X6_hereThen {l : Launch} {G : Gx} (a : Nat → Nat) (v : St) (x1 : Int32) {r : Int32} (hf : f_X6_hereThen v x1 = some r) : FC l G yX6_hereThen wsX6_hereThen ({ frames := 1, cells := 0, slots := 0, locals := 21 } : Room) [.ref (a 0), .int x1] (vW G a v) (vW G a v) (some (.int r)) := by
  refine fc_head (cc := cX6_hereThen) (maxL := 4) (ret := (some .int)) (C := RX6) (lv := [(0, .ref (a 0)), (1, .int x1)]) (by decide) rfl rfl (Nat.le_of_ble_eq_true rfl) rfl ?_
  intro p e s m below meth c ls A hx hb hr hml hown hts hlocks hE hP hD hAB hS hl
  have hCF : CallFix p m c cX6_hereThen 4 s ([.ref (a 0), .int x1] : List Value).toArray wsX6_hereThen RX6 := ⟨hx, hb, hml, hown, hts⟩
  have hwX6 : ∀ w ∈ u_ws RX6 TX6 12, w.before ([.ref (a 0), .int x1] : List Value).toArray s = true := fun w h => hts w (iu_X6_hereThen_X6 w h)
  have hk_fieldLink_RX6_37__BrideNotKnown_Valley___brideCount___I_ := hts (.fieldLink RX6 37 "BrideNotKnown$Valley" "brideCount" "I") (List.mem_of_getElem? (i := 1) rfl)
  have hk_fieldLink_RX6_44__BrideNotKnown_Valley___marriedBrides___I_ := hts (.fieldLink RX6 44 "BrideNotKnown$Valley" "marriedBrides" "I") (List.mem_of_getElem? (i := 2) rfl)
  have hk_initialized_RX7 := hts (.initialized RX7) (List.mem_of_getElem? (i := 5) rfl)
  have hk_static_yX7_has := hts (.static yX7_has) (List.mem_of_getElem? (i := 4) rfl)
  have hk_fieldLink_RX6_21__BrideNotKnown_Valley___sentYears____I_ := hts (.fieldLink RX6 21 "BrideNotKnown$Valley" "sentYears" "[I") (List.mem_of_getElem? (i := 3) rfl)
  have hk_static_yX7_at := hts (.static yX7_at) (List.mem_of_getElem? (i := 7) rfl)
  rw [f_X6_hereThen] at hf
  refine lv_iconst (v := (0 : Int32)) hx hb dX6_hereThen_0 (by decide) ?_
  refine lv_istore_n (lv' := [(2, .int (0 : Int32)), (0, .ref (a 0)), (1, .int x1)]) hx hb dX6_hereThen_1 rfl hl (by decide) rfl (fun ls hl => ?_)
  refine lv_iconst (v := (0 : Int32)) hx hb dX6_hereThen_2 (by decide) ?_
  refine lv_istore_n (lv' := [(3, .int (0 : Int32)), (2, .int (0 : Int32)), (0, .ref (a 0)), (1, .int x1)]) hx hb dX6_hereThen_3 rfl hl (by decide) rfl (fun ls hl => ?_)
  have L4_14 : ∀ (n : Nat) (x2_12 : Int32) (x3_13 : Int32) (H : Heap) (locs : List Loc) (ls : Array Slot), va_P (gD G) vwCl (vW G a v) H → va_D A (vW G a v) → va_S A s.heap H locs → lv_has ls 4 [(0, .ref (a 0)), (1, .int x1), (2, .int x2_12), (3, .int x3_13)] → f_X6_hereThen_4 v x1 n x2_12 x3_13 = some r → W p l e (headSpec wsX6_hereThen ({ frames := 1, cells := 0, slots := 0, locals := 21 } : Room)).room s m ([.ref (a 0), .int x1] : List Value).toArray below meth c H locs 0 0 (MQ below (FQ G A (vW G a v) (some (.int r))) ([.ref (a 0), .int x1] : List Value).toArray s 0 0 A) (F0 m 4 ls []) := by
    intro n
    induction n with
    | zero =>
      intro x2_12 x3_13 H locs ls hP hD hS hl hf
      exact no_some hf
    | succ n ih =>
      intro x2_12 x3_13 H locs ls hP hD hS hl hf
      rw [f_X6_hereThen_4] at hf
      refine lv_iload_n hx hb dX6_hereThen_4 rfl (lv_at hl 3 rfl) ?_
      refine lv_aload_n hx hb dX6_hereThen_5 rfl (lv_at hl 0 rfl) ?_
      refine fc_get (v := .int (v 7 1)) (ci := 3) (C := RX6) (T := TX6) (N := 12) hx hb hwX6 hown hE hP 0 rfl rfl 1 (by decide) hk_fieldLink_RX6_37__BrideNotKnown_Valley___brideCount___I_ (fun _ h => h) rfl dX6_hereThen_6 ?_
      refine lv_icmp_ge (tgt := 47) hx hb dX6_hereThen_9 (by decide) (fun c15 => ?_) (fun c15 => ?_)
      · have hf := ifT hf c15
        refine lv_iload_n hx hb dX6_hereThen_47 rfl (lv_at hl 2 rfl) ?_
        exact fc_reti hx hb hr hlocks hP hS dX6_hereThen_48 (i1 hf) rfl
      · have hf := ifF hf c15
        refine lv_aload_n hx hb dX6_hereThen_12 rfl (lv_at hl 0 rfl) ?_
        refine fc_get (v := .int (v 7 2)) (ci := 3) (C := RX6) (T := TX6) (N := 12) hx hb hwX6 hown hE hP 0 rfl rfl 6 (by decide) hk_fieldLink_RX6_44__BrideNotKnown_Valley___marriedBrides___I_ (fun _ h => h) rfl dX6_hereThen_13 ?_
        refine lv_iload_n hx hb dX6_hereThen_16 rfl (lv_at hl 3 rfl) ?_
        obtain ⟨q16, hq16, hf⟩ := bnd hf
        refine fc_callN (Wa' := (vW G a v)) (st1 := [.int q16]) (As := [.int (v 7 2), .int x3_13]) (rest := []) hCF (k_X7_has (v 7 2) x3_13 hq16) ⟨va_cnB 2 hts gX6_hereThen_X7_has_n57 rfl rfl rfl (hE.2.1 _ (List.mem_of_getElem? (i := 9) rfl)) hk_initialized_RX7 dk_X7_has ⟨Nat.le_of_ble_eq_true rfl, Nat.le_of_ble_eq_true rfl⟩, hk_static_yX7_has, trivial⟩ hE hAB hP hD hS [] rfl rfl rfl rfl rfl rfl hl.1 rfl (Nat.le_of_ble_eq_true rfl) dX6_hereThen_17 ⟨Nat.le_refl _, Nat.le_refl _⟩ (fun H locs hP hD hS => ?_)
        refine lv_if_ne (tgt := 41) hx hb dX6_hereThen_20 (by decide) (fun c17 => ?_) (fun c17 => ?_)
        · have hf := ifF hf c17
          refine lv_iinc (v := (x3_13 + (1 : Int32))) (lv' := [(3, .int (x3_13 + (1 : Int32))), (0, .ref (a 0)), (1, .int x1), (2, .int x2_12)]) hx hb dX6_hereThen_41 hl (k := 3) rfl rfl (by decide) rfl (fun ls hl => ?_)
          refine lv_goto (tgt := 4) hx hb dX6_hereThen_44 (by decide) ?_
          exact ih x2_12 (x3_13 + (1 : Int32)) _ _ _ hP hD hS (lv_sub hl [1, 2, 3, 0] rfl) hf
        · have hf := ifT hf c17
          refine lv_aload_n hx hb dX6_hereThen_23 rfl (lv_at hl 0 rfl) ?_
          refine fc_get (v := .ref (a 4)) (ci := 3) (C := RX6) (T := TX6) (N := 12) hx hb hwX6 hown hE hP 0 rfl rfl 5 (by decide) hk_fieldLink_RX6_21__BrideNotKnown_Valley___sentYears____I_ (fun _ h => h) rfl dX6_hereThen_24 ?_
          refine lv_iload_n hx hb dX6_hereThen_27 rfl (lv_at hl 3 rfl) ?_
          obtain ⟨q18, hq18, hf⟩ := bnd hf
          refine fc_callN (Wa' := (vW G a v)) (st1 := [.int q18]) (As := [.ref (a 4), .int x3_13]) (rest := []) hCF (k_X7_at (a 4) 8 (v 3) x3_13 hq18) ⟨va_cnB 2 hts gX6_hereThen_X7_at_n53 rfl rfl rfl (hE.2.1 _ (List.mem_of_getElem? (i := 8) rfl)) hk_initialized_RX7 dk_X7_at ⟨Nat.le_of_ble_eq_true rfl, Nat.le_of_ble_eq_true rfl⟩, hk_static_yX7_at, trivial⟩ hE hAB hP hD hS [4] rfl rfl rfl rfl rfl rfl hl.1 rfl (Nat.le_of_ble_eq_true rfl) dX6_hereThen_28 ⟨Nat.le_refl _, Nat.le_refl _⟩ (fun H locs hP hD hS => ?_)
          refine lv_iload_n hx hb dX6_hereThen_31 rfl (lv_at hl 1 rfl) ?_
          refine lv_icmp_gt (tgt := 41) hx hb dX6_hereThen_32 (by decide) (fun c19 => ?_) (fun c19 => ?_)
          · have hf := ifT hf c19
            refine lv_iinc (v := (x3_13 + (1 : Int32))) (lv' := [(3, .int (x3_13 + (1 : Int32))), (0, .ref (a 0)), (1, .int x1), (2, .int x2_12)]) hx hb dX6_hereThen_41 hl (k := 3) rfl rfl (by decide) rfl (fun ls hl => ?_)
            refine lv_goto (tgt := 4) hx hb dX6_hereThen_44 (by decide) ?_
            exact ih x2_12 (x3_13 + (1 : Int32)) _ _ _ hP hD hS (lv_sub hl [1, 2, 3, 0] rfl) hf
          · have hf := ifF hf c19
            refine lv_iload_n hx hb dX6_hereThen_35 rfl (lv_at hl 2 rfl) ?_
            refine lv_iconst (v := (1 : Int32)) hx hb dX6_hereThen_36 (by decide) ?_
            refine lv_iload_n hx hb dX6_hereThen_37 rfl (lv_at hl 3 rfl) ?_
            refine lv_ishl hx hb dX6_hereThen_38 ?_
            refine lv_ior hx hb dX6_hereThen_39 ?_
            refine lv_istore_n (lv' := [(2, .int (x2_12 ||| ((1 : Int32) <<< (x3_13 &&& 31)))), (0, .ref (a 0)), (1, .int x1), (3, .int x3_13)]) hx hb dX6_hereThen_40 rfl hl (by decide) rfl (fun ls hl => ?_)
            refine lv_iinc (v := (x3_13 + (1 : Int32))) (lv' := [(3, .int (x3_13 + (1 : Int32))), (2, .int (x2_12 ||| ((1 : Int32) <<< (x3_13 &&& 31)))), (0, .ref (a 0)), (1, .int x1)]) hx hb dX6_hereThen_41 hl (k := 3) rfl rfl (by decide) rfl (fun ls hl => ?_)
            refine lv_goto (tgt := 4) hx hb dX6_hereThen_44 (by decide) ?_
            exact ih (x2_12 ||| ((1 : Int32) <<< (x3_13 &&& 31))) (x3_13 + (1 : Int32)) _ _ _ hP hD hS (lv_sub hl [2, 3, 1, 0] rfl) hf
  exact L4_14 FUEL (0 : Int32) (0 : Int32) _ _ _ hP hD hS (lv_sub hl [2, 3, 1, 0] rfl) hf
theorem dk_X6_showsAs : yX6_showsAs.cls ≠ "java/lang/invoke/MethodHandle" ∧ yX6_showsAs.cls ≠ "java/lang/invoke/VarHandle" ∧ (parseMethodDescriptor yX6_showsAs.desc).map (fun d => d.parameters.length) = some 4 := by decide +kernel
theorem iu_X6_showsAs_X6 : ∀ w ∈ u_ws RX6 TX6 12, w ∈ wsX6_showsAs := by decide +kernel
set_option maxHeartbeats 4000000 in
set_option maxRecDepth 100000 in
theorem k_X6_showsAs {l : Launch} {G : Gx} (a : Nat → Nat) (v : St) (x1 : Int32) (x2 : Int32) (x3 : Int32) (x4 : Int32) {r : Int32} (hf : f_X6_showsAs v x1 x2 x3 x4 = some r) : FC l G yX6_showsAs wsX6_showsAs ({ frames := 1, cells := 0, slots := 0, locals := 21 } : Room) [.ref (a 0), .int x1, .int x2, .int x3, .int x4] (vW G a v) (vW G a v) (some (.int r)) := by
  refine fc_head (cc := cX6_showsAs) (maxL := 9) (ret := (some .int)) (C := RX6) (lv := [(0, .ref (a 0)), (1, .int x1), (2, .int x2), (3, .int x3), (4, .int x4)]) (by decide) rfl rfl (Nat.le_of_ble_eq_true rfl) rfl ?_
  intro p e s m below meth c ls A hx hb hr hml hown hts hlocks hE hP hD hAB hS hl
  have hCF : CallFix p m c cX6_showsAs 9 s ([.ref (a 0), .int x1, .int x2, .int x3, .int x4] : List Value).toArray wsX6_showsAs RX6 := ⟨hx, hb, hml, hown, hts⟩
  have hwX6 : ∀ w ∈ u_ws RX6 TX6 12, w.before ([.ref (a 0), .int x1, .int x2, .int x3, .int x4] : List Value).toArray s = true := fun w h => hts w (iu_X6_showsAs_X6 w h)
  have hk_fieldLink_RX6_18__BrideNotKnown_Valley___feet____I_ := hts (.fieldLink RX6 18 "BrideNotKnown$Valley" "feet" "[I") (List.mem_of_getElem? (i := 1) rfl)
  have hk_initialized_RX7 := hts (.initialized RX7) (List.mem_of_getElem? (i := 4) rfl)
  have hk_static_yX7_at := hts (.static yX7_at) (List.mem_of_getElem? (i := 3) rfl)
  have hk_fieldLink_RX6_33__BrideNotKnown_Valley___year___I_ := hts (.fieldLink RX6 33 "BrideNotKnown$Valley" "year" "I") (List.mem_of_getElem? (i := 2) rfl)
  rw [f_X6_showsAs] at hf
  refine lv_aload_n hx hb dX6_showsAs_0 rfl (lv_at hl 0 rfl) ?_
  refine fc_get (v := .ref (a 3)) (ci := 3) (C := RX6) (T := TX6) (N := 12) hx hb hwX6 hown hE hP 0 rfl rfl 4 (by decide) hk_fieldLink_RX6_18__BrideNotKnown_Valley___feet____I_ (fun _ h => h) rfl dX6_showsAs_1 ?_
  refine lv_iload_n hx hb dX6_showsAs_4 rfl (lv_at hl 1 rfl) ?_
  obtain ⟨q22, hq22, hf⟩ := bnd hf
  refine fc_callN (Wa' := (vW G a v)) (st1 := [.int q22]) (As := [.ref (a 3), .int x1]) (rest := []) hCF (k_X7_at (a 3) 8 (v 2) x1 hq22) ⟨va_cnB 2 hts gX6_showsAs_X7_at_n53 rfl rfl rfl (hE.2.1 _ (List.mem_of_getElem? (i := 8) rfl)) hk_initialized_RX7 dk_X7_at ⟨Nat.le_of_ble_eq_true rfl, Nat.le_of_ble_eq_true rfl⟩, hk_static_yX7_at, trivial⟩ hE hAB hP hD hS [3] rfl rfl rfl rfl rfl rfl hl.1 rfl (Nat.le_of_ble_eq_true rfl) dX6_showsAs_5 ⟨Nat.le_refl _, Nat.le_refl _⟩ (fun H locs hP hD hS => ?_)
  refine lv_istore (lv' := [(5, .int q22), (0, .ref (a 0)), (1, .int x1), (2, .int x2), (3, .int x3), (4, .int x4)]) hx hb dX6_showsAs_8 hl (by decide) rfl (fun ls hl => ?_)
  refine lv_iload_n hx hb dX6_showsAs_10 rfl (lv_at hl 2 rfl) ?_
  have J29_24 : ∀ (s0_23 : Int32) (H : Heap) (locs : List Loc) (ls : Array Slot), va_P (gD G) vwCl (vW G a v) H → va_D A (vW G a v) → va_S A s.heap H locs → lv_has ls 9 [(0, .ref (a 0)), (2, .int x2), (3, .int x3), (4, .int x4), (5, .int q22)] → f_X6_showsAs_29 v x2 x3 x4 q22 s0_23 = some r → W p l e (headSpec wsX6_showsAs ({ frames := 1, cells := 0, slots := 0, locals := 21 } : Room)).room s m ([.ref (a 0), .int x1, .int x2, .int x3, .int x4] : List Value).toArray below meth c H locs 0 0 (MQ below (FQ G A (vW G a v) (some (.int r))) ([.ref (a 0), .int x1, .int x2, .int x3, .int x4] : List Value).toArray s 0 0 A) (F0 m 29 ls [.int s0_23]) := by
    intro s0_23 H locs ls hP hD hS hl hf
    rw [f_X6_showsAs_29] at hf
    refine lv_istore (lv' := [(6, .int s0_23), (0, .ref (a 0)), (2, .int x2), (3, .int x3), (4, .int x4), (5, .int q22)]) hx hb dX6_showsAs_29 hl (by decide) rfl (fun ls hl => ?_)
    refine lv_iload hx hb dX6_showsAs_31 (lv_at hl 5 rfl) ?_
    refine lv_iconst (v := (1 : Int32)) hx hb dX6_showsAs_33 (by decide) ?_
    refine lv_iload_n hx hb dX6_showsAs_34 rfl (lv_at hl 3 rfl) ?_
    refine lv_bipush (v := (6 : Int32)) hx hb dX6_showsAs_35 (by decide) ?_
    refine lv_irem hx hb dX6_showsAs_37 (by decide) ?_
    refine lv_ishl hx hb dX6_showsAs_38 ?_
    refine lv_ixor hx hb dX6_showsAs_39 ?_
    refine lv_istore (lv' := [(7, .int (q22 ^^^ ((1 : Int32) <<< ((x3 - x3 / (6 : Int32) * (6 : Int32)) &&& 31)))), (6, .int s0_23), (0, .ref (a 0)), (2, .int x2), (3, .int x3), (4, .int x4), (5, .int q22)]) hx hb dX6_showsAs_40 hl (by decide) rfl (fun ls hl => ?_)
    refine lv_aload_n hx hb dX6_showsAs_42 rfl (lv_at hl 2 rfl) ?_
    refine fc_get (v := .int (v 7 0)) (ci := 3) (C := RX6) (T := TX6) (N := 12) hx hb hwX6 hown hE hP 0 rfl rfl 0 (by decide) hk_fieldLink_RX6_33__BrideNotKnown_Valley___year___I_ (fun _ h => h) rfl dX6_showsAs_43 ?_
    refine lv_iload hx hb dX6_showsAs_46 (lv_at hl 5 rfl) ?_
    refine lv_iadd hx hb dX6_showsAs_48 ?_
    refine lv_iconst (v := (2 : Int32)) hx hb dX6_showsAs_49 (by decide) ?_
    refine lv_irem hx hb dX6_showsAs_50 (by decide) ?_
    refine lv_iconst (v := (1 : Int32)) hx hb dX6_showsAs_51 (by decide) ?_
    have J62_26 : ∀ (s0_25 : Int32) (H : Heap) (locs : List Loc) (ls : Array Slot), va_P (gD G) vwCl (vW G a v) H → va_D A (vW G a v) → va_S A s.heap H locs → lv_has ls 9 [(2, .int x2), (5, .int q22), (6, .int s0_23), (7, .int (q22 ^^^ ((1 : Int32) <<< ((x3 - x3 / (6 : Int32) * (6 : Int32)) &&& 31))))] → f_X6_showsAs_62 x2 q22 s0_23 (q22 ^^^ ((1 : Int32) <<< ((x3 - x3 / (6 : Int32) * (6 : Int32)) &&& 31))) s0_25 = some r → W p l e (headSpec wsX6_showsAs ({ frames := 1, cells := 0, slots := 0, locals := 21 } : Room)).room s m ([.ref (a 0), .int x1, .int x2, .int x3, .int x4] : List Value).toArray below meth c H locs 0 0 (MQ below (FQ G A (vW G a v) (some (.int r))) ([.ref (a 0), .int x1, .int x2, .int x3, .int x4] : List Value).toArray s 0 0 A) (F0 m 62 ls [.int s0_25]) := by
      intro s0_25 H locs ls hP hD hS hl hf
      rw [f_X6_showsAs_62] at hf
      refine lv_istore (lv' := [(8, .int s0_25), (2, .int x2), (5, .int q22), (6, .int s0_23), (7, .int (q22 ^^^ ((1 : Int32) <<< ((x3 - x3 / (6 : Int32) * (6 : Int32)) &&& 31))))]) hx hb dX6_showsAs_62 hl (by decide) rfl (fun ls hl => ?_)
      refine lv_iload_n hx hb dX6_showsAs_64 rfl (lv_at hl 1 rfl) ?_
      by_cases c27 : x2 = (1 : Int32)
      · have hf := ifT hf c27
        refine lv_tableIn (off := 35) (tgt := 100) hx hb dX6_showsAs_65 (by rw [c27]; decide) (by rw [c27]; decide) (by rw [c27]; rfl) (by decide) ?_
        refine lv_iload hx hb dX6_showsAs_100 (lv_at hl 3 rfl) ?_
        exact fc_reti hx hb hr hlocks hP hS dX6_showsAs_102 (i1 hf) rfl
      · have hf := ifF hf c27
        by_cases c28 : x2 = (2 : Int32)
        · have hf := ifT hf c28
          refine lv_tableIn (off := 38) (tgt := 103) hx hb dX6_showsAs_65 (by rw [c28]; decide) (by rw [c28]; decide) (by rw [c28]; rfl) (by decide) ?_
          refine lv_iload hx hb dX6_showsAs_103 (lv_at hl 4 rfl) ?_
          exact fc_reti hx hb hr hlocks hP hS dX6_showsAs_105 (i1 hf) rfl
        · have hf := ifF hf c28
          by_cases c29 : x2 = (3 : Int32)
          · have hf := ifT hf c29
            refine lv_tableIn (off := 41) (tgt := 106) hx hb dX6_showsAs_65 (by rw [c29]; decide) (by rw [c29]; decide) (by rw [c29]; rfl) (by decide) ?_
            refine lv_iload hx hb dX6_showsAs_106 (lv_at hl 0 rfl) ?_
            exact fc_reti hx hb hr hlocks hP hS dX6_showsAs_108 (i1 hf) rfl
          · have hf := ifF hf c29
            by_cases c30 : x2 = (4 : Int32)
            · have hf := ifT hf c30
              refine lv_tableIn (off := 44) (tgt := 109) hx hb dX6_showsAs_65 (by rw [c30]; decide) (by rw [c30]; decide) (by rw [c30]; rfl) (by decide) ?_
              refine lv_iload hx hb dX6_showsAs_109 (lv_at hl 3 rfl) ?_
              refine lv_iload hx hb dX6_showsAs_111 (lv_at hl 2 rfl) ?_
              refine lv_ixor hx hb dX6_showsAs_113 ?_
              exact fc_reti hx hb hr hlocks hP hS dX6_showsAs_114 (i1 hf) rfl
            · have hf := ifF hf c30
              by_cases c31 : x2 = (5 : Int32)
              · have hf := ifT hf c31
                refine lv_tableIn (off := 50) (tgt := 115) hx hb dX6_showsAs_65 (by rw [c31]; decide) (by rw [c31]; decide) (by rw [c31]; rfl) (by decide) ?_
                refine lv_iload hx hb dX6_showsAs_115 (lv_at hl 0 rfl) ?_
                refine lv_bipush (v := (-34 : Int32)) hx hb dX6_showsAs_117 (by decide) ?_
                refine lv_iand hx hb dX6_showsAs_119 ?_
                exact fc_reti hx hb hr hlocks hP hS dX6_showsAs_120 (i1 hf) rfl
              · have hf := ifF hf c31
                refine lv_tableOut (tgt := 121) hx hb dX6_showsAs_65 (by have dc27 := lv_neT c27 (a := 1) (by decide); have dc28 := lv_neT c28 (a := 2) (by decide); have dc29 := lv_neT c29 (a := 3) (by decide); have dc30 := lv_neT c30 (a := 4) (by decide); have dc31 := lv_neT c31 (a := 5) (by decide); omega) (by decide) ?_
                refine lv_iload hx hb dX6_showsAs_121 (lv_at hl 2 rfl) ?_
                exact fc_reti hx hb hr hlocks hP hS dX6_showsAs_123 (i1 hf) rfl
    refine lv_icmp_ne (tgt := 60) hx hb dX6_showsAs_52 (by decide) (fun c32 => ?_) (fun c32 => ?_)
    · have hf := ifF hf c32
      refine lv_iload hx hb dX6_showsAs_60 (lv_at hl 6 rfl) ?_
      exact J62_26 q22 _ _ _ hP hD hS (lv_sub hl [3, 6, 1, 0] rfl) hf
    · have hf := ifT hf c32
      refine lv_iload hx hb dX6_showsAs_55 (lv_at hl 0 rfl) ?_
      refine lv_goto (tgt := 62) hx hb dX6_showsAs_57 (by decide) ?_
      exact J62_26 (q22 ^^^ ((1 : Int32) <<< ((x3 - x3 / (6 : Int32) * (6 : Int32)) &&& 31))) _ _ _ hP hD hS (lv_sub hl [3, 6, 1, 0] rfl) hf
  refine lv_if_le (tgt := 27) hx hb dX6_showsAs_11 (by decide) (fun c33 => ?_) (fun c33 => ?_)
  · have hf := ifT hf c33
    refine lv_iload hx hb dX6_showsAs_27 (lv_at hl 0 rfl) ?_
    exact J29_24 q22 _ _ _ hP hD hS (lv_sub hl [1, 3, 4, 5, 0] rfl) hf
  · have hf := ifF hf c33
    refine lv_aload_n hx hb dX6_showsAs_14 rfl (lv_at hl 1 rfl) ?_
    refine fc_get (v := .ref (a 3)) (ci := 3) (C := RX6) (T := TX6) (N := 12) hx hb hwX6 hown hE hP 0 rfl rfl 4 (by decide) hk_fieldLink_RX6_18__BrideNotKnown_Valley___feet____I_ (fun _ h => h) rfl dX6_showsAs_15 ?_
    refine lv_iload_n hx hb dX6_showsAs_18 rfl (lv_at hl 2 rfl) ?_
    refine lv_iconst (v := (1 : Int32)) hx hb dX6_showsAs_19 (by decide) ?_
    refine lv_isub hx hb dX6_showsAs_20 ?_
    obtain ⟨q34, hq34, hf⟩ := bnd hf
    refine fc_callN (Wa' := (vW G a v)) (st1 := [.int q34]) (As := [.ref (a 3), .int (x1 - (1 : Int32))]) (rest := []) hCF (k_X7_at (a 3) 8 (v 2) (x1 - (1 : Int32)) hq34) ⟨va_cnB 2 hts gX6_showsAs_X7_at_n53 rfl rfl rfl (hE.2.1 _ (List.mem_of_getElem? (i := 8) rfl)) hk_initialized_RX7 dk_X7_at ⟨Nat.le_of_ble_eq_true rfl, Nat.le_of_ble_eq_true rfl⟩, hk_static_yX7_at, trivial⟩ hE hAB hP hD hS [3] rfl rfl rfl rfl rfl rfl hl.1 rfl (Nat.le_of_ble_eq_true rfl) dX6_showsAs_21 ⟨Nat.le_refl _, Nat.le_refl _⟩ (fun H locs hP hD hS => ?_)
    refine lv_goto (tgt := 29) hx hb dX6_showsAs_24 (by decide) ?_
    exact J29_24 q34 _ _ _ hP hD hS (lv_sub hl [1, 3, 4, 5, 0] rfl) hf
theorem dk_X6_guessesBy : yX6_guessesBy.cls ≠ "java/lang/invoke/MethodHandle" ∧ yX6_guessesBy.cls ≠ "java/lang/invoke/VarHandle" ∧ (parseMethodDescriptor yX6_guessesBy.desc).map (fun d => d.parameters.length) = some 3 := by decide +kernel
theorem iu_X6_guessesBy_X6 : ∀ w ∈ u_ws RX6 TX6 12, w ∈ wsX6_guessesBy := by decide +kernel
set_option maxHeartbeats 4000000 in
set_option maxRecDepth 100000 in
theorem k_X6_guessesBy {l : Launch} {G : Gx} (a : Nat → Nat) (v : St) (x1 : Int32) (x2 : Int32) (x3 : Int32) {r : Int32} (hf : f_X6_guessesBy v x1 x2 x3 = some r) : FC l G yX6_guessesBy wsX6_guessesBy ({ frames := 2, cells := 0, slots := 0, locals := 49 } : Room) [.ref (a 0), .int x1, .int x2, .int x3] (vW G a v) (vW G a v) (some (.int r)) := by
  refine fc_head (cc := cX6_guessesBy) (maxL := 9) (ret := (some .int)) (C := RX6) (lv := [(0, .ref (a 0)), (1, .int x1), (2, .int x2), (3, .int x3)]) (by decide) rfl rfl (Nat.le_of_ble_eq_true rfl) rfl ?_
  intro p e s m below meth c ls A hx hb hr hml hown hts hlocks hE hP hD hAB hS hl
  have hCF : CallFix p m c cX6_guessesBy 9 s ([.ref (a 0), .int x1, .int x2, .int x3] : List Value).toArray wsX6_guessesBy RX6 := ⟨hx, hb, hml, hown, hts⟩
  have hwX6 : ∀ w ∈ u_ws RX6 TX6 12, w.before ([.ref (a 0), .int x1, .int x2, .int x3] : List Value).toArray s = true := fun w h => hts w (iu_X6_guessesBy_X6 w h)
  have hk_fieldLink_RX6_27__BrideNotKnown_Valley___mindFeet____I_ := hts (.fieldLink RX6 27 "BrideNotKnown$Valley" "mindFeet" "[I") (List.mem_of_getElem? (i := 1) rfl)
  have hk_initialized_RX7 := hts (.initialized RX7) (List.mem_of_getElem? (i := 6) rfl)
  have hk_static_yX7_at := hts (.static yX7_at) (List.mem_of_getElem? (i := 5) rfl)
  have hk_fieldLink_RX6_37__BrideNotKnown_Valley___brideCount___I_ := hts (.fieldLink RX6 37 "BrideNotKnown$Valley" "brideCount" "I") (List.mem_of_getElem? (i := 2) rfl)
  have hk_fieldLink_RX6_9__BrideNotKnown_Valley___kinds____I_ := hts (.fieldLink RX6 9 "BrideNotKnown$Valley" "kinds" "[I") (List.mem_of_getElem? (i := 3) rfl)
  have hk_fieldLink_RX6_15__BrideNotKnown_Valley___figures____I_ := hts (.fieldLink RX6 15 "BrideNotKnown$Valley" "figures" "[I") (List.mem_of_getElem? (i := 4) rfl)
  have hk_static_yX7_has := hts (.static yX7_has) (List.mem_of_getElem? (i := 15) rfl)
  rw [f_X6_guessesBy] at hf
  refine lv_aload_n hx hb dX6_guessesBy_0 rfl (lv_at hl 0 rfl) ?_
  refine fc_get (v := .ref (a 6)) (ci := 3) (C := RX6) (T := TX6) (N := 12) hx hb hwX6 hown hE hP 0 rfl rfl 9 (by decide) hk_fieldLink_RX6_27__BrideNotKnown_Valley___mindFeet____I_ (fun _ h => h) rfl dX6_guessesBy_1 ?_
  refine lv_iload_n hx hb dX6_guessesBy_4 rfl (lv_at hl 1 rfl) ?_
  obtain ⟨q41, hq41, hf⟩ := bnd hf
  refine fc_callN (Wa' := (vW G a v)) (st1 := [.int q41]) (As := [.ref (a 6), .int x1]) (rest := []) hCF (k_X7_at (a 6) 5 (v 5) x1 hq41) ⟨va_cnB 2 hts gX6_guessesBy_X7_at_n53 rfl rfl rfl (hE.2.1 _ (List.mem_of_getElem? (i := 8) rfl)) hk_initialized_RX7 dk_X7_at ⟨Nat.le_of_ble_eq_true rfl, Nat.le_of_ble_eq_true rfl⟩, hk_static_yX7_at, trivial⟩ hE hAB hP hD hS [6] rfl rfl rfl rfl rfl rfl hl.1 rfl (Nat.le_of_ble_eq_true rfl) dX6_guessesBy_5 ⟨Nat.le_refl _, Nat.le_refl _⟩ (fun H locs hP hD hS => ?_)
  refine lv_iload_n hx hb dX6_guessesBy_8 rfl (lv_at hl 2 rfl) ?_
  refine lv_iand hx hb dX6_guessesBy_9 ?_
  refine lv_istore (lv' := [(4, .int (q41 &&& x2)), (0, .ref (a 0)), (1, .int x1), (2, .int x2), (3, .int x3)]) hx hb dX6_guessesBy_10 hl (by decide) rfl (fun ls hl => ?_)
  refine lv_aload_n hx hb dX6_guessesBy_12 rfl (lv_at hl 1 rfl) ?_
  refine lv_iload_n hx hb dX6_guessesBy_13 rfl (lv_at hl 4 rfl) ?_
  obtain ⟨q42, hq42, hf⟩ := bnd hf
  refine fc_callV (Wa' := (vW G a v)) (st1 := [.int q42]) (As := [.int x3]) (rest := []) hCF (k_X6_hereThen a v x3 hq42) (cwV 1 hts gX6_guessesBy_X6_hereThen rfl rfl rfl ⟨rfl, dk_X6_hereThen⟩ ⟨Nat.le_of_ble_eq_true rfl, Nat.le_of_ble_eq_true rfl⟩) hE hAB hP hD hS [0, 1, 2, 3, 4, 5, 6, 7] rfl rfl (va_recv hE.1 hP (ci := 3) (q0 := 0) rfl rfl) rfl rfl rfl rfl hl.1 rfl (Nat.le_of_ble_eq_true rfl) dX6_guessesBy_14 ⟨Nat.le_refl _, Nat.le_refl _⟩ (fun H locs hP hD hS => ?_)
  refine lv_istore (lv' := [(5, .int q42), (4, .int (q41 &&& x2)), (0, .ref (a 0)), (1, .int x1), (2, .int x2), (3, .int x3)]) hx hb dX6_guessesBy_17 hl (by decide) rfl (fun ls hl => ?_)
  refine lv_iconst (v := (0 : Int32)) hx hb dX6_guessesBy_19 (by decide) ?_
  refine lv_istore (lv' := [(6, .int (0 : Int32)), (5, .int q42), (4, .int (q41 &&& x2)), (0, .ref (a 0)), (1, .int x1), (2, .int x2), (3, .int x3)]) hx hb dX6_guessesBy_20 hl (by decide) rfl (fun ls hl => ?_)
  refine lv_iconst (v := (0 : Int32)) hx hb dX6_guessesBy_22 (by decide) ?_
  refine lv_istore (lv' := [(7, .int (0 : Int32)), (6, .int (0 : Int32)), (5, .int q42), (4, .int (q41 &&& x2)), (0, .ref (a 0)), (1, .int x1), (2, .int x2), (3, .int x3)]) hx hb dX6_guessesBy_23 hl (by decide) rfl (fun ls hl => ?_)
  have L25_45 : ∀ (n : Nat) (x6_43 : Int32) (x7_44 : Int32) (H : Heap) (locs : List Loc) (ls : Array Slot), va_P (gD G) vwCl (vW G a v) H → va_D A (vW G a v) → va_S A s.heap H locs → lv_has ls 9 [(0, .ref (a 0)), (2, .int x2), (3, .int x3), (4, .int (q41 &&& x2)), (5, .int q42), (6, .int x6_43), (7, .int x7_44)] → f_X6_guessesBy_25 v x2 x3 (q41 &&& x2) q42 n x6_43 x7_44 = some r → W p l e (headSpec wsX6_guessesBy ({ frames := 2, cells := 0, slots := 0, locals := 49 } : Room)).room s m ([.ref (a 0), .int x1, .int x2, .int x3] : List Value).toArray below meth c H locs 0 0 (MQ below (FQ G A (vW G a v) (some (.int r))) ([.ref (a 0), .int x1, .int x2, .int x3] : List Value).toArray s 0 0 A) (F0 m 25 ls []) := by
    intro n
    induction n with
    | zero =>
      intro x6_43 x7_44 H locs ls hP hD hS hl hf
      exact no_some hf
    | succ n ih =>
      intro x6_43 x7_44 H locs ls hP hD hS hl hf
      rw [f_X6_guessesBy_25] at hf
      refine lv_iload hx hb dX6_guessesBy_25 (lv_at hl 6 rfl) ?_
      refine lv_aload_n hx hb dX6_guessesBy_27 rfl (lv_at hl 0 rfl) ?_
      refine fc_get (v := .int (v 7 1)) (ci := 3) (C := RX6) (T := TX6) (N := 12) hx hb hwX6 hown hE hP 0 rfl rfl 1 (by decide) hk_fieldLink_RX6_37__BrideNotKnown_Valley___brideCount___I_ (fun _ h => h) rfl dX6_guessesBy_28 ?_
      refine lv_icmp_ge (tgt := 95) hx hb dX6_guessesBy_31 (by decide) (fun c46 => ?_) (fun c46 => ?_)
      · have hf := ifT hf c46
        refine lv_iload hx hb dX6_guessesBy_95 (lv_at hl 5 rfl) ?_
        exact fc_reti hx hb hr hlocks hP hS dX6_guessesBy_97 (i1 hf) rfl
      · have hf := ifF hf c46
        refine lv_aload_n hx hb dX6_guessesBy_34 rfl (lv_at hl 0 rfl) ?_
        refine lv_iload hx hb dX6_guessesBy_35 (lv_at hl 6 rfl) ?_
        refine lv_aload_n hx hb dX6_guessesBy_37 rfl (lv_at hl 0 rfl) ?_
        refine fc_get (v := .ref (a 1)) (ci := 3) (C := RX6) (T := TX6) (N := 12) hx hb hwX6 hown hE hP 0 rfl rfl 2 (by decide) hk_fieldLink_RX6_9__BrideNotKnown_Valley___kinds____I_ (fun _ h => h) rfl dX6_guessesBy_38 ?_
        refine lv_iload hx hb dX6_guessesBy_41 (lv_at hl 6 rfl) ?_
        obtain ⟨q47, hq47, hf⟩ := bnd hf
        refine fc_callN (Wa' := (vW G a v)) (st1 := [.int q47, .int x7_44, .ref (a 0)]) (As := [.ref (a 1), .int x7_44]) (rest := [.int x7_44, .ref (a 0)]) hCF (k_X7_at (a 1) 8 (v 0) x7_44 hq47) ⟨va_cnB 2 hts gX6_guessesBy_X7_at_n53 rfl rfl rfl (hE.2.1 _ (List.mem_of_getElem? (i := 8) rfl)) hk_initialized_RX7 dk_X7_at ⟨Nat.le_of_ble_eq_true rfl, Nat.le_of_ble_eq_true rfl⟩, hk_static_yX7_at, trivial⟩ hE hAB hP hD hS [1] rfl rfl rfl rfl rfl rfl hl.1 rfl (Nat.le_of_ble_eq_true rfl) dX6_guessesBy_43 ⟨Nat.le_refl _, Nat.le_refl _⟩ (fun H locs hP hD hS => ?_)
        refine lv_aload_n hx hb dX6_guessesBy_46 rfl (lv_at hl 0 rfl) ?_
        refine fc_get (v := .ref (a 2)) (ci := 3) (C := RX6) (T := TX6) (N := 12) hx hb hwX6 hown hE hP 0 rfl rfl 3 (by decide) hk_fieldLink_RX6_15__BrideNotKnown_Valley___figures____I_ (fun _ h => h) rfl dX6_guessesBy_47 ?_
        refine lv_iload hx hb dX6_guessesBy_50 (lv_at hl 6 rfl) ?_
        obtain ⟨q48, hq48, hf⟩ := bnd hf
        refine fc_callN (Wa' := (vW G a v)) (st1 := [.int q48, .int q47, .int x7_44, .ref (a 0)]) (As := [.ref (a 2), .int x7_44]) (rest := [.int q47, .int x7_44, .ref (a 0)]) hCF (k_X7_at (a 2) 8 (v 1) x7_44 hq48) ⟨va_cnB 2 hts gX6_guessesBy_X7_at_n53 rfl rfl rfl (hE.2.1 _ (List.mem_of_getElem? (i := 8) rfl)) hk_initialized_RX7 dk_X7_at ⟨Nat.le_of_ble_eq_true rfl, Nat.le_of_ble_eq_true rfl⟩, hk_static_yX7_at, trivial⟩ hE hAB hP hD hS [2] rfl rfl rfl rfl rfl rfl hl.1 rfl (Nat.le_of_ble_eq_true rfl) dX6_guessesBy_52 ⟨Nat.le_refl _, Nat.le_refl _⟩ (fun H locs hP hD hS => ?_)
        refine lv_iload_n hx hb dX6_guessesBy_55 rfl (lv_at hl 2 rfl) ?_
        obtain ⟨q49, hq49, hf⟩ := bnd hf
        refine fc_callV (Wa' := (vW G a v)) (st1 := [.int q49]) (As := [.int x7_44, .int q47, .int q48, .int x3]) (rest := []) hCF (k_X6_showsAs a v x7_44 q47 q48 x3 hq49) (cwV 4 hts gX6_guessesBy_X6_showsAs rfl rfl rfl ⟨rfl, dk_X6_showsAs⟩ ⟨Nat.le_of_ble_eq_true rfl, Nat.le_of_ble_eq_true rfl⟩) hE hAB hP hD hS [0, 1, 2, 3, 4, 5, 6, 7] rfl rfl (va_recv hE.1 hP (ci := 3) (q0 := 0) rfl rfl) rfl rfl rfl rfl hl.1 rfl (Nat.le_of_ble_eq_true rfl) dX6_guessesBy_56 ⟨Nat.le_refl _, Nat.le_refl _⟩ (fun H locs hP hD hS => ?_)
        refine lv_istore (lv' := [(8, .int q49), (0, .ref (a 0)), (2, .int x2), (3, .int x3), (4, .int (q41 &&& x2)), (5, .int q42), (6, .int x6_43), (7, .int x7_44)]) hx hb dX6_guessesBy_59 hl (by decide) rfl (fun ls hl => ?_)
        refine lv_iload hx hb dX6_guessesBy_61 (lv_at hl 5 rfl) ?_
        refine lv_iload hx hb dX6_guessesBy_63 (lv_at hl 7 rfl) ?_
        obtain ⟨q50, hq50, hf⟩ := bnd hf
        refine fc_callN (Wa' := (vW G a v)) (st1 := [.int q50]) (As := [.int q42, .int x7_44]) (rest := []) hCF (k_X7_has q42 x7_44 hq50) ⟨va_cnB 2 hts gX6_guessesBy_X7_has_n57 rfl rfl rfl (hE.2.1 _ (List.mem_of_getElem? (i := 9) rfl)) hk_initialized_RX7 dk_X7_has ⟨Nat.le_of_ble_eq_true rfl, Nat.le_of_ble_eq_true rfl⟩, hk_static_yX7_has, trivial⟩ hE hAB hP hD hS [] rfl rfl rfl rfl rfl rfl hl.1 rfl (Nat.le_of_ble_eq_true rfl) dX6_guessesBy_65 ⟨Nat.le_refl _, Nat.le_refl _⟩ (fun H locs hP hD hS => ?_)
        refine lv_if_eq (tgt := 89) hx hb dX6_guessesBy_68 (by decide) (fun c51 => ?_) (fun c51 => ?_)
        · have hf := ifT hf c51
          refine lv_iinc (v := (x7_44 + (1 : Int32))) (lv' := [(7, .int (x7_44 + (1 : Int32))), (8, .int q49), (0, .ref (a 0)), (2, .int x2), (3, .int x3), (4, .int (q41 &&& x2)), (5, .int q42), (6, .int x6_43)]) hx hb dX6_guessesBy_89 hl (k := 7) rfl rfl (by decide) rfl (fun ls hl => ?_)
          refine lv_goto (tgt := 25) hx hb dX6_guessesBy_92 (by decide) ?_
          exact ih x6_43 (x7_44 + (1 : Int32)) _ _ _ hP hD hS (lv_sub hl [2, 3, 4, 5, 6, 7, 0] rfl) hf
        · have hf := ifF hf c51
          refine lv_iload hx hb dX6_guessesBy_71 (lv_at hl 0 rfl) ?_
          refine lv_iload_n hx hb dX6_guessesBy_73 rfl (lv_at hl 2 rfl) ?_
          refine lv_iand hx hb dX6_guessesBy_74 ?_
          refine lv_iload hx hb dX6_guessesBy_75 (lv_at hl 4 rfl) ?_
          refine lv_icmp_ne (tgt := 89) hx hb dX6_guessesBy_77 (by decide) (fun c52 => ?_) (fun c52 => ?_)
          · have hf := ifF hf c52
            refine lv_iinc (v := (x7_44 + (1 : Int32))) (lv' := [(7, .int (x7_44 + (1 : Int32))), (8, .int q49), (0, .ref (a 0)), (2, .int x2), (3, .int x3), (4, .int (q41 &&& x2)), (5, .int q42), (6, .int x6_43)]) hx hb dX6_guessesBy_89 hl (k := 7) rfl rfl (by decide) rfl (fun ls hl => ?_)
            refine lv_goto (tgt := 25) hx hb dX6_guessesBy_92 (by decide) ?_
            exact ih x6_43 (x7_44 + (1 : Int32)) _ _ _ hP hD hS (lv_sub hl [2, 3, 4, 5, 6, 7, 0] rfl) hf
          · have hf := ifT hf c52
            refine lv_iload hx hb dX6_guessesBy_80 (lv_at hl 6 rfl) ?_
            refine lv_iconst (v := (1 : Int32)) hx hb dX6_guessesBy_82 (by decide) ?_
            refine lv_iload hx hb dX6_guessesBy_83 (lv_at hl 7 rfl) ?_
            refine lv_ishl hx hb dX6_guessesBy_85 ?_
            refine lv_ior hx hb dX6_guessesBy_86 ?_
            refine lv_istore (lv' := [(6, .int (x6_43 ||| ((1 : Int32) <<< (x7_44 &&& 31)))), (8, .int q49), (0, .ref (a 0)), (2, .int x2), (3, .int x3), (4, .int (q41 &&& x2)), (5, .int q42), (7, .int x7_44)]) hx hb dX6_guessesBy_87 hl (by decide) rfl (fun ls hl => ?_)
            refine lv_iinc (v := (x7_44 + (1 : Int32))) (lv' := [(7, .int (x7_44 + (1 : Int32))), (6, .int (x6_43 ||| ((1 : Int32) <<< (x7_44 &&& 31)))), (8, .int q49), (0, .ref (a 0)), (2, .int x2), (3, .int x3), (4, .int (q41 &&& x2)), (5, .int q42)]) hx hb dX6_guessesBy_89 hl (k := 7) rfl rfl (by decide) rfl (fun ls hl => ?_)
            refine lv_goto (tgt := 25) hx hb dX6_guessesBy_92 (by decide) ?_
            exact ih (x6_43 ||| ((1 : Int32) <<< (x7_44 &&& 31))) (x7_44 + (1 : Int32)) _ _ _ hP hD hS (lv_sub hl [3, 4, 5, 6, 7, 1, 0] rfl) hf
  exact L25_45 FUEL (0 : Int32) (0 : Int32) _ _ _ hP hD hS (lv_sub hl [4, 6, 7, 3, 2, 1, 0] rfl) hf
theorem dk_X7_bitAt : yX7_bitAt.cls ≠ "java/lang/invoke/MethodHandle" ∧ yX7_bitAt.cls ≠ "java/lang/invoke/VarHandle" ∧ (parseMethodDescriptor yX7_bitAt.desc).map (fun d => d.parameters.length) = some 2 := by decide +kernel
set_option maxHeartbeats 4000000 in
set_option maxRecDepth 100000 in
theorem k_X7_bitAt {l : Launch} {G : Gx} (x0 : Int32) (x1 : Int32) {r : Int32} (hf : f_X7_bitAt x0 x1 = some r) : FC l G yX7_bitAt wsX7_bitAt ({ frames := 1, cells := 0, slots := 0, locals := 21 } : Room) [.int x0, .int x1] ([] : va_W) ([] : va_W) (some (.int r)) := by
  refine fc_head (cc := cX7_bitAt) (maxL := 4) (ret := (some .int)) (C := RX7) (lv := [(0, .int x0), (1, .int x1)]) (by decide) rfl rfl (Nat.le_of_ble_eq_true rfl) rfl ?_
  intro p e s m below meth c ls A hx hb hr hml hown hts hlocks hE hP hD hAB hS hl
  have hCF : CallFix p m c cX7_bitAt 4 s ([.int x0, .int x1] : List Value).toArray wsX7_bitAt RX7 := ⟨hx, hb, hml, hown, hts⟩
  rw [f_X7_bitAt] at hf
  refine lv_iload_n hx hb dX7_bitAt_0 rfl (lv_at hl 1 rfl) ?_
  refine lv_istore_n (lv' := [(2, .int x1), (0, .int x0), (1, .int x1)]) hx hb dX7_bitAt_1 rfl hl (by decide) rfl (fun ls hl => ?_)
  refine lv_iconst (v := (0 : Int32)) hx hb dX7_bitAt_2 (by decide) ?_
  refine lv_istore_n (lv' := [(3, .int (0 : Int32)), (2, .int x1), (0, .int x0), (1, .int x1)]) hx hb dX7_bitAt_3 rfl hl (by decide) rfl (fun ls hl => ?_)
  have L4_56 : ∀ (n : Nat) (x2_54 : Int32) (x3_55 : Int32) (H : Heap) (locs : List Loc) (ls : Array Slot), va_P (gD G) vwCl ([] : va_W) H → va_D A ([] : va_W) → va_S A s.heap H locs → lv_has ls 4 [(0, .int x0), (2, .int x2_54), (3, .int x3_55)] → f_X7_bitAt_4 x0 n x2_54 x3_55 = some r → W p l e (headSpec wsX7_bitAt ({ frames := 1, cells := 0, slots := 0, locals := 21 } : Room)).room s m ([.int x0, .int x1] : List Value).toArray below meth c H locs 0 0 (MQ below (FQ G A ([] : va_W) (some (.int r))) ([.int x0, .int x1] : List Value).toArray s 0 0 A) (F0 m 4 ls []) := by
    intro n
    induction n with
    | zero =>
      intro x2_54 x3_55 H locs ls hP hD hS hl hf
      exact no_some hf
    | succ n ih =>
      intro x2_54 x3_55 H locs ls hP hD hS hl hf
      rw [f_X7_bitAt_4] at hf
      refine lv_iload_n hx hb dX7_bitAt_4 rfl (lv_at hl 2 rfl) ?_
      refine lv_bipush (v := (32 : Int32)) hx hb dX7_bitAt_5 (by decide) ?_
      refine lv_icmp_ge (tgt := 33) hx hb dX7_bitAt_7 (by decide) (fun c57 => ?_) (fun c57 => ?_)
      · have hf := ifT hf c57
        refine lv_bipush (v := (-9 : Int32)) hx hb dX7_bitAt_33 (by decide) ?_
        exact fc_reti hx hb hr hlocks hP hS dX7_bitAt_35 (i1 hf) rfl
      · have hf := ifF hf c57
        refine lv_iload_n hx hb dX7_bitAt_10 rfl (lv_at hl 0 rfl) ?_
        refine lv_iload_n hx hb dX7_bitAt_11 rfl (lv_at hl 2 rfl) ?_
        obtain ⟨q58, hq58, hf⟩ := bnd hf
        refine fc_callS (Wa' := ([] : va_W)) (st1 := [.int q58]) (As := [.int x0, .int x3_55]) (rest := []) hCF (k_X7_has x0 x3_55 hq58) (va_cwS 2 hts gX7_bitAt_X7_has rfl rfl rfl dk_X7_has ⟨Nat.le_of_ble_eq_true rfl, Nat.le_of_ble_eq_true rfl⟩) hE hAB hP hD hS [] rfl rfl rfl rfl rfl rfl hl.1 rfl (Nat.le_of_ble_eq_true rfl) dX7_bitAt_12 ⟨Nat.le_refl _, Nat.le_refl _⟩ (fun H locs hP hD hS => ?_)
        refine lv_if_eq (tgt := 27) hx hb dX7_bitAt_15 (by decide) (fun c59 => ?_) (fun c59 => ?_)
        · have hf := ifT hf c59
          refine lv_iinc (v := (x3_55 + (1 : Int32))) (lv' := [(3, .int (x3_55 + (1 : Int32))), (0, .int x0), (2, .int x2_54)]) hx hb dX7_bitAt_27 hl (k := 2) rfl rfl (by decide) rfl (fun ls hl => ?_)
          refine lv_goto (tgt := 4) hx hb dX7_bitAt_30 (by decide) ?_
          exact ih x2_54 (x3_55 + (1 : Int32)) _ _ _ hP hD hS (lv_sub hl [1, 2, 0] rfl) hf
        · have hf := ifF hf c59
          refine lv_iload_n hx hb dX7_bitAt_18 rfl (lv_at hl 1 rfl) ?_
          refine lv_if_ne (tgt := 24) hx hb dX7_bitAt_19 (by decide) (fun c60 => ?_) (fun c60 => ?_)
          · have hf := ifF hf c60
            refine lv_iinc (v := (x2_54 + (-1 : Int32))) (lv' := [(2, .int (x2_54 + (-1 : Int32))), (0, .int x0), (3, .int x3_55)]) hx hb dX7_bitAt_24 hl (k := 1) rfl rfl (by decide) rfl (fun ls hl => ?_)
            refine lv_iinc (v := (x3_55 + (1 : Int32))) (lv' := [(3, .int (x3_55 + (1 : Int32))), (2, .int (x2_54 + (-1 : Int32))), (0, .int x0)]) hx hb dX7_bitAt_27 hl (k := 2) rfl rfl (by decide) rfl (fun ls hl => ?_)
            refine lv_goto (tgt := 4) hx hb dX7_bitAt_30 (by decide) ?_
            exact ih (x2_54 + (-1 : Int32)) (x3_55 + (1 : Int32)) _ _ _ hP hD hS (lv_sub hl [2, 1, 0] rfl) hf
          · have hf := ifT hf c60
            refine lv_iload_n hx hb dX7_bitAt_22 rfl (lv_at hl 2 rfl) ?_
            exact fc_reti hx hb hr hlocks hP hS dX7_bitAt_23 (i1 hf) rfl
  exact L4_56 FUEL x1 (0 : Int32) _ _ _ hP hD hS (lv_sub hl [2, 1, 0] rfl) hf
theorem dk_X7_onlyOne : yX7_onlyOne.cls ≠ "java/lang/invoke/MethodHandle" ∧ yX7_onlyOne.cls ≠ "java/lang/invoke/VarHandle" ∧ (parseMethodDescriptor yX7_onlyOne.desc).map (fun d => d.parameters.length) = some 1 := by decide +kernel
set_option maxHeartbeats 4000000 in
set_option maxRecDepth 100000 in
theorem k_X7_onlyOne {l : Launch} {G : Gx} (x0 : Int32) {r : Int32} (hf : f_X7_onlyOne x0 = some r) : FC l G yX7_onlyOne wsX7_onlyOne ({ frames := 2, cells := 0, slots := 0, locals := 44 } : Room) [.int x0] ([] : va_W) ([] : va_W) (some (.int r)) := by
  refine fc_head (cc := cX7_onlyOne) (maxL := 1) (ret := (some .int)) (C := RX7) (lv := [(0, .int x0)]) (by decide) rfl rfl (Nat.le_of_ble_eq_true rfl) rfl ?_
  intro p e s m below meth c ls A hx hb hr hml hown hts hlocks hE hP hD hAB hS hl
  have hCF : CallFix p m c cX7_onlyOne 1 s ([.int x0] : List Value).toArray wsX7_onlyOne RX7 := ⟨hx, hb, hml, hown, hts⟩
  rw [f_X7_onlyOne] at hf
  refine lv_iload_n hx hb dX7_onlyOne_0 rfl (lv_at hl 0 rfl) ?_
  obtain ⟨q63, hq63, hf⟩ := bnd hf
  refine fc_callS (Wa' := ([] : va_W)) (st1 := [.int q63]) (As := [.int x0]) (rest := []) hCF (k_J6_bitCount_0f7a4 x0 hq63) (va_cwS 1 hts gX7_onlyOne_J6_bitCount_0f7a4 rfl rfl rfl dk_J6_bitCount_0f7a4 ⟨Nat.le_of_ble_eq_true rfl, Nat.le_of_ble_eq_true rfl⟩) hE hAB hP hD hS [] rfl rfl rfl rfl rfl rfl hl.1 rfl (Nat.le_of_ble_eq_true rfl) dX7_onlyOne_1 ⟨Nat.le_refl _, Nat.le_refl _⟩ (fun H locs hP hD hS => ?_)
  refine lv_iconst (v := (1 : Int32)) hx hb dX7_onlyOne_4 (by decide) ?_
  refine lv_icmp_ne (tgt := 16) hx hb dX7_onlyOne_5 (by decide) (fun c64 => ?_) (fun c64 => ?_)
  · have hf := ifF hf c64
    refine lv_bipush (v := (-9 : Int32)) hx hb dX7_onlyOne_16 (by decide) ?_
    exact fc_reti hx hb hr hlocks hP hS dX7_onlyOne_18 (i1 hf) rfl
  · have hf := ifT hf c64
    refine lv_iload_n hx hb dX7_onlyOne_8 rfl (lv_at hl 0 rfl) ?_
    refine lv_iconst (v := (0 : Int32)) hx hb dX7_onlyOne_9 (by decide) ?_
    obtain ⟨q65, hq65, hf⟩ := bnd hf
    refine fc_callS (Wa' := ([] : va_W)) (st1 := [.int q65]) (As := [.int x0, .int (0 : Int32)]) (rest := []) hCF (k_X7_bitAt x0 (0 : Int32) hq65) (va_cwS 2 hts gX7_onlyOne_X7_bitAt rfl rfl rfl dk_X7_bitAt ⟨Nat.le_of_ble_eq_true rfl, Nat.le_of_ble_eq_true rfl⟩) hE hAB hP hD hS [] rfl rfl rfl rfl rfl rfl hl.1 rfl (Nat.le_of_ble_eq_true rfl) dX7_onlyOne_10 ⟨Nat.le_refl _, Nat.le_refl _⟩ (fun H locs hP hD hS => ?_)
    refine lv_goto (tgt := 18) hx hb dX7_onlyOne_13 (by decide) ?_
    exact fc_reti hx hb hr hlocks hP hS dX7_onlyOne_18 (i1 hf) rfl
theorem dk_X6_knows : yX6_knows.cls ≠ "java/lang/invoke/MethodHandle" ∧ yX6_knows.cls ≠ "java/lang/invoke/VarHandle" ∧ (parseMethodDescriptor yX6_knows.desc).map (fun d => d.parameters.length) = some 2 := by decide +kernel
theorem iu_X6_knows_X6 : ∀ w ∈ u_ws RX6 TX6 12, w ∈ wsX6_knows := by decide +kernel
set_option maxHeartbeats 4000000 in
set_option maxRecDepth 100000 in
theorem k_X6_knows {l : Launch} {G : Gx} (a : Nat → Nat) (v : St) (x1 : Int32) (x2 : Int32) {r : Int32} (hf : f_X6_knows v x1 x2 = some r) : FC l G yX6_knows wsX6_knows ({ frames := 3, cells := 0, slots := 0, locals := 77 } : Room) [.ref (a 0), .int x1, .int x2] (vW G a v) (vW G a v) (some (.int r)) := by
  refine fc_head (cc := cX6_knows) (maxL := 3) (ret := (some .int)) (C := RX6) (lv := [(0, .ref (a 0)), (1, .int x1), (2, .int x2)]) (by decide) rfl rfl (Nat.le_of_ble_eq_true rfl) rfl ?_
  intro p e s m below meth c ls A hx hb hr hml hown hts hlocks hE hP hD hAB hS hl
  have hCF : CallFix p m c cX6_knows 3 s ([.ref (a 0), .int x1, .int x2] : List Value).toArray wsX6_knows RX6 := ⟨hx, hb, hml, hown, hts⟩
  have hwX6 : ∀ w ∈ u_ws RX6 TX6 12, w.before ([.ref (a 0), .int x1, .int x2] : List Value).toArray s = true := fun w h => hts w (iu_X6_knows_X6 w h)
  have hk_fieldLink_RX6_24__BrideNotKnown_Valley___lookBits____I_ := hts (.fieldLink RX6 24 "BrideNotKnown$Valley" "lookBits" "[I") (List.mem_of_getElem? (i := 1) rfl)
  have hk_initialized_RX7 := hts (.initialized RX7) (List.mem_of_getElem? (i := 3) rfl)
  have hk_static_yX7_at := hts (.static yX7_at) (List.mem_of_getElem? (i := 2) rfl)
  have hk_static_yX7_onlyOne := hts (.static yX7_onlyOne) (List.mem_of_getElem? (i := 28) rfl)
  rw [f_X6_knows] at hf
  refine lv_aload_n hx hb dX6_knows_0 rfl (lv_at hl 0 rfl) ?_
  refine lv_iload_n hx hb dX6_knows_1 rfl (lv_at hl 1 rfl) ?_
  refine lv_aload_n hx hb dX6_knows_2 rfl (lv_at hl 0 rfl) ?_
  refine fc_get (v := .ref (a 5)) (ci := 3) (C := RX6) (T := TX6) (N := 12) hx hb hwX6 hown hE hP 0 rfl rfl 8 (by decide) hk_fieldLink_RX6_24__BrideNotKnown_Valley___lookBits____I_ (fun _ h => h) rfl dX6_knows_3 ?_
  refine lv_iload_n hx hb dX6_knows_6 rfl (lv_at hl 1 rfl) ?_
  obtain ⟨q69, hq69, hf⟩ := bnd hf
  refine fc_callN (Wa' := (vW G a v)) (st1 := [.int q69, .int x1, .ref (a 0)]) (As := [.ref (a 5), .int x1]) (rest := [.int x1, .ref (a 0)]) hCF (k_X7_at (a 5) 5 (v 4) x1 hq69) ⟨va_cnB 2 hts gX6_knows_X7_at_n53 rfl rfl rfl (hE.2.1 _ (List.mem_of_getElem? (i := 8) rfl)) hk_initialized_RX7 dk_X7_at ⟨Nat.le_of_ble_eq_true rfl, Nat.le_of_ble_eq_true rfl⟩, hk_static_yX7_at, trivial⟩ hE hAB hP hD hS [5] rfl rfl rfl rfl rfl rfl hl.1 rfl (Nat.le_of_ble_eq_true rfl) dX6_knows_7 ⟨Nat.le_refl _, Nat.le_refl _⟩ (fun H locs hP hD hS => ?_)
  refine lv_iload_n hx hb dX6_knows_10 rfl (lv_at hl 2 rfl) ?_
  obtain ⟨q70, hq70, hf⟩ := bnd hf
  refine fc_callV (Wa' := (vW G a v)) (st1 := [.int q70]) (As := [.int x1, .int q69, .int x2]) (rest := []) hCF (k_X6_guessesBy a v x1 q69 x2 hq70) (cwV 3 hts gX6_knows_X6_guessesBy rfl rfl rfl ⟨rfl, dk_X6_guessesBy⟩ ⟨Nat.le_of_ble_eq_true rfl, Nat.le_of_ble_eq_true rfl⟩) hE hAB hP hD hS [0, 1, 2, 3, 4, 5, 6, 7] rfl rfl (va_recv hE.1 hP (ci := 3) (q0 := 0) rfl rfl) rfl rfl rfl rfl hl.1 rfl (Nat.le_of_ble_eq_true rfl) dX6_knows_11 ⟨Nat.le_refl _, Nat.le_refl _⟩ (fun H locs hP hD hS => ?_)
  obtain ⟨q71, hq71, hf⟩ := bnd hf
  refine fc_callN (Wa' := (vW G a v)) (st1 := [.int q71]) (As := [.int q70]) (rest := []) hCF (k_X7_onlyOne q70 hq71) ⟨va_cnB 1 hts gX6_knows_X7_onlyOne_n109 rfl rfl rfl (hE.2.1 _ (List.mem_of_getElem? (i := 10) rfl)) hk_initialized_RX7 dk_X7_onlyOne ⟨Nat.le_of_ble_eq_true rfl, Nat.le_of_ble_eq_true rfl⟩, hk_static_yX7_onlyOne, trivial⟩ hE hAB hP hD hS [] rfl rfl rfl rfl rfl rfl hl.1 rfl (Nat.le_of_ble_eq_true rfl) dX6_knows_14 ⟨Nat.le_refl _, Nat.le_refl _⟩ (fun H locs hP hD hS => ?_)
  exact fc_reti hx hb hr hlocks hP hS dX6_knows_17 (i1 hf) rfl
theorem dk_X6_knownBits : yX6_knownBits.cls ≠ "java/lang/invoke/MethodHandle" ∧ yX6_knownBits.cls ≠ "java/lang/invoke/VarHandle" ∧ (parseMethodDescriptor yX6_knownBits.desc).map (fun d => d.parameters.length) = some 0 := by decide +kernel
theorem iu_X6_knownBits_X6 : ∀ w ∈ u_ws RX6 TX6 12, w ∈ wsX6_knownBits := by decide +kernel
set_option maxHeartbeats 4000000 in
set_option maxRecDepth 100000 in
theorem k_X6_knownBits {l : Launch} {G : Gx} (a : Nat → Nat) (v : St) {r : Int32} (hf : f_X6_knownBits v = some r) : FC l G yX6_knownBits wsX6_knownBits ({ frames := 4, cells := 0, slots := 0, locals := 99 } : Room) [.ref (a 0)] (vW G a v) (vW G a v) (some (.int r)) := by
  refine fc_head (cc := cX6_knownBits) (maxL := 4) (ret := (some .int)) (C := RX6) (lv := [(0, .ref (a 0))]) (by decide) rfl rfl (Nat.le_of_ble_eq_true rfl) rfl ?_
  intro p e s m below meth c ls A hx hb hr hml hown hts hlocks hE hP hD hAB hS hl
  have hCF : CallFix p m c cX6_knownBits 4 s ([.ref (a 0)] : List Value).toArray wsX6_knownBits RX6 := ⟨hx, hb, hml, hown, hts⟩
  have hwX6 : ∀ w ∈ u_ws RX6 TX6 12, w.before ([.ref (a 0)] : List Value).toArray s = true := fun w h => hts w (iu_X6_knownBits_X6 w h)
  have hk_fieldLink_RX6_47__BrideNotKnown_Valley___groomCount___I_ := hts (.fieldLink RX6 47 "BrideNotKnown$Valley" "groomCount" "I") (List.mem_of_getElem? (i := 1) rfl)
  rw [f_X6_knownBits] at hf
  refine lv_iconst (v := (0 : Int32)) hx hb dX6_knownBits_0 (by decide) ?_
  refine lv_istore_n (lv' := [(1, .int (0 : Int32)), (0, .ref (a 0))]) hx hb dX6_knownBits_1 rfl hl (by decide) rfl (fun ls hl => ?_)
  refine lv_iconst (v := (0 : Int32)) hx hb dX6_knownBits_2 (by decide) ?_
  refine lv_istore_n (lv' := [(2, .int (0 : Int32)), (1, .int (0 : Int32)), (0, .ref (a 0))]) hx hb dX6_knownBits_3 rfl hl (by decide) rfl (fun ls hl => ?_)
  have L4_80 : ∀ (n : Nat) (x1_78 : Int32) (x2_79 : Int32) (H : Heap) (locs : List Loc) (ls : Array Slot), va_P (gD G) vwCl (vW G a v) H → va_D A (vW G a v) → va_S A s.heap H locs → lv_has ls 4 [(0, .ref (a 0)), (1, .int x1_78), (2, .int x2_79)] → f_X6_knownBits_4 v n x1_78 x2_79 = some r → W p l e (headSpec wsX6_knownBits ({ frames := 4, cells := 0, slots := 0, locals := 99 } : Room)).room s m ([.ref (a 0)] : List Value).toArray below meth c H locs 0 0 (MQ below (FQ G A (vW G a v) (some (.int r))) ([.ref (a 0)] : List Value).toArray s 0 0 A) (F0 m 4 ls []) := by
    intro n
    induction n with
    | zero =>
      intro x1_78 x2_79 H locs ls hP hD hS hl hf
      exact no_some hf
    | succ n ih =>
      intro x1_78 x2_79 H locs ls hP hD hS hl hf
      rw [f_X6_knownBits_4] at hf
      refine lv_iload_n hx hb dX6_knownBits_4 rfl (lv_at hl 2 rfl) ?_
      refine lv_aload_n hx hb dX6_knownBits_5 rfl (lv_at hl 0 rfl) ?_
      refine fc_get (v := .int (v 7 3)) (ci := 3) (C := RX6) (T := TX6) (N := 12) hx hb hwX6 hown hE hP 0 rfl rfl 7 (by decide) hk_fieldLink_RX6_47__BrideNotKnown_Valley___groomCount___I_ (fun _ h => h) rfl dX6_knownBits_6 ?_
      refine lv_icmp_ge (tgt := 50) hx hb dX6_knownBits_9 (by decide) (fun c81 => ?_) (fun c81 => ?_)
      · have hf := ifT hf c81
        refine lv_iload_n hx hb dX6_knownBits_50 rfl (lv_at hl 1 rfl) ?_
        exact fc_reti hx hb hr hlocks hP hS dX6_knownBits_51 (i1 hf) rfl
      · have hf := ifF hf c81
        refine lv_aload_n hx hb dX6_knownBits_12 rfl (lv_at hl 0 rfl) ?_
        refine lv_iload_n hx hb dX6_knownBits_13 rfl (lv_at hl 2 rfl) ?_
        obtain ⟨q82, hq82, hf⟩ := bnd hf
        refine fc_callV (Wa' := (vW G a v)) (st1 := [.int q82]) (As := [.int x2_79]) (rest := []) hCF (k_X6_isUnmarried a v x2_79 hq82) (cwV 1 hts gX6_knownBits_X6_isUnmarried rfl rfl rfl ⟨rfl, dk_X6_isUnmarried⟩ ⟨Nat.le_of_ble_eq_true rfl, Nat.le_of_ble_eq_true rfl⟩) hE hAB hP hD hS [0, 1, 2, 3, 4, 5, 6, 7] rfl rfl (va_recv hE.1 hP (ci := 3) (q0 := 0) rfl rfl) rfl rfl rfl rfl hl.1 rfl (Nat.le_of_ble_eq_true rfl) dX6_knownBits_14 ⟨Nat.le_refl _, Nat.le_refl _⟩ (fun H locs hP hD hS => ?_)
        have J31_84 : ∀ (s0_83 : Int32) (H : Heap) (locs : List Loc) (ls : Array Slot), va_P (gD G) vwCl (vW G a v) H → va_D A (vW G a v) → va_S A s.heap H locs → lv_has ls 4 [(0, .ref (a 0)), (1, .int x1_78), (2, .int x2_79)] → f_X6_knownBits_31 x1_78 x2_79 s0_83 (fun (x1_85 : Int32) (x2_86 : Int32) => f_X6_knownBits_4 v n x1_85 x2_86) = some r → W p l e (headSpec wsX6_knownBits ({ frames := 4, cells := 0, slots := 0, locals := 99 } : Room)).room s m ([.ref (a 0)] : List Value).toArray below meth c H locs 0 0 (MQ below (FQ G A (vW G a v) (some (.int r))) ([.ref (a 0)] : List Value).toArray s 0 0 A) (F0 m 31 ls [.int s0_83]) := by
          intro s0_83 H locs ls hP hD hS hl hf
          rw [f_X6_knownBits_31] at hf
          refine lv_istore_n (lv' := [(3, .int s0_83), (0, .ref (a 0)), (1, .int x1_78), (2, .int x2_79)]) hx hb dX6_knownBits_31 rfl hl (by decide) rfl (fun ls hl => ?_)
          refine lv_iload_n hx hb dX6_knownBits_32 rfl (lv_at hl 0 rfl) ?_
          refine lv_bipush (v := (-9 : Int32)) hx hb dX6_knownBits_33 (by decide) ?_
          refine lv_icmp_eq (tgt := 44) hx hb dX6_knownBits_35 (by decide) (fun c87 => ?_) (fun c87 => ?_)
          · have hf := ifT hf c87
            refine lv_iinc (v := (x2_79 + (1 : Int32))) (lv' := [(2, .int (x2_79 + (1 : Int32))), (3, .int s0_83), (0, .ref (a 0)), (1, .int x1_78)]) hx hb dX6_knownBits_44 hl (k := 3) rfl rfl (by decide) rfl (fun ls hl => ?_)
            refine lv_goto (tgt := 4) hx hb dX6_knownBits_47 (by decide) ?_
            exact ih x1_78 (x2_79 + (1 : Int32)) _ _ _ hP hD hS (lv_sub hl [2, 3, 0] rfl) hf
          · have hf := ifF hf c87
            refine lv_iload_n hx hb dX6_knownBits_38 rfl (lv_at hl 2 rfl) ?_
            refine lv_iconst (v := (1 : Int32)) hx hb dX6_knownBits_39 (by decide) ?_
            refine lv_iload_n hx hb dX6_knownBits_40 rfl (lv_at hl 0 rfl) ?_
            refine lv_ishl hx hb dX6_knownBits_41 ?_
            refine lv_ior hx hb dX6_knownBits_42 ?_
            refine lv_istore_n (lv' := [(1, .int (x1_78 ||| ((1 : Int32) <<< (s0_83 &&& 31)))), (3, .int s0_83), (0, .ref (a 0)), (2, .int x2_79)]) hx hb dX6_knownBits_43 rfl hl (by decide) rfl (fun ls hl => ?_)
            refine lv_iinc (v := (x2_79 + (1 : Int32))) (lv' := [(2, .int (x2_79 + (1 : Int32))), (1, .int (x1_78 ||| ((1 : Int32) <<< (s0_83 &&& 31)))), (3, .int s0_83), (0, .ref (a 0))]) hx hb dX6_knownBits_44 hl (k := 3) rfl rfl (by decide) rfl (fun ls hl => ?_)
            refine lv_goto (tgt := 4) hx hb dX6_knownBits_47 (by decide) ?_
            exact ih (x1_78 ||| ((1 : Int32) <<< (s0_83 &&& 31))) (x2_79 + (1 : Int32)) _ _ _ hP hD hS (lv_sub hl [3, 1, 0] rfl) hf
        refine lv_if_eq (tgt := 29) hx hb dX6_knownBits_17 (by decide) (fun c88 => ?_) (fun c88 => ?_)
        · have hf := ifT hf c88
          refine lv_bipush (v := (-9 : Int32)) hx hb dX6_knownBits_29 (by decide) ?_
          exact J31_84 (-9 : Int32) _ _ _ hP hD hS (lv_sub hl [0, 1, 2] rfl) hf
        · have hf := ifF hf c88
          refine lv_aload_n hx hb dX6_knownBits_20 rfl (lv_at hl 0 rfl) ?_
          refine lv_iload_n hx hb dX6_knownBits_21 rfl (lv_at hl 2 rfl) ?_
          refine lv_iconst (v := (0 : Int32)) hx hb dX6_knownBits_22 (by decide) ?_
          obtain ⟨q89, hq89, hf⟩ := bnd hf
          refine fc_callV (Wa' := (vW G a v)) (st1 := [.int q89]) (As := [.int x2_79, .int (0 : Int32)]) (rest := []) hCF (k_X6_knows a v x2_79 (0 : Int32) hq89) (cwV 2 hts gX6_knownBits_X6_knows rfl rfl rfl ⟨rfl, dk_X6_knows⟩ ⟨Nat.le_of_ble_eq_true rfl, Nat.le_of_ble_eq_true rfl⟩) hE hAB hP hD hS [0, 1, 2, 3, 4, 5, 6, 7] rfl rfl (va_recv hE.1 hP (ci := 3) (q0 := 0) rfl rfl) rfl rfl rfl rfl hl.1 rfl (Nat.le_of_ble_eq_true rfl) dX6_knownBits_23 ⟨Nat.le_refl _, Nat.le_refl _⟩ (fun H locs hP hD hS => ?_)
          refine lv_goto (tgt := 31) hx hb dX6_knownBits_26 (by decide) ?_
          exact J31_84 q89 _ _ _ hP hD hS (lv_sub hl [0, 1, 2] rfl) hf
  exact L4_80 FUEL (0 : Int32) (0 : Int32) _ _ _ hP hD hS (lv_sub hl [2, 1, 0] rfl) hf
theorem dk_X6_placeOf : yX6_placeOf.cls ≠ "java/lang/invoke/MethodHandle" ∧ yX6_placeOf.cls ≠ "java/lang/invoke/VarHandle" ∧ (parseMethodDescriptor yX6_placeOf.desc).map (fun d => d.parameters.length) = some 1 := by decide +kernel
theorem iu_X6_placeOf_X6 : ∀ w ∈ u_ws RX6 TX6 12, w ∈ wsX6_placeOf := by decide +kernel
set_option maxHeartbeats 4000000 in
set_option maxRecDepth 100000 in
theorem k_X6_placeOf {l : Launch} {G : Gx} (a : Nat → Nat) (v : St) (x1 : Int32) {r : Int32} (hf : f_X6_placeOf v x1 = some r) : FC l G yX6_placeOf wsX6_placeOf ({ frames := 1, cells := 0, slots := 0, locals := 21 } : Room) [.ref (a 0), .int x1] (vW G a v) (vW G a v) (some (.int r)) := by
  refine fc_head (cc := cX6_placeOf) (maxL := 2) (ret := (some .int)) (C := RX6) (lv := [(0, .ref (a 0)), (1, .int x1)]) (by decide) rfl rfl (Nat.le_of_ble_eq_true rfl) rfl ?_
  intro p e s m below meth c ls A hx hb hr hml hown hts hlocks hE hP hD hAB hS hl
  have hCF : CallFix p m c cX6_placeOf 2 s ([.ref (a 0), .int x1] : List Value).toArray wsX6_placeOf RX6 := ⟨hx, hb, hml, hown, hts⟩
  have hwX6 : ∀ w ∈ u_ws RX6 TX6 12, w.before ([.ref (a 0), .int x1] : List Value).toArray s = true := fun w h => hts w (iu_X6_placeOf_X6 w h)
  have hk_fieldLink_RX6_44__BrideNotKnown_Valley___marriedBrides___I_ := hts (.fieldLink RX6 44 "BrideNotKnown$Valley" "marriedBrides" "I") (List.mem_of_getElem? (i := 1) rfl)
  have hk_initialized_RX7 := hts (.initialized RX7) (List.mem_of_getElem? (i := 4) rfl)
  have hk_static_yX7_has := hts (.static yX7_has) (List.mem_of_getElem? (i := 3) rfl)
  have hk_fieldLink_RX6_21__BrideNotKnown_Valley___sentYears____I_ := hts (.fieldLink RX6 21 "BrideNotKnown$Valley" "sentYears" "[I") (List.mem_of_getElem? (i := 2) rfl)
  have hk_static_yX7_at := hts (.static yX7_at) (List.mem_of_getElem? (i := 6) rfl)
  rw [f_X6_placeOf] at hf
  refine lv_aload_n hx hb dX6_placeOf_0 rfl (lv_at hl 0 rfl) ?_
  refine fc_get (v := .int (v 7 2)) (ci := 3) (C := RX6) (T := TX6) (N := 12) hx hb hwX6 hown hE hP 0 rfl rfl 6 (by decide) hk_fieldLink_RX6_44__BrideNotKnown_Valley___marriedBrides___I_ (fun _ h => h) rfl dX6_placeOf_1 ?_
  refine lv_iload_n hx hb dX6_placeOf_4 rfl (lv_at hl 1 rfl) ?_
  obtain ⟨q92, hq92, hf⟩ := bnd hf
  refine fc_callN (Wa' := (vW G a v)) (st1 := [.int q92]) (As := [.int (v 7 2), .int x1]) (rest := []) hCF (k_X7_has (v 7 2) x1 hq92) ⟨va_cnB 2 hts gX6_placeOf_X7_has_n57 rfl rfl rfl (hE.2.1 _ (List.mem_of_getElem? (i := 9) rfl)) hk_initialized_RX7 dk_X7_has ⟨Nat.le_of_ble_eq_true rfl, Nat.le_of_ble_eq_true rfl⟩, hk_static_yX7_has, trivial⟩ hE hAB hP hD hS [] rfl rfl rfl rfl rfl rfl hl.1 rfl (Nat.le_of_ble_eq_true rfl) dX6_placeOf_5 ⟨Nat.le_refl _, Nat.le_refl _⟩ (fun H locs hP hD hS => ?_)
  refine lv_if_eq (tgt := 13) hx hb dX6_placeOf_8 (by decide) (fun c93 => ?_) (fun c93 => ?_)
  · have hf := ifT hf c93
    refine lv_aload_n hx hb dX6_placeOf_13 rfl (lv_at hl 0 rfl) ?_
    refine fc_get (v := .ref (a 4)) (ci := 3) (C := RX6) (T := TX6) (N := 12) hx hb hwX6 hown hE hP 0 rfl rfl 5 (by decide) hk_fieldLink_RX6_21__BrideNotKnown_Valley___sentYears____I_ (fun _ h => h) rfl dX6_placeOf_14 ?_
    refine lv_iload_n hx hb dX6_placeOf_17 rfl (lv_at hl 1 rfl) ?_
    obtain ⟨q94, hq94, hf⟩ := bnd hf
    refine fc_callN (Wa' := (vW G a v)) (st1 := [.int q94]) (As := [.ref (a 4), .int x1]) (rest := []) hCF (k_X7_at (a 4) 8 (v 3) x1 hq94) ⟨va_cnB 2 hts gX6_placeOf_X7_at_n53 rfl rfl rfl (hE.2.1 _ (List.mem_of_getElem? (i := 8) rfl)) hk_initialized_RX7 dk_X7_at ⟨Nat.le_of_ble_eq_true rfl, Nat.le_of_ble_eq_true rfl⟩, hk_static_yX7_at, trivial⟩ hE hAB hP hD hS [4] rfl rfl rfl rfl rfl rfl hl.1 rfl (Nat.le_of_ble_eq_true rfl) dX6_placeOf_18 ⟨Nat.le_refl _, Nat.le_refl _⟩ (fun H locs hP hD hS => ?_)
    refine lv_if_le (tgt := 28) hx hb dX6_placeOf_21 (by decide) (fun c95 => ?_) (fun c95 => ?_)
    · have hf := ifT hf c95
      refine lv_iconst (v := (0 : Int32)) hx hb dX6_placeOf_28 (by decide) ?_
      exact fc_reti hx hb hr hlocks hP hS dX6_placeOf_29 (i1 hf) rfl
    · have hf := ifF hf c95
      refine lv_iconst (v := (1 : Int32)) hx hb dX6_placeOf_24 (by decide) ?_
      refine lv_goto (tgt := 29) hx hb dX6_placeOf_25 (by decide) ?_
      exact fc_reti hx hb hr hlocks hP hS dX6_placeOf_29 (i1 hf) rfl
  · have hf := ifF hf c93
    refine lv_iconst (v := (2 : Int32)) hx hb dX6_placeOf_11 (by decide) ?_
    exact fc_reti hx hb hr hlocks hP hS dX6_placeOf_12 (i1 hf) rfl
theorem dk_X6_isHere : yX6_isHere.cls ≠ "java/lang/invoke/MethodHandle" ∧ yX6_isHere.cls ≠ "java/lang/invoke/VarHandle" ∧ (parseMethodDescriptor yX6_isHere.desc).map (fun d => d.parameters.length) = some 1 := by decide +kernel
set_option maxHeartbeats 4000000 in
set_option maxRecDepth 100000 in
theorem k_X6_isHere {l : Launch} {G : Gx} (a : Nat → Nat) (v : St) (x1 : Int32) {r : Int32} (hf : f_X6_isHere v x1 = some r) : FC l G yX6_isHere wsX6_isHere ({ frames := 2, cells := 0, slots := 0, locals := 42 } : Room) [.ref (a 0), .int x1] (vW G a v) (vW G a v) (some (.int r)) := by
  refine fc_head (cc := cX6_isHere) (maxL := 2) (ret := (some .boolean)) (C := RX6) (lv := [(0, .ref (a 0)), (1, .int x1)]) (by decide) rfl rfl (Nat.le_of_ble_eq_true rfl) rfl ?_
  intro p e s m below meth c ls A hx hb hr hml hown hts hlocks hE hP hD hAB hS hl
  have hCF : CallFix p m c cX6_isHere 2 s ([.ref (a 0), .int x1] : List Value).toArray wsX6_isHere RX6 := ⟨hx, hb, hml, hown, hts⟩
  rw [f_X6_isHere] at hf
  refine lv_aload_n hx hb dX6_isHere_0 rfl (lv_at hl 0 rfl) ?_
  refine lv_iload_n hx hb dX6_isHere_1 rfl (lv_at hl 1 rfl) ?_
  obtain ⟨q97, hq97, hf⟩ := bnd hf
  refine fc_callV (Wa' := (vW G a v)) (st1 := [.int q97]) (As := [.int x1]) (rest := []) hCF (k_X6_placeOf a v x1 hq97) (cwV 1 hts gX6_isHere_X6_placeOf rfl rfl rfl ⟨rfl, dk_X6_placeOf⟩ ⟨Nat.le_of_ble_eq_true rfl, Nat.le_of_ble_eq_true rfl⟩) hE hAB hP hD hS [0, 1, 2, 3, 4, 5, 6, 7] rfl rfl (va_recv hE.1 hP (ci := 3) (q0 := 0) rfl rfl) rfl rfl rfl rfl hl.1 rfl (Nat.le_of_ble_eq_true rfl) dX6_isHere_2 ⟨Nat.le_refl _, Nat.le_refl _⟩ (fun H locs hP hD hS => ?_)
  refine lv_if_ne (tgt := 12) hx hb dX6_isHere_5 (by decide) (fun c98 => ?_) (fun c98 => ?_)
  · have hf := ifF hf c98
    refine lv_iconst (v := (0 : Int32)) hx hb dX6_isHere_12 (by decide) ?_
    exact fc_retz hx hb hr hlocks hP hS dX6_isHere_13 (by decide) (i1 hf) rfl
  · have hf := ifT hf c98
    refine lv_iconst (v := (1 : Int32)) hx hb dX6_isHere_8 (by decide) ?_
    refine lv_goto (tgt := 13) hx hb dX6_isHere_9 (by decide) ?_
    exact fc_retz hx hb hr hlocks hP hS dX6_isHere_13 (by decide) (i1 hf) rfl
theorem dk_X7_copy : yX7_copy.cls ≠ "java/lang/invoke/MethodHandle" ∧ yX7_copy.cls ≠ "java/lang/invoke/VarHandle" ∧ (parseMethodDescriptor yX7_copy.desc).map (fun d => d.parameters.length) = some 2 := by decide +kernel
set_option maxHeartbeats 4000000 in
set_option maxRecDepth 100000 in
theorem k_X7_copy {l : Launch} {G : Gx} (q : Nat) (N0 : Nat) (f : Nat → Int32) (r : Nat) (N1 : Nat) (g : Nat → Int32) {g' : (Nat → Int32)} (hf : f_X7_copy N0 f N1 g = some g') : FC l G yX7_copy wsX7_copy ({ frames := 0, cells := 0, slots := 0, locals := 0 } : Room) [.ref q, .ref r] (aW G q N0 f ++ aW G r N1 g) (aW G q N0 f ++ aW G r N1 (g')) none := by
  refine fc_head (cc := cX7_copy) (maxL := 3) (ret := none) (C := RX7) (lv := [(0, .ref q), (1, .ref r)]) (by decide) rfl rfl (Nat.le_of_ble_eq_true rfl) rfl ?_
  intro p e s m below meth c ls A hx hb hr hml hown hts hlocks hE hP hD hAB hS hl
  have hCF : CallFix p m c cX7_copy 3 s ([.ref q, .ref r] : List Value).toArray wsX7_copy RX7 := ⟨hx, hb, hml, hown, hts⟩
  rw [f_X7_copy] at hf
  refine lv_aload_n hx hb dX7_copy_0 rfl (lv_at hl 0 rfl) ?_
  refine lv_ifnull hx hb dX7_copy_1 ?_
  refine lv_aload_n hx hb dX7_copy_4 rfl (lv_at hl 1 rfl) ?_
  refine lv_ifnonnull (tgt := 9) hx hb dX7_copy_5 (by decide) ?_
  refine lv_iconst (v := (0 : Int32)) hx hb dX7_copy_9 (by decide) ?_
  refine lv_istore_n (lv' := [(2, .int (0 : Int32)), (0, .ref q), (1, .ref r)]) hx hb dX7_copy_10 rfl hl (by decide) rfl (fun ls hl => ?_)
  have L11_101 : ∀ (n : Nat) (x2_99 : Int32) (g_100 : (Nat → Int32)) (H : Heap) (locs : List Loc) (ls : Array Slot), va_P (gD G) vwCl (aW G q N0 f ++ aW G r N1 g_100) H → va_D A (aW G q N0 f ++ aW G r N1 g_100) → va_S A s.heap H locs → lv_has ls 3 [(0, .ref q), (1, .ref r), (2, .int x2_99)] → f_X7_copy_11 N0 f N1 n x2_99 g_100 = some g' → W p l e (headSpec wsX7_copy ({ frames := 0, cells := 0, slots := 0, locals := 0 } : Room)).room s m ([.ref q, .ref r] : List Value).toArray below meth c H locs 0 0 (MQ below (FQ G A (aW G q N0 f ++ aW G r N1 (g')) none) ([.ref q, .ref r] : List Value).toArray s 0 0 A) (F0 m 11 ls []) := by
    intro n
    induction n with
    | zero =>
      intro x2_99 g_100 H locs ls hP hD hS hl hf
      exact no_some hf
    | succ n ih =>
      intro x2_99 g_100 H locs ls hP hD hS hl hf
      rw [f_X7_copy_11] at hf
      refine lv_iload_n hx hb dX7_copy_11 rfl (lv_at hl 2 rfl) ?_
      refine lv_aload_n hx hb dX7_copy_12 rfl (lv_at hl 0 rfl) ?_
      refine fc_alen (n := N0) (f := f) hx hb hE hP 0 rfl dX7_copy_13 ?_
      refine lv_icmp_ge (tgt := 35) hx hb dX7_copy_14 (by decide) (fun c102 => ?_) (fun c102 => ?_)
      · have hf := ifT hf c102
        exact fc_retv hx hb hr hlocks hP hS dX7_copy_35 (congrArg (fun z => (aW G q N0 f ++ aW G r N1 z)) (i1 hf))
      · have hf := ifF hf c102
        refine lv_iload_n hx hb dX7_copy_17 rfl (lv_at hl 2 rfl) ?_
        refine lv_aload_n hx hb dX7_copy_18 rfl (lv_at hl 1 rfl) ?_
        refine fc_alen (n := N1) (f := g_100) hx hb hE hP 1 rfl dX7_copy_19 ?_
        refine lv_icmp_ge (tgt := 35) hx hb dX7_copy_20 (by decide) (fun c103 => ?_) (fun c103 => ?_)
        · have hf := ifT hf c103
          exact fc_retv hx hb hr hlocks hP hS dX7_copy_35 (congrArg (fun z => (aW G q N0 f ++ aW G r N1 z)) (i1 hf))
        · have hf := ifF hf c103
          refine lv_aload_n hx hb dX7_copy_23 rfl (lv_at hl 1 rfl) ?_
          refine lv_iload_n hx hb dX7_copy_24 rfl (lv_at hl 2 rfl) ?_
          refine lv_aload_n hx hb dX7_copy_25 rfl (lv_at hl 0 rfl) ?_
          refine lv_iload_n hx hb dX7_copy_26 rfl (lv_at hl 2 rfl) ?_
          obtain ⟨c104, hf⟩ := gd_some hf
          refine fc_iald (n := N0) (f := f) hx hb hE hP 0 rfl (inB_in c104) dX7_copy_27 ?_
          obtain ⟨c105, hf⟩ := gd_some hf
          refine fc_iast (n := N1) (f := g_100) (Wa' := (aW G q N0 f ++ aW G r N1 (upd g_100 x2_99.toNatClampNeg (f x2_99.toNatClampNeg)))) hx hb hE hP hD hS 1 rfl (inB_in c105) dX7_copy_28 rfl (fun H locs hP hD hS => ?_)
          refine lv_iinc (v := (x2_99 + (1 : Int32))) (lv' := [(2, .int (x2_99 + (1 : Int32))), (0, .ref q), (1, .ref r)]) hx hb dX7_copy_29 hl (k := 2) rfl rfl (by decide) rfl (fun ls hl => ?_)
          refine lv_goto (tgt := 11) hx hb dX7_copy_32 (by decide) ?_
          exact ih (x2_99 + (1 : Int32)) (upd g_100 x2_99.toNatClampNeg (f x2_99.toNatClampNeg)) _ _ _ hP hD hS (lv_sub hl [1, 2, 0] rfl) hf
  exact L11_101 FUEL (0 : Int32) g _ _ _ hP hD hS (lv_sub hl [1, 2, 0] rfl) hf
theorem dk_X6_become : yX6_become.cls ≠ "java/lang/invoke/MethodHandle" ∧ yX6_become.cls ≠ "java/lang/invoke/VarHandle" ∧ (parseMethodDescriptor yX6_become.desc).map (fun d => d.parameters.length) = some 1 := by decide +kernel
theorem iu_X6_become_X6 : ∀ w ∈ u_ws RX6 TX6 12, w ∈ wsX6_become := by decide +kernel
set_option maxHeartbeats 4000000 in
set_option maxRecDepth 100000 in
theorem k_X6_become {l : Launch} {G : Gx} (a : Nat → Nat) (v : St) (b : Nat → Nat) (u : St) {v' : St} (hf : f_X6_become v u = some v') : FC l G yX6_become wsX6_become ({ frames := 1, cells := 0, slots := 0, locals := 22 } : Room) [.ref (a 0), .ref (b 0)] (vW G a v ++ vW G b u) (vW G a v' ++ vW G b u) none := by
  refine fc_head (cc := cX6_become) (maxL := 2) (ret := none) (C := RX6) (lv := [(0, .ref (a 0)), (1, .ref (b 0))]) (by decide) rfl rfl (Nat.le_of_ble_eq_true rfl) rfl ?_
  intro p e s m below meth c ls A hx hb hr hml hown hts hlocks hE hP hD hAB hS hl
  have hCF : CallFix p m c cX6_become 2 s ([.ref (a 0), .ref (b 0)] : List Value).toArray wsX6_become RX6 := ⟨hx, hb, hml, hown, hts⟩
  have hwX6 : ∀ w ∈ u_ws RX6 TX6 12, w.before ([.ref (a 0), .ref (b 0)] : List Value).toArray s = true := fun w h => hts w (iu_X6_become_X6 w h)
  have hk_fieldLink_RX6_33__BrideNotKnown_Valley___year___I_ := hts (.fieldLink RX6 33 "BrideNotKnown$Valley" "year" "I") (List.mem_of_getElem? (i := 1) rfl)
  have hk_fieldLink_RX6_37__BrideNotKnown_Valley___brideCount___I_ := hts (.fieldLink RX6 37 "BrideNotKnown$Valley" "brideCount" "I") (List.mem_of_getElem? (i := 2) rfl)
  have hk_fieldLink_RX6_9__BrideNotKnown_Valley___kinds____I_ := hts (.fieldLink RX6 9 "BrideNotKnown$Valley" "kinds" "[I") (List.mem_of_getElem? (i := 3) rfl)
  have hk_initialized_RX7 := hts (.initialized RX7) (List.mem_of_getElem? (i := 14) rfl)
  have hk_static_yX7_copy := hts (.static yX7_copy) (List.mem_of_getElem? (i := 13) rfl)
  have hk_fieldLink_RX6_15__BrideNotKnown_Valley___figures____I_ := hts (.fieldLink RX6 15 "BrideNotKnown$Valley" "figures" "[I") (List.mem_of_getElem? (i := 4) rfl)
  have hk_fieldLink_RX6_18__BrideNotKnown_Valley___feet____I_ := hts (.fieldLink RX6 18 "BrideNotKnown$Valley" "feet" "[I") (List.mem_of_getElem? (i := 5) rfl)
  have hk_fieldLink_RX6_21__BrideNotKnown_Valley___sentYears____I_ := hts (.fieldLink RX6 21 "BrideNotKnown$Valley" "sentYears" "[I") (List.mem_of_getElem? (i := 6) rfl)
  have hk_fieldLink_RX6_44__BrideNotKnown_Valley___marriedBrides___I_ := hts (.fieldLink RX6 44 "BrideNotKnown$Valley" "marriedBrides" "I") (List.mem_of_getElem? (i := 7) rfl)
  have hk_fieldLink_RX6_47__BrideNotKnown_Valley___groomCount___I_ := hts (.fieldLink RX6 47 "BrideNotKnown$Valley" "groomCount" "I") (List.mem_of_getElem? (i := 8) rfl)
  have hk_fieldLink_RX6_24__BrideNotKnown_Valley___lookBits____I_ := hts (.fieldLink RX6 24 "BrideNotKnown$Valley" "lookBits" "[I") (List.mem_of_getElem? (i := 9) rfl)
  have hk_fieldLink_RX6_27__BrideNotKnown_Valley___mindFeet____I_ := hts (.fieldLink RX6 27 "BrideNotKnown$Valley" "mindFeet" "[I") (List.mem_of_getElem? (i := 10) rfl)
  have hk_fieldLink_RX6_30__BrideNotKnown_Valley___liquors____I_ := hts (.fieldLink RX6 30 "BrideNotKnown$Valley" "liquors" "[I") (List.mem_of_getElem? (i := 11) rfl)
  have hk_fieldLink_RX6_50__BrideNotKnown_Valley___marriedGrooms___I_ := hts (.fieldLink RX6 50 "BrideNotKnown$Valley" "marriedGrooms" "I") (List.mem_of_getElem? (i := 12) rfl)
  rw [f_X6_become] at hf
  refine lv_aload_n hx hb dX6_become_0 rfl (lv_at hl 1 rfl) ?_
  refine lv_ifnonnull (tgt := 5) hx hb dX6_become_1 (by decide) ?_
  refine lv_aload_n hx hb dX6_become_5 rfl (lv_at hl 0 rfl) ?_
  refine lv_aload_n hx hb dX6_become_6 rfl (lv_at hl 1 rfl) ?_
  refine fc_get (v := .int (u 7 0)) (ci := 3) (C := RX6) (T := TX6) (N := 12) hx hb hwX6 hown hE hP 8 rfl rfl 0 (by decide) hk_fieldLink_RX6_33__BrideNotKnown_Valley___year___I_ (fun _ h => h) rfl dX6_become_7 ?_
  refine fc_put (Wa' := (vW G a (sA v 7 (upd (v 7) 0 (u 7 0))) ++ vW G b u)) (ci := 3) (C := RX6) (T := TX6) (N := 12) hx hb hwX6 tyX6 tyX6_ok nmX6 hown hE hP hD hS 0 rfl rfl 0 (by decide) hk_fieldLink_RX6_33__BrideNotKnown_Valley___year___I_ (fun _ h => h) rfl rfl rfl (Nat.le_of_ble_eq_true rfl) dX6_become_10 rfl (fun H locs hP hD hS => ?_)
  refine lv_aload_n hx hb dX6_become_13 rfl (lv_at hl 0 rfl) ?_
  refine lv_aload_n hx hb dX6_become_14 rfl (lv_at hl 1 rfl) ?_
  refine fc_get (v := .int (u 7 1)) (ci := 3) (C := RX6) (T := TX6) (N := 12) hx hb hwX6 hown hE hP 8 rfl rfl 1 (by decide) hk_fieldLink_RX6_37__BrideNotKnown_Valley___brideCount___I_ (fun _ h => h) rfl dX6_become_15 ?_
  refine fc_put (Wa' := (vW G a (sA v 7 (upd (upd (v 7) 0 (u 7 0)) 1 (u 7 1))) ++ vW G b u)) (ci := 3) (C := RX6) (T := TX6) (N := 12) hx hb hwX6 tyX6 tyX6_ok nmX6 hown hE hP hD hS 0 rfl rfl 1 (by decide) hk_fieldLink_RX6_37__BrideNotKnown_Valley___brideCount___I_ (fun _ h => h) rfl rfl rfl (Nat.le_of_ble_eq_true rfl) dX6_become_18 rfl (fun H locs hP hD hS => ?_)
  refine lv_aload_n hx hb dX6_become_21 rfl (lv_at hl 1 rfl) ?_
  refine fc_get (v := .ref (b 1)) (ci := 3) (C := RX6) (T := TX6) (N := 12) hx hb hwX6 hown hE hP 8 rfl rfl 2 (by decide) hk_fieldLink_RX6_9__BrideNotKnown_Valley___kinds____I_ (fun _ h => h) rfl dX6_become_22 ?_
  refine lv_aload_n hx hb dX6_become_25 rfl (lv_at hl 0 rfl) ?_
  refine fc_get (v := .ref (a 1)) (ci := 3) (C := RX6) (T := TX6) (N := 12) hx hb hwX6 hown hE hP 0 rfl rfl 2 (by decide) hk_fieldLink_RX6_9__BrideNotKnown_Valley___kinds____I_ (fun _ h => h) rfl dX6_become_26 ?_
  obtain ⟨q113, hq113, hf⟩ := bnd hf
  refine fc_callN (Wa' := (vW G a (sA (sA v 7 (upd (upd (v 7) 0 (u 7 0)) 1 (u 7 1))) 0 q113) ++ vW G b u)) (st1 := []) (As := [.ref (b 1), .ref (a 1)]) (rest := []) hCF (k_X7_copy (b 1) 8 (u 0) (a 1) 8 (v 0) hq113) ⟨va_cnB 2 hts gX6_become_X7_copy_n40 rfl rfl rfl (hE.2.1 _ (List.mem_of_getElem? (i := 5) rfl)) hk_initialized_RX7 dk_X7_copy ⟨Nat.le_of_ble_eq_true rfl, Nat.le_of_ble_eq_true rfl⟩, hk_static_yX7_copy, trivial⟩ hE hAB hP hD hS [9, 1] rfl rfl rfl rfl rfl rfl hl.1 rfl (Nat.le_of_ble_eq_true rfl) dX6_become_29 ⟨Nat.le_refl _, Nat.le_refl _⟩ (fun H locs hP hD hS => ?_)
  refine lv_aload_n hx hb dX6_become_32 rfl (lv_at hl 1 rfl) ?_
  refine fc_get (v := .ref (b 2)) (ci := 3) (C := RX6) (T := TX6) (N := 12) hx hb hwX6 hown hE hP 8 rfl rfl 3 (by decide) hk_fieldLink_RX6_15__BrideNotKnown_Valley___figures____I_ (fun _ h => h) rfl dX6_become_33 ?_
  refine lv_aload_n hx hb dX6_become_36 rfl (lv_at hl 0 rfl) ?_
  refine fc_get (v := .ref (a 2)) (ci := 3) (C := RX6) (T := TX6) (N := 12) hx hb hwX6 hown hE hP 0 rfl rfl 3 (by decide) hk_fieldLink_RX6_15__BrideNotKnown_Valley___figures____I_ (fun _ h => h) rfl dX6_become_37 ?_
  obtain ⟨q114, hq114, hf⟩ := bnd hf
  refine fc_callN (Wa' := (vW G a (sA (sA (sA v 7 (upd (upd (v 7) 0 (u 7 0)) 1 (u 7 1))) 0 q113) 1 q114) ++ vW G b u)) (st1 := []) (As := [.ref (b 2), .ref (a 2)]) (rest := []) hCF (k_X7_copy (b 2) 8 (u 1) (a 2) 8 (v 1) hq114) ⟨va_cnB 2 hts gX6_become_X7_copy_n40 rfl rfl rfl (hE.2.1 _ (List.mem_of_getElem? (i := 5) rfl)) hk_initialized_RX7 dk_X7_copy ⟨Nat.le_of_ble_eq_true rfl, Nat.le_of_ble_eq_true rfl⟩, hk_static_yX7_copy, trivial⟩ hE hAB hP hD hS [10, 2] rfl rfl rfl rfl rfl rfl hl.1 rfl (Nat.le_of_ble_eq_true rfl) dX6_become_40 ⟨Nat.le_refl _, Nat.le_refl _⟩ (fun H locs hP hD hS => ?_)
  refine lv_aload_n hx hb dX6_become_43 rfl (lv_at hl 1 rfl) ?_
  refine fc_get (v := .ref (b 3)) (ci := 3) (C := RX6) (T := TX6) (N := 12) hx hb hwX6 hown hE hP 8 rfl rfl 4 (by decide) hk_fieldLink_RX6_18__BrideNotKnown_Valley___feet____I_ (fun _ h => h) rfl dX6_become_44 ?_
  refine lv_aload_n hx hb dX6_become_47 rfl (lv_at hl 0 rfl) ?_
  refine fc_get (v := .ref (a 3)) (ci := 3) (C := RX6) (T := TX6) (N := 12) hx hb hwX6 hown hE hP 0 rfl rfl 4 (by decide) hk_fieldLink_RX6_18__BrideNotKnown_Valley___feet____I_ (fun _ h => h) rfl dX6_become_48 ?_
  obtain ⟨q115, hq115, hf⟩ := bnd hf
  refine fc_callN (Wa' := (vW G a (sA (sA (sA (sA v 7 (upd (upd (v 7) 0 (u 7 0)) 1 (u 7 1))) 0 q113) 1 q114) 2 q115) ++ vW G b u)) (st1 := []) (As := [.ref (b 3), .ref (a 3)]) (rest := []) hCF (k_X7_copy (b 3) 8 (u 2) (a 3) 8 (v 2) hq115) ⟨va_cnB 2 hts gX6_become_X7_copy_n40 rfl rfl rfl (hE.2.1 _ (List.mem_of_getElem? (i := 5) rfl)) hk_initialized_RX7 dk_X7_copy ⟨Nat.le_of_ble_eq_true rfl, Nat.le_of_ble_eq_true rfl⟩, hk_static_yX7_copy, trivial⟩ hE hAB hP hD hS [11, 3] rfl rfl rfl rfl rfl rfl hl.1 rfl (Nat.le_of_ble_eq_true rfl) dX6_become_51 ⟨Nat.le_refl _, Nat.le_refl _⟩ (fun H locs hP hD hS => ?_)
  refine lv_aload_n hx hb dX6_become_54 rfl (lv_at hl 1 rfl) ?_
  refine fc_get (v := .ref (b 4)) (ci := 3) (C := RX6) (T := TX6) (N := 12) hx hb hwX6 hown hE hP 8 rfl rfl 5 (by decide) hk_fieldLink_RX6_21__BrideNotKnown_Valley___sentYears____I_ (fun _ h => h) rfl dX6_become_55 ?_
  refine lv_aload_n hx hb dX6_become_58 rfl (lv_at hl 0 rfl) ?_
  refine fc_get (v := .ref (a 4)) (ci := 3) (C := RX6) (T := TX6) (N := 12) hx hb hwX6 hown hE hP 0 rfl rfl 5 (by decide) hk_fieldLink_RX6_21__BrideNotKnown_Valley___sentYears____I_ (fun _ h => h) rfl dX6_become_59 ?_
  obtain ⟨q116, hq116, hf⟩ := bnd hf
  refine fc_callN (Wa' := (vW G a (sA (sA (sA (sA (sA v 7 (upd (upd (v 7) 0 (u 7 0)) 1 (u 7 1))) 0 q113) 1 q114) 2 q115) 3 q116) ++ vW G b u)) (st1 := []) (As := [.ref (b 4), .ref (a 4)]) (rest := []) hCF (k_X7_copy (b 4) 8 (u 3) (a 4) 8 (v 3) hq116) ⟨va_cnB 2 hts gX6_become_X7_copy_n40 rfl rfl rfl (hE.2.1 _ (List.mem_of_getElem? (i := 5) rfl)) hk_initialized_RX7 dk_X7_copy ⟨Nat.le_of_ble_eq_true rfl, Nat.le_of_ble_eq_true rfl⟩, hk_static_yX7_copy, trivial⟩ hE hAB hP hD hS [12, 4] rfl rfl rfl rfl rfl rfl hl.1 rfl (Nat.le_of_ble_eq_true rfl) dX6_become_62 ⟨Nat.le_refl _, Nat.le_refl _⟩ (fun H locs hP hD hS => ?_)
  refine lv_aload_n hx hb dX6_become_65 rfl (lv_at hl 0 rfl) ?_
  refine lv_aload_n hx hb dX6_become_66 rfl (lv_at hl 1 rfl) ?_
  refine fc_get (v := .int (u 7 2)) (ci := 3) (C := RX6) (T := TX6) (N := 12) hx hb hwX6 hown hE hP 8 rfl rfl 6 (by decide) hk_fieldLink_RX6_44__BrideNotKnown_Valley___marriedBrides___I_ (fun _ h => h) rfl dX6_become_67 ?_
  refine fc_put (Wa' := (vW G a (sA (sA (sA (sA (sA v 7 (upd (upd (upd (v 7) 0 (u 7 0)) 1 (u 7 1)) 2 (u 7 2))) 0 q113) 1 q114) 2 q115) 3 q116) ++ vW G b u)) (ci := 3) (C := RX6) (T := TX6) (N := 12) hx hb hwX6 tyX6 tyX6_ok nmX6 hown hE hP hD hS 0 rfl rfl 6 (by decide) hk_fieldLink_RX6_44__BrideNotKnown_Valley___marriedBrides___I_ (fun _ h => h) rfl rfl rfl (Nat.le_of_ble_eq_true rfl) dX6_become_70 rfl (fun H locs hP hD hS => ?_)
  refine lv_aload_n hx hb dX6_become_73 rfl (lv_at hl 0 rfl) ?_
  refine lv_aload_n hx hb dX6_become_74 rfl (lv_at hl 1 rfl) ?_
  refine fc_get (v := .int (u 7 3)) (ci := 3) (C := RX6) (T := TX6) (N := 12) hx hb hwX6 hown hE hP 8 rfl rfl 7 (by decide) hk_fieldLink_RX6_47__BrideNotKnown_Valley___groomCount___I_ (fun _ h => h) rfl dX6_become_75 ?_
  refine fc_put (Wa' := (vW G a (sA (sA (sA (sA (sA v 7 (upd (upd (upd (upd (v 7) 0 (u 7 0)) 1 (u 7 1)) 2 (u 7 2)) 3 (u 7 3))) 0 q113) 1 q114) 2 q115) 3 q116) ++ vW G b u)) (ci := 3) (C := RX6) (T := TX6) (N := 12) hx hb hwX6 tyX6 tyX6_ok nmX6 hown hE hP hD hS 0 rfl rfl 7 (by decide) hk_fieldLink_RX6_47__BrideNotKnown_Valley___groomCount___I_ (fun _ h => h) rfl rfl rfl (Nat.le_of_ble_eq_true rfl) dX6_become_78 rfl (fun H locs hP hD hS => ?_)
  refine lv_aload_n hx hb dX6_become_81 rfl (lv_at hl 1 rfl) ?_
  refine fc_get (v := .ref (b 5)) (ci := 3) (C := RX6) (T := TX6) (N := 12) hx hb hwX6 hown hE hP 8 rfl rfl 8 (by decide) hk_fieldLink_RX6_24__BrideNotKnown_Valley___lookBits____I_ (fun _ h => h) rfl dX6_become_82 ?_
  refine lv_aload_n hx hb dX6_become_85 rfl (lv_at hl 0 rfl) ?_
  refine fc_get (v := .ref (a 5)) (ci := 3) (C := RX6) (T := TX6) (N := 12) hx hb hwX6 hown hE hP 0 rfl rfl 8 (by decide) hk_fieldLink_RX6_24__BrideNotKnown_Valley___lookBits____I_ (fun _ h => h) rfl dX6_become_86 ?_
  obtain ⟨q117, hq117, hf⟩ := bnd hf
  refine fc_callN (Wa' := (vW G a (sA (sA (sA (sA (sA (sA v 7 (upd (upd (upd (upd (v 7) 0 (u 7 0)) 1 (u 7 1)) 2 (u 7 2)) 3 (u 7 3))) 0 q113) 1 q114) 2 q115) 3 q116) 4 q117) ++ vW G b u)) (st1 := []) (As := [.ref (b 5), .ref (a 5)]) (rest := []) hCF (k_X7_copy (b 5) 5 (u 4) (a 5) 5 (v 4) hq117) ⟨va_cnB 2 hts gX6_become_X7_copy_n40 rfl rfl rfl (hE.2.1 _ (List.mem_of_getElem? (i := 5) rfl)) hk_initialized_RX7 dk_X7_copy ⟨Nat.le_of_ble_eq_true rfl, Nat.le_of_ble_eq_true rfl⟩, hk_static_yX7_copy, trivial⟩ hE hAB hP hD hS [13, 5] rfl rfl rfl rfl rfl rfl hl.1 rfl (Nat.le_of_ble_eq_true rfl) dX6_become_89 ⟨Nat.le_refl _, Nat.le_refl _⟩ (fun H locs hP hD hS => ?_)
  refine lv_aload_n hx hb dX6_become_92 rfl (lv_at hl 1 rfl) ?_
  refine fc_get (v := .ref (b 6)) (ci := 3) (C := RX6) (T := TX6) (N := 12) hx hb hwX6 hown hE hP 8 rfl rfl 9 (by decide) hk_fieldLink_RX6_27__BrideNotKnown_Valley___mindFeet____I_ (fun _ h => h) rfl dX6_become_93 ?_
  refine lv_aload_n hx hb dX6_become_96 rfl (lv_at hl 0 rfl) ?_
  refine fc_get (v := .ref (a 6)) (ci := 3) (C := RX6) (T := TX6) (N := 12) hx hb hwX6 hown hE hP 0 rfl rfl 9 (by decide) hk_fieldLink_RX6_27__BrideNotKnown_Valley___mindFeet____I_ (fun _ h => h) rfl dX6_become_97 ?_
  obtain ⟨q118, hq118, hf⟩ := bnd hf
  refine fc_callN (Wa' := (vW G a (sA (sA (sA (sA (sA (sA (sA v 7 (upd (upd (upd (upd (v 7) 0 (u 7 0)) 1 (u 7 1)) 2 (u 7 2)) 3 (u 7 3))) 0 q113) 1 q114) 2 q115) 3 q116) 4 q117) 5 q118) ++ vW G b u)) (st1 := []) (As := [.ref (b 6), .ref (a 6)]) (rest := []) hCF (k_X7_copy (b 6) 5 (u 5) (a 6) 5 (v 5) hq118) ⟨va_cnB 2 hts gX6_become_X7_copy_n40 rfl rfl rfl (hE.2.1 _ (List.mem_of_getElem? (i := 5) rfl)) hk_initialized_RX7 dk_X7_copy ⟨Nat.le_of_ble_eq_true rfl, Nat.le_of_ble_eq_true rfl⟩, hk_static_yX7_copy, trivial⟩ hE hAB hP hD hS [14, 6] rfl rfl rfl rfl rfl rfl hl.1 rfl (Nat.le_of_ble_eq_true rfl) dX6_become_100 ⟨Nat.le_refl _, Nat.le_refl _⟩ (fun H locs hP hD hS => ?_)
  refine lv_aload_n hx hb dX6_become_103 rfl (lv_at hl 1 rfl) ?_
  refine fc_get (v := .ref (b 7)) (ci := 3) (C := RX6) (T := TX6) (N := 12) hx hb hwX6 hown hE hP 8 rfl rfl 10 (by decide) hk_fieldLink_RX6_30__BrideNotKnown_Valley___liquors____I_ (fun _ h => h) rfl dX6_become_104 ?_
  refine lv_aload_n hx hb dX6_become_107 rfl (lv_at hl 0 rfl) ?_
  refine fc_get (v := .ref (a 7)) (ci := 3) (C := RX6) (T := TX6) (N := 12) hx hb hwX6 hown hE hP 0 rfl rfl 10 (by decide) hk_fieldLink_RX6_30__BrideNotKnown_Valley___liquors____I_ (fun _ h => h) rfl dX6_become_108 ?_
  obtain ⟨q119, hq119, hf⟩ := bnd hf
  refine fc_callN (Wa' := (vW G a (sA (sA (sA (sA (sA (sA (sA (sA v 7 (upd (upd (upd (upd (v 7) 0 (u 7 0)) 1 (u 7 1)) 2 (u 7 2)) 3 (u 7 3))) 0 q113) 1 q114) 2 q115) 3 q116) 4 q117) 5 q118) 6 q119) ++ vW G b u)) (st1 := []) (As := [.ref (b 7), .ref (a 7)]) (rest := []) hCF (k_X7_copy (b 7) 5 (u 6) (a 7) 5 (v 6) hq119) ⟨va_cnB 2 hts gX6_become_X7_copy_n40 rfl rfl rfl (hE.2.1 _ (List.mem_of_getElem? (i := 5) rfl)) hk_initialized_RX7 dk_X7_copy ⟨Nat.le_of_ble_eq_true rfl, Nat.le_of_ble_eq_true rfl⟩, hk_static_yX7_copy, trivial⟩ hE hAB hP hD hS [15, 7] rfl rfl rfl rfl rfl rfl hl.1 rfl (Nat.le_of_ble_eq_true rfl) dX6_become_111 ⟨Nat.le_refl _, Nat.le_refl _⟩ (fun H locs hP hD hS => ?_)
  refine lv_aload_n hx hb dX6_become_114 rfl (lv_at hl 0 rfl) ?_
  refine lv_aload_n hx hb dX6_become_115 rfl (lv_at hl 1 rfl) ?_
  refine fc_get (v := .int (u 7 4)) (ci := 3) (C := RX6) (T := TX6) (N := 12) hx hb hwX6 hown hE hP 8 rfl rfl 11 (by decide) hk_fieldLink_RX6_50__BrideNotKnown_Valley___marriedGrooms___I_ (fun _ h => h) rfl dX6_become_116 ?_
  refine fc_put (Wa' := (vW G a (sA (sA (sA (sA (sA (sA (sA (sA v 7 (upd (upd (upd (upd (upd (v 7) 0 (u 7 0)) 1 (u 7 1)) 2 (u 7 2)) 3 (u 7 3)) 4 (u 7 4))) 0 q113) 1 q114) 2 q115) 3 q116) 4 q117) 5 q118) 6 q119) ++ vW G b u)) (ci := 3) (C := RX6) (T := TX6) (N := 12) hx hb hwX6 tyX6 tyX6_ok nmX6 hown hE hP hD hS 0 rfl rfl 11 (by decide) hk_fieldLink_RX6_50__BrideNotKnown_Valley___marriedGrooms___I_ (fun _ h => h) rfl rfl rfl (Nat.le_of_ble_eq_true rfl) dX6_become_119 rfl (fun H locs hP hD hS => ?_)
  exact fc_retv hx hb hr hlocks hP hS dX6_become_122 (congrArg (fun z => (vW G a z ++ vW G b u)) (i1 hf))
theorem dk_X7_put : yX7_put.cls ≠ "java/lang/invoke/MethodHandle" ∧ yX7_put.cls ≠ "java/lang/invoke/VarHandle" ∧ (parseMethodDescriptor yX7_put.desc).map (fun d => d.parameters.length) = some 3 := by decide +kernel
set_option maxHeartbeats 4000000 in
set_option maxRecDepth 100000 in
theorem k_X7_put {l : Launch} {G : Gx} (q : Nat) (N0 : Nat) (f : Nat → Int32) (x1 : Int32) (x2 : Int32) {f' : (Nat → Int32)} (hf : f_X7_put N0 f x1 x2 = some f') : FC l G yX7_put wsX7_put ({ frames := 0, cells := 0, slots := 0, locals := 0 } : Room) [.ref q, .int x1, .int x2] (aW G q N0 f) (aW G q N0 (f')) none := by
  refine fc_head (cc := cX7_put) (maxL := 3) (ret := none) (C := RX7) (lv := [(0, .ref q), (1, .int x1), (2, .int x2)]) (by decide) rfl rfl (Nat.le_of_ble_eq_true rfl) rfl ?_
  intro p e s m below meth c ls A hx hb hr hml hown hts hlocks hE hP hD hAB hS hl
  have hCF : CallFix p m c cX7_put 3 s ([.ref q, .int x1, .int x2] : List Value).toArray wsX7_put RX7 := ⟨hx, hb, hml, hown, hts⟩
  rw [f_X7_put] at hf
  refine lv_aload_n hx hb dX7_put_0 rfl (lv_at hl 0 rfl) ?_
  refine lv_ifnull hx hb dX7_put_1 ?_
  refine lv_iload_n hx hb dX7_put_4 rfl (lv_at hl 1 rfl) ?_
  refine lv_if_lt (tgt := 18) hx hb dX7_put_5 (by decide) (fun c120 => ?_) (fun c120 => ?_)
  · have hf := ifT hf c120
    exact fc_retv hx hb hr hlocks hP hS dX7_put_18 (congrArg (fun z => (aW G q N0 z)) (i1 hf))
  · have hf := ifF hf c120
    refine lv_iload_n hx hb dX7_put_8 rfl (lv_at hl 1 rfl) ?_
    refine lv_aload_n hx hb dX7_put_9 rfl (lv_at hl 0 rfl) ?_
    refine fc_alen (n := N0) (f := f) hx hb hE hP 0 rfl dX7_put_10 ?_
    refine lv_icmp_ge (tgt := 18) hx hb dX7_put_11 (by decide) (fun c121 => ?_) (fun c121 => ?_)
    · have hf := ifT hf c121
      exact fc_retv hx hb hr hlocks hP hS dX7_put_18 (congrArg (fun z => (aW G q N0 z)) (i1 hf))
    · have hf := ifF hf c121
      refine lv_aload_n hx hb dX7_put_14 rfl (lv_at hl 0 rfl) ?_
      refine lv_iload_n hx hb dX7_put_15 rfl (lv_at hl 1 rfl) ?_
      refine lv_iload_n hx hb dX7_put_16 rfl (lv_at hl 2 rfl) ?_
      obtain ⟨c122, hf⟩ := gd_some hf
      refine fc_iast (n := N0) (f := f) (Wa' := (aW G q N0 (upd f x1.toNatClampNeg x2))) hx hb hE hP hD hS 0 rfl (inB_in c122) dX7_put_17 rfl (fun H locs hP hD hS => ?_)
      exact fc_retv hx hb hr hlocks hP hS dX7_put_18 (congrArg (fun z => (aW G q N0 z)) (i1 hf))
theorem dk_X6_sendHome : yX6_sendHome.cls ≠ "java/lang/invoke/MethodHandle" ∧ yX6_sendHome.cls ≠ "java/lang/invoke/VarHandle" ∧ (parseMethodDescriptor yX6_sendHome.desc).map (fun d => d.parameters.length) = some 2 := by decide +kernel
theorem iu_X6_sendHome_X6 : ∀ w ∈ u_ws RX6 TX6 12, w ∈ wsX6_sendHome := by decide +kernel
set_option maxHeartbeats 4000000 in
set_option maxRecDepth 100000 in
theorem k_X6_sendHome {l : Launch} {G : Gx} (a : Nat → Nat) (v : St) (x1 : Int32) (x2 : Int32) {v' : St} (hf : f_X6_sendHome v x1 x2 = some v') : FC l G yX6_sendHome wsX6_sendHome ({ frames := 1, cells := 0, slots := 0, locals := 22 } : Room) [.ref (a 0), .int x1, .int x2] (vW G a v) (vW G a v') none := by
  refine fc_head (cc := cX6_sendHome) (maxL := 3) (ret := none) (C := RX6) (lv := [(0, .ref (a 0)), (1, .int x1), (2, .int x2)]) (by decide) rfl rfl (Nat.le_of_ble_eq_true rfl) rfl ?_
  intro p e s m below meth c ls A hx hb hr hml hown hts hlocks hE hP hD hAB hS hl
  have hCF : CallFix p m c cX6_sendHome 3 s ([.ref (a 0), .int x1, .int x2] : List Value).toArray wsX6_sendHome RX6 := ⟨hx, hb, hml, hown, hts⟩
  have hwX6 : ∀ w ∈ u_ws RX6 TX6 12, w.before ([.ref (a 0), .int x1, .int x2] : List Value).toArray s = true := fun w h => hts w (iu_X6_sendHome_X6 w h)
  have hk_fieldLink_RX6_21__BrideNotKnown_Valley___sentYears____I_ := hts (.fieldLink RX6 21 "BrideNotKnown$Valley" "sentYears" "[I") (List.mem_of_getElem? (i := 1) rfl)
  have hk_initialized_RX7 := hts (.initialized RX7) (List.mem_of_getElem? (i := 3) rfl)
  have hk_static_yX7_put := hts (.static yX7_put) (List.mem_of_getElem? (i := 2) rfl)
  rw [f_X6_sendHome] at hf
  refine lv_aload_n hx hb dX6_sendHome_0 rfl (lv_at hl 0 rfl) ?_
  refine fc_get (v := .ref (a 4)) (ci := 3) (C := RX6) (T := TX6) (N := 12) hx hb hwX6 hown hE hP 0 rfl rfl 5 (by decide) hk_fieldLink_RX6_21__BrideNotKnown_Valley___sentYears____I_ (fun _ h => h) rfl dX6_sendHome_1 ?_
  refine lv_iload_n hx hb dX6_sendHome_4 rfl (lv_at hl 1 rfl) ?_
  refine lv_iload_n hx hb dX6_sendHome_5 rfl (lv_at hl 2 rfl) ?_
  obtain ⟨q124, hq124, hf⟩ := bnd hf
  refine fc_callN (Wa' := (vW G a (sA v 3 q124))) (st1 := []) (As := [.ref (a 4), .int x1, .int x2]) (rest := []) hCF (k_X7_put (a 4) 8 (v 3) x1 x2 hq124) ⟨va_cnB 3 hts gX6_sendHome_X7_put_n65 rfl rfl rfl (hE.2.1 _ (List.mem_of_getElem? (i := 7) rfl)) hk_initialized_RX7 dk_X7_put ⟨Nat.le_of_ble_eq_true rfl, Nat.le_of_ble_eq_true rfl⟩, hk_static_yX7_put, trivial⟩ hE hAB hP hD hS [4] rfl rfl rfl rfl rfl rfl hl.1 rfl (Nat.le_of_ble_eq_true rfl) dX6_sendHome_6 ⟨Nat.le_refl _, Nat.le_refl _⟩ (fun H locs hP hD hS => ?_)
  exact fc_retv hx hb hr hlocks hP hS dX6_sendHome_9 (congrArg (fun z => (vW G a z)) (i1 hf))
theorem dk_X6_footOf : yX6_footOf.cls ≠ "java/lang/invoke/MethodHandle" ∧ yX6_footOf.cls ≠ "java/lang/invoke/VarHandle" ∧ (parseMethodDescriptor yX6_footOf.desc).map (fun d => d.parameters.length) = some 1 := by decide +kernel
theorem iu_X6_footOf_X6 : ∀ w ∈ u_ws RX6 TX6 12, w ∈ wsX6_footOf := by decide +kernel
set_option maxHeartbeats 4000000 in
set_option maxRecDepth 100000 in
theorem k_X6_footOf {l : Launch} {G : Gx} (a : Nat → Nat) (v : St) (x1 : Int32) {r : Int32} (hf : f_X6_footOf v x1 = some r) : FC l G yX6_footOf wsX6_footOf ({ frames := 1, cells := 0, slots := 0, locals := 21 } : Room) [.ref (a 0), .int x1] (vW G a v) (vW G a v) (some (.int r)) := by
  refine fc_head (cc := cX6_footOf) (maxL := 2) (ret := (some .int)) (C := RX6) (lv := [(0, .ref (a 0)), (1, .int x1)]) (by decide) rfl rfl (Nat.le_of_ble_eq_true rfl) rfl ?_
  intro p e s m below meth c ls A hx hb hr hml hown hts hlocks hE hP hD hAB hS hl
  have hCF : CallFix p m c cX6_footOf 2 s ([.ref (a 0), .int x1] : List Value).toArray wsX6_footOf RX6 := ⟨hx, hb, hml, hown, hts⟩
  have hwX6 : ∀ w ∈ u_ws RX6 TX6 12, w.before ([.ref (a 0), .int x1] : List Value).toArray s = true := fun w h => hts w (iu_X6_footOf_X6 w h)
  have hk_fieldLink_RX6_18__BrideNotKnown_Valley___feet____I_ := hts (.fieldLink RX6 18 "BrideNotKnown$Valley" "feet" "[I") (List.mem_of_getElem? (i := 1) rfl)
  have hk_initialized_RX7 := hts (.initialized RX7) (List.mem_of_getElem? (i := 3) rfl)
  have hk_static_yX7_at := hts (.static yX7_at) (List.mem_of_getElem? (i := 2) rfl)
  rw [f_X6_footOf] at hf
  refine lv_aload_n hx hb dX6_footOf_0 rfl (lv_at hl 0 rfl) ?_
  refine fc_get (v := .ref (a 3)) (ci := 3) (C := RX6) (T := TX6) (N := 12) hx hb hwX6 hown hE hP 0 rfl rfl 4 (by decide) hk_fieldLink_RX6_18__BrideNotKnown_Valley___feet____I_ (fun _ h => h) rfl dX6_footOf_1 ?_
  refine lv_iload_n hx hb dX6_footOf_4 rfl (lv_at hl 1 rfl) ?_
  obtain ⟨q148, hq148, hf⟩ := bnd hf
  refine fc_callN (Wa' := (vW G a v)) (st1 := [.int q148]) (As := [.ref (a 3), .int x1]) (rest := []) hCF (k_X7_at (a 3) 8 (v 2) x1 hq148) ⟨va_cnB 2 hts gX6_footOf_X7_at_n53 rfl rfl rfl (hE.2.1 _ (List.mem_of_getElem? (i := 8) rfl)) hk_initialized_RX7 dk_X7_at ⟨Nat.le_of_ble_eq_true rfl, Nat.le_of_ble_eq_true rfl⟩, hk_static_yX7_at, trivial⟩ hE hAB hP hD hS [3] rfl rfl rfl rfl rfl rfl hl.1 rfl (Nat.le_of_ble_eq_true rfl) dX6_footOf_5 ⟨Nat.le_refl _, Nat.le_refl _⟩ (fun H locs hP hD hS => ?_)
  exact fc_reti hx hb hr hlocks hP hS dX6_footOf_8 (i1 hf) rfl
theorem dk_X6_changeToes : yX6_changeToes.cls ≠ "java/lang/invoke/MethodHandle" ∧ yX6_changeToes.cls ≠ "java/lang/invoke/VarHandle" ∧ (parseMethodDescriptor yX6_changeToes.desc).map (fun d => d.parameters.length) = some 2 := by decide +kernel
theorem iu_X6_changeToes_X6 : ∀ w ∈ u_ws RX6 TX6 12, w ∈ wsX6_changeToes := by decide +kernel
set_option maxHeartbeats 4000000 in
set_option maxRecDepth 100000 in
theorem k_X6_changeToes {l : Launch} {G : Gx} (a : Nat → Nat) (v : St) (x1 : Int32) (x2 : Int32) {v' : St} (hf : f_X6_changeToes v x1 x2 = some v') : FC l G yX6_changeToes wsX6_changeToes ({ frames := 2, cells := 0, slots := 0, locals := 42 } : Room) [.ref (a 0), .int x1, .int x2] (vW G a v) (vW G a v') none := by
  refine fc_head (cc := cX6_changeToes) (maxL := 3) (ret := none) (C := RX6) (lv := [(0, .ref (a 0)), (1, .int x1), (2, .int x2)]) (by decide) rfl rfl (Nat.le_of_ble_eq_true rfl) rfl ?_
  intro p e s m below meth c ls A hx hb hr hml hown hts hlocks hE hP hD hAB hS hl
  have hCF : CallFix p m c cX6_changeToes 3 s ([.ref (a 0), .int x1, .int x2] : List Value).toArray wsX6_changeToes RX6 := ⟨hx, hb, hml, hown, hts⟩
  have hwX6 : ∀ w ∈ u_ws RX6 TX6 12, w.before ([.ref (a 0), .int x1, .int x2] : List Value).toArray s = true := fun w h => hts w (iu_X6_changeToes_X6 w h)
  have hk_fieldLink_RX6_18__BrideNotKnown_Valley___feet____I_ := hts (.fieldLink RX6 18 "BrideNotKnown$Valley" "feet" "[I") (List.mem_of_getElem? (i := 1) rfl)
  have hk_initialized_RX7 := hts (.initialized RX7) (List.mem_of_getElem? (i := 8) rfl)
  have hk_static_yX7_put := hts (.static yX7_put) (List.mem_of_getElem? (i := 10) rfl)
  rw [f_X6_changeToes] at hf
  refine lv_aload_n hx hb dX6_changeToes_0 rfl (lv_at hl 0 rfl) ?_
  refine fc_get (v := .ref (a 3)) (ci := 3) (C := RX6) (T := TX6) (N := 12) hx hb hwX6 hown hE hP 0 rfl rfl 4 (by decide) hk_fieldLink_RX6_18__BrideNotKnown_Valley___feet____I_ (fun _ h => h) rfl dX6_changeToes_1 ?_
  refine lv_iload_n hx hb dX6_changeToes_4 rfl (lv_at hl 1 rfl) ?_
  refine lv_aload_n hx hb dX6_changeToes_5 rfl (lv_at hl 0 rfl) ?_
  refine lv_iload_n hx hb dX6_changeToes_6 rfl (lv_at hl 1 rfl) ?_
  obtain ⟨q151, hq151, hf⟩ := bnd hf
  refine fc_callV (Wa' := (vW G a v)) (st1 := [.int q151, .int x1, .ref (a 3)]) (As := [.int x1]) (rest := [.int x1, .ref (a 3)]) hCF (k_X6_footOf a v x1 hq151) (cwV 1 hts gX6_changeToes_X6_footOf rfl rfl rfl ⟨rfl, dk_X6_footOf⟩ ⟨Nat.le_of_ble_eq_true rfl, Nat.le_of_ble_eq_true rfl⟩) hE hAB hP hD hS [0, 1, 2, 3, 4, 5, 6, 7] rfl rfl (va_recv hE.1 hP (ci := 3) (q0 := 0) rfl rfl) rfl rfl rfl rfl hl.1 rfl (Nat.le_of_ble_eq_true rfl) dX6_changeToes_7 ⟨Nat.le_refl _, Nat.le_refl _⟩ (fun H locs hP hD hS => ?_)
  refine lv_iload_n hx hb dX6_changeToes_10 rfl (lv_at hl 2 rfl) ?_
  refine lv_ixor hx hb dX6_changeToes_11 ?_
  obtain ⟨q152, hq152, hf⟩ := bnd hf
  refine fc_callN (Wa' := (vW G a (sA v 2 q152))) (st1 := []) (As := [.ref (a 3), .int x1, .int (q151 ^^^ x2)]) (rest := []) hCF (k_X7_put (a 3) 8 (v 2) x1 (q151 ^^^ x2) hq152) ⟨va_cnB 3 hts gX6_changeToes_X7_put_n65 rfl rfl rfl (hE.2.1 _ (List.mem_of_getElem? (i := 7) rfl)) hk_initialized_RX7 dk_X7_put ⟨Nat.le_of_ble_eq_true rfl, Nat.le_of_ble_eq_true rfl⟩, hk_static_yX7_put, trivial⟩ hE hAB hP hD hS [3] rfl rfl rfl rfl rfl rfl hl.1 rfl (Nat.le_of_ble_eq_true rfl) dX6_changeToes_12 ⟨Nat.le_refl _, Nat.le_refl _⟩ (fun H locs hP hD hS => ?_)
  exact fc_retv hx hb hr hlocks hP hS dX6_changeToes_15 (congrArg (fun z => (vW G a z)) (i1 hf))
theorem dk_X6_guesses : yX6_guesses.cls ≠ "java/lang/invoke/MethodHandle" ∧ yX6_guesses.cls ≠ "java/lang/invoke/VarHandle" ∧ (parseMethodDescriptor yX6_guesses.desc).map (fun d => d.parameters.length) = some 2 := by decide +kernel
theorem iu_X6_guesses_X6 : ∀ w ∈ u_ws RX6 TX6 12, w ∈ wsX6_guesses := by decide +kernel
set_option maxHeartbeats 4000000 in
set_option maxRecDepth 100000 in
theorem k_X6_guesses {l : Launch} {G : Gx} (a : Nat → Nat) (v : St) (x1 : Int32) (x2 : Int32) {r : Int32} (hf : f_X6_guesses v x1 x2 = some r) : FC l G yX6_guesses wsX6_guesses ({ frames := 3, cells := 0, slots := 0, locals := 77 } : Room) [.ref (a 0), .int x1, .int x2] (vW G a v) (vW G a v) (some (.int r)) := by
  refine fc_head (cc := cX6_guesses) (maxL := 3) (ret := (some .int)) (C := RX6) (lv := [(0, .ref (a 0)), (1, .int x1), (2, .int x2)]) (by decide) rfl rfl (Nat.le_of_ble_eq_true rfl) rfl ?_
  intro p e s m below meth c ls A hx hb hr hml hown hts hlocks hE hP hD hAB hS hl
  have hCF : CallFix p m c cX6_guesses 3 s ([.ref (a 0), .int x1, .int x2] : List Value).toArray wsX6_guesses RX6 := ⟨hx, hb, hml, hown, hts⟩
  have hwX6 : ∀ w ∈ u_ws RX6 TX6 12, w.before ([.ref (a 0), .int x1, .int x2] : List Value).toArray s = true := fun w h => hts w (iu_X6_guesses_X6 w h)
  have hk_fieldLink_RX6_24__BrideNotKnown_Valley___lookBits____I_ := hts (.fieldLink RX6 24 "BrideNotKnown$Valley" "lookBits" "[I") (List.mem_of_getElem? (i := 1) rfl)
  have hk_initialized_RX7 := hts (.initialized RX7) (List.mem_of_getElem? (i := 3) rfl)
  have hk_static_yX7_at := hts (.static yX7_at) (List.mem_of_getElem? (i := 2) rfl)
  rw [f_X6_guesses] at hf
  refine lv_aload_n hx hb dX6_guesses_0 rfl (lv_at hl 0 rfl) ?_
  refine lv_iload_n hx hb dX6_guesses_1 rfl (lv_at hl 1 rfl) ?_
  refine lv_aload_n hx hb dX6_guesses_2 rfl (lv_at hl 0 rfl) ?_
  refine fc_get (v := .ref (a 5)) (ci := 3) (C := RX6) (T := TX6) (N := 12) hx hb hwX6 hown hE hP 0 rfl rfl 8 (by decide) hk_fieldLink_RX6_24__BrideNotKnown_Valley___lookBits____I_ (fun _ h => h) rfl dX6_guesses_3 ?_
  refine lv_iload_n hx hb dX6_guesses_6 rfl (lv_at hl 1 rfl) ?_
  obtain ⟨q161, hq161, hf⟩ := bnd hf
  refine fc_callN (Wa' := (vW G a v)) (st1 := [.int q161, .int x1, .ref (a 0)]) (As := [.ref (a 5), .int x1]) (rest := [.int x1, .ref (a 0)]) hCF (k_X7_at (a 5) 5 (v 4) x1 hq161) ⟨va_cnB 2 hts gX6_guesses_X7_at_n53 rfl rfl rfl (hE.2.1 _ (List.mem_of_getElem? (i := 8) rfl)) hk_initialized_RX7 dk_X7_at ⟨Nat.le_of_ble_eq_true rfl, Nat.le_of_ble_eq_true rfl⟩, hk_static_yX7_at, trivial⟩ hE hAB hP hD hS [5] rfl rfl rfl rfl rfl rfl hl.1 rfl (Nat.le_of_ble_eq_true rfl) dX6_guesses_7 ⟨Nat.le_refl _, Nat.le_refl _⟩ (fun H locs hP hD hS => ?_)
  refine lv_iload_n hx hb dX6_guesses_10 rfl (lv_at hl 2 rfl) ?_
  obtain ⟨q162, hq162, hf⟩ := bnd hf
  refine fc_callV (Wa' := (vW G a v)) (st1 := [.int q162]) (As := [.int x1, .int q161, .int x2]) (rest := []) hCF (k_X6_guessesBy a v x1 q161 x2 hq162) (cwV 3 hts gX6_guesses_X6_guessesBy rfl rfl rfl ⟨rfl, dk_X6_guessesBy⟩ ⟨Nat.le_of_ble_eq_true rfl, Nat.le_of_ble_eq_true rfl⟩) hE hAB hP hD hS [0, 1, 2, 3, 4, 5, 6, 7] rfl rfl (va_recv hE.1 hP (ci := 3) (q0 := 0) rfl rfl) rfl rfl rfl rfl hl.1 rfl (Nat.le_of_ble_eq_true rfl) dX6_guesses_11 ⟨Nat.le_refl _, Nat.le_refl _⟩ (fun H locs hP hD hS => ?_)
  exact fc_reti hx hb hr hlocks hP hS dX6_guesses_14 (i1 hf) rfl
theorem dk_X6_lookOf : yX6_lookOf.cls ≠ "java/lang/invoke/MethodHandle" ∧ yX6_lookOf.cls ≠ "java/lang/invoke/VarHandle" ∧ (parseMethodDescriptor yX6_lookOf.desc).map (fun d => d.parameters.length) = some 1 := by decide +kernel
theorem iu_X6_lookOf_X6 : ∀ w ∈ u_ws RX6 TX6 12, w ∈ wsX6_lookOf := by decide +kernel
set_option maxHeartbeats 4000000 in
set_option maxRecDepth 100000 in
theorem k_X6_lookOf {l : Launch} {G : Gx} (a : Nat → Nat) (v : St) (x1 : Int32) {r : Int32} (hf : f_X6_lookOf v x1 = some r) : FC l G yX6_lookOf wsX6_lookOf ({ frames := 1, cells := 0, slots := 0, locals := 21 } : Room) [.ref (a 0), .int x1] (vW G a v) (vW G a v) (some (.int r)) := by
  refine fc_head (cc := cX6_lookOf) (maxL := 2) (ret := (some .int)) (C := RX6) (lv := [(0, .ref (a 0)), (1, .int x1)]) (by decide) rfl rfl (Nat.le_of_ble_eq_true rfl) rfl ?_
  intro p e s m below meth c ls A hx hb hr hml hown hts hlocks hE hP hD hAB hS hl
  have hCF : CallFix p m c cX6_lookOf 2 s ([.ref (a 0), .int x1] : List Value).toArray wsX6_lookOf RX6 := ⟨hx, hb, hml, hown, hts⟩
  have hwX6 : ∀ w ∈ u_ws RX6 TX6 12, w.before ([.ref (a 0), .int x1] : List Value).toArray s = true := fun w h => hts w (iu_X6_lookOf_X6 w h)
  have hk_fieldLink_RX6_24__BrideNotKnown_Valley___lookBits____I_ := hts (.fieldLink RX6 24 "BrideNotKnown$Valley" "lookBits" "[I") (List.mem_of_getElem? (i := 1) rfl)
  have hk_initialized_RX7 := hts (.initialized RX7) (List.mem_of_getElem? (i := 3) rfl)
  have hk_static_yX7_at := hts (.static yX7_at) (List.mem_of_getElem? (i := 2) rfl)
  rw [f_X6_lookOf] at hf
  refine lv_aload_n hx hb dX6_lookOf_0 rfl (lv_at hl 0 rfl) ?_
  refine fc_get (v := .ref (a 5)) (ci := 3) (C := RX6) (T := TX6) (N := 12) hx hb hwX6 hown hE hP 0 rfl rfl 8 (by decide) hk_fieldLink_RX6_24__BrideNotKnown_Valley___lookBits____I_ (fun _ h => h) rfl dX6_lookOf_1 ?_
  refine lv_iload_n hx hb dX6_lookOf_4 rfl (lv_at hl 1 rfl) ?_
  obtain ⟨q191, hq191, hf⟩ := bnd hf
  refine fc_callN (Wa' := (vW G a v)) (st1 := [.int q191]) (As := [.ref (a 5), .int x1]) (rest := []) hCF (k_X7_at (a 5) 5 (v 4) x1 hq191) ⟨va_cnB 2 hts gX6_lookOf_X7_at_n53 rfl rfl rfl (hE.2.1 _ (List.mem_of_getElem? (i := 8) rfl)) hk_initialized_RX7 dk_X7_at ⟨Nat.le_of_ble_eq_true rfl, Nat.le_of_ble_eq_true rfl⟩, hk_static_yX7_at, trivial⟩ hE hAB hP hD hS [5] rfl rfl rfl rfl rfl rfl hl.1 rfl (Nat.le_of_ble_eq_true rfl) dX6_lookOf_5 ⟨Nat.le_refl _, Nat.le_refl _⟩ (fun H locs hP hD hS => ?_)
  exact fc_reti hx hb hr hlocks hP hS dX6_lookOf_8 (i1 hf) rfl
theorem dk_X6_shows : yX6_shows.cls ≠ "java/lang/invoke/MethodHandle" ∧ yX6_shows.cls ≠ "java/lang/invoke/VarHandle" ∧ (parseMethodDescriptor yX6_shows.desc).map (fun d => d.parameters.length) = some 2 := by decide +kernel
theorem iu_X6_shows_X6 : ∀ w ∈ u_ws RX6 TX6 12, w ∈ wsX6_shows := by decide +kernel
set_option maxHeartbeats 4000000 in
set_option maxRecDepth 100000 in
theorem k_X6_shows {l : Launch} {G : Gx} (a : Nat → Nat) (v : St) (x1 : Int32) (x2 : Int32) {r : Int32} (hf : f_X6_shows v x1 x2 = some r) : FC l G yX6_shows wsX6_shows ({ frames := 2, cells := 0, slots := 0, locals := 49 } : Room) [.ref (a 0), .int x1, .int x2] (vW G a v) (vW G a v) (some (.int r)) := by
  refine fc_head (cc := cX6_shows) (maxL := 3) (ret := (some .int)) (C := RX6) (lv := [(0, .ref (a 0)), (1, .int x1), (2, .int x2)]) (by decide) rfl rfl (Nat.le_of_ble_eq_true rfl) rfl ?_
  intro p e s m below meth c ls A hx hb hr hml hown hts hlocks hE hP hD hAB hS hl
  have hCF : CallFix p m c cX6_shows 3 s ([.ref (a 0), .int x1, .int x2] : List Value).toArray wsX6_shows RX6 := ⟨hx, hb, hml, hown, hts⟩
  have hwX6 : ∀ w ∈ u_ws RX6 TX6 12, w.before ([.ref (a 0), .int x1, .int x2] : List Value).toArray s = true := fun w h => hts w (iu_X6_shows_X6 w h)
  have hk_fieldLink_RX6_9__BrideNotKnown_Valley___kinds____I_ := hts (.fieldLink RX6 9 "BrideNotKnown$Valley" "kinds" "[I") (List.mem_of_getElem? (i := 1) rfl)
  have hk_initialized_RX7 := hts (.initialized RX7) (List.mem_of_getElem? (i := 4) rfl)
  have hk_static_yX7_at := hts (.static yX7_at) (List.mem_of_getElem? (i := 3) rfl)
  have hk_fieldLink_RX6_15__BrideNotKnown_Valley___figures____I_ := hts (.fieldLink RX6 15 "BrideNotKnown$Valley" "figures" "[I") (List.mem_of_getElem? (i := 2) rfl)
  rw [f_X6_shows] at hf
  refine lv_aload_n hx hb dX6_shows_0 rfl (lv_at hl 0 rfl) ?_
  refine lv_iload_n hx hb dX6_shows_1 rfl (lv_at hl 1 rfl) ?_
  refine lv_aload_n hx hb dX6_shows_2 rfl (lv_at hl 0 rfl) ?_
  refine fc_get (v := .ref (a 1)) (ci := 3) (C := RX6) (T := TX6) (N := 12) hx hb hwX6 hown hE hP 0 rfl rfl 2 (by decide) hk_fieldLink_RX6_9__BrideNotKnown_Valley___kinds____I_ (fun _ h => h) rfl dX6_shows_3 ?_
  refine lv_iload_n hx hb dX6_shows_6 rfl (lv_at hl 1 rfl) ?_
  obtain ⟨q268, hq268, hf⟩ := bnd hf
  refine fc_callN (Wa' := (vW G a v)) (st1 := [.int q268, .int x1, .ref (a 0)]) (As := [.ref (a 1), .int x1]) (rest := [.int x1, .ref (a 0)]) hCF (k_X7_at (a 1) 8 (v 0) x1 hq268) ⟨va_cnB 2 hts gX6_shows_X7_at_n53 rfl rfl rfl (hE.2.1 _ (List.mem_of_getElem? (i := 8) rfl)) hk_initialized_RX7 dk_X7_at ⟨Nat.le_of_ble_eq_true rfl, Nat.le_of_ble_eq_true rfl⟩, hk_static_yX7_at, trivial⟩ hE hAB hP hD hS [1] rfl rfl rfl rfl rfl rfl hl.1 rfl (Nat.le_of_ble_eq_true rfl) dX6_shows_7 ⟨Nat.le_refl _, Nat.le_refl _⟩ (fun H locs hP hD hS => ?_)
  refine lv_aload_n hx hb dX6_shows_10 rfl (lv_at hl 0 rfl) ?_
  refine fc_get (v := .ref (a 2)) (ci := 3) (C := RX6) (T := TX6) (N := 12) hx hb hwX6 hown hE hP 0 rfl rfl 3 (by decide) hk_fieldLink_RX6_15__BrideNotKnown_Valley___figures____I_ (fun _ h => h) rfl dX6_shows_11 ?_
  refine lv_iload_n hx hb dX6_shows_14 rfl (lv_at hl 1 rfl) ?_
  obtain ⟨q269, hq269, hf⟩ := bnd hf
  refine fc_callN (Wa' := (vW G a v)) (st1 := [.int q269, .int q268, .int x1, .ref (a 0)]) (As := [.ref (a 2), .int x1]) (rest := [.int q268, .int x1, .ref (a 0)]) hCF (k_X7_at (a 2) 8 (v 1) x1 hq269) ⟨va_cnB 2 hts gX6_shows_X7_at_n53 rfl rfl rfl (hE.2.1 _ (List.mem_of_getElem? (i := 8) rfl)) hk_initialized_RX7 dk_X7_at ⟨Nat.le_of_ble_eq_true rfl, Nat.le_of_ble_eq_true rfl⟩, hk_static_yX7_at, trivial⟩ hE hAB hP hD hS [2] rfl rfl rfl rfl rfl rfl hl.1 rfl (Nat.le_of_ble_eq_true rfl) dX6_shows_15 ⟨Nat.le_refl _, Nat.le_refl _⟩ (fun H locs hP hD hS => ?_)
  refine lv_iload_n hx hb dX6_shows_18 rfl (lv_at hl 2 rfl) ?_
  obtain ⟨q270, hq270, hf⟩ := bnd hf
  refine fc_callV (Wa' := (vW G a v)) (st1 := [.int q270]) (As := [.int x1, .int q268, .int q269, .int x2]) (rest := []) hCF (k_X6_showsAs a v x1 q268 q269 x2 hq270) (cwV 4 hts gX6_shows_X6_showsAs rfl rfl rfl ⟨rfl, dk_X6_showsAs⟩ ⟨Nat.le_of_ble_eq_true rfl, Nat.le_of_ble_eq_true rfl⟩) hE hAB hP hD hS [0, 1, 2, 3, 4, 5, 6, 7] rfl rfl (va_recv hE.1 hP (ci := 3) (q0 := 0) rfl rfl) rfl rfl rfl rfl hl.1 rfl (Nat.le_of_ble_eq_true rfl) dX6_shows_19 ⟨Nat.le_refl _, Nat.le_refl _⟩ (fun H locs hP hD hS => ?_)
  exact fc_reti hx hb hr hlocks hP hS dX6_shows_22 (i1 hf) rfl
theorem dk_X6_choiceFrom : yX6_choiceFrom.cls ≠ "java/lang/invoke/MethodHandle" ∧ yX6_choiceFrom.cls ≠ "java/lang/invoke/VarHandle" ∧ (parseMethodDescriptor yX6_choiceFrom.desc).map (fun d => d.parameters.length) = some 1 := by decide +kernel
set_option maxHeartbeats 4000000 in
set_option maxRecDepth 100000 in
theorem k_X6_choiceFrom {l : Launch} {G : Gx} (a : Nat → Nat) (v : St) (x1 : Int32) {r : Int32} (hf : f_X6_choiceFrom v x1 = some r) : FC l G yX6_choiceFrom wsX6_choiceFrom ({ frames := 2, cells := 0, slots := 0, locals := 44 } : Room) [.ref (a 0), .int x1] (vW G a v) (vW G a v) (some (.int r)) := by
  refine fc_head (cc := cX6_choiceFrom) (maxL := 2) (ret := (some .int)) (C := RX6) (lv := [(0, .ref (a 0)), (1, .int x1)]) (by decide) rfl rfl (Nat.le_of_ble_eq_true rfl) rfl ?_
  intro p e s m below meth c ls A hx hb hr hml hown hts hlocks hE hP hD hAB hS hl
  have hCF : CallFix p m c cX6_choiceFrom 2 s ([.ref (a 0), .int x1] : List Value).toArray wsX6_choiceFrom RX6 := ⟨hx, hb, hml, hown, hts⟩
  rw [f_X6_choiceFrom] at hf
  refine lv_iload_n hx hb dX6_choiceFrom_0 rfl (lv_at hl 1 rfl) ?_
  refine lv_if_eq (tgt := 8) hx hb dX6_choiceFrom_1 (by decide) (fun c388 => ?_) (fun c388 => ?_)
  · have hf := ifT hf c388
    refine lv_aload_n hx hb dX6_choiceFrom_8 rfl (lv_at hl 0 rfl) ?_
    refine lv_iconst (v := (0 : Int32)) hx hb dX6_choiceFrom_9 (by decide) ?_
    obtain ⟨q389, hq389, hf⟩ := bnd hf
    refine fc_callV (Wa' := (vW G a v)) (st1 := [.int q389]) (As := [.int (0 : Int32)]) (rest := []) hCF (k_X6_hereThen a v (0 : Int32) hq389) (cwV 1 hts gX6_choiceFrom_X6_hereThen rfl rfl rfl ⟨rfl, dk_X6_hereThen⟩ ⟨Nat.le_of_ble_eq_true rfl, Nat.le_of_ble_eq_true rfl⟩) hE hAB hP hD hS [0, 1, 2, 3, 4, 5, 6, 7] rfl rfl (va_recv hE.1 hP (ci := 3) (q0 := 0) rfl rfl) rfl rfl rfl rfl hl.1 rfl (Nat.le_of_ble_eq_true rfl) dX6_choiceFrom_10 ⟨Nat.le_refl _, Nat.le_refl _⟩ (fun H locs hP hD hS => ?_)
    exact fc_reti hx hb hr hlocks hP hS dX6_choiceFrom_13 (i1 hf) rfl
  · have hf := ifF hf c388
    refine lv_iload_n hx hb dX6_choiceFrom_4 rfl (lv_at hl 1 rfl) ?_
    refine lv_goto (tgt := 13) hx hb dX6_choiceFrom_5 (by decide) ?_
    exact fc_reti hx hb hr hlocks hP hS dX6_choiceFrom_13 (i1 hf) rfl
theorem dk_X6_choiceOf : yX6_choiceOf.cls ≠ "java/lang/invoke/MethodHandle" ∧ yX6_choiceOf.cls ≠ "java/lang/invoke/VarHandle" ∧ (parseMethodDescriptor yX6_choiceOf.desc).map (fun d => d.parameters.length) = some 1 := by decide +kernel
set_option maxHeartbeats 4000000 in
set_option maxRecDepth 100000 in
theorem k_X6_choiceOf {l : Launch} {G : Gx} (a : Nat → Nat) (v : St) (x1 : Int32) {r : Int32} (hf : f_X6_choiceOf v x1 = some r) : FC l G yX6_choiceOf wsX6_choiceOf ({ frames := 4, cells := 0, slots := 0, locals := 99 } : Room) [.ref (a 0), .int x1] (vW G a v) (vW G a v) (some (.int r)) := by
  refine fc_head (cc := cX6_choiceOf) (maxL := 2) (ret := (some .int)) (C := RX6) (lv := [(0, .ref (a 0)), (1, .int x1)]) (by decide) rfl rfl (Nat.le_of_ble_eq_true rfl) rfl ?_
  intro p e s m below meth c ls A hx hb hr hml hown hts hlocks hE hP hD hAB hS hl
  have hCF : CallFix p m c cX6_choiceOf 2 s ([.ref (a 0), .int x1] : List Value).toArray wsX6_choiceOf RX6 := ⟨hx, hb, hml, hown, hts⟩
  rw [f_X6_choiceOf] at hf
  refine lv_aload_n hx hb dX6_choiceOf_0 rfl (lv_at hl 0 rfl) ?_
  refine lv_aload_n hx hb dX6_choiceOf_1 rfl (lv_at hl 0 rfl) ?_
  refine lv_iload_n hx hb dX6_choiceOf_2 rfl (lv_at hl 1 rfl) ?_
  refine lv_iconst (v := (0 : Int32)) hx hb dX6_choiceOf_3 (by decide) ?_
  obtain ⟨q392, hq392, hf⟩ := bnd hf
  refine fc_callV (Wa' := (vW G a v)) (st1 := [.int q392, .ref (a 0)]) (As := [.int x1, .int (0 : Int32)]) (rest := [.ref (a 0)]) hCF (k_X6_guesses a v x1 (0 : Int32) hq392) (cwV 2 hts gX6_choiceOf_X6_guesses rfl rfl rfl ⟨rfl, dk_X6_guesses⟩ ⟨Nat.le_of_ble_eq_true rfl, Nat.le_of_ble_eq_true rfl⟩) hE hAB hP hD hS [0, 1, 2, 3, 4, 5, 6, 7] rfl rfl (va_recv hE.1 hP (ci := 3) (q0 := 0) rfl rfl) rfl rfl rfl rfl hl.1 rfl (Nat.le_of_ble_eq_true rfl) dX6_choiceOf_4 ⟨Nat.le_refl _, Nat.le_refl _⟩ (fun H locs hP hD hS => ?_)
  obtain ⟨q393, hq393, hf⟩ := bnd hf
  refine fc_callV (Wa' := (vW G a v)) (st1 := [.int q393]) (As := [.int q392]) (rest := []) hCF (k_X6_choiceFrom a v q392 hq393) (cwV 1 hts gX6_choiceOf_X6_choiceFrom rfl rfl rfl ⟨rfl, dk_X6_choiceFrom⟩ ⟨Nat.le_of_ble_eq_true rfl, Nat.le_of_ble_eq_true rfl⟩) hE hAB hP hD hS [0, 1, 2, 3, 4, 5, 6, 7] rfl rfl (va_recv hE.1 hP (ci := 3) (q0 := 0) rfl rfl) rfl rfl rfl rfl hl.1 rfl (Nat.le_of_ble_eq_true rfl) dX6_choiceOf_7 ⟨Nat.le_refl _, Nat.le_refl _⟩ (fun H locs hP hD hS => ?_)
  exact fc_reti hx hb hr hlocks hP hS dX6_choiceOf_10 (i1 hf) rfl
theorem dk_X6_kindOf : yX6_kindOf.cls ≠ "java/lang/invoke/MethodHandle" ∧ yX6_kindOf.cls ≠ "java/lang/invoke/VarHandle" ∧ (parseMethodDescriptor yX6_kindOf.desc).map (fun d => d.parameters.length) = some 1 := by decide +kernel
theorem iu_X6_kindOf_X6 : ∀ w ∈ u_ws RX6 TX6 12, w ∈ wsX6_kindOf := by decide +kernel
set_option maxHeartbeats 4000000 in
set_option maxRecDepth 100000 in
theorem k_X6_kindOf {l : Launch} {G : Gx} (a : Nat → Nat) (v : St) (x1 : Int32) {r : Int32} (hf : f_X6_kindOf v x1 = some r) : FC l G yX6_kindOf wsX6_kindOf ({ frames := 1, cells := 0, slots := 0, locals := 21 } : Room) [.ref (a 0), .int x1] (vW G a v) (vW G a v) (some (.int r)) := by
  refine fc_head (cc := cX6_kindOf) (maxL := 2) (ret := (some .int)) (C := RX6) (lv := [(0, .ref (a 0)), (1, .int x1)]) (by decide) rfl rfl (Nat.le_of_ble_eq_true rfl) rfl ?_
  intro p e s m below meth c ls A hx hb hr hml hown hts hlocks hE hP hD hAB hS hl
  have hCF : CallFix p m c cX6_kindOf 2 s ([.ref (a 0), .int x1] : List Value).toArray wsX6_kindOf RX6 := ⟨hx, hb, hml, hown, hts⟩
  have hwX6 : ∀ w ∈ u_ws RX6 TX6 12, w.before ([.ref (a 0), .int x1] : List Value).toArray s = true := fun w h => hts w (iu_X6_kindOf_X6 w h)
  have hk_fieldLink_RX6_9__BrideNotKnown_Valley___kinds____I_ := hts (.fieldLink RX6 9 "BrideNotKnown$Valley" "kinds" "[I") (List.mem_of_getElem? (i := 1) rfl)
  have hk_initialized_RX7 := hts (.initialized RX7) (List.mem_of_getElem? (i := 3) rfl)
  have hk_static_yX7_at := hts (.static yX7_at) (List.mem_of_getElem? (i := 2) rfl)
  rw [f_X6_kindOf] at hf
  refine lv_aload_n hx hb dX6_kindOf_0 rfl (lv_at hl 0 rfl) ?_
  refine fc_get (v := .ref (a 1)) (ci := 3) (C := RX6) (T := TX6) (N := 12) hx hb hwX6 hown hE hP 0 rfl rfl 2 (by decide) hk_fieldLink_RX6_9__BrideNotKnown_Valley___kinds____I_ (fun _ h => h) rfl dX6_kindOf_1 ?_
  refine lv_iload_n hx hb dX6_kindOf_4 rfl (lv_at hl 1 rfl) ?_
  obtain ⟨q481, hq481, hf⟩ := bnd hf
  refine fc_callN (Wa' := (vW G a v)) (st1 := [.int q481]) (As := [.ref (a 1), .int x1]) (rest := []) hCF (k_X7_at (a 1) 8 (v 0) x1 hq481) ⟨va_cnB 2 hts gX6_kindOf_X7_at_n53 rfl rfl rfl (hE.2.1 _ (List.mem_of_getElem? (i := 8) rfl)) hk_initialized_RX7 dk_X7_at ⟨Nat.le_of_ble_eq_true rfl, Nat.le_of_ble_eq_true rfl⟩, hk_static_yX7_at, trivial⟩ hE hAB hP hD hS [1] rfl rfl rfl rfl rfl rfl hl.1 rfl (Nat.le_of_ble_eq_true rfl) dX6_kindOf_5 ⟨Nat.le_refl _, Nat.le_refl _⟩ (fun H locs hP hD hS => ?_)
  exact fc_reti hx hb hr hlocks hP hS dX6_kindOf_8 (i1 hf) rfl
theorem dk_X6_hasGroom : yX6_hasGroom.cls ≠ "java/lang/invoke/MethodHandle" ∧ yX6_hasGroom.cls ≠ "java/lang/invoke/VarHandle" ∧ (parseMethodDescriptor yX6_hasGroom.desc).map (fun d => d.parameters.length) = some 1 := by decide +kernel
theorem iu_X6_hasGroom_X6 : ∀ w ∈ u_ws RX6 TX6 12, w ∈ wsX6_hasGroom := by decide +kernel
set_option maxHeartbeats 4000000 in
set_option maxRecDepth 100000 in
theorem k_X6_hasGroom {l : Launch} {G : Gx} (a : Nat → Nat) (v : St) (x1 : Int32) {r : Int32} (hf : f_X6_hasGroom v x1 = some r) : FC l G yX6_hasGroom wsX6_hasGroom ({ frames := 0, cells := 0, slots := 0, locals := 0 } : Room) [.ref (a 0), .int x1] (vW G a v) (vW G a v) (some (.int r)) := by
  refine fc_head (cc := cX6_hasGroom) (maxL := 2) (ret := (some .boolean)) (C := RX6) (lv := [(0, .ref (a 0)), (1, .int x1)]) (by decide) rfl rfl (Nat.le_of_ble_eq_true rfl) rfl ?_
  intro p e s m below meth c ls A hx hb hr hml hown hts hlocks hE hP hD hAB hS hl
  have hCF : CallFix p m c cX6_hasGroom 2 s ([.ref (a 0), .int x1] : List Value).toArray wsX6_hasGroom RX6 := ⟨hx, hb, hml, hown, hts⟩
  have hwX6 : ∀ w ∈ u_ws RX6 TX6 12, w.before ([.ref (a 0), .int x1] : List Value).toArray s = true := fun w h => hts w (iu_X6_hasGroom_X6 w h)
  have hk_fieldLink_RX6_47__BrideNotKnown_Valley___groomCount___I_ := hts (.fieldLink RX6 47 "BrideNotKnown$Valley" "groomCount" "I") (List.mem_of_getElem? (i := 1) rfl)
  rw [f_X6_hasGroom] at hf
  refine lv_iload_n hx hb dX6_hasGroom_0 rfl (lv_at hl 1 rfl) ?_
  refine lv_if_lt (tgt := 16) hx hb dX6_hasGroom_1 (by decide) (fun c499 => ?_) (fun c499 => ?_)
  · have hf := ifT hf c499
    refine lv_iconst (v := (0 : Int32)) hx hb dX6_hasGroom_16 (by decide) ?_
    exact fc_retz hx hb hr hlocks hP hS dX6_hasGroom_17 (by decide) (i1 hf) rfl
  · have hf := ifF hf c499
    refine lv_iload_n hx hb dX6_hasGroom_4 rfl (lv_at hl 1 rfl) ?_
    refine lv_aload_n hx hb dX6_hasGroom_5 rfl (lv_at hl 0 rfl) ?_
    refine fc_get (v := .int (v 7 3)) (ci := 3) (C := RX6) (T := TX6) (N := 12) hx hb hwX6 hown hE hP 0 rfl rfl 7 (by decide) hk_fieldLink_RX6_47__BrideNotKnown_Valley___groomCount___I_ (fun _ h => h) rfl dX6_hasGroom_6 ?_
    refine lv_icmp_ge (tgt := 16) hx hb dX6_hasGroom_9 (by decide) (fun c500 => ?_) (fun c500 => ?_)
    · have hf := ifT hf c500
      refine lv_iconst (v := (0 : Int32)) hx hb dX6_hasGroom_16 (by decide) ?_
      exact fc_retz hx hb hr hlocks hP hS dX6_hasGroom_17 (by decide) (i1 hf) rfl
    · have hf := ifF hf c500
      refine lv_iconst (v := (1 : Int32)) hx hb dX6_hasGroom_12 (by decide) ?_
      refine lv_goto (tgt := 17) hx hb dX6_hasGroom_13 (by decide) ?_
      exact fc_retz hx hb hr hlocks hP hS dX6_hasGroom_17 (by decide) (i1 hf) rfl
theorem dk_X6_figureOf : yX6_figureOf.cls ≠ "java/lang/invoke/MethodHandle" ∧ yX6_figureOf.cls ≠ "java/lang/invoke/VarHandle" ∧ (parseMethodDescriptor yX6_figureOf.desc).map (fun d => d.parameters.length) = some 1 := by decide +kernel
theorem iu_X6_figureOf_X6 : ∀ w ∈ u_ws RX6 TX6 12, w ∈ wsX6_figureOf := by decide +kernel
set_option maxHeartbeats 4000000 in
set_option maxRecDepth 100000 in
theorem k_X6_figureOf {l : Launch} {G : Gx} (a : Nat → Nat) (v : St) (x1 : Int32) {r : Int32} (hf : f_X6_figureOf v x1 = some r) : FC l G yX6_figureOf wsX6_figureOf ({ frames := 1, cells := 0, slots := 0, locals := 21 } : Room) [.ref (a 0), .int x1] (vW G a v) (vW G a v) (some (.int r)) := by
  refine fc_head (cc := cX6_figureOf) (maxL := 2) (ret := (some .int)) (C := RX6) (lv := [(0, .ref (a 0)), (1, .int x1)]) (by decide) rfl rfl (Nat.le_of_ble_eq_true rfl) rfl ?_
  intro p e s m below meth c ls A hx hb hr hml hown hts hlocks hE hP hD hAB hS hl
  have hCF : CallFix p m c cX6_figureOf 2 s ([.ref (a 0), .int x1] : List Value).toArray wsX6_figureOf RX6 := ⟨hx, hb, hml, hown, hts⟩
  have hwX6 : ∀ w ∈ u_ws RX6 TX6 12, w.before ([.ref (a 0), .int x1] : List Value).toArray s = true := fun w h => hts w (iu_X6_figureOf_X6 w h)
  have hk_fieldLink_RX6_15__BrideNotKnown_Valley___figures____I_ := hts (.fieldLink RX6 15 "BrideNotKnown$Valley" "figures" "[I") (List.mem_of_getElem? (i := 1) rfl)
  have hk_initialized_RX7 := hts (.initialized RX7) (List.mem_of_getElem? (i := 3) rfl)
  have hk_static_yX7_at := hts (.static yX7_at) (List.mem_of_getElem? (i := 2) rfl)
  rw [f_X6_figureOf] at hf
  refine lv_aload_n hx hb dX6_figureOf_0 rfl (lv_at hl 0 rfl) ?_
  refine fc_get (v := .ref (a 2)) (ci := 3) (C := RX6) (T := TX6) (N := 12) hx hb hwX6 hown hE hP 0 rfl rfl 3 (by decide) hk_fieldLink_RX6_15__BrideNotKnown_Valley___figures____I_ (fun _ h => h) rfl dX6_figureOf_1 ?_
  refine lv_iload_n hx hb dX6_figureOf_4 rfl (lv_at hl 1 rfl) ?_
  obtain ⟨q532, hq532, hf⟩ := bnd hf
  refine fc_callN (Wa' := (vW G a v)) (st1 := [.int q532]) (As := [.ref (a 2), .int x1]) (rest := []) hCF (k_X7_at (a 2) 8 (v 1) x1 hq532) ⟨va_cnB 2 hts gX6_figureOf_X7_at_n53 rfl rfl rfl (hE.2.1 _ (List.mem_of_getElem? (i := 8) rfl)) hk_initialized_RX7 dk_X7_at ⟨Nat.le_of_ble_eq_true rfl, Nat.le_of_ble_eq_true rfl⟩, hk_static_yX7_at, trivial⟩ hE hAB hP hD hS [2] rfl rfl rfl rfl rfl rfl hl.1 rfl (Nat.le_of_ble_eq_true rfl) dX6_figureOf_5 ⟨Nat.le_refl _, Nat.le_refl _⟩ (fun H locs hP hD hS => ?_)
  exact fc_reti hx hb hr hlocks hP hS dX6_figureOf_8 (i1 hf) rfl
theorem dk_X6_setLiquor : yX6_setLiquor.cls ≠ "java/lang/invoke/MethodHandle" ∧ yX6_setLiquor.cls ≠ "java/lang/invoke/VarHandle" ∧ (parseMethodDescriptor yX6_setLiquor.desc).map (fun d => d.parameters.length) = some 2 := by decide +kernel
theorem iu_X6_setLiquor_X6 : ∀ w ∈ u_ws RX6 TX6 12, w ∈ wsX6_setLiquor := by decide +kernel
set_option maxHeartbeats 4000000 in
set_option maxRecDepth 100000 in
theorem k_X6_setLiquor {l : Launch} {G : Gx} (a : Nat → Nat) (v : St) (x1 : Int32) (x2 : Int32) {v' : St} (hf : f_X6_setLiquor v x1 x2 = some v') : FC l G yX6_setLiquor wsX6_setLiquor ({ frames := 1, cells := 0, slots := 0, locals := 22 } : Room) [.ref (a 0), .int x1, .int x2] (vW G a v) (vW G a v') none := by
  refine fc_head (cc := cX6_setLiquor) (maxL := 3) (ret := none) (C := RX6) (lv := [(0, .ref (a 0)), (1, .int x1), (2, .int x2)]) (by decide) rfl rfl (Nat.le_of_ble_eq_true rfl) rfl ?_
  intro p e s m below meth c ls A hx hb hr hml hown hts hlocks hE hP hD hAB hS hl
  have hCF : CallFix p m c cX6_setLiquor 3 s ([.ref (a 0), .int x1, .int x2] : List Value).toArray wsX6_setLiquor RX6 := ⟨hx, hb, hml, hown, hts⟩
  have hwX6 : ∀ w ∈ u_ws RX6 TX6 12, w.before ([.ref (a 0), .int x1, .int x2] : List Value).toArray s = true := fun w h => hts w (iu_X6_setLiquor_X6 w h)
  have hk_fieldLink_RX6_30__BrideNotKnown_Valley___liquors____I_ := hts (.fieldLink RX6 30 "BrideNotKnown$Valley" "liquors" "[I") (List.mem_of_getElem? (i := 1) rfl)
  have hk_initialized_RX7 := hts (.initialized RX7) (List.mem_of_getElem? (i := 3) rfl)
  have hk_static_yX7_put := hts (.static yX7_put) (List.mem_of_getElem? (i := 2) rfl)
  rw [f_X6_setLiquor] at hf
  refine lv_aload_n hx hb dX6_setLiquor_0 rfl (lv_at hl 0 rfl) ?_
  refine fc_get (v := .ref (a 7)) (ci := 3) (C := RX6) (T := TX6) (N := 12) hx hb hwX6 hown hE hP 0 rfl rfl 10 (by decide) hk_fieldLink_RX6_30__BrideNotKnown_Valley___liquors____I_ (fun _ h => h) rfl dX6_setLiquor_1 ?_
  refine lv_iload_n hx hb dX6_setLiquor_4 rfl (lv_at hl 1 rfl) ?_
  refine lv_iload_n hx hb dX6_setLiquor_5 rfl (lv_at hl 2 rfl) ?_
  obtain ⟨q552, hq552, hf⟩ := bnd hf
  refine fc_callN (Wa' := (vW G a (sA v 6 q552))) (st1 := []) (As := [.ref (a 7), .int x1, .int x2]) (rest := []) hCF (k_X7_put (a 7) 5 (v 6) x1 x2 hq552) ⟨va_cnB 3 hts gX6_setLiquor_X7_put_n65 rfl rfl rfl (hE.2.1 _ (List.mem_of_getElem? (i := 7) rfl)) hk_initialized_RX7 dk_X7_put ⟨Nat.le_of_ble_eq_true rfl, Nat.le_of_ble_eq_true rfl⟩, hk_static_yX7_put, trivial⟩ hE hAB hP hD hS [7] rfl rfl rfl rfl rfl rfl hl.1 rfl (Nat.le_of_ble_eq_true rfl) dX6_setLiquor_6 ⟨Nat.le_refl _, Nat.le_refl _⟩ (fun H locs hP hD hS => ?_)
  exact fc_retv hx hb hr hlocks hP hS dX6_setLiquor_9 (congrArg (fun z => (vW G a z)) (i1 hf))
theorem dk_X6_hasBride : yX6_hasBride.cls ≠ "java/lang/invoke/MethodHandle" ∧ yX6_hasBride.cls ≠ "java/lang/invoke/VarHandle" ∧ (parseMethodDescriptor yX6_hasBride.desc).map (fun d => d.parameters.length) = some 1 := by decide +kernel
theorem iu_X6_hasBride_X6 : ∀ w ∈ u_ws RX6 TX6 12, w ∈ wsX6_hasBride := by decide +kernel
set_option maxHeartbeats 4000000 in
set_option maxRecDepth 100000 in
theorem k_X6_hasBride {l : Launch} {G : Gx} (a : Nat → Nat) (v : St) (x1 : Int32) {r : Int32} (hf : f_X6_hasBride v x1 = some r) : FC l G yX6_hasBride wsX6_hasBride ({ frames := 0, cells := 0, slots := 0, locals := 0 } : Room) [.ref (a 0), .int x1] (vW G a v) (vW G a v) (some (.int r)) := by
  refine fc_head (cc := cX6_hasBride) (maxL := 2) (ret := (some .boolean)) (C := RX6) (lv := [(0, .ref (a 0)), (1, .int x1)]) (by decide) rfl rfl (Nat.le_of_ble_eq_true rfl) rfl ?_
  intro p e s m below meth c ls A hx hb hr hml hown hts hlocks hE hP hD hAB hS hl
  have hCF : CallFix p m c cX6_hasBride 2 s ([.ref (a 0), .int x1] : List Value).toArray wsX6_hasBride RX6 := ⟨hx, hb, hml, hown, hts⟩
  have hwX6 : ∀ w ∈ u_ws RX6 TX6 12, w.before ([.ref (a 0), .int x1] : List Value).toArray s = true := fun w h => hts w (iu_X6_hasBride_X6 w h)
  have hk_fieldLink_RX6_37__BrideNotKnown_Valley___brideCount___I_ := hts (.fieldLink RX6 37 "BrideNotKnown$Valley" "brideCount" "I") (List.mem_of_getElem? (i := 1) rfl)
  rw [f_X6_hasBride] at hf
  refine lv_iload_n hx hb dX6_hasBride_0 rfl (lv_at hl 1 rfl) ?_
  refine lv_if_lt (tgt := 16) hx hb dX6_hasBride_1 (by decide) (fun c558 => ?_) (fun c558 => ?_)
  · have hf := ifT hf c558
    refine lv_iconst (v := (0 : Int32)) hx hb dX6_hasBride_16 (by decide) ?_
    exact fc_retz hx hb hr hlocks hP hS dX6_hasBride_17 (by decide) (i1 hf) rfl
  · have hf := ifF hf c558
    refine lv_iload_n hx hb dX6_hasBride_4 rfl (lv_at hl 1 rfl) ?_
    refine lv_aload_n hx hb dX6_hasBride_5 rfl (lv_at hl 0 rfl) ?_
    refine fc_get (v := .int (v 7 1)) (ci := 3) (C := RX6) (T := TX6) (N := 12) hx hb hwX6 hown hE hP 0 rfl rfl 1 (by decide) hk_fieldLink_RX6_37__BrideNotKnown_Valley___brideCount___I_ (fun _ h => h) rfl dX6_hasBride_6 ?_
    refine lv_icmp_ge (tgt := 16) hx hb dX6_hasBride_9 (by decide) (fun c559 => ?_) (fun c559 => ?_)
    · have hf := ifT hf c559
      refine lv_iconst (v := (0 : Int32)) hx hb dX6_hasBride_16 (by decide) ?_
      exact fc_retz hx hb hr hlocks hP hS dX6_hasBride_17 (by decide) (i1 hf) rfl
    · have hf := ifF hf c559
      refine lv_iconst (v := (1 : Int32)) hx hb dX6_hasBride_12 (by decide) ?_
      refine lv_goto (tgt := 17) hx hb dX6_hasBride_13 (by decide) ?_
      exact fc_retz hx hb hr hlocks hP hS dX6_hasBride_17 (by decide) (i1 hf) rfl
theorem dk_X6_canPass : yX6_canPass.cls ≠ "java/lang/invoke/MethodHandle" ∧ yX6_canPass.cls ≠ "java/lang/invoke/VarHandle" ∧ (parseMethodDescriptor yX6_canPass.desc).map (fun d => d.parameters.length) = some 1 := by decide +kernel
theorem iu_X6_canPass_X6 : ∀ w ∈ u_ws RX6 TX6 12, w ∈ wsX6_canPass := by decide +kernel
set_option maxHeartbeats 4000000 in
set_option maxRecDepth 100000 in
theorem k_X6_canPass {l : Launch} {G : Gx} (a : Nat → Nat) (v : St) (x1 : Int32) {r : Int32} (hf : f_X6_canPass v x1 = some r) : FC l G yX6_canPass wsX6_canPass ({ frames := 0, cells := 0, slots := 0, locals := 0 } : Room) [.ref (a 0), .int x1] (vW G a v) (vW G a v) (some (.int r)) := by
  refine fc_head (cc := cX6_canPass) (maxL := 2) (ret := (some .boolean)) (C := RX6) (lv := [(0, .ref (a 0)), (1, .int x1)]) (by decide) rfl rfl (Nat.le_of_ble_eq_true rfl) rfl ?_
  intro p e s m below meth c ls A hx hb hr hml hown hts hlocks hE hP hD hAB hS hl
  have hCF : CallFix p m c cX6_canPass 2 s ([.ref (a 0), .int x1] : List Value).toArray wsX6_canPass RX6 := ⟨hx, hb, hml, hown, hts⟩
  have hwX6 : ∀ w ∈ u_ws RX6 TX6 12, w.before ([.ref (a 0), .int x1] : List Value).toArray s = true := fun w h => hts w (iu_X6_canPass_X6 w h)
  have hk_fieldLink_RX6_33__BrideNotKnown_Valley___year___I_ := hts (.fieldLink RX6 33 "BrideNotKnown$Valley" "year" "I") (List.mem_of_getElem? (i := 1) rfl)
  rw [f_X6_canPass] at hf
  refine lv_aload_n hx hb dX6_canPass_0 rfl (lv_at hl 0 rfl) ?_
  refine fc_get (v := .int (v 7 0)) (ci := 3) (C := RX6) (T := TX6) (N := 12) hx hb hwX6 hown hE hP 0 rfl rfl 0 (by decide) hk_fieldLink_RX6_33__BrideNotKnown_Valley___year___I_ (fun _ h => h) rfl dX6_canPass_1 ?_
  refine lv_iload_n hx hb dX6_canPass_4 rfl (lv_at hl 1 rfl) ?_
  refine lv_iadd hx hb dX6_canPass_5 ?_
  refine lv_sipush (v := (999 : Int32)) hx hb dX6_canPass_6 (by decide) ?_
  refine lv_icmp_gt (tgt := 16) hx hb dX6_canPass_9 (by decide) (fun c566 => ?_) (fun c566 => ?_)
  · have hf := ifT hf c566
    refine lv_iconst (v := (0 : Int32)) hx hb dX6_canPass_16 (by decide) ?_
    exact fc_retz hx hb hr hlocks hP hS dX6_canPass_17 (by decide) (i1 hf) rfl
  · have hf := ifF hf c566
    refine lv_iconst (v := (1 : Int32)) hx hb dX6_canPass_12 (by decide) ?_
    refine lv_goto (tgt := 17) hx hb dX6_canPass_13 (by decide) ?_
    exact fc_retz hx hb hr hlocks hP hS dX6_canPass_17 (by decide) (i1 hf) rfl
theorem dk_X6_sentFor : yX6_sentFor.cls ≠ "java/lang/invoke/MethodHandle" ∧ yX6_sentFor.cls ≠ "java/lang/invoke/VarHandle" ∧ (parseMethodDescriptor yX6_sentFor.desc).map (fun d => d.parameters.length) = some 1 := by decide +kernel
theorem iu_X6_sentFor_X6 : ∀ w ∈ u_ws RX6 TX6 12, w ∈ wsX6_sentFor := by decide +kernel
set_option maxHeartbeats 4000000 in
set_option maxRecDepth 100000 in
theorem k_X6_sentFor {l : Launch} {G : Gx} (a : Nat → Nat) (v : St) (x1 : Int32) {r : Int32} (hf : f_X6_sentFor v x1 = some r) : FC l G yX6_sentFor wsX6_sentFor ({ frames := 1, cells := 0, slots := 0, locals := 21 } : Room) [.ref (a 0), .int x1] (vW G a v) (vW G a v) (some (.int r)) := by
  refine fc_head (cc := cX6_sentFor) (maxL := 2) (ret := (some .int)) (C := RX6) (lv := [(0, .ref (a 0)), (1, .int x1)]) (by decide) rfl rfl (Nat.le_of_ble_eq_true rfl) rfl ?_
  intro p e s m below meth c ls A hx hb hr hml hown hts hlocks hE hP hD hAB hS hl
  have hCF : CallFix p m c cX6_sentFor 2 s ([.ref (a 0), .int x1] : List Value).toArray wsX6_sentFor RX6 := ⟨hx, hb, hml, hown, hts⟩
  have hwX6 : ∀ w ∈ u_ws RX6 TX6 12, w.before ([.ref (a 0), .int x1] : List Value).toArray s = true := fun w h => hts w (iu_X6_sentFor_X6 w h)
  have hk_fieldLink_RX6_21__BrideNotKnown_Valley___sentYears____I_ := hts (.fieldLink RX6 21 "BrideNotKnown$Valley" "sentYears" "[I") (List.mem_of_getElem? (i := 1) rfl)
  have hk_initialized_RX7 := hts (.initialized RX7) (List.mem_of_getElem? (i := 3) rfl)
  have hk_static_yX7_at := hts (.static yX7_at) (List.mem_of_getElem? (i := 2) rfl)
  rw [f_X6_sentFor] at hf
  refine lv_aload_n hx hb dX6_sentFor_0 rfl (lv_at hl 0 rfl) ?_
  refine fc_get (v := .ref (a 4)) (ci := 3) (C := RX6) (T := TX6) (N := 12) hx hb hwX6 hown hE hP 0 rfl rfl 5 (by decide) hk_fieldLink_RX6_21__BrideNotKnown_Valley___sentYears____I_ (fun _ h => h) rfl dX6_sentFor_1 ?_
  refine lv_iload_n hx hb dX6_sentFor_4 rfl (lv_at hl 1 rfl) ?_
  obtain ⟨q568, hq568, hf⟩ := bnd hf
  refine fc_callN (Wa' := (vW G a v)) (st1 := [.int q568]) (As := [.ref (a 4), .int x1]) (rest := []) hCF (k_X7_at (a 4) 8 (v 3) x1 hq568) ⟨va_cnB 2 hts gX6_sentFor_X7_at_n53 rfl rfl rfl (hE.2.1 _ (List.mem_of_getElem? (i := 8) rfl)) hk_initialized_RX7 dk_X7_at ⟨Nat.le_of_ble_eq_true rfl, Nat.le_of_ble_eq_true rfl⟩, hk_static_yX7_at, trivial⟩ hE hAB hP hD hS [4] rfl rfl rfl rfl rfl rfl hl.1 rfl (Nat.le_of_ble_eq_true rfl) dX6_sentFor_5 ⟨Nat.le_refl _, Nat.le_refl _⟩ (fun H locs hP hD hS => ?_)
  exact fc_reti hx hb hr hlocks hP hS dX6_sentFor_8 (i1 hf) rfl
theorem dk_X6_liquorOf : yX6_liquorOf.cls ≠ "java/lang/invoke/MethodHandle" ∧ yX6_liquorOf.cls ≠ "java/lang/invoke/VarHandle" ∧ (parseMethodDescriptor yX6_liquorOf.desc).map (fun d => d.parameters.length) = some 1 := by decide +kernel
theorem iu_X6_liquorOf_X6 : ∀ w ∈ u_ws RX6 TX6 12, w ∈ wsX6_liquorOf := by decide +kernel
set_option maxHeartbeats 4000000 in
set_option maxRecDepth 100000 in
theorem k_X6_liquorOf {l : Launch} {G : Gx} (a : Nat → Nat) (v : St) (x1 : Int32) {r : Int32} (hf : f_X6_liquorOf v x1 = some r) : FC l G yX6_liquorOf wsX6_liquorOf ({ frames := 1, cells := 0, slots := 0, locals := 21 } : Room) [.ref (a 0), .int x1] (vW G a v) (vW G a v) (some (.int r)) := by
  refine fc_head (cc := cX6_liquorOf) (maxL := 2) (ret := (some .int)) (C := RX6) (lv := [(0, .ref (a 0)), (1, .int x1)]) (by decide) rfl rfl (Nat.le_of_ble_eq_true rfl) rfl ?_
  intro p e s m below meth c ls A hx hb hr hml hown hts hlocks hE hP hD hAB hS hl
  have hCF : CallFix p m c cX6_liquorOf 2 s ([.ref (a 0), .int x1] : List Value).toArray wsX6_liquorOf RX6 := ⟨hx, hb, hml, hown, hts⟩
  have hwX6 : ∀ w ∈ u_ws RX6 TX6 12, w.before ([.ref (a 0), .int x1] : List Value).toArray s = true := fun w h => hts w (iu_X6_liquorOf_X6 w h)
  have hk_fieldLink_RX6_30__BrideNotKnown_Valley___liquors____I_ := hts (.fieldLink RX6 30 "BrideNotKnown$Valley" "liquors" "[I") (List.mem_of_getElem? (i := 1) rfl)
  have hk_initialized_RX7 := hts (.initialized RX7) (List.mem_of_getElem? (i := 3) rfl)
  have hk_static_yX7_at := hts (.static yX7_at) (List.mem_of_getElem? (i := 2) rfl)
  rw [f_X6_liquorOf] at hf
  refine lv_aload_n hx hb dX6_liquorOf_0 rfl (lv_at hl 0 rfl) ?_
  refine fc_get (v := .ref (a 7)) (ci := 3) (C := RX6) (T := TX6) (N := 12) hx hb hwX6 hown hE hP 0 rfl rfl 10 (by decide) hk_fieldLink_RX6_30__BrideNotKnown_Valley___liquors____I_ (fun _ h => h) rfl dX6_liquorOf_1 ?_
  refine lv_iload_n hx hb dX6_liquorOf_4 rfl (lv_at hl 1 rfl) ?_
  obtain ⟨q570, hq570, hf⟩ := bnd hf
  refine fc_callN (Wa' := (vW G a v)) (st1 := [.int q570]) (As := [.ref (a 7), .int x1]) (rest := []) hCF (k_X7_at (a 7) 5 (v 6) x1 hq570) ⟨va_cnB 2 hts gX6_liquorOf_X7_at_n53 rfl rfl rfl (hE.2.1 _ (List.mem_of_getElem? (i := 8) rfl)) hk_initialized_RX7 dk_X7_at ⟨Nat.le_of_ble_eq_true rfl, Nat.le_of_ble_eq_true rfl⟩, hk_static_yX7_at, trivial⟩ hE hAB hP hD hS [7] rfl rfl rfl rfl rfl rfl hl.1 rfl (Nat.le_of_ble_eq_true rfl) dX6_liquorOf_5 ⟨Nat.le_refl _, Nat.le_refl _⟩ (fun H locs hP hD hS => ?_)
  exact fc_reti hx hb hr hlocks hP hS dX6_liquorOf_8 (i1 hf) rfl
theorem dk_X6_passYears : yX6_passYears.cls ≠ "java/lang/invoke/MethodHandle" ∧ yX6_passYears.cls ≠ "java/lang/invoke/VarHandle" ∧ (parseMethodDescriptor yX6_passYears.desc).map (fun d => d.parameters.length) = some 1 := by decide +kernel
theorem iu_X6_passYears_X6 : ∀ w ∈ u_ws RX6 TX6 12, w ∈ wsX6_passYears := by decide +kernel
set_option maxHeartbeats 4000000 in
set_option maxRecDepth 100000 in
theorem k_X6_passYears {l : Launch} {G : Gx} (a : Nat → Nat) (v : St) (x1 : Int32) {v' : St} (hf : f_X6_passYears v x1 = some v') : FC l G yX6_passYears wsX6_passYears ({ frames := 2, cells := 0, slots := 0, locals := 44 } : Room) [.ref (a 0), .int x1] (vW G a v) (vW G a v') none := by
  refine fc_head (cc := cX6_passYears) (maxL := 3) (ret := none) (C := RX6) (lv := [(0, .ref (a 0)), (1, .int x1)]) (by decide) rfl rfl (Nat.le_of_ble_eq_true rfl) rfl ?_
  intro p e s m below meth c ls A hx hb hr hml hown hts hlocks hE hP hD hAB hS hl
  have hCF : CallFix p m c cX6_passYears 3 s ([.ref (a 0), .int x1] : List Value).toArray wsX6_passYears RX6 := ⟨hx, hb, hml, hown, hts⟩
  have hwX6 : ∀ w ∈ u_ws RX6 TX6 12, w.before ([.ref (a 0), .int x1] : List Value).toArray s = true := fun w h => hts w (iu_X6_passYears_X6 w h)
  have hk_fieldLink_RX6_33__BrideNotKnown_Valley___year___I_ := hts (.fieldLink RX6 33 "BrideNotKnown$Valley" "year" "I") (List.mem_of_getElem? (i := 1) rfl)
  have hk_fieldLink_RX6_37__BrideNotKnown_Valley___brideCount___I_ := hts (.fieldLink RX6 37 "BrideNotKnown$Valley" "brideCount" "I") (List.mem_of_getElem? (i := 2) rfl)
  have hk_fieldLink_RX6_21__BrideNotKnown_Valley___sentYears____I_ := hts (.fieldLink RX6 21 "BrideNotKnown$Valley" "sentYears" "[I") (List.mem_of_getElem? (i := 3) rfl)
  have hk_methodLink_RX6_86_Lib_Math_max_name := hts (.methodLink RX6 86 Lib.Math.max.name) (List.mem_of_getElem? (i := 4) rfl)
  have hk_static_Lib_Math_max_name := hts (.static Lib.Math.max.name) (List.mem_of_getElem? (i := 5) rfl)
  have hk_initialized__java_lang_Math_ := hts (.initialized "java/lang/Math") (List.mem_of_getElem? (i := 6) rfl)
  have hk_code_Lib_Math_max_name_Lib_Math_max_code_2__some__int_ := hts (.code Lib.Math.max.name Lib.Math.max.code 2 (some .int)) (List.mem_of_getElem? (i := 7) rfl)
  have hk_initialized_RX7 := hts (.initialized RX7) (List.mem_of_getElem? (i := 15) rfl)
  have hk_static_yX7_put := hts (.static yX7_put) (List.mem_of_getElem? (i := 17) rfl)
  have hk_fieldLink_RX6_47__BrideNotKnown_Valley___groomCount___I_ := hts (.fieldLink RX6 47 "BrideNotKnown$Valley" "groomCount" "I") (List.mem_of_getElem? (i := 8) rfl)
  rw [f_X6_passYears] at hf
  refine lv_aload_n hx hb dX6_passYears_0 rfl (lv_at hl 0 rfl) ?_
  refine lv_dup hx hb dX6_passYears_1 rfl ?_
  refine fc_get (v := .int (v 7 0)) (ci := 3) (C := RX6) (T := TX6) (N := 12) hx hb hwX6 hown hE hP 0 rfl rfl 0 (by decide) hk_fieldLink_RX6_33__BrideNotKnown_Valley___year___I_ (fun _ h => h) rfl dX6_passYears_2 ?_
  refine lv_iload_n hx hb dX6_passYears_5 rfl (lv_at hl 1 rfl) ?_
  refine lv_iadd hx hb dX6_passYears_6 ?_
  refine fc_put (Wa' := (vW G a (sA v 7 (upd (v 7) 0 ((v 7 0) + x1))))) (ci := 3) (C := RX6) (T := TX6) (N := 12) hx hb hwX6 tyX6 tyX6_ok nmX6 hown hE hP hD hS 0 rfl rfl 0 (by decide) hk_fieldLink_RX6_33__BrideNotKnown_Valley___year___I_ (fun _ h => h) rfl rfl rfl (Nat.le_of_ble_eq_true rfl) dX6_passYears_7 rfl (fun H locs hP hD hS => ?_)
  refine lv_iconst (v := (0 : Int32)) hx hb dX6_passYears_10 (by decide) ?_
  refine lv_istore_n (lv' := [(2, .int (0 : Int32)), (0, .ref (a 0)), (1, .int x1)]) hx hb dX6_passYears_11 rfl hl (by decide) rfl (fun ls hl => ?_)
  have L12_578 : ∀ (K12_45 : St → Option (St)) (hK12_45 : ∀ (v_579 : St) (H : Heap) (locs : List Loc) (ls : Array Slot), va_P (gD G) vwCl (vW G a v_579) H → va_D A (vW G a v_579) → va_S A s.heap H locs → lv_has ls 3 [(0, .ref (a 0)), (1, .int x1)] → K12_45 v_579 = some v' → W p l e (headSpec wsX6_passYears ({ frames := 2, cells := 0, slots := 0, locals := 44 } : Room)).room s m ([.ref (a 0), .int x1] : List Value).toArray below meth c H locs 0 0 (MQ below (FQ G A (vW G a v') none) ([.ref (a 0), .int x1] : List Value).toArray s 0 0 A) (F0 m 45 ls [])) (n : Nat) (x2_576 : Int32) (v_577 : St) (H : Heap) (locs : List Loc) (ls : Array Slot), va_P (gD G) vwCl (vW G a v_577) H → va_D A (vW G a v_577) → va_S A s.heap H locs → lv_has ls 3 [(0, .ref (a 0)), (1, .int x1), (2, .int x2_576)] → f_X6_passYears_12 x1 n x2_576 v_577 K12_45 = some v' → W p l e (headSpec wsX6_passYears ({ frames := 2, cells := 0, slots := 0, locals := 44 } : Room)).room s m ([.ref (a 0), .int x1] : List Value).toArray below meth c H locs 0 0 (MQ below (FQ G A (vW G a v') none) ([.ref (a 0), .int x1] : List Value).toArray s 0 0 A) (F0 m 12 ls []) := by
    intro K12_45 hK12_45 n
    induction n with
    | zero =>
      intro x2_576 v_577 H locs ls hP hD hS hl hf
      exact no_some hf
    | succ n ih =>
      intro x2_576 v_577 H locs ls hP hD hS hl hf
      rw [f_X6_passYears_12] at hf
      refine lv_iload_n hx hb dX6_passYears_12 rfl (lv_at hl 2 rfl) ?_
      refine lv_aload_n hx hb dX6_passYears_13 rfl (lv_at hl 0 rfl) ?_
      refine fc_get (v := .int (v_577 7 1)) (ci := 3) (C := RX6) (T := TX6) (N := 12) hx hb hwX6 hown hE hP 0 rfl rfl 1 (by decide) hk_fieldLink_RX6_37__BrideNotKnown_Valley___brideCount___I_ (fun _ h => h) rfl dX6_passYears_14 ?_
      refine lv_icmp_ge (tgt := 45) hx hb dX6_passYears_17 (by decide) (fun c580 => ?_) (fun c580 => ?_)
      · have hf := ifT hf c580
        exact hK12_45 v_577 _ _ _ hP hD hS (lv_sub hl [0, 1] rfl) hf
      · have hf := ifF hf c580
        refine lv_aload_n hx hb dX6_passYears_20 rfl (lv_at hl 0 rfl) ?_
        refine fc_get (v := .ref (a 4)) (ci := 3) (C := RX6) (T := TX6) (N := 12) hx hb hwX6 hown hE hP 0 rfl rfl 5 (by decide) hk_fieldLink_RX6_21__BrideNotKnown_Valley___sentYears____I_ (fun _ h => h) rfl dX6_passYears_21 ?_
        refine lv_iload_n hx hb dX6_passYears_24 rfl (lv_at hl 2 rfl) ?_
        refine lv_iconst (v := (0 : Int32)) hx hb dX6_passYears_25 (by decide) ?_
        refine lv_aload_n hx hb dX6_passYears_26 rfl (lv_at hl 0 rfl) ?_
        refine lv_iload_n hx hb dX6_passYears_27 rfl (lv_at hl 2 rfl) ?_
        obtain ⟨q581, hq581, hf⟩ := bnd hf
        refine fc_callV (Wa' := (vW G a v_577)) (st1 := [.int q581, .int (0 : Int32), .int x2_576, .ref (a 4)]) (As := [.int x2_576]) (rest := [.int (0 : Int32), .int x2_576, .ref (a 4)]) hCF (k_X6_sentFor a v_577 x2_576 hq581) (cwV 1 hts gX6_passYears_X6_sentFor rfl rfl rfl ⟨rfl, dk_X6_sentFor⟩ ⟨Nat.le_of_ble_eq_true rfl, Nat.le_of_ble_eq_true rfl⟩) hE hAB hP hD hS [0, 1, 2, 3, 4, 5, 6, 7] rfl rfl (va_recv hE.1 hP (ci := 3) (q0 := 0) rfl rfl) rfl rfl rfl rfl hl.1 rfl (Nat.le_of_ble_eq_true rfl) dX6_passYears_28 ⟨Nat.le_refl _, Nat.le_refl _⟩ (fun H locs hP hD hS => ?_)
        refine lv_iload_n hx hb dX6_passYears_31 rfl (lv_at hl 1 rfl) ?_
        refine lv_isub hx hb dX6_passYears_32 ?_
        refine va_mmax hx hb (hml.trans hl.1.symm) hown hk_methodLink_RX6_86_Lib_Math_max_name hk_static_Lib_Math_max_name hk_initialized__java_lang_Math_ hk_code_Lib_Math_max_name_Lib_Math_max_code_2__some__int_ (Nat.le_of_ble_eq_true rfl) (Nat.le_of_ble_eq_true rfl) (Nat.zero_le _) (Nat.zero_le _) dX6_passYears_33 ?_
        obtain ⟨q582, hq582, hf⟩ := bnd hf
        refine fc_callN (Wa' := (vW G a (sA v_577 3 q582))) (st1 := []) (As := [.ref (a 4), .int x2_576, .int (if (0 : Int32) < (q581 - x1) then (q581 - x1) else (0 : Int32))]) (rest := []) hCF (k_X7_put (a 4) 8 (v_577 3) x2_576 (if (0 : Int32) < (q581 - x1) then (q581 - x1) else (0 : Int32)) hq582) ⟨va_cnB 3 hts gX6_passYears_X7_put_n65 rfl rfl rfl (hE.2.1 _ (List.mem_of_getElem? (i := 7) rfl)) hk_initialized_RX7 dk_X7_put ⟨Nat.le_of_ble_eq_true rfl, Nat.le_of_ble_eq_true rfl⟩, hk_static_yX7_put, trivial⟩ hE hAB hP hD hS [4] rfl rfl rfl rfl rfl rfl hl.1 rfl (Nat.le_of_ble_eq_true rfl) dX6_passYears_36 ⟨Nat.le_refl _, Nat.le_refl _⟩ (fun H locs hP hD hS => ?_)
        refine lv_iinc (v := (x2_576 + (1 : Int32))) (lv' := [(2, .int (x2_576 + (1 : Int32))), (0, .ref (a 0)), (1, .int x1)]) hx hb dX6_passYears_39 hl (k := 2) rfl rfl (by decide) rfl (fun ls hl => ?_)
        refine lv_goto (tgt := 12) hx hb dX6_passYears_42 (by decide) ?_
        exact ih (x2_576 + (1 : Int32)) (sA v_577 3 q582) _ _ _ hP hD hS (lv_sub hl [1, 2, 0] rfl) hf
  refine L12_578 _ ?_ FUEL (0 : Int32) (sA v 7 (upd (v 7) 0 ((v 7 0) + x1))) _ _ _ hP hD hS (lv_sub hl [1, 2, 0] rfl) hf
  intro v_583 H locs ls hP hD hS hl hf
  refine lv_iconst (v := (0 : Int32)) hx hb dX6_passYears_45 (by decide) ?_
  refine lv_istore_n (lv' := [(2, .int (0 : Int32)), (0, .ref (a 0)), (1, .int x1)]) hx hb dX6_passYears_46 rfl hl (by decide) rfl (fun ls hl => ?_)
  have L47_586 : ∀ (n : Nat) (x2_584 : Int32) (v_585 : St) (H : Heap) (locs : List Loc) (ls : Array Slot), va_P (gD G) vwCl (vW G a v_585) H → va_D A (vW G a v_585) → va_S A s.heap H locs → lv_has ls 3 [(0, .ref (a 0)), (1, .int x1), (2, .int x2_584)] → f_X6_passYears_47 x1 n x2_584 v_585 = some v' → W p l e (headSpec wsX6_passYears ({ frames := 2, cells := 0, slots := 0, locals := 44 } : Room)).room s m ([.ref (a 0), .int x1] : List Value).toArray below meth c H locs 0 0 (MQ below (FQ G A (vW G a v') none) ([.ref (a 0), .int x1] : List Value).toArray s 0 0 A) (F0 m 47 ls []) := by
    intro n
    induction n with
    | zero =>
      intro x2_584 v_585 H locs ls hP hD hS hl hf
      exact no_some hf
    | succ n ih =>
      intro x2_584 v_585 H locs ls hP hD hS hl hf
      rw [f_X6_passYears_47] at hf
      refine lv_iload_n hx hb dX6_passYears_47 rfl (lv_at hl 2 rfl) ?_
      refine lv_aload_n hx hb dX6_passYears_48 rfl (lv_at hl 0 rfl) ?_
      refine fc_get (v := .int (v_585 7 3)) (ci := 3) (C := RX6) (T := TX6) (N := 12) hx hb hwX6 hown hE hP 0 rfl rfl 7 (by decide) hk_fieldLink_RX6_47__BrideNotKnown_Valley___groomCount___I_ (fun _ h => h) rfl dX6_passYears_49 ?_
      refine lv_icmp_ge (tgt := 77) hx hb dX6_passYears_52 (by decide) (fun c587 => ?_) (fun c587 => ?_)
      · have hf := ifT hf c587
        exact fc_retv hx hb hr hlocks hP hS dX6_passYears_77 (congrArg (fun z => (vW G a z)) (i1 hf))
      · have hf := ifF hf c587
        refine lv_aload_n hx hb dX6_passYears_55 rfl (lv_at hl 0 rfl) ?_
        refine lv_iload_n hx hb dX6_passYears_56 rfl (lv_at hl 2 rfl) ?_
        refine lv_iconst (v := (0 : Int32)) hx hb dX6_passYears_57 (by decide) ?_
        refine lv_aload_n hx hb dX6_passYears_58 rfl (lv_at hl 0 rfl) ?_
        refine lv_iload_n hx hb dX6_passYears_59 rfl (lv_at hl 2 rfl) ?_
        obtain ⟨q588, hq588, hf⟩ := bnd hf
        refine fc_callV (Wa' := (vW G a v_585)) (st1 := [.int q588, .int (0 : Int32), .int x2_584, .ref (a 0)]) (As := [.int x2_584]) (rest := [.int (0 : Int32), .int x2_584, .ref (a 0)]) hCF (k_X6_liquorOf a v_585 x2_584 hq588) (cwV 1 hts gX6_passYears_X6_liquorOf rfl rfl rfl ⟨rfl, dk_X6_liquorOf⟩ ⟨Nat.le_of_ble_eq_true rfl, Nat.le_of_ble_eq_true rfl⟩) hE hAB hP hD hS [0, 1, 2, 3, 4, 5, 6, 7] rfl rfl (va_recv hE.1 hP (ci := 3) (q0 := 0) rfl rfl) rfl rfl rfl rfl hl.1 rfl (Nat.le_of_ble_eq_true rfl) dX6_passYears_60 ⟨Nat.le_refl _, Nat.le_refl _⟩ (fun H locs hP hD hS => ?_)
        refine lv_iload_n hx hb dX6_passYears_63 rfl (lv_at hl 1 rfl) ?_
        refine lv_isub hx hb dX6_passYears_64 ?_
        refine va_mmax hx hb (hml.trans hl.1.symm) hown hk_methodLink_RX6_86_Lib_Math_max_name hk_static_Lib_Math_max_name hk_initialized__java_lang_Math_ hk_code_Lib_Math_max_name_Lib_Math_max_code_2__some__int_ (Nat.le_of_ble_eq_true rfl) (Nat.le_of_ble_eq_true rfl) (Nat.zero_le _) (Nat.zero_le _) dX6_passYears_65 ?_
        obtain ⟨q589, hq589, hf⟩ := bnd hf
        refine fc_callV (Wa' := (vW G a q589)) (st1 := []) (As := [.int x2_584, .int (if (0 : Int32) < (q588 - x1) then (q588 - x1) else (0 : Int32))]) (rest := []) hCF (k_X6_setLiquor a v_585 x2_584 (if (0 : Int32) < (q588 - x1) then (q588 - x1) else (0 : Int32)) hq589) (cwV 2 hts gX6_passYears_X6_setLiquor rfl rfl rfl ⟨rfl, dk_X6_setLiquor⟩ ⟨Nat.le_of_ble_eq_true rfl, Nat.le_of_ble_eq_true rfl⟩) hE hAB hP hD hS [0, 1, 2, 3, 4, 5, 6, 7] rfl rfl (va_recv hE.1 hP (ci := 3) (q0 := 0) rfl rfl) rfl rfl rfl rfl hl.1 rfl (Nat.le_of_ble_eq_true rfl) dX6_passYears_68 ⟨Nat.le_refl _, Nat.le_refl _⟩ (fun H locs hP hD hS => ?_)
        refine lv_iinc (v := (x2_584 + (1 : Int32))) (lv' := [(2, .int (x2_584 + (1 : Int32))), (0, .ref (a 0)), (1, .int x1)]) hx hb dX6_passYears_71 hl (k := 2) rfl rfl (by decide) rfl (fun ls hl => ?_)
        refine lv_goto (tgt := 47) hx hb dX6_passYears_74 (by decide) ?_
        exact ih (x2_584 + (1 : Int32)) q589 _ _ _ hP hD hS (lv_sub hl [1, 2, 0] rfl) hf
  exact L47_586 FUEL (0 : Int32) v_583 _ _ _ hP hD hS (lv_sub hl [1, 2, 0] rfl) hf
theorem dk_X6_setKind : yX6_setKind.cls ≠ "java/lang/invoke/MethodHandle" ∧ yX6_setKind.cls ≠ "java/lang/invoke/VarHandle" ∧ (parseMethodDescriptor yX6_setKind.desc).map (fun d => d.parameters.length) = some 3 := by decide +kernel
theorem iu_X6_setKind_X6 : ∀ w ∈ u_ws RX6 TX6 12, w ∈ wsX6_setKind := by decide +kernel
set_option maxHeartbeats 4000000 in
set_option maxRecDepth 100000 in
theorem k_X6_setKind {l : Launch} {G : Gx} (a : Nat → Nat) (v : St) (x1 : Int32) (x2 : Int32) (x3 : Int32) {v' : St} (hf : f_X6_setKind v x1 x2 x3 = some v') : FC l G yX6_setKind wsX6_setKind ({ frames := 1, cells := 0, slots := 0, locals := 22 } : Room) [.ref (a 0), .int x1, .int x2, .int x3] (vW G a v) (vW G a v') none := by
  refine fc_head (cc := cX6_setKind) (maxL := 4) (ret := none) (C := RX6) (lv := [(0, .ref (a 0)), (1, .int x1), (2, .int x2), (3, .int x3)]) (by decide) rfl rfl (Nat.le_of_ble_eq_true rfl) rfl ?_
  intro p e s m below meth c ls A hx hb hr hml hown hts hlocks hE hP hD hAB hS hl
  have hCF : CallFix p m c cX6_setKind 4 s ([.ref (a 0), .int x1, .int x2, .int x3] : List Value).toArray wsX6_setKind RX6 := ⟨hx, hb, hml, hown, hts⟩
  have hwX6 : ∀ w ∈ u_ws RX6 TX6 12, w.before ([.ref (a 0), .int x1, .int x2, .int x3] : List Value).toArray s = true := fun w h => hts w (iu_X6_setKind_X6 w h)
  have hk_fieldLink_RX6_9__BrideNotKnown_Valley___kinds____I_ := hts (.fieldLink RX6 9 "BrideNotKnown$Valley" "kinds" "[I") (List.mem_of_getElem? (i := 1) rfl)
  have hk_initialized_RX7 := hts (.initialized RX7) (List.mem_of_getElem? (i := 4) rfl)
  have hk_static_yX7_put := hts (.static yX7_put) (List.mem_of_getElem? (i := 3) rfl)
  have hk_fieldLink_RX6_15__BrideNotKnown_Valley___figures____I_ := hts (.fieldLink RX6 15 "BrideNotKnown$Valley" "figures" "[I") (List.mem_of_getElem? (i := 2) rfl)
  rw [f_X6_setKind] at hf
  refine lv_aload_n hx hb dX6_setKind_0 rfl (lv_at hl 0 rfl) ?_
  refine fc_get (v := .ref (a 1)) (ci := 3) (C := RX6) (T := TX6) (N := 12) hx hb hwX6 hown hE hP 0 rfl rfl 2 (by decide) hk_fieldLink_RX6_9__BrideNotKnown_Valley___kinds____I_ (fun _ h => h) rfl dX6_setKind_1 ?_
  refine lv_iload_n hx hb dX6_setKind_4 rfl (lv_at hl 1 rfl) ?_
  refine lv_iload_n hx hb dX6_setKind_5 rfl (lv_at hl 2 rfl) ?_
  obtain ⟨q599, hq599, hf⟩ := bnd hf
  refine fc_callN (Wa' := (vW G a (sA v 0 q599))) (st1 := []) (As := [.ref (a 1), .int x1, .int x2]) (rest := []) hCF (k_X7_put (a 1) 8 (v 0) x1 x2 hq599) ⟨va_cnB 3 hts gX6_setKind_X7_put_n65 rfl rfl rfl (hE.2.1 _ (List.mem_of_getElem? (i := 7) rfl)) hk_initialized_RX7 dk_X7_put ⟨Nat.le_of_ble_eq_true rfl, Nat.le_of_ble_eq_true rfl⟩, hk_static_yX7_put, trivial⟩ hE hAB hP hD hS [1] rfl rfl rfl rfl rfl rfl hl.1 rfl (Nat.le_of_ble_eq_true rfl) dX6_setKind_6 ⟨Nat.le_refl _, Nat.le_refl _⟩ (fun H locs hP hD hS => ?_)
  refine lv_aload_n hx hb dX6_setKind_9 rfl (lv_at hl 0 rfl) ?_
  refine fc_get (v := .ref (a 2)) (ci := 3) (C := RX6) (T := TX6) (N := 12) hx hb hwX6 hown hE hP 0 rfl rfl 3 (by decide) hk_fieldLink_RX6_15__BrideNotKnown_Valley___figures____I_ (fun _ h => h) rfl dX6_setKind_10 ?_
  refine lv_iload_n hx hb dX6_setKind_13 rfl (lv_at hl 1 rfl) ?_
  refine lv_iload_n hx hb dX6_setKind_14 rfl (lv_at hl 3 rfl) ?_
  obtain ⟨q600, hq600, hf⟩ := bnd hf
  refine fc_callN (Wa' := (vW G a (sA (sA v 0 q599) 1 q600))) (st1 := []) (As := [.ref (a 2), .int x1, .int x3]) (rest := []) hCF (k_X7_put (a 2) 8 (v 1) x1 x3 hq600) ⟨va_cnB 3 hts gX6_setKind_X7_put_n65 rfl rfl rfl (hE.2.1 _ (List.mem_of_getElem? (i := 7) rfl)) hk_initialized_RX7 dk_X7_put ⟨Nat.le_of_ble_eq_true rfl, Nat.le_of_ble_eq_true rfl⟩, hk_static_yX7_put, trivial⟩ hE hAB hP hD hS [2] rfl rfl rfl rfl rfl rfl hl.1 rfl (Nat.le_of_ble_eq_true rfl) dX6_setKind_15 ⟨Nat.le_refl _, Nat.le_refl _⟩ (fun H locs hP hD hS => ?_)
  exact fc_retv hx hb hr hlocks hP hS dX6_setKind_18 (congrArg (fun z => (vW G a z)) (i1 hf))
theorem dk_X6_addBride : yX6_addBride.cls ≠ "java/lang/invoke/MethodHandle" ∧ yX6_addBride.cls ≠ "java/lang/invoke/VarHandle" ∧ (parseMethodDescriptor yX6_addBride.desc).map (fun d => d.parameters.length) = some 3 := by decide +kernel
theorem iu_X6_addBride_X6 : ∀ w ∈ u_ws RX6 TX6 12, w ∈ wsX6_addBride := by decide +kernel
set_option maxHeartbeats 4000000 in
set_option maxRecDepth 100000 in
theorem k_X6_addBride {l : Launch} {G : Gx} (a : Nat → Nat) (v : St) (x1 : Int32) (x2 : Int32) (x3 : Int32) {r : Int32} {v' : St} (hf : f_X6_addBride v x1 x2 x3 = some (r, v')) : FC l G yX6_addBride wsX6_addBride ({ frames := 2, cells := 0, slots := 0, locals := 45 } : Room) [.ref (a 0), .int x1, .int x2, .int x3] (vW G a v) (vW G a v') (some (.int r)) := by
  refine fc_head (cc := cX6_addBride) (maxL := 4) (ret := (some .boolean)) (C := RX6) (lv := [(0, .ref (a 0)), (1, .int x1), (2, .int x2), (3, .int x3)]) (by decide) rfl rfl (Nat.le_of_ble_eq_true rfl) rfl ?_
  intro p e s m below meth c ls A hx hb hr hml hown hts hlocks hE hP hD hAB hS hl
  have hCF : CallFix p m c cX6_addBride 4 s ([.ref (a 0), .int x1, .int x2, .int x3] : List Value).toArray wsX6_addBride RX6 := ⟨hx, hb, hml, hown, hts⟩
  have hwX6 : ∀ w ∈ u_ws RX6 TX6 12, w.before ([.ref (a 0), .int x1, .int x2, .int x3] : List Value).toArray s = true := fun w h => hts w (iu_X6_addBride_X6 w h)
  have hk_fieldLink_RX6_37__BrideNotKnown_Valley___brideCount___I_ := hts (.fieldLink RX6 37 "BrideNotKnown$Valley" "brideCount" "I") (List.mem_of_getElem? (i := 1) rfl)
  have hk_fieldLink_RX6_18__BrideNotKnown_Valley___feet____I_ := hts (.fieldLink RX6 18 "BrideNotKnown$Valley" "feet" "[I") (List.mem_of_getElem? (i := 2) rfl)
  have hk_initialized_RX7 := hts (.initialized RX7) (List.mem_of_getElem? (i := 11) rfl)
  have hk_static_yX7_put := hts (.static yX7_put) (List.mem_of_getElem? (i := 10) rfl)
  rw [f_X6_addBride] at hf
  refine lv_aload_n hx hb dX6_addBride_0 rfl (lv_at hl 0 rfl) ?_
  refine fc_get (v := .int (v 7 1)) (ci := 3) (C := RX6) (T := TX6) (N := 12) hx hb hwX6 hown hE hP 0 rfl rfl 1 (by decide) hk_fieldLink_RX6_37__BrideNotKnown_Valley___brideCount___I_ (fun _ h => h) rfl dX6_addBride_1 ?_
  refine lv_bipush (v := (8 : Int32)) hx hb dX6_addBride_4 (by decide) ?_
  refine lv_icmp_ge (tgt := 15) hx hb dX6_addBride_6 (by decide) (fun c603 => ?_) (fun c603 => ?_)
  · have hf := ifT hf c603
    refine lv_iconst (v := (0 : Int32)) hx hb dX6_addBride_15 (by decide) ?_
    exact fc_retz hx hb hr hlocks hP hS dX6_addBride_16 (by decide) (i2a hf) (congrArg (fun z => (vW G a z)) (i2b hf))
  · have hf := ifF hf c603
    refine lv_iload_n hx hb dX6_addBride_9 rfl (lv_at hl 3 rfl) ?_
    refine lv_bipush (v := (63 : Int32)) hx hb dX6_addBride_10 (by decide) ?_
    refine lv_icmp_le (tgt := 17) hx hb dX6_addBride_12 (by decide) (fun c604 => ?_) (fun c604 => ?_)
    · have hf := ifT hf c604
      refine lv_aload_n hx hb dX6_addBride_17 rfl (lv_at hl 0 rfl) ?_
      refine lv_aload_n hx hb dX6_addBride_18 rfl (lv_at hl 0 rfl) ?_
      refine fc_get (v := .int (v 7 1)) (ci := 3) (C := RX6) (T := TX6) (N := 12) hx hb hwX6 hown hE hP 0 rfl rfl 1 (by decide) hk_fieldLink_RX6_37__BrideNotKnown_Valley___brideCount___I_ (fun _ h => h) rfl dX6_addBride_19 ?_
      refine lv_iload_n hx hb dX6_addBride_22 rfl (lv_at hl 1 rfl) ?_
      refine lv_iload_n hx hb dX6_addBride_23 rfl (lv_at hl 2 rfl) ?_
      obtain ⟨q605, hq605, hf⟩ := bnd hf
      refine fc_callV (Wa' := (vW G a q605)) (st1 := []) (As := [.int (v 7 1), .int x1, .int x2]) (rest := []) hCF (k_X6_setKind a v (v 7 1) x1 x2 hq605) (cwV 3 hts gX6_addBride_X6_setKind rfl rfl rfl ⟨rfl, dk_X6_setKind⟩ ⟨Nat.le_of_ble_eq_true rfl, Nat.le_of_ble_eq_true rfl⟩) hE hAB hP hD hS [0, 1, 2, 3, 4, 5, 6, 7] rfl rfl (va_recv hE.1 hP (ci := 3) (q0 := 0) rfl rfl) rfl rfl rfl rfl hl.1 rfl (Nat.le_of_ble_eq_true rfl) dX6_addBride_24 ⟨Nat.le_refl _, Nat.le_refl _⟩ (fun H locs hP hD hS => ?_)
      refine lv_aload_n hx hb dX6_addBride_27 rfl (lv_at hl 0 rfl) ?_
      refine fc_get (v := .ref (a 3)) (ci := 3) (C := RX6) (T := TX6) (N := 12) hx hb hwX6 hown hE hP 0 rfl rfl 4 (by decide) hk_fieldLink_RX6_18__BrideNotKnown_Valley___feet____I_ (fun _ h => h) rfl dX6_addBride_28 ?_
      refine lv_aload_n hx hb dX6_addBride_31 rfl (lv_at hl 0 rfl) ?_
      refine fc_get (v := .int (q605 7 1)) (ci := 3) (C := RX6) (T := TX6) (N := 12) hx hb hwX6 hown hE hP 0 rfl rfl 1 (by decide) hk_fieldLink_RX6_37__BrideNotKnown_Valley___brideCount___I_ (fun _ h => h) rfl dX6_addBride_32 ?_
      refine lv_iload_n hx hb dX6_addBride_35 rfl (lv_at hl 3 rfl) ?_
      obtain ⟨q606, hq606, hf⟩ := bnd hf
      refine fc_callN (Wa' := (vW G a (sA q605 2 q606))) (st1 := []) (As := [.ref (a 3), .int (q605 7 1), .int x3]) (rest := []) hCF (k_X7_put (a 3) 8 (q605 2) (q605 7 1) x3 hq606) ⟨va_cnB 3 hts gX6_addBride_X7_put_n65 rfl rfl rfl (hE.2.1 _ (List.mem_of_getElem? (i := 7) rfl)) hk_initialized_RX7 dk_X7_put ⟨Nat.le_of_ble_eq_true rfl, Nat.le_of_ble_eq_true rfl⟩, hk_static_yX7_put, trivial⟩ hE hAB hP hD hS [3] rfl rfl rfl rfl rfl rfl hl.1 rfl (Nat.le_of_ble_eq_true rfl) dX6_addBride_36 ⟨Nat.le_refl _, Nat.le_refl _⟩ (fun H locs hP hD hS => ?_)
      refine lv_aload_n hx hb dX6_addBride_39 rfl (lv_at hl 0 rfl) ?_
      refine lv_dup hx hb dX6_addBride_40 rfl ?_
      refine fc_get (v := .int (q605 7 1)) (ci := 3) (C := RX6) (T := TX6) (N := 12) hx hb hwX6 hown hE hP 0 rfl rfl 1 (by decide) hk_fieldLink_RX6_37__BrideNotKnown_Valley___brideCount___I_ (fun _ h => h) rfl dX6_addBride_41 ?_
      refine lv_iconst (v := (1 : Int32)) hx hb dX6_addBride_44 (by decide) ?_
      refine lv_iadd hx hb dX6_addBride_45 ?_
      refine fc_put (Wa' := (vW G a (sA (sA q605 2 q606) 7 (upd (q605 7) 1 ((q605 7 1) + (1 : Int32)))))) (ci := 3) (C := RX6) (T := TX6) (N := 12) hx hb hwX6 tyX6 tyX6_ok nmX6 hown hE hP hD hS 0 rfl rfl 1 (by decide) hk_fieldLink_RX6_37__BrideNotKnown_Valley___brideCount___I_ (fun _ h => h) rfl rfl rfl (Nat.le_of_ble_eq_true rfl) dX6_addBride_46 rfl (fun H locs hP hD hS => ?_)
      refine lv_iconst (v := (1 : Int32)) hx hb dX6_addBride_49 (by decide) ?_
      exact fc_retz hx hb hr hlocks hP hS dX6_addBride_50 (by decide) (i2a hf) (congrArg (fun z => (vW G a z)) (i2b hf))
    · have hf := ifF hf c604
      refine lv_iconst (v := (0 : Int32)) hx hb dX6_addBride_15 (by decide) ?_
      exact fc_retz hx hb hr hlocks hP hS dX6_addBride_16 (by decide) (i2a hf) (congrArg (fun z => (vW G a z)) (i2b hf))
theorem dk_X6_setLook : yX6_setLook.cls ≠ "java/lang/invoke/MethodHandle" ∧ yX6_setLook.cls ≠ "java/lang/invoke/VarHandle" ∧ (parseMethodDescriptor yX6_setLook.desc).map (fun d => d.parameters.length) = some 2 := by decide +kernel
theorem iu_X6_setLook_X6 : ∀ w ∈ u_ws RX6 TX6 12, w ∈ wsX6_setLook := by decide +kernel
set_option maxHeartbeats 4000000 in
set_option maxRecDepth 100000 in
theorem k_X6_setLook {l : Launch} {G : Gx} (a : Nat → Nat) (v : St) (x1 : Int32) (x2 : Int32) {v' : St} (hf : f_X6_setLook v x1 x2 = some v') : FC l G yX6_setLook wsX6_setLook ({ frames := 1, cells := 0, slots := 0, locals := 22 } : Room) [.ref (a 0), .int x1, .int x2] (vW G a v) (vW G a v') none := by
  refine fc_head (cc := cX6_setLook) (maxL := 3) (ret := none) (C := RX6) (lv := [(0, .ref (a 0)), (1, .int x1), (2, .int x2)]) (by decide) rfl rfl (Nat.le_of_ble_eq_true rfl) rfl ?_
  intro p e s m below meth c ls A hx hb hr hml hown hts hlocks hE hP hD hAB hS hl
  have hCF : CallFix p m c cX6_setLook 3 s ([.ref (a 0), .int x1, .int x2] : List Value).toArray wsX6_setLook RX6 := ⟨hx, hb, hml, hown, hts⟩
  have hwX6 : ∀ w ∈ u_ws RX6 TX6 12, w.before ([.ref (a 0), .int x1, .int x2] : List Value).toArray s = true := fun w h => hts w (iu_X6_setLook_X6 w h)
  have hk_fieldLink_RX6_24__BrideNotKnown_Valley___lookBits____I_ := hts (.fieldLink RX6 24 "BrideNotKnown$Valley" "lookBits" "[I") (List.mem_of_getElem? (i := 1) rfl)
  have hk_initialized_RX7 := hts (.initialized RX7) (List.mem_of_getElem? (i := 3) rfl)
  have hk_static_yX7_put := hts (.static yX7_put) (List.mem_of_getElem? (i := 2) rfl)
  rw [f_X6_setLook] at hf
  refine lv_aload_n hx hb dX6_setLook_0 rfl (lv_at hl 0 rfl) ?_
  refine fc_get (v := .ref (a 5)) (ci := 3) (C := RX6) (T := TX6) (N := 12) hx hb hwX6 hown hE hP 0 rfl rfl 8 (by decide) hk_fieldLink_RX6_24__BrideNotKnown_Valley___lookBits____I_ (fun _ h => h) rfl dX6_setLook_1 ?_
  refine lv_iload_n hx hb dX6_setLook_4 rfl (lv_at hl 1 rfl) ?_
  refine lv_iload_n hx hb dX6_setLook_5 rfl (lv_at hl 2 rfl) ?_
  obtain ⟨q608, hq608, hf⟩ := bnd hf
  refine fc_callN (Wa' := (vW G a (sA v 4 q608))) (st1 := []) (As := [.ref (a 5), .int x1, .int x2]) (rest := []) hCF (k_X7_put (a 5) 5 (v 4) x1 x2 hq608) ⟨va_cnB 3 hts gX6_setLook_X7_put_n65 rfl rfl rfl (hE.2.1 _ (List.mem_of_getElem? (i := 7) rfl)) hk_initialized_RX7 dk_X7_put ⟨Nat.le_of_ble_eq_true rfl, Nat.le_of_ble_eq_true rfl⟩, hk_static_yX7_put, trivial⟩ hE hAB hP hD hS [5] rfl rfl rfl rfl rfl rfl hl.1 rfl (Nat.le_of_ble_eq_true rfl) dX6_setLook_6 ⟨Nat.le_refl _, Nat.le_refl _⟩ (fun H locs hP hD hS => ?_)
  exact fc_retv hx hb hr hlocks hP hS dX6_setLook_9 (congrArg (fun z => (vW G a z)) (i1 hf))
theorem dk_X6_setMind : yX6_setMind.cls ≠ "java/lang/invoke/MethodHandle" ∧ yX6_setMind.cls ≠ "java/lang/invoke/VarHandle" ∧ (parseMethodDescriptor yX6_setMind.desc).map (fun d => d.parameters.length) = some 2 := by decide +kernel
theorem iu_X6_setMind_X6 : ∀ w ∈ u_ws RX6 TX6 12, w ∈ wsX6_setMind := by decide +kernel
set_option maxHeartbeats 4000000 in
set_option maxRecDepth 100000 in
theorem k_X6_setMind {l : Launch} {G : Gx} (a : Nat → Nat) (v : St) (x1 : Int32) (x2 : Int32) {v' : St} (hf : f_X6_setMind v x1 x2 = some v') : FC l G yX6_setMind wsX6_setMind ({ frames := 1, cells := 0, slots := 0, locals := 22 } : Room) [.ref (a 0), .int x1, .int x2] (vW G a v) (vW G a v') none := by
  refine fc_head (cc := cX6_setMind) (maxL := 3) (ret := none) (C := RX6) (lv := [(0, .ref (a 0)), (1, .int x1), (2, .int x2)]) (by decide) rfl rfl (Nat.le_of_ble_eq_true rfl) rfl ?_
  intro p e s m below meth c ls A hx hb hr hml hown hts hlocks hE hP hD hAB hS hl
  have hCF : CallFix p m c cX6_setMind 3 s ([.ref (a 0), .int x1, .int x2] : List Value).toArray wsX6_setMind RX6 := ⟨hx, hb, hml, hown, hts⟩
  have hwX6 : ∀ w ∈ u_ws RX6 TX6 12, w.before ([.ref (a 0), .int x1, .int x2] : List Value).toArray s = true := fun w h => hts w (iu_X6_setMind_X6 w h)
  have hk_fieldLink_RX6_27__BrideNotKnown_Valley___mindFeet____I_ := hts (.fieldLink RX6 27 "BrideNotKnown$Valley" "mindFeet" "[I") (List.mem_of_getElem? (i := 1) rfl)
  have hk_initialized_RX7 := hts (.initialized RX7) (List.mem_of_getElem? (i := 3) rfl)
  have hk_static_yX7_put := hts (.static yX7_put) (List.mem_of_getElem? (i := 2) rfl)
  rw [f_X6_setMind] at hf
  refine lv_aload_n hx hb dX6_setMind_0 rfl (lv_at hl 0 rfl) ?_
  refine fc_get (v := .ref (a 6)) (ci := 3) (C := RX6) (T := TX6) (N := 12) hx hb hwX6 hown hE hP 0 rfl rfl 9 (by decide) hk_fieldLink_RX6_27__BrideNotKnown_Valley___mindFeet____I_ (fun _ h => h) rfl dX6_setMind_1 ?_
  refine lv_iload_n hx hb dX6_setMind_4 rfl (lv_at hl 1 rfl) ?_
  refine lv_iload_n hx hb dX6_setMind_5 rfl (lv_at hl 2 rfl) ?_
  obtain ⟨q610, hq610, hf⟩ := bnd hf
  refine fc_callN (Wa' := (vW G a (sA v 5 q610))) (st1 := []) (As := [.ref (a 6), .int x1, .int x2]) (rest := []) hCF (k_X7_put (a 6) 5 (v 5) x1 x2 hq610) ⟨va_cnB 3 hts gX6_setMind_X7_put_n65 rfl rfl rfl (hE.2.1 _ (List.mem_of_getElem? (i := 7) rfl)) hk_initialized_RX7 dk_X7_put ⟨Nat.le_of_ble_eq_true rfl, Nat.le_of_ble_eq_true rfl⟩, hk_static_yX7_put, trivial⟩ hE hAB hP hD hS [6] rfl rfl rfl rfl rfl rfl hl.1 rfl (Nat.le_of_ble_eq_true rfl) dX6_setMind_6 ⟨Nat.le_refl _, Nat.le_refl _⟩ (fun H locs hP hD hS => ?_)
  exact fc_retv hx hb hr hlocks hP hS dX6_setMind_9 (congrArg (fun z => (vW G a z)) (i1 hf))
theorem dk_X6_addGroom : yX6_addGroom.cls ≠ "java/lang/invoke/MethodHandle" ∧ yX6_addGroom.cls ≠ "java/lang/invoke/VarHandle" ∧ (parseMethodDescriptor yX6_addGroom.desc).map (fun d => d.parameters.length) = some 2 := by decide +kernel
theorem iu_X6_addGroom_X6 : ∀ w ∈ u_ws RX6 TX6 12, w ∈ wsX6_addGroom := by decide +kernel
set_option maxHeartbeats 4000000 in
set_option maxRecDepth 100000 in
theorem k_X6_addGroom {l : Launch} {G : Gx} (a : Nat → Nat) (v : St) (x1 : Int32) (x2 : Int32) {r : Int32} {v' : St} (hf : f_X6_addGroom v x1 x2 = some (r, v')) : FC l G yX6_addGroom wsX6_addGroom ({ frames := 2, cells := 0, slots := 0, locals := 44 } : Room) [.ref (a 0), .int x1, .int x2] (vW G a v) (vW G a v') (some (.int r)) := by
  refine fc_head (cc := cX6_addGroom) (maxL := 3) (ret := (some .boolean)) (C := RX6) (lv := [(0, .ref (a 0)), (1, .int x1), (2, .int x2)]) (by decide) rfl rfl (Nat.le_of_ble_eq_true rfl) rfl ?_
  intro p e s m below meth c ls A hx hb hr hml hown hts hlocks hE hP hD hAB hS hl
  have hCF : CallFix p m c cX6_addGroom 3 s ([.ref (a 0), .int x1, .int x2] : List Value).toArray wsX6_addGroom RX6 := ⟨hx, hb, hml, hown, hts⟩
  have hwX6 : ∀ w ∈ u_ws RX6 TX6 12, w.before ([.ref (a 0), .int x1, .int x2] : List Value).toArray s = true := fun w h => hts w (iu_X6_addGroom_X6 w h)
  have hk_fieldLink_RX6_47__BrideNotKnown_Valley___groomCount___I_ := hts (.fieldLink RX6 47 "BrideNotKnown$Valley" "groomCount" "I") (List.mem_of_getElem? (i := 1) rfl)
  rw [f_X6_addGroom] at hf
  refine lv_aload_n hx hb dX6_addGroom_0 rfl (lv_at hl 0 rfl) ?_
  refine fc_get (v := .int (v 7 3)) (ci := 3) (C := RX6) (T := TX6) (N := 12) hx hb hwX6 hown hE hP 0 rfl rfl 7 (by decide) hk_fieldLink_RX6_47__BrideNotKnown_Valley___groomCount___I_ (fun _ h => h) rfl dX6_addGroom_1 ?_
  refine lv_iconst (v := (5 : Int32)) hx hb dX6_addGroom_4 (by decide) ?_
  refine lv_icmp_ge (tgt := 20) hx hb dX6_addGroom_5 (by decide) (fun c613 => ?_) (fun c613 => ?_)
  · have hf := ifT hf c613
    refine lv_iconst (v := (0 : Int32)) hx hb dX6_addGroom_20 (by decide) ?_
    exact fc_retz hx hb hr hlocks hP hS dX6_addGroom_21 (by decide) (i2a hf) (congrArg (fun z => (vW G a z)) (i2b hf))
  · have hf := ifF hf c613
    refine lv_iload_n hx hb dX6_addGroom_8 rfl (lv_at hl 1 rfl) ?_
    refine lv_bipush (v := (63 : Int32)) hx hb dX6_addGroom_9 (by decide) ?_
    refine lv_icmp_gt (tgt := 20) hx hb dX6_addGroom_11 (by decide) (fun c614 => ?_) (fun c614 => ?_)
    · have hf := ifT hf c614
      refine lv_iconst (v := (0 : Int32)) hx hb dX6_addGroom_20 (by decide) ?_
      exact fc_retz hx hb hr hlocks hP hS dX6_addGroom_21 (by decide) (i2a hf) (congrArg (fun z => (vW G a z)) (i2b hf))
    · have hf := ifF hf c614
      refine lv_iload_n hx hb dX6_addGroom_14 rfl (lv_at hl 2 rfl) ?_
      refine lv_bipush (v := (63 : Int32)) hx hb dX6_addGroom_15 (by decide) ?_
      refine lv_icmp_le (tgt := 22) hx hb dX6_addGroom_17 (by decide) (fun c615 => ?_) (fun c615 => ?_)
      · have hf := ifT hf c615
        refine lv_aload_n hx hb dX6_addGroom_22 rfl (lv_at hl 0 rfl) ?_
        refine lv_aload_n hx hb dX6_addGroom_23 rfl (lv_at hl 0 rfl) ?_
        refine fc_get (v := .int (v 7 3)) (ci := 3) (C := RX6) (T := TX6) (N := 12) hx hb hwX6 hown hE hP 0 rfl rfl 7 (by decide) hk_fieldLink_RX6_47__BrideNotKnown_Valley___groomCount___I_ (fun _ h => h) rfl dX6_addGroom_24 ?_
        refine lv_iload_n hx hb dX6_addGroom_27 rfl (lv_at hl 1 rfl) ?_
        obtain ⟨q616, hq616, hf⟩ := bnd hf
        refine fc_callV (Wa' := (vW G a q616)) (st1 := []) (As := [.int (v 7 3), .int x1]) (rest := []) hCF (k_X6_setLook a v (v 7 3) x1 hq616) (cwV 2 hts gX6_addGroom_X6_setLook rfl rfl rfl ⟨rfl, dk_X6_setLook⟩ ⟨Nat.le_of_ble_eq_true rfl, Nat.le_of_ble_eq_true rfl⟩) hE hAB hP hD hS [0, 1, 2, 3, 4, 5, 6, 7] rfl rfl (va_recv hE.1 hP (ci := 3) (q0 := 0) rfl rfl) rfl rfl rfl rfl hl.1 rfl (Nat.le_of_ble_eq_true rfl) dX6_addGroom_28 ⟨Nat.le_refl _, Nat.le_refl _⟩ (fun H locs hP hD hS => ?_)
        refine lv_aload_n hx hb dX6_addGroom_31 rfl (lv_at hl 0 rfl) ?_
        refine lv_aload_n hx hb dX6_addGroom_32 rfl (lv_at hl 0 rfl) ?_
        refine fc_get (v := .int (q616 7 3)) (ci := 3) (C := RX6) (T := TX6) (N := 12) hx hb hwX6 hown hE hP 0 rfl rfl 7 (by decide) hk_fieldLink_RX6_47__BrideNotKnown_Valley___groomCount___I_ (fun _ h => h) rfl dX6_addGroom_33 ?_
        refine lv_iload_n hx hb dX6_addGroom_36 rfl (lv_at hl 2 rfl) ?_
        obtain ⟨q617, hq617, hf⟩ := bnd hf
        refine fc_callV (Wa' := (vW G a q617)) (st1 := []) (As := [.int (q616 7 3), .int x2]) (rest := []) hCF (k_X6_setMind a q616 (q616 7 3) x2 hq617) (cwV 2 hts gX6_addGroom_X6_setMind rfl rfl rfl ⟨rfl, dk_X6_setMind⟩ ⟨Nat.le_of_ble_eq_true rfl, Nat.le_of_ble_eq_true rfl⟩) hE hAB hP hD hS [0, 1, 2, 3, 4, 5, 6, 7] rfl rfl (va_recv hE.1 hP (ci := 3) (q0 := 0) rfl rfl) rfl rfl rfl rfl hl.1 rfl (Nat.le_of_ble_eq_true rfl) dX6_addGroom_37 ⟨Nat.le_refl _, Nat.le_refl _⟩ (fun H locs hP hD hS => ?_)
        refine lv_aload_n hx hb dX6_addGroom_40 rfl (lv_at hl 0 rfl) ?_
        refine lv_dup hx hb dX6_addGroom_41 rfl ?_
        refine fc_get (v := .int (q617 7 3)) (ci := 3) (C := RX6) (T := TX6) (N := 12) hx hb hwX6 hown hE hP 0 rfl rfl 7 (by decide) hk_fieldLink_RX6_47__BrideNotKnown_Valley___groomCount___I_ (fun _ h => h) rfl dX6_addGroom_42 ?_
        refine lv_iconst (v := (1 : Int32)) hx hb dX6_addGroom_45 (by decide) ?_
        refine lv_iadd hx hb dX6_addGroom_46 ?_
        refine fc_put (Wa' := (vW G a (sA q617 7 (upd (q617 7) 3 ((q617 7 3) + (1 : Int32)))))) (ci := 3) (C := RX6) (T := TX6) (N := 12) hx hb hwX6 tyX6 tyX6_ok nmX6 hown hE hP hD hS 0 rfl rfl 7 (by decide) hk_fieldLink_RX6_47__BrideNotKnown_Valley___groomCount___I_ (fun _ h => h) rfl rfl rfl (Nat.le_of_ble_eq_true rfl) dX6_addGroom_47 rfl (fun H locs hP hD hS => ?_)
        refine lv_iconst (v := (1 : Int32)) hx hb dX6_addGroom_50 (by decide) ?_
        exact fc_retz hx hb hr hlocks hP hS dX6_addGroom_51 (by decide) (i2a hf) (congrArg (fun z => (vW G a z)) (i2b hf))
      · have hf := ifF hf c615
        refine lv_iconst (v := (0 : Int32)) hx hb dX6_addGroom_20 (by decide) ?_
        exact fc_retz hx hb hr hlocks hP hS dX6_addGroom_21 (by decide) (i2a hf) (congrArg (fun z => (vW G a z)) (i2b hf))
theorem dk_X6_allLiquor : yX6_allLiquor.cls ≠ "java/lang/invoke/MethodHandle" ∧ yX6_allLiquor.cls ≠ "java/lang/invoke/VarHandle" ∧ (parseMethodDescriptor yX6_allLiquor.desc).map (fun d => d.parameters.length) = some 0 := by decide +kernel
theorem iu_X6_allLiquor_X6 : ∀ w ∈ u_ws RX6 TX6 12, w ∈ wsX6_allLiquor := by decide +kernel
set_option maxHeartbeats 4000000 in
set_option maxRecDepth 100000 in
theorem k_X6_allLiquor {l : Launch} {G : Gx} (a : Nat → Nat) (v : St) {r : Int32} (hf : f_X6_allLiquor v = some r) : FC l G yX6_allLiquor wsX6_allLiquor ({ frames := 2, cells := 0, slots := 0, locals := 42 } : Room) [.ref (a 0)] (vW G a v) (vW G a v) (some (.int r)) := by
  refine fc_head (cc := cX6_allLiquor) (maxL := 3) (ret := (some .int)) (C := RX6) (lv := [(0, .ref (a 0))]) (by decide) rfl rfl (Nat.le_of_ble_eq_true rfl) rfl ?_
  intro p e s m below meth c ls A hx hb hr hml hown hts hlocks hE hP hD hAB hS hl
  have hCF : CallFix p m c cX6_allLiquor 3 s ([.ref (a 0)] : List Value).toArray wsX6_allLiquor RX6 := ⟨hx, hb, hml, hown, hts⟩
  have hwX6 : ∀ w ∈ u_ws RX6 TX6 12, w.before ([.ref (a 0)] : List Value).toArray s = true := fun w h => hts w (iu_X6_allLiquor_X6 w h)
  have hk_fieldLink_RX6_47__BrideNotKnown_Valley___groomCount___I_ := hts (.fieldLink RX6 47 "BrideNotKnown$Valley" "groomCount" "I") (List.mem_of_getElem? (i := 1) rfl)
  rw [f_X6_allLiquor] at hf
  refine lv_iconst (v := (0 : Int32)) hx hb dX6_allLiquor_0 (by decide) ?_
  refine lv_istore_n (lv' := [(1, .int (0 : Int32)), (0, .ref (a 0))]) hx hb dX6_allLiquor_1 rfl hl (by decide) rfl (fun ls hl => ?_)
  refine lv_iconst (v := (0 : Int32)) hx hb dX6_allLiquor_2 (by decide) ?_
  refine lv_istore_n (lv' := [(2, .int (0 : Int32)), (1, .int (0 : Int32)), (0, .ref (a 0))]) hx hb dX6_allLiquor_3 rfl hl (by decide) rfl (fun ls hl => ?_)
  have L4_621 : ∀ (n : Nat) (x1_619 : Int32) (x2_620 : Int32) (H : Heap) (locs : List Loc) (ls : Array Slot), va_P (gD G) vwCl (vW G a v) H → va_D A (vW G a v) → va_S A s.heap H locs → lv_has ls 3 [(0, .ref (a 0)), (1, .int x1_619), (2, .int x2_620)] → f_X6_allLiquor_4 v n x1_619 x2_620 = some r → W p l e (headSpec wsX6_allLiquor ({ frames := 2, cells := 0, slots := 0, locals := 42 } : Room)).room s m ([.ref (a 0)] : List Value).toArray below meth c H locs 0 0 (MQ below (FQ G A (vW G a v) (some (.int r))) ([.ref (a 0)] : List Value).toArray s 0 0 A) (F0 m 4 ls []) := by
    intro n
    induction n with
    | zero =>
      intro x1_619 x2_620 H locs ls hP hD hS hl hf
      exact no_some hf
    | succ n ih =>
      intro x1_619 x2_620 H locs ls hP hD hS hl hf
      rw [f_X6_allLiquor_4] at hf
      refine lv_iload_n hx hb dX6_allLiquor_4 rfl (lv_at hl 2 rfl) ?_
      refine lv_aload_n hx hb dX6_allLiquor_5 rfl (lv_at hl 0 rfl) ?_
      refine fc_get (v := .int (v 7 3)) (ci := 3) (C := RX6) (T := TX6) (N := 12) hx hb hwX6 hown hE hP 0 rfl rfl 7 (by decide) hk_fieldLink_RX6_47__BrideNotKnown_Valley___groomCount___I_ (fun _ h => h) rfl dX6_allLiquor_6 ?_
      refine lv_icmp_ge (tgt := 26) hx hb dX6_allLiquor_9 (by decide) (fun c622 => ?_) (fun c622 => ?_)
      · have hf := ifT hf c622
        refine lv_iload_n hx hb dX6_allLiquor_26 rfl (lv_at hl 1 rfl) ?_
        exact fc_reti hx hb hr hlocks hP hS dX6_allLiquor_27 (i1 hf) rfl
      · have hf := ifF hf c622
        refine lv_iload_n hx hb dX6_allLiquor_12 rfl (lv_at hl 1 rfl) ?_
        refine lv_aload_n hx hb dX6_allLiquor_13 rfl (lv_at hl 0 rfl) ?_
        refine lv_iload_n hx hb dX6_allLiquor_14 rfl (lv_at hl 2 rfl) ?_
        obtain ⟨q623, hq623, hf⟩ := bnd hf
        refine fc_callV (Wa' := (vW G a v)) (st1 := [.int q623, .int x1_619]) (As := [.int x2_620]) (rest := [.int x1_619]) hCF (k_X6_liquorOf a v x2_620 hq623) (cwV 1 hts gX6_allLiquor_X6_liquorOf rfl rfl rfl ⟨rfl, dk_X6_liquorOf⟩ ⟨Nat.le_of_ble_eq_true rfl, Nat.le_of_ble_eq_true rfl⟩) hE hAB hP hD hS [0, 1, 2, 3, 4, 5, 6, 7] rfl rfl (va_recv hE.1 hP (ci := 3) (q0 := 0) rfl rfl) rfl rfl rfl rfl hl.1 rfl (Nat.le_of_ble_eq_true rfl) dX6_allLiquor_15 ⟨Nat.le_refl _, Nat.le_refl _⟩ (fun H locs hP hD hS => ?_)
        refine lv_iadd hx hb dX6_allLiquor_18 ?_
        refine lv_istore_n (lv' := [(1, .int (x1_619 + q623)), (0, .ref (a 0)), (2, .int x2_620)]) hx hb dX6_allLiquor_19 rfl hl (by decide) rfl (fun ls hl => ?_)
        refine lv_iinc (v := (x2_620 + (1 : Int32))) (lv' := [(2, .int (x2_620 + (1 : Int32))), (1, .int (x1_619 + q623)), (0, .ref (a 0))]) hx hb dX6_allLiquor_20 hl (k := 2) rfl rfl (by decide) rfl (fun ls hl => ?_)
        refine lv_goto (tgt := 4) hx hb dX6_allLiquor_23 (by decide) ?_
        exact ih (x1_619 + q623) (x2_620 + (1 : Int32)) _ _ _ hP hD hS (lv_sub hl [2, 1, 0] rfl) hf
  exact L4_621 FUEL (0 : Int32) (0 : Int32) _ _ _ hP hD hS (lv_sub hl [2, 1, 0] rfl) hf
theorem dk_X6_canWed : yX6_canWed.cls ≠ "java/lang/invoke/MethodHandle" ∧ yX6_canWed.cls ≠ "java/lang/invoke/VarHandle" ∧ (parseMethodDescriptor yX6_canWed.desc).map (fun d => d.parameters.length) = some 1 := by decide +kernel
set_option maxHeartbeats 4000000 in
set_option maxRecDepth 100000 in
theorem k_X6_canWed {l : Launch} {G : Gx} (a : Nat → Nat) (v : St) (x1 : Int32) {r : Int32} (hf : f_X6_canWed v x1 = some r) : FC l G yX6_canWed wsX6_canWed ({ frames := 2, cells := 0, slots := 0, locals := 44 } : Room) [.ref (a 0), .int x1] (vW G a v) (vW G a v) (some (.int r)) := by
  refine fc_head (cc := cX6_canWed) (maxL := 2) (ret := (some .boolean)) (C := RX6) (lv := [(0, .ref (a 0)), (1, .int x1)]) (by decide) rfl rfl (Nat.le_of_ble_eq_true rfl) rfl ?_
  intro p e s m below meth c ls A hx hb hr hml hown hts hlocks hE hP hD hAB hS hl
  have hCF : CallFix p m c cX6_canWed 2 s ([.ref (a 0), .int x1] : List Value).toArray wsX6_canWed RX6 := ⟨hx, hb, hml, hown, hts⟩
  rw [f_X6_canWed] at hf
  refine lv_aload_n hx hb dX6_canWed_0 rfl (lv_at hl 0 rfl) ?_
  refine lv_iload_n hx hb dX6_canWed_1 rfl (lv_at hl 1 rfl) ?_
  obtain ⟨q627, hq627, hf⟩ := bnd hf
  refine fc_callV (Wa' := (vW G a v)) (st1 := [.int q627]) (As := [.int x1]) (rest := []) hCF (k_X6_hasGroom a v x1 hq627) (cwV 1 hts gX6_canWed_X6_hasGroom rfl rfl rfl ⟨rfl, dk_X6_hasGroom⟩ ⟨Nat.le_of_ble_eq_true rfl, Nat.le_of_ble_eq_true rfl⟩) hE hAB hP hD hS [0, 1, 2, 3, 4, 5, 6, 7] rfl rfl (va_recv hE.1 hP (ci := 3) (q0 := 0) rfl rfl) rfl rfl rfl rfl hl.1 rfl (Nat.le_of_ble_eq_true rfl) dX6_canWed_2 ⟨Nat.le_refl _, Nat.le_refl _⟩ (fun H locs hP hD hS => ?_)
  refine lv_if_eq (tgt := 28) hx hb dX6_canWed_5 (by decide) (fun c628 => ?_) (fun c628 => ?_)
  · have hf := ifT hf c628
    refine lv_iconst (v := (0 : Int32)) hx hb dX6_canWed_28 (by decide) ?_
    exact fc_retz hx hb hr hlocks hP hS dX6_canWed_29 (by decide) (i1 hf) rfl
  · have hf := ifF hf c628
    refine lv_aload_n hx hb dX6_canWed_8 rfl (lv_at hl 0 rfl) ?_
    refine lv_iload_n hx hb dX6_canWed_9 rfl (lv_at hl 1 rfl) ?_
    obtain ⟨q629, hq629, hf⟩ := bnd hf
    refine fc_callV (Wa' := (vW G a v)) (st1 := [.int q629]) (As := [.int x1]) (rest := []) hCF (k_X6_isUnmarried a v x1 hq629) (cwV 1 hts gX6_canWed_X6_isUnmarried rfl rfl rfl ⟨rfl, dk_X6_isUnmarried⟩ ⟨Nat.le_of_ble_eq_true rfl, Nat.le_of_ble_eq_true rfl⟩) hE hAB hP hD hS [0, 1, 2, 3, 4, 5, 6, 7] rfl rfl (va_recv hE.1 hP (ci := 3) (q0 := 0) rfl rfl) rfl rfl rfl rfl hl.1 rfl (Nat.le_of_ble_eq_true rfl) dX6_canWed_10 ⟨Nat.le_refl _, Nat.le_refl _⟩ (fun H locs hP hD hS => ?_)
    refine lv_if_eq (tgt := 28) hx hb dX6_canWed_13 (by decide) (fun c630 => ?_) (fun c630 => ?_)
    · have hf := ifT hf c630
      refine lv_iconst (v := (0 : Int32)) hx hb dX6_canWed_28 (by decide) ?_
      exact fc_retz hx hb hr hlocks hP hS dX6_canWed_29 (by decide) (i1 hf) rfl
    · have hf := ifF hf c630
      refine lv_aload_n hx hb dX6_canWed_16 rfl (lv_at hl 0 rfl) ?_
      refine lv_iconst (v := (0 : Int32)) hx hb dX6_canWed_17 (by decide) ?_
      obtain ⟨q631, hq631, hf⟩ := bnd hf
      refine fc_callV (Wa' := (vW G a v)) (st1 := [.int q631]) (As := [.int (0 : Int32)]) (rest := []) hCF (k_X6_hereThen a v (0 : Int32) hq631) (cwV 1 hts gX6_canWed_X6_hereThen rfl rfl rfl ⟨rfl, dk_X6_hereThen⟩ ⟨Nat.le_of_ble_eq_true rfl, Nat.le_of_ble_eq_true rfl⟩) hE hAB hP hD hS [0, 1, 2, 3, 4, 5, 6, 7] rfl rfl (va_recv hE.1 hP (ci := 3) (q0 := 0) rfl rfl) rfl rfl rfl rfl hl.1 rfl (Nat.le_of_ble_eq_true rfl) dX6_canWed_18 ⟨Nat.le_refl _, Nat.le_refl _⟩ (fun H locs hP hD hS => ?_)
      refine lv_if_eq (tgt := 28) hx hb dX6_canWed_21 (by decide) (fun c632 => ?_) (fun c632 => ?_)
      · have hf := ifT hf c632
        refine lv_iconst (v := (0 : Int32)) hx hb dX6_canWed_28 (by decide) ?_
        exact fc_retz hx hb hr hlocks hP hS dX6_canWed_29 (by decide) (i1 hf) rfl
      · have hf := ifF hf c632
        refine lv_iconst (v := (1 : Int32)) hx hb dX6_canWed_24 (by decide) ?_
        refine lv_goto (tgt := 29) hx hb dX6_canWed_25 (by decide) ?_
        exact fc_retz hx hb hr hlocks hP hS dX6_canWed_29 (by decide) (i1 hf) rfl
theorem dk_X6_nextSeed : yX6_nextSeed.cls ≠ "java/lang/invoke/MethodHandle" ∧ yX6_nextSeed.cls ≠ "java/lang/invoke/VarHandle" ∧ (parseMethodDescriptor yX6_nextSeed.desc).map (fun d => d.parameters.length) = some 1 := by decide +kernel
set_option maxHeartbeats 4000000 in
set_option maxRecDepth 100000 in
theorem k_X6_nextSeed {l : Launch} {G : Gx} (x0 : Int32) {r : Int32} (hf : f_X6_nextSeed x0 = some r) : FC l G yX6_nextSeed wsX6_nextSeed ({ frames := 0, cells := 0, slots := 0, locals := 0 } : Room) [.int x0] ([] : va_W) ([] : va_W) (some (.int r)) := by
  refine fc_head (cc := cX6_nextSeed) (maxL := 1) (ret := (some .int)) (C := RX6) (lv := [(0, .int x0)]) (by decide) rfl rfl (Nat.le_of_ble_eq_true rfl) rfl ?_
  intro p e s m below meth c ls A hx hb hr hml hown hts hlocks hE hP hD hAB hS hl
  have hCF : CallFix p m c cX6_nextSeed 1 s ([.int x0] : List Value).toArray wsX6_nextSeed RX6 := ⟨hx, hb, hml, hown, hts⟩
  have hk_constant_RX6_157__1664525_ := hts (.constant RX6 157 (1664525)) (List.mem_of_getElem? (i := 1) rfl)
  have hk_constant_RX6_158__1013904223_ := hts (.constant RX6 158 (1013904223)) (List.mem_of_getElem? (i := 2) rfl)
  rw [f_X6_nextSeed] at hf
  refine lv_iload_n hx hb dX6_nextSeed_0 rfl (lv_at hl 0 rfl) ?_
  refine lv_ldc (v := (1664525 : Int32)) hx hb hown hk_constant_RX6_157__1664525_ dX6_nextSeed_1 ?_
  refine lv_imul hx hb dX6_nextSeed_3 ?_
  refine lv_ldc (v := (1013904223 : Int32)) hx hb hown hk_constant_RX6_158__1013904223_ dX6_nextSeed_4 ?_
  refine lv_iadd hx hb dX6_nextSeed_6 ?_
  exact fc_reti hx hb hr hlocks hP hS dX6_nextSeed_7 (i1 hf) rfl
theorem dk_X6_drawnFoot : yX6_drawnFoot.cls ≠ "java/lang/invoke/MethodHandle" ∧ yX6_drawnFoot.cls ≠ "java/lang/invoke/VarHandle" ∧ (parseMethodDescriptor yX6_drawnFoot.desc).map (fun d => d.parameters.length) = some 1 := by decide +kernel
set_option maxHeartbeats 4000000 in
set_option maxRecDepth 100000 in
theorem k_X6_drawnFoot {l : Launch} {G : Gx} (x0 : Int32) {r : Int32} (hf : f_X6_drawnFoot x0 = some r) : FC l G yX6_drawnFoot wsX6_drawnFoot ({ frames := 0, cells := 0, slots := 0, locals := 0 } : Room) [.int x0] ([] : va_W) ([] : va_W) (some (.int r)) := by
  refine fc_head (cc := cX6_drawnFoot) (maxL := 1) (ret := (some .int)) (C := RX6) (lv := [(0, .int x0)]) (by decide) rfl rfl (Nat.le_of_ble_eq_true rfl) rfl ?_
  intro p e s m below meth c ls A hx hb hr hml hown hts hlocks hE hP hD hAB hS hl
  have hCF : CallFix p m c cX6_drawnFoot 1 s ([.int x0] : List Value).toArray wsX6_drawnFoot RX6 := ⟨hx, hb, hml, hown, hts⟩
  have hk_constant_RX6_159__2147483647_ := hts (.constant RX6 159 (2147483647)) (List.mem_of_getElem? (i := 1) rfl)
  rw [f_X6_drawnFoot] at hf
  refine lv_iload_n hx hb dX6_drawnFoot_0 rfl (lv_at hl 0 rfl) ?_
  refine lv_ldc (v := (2147483647 : Int32)) hx hb hown hk_constant_RX6_159__2147483647_ dX6_drawnFoot_1 ?_
  refine lv_iand hx hb dX6_drawnFoot_3 ?_
  refine lv_sipush (v := (256 : Int32)) hx hb dX6_drawnFoot_4 (by decide) ?_
  refine lv_idiv hx hb dX6_drawnFoot_7 (by decide) ?_
  refine lv_bipush (v := (64 : Int32)) hx hb dX6_drawnFoot_8 (by decide) ?_
  refine lv_irem hx hb dX6_drawnFoot_10 (by decide) ?_
  exact fc_reti hx hb hr hlocks hP hS dX6_drawnFoot_11 (i1 hf) rfl
theorem dk_X6_drawFeetAndMinds : yX6_drawFeetAndMinds.cls ≠ "java/lang/invoke/MethodHandle" ∧ yX6_drawFeetAndMinds.cls ≠ "java/lang/invoke/VarHandle" ∧ (parseMethodDescriptor yX6_drawFeetAndMinds.desc).map (fun d => d.parameters.length) = some 1 := by decide +kernel
theorem iu_X6_drawFeetAndMinds_X6 : ∀ w ∈ u_ws RX6 TX6 12, w ∈ wsX6_drawFeetAndMinds := by decide +kernel
set_option maxHeartbeats 4000000 in
set_option maxRecDepth 100000 in
theorem k_X6_drawFeetAndMinds {l : Launch} {G : Gx} (a : Nat → Nat) (v : St) (x1 : Int32) {r : Int32} {v' : St} (hf : f_X6_drawFeetAndMinds v x1 = some (r, v')) : FC l G yX6_drawFeetAndMinds wsX6_drawFeetAndMinds ({ frames := 2, cells := 0, slots := 0, locals := 44 } : Room) [.ref (a 0), .int x1] (vW G a v) (vW G a v') (some (.int r)) := by
  refine fc_head (cc := cX6_drawFeetAndMinds) (maxL := 4) (ret := (some .int)) (C := RX6) (lv := [(0, .ref (a 0)), (1, .int x1)]) (by decide) rfl rfl (Nat.le_of_ble_eq_true rfl) rfl ?_
  intro p e s m below meth c ls A hx hb hr hml hown hts hlocks hE hP hD hAB hS hl
  have hCF : CallFix p m c cX6_drawFeetAndMinds 4 s ([.ref (a 0), .int x1] : List Value).toArray wsX6_drawFeetAndMinds RX6 := ⟨hx, hb, hml, hown, hts⟩
  have hwX6 : ∀ w ∈ u_ws RX6 TX6 12, w.before ([.ref (a 0), .int x1] : List Value).toArray s = true := fun w h => hts w (iu_X6_drawFeetAndMinds_X6 w h)
  have hk_fieldLink_RX6_37__BrideNotKnown_Valley___brideCount___I_ := hts (.fieldLink RX6 37 "BrideNotKnown$Valley" "brideCount" "I") (List.mem_of_getElem? (i := 1) rfl)
  have hk_fieldLink_RX6_18__BrideNotKnown_Valley___feet____I_ := hts (.fieldLink RX6 18 "BrideNotKnown$Valley" "feet" "[I") (List.mem_of_getElem? (i := 2) rfl)
  have hk_initialized_RX7 := hts (.initialized RX7) (List.mem_of_getElem? (i := 15) rfl)
  have hk_static_yX7_put := hts (.static yX7_put) (List.mem_of_getElem? (i := 14) rfl)
  have hk_fieldLink_RX6_47__BrideNotKnown_Valley___groomCount___I_ := hts (.fieldLink RX6 47 "BrideNotKnown$Valley" "groomCount" "I") (List.mem_of_getElem? (i := 3) rfl)
  rw [f_X6_drawFeetAndMinds] at hf
  refine lv_iload_n hx hb dX6_drawFeetAndMinds_0 rfl (lv_at hl 1 rfl) ?_
  refine lv_istore_n (lv' := [(2, .int x1), (0, .ref (a 0)), (1, .int x1)]) hx hb dX6_drawFeetAndMinds_1 rfl hl (by decide) rfl (fun ls hl => ?_)
  refine lv_iconst (v := (0 : Int32)) hx hb dX6_drawFeetAndMinds_2 (by decide) ?_
  refine lv_istore_n (lv' := [(3, .int (0 : Int32)), (2, .int x1), (0, .ref (a 0)), (1, .int x1)]) hx hb dX6_drawFeetAndMinds_3 rfl hl (by decide) rfl (fun ls hl => ?_)
  have L4_644 : ∀ (K4_35 : Int32 → St → Option (Int32 × St)) (hK4_35 : ∀ (x2_645 : Int32) (v_646 : St) (H : Heap) (locs : List Loc) (ls : Array Slot), va_P (gD G) vwCl (vW G a v_646) H → va_D A (vW G a v_646) → va_S A s.heap H locs → lv_has ls 4 [(0, .ref (a 0)), (2, .int x2_645)] → K4_35 x2_645 v_646 = some (r, v') → W p l e (headSpec wsX6_drawFeetAndMinds ({ frames := 2, cells := 0, slots := 0, locals := 44 } : Room)).room s m ([.ref (a 0), .int x1] : List Value).toArray below meth c H locs 0 0 (MQ below (FQ G A (vW G a v') (some (.int r))) ([.ref (a 0), .int x1] : List Value).toArray s 0 0 A) (F0 m 35 ls [])) (n : Nat) (x2_641 : Int32) (x3_642 : Int32) (v_643 : St) (H : Heap) (locs : List Loc) (ls : Array Slot), va_P (gD G) vwCl (vW G a v_643) H → va_D A (vW G a v_643) → va_S A s.heap H locs → lv_has ls 4 [(0, .ref (a 0)), (2, .int x2_641), (3, .int x3_642)] → f_X6_drawFeetAndMinds_4 n x2_641 x3_642 v_643 K4_35 = some (r, v') → W p l e (headSpec wsX6_drawFeetAndMinds ({ frames := 2, cells := 0, slots := 0, locals := 44 } : Room)).room s m ([.ref (a 0), .int x1] : List Value).toArray below meth c H locs 0 0 (MQ below (FQ G A (vW G a v') (some (.int r))) ([.ref (a 0), .int x1] : List Value).toArray s 0 0 A) (F0 m 4 ls []) := by
    intro K4_35 hK4_35 n
    induction n with
    | zero =>
      intro x2_641 x3_642 v_643 H locs ls hP hD hS hl hf
      exact no_some hf
    | succ n ih =>
      intro x2_641 x3_642 v_643 H locs ls hP hD hS hl hf
      rw [f_X6_drawFeetAndMinds_4] at hf
      refine lv_iload_n hx hb dX6_drawFeetAndMinds_4 rfl (lv_at hl 2 rfl) ?_
      refine lv_aload_n hx hb dX6_drawFeetAndMinds_5 rfl (lv_at hl 0 rfl) ?_
      refine fc_get (v := .int (v_643 7 1)) (ci := 3) (C := RX6) (T := TX6) (N := 12) hx hb hwX6 hown hE hP 0 rfl rfl 1 (by decide) hk_fieldLink_RX6_37__BrideNotKnown_Valley___brideCount___I_ (fun _ h => h) rfl dX6_drawFeetAndMinds_6 ?_
      refine lv_icmp_ge (tgt := 35) hx hb dX6_drawFeetAndMinds_9 (by decide) (fun c647 => ?_) (fun c647 => ?_)
      · have hf := ifT hf c647
        exact hK4_35 x2_641 v_643 _ _ _ hP hD hS (lv_sub hl [0, 1] rfl) hf
      · have hf := ifF hf c647
        refine lv_iload_n hx hb dX6_drawFeetAndMinds_12 rfl (lv_at hl 1 rfl) ?_
        obtain ⟨q648, hq648, hf⟩ := bnd hf
        refine fc_callS (Wa' := (vW G a v_643)) (st1 := [.int q648]) (As := [.int x2_641]) (rest := []) hCF (k_X6_nextSeed x2_641 hq648) (va_cwS 1 hts gX6_drawFeetAndMinds_X6_nextSeed rfl rfl rfl dk_X6_nextSeed ⟨Nat.le_of_ble_eq_true rfl, Nat.le_of_ble_eq_true rfl⟩) hE hAB hP hD hS [] rfl rfl rfl rfl rfl rfl hl.1 rfl (Nat.le_of_ble_eq_true rfl) dX6_drawFeetAndMinds_13 ⟨Nat.le_refl _, Nat.le_refl _⟩ (fun H locs hP hD hS => ?_)
        refine lv_istore_n (lv' := [(2, .int q648), (0, .ref (a 0)), (3, .int x3_642)]) hx hb dX6_drawFeetAndMinds_16 rfl hl (by decide) rfl (fun ls hl => ?_)
        refine lv_aload_n hx hb dX6_drawFeetAndMinds_17 rfl (lv_at hl 1 rfl) ?_
        refine fc_get (v := .ref (a 3)) (ci := 3) (C := RX6) (T := TX6) (N := 12) hx hb hwX6 hown hE hP 0 rfl rfl 4 (by decide) hk_fieldLink_RX6_18__BrideNotKnown_Valley___feet____I_ (fun _ h => h) rfl dX6_drawFeetAndMinds_18 ?_
        refine lv_iload_n hx hb dX6_drawFeetAndMinds_21 rfl (lv_at hl 2 rfl) ?_
        refine lv_iload_n hx hb dX6_drawFeetAndMinds_22 rfl (lv_at hl 0 rfl) ?_
        obtain ⟨q649, hq649, hf⟩ := bnd hf
        refine fc_callS (Wa' := (vW G a v_643)) (st1 := [.int q649, .int x3_642, .ref (a 3)]) (As := [.int q648]) (rest := [.int x3_642, .ref (a 3)]) hCF (k_X6_drawnFoot q648 hq649) (va_cwS 1 hts gX6_drawFeetAndMinds_X6_drawnFoot rfl rfl rfl dk_X6_drawnFoot ⟨Nat.le_of_ble_eq_true rfl, Nat.le_of_ble_eq_true rfl⟩) hE hAB hP hD hS [] rfl rfl rfl rfl rfl rfl hl.1 rfl (Nat.le_of_ble_eq_true rfl) dX6_drawFeetAndMinds_23 ⟨Nat.le_refl _, Nat.le_refl _⟩ (fun H locs hP hD hS => ?_)
        obtain ⟨q650, hq650, hf⟩ := bnd hf
        refine fc_callN (Wa' := (vW G a (sA v_643 2 q650))) (st1 := []) (As := [.ref (a 3), .int x3_642, .int q649]) (rest := []) hCF (k_X7_put (a 3) 8 (v_643 2) x3_642 q649 hq650) ⟨va_cnB 3 hts gX6_drawFeetAndMinds_X7_put_n65 rfl rfl rfl (hE.2.1 _ (List.mem_of_getElem? (i := 7) rfl)) hk_initialized_RX7 dk_X7_put ⟨Nat.le_of_ble_eq_true rfl, Nat.le_of_ble_eq_true rfl⟩, hk_static_yX7_put, trivial⟩ hE hAB hP hD hS [3] rfl rfl rfl rfl rfl rfl hl.1 rfl (Nat.le_of_ble_eq_true rfl) dX6_drawFeetAndMinds_26 ⟨Nat.le_refl _, Nat.le_refl _⟩ (fun H locs hP hD hS => ?_)
        refine lv_iinc (v := (x3_642 + (1 : Int32))) (lv' := [(3, .int (x3_642 + (1 : Int32))), (2, .int q648), (0, .ref (a 0))]) hx hb dX6_drawFeetAndMinds_29 hl (k := 2) rfl rfl (by decide) rfl (fun ls hl => ?_)
        refine lv_goto (tgt := 4) hx hb dX6_drawFeetAndMinds_32 (by decide) ?_
        exact ih q648 (x3_642 + (1 : Int32)) (sA v_643 2 q650) _ _ _ hP hD hS (lv_sub hl [2, 1, 0] rfl) hf
  refine L4_644 _ ?_ FUEL x1 (0 : Int32) v _ _ _ hP hD hS (lv_sub hl [2, 1, 0] rfl) hf
  intro x2_651 v_652 H locs ls hP hD hS hl hf
  refine lv_iconst (v := (0 : Int32)) hx hb dX6_drawFeetAndMinds_35 (by decide) ?_
  refine lv_istore_n (lv' := [(3, .int (0 : Int32)), (0, .ref (a 0)), (2, .int x2_651)]) hx hb dX6_drawFeetAndMinds_36 rfl hl (by decide) rfl (fun ls hl => ?_)
  have L37_656 : ∀ (n : Nat) (x2_653 : Int32) (x3_654 : Int32) (v_655 : St) (H : Heap) (locs : List Loc) (ls : Array Slot), va_P (gD G) vwCl (vW G a v_655) H → va_D A (vW G a v_655) → va_S A s.heap H locs → lv_has ls 4 [(0, .ref (a 0)), (2, .int x2_653), (3, .int x3_654)] → f_X6_drawFeetAndMinds_37 n x2_653 x3_654 v_655 = some (r, v') → W p l e (headSpec wsX6_drawFeetAndMinds ({ frames := 2, cells := 0, slots := 0, locals := 44 } : Room)).room s m ([.ref (a 0), .int x1] : List Value).toArray below meth c H locs 0 0 (MQ below (FQ G A (vW G a v') (some (.int r))) ([.ref (a 0), .int x1] : List Value).toArray s 0 0 A) (F0 m 37 ls []) := by
    intro n
    induction n with
    | zero =>
      intro x2_653 x3_654 v_655 H locs ls hP hD hS hl hf
      exact no_some hf
    | succ n ih =>
      intro x2_653 x3_654 v_655 H locs ls hP hD hS hl hf
      rw [f_X6_drawFeetAndMinds_37] at hf
      refine lv_iload_n hx hb dX6_drawFeetAndMinds_37 rfl (lv_at hl 2 rfl) ?_
      refine lv_aload_n hx hb dX6_drawFeetAndMinds_38 rfl (lv_at hl 0 rfl) ?_
      refine fc_get (v := .int (v_655 7 3)) (ci := 3) (C := RX6) (T := TX6) (N := 12) hx hb hwX6 hown hE hP 0 rfl rfl 7 (by decide) hk_fieldLink_RX6_47__BrideNotKnown_Valley___groomCount___I_ (fun _ h => h) rfl dX6_drawFeetAndMinds_39 ?_
      refine lv_icmp_ge (tgt := 65) hx hb dX6_drawFeetAndMinds_42 (by decide) (fun c657 => ?_) (fun c657 => ?_)
      · have hf := ifT hf c657
        refine lv_iload_n hx hb dX6_drawFeetAndMinds_65 rfl (lv_at hl 1 rfl) ?_
        exact fc_reti hx hb hr hlocks hP hS dX6_drawFeetAndMinds_66 (i2a hf) (congrArg (fun z => (vW G a z)) (i2b hf))
      · have hf := ifF hf c657
        refine lv_iload_n hx hb dX6_drawFeetAndMinds_45 rfl (lv_at hl 1 rfl) ?_
        obtain ⟨q658, hq658, hf⟩ := bnd hf
        refine fc_callS (Wa' := (vW G a v_655)) (st1 := [.int q658]) (As := [.int x2_653]) (rest := []) hCF (k_X6_nextSeed x2_653 hq658) (va_cwS 1 hts gX6_drawFeetAndMinds_X6_nextSeed rfl rfl rfl dk_X6_nextSeed ⟨Nat.le_of_ble_eq_true rfl, Nat.le_of_ble_eq_true rfl⟩) hE hAB hP hD hS [] rfl rfl rfl rfl rfl rfl hl.1 rfl (Nat.le_of_ble_eq_true rfl) dX6_drawFeetAndMinds_46 ⟨Nat.le_refl _, Nat.le_refl _⟩ (fun H locs hP hD hS => ?_)
        refine lv_istore_n (lv' := [(2, .int q658), (0, .ref (a 0)), (3, .int x3_654)]) hx hb dX6_drawFeetAndMinds_49 rfl hl (by decide) rfl (fun ls hl => ?_)
        refine lv_aload_n hx hb dX6_drawFeetAndMinds_50 rfl (lv_at hl 1 rfl) ?_
        refine lv_iload_n hx hb dX6_drawFeetAndMinds_51 rfl (lv_at hl 2 rfl) ?_
        refine lv_iload_n hx hb dX6_drawFeetAndMinds_52 rfl (lv_at hl 0 rfl) ?_
        obtain ⟨q659, hq659, hf⟩ := bnd hf
        refine fc_callS (Wa' := (vW G a v_655)) (st1 := [.int q659, .int x3_654, .ref (a 0)]) (As := [.int q658]) (rest := [.int x3_654, .ref (a 0)]) hCF (k_X6_drawnFoot q658 hq659) (va_cwS 1 hts gX6_drawFeetAndMinds_X6_drawnFoot rfl rfl rfl dk_X6_drawnFoot ⟨Nat.le_of_ble_eq_true rfl, Nat.le_of_ble_eq_true rfl⟩) hE hAB hP hD hS [] rfl rfl rfl rfl rfl rfl hl.1 rfl (Nat.le_of_ble_eq_true rfl) dX6_drawFeetAndMinds_53 ⟨Nat.le_refl _, Nat.le_refl _⟩ (fun H locs hP hD hS => ?_)
        obtain ⟨q660, hq660, hf⟩ := bnd hf
        refine fc_callV (Wa' := (vW G a q660)) (st1 := []) (As := [.int x3_654, .int q659]) (rest := []) hCF (k_X6_setMind a v_655 x3_654 q659 hq660) (cwV 2 hts gX6_drawFeetAndMinds_X6_setMind rfl rfl rfl ⟨rfl, dk_X6_setMind⟩ ⟨Nat.le_of_ble_eq_true rfl, Nat.le_of_ble_eq_true rfl⟩) hE hAB hP hD hS [0, 1, 2, 3, 4, 5, 6, 7] rfl rfl (va_recv hE.1 hP (ci := 3) (q0 := 0) rfl rfl) rfl rfl rfl rfl hl.1 rfl (Nat.le_of_ble_eq_true rfl) dX6_drawFeetAndMinds_56 ⟨Nat.le_refl _, Nat.le_refl _⟩ (fun H locs hP hD hS => ?_)
        refine lv_iinc (v := (x3_654 + (1 : Int32))) (lv' := [(3, .int (x3_654 + (1 : Int32))), (2, .int q658), (0, .ref (a 0))]) hx hb dX6_drawFeetAndMinds_59 hl (k := 2) rfl rfl (by decide) rfl (fun ls hl => ?_)
        refine lv_goto (tgt := 37) hx hb dX6_drawFeetAndMinds_62 (by decide) ?_
        exact ih q658 (x3_654 + (1 : Int32)) q660 _ _ _ hP hD hS (lv_sub hl [2, 1, 0] rfl) hf
  exact L37_656 FUEL x2_651 (0 : Int32) v_652 _ _ _ hP hD hS (lv_sub hl [1, 2, 0] rfl) hf
theorem dk_X6_mindOf : yX6_mindOf.cls ≠ "java/lang/invoke/MethodHandle" ∧ yX6_mindOf.cls ≠ "java/lang/invoke/VarHandle" ∧ (parseMethodDescriptor yX6_mindOf.desc).map (fun d => d.parameters.length) = some 1 := by decide +kernel
theorem iu_X6_mindOf_X6 : ∀ w ∈ u_ws RX6 TX6 12, w ∈ wsX6_mindOf := by decide +kernel
set_option maxHeartbeats 4000000 in
set_option maxRecDepth 100000 in
theorem k_X6_mindOf {l : Launch} {G : Gx} (a : Nat → Nat) (v : St) (x1 : Int32) {r : Int32} (hf : f_X6_mindOf v x1 = some r) : FC l G yX6_mindOf wsX6_mindOf ({ frames := 1, cells := 0, slots := 0, locals := 21 } : Room) [.ref (a 0), .int x1] (vW G a v) (vW G a v) (some (.int r)) := by
  refine fc_head (cc := cX6_mindOf) (maxL := 2) (ret := (some .int)) (C := RX6) (lv := [(0, .ref (a 0)), (1, .int x1)]) (by decide) rfl rfl (Nat.le_of_ble_eq_true rfl) rfl ?_
  intro p e s m below meth c ls A hx hb hr hml hown hts hlocks hE hP hD hAB hS hl
  have hCF : CallFix p m c cX6_mindOf 2 s ([.ref (a 0), .int x1] : List Value).toArray wsX6_mindOf RX6 := ⟨hx, hb, hml, hown, hts⟩
  have hwX6 : ∀ w ∈ u_ws RX6 TX6 12, w.before ([.ref (a 0), .int x1] : List Value).toArray s = true := fun w h => hts w (iu_X6_mindOf_X6 w h)
  have hk_fieldLink_RX6_27__BrideNotKnown_Valley___mindFeet____I_ := hts (.fieldLink RX6 27 "BrideNotKnown$Valley" "mindFeet" "[I") (List.mem_of_getElem? (i := 1) rfl)
  have hk_initialized_RX7 := hts (.initialized RX7) (List.mem_of_getElem? (i := 3) rfl)
  have hk_static_yX7_at := hts (.static yX7_at) (List.mem_of_getElem? (i := 2) rfl)
  rw [f_X6_mindOf] at hf
  refine lv_aload_n hx hb dX6_mindOf_0 rfl (lv_at hl 0 rfl) ?_
  refine fc_get (v := .ref (a 6)) (ci := 3) (C := RX6) (T := TX6) (N := 12) hx hb hwX6 hown hE hP 0 rfl rfl 9 (by decide) hk_fieldLink_RX6_27__BrideNotKnown_Valley___mindFeet____I_ (fun _ h => h) rfl dX6_mindOf_1 ?_
  refine lv_iload_n hx hb dX6_mindOf_4 rfl (lv_at hl 1 rfl) ?_
  obtain ⟨q662, hq662, hf⟩ := bnd hf
  refine fc_callN (Wa' := (vW G a v)) (st1 := [.int q662]) (As := [.ref (a 6), .int x1]) (rest := []) hCF (k_X7_at (a 6) 5 (v 5) x1 hq662) ⟨va_cnB 2 hts gX6_mindOf_X7_at_n53 rfl rfl rfl (hE.2.1 _ (List.mem_of_getElem? (i := 8) rfl)) hk_initialized_RX7 dk_X7_at ⟨Nat.le_of_ble_eq_true rfl, Nat.le_of_ble_eq_true rfl⟩, hk_static_yX7_at, trivial⟩ hE hAB hP hD hS [6] rfl rfl rfl rfl rfl rfl hl.1 rfl (Nat.le_of_ble_eq_true rfl) dX6_mindOf_5 ⟨Nat.le_refl _, Nat.le_refl _⟩ (fun H locs hP hD hS => ?_)
  exact fc_reti hx hb hr hlocks hP hS dX6_mindOf_8 (i1 hf) rfl
theorem dk_X6_toesFromMind : yX6_toesFromMind.cls ≠ "java/lang/invoke/MethodHandle" ∧ yX6_toesFromMind.cls ≠ "java/lang/invoke/VarHandle" ∧ (parseMethodDescriptor yX6_toesFromMind.desc).map (fun d => d.parameters.length) = some 2 := by decide +kernel
set_option maxHeartbeats 4000000 in
set_option maxRecDepth 100000 in
theorem k_X6_toesFromMind {l : Launch} {G : Gx} (a : Nat → Nat) (v : St) (x1 : Int32) (x2 : Int32) {r : Int32} (hf : f_X6_toesFromMind v x1 x2 = some r) : FC l G yX6_toesFromMind wsX6_toesFromMind ({ frames := 2, cells := 0, slots := 0, locals := 42 } : Room) [.ref (a 0), .int x1, .int x2] (vW G a v) (vW G a v) (some (.int r)) := by
  refine fc_head (cc := cX6_toesFromMind) (maxL := 3) (ret := (some .int)) (C := RX6) (lv := [(0, .ref (a 0)), (1, .int x1), (2, .int x2)]) (by decide) rfl rfl (Nat.le_of_ble_eq_true rfl) rfl ?_
  intro p e s m below meth c ls A hx hb hr hml hown hts hlocks hE hP hD hAB hS hl
  have hCF : CallFix p m c cX6_toesFromMind 3 s ([.ref (a 0), .int x1, .int x2] : List Value).toArray wsX6_toesFromMind RX6 := ⟨hx, hb, hml, hown, hts⟩
  rw [f_X6_toesFromMind] at hf
  refine lv_aload_n hx hb dX6_toesFromMind_0 rfl (lv_at hl 0 rfl) ?_
  refine lv_iload_n hx hb dX6_toesFromMind_1 rfl (lv_at hl 2 rfl) ?_
  obtain ⟨q666, hq666, hf⟩ := bnd hf
  refine fc_callV (Wa' := (vW G a v)) (st1 := [.int q666]) (As := [.int x2]) (rest := []) hCF (k_X6_footOf a v x2 hq666) (cwV 1 hts gX6_toesFromMind_X6_footOf rfl rfl rfl ⟨rfl, dk_X6_footOf⟩ ⟨Nat.le_of_ble_eq_true rfl, Nat.le_of_ble_eq_true rfl⟩) hE hAB hP hD hS [0, 1, 2, 3, 4, 5, 6, 7] rfl rfl (va_recv hE.1 hP (ci := 3) (q0 := 0) rfl rfl) rfl rfl rfl rfl hl.1 rfl (Nat.le_of_ble_eq_true rfl) dX6_toesFromMind_2 ⟨Nat.le_refl _, Nat.le_refl _⟩ (fun H locs hP hD hS => ?_)
  refine lv_aload_n hx hb dX6_toesFromMind_5 rfl (lv_at hl 0 rfl) ?_
  refine lv_iload_n hx hb dX6_toesFromMind_6 rfl (lv_at hl 1 rfl) ?_
  obtain ⟨q667, hq667, hf⟩ := bnd hf
  refine fc_callV (Wa' := (vW G a v)) (st1 := [.int q667, .int q666]) (As := [.int x1]) (rest := [.int q666]) hCF (k_X6_mindOf a v x1 hq667) (cwV 1 hts gX6_toesFromMind_X6_mindOf rfl rfl rfl ⟨rfl, dk_X6_mindOf⟩ ⟨Nat.le_of_ble_eq_true rfl, Nat.le_of_ble_eq_true rfl⟩) hE hAB hP hD hS [0, 1, 2, 3, 4, 5, 6, 7] rfl rfl (va_recv hE.1 hP (ci := 3) (q0 := 0) rfl rfl) rfl rfl rfl rfl hl.1 rfl (Nat.le_of_ble_eq_true rfl) dX6_toesFromMind_7 ⟨Nat.le_refl _, Nat.le_refl _⟩ (fun H locs hP hD hS => ?_)
  refine lv_ixor hx hb dX6_toesFromMind_10 ?_
  obtain ⟨q668, hq668, hf⟩ := bnd hf
  refine fc_callS (Wa' := (vW G a v)) (st1 := [.int q668]) (As := [.int (q666 ^^^ q667)]) (rest := []) hCF (k_J6_bitCount_0f7a4 (q666 ^^^ q667) hq668) (va_cwS 1 hts gX6_toesFromMind_J6_bitCount_0f7a4 rfl rfl rfl dk_J6_bitCount_0f7a4 ⟨Nat.le_of_ble_eq_true rfl, Nat.le_of_ble_eq_true rfl⟩) hE hAB hP hD hS [] rfl rfl rfl rfl rfl rfl hl.1 rfl (Nat.le_of_ble_eq_true rfl) dX6_toesFromMind_11 ⟨Nat.le_refl _, Nat.le_refl _⟩ (fun H locs hP hD hS => ?_)
  exact fc_reti hx hb hr hlocks hP hS dX6_toesFromMind_14 (i1 hf) rfl
theorem dk_X6_nearestTo : yX6_nearestTo.cls ≠ "java/lang/invoke/MethodHandle" ∧ yX6_nearestTo.cls ≠ "java/lang/invoke/VarHandle" ∧ (parseMethodDescriptor yX6_nearestTo.desc).map (fun d => d.parameters.length) = some 1 := by decide +kernel
theorem iu_X6_nearestTo_X6 : ∀ w ∈ u_ws RX6 TX6 12, w ∈ wsX6_nearestTo := by decide +kernel
set_option maxHeartbeats 4000000 in
set_option maxRecDepth 100000 in
theorem k_X6_nearestTo {l : Launch} {G : Gx} (a : Nat → Nat) (v : St) (x1 : Int32) {r : Int32} (hf : f_X6_nearestTo v x1 = some r) : FC l G yX6_nearestTo wsX6_nearestTo ({ frames := 3, cells := 0, slots := 0, locals := 64 } : Room) [.ref (a 0), .int x1] (vW G a v) (vW G a v) (some (.int r)) := by
  refine fc_head (cc := cX6_nearestTo) (maxL := 6) (ret := (some .int)) (C := RX6) (lv := [(0, .ref (a 0)), (1, .int x1)]) (by decide) rfl rfl (Nat.le_of_ble_eq_true rfl) rfl ?_
  intro p e s m below meth c ls A hx hb hr hml hown hts hlocks hE hP hD hAB hS hl
  have hCF : CallFix p m c cX6_nearestTo 6 s ([.ref (a 0), .int x1] : List Value).toArray wsX6_nearestTo RX6 := ⟨hx, hb, hml, hown, hts⟩
  have hwX6 : ∀ w ∈ u_ws RX6 TX6 12, w.before ([.ref (a 0), .int x1] : List Value).toArray s = true := fun w h => hts w (iu_X6_nearestTo_X6 w h)
  have hk_fieldLink_RX6_37__BrideNotKnown_Valley___brideCount___I_ := hts (.fieldLink RX6 37 "BrideNotKnown$Valley" "brideCount" "I") (List.mem_of_getElem? (i := 1) rfl)
  rw [f_X6_nearestTo] at hf
  refine lv_bipush (v := (-9 : Int32)) hx hb dX6_nearestTo_0 (by decide) ?_
  refine lv_istore_n (lv' := [(2, .int (-9 : Int32)), (0, .ref (a 0)), (1, .int x1)]) hx hb dX6_nearestTo_2 rfl hl (by decide) rfl (fun ls hl => ?_)
  refine lv_bipush (v := (7 : Int32)) hx hb dX6_nearestTo_3 (by decide) ?_
  refine lv_istore_n (lv' := [(3, .int (7 : Int32)), (2, .int (-9 : Int32)), (0, .ref (a 0)), (1, .int x1)]) hx hb dX6_nearestTo_5 rfl hl (by decide) rfl (fun ls hl => ?_)
  refine lv_iconst (v := (0 : Int32)) hx hb dX6_nearestTo_6 (by decide) ?_
  refine lv_istore (lv' := [(4, .int (0 : Int32)), (3, .int (7 : Int32)), (2, .int (-9 : Int32)), (0, .ref (a 0)), (1, .int x1)]) hx hb dX6_nearestTo_7 hl (by decide) rfl (fun ls hl => ?_)
  have L9_673 : ∀ (n : Nat) (x2_670 : Int32) (x3_671 : Int32) (x4_672 : Int32) (H : Heap) (locs : List Loc) (ls : Array Slot), va_P (gD G) vwCl (vW G a v) H → va_D A (vW G a v) → va_S A s.heap H locs → lv_has ls 6 [(0, .ref (a 0)), (1, .int x1), (2, .int x2_670), (3, .int x3_671), (4, .int x4_672)] → f_X6_nearestTo_9 v x1 n x2_670 x3_671 x4_672 = some r → W p l e (headSpec wsX6_nearestTo ({ frames := 3, cells := 0, slots := 0, locals := 64 } : Room)).room s m ([.ref (a 0), .int x1] : List Value).toArray below meth c H locs 0 0 (MQ below (FQ G A (vW G a v) (some (.int r))) ([.ref (a 0), .int x1] : List Value).toArray s 0 0 A) (F0 m 9 ls []) := by
    intro n
    induction n with
    | zero =>
      intro x2_670 x3_671 x4_672 H locs ls hP hD hS hl hf
      exact no_some hf
    | succ n ih =>
      intro x2_670 x3_671 x4_672 H locs ls hP hD hS hl hf
      rw [f_X6_nearestTo_9] at hf
      refine lv_iload hx hb dX6_nearestTo_9 (lv_at hl 4 rfl) ?_
      refine lv_aload_n hx hb dX6_nearestTo_11 rfl (lv_at hl 0 rfl) ?_
      refine fc_get (v := .int (v 7 1)) (ci := 3) (C := RX6) (T := TX6) (N := 12) hx hb hwX6 hown hE hP 0 rfl rfl 1 (by decide) hk_fieldLink_RX6_37__BrideNotKnown_Valley___brideCount___I_ (fun _ h => h) rfl dX6_nearestTo_12 ?_
      refine lv_icmp_ge (tgt := 45) hx hb dX6_nearestTo_15 (by decide) (fun c674 => ?_) (fun c674 => ?_)
      · have hf := ifT hf c674
        refine lv_iload_n hx hb dX6_nearestTo_45 rfl (lv_at hl 2 rfl) ?_
        exact fc_reti hx hb hr hlocks hP hS dX6_nearestTo_46 (i1 hf) rfl
      · have hf := ifF hf c674
        refine lv_aload_n hx hb dX6_nearestTo_18 rfl (lv_at hl 0 rfl) ?_
        refine lv_iload_n hx hb dX6_nearestTo_19 rfl (lv_at hl 1 rfl) ?_
        refine lv_iload hx hb dX6_nearestTo_20 (lv_at hl 4 rfl) ?_
        obtain ⟨q675, hq675, hf⟩ := bnd hf
        refine fc_callV (Wa' := (vW G a v)) (st1 := [.int q675]) (As := [.int x1, .int x4_672]) (rest := []) hCF (k_X6_toesFromMind a v x1 x4_672 hq675) (cwV 2 hts gX6_nearestTo_X6_toesFromMind rfl rfl rfl ⟨rfl, dk_X6_toesFromMind⟩ ⟨Nat.le_of_ble_eq_true rfl, Nat.le_of_ble_eq_true rfl⟩) hE hAB hP hD hS [0, 1, 2, 3, 4, 5, 6, 7] rfl rfl (va_recv hE.1 hP (ci := 3) (q0 := 0) rfl rfl) rfl rfl rfl rfl hl.1 rfl (Nat.le_of_ble_eq_true rfl) dX6_nearestTo_22 ⟨Nat.le_refl _, Nat.le_refl _⟩ (fun H locs hP hD hS => ?_)
        refine lv_istore (lv' := [(5, .int q675), (0, .ref (a 0)), (1, .int x1), (2, .int x2_670), (3, .int x3_671), (4, .int x4_672)]) hx hb dX6_nearestTo_25 hl (by decide) rfl (fun ls hl => ?_)
        refine lv_iload hx hb dX6_nearestTo_27 (lv_at hl 0 rfl) ?_
        refine lv_iload_n hx hb dX6_nearestTo_29 rfl (lv_at hl 4 rfl) ?_
        refine lv_icmp_ge (tgt := 39) hx hb dX6_nearestTo_30 (by decide) (fun c676 => ?_) (fun c676 => ?_)
        · have hf := ifT hf c676
          refine lv_iinc (v := (x4_672 + (1 : Int32))) (lv' := [(4, .int (x4_672 + (1 : Int32))), (5, .int q675), (0, .ref (a 0)), (1, .int x1), (2, .int x2_670), (3, .int x3_671)]) hx hb dX6_nearestTo_39 hl (k := 5) rfl rfl (by decide) rfl (fun ls hl => ?_)
          refine lv_goto (tgt := 9) hx hb dX6_nearestTo_42 (by decide) ?_
          exact ih x2_670 x3_671 (x4_672 + (1 : Int32)) _ _ _ hP hD hS (lv_sub hl [2, 3, 4, 5, 0] rfl) hf
        · have hf := ifF hf c676
          refine lv_iload hx hb dX6_nearestTo_33 (lv_at hl 0 rfl) ?_
          refine lv_istore_n (lv' := [(3, .int q675), (5, .int q675), (0, .ref (a 0)), (1, .int x1), (2, .int x2_670), (4, .int x4_672)]) hx hb dX6_nearestTo_35 rfl hl (by decide) rfl (fun ls hl => ?_)
          refine lv_iload hx hb dX6_nearestTo_36 (lv_at hl 5 rfl) ?_
          refine lv_istore_n (lv' := [(2, .int x4_672), (3, .int q675), (5, .int q675), (0, .ref (a 0)), (1, .int x1), (4, .int x4_672)]) hx hb dX6_nearestTo_38 rfl hl (by decide) rfl (fun ls hl => ?_)
          refine lv_iinc (v := (x4_672 + (1 : Int32))) (lv' := [(4, .int (x4_672 + (1 : Int32))), (2, .int x4_672), (3, .int q675), (5, .int q675), (0, .ref (a 0)), (1, .int x1)]) hx hb dX6_nearestTo_39 hl (k := 5) rfl rfl (by decide) rfl (fun ls hl => ?_)
          refine lv_goto (tgt := 9) hx hb dX6_nearestTo_42 (by decide) ?_
          exact ih x4_672 q675 (x4_672 + (1 : Int32)) _ _ _ hP hD hS (lv_sub hl [4, 5, 1, 2, 0] rfl) hf
  exact L9_673 FUEL (-9 : Int32) (7 : Int32) (0 : Int32) _ _ _ hP hD hS (lv_sub hl [3, 4, 2, 1, 0] rfl) hf
theorem dk_X6_takenOf : yX6_takenOf.cls ≠ "java/lang/invoke/MethodHandle" ∧ yX6_takenOf.cls ≠ "java/lang/invoke/VarHandle" ∧ (parseMethodDescriptor yX6_takenOf.desc).map (fun d => d.parameters.length) = some 2 := by decide +kernel
set_option maxHeartbeats 4000000 in
set_option maxRecDepth 100000 in
theorem k_X6_takenOf {l : Launch} {G : Gx} (x0 : Int32) (x1 : Int32) {r : Int32} (hf : f_X6_takenOf x0 x1 = some r) : FC l G yX6_takenOf wsX6_takenOf ({ frames := 2, cells := 0, slots := 0, locals := 44 } : Room) [.int x0, .int x1] ([] : va_W) ([] : va_W) (some (.int r)) := by
  refine fc_head (cc := cX6_takenOf) (maxL := 3) (ret := (some .int)) (C := RX6) (lv := [(0, .int x0), (1, .int x1)]) (by decide) rfl rfl (Nat.le_of_ble_eq_true rfl) rfl ?_
  intro p e s m below meth c ls A hx hb hr hml hown hts hlocks hE hP hD hAB hS hl
  have hCF : CallFix p m c cX6_takenOf 3 s ([.int x0, .int x1] : List Value).toArray wsX6_takenOf RX6 := ⟨hx, hb, hml, hown, hts⟩
  have hk_initialized_RX7 := hts (.initialized RX7) (List.mem_of_getElem? (i := 9) rfl)
  have hk_static_yX7_bitAt := hts (.static yX7_bitAt) (List.mem_of_getElem? (i := 8) rfl)
  rw [f_X6_takenOf] at hf
  refine lv_iload_n hx hb dX6_takenOf_0 rfl (lv_at hl 0 rfl) ?_
  obtain ⟨q679, hq679, hf⟩ := bnd hf
  refine fc_callS (Wa' := ([] : va_W)) (st1 := [.int q679]) (As := [.int x0]) (rest := []) hCF (k_J6_bitCount_0f7a4 x0 hq679) (va_cwS 1 hts gX6_takenOf_J6_bitCount_0f7a4 rfl rfl rfl dk_J6_bitCount_0f7a4 ⟨Nat.le_of_ble_eq_true rfl, Nat.le_of_ble_eq_true rfl⟩) hE hAB hP hD hS [] rfl rfl rfl rfl rfl rfl hl.1 rfl (Nat.le_of_ble_eq_true rfl) dX6_takenOf_1 ⟨Nat.le_refl _, Nat.le_refl _⟩ (fun H locs hP hD hS => ?_)
  refine lv_istore_n (lv' := [(2, .int q679), (0, .int x0), (1, .int x1)]) hx hb dX6_takenOf_4 rfl hl (by decide) rfl (fun ls hl => ?_)
  refine lv_iload_n hx hb dX6_takenOf_5 rfl (lv_at hl 0 rfl) ?_
  refine lv_if_ne (tgt := 14) hx hb dX6_takenOf_6 (by decide) (fun c680 => ?_) (fun c680 => ?_)
  · have hf := ifF hf c680
    refine lv_iload_n hx hb dX6_takenOf_14 rfl (lv_at hl 1 rfl) ?_
    refine lv_iload_n hx hb dX6_takenOf_15 rfl (lv_at hl 2 rfl) ?_
    refine lv_iload_n hx hb dX6_takenOf_16 rfl (lv_at hl 0 rfl) ?_
    obtain ⟨c681, hf⟩ := gd_some hf
    refine lv_irem hx hb dX6_takenOf_17 (nzI_ne c681) ?_
    obtain ⟨q682, hq682, hf⟩ := bnd hf
    refine fc_callN (Wa' := ([] : va_W)) (st1 := [.int q682]) (As := [.int x0, .int (x1 - x1 / q679 * q679)]) (rest := []) hCF (k_X7_bitAt x0 (x1 - x1 / q679 * q679) hq682) ⟨va_cnB 2 hts gX6_takenOf_X7_bitAt_n139 rfl rfl rfl (hE.2.1 _ (List.mem_of_getElem? (i := 11) rfl)) hk_initialized_RX7 dk_X7_bitAt ⟨Nat.le_of_ble_eq_true rfl, Nat.le_of_ble_eq_true rfl⟩, hk_static_yX7_bitAt, trivial⟩ hE hAB hP hD hS [] rfl rfl rfl rfl rfl rfl hl.1 rfl (Nat.le_of_ble_eq_true rfl) dX6_takenOf_18 ⟨Nat.le_refl _, Nat.le_refl _⟩ (fun H locs hP hD hS => ?_)
    exact fc_reti hx hb hr hlocks hP hS dX6_takenOf_21 (i1 hf) rfl
  · have hf := ifT hf c680
    refine lv_bipush (v := (-9 : Int32)) hx hb dX6_takenOf_9 (by decide) ?_
    refine lv_goto (tgt := 21) hx hb dX6_takenOf_11 (by decide) ?_
    exact fc_reti hx hb hr hlocks hP hS dX6_takenOf_21 (i1 hf) rfl
theorem dk_X6_takenWith : yX6_takenWith.cls ≠ "java/lang/invoke/MethodHandle" ∧ yX6_takenWith.cls ≠ "java/lang/invoke/VarHandle" ∧ (parseMethodDescriptor yX6_takenWith.desc).map (fun d => d.parameters.length) = some 2 := by decide +kernel
set_option maxHeartbeats 4000000 in
set_option maxRecDepth 100000 in
theorem k_X6_takenWith {l : Launch} {G : Gx} (a : Nat → Nat) (v : St) (x1 : Int32) (x2 : Int32) {r : Int32} (hf : f_X6_takenWith v x1 x2 = some r) : FC l G yX6_takenWith wsX6_takenWith ({ frames := 4, cells := 0, slots := 0, locals := 99 } : Room) [.ref (a 0), .int x1, .int x2] (vW G a v) (vW G a v) (some (.int r)) := by
  refine fc_head (cc := cX6_takenWith) (maxL := 4) (ret := (some .int)) (C := RX6) (lv := [(0, .ref (a 0)), (1, .int x1), (2, .int x2)]) (by decide) rfl rfl (Nat.le_of_ble_eq_true rfl) rfl ?_
  intro p e s m below meth c ls A hx hb hr hml hown hts hlocks hE hP hD hAB hS hl
  have hCF : CallFix p m c cX6_takenWith 4 s ([.ref (a 0), .int x1, .int x2] : List Value).toArray wsX6_takenWith RX6 := ⟨hx, hb, hml, hown, hts⟩
  have hk_initialized_RX7 := hts (.initialized RX7) (List.mem_of_getElem? (i := 8) rfl)
  have hk_static_yX7_onlyOne := hts (.static yX7_onlyOne) (List.mem_of_getElem? (i := 46) rfl)
  rw [f_X6_takenWith] at hf
  refine lv_aload_n hx hb dX6_takenWith_0 rfl (lv_at hl 0 rfl) ?_
  refine lv_iload_n hx hb dX6_takenWith_1 rfl (lv_at hl 1 rfl) ?_
  refine lv_iconst (v := (0 : Int32)) hx hb dX6_takenWith_2 (by decide) ?_
  obtain ⟨q688, hq688, hf⟩ := bnd hf
  refine fc_callV (Wa' := (vW G a v)) (st1 := [.int q688]) (As := [.int x1, .int (0 : Int32)]) (rest := []) hCF (k_X6_guesses a v x1 (0 : Int32) hq688) (cwV 2 hts gX6_takenWith_X6_guesses rfl rfl rfl ⟨rfl, dk_X6_guesses⟩ ⟨Nat.le_of_ble_eq_true rfl, Nat.le_of_ble_eq_true rfl⟩) hE hAB hP hD hS [0, 1, 2, 3, 4, 5, 6, 7] rfl rfl (va_recv hE.1 hP (ci := 3) (q0 := 0) rfl rfl) rfl rfl rfl rfl hl.1 rfl (Nat.le_of_ble_eq_true rfl) dX6_takenWith_3 ⟨Nat.le_refl _, Nat.le_refl _⟩ (fun H locs hP hD hS => ?_)
  refine lv_istore_n (lv' := [(3, .int q688), (0, .ref (a 0)), (1, .int x1), (2, .int x2)]) hx hb dX6_takenWith_6 rfl hl (by decide) rfl (fun ls hl => ?_)
  refine lv_aload_n hx hb dX6_takenWith_7 rfl (lv_at hl 1 rfl) ?_
  refine lv_iload_n hx hb dX6_takenWith_8 rfl (lv_at hl 2 rfl) ?_
  obtain ⟨q689, hq689, hf⟩ := bnd hf
  refine fc_callV (Wa' := (vW G a v)) (st1 := [.int q689]) (As := [.int x1]) (rest := []) hCF (k_X6_canWed a v x1 hq689) (cwV 1 hts gX6_takenWith_X6_canWed rfl rfl rfl ⟨rfl, dk_X6_canWed⟩ ⟨Nat.le_of_ble_eq_true rfl, Nat.le_of_ble_eq_true rfl⟩) hE hAB hP hD hS [0, 1, 2, 3, 4, 5, 6, 7] rfl rfl (va_recv hE.1 hP (ci := 3) (q0 := 0) rfl rfl) rfl rfl rfl rfl hl.1 rfl (Nat.le_of_ble_eq_true rfl) dX6_takenWith_9 ⟨Nat.le_refl _, Nat.le_refl _⟩ (fun H locs hP hD hS => ?_)
  refine lv_if_eq (tgt := 24) hx hb dX6_takenWith_12 (by decide) (fun c690 => ?_) (fun c690 => ?_)
  · have hf := ifT hf c690
    refine lv_bipush (v := (-9 : Int32)) hx hb dX6_takenWith_24 (by decide) ?_
    exact fc_reti hx hb hr hlocks hP hS dX6_takenWith_26 (i1 hf) rfl
  · have hf := ifF hf c690
    refine lv_iload_n hx hb dX6_takenWith_15 rfl (lv_at hl 0 rfl) ?_
    obtain ⟨q691, hq691, hf⟩ := bnd hf
    refine fc_callN (Wa' := (vW G a v)) (st1 := [.int q691]) (As := [.int q688]) (rest := []) hCF (k_X7_onlyOne q688 hq691) ⟨va_cnB 1 hts gX6_takenWith_X7_onlyOne_n109 rfl rfl rfl (hE.2.1 _ (List.mem_of_getElem? (i := 10) rfl)) hk_initialized_RX7 dk_X7_onlyOne ⟨Nat.le_of_ble_eq_true rfl, Nat.le_of_ble_eq_true rfl⟩, hk_static_yX7_onlyOne, trivial⟩ hE hAB hP hD hS [] rfl rfl rfl rfl rfl rfl hl.1 rfl (Nat.le_of_ble_eq_true rfl) dX6_takenWith_16 ⟨Nat.le_refl _, Nat.le_refl _⟩ (fun H locs hP hD hS => ?_)
    refine lv_bipush (v := (-9 : Int32)) hx hb dX6_takenWith_19 (by decide) ?_
    refine lv_icmp_eq (tgt := 27) hx hb dX6_takenWith_21 (by decide) (fun c692 => ?_) (fun c692 => ?_)
    · have hf := ifT hf c692
      refine lv_aload_n hx hb dX6_takenWith_27 rfl (lv_at hl 1 rfl) ?_
      refine lv_iload_n hx hb dX6_takenWith_28 rfl (lv_at hl 0 rfl) ?_
      obtain ⟨q693, hq693, hf⟩ := bnd hf
      refine fc_callV (Wa' := (vW G a v)) (st1 := [.int q693]) (As := [.int q688]) (rest := []) hCF (k_X6_choiceFrom a v q688 hq693) (cwV 1 hts gX6_takenWith_X6_choiceFrom rfl rfl rfl ⟨rfl, dk_X6_choiceFrom⟩ ⟨Nat.le_of_ble_eq_true rfl, Nat.le_of_ble_eq_true rfl⟩) hE hAB hP hD hS [0, 1, 2, 3, 4, 5, 6, 7] rfl rfl (va_recv hE.1 hP (ci := 3) (q0 := 0) rfl rfl) rfl rfl rfl rfl hl.1 rfl (Nat.le_of_ble_eq_true rfl) dX6_takenWith_29 ⟨Nat.le_refl _, Nat.le_refl _⟩ (fun H locs hP hD hS => ?_)
      refine lv_iload_n hx hb dX6_takenWith_32 rfl (lv_at hl 3 rfl) ?_
      obtain ⟨q694, hq694, hf⟩ := bnd hf
      refine fc_callS (Wa' := (vW G a v)) (st1 := [.int q694]) (As := [.int q693, .int x2]) (rest := []) hCF (k_X6_takenOf q693 x2 hq694) (va_cwS 2 hts gX6_takenWith_X6_takenOf rfl rfl rfl dk_X6_takenOf ⟨Nat.le_of_ble_eq_true rfl, Nat.le_of_ble_eq_true rfl⟩) hE hAB hP hD hS [] rfl rfl rfl rfl rfl rfl hl.1 rfl (Nat.le_of_ble_eq_true rfl) dX6_takenWith_33 ⟨Nat.le_refl _, Nat.le_refl _⟩ (fun H locs hP hD hS => ?_)
      exact fc_reti hx hb hr hlocks hP hS dX6_takenWith_36 (i1 hf) rfl
    · have hf := ifF hf c692
      refine lv_bipush (v := (-9 : Int32)) hx hb dX6_takenWith_24 (by decide) ?_
      exact fc_reti hx hb hr hlocks hP hS dX6_takenWith_26 (i1 hf) rfl
theorem dk_X6_wed : yX6_wed.cls ≠ "java/lang/invoke/MethodHandle" ∧ yX6_wed.cls ≠ "java/lang/invoke/VarHandle" ∧ (parseMethodDescriptor yX6_wed.desc).map (fun d => d.parameters.length) = some 1 := by decide +kernel
theorem iu_X6_wed_X6 : ∀ w ∈ u_ws RX6 TX6 12, w ∈ wsX6_wed := by decide +kernel
set_option maxHeartbeats 4000000 in
set_option maxRecDepth 100000 in
theorem k_X6_wed {l : Launch} {G : Gx} (a : Nat → Nat) (v : St) (x1 : Int32) {r : Int32} {v' : St} (hf : f_X6_wed v x1 = some (r, v')) : FC l G yX6_wed wsX6_wed ({ frames := 3, cells := 0, slots := 0, locals := 77 } : Room) [.ref (a 0), .int x1] (vW G a v) (vW G a v') (some (.int r)) := by
  refine fc_head (cc := cX6_wed) (maxL := 6) (ret := (some .int)) (C := RX6) (lv := [(0, .ref (a 0)), (1, .int x1)]) (by decide) rfl rfl (Nat.le_of_ble_eq_true rfl) rfl ?_
  intro p e s m below meth c ls A hx hb hr hml hown hts hlocks hE hP hD hAB hS hl
  have hCF : CallFix p m c cX6_wed 6 s ([.ref (a 0), .int x1] : List Value).toArray wsX6_wed RX6 := ⟨hx, hb, hml, hown, hts⟩
  have hwX6 : ∀ w ∈ u_ws RX6 TX6 12, w.before ([.ref (a 0), .int x1] : List Value).toArray s = true := fun w h => hts w (iu_X6_wed_X6 w h)
  have hk_fieldLink_RX6_30__BrideNotKnown_Valley___liquors____I_ := hts (.fieldLink RX6 30 "BrideNotKnown$Valley" "liquors" "[I") (List.mem_of_getElem? (i := 1) rfl)
  have hk_initialized_RX7 := hts (.initialized RX7) (List.mem_of_getElem? (i := 7) rfl)
  have hk_static_yX7_at := hts (.static yX7_at) (List.mem_of_getElem? (i := 6) rfl)
  have hk_fieldLink_RX6_24__BrideNotKnown_Valley___lookBits____I_ := hts (.fieldLink RX6 24 "BrideNotKnown$Valley" "lookBits" "[I") (List.mem_of_getElem? (i := 2) rfl)
  have hk_static_yX7_onlyOne := hts (.static yX7_onlyOne) (List.mem_of_getElem? (i := 30) rfl)
  have hk_fieldLink_RX6_44__BrideNotKnown_Valley___marriedBrides___I_ := hts (.fieldLink RX6 44 "BrideNotKnown$Valley" "marriedBrides" "I") (List.mem_of_getElem? (i := 4) rfl)
  have hk_fieldLink_RX6_50__BrideNotKnown_Valley___marriedGrooms___I_ := hts (.fieldLink RX6 50 "BrideNotKnown$Valley" "marriedGrooms" "I") (List.mem_of_getElem? (i := 5) rfl)
  have hk_fieldLink_RX6_21__BrideNotKnown_Valley___sentYears____I_ := hts (.fieldLink RX6 21 "BrideNotKnown$Valley" "sentYears" "[I") (List.mem_of_getElem? (i := 3) rfl)
  have hk_static_yX7_put := hts (.static yX7_put) (List.mem_of_getElem? (i := 43) rfl)
  rw [f_X6_wed] at hf
  refine lv_aload_n hx hb dX6_wed_0 rfl (lv_at hl 0 rfl) ?_
  refine fc_get (v := .ref (a 7)) (ci := 3) (C := RX6) (T := TX6) (N := 12) hx hb hwX6 hown hE hP 0 rfl rfl 10 (by decide) hk_fieldLink_RX6_30__BrideNotKnown_Valley___liquors____I_ (fun _ h => h) rfl dX6_wed_1 ?_
  refine lv_iload_n hx hb dX6_wed_4 rfl (lv_at hl 1 rfl) ?_
  obtain ⟨q702, hq702, hf⟩ := bnd hf
  refine fc_callN (Wa' := (vW G a v)) (st1 := [.int q702]) (As := [.ref (a 7), .int x1]) (rest := []) hCF (k_X7_at (a 7) 5 (v 6) x1 hq702) ⟨va_cnB 2 hts gX6_wed_X7_at_n53 rfl rfl rfl (hE.2.1 _ (List.mem_of_getElem? (i := 8) rfl)) hk_initialized_RX7 dk_X7_at ⟨Nat.le_of_ble_eq_true rfl, Nat.le_of_ble_eq_true rfl⟩, hk_static_yX7_at, trivial⟩ hE hAB hP hD hS [7] rfl rfl rfl rfl rfl rfl hl.1 rfl (Nat.le_of_ble_eq_true rfl) dX6_wed_5 ⟨Nat.le_refl _, Nat.le_refl _⟩ (fun H locs hP hD hS => ?_)
  refine lv_istore_n (lv' := [(2, .int q702), (0, .ref (a 0)), (1, .int x1)]) hx hb dX6_wed_8 rfl hl (by decide) rfl (fun ls hl => ?_)
  refine lv_aload_n hx hb dX6_wed_9 rfl (lv_at hl 1 rfl) ?_
  refine lv_iload_n hx hb dX6_wed_10 rfl (lv_at hl 2 rfl) ?_
  refine lv_aload_n hx hb dX6_wed_11 rfl (lv_at hl 1 rfl) ?_
  refine fc_get (v := .ref (a 5)) (ci := 3) (C := RX6) (T := TX6) (N := 12) hx hb hwX6 hown hE hP 0 rfl rfl 8 (by decide) hk_fieldLink_RX6_24__BrideNotKnown_Valley___lookBits____I_ (fun _ h => h) rfl dX6_wed_12 ?_
  refine lv_iload_n hx hb dX6_wed_15 rfl (lv_at hl 2 rfl) ?_
  obtain ⟨q703, hq703, hf⟩ := bnd hf
  refine fc_callN (Wa' := (vW G a v)) (st1 := [.int q703, .int x1, .ref (a 0)]) (As := [.ref (a 5), .int x1]) (rest := [.int x1, .ref (a 0)]) hCF (k_X7_at (a 5) 5 (v 4) x1 hq703) ⟨va_cnB 2 hts gX6_wed_X7_at_n53 rfl rfl rfl (hE.2.1 _ (List.mem_of_getElem? (i := 8) rfl)) hk_initialized_RX7 dk_X7_at ⟨Nat.le_of_ble_eq_true rfl, Nat.le_of_ble_eq_true rfl⟩, hk_static_yX7_at, trivial⟩ hE hAB hP hD hS [5] rfl rfl rfl rfl rfl rfl hl.1 rfl (Nat.le_of_ble_eq_true rfl) dX6_wed_16 ⟨Nat.le_refl _, Nat.le_refl _⟩ (fun H locs hP hD hS => ?_)
  refine lv_iconst (v := (0 : Int32)) hx hb dX6_wed_19 (by decide) ?_
  obtain ⟨q704, hq704, hf⟩ := bnd hf
  refine fc_callV (Wa' := (vW G a v)) (st1 := [.int q704]) (As := [.int x1, .int q703, .int (0 : Int32)]) (rest := []) hCF (k_X6_guessesBy a v x1 q703 (0 : Int32) hq704) (cwV 3 hts gX6_wed_X6_guessesBy rfl rfl rfl ⟨rfl, dk_X6_guessesBy⟩ ⟨Nat.le_of_ble_eq_true rfl, Nat.le_of_ble_eq_true rfl⟩) hE hAB hP hD hS [0, 1, 2, 3, 4, 5, 6, 7] rfl rfl (va_recv hE.1 hP (ci := 3) (q0 := 0) rfl rfl) rfl rfl rfl rfl hl.1 rfl (Nat.le_of_ble_eq_true rfl) dX6_wed_20 ⟨Nat.le_refl _, Nat.le_refl _⟩ (fun H locs hP hD hS => ?_)
  refine lv_istore_n (lv' := [(3, .int q704), (2, .int q702), (0, .ref (a 0)), (1, .int x1)]) hx hb dX6_wed_23 rfl hl (by decide) rfl (fun ls hl => ?_)
  refine lv_iload_n hx hb dX6_wed_24 rfl (lv_at hl 0 rfl) ?_
  obtain ⟨q705, hq705, hf⟩ := bnd hf
  refine fc_callN (Wa' := (vW G a v)) (st1 := [.int q705]) (As := [.int q704]) (rest := []) hCF (k_X7_onlyOne q704 hq705) ⟨va_cnB 1 hts gX6_wed_X7_onlyOne_n109 rfl rfl rfl (hE.2.1 _ (List.mem_of_getElem? (i := 10) rfl)) hk_initialized_RX7 dk_X7_onlyOne ⟨Nat.le_of_ble_eq_true rfl, Nat.le_of_ble_eq_true rfl⟩, hk_static_yX7_onlyOne, trivial⟩ hE hAB hP hD hS [] rfl rfl rfl rfl rfl rfl hl.1 rfl (Nat.le_of_ble_eq_true rfl) dX6_wed_25 ⟨Nat.le_refl _, Nat.le_refl _⟩ (fun H locs hP hD hS => ?_)
  refine lv_istore (lv' := [(4, .int q705), (3, .int q704), (2, .int q702), (0, .ref (a 0)), (1, .int x1)]) hx hb dX6_wed_28 hl (by decide) rfl (fun ls hl => ?_)
  refine lv_iload hx hb dX6_wed_30 (lv_at hl 0 rfl) ?_
  refine lv_bipush (v := (-9 : Int32)) hx hb dX6_wed_32 (by decide) ?_
  refine lv_icmp_eq (tgt := 54) hx hb dX6_wed_34 (by decide) (fun c706 => ?_) (fun c706 => ?_)
  · have hf := ifT hf c706
    refine lv_aload_n hx hb dX6_wed_54 rfl (lv_at hl 3 rfl) ?_
    refine lv_iload_n hx hb dX6_wed_55 rfl (lv_at hl 1 rfl) ?_
    obtain ⟨q707, hq707, hf⟩ := bnd hf
    refine fc_callV (Wa' := (vW G a v)) (st1 := [.int q707]) (As := [.int q704]) (rest := []) hCF (k_X6_choiceFrom a v q704 hq707) (cwV 1 hts gX6_wed_X6_choiceFrom rfl rfl rfl ⟨rfl, dk_X6_choiceFrom⟩ ⟨Nat.le_of_ble_eq_true rfl, Nat.le_of_ble_eq_true rfl⟩) hE hAB hP hD hS [0, 1, 2, 3, 4, 5, 6, 7] rfl rfl (va_recv hE.1 hP (ci := 3) (q0 := 0) rfl rfl) rfl rfl rfl rfl hl.1 rfl (Nat.le_of_ble_eq_true rfl) dX6_wed_56 ⟨Nat.le_refl _, Nat.le_refl _⟩ (fun H locs hP hD hS => ?_)
    refine lv_iload_n hx hb dX6_wed_59 rfl (lv_at hl 2 rfl) ?_
    obtain ⟨q708, hq708, hf⟩ := bnd hf
    refine fc_callS (Wa' := (vW G a v)) (st1 := [.int q708]) (As := [.int q707, .int q702]) (rest := []) hCF (k_X6_takenOf q707 q702 hq708) (va_cwS 2 hts gX6_wed_X6_takenOf rfl rfl rfl dk_X6_takenOf ⟨Nat.le_of_ble_eq_true rfl, Nat.le_of_ble_eq_true rfl⟩) hE hAB hP hD hS [] rfl rfl rfl rfl rfl rfl hl.1 rfl (Nat.le_of_ble_eq_true rfl) dX6_wed_60 ⟨Nat.le_refl _, Nat.le_refl _⟩ (fun H locs hP hD hS => ?_)
    refine lv_istore (lv' := [(5, .int q708), (4, .int q705), (3, .int q704), (2, .int q702), (0, .ref (a 0)), (1, .int x1)]) hx hb dX6_wed_63 hl (by decide) rfl (fun ls hl => ?_)
    refine lv_iload hx hb dX6_wed_65 (lv_at hl 0 rfl) ?_
    refine lv_bipush (v := (-9 : Int32)) hx hb dX6_wed_67 (by decide) ?_
    refine lv_icmp_ne (tgt := 75) hx hb dX6_wed_69 (by decide) (fun c709 => ?_) (fun c709 => ?_)
    · have hf := ifF hf c709
      refine lv_aload_n hx hb dX6_wed_75 rfl (lv_at hl 4 rfl) ?_
      refine lv_dup hx hb dX6_wed_76 rfl ?_
      refine fc_get (v := .int (v 7 2)) (ci := 3) (C := RX6) (T := TX6) (N := 12) hx hb hwX6 hown hE hP 0 rfl rfl 6 (by decide) hk_fieldLink_RX6_44__BrideNotKnown_Valley___marriedBrides___I_ (fun _ h => h) rfl dX6_wed_77 ?_
      refine lv_iconst (v := (1 : Int32)) hx hb dX6_wed_80 (by decide) ?_
      refine lv_iload hx hb dX6_wed_81 (lv_at hl 0 rfl) ?_
      refine lv_ishl hx hb dX6_wed_83 ?_
      refine lv_ior hx hb dX6_wed_84 ?_
      refine fc_put (Wa' := (vW G a (sA v 7 (upd (v 7) 2 ((v 7 2) ||| ((1 : Int32) <<< (q708 &&& 31))))))) (ci := 3) (C := RX6) (T := TX6) (N := 12) hx hb hwX6 tyX6 tyX6_ok nmX6 hown hE hP hD hS 0 rfl rfl 6 (by decide) hk_fieldLink_RX6_44__BrideNotKnown_Valley___marriedBrides___I_ (fun _ h => h) rfl rfl rfl (Nat.le_of_ble_eq_true rfl) dX6_wed_85 rfl (fun H locs hP hD hS => ?_)
      refine lv_aload_n hx hb dX6_wed_88 rfl (lv_at hl 4 rfl) ?_
      refine lv_dup hx hb dX6_wed_89 rfl ?_
      refine fc_get (v := .int (v 7 4)) (ci := 3) (C := RX6) (T := TX6) (N := 12) hx hb hwX6 hown hE hP 0 rfl rfl 11 (by decide) hk_fieldLink_RX6_50__BrideNotKnown_Valley___marriedGrooms___I_ (fun _ h => h) rfl dX6_wed_90 ?_
      refine lv_iconst (v := (1 : Int32)) hx hb dX6_wed_93 (by decide) ?_
      refine lv_iload_n hx hb dX6_wed_94 rfl (lv_at hl 5 rfl) ?_
      refine lv_ishl hx hb dX6_wed_95 ?_
      refine lv_ior hx hb dX6_wed_96 ?_
      refine fc_put (Wa' := (vW G a (sA v 7 (upd (upd (v 7) 2 ((v 7 2) ||| ((1 : Int32) <<< (q708 &&& 31)))) 4 ((v 7 4) ||| ((1 : Int32) <<< (x1 &&& 31))))))) (ci := 3) (C := RX6) (T := TX6) (N := 12) hx hb hwX6 tyX6 tyX6_ok nmX6 hown hE hP hD hS 0 rfl rfl 11 (by decide) hk_fieldLink_RX6_50__BrideNotKnown_Valley___marriedGrooms___I_ (fun _ h => h) rfl rfl rfl (Nat.le_of_ble_eq_true rfl) dX6_wed_97 rfl (fun H locs hP hD hS => ?_)
      refine lv_bipush (v := (100 : Int32)) hx hb dX6_wed_100 (by decide) ?_
      refine lv_iload hx hb dX6_wed_102 (lv_at hl 0 rfl) ?_
      refine lv_iadd hx hb dX6_wed_104 ?_
      exact fc_reti hx hb hr hlocks hP hS dX6_wed_105 (i2a hf) (congrArg (fun z => (vW G a z)) (i2b hf))
    · have hf := ifT hf c709
      refine lv_bipush (v := (-9 : Int32)) hx hb dX6_wed_72 (by decide) ?_
      exact fc_reti hx hb hr hlocks hP hS dX6_wed_74 (i2a hf) (congrArg (fun z => (vW G a z)) (i2b hf))
  · have hf := ifF hf c706
    refine lv_aload_n hx hb dX6_wed_37 rfl (lv_at hl 3 rfl) ?_
    refine fc_get (v := .ref (a 4)) (ci := 3) (C := RX6) (T := TX6) (N := 12) hx hb hwX6 hown hE hP 0 rfl rfl 5 (by decide) hk_fieldLink_RX6_21__BrideNotKnown_Valley___sentYears____I_ (fun _ h => h) rfl dX6_wed_38 ?_
    refine lv_iload hx hb dX6_wed_41 (lv_at hl 0 rfl) ?_
    refine lv_iconst (v := (1 : Int32)) hx hb dX6_wed_43 (by decide) ?_
    refine lv_iload_n hx hb dX6_wed_44 rfl (lv_at hl 2 rfl) ?_
    refine lv_iconst (v := (3 : Int32)) hx hb dX6_wed_45 (by decide) ?_
    refine lv_idiv hx hb dX6_wed_46 (by decide) ?_
    refine lv_iadd hx hb dX6_wed_47 ?_
    obtain ⟨q710, hq710, hf⟩ := bnd hf
    refine fc_callN (Wa' := (vW G a (sA v 3 q710))) (st1 := []) (As := [.ref (a 4), .int q705, .int ((1 : Int32) + (q702 / (3 : Int32)))]) (rest := []) hCF (k_X7_put (a 4) 8 (v 3) q705 ((1 : Int32) + (q702 / (3 : Int32))) hq710) ⟨va_cnB 3 hts gX6_wed_X7_put_n65 rfl rfl rfl (hE.2.1 _ (List.mem_of_getElem? (i := 7) rfl)) hk_initialized_RX7 dk_X7_put ⟨Nat.le_of_ble_eq_true rfl, Nat.le_of_ble_eq_true rfl⟩, hk_static_yX7_put, trivial⟩ hE hAB hP hD hS [4] rfl rfl rfl rfl rfl rfl hl.1 rfl (Nat.le_of_ble_eq_true rfl) dX6_wed_48 ⟨Nat.le_refl _, Nat.le_refl _⟩ (fun H locs hP hD hS => ?_)
    refine lv_iload hx hb dX6_wed_51 (lv_at hl 0 rfl) ?_
    exact fc_reti hx hb hr hlocks hP hS dX6_wed_53 (i2a hf) (congrArg (fun z => (vW G a z)) (i2b hf))
theorem dk_X6_wedAll : yX6_wedAll.cls ≠ "java/lang/invoke/MethodHandle" ∧ yX6_wedAll.cls ≠ "java/lang/invoke/VarHandle" ∧ (parseMethodDescriptor yX6_wedAll.desc).map (fun d => d.parameters.length) = some 1 := by decide +kernel
theorem iu_X6_wedAll_X6 : ∀ w ∈ u_ws RX6 TX6 12, w ∈ wsX6_wedAll := by decide +kernel
set_option maxHeartbeats 4000000 in
set_option maxRecDepth 100000 in
theorem k_X6_wedAll {l : Launch} {G : Gx} (a : Nat → Nat) (v : St) (x1 : Int32) {r : Int32} {v' : St} (hf : f_X6_wedAll v x1 = some (r, v')) : FC l G yX6_wedAll wsX6_wedAll ({ frames := 4, cells := 0, slots := 0, locals := 102 } : Room) [.ref (a 0), .int x1] (vW G a v) (vW G a v') (some (.int r)) := by
  refine fc_head (cc := cX6_wedAll) (maxL := 5) (ret := (some .int)) (C := RX6) (lv := [(0, .ref (a 0)), (1, .int x1)]) (by decide) rfl rfl (Nat.le_of_ble_eq_true rfl) rfl ?_
  intro p e s m below meth c ls A hx hb hr hml hown hts hlocks hE hP hD hAB hS hl
  have hCF : CallFix p m c cX6_wedAll 5 s ([.ref (a 0), .int x1] : List Value).toArray wsX6_wedAll RX6 := ⟨hx, hb, hml, hown, hts⟩
  have hwX6 : ∀ w ∈ u_ws RX6 TX6 12, w.before ([.ref (a 0), .int x1] : List Value).toArray s = true := fun w h => hts w (iu_X6_wedAll_X6 w h)
  have hk_fieldLink_RX6_47__BrideNotKnown_Valley___groomCount___I_ := hts (.fieldLink RX6 47 "BrideNotKnown$Valley" "groomCount" "I") (List.mem_of_getElem? (i := 1) rfl)
  rw [f_X6_wedAll] at hf
  refine lv_iconst (v := (0 : Int32)) hx hb dX6_wedAll_0 (by decide) ?_
  refine lv_istore_n (lv' := [(2, .int (0 : Int32)), (0, .ref (a 0)), (1, .int x1)]) hx hb dX6_wedAll_1 rfl hl (by decide) rfl (fun ls hl => ?_)
  refine lv_iconst (v := (0 : Int32)) hx hb dX6_wedAll_2 (by decide) ?_
  refine lv_istore_n (lv' := [(3, .int (0 : Int32)), (2, .int (0 : Int32)), (0, .ref (a 0)), (1, .int x1)]) hx hb dX6_wedAll_3 rfl hl (by decide) rfl (fun ls hl => ?_)
  refine lv_iconst (v := (0 : Int32)) hx hb dX6_wedAll_4 (by decide) ?_
  refine lv_istore (lv' := [(4, .int (0 : Int32)), (3, .int (0 : Int32)), (2, .int (0 : Int32)), (0, .ref (a 0)), (1, .int x1)]) hx hb dX6_wedAll_5 hl (by decide) rfl (fun ls hl => ?_)
  have L7_720 : ∀ (K7_51 : Int32 → Int32 → St → Option (Int32 × St)) (hK7_51 : ∀ (x2_721 : Int32) (x3_722 : Int32) (v_723 : St) (H : Heap) (locs : List Loc) (ls : Array Slot), va_P (gD G) vwCl (vW G a v_723) H → va_D A (vW G a v_723) → va_S A s.heap H locs → lv_has ls 5 [(1, .int x1), (2, .int x2_721), (3, .int x3_722)] → K7_51 x2_721 x3_722 v_723 = some (r, v') → W p l e (headSpec wsX6_wedAll ({ frames := 4, cells := 0, slots := 0, locals := 102 } : Room)).room s m ([.ref (a 0), .int x1] : List Value).toArray below meth c H locs 0 0 (MQ below (FQ G A (vW G a v') (some (.int r))) ([.ref (a 0), .int x1] : List Value).toArray s 0 0 A) (F0 m 51 ls [])) (n : Nat) (x2_716 : Int32) (x3_717 : Int32) (x4_718 : Int32) (v_719 : St) (H : Heap) (locs : List Loc) (ls : Array Slot), va_P (gD G) vwCl (vW G a v_719) H → va_D A (vW G a v_719) → va_S A s.heap H locs → lv_has ls 5 [(0, .ref (a 0)), (1, .int x1), (2, .int x2_716), (3, .int x3_717), (4, .int x4_718)] → f_X6_wedAll_7 n x2_716 x3_717 x4_718 v_719 K7_51 = some (r, v') → W p l e (headSpec wsX6_wedAll ({ frames := 4, cells := 0, slots := 0, locals := 102 } : Room)).room s m ([.ref (a 0), .int x1] : List Value).toArray below meth c H locs 0 0 (MQ below (FQ G A (vW G a v') (some (.int r))) ([.ref (a 0), .int x1] : List Value).toArray s 0 0 A) (F0 m 7 ls []) := by
    intro K7_51 hK7_51 n
    induction n with
    | zero =>
      intro x2_716 x3_717 x4_718 v_719 H locs ls hP hD hS hl hf
      exact no_some hf
    | succ n ih =>
      intro x2_716 x3_717 x4_718 v_719 H locs ls hP hD hS hl hf
      rw [f_X6_wedAll_7] at hf
      refine lv_iload hx hb dX6_wedAll_7 (lv_at hl 4 rfl) ?_
      refine lv_aload_n hx hb dX6_wedAll_9 rfl (lv_at hl 0 rfl) ?_
      refine fc_get (v := .int (v_719 7 3)) (ci := 3) (C := RX6) (T := TX6) (N := 12) hx hb hwX6 hown hE hP 0 rfl rfl 7 (by decide) hk_fieldLink_RX6_47__BrideNotKnown_Valley___groomCount___I_ (fun _ h => h) rfl dX6_wedAll_10 ?_
      refine lv_icmp_ge (tgt := 51) hx hb dX6_wedAll_13 (by decide) (fun c724 => ?_) (fun c724 => ?_)
      · have hf := ifT hf c724
        exact hK7_51 x2_716 x3_717 v_719 _ _ _ hP hD hS (lv_sub hl [1, 2, 3] rfl) hf
      · have hf := ifF hf c724
        refine lv_aload_n hx hb dX6_wedAll_16 rfl (lv_at hl 0 rfl) ?_
        refine lv_iload hx hb dX6_wedAll_17 (lv_at hl 4 rfl) ?_
        obtain ⟨q725, hq725, hf⟩ := bnd hf
        refine fc_callV (Wa' := (vW G a v_719)) (st1 := [.int q725]) (As := [.int x4_718]) (rest := []) hCF (k_X6_canWed a v_719 x4_718 hq725) (cwV 1 hts gX6_wedAll_X6_canWed rfl rfl rfl ⟨rfl, dk_X6_canWed⟩ ⟨Nat.le_of_ble_eq_true rfl, Nat.le_of_ble_eq_true rfl⟩) hE hAB hP hD hS [0, 1, 2, 3, 4, 5, 6, 7] rfl rfl (va_recv hE.1 hP (ci := 3) (q0 := 0) rfl rfl) rfl rfl rfl rfl hl.1 rfl (Nat.le_of_ble_eq_true rfl) dX6_wedAll_19 ⟨Nat.le_refl _, Nat.le_refl _⟩ (fun H locs hP hD hS => ?_)
        refine lv_if_eq (tgt := 45) hx hb dX6_wedAll_22 (by decide) (fun c726 => ?_) (fun c726 => ?_)
        · have hf := ifT hf c726
          refine lv_iinc (v := (x4_718 + (1 : Int32))) (lv' := [(4, .int (x4_718 + (1 : Int32))), (0, .ref (a 0)), (1, .int x1), (2, .int x2_716), (3, .int x3_717)]) hx hb dX6_wedAll_45 hl (k := 4) rfl rfl (by decide) rfl (fun ls hl => ?_)
          refine lv_goto (tgt := 7) hx hb dX6_wedAll_48 (by decide) ?_
          exact ih x2_716 x3_717 (x4_718 + (1 : Int32)) v_719 _ _ _ hP hD hS (lv_sub hl [1, 2, 3, 4, 0] rfl) hf
        · have hf := ifF hf c726
          refine lv_aload_n hx hb dX6_wedAll_25 rfl (lv_at hl 0 rfl) ?_
          refine lv_iload hx hb dX6_wedAll_26 (lv_at hl 4 rfl) ?_
          obtain ⟨q727, hq727, hf⟩ := bnd hf
          refine fc_callV (Wa' := (vW G a q727.2)) (st1 := [.int q727.1]) (As := [.int x4_718]) (rest := []) hCF (k_X6_wed a v_719 x4_718 hq727) (cwV 1 hts gX6_wedAll_X6_wed rfl rfl rfl ⟨rfl, dk_X6_wed⟩ ⟨Nat.le_of_ble_eq_true rfl, Nat.le_of_ble_eq_true rfl⟩) hE hAB hP hD hS [0, 1, 2, 3, 4, 5, 6, 7] rfl rfl (va_recv hE.1 hP (ci := 3) (q0 := 0) rfl rfl) rfl rfl rfl rfl hl.1 rfl (Nat.le_of_ble_eq_true rfl) dX6_wedAll_28 ⟨Nat.le_refl _, Nat.le_refl _⟩ (fun H locs hP hD hS => ?_)
          refine lv_bipush (v := (100 : Int32)) hx hb dX6_wedAll_31 (by decide) ?_
          refine lv_icmp_lt (tgt := 42) hx hb dX6_wedAll_33 (by decide) (fun c728 => ?_) (fun c728 => ?_)
          · have hf := ifT hf c728
            refine lv_iinc (v := (x3_717 + (1 : Int32))) (lv' := [(3, .int (x3_717 + (1 : Int32))), (0, .ref (a 0)), (1, .int x1), (2, .int x2_716), (4, .int x4_718)]) hx hb dX6_wedAll_42 hl (k := 3) rfl rfl (by decide) rfl (fun ls hl => ?_)
            refine lv_iinc (v := (x4_718 + (1 : Int32))) (lv' := [(4, .int (x4_718 + (1 : Int32))), (3, .int (x3_717 + (1 : Int32))), (0, .ref (a 0)), (1, .int x1), (2, .int x2_716)]) hx hb dX6_wedAll_45 hl (k := 4) rfl rfl (by decide) rfl (fun ls hl => ?_)
            refine lv_goto (tgt := 7) hx hb dX6_wedAll_48 (by decide) ?_
            exact ih x2_716 (x3_717 + (1 : Int32)) (x4_718 + (1 : Int32)) q727.2 _ _ _ hP hD hS (lv_sub hl [2, 3, 4, 1, 0] rfl) hf
          · have hf := ifF hf c728
            refine lv_iinc (v := (x2_716 + (1 : Int32))) (lv' := [(2, .int (x2_716 + (1 : Int32))), (0, .ref (a 0)), (1, .int x1), (3, .int x3_717), (4, .int x4_718)]) hx hb dX6_wedAll_36 hl (k := 2) rfl rfl (by decide) rfl (fun ls hl => ?_)
            refine lv_goto (tgt := 45) hx hb dX6_wedAll_39 (by decide) ?_
            refine lv_iinc (v := (x4_718 + (1 : Int32))) (lv' := [(4, .int (x4_718 + (1 : Int32))), (2, .int (x2_716 + (1 : Int32))), (0, .ref (a 0)), (1, .int x1), (3, .int x3_717)]) hx hb dX6_wedAll_45 hl (k := 4) rfl rfl (by decide) rfl (fun ls hl => ?_)
            refine lv_goto (tgt := 7) hx hb dX6_wedAll_48 (by decide) ?_
            exact ih (x2_716 + (1 : Int32)) x3_717 (x4_718 + (1 : Int32)) q727.2 _ _ _ hP hD hS (lv_sub hl [2, 3, 1, 4, 0] rfl) hf
  refine L7_720 _ ?_ FUEL (0 : Int32) (0 : Int32) (0 : Int32) v _ _ _ hP hD hS (lv_sub hl [3, 4, 2, 1, 0] rfl) hf
  intro x2_729 x3_730 v_731 H locs ls hP hD hS hl hf
  refine lv_iload_n hx hb dX6_wedAll_51 rfl (lv_at hl 0 rfl) ?_
  refine lv_if_ne (tgt := 59) hx hb dX6_wedAll_52 (by decide) (fun c732 => ?_) (fun c732 => ?_)
  · have hf := ifF hf c732
    refine lv_iload_n hx hb dX6_wedAll_59 rfl (lv_at hl 2 rfl) ?_
    exact fc_reti hx hb hr hlocks hP hS dX6_wedAll_60 (i2a hf) (congrArg (fun z => (vW G a z)) (i2b hf))
  · have hf := ifT hf c732
    refine lv_iload_n hx hb dX6_wedAll_55 rfl (lv_at hl 1 rfl) ?_
    refine lv_goto (tgt := 60) hx hb dX6_wedAll_56 (by decide) ?_
    exact fc_reti hx hb hr hlocks hP hS dX6_wedAll_60 (i2a hf) (congrArg (fun z => (vW G a z)) (i2b hf))
