theorem dk_X8_order : yX8_order.cls ≠ "java/lang/invoke/MethodHandle" ∧ yX8_order.cls ≠ "java/lang/invoke/VarHandle" ∧ (parseMethodDescriptor yX8_order.desc).map (fun d => d.parameters.length) = some 1 := by decide +kernel
set_option maxHeartbeats 4000000 in
set_option maxRecDepth 100000 in
theorem k_X8_order {l : Launch} {G : Gx} (a : Nat → Nat) (v : St) (x1 : Int32) {r : Int32} {v' : St} (hf : f_X8_order v x1 = some (r, v')) : FC l G yX8_order wsX8_order ({ frames := 7, cells := 0, slots := 0, locals := 159 } : Room) [.ref (a 0), .int x1] (mW G a v) (mW G a v') (some (.int r)) := by
  refine fc_head (cc := cX8_order) (maxL := 3) (ret := (some .int)) (C := RX8) (lv := [(0, .ref (a 0)), (1, .int x1)]) (by decide) rfl rfl (Nat.le_of_ble_eq_true rfl) rfl ?_
  intro p e s m below meth c ls A hx hb hr hml hown hts hlocks hE hP hD hAB hS hl
  have hCF : CallFix p m c cX8_order 3 s ([.ref (a 0), .int x1] : List Value).toArray wsX8_order RX8 := ⟨hx, hb, hml, hown, hts⟩
  rw [f_X8_order] at hf
  refine lv_iload_n hx hb dX8_order_0 rfl (lv_at hl 1 rfl) ?_
  refine lv_iconst (v := (0 : Int32)) hx hb dX8_order_1 (by decide) ?_
  refine lv_iconst (v := (1 : Int32)) hx hb dX8_order_2 (by decide) ?_
  obtain ⟨q2421, hq2421, hf⟩ := bnd hf
  refine fc_callS (Wa' := (mW G a v)) (st1 := [.int q2421]) (As := [.int x1, .int (0 : Int32), .int (1 : Int32)]) (rest := []) hCF (k_X8_isIn x1 (0 : Int32) (1 : Int32) hq2421) (va_cwS 3 hts gX8_order_X8_isIn rfl rfl rfl dk_X8_isIn ⟨Nat.le_of_ble_eq_true rfl, Nat.le_of_ble_eq_true rfl⟩) hE hAB hP hD hS [] rfl rfl rfl rfl rfl rfl hl.1 rfl (Nat.le_of_ble_eq_true rfl) dX8_order_3 ⟨Nat.le_refl _, Nat.le_refl _⟩ (fun H locs hP hD hS => ?_)
  refine lv_if_ne (tgt := 16) hx hb dX8_order_6 (by decide) (fun c2422 => ?_) (fun c2422 => ?_)
  · have hf := ifF hf c2422
    refine lv_aload_n hx hb dX8_order_16 rfl (lv_at hl 0 rfl) ?_
    obtain ⟨q2423, hq2423, hf⟩ := bnd hf
    refine fc_callV (Wa' := (mW G a q2423)) (st1 := []) (As := []) (rest := []) hCF (k_X8_thinks a v hq2423) (cwV 0 hts gX8_order_X8_thinks rfl rfl rfl ⟨rfl, dk_X8_thinks⟩ ⟨Nat.le_of_ble_eq_true rfl, Nat.le_of_ble_eq_true rfl⟩) hE hAB hP hD hS [0, 1, 2, 3, 4, 5, 6, 7, 8, 9, 10, 11, 12, 13, 14, 15, 16, 17, 18, 19, 20, 21, 22, 23, 24] mW_d (mW_c G a v) (va_recv hE.1 hP (ci := 5) (q0 := 0) rfl (mW_o G a v)) (mW_f G a v q2423) (mW_s G a v q2423) rfl rfl hl.1 rfl (Nat.le_of_ble_eq_true rfl) dX8_order_17 ⟨Nat.le_refl _, Nat.le_refl _⟩ (fun H locs hP hD hS => ?_)
    refine lv_aload_n hx hb dX8_order_20 rfl (lv_at hl 0 rfl) ?_
    obtain ⟨q2424, hq2424, hf⟩ := bnd hf
    refine fc_callV (Wa' := (mW G a q2424.2)) (st1 := [.int q2424.1]) (As := []) (rest := []) hCF (k_X8_wedsAll a q2423 hq2424) (cwV 0 hts gX8_order_X8_wedsAll rfl rfl rfl ⟨rfl, dk_X8_wedsAll⟩ ⟨Nat.le_of_ble_eq_true rfl, Nat.le_of_ble_eq_true rfl⟩) hE hAB hP hD hS [0, 1, 2, 3, 4, 5, 6, 7, 8, 9, 10, 11, 12, 13, 14, 15, 16, 17, 18, 19, 20, 21, 22, 23, 24] mW_d (mW_c G a q2423) (va_recv hE.1 hP (ci := 5) (q0 := 0) rfl (mW_o G a q2423)) (mW_f G a q2423 q2424.2) (mW_s G a q2423 q2424.2) rfl rfl hl.1 rfl (Nat.le_of_ble_eq_true rfl) dX8_order_21 ⟨Nat.le_refl _, Nat.le_refl _⟩ (fun H locs hP hD hS => ?_)
    refine lv_istore_n (lv' := [(2, .int q2424.1), (0, .ref (a 0)), (1, .int x1)]) hx hb dX8_order_24 rfl hl (by decide) rfl (fun ls hl => ?_)
    refine lv_aload_n hx hb dX8_order_25 rfl (lv_at hl 1 rfl) ?_
    obtain ⟨q2425, hq2425, hf⟩ := bnd hf
    refine fc_callV (Wa' := (mW G a q2425)) (st1 := []) (As := []) (rest := []) hCF (k_X8_forgets a q2424.2 hq2425) (cwV 0 hts gX8_order_X8_forgets rfl rfl rfl ⟨rfl, dk_X8_forgets⟩ ⟨Nat.le_of_ble_eq_true rfl, Nat.le_of_ble_eq_true rfl⟩) hE hAB hP hD hS [0, 1, 2, 3, 4, 5, 6, 7, 8, 9, 10, 11, 12, 13, 14, 15, 16, 17, 18, 19, 20, 21, 22, 23, 24] mW_d (mW_c G a q2424.2) (va_recv hE.1 hP (ci := 5) (q0 := 0) rfl (mW_o G a q2424.2)) (mW_f G a q2424.2 q2425) (mW_s G a q2424.2 q2425) rfl rfl hl.1 rfl (Nat.le_of_ble_eq_true rfl) dX8_order_26 ⟨Nat.le_refl _, Nat.le_refl _⟩ (fun H locs hP hD hS => ?_)
    refine lv_iload_n hx hb dX8_order_29 rfl (lv_at hl 2 rfl) ?_
    refine lv_if_ne (tgt := 40) hx hb dX8_order_30 (by decide) (fun c2426 => ?_) (fun c2426 => ?_)
    · have hf := ifF hf c2426
      refine lv_iload_n hx hb dX8_order_40 rfl (lv_at hl 0 rfl) ?_
      refine lv_bipush (v := (100 : Int32)) hx hb dX8_order_41 (by decide) ?_
      refine lv_irem hx hb dX8_order_43 (by decide) ?_
      exact fc_reti hx hb hr hlocks hP hS dX8_order_44 (i2a hf) (congrArg (fun z => (mW G a z)) (i2b hf))
    · have hf := ifT hf c2426
      refine lv_iload_n hx hb dX8_order_33 rfl (lv_at hl 0 rfl) ?_
      refine lv_bipush (v := (100 : Int32)) hx hb dX8_order_34 (by decide) ?_
      refine lv_idiv hx hb dX8_order_36 (by decide) ?_
      refine lv_goto (tgt := 44) hx hb dX8_order_37 (by decide) ?_
      exact fc_reti hx hb hr hlocks hP hS dX8_order_44 (i2a hf) (congrArg (fun z => (mW G a z)) (i2b hf))
  · have hf := ifT hf c2422
    refine lv_aload_n hx hb dX8_order_9 rfl (lv_at hl 0 rfl) ?_
    refine lv_bipush (v := (-2 : Int32)) hx hb dX8_order_10 (by decide) ?_
    obtain ⟨q2427, hq2427, hf⟩ := bnd hf
    refine fc_callV (Wa' := (mW G a q2427.2)) (st1 := [.int q2427.1]) (As := [.int (-2 : Int32)]) (rest := []) hCF (k_X8_no a v (-2 : Int32) hq2427) (cwV 1 hts gX8_order_X8_no rfl rfl rfl ⟨rfl, dk_X8_no⟩ ⟨Nat.le_of_ble_eq_true rfl, Nat.le_of_ble_eq_true rfl⟩) hE hAB hP hD hS [0, 1, 2, 3, 4, 5, 6, 7, 8, 9, 10, 11, 12, 13, 14, 15, 16, 17, 18, 19, 20, 21, 22, 23, 24] mW_d (mW_c G a v) (va_recv hE.1 hP (ci := 5) (q0 := 0) rfl (mW_o G a v)) (mW_f G a v q2427.2) (mW_s G a v q2427.2) rfl rfl hl.1 rfl (Nat.le_of_ble_eq_true rfl) dX8_order_12 ⟨Nat.le_refl _, Nat.le_refl _⟩ (fun H locs hP hD hS => ?_)
    exact fc_reti hx hb hr hlocks hP hS dX8_order_15 (i2a hf) (congrArg (fun z => (mW G a z)) (i2b hf))
theorem dk_X8_pairedBy : yX8_pairedBy.cls ≠ "java/lang/invoke/MethodHandle" ∧ yX8_pairedBy.cls ≠ "java/lang/invoke/VarHandle" ∧ (parseMethodDescriptor yX8_pairedBy.desc).map (fun d => d.parameters.length) = some 2 := by decide +kernel
theorem iu_X8_pairedBy_X8 : ∀ w ∈ u_ws RX8 TX8 29, w ∈ wsX8_pairedBy := by decide +kernel
set_option maxHeartbeats 4000000 in
set_option maxRecDepth 100000 in
theorem k_X8_pairedBy {l : Launch} {G : Gx} (a : Nat → Nat) (v : St) (x1 : Int32) (x2 : Int32) {r : Int32} (hf : f_X8_pairedBy v x1 x2 = some r) : FC l G yX8_pairedBy wsX8_pairedBy ({ frames := 6, cells := 0, slots := 0, locals := 133 } : Room) [.ref (a 0), .int x1, .int x2] (mW G a v) (mW G a v) (some (.int r)) := by
  refine fc_head (cc := cX8_pairedBy) (maxL := 4) (ret := (some .int)) (C := RX8) (lv := [(0, .ref (a 0)), (1, .int x1), (2, .int x2)]) (by decide) rfl rfl (Nat.le_of_ble_eq_true rfl) rfl ?_
  intro p e s m below meth c ls A hx hb hr hml hown hts hlocks hE hP hD hAB hS hl
  have hCF : CallFix p m c cX8_pairedBy 4 s ([.ref (a 0), .int x1, .int x2] : List Value).toArray wsX8_pairedBy RX8 := ⟨hx, hb, hml, hown, hts⟩
  have hwX8 : ∀ w ∈ u_ws RX8 TX8 29, w.before ([.ref (a 0), .int x1, .int x2] : List Value).toArray s = true := fun w h => hts w (iu_X8_pairedBy_X8 w h)
  have hk_fieldLink_RX8_66__BrideNotKnownModel___brides___I_ := hts (.fieldLink RX8 66 "BrideNotKnownModel" "brides" "I") (List.mem_of_getElem? (i := 1) rfl)
  have hk_fieldLink_RX8_57__BrideNotKnownModel___pairsFrom_____I_ := hts (.fieldLink RX8 57 "BrideNotKnownModel" "pairsFrom" "[[I") (List.mem_of_getElem? (i := 2) rfl)
  rw [f_X8_pairedBy] at hf
  refine lv_iconst (v := (0 : Int32)) hx hb dX8_pairedBy_0 (by decide) ?_
  refine lv_istore_n (lv' := [(3, .int (0 : Int32)), (0, .ref (a 0)), (1, .int x1), (2, .int x2)]) hx hb dX8_pairedBy_1 rfl hl (by decide) rfl (fun ls hl => ?_)
  have L2_2431 : ∀ (n : Nat) (x3_2430 : Int32) (H : Heap) (locs : List Loc) (ls : Array Slot), va_P (gD G) vwCl (mW G a v) H → va_D A (mW G a v) → va_S A s.heap H locs → lv_has ls 4 [(0, .ref (a 0)), (1, .int x1), (2, .int x2), (3, .int x3_2430)] → f_X8_pairedBy_2 v x1 x2 n x3_2430 = some r → W p l e (headSpec wsX8_pairedBy ({ frames := 6, cells := 0, slots := 0, locals := 133 } : Room)).room s m ([.ref (a 0), .int x1, .int x2] : List Value).toArray below meth c H locs 0 0 (MQ below (FQ G A (mW G a v) (some (.int r))) ([.ref (a 0), .int x1, .int x2] : List Value).toArray s 0 0 A) (F0 m 2 ls []) := by
    intro n
    induction n with
    | zero =>
      intro x3_2430 H locs ls hP hD hS hl hf
      exact no_some hf
    | succ n ih =>
      intro x3_2430 H locs ls hP hD hS hl hf
      rw [f_X8_pairedBy_2] at hf
      refine lv_iload_n hx hb dX8_pairedBy_2 rfl (lv_at hl 3 rfl) ?_
      refine lv_aload_n hx hb dX8_pairedBy_3 rfl (lv_at hl 0 rfl) ?_
      refine fc_get (v := .int (v 23 0)) (ci := 5) (C := RX8) (T := TX8) (N := 29) hx hb hwX8 hown hE hP 0 (mW_o G a v) rfl 10 (by decide) hk_fieldLink_RX8_66__BrideNotKnownModel___brides___I_ (fun _ h => h) rfl dX8_pairedBy_4 ?_
      refine lv_icmp_ge (tgt := 64) hx hb dX8_pairedBy_7 (by decide) (fun c2432 => ?_) (fun c2432 => ?_)
      · have hf := ifT hf c2432
        refine lv_bipush (v := (-9 : Int32)) hx hb dX8_pairedBy_64 (by decide) ?_
        exact fc_reti hx hb hr hlocks hP hS dX8_pairedBy_66 (i1 hf) rfl
      · have hf := ifF hf c2432
        refine lv_iload_n hx hb dX8_pairedBy_10 rfl (lv_at hl 2 rfl) ?_
        refine lv_iload_n hx hb dX8_pairedBy_11 rfl (lv_at hl 3 rfl) ?_
        obtain ⟨q2433, hq2433, hf⟩ := bnd hf
        refine fc_callS (Wa' := (mW G a v)) (st1 := [.int q2433]) (As := [.int x2, .int x3_2430]) (rest := []) hCF (k_X8_has x2 x3_2430 hq2433) (va_cwS 2 hts gX8_pairedBy_X8_has rfl rfl rfl dk_X8_has ⟨Nat.le_of_ble_eq_true rfl, Nat.le_of_ble_eq_true rfl⟩) hE hAB hP hD hS [] rfl rfl rfl rfl rfl rfl hl.1 rfl (Nat.le_of_ble_eq_true rfl) dX8_pairedBy_12 ⟨Nat.le_refl _, Nat.le_refl _⟩ (fun H locs hP hD hS => ?_)
        refine lv_if_eq (tgt := 58) hx hb dX8_pairedBy_15 (by decide) (fun c2434 => ?_) (fun c2434 => ?_)
        · have hf := ifT hf c2434
          refine lv_iinc (v := (x3_2430 + (1 : Int32))) (lv' := [(3, .int (x3_2430 + (1 : Int32))), (0, .ref (a 0)), (1, .int x1), (2, .int x2)]) hx hb dX8_pairedBy_58 hl (k := 3) rfl rfl (by decide) rfl (fun ls hl => ?_)
          refine lv_goto (tgt := 2) hx hb dX8_pairedBy_61 (by decide) ?_
          exact ih (x3_2430 + (1 : Int32)) _ _ _ hP hD hS (lv_sub hl [1, 2, 3, 0] rfl) hf
        · have hf := ifF hf c2434
          refine lv_aload_n hx hb dX8_pairedBy_18 rfl (lv_at hl 0 rfl) ?_
          refine lv_iload_n hx hb dX8_pairedBy_19 rfl (lv_at hl 1 rfl) ?_
          refine lv_iload_n hx hb dX8_pairedBy_20 rfl (lv_at hl 3 rfl) ?_
          obtain ⟨q2435, hq2435, hf⟩ := bnd hf
          refine fc_callV (Wa' := (mW G a v)) (st1 := [.int q2435]) (As := [.int x1, .int x3_2430]) (rest := []) hCF (k_X8_isPair a v x1 x3_2430 hq2435) (cwV 2 hts gX8_pairedBy_X8_isPair rfl rfl rfl ⟨rfl, dk_X8_isPair⟩ ⟨Nat.le_of_ble_eq_true rfl, Nat.le_of_ble_eq_true rfl⟩) hE hAB hP hD hS [0, 1, 2, 3, 4, 5, 6, 7, 8, 9, 10, 11, 12, 13, 14, 15, 16, 17, 18, 19, 20, 21, 22, 23, 24] mW_d (mW_c G a v) (va_recv hE.1 hP (ci := 5) (q0 := 0) rfl (mW_o G a v)) (mW_f G a v v) (mW_s G a v v) rfl rfl hl.1 rfl (Nat.le_of_ble_eq_true rfl) dX8_pairedBy_21 ⟨Nat.le_refl _, Nat.le_refl _⟩ (fun H locs hP hD hS => ?_)
          refine lv_if_eq (tgt := 58) hx hb dX8_pairedBy_24 (by decide) (fun c2436 => ?_) (fun c2436 => ?_)
          · have hf := ifT hf c2436
            refine lv_iinc (v := (x3_2430 + (1 : Int32))) (lv' := [(3, .int (x3_2430 + (1 : Int32))), (0, .ref (a 0)), (1, .int x1), (2, .int x2)]) hx hb dX8_pairedBy_58 hl (k := 3) rfl rfl (by decide) rfl (fun ls hl => ?_)
            refine lv_goto (tgt := 2) hx hb dX8_pairedBy_61 (by decide) ?_
            exact ih (x3_2430 + (1 : Int32)) _ _ _ hP hD hS (lv_sub hl [1, 2, 3, 0] rfl) hf
          · have hf := ifF hf c2436
            refine lv_iconst (v := (1 : Int32)) hx hb dX8_pairedBy_27 (by decide) ?_
            refine lv_aload_n hx hb dX8_pairedBy_28 rfl (lv_at hl 0 rfl) ?_
            refine fc_get (v := .ref (a 24)) (ci := 5) (C := RX8) (T := TX8) (N := 29) hx hb hwX8 hown hE hP 0 (mW_o G a v) rfl 24 (by decide) hk_fieldLink_RX8_57__BrideNotKnownModel___pairsFrom_____I_ (fun _ h => h) rfl dX8_pairedBy_29 ?_
            refine lv_iload_n hx hb dX8_pairedBy_32 rfl (lv_at hl 1 rfl) ?_
            refine lv_iconst (v := (1 : Int32)) hx hb dX8_pairedBy_33 (by decide) ?_
            refine lv_iadd hx hb dX8_pairedBy_34 ?_
            obtain ⟨c2437, hf⟩ := gd_some hf
            refine fc_aald (n := 6) (f := (fun i => if i < 6 then some (a (18 + i)) else none)) (b := (a (18 + (x1 + (1 : Int32)).toNatClampNeg))) hx hb hE hP 24 (mW_g G a v) (inB_in c2437) (if_pos (inB_lt c2437)) dX8_pairedBy_35 ?_
            refine lv_iload_n hx hb dX8_pairedBy_36 rfl (lv_at hl 2 rfl) ?_
            refine lv_iconst (v := (1 : Int32)) hx hb dX8_pairedBy_37 (by decide) ?_
            refine lv_iload_n hx hb dX8_pairedBy_38 rfl (lv_at hl 3 rfl) ?_
            refine lv_ishl hx hb dX8_pairedBy_39 ?_
            refine lv_iconst (v := (-1 : Int32)) hx hb dX8_pairedBy_40 (by decide) ?_
            refine lv_ixor hx hb dX8_pairedBy_41 ?_
            refine lv_iand hx hb dX8_pairedBy_42 ?_
            obtain ⟨c2438, hf⟩ := gd_some hf
            refine fc_iald (n := 256) (f := (v (17 + (x1 + (1 : Int32)).toNatClampNeg))) hx hb hE hP (18 + (x1 + (1 : Int32)).toNatClampNeg) (mW_row G a v (inB_lt c2437)) (inB_in c2438) dX8_pairedBy_43 ?_
            refine lv_iadd hx hb dX8_pairedBy_44 ?_
            refine lv_aload_n hx hb dX8_pairedBy_45 rfl (lv_at hl 0 rfl) ?_
            refine fc_get (v := .ref (a 24)) (ci := 5) (C := RX8) (T := TX8) (N := 29) hx hb hwX8 hown hE hP 0 (mW_o G a v) rfl 24 (by decide) hk_fieldLink_RX8_57__BrideNotKnownModel___pairsFrom_____I_ (fun _ h => h) rfl dX8_pairedBy_46 ?_
            refine lv_iload_n hx hb dX8_pairedBy_49 rfl (lv_at hl 1 rfl) ?_
            obtain ⟨c2439, hf⟩ := gd_some hf
            refine fc_aald (n := 6) (f := (fun i => if i < 6 then some (a (18 + i)) else none)) (b := (a (18 + x1.toNatClampNeg))) hx hb hE hP 24 (mW_g G a v) (inB_in c2439) (if_pos (inB_lt c2439)) dX8_pairedBy_50 ?_
            refine lv_iload_n hx hb dX8_pairedBy_51 rfl (lv_at hl 2 rfl) ?_
            obtain ⟨c2440, hf⟩ := gd_some hf
            refine fc_iald (n := 256) (f := (v (17 + x1.toNatClampNeg))) hx hb hE hP (18 + x1.toNatClampNeg) (mW_row G a v (inB_lt c2439)) (inB_in c2440) dX8_pairedBy_52 ?_
            refine lv_icmp_ne (tgt := 58) hx hb dX8_pairedBy_53 (by decide) (fun c2441 => ?_) (fun c2441 => ?_)
            · have hf := ifF hf c2441
              refine lv_iinc (v := (x3_2430 + (1 : Int32))) (lv' := [(3, .int (x3_2430 + (1 : Int32))), (0, .ref (a 0)), (1, .int x1), (2, .int x2)]) hx hb dX8_pairedBy_58 hl (k := 3) rfl rfl (by decide) rfl (fun ls hl => ?_)
              refine lv_goto (tgt := 2) hx hb dX8_pairedBy_61 (by decide) ?_
              exact ih (x3_2430 + (1 : Int32)) _ _ _ hP hD hS (lv_sub hl [1, 2, 3, 0] rfl) hf
            · have hf := ifT hf c2441
              refine lv_iload_n hx hb dX8_pairedBy_56 rfl (lv_at hl 3 rfl) ?_
              exact fc_reti hx hb hr hlocks hP hS dX8_pairedBy_57 (i1 hf) rfl
  exact L2_2431 FUEL (0 : Int32) _ _ _ hP hD hS (lv_sub hl [1, 2, 3, 0] rfl) hf
theorem dk_X8_pairs : yX8_pairs.cls ≠ "java/lang/invoke/MethodHandle" ∧ yX8_pairs.cls ≠ "java/lang/invoke/VarHandle" ∧ (parseMethodDescriptor yX8_pairs.desc).map (fun d => d.parameters.length) = some 1 := by decide +kernel
theorem iu_X8_pairs_X8 : ∀ w ∈ u_ws RX8 TX8 29, w ∈ wsX8_pairs := by decide +kernel
set_option maxHeartbeats 4000000 in
set_option maxRecDepth 100000 in
theorem k_X8_pairs {l : Launch} {G : Gx} (a : Nat → Nat) (v : St) (x1 : Int32) {r : Int32} {v' : St} (hf : f_X8_pairs v x1 = some (r, v')) : FC l G yX8_pairs wsX8_pairs ({ frames := 7, cells := 0, slots := 0, locals := 156 } : Room) [.ref (a 0), .int x1] (mW G a v) (mW G a v') (some (.int r)) := by
  refine fc_head (cc := cX8_pairs) (maxL := 5) (ret := (some .int)) (C := RX8) (lv := [(0, .ref (a 0)), (1, .int x1)]) (by decide) rfl rfl (Nat.le_of_ble_eq_true rfl) rfl ?_
  intro p e s m below meth c ls A hx hb hr hml hown hts hlocks hE hP hD hAB hS hl
  have hCF : CallFix p m c cX8_pairs 5 s ([.ref (a 0), .int x1] : List Value).toArray wsX8_pairs RX8 := ⟨hx, hb, hml, hown, hts⟩
  have hwX8 : ∀ w ∈ u_ws RX8 TX8 29, w.before ([.ref (a 0), .int x1] : List Value).toArray s = true := fun w h => hts w (iu_X8_pairs_X8 w h)
  have hk_fieldLink_RX8_76__BrideNotKnownModel___grooms___I_ := hts (.fieldLink RX8 76 "BrideNotKnownModel" "grooms" "I") (List.mem_of_getElem? (i := 1) rfl)
  have hk_fieldLink_RX8_57__BrideNotKnownModel___pairsFrom_____I_ := hts (.fieldLink RX8 57 "BrideNotKnownModel" "pairsFrom" "[[I") (List.mem_of_getElem? (i := 2) rfl)
  rw [f_X8_pairs] at hf
  refine lv_iload_n hx hb dX8_pairs_0 rfl (lv_at hl 1 rfl) ?_
  refine lv_iconst (v := (-1 : Int32)) hx hb dX8_pairs_1 (by decide) ?_
  refine lv_icmp_lt (tgt := 13) hx hb dX8_pairs_2 (by decide) (fun c2446 => ?_) (fun c2446 => ?_)
  · have hf := ifT hf c2446
    refine lv_aload_n hx hb dX8_pairs_13 rfl (lv_at hl 0 rfl) ?_
    refine lv_iconst (v := (-1 : Int32)) hx hb dX8_pairs_14 (by decide) ?_
    obtain ⟨q2447, hq2447, hf⟩ := bnd hf
    refine fc_callV (Wa' := (mW G a q2447.2)) (st1 := [.int q2447.1]) (As := [.int (-1 : Int32)]) (rest := []) hCF (k_X8_no a v (-1 : Int32) hq2447) (cwV 1 hts gX8_pairs_X8_no rfl rfl rfl ⟨rfl, dk_X8_no⟩ ⟨Nat.le_of_ble_eq_true rfl, Nat.le_of_ble_eq_true rfl⟩) hE hAB hP hD hS [0, 1, 2, 3, 4, 5, 6, 7, 8, 9, 10, 11, 12, 13, 14, 15, 16, 17, 18, 19, 20, 21, 22, 23, 24] mW_d (mW_c G a v) (va_recv hE.1 hP (ci := 5) (q0 := 0) rfl (mW_o G a v)) (mW_f G a v q2447.2) (mW_s G a v q2447.2) rfl rfl hl.1 rfl (Nat.le_of_ble_eq_true rfl) dX8_pairs_15 ⟨Nat.le_refl _, Nat.le_refl _⟩ (fun H locs hP hD hS => ?_)
    exact fc_reti hx hb hr hlocks hP hS dX8_pairs_18 (i2a hf) (congrArg (fun z => (mW G a z)) (i2b hf))
  · have hf := ifF hf c2446
    refine lv_iload_n hx hb dX8_pairs_5 rfl (lv_at hl 1 rfl) ?_
    refine lv_aload_n hx hb dX8_pairs_6 rfl (lv_at hl 0 rfl) ?_
    refine fc_get (v := .int (v 23 1)) (ci := 5) (C := RX8) (T := TX8) (N := 29) hx hb hwX8 hown hE hP 0 (mW_o G a v) rfl 11 (by decide) hk_fieldLink_RX8_76__BrideNotKnownModel___grooms___I_ (fun _ h => h) rfl dX8_pairs_7 ?_
    refine lv_icmp_lt (tgt := 19) hx hb dX8_pairs_10 (by decide) (fun c2448 => ?_) (fun c2448 => ?_)
    · have hf := ifT hf c2448
      refine lv_aload_n hx hb dX8_pairs_19 rfl (lv_at hl 0 rfl) ?_
      obtain ⟨q2449, hq2449, hf⟩ := bnd hf
      refine fc_callV (Wa' := (mW G a q2449)) (st1 := []) (As := []) (rest := []) hCF (k_X8_findPairs a v hq2449) (cwV 0 hts gX8_pairs_X8_findPairs rfl rfl rfl ⟨rfl, dk_X8_findPairs⟩ ⟨Nat.le_of_ble_eq_true rfl, Nat.le_of_ble_eq_true rfl⟩) hE hAB hP hD hS [0, 1, 2, 3, 4, 5, 6, 7, 8, 9, 10, 11, 12, 13, 14, 15, 16, 17, 18, 19, 20, 21, 22, 23, 24] mW_d (mW_c G a v) (va_recv hE.1 hP (ci := 5) (q0 := 0) rfl (mW_o G a v)) (mW_f G a v q2449) (mW_s G a v q2449) rfl rfl hl.1 rfl (Nat.le_of_ble_eq_true rfl) dX8_pairs_20 ⟨Nat.le_refl _, Nat.le_refl _⟩ (fun H locs hP hD hS => ?_)
      refine lv_iload_n hx hb dX8_pairs_23 rfl (lv_at hl 1 rfl) ?_
      refine lv_if_ge (tgt := 38) hx hb dX8_pairs_24 (by decide) (fun c2450 => ?_) (fun c2450 => ?_)
      · have hf := ifT hf c2450
        refine lv_sipush (v := (255 : Int32)) hx hb dX8_pairs_38 (by decide) ?_
        refine lv_istore_n (lv' := [(2, .int (255 : Int32)), (0, .ref (a 0)), (1, .int x1)]) hx hb dX8_pairs_41 rfl hl (by decide) rfl (fun ls hl => ?_)
        refine lv_bipush (v := (-9 : Int32)) hx hb dX8_pairs_42 (by decide) ?_
        refine lv_istore_n (lv' := [(3, .int (-9 : Int32)), (2, .int (255 : Int32)), (0, .ref (a 0)), (1, .int x1)]) hx hb dX8_pairs_44 rfl hl (by decide) rfl (fun ls hl => ?_)
        refine lv_iconst (v := (0 : Int32)) hx hb dX8_pairs_45 (by decide) ?_
        refine lv_istore (lv' := [(4, .int (0 : Int32)), (3, .int (-9 : Int32)), (2, .int (255 : Int32)), (0, .ref (a 0)), (1, .int x1)]) hx hb dX8_pairs_46 hl (by decide) rfl (fun ls hl => ?_)
        have L48_2454 : ∀ (n : Nat) (x2_2451 : Int32) (x3_2452 : Int32) (x4_2453 : Int32) (H : Heap) (locs : List Loc) (ls : Array Slot), va_P (gD G) vwCl (mW G a q2449) H → va_D A (mW G a q2449) → va_S A s.heap H locs → lv_has ls 5 [(0, .ref (a 0)), (1, .int x1), (2, .int x2_2451), (3, .int x3_2452), (4, .int x4_2453)] → f_X8_pairs_48 q2449 x1 n x2_2451 x3_2452 x4_2453 = some (r, v') → W p l e (headSpec wsX8_pairs ({ frames := 7, cells := 0, slots := 0, locals := 156 } : Room)).room s m ([.ref (a 0), .int x1] : List Value).toArray below meth c H locs 0 0 (MQ below (FQ G A (mW G a v') (some (.int r))) ([.ref (a 0), .int x1] : List Value).toArray s 0 0 A) (F0 m 48 ls []) := by
          intro n
          induction n with
          | zero =>
            intro x2_2451 x3_2452 x4_2453 H locs ls hP hD hS hl hf
            exact no_some hf
          | succ n ih =>
            intro x2_2451 x3_2452 x4_2453 H locs ls hP hD hS hl hf
            rw [f_X8_pairs_48] at hf
            refine lv_iload hx hb dX8_pairs_48 (lv_at hl 4 rfl) ?_
            refine lv_iload_n hx hb dX8_pairs_50 rfl (lv_at hl 1 rfl) ?_
            refine lv_icmp_gt (tgt := 84) hx hb dX8_pairs_51 (by decide) (fun c2455 => ?_) (fun c2455 => ?_)
            · have hf := ifT hf c2455
              refine lv_iload_n hx hb dX8_pairs_84 rfl (lv_at hl 3 rfl) ?_
              exact fc_reti hx hb hr hlocks hP hS dX8_pairs_85 (i2a hf) (congrArg (fun z => (mW G a z)) (i2b hf))
            · have hf := ifF hf c2455
              refine lv_aload_n hx hb dX8_pairs_54 rfl (lv_at hl 0 rfl) ?_
              refine lv_iload hx hb dX8_pairs_55 (lv_at hl 4 rfl) ?_
              refine lv_iload_n hx hb dX8_pairs_57 rfl (lv_at hl 2 rfl) ?_
              obtain ⟨q2456, hq2456, hf⟩ := bnd hf
              refine fc_callV (Wa' := (mW G a q2449)) (st1 := [.int q2456]) (As := [.int x4_2453, .int x2_2451]) (rest := []) hCF (k_X8_pairedBy a q2449 x4_2453 x2_2451 hq2456) (cwV 2 hts gX8_pairs_X8_pairedBy rfl rfl rfl ⟨rfl, dk_X8_pairedBy⟩ ⟨Nat.le_of_ble_eq_true rfl, Nat.le_of_ble_eq_true rfl⟩) hE hAB hP hD hS [0, 1, 2, 3, 4, 5, 6, 7, 8, 9, 10, 11, 12, 13, 14, 15, 16, 17, 18, 19, 20, 21, 22, 23, 24] mW_d (mW_c G a q2449) (va_recv hE.1 hP (ci := 5) (q0 := 0) rfl (mW_o G a q2449)) (mW_f G a q2449 q2449) (mW_s G a q2449 q2449) rfl rfl hl.1 rfl (Nat.le_of_ble_eq_true rfl) dX8_pairs_58 ⟨Nat.le_refl _, Nat.le_refl _⟩ (fun H locs hP hD hS => ?_)
              refine lv_istore_n (lv' := [(3, .int q2456), (0, .ref (a 0)), (1, .int x1), (2, .int x2_2451), (4, .int x4_2453)]) hx hb dX8_pairs_61 rfl hl (by decide) rfl (fun ls hl => ?_)
              refine lv_iload_n hx hb dX8_pairs_62 rfl (lv_at hl 3 rfl) ?_
              refine lv_iload_n hx hb dX8_pairs_63 rfl (lv_at hl 0 rfl) ?_
              refine lv_if_ge (tgt := 71) hx hb dX8_pairs_64 (by decide) (fun c2457 => ?_) (fun c2457 => ?_)
              · have hf := ifT hf c2457
                refine lv_iconst (v := (1 : Int32)) hx hb dX8_pairs_71 (by decide) ?_
                refine lv_iload_n hx hb dX8_pairs_72 rfl (lv_at hl 0 rfl) ?_
                refine lv_ishl hx hb dX8_pairs_73 ?_
                refine lv_iconst (v := (-1 : Int32)) hx hb dX8_pairs_74 (by decide) ?_
                refine lv_ixor hx hb dX8_pairs_75 ?_
                refine lv_iand hx hb dX8_pairs_76 ?_
                refine lv_istore_n (lv' := [(2, .int (x2_2451 &&& (((1 : Int32) <<< (q2456 &&& 31)) ^^^ (-1 : Int32)))), (3, .int q2456), (0, .ref (a 0)), (1, .int x1), (4, .int x4_2453)]) hx hb dX8_pairs_77 rfl hl (by decide) rfl (fun ls hl => ?_)
                refine lv_iinc (v := (x4_2453 + (1 : Int32))) (lv' := [(4, .int (x4_2453 + (1 : Int32))), (2, .int (x2_2451 &&& (((1 : Int32) <<< (q2456 &&& 31)) ^^^ (-1 : Int32)))), (3, .int q2456), (0, .ref (a 0)), (1, .int x1)]) hx hb dX8_pairs_78 hl (k := 4) rfl rfl (by decide) rfl (fun ls hl => ?_)
                refine lv_goto (tgt := 48) hx hb dX8_pairs_81 (by decide) ?_
                exact ih (x2_2451 &&& (((1 : Int32) <<< (q2456 &&& 31)) ^^^ (-1 : Int32))) q2456 (x4_2453 + (1 : Int32)) _ _ _ hP hD hS (lv_sub hl [3, 4, 1, 2, 0] rfl) hf
              · have hf := ifF hf c2457
                refine lv_iconst (v := (-1 : Int32)) hx hb dX8_pairs_67 (by decide) ?_
                refine lv_goto (tgt := 76) hx hb dX8_pairs_68 (by decide) ?_
                refine lv_iand hx hb dX8_pairs_76 ?_
                refine lv_istore_n (lv' := [(2, .int (x2_2451 &&& (-1 : Int32))), (3, .int q2456), (0, .ref (a 0)), (1, .int x1), (4, .int x4_2453)]) hx hb dX8_pairs_77 rfl hl (by decide) rfl (fun ls hl => ?_)
                refine lv_iinc (v := (x4_2453 + (1 : Int32))) (lv' := [(4, .int (x4_2453 + (1 : Int32))), (2, .int (x2_2451 &&& (-1 : Int32))), (3, .int q2456), (0, .ref (a 0)), (1, .int x1)]) hx hb dX8_pairs_78 hl (k := 4) rfl rfl (by decide) rfl (fun ls hl => ?_)
                refine lv_goto (tgt := 48) hx hb dX8_pairs_81 (by decide) ?_
                exact ih (x2_2451 &&& (-1 : Int32)) q2456 (x4_2453 + (1 : Int32)) _ _ _ hP hD hS (lv_sub hl [3, 4, 1, 2, 0] rfl) hf
        exact L48_2454 FUEL (255 : Int32) (-9 : Int32) (0 : Int32) _ _ _ hP hD hS (lv_sub hl [3, 4, 2, 1, 0] rfl) hf
      · have hf := ifF hf c2450
        refine lv_aload_n hx hb dX8_pairs_27 rfl (lv_at hl 0 rfl) ?_
        refine fc_get (v := .ref (a 24)) (ci := 5) (C := RX8) (T := TX8) (N := 29) hx hb hwX8 hown hE hP 0 (mW_o G a q2449) rfl 24 (by decide) hk_fieldLink_RX8_57__BrideNotKnownModel___pairsFrom_____I_ (fun _ h => h) rfl dX8_pairs_28 ?_
        refine lv_iconst (v := (0 : Int32)) hx hb dX8_pairs_31 (by decide) ?_
        obtain ⟨c2458, hf⟩ := gd_some hf
        refine fc_aald (n := 6) (f := (fun i => if i < 6 then some (a (18 + i)) else none)) (b := (a (18 + (0 : Int32).toNatClampNeg))) hx hb hE hP 24 (mW_g G a q2449) (inB_in c2458) (if_pos (inB_lt c2458)) dX8_pairs_32 ?_
        refine lv_sipush (v := (255 : Int32)) hx hb dX8_pairs_33 (by decide) ?_
        refine fc_iald (n := 256) (f := (q2449 (17 + (0 : Int32).toNatClampNeg))) hx hb hE hP (18 + (0 : Int32).toNatClampNeg) (mW_row G a q2449 (inB_lt c2458)) (inB_in (by decide)) dX8_pairs_36 ?_
        exact fc_reti hx hb hr hlocks hP hS dX8_pairs_37 (i2a hf) (congrArg (fun z => (mW G a z)) (i2b hf))
    · have hf := ifF hf c2448
      refine lv_aload_n hx hb dX8_pairs_13 rfl (lv_at hl 0 rfl) ?_
      refine lv_iconst (v := (-1 : Int32)) hx hb dX8_pairs_14 (by decide) ?_
      obtain ⟨q2459, hq2459, hf⟩ := bnd hf
      refine fc_callV (Wa' := (mW G a q2459.2)) (st1 := [.int q2459.1]) (As := [.int (-1 : Int32)]) (rest := []) hCF (k_X8_no a v (-1 : Int32) hq2459) (cwV 1 hts gX8_pairs_X8_no rfl rfl rfl ⟨rfl, dk_X8_no⟩ ⟨Nat.le_of_ble_eq_true rfl, Nat.le_of_ble_eq_true rfl⟩) hE hAB hP hD hS [0, 1, 2, 3, 4, 5, 6, 7, 8, 9, 10, 11, 12, 13, 14, 15, 16, 17, 18, 19, 20, 21, 22, 23, 24] mW_d (mW_c G a v) (va_recv hE.1 hP (ci := 5) (q0 := 0) rfl (mW_o G a v)) (mW_f G a v q2459.2) (mW_s G a v q2459.2) rfl rfl hl.1 rfl (Nat.le_of_ble_eq_true rfl) dX8_pairs_15 ⟨Nat.le_refl _, Nat.le_refl _⟩ (fun H locs hP hD hS => ?_)
      exact fc_reti hx hb hr hlocks hP hS dX8_pairs_18 (i2a hf) (congrArg (fun z => (mW G a z)) (i2b hf))
theorem dk_X8_readsDigits : yX8_readsDigits.cls ≠ "java/lang/invoke/MethodHandle" ∧ yX8_readsDigits.cls ≠ "java/lang/invoke/VarHandle" ∧ (parseMethodDescriptor yX8_readsDigits.desc).map (fun d => d.parameters.length) = some 2 := by decide +kernel
theorem iu_X8_readsDigits_X8 : ∀ w ∈ u_ws RX8 TX8 29, w ∈ wsX8_readsDigits := by decide +kernel
set_option maxHeartbeats 4000000 in
set_option maxRecDepth 100000 in
theorem k_X8_readsDigits {l : Launch} {G : Gx} (a : Nat → Nat) (v : St) (x1 : Int32) (x2 : Int32) {r : Int32} {v' : St} (hf : f_X8_readsDigits v x1 x2 = some (r, v')) : FC l G yX8_readsDigits wsX8_readsDigits ({ frames := 1, cells := 0, slots := 0, locals := 22 } : Room) [.ref (a 0), .int x1, .int x2] (mW G a v) (mW G a v') (some (.int r)) := by
  refine fc_head (cc := cX8_readsDigits) (maxL := 5) (ret := (some .boolean)) (C := RX8) (lv := [(0, .ref (a 0)), (1, .int x1), (2, .int x2)]) (by decide) rfl rfl (Nat.le_of_ble_eq_true rfl) rfl ?_
  intro p e s m below meth c ls A hx hb hr hml hown hts hlocks hE hP hD hAB hS hl
  have hCF : CallFix p m c cX8_readsDigits 5 s ([.ref (a 0), .int x1, .int x2] : List Value).toArray wsX8_readsDigits RX8 := ⟨hx, hb, hml, hown, hts⟩
  have hwX8 : ∀ w ∈ u_ws RX8 TX8 29, w.before ([.ref (a 0), .int x1, .int x2] : List Value).toArray s = true := fun w h => hts w (iu_X8_readsDigits_X8 w h)
  have hk_fieldLink_RX8_49__BrideNotKnownModel___told____I_ := hts (.fieldLink RX8 49 "BrideNotKnownModel" "told" "[I") (List.mem_of_getElem? (i := 2) rfl)
  have hk_fieldLink_RX8_90__BrideNotKnownModel___at___I_ := hts (.fieldLink RX8 90 "BrideNotKnownModel" "at" "I") (List.mem_of_getElem? (i := 1) rfl)
  rw [f_X8_readsDigits] at hf
  refine lv_iconst (v := (0 : Int32)) hx hb dX8_readsDigits_0 (by decide) ?_
  refine lv_istore_n (lv' := [(3, .int (0 : Int32)), (0, .ref (a 0)), (1, .int x1), (2, .int x2)]) hx hb dX8_readsDigits_1 rfl hl (by decide) rfl (fun ls hl => ?_)
  refine lv_iconst (v := (0 : Int32)) hx hb dX8_readsDigits_2 (by decide) ?_
  refine lv_istore (lv' := [(4, .int (0 : Int32)), (3, .int (0 : Int32)), (0, .ref (a 0)), (1, .int x1), (2, .int x2)]) hx hb dX8_readsDigits_3 hl (by decide) rfl (fun ls hl => ?_)
  have L5_2466 : ∀ (n : Nat) (x3_2463 : Int32) (x4_2464 : Int32) (v_2465 : St) (H : Heap) (locs : List Loc) (ls : Array Slot), va_P (gD G) vwCl (mW G a v_2465) H → va_D A (mW G a v_2465) → va_S A s.heap H locs → lv_has ls 5 [(0, .ref (a 0)), (1, .int x1), (2, .int x2), (3, .int x3_2463), (4, .int x4_2464)] → f_X8_readsDigits_5 x1 x2 n x3_2463 x4_2464 v_2465 = some (r, v') → W p l e (headSpec wsX8_readsDigits ({ frames := 1, cells := 0, slots := 0, locals := 22 } : Room)).room s m ([.ref (a 0), .int x1, .int x2] : List Value).toArray below meth c H locs 0 0 (MQ below (FQ G A (mW G a v') (some (.int r))) ([.ref (a 0), .int x1, .int x2] : List Value).toArray s 0 0 A) (F0 m 5 ls []) := by
    intro n
    induction n with
    | zero =>
      intro x3_2463 x4_2464 v_2465 H locs ls hP hD hS hl hf
      exact no_some hf
    | succ n ih =>
      intro x3_2463 x4_2464 v_2465 H locs ls hP hD hS hl hf
      rw [f_X8_readsDigits_5] at hf
      refine lv_iload hx hb dX8_readsDigits_5 (lv_at hl 4 rfl) ?_
      refine lv_iload_n hx hb dX8_readsDigits_7 rfl (lv_at hl 2 rfl) ?_
      refine lv_icmp_ge (tgt := 56) hx hb dX8_readsDigits_8 (by decide) (fun c2467 => ?_) (fun c2467 => ?_)
      · have hf := ifT hf c2467
        refine lv_aload_n hx hb dX8_readsDigits_56 rfl (lv_at hl 0 rfl) ?_
        refine fc_get (v := .ref (a 14)) (ci := 5) (C := RX8) (T := TX8) (N := 29) hx hb hwX8 hown hE hP 0 (mW_o G a v_2465) rfl 16 (by decide) hk_fieldLink_RX8_49__BrideNotKnownModel___told____I_ (fun _ h => h) rfl dX8_readsDigits_57 ?_
        refine lv_iload_n hx hb dX8_readsDigits_60 rfl (lv_at hl 1 rfl) ?_
        refine lv_iload_n hx hb dX8_readsDigits_61 rfl (lv_at hl 3 rfl) ?_
        obtain ⟨c2468, hf⟩ := gd_some hf
        refine fc_iast (n := 144) (f := (v_2465 13)) (Wa' := (mW G a (sA v_2465 13 (upd (v_2465 13) x1.toNatClampNeg x3_2463)))) hx hb hE hP hD hS 14 (mW_a14 G a v_2465) (inB_in c2468) dX8_readsDigits_62 (mW_t14 G a v_2465 (upd (v_2465 13) x1.toNatClampNeg x3_2463)) (fun H locs hP hD hS => ?_)
        refine lv_iconst (v := (1 : Int32)) hx hb dX8_readsDigits_63 (by decide) ?_
        exact fc_retz hx hb hr hlocks hP hS dX8_readsDigits_64 (by decide) (i2a hf) (congrArg (fun z => (mW G a z)) (i2b hf))
      · have hf := ifF hf c2467
        refine lv_aload_n hx hb dX8_readsDigits_11 rfl (lv_at hl 0 rfl) ?_
        obtain ⟨q2469, hq2469, hf⟩ := bnd hf
        refine fc_callV (Wa' := (mW G a v_2465)) (st1 := [.int q2469]) (As := []) (rest := []) hCF (k_X8_next a v_2465 hq2469) (cwV 0 hts gX8_readsDigits_X8_next rfl rfl rfl ⟨rfl, dk_X8_next⟩ ⟨Nat.le_of_ble_eq_true rfl, Nat.le_of_ble_eq_true rfl⟩) hE hAB hP hD hS [0, 1, 2, 3, 4, 5, 6, 7, 8, 9, 10, 11, 12, 13, 14, 15, 16, 17, 18, 19, 20, 21, 22, 23, 24] mW_d (mW_c G a v_2465) (va_recv hE.1 hP (ci := 5) (q0 := 0) rfl (mW_o G a v_2465)) (mW_f G a v_2465 v_2465) (mW_s G a v_2465 v_2465) rfl rfl hl.1 rfl (Nat.le_of_ble_eq_true rfl) dX8_readsDigits_12 ⟨Nat.le_refl _, Nat.le_refl _⟩ (fun H locs hP hD hS => ?_)
        refine lv_bipush (v := (48 : Int32)) hx hb dX8_readsDigits_15 (by decide) ?_
        refine lv_bipush (v := (57 : Int32)) hx hb dX8_readsDigits_17 (by decide) ?_
        obtain ⟨q2470, hq2470, hf⟩ := bnd hf
        refine fc_callS (Wa' := (mW G a v_2465)) (st1 := [.int q2470]) (As := [.int q2469, .int (48 : Int32), .int (57 : Int32)]) (rest := []) hCF (k_X8_isIn q2469 (48 : Int32) (57 : Int32) hq2470) (va_cwS 3 hts gX8_readsDigits_X8_isIn rfl rfl rfl dk_X8_isIn ⟨Nat.le_of_ble_eq_true rfl, Nat.le_of_ble_eq_true rfl⟩) hE hAB hP hD hS [] rfl rfl rfl rfl rfl rfl hl.1 rfl (Nat.le_of_ble_eq_true rfl) dX8_readsDigits_19 ⟨Nat.le_refl _, Nat.le_refl _⟩ (fun H locs hP hD hS => ?_)
        refine lv_if_ne (tgt := 27) hx hb dX8_readsDigits_22 (by decide) (fun c2471 => ?_) (fun c2471 => ?_)
        · have hf := ifF hf c2471
          refine lv_bipush (v := (10 : Int32)) hx hb dX8_readsDigits_27 (by decide) ?_
          refine lv_iload_n hx hb dX8_readsDigits_29 rfl (lv_at hl 3 rfl) ?_
          refine lv_imul hx hb dX8_readsDigits_30 ?_
          refine lv_aload_n hx hb dX8_readsDigits_31 rfl (lv_at hl 0 rfl) ?_
          obtain ⟨q2472, hq2472, hf⟩ := bnd hf
          refine fc_callV (Wa' := (mW G a v_2465)) (st1 := [.int q2472, .int ((10 : Int32) * x3_2463)]) (As := []) (rest := [.int ((10 : Int32) * x3_2463)]) hCF (k_X8_next a v_2465 hq2472) (cwV 0 hts gX8_readsDigits_X8_next rfl rfl rfl ⟨rfl, dk_X8_next⟩ ⟨Nat.le_of_ble_eq_true rfl, Nat.le_of_ble_eq_true rfl⟩) hE hAB hP hD hS [0, 1, 2, 3, 4, 5, 6, 7, 8, 9, 10, 11, 12, 13, 14, 15, 16, 17, 18, 19, 20, 21, 22, 23, 24] mW_d (mW_c G a v_2465) (va_recv hE.1 hP (ci := 5) (q0 := 0) rfl (mW_o G a v_2465)) (mW_f G a v_2465 v_2465) (mW_s G a v_2465 v_2465) rfl rfl hl.1 rfl (Nat.le_of_ble_eq_true rfl) dX8_readsDigits_32 ⟨Nat.le_refl _, Nat.le_refl _⟩ (fun H locs hP hD hS => ?_)
          refine lv_iadd hx hb dX8_readsDigits_35 ?_
          refine lv_bipush (v := (48 : Int32)) hx hb dX8_readsDigits_36 (by decide) ?_
          refine lv_isub hx hb dX8_readsDigits_38 ?_
          refine lv_istore_n (lv' := [(3, .int ((((10 : Int32) * x3_2463) + q2472) - (48 : Int32))), (0, .ref (a 0)), (1, .int x1), (2, .int x2), (4, .int x4_2464)]) hx hb dX8_readsDigits_39 rfl hl (by decide) rfl (fun ls hl => ?_)
          refine lv_aload_n hx hb dX8_readsDigits_40 rfl (lv_at hl 1 rfl) ?_
          refine lv_dup hx hb dX8_readsDigits_41 rfl ?_
          refine fc_get (v := .int (v_2465 23 4)) (ci := 5) (C := RX8) (T := TX8) (N := 29) hx hb hwX8 hown hE hP 0 (mW_o G a v_2465) rfl 18 (by decide) hk_fieldLink_RX8_90__BrideNotKnownModel___at___I_ (fun _ h => h) rfl dX8_readsDigits_42 ?_
          refine lv_iconst (v := (1 : Int32)) hx hb dX8_readsDigits_45 (by decide) ?_
          refine lv_iadd hx hb dX8_readsDigits_46 ?_
          refine fc_put (Wa' := (mW G a (sA v_2465 23 (upd (v_2465 23) 4 ((v_2465 23 4) + (1 : Int32)))))) (ci := 5) (C := RX8) (T := TX8) (N := 29) hx hb hwX8 tyX8 tyX8_ok nmX8 hown hE hP hD hS 0 (mW_o G a v_2465) rfl 18 (by decide) hk_fieldLink_RX8_90__BrideNotKnownModel___at___I_ (fun _ h => h) rfl rfl rfl (Nat.le_of_ble_eq_true rfl) dX8_readsDigits_47 (mW_p18 G a v_2465 ((v_2465 23 4) + (1 : Int32))) (fun H locs hP hD hS => ?_)
          refine lv_iinc (v := (x4_2464 + (1 : Int32))) (lv' := [(4, .int (x4_2464 + (1 : Int32))), (3, .int ((((10 : Int32) * x3_2463) + q2472) - (48 : Int32))), (0, .ref (a 0)), (1, .int x1), (2, .int x2)]) hx hb dX8_readsDigits_50 hl (k := 4) rfl rfl (by decide) rfl (fun ls hl => ?_)
          refine lv_goto (tgt := 5) hx hb dX8_readsDigits_53 (by decide) ?_
          exact ih ((((10 : Int32) * x3_2463) + q2472) - (48 : Int32)) (x4_2464 + (1 : Int32)) (sA v_2465 23 (upd (v_2465 23) 4 ((v_2465 23 4) + (1 : Int32)))) _ _ _ hP hD hS (lv_sub hl [2, 3, 4, 1, 0] rfl) hf
        · have hf := ifT hf c2471
          refine lv_iconst (v := (0 : Int32)) hx hb dX8_readsDigits_25 (by decide) ?_
          exact fc_retz hx hb hr hlocks hP hS dX8_readsDigits_26 (by decide) (i2a hf) (congrArg (fun z => (mW G a z)) (i2b hf))
  exact L5_2466 FUEL (0 : Int32) (0 : Int32) v _ _ _ hP hD hS (lv_sub hl [2, 3, 4, 1, 0] rfl) hf
theorem dk_X8_readsBride : yX8_readsBride.cls ≠ "java/lang/invoke/MethodHandle" ∧ yX8_readsBride.cls ≠ "java/lang/invoke/VarHandle" ∧ (parseMethodDescriptor yX8_readsBride.desc).map (fun d => d.parameters.length) = some 1 := by decide +kernel
theorem iu_X8_readsBride_X8 : ∀ w ∈ u_ws RX8 TX8 29, w ∈ wsX8_readsBride := by decide +kernel
set_option maxHeartbeats 4000000 in
set_option maxRecDepth 100000 in
theorem k_X8_readsBride {l : Launch} {G : Gx} (a : Nat → Nat) (v : St) (x1 : Int32) {r : Int32} {v' : St} (hf : f_X8_readsBride v x1 = some (r, v')) : FC l G yX8_readsBride wsX8_readsBride ({ frames := 2, cells := 0, slots := 0, locals := 46 } : Room) [.ref (a 0), .int x1] (mW G a v) (mW G a v') (some (.int r)) := by
  refine fc_head (cc := cX8_readsBride) (maxL := 2) (ret := (some .boolean)) (C := RX8) (lv := [(0, .ref (a 0)), (1, .int x1)]) (by decide) rfl rfl (Nat.le_of_ble_eq_true rfl) rfl ?_
  intro p e s m below meth c ls A hx hb hr hml hown hts hlocks hE hP hD hAB hS hl
  have hCF : CallFix p m c cX8_readsBride 2 s ([.ref (a 0), .int x1] : List Value).toArray wsX8_readsBride RX8 := ⟨hx, hb, hml, hown, hts⟩
  have hwX8 : ∀ w ∈ u_ws RX8 TX8 29, w.before ([.ref (a 0), .int x1] : List Value).toArray s = true := fun w h => hts w (iu_X8_readsBride_X8 w h)
  have hk_fieldLink_RX8_49__BrideNotKnownModel___told____I_ := hts (.fieldLink RX8 49 "BrideNotKnownModel" "told" "[I") (List.mem_of_getElem? (i := 1) rfl)
  have hk_fieldLink_RX8_90__BrideNotKnownModel___at___I_ := hts (.fieldLink RX8 90 "BrideNotKnownModel" "at" "I") (List.mem_of_getElem? (i := 2) rfl)
  rw [f_X8_readsBride] at hf
  refine lv_aload_n hx hb dX8_readsBride_0 rfl (lv_at hl 0 rfl) ?_
  refine fc_get (v := .ref (a 14)) (ci := 5) (C := RX8) (T := TX8) (N := 29) hx hb hwX8 hown hE hP 0 (mW_o G a v) rfl 16 (by decide) hk_fieldLink_RX8_49__BrideNotKnownModel___told____I_ (fun _ h => h) rfl dX8_readsBride_1 ?_
  refine lv_iload_n hx hb dX8_readsBride_4 rfl (lv_at hl 1 rfl) ?_
  refine lv_aload_n hx hb dX8_readsBride_5 rfl (lv_at hl 0 rfl) ?_
  obtain ⟨q2477, hq2477, hf⟩ := bnd hf
  refine fc_callV (Wa' := (mW G a v)) (st1 := [.int q2477, .int x1, .ref (a 14)]) (As := []) (rest := [.int x1, .ref (a 14)]) hCF (k_X8_next a v hq2477) (cwV 0 hts gX8_readsBride_X8_next rfl rfl rfl ⟨rfl, dk_X8_next⟩ ⟨Nat.le_of_ble_eq_true rfl, Nat.le_of_ble_eq_true rfl⟩) hE hAB hP hD hS [0, 1, 2, 3, 4, 5, 6, 7, 8, 9, 10, 11, 12, 13, 14, 15, 16, 17, 18, 19, 20, 21, 22, 23, 24] mW_d (mW_c G a v) (va_recv hE.1 hP (ci := 5) (q0 := 0) rfl (mW_o G a v)) (mW_f G a v v) (mW_s G a v v) rfl rfl hl.1 rfl (Nat.le_of_ble_eq_true rfl) dX8_readsBride_6 ⟨Nat.le_refl _, Nat.le_refl _⟩ (fun H locs hP hD hS => ?_)
  obtain ⟨q2478, hq2478, hf⟩ := bnd hf
  refine fc_callS (Wa' := (mW G a v)) (st1 := [.int q2478, .int x1, .ref (a 14)]) (As := [.int q2477]) (rest := [.int x1, .ref (a 14)]) hCF (k_X8_kindOf q2477 hq2478) (va_cwS 1 hts gX8_readsBride_X8_kindOf rfl rfl rfl dk_X8_kindOf ⟨Nat.le_of_ble_eq_true rfl, Nat.le_of_ble_eq_true rfl⟩) hE hAB hP hD hS [] rfl rfl rfl rfl rfl rfl hl.1 rfl (Nat.le_of_ble_eq_true rfl) dX8_readsBride_9 ⟨Nat.le_refl _, Nat.le_refl _⟩ (fun H locs hP hD hS => ?_)
  obtain ⟨c2479, hf⟩ := gd_some hf
  refine fc_iast (n := 144) (f := (v 13)) (Wa' := (mW G a (sA v 13 (upd (v 13) x1.toNatClampNeg q2478)))) hx hb hE hP hD hS 14 (mW_a14 G a v) (inB_in c2479) dX8_readsBride_12 (mW_t14 G a v (upd (v 13) x1.toNatClampNeg q2478)) (fun H locs hP hD hS => ?_)
  refine lv_aload_n hx hb dX8_readsBride_13 rfl (lv_at hl 0 rfl) ?_
  refine fc_get (v := .ref (a 14)) (ci := 5) (C := RX8) (T := TX8) (N := 29) hx hb hwX8 hown hE hP 0 (mW_o G a (sA v 13 (upd (v 13) x1.toNatClampNeg q2478))) rfl 16 (by decide) hk_fieldLink_RX8_49__BrideNotKnownModel___told____I_ (fun _ h => h) rfl dX8_readsBride_14 ?_
  refine lv_iload_n hx hb dX8_readsBride_17 rfl (lv_at hl 1 rfl) ?_
  obtain ⟨c2480, hf⟩ := gd_some hf
  refine fc_iald (n := 144) (f := (upd (v 13) x1.toNatClampNeg q2478)) hx hb hE hP 14 (mW_a14 G a (sA v 13 (upd (v 13) x1.toNatClampNeg q2478))) (inB_in c2480) dX8_readsBride_18 ?_
  refine lv_if_ge (tgt := 24) hx hb dX8_readsBride_19 (by decide) (fun c2481 => ?_) (fun c2481 => ?_)
  · have hf := ifT hf c2481
    refine lv_aload_n hx hb dX8_readsBride_24 rfl (lv_at hl 0 rfl) ?_
    refine lv_dup hx hb dX8_readsBride_25 rfl ?_
    refine fc_get (v := .int (v 23 4)) (ci := 5) (C := RX8) (T := TX8) (N := 29) hx hb hwX8 hown hE hP 0 (mW_o G a (sA v 13 (upd (v 13) x1.toNatClampNeg q2478))) rfl 18 (by decide) hk_fieldLink_RX8_90__BrideNotKnownModel___at___I_ (fun _ h => h) rfl dX8_readsBride_26 ?_
    refine lv_iconst (v := (1 : Int32)) hx hb dX8_readsBride_29 (by decide) ?_
    refine lv_iadd hx hb dX8_readsBride_30 ?_
    refine fc_put (Wa' := (mW G a (sA (sA v 13 (upd (v 13) x1.toNatClampNeg q2478)) 23 (upd (v 23) 4 ((v 23 4) + (1 : Int32)))))) (ci := 5) (C := RX8) (T := TX8) (N := 29) hx hb hwX8 tyX8 tyX8_ok nmX8 hown hE hP hD hS 0 (mW_o G a (sA v 13 (upd (v 13) x1.toNatClampNeg q2478))) rfl 18 (by decide) hk_fieldLink_RX8_90__BrideNotKnownModel___at___I_ (fun _ h => h) rfl rfl rfl (Nat.le_of_ble_eq_true rfl) dX8_readsBride_31 (mW_p18 G a (sA v 13 (upd (v 13) x1.toNatClampNeg q2478)) ((v 23 4) + (1 : Int32))) (fun H locs hP hD hS => ?_)
    refine lv_aload_n hx hb dX8_readsBride_34 rfl (lv_at hl 0 rfl) ?_
    refine lv_iload_n hx hb dX8_readsBride_35 rfl (lv_at hl 1 rfl) ?_
    refine lv_iconst (v := (1 : Int32)) hx hb dX8_readsBride_36 (by decide) ?_
    refine lv_iadd hx hb dX8_readsBride_37 ?_
    refine lv_iconst (v := (1 : Int32)) hx hb dX8_readsBride_38 (by decide) ?_
    obtain ⟨q2482, hq2482, hf⟩ := bnd hf
    refine fc_callV (Wa' := (mW G a q2482.2)) (st1 := [.int q2482.1]) (As := [.int (x1 + (1 : Int32)), .int (1 : Int32)]) (rest := []) hCF (k_X8_readsDigits a (sA (sA v 13 (upd (v 13) x1.toNatClampNeg q2478)) 23 (upd (v 23) 4 ((v 23 4) + (1 : Int32)))) (x1 + (1 : Int32)) (1 : Int32) hq2482) (cwV 2 hts gX8_readsBride_X8_readsDigits rfl rfl rfl ⟨rfl, dk_X8_readsDigits⟩ ⟨Nat.le_of_ble_eq_true rfl, Nat.le_of_ble_eq_true rfl⟩) hE hAB hP hD hS [0, 1, 2, 3, 4, 5, 6, 7, 8, 9, 10, 11, 12, 13, 14, 15, 16, 17, 18, 19, 20, 21, 22, 23, 24] mW_d (mW_c G a (sA (sA v 13 (upd (v 13) x1.toNatClampNeg q2478)) 23 (upd (v 23) 4 ((v 23 4) + (1 : Int32))))) (va_recv hE.1 hP (ci := 5) (q0 := 0) rfl (mW_o G a (sA (sA v 13 (upd (v 13) x1.toNatClampNeg q2478)) 23 (upd (v 23) 4 ((v 23 4) + (1 : Int32)))))) (mW_f G a (sA (sA v 13 (upd (v 13) x1.toNatClampNeg q2478)) 23 (upd (v 23) 4 ((v 23 4) + (1 : Int32)))) q2482.2) (mW_s G a (sA (sA v 13 (upd (v 13) x1.toNatClampNeg q2478)) 23 (upd (v 23) 4 ((v 23 4) + (1 : Int32)))) q2482.2) rfl rfl hl.1 rfl (Nat.le_of_ble_eq_true rfl) dX8_readsBride_39 ⟨Nat.le_refl _, Nat.le_refl _⟩ (fun H locs hP hD hS => ?_)
    refine lv_if_eq (tgt := 60) hx hb dX8_readsBride_42 (by decide) (fun c2483 => ?_) (fun c2483 => ?_)
    · have hf := ifT hf c2483
      refine lv_iconst (v := (0 : Int32)) hx hb dX8_readsBride_60 (by decide) ?_
      exact fc_retz hx hb hr hlocks hP hS dX8_readsBride_61 (by decide) (i2a hf) (congrArg (fun z => (mW G a z)) (i2b hf))
    · have hf := ifF hf c2483
      refine lv_aload_n hx hb dX8_readsBride_45 rfl (lv_at hl 0 rfl) ?_
      refine lv_iload_n hx hb dX8_readsBride_46 rfl (lv_at hl 1 rfl) ?_
      refine lv_iconst (v := (2 : Int32)) hx hb dX8_readsBride_47 (by decide) ?_
      refine lv_iadd hx hb dX8_readsBride_48 ?_
      refine lv_iconst (v := (2 : Int32)) hx hb dX8_readsBride_49 (by decide) ?_
      obtain ⟨q2484, hq2484, hf⟩ := bnd hf
      refine fc_callV (Wa' := (mW G a q2484.2)) (st1 := [.int q2484.1]) (As := [.int (x1 + (2 : Int32)), .int (2 : Int32)]) (rest := []) hCF (k_X8_readsDigits a q2482.2 (x1 + (2 : Int32)) (2 : Int32) hq2484) (cwV 2 hts gX8_readsBride_X8_readsDigits rfl rfl rfl ⟨rfl, dk_X8_readsDigits⟩ ⟨Nat.le_of_ble_eq_true rfl, Nat.le_of_ble_eq_true rfl⟩) hE hAB hP hD hS [0, 1, 2, 3, 4, 5, 6, 7, 8, 9, 10, 11, 12, 13, 14, 15, 16, 17, 18, 19, 20, 21, 22, 23, 24] mW_d (mW_c G a q2482.2) (va_recv hE.1 hP (ci := 5) (q0 := 0) rfl (mW_o G a q2482.2)) (mW_f G a q2482.2 q2484.2) (mW_s G a q2482.2 q2484.2) rfl rfl hl.1 rfl (Nat.le_of_ble_eq_true rfl) dX8_readsBride_50 ⟨Nat.le_refl _, Nat.le_refl _⟩ (fun H locs hP hD hS => ?_)
      refine lv_if_eq (tgt := 60) hx hb dX8_readsBride_53 (by decide) (fun c2485 => ?_) (fun c2485 => ?_)
      · have hf := ifT hf c2485
        refine lv_iconst (v := (0 : Int32)) hx hb dX8_readsBride_60 (by decide) ?_
        exact fc_retz hx hb hr hlocks hP hS dX8_readsBride_61 (by decide) (i2a hf) (congrArg (fun z => (mW G a z)) (i2b hf))
      · have hf := ifF hf c2485
        refine lv_iconst (v := (1 : Int32)) hx hb dX8_readsBride_56 (by decide) ?_
        refine lv_goto (tgt := 61) hx hb dX8_readsBride_57 (by decide) ?_
        exact fc_retz hx hb hr hlocks hP hS dX8_readsBride_61 (by decide) (i2a hf) (congrArg (fun z => (mW G a z)) (i2b hf))
  · have hf := ifF hf c2481
    refine lv_iconst (v := (0 : Int32)) hx hb dX8_readsBride_22 (by decide) ?_
    exact fc_retz hx hb hr hlocks hP hS dX8_readsBride_23 (by decide) (i2a hf) (congrArg (fun z => (mW G a z)) (i2b hf))
theorem dk_X8_readsAll : yX8_readsAll.cls ≠ "java/lang/invoke/MethodHandle" ∧ yX8_readsAll.cls ≠ "java/lang/invoke/VarHandle" ∧ (parseMethodDescriptor yX8_readsAll.desc).map (fun d => d.parameters.length) = some 2 := by decide +kernel
set_option maxHeartbeats 4000000 in
set_option maxRecDepth 100000 in
theorem k_X8_readsAll {l : Launch} {G : Gx} (a : Nat → Nat) (v : St) (x1 : Int32) (x2 : Int32) {r : Int32} {v' : St} (hf : f_X8_readsAll v x1 x2 = some (r, v')) : FC l G yX8_readsAll wsX8_readsAll ({ frames := 3, cells := 0, slots := 0, locals := 67 } : Room) [.ref (a 0), .int x1, .int x2] (mW G a v) (mW G a v') (some (.int r)) := by
  refine fc_head (cc := cX8_readsAll) (maxL := 3) (ret := (some .boolean)) (C := RX8) (lv := [(0, .ref (a 0)), (1, .int x1), (2, .int x2)]) (by decide) rfl rfl (Nat.le_of_ble_eq_true rfl) rfl ?_
  intro p e s m below meth c ls A hx hb hr hml hown hts hlocks hE hP hD hAB hS hl
  have hCF : CallFix p m c cX8_readsAll 3 s ([.ref (a 0), .int x1, .int x2] : List Value).toArray wsX8_readsAll RX8 := ⟨hx, hb, hml, hown, hts⟩
  rw [f_X8_readsAll] at hf
  refine lv_iload_n hx hb dX8_readsAll_0 rfl (lv_at hl 1 rfl) ?_
  by_cases c2493 : x1 = (98 : Int32)
  · have hf := ifT hf c2493
    refine lv_lookup (off := 43) (tgt := 44) hx hb dX8_readsAll_1 (by decide) (by rw [c2493]; rfl) (by decide) ?_
    refine lv_aload_n hx hb dX8_readsAll_44 rfl (lv_at hl 0 rfl) ?_
    refine lv_iload_n hx hb dX8_readsAll_45 rfl (lv_at hl 2 rfl) ?_
    obtain ⟨q2494, hq2494, hf⟩ := bnd hf
    refine fc_callV (Wa' := (mW G a q2494.2)) (st1 := [.int q2494.1]) (As := [.int x2]) (rest := []) hCF (k_X8_readsBride a v x2 hq2494) (cwV 1 hts gX8_readsAll_X8_readsBride rfl rfl rfl ⟨rfl, dk_X8_readsBride⟩ ⟨Nat.le_of_ble_eq_true rfl, Nat.le_of_ble_eq_true rfl⟩) hE hAB hP hD hS [0, 1, 2, 3, 4, 5, 6, 7, 8, 9, 10, 11, 12, 13, 14, 15, 16, 17, 18, 19, 20, 21, 22, 23, 24] mW_d (mW_c G a v) (va_recv hE.1 hP (ci := 5) (q0 := 0) rfl (mW_o G a v)) (mW_f G a v q2494.2) (mW_s G a v q2494.2) rfl rfl hl.1 rfl (Nat.le_of_ble_eq_true rfl) dX8_readsAll_46 ⟨Nat.le_refl _, Nat.le_refl _⟩ (fun H locs hP hD hS => ?_)
    obtain ⟨c2495, hf⟩ := gd_some hf
    exact fc_retz hx hb hr hlocks hP hS dX8_readsAll_49 (isZ_nar c2495).1 (i2a hf) (congrArg (fun z => (mW G a z)) (i2b hf))
  · have hf := ifF hf c2493
    by_cases c2496 : x1 = (103 : Int32)
    · have hf := ifT hf c2496
      refine lv_lookup (off := 49) (tgt := 50) hx hb dX8_readsAll_1 (by decide) (by rw [c2496]; rfl) (by decide) ?_
      refine lv_aload_n hx hb dX8_readsAll_50 rfl (lv_at hl 0 rfl) ?_
      refine lv_iload_n hx hb dX8_readsAll_51 rfl (lv_at hl 2 rfl) ?_
      refine lv_iconst (v := (2 : Int32)) hx hb dX8_readsAll_52 (by decide) ?_
      obtain ⟨q2497, hq2497, hf⟩ := bnd hf
      refine fc_callV (Wa' := (mW G a q2497.2)) (st1 := [.int q2497.1]) (As := [.int x2, .int (2 : Int32)]) (rest := []) hCF (k_X8_readsDigits a v x2 (2 : Int32) hq2497) (cwV 2 hts gX8_readsAll_X8_readsDigits rfl rfl rfl ⟨rfl, dk_X8_readsDigits⟩ ⟨Nat.le_of_ble_eq_true rfl, Nat.le_of_ble_eq_true rfl⟩) hE hAB hP hD hS [0, 1, 2, 3, 4, 5, 6, 7, 8, 9, 10, 11, 12, 13, 14, 15, 16, 17, 18, 19, 20, 21, 22, 23, 24] mW_d (mW_c G a v) (va_recv hE.1 hP (ci := 5) (q0 := 0) rfl (mW_o G a v)) (mW_f G a v q2497.2) (mW_s G a v q2497.2) rfl rfl hl.1 rfl (Nat.le_of_ble_eq_true rfl) dX8_readsAll_53 ⟨Nat.le_refl _, Nat.le_refl _⟩ (fun H locs hP hD hS => ?_)
      refine lv_if_eq (tgt := 74) hx hb dX8_readsAll_56 (by decide) (fun c2498 => ?_) (fun c2498 => ?_)
      · have hf := ifT hf c2498
        refine lv_iconst (v := (0 : Int32)) hx hb dX8_readsAll_74 (by decide) ?_
        exact fc_retz hx hb hr hlocks hP hS dX8_readsAll_75 (by decide) (i2a hf) (congrArg (fun z => (mW G a z)) (i2b hf))
      · have hf := ifF hf c2498
        refine lv_aload_n hx hb dX8_readsAll_59 rfl (lv_at hl 0 rfl) ?_
        refine lv_iload_n hx hb dX8_readsAll_60 rfl (lv_at hl 2 rfl) ?_
        refine lv_iconst (v := (1 : Int32)) hx hb dX8_readsAll_61 (by decide) ?_
        refine lv_iadd hx hb dX8_readsAll_62 ?_
        refine lv_iconst (v := (2 : Int32)) hx hb dX8_readsAll_63 (by decide) ?_
        obtain ⟨q2499, hq2499, hf⟩ := bnd hf
        refine fc_callV (Wa' := (mW G a q2499.2)) (st1 := [.int q2499.1]) (As := [.int (x2 + (1 : Int32)), .int (2 : Int32)]) (rest := []) hCF (k_X8_readsDigits a q2497.2 (x2 + (1 : Int32)) (2 : Int32) hq2499) (cwV 2 hts gX8_readsAll_X8_readsDigits rfl rfl rfl ⟨rfl, dk_X8_readsDigits⟩ ⟨Nat.le_of_ble_eq_true rfl, Nat.le_of_ble_eq_true rfl⟩) hE hAB hP hD hS [0, 1, 2, 3, 4, 5, 6, 7, 8, 9, 10, 11, 12, 13, 14, 15, 16, 17, 18, 19, 20, 21, 22, 23, 24] mW_d (mW_c G a q2497.2) (va_recv hE.1 hP (ci := 5) (q0 := 0) rfl (mW_o G a q2497.2)) (mW_f G a q2497.2 q2499.2) (mW_s G a q2497.2 q2499.2) rfl rfl hl.1 rfl (Nat.le_of_ble_eq_true rfl) dX8_readsAll_64 ⟨Nat.le_refl _, Nat.le_refl _⟩ (fun H locs hP hD hS => ?_)
        refine lv_if_eq (tgt := 74) hx hb dX8_readsAll_67 (by decide) (fun c2500 => ?_) (fun c2500 => ?_)
        · have hf := ifT hf c2500
          refine lv_iconst (v := (0 : Int32)) hx hb dX8_readsAll_74 (by decide) ?_
          exact fc_retz hx hb hr hlocks hP hS dX8_readsAll_75 (by decide) (i2a hf) (congrArg (fun z => (mW G a z)) (i2b hf))
        · have hf := ifF hf c2500
          refine lv_iconst (v := (1 : Int32)) hx hb dX8_readsAll_70 (by decide) ?_
          refine lv_goto (tgt := 75) hx hb dX8_readsAll_71 (by decide) ?_
          exact fc_retz hx hb hr hlocks hP hS dX8_readsAll_75 (by decide) (i2a hf) (congrArg (fun z => (mW G a z)) (i2b hf))
    · have hf := ifF hf c2496
      by_cases c2501 : x1 = (119 : Int32)
      · have hf := ifT hf c2501
        refine lv_lookup (off := 75) (tgt := 76) hx hb dX8_readsAll_1 (by decide) (by rw [c2501]; rfl) (by decide) ?_
        refine lv_aload_n hx hb dX8_readsAll_76 rfl (lv_at hl 0 rfl) ?_
        refine lv_iload_n hx hb dX8_readsAll_77 rfl (lv_at hl 2 rfl) ?_
        refine lv_iconst (v := (1 : Int32)) hx hb dX8_readsAll_78 (by decide) ?_
        obtain ⟨q2502, hq2502, hf⟩ := bnd hf
        refine fc_callV (Wa' := (mW G a q2502.2)) (st1 := [.int q2502.1]) (As := [.int x2, .int (1 : Int32)]) (rest := []) hCF (k_X8_readsDigits a v x2 (1 : Int32) hq2502) (cwV 2 hts gX8_readsAll_X8_readsDigits rfl rfl rfl ⟨rfl, dk_X8_readsDigits⟩ ⟨Nat.le_of_ble_eq_true rfl, Nat.le_of_ble_eq_true rfl⟩) hE hAB hP hD hS [0, 1, 2, 3, 4, 5, 6, 7, 8, 9, 10, 11, 12, 13, 14, 15, 16, 17, 18, 19, 20, 21, 22, 23, 24] mW_d (mW_c G a v) (va_recv hE.1 hP (ci := 5) (q0 := 0) rfl (mW_o G a v)) (mW_f G a v q2502.2) (mW_s G a v q2502.2) rfl rfl hl.1 rfl (Nat.le_of_ble_eq_true rfl) dX8_readsAll_79 ⟨Nat.le_refl _, Nat.le_refl _⟩ (fun H locs hP hD hS => ?_)
        obtain ⟨c2503, hf⟩ := gd_some hf
        exact fc_retz hx hb hr hlocks hP hS dX8_readsAll_82 (isZ_nar c2503).1 (i2a hf) (congrArg (fun z => (mW G a z)) (i2b hf))
      · have hf := ifF hf c2501
        by_cases c2504 : x1 = (121 : Int32)
        · have hf := ifT hf c2504
          refine lv_lookup (off := 82) (tgt := 83) hx hb dX8_readsAll_1 (by decide) (by rw [c2504]; rfl) (by decide) ?_
          refine lv_aload_n hx hb dX8_readsAll_83 rfl (lv_at hl 0 rfl) ?_
          refine lv_iload_n hx hb dX8_readsAll_84 rfl (lv_at hl 2 rfl) ?_
          refine lv_iconst (v := (2 : Int32)) hx hb dX8_readsAll_85 (by decide) ?_
          obtain ⟨q2505, hq2505, hf⟩ := bnd hf
          refine fc_callV (Wa' := (mW G a q2505.2)) (st1 := [.int q2505.1]) (As := [.int x2, .int (2 : Int32)]) (rest := []) hCF (k_X8_readsDigits a v x2 (2 : Int32) hq2505) (cwV 2 hts gX8_readsAll_X8_readsDigits rfl rfl rfl ⟨rfl, dk_X8_readsDigits⟩ ⟨Nat.le_of_ble_eq_true rfl, Nat.le_of_ble_eq_true rfl⟩) hE hAB hP hD hS [0, 1, 2, 3, 4, 5, 6, 7, 8, 9, 10, 11, 12, 13, 14, 15, 16, 17, 18, 19, 20, 21, 22, 23, 24] mW_d (mW_c G a v) (va_recv hE.1 hP (ci := 5) (q0 := 0) rfl (mW_o G a v)) (mW_f G a v q2505.2) (mW_s G a v q2505.2) rfl rfl hl.1 rfl (Nat.le_of_ble_eq_true rfl) dX8_readsAll_86 ⟨Nat.le_refl _, Nat.le_refl _⟩ (fun H locs hP hD hS => ?_)
          obtain ⟨c2506, hf⟩ := gd_some hf
          exact fc_retz hx hb hr hlocks hP hS dX8_readsAll_89 (isZ_nar c2506).1 (i2a hf) (congrArg (fun z => (mW G a z)) (i2b hf))
        · have hf := ifF hf c2504
          refine lv_lookup (off := 89) (tgt := 90) hx hb dX8_readsAll_1 (by decide) (by simp only [lv_osw (a := 98) c2493 (by decide), lv_osw (a := 103) c2496 (by decide), lv_osw (a := 119) c2501 (by decide), lv_osw (a := 121) c2504 (by decide)]; rfl) (by decide) ?_
          refine lv_aload_n hx hb dX8_readsAll_90 rfl (lv_at hl 0 rfl) ?_
          refine lv_iload_n hx hb dX8_readsAll_91 rfl (lv_at hl 2 rfl) ?_
          refine lv_iconst (v := (1 : Int32)) hx hb dX8_readsAll_92 (by decide) ?_
          obtain ⟨q2507, hq2507, hf⟩ := bnd hf
          refine fc_callV (Wa' := (mW G a q2507.2)) (st1 := [.int q2507.1]) (As := [.int x2, .int (1 : Int32)]) (rest := []) hCF (k_X8_readsDigits a v x2 (1 : Int32) hq2507) (cwV 2 hts gX8_readsAll_X8_readsDigits rfl rfl rfl ⟨rfl, dk_X8_readsDigits⟩ ⟨Nat.le_of_ble_eq_true rfl, Nat.le_of_ble_eq_true rfl⟩) hE hAB hP hD hS [0, 1, 2, 3, 4, 5, 6, 7, 8, 9, 10, 11, 12, 13, 14, 15, 16, 17, 18, 19, 20, 21, 22, 23, 24] mW_d (mW_c G a v) (va_recv hE.1 hP (ci := 5) (q0 := 0) rfl (mW_o G a v)) (mW_f G a v q2507.2) (mW_s G a v q2507.2) rfl rfl hl.1 rfl (Nat.le_of_ble_eq_true rfl) dX8_readsAll_93 ⟨Nat.le_refl _, Nat.le_refl _⟩ (fun H locs hP hD hS => ?_)
          refine lv_if_eq (tgt := 114) hx hb dX8_readsAll_96 (by decide) (fun c2508 => ?_) (fun c2508 => ?_)
          · have hf := ifT hf c2508
            refine lv_iconst (v := (0 : Int32)) hx hb dX8_readsAll_114 (by decide) ?_
            exact fc_retz hx hb hr hlocks hP hS dX8_readsAll_115 (by decide) (i2a hf) (congrArg (fun z => (mW G a z)) (i2b hf))
          · have hf := ifF hf c2508
            refine lv_aload_n hx hb dX8_readsAll_99 rfl (lv_at hl 0 rfl) ?_
            refine lv_iload_n hx hb dX8_readsAll_100 rfl (lv_at hl 2 rfl) ?_
            refine lv_iconst (v := (1 : Int32)) hx hb dX8_readsAll_101 (by decide) ?_
            refine lv_iadd hx hb dX8_readsAll_102 ?_
            refine lv_iconst (v := (1 : Int32)) hx hb dX8_readsAll_103 (by decide) ?_
            obtain ⟨q2509, hq2509, hf⟩ := bnd hf
            refine fc_callV (Wa' := (mW G a q2509.2)) (st1 := [.int q2509.1]) (As := [.int (x2 + (1 : Int32)), .int (1 : Int32)]) (rest := []) hCF (k_X8_readsDigits a q2507.2 (x2 + (1 : Int32)) (1 : Int32) hq2509) (cwV 2 hts gX8_readsAll_X8_readsDigits rfl rfl rfl ⟨rfl, dk_X8_readsDigits⟩ ⟨Nat.le_of_ble_eq_true rfl, Nat.le_of_ble_eq_true rfl⟩) hE hAB hP hD hS [0, 1, 2, 3, 4, 5, 6, 7, 8, 9, 10, 11, 12, 13, 14, 15, 16, 17, 18, 19, 20, 21, 22, 23, 24] mW_d (mW_c G a q2507.2) (va_recv hE.1 hP (ci := 5) (q0 := 0) rfl (mW_o G a q2507.2)) (mW_f G a q2507.2 q2509.2) (mW_s G a q2507.2 q2509.2) rfl rfl hl.1 rfl (Nat.le_of_ble_eq_true rfl) dX8_readsAll_104 ⟨Nat.le_refl _, Nat.le_refl _⟩ (fun H locs hP hD hS => ?_)
            refine lv_if_eq (tgt := 114) hx hb dX8_readsAll_107 (by decide) (fun c2510 => ?_) (fun c2510 => ?_)
            · have hf := ifT hf c2510
              refine lv_iconst (v := (0 : Int32)) hx hb dX8_readsAll_114 (by decide) ?_
              exact fc_retz hx hb hr hlocks hP hS dX8_readsAll_115 (by decide) (i2a hf) (congrArg (fun z => (mW G a z)) (i2b hf))
            · have hf := ifF hf c2510
              refine lv_iconst (v := (1 : Int32)) hx hb dX8_readsAll_110 (by decide) ?_
              refine lv_goto (tgt := 115) hx hb dX8_readsAll_111 (by decide) ?_
              exact fc_retz hx hb hr hlocks hP hS dX8_readsAll_115 (by decide) (i2a hf) (congrArg (fun z => (mW G a z)) (i2b hf))
theorem dk_X8_rightly : yX8_rightly.cls ≠ "java/lang/invoke/MethodHandle" ∧ yX8_rightly.cls ≠ "java/lang/invoke/VarHandle" ∧ (parseMethodDescriptor yX8_rightly.desc).map (fun d => d.parameters.length) = some 1 := by decide +kernel
theorem iu_X8_rightly_X8 : ∀ w ∈ u_ws RX8 TX8 29, w ∈ wsX8_rightly := by decide +kernel
set_option maxHeartbeats 4000000 in
set_option maxRecDepth 100000 in
theorem k_X8_rightly {l : Launch} {G : Gx} (a : Nat → Nat) (v : St) (x1 : Int32) {r : Int32} {v' : St} (hf : f_X8_rightly v x1 = some (r, v')) : FC l G yX8_rightly wsX8_rightly ({ frames := 1, cells := 0, slots := 0, locals := 21 } : Room) [.ref (a 0), .int x1] (mW G a v) (mW G a v') (some (.int r)) := by
  refine fc_head (cc := cX8_rightly) (maxL := 4) (ret := (some .int)) (C := RX8) (lv := [(0, .ref (a 0)), (1, .int x1)]) (by decide) rfl rfl (Nat.le_of_ble_eq_true rfl) rfl ?_
  intro p e s m below meth c ls A hx hb hr hml hown hts hlocks hE hP hD hAB hS hl
  have hCF : CallFix p m c cX8_rightly 4 s ([.ref (a 0), .int x1] : List Value).toArray wsX8_rightly RX8 := ⟨hx, hb, hml, hown, hts⟩
  have hwX8 : ∀ w ∈ u_ws RX8 TX8 29, w.before ([.ref (a 0), .int x1] : List Value).toArray s = true := fun w h => hts w (iu_X8_rightly_X8 w h)
  have hk_fieldLink_RX8_250__BrideNotKnownModel___rowMany___I_ := hts (.fieldLink RX8 250 "BrideNotKnownModel" "rowMany" "I") (List.mem_of_getElem? (i := 1) rfl)
  have hk_fieldLink_RX8_60__BrideNotKnownModel___row____I_ := hts (.fieldLink RX8 60 "BrideNotKnownModel" "row" "[I") (List.mem_of_getElem? (i := 2) rfl)
  have hk_fieldLink_RX8_19__BrideNotKnownModel___foot____I_ := hts (.fieldLink RX8 19 "BrideNotKnownModel" "foot" "[I") (List.mem_of_getElem? (i := 3) rfl)
  rw [f_X8_rightly] at hf
  refine lv_aload_n hx hb dX8_rightly_0 rfl (lv_at hl 0 rfl) ?_
  refine lv_iload_n hx hb dX8_rightly_1 rfl (lv_at hl 1 rfl) ?_
  obtain ⟨q2514, hq2514, hf⟩ := bnd hf
  refine fc_callV (Wa' := (mW G a v)) (st1 := [.int q2514]) (As := [.int x1]) (rest := []) hCF (k_X8_isBride a v x1 hq2514) (cwV 1 hts gX8_rightly_X8_isBride rfl rfl rfl ⟨rfl, dk_X8_isBride⟩ ⟨Nat.le_of_ble_eq_true rfl, Nat.le_of_ble_eq_true rfl⟩) hE hAB hP hD hS [0, 1, 2, 3, 4, 5, 6, 7, 8, 9, 10, 11, 12, 13, 14, 15, 16, 17, 18, 19, 20, 21, 22, 23, 24] mW_d (mW_c G a v) (va_recv hE.1 hP (ci := 5) (q0 := 0) rfl (mW_o G a v)) (mW_f G a v v) (mW_s G a v v) rfl rfl hl.1 rfl (Nat.le_of_ble_eq_true rfl) dX8_rightly_2 ⟨Nat.le_refl _, Nat.le_refl _⟩ (fun H locs hP hD hS => ?_)
  refine lv_if_ne (tgt := 14) hx hb dX8_rightly_5 (by decide) (fun c2515 => ?_) (fun c2515 => ?_)
  · have hf := ifF hf c2515
    refine lv_iconst (v := (0 : Int32)) hx hb dX8_rightly_14 (by decide) ?_
    refine lv_istore_n (lv' := [(2, .int (0 : Int32)), (0, .ref (a 0)), (1, .int x1)]) hx hb dX8_rightly_15 rfl hl (by decide) rfl (fun ls hl => ?_)
    refine lv_iconst (v := (0 : Int32)) hx hb dX8_rightly_16 (by decide) ?_
    refine lv_istore_n (lv' := [(3, .int (0 : Int32)), (2, .int (0 : Int32)), (0, .ref (a 0)), (1, .int x1)]) hx hb dX8_rightly_17 rfl hl (by decide) rfl (fun ls hl => ?_)
    have L18_2518 : ∀ (n : Nat) (x2_2516 : Int32) (x3_2517 : Int32) (H : Heap) (locs : List Loc) (ls : Array Slot), va_P (gD G) vwCl (mW G a v) H → va_D A (mW G a v) → va_S A s.heap H locs → lv_has ls 4 [(0, .ref (a 0)), (1, .int x1), (2, .int x2_2516), (3, .int x3_2517)] → f_X8_rightly_18 v x1 n x2_2516 x3_2517 = some (r, v') → W p l e (headSpec wsX8_rightly ({ frames := 1, cells := 0, slots := 0, locals := 21 } : Room)).room s m ([.ref (a 0), .int x1] : List Value).toArray below meth c H locs 0 0 (MQ below (FQ G A (mW G a v') (some (.int r))) ([.ref (a 0), .int x1] : List Value).toArray s 0 0 A) (F0 m 18 ls []) := by
      intro n
      induction n with
      | zero =>
        intro x2_2516 x3_2517 H locs ls hP hD hS hl hf
        exact no_some hf
      | succ n ih =>
        intro x2_2516 x3_2517 H locs ls hP hD hS hl hf
        rw [f_X8_rightly_18] at hf
        refine lv_iload_n hx hb dX8_rightly_18 rfl (lv_at hl 3 rfl) ?_
        refine lv_aload_n hx hb dX8_rightly_19 rfl (lv_at hl 0 rfl) ?_
        refine fc_get (v := .int (v 23 9)) (ci := 5) (C := RX8) (T := TX8) (N := 29) hx hb hwX8 hown hE hP 0 (mW_o G a v) rfl 26 (by decide) hk_fieldLink_RX8_250__BrideNotKnownModel___rowMany___I_ (fun _ h => h) rfl dX8_rightly_20 ?_
        refine lv_icmp_ge (tgt := 69) hx hb dX8_rightly_23 (by decide) (fun c2519 => ?_) (fun c2519 => ?_)
        · have hf := ifT hf c2519
          refine lv_iload_n hx hb dX8_rightly_69 rfl (lv_at hl 2 rfl) ?_
          exact fc_reti hx hb hr hlocks hP hS dX8_rightly_70 (i2a hf) (congrArg (fun z => (mW G a z)) (i2b hf))
        · have hf := ifF hf c2519
          refine lv_iload_n hx hb dX8_rightly_26 rfl (lv_at hl 2 rfl) ?_
          refine lv_aload_n hx hb dX8_rightly_27 rfl (lv_at hl 0 rfl) ?_
          refine fc_get (v := .ref (a 16)) (ci := 5) (C := RX8) (T := TX8) (N := 29) hx hb hwX8 hown hE hP 0 (mW_o G a v) rfl 25 (by decide) hk_fieldLink_RX8_60__BrideNotKnownModel___row____I_ (fun _ h => h) rfl dX8_rightly_28 ?_
          refine lv_iload_n hx hb dX8_rightly_31 rfl (lv_at hl 3 rfl) ?_
          obtain ⟨c2520, hf⟩ := gd_some hf
          refine fc_iald (n := 16) (f := (v 15)) hx hb hE hP 16 (mW_a16 G a v) (inB_in c2520) dX8_rightly_32 ?_
          refine lv_bipush (v := (6 : Int32)) hx hb dX8_rightly_33 (by decide) ?_
          refine lv_icmp_ge (tgt := 60) hx hb dX8_rightly_35 (by decide) (fun c2521 => ?_) (fun c2521 => ?_)
          · have hf := ifT hf c2521
            refine lv_iconst (v := (0 : Int32)) hx hb dX8_rightly_60 (by decide) ?_
            refine lv_iadd hx hb dX8_rightly_61 ?_
            refine lv_istore_n (lv' := [(2, .int (x2_2516 + (0 : Int32))), (0, .ref (a 0)), (1, .int x1), (3, .int x3_2517)]) hx hb dX8_rightly_62 rfl hl (by decide) rfl (fun ls hl => ?_)
            refine lv_iinc (v := (x3_2517 + (1 : Int32))) (lv' := [(3, .int (x3_2517 + (1 : Int32))), (2, .int (x2_2516 + (0 : Int32))), (0, .ref (a 0)), (1, .int x1)]) hx hb dX8_rightly_63 hl (k := 3) rfl rfl (by decide) rfl (fun ls hl => ?_)
            refine lv_goto (tgt := 18) hx hb dX8_rightly_66 (by decide) ?_
            exact ih (x2_2516 + (0 : Int32)) (x3_2517 + (1 : Int32)) _ _ _ hP hD hS (lv_sub hl [2, 3, 1, 0] rfl) hf
          · have hf := ifF hf c2521
            refine lv_aload_n hx hb dX8_rightly_38 rfl (lv_at hl 0 rfl) ?_
            refine fc_get (v := .ref (a 4)) (ci := 5) (C := RX8) (T := TX8) (N := 29) hx hb hwX8 hown hE hP 0 (mW_o G a v) rfl 3 (by decide) hk_fieldLink_RX8_19__BrideNotKnownModel___foot____I_ (fun _ h => h) rfl dX8_rightly_39 ?_
            refine lv_iload_n hx hb dX8_rightly_42 rfl (lv_at hl 1 rfl) ?_
            obtain ⟨c2522, hf⟩ := gd_some hf
            refine fc_iald (n := 8) (f := (v 3)) hx hb hE hP 4 (mW_a4 G a v) (inB_in c2522) dX8_rightly_43 ?_
            refine lv_aload_n hx hb dX8_rightly_44 rfl (lv_at hl 0 rfl) ?_
            refine fc_get (v := .ref (a 16)) (ci := 5) (C := RX8) (T := TX8) (N := 29) hx hb hwX8 hown hE hP 0 (mW_o G a v) rfl 25 (by decide) hk_fieldLink_RX8_60__BrideNotKnownModel___row____I_ (fun _ h => h) rfl dX8_rightly_45 ?_
            refine lv_iload_n hx hb dX8_rightly_48 rfl (lv_at hl 3 rfl) ?_
            obtain ⟨c2523, hf⟩ := gd_some hf
            refine fc_iald (n := 16) (f := (v 15)) hx hb hE hP 16 (mW_a16 G a v) (inB_in c2523) dX8_rightly_49 ?_
            obtain ⟨q2524, hq2524, hf⟩ := bnd hf
            refine fc_callS (Wa' := (mW G a v)) (st1 := [.int q2524, .int x2_2516]) (As := [.int ((v 3) x1.toNatClampNeg), .int ((v 15) x3_2517.toNatClampNeg)]) (rest := [.int x2_2516]) hCF (k_X8_has ((v 3) x1.toNatClampNeg) ((v 15) x3_2517.toNatClampNeg) hq2524) (va_cwS 2 hts gX8_rightly_X8_has rfl rfl rfl dk_X8_has ⟨Nat.le_of_ble_eq_true rfl, Nat.le_of_ble_eq_true rfl⟩) hE hAB hP hD hS [] rfl rfl rfl rfl rfl rfl hl.1 rfl (Nat.le_of_ble_eq_true rfl) dX8_rightly_50 ⟨Nat.le_refl _, Nat.le_refl _⟩ (fun H locs hP hD hS => ?_)
            refine lv_if_eq (tgt := 60) hx hb dX8_rightly_53 (by decide) (fun c2525 => ?_) (fun c2525 => ?_)
            · have hf := ifT hf c2525
              refine lv_iconst (v := (0 : Int32)) hx hb dX8_rightly_60 (by decide) ?_
              refine lv_iadd hx hb dX8_rightly_61 ?_
              refine lv_istore_n (lv' := [(2, .int (x2_2516 + (0 : Int32))), (0, .ref (a 0)), (1, .int x1), (3, .int x3_2517)]) hx hb dX8_rightly_62 rfl hl (by decide) rfl (fun ls hl => ?_)
              refine lv_iinc (v := (x3_2517 + (1 : Int32))) (lv' := [(3, .int (x3_2517 + (1 : Int32))), (2, .int (x2_2516 + (0 : Int32))), (0, .ref (a 0)), (1, .int x1)]) hx hb dX8_rightly_63 hl (k := 3) rfl rfl (by decide) rfl (fun ls hl => ?_)
              refine lv_goto (tgt := 18) hx hb dX8_rightly_66 (by decide) ?_
              exact ih (x2_2516 + (0 : Int32)) (x3_2517 + (1 : Int32)) _ _ _ hP hD hS (lv_sub hl [2, 3, 1, 0] rfl) hf
            · have hf := ifF hf c2525
              refine lv_iconst (v := (1 : Int32)) hx hb dX8_rightly_56 (by decide) ?_
              refine lv_goto (tgt := 61) hx hb dX8_rightly_57 (by decide) ?_
              refine lv_iadd hx hb dX8_rightly_61 ?_
              refine lv_istore_n (lv' := [(2, .int (x2_2516 + (1 : Int32))), (0, .ref (a 0)), (1, .int x1), (3, .int x3_2517)]) hx hb dX8_rightly_62 rfl hl (by decide) rfl (fun ls hl => ?_)
              refine lv_iinc (v := (x3_2517 + (1 : Int32))) (lv' := [(3, .int (x3_2517 + (1 : Int32))), (2, .int (x2_2516 + (1 : Int32))), (0, .ref (a 0)), (1, .int x1)]) hx hb dX8_rightly_63 hl (k := 3) rfl rfl (by decide) rfl (fun ls hl => ?_)
              refine lv_goto (tgt := 18) hx hb dX8_rightly_66 (by decide) ?_
              exact ih (x2_2516 + (1 : Int32)) (x3_2517 + (1 : Int32)) _ _ _ hP hD hS (lv_sub hl [2, 3, 1, 0] rfl) hf
    exact L18_2518 FUEL (0 : Int32) (0 : Int32) _ _ _ hP hD hS (lv_sub hl [2, 3, 1, 0] rfl) hf
  · have hf := ifT hf c2515
    refine lv_aload_n hx hb dX8_rightly_8 rfl (lv_at hl 0 rfl) ?_
    refine lv_iconst (v := (-1 : Int32)) hx hb dX8_rightly_9 (by decide) ?_
    obtain ⟨q2526, hq2526, hf⟩ := bnd hf
    refine fc_callV (Wa' := (mW G a q2526.2)) (st1 := [.int q2526.1]) (As := [.int (-1 : Int32)]) (rest := []) hCF (k_X8_no a v (-1 : Int32) hq2526) (cwV 1 hts gX8_rightly_X8_no rfl rfl rfl ⟨rfl, dk_X8_no⟩ ⟨Nat.le_of_ble_eq_true rfl, Nat.le_of_ble_eq_true rfl⟩) hE hAB hP hD hS [0, 1, 2, 3, 4, 5, 6, 7, 8, 9, 10, 11, 12, 13, 14, 15, 16, 17, 18, 19, 20, 21, 22, 23, 24] mW_d (mW_c G a v) (va_recv hE.1 hP (ci := 5) (q0 := 0) rfl (mW_o G a v)) (mW_f G a v q2526.2) (mW_s G a v q2526.2) rfl rfl hl.1 rfl (Nat.le_of_ble_eq_true rfl) dX8_rightly_10 ⟨Nat.le_refl _, Nat.le_refl _⟩ (fun H locs hP hD hS => ?_)
    exact fc_reti hx hb hr hlocks hP hS dX8_rightly_13 (i2a hf) (congrArg (fun z => (mW G a z)) (i2b hf))
theorem dk_X8_row : yX8_row.cls ≠ "java/lang/invoke/MethodHandle" ∧ yX8_row.cls ≠ "java/lang/invoke/VarHandle" ∧ (parseMethodDescriptor yX8_row.desc).map (fun d => d.parameters.length) = some 1 := by decide +kernel
theorem iu_X8_row_X8 : ∀ w ∈ u_ws RX8 TX8 29, w ∈ wsX8_row := by decide +kernel
set_option maxHeartbeats 4000000 in
set_option maxRecDepth 100000 in
theorem k_X8_row {l : Launch} {G : Gx} (a : Nat → Nat) (v : St) (x1 : Int32) {r : Int32} {v' : St} (hf : f_X8_row v x1 = some (r, v')) : FC l G yX8_row wsX8_row ({ frames := 1, cells := 0, slots := 0, locals := 22 } : Room) [.ref (a 0), .int x1] (mW G a v) (mW G a v') (some (.int r)) := by
  refine fc_head (cc := cX8_row) (maxL := 3) (ret := (some .int)) (C := RX8) (lv := [(0, .ref (a 0)), (1, .int x1)]) (by decide) rfl rfl (Nat.le_of_ble_eq_true rfl) rfl ?_
  intro p e s m below meth c ls A hx hb hr hml hown hts hlocks hE hP hD hAB hS hl
  have hCF : CallFix p m c cX8_row 3 s ([.ref (a 0), .int x1] : List Value).toArray wsX8_row RX8 := ⟨hx, hb, hml, hown, hts⟩
  have hwX8 : ∀ w ∈ u_ws RX8 TX8 29, w.before ([.ref (a 0), .int x1] : List Value).toArray s = true := fun w h => hts w (iu_X8_row_X8 w h)
  have hk_fieldLink_RX8_60__BrideNotKnownModel___row____I_ := hts (.fieldLink RX8 60 "BrideNotKnownModel" "row" "[I") (List.mem_of_getElem? (i := 2) rfl)
  have hk_fieldLink_RX8_250__BrideNotKnownModel___rowMany___I_ := hts (.fieldLink RX8 250 "BrideNotKnownModel" "rowMany" "I") (List.mem_of_getElem? (i := 1) rfl)
  rw [f_X8_row] at hf
  refine lv_iload_n hx hb dX8_row_0 rfl (lv_at hl 1 rfl) ?_
  refine lv_iconst (v := (0 : Int32)) hx hb dX8_row_1 (by decide) ?_
  refine lv_bipush (v := (99 : Int32)) hx hb dX8_row_2 (by decide) ?_
  obtain ⟨q2529, hq2529, hf⟩ := bnd hf
  refine fc_callS (Wa' := (mW G a v)) (st1 := [.int q2529]) (As := [.int x1, .int (0 : Int32), .int (99 : Int32)]) (rest := []) hCF (k_X8_bound x1 (0 : Int32) (99 : Int32) hq2529) (va_cwS 3 hts gX8_row_X8_bound rfl rfl rfl dk_X8_bound ⟨Nat.le_of_ble_eq_true rfl, Nat.le_of_ble_eq_true rfl⟩) hE hAB hP hD hS [] rfl rfl rfl rfl rfl rfl hl.1 rfl (Nat.le_of_ble_eq_true rfl) dX8_row_4 ⟨Nat.le_refl _, Nat.le_refl _⟩ (fun H locs hP hD hS => ?_)
  refine lv_istore_n (lv' := [(2, .int q2529), (0, .ref (a 0)), (1, .int x1)]) hx hb dX8_row_7 rfl hl (by decide) rfl (fun ls hl => ?_)
  refine lv_iload_n hx hb dX8_row_8 rfl (lv_at hl 0 rfl) ?_
  have J24_2531 : ∀ (x2_2530 : Int32) (H : Heap) (locs : List Loc) (ls : Array Slot), va_P (gD G) vwCl (mW G a v) H → va_D A (mW G a v) → va_S A s.heap H locs → lv_has ls 3 [(0, .ref (a 0)), (1, .int x1), (2, .int x2_2530)] → f_X8_row_24 v x1 x2_2530 = some (r, v') → W p l e (headSpec wsX8_row ({ frames := 1, cells := 0, slots := 0, locals := 22 } : Room)).room s m ([.ref (a 0), .int x1] : List Value).toArray below meth c H locs 0 0 (MQ below (FQ G A (mW G a v') (some (.int r))) ([.ref (a 0), .int x1] : List Value).toArray s 0 0 A) (F0 m 24 ls []) := by
    intro x2_2530 H locs ls hP hD hS hl hf
    rw [f_X8_row_24] at hf
    refine lv_iload_n hx hb dX8_row_24 rfl (lv_at hl 2 rfl) ?_
    refine lv_if_eq (tgt := 34) hx hb dX8_row_25 (by decide) (fun c2532 => ?_) (fun c2532 => ?_)
    · have hf := ifT hf c2532
      refine lv_aload_n hx hb dX8_row_34 rfl (lv_at hl 0 rfl) ?_
      refine fc_get (v := .ref (a 16)) (ci := 5) (C := RX8) (T := TX8) (N := 29) hx hb hwX8 hown hE hP 0 (mW_o G a v) rfl 25 (by decide) hk_fieldLink_RX8_60__BrideNotKnownModel___row____I_ (fun _ h => h) rfl dX8_row_35 ?_
      refine lv_aload_n hx hb dX8_row_38 rfl (lv_at hl 0 rfl) ?_
      refine fc_get (v := .int (v 23 9)) (ci := 5) (C := RX8) (T := TX8) (N := 29) hx hb hwX8 hown hE hP 0 (mW_o G a v) rfl 26 (by decide) hk_fieldLink_RX8_250__BrideNotKnownModel___rowMany___I_ (fun _ h => h) rfl dX8_row_39 ?_
      refine lv_iload_n hx hb dX8_row_42 rfl (lv_at hl 1 rfl) ?_
      obtain ⟨c2533, hf⟩ := gd_some hf
      refine fc_iast (n := 16) (f := (v 15)) (Wa' := (mW G a (sA v 15 (upd (v 15) (v 23 9).toNatClampNeg x1)))) hx hb hE hP hD hS 16 (mW_a16 G a v) (inB_in c2533) dX8_row_43 (mW_t16 G a v (upd (v 15) (v 23 9).toNatClampNeg x1)) (fun H locs hP hD hS => ?_)
      refine lv_aload_n hx hb dX8_row_44 rfl (lv_at hl 0 rfl) ?_
      refine lv_dup hx hb dX8_row_45 rfl ?_
      refine fc_get (v := .int (v 23 9)) (ci := 5) (C := RX8) (T := TX8) (N := 29) hx hb hwX8 hown hE hP 0 (mW_o G a (sA v 15 (upd (v 15) (v 23 9).toNatClampNeg x1))) rfl 26 (by decide) hk_fieldLink_RX8_250__BrideNotKnownModel___rowMany___I_ (fun _ h => h) rfl dX8_row_46 ?_
      refine lv_iconst (v := (1 : Int32)) hx hb dX8_row_49 (by decide) ?_
      refine lv_iadd hx hb dX8_row_50 ?_
      refine fc_put (Wa' := (mW G a (sA (sA v 15 (upd (v 15) (v 23 9).toNatClampNeg x1)) 23 (upd (v 23) 9 ((v 23 9) + (1 : Int32)))))) (ci := 5) (C := RX8) (T := TX8) (N := 29) hx hb hwX8 tyX8 tyX8_ok nmX8 hown hE hP hD hS 0 (mW_o G a (sA v 15 (upd (v 15) (v 23 9).toNatClampNeg x1))) rfl 26 (by decide) hk_fieldLink_RX8_250__BrideNotKnownModel___rowMany___I_ (fun _ h => h) rfl rfl rfl (Nat.le_of_ble_eq_true rfl) dX8_row_51 (mW_p26 G a (sA v 15 (upd (v 15) (v 23 9).toNatClampNeg x1)) ((v 23 9) + (1 : Int32))) (fun H locs hP hD hS => ?_)
      refine lv_aload_n hx hb dX8_row_54 rfl (lv_at hl 0 rfl) ?_
      refine fc_get (v := .int ((v 23 9) + (1 : Int32))) (ci := 5) (C := RX8) (T := TX8) (N := 29) hx hb hwX8 hown hE hP 0 (mW_o G a (sA (sA v 15 (upd (v 15) (v 23 9).toNatClampNeg x1)) 23 (upd (v 23) 9 ((v 23 9) + (1 : Int32))))) rfl 26 (by decide) hk_fieldLink_RX8_250__BrideNotKnownModel___rowMany___I_ (fun _ h => h) rfl dX8_row_55 ?_
      exact fc_reti hx hb hr hlocks hP hS dX8_row_58 (i2a hf) (congrArg (fun z => (mW G a z)) (i2b hf))
    · have hf := ifF hf c2532
      refine lv_aload_n hx hb dX8_row_28 rfl (lv_at hl 0 rfl) ?_
      refine lv_iload_n hx hb dX8_row_29 rfl (lv_at hl 2 rfl) ?_
      obtain ⟨q2534, hq2534, hf⟩ := bnd hf
      refine fc_callV (Wa' := (mW G a q2534.2)) (st1 := [.int q2534.1]) (As := [.int x2_2530]) (rest := []) hCF (k_X8_no a v x2_2530 hq2534) (cwV 1 hts gX8_row_X8_no rfl rfl rfl ⟨rfl, dk_X8_no⟩ ⟨Nat.le_of_ble_eq_true rfl, Nat.le_of_ble_eq_true rfl⟩) hE hAB hP hD hS [0, 1, 2, 3, 4, 5, 6, 7, 8, 9, 10, 11, 12, 13, 14, 15, 16, 17, 18, 19, 20, 21, 22, 23, 24] mW_d (mW_c G a v) (va_recv hE.1 hP (ci := 5) (q0 := 0) rfl (mW_o G a v)) (mW_f G a v q2534.2) (mW_s G a v q2534.2) rfl rfl hl.1 rfl (Nat.le_of_ble_eq_true rfl) dX8_row_30 ⟨Nat.le_refl _, Nat.le_refl _⟩ (fun H locs hP hD hS => ?_)
      exact fc_reti hx hb hr hlocks hP hS dX8_row_33 (i2a hf) (congrArg (fun z => (mW G a z)) (i2b hf))
  refine lv_if_ne (tgt := 24) hx hb dX8_row_9 (by decide) (fun c2535 => ?_) (fun c2535 => ?_)
  · have hf := ifF hf c2535
    exact J24_2531 q2529 _ _ _ hP hD hS (lv_sub hl [1, 2, 0] rfl) hf
  · have hf := ifT hf c2535
    refine lv_aload_n hx hb dX8_row_12 rfl (lv_at hl 1 rfl) ?_
    refine fc_get (v := .int (v 23 9)) (ci := 5) (C := RX8) (T := TX8) (N := 29) hx hb hwX8 hown hE hP 0 (mW_o G a v) rfl 26 (by decide) hk_fieldLink_RX8_250__BrideNotKnownModel___rowMany___I_ (fun _ h => h) rfl dX8_row_13 ?_
    refine lv_bipush (v := (16 : Int32)) hx hb dX8_row_16 (by decide) ?_
    refine lv_icmp_ne (tgt := 24) hx hb dX8_row_18 (by decide) (fun c2536 => ?_) (fun c2536 => ?_)
    · have hf := ifF hf c2536
      exact J24_2531 q2529 _ _ _ hP hD hS (lv_sub hl [1, 2, 0] rfl) hf
    · have hf := ifT hf c2536
      refine lv_bipush (v := (-6 : Int32)) hx hb dX8_row_21 (by decide) ?_
      refine lv_istore_n (lv' := [(2, .int (-6 : Int32)), (0, .ref (a 0)), (1, .int x1)]) hx hb dX8_row_23 rfl hl (by decide) rfl (fun ls hl => ?_)
      exact J24_2531 (-6 : Int32) _ _ _ hP hD hS (lv_sub hl [1, 2, 0] rfl) hf
theorem dk_X8_sees : yX8_sees.cls ≠ "java/lang/invoke/MethodHandle" ∧ yX8_sees.cls ≠ "java/lang/invoke/VarHandle" ∧ (parseMethodDescriptor yX8_sees.desc).map (fun d => d.parameters.length) = some 0 := by decide +kernel
set_option maxHeartbeats 4000000 in
set_option maxRecDepth 100000 in
theorem k_X8_sees {l : Launch} {G : Gx} (a : Nat → Nat) (v : St) {r : Int32} (hf : f_X8_sees v = some r) : FC l G yX8_sees wsX8_sees ({ frames := 4, cells := 0, slots := 0, locals := 90 } : Room) [.ref (a 0)] (mW G a v) (mW G a v) (some (.int r)) := by
  refine fc_head (cc := cX8_sees) (maxL := 3) (ret := (some .int)) (C := RX8) (lv := [(0, .ref (a 0))]) (by decide) rfl rfl (Nat.le_of_ble_eq_true rfl) rfl ?_
  intro p e s m below meth c ls A hx hb hr hml hown hts hlocks hE hP hD hAB hS hl
  have hCF : CallFix p m c cX8_sees 3 s ([.ref (a 0)] : List Value).toArray wsX8_sees RX8 := ⟨hx, hb, hml, hown, hts⟩
  rw [f_X8_sees] at hf
  refine lv_bipush (v := (-9 : Int32)) hx hb dX8_sees_0 (by decide) ?_
  refine lv_istore_n (lv' := [(1, .int (-9 : Int32)), (0, .ref (a 0))]) hx hb dX8_sees_2 rfl hl (by decide) rfl (fun ls hl => ?_)
  refine lv_iconst (v := (0 : Int32)) hx hb dX8_sees_3 (by decide) ?_
  refine lv_istore_n (lv' := [(2, .int (0 : Int32)), (1, .int (-9 : Int32)), (0, .ref (a 0))]) hx hb dX8_sees_4 rfl hl (by decide) rfl (fun ls hl => ?_)
  have L5_2546 : ∀ (n : Nat) (x1_2544 : Int32) (x2_2545 : Int32) (H : Heap) (locs : List Loc) (ls : Array Slot), va_P (gD G) vwCl (mW G a v) H → va_D A (mW G a v) → va_S A s.heap H locs → lv_has ls 3 [(0, .ref (a 0)), (1, .int x1_2544), (2, .int x2_2545)] → f_X8_sees_5 v n x1_2544 x2_2545 = some r → W p l e (headSpec wsX8_sees ({ frames := 4, cells := 0, slots := 0, locals := 90 } : Room)).room s m ([.ref (a 0)] : List Value).toArray below meth c H locs 0 0 (MQ below (FQ G A (mW G a v) (some (.int r))) ([.ref (a 0)] : List Value).toArray s 0 0 A) (F0 m 5 ls []) := by
    intro n
    induction n with
    | zero =>
      intro x1_2544 x2_2545 H locs ls hP hD hS hl hf
      exact no_some hf
    | succ n ih =>
      intro x1_2544 x2_2545 H locs ls hP hD hS hl hf
      rw [f_X8_sees_5] at hf
      refine lv_iload_n hx hb dX8_sees_5 rfl (lv_at hl 2 rfl) ?_
      refine lv_bipush (v := (63 : Int32)) hx hb dX8_sees_6 (by decide) ?_
      refine lv_icmp_gt (tgt := 42) hx hb dX8_sees_8 (by decide) (fun c2547 => ?_) (fun c2547 => ?_)
      · have hf := ifT hf c2547
        refine lv_iload_n hx hb dX8_sees_42 rfl (lv_at hl 1 rfl) ?_
        exact fc_reti hx hb hr hlocks hP hS dX8_sees_43 (i1 hf) rfl
      · have hf := ifF hf c2547
        refine lv_iload_n hx hb dX8_sees_11 rfl (lv_at hl 1 rfl) ?_
        have J26_2548 : ∀ (H : Heap) (locs : List Loc) (ls : Array Slot), va_P (gD G) vwCl (mW G a v) H → va_D A (mW G a v) → va_S A s.heap H locs → lv_has ls 3 [(0, .ref (a 0)), (1, .int x1_2544), (2, .int x2_2545)] → f_X8_sees_26 v x1_2544 x2_2545 (fun (x1_2549 : Int32) (x2_2550 : Int32) => f_X8_sees_5 v n x1_2549 x2_2550) = some r → W p l e (headSpec wsX8_sees ({ frames := 4, cells := 0, slots := 0, locals := 90 } : Room)).room s m ([.ref (a 0)] : List Value).toArray below meth c H locs 0 0 (MQ below (FQ G A (mW G a v) (some (.int r))) ([.ref (a 0)] : List Value).toArray s 0 0 A) (F0 m 26 ls []) := by
          intro H locs ls hP hD hS hl hf
          rw [f_X8_sees_26] at hf
          refine lv_aload_n hx hb dX8_sees_26 rfl (lv_at hl 0 rfl) ?_
          refine lv_iload_n hx hb dX8_sees_27 rfl (lv_at hl 2 rfl) ?_
          obtain ⟨q2551, hq2551, hf⟩ := bnd hf
          refine fc_callV (Wa' := (mW G a v)) (st1 := [.int q2551]) (As := [.int x2_2545]) (rest := []) hCF (k_X8_areToldApart a v x2_2545 hq2551) (cwV 1 hts gX8_sees_X8_areToldApart rfl rfl rfl ⟨rfl, dk_X8_areToldApart⟩ ⟨Nat.le_of_ble_eq_true rfl, Nat.le_of_ble_eq_true rfl⟩) hE hAB hP hD hS [0, 1, 2, 3, 4, 5, 6, 7, 8, 9, 10, 11, 12, 13, 14, 15, 16, 17, 18, 19, 20, 21, 22, 23, 24] mW_d (mW_c G a v) (va_recv hE.1 hP (ci := 5) (q0 := 0) rfl (mW_o G a v)) (mW_f G a v v) (mW_s G a v v) rfl rfl hl.1 rfl (Nat.le_of_ble_eq_true rfl) dX8_sees_28 ⟨Nat.le_refl _, Nat.le_refl _⟩ (fun H locs hP hD hS => ?_)
          refine lv_if_eq (tgt := 36) hx hb dX8_sees_31 (by decide) (fun c2552 => ?_) (fun c2552 => ?_)
          · have hf := ifT hf c2552
            refine lv_iinc (v := (x2_2545 + (1 : Int32))) (lv' := [(2, .int (x2_2545 + (1 : Int32))), (0, .ref (a 0)), (1, .int x1_2544)]) hx hb dX8_sees_36 hl (k := 2) rfl rfl (by decide) rfl (fun ls hl => ?_)
            refine lv_goto (tgt := 5) hx hb dX8_sees_39 (by decide) ?_
            exact ih x1_2544 (x2_2545 + (1 : Int32)) _ _ _ hP hD hS (lv_sub hl [1, 2, 0] rfl) hf
          · have hf := ifF hf c2552
            refine lv_iload_n hx hb dX8_sees_34 rfl (lv_at hl 2 rfl) ?_
            refine lv_istore_n (lv' := [(1, .int x2_2545), (0, .ref (a 0)), (2, .int x2_2545)]) hx hb dX8_sees_35 rfl hl (by decide) rfl (fun ls hl => ?_)
            refine lv_iinc (v := (x2_2545 + (1 : Int32))) (lv' := [(2, .int (x2_2545 + (1 : Int32))), (1, .int x2_2545), (0, .ref (a 0))]) hx hb dX8_sees_36 hl (k := 2) rfl rfl (by decide) rfl (fun ls hl => ?_)
            refine lv_goto (tgt := 5) hx hb dX8_sees_39 (by decide) ?_
            exact ih x2_2545 (x2_2545 + (1 : Int32)) _ _ _ hP hD hS (lv_sub hl [2, 1, 0] rfl) hf
        refine lv_if_lt (tgt := 26) hx hb dX8_sees_12 (by decide) (fun c2553 => ?_) (fun c2553 => ?_)
        · have hf := ifT hf c2553
          exact J26_2548 _ _ _ hP hD hS (lv_sub hl [0, 1, 2] rfl) hf
        · have hf := ifF hf c2553
          refine lv_iload_n hx hb dX8_sees_15 rfl (lv_at hl 2 rfl) ?_
          obtain ⟨q2554, hq2554, hf⟩ := bnd hf
          refine fc_callS (Wa' := (mW G a v)) (st1 := [.int q2554]) (As := [.int x2_2545]) (rest := []) hCF (k_X8_bits x2_2545 hq2554) (va_cwS 1 hts gX8_sees_X8_bits rfl rfl rfl dk_X8_bits ⟨Nat.le_of_ble_eq_true rfl, Nat.le_of_ble_eq_true rfl⟩) hE hAB hP hD hS [] rfl rfl rfl rfl rfl rfl hl.1 rfl (Nat.le_of_ble_eq_true rfl) dX8_sees_16 ⟨Nat.le_refl _, Nat.le_refl _⟩ (fun H locs hP hD hS => ?_)
          refine lv_iload_n hx hb dX8_sees_19 rfl (lv_at hl 1 rfl) ?_
          obtain ⟨q2555, hq2555, hf⟩ := bnd hf
          refine fc_callS (Wa' := (mW G a v)) (st1 := [.int q2555, .int q2554]) (As := [.int x1_2544]) (rest := [.int q2554]) hCF (k_X8_bits x1_2544 hq2555) (va_cwS 1 hts gX8_sees_X8_bits rfl rfl rfl dk_X8_bits ⟨Nat.le_of_ble_eq_true rfl, Nat.le_of_ble_eq_true rfl⟩) hE hAB hP hD hS [] rfl rfl rfl rfl rfl rfl hl.1 rfl (Nat.le_of_ble_eq_true rfl) dX8_sees_20 ⟨Nat.le_refl _, Nat.le_refl _⟩ (fun H locs hP hD hS => ?_)
          refine lv_icmp_ge (tgt := 36) hx hb dX8_sees_23 (by decide) (fun c2556 => ?_) (fun c2556 => ?_)
          · have hf := ifT hf c2556
            refine lv_iinc (v := (x2_2545 + (1 : Int32))) (lv' := [(2, .int (x2_2545 + (1 : Int32))), (0, .ref (a 0)), (1, .int x1_2544)]) hx hb dX8_sees_36 hl (k := 2) rfl rfl (by decide) rfl (fun ls hl => ?_)
            refine lv_goto (tgt := 5) hx hb dX8_sees_39 (by decide) ?_
            exact ih x1_2544 (x2_2545 + (1 : Int32)) _ _ _ hP hD hS (lv_sub hl [1, 2, 0] rfl) hf
          · have hf := ifF hf c2556
            exact J26_2548 _ _ _ hP hD hS (lv_sub hl [0, 1, 2] rfl) hf
  exact L5_2546 FUEL (-9 : Int32) (0 : Int32) _ _ _ hP hD hS (lv_sub hl [2, 1, 0] rfl) hf
theorem dk_X8_showsThen : yX8_showsThen.cls ≠ "java/lang/invoke/MethodHandle" ∧ yX8_showsThen.cls ≠ "java/lang/invoke/VarHandle" ∧ (parseMethodDescriptor yX8_showsThen.desc).map (fun d => d.parameters.length) = some 2 := by decide +kernel
set_option maxHeartbeats 4000000 in
set_option maxRecDepth 100000 in
theorem k_X8_showsThen {l : Launch} {G : Gx} (a : Nat → Nat) (v : St) (x1 : Int32) (x2 : Int32) {r : Int32} {v' : St} (hf : f_X8_showsThen v x1 x2 = some (r, v')) : FC l G yX8_showsThen wsX8_showsThen ({ frames := 3, cells := 0, slots := 0, locals := 64 } : Room) [.ref (a 0), .int x1, .int x2] (mW G a v) (mW G a v') (some (.int r)) := by
  refine fc_head (cc := cX8_showsThen) (maxL := 5) (ret := (some .int)) (C := RX8) (lv := [(0, .ref (a 0)), (1, .int x1), (2, .int x2)]) (by decide) rfl rfl (Nat.le_of_ble_eq_true rfl) rfl ?_
  intro p e s m below meth c ls A hx hb hr hml hown hts hlocks hE hP hD hAB hS hl
  have hCF : CallFix p m c cX8_showsThen 5 s ([.ref (a 0), .int x1, .int x2] : List Value).toArray wsX8_showsThen RX8 := ⟨hx, hb, hml, hown, hts⟩
  rw [f_X8_showsThen] at hf
  refine lv_aload_n hx hb dX8_showsThen_0 rfl (lv_at hl 0 rfl) ?_
  refine lv_iload_n hx hb dX8_showsThen_1 rfl (lv_at hl 1 rfl) ?_
  obtain ⟨q2564, hq2564, hf⟩ := bnd hf
  refine fc_callV (Wa' := (mW G a v)) (st1 := [.int q2564]) (As := [.int x1]) (rest := []) hCF (k_X8_isBride a v x1 hq2564) (cwV 1 hts gX8_showsThen_X8_isBride rfl rfl rfl ⟨rfl, dk_X8_isBride⟩ ⟨Nat.le_of_ble_eq_true rfl, Nat.le_of_ble_eq_true rfl⟩) hE hAB hP hD hS [0, 1, 2, 3, 4, 5, 6, 7, 8, 9, 10, 11, 12, 13, 14, 15, 16, 17, 18, 19, 20, 21, 22, 23, 24] mW_d (mW_c G a v) (va_recv hE.1 hP (ci := 5) (q0 := 0) rfl (mW_o G a v)) (mW_f G a v v) (mW_s G a v v) rfl rfl hl.1 rfl (Nat.le_of_ble_eq_true rfl) dX8_showsThen_2 ⟨Nat.le_refl _, Nat.le_refl _⟩ (fun H locs hP hD hS => ?_)
  have J19_2566 : ∀ (s0_2565 : Int32) (H : Heap) (locs : List Loc) (ls : Array Slot), va_P (gD G) vwCl (mW G a v) H → va_D A (mW G a v) → va_S A s.heap H locs → lv_has ls 5 [(0, .ref (a 0)), (1, .int x1), (2, .int x2)] → f_X8_showsThen_19 v x1 x2 s0_2565 = some (r, v') → W p l e (headSpec wsX8_showsThen ({ frames := 3, cells := 0, slots := 0, locals := 64 } : Room)).room s m ([.ref (a 0), .int x1, .int x2] : List Value).toArray below meth c H locs 0 0 (MQ below (FQ G A (mW G a v') (some (.int r))) ([.ref (a 0), .int x1, .int x2] : List Value).toArray s 0 0 A) (F0 m 19 ls [.int s0_2565]) := by
    intro s0_2565 H locs ls hP hD hS hl hf
    rw [f_X8_showsThen_19] at hf
    refine lv_istore_n (lv' := [(3, .int s0_2565), (0, .ref (a 0)), (1, .int x1), (2, .int x2)]) hx hb dX8_showsThen_19 rfl hl (by decide) rfl (fun ls hl => ?_)
    refine lv_iload_n hx hb dX8_showsThen_20 rfl (lv_at hl 0 rfl) ?_
    refine lv_if_eq (tgt := 30) hx hb dX8_showsThen_21 (by decide) (fun c2567 => ?_) (fun c2567 => ?_)
    · have hf := ifT hf c2567
      refine lv_aload_n hx hb dX8_showsThen_30 rfl (lv_at hl 1 rfl) ?_
      obtain ⟨q2568, hq2568, hf⟩ := bnd hf
      refine fc_callV (Wa' := (mW G a q2568)) (st1 := []) (As := []) (rest := []) hCF (k_X8_thinks a v hq2568) (cwV 0 hts gX8_showsThen_X8_thinks rfl rfl rfl ⟨rfl, dk_X8_thinks⟩ ⟨Nat.le_of_ble_eq_true rfl, Nat.le_of_ble_eq_true rfl⟩) hE hAB hP hD hS [0, 1, 2, 3, 4, 5, 6, 7, 8, 9, 10, 11, 12, 13, 14, 15, 16, 17, 18, 19, 20, 21, 22, 23, 24] mW_d (mW_c G a v) (va_recv hE.1 hP (ci := 5) (q0 := 0) rfl (mW_o G a v)) (mW_f G a v q2568) (mW_s G a v q2568) rfl rfl hl.1 rfl (Nat.le_of_ble_eq_true rfl) dX8_showsThen_31 ⟨Nat.le_refl _, Nat.le_refl _⟩ (fun H locs hP hD hS => ?_)
      refine lv_aload_n hx hb dX8_showsThen_34 rfl (lv_at hl 1 rfl) ?_
      refine lv_iload_n hx hb dX8_showsThen_35 rfl (lv_at hl 3 rfl) ?_
      obtain ⟨q2569, hq2569, hf⟩ := bnd hf
      refine fc_callV (Wa' := (mW G a q2569)) (st1 := []) (As := [.int x2]) (rest := []) hCF (k_X8_goes a q2568 x2 hq2569) (cwV 1 hts gX8_showsThen_X8_goes rfl rfl rfl ⟨rfl, dk_X8_goes⟩ ⟨Nat.le_of_ble_eq_true rfl, Nat.le_of_ble_eq_true rfl⟩) hE hAB hP hD hS [0, 1, 2, 3, 4, 5, 6, 7, 8, 9, 10, 11, 12, 13, 14, 15, 16, 17, 18, 19, 20, 21, 22, 23, 24] mW_d (mW_c G a q2568) (va_recv hE.1 hP (ci := 5) (q0 := 0) rfl (mW_o G a q2568)) (mW_f G a q2568 q2569) (mW_s G a q2568 q2569) rfl rfl hl.1 rfl (Nat.le_of_ble_eq_true rfl) dX8_showsThen_36 ⟨Nat.le_refl _, Nat.le_refl _⟩ (fun H locs hP hD hS => ?_)
      refine lv_aload_n hx hb dX8_showsThen_39 rfl (lv_at hl 1 rfl) ?_
      refine lv_iload_n hx hb dX8_showsThen_40 rfl (lv_at hl 2 rfl) ?_
      obtain ⟨q2570, hq2570, hf⟩ := bnd hf
      refine fc_callV (Wa' := (mW G a q2569)) (st1 := [.int q2570]) (As := [.int x1]) (rest := []) hCF (k_X8_showsOf a q2569 x1 hq2570) (cwV 1 hts gX8_showsThen_X8_showsOf rfl rfl rfl ⟨rfl, dk_X8_showsOf⟩ ⟨Nat.le_of_ble_eq_true rfl, Nat.le_of_ble_eq_true rfl⟩) hE hAB hP hD hS [0, 1, 2, 3, 4, 5, 6, 7, 8, 9, 10, 11, 12, 13, 14, 15, 16, 17, 18, 19, 20, 21, 22, 23, 24] mW_d (mW_c G a q2569) (va_recv hE.1 hP (ci := 5) (q0 := 0) rfl (mW_o G a q2569)) (mW_f G a q2569 q2569) (mW_s G a q2569 q2569) rfl rfl hl.1 rfl (Nat.le_of_ble_eq_true rfl) dX8_showsThen_41 ⟨Nat.le_refl _, Nat.le_refl _⟩ (fun H locs hP hD hS => ?_)
      refine lv_istore (lv' := [(4, .int q2570), (3, .int s0_2565), (0, .ref (a 0)), (1, .int x1), (2, .int x2)]) hx hb dX8_showsThen_44 hl (by decide) rfl (fun ls hl => ?_)
      refine lv_aload_n hx hb dX8_showsThen_46 rfl (lv_at hl 2 rfl) ?_
      obtain ⟨q2571, hq2571, hf⟩ := bnd hf
      refine fc_callV (Wa' := (mW G a q2571)) (st1 := []) (As := []) (rest := []) hCF (k_X8_forgets a q2569 hq2571) (cwV 0 hts gX8_showsThen_X8_forgets rfl rfl rfl ⟨rfl, dk_X8_forgets⟩ ⟨Nat.le_of_ble_eq_true rfl, Nat.le_of_ble_eq_true rfl⟩) hE hAB hP hD hS [0, 1, 2, 3, 4, 5, 6, 7, 8, 9, 10, 11, 12, 13, 14, 15, 16, 17, 18, 19, 20, 21, 22, 23, 24] mW_d (mW_c G a q2569) (va_recv hE.1 hP (ci := 5) (q0 := 0) rfl (mW_o G a q2569)) (mW_f G a q2569 q2571) (mW_s G a q2569 q2571) rfl rfl hl.1 rfl (Nat.le_of_ble_eq_true rfl) dX8_showsThen_47 ⟨Nat.le_refl _, Nat.le_refl _⟩ (fun H locs hP hD hS => ?_)
      refine lv_iload hx hb dX8_showsThen_50 (lv_at hl 0 rfl) ?_
      exact fc_reti hx hb hr hlocks hP hS dX8_showsThen_52 (i2a hf) (congrArg (fun z => (mW G a z)) (i2b hf))
    · have hf := ifF hf c2567
      refine lv_aload_n hx hb dX8_showsThen_24 rfl (lv_at hl 1 rfl) ?_
      refine lv_iload_n hx hb dX8_showsThen_25 rfl (lv_at hl 0 rfl) ?_
      obtain ⟨q2572, hq2572, hf⟩ := bnd hf
      refine fc_callV (Wa' := (mW G a q2572.2)) (st1 := [.int q2572.1]) (As := [.int s0_2565]) (rest := []) hCF (k_X8_no a v s0_2565 hq2572) (cwV 1 hts gX8_showsThen_X8_no rfl rfl rfl ⟨rfl, dk_X8_no⟩ ⟨Nat.le_of_ble_eq_true rfl, Nat.le_of_ble_eq_true rfl⟩) hE hAB hP hD hS [0, 1, 2, 3, 4, 5, 6, 7, 8, 9, 10, 11, 12, 13, 14, 15, 16, 17, 18, 19, 20, 21, 22, 23, 24] mW_d (mW_c G a v) (va_recv hE.1 hP (ci := 5) (q0 := 0) rfl (mW_o G a v)) (mW_f G a v q2572.2) (mW_s G a v q2572.2) rfl rfl hl.1 rfl (Nat.le_of_ble_eq_true rfl) dX8_showsThen_26 ⟨Nat.le_refl _, Nat.le_refl _⟩ (fun H locs hP hD hS => ?_)
      exact fc_reti hx hb hr hlocks hP hS dX8_showsThen_29 (i2a hf) (congrArg (fun z => (mW G a z)) (i2b hf))
  refine lv_if_ne (tgt := 12) hx hb dX8_showsThen_5 (by decide) (fun c2573 => ?_) (fun c2573 => ?_)
  · have hf := ifF hf c2573
    refine lv_iload_n hx hb dX8_showsThen_12 rfl (lv_at hl 2 rfl) ?_
    refine lv_iconst (v := (0 : Int32)) hx hb dX8_showsThen_13 (by decide) ?_
    refine lv_bipush (v := (60 : Int32)) hx hb dX8_showsThen_14 (by decide) ?_
    obtain ⟨q2574, hq2574, hf⟩ := bnd hf
    refine fc_callS (Wa' := (mW G a v)) (st1 := [.int q2574]) (As := [.int x2, .int (0 : Int32), .int (60 : Int32)]) (rest := []) hCF (k_X8_bound x2 (0 : Int32) (60 : Int32) hq2574) (va_cwS 3 hts gX8_showsThen_X8_bound rfl rfl rfl dk_X8_bound ⟨Nat.le_of_ble_eq_true rfl, Nat.le_of_ble_eq_true rfl⟩) hE hAB hP hD hS [] rfl rfl rfl rfl rfl rfl hl.1 rfl (Nat.le_of_ble_eq_true rfl) dX8_showsThen_16 ⟨Nat.le_refl _, Nat.le_refl _⟩ (fun H locs hP hD hS => ?_)
    exact J19_2566 q2574 _ _ _ hP hD hS (lv_sub hl [0, 1, 2] rfl) hf
  · have hf := ifT hf c2573
    refine lv_iconst (v := (-1 : Int32)) hx hb dX8_showsThen_8 (by decide) ?_
    refine lv_goto (tgt := 19) hx hb dX8_showsThen_9 (by decide) ?_
    exact J19_2566 (-1 : Int32) _ _ _ hP hD hS (lv_sub hl [0, 1, 2] rfl) hf
theorem dk_X8_statement : yX8_statement.cls ≠ "java/lang/invoke/MethodHandle" ∧ yX8_statement.cls ≠ "java/lang/invoke/VarHandle" ∧ (parseMethodDescriptor yX8_statement.desc).map (fun d => d.parameters.length) = some 0 := by decide +kernel
theorem iu_X8_statement_X8 : ∀ w ∈ u_ws RX8 TX8 29, w ∈ wsX8_statement := by decide +kernel
set_option maxHeartbeats 4000000 in
set_option maxRecDepth 100000 in
theorem k_X8_statement {l : Launch} {G : Gx} (a : Nat → Nat) (v : St) {r : Int32} {v' : St} (hf : f_X8_statement v = some (r, v')) : FC l G yX8_statement wsX8_statement ({ frames := 4, cells := 0, slots := 0, locals := 89 } : Room) [.ref (a 0)] (mW G a v) (mW G a v') (some (.int r)) := by
  refine fc_head (cc := cX8_statement) (maxL := 2) (ret := (some .boolean)) (C := RX8) (lv := [(0, .ref (a 0))]) (by decide) rfl rfl (Nat.le_of_ble_eq_true rfl) rfl ?_
  intro p e s m below meth c ls A hx hb hr hml hown hts hlocks hE hP hD hAB hS hl
  have hCF : CallFix p m c cX8_statement 2 s ([.ref (a 0)] : List Value).toArray wsX8_statement RX8 := ⟨hx, hb, hml, hown, hts⟩
  have hwX8 : ∀ w ∈ u_ws RX8 TX8 29, w.before ([.ref (a 0)] : List Value).toArray s = true := fun w h => hts w (iu_X8_statement_X8 w h)
  have hk_fieldLink_RX8_43__BrideNotKnownModel___letter____I_ := hts (.fieldLink RX8 43 "BrideNotKnownModel" "letter" "[I") (List.mem_of_getElem? (i := 1) rfl)
  have hk_fieldLink_RX8_111__BrideNotKnownModel___statements___I_ := hts (.fieldLink RX8 111 "BrideNotKnownModel" "statements" "I") (List.mem_of_getElem? (i := 2) rfl)
  have hk_fieldLink_RX8_46__BrideNotKnownModel___letterAt____I_ := hts (.fieldLink RX8 46 "BrideNotKnownModel" "letterAt" "[I") (List.mem_of_getElem? (i := 3) rfl)
  have hk_fieldLink_RX8_90__BrideNotKnownModel___at___I_ := hts (.fieldLink RX8 90 "BrideNotKnownModel" "at" "I") (List.mem_of_getElem? (i := 4) rfl)
  rw [f_X8_statement] at hf
  refine lv_aload_n hx hb dX8_statement_0 rfl (lv_at hl 0 rfl) ?_
  obtain ⟨q2578, hq2578, hf⟩ := bnd hf
  refine fc_callV (Wa' := (mW G a v)) (st1 := [.int q2578]) (As := []) (rest := []) hCF (k_X8_next a v hq2578) (cwV 0 hts gX8_statement_X8_next rfl rfl rfl ⟨rfl, dk_X8_next⟩ ⟨Nat.le_of_ble_eq_true rfl, Nat.le_of_ble_eq_true rfl⟩) hE hAB hP hD hS [0, 1, 2, 3, 4, 5, 6, 7, 8, 9, 10, 11, 12, 13, 14, 15, 16, 17, 18, 19, 20, 21, 22, 23, 24] mW_d (mW_c G a v) (va_recv hE.1 hP (ci := 5) (q0 := 0) rfl (mW_o G a v)) (mW_f G a v v) (mW_s G a v v) rfl rfl hl.1 rfl (Nat.le_of_ble_eq_true rfl) dX8_statement_1 ⟨Nat.le_refl _, Nat.le_refl _⟩ (fun H locs hP hD hS => ?_)
  refine lv_istore_n (lv' := [(1, .int q2578), (0, .ref (a 0))]) hx hb dX8_statement_4 rfl hl (by decide) rfl (fun ls hl => ?_)
  refine lv_iload_n hx hb dX8_statement_5 rfl (lv_at hl 0 rfl) ?_
  refine lv_bipush (v := (98 : Int32)) hx hb dX8_statement_6 (by decide) ?_
  have J43_2579 : ∀ (H : Heap) (locs : List Loc) (ls : Array Slot), va_P (gD G) vwCl (mW G a v) H → va_D A (mW G a v) → va_S A s.heap H locs → lv_has ls 2 [(0, .ref (a 0)), (1, .int q2578)] → f_X8_statement_43 v q2578 = some (r, v') → W p l e (headSpec wsX8_statement ({ frames := 4, cells := 0, slots := 0, locals := 89 } : Room)).room s m ([.ref (a 0)] : List Value).toArray below meth c H locs 0 0 (MQ below (FQ G A (mW G a v') (some (.int r))) ([.ref (a 0)] : List Value).toArray s 0 0 A) (F0 m 43 ls []) := by
    intro H locs ls hP hD hS hl hf
    rw [f_X8_statement_43] at hf
    refine lv_aload_n hx hb dX8_statement_43 rfl (lv_at hl 0 rfl) ?_
    refine fc_get (v := .ref (a 12)) (ci := 5) (C := RX8) (T := TX8) (N := 29) hx hb hwX8 hown hE hP 0 (mW_o G a v) rfl 14 (by decide) hk_fieldLink_RX8_43__BrideNotKnownModel___letter____I_ (fun _ h => h) rfl dX8_statement_44 ?_
    refine lv_aload_n hx hb dX8_statement_47 rfl (lv_at hl 0 rfl) ?_
    refine fc_get (v := .int (v 23 5)) (ci := 5) (C := RX8) (T := TX8) (N := 29) hx hb hwX8 hown hE hP 0 (mW_o G a v) rfl 19 (by decide) hk_fieldLink_RX8_111__BrideNotKnownModel___statements___I_ (fun _ h => h) rfl dX8_statement_48 ?_
    refine lv_iload_n hx hb dX8_statement_51 rfl (lv_at hl 1 rfl) ?_
    obtain ⟨c2580, hf⟩ := gd_some hf
    refine fc_iast (n := 48) (f := (v 11)) (Wa' := (mW G a (sA v 11 (upd (v 11) (v 23 5).toNatClampNeg q2578)))) hx hb hE hP hD hS 12 (mW_a12 G a v) (inB_in c2580) dX8_statement_52 (mW_t12 G a v (upd (v 11) (v 23 5).toNatClampNeg q2578)) (fun H locs hP hD hS => ?_)
    refine lv_aload_n hx hb dX8_statement_53 rfl (lv_at hl 0 rfl) ?_
    refine fc_get (v := .ref (a 13)) (ci := 5) (C := RX8) (T := TX8) (N := 29) hx hb hwX8 hown hE hP 0 (mW_o G a (sA v 11 (upd (v 11) (v 23 5).toNatClampNeg q2578))) rfl 15 (by decide) hk_fieldLink_RX8_46__BrideNotKnownModel___letterAt____I_ (fun _ h => h) rfl dX8_statement_54 ?_
    refine lv_aload_n hx hb dX8_statement_57 rfl (lv_at hl 0 rfl) ?_
    refine fc_get (v := .int (v 23 5)) (ci := 5) (C := RX8) (T := TX8) (N := 29) hx hb hwX8 hown hE hP 0 (mW_o G a (sA v 11 (upd (v 11) (v 23 5).toNatClampNeg q2578))) rfl 19 (by decide) hk_fieldLink_RX8_111__BrideNotKnownModel___statements___I_ (fun _ h => h) rfl dX8_statement_58 ?_
    refine lv_aload_n hx hb dX8_statement_61 rfl (lv_at hl 0 rfl) ?_
    refine fc_get (v := .int (v 23 4)) (ci := 5) (C := RX8) (T := TX8) (N := 29) hx hb hwX8 hown hE hP 0 (mW_o G a (sA v 11 (upd (v 11) (v 23 5).toNatClampNeg q2578))) rfl 18 (by decide) hk_fieldLink_RX8_90__BrideNotKnownModel___at___I_ (fun _ h => h) rfl dX8_statement_62 ?_
    obtain ⟨c2581, hf⟩ := gd_some hf
    refine fc_iast (n := 48) (f := (v 12)) (Wa' := (mW G a (sA (sA v 11 (upd (v 11) (v 23 5).toNatClampNeg q2578)) 12 (upd (v 12) (v 23 5).toNatClampNeg (v 23 4))))) hx hb hE hP hD hS 13 (mW_a13 G a (sA v 11 (upd (v 11) (v 23 5).toNatClampNeg q2578))) (inB_in c2581) dX8_statement_65 (mW_t13 G a (sA v 11 (upd (v 11) (v 23 5).toNatClampNeg q2578)) (upd (v 12) (v 23 5).toNatClampNeg (v 23 4))) (fun H locs hP hD hS => ?_)
    refine lv_aload_n hx hb dX8_statement_66 rfl (lv_at hl 0 rfl) ?_
    refine lv_dup hx hb dX8_statement_67 rfl ?_
    refine fc_get (v := .int (v 23 4)) (ci := 5) (C := RX8) (T := TX8) (N := 29) hx hb hwX8 hown hE hP 0 (mW_o G a (sA (sA v 11 (upd (v 11) (v 23 5).toNatClampNeg q2578)) 12 (upd (v 12) (v 23 5).toNatClampNeg (v 23 4)))) rfl 18 (by decide) hk_fieldLink_RX8_90__BrideNotKnownModel___at___I_ (fun _ h => h) rfl dX8_statement_68 ?_
    refine lv_iconst (v := (1 : Int32)) hx hb dX8_statement_71 (by decide) ?_
    refine lv_iadd hx hb dX8_statement_72 ?_
    refine fc_put (Wa' := (mW G a (sA (sA (sA v 11 (upd (v 11) (v 23 5).toNatClampNeg q2578)) 12 (upd (v 12) (v 23 5).toNatClampNeg (v 23 4))) 23 (upd (v 23) 4 ((v 23 4) + (1 : Int32)))))) (ci := 5) (C := RX8) (T := TX8) (N := 29) hx hb hwX8 tyX8 tyX8_ok nmX8 hown hE hP hD hS 0 (mW_o G a (sA (sA v 11 (upd (v 11) (v 23 5).toNatClampNeg q2578)) 12 (upd (v 12) (v 23 5).toNatClampNeg (v 23 4)))) rfl 18 (by decide) hk_fieldLink_RX8_90__BrideNotKnownModel___at___I_ (fun _ h => h) rfl rfl rfl (Nat.le_of_ble_eq_true rfl) dX8_statement_73 (mW_p18 G a (sA (sA v 11 (upd (v 11) (v 23 5).toNatClampNeg q2578)) 12 (upd (v 12) (v 23 5).toNatClampNeg (v 23 4))) ((v 23 4) + (1 : Int32))) (fun H locs hP hD hS => ?_)
    refine lv_aload_n hx hb dX8_statement_76 rfl (lv_at hl 0 rfl) ?_
    refine lv_iload_n hx hb dX8_statement_77 rfl (lv_at hl 1 rfl) ?_
    refine lv_iconst (v := (3 : Int32)) hx hb dX8_statement_78 (by decide) ?_
    refine lv_aload_n hx hb dX8_statement_79 rfl (lv_at hl 0 rfl) ?_
    refine fc_get (v := .int (v 23 5)) (ci := 5) (C := RX8) (T := TX8) (N := 29) hx hb hwX8 hown hE hP 0 (mW_o G a (sA (sA (sA v 11 (upd (v 11) (v 23 5).toNatClampNeg q2578)) 12 (upd (v 12) (v 23 5).toNatClampNeg (v 23 4))) 23 (upd (v 23) 4 ((v 23 4) + (1 : Int32))))) rfl 19 (by decide) hk_fieldLink_RX8_111__BrideNotKnownModel___statements___I_ (fun _ h => h) rfl dX8_statement_80 ?_
    refine lv_imul hx hb dX8_statement_83 ?_
    obtain ⟨q2582, hq2582, hf⟩ := bnd hf
    refine fc_callV (Wa' := (mW G a q2582.2)) (st1 := [.int q2582.1]) (As := [.int q2578, .int ((3 : Int32) * (v 23 5))]) (rest := []) hCF (k_X8_readsAll a (sA (sA (sA v 11 (upd (v 11) (v 23 5).toNatClampNeg q2578)) 12 (upd (v 12) (v 23 5).toNatClampNeg (v 23 4))) 23 (upd (v 23) 4 ((v 23 4) + (1 : Int32)))) q2578 ((3 : Int32) * (v 23 5)) hq2582) (cwV 2 hts gX8_statement_X8_readsAll rfl rfl rfl ⟨rfl, dk_X8_readsAll⟩ ⟨Nat.le_of_ble_eq_true rfl, Nat.le_of_ble_eq_true rfl⟩) hE hAB hP hD hS [0, 1, 2, 3, 4, 5, 6, 7, 8, 9, 10, 11, 12, 13, 14, 15, 16, 17, 18, 19, 20, 21, 22, 23, 24] mW_d (mW_c G a (sA (sA (sA v 11 (upd (v 11) (v 23 5).toNatClampNeg q2578)) 12 (upd (v 12) (v 23 5).toNatClampNeg (v 23 4))) 23 (upd (v 23) 4 ((v 23 4) + (1 : Int32))))) (va_recv hE.1 hP (ci := 5) (q0 := 0) rfl (mW_o G a (sA (sA (sA v 11 (upd (v 11) (v 23 5).toNatClampNeg q2578)) 12 (upd (v 12) (v 23 5).toNatClampNeg (v 23 4))) 23 (upd (v 23) 4 ((v 23 4) + (1 : Int32)))))) (mW_f G a (sA (sA (sA v 11 (upd (v 11) (v 23 5).toNatClampNeg q2578)) 12 (upd (v 12) (v 23 5).toNatClampNeg (v 23 4))) 23 (upd (v 23) 4 ((v 23 4) + (1 : Int32)))) q2582.2) (mW_s G a (sA (sA (sA v 11 (upd (v 11) (v 23 5).toNatClampNeg q2578)) 12 (upd (v 12) (v 23 5).toNatClampNeg (v 23 4))) 23 (upd (v 23) 4 ((v 23 4) + (1 : Int32)))) q2582.2) rfl rfl hl.1 rfl (Nat.le_of_ble_eq_true rfl) dX8_statement_84 ⟨Nat.le_refl _, Nat.le_refl _⟩ (fun H locs hP hD hS => ?_)
    refine lv_if_eq (tgt := 99) hx hb dX8_statement_87 (by decide) (fun c2583 => ?_) (fun c2583 => ?_)
    · have hf := ifT hf c2583
      refine lv_iconst (v := (0 : Int32)) hx hb dX8_statement_99 (by decide) ?_
      exact fc_retz hx hb hr hlocks hP hS dX8_statement_100 (by decide) (i2a hf) (congrArg (fun z => (mW G a z)) (i2b hf))
    · have hf := ifF hf c2583
      refine lv_aload_n hx hb dX8_statement_90 rfl (lv_at hl 0 rfl) ?_
      obtain ⟨q2584, hq2584, hf⟩ := bnd hf
      refine fc_callV (Wa' := (mW G a q2582.2)) (st1 := [.int q2584]) (As := []) (rest := []) hCF (k_X8_next a q2582.2 hq2584) (cwV 0 hts gX8_statement_X8_next rfl rfl rfl ⟨rfl, dk_X8_next⟩ ⟨Nat.le_of_ble_eq_true rfl, Nat.le_of_ble_eq_true rfl⟩) hE hAB hP hD hS [0, 1, 2, 3, 4, 5, 6, 7, 8, 9, 10, 11, 12, 13, 14, 15, 16, 17, 18, 19, 20, 21, 22, 23, 24] mW_d (mW_c G a q2582.2) (va_recv hE.1 hP (ci := 5) (q0 := 0) rfl (mW_o G a q2582.2)) (mW_f G a q2582.2 q2582.2) (mW_s G a q2582.2 q2582.2) rfl rfl hl.1 rfl (Nat.le_of_ble_eq_true rfl) dX8_statement_91 ⟨Nat.le_refl _, Nat.le_refl _⟩ (fun H locs hP hD hS => ?_)
      refine lv_bipush (v := (59 : Int32)) hx hb dX8_statement_94 (by decide) ?_
      refine lv_icmp_eq (tgt := 101) hx hb dX8_statement_96 (by decide) (fun c2585 => ?_) (fun c2585 => ?_)
      · have hf := ifT hf c2585
        refine lv_aload_n hx hb dX8_statement_101 rfl (lv_at hl 0 rfl) ?_
        refine lv_dup hx hb dX8_statement_102 rfl ?_
        refine fc_get (v := .int (q2582.2 23 4)) (ci := 5) (C := RX8) (T := TX8) (N := 29) hx hb hwX8 hown hE hP 0 (mW_o G a q2582.2) rfl 18 (by decide) hk_fieldLink_RX8_90__BrideNotKnownModel___at___I_ (fun _ h => h) rfl dX8_statement_103 ?_
        refine lv_iconst (v := (1 : Int32)) hx hb dX8_statement_106 (by decide) ?_
        refine lv_iadd hx hb dX8_statement_107 ?_
        refine fc_put (Wa' := (mW G a (sA q2582.2 23 (upd (q2582.2 23) 4 ((q2582.2 23 4) + (1 : Int32)))))) (ci := 5) (C := RX8) (T := TX8) (N := 29) hx hb hwX8 tyX8 tyX8_ok nmX8 hown hE hP hD hS 0 (mW_o G a q2582.2) rfl 18 (by decide) hk_fieldLink_RX8_90__BrideNotKnownModel___at___I_ (fun _ h => h) rfl rfl rfl (Nat.le_of_ble_eq_true rfl) dX8_statement_108 (mW_p18 G a q2582.2 ((q2582.2 23 4) + (1 : Int32))) (fun H locs hP hD hS => ?_)
        refine lv_iconst (v := (1 : Int32)) hx hb dX8_statement_111 (by decide) ?_
        exact fc_retz hx hb hr hlocks hP hS dX8_statement_112 (by decide) (i2a hf) (congrArg (fun z => (mW G a z)) (i2b hf))
      · have hf := ifF hf c2585
        refine lv_iconst (v := (0 : Int32)) hx hb dX8_statement_99 (by decide) ?_
        exact fc_retz hx hb hr hlocks hP hS dX8_statement_100 (by decide) (i2a hf) (congrArg (fun z => (mW G a z)) (i2b hf))
  refine lv_icmp_eq (tgt := 43) hx hb dX8_statement_8 (by decide) (fun c2586 => ?_) (fun c2586 => ?_)
  · have hf := ifT hf c2586
    exact J43_2579 _ _ _ hP hD hS (lv_sub hl [1, 0] rfl) hf
  · have hf := ifF hf c2586
    refine lv_iload_n hx hb dX8_statement_11 rfl (lv_at hl 0 rfl) ?_
    refine lv_bipush (v := (103 : Int32)) hx hb dX8_statement_12 (by decide) ?_
    refine lv_icmp_eq (tgt := 43) hx hb dX8_statement_14 (by decide) (fun c2587 => ?_) (fun c2587 => ?_)
    · have hf := ifT hf c2587
      exact J43_2579 _ _ _ hP hD hS (lv_sub hl [1, 0] rfl) hf
    · have hf := ifF hf c2587
      refine lv_iload_n hx hb dX8_statement_17 rfl (lv_at hl 0 rfl) ?_
      refine lv_bipush (v := (116 : Int32)) hx hb dX8_statement_18 (by decide) ?_
      refine lv_icmp_eq (tgt := 43) hx hb dX8_statement_20 (by decide) (fun c2588 => ?_) (fun c2588 => ?_)
      · have hf := ifT hf c2588
        exact J43_2579 _ _ _ hP hD hS (lv_sub hl [1, 0] rfl) hf
      · have hf := ifF hf c2588
        refine lv_iload_n hx hb dX8_statement_23 rfl (lv_at hl 0 rfl) ?_
        refine lv_bipush (v := (108 : Int32)) hx hb dX8_statement_24 (by decide) ?_
        refine lv_icmp_eq (tgt := 43) hx hb dX8_statement_26 (by decide) (fun c2589 => ?_) (fun c2589 => ?_)
        · have hf := ifT hf c2589
          exact J43_2579 _ _ _ hP hD hS (lv_sub hl [1, 0] rfl) hf
        · have hf := ifF hf c2589
          refine lv_iload_n hx hb dX8_statement_29 rfl (lv_at hl 0 rfl) ?_
          refine lv_bipush (v := (119 : Int32)) hx hb dX8_statement_30 (by decide) ?_
          refine lv_icmp_eq (tgt := 43) hx hb dX8_statement_32 (by decide) (fun c2590 => ?_) (fun c2590 => ?_)
          · have hf := ifT hf c2590
            exact J43_2579 _ _ _ hP hD hS (lv_sub hl [1, 0] rfl) hf
          · have hf := ifF hf c2590
            refine lv_iload_n hx hb dX8_statement_35 rfl (lv_at hl 0 rfl) ?_
            refine lv_bipush (v := (121 : Int32)) hx hb dX8_statement_36 (by decide) ?_
            refine lv_icmp_eq (tgt := 43) hx hb dX8_statement_38 (by decide) (fun c2591 => ?_) (fun c2591 => ?_)
            · have hf := ifT hf c2591
              exact J43_2579 _ _ _ hP hD hS (lv_sub hl [1, 0] rfl) hf
            · have hf := ifF hf c2591
              refine lv_iconst (v := (0 : Int32)) hx hb dX8_statement_41 (by decide) ?_
              exact fc_retz hx hb hr hlocks hP hS dX8_statement_42 (by decide) (i2a hf) (congrArg (fun z => (mW G a z)) (i2b hf))
theorem dk_X8_takes : yX8_takes.cls ≠ "java/lang/invoke/MethodHandle" ∧ yX8_takes.cls ≠ "java/lang/invoke/VarHandle" ∧ (parseMethodDescriptor yX8_takes.desc).map (fun d => d.parameters.length) = some 1 := by decide +kernel
theorem iu_X8_takes_X8 : ∀ w ∈ u_ws RX8 TX8 29, w ∈ wsX8_takes := by decide +kernel
set_option maxHeartbeats 4000000 in
set_option maxRecDepth 100000 in
theorem k_X8_takes {l : Launch} {G : Gx} (a : Nat → Nat) (v : St) (x1 : Int32) {r : Int32} {v' : St} (hf : f_X8_takes v x1 = some (r, v')) : FC l G yX8_takes wsX8_takes ({ frames := 5, cells := 0, slots := 0, locals := 114 } : Room) [.ref (a 0), .int x1] (mW G a v) (mW G a v') (some (.int r)) := by
  refine fc_head (cc := cX8_takes) (maxL := 2) (ret := (some .int)) (C := RX8) (lv := [(0, .ref (a 0)), (1, .int x1)]) (by decide) rfl rfl (Nat.le_of_ble_eq_true rfl) rfl ?_
  intro p e s m below meth c ls A hx hb hr hml hown hts hlocks hE hP hD hAB hS hl
  have hCF : CallFix p m c cX8_takes 2 s ([.ref (a 0), .int x1] : List Value).toArray wsX8_takes RX8 := ⟨hx, hb, hml, hown, hts⟩
  have hwX8 : ∀ w ∈ u_ws RX8 TX8 29, w.before ([.ref (a 0), .int x1] : List Value).toArray s = true := fun w h => hts w (iu_X8_takes_X8 w h)
  have hk_fieldLink_RX8_34__BrideNotKnownModel___liquor____I_ := hts (.fieldLink RX8 34 "BrideNotKnownModel" "liquor" "[I") (List.mem_of_getElem? (i := 1) rfl)
  rw [f_X8_takes] at hf
  refine lv_aload_n hx hb dX8_takes_0 rfl (lv_at hl 0 rfl) ?_
  refine lv_iload_n hx hb dX8_takes_1 rfl (lv_at hl 1 rfl) ?_
  obtain ⟨q2597, hq2597, hf⟩ := bnd hf
  refine fc_callV (Wa' := (mW G a v)) (st1 := [.int q2597]) (As := [.int x1]) (rest := []) hCF (k_X8_isGroom a v x1 hq2597) (cwV 1 hts gX8_takes_X8_isGroom rfl rfl rfl ⟨rfl, dk_X8_isGroom⟩ ⟨Nat.le_of_ble_eq_true rfl, Nat.le_of_ble_eq_true rfl⟩) hE hAB hP hD hS [0, 1, 2, 3, 4, 5, 6, 7, 8, 9, 10, 11, 12, 13, 14, 15, 16, 17, 18, 19, 20, 21, 22, 23, 24] mW_d (mW_c G a v) (va_recv hE.1 hP (ci := 5) (q0 := 0) rfl (mW_o G a v)) (mW_f G a v v) (mW_s G a v v) rfl rfl hl.1 rfl (Nat.le_of_ble_eq_true rfl) dX8_takes_2 ⟨Nat.le_refl _, Nat.le_refl _⟩ (fun H locs hP hD hS => ?_)
  refine lv_if_ne (tgt := 14) hx hb dX8_takes_5 (by decide) (fun c2598 => ?_) (fun c2598 => ?_)
  · have hf := ifF hf c2598
    refine lv_aload_n hx hb dX8_takes_14 rfl (lv_at hl 0 rfl) ?_
    refine lv_iload_n hx hb dX8_takes_15 rfl (lv_at hl 1 rfl) ?_
    obtain ⟨q2599, hq2599, hf⟩ := bnd hf
    refine fc_callV (Wa' := (mW G a v)) (st1 := [.int q2599]) (As := [.int x1]) (rest := []) hCF (k_X8_canWed a v x1 hq2599) (cwV 1 hts gX8_takes_X8_canWed rfl rfl rfl ⟨rfl, dk_X8_canWed⟩ ⟨Nat.le_of_ble_eq_true rfl, Nat.le_of_ble_eq_true rfl⟩) hE hAB hP hD hS [0, 1, 2, 3, 4, 5, 6, 7, 8, 9, 10, 11, 12, 13, 14, 15, 16, 17, 18, 19, 20, 21, 22, 23, 24] mW_d (mW_c G a v) (va_recv hE.1 hP (ci := 5) (q0 := 0) rfl (mW_o G a v)) (mW_f G a v v) (mW_s G a v v) rfl rfl hl.1 rfl (Nat.le_of_ble_eq_true rfl) dX8_takes_16 ⟨Nat.le_refl _, Nat.le_refl _⟩ (fun H locs hP hD hS => ?_)
    refine lv_if_eq (tgt := 44) hx hb dX8_takes_19 (by decide) (fun c2600 => ?_) (fun c2600 => ?_)
    · have hf := ifT hf c2600
      refine lv_bipush (v := (-9 : Int32)) hx hb dX8_takes_44 (by decide) ?_
      exact fc_reti hx hb hr hlocks hP hS dX8_takes_46 (i2a hf) (congrArg (fun z => (mW G a z)) (i2b hf))
    · have hf := ifF hf c2600
      refine lv_aload_n hx hb dX8_takes_22 rfl (lv_at hl 0 rfl) ?_
      refine lv_iload_n hx hb dX8_takes_23 rfl (lv_at hl 1 rfl) ?_
      obtain ⟨q2601, hq2601, hf⟩ := bnd hf
      refine fc_callV (Wa' := (mW G a v)) (st1 := [.int q2601]) (As := [.int x1]) (rest := []) hCF (k_X8_knows a v x1 hq2601) (cwV 1 hts gX8_takes_X8_knows rfl rfl rfl ⟨rfl, dk_X8_knows⟩ ⟨Nat.le_of_ble_eq_true rfl, Nat.le_of_ble_eq_true rfl⟩) hE hAB hP hD hS [0, 1, 2, 3, 4, 5, 6, 7, 8, 9, 10, 11, 12, 13, 14, 15, 16, 17, 18, 19, 20, 21, 22, 23, 24] mW_d (mW_c G a v) (va_recv hE.1 hP (ci := 5) (q0 := 0) rfl (mW_o G a v)) (mW_f G a v v) (mW_s G a v v) rfl rfl hl.1 rfl (Nat.le_of_ble_eq_true rfl) dX8_takes_24 ⟨Nat.le_refl _, Nat.le_refl _⟩ (fun H locs hP hD hS => ?_)
      refine lv_if_ge (tgt := 44) hx hb dX8_takes_27 (by decide) (fun c2602 => ?_) (fun c2602 => ?_)
      · have hf := ifT hf c2602
        refine lv_bipush (v := (-9 : Int32)) hx hb dX8_takes_44 (by decide) ?_
        exact fc_reti hx hb hr hlocks hP hS dX8_takes_46 (i2a hf) (congrArg (fun z => (mW G a z)) (i2b hf))
      · have hf := ifF hf c2602
        refine lv_aload_n hx hb dX8_takes_30 rfl (lv_at hl 0 rfl) ?_
        refine lv_iload_n hx hb dX8_takes_31 rfl (lv_at hl 1 rfl) ?_
        refine lv_aload_n hx hb dX8_takes_32 rfl (lv_at hl 0 rfl) ?_
        refine fc_get (v := .ref (a 9)) (ci := 5) (C := RX8) (T := TX8) (N := 29) hx hb hwX8 hown hE hP 0 (mW_o G a v) rfl 8 (by decide) hk_fieldLink_RX8_34__BrideNotKnownModel___liquor____I_ (fun _ h => h) rfl dX8_takes_33 ?_
        refine lv_iload_n hx hb dX8_takes_36 rfl (lv_at hl 1 rfl) ?_
        obtain ⟨c2603, hf⟩ := gd_some hf
        refine fc_iald (n := 5) (f := (v 8)) hx hb hE hP 9 (mW_a9 G a v) (inB_in c2603) dX8_takes_37 ?_
        obtain ⟨q2604, hq2604, hf⟩ := bnd hf
        refine fc_callV (Wa' := (mW G a v)) (st1 := [.int q2604]) (As := [.int x1, .int ((v 8) x1.toNatClampNeg)]) (rest := []) hCF (k_X8_takenBy a v x1 ((v 8) x1.toNatClampNeg) hq2604) (cwV 2 hts gX8_takes_X8_takenBy rfl rfl rfl ⟨rfl, dk_X8_takenBy⟩ ⟨Nat.le_of_ble_eq_true rfl, Nat.le_of_ble_eq_true rfl⟩) hE hAB hP hD hS [0, 1, 2, 3, 4, 5, 6, 7, 8, 9, 10, 11, 12, 13, 14, 15, 16, 17, 18, 19, 20, 21, 22, 23, 24] mW_d (mW_c G a v) (va_recv hE.1 hP (ci := 5) (q0 := 0) rfl (mW_o G a v)) (mW_f G a v v) (mW_s G a v v) rfl rfl hl.1 rfl (Nat.le_of_ble_eq_true rfl) dX8_takes_38 ⟨Nat.le_refl _, Nat.le_refl _⟩ (fun H locs hP hD hS => ?_)
        refine lv_goto (tgt := 46) hx hb dX8_takes_41 (by decide) ?_
        exact fc_reti hx hb hr hlocks hP hS dX8_takes_46 (i2a hf) (congrArg (fun z => (mW G a z)) (i2b hf))
  · have hf := ifT hf c2598
    refine lv_aload_n hx hb dX8_takes_8 rfl (lv_at hl 0 rfl) ?_
    refine lv_iconst (v := (-1 : Int32)) hx hb dX8_takes_9 (by decide) ?_
    obtain ⟨q2605, hq2605, hf⟩ := bnd hf
    refine fc_callV (Wa' := (mW G a q2605.2)) (st1 := [.int q2605.1]) (As := [.int (-1 : Int32)]) (rest := []) hCF (k_X8_no a v (-1 : Int32) hq2605) (cwV 1 hts gX8_takes_X8_no rfl rfl rfl ⟨rfl, dk_X8_no⟩ ⟨Nat.le_of_ble_eq_true rfl, Nat.le_of_ble_eq_true rfl⟩) hE hAB hP hD hS [0, 1, 2, 3, 4, 5, 6, 7, 8, 9, 10, 11, 12, 13, 14, 15, 16, 17, 18, 19, 20, 21, 22, 23, 24] mW_d (mW_c G a v) (va_recv hE.1 hP (ci := 5) (q0 := 0) rfl (mW_o G a v)) (mW_f G a v q2605.2) (mW_s G a v q2605.2) rfl rfl hl.1 rfl (Nat.le_of_ble_eq_true rfl) dX8_takes_10 ⟨Nat.le_refl _, Nat.le_refl _⟩ (fun H locs hP hD hS => ?_)
    exact fc_reti hx hb hr hlocks hP hS dX8_takes_13 (i2a hf) (congrArg (fun z => (mW G a z)) (i2b hf))
theorem dk_X8_unevenBy : yX8_unevenBy.cls ≠ "java/lang/invoke/MethodHandle" ∧ yX8_unevenBy.cls ≠ "java/lang/invoke/VarHandle" ∧ (parseMethodDescriptor yX8_unevenBy.desc).map (fun d => d.parameters.length) = some 1 := by decide +kernel
set_option maxHeartbeats 4000000 in
set_option maxRecDepth 100000 in
theorem k_X8_unevenBy {l : Launch} {G : Gx} (a : Nat → Nat) (v : St) (x1 : Int32) {r : Int32} (hf : f_X8_unevenBy v x1 = some r) : FC l G yX8_unevenBy wsX8_unevenBy ({ frames := 3, cells := 0, slots := 0, locals := 68 } : Room) [.ref (a 0), .int x1] (mW G a v) (mW G a v) (some (.int r)) := by
  refine fc_head (cc := cX8_unevenBy) (maxL := 3) (ret := (some .int)) (C := RX8) (lv := [(0, .ref (a 0)), (1, .int x1)]) (by decide) rfl rfl (Nat.le_of_ble_eq_true rfl) rfl ?_
  intro p e s m below meth c ls A hx hb hr hml hown hts hlocks hE hP hD hAB hS hl
  have hCF : CallFix p m c cX8_unevenBy 3 s ([.ref (a 0), .int x1] : List Value).toArray wsX8_unevenBy RX8 := ⟨hx, hb, hml, hown, hts⟩
  rw [f_X8_unevenBy] at hf
  refine lv_aload_n hx hb dX8_unevenBy_0 rfl (lv_at hl 0 rfl) ?_
  refine lv_iconst (v := (1 : Int32)) hx hb dX8_unevenBy_1 (by decide) ?_
  refine lv_iload_n hx hb dX8_unevenBy_2 rfl (lv_at hl 1 rfl) ?_
  refine lv_ishl hx hb dX8_unevenBy_3 ?_
  refine lv_bipush (v := (63 : Int32)) hx hb dX8_unevenBy_4 (by decide) ?_
  obtain ⟨q2610, hq2610, hf⟩ := bnd hf
  refine fc_callV (Wa' := (mW G a v)) (st1 := [.int q2610]) (As := [.int ((1 : Int32) <<< (x1 &&& 31)), .int (63 : Int32)]) (rest := []) hCF (k_X8_guessesBy a v ((1 : Int32) <<< (x1 &&& 31)) (63 : Int32) hq2610) (cwV 2 hts gX8_unevenBy_X8_guessesBy rfl rfl rfl ⟨rfl, dk_X8_guessesBy⟩ ⟨Nat.le_of_ble_eq_true rfl, Nat.le_of_ble_eq_true rfl⟩) hE hAB hP hD hS [0, 1, 2, 3, 4, 5, 6, 7, 8, 9, 10, 11, 12, 13, 14, 15, 16, 17, 18, 19, 20, 21, 22, 23, 24] mW_d (mW_c G a v) (va_recv hE.1 hP (ci := 5) (q0 := 0) rfl (mW_o G a v)) (mW_f G a v v) (mW_s G a v v) rfl rfl hl.1 rfl (Nat.le_of_ble_eq_true rfl) dX8_unevenBy_6 ⟨Nat.le_refl _, Nat.le_refl _⟩ (fun H locs hP hD hS => ?_)
  obtain ⟨q2611, hq2611, hf⟩ := bnd hf
  refine fc_callS (Wa' := (mW G a v)) (st1 := [.int q2611]) (As := [.int q2610]) (rest := []) hCF (k_X8_bits q2610 hq2611) (va_cwS 1 hts gX8_unevenBy_X8_bits rfl rfl rfl dk_X8_bits ⟨Nat.le_of_ble_eq_true rfl, Nat.le_of_ble_eq_true rfl⟩) hE hAB hP hD hS [] rfl rfl rfl rfl rfl rfl hl.1 rfl (Nat.le_of_ble_eq_true rfl) dX8_unevenBy_9 ⟨Nat.le_refl _, Nat.le_refl _⟩ (fun H locs hP hD hS => ?_)
  refine lv_aload_n hx hb dX8_unevenBy_12 rfl (lv_at hl 0 rfl) ?_
  refine lv_iconst (v := (1 : Int32)) hx hb dX8_unevenBy_13 (by decide) ?_
  refine lv_iload_n hx hb dX8_unevenBy_14 rfl (lv_at hl 1 rfl) ?_
  refine lv_ishl hx hb dX8_unevenBy_15 ?_
  refine lv_iconst (v := (0 : Int32)) hx hb dX8_unevenBy_16 (by decide) ?_
  obtain ⟨q2612, hq2612, hf⟩ := bnd hf
  refine fc_callV (Wa' := (mW G a v)) (st1 := [.int q2612, .int q2611]) (As := [.int ((1 : Int32) <<< (x1 &&& 31)), .int (0 : Int32)]) (rest := [.int q2611]) hCF (k_X8_guessesBy a v ((1 : Int32) <<< (x1 &&& 31)) (0 : Int32) hq2612) (cwV 2 hts gX8_unevenBy_X8_guessesBy rfl rfl rfl ⟨rfl, dk_X8_guessesBy⟩ ⟨Nat.le_of_ble_eq_true rfl, Nat.le_of_ble_eq_true rfl⟩) hE hAB hP hD hS [0, 1, 2, 3, 4, 5, 6, 7, 8, 9, 10, 11, 12, 13, 14, 15, 16, 17, 18, 19, 20, 21, 22, 23, 24] mW_d (mW_c G a v) (va_recv hE.1 hP (ci := 5) (q0 := 0) rfl (mW_o G a v)) (mW_f G a v v) (mW_s G a v v) rfl rfl hl.1 rfl (Nat.le_of_ble_eq_true rfl) dX8_unevenBy_17 ⟨Nat.le_refl _, Nat.le_refl _⟩ (fun H locs hP hD hS => ?_)
  obtain ⟨q2613, hq2613, hf⟩ := bnd hf
  refine fc_callS (Wa' := (mW G a v)) (st1 := [.int q2613, .int q2611]) (As := [.int q2612]) (rest := [.int q2611]) hCF (k_X8_bits q2612 hq2613) (va_cwS 1 hts gX8_unevenBy_X8_bits rfl rfl rfl dk_X8_bits ⟨Nat.le_of_ble_eq_true rfl, Nat.le_of_ble_eq_true rfl⟩) hE hAB hP hD hS [] rfl rfl rfl rfl rfl rfl hl.1 rfl (Nat.le_of_ble_eq_true rfl) dX8_unevenBy_20 ⟨Nat.le_refl _, Nat.le_refl _⟩ (fun H locs hP hD hS => ?_)
  refine lv_isub hx hb dX8_unevenBy_23 ?_
  refine lv_istore_n (lv' := [(2, .int (q2611 - q2613)), (0, .ref (a 0)), (1, .int x1)]) hx hb dX8_unevenBy_24 rfl hl (by decide) rfl (fun ls hl => ?_)
  refine lv_iload_n hx hb dX8_unevenBy_25 rfl (lv_at hl 0 rfl) ?_
  refine lv_if_ge (tgt := 34) hx hb dX8_unevenBy_26 (by decide) (fun c2614 => ?_) (fun c2614 => ?_)
  · have hf := ifT hf c2614
    refine lv_iload_n hx hb dX8_unevenBy_34 rfl (lv_at hl 0 rfl) ?_
    exact fc_reti hx hb hr hlocks hP hS dX8_unevenBy_35 (i1 hf) rfl
  · have hf := ifF hf c2614
    refine lv_iload_n hx hb dX8_unevenBy_29 rfl (lv_at hl 0 rfl) ?_
    refine lv_ineg hx hb dX8_unevenBy_30 ?_
    refine lv_goto (tgt := 35) hx hb dX8_unevenBy_31 (by decide) ?_
    exact fc_reti hx hb hr hlocks hP hS dX8_unevenBy_35 (i1 hf) rfl
theorem dk_X8_tells : yX8_tells.cls ≠ "java/lang/invoke/MethodHandle" ∧ yX8_tells.cls ≠ "java/lang/invoke/VarHandle" ∧ (parseMethodDescriptor yX8_tells.desc).map (fun d => d.parameters.length) = some 0 := by decide +kernel
set_option maxHeartbeats 4000000 in
set_option maxRecDepth 100000 in
theorem k_X8_tells {l : Launch} {G : Gx} (a : Nat → Nat) (v : St) {r : Int32} (hf : f_X8_tells v = some r) : FC l G yX8_tells wsX8_tells ({ frames := 4, cells := 0, slots := 0, locals := 90 } : Room) [.ref (a 0)] (mW G a v) (mW G a v) (some (.int r)) := by
  refine fc_head (cc := cX8_tells) (maxL := 3) (ret := (some .int)) (C := RX8) (lv := [(0, .ref (a 0))]) (by decide) rfl rfl (Nat.le_of_ble_eq_true rfl) rfl ?_
  intro p e s m below meth c ls A hx hb hr hml hown hts hlocks hE hP hD hAB hS hl
  have hCF : CallFix p m c cX8_tells 3 s ([.ref (a 0)] : List Value).toArray wsX8_tells RX8 := ⟨hx, hb, hml, hown, hts⟩
  rw [f_X8_tells] at hf
  refine lv_iconst (v := (0 : Int32)) hx hb dX8_tells_0 (by decide) ?_
  refine lv_istore_n (lv' := [(1, .int (0 : Int32)), (0, .ref (a 0))]) hx hb dX8_tells_1 rfl hl (by decide) rfl (fun ls hl => ?_)
  refine lv_iconst (v := (1 : Int32)) hx hb dX8_tells_2 (by decide) ?_
  refine lv_istore_n (lv' := [(2, .int (1 : Int32)), (1, .int (0 : Int32)), (0, .ref (a 0))]) hx hb dX8_tells_3 rfl hl (by decide) rfl (fun ls hl => ?_)
  have L4_2619 : ∀ (n : Nat) (x1_2617 : Int32) (x2_2618 : Int32) (H : Heap) (locs : List Loc) (ls : Array Slot), va_P (gD G) vwCl (mW G a v) H → va_D A (mW G a v) → va_S A s.heap H locs → lv_has ls 3 [(0, .ref (a 0)), (1, .int x1_2617), (2, .int x2_2618)] → f_X8_tells_4 v n x1_2617 x2_2618 = some r → W p l e (headSpec wsX8_tells ({ frames := 4, cells := 0, slots := 0, locals := 90 } : Room)).room s m ([.ref (a 0)] : List Value).toArray below meth c H locs 0 0 (MQ below (FQ G A (mW G a v) (some (.int r))) ([.ref (a 0)] : List Value).toArray s 0 0 A) (F0 m 4 ls []) := by
    intro n
    induction n with
    | zero =>
      intro x1_2617 x2_2618 H locs ls hP hD hS hl hf
      exact no_some hf
    | succ n ih =>
      intro x1_2617 x2_2618 H locs ls hP hD hS hl hf
      rw [f_X8_tells_4] at hf
      refine lv_iload_n hx hb dX8_tells_4 rfl (lv_at hl 2 rfl) ?_
      refine lv_bipush (v := (6 : Int32)) hx hb dX8_tells_5 (by decide) ?_
      refine lv_icmp_ge (tgt := 35) hx hb dX8_tells_7 (by decide) (fun c2620 => ?_) (fun c2620 => ?_)
      · have hf := ifT hf c2620
        refine lv_iload_n hx hb dX8_tells_35 rfl (lv_at hl 1 rfl) ?_
        exact fc_reti hx hb hr hlocks hP hS dX8_tells_36 (i1 hf) rfl
      · have hf := ifF hf c2620
        refine lv_aload_n hx hb dX8_tells_10 rfl (lv_at hl 0 rfl) ?_
        refine lv_iload_n hx hb dX8_tells_11 rfl (lv_at hl 2 rfl) ?_
        obtain ⟨q2621, hq2621, hf⟩ := bnd hf
        refine fc_callV (Wa' := (mW G a v)) (st1 := [.int q2621]) (As := [.int x2_2618]) (rest := []) hCF (k_X8_unevenBy a v x2_2618 hq2621) (cwV 1 hts gX8_tells_X8_unevenBy rfl rfl rfl ⟨rfl, dk_X8_unevenBy⟩ ⟨Nat.le_of_ble_eq_true rfl, Nat.le_of_ble_eq_true rfl⟩) hE hAB hP hD hS [0, 1, 2, 3, 4, 5, 6, 7, 8, 9, 10, 11, 12, 13, 14, 15, 16, 17, 18, 19, 20, 21, 22, 23, 24] mW_d (mW_c G a v) (va_recv hE.1 hP (ci := 5) (q0 := 0) rfl (mW_o G a v)) (mW_f G a v v) (mW_s G a v v) rfl rfl hl.1 rfl (Nat.le_of_ble_eq_true rfl) dX8_tells_12 ⟨Nat.le_refl _, Nat.le_refl _⟩ (fun H locs hP hD hS => ?_)
        refine lv_aload_n hx hb dX8_tells_15 rfl (lv_at hl 0 rfl) ?_
        refine lv_iload_n hx hb dX8_tells_16 rfl (lv_at hl 1 rfl) ?_
        obtain ⟨q2622, hq2622, hf⟩ := bnd hf
        refine fc_callV (Wa' := (mW G a v)) (st1 := [.int q2622, .int q2621]) (As := [.int x1_2617]) (rest := [.int q2621]) hCF (k_X8_unevenBy a v x1_2617 hq2622) (cwV 1 hts gX8_tells_X8_unevenBy rfl rfl rfl ⟨rfl, dk_X8_unevenBy⟩ ⟨Nat.le_of_ble_eq_true rfl, Nat.le_of_ble_eq_true rfl⟩) hE hAB hP hD hS [0, 1, 2, 3, 4, 5, 6, 7, 8, 9, 10, 11, 12, 13, 14, 15, 16, 17, 18, 19, 20, 21, 22, 23, 24] mW_d (mW_c G a v) (va_recv hE.1 hP (ci := 5) (q0 := 0) rfl (mW_o G a v)) (mW_f G a v v) (mW_s G a v v) rfl rfl hl.1 rfl (Nat.le_of_ble_eq_true rfl) dX8_tells_17 ⟨Nat.le_refl _, Nat.le_refl _⟩ (fun H locs hP hD hS => ?_)
        refine lv_icmp_ge (tgt := 27) hx hb dX8_tells_20 (by decide) (fun c2623 => ?_) (fun c2623 => ?_)
        · have hf := ifT hf c2623
          refine lv_iload_n hx hb dX8_tells_27 rfl (lv_at hl 1 rfl) ?_
          refine lv_istore_n (lv' := [(1, .int x1_2617), (0, .ref (a 0)), (2, .int x2_2618)]) hx hb dX8_tells_28 rfl hl (by decide) rfl (fun ls hl => ?_)
          refine lv_iinc (v := (x2_2618 + (1 : Int32))) (lv' := [(2, .int (x2_2618 + (1 : Int32))), (1, .int x1_2617), (0, .ref (a 0))]) hx hb dX8_tells_29 hl (k := 2) rfl rfl (by decide) rfl (fun ls hl => ?_)
          refine lv_goto (tgt := 4) hx hb dX8_tells_32 (by decide) ?_
          exact ih x1_2617 (x2_2618 + (1 : Int32)) _ _ _ hP hD hS (lv_sub hl [2, 1, 0] rfl) hf
        · have hf := ifF hf c2623
          refine lv_iload_n hx hb dX8_tells_23 rfl (lv_at hl 2 rfl) ?_
          refine lv_goto (tgt := 28) hx hb dX8_tells_24 (by decide) ?_
          refine lv_istore_n (lv' := [(1, .int x2_2618), (0, .ref (a 0)), (2, .int x2_2618)]) hx hb dX8_tells_28 rfl hl (by decide) rfl (fun ls hl => ?_)
          refine lv_iinc (v := (x2_2618 + (1 : Int32))) (lv' := [(2, .int (x2_2618 + (1 : Int32))), (1, .int x2_2618), (0, .ref (a 0))]) hx hb dX8_tells_29 hl (k := 2) rfl rfl (by decide) rfl (fun ls hl => ?_)
          refine lv_goto (tgt := 4) hx hb dX8_tells_32 (by decide) ?_
          exact ih x2_2618 (x2_2618 + (1 : Int32)) _ _ _ hP hD hS (lv_sub hl [2, 1, 0] rfl) hf
  exact L4_2619 FUEL (0 : Int32) (1 : Int32) _ _ _ hP hD hS (lv_sub hl [2, 1, 0] rfl) hf
theorem dk_X8_turn : yX8_turn.cls ≠ "java/lang/invoke/MethodHandle" ∧ yX8_turn.cls ≠ "java/lang/invoke/VarHandle" ∧ (parseMethodDescriptor yX8_turn.desc).map (fun d => d.parameters.length) = some 3 := by decide +kernel
theorem iu_X8_turn_X8 : ∀ w ∈ u_ws RX8 TX8 29, w ∈ wsX8_turn := by decide +kernel
set_option maxHeartbeats 4000000 in
set_option maxRecDepth 100000 in
theorem k_X8_turn {l : Launch} {G : Gx} (a : Nat → Nat) (v : St) (x1 : Int32) (x2 : Int32) (x3 : Int32) {r : Int32} {v' : St} (hf : f_X8_turn v x1 x2 x3 = some (r, v')) : FC l G yX8_turn wsX8_turn ({ frames := 1, cells := 0, slots := 0, locals := 22 } : Room) [.ref (a 0), .int x1, .int x2, .int x3] (mW G a v) (mW G a v') (some (.int r)) := by
  refine fc_head (cc := cX8_turn) (maxL := 6) (ret := (some .int)) (C := RX8) (lv := [(0, .ref (a 0)), (1, .int x1), (2, .int x2), (3, .int x3)]) (by decide) rfl rfl (Nat.le_of_ble_eq_true rfl) rfl ?_
  intro p e s m below meth c ls A hx hb hr hml hown hts hlocks hE hP hD hAB hS hl
  have hCF : CallFix p m c cX8_turn 6 s ([.ref (a 0), .int x1, .int x2, .int x3] : List Value).toArray wsX8_turn RX8 := ⟨hx, hb, hml, hown, hts⟩
  have hwX8 : ∀ w ∈ u_ws RX8 TX8 29, w.before ([.ref (a 0), .int x1, .int x2, .int x3] : List Value).toArray s = true := fun w h => hts w (iu_X8_turn_X8 w h)
  have hk_fieldLink_RX8_13__BrideNotKnownModel___kind____I_ := hts (.fieldLink RX8 13 "BrideNotKnownModel" "kind" "[I") (List.mem_of_getElem? (i := 1) rfl)
  have hk_fieldLink_RX8_16__BrideNotKnownModel___figure____I_ := hts (.fieldLink RX8 16 "BrideNotKnownModel" "figure" "[I") (List.mem_of_getElem? (i := 2) rfl)
  rw [f_X8_turn] at hf
  refine lv_aload_n hx hb dX8_turn_0 rfl (lv_at hl 0 rfl) ?_
  refine lv_iload_n hx hb dX8_turn_1 rfl (lv_at hl 1 rfl) ?_
  obtain ⟨q2628, hq2628, hf⟩ := bnd hf
  refine fc_callV (Wa' := (mW G a v)) (st1 := [.int q2628]) (As := [.int x1]) (rest := []) hCF (k_X8_isBride a v x1 hq2628) (cwV 1 hts gX8_turn_X8_isBride rfl rfl rfl ⟨rfl, dk_X8_isBride⟩ ⟨Nat.le_of_ble_eq_true rfl, Nat.le_of_ble_eq_true rfl⟩) hE hAB hP hD hS [0, 1, 2, 3, 4, 5, 6, 7, 8, 9, 10, 11, 12, 13, 14, 15, 16, 17, 18, 19, 20, 21, 22, 23, 24] mW_d (mW_c G a v) (va_recv hE.1 hP (ci := 5) (q0 := 0) rfl (mW_o G a v)) (mW_f G a v v) (mW_s G a v v) rfl rfl hl.1 rfl (Nat.le_of_ble_eq_true rfl) dX8_turn_2 ⟨Nat.le_refl _, Nat.le_refl _⟩ (fun H locs hP hD hS => ?_)
  have J33_2630 : ∀ (s0_2629 : Int32) (H : Heap) (locs : List Loc) (ls : Array Slot), va_P (gD G) vwCl (mW G a v) H → va_D A (mW G a v) → va_S A s.heap H locs → lv_has ls 6 [(0, .ref (a 0)), (1, .int x1), (2, .int x2), (3, .int x3)] → f_X8_turn_33 v x1 x2 x3 s0_2629 = some (r, v') → W p l e (headSpec wsX8_turn ({ frames := 1, cells := 0, slots := 0, locals := 22 } : Room)).room s m ([.ref (a 0), .int x1, .int x2, .int x3] : List Value).toArray below meth c H locs 0 0 (MQ below (FQ G A (mW G a v') (some (.int r))) ([.ref (a 0), .int x1, .int x2, .int x3] : List Value).toArray s 0 0 A) (F0 m 33 ls [.int s0_2629]) := by
    intro s0_2629 H locs ls hP hD hS hl hf
    rw [f_X8_turn_33] at hf
    refine lv_istore (lv' := [(4, .int s0_2629), (0, .ref (a 0)), (1, .int x1), (2, .int x2), (3, .int x3)]) hx hb dX8_turn_33 hl (by decide) rfl (fun ls hl => ?_)
    refine lv_iload hx hb dX8_turn_35 (lv_at hl 0 rfl) ?_
    refine lv_if_eq (tgt := 47) hx hb dX8_turn_37 (by decide) (fun c2631 => ?_) (fun c2631 => ?_)
    · have hf := ifT hf c2631
      refine lv_bipush (v := (10 : Int32)) hx hb dX8_turn_47 (by decide) ?_
      refine lv_aload_n hx hb dX8_turn_49 rfl (lv_at hl 1 rfl) ?_
      refine fc_get (v := .ref (a 2)) (ci := 5) (C := RX8) (T := TX8) (N := 29) hx hb hwX8 hown hE hP 0 (mW_o G a v) rfl 1 (by decide) hk_fieldLink_RX8_13__BrideNotKnownModel___kind____I_ (fun _ h => h) rfl dX8_turn_50 ?_
      refine lv_iload_n hx hb dX8_turn_53 rfl (lv_at hl 2 rfl) ?_
      obtain ⟨c2632, hf⟩ := gd_some hf
      refine fc_iald (n := 8) (f := (v 1)) hx hb hE hP 2 (mW_a2 G a v) (inB_in c2632) dX8_turn_54 ?_
      refine lv_imul hx hb dX8_turn_55 ?_
      refine lv_aload_n hx hb dX8_turn_56 rfl (lv_at hl 1 rfl) ?_
      refine fc_get (v := .ref (a 3)) (ci := 5) (C := RX8) (T := TX8) (N := 29) hx hb hwX8 hown hE hP 0 (mW_o G a v) rfl 2 (by decide) hk_fieldLink_RX8_16__BrideNotKnownModel___figure____I_ (fun _ h => h) rfl dX8_turn_57 ?_
      refine lv_iload_n hx hb dX8_turn_60 rfl (lv_at hl 2 rfl) ?_
      obtain ⟨c2633, hf⟩ := gd_some hf
      refine fc_iald (n := 8) (f := (v 2)) hx hb hE hP 3 (mW_a3 G a v) (inB_in c2633) dX8_turn_61 ?_
      refine lv_iadd hx hb dX8_turn_62 ?_
      refine lv_istore (lv' := [(5, .int (((10 : Int32) * ((v 1) x1.toNatClampNeg)) + ((v 2) x1.toNatClampNeg))), (4, .int s0_2629), (0, .ref (a 0)), (1, .int x1), (2, .int x2), (3, .int x3)]) hx hb dX8_turn_63 hl (by decide) rfl (fun ls hl => ?_)
      refine lv_aload_n hx hb dX8_turn_65 rfl (lv_at hl 2 rfl) ?_
      refine fc_get (v := .ref (a 2)) (ci := 5) (C := RX8) (T := TX8) (N := 29) hx hb hwX8 hown hE hP 0 (mW_o G a v) rfl 1 (by decide) hk_fieldLink_RX8_13__BrideNotKnownModel___kind____I_ (fun _ h => h) rfl dX8_turn_66 ?_
      refine lv_iload_n hx hb dX8_turn_69 rfl (lv_at hl 3 rfl) ?_
      refine lv_iload_n hx hb dX8_turn_70 rfl (lv_at hl 4 rfl) ?_
      obtain ⟨c2634, hf⟩ := gd_some hf
      refine fc_iast (n := 8) (f := (v 1)) (Wa' := (mW G a (sA v 1 (upd (v 1) x1.toNatClampNeg x2)))) hx hb hE hP hD hS 2 (mW_a2 G a v) (inB_in c2634) dX8_turn_71 (mW_t2 G a v (upd (v 1) x1.toNatClampNeg x2)) (fun H locs hP hD hS => ?_)
      refine lv_aload_n hx hb dX8_turn_72 rfl (lv_at hl 2 rfl) ?_
      refine fc_get (v := .ref (a 3)) (ci := 5) (C := RX8) (T := TX8) (N := 29) hx hb hwX8 hown hE hP 0 (mW_o G a (sA v 1 (upd (v 1) x1.toNatClampNeg x2))) rfl 2 (by decide) hk_fieldLink_RX8_16__BrideNotKnownModel___figure____I_ (fun _ h => h) rfl dX8_turn_73 ?_
      refine lv_iload_n hx hb dX8_turn_76 rfl (lv_at hl 3 rfl) ?_
      refine lv_iload_n hx hb dX8_turn_77 rfl (lv_at hl 5 rfl) ?_
      obtain ⟨c2635, hf⟩ := gd_some hf
      refine fc_iast (n := 8) (f := (v 2)) (Wa' := (mW G a (sA (sA v 1 (upd (v 1) x1.toNatClampNeg x2)) 2 (upd (v 2) x1.toNatClampNeg x3)))) hx hb hE hP hD hS 3 (mW_a3 G a (sA v 1 (upd (v 1) x1.toNatClampNeg x2))) (inB_in c2635) dX8_turn_78 (mW_t3 G a (sA v 1 (upd (v 1) x1.toNatClampNeg x2)) (upd (v 2) x1.toNatClampNeg x3)) (fun H locs hP hD hS => ?_)
      refine lv_iload hx hb dX8_turn_79 (lv_at hl 0 rfl) ?_
      exact fc_reti hx hb hr hlocks hP hS dX8_turn_81 (i2a hf) (congrArg (fun z => (mW G a z)) (i2b hf))
    · have hf := ifF hf c2631
      refine lv_aload_n hx hb dX8_turn_40 rfl (lv_at hl 1 rfl) ?_
      refine lv_iload hx hb dX8_turn_41 (lv_at hl 0 rfl) ?_
      obtain ⟨q2636, hq2636, hf⟩ := bnd hf
      refine fc_callV (Wa' := (mW G a q2636.2)) (st1 := [.int q2636.1]) (As := [.int s0_2629]) (rest := []) hCF (k_X8_no a v s0_2629 hq2636) (cwV 1 hts gX8_turn_X8_no rfl rfl rfl ⟨rfl, dk_X8_no⟩ ⟨Nat.le_of_ble_eq_true rfl, Nat.le_of_ble_eq_true rfl⟩) hE hAB hP hD hS [0, 1, 2, 3, 4, 5, 6, 7, 8, 9, 10, 11, 12, 13, 14, 15, 16, 17, 18, 19, 20, 21, 22, 23, 24] mW_d (mW_c G a v) (va_recv hE.1 hP (ci := 5) (q0 := 0) rfl (mW_o G a v)) (mW_f G a v q2636.2) (mW_s G a v q2636.2) rfl rfl hl.1 rfl (Nat.le_of_ble_eq_true rfl) dX8_turn_43 ⟨Nat.le_refl _, Nat.le_refl _⟩ (fun H locs hP hD hS => ?_)
      exact fc_reti hx hb hr hlocks hP hS dX8_turn_46 (i2a hf) (congrArg (fun z => (mW G a z)) (i2b hf))
  refine lv_if_ne (tgt := 12) hx hb dX8_turn_5 (by decide) (fun c2637 => ?_) (fun c2637 => ?_)
  · have hf := ifF hf c2637
    refine lv_iload_n hx hb dX8_turn_12 rfl (lv_at hl 2 rfl) ?_
    refine lv_iconst (v := (0 : Int32)) hx hb dX8_turn_13 (by decide) ?_
    refine lv_iconst (v := (5 : Int32)) hx hb dX8_turn_14 (by decide) ?_
    obtain ⟨q2638, hq2638, hf⟩ := bnd hf
    refine fc_callS (Wa' := (mW G a v)) (st1 := [.int q2638]) (As := [.int x2, .int (0 : Int32), .int (5 : Int32)]) (rest := []) hCF (k_X8_isIn x2 (0 : Int32) (5 : Int32) hq2638) (va_cwS 3 hts gX8_turn_X8_isIn rfl rfl rfl dk_X8_isIn ⟨Nat.le_of_ble_eq_true rfl, Nat.le_of_ble_eq_true rfl⟩) hE hAB hP hD hS [] rfl rfl rfl rfl rfl rfl hl.1 rfl (Nat.le_of_ble_eq_true rfl) dX8_turn_15 ⟨Nat.le_refl _, Nat.le_refl _⟩ (fun H locs hP hD hS => ?_)
    refine lv_if_ne (tgt := 26) hx hb dX8_turn_18 (by decide) (fun c2639 => ?_) (fun c2639 => ?_)
    · have hf := ifF hf c2639
      refine lv_iload_n hx hb dX8_turn_26 rfl (lv_at hl 3 rfl) ?_
      refine lv_iconst (v := (0 : Int32)) hx hb dX8_turn_27 (by decide) ?_
      refine lv_bipush (v := (9 : Int32)) hx hb dX8_turn_28 (by decide) ?_
      obtain ⟨q2640, hq2640, hf⟩ := bnd hf
      refine fc_callS (Wa' := (mW G a v)) (st1 := [.int q2640]) (As := [.int x3, .int (0 : Int32), .int (9 : Int32)]) (rest := []) hCF (k_X8_bound x3 (0 : Int32) (9 : Int32) hq2640) (va_cwS 3 hts gX8_turn_X8_bound rfl rfl rfl dk_X8_bound ⟨Nat.le_of_ble_eq_true rfl, Nat.le_of_ble_eq_true rfl⟩) hE hAB hP hD hS [] rfl rfl rfl rfl rfl rfl hl.1 rfl (Nat.le_of_ble_eq_true rfl) dX8_turn_30 ⟨Nat.le_refl _, Nat.le_refl _⟩ (fun H locs hP hD hS => ?_)
      exact J33_2630 q2640 _ _ _ hP hD hS (lv_sub hl [0, 1, 2, 3] rfl) hf
    · have hf := ifT hf c2639
      refine lv_bipush (v := (-2 : Int32)) hx hb dX8_turn_21 (by decide) ?_
      refine lv_goto (tgt := 33) hx hb dX8_turn_23 (by decide) ?_
      exact J33_2630 (-2 : Int32) _ _ _ hP hD hS (lv_sub hl [0, 1, 2, 3] rfl) hf
  · have hf := ifT hf c2637
    refine lv_iconst (v := (-1 : Int32)) hx hb dX8_turn_8 (by decide) ?_
    refine lv_goto (tgt := 33) hx hb dX8_turn_9 (by decide) ?_
    exact J33_2630 (-1 : Int32) _ _ _ hP hD hS (lv_sub hl [0, 1, 2, 3] rfl) hf
theorem dk_X8_two : yX8_two.cls ≠ "java/lang/invoke/MethodHandle" ∧ yX8_two.cls ≠ "java/lang/invoke/VarHandle" ∧ (parseMethodDescriptor yX8_two.desc).map (fun d => d.parameters.length) = some 2 := by decide +kernel
theorem iu_X8_two_X8 : ∀ w ∈ u_ws RX8 TX8 29, w ∈ wsX8_two := by decide +kernel
set_option maxHeartbeats 4000000 in
set_option maxRecDepth 100000 in
theorem k_X8_two {l : Launch} {G : Gx} (a : Nat → Nat) (v : St) (x1 : Int32) (x2 : Int32) {r : Int32} {v' : St} (hf : f_X8_two v x1 x2 = some (r, v')) : FC l G yX8_two wsX8_two ({ frames := 7, cells := 0, slots := 0, locals := 157 } : Room) [.ref (a 0), .int x1, .int x2] (mW G a v) (mW G a v') (some (.int r)) := by
  refine fc_head (cc := cX8_two) (maxL := 5) (ret := (some .int)) (C := RX8) (lv := [(0, .ref (a 0)), (1, .int x1), (2, .int x2)]) (by decide) rfl rfl (Nat.le_of_ble_eq_true rfl) rfl ?_
  intro p e s m below meth c ls A hx hb hr hml hown hts hlocks hE hP hD hAB hS hl
  have hCF : CallFix p m c cX8_two 5 s ([.ref (a 0), .int x1, .int x2] : List Value).toArray wsX8_two RX8 := ⟨hx, hb, hml, hown, hts⟩
  have hwX8 : ∀ w ∈ u_ws RX8 TX8 29, w.before ([.ref (a 0), .int x1, .int x2] : List Value).toArray s = true := fun w h => hts w (iu_X8_two_X8 w h)
  have hk_fieldLink_RX8_63__BrideNotKnownModel___costs____I_ := hts (.fieldLink RX8 63 "BrideNotKnownModel" "costs" "[I") (List.mem_of_getElem? (i := 2) rfl)
  have hk_fieldLink_RX8_22__BrideNotKnownModel___state____I_ := hts (.fieldLink RX8 22 "BrideNotKnownModel" "state" "[I") (List.mem_of_getElem? (i := 1) rfl)
  rw [f_X8_two] at hf
  refine lv_aload_n hx hb dX8_two_0 rfl (lv_at hl 0 rfl) ?_
  refine lv_iload_n hx hb dX8_two_1 rfl (lv_at hl 1 rfl) ?_
  obtain ⟨q2646, hq2646, hf⟩ := bnd hf
  refine fc_callV (Wa' := (mW G a v)) (st1 := [.int q2646]) (As := [.int x1]) (rest := []) hCF (k_X8_isBride a v x1 hq2646) (cwV 1 hts gX8_two_X8_isBride rfl rfl rfl ⟨rfl, dk_X8_isBride⟩ ⟨Nat.le_of_ble_eq_true rfl, Nat.le_of_ble_eq_true rfl⟩) hE hAB hP hD hS [0, 1, 2, 3, 4, 5, 6, 7, 8, 9, 10, 11, 12, 13, 14, 15, 16, 17, 18, 19, 20, 21, 22, 23, 24] mW_d (mW_c G a v) (va_recv hE.1 hP (ci := 5) (q0 := 0) rfl (mW_o G a v)) (mW_f G a v v) (mW_s G a v v) rfl rfl hl.1 rfl (Nat.le_of_ble_eq_true rfl) dX8_two_2 ⟨Nat.le_refl _, Nat.le_refl _⟩ (fun H locs hP hD hS => ?_)
  have J49_2648 : ∀ (s0_2647 : Int32) (H : Heap) (locs : List Loc) (ls : Array Slot), va_P (gD G) vwCl (mW G a v) H → va_D A (mW G a v) → va_S A s.heap H locs → lv_has ls 5 [(0, .ref (a 0)), (1, .int x1), (2, .int x2)] → f_X8_two_49 v x1 x2 s0_2647 = some (r, v') → W p l e (headSpec wsX8_two ({ frames := 7, cells := 0, slots := 0, locals := 157 } : Room)).room s m ([.ref (a 0), .int x1, .int x2] : List Value).toArray below meth c H locs 0 0 (MQ below (FQ G A (mW G a v') (some (.int r))) ([.ref (a 0), .int x1, .int x2] : List Value).toArray s 0 0 A) (F0 m 49 ls [.int s0_2647]) := by
    intro s0_2647 H locs ls hP hD hS hl hf
    rw [f_X8_two_49] at hf
    refine lv_istore_n (lv' := [(3, .int s0_2647), (0, .ref (a 0)), (1, .int x1), (2, .int x2)]) hx hb dX8_two_49 rfl hl (by decide) rfl (fun ls hl => ?_)
    refine lv_iload_n hx hb dX8_two_50 rfl (lv_at hl 0 rfl) ?_
    refine lv_if_eq (tgt := 60) hx hb dX8_two_51 (by decide) (fun c2649 => ?_) (fun c2649 => ?_)
    · have hf := ifT hf c2649
      refine lv_aload_n hx hb dX8_two_60 rfl (lv_at hl 1 rfl) ?_
      refine lv_iload_n hx hb dX8_two_61 rfl (lv_at hl 2 rfl) ?_
      refine lv_iload_n hx hb dX8_two_62 rfl (lv_at hl 3 rfl) ?_
      obtain ⟨q2650, hq2650, hf⟩ := bnd hf
      refine fc_callV (Wa' := (mW G a q2650)) (st1 := []) (As := [.int x1, .int x2]) (rest := []) hCF (k_X8_findCosts a v x1 x2 hq2650) (cwV 2 hts gX8_two_X8_findCosts rfl rfl rfl ⟨rfl, dk_X8_findCosts⟩ ⟨Nat.le_of_ble_eq_true rfl, Nat.le_of_ble_eq_true rfl⟩) hE hAB hP hD hS [0, 1, 2, 3, 4, 5, 6, 7, 8, 9, 10, 11, 12, 13, 14, 15, 16, 17, 18, 19, 20, 21, 22, 23, 24] mW_d (mW_c G a v) (va_recv hE.1 hP (ci := 5) (q0 := 0) rfl (mW_o G a v)) (mW_f G a v q2650) (mW_s G a v q2650) rfl rfl hl.1 rfl (Nat.le_of_ble_eq_true rfl) dX8_two_63 ⟨Nat.le_refl _, Nat.le_refl _⟩ (fun H locs hP hD hS => ?_)
      refine lv_iconst (v := (0 : Int32)) hx hb dX8_two_66 (by decide) ?_
      refine lv_istore (lv' := [(4, .int (0 : Int32)), (3, .int s0_2647), (0, .ref (a 0)), (1, .int x1), (2, .int x2)]) hx hb dX8_two_67 hl (by decide) rfl (fun ls hl => ?_)
      have L69_2652 : ∀ (K69_125 : Int32 → Option (Int32 × St)) (hK69_125 : ∀ (x4_2653 : Int32) (H : Heap) (locs : List Loc) (ls : Array Slot), va_P (gD G) vwCl (mW G a q2650) H → va_D A (mW G a q2650) → va_S A s.heap H locs → lv_has ls 5 [(4, .int x4_2653)] → K69_125 x4_2653 = some (r, v') → W p l e (headSpec wsX8_two ({ frames := 7, cells := 0, slots := 0, locals := 157 } : Room)).room s m ([.ref (a 0), .int x1, .int x2] : List Value).toArray below meth c H locs 0 0 (MQ below (FQ G A (mW G a v') (some (.int r))) ([.ref (a 0), .int x1, .int x2] : List Value).toArray s 0 0 A) (F0 m 125 ls [])) (n : Nat) (x4_2651 : Int32) (H : Heap) (locs : List Loc) (ls : Array Slot), va_P (gD G) vwCl (mW G a q2650) H → va_D A (mW G a q2650) → va_S A s.heap H locs → lv_has ls 5 [(0, .ref (a 0)), (4, .int x4_2651)] → f_X8_two_69 q2650 n x4_2651 K69_125 = some (r, v') → W p l e (headSpec wsX8_two ({ frames := 7, cells := 0, slots := 0, locals := 157 } : Room)).room s m ([.ref (a 0), .int x1, .int x2] : List Value).toArray below meth c H locs 0 0 (MQ below (FQ G A (mW G a v') (some (.int r))) ([.ref (a 0), .int x1, .int x2] : List Value).toArray s 0 0 A) (F0 m 69 ls []) := by
        intro K69_125 hK69_125 n
        induction n with
        | zero =>
          intro x4_2651 H locs ls hP hD hS hl hf
          exact no_some hf
        | succ n ih =>
          intro x4_2651 H locs ls hP hD hS hl hf
          rw [f_X8_two_69] at hf
          refine lv_iload hx hb dX8_two_69 (lv_at hl 1 rfl) ?_
          refine lv_iconst (v := (4 : Int32)) hx hb dX8_two_71 (by decide) ?_
          refine lv_icmp_ge (tgt := 144) hx hb dX8_two_72 (by decide) (fun c2654 => ?_) (fun c2654 => ?_)
          · have hf := ifT hf c2654
            refine lv_bipush (v := (-9 : Int32)) hx hb dX8_two_144 (by decide) ?_
            exact fc_reti hx hb hr hlocks hP hS dX8_two_146 (i2a hf) (congrArg (fun z => (mW G a z)) (i2b hf))
          · have hf := ifF hf c2654
            refine lv_aload_n hx hb dX8_two_75 rfl (lv_at hl 0 rfl) ?_
            refine fc_get (v := .ref (a 17)) (ci := 5) (C := RX8) (T := TX8) (N := 29) hx hb hwX8 hown hE hP 0 (mW_o G a q2650) rfl 27 (by decide) hk_fieldLink_RX8_63__BrideNotKnownModel___costs____I_ (fun _ h => h) rfl dX8_two_76 ?_
            refine lv_iconst (v := (2 : Int32)) hx hb dX8_two_79 (by decide) ?_
            refine lv_iload hx hb dX8_two_80 (lv_at hl 1 rfl) ?_
            refine lv_iconst (v := (2 : Int32)) hx hb dX8_two_82 (by decide) ?_
            refine lv_ixor hx hb dX8_two_83 ?_
            refine lv_imul hx hb dX8_two_84 ?_
            obtain ⟨c2655, hf⟩ := gd_some hf
            refine fc_iald (n := 8) (f := (q2650 16)) hx hb hE hP 17 (mW_a17 G a q2650) (inB_in c2655) dX8_two_85 ?_
            refine lv_aload_n hx hb dX8_two_86 rfl (lv_at hl 0 rfl) ?_
            refine fc_get (v := .ref (a 17)) (ci := 5) (C := RX8) (T := TX8) (N := 29) hx hb hwX8 hown hE hP 0 (mW_o G a q2650) rfl 27 (by decide) hk_fieldLink_RX8_63__BrideNotKnownModel___costs____I_ (fun _ h => h) rfl dX8_two_87 ?_
            refine lv_iconst (v := (2 : Int32)) hx hb dX8_two_90 (by decide) ?_
            refine lv_iload hx hb dX8_two_91 (lv_at hl 1 rfl) ?_
            refine lv_imul hx hb dX8_two_93 ?_
            obtain ⟨c2656, hf⟩ := gd_some hf
            refine fc_iald (n := 8) (f := (q2650 16)) hx hb hE hP 17 (mW_a17 G a q2650) (inB_in c2656) dX8_two_94 ?_
            refine lv_icmp_lt (tgt := 138) hx hb dX8_two_95 (by decide) (fun c2657 => ?_) (fun c2657 => ?_)
            · have hf := ifT hf c2657
              refine lv_iinc (v := (x4_2651 + (1 : Int32))) (lv' := [(4, .int (x4_2651 + (1 : Int32))), (0, .ref (a 0))]) hx hb dX8_two_138 hl (k := 1) rfl rfl (by decide) rfl (fun ls hl => ?_)
              refine lv_goto (tgt := 69) hx hb dX8_two_141 (by decide) ?_
              exact ih (x4_2651 + (1 : Int32)) _ _ _ hP hD hS (lv_sub hl [1, 0] rfl) hf
            · have hf := ifF hf c2657
              refine lv_aload_n hx hb dX8_two_98 rfl (lv_at hl 0 rfl) ?_
              refine fc_get (v := .ref (a 17)) (ci := 5) (C := RX8) (T := TX8) (N := 29) hx hb hwX8 hown hE hP 0 (mW_o G a q2650) rfl 27 (by decide) hk_fieldLink_RX8_63__BrideNotKnownModel___costs____I_ (fun _ h => h) rfl dX8_two_99 ?_
              refine lv_iconst (v := (2 : Int32)) hx hb dX8_two_102 (by decide) ?_
              refine lv_iload hx hb dX8_two_103 (lv_at hl 1 rfl) ?_
              refine lv_iconst (v := (1 : Int32)) hx hb dX8_two_105 (by decide) ?_
              refine lv_ixor hx hb dX8_two_106 ?_
              refine lv_imul hx hb dX8_two_107 ?_
              refine lv_iconst (v := (1 : Int32)) hx hb dX8_two_108 (by decide) ?_
              refine lv_iadd hx hb dX8_two_109 ?_
              obtain ⟨c2658, hf⟩ := gd_some hf
              refine fc_iald (n := 8) (f := (q2650 16)) hx hb hE hP 17 (mW_a17 G a q2650) (inB_in c2658) dX8_two_110 ?_
              refine lv_aload_n hx hb dX8_two_111 rfl (lv_at hl 0 rfl) ?_
              refine fc_get (v := .ref (a 17)) (ci := 5) (C := RX8) (T := TX8) (N := 29) hx hb hwX8 hown hE hP 0 (mW_o G a q2650) rfl 27 (by decide) hk_fieldLink_RX8_63__BrideNotKnownModel___costs____I_ (fun _ h => h) rfl dX8_two_112 ?_
              refine lv_iconst (v := (2 : Int32)) hx hb dX8_two_115 (by decide) ?_
              refine lv_iload hx hb dX8_two_116 (lv_at hl 1 rfl) ?_
              refine lv_imul hx hb dX8_two_118 ?_
              refine lv_iconst (v := (1 : Int32)) hx hb dX8_two_119 (by decide) ?_
              refine lv_iadd hx hb dX8_two_120 ?_
              obtain ⟨c2659, hf⟩ := gd_some hf
              refine fc_iald (n := 8) (f := (q2650 16)) hx hb hE hP 17 (mW_a17 G a q2650) (inB_in c2659) dX8_two_121 ?_
              refine lv_icmp_lt (tgt := 138) hx hb dX8_two_122 (by decide) (fun c2660 => ?_) (fun c2660 => ?_)
              · have hf := ifT hf c2660
                refine lv_iinc (v := (x4_2651 + (1 : Int32))) (lv' := [(4, .int (x4_2651 + (1 : Int32))), (0, .ref (a 0))]) hx hb dX8_two_138 hl (k := 1) rfl rfl (by decide) rfl (fun ls hl => ?_)
                refine lv_goto (tgt := 69) hx hb dX8_two_141 (by decide) ?_
                exact ih (x4_2651 + (1 : Int32)) _ _ _ hP hD hS (lv_sub hl [1, 0] rfl) hf
              · have hf := ifF hf c2660
                exact hK69_125 x4_2651 _ _ _ hP hD hS (lv_sub hl [1] rfl) hf
      refine L69_2652 _ ?_ FUEL (0 : Int32) _ _ _ hP hD hS (lv_sub hl [2, 0] rfl) hf
      intro x4_2661 H locs ls hP hD hS hl hf
      refine lv_bipush (v := (10 : Int32)) hx hb dX8_two_125 (by decide) ?_
      refine lv_iload hx hb dX8_two_127 (lv_at hl 0 rfl) ?_
      refine lv_iconst (v := (2 : Int32)) hx hb dX8_two_129 (by decide) ?_
      refine lv_idiv hx hb dX8_two_130 (by decide) ?_
      refine lv_imul hx hb dX8_two_131 ?_
      refine lv_iload hx hb dX8_two_132 (lv_at hl 0 rfl) ?_
      refine lv_iconst (v := (2 : Int32)) hx hb dX8_two_134 (by decide) ?_
      refine lv_irem hx hb dX8_two_135 (by decide) ?_
      refine lv_iadd hx hb dX8_two_136 ?_
      exact fc_reti hx hb hr hlocks hP hS dX8_two_137 (i2a hf) (congrArg (fun z => (mW G a z)) (i2b hf))
    · have hf := ifF hf c2649
      refine lv_aload_n hx hb dX8_two_54 rfl (lv_at hl 1 rfl) ?_
      refine lv_iload_n hx hb dX8_two_55 rfl (lv_at hl 0 rfl) ?_
      obtain ⟨q2662, hq2662, hf⟩ := bnd hf
      refine fc_callV (Wa' := (mW G a q2662.2)) (st1 := [.int q2662.1]) (As := [.int s0_2647]) (rest := []) hCF (k_X8_no a v s0_2647 hq2662) (cwV 1 hts gX8_two_X8_no rfl rfl rfl ⟨rfl, dk_X8_no⟩ ⟨Nat.le_of_ble_eq_true rfl, Nat.le_of_ble_eq_true rfl⟩) hE hAB hP hD hS [0, 1, 2, 3, 4, 5, 6, 7, 8, 9, 10, 11, 12, 13, 14, 15, 16, 17, 18, 19, 20, 21, 22, 23, 24] mW_d (mW_c G a v) (va_recv hE.1 hP (ci := 5) (q0 := 0) rfl (mW_o G a v)) (mW_f G a v q2662.2) (mW_s G a v q2662.2) rfl rfl hl.1 rfl (Nat.le_of_ble_eq_true rfl) dX8_two_56 ⟨Nat.le_refl _, Nat.le_refl _⟩ (fun H locs hP hD hS => ?_)
      exact fc_reti hx hb hr hlocks hP hS dX8_two_59 (i2a hf) (congrArg (fun z => (mW G a z)) (i2b hf))
  refine lv_if_eq (tgt := 21) hx hb dX8_two_5 (by decide) (fun c2663 => ?_) (fun c2663 => ?_)
  · have hf := ifT hf c2663
    refine lv_iconst (v := (-1 : Int32)) hx hb dX8_two_21 (by decide) ?_
    refine lv_goto (tgt := 49) hx hb dX8_two_22 (by decide) ?_
    exact J49_2648 (-1 : Int32) _ _ _ hP hD hS (lv_sub hl [0, 1, 2] rfl) hf
  · have hf := ifF hf c2663
    refine lv_aload_n hx hb dX8_two_8 rfl (lv_at hl 0 rfl) ?_
    refine lv_iload_n hx hb dX8_two_9 rfl (lv_at hl 2 rfl) ?_
    obtain ⟨q2664, hq2664, hf⟩ := bnd hf
    refine fc_callV (Wa' := (mW G a v)) (st1 := [.int q2664]) (As := [.int x2]) (rest := []) hCF (k_X8_isBride a v x2 hq2664) (cwV 1 hts gX8_two_X8_isBride rfl rfl rfl ⟨rfl, dk_X8_isBride⟩ ⟨Nat.le_of_ble_eq_true rfl, Nat.le_of_ble_eq_true rfl⟩) hE hAB hP hD hS [0, 1, 2, 3, 4, 5, 6, 7, 8, 9, 10, 11, 12, 13, 14, 15, 16, 17, 18, 19, 20, 21, 22, 23, 24] mW_d (mW_c G a v) (va_recv hE.1 hP (ci := 5) (q0 := 0) rfl (mW_o G a v)) (mW_f G a v v) (mW_s G a v v) rfl rfl hl.1 rfl (Nat.le_of_ble_eq_true rfl) dX8_two_10 ⟨Nat.le_refl _, Nat.le_refl _⟩ (fun H locs hP hD hS => ?_)
    refine lv_if_eq (tgt := 21) hx hb dX8_two_13 (by decide) (fun c2665 => ?_) (fun c2665 => ?_)
    · have hf := ifT hf c2665
      refine lv_iconst (v := (-1 : Int32)) hx hb dX8_two_21 (by decide) ?_
      refine lv_goto (tgt := 49) hx hb dX8_two_22 (by decide) ?_
      exact J49_2648 (-1 : Int32) _ _ _ hP hD hS (lv_sub hl [0, 1, 2] rfl) hf
    · have hf := ifF hf c2665
      refine lv_iload_n hx hb dX8_two_16 rfl (lv_at hl 1 rfl) ?_
      refine lv_iload_n hx hb dX8_two_17 rfl (lv_at hl 2 rfl) ?_
      refine lv_icmp_ne (tgt := 25) hx hb dX8_two_18 (by decide) (fun c2666 => ?_) (fun c2666 => ?_)
      · have hf := ifF hf c2666
        refine lv_aload_n hx hb dX8_two_25 rfl (lv_at hl 0 rfl) ?_
        refine fc_get (v := .ref (a 5)) (ci := 5) (C := RX8) (T := TX8) (N := 29) hx hb hwX8 hown hE hP 0 (mW_o G a v) rfl 4 (by decide) hk_fieldLink_RX8_22__BrideNotKnownModel___state____I_ (fun _ h => h) rfl dX8_two_26 ?_
        refine lv_iload_n hx hb dX8_two_29 rfl (lv_at hl 1 rfl) ?_
        obtain ⟨c2667, hf⟩ := gd_some hf
        refine fc_iald (n := 8) (f := (v 4)) hx hb hE hP 5 (mW_a5 G a v) (inB_in c2667) dX8_two_30 ?_
        refine lv_if_ne (tgt := 43) hx hb dX8_two_31 (by decide) (fun c2668 => ?_) (fun c2668 => ?_)
        · have hf := ifF hf c2668
          refine lv_bipush (v := (-3 : Int32)) hx hb dX8_two_43 (by decide) ?_
          refine lv_goto (tgt := 49) hx hb dX8_two_45 (by decide) ?_
          exact J49_2648 (-3 : Int32) _ _ _ hP hD hS (lv_sub hl [0, 1, 2] rfl) hf
        · have hf := ifT hf c2668
          refine lv_aload_n hx hb dX8_two_34 rfl (lv_at hl 0 rfl) ?_
          refine fc_get (v := .ref (a 5)) (ci := 5) (C := RX8) (T := TX8) (N := 29) hx hb hwX8 hown hE hP 0 (mW_o G a v) rfl 4 (by decide) hk_fieldLink_RX8_22__BrideNotKnownModel___state____I_ (fun _ h => h) rfl dX8_two_35 ?_
          refine lv_iload_n hx hb dX8_two_38 rfl (lv_at hl 2 rfl) ?_
          obtain ⟨c2669, hf⟩ := gd_some hf
          refine fc_iald (n := 8) (f := (v 4)) hx hb hE hP 5 (mW_a5 G a v) (inB_in c2669) dX8_two_39 ?_
          refine lv_if_eq (tgt := 48) hx hb dX8_two_40 (by decide) (fun c2670 => ?_) (fun c2670 => ?_)
          · have hf := ifT hf c2670
            refine lv_iconst (v := (0 : Int32)) hx hb dX8_two_48 (by decide) ?_
            exact J49_2648 (0 : Int32) _ _ _ hP hD hS (lv_sub hl [0, 1, 2] rfl) hf
          · have hf := ifF hf c2670
            refine lv_bipush (v := (-3 : Int32)) hx hb dX8_two_43 (by decide) ?_
            refine lv_goto (tgt := 49) hx hb dX8_two_45 (by decide) ?_
            exact J49_2648 (-3 : Int32) _ _ _ hP hD hS (lv_sub hl [0, 1, 2] rfl) hf
      · have hf := ifT hf c2666
        refine lv_iconst (v := (-1 : Int32)) hx hb dX8_two_21 (by decide) ?_
        refine lv_goto (tgt := 49) hx hb dX8_two_22 (by decide) ?_
        exact J49_2648 (-1 : Int32) _ _ _ hP hD hS (lv_sub hl [0, 1, 2] rfl) hf
theorem dk_X8_valley : yX8_valley.cls ≠ "java/lang/invoke/MethodHandle" ∧ yX8_valley.cls ≠ "java/lang/invoke/VarHandle" ∧ (parseMethodDescriptor yX8_valley.desc).map (fun d => d.parameters.length) = some 0 := by decide +kernel
theorem iu_X8_valley_X8 : ∀ w ∈ u_ws RX8 TX8 29, w ∈ wsX8_valley := by decide +kernel
set_option maxHeartbeats 4000000 in
set_option maxRecDepth 100000 in
theorem k_X8_valley {l : Launch} {G : Gx} (a : Nat → Nat) (v : St) {r : Int32} {v' : St} (hf : f_X8_valley v = some (r, v')) : FC l G yX8_valley wsX8_valley ({ frames := 7, cells := 0, slots := 0, locals := 159 } : Room) [.ref (a 0)] (mW G a v) (mW G a v') (some (.int r)) := by
  refine fc_head (cc := cX8_valley) (maxL := 3) (ret := (some .int)) (C := RX8) (lv := [(0, .ref (a 0))]) (by decide) rfl rfl (Nat.le_of_ble_eq_true rfl) rfl ?_
  intro p e s m below meth c ls A hx hb hr hml hown hts hlocks hE hP hD hAB hS hl
  have hCF : CallFix p m c cX8_valley 3 s ([.ref (a 0)] : List Value).toArray wsX8_valley RX8 := ⟨hx, hb, hml, hown, hts⟩
  have hwX8 : ∀ w ∈ u_ws RX8 TX8 29, w.before ([.ref (a 0)] : List Value).toArray s = true := fun w h => hts w (iu_X8_valley_X8 w h)
  have hk_fieldLink_RX8_90__BrideNotKnownModel___at___I_ := hts (.fieldLink RX8 90 "BrideNotKnownModel" "at" "I") (List.mem_of_getElem? (i := 1) rfl)
  have hk_fieldLink_RX8_111__BrideNotKnownModel___statements___I_ := hts (.fieldLink RX8 111 "BrideNotKnownModel" "statements" "I") (List.mem_of_getElem? (i := 2) rfl)
  have hk_fieldLink_RX8_83__BrideNotKnownModel___taped___I_ := hts (.fieldLink RX8 83 "BrideNotKnownModel" "taped" "I") (List.mem_of_getElem? (i := 3) rfl)
  have hk_fieldLink_RX8_46__BrideNotKnownModel___letterAt____I_ := hts (.fieldLink RX8 46 "BrideNotKnownModel" "letterAt" "[I") (List.mem_of_getElem? (i := 4) rfl)
  rw [f_X8_valley] at hf
  refine lv_aload_n hx hb dX8_valley_0 rfl (lv_at hl 0 rfl) ?_
  refine lv_iconst (v := (0 : Int32)) hx hb dX8_valley_1 (by decide) ?_
  refine fc_put (Wa' := (mW G a (sA v 23 (upd (v 23) 4 (0 : Int32))))) (ci := 5) (C := RX8) (T := TX8) (N := 29) hx hb hwX8 tyX8 tyX8_ok nmX8 hown hE hP hD hS 0 (mW_o G a v) rfl 18 (by decide) hk_fieldLink_RX8_90__BrideNotKnownModel___at___I_ (fun _ h => h) rfl rfl rfl (Nat.le_of_ble_eq_true rfl) dX8_valley_2 (mW_p18 G a v (0 : Int32)) (fun H locs hP hD hS => ?_)
  refine lv_aload_n hx hb dX8_valley_5 rfl (lv_at hl 0 rfl) ?_
  refine lv_iconst (v := (0 : Int32)) hx hb dX8_valley_6 (by decide) ?_
  refine fc_put (Wa' := (mW G a (sA (sA v 23 (upd (v 23) 4 (0 : Int32))) 23 (upd (upd (v 23) 4 (0 : Int32)) 5 (0 : Int32))))) (ci := 5) (C := RX8) (T := TX8) (N := 29) hx hb hwX8 tyX8 tyX8_ok nmX8 hown hE hP hD hS 0 (mW_o G a (sA v 23 (upd (v 23) 4 (0 : Int32)))) rfl 19 (by decide) hk_fieldLink_RX8_111__BrideNotKnownModel___statements___I_ (fun _ h => h) rfl rfl rfl (Nat.le_of_ble_eq_true rfl) dX8_valley_7 (mW_p19 G a (sA v 23 (upd (v 23) 4 (0 : Int32))) (0 : Int32)) (fun H locs hP hD hS => ?_)
  refine lv_iconst (v := (1 : Int32)) hx hb dX8_valley_10 (by decide) ?_
  refine lv_istore_n (lv' := [(1, .int (1 : Int32)), (0, .ref (a 0))]) hx hb dX8_valley_11 rfl hl (by decide) rfl (fun ls hl => ?_)
  have J60_2685 : ∀ (x1_2683 : Int32) (v_2684 : St) (H : Heap) (locs : List Loc) (ls : Array Slot), va_P (gD G) vwCl (mW G a v_2684) H → va_D A (mW G a v_2684) → va_S A s.heap H locs → lv_has ls 3 [(0, .ref (a 0)), (1, .int x1_2683)] → f_X8_valley_60 x1_2683 v_2684 = some (r, v') → W p l e (headSpec wsX8_valley ({ frames := 7, cells := 0, slots := 0, locals := 159 } : Room)).room s m ([.ref (a 0)] : List Value).toArray below meth c H locs 0 0 (MQ below (FQ G A (mW G a v') (some (.int r))) ([.ref (a 0)] : List Value).toArray s 0 0 A) (F0 m 60 ls []) := by
    intro x1_2683 v_2684 H locs ls hP hD hS hl hf
    rw [f_X8_valley_60] at hf
    refine lv_aload_n hx hb dX8_valley_60 rfl (lv_at hl 0 rfl) ?_
    refine lv_iconst (v := (0 : Int32)) hx hb dX8_valley_61 (by decide) ?_
    refine fc_put (Wa' := (mW G a (sA v_2684 23 (upd (v_2684 23) 3 (0 : Int32))))) (ci := 5) (C := RX8) (T := TX8) (N := 29) hx hb hwX8 tyX8 tyX8_ok nmX8 hown hE hP hD hS 0 (mW_o G a v_2684) rfl 17 (by decide) hk_fieldLink_RX8_83__BrideNotKnownModel___taped___I_ (fun _ h => h) rfl rfl rfl (Nat.le_of_ble_eq_true rfl) dX8_valley_62 (mW_p17 G a v_2684 (0 : Int32)) (fun H locs hP hD hS => ?_)
    refine lv_iload_n hx hb dX8_valley_65 rfl (lv_at hl 1 rfl) ?_
    refine lv_if_ne (tgt := 78) hx hb dX8_valley_66 (by decide) (fun c2686 => ?_) (fun c2686 => ?_)
    · have hf := ifF hf c2686
      refine lv_aload_n hx hb dX8_valley_78 rfl (lv_at hl 0 rfl) ?_
      refine lv_iconst (v := (1 : Int32)) hx hb dX8_valley_79 (by decide) ?_
      refine lv_iconst (v := (1 : Int32)) hx hb dX8_valley_80 (by decide) ?_
      obtain ⟨q2687, hq2687, hf⟩ := bnd hf
      refine fc_callV (Wa' := (mW G a q2687)) (st1 := []) (As := [.int (1 : Int32), .int (1 : Int32)]) (rest := []) hCF (k_X8_passesAll a (sA v_2684 23 (upd (v_2684 23) 3 (0 : Int32))) (1 : Int32) (1 : Int32) hq2687) (cwV 2 hts gX8_valley_X8_passesAll rfl rfl rfl ⟨rfl, dk_X8_passesAll⟩ ⟨Nat.le_of_ble_eq_true rfl, Nat.le_of_ble_eq_true rfl⟩) hE hAB hP hD hS [0, 1, 2, 3, 4, 5, 6, 7, 8, 9, 10, 11, 12, 13, 14, 15, 16, 17, 18, 19, 20, 21, 22, 23, 24] mW_d (mW_c G a (sA v_2684 23 (upd (v_2684 23) 3 (0 : Int32)))) (va_recv hE.1 hP (ci := 5) (q0 := 0) rfl (mW_o G a (sA v_2684 23 (upd (v_2684 23) 3 (0 : Int32))))) (mW_f G a (sA v_2684 23 (upd (v_2684 23) 3 (0 : Int32))) q2687) (mW_s G a (sA v_2684 23 (upd (v_2684 23) 3 (0 : Int32))) q2687) rfl rfl hl.1 rfl (Nat.le_of_ble_eq_true rfl) dX8_valley_81 ⟨Nat.le_refl _, Nat.le_refl _⟩ (fun H locs hP hD hS => ?_)
      refine lv_iconst (v := (0 : Int32)) hx hb dX8_valley_84 (by decide) ?_
      refine lv_istore_n (lv' := [(2, .int (0 : Int32)), (0, .ref (a 0)), (1, .int x1_2683)]) hx hb dX8_valley_85 rfl hl (by decide) rfl (fun ls hl => ?_)
      have L86_2690 : ∀ (K86_105 : Int32 → St → Option (Int32 × St)) (hK86_105 : ∀ (x2_2691 : Int32) (v_2692 : St) (H : Heap) (locs : List Loc) (ls : Array Slot), va_P (gD G) vwCl (mW G a v_2692) H → va_D A (mW G a v_2692) → va_S A s.heap H locs → lv_has ls 3 [(0, .ref (a 0)), (2, .int x2_2691)] → K86_105 x2_2691 v_2692 = some (r, v') → W p l e (headSpec wsX8_valley ({ frames := 7, cells := 0, slots := 0, locals := 159 } : Room)).room s m ([.ref (a 0)] : List Value).toArray below meth c H locs 0 0 (MQ below (FQ G A (mW G a v') (some (.int r))) ([.ref (a 0)] : List Value).toArray s 0 0 A) (F0 m 105 ls [])) (n : Nat) (x2_2688 : Int32) (v_2689 : St) (H : Heap) (locs : List Loc) (ls : Array Slot), va_P (gD G) vwCl (mW G a v_2689) H → va_D A (mW G a v_2689) → va_S A s.heap H locs → lv_has ls 3 [(0, .ref (a 0)), (2, .int x2_2688)] → f_X8_valley_86 n x2_2688 v_2689 K86_105 = some (r, v') → W p l e (headSpec wsX8_valley ({ frames := 7, cells := 0, slots := 0, locals := 159 } : Room)).room s m ([.ref (a 0)] : List Value).toArray below meth c H locs 0 0 (MQ below (FQ G A (mW G a v') (some (.int r))) ([.ref (a 0)] : List Value).toArray s 0 0 A) (F0 m 86 ls []) := by
        intro K86_105 hK86_105 n
        induction n with
        | zero =>
          intro x2_2688 v_2689 H locs ls hP hD hS hl hf
          exact no_some hf
        | succ n ih =>
          intro x2_2688 v_2689 H locs ls hP hD hS hl hf
          rw [f_X8_valley_86] at hf
          refine lv_iload_n hx hb dX8_valley_86 rfl (lv_at hl 1 rfl) ?_
          refine lv_aload_n hx hb dX8_valley_87 rfl (lv_at hl 0 rfl) ?_
          refine fc_get (v := .int (v_2689 23 5)) (ci := 5) (C := RX8) (T := TX8) (N := 29) hx hb hwX8 hown hE hP 0 (mW_o G a v_2689) rfl 19 (by decide) hk_fieldLink_RX8_111__BrideNotKnownModel___statements___I_ (fun _ h => h) rfl dX8_valley_88 ?_
          refine lv_icmp_ge (tgt := 128) hx hb dX8_valley_91 (by decide) (fun c2693 => ?_) (fun c2693 => ?_)
          · have hf := ifT hf c2693
            refine lv_aload_n hx hb dX8_valley_128 rfl (lv_at hl 0 rfl) ?_
            refine fc_get (v := .int (v_2689 23 5)) (ci := 5) (C := RX8) (T := TX8) (N := 29) hx hb hwX8 hown hE hP 0 (mW_o G a v_2689) rfl 19 (by decide) hk_fieldLink_RX8_111__BrideNotKnownModel___statements___I_ (fun _ h => h) rfl dX8_valley_129 ?_
            exact fc_reti hx hb hr hlocks hP hS dX8_valley_132 (i2a hf) (congrArg (fun z => (mW G a z)) (i2b hf))
          · have hf := ifF hf c2693
            refine lv_aload_n hx hb dX8_valley_94 rfl (lv_at hl 0 rfl) ?_
            refine lv_iload_n hx hb dX8_valley_95 rfl (lv_at hl 1 rfl) ?_
            obtain ⟨q2694, hq2694, hf⟩ := bnd hf
            refine fc_callV (Wa' := (mW G a q2694.2)) (st1 := [.int q2694.1]) (As := [.int x2_2688]) (rest := []) hCF (k_X8_comes a v_2689 x2_2688 hq2694) (cwV 1 hts gX8_valley_X8_comes rfl rfl rfl ⟨rfl, dk_X8_comes⟩ ⟨Nat.le_of_ble_eq_true rfl, Nat.le_of_ble_eq_true rfl⟩) hE hAB hP hD hS [0, 1, 2, 3, 4, 5, 6, 7, 8, 9, 10, 11, 12, 13, 14, 15, 16, 17, 18, 19, 20, 21, 22, 23, 24] mW_d (mW_c G a v_2689) (va_recv hE.1 hP (ci := 5) (q0 := 0) rfl (mW_o G a v_2689)) (mW_f G a v_2689 q2694.2) (mW_s G a v_2689 q2694.2) rfl rfl hl.1 rfl (Nat.le_of_ble_eq_true rfl) dX8_valley_96 ⟨Nat.le_refl _, Nat.le_refl _⟩ (fun H locs hP hD hS => ?_)
            refine lv_if_eq (tgt := 105) hx hb dX8_valley_99 (by decide) (fun c2695 => ?_) (fun c2695 => ?_)
            · have hf := ifT hf c2695
              exact hK86_105 x2_2688 q2694.2 _ _ _ hP hD hS (lv_sub hl [0, 1] rfl) hf
            · have hf := ifF hf c2695
              refine lv_goto (tgt := 122) hx hb dX8_valley_102 (by decide) ?_
              refine lv_iinc (v := (x2_2688 + (1 : Int32))) (lv' := [(2, .int (x2_2688 + (1 : Int32))), (0, .ref (a 0))]) hx hb dX8_valley_122 hl (k := 1) rfl rfl (by decide) rfl (fun ls hl => ?_)
              refine lv_goto (tgt := 86) hx hb dX8_valley_125 (by decide) ?_
              exact ih (x2_2688 + (1 : Int32)) q2694.2 _ _ _ hP hD hS (lv_sub hl [1, 0] rfl) hf
      refine L86_2690 _ ?_ FUEL (0 : Int32) q2687 _ _ _ hP hD hS (lv_sub hl [1, 0] rfl) hf
      intro x2_2696 v_2697 H locs ls hP hD hS hl hf
      refine lv_aload_n hx hb dX8_valley_105 rfl (lv_at hl 0 rfl) ?_
      refine lv_iconst (v := (1 : Int32)) hx hb dX8_valley_106 (by decide) ?_
      refine lv_iconst (v := (0 : Int32)) hx hb dX8_valley_107 (by decide) ?_
      obtain ⟨q2698, hq2698, hf⟩ := bnd hf
      refine fc_callV (Wa' := (mW G a q2698)) (st1 := []) (As := [.int (1 : Int32), .int (0 : Int32)]) (rest := []) hCF (k_X8_passesAll a v_2697 (1 : Int32) (0 : Int32) hq2698) (cwV 2 hts gX8_valley_X8_passesAll rfl rfl rfl ⟨rfl, dk_X8_passesAll⟩ ⟨Nat.le_of_ble_eq_true rfl, Nat.le_of_ble_eq_true rfl⟩) hE hAB hP hD hS [0, 1, 2, 3, 4, 5, 6, 7, 8, 9, 10, 11, 12, 13, 14, 15, 16, 17, 18, 19, 20, 21, 22, 23, 24] mW_d (mW_c G a v_2697) (va_recv hE.1 hP (ci := 5) (q0 := 0) rfl (mW_o G a v_2697)) (mW_f G a v_2697 q2698) (mW_s G a v_2697 q2698) rfl rfl hl.1 rfl (Nat.le_of_ble_eq_true rfl) dX8_valley_108 ⟨Nat.le_refl _, Nat.le_refl _⟩ (fun H locs hP hD hS => ?_)
      refine lv_sipush (v := (-2000 : Int32)) hx hb dX8_valley_111 (by decide) ?_
      refine lv_aload_n hx hb dX8_valley_114 rfl (lv_at hl 0 rfl) ?_
      refine fc_get (v := .ref (a 13)) (ci := 5) (C := RX8) (T := TX8) (N := 29) hx hb hwX8 hown hE hP 0 (mW_o G a q2698) rfl 15 (by decide) hk_fieldLink_RX8_46__BrideNotKnownModel___letterAt____I_ (fun _ h => h) rfl dX8_valley_115 ?_
      refine lv_iload_n hx hb dX8_valley_118 rfl (lv_at hl 1 rfl) ?_
      obtain ⟨c2699, hf⟩ := gd_some hf
      refine fc_iald (n := 48) (f := (q2698 12)) hx hb hE hP 13 (mW_a13 G a q2698) (inB_in c2699) dX8_valley_119 ?_
      refine lv_isub hx hb dX8_valley_120 ?_
      exact fc_reti hx hb hr hlocks hP hS dX8_valley_121 (i2a hf) (congrArg (fun z => (mW G a z)) (i2b hf))
    · have hf := ifT hf c2686
      refine lv_sipush (v := (-1000 : Int32)) hx hb dX8_valley_69 (by decide) ?_
      refine lv_aload_n hx hb dX8_valley_72 rfl (lv_at hl 0 rfl) ?_
      refine fc_get (v := .int (v_2684 23 4)) (ci := 5) (C := RX8) (T := TX8) (N := 29) hx hb hwX8 hown hE hP 0 (mW_o G a (sA v_2684 23 (upd (v_2684 23) 3 (0 : Int32)))) rfl 18 (by decide) hk_fieldLink_RX8_90__BrideNotKnownModel___at___I_ (fun _ h => h) rfl dX8_valley_73 ?_
      refine lv_isub hx hb dX8_valley_76 ?_
      exact fc_reti hx hb hr hlocks hP hS dX8_valley_77 (i2a hf) (congrArg (fun z => (mW G a z)) (i2b hf))
  have L12_2702 : ∀ (K12_60 : Int32 → St → Option (Int32 × St)) (hK12_60 : ∀ (x1_2703 : Int32) (v_2704 : St) (H : Heap) (locs : List Loc) (ls : Array Slot), va_P (gD G) vwCl (mW G a v_2704) H → va_D A (mW G a v_2704) → va_S A s.heap H locs → lv_has ls 3 [(0, .ref (a 0)), (1, .int x1_2703)] → K12_60 x1_2703 v_2704 = some (r, v') → W p l e (headSpec wsX8_valley ({ frames := 7, cells := 0, slots := 0, locals := 159 } : Room)).room s m ([.ref (a 0)] : List Value).toArray below meth c H locs 0 0 (MQ below (FQ G A (mW G a v') (some (.int r))) ([.ref (a 0)] : List Value).toArray s 0 0 A) (F0 m 60 ls [])) (n : Nat) (x1_2700 : Int32) (v_2701 : St) (H : Heap) (locs : List Loc) (ls : Array Slot), va_P (gD G) vwCl (mW G a v_2701) H → va_D A (mW G a v_2701) → va_S A s.heap H locs → lv_has ls 3 [(0, .ref (a 0)), (1, .int x1_2700)] → f_X8_valley_12 n x1_2700 v_2701 K12_60 = some (r, v') → W p l e (headSpec wsX8_valley ({ frames := 7, cells := 0, slots := 0, locals := 159 } : Room)).room s m ([.ref (a 0)] : List Value).toArray below meth c H locs 0 0 (MQ below (FQ G A (mW G a v') (some (.int r))) ([.ref (a 0)] : List Value).toArray s 0 0 A) (F0 m 12 ls []) := by
    intro K12_60 hK12_60 n
    induction n with
    | zero =>
      intro x1_2700 v_2701 H locs ls hP hD hS hl hf
      exact no_some hf
    | succ n ih =>
      intro x1_2700 v_2701 H locs ls hP hD hS hl hf
      rw [f_X8_valley_12] at hf
      refine lv_iload_n hx hb dX8_valley_12 rfl (lv_at hl 1 rfl) ?_
      refine lv_if_eq (tgt := 60) hx hb dX8_valley_13 (by decide) (fun c2705 => ?_) (fun c2705 => ?_)
      · have hf := ifT hf c2705
        exact hK12_60 x1_2700 v_2701 _ _ _ hP hD hS (lv_sub hl [0, 1] rfl) hf
      · have hf := ifF hf c2705
        refine lv_aload_n hx hb dX8_valley_16 rfl (lv_at hl 0 rfl) ?_
        refine fc_get (v := .int (v_2701 23 4)) (ci := 5) (C := RX8) (T := TX8) (N := 29) hx hb hwX8 hown hE hP 0 (mW_o G a v_2701) rfl 18 (by decide) hk_fieldLink_RX8_90__BrideNotKnownModel___at___I_ (fun _ h => h) rfl dX8_valley_17 ?_
        refine lv_aload_n hx hb dX8_valley_20 rfl (lv_at hl 0 rfl) ?_
        refine fc_get (v := .int (v_2701 23 3)) (ci := 5) (C := RX8) (T := TX8) (N := 29) hx hb hwX8 hown hE hP 0 (mW_o G a v_2701) rfl 17 (by decide) hk_fieldLink_RX8_83__BrideNotKnownModel___taped___I_ (fun _ h => h) rfl dX8_valley_21 ?_
        have J34_2706 : ∀ (H : Heap) (locs : List Loc) (ls : Array Slot), va_P (gD G) vwCl (mW G a v_2701) H → va_D A (mW G a v_2701) → va_S A s.heap H locs → lv_has ls 3 [(0, .ref (a 0))] → f_X8_valley_34 v_2701 (fun (x1_2707 : Int32) (v_2708 : St) => f_X8_valley_12 n x1_2707 v_2708 K12_60) = some (r, v') → W p l e (headSpec wsX8_valley ({ frames := 7, cells := 0, slots := 0, locals := 159 } : Room)).room s m ([.ref (a 0)] : List Value).toArray below meth c H locs 0 0 (MQ below (FQ G A (mW G a v') (some (.int r))) ([.ref (a 0)] : List Value).toArray s 0 0 A) (F0 m 34 ls []) := by
          intro H locs ls hP hD hS hl hf
          rw [f_X8_valley_34] at hf
          refine lv_aload_n hx hb dX8_valley_34 rfl (lv_at hl 0 rfl) ?_
          obtain ⟨q2709, hq2709, hf⟩ := bnd hf
          refine fc_callV (Wa' := (mW G a q2709.2)) (st1 := [.int q2709.1]) (As := []) (rest := []) hCF (k_X8_statement a v_2701 hq2709) (cwV 0 hts gX8_valley_X8_statement rfl rfl rfl ⟨rfl, dk_X8_statement⟩ ⟨Nat.le_of_ble_eq_true rfl, Nat.le_of_ble_eq_true rfl⟩) hE hAB hP hD hS [0, 1, 2, 3, 4, 5, 6, 7, 8, 9, 10, 11, 12, 13, 14, 15, 16, 17, 18, 19, 20, 21, 22, 23, 24] mW_d (mW_c G a v_2701) (va_recv hE.1 hP (ci := 5) (q0 := 0) rfl (mW_o G a v_2701)) (mW_f G a v_2701 q2709.2) (mW_s G a v_2701 q2709.2) rfl rfl hl.1 rfl (Nat.le_of_ble_eq_true rfl) dX8_valley_35 ⟨Nat.le_refl _, Nat.le_refl _⟩ (fun H locs hP hD hS => ?_)
          refine lv_istore_n (lv' := [(1, .int q2709.1), (0, .ref (a 0))]) hx hb dX8_valley_38 rfl hl (by decide) rfl (fun ls hl => ?_)
          refine lv_aload_n hx hb dX8_valley_39 rfl (lv_at hl 1 rfl) ?_
          refine lv_dup hx hb dX8_valley_40 rfl ?_
          refine fc_get (v := .int (q2709.2 23 5)) (ci := 5) (C := RX8) (T := TX8) (N := 29) hx hb hwX8 hown hE hP 0 (mW_o G a q2709.2) rfl 19 (by decide) hk_fieldLink_RX8_111__BrideNotKnownModel___statements___I_ (fun _ h => h) rfl dX8_valley_41 ?_
          refine lv_iload_n hx hb dX8_valley_44 rfl (lv_at hl 0 rfl) ?_
          refine lv_if_eq (tgt := 52) hx hb dX8_valley_45 (by decide) (fun c2710 => ?_) (fun c2710 => ?_)
          · have hf := ifT hf c2710
            refine lv_iconst (v := (0 : Int32)) hx hb dX8_valley_52 (by decide) ?_
            refine lv_iadd hx hb dX8_valley_53 ?_
            refine fc_put (Wa' := (mW G a (sA q2709.2 23 (upd (q2709.2 23) 5 ((q2709.2 23 5) + (0 : Int32)))))) (ci := 5) (C := RX8) (T := TX8) (N := 29) hx hb hwX8 tyX8 tyX8_ok nmX8 hown hE hP hD hS 0 (mW_o G a q2709.2) rfl 19 (by decide) hk_fieldLink_RX8_111__BrideNotKnownModel___statements___I_ (fun _ h => h) rfl rfl rfl (Nat.le_of_ble_eq_true rfl) dX8_valley_54 (mW_p19 G a q2709.2 ((q2709.2 23 5) + (0 : Int32))) (fun H locs hP hD hS => ?_)
            refine lv_goto (tgt := 12) hx hb dX8_valley_57 (by decide) ?_
            exact ih q2709.1 (sA q2709.2 23 (upd (q2709.2 23) 5 ((q2709.2 23 5) + (0 : Int32)))) _ _ _ hP hD hS (lv_sub hl [1, 0] rfl) hf
          · have hf := ifF hf c2710
            refine lv_iconst (v := (1 : Int32)) hx hb dX8_valley_48 (by decide) ?_
            refine lv_goto (tgt := 53) hx hb dX8_valley_49 (by decide) ?_
            refine lv_iadd hx hb dX8_valley_53 ?_
            refine fc_put (Wa' := (mW G a (sA q2709.2 23 (upd (q2709.2 23) 5 ((q2709.2 23 5) + (1 : Int32)))))) (ci := 5) (C := RX8) (T := TX8) (N := 29) hx hb hwX8 tyX8 tyX8_ok nmX8 hown hE hP hD hS 0 (mW_o G a q2709.2) rfl 19 (by decide) hk_fieldLink_RX8_111__BrideNotKnownModel___statements___I_ (fun _ h => h) rfl rfl rfl (Nat.le_of_ble_eq_true rfl) dX8_valley_54 (mW_p19 G a q2709.2 ((q2709.2 23 5) + (1 : Int32))) (fun H locs hP hD hS => ?_)
            refine lv_goto (tgt := 12) hx hb dX8_valley_57 (by decide) ?_
            exact ih q2709.1 (sA q2709.2 23 (upd (q2709.2 23) 5 ((q2709.2 23 5) + (1 : Int32)))) _ _ _ hP hD hS (lv_sub hl [1, 0] rfl) hf
        refine lv_icmp_lt (tgt := 34) hx hb dX8_valley_24 (by decide) (fun c2711 => ?_) (fun c2711 => ?_)
        · have hf := ifT hf c2711
          exact J34_2706 _ _ _ hP hD hS (lv_sub hl [0] rfl) hf
        · have hf := ifF hf c2711
          refine lv_aload_n hx hb dX8_valley_27 rfl (lv_at hl 0 rfl) ?_
          refine fc_get (v := .int (v_2701 23 5)) (ci := 5) (C := RX8) (T := TX8) (N := 29) hx hb hwX8 hown hE hP 0 (mW_o G a v_2701) rfl 19 (by decide) hk_fieldLink_RX8_111__BrideNotKnownModel___statements___I_ (fun _ h => h) rfl dX8_valley_28 ?_
          refine lv_if_ne (tgt := 60) hx hb dX8_valley_31 (by decide) (fun c2712 => ?_) (fun c2712 => ?_)
          · have hf := ifF hf c2712
            exact hK12_60 x1_2700 v_2701 _ _ _ hP hD hS (lv_sub hl [0, 1] rfl) hf
          · have hf := ifT hf c2712
            exact J34_2706 _ _ _ hP hD hS (lv_sub hl [0] rfl) hf
  refine L12_2702 _ ?_ FUEL (1 : Int32) (sA (sA v 23 (upd (v 23) 4 (0 : Int32))) 23 (upd (upd (v 23) 4 (0 : Int32)) 5 (0 : Int32))) _ _ _ hP hD hS (lv_sub hl [1, 0] rfl) hf
  intro x1_2713 v_2714 H locs ls hP hD hS hl hf
  exact J60_2685 x1_2713 v_2714 _ _ _ hP hD hS (lv_sub hl [0, 1] rfl) hf
theorem dk_X8_wedding : yX8_wedding.cls ≠ "java/lang/invoke/MethodHandle" ∧ yX8_wedding.cls ≠ "java/lang/invoke/VarHandle" ∧ (parseMethodDescriptor yX8_wedding.desc).map (fun d => d.parameters.length) = some 1 := by decide +kernel
set_option maxHeartbeats 4000000 in
set_option maxRecDepth 100000 in
theorem k_X8_wedding {l : Launch} {G : Gx} (a : Nat → Nat) (v : St) (x1 : Int32) {r : Int32} {v' : St} (hf : f_X8_wedding v x1 = some (r, v')) : FC l G yX8_wedding wsX8_wedding ({ frames := 6, cells := 0, slots := 0, locals := 137 } : Room) [.ref (a 0), .int x1] (mW G a v) (mW G a v') (some (.int r)) := by
  refine fc_head (cc := cX8_wedding) (maxL := 3) (ret := (some .int)) (C := RX8) (lv := [(0, .ref (a 0)), (1, .int x1)]) (by decide) rfl rfl (Nat.le_of_ble_eq_true rfl) rfl ?_
  intro p e s m below meth c ls A hx hb hr hml hown hts hlocks hE hP hD hAB hS hl
  have hCF : CallFix p m c cX8_wedding 3 s ([.ref (a 0), .int x1] : List Value).toArray wsX8_wedding RX8 := ⟨hx, hb, hml, hown, hts⟩
  rw [f_X8_wedding] at hf
  refine lv_aload_n hx hb dX8_wedding_0 rfl (lv_at hl 0 rfl) ?_
  refine lv_iload_n hx hb dX8_wedding_1 rfl (lv_at hl 1 rfl) ?_
  obtain ⟨q2719, hq2719, hf⟩ := bnd hf
  refine fc_callV (Wa' := (mW G a v)) (st1 := [.int q2719]) (As := [.int x1]) (rest := []) hCF (k_X8_isGroom a v x1 hq2719) (cwV 1 hts gX8_wedding_X8_isGroom rfl rfl rfl ⟨rfl, dk_X8_isGroom⟩ ⟨Nat.le_of_ble_eq_true rfl, Nat.le_of_ble_eq_true rfl⟩) hE hAB hP hD hS [0, 1, 2, 3, 4, 5, 6, 7, 8, 9, 10, 11, 12, 13, 14, 15, 16, 17, 18, 19, 20, 21, 22, 23, 24] mW_d (mW_c G a v) (va_recv hE.1 hP (ci := 5) (q0 := 0) rfl (mW_o G a v)) (mW_f G a v v) (mW_s G a v v) rfl rfl hl.1 rfl (Nat.le_of_ble_eq_true rfl) dX8_wedding_2 ⟨Nat.le_refl _, Nat.le_refl _⟩ (fun H locs hP hD hS => ?_)
  have J26_2721 : ∀ (s0_2720 : Int32) (H : Heap) (locs : List Loc) (ls : Array Slot), va_P (gD G) vwCl (mW G a v) H → va_D A (mW G a v) → va_S A s.heap H locs → lv_has ls 3 [(0, .ref (a 0)), (1, .int x1)] → f_X8_wedding_26 v x1 s0_2720 = some (r, v') → W p l e (headSpec wsX8_wedding ({ frames := 6, cells := 0, slots := 0, locals := 137 } : Room)).room s m ([.ref (a 0), .int x1] : List Value).toArray below meth c H locs 0 0 (MQ below (FQ G A (mW G a v') (some (.int r))) ([.ref (a 0), .int x1] : List Value).toArray s 0 0 A) (F0 m 26 ls [.int s0_2720]) := by
    intro s0_2720 H locs ls hP hD hS hl hf
    rw [f_X8_wedding_26] at hf
    refine lv_istore_n (lv' := [(2, .int s0_2720), (0, .ref (a 0)), (1, .int x1)]) hx hb dX8_wedding_26 rfl hl (by decide) rfl (fun ls hl => ?_)
    refine lv_iload_n hx hb dX8_wedding_27 rfl (lv_at hl 0 rfl) ?_
    refine lv_if_eq (tgt := 39) hx hb dX8_wedding_28 (by decide) (fun c2722 => ?_) (fun c2722 => ?_)
    · have hf := ifT hf c2722
      refine lv_aload_n hx hb dX8_wedding_39 rfl (lv_at hl 1 rfl) ?_
      refine lv_iload_n hx hb dX8_wedding_40 rfl (lv_at hl 2 rfl) ?_
      obtain ⟨q2723, hq2723, hf⟩ := bnd hf
      refine fc_callV (Wa' := (mW G a q2723.2)) (st1 := [.int q2723.1]) (As := [.int x1]) (rest := []) hCF (k_X8_weds a v x1 hq2723) (cwV 1 hts gX8_wedding_X8_weds rfl rfl rfl ⟨rfl, dk_X8_weds⟩ ⟨Nat.le_of_ble_eq_true rfl, Nat.le_of_ble_eq_true rfl⟩) hE hAB hP hD hS [0, 1, 2, 3, 4, 5, 6, 7, 8, 9, 10, 11, 12, 13, 14, 15, 16, 17, 18, 19, 20, 21, 22, 23, 24] mW_d (mW_c G a v) (va_recv hE.1 hP (ci := 5) (q0 := 0) rfl (mW_o G a v)) (mW_f G a v q2723.2) (mW_s G a v q2723.2) rfl rfl hl.1 rfl (Nat.le_of_ble_eq_true rfl) dX8_wedding_41 ⟨Nat.le_refl _, Nat.le_refl _⟩ (fun H locs hP hD hS => ?_)
      exact fc_reti hx hb hr hlocks hP hS dX8_wedding_44 (i2a hf) (congrArg (fun z => (mW G a z)) (i2b hf))
    · have hf := ifF hf c2722
      refine lv_aload_n hx hb dX8_wedding_31 rfl (lv_at hl 1 rfl) ?_
      refine lv_iload_n hx hb dX8_wedding_32 rfl (lv_at hl 0 rfl) ?_
      obtain ⟨q2724, hq2724, hf⟩ := bnd hf
      refine fc_callV (Wa' := (mW G a q2724.2)) (st1 := [.int q2724.1]) (As := [.int s0_2720]) (rest := []) hCF (k_X8_no a v s0_2720 hq2724) (cwV 1 hts gX8_wedding_X8_no rfl rfl rfl ⟨rfl, dk_X8_no⟩ ⟨Nat.le_of_ble_eq_true rfl, Nat.le_of_ble_eq_true rfl⟩) hE hAB hP hD hS [0, 1, 2, 3, 4, 5, 6, 7, 8, 9, 10, 11, 12, 13, 14, 15, 16, 17, 18, 19, 20, 21, 22, 23, 24] mW_d (mW_c G a v) (va_recv hE.1 hP (ci := 5) (q0 := 0) rfl (mW_o G a v)) (mW_f G a v q2724.2) (mW_s G a v q2724.2) rfl rfl hl.1 rfl (Nat.le_of_ble_eq_true rfl) dX8_wedding_33 ⟨Nat.le_refl _, Nat.le_refl _⟩ (fun H locs hP hD hS => ?_)
      refine lv_goto (tgt := 44) hx hb dX8_wedding_36 (by decide) ?_
      exact fc_reti hx hb hr hlocks hP hS dX8_wedding_44 (i2a hf) (congrArg (fun z => (mW G a z)) (i2b hf))
  refine lv_if_ne (tgt := 12) hx hb dX8_wedding_5 (by decide) (fun c2725 => ?_) (fun c2725 => ?_)
  · have hf := ifF hf c2725
    refine lv_aload_n hx hb dX8_wedding_12 rfl (lv_at hl 0 rfl) ?_
    refine lv_iload_n hx hb dX8_wedding_13 rfl (lv_at hl 1 rfl) ?_
    obtain ⟨q2726, hq2726, hf⟩ := bnd hf
    refine fc_callV (Wa' := (mW G a v)) (st1 := [.int q2726]) (As := [.int x1]) (rest := []) hCF (k_X8_canWed a v x1 hq2726) (cwV 1 hts gX8_wedding_X8_canWed rfl rfl rfl ⟨rfl, dk_X8_canWed⟩ ⟨Nat.le_of_ble_eq_true rfl, Nat.le_of_ble_eq_true rfl⟩) hE hAB hP hD hS [0, 1, 2, 3, 4, 5, 6, 7, 8, 9, 10, 11, 12, 13, 14, 15, 16, 17, 18, 19, 20, 21, 22, 23, 24] mW_d (mW_c G a v) (va_recv hE.1 hP (ci := 5) (q0 := 0) rfl (mW_o G a v)) (mW_f G a v v) (mW_s G a v v) rfl rfl hl.1 rfl (Nat.le_of_ble_eq_true rfl) dX8_wedding_14 ⟨Nat.le_refl _, Nat.le_refl _⟩ (fun H locs hP hD hS => ?_)
    refine lv_if_ne (tgt := 25) hx hb dX8_wedding_17 (by decide) (fun c2727 => ?_) (fun c2727 => ?_)
    · have hf := ifF hf c2727
      refine lv_iconst (v := (0 : Int32)) hx hb dX8_wedding_25 (by decide) ?_
      exact J26_2721 (0 : Int32) _ _ _ hP hD hS (lv_sub hl [0, 1] rfl) hf
    · have hf := ifT hf c2727
      refine lv_bipush (v := (-3 : Int32)) hx hb dX8_wedding_20 (by decide) ?_
      refine lv_goto (tgt := 26) hx hb dX8_wedding_22 (by decide) ?_
      exact J26_2721 (-3 : Int32) _ _ _ hP hD hS (lv_sub hl [0, 1] rfl) hf
  · have hf := ifT hf c2725
    refine lv_iconst (v := (-1 : Int32)) hx hb dX8_wedding_8 (by decide) ?_
    refine lv_goto (tgt := 26) hx hb dX8_wedding_9 (by decide) ?_
    exact J26_2721 (-1 : Int32) _ _ _ hP hD hS (lv_sub hl [0, 1] rfl) hf
theorem dk_X8_whatIs : yX8_whatIs.cls ≠ "java/lang/invoke/MethodHandle" ∧ yX8_whatIs.cls ≠ "java/lang/invoke/VarHandle" ∧ (parseMethodDescriptor yX8_whatIs.desc).map (fun d => d.parameters.length) = some 2 := by decide +kernel
theorem iu_X8_whatIs_X8 : ∀ w ∈ u_ws RX8 TX8 29, w ∈ wsX8_whatIs := by decide +kernel
set_option maxHeartbeats 4000000 in
set_option maxRecDepth 100000 in
theorem k_X8_whatIs {l : Launch} {G : Gx} (a : Nat → Nat) (v : St) (x1 : Int32) (x2 : Int32) {r : Int32} {v' : St} (hf : f_X8_whatIs v x1 x2 = some (r, v')) : FC l G yX8_whatIs wsX8_whatIs ({ frames := 5, cells := 0, slots := 0, locals := 113 } : Room) [.ref (a 0), .int x1, .int x2] (mW G a v) (mW G a v') (some (.int r)) := by
  refine fc_head (cc := cX8_whatIs) (maxL := 4) (ret := (some .int)) (C := RX8) (lv := [(0, .ref (a 0)), (1, .int x1), (2, .int x2)]) (by decide) rfl rfl (Nat.le_of_ble_eq_true rfl) rfl ?_
  intro p e s m below meth c ls A hx hb hr hml hown hts hlocks hE hP hD hAB hS hl
  have hCF : CallFix p m c cX8_whatIs 4 s ([.ref (a 0), .int x1, .int x2] : List Value).toArray wsX8_whatIs RX8 := ⟨hx, hb, hml, hown, hts⟩
  have hwX8 : ∀ w ∈ u_ws RX8 TX8 29, w.before ([.ref (a 0), .int x1, .int x2] : List Value).toArray s = true := fun w h => hts w (iu_X8_whatIs_X8 w h)
  have hk_fieldLink_RX8_16__BrideNotKnownModel___figure____I_ := hts (.fieldLink RX8 16 "BrideNotKnownModel" "figure" "[I") (List.mem_of_getElem? (i := 2) rfl)
  have hk_fieldLink_RX8_13__BrideNotKnownModel___kind____I_ := hts (.fieldLink RX8 13 "BrideNotKnownModel" "kind" "[I") (List.mem_of_getElem? (i := 1) rfl)
  rw [f_X8_whatIs] at hf
  refine lv_aload_n hx hb dX8_whatIs_0 rfl (lv_at hl 0 rfl) ?_
  refine lv_iload_n hx hb dX8_whatIs_1 rfl (lv_at hl 1 rfl) ?_
  obtain ⟨q2733, hq2733, hf⟩ := bnd hf
  refine fc_callV (Wa' := (mW G a v)) (st1 := [.int q2733]) (As := [.int x1]) (rest := []) hCF (k_X8_isBride a v x1 hq2733) (cwV 1 hts gX8_whatIs_X8_isBride rfl rfl rfl ⟨rfl, dk_X8_isBride⟩ ⟨Nat.le_of_ble_eq_true rfl, Nat.le_of_ble_eq_true rfl⟩) hE hAB hP hD hS [0, 1, 2, 3, 4, 5, 6, 7, 8, 9, 10, 11, 12, 13, 14, 15, 16, 17, 18, 19, 20, 21, 22, 23, 24] mW_d (mW_c G a v) (va_recv hE.1 hP (ci := 5) (q0 := 0) rfl (mW_o G a v)) (mW_f G a v v) (mW_s G a v v) rfl rfl hl.1 rfl (Nat.le_of_ble_eq_true rfl) dX8_whatIs_2 ⟨Nat.le_refl _, Nat.le_refl _⟩ (fun H locs hP hD hS => ?_)
  have J27_2735 : ∀ (s0_2734 : Int32) (H : Heap) (locs : List Loc) (ls : Array Slot), va_P (gD G) vwCl (mW G a v) H → va_D A (mW G a v) → va_S A s.heap H locs → lv_has ls 4 [(0, .ref (a 0)), (1, .int x1), (2, .int x2)] → f_X8_whatIs_27 v x1 x2 s0_2734 = some (r, v') → W p l e (headSpec wsX8_whatIs ({ frames := 5, cells := 0, slots := 0, locals := 113 } : Room)).room s m ([.ref (a 0), .int x1, .int x2] : List Value).toArray below meth c H locs 0 0 (MQ below (FQ G A (mW G a v') (some (.int r))) ([.ref (a 0), .int x1, .int x2] : List Value).toArray s 0 0 A) (F0 m 27 ls [.int s0_2734]) := by
    intro s0_2734 H locs ls hP hD hS hl hf
    rw [f_X8_whatIs_27] at hf
    refine lv_istore_n (lv' := [(3, .int s0_2734), (0, .ref (a 0)), (1, .int x1), (2, .int x2)]) hx hb dX8_whatIs_27 rfl hl (by decide) rfl (fun ls hl => ?_)
    refine lv_iload_n hx hb dX8_whatIs_28 rfl (lv_at hl 0 rfl) ?_
    refine lv_if_eq (tgt := 38) hx hb dX8_whatIs_29 (by decide) (fun c2736 => ?_) (fun c2736 => ?_)
    · have hf := ifT hf c2736
      refine lv_iload_n hx hb dX8_whatIs_38 rfl (lv_at hl 3 rfl) ?_
      refine lv_if_ne (tgt := 56) hx hb dX8_whatIs_39 (by decide) (fun c2737 => ?_) (fun c2737 => ?_)
      · have hf := ifF hf c2737
        refine lv_aload_n hx hb dX8_whatIs_56 rfl (lv_at hl 1 rfl) ?_
        refine lv_aload_n hx hb dX8_whatIs_57 rfl (lv_at hl 1 rfl) ?_
        refine fc_get (v := .ref (a 3)) (ci := 5) (C := RX8) (T := TX8) (N := 29) hx hb hwX8 hown hE hP 0 (mW_o G a v) rfl 2 (by decide) hk_fieldLink_RX8_16__BrideNotKnownModel___figure____I_ (fun _ h => h) rfl dX8_whatIs_58 ?_
        refine lv_iload_n hx hb dX8_whatIs_61 rfl (lv_at hl 2 rfl) ?_
        refine lv_bipush (v := (10 : Int32)) hx hb dX8_whatIs_62 (by decide) ?_
        obtain ⟨q2738, hq2738, hf⟩ := bnd hf
        refine fc_callV (Wa' := (mW G a q2738.2)) (st1 := [.int q2738.1]) (As := [.ref (a 3), .int x1, .int (10 : Int32)]) (rest := []) hCF (k_X8_bitsFor a v 2 x1 (10 : Int32) hq2738 (by decide)) (cwV 3 hts gX8_whatIs_X8_bitsFor rfl rfl rfl ⟨rfl, dk_X8_bitsFor⟩ ⟨Nat.le_of_ble_eq_true rfl, Nat.le_of_ble_eq_true rfl⟩) hE hAB hP hD hS [0, 1, 2, 3, 4, 5, 6, 7, 8, 9, 10, 11, 12, 13, 14, 15, 16, 17, 18, 19, 20, 21, 22, 23, 24] mW_d (mW_c G a v) (va_recv hE.1 hP (ci := 5) (q0 := 0) rfl (mW_o G a v)) (mW_f G a v q2738.2) (mW_s G a v q2738.2) rfl rfl hl.1 rfl (Nat.le_of_ble_eq_true rfl) dX8_whatIs_64 ⟨Nat.le_refl _, Nat.le_refl _⟩ (fun H locs hP hD hS => ?_)
        exact fc_reti hx hb hr hlocks hP hS dX8_whatIs_67 (i2a hf) (congrArg (fun z => (mW G a z)) (i2b hf))
      · have hf := ifT hf c2737
        refine lv_aload_n hx hb dX8_whatIs_42 rfl (lv_at hl 1 rfl) ?_
        refine lv_aload_n hx hb dX8_whatIs_43 rfl (lv_at hl 1 rfl) ?_
        refine fc_get (v := .ref (a 2)) (ci := 5) (C := RX8) (T := TX8) (N := 29) hx hb hwX8 hown hE hP 0 (mW_o G a v) rfl 1 (by decide) hk_fieldLink_RX8_13__BrideNotKnownModel___kind____I_ (fun _ h => h) rfl dX8_whatIs_44 ?_
        refine lv_iload_n hx hb dX8_whatIs_47 rfl (lv_at hl 2 rfl) ?_
        refine lv_bipush (v := (6 : Int32)) hx hb dX8_whatIs_48 (by decide) ?_
        obtain ⟨q2739, hq2739, hf⟩ := bnd hf
        refine fc_callV (Wa' := (mW G a q2739.2)) (st1 := [.int q2739.1]) (As := [.ref (a 2), .int x1, .int (6 : Int32)]) (rest := []) hCF (k_X8_bitsFor a v 1 x1 (6 : Int32) hq2739 (by decide)) (cwV 3 hts gX8_whatIs_X8_bitsFor rfl rfl rfl ⟨rfl, dk_X8_bitsFor⟩ ⟨Nat.le_of_ble_eq_true rfl, Nat.le_of_ble_eq_true rfl⟩) hE hAB hP hD hS [0, 1, 2, 3, 4, 5, 6, 7, 8, 9, 10, 11, 12, 13, 14, 15, 16, 17, 18, 19, 20, 21, 22, 23, 24] mW_d (mW_c G a v) (va_recv hE.1 hP (ci := 5) (q0 := 0) rfl (mW_o G a v)) (mW_f G a v q2739.2) (mW_s G a v q2739.2) rfl rfl hl.1 rfl (Nat.le_of_ble_eq_true rfl) dX8_whatIs_50 ⟨Nat.le_refl _, Nat.le_refl _⟩ (fun H locs hP hD hS => ?_)
        refine lv_goto (tgt := 67) hx hb dX8_whatIs_53 (by decide) ?_
        exact fc_reti hx hb hr hlocks hP hS dX8_whatIs_67 (i2a hf) (congrArg (fun z => (mW G a z)) (i2b hf))
    · have hf := ifF hf c2736
      refine lv_aload_n hx hb dX8_whatIs_32 rfl (lv_at hl 1 rfl) ?_
      refine lv_iload_n hx hb dX8_whatIs_33 rfl (lv_at hl 0 rfl) ?_
      obtain ⟨q2740, hq2740, hf⟩ := bnd hf
      refine fc_callV (Wa' := (mW G a q2740.2)) (st1 := [.int q2740.1]) (As := [.int s0_2734]) (rest := []) hCF (k_X8_no a v s0_2734 hq2740) (cwV 1 hts gX8_whatIs_X8_no rfl rfl rfl ⟨rfl, dk_X8_no⟩ ⟨Nat.le_of_ble_eq_true rfl, Nat.le_of_ble_eq_true rfl⟩) hE hAB hP hD hS [0, 1, 2, 3, 4, 5, 6, 7, 8, 9, 10, 11, 12, 13, 14, 15, 16, 17, 18, 19, 20, 21, 22, 23, 24] mW_d (mW_c G a v) (va_recv hE.1 hP (ci := 5) (q0 := 0) rfl (mW_o G a v)) (mW_f G a v q2740.2) (mW_s G a v q2740.2) rfl rfl hl.1 rfl (Nat.le_of_ble_eq_true rfl) dX8_whatIs_34 ⟨Nat.le_refl _, Nat.le_refl _⟩ (fun H locs hP hD hS => ?_)
      exact fc_reti hx hb hr hlocks hP hS dX8_whatIs_37 (i2a hf) (congrArg (fun z => (mW G a z)) (i2b hf))
  refine lv_if_ne (tgt := 12) hx hb dX8_whatIs_5 (by decide) (fun c2741 => ?_) (fun c2741 => ?_)
  · have hf := ifF hf c2741
    refine lv_iload_n hx hb dX8_whatIs_12 rfl (lv_at hl 2 rfl) ?_
    refine lv_iconst (v := (0 : Int32)) hx hb dX8_whatIs_13 (by decide) ?_
    refine lv_iconst (v := (1 : Int32)) hx hb dX8_whatIs_14 (by decide) ?_
    obtain ⟨q2742, hq2742, hf⟩ := bnd hf
    refine fc_callS (Wa' := (mW G a v)) (st1 := [.int q2742]) (As := [.int x2, .int (0 : Int32), .int (1 : Int32)]) (rest := []) hCF (k_X8_isIn x2 (0 : Int32) (1 : Int32) hq2742) (va_cwS 3 hts gX8_whatIs_X8_isIn rfl rfl rfl dk_X8_isIn ⟨Nat.le_of_ble_eq_true rfl, Nat.le_of_ble_eq_true rfl⟩) hE hAB hP hD hS [] rfl rfl rfl rfl rfl rfl hl.1 rfl (Nat.le_of_ble_eq_true rfl) dX8_whatIs_15 ⟨Nat.le_refl _, Nat.le_refl _⟩ (fun H locs hP hD hS => ?_)
    refine lv_if_ne (tgt := 26) hx hb dX8_whatIs_18 (by decide) (fun c2743 => ?_) (fun c2743 => ?_)
    · have hf := ifF hf c2743
      refine lv_iconst (v := (0 : Int32)) hx hb dX8_whatIs_26 (by decide) ?_
      exact J27_2735 (0 : Int32) _ _ _ hP hD hS (lv_sub hl [0, 1, 2] rfl) hf
    · have hf := ifT hf c2743
      refine lv_bipush (v := (-2 : Int32)) hx hb dX8_whatIs_21 (by decide) ?_
      refine lv_goto (tgt := 27) hx hb dX8_whatIs_23 (by decide) ?_
      exact J27_2735 (-2 : Int32) _ _ _ hP hD hS (lv_sub hl [0, 1, 2] rfl) hf
  · have hf := ifT hf c2741
    refine lv_iconst (v := (-1 : Int32)) hx hb dX8_whatIs_8 (by decide) ?_
    refine lv_goto (tgt := 27) hx hb dX8_whatIs_9 (by decide) ?_
    exact J27_2735 (-1 : Int32) _ _ _ hP hD hS (lv_sub hl [0, 1, 2] rfl) hf
theorem dk_X8_when : yX8_when.cls ≠ "java/lang/invoke/MethodHandle" ∧ yX8_when.cls ≠ "java/lang/invoke/VarHandle" ∧ (parseMethodDescriptor yX8_when.desc).map (fun d => d.parameters.length) = some 1 := by decide +kernel
set_option maxHeartbeats 4000000 in
set_option maxRecDepth 100000 in
theorem k_X8_when {l : Launch} {G : Gx} (a : Nat → Nat) (v : St) (x1 : Int32) {r : Int32} {v' : St} (hf : f_X8_when v x1 = some (r, v')) : FC l G yX8_when wsX8_when ({ frames := 5, cells := 0, slots := 0, locals := 111 } : Room) [.ref (a 0), .int x1] (mW G a v) (mW G a v') (some (.int r)) := by
  refine fc_head (cc := cX8_when) (maxL := 4) (ret := (some .int)) (C := RX8) (lv := [(0, .ref (a 0)), (1, .int x1)]) (by decide) rfl rfl (Nat.le_of_ble_eq_true rfl) rfl ?_
  intro p e s m below meth c ls A hx hb hr hml hown hts hlocks hE hP hD hAB hS hl
  have hCF : CallFix p m c cX8_when 4 s ([.ref (a 0), .int x1] : List Value).toArray wsX8_when RX8 := ⟨hx, hb, hml, hown, hts⟩
  rw [f_X8_when] at hf
  refine lv_aload_n hx hb dX8_when_0 rfl (lv_at hl 0 rfl) ?_
  refine lv_iload_n hx hb dX8_when_1 rfl (lv_at hl 1 rfl) ?_
  obtain ⟨q2753, hq2753, hf⟩ := bnd hf
  refine fc_callV (Wa' := (mW G a v)) (st1 := [.int q2753]) (As := [.int x1]) (rest := []) hCF (k_X8_isGroom a v x1 hq2753) (cwV 1 hts gX8_when_X8_isGroom rfl rfl rfl ⟨rfl, dk_X8_isGroom⟩ ⟨Nat.le_of_ble_eq_true rfl, Nat.le_of_ble_eq_true rfl⟩) hE hAB hP hD hS [0, 1, 2, 3, 4, 5, 6, 7, 8, 9, 10, 11, 12, 13, 14, 15, 16, 17, 18, 19, 20, 21, 22, 23, 24] mW_d (mW_c G a v) (va_recv hE.1 hP (ci := 5) (q0 := 0) rfl (mW_o G a v)) (mW_f G a v v) (mW_s G a v v) rfl rfl hl.1 rfl (Nat.le_of_ble_eq_true rfl) dX8_when_2 ⟨Nat.le_refl _, Nat.le_refl _⟩ (fun H locs hP hD hS => ?_)
  refine lv_if_ne (tgt := 14) hx hb dX8_when_5 (by decide) (fun c2754 => ?_) (fun c2754 => ?_)
  · have hf := ifF hf c2754
    refine lv_aload_n hx hb dX8_when_14 rfl (lv_at hl 0 rfl) ?_
    obtain ⟨q2755, hq2755, hf⟩ := bnd hf
    refine fc_callV (Wa' := (mW G a q2755)) (st1 := []) (As := []) (rest := []) hCF (k_X8_thinks a v hq2755) (cwV 0 hts gX8_when_X8_thinks rfl rfl rfl ⟨rfl, dk_X8_thinks⟩ ⟨Nat.le_of_ble_eq_true rfl, Nat.le_of_ble_eq_true rfl⟩) hE hAB hP hD hS [0, 1, 2, 3, 4, 5, 6, 7, 8, 9, 10, 11, 12, 13, 14, 15, 16, 17, 18, 19, 20, 21, 22, 23, 24] mW_d (mW_c G a v) (va_recv hE.1 hP (ci := 5) (q0 := 0) rfl (mW_o G a v)) (mW_f G a v q2755) (mW_s G a v q2755) rfl rfl hl.1 rfl (Nat.le_of_ble_eq_true rfl) dX8_when_15 ⟨Nat.le_refl _, Nat.le_refl _⟩ (fun H locs hP hD hS => ?_)
    refine lv_bipush (v := (-9 : Int32)) hx hb dX8_when_18 (by decide) ?_
    refine lv_istore_n (lv' := [(2, .int (-9 : Int32)), (0, .ref (a 0)), (1, .int x1)]) hx hb dX8_when_20 rfl hl (by decide) rfl (fun ls hl => ?_)
    refine lv_iconst (v := (0 : Int32)) hx hb dX8_when_21 (by decide) ?_
    refine lv_istore_n (lv' := [(3, .int (0 : Int32)), (2, .int (-9 : Int32)), (0, .ref (a 0)), (1, .int x1)]) hx hb dX8_when_22 rfl hl (by decide) rfl (fun ls hl => ?_)
    have L23_2759 : ∀ (K23_58 : Int32 → St → Option (Int32 × St)) (hK23_58 : ∀ (x2_2760 : Int32) (v_2761 : St) (H : Heap) (locs : List Loc) (ls : Array Slot), va_P (gD G) vwCl (mW G a v_2761) H → va_D A (mW G a v_2761) → va_S A s.heap H locs → lv_has ls 4 [(0, .ref (a 0)), (2, .int x2_2760)] → K23_58 x2_2760 v_2761 = some (r, v') → W p l e (headSpec wsX8_when ({ frames := 5, cells := 0, slots := 0, locals := 111 } : Room)).room s m ([.ref (a 0), .int x1] : List Value).toArray below meth c H locs 0 0 (MQ below (FQ G A (mW G a v') (some (.int r))) ([.ref (a 0), .int x1] : List Value).toArray s 0 0 A) (F0 m 58 ls [])) (n : Nat) (x2_2756 : Int32) (x3_2757 : Int32) (v_2758 : St) (H : Heap) (locs : List Loc) (ls : Array Slot), va_P (gD G) vwCl (mW G a v_2758) H → va_D A (mW G a v_2758) → va_S A s.heap H locs → lv_has ls 4 [(0, .ref (a 0)), (1, .int x1), (2, .int x2_2756), (3, .int x3_2757)] → f_X8_when_23 x1 n x2_2756 x3_2757 v_2758 K23_58 = some (r, v') → W p l e (headSpec wsX8_when ({ frames := 5, cells := 0, slots := 0, locals := 111 } : Room)).room s m ([.ref (a 0), .int x1] : List Value).toArray below meth c H locs 0 0 (MQ below (FQ G A (mW G a v') (some (.int r))) ([.ref (a 0), .int x1] : List Value).toArray s 0 0 A) (F0 m 23 ls []) := by
      intro K23_58 hK23_58 n
      induction n with
      | zero =>
        intro x2_2756 x3_2757 v_2758 H locs ls hP hD hS hl hf
        exact no_some hf
      | succ n ih =>
        intro x2_2756 x3_2757 v_2758 H locs ls hP hD hS hl hf
        rw [f_X8_when_23] at hf
        refine lv_iload_n hx hb dX8_when_23 rfl (lv_at hl 3 rfl) ?_
        refine lv_bipush (v := (60 : Int32)) hx hb dX8_when_24 (by decide) ?_
        refine lv_icmp_gt (tgt := 58) hx hb dX8_when_26 (by decide) (fun c2762 => ?_) (fun c2762 => ?_)
        · have hf := ifT hf c2762
          exact hK23_58 x2_2756 v_2758 _ _ _ hP hD hS (lv_sub hl [0, 2] rfl) hf
        · have hf := ifF hf c2762
          refine lv_iload_n hx hb dX8_when_29 rfl (lv_at hl 2 rfl) ?_
          refine lv_if_ge (tgt := 58) hx hb dX8_when_30 (by decide) (fun c2763 => ?_) (fun c2763 => ?_)
          · have hf := ifT hf c2763
            exact hK23_58 x2_2756 v_2758 _ _ _ hP hD hS (lv_sub hl [0, 2] rfl) hf
          · have hf := ifF hf c2763
            refine lv_aload_n hx hb dX8_when_33 rfl (lv_at hl 0 rfl) ?_
            refine lv_iload_n hx hb dX8_when_34 rfl (lv_at hl 1 rfl) ?_
            obtain ⟨q2764, hq2764, hf⟩ := bnd hf
            refine fc_callV (Wa' := (mW G a v_2758)) (st1 := [.int q2764]) (As := [.int x1]) (rest := []) hCF (k_X8_knows a v_2758 x1 hq2764) (cwV 1 hts gX8_when_X8_knows rfl rfl rfl ⟨rfl, dk_X8_knows⟩ ⟨Nat.le_of_ble_eq_true rfl, Nat.le_of_ble_eq_true rfl⟩) hE hAB hP hD hS [0, 1, 2, 3, 4, 5, 6, 7, 8, 9, 10, 11, 12, 13, 14, 15, 16, 17, 18, 19, 20, 21, 22, 23, 24] mW_d (mW_c G a v_2758) (va_recv hE.1 hP (ci := 5) (q0 := 0) rfl (mW_o G a v_2758)) (mW_f G a v_2758 v_2758) (mW_s G a v_2758 v_2758) rfl rfl hl.1 rfl (Nat.le_of_ble_eq_true rfl) dX8_when_35 ⟨Nat.le_refl _, Nat.le_refl _⟩ (fun H locs hP hD hS => ?_)
            refine lv_if_lt (tgt := 45) hx hb dX8_when_38 (by decide) (fun c2765 => ?_) (fun c2765 => ?_)
            · have hf := ifT hf c2765
              refine lv_bipush (v := (-9 : Int32)) hx hb dX8_when_45 (by decide) ?_
              refine lv_istore_n (lv' := [(2, .int (-9 : Int32)), (0, .ref (a 0)), (1, .int x1), (3, .int x3_2757)]) hx hb dX8_when_47 rfl hl (by decide) rfl (fun ls hl => ?_)
              refine lv_aload_n hx hb dX8_when_48 rfl (lv_at hl 1 rfl) ?_
              obtain ⟨q2766, hq2766, hf⟩ := bnd hf
              refine fc_callV (Wa' := (mW G a q2766)) (st1 := []) (As := []) (rest := []) hCF (k_X8_goesYear a v_2758 hq2766) (cwV 0 hts gX8_when_X8_goesYear rfl rfl rfl ⟨rfl, dk_X8_goesYear⟩ ⟨Nat.le_of_ble_eq_true rfl, Nat.le_of_ble_eq_true rfl⟩) hE hAB hP hD hS [0, 1, 2, 3, 4, 5, 6, 7, 8, 9, 10, 11, 12, 13, 14, 15, 16, 17, 18, 19, 20, 21, 22, 23, 24] mW_d (mW_c G a v_2758) (va_recv hE.1 hP (ci := 5) (q0 := 0) rfl (mW_o G a v_2758)) (mW_f G a v_2758 q2766) (mW_s G a v_2758 q2766) rfl rfl hl.1 rfl (Nat.le_of_ble_eq_true rfl) dX8_when_49 ⟨Nat.le_refl _, Nat.le_refl _⟩ (fun H locs hP hD hS => ?_)
              refine lv_iinc (v := (x3_2757 + (1 : Int32))) (lv' := [(3, .int (x3_2757 + (1 : Int32))), (2, .int (-9 : Int32)), (0, .ref (a 0)), (1, .int x1)]) hx hb dX8_when_52 hl (k := 3) rfl rfl (by decide) rfl (fun ls hl => ?_)
              refine lv_goto (tgt := 23) hx hb dX8_when_55 (by decide) ?_
              exact ih (-9 : Int32) (x3_2757 + (1 : Int32)) q2766 _ _ _ hP hD hS (lv_sub hl [2, 3, 1, 0] rfl) hf
            · have hf := ifF hf c2765
              refine lv_iload_n hx hb dX8_when_41 rfl (lv_at hl 3 rfl) ?_
              refine lv_goto (tgt := 47) hx hb dX8_when_42 (by decide) ?_
              refine lv_istore_n (lv' := [(2, .int x3_2757), (0, .ref (a 0)), (1, .int x1), (3, .int x3_2757)]) hx hb dX8_when_47 rfl hl (by decide) rfl (fun ls hl => ?_)
              refine lv_aload_n hx hb dX8_when_48 rfl (lv_at hl 1 rfl) ?_
              obtain ⟨q2767, hq2767, hf⟩ := bnd hf
              refine fc_callV (Wa' := (mW G a q2767)) (st1 := []) (As := []) (rest := []) hCF (k_X8_goesYear a v_2758 hq2767) (cwV 0 hts gX8_when_X8_goesYear rfl rfl rfl ⟨rfl, dk_X8_goesYear⟩ ⟨Nat.le_of_ble_eq_true rfl, Nat.le_of_ble_eq_true rfl⟩) hE hAB hP hD hS [0, 1, 2, 3, 4, 5, 6, 7, 8, 9, 10, 11, 12, 13, 14, 15, 16, 17, 18, 19, 20, 21, 22, 23, 24] mW_d (mW_c G a v_2758) (va_recv hE.1 hP (ci := 5) (q0 := 0) rfl (mW_o G a v_2758)) (mW_f G a v_2758 q2767) (mW_s G a v_2758 q2767) rfl rfl hl.1 rfl (Nat.le_of_ble_eq_true rfl) dX8_when_49 ⟨Nat.le_refl _, Nat.le_refl _⟩ (fun H locs hP hD hS => ?_)
              refine lv_iinc (v := (x3_2757 + (1 : Int32))) (lv' := [(3, .int (x3_2757 + (1 : Int32))), (2, .int x3_2757), (0, .ref (a 0)), (1, .int x1)]) hx hb dX8_when_52 hl (k := 3) rfl rfl (by decide) rfl (fun ls hl => ?_)
              refine lv_goto (tgt := 23) hx hb dX8_when_55 (by decide) ?_
              exact ih x3_2757 (x3_2757 + (1 : Int32)) q2767 _ _ _ hP hD hS (lv_sub hl [2, 3, 1, 0] rfl) hf
    refine L23_2759 _ ?_ FUEL (-9 : Int32) (0 : Int32) q2755 _ _ _ hP hD hS (lv_sub hl [2, 3, 1, 0] rfl) hf
    intro x2_2768 v_2769 H locs ls hP hD hS hl hf
    refine lv_aload_n hx hb dX8_when_58 rfl (lv_at hl 0 rfl) ?_
    obtain ⟨q2770, hq2770, hf⟩ := bnd hf
    refine fc_callV (Wa' := (mW G a q2770)) (st1 := []) (As := []) (rest := []) hCF (k_X8_forgets a v_2769 hq2770) (cwV 0 hts gX8_when_X8_forgets rfl rfl rfl ⟨rfl, dk_X8_forgets⟩ ⟨Nat.le_of_ble_eq_true rfl, Nat.le_of_ble_eq_true rfl⟩) hE hAB hP hD hS [0, 1, 2, 3, 4, 5, 6, 7, 8, 9, 10, 11, 12, 13, 14, 15, 16, 17, 18, 19, 20, 21, 22, 23, 24] mW_d (mW_c G a v_2769) (va_recv hE.1 hP (ci := 5) (q0 := 0) rfl (mW_o G a v_2769)) (mW_f G a v_2769 q2770) (mW_s G a v_2769 q2770) rfl rfl hl.1 rfl (Nat.le_of_ble_eq_true rfl) dX8_when_59 ⟨Nat.le_refl _, Nat.le_refl _⟩ (fun H locs hP hD hS => ?_)
    refine lv_iload_n hx hb dX8_when_62 rfl (lv_at hl 1 rfl) ?_
    exact fc_reti hx hb hr hlocks hP hS dX8_when_63 (i2a hf) (congrArg (fun z => (mW G a z)) (i2b hf))
  · have hf := ifT hf c2754
    refine lv_aload_n hx hb dX8_when_8 rfl (lv_at hl 0 rfl) ?_
    refine lv_iconst (v := (-1 : Int32)) hx hb dX8_when_9 (by decide) ?_
    obtain ⟨q2771, hq2771, hf⟩ := bnd hf
    refine fc_callV (Wa' := (mW G a q2771.2)) (st1 := [.int q2771.1]) (As := [.int (-1 : Int32)]) (rest := []) hCF (k_X8_no a v (-1 : Int32) hq2771) (cwV 1 hts gX8_when_X8_no rfl rfl rfl ⟨rfl, dk_X8_no⟩ ⟨Nat.le_of_ble_eq_true rfl, Nat.le_of_ble_eq_true rfl⟩) hE hAB hP hD hS [0, 1, 2, 3, 4, 5, 6, 7, 8, 9, 10, 11, 12, 13, 14, 15, 16, 17, 18, 19, 20, 21, 22, 23, 24] mW_d (mW_c G a v) (va_recv hE.1 hP (ci := 5) (q0 := 0) rfl (mW_o G a v)) (mW_f G a v q2771.2) (mW_s G a v q2771.2) rfl rfl hl.1 rfl (Nat.le_of_ble_eq_true rfl) dX8_when_10 ⟨Nat.le_refl _, Nat.le_refl _⟩ (fun H locs hP hD hS => ?_)
    exact fc_reti hx hb hr hlocks hP hS dX8_when_13 (i2a hf) (congrArg (fun z => (mW G a z)) (i2b hf))
theorem dk_X8_years : yX8_years.cls ≠ "java/lang/invoke/MethodHandle" ∧ yX8_years.cls ≠ "java/lang/invoke/VarHandle" ∧ (parseMethodDescriptor yX8_years.desc).map (fun d => d.parameters.length) = some 1 := by decide +kernel
theorem iu_X8_years_X8 : ∀ w ∈ u_ws RX8 TX8 29, w ∈ wsX8_years := by decide +kernel
set_option maxHeartbeats 4000000 in
set_option maxRecDepth 100000 in
theorem k_X8_years {l : Launch} {G : Gx} (a : Nat → Nat) (v : St) (x1 : Int32) {r : Int32} {v' : St} (hf : f_X8_years v x1 = some (r, v')) : FC l G yX8_years wsX8_years ({ frames := 2, cells := 0, slots := 0, locals := 43 } : Room) [.ref (a 0), .int x1] (mW G a v) (mW G a v') (some (.int r)) := by
  refine fc_head (cc := cX8_years) (maxL := 3) (ret := (some .int)) (C := RX8) (lv := [(0, .ref (a 0)), (1, .int x1)]) (by decide) rfl rfl (Nat.le_of_ble_eq_true rfl) rfl ?_
  intro p e s m below meth c ls A hx hb hr hml hown hts hlocks hE hP hD hAB hS hl
  have hCF : CallFix p m c cX8_years 3 s ([.ref (a 0), .int x1] : List Value).toArray wsX8_years RX8 := ⟨hx, hb, hml, hown, hts⟩
  have hwX8 : ∀ w ∈ u_ws RX8 TX8 29, w.before ([.ref (a 0), .int x1] : List Value).toArray s = true := fun w h => hts w (iu_X8_years_X8 w h)
  have hk_fieldLink_RX8_117__BrideNotKnownModel___year___I_ := hts (.fieldLink RX8 117 "BrideNotKnownModel" "year" "I") (List.mem_of_getElem? (i := 1) rfl)
  rw [f_X8_years] at hf
  refine lv_iload_n hx hb dX8_years_0 rfl (lv_at hl 1 rfl) ?_
  refine lv_iconst (v := (1 : Int32)) hx hb dX8_years_1 (by decide) ?_
  refine lv_bipush (v := (60 : Int32)) hx hb dX8_years_2 (by decide) ?_
  obtain ⟨q2777, hq2777, hf⟩ := bnd hf
  refine fc_callS (Wa' := (mW G a v)) (st1 := [.int q2777]) (As := [.int x1, .int (1 : Int32), .int (60 : Int32)]) (rest := []) hCF (k_X8_bound x1 (1 : Int32) (60 : Int32) hq2777) (va_cwS 3 hts gX8_years_X8_bound rfl rfl rfl dk_X8_bound ⟨Nat.le_of_ble_eq_true rfl, Nat.le_of_ble_eq_true rfl⟩) hE hAB hP hD hS [] rfl rfl rfl rfl rfl rfl hl.1 rfl (Nat.le_of_ble_eq_true rfl) dX8_years_4 ⟨Nat.le_refl _, Nat.le_refl _⟩ (fun H locs hP hD hS => ?_)
  refine lv_istore_n (lv' := [(2, .int q2777), (0, .ref (a 0)), (1, .int x1)]) hx hb dX8_years_7 rfl hl (by decide) rfl (fun ls hl => ?_)
  refine lv_iload_n hx hb dX8_years_8 rfl (lv_at hl 0 rfl) ?_
  have J27_2779 : ∀ (x2_2778 : Int32) (H : Heap) (locs : List Loc) (ls : Array Slot), va_P (gD G) vwCl (mW G a v) H → va_D A (mW G a v) → va_S A s.heap H locs → lv_has ls 3 [(0, .ref (a 0)), (1, .int x1), (2, .int x2_2778)] → f_X8_years_27 v x1 x2_2778 = some (r, v') → W p l e (headSpec wsX8_years ({ frames := 2, cells := 0, slots := 0, locals := 43 } : Room)).room s m ([.ref (a 0), .int x1] : List Value).toArray below meth c H locs 0 0 (MQ below (FQ G A (mW G a v') (some (.int r))) ([.ref (a 0), .int x1] : List Value).toArray s 0 0 A) (F0 m 27 ls []) := by
    intro x2_2778 H locs ls hP hD hS hl hf
    rw [f_X8_years_27] at hf
    refine lv_iload_n hx hb dX8_years_27 rfl (lv_at hl 2 rfl) ?_
    refine lv_if_eq (tgt := 37) hx hb dX8_years_28 (by decide) (fun c2780 => ?_) (fun c2780 => ?_)
    · have hf := ifT hf c2780
      refine lv_aload_n hx hb dX8_years_37 rfl (lv_at hl 0 rfl) ?_
      refine lv_iload_n hx hb dX8_years_38 rfl (lv_at hl 1 rfl) ?_
      obtain ⟨q2781, hq2781, hf⟩ := bnd hf
      refine fc_callV (Wa' := (mW G a q2781)) (st1 := []) (As := [.int x1]) (rest := []) hCF (k_X8_goes a v x1 hq2781) (cwV 1 hts gX8_years_X8_goes rfl rfl rfl ⟨rfl, dk_X8_goes⟩ ⟨Nat.le_of_ble_eq_true rfl, Nat.le_of_ble_eq_true rfl⟩) hE hAB hP hD hS [0, 1, 2, 3, 4, 5, 6, 7, 8, 9, 10, 11, 12, 13, 14, 15, 16, 17, 18, 19, 20, 21, 22, 23, 24] mW_d (mW_c G a v) (va_recv hE.1 hP (ci := 5) (q0 := 0) rfl (mW_o G a v)) (mW_f G a v q2781) (mW_s G a v q2781) rfl rfl hl.1 rfl (Nat.le_of_ble_eq_true rfl) dX8_years_39 ⟨Nat.le_refl _, Nat.le_refl _⟩ (fun H locs hP hD hS => ?_)
      refine lv_aload_n hx hb dX8_years_42 rfl (lv_at hl 0 rfl) ?_
      obtain ⟨q2782, hq2782, hf⟩ := bnd hf
      refine fc_callV (Wa' := (mW G a q2781)) (st1 := [.int q2782]) (As := []) (rest := []) hCF (k_X8_here a q2781 hq2782) (cwV 0 hts gX8_years_X8_here rfl rfl rfl ⟨rfl, dk_X8_here⟩ ⟨Nat.le_of_ble_eq_true rfl, Nat.le_of_ble_eq_true rfl⟩) hE hAB hP hD hS [0, 1, 2, 3, 4, 5, 6, 7, 8, 9, 10, 11, 12, 13, 14, 15, 16, 17, 18, 19, 20, 21, 22, 23, 24] mW_d (mW_c G a q2781) (va_recv hE.1 hP (ci := 5) (q0 := 0) rfl (mW_o G a q2781)) (mW_f G a q2781 q2781) (mW_s G a q2781 q2781) rfl rfl hl.1 rfl (Nat.le_of_ble_eq_true rfl) dX8_years_43 ⟨Nat.le_refl _, Nat.le_refl _⟩ (fun H locs hP hD hS => ?_)
      obtain ⟨q2783, hq2783, hf⟩ := bnd hf
      refine fc_callS (Wa' := (mW G a q2781)) (st1 := [.int q2783]) (As := [.int q2782]) (rest := []) hCF (k_X8_bits q2782 hq2783) (va_cwS 1 hts gX8_years_X8_bits rfl rfl rfl dk_X8_bits ⟨Nat.le_of_ble_eq_true rfl, Nat.le_of_ble_eq_true rfl⟩) hE hAB hP hD hS [] rfl rfl rfl rfl rfl rfl hl.1 rfl (Nat.le_of_ble_eq_true rfl) dX8_years_46 ⟨Nat.le_refl _, Nat.le_refl _⟩ (fun H locs hP hD hS => ?_)
      exact fc_reti hx hb hr hlocks hP hS dX8_years_49 (i2a hf) (congrArg (fun z => (mW G a z)) (i2b hf))
    · have hf := ifF hf c2780
      refine lv_aload_n hx hb dX8_years_31 rfl (lv_at hl 0 rfl) ?_
      refine lv_iload_n hx hb dX8_years_32 rfl (lv_at hl 2 rfl) ?_
      obtain ⟨q2784, hq2784, hf⟩ := bnd hf
      refine fc_callV (Wa' := (mW G a q2784.2)) (st1 := [.int q2784.1]) (As := [.int x2_2778]) (rest := []) hCF (k_X8_no a v x2_2778 hq2784) (cwV 1 hts gX8_years_X8_no rfl rfl rfl ⟨rfl, dk_X8_no⟩ ⟨Nat.le_of_ble_eq_true rfl, Nat.le_of_ble_eq_true rfl⟩) hE hAB hP hD hS [0, 1, 2, 3, 4, 5, 6, 7, 8, 9, 10, 11, 12, 13, 14, 15, 16, 17, 18, 19, 20, 21, 22, 23, 24] mW_d (mW_c G a v) (va_recv hE.1 hP (ci := 5) (q0 := 0) rfl (mW_o G a v)) (mW_f G a v q2784.2) (mW_s G a v q2784.2) rfl rfl hl.1 rfl (Nat.le_of_ble_eq_true rfl) dX8_years_33 ⟨Nat.le_refl _, Nat.le_refl _⟩ (fun H locs hP hD hS => ?_)
      exact fc_reti hx hb hr hlocks hP hS dX8_years_36 (i2a hf) (congrArg (fun z => (mW G a z)) (i2b hf))
  refine lv_if_ne (tgt := 27) hx hb dX8_years_9 (by decide) (fun c2785 => ?_) (fun c2785 => ?_)
  · have hf := ifF hf c2785
    exact J27_2779 q2777 _ _ _ hP hD hS (lv_sub hl [1, 2, 0] rfl) hf
  · have hf := ifT hf c2785
    refine lv_aload_n hx hb dX8_years_12 rfl (lv_at hl 1 rfl) ?_
    refine fc_get (v := .int (v 23 2)) (ci := 5) (C := RX8) (T := TX8) (N := 29) hx hb hwX8 hown hE hP 0 (mW_o G a v) rfl 12 (by decide) hk_fieldLink_RX8_117__BrideNotKnownModel___year___I_ (fun _ h => h) rfl dX8_years_13 ?_
    refine lv_iload_n hx hb dX8_years_16 rfl (lv_at hl 2 rfl) ?_
    refine lv_iadd hx hb dX8_years_17 ?_
    refine lv_sipush (v := (999 : Int32)) hx hb dX8_years_18 (by decide) ?_
    refine lv_icmp_le (tgt := 27) hx hb dX8_years_21 (by decide) (fun c2786 => ?_) (fun c2786 => ?_)
    · have hf := ifT hf c2786
      exact J27_2779 q2777 _ _ _ hP hD hS (lv_sub hl [1, 2, 0] rfl) hf
    · have hf := ifF hf c2786
      refine lv_bipush (v := (-6 : Int32)) hx hb dX8_years_24 (by decide) ?_
      refine lv_istore_n (lv' := [(2, .int (-6 : Int32)), (0, .ref (a 0)), (1, .int x1)]) hx hb dX8_years_26 rfl hl (by decide) rfl (fun ls hl => ?_)
      exact J27_2779 (-6 : Int32) _ _ _ hP hD hS (lv_sub hl [1, 2, 0] rfl) hf
