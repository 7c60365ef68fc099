theorem dk_X7_order : yX7_order.cls ≠ "java/lang/invoke/MethodHandle" ∧ yX7_order.cls ≠ "java/lang/invoke/VarHandle" ∧ (parseMethodDescriptor yX7_order.desc).map (fun d => d.parameters.length) = some 1 := by decide +kernel
theorem iu_X7_order_X7 : ∀ w ∈ u_ws RX7 TX7 8, w ∈ wsX7_order := by decide +kernel
set_option maxHeartbeats 4000000 in
set_option maxRecDepth 100000 in
theorem k_X7_order {l : Launch} {G : Gx} (a : Nat → Nat) (S : (Nat → St)) (x1 : Int32) {r : Int32} {S' : (Nat → St)} (hf : f_X7_order S x1 = some (r, S')) : FC l G yX7_order wsX7_order ({ frames := 5, cells := 0, slots := 0, locals := 126 } : Room) [.ref (a 0), .int x1] (cW G a S) (cW G a S') (some (.int r)) := by
  refine fc_head (cc := cX7_order) (maxL := 2) (ret := (some .int)) (C := RX7) (lv := [(0, .ref (a 0)), (1, .int x1)]) (by decide) rfl rfl (Nat.le_of_ble_eq_true rfl) rfl ?_
  intro p e s m below meth c ls A hx hb hr hml hown hts hlocks hE hP hD hAB hS hl
  have hCF : CallFix p m c cX7_order 2 s ([.ref (a 0), .int x1] : List Value).toArray wsX7_order RX7 := ⟨hx, hb, hml, hown, hts⟩
  have hwX7 : ∀ w ∈ u_ws RX7 TX7 8, w.before ([.ref (a 0), .int x1] : List Value).toArray s = true := fun w h => hts w (iu_X7_order_X7 w h)
  have hk_fieldLink_RX7_16__BrideNotKnown___thought___LBrideNotKnown_Valley__ := hts (.fieldLink RX7 16 "BrideNotKnown" "thought" "LBrideNotKnown$Valley;") (List.mem_of_getElem? (i := 1) rfl)
  have hk_fieldLink_RX7_10__BrideNotKnown___now___LBrideNotKnown_Valley__ := hts (.fieldLink RX7 10 "BrideNotKnown" "now" "LBrideNotKnown$Valley;") (List.mem_of_getElem? (i := 2) rfl)
  rw [f_X7_order] at hf
  refine lv_iload_n hx hb dX7_order_0 rfl (lv_at hl 1 rfl) ?_
  obtain ⟨q1208, hq1208, hf⟩ := bnd hf
  refine fc_callS (Wa' := (cW G a S)) (st1 := [.int q1208]) (As := [.int x1]) (rest := []) hCF (k_X7_isNotEither x1 hq1208) (va_cwS 1 hts gX7_order_X7_isNotEither rfl rfl rfl dk_X7_isNotEither ⟨Nat.le_of_ble_eq_true rfl, Nat.le_of_ble_eq_true rfl⟩) hE hAB hP hD hS [] rfl rfl rfl rfl rfl rfl hl.1 rfl (Nat.le_of_ble_eq_true rfl) dX7_order_1 ⟨Nat.le_refl _, Nat.le_refl _⟩ (fun H locs hP hD hS => ?_)
  refine lv_if_eq (tgt := 14) hx hb dX7_order_4 (by decide) (fun c1209 => ?_) (fun c1209 => ?_)
  · have hf := ifT hf c1209
    refine lv_aload_n hx hb dX7_order_14 rfl (lv_at hl 0 rfl) ?_
    refine fc_get (v := .ref (a 9)) (ci := 4) (C := RX7) (T := TX7) (N := 8) hx hb hwX7 hown hE hP 0 (cW_o G a S) rfl 1 (by decide) hk_fieldLink_RX7_16__BrideNotKnown___thought___LBrideNotKnown_Valley__ (fun _ h => h) rfl dX7_order_15 ?_
    refine lv_aload_n hx hb dX7_order_18 rfl (lv_at hl 0 rfl) ?_
    refine fc_get (v := .ref (a 1)) (ci := 4) (C := RX7) (T := TX7) (N := 8) hx hb hwX7 hown hE hP 0 (cW_o G a S) rfl 0 (by decide) hk_fieldLink_RX7_10__BrideNotKnown___now___LBrideNotKnown_Valley__ (fun _ h => h) rfl dX7_order_19 ?_
    obtain ⟨q1210, hq1210, hf⟩ := bnd hf
    refine fc_callV (Wa' := (cW G a (sS S 1 q1210))) (st1 := []) (As := [.ref (a 1)]) (rest := []) hCF (k_X6_become (sh 9 a) (S 1) (sh 1 a) (S 0) hq1210) (cwV 1 hts gX7_order_X6_become rfl rfl rfl ⟨rfl, dk_X6_become⟩ ⟨Nat.le_of_ble_eq_true rfl, Nat.le_of_ble_eq_true rfl⟩) hE hAB hP hD hS [9, 10, 11, 12, 13, 14, 15, 16, 1, 2, 3, 4, 5, 6, 7, 8] (by decide +kernel) (cut_cut (cW_c1 G a S) (cW_c0 G a S)) (va_recv hE.1 hP (ci := 3) (q0 := 9) rfl (cW_o1 G a S)) (fst_fst (vW_f G (sh 9 a) (S 1) q1210) (vW_f G (sh 1 a) (S 0) (S 0))) ((set_set (i1 := [9, 10, 11, 12, 13, 14, 15, 16]) (W1 := (vW G (sh 9 a) q1210)) (vW_n G (sh 9 a) q1210).symm).trans ((congrArg (fun z => setAll z _ _) (cW_i0 G a S)).trans (cW_s1 G a S q1210))) rfl rfl hl.1 rfl (Nat.le_of_ble_eq_true rfl) dX7_order_22 ⟨Nat.le_refl _, Nat.le_refl _⟩ (fun H locs hP hD hS => ?_)
    refine lv_aload_n hx hb dX7_order_25 rfl (lv_at hl 0 rfl) ?_
    refine fc_get (v := .ref (a 9)) (ci := 4) (C := RX7) (T := TX7) (N := 8) hx hb hwX7 hown hE hP 0 (cW_o G a (sS S 1 q1210)) rfl 1 (by decide) hk_fieldLink_RX7_16__BrideNotKnown___thought___LBrideNotKnown_Valley__ (fun _ h => h) rfl dX7_order_26 ?_
    refine lv_iload_n hx hb dX7_order_29 rfl (lv_at hl 1 rfl) ?_
    obtain ⟨q1211, hq1211, hf⟩ := bnd hf
    refine fc_callV (Wa' := (cW G a (sS (sS S 1 q1210) 1 q1211.2))) (st1 := [.int q1211.1]) (As := [.int x1]) (rest := []) hCF (k_X6_wedAll (sh 9 a) q1210 x1 hq1211) (cwV 1 hts gX7_order_X6_wedAll rfl rfl rfl ⟨rfl, dk_X6_wedAll⟩ ⟨Nat.le_of_ble_eq_true rfl, Nat.le_of_ble_eq_true rfl⟩) hE hAB hP hD hS [9, 10, 11, 12, 13, 14, 15, 16] cW_d1 (cW_c1 G a (sS S 1 q1210)) (va_recv hE.1 hP (ci := 3) (q0 := 9) rfl (cW_o1 G a (sS S 1 q1210))) (vW_f G (sh 9 a) q1210 q1211.2) (cW_s1 G a (sS S 1 q1210) q1211.2) rfl rfl hl.1 rfl (Nat.le_of_ble_eq_true rfl) dX7_order_30 ⟨Nat.le_refl _, Nat.le_refl _⟩ (fun H locs hP hD hS => ?_)
    exact fc_reti hx hb hr hlocks hP hS dX7_order_33 (i2a hf) (congrArg (fun z => (cW G a z)) (i2b hf))
  · have hf := ifF hf c1209
    refine lv_aload_n hx hb dX7_order_7 rfl (lv_at hl 0 rfl) ?_
    refine lv_bipush (v := (-2 : Int32)) hx hb dX7_order_8 (by decide) ?_
    obtain ⟨q1212, hq1212, hf⟩ := bnd hf
    refine fc_callV (Wa' := (cW G a q1212.2)) (st1 := [.int q1212.1]) (As := [.int (-2 : Int32)]) (rest := []) hCF (k_X7_refuse a S (-2 : Int32) hq1212) (cwV 1 hts gX7_order_X7_refuse rfl rfl rfl ⟨rfl, dk_X7_refuse⟩ ⟨Nat.le_of_ble_eq_true rfl, Nat.le_of_ble_eq_true rfl⟩) hE hAB hP hD hS [0, 1, 2, 3, 4, 5, 6, 7, 8, 9, 10, 11, 12, 13, 14, 15, 16, 17, 18, 19, 20, 21, 22, 23, 24, 25, 26, 27, 28, 29, 30, 31] cW_d (cW_c G a S) (va_recv hE.1 hP (ci := 4) (q0 := 0) rfl (cW_o G a S)) (cW_f G a S q1212.2) (cW_s G a S q1212.2) rfl rfl hl.1 rfl (Nat.le_of_ble_eq_true rfl) dX7_order_10 ⟨Nat.le_refl _, Nat.le_refl _⟩ (fun H locs hP hD hS => ?_)
    exact fc_reti hx hb hr hlocks hP hS dX7_order_13 (i2a hf) (congrArg (fun z => (cW G a z)) (i2b hf))
theorem dk_X7_pairs : yX7_pairs.cls ≠ "java/lang/invoke/MethodHandle" ∧ yX7_pairs.cls ≠ "java/lang/invoke/VarHandle" ∧ (parseMethodDescriptor yX7_pairs.desc).map (fun d => d.parameters.length) = some 1 := by decide +kernel
theorem iu_X7_pairs_X7 : ∀ w ∈ u_ws RX7 TX7 8, w ∈ wsX7_pairs := by decide +kernel
set_option maxHeartbeats 4000000 in
set_option maxRecDepth 100000 in
theorem k_X7_pairs {l : Launch} {G : Gx} (a : Nat → Nat) (S : (Nat → St)) (x1 : Int32) {r : Int32} {S' : (Nat → St)} (hf : f_X7_pairs S x1 = some (r, S')) : FC l G yX7_pairs wsX7_pairs ({ frames := 6, cells := 0, slots := 0, locals := 144 } : Room) [.ref (a 0), .int x1] (cW G a S) (cW G a S') (some (.int r)) := by
  refine fc_head (cc := cX7_pairs) (maxL := 2) (ret := (some .int)) (C := RX7) (lv := [(0, .ref (a 0)), (1, .int x1)]) (by decide) rfl rfl (Nat.le_of_ble_eq_true rfl) rfl ?_
  intro p e s m below meth c ls A hx hb hr hml hown hts hlocks hE hP hD hAB hS hl
  have hCF : CallFix p m c cX7_pairs 2 s ([.ref (a 0), .int x1] : List Value).toArray wsX7_pairs RX7 := ⟨hx, hb, hml, hown, hts⟩
  have hwX7 : ∀ w ∈ u_ws RX7 TX7 8, w.before ([.ref (a 0), .int x1] : List Value).toArray s = true := fun w h => hts w (iu_X7_pairs_X7 w h)
  have hk_fieldLink_RX7_39__BrideNotKnown___matching___LBrideNotKnown_Pairs__ := hts (.fieldLink RX7 39 "BrideNotKnown" "matching" "LBrideNotKnown$Pairs;") (List.mem_of_getElem? (i := 2) rfl)
  have hk_fieldLink_RX7_10__BrideNotKnown___now___LBrideNotKnown_Valley__ := hts (.fieldLink RX7 10 "BrideNotKnown" "now" "LBrideNotKnown$Valley;") (List.mem_of_getElem? (i := 1) rfl)
  rw [f_X7_pairs] at hf
  refine lv_iload_n hx hb dX7_pairs_0 rfl (lv_at hl 1 rfl) ?_
  refine lv_iconst (v := (-1 : Int32)) hx hb dX7_pairs_1 (by decide) ?_
  have J22_1218 : ∀ (H : Heap) (locs : List Loc) (ls : Array Slot), va_P (gD G) vwCl (cW G a S) H → va_D A (cW G a S) → va_S A s.heap H locs → lv_has ls 2 [(0, .ref (a 0)), (1, .int x1)] → f_X7_pairs_22 S x1 = some (r, S') → W p l e (headSpec wsX7_pairs ({ frames := 6, cells := 0, slots := 0, locals := 144 } : Room)).room s m ([.ref (a 0), .int x1] : List Value).toArray below meth c H locs 0 0 (MQ below (FQ G A (cW G a S') (some (.int r))) ([.ref (a 0), .int x1] : List Value).toArray s 0 0 A) (F0 m 22 ls []) := by
    intro H locs ls hP hD hS hl hf
    rw [f_X7_pairs_22] at hf
    refine lv_aload_n hx hb dX7_pairs_22 rfl (lv_at hl 0 rfl) ?_
    refine fc_get (v := .ref (a 29)) (ci := 4) (C := RX7) (T := TX7) (N := 8) hx hb hwX7 hown hE hP 0 (cW_o G a S) rfl 6 (by decide) hk_fieldLink_RX7_39__BrideNotKnown___matching___LBrideNotKnown_Pairs__ (fun _ h => h) rfl dX7_pairs_23 ?_
    refine lv_aload_n hx hb dX7_pairs_26 rfl (lv_at hl 0 rfl) ?_
    refine fc_get (v := .ref (a 1)) (ci := 4) (C := RX7) (T := TX7) (N := 8) hx hb hwX7 hown hE hP 0 (cW_o G a S) rfl 0 (by decide) hk_fieldLink_RX7_10__BrideNotKnown___now___LBrideNotKnown_Valley__ (fun _ h => h) rfl dX7_pairs_27 ?_
    obtain ⟨q1219, hq1219, hf⟩ := bnd hf
    refine fc_callV (Wa' := (cW G a (sS S 5 q1219))) (st1 := []) (As := [.ref (a 1)]) (rest := []) hCF (k_X3_look (sh 29 a) (S 5) (sh 1 a) (S 0) hq1219) (cwV 1 hts gX7_pairs_X3_look rfl rfl rfl ⟨rfl, dk_X3_look⟩ ⟨Nat.le_of_ble_eq_true rfl, Nat.le_of_ble_eq_true rfl⟩) hE hAB hP hD hS [29, 30, 1, 2, 3, 4, 5, 6, 7, 8] (by decide +kernel) (cut_cut (cW_c5 G a S) (cW_c0 G a S)) (va_recv hE.1 hP (ci := 0) (q0 := 29) rfl (cW_o5 G a S)) (fst_fst (pW_f G (sh 29 a) (S 5) q1219) (vW_f G (sh 1 a) (S 0) (S 0))) ((set_set (i1 := [29, 30]) (W1 := (pW G (sh 29 a) q1219)) (pW_n G (sh 29 a) q1219).symm).trans ((congrArg (fun z => setAll z _ _) (cW_i0 G a S)).trans (cW_s5 G a S q1219))) rfl rfl hl.1 rfl (Nat.le_of_ble_eq_true rfl) dX7_pairs_30 ⟨Nat.le_refl _, Nat.le_refl _⟩ (fun H locs hP hD hS => ?_)
    refine lv_iload_n hx hb dX7_pairs_33 rfl (lv_at hl 1 rfl) ?_
    refine lv_iconst (v := (-1 : Int32)) hx hb dX7_pairs_34 (by decide) ?_
    refine lv_icmp_ne (tgt := 50) hx hb dX7_pairs_35 (by decide) (fun c1220 => ?_) (fun c1220 => ?_)
    · have hf := ifF hf c1220
      refine lv_aload_n hx hb dX7_pairs_50 rfl (lv_at hl 0 rfl) ?_
      refine fc_get (v := .ref (a 29)) (ci := 4) (C := RX7) (T := TX7) (N := 8) hx hb hwX7 hown hE hP 0 (cW_o G a (sS S 5 q1219)) rfl 6 (by decide) hk_fieldLink_RX7_39__BrideNotKnown___matching___LBrideNotKnown_Pairs__ (fun _ h => h) rfl dX7_pairs_51 ?_
      refine lv_iload_n hx hb dX7_pairs_54 rfl (lv_at hl 1 rfl) ?_
      obtain ⟨q1221, hq1221, hf⟩ := bnd hf
      refine fc_callV (Wa' := (cW G a (sS S 5 q1219))) (st1 := [.int q1221]) (As := [.int x1]) (rest := []) hCF (k_X3_partnerOf (sh 29 a) q1219 x1 hq1221) (cwV 1 hts gX7_pairs_X3_partnerOf rfl rfl rfl ⟨rfl, dk_X3_partnerOf⟩ ⟨Nat.le_of_ble_eq_true rfl, Nat.le_of_ble_eq_true rfl⟩) hE hAB hP hD hS [29, 30] cW_d5 (cW_c5 G a (sS S 5 q1219)) (va_recv hE.1 hP (ci := 0) (q0 := 29) rfl (cW_o5 G a (sS S 5 q1219))) (pW_f G (sh 29 a) q1219 q1219) (cW_i5 G a (sS S 5 q1219)) rfl rfl hl.1 rfl (Nat.le_of_ble_eq_true rfl) dX7_pairs_55 ⟨Nat.le_refl _, Nat.le_refl _⟩ (fun H locs hP hD hS => ?_)
      exact fc_reti hx hb hr hlocks hP hS dX7_pairs_58 (i2a hf) (congrArg (fun z => (cW G a z)) (i2b hf))
    · have hf := ifT hf c1220
      refine lv_aload_n hx hb dX7_pairs_38 rfl (lv_at hl 0 rfl) ?_
      refine fc_get (v := .ref (a 29)) (ci := 4) (C := RX7) (T := TX7) (N := 8) hx hb hwX7 hown hE hP 0 (cW_o G a (sS S 5 q1219)) rfl 6 (by decide) hk_fieldLink_RX7_39__BrideNotKnown___matching___LBrideNotKnown_Pairs__ (fun _ h => h) rfl dX7_pairs_39 ?_
      refine lv_iconst (v := (0 : Int32)) hx hb dX7_pairs_42 (by decide) ?_
      refine lv_iconst (v := (0 : Int32)) hx hb dX7_pairs_43 (by decide) ?_
      obtain ⟨q1222, hq1222, hf⟩ := bnd hf
      refine fc_callV (Wa' := (cW G a (sS S 5 q1219))) (st1 := [.int q1222]) (As := [.int (0 : Int32), .int (0 : Int32)]) (rest := []) hCF (k_X3_most (sh 29 a) q1219 (0 : Int32) (0 : Int32) hq1222) (cwV 2 hts gX7_pairs_X3_most rfl rfl rfl ⟨rfl, dk_X3_most⟩ ⟨Nat.le_of_ble_eq_true rfl, Nat.le_of_ble_eq_true rfl⟩) hE hAB hP hD hS [29, 30] cW_d5 (cW_c5 G a (sS S 5 q1219)) (va_recv hE.1 hP (ci := 0) (q0 := 29) rfl (cW_o5 G a (sS S 5 q1219))) (pW_f G (sh 29 a) q1219 q1219) (cW_i5 G a (sS S 5 q1219)) rfl rfl hl.1 rfl (Nat.le_of_ble_eq_true rfl) dX7_pairs_44 ⟨Nat.le_refl _, Nat.le_refl _⟩ (fun H locs hP hD hS => ?_)
      refine lv_goto (tgt := 58) hx hb dX7_pairs_47 (by decide) ?_
      exact fc_reti hx hb hr hlocks hP hS dX7_pairs_58 (i2a hf) (congrArg (fun z => (cW G a z)) (i2b hf))
  refine lv_icmp_eq (tgt := 22) hx hb dX7_pairs_2 (by decide) (fun c1223 => ?_) (fun c1223 => ?_)
  · have hf := ifT hf c1223
    exact J22_1218 _ _ _ hP hD hS (lv_sub hl [0, 1] rfl) hf
  · have hf := ifF hf c1223
    refine lv_aload_n hx hb dX7_pairs_5 rfl (lv_at hl 0 rfl) ?_
    refine fc_get (v := .ref (a 1)) (ci := 4) (C := RX7) (T := TX7) (N := 8) hx hb hwX7 hown hE hP 0 (cW_o G a S) rfl 0 (by decide) hk_fieldLink_RX7_10__BrideNotKnown___now___LBrideNotKnown_Valley__ (fun _ h => h) rfl dX7_pairs_6 ?_
    refine lv_iload_n hx hb dX7_pairs_9 rfl (lv_at hl 1 rfl) ?_
    obtain ⟨q1224, hq1224, hf⟩ := bnd hf
    refine fc_callV (Wa' := (cW G a S)) (st1 := [.int q1224]) (As := [.int x1]) (rest := []) hCF (k_X6_hasGroom (sh 1 a) (S 0) x1 hq1224) (cwV 1 hts gX7_pairs_X6_hasGroom rfl rfl rfl ⟨rfl, dk_X6_hasGroom⟩ ⟨Nat.le_of_ble_eq_true rfl, Nat.le_of_ble_eq_true rfl⟩) hE hAB hP hD hS [1, 2, 3, 4, 5, 6, 7, 8] cW_d0 (cW_c0 G a S) (va_recv hE.1 hP (ci := 3) (q0 := 1) rfl (cW_o0 G a S)) (vW_f G (sh 1 a) (S 0) (S 0)) (cW_i0 G a S) rfl rfl hl.1 rfl (Nat.le_of_ble_eq_true rfl) dX7_pairs_10 ⟨Nat.le_refl _, Nat.le_refl _⟩ (fun H locs hP hD hS => ?_)
    refine lv_if_ne (tgt := 22) hx hb dX7_pairs_13 (by decide) (fun c1225 => ?_) (fun c1225 => ?_)
    · have hf := ifF hf c1225
      exact J22_1218 _ _ _ hP hD hS (lv_sub hl [0, 1] rfl) hf
    · have hf := ifT hf c1225
      refine lv_aload_n hx hb dX7_pairs_16 rfl (lv_at hl 0 rfl) ?_
      refine lv_iconst (v := (-1 : Int32)) hx hb dX7_pairs_17 (by decide) ?_
      obtain ⟨q1226, hq1226, hf⟩ := bnd hf
      refine fc_callV (Wa' := (cW G a q1226.2)) (st1 := [.int q1226.1]) (As := [.int (-1 : Int32)]) (rest := []) hCF (k_X7_refuse a S (-1 : Int32) hq1226) (cwV 1 hts gX7_pairs_X7_refuse rfl rfl rfl ⟨rfl, dk_X7_refuse⟩ ⟨Nat.le_of_ble_eq_true rfl, Nat.le_of_ble_eq_true rfl⟩) hE hAB hP hD hS [0, 1, 2, 3, 4, 5, 6, 7, 8, 9, 10, 11, 12, 13, 14, 15, 16, 17, 18, 19, 20, 21, 22, 23, 24, 25, 26, 27, 28, 29, 30, 31] cW_d (cW_c G a S) (va_recv hE.1 hP (ci := 4) (q0 := 0) rfl (cW_o G a S)) (cW_f G a S q1226.2) (cW_s G a S q1226.2) rfl rfl hl.1 rfl (Nat.le_of_ble_eq_true rfl) dX7_pairs_18 ⟨Nat.le_refl _, Nat.le_refl _⟩ (fun H locs hP hD hS => ?_)
      exact fc_reti hx hb hr hlocks hP hS dX7_pairs_21 (i2a hf) (congrArg (fun z => (cW G a z)) (i2b hf))
theorem dk_X7_rightly : yX7_rightly.cls ≠ "java/lang/invoke/MethodHandle" ∧ yX7_rightly.cls ≠ "java/lang/invoke/VarHandle" ∧ (parseMethodDescriptor yX7_rightly.desc).map (fun d => d.parameters.length) = some 1 := by decide +kernel
theorem iu_X7_rightly_X7 : ∀ w ∈ u_ws RX7 TX7 8, w ∈ wsX7_rightly := by decide +kernel
set_option maxHeartbeats 4000000 in
set_option maxRecDepth 100000 in
theorem k_X7_rightly {l : Launch} {G : Gx} (a : Nat → Nat) (S : (Nat → St)) (x1 : Int32) {r : Int32} {S' : (Nat → St)} (hf : f_X7_rightly S x1 = some (r, S')) : FC l G yX7_rightly wsX7_rightly ({ frames := 2, cells := 0, slots := 0, locals := 44 } : Room) [.ref (a 0), .int x1] (cW G a S) (cW G a S') (some (.int r)) := by
  refine fc_head (cc := cX7_rightly) (maxL := 2) (ret := (some .int)) (C := RX7) (lv := [(0, .ref (a 0)), (1, .int x1)]) (by decide) rfl rfl (Nat.le_of_ble_eq_true rfl) rfl ?_
  intro p e s m below meth c ls A hx hb hr hml hown hts hlocks hE hP hD hAB hS hl
  have hCF : CallFix p m c cX7_rightly 2 s ([.ref (a 0), .int x1] : List Value).toArray wsX7_rightly RX7 := ⟨hx, hb, hml, hown, hts⟩
  have hwX7 : ∀ w ∈ u_ws RX7 TX7 8, w.before ([.ref (a 0), .int x1] : List Value).toArray s = true := fun w h => hts w (iu_X7_rightly_X7 w h)
  have hk_fieldLink_RX7_10__BrideNotKnown___now___LBrideNotKnown_Valley__ := hts (.fieldLink RX7 10 "BrideNotKnown" "now" "LBrideNotKnown$Valley;") (List.mem_of_getElem? (i := 1) rfl)
  have hk_fieldLink_RX7_32__BrideNotKnown___numbers___LBrideNotKnown_Row__ := hts (.fieldLink RX7 32 "BrideNotKnown" "numbers" "LBrideNotKnown$Row;") (List.mem_of_getElem? (i := 2) rfl)
  rw [f_X7_rightly] at hf
  refine lv_aload_n hx hb dX7_rightly_0 rfl (lv_at hl 0 rfl) ?_
  refine fc_get (v := .ref (a 1)) (ci := 4) (C := RX7) (T := TX7) (N := 8) hx hb hwX7 hown hE hP 0 (cW_o G a S) rfl 0 (by decide) hk_fieldLink_RX7_10__BrideNotKnown___now___LBrideNotKnown_Valley__ (fun _ h => h) rfl dX7_rightly_1 ?_
  refine lv_iload_n hx hb dX7_rightly_4 rfl (lv_at hl 1 rfl) ?_
  obtain ⟨q1231, hq1231, hf⟩ := bnd hf
  refine fc_callV (Wa' := (cW G a S)) (st1 := [.int q1231]) (As := [.int x1]) (rest := []) hCF (k_X6_hasBride (sh 1 a) (S 0) x1 hq1231) (cwV 1 hts gX7_rightly_X6_hasBride rfl rfl rfl ⟨rfl, dk_X6_hasBride⟩ ⟨Nat.le_of_ble_eq_true rfl, Nat.le_of_ble_eq_true rfl⟩) hE hAB hP hD hS [1, 2, 3, 4, 5, 6, 7, 8] cW_d0 (cW_c0 G a S) (va_recv hE.1 hP (ci := 3) (q0 := 1) rfl (cW_o0 G a S)) (vW_f G (sh 1 a) (S 0) (S 0)) (cW_i0 G a S) rfl rfl hl.1 rfl (Nat.le_of_ble_eq_true rfl) dX7_rightly_5 ⟨Nat.le_refl _, Nat.le_refl _⟩ (fun H locs hP hD hS => ?_)
  refine lv_if_ne (tgt := 17) hx hb dX7_rightly_8 (by decide) (fun c1232 => ?_) (fun c1232 => ?_)
  · have hf := ifF hf c1232
    refine lv_aload_n hx hb dX7_rightly_17 rfl (lv_at hl 0 rfl) ?_
    refine fc_get (v := .ref (a 27)) (ci := 4) (C := RX7) (T := TX7) (N := 8) hx hb hwX7 hown hE hP 0 (cW_o G a S) rfl 5 (by decide) hk_fieldLink_RX7_32__BrideNotKnown___numbers___LBrideNotKnown_Row__ (fun _ h => h) rfl dX7_rightly_18 ?_
    refine lv_aload_n hx hb dX7_rightly_21 rfl (lv_at hl 0 rfl) ?_
    refine fc_get (v := .ref (a 1)) (ci := 4) (C := RX7) (T := TX7) (N := 8) hx hb hwX7 hown hE hP 0 (cW_o G a S) rfl 0 (by decide) hk_fieldLink_RX7_10__BrideNotKnown___now___LBrideNotKnown_Valley__ (fun _ h => h) rfl dX7_rightly_22 ?_
    refine lv_iload_n hx hb dX7_rightly_25 rfl (lv_at hl 1 rfl) ?_
    obtain ⟨q1233, hq1233, hf⟩ := bnd hf
    refine fc_callV (Wa' := (cW G a S)) (st1 := [.int q1233, .ref (a 27)]) (As := [.int x1]) (rest := [.ref (a 27)]) hCF (k_X6_footOf (sh 1 a) (S 0) x1 hq1233) (cwV 1 hts gX7_rightly_X6_footOf rfl rfl rfl ⟨rfl, dk_X6_footOf⟩ ⟨Nat.le_of_ble_eq_true rfl, Nat.le_of_ble_eq_true rfl⟩) hE hAB hP hD hS [1, 2, 3, 4, 5, 6, 7, 8] cW_d0 (cW_c0 G a S) (va_recv hE.1 hP (ci := 3) (q0 := 1) rfl (cW_o0 G a S)) (vW_f G (sh 1 a) (S 0) (S 0)) (cW_i0 G a S) rfl rfl hl.1 rfl (Nat.le_of_ble_eq_true rfl) dX7_rightly_26 ⟨Nat.le_refl _, Nat.le_refl _⟩ (fun H locs hP hD hS => ?_)
    obtain ⟨q1234, hq1234, hf⟩ := bnd hf
    refine fc_callV (Wa' := (cW G a S)) (st1 := [.int q1234]) (As := [.int q1233]) (rest := []) hCF (k_X4_howManyToesOf (sh 27 a) (S 4) q1233 hq1234) (cwV 1 hts gX7_rightly_X4_howManyToesOf rfl rfl rfl ⟨rfl, dk_X4_howManyToesOf⟩ ⟨Nat.le_of_ble_eq_true rfl, Nat.le_of_ble_eq_true rfl⟩) hE hAB hP hD hS [27, 28] cW_d4 (cW_c4 G a S) (va_recv hE.1 hP (ci := 1) (q0 := 27) rfl (cW_o4 G a S)) (rW_f G (sh 27 a) (S 4) (S 4)) (cW_i4 G a S) rfl rfl hl.1 rfl (Nat.le_of_ble_eq_true rfl) dX7_rightly_29 ⟨Nat.le_refl _, Nat.le_refl _⟩ (fun H locs hP hD hS => ?_)
    exact fc_reti hx hb hr hlocks hP hS dX7_rightly_32 (i2a hf) (congrArg (fun z => (cW G a z)) (i2b hf))
  · have hf := ifT hf c1232
    refine lv_aload_n hx hb dX7_rightly_11 rfl (lv_at hl 0 rfl) ?_
    refine lv_iconst (v := (-1 : Int32)) hx hb dX7_rightly_12 (by decide) ?_
    obtain ⟨q1235, hq1235, hf⟩ := bnd hf
    refine fc_callV (Wa' := (cW G a q1235.2)) (st1 := [.int q1235.1]) (As := [.int (-1 : Int32)]) (rest := []) hCF (k_X7_refuse a S (-1 : Int32) hq1235) (cwV 1 hts gX7_rightly_X7_refuse rfl rfl rfl ⟨rfl, dk_X7_refuse⟩ ⟨Nat.le_of_ble_eq_true rfl, Nat.le_of_ble_eq_true rfl⟩) hE hAB hP hD hS [0, 1, 2, 3, 4, 5, 6, 7, 8, 9, 10, 11, 12, 13, 14, 15, 16, 17, 18, 19, 20, 21, 22, 23, 24, 25, 26, 27, 28, 29, 30, 31] cW_d (cW_c G a S) (va_recv hE.1 hP (ci := 4) (q0 := 0) rfl (cW_o G a S)) (cW_f G a S q1235.2) (cW_s G a S q1235.2) rfl rfl hl.1 rfl (Nat.le_of_ble_eq_true rfl) dX7_rightly_13 ⟨Nat.le_refl _, Nat.le_refl _⟩ (fun H locs hP hD hS => ?_)
    exact fc_reti hx hb hr hlocks hP hS dX7_rightly_16 (i2a hf) (congrArg (fun z => (cW G a z)) (i2b hf))
theorem dk_X7_row : yX7_row.cls ≠ "java/lang/invoke/MethodHandle" ∧ yX7_row.cls ≠ "java/lang/invoke/VarHandle" ∧ (parseMethodDescriptor yX7_row.desc).map (fun d => d.parameters.length) = some 1 := by decide +kernel
theorem iu_X7_row_X7 : ∀ w ∈ u_ws RX7 TX7 8, w ∈ wsX7_row := by decide +kernel
set_option maxHeartbeats 4000000 in
set_option maxRecDepth 100000 in
theorem k_X7_row {l : Launch} {G : Gx} (a : Nat → Nat) (S : (Nat → St)) (x1 : Int32) {r : Int32} {S' : (Nat → St)} (hf : f_X7_row S x1 = some (r, S')) : FC l G yX7_row wsX7_row ({ frames := 2, cells := 0, slots := 0, locals := 43 } : Room) [.ref (a 0), .int x1] (cW G a S) (cW G a S') (some (.int r)) := by
  refine fc_head (cc := cX7_row) (maxL := 3) (ret := (some .int)) (C := RX7) (lv := [(0, .ref (a 0)), (1, .int x1)]) (by decide) rfl rfl (Nat.le_of_ble_eq_true rfl) rfl ?_
  intro p e s m below meth c ls A hx hb hr hml hown hts hlocks hE hP hD hAB hS hl
  have hCF : CallFix p m c cX7_row 3 s ([.ref (a 0), .int x1] : List Value).toArray wsX7_row RX7 := ⟨hx, hb, hml, hown, hts⟩
  have hwX7 : ∀ w ∈ u_ws RX7 TX7 8, w.before ([.ref (a 0), .int x1] : List Value).toArray s = true := fun w h => hts w (iu_X7_row_X7 w h)
  have hk_fieldLink_RX7_32__BrideNotKnown___numbers___LBrideNotKnown_Row__ := hts (.fieldLink RX7 32 "BrideNotKnown" "numbers" "LBrideNotKnown$Row;") (List.mem_of_getElem? (i := 1) rfl)
  rw [f_X7_row] at hf
  refine lv_iload_n hx hb dX7_row_0 rfl (lv_at hl 1 rfl) ?_
  refine lv_iconst (v := (0 : Int32)) hx hb dX7_row_1 (by decide) ?_
  refine lv_bipush (v := (99 : Int32)) hx hb dX7_row_2 (by decide) ?_
  obtain ⟨q1241, hq1241, hf⟩ := bnd hf
  refine fc_callS (Wa' := (cW G a S)) (st1 := [.int q1241]) (As := [.int x1, .int (0 : Int32), .int (99 : Int32)]) (rest := []) hCF (k_X7_outside x1 (0 : Int32) (99 : Int32) hq1241) (va_cwS 3 hts gX7_row_X7_outside rfl rfl rfl dk_X7_outside ⟨Nat.le_of_ble_eq_true rfl, Nat.le_of_ble_eq_true rfl⟩) hE hAB hP hD hS [] rfl rfl rfl rfl rfl rfl hl.1 rfl (Nat.le_of_ble_eq_true rfl) dX7_row_4 ⟨Nat.le_refl _, Nat.le_refl _⟩ (fun H locs hP hD hS => ?_)
  refine lv_istore_n (lv' := [(2, .int q1241), (0, .ref (a 0)), (1, .int x1)]) hx hb dX7_row_7 rfl hl (by decide) rfl (fun ls hl => ?_)
  refine lv_iload_n hx hb dX7_row_8 rfl (lv_at hl 0 rfl) ?_
  refine lv_if_eq (tgt := 18) hx hb dX7_row_9 (by decide) (fun c1242 => ?_) (fun c1242 => ?_)
  · have hf := ifT hf c1242
    refine lv_aload_n hx hb dX7_row_18 rfl (lv_at hl 1 rfl) ?_
    refine fc_get (v := .ref (a 27)) (ci := 4) (C := RX7) (T := TX7) (N := 8) hx hb hwX7 hown hE hP 0 (cW_o G a S) rfl 5 (by decide) hk_fieldLink_RX7_32__BrideNotKnown___numbers___LBrideNotKnown_Row__ (fun _ h => h) rfl dX7_row_19 ?_
    obtain ⟨q1243, hq1243, hf⟩ := bnd hf
    refine fc_callV (Wa' := (cW G a S)) (st1 := [.int q1243]) (As := []) (rest := []) hCF (k_X4_isFull (sh 27 a) (S 4) hq1243) (cwV 0 hts gX7_row_X4_isFull rfl rfl rfl ⟨rfl, dk_X4_isFull⟩ ⟨Nat.le_of_ble_eq_true rfl, Nat.le_of_ble_eq_true rfl⟩) hE hAB hP hD hS [27, 28] cW_d4 (cW_c4 G a S) (va_recv hE.1 hP (ci := 1) (q0 := 27) rfl (cW_o4 G a S)) (rW_f G (sh 27 a) (S 4) (S 4)) (cW_i4 G a S) rfl rfl hl.1 rfl (Nat.le_of_ble_eq_true rfl) dX7_row_22 ⟨Nat.le_refl _, Nat.le_refl _⟩ (fun H locs hP hD hS => ?_)
    refine lv_if_eq (tgt := 35) hx hb dX7_row_25 (by decide) (fun c1244 => ?_) (fun c1244 => ?_)
    · have hf := ifT hf c1244
      refine lv_aload_n hx hb dX7_row_35 rfl (lv_at hl 1 rfl) ?_
      refine fc_get (v := .ref (a 27)) (ci := 4) (C := RX7) (T := TX7) (N := 8) hx hb hwX7 hown hE hP 0 (cW_o G a S) rfl 5 (by decide) hk_fieldLink_RX7_32__BrideNotKnown___numbers___LBrideNotKnown_Row__ (fun _ h => h) rfl dX7_row_36 ?_
      refine lv_iload_n hx hb dX7_row_39 rfl (lv_at hl 2 rfl) ?_
      obtain ⟨q1245, hq1245, hf⟩ := bnd hf
      refine fc_callV (Wa' := (cW G a (sS S 4 q1245.2))) (st1 := [.int q1245.1]) (As := [.int x1]) (rest := []) hCF (k_X4_add (sh 27 a) (S 4) x1 hq1245) (cwV 1 hts gX7_row_X4_add rfl rfl rfl ⟨rfl, dk_X4_add⟩ ⟨Nat.le_of_ble_eq_true rfl, Nat.le_of_ble_eq_true rfl⟩) hE hAB hP hD hS [27, 28] cW_d4 (cW_c4 G a S) (va_recv hE.1 hP (ci := 1) (q0 := 27) rfl (cW_o4 G a S)) (rW_f G (sh 27 a) (S 4) q1245.2) (cW_s4 G a S q1245.2) rfl rfl hl.1 rfl (Nat.le_of_ble_eq_true rfl) dX7_row_40 ⟨Nat.le_refl _, Nat.le_refl _⟩ (fun H locs hP hD hS => ?_)
      exact fc_reti hx hb hr hlocks hP hS dX7_row_43 (i2a hf) (congrArg (fun z => (cW G a z)) (i2b hf))
    · have hf := ifF hf c1244
      refine lv_aload_n hx hb dX7_row_28 rfl (lv_at hl 1 rfl) ?_
      refine lv_bipush (v := (-6 : Int32)) hx hb dX7_row_29 (by decide) ?_
      obtain ⟨q1246, hq1246, hf⟩ := bnd hf
      refine fc_callV (Wa' := (cW G a q1246.2)) (st1 := [.int q1246.1]) (As := [.int (-6 : Int32)]) (rest := []) hCF (k_X7_refuse a S (-6 : Int32) hq1246) (cwV 1 hts gX7_row_X7_refuse rfl rfl rfl ⟨rfl, dk_X7_refuse⟩ ⟨Nat.le_of_ble_eq_true rfl, Nat.le_of_ble_eq_true rfl⟩) hE hAB hP hD hS [0, 1, 2, 3, 4, 5, 6, 7, 8, 9, 10, 11, 12, 13, 14, 15, 16, 17, 18, 19, 20, 21, 22, 23, 24, 25, 26, 27, 28, 29, 30, 31] cW_d (cW_c G a S) (va_recv hE.1 hP (ci := 4) (q0 := 0) rfl (cW_o G a S)) (cW_f G a S q1246.2) (cW_s G a S q1246.2) rfl rfl hl.1 rfl (Nat.le_of_ble_eq_true rfl) dX7_row_31 ⟨Nat.le_refl _, Nat.le_refl _⟩ (fun H locs hP hD hS => ?_)
      exact fc_reti hx hb hr hlocks hP hS dX7_row_34 (i2a hf) (congrArg (fun z => (cW G a z)) (i2b hf))
  · have hf := ifF hf c1242
    refine lv_aload_n hx hb dX7_row_12 rfl (lv_at hl 1 rfl) ?_
    refine lv_iload_n hx hb dX7_row_13 rfl (lv_at hl 0 rfl) ?_
    obtain ⟨q1247, hq1247, hf⟩ := bnd hf
    refine fc_callV (Wa' := (cW G a q1247.2)) (st1 := [.int q1247.1]) (As := [.int q1241]) (rest := []) hCF (k_X7_refuse a S q1241 hq1247) (cwV 1 hts gX7_row_X7_refuse rfl rfl rfl ⟨rfl, dk_X7_refuse⟩ ⟨Nat.le_of_ble_eq_true rfl, Nat.le_of_ble_eq_true rfl⟩) hE hAB hP hD hS [0, 1, 2, 3, 4, 5, 6, 7, 8, 9, 10, 11, 12, 13, 14, 15, 16, 17, 18, 19, 20, 21, 22, 23, 24, 25, 26, 27, 28, 29, 30, 31] cW_d (cW_c G a S) (va_recv hE.1 hP (ci := 4) (q0 := 0) rfl (cW_o G a S)) (cW_f G a S q1247.2) (cW_s G a S q1247.2) rfl rfl hl.1 rfl (Nat.le_of_ble_eq_true rfl) dX7_row_14 ⟨Nat.le_refl _, Nat.le_refl _⟩ (fun H locs hP hD hS => ?_)
    exact fc_reti hx hb hr hlocks hP hS dX7_row_17 (i2a hf) (congrArg (fun z => (cW G a z)) (i2b hf))
theorem dk_X7_sees : yX7_sees.cls ≠ "java/lang/invoke/MethodHandle" ∧ yX7_sees.cls ≠ "java/lang/invoke/VarHandle" ∧ (parseMethodDescriptor yX7_sees.desc).map (fun d => d.parameters.length) = some 0 := by decide +kernel
theorem iu_X7_sees_X7 : ∀ w ∈ u_ws RX7 TX7 8, w ∈ wsX7_sees := by decide +kernel
set_option maxHeartbeats 4000000 in
set_option maxRecDepth 100000 in
theorem k_X7_sees {l : Launch} {G : Gx} (a : Nat → Nat) (S : (Nat → St)) {r : Int32} (hf : f_X7_sees S = some r) : FC l G yX7_sees wsX7_sees ({ frames := 6, cells := 0, slots := 0, locals := 141 } : Room) [.ref (a 0)] (cW G a S) (cW G a S) (some (.int r)) := by
  refine fc_head (cc := cX7_sees) (maxL := 1) (ret := (some .int)) (C := RX7) (lv := [(0, .ref (a 0))]) (by decide) rfl rfl (Nat.le_of_ble_eq_true rfl) rfl ?_
  intro p e s m below meth c ls A hx hb hr hml hown hts hlocks hE hP hD hAB hS hl
  have hCF : CallFix p m c cX7_sees 1 s ([.ref (a 0)] : List Value).toArray wsX7_sees RX7 := ⟨hx, hb, hml, hown, hts⟩
  have hwX7 : ∀ w ∈ u_ws RX7 TX7 8, w.before ([.ref (a 0)] : List Value).toArray s = true := fun w h => hts w (iu_X7_sees_X7 w h)
  have hk_fieldLink_RX7_10__BrideNotKnown___now___LBrideNotKnown_Valley__ := hts (.fieldLink RX7 10 "BrideNotKnown" "now" "LBrideNotKnown$Valley;") (List.mem_of_getElem? (i := 1) rfl)
  rw [f_X7_sees] at hf
  refine lv_aload_n hx hb dX7_sees_0 rfl (lv_at hl 0 rfl) ?_
  refine fc_get (v := .ref (a 1)) (ci := 4) (C := RX7) (T := TX7) (N := 8) hx hb hwX7 hown hE hP 0 (cW_o G a S) rfl 0 (by decide) hk_fieldLink_RX7_10__BrideNotKnown___now___LBrideNotKnown_Valley__ (fun _ h => h) rfl dX7_sees_1 ?_
  obtain ⟨q1249, hq1249, hf⟩ := bnd hf
  refine fc_callS (Wa' := (cW G a S)) (st1 := [.int q1249]) (As := [.ref (a 1)]) (rest := []) hCF (k_X1_fewestLooks (sh 1 a) (S 0) hq1249) (va_cwS 1 hts gX7_sees_X1_fewestLooks rfl rfl rfl dk_X1_fewestLooks ⟨Nat.le_of_ble_eq_true rfl, Nat.le_of_ble_eq_true rfl⟩) hE hAB hP hD hS [1, 2, 3, 4, 5, 6, 7, 8] cW_d0 (cW_c0 G a S) (vW_f G (sh 1 a) (S 0) (S 0)) (cW_i0 G a S) rfl rfl hl.1 rfl (Nat.le_of_ble_eq_true rfl) dX7_sees_4 ⟨Nat.le_refl _, Nat.le_refl _⟩ (fun H locs hP hD hS => ?_)
  exact fc_reti hx hb hr hlocks hP hS dX7_sees_7 (i1 hf) rfl
theorem dk_X7_showsThen : yX7_showsThen.cls ≠ "java/lang/invoke/MethodHandle" ∧ yX7_showsThen.cls ≠ "java/lang/invoke/VarHandle" ∧ (parseMethodDescriptor yX7_showsThen.desc).map (fun d => d.parameters.length) = some 2 := by decide +kernel
theorem iu_X7_showsThen_X7 : ∀ w ∈ u_ws RX7 TX7 8, w ∈ wsX7_showsThen := by decide +kernel
set_option maxHeartbeats 4000000 in
set_option maxRecDepth 100000 in
theorem k_X7_showsThen {l : Launch} {G : Gx} (a : Nat → Nat) (S : (Nat → St)) (x1 : Int32) (x2 : Int32) {r : Int32} {S' : (Nat → St)} (hf : f_X7_showsThen S x1 x2 = some (r, S')) : FC l G yX7_showsThen wsX7_showsThen ({ frames := 3, cells := 0, slots := 0, locals := 71 } : Room) [.ref (a 0), .int x1, .int x2] (cW G a S) (cW G a S') (some (.int r)) := by
  refine fc_head (cc := cX7_showsThen) (maxL := 4) (ret := (some .int)) (C := RX7) (lv := [(0, .ref (a 0)), (1, .int x1), (2, .int x2)]) (by decide) rfl rfl (Nat.le_of_ble_eq_true rfl) rfl ?_
  intro p e s m below meth c ls A hx hb hr hml hown hts hlocks hE hP hD hAB hS hl
  have hCF : CallFix p m c cX7_showsThen 4 s ([.ref (a 0), .int x1, .int x2] : List Value).toArray wsX7_showsThen RX7 := ⟨hx, hb, hml, hown, hts⟩
  have hwX7 : ∀ w ∈ u_ws RX7 TX7 8, w.before ([.ref (a 0), .int x1, .int x2] : List Value).toArray s = true := fun w h => hts w (iu_X7_showsThen_X7 w h)
  have hk_fieldLink_RX7_10__BrideNotKnown___now___LBrideNotKnown_Valley__ := hts (.fieldLink RX7 10 "BrideNotKnown" "now" "LBrideNotKnown$Valley;") (List.mem_of_getElem? (i := 1) rfl)
  rw [f_X7_showsThen] at hf
  refine lv_aload_n hx hb dX7_showsThen_0 rfl (lv_at hl 0 rfl) ?_
  refine fc_get (v := .ref (a 1)) (ci := 4) (C := RX7) (T := TX7) (N := 8) hx hb hwX7 hown hE hP 0 (cW_o G a S) rfl 0 (by decide) hk_fieldLink_RX7_10__BrideNotKnown___now___LBrideNotKnown_Valley__ (fun _ h => h) rfl dX7_showsThen_1 ?_
  refine lv_iload_n hx hb dX7_showsThen_4 rfl (lv_at hl 1 rfl) ?_
  obtain ⟨q1254, hq1254, hf⟩ := bnd hf
  refine fc_callV (Wa' := (cW G a S)) (st1 := [.int q1254]) (As := [.int x1]) (rest := []) hCF (k_X6_hasBride (sh 1 a) (S 0) x1 hq1254) (cwV 1 hts gX7_showsThen_X6_hasBride rfl rfl rfl ⟨rfl, dk_X6_hasBride⟩ ⟨Nat.le_of_ble_eq_true rfl, Nat.le_of_ble_eq_true rfl⟩) hE hAB hP hD hS [1, 2, 3, 4, 5, 6, 7, 8] cW_d0 (cW_c0 G a S) (va_recv hE.1 hP (ci := 3) (q0 := 1) rfl (cW_o0 G a S)) (vW_f G (sh 1 a) (S 0) (S 0)) (cW_i0 G a S) rfl rfl hl.1 rfl (Nat.le_of_ble_eq_true rfl) dX7_showsThen_5 ⟨Nat.le_refl _, Nat.le_refl _⟩ (fun H locs hP hD hS => ?_)
  refine lv_iload_n hx hb dX7_showsThen_8 rfl (lv_at hl 2 rfl) ?_
  refine lv_iconst (v := (0 : Int32)) hx hb dX7_showsThen_9 (by decide) ?_
  refine lv_bipush (v := (60 : Int32)) hx hb dX7_showsThen_10 (by decide) ?_
  obtain ⟨q1255, hq1255, hf⟩ := bnd hf
  refine fc_callS (Wa' := (cW G a S)) (st1 := [.int q1255]) (As := [.int q1254, .int x2, .int (0 : Int32), .int (60 : Int32)]) (rest := []) hCF (k_X7_refusalOf q1254 x2 (0 : Int32) (60 : Int32) hq1255) (va_cwS 4 hts gX7_showsThen_X7_refusalOf rfl rfl rfl dk_X7_refusalOf ⟨Nat.le_of_ble_eq_true rfl, Nat.le_of_ble_eq_true rfl⟩) hE hAB hP hD hS [] rfl rfl rfl rfl rfl rfl hl.1 rfl (Nat.le_of_ble_eq_true rfl) dX7_showsThen_12 ⟨Nat.le_refl _, Nat.le_refl _⟩ (fun H locs hP hD hS => ?_)
  refine lv_istore_n (lv' := [(3, .int q1255), (0, .ref (a 0)), (1, .int x1), (2, .int x2)]) hx hb dX7_showsThen_15 rfl hl (by decide) rfl (fun ls hl => ?_)
  refine lv_iload_n hx hb dX7_showsThen_16 rfl (lv_at hl 0 rfl) ?_
  refine lv_if_eq (tgt := 26) hx hb dX7_showsThen_17 (by decide) (fun c1256 => ?_) (fun c1256 => ?_)
  · have hf := ifT hf c1256
    refine lv_aload_n hx hb dX7_showsThen_26 rfl (lv_at hl 1 rfl) ?_
    refine fc_get (v := .ref (a 1)) (ci := 4) (C := RX7) (T := TX7) (N := 8) hx hb hwX7 hown hE hP 0 (cW_o G a S) rfl 0 (by decide) hk_fieldLink_RX7_10__BrideNotKnown___now___LBrideNotKnown_Valley__ (fun _ h => h) rfl dX7_showsThen_27 ?_
    refine lv_iload_n hx hb dX7_showsThen_30 rfl (lv_at hl 2 rfl) ?_
    refine lv_iload_n hx hb dX7_showsThen_31 rfl (lv_at hl 3 rfl) ?_
    obtain ⟨q1257, hq1257, hf⟩ := bnd hf
    refine fc_callV (Wa' := (cW G a S)) (st1 := [.int q1257]) (As := [.int x1, .int x2]) (rest := []) hCF (k_X6_shows (sh 1 a) (S 0) x1 x2 hq1257) (cwV 2 hts gX7_showsThen_X6_shows rfl rfl rfl ⟨rfl, dk_X6_shows⟩ ⟨Nat.le_of_ble_eq_true rfl, Nat.le_of_ble_eq_true rfl⟩) hE hAB hP hD hS [1, 2, 3, 4, 5, 6, 7, 8] cW_d0 (cW_c0 G a S) (va_recv hE.1 hP (ci := 3) (q0 := 1) rfl (cW_o0 G a S)) (vW_f G (sh 1 a) (S 0) (S 0)) (cW_i0 G a S) rfl rfl hl.1 rfl (Nat.le_of_ble_eq_true rfl) dX7_showsThen_32 ⟨Nat.le_refl _, Nat.le_refl _⟩ (fun H locs hP hD hS => ?_)
    exact fc_reti hx hb hr hlocks hP hS dX7_showsThen_35 (i2a hf) (congrArg (fun z => (cW G a z)) (i2b hf))
  · have hf := ifF hf c1256
    refine lv_aload_n hx hb dX7_showsThen_20 rfl (lv_at hl 1 rfl) ?_
    refine lv_iload_n hx hb dX7_showsThen_21 rfl (lv_at hl 0 rfl) ?_
    obtain ⟨q1258, hq1258, hf⟩ := bnd hf
    refine fc_callV (Wa' := (cW G a q1258.2)) (st1 := [.int q1258.1]) (As := [.int q1255]) (rest := []) hCF (k_X7_refuse a S q1255 hq1258) (cwV 1 hts gX7_showsThen_X7_refuse rfl rfl rfl ⟨rfl, dk_X7_refuse⟩ ⟨Nat.le_of_ble_eq_true rfl, Nat.le_of_ble_eq_true rfl⟩) hE hAB hP hD hS [0, 1, 2, 3, 4, 5, 6, 7, 8, 9, 10, 11, 12, 13, 14, 15, 16, 17, 18, 19, 20, 21, 22, 23, 24, 25, 26, 27, 28, 29, 30, 31] cW_d (cW_c G a S) (va_recv hE.1 hP (ci := 4) (q0 := 0) rfl (cW_o G a S)) (cW_f G a S q1258.2) (cW_s G a S q1258.2) rfl rfl hl.1 rfl (Nat.le_of_ble_eq_true rfl) dX7_showsThen_22 ⟨Nat.le_refl _, Nat.le_refl _⟩ (fun H locs hP hD hS => ?_)
    exact fc_reti hx hb hr hlocks hP hS dX7_showsThen_25 (i2a hf) (congrArg (fun z => (cW G a z)) (i2b hf))
theorem dk_X7_takes : yX7_takes.cls ≠ "java/lang/invoke/MethodHandle" ∧ yX7_takes.cls ≠ "java/lang/invoke/VarHandle" ∧ (parseMethodDescriptor yX7_takes.desc).map (fun d => d.parameters.length) = some 1 := by decide +kernel
theorem iu_X7_takes_X7 : ∀ w ∈ u_ws RX7 TX7 8, w ∈ wsX7_takes := by decide +kernel
set_option maxHeartbeats 4000000 in
set_option maxRecDepth 100000 in
theorem k_X7_takes {l : Launch} {G : Gx} (a : Nat → Nat) (S : (Nat → St)) (x1 : Int32) {r : Int32} {S' : (Nat → St)} (hf : f_X7_takes S x1 = some (r, S')) : FC l G yX7_takes wsX7_takes ({ frames := 5, cells := 0, slots := 0, locals := 122 } : Room) [.ref (a 0), .int x1] (cW G a S) (cW G a S') (some (.int r)) := by
  refine fc_head (cc := cX7_takes) (maxL := 2) (ret := (some .int)) (C := RX7) (lv := [(0, .ref (a 0)), (1, .int x1)]) (by decide) rfl rfl (Nat.le_of_ble_eq_true rfl) rfl ?_
  intro p e s m below meth c ls A hx hb hr hml hown hts hlocks hE hP hD hAB hS hl
  have hCF : CallFix p m c cX7_takes 2 s ([.ref (a 0), .int x1] : List Value).toArray wsX7_takes RX7 := ⟨hx, hb, hml, hown, hts⟩
  have hwX7 : ∀ w ∈ u_ws RX7 TX7 8, w.before ([.ref (a 0), .int x1] : List Value).toArray s = true := fun w h => hts w (iu_X7_takes_X7 w h)
  have hk_fieldLink_RX7_10__BrideNotKnown___now___LBrideNotKnown_Valley__ := hts (.fieldLink RX7 10 "BrideNotKnown" "now" "LBrideNotKnown$Valley;") (List.mem_of_getElem? (i := 1) rfl)
  rw [f_X7_takes] at hf
  refine lv_aload_n hx hb dX7_takes_0 rfl (lv_at hl 0 rfl) ?_
  refine fc_get (v := .ref (a 1)) (ci := 4) (C := RX7) (T := TX7) (N := 8) hx hb hwX7 hown hE hP 0 (cW_o G a S) rfl 0 (by decide) hk_fieldLink_RX7_10__BrideNotKnown___now___LBrideNotKnown_Valley__ (fun _ h => h) rfl dX7_takes_1 ?_
  refine lv_iload_n hx hb dX7_takes_4 rfl (lv_at hl 1 rfl) ?_
  obtain ⟨q1263, hq1263, hf⟩ := bnd hf
  refine fc_callV (Wa' := (cW G a S)) (st1 := [.int q1263]) (As := [.int x1]) (rest := []) hCF (k_X6_hasGroom (sh 1 a) (S 0) x1 hq1263) (cwV 1 hts gX7_takes_X6_hasGroom rfl rfl rfl ⟨rfl, dk_X6_hasGroom⟩ ⟨Nat.le_of_ble_eq_true rfl, Nat.le_of_ble_eq_true rfl⟩) hE hAB hP hD hS [1, 2, 3, 4, 5, 6, 7, 8] cW_d0 (cW_c0 G a S) (va_recv hE.1 hP (ci := 3) (q0 := 1) rfl (cW_o0 G a S)) (vW_f G (sh 1 a) (S 0) (S 0)) (cW_i0 G a S) rfl rfl hl.1 rfl (Nat.le_of_ble_eq_true rfl) dX7_takes_5 ⟨Nat.le_refl _, Nat.le_refl _⟩ (fun H locs hP hD hS => ?_)
  refine lv_if_ne (tgt := 17) hx hb dX7_takes_8 (by decide) (fun c1264 => ?_) (fun c1264 => ?_)
  · have hf := ifF hf c1264
    refine lv_aload_n hx hb dX7_takes_17 rfl (lv_at hl 0 rfl) ?_
    refine fc_get (v := .ref (a 1)) (ci := 4) (C := RX7) (T := TX7) (N := 8) hx hb hwX7 hown hE hP 0 (cW_o G a S) rfl 0 (by decide) hk_fieldLink_RX7_10__BrideNotKnown___now___LBrideNotKnown_Valley__ (fun _ h => h) rfl dX7_takes_18 ?_
    refine lv_iload_n hx hb dX7_takes_21 rfl (lv_at hl 1 rfl) ?_
    refine lv_aload_n hx hb dX7_takes_22 rfl (lv_at hl 0 rfl) ?_
    refine fc_get (v := .ref (a 1)) (ci := 4) (C := RX7) (T := TX7) (N := 8) hx hb hwX7 hown hE hP 0 (cW_o G a S) rfl 0 (by decide) hk_fieldLink_RX7_10__BrideNotKnown___now___LBrideNotKnown_Valley__ (fun _ h => h) rfl dX7_takes_23 ?_
    refine lv_iload_n hx hb dX7_takes_26 rfl (lv_at hl 1 rfl) ?_
    obtain ⟨q1265, hq1265, hf⟩ := bnd hf
    refine fc_callV (Wa' := (cW G a S)) (st1 := [.int q1265, .int x1, .ref (a 1)]) (As := [.int x1]) (rest := [.int x1, .ref (a 1)]) hCF (k_X6_liquorOf (sh 1 a) (S 0) x1 hq1265) (cwV 1 hts gX7_takes_X6_liquorOf rfl rfl rfl ⟨rfl, dk_X6_liquorOf⟩ ⟨Nat.le_of_ble_eq_true rfl, Nat.le_of_ble_eq_true rfl⟩) hE hAB hP hD hS [1, 2, 3, 4, 5, 6, 7, 8] cW_d0 (cW_c0 G a S) (va_recv hE.1 hP (ci := 3) (q0 := 1) rfl (cW_o0 G a S)) (vW_f G (sh 1 a) (S 0) (S 0)) (cW_i0 G a S) rfl rfl hl.1 rfl (Nat.le_of_ble_eq_true rfl) dX7_takes_27 ⟨Nat.le_refl _, Nat.le_refl _⟩ (fun H locs hP hD hS => ?_)
    obtain ⟨q1266, hq1266, hf⟩ := bnd hf
    refine fc_callV (Wa' := (cW G a S)) (st1 := [.int q1266]) (As := [.int x1, .int q1265]) (rest := []) hCF (k_X6_takenWith (sh 1 a) (S 0) x1 q1265 hq1266) (cwV 2 hts gX7_takes_X6_takenWith rfl rfl rfl ⟨rfl, dk_X6_takenWith⟩ ⟨Nat.le_of_ble_eq_true rfl, Nat.le_of_ble_eq_true rfl⟩) hE hAB hP hD hS [1, 2, 3, 4, 5, 6, 7, 8] cW_d0 (cW_c0 G a S) (va_recv hE.1 hP (ci := 3) (q0 := 1) rfl (cW_o0 G a S)) (vW_f G (sh 1 a) (S 0) (S 0)) (cW_i0 G a S) rfl rfl hl.1 rfl (Nat.le_of_ble_eq_true rfl) dX7_takes_30 ⟨Nat.le_refl _, Nat.le_refl _⟩ (fun H locs hP hD hS => ?_)
    exact fc_reti hx hb hr hlocks hP hS dX7_takes_33 (i2a hf) (congrArg (fun z => (cW G a z)) (i2b hf))
  · have hf := ifT hf c1264
    refine lv_aload_n hx hb dX7_takes_11 rfl (lv_at hl 0 rfl) ?_
    refine lv_iconst (v := (-1 : Int32)) hx hb dX7_takes_12 (by decide) ?_
    obtain ⟨q1267, hq1267, hf⟩ := bnd hf
    refine fc_callV (Wa' := (cW G a q1267.2)) (st1 := [.int q1267.1]) (As := [.int (-1 : Int32)]) (rest := []) hCF (k_X7_refuse a S (-1 : Int32) hq1267) (cwV 1 hts gX7_takes_X7_refuse rfl rfl rfl ⟨rfl, dk_X7_refuse⟩ ⟨Nat.le_of_ble_eq_true rfl, Nat.le_of_ble_eq_true rfl⟩) hE hAB hP hD hS [0, 1, 2, 3, 4, 5, 6, 7, 8, 9, 10, 11, 12, 13, 14, 15, 16, 17, 18, 19, 20, 21, 22, 23, 24, 25, 26, 27, 28, 29, 30, 31] cW_d (cW_c G a S) (va_recv hE.1 hP (ci := 4) (q0 := 0) rfl (cW_o G a S)) (cW_f G a S q1267.2) (cW_s G a S q1267.2) rfl rfl hl.1 rfl (Nat.le_of_ble_eq_true rfl) dX7_takes_13 ⟨Nat.le_refl _, Nat.le_refl _⟩ (fun H locs hP hD hS => ?_)
    exact fc_reti hx hb hr hlocks hP hS dX7_takes_16 (i2a hf) (congrArg (fun z => (cW G a z)) (i2b hf))
theorem dk_X7_tells : yX7_tells.cls ≠ "java/lang/invoke/MethodHandle" ∧ yX7_tells.cls ≠ "java/lang/invoke/VarHandle" ∧ (parseMethodDescriptor yX7_tells.desc).map (fun d => d.parameters.length) = some 0 := by decide +kernel
theorem iu_X7_tells_X7 : ∀ w ∈ u_ws RX7 TX7 8, w ∈ wsX7_tells := by decide +kernel
set_option maxHeartbeats 4000000 in
set_option maxRecDepth 100000 in
theorem k_X7_tells {l : Launch} {G : Gx} (a : Nat → Nat) (S : (Nat → St)) {r : Int32} (hf : f_X7_tells S = some r) : FC l G yX7_tells wsX7_tells ({ frames := 5, cells := 0, slots := 0, locals := 118 } : Room) [.ref (a 0)] (cW G a S) (cW G a S) (some (.int r)) := by
  refine fc_head (cc := cX7_tells) (maxL := 1) (ret := (some .int)) (C := RX7) (lv := [(0, .ref (a 0))]) (by decide) rfl rfl (Nat.le_of_ble_eq_true rfl) rfl ?_
  intro p e s m below meth c ls A hx hb hr hml hown hts hlocks hE hP hD hAB hS hl
  have hCF : CallFix p m c cX7_tells 1 s ([.ref (a 0)] : List Value).toArray wsX7_tells RX7 := ⟨hx, hb, hml, hown, hts⟩
  have hwX7 : ∀ w ∈ u_ws RX7 TX7 8, w.before ([.ref (a 0)] : List Value).toArray s = true := fun w h => hts w (iu_X7_tells_X7 w h)
  have hk_fieldLink_RX7_10__BrideNotKnown___now___LBrideNotKnown_Valley__ := hts (.fieldLink RX7 10 "BrideNotKnown" "now" "LBrideNotKnown$Valley;") (List.mem_of_getElem? (i := 1) rfl)
  rw [f_X7_tells] at hf
  refine lv_aload_n hx hb dX7_tells_0 rfl (lv_at hl 0 rfl) ?_
  refine fc_get (v := .ref (a 1)) (ci := 4) (C := RX7) (T := TX7) (N := 8) hx hb hwX7 hown hE hP 0 (cW_o G a S) rfl 0 (by decide) hk_fieldLink_RX7_10__BrideNotKnown___now___LBrideNotKnown_Valley__ (fun _ h => h) rfl dX7_tells_1 ?_
  obtain ⟨q1269, hq1269, hf⟩ := bnd hf
  refine fc_callS (Wa' := (cW G a S)) (st1 := [.int q1269]) (As := [.ref (a 1)]) (rest := []) hCF (k_X1_tellingToe (sh 1 a) (S 0) hq1269) (va_cwS 1 hts gX7_tells_X1_tellingToe rfl rfl rfl dk_X1_tellingToe ⟨Nat.le_of_ble_eq_true rfl, Nat.le_of_ble_eq_true rfl⟩) hE hAB hP hD hS [1, 2, 3, 4, 5, 6, 7, 8] cW_d0 (cW_c0 G a S) (vW_f G (sh 1 a) (S 0) (S 0)) (cW_i0 G a S) rfl rfl hl.1 rfl (Nat.le_of_ble_eq_true rfl) dX7_tells_4 ⟨Nat.le_refl _, Nat.le_refl _⟩ (fun H locs hP hD hS => ?_)
  exact fc_reti hx hb hr hlocks hP hS dX7_tells_7 (i1 hf) rfl
theorem dk_X7_turn : yX7_turn.cls ≠ "java/lang/invoke/MethodHandle" ∧ yX7_turn.cls ≠ "java/lang/invoke/VarHandle" ∧ (parseMethodDescriptor yX7_turn.desc).map (fun d => d.parameters.length) = some 3 := by decide +kernel
theorem iu_X7_turn_X7 : ∀ w ∈ u_ws RX7 TX7 8, w ∈ wsX7_turn := by decide +kernel
set_option maxHeartbeats 4000000 in
set_option maxRecDepth 100000 in
theorem k_X7_turn {l : Launch} {G : Gx} (a : Nat → Nat) (S : (Nat → St)) (x1 : Int32) (x2 : Int32) (x3 : Int32) {r : Int32} {S' : (Nat → St)} (hf : f_X7_turn S x1 x2 x3 = some (r, S')) : FC l G yX7_turn wsX7_turn ({ frames := 2, cells := 0, slots := 0, locals := 45 } : Room) [.ref (a 0), .int x1, .int x2, .int x3] (cW G a S) (cW G a S') (some (.int r)) := by
  refine fc_head (cc := cX7_turn) (maxL := 6) (ret := (some .int)) (C := RX7) (lv := [(0, .ref (a 0)), (1, .int x1), (2, .int x2), (3, .int x3)]) (by decide) rfl rfl (Nat.le_of_ble_eq_true rfl) rfl ?_
  intro p e s m below meth c ls A hx hb hr hml hown hts hlocks hE hP hD hAB hS hl
  have hCF : CallFix p m c cX7_turn 6 s ([.ref (a 0), .int x1, .int x2, .int x3] : List Value).toArray wsX7_turn RX7 := ⟨hx, hb, hml, hown, hts⟩
  have hwX7 : ∀ w ∈ u_ws RX7 TX7 8, w.before ([.ref (a 0), .int x1, .int x2, .int x3] : List Value).toArray s = true := fun w h => hts w (iu_X7_turn_X7 w h)
  have hk_fieldLink_RX7_10__BrideNotKnown___now___LBrideNotKnown_Valley__ := hts (.fieldLink RX7 10 "BrideNotKnown" "now" "LBrideNotKnown$Valley;") (List.mem_of_getElem? (i := 1) rfl)
  rw [f_X7_turn] at hf
  refine lv_aload_n hx hb dX7_turn_0 rfl (lv_at hl 0 rfl) ?_
  refine fc_get (v := .ref (a 1)) (ci := 4) (C := RX7) (T := TX7) (N := 8) hx hb hwX7 hown hE hP 0 (cW_o G a S) rfl 0 (by decide) hk_fieldLink_RX7_10__BrideNotKnown___now___LBrideNotKnown_Valley__ (fun _ h => h) rfl dX7_turn_1 ?_
  refine lv_iload_n hx hb dX7_turn_4 rfl (lv_at hl 1 rfl) ?_
  obtain ⟨q1279, hq1279, hf⟩ := bnd hf
  refine fc_callV (Wa' := (cW G a S)) (st1 := [.int q1279]) (As := [.int x1]) (rest := []) hCF (k_X6_hasBride (sh 1 a) (S 0) x1 hq1279) (cwV 1 hts gX7_turn_X6_hasBride rfl rfl rfl ⟨rfl, dk_X6_hasBride⟩ ⟨Nat.le_of_ble_eq_true rfl, Nat.le_of_ble_eq_true rfl⟩) hE hAB hP hD hS [1, 2, 3, 4, 5, 6, 7, 8] cW_d0 (cW_c0 G a S) (va_recv hE.1 hP (ci := 3) (q0 := 1) rfl (cW_o0 G a S)) (vW_f G (sh 1 a) (S 0) (S 0)) (cW_i0 G a S) rfl rfl hl.1 rfl (Nat.le_of_ble_eq_true rfl) dX7_turn_5 ⟨Nat.le_refl _, Nat.le_refl _⟩ (fun H locs hP hD hS => ?_)
  refine lv_if_ne (tgt := 17) hx hb dX7_turn_8 (by decide) (fun c1280 => ?_) (fun c1280 => ?_)
  · have hf := ifF hf c1280
    refine lv_iload_n hx hb dX7_turn_17 rfl (lv_at hl 2 rfl) ?_
    refine lv_if_lt (tgt := 27) hx hb dX7_turn_18 (by decide) (fun c1281 => ?_) (fun c1281 => ?_)
    · have hf := ifT hf c1281
      refine lv_aload_n hx hb dX7_turn_27 rfl (lv_at hl 0 rfl) ?_
      refine lv_bipush (v := (-2 : Int32)) hx hb dX7_turn_28 (by decide) ?_
      obtain ⟨q1282, hq1282, hf⟩ := bnd hf
      refine fc_callV (Wa' := (cW G a q1282.2)) (st1 := [.int q1282.1]) (As := [.int (-2 : Int32)]) (rest := []) hCF (k_X7_refuse a S (-2 : Int32) hq1282) (cwV 1 hts gX7_turn_X7_refuse rfl rfl rfl ⟨rfl, dk_X7_refuse⟩ ⟨Nat.le_of_ble_eq_true rfl, Nat.le_of_ble_eq_true rfl⟩) hE hAB hP hD hS [0, 1, 2, 3, 4, 5, 6, 7, 8, 9, 10, 11, 12, 13, 14, 15, 16, 17, 18, 19, 20, 21, 22, 23, 24, 25, 26, 27, 28, 29, 30, 31] cW_d (cW_c G a S) (va_recv hE.1 hP (ci := 4) (q0 := 0) rfl (cW_o G a S)) (cW_f G a S q1282.2) (cW_s G a S q1282.2) rfl rfl hl.1 rfl (Nat.le_of_ble_eq_true rfl) dX7_turn_30 ⟨Nat.le_refl _, Nat.le_refl _⟩ (fun H locs hP hD hS => ?_)
      exact fc_reti hx hb hr hlocks hP hS dX7_turn_33 (i2a hf) (congrArg (fun z => (cW G a z)) (i2b hf))
    · have hf := ifF hf c1281
      refine lv_iload_n hx hb dX7_turn_21 rfl (lv_at hl 2 rfl) ?_
      refine lv_bipush (v := (6 : Int32)) hx hb dX7_turn_22 (by decide) ?_
      refine lv_icmp_lt (tgt := 34) hx hb dX7_turn_24 (by decide) (fun c1283 => ?_) (fun c1283 => ?_)
      · have hf := ifT hf c1283
        refine lv_iload_n hx hb dX7_turn_34 rfl (lv_at hl 3 rfl) ?_
        refine lv_iconst (v := (0 : Int32)) hx hb dX7_turn_35 (by decide) ?_
        refine lv_bipush (v := (9 : Int32)) hx hb dX7_turn_36 (by decide) ?_
        obtain ⟨q1284, hq1284, hf⟩ := bnd hf
        refine fc_callS (Wa' := (cW G a S)) (st1 := [.int q1284]) (As := [.int x3, .int (0 : Int32), .int (9 : Int32)]) (rest := []) hCF (k_X7_outside x3 (0 : Int32) (9 : Int32) hq1284) (va_cwS 3 hts gX7_turn_X7_outside rfl rfl rfl dk_X7_outside ⟨Nat.le_of_ble_eq_true rfl, Nat.le_of_ble_eq_true rfl⟩) hE hAB hP hD hS [] rfl rfl rfl rfl rfl rfl hl.1 rfl (Nat.le_of_ble_eq_true rfl) dX7_turn_38 ⟨Nat.le_refl _, Nat.le_refl _⟩ (fun H locs hP hD hS => ?_)
        refine lv_istore (lv' := [(4, .int q1284), (0, .ref (a 0)), (1, .int x1), (2, .int x2), (3, .int x3)]) hx hb dX7_turn_41 hl (by decide) rfl (fun ls hl => ?_)
        refine lv_iload hx hb dX7_turn_43 (lv_at hl 0 rfl) ?_
        refine lv_if_eq (tgt := 55) hx hb dX7_turn_45 (by decide) (fun c1285 => ?_) (fun c1285 => ?_)
        · have hf := ifT hf c1285
          refine lv_bipush (v := (10 : Int32)) hx hb dX7_turn_55 (by decide) ?_
          refine lv_aload_n hx hb dX7_turn_57 rfl (lv_at hl 1 rfl) ?_
          refine fc_get (v := .ref (a 1)) (ci := 4) (C := RX7) (T := TX7) (N := 8) hx hb hwX7 hown hE hP 0 (cW_o G a S) rfl 0 (by decide) hk_fieldLink_RX7_10__BrideNotKnown___now___LBrideNotKnown_Valley__ (fun _ h => h) rfl dX7_turn_58 ?_
          refine lv_iload_n hx hb dX7_turn_61 rfl (lv_at hl 2 rfl) ?_
          obtain ⟨q1286, hq1286, hf⟩ := bnd hf
          refine fc_callV (Wa' := (cW G a S)) (st1 := [.int q1286, .int (10 : Int32)]) (As := [.int x1]) (rest := [.int (10 : Int32)]) hCF (k_X6_kindOf (sh 1 a) (S 0) x1 hq1286) (cwV 1 hts gX7_turn_X6_kindOf rfl rfl rfl ⟨rfl, dk_X6_kindOf⟩ ⟨Nat.le_of_ble_eq_true rfl, Nat.le_of_ble_eq_true rfl⟩) hE hAB hP hD hS [1, 2, 3, 4, 5, 6, 7, 8] cW_d0 (cW_c0 G a S) (va_recv hE.1 hP (ci := 3) (q0 := 1) rfl (cW_o0 G a S)) (vW_f G (sh 1 a) (S 0) (S 0)) (cW_i0 G a S) rfl rfl hl.1 rfl (Nat.le_of_ble_eq_true rfl) dX7_turn_62 ⟨Nat.le_refl _, Nat.le_refl _⟩ (fun H locs hP hD hS => ?_)
          refine lv_imul hx hb dX7_turn_65 ?_
          refine lv_aload_n hx hb dX7_turn_66 rfl (lv_at hl 1 rfl) ?_
          refine fc_get (v := .ref (a 1)) (ci := 4) (C := RX7) (T := TX7) (N := 8) hx hb hwX7 hown hE hP 0 (cW_o G a S) rfl 0 (by decide) hk_fieldLink_RX7_10__BrideNotKnown___now___LBrideNotKnown_Valley__ (fun _ h => h) rfl dX7_turn_67 ?_
          refine lv_iload_n hx hb dX7_turn_70 rfl (lv_at hl 2 rfl) ?_
          obtain ⟨q1287, hq1287, hf⟩ := bnd hf
          refine fc_callV (Wa' := (cW G a S)) (st1 := [.int q1287, .int ((10 : Int32) * q1286)]) (As := [.int x1]) (rest := [.int ((10 : Int32) * q1286)]) hCF (k_X6_figureOf (sh 1 a) (S 0) x1 hq1287) (cwV 1 hts gX7_turn_X6_figureOf rfl rfl rfl ⟨rfl, dk_X6_figureOf⟩ ⟨Nat.le_of_ble_eq_true rfl, Nat.le_of_ble_eq_true rfl⟩) hE hAB hP hD hS [1, 2, 3, 4, 5, 6, 7, 8] cW_d0 (cW_c0 G a S) (va_recv hE.1 hP (ci := 3) (q0 := 1) rfl (cW_o0 G a S)) (vW_f G (sh 1 a) (S 0) (S 0)) (cW_i0 G a S) rfl rfl hl.1 rfl (Nat.le_of_ble_eq_true rfl) dX7_turn_71 ⟨Nat.le_refl _, Nat.le_refl _⟩ (fun H locs hP hD hS => ?_)
          refine lv_iadd hx hb dX7_turn_74 ?_
          refine lv_istore (lv' := [(5, .int (((10 : Int32) * q1286) + q1287)), (4, .int q1284), (0, .ref (a 0)), (1, .int x1), (2, .int x2), (3, .int x3)]) hx hb dX7_turn_75 hl (by decide) rfl (fun ls hl => ?_)
          refine lv_aload_n hx hb dX7_turn_77 rfl (lv_at hl 2 rfl) ?_
          refine fc_get (v := .ref (a 1)) (ci := 4) (C := RX7) (T := TX7) (N := 8) hx hb hwX7 hown hE hP 0 (cW_o G a S) rfl 0 (by decide) hk_fieldLink_RX7_10__BrideNotKnown___now___LBrideNotKnown_Valley__ (fun _ h => h) rfl dX7_turn_78 ?_
          refine lv_iload_n hx hb dX7_turn_81 rfl (lv_at hl 3 rfl) ?_
          refine lv_iload_n hx hb dX7_turn_82 rfl (lv_at hl 4 rfl) ?_
          refine lv_iload_n hx hb dX7_turn_83 rfl (lv_at hl 5 rfl) ?_
          obtain ⟨q1288, hq1288, hf⟩ := bnd hf
          refine fc_callV (Wa' := (cW G a (sS S 0 q1288))) (st1 := []) (As := [.int x1, .int x2, .int x3]) (rest := []) hCF (k_X6_setKind (sh 1 a) (S 0) x1 x2 x3 hq1288) (cwV 3 hts gX7_turn_X6_setKind rfl rfl rfl ⟨rfl, dk_X6_setKind⟩ ⟨Nat.le_of_ble_eq_true rfl, Nat.le_of_ble_eq_true rfl⟩) hE hAB hP hD hS [1, 2, 3, 4, 5, 6, 7, 8] cW_d0 (cW_c0 G a S) (va_recv hE.1 hP (ci := 3) (q0 := 1) rfl (cW_o0 G a S)) (vW_f G (sh 1 a) (S 0) q1288) (cW_s0 G a S q1288) rfl rfl hl.1 rfl (Nat.le_of_ble_eq_true rfl) dX7_turn_84 ⟨Nat.le_refl _, Nat.le_refl _⟩ (fun H locs hP hD hS => ?_)
          refine lv_iload hx hb dX7_turn_87 (lv_at hl 0 rfl) ?_
          exact fc_reti hx hb hr hlocks hP hS dX7_turn_89 (i2a hf) (congrArg (fun z => (cW G a z)) (i2b hf))
        · have hf := ifF hf c1285
          refine lv_aload_n hx hb dX7_turn_48 rfl (lv_at hl 1 rfl) ?_
          refine lv_iload hx hb dX7_turn_49 (lv_at hl 0 rfl) ?_
          obtain ⟨q1289, hq1289, hf⟩ := bnd hf
          refine fc_callV (Wa' := (cW G a q1289.2)) (st1 := [.int q1289.1]) (As := [.int q1284]) (rest := []) hCF (k_X7_refuse a S q1284 hq1289) (cwV 1 hts gX7_turn_X7_refuse rfl rfl rfl ⟨rfl, dk_X7_refuse⟩ ⟨Nat.le_of_ble_eq_true rfl, Nat.le_of_ble_eq_true rfl⟩) hE hAB hP hD hS [0, 1, 2, 3, 4, 5, 6, 7, 8, 9, 10, 11, 12, 13, 14, 15, 16, 17, 18, 19, 20, 21, 22, 23, 24, 25, 26, 27, 28, 29, 30, 31] cW_d (cW_c G a S) (va_recv hE.1 hP (ci := 4) (q0 := 0) rfl (cW_o G a S)) (cW_f G a S q1289.2) (cW_s G a S q1289.2) rfl rfl hl.1 rfl (Nat.le_of_ble_eq_true rfl) dX7_turn_51 ⟨Nat.le_refl _, Nat.le_refl _⟩ (fun H locs hP hD hS => ?_)
          exact fc_reti hx hb hr hlocks hP hS dX7_turn_54 (i2a hf) (congrArg (fun z => (cW G a z)) (i2b hf))
      · have hf := ifF hf c1283
        refine lv_aload_n hx hb dX7_turn_27 rfl (lv_at hl 0 rfl) ?_
        refine lv_bipush (v := (-2 : Int32)) hx hb dX7_turn_28 (by decide) ?_
        obtain ⟨q1290, hq1290, hf⟩ := bnd hf
        refine fc_callV (Wa' := (cW G a q1290.2)) (st1 := [.int q1290.1]) (As := [.int (-2 : Int32)]) (rest := []) hCF (k_X7_refuse a S (-2 : Int32) hq1290) (cwV 1 hts gX7_turn_X7_refuse rfl rfl rfl ⟨rfl, dk_X7_refuse⟩ ⟨Nat.le_of_ble_eq_true rfl, Nat.le_of_ble_eq_true rfl⟩) hE hAB hP hD hS [0, 1, 2, 3, 4, 5, 6, 7, 8, 9, 10, 11, 12, 13, 14, 15, 16, 17, 18, 19, 20, 21, 22, 23, 24, 25, 26, 27, 28, 29, 30, 31] cW_d (cW_c G a S) (va_recv hE.1 hP (ci := 4) (q0 := 0) rfl (cW_o G a S)) (cW_f G a S q1290.2) (cW_s G a S q1290.2) rfl rfl hl.1 rfl (Nat.le_of_ble_eq_true rfl) dX7_turn_30 ⟨Nat.le_refl _, Nat.le_refl _⟩ (fun H locs hP hD hS => ?_)
        exact fc_reti hx hb hr hlocks hP hS dX7_turn_33 (i2a hf) (congrArg (fun z => (cW G a z)) (i2b hf))
  · have hf := ifT hf c1280
    refine lv_aload_n hx hb dX7_turn_11 rfl (lv_at hl 0 rfl) ?_
    refine lv_iconst (v := (-1 : Int32)) hx hb dX7_turn_12 (by decide) ?_
    obtain ⟨q1291, hq1291, hf⟩ := bnd hf
    refine fc_callV (Wa' := (cW G a q1291.2)) (st1 := [.int q1291.1]) (As := [.int (-1 : Int32)]) (rest := []) hCF (k_X7_refuse a S (-1 : Int32) hq1291) (cwV 1 hts gX7_turn_X7_refuse rfl rfl rfl ⟨rfl, dk_X7_refuse⟩ ⟨Nat.le_of_ble_eq_true rfl, Nat.le_of_ble_eq_true rfl⟩) hE hAB hP hD hS [0, 1, 2, 3, 4, 5, 6, 7, 8, 9, 10, 11, 12, 13, 14, 15, 16, 17, 18, 19, 20, 21, 22, 23, 24, 25, 26, 27, 28, 29, 30, 31] cW_d (cW_c G a S) (va_recv hE.1 hP (ci := 4) (q0 := 0) rfl (cW_o G a S)) (cW_f G a S q1291.2) (cW_s G a S q1291.2) rfl rfl hl.1 rfl (Nat.le_of_ble_eq_true rfl) dX7_turn_13 ⟨Nat.le_refl _, Nat.le_refl _⟩ (fun H locs hP hD hS => ?_)
    exact fc_reti hx hb hr hlocks hP hS dX7_turn_16 (i2a hf) (congrArg (fun z => (cW G a z)) (i2b hf))
theorem dk_X7_two : yX7_two.cls ≠ "java/lang/invoke/MethodHandle" ∧ yX7_two.cls ≠ "java/lang/invoke/VarHandle" ∧ (parseMethodDescriptor yX7_two.desc).map (fun d => d.parameters.length) = some 2 := by decide +kernel
theorem iu_X7_two_X7 : ∀ w ∈ u_ws RX7 TX7 8, w ∈ wsX7_two := by decide +kernel
set_option maxHeartbeats 4000000 in
set_option maxRecDepth 100000 in
theorem k_X7_two {l : Launch} {G : Gx} (a : Nat → Nat) (S : (Nat → St)) (x1 : Int32) (x2 : Int32) {r : Int32} {S' : (Nat → St)} (hf : f_X7_two S x1 x2 = some (r, S')) : FC l G yX7_two wsX7_two ({ frames := 6, cells := 0, slots := 0, locals := 152 } : Room) [.ref (a 0), .int x1, .int x2] (cW G a S) (cW G a S') (some (.int r)) := by
  refine fc_head (cc := cX7_two) (maxL := 3) (ret := (some .int)) (C := RX7) (lv := [(0, .ref (a 0)), (1, .int x1), (2, .int x2)]) (by decide) rfl rfl (Nat.le_of_ble_eq_true rfl) rfl ?_
  intro p e s m below meth c ls A hx hb hr hml hown hts hlocks hE hP hD hAB hS hl
  have hCF : CallFix p m c cX7_two 3 s ([.ref (a 0), .int x1, .int x2] : List Value).toArray wsX7_two RX7 := ⟨hx, hb, hml, hown, hts⟩
  have hwX7 : ∀ w ∈ u_ws RX7 TX7 8, w.before ([.ref (a 0), .int x1, .int x2] : List Value).toArray s = true := fun w h => hts w (iu_X7_two_X7 w h)
  have hk_fieldLink_RX7_10__BrideNotKnown___now___LBrideNotKnown_Valley__ := hts (.fieldLink RX7 10 "BrideNotKnown" "now" "LBrideNotKnown$Valley;") (List.mem_of_getElem? (i := 1) rfl)
  have hk_fieldLink_RX7_16__BrideNotKnown___thought___LBrideNotKnown_Valley__ := hts (.fieldLink RX7 16 "BrideNotKnown" "thought" "LBrideNotKnown$Valley;") (List.mem_of_getElem? (i := 2) rfl)
  rw [f_X7_two] at hf
  refine lv_aload_n hx hb dX7_two_0 rfl (lv_at hl 0 rfl) ?_
  refine fc_get (v := .ref (a 1)) (ci := 4) (C := RX7) (T := TX7) (N := 8) hx hb hwX7 hown hE hP 0 (cW_o G a S) rfl 0 (by decide) hk_fieldLink_RX7_10__BrideNotKnown___now___LBrideNotKnown_Valley__ (fun _ h => h) rfl dX7_two_1 ?_
  refine lv_iload_n hx hb dX7_two_4 rfl (lv_at hl 1 rfl) ?_
  obtain ⟨q1302, hq1302, hf⟩ := bnd hf
  refine fc_callV (Wa' := (cW G a S)) (st1 := [.int q1302]) (As := [.int x1]) (rest := []) hCF (k_X6_hasBride (sh 1 a) (S 0) x1 hq1302) (cwV 1 hts gX7_two_X6_hasBride rfl rfl rfl ⟨rfl, dk_X6_hasBride⟩ ⟨Nat.le_of_ble_eq_true rfl, Nat.le_of_ble_eq_true rfl⟩) hE hAB hP hD hS [1, 2, 3, 4, 5, 6, 7, 8] cW_d0 (cW_c0 G a S) (va_recv hE.1 hP (ci := 3) (q0 := 1) rfl (cW_o0 G a S)) (vW_f G (sh 1 a) (S 0) (S 0)) (cW_i0 G a S) rfl rfl hl.1 rfl (Nat.le_of_ble_eq_true rfl) dX7_two_5 ⟨Nat.le_refl _, Nat.le_refl _⟩ (fun H locs hP hD hS => ?_)
  refine lv_if_eq (tgt := 27) hx hb dX7_two_8 (by decide) (fun c1303 => ?_) (fun c1303 => ?_)
  · have hf := ifT hf c1303
    refine lv_aload_n hx hb dX7_two_27 rfl (lv_at hl 0 rfl) ?_
    refine lv_iconst (v := (-1 : Int32)) hx hb dX7_two_28 (by decide) ?_
    obtain ⟨q1304, hq1304, hf⟩ := bnd hf
    refine fc_callV (Wa' := (cW G a q1304.2)) (st1 := [.int q1304.1]) (As := [.int (-1 : Int32)]) (rest := []) hCF (k_X7_refuse a S (-1 : Int32) hq1304) (cwV 1 hts gX7_two_X7_refuse rfl rfl rfl ⟨rfl, dk_X7_refuse⟩ ⟨Nat.le_of_ble_eq_true rfl, Nat.le_of_ble_eq_true rfl⟩) hE hAB hP hD hS [0, 1, 2, 3, 4, 5, 6, 7, 8, 9, 10, 11, 12, 13, 14, 15, 16, 17, 18, 19, 20, 21, 22, 23, 24, 25, 26, 27, 28, 29, 30, 31] cW_d (cW_c G a S) (va_recv hE.1 hP (ci := 4) (q0 := 0) rfl (cW_o G a S)) (cW_f G a S q1304.2) (cW_s G a S q1304.2) rfl rfl hl.1 rfl (Nat.le_of_ble_eq_true rfl) dX7_two_29 ⟨Nat.le_refl _, Nat.le_refl _⟩ (fun H locs hP hD hS => ?_)
    exact fc_reti hx hb hr hlocks hP hS dX7_two_32 (i2a hf) (congrArg (fun z => (cW G a z)) (i2b hf))
  · have hf := ifF hf c1303
    refine lv_aload_n hx hb dX7_two_11 rfl (lv_at hl 0 rfl) ?_
    refine fc_get (v := .ref (a 1)) (ci := 4) (C := RX7) (T := TX7) (N := 8) hx hb hwX7 hown hE hP 0 (cW_o G a S) rfl 0 (by decide) hk_fieldLink_RX7_10__BrideNotKnown___now___LBrideNotKnown_Valley__ (fun _ h => h) rfl dX7_two_12 ?_
    refine lv_iload_n hx hb dX7_two_15 rfl (lv_at hl 2 rfl) ?_
    obtain ⟨q1305, hq1305, hf⟩ := bnd hf
    refine fc_callV (Wa' := (cW G a S)) (st1 := [.int q1305]) (As := [.int x2]) (rest := []) hCF (k_X6_hasBride (sh 1 a) (S 0) x2 hq1305) (cwV 1 hts gX7_two_X6_hasBride rfl rfl rfl ⟨rfl, dk_X6_hasBride⟩ ⟨Nat.le_of_ble_eq_true rfl, Nat.le_of_ble_eq_true rfl⟩) hE hAB hP hD hS [1, 2, 3, 4, 5, 6, 7, 8] cW_d0 (cW_c0 G a S) (va_recv hE.1 hP (ci := 3) (q0 := 1) rfl (cW_o0 G a S)) (vW_f G (sh 1 a) (S 0) (S 0)) (cW_i0 G a S) rfl rfl hl.1 rfl (Nat.le_of_ble_eq_true rfl) dX7_two_16 ⟨Nat.le_refl _, Nat.le_refl _⟩ (fun H locs hP hD hS => ?_)
    refine lv_if_eq (tgt := 27) hx hb dX7_two_19 (by decide) (fun c1306 => ?_) (fun c1306 => ?_)
    · have hf := ifT hf c1306
      refine lv_aload_n hx hb dX7_two_27 rfl (lv_at hl 0 rfl) ?_
      refine lv_iconst (v := (-1 : Int32)) hx hb dX7_two_28 (by decide) ?_
      obtain ⟨q1307, hq1307, hf⟩ := bnd hf
      refine fc_callV (Wa' := (cW G a q1307.2)) (st1 := [.int q1307.1]) (As := [.int (-1 : Int32)]) (rest := []) hCF (k_X7_refuse a S (-1 : Int32) hq1307) (cwV 1 hts gX7_two_X7_refuse rfl rfl rfl ⟨rfl, dk_X7_refuse⟩ ⟨Nat.le_of_ble_eq_true rfl, Nat.le_of_ble_eq_true rfl⟩) hE hAB hP hD hS [0, 1, 2, 3, 4, 5, 6, 7, 8, 9, 10, 11, 12, 13, 14, 15, 16, 17, 18, 19, 20, 21, 22, 23, 24, 25, 26, 27, 28, 29, 30, 31] cW_d (cW_c G a S) (va_recv hE.1 hP (ci := 4) (q0 := 0) rfl (cW_o G a S)) (cW_f G a S q1307.2) (cW_s G a S q1307.2) rfl rfl hl.1 rfl (Nat.le_of_ble_eq_true rfl) dX7_two_29 ⟨Nat.le_refl _, Nat.le_refl _⟩ (fun H locs hP hD hS => ?_)
      exact fc_reti hx hb hr hlocks hP hS dX7_two_32 (i2a hf) (congrArg (fun z => (cW G a z)) (i2b hf))
    · have hf := ifF hf c1306
      refine lv_iload_n hx hb dX7_two_22 rfl (lv_at hl 1 rfl) ?_
      refine lv_iload_n hx hb dX7_two_23 rfl (lv_at hl 2 rfl) ?_
      refine lv_icmp_ne (tgt := 33) hx hb dX7_two_24 (by decide) (fun c1308 => ?_) (fun c1308 => ?_)
      · have hf := ifF hf c1308
        refine lv_aload_n hx hb dX7_two_33 rfl (lv_at hl 0 rfl) ?_
        refine fc_get (v := .ref (a 1)) (ci := 4) (C := RX7) (T := TX7) (N := 8) hx hb hwX7 hown hE hP 0 (cW_o G a S) rfl 0 (by decide) hk_fieldLink_RX7_10__BrideNotKnown___now___LBrideNotKnown_Valley__ (fun _ h => h) rfl dX7_two_34 ?_
        refine lv_iload_n hx hb dX7_two_37 rfl (lv_at hl 1 rfl) ?_
        obtain ⟨q1309, hq1309, hf⟩ := bnd hf
        refine fc_callV (Wa' := (cW G a S)) (st1 := [.int q1309]) (As := [.int x1]) (rest := []) hCF (k_X6_isHere (sh 1 a) (S 0) x1 hq1309) (cwV 1 hts gX7_two_X6_isHere rfl rfl rfl ⟨rfl, dk_X6_isHere⟩ ⟨Nat.le_of_ble_eq_true rfl, Nat.le_of_ble_eq_true rfl⟩) hE hAB hP hD hS [1, 2, 3, 4, 5, 6, 7, 8] cW_d0 (cW_c0 G a S) (va_recv hE.1 hP (ci := 3) (q0 := 1) rfl (cW_o0 G a S)) (vW_f G (sh 1 a) (S 0) (S 0)) (cW_i0 G a S) rfl rfl hl.1 rfl (Nat.le_of_ble_eq_true rfl) dX7_two_38 ⟨Nat.le_refl _, Nat.le_refl _⟩ (fun H locs hP hD hS => ?_)
        refine lv_if_eq (tgt := 55) hx hb dX7_two_41 (by decide) (fun c1310 => ?_) (fun c1310 => ?_)
        · have hf := ifT hf c1310
          refine lv_aload_n hx hb dX7_two_55 rfl (lv_at hl 0 rfl) ?_
          refine lv_bipush (v := (-3 : Int32)) hx hb dX7_two_56 (by decide) ?_
          obtain ⟨q1311, hq1311, hf⟩ := bnd hf
          refine fc_callV (Wa' := (cW G a q1311.2)) (st1 := [.int q1311.1]) (As := [.int (-3 : Int32)]) (rest := []) hCF (k_X7_refuse a S (-3 : Int32) hq1311) (cwV 1 hts gX7_two_X7_refuse rfl rfl rfl ⟨rfl, dk_X7_refuse⟩ ⟨Nat.le_of_ble_eq_true rfl, Nat.le_of_ble_eq_true rfl⟩) hE hAB hP hD hS [0, 1, 2, 3, 4, 5, 6, 7, 8, 9, 10, 11, 12, 13, 14, 15, 16, 17, 18, 19, 20, 21, 22, 23, 24, 25, 26, 27, 28, 29, 30, 31] cW_d (cW_c G a S) (va_recv hE.1 hP (ci := 4) (q0 := 0) rfl (cW_o G a S)) (cW_f G a S q1311.2) (cW_s G a S q1311.2) rfl rfl hl.1 rfl (Nat.le_of_ble_eq_true rfl) dX7_two_58 ⟨Nat.le_refl _, Nat.le_refl _⟩ (fun H locs hP hD hS => ?_)
          exact fc_reti hx hb hr hlocks hP hS dX7_two_61 (i2a hf) (congrArg (fun z => (cW G a z)) (i2b hf))
        · have hf := ifF hf c1310
          refine lv_aload_n hx hb dX7_two_44 rfl (lv_at hl 0 rfl) ?_
          refine fc_get (v := .ref (a 1)) (ci := 4) (C := RX7) (T := TX7) (N := 8) hx hb hwX7 hown hE hP 0 (cW_o G a S) rfl 0 (by decide) hk_fieldLink_RX7_10__BrideNotKnown___now___LBrideNotKnown_Valley__ (fun _ h => h) rfl dX7_two_45 ?_
          refine lv_iload_n hx hb dX7_two_48 rfl (lv_at hl 2 rfl) ?_
          obtain ⟨q1312, hq1312, hf⟩ := bnd hf
          refine fc_callV (Wa' := (cW G a S)) (st1 := [.int q1312]) (As := [.int x2]) (rest := []) hCF (k_X6_isHere (sh 1 a) (S 0) x2 hq1312) (cwV 1 hts gX7_two_X6_isHere rfl rfl rfl ⟨rfl, dk_X6_isHere⟩ ⟨Nat.le_of_ble_eq_true rfl, Nat.le_of_ble_eq_true rfl⟩) hE hAB hP hD hS [1, 2, 3, 4, 5, 6, 7, 8] cW_d0 (cW_c0 G a S) (va_recv hE.1 hP (ci := 3) (q0 := 1) rfl (cW_o0 G a S)) (vW_f G (sh 1 a) (S 0) (S 0)) (cW_i0 G a S) rfl rfl hl.1 rfl (Nat.le_of_ble_eq_true rfl) dX7_two_49 ⟨Nat.le_refl _, Nat.le_refl _⟩ (fun H locs hP hD hS => ?_)
          refine lv_if_ne (tgt := 62) hx hb dX7_two_52 (by decide) (fun c1313 => ?_) (fun c1313 => ?_)
          · have hf := ifF hf c1313
            refine lv_aload_n hx hb dX7_two_62 rfl (lv_at hl 0 rfl) ?_
            refine fc_get (v := .ref (a 1)) (ci := 4) (C := RX7) (T := TX7) (N := 8) hx hb hwX7 hown hE hP 0 (cW_o G a S) rfl 0 (by decide) hk_fieldLink_RX7_10__BrideNotKnown___now___LBrideNotKnown_Valley__ (fun _ h => h) rfl dX7_two_63 ?_
            refine lv_aload_n hx hb dX7_two_66 rfl (lv_at hl 0 rfl) ?_
            refine fc_get (v := .ref (a 9)) (ci := 4) (C := RX7) (T := TX7) (N := 8) hx hb hwX7 hown hE hP 0 (cW_o G a S) rfl 1 (by decide) hk_fieldLink_RX7_16__BrideNotKnown___thought___LBrideNotKnown_Valley__ (fun _ h => h) rfl dX7_two_67 ?_
            refine lv_iload_n hx hb dX7_two_70 rfl (lv_at hl 1 rfl) ?_
            refine lv_iload_n hx hb dX7_two_71 rfl (lv_at hl 2 rfl) ?_
            obtain ⟨q1314, hq1314, hf⟩ := bnd hf
            refine fc_callS (Wa' := (cW G a (sS S 1 q1314.2))) (st1 := [.int q1314.1]) (As := [.ref (a 1), .ref (a 9), .int x1, .int x2]) (rest := []) hCF (k_X0_firstRest (sh 1 a) (S 0) (sh 9 a) (S 1) x1 x2 hq1314) (va_cwS 4 hts gX7_two_X0_firstRest rfl rfl rfl dk_X0_firstRest ⟨Nat.le_of_ble_eq_true rfl, Nat.le_of_ble_eq_true rfl⟩) hE hAB hP hD hS [1, 2, 3, 4, 5, 6, 7, 8, 9, 10, 11, 12, 13, 14, 15, 16] (by decide +kernel) (cut_cut (cW_c0 G a S) (cW_c1 G a S)) (fst_fst (vW_f G (sh 1 a) (S 0) (S 0)) (vW_f G (sh 9 a) (S 1) q1314.2)) ((set_set (i1 := [1, 2, 3, 4, 5, 6, 7, 8]) (W1 := (vW G (sh 1 a) (S 0))) (vW_n G (sh 1 a) (S 0)).symm).trans ((congrArg (fun z => setAll z _ _) (cW_s1 G a S q1314.2)).trans (cW_i0 G a (sS S 1 q1314.2)))) rfl rfl hl.1 rfl (Nat.le_of_ble_eq_true rfl) dX7_two_72 ⟨Nat.le_refl _, Nat.le_refl _⟩ (fun H locs hP hD hS => ?_)
            exact fc_reti hx hb hr hlocks hP hS dX7_two_75 (i2a hf) (congrArg (fun z => (cW G a z)) (i2b hf))
          · have hf := ifT hf c1313
            refine lv_aload_n hx hb dX7_two_55 rfl (lv_at hl 0 rfl) ?_
            refine lv_bipush (v := (-3 : Int32)) hx hb dX7_two_56 (by decide) ?_
            obtain ⟨q1315, hq1315, hf⟩ := bnd hf
            refine fc_callV (Wa' := (cW G a q1315.2)) (st1 := [.int q1315.1]) (As := [.int (-3 : Int32)]) (rest := []) hCF (k_X7_refuse a S (-3 : Int32) hq1315) (cwV 1 hts gX7_two_X7_refuse rfl rfl rfl ⟨rfl, dk_X7_refuse⟩ ⟨Nat.le_of_ble_eq_true rfl, Nat.le_of_ble_eq_true rfl⟩) hE hAB hP hD hS [0, 1, 2, 3, 4, 5, 6, 7, 8, 9, 10, 11, 12, 13, 14, 15, 16, 17, 18, 19, 20, 21, 22, 23, 24, 25, 26, 27, 28, 29, 30, 31] cW_d (cW_c G a S) (va_recv hE.1 hP (ci := 4) (q0 := 0) rfl (cW_o G a S)) (cW_f G a S q1315.2) (cW_s G a S q1315.2) rfl rfl hl.1 rfl (Nat.le_of_ble_eq_true rfl) dX7_two_58 ⟨Nat.le_refl _, Nat.le_refl _⟩ (fun H locs hP hD hS => ?_)
            exact fc_reti hx hb hr hlocks hP hS dX7_two_61 (i2a hf) (congrArg (fun z => (cW G a z)) (i2b hf))
      · have hf := ifT hf c1308
        refine lv_aload_n hx hb dX7_two_27 rfl (lv_at hl 0 rfl) ?_
        refine lv_iconst (v := (-1 : Int32)) hx hb dX7_two_28 (by decide) ?_
        obtain ⟨q1316, hq1316, hf⟩ := bnd hf
        refine fc_callV (Wa' := (cW G a q1316.2)) (st1 := [.int q1316.1]) (As := [.int (-1 : Int32)]) (rest := []) hCF (k_X7_refuse a S (-1 : Int32) hq1316) (cwV 1 hts gX7_two_X7_refuse rfl rfl rfl ⟨rfl, dk_X7_refuse⟩ ⟨Nat.le_of_ble_eq_true rfl, Nat.le_of_ble_eq_true rfl⟩) hE hAB hP hD hS [0, 1, 2, 3, 4, 5, 6, 7, 8, 9, 10, 11, 12, 13, 14, 15, 16, 17, 18, 19, 20, 21, 22, 23, 24, 25, 26, 27, 28, 29, 30, 31] cW_d (cW_c G a S) (va_recv hE.1 hP (ci := 4) (q0 := 0) rfl (cW_o G a S)) (cW_f G a S q1316.2) (cW_s G a S q1316.2) rfl rfl hl.1 rfl (Nat.le_of_ble_eq_true rfl) dX7_two_29 ⟨Nat.le_refl _, Nat.le_refl _⟩ (fun H locs hP hD hS => ?_)
        exact fc_reti hx hb hr hlocks hP hS dX7_two_32 (i2a hf) (congrArg (fun z => (cW G a z)) (i2b hf))
theorem dk_X7_valley : yX7_valley.cls ≠ "java/lang/invoke/MethodHandle" ∧ yX7_valley.cls ≠ "java/lang/invoke/VarHandle" ∧ (parseMethodDescriptor yX7_valley.desc).map (fun d => d.parameters.length) = some 0 := by decide +kernel
theorem iu_X7_valley_X7 : ∀ w ∈ u_ws RX7 TX7 8, w ∈ wsX7_valley := by decide +kernel
set_option maxHeartbeats 4000000 in
set_option maxRecDepth 100000 in
theorem k_X7_valley {l : Launch} {G : Gx} (a : Nat → Nat) (S : (Nat → St)) {r : Int32} {S' : (Nat → St)} (hf : f_X7_valley S = some (r, S')) : FC l G yX7_valley wsX7_valley ({ frames := 7, cells := 0, slots := 0, locals := 160 } : Room) [.ref (a 0)] (cW G a S) (cW G a S') (some (.int r)) := by
  refine fc_head (cc := cX7_valley) (maxL := 2) (ret := (some .int)) (C := RX7) (lv := [(0, .ref (a 0))]) (by decide) rfl rfl (Nat.le_of_ble_eq_true rfl) rfl ?_
  intro p e s m below meth c ls A hx hb hr hml hown hts hlocks hE hP hD hAB hS hl
  have hCF : CallFix p m c cX7_valley 2 s ([.ref (a 0)] : List Value).toArray wsX7_valley RX7 := ⟨hx, hb, hml, hown, hts⟩
  have hwX7 : ∀ w ∈ u_ws RX7 TX7 8, w.before ([.ref (a 0)] : List Value).toArray s = true := fun w h => hts w (iu_X7_valley_X7 w h)
  have hk_fieldLink_RX7_16__BrideNotKnown___thought___LBrideNotKnown_Valley__ := hts (.fieldLink RX7 16 "BrideNotKnown" "thought" "LBrideNotKnown$Valley;") (List.mem_of_getElem? (i := 1) rfl)
  have hk_fieldLink_RX7_10__BrideNotKnown___now___LBrideNotKnown_Valley__ := hts (.fieldLink RX7 10 "BrideNotKnown" "now" "LBrideNotKnown$Valley;") (List.mem_of_getElem? (i := 2) rfl)
  have hk_fieldLink_RX7_25__BrideNotKnown___text___LBrideNotKnown_Text__ := hts (.fieldLink RX7 25 "BrideNotKnown" "text" "LBrideNotKnown$Text;") (List.mem_of_getElem? (i := 3) rfl)
  rw [f_X7_valley] at hf
  refine lv_aload_n hx hb dX7_valley_0 rfl (lv_at hl 0 rfl) ?_
  refine fc_get (v := .ref (a 9)) (ci := 4) (C := RX7) (T := TX7) (N := 8) hx hb hwX7 hown hE hP 0 (cW_o G a S) rfl 1 (by decide) hk_fieldLink_RX7_16__BrideNotKnown___thought___LBrideNotKnown_Valley__ (fun _ h => h) rfl dX7_valley_1 ?_
  refine lv_aload_n hx hb dX7_valley_4 rfl (lv_at hl 0 rfl) ?_
  refine fc_get (v := .ref (a 1)) (ci := 4) (C := RX7) (T := TX7) (N := 8) hx hb hwX7 hown hE hP 0 (cW_o G a S) rfl 0 (by decide) hk_fieldLink_RX7_10__BrideNotKnown___now___LBrideNotKnown_Valley__ (fun _ h => h) rfl dX7_valley_5 ?_
  obtain ⟨q1321, hq1321, hf⟩ := bnd hf
  refine fc_callV (Wa' := (cW G a (sS S 1 q1321))) (st1 := []) (As := [.ref (a 1)]) (rest := []) hCF (k_X6_become (sh 9 a) (S 1) (sh 1 a) (S 0) hq1321) (cwV 1 hts gX7_valley_X6_become rfl rfl rfl ⟨rfl, dk_X6_become⟩ ⟨Nat.le_of_ble_eq_true rfl, Nat.le_of_ble_eq_true rfl⟩) hE hAB hP hD hS [9, 10, 11, 12, 13, 14, 15, 16, 1, 2, 3, 4, 5, 6, 7, 8] (by decide +kernel) (cut_cut (cW_c1 G a S) (cW_c0 G a S)) (va_recv hE.1 hP (ci := 3) (q0 := 9) rfl (cW_o1 G a S)) (fst_fst (vW_f G (sh 9 a) (S 1) q1321) (vW_f G (sh 1 a) (S 0) (S 0))) ((set_set (i1 := [9, 10, 11, 12, 13, 14, 15, 16]) (W1 := (vW G (sh 9 a) q1321)) (vW_n G (sh 9 a) q1321).symm).trans ((congrArg (fun z => setAll z _ _) (cW_i0 G a S)).trans (cW_s1 G a S q1321))) rfl rfl hl.1 rfl (Nat.le_of_ble_eq_true rfl) dX7_valley_8 ⟨Nat.le_refl _, Nat.le_refl _⟩ (fun H locs hP hD hS => ?_)
  refine lv_aload_n hx hb dX7_valley_11 rfl (lv_at hl 0 rfl) ?_
  refine fc_get (v := .ref (a 25)) (ci := 4) (C := RX7) (T := TX7) (N := 8) hx hb hwX7 hown hE hP 0 (cW_o G a (sS S 1 q1321)) rfl 4 (by decide) hk_fieldLink_RX7_25__BrideNotKnown___text___LBrideNotKnown_Text__ (fun _ h => h) rfl dX7_valley_12 ?_
  refine lv_aload_n hx hb dX7_valley_15 rfl (lv_at hl 0 rfl) ?_
  refine fc_get (v := .ref (a 9)) (ci := 4) (C := RX7) (T := TX7) (N := 8) hx hb hwX7 hown hE hP 0 (cW_o G a (sS S 1 q1321)) rfl 1 (by decide) hk_fieldLink_RX7_16__BrideNotKnown___thought___LBrideNotKnown_Valley__ (fun _ h => h) rfl dX7_valley_16 ?_
  obtain ⟨q1322, hq1322, hf⟩ := bnd hf
  refine fc_callV (Wa' := (cW G a (sS (sS S 1 q1321) 1 q1322.2))) (st1 := [.int q1322.1]) (As := [.ref (a 9)]) (rest := []) hCF (k_X5_tellTo (sh 25 a) (S 3) (sh 9 a) q1321 hq1322) (cwV 1 hts gX7_valley_X5_tellTo rfl rfl rfl ⟨rfl, dk_X5_tellTo⟩ ⟨Nat.le_of_ble_eq_true rfl, Nat.le_of_ble_eq_true rfl⟩) hE hAB hP hD hS [25, 26, 9, 10, 11, 12, 13, 14, 15, 16] (by decide +kernel) (cut_cut (cW_c3 G a (sS S 1 q1321)) (cW_c1 G a (sS S 1 q1321))) (va_recv hE.1 hP (ci := 2) (q0 := 25) rfl (cW_o3 G a (sS S 1 q1321))) (fst_fst (tW_f G (sh 25 a) (S 3) (S 3)) (vW_f G (sh 9 a) q1321 q1322.2)) ((set_set (i1 := [25, 26]) (W1 := (tW G (sh 25 a) (S 3))) (tW_n G (sh 25 a) (S 3)).symm).trans ((congrArg (fun z => setAll z _ _) (cW_s1 G a (sS S 1 q1321) q1322.2)).trans (cW_i3 G a (sS (sS S 1 q1321) 1 q1322.2)))) rfl rfl hl.1 rfl (Nat.le_of_ble_eq_true rfl) dX7_valley_19 ⟨Nat.le_refl _, Nat.le_refl _⟩ (fun H locs hP hD hS => ?_)
  refine lv_istore_n (lv' := [(1, .int q1322.1), (0, .ref (a 0))]) hx hb dX7_valley_22 rfl hl (by decide) rfl (fun ls hl => ?_)
  refine lv_aload_n hx hb dX7_valley_23 rfl (lv_at hl 1 rfl) ?_
  refine fc_get (v := .ref (a 25)) (ci := 4) (C := RX7) (T := TX7) (N := 8) hx hb hwX7 hown hE hP 0 (cW_o G a (sS (sS S 1 q1321) 1 q1322.2)) rfl 4 (by decide) hk_fieldLink_RX7_25__BrideNotKnown___text___LBrideNotKnown_Text__ (fun _ h => h) rfl dX7_valley_24 ?_
  obtain ⟨q1323, hq1323, hf⟩ := bnd hf
  refine fc_callV (Wa' := (cW G a (sS (sS (sS S 1 q1321) 1 q1322.2) 3 q1323))) (st1 := []) (As := []) (rest := []) hCF (k_X5_empty (sh 25 a) (S 3) hq1323) (cwV 0 hts gX7_valley_X5_empty rfl rfl rfl ⟨rfl, dk_X5_empty⟩ ⟨Nat.le_of_ble_eq_true rfl, Nat.le_of_ble_eq_true rfl⟩) hE hAB hP hD hS [25, 26] cW_d3 (cW_c3 G a (sS (sS S 1 q1321) 1 q1322.2)) (va_recv hE.1 hP (ci := 2) (q0 := 25) rfl (cW_o3 G a (sS (sS S 1 q1321) 1 q1322.2))) (tW_f G (sh 25 a) (S 3) q1323) (cW_s3 G a (sS (sS S 1 q1321) 1 q1322.2) q1323) rfl rfl hl.1 rfl (Nat.le_of_ble_eq_true rfl) dX7_valley_27 ⟨Nat.le_refl _, Nat.le_refl _⟩ (fun H locs hP hD hS => ?_)
  refine lv_iload_n hx hb dX7_valley_30 rfl (lv_at hl 0 rfl) ?_
  refine lv_if_lt (tgt := 45) hx hb dX7_valley_31 (by decide) (fun c1324 => ?_) (fun c1324 => ?_)
  · have hf := ifT hf c1324
    refine lv_iload_n hx hb dX7_valley_45 rfl (lv_at hl 0 rfl) ?_
    exact fc_reti hx hb hr hlocks hP hS dX7_valley_46 (i2a hf) (congrArg (fun z => (cW G a z)) (i2b hf))
  · have hf := ifF hf c1324
    refine lv_aload_n hx hb dX7_valley_34 rfl (lv_at hl 1 rfl) ?_
    refine fc_get (v := .ref (a 1)) (ci := 4) (C := RX7) (T := TX7) (N := 8) hx hb hwX7 hown hE hP 0 (cW_o G a (sS (sS (sS S 1 q1321) 1 q1322.2) 3 q1323)) rfl 0 (by decide) hk_fieldLink_RX7_10__BrideNotKnown___now___LBrideNotKnown_Valley__ (fun _ h => h) rfl dX7_valley_35 ?_
    refine lv_aload_n hx hb dX7_valley_38 rfl (lv_at hl 1 rfl) ?_
    refine fc_get (v := .ref (a 9)) (ci := 4) (C := RX7) (T := TX7) (N := 8) hx hb hwX7 hown hE hP 0 (cW_o G a (sS (sS (sS S 1 q1321) 1 q1322.2) 3 q1323)) rfl 1 (by decide) hk_fieldLink_RX7_16__BrideNotKnown___thought___LBrideNotKnown_Valley__ (fun _ h => h) rfl dX7_valley_39 ?_
    obtain ⟨q1325, hq1325, hf⟩ := bnd hf
    refine fc_callV (Wa' := (cW G a (sS (sS (sS (sS S 1 q1321) 1 q1322.2) 3 q1323) 0 q1325))) (st1 := []) (As := [.ref (a 9)]) (rest := []) hCF (k_X6_become (sh 1 a) (S 0) (sh 9 a) q1322.2 hq1325) (cwV 1 hts gX7_valley_X6_become rfl rfl rfl ⟨rfl, dk_X6_become⟩ ⟨Nat.le_of_ble_eq_true rfl, Nat.le_of_ble_eq_true rfl⟩) hE hAB hP hD hS [1, 2, 3, 4, 5, 6, 7, 8, 9, 10, 11, 12, 13, 14, 15, 16] (by decide +kernel) (cut_cut (cW_c0 G a (sS (sS (sS S 1 q1321) 1 q1322.2) 3 q1323)) (cW_c1 G a (sS (sS (sS S 1 q1321) 1 q1322.2) 3 q1323))) (va_recv hE.1 hP (ci := 3) (q0 := 1) rfl (cW_o0 G a (sS (sS (sS S 1 q1321) 1 q1322.2) 3 q1323))) (fst_fst (vW_f G (sh 1 a) (S 0) q1325) (vW_f G (sh 9 a) q1322.2 q1322.2)) ((set_set (i1 := [1, 2, 3, 4, 5, 6, 7, 8]) (W1 := (vW G (sh 1 a) q1325)) (vW_n G (sh 1 a) q1325).symm).trans ((congrArg (fun z => setAll z _ _) (cW_i1 G a (sS (sS (sS S 1 q1321) 1 q1322.2) 3 q1323))).trans (cW_s0 G a (sS (sS (sS S 1 q1321) 1 q1322.2) 3 q1323) q1325))) rfl rfl hl.1 rfl (Nat.le_of_ble_eq_true rfl) dX7_valley_42 ⟨Nat.le_refl _, Nat.le_refl _⟩ (fun H locs hP hD hS => ?_)
    refine lv_iload_n hx hb dX7_valley_45 rfl (lv_at hl 0 rfl) ?_
    exact fc_reti hx hb hr hlocks hP hS dX7_valley_46 (i2a hf) (congrArg (fun z => (cW G a z)) (i2b hf))
theorem dk_X7_wedding : yX7_wedding.cls ≠ "java/lang/invoke/MethodHandle" ∧ yX7_wedding.cls ≠ "java/lang/invoke/VarHandle" ∧ (parseMethodDescriptor yX7_wedding.desc).map (fun d => d.parameters.length) = some 1 := by decide +kernel
theorem iu_X7_wedding_X7 : ∀ w ∈ u_ws RX7 TX7 8, w ∈ wsX7_wedding := by decide +kernel
set_option maxHeartbeats 4000000 in
set_option maxRecDepth 100000 in
theorem k_X7_wedding {l : Launch} {G : Gx} (a : Nat → Nat) (S : (Nat → St)) (x1 : Int32) {r : Int32} {S' : (Nat → St)} (hf : f_X7_wedding S x1 = some (r, S')) : FC l G yX7_wedding wsX7_wedding ({ frames := 4, cells := 0, slots := 0, locals := 102 } : Room) [.ref (a 0), .int x1] (cW G a S) (cW G a S') (some (.int r)) := by
  refine fc_head (cc := cX7_wedding) (maxL := 2) (ret := (some .int)) (C := RX7) (lv := [(0, .ref (a 0)), (1, .int x1)]) (by decide) rfl rfl (Nat.le_of_ble_eq_true rfl) rfl ?_
  intro p e s m below meth c ls A hx hb hr hml hown hts hlocks hE hP hD hAB hS hl
  have hCF : CallFix p m c cX7_wedding 2 s ([.ref (a 0), .int x1] : List Value).toArray wsX7_wedding RX7 := ⟨hx, hb, hml, hown, hts⟩
  have hwX7 : ∀ w ∈ u_ws RX7 TX7 8, w.before ([.ref (a 0), .int x1] : List Value).toArray s = true := fun w h => hts w (iu_X7_wedding_X7 w h)
  have hk_fieldLink_RX7_10__BrideNotKnown___now___LBrideNotKnown_Valley__ := hts (.fieldLink RX7 10 "BrideNotKnown" "now" "LBrideNotKnown$Valley;") (List.mem_of_getElem? (i := 1) rfl)
  rw [f_X7_wedding] at hf
  refine lv_aload_n hx hb dX7_wedding_0 rfl (lv_at hl 0 rfl) ?_
  refine fc_get (v := .ref (a 1)) (ci := 4) (C := RX7) (T := TX7) (N := 8) hx hb hwX7 hown hE hP 0 (cW_o G a S) rfl 0 (by decide) hk_fieldLink_RX7_10__BrideNotKnown___now___LBrideNotKnown_Valley__ (fun _ h => h) rfl dX7_wedding_1 ?_
  refine lv_iload_n hx hb dX7_wedding_4 rfl (lv_at hl 1 rfl) ?_
  obtain ⟨q1331, hq1331, hf⟩ := bnd hf
  refine fc_callV (Wa' := (cW G a S)) (st1 := [.int q1331]) (As := [.int x1]) (rest := []) hCF (k_X6_hasGroom (sh 1 a) (S 0) x1 hq1331) (cwV 1 hts gX7_wedding_X6_hasGroom rfl rfl rfl ⟨rfl, dk_X6_hasGroom⟩ ⟨Nat.le_of_ble_eq_true rfl, Nat.le_of_ble_eq_true rfl⟩) hE hAB hP hD hS [1, 2, 3, 4, 5, 6, 7, 8] cW_d0 (cW_c0 G a S) (va_recv hE.1 hP (ci := 3) (q0 := 1) rfl (cW_o0 G a S)) (vW_f G (sh 1 a) (S 0) (S 0)) (cW_i0 G a S) rfl rfl hl.1 rfl (Nat.le_of_ble_eq_true rfl) dX7_wedding_5 ⟨Nat.le_refl _, Nat.le_refl _⟩ (fun H locs hP hD hS => ?_)
  refine lv_if_ne (tgt := 17) hx hb dX7_wedding_8 (by decide) (fun c1332 => ?_) (fun c1332 => ?_)
  · have hf := ifF hf c1332
    refine lv_aload_n hx hb dX7_wedding_17 rfl (lv_at hl 0 rfl) ?_
    refine fc_get (v := .ref (a 1)) (ci := 4) (C := RX7) (T := TX7) (N := 8) hx hb hwX7 hown hE hP 0 (cW_o G a S) rfl 0 (by decide) hk_fieldLink_RX7_10__BrideNotKnown___now___LBrideNotKnown_Valley__ (fun _ h => h) rfl dX7_wedding_18 ?_
    refine lv_iload_n hx hb dX7_wedding_21 rfl (lv_at hl 1 rfl) ?_
    obtain ⟨q1333, hq1333, hf⟩ := bnd hf
    refine fc_callV (Wa' := (cW G a S)) (st1 := [.int q1333]) (As := [.int x1]) (rest := []) hCF (k_X6_canWed (sh 1 a) (S 0) x1 hq1333) (cwV 1 hts gX7_wedding_X6_canWed rfl rfl rfl ⟨rfl, dk_X6_canWed⟩ ⟨Nat.le_of_ble_eq_true rfl, Nat.le_of_ble_eq_true rfl⟩) hE hAB hP hD hS [1, 2, 3, 4, 5, 6, 7, 8] cW_d0 (cW_c0 G a S) (va_recv hE.1 hP (ci := 3) (q0 := 1) rfl (cW_o0 G a S)) (vW_f G (sh 1 a) (S 0) (S 0)) (cW_i0 G a S) rfl rfl hl.1 rfl (Nat.le_of_ble_eq_true rfl) dX7_wedding_22 ⟨Nat.le_refl _, Nat.le_refl _⟩ (fun H locs hP hD hS => ?_)
    refine lv_if_ne (tgt := 35) hx hb dX7_wedding_25 (by decide) (fun c1334 => ?_) (fun c1334 => ?_)
    · have hf := ifF hf c1334
      refine lv_aload_n hx hb dX7_wedding_35 rfl (lv_at hl 0 rfl) ?_
      refine fc_get (v := .ref (a 1)) (ci := 4) (C := RX7) (T := TX7) (N := 8) hx hb hwX7 hown hE hP 0 (cW_o G a S) rfl 0 (by decide) hk_fieldLink_RX7_10__BrideNotKnown___now___LBrideNotKnown_Valley__ (fun _ h => h) rfl dX7_wedding_36 ?_
      refine lv_iload_n hx hb dX7_wedding_39 rfl (lv_at hl 1 rfl) ?_
      obtain ⟨q1335, hq1335, hf⟩ := bnd hf
      refine fc_callV (Wa' := (cW G a (sS S 0 q1335.2))) (st1 := [.int q1335.1]) (As := [.int x1]) (rest := []) hCF (k_X6_wed (sh 1 a) (S 0) x1 hq1335) (cwV 1 hts gX7_wedding_X6_wed rfl rfl rfl ⟨rfl, dk_X6_wed⟩ ⟨Nat.le_of_ble_eq_true rfl, Nat.le_of_ble_eq_true rfl⟩) hE hAB hP hD hS [1, 2, 3, 4, 5, 6, 7, 8] cW_d0 (cW_c0 G a S) (va_recv hE.1 hP (ci := 3) (q0 := 1) rfl (cW_o0 G a S)) (vW_f G (sh 1 a) (S 0) q1335.2) (cW_s0 G a S q1335.2) rfl rfl hl.1 rfl (Nat.le_of_ble_eq_true rfl) dX7_wedding_40 ⟨Nat.le_refl _, Nat.le_refl _⟩ (fun H locs hP hD hS => ?_)
      exact fc_reti hx hb hr hlocks hP hS dX7_wedding_43 (i2a hf) (congrArg (fun z => (cW G a z)) (i2b hf))
    · have hf := ifT hf c1334
      refine lv_aload_n hx hb dX7_wedding_28 rfl (lv_at hl 0 rfl) ?_
      refine lv_bipush (v := (-3 : Int32)) hx hb dX7_wedding_29 (by decide) ?_
      obtain ⟨q1336, hq1336, hf⟩ := bnd hf
      refine fc_callV (Wa' := (cW G a q1336.2)) (st1 := [.int q1336.1]) (As := [.int (-3 : Int32)]) (rest := []) hCF (k_X7_refuse a S (-3 : Int32) hq1336) (cwV 1 hts gX7_wedding_X7_refuse rfl rfl rfl ⟨rfl, dk_X7_refuse⟩ ⟨Nat.le_of_ble_eq_true rfl, Nat.le_of_ble_eq_true rfl⟩) hE hAB hP hD hS [0, 1, 2, 3, 4, 5, 6, 7, 8, 9, 10, 11, 12, 13, 14, 15, 16, 17, 18, 19, 20, 21, 22, 23, 24, 25, 26, 27, 28, 29, 30, 31] cW_d (cW_c G a S) (va_recv hE.1 hP (ci := 4) (q0 := 0) rfl (cW_o G a S)) (cW_f G a S q1336.2) (cW_s G a S q1336.2) rfl rfl hl.1 rfl (Nat.le_of_ble_eq_true rfl) dX7_wedding_31 ⟨Nat.le_refl _, Nat.le_refl _⟩ (fun H locs hP hD hS => ?_)
      exact fc_reti hx hb hr hlocks hP hS dX7_wedding_34 (i2a hf) (congrArg (fun z => (cW G a z)) (i2b hf))
  · have hf := ifT hf c1332
    refine lv_aload_n hx hb dX7_wedding_11 rfl (lv_at hl 0 rfl) ?_
    refine lv_iconst (v := (-1 : Int32)) hx hb dX7_wedding_12 (by decide) ?_
    obtain ⟨q1337, hq1337, hf⟩ := bnd hf
    refine fc_callV (Wa' := (cW G a q1337.2)) (st1 := [.int q1337.1]) (As := [.int (-1 : Int32)]) (rest := []) hCF (k_X7_refuse a S (-1 : Int32) hq1337) (cwV 1 hts gX7_wedding_X7_refuse rfl rfl rfl ⟨rfl, dk_X7_refuse⟩ ⟨Nat.le_of_ble_eq_true rfl, Nat.le_of_ble_eq_true rfl⟩) hE hAB hP hD hS [0, 1, 2, 3, 4, 5, 6, 7, 8, 9, 10, 11, 12, 13, 14, 15, 16, 17, 18, 19, 20, 21, 22, 23, 24, 25, 26, 27, 28, 29, 30, 31] cW_d (cW_c G a S) (va_recv hE.1 hP (ci := 4) (q0 := 0) rfl (cW_o G a S)) (cW_f G a S q1337.2) (cW_s G a S q1337.2) rfl rfl hl.1 rfl (Nat.le_of_ble_eq_true rfl) dX7_wedding_13 ⟨Nat.le_refl _, Nat.le_refl _⟩ (fun H locs hP hD hS => ?_)
    exact fc_reti hx hb hr hlocks hP hS dX7_wedding_16 (i2a hf) (congrArg (fun z => (cW G a z)) (i2b hf))
theorem dk_X7_whatIs : yX7_whatIs.cls ≠ "java/lang/invoke/MethodHandle" ∧ yX7_whatIs.cls ≠ "java/lang/invoke/VarHandle" ∧ (parseMethodDescriptor yX7_whatIs.desc).map (fun d => d.parameters.length) = some 2 := by decide +kernel
theorem iu_X7_whatIs_X7 : ∀ w ∈ u_ws RX7 TX7 8, w ∈ wsX7_whatIs := by decide +kernel
set_option maxHeartbeats 4000000 in
set_option maxRecDepth 100000 in
theorem k_X7_whatIs {l : Launch} {G : Gx} (a : Nat → Nat) (S : (Nat → St)) (x1 : Int32) (x2 : Int32) {r : Int32} {S' : (Nat → St)} (hf : f_X7_whatIs S x1 x2 = some (r, S')) : FC l G yX7_whatIs wsX7_whatIs ({ frames := 4, cells := 0, slots := 0, locals := 98 } : Room) [.ref (a 0), .int x1, .int x2] (cW G a S) (cW G a S') (some (.int r)) := by
  refine fc_head (cc := cX7_whatIs) (maxL := 3) (ret := (some .int)) (C := RX7) (lv := [(0, .ref (a 0)), (1, .int x1), (2, .int x2)]) (by decide) rfl rfl (Nat.le_of_ble_eq_true rfl) rfl ?_
  intro p e s m below meth c ls A hx hb hr hml hown hts hlocks hE hP hD hAB hS hl
  have hCF : CallFix p m c cX7_whatIs 3 s ([.ref (a 0), .int x1, .int x2] : List Value).toArray wsX7_whatIs RX7 := ⟨hx, hb, hml, hown, hts⟩
  have hwX7 : ∀ w ∈ u_ws RX7 TX7 8, w.before ([.ref (a 0), .int x1, .int x2] : List Value).toArray s = true := fun w h => hts w (iu_X7_whatIs_X7 w h)
  have hk_fieldLink_RX7_10__BrideNotKnown___now___LBrideNotKnown_Valley__ := hts (.fieldLink RX7 10 "BrideNotKnown" "now" "LBrideNotKnown$Valley;") (List.mem_of_getElem? (i := 1) rfl)
  have hk_fieldLink_RX7_32__BrideNotKnown___numbers___LBrideNotKnown_Row__ := hts (.fieldLink RX7 32 "BrideNotKnown" "numbers" "LBrideNotKnown$Row;") (List.mem_of_getElem? (i := 2) rfl)
  rw [f_X7_whatIs] at hf
  refine lv_aload_n hx hb dX7_whatIs_0 rfl (lv_at hl 0 rfl) ?_
  refine fc_get (v := .ref (a 1)) (ci := 4) (C := RX7) (T := TX7) (N := 8) hx hb hwX7 hown hE hP 0 (cW_o G a S) rfl 0 (by decide) hk_fieldLink_RX7_10__BrideNotKnown___now___LBrideNotKnown_Valley__ (fun _ h => h) rfl dX7_whatIs_1 ?_
  refine lv_iload_n hx hb dX7_whatIs_4 rfl (lv_at hl 1 rfl) ?_
  obtain ⟨q1344, hq1344, hf⟩ := bnd hf
  refine fc_callV (Wa' := (cW G a S)) (st1 := [.int q1344]) (As := [.int x1]) (rest := []) hCF (k_X6_hasBride (sh 1 a) (S 0) x1 hq1344) (cwV 1 hts gX7_whatIs_X6_hasBride rfl rfl rfl ⟨rfl, dk_X6_hasBride⟩ ⟨Nat.le_of_ble_eq_true rfl, Nat.le_of_ble_eq_true rfl⟩) hE hAB hP hD hS [1, 2, 3, 4, 5, 6, 7, 8] cW_d0 (cW_c0 G a S) (va_recv hE.1 hP (ci := 3) (q0 := 1) rfl (cW_o0 G a S)) (vW_f G (sh 1 a) (S 0) (S 0)) (cW_i0 G a S) rfl rfl hl.1 rfl (Nat.le_of_ble_eq_true rfl) dX7_whatIs_5 ⟨Nat.le_refl _, Nat.le_refl _⟩ (fun H locs hP hD hS => ?_)
  refine lv_if_ne (tgt := 17) hx hb dX7_whatIs_8 (by decide) (fun c1345 => ?_) (fun c1345 => ?_)
  · have hf := ifF hf c1345
    refine lv_iload_n hx hb dX7_whatIs_17 rfl (lv_at hl 2 rfl) ?_
    obtain ⟨q1346, hq1346, hf⟩ := bnd hf
    refine fc_callS (Wa' := (cW G a S)) (st1 := [.int q1346]) (As := [.int x2]) (rest := []) hCF (k_X7_isNotEither x2 hq1346) (va_cwS 1 hts gX7_whatIs_X7_isNotEither rfl rfl rfl dk_X7_isNotEither ⟨Nat.le_of_ble_eq_true rfl, Nat.le_of_ble_eq_true rfl⟩) hE hAB hP hD hS [] rfl rfl rfl rfl rfl rfl hl.1 rfl (Nat.le_of_ble_eq_true rfl) dX7_whatIs_18 ⟨Nat.le_refl _, Nat.le_refl _⟩ (fun H locs hP hD hS => ?_)
    refine lv_if_eq (tgt := 31) hx hb dX7_whatIs_21 (by decide) (fun c1347 => ?_) (fun c1347 => ?_)
    · have hf := ifT hf c1347
      refine lv_iload_n hx hb dX7_whatIs_31 rfl (lv_at hl 2 rfl) ?_
      refine lv_if_ne (tgt := 50) hx hb dX7_whatIs_32 (by decide) (fun c1348 => ?_) (fun c1348 => ?_)
      · have hf := ifF hf c1348
        refine lv_aload_n hx hb dX7_whatIs_50 rfl (lv_at hl 0 rfl) ?_
        refine fc_get (v := .ref (a 27)) (ci := 4) (C := RX7) (T := TX7) (N := 8) hx hb hwX7 hown hE hP 0 (cW_o G a S) rfl 5 (by decide) hk_fieldLink_RX7_32__BrideNotKnown___numbers___LBrideNotKnown_Row__ (fun _ h => h) rfl dX7_whatIs_51 ?_
        refine lv_aload_n hx hb dX7_whatIs_54 rfl (lv_at hl 0 rfl) ?_
        refine fc_get (v := .ref (a 1)) (ci := 4) (C := RX7) (T := TX7) (N := 8) hx hb hwX7 hown hE hP 0 (cW_o G a S) rfl 0 (by decide) hk_fieldLink_RX7_10__BrideNotKnown___now___LBrideNotKnown_Valley__ (fun _ h => h) rfl dX7_whatIs_55 ?_
        refine lv_iload_n hx hb dX7_whatIs_58 rfl (lv_at hl 1 rfl) ?_
        obtain ⟨q1349, hq1349, hf⟩ := bnd hf
        refine fc_callV (Wa' := (cW G a S)) (st1 := [.int q1349]) (As := [.ref (a 1), .int x1]) (rest := []) hCF (k_X4_figuresOf (sh 27 a) (S 4) (sh 1 a) (S 0) x1 hq1349) (cwV 2 hts gX7_whatIs_X4_figuresOf rfl rfl rfl ⟨rfl, dk_X4_figuresOf⟩ ⟨Nat.le_of_ble_eq_true rfl, Nat.le_of_ble_eq_true rfl⟩) hE hAB hP hD hS [27, 28, 1, 2, 3, 4, 5, 6, 7, 8] (by decide +kernel) (cut_cut (cW_c4 G a S) (cW_c0 G a S)) (va_recv hE.1 hP (ci := 1) (q0 := 27) rfl (cW_o4 G a S)) (fst_fst (rW_f G (sh 27 a) (S 4) (S 4)) (vW_f G (sh 1 a) (S 0) (S 0))) ((set_set (i1 := [27, 28]) (W1 := (rW G (sh 27 a) (S 4))) (rW_n G (sh 27 a) (S 4)).symm).trans ((congrArg (fun z => setAll z _ _) (cW_i0 G a S)).trans (cW_i4 G a S))) rfl rfl hl.1 rfl (Nat.le_of_ble_eq_true rfl) dX7_whatIs_59 ⟨Nat.le_refl _, Nat.le_refl _⟩ (fun H locs hP hD hS => ?_)
        exact fc_reti hx hb hr hlocks hP hS dX7_whatIs_62 (i2a hf) (congrArg (fun z => (cW G a z)) (i2b hf))
      · have hf := ifT hf c1348
        refine lv_aload_n hx hb dX7_whatIs_35 rfl (lv_at hl 0 rfl) ?_
        refine fc_get (v := .ref (a 27)) (ci := 4) (C := RX7) (T := TX7) (N := 8) hx hb hwX7 hown hE hP 0 (cW_o G a S) rfl 5 (by decide) hk_fieldLink_RX7_32__BrideNotKnown___numbers___LBrideNotKnown_Row__ (fun _ h => h) rfl dX7_whatIs_36 ?_
        refine lv_aload_n hx hb dX7_whatIs_39 rfl (lv_at hl 0 rfl) ?_
        refine fc_get (v := .ref (a 1)) (ci := 4) (C := RX7) (T := TX7) (N := 8) hx hb hwX7 hown hE hP 0 (cW_o G a S) rfl 0 (by decide) hk_fieldLink_RX7_10__BrideNotKnown___now___LBrideNotKnown_Valley__ (fun _ h => h) rfl dX7_whatIs_40 ?_
        refine lv_iload_n hx hb dX7_whatIs_43 rfl (lv_at hl 1 rfl) ?_
        obtain ⟨q1350, hq1350, hf⟩ := bnd hf
        refine fc_callV (Wa' := (cW G a S)) (st1 := [.int q1350]) (As := [.ref (a 1), .int x1]) (rest := []) hCF (k_X4_kindsOf (sh 27 a) (S 4) (sh 1 a) (S 0) x1 hq1350) (cwV 2 hts gX7_whatIs_X4_kindsOf rfl rfl rfl ⟨rfl, dk_X4_kindsOf⟩ ⟨Nat.le_of_ble_eq_true rfl, Nat.le_of_ble_eq_true rfl⟩) hE hAB hP hD hS [27, 28, 1, 2, 3, 4, 5, 6, 7, 8] (by decide +kernel) (cut_cut (cW_c4 G a S) (cW_c0 G a S)) (va_recv hE.1 hP (ci := 1) (q0 := 27) rfl (cW_o4 G a S)) (fst_fst (rW_f G (sh 27 a) (S 4) (S 4)) (vW_f G (sh 1 a) (S 0) (S 0))) ((set_set (i1 := [27, 28]) (W1 := (rW G (sh 27 a) (S 4))) (rW_n G (sh 27 a) (S 4)).symm).trans ((congrArg (fun z => setAll z _ _) (cW_i0 G a S)).trans (cW_i4 G a S))) rfl rfl hl.1 rfl (Nat.le_of_ble_eq_true rfl) dX7_whatIs_44 ⟨Nat.le_refl _, Nat.le_refl _⟩ (fun H locs hP hD hS => ?_)
        refine lv_goto (tgt := 62) hx hb dX7_whatIs_47 (by decide) ?_
        exact fc_reti hx hb hr hlocks hP hS dX7_whatIs_62 (i2a hf) (congrArg (fun z => (cW G a z)) (i2b hf))
    · have hf := ifF hf c1347
      refine lv_aload_n hx hb dX7_whatIs_24 rfl (lv_at hl 0 rfl) ?_
      refine lv_bipush (v := (-2 : Int32)) hx hb dX7_whatIs_25 (by decide) ?_
      obtain ⟨q1351, hq1351, hf⟩ := bnd hf
      refine fc_callV (Wa' := (cW G a q1351.2)) (st1 := [.int q1351.1]) (As := [.int (-2 : Int32)]) (rest := []) hCF (k_X7_refuse a S (-2 : Int32) hq1351) (cwV 1 hts gX7_whatIs_X7_refuse rfl rfl rfl ⟨rfl, dk_X7_refuse⟩ ⟨Nat.le_of_ble_eq_true rfl, Nat.le_of_ble_eq_true rfl⟩) hE hAB hP hD hS [0, 1, 2, 3, 4, 5, 6, 7, 8, 9, 10, 11, 12, 13, 14, 15, 16, 17, 18, 19, 20, 21, 22, 23, 24, 25, 26, 27, 28, 29, 30, 31] cW_d (cW_c G a S) (va_recv hE.1 hP (ci := 4) (q0 := 0) rfl (cW_o G a S)) (cW_f G a S q1351.2) (cW_s G a S q1351.2) rfl rfl hl.1 rfl (Nat.le_of_ble_eq_true rfl) dX7_whatIs_27 ⟨Nat.le_refl _, Nat.le_refl _⟩ (fun H locs hP hD hS => ?_)
      exact fc_reti hx hb hr hlocks hP hS dX7_whatIs_30 (i2a hf) (congrArg (fun z => (cW G a z)) (i2b hf))
  · have hf := ifT hf c1345
    refine lv_aload_n hx hb dX7_whatIs_11 rfl (lv_at hl 0 rfl) ?_
    refine lv_iconst (v := (-1 : Int32)) hx hb dX7_whatIs_12 (by decide) ?_
    obtain ⟨q1352, hq1352, hf⟩ := bnd hf
    refine fc_callV (Wa' := (cW G a q1352.2)) (st1 := [.int q1352.1]) (As := [.int (-1 : Int32)]) (rest := []) hCF (k_X7_refuse a S (-1 : Int32) hq1352) (cwV 1 hts gX7_whatIs_X7_refuse rfl rfl rfl ⟨rfl, dk_X7_refuse⟩ ⟨Nat.le_of_ble_eq_true rfl, Nat.le_of_ble_eq_true rfl⟩) hE hAB hP hD hS [0, 1, 2, 3, 4, 5, 6, 7, 8, 9, 10, 11, 12, 13, 14, 15, 16, 17, 18, 19, 20, 21, 22, 23, 24, 25, 26, 27, 28, 29, 30, 31] cW_d (cW_c G a S) (va_recv hE.1 hP (ci := 4) (q0 := 0) rfl (cW_o G a S)) (cW_f G a S q1352.2) (cW_s G a S q1352.2) rfl rfl hl.1 rfl (Nat.le_of_ble_eq_true rfl) dX7_whatIs_13 ⟨Nat.le_refl _, Nat.le_refl _⟩ (fun H locs hP hD hS => ?_)
    exact fc_reti hx hb hr hlocks hP hS dX7_whatIs_16 (i2a hf) (congrArg (fun z => (cW G a z)) (i2b hf))
theorem dk_X7_when : yX7_when.cls ≠ "java/lang/invoke/MethodHandle" ∧ yX7_when.cls ≠ "java/lang/invoke/VarHandle" ∧ (parseMethodDescriptor yX7_when.desc).map (fun d => d.parameters.length) = some 1 := by decide +kernel
theorem iu_X7_when_X7 : ∀ w ∈ u_ws RX7 TX7 8, w ∈ wsX7_when := by decide +kernel
set_option maxHeartbeats 4000000 in
set_option maxRecDepth 100000 in
theorem k_X7_when {l : Launch} {G : Gx} (a : Nat → Nat) (S : (Nat → St)) (x1 : Int32) {r : Int32} {S' : (Nat → St)} (hf : f_X7_when S x1 = some (r, S')) : FC l G yX7_when wsX7_when ({ frames := 4, cells := 0, slots := 0, locals := 99 } : Room) [.ref (a 0), .int x1] (cW G a S) (cW G a S') (some (.int r)) := by
  refine fc_head (cc := cX7_when) (maxL := 3) (ret := (some .int)) (C := RX7) (lv := [(0, .ref (a 0)), (1, .int x1)]) (by decide) rfl rfl (Nat.le_of_ble_eq_true rfl) rfl ?_
  intro p e s m below meth c ls A hx hb hr hml hown hts hlocks hE hP hD hAB hS hl
  have hCF : CallFix p m c cX7_when 3 s ([.ref (a 0), .int x1] : List Value).toArray wsX7_when RX7 := ⟨hx, hb, hml, hown, hts⟩
  have hwX7 : ∀ w ∈ u_ws RX7 TX7 8, w.before ([.ref (a 0), .int x1] : List Value).toArray s = true := fun w h => hts w (iu_X7_when_X7 w h)
  have hk_fieldLink_RX7_10__BrideNotKnown___now___LBrideNotKnown_Valley__ := hts (.fieldLink RX7 10 "BrideNotKnown" "now" "LBrideNotKnown$Valley;") (List.mem_of_getElem? (i := 1) rfl)
  rw [f_X7_when] at hf
  refine lv_aload_n hx hb dX7_when_0 rfl (lv_at hl 0 rfl) ?_
  refine fc_get (v := .ref (a 1)) (ci := 4) (C := RX7) (T := TX7) (N := 8) hx hb hwX7 hown hE hP 0 (cW_o G a S) rfl 0 (by decide) hk_fieldLink_RX7_10__BrideNotKnown___now___LBrideNotKnown_Valley__ (fun _ h => h) rfl dX7_when_1 ?_
  refine lv_iload_n hx hb dX7_when_4 rfl (lv_at hl 1 rfl) ?_
  obtain ⟨q1356, hq1356, hf⟩ := bnd hf
  refine fc_callV (Wa' := (cW G a S)) (st1 := [.int q1356]) (As := [.int x1]) (rest := []) hCF (k_X6_hasGroom (sh 1 a) (S 0) x1 hq1356) (cwV 1 hts gX7_when_X6_hasGroom rfl rfl rfl ⟨rfl, dk_X6_hasGroom⟩ ⟨Nat.le_of_ble_eq_true rfl, Nat.le_of_ble_eq_true rfl⟩) hE hAB hP hD hS [1, 2, 3, 4, 5, 6, 7, 8] cW_d0 (cW_c0 G a S) (va_recv hE.1 hP (ci := 3) (q0 := 1) rfl (cW_o0 G a S)) (vW_f G (sh 1 a) (S 0) (S 0)) (cW_i0 G a S) rfl rfl hl.1 rfl (Nat.le_of_ble_eq_true rfl) dX7_when_5 ⟨Nat.le_refl _, Nat.le_refl _⟩ (fun H locs hP hD hS => ?_)
  refine lv_if_ne (tgt := 17) hx hb dX7_when_8 (by decide) (fun c1357 => ?_) (fun c1357 => ?_)
  · have hf := ifF hf c1357
    refine lv_iconst (v := (0 : Int32)) hx hb dX7_when_17 (by decide) ?_
    refine lv_istore_n (lv' := [(2, .int (0 : Int32)), (0, .ref (a 0)), (1, .int x1)]) hx hb dX7_when_18 rfl hl (by decide) rfl (fun ls hl => ?_)
    have L19_1359 : ∀ (n : Nat) (x2_1358 : Int32) (H : Heap) (locs : List Loc) (ls : Array Slot), va_P (gD G) vwCl (cW G a S) H → va_D A (cW G a S) → va_S A s.heap H locs → lv_has ls 3 [(0, .ref (a 0)), (1, .int x1), (2, .int x2_1358)] → f_X7_when_19 S x1 n x2_1358 = some (r, S') → W p l e (headSpec wsX7_when ({ frames := 4, cells := 0, slots := 0, locals := 99 } : Room)).room s m ([.ref (a 0), .int x1] : List Value).toArray below meth c H locs 0 0 (MQ below (FQ G A (cW G a S') (some (.int r))) ([.ref (a 0), .int x1] : List Value).toArray s 0 0 A) (F0 m 19 ls []) := by
      intro n
      induction n with
      | zero =>
        intro x2_1358 H locs ls hP hD hS hl hf
        exact no_some hf
      | succ n ih =>
        intro x2_1358 H locs ls hP hD hS hl hf
        rw [f_X7_when_19] at hf
        refine lv_iload_n hx hb dX7_when_19 rfl (lv_at hl 2 rfl) ?_
        refine lv_bipush (v := (60 : Int32)) hx hb dX7_when_20 (by decide) ?_
        refine lv_icmp_gt (tgt := 47) hx hb dX7_when_22 (by decide) (fun c1360 => ?_) (fun c1360 => ?_)
        · have hf := ifT hf c1360
          refine lv_bipush (v := (-9 : Int32)) hx hb dX7_when_47 (by decide) ?_
          exact fc_reti hx hb hr hlocks hP hS dX7_when_49 (i2a hf) (congrArg (fun z => (cW G a z)) (i2b hf))
        · have hf := ifF hf c1360
          refine lv_aload_n hx hb dX7_when_25 rfl (lv_at hl 0 rfl) ?_
          refine fc_get (v := .ref (a 1)) (ci := 4) (C := RX7) (T := TX7) (N := 8) hx hb hwX7 hown hE hP 0 (cW_o G a S) rfl 0 (by decide) hk_fieldLink_RX7_10__BrideNotKnown___now___LBrideNotKnown_Valley__ (fun _ h => h) rfl dX7_when_26 ?_
          refine lv_iload_n hx hb dX7_when_29 rfl (lv_at hl 1 rfl) ?_
          refine lv_iload_n hx hb dX7_when_30 rfl (lv_at hl 2 rfl) ?_
          obtain ⟨q1361, hq1361, hf⟩ := bnd hf
          refine fc_callV (Wa' := (cW G a S)) (st1 := [.int q1361]) (As := [.int x1, .int x2_1358]) (rest := []) hCF (k_X6_knows (sh 1 a) (S 0) x1 x2_1358 hq1361) (cwV 2 hts gX7_when_X6_knows rfl rfl rfl ⟨rfl, dk_X6_knows⟩ ⟨Nat.le_of_ble_eq_true rfl, Nat.le_of_ble_eq_true rfl⟩) hE hAB hP hD hS [1, 2, 3, 4, 5, 6, 7, 8] cW_d0 (cW_c0 G a S) (va_recv hE.1 hP (ci := 3) (q0 := 1) rfl (cW_o0 G a S)) (vW_f G (sh 1 a) (S 0) (S 0)) (cW_i0 G a S) rfl rfl hl.1 rfl (Nat.le_of_ble_eq_true rfl) dX7_when_31 ⟨Nat.le_refl _, Nat.le_refl _⟩ (fun H locs hP hD hS => ?_)
          refine lv_bipush (v := (-9 : Int32)) hx hb dX7_when_34 (by decide) ?_
          refine lv_icmp_eq (tgt := 41) hx hb dX7_when_36 (by decide) (fun c1362 => ?_) (fun c1362 => ?_)
          · have hf := ifT hf c1362
            refine lv_iinc (v := (x2_1358 + (1 : Int32))) (lv' := [(2, .int (x2_1358 + (1 : Int32))), (0, .ref (a 0)), (1, .int x1)]) hx hb dX7_when_41 hl (k := 2) rfl rfl (by decide) rfl (fun ls hl => ?_)
            refine lv_goto (tgt := 19) hx hb dX7_when_44 (by decide) ?_
            exact ih (x2_1358 + (1 : Int32)) _ _ _ hP hD hS (lv_sub hl [1, 2, 0] rfl) hf
          · have hf := ifF hf c1362
            refine lv_iload_n hx hb dX7_when_39 rfl (lv_at hl 2 rfl) ?_
            exact fc_reti hx hb hr hlocks hP hS dX7_when_40 (i2a hf) (congrArg (fun z => (cW G a z)) (i2b hf))
    exact L19_1359 FUEL (0 : Int32) _ _ _ hP hD hS (lv_sub hl [1, 2, 0] rfl) hf
  · have hf := ifT hf c1357
    refine lv_aload_n hx hb dX7_when_11 rfl (lv_at hl 0 rfl) ?_
    refine lv_iconst (v := (-1 : Int32)) hx hb dX7_when_12 (by decide) ?_
    obtain ⟨q1363, hq1363, hf⟩ := bnd hf
    refine fc_callV (Wa' := (cW G a q1363.2)) (st1 := [.int q1363.1]) (As := [.int (-1 : Int32)]) (rest := []) hCF (k_X7_refuse a S (-1 : Int32) hq1363) (cwV 1 hts gX7_when_X7_refuse rfl rfl rfl ⟨rfl, dk_X7_refuse⟩ ⟨Nat.le_of_ble_eq_true rfl, Nat.le_of_ble_eq_true rfl⟩) hE hAB hP hD hS [0, 1, 2, 3, 4, 5, 6, 7, 8, 9, 10, 11, 12, 13, 14, 15, 16, 17, 18, 19, 20, 21, 22, 23, 24, 25, 26, 27, 28, 29, 30, 31] cW_d (cW_c G a S) (va_recv hE.1 hP (ci := 4) (q0 := 0) rfl (cW_o G a S)) (cW_f G a S q1363.2) (cW_s G a S q1363.2) rfl rfl hl.1 rfl (Nat.le_of_ble_eq_true rfl) dX7_when_13 ⟨Nat.le_refl _, Nat.le_refl _⟩ (fun H locs hP hD hS => ?_)
    exact fc_reti hx hb hr hlocks hP hS dX7_when_16 (i2a hf) (congrArg (fun z => (cW G a z)) (i2b hf))
theorem dk_X7_years : yX7_years.cls ≠ "java/lang/invoke/MethodHandle" ∧ yX7_years.cls ≠ "java/lang/invoke/VarHandle" ∧ (parseMethodDescriptor yX7_years.desc).map (fun d => d.parameters.length) = some 1 := by decide +kernel
theorem iu_X7_years_X7 : ∀ w ∈ u_ws RX7 TX7 8, w ∈ wsX7_years := by decide +kernel
set_option maxHeartbeats 4000000 in
set_option maxRecDepth 100000 in
theorem k_X7_years {l : Launch} {G : Gx} (a : Nat → Nat) (S : (Nat → St)) (x1 : Int32) {r : Int32} {S' : (Nat → St)} (hf : f_X7_years S x1 = some (r, S')) : FC l G yX7_years wsX7_years ({ frames := 3, cells := 0, slots := 0, locals := 66 } : Room) [.ref (a 0), .int x1] (cW G a S) (cW G a S') (some (.int r)) := by
  refine fc_head (cc := cX7_years) (maxL := 3) (ret := (some .int)) (C := RX7) (lv := [(0, .ref (a 0)), (1, .int x1)]) (by decide) rfl rfl (Nat.le_of_ble_eq_true rfl) rfl ?_
  intro p e s m below meth c ls A hx hb hr hml hown hts hlocks hE hP hD hAB hS hl
  have hCF : CallFix p m c cX7_years 3 s ([.ref (a 0), .int x1] : List Value).toArray wsX7_years RX7 := ⟨hx, hb, hml, hown, hts⟩
  have hwX7 : ∀ w ∈ u_ws RX7 TX7 8, w.before ([.ref (a 0), .int x1] : List Value).toArray s = true := fun w h => hts w (iu_X7_years_X7 w h)
  have hk_fieldLink_RX7_10__BrideNotKnown___now___LBrideNotKnown_Valley__ := hts (.fieldLink RX7 10 "BrideNotKnown" "now" "LBrideNotKnown$Valley;") (List.mem_of_getElem? (i := 1) rfl)
  rw [f_X7_years] at hf
  refine lv_iload_n hx hb dX7_years_0 rfl (lv_at hl 1 rfl) ?_
  refine lv_iconst (v := (1 : Int32)) hx hb dX7_years_1 (by decide) ?_
  refine lv_bipush (v := (60 : Int32)) hx hb dX7_years_2 (by decide) ?_
  obtain ⟨q1371, hq1371, hf⟩ := bnd hf
  refine fc_callS (Wa' := (cW G a S)) (st1 := [.int q1371]) (As := [.int x1, .int (1 : Int32), .int (60 : Int32)]) (rest := []) hCF (k_X7_outside x1 (1 : Int32) (60 : Int32) hq1371) (va_cwS 3 hts gX7_years_X7_outside rfl rfl rfl dk_X7_outside ⟨Nat.le_of_ble_eq_true rfl, Nat.le_of_ble_eq_true rfl⟩) hE hAB hP hD hS [] rfl rfl rfl rfl rfl rfl hl.1 rfl (Nat.le_of_ble_eq_true rfl) dX7_years_4 ⟨Nat.le_refl _, Nat.le_refl _⟩ (fun H locs hP hD hS => ?_)
  refine lv_istore_n (lv' := [(2, .int q1371), (0, .ref (a 0)), (1, .int x1)]) hx hb dX7_years_7 rfl hl (by decide) rfl (fun ls hl => ?_)
  refine lv_iload_n hx hb dX7_years_8 rfl (lv_at hl 0 rfl) ?_
  refine lv_if_eq (tgt := 18) hx hb dX7_years_9 (by decide) (fun c1372 => ?_) (fun c1372 => ?_)
  · have hf := ifT hf c1372
    refine lv_aload_n hx hb dX7_years_18 rfl (lv_at hl 1 rfl) ?_
    refine fc_get (v := .ref (a 1)) (ci := 4) (C := RX7) (T := TX7) (N := 8) hx hb hwX7 hown hE hP 0 (cW_o G a S) rfl 0 (by decide) hk_fieldLink_RX7_10__BrideNotKnown___now___LBrideNotKnown_Valley__ (fun _ h => h) rfl dX7_years_19 ?_
    refine lv_iload_n hx hb dX7_years_22 rfl (lv_at hl 2 rfl) ?_
    obtain ⟨q1373, hq1373, hf⟩ := bnd hf
    refine fc_callV (Wa' := (cW G a S)) (st1 := [.int q1373]) (As := [.int x1]) (rest := []) hCF (k_X6_canPass (sh 1 a) (S 0) x1 hq1373) (cwV 1 hts gX7_years_X6_canPass rfl rfl rfl ⟨rfl, dk_X6_canPass⟩ ⟨Nat.le_of_ble_eq_true rfl, Nat.le_of_ble_eq_true rfl⟩) hE hAB hP hD hS [1, 2, 3, 4, 5, 6, 7, 8] cW_d0 (cW_c0 G a S) (va_recv hE.1 hP (ci := 3) (q0 := 1) rfl (cW_o0 G a S)) (vW_f G (sh 1 a) (S 0) (S 0)) (cW_i0 G a S) rfl rfl hl.1 rfl (Nat.le_of_ble_eq_true rfl) dX7_years_23 ⟨Nat.le_refl _, Nat.le_refl _⟩ (fun H locs hP hD hS => ?_)
    refine lv_if_ne (tgt := 36) hx hb dX7_years_26 (by decide) (fun c1374 => ?_) (fun c1374 => ?_)
    · have hf := ifF hf c1374
      refine lv_aload_n hx hb dX7_years_36 rfl (lv_at hl 1 rfl) ?_
      refine fc_get (v := .ref (a 1)) (ci := 4) (C := RX7) (T := TX7) (N := 8) hx hb hwX7 hown hE hP 0 (cW_o G a S) rfl 0 (by decide) hk_fieldLink_RX7_10__BrideNotKnown___now___LBrideNotKnown_Valley__ (fun _ h => h) rfl dX7_years_37 ?_
      refine lv_iload_n hx hb dX7_years_40 rfl (lv_at hl 2 rfl) ?_
      obtain ⟨q1375, hq1375, hf⟩ := bnd hf
      refine fc_callV (Wa' := (cW G a (sS S 0 q1375))) (st1 := []) (As := [.int x1]) (rest := []) hCF (k_X6_passYears (sh 1 a) (S 0) x1 hq1375) (cwV 1 hts gX7_years_X6_passYears rfl rfl rfl ⟨rfl, dk_X6_passYears⟩ ⟨Nat.le_of_ble_eq_true rfl, Nat.le_of_ble_eq_true rfl⟩) hE hAB hP hD hS [1, 2, 3, 4, 5, 6, 7, 8] cW_d0 (cW_c0 G a S) (va_recv hE.1 hP (ci := 3) (q0 := 1) rfl (cW_o0 G a S)) (vW_f G (sh 1 a) (S 0) q1375) (cW_s0 G a S q1375) rfl rfl hl.1 rfl (Nat.le_of_ble_eq_true rfl) dX7_years_41 ⟨Nat.le_refl _, Nat.le_refl _⟩ (fun H locs hP hD hS => ?_)
      refine lv_aload_n hx hb dX7_years_44 rfl (lv_at hl 1 rfl) ?_
      refine fc_get (v := .ref (a 1)) (ci := 4) (C := RX7) (T := TX7) (N := 8) hx hb hwX7 hown hE hP 0 (cW_o G a (sS S 0 q1375)) rfl 0 (by decide) hk_fieldLink_RX7_10__BrideNotKnown___now___LBrideNotKnown_Valley__ (fun _ h => h) rfl dX7_years_45 ?_
      refine lv_iconst (v := (0 : Int32)) hx hb dX7_years_48 (by decide) ?_
      obtain ⟨q1376, hq1376, hf⟩ := bnd hf
      refine fc_callV (Wa' := (cW G a (sS S 0 q1375))) (st1 := [.int q1376]) (As := [.int (0 : Int32)]) (rest := []) hCF (k_X6_hereThen (sh 1 a) q1375 (0 : Int32) hq1376) (cwV 1 hts gX7_years_X6_hereThen rfl rfl rfl ⟨rfl, dk_X6_hereThen⟩ ⟨Nat.le_of_ble_eq_true rfl, Nat.le_of_ble_eq_true rfl⟩) hE hAB hP hD hS [1, 2, 3, 4, 5, 6, 7, 8] cW_d0 (cW_c0 G a (sS S 0 q1375)) (va_recv hE.1 hP (ci := 3) (q0 := 1) rfl (cW_o0 G a (sS S 0 q1375))) (vW_f G (sh 1 a) q1375 q1375) (cW_i0 G a (sS S 0 q1375)) rfl rfl hl.1 rfl (Nat.le_of_ble_eq_true rfl) dX7_years_49 ⟨Nat.le_refl _, Nat.le_refl _⟩ (fun H locs hP hD hS => ?_)
      obtain ⟨q1377, hq1377, hf⟩ := bnd hf
      refine fc_callS (Wa' := (cW G a (sS S 0 q1375))) (st1 := [.int q1377]) (As := [.int q1376]) (rest := []) hCF (k_J6_bitCount_0f7a4 q1376 hq1377) (va_cwS 1 hts gX7_years_J6_bitCount_0f7a4 rfl rfl rfl dk_J6_bitCount_0f7a4 ⟨Nat.le_of_ble_eq_true rfl, Nat.le_of_ble_eq_true rfl⟩) hE hAB hP hD hS [] rfl rfl rfl rfl rfl rfl hl.1 rfl (Nat.le_of_ble_eq_true rfl) dX7_years_52 ⟨Nat.le_refl _, Nat.le_refl _⟩ (fun H locs hP hD hS => ?_)
      exact fc_reti hx hb hr hlocks hP hS dX7_years_55 (i2a hf) (congrArg (fun z => (cW G a z)) (i2b hf))
    · have hf := ifT hf c1374
      refine lv_aload_n hx hb dX7_years_29 rfl (lv_at hl 1 rfl) ?_
      refine lv_bipush (v := (-6 : Int32)) hx hb dX7_years_30 (by decide) ?_
      obtain ⟨q1378, hq1378, hf⟩ := bnd hf
      refine fc_callV (Wa' := (cW G a q1378.2)) (st1 := [.int q1378.1]) (As := [.int (-6 : Int32)]) (rest := []) hCF (k_X7_refuse a S (-6 : Int32) hq1378) (cwV 1 hts gX7_years_X7_refuse rfl rfl rfl ⟨rfl, dk_X7_refuse⟩ ⟨Nat.le_of_ble_eq_true rfl, Nat.le_of_ble_eq_true rfl⟩) hE hAB hP hD hS [0, 1, 2, 3, 4, 5, 6, 7, 8, 9, 10, 11, 12, 13, 14, 15, 16, 17, 18, 19, 20, 21, 22, 23, 24, 25, 26, 27, 28, 29, 30, 31] cW_d (cW_c G a S) (va_recv hE.1 hP (ci := 4) (q0 := 0) rfl (cW_o G a S)) (cW_f G a S q1378.2) (cW_s G a S q1378.2) rfl rfl hl.1 rfl (Nat.le_of_ble_eq_true rfl) dX7_years_32 ⟨Nat.le_refl _, Nat.le_refl _⟩ (fun H locs hP hD hS => ?_)
      exact fc_reti hx hb hr hlocks hP hS dX7_years_35 (i2a hf) (congrArg (fun z => (cW G a z)) (i2b hf))
  · have hf := ifF hf c1372
    refine lv_aload_n hx hb dX7_years_12 rfl (lv_at hl 1 rfl) ?_
    refine lv_iload_n hx hb dX7_years_13 rfl (lv_at hl 0 rfl) ?_
    obtain ⟨q1379, hq1379, hf⟩ := bnd hf
    refine fc_callV (Wa' := (cW G a q1379.2)) (st1 := [.int q1379.1]) (As := [.int q1371]) (rest := []) hCF (k_X7_refuse a S q1371 hq1379) (cwV 1 hts gX7_years_X7_refuse rfl rfl rfl ⟨rfl, dk_X7_refuse⟩ ⟨Nat.le_of_ble_eq_true rfl, Nat.le_of_ble_eq_true rfl⟩) hE hAB hP hD hS [0, 1, 2, 3, 4, 5, 6, 7, 8, 9, 10, 11, 12, 13, 14, 15, 16, 17, 18, 19, 20, 21, 22, 23, 24, 25, 26, 27, 28, 29, 30, 31] cW_d (cW_c G a S) (va_recv hE.1 hP (ci := 4) (q0 := 0) rfl (cW_o G a S)) (cW_f G a S q1379.2) (cW_s G a S q1379.2) rfl rfl hl.1 rfl (Nat.le_of_ble_eq_true rfl) dX7_years_14 ⟨Nat.le_refl _, Nat.le_refl _⟩ (fun H locs hP hD hS => ?_)
    exact fc_reti hx hb hr hlocks hP hS dX7_years_17 (i2a hf) (congrArg (fun z => (cW G a z)) (i2b hf))
