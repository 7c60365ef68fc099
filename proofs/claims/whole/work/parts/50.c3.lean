theorem dk_X7_groom : yX7_groom.cls ≠ "java/lang/invoke/MethodHandle" ∧ yX7_groom.cls ≠ "java/lang/invoke/VarHandle" ∧ (parseMethodDescriptor yX7_groom.desc).map (fun d => d.parameters.length) = some 2 := by decide +kernel
theorem iu_X7_groom_X7 : ∀ w ∈ u_ws RX7 TX7 8, w ∈ wsX7_groom := by decide +kernel
set_option maxHeartbeats 4000000 in
set_option maxRecDepth 100000 in
theorem k_X7_groom {l : Launch} {G : Gx} (a : Nat → Nat) (S : (Nat → St)) (x1 : Int32) (x2 : Int32) {r : Int32} {S' : (Nat → St)} (hf : f_X7_groom S x1 x2 = some (r, S')) : FC l G yX7_groom wsX7_groom ({ frames := 4, cells := 0, slots := 0, locals := 99 } : Room) [.ref (a 0), .int x1, .int x2] (cW G a S) (cW G a S') (some (.int r)) := by
  refine fc_head (cc := cX7_groom) (maxL := 3) (ret := (some .int)) (C := RX7) (lv := [(0, .ref (a 0)), (1, .int x1), (2, .int x2)]) (by decide) rfl rfl (Nat.le_of_ble_eq_true rfl) rfl ?_
  intro p e s m below meth c ls A hx hb hr hml hown hts hlocks hE hP hD hAB hS hl
  have hCF : CallFix p m c cX7_groom 3 s ([.ref (a 0), .int x1, .int x2] : List Value).toArray wsX7_groom RX7 := ⟨hx, hb, hml, hown, hts⟩
  have hwX7 : ∀ w ∈ u_ws RX7 TX7 8, w.before ([.ref (a 0), .int x1, .int x2] : List Value).toArray s = true := fun w h => hts w (iu_X7_groom_X7 w h)
  have hk_fieldLink_RX7_10__BrideNotKnown___now___LBrideNotKnown_Valley__ := hts (.fieldLink RX7 10 "BrideNotKnown" "now" "LBrideNotKnown$Valley;") (List.mem_of_getElem? (i := 1) rfl)
  rw [f_X7_groom] at hf
  refine lv_aload_n hx hb dX7_groom_0 rfl (lv_at hl 0 rfl) ?_
  refine fc_get (v := .ref (a 1)) (ci := 4) (C := RX7) (T := TX7) (N := 8) hx hb hwX7 hown hE hP 0 (cW_o G a S) rfl 0 (by decide) hk_fieldLink_RX7_10__BrideNotKnown___now___LBrideNotKnown_Valley__ (fun _ h => h) rfl dX7_groom_1 ?_
  refine lv_iload_n hx hb dX7_groom_4 rfl (lv_at hl 1 rfl) ?_
  obtain ⟨q1032, hq1032, hf⟩ := bnd hf
  refine fc_callV (Wa' := (cW G a S)) (st1 := [.int q1032]) (As := [.int x1]) (rest := []) hCF (k_X6_hasGroom (sh 1 a) (S 0) x1 hq1032) (cwV 1 hts gX7_groom_X6_hasGroom rfl rfl rfl ⟨rfl, dk_X6_hasGroom⟩ ⟨Nat.le_of_ble_eq_true rfl, Nat.le_of_ble_eq_true rfl⟩) hE hAB hP hD hS [1, 2, 3, 4, 5, 6, 7, 8] cW_d0 (cW_c0 G a S) (va_recv hE.1 hP (ci := 3) (q0 := 1) rfl (cW_o0 G a S)) (vW_f G (sh 1 a) (S 0) (S 0)) (cW_i0 G a S) rfl rfl hl.1 rfl (Nat.le_of_ble_eq_true rfl) dX7_groom_5 ⟨Nat.le_refl _, Nat.le_refl _⟩ (fun H locs hP hD hS => ?_)
  refine lv_if_ne (tgt := 17) hx hb dX7_groom_8 (by decide) (fun c1033 => ?_) (fun c1033 => ?_)
  · have hf := ifF hf c1033
    refine lv_iload_n hx hb dX7_groom_17 rfl (lv_at hl 2 rfl) ?_
    by_cases c1034 : x2 = (0 : Int32)
    · have hf := ifT hf c1034
      refine lv_tableIn (off := 38) (tgt := 56) hx hb dX7_groom_18 (by rw [c1034]; decide) (by rw [c1034]; decide) (by rw [c1034]; rfl) (by decide) ?_
      refine lv_aload_n hx hb dX7_groom_56 rfl (lv_at hl 0 rfl) ?_
      refine fc_get (v := .ref (a 1)) (ci := 4) (C := RX7) (T := TX7) (N := 8) hx hb hwX7 hown hE hP 0 (cW_o G a S) rfl 0 (by decide) hk_fieldLink_RX7_10__BrideNotKnown___now___LBrideNotKnown_Valley__ (fun _ h => h) rfl dX7_groom_57 ?_
      refine lv_iload_n hx hb dX7_groom_60 rfl (lv_at hl 1 rfl) ?_
      obtain ⟨q1035, hq1035, hf⟩ := bnd hf
      refine fc_callV (Wa' := (cW G a S)) (st1 := [.int q1035]) (As := [.int x1]) (rest := []) hCF (k_X6_lookOf (sh 1 a) (S 0) x1 hq1035) (cwV 1 hts gX7_groom_X6_lookOf rfl rfl rfl ⟨rfl, dk_X6_lookOf⟩ ⟨Nat.le_of_ble_eq_true rfl, Nat.le_of_ble_eq_true rfl⟩) hE hAB hP hD hS [1, 2, 3, 4, 5, 6, 7, 8] cW_d0 (cW_c0 G a S) (va_recv hE.1 hP (ci := 3) (q0 := 1) rfl (cW_o0 G a S)) (vW_f G (sh 1 a) (S 0) (S 0)) (cW_i0 G a S) rfl rfl hl.1 rfl (Nat.le_of_ble_eq_true rfl) dX7_groom_61 ⟨Nat.le_refl _, Nat.le_refl _⟩ (fun H locs hP hD hS => ?_)
      exact fc_reti hx hb hr hlocks hP hS dX7_groom_64 (i2a hf) (congrArg (fun z => (cW G a z)) (i2b hf))
    · have hf := ifF hf c1034
      by_cases c1036 : x2 = (1 : Int32)
      · have hf := ifT hf c1036
        refine lv_tableIn (off := 47) (tgt := 65) hx hb dX7_groom_18 (by rw [c1036]; decide) (by rw [c1036]; decide) (by rw [c1036]; rfl) (by decide) ?_
        refine lv_aload_n hx hb dX7_groom_65 rfl (lv_at hl 0 rfl) ?_
        refine fc_get (v := .ref (a 1)) (ci := 4) (C := RX7) (T := TX7) (N := 8) hx hb hwX7 hown hE hP 0 (cW_o G a S) rfl 0 (by decide) hk_fieldLink_RX7_10__BrideNotKnown___now___LBrideNotKnown_Valley__ (fun _ h => h) rfl dX7_groom_66 ?_
        refine lv_iload_n hx hb dX7_groom_69 rfl (lv_at hl 1 rfl) ?_
        obtain ⟨q1037, hq1037, hf⟩ := bnd hf
        refine fc_callV (Wa' := (cW G a S)) (st1 := [.int q1037]) (As := [.int x1]) (rest := []) hCF (k_X6_mindOf (sh 1 a) (S 0) x1 hq1037) (cwV 1 hts gX7_groom_X6_mindOf rfl rfl rfl ⟨rfl, dk_X6_mindOf⟩ ⟨Nat.le_of_ble_eq_true rfl, Nat.le_of_ble_eq_true rfl⟩) hE hAB hP hD hS [1, 2, 3, 4, 5, 6, 7, 8] cW_d0 (cW_c0 G a S) (va_recv hE.1 hP (ci := 3) (q0 := 1) rfl (cW_o0 G a S)) (vW_f G (sh 1 a) (S 0) (S 0)) (cW_i0 G a S) rfl rfl hl.1 rfl (Nat.le_of_ble_eq_true rfl) dX7_groom_70 ⟨Nat.le_refl _, Nat.le_refl _⟩ (fun H locs hP hD hS => ?_)
        exact fc_reti hx hb hr hlocks hP hS dX7_groom_73 (i2a hf) (congrArg (fun z => (cW G a z)) (i2b hf))
      · have hf := ifF hf c1036
        by_cases c1038 : x2 = (2 : Int32)
        · have hf := ifT hf c1038
          refine lv_tableIn (off := 56) (tgt := 74) hx hb dX7_groom_18 (by rw [c1038]; decide) (by rw [c1038]; decide) (by rw [c1038]; rfl) (by decide) ?_
          refine lv_aload_n hx hb dX7_groom_74 rfl (lv_at hl 0 rfl) ?_
          refine fc_get (v := .ref (a 1)) (ci := 4) (C := RX7) (T := TX7) (N := 8) hx hb hwX7 hown hE hP 0 (cW_o G a S) rfl 0 (by decide) hk_fieldLink_RX7_10__BrideNotKnown___now___LBrideNotKnown_Valley__ (fun _ h => h) rfl dX7_groom_75 ?_
          refine lv_iload_n hx hb dX7_groom_78 rfl (lv_at hl 1 rfl) ?_
          obtain ⟨q1039, hq1039, hf⟩ := bnd hf
          refine fc_callV (Wa' := (cW G a S)) (st1 := [.int q1039]) (As := [.int x1]) (rest := []) hCF (k_X6_liquorOf (sh 1 a) (S 0) x1 hq1039) (cwV 1 hts gX7_groom_X6_liquorOf rfl rfl rfl ⟨rfl, dk_X6_liquorOf⟩ ⟨Nat.le_of_ble_eq_true rfl, Nat.le_of_ble_eq_true rfl⟩) hE hAB hP hD hS [1, 2, 3, 4, 5, 6, 7, 8] cW_d0 (cW_c0 G a S) (va_recv hE.1 hP (ci := 3) (q0 := 1) rfl (cW_o0 G a S)) (vW_f G (sh 1 a) (S 0) (S 0)) (cW_i0 G a S) rfl rfl hl.1 rfl (Nat.le_of_ble_eq_true rfl) dX7_groom_79 ⟨Nat.le_refl _, Nat.le_refl _⟩ (fun H locs hP hD hS => ?_)
          exact fc_reti hx hb hr hlocks hP hS dX7_groom_82 (i2a hf) (congrArg (fun z => (cW G a z)) (i2b hf))
        · have hf := ifF hf c1038
          by_cases c1040 : x2 = (3 : Int32)
          · have hf := ifT hf c1040
            refine lv_tableIn (off := 65) (tgt := 83) hx hb dX7_groom_18 (by rw [c1040]; decide) (by rw [c1040]; decide) (by rw [c1040]; rfl) (by decide) ?_
            refine lv_aload_n hx hb dX7_groom_83 rfl (lv_at hl 0 rfl) ?_
            refine fc_get (v := .ref (a 1)) (ci := 4) (C := RX7) (T := TX7) (N := 8) hx hb hwX7 hown hE hP 0 (cW_o G a S) rfl 0 (by decide) hk_fieldLink_RX7_10__BrideNotKnown___now___LBrideNotKnown_Valley__ (fun _ h => h) rfl dX7_groom_84 ?_
            refine lv_iload_n hx hb dX7_groom_87 rfl (lv_at hl 1 rfl) ?_
            obtain ⟨q1041, hq1041, hf⟩ := bnd hf
            refine fc_callV (Wa' := (cW G a S)) (st1 := [.int q1041]) (As := [.int x1]) (rest := []) hCF (k_X6_isUnmarried (sh 1 a) (S 0) x1 hq1041) (cwV 1 hts gX7_groom_X6_isUnmarried rfl rfl rfl ⟨rfl, dk_X6_isUnmarried⟩ ⟨Nat.le_of_ble_eq_true rfl, Nat.le_of_ble_eq_true rfl⟩) hE hAB hP hD hS [1, 2, 3, 4, 5, 6, 7, 8] cW_d0 (cW_c0 G a S) (va_recv hE.1 hP (ci := 3) (q0 := 1) rfl (cW_o0 G a S)) (vW_f G (sh 1 a) (S 0) (S 0)) (cW_i0 G a S) rfl rfl hl.1 rfl (Nat.le_of_ble_eq_true rfl) dX7_groom_88 ⟨Nat.le_refl _, Nat.le_refl _⟩ (fun H locs hP hD hS => ?_)
            refine lv_if_eq (tgt := 98) hx hb dX7_groom_91 (by decide) (fun c1042 => ?_) (fun c1042 => ?_)
            · have hf := ifT hf c1042
              refine lv_iconst (v := (1 : Int32)) hx hb dX7_groom_98 (by decide) ?_
              exact fc_reti hx hb hr hlocks hP hS dX7_groom_99 (i2a hf) (congrArg (fun z => (cW G a z)) (i2b hf))
            · have hf := ifF hf c1042
              refine lv_iconst (v := (0 : Int32)) hx hb dX7_groom_94 (by decide) ?_
              refine lv_goto (tgt := 99) hx hb dX7_groom_95 (by decide) ?_
              exact fc_reti hx hb hr hlocks hP hS dX7_groom_99 (i2a hf) (congrArg (fun z => (cW G a z)) (i2b hf))
          · have hf := ifF hf c1040
            by_cases c1043 : x2 = (4 : Int32)
            · have hf := ifT hf c1043
              refine lv_tableIn (off := 82) (tgt := 100) hx hb dX7_groom_18 (by rw [c1043]; decide) (by rw [c1043]; decide) (by rw [c1043]; rfl) (by decide) ?_
              refine lv_aload_n hx hb dX7_groom_100 rfl (lv_at hl 0 rfl) ?_
              refine fc_get (v := .ref (a 1)) (ci := 4) (C := RX7) (T := TX7) (N := 8) hx hb hwX7 hown hE hP 0 (cW_o G a S) rfl 0 (by decide) hk_fieldLink_RX7_10__BrideNotKnown___now___LBrideNotKnown_Valley__ (fun _ h => h) rfl dX7_groom_101 ?_
              refine lv_iload_n hx hb dX7_groom_104 rfl (lv_at hl 1 rfl) ?_
              refine lv_iconst (v := (0 : Int32)) hx hb dX7_groom_105 (by decide) ?_
              obtain ⟨q1044, hq1044, hf⟩ := bnd hf
              refine fc_callV (Wa' := (cW G a S)) (st1 := [.int q1044]) (As := [.int x1, .int (0 : Int32)]) (rest := []) hCF (k_X6_guesses (sh 1 a) (S 0) x1 (0 : Int32) hq1044) (cwV 2 hts gX7_groom_X6_guesses rfl rfl rfl ⟨rfl, dk_X6_guesses⟩ ⟨Nat.le_of_ble_eq_true rfl, Nat.le_of_ble_eq_true rfl⟩) hE hAB hP hD hS [1, 2, 3, 4, 5, 6, 7, 8] cW_d0 (cW_c0 G a S) (va_recv hE.1 hP (ci := 3) (q0 := 1) rfl (cW_o0 G a S)) (vW_f G (sh 1 a) (S 0) (S 0)) (cW_i0 G a S) rfl rfl hl.1 rfl (Nat.le_of_ble_eq_true rfl) dX7_groom_106 ⟨Nat.le_refl _, Nat.le_refl _⟩ (fun H locs hP hD hS => ?_)
              exact fc_reti hx hb hr hlocks hP hS dX7_groom_109 (i2a hf) (congrArg (fun z => (cW G a z)) (i2b hf))
            · have hf := ifF hf c1043
              by_cases c1045 : x2 = (5 : Int32)
              · have hf := ifT hf c1045
                refine lv_tableIn (off := 92) (tgt := 110) hx hb dX7_groom_18 (by rw [c1045]; decide) (by rw [c1045]; decide) (by rw [c1045]; rfl) (by decide) ?_
                refine lv_aload_n hx hb dX7_groom_110 rfl (lv_at hl 0 rfl) ?_
                refine fc_get (v := .ref (a 1)) (ci := 4) (C := RX7) (T := TX7) (N := 8) hx hb hwX7 hown hE hP 0 (cW_o G a S) rfl 0 (by decide) hk_fieldLink_RX7_10__BrideNotKnown___now___LBrideNotKnown_Valley__ (fun _ h => h) rfl dX7_groom_111 ?_
                refine lv_iload_n hx hb dX7_groom_114 rfl (lv_at hl 1 rfl) ?_
                refine lv_iconst (v := (0 : Int32)) hx hb dX7_groom_115 (by decide) ?_
                obtain ⟨q1046, hq1046, hf⟩ := bnd hf
                refine fc_callV (Wa' := (cW G a S)) (st1 := [.int q1046]) (As := [.int x1, .int (0 : Int32)]) (rest := []) hCF (k_X6_knows (sh 1 a) (S 0) x1 (0 : Int32) hq1046) (cwV 2 hts gX7_groom_X6_knows rfl rfl rfl ⟨rfl, dk_X6_knows⟩ ⟨Nat.le_of_ble_eq_true rfl, Nat.le_of_ble_eq_true rfl⟩) hE hAB hP hD hS [1, 2, 3, 4, 5, 6, 7, 8] cW_d0 (cW_c0 G a S) (va_recv hE.1 hP (ci := 3) (q0 := 1) rfl (cW_o0 G a S)) (vW_f G (sh 1 a) (S 0) (S 0)) (cW_i0 G a S) rfl rfl hl.1 rfl (Nat.le_of_ble_eq_true rfl) dX7_groom_116 ⟨Nat.le_refl _, Nat.le_refl _⟩ (fun H locs hP hD hS => ?_)
                exact fc_reti hx hb hr hlocks hP hS dX7_groom_119 (i2a hf) (congrArg (fun z => (cW G a z)) (i2b hf))
              · have hf := ifF hf c1045
                refine lv_tableOut (tgt := 120) hx hb dX7_groom_18 (by have dc1034 := lv_neT c1034 (a := 0) (by decide); have dc1036 := lv_neT c1036 (a := 1) (by decide); have dc1038 := lv_neT c1038 (a := 2) (by decide); have dc1040 := lv_neT c1040 (a := 3) (by decide); have dc1043 := lv_neT c1043 (a := 4) (by decide); have dc1045 := lv_neT c1045 (a := 5) (by decide); omega) (by decide) ?_
                refine lv_aload_n hx hb dX7_groom_120 rfl (lv_at hl 0 rfl) ?_
                refine lv_bipush (v := (-2 : Int32)) hx hb dX7_groom_121 (by decide) ?_
                obtain ⟨q1047, hq1047, hf⟩ := bnd hf
                refine fc_callV (Wa' := (cW G a q1047.2)) (st1 := [.int q1047.1]) (As := [.int (-2 : Int32)]) (rest := []) hCF (k_X7_refuse a S (-2 : Int32) hq1047) (cwV 1 hts gX7_groom_X7_refuse rfl rfl rfl ⟨rfl, dk_X7_refuse⟩ ⟨Nat.le_of_ble_eq_true rfl, Nat.le_of_ble_eq_true rfl⟩) hE hAB hP hD hS [0, 1, 2, 3, 4, 5, 6, 7, 8, 9, 10, 11, 12, 13, 14, 15, 16, 17, 18, 19, 20, 21, 22, 23, 24, 25, 26, 27, 28, 29, 30, 31] cW_d (cW_c G a S) (va_recv hE.1 hP (ci := 4) (q0 := 0) rfl (cW_o G a S)) (cW_f G a S q1047.2) (cW_s G a S q1047.2) rfl rfl hl.1 rfl (Nat.le_of_ble_eq_true rfl) dX7_groom_123 ⟨Nat.le_refl _, Nat.le_refl _⟩ (fun H locs hP hD hS => ?_)
                exact fc_reti hx hb hr hlocks hP hS dX7_groom_126 (i2a hf) (congrArg (fun z => (cW G a z)) (i2b hf))
  · have hf := ifT hf c1033
    refine lv_aload_n hx hb dX7_groom_11 rfl (lv_at hl 0 rfl) ?_
    refine lv_iconst (v := (-1 : Int32)) hx hb dX7_groom_12 (by decide) ?_
    obtain ⟨q1048, hq1048, hf⟩ := bnd hf
    refine fc_callV (Wa' := (cW G a q1048.2)) (st1 := [.int q1048.1]) (As := [.int (-1 : Int32)]) (rest := []) hCF (k_X7_refuse a S (-1 : Int32) hq1048) (cwV 1 hts gX7_groom_X7_refuse rfl rfl rfl ⟨rfl, dk_X7_refuse⟩ ⟨Nat.le_of_ble_eq_true rfl, Nat.le_of_ble_eq_true rfl⟩) hE hAB hP hD hS [0, 1, 2, 3, 4, 5, 6, 7, 8, 9, 10, 11, 12, 13, 14, 15, 16, 17, 18, 19, 20, 21, 22, 23, 24, 25, 26, 27, 28, 29, 30, 31] cW_d (cW_c G a S) (va_recv hE.1 hP (ci := 4) (q0 := 0) rfl (cW_o G a S)) (cW_f G a S q1048.2) (cW_s G a S q1048.2) rfl rfl hl.1 rfl (Nat.le_of_ble_eq_true rfl) dX7_groom_13 ⟨Nat.le_refl _, Nat.le_refl _⟩ (fun H locs hP hD hS => ?_)
    exact fc_reti hx hb hr hlocks hP hS dX7_groom_16 (i2a hf) (congrArg (fun z => (cW G a z)) (i2b hf))
theorem dk_X7_groomThen : yX7_groomThen.cls ≠ "java/lang/invoke/MethodHandle" ∧ yX7_groomThen.cls ≠ "java/lang/invoke/VarHandle" ∧ (parseMethodDescriptor yX7_groomThen.desc).map (fun d => d.parameters.length) = some 3 := by decide +kernel
theorem iu_X7_groomThen_X7 : ∀ w ∈ u_ws RX7 TX7 8, w ∈ wsX7_groomThen := by decide +kernel
set_option maxHeartbeats 4000000 in
set_option maxRecDepth 100000 in
theorem k_X7_groomThen {l : Launch} {G : Gx} (a : Nat → Nat) (S : (Nat → St)) (x1 : Int32) (x2 : Int32) (x3 : Int32) {r : Int32} {S' : (Nat → St)} (hf : f_X7_groomThen S x1 x2 x3 = some (r, S')) : FC l G yX7_groomThen wsX7_groomThen ({ frames := 4, cells := 0, slots := 0, locals := 99 } : Room) [.ref (a 0), .int x1, .int x2, .int x3] (cW G a S) (cW G a S') (some (.int r)) := by
  refine fc_head (cc := cX7_groomThen) (maxL := 5) (ret := (some .int)) (C := RX7) (lv := [(0, .ref (a 0)), (1, .int x1), (2, .int x2), (3, .int x3)]) (by decide) rfl rfl (Nat.le_of_ble_eq_true rfl) rfl ?_
  intro p e s m below meth c ls A hx hb hr hml hown hts hlocks hE hP hD hAB hS hl
  have hCF : CallFix p m c cX7_groomThen 5 s ([.ref (a 0), .int x1, .int x2, .int x3] : List Value).toArray wsX7_groomThen RX7 := ⟨hx, hb, hml, hown, hts⟩
  have hwX7 : ∀ w ∈ u_ws RX7 TX7 8, w.before ([.ref (a 0), .int x1, .int x2, .int x3] : List Value).toArray s = true := fun w h => hts w (iu_X7_groomThen_X7 w h)
  have hk_fieldLink_RX7_10__BrideNotKnown___now___LBrideNotKnown_Valley__ := hts (.fieldLink RX7 10 "BrideNotKnown" "now" "LBrideNotKnown$Valley;") (List.mem_of_getElem? (i := 1) rfl)
  rw [f_X7_groomThen] at hf
  refine lv_aload_n hx hb dX7_groomThen_0 rfl (lv_at hl 0 rfl) ?_
  refine fc_get (v := .ref (a 1)) (ci := 4) (C := RX7) (T := TX7) (N := 8) hx hb hwX7 hown hE hP 0 (cW_o G a S) rfl 0 (by decide) hk_fieldLink_RX7_10__BrideNotKnown___now___LBrideNotKnown_Valley__ (fun _ h => h) rfl dX7_groomThen_1 ?_
  refine lv_iload_n hx hb dX7_groomThen_4 rfl (lv_at hl 1 rfl) ?_
  obtain ⟨q1056, hq1056, hf⟩ := bnd hf
  refine fc_callV (Wa' := (cW G a S)) (st1 := [.int q1056]) (As := [.int x1]) (rest := []) hCF (k_X6_hasGroom (sh 1 a) (S 0) x1 hq1056) (cwV 1 hts gX7_groomThen_X6_hasGroom rfl rfl rfl ⟨rfl, dk_X6_hasGroom⟩ ⟨Nat.le_of_ble_eq_true rfl, Nat.le_of_ble_eq_true rfl⟩) hE hAB hP hD hS [1, 2, 3, 4, 5, 6, 7, 8] cW_d0 (cW_c0 G a S) (va_recv hE.1 hP (ci := 3) (q0 := 1) rfl (cW_o0 G a S)) (vW_f G (sh 1 a) (S 0) (S 0)) (cW_i0 G a S) rfl rfl hl.1 rfl (Nat.le_of_ble_eq_true rfl) dX7_groomThen_5 ⟨Nat.le_refl _, Nat.le_refl _⟩ (fun H locs hP hD hS => ?_)
  refine lv_iload_n hx hb dX7_groomThen_8 rfl (lv_at hl 2 rfl) ?_
  refine lv_iconst (v := (0 : Int32)) hx hb dX7_groomThen_9 (by decide) ?_
  refine lv_bipush (v := (60 : Int32)) hx hb dX7_groomThen_10 (by decide) ?_
  obtain ⟨q1057, hq1057, hf⟩ := bnd hf
  refine fc_callS (Wa' := (cW G a S)) (st1 := [.int q1057]) (As := [.int q1056, .int x2, .int (0 : Int32), .int (60 : Int32)]) (rest := []) hCF (k_X7_refusalOf q1056 x2 (0 : Int32) (60 : Int32) hq1057) (va_cwS 4 hts gX7_groomThen_X7_refusalOf rfl rfl rfl dk_X7_refusalOf ⟨Nat.le_of_ble_eq_true rfl, Nat.le_of_ble_eq_true rfl⟩) hE hAB hP hD hS [] rfl rfl rfl rfl rfl rfl hl.1 rfl (Nat.le_of_ble_eq_true rfl) dX7_groomThen_12 ⟨Nat.le_refl _, Nat.le_refl _⟩ (fun H locs hP hD hS => ?_)
  refine lv_istore (lv' := [(4, .int q1057), (0, .ref (a 0)), (1, .int x1), (2, .int x2), (3, .int x3)]) hx hb dX7_groomThen_15 hl (by decide) rfl (fun ls hl => ?_)
  refine lv_iload hx hb dX7_groomThen_17 (lv_at hl 0 rfl) ?_
  refine lv_if_eq (tgt := 29) hx hb dX7_groomThen_19 (by decide) (fun c1058 => ?_) (fun c1058 => ?_)
  · have hf := ifT hf c1058
    refine lv_iload_n hx hb dX7_groomThen_29 rfl (lv_at hl 4 rfl) ?_
    obtain ⟨q1059, hq1059, hf⟩ := bnd hf
    refine fc_callS (Wa' := (cW G a S)) (st1 := [.int q1059]) (As := [.int x3]) (rest := []) hCF (k_X7_isNotEither x3 hq1059) (va_cwS 1 hts gX7_groomThen_X7_isNotEither rfl rfl rfl dk_X7_isNotEither ⟨Nat.le_of_ble_eq_true rfl, Nat.le_of_ble_eq_true rfl⟩) hE hAB hP hD hS [] rfl rfl rfl rfl rfl rfl hl.1 rfl (Nat.le_of_ble_eq_true rfl) dX7_groomThen_30 ⟨Nat.le_refl _, Nat.le_refl _⟩ (fun H locs hP hD hS => ?_)
    refine lv_if_eq (tgt := 43) hx hb dX7_groomThen_33 (by decide) (fun c1060 => ?_) (fun c1060 => ?_)
    · have hf := ifT hf c1060
      refine lv_iload_n hx hb dX7_groomThen_43 rfl (lv_at hl 4 rfl) ?_
      refine lv_if_ne (tgt := 59) hx hb dX7_groomThen_44 (by decide) (fun c1061 => ?_) (fun c1061 => ?_)
      · have hf := ifF hf c1061
        refine lv_aload_n hx hb dX7_groomThen_59 rfl (lv_at hl 1 rfl) ?_
        refine fc_get (v := .ref (a 1)) (ci := 4) (C := RX7) (T := TX7) (N := 8) hx hb hwX7 hown hE hP 0 (cW_o G a S) rfl 0 (by decide) hk_fieldLink_RX7_10__BrideNotKnown___now___LBrideNotKnown_Valley__ (fun _ h => h) rfl dX7_groomThen_60 ?_
        refine lv_iload_n hx hb dX7_groomThen_63 rfl (lv_at hl 2 rfl) ?_
        refine lv_iload_n hx hb dX7_groomThen_64 rfl (lv_at hl 3 rfl) ?_
        obtain ⟨q1062, hq1062, hf⟩ := bnd hf
        refine fc_callV (Wa' := (cW G a S)) (st1 := [.int q1062]) (As := [.int x1, .int x2]) (rest := []) hCF (k_X6_knows (sh 1 a) (S 0) x1 x2 hq1062) (cwV 2 hts gX7_groomThen_X6_knows rfl rfl rfl ⟨rfl, dk_X6_knows⟩ ⟨Nat.le_of_ble_eq_true rfl, Nat.le_of_ble_eq_true rfl⟩) hE hAB hP hD hS [1, 2, 3, 4, 5, 6, 7, 8] cW_d0 (cW_c0 G a S) (va_recv hE.1 hP (ci := 3) (q0 := 1) rfl (cW_o0 G a S)) (vW_f G (sh 1 a) (S 0) (S 0)) (cW_i0 G a S) rfl rfl hl.1 rfl (Nat.le_of_ble_eq_true rfl) dX7_groomThen_65 ⟨Nat.le_refl _, Nat.le_refl _⟩ (fun H locs hP hD hS => ?_)
        exact fc_reti hx hb hr hlocks hP hS dX7_groomThen_68 (i2a hf) (congrArg (fun z => (cW G a z)) (i2b hf))
      · have hf := ifT hf c1061
        refine lv_aload_n hx hb dX7_groomThen_47 rfl (lv_at hl 1 rfl) ?_
        refine fc_get (v := .ref (a 1)) (ci := 4) (C := RX7) (T := TX7) (N := 8) hx hb hwX7 hown hE hP 0 (cW_o G a S) rfl 0 (by decide) hk_fieldLink_RX7_10__BrideNotKnown___now___LBrideNotKnown_Valley__ (fun _ h => h) rfl dX7_groomThen_48 ?_
        refine lv_iload_n hx hb dX7_groomThen_51 rfl (lv_at hl 2 rfl) ?_
        refine lv_iload_n hx hb dX7_groomThen_52 rfl (lv_at hl 3 rfl) ?_
        obtain ⟨q1063, hq1063, hf⟩ := bnd hf
        refine fc_callV (Wa' := (cW G a S)) (st1 := [.int q1063]) (As := [.int x1, .int x2]) (rest := []) hCF (k_X6_guesses (sh 1 a) (S 0) x1 x2 hq1063) (cwV 2 hts gX7_groomThen_X6_guesses rfl rfl rfl ⟨rfl, dk_X6_guesses⟩ ⟨Nat.le_of_ble_eq_true rfl, Nat.le_of_ble_eq_true rfl⟩) hE hAB hP hD hS [1, 2, 3, 4, 5, 6, 7, 8] cW_d0 (cW_c0 G a S) (va_recv hE.1 hP (ci := 3) (q0 := 1) rfl (cW_o0 G a S)) (vW_f G (sh 1 a) (S 0) (S 0)) (cW_i0 G a S) rfl rfl hl.1 rfl (Nat.le_of_ble_eq_true rfl) dX7_groomThen_53 ⟨Nat.le_refl _, Nat.le_refl _⟩ (fun H locs hP hD hS => ?_)
        refine lv_goto (tgt := 68) hx hb dX7_groomThen_56 (by decide) ?_
        exact fc_reti hx hb hr hlocks hP hS dX7_groomThen_68 (i2a hf) (congrArg (fun z => (cW G a z)) (i2b hf))
    · have hf := ifF hf c1060
      refine lv_aload_n hx hb dX7_groomThen_36 rfl (lv_at hl 1 rfl) ?_
      refine lv_bipush (v := (-2 : Int32)) hx hb dX7_groomThen_37 (by decide) ?_
      obtain ⟨q1064, hq1064, hf⟩ := bnd hf
      refine fc_callV (Wa' := (cW G a q1064.2)) (st1 := [.int q1064.1]) (As := [.int (-2 : Int32)]) (rest := []) hCF (k_X7_refuse a S (-2 : Int32) hq1064) (cwV 1 hts gX7_groomThen_X7_refuse rfl rfl rfl ⟨rfl, dk_X7_refuse⟩ ⟨Nat.le_of_ble_eq_true rfl, Nat.le_of_ble_eq_true rfl⟩) hE hAB hP hD hS [0, 1, 2, 3, 4, 5, 6, 7, 8, 9, 10, 11, 12, 13, 14, 15, 16, 17, 18, 19, 20, 21, 22, 23, 24, 25, 26, 27, 28, 29, 30, 31] cW_d (cW_c G a S) (va_recv hE.1 hP (ci := 4) (q0 := 0) rfl (cW_o G a S)) (cW_f G a S q1064.2) (cW_s G a S q1064.2) rfl rfl hl.1 rfl (Nat.le_of_ble_eq_true rfl) dX7_groomThen_39 ⟨Nat.le_refl _, Nat.le_refl _⟩ (fun H locs hP hD hS => ?_)
      exact fc_reti hx hb hr hlocks hP hS dX7_groomThen_42 (i2a hf) (congrArg (fun z => (cW G a z)) (i2b hf))
  · have hf := ifF hf c1058
    refine lv_aload_n hx hb dX7_groomThen_22 rfl (lv_at hl 1 rfl) ?_
    refine lv_iload hx hb dX7_groomThen_23 (lv_at hl 0 rfl) ?_
    obtain ⟨q1065, hq1065, hf⟩ := bnd hf
    refine fc_callV (Wa' := (cW G a q1065.2)) (st1 := [.int q1065.1]) (As := [.int q1057]) (rest := []) hCF (k_X7_refuse a S q1057 hq1065) (cwV 1 hts gX7_groomThen_X7_refuse rfl rfl rfl ⟨rfl, dk_X7_refuse⟩ ⟨Nat.le_of_ble_eq_true rfl, Nat.le_of_ble_eq_true rfl⟩) hE hAB hP hD hS [0, 1, 2, 3, 4, 5, 6, 7, 8, 9, 10, 11, 12, 13, 14, 15, 16, 17, 18, 19, 20, 21, 22, 23, 24, 25, 26, 27, 28, 29, 30, 31] cW_d (cW_c G a S) (va_recv hE.1 hP (ci := 4) (q0 := 0) rfl (cW_o G a S)) (cW_f G a S q1065.2) (cW_s G a S q1065.2) rfl rfl hl.1 rfl (Nat.le_of_ble_eq_true rfl) dX7_groomThen_25 ⟨Nat.le_refl _, Nat.le_refl _⟩ (fun H locs hP hD hS => ?_)
    exact fc_reti hx hb hr hlocks hP hS dX7_groomThen_28 (i2a hf) (congrArg (fun z => (cW G a z)) (i2b hf))
theorem dk_X7_hide : yX7_hide.cls ≠ "java/lang/invoke/MethodHandle" ∧ yX7_hide.cls ≠ "java/lang/invoke/VarHandle" ∧ (parseMethodDescriptor yX7_hide.desc).map (fun d => d.parameters.length) = some 1 := by decide +kernel
theorem iu_X7_hide_X7 : ∀ w ∈ u_ws RX7 TX7 8, w ∈ wsX7_hide := by decide +kernel
set_option maxHeartbeats 4000000 in
set_option maxRecDepth 100000 in
theorem k_X7_hide {l : Launch} {G : Gx} (a : Nat → Nat) (S : (Nat → St)) (x1 : Int32) {r : Int32} {S' : (Nat → St)} (hf : f_X7_hide S x1 = some (r, S')) : FC l G yX7_hide wsX7_hide ({ frames := 6, cells := 0, slots := 0, locals := 148 } : Room) [.ref (a 0), .int x1] (cW G a S) (cW G a S') (some (.int r)) := by
  refine fc_head (cc := cX7_hide) (maxL := 2) (ret := (some .int)) (C := RX7) (lv := [(0, .ref (a 0)), (1, .int x1)]) (by decide) rfl rfl (Nat.le_of_ble_eq_true rfl) rfl ?_
  intro p e s m below meth c ls A hx hb hr hml hown hts hlocks hE hP hD hAB hS hl
  have hCF : CallFix p m c cX7_hide 2 s ([.ref (a 0), .int x1] : List Value).toArray wsX7_hide RX7 := ⟨hx, hb, hml, hown, hts⟩
  have hwX7 : ∀ w ∈ u_ws RX7 TX7 8, w.before ([.ref (a 0), .int x1] : List Value).toArray s = true := fun w h => hts w (iu_X7_hide_X7 w h)
  have hk_fieldLink_RX7_10__BrideNotKnown___now___LBrideNotKnown_Valley__ := hts (.fieldLink RX7 10 "BrideNotKnown" "now" "LBrideNotKnown$Valley;") (List.mem_of_getElem? (i := 1) rfl)
  have hk_fieldLink_RX7_16__BrideNotKnown___thought___LBrideNotKnown_Valley__ := hts (.fieldLink RX7 16 "BrideNotKnown" "thought" "LBrideNotKnown$Valley;") (List.mem_of_getElem? (i := 2) rfl)
  rw [f_X7_hide] at hf
  refine lv_aload_n hx hb dX7_hide_0 rfl (lv_at hl 0 rfl) ?_
  refine fc_get (v := .ref (a 1)) (ci := 4) (C := RX7) (T := TX7) (N := 8) hx hb hwX7 hown hE hP 0 (cW_o G a S) rfl 0 (by decide) hk_fieldLink_RX7_10__BrideNotKnown___now___LBrideNotKnown_Valley__ (fun _ h => h) rfl dX7_hide_1 ?_
  refine lv_iload_n hx hb dX7_hide_4 rfl (lv_at hl 1 rfl) ?_
  obtain ⟨q1071, hq1071, hf⟩ := bnd hf
  refine fc_callV (Wa' := (cW G a S)) (st1 := [.int q1071]) (As := [.int x1]) (rest := []) hCF (k_X6_hasBride (sh 1 a) (S 0) x1 hq1071) (cwV 1 hts gX7_hide_X6_hasBride rfl rfl rfl ⟨rfl, dk_X6_hasBride⟩ ⟨Nat.le_of_ble_eq_true rfl, Nat.le_of_ble_eq_true rfl⟩) hE hAB hP hD hS [1, 2, 3, 4, 5, 6, 7, 8] cW_d0 (cW_c0 G a S) (va_recv hE.1 hP (ci := 3) (q0 := 1) rfl (cW_o0 G a S)) (vW_f G (sh 1 a) (S 0) (S 0)) (cW_i0 G a S) rfl rfl hl.1 rfl (Nat.le_of_ble_eq_true rfl) dX7_hide_5 ⟨Nat.le_refl _, Nat.le_refl _⟩ (fun H locs hP hD hS => ?_)
  refine lv_if_ne (tgt := 17) hx hb dX7_hide_8 (by decide) (fun c1072 => ?_) (fun c1072 => ?_)
  · have hf := ifF hf c1072
    refine lv_aload_n hx hb dX7_hide_17 rfl (lv_at hl 0 rfl) ?_
    refine fc_get (v := .ref (a 1)) (ci := 4) (C := RX7) (T := TX7) (N := 8) hx hb hwX7 hown hE hP 0 (cW_o G a S) rfl 0 (by decide) hk_fieldLink_RX7_10__BrideNotKnown___now___LBrideNotKnown_Valley__ (fun _ h => h) rfl dX7_hide_18 ?_
    refine lv_iload_n hx hb dX7_hide_21 rfl (lv_at hl 1 rfl) ?_
    obtain ⟨q1073, hq1073, hf⟩ := bnd hf
    refine fc_callV (Wa' := (cW G a S)) (st1 := [.int q1073]) (As := [.int x1]) (rest := []) hCF (k_X6_isHere (sh 1 a) (S 0) x1 hq1073) (cwV 1 hts gX7_hide_X6_isHere rfl rfl rfl ⟨rfl, dk_X6_isHere⟩ ⟨Nat.le_of_ble_eq_true rfl, Nat.le_of_ble_eq_true rfl⟩) hE hAB hP hD hS [1, 2, 3, 4, 5, 6, 7, 8] cW_d0 (cW_c0 G a S) (va_recv hE.1 hP (ci := 3) (q0 := 1) rfl (cW_o0 G a S)) (vW_f G (sh 1 a) (S 0) (S 0)) (cW_i0 G a S) rfl rfl hl.1 rfl (Nat.le_of_ble_eq_true rfl) dX7_hide_22 ⟨Nat.le_refl _, Nat.le_refl _⟩ (fun H locs hP hD hS => ?_)
    refine lv_if_ne (tgt := 35) hx hb dX7_hide_25 (by decide) (fun c1074 => ?_) (fun c1074 => ?_)
    · have hf := ifF hf c1074
      refine lv_aload_n hx hb dX7_hide_35 rfl (lv_at hl 0 rfl) ?_
      refine fc_get (v := .ref (a 1)) (ci := 4) (C := RX7) (T := TX7) (N := 8) hx hb hwX7 hown hE hP 0 (cW_o G a S) rfl 0 (by decide) hk_fieldLink_RX7_10__BrideNotKnown___now___LBrideNotKnown_Valley__ (fun _ h => h) rfl dX7_hide_36 ?_
      refine lv_aload_n hx hb dX7_hide_39 rfl (lv_at hl 0 rfl) ?_
      refine fc_get (v := .ref (a 9)) (ci := 4) (C := RX7) (T := TX7) (N := 8) hx hb hwX7 hown hE hP 0 (cW_o G a S) rfl 1 (by decide) hk_fieldLink_RX7_16__BrideNotKnown___thought___LBrideNotKnown_Valley__ (fun _ h => h) rfl dX7_hide_40 ?_
      refine lv_iload_n hx hb dX7_hide_43 rfl (lv_at hl 1 rfl) ?_
      obtain ⟨q1075, hq1075, hf⟩ := bnd hf
      refine fc_callS (Wa' := (cW G a (sS S 1 q1075.2))) (st1 := [.int q1075.1]) (As := [.ref (a 1), .ref (a 9), .int x1]) (rest := []) hCF (k_X0_fewestToes (sh 1 a) (S 0) (sh 9 a) (S 1) x1 hq1075) (va_cwS 3 hts gX7_hide_X0_fewestToes rfl rfl rfl dk_X0_fewestToes ⟨Nat.le_of_ble_eq_true rfl, Nat.le_of_ble_eq_true rfl⟩) hE hAB hP hD hS [1, 2, 3, 4, 5, 6, 7, 8, 9, 10, 11, 12, 13, 14, 15, 16] (by decide +kernel) (cut_cut (cW_c0 G a S) (cW_c1 G a S)) (fst_fst (vW_f G (sh 1 a) (S 0) (S 0)) (vW_f G (sh 9 a) (S 1) q1075.2)) ((set_set (i1 := [1, 2, 3, 4, 5, 6, 7, 8]) (W1 := (vW G (sh 1 a) (S 0))) (vW_n G (sh 1 a) (S 0)).symm).trans ((congrArg (fun z => setAll z _ _) (cW_s1 G a S q1075.2)).trans (cW_i0 G a (sS S 1 q1075.2)))) rfl rfl hl.1 rfl (Nat.le_of_ble_eq_true rfl) dX7_hide_44 ⟨Nat.le_refl _, Nat.le_refl _⟩ (fun H locs hP hD hS => ?_)
      exact fc_reti hx hb hr hlocks hP hS dX7_hide_47 (i2a hf) (congrArg (fun z => (cW G a z)) (i2b hf))
    · have hf := ifT hf c1074
      refine lv_aload_n hx hb dX7_hide_28 rfl (lv_at hl 0 rfl) ?_
      refine lv_bipush (v := (-3 : Int32)) hx hb dX7_hide_29 (by decide) ?_
      obtain ⟨q1076, hq1076, hf⟩ := bnd hf
      refine fc_callV (Wa' := (cW G a q1076.2)) (st1 := [.int q1076.1]) (As := [.int (-3 : Int32)]) (rest := []) hCF (k_X7_refuse a S (-3 : Int32) hq1076) (cwV 1 hts gX7_hide_X7_refuse rfl rfl rfl ⟨rfl, dk_X7_refuse⟩ ⟨Nat.le_of_ble_eq_true rfl, Nat.le_of_ble_eq_true rfl⟩) hE hAB hP hD hS [0, 1, 2, 3, 4, 5, 6, 7, 8, 9, 10, 11, 12, 13, 14, 15, 16, 17, 18, 19, 20, 21, 22, 23, 24, 25, 26, 27, 28, 29, 30, 31] cW_d (cW_c G a S) (va_recv hE.1 hP (ci := 4) (q0 := 0) rfl (cW_o G a S)) (cW_f G a S q1076.2) (cW_s G a S q1076.2) rfl rfl hl.1 rfl (Nat.le_of_ble_eq_true rfl) dX7_hide_31 ⟨Nat.le_refl _, Nat.le_refl _⟩ (fun H locs hP hD hS => ?_)
      exact fc_reti hx hb hr hlocks hP hS dX7_hide_34 (i2a hf) (congrArg (fun z => (cW G a z)) (i2b hf))
  · have hf := ifT hf c1072
    refine lv_aload_n hx hb dX7_hide_11 rfl (lv_at hl 0 rfl) ?_
    refine lv_iconst (v := (-1 : Int32)) hx hb dX7_hide_12 (by decide) ?_
    obtain ⟨q1077, hq1077, hf⟩ := bnd hf
    refine fc_callV (Wa' := (cW G a q1077.2)) (st1 := [.int q1077.1]) (As := [.int (-1 : Int32)]) (rest := []) hCF (k_X7_refuse a S (-1 : Int32) hq1077) (cwV 1 hts gX7_hide_X7_refuse rfl rfl rfl ⟨rfl, dk_X7_refuse⟩ ⟨Nat.le_of_ble_eq_true rfl, Nat.le_of_ble_eq_true rfl⟩) hE hAB hP hD hS [0, 1, 2, 3, 4, 5, 6, 7, 8, 9, 10, 11, 12, 13, 14, 15, 16, 17, 18, 19, 20, 21, 22, 23, 24, 25, 26, 27, 28, 29, 30, 31] cW_d (cW_c G a S) (va_recv hE.1 hP (ci := 4) (q0 := 0) rfl (cW_o G a S)) (cW_f G a S q1077.2) (cW_s G a S q1077.2) rfl rfl hl.1 rfl (Nat.le_of_ble_eq_true rfl) dX7_hide_13 ⟨Nat.le_refl _, Nat.le_refl _⟩ (fun H locs hP hD hS => ?_)
    exact fc_reti hx hb hr hlocks hP hS dX7_hide_16 (i2a hf) (congrArg (fun z => (cW G a z)) (i2b hf))
theorem dk_X7_image : yX7_image.cls ≠ "java/lang/invoke/MethodHandle" ∧ yX7_image.cls ≠ "java/lang/invoke/VarHandle" ∧ (parseMethodDescriptor yX7_image.desc).map (fun d => d.parameters.length) = some 0 := by decide +kernel
theorem iu_X7_image_X6 : ∀ w ∈ u_ws RX6 TX6 12, w ∈ wsX7_image := by decide +kernel
theorem iu_X7_image_X7 : ∀ w ∈ u_ws RX7 TX7 8, w ∈ wsX7_image := by decide +kernel
set_option maxHeartbeats 4000000 in
set_option maxRecDepth 100000 in
theorem k_X7_image {l : Launch} {G : Gx} (a : Nat → Nat) (S : (Nat → St)) {r : Int32} {S' : (Nat → St)} (hf : f_X7_image S = some (r, S')) : FC l G yX7_image wsX7_image ({ frames := 2, cells := 0, slots := 0, locals := 43 } : Room) [.ref (a 0)] (cW G a S) (cW G a S') (some (.int r)) := by
  refine fc_head (cc := cX7_image) (maxL := 1) (ret := (some .int)) (C := RX7) (lv := [(0, .ref (a 0))]) (by decide) rfl rfl (Nat.le_of_ble_eq_true rfl) rfl ?_
  intro p e s m below meth c ls A hx hb hr hml hown hts hlocks hE hP hD hAB hS hl
  have hCF : CallFix p m c cX7_image 1 s ([.ref (a 0)] : List Value).toArray wsX7_image RX7 := ⟨hx, hb, hml, hown, hts⟩
  have hwX6 : ∀ w ∈ u_ws RX6 TX6 12, w.before ([.ref (a 0)] : List Value).toArray s = true := fun w h => hts w (iu_X7_image_X6 w h)
  have hwX7 : ∀ w ∈ u_ws RX7 TX7 8, w.before ([.ref (a 0)] : List Value).toArray s = true := fun w h => hts w (iu_X7_image_X7 w h)
  have hk_fieldLink_RX7_19__BrideNotKnown___kept___LBrideNotKnown_Valley__ := hts (.fieldLink RX7 19 "BrideNotKnown" "kept" "LBrideNotKnown$Valley;") (List.mem_of_getElem? (i := 1) rfl)
  have hk_fieldLink_RX7_10__BrideNotKnown___now___LBrideNotKnown_Valley__ := hts (.fieldLink RX7 10 "BrideNotKnown" "now" "LBrideNotKnown$Valley;") (List.mem_of_getElem? (i := 2) rfl)
  have hk_fieldLink_RX7_270__BrideNotKnown___imageTaken___Z_ := hts (.fieldLink RX7 270 "BrideNotKnown" "imageTaken" "Z") (List.mem_of_getElem? (i := 3) rfl)
  have hk_fieldLink_RX7_274__BrideNotKnown_Valley___year___I_ := hts (.fieldLink RX7 274 "BrideNotKnown$Valley" "year" "I") (List.mem_of_getElem? (i := 4) rfl)
  rw [f_X7_image] at hf
  refine lv_aload_n hx hb dX7_image_0 rfl (lv_at hl 0 rfl) ?_
  refine fc_get (v := .ref (a 17)) (ci := 4) (C := RX7) (T := TX7) (N := 8) hx hb hwX7 hown hE hP 0 (cW_o G a S) rfl 2 (by decide) hk_fieldLink_RX7_19__BrideNotKnown___kept___LBrideNotKnown_Valley__ (fun _ h => h) rfl dX7_image_1 ?_
  refine lv_aload_n hx hb dX7_image_4 rfl (lv_at hl 0 rfl) ?_
  refine fc_get (v := .ref (a 1)) (ci := 4) (C := RX7) (T := TX7) (N := 8) hx hb hwX7 hown hE hP 0 (cW_o G a S) rfl 0 (by decide) hk_fieldLink_RX7_10__BrideNotKnown___now___LBrideNotKnown_Valley__ (fun _ h => h) rfl dX7_image_5 ?_
  obtain ⟨q1079, hq1079, hf⟩ := bnd hf
  refine fc_callV (Wa' := (cW G a (sS S 2 q1079))) (st1 := []) (As := [.ref (a 1)]) (rest := []) hCF (k_X6_become (sh 17 a) (S 2) (sh 1 a) (S 0) hq1079) (cwV 1 hts gX7_image_X6_become rfl rfl rfl ⟨rfl, dk_X6_become⟩ ⟨Nat.le_of_ble_eq_true rfl, Nat.le_of_ble_eq_true rfl⟩) hE hAB hP hD hS [17, 18, 19, 20, 21, 22, 23, 24, 1, 2, 3, 4, 5, 6, 7, 8] (by decide +kernel) (cut_cut (cW_c2 G a S) (cW_c0 G a S)) (va_recv hE.1 hP (ci := 3) (q0 := 17) rfl (cW_o2 G a S)) (fst_fst (vW_f G (sh 17 a) (S 2) q1079) (vW_f G (sh 1 a) (S 0) (S 0))) ((set_set (i1 := [17, 18, 19, 20, 21, 22, 23, 24]) (W1 := (vW G (sh 17 a) q1079)) (vW_n G (sh 17 a) q1079).symm).trans ((congrArg (fun z => setAll z _ _) (cW_i0 G a S)).trans (cW_s2 G a S q1079))) rfl rfl hl.1 rfl (Nat.le_of_ble_eq_true rfl) dX7_image_8 ⟨Nat.le_refl _, Nat.le_refl _⟩ (fun H locs hP hD hS => ?_)
  refine lv_aload_n hx hb dX7_image_11 rfl (lv_at hl 0 rfl) ?_
  refine lv_iconst (v := (1 : Int32)) hx hb dX7_image_12 (by decide) ?_
  refine fc_put (Wa' := (cW G a (sS (sS S 2 q1079) 6 (sA (S 6) 1 (upd ((S 6) 1) 0 (1 : Int32)))))) (ci := 4) (C := RX7) (T := TX7) (N := 8) hx hb hwX7 tyX7 tyX7_ok nmX7 hown hE hP hD hS 0 (cW_o G a (sS S 2 q1079)) rfl 3 (by decide) hk_fieldLink_RX7_270__BrideNotKnown___imageTaken___Z_ (fun _ h => h) rfl (by decide) (by decide) (Nat.le_of_ble_eq_true rfl) dX7_image_13 (cW_p3 G a (sS S 2 q1079) (1 : Int32)) (fun H locs hP hD hS => ?_)
  refine lv_aload_n hx hb dX7_image_16 rfl (lv_at hl 0 rfl) ?_
  refine fc_get (v := .ref (a 1)) (ci := 4) (C := RX7) (T := TX7) (N := 8) hx hb hwX7 hown hE hP 0 (cW_o G a (sS (sS S 2 q1079) 6 (sA (S 6) 1 (upd ((S 6) 1) 0 (1 : Int32))))) rfl 0 (by decide) hk_fieldLink_RX7_10__BrideNotKnown___now___LBrideNotKnown_Valley__ (fun _ h => h) rfl dX7_image_17 ?_
  refine fc_get (v := .int ((S 0) 7 0)) (ci := 3) (C := RX6) (T := TX6) (N := 12) hx hb hwX6 hown hE hP 1 (cW_o0 G a (sS (sS S 2 q1079) 6 (sA (S 6) 1 (upd ((S 6) 1) 0 (1 : Int32))))) rfl 0 (by decide) hk_fieldLink_RX7_274__BrideNotKnown_Valley___year___I_ (fun _ h => h) rfl dX7_image_20 ?_
  exact fc_reti hx hb hr hlocks hP hS dX7_image_23 (i2a hf) (congrArg (fun z => (cW G a z)) (i2b hf))
theorem dk_X7_judge : yX7_judge.cls ≠ "java/lang/invoke/MethodHandle" ∧ yX7_judge.cls ≠ "java/lang/invoke/VarHandle" ∧ (parseMethodDescriptor yX7_judge.desc).map (fun d => d.parameters.length) = some 0 := by decide +kernel
theorem iu_X7_judge_X7 : ∀ w ∈ u_ws RX7 TX7 8, w ∈ wsX7_judge := by decide +kernel
set_option maxHeartbeats 4000000 in
set_option maxRecDepth 100000 in
theorem k_X7_judge {l : Launch} {G : Gx} (a : Nat → Nat) (S : (Nat → St)) {r : Int32} {S' : (Nat → St)} (hf : f_X7_judge S = some (r, S')) : FC l G yX7_judge wsX7_judge ({ frames := 5, cells := 0, slots := 0, locals := 122 } : Room) [.ref (a 0)] (cW G a S) (cW G a S') (some (.int r)) := by
  refine fc_head (cc := cX7_judge) (maxL := 2) (ret := (some .int)) (C := RX7) (lv := [(0, .ref (a 0))]) (by decide) rfl rfl (Nat.le_of_ble_eq_true rfl) rfl ?_
  intro p e s m below meth c ls A hx hb hr hml hown hts hlocks hE hP hD hAB hS hl
  have hCF : CallFix p m c cX7_judge 2 s ([.ref (a 0)] : List Value).toArray wsX7_judge RX7 := ⟨hx, hb, hml, hown, hts⟩
  have hwX7 : ∀ w ∈ u_ws RX7 TX7 8, w.before ([.ref (a 0)] : List Value).toArray s = true := fun w h => hts w (iu_X7_judge_X7 w h)
  have hk_fieldLink_RX7_32__BrideNotKnown___numbers___LBrideNotKnown_Row__ := hts (.fieldLink RX7 32 "BrideNotKnown" "numbers" "LBrideNotKnown$Row;") (List.mem_of_getElem? (i := 1) rfl)
  have hk_fieldLink_RX7_10__BrideNotKnown___now___LBrideNotKnown_Valley__ := hts (.fieldLink RX7 10 "BrideNotKnown" "now" "LBrideNotKnown$Valley;") (List.mem_of_getElem? (i := 2) rfl)
  rw [f_X7_judge] at hf
  refine lv_aload_n hx hb dX7_judge_0 rfl (lv_at hl 0 rfl) ?_
  refine fc_get (v := .ref (a 27)) (ci := 4) (C := RX7) (T := TX7) (N := 8) hx hb hwX7 hown hE hP 0 (cW_o G a S) rfl 5 (by decide) hk_fieldLink_RX7_32__BrideNotKnown___numbers___LBrideNotKnown_Row__ (fun _ h => h) rfl dX7_judge_1 ?_
  refine lv_aload_n hx hb dX7_judge_4 rfl (lv_at hl 0 rfl) ?_
  refine fc_get (v := .ref (a 1)) (ci := 4) (C := RX7) (T := TX7) (N := 8) hx hb hwX7 hown hE hP 0 (cW_o G a S) rfl 0 (by decide) hk_fieldLink_RX7_10__BrideNotKnown___now___LBrideNotKnown_Valley__ (fun _ h => h) rfl dX7_judge_5 ?_
  obtain ⟨q1082, hq1082, hf⟩ := bnd hf
  refine fc_callV (Wa' := (cW G a S)) (st1 := [.int q1082]) (As := [.ref (a 1)]) (rest := []) hCF (k_X4_firstWrongGuess (sh 27 a) (S 4) (sh 1 a) (S 0) hq1082) (cwV 1 hts gX7_judge_X4_firstWrongGuess rfl rfl rfl ⟨rfl, dk_X4_firstWrongGuess⟩ ⟨Nat.le_of_ble_eq_true rfl, Nat.le_of_ble_eq_true rfl⟩) hE hAB hP hD hS [27, 28, 1, 2, 3, 4, 5, 6, 7, 8] (by decide +kernel) (cut_cut (cW_c4 G a S) (cW_c0 G a S)) (va_recv hE.1 hP (ci := 1) (q0 := 27) rfl (cW_o4 G a S)) (fst_fst (rW_f G (sh 27 a) (S 4) (S 4)) (vW_f G (sh 1 a) (S 0) (S 0))) ((set_set (i1 := [27, 28]) (W1 := (rW G (sh 27 a) (S 4))) (rW_n G (sh 27 a) (S 4)).symm).trans ((congrArg (fun z => setAll z _ _) (cW_i0 G a S)).trans (cW_i4 G a S))) rfl rfl hl.1 rfl (Nat.le_of_ble_eq_true rfl) dX7_judge_8 ⟨Nat.le_refl _, Nat.le_refl _⟩ (fun H locs hP hD hS => ?_)
  refine lv_istore_n (lv' := [(1, .int q1082), (0, .ref (a 0))]) hx hb dX7_judge_11 rfl hl (by decide) rfl (fun ls hl => ?_)
  refine lv_aload_n hx hb dX7_judge_12 rfl (lv_at hl 1 rfl) ?_
  refine fc_get (v := .ref (a 27)) (ci := 4) (C := RX7) (T := TX7) (N := 8) hx hb hwX7 hown hE hP 0 (cW_o G a S) rfl 5 (by decide) hk_fieldLink_RX7_32__BrideNotKnown___numbers___LBrideNotKnown_Row__ (fun _ h => h) rfl dX7_judge_13 ?_
  obtain ⟨q1083, hq1083, hf⟩ := bnd hf
  refine fc_callV (Wa' := (cW G a (sS S 4 q1083))) (st1 := []) (As := []) (rest := []) hCF (k_X4_empty (sh 27 a) (S 4) hq1083) (cwV 0 hts gX7_judge_X4_empty rfl rfl rfl ⟨rfl, dk_X4_empty⟩ ⟨Nat.le_of_ble_eq_true rfl, Nat.le_of_ble_eq_true rfl⟩) hE hAB hP hD hS [27, 28] cW_d4 (cW_c4 G a S) (va_recv hE.1 hP (ci := 1) (q0 := 27) rfl (cW_o4 G a S)) (rW_f G (sh 27 a) (S 4) q1083) (cW_s4 G a S q1083) rfl rfl hl.1 rfl (Nat.le_of_ble_eq_true rfl) dX7_judge_16 ⟨Nat.le_refl _, Nat.le_refl _⟩ (fun H locs hP hD hS => ?_)
  refine lv_iload_n hx hb dX7_judge_19 rfl (lv_at hl 0 rfl) ?_
  exact fc_reti hx hb hr hlocks hP hS dX7_judge_20 (i2a hf) (congrArg (fun z => (cW G a z)) (i2b hf))
theorem dk_X7_known : yX7_known.cls ≠ "java/lang/invoke/MethodHandle" ∧ yX7_known.cls ≠ "java/lang/invoke/VarHandle" ∧ (parseMethodDescriptor yX7_known.desc).map (fun d => d.parameters.length) = some 1 := by decide +kernel
theorem iu_X7_known_X7 : ∀ w ∈ u_ws RX7 TX7 8, w ∈ wsX7_known := by decide +kernel
set_option maxHeartbeats 4000000 in
set_option maxRecDepth 100000 in
theorem k_X7_known {l : Launch} {G : Gx} (a : Nat → Nat) (S : (Nat → St)) (x1 : Int32) {r : Int32} {S' : (Nat → St)} (hf : f_X7_known S x1 = some (r, S')) : FC l G yX7_known wsX7_known ({ frames := 5, cells := 0, slots := 0, locals := 122 } : Room) [.ref (a 0), .int x1] (cW G a S) (cW G a S') (some (.int r)) := by
  refine fc_head (cc := cX7_known) (maxL := 2) (ret := (some .int)) (C := RX7) (lv := [(0, .ref (a 0)), (1, .int x1)]) (by decide) rfl rfl (Nat.le_of_ble_eq_true rfl) rfl ?_
  intro p e s m below meth c ls A hx hb hr hml hown hts hlocks hE hP hD hAB hS hl
  have hCF : CallFix p m c cX7_known 2 s ([.ref (a 0), .int x1] : List Value).toArray wsX7_known RX7 := ⟨hx, hb, hml, hown, hts⟩
  have hwX7 : ∀ w ∈ u_ws RX7 TX7 8, w.before ([.ref (a 0), .int x1] : List Value).toArray s = true := fun w h => hts w (iu_X7_known_X7 w h)
  have hk_fieldLink_RX7_10__BrideNotKnown___now___LBrideNotKnown_Valley__ := hts (.fieldLink RX7 10 "BrideNotKnown" "now" "LBrideNotKnown$Valley;") (List.mem_of_getElem? (i := 1) rfl)
  rw [f_X7_known] at hf
  refine lv_iload_n hx hb dX7_known_0 rfl (lv_at hl 1 rfl) ?_
  obtain ⟨q1089, hq1089, hf⟩ := bnd hf
  refine fc_callS (Wa' := (cW G a S)) (st1 := [.int q1089]) (As := [.int x1]) (rest := []) hCF (k_X7_isNotEither x1 hq1089) (va_cwS 1 hts gX7_known_X7_isNotEither rfl rfl rfl dk_X7_isNotEither ⟨Nat.le_of_ble_eq_true rfl, Nat.le_of_ble_eq_true rfl⟩) hE hAB hP hD hS [] rfl rfl rfl rfl rfl rfl hl.1 rfl (Nat.le_of_ble_eq_true rfl) dX7_known_1 ⟨Nat.le_refl _, Nat.le_refl _⟩ (fun H locs hP hD hS => ?_)
  refine lv_if_eq (tgt := 14) hx hb dX7_known_4 (by decide) (fun c1090 => ?_) (fun c1090 => ?_)
  · have hf := ifT hf c1090
    refine lv_iload_n hx hb dX7_known_14 rfl (lv_at hl 1 rfl) ?_
    refine lv_if_ne (tgt := 28) hx hb dX7_known_15 (by decide) (fun c1091 => ?_) (fun c1091 => ?_)
    · have hf := ifF hf c1091
      refine lv_aload_n hx hb dX7_known_28 rfl (lv_at hl 0 rfl) ?_
      refine fc_get (v := .ref (a 1)) (ci := 4) (C := RX7) (T := TX7) (N := 8) hx hb hwX7 hown hE hP 0 (cW_o G a S) rfl 0 (by decide) hk_fieldLink_RX7_10__BrideNotKnown___now___LBrideNotKnown_Valley__ (fun _ h => h) rfl dX7_known_29 ?_
      refine lv_iconst (v := (0 : Int32)) hx hb dX7_known_32 (by decide) ?_
      obtain ⟨q1092, hq1092, hf⟩ := bnd hf
      refine fc_callV (Wa' := (cW G a S)) (st1 := [.int q1092]) (As := [.int (0 : Int32)]) (rest := []) hCF (k_X6_hereThen (sh 1 a) (S 0) (0 : Int32) hq1092) (cwV 1 hts gX7_known_X6_hereThen rfl rfl rfl ⟨rfl, dk_X6_hereThen⟩ ⟨Nat.le_of_ble_eq_true rfl, Nat.le_of_ble_eq_true rfl⟩) hE hAB hP hD hS [1, 2, 3, 4, 5, 6, 7, 8] cW_d0 (cW_c0 G a S) (va_recv hE.1 hP (ci := 3) (q0 := 1) rfl (cW_o0 G a S)) (vW_f G (sh 1 a) (S 0) (S 0)) (cW_i0 G a S) rfl rfl hl.1 rfl (Nat.le_of_ble_eq_true rfl) dX7_known_33 ⟨Nat.le_refl _, Nat.le_refl _⟩ (fun H locs hP hD hS => ?_)
      refine lv_aload_n hx hb dX7_known_36 rfl (lv_at hl 0 rfl) ?_
      refine fc_get (v := .ref (a 1)) (ci := 4) (C := RX7) (T := TX7) (N := 8) hx hb hwX7 hown hE hP 0 (cW_o G a S) rfl 0 (by decide) hk_fieldLink_RX7_10__BrideNotKnown___now___LBrideNotKnown_Valley__ (fun _ h => h) rfl dX7_known_37 ?_
      obtain ⟨q1093, hq1093, hf⟩ := bnd hf
      refine fc_callV (Wa' := (cW G a S)) (st1 := [.int q1093, .int q1092]) (As := []) (rest := [.int q1092]) hCF (k_X6_knownBits (sh 1 a) (S 0) hq1093) (cwV 0 hts gX7_known_X6_knownBits rfl rfl rfl ⟨rfl, dk_X6_knownBits⟩ ⟨Nat.le_of_ble_eq_true rfl, Nat.le_of_ble_eq_true rfl⟩) hE hAB hP hD hS [1, 2, 3, 4, 5, 6, 7, 8] cW_d0 (cW_c0 G a S) (va_recv hE.1 hP (ci := 3) (q0 := 1) rfl (cW_o0 G a S)) (vW_f G (sh 1 a) (S 0) (S 0)) (cW_i0 G a S) rfl rfl hl.1 rfl (Nat.le_of_ble_eq_true rfl) dX7_known_40 ⟨Nat.le_refl _, Nat.le_refl _⟩ (fun H locs hP hD hS => ?_)
      refine lv_iconst (v := (-1 : Int32)) hx hb dX7_known_43 (by decide) ?_
      refine lv_ixor hx hb dX7_known_44 ?_
      refine lv_iand hx hb dX7_known_45 ?_
      exact fc_reti hx hb hr hlocks hP hS dX7_known_46 (i2a hf) (congrArg (fun z => (cW G a z)) (i2b hf))
    · have hf := ifT hf c1091
      refine lv_aload_n hx hb dX7_known_18 rfl (lv_at hl 0 rfl) ?_
      refine fc_get (v := .ref (a 1)) (ci := 4) (C := RX7) (T := TX7) (N := 8) hx hb hwX7 hown hE hP 0 (cW_o G a S) rfl 0 (by decide) hk_fieldLink_RX7_10__BrideNotKnown___now___LBrideNotKnown_Valley__ (fun _ h => h) rfl dX7_known_19 ?_
      obtain ⟨q1094, hq1094, hf⟩ := bnd hf
      refine fc_callV (Wa' := (cW G a S)) (st1 := [.int q1094]) (As := []) (rest := []) hCF (k_X6_knownBits (sh 1 a) (S 0) hq1094) (cwV 0 hts gX7_known_X6_knownBits rfl rfl rfl ⟨rfl, dk_X6_knownBits⟩ ⟨Nat.le_of_ble_eq_true rfl, Nat.le_of_ble_eq_true rfl⟩) hE hAB hP hD hS [1, 2, 3, 4, 5, 6, 7, 8] cW_d0 (cW_c0 G a S) (va_recv hE.1 hP (ci := 3) (q0 := 1) rfl (cW_o0 G a S)) (vW_f G (sh 1 a) (S 0) (S 0)) (cW_i0 G a S) rfl rfl hl.1 rfl (Nat.le_of_ble_eq_true rfl) dX7_known_22 ⟨Nat.le_refl _, Nat.le_refl _⟩ (fun H locs hP hD hS => ?_)
      refine lv_goto (tgt := 46) hx hb dX7_known_25 (by decide) ?_
      exact fc_reti hx hb hr hlocks hP hS dX7_known_46 (i2a hf) (congrArg (fun z => (cW G a z)) (i2b hf))
  · have hf := ifF hf c1090
    refine lv_aload_n hx hb dX7_known_7 rfl (lv_at hl 0 rfl) ?_
    refine lv_bipush (v := (-2 : Int32)) hx hb dX7_known_8 (by decide) ?_
    obtain ⟨q1095, hq1095, hf⟩ := bnd hf
    refine fc_callV (Wa' := (cW G a q1095.2)) (st1 := [.int q1095.1]) (As := [.int (-2 : Int32)]) (rest := []) hCF (k_X7_refuse a S (-2 : Int32) hq1095) (cwV 1 hts gX7_known_X7_refuse rfl rfl rfl ⟨rfl, dk_X7_refuse⟩ ⟨Nat.le_of_ble_eq_true rfl, Nat.le_of_ble_eq_true rfl⟩) hE hAB hP hD hS [0, 1, 2, 3, 4, 5, 6, 7, 8, 9, 10, 11, 12, 13, 14, 15, 16, 17, 18, 19, 20, 21, 22, 23, 24, 25, 26, 27, 28, 29, 30, 31] cW_d (cW_c G a S) (va_recv hE.1 hP (ci := 4) (q0 := 0) rfl (cW_o G a S)) (cW_f G a S q1095.2) (cW_s G a S q1095.2) rfl rfl hl.1 rfl (Nat.le_of_ble_eq_true rfl) dX7_known_10 ⟨Nat.le_refl _, Nat.le_refl _⟩ (fun H locs hP hD hS => ?_)
    exact fc_reti hx hb hr hlocks hP hS dX7_known_13 (i2a hf) (congrArg (fun z => (cW G a z)) (i2b hf))
theorem dk_X7_letter : yX7_letter.cls ≠ "java/lang/invoke/MethodHandle" ∧ yX7_letter.cls ≠ "java/lang/invoke/VarHandle" ∧ (parseMethodDescriptor yX7_letter.desc).map (fun d => d.parameters.length) = some 1 := by decide +kernel
theorem iu_X7_letter_X7 : ∀ w ∈ u_ws RX7 TX7 8, w ∈ wsX7_letter := by decide +kernel
set_option maxHeartbeats 4000000 in
set_option maxRecDepth 100000 in
theorem k_X7_letter {l : Launch} {G : Gx} (a : Nat → Nat) (S : (Nat → St)) (x1 : Int32) {r : Int32} {S' : (Nat → St)} (hf : f_X7_letter S x1 = some (r, S')) : FC l G yX7_letter wsX7_letter ({ frames := 2, cells := 0, slots := 0, locals := 43 } : Room) [.ref (a 0), .int x1] (cW G a S) (cW G a S') (some (.int r)) := by
  refine fc_head (cc := cX7_letter) (maxL := 2) (ret := (some .int)) (C := RX7) (lv := [(0, .ref (a 0)), (1, .int x1)]) (by decide) rfl rfl (Nat.le_of_ble_eq_true rfl) rfl ?_
  intro p e s m below meth c ls A hx hb hr hml hown hts hlocks hE hP hD hAB hS hl
  have hCF : CallFix p m c cX7_letter 2 s ([.ref (a 0), .int x1] : List Value).toArray wsX7_letter RX7 := ⟨hx, hb, hml, hown, hts⟩
  have hwX7 : ∀ w ∈ u_ws RX7 TX7 8, w.before ([.ref (a 0), .int x1] : List Value).toArray s = true := fun w h => hts w (iu_X7_letter_X7 w h)
  have hk_fieldLink_RX7_25__BrideNotKnown___text___LBrideNotKnown_Text__ := hts (.fieldLink RX7 25 "BrideNotKnown" "text" "LBrideNotKnown$Text;") (List.mem_of_getElem? (i := 1) rfl)
  rw [f_X7_letter] at hf
  refine lv_iload_n hx hb dX7_letter_0 rfl (lv_at hl 1 rfl) ?_
  refine lv_if_ge (tgt := 11) hx hb dX7_letter_1 (by decide) (fun c1101 => ?_) (fun c1101 => ?_)
  · have hf := ifT hf c1101
    refine lv_iload_n hx hb dX7_letter_11 rfl (lv_at hl 1 rfl) ?_
    refine lv_sipush (v := (255 : Int32)) hx hb dX7_letter_12 (by decide) ?_
    refine lv_icmp_gt (tgt := 28) hx hb dX7_letter_15 (by decide) (fun c1102 => ?_) (fun c1102 => ?_)
    · have hf := ifT hf c1102
      refine lv_aload_n hx hb dX7_letter_28 rfl (lv_at hl 0 rfl) ?_
      refine lv_bipush (v := (-6 : Int32)) hx hb dX7_letter_29 (by decide) ?_
      obtain ⟨q1103, hq1103, hf⟩ := bnd hf
      refine fc_callV (Wa' := (cW G a q1103.2)) (st1 := [.int q1103.1]) (As := [.int (-6 : Int32)]) (rest := []) hCF (k_X7_refuse a S (-6 : Int32) hq1103) (cwV 1 hts gX7_letter_X7_refuse rfl rfl rfl ⟨rfl, dk_X7_refuse⟩ ⟨Nat.le_of_ble_eq_true rfl, Nat.le_of_ble_eq_true rfl⟩) hE hAB hP hD hS [0, 1, 2, 3, 4, 5, 6, 7, 8, 9, 10, 11, 12, 13, 14, 15, 16, 17, 18, 19, 20, 21, 22, 23, 24, 25, 26, 27, 28, 29, 30, 31] cW_d (cW_c G a S) (va_recv hE.1 hP (ci := 4) (q0 := 0) rfl (cW_o G a S)) (cW_f G a S q1103.2) (cW_s G a S q1103.2) rfl rfl hl.1 rfl (Nat.le_of_ble_eq_true rfl) dX7_letter_31 ⟨Nat.le_refl _, Nat.le_refl _⟩ (fun H locs hP hD hS => ?_)
      exact fc_reti hx hb hr hlocks hP hS dX7_letter_34 (i2a hf) (congrArg (fun z => (cW G a z)) (i2b hf))
    · have hf := ifF hf c1102
      refine lv_aload_n hx hb dX7_letter_18 rfl (lv_at hl 0 rfl) ?_
      refine fc_get (v := .ref (a 25)) (ci := 4) (C := RX7) (T := TX7) (N := 8) hx hb hwX7 hown hE hP 0 (cW_o G a S) rfl 4 (by decide) hk_fieldLink_RX7_25__BrideNotKnown___text___LBrideNotKnown_Text__ (fun _ h => h) rfl dX7_letter_19 ?_
      obtain ⟨q1104, hq1104, hf⟩ := bnd hf
      refine fc_callV (Wa' := (cW G a S)) (st1 := [.int q1104]) (As := []) (rest := []) hCF (k_X5_isFull (sh 25 a) (S 3) hq1104) (cwV 0 hts gX7_letter_X5_isFull rfl rfl rfl ⟨rfl, dk_X5_isFull⟩ ⟨Nat.le_of_ble_eq_true rfl, Nat.le_of_ble_eq_true rfl⟩) hE hAB hP hD hS [25, 26] cW_d3 (cW_c3 G a S) (va_recv hE.1 hP (ci := 2) (q0 := 25) rfl (cW_o3 G a S)) (tW_f G (sh 25 a) (S 3) (S 3)) (cW_i3 G a S) rfl rfl hl.1 rfl (Nat.le_of_ble_eq_true rfl) dX7_letter_22 ⟨Nat.le_refl _, Nat.le_refl _⟩ (fun H locs hP hD hS => ?_)
      refine lv_if_eq (tgt := 35) hx hb dX7_letter_25 (by decide) (fun c1105 => ?_) (fun c1105 => ?_)
      · have hf := ifT hf c1105
        refine lv_aload_n hx hb dX7_letter_35 rfl (lv_at hl 0 rfl) ?_
        refine fc_get (v := .ref (a 25)) (ci := 4) (C := RX7) (T := TX7) (N := 8) hx hb hwX7 hown hE hP 0 (cW_o G a S) rfl 4 (by decide) hk_fieldLink_RX7_25__BrideNotKnown___text___LBrideNotKnown_Text__ (fun _ h => h) rfl dX7_letter_36 ?_
        refine lv_iload_n hx hb dX7_letter_39 rfl (lv_at hl 1 rfl) ?_
        obtain ⟨q1106, hq1106, hf⟩ := bnd hf
        refine fc_callV (Wa' := (cW G a (sS S 3 q1106.2))) (st1 := [.int q1106.1]) (As := [.int x1]) (rest := []) hCF (k_X5_add (sh 25 a) (S 3) x1 hq1106) (cwV 1 hts gX7_letter_X5_add rfl rfl rfl ⟨rfl, dk_X5_add⟩ ⟨Nat.le_of_ble_eq_true rfl, Nat.le_of_ble_eq_true rfl⟩) hE hAB hP hD hS [25, 26] cW_d3 (cW_c3 G a S) (va_recv hE.1 hP (ci := 2) (q0 := 25) rfl (cW_o3 G a S)) (tW_f G (sh 25 a) (S 3) q1106.2) (cW_s3 G a S q1106.2) rfl rfl hl.1 rfl (Nat.le_of_ble_eq_true rfl) dX7_letter_40 ⟨Nat.le_refl _, Nat.le_refl _⟩ (fun H locs hP hD hS => ?_)
        exact fc_reti hx hb hr hlocks hP hS dX7_letter_43 (i2a hf) (congrArg (fun z => (cW G a z)) (i2b hf))
      · have hf := ifF hf c1105
        refine lv_aload_n hx hb dX7_letter_28 rfl (lv_at hl 0 rfl) ?_
        refine lv_bipush (v := (-6 : Int32)) hx hb dX7_letter_29 (by decide) ?_
        obtain ⟨q1107, hq1107, hf⟩ := bnd hf
        refine fc_callV (Wa' := (cW G a q1107.2)) (st1 := [.int q1107.1]) (As := [.int (-6 : Int32)]) (rest := []) hCF (k_X7_refuse a S (-6 : Int32) hq1107) (cwV 1 hts gX7_letter_X7_refuse rfl rfl rfl ⟨rfl, dk_X7_refuse⟩ ⟨Nat.le_of_ble_eq_true rfl, Nat.le_of_ble_eq_true rfl⟩) hE hAB hP hD hS [0, 1, 2, 3, 4, 5, 6, 7, 8, 9, 10, 11, 12, 13, 14, 15, 16, 17, 18, 19, 20, 21, 22, 23, 24, 25, 26, 27, 28, 29, 30, 31] cW_d (cW_c G a S) (va_recv hE.1 hP (ci := 4) (q0 := 0) rfl (cW_o G a S)) (cW_f G a S q1107.2) (cW_s G a S q1107.2) rfl rfl hl.1 rfl (Nat.le_of_ble_eq_true rfl) dX7_letter_31 ⟨Nat.le_refl _, Nat.le_refl _⟩ (fun H locs hP hD hS => ?_)
        exact fc_reti hx hb hr hlocks hP hS dX7_letter_34 (i2a hf) (congrArg (fun z => (cW G a z)) (i2b hf))
  · have hf := ifF hf c1101
    refine lv_aload_n hx hb dX7_letter_4 rfl (lv_at hl 0 rfl) ?_
    refine lv_bipush (v := (-4 : Int32)) hx hb dX7_letter_5 (by decide) ?_
    obtain ⟨q1108, hq1108, hf⟩ := bnd hf
    refine fc_callV (Wa' := (cW G a q1108.2)) (st1 := [.int q1108.1]) (As := [.int (-4 : Int32)]) (rest := []) hCF (k_X7_refuse a S (-4 : Int32) hq1108) (cwV 1 hts gX7_letter_X7_refuse rfl rfl rfl ⟨rfl, dk_X7_refuse⟩ ⟨Nat.le_of_ble_eq_true rfl, Nat.le_of_ble_eq_true rfl⟩) hE hAB hP hD hS [0, 1, 2, 3, 4, 5, 6, 7, 8, 9, 10, 11, 12, 13, 14, 15, 16, 17, 18, 19, 20, 21, 22, 23, 24, 25, 26, 27, 28, 29, 30, 31] cW_d (cW_c G a S) (va_recv hE.1 hP (ci := 4) (q0 := 0) rfl (cW_o G a S)) (cW_f G a S q1108.2) (cW_s G a S q1108.2) rfl rfl hl.1 rfl (Nat.le_of_ble_eq_true rfl) dX7_letter_7 ⟨Nat.le_refl _, Nat.le_refl _⟩ (fun H locs hP hD hS => ?_)
    exact fc_reti hx hb hr hlocks hP hS dX7_letter_10 (i2a hf) (congrArg (fun z => (cW G a z)) (i2b hf))
theorem dk_X7_lies : yX7_lies.cls ≠ "java/lang/invoke/MethodHandle" ∧ yX7_lies.cls ≠ "java/lang/invoke/VarHandle" ∧ (parseMethodDescriptor yX7_lies.desc).map (fun d => d.parameters.length) = some 0 := by decide +kernel
theorem iu_X7_lies_X6 : ∀ w ∈ u_ws RX6 TX6 12, w ∈ wsX7_lies := by decide +kernel
theorem iu_X7_lies_X7 : ∀ w ∈ u_ws RX7 TX7 8, w ∈ wsX7_lies := by decide +kernel
set_option maxHeartbeats 4000000 in
set_option maxRecDepth 100000 in
theorem k_X7_lies {l : Launch} {G : Gx} (a : Nat → Nat) (S : (Nat → St)) {r : Int32} (hf : f_X7_lies S = some r) : FC l G yX7_lies wsX7_lies ({ frames := 3, cells := 0, slots := 0, locals := 71 } : Room) [.ref (a 0)] (cW G a S) (cW G a S) (some (.int r)) := by
  refine fc_head (cc := cX7_lies) (maxL := 3) (ret := (some .int)) (C := RX7) (lv := [(0, .ref (a 0))]) (by decide) rfl rfl (Nat.le_of_ble_eq_true rfl) rfl ?_
  intro p e s m below meth c ls A hx hb hr hml hown hts hlocks hE hP hD hAB hS hl
  have hCF : CallFix p m c cX7_lies 3 s ([.ref (a 0)] : List Value).toArray wsX7_lies RX7 := ⟨hx, hb, hml, hown, hts⟩
  have hwX6 : ∀ w ∈ u_ws RX6 TX6 12, w.before ([.ref (a 0)] : List Value).toArray s = true := fun w h => hts w (iu_X7_lies_X6 w h)
  have hwX7 : ∀ w ∈ u_ws RX7 TX7 8, w.before ([.ref (a 0)] : List Value).toArray s = true := fun w h => hts w (iu_X7_lies_X7 w h)
  have hk_fieldLink_RX7_10__BrideNotKnown___now___LBrideNotKnown_Valley__ := hts (.fieldLink RX7 10 "BrideNotKnown" "now" "LBrideNotKnown$Valley;") (List.mem_of_getElem? (i := 1) rfl)
  have hk_fieldLink_RX7_228__BrideNotKnown_Valley___brideCount___I_ := hts (.fieldLink RX7 228 "BrideNotKnown$Valley" "brideCount" "I") (List.mem_of_getElem? (i := 2) rfl)
  rw [f_X7_lies] at hf
  refine lv_iconst (v := (0 : Int32)) hx hb dX7_lies_0 (by decide) ?_
  refine lv_istore_n (lv' := [(1, .int (0 : Int32)), (0, .ref (a 0))]) hx hb dX7_lies_1 rfl hl (by decide) rfl (fun ls hl => ?_)
  refine lv_iconst (v := (0 : Int32)) hx hb dX7_lies_2 (by decide) ?_
  refine lv_istore_n (lv' := [(2, .int (0 : Int32)), (1, .int (0 : Int32)), (0, .ref (a 0))]) hx hb dX7_lies_3 rfl hl (by decide) rfl (fun ls hl => ?_)
  have L4_1115 : ∀ (n : Nat) (x1_1113 : Int32) (x2_1114 : Int32) (H : Heap) (locs : List Loc) (ls : Array Slot), va_P (gD G) vwCl (cW G a S) H → va_D A (cW G a S) → va_S A s.heap H locs → lv_has ls 3 [(0, .ref (a 0)), (1, .int x1_1113), (2, .int x2_1114)] → f_X7_lies_4 S n x1_1113 x2_1114 = some r → W p l e (headSpec wsX7_lies ({ frames := 3, cells := 0, slots := 0, locals := 71 } : Room)).room s m ([.ref (a 0)] : List Value).toArray below meth c H locs 0 0 (MQ below (FQ G A (cW G a S) (some (.int r))) ([.ref (a 0)] : List Value).toArray s 0 0 A) (F0 m 4 ls []) := by
    intro n
    induction n with
    | zero =>
      intro x1_1113 x2_1114 H locs ls hP hD hS hl hf
      exact no_some hf
    | succ n ih =>
      intro x1_1113 x2_1114 H locs ls hP hD hS hl hf
      rw [f_X7_lies_4] at hf
      refine lv_iload_n hx hb dX7_lies_4 rfl (lv_at hl 2 rfl) ?_
      refine lv_aload_n hx hb dX7_lies_5 rfl (lv_at hl 0 rfl) ?_
      refine fc_get (v := .ref (a 1)) (ci := 4) (C := RX7) (T := TX7) (N := 8) hx hb hwX7 hown hE hP 0 (cW_o G a S) rfl 0 (by decide) hk_fieldLink_RX7_10__BrideNotKnown___now___LBrideNotKnown_Valley__ (fun _ h => h) rfl dX7_lies_6 ?_
      refine fc_get (v := .int ((S 0) 7 1)) (ci := 3) (C := RX6) (T := TX6) (N := 12) hx hb hwX6 hown hE hP 1 (cW_o0 G a S) rfl 1 (by decide) hk_fieldLink_RX7_228__BrideNotKnown_Valley___brideCount___I_ (fun _ h => h) rfl dX7_lies_9 ?_
      refine lv_icmp_ge (tgt := 56) hx hb dX7_lies_12 (by decide) (fun c1116 => ?_) (fun c1116 => ?_)
      · have hf := ifT hf c1116
        refine lv_iload_n hx hb dX7_lies_56 rfl (lv_at hl 1 rfl) ?_
        exact fc_reti hx hb hr hlocks hP hS dX7_lies_57 (i1 hf) rfl
      · have hf := ifF hf c1116
        refine lv_aload_n hx hb dX7_lies_15 rfl (lv_at hl 0 rfl) ?_
        refine fc_get (v := .ref (a 1)) (ci := 4) (C := RX7) (T := TX7) (N := 8) hx hb hwX7 hown hE hP 0 (cW_o G a S) rfl 0 (by decide) hk_fieldLink_RX7_10__BrideNotKnown___now___LBrideNotKnown_Valley__ (fun _ h => h) rfl dX7_lies_16 ?_
        refine lv_iload_n hx hb dX7_lies_19 rfl (lv_at hl 2 rfl) ?_
        obtain ⟨q1117, hq1117, hf⟩ := bnd hf
        refine fc_callV (Wa' := (cW G a S)) (st1 := [.int q1117]) (As := [.int x2_1114]) (rest := []) hCF (k_X6_isHere (sh 1 a) (S 0) x2_1114 hq1117) (cwV 1 hts gX7_lies_X6_isHere rfl rfl rfl ⟨rfl, dk_X6_isHere⟩ ⟨Nat.le_of_ble_eq_true rfl, Nat.le_of_ble_eq_true rfl⟩) hE hAB hP hD hS [1, 2, 3, 4, 5, 6, 7, 8] cW_d0 (cW_c0 G a S) (va_recv hE.1 hP (ci := 3) (q0 := 1) rfl (cW_o0 G a S)) (vW_f G (sh 1 a) (S 0) (S 0)) (cW_i0 G a S) rfl rfl hl.1 rfl (Nat.le_of_ble_eq_true rfl) dX7_lies_20 ⟨Nat.le_refl _, Nat.le_refl _⟩ (fun H locs hP hD hS => ?_)
        refine lv_if_eq (tgt := 50) hx hb dX7_lies_23 (by decide) (fun c1118 => ?_) (fun c1118 => ?_)
        · have hf := ifT hf c1118
          refine lv_iinc (v := (x2_1114 + (1 : Int32))) (lv' := [(2, .int (x2_1114 + (1 : Int32))), (0, .ref (a 0)), (1, .int x1_1113)]) hx hb dX7_lies_50 hl (k := 2) rfl rfl (by decide) rfl (fun ls hl => ?_)
          refine lv_goto (tgt := 4) hx hb dX7_lies_53 (by decide) ?_
          exact ih x1_1113 (x2_1114 + (1 : Int32)) _ _ _ hP hD hS (lv_sub hl [1, 2, 0] rfl) hf
        · have hf := ifF hf c1118
          refine lv_iload_n hx hb dX7_lies_26 rfl (lv_at hl 1 rfl) ?_
          refine lv_aload_n hx hb dX7_lies_27 rfl (lv_at hl 0 rfl) ?_
          refine fc_get (v := .ref (a 1)) (ci := 4) (C := RX7) (T := TX7) (N := 8) hx hb hwX7 hown hE hP 0 (cW_o G a S) rfl 0 (by decide) hk_fieldLink_RX7_10__BrideNotKnown___now___LBrideNotKnown_Valley__ (fun _ h => h) rfl dX7_lies_28 ?_
          refine lv_iload_n hx hb dX7_lies_31 rfl (lv_at hl 2 rfl) ?_
          refine lv_iconst (v := (0 : Int32)) hx hb dX7_lies_32 (by decide) ?_
          obtain ⟨q1119, hq1119, hf⟩ := bnd hf
          refine fc_callV (Wa' := (cW G a S)) (st1 := [.int q1119, .int x1_1113]) (As := [.int x2_1114, .int (0 : Int32)]) (rest := [.int x1_1113]) hCF (k_X6_shows (sh 1 a) (S 0) x2_1114 (0 : Int32) hq1119) (cwV 2 hts gX7_lies_X6_shows rfl rfl rfl ⟨rfl, dk_X6_shows⟩ ⟨Nat.le_of_ble_eq_true rfl, Nat.le_of_ble_eq_true rfl⟩) hE hAB hP hD hS [1, 2, 3, 4, 5, 6, 7, 8] cW_d0 (cW_c0 G a S) (va_recv hE.1 hP (ci := 3) (q0 := 1) rfl (cW_o0 G a S)) (vW_f G (sh 1 a) (S 0) (S 0)) (cW_i0 G a S) rfl rfl hl.1 rfl (Nat.le_of_ble_eq_true rfl) dX7_lies_33 ⟨Nat.le_refl _, Nat.le_refl _⟩ (fun H locs hP hD hS => ?_)
          refine lv_aload_n hx hb dX7_lies_36 rfl (lv_at hl 0 rfl) ?_
          refine fc_get (v := .ref (a 1)) (ci := 4) (C := RX7) (T := TX7) (N := 8) hx hb hwX7 hown hE hP 0 (cW_o G a S) rfl 0 (by decide) hk_fieldLink_RX7_10__BrideNotKnown___now___LBrideNotKnown_Valley__ (fun _ h => h) rfl dX7_lies_37 ?_
          refine lv_iload_n hx hb dX7_lies_40 rfl (lv_at hl 2 rfl) ?_
          obtain ⟨q1120, hq1120, hf⟩ := bnd hf
          refine fc_callV (Wa' := (cW G a S)) (st1 := [.int q1120, .int q1119, .int x1_1113]) (As := [.int x2_1114]) (rest := [.int q1119, .int x1_1113]) hCF (k_X6_footOf (sh 1 a) (S 0) x2_1114 hq1120) (cwV 1 hts gX7_lies_X6_footOf rfl rfl rfl ⟨rfl, dk_X6_footOf⟩ ⟨Nat.le_of_ble_eq_true rfl, Nat.le_of_ble_eq_true rfl⟩) hE hAB hP hD hS [1, 2, 3, 4, 5, 6, 7, 8] cW_d0 (cW_c0 G a S) (va_recv hE.1 hP (ci := 3) (q0 := 1) rfl (cW_o0 G a S)) (vW_f G (sh 1 a) (S 0) (S 0)) (cW_i0 G a S) rfl rfl hl.1 rfl (Nat.le_of_ble_eq_true rfl) dX7_lies_41 ⟨Nat.le_refl _, Nat.le_refl _⟩ (fun H locs hP hD hS => ?_)
          refine lv_ixor hx hb dX7_lies_44 ?_
          obtain ⟨q1121, hq1121, hf⟩ := bnd hf
          refine fc_callS (Wa' := (cW G a S)) (st1 := [.int q1121, .int x1_1113]) (As := [.int (q1119 ^^^ q1120)]) (rest := [.int x1_1113]) hCF (k_J6_bitCount_0f7a4 (q1119 ^^^ q1120) hq1121) (va_cwS 1 hts gX7_lies_J6_bitCount_0f7a4 rfl rfl rfl dk_J6_bitCount_0f7a4 ⟨Nat.le_of_ble_eq_true rfl, Nat.le_of_ble_eq_true rfl⟩) hE hAB hP hD hS [] rfl rfl rfl rfl rfl rfl hl.1 rfl (Nat.le_of_ble_eq_true rfl) dX7_lies_45 ⟨Nat.le_refl _, Nat.le_refl _⟩ (fun H locs hP hD hS => ?_)
          refine lv_iadd hx hb dX7_lies_48 ?_
          refine lv_istore_n (lv' := [(1, .int (x1_1113 + q1121)), (0, .ref (a 0)), (2, .int x2_1114)]) hx hb dX7_lies_49 rfl hl (by decide) rfl (fun ls hl => ?_)
          refine lv_iinc (v := (x2_1114 + (1 : Int32))) (lv' := [(2, .int (x2_1114 + (1 : Int32))), (1, .int (x1_1113 + q1121)), (0, .ref (a 0))]) hx hb dX7_lies_50 hl (k := 2) rfl rfl (by decide) rfl (fun ls hl => ?_)
          refine lv_goto (tgt := 4) hx hb dX7_lies_53 (by decide) ?_
          exact ih (x1_1113 + q1121) (x2_1114 + (1 : Int32)) _ _ _ hP hD hS (lv_sub hl [2, 1, 0] rfl) hf
  exact L4_1115 FUEL (0 : Int32) (0 : Int32) _ _ _ hP hD hS (lv_sub hl [2, 1, 0] rfl) hf
theorem dk_X7_looks : yX7_looks.cls ≠ "java/lang/invoke/MethodHandle" ∧ yX7_looks.cls ≠ "java/lang/invoke/VarHandle" ∧ (parseMethodDescriptor yX7_looks.desc).map (fun d => d.parameters.length) = some 2 := by decide +kernel
theorem iu_X7_looks_X7 : ∀ w ∈ u_ws RX7 TX7 8, w ∈ wsX7_looks := by decide +kernel
set_option maxHeartbeats 4000000 in
set_option maxRecDepth 100000 in
theorem k_X7_looks {l : Launch} {G : Gx} (a : Nat → Nat) (S : (Nat → St)) (x1 : Int32) (x2 : Int32) {r : Int32} {S' : (Nat → St)} (hf : f_X7_looks S x1 x2 = some (r, S')) : FC l G yX7_looks wsX7_looks ({ frames := 2, cells := 0, slots := 0, locals := 45 } : Room) [.ref (a 0), .int x1, .int x2] (cW G a S) (cW G a S') (some (.int r)) := by
  refine fc_head (cc := cX7_looks) (maxL := 5) (ret := (some .int)) (C := RX7) (lv := [(0, .ref (a 0)), (1, .int x1), (2, .int x2)]) (by decide) rfl rfl (Nat.le_of_ble_eq_true rfl) rfl ?_
  intro p e s m below meth c ls A hx hb hr hml hown hts hlocks hE hP hD hAB hS hl
  have hCF : CallFix p m c cX7_looks 5 s ([.ref (a 0), .int x1, .int x2] : List Value).toArray wsX7_looks RX7 := ⟨hx, hb, hml, hown, hts⟩
  have hwX7 : ∀ w ∈ u_ws RX7 TX7 8, w.before ([.ref (a 0), .int x1, .int x2] : List Value).toArray s = true := fun w h => hts w (iu_X7_looks_X7 w h)
  have hk_fieldLink_RX7_10__BrideNotKnown___now___LBrideNotKnown_Valley__ := hts (.fieldLink RX7 10 "BrideNotKnown" "now" "LBrideNotKnown$Valley;") (List.mem_of_getElem? (i := 1) rfl)
  rw [f_X7_looks] at hf
  refine lv_aload_n hx hb dX7_looks_0 rfl (lv_at hl 0 rfl) ?_
  refine fc_get (v := .ref (a 1)) (ci := 4) (C := RX7) (T := TX7) (N := 8) hx hb hwX7 hown hE hP 0 (cW_o G a S) rfl 0 (by decide) hk_fieldLink_RX7_10__BrideNotKnown___now___LBrideNotKnown_Valley__ (fun _ h => h) rfl dX7_looks_1 ?_
  refine lv_iload_n hx hb dX7_looks_4 rfl (lv_at hl 1 rfl) ?_
  obtain ⟨q1127, hq1127, hf⟩ := bnd hf
  refine fc_callV (Wa' := (cW G a S)) (st1 := [.int q1127]) (As := [.int x1]) (rest := []) hCF (k_X6_hasGroom (sh 1 a) (S 0) x1 hq1127) (cwV 1 hts gX7_looks_X6_hasGroom rfl rfl rfl ⟨rfl, dk_X6_hasGroom⟩ ⟨Nat.le_of_ble_eq_true rfl, Nat.le_of_ble_eq_true rfl⟩) hE hAB hP hD hS [1, 2, 3, 4, 5, 6, 7, 8] cW_d0 (cW_c0 G a S) (va_recv hE.1 hP (ci := 3) (q0 := 1) rfl (cW_o0 G a S)) (vW_f G (sh 1 a) (S 0) (S 0)) (cW_i0 G a S) rfl rfl hl.1 rfl (Nat.le_of_ble_eq_true rfl) dX7_looks_5 ⟨Nat.le_refl _, Nat.le_refl _⟩ (fun H locs hP hD hS => ?_)
  refine lv_iload_n hx hb dX7_looks_8 rfl (lv_at hl 2 rfl) ?_
  refine lv_iconst (v := (0 : Int32)) hx hb dX7_looks_9 (by decide) ?_
  refine lv_bipush (v := (63 : Int32)) hx hb dX7_looks_10 (by decide) ?_
  obtain ⟨q1128, hq1128, hf⟩ := bnd hf
  refine fc_callS (Wa' := (cW G a S)) (st1 := [.int q1128]) (As := [.int q1127, .int x2, .int (0 : Int32), .int (63 : Int32)]) (rest := []) hCF (k_X7_refusalOf q1127 x2 (0 : Int32) (63 : Int32) hq1128) (va_cwS 4 hts gX7_looks_X7_refusalOf rfl rfl rfl dk_X7_refusalOf ⟨Nat.le_of_ble_eq_true rfl, Nat.le_of_ble_eq_true rfl⟩) hE hAB hP hD hS [] rfl rfl rfl rfl rfl rfl hl.1 rfl (Nat.le_of_ble_eq_true rfl) dX7_looks_12 ⟨Nat.le_refl _, Nat.le_refl _⟩ (fun H locs hP hD hS => ?_)
  refine lv_istore_n (lv' := [(3, .int q1128), (0, .ref (a 0)), (1, .int x1), (2, .int x2)]) hx hb dX7_looks_15 rfl hl (by decide) rfl (fun ls hl => ?_)
  refine lv_iload_n hx hb dX7_looks_16 rfl (lv_at hl 0 rfl) ?_
  refine lv_if_eq (tgt := 26) hx hb dX7_looks_17 (by decide) (fun c1129 => ?_) (fun c1129 => ?_)
  · have hf := ifT hf c1129
    refine lv_aload_n hx hb dX7_looks_26 rfl (lv_at hl 1 rfl) ?_
    refine fc_get (v := .ref (a 1)) (ci := 4) (C := RX7) (T := TX7) (N := 8) hx hb hwX7 hown hE hP 0 (cW_o G a S) rfl 0 (by decide) hk_fieldLink_RX7_10__BrideNotKnown___now___LBrideNotKnown_Valley__ (fun _ h => h) rfl dX7_looks_27 ?_
    refine lv_iload_n hx hb dX7_looks_30 rfl (lv_at hl 2 rfl) ?_
    obtain ⟨q1130, hq1130, hf⟩ := bnd hf
    refine fc_callV (Wa' := (cW G a S)) (st1 := [.int q1130]) (As := [.int x1]) (rest := []) hCF (k_X6_lookOf (sh 1 a) (S 0) x1 hq1130) (cwV 1 hts gX7_looks_X6_lookOf rfl rfl rfl ⟨rfl, dk_X6_lookOf⟩ ⟨Nat.le_of_ble_eq_true rfl, Nat.le_of_ble_eq_true rfl⟩) hE hAB hP hD hS [1, 2, 3, 4, 5, 6, 7, 8] cW_d0 (cW_c0 G a S) (va_recv hE.1 hP (ci := 3) (q0 := 1) rfl (cW_o0 G a S)) (vW_f G (sh 1 a) (S 0) (S 0)) (cW_i0 G a S) rfl rfl hl.1 rfl (Nat.le_of_ble_eq_true rfl) dX7_looks_31 ⟨Nat.le_refl _, Nat.le_refl _⟩ (fun H locs hP hD hS => ?_)
    refine lv_istore (lv' := [(4, .int q1130), (3, .int q1128), (0, .ref (a 0)), (1, .int x1), (2, .int x2)]) hx hb dX7_looks_34 hl (by decide) rfl (fun ls hl => ?_)
    refine lv_aload_n hx hb dX7_looks_36 rfl (lv_at hl 2 rfl) ?_
    refine fc_get (v := .ref (a 1)) (ci := 4) (C := RX7) (T := TX7) (N := 8) hx hb hwX7 hown hE hP 0 (cW_o G a S) rfl 0 (by decide) hk_fieldLink_RX7_10__BrideNotKnown___now___LBrideNotKnown_Valley__ (fun _ h => h) rfl dX7_looks_37 ?_
    refine lv_iload_n hx hb dX7_looks_40 rfl (lv_at hl 3 rfl) ?_
    refine lv_iload_n hx hb dX7_looks_41 rfl (lv_at hl 4 rfl) ?_
    obtain ⟨q1131, hq1131, hf⟩ := bnd hf
    refine fc_callV (Wa' := (cW G a (sS S 0 q1131))) (st1 := []) (As := [.int x1, .int x2]) (rest := []) hCF (k_X6_setLook (sh 1 a) (S 0) x1 x2 hq1131) (cwV 2 hts gX7_looks_X6_setLook rfl rfl rfl ⟨rfl, dk_X6_setLook⟩ ⟨Nat.le_of_ble_eq_true rfl, Nat.le_of_ble_eq_true rfl⟩) hE hAB hP hD hS [1, 2, 3, 4, 5, 6, 7, 8] cW_d0 (cW_c0 G a S) (va_recv hE.1 hP (ci := 3) (q0 := 1) rfl (cW_o0 G a S)) (vW_f G (sh 1 a) (S 0) q1131) (cW_s0 G a S q1131) rfl rfl hl.1 rfl (Nat.le_of_ble_eq_true rfl) dX7_looks_42 ⟨Nat.le_refl _, Nat.le_refl _⟩ (fun H locs hP hD hS => ?_)
    refine lv_iload hx hb dX7_looks_45 (lv_at hl 0 rfl) ?_
    exact fc_reti hx hb hr hlocks hP hS dX7_looks_47 (i2a hf) (congrArg (fun z => (cW G a z)) (i2b hf))
  · have hf := ifF hf c1129
    refine lv_aload_n hx hb dX7_looks_20 rfl (lv_at hl 1 rfl) ?_
    refine lv_iload_n hx hb dX7_looks_21 rfl (lv_at hl 0 rfl) ?_
    obtain ⟨q1132, hq1132, hf⟩ := bnd hf
    refine fc_callV (Wa' := (cW G a q1132.2)) (st1 := [.int q1132.1]) (As := [.int q1128]) (rest := []) hCF (k_X7_refuse a S q1128 hq1132) (cwV 1 hts gX7_looks_X7_refuse rfl rfl rfl ⟨rfl, dk_X7_refuse⟩ ⟨Nat.le_of_ble_eq_true rfl, Nat.le_of_ble_eq_true rfl⟩) hE hAB hP hD hS [0, 1, 2, 3, 4, 5, 6, 7, 8, 9, 10, 11, 12, 13, 14, 15, 16, 17, 18, 19, 20, 21, 22, 23, 24, 25, 26, 27, 28, 29, 30, 31] cW_d (cW_c G a S) (va_recv hE.1 hP (ci := 4) (q0 := 0) rfl (cW_o G a S)) (cW_f G a S q1132.2) (cW_s G a S q1132.2) rfl rfl hl.1 rfl (Nat.le_of_ble_eq_true rfl) dX7_looks_22 ⟨Nat.le_refl _, Nat.le_refl _⟩ (fun H locs hP hD hS => ?_)
    exact fc_reti hx hb hr hlocks hP hS dX7_looks_25 (i2a hf) (congrArg (fun z => (cW G a z)) (i2b hf))
theorem dk_X7_loses : yX7_loses.cls ≠ "java/lang/invoke/MethodHandle" ∧ yX7_loses.cls ≠ "java/lang/invoke/VarHandle" ∧ (parseMethodDescriptor yX7_loses.desc).map (fun d => d.parameters.length) = some 0 := by decide +kernel
theorem iu_X7_loses_X6 : ∀ w ∈ u_ws RX6 TX6 12, w ∈ wsX7_loses := by decide +kernel
theorem iu_X7_loses_X7 : ∀ w ∈ u_ws RX7 TX7 8, w ∈ wsX7_loses := by decide +kernel
set_option maxHeartbeats 4000000 in
set_option maxRecDepth 100000 in
theorem k_X7_loses {l : Launch} {G : Gx} (a : Nat → Nat) (S : (Nat → St)) {r : Int32} (hf : f_X7_loses S = some r) : FC l G yX7_loses wsX7_loses ({ frames := 4, cells := 0, slots := 0, locals := 99 } : Room) [.ref (a 0)] (cW G a S) (cW G a S) (some (.int r)) := by
  refine fc_head (cc := cX7_loses) (maxL := 4) (ret := (some .int)) (C := RX7) (lv := [(0, .ref (a 0))]) (by decide) rfl rfl (Nat.le_of_ble_eq_true rfl) rfl ?_
  intro p e s m below meth c ls A hx hb hr hml hown hts hlocks hE hP hD hAB hS hl
  have hCF : CallFix p m c cX7_loses 4 s ([.ref (a 0)] : List Value).toArray wsX7_loses RX7 := ⟨hx, hb, hml, hown, hts⟩
  have hwX6 : ∀ w ∈ u_ws RX6 TX6 12, w.before ([.ref (a 0)] : List Value).toArray s = true := fun w h => hts w (iu_X7_loses_X6 w h)
  have hwX7 : ∀ w ∈ u_ws RX7 TX7 8, w.before ([.ref (a 0)] : List Value).toArray s = true := fun w h => hts w (iu_X7_loses_X7 w h)
  have hk_fieldLink_RX7_10__BrideNotKnown___now___LBrideNotKnown_Valley__ := hts (.fieldLink RX7 10 "BrideNotKnown" "now" "LBrideNotKnown$Valley;") (List.mem_of_getElem? (i := 1) rfl)
  have hk_fieldLink_RX7_201__BrideNotKnown_Valley___groomCount___I_ := hts (.fieldLink RX7 201 "BrideNotKnown$Valley" "groomCount" "I") (List.mem_of_getElem? (i := 2) rfl)
  rw [f_X7_loses] at hf
  refine lv_iconst (v := (0 : Int32)) hx hb dX7_loses_0 (by decide) ?_
  refine lv_istore_n (lv' := [(1, .int (0 : Int32)), (0, .ref (a 0))]) hx hb dX7_loses_1 rfl hl (by decide) rfl (fun ls hl => ?_)
  refine lv_iconst (v := (0 : Int32)) hx hb dX7_loses_2 (by decide) ?_
  refine lv_istore_n (lv' := [(2, .int (0 : Int32)), (1, .int (0 : Int32)), (0, .ref (a 0))]) hx hb dX7_loses_3 rfl hl (by decide) rfl (fun ls hl => ?_)
  have L4_1137 : ∀ (n : Nat) (x1_1135 : Int32) (x2_1136 : Int32) (H : Heap) (locs : List Loc) (ls : Array Slot), va_P (gD G) vwCl (cW G a S) H → va_D A (cW G a S) → va_S A s.heap H locs → lv_has ls 4 [(0, .ref (a 0)), (1, .int x1_1135), (2, .int x2_1136)] → f_X7_loses_4 S n x1_1135 x2_1136 = some r → W p l e (headSpec wsX7_loses ({ frames := 4, cells := 0, slots := 0, locals := 99 } : Room)).room s m ([.ref (a 0)] : List Value).toArray below meth c H locs 0 0 (MQ below (FQ G A (cW G a S) (some (.int r))) ([.ref (a 0)] : List Value).toArray s 0 0 A) (F0 m 4 ls []) := by
    intro n
    induction n with
    | zero =>
      intro x1_1135 x2_1136 H locs ls hP hD hS hl hf
      exact no_some hf
    | succ n ih =>
      intro x1_1135 x2_1136 H locs ls hP hD hS hl hf
      rw [f_X7_loses_4] at hf
      refine lv_iload_n hx hb dX7_loses_4 rfl (lv_at hl 2 rfl) ?_
      refine lv_aload_n hx hb dX7_loses_5 rfl (lv_at hl 0 rfl) ?_
      refine fc_get (v := .ref (a 1)) (ci := 4) (C := RX7) (T := TX7) (N := 8) hx hb hwX7 hown hE hP 0 (cW_o G a S) rfl 0 (by decide) hk_fieldLink_RX7_10__BrideNotKnown___now___LBrideNotKnown_Valley__ (fun _ h => h) rfl dX7_loses_6 ?_
      refine fc_get (v := .int ((S 0) 7 3)) (ci := 3) (C := RX6) (T := TX6) (N := 12) hx hb hwX6 hown hE hP 1 (cW_o0 G a S) rfl 7 (by decide) hk_fieldLink_RX7_201__BrideNotKnown_Valley___groomCount___I_ (fun _ h => h) rfl dX7_loses_9 ?_
      refine lv_icmp_ge (tgt := 55) hx hb dX7_loses_12 (by decide) (fun c1138 => ?_) (fun c1138 => ?_)
      · have hf := ifT hf c1138
        refine lv_iload_n hx hb dX7_loses_55 rfl (lv_at hl 1 rfl) ?_
        exact fc_reti hx hb hr hlocks hP hS dX7_loses_56 (i1 hf) rfl
      · have hf := ifF hf c1138
        refine lv_aload_n hx hb dX7_loses_15 rfl (lv_at hl 0 rfl) ?_
        refine fc_get (v := .ref (a 1)) (ci := 4) (C := RX7) (T := TX7) (N := 8) hx hb hwX7 hown hE hP 0 (cW_o G a S) rfl 0 (by decide) hk_fieldLink_RX7_10__BrideNotKnown___now___LBrideNotKnown_Valley__ (fun _ h => h) rfl dX7_loses_16 ?_
        refine lv_iload_n hx hb dX7_loses_19 rfl (lv_at hl 2 rfl) ?_
        refine lv_iconst (v := (0 : Int32)) hx hb dX7_loses_20 (by decide) ?_
        obtain ⟨q1139, hq1139, hf⟩ := bnd hf
        refine fc_callV (Wa' := (cW G a S)) (st1 := [.int q1139]) (As := [.int x2_1136, .int (0 : Int32)]) (rest := []) hCF (k_X6_knows (sh 1 a) (S 0) x2_1136 (0 : Int32) hq1139) (cwV 2 hts gX7_loses_X6_knows rfl rfl rfl ⟨rfl, dk_X6_knows⟩ ⟨Nat.le_of_ble_eq_true rfl, Nat.le_of_ble_eq_true rfl⟩) hE hAB hP hD hS [1, 2, 3, 4, 5, 6, 7, 8] cW_d0 (cW_c0 G a S) (va_recv hE.1 hP (ci := 3) (q0 := 1) rfl (cW_o0 G a S)) (vW_f G (sh 1 a) (S 0) (S 0)) (cW_i0 G a S) rfl rfl hl.1 rfl (Nat.le_of_ble_eq_true rfl) dX7_loses_21 ⟨Nat.le_refl _, Nat.le_refl _⟩ (fun H locs hP hD hS => ?_)
        refine lv_istore_n (lv' := [(3, .int q1139), (0, .ref (a 0)), (1, .int x1_1135), (2, .int x2_1136)]) hx hb dX7_loses_24 rfl hl (by decide) rfl (fun ls hl => ?_)
        refine lv_iload_n hx hb dX7_loses_25 rfl (lv_at hl 0 rfl) ?_
        refine lv_bipush (v := (-9 : Int32)) hx hb dX7_loses_26 (by decide) ?_
        refine lv_icmp_eq (tgt := 49) hx hb dX7_loses_28 (by decide) (fun c1140 => ?_) (fun c1140 => ?_)
        · have hf := ifT hf c1140
          refine lv_iinc (v := (x2_1136 + (1 : Int32))) (lv' := [(2, .int (x2_1136 + (1 : Int32))), (3, .int q1139), (0, .ref (a 0)), (1, .int x1_1135)]) hx hb dX7_loses_49 hl (k := 3) rfl rfl (by decide) rfl (fun ls hl => ?_)
          refine lv_goto (tgt := 4) hx hb dX7_loses_52 (by decide) ?_
          exact ih x1_1135 (x2_1136 + (1 : Int32)) _ _ _ hP hD hS (lv_sub hl [2, 3, 0] rfl) hf
        · have hf := ifF hf c1140
          refine lv_iload_n hx hb dX7_loses_31 rfl (lv_at hl 0 rfl) ?_
          refine lv_aload_n hx hb dX7_loses_32 rfl (lv_at hl 1 rfl) ?_
          refine fc_get (v := .ref (a 1)) (ci := 4) (C := RX7) (T := TX7) (N := 8) hx hb hwX7 hown hE hP 0 (cW_o G a S) rfl 0 (by decide) hk_fieldLink_RX7_10__BrideNotKnown___now___LBrideNotKnown_Valley__ (fun _ h => h) rfl dX7_loses_33 ?_
          refine lv_iload_n hx hb dX7_loses_36 rfl (lv_at hl 3 rfl) ?_
          obtain ⟨q1141, hq1141, hf⟩ := bnd hf
          refine fc_callV (Wa' := (cW G a S)) (st1 := [.int q1141, .int q1139]) (As := [.int x2_1136]) (rest := [.int q1139]) hCF (k_X6_nearestTo (sh 1 a) (S 0) x2_1136 hq1141) (cwV 1 hts gX7_loses_X6_nearestTo rfl rfl rfl ⟨rfl, dk_X6_nearestTo⟩ ⟨Nat.le_of_ble_eq_true rfl, Nat.le_of_ble_eq_true rfl⟩) hE hAB hP hD hS [1, 2, 3, 4, 5, 6, 7, 8] cW_d0 (cW_c0 G a S) (va_recv hE.1 hP (ci := 3) (q0 := 1) rfl (cW_o0 G a S)) (vW_f G (sh 1 a) (S 0) (S 0)) (cW_i0 G a S) rfl rfl hl.1 rfl (Nat.le_of_ble_eq_true rfl) dX7_loses_37 ⟨Nat.le_refl _, Nat.le_refl _⟩ (fun H locs hP hD hS => ?_)
          refine lv_icmp_ne (tgt := 49) hx hb dX7_loses_40 (by decide) (fun c1142 => ?_) (fun c1142 => ?_)
          · have hf := ifF hf c1142
            refine lv_iinc (v := (x2_1136 + (1 : Int32))) (lv' := [(2, .int (x2_1136 + (1 : Int32))), (3, .int q1139), (0, .ref (a 0)), (1, .int x1_1135)]) hx hb dX7_loses_49 hl (k := 3) rfl rfl (by decide) rfl (fun ls hl => ?_)
            refine lv_goto (tgt := 4) hx hb dX7_loses_52 (by decide) ?_
            exact ih x1_1135 (x2_1136 + (1 : Int32)) _ _ _ hP hD hS (lv_sub hl [2, 3, 0] rfl) hf
          · have hf := ifT hf c1142
            refine lv_iload_n hx hb dX7_loses_43 rfl (lv_at hl 2 rfl) ?_
            refine lv_iconst (v := (1 : Int32)) hx hb dX7_loses_44 (by decide) ?_
            refine lv_iload_n hx hb dX7_loses_45 rfl (lv_at hl 3 rfl) ?_
            refine lv_ishl hx hb dX7_loses_46 ?_
            refine lv_ior hx hb dX7_loses_47 ?_
            refine lv_istore_n (lv' := [(1, .int (x1_1135 ||| ((1 : Int32) <<< (x2_1136 &&& 31)))), (3, .int q1139), (0, .ref (a 0)), (2, .int x2_1136)]) hx hb dX7_loses_48 rfl hl (by decide) rfl (fun ls hl => ?_)
            refine lv_iinc (v := (x2_1136 + (1 : Int32))) (lv' := [(2, .int (x2_1136 + (1 : Int32))), (1, .int (x1_1135 ||| ((1 : Int32) <<< (x2_1136 &&& 31)))), (3, .int q1139), (0, .ref (a 0))]) hx hb dX7_loses_49 hl (k := 3) rfl rfl (by decide) rfl (fun ls hl => ?_)
            refine lv_goto (tgt := 4) hx hb dX7_loses_52 (by decide) ?_
            exact ih (x1_1135 ||| ((1 : Int32) <<< (x2_1136 &&& 31))) (x2_1136 + (1 : Int32)) _ _ _ hP hD hS (lv_sub hl [3, 1, 0] rfl) hf
  exact L4_1137 FUEL (0 : Int32) (0 : Int32) _ _ _ hP hD hS (lv_sub hl [2, 1, 0] rfl) hf
theorem dk_X7_lots : yX7_lots.cls ≠ "java/lang/invoke/MethodHandle" ∧ yX7_lots.cls ≠ "java/lang/invoke/VarHandle" ∧ (parseMethodDescriptor yX7_lots.desc).map (fun d => d.parameters.length) = some 3 := by decide +kernel
theorem iu_X7_lots_X7 : ∀ w ∈ u_ws RX7 TX7 8, w ∈ wsX7_lots := by decide +kernel
set_option maxHeartbeats 4000000 in
set_option maxRecDepth 100000 in
theorem k_X7_lots {l : Launch} {G : Gx} (a : Nat → Nat) (S : (Nat → St)) (x1 : Int32) (x2 : Int32) (x3 : Int32) {r : Int32} {S' : (Nat → St)} (hf : f_X7_lots S x1 x2 x3 = some (r, S')) : FC l G yX7_lots wsX7_lots ({ frames := 5, cells := 0, slots := 0, locals := 126 } : Room) [.ref (a 0), .int x1, .int x2, .int x3] (cW G a S) (cW G a S') (some (.int r)) := by
  refine fc_head (cc := cX7_lots) (maxL := 8) (ret := (some .int)) (C := RX7) (lv := [(0, .ref (a 0)), (1, .int x1), (2, .int x2), (3, .int x3)]) (by decide) rfl rfl (Nat.le_of_ble_eq_true rfl) rfl ?_
  intro p e s m below meth c ls A hx hb hr hml hown hts hlocks hE hP hD hAB hS hl
  have hCF : CallFix p m c cX7_lots 8 s ([.ref (a 0), .int x1, .int x2, .int x3] : List Value).toArray wsX7_lots RX7 := ⟨hx, hb, hml, hown, hts⟩
  have hwX7 : ∀ w ∈ u_ws RX7 TX7 8, w.before ([.ref (a 0), .int x1, .int x2, .int x3] : List Value).toArray s = true := fun w h => hts w (iu_X7_lots_X7 w h)
  have hk_fieldLink_RX7_16__BrideNotKnown___thought___LBrideNotKnown_Valley__ := hts (.fieldLink RX7 16 "BrideNotKnown" "thought" "LBrideNotKnown$Valley;") (List.mem_of_getElem? (i := 1) rfl)
  have hk_fieldLink_RX7_10__BrideNotKnown___now___LBrideNotKnown_Valley__ := hts (.fieldLink RX7 10 "BrideNotKnown" "now" "LBrideNotKnown$Valley;") (List.mem_of_getElem? (i := 2) rfl)
  rw [f_X7_lots] at hf
  refine lv_iload_n hx hb dX7_lots_0 rfl (lv_at hl 1 rfl) ?_
  refine lv_iconst (v := (1 : Int32)) hx hb dX7_lots_1 (by decide) ?_
  refine lv_bipush (v := (20 : Int32)) hx hb dX7_lots_2 (by decide) ?_
  obtain ⟨q1150, hq1150, hf⟩ := bnd hf
  refine fc_callS (Wa' := (cW G a S)) (st1 := [.int q1150]) (As := [.int x1, .int (1 : Int32), .int (20 : Int32)]) (rest := []) hCF (k_X7_outside x1 (1 : Int32) (20 : Int32) hq1150) (va_cwS 3 hts gX7_lots_X7_outside rfl rfl rfl dk_X7_outside ⟨Nat.le_of_ble_eq_true rfl, Nat.le_of_ble_eq_true rfl⟩) hE hAB hP hD hS [] rfl rfl rfl rfl rfl rfl hl.1 rfl (Nat.le_of_ble_eq_true rfl) dX7_lots_4 ⟨Nat.le_refl _, Nat.le_refl _⟩ (fun H locs hP hD hS => ?_)
  refine lv_istore (lv' := [(4, .int q1150), (0, .ref (a 0)), (1, .int x1), (2, .int x2), (3, .int x3)]) hx hb dX7_lots_7 hl (by decide) rfl (fun ls hl => ?_)
  refine lv_iload hx hb dX7_lots_9 (lv_at hl 0 rfl) ?_
  refine lv_if_eq (tgt := 21) hx hb dX7_lots_11 (by decide) (fun c1151 => ?_) (fun c1151 => ?_)
  · have hf := ifT hf c1151
    refine lv_iload_n hx hb dX7_lots_21 rfl (lv_at hl 4 rfl) ?_
    obtain ⟨q1152, hq1152, hf⟩ := bnd hf
    refine fc_callS (Wa' := (cW G a S)) (st1 := [.int q1152]) (As := [.int x3]) (rest := []) hCF (k_X7_isNotEither x3 hq1152) (va_cwS 1 hts gX7_lots_X7_isNotEither rfl rfl rfl dk_X7_isNotEither ⟨Nat.le_of_ble_eq_true rfl, Nat.le_of_ble_eq_true rfl⟩) hE hAB hP hD hS [] rfl rfl rfl rfl rfl rfl hl.1 rfl (Nat.le_of_ble_eq_true rfl) dX7_lots_22 ⟨Nat.le_refl _, Nat.le_refl _⟩ (fun H locs hP hD hS => ?_)
    refine lv_if_eq (tgt := 35) hx hb dX7_lots_25 (by decide) (fun c1153 => ?_) (fun c1153 => ?_)
    · have hf := ifT hf c1153
      refine lv_iload_n hx hb dX7_lots_35 rfl (lv_at hl 3 rfl) ?_
      refine lv_istore (lv' := [(5, .int x2), (4, .int q1150), (0, .ref (a 0)), (1, .int x1), (2, .int x2), (3, .int x3)]) hx hb dX7_lots_36 hl (by decide) rfl (fun ls hl => ?_)
      refine lv_iconst (v := (0 : Int32)) hx hb dX7_lots_38 (by decide) ?_
      refine lv_istore (lv' := [(6, .int (0 : Int32)), (5, .int x2), (4, .int q1150), (0, .ref (a 0)), (1, .int x1), (2, .int x2), (3, .int x3)]) hx hb dX7_lots_39 hl (by decide) rfl (fun ls hl => ?_)
      refine lv_iconst (v := (0 : Int32)) hx hb dX7_lots_41 (by decide) ?_
      refine lv_istore (lv' := [(7, .int (0 : Int32)), (6, .int (0 : Int32)), (5, .int x2), (4, .int q1150), (0, .ref (a 0)), (1, .int x1), (2, .int x2), (3, .int x3)]) hx hb dX7_lots_42 hl (by decide) rfl (fun ls hl => ?_)
      have L44_1158 : ∀ (n : Nat) (x5_1154 : Int32) (x6_1155 : Int32) (x7_1156 : Int32) (S_1157 : (Nat → St)) (H : Heap) (locs : List Loc) (ls : Array Slot), va_P (gD G) vwCl (cW G a S_1157) H → va_D A (cW G a S_1157) → va_S A s.heap H locs → lv_has ls 8 [(0, .ref (a 0)), (1, .int x1), (3, .int x3), (5, .int x5_1154), (6, .int x6_1155), (7, .int x7_1156)] → f_X7_lots_44 x1 x3 n x5_1154 x6_1155 x7_1156 S_1157 = some (r, S') → W p l e (headSpec wsX7_lots ({ frames := 5, cells := 0, slots := 0, locals := 126 } : Room)).room s m ([.ref (a 0), .int x1, .int x2, .int x3] : List Value).toArray below meth c H locs 0 0 (MQ below (FQ G A (cW G a S') (some (.int r))) ([.ref (a 0), .int x1, .int x2, .int x3] : List Value).toArray s 0 0 A) (F0 m 44 ls []) := by
        intro n
        induction n with
        | zero =>
          intro x5_1154 x6_1155 x7_1156 S_1157 H locs ls hP hD hS hl hf
          exact no_some hf
        | succ n ih =>
          intro x5_1154 x6_1155 x7_1156 S_1157 H locs ls hP hD hS hl hf
          rw [f_X7_lots_44] at hf
          refine lv_iload hx hb dX7_lots_44 (lv_at hl 5 rfl) ?_
          refine lv_iload_n hx hb dX7_lots_46 rfl (lv_at hl 1 rfl) ?_
          refine lv_icmp_ge (tgt := 91) hx hb dX7_lots_47 (by decide) (fun c1159 => ?_) (fun c1159 => ?_)
          · have hf := ifT hf c1159
            refine lv_iload hx hb dX7_lots_91 (lv_at hl 4 rfl) ?_
            exact fc_reti hx hb hr hlocks hP hS dX7_lots_93 (i2a hf) (congrArg (fun z => (cW G a z)) (i2b hf))
          · have hf := ifF hf c1159
            refine lv_aload_n hx hb dX7_lots_50 rfl (lv_at hl 0 rfl) ?_
            refine fc_get (v := .ref (a 9)) (ci := 4) (C := RX7) (T := TX7) (N := 8) hx hb hwX7 hown hE hP 0 (cW_o G a S_1157) rfl 1 (by decide) hk_fieldLink_RX7_16__BrideNotKnown___thought___LBrideNotKnown_Valley__ (fun _ h => h) rfl dX7_lots_51 ?_
            refine lv_aload_n hx hb dX7_lots_54 rfl (lv_at hl 0 rfl) ?_
            refine fc_get (v := .ref (a 1)) (ci := 4) (C := RX7) (T := TX7) (N := 8) hx hb hwX7 hown hE hP 0 (cW_o G a S_1157) rfl 0 (by decide) hk_fieldLink_RX7_10__BrideNotKnown___now___LBrideNotKnown_Valley__ (fun _ h => h) rfl dX7_lots_55 ?_
            obtain ⟨q1160, hq1160, hf⟩ := bnd hf
            refine fc_callV (Wa' := (cW G a (sS S_1157 1 q1160))) (st1 := []) (As := [.ref (a 1)]) (rest := []) hCF (k_X6_become (sh 9 a) (S_1157 1) (sh 1 a) (S_1157 0) hq1160) (cwV 1 hts gX7_lots_X6_become rfl rfl rfl ⟨rfl, dk_X6_become⟩ ⟨Nat.le_of_ble_eq_true rfl, Nat.le_of_ble_eq_true rfl⟩) hE hAB hP hD hS [9, 10, 11, 12, 13, 14, 15, 16, 1, 2, 3, 4, 5, 6, 7, 8] (by decide +kernel) (cut_cut (cW_c1 G a S_1157) (cW_c0 G a S_1157)) (va_recv hE.1 hP (ci := 3) (q0 := 9) rfl (cW_o1 G a S_1157)) (fst_fst (vW_f G (sh 9 a) (S_1157 1) q1160) (vW_f G (sh 1 a) (S_1157 0) (S_1157 0))) ((set_set (i1 := [9, 10, 11, 12, 13, 14, 15, 16]) (W1 := (vW G (sh 9 a) q1160)) (vW_n G (sh 9 a) q1160).symm).trans ((congrArg (fun z => setAll z _ _) (cW_i0 G a S_1157)).trans (cW_s1 G a S_1157 q1160))) rfl rfl hl.1 rfl (Nat.le_of_ble_eq_true rfl) dX7_lots_58 ⟨Nat.le_refl _, Nat.le_refl _⟩ (fun H locs hP hD hS => ?_)
            refine lv_aload_n hx hb dX7_lots_61 rfl (lv_at hl 0 rfl) ?_
            refine fc_get (v := .ref (a 9)) (ci := 4) (C := RX7) (T := TX7) (N := 8) hx hb hwX7 hown hE hP 0 (cW_o G a (sS S_1157 1 q1160)) rfl 1 (by decide) hk_fieldLink_RX7_16__BrideNotKnown___thought___LBrideNotKnown_Valley__ (fun _ h => h) rfl dX7_lots_62 ?_
            refine lv_iload hx hb dX7_lots_65 (lv_at hl 3 rfl) ?_
            obtain ⟨q1161, hq1161, hf⟩ := bnd hf
            refine fc_callV (Wa' := (cW G a (sS (sS S_1157 1 q1160) 1 q1161.2))) (st1 := [.int q1161.1]) (As := [.int x5_1154]) (rest := []) hCF (k_X6_drawFeetAndMinds (sh 9 a) q1160 x5_1154 hq1161) (cwV 1 hts gX7_lots_X6_drawFeetAndMinds rfl rfl rfl ⟨rfl, dk_X6_drawFeetAndMinds⟩ ⟨Nat.le_of_ble_eq_true rfl, Nat.le_of_ble_eq_true rfl⟩) hE hAB hP hD hS [9, 10, 11, 12, 13, 14, 15, 16] cW_d1 (cW_c1 G a (sS S_1157 1 q1160)) (va_recv hE.1 hP (ci := 3) (q0 := 9) rfl (cW_o1 G a (sS S_1157 1 q1160))) (vW_f G (sh 9 a) q1160 q1161.2) (cW_s1 G a (sS S_1157 1 q1160) q1161.2) rfl rfl hl.1 rfl (Nat.le_of_ble_eq_true rfl) dX7_lots_67 ⟨Nat.le_refl _, Nat.le_refl _⟩ (fun H locs hP hD hS => ?_)
            refine lv_istore (lv' := [(5, .int q1161.1), (0, .ref (a 0)), (1, .int x1), (3, .int x3), (6, .int x6_1155), (7, .int x7_1156)]) hx hb dX7_lots_70 hl (by decide) rfl (fun ls hl => ?_)
            refine lv_iload hx hb dX7_lots_72 (lv_at hl 4 rfl) ?_
            refine lv_aload_n hx hb dX7_lots_74 rfl (lv_at hl 1 rfl) ?_
            refine fc_get (v := .ref (a 9)) (ci := 4) (C := RX7) (T := TX7) (N := 8) hx hb hwX7 hown hE hP 0 (cW_o G a (sS (sS S_1157 1 q1160) 1 q1161.2)) rfl 1 (by decide) hk_fieldLink_RX7_16__BrideNotKnown___thought___LBrideNotKnown_Valley__ (fun _ h => h) rfl dX7_lots_75 ?_
            refine lv_iload_n hx hb dX7_lots_78 rfl (lv_at hl 3 rfl) ?_
            obtain ⟨q1162, hq1162, hf⟩ := bnd hf
            refine fc_callV (Wa' := (cW G a (sS (sS (sS S_1157 1 q1160) 1 q1161.2) 1 q1162.2))) (st1 := [.int q1162.1, .int x6_1155]) (As := [.int x3]) (rest := [.int x6_1155]) hCF (k_X6_wedAll (sh 9 a) q1161.2 x3 hq1162) (cwV 1 hts gX7_lots_X6_wedAll rfl rfl rfl ⟨rfl, dk_X6_wedAll⟩ ⟨Nat.le_of_ble_eq_true rfl, Nat.le_of_ble_eq_true rfl⟩) hE hAB hP hD hS [9, 10, 11, 12, 13, 14, 15, 16] cW_d1 (cW_c1 G a (sS (sS S_1157 1 q1160) 1 q1161.2)) (va_recv hE.1 hP (ci := 3) (q0 := 9) rfl (cW_o1 G a (sS (sS S_1157 1 q1160) 1 q1161.2))) (vW_f G (sh 9 a) q1161.2 q1162.2) (cW_s1 G a (sS (sS S_1157 1 q1160) 1 q1161.2) q1162.2) rfl rfl hl.1 rfl (Nat.le_of_ble_eq_true rfl) dX7_lots_79 ⟨Nat.le_refl _, Nat.le_refl _⟩ (fun H locs hP hD hS => ?_)
            refine lv_iadd hx hb dX7_lots_82 ?_
            refine lv_istore (lv' := [(6, .int (x6_1155 + q1162.1)), (5, .int q1161.1), (0, .ref (a 0)), (1, .int x1), (3, .int x3), (7, .int x7_1156)]) hx hb dX7_lots_83 hl (by decide) rfl (fun ls hl => ?_)
            refine lv_iinc (v := (x7_1156 + (1 : Int32))) (lv' := [(7, .int (x7_1156 + (1 : Int32))), (6, .int (x6_1155 + q1162.1)), (5, .int q1161.1), (0, .ref (a 0)), (1, .int x1), (3, .int x3)]) hx hb dX7_lots_85 hl (k := 5) rfl rfl (by decide) rfl (fun ls hl => ?_)
            refine lv_goto (tgt := 44) hx hb dX7_lots_88 (by decide) ?_
            exact ih q1161.1 (x6_1155 + q1162.1) (x7_1156 + (1 : Int32)) (sS (sS (sS S_1157 1 q1160) 1 q1161.2) 1 q1162.2) _ _ _ hP hD hS (lv_sub hl [3, 4, 5, 2, 1, 0] rfl) hf
      exact L44_1158 FUEL x2 (0 : Int32) (0 : Int32) S _ _ _ hP hD hS (lv_sub hl [4, 5, 7, 2, 1, 0] rfl) hf
    · have hf := ifF hf c1153
      refine lv_aload_n hx hb dX7_lots_28 rfl (lv_at hl 1 rfl) ?_
      refine lv_bipush (v := (-2 : Int32)) hx hb dX7_lots_29 (by decide) ?_
      obtain ⟨q1163, hq1163, hf⟩ := bnd hf
      refine fc_callV (Wa' := (cW G a q1163.2)) (st1 := [.int q1163.1]) (As := [.int (-2 : Int32)]) (rest := []) hCF (k_X7_refuse a S (-2 : Int32) hq1163) (cwV 1 hts gX7_lots_X7_refuse rfl rfl rfl ⟨rfl, dk_X7_refuse⟩ ⟨Nat.le_of_ble_eq_true rfl, Nat.le_of_ble_eq_true rfl⟩) hE hAB hP hD hS [0, 1, 2, 3, 4, 5, 6, 7, 8, 9, 10, 11, 12, 13, 14, 15, 16, 17, 18, 19, 20, 21, 22, 23, 24, 25, 26, 27, 28, 29, 30, 31] cW_d (cW_c G a S) (va_recv hE.1 hP (ci := 4) (q0 := 0) rfl (cW_o G a S)) (cW_f G a S q1163.2) (cW_s G a S q1163.2) rfl rfl hl.1 rfl (Nat.le_of_ble_eq_true rfl) dX7_lots_31 ⟨Nat.le_refl _, Nat.le_refl _⟩ (fun H locs hP hD hS => ?_)
      exact fc_reti hx hb hr hlocks hP hS dX7_lots_34 (i2a hf) (congrArg (fun z => (cW G a z)) (i2b hf))
  · have hf := ifF hf c1151
    refine lv_aload_n hx hb dX7_lots_14 rfl (lv_at hl 1 rfl) ?_
    refine lv_iload hx hb dX7_lots_15 (lv_at hl 0 rfl) ?_
    obtain ⟨q1164, hq1164, hf⟩ := bnd hf
    refine fc_callV (Wa' := (cW G a q1164.2)) (st1 := [.int q1164.1]) (As := [.int q1150]) (rest := []) hCF (k_X7_refuse a S q1150 hq1164) (cwV 1 hts gX7_lots_X7_refuse rfl rfl rfl ⟨rfl, dk_X7_refuse⟩ ⟨Nat.le_of_ble_eq_true rfl, Nat.le_of_ble_eq_true rfl⟩) hE hAB hP hD hS [0, 1, 2, 3, 4, 5, 6, 7, 8, 9, 10, 11, 12, 13, 14, 15, 16, 17, 18, 19, 20, 21, 22, 23, 24, 25, 26, 27, 28, 29, 30, 31] cW_d (cW_c G a S) (va_recv hE.1 hP (ci := 4) (q0 := 0) rfl (cW_o G a S)) (cW_f G a S q1164.2) (cW_s G a S q1164.2) rfl rfl hl.1 rfl (Nat.le_of_ble_eq_true rfl) dX7_lots_17 ⟨Nat.le_refl _, Nat.le_refl _⟩ (fun H locs hP hD hS => ?_)
    exact fc_reti hx hb hr hlocks hP hS dX7_lots_20 (i2a hf) (congrArg (fun z => (cW G a z)) (i2b hf))
theorem dk_X7_mean : yX7_mean.cls ≠ "java/lang/invoke/MethodHandle" ∧ yX7_mean.cls ≠ "java/lang/invoke/VarHandle" ∧ (parseMethodDescriptor yX7_mean.desc).map (fun d => d.parameters.length) = some 1 := by decide +kernel
theorem iu_X7_mean_X7 : ∀ w ∈ u_ws RX7 TX7 8, w ∈ wsX7_mean := by decide +kernel
set_option maxHeartbeats 4000000 in
set_option maxRecDepth 100000 in
theorem k_X7_mean {l : Launch} {G : Gx} (a : Nat → Nat) (S : (Nat → St)) (x1 : Int32) {r : Int64} {S' : (Nat → St)} (hf : f_X7_mean S x1 = some (r, S')) : FC l G yX7_mean wsX7_mean ({ frames := 3, cells := 0, slots := 0, locals := 80 } : Room) [.ref (a 0), .int x1] (cW G a S) (cW G a S') (some (.long r)) := by
  refine fc_head (cc := cX7_mean) (maxL := 2) (ret := (some .long)) (C := RX7) (lv := [(0, .ref (a 0)), (1, .int x1)]) (by decide) rfl rfl (Nat.le_of_ble_eq_true rfl) rfl ?_
  intro p e s m below meth c ls A hx hb hr hml hown hts hlocks hE hP hD hAB hS hl
  have hCF : CallFix p m c cX7_mean 2 s ([.ref (a 0), .int x1] : List Value).toArray wsX7_mean RX7 := ⟨hx, hb, hml, hown, hts⟩
  have hwX7 : ∀ w ∈ u_ws RX7 TX7 8, w.before ([.ref (a 0), .int x1] : List Value).toArray s = true := fun w h => hts w (iu_X7_mean_X7 w h)
  have hk_fieldLink_RX7_10__BrideNotKnown___now___LBrideNotKnown_Valley__ := hts (.fieldLink RX7 10 "BrideNotKnown" "now" "LBrideNotKnown$Valley;") (List.mem_of_getElem? (i := 1) rfl)
  rw [f_X7_mean] at hf
  refine lv_iload_n hx hb dX7_mean_0 rfl (lv_at hl 1 rfl) ?_
  obtain ⟨q1168, hq1168, hf⟩ := bnd hf
  refine fc_callS (Wa' := (cW G a S)) (st1 := [.int q1168]) (As := [.int x1]) (rest := []) hCF (k_X7_isNotEither x1 hq1168) (va_cwS 1 hts gX7_mean_X7_isNotEither rfl rfl rfl dk_X7_isNotEither ⟨Nat.le_of_ble_eq_true rfl, Nat.le_of_ble_eq_true rfl⟩) hE hAB hP hD hS [] rfl rfl rfl rfl rfl rfl hl.1 rfl (Nat.le_of_ble_eq_true rfl) dX7_mean_1 ⟨Nat.le_refl _, Nat.le_refl _⟩ (fun H locs hP hD hS => ?_)
  refine lv_if_eq (tgt := 14) hx hb dX7_mean_4 (by decide) (fun c1169 => ?_) (fun c1169 => ?_)
  · have hf := ifT hf c1169
    refine lv_aload_n hx hb dX7_mean_14 rfl (lv_at hl 0 rfl) ?_
    refine fc_get (v := .ref (a 1)) (ci := 4) (C := RX7) (T := TX7) (N := 8) hx hb hwX7 hown hE hP 0 (cW_o G a S) rfl 0 (by decide) hk_fieldLink_RX7_10__BrideNotKnown___now___LBrideNotKnown_Valley__ (fun _ h => h) rfl dX7_mean_15 ?_
    refine lv_iload_n hx hb dX7_mean_18 rfl (lv_at hl 1 rfl) ?_
    obtain ⟨q1170, hq1170, hf⟩ := bnd hf
    refine fc_callS (Wa' := (cW G a S)) (st1 := [.long q1170]) (As := [.ref (a 1), .int x1]) (rest := []) hCF (k_X2_meanToes (sh 1 a) (S 0) x1 hq1170) (va_cwS 2 hts gX7_mean_X2_meanToes rfl rfl rfl dk_X2_meanToes ⟨Nat.le_of_ble_eq_true rfl, Nat.le_of_ble_eq_true rfl⟩) hE hAB hP hD hS [1, 2, 3, 4, 5, 6, 7, 8] cW_d0 (cW_c0 G a S) (vW_f G (sh 1 a) (S 0) (S 0)) (cW_i0 G a S) rfl rfl hl.1 rfl (Nat.le_of_ble_eq_true rfl) dX7_mean_19 ⟨Nat.le_refl _, Nat.le_refl _⟩ (fun H locs hP hD hS => ?_)
    exact fc_retl hx hb hr hlocks hP hS dX7_mean_22 (i2a hf) (congrArg (fun z => (cW G a z)) (i2b hf))
  · have hf := ifF hf c1169
    refine lv_aload_n hx hb dX7_mean_7 rfl (lv_at hl 0 rfl) ?_
    refine lv_bipush (v := (-2 : Int32)) hx hb dX7_mean_8 (by decide) ?_
    obtain ⟨q1171, hq1171, hf⟩ := bnd hf
    refine fc_callV (Wa' := (cW G a q1171.2)) (st1 := [.long q1171.1]) (As := [.int (-2 : Int32)]) (rest := []) hCF (k_X7_refuseLong a S (-2 : Int32) hq1171) (cwV 1 hts gX7_mean_X7_refuseLong rfl rfl rfl ⟨rfl, dk_X7_refuseLong⟩ ⟨Nat.le_of_ble_eq_true rfl, Nat.le_of_ble_eq_true rfl⟩) hE hAB hP hD hS [0, 1, 2, 3, 4, 5, 6, 7, 8, 9, 10, 11, 12, 13, 14, 15, 16, 17, 18, 19, 20, 21, 22, 23, 24, 25, 26, 27, 28, 29, 30, 31] cW_d (cW_c G a S) (va_recv hE.1 hP (ci := 4) (q0 := 0) rfl (cW_o G a S)) (cW_f G a S q1171.2) (cW_s G a S q1171.2) rfl rfl hl.1 rfl (Nat.le_of_ble_eq_true rfl) dX7_mean_10 ⟨Nat.le_refl _, Nat.le_refl _⟩ (fun H locs hP hD hS => ?_)
    exact fc_retl hx hb hr hlocks hP hS dX7_mean_13 (i2a hf) (congrArg (fun z => (cW G a z)) (i2b hf))
theorem dk_X7_meant : yX7_meant.cls ≠ "java/lang/invoke/MethodHandle" ∧ yX7_meant.cls ≠ "java/lang/invoke/VarHandle" ∧ (parseMethodDescriptor yX7_meant.desc).map (fun d => d.parameters.length) = some 2 := by decide +kernel
theorem iu_X7_meant_X7 : ∀ w ∈ u_ws RX7 TX7 8, w ∈ wsX7_meant := by decide +kernel
set_option maxHeartbeats 4000000 in
set_option maxRecDepth 100000 in
theorem k_X7_meant {l : Launch} {G : Gx} (a : Nat → Nat) (S : (Nat → St)) (x1 : Int32) (x2 : Int32) {r : Int32} {S' : (Nat → St)} (hf : f_X7_meant S x1 x2 = some (r, S')) : FC l G yX7_meant wsX7_meant ({ frames := 4, cells := 0, slots := 0, locals := 89 } : Room) [.ref (a 0), .int x1, .int x2] (cW G a S) (cW G a S') (some (.int r)) := by
  refine fc_head (cc := cX7_meant) (maxL := 4) (ret := (some .int)) (C := RX7) (lv := [(0, .ref (a 0)), (1, .int x1), (2, .int x2)]) (by decide) rfl rfl (Nat.le_of_ble_eq_true rfl) rfl ?_
  intro p e s m below meth c ls A hx hb hr hml hown hts hlocks hE hP hD hAB hS hl
  have hCF : CallFix p m c cX7_meant 4 s ([.ref (a 0), .int x1, .int x2] : List Value).toArray wsX7_meant RX7 := ⟨hx, hb, hml, hown, hts⟩
  have hwX7 : ∀ w ∈ u_ws RX7 TX7 8, w.before ([.ref (a 0), .int x1, .int x2] : List Value).toArray s = true := fun w h => hts w (iu_X7_meant_X7 w h)
  have hk_fieldLink_RX7_10__BrideNotKnown___now___LBrideNotKnown_Valley__ := hts (.fieldLink RX7 10 "BrideNotKnown" "now" "LBrideNotKnown$Valley;") (List.mem_of_getElem? (i := 1) rfl)
  rw [f_X7_meant] at hf
  refine lv_aload_n hx hb dX7_meant_0 rfl (lv_at hl 0 rfl) ?_
  refine fc_get (v := .ref (a 1)) (ci := 4) (C := RX7) (T := TX7) (N := 8) hx hb hwX7 hown hE hP 0 (cW_o G a S) rfl 0 (by decide) hk_fieldLink_RX7_10__BrideNotKnown___now___LBrideNotKnown_Valley__ (fun _ h => h) rfl dX7_meant_1 ?_
  refine lv_iload_n hx hb dX7_meant_4 rfl (lv_at hl 1 rfl) ?_
  obtain ⟨q1178, hq1178, hf⟩ := bnd hf
  refine fc_callV (Wa' := (cW G a S)) (st1 := [.int q1178]) (As := [.int x1]) (rest := []) hCF (k_X6_hasGroom (sh 1 a) (S 0) x1 hq1178) (cwV 1 hts gX7_meant_X6_hasGroom rfl rfl rfl ⟨rfl, dk_X6_hasGroom⟩ ⟨Nat.le_of_ble_eq_true rfl, Nat.le_of_ble_eq_true rfl⟩) hE hAB hP hD hS [1, 2, 3, 4, 5, 6, 7, 8] cW_d0 (cW_c0 G a S) (va_recv hE.1 hP (ci := 3) (q0 := 1) rfl (cW_o0 G a S)) (vW_f G (sh 1 a) (S 0) (S 0)) (cW_i0 G a S) rfl rfl hl.1 rfl (Nat.le_of_ble_eq_true rfl) dX7_meant_5 ⟨Nat.le_refl _, Nat.le_refl _⟩ (fun H locs hP hD hS => ?_)
  refine lv_if_ne (tgt := 17) hx hb dX7_meant_8 (by decide) (fun c1179 => ?_) (fun c1179 => ?_)
  · have hf := ifF hf c1179
    refine lv_iload_n hx hb dX7_meant_17 rfl (lv_at hl 2 rfl) ?_
    obtain ⟨q1180, hq1180, hf⟩ := bnd hf
    refine fc_callS (Wa' := (cW G a S)) (st1 := [.int q1180]) (As := [.int x2]) (rest := []) hCF (k_X7_isNotEither x2 hq1180) (va_cwS 1 hts gX7_meant_X7_isNotEither rfl rfl rfl dk_X7_isNotEither ⟨Nat.le_of_ble_eq_true rfl, Nat.le_of_ble_eq_true rfl⟩) hE hAB hP hD hS [] rfl rfl rfl rfl rfl rfl hl.1 rfl (Nat.le_of_ble_eq_true rfl) dX7_meant_18 ⟨Nat.le_refl _, Nat.le_refl _⟩ (fun H locs hP hD hS => ?_)
    refine lv_if_eq (tgt := 31) hx hb dX7_meant_21 (by decide) (fun c1181 => ?_) (fun c1181 => ?_)
    · have hf := ifT hf c1181
      refine lv_aload_n hx hb dX7_meant_31 rfl (lv_at hl 0 rfl) ?_
      refine fc_get (v := .ref (a 1)) (ci := 4) (C := RX7) (T := TX7) (N := 8) hx hb hwX7 hown hE hP 0 (cW_o G a S) rfl 0 (by decide) hk_fieldLink_RX7_10__BrideNotKnown___now___LBrideNotKnown_Valley__ (fun _ h => h) rfl dX7_meant_32 ?_
      refine lv_iload_n hx hb dX7_meant_35 rfl (lv_at hl 1 rfl) ?_
      obtain ⟨q1182, hq1182, hf⟩ := bnd hf
      refine fc_callV (Wa' := (cW G a S)) (st1 := [.int q1182]) (As := [.int x1]) (rest := []) hCF (k_X6_nearestTo (sh 1 a) (S 0) x1 hq1182) (cwV 1 hts gX7_meant_X6_nearestTo rfl rfl rfl ⟨rfl, dk_X6_nearestTo⟩ ⟨Nat.le_of_ble_eq_true rfl, Nat.le_of_ble_eq_true rfl⟩) hE hAB hP hD hS [1, 2, 3, 4, 5, 6, 7, 8] cW_d0 (cW_c0 G a S) (va_recv hE.1 hP (ci := 3) (q0 := 1) rfl (cW_o0 G a S)) (vW_f G (sh 1 a) (S 0) (S 0)) (cW_i0 G a S) rfl rfl hl.1 rfl (Nat.le_of_ble_eq_true rfl) dX7_meant_36 ⟨Nat.le_refl _, Nat.le_refl _⟩ (fun H locs hP hD hS => ?_)
      refine lv_istore_n (lv' := [(3, .int q1182), (0, .ref (a 0)), (1, .int x1), (2, .int x2)]) hx hb dX7_meant_39 rfl hl (by decide) rfl (fun ls hl => ?_)
      refine lv_iload_n hx hb dX7_meant_40 rfl (lv_at hl 3 rfl) ?_
      refine lv_if_eq (tgt := 50) hx hb dX7_meant_41 (by decide) (fun c1183 => ?_) (fun c1183 => ?_)
      · have hf := ifT hf c1183
        refine lv_iload_n hx hb dX7_meant_50 rfl (lv_at hl 0 rfl) ?_
        refine lv_goto (tgt := 63) hx hb dX7_meant_51 (by decide) ?_
        exact fc_reti hx hb hr hlocks hP hS dX7_meant_63 (i2a hf) (congrArg (fun z => (cW G a z)) (i2b hf))
      · have hf := ifF hf c1183
        refine lv_iload_n hx hb dX7_meant_44 rfl (lv_at hl 0 rfl) ?_
        refine lv_bipush (v := (-9 : Int32)) hx hb dX7_meant_45 (by decide) ?_
        refine lv_icmp_ne (tgt := 54) hx hb dX7_meant_47 (by decide) (fun c1184 => ?_) (fun c1184 => ?_)
        · have hf := ifF hf c1184
          refine lv_aload_n hx hb dX7_meant_54 rfl (lv_at hl 1 rfl) ?_
          refine fc_get (v := .ref (a 1)) (ci := 4) (C := RX7) (T := TX7) (N := 8) hx hb hwX7 hown hE hP 0 (cW_o G a S) rfl 0 (by decide) hk_fieldLink_RX7_10__BrideNotKnown___now___LBrideNotKnown_Valley__ (fun _ h => h) rfl dX7_meant_55 ?_
          refine lv_iload_n hx hb dX7_meant_58 rfl (lv_at hl 2 rfl) ?_
          refine lv_iload_n hx hb dX7_meant_59 rfl (lv_at hl 0 rfl) ?_
          obtain ⟨q1185, hq1185, hf⟩ := bnd hf
          refine fc_callV (Wa' := (cW G a S)) (st1 := [.int q1185]) (As := [.int x1, .int q1182]) (rest := []) hCF (k_X6_toesFromMind (sh 1 a) (S 0) x1 q1182 hq1185) (cwV 2 hts gX7_meant_X6_toesFromMind rfl rfl rfl ⟨rfl, dk_X6_toesFromMind⟩ ⟨Nat.le_of_ble_eq_true rfl, Nat.le_of_ble_eq_true rfl⟩) hE hAB hP hD hS [1, 2, 3, 4, 5, 6, 7, 8] cW_d0 (cW_c0 G a S) (va_recv hE.1 hP (ci := 3) (q0 := 1) rfl (cW_o0 G a S)) (vW_f G (sh 1 a) (S 0) (S 0)) (cW_i0 G a S) rfl rfl hl.1 rfl (Nat.le_of_ble_eq_true rfl) dX7_meant_60 ⟨Nat.le_refl _, Nat.le_refl _⟩ (fun H locs hP hD hS => ?_)
          exact fc_reti hx hb hr hlocks hP hS dX7_meant_63 (i2a hf) (congrArg (fun z => (cW G a z)) (i2b hf))
        · have hf := ifT hf c1184
          refine lv_iload_n hx hb dX7_meant_50 rfl (lv_at hl 0 rfl) ?_
          refine lv_goto (tgt := 63) hx hb dX7_meant_51 (by decide) ?_
          exact fc_reti hx hb hr hlocks hP hS dX7_meant_63 (i2a hf) (congrArg (fun z => (cW G a z)) (i2b hf))
    · have hf := ifF hf c1181
      refine lv_aload_n hx hb dX7_meant_24 rfl (lv_at hl 0 rfl) ?_
      refine lv_bipush (v := (-2 : Int32)) hx hb dX7_meant_25 (by decide) ?_
      obtain ⟨q1186, hq1186, hf⟩ := bnd hf
      refine fc_callV (Wa' := (cW G a q1186.2)) (st1 := [.int q1186.1]) (As := [.int (-2 : Int32)]) (rest := []) hCF (k_X7_refuse a S (-2 : Int32) hq1186) (cwV 1 hts gX7_meant_X7_refuse rfl rfl rfl ⟨rfl, dk_X7_refuse⟩ ⟨Nat.le_of_ble_eq_true rfl, Nat.le_of_ble_eq_true rfl⟩) hE hAB hP hD hS [0, 1, 2, 3, 4, 5, 6, 7, 8, 9, 10, 11, 12, 13, 14, 15, 16, 17, 18, 19, 20, 21, 22, 23, 24, 25, 26, 27, 28, 29, 30, 31] cW_d (cW_c G a S) (va_recv hE.1 hP (ci := 4) (q0 := 0) rfl (cW_o G a S)) (cW_f G a S q1186.2) (cW_s G a S q1186.2) rfl rfl hl.1 rfl (Nat.le_of_ble_eq_true rfl) dX7_meant_27 ⟨Nat.le_refl _, Nat.le_refl _⟩ (fun H locs hP hD hS => ?_)
      exact fc_reti hx hb hr hlocks hP hS dX7_meant_30 (i2a hf) (congrArg (fun z => (cW G a z)) (i2b hf))
  · have hf := ifT hf c1179
    refine lv_aload_n hx hb dX7_meant_11 rfl (lv_at hl 0 rfl) ?_
    refine lv_iconst (v := (-1 : Int32)) hx hb dX7_meant_12 (by decide) ?_
    obtain ⟨q1187, hq1187, hf⟩ := bnd hf
    refine fc_callV (Wa' := (cW G a q1187.2)) (st1 := [.int q1187.1]) (As := [.int (-1 : Int32)]) (rest := []) hCF (k_X7_refuse a S (-1 : Int32) hq1187) (cwV 1 hts gX7_meant_X7_refuse rfl rfl rfl ⟨rfl, dk_X7_refuse⟩ ⟨Nat.le_of_ble_eq_true rfl, Nat.le_of_ble_eq_true rfl⟩) hE hAB hP hD hS [0, 1, 2, 3, 4, 5, 6, 7, 8, 9, 10, 11, 12, 13, 14, 15, 16, 17, 18, 19, 20, 21, 22, 23, 24, 25, 26, 27, 28, 29, 30, 31] cW_d (cW_c G a S) (va_recv hE.1 hP (ci := 4) (q0 := 0) rfl (cW_o G a S)) (cW_f G a S q1187.2) (cW_s G a S q1187.2) rfl rfl hl.1 rfl (Nat.le_of_ble_eq_true rfl) dX7_meant_13 ⟨Nat.le_refl _, Nat.le_refl _⟩ (fun H locs hP hD hS => ?_)
    exact fc_reti hx hb hr hlocks hP hS dX7_meant_16 (i2a hf) (congrArg (fun z => (cW G a z)) (i2b hf))
theorem dk_X7_minds : yX7_minds.cls ≠ "java/lang/invoke/MethodHandle" ∧ yX7_minds.cls ≠ "java/lang/invoke/VarHandle" ∧ (parseMethodDescriptor yX7_minds.desc).map (fun d => d.parameters.length) = some 2 := by decide +kernel
theorem iu_X7_minds_X7 : ∀ w ∈ u_ws RX7 TX7 8, w ∈ wsX7_minds := by decide +kernel
set_option maxHeartbeats 4000000 in
set_option maxRecDepth 100000 in
theorem k_X7_minds {l : Launch} {G : Gx} (a : Nat → Nat) (S : (Nat → St)) (x1 : Int32) (x2 : Int32) {r : Int32} {S' : (Nat → St)} (hf : f_X7_minds S x1 x2 = some (r, S')) : FC l G yX7_minds wsX7_minds ({ frames := 2, cells := 0, slots := 0, locals := 45 } : Room) [.ref (a 0), .int x1, .int x2] (cW G a S) (cW G a S') (some (.int r)) := by
  refine fc_head (cc := cX7_minds) (maxL := 5) (ret := (some .int)) (C := RX7) (lv := [(0, .ref (a 0)), (1, .int x1), (2, .int x2)]) (by decide) rfl rfl (Nat.le_of_ble_eq_true rfl) rfl ?_
  intro p e s m below meth c ls A hx hb hr hml hown hts hlocks hE hP hD hAB hS hl
  have hCF : CallFix p m c cX7_minds 5 s ([.ref (a 0), .int x1, .int x2] : List Value).toArray wsX7_minds RX7 := ⟨hx, hb, hml, hown, hts⟩
  have hwX7 : ∀ w ∈ u_ws RX7 TX7 8, w.before ([.ref (a 0), .int x1, .int x2] : List Value).toArray s = true := fun w h => hts w (iu_X7_minds_X7 w h)
  have hk_fieldLink_RX7_10__BrideNotKnown___now___LBrideNotKnown_Valley__ := hts (.fieldLink RX7 10 "BrideNotKnown" "now" "LBrideNotKnown$Valley;") (List.mem_of_getElem? (i := 1) rfl)
  rw [f_X7_minds] at hf
  refine lv_aload_n hx hb dX7_minds_0 rfl (lv_at hl 0 rfl) ?_
  refine fc_get (v := .ref (a 1)) (ci := 4) (C := RX7) (T := TX7) (N := 8) hx hb hwX7 hown hE hP 0 (cW_o G a S) rfl 0 (by decide) hk_fieldLink_RX7_10__BrideNotKnown___now___LBrideNotKnown_Valley__ (fun _ h => h) rfl dX7_minds_1 ?_
  refine lv_iload_n hx hb dX7_minds_4 rfl (lv_at hl 1 rfl) ?_
  obtain ⟨q1193, hq1193, hf⟩ := bnd hf
  refine fc_callV (Wa' := (cW G a S)) (st1 := [.int q1193]) (As := [.int x1]) (rest := []) hCF (k_X6_hasGroom (sh 1 a) (S 0) x1 hq1193) (cwV 1 hts gX7_minds_X6_hasGroom rfl rfl rfl ⟨rfl, dk_X6_hasGroom⟩ ⟨Nat.le_of_ble_eq_true rfl, Nat.le_of_ble_eq_true rfl⟩) hE hAB hP hD hS [1, 2, 3, 4, 5, 6, 7, 8] cW_d0 (cW_c0 G a S) (va_recv hE.1 hP (ci := 3) (q0 := 1) rfl (cW_o0 G a S)) (vW_f G (sh 1 a) (S 0) (S 0)) (cW_i0 G a S) rfl rfl hl.1 rfl (Nat.le_of_ble_eq_true rfl) dX7_minds_5 ⟨Nat.le_refl _, Nat.le_refl _⟩ (fun H locs hP hD hS => ?_)
  refine lv_iload_n hx hb dX7_minds_8 rfl (lv_at hl 2 rfl) ?_
  refine lv_iconst (v := (0 : Int32)) hx hb dX7_minds_9 (by decide) ?_
  refine lv_bipush (v := (63 : Int32)) hx hb dX7_minds_10 (by decide) ?_
  obtain ⟨q1194, hq1194, hf⟩ := bnd hf
  refine fc_callS (Wa' := (cW G a S)) (st1 := [.int q1194]) (As := [.int q1193, .int x2, .int (0 : Int32), .int (63 : Int32)]) (rest := []) hCF (k_X7_refusalOf q1193 x2 (0 : Int32) (63 : Int32) hq1194) (va_cwS 4 hts gX7_minds_X7_refusalOf rfl rfl rfl dk_X7_refusalOf ⟨Nat.le_of_ble_eq_true rfl, Nat.le_of_ble_eq_true rfl⟩) hE hAB hP hD hS [] rfl rfl rfl rfl rfl rfl hl.1 rfl (Nat.le_of_ble_eq_true rfl) dX7_minds_12 ⟨Nat.le_refl _, Nat.le_refl _⟩ (fun H locs hP hD hS => ?_)
  refine lv_istore_n (lv' := [(3, .int q1194), (0, .ref (a 0)), (1, .int x1), (2, .int x2)]) hx hb dX7_minds_15 rfl hl (by decide) rfl (fun ls hl => ?_)
  refine lv_iload_n hx hb dX7_minds_16 rfl (lv_at hl 0 rfl) ?_
  refine lv_if_eq (tgt := 26) hx hb dX7_minds_17 (by decide) (fun c1195 => ?_) (fun c1195 => ?_)
  · have hf := ifT hf c1195
    refine lv_aload_n hx hb dX7_minds_26 rfl (lv_at hl 1 rfl) ?_
    refine fc_get (v := .ref (a 1)) (ci := 4) (C := RX7) (T := TX7) (N := 8) hx hb hwX7 hown hE hP 0 (cW_o G a S) rfl 0 (by decide) hk_fieldLink_RX7_10__BrideNotKnown___now___LBrideNotKnown_Valley__ (fun _ h => h) rfl dX7_minds_27 ?_
    refine lv_iload_n hx hb dX7_minds_30 rfl (lv_at hl 2 rfl) ?_
    obtain ⟨q1196, hq1196, hf⟩ := bnd hf
    refine fc_callV (Wa' := (cW G a S)) (st1 := [.int q1196]) (As := [.int x1]) (rest := []) hCF (k_X6_mindOf (sh 1 a) (S 0) x1 hq1196) (cwV 1 hts gX7_minds_X6_mindOf rfl rfl rfl ⟨rfl, dk_X6_mindOf⟩ ⟨Nat.le_of_ble_eq_true rfl, Nat.le_of_ble_eq_true rfl⟩) hE hAB hP hD hS [1, 2, 3, 4, 5, 6, 7, 8] cW_d0 (cW_c0 G a S) (va_recv hE.1 hP (ci := 3) (q0 := 1) rfl (cW_o0 G a S)) (vW_f G (sh 1 a) (S 0) (S 0)) (cW_i0 G a S) rfl rfl hl.1 rfl (Nat.le_of_ble_eq_true rfl) dX7_minds_31 ⟨Nat.le_refl _, Nat.le_refl _⟩ (fun H locs hP hD hS => ?_)
    refine lv_istore (lv' := [(4, .int q1196), (3, .int q1194), (0, .ref (a 0)), (1, .int x1), (2, .int x2)]) hx hb dX7_minds_34 hl (by decide) rfl (fun ls hl => ?_)
    refine lv_aload_n hx hb dX7_minds_36 rfl (lv_at hl 2 rfl) ?_
    refine fc_get (v := .ref (a 1)) (ci := 4) (C := RX7) (T := TX7) (N := 8) hx hb hwX7 hown hE hP 0 (cW_o G a S) rfl 0 (by decide) hk_fieldLink_RX7_10__BrideNotKnown___now___LBrideNotKnown_Valley__ (fun _ h => h) rfl dX7_minds_37 ?_
    refine lv_iload_n hx hb dX7_minds_40 rfl (lv_at hl 3 rfl) ?_
    refine lv_iload_n hx hb dX7_minds_41 rfl (lv_at hl 4 rfl) ?_
    obtain ⟨q1197, hq1197, hf⟩ := bnd hf
    refine fc_callV (Wa' := (cW G a (sS S 0 q1197))) (st1 := []) (As := [.int x1, .int x2]) (rest := []) hCF (k_X6_setMind (sh 1 a) (S 0) x1 x2 hq1197) (cwV 2 hts gX7_minds_X6_setMind rfl rfl rfl ⟨rfl, dk_X6_setMind⟩ ⟨Nat.le_of_ble_eq_true rfl, Nat.le_of_ble_eq_true rfl⟩) hE hAB hP hD hS [1, 2, 3, 4, 5, 6, 7, 8] cW_d0 (cW_c0 G a S) (va_recv hE.1 hP (ci := 3) (q0 := 1) rfl (cW_o0 G a S)) (vW_f G (sh 1 a) (S 0) q1197) (cW_s0 G a S q1197) rfl rfl hl.1 rfl (Nat.le_of_ble_eq_true rfl) dX7_minds_42 ⟨Nat.le_refl _, Nat.le_refl _⟩ (fun H locs hP hD hS => ?_)
    refine lv_iload hx hb dX7_minds_45 (lv_at hl 0 rfl) ?_
    exact fc_reti hx hb hr hlocks hP hS dX7_minds_47 (i2a hf) (congrArg (fun z => (cW G a z)) (i2b hf))
  · have hf := ifF hf c1195
    refine lv_aload_n hx hb dX7_minds_20 rfl (lv_at hl 1 rfl) ?_
    refine lv_iload_n hx hb dX7_minds_21 rfl (lv_at hl 0 rfl) ?_
    obtain ⟨q1198, hq1198, hf⟩ := bnd hf
    refine fc_callV (Wa' := (cW G a q1198.2)) (st1 := [.int q1198.1]) (As := [.int q1194]) (rest := []) hCF (k_X7_refuse a S q1194 hq1198) (cwV 1 hts gX7_minds_X7_refuse rfl rfl rfl ⟨rfl, dk_X7_refuse⟩ ⟨Nat.le_of_ble_eq_true rfl, Nat.le_of_ble_eq_true rfl⟩) hE hAB hP hD hS [0, 1, 2, 3, 4, 5, 6, 7, 8, 9, 10, 11, 12, 13, 14, 15, 16, 17, 18, 19, 20, 21, 22, 23, 24, 25, 26, 27, 28, 29, 30, 31] cW_d (cW_c G a S) (va_recv hE.1 hP (ci := 4) (q0 := 0) rfl (cW_o G a S)) (cW_f G a S q1198.2) (cW_s G a S q1198.2) rfl rfl hl.1 rfl (Nat.le_of_ble_eq_true rfl) dX7_minds_22 ⟨Nat.le_refl _, Nat.le_refl _⟩ (fun H locs hP hD hS => ?_)
    exact fc_reti hx hb hr hlocks hP hS dX7_minds_25 (i2a hf) (congrArg (fun z => (cW G a z)) (i2b hf))
theorem dk_X7_on : yX7_on.cls ≠ "java/lang/invoke/MethodHandle" ∧ yX7_on.cls ≠ "java/lang/invoke/VarHandle" ∧ (parseMethodDescriptor yX7_on.desc).map (fun d => d.parameters.length) = some 0 := by decide +kernel
theorem iu_X7_on_X6 : ∀ w ∈ u_ws RX6 TX6 12, w ∈ wsX7_on := by decide +kernel
theorem iu_X7_on_X7 : ∀ w ∈ u_ws RX7 TX7 8, w ∈ wsX7_on := by decide +kernel
set_option maxHeartbeats 4000000 in
set_option maxRecDepth 100000 in
theorem k_X7_on {l : Launch} {G : Gx} (a : Nat → Nat) (S : (Nat → St)) {r : Int32} {S' : (Nat → St)} (hf : f_X7_on S = some (r, S')) : FC l G yX7_on wsX7_on ({ frames := 2, cells := 0, slots := 0, locals := 43 } : Room) [.ref (a 0)] (cW G a S) (cW G a S') (some (.int r)) := by
  refine fc_head (cc := cX7_on) (maxL := 1) (ret := (some .int)) (C := RX7) (lv := [(0, .ref (a 0))]) (by decide) rfl rfl (Nat.le_of_ble_eq_true rfl) rfl ?_
  intro p e s m below meth c ls A hx hb hr hml hown hts hlocks hE hP hD hAB hS hl
  have hCF : CallFix p m c cX7_on 1 s ([.ref (a 0)] : List Value).toArray wsX7_on RX7 := ⟨hx, hb, hml, hown, hts⟩
  have hwX6 : ∀ w ∈ u_ws RX6 TX6 12, w.before ([.ref (a 0)] : List Value).toArray s = true := fun w h => hts w (iu_X7_on_X6 w h)
  have hwX7 : ∀ w ∈ u_ws RX7 TX7 8, w.before ([.ref (a 0)] : List Value).toArray s = true := fun w h => hts w (iu_X7_on_X7 w h)
  have hk_fieldLink_RX7_270__BrideNotKnown___imageTaken___Z_ := hts (.fieldLink RX7 270 "BrideNotKnown" "imageTaken" "Z") (List.mem_of_getElem? (i := 1) rfl)
  have hk_fieldLink_RX7_10__BrideNotKnown___now___LBrideNotKnown_Valley__ := hts (.fieldLink RX7 10 "BrideNotKnown" "now" "LBrideNotKnown$Valley;") (List.mem_of_getElem? (i := 2) rfl)
  have hk_fieldLink_RX7_19__BrideNotKnown___kept___LBrideNotKnown_Valley__ := hts (.fieldLink RX7 19 "BrideNotKnown" "kept" "LBrideNotKnown$Valley;") (List.mem_of_getElem? (i := 3) rfl)
  have hk_fieldLink_RX7_274__BrideNotKnown_Valley___year___I_ := hts (.fieldLink RX7 274 "BrideNotKnown$Valley" "year" "I") (List.mem_of_getElem? (i := 4) rfl)
  rw [f_X7_on] at hf
  refine lv_aload_n hx hb dX7_on_0 rfl (lv_at hl 0 rfl) ?_
  refine fc_get (v := .int ((S 6) 1 0)) (ci := 4) (C := RX7) (T := TX7) (N := 8) hx hb hwX7 hown hE hP 0 (cW_o G a S) rfl 3 (by decide) hk_fieldLink_RX7_270__BrideNotKnown___imageTaken___Z_ (fun _ h => h) rfl dX7_on_1 ?_
  refine lv_if_ne (tgt := 14) hx hb dX7_on_4 (by decide) (fun c1201 => ?_) (fun c1201 => ?_)
  · have hf := ifF hf c1201
    refine lv_aload_n hx hb dX7_on_14 rfl (lv_at hl 0 rfl) ?_
    refine fc_get (v := .ref (a 1)) (ci := 4) (C := RX7) (T := TX7) (N := 8) hx hb hwX7 hown hE hP 0 (cW_o G a S) rfl 0 (by decide) hk_fieldLink_RX7_10__BrideNotKnown___now___LBrideNotKnown_Valley__ (fun _ h => h) rfl dX7_on_15 ?_
    refine lv_aload_n hx hb dX7_on_18 rfl (lv_at hl 0 rfl) ?_
    refine fc_get (v := .ref (a 17)) (ci := 4) (C := RX7) (T := TX7) (N := 8) hx hb hwX7 hown hE hP 0 (cW_o G a S) rfl 2 (by decide) hk_fieldLink_RX7_19__BrideNotKnown___kept___LBrideNotKnown_Valley__ (fun _ h => h) rfl dX7_on_19 ?_
    obtain ⟨q1202, hq1202, hf⟩ := bnd hf
    refine fc_callV (Wa' := (cW G a (sS S 0 q1202))) (st1 := []) (As := [.ref (a 17)]) (rest := []) hCF (k_X6_become (sh 1 a) (S 0) (sh 17 a) (S 2) hq1202) (cwV 1 hts gX7_on_X6_become rfl rfl rfl ⟨rfl, dk_X6_become⟩ ⟨Nat.le_of_ble_eq_true rfl, Nat.le_of_ble_eq_true rfl⟩) hE hAB hP hD hS [1, 2, 3, 4, 5, 6, 7, 8, 17, 18, 19, 20, 21, 22, 23, 24] (by decide +kernel) (cut_cut (cW_c0 G a S) (cW_c2 G a S)) (va_recv hE.1 hP (ci := 3) (q0 := 1) rfl (cW_o0 G a S)) (fst_fst (vW_f G (sh 1 a) (S 0) q1202) (vW_f G (sh 17 a) (S 2) (S 2))) ((set_set (i1 := [1, 2, 3, 4, 5, 6, 7, 8]) (W1 := (vW G (sh 1 a) q1202)) (vW_n G (sh 1 a) q1202).symm).trans ((congrArg (fun z => setAll z _ _) (cW_i2 G a S)).trans (cW_s0 G a S q1202))) rfl rfl hl.1 rfl (Nat.le_of_ble_eq_true rfl) dX7_on_22 ⟨Nat.le_refl _, Nat.le_refl _⟩ (fun H locs hP hD hS => ?_)
    refine lv_aload_n hx hb dX7_on_25 rfl (lv_at hl 0 rfl) ?_
    refine fc_get (v := .ref (a 1)) (ci := 4) (C := RX7) (T := TX7) (N := 8) hx hb hwX7 hown hE hP 0 (cW_o G a (sS S 0 q1202)) rfl 0 (by decide) hk_fieldLink_RX7_10__BrideNotKnown___now___LBrideNotKnown_Valley__ (fun _ h => h) rfl dX7_on_26 ?_
    refine fc_get (v := .int (q1202 7 0)) (ci := 3) (C := RX6) (T := TX6) (N := 12) hx hb hwX6 hown hE hP 1 (cW_o0 G a (sS S 0 q1202)) rfl 0 (by decide) hk_fieldLink_RX7_274__BrideNotKnown_Valley___year___I_ (fun _ h => h) rfl dX7_on_29 ?_
    exact fc_reti hx hb hr hlocks hP hS dX7_on_32 (i2a hf) (congrArg (fun z => (cW G a z)) (i2b hf))
  · have hf := ifT hf c1201
    refine lv_aload_n hx hb dX7_on_7 rfl (lv_at hl 0 rfl) ?_
    refine lv_bipush (v := (-3 : Int32)) hx hb dX7_on_8 (by decide) ?_
    obtain ⟨q1203, hq1203, hf⟩ := bnd hf
    refine fc_callV (Wa' := (cW G a q1203.2)) (st1 := [.int q1203.1]) (As := [.int (-3 : Int32)]) (rest := []) hCF (k_X7_refuse a S (-3 : Int32) hq1203) (cwV 1 hts gX7_on_X7_refuse rfl rfl rfl ⟨rfl, dk_X7_refuse⟩ ⟨Nat.le_of_ble_eq_true rfl, Nat.le_of_ble_eq_true rfl⟩) hE hAB hP hD hS [0, 1, 2, 3, 4, 5, 6, 7, 8, 9, 10, 11, 12, 13, 14, 15, 16, 17, 18, 19, 20, 21, 22, 23, 24, 25, 26, 27, 28, 29, 30, 31] cW_d (cW_c G a S) (va_recv hE.1 hP (ci := 4) (q0 := 0) rfl (cW_o G a S)) (cW_f G a S q1203.2) (cW_s G a S q1203.2) rfl rfl hl.1 rfl (Nat.le_of_ble_eq_true rfl) dX7_on_10 ⟨Nat.le_refl _, Nat.le_refl _⟩ (fun H locs hP hD hS => ?_)
    exact fc_reti hx hb hr hlocks hP hS dX7_on_13 (i2a hf) (congrArg (fun z => (cW G a z)) (i2b hf))
