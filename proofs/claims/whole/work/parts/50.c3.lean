theorem dk_X7_forget : yX7_forget.cls ≠ "java/lang/invoke/MethodHandle" ∧ yX7_forget.cls ≠ "java/lang/invoke/VarHandle" ∧ (parseMethodDescriptor yX7_forget.desc).map (fun d => d.parameters.length) = some 1 := by decide +kernel
theorem iu_X7_forget_X7 : ∀ w ∈ u_ws RX7 TX7 8, w ∈ wsX7_forget := by decide +kernel
set_option maxHeartbeats 4000000 in
set_option maxRecDepth 100000 in
theorem k_X7_forget {l : Launch} {G : Gx} (a : Nat → Nat) (S : (Nat → St)) (x1 : Int32) {r : Int32} {S' : (Nat → St)} (hf : f_X7_forget S x1 = some (r, S')) : FC l G yX7_forget wsX7_forget ({ frames := 4, cells := 0, slots := 0, locals := 104 } : Room) [.ref (a 0), .int x1] (cW G a S) (cW G a S') (some (.int r)) := by
  refine fc_head (cc := cX7_forget) (maxL := 2) (ret := (some .int)) (C := RX7) (lv := [(0, .ref (a 0)), (1, .int x1)]) (by decide) rfl rfl (Nat.le_of_ble_eq_true rfl) rfl ?_
  intro p e s m below meth c ls A hx hb hr hml hown hts hlocks hE hP hD hAB hS hl
  have hCF : CallFix p m c cX7_forget 2 s ([.ref (a 0), .int x1] : List Value).toArray wsX7_forget RX7 := ⟨hx, hb, hml, hown, hts⟩
  have hwX7 : ∀ w ∈ u_ws RX7 TX7 8, w.before ([.ref (a 0), .int x1] : List Value).toArray s = true := fun w h => hts w (iu_X7_forget_X7 w h)
  have hk_fieldLink_RX7_10__BrideNotKnown___now___LBrideNotKnown_Valley__ := hts (.fieldLink RX7 10 "BrideNotKnown" "now" "LBrideNotKnown$Valley;") (List.mem_of_getElem? (i := 1) rfl)
  rw [f_X7_forget] at hf
  refine lv_aload_n hx hb dX7_forget_0 rfl (lv_at hl 0 rfl) ?_
  refine fc_get (v := .ref (a 1)) (ci := 4) (C := RX7) (T := TX7) (N := 8) hx hb hwX7 hown hE hP 0 rfl rfl 0 (by decide) hk_fieldLink_RX7_10__BrideNotKnown___now___LBrideNotKnown_Valley__ (fun _ h => h) rfl dX7_forget_1 ?_
  refine lv_iload_n hx hb dX7_forget_4 rfl (lv_at hl 1 rfl) ?_
  obtain ⟨q867, hq867, hf⟩ := bnd hf
  refine fc_callV (Wa' := (cW G a S)) (st1 := [.int q867]) (As := [.int x1]) (rest := []) hCF (k_X6_hasGroom (sh 1 a) (S 0) x1 hq867) (cwV 1 hts gX7_forget_X6_hasGroom rfl rfl rfl ⟨rfl, dk_X6_hasGroom⟩ ⟨Nat.le_of_ble_eq_true rfl, Nat.le_of_ble_eq_true rfl⟩) hE hAB hP hD hS [1, 2, 3, 4, 5, 6, 7, 8] rfl rfl (va_recv hE.1 hP (ci := 3) (q0 := 1) rfl rfl) rfl rfl rfl rfl hl.1 rfl (Nat.le_of_ble_eq_true rfl) dX7_forget_5 ⟨Nat.le_refl _, Nat.le_refl _⟩ (fun H locs hP hD hS => ?_)
  refine lv_if_ne (tgt := 17) hx hb dX7_forget_8 (by decide) (fun c868 => ?_) (fun c868 => ?_)
  · have hf := ifF hf c868
    refine lv_aload_n hx hb dX7_forget_17 rfl (lv_at hl 0 rfl) ?_
    refine fc_get (v := .ref (a 1)) (ci := 4) (C := RX7) (T := TX7) (N := 8) hx hb hwX7 hown hE hP 0 rfl rfl 0 (by decide) hk_fieldLink_RX7_10__BrideNotKnown___now___LBrideNotKnown_Valley__ (fun _ h => h) rfl dX7_forget_18 ?_
    refine lv_iload_n hx hb dX7_forget_21 rfl (lv_at hl 1 rfl) ?_
    obtain ⟨q869, hq869, hf⟩ := bnd hf
    refine fc_callV (Wa' := (cW G a S)) (st1 := [.int q869]) (As := [.int x1]) (rest := []) hCF (k_X6_isUnmarried (sh 1 a) (S 0) x1 hq869) (cwV 1 hts gX7_forget_X6_isUnmarried rfl rfl rfl ⟨rfl, dk_X6_isUnmarried⟩ ⟨Nat.le_of_ble_eq_true rfl, Nat.le_of_ble_eq_true rfl⟩) hE hAB hP hD hS [1, 2, 3, 4, 5, 6, 7, 8] rfl rfl (va_recv hE.1 hP (ci := 3) (q0 := 1) rfl rfl) rfl rfl rfl rfl hl.1 rfl (Nat.le_of_ble_eq_true rfl) dX7_forget_22 ⟨Nat.le_refl _, Nat.le_refl _⟩ (fun H locs hP hD hS => ?_)
    refine lv_if_ne (tgt := 35) hx hb dX7_forget_25 (by decide) (fun c870 => ?_) (fun c870 => ?_)
    · have hf := ifF hf c870
      refine lv_aload_n hx hb dX7_forget_35 rfl (lv_at hl 0 rfl) ?_
      refine fc_get (v := .ref (a 1)) (ci := 4) (C := RX7) (T := TX7) (N := 8) hx hb hwX7 hown hE hP 0 rfl rfl 0 (by decide) hk_fieldLink_RX7_10__BrideNotKnown___now___LBrideNotKnown_Valley__ (fun _ h => h) rfl dX7_forget_36 ?_
      refine lv_iload_n hx hb dX7_forget_39 rfl (lv_at hl 1 rfl) ?_
      obtain ⟨q871, hq871, hf⟩ := bnd hf
      refine fc_callS (Wa' := (cW G a S)) (st1 := [.int q871]) (As := [.ref (a 1), .int x1]) (rest := []) hCF (k_X0_fewestForgotten (sh 1 a) (S 0) x1 hq871) (va_cwS 2 hts gX7_forget_X0_fewestForgotten rfl rfl rfl dk_X0_fewestForgotten ⟨Nat.le_of_ble_eq_true rfl, Nat.le_of_ble_eq_true rfl⟩) hE hAB hP hD hS [1, 2, 3, 4, 5, 6, 7, 8] rfl rfl rfl rfl rfl rfl hl.1 rfl (Nat.le_of_ble_eq_true rfl) dX7_forget_40 ⟨Nat.le_refl _, Nat.le_refl _⟩ (fun H locs hP hD hS => ?_)
      exact fc_reti hx hb hr hlocks hP hS dX7_forget_43 (i2a hf) (congrArg (fun z => (cW G a z)) (i2b hf))
    · have hf := ifT hf c870
      refine lv_aload_n hx hb dX7_forget_28 rfl (lv_at hl 0 rfl) ?_
      refine lv_bipush (v := (-3 : Int32)) hx hb dX7_forget_29 (by decide) ?_
      obtain ⟨q872, hq872, hf⟩ := bnd hf
      refine fc_callV (Wa' := (cW G a q872.2)) (st1 := [.int q872.1]) (As := [.int (-3 : Int32)]) (rest := []) hCF (k_X7_refuse a S (-3 : Int32) hq872) (cwV 1 hts gX7_forget_X7_refuse rfl rfl rfl ⟨rfl, dk_X7_refuse⟩ ⟨Nat.le_of_ble_eq_true rfl, Nat.le_of_ble_eq_true rfl⟩) hE hAB hP hD hS [0, 1, 2, 3, 4, 5, 6, 7, 8, 9, 10, 11, 12, 13, 14, 15, 16, 17, 18, 19, 20, 21, 22, 23, 24, 25, 26, 27, 28, 29, 30, 31] rfl rfl (va_recv hE.1 hP (ci := 4) (q0 := 0) rfl rfl) rfl rfl rfl rfl hl.1 rfl (Nat.le_of_ble_eq_true rfl) dX7_forget_31 ⟨Nat.le_refl _, Nat.le_refl _⟩ (fun H locs hP hD hS => ?_)
      exact fc_reti hx hb hr hlocks hP hS dX7_forget_34 (i2a hf) (congrArg (fun z => (cW G a z)) (i2b hf))
  · have hf := ifT hf c868
    refine lv_aload_n hx hb dX7_forget_11 rfl (lv_at hl 0 rfl) ?_
    refine lv_iconst (v := (-1 : Int32)) hx hb dX7_forget_12 (by decide) ?_
    obtain ⟨q873, hq873, hf⟩ := bnd hf
    refine fc_callV (Wa' := (cW G a q873.2)) (st1 := [.int q873.1]) (As := [.int (-1 : Int32)]) (rest := []) hCF (k_X7_refuse a S (-1 : Int32) hq873) (cwV 1 hts gX7_forget_X7_refuse rfl rfl rfl ⟨rfl, dk_X7_refuse⟩ ⟨Nat.le_of_ble_eq_true rfl, Nat.le_of_ble_eq_true rfl⟩) hE hAB hP hD hS [0, 1, 2, 3, 4, 5, 6, 7, 8, 9, 10, 11, 12, 13, 14, 15, 16, 17, 18, 19, 20, 21, 22, 23, 24, 25, 26, 27, 28, 29, 30, 31] rfl rfl (va_recv hE.1 hP (ci := 4) (q0 := 0) rfl rfl) rfl rfl rfl rfl hl.1 rfl (Nat.le_of_ble_eq_true rfl) dX7_forget_13 ⟨Nat.le_refl _, Nat.le_refl _⟩ (fun H locs hP hD hS => ?_)
    exact fc_reti hx hb hr hlocks hP hS dX7_forget_16 (i2a hf) (congrArg (fun z => (cW G a z)) (i2b hf))
theorem dk_X7_groom : yX7_groom.cls ≠ "java/lang/invoke/MethodHandle" ∧ yX7_groom.cls ≠ "java/lang/invoke/VarHandle" ∧ (parseMethodDescriptor yX7_groom.desc).map (fun d => d.parameters.length) = some 2 := by decide +kernel
theorem iu_X7_groom_X7 : ∀ w ∈ u_ws RX7 TX7 8, w ∈ wsX7_groom := by decide +kernel
set_option maxHeartbeats 4000000 in
set_option maxRecDepth 100000 in
theorem k_X7_groom {l : Launch} {G : Gx} (a : Nat → Nat) (S : (Nat → St)) (x1 : Int32) (x2 : Int32) {r : Int32} {S' : (Nat → St)} (hf : f_X7_groom S x1 x2 = some (r, S')) : FC l G yX7_groom wsX7_groom ({ frames := 4, cells := 0, slots := 0, locals := 99 } : Room) [.ref (a 0), .int x1, .int x2] (cW G a S) (cW G a S') (some (.int r)) := by
  refine fc_head (cc := cX7_groom) (maxL := 3) (ret := (some .int)) (C := RX7) (lv := [(0, .ref (a 0)), (1, .int x1), (2, .int x2)]) (by decide) rfl rfl (Nat.le_of_ble_eq_true rfl) rfl ?_
  intro p e s m below meth c ls A hx hb hr hml hown hts hlocks hE hP hD hAB hS hl
  have hCF : CallFix p m c cX7_groom 3 s ([.ref (a 0), .int x1, .int x2] : List Value).toArray wsX7_groom RX7 := ⟨hx, hb, hml, hown, hts⟩
  have hwX7 : ∀ w ∈ u_ws RX7 TX7 8, w.before ([.ref (a 0), .int x1, .int x2] : List Value).toArray s = true := fun w h => hts w (iu_X7_groom_X7 w h)
  have hk_fieldLink_RX7_10__BrideNotKnown___now___LBrideNotKnown_Valley__ := hts (.fieldLink RX7 10 "BrideNotKnown" "now" "LBrideNotKnown$Valley;") (List.mem_of_getElem? (i := 1) rfl)
  rw [f_X7_groom] at hf
  refine lv_aload_n hx hb dX7_groom_0 rfl (lv_at hl 0 rfl) ?_
  refine fc_get (v := .ref (a 1)) (ci := 4) (C := RX7) (T := TX7) (N := 8) hx hb hwX7 hown hE hP 0 rfl rfl 0 (by decide) hk_fieldLink_RX7_10__BrideNotKnown___now___LBrideNotKnown_Valley__ (fun _ h => h) rfl dX7_groom_1 ?_
  refine lv_iload_n hx hb dX7_groom_4 rfl (lv_at hl 1 rfl) ?_
  obtain ⟨q883, hq883, hf⟩ := bnd hf
  refine fc_callV (Wa' := (cW G a S)) (st1 := [.int q883]) (As := [.int x1]) (rest := []) hCF (k_X6_hasGroom (sh 1 a) (S 0) x1 hq883) (cwV 1 hts gX7_groom_X6_hasGroom rfl rfl rfl ⟨rfl, dk_X6_hasGroom⟩ ⟨Nat.le_of_ble_eq_true rfl, Nat.le_of_ble_eq_true rfl⟩) hE hAB hP hD hS [1, 2, 3, 4, 5, 6, 7, 8] rfl rfl (va_recv hE.1 hP (ci := 3) (q0 := 1) rfl rfl) rfl rfl rfl rfl hl.1 rfl (Nat.le_of_ble_eq_true rfl) dX7_groom_5 ⟨Nat.le_refl _, Nat.le_refl _⟩ (fun H locs hP hD hS => ?_)
  refine lv_if_ne (tgt := 17) hx hb dX7_groom_8 (by decide) (fun c884 => ?_) (fun c884 => ?_)
  · have hf := ifF hf c884
    refine lv_iload_n hx hb dX7_groom_17 rfl (lv_at hl 2 rfl) ?_
    by_cases c885 : x2 = (0 : Int32)
    · have hf := ifT hf c885
      refine lv_tableIn (off := 38) (tgt := 56) hx hb dX7_groom_18 (by rw [c885]; decide) (by rw [c885]; decide) (by rw [c885]; rfl) (by decide) ?_
      refine lv_aload_n hx hb dX7_groom_56 rfl (lv_at hl 0 rfl) ?_
      refine fc_get (v := .ref (a 1)) (ci := 4) (C := RX7) (T := TX7) (N := 8) hx hb hwX7 hown hE hP 0 rfl rfl 0 (by decide) hk_fieldLink_RX7_10__BrideNotKnown___now___LBrideNotKnown_Valley__ (fun _ h => h) rfl dX7_groom_57 ?_
      refine lv_iload_n hx hb dX7_groom_60 rfl (lv_at hl 1 rfl) ?_
      obtain ⟨q886, hq886, hf⟩ := bnd hf
      refine fc_callV (Wa' := (cW G a S)) (st1 := [.int q886]) (As := [.int x1]) (rest := []) hCF (k_X6_lookOf (sh 1 a) (S 0) x1 hq886) (cwV 1 hts gX7_groom_X6_lookOf rfl rfl rfl ⟨rfl, dk_X6_lookOf⟩ ⟨Nat.le_of_ble_eq_true rfl, Nat.le_of_ble_eq_true rfl⟩) hE hAB hP hD hS [1, 2, 3, 4, 5, 6, 7, 8] rfl rfl (va_recv hE.1 hP (ci := 3) (q0 := 1) rfl rfl) rfl rfl rfl rfl hl.1 rfl (Nat.le_of_ble_eq_true rfl) dX7_groom_61 ⟨Nat.le_refl _, Nat.le_refl _⟩ (fun H locs hP hD hS => ?_)
      exact fc_reti hx hb hr hlocks hP hS dX7_groom_64 (i2a hf) (congrArg (fun z => (cW G a z)) (i2b hf))
    · have hf := ifF hf c885
      by_cases c887 : x2 = (1 : Int32)
      · have hf := ifT hf c887
        refine lv_tableIn (off := 47) (tgt := 65) hx hb dX7_groom_18 (by rw [c887]; decide) (by rw [c887]; decide) (by rw [c887]; rfl) (by decide) ?_
        refine lv_aload_n hx hb dX7_groom_65 rfl (lv_at hl 0 rfl) ?_
        refine fc_get (v := .ref (a 1)) (ci := 4) (C := RX7) (T := TX7) (N := 8) hx hb hwX7 hown hE hP 0 rfl rfl 0 (by decide) hk_fieldLink_RX7_10__BrideNotKnown___now___LBrideNotKnown_Valley__ (fun _ h => h) rfl dX7_groom_66 ?_
        refine lv_iload_n hx hb dX7_groom_69 rfl (lv_at hl 1 rfl) ?_
        obtain ⟨q888, hq888, hf⟩ := bnd hf
        refine fc_callV (Wa' := (cW G a S)) (st1 := [.int q888]) (As := [.int x1]) (rest := []) hCF (k_X6_mindOf (sh 1 a) (S 0) x1 hq888) (cwV 1 hts gX7_groom_X6_mindOf rfl rfl rfl ⟨rfl, dk_X6_mindOf⟩ ⟨Nat.le_of_ble_eq_true rfl, Nat.le_of_ble_eq_true rfl⟩) hE hAB hP hD hS [1, 2, 3, 4, 5, 6, 7, 8] rfl rfl (va_recv hE.1 hP (ci := 3) (q0 := 1) rfl rfl) rfl rfl rfl rfl hl.1 rfl (Nat.le_of_ble_eq_true rfl) dX7_groom_70 ⟨Nat.le_refl _, Nat.le_refl _⟩ (fun H locs hP hD hS => ?_)
        exact fc_reti hx hb hr hlocks hP hS dX7_groom_73 (i2a hf) (congrArg (fun z => (cW G a z)) (i2b hf))
      · have hf := ifF hf c887
        by_cases c889 : x2 = (2 : Int32)
        · have hf := ifT hf c889
          refine lv_tableIn (off := 56) (tgt := 74) hx hb dX7_groom_18 (by rw [c889]; decide) (by rw [c889]; decide) (by rw [c889]; rfl) (by decide) ?_
          refine lv_aload_n hx hb dX7_groom_74 rfl (lv_at hl 0 rfl) ?_
          refine fc_get (v := .ref (a 1)) (ci := 4) (C := RX7) (T := TX7) (N := 8) hx hb hwX7 hown hE hP 0 rfl rfl 0 (by decide) hk_fieldLink_RX7_10__BrideNotKnown___now___LBrideNotKnown_Valley__ (fun _ h => h) rfl dX7_groom_75 ?_
          refine lv_iload_n hx hb dX7_groom_78 rfl (lv_at hl 1 rfl) ?_
          obtain ⟨q890, hq890, hf⟩ := bnd hf
          refine fc_callV (Wa' := (cW G a S)) (st1 := [.int q890]) (As := [.int x1]) (rest := []) hCF (k_X6_liquorOf (sh 1 a) (S 0) x1 hq890) (cwV 1 hts gX7_groom_X6_liquorOf rfl rfl rfl ⟨rfl, dk_X6_liquorOf⟩ ⟨Nat.le_of_ble_eq_true rfl, Nat.le_of_ble_eq_true rfl⟩) hE hAB hP hD hS [1, 2, 3, 4, 5, 6, 7, 8] rfl rfl (va_recv hE.1 hP (ci := 3) (q0 := 1) rfl rfl) rfl rfl rfl rfl hl.1 rfl (Nat.le_of_ble_eq_true rfl) dX7_groom_79 ⟨Nat.le_refl _, Nat.le_refl _⟩ (fun H locs hP hD hS => ?_)
          exact fc_reti hx hb hr hlocks hP hS dX7_groom_82 (i2a hf) (congrArg (fun z => (cW G a z)) (i2b hf))
        · have hf := ifF hf c889
          by_cases c891 : x2 = (3 : Int32)
          · have hf := ifT hf c891
            refine lv_tableIn (off := 65) (tgt := 83) hx hb dX7_groom_18 (by rw [c891]; decide) (by rw [c891]; decide) (by rw [c891]; rfl) (by decide) ?_
            refine lv_aload_n hx hb dX7_groom_83 rfl (lv_at hl 0 rfl) ?_
            refine fc_get (v := .ref (a 1)) (ci := 4) (C := RX7) (T := TX7) (N := 8) hx hb hwX7 hown hE hP 0 rfl rfl 0 (by decide) hk_fieldLink_RX7_10__BrideNotKnown___now___LBrideNotKnown_Valley__ (fun _ h => h) rfl dX7_groom_84 ?_
            refine lv_iload_n hx hb dX7_groom_87 rfl (lv_at hl 1 rfl) ?_
            obtain ⟨q892, hq892, hf⟩ := bnd hf
            refine fc_callV (Wa' := (cW G a S)) (st1 := [.int q892]) (As := [.int x1]) (rest := []) hCF (k_X6_isUnmarried (sh 1 a) (S 0) x1 hq892) (cwV 1 hts gX7_groom_X6_isUnmarried rfl rfl rfl ⟨rfl, dk_X6_isUnmarried⟩ ⟨Nat.le_of_ble_eq_true rfl, Nat.le_of_ble_eq_true rfl⟩) hE hAB hP hD hS [1, 2, 3, 4, 5, 6, 7, 8] rfl rfl (va_recv hE.1 hP (ci := 3) (q0 := 1) rfl rfl) rfl rfl rfl rfl hl.1 rfl (Nat.le_of_ble_eq_true rfl) dX7_groom_88 ⟨Nat.le_refl _, Nat.le_refl _⟩ (fun H locs hP hD hS => ?_)
            refine lv_if_eq (tgt := 98) hx hb dX7_groom_91 (by decide) (fun c893 => ?_) (fun c893 => ?_)
            · have hf := ifT hf c893
              refine lv_iconst (v := (1 : Int32)) hx hb dX7_groom_98 (by decide) ?_
              exact fc_reti hx hb hr hlocks hP hS dX7_groom_99 (i2a hf) (congrArg (fun z => (cW G a z)) (i2b hf))
            · have hf := ifF hf c893
              refine lv_iconst (v := (0 : Int32)) hx hb dX7_groom_94 (by decide) ?_
              refine lv_goto (tgt := 99) hx hb dX7_groom_95 (by decide) ?_
              exact fc_reti hx hb hr hlocks hP hS dX7_groom_99 (i2a hf) (congrArg (fun z => (cW G a z)) (i2b hf))
          · have hf := ifF hf c891
            by_cases c894 : x2 = (4 : Int32)
            · have hf := ifT hf c894
              refine lv_tableIn (off := 82) (tgt := 100) hx hb dX7_groom_18 (by rw [c894]; decide) (by rw [c894]; decide) (by rw [c894]; rfl) (by decide) ?_
              refine lv_aload_n hx hb dX7_groom_100 rfl (lv_at hl 0 rfl) ?_
              refine fc_get (v := .ref (a 1)) (ci := 4) (C := RX7) (T := TX7) (N := 8) hx hb hwX7 hown hE hP 0 rfl rfl 0 (by decide) hk_fieldLink_RX7_10__BrideNotKnown___now___LBrideNotKnown_Valley__ (fun _ h => h) rfl dX7_groom_101 ?_
              refine lv_iload_n hx hb dX7_groom_104 rfl (lv_at hl 1 rfl) ?_
              refine lv_iconst (v := (0 : Int32)) hx hb dX7_groom_105 (by decide) ?_
              obtain ⟨q895, hq895, hf⟩ := bnd hf
              refine fc_callV (Wa' := (cW G a S)) (st1 := [.int q895]) (As := [.int x1, .int (0 : Int32)]) (rest := []) hCF (k_X6_guesses (sh 1 a) (S 0) x1 (0 : Int32) hq895) (cwV 2 hts gX7_groom_X6_guesses rfl rfl rfl ⟨rfl, dk_X6_guesses⟩ ⟨Nat.le_of_ble_eq_true rfl, Nat.le_of_ble_eq_true rfl⟩) hE hAB hP hD hS [1, 2, 3, 4, 5, 6, 7, 8] rfl rfl (va_recv hE.1 hP (ci := 3) (q0 := 1) rfl rfl) rfl rfl rfl rfl hl.1 rfl (Nat.le_of_ble_eq_true rfl) dX7_groom_106 ⟨Nat.le_refl _, Nat.le_refl _⟩ (fun H locs hP hD hS => ?_)
              exact fc_reti hx hb hr hlocks hP hS dX7_groom_109 (i2a hf) (congrArg (fun z => (cW G a z)) (i2b hf))
            · have hf := ifF hf c894
              by_cases c896 : x2 = (5 : Int32)
              · have hf := ifT hf c896
                refine lv_tableIn (off := 92) (tgt := 110) hx hb dX7_groom_18 (by rw [c896]; decide) (by rw [c896]; decide) (by rw [c896]; rfl) (by decide) ?_
                refine lv_aload_n hx hb dX7_groom_110 rfl (lv_at hl 0 rfl) ?_
                refine fc_get (v := .ref (a 1)) (ci := 4) (C := RX7) (T := TX7) (N := 8) hx hb hwX7 hown hE hP 0 rfl rfl 0 (by decide) hk_fieldLink_RX7_10__BrideNotKnown___now___LBrideNotKnown_Valley__ (fun _ h => h) rfl dX7_groom_111 ?_
                refine lv_iload_n hx hb dX7_groom_114 rfl (lv_at hl 1 rfl) ?_
                refine lv_iconst (v := (0 : Int32)) hx hb dX7_groom_115 (by decide) ?_
                obtain ⟨q897, hq897, hf⟩ := bnd hf
                refine fc_callV (Wa' := (cW G a S)) (st1 := [.int q897]) (As := [.int x1, .int (0 : Int32)]) (rest := []) hCF (k_X6_knows (sh 1 a) (S 0) x1 (0 : Int32) hq897) (cwV 2 hts gX7_groom_X6_knows rfl rfl rfl ⟨rfl, dk_X6_knows⟩ ⟨Nat.le_of_ble_eq_true rfl, Nat.le_of_ble_eq_true rfl⟩) hE hAB hP hD hS [1, 2, 3, 4, 5, 6, 7, 8] rfl rfl (va_recv hE.1 hP (ci := 3) (q0 := 1) rfl rfl) rfl rfl rfl rfl hl.1 rfl (Nat.le_of_ble_eq_true rfl) dX7_groom_116 ⟨Nat.le_refl _, Nat.le_refl _⟩ (fun H locs hP hD hS => ?_)
                exact fc_reti hx hb hr hlocks hP hS dX7_groom_119 (i2a hf) (congrArg (fun z => (cW G a z)) (i2b hf))
              · have hf := ifF hf c896
                refine lv_tableOut (tgt := 120) hx hb dX7_groom_18 (by have dc885 := lv_neT c885 (a := 0) (by decide); have dc887 := lv_neT c887 (a := 1) (by decide); have dc889 := lv_neT c889 (a := 2) (by decide); have dc891 := lv_neT c891 (a := 3) (by decide); have dc894 := lv_neT c894 (a := 4) (by decide); have dc896 := lv_neT c896 (a := 5) (by decide); omega) (by decide) ?_
                refine lv_aload_n hx hb dX7_groom_120 rfl (lv_at hl 0 rfl) ?_
                refine lv_bipush (v := (-2 : Int32)) hx hb dX7_groom_121 (by decide) ?_
                obtain ⟨q898, hq898, hf⟩ := bnd hf
                refine fc_callV (Wa' := (cW G a q898.2)) (st1 := [.int q898.1]) (As := [.int (-2 : Int32)]) (rest := []) hCF (k_X7_refuse a S (-2 : Int32) hq898) (cwV 1 hts gX7_groom_X7_refuse rfl rfl rfl ⟨rfl, dk_X7_refuse⟩ ⟨Nat.le_of_ble_eq_true rfl, Nat.le_of_ble_eq_true rfl⟩) hE hAB hP hD hS [0, 1, 2, 3, 4, 5, 6, 7, 8, 9, 10, 11, 12, 13, 14, 15, 16, 17, 18, 19, 20, 21, 22, 23, 24, 25, 26, 27, 28, 29, 30, 31] rfl rfl (va_recv hE.1 hP (ci := 4) (q0 := 0) rfl rfl) rfl rfl rfl rfl hl.1 rfl (Nat.le_of_ble_eq_true rfl) dX7_groom_123 ⟨Nat.le_refl _, Nat.le_refl _⟩ (fun H locs hP hD hS => ?_)
                exact fc_reti hx hb hr hlocks hP hS dX7_groom_126 (i2a hf) (congrArg (fun z => (cW G a z)) (i2b hf))
  · have hf := ifT hf c884
    refine lv_aload_n hx hb dX7_groom_11 rfl (lv_at hl 0 rfl) ?_
    refine lv_iconst (v := (-1 : Int32)) hx hb dX7_groom_12 (by decide) ?_
    obtain ⟨q899, hq899, hf⟩ := bnd hf
    refine fc_callV (Wa' := (cW G a q899.2)) (st1 := [.int q899.1]) (As := [.int (-1 : Int32)]) (rest := []) hCF (k_X7_refuse a S (-1 : Int32) hq899) (cwV 1 hts gX7_groom_X7_refuse rfl rfl rfl ⟨rfl, dk_X7_refuse⟩ ⟨Nat.le_of_ble_eq_true rfl, Nat.le_of_ble_eq_true rfl⟩) hE hAB hP hD hS [0, 1, 2, 3, 4, 5, 6, 7, 8, 9, 10, 11, 12, 13, 14, 15, 16, 17, 18, 19, 20, 21, 22, 23, 24, 25, 26, 27, 28, 29, 30, 31] rfl rfl (va_recv hE.1 hP (ci := 4) (q0 := 0) rfl rfl) rfl rfl rfl rfl hl.1 rfl (Nat.le_of_ble_eq_true rfl) dX7_groom_13 ⟨Nat.le_refl _, Nat.le_refl _⟩ (fun H locs hP hD hS => ?_)
    exact fc_reti hx hb hr hlocks hP hS dX7_groom_16 (i2a hf) (congrArg (fun z => (cW G a z)) (i2b hf))
theorem dk_X7_groomThen : yX7_groomThen.cls ≠ "java/lang/invoke/MethodHandle" ∧ yX7_groomThen.cls ≠ "java/lang/invoke/VarHandle" ∧ (parseMethodDescriptor yX7_groomThen.desc).map (fun d => d.parameters.length) = some 3 := by decide +kernel
theorem iu_X7_groomThen_X7 : ∀ w ∈ u_ws RX7 TX7 8, w ∈ wsX7_groomThen := by decide +kernel
set_option maxHeartbeats 4000000 in
set_option maxRecDepth 100000 in
theorem k_X7_groomThen {l : Launch} {G : Gx} (a : Nat → Nat) (S : (Nat → St)) (x1 : Int32) (x2 : Int32) (x3 : Int32) {r : Int32} {S' : (Nat → St)} (hf : f_X7_groomThen S x1 x2 x3 = some (r, S')) : FC l G yX7_groomThen wsX7_groomThen ({ frames := 4, cells := 0, slots := 0, locals := 99 } : Room) [.ref (a 0), .int x1, .int x2, .int x3] (cW G a S) (cW G a S') (some (.int r)) := by
  refine fc_head (cc := cX7_groomThen) (maxL := 5) (ret := (some .int)) (C := RX7) (lv := [(0, .ref (a 0)), (1, .int x1), (2, .int x2), (3, .int x3)]) (by decide) rfl rfl (Nat.le_of_ble_eq_true rfl) rfl ?_
  intro p e s m below meth c ls A hx hb hr hml hown hts hlocks hE hP hD hAB hS hl
  have hCF : CallFix p m c cX7_groomThen 5 s ([.ref (a 0), .int x1, .int x2, .int x3] : List Value).toArray wsX7_groomThen RX7 := ⟨hx, hb, hml, hown, hts⟩
  have hwX7 : ∀ w ∈ u_ws RX7 TX7 8, w.before ([.ref (a 0), .int x1, .int x2, .int x3] : List Value).toArray s = true := fun w h => hts w (iu_X7_groomThen_X7 w h)
  have hk_fieldLink_RX7_10__BrideNotKnown___now___LBrideNotKnown_Valley__ := hts (.fieldLink RX7 10 "BrideNotKnown" "now" "LBrideNotKnown$Valley;") (List.mem_of_getElem? (i := 1) rfl)
  rw [f_X7_groomThen] at hf
  refine lv_aload_n hx hb dX7_groomThen_0 rfl (lv_at hl 0 rfl) ?_
  refine fc_get (v := .ref (a 1)) (ci := 4) (C := RX7) (T := TX7) (N := 8) hx hb hwX7 hown hE hP 0 rfl rfl 0 (by decide) hk_fieldLink_RX7_10__BrideNotKnown___now___LBrideNotKnown_Valley__ (fun _ h => h) rfl dX7_groomThen_1 ?_
  refine lv_iload_n hx hb dX7_groomThen_4 rfl (lv_at hl 1 rfl) ?_
  obtain ⟨q907, hq907, hf⟩ := bnd hf
  refine fc_callV (Wa' := (cW G a S)) (st1 := [.int q907]) (As := [.int x1]) (rest := []) hCF (k_X6_hasGroom (sh 1 a) (S 0) x1 hq907) (cwV 1 hts gX7_groomThen_X6_hasGroom rfl rfl rfl ⟨rfl, dk_X6_hasGroom⟩ ⟨Nat.le_of_ble_eq_true rfl, Nat.le_of_ble_eq_true rfl⟩) hE hAB hP hD hS [1, 2, 3, 4, 5, 6, 7, 8] rfl rfl (va_recv hE.1 hP (ci := 3) (q0 := 1) rfl rfl) rfl rfl rfl rfl hl.1 rfl (Nat.le_of_ble_eq_true rfl) dX7_groomThen_5 ⟨Nat.le_refl _, Nat.le_refl _⟩ (fun H locs hP hD hS => ?_)
  refine lv_iload_n hx hb dX7_groomThen_8 rfl (lv_at hl 2 rfl) ?_
  refine lv_iconst (v := (0 : Int32)) hx hb dX7_groomThen_9 (by decide) ?_
  refine lv_bipush (v := (60 : Int32)) hx hb dX7_groomThen_10 (by decide) ?_
  obtain ⟨q908, hq908, hf⟩ := bnd hf
  refine fc_callS (Wa' := (cW G a S)) (st1 := [.int q908]) (As := [.int q907, .int x2, .int (0 : Int32), .int (60 : Int32)]) (rest := []) hCF (k_X7_refusalOf q907 x2 (0 : Int32) (60 : Int32) hq908) (va_cwS 4 hts gX7_groomThen_X7_refusalOf rfl rfl rfl dk_X7_refusalOf ⟨Nat.le_of_ble_eq_true rfl, Nat.le_of_ble_eq_true rfl⟩) hE hAB hP hD hS [] rfl rfl rfl rfl rfl rfl hl.1 rfl (Nat.le_of_ble_eq_true rfl) dX7_groomThen_12 ⟨Nat.le_refl _, Nat.le_refl _⟩ (fun H locs hP hD hS => ?_)
  refine lv_istore (lv' := [(4, .int q908), (0, .ref (a 0)), (1, .int x1), (2, .int x2), (3, .int x3)]) hx hb dX7_groomThen_15 hl (by decide) rfl (fun ls hl => ?_)
  refine lv_iload hx hb dX7_groomThen_17 (lv_at hl 0 rfl) ?_
  refine lv_if_eq (tgt := 29) hx hb dX7_groomThen_19 (by decide) (fun c909 => ?_) (fun c909 => ?_)
  · have hf := ifT hf c909
    refine lv_iload_n hx hb dX7_groomThen_29 rfl (lv_at hl 4 rfl) ?_
    obtain ⟨q910, hq910, hf⟩ := bnd hf
    refine fc_callS (Wa' := (cW G a S)) (st1 := [.int q910]) (As := [.int x3]) (rest := []) hCF (k_X7_isNotEither x3 hq910) (va_cwS 1 hts gX7_groomThen_X7_isNotEither rfl rfl rfl dk_X7_isNotEither ⟨Nat.le_of_ble_eq_true rfl, Nat.le_of_ble_eq_true rfl⟩) hE hAB hP hD hS [] rfl rfl rfl rfl rfl rfl hl.1 rfl (Nat.le_of_ble_eq_true rfl) dX7_groomThen_30 ⟨Nat.le_refl _, Nat.le_refl _⟩ (fun H locs hP hD hS => ?_)
    refine lv_if_eq (tgt := 43) hx hb dX7_groomThen_33 (by decide) (fun c911 => ?_) (fun c911 => ?_)
    · have hf := ifT hf c911
      refine lv_iload_n hx hb dX7_groomThen_43 rfl (lv_at hl 4 rfl) ?_
      refine lv_if_ne (tgt := 59) hx hb dX7_groomThen_44 (by decide) (fun c912 => ?_) (fun c912 => ?_)
      · have hf := ifF hf c912
        refine lv_aload_n hx hb dX7_groomThen_59 rfl (lv_at hl 1 rfl) ?_
        refine fc_get (v := .ref (a 1)) (ci := 4) (C := RX7) (T := TX7) (N := 8) hx hb hwX7 hown hE hP 0 rfl rfl 0 (by decide) hk_fieldLink_RX7_10__BrideNotKnown___now___LBrideNotKnown_Valley__ (fun _ h => h) rfl dX7_groomThen_60 ?_
        refine lv_iload_n hx hb dX7_groomThen_63 rfl (lv_at hl 2 rfl) ?_
        refine lv_iload_n hx hb dX7_groomThen_64 rfl (lv_at hl 3 rfl) ?_
        obtain ⟨q913, hq913, hf⟩ := bnd hf
        refine fc_callV (Wa' := (cW G a S)) (st1 := [.int q913]) (As := [.int x1, .int x2]) (rest := []) hCF (k_X6_knows (sh 1 a) (S 0) x1 x2 hq913) (cwV 2 hts gX7_groomThen_X6_knows rfl rfl rfl ⟨rfl, dk_X6_knows⟩ ⟨Nat.le_of_ble_eq_true rfl, Nat.le_of_ble_eq_true rfl⟩) hE hAB hP hD hS [1, 2, 3, 4, 5, 6, 7, 8] rfl rfl (va_recv hE.1 hP (ci := 3) (q0 := 1) rfl rfl) rfl rfl rfl rfl hl.1 rfl (Nat.le_of_ble_eq_true rfl) dX7_groomThen_65 ⟨Nat.le_refl _, Nat.le_refl _⟩ (fun H locs hP hD hS => ?_)
        exact fc_reti hx hb hr hlocks hP hS dX7_groomThen_68 (i2a hf) (congrArg (fun z => (cW G a z)) (i2b hf))
      · have hf := ifT hf c912
        refine lv_aload_n hx hb dX7_groomThen_47 rfl (lv_at hl 1 rfl) ?_
        refine fc_get (v := .ref (a 1)) (ci := 4) (C := RX7) (T := TX7) (N := 8) hx hb hwX7 hown hE hP 0 rfl rfl 0 (by decide) hk_fieldLink_RX7_10__BrideNotKnown___now___LBrideNotKnown_Valley__ (fun _ h => h) rfl dX7_groomThen_48 ?_
        refine lv_iload_n hx hb dX7_groomThen_51 rfl (lv_at hl 2 rfl) ?_
        refine lv_iload_n hx hb dX7_groomThen_52 rfl (lv_at hl 3 rfl) ?_
        obtain ⟨q914, hq914, hf⟩ := bnd hf
        refine fc_callV (Wa' := (cW G a S)) (st1 := [.int q914]) (As := [.int x1, .int x2]) (rest := []) hCF (k_X6_guesses (sh 1 a) (S 0) x1 x2 hq914) (cwV 2 hts gX7_groomThen_X6_guesses rfl rfl rfl ⟨rfl, dk_X6_guesses⟩ ⟨Nat.le_of_ble_eq_true rfl, Nat.le_of_ble_eq_true rfl⟩) hE hAB hP hD hS [1, 2, 3, 4, 5, 6, 7, 8] rfl rfl (va_recv hE.1 hP (ci := 3) (q0 := 1) rfl rfl) rfl rfl rfl rfl hl.1 rfl (Nat.le_of_ble_eq_true rfl) dX7_groomThen_53 ⟨Nat.le_refl _, Nat.le_refl _⟩ (fun H locs hP hD hS => ?_)
        refine lv_goto (tgt := 68) hx hb dX7_groomThen_56 (by decide) ?_
        exact fc_reti hx hb hr hlocks hP hS dX7_groomThen_68 (i2a hf) (congrArg (fun z => (cW G a z)) (i2b hf))
    · have hf := ifF hf c911
      refine lv_aload_n hx hb dX7_groomThen_36 rfl (lv_at hl 1 rfl) ?_
      refine lv_bipush (v := (-2 : Int32)) hx hb dX7_groomThen_37 (by decide) ?_
      obtain ⟨q915, hq915, hf⟩ := bnd hf
      refine fc_callV (Wa' := (cW G a q915.2)) (st1 := [.int q915.1]) (As := [.int (-2 : Int32)]) (rest := []) hCF (k_X7_refuse a S (-2 : Int32) hq915) (cwV 1 hts gX7_groomThen_X7_refuse rfl rfl rfl ⟨rfl, dk_X7_refuse⟩ ⟨Nat.le_of_ble_eq_true rfl, Nat.le_of_ble_eq_true rfl⟩) hE hAB hP hD hS [0, 1, 2, 3, 4, 5, 6, 7, 8, 9, 10, 11, 12, 13, 14, 15, 16, 17, 18, 19, 20, 21, 22, 23, 24, 25, 26, 27, 28, 29, 30, 31] rfl rfl (va_recv hE.1 hP (ci := 4) (q0 := 0) rfl rfl) rfl rfl rfl rfl hl.1 rfl (Nat.le_of_ble_eq_true rfl) dX7_groomThen_39 ⟨Nat.le_refl _, Nat.le_refl _⟩ (fun H locs hP hD hS => ?_)
      exact fc_reti hx hb hr hlocks hP hS dX7_groomThen_42 (i2a hf) (congrArg (fun z => (cW G a z)) (i2b hf))
  · have hf := ifF hf c909
    refine lv_aload_n hx hb dX7_groomThen_22 rfl (lv_at hl 1 rfl) ?_
    refine lv_iload hx hb dX7_groomThen_23 (lv_at hl 0 rfl) ?_
    obtain ⟨q916, hq916, hf⟩ := bnd hf
    refine fc_callV (Wa' := (cW G a q916.2)) (st1 := [.int q916.1]) (As := [.int q908]) (rest := []) hCF (k_X7_refuse a S q908 hq916) (cwV 1 hts gX7_groomThen_X7_refuse rfl rfl rfl ⟨rfl, dk_X7_refuse⟩ ⟨Nat.le_of_ble_eq_true rfl, Nat.le_of_ble_eq_true rfl⟩) hE hAB hP hD hS [0, 1, 2, 3, 4, 5, 6, 7, 8, 9, 10, 11, 12, 13, 14, 15, 16, 17, 18, 19, 20, 21, 22, 23, 24, 25, 26, 27, 28, 29, 30, 31] rfl rfl (va_recv hE.1 hP (ci := 4) (q0 := 0) rfl rfl) rfl rfl rfl rfl hl.1 rfl (Nat.le_of_ble_eq_true rfl) dX7_groomThen_25 ⟨Nat.le_refl _, Nat.le_refl _⟩ (fun H locs hP hD hS => ?_)
    exact fc_reti hx hb hr hlocks hP hS dX7_groomThen_28 (i2a hf) (congrArg (fun z => (cW G a z)) (i2b hf))
theorem dk_X7_hide : yX7_hide.cls ≠ "java/lang/invoke/MethodHandle" ∧ yX7_hide.cls ≠ "java/lang/invoke/VarHandle" ∧ (parseMethodDescriptor yX7_hide.desc).map (fun d => d.parameters.length) = some 1 := by decide +kernel
theorem iu_X7_hide_X7 : ∀ w ∈ u_ws RX7 TX7 8, w ∈ wsX7_hide := by decide +kernel
set_option maxHeartbeats 4000000 in
set_option maxRecDepth 100000 in
theorem k_X7_hide {l : Launch} {G : Gx} (a : Nat → Nat) (S : (Nat → St)) (x1 : Int32) {r : Int32} {S' : (Nat → St)} (hf : f_X7_hide S x1 = some (r, S')) : FC l G yX7_hide wsX7_hide ({ frames := 6, cells := 0, slots := 0, locals := 148 } : Room) [.ref (a 0), .int x1] (cW G a S) (cW G a S') (some (.int r)) := by
  refine fc_head (cc := cX7_hide) (maxL := 2) (ret := (some .int)) (C := RX7) (lv := [(0, .ref (a 0)), (1, .int x1)]) (by decide) rfl rfl (Nat.le_of_ble_eq_true rfl) rfl ?_
  intro p e s m below meth c ls A hx hb hr hml hown hts hlocks hE hP hD hAB hS hl
  have hCF : CallFix p m c cX7_hide 2 s ([.ref (a 0), .int x1] : List Value).toArray wsX7_hide RX7 := ⟨hx, hb, hml, hown, hts⟩
  have hwX7 : ∀ w ∈ u_ws RX7 TX7 8, w.before ([.ref (a 0), .int x1] : List Value).toArray s = true := fun w h => hts w (iu_X7_hide_X7 w h)
  have hk_fieldLink_RX7_10__BrideNotKnown___now___LBrideNotKnown_Valley__ := hts (.fieldLink RX7 10 "BrideNotKnown" "now" "LBrideNotKnown$Valley;") (List.mem_of_getElem? (i := 1) rfl)
  have hk_fieldLink_RX7_16__BrideNotKnown___thought___LBrideNotKnown_Valley__ := hts (.fieldLink RX7 16 "BrideNotKnown" "thought" "LBrideNotKnown$Valley;") (List.mem_of_getElem? (i := 2) rfl)
  rw [f_X7_hide] at hf
  refine lv_aload_n hx hb dX7_hide_0 rfl (lv_at hl 0 rfl) ?_
  refine fc_get (v := .ref (a 1)) (ci := 4) (C := RX7) (T := TX7) (N := 8) hx hb hwX7 hown hE hP 0 rfl rfl 0 (by decide) hk_fieldLink_RX7_10__BrideNotKnown___now___LBrideNotKnown_Valley__ (fun _ h => h) rfl dX7_hide_1 ?_
  refine lv_iload_n hx hb dX7_hide_4 rfl (lv_at hl 1 rfl) ?_
  obtain ⟨q922, hq922, hf⟩ := bnd hf
  refine fc_callV (Wa' := (cW G a S)) (st1 := [.int q922]) (As := [.int x1]) (rest := []) hCF (k_X6_hasBride (sh 1 a) (S 0) x1 hq922) (cwV 1 hts gX7_hide_X6_hasBride rfl rfl rfl ⟨rfl, dk_X6_hasBride⟩ ⟨Nat.le_of_ble_eq_true rfl, Nat.le_of_ble_eq_true rfl⟩) hE hAB hP hD hS [1, 2, 3, 4, 5, 6, 7, 8] rfl rfl (va_recv hE.1 hP (ci := 3) (q0 := 1) rfl rfl) rfl rfl rfl rfl hl.1 rfl (Nat.le_of_ble_eq_true rfl) dX7_hide_5 ⟨Nat.le_refl _, Nat.le_refl _⟩ (fun H locs hP hD hS => ?_)
  refine lv_if_ne (tgt := 17) hx hb dX7_hide_8 (by decide) (fun c923 => ?_) (fun c923 => ?_)
  · have hf := ifF hf c923
    refine lv_aload_n hx hb dX7_hide_17 rfl (lv_at hl 0 rfl) ?_
    refine fc_get (v := .ref (a 1)) (ci := 4) (C := RX7) (T := TX7) (N := 8) hx hb hwX7 hown hE hP 0 rfl rfl 0 (by decide) hk_fieldLink_RX7_10__BrideNotKnown___now___LBrideNotKnown_Valley__ (fun _ h => h) rfl dX7_hide_18 ?_
    refine lv_iload_n hx hb dX7_hide_21 rfl (lv_at hl 1 rfl) ?_
    obtain ⟨q924, hq924, hf⟩ := bnd hf
    refine fc_callV (Wa' := (cW G a S)) (st1 := [.int q924]) (As := [.int x1]) (rest := []) hCF (k_X6_isHere (sh 1 a) (S 0) x1 hq924) (cwV 1 hts gX7_hide_X6_isHere rfl rfl rfl ⟨rfl, dk_X6_isHere⟩ ⟨Nat.le_of_ble_eq_true rfl, Nat.le_of_ble_eq_true rfl⟩) hE hAB hP hD hS [1, 2, 3, 4, 5, 6, 7, 8] rfl rfl (va_recv hE.1 hP (ci := 3) (q0 := 1) rfl rfl) rfl rfl rfl rfl hl.1 rfl (Nat.le_of_ble_eq_true rfl) dX7_hide_22 ⟨Nat.le_refl _, Nat.le_refl _⟩ (fun H locs hP hD hS => ?_)
    refine lv_if_ne (tgt := 35) hx hb dX7_hide_25 (by decide) (fun c925 => ?_) (fun c925 => ?_)
    · have hf := ifF hf c925
      refine lv_aload_n hx hb dX7_hide_35 rfl (lv_at hl 0 rfl) ?_
      refine fc_get (v := .ref (a 1)) (ci := 4) (C := RX7) (T := TX7) (N := 8) hx hb hwX7 hown hE hP 0 rfl rfl 0 (by decide) hk_fieldLink_RX7_10__BrideNotKnown___now___LBrideNotKnown_Valley__ (fun _ h => h) rfl dX7_hide_36 ?_
      refine lv_aload_n hx hb dX7_hide_39 rfl (lv_at hl 0 rfl) ?_
      refine fc_get (v := .ref (a 9)) (ci := 4) (C := RX7) (T := TX7) (N := 8) hx hb hwX7 hown hE hP 0 rfl rfl 1 (by decide) hk_fieldLink_RX7_16__BrideNotKnown___thought___LBrideNotKnown_Valley__ (fun _ h => h) rfl dX7_hide_40 ?_
      refine lv_iload_n hx hb dX7_hide_43 rfl (lv_at hl 1 rfl) ?_
      obtain ⟨q926, hq926, hf⟩ := bnd hf
      refine fc_callS (Wa' := (cW G a (sS S 1 q926.2))) (st1 := [.int q926.1]) (As := [.ref (a 1), .ref (a 9), .int x1]) (rest := []) hCF (k_X0_fewestToes (sh 1 a) (S 0) (sh 9 a) (S 1) x1 hq926) (va_cwS 3 hts gX7_hide_X0_fewestToes rfl rfl rfl dk_X0_fewestToes ⟨Nat.le_of_ble_eq_true rfl, Nat.le_of_ble_eq_true rfl⟩) hE hAB hP hD hS [1, 2, 3, 4, 5, 6, 7, 8, 9, 10, 11, 12, 13, 14, 15, 16] rfl rfl rfl rfl rfl rfl hl.1 rfl (Nat.le_of_ble_eq_true rfl) dX7_hide_44 ⟨Nat.le_refl _, Nat.le_refl _⟩ (fun H locs hP hD hS => ?_)
      exact fc_reti hx hb hr hlocks hP hS dX7_hide_47 (i2a hf) (congrArg (fun z => (cW G a z)) (i2b hf))
    · have hf := ifT hf c925
      refine lv_aload_n hx hb dX7_hide_28 rfl (lv_at hl 0 rfl) ?_
      refine lv_bipush (v := (-3 : Int32)) hx hb dX7_hide_29 (by decide) ?_
      obtain ⟨q927, hq927, hf⟩ := bnd hf
      refine fc_callV (Wa' := (cW G a q927.2)) (st1 := [.int q927.1]) (As := [.int (-3 : Int32)]) (rest := []) hCF (k_X7_refuse a S (-3 : Int32) hq927) (cwV 1 hts gX7_hide_X7_refuse rfl rfl rfl ⟨rfl, dk_X7_refuse⟩ ⟨Nat.le_of_ble_eq_true rfl, Nat.le_of_ble_eq_true rfl⟩) hE hAB hP hD hS [0, 1, 2, 3, 4, 5, 6, 7, 8, 9, 10, 11, 12, 13, 14, 15, 16, 17, 18, 19, 20, 21, 22, 23, 24, 25, 26, 27, 28, 29, 30, 31] rfl rfl (va_recv hE.1 hP (ci := 4) (q0 := 0) rfl rfl) rfl rfl rfl rfl hl.1 rfl (Nat.le_of_ble_eq_true rfl) dX7_hide_31 ⟨Nat.le_refl _, Nat.le_refl _⟩ (fun H locs hP hD hS => ?_)
      exact fc_reti hx hb hr hlocks hP hS dX7_hide_34 (i2a hf) (congrArg (fun z => (cW G a z)) (i2b hf))
  · have hf := ifT hf c923
    refine lv_aload_n hx hb dX7_hide_11 rfl (lv_at hl 0 rfl) ?_
    refine lv_iconst (v := (-1 : Int32)) hx hb dX7_hide_12 (by decide) ?_
    obtain ⟨q928, hq928, hf⟩ := bnd hf
    refine fc_callV (Wa' := (cW G a q928.2)) (st1 := [.int q928.1]) (As := [.int (-1 : Int32)]) (rest := []) hCF (k_X7_refuse a S (-1 : Int32) hq928) (cwV 1 hts gX7_hide_X7_refuse rfl rfl rfl ⟨rfl, dk_X7_refuse⟩ ⟨Nat.le_of_ble_eq_true rfl, Nat.le_of_ble_eq_true rfl⟩) hE hAB hP hD hS [0, 1, 2, 3, 4, 5, 6, 7, 8, 9, 10, 11, 12, 13, 14, 15, 16, 17, 18, 19, 20, 21, 22, 23, 24, 25, 26, 27, 28, 29, 30, 31] rfl rfl (va_recv hE.1 hP (ci := 4) (q0 := 0) rfl rfl) rfl rfl rfl rfl hl.1 rfl (Nat.le_of_ble_eq_true rfl) dX7_hide_13 ⟨Nat.le_refl _, Nat.le_refl _⟩ (fun H locs hP hD hS => ?_)
    exact fc_reti hx hb hr hlocks hP hS dX7_hide_16 (i2a hf) (congrArg (fun z => (cW G a z)) (i2b hf))
theorem dk_X7_image : yX7_image.cls ≠ "java/lang/invoke/MethodHandle" ∧ yX7_image.cls ≠ "java/lang/invoke/VarHandle" ∧ (parseMethodDescriptor yX7_image.desc).map (fun d => d.parameters.length) = some 0 := by decide +kernel
theorem iu_X7_image_X6 : ∀ w ∈ u_ws RX6 TX6 12, w ∈ wsX7_image := by decide +kernel
theorem iu_X7_image_X7 : ∀ w ∈ u_ws RX7 TX7 8, w ∈ wsX7_image := by decide +kernel
set_option maxHeartbeats 4000000 in
set_option maxRecDepth 100000 in
theorem k_X7_image {l : Launch} {G : Gx} (a : Nat → Nat) (S : (Nat → St)) {r : Int32} {S' : (Nat → St)} (hf : f_X7_image S = some (r, S')) : FC l G yX7_image wsX7_image ({ frames := 2, cells := 0, slots := 0, locals := 43 } : Room) [.ref (a 0)] (cW G a S) (cW G a S') (some (.int r)) := by
  refine fc_head (cc := cX7_image) (maxL := 1) (ret := (some .int)) (C := RX7) (lv := [(0, .ref (a 0))]) (by decide) rfl rfl (Nat.le_of_ble_eq_true rfl) rfl ?_
  intro p e s m below meth c ls A hx hb hr hml hown hts hlocks hE hP hD hAB hS hl
  have hCF : CallFix p m c cX7_image 1 s ([.ref (a 0)] : List Value).toArray wsX7_image RX7 := ⟨hx, hb, hml, hown, hts⟩
  have hwX6 : ∀ w ∈ u_ws RX6 TX6 12, w.before ([.ref (a 0)] : List Value).toArray s = true := fun w h => hts w (iu_X7_image_X6 w h)
  have hwX7 : ∀ w ∈ u_ws RX7 TX7 8, w.before ([.ref (a 0)] : List Value).toArray s = true := fun w h => hts w (iu_X7_image_X7 w h)
  have hk_fieldLink_RX7_19__BrideNotKnown___kept___LBrideNotKnown_Valley__ := hts (.fieldLink RX7 19 "BrideNotKnown" "kept" "LBrideNotKnown$Valley;") (List.mem_of_getElem? (i := 1) rfl)
  have hk_fieldLink_RX7_10__BrideNotKnown___now___LBrideNotKnown_Valley__ := hts (.fieldLink RX7 10 "BrideNotKnown" "now" "LBrideNotKnown$Valley;") (List.mem_of_getElem? (i := 2) rfl)
  have hk_fieldLink_RX7_270__BrideNotKnown___imageTaken___Z_ := hts (.fieldLink RX7 270 "BrideNotKnown" "imageTaken" "Z") (List.mem_of_getElem? (i := 3) rfl)
  have hk_fieldLink_RX7_274__BrideNotKnown_Valley___year___I_ := hts (.fieldLink RX7 274 "BrideNotKnown$Valley" "year" "I") (List.mem_of_getElem? (i := 4) rfl)
  rw [f_X7_image] at hf
  refine lv_aload_n hx hb dX7_image_0 rfl (lv_at hl 0 rfl) ?_
  refine fc_get (v := .ref (a 17)) (ci := 4) (C := RX7) (T := TX7) (N := 8) hx hb hwX7 hown hE hP 0 rfl rfl 2 (by decide) hk_fieldLink_RX7_19__BrideNotKnown___kept___LBrideNotKnown_Valley__ (fun _ h => h) rfl dX7_image_1 ?_
  refine lv_aload_n hx hb dX7_image_4 rfl (lv_at hl 0 rfl) ?_
  refine fc_get (v := .ref (a 1)) (ci := 4) (C := RX7) (T := TX7) (N := 8) hx hb hwX7 hown hE hP 0 rfl rfl 0 (by decide) hk_fieldLink_RX7_10__BrideNotKnown___now___LBrideNotKnown_Valley__ (fun _ h => h) rfl dX7_image_5 ?_
  obtain ⟨q930, hq930, hf⟩ := bnd hf
  refine fc_callV (Wa' := (cW G a (sS S 2 q930))) (st1 := []) (As := [.ref (a 1)]) (rest := []) hCF (k_X6_become (sh 17 a) (S 2) (sh 1 a) (S 0) hq930) (cwV 1 hts gX7_image_X6_become rfl rfl rfl ⟨rfl, dk_X6_become⟩ ⟨Nat.le_of_ble_eq_true rfl, Nat.le_of_ble_eq_true rfl⟩) hE hAB hP hD hS [17, 18, 19, 20, 21, 22, 23, 24, 1, 2, 3, 4, 5, 6, 7, 8] rfl rfl (va_recv hE.1 hP (ci := 3) (q0 := 17) rfl rfl) rfl rfl rfl rfl hl.1 rfl (Nat.le_of_ble_eq_true rfl) dX7_image_8 ⟨Nat.le_refl _, Nat.le_refl _⟩ (fun H locs hP hD hS => ?_)
  refine lv_aload_n hx hb dX7_image_11 rfl (lv_at hl 0 rfl) ?_
  refine lv_iconst (v := (1 : Int32)) hx hb dX7_image_12 (by decide) ?_
  refine fc_put (Wa' := (cW G a (sS (sS S 2 q930) 6 (sA (S 6) 1 (upd ((S 6) 1) 0 (1 : Int32)))))) (ci := 4) (C := RX7) (T := TX7) (N := 8) hx hb hwX7 tyX7 tyX7_ok nmX7 hown hE hP hD hS 0 rfl rfl 3 (by decide) hk_fieldLink_RX7_270__BrideNotKnown___imageTaken___Z_ (fun _ h => h) rfl (by decide) (by decide) (Nat.le_of_ble_eq_true rfl) dX7_image_13 rfl (fun H locs hP hD hS => ?_)
  refine lv_aload_n hx hb dX7_image_16 rfl (lv_at hl 0 rfl) ?_
  refine fc_get (v := .ref (a 1)) (ci := 4) (C := RX7) (T := TX7) (N := 8) hx hb hwX7 hown hE hP 0 rfl rfl 0 (by decide) hk_fieldLink_RX7_10__BrideNotKnown___now___LBrideNotKnown_Valley__ (fun _ h => h) rfl dX7_image_17 ?_
  refine fc_get (v := .int ((S 0) 7 0)) (ci := 3) (C := RX6) (T := TX6) (N := 12) hx hb hwX6 hown hE hP 1 rfl rfl 0 (by decide) hk_fieldLink_RX7_274__BrideNotKnown_Valley___year___I_ (fun _ h => h) rfl dX7_image_20 ?_
  exact fc_reti hx hb hr hlocks hP hS dX7_image_23 (i2a hf) (congrArg (fun z => (cW G a z)) (i2b hf))
theorem dk_X7_judge : yX7_judge.cls ≠ "java/lang/invoke/MethodHandle" ∧ yX7_judge.cls ≠ "java/lang/invoke/VarHandle" ∧ (parseMethodDescriptor yX7_judge.desc).map (fun d => d.parameters.length) = some 0 := by decide +kernel
theorem iu_X7_judge_X7 : ∀ w ∈ u_ws RX7 TX7 8, w ∈ wsX7_judge := by decide +kernel
set_option maxHeartbeats 4000000 in
set_option maxRecDepth 100000 in
theorem k_X7_judge {l : Launch} {G : Gx} (a : Nat → Nat) (S : (Nat → St)) {r : Int32} {S' : (Nat → St)} (hf : f_X7_judge S = some (r, S')) : FC l G yX7_judge wsX7_judge ({ frames := 5, cells := 0, slots := 0, locals := 122 } : Room) [.ref (a 0)] (cW G a S) (cW G a S') (some (.int r)) := by
  refine fc_head (cc := cX7_judge) (maxL := 2) (ret := (some .int)) (C := RX7) (lv := [(0, .ref (a 0))]) (by decide) rfl rfl (Nat.le_of_ble_eq_true rfl) rfl ?_
  intro p e s m below meth c ls A hx hb hr hml hown hts hlocks hE hP hD hAB hS hl
  have hCF : CallFix p m c cX7_judge 2 s ([.ref (a 0)] : List Value).toArray wsX7_judge RX7 := ⟨hx, hb, hml, hown, hts⟩
  have hwX7 : ∀ w ∈ u_ws RX7 TX7 8, w.before ([.ref (a 0)] : List Value).toArray s = true := fun w h => hts w (iu_X7_judge_X7 w h)
  have hk_fieldLink_RX7_32__BrideNotKnown___numbers___LBrideNotKnown_Row__ := hts (.fieldLink RX7 32 "BrideNotKnown" "numbers" "LBrideNotKnown$Row;") (List.mem_of_getElem? (i := 1) rfl)
  have hk_fieldLink_RX7_10__BrideNotKnown___now___LBrideNotKnown_Valley__ := hts (.fieldLink RX7 10 "BrideNotKnown" "now" "LBrideNotKnown$Valley;") (List.mem_of_getElem? (i := 2) rfl)
  rw [f_X7_judge] at hf
  refine lv_aload_n hx hb dX7_judge_0 rfl (lv_at hl 0 rfl) ?_
  refine fc_get (v := .ref (a 27)) (ci := 4) (C := RX7) (T := TX7) (N := 8) hx hb hwX7 hown hE hP 0 rfl rfl 5 (by decide) hk_fieldLink_RX7_32__BrideNotKnown___numbers___LBrideNotKnown_Row__ (fun _ h => h) rfl dX7_judge_1 ?_
  refine lv_aload_n hx hb dX7_judge_4 rfl (lv_at hl 0 rfl) ?_
  refine fc_get (v := .ref (a 1)) (ci := 4) (C := RX7) (T := TX7) (N := 8) hx hb hwX7 hown hE hP 0 rfl rfl 0 (by decide) hk_fieldLink_RX7_10__BrideNotKnown___now___LBrideNotKnown_Valley__ (fun _ h => h) rfl dX7_judge_5 ?_
  obtain ⟨q933, hq933, hf⟩ := bnd hf
  refine fc_callV (Wa' := (cW G a S)) (st1 := [.int q933]) (As := [.ref (a 1)]) (rest := []) hCF (k_X4_firstWrongGuess (sh 27 a) (S 4) (sh 1 a) (S 0) hq933) (cwV 1 hts gX7_judge_X4_firstWrongGuess rfl rfl rfl ⟨rfl, dk_X4_firstWrongGuess⟩ ⟨Nat.le_of_ble_eq_true rfl, Nat.le_of_ble_eq_true rfl⟩) hE hAB hP hD hS [27, 28, 1, 2, 3, 4, 5, 6, 7, 8] rfl rfl (va_recv hE.1 hP (ci := 1) (q0 := 27) rfl rfl) rfl rfl rfl rfl hl.1 rfl (Nat.le_of_ble_eq_true rfl) dX7_judge_8 ⟨Nat.le_refl _, Nat.le_refl _⟩ (fun H locs hP hD hS => ?_)
  refine lv_istore_n (lv' := [(1, .int q933), (0, .ref (a 0))]) hx hb dX7_judge_11 rfl hl (by decide) rfl (fun ls hl => ?_)
  refine lv_aload_n hx hb dX7_judge_12 rfl (lv_at hl 1 rfl) ?_
  refine fc_get (v := .ref (a 27)) (ci := 4) (C := RX7) (T := TX7) (N := 8) hx hb hwX7 hown hE hP 0 rfl rfl 5 (by decide) hk_fieldLink_RX7_32__BrideNotKnown___numbers___LBrideNotKnown_Row__ (fun _ h => h) rfl dX7_judge_13 ?_
  obtain ⟨q934, hq934, hf⟩ := bnd hf
  refine fc_callV (Wa' := (cW G a (sS S 4 q934))) (st1 := []) (As := []) (rest := []) hCF (k_X4_empty (sh 27 a) (S 4) hq934) (cwV 0 hts gX7_judge_X4_empty rfl rfl rfl ⟨rfl, dk_X4_empty⟩ ⟨Nat.le_of_ble_eq_true rfl, Nat.le_of_ble_eq_true rfl⟩) hE hAB hP hD hS [27, 28] rfl rfl (va_recv hE.1 hP (ci := 1) (q0 := 27) rfl rfl) rfl rfl rfl rfl hl.1 rfl (Nat.le_of_ble_eq_true rfl) dX7_judge_16 ⟨Nat.le_refl _, Nat.le_refl _⟩ (fun H locs hP hD hS => ?_)
  refine lv_iload_n hx hb dX7_judge_19 rfl (lv_at hl 0 rfl) ?_
  exact fc_reti hx hb hr hlocks hP hS dX7_judge_20 (i2a hf) (congrArg (fun z => (cW G a z)) (i2b hf))
theorem dk_X7_known : yX7_known.cls ≠ "java/lang/invoke/MethodHandle" ∧ yX7_known.cls ≠ "java/lang/invoke/VarHandle" ∧ (parseMethodDescriptor yX7_known.desc).map (fun d => d.parameters.length) = some 1 := by decide +kernel
theorem iu_X7_known_X7 : ∀ w ∈ u_ws RX7 TX7 8, w ∈ wsX7_known := by decide +kernel
set_option maxHeartbeats 4000000 in
set_option maxRecDepth 100000 in
theorem k_X7_known {l : Launch} {G : Gx} (a : Nat → Nat) (S : (Nat → St)) (x1 : Int32) {r : Int32} {S' : (Nat → St)} (hf : f_X7_known S x1 = some (r, S')) : FC l G yX7_known wsX7_known ({ frames := 5, cells := 0, slots := 0, locals := 122 } : Room) [.ref (a 0), .int x1] (cW G a S) (cW G a S') (some (.int r)) := by
  refine fc_head (cc := cX7_known) (maxL := 2) (ret := (some .int)) (C := RX7) (lv := [(0, .ref (a 0)), (1, .int x1)]) (by decide) rfl rfl (Nat.le_of_ble_eq_true rfl) rfl ?_
  intro p e s m below meth c ls A hx hb hr hml hown hts hlocks hE hP hD hAB hS hl
  have hCF : CallFix p m c cX7_known 2 s ([.ref (a 0), .int x1] : List Value).toArray wsX7_known RX7 := ⟨hx, hb, hml, hown, hts⟩
  have hwX7 : ∀ w ∈ u_ws RX7 TX7 8, w.before ([.ref (a 0), .int x1] : List Value).toArray s = true := fun w h => hts w (iu_X7_known_X7 w h)
  have hk_fieldLink_RX7_10__BrideNotKnown___now___LBrideNotKnown_Valley__ := hts (.fieldLink RX7 10 "BrideNotKnown" "now" "LBrideNotKnown$Valley;") (List.mem_of_getElem? (i := 1) rfl)
  rw [f_X7_known] at hf
  refine lv_iload_n hx hb dX7_known_0 rfl (lv_at hl 1 rfl) ?_
  obtain ⟨q940, hq940, hf⟩ := bnd hf
  refine fc_callS (Wa' := (cW G a S)) (st1 := [.int q940]) (As := [.int x1]) (rest := []) hCF (k_X7_isNotEither x1 hq940) (va_cwS 1 hts gX7_known_X7_isNotEither rfl rfl rfl dk_X7_isNotEither ⟨Nat.le_of_ble_eq_true rfl, Nat.le_of_ble_eq_true rfl⟩) hE hAB hP hD hS [] rfl rfl rfl rfl rfl rfl hl.1 rfl (Nat.le_of_ble_eq_true rfl) dX7_known_1 ⟨Nat.le_refl _, Nat.le_refl _⟩ (fun H locs hP hD hS => ?_)
  refine lv_if_eq (tgt := 14) hx hb dX7_known_4 (by decide) (fun c941 => ?_) (fun c941 => ?_)
  · have hf := ifT hf c941
    refine lv_iload_n hx hb dX7_known_14 rfl (lv_at hl 1 rfl) ?_
    refine lv_if_ne (tgt := 28) hx hb dX7_known_15 (by decide) (fun c942 => ?_) (fun c942 => ?_)
    · have hf := ifF hf c942
      refine lv_aload_n hx hb dX7_known_28 rfl (lv_at hl 0 rfl) ?_
      refine fc_get (v := .ref (a 1)) (ci := 4) (C := RX7) (T := TX7) (N := 8) hx hb hwX7 hown hE hP 0 rfl rfl 0 (by decide) hk_fieldLink_RX7_10__BrideNotKnown___now___LBrideNotKnown_Valley__ (fun _ h => h) rfl dX7_known_29 ?_
      refine lv_iconst (v := (0 : Int32)) hx hb dX7_known_32 (by decide) ?_
      obtain ⟨q943, hq943, hf⟩ := bnd hf
      refine fc_callV (Wa' := (cW G a S)) (st1 := [.int q943]) (As := [.int (0 : Int32)]) (rest := []) hCF (k_X6_hereThen (sh 1 a) (S 0) (0 : Int32) hq943) (cwV 1 hts gX7_known_X6_hereThen rfl rfl rfl ⟨rfl, dk_X6_hereThen⟩ ⟨Nat.le_of_ble_eq_true rfl, Nat.le_of_ble_eq_true rfl⟩) hE hAB hP hD hS [1, 2, 3, 4, 5, 6, 7, 8] rfl rfl (va_recv hE.1 hP (ci := 3) (q0 := 1) rfl rfl) rfl rfl rfl rfl hl.1 rfl (Nat.le_of_ble_eq_true rfl) dX7_known_33 ⟨Nat.le_refl _, Nat.le_refl _⟩ (fun H locs hP hD hS => ?_)
      refine lv_aload_n hx hb dX7_known_36 rfl (lv_at hl 0 rfl) ?_
      refine fc_get (v := .ref (a 1)) (ci := 4) (C := RX7) (T := TX7) (N := 8) hx hb hwX7 hown hE hP 0 rfl rfl 0 (by decide) hk_fieldLink_RX7_10__BrideNotKnown___now___LBrideNotKnown_Valley__ (fun _ h => h) rfl dX7_known_37 ?_
      obtain ⟨q944, hq944, hf⟩ := bnd hf
      refine fc_callV (Wa' := (cW G a S)) (st1 := [.int q944, .int q943]) (As := []) (rest := [.int q943]) hCF (k_X6_knownBits (sh 1 a) (S 0) hq944) (cwV 0 hts gX7_known_X6_knownBits rfl rfl rfl ⟨rfl, dk_X6_knownBits⟩ ⟨Nat.le_of_ble_eq_true rfl, Nat.le_of_ble_eq_true rfl⟩) hE hAB hP hD hS [1, 2, 3, 4, 5, 6, 7, 8] rfl rfl (va_recv hE.1 hP (ci := 3) (q0 := 1) rfl rfl) rfl rfl rfl rfl hl.1 rfl (Nat.le_of_ble_eq_true rfl) dX7_known_40 ⟨Nat.le_refl _, Nat.le_refl _⟩ (fun H locs hP hD hS => ?_)
      refine lv_iconst (v := (-1 : Int32)) hx hb dX7_known_43 (by decide) ?_
      refine lv_ixor hx hb dX7_known_44 ?_
      refine lv_iand hx hb dX7_known_45 ?_
      exact fc_reti hx hb hr hlocks hP hS dX7_known_46 (i2a hf) (congrArg (fun z => (cW G a z)) (i2b hf))
    · have hf := ifT hf c942
      refine lv_aload_n hx hb dX7_known_18 rfl (lv_at hl 0 rfl) ?_
      refine fc_get (v := .ref (a 1)) (ci := 4) (C := RX7) (T := TX7) (N := 8) hx hb hwX7 hown hE hP 0 rfl rfl 0 (by decide) hk_fieldLink_RX7_10__BrideNotKnown___now___LBrideNotKnown_Valley__ (fun _ h => h) rfl dX7_known_19 ?_
      obtain ⟨q945, hq945, hf⟩ := bnd hf
      refine fc_callV (Wa' := (cW G a S)) (st1 := [.int q945]) (As := []) (rest := []) hCF (k_X6_knownBits (sh 1 a) (S 0) hq945) (cwV 0 hts gX7_known_X6_knownBits rfl rfl rfl ⟨rfl, dk_X6_knownBits⟩ ⟨Nat.le_of_ble_eq_true rfl, Nat.le_of_ble_eq_true rfl⟩) hE hAB hP hD hS [1, 2, 3, 4, 5, 6, 7, 8] rfl rfl (va_recv hE.1 hP (ci := 3) (q0 := 1) rfl rfl) rfl rfl rfl rfl hl.1 rfl (Nat.le_of_ble_eq_true rfl) dX7_known_22 ⟨Nat.le_refl _, Nat.le_refl _⟩ (fun H locs hP hD hS => ?_)
      refine lv_goto (tgt := 46) hx hb dX7_known_25 (by decide) ?_
      exact fc_reti hx hb hr hlocks hP hS dX7_known_46 (i2a hf) (congrArg (fun z => (cW G a z)) (i2b hf))
  · have hf := ifF hf c941
    refine lv_aload_n hx hb dX7_known_7 rfl (lv_at hl 0 rfl) ?_
    refine lv_bipush (v := (-2 : Int32)) hx hb dX7_known_8 (by decide) ?_
    obtain ⟨q946, hq946, hf⟩ := bnd hf
    refine fc_callV (Wa' := (cW G a q946.2)) (st1 := [.int q946.1]) (As := [.int (-2 : Int32)]) (rest := []) hCF (k_X7_refuse a S (-2 : Int32) hq946) (cwV 1 hts gX7_known_X7_refuse rfl rfl rfl ⟨rfl, dk_X7_refuse⟩ ⟨Nat.le_of_ble_eq_true rfl, Nat.le_of_ble_eq_true rfl⟩) hE hAB hP hD hS [0, 1, 2, 3, 4, 5, 6, 7, 8, 9, 10, 11, 12, 13, 14, 15, 16, 17, 18, 19, 20, 21, 22, 23, 24, 25, 26, 27, 28, 29, 30, 31] rfl rfl (va_recv hE.1 hP (ci := 4) (q0 := 0) rfl rfl) rfl rfl rfl rfl hl.1 rfl (Nat.le_of_ble_eq_true rfl) dX7_known_10 ⟨Nat.le_refl _, Nat.le_refl _⟩ (fun H locs hP hD hS => ?_)
    exact fc_reti hx hb hr hlocks hP hS dX7_known_13 (i2a hf) (congrArg (fun z => (cW G a z)) (i2b hf))
theorem dk_X7_letter : yX7_letter.cls ≠ "java/lang/invoke/MethodHandle" ∧ yX7_letter.cls ≠ "java/lang/invoke/VarHandle" ∧ (parseMethodDescriptor yX7_letter.desc).map (fun d => d.parameters.length) = some 1 := by decide +kernel
theorem iu_X7_letter_X7 : ∀ w ∈ u_ws RX7 TX7 8, w ∈ wsX7_letter := by decide +kernel
set_option maxHeartbeats 4000000 in
set_option maxRecDepth 100000 in
theorem k_X7_letter {l : Launch} {G : Gx} (a : Nat → Nat) (S : (Nat → St)) (x1 : Int32) {r : Int32} {S' : (Nat → St)} (hf : f_X7_letter S x1 = some (r, S')) : FC l G yX7_letter wsX7_letter ({ frames := 2, cells := 0, slots := 0, locals := 43 } : Room) [.ref (a 0), .int x1] (cW G a S) (cW G a S') (some (.int r)) := by
  refine fc_head (cc := cX7_letter) (maxL := 2) (ret := (some .int)) (C := RX7) (lv := [(0, .ref (a 0)), (1, .int x1)]) (by decide) rfl rfl (Nat.le_of_ble_eq_true rfl) rfl ?_
  intro p e s m below meth c ls A hx hb hr hml hown hts hlocks hE hP hD hAB hS hl
  have hCF : CallFix p m c cX7_letter 2 s ([.ref (a 0), .int x1] : List Value).toArray wsX7_letter RX7 := ⟨hx, hb, hml, hown, hts⟩
  have hwX7 : ∀ w ∈ u_ws RX7 TX7 8, w.before ([.ref (a 0), .int x1] : List Value).toArray s = true := fun w h => hts w (iu_X7_letter_X7 w h)
  have hk_fieldLink_RX7_25__BrideNotKnown___text___LBrideNotKnown_Text__ := hts (.fieldLink RX7 25 "BrideNotKnown" "text" "LBrideNotKnown$Text;") (List.mem_of_getElem? (i := 1) rfl)
  rw [f_X7_letter] at hf
  refine lv_iload_n hx hb dX7_letter_0 rfl (lv_at hl 1 rfl) ?_
  refine lv_if_ge (tgt := 11) hx hb dX7_letter_1 (by decide) (fun c952 => ?_) (fun c952 => ?_)
  · have hf := ifT hf c952
    refine lv_iload_n hx hb dX7_letter_11 rfl (lv_at hl 1 rfl) ?_
    refine lv_sipush (v := (255 : Int32)) hx hb dX7_letter_12 (by decide) ?_
    refine lv_icmp_gt (tgt := 28) hx hb dX7_letter_15 (by decide) (fun c953 => ?_) (fun c953 => ?_)
    · have hf := ifT hf c953
      refine lv_aload_n hx hb dX7_letter_28 rfl (lv_at hl 0 rfl) ?_
      refine lv_bipush (v := (-6 : Int32)) hx hb dX7_letter_29 (by decide) ?_
      obtain ⟨q954, hq954, hf⟩ := bnd hf
      refine fc_callV (Wa' := (cW G a q954.2)) (st1 := [.int q954.1]) (As := [.int (-6 : Int32)]) (rest := []) hCF (k_X7_refuse a S (-6 : Int32) hq954) (cwV 1 hts gX7_letter_X7_refuse rfl rfl rfl ⟨rfl, dk_X7_refuse⟩ ⟨Nat.le_of_ble_eq_true rfl, Nat.le_of_ble_eq_true rfl⟩) hE hAB hP hD hS [0, 1, 2, 3, 4, 5, 6, 7, 8, 9, 10, 11, 12, 13, 14, 15, 16, 17, 18, 19, 20, 21, 22, 23, 24, 25, 26, 27, 28, 29, 30, 31] rfl rfl (va_recv hE.1 hP (ci := 4) (q0 := 0) rfl rfl) rfl rfl rfl rfl hl.1 rfl (Nat.le_of_ble_eq_true rfl) dX7_letter_31 ⟨Nat.le_refl _, Nat.le_refl _⟩ (fun H locs hP hD hS => ?_)
      exact fc_reti hx hb hr hlocks hP hS dX7_letter_34 (i2a hf) (congrArg (fun z => (cW G a z)) (i2b hf))
    · have hf := ifF hf c953
      refine lv_aload_n hx hb dX7_letter_18 rfl (lv_at hl 0 rfl) ?_
      refine fc_get (v := .ref (a 25)) (ci := 4) (C := RX7) (T := TX7) (N := 8) hx hb hwX7 hown hE hP 0 rfl rfl 4 (by decide) hk_fieldLink_RX7_25__BrideNotKnown___text___LBrideNotKnown_Text__ (fun _ h => h) rfl dX7_letter_19 ?_
      obtain ⟨q955, hq955, hf⟩ := bnd hf
      refine fc_callV (Wa' := (cW G a S)) (st1 := [.int q955]) (As := []) (rest := []) hCF (k_X5_isFull (sh 25 a) (S 3) hq955) (cwV 0 hts gX7_letter_X5_isFull rfl rfl rfl ⟨rfl, dk_X5_isFull⟩ ⟨Nat.le_of_ble_eq_true rfl, Nat.le_of_ble_eq_true rfl⟩) hE hAB hP hD hS [25, 26] rfl rfl (va_recv hE.1 hP (ci := 2) (q0 := 25) rfl rfl) rfl rfl rfl rfl hl.1 rfl (Nat.le_of_ble_eq_true rfl) dX7_letter_22 ⟨Nat.le_refl _, Nat.le_refl _⟩ (fun H locs hP hD hS => ?_)
      refine lv_if_eq (tgt := 35) hx hb dX7_letter_25 (by decide) (fun c956 => ?_) (fun c956 => ?_)
      · have hf := ifT hf c956
        refine lv_aload_n hx hb dX7_letter_35 rfl (lv_at hl 0 rfl) ?_
        refine fc_get (v := .ref (a 25)) (ci := 4) (C := RX7) (T := TX7) (N := 8) hx hb hwX7 hown hE hP 0 rfl rfl 4 (by decide) hk_fieldLink_RX7_25__BrideNotKnown___text___LBrideNotKnown_Text__ (fun _ h => h) rfl dX7_letter_36 ?_
        refine lv_iload_n hx hb dX7_letter_39 rfl (lv_at hl 1 rfl) ?_
        obtain ⟨q957, hq957, hf⟩ := bnd hf
        refine fc_callV (Wa' := (cW G a (sS S 3 q957.2))) (st1 := [.int q957.1]) (As := [.int x1]) (rest := []) hCF (k_X5_add (sh 25 a) (S 3) x1 hq957) (cwV 1 hts gX7_letter_X5_add rfl rfl rfl ⟨rfl, dk_X5_add⟩ ⟨Nat.le_of_ble_eq_true rfl, Nat.le_of_ble_eq_true rfl⟩) hE hAB hP hD hS [25, 26] rfl rfl (va_recv hE.1 hP (ci := 2) (q0 := 25) rfl rfl) rfl rfl rfl rfl hl.1 rfl (Nat.le_of_ble_eq_true rfl) dX7_letter_40 ⟨Nat.le_refl _, Nat.le_refl _⟩ (fun H locs hP hD hS => ?_)
        exact fc_reti hx hb hr hlocks hP hS dX7_letter_43 (i2a hf) (congrArg (fun z => (cW G a z)) (i2b hf))
      · have hf := ifF hf c956
        refine lv_aload_n hx hb dX7_letter_28 rfl (lv_at hl 0 rfl) ?_
        refine lv_bipush (v := (-6 : Int32)) hx hb dX7_letter_29 (by decide) ?_
        obtain ⟨q958, hq958, hf⟩ := bnd hf
        refine fc_callV (Wa' := (cW G a q958.2)) (st1 := [.int q958.1]) (As := [.int (-6 : Int32)]) (rest := []) hCF (k_X7_refuse a S (-6 : Int32) hq958) (cwV 1 hts gX7_letter_X7_refuse rfl rfl rfl ⟨rfl, dk_X7_refuse⟩ ⟨Nat.le_of_ble_eq_true rfl, Nat.le_of_ble_eq_true rfl⟩) hE hAB hP hD hS [0, 1, 2, 3, 4, 5, 6, 7, 8, 9, 10, 11, 12, 13, 14, 15, 16, 17, 18, 19, 20, 21, 22, 23, 24, 25, 26, 27, 28, 29, 30, 31] rfl rfl (va_recv hE.1 hP (ci := 4) (q0 := 0) rfl rfl) rfl rfl rfl rfl hl.1 rfl (Nat.le_of_ble_eq_true rfl) dX7_letter_31 ⟨Nat.le_refl _, Nat.le_refl _⟩ (fun H locs hP hD hS => ?_)
        exact fc_reti hx hb hr hlocks hP hS dX7_letter_34 (i2a hf) (congrArg (fun z => (cW G a z)) (i2b hf))
  · have hf := ifF hf c952
    refine lv_aload_n hx hb dX7_letter_4 rfl (lv_at hl 0 rfl) ?_
    refine lv_bipush (v := (-4 : Int32)) hx hb dX7_letter_5 (by decide) ?_
    obtain ⟨q959, hq959, hf⟩ := bnd hf
    refine fc_callV (Wa' := (cW G a q959.2)) (st1 := [.int q959.1]) (As := [.int (-4 : Int32)]) (rest := []) hCF (k_X7_refuse a S (-4 : Int32) hq959) (cwV 1 hts gX7_letter_X7_refuse rfl rfl rfl ⟨rfl, dk_X7_refuse⟩ ⟨Nat.le_of_ble_eq_true rfl, Nat.le_of_ble_eq_true rfl⟩) hE hAB hP hD hS [0, 1, 2, 3, 4, 5, 6, 7, 8, 9, 10, 11, 12, 13, 14, 15, 16, 17, 18, 19, 20, 21, 22, 23, 24, 25, 26, 27, 28, 29, 30, 31] rfl rfl (va_recv hE.1 hP (ci := 4) (q0 := 0) rfl rfl) rfl rfl rfl rfl hl.1 rfl (Nat.le_of_ble_eq_true rfl) dX7_letter_7 ⟨Nat.le_refl _, Nat.le_refl _⟩ (fun H locs hP hD hS => ?_)
    exact fc_reti hx hb hr hlocks hP hS dX7_letter_10 (i2a hf) (congrArg (fun z => (cW G a z)) (i2b hf))
theorem dk_X7_lies : yX7_lies.cls ≠ "java/lang/invoke/MethodHandle" ∧ yX7_lies.cls ≠ "java/lang/invoke/VarHandle" ∧ (parseMethodDescriptor yX7_lies.desc).map (fun d => d.parameters.length) = some 0 := by decide +kernel
theorem iu_X7_lies_X6 : ∀ w ∈ u_ws RX6 TX6 12, w ∈ wsX7_lies := by decide +kernel
theorem iu_X7_lies_X7 : ∀ w ∈ u_ws RX7 TX7 8, w ∈ wsX7_lies := by decide +kernel
set_option maxHeartbeats 4000000 in
set_option maxRecDepth 100000 in
theorem k_X7_lies {l : Launch} {G : Gx} (a : Nat → Nat) (S : (Nat → St)) {r : Int32} (hf : f_X7_lies S = some r) : FC l G yX7_lies wsX7_lies ({ frames := 3, cells := 0, slots := 0, locals := 71 } : Room) [.ref (a 0)] (cW G a S) (cW G a S) (some (.int r)) := by
  refine fc_head (cc := cX7_lies) (maxL := 3) (ret := (some .int)) (C := RX7) (lv := [(0, .ref (a 0))]) (by decide) rfl rfl (Nat.le_of_ble_eq_true rfl) rfl ?_
  intro p e s m below meth c ls A hx hb hr hml hown hts hlocks hE hP hD hAB hS hl
  have hCF : CallFix p m c cX7_lies 3 s ([.ref (a 0)] : List Value).toArray wsX7_lies RX7 := ⟨hx, hb, hml, hown, hts⟩
  have hwX6 : ∀ w ∈ u_ws RX6 TX6 12, w.before ([.ref (a 0)] : List Value).toArray s = true := fun w h => hts w (iu_X7_lies_X6 w h)
  have hwX7 : ∀ w ∈ u_ws RX7 TX7 8, w.before ([.ref (a 0)] : List Value).toArray s = true := fun w h => hts w (iu_X7_lies_X7 w h)
  have hk_fieldLink_RX7_10__BrideNotKnown___now___LBrideNotKnown_Valley__ := hts (.fieldLink RX7 10 "BrideNotKnown" "now" "LBrideNotKnown$Valley;") (List.mem_of_getElem? (i := 1) rfl)
  have hk_fieldLink_RX7_228__BrideNotKnown_Valley___brideCount___I_ := hts (.fieldLink RX7 228 "BrideNotKnown$Valley" "brideCount" "I") (List.mem_of_getElem? (i := 2) rfl)
  rw [f_X7_lies] at hf
  refine lv_iconst (v := (0 : Int32)) hx hb dX7_lies_0 (by decide) ?_
  refine lv_istore_n (lv' := [(1, .int (0 : Int32)), (0, .ref (a 0))]) hx hb dX7_lies_1 rfl hl (by decide) rfl (fun ls hl => ?_)
  refine lv_iconst (v := (0 : Int32)) hx hb dX7_lies_2 (by decide) ?_
  refine lv_istore_n (lv' := [(2, .int (0 : Int32)), (1, .int (0 : Int32)), (0, .ref (a 0))]) hx hb dX7_lies_3 rfl hl (by decide) rfl (fun ls hl => ?_)
  have L4_966 : ∀ (n : Nat) (x1_964 : Int32) (x2_965 : Int32) (H : Heap) (locs : List Loc) (ls : Array Slot), va_P (gD G) vwCl (cW G a S) H → va_D A (cW G a S) → va_S A s.heap H locs → lv_has ls 3 [(0, .ref (a 0)), (1, .int x1_964), (2, .int x2_965)] → f_X7_lies_4 S n x1_964 x2_965 = some r → W p l e (headSpec wsX7_lies ({ frames := 3, cells := 0, slots := 0, locals := 71 } : Room)).room s m ([.ref (a 0)] : List Value).toArray below meth c H locs 0 0 (MQ below (FQ G A (cW G a S) (some (.int r))) ([.ref (a 0)] : List Value).toArray s 0 0 A) (F0 m 4 ls []) := by
    intro n
    induction n with
    | zero =>
      intro x1_964 x2_965 H locs ls hP hD hS hl hf
      exact no_some hf
    | succ n ih =>
      intro x1_964 x2_965 H locs ls hP hD hS hl hf
      rw [f_X7_lies_4] at hf
      refine lv_iload_n hx hb dX7_lies_4 rfl (lv_at hl 2 rfl) ?_
      refine lv_aload_n hx hb dX7_lies_5 rfl (lv_at hl 0 rfl) ?_
      refine fc_get (v := .ref (a 1)) (ci := 4) (C := RX7) (T := TX7) (N := 8) hx hb hwX7 hown hE hP 0 rfl rfl 0 (by decide) hk_fieldLink_RX7_10__BrideNotKnown___now___LBrideNotKnown_Valley__ (fun _ h => h) rfl dX7_lies_6 ?_
      refine fc_get (v := .int ((S 0) 7 1)) (ci := 3) (C := RX6) (T := TX6) (N := 12) hx hb hwX6 hown hE hP 1 rfl rfl 1 (by decide) hk_fieldLink_RX7_228__BrideNotKnown_Valley___brideCount___I_ (fun _ h => h) rfl dX7_lies_9 ?_
      refine lv_icmp_ge (tgt := 56) hx hb dX7_lies_12 (by decide) (fun c967 => ?_) (fun c967 => ?_)
      · have hf := ifT hf c967
        refine lv_iload_n hx hb dX7_lies_56 rfl (lv_at hl 1 rfl) ?_
        exact fc_reti hx hb hr hlocks hP hS dX7_lies_57 (i1 hf) rfl
      · have hf := ifF hf c967
        refine lv_aload_n hx hb dX7_lies_15 rfl (lv_at hl 0 rfl) ?_
        refine fc_get (v := .ref (a 1)) (ci := 4) (C := RX7) (T := TX7) (N := 8) hx hb hwX7 hown hE hP 0 rfl rfl 0 (by decide) hk_fieldLink_RX7_10__BrideNotKnown___now___LBrideNotKnown_Valley__ (fun _ h => h) rfl dX7_lies_16 ?_
        refine lv_iload_n hx hb dX7_lies_19 rfl (lv_at hl 2 rfl) ?_
        obtain ⟨q968, hq968, hf⟩ := bnd hf
        refine fc_callV (Wa' := (cW G a S)) (st1 := [.int q968]) (As := [.int x2_965]) (rest := []) hCF (k_X6_isHere (sh 1 a) (S 0) x2_965 hq968) (cwV 1 hts gX7_lies_X6_isHere rfl rfl rfl ⟨rfl, dk_X6_isHere⟩ ⟨Nat.le_of_ble_eq_true rfl, Nat.le_of_ble_eq_true rfl⟩) hE hAB hP hD hS [1, 2, 3, 4, 5, 6, 7, 8] rfl rfl (va_recv hE.1 hP (ci := 3) (q0 := 1) rfl rfl) rfl rfl rfl rfl hl.1 rfl (Nat.le_of_ble_eq_true rfl) dX7_lies_20 ⟨Nat.le_refl _, Nat.le_refl _⟩ (fun H locs hP hD hS => ?_)
        refine lv_if_eq (tgt := 50) hx hb dX7_lies_23 (by decide) (fun c969 => ?_) (fun c969 => ?_)
        · have hf := ifT hf c969
          refine lv_iinc (v := (x2_965 + (1 : Int32))) (lv' := [(2, .int (x2_965 + (1 : Int32))), (0, .ref (a 0)), (1, .int x1_964)]) hx hb dX7_lies_50 hl (k := 2) rfl rfl (by decide) rfl (fun ls hl => ?_)
          refine lv_goto (tgt := 4) hx hb dX7_lies_53 (by decide) ?_
          exact ih x1_964 (x2_965 + (1 : Int32)) _ _ _ hP hD hS (lv_sub hl [1, 2, 0] rfl) hf
        · have hf := ifF hf c969
          refine lv_iload_n hx hb dX7_lies_26 rfl (lv_at hl 1 rfl) ?_
          refine lv_aload_n hx hb dX7_lies_27 rfl (lv_at hl 0 rfl) ?_
          refine fc_get (v := .ref (a 1)) (ci := 4) (C := RX7) (T := TX7) (N := 8) hx hb hwX7 hown hE hP 0 rfl rfl 0 (by decide) hk_fieldLink_RX7_10__BrideNotKnown___now___LBrideNotKnown_Valley__ (fun _ h => h) rfl dX7_lies_28 ?_
          refine lv_iload_n hx hb dX7_lies_31 rfl (lv_at hl 2 rfl) ?_
          refine lv_iconst (v := (0 : Int32)) hx hb dX7_lies_32 (by decide) ?_
          obtain ⟨q970, hq970, hf⟩ := bnd hf
          refine fc_callV (Wa' := (cW G a S)) (st1 := [.int q970, .int x1_964]) (As := [.int x2_965, .int (0 : Int32)]) (rest := [.int x1_964]) hCF (k_X6_shows (sh 1 a) (S 0) x2_965 (0 : Int32) hq970) (cwV 2 hts gX7_lies_X6_shows rfl rfl rfl ⟨rfl, dk_X6_shows⟩ ⟨Nat.le_of_ble_eq_true rfl, Nat.le_of_ble_eq_true rfl⟩) hE hAB hP hD hS [1, 2, 3, 4, 5, 6, 7, 8] rfl rfl (va_recv hE.1 hP (ci := 3) (q0 := 1) rfl rfl) rfl rfl rfl rfl hl.1 rfl (Nat.le_of_ble_eq_true rfl) dX7_lies_33 ⟨Nat.le_refl _, Nat.le_refl _⟩ (fun H locs hP hD hS => ?_)
          refine lv_aload_n hx hb dX7_lies_36 rfl (lv_at hl 0 rfl) ?_
          refine fc_get (v := .ref (a 1)) (ci := 4) (C := RX7) (T := TX7) (N := 8) hx hb hwX7 hown hE hP 0 rfl rfl 0 (by decide) hk_fieldLink_RX7_10__BrideNotKnown___now___LBrideNotKnown_Valley__ (fun _ h => h) rfl dX7_lies_37 ?_
          refine lv_iload_n hx hb dX7_lies_40 rfl (lv_at hl 2 rfl) ?_
          obtain ⟨q971, hq971, hf⟩ := bnd hf
          refine fc_callV (Wa' := (cW G a S)) (st1 := [.int q971, .int q970, .int x1_964]) (As := [.int x2_965]) (rest := [.int q970, .int x1_964]) hCF (k_X6_footOf (sh 1 a) (S 0) x2_965 hq971) (cwV 1 hts gX7_lies_X6_footOf rfl rfl rfl ⟨rfl, dk_X6_footOf⟩ ⟨Nat.le_of_ble_eq_true rfl, Nat.le_of_ble_eq_true rfl⟩) hE hAB hP hD hS [1, 2, 3, 4, 5, 6, 7, 8] rfl rfl (va_recv hE.1 hP (ci := 3) (q0 := 1) rfl rfl) rfl rfl rfl rfl hl.1 rfl (Nat.le_of_ble_eq_true rfl) dX7_lies_41 ⟨Nat.le_refl _, Nat.le_refl _⟩ (fun H locs hP hD hS => ?_)
          refine lv_ixor hx hb dX7_lies_44 ?_
          obtain ⟨q972, hq972, hf⟩ := bnd hf
          refine fc_callS (Wa' := (cW G a S)) (st1 := [.int q972, .int x1_964]) (As := [.int (q970 ^^^ q971)]) (rest := [.int x1_964]) hCF (k_J6_bitCount_0f7a4 (q970 ^^^ q971) hq972) (va_cwS 1 hts gX7_lies_J6_bitCount_0f7a4 rfl rfl rfl dk_J6_bitCount_0f7a4 ⟨Nat.le_of_ble_eq_true rfl, Nat.le_of_ble_eq_true rfl⟩) hE hAB hP hD hS [] rfl rfl rfl rfl rfl rfl hl.1 rfl (Nat.le_of_ble_eq_true rfl) dX7_lies_45 ⟨Nat.le_refl _, Nat.le_refl _⟩ (fun H locs hP hD hS => ?_)
          refine lv_iadd hx hb dX7_lies_48 ?_
          refine lv_istore_n (lv' := [(1, .int (x1_964 + q972)), (0, .ref (a 0)), (2, .int x2_965)]) hx hb dX7_lies_49 rfl hl (by decide) rfl (fun ls hl => ?_)
          refine lv_iinc (v := (x2_965 + (1 : Int32))) (lv' := [(2, .int (x2_965 + (1 : Int32))), (1, .int (x1_964 + q972)), (0, .ref (a 0))]) hx hb dX7_lies_50 hl (k := 2) rfl rfl (by decide) rfl (fun ls hl => ?_)
          refine lv_goto (tgt := 4) hx hb dX7_lies_53 (by decide) ?_
          exact ih (x1_964 + q972) (x2_965 + (1 : Int32)) _ _ _ hP hD hS (lv_sub hl [2, 1, 0] rfl) hf
  exact L4_966 FUEL (0 : Int32) (0 : Int32) _ _ _ hP hD hS (lv_sub hl [2, 1, 0] rfl) hf
theorem dk_X7_looks : yX7_looks.cls ≠ "java/lang/invoke/MethodHandle" ∧ yX7_looks.cls ≠ "java/lang/invoke/VarHandle" ∧ (parseMethodDescriptor yX7_looks.desc).map (fun d => d.parameters.length) = some 2 := by decide +kernel
theorem iu_X7_looks_X7 : ∀ w ∈ u_ws RX7 TX7 8, w ∈ wsX7_looks := by decide +kernel
set_option maxHeartbeats 4000000 in
set_option maxRecDepth 100000 in
theorem k_X7_looks {l : Launch} {G : Gx} (a : Nat → Nat) (S : (Nat → St)) (x1 : Int32) (x2 : Int32) {r : Int32} {S' : (Nat → St)} (hf : f_X7_looks S x1 x2 = some (r, S')) : FC l G yX7_looks wsX7_looks ({ frames := 2, cells := 0, slots := 0, locals := 45 } : Room) [.ref (a 0), .int x1, .int x2] (cW G a S) (cW G a S') (some (.int r)) := by
  refine fc_head (cc := cX7_looks) (maxL := 5) (ret := (some .int)) (C := RX7) (lv := [(0, .ref (a 0)), (1, .int x1), (2, .int x2)]) (by decide) rfl rfl (Nat.le_of_ble_eq_true rfl) rfl ?_
  intro p e s m below meth c ls A hx hb hr hml hown hts hlocks hE hP hD hAB hS hl
  have hCF : CallFix p m c cX7_looks 5 s ([.ref (a 0), .int x1, .int x2] : List Value).toArray wsX7_looks RX7 := ⟨hx, hb, hml, hown, hts⟩
  have hwX7 : ∀ w ∈ u_ws RX7 TX7 8, w.before ([.ref (a 0), .int x1, .int x2] : List Value).toArray s = true := fun w h => hts w (iu_X7_looks_X7 w h)
  have hk_fieldLink_RX7_10__BrideNotKnown___now___LBrideNotKnown_Valley__ := hts (.fieldLink RX7 10 "BrideNotKnown" "now" "LBrideNotKnown$Valley;") (List.mem_of_getElem? (i := 1) rfl)
  rw [f_X7_looks] at hf
  refine lv_aload_n hx hb dX7_looks_0 rfl (lv_at hl 0 rfl) ?_
  refine fc_get (v := .ref (a 1)) (ci := 4) (C := RX7) (T := TX7) (N := 8) hx hb hwX7 hown hE hP 0 rfl rfl 0 (by decide) hk_fieldLink_RX7_10__BrideNotKnown___now___LBrideNotKnown_Valley__ (fun _ h => h) rfl dX7_looks_1 ?_
  refine lv_iload_n hx hb dX7_looks_4 rfl (lv_at hl 1 rfl) ?_
  obtain ⟨q978, hq978, hf⟩ := bnd hf
  refine fc_callV (Wa' := (cW G a S)) (st1 := [.int q978]) (As := [.int x1]) (rest := []) hCF (k_X6_hasGroom (sh 1 a) (S 0) x1 hq978) (cwV 1 hts gX7_looks_X6_hasGroom rfl rfl rfl ⟨rfl, dk_X6_hasGroom⟩ ⟨Nat.le_of_ble_eq_true rfl, Nat.le_of_ble_eq_true rfl⟩) hE hAB hP hD hS [1, 2, 3, 4, 5, 6, 7, 8] rfl rfl (va_recv hE.1 hP (ci := 3) (q0 := 1) rfl rfl) rfl rfl rfl rfl hl.1 rfl (Nat.le_of_ble_eq_true rfl) dX7_looks_5 ⟨Nat.le_refl _, Nat.le_refl _⟩ (fun H locs hP hD hS => ?_)
  refine lv_iload_n hx hb dX7_looks_8 rfl (lv_at hl 2 rfl) ?_
  refine lv_iconst (v := (0 : Int32)) hx hb dX7_looks_9 (by decide) ?_
  refine lv_bipush (v := (63 : Int32)) hx hb dX7_looks_10 (by decide) ?_
  obtain ⟨q979, hq979, hf⟩ := bnd hf
  refine fc_callS (Wa' := (cW G a S)) (st1 := [.int q979]) (As := [.int q978, .int x2, .int (0 : Int32), .int (63 : Int32)]) (rest := []) hCF (k_X7_refusalOf q978 x2 (0 : Int32) (63 : Int32) hq979) (va_cwS 4 hts gX7_looks_X7_refusalOf rfl rfl rfl dk_X7_refusalOf ⟨Nat.le_of_ble_eq_true rfl, Nat.le_of_ble_eq_true rfl⟩) hE hAB hP hD hS [] rfl rfl rfl rfl rfl rfl hl.1 rfl (Nat.le_of_ble_eq_true rfl) dX7_looks_12 ⟨Nat.le_refl _, Nat.le_refl _⟩ (fun H locs hP hD hS => ?_)
  refine lv_istore_n (lv' := [(3, .int q979), (0, .ref (a 0)), (1, .int x1), (2, .int x2)]) hx hb dX7_looks_15 rfl hl (by decide) rfl (fun ls hl => ?_)
  refine lv_iload_n hx hb dX7_looks_16 rfl (lv_at hl 0 rfl) ?_
  refine lv_if_eq (tgt := 26) hx hb dX7_looks_17 (by decide) (fun c980 => ?_) (fun c980 => ?_)
  · have hf := ifT hf c980
    refine lv_aload_n hx hb dX7_looks_26 rfl (lv_at hl 1 rfl) ?_
    refine fc_get (v := .ref (a 1)) (ci := 4) (C := RX7) (T := TX7) (N := 8) hx hb hwX7 hown hE hP 0 rfl rfl 0 (by decide) hk_fieldLink_RX7_10__BrideNotKnown___now___LBrideNotKnown_Valley__ (fun _ h => h) rfl dX7_looks_27 ?_
    refine lv_iload_n hx hb dX7_looks_30 rfl (lv_at hl 2 rfl) ?_
    obtain ⟨q981, hq981, hf⟩ := bnd hf
    refine fc_callV (Wa' := (cW G a S)) (st1 := [.int q981]) (As := [.int x1]) (rest := []) hCF (k_X6_lookOf (sh 1 a) (S 0) x1 hq981) (cwV 1 hts gX7_looks_X6_lookOf rfl rfl rfl ⟨rfl, dk_X6_lookOf⟩ ⟨Nat.le_of_ble_eq_true rfl, Nat.le_of_ble_eq_true rfl⟩) hE hAB hP hD hS [1, 2, 3, 4, 5, 6, 7, 8] rfl rfl (va_recv hE.1 hP (ci := 3) (q0 := 1) rfl rfl) rfl rfl rfl rfl hl.1 rfl (Nat.le_of_ble_eq_true rfl) dX7_looks_31 ⟨Nat.le_refl _, Nat.le_refl _⟩ (fun H locs hP hD hS => ?_)
    refine lv_istore (lv' := [(4, .int q981), (3, .int q979), (0, .ref (a 0)), (1, .int x1), (2, .int x2)]) hx hb dX7_looks_34 hl (by decide) rfl (fun ls hl => ?_)
    refine lv_aload_n hx hb dX7_looks_36 rfl (lv_at hl 2 rfl) ?_
    refine fc_get (v := .ref (a 1)) (ci := 4) (C := RX7) (T := TX7) (N := 8) hx hb hwX7 hown hE hP 0 rfl rfl 0 (by decide) hk_fieldLink_RX7_10__BrideNotKnown___now___LBrideNotKnown_Valley__ (fun _ h => h) rfl dX7_looks_37 ?_
    refine lv_iload_n hx hb dX7_looks_40 rfl (lv_at hl 3 rfl) ?_
    refine lv_iload_n hx hb dX7_looks_41 rfl (lv_at hl 4 rfl) ?_
    obtain ⟨q982, hq982, hf⟩ := bnd hf
    refine fc_callV (Wa' := (cW G a (sS S 0 q982))) (st1 := []) (As := [.int x1, .int x2]) (rest := []) hCF (k_X6_setLook (sh 1 a) (S 0) x1 x2 hq982) (cwV 2 hts gX7_looks_X6_setLook rfl rfl rfl ⟨rfl, dk_X6_setLook⟩ ⟨Nat.le_of_ble_eq_true rfl, Nat.le_of_ble_eq_true rfl⟩) hE hAB hP hD hS [1, 2, 3, 4, 5, 6, 7, 8] rfl rfl (va_recv hE.1 hP (ci := 3) (q0 := 1) rfl rfl) rfl rfl rfl rfl hl.1 rfl (Nat.le_of_ble_eq_true rfl) dX7_looks_42 ⟨Nat.le_refl _, Nat.le_refl _⟩ (fun H locs hP hD hS => ?_)
    refine lv_iload hx hb dX7_looks_45 (lv_at hl 0 rfl) ?_
    exact fc_reti hx hb hr hlocks hP hS dX7_looks_47 (i2a hf) (congrArg (fun z => (cW G a z)) (i2b hf))
  · have hf := ifF hf c980
    refine lv_aload_n hx hb dX7_looks_20 rfl (lv_at hl 1 rfl) ?_
    refine lv_iload_n hx hb dX7_looks_21 rfl (lv_at hl 0 rfl) ?_
    obtain ⟨q983, hq983, hf⟩ := bnd hf
    refine fc_callV (Wa' := (cW G a q983.2)) (st1 := [.int q983.1]) (As := [.int q979]) (rest := []) hCF (k_X7_refuse a S q979 hq983) (cwV 1 hts gX7_looks_X7_refuse rfl rfl rfl ⟨rfl, dk_X7_refuse⟩ ⟨Nat.le_of_ble_eq_true rfl, Nat.le_of_ble_eq_true rfl⟩) hE hAB hP hD hS [0, 1, 2, 3, 4, 5, 6, 7, 8, 9, 10, 11, 12, 13, 14, 15, 16, 17, 18, 19, 20, 21, 22, 23, 24, 25, 26, 27, 28, 29, 30, 31] rfl rfl (va_recv hE.1 hP (ci := 4) (q0 := 0) rfl rfl) rfl rfl rfl rfl hl.1 rfl (Nat.le_of_ble_eq_true rfl) dX7_looks_22 ⟨Nat.le_refl _, Nat.le_refl _⟩ (fun H locs hP hD hS => ?_)
    exact fc_reti hx hb hr hlocks hP hS dX7_looks_25 (i2a hf) (congrArg (fun z => (cW G a z)) (i2b hf))
theorem dk_X7_loses : yX7_loses.cls ≠ "java/lang/invoke/MethodHandle" ∧ yX7_loses.cls ≠ "java/lang/invoke/VarHandle" ∧ (parseMethodDescriptor yX7_loses.desc).map (fun d => d.parameters.length) = some 0 := by decide +kernel
theorem iu_X7_loses_X6 : ∀ w ∈ u_ws RX6 TX6 12, w ∈ wsX7_loses := by decide +kernel
theorem iu_X7_loses_X7 : ∀ w ∈ u_ws RX7 TX7 8, w ∈ wsX7_loses := by decide +kernel
set_option maxHeartbeats 4000000 in
set_option maxRecDepth 100000 in
theorem k_X7_loses {l : Launch} {G : Gx} (a : Nat → Nat) (S : (Nat → St)) {r : Int32} (hf : f_X7_loses S = some r) : FC l G yX7_loses wsX7_loses ({ frames := 4, cells := 0, slots := 0, locals := 99 } : Room) [.ref (a 0)] (cW G a S) (cW G a S) (some (.int r)) := by
  refine fc_head (cc := cX7_loses) (maxL := 4) (ret := (some .int)) (C := RX7) (lv := [(0, .ref (a 0))]) (by decide) rfl rfl (Nat.le_of_ble_eq_true rfl) rfl ?_
  intro p e s m below meth c ls A hx hb hr hml hown hts hlocks hE hP hD hAB hS hl
  have hCF : CallFix p m c cX7_loses 4 s ([.ref (a 0)] : List Value).toArray wsX7_loses RX7 := ⟨hx, hb, hml, hown, hts⟩
  have hwX6 : ∀ w ∈ u_ws RX6 TX6 12, w.before ([.ref (a 0)] : List Value).toArray s = true := fun w h => hts w (iu_X7_loses_X6 w h)
  have hwX7 : ∀ w ∈ u_ws RX7 TX7 8, w.before ([.ref (a 0)] : List Value).toArray s = true := fun w h => hts w (iu_X7_loses_X7 w h)
  have hk_fieldLink_RX7_10__BrideNotKnown___now___LBrideNotKnown_Valley__ := hts (.fieldLink RX7 10 "BrideNotKnown" "now" "LBrideNotKnown$Valley;") (List.mem_of_getElem? (i := 1) rfl)
  have hk_fieldLink_RX7_201__BrideNotKnown_Valley___groomCount___I_ := hts (.fieldLink RX7 201 "BrideNotKnown$Valley" "groomCount" "I") (List.mem_of_getElem? (i := 2) rfl)
  rw [f_X7_loses] at hf
  refine lv_iconst (v := (0 : Int32)) hx hb dX7_loses_0 (by decide) ?_
  refine lv_istore_n (lv' := [(1, .int (0 : Int32)), (0, .ref (a 0))]) hx hb dX7_loses_1 rfl hl (by decide) rfl (fun ls hl => ?_)
  refine lv_iconst (v := (0 : Int32)) hx hb dX7_loses_2 (by decide) ?_
  refine lv_istore_n (lv' := [(2, .int (0 : Int32)), (1, .int (0 : Int32)), (0, .ref (a 0))]) hx hb dX7_loses_3 rfl hl (by decide) rfl (fun ls hl => ?_)
  have L4_988 : ∀ (n : Nat) (x1_986 : Int32) (x2_987 : Int32) (H : Heap) (locs : List Loc) (ls : Array Slot), va_P (gD G) vwCl (cW G a S) H → va_D A (cW G a S) → va_S A s.heap H locs → lv_has ls 4 [(0, .ref (a 0)), (1, .int x1_986), (2, .int x2_987)] → f_X7_loses_4 S n x1_986 x2_987 = some r → W p l e (headSpec wsX7_loses ({ frames := 4, cells := 0, slots := 0, locals := 99 } : Room)).room s m ([.ref (a 0)] : List Value).toArray below meth c H locs 0 0 (MQ below (FQ G A (cW G a S) (some (.int r))) ([.ref (a 0)] : List Value).toArray s 0 0 A) (F0 m 4 ls []) := by
    intro n
    induction n with
    | zero =>
      intro x1_986 x2_987 H locs ls hP hD hS hl hf
      exact no_some hf
    | succ n ih =>
      intro x1_986 x2_987 H locs ls hP hD hS hl hf
      rw [f_X7_loses_4] at hf
      refine lv_iload_n hx hb dX7_loses_4 rfl (lv_at hl 2 rfl) ?_
      refine lv_aload_n hx hb dX7_loses_5 rfl (lv_at hl 0 rfl) ?_
      refine fc_get (v := .ref (a 1)) (ci := 4) (C := RX7) (T := TX7) (N := 8) hx hb hwX7 hown hE hP 0 rfl rfl 0 (by decide) hk_fieldLink_RX7_10__BrideNotKnown___now___LBrideNotKnown_Valley__ (fun _ h => h) rfl dX7_loses_6 ?_
      refine fc_get (v := .int ((S 0) 7 3)) (ci := 3) (C := RX6) (T := TX6) (N := 12) hx hb hwX6 hown hE hP 1 rfl rfl 7 (by decide) hk_fieldLink_RX7_201__BrideNotKnown_Valley___groomCount___I_ (fun _ h => h) rfl dX7_loses_9 ?_
      refine lv_icmp_ge (tgt := 55) hx hb dX7_loses_12 (by decide) (fun c989 => ?_) (fun c989 => ?_)
      · have hf := ifT hf c989
        refine lv_iload_n hx hb dX7_loses_55 rfl (lv_at hl 1 rfl) ?_
        exact fc_reti hx hb hr hlocks hP hS dX7_loses_56 (i1 hf) rfl
      · have hf := ifF hf c989
        refine lv_aload_n hx hb dX7_loses_15 rfl (lv_at hl 0 rfl) ?_
        refine fc_get (v := .ref (a 1)) (ci := 4) (C := RX7) (T := TX7) (N := 8) hx hb hwX7 hown hE hP 0 rfl rfl 0 (by decide) hk_fieldLink_RX7_10__BrideNotKnown___now___LBrideNotKnown_Valley__ (fun _ h => h) rfl dX7_loses_16 ?_
        refine lv_iload_n hx hb dX7_loses_19 rfl (lv_at hl 2 rfl) ?_
        refine lv_iconst (v := (0 : Int32)) hx hb dX7_loses_20 (by decide) ?_
        obtain ⟨q990, hq990, hf⟩ := bnd hf
        refine fc_callV (Wa' := (cW G a S)) (st1 := [.int q990]) (As := [.int x2_987, .int (0 : Int32)]) (rest := []) hCF (k_X6_knows (sh 1 a) (S 0) x2_987 (0 : Int32) hq990) (cwV 2 hts gX7_loses_X6_knows rfl rfl rfl ⟨rfl, dk_X6_knows⟩ ⟨Nat.le_of_ble_eq_true rfl, Nat.le_of_ble_eq_true rfl⟩) hE hAB hP hD hS [1, 2, 3, 4, 5, 6, 7, 8] rfl rfl (va_recv hE.1 hP (ci := 3) (q0 := 1) rfl rfl) rfl rfl rfl rfl hl.1 rfl (Nat.le_of_ble_eq_true rfl) dX7_loses_21 ⟨Nat.le_refl _, Nat.le_refl _⟩ (fun H locs hP hD hS => ?_)
        refine lv_istore_n (lv' := [(3, .int q990), (0, .ref (a 0)), (1, .int x1_986), (2, .int x2_987)]) hx hb dX7_loses_24 rfl hl (by decide) rfl (fun ls hl => ?_)
        refine lv_iload_n hx hb dX7_loses_25 rfl (lv_at hl 0 rfl) ?_
        refine lv_bipush (v := (-9 : Int32)) hx hb dX7_loses_26 (by decide) ?_
        refine lv_icmp_eq (tgt := 49) hx hb dX7_loses_28 (by decide) (fun c991 => ?_) (fun c991 => ?_)
        · have hf := ifT hf c991
          refine lv_iinc (v := (x2_987 + (1 : Int32))) (lv' := [(2, .int (x2_987 + (1 : Int32))), (3, .int q990), (0, .ref (a 0)), (1, .int x1_986)]) hx hb dX7_loses_49 hl (k := 3) rfl rfl (by decide) rfl (fun ls hl => ?_)
          refine lv_goto (tgt := 4) hx hb dX7_loses_52 (by decide) ?_
          exact ih x1_986 (x2_987 + (1 : Int32)) _ _ _ hP hD hS (lv_sub hl [2, 3, 0] rfl) hf
        · have hf := ifF hf c991
          refine lv_iload_n hx hb dX7_loses_31 rfl (lv_at hl 0 rfl) ?_
          refine lv_aload_n hx hb dX7_loses_32 rfl (lv_at hl 1 rfl) ?_
          refine fc_get (v := .ref (a 1)) (ci := 4) (C := RX7) (T := TX7) (N := 8) hx hb hwX7 hown hE hP 0 rfl rfl 0 (by decide) hk_fieldLink_RX7_10__BrideNotKnown___now___LBrideNotKnown_Valley__ (fun _ h => h) rfl dX7_loses_33 ?_
          refine lv_iload_n hx hb dX7_loses_36 rfl (lv_at hl 3 rfl) ?_
          obtain ⟨q992, hq992, hf⟩ := bnd hf
          refine fc_callV (Wa' := (cW G a S)) (st1 := [.int q992, .int q990]) (As := [.int x2_987]) (rest := [.int q990]) hCF (k_X6_nearestTo (sh 1 a) (S 0) x2_987 hq992) (cwV 1 hts gX7_loses_X6_nearestTo rfl rfl rfl ⟨rfl, dk_X6_nearestTo⟩ ⟨Nat.le_of_ble_eq_true rfl, Nat.le_of_ble_eq_true rfl⟩) hE hAB hP hD hS [1, 2, 3, 4, 5, 6, 7, 8] rfl rfl (va_recv hE.1 hP (ci := 3) (q0 := 1) rfl rfl) rfl rfl rfl rfl hl.1 rfl (Nat.le_of_ble_eq_true rfl) dX7_loses_37 ⟨Nat.le_refl _, Nat.le_refl _⟩ (fun H locs hP hD hS => ?_)
          refine lv_icmp_ne (tgt := 49) hx hb dX7_loses_40 (by decide) (fun c993 => ?_) (fun c993 => ?_)
          · have hf := ifF hf c993
            refine lv_iinc (v := (x2_987 + (1 : Int32))) (lv' := [(2, .int (x2_987 + (1 : Int32))), (3, .int q990), (0, .ref (a 0)), (1, .int x1_986)]) hx hb dX7_loses_49 hl (k := 3) rfl rfl (by decide) rfl (fun ls hl => ?_)
            refine lv_goto (tgt := 4) hx hb dX7_loses_52 (by decide) ?_
            exact ih x1_986 (x2_987 + (1 : Int32)) _ _ _ hP hD hS (lv_sub hl [2, 3, 0] rfl) hf
          · have hf := ifT hf c993
            refine lv_iload_n hx hb dX7_loses_43 rfl (lv_at hl 2 rfl) ?_
            refine lv_iconst (v := (1 : Int32)) hx hb dX7_loses_44 (by decide) ?_
            refine lv_iload_n hx hb dX7_loses_45 rfl (lv_at hl 3 rfl) ?_
            refine lv_ishl hx hb dX7_loses_46 ?_
            refine lv_ior hx hb dX7_loses_47 ?_
            refine lv_istore_n (lv' := [(1, .int (x1_986 ||| ((1 : Int32) <<< (x2_987 &&& 31)))), (3, .int q990), (0, .ref (a 0)), (2, .int x2_987)]) hx hb dX7_loses_48 rfl hl (by decide) rfl (fun ls hl => ?_)
            refine lv_iinc (v := (x2_987 + (1 : Int32))) (lv' := [(2, .int (x2_987 + (1 : Int32))), (1, .int (x1_986 ||| ((1 : Int32) <<< (x2_987 &&& 31)))), (3, .int q990), (0, .ref (a 0))]) hx hb dX7_loses_49 hl (k := 3) rfl rfl (by decide) rfl (fun ls hl => ?_)
            refine lv_goto (tgt := 4) hx hb dX7_loses_52 (by decide) ?_
            exact ih (x1_986 ||| ((1 : Int32) <<< (x2_987 &&& 31))) (x2_987 + (1 : Int32)) _ _ _ hP hD hS (lv_sub hl [3, 1, 0] rfl) hf
  exact L4_988 FUEL (0 : Int32) (0 : Int32) _ _ _ hP hD hS (lv_sub hl [2, 1, 0] rfl) hf
theorem dk_X7_lots : yX7_lots.cls ≠ "java/lang/invoke/MethodHandle" ∧ yX7_lots.cls ≠ "java/lang/invoke/VarHandle" ∧ (parseMethodDescriptor yX7_lots.desc).map (fun d => d.parameters.length) = some 3 := by decide +kernel
theorem iu_X7_lots_X7 : ∀ w ∈ u_ws RX7 TX7 8, w ∈ wsX7_lots := by decide +kernel
set_option maxHeartbeats 4000000 in
set_option maxRecDepth 100000 in
theorem k_X7_lots {l : Launch} {G : Gx} (a : Nat → Nat) (S : (Nat → St)) (x1 : Int32) (x2 : Int32) (x3 : Int32) {r : Int32} {S' : (Nat → St)} (hf : f_X7_lots S x1 x2 x3 = some (r, S')) : FC l G yX7_lots wsX7_lots ({ frames := 5, cells := 0, slots := 0, locals := 126 } : Room) [.ref (a 0), .int x1, .int x2, .int x3] (cW G a S) (cW G a S') (some (.int r)) := by
  refine fc_head (cc := cX7_lots) (maxL := 8) (ret := (some .int)) (C := RX7) (lv := [(0, .ref (a 0)), (1, .int x1), (2, .int x2), (3, .int x3)]) (by decide) rfl rfl (Nat.le_of_ble_eq_true rfl) rfl ?_
  intro p e s m below meth c ls A hx hb hr hml hown hts hlocks hE hP hD hAB hS hl
  have hCF : CallFix p m c cX7_lots 8 s ([.ref (a 0), .int x1, .int x2, .int x3] : List Value).toArray wsX7_lots RX7 := ⟨hx, hb, hml, hown, hts⟩
  have hwX7 : ∀ w ∈ u_ws RX7 TX7 8, w.before ([.ref (a 0), .int x1, .int x2, .int x3] : List Value).toArray s = true := fun w h => hts w (iu_X7_lots_X7 w h)
  have hk_fieldLink_RX7_16__BrideNotKnown___thought___LBrideNotKnown_Valley__ := hts (.fieldLink RX7 16 "BrideNotKnown" "thought" "LBrideNotKnown$Valley;") (List.mem_of_getElem? (i := 1) rfl)
  have hk_fieldLink_RX7_10__BrideNotKnown___now___LBrideNotKnown_Valley__ := hts (.fieldLink RX7 10 "BrideNotKnown" "now" "LBrideNotKnown$Valley;") (List.mem_of_getElem? (i := 2) rfl)
  rw [f_X7_lots] at hf
  refine lv_iload_n hx hb dX7_lots_0 rfl (lv_at hl 1 rfl) ?_
  refine lv_iconst (v := (1 : Int32)) hx hb dX7_lots_1 (by decide) ?_
  refine lv_bipush (v := (20 : Int32)) hx hb dX7_lots_2 (by decide) ?_
  obtain ⟨q1001, hq1001, hf⟩ := bnd hf
  refine fc_callS (Wa' := (cW G a S)) (st1 := [.int q1001]) (As := [.int x1, .int (1 : Int32), .int (20 : Int32)]) (rest := []) hCF (k_X7_outside x1 (1 : Int32) (20 : Int32) hq1001) (va_cwS 3 hts gX7_lots_X7_outside rfl rfl rfl dk_X7_outside ⟨Nat.le_of_ble_eq_true rfl, Nat.le_of_ble_eq_true rfl⟩) hE hAB hP hD hS [] rfl rfl rfl rfl rfl rfl hl.1 rfl (Nat.le_of_ble_eq_true rfl) dX7_lots_4 ⟨Nat.le_refl _, Nat.le_refl _⟩ (fun H locs hP hD hS => ?_)
  refine lv_istore (lv' := [(4, .int q1001), (0, .ref (a 0)), (1, .int x1), (2, .int x2), (3, .int x3)]) hx hb dX7_lots_7 hl (by decide) rfl (fun ls hl => ?_)
  refine lv_iload hx hb dX7_lots_9 (lv_at hl 0 rfl) ?_
  refine lv_if_eq (tgt := 21) hx hb dX7_lots_11 (by decide) (fun c1002 => ?_) (fun c1002 => ?_)
  · have hf := ifT hf c1002
    refine lv_iload_n hx hb dX7_lots_21 rfl (lv_at hl 4 rfl) ?_
    obtain ⟨q1003, hq1003, hf⟩ := bnd hf
    refine fc_callS (Wa' := (cW G a S)) (st1 := [.int q1003]) (As := [.int x3]) (rest := []) hCF (k_X7_isNotEither x3 hq1003) (va_cwS 1 hts gX7_lots_X7_isNotEither rfl rfl rfl dk_X7_isNotEither ⟨Nat.le_of_ble_eq_true rfl, Nat.le_of_ble_eq_true rfl⟩) hE hAB hP hD hS [] rfl rfl rfl rfl rfl rfl hl.1 rfl (Nat.le_of_ble_eq_true rfl) dX7_lots_22 ⟨Nat.le_refl _, Nat.le_refl _⟩ (fun H locs hP hD hS => ?_)
    refine lv_if_eq (tgt := 35) hx hb dX7_lots_25 (by decide) (fun c1004 => ?_) (fun c1004 => ?_)
    · have hf := ifT hf c1004
      refine lv_iload_n hx hb dX7_lots_35 rfl (lv_at hl 3 rfl) ?_
      refine lv_istore (lv' := [(5, .int x2), (4, .int q1001), (0, .ref (a 0)), (1, .int x1), (2, .int x2), (3, .int x3)]) hx hb dX7_lots_36 hl (by decide) rfl (fun ls hl => ?_)
      refine lv_iconst (v := (0 : Int32)) hx hb dX7_lots_38 (by decide) ?_
      refine lv_istore (lv' := [(6, .int (0 : Int32)), (5, .int x2), (4, .int q1001), (0, .ref (a 0)), (1, .int x1), (2, .int x2), (3, .int x3)]) hx hb dX7_lots_39 hl (by decide) rfl (fun ls hl => ?_)
      refine lv_iconst (v := (0 : Int32)) hx hb dX7_lots_41 (by decide) ?_
      refine lv_istore (lv' := [(7, .int (0 : Int32)), (6, .int (0 : Int32)), (5, .int x2), (4, .int q1001), (0, .ref (a 0)), (1, .int x1), (2, .int x2), (3, .int x3)]) hx hb dX7_lots_42 hl (by decide) rfl (fun ls hl => ?_)
      have L44_1009 : ∀ (n : Nat) (x5_1005 : Int32) (x6_1006 : Int32) (x7_1007 : Int32) (S_1008 : (Nat → St)) (H : Heap) (locs : List Loc) (ls : Array Slot), va_P (gD G) vwCl (cW G a S_1008) H → va_D A (cW G a S_1008) → va_S A s.heap H locs → lv_has ls 8 [(0, .ref (a 0)), (1, .int x1), (3, .int x3), (5, .int x5_1005), (6, .int x6_1006), (7, .int x7_1007)] → f_X7_lots_44 x1 x3 n x5_1005 x6_1006 x7_1007 S_1008 = some (r, S') → W p l e (headSpec wsX7_lots ({ frames := 5, cells := 0, slots := 0, locals := 126 } : Room)).room s m ([.ref (a 0), .int x1, .int x2, .int x3] : List Value).toArray below meth c H locs 0 0 (MQ below (FQ G A (cW G a S') (some (.int r))) ([.ref (a 0), .int x1, .int x2, .int x3] : List Value).toArray s 0 0 A) (F0 m 44 ls []) := by
        intro n
        induction n with
        | zero =>
          intro x5_1005 x6_1006 x7_1007 S_1008 H locs ls hP hD hS hl hf
          exact no_some hf
        | succ n ih =>
          intro x5_1005 x6_1006 x7_1007 S_1008 H locs ls hP hD hS hl hf
          rw [f_X7_lots_44] at hf
          refine lv_iload hx hb dX7_lots_44 (lv_at hl 5 rfl) ?_
          refine lv_iload_n hx hb dX7_lots_46 rfl (lv_at hl 1 rfl) ?_
          refine lv_icmp_ge (tgt := 91) hx hb dX7_lots_47 (by decide) (fun c1010 => ?_) (fun c1010 => ?_)
          · have hf := ifT hf c1010
            refine lv_iload hx hb dX7_lots_91 (lv_at hl 4 rfl) ?_
            exact fc_reti hx hb hr hlocks hP hS dX7_lots_93 (i2a hf) (congrArg (fun z => (cW G a z)) (i2b hf))
          · have hf := ifF hf c1010
            refine lv_aload_n hx hb dX7_lots_50 rfl (lv_at hl 0 rfl) ?_
            refine fc_get (v := .ref (a 9)) (ci := 4) (C := RX7) (T := TX7) (N := 8) hx hb hwX7 hown hE hP 0 rfl rfl 1 (by decide) hk_fieldLink_RX7_16__BrideNotKnown___thought___LBrideNotKnown_Valley__ (fun _ h => h) rfl dX7_lots_51 ?_
            refine lv_aload_n hx hb dX7_lots_54 rfl (lv_at hl 0 rfl) ?_
            refine fc_get (v := .ref (a 1)) (ci := 4) (C := RX7) (T := TX7) (N := 8) hx hb hwX7 hown hE hP 0 rfl rfl 0 (by decide) hk_fieldLink_RX7_10__BrideNotKnown___now___LBrideNotKnown_Valley__ (fun _ h => h) rfl dX7_lots_55 ?_
            obtain ⟨q1011, hq1011, hf⟩ := bnd hf
            refine fc_callV (Wa' := (cW G a (sS S_1008 1 q1011))) (st1 := []) (As := [.ref (a 1)]) (rest := []) hCF (k_X6_become (sh 9 a) (S_1008 1) (sh 1 a) (S_1008 0) hq1011) (cwV 1 hts gX7_lots_X6_become rfl rfl rfl ⟨rfl, dk_X6_become⟩ ⟨Nat.le_of_ble_eq_true rfl, Nat.le_of_ble_eq_true rfl⟩) hE hAB hP hD hS [9, 10, 11, 12, 13, 14, 15, 16, 1, 2, 3, 4, 5, 6, 7, 8] rfl rfl (va_recv hE.1 hP (ci := 3) (q0 := 9) rfl rfl) rfl rfl rfl rfl hl.1 rfl (Nat.le_of_ble_eq_true rfl) dX7_lots_58 ⟨Nat.le_refl _, Nat.le_refl _⟩ (fun H locs hP hD hS => ?_)
            refine lv_aload_n hx hb dX7_lots_61 rfl (lv_at hl 0 rfl) ?_
            refine fc_get (v := .ref (a 9)) (ci := 4) (C := RX7) (T := TX7) (N := 8) hx hb hwX7 hown hE hP 0 rfl rfl 1 (by decide) hk_fieldLink_RX7_16__BrideNotKnown___thought___LBrideNotKnown_Valley__ (fun _ h => h) rfl dX7_lots_62 ?_
            refine lv_iload hx hb dX7_lots_65 (lv_at hl 3 rfl) ?_
            obtain ⟨q1012, hq1012, hf⟩ := bnd hf
            refine fc_callV (Wa' := (cW G a (sS S_1008 1 q1012.2))) (st1 := [.int q1012.1]) (As := [.int x5_1005]) (rest := []) hCF (k_X6_drawFeetAndMinds (sh 9 a) q1011 x5_1005 hq1012) (cwV 1 hts gX7_lots_X6_drawFeetAndMinds rfl rfl rfl ⟨rfl, dk_X6_drawFeetAndMinds⟩ ⟨Nat.le_of_ble_eq_true rfl, Nat.le_of_ble_eq_true rfl⟩) hE hAB hP hD hS [9, 10, 11, 12, 13, 14, 15, 16] rfl rfl (va_recv hE.1 hP (ci := 3) (q0 := 9) rfl rfl) rfl rfl rfl rfl hl.1 rfl (Nat.le_of_ble_eq_true rfl) dX7_lots_67 ⟨Nat.le_refl _, Nat.le_refl _⟩ (fun H locs hP hD hS => ?_)
            refine lv_istore (lv' := [(5, .int q1012.1), (0, .ref (a 0)), (1, .int x1), (3, .int x3), (6, .int x6_1006), (7, .int x7_1007)]) hx hb dX7_lots_70 hl (by decide) rfl (fun ls hl => ?_)
            refine lv_iload hx hb dX7_lots_72 (lv_at hl 4 rfl) ?_
            refine lv_aload_n hx hb dX7_lots_74 rfl (lv_at hl 1 rfl) ?_
            refine fc_get (v := .ref (a 9)) (ci := 4) (C := RX7) (T := TX7) (N := 8) hx hb hwX7 hown hE hP 0 rfl rfl 1 (by decide) hk_fieldLink_RX7_16__BrideNotKnown___thought___LBrideNotKnown_Valley__ (fun _ h => h) rfl dX7_lots_75 ?_
            refine lv_iload_n hx hb dX7_lots_78 rfl (lv_at hl 3 rfl) ?_
            obtain ⟨q1013, hq1013, hf⟩ := bnd hf
            refine fc_callV (Wa' := (cW G a (sS S_1008 1 q1013.2))) (st1 := [.int q1013.1, .int x6_1006]) (As := [.int x3]) (rest := [.int x6_1006]) hCF (k_X6_wedAll (sh 9 a) q1012.2 x3 hq1013) (cwV 1 hts gX7_lots_X6_wedAll rfl rfl rfl ⟨rfl, dk_X6_wedAll⟩ ⟨Nat.le_of_ble_eq_true rfl, Nat.le_of_ble_eq_true rfl⟩) hE hAB hP hD hS [9, 10, 11, 12, 13, 14, 15, 16] rfl rfl (va_recv hE.1 hP (ci := 3) (q0 := 9) rfl rfl) rfl rfl rfl rfl hl.1 rfl (Nat.le_of_ble_eq_true rfl) dX7_lots_79 ⟨Nat.le_refl _, Nat.le_refl _⟩ (fun H locs hP hD hS => ?_)
            refine lv_iadd hx hb dX7_lots_82 ?_
            refine lv_istore (lv' := [(6, .int (x6_1006 + q1013.1)), (5, .int q1012.1), (0, .ref (a 0)), (1, .int x1), (3, .int x3), (7, .int x7_1007)]) hx hb dX7_lots_83 hl (by decide) rfl (fun ls hl => ?_)
            refine lv_iinc (v := (x7_1007 + (1 : Int32))) (lv' := [(7, .int (x7_1007 + (1 : Int32))), (6, .int (x6_1006 + q1013.1)), (5, .int q1012.1), (0, .ref (a 0)), (1, .int x1), (3, .int x3)]) hx hb dX7_lots_85 hl (k := 5) rfl rfl (by decide) rfl (fun ls hl => ?_)
            refine lv_goto (tgt := 44) hx hb dX7_lots_88 (by decide) ?_
            exact ih q1012.1 (x6_1006 + q1013.1) (x7_1007 + (1 : Int32)) (sS S_1008 1 q1013.2) _ _ _ hP hD hS (lv_sub hl [3, 4, 5, 2, 1, 0] rfl) hf
      exact L44_1009 FUEL x2 (0 : Int32) (0 : Int32) S _ _ _ hP hD hS (lv_sub hl [4, 5, 7, 2, 1, 0] rfl) hf
    · have hf := ifF hf c1004
      refine lv_aload_n hx hb dX7_lots_28 rfl (lv_at hl 1 rfl) ?_
      refine lv_bipush (v := (-2 : Int32)) hx hb dX7_lots_29 (by decide) ?_
      obtain ⟨q1014, hq1014, hf⟩ := bnd hf
      refine fc_callV (Wa' := (cW G a q1014.2)) (st1 := [.int q1014.1]) (As := [.int (-2 : Int32)]) (rest := []) hCF (k_X7_refuse a S (-2 : Int32) hq1014) (cwV 1 hts gX7_lots_X7_refuse rfl rfl rfl ⟨rfl, dk_X7_refuse⟩ ⟨Nat.le_of_ble_eq_true rfl, Nat.le_of_ble_eq_true rfl⟩) hE hAB hP hD hS [0, 1, 2, 3, 4, 5, 6, 7, 8, 9, 10, 11, 12, 13, 14, 15, 16, 17, 18, 19, 20, 21, 22, 23, 24, 25, 26, 27, 28, 29, 30, 31] rfl rfl (va_recv hE.1 hP (ci := 4) (q0 := 0) rfl rfl) rfl rfl rfl rfl hl.1 rfl (Nat.le_of_ble_eq_true rfl) dX7_lots_31 ⟨Nat.le_refl _, Nat.le_refl _⟩ (fun H locs hP hD hS => ?_)
      exact fc_reti hx hb hr hlocks hP hS dX7_lots_34 (i2a hf) (congrArg (fun z => (cW G a z)) (i2b hf))
  · have hf := ifF hf c1002
    refine lv_aload_n hx hb dX7_lots_14 rfl (lv_at hl 1 rfl) ?_
    refine lv_iload hx hb dX7_lots_15 (lv_at hl 0 rfl) ?_
    obtain ⟨q1015, hq1015, hf⟩ := bnd hf
    refine fc_callV (Wa' := (cW G a q1015.2)) (st1 := [.int q1015.1]) (As := [.int q1001]) (rest := []) hCF (k_X7_refuse a S q1001 hq1015) (cwV 1 hts gX7_lots_X7_refuse rfl rfl rfl ⟨rfl, dk_X7_refuse⟩ ⟨Nat.le_of_ble_eq_true rfl, Nat.le_of_ble_eq_true rfl⟩) hE hAB hP hD hS [0, 1, 2, 3, 4, 5, 6, 7, 8, 9, 10, 11, 12, 13, 14, 15, 16, 17, 18, 19, 20, 21, 22, 23, 24, 25, 26, 27, 28, 29, 30, 31] rfl rfl (va_recv hE.1 hP (ci := 4) (q0 := 0) rfl rfl) rfl rfl rfl rfl hl.1 rfl (Nat.le_of_ble_eq_true rfl) dX7_lots_17 ⟨Nat.le_refl _, Nat.le_refl _⟩ (fun H locs hP hD hS => ?_)
    exact fc_reti hx hb hr hlocks hP hS dX7_lots_20 (i2a hf) (congrArg (fun z => (cW G a z)) (i2b hf))
theorem dk_X7_mean : yX7_mean.cls ≠ "java/lang/invoke/MethodHandle" ∧ yX7_mean.cls ≠ "java/lang/invoke/VarHandle" ∧ (parseMethodDescriptor yX7_mean.desc).map (fun d => d.parameters.length) = some 1 := by decide +kernel
theorem iu_X7_mean_X7 : ∀ w ∈ u_ws RX7 TX7 8, w ∈ wsX7_mean := by decide +kernel
set_option maxHeartbeats 4000000 in
set_option maxRecDepth 100000 in
theorem k_X7_mean {l : Launch} {G : Gx} (a : Nat → Nat) (S : (Nat → St)) (x1 : Int32) {r : Int64} {S' : (Nat → St)} (hf : f_X7_mean S x1 = some (r, S')) : FC l G yX7_mean wsX7_mean ({ frames := 3, cells := 0, slots := 0, locals := 80 } : Room) [.ref (a 0), .int x1] (cW G a S) (cW G a S') (some (.long r)) := by
  refine fc_head (cc := cX7_mean) (maxL := 2) (ret := (some .long)) (C := RX7) (lv := [(0, .ref (a 0)), (1, .int x1)]) (by decide) rfl rfl (Nat.le_of_ble_eq_true rfl) rfl ?_
  intro p e s m below meth c ls A hx hb hr hml hown hts hlocks hE hP hD hAB hS hl
  have hCF : CallFix p m c cX7_mean 2 s ([.ref (a 0), .int x1] : List Value).toArray wsX7_mean RX7 := ⟨hx, hb, hml, hown, hts⟩
  have hwX7 : ∀ w ∈ u_ws RX7 TX7 8, w.before ([.ref (a 0), .int x1] : List Value).toArray s = true := fun w h => hts w (iu_X7_mean_X7 w h)
  have hk_fieldLink_RX7_10__BrideNotKnown___now___LBrideNotKnown_Valley__ := hts (.fieldLink RX7 10 "BrideNotKnown" "now" "LBrideNotKnown$Valley;") (List.mem_of_getElem? (i := 1) rfl)
  rw [f_X7_mean] at hf
  refine lv_iload_n hx hb dX7_mean_0 rfl (lv_at hl 1 rfl) ?_
  obtain ⟨q1019, hq1019, hf⟩ := bnd hf
  refine fc_callS (Wa' := (cW G a S)) (st1 := [.int q1019]) (As := [.int x1]) (rest := []) hCF (k_X7_isNotEither x1 hq1019) (va_cwS 1 hts gX7_mean_X7_isNotEither rfl rfl rfl dk_X7_isNotEither ⟨Nat.le_of_ble_eq_true rfl, Nat.le_of_ble_eq_true rfl⟩) hE hAB hP hD hS [] rfl rfl rfl rfl rfl rfl hl.1 rfl (Nat.le_of_ble_eq_true rfl) dX7_mean_1 ⟨Nat.le_refl _, Nat.le_refl _⟩ (fun H locs hP hD hS => ?_)
  refine lv_if_eq (tgt := 14) hx hb dX7_mean_4 (by decide) (fun c1020 => ?_) (fun c1020 => ?_)
  · have hf := ifT hf c1020
    refine lv_aload_n hx hb dX7_mean_14 rfl (lv_at hl 0 rfl) ?_
    refine fc_get (v := .ref (a 1)) (ci := 4) (C := RX7) (T := TX7) (N := 8) hx hb hwX7 hown hE hP 0 rfl rfl 0 (by decide) hk_fieldLink_RX7_10__BrideNotKnown___now___LBrideNotKnown_Valley__ (fun _ h => h) rfl dX7_mean_15 ?_
    refine lv_iload_n hx hb dX7_mean_18 rfl (lv_at hl 1 rfl) ?_
    obtain ⟨q1021, hq1021, hf⟩ := bnd hf
    refine fc_callS (Wa' := (cW G a S)) (st1 := [.long q1021]) (As := [.ref (a 1), .int x1]) (rest := []) hCF (k_X2_meanToes (sh 1 a) (S 0) x1 hq1021) (va_cwS 2 hts gX7_mean_X2_meanToes rfl rfl rfl dk_X2_meanToes ⟨Nat.le_of_ble_eq_true rfl, Nat.le_of_ble_eq_true rfl⟩) hE hAB hP hD hS [1, 2, 3, 4, 5, 6, 7, 8] rfl rfl rfl rfl rfl rfl hl.1 rfl (Nat.le_of_ble_eq_true rfl) dX7_mean_19 ⟨Nat.le_refl _, Nat.le_refl _⟩ (fun H locs hP hD hS => ?_)
    exact fc_retl hx hb hr hlocks hP hS dX7_mean_22 (i2a hf) (congrArg (fun z => (cW G a z)) (i2b hf))
  · have hf := ifF hf c1020
    refine lv_aload_n hx hb dX7_mean_7 rfl (lv_at hl 0 rfl) ?_
    refine lv_bipush (v := (-2 : Int32)) hx hb dX7_mean_8 (by decide) ?_
    obtain ⟨q1022, hq1022, hf⟩ := bnd hf
    refine fc_callV (Wa' := (cW G a q1022.2)) (st1 := [.long q1022.1]) (As := [.int (-2 : Int32)]) (rest := []) hCF (k_X7_refuseLong a S (-2 : Int32) hq1022) (cwV 1 hts gX7_mean_X7_refuseLong rfl rfl rfl ⟨rfl, dk_X7_refuseLong⟩ ⟨Nat.le_of_ble_eq_true rfl, Nat.le_of_ble_eq_true rfl⟩) hE hAB hP hD hS [0, 1, 2, 3, 4, 5, 6, 7, 8, 9, 10, 11, 12, 13, 14, 15, 16, 17, 18, 19, 20, 21, 22, 23, 24, 25, 26, 27, 28, 29, 30, 31] rfl rfl (va_recv hE.1 hP (ci := 4) (q0 := 0) rfl rfl) rfl rfl rfl rfl hl.1 rfl (Nat.le_of_ble_eq_true rfl) dX7_mean_10 ⟨Nat.le_refl _, Nat.le_refl _⟩ (fun H locs hP hD hS => ?_)
    exact fc_retl hx hb hr hlocks hP hS dX7_mean_13 (i2a hf) (congrArg (fun z => (cW G a z)) (i2b hf))
theorem dk_X7_meant : yX7_meant.cls ≠ "java/lang/invoke/MethodHandle" ∧ yX7_meant.cls ≠ "java/lang/invoke/VarHandle" ∧ (parseMethodDescriptor yX7_meant.desc).map (fun d => d.parameters.length) = some 2 := by decide +kernel
theorem iu_X7_meant_X7 : ∀ w ∈ u_ws RX7 TX7 8, w ∈ wsX7_meant := by decide +kernel
set_option maxHeartbeats 4000000 in
set_option maxRecDepth 100000 in
theorem k_X7_meant {l : Launch} {G : Gx} (a : Nat → Nat) (S : (Nat → St)) (x1 : Int32) (x2 : Int32) {r : Int32} {S' : (Nat → St)} (hf : f_X7_meant S x1 x2 = some (r, S')) : FC l G yX7_meant wsX7_meant ({ frames := 4, cells := 0, slots := 0, locals := 89 } : Room) [.ref (a 0), .int x1, .int x2] (cW G a S) (cW G a S') (some (.int r)) := by
  refine fc_head (cc := cX7_meant) (maxL := 4) (ret := (some .int)) (C := RX7) (lv := [(0, .ref (a 0)), (1, .int x1), (2, .int x2)]) (by decide) rfl rfl (Nat.le_of_ble_eq_true rfl) rfl ?_
  intro p e s m below meth c ls A hx hb hr hml hown hts hlocks hE hP hD hAB hS hl
  have hCF : CallFix p m c cX7_meant 4 s ([.ref (a 0), .int x1, .int x2] : List Value).toArray wsX7_meant RX7 := ⟨hx, hb, hml, hown, hts⟩
  have hwX7 : ∀ w ∈ u_ws RX7 TX7 8, w.before ([.ref (a 0), .int x1, .int x2] : List Value).toArray s = true := fun w h => hts w (iu_X7_meant_X7 w h)
  have hk_fieldLink_RX7_10__BrideNotKnown___now___LBrideNotKnown_Valley__ := hts (.fieldLink RX7 10 "BrideNotKnown" "now" "LBrideNotKnown$Valley;") (List.mem_of_getElem? (i := 1) rfl)
  rw [f_X7_meant] at hf
  refine lv_aload_n hx hb dX7_meant_0 rfl (lv_at hl 0 rfl) ?_
  refine fc_get (v := .ref (a 1)) (ci := 4) (C := RX7) (T := TX7) (N := 8) hx hb hwX7 hown hE hP 0 rfl rfl 0 (by decide) hk_fieldLink_RX7_10__BrideNotKnown___now___LBrideNotKnown_Valley__ (fun _ h => h) rfl dX7_meant_1 ?_
  refine lv_iload_n hx hb dX7_meant_4 rfl (lv_at hl 1 rfl) ?_
  obtain ⟨q1029, hq1029, hf⟩ := bnd hf
  refine fc_callV (Wa' := (cW G a S)) (st1 := [.int q1029]) (As := [.int x1]) (rest := []) hCF (k_X6_hasGroom (sh 1 a) (S 0) x1 hq1029) (cwV 1 hts gX7_meant_X6_hasGroom rfl rfl rfl ⟨rfl, dk_X6_hasGroom⟩ ⟨Nat.le_of_ble_eq_true rfl, Nat.le_of_ble_eq_true rfl⟩) hE hAB hP hD hS [1, 2, 3, 4, 5, 6, 7, 8] rfl rfl (va_recv hE.1 hP (ci := 3) (q0 := 1) rfl rfl) rfl rfl rfl rfl hl.1 rfl (Nat.le_of_ble_eq_true rfl) dX7_meant_5 ⟨Nat.le_refl _, Nat.le_refl _⟩ (fun H locs hP hD hS => ?_)
  refine lv_if_ne (tgt := 17) hx hb dX7_meant_8 (by decide) (fun c1030 => ?_) (fun c1030 => ?_)
  · have hf := ifF hf c1030
    refine lv_iload_n hx hb dX7_meant_17 rfl (lv_at hl 2 rfl) ?_
    obtain ⟨q1031, hq1031, hf⟩ := bnd hf
    refine fc_callS (Wa' := (cW G a S)) (st1 := [.int q1031]) (As := [.int x2]) (rest := []) hCF (k_X7_isNotEither x2 hq1031) (va_cwS 1 hts gX7_meant_X7_isNotEither rfl rfl rfl dk_X7_isNotEither ⟨Nat.le_of_ble_eq_true rfl, Nat.le_of_ble_eq_true rfl⟩) hE hAB hP hD hS [] rfl rfl rfl rfl rfl rfl hl.1 rfl (Nat.le_of_ble_eq_true rfl) dX7_meant_18 ⟨Nat.le_refl _, Nat.le_refl _⟩ (fun H locs hP hD hS => ?_)
    refine lv_if_eq (tgt := 31) hx hb dX7_meant_21 (by decide) (fun c1032 => ?_) (fun c1032 => ?_)
    · have hf := ifT hf c1032
      refine lv_aload_n hx hb dX7_meant_31 rfl (lv_at hl 0 rfl) ?_
      refine fc_get (v := .ref (a 1)) (ci := 4) (C := RX7) (T := TX7) (N := 8) hx hb hwX7 hown hE hP 0 rfl rfl 0 (by decide) hk_fieldLink_RX7_10__BrideNotKnown___now___LBrideNotKnown_Valley__ (fun _ h => h) rfl dX7_meant_32 ?_
      refine lv_iload_n hx hb dX7_meant_35 rfl (lv_at hl 1 rfl) ?_
      obtain ⟨q1033, hq1033, hf⟩ := bnd hf
      refine fc_callV (Wa' := (cW G a S)) (st1 := [.int q1033]) (As := [.int x1]) (rest := []) hCF (k_X6_nearestTo (sh 1 a) (S 0) x1 hq1033) (cwV 1 hts gX7_meant_X6_nearestTo rfl rfl rfl ⟨rfl, dk_X6_nearestTo⟩ ⟨Nat.le_of_ble_eq_true rfl, Nat.le_of_ble_eq_true rfl⟩) hE hAB hP hD hS [1, 2, 3, 4, 5, 6, 7, 8] rfl rfl (va_recv hE.1 hP (ci := 3) (q0 := 1) rfl rfl) rfl rfl rfl rfl hl.1 rfl (Nat.le_of_ble_eq_true rfl) dX7_meant_36 ⟨Nat.le_refl _, Nat.le_refl _⟩ (fun H locs hP hD hS => ?_)
      refine lv_istore_n (lv' := [(3, .int q1033), (0, .ref (a 0)), (1, .int x1), (2, .int x2)]) hx hb dX7_meant_39 rfl hl (by decide) rfl (fun ls hl => ?_)
      refine lv_iload_n hx hb dX7_meant_40 rfl (lv_at hl 3 rfl) ?_
      refine lv_if_eq (tgt := 50) hx hb dX7_meant_41 (by decide) (fun c1034 => ?_) (fun c1034 => ?_)
      · have hf := ifT hf c1034
        refine lv_iload_n hx hb dX7_meant_50 rfl (lv_at hl 0 rfl) ?_
        refine lv_goto (tgt := 63) hx hb dX7_meant_51 (by decide) ?_
        exact fc_reti hx hb hr hlocks hP hS dX7_meant_63 (i2a hf) (congrArg (fun z => (cW G a z)) (i2b hf))
      · have hf := ifF hf c1034
        refine lv_iload_n hx hb dX7_meant_44 rfl (lv_at hl 0 rfl) ?_
        refine lv_bipush (v := (-9 : Int32)) hx hb dX7_meant_45 (by decide) ?_
        refine lv_icmp_ne (tgt := 54) hx hb dX7_meant_47 (by decide) (fun c1035 => ?_) (fun c1035 => ?_)
        · have hf := ifF hf c1035
          refine lv_aload_n hx hb dX7_meant_54 rfl (lv_at hl 1 rfl) ?_
          refine fc_get (v := .ref (a 1)) (ci := 4) (C := RX7) (T := TX7) (N := 8) hx hb hwX7 hown hE hP 0 rfl rfl 0 (by decide) hk_fieldLink_RX7_10__BrideNotKnown___now___LBrideNotKnown_Valley__ (fun _ h => h) rfl dX7_meant_55 ?_
          refine lv_iload_n hx hb dX7_meant_58 rfl (lv_at hl 2 rfl) ?_
          refine lv_iload_n hx hb dX7_meant_59 rfl (lv_at hl 0 rfl) ?_
          obtain ⟨q1036, hq1036, hf⟩ := bnd hf
          refine fc_callV (Wa' := (cW G a S)) (st1 := [.int q1036]) (As := [.int x1, .int q1033]) (rest := []) hCF (k_X6_toesFromMind (sh 1 a) (S 0) x1 q1033 hq1036) (cwV 2 hts gX7_meant_X6_toesFromMind rfl rfl rfl ⟨rfl, dk_X6_toesFromMind⟩ ⟨Nat.le_of_ble_eq_true rfl, Nat.le_of_ble_eq_true rfl⟩) hE hAB hP hD hS [1, 2, 3, 4, 5, 6, 7, 8] rfl rfl (va_recv hE.1 hP (ci := 3) (q0 := 1) rfl rfl) rfl rfl rfl rfl hl.1 rfl (Nat.le_of_ble_eq_true rfl) dX7_meant_60 ⟨Nat.le_refl _, Nat.le_refl _⟩ (fun H locs hP hD hS => ?_)
          exact fc_reti hx hb hr hlocks hP hS dX7_meant_63 (i2a hf) (congrArg (fun z => (cW G a z)) (i2b hf))
        · have hf := ifT hf c1035
          refine lv_iload_n hx hb dX7_meant_50 rfl (lv_at hl 0 rfl) ?_
          refine lv_goto (tgt := 63) hx hb dX7_meant_51 (by decide) ?_
          exact fc_reti hx hb hr hlocks hP hS dX7_meant_63 (i2a hf) (congrArg (fun z => (cW G a z)) (i2b hf))
    · have hf := ifF hf c1032
      refine lv_aload_n hx hb dX7_meant_24 rfl (lv_at hl 0 rfl) ?_
      refine lv_bipush (v := (-2 : Int32)) hx hb dX7_meant_25 (by decide) ?_
      obtain ⟨q1037, hq1037, hf⟩ := bnd hf
      refine fc_callV (Wa' := (cW G a q1037.2)) (st1 := [.int q1037.1]) (As := [.int (-2 : Int32)]) (rest := []) hCF (k_X7_refuse a S (-2 : Int32) hq1037) (cwV 1 hts gX7_meant_X7_refuse rfl rfl rfl ⟨rfl, dk_X7_refuse⟩ ⟨Nat.le_of_ble_eq_true rfl, Nat.le_of_ble_eq_true rfl⟩) hE hAB hP hD hS [0, 1, 2, 3, 4, 5, 6, 7, 8, 9, 10, 11, 12, 13, 14, 15, 16, 17, 18, 19, 20, 21, 22, 23, 24, 25, 26, 27, 28, 29, 30, 31] rfl rfl (va_recv hE.1 hP (ci := 4) (q0 := 0) rfl rfl) rfl rfl rfl rfl hl.1 rfl (Nat.le_of_ble_eq_true rfl) dX7_meant_27 ⟨Nat.le_refl _, Nat.le_refl _⟩ (fun H locs hP hD hS => ?_)
      exact fc_reti hx hb hr hlocks hP hS dX7_meant_30 (i2a hf) (congrArg (fun z => (cW G a z)) (i2b hf))
  · have hf := ifT hf c1030
    refine lv_aload_n hx hb dX7_meant_11 rfl (lv_at hl 0 rfl) ?_
    refine lv_iconst (v := (-1 : Int32)) hx hb dX7_meant_12 (by decide) ?_
    obtain ⟨q1038, hq1038, hf⟩ := bnd hf
    refine fc_callV (Wa' := (cW G a q1038.2)) (st1 := [.int q1038.1]) (As := [.int (-1 : Int32)]) (rest := []) hCF (k_X7_refuse a S (-1 : Int32) hq1038) (cwV 1 hts gX7_meant_X7_refuse rfl rfl rfl ⟨rfl, dk_X7_refuse⟩ ⟨Nat.le_of_ble_eq_true rfl, Nat.le_of_ble_eq_true rfl⟩) hE hAB hP hD hS [0, 1, 2, 3, 4, 5, 6, 7, 8, 9, 10, 11, 12, 13, 14, 15, 16, 17, 18, 19, 20, 21, 22, 23, 24, 25, 26, 27, 28, 29, 30, 31] rfl rfl (va_recv hE.1 hP (ci := 4) (q0 := 0) rfl rfl) rfl rfl rfl rfl hl.1 rfl (Nat.le_of_ble_eq_true rfl) dX7_meant_13 ⟨Nat.le_refl _, Nat.le_refl _⟩ (fun H locs hP hD hS => ?_)
    exact fc_reti hx hb hr hlocks hP hS dX7_meant_16 (i2a hf) (congrArg (fun z => (cW G a z)) (i2b hf))
theorem dk_X7_minds : yX7_minds.cls ≠ "java/lang/invoke/MethodHandle" ∧ yX7_minds.cls ≠ "java/lang/invoke/VarHandle" ∧ (parseMethodDescriptor yX7_minds.desc).map (fun d => d.parameters.length) = some 2 := by decide +kernel
theorem iu_X7_minds_X7 : ∀ w ∈ u_ws RX7 TX7 8, w ∈ wsX7_minds := by decide +kernel
set_option maxHeartbeats 4000000 in
set_option maxRecDepth 100000 in
theorem k_X7_minds {l : Launch} {G : Gx} (a : Nat → Nat) (S : (Nat → St)) (x1 : Int32) (x2 : Int32) {r : Int32} {S' : (Nat → St)} (hf : f_X7_minds S x1 x2 = some (r, S')) : FC l G yX7_minds wsX7_minds ({ frames := 2, cells := 0, slots := 0, locals := 45 } : Room) [.ref (a 0), .int x1, .int x2] (cW G a S) (cW G a S') (some (.int r)) := by
  refine fc_head (cc := cX7_minds) (maxL := 5) (ret := (some .int)) (C := RX7) (lv := [(0, .ref (a 0)), (1, .int x1), (2, .int x2)]) (by decide) rfl rfl (Nat.le_of_ble_eq_true rfl) rfl ?_
  intro p e s m below meth c ls A hx hb hr hml hown hts hlocks hE hP hD hAB hS hl
  have hCF : CallFix p m c cX7_minds 5 s ([.ref (a 0), .int x1, .int x2] : List Value).toArray wsX7_minds RX7 := ⟨hx, hb, hml, hown, hts⟩
  have hwX7 : ∀ w ∈ u_ws RX7 TX7 8, w.before ([.ref (a 0), .int x1, .int x2] : List Value).toArray s = true := fun w h => hts w (iu_X7_minds_X7 w h)
  have hk_fieldLink_RX7_10__BrideNotKnown___now___LBrideNotKnown_Valley__ := hts (.fieldLink RX7 10 "BrideNotKnown" "now" "LBrideNotKnown$Valley;") (List.mem_of_getElem? (i := 1) rfl)
  rw [f_X7_minds] at hf
  refine lv_aload_n hx hb dX7_minds_0 rfl (lv_at hl 0 rfl) ?_
  refine fc_get (v := .ref (a 1)) (ci := 4) (C := RX7) (T := TX7) (N := 8) hx hb hwX7 hown hE hP 0 rfl rfl 0 (by decide) hk_fieldLink_RX7_10__BrideNotKnown___now___LBrideNotKnown_Valley__ (fun _ h => h) rfl dX7_minds_1 ?_
  refine lv_iload_n hx hb dX7_minds_4 rfl (lv_at hl 1 rfl) ?_
  obtain ⟨q1044, hq1044, hf⟩ := bnd hf
  refine fc_callV (Wa' := (cW G a S)) (st1 := [.int q1044]) (As := [.int x1]) (rest := []) hCF (k_X6_hasGroom (sh 1 a) (S 0) x1 hq1044) (cwV 1 hts gX7_minds_X6_hasGroom rfl rfl rfl ⟨rfl, dk_X6_hasGroom⟩ ⟨Nat.le_of_ble_eq_true rfl, Nat.le_of_ble_eq_true rfl⟩) hE hAB hP hD hS [1, 2, 3, 4, 5, 6, 7, 8] rfl rfl (va_recv hE.1 hP (ci := 3) (q0 := 1) rfl rfl) rfl rfl rfl rfl hl.1 rfl (Nat.le_of_ble_eq_true rfl) dX7_minds_5 ⟨Nat.le_refl _, Nat.le_refl _⟩ (fun H locs hP hD hS => ?_)
  refine lv_iload_n hx hb dX7_minds_8 rfl (lv_at hl 2 rfl) ?_
  refine lv_iconst (v := (0 : Int32)) hx hb dX7_minds_9 (by decide) ?_
  refine lv_bipush (v := (63 : Int32)) hx hb dX7_minds_10 (by decide) ?_
  obtain ⟨q1045, hq1045, hf⟩ := bnd hf
  refine fc_callS (Wa' := (cW G a S)) (st1 := [.int q1045]) (As := [.int q1044, .int x2, .int (0 : Int32), .int (63 : Int32)]) (rest := []) hCF (k_X7_refusalOf q1044 x2 (0 : Int32) (63 : Int32) hq1045) (va_cwS 4 hts gX7_minds_X7_refusalOf rfl rfl rfl dk_X7_refusalOf ⟨Nat.le_of_ble_eq_true rfl, Nat.le_of_ble_eq_true rfl⟩) hE hAB hP hD hS [] rfl rfl rfl rfl rfl rfl hl.1 rfl (Nat.le_of_ble_eq_true rfl) dX7_minds_12 ⟨Nat.le_refl _, Nat.le_refl _⟩ (fun H locs hP hD hS => ?_)
  refine lv_istore_n (lv' := [(3, .int q1045), (0, .ref (a 0)), (1, .int x1), (2, .int x2)]) hx hb dX7_minds_15 rfl hl (by decide) rfl (fun ls hl => ?_)
  refine lv_iload_n hx hb dX7_minds_16 rfl (lv_at hl 0 rfl) ?_
  refine lv_if_eq (tgt := 26) hx hb dX7_minds_17 (by decide) (fun c1046 => ?_) (fun c1046 => ?_)
  · have hf := ifT hf c1046
    refine lv_aload_n hx hb dX7_minds_26 rfl (lv_at hl 1 rfl) ?_
    refine fc_get (v := .ref (a 1)) (ci := 4) (C := RX7) (T := TX7) (N := 8) hx hb hwX7 hown hE hP 0 rfl rfl 0 (by decide) hk_fieldLink_RX7_10__BrideNotKnown___now___LBrideNotKnown_Valley__ (fun _ h => h) rfl dX7_minds_27 ?_
    refine lv_iload_n hx hb dX7_minds_30 rfl (lv_at hl 2 rfl) ?_
    obtain ⟨q1047, hq1047, hf⟩ := bnd hf
    refine fc_callV (Wa' := (cW G a S)) (st1 := [.int q1047]) (As := [.int x1]) (rest := []) hCF (k_X6_mindOf (sh 1 a) (S 0) x1 hq1047) (cwV 1 hts gX7_minds_X6_mindOf rfl rfl rfl ⟨rfl, dk_X6_mindOf⟩ ⟨Nat.le_of_ble_eq_true rfl, Nat.le_of_ble_eq_true rfl⟩) hE hAB hP hD hS [1, 2, 3, 4, 5, 6, 7, 8] rfl rfl (va_recv hE.1 hP (ci := 3) (q0 := 1) rfl rfl) rfl rfl rfl rfl hl.1 rfl (Nat.le_of_ble_eq_true rfl) dX7_minds_31 ⟨Nat.le_refl _, Nat.le_refl _⟩ (fun H locs hP hD hS => ?_)
    refine lv_istore (lv' := [(4, .int q1047), (3, .int q1045), (0, .ref (a 0)), (1, .int x1), (2, .int x2)]) hx hb dX7_minds_34 hl (by decide) rfl (fun ls hl => ?_)
    refine lv_aload_n hx hb dX7_minds_36 rfl (lv_at hl 2 rfl) ?_
    refine fc_get (v := .ref (a 1)) (ci := 4) (C := RX7) (T := TX7) (N := 8) hx hb hwX7 hown hE hP 0 rfl rfl 0 (by decide) hk_fieldLink_RX7_10__BrideNotKnown___now___LBrideNotKnown_Valley__ (fun _ h => h) rfl dX7_minds_37 ?_
    refine lv_iload_n hx hb dX7_minds_40 rfl (lv_at hl 3 rfl) ?_
    refine lv_iload_n hx hb dX7_minds_41 rfl (lv_at hl 4 rfl) ?_
    obtain ⟨q1048, hq1048, hf⟩ := bnd hf
    refine fc_callV (Wa' := (cW G a (sS S 0 q1048))) (st1 := []) (As := [.int x1, .int x2]) (rest := []) hCF (k_X6_setMind (sh 1 a) (S 0) x1 x2 hq1048) (cwV 2 hts gX7_minds_X6_setMind rfl rfl rfl ⟨rfl, dk_X6_setMind⟩ ⟨Nat.le_of_ble_eq_true rfl, Nat.le_of_ble_eq_true rfl⟩) hE hAB hP hD hS [1, 2, 3, 4, 5, 6, 7, 8] rfl rfl (va_recv hE.1 hP (ci := 3) (q0 := 1) rfl rfl) rfl rfl rfl rfl hl.1 rfl (Nat.le_of_ble_eq_true rfl) dX7_minds_42 ⟨Nat.le_refl _, Nat.le_refl _⟩ (fun H locs hP hD hS => ?_)
    refine lv_iload hx hb dX7_minds_45 (lv_at hl 0 rfl) ?_
    exact fc_reti hx hb hr hlocks hP hS dX7_minds_47 (i2a hf) (congrArg (fun z => (cW G a z)) (i2b hf))
  · have hf := ifF hf c1046
    refine lv_aload_n hx hb dX7_minds_20 rfl (lv_at hl 1 rfl) ?_
    refine lv_iload_n hx hb dX7_minds_21 rfl (lv_at hl 0 rfl) ?_
    obtain ⟨q1049, hq1049, hf⟩ := bnd hf
    refine fc_callV (Wa' := (cW G a q1049.2)) (st1 := [.int q1049.1]) (As := [.int q1045]) (rest := []) hCF (k_X7_refuse a S q1045 hq1049) (cwV 1 hts gX7_minds_X7_refuse rfl rfl rfl ⟨rfl, dk_X7_refuse⟩ ⟨Nat.le_of_ble_eq_true rfl, Nat.le_of_ble_eq_true rfl⟩) hE hAB hP hD hS [0, 1, 2, 3, 4, 5, 6, 7, 8, 9, 10, 11, 12, 13, 14, 15, 16, 17, 18, 19, 20, 21, 22, 23, 24, 25, 26, 27, 28, 29, 30, 31] rfl rfl (va_recv hE.1 hP (ci := 4) (q0 := 0) rfl rfl) rfl rfl rfl rfl hl.1 rfl (Nat.le_of_ble_eq_true rfl) dX7_minds_22 ⟨Nat.le_refl _, Nat.le_refl _⟩ (fun H locs hP hD hS => ?_)
    exact fc_reti hx hb hr hlocks hP hS dX7_minds_25 (i2a hf) (congrArg (fun z => (cW G a z)) (i2b hf))
