theorem dk_X7_refuse : yX7_refuse.cls ≠ "java/lang/invoke/MethodHandle" ∧ yX7_refuse.cls ≠ "java/lang/invoke/VarHandle" ∧ (parseMethodDescriptor yX7_refuse.desc).map (fun d => d.parameters.length) = some 1 := by decide +kernel
theorem iu_X7_refuse_X7 : ∀ w ∈ u_ws RX7 TX7 8, w ∈ wsX7_refuse := by decide +kernel
set_option maxHeartbeats 4000000 in
set_option maxRecDepth 100000 in
theorem k_X7_refuse {l : Launch} {G : Gx} (a : Nat → Nat) (S : (Nat → St)) (x1 : Int32) {r : Int32} {S' : (Nat → St)} (hf : f_X7_refuse S x1 = some (r, S')) : FC l G yX7_refuse wsX7_refuse ({ frames := 1, cells := 0, slots := 0, locals := 22 } : Room) [.ref (a 0), .int x1] (cW G a S) (cW G a S') (some (.int r)) := by
  refine fc_head (cc := cX7_refuse) (maxL := 2) (ret := (some .int)) (C := RX7) (lv := [(0, .ref (a 0)), (1, .int x1)]) (by decide) rfl rfl (Nat.le_of_ble_eq_true rfl) rfl ?_
  intro p e s m below meth c ls A hx hb hr hml hown hts hlocks hE hP hD hAB hS hl
  have hCF : CallFix p m c cX7_refuse 2 s ([.ref (a 0), .int x1] : List Value).toArray wsX7_refuse RX7 := ⟨hx, hb, hml, hown, hts⟩
  have hwX7 : ∀ w ∈ u_ws RX7 TX7 8, w.before ([.ref (a 0), .int x1] : List Value).toArray s = true := fun w h => hts w (iu_X7_refuse_X7 w h)
  have hk_fieldLink_RX7_43__BrideNotKnown___refusals____I_ := hts (.fieldLink RX7 43 "BrideNotKnown" "refusals" "[I") (List.mem_of_getElem? (i := 1) rfl)
  rw [f_X7_refuse] at hf
  refine lv_aload_n hx hb dX7_refuse_0 rfl (lv_at hl 0 rfl) ?_
  refine fc_get (v := .ref (a 31)) (ci := 4) (C := RX7) (T := TX7) (N := 8) hx hb hwX7 hown hE hP 0 rfl rfl 7 (by decide) hk_fieldLink_RX7_43__BrideNotKnown___refusals____I_ (fun _ h => h) rfl dX7_refuse_1 ?_
  refine lv_iload_n hx hb dX7_refuse_4 rfl (lv_at hl 1 rfl) ?_
  refine lv_ineg hx hb dX7_refuse_5 ?_
  refine lv_aload_n hx hb dX7_refuse_6 rfl (lv_at hl 0 rfl) ?_
  refine fc_get (v := .ref (a 31)) (ci := 4) (C := RX7) (T := TX7) (N := 8) hx hb hwX7 hown hE hP 0 rfl rfl 7 (by decide) hk_fieldLink_RX7_43__BrideNotKnown___refusals____I_ (fun _ h => h) rfl dX7_refuse_7 ?_
  refine lv_iload_n hx hb dX7_refuse_10 rfl (lv_at hl 1 rfl) ?_
  refine lv_ineg hx hb dX7_refuse_11 ?_
  obtain ⟨q735, hq735, hf⟩ := bnd hf
  refine fc_callS (Wa' := (cW G a S)) (st1 := [.int q735, .int (-x1), .ref (a 31)]) (As := [.ref (a 31), .int (-x1)]) (rest := [.int (-x1), .ref (a 31)]) hCF (k_X7_at (a 31) 7 ((S 6) 0) (-x1) hq735) (va_cwS 2 hts gX7_refuse_X7_at rfl rfl rfl dk_X7_at ⟨Nat.le_of_ble_eq_true rfl, Nat.le_of_ble_eq_true rfl⟩) hE hAB hP hD hS [31] rfl rfl rfl rfl rfl rfl hl.1 rfl (Nat.le_of_ble_eq_true rfl) dX7_refuse_12 ⟨Nat.le_refl _, Nat.le_refl _⟩ (fun H locs hP hD hS => ?_)
  refine lv_iconst (v := (1 : Int32)) hx hb dX7_refuse_15 (by decide) ?_
  refine lv_iadd hx hb dX7_refuse_16 ?_
  obtain ⟨q736, hq736, hf⟩ := bnd hf
  refine fc_callS (Wa' := (cW G a (sS S 6 (sA (S 6) 0 q736)))) (st1 := []) (As := [.ref (a 31), .int (-x1), .int (q735 + (1 : Int32))]) (rest := []) hCF (k_X7_put (a 31) 7 ((S 6) 0) (-x1) (q735 + (1 : Int32)) hq736) (va_cwS 3 hts gX7_refuse_X7_put rfl rfl rfl dk_X7_put ⟨Nat.le_of_ble_eq_true rfl, Nat.le_of_ble_eq_true rfl⟩) hE hAB hP hD hS [31] rfl rfl rfl rfl rfl rfl hl.1 rfl (Nat.le_of_ble_eq_true rfl) dX7_refuse_17 ⟨Nat.le_refl _, Nat.le_refl _⟩ (fun H locs hP hD hS => ?_)
  refine lv_iload_n hx hb dX7_refuse_20 rfl (lv_at hl 1 rfl) ?_
  exact fc_reti hx hb hr hlocks hP hS dX7_refuse_21 (i2a hf) (congrArg (fun z => (cW G a z)) (i2b hf))
theorem dk_X7_alike : yX7_alike.cls ≠ "java/lang/invoke/MethodHandle" ∧ yX7_alike.cls ≠ "java/lang/invoke/VarHandle" ∧ (parseMethodDescriptor yX7_alike.desc).map (fun d => d.parameters.length) = some 1 := by decide +kernel
theorem iu_X7_alike_X7 : ∀ w ∈ u_ws RX7 TX7 8, w ∈ wsX7_alike := by decide +kernel
set_option maxHeartbeats 4000000 in
set_option maxRecDepth 100000 in
theorem k_X7_alike {l : Launch} {G : Gx} (a : Nat → Nat) (S : (Nat → St)) (x1 : Int32) {r : Int32} {S' : (Nat → St)} (hf : f_X7_alike S x1 = some (r, S')) : FC l G yX7_alike wsX7_alike ({ frames := 6, cells := 0, slots := 0, locals := 137 } : Room) [.ref (a 0), .int x1] (cW G a S) (cW G a S') (some (.int r)) := by
  refine fc_head (cc := cX7_alike) (maxL := 2) (ret := (some .int)) (C := RX7) (lv := [(0, .ref (a 0)), (1, .int x1)]) (by decide) rfl rfl (Nat.le_of_ble_eq_true rfl) rfl ?_
  intro p e s m below meth c ls A hx hb hr hml hown hts hlocks hE hP hD hAB hS hl
  have hCF : CallFix p m c cX7_alike 2 s ([.ref (a 0), .int x1] : List Value).toArray wsX7_alike RX7 := ⟨hx, hb, hml, hown, hts⟩
  have hwX7 : ∀ w ∈ u_ws RX7 TX7 8, w.before ([.ref (a 0), .int x1] : List Value).toArray s = true := fun w h => hts w (iu_X7_alike_X7 w h)
  have hk_fieldLink_RX7_10__BrideNotKnown___now___LBrideNotKnown_Valley__ := hts (.fieldLink RX7 10 "BrideNotKnown" "now" "LBrideNotKnown$Valley;") (List.mem_of_getElem? (i := 1) rfl)
  rw [f_X7_alike] at hf
  refine lv_iload_n hx hb dX7_alike_0 rfl (lv_at hl 1 rfl) ?_
  by_cases c742 : x1 = (0 : Int32)
  · have hf := ifT hf c742
    refine lv_tableIn (off := 31) (tgt := 32) hx hb dX7_alike_1 (by rw [c742]; decide) (by rw [c742]; decide) (by rw [c742]; rfl) (by decide) ?_
    refine lv_aload_n hx hb dX7_alike_32 rfl (lv_at hl 0 rfl) ?_
    refine fc_get (v := .ref (a 1)) (ci := 4) (C := RX7) (T := TX7) (N := 8) hx hb hwX7 hown hE hP 0 rfl rfl 0 (by decide) hk_fieldLink_RX7_10__BrideNotKnown___now___LBrideNotKnown_Valley__ (fun _ h => h) rfl dX7_alike_33 ?_
    obtain ⟨q743, hq743, hf⟩ := bnd hf
    refine fc_callS (Wa' := (cW G a S)) (st1 := [.int q743]) (As := [.ref (a 1)]) (rest := []) hCF (k_X1_twos (sh 1 a) (S 0) hq743) (va_cwS 1 hts gX7_alike_X1_twos rfl rfl rfl dk_X1_twos ⟨Nat.le_of_ble_eq_true rfl, Nat.le_of_ble_eq_true rfl⟩) hE hAB hP hD hS [1, 2, 3, 4, 5, 6, 7, 8] rfl rfl rfl rfl rfl rfl hl.1 rfl (Nat.le_of_ble_eq_true rfl) dX7_alike_36 ⟨Nat.le_refl _, Nat.le_refl _⟩ (fun H locs hP hD hS => ?_)
    exact fc_reti hx hb hr hlocks hP hS dX7_alike_39 (i2a hf) (congrArg (fun z => (cW G a z)) (i2b hf))
  · have hf := ifF hf c742
    by_cases c744 : x1 = (1 : Int32)
    · have hf := ifT hf c744
      refine lv_tableIn (off := 39) (tgt := 40) hx hb dX7_alike_1 (by rw [c744]; decide) (by rw [c744]; decide) (by rw [c744]; rfl) (by decide) ?_
      refine lv_aload_n hx hb dX7_alike_40 rfl (lv_at hl 0 rfl) ?_
      refine fc_get (v := .ref (a 1)) (ci := 4) (C := RX7) (T := TX7) (N := 8) hx hb hwX7 hown hE hP 0 rfl rfl 0 (by decide) hk_fieldLink_RX7_10__BrideNotKnown___now___LBrideNotKnown_Valley__ (fun _ h => h) rfl dX7_alike_41 ?_
      obtain ⟨q745, hq745, hf⟩ := bnd hf
      refine fc_callS (Wa' := (cW G a S)) (st1 := [.int q745]) (As := [.ref (a 1)]) (rest := []) hCF (k_X1_firstTwo (sh 1 a) (S 0) hq745) (va_cwS 1 hts gX7_alike_X1_firstTwo rfl rfl rfl dk_X1_firstTwo ⟨Nat.le_of_ble_eq_true rfl, Nat.le_of_ble_eq_true rfl⟩) hE hAB hP hD hS [1, 2, 3, 4, 5, 6, 7, 8] rfl rfl rfl rfl rfl rfl hl.1 rfl (Nat.le_of_ble_eq_true rfl) dX7_alike_44 ⟨Nat.le_refl _, Nat.le_refl _⟩ (fun H locs hP hD hS => ?_)
      exact fc_reti hx hb hr hlocks hP hS dX7_alike_47 (i2a hf) (congrArg (fun z => (cW G a z)) (i2b hf))
    · have hf := ifF hf c744
      by_cases c746 : x1 = (2 : Int32)
      · have hf := ifT hf c746
        refine lv_tableIn (off := 47) (tgt := 48) hx hb dX7_alike_1 (by rw [c746]; decide) (by rw [c746]; decide) (by rw [c746]; rfl) (by decide) ?_
        refine lv_aload_n hx hb dX7_alike_48 rfl (lv_at hl 0 rfl) ?_
        refine fc_get (v := .ref (a 1)) (ci := 4) (C := RX7) (T := TX7) (N := 8) hx hb hwX7 hown hE hP 0 rfl rfl 0 (by decide) hk_fieldLink_RX7_10__BrideNotKnown___now___LBrideNotKnown_Valley__ (fun _ h => h) rfl dX7_alike_49 ?_
        obtain ⟨q747, hq747, hf⟩ := bnd hf
        refine fc_callS (Wa' := (cW G a S)) (st1 := [.int q747]) (As := [.ref (a 1)]) (rest := []) hCF (k_X1_greatest (sh 1 a) (S 0) hq747) (va_cwS 1 hts gX7_alike_X1_greatest rfl rfl rfl dk_X1_greatest ⟨Nat.le_of_ble_eq_true rfl, Nat.le_of_ble_eq_true rfl⟩) hE hAB hP hD hS [1, 2, 3, 4, 5, 6, 7, 8] rfl rfl rfl rfl rfl rfl hl.1 rfl (Nat.le_of_ble_eq_true rfl) dX7_alike_52 ⟨Nat.le_refl _, Nat.le_refl _⟩ (fun H locs hP hD hS => ?_)
        exact fc_reti hx hb hr hlocks hP hS dX7_alike_55 (i2a hf) (congrArg (fun z => (cW G a z)) (i2b hf))
      · have hf := ifF hf c746
        by_cases c748 : x1 = (3 : Int32)
        · have hf := ifT hf c748
          refine lv_tableIn (off := 55) (tgt := 56) hx hb dX7_alike_1 (by rw [c748]; decide) (by rw [c748]; decide) (by rw [c748]; rfl) (by decide) ?_
          refine lv_aload_n hx hb dX7_alike_56 rfl (lv_at hl 0 rfl) ?_
          refine fc_get (v := .ref (a 1)) (ci := 4) (C := RX7) (T := TX7) (N := 8) hx hb hwX7 hown hE hP 0 rfl rfl 0 (by decide) hk_fieldLink_RX7_10__BrideNotKnown___now___LBrideNotKnown_Valley__ (fun _ h => h) rfl dX7_alike_57 ?_
          obtain ⟨q749, hq749, hf⟩ := bnd hf
          refine fc_callS (Wa' := (cW G a S)) (st1 := [.int q749]) (As := [.ref (a 1)]) (rest := []) hCF (k_X1_greatestShown (sh 1 a) (S 0) hq749) (va_cwS 1 hts gX7_alike_X1_greatestShown rfl rfl rfl dk_X1_greatestShown ⟨Nat.le_of_ble_eq_true rfl, Nat.le_of_ble_eq_true rfl⟩) hE hAB hP hD hS [1, 2, 3, 4, 5, 6, 7, 8] rfl rfl rfl rfl rfl rfl hl.1 rfl (Nat.le_of_ble_eq_true rfl) dX7_alike_60 ⟨Nat.le_refl _, Nat.le_refl _⟩ (fun H locs hP hD hS => ?_)
          exact fc_reti hx hb hr hlocks hP hS dX7_alike_63 (i2a hf) (congrArg (fun z => (cW G a z)) (i2b hf))
        · have hf := ifF hf c748
          refine lv_tableOut (tgt := 64) hx hb dX7_alike_1 (by have dc742 := lv_neT c742 (a := 0) (by decide); have dc744 := lv_neT c744 (a := 1) (by decide); have dc746 := lv_neT c746 (a := 2) (by decide); have dc748 := lv_neT c748 (a := 3) (by decide); omega) (by decide) ?_
          refine lv_aload_n hx hb dX7_alike_64 rfl (lv_at hl 0 rfl) ?_
          refine lv_bipush (v := (-2 : Int32)) hx hb dX7_alike_65 (by decide) ?_
          obtain ⟨q750, hq750, hf⟩ := bnd hf
          refine fc_callV (Wa' := (cW G a q750.2)) (st1 := [.int q750.1]) (As := [.int (-2 : Int32)]) (rest := []) hCF (k_X7_refuse a S (-2 : Int32) hq750) (cwV 1 hts gX7_alike_X7_refuse rfl rfl rfl ⟨rfl, dk_X7_refuse⟩ ⟨Nat.le_of_ble_eq_true rfl, Nat.le_of_ble_eq_true rfl⟩) hE hAB hP hD hS [0, 1, 2, 3, 4, 5, 6, 7, 8, 9, 10, 11, 12, 13, 14, 15, 16, 17, 18, 19, 20, 21, 22, 23, 24, 25, 26, 27, 28, 29, 30, 31] rfl rfl (va_recv hE.1 hP (ci := 4) (q0 := 0) rfl rfl) rfl rfl rfl rfl hl.1 rfl (Nat.le_of_ble_eq_true rfl) dX7_alike_67 ⟨Nat.le_refl _, Nat.le_refl _⟩ (fun H locs hP hD hS => ?_)
          exact fc_reti hx hb hr hlocks hP hS dX7_alike_70 (i2a hf) (congrArg (fun z => (cW G a z)) (i2b hf))
theorem dk_X7_away : yX7_away.cls ≠ "java/lang/invoke/MethodHandle" ∧ yX7_away.cls ≠ "java/lang/invoke/VarHandle" ∧ (parseMethodDescriptor yX7_away.desc).map (fun d => d.parameters.length) = some 0 := by decide +kernel
theorem iu_X7_away_X7 : ∀ w ∈ u_ws RX7 TX7 8, w ∈ wsX7_away := by decide +kernel
set_option maxHeartbeats 4000000 in
set_option maxRecDepth 100000 in
theorem k_X7_away {l : Launch} {G : Gx} (a : Nat → Nat) (S : (Nat → St)) {r : Int32} {S' : (Nat → St)} (hf : f_X7_away S = some (r, S')) : FC l G yX7_away wsX7_away ({ frames := 6, cells := 0, slots := 0, locals := 147 } : Room) [.ref (a 0)] (cW G a S) (cW G a S') (some (.int r)) := by
  refine fc_head (cc := cX7_away) (maxL := 1) (ret := (some .int)) (C := RX7) (lv := [(0, .ref (a 0))]) (by decide) rfl rfl (Nat.le_of_ble_eq_true rfl) rfl ?_
  intro p e s m below meth c ls A hx hb hr hml hown hts hlocks hE hP hD hAB hS hl
  have hCF : CallFix p m c cX7_away 1 s ([.ref (a 0)] : List Value).toArray wsX7_away RX7 := ⟨hx, hb, hml, hown, hts⟩
  have hwX7 : ∀ w ∈ u_ws RX7 TX7 8, w.before ([.ref (a 0)] : List Value).toArray s = true := fun w h => hts w (iu_X7_away_X7 w h)
  have hk_fieldLink_RX7_10__BrideNotKnown___now___LBrideNotKnown_Valley__ := hts (.fieldLink RX7 10 "BrideNotKnown" "now" "LBrideNotKnown$Valley;") (List.mem_of_getElem? (i := 1) rfl)
  have hk_fieldLink_RX7_16__BrideNotKnown___thought___LBrideNotKnown_Valley__ := hts (.fieldLink RX7 16 "BrideNotKnown" "thought" "LBrideNotKnown$Valley;") (List.mem_of_getElem? (i := 2) rfl)
  rw [f_X7_away] at hf
  refine lv_aload_n hx hb dX7_away_0 rfl (lv_at hl 0 rfl) ?_
  refine fc_get (v := .ref (a 1)) (ci := 4) (C := RX7) (T := TX7) (N := 8) hx hb hwX7 hown hE hP 0 rfl rfl 0 (by decide) hk_fieldLink_RX7_10__BrideNotKnown___now___LBrideNotKnown_Valley__ (fun _ h => h) rfl dX7_away_1 ?_
  refine lv_aload_n hx hb dX7_away_4 rfl (lv_at hl 0 rfl) ?_
  refine fc_get (v := .ref (a 9)) (ci := 4) (C := RX7) (T := TX7) (N := 8) hx hb hwX7 hown hE hP 0 rfl rfl 1 (by decide) hk_fieldLink_RX7_16__BrideNotKnown___thought___LBrideNotKnown_Valley__ (fun _ h => h) rfl dX7_away_5 ?_
  obtain ⟨q752, hq752, hf⟩ := bnd hf
  refine fc_callS (Wa' := (cW G a (sS S 1 q752.2))) (st1 := [.int q752.1]) (As := [.ref (a 1), .ref (a 9)]) (rest := []) hCF (k_X0_bestAway (sh 1 a) (S 0) (sh 9 a) (S 1) hq752) (va_cwS 2 hts gX7_away_X0_bestAway rfl rfl rfl dk_X0_bestAway ⟨Nat.le_of_ble_eq_true rfl, Nat.le_of_ble_eq_true rfl⟩) hE hAB hP hD hS [1, 2, 3, 4, 5, 6, 7, 8, 9, 10, 11, 12, 13, 14, 15, 16] rfl rfl rfl rfl rfl rfl hl.1 rfl (Nat.le_of_ble_eq_true rfl) dX7_away_8 ⟨Nat.le_refl _, Nat.le_refl _⟩ (fun H locs hP hD hS => ?_)
  exact fc_reti hx hb hr hlocks hP hS dX7_away_11 (i2a hf) (congrArg (fun z => (cW G a z)) (i2b hf))
theorem dk_X7_bride : yX7_bride.cls ≠ "java/lang/invoke/MethodHandle" ∧ yX7_bride.cls ≠ "java/lang/invoke/VarHandle" ∧ (parseMethodDescriptor yX7_bride.desc).map (fun d => d.parameters.length) = some 2 := by decide +kernel
theorem iu_X7_bride_X7 : ∀ w ∈ u_ws RX7 TX7 8, w ∈ wsX7_bride := by decide +kernel
set_option maxHeartbeats 4000000 in
set_option maxRecDepth 100000 in
theorem k_X7_bride {l : Launch} {G : Gx} (a : Nat → Nat) (S : (Nat → St)) (x1 : Int32) (x2 : Int32) {r : Int32} {S' : (Nat → St)} (hf : f_X7_bride S x1 x2 = some (r, S')) : FC l G yX7_bride wsX7_bride ({ frames := 3, cells := 0, slots := 0, locals := 71 } : Room) [.ref (a 0), .int x1, .int x2] (cW G a S) (cW G a S') (some (.int r)) := by
  refine fc_head (cc := cX7_bride) (maxL := 3) (ret := (some .int)) (C := RX7) (lv := [(0, .ref (a 0)), (1, .int x1), (2, .int x2)]) (by decide) rfl rfl (Nat.le_of_ble_eq_true rfl) rfl ?_
  intro p e s m below meth c ls A hx hb hr hml hown hts hlocks hE hP hD hAB hS hl
  have hCF : CallFix p m c cX7_bride 3 s ([.ref (a 0), .int x1, .int x2] : List Value).toArray wsX7_bride RX7 := ⟨hx, hb, hml, hown, hts⟩
  have hwX7 : ∀ w ∈ u_ws RX7 TX7 8, w.before ([.ref (a 0), .int x1, .int x2] : List Value).toArray s = true := fun w h => hts w (iu_X7_bride_X7 w h)
  have hk_fieldLink_RX7_10__BrideNotKnown___now___LBrideNotKnown_Valley__ := hts (.fieldLink RX7 10 "BrideNotKnown" "now" "LBrideNotKnown$Valley;") (List.mem_of_getElem? (i := 1) rfl)
  rw [f_X7_bride] at hf
  refine lv_aload_n hx hb dX7_bride_0 rfl (lv_at hl 0 rfl) ?_
  refine fc_get (v := .ref (a 1)) (ci := 4) (C := RX7) (T := TX7) (N := 8) hx hb hwX7 hown hE hP 0 rfl rfl 0 (by decide) hk_fieldLink_RX7_10__BrideNotKnown___now___LBrideNotKnown_Valley__ (fun _ h => h) rfl dX7_bride_1 ?_
  refine lv_iload_n hx hb dX7_bride_4 rfl (lv_at hl 1 rfl) ?_
  obtain ⟨q762, hq762, hf⟩ := bnd hf
  refine fc_callV (Wa' := (cW G a S)) (st1 := [.int q762]) (As := [.int x1]) (rest := []) hCF (k_X6_hasBride (sh 1 a) (S 0) x1 hq762) (cwV 1 hts gX7_bride_X6_hasBride rfl rfl rfl ⟨rfl, dk_X6_hasBride⟩ ⟨Nat.le_of_ble_eq_true rfl, Nat.le_of_ble_eq_true rfl⟩) hE hAB hP hD hS [1, 2, 3, 4, 5, 6, 7, 8] rfl rfl (va_recv hE.1 hP (ci := 3) (q0 := 1) rfl rfl) rfl rfl rfl rfl hl.1 rfl (Nat.le_of_ble_eq_true rfl) dX7_bride_5 ⟨Nat.le_refl _, Nat.le_refl _⟩ (fun H locs hP hD hS => ?_)
  refine lv_if_ne (tgt := 17) hx hb dX7_bride_8 (by decide) (fun c763 => ?_) (fun c763 => ?_)
  · have hf := ifF hf c763
    refine lv_iload_n hx hb dX7_bride_17 rfl (lv_at hl 2 rfl) ?_
    by_cases c764 : x2 = (0 : Int32)
    · have hf := ifT hf c764
      refine lv_tableIn (off := 38) (tgt := 56) hx hb dX7_bride_18 (by rw [c764]; decide) (by rw [c764]; decide) (by rw [c764]; rfl) (by decide) ?_
      refine lv_aload_n hx hb dX7_bride_56 rfl (lv_at hl 0 rfl) ?_
      refine fc_get (v := .ref (a 1)) (ci := 4) (C := RX7) (T := TX7) (N := 8) hx hb hwX7 hown hE hP 0 rfl rfl 0 (by decide) hk_fieldLink_RX7_10__BrideNotKnown___now___LBrideNotKnown_Valley__ (fun _ h => h) rfl dX7_bride_57 ?_
      refine lv_iload_n hx hb dX7_bride_60 rfl (lv_at hl 1 rfl) ?_
      obtain ⟨q765, hq765, hf⟩ := bnd hf
      refine fc_callV (Wa' := (cW G a S)) (st1 := [.int q765]) (As := [.int x1]) (rest := []) hCF (k_X6_kindOf (sh 1 a) (S 0) x1 hq765) (cwV 1 hts gX7_bride_X6_kindOf rfl rfl rfl ⟨rfl, dk_X6_kindOf⟩ ⟨Nat.le_of_ble_eq_true rfl, Nat.le_of_ble_eq_true rfl⟩) hE hAB hP hD hS [1, 2, 3, 4, 5, 6, 7, 8] rfl rfl (va_recv hE.1 hP (ci := 3) (q0 := 1) rfl rfl) rfl rfl rfl rfl hl.1 rfl (Nat.le_of_ble_eq_true rfl) dX7_bride_61 ⟨Nat.le_refl _, Nat.le_refl _⟩ (fun H locs hP hD hS => ?_)
      exact fc_reti hx hb hr hlocks hP hS dX7_bride_64 (i2a hf) (congrArg (fun z => (cW G a z)) (i2b hf))
    · have hf := ifF hf c764
      by_cases c766 : x2 = (1 : Int32)
      · have hf := ifT hf c766
        refine lv_tableIn (off := 47) (tgt := 65) hx hb dX7_bride_18 (by rw [c766]; decide) (by rw [c766]; decide) (by rw [c766]; rfl) (by decide) ?_
        refine lv_aload_n hx hb dX7_bride_65 rfl (lv_at hl 0 rfl) ?_
        refine fc_get (v := .ref (a 1)) (ci := 4) (C := RX7) (T := TX7) (N := 8) hx hb hwX7 hown hE hP 0 rfl rfl 0 (by decide) hk_fieldLink_RX7_10__BrideNotKnown___now___LBrideNotKnown_Valley__ (fun _ h => h) rfl dX7_bride_66 ?_
        refine lv_iload_n hx hb dX7_bride_69 rfl (lv_at hl 1 rfl) ?_
        obtain ⟨q767, hq767, hf⟩ := bnd hf
        refine fc_callV (Wa' := (cW G a S)) (st1 := [.int q767]) (As := [.int x1]) (rest := []) hCF (k_X6_figureOf (sh 1 a) (S 0) x1 hq767) (cwV 1 hts gX7_bride_X6_figureOf rfl rfl rfl ⟨rfl, dk_X6_figureOf⟩ ⟨Nat.le_of_ble_eq_true rfl, Nat.le_of_ble_eq_true rfl⟩) hE hAB hP hD hS [1, 2, 3, 4, 5, 6, 7, 8] rfl rfl (va_recv hE.1 hP (ci := 3) (q0 := 1) rfl rfl) rfl rfl rfl rfl hl.1 rfl (Nat.le_of_ble_eq_true rfl) dX7_bride_70 ⟨Nat.le_refl _, Nat.le_refl _⟩ (fun H locs hP hD hS => ?_)
        exact fc_reti hx hb hr hlocks hP hS dX7_bride_73 (i2a hf) (congrArg (fun z => (cW G a z)) (i2b hf))
      · have hf := ifF hf c766
        by_cases c768 : x2 = (2 : Int32)
        · have hf := ifT hf c768
          refine lv_tableIn (off := 56) (tgt := 74) hx hb dX7_bride_18 (by rw [c768]; decide) (by rw [c768]; decide) (by rw [c768]; rfl) (by decide) ?_
          refine lv_aload_n hx hb dX7_bride_74 rfl (lv_at hl 0 rfl) ?_
          refine fc_get (v := .ref (a 1)) (ci := 4) (C := RX7) (T := TX7) (N := 8) hx hb hwX7 hown hE hP 0 rfl rfl 0 (by decide) hk_fieldLink_RX7_10__BrideNotKnown___now___LBrideNotKnown_Valley__ (fun _ h => h) rfl dX7_bride_75 ?_
          refine lv_iload_n hx hb dX7_bride_78 rfl (lv_at hl 1 rfl) ?_
          obtain ⟨q769, hq769, hf⟩ := bnd hf
          refine fc_callV (Wa' := (cW G a S)) (st1 := [.int q769]) (As := [.int x1]) (rest := []) hCF (k_X6_footOf (sh 1 a) (S 0) x1 hq769) (cwV 1 hts gX7_bride_X6_footOf rfl rfl rfl ⟨rfl, dk_X6_footOf⟩ ⟨Nat.le_of_ble_eq_true rfl, Nat.le_of_ble_eq_true rfl⟩) hE hAB hP hD hS [1, 2, 3, 4, 5, 6, 7, 8] rfl rfl (va_recv hE.1 hP (ci := 3) (q0 := 1) rfl rfl) rfl rfl rfl rfl hl.1 rfl (Nat.le_of_ble_eq_true rfl) dX7_bride_79 ⟨Nat.le_refl _, Nat.le_refl _⟩ (fun H locs hP hD hS => ?_)
          exact fc_reti hx hb hr hlocks hP hS dX7_bride_82 (i2a hf) (congrArg (fun z => (cW G a z)) (i2b hf))
        · have hf := ifF hf c768
          by_cases c770 : x2 = (3 : Int32)
          · have hf := ifT hf c770
            refine lv_tableIn (off := 65) (tgt := 83) hx hb dX7_bride_18 (by rw [c770]; decide) (by rw [c770]; decide) (by rw [c770]; rfl) (by decide) ?_
            refine lv_aload_n hx hb dX7_bride_83 rfl (lv_at hl 0 rfl) ?_
            refine fc_get (v := .ref (a 1)) (ci := 4) (C := RX7) (T := TX7) (N := 8) hx hb hwX7 hown hE hP 0 rfl rfl 0 (by decide) hk_fieldLink_RX7_10__BrideNotKnown___now___LBrideNotKnown_Valley__ (fun _ h => h) rfl dX7_bride_84 ?_
            refine lv_iload_n hx hb dX7_bride_87 rfl (lv_at hl 1 rfl) ?_
            refine lv_iconst (v := (0 : Int32)) hx hb dX7_bride_88 (by decide) ?_
            obtain ⟨q771, hq771, hf⟩ := bnd hf
            refine fc_callV (Wa' := (cW G a S)) (st1 := [.int q771]) (As := [.int x1, .int (0 : Int32)]) (rest := []) hCF (k_X6_shows (sh 1 a) (S 0) x1 (0 : Int32) hq771) (cwV 2 hts gX7_bride_X6_shows rfl rfl rfl ⟨rfl, dk_X6_shows⟩ ⟨Nat.le_of_ble_eq_true rfl, Nat.le_of_ble_eq_true rfl⟩) hE hAB hP hD hS [1, 2, 3, 4, 5, 6, 7, 8] rfl rfl (va_recv hE.1 hP (ci := 3) (q0 := 1) rfl rfl) rfl rfl rfl rfl hl.1 rfl (Nat.le_of_ble_eq_true rfl) dX7_bride_89 ⟨Nat.le_refl _, Nat.le_refl _⟩ (fun H locs hP hD hS => ?_)
            exact fc_reti hx hb hr hlocks hP hS dX7_bride_92 (i2a hf) (congrArg (fun z => (cW G a z)) (i2b hf))
          · have hf := ifF hf c770
            by_cases c772 : x2 = (4 : Int32)
            · have hf := ifT hf c772
              refine lv_tableIn (off := 75) (tgt := 93) hx hb dX7_bride_18 (by rw [c772]; decide) (by rw [c772]; decide) (by rw [c772]; rfl) (by decide) ?_
              refine lv_aload_n hx hb dX7_bride_93 rfl (lv_at hl 0 rfl) ?_
              refine fc_get (v := .ref (a 1)) (ci := 4) (C := RX7) (T := TX7) (N := 8) hx hb hwX7 hown hE hP 0 rfl rfl 0 (by decide) hk_fieldLink_RX7_10__BrideNotKnown___now___LBrideNotKnown_Valley__ (fun _ h => h) rfl dX7_bride_94 ?_
              refine lv_iload_n hx hb dX7_bride_97 rfl (lv_at hl 1 rfl) ?_
              obtain ⟨q773, hq773, hf⟩ := bnd hf
              refine fc_callV (Wa' := (cW G a S)) (st1 := [.int q773]) (As := [.int x1]) (rest := []) hCF (k_X6_sentFor (sh 1 a) (S 0) x1 hq773) (cwV 1 hts gX7_bride_X6_sentFor rfl rfl rfl ⟨rfl, dk_X6_sentFor⟩ ⟨Nat.le_of_ble_eq_true rfl, Nat.le_of_ble_eq_true rfl⟩) hE hAB hP hD hS [1, 2, 3, 4, 5, 6, 7, 8] rfl rfl (va_recv hE.1 hP (ci := 3) (q0 := 1) rfl rfl) rfl rfl rfl rfl hl.1 rfl (Nat.le_of_ble_eq_true rfl) dX7_bride_98 ⟨Nat.le_refl _, Nat.le_refl _⟩ (fun H locs hP hD hS => ?_)
              exact fc_reti hx hb hr hlocks hP hS dX7_bride_101 (i2a hf) (congrArg (fun z => (cW G a z)) (i2b hf))
            · have hf := ifF hf c772
              by_cases c774 : x2 = (5 : Int32)
              · have hf := ifT hf c774
                refine lv_tableIn (off := 84) (tgt := 102) hx hb dX7_bride_18 (by rw [c774]; decide) (by rw [c774]; decide) (by rw [c774]; rfl) (by decide) ?_
                refine lv_aload_n hx hb dX7_bride_102 rfl (lv_at hl 0 rfl) ?_
                refine fc_get (v := .ref (a 1)) (ci := 4) (C := RX7) (T := TX7) (N := 8) hx hb hwX7 hown hE hP 0 rfl rfl 0 (by decide) hk_fieldLink_RX7_10__BrideNotKnown___now___LBrideNotKnown_Valley__ (fun _ h => h) rfl dX7_bride_103 ?_
                refine lv_iload_n hx hb dX7_bride_106 rfl (lv_at hl 1 rfl) ?_
                obtain ⟨q775, hq775, hf⟩ := bnd hf
                refine fc_callV (Wa' := (cW G a S)) (st1 := [.int q775]) (As := [.int x1]) (rest := []) hCF (k_X6_placeOf (sh 1 a) (S 0) x1 hq775) (cwV 1 hts gX7_bride_X6_placeOf rfl rfl rfl ⟨rfl, dk_X6_placeOf⟩ ⟨Nat.le_of_ble_eq_true rfl, Nat.le_of_ble_eq_true rfl⟩) hE hAB hP hD hS [1, 2, 3, 4, 5, 6, 7, 8] rfl rfl (va_recv hE.1 hP (ci := 3) (q0 := 1) rfl rfl) rfl rfl rfl rfl hl.1 rfl (Nat.le_of_ble_eq_true rfl) dX7_bride_107 ⟨Nat.le_refl _, Nat.le_refl _⟩ (fun H locs hP hD hS => ?_)
                exact fc_reti hx hb hr hlocks hP hS dX7_bride_110 (i2a hf) (congrArg (fun z => (cW G a z)) (i2b hf))
              · have hf := ifF hf c774
                refine lv_tableOut (tgt := 111) hx hb dX7_bride_18 (by have dc764 := lv_neT c764 (a := 0) (by decide); have dc766 := lv_neT c766 (a := 1) (by decide); have dc768 := lv_neT c768 (a := 2) (by decide); have dc770 := lv_neT c770 (a := 3) (by decide); have dc772 := lv_neT c772 (a := 4) (by decide); have dc774 := lv_neT c774 (a := 5) (by decide); omega) (by decide) ?_
                refine lv_aload_n hx hb dX7_bride_111 rfl (lv_at hl 0 rfl) ?_
                refine lv_bipush (v := (-2 : Int32)) hx hb dX7_bride_112 (by decide) ?_
                obtain ⟨q776, hq776, hf⟩ := bnd hf
                refine fc_callV (Wa' := (cW G a q776.2)) (st1 := [.int q776.1]) (As := [.int (-2 : Int32)]) (rest := []) hCF (k_X7_refuse a S (-2 : Int32) hq776) (cwV 1 hts gX7_bride_X7_refuse rfl rfl rfl ⟨rfl, dk_X7_refuse⟩ ⟨Nat.le_of_ble_eq_true rfl, Nat.le_of_ble_eq_true rfl⟩) hE hAB hP hD hS [0, 1, 2, 3, 4, 5, 6, 7, 8, 9, 10, 11, 12, 13, 14, 15, 16, 17, 18, 19, 20, 21, 22, 23, 24, 25, 26, 27, 28, 29, 30, 31] rfl rfl (va_recv hE.1 hP (ci := 4) (q0 := 0) rfl rfl) rfl rfl rfl rfl hl.1 rfl (Nat.le_of_ble_eq_true rfl) dX7_bride_114 ⟨Nat.le_refl _, Nat.le_refl _⟩ (fun H locs hP hD hS => ?_)
                exact fc_reti hx hb hr hlocks hP hS dX7_bride_117 (i2a hf) (congrArg (fun z => (cW G a z)) (i2b hf))
  · have hf := ifT hf c763
    refine lv_aload_n hx hb dX7_bride_11 rfl (lv_at hl 0 rfl) ?_
    refine lv_iconst (v := (-1 : Int32)) hx hb dX7_bride_12 (by decide) ?_
    obtain ⟨q777, hq777, hf⟩ := bnd hf
    refine fc_callV (Wa' := (cW G a q777.2)) (st1 := [.int q777.1]) (As := [.int (-1 : Int32)]) (rest := []) hCF (k_X7_refuse a S (-1 : Int32) hq777) (cwV 1 hts gX7_bride_X7_refuse rfl rfl rfl ⟨rfl, dk_X7_refuse⟩ ⟨Nat.le_of_ble_eq_true rfl, Nat.le_of_ble_eq_true rfl⟩) hE hAB hP hD hS [0, 1, 2, 3, 4, 5, 6, 7, 8, 9, 10, 11, 12, 13, 14, 15, 16, 17, 18, 19, 20, 21, 22, 23, 24, 25, 26, 27, 28, 29, 30, 31] rfl rfl (va_recv hE.1 hP (ci := 4) (q0 := 0) rfl rfl) rfl rfl rfl rfl hl.1 rfl (Nat.le_of_ble_eq_true rfl) dX7_bride_13 ⟨Nat.le_refl _, Nat.le_refl _⟩ (fun H locs hP hD hS => ?_)
    exact fc_reti hx hb hr hlocks hP hS dX7_bride_16 (i2a hf) (congrArg (fun z => (cW G a z)) (i2b hf))
theorem dk_X7_outside : yX7_outside.cls ≠ "java/lang/invoke/MethodHandle" ∧ yX7_outside.cls ≠ "java/lang/invoke/VarHandle" ∧ (parseMethodDescriptor yX7_outside.desc).map (fun d => d.parameters.length) = some 3 := by decide +kernel
set_option maxHeartbeats 4000000 in
set_option maxRecDepth 100000 in
theorem k_X7_outside {l : Launch} {G : Gx} (x0 : Int32) (x1 : Int32) (x2 : Int32) {r : Int32} (hf : f_X7_outside x0 x1 x2 = some r) : FC l G yX7_outside wsX7_outside ({ frames := 0, cells := 0, slots := 0, locals := 0 } : Room) [.int x0, .int x1, .int x2] ([] : va_W) ([] : va_W) (some (.int r)) := by
  refine fc_head (cc := cX7_outside) (maxL := 3) (ret := (some .int)) (C := RX7) (lv := [(0, .int x0), (1, .int x1), (2, .int x2)]) (by decide) rfl rfl (Nat.le_of_ble_eq_true rfl) rfl ?_
  intro p e s m below meth c ls A hx hb hr hml hown hts hlocks hE hP hD hAB hS hl
  have hCF : CallFix p m c cX7_outside 3 s ([.int x0, .int x1, .int x2] : List Value).toArray wsX7_outside RX7 := ⟨hx, hb, hml, hown, hts⟩
  rw [f_X7_outside] at hf
  refine lv_iload_n hx hb dX7_outside_0 rfl (lv_at hl 0 rfl) ?_
  refine lv_iload_n hx hb dX7_outside_1 rfl (lv_at hl 1 rfl) ?_
  refine lv_icmp_ge (tgt := 8) hx hb dX7_outside_2 (by decide) (fun c778 => ?_) (fun c778 => ?_)
  · have hf := ifT hf c778
    refine lv_iload_n hx hb dX7_outside_8 rfl (lv_at hl 0 rfl) ?_
    refine lv_iload_n hx hb dX7_outside_9 rfl (lv_at hl 2 rfl) ?_
    refine lv_icmp_le (tgt := 18) hx hb dX7_outside_10 (by decide) (fun c779 => ?_) (fun c779 => ?_)
    · have hf := ifT hf c779
      refine lv_iconst (v := (0 : Int32)) hx hb dX7_outside_18 (by decide) ?_
      exact fc_reti hx hb hr hlocks hP hS dX7_outside_19 (i1 hf) rfl
    · have hf := ifF hf c779
      refine lv_bipush (v := (-6 : Int32)) hx hb dX7_outside_13 (by decide) ?_
      refine lv_goto (tgt := 19) hx hb dX7_outside_15 (by decide) ?_
      exact fc_reti hx hb hr hlocks hP hS dX7_outside_19 (i1 hf) rfl
  · have hf := ifF hf c778
    refine lv_bipush (v := (-4 : Int32)) hx hb dX7_outside_5 (by decide) ?_
    exact fc_reti hx hb hr hlocks hP hS dX7_outside_7 (i1 hf) rfl
theorem dk_X7_refusalOf : yX7_refusalOf.cls ≠ "java/lang/invoke/MethodHandle" ∧ yX7_refusalOf.cls ≠ "java/lang/invoke/VarHandle" ∧ (parseMethodDescriptor yX7_refusalOf.desc).map (fun d => d.parameters.length) = some 4 := by decide +kernel
set_option maxHeartbeats 4000000 in
set_option maxRecDepth 100000 in
theorem k_X7_refusalOf {l : Launch} {G : Gx} (x0 : Int32) (x1 : Int32) (x2 : Int32) (x3 : Int32) {r : Int32} (hf : f_X7_refusalOf x0 x1 x2 x3 = some r) : FC l G yX7_refusalOf wsX7_refusalOf ({ frames := 1, cells := 0, slots := 0, locals := 22 } : Room) [.int x0, .int x1, .int x2, .int x3] ([] : va_W) ([] : va_W) (some (.int r)) := by
  refine fc_head (cc := cX7_refusalOf) (maxL := 4) (ret := (some .int)) (C := RX7) (lv := [(0, .int x0), (1, .int x1), (2, .int x2), (3, .int x3)]) (by decide) rfl rfl (Nat.le_of_ble_eq_true rfl) rfl ?_
  intro p e s m below meth c ls A hx hb hr hml hown hts hlocks hE hP hD hAB hS hl
  have hCF : CallFix p m c cX7_refusalOf 4 s ([.int x0, .int x1, .int x2, .int x3] : List Value).toArray wsX7_refusalOf RX7 := ⟨hx, hb, hml, hown, hts⟩
  rw [f_X7_refusalOf] at hf
  refine lv_iload_n hx hb dX7_refusalOf_0 rfl (lv_at hl 0 rfl) ?_
  refine lv_if_eq (tgt := 13) hx hb dX7_refusalOf_1 (by decide) (fun c781 => ?_) (fun c781 => ?_)
  · have hf := ifT hf c781
    refine lv_iconst (v := (-1 : Int32)) hx hb dX7_refusalOf_13 (by decide) ?_
    exact fc_reti hx hb hr hlocks hP hS dX7_refusalOf_14 (i1 hf) rfl
  · have hf := ifF hf c781
    refine lv_iload_n hx hb dX7_refusalOf_4 rfl (lv_at hl 1 rfl) ?_
    refine lv_iload_n hx hb dX7_refusalOf_5 rfl (lv_at hl 2 rfl) ?_
    refine lv_iload_n hx hb dX7_refusalOf_6 rfl (lv_at hl 3 rfl) ?_
    obtain ⟨q782, hq782, hf⟩ := bnd hf
    refine fc_callS (Wa' := ([] : va_W)) (st1 := [.int q782]) (As := [.int x1, .int x2, .int x3]) (rest := []) hCF (k_X7_outside x1 x2 x3 hq782) (va_cwS 3 hts gX7_refusalOf_X7_outside rfl rfl rfl dk_X7_outside ⟨Nat.le_of_ble_eq_true rfl, Nat.le_of_ble_eq_true rfl⟩) hE hAB hP hD hS [] rfl rfl rfl rfl rfl rfl hl.1 rfl (Nat.le_of_ble_eq_true rfl) dX7_refusalOf_7 ⟨Nat.le_refl _, Nat.le_refl _⟩ (fun H locs hP hD hS => ?_)
    refine lv_goto (tgt := 14) hx hb dX7_refusalOf_10 (by decide) ?_
    exact fc_reti hx hb hr hlocks hP hS dX7_refusalOf_14 (i1 hf) rfl
theorem dk_X7_refuseLong : yX7_refuseLong.cls ≠ "java/lang/invoke/MethodHandle" ∧ yX7_refuseLong.cls ≠ "java/lang/invoke/VarHandle" ∧ (parseMethodDescriptor yX7_refuseLong.desc).map (fun d => d.parameters.length) = some 1 := by decide +kernel
set_option maxHeartbeats 4000000 in
set_option maxRecDepth 100000 in
theorem k_X7_refuseLong {l : Launch} {G : Gx} (a : Nat → Nat) (S : (Nat → St)) (x1 : Int32) {r : Int64} {S' : (Nat → St)} (hf : f_X7_refuseLong S x1 = some (r, S')) : FC l G yX7_refuseLong wsX7_refuseLong ({ frames := 2, cells := 0, slots := 0, locals := 43 } : Room) [.ref (a 0), .int x1] (cW G a S) (cW G a S') (some (.long r)) := by
  refine fc_head (cc := cX7_refuseLong) (maxL := 2) (ret := (some .long)) (C := RX7) (lv := [(0, .ref (a 0)), (1, .int x1)]) (by decide) rfl rfl (Nat.le_of_ble_eq_true rfl) rfl ?_
  intro p e s m below meth c ls A hx hb hr hml hown hts hlocks hE hP hD hAB hS hl
  have hCF : CallFix p m c cX7_refuseLong 2 s ([.ref (a 0), .int x1] : List Value).toArray wsX7_refuseLong RX7 := ⟨hx, hb, hml, hown, hts⟩
  have hk_constantLong_RX7_292__4000000000000000000_ := hts (.constantLong RX7 292 (4000000000000000000)) (List.mem_of_getElem? (i := 1) rfl)
  rw [f_X7_refuseLong] at hf
  refine lv_ldc2 (v := (4000000000000000000 : Int64)) hx hb hown hk_constantLong_RX7_292__4000000000000000000_ dX7_refuseLong_0 ?_
  refine lv_aload_n hx hb dX7_refuseLong_3 rfl (lv_at hl 0 rfl) ?_
  refine lv_iload_n hx hb dX7_refuseLong_4 rfl (lv_at hl 1 rfl) ?_
  obtain ⟨q784, hq784, hf⟩ := bnd hf
  refine fc_callV (Wa' := (cW G a q784.2)) (st1 := [.int q784.1, .long (4000000000000000000 : Int64)]) (As := [.int x1]) (rest := [.long (4000000000000000000 : Int64)]) hCF (k_X7_refuse a S x1 hq784) (cwV 1 hts gX7_refuseLong_X7_refuse rfl rfl rfl ⟨rfl, dk_X7_refuse⟩ ⟨Nat.le_of_ble_eq_true rfl, Nat.le_of_ble_eq_true rfl⟩) hE hAB hP hD hS [0, 1, 2, 3, 4, 5, 6, 7, 8, 9, 10, 11, 12, 13, 14, 15, 16, 17, 18, 19, 20, 21, 22, 23, 24, 25, 26, 27, 28, 29, 30, 31] rfl rfl (va_recv hE.1 hP (ci := 4) (q0 := 0) rfl rfl) rfl rfl rfl rfl hl.1 rfl (Nat.le_of_ble_eq_true rfl) dX7_refuseLong_5 ⟨Nat.le_refl _, Nat.le_refl _⟩ (fun H locs hP hD hS => ?_)
  refine lv_i2l (v := q784.1.toInt64) hx hb dX7_refuseLong_8 rfl ?_
  refine lv_lsub hx hb dX7_refuseLong_9 ?_
  exact fc_retl hx hb hr hlocks hP hS dX7_refuseLong_10 (i2a hf) (congrArg (fun z => (cW G a z)) (i2b hf))
theorem dk_X7_isNotEither : yX7_isNotEither.cls ≠ "java/lang/invoke/MethodHandle" ∧ yX7_isNotEither.cls ≠ "java/lang/invoke/VarHandle" ∧ (parseMethodDescriptor yX7_isNotEither.desc).map (fun d => d.parameters.length) = some 1 := by decide +kernel
set_option maxHeartbeats 4000000 in
set_option maxRecDepth 100000 in
theorem k_X7_isNotEither {l : Launch} {G : Gx} (x0 : Int32) {r : Int32} (hf : f_X7_isNotEither x0 = some r) : FC l G yX7_isNotEither wsX7_isNotEither ({ frames := 0, cells := 0, slots := 0, locals := 0 } : Room) [.int x0] ([] : va_W) ([] : va_W) (some (.int r)) := by
  refine fc_head (cc := cX7_isNotEither) (maxL := 1) (ret := (some .boolean)) (C := RX7) (lv := [(0, .int x0)]) (by decide) rfl rfl (Nat.le_of_ble_eq_true rfl) rfl ?_
  intro p e s m below meth c ls A hx hb hr hml hown hts hlocks hE hP hD hAB hS hl
  have hCF : CallFix p m c cX7_isNotEither 1 s ([.int x0] : List Value).toArray wsX7_isNotEither RX7 := ⟨hx, hb, hml, hown, hts⟩
  rw [f_X7_isNotEither] at hf
  refine lv_iload_n hx hb dX7_isNotEither_0 rfl (lv_at hl 0 rfl) ?_
  refine lv_if_eq (tgt := 13) hx hb dX7_isNotEither_1 (by decide) (fun c785 => ?_) (fun c785 => ?_)
  · have hf := ifT hf c785
    refine lv_iconst (v := (0 : Int32)) hx hb dX7_isNotEither_13 (by decide) ?_
    exact fc_retz hx hb hr hlocks hP hS dX7_isNotEither_14 (by decide) (i1 hf) rfl
  · have hf := ifF hf c785
    refine lv_iload_n hx hb dX7_isNotEither_4 rfl (lv_at hl 0 rfl) ?_
    refine lv_iconst (v := (1 : Int32)) hx hb dX7_isNotEither_5 (by decide) ?_
    refine lv_icmp_eq (tgt := 13) hx hb dX7_isNotEither_6 (by decide) (fun c786 => ?_) (fun c786 => ?_)
    · have hf := ifT hf c786
      refine lv_iconst (v := (0 : Int32)) hx hb dX7_isNotEither_13 (by decide) ?_
      exact fc_retz hx hb hr hlocks hP hS dX7_isNotEither_14 (by decide) (i1 hf) rfl
    · have hf := ifF hf c786
      refine lv_iconst (v := (1 : Int32)) hx hb dX7_isNotEither_9 (by decide) ?_
      refine lv_goto (tgt := 14) hx hb dX7_isNotEither_10 (by decide) ?_
      exact fc_retz hx hb hr hlocks hP hS dX7_isNotEither_14 (by decide) (i1 hf) rfl
theorem dk_X7_chance : yX7_chance.cls ≠ "java/lang/invoke/MethodHandle" ∧ yX7_chance.cls ≠ "java/lang/invoke/VarHandle" ∧ (parseMethodDescriptor yX7_chance.desc).map (fun d => d.parameters.length) = some 3 := by decide +kernel
theorem iu_X7_chance_X7 : ∀ w ∈ u_ws RX7 TX7 8, w ∈ wsX7_chance := by decide +kernel
set_option maxHeartbeats 4000000 in
set_option maxRecDepth 100000 in
theorem k_X7_chance {l : Launch} {G : Gx} (a : Nat → Nat) (S : (Nat → St)) (x1 : Int32) (x2 : Int32) (x3 : Int32) {r : Int64} {S' : (Nat → St)} (hf : f_X7_chance S x1 x2 x3 = some (r, S')) : FC l G yX7_chance wsX7_chance ({ frames := 6, cells := 0, slots := 0, locals := 151 } : Room) [.ref (a 0), .int x1, .int x2, .int x3] (cW G a S) (cW G a S') (some (.long r)) := by
  refine fc_head (cc := cX7_chance) (maxL := 5) (ret := (some .long)) (C := RX7) (lv := [(0, .ref (a 0)), (1, .int x1), (2, .int x2), (3, .int x3)]) (by decide) rfl rfl (Nat.le_of_ble_eq_true rfl) rfl ?_
  intro p e s m below meth c ls A hx hb hr hml hown hts hlocks hE hP hD hAB hS hl
  have hCF : CallFix p m c cX7_chance 5 s ([.ref (a 0), .int x1, .int x2, .int x3] : List Value).toArray wsX7_chance RX7 := ⟨hx, hb, hml, hown, hts⟩
  have hwX7 : ∀ w ∈ u_ws RX7 TX7 8, w.before ([.ref (a 0), .int x1, .int x2, .int x3] : List Value).toArray s = true := fun w h => hts w (iu_X7_chance_X7 w h)
  have hk_fieldLink_RX7_10__BrideNotKnown___now___LBrideNotKnown_Valley__ := hts (.fieldLink RX7 10 "BrideNotKnown" "now" "LBrideNotKnown$Valley;") (List.mem_of_getElem? (i := 1) rfl)
  rw [f_X7_chance] at hf
  refine lv_aload_n hx hb dX7_chance_0 rfl (lv_at hl 0 rfl) ?_
  refine fc_get (v := .ref (a 1)) (ci := 4) (C := RX7) (T := TX7) (N := 8) hx hb hwX7 hown hE hP 0 rfl rfl 0 (by decide) hk_fieldLink_RX7_10__BrideNotKnown___now___LBrideNotKnown_Valley__ (fun _ h => h) rfl dX7_chance_1 ?_
  refine lv_iload_n hx hb dX7_chance_4 rfl (lv_at hl 1 rfl) ?_
  obtain ⟨q793, hq793, hf⟩ := bnd hf
  refine fc_callV (Wa' := (cW G a S)) (st1 := [.int q793]) (As := [.int x1]) (rest := []) hCF (k_X6_hasBride (sh 1 a) (S 0) x1 hq793) (cwV 1 hts gX7_chance_X6_hasBride rfl rfl rfl ⟨rfl, dk_X6_hasBride⟩ ⟨Nat.le_of_ble_eq_true rfl, Nat.le_of_ble_eq_true rfl⟩) hE hAB hP hD hS [1, 2, 3, 4, 5, 6, 7, 8] rfl rfl (va_recv hE.1 hP (ci := 3) (q0 := 1) rfl rfl) rfl rfl rfl rfl hl.1 rfl (Nat.le_of_ble_eq_true rfl) dX7_chance_5 ⟨Nat.le_refl _, Nat.le_refl _⟩ (fun H locs hP hD hS => ?_)
  refine lv_iload_n hx hb dX7_chance_8 rfl (lv_at hl 2 rfl) ?_
  refine lv_iconst (v := (0 : Int32)) hx hb dX7_chance_9 (by decide) ?_
  refine lv_iconst (v := (4 : Int32)) hx hb dX7_chance_10 (by decide) ?_
  obtain ⟨q794, hq794, hf⟩ := bnd hf
  refine fc_callS (Wa' := (cW G a S)) (st1 := [.int q794]) (As := [.int q793, .int x2, .int (0 : Int32), .int (4 : Int32)]) (rest := []) hCF (k_X7_refusalOf q793 x2 (0 : Int32) (4 : Int32) hq794) (va_cwS 4 hts gX7_chance_X7_refusalOf rfl rfl rfl dk_X7_refusalOf ⟨Nat.le_of_ble_eq_true rfl, Nat.le_of_ble_eq_true rfl⟩) hE hAB hP hD hS [] rfl rfl rfl rfl rfl rfl hl.1 rfl (Nat.le_of_ble_eq_true rfl) dX7_chance_11 ⟨Nat.le_refl _, Nat.le_refl _⟩ (fun H locs hP hD hS => ?_)
  refine lv_istore (lv' := [(4, .int q794), (0, .ref (a 0)), (1, .int x1), (2, .int x2), (3, .int x3)]) hx hb dX7_chance_14 hl (by decide) rfl (fun ls hl => ?_)
  refine lv_iload hx hb dX7_chance_16 (lv_at hl 0 rfl) ?_
  refine lv_if_eq (tgt := 28) hx hb dX7_chance_18 (by decide) (fun c795 => ?_) (fun c795 => ?_)
  · have hf := ifT hf c795
    refine lv_iload_n hx hb dX7_chance_28 rfl (lv_at hl 4 rfl) ?_
    obtain ⟨q796, hq796, hf⟩ := bnd hf
    refine fc_callS (Wa' := (cW G a S)) (st1 := [.int q796]) (As := [.int x3]) (rest := []) hCF (k_X7_isNotEither x3 hq796) (va_cwS 1 hts gX7_chance_X7_isNotEither rfl rfl rfl dk_X7_isNotEither ⟨Nat.le_of_ble_eq_true rfl, Nat.le_of_ble_eq_true rfl⟩) hE hAB hP hD hS [] rfl rfl rfl rfl rfl rfl hl.1 rfl (Nat.le_of_ble_eq_true rfl) dX7_chance_29 ⟨Nat.le_refl _, Nat.le_refl _⟩ (fun H locs hP hD hS => ?_)
    refine lv_if_eq (tgt := 42) hx hb dX7_chance_32 (by decide) (fun c797 => ?_) (fun c797 => ?_)
    · have hf := ifT hf c797
      refine lv_aload_n hx hb dX7_chance_42 rfl (lv_at hl 1 rfl) ?_
      refine fc_get (v := .ref (a 1)) (ci := 4) (C := RX7) (T := TX7) (N := 8) hx hb hwX7 hown hE hP 0 rfl rfl 0 (by decide) hk_fieldLink_RX7_10__BrideNotKnown___now___LBrideNotKnown_Valley__ (fun _ h => h) rfl dX7_chance_43 ?_
      refine lv_iload_n hx hb dX7_chance_46 rfl (lv_at hl 2 rfl) ?_
      refine lv_iload_n hx hb dX7_chance_47 rfl (lv_at hl 3 rfl) ?_
      refine lv_iload_n hx hb dX7_chance_48 rfl (lv_at hl 4 rfl) ?_
      obtain ⟨q798, hq798, hf⟩ := bnd hf
      refine fc_callS (Wa' := (cW G a S)) (st1 := [.long q798]) (As := [.ref (a 1), .int x1, .int x2, .int x3]) (rest := []) hCF (k_X2_ofTaking (sh 1 a) (S 0) x1 x2 x3 hq798) (va_cwS 4 hts gX7_chance_X2_ofTaking rfl rfl rfl dk_X2_ofTaking ⟨Nat.le_of_ble_eq_true rfl, Nat.le_of_ble_eq_true rfl⟩) hE hAB hP hD hS [1, 2, 3, 4, 5, 6, 7, 8] rfl rfl rfl rfl rfl rfl hl.1 rfl (Nat.le_of_ble_eq_true rfl) dX7_chance_49 ⟨Nat.le_refl _, Nat.le_refl _⟩ (fun H locs hP hD hS => ?_)
      exact fc_retl hx hb hr hlocks hP hS dX7_chance_52 (i2a hf) (congrArg (fun z => (cW G a z)) (i2b hf))
    · have hf := ifF hf c797
      refine lv_aload_n hx hb dX7_chance_35 rfl (lv_at hl 1 rfl) ?_
      refine lv_bipush (v := (-2 : Int32)) hx hb dX7_chance_36 (by decide) ?_
      obtain ⟨q799, hq799, hf⟩ := bnd hf
      refine fc_callV (Wa' := (cW G a q799.2)) (st1 := [.long q799.1]) (As := [.int (-2 : Int32)]) (rest := []) hCF (k_X7_refuseLong a S (-2 : Int32) hq799) (cwV 1 hts gX7_chance_X7_refuseLong rfl rfl rfl ⟨rfl, dk_X7_refuseLong⟩ ⟨Nat.le_of_ble_eq_true rfl, Nat.le_of_ble_eq_true rfl⟩) hE hAB hP hD hS [0, 1, 2, 3, 4, 5, 6, 7, 8, 9, 10, 11, 12, 13, 14, 15, 16, 17, 18, 19, 20, 21, 22, 23, 24, 25, 26, 27, 28, 29, 30, 31] rfl rfl (va_recv hE.1 hP (ci := 4) (q0 := 0) rfl rfl) rfl rfl rfl rfl hl.1 rfl (Nat.le_of_ble_eq_true rfl) dX7_chance_38 ⟨Nat.le_refl _, Nat.le_refl _⟩ (fun H locs hP hD hS => ?_)
      exact fc_retl hx hb hr hlocks hP hS dX7_chance_41 (i2a hf) (congrArg (fun z => (cW G a z)) (i2b hf))
  · have hf := ifF hf c795
    refine lv_aload_n hx hb dX7_chance_21 rfl (lv_at hl 1 rfl) ?_
    refine lv_iload hx hb dX7_chance_22 (lv_at hl 0 rfl) ?_
    obtain ⟨q800, hq800, hf⟩ := bnd hf
    refine fc_callV (Wa' := (cW G a q800.2)) (st1 := [.long q800.1]) (As := [.int q794]) (rest := []) hCF (k_X7_refuseLong a S q794 hq800) (cwV 1 hts gX7_chance_X7_refuseLong rfl rfl rfl ⟨rfl, dk_X7_refuseLong⟩ ⟨Nat.le_of_ble_eq_true rfl, Nat.le_of_ble_eq_true rfl⟩) hE hAB hP hD hS [0, 1, 2, 3, 4, 5, 6, 7, 8, 9, 10, 11, 12, 13, 14, 15, 16, 17, 18, 19, 20, 21, 22, 23, 24, 25, 26, 27, 28, 29, 30, 31] rfl rfl (va_recv hE.1 hP (ci := 4) (q0 := 0) rfl rfl) rfl rfl rfl rfl hl.1 rfl (Nat.le_of_ble_eq_true rfl) dX7_chance_24 ⟨Nat.le_refl _, Nat.le_refl _⟩ (fun H locs hP hD hS => ?_)
    exact fc_retl hx hb hr hlocks hP hS dX7_chance_27 (i2a hf) (congrArg (fun z => (cW G a z)) (i2b hf))
theorem dk_X7_changes : yX7_changes.cls ≠ "java/lang/invoke/MethodHandle" ∧ yX7_changes.cls ≠ "java/lang/invoke/VarHandle" ∧ (parseMethodDescriptor yX7_changes.desc).map (fun d => d.parameters.length) = some 2 := by decide +kernel
theorem iu_X7_changes_X7 : ∀ w ∈ u_ws RX7 TX7 8, w ∈ wsX7_changes := by decide +kernel
set_option maxHeartbeats 4000000 in
set_option maxRecDepth 100000 in
theorem k_X7_changes {l : Launch} {G : Gx} (a : Nat → Nat) (S : (Nat → St)) (x1 : Int32) (x2 : Int32) {r : Int32} {S' : (Nat → St)} (hf : f_X7_changes S x1 x2 = some (r, S')) : FC l G yX7_changes wsX7_changes ({ frames := 3, cells := 0, slots := 0, locals := 64 } : Room) [.ref (a 0), .int x1, .int x2] (cW G a S) (cW G a S') (some (.int r)) := by
  refine fc_head (cc := cX7_changes) (maxL := 3) (ret := (some .int)) (C := RX7) (lv := [(0, .ref (a 0)), (1, .int x1), (2, .int x2)]) (by decide) rfl rfl (Nat.le_of_ble_eq_true rfl) rfl ?_
  intro p e s m below meth c ls A hx hb hr hml hown hts hlocks hE hP hD hAB hS hl
  have hCF : CallFix p m c cX7_changes 3 s ([.ref (a 0), .int x1, .int x2] : List Value).toArray wsX7_changes RX7 := ⟨hx, hb, hml, hown, hts⟩
  have hwX7 : ∀ w ∈ u_ws RX7 TX7 8, w.before ([.ref (a 0), .int x1, .int x2] : List Value).toArray s = true := fun w h => hts w (iu_X7_changes_X7 w h)
  have hk_fieldLink_RX7_10__BrideNotKnown___now___LBrideNotKnown_Valley__ := hts (.fieldLink RX7 10 "BrideNotKnown" "now" "LBrideNotKnown$Valley;") (List.mem_of_getElem? (i := 1) rfl)
  rw [f_X7_changes] at hf
  refine lv_aload_n hx hb dX7_changes_0 rfl (lv_at hl 0 rfl) ?_
  refine fc_get (v := .ref (a 1)) (ci := 4) (C := RX7) (T := TX7) (N := 8) hx hb hwX7 hown hE hP 0 rfl rfl 0 (by decide) hk_fieldLink_RX7_10__BrideNotKnown___now___LBrideNotKnown_Valley__ (fun _ h => h) rfl dX7_changes_1 ?_
  refine lv_iload_n hx hb dX7_changes_4 rfl (lv_at hl 1 rfl) ?_
  obtain ⟨q807, hq807, hf⟩ := bnd hf
  refine fc_callV (Wa' := (cW G a S)) (st1 := [.int q807]) (As := [.int x1]) (rest := []) hCF (k_X6_hasBride (sh 1 a) (S 0) x1 hq807) (cwV 1 hts gX7_changes_X6_hasBride rfl rfl rfl ⟨rfl, dk_X6_hasBride⟩ ⟨Nat.le_of_ble_eq_true rfl, Nat.le_of_ble_eq_true rfl⟩) hE hAB hP hD hS [1, 2, 3, 4, 5, 6, 7, 8] rfl rfl (va_recv hE.1 hP (ci := 3) (q0 := 1) rfl rfl) rfl rfl rfl rfl hl.1 rfl (Nat.le_of_ble_eq_true rfl) dX7_changes_5 ⟨Nat.le_refl _, Nat.le_refl _⟩ (fun H locs hP hD hS => ?_)
  refine lv_if_eq (tgt := 21) hx hb dX7_changes_8 (by decide) (fun c808 => ?_) (fun c808 => ?_)
  · have hf := ifT hf c808
    refine lv_aload_n hx hb dX7_changes_21 rfl (lv_at hl 0 rfl) ?_
    refine lv_iconst (v := (-1 : Int32)) hx hb dX7_changes_22 (by decide) ?_
    obtain ⟨q809, hq809, hf⟩ := bnd hf
    refine fc_callV (Wa' := (cW G a q809.2)) (st1 := [.int q809.1]) (As := [.int (-1 : Int32)]) (rest := []) hCF (k_X7_refuse a S (-1 : Int32) hq809) (cwV 1 hts gX7_changes_X7_refuse rfl rfl rfl ⟨rfl, dk_X7_refuse⟩ ⟨Nat.le_of_ble_eq_true rfl, Nat.le_of_ble_eq_true rfl⟩) hE hAB hP hD hS [0, 1, 2, 3, 4, 5, 6, 7, 8, 9, 10, 11, 12, 13, 14, 15, 16, 17, 18, 19, 20, 21, 22, 23, 24, 25, 26, 27, 28, 29, 30, 31] rfl rfl (va_recv hE.1 hP (ci := 4) (q0 := 0) rfl rfl) rfl rfl rfl rfl hl.1 rfl (Nat.le_of_ble_eq_true rfl) dX7_changes_23 ⟨Nat.le_refl _, Nat.le_refl _⟩ (fun H locs hP hD hS => ?_)
    exact fc_reti hx hb hr hlocks hP hS dX7_changes_26 (i2a hf) (congrArg (fun z => (cW G a z)) (i2b hf))
  · have hf := ifF hf c808
    refine lv_iload_n hx hb dX7_changes_11 rfl (lv_at hl 2 rfl) ?_
    refine lv_if_lt (tgt := 21) hx hb dX7_changes_12 (by decide) (fun c810 => ?_) (fun c810 => ?_)
    · have hf := ifT hf c810
      refine lv_aload_n hx hb dX7_changes_21 rfl (lv_at hl 0 rfl) ?_
      refine lv_iconst (v := (-1 : Int32)) hx hb dX7_changes_22 (by decide) ?_
      obtain ⟨q811, hq811, hf⟩ := bnd hf
      refine fc_callV (Wa' := (cW G a q811.2)) (st1 := [.int q811.1]) (As := [.int (-1 : Int32)]) (rest := []) hCF (k_X7_refuse a S (-1 : Int32) hq811) (cwV 1 hts gX7_changes_X7_refuse rfl rfl rfl ⟨rfl, dk_X7_refuse⟩ ⟨Nat.le_of_ble_eq_true rfl, Nat.le_of_ble_eq_true rfl⟩) hE hAB hP hD hS [0, 1, 2, 3, 4, 5, 6, 7, 8, 9, 10, 11, 12, 13, 14, 15, 16, 17, 18, 19, 20, 21, 22, 23, 24, 25, 26, 27, 28, 29, 30, 31] rfl rfl (va_recv hE.1 hP (ci := 4) (q0 := 0) rfl rfl) rfl rfl rfl rfl hl.1 rfl (Nat.le_of_ble_eq_true rfl) dX7_changes_23 ⟨Nat.le_refl _, Nat.le_refl _⟩ (fun H locs hP hD hS => ?_)
      exact fc_reti hx hb hr hlocks hP hS dX7_changes_26 (i2a hf) (congrArg (fun z => (cW G a z)) (i2b hf))
    · have hf := ifF hf c810
      refine lv_iload_n hx hb dX7_changes_15 rfl (lv_at hl 2 rfl) ?_
      refine lv_bipush (v := (6 : Int32)) hx hb dX7_changes_16 (by decide) ?_
      refine lv_icmp_lt (tgt := 27) hx hb dX7_changes_18 (by decide) (fun c812 => ?_) (fun c812 => ?_)
      · have hf := ifT hf c812
        refine lv_aload_n hx hb dX7_changes_27 rfl (lv_at hl 0 rfl) ?_
        refine fc_get (v := .ref (a 1)) (ci := 4) (C := RX7) (T := TX7) (N := 8) hx hb hwX7 hown hE hP 0 rfl rfl 0 (by decide) hk_fieldLink_RX7_10__BrideNotKnown___now___LBrideNotKnown_Valley__ (fun _ h => h) rfl dX7_changes_28 ?_
        refine lv_iload_n hx hb dX7_changes_31 rfl (lv_at hl 1 rfl) ?_
        refine lv_iconst (v := (1 : Int32)) hx hb dX7_changes_32 (by decide) ?_
        refine lv_iload_n hx hb dX7_changes_33 rfl (lv_at hl 2 rfl) ?_
        refine lv_ishl hx hb dX7_changes_34 ?_
        obtain ⟨q813, hq813, hf⟩ := bnd hf
        refine fc_callV (Wa' := (cW G a (sS S 0 q813))) (st1 := []) (As := [.int x1, .int ((1 : Int32) <<< (x2 &&& 31))]) (rest := []) hCF (k_X6_changeToes (sh 1 a) (S 0) x1 ((1 : Int32) <<< (x2 &&& 31)) hq813) (cwV 2 hts gX7_changes_X6_changeToes rfl rfl rfl ⟨rfl, dk_X6_changeToes⟩ ⟨Nat.le_of_ble_eq_true rfl, Nat.le_of_ble_eq_true rfl⟩) hE hAB hP hD hS [1, 2, 3, 4, 5, 6, 7, 8] rfl rfl (va_recv hE.1 hP (ci := 3) (q0 := 1) rfl rfl) rfl rfl rfl rfl hl.1 rfl (Nat.le_of_ble_eq_true rfl) dX7_changes_35 ⟨Nat.le_refl _, Nat.le_refl _⟩ (fun H locs hP hD hS => ?_)
        refine lv_aload_n hx hb dX7_changes_38 rfl (lv_at hl 0 rfl) ?_
        refine fc_get (v := .ref (a 1)) (ci := 4) (C := RX7) (T := TX7) (N := 8) hx hb hwX7 hown hE hP 0 rfl rfl 0 (by decide) hk_fieldLink_RX7_10__BrideNotKnown___now___LBrideNotKnown_Valley__ (fun _ h => h) rfl dX7_changes_39 ?_
        refine lv_iload_n hx hb dX7_changes_42 rfl (lv_at hl 1 rfl) ?_
        obtain ⟨q814, hq814, hf⟩ := bnd hf
        refine fc_callV (Wa' := (cW G a (sS S 0 q813))) (st1 := [.int q814]) (As := [.int x1]) (rest := []) hCF (k_X6_footOf (sh 1 a) q813 x1 hq814) (cwV 1 hts gX7_changes_X6_footOf rfl rfl rfl ⟨rfl, dk_X6_footOf⟩ ⟨Nat.le_of_ble_eq_true rfl, Nat.le_of_ble_eq_true rfl⟩) hE hAB hP hD hS [1, 2, 3, 4, 5, 6, 7, 8] rfl rfl (va_recv hE.1 hP (ci := 3) (q0 := 1) rfl rfl) rfl rfl rfl rfl hl.1 rfl (Nat.le_of_ble_eq_true rfl) dX7_changes_43 ⟨Nat.le_refl _, Nat.le_refl _⟩ (fun H locs hP hD hS => ?_)
        exact fc_reti hx hb hr hlocks hP hS dX7_changes_46 (i2a hf) (congrArg (fun z => (cW G a z)) (i2b hf))
      · have hf := ifF hf c812
        refine lv_aload_n hx hb dX7_changes_21 rfl (lv_at hl 0 rfl) ?_
        refine lv_iconst (v := (-1 : Int32)) hx hb dX7_changes_22 (by decide) ?_
        obtain ⟨q815, hq815, hf⟩ := bnd hf
        refine fc_callV (Wa' := (cW G a q815.2)) (st1 := [.int q815.1]) (As := [.int (-1 : Int32)]) (rest := []) hCF (k_X7_refuse a S (-1 : Int32) hq815) (cwV 1 hts gX7_changes_X7_refuse rfl rfl rfl ⟨rfl, dk_X7_refuse⟩ ⟨Nat.le_of_ble_eq_true rfl, Nat.le_of_ble_eq_true rfl⟩) hE hAB hP hD hS [0, 1, 2, 3, 4, 5, 6, 7, 8, 9, 10, 11, 12, 13, 14, 15, 16, 17, 18, 19, 20, 21, 22, 23, 24, 25, 26, 27, 28, 29, 30, 31] rfl rfl (va_recv hE.1 hP (ci := 4) (q0 := 0) rfl rfl) rfl rfl rfl rfl hl.1 rfl (Nat.le_of_ble_eq_true rfl) dX7_changes_23 ⟨Nat.le_refl _, Nat.le_refl _⟩ (fun H locs hP hD hS => ?_)
        exact fc_reti hx hb hr hlocks hP hS dX7_changes_26 (i2a hf) (congrArg (fun z => (cW G a z)) (i2b hf))
theorem dk_X7_clear : yX7_clear.cls ≠ "java/lang/invoke/MethodHandle" ∧ yX7_clear.cls ≠ "java/lang/invoke/VarHandle" ∧ (parseMethodDescriptor yX7_clear.desc).map (fun d => d.parameters.length) = some 0 := by decide +kernel
theorem iu_X7_clear_X4 : ∀ w ∈ u_ws RX4 TX4 2, w ∈ wsX7_clear := by decide +kernel
theorem iu_X7_clear_X7 : ∀ w ∈ u_ws RX7 TX7 8, w ∈ wsX7_clear := by decide +kernel
set_option maxHeartbeats 4000000 in
set_option maxRecDepth 100000 in
theorem k_X7_clear {l : Launch} {G : Gx} (a : Nat → Nat) (S : (Nat → St)) {r : Int32} {S' : (Nat → St)} (hf : f_X7_clear S = some (r, S')) : FC l G yX7_clear wsX7_clear ({ frames := 1, cells := 0, slots := 0, locals := 20 } : Room) [.ref (a 0)] (cW G a S) (cW G a S') (some (.int r)) := by
  refine fc_head (cc := cX7_clear) (maxL := 2) (ret := (some .int)) (C := RX7) (lv := [(0, .ref (a 0))]) (by decide) rfl rfl (Nat.le_of_ble_eq_true rfl) rfl ?_
  intro p e s m below meth c ls A hx hb hr hml hown hts hlocks hE hP hD hAB hS hl
  have hCF : CallFix p m c cX7_clear 2 s ([.ref (a 0)] : List Value).toArray wsX7_clear RX7 := ⟨hx, hb, hml, hown, hts⟩
  have hwX4 : ∀ w ∈ u_ws RX4 TX4 2, w.before ([.ref (a 0)] : List Value).toArray s = true := fun w h => hts w (iu_X7_clear_X4 w h)
  have hwX7 : ∀ w ∈ u_ws RX7 TX7 8, w.before ([.ref (a 0)] : List Value).toArray s = true := fun w h => hts w (iu_X7_clear_X7 w h)
  have hk_fieldLink_RX7_32__BrideNotKnown___numbers___LBrideNotKnown_Row__ := hts (.fieldLink RX7 32 "BrideNotKnown" "numbers" "LBrideNotKnown$Row;") (List.mem_of_getElem? (i := 1) rfl)
  have hk_fieldLink_RX7_264__BrideNotKnown_Row___size___I_ := hts (.fieldLink RX7 264 "BrideNotKnown$Row" "size" "I") (List.mem_of_getElem? (i := 2) rfl)
  rw [f_X7_clear] at hf
  refine lv_aload_n hx hb dX7_clear_0 rfl (lv_at hl 0 rfl) ?_
  refine fc_get (v := .ref (a 27)) (ci := 4) (C := RX7) (T := TX7) (N := 8) hx hb hwX7 hown hE hP 0 rfl rfl 5 (by decide) hk_fieldLink_RX7_32__BrideNotKnown___numbers___LBrideNotKnown_Row__ (fun _ h => h) rfl dX7_clear_1 ?_
  refine fc_get (v := .int ((S 4) 1 0)) (ci := 1) (C := RX4) (T := TX4) (N := 2) hx hb hwX4 hown hE hP 27 rfl rfl 1 (by decide) hk_fieldLink_RX7_264__BrideNotKnown_Row___size___I_ (fun _ h => h) rfl dX7_clear_4 ?_
  refine lv_istore_n (lv' := [(1, .int ((S 4) 1 0)), (0, .ref (a 0))]) hx hb dX7_clear_7 rfl hl (by decide) rfl (fun ls hl => ?_)
  refine lv_aload_n hx hb dX7_clear_8 rfl (lv_at hl 1 rfl) ?_
  refine fc_get (v := .ref (a 27)) (ci := 4) (C := RX7) (T := TX7) (N := 8) hx hb hwX7 hown hE hP 0 rfl rfl 5 (by decide) hk_fieldLink_RX7_32__BrideNotKnown___numbers___LBrideNotKnown_Row__ (fun _ h => h) rfl dX7_clear_9 ?_
  obtain ⟨q817, hq817, hf⟩ := bnd hf
  refine fc_callV (Wa' := (cW G a (sS S 4 q817))) (st1 := []) (As := []) (rest := []) hCF (k_X4_empty (sh 27 a) (S 4) hq817) (cwV 0 hts gX7_clear_X4_empty rfl rfl rfl ⟨rfl, dk_X4_empty⟩ ⟨Nat.le_of_ble_eq_true rfl, Nat.le_of_ble_eq_true rfl⟩) hE hAB hP hD hS [27, 28] rfl rfl (va_recv hE.1 hP (ci := 1) (q0 := 27) rfl rfl) rfl rfl rfl rfl hl.1 rfl (Nat.le_of_ble_eq_true rfl) dX7_clear_12 ⟨Nat.le_refl _, Nat.le_refl _⟩ (fun H locs hP hD hS => ?_)
  refine lv_iload_n hx hb dX7_clear_15 rfl (lv_at hl 0 rfl) ?_
  exact fc_reti hx hb hr hlocks hP hS dX7_clear_16 (i2a hf) (congrArg (fun z => (cW G a z)) (i2b hf))
theorem dk_X7_count : yX7_count.cls ≠ "java/lang/invoke/MethodHandle" ∧ yX7_count.cls ≠ "java/lang/invoke/VarHandle" ∧ (parseMethodDescriptor yX7_count.desc).map (fun d => d.parameters.length) = some 1 := by decide +kernel
theorem iu_X7_count_X4 : ∀ w ∈ u_ws RX4 TX4 2, w ∈ wsX7_count := by decide +kernel
theorem iu_X7_count_X5 : ∀ w ∈ u_ws RX5 TX5 2, w ∈ wsX7_count := by decide +kernel
theorem iu_X7_count_X6 : ∀ w ∈ u_ws RX6 TX6 12, w ∈ wsX7_count := by decide +kernel
theorem iu_X7_count_X7 : ∀ w ∈ u_ws RX7 TX7 8, w ∈ wsX7_count := by decide +kernel
set_option maxHeartbeats 4000000 in
set_option maxRecDepth 100000 in
theorem k_X7_count {l : Launch} {G : Gx} (a : Nat → Nat) (S : (Nat → St)) (x1 : Int32) {r : Int32} (hf : f_X7_count S x1 = some r) : FC l G yX7_count wsX7_count ({ frames := 3, cells := 0, slots := 0, locals := 64 } : Room) [.ref (a 0), .int x1] (cW G a S) (cW G a S) (some (.int r)) := by
  refine fc_head (cc := cX7_count) (maxL := 2) (ret := (some .int)) (C := RX7) (lv := [(0, .ref (a 0)), (1, .int x1)]) (by decide) rfl rfl (Nat.le_of_ble_eq_true rfl) rfl ?_
  intro p e s m below meth c ls A hx hb hr hml hown hts hlocks hE hP hD hAB hS hl
  have hCF : CallFix p m c cX7_count 2 s ([.ref (a 0), .int x1] : List Value).toArray wsX7_count RX7 := ⟨hx, hb, hml, hown, hts⟩
  have hwX4 : ∀ w ∈ u_ws RX4 TX4 2, w.before ([.ref (a 0), .int x1] : List Value).toArray s = true := fun w h => hts w (iu_X7_count_X4 w h)
  have hwX5 : ∀ w ∈ u_ws RX5 TX5 2, w.before ([.ref (a 0), .int x1] : List Value).toArray s = true := fun w h => hts w (iu_X7_count_X5 w h)
  have hwX6 : ∀ w ∈ u_ws RX6 TX6 12, w.before ([.ref (a 0), .int x1] : List Value).toArray s = true := fun w h => hts w (iu_X7_count_X6 w h)
  have hwX7 : ∀ w ∈ u_ws RX7 TX7 8, w.before ([.ref (a 0), .int x1] : List Value).toArray s = true := fun w h => hts w (iu_X7_count_X7 w h)
  have hk_fieldLink_RX7_10__BrideNotKnown___now___LBrideNotKnown_Valley__ := hts (.fieldLink RX7 10 "BrideNotKnown" "now" "LBrideNotKnown$Valley;") (List.mem_of_getElem? (i := 2) rfl)
  have hk_fieldLink_RX7_228__BrideNotKnown_Valley___brideCount___I_ := hts (.fieldLink RX7 228 "BrideNotKnown$Valley" "brideCount" "I") (List.mem_of_getElem? (i := 3) rfl)
  have hk_fieldLink_RX7_201__BrideNotKnown_Valley___groomCount___I_ := hts (.fieldLink RX7 201 "BrideNotKnown$Valley" "groomCount" "I") (List.mem_of_getElem? (i := 4) rfl)
  have hk_fieldLink_RX7_274__BrideNotKnown_Valley___year___I_ := hts (.fieldLink RX7 274 "BrideNotKnown$Valley" "year" "I") (List.mem_of_getElem? (i := 5) rfl)
  have hk_fieldLink_RX7_281__BrideNotKnown_Valley___marriedGrooms___I_ := hts (.fieldLink RX7 281 "BrideNotKnown$Valley" "marriedGrooms" "I") (List.mem_of_getElem? (i := 6) rfl)
  have hk_fieldLink_RX7_32__BrideNotKnown___numbers___LBrideNotKnown_Row__ := hts (.fieldLink RX7 32 "BrideNotKnown" "numbers" "LBrideNotKnown$Row;") (List.mem_of_getElem? (i := 7) rfl)
  have hk_fieldLink_RX7_264__BrideNotKnown_Row___size___I_ := hts (.fieldLink RX7 264 "BrideNotKnown$Row" "size" "I") (List.mem_of_getElem? (i := 8) rfl)
  have hk_fieldLink_RX7_25__BrideNotKnown___text___LBrideNotKnown_Text__ := hts (.fieldLink RX7 25 "BrideNotKnown" "text" "LBrideNotKnown$Text;") (List.mem_of_getElem? (i := 9) rfl)
  have hk_fieldLink_RX7_287__BrideNotKnown_Text___size___I_ := hts (.fieldLink RX7 287 "BrideNotKnown$Text" "size" "I") (List.mem_of_getElem? (i := 10) rfl)
  have hk_fieldLink_RX7_43__BrideNotKnown___refusals____I_ := hts (.fieldLink RX7 43 "BrideNotKnown" "refusals" "[I") (List.mem_of_getElem? (i := 1) rfl)
  rw [f_X7_count] at hf
  refine lv_iload_n hx hb dX7_count_0 rfl (lv_at hl 1 rfl) ?_
  refine lv_bipush (v := (11 : Int32)) hx hb dX7_count_1 (by decide) ?_
  have J24_821 : ∀ (H : Heap) (locs : List Loc) (ls : Array Slot), va_P (gD G) vwCl (cW G a S) H → va_D A (cW G a S) → va_S A s.heap H locs → lv_has ls 2 [(0, .ref (a 0)), (1, .int x1)] → f_X7_count_24 S x1 = some r → W p l e (headSpec wsX7_count ({ frames := 3, cells := 0, slots := 0, locals := 64 } : Room)).room s m ([.ref (a 0), .int x1] : List Value).toArray below meth c H locs 0 0 (MQ below (FQ G A (cW G a S) (some (.int r))) ([.ref (a 0), .int x1] : List Value).toArray s 0 0 A) (F0 m 24 ls []) := by
    intro H locs ls hP hD hS hl hf
    rw [f_X7_count_24] at hf
    refine lv_iload_n hx hb dX7_count_24 rfl (lv_at hl 1 rfl) ?_
    by_cases c822 : x1 = (0 : Int32)
    · have hf := ifT hf c822
      refine lv_tableIn (off := 47) (tgt := 72) hx hb dX7_count_25 (by rw [c822]; decide) (by rw [c822]; decide) (by rw [c822]; rfl) (by decide) ?_
      refine lv_aload_n hx hb dX7_count_72 rfl (lv_at hl 0 rfl) ?_
      refine fc_get (v := .ref (a 1)) (ci := 4) (C := RX7) (T := TX7) (N := 8) hx hb hwX7 hown hE hP 0 rfl rfl 0 (by decide) hk_fieldLink_RX7_10__BrideNotKnown___now___LBrideNotKnown_Valley__ (fun _ h => h) rfl dX7_count_73 ?_
      refine fc_get (v := .int ((S 0) 7 1)) (ci := 3) (C := RX6) (T := TX6) (N := 12) hx hb hwX6 hown hE hP 1 rfl rfl 1 (by decide) hk_fieldLink_RX7_228__BrideNotKnown_Valley___brideCount___I_ (fun _ h => h) rfl dX7_count_76 ?_
      exact fc_reti hx hb hr hlocks hP hS dX7_count_79 (i1 hf) rfl
    · have hf := ifF hf c822
      by_cases c823 : x1 = (1 : Int32)
      · have hf := ifT hf c823
        refine lv_tableIn (off := 55) (tgt := 80) hx hb dX7_count_25 (by rw [c823]; decide) (by rw [c823]; decide) (by rw [c823]; rfl) (by decide) ?_
        refine lv_aload_n hx hb dX7_count_80 rfl (lv_at hl 0 rfl) ?_
        refine fc_get (v := .ref (a 1)) (ci := 4) (C := RX7) (T := TX7) (N := 8) hx hb hwX7 hown hE hP 0 rfl rfl 0 (by decide) hk_fieldLink_RX7_10__BrideNotKnown___now___LBrideNotKnown_Valley__ (fun _ h => h) rfl dX7_count_81 ?_
        refine fc_get (v := .int ((S 0) 7 3)) (ci := 3) (C := RX6) (T := TX6) (N := 12) hx hb hwX6 hown hE hP 1 rfl rfl 7 (by decide) hk_fieldLink_RX7_201__BrideNotKnown_Valley___groomCount___I_ (fun _ h => h) rfl dX7_count_84 ?_
        exact fc_reti hx hb hr hlocks hP hS dX7_count_87 (i1 hf) rfl
      · have hf := ifF hf c823
        by_cases c824 : x1 = (2 : Int32)
        · have hf := ifT hf c824
          refine lv_tableIn (off := 63) (tgt := 88) hx hb dX7_count_25 (by rw [c824]; decide) (by rw [c824]; decide) (by rw [c824]; rfl) (by decide) ?_
          refine lv_aload_n hx hb dX7_count_88 rfl (lv_at hl 0 rfl) ?_
          refine fc_get (v := .ref (a 1)) (ci := 4) (C := RX7) (T := TX7) (N := 8) hx hb hwX7 hown hE hP 0 rfl rfl 0 (by decide) hk_fieldLink_RX7_10__BrideNotKnown___now___LBrideNotKnown_Valley__ (fun _ h => h) rfl dX7_count_89 ?_
          refine fc_get (v := .int ((S 0) 7 0)) (ci := 3) (C := RX6) (T := TX6) (N := 12) hx hb hwX6 hown hE hP 1 rfl rfl 0 (by decide) hk_fieldLink_RX7_274__BrideNotKnown_Valley___year___I_ (fun _ h => h) rfl dX7_count_92 ?_
          exact fc_reti hx hb hr hlocks hP hS dX7_count_95 (i1 hf) rfl
        · have hf := ifF hf c824
          by_cases c825 : x1 = (3 : Int32)
          · have hf := ifT hf c825
            refine lv_tableIn (off := 71) (tgt := 96) hx hb dX7_count_25 (by rw [c825]; decide) (by rw [c825]; decide) (by rw [c825]; rfl) (by decide) ?_
            refine lv_aload_n hx hb dX7_count_96 rfl (lv_at hl 0 rfl) ?_
            refine fc_get (v := .ref (a 1)) (ci := 4) (C := RX7) (T := TX7) (N := 8) hx hb hwX7 hown hE hP 0 rfl rfl 0 (by decide) hk_fieldLink_RX7_10__BrideNotKnown___now___LBrideNotKnown_Valley__ (fun _ h => h) rfl dX7_count_97 ?_
            refine lv_iconst (v := (0 : Int32)) hx hb dX7_count_100 (by decide) ?_
            obtain ⟨q826, hq826, hf⟩ := bnd hf
            refine fc_callV (Wa' := (cW G a S)) (st1 := [.int q826]) (As := [.int (0 : Int32)]) (rest := []) hCF (k_X6_hereThen (sh 1 a) (S 0) (0 : Int32) hq826) (cwV 1 hts gX7_count_X6_hereThen rfl rfl rfl ⟨rfl, dk_X6_hereThen⟩ ⟨Nat.le_of_ble_eq_true rfl, Nat.le_of_ble_eq_true rfl⟩) hE hAB hP hD hS [1, 2, 3, 4, 5, 6, 7, 8] rfl rfl (va_recv hE.1 hP (ci := 3) (q0 := 1) rfl rfl) rfl rfl rfl rfl hl.1 rfl (Nat.le_of_ble_eq_true rfl) dX7_count_101 ⟨Nat.le_refl _, Nat.le_refl _⟩ (fun H locs hP hD hS => ?_)
            exact fc_reti hx hb hr hlocks hP hS dX7_count_104 (i1 hf) rfl
          · have hf := ifF hf c825
            by_cases c827 : x1 = (4 : Int32)
            · have hf := ifT hf c827
              refine lv_tableIn (off := 80) (tgt := 105) hx hb dX7_count_25 (by rw [c827]; decide) (by rw [c827]; decide) (by rw [c827]; rfl) (by decide) ?_
              refine lv_aload_n hx hb dX7_count_105 rfl (lv_at hl 0 rfl) ?_
              refine fc_get (v := .ref (a 1)) (ci := 4) (C := RX7) (T := TX7) (N := 8) hx hb hwX7 hown hE hP 0 rfl rfl 0 (by decide) hk_fieldLink_RX7_10__BrideNotKnown___now___LBrideNotKnown_Valley__ (fun _ h => h) rfl dX7_count_106 ?_
              refine fc_get (v := .int ((S 0) 7 4)) (ci := 3) (C := RX6) (T := TX6) (N := 12) hx hb hwX6 hown hE hP 1 rfl rfl 11 (by decide) hk_fieldLink_RX7_281__BrideNotKnown_Valley___marriedGrooms___I_ (fun _ h => h) rfl dX7_count_109 ?_
              exact fc_reti hx hb hr hlocks hP hS dX7_count_112 (i1 hf) rfl
            · have hf := ifF hf c827
              by_cases c828 : x1 = (5 : Int32)
              · have hf := ifT hf c828
                refine lv_tableIn (off := 88) (tgt := 113) hx hb dX7_count_25 (by rw [c828]; decide) (by rw [c828]; decide) (by rw [c828]; rfl) (by decide) ?_
                refine lv_aload_n hx hb dX7_count_113 rfl (lv_at hl 0 rfl) ?_
                refine fc_get (v := .ref (a 1)) (ci := 4) (C := RX7) (T := TX7) (N := 8) hx hb hwX7 hown hE hP 0 rfl rfl 0 (by decide) hk_fieldLink_RX7_10__BrideNotKnown___now___LBrideNotKnown_Valley__ (fun _ h => h) rfl dX7_count_114 ?_
                obtain ⟨q829, hq829, hf⟩ := bnd hf
                refine fc_callV (Wa' := (cW G a S)) (st1 := [.int q829]) (As := []) (rest := []) hCF (k_X6_allLiquor (sh 1 a) (S 0) hq829) (cwV 0 hts gX7_count_X6_allLiquor rfl rfl rfl ⟨rfl, dk_X6_allLiquor⟩ ⟨Nat.le_of_ble_eq_true rfl, Nat.le_of_ble_eq_true rfl⟩) hE hAB hP hD hS [1, 2, 3, 4, 5, 6, 7, 8] rfl rfl (va_recv hE.1 hP (ci := 3) (q0 := 1) rfl rfl) rfl rfl rfl rfl hl.1 rfl (Nat.le_of_ble_eq_true rfl) dX7_count_117 ⟨Nat.le_refl _, Nat.le_refl _⟩ (fun H locs hP hD hS => ?_)
                exact fc_reti hx hb hr hlocks hP hS dX7_count_120 (i1 hf) rfl
              · have hf := ifF hf c828
                by_cases c830 : x1 = (6 : Int32)
                · have hf := ifT hf c830
                  refine lv_tableIn (off := 96) (tgt := 121) hx hb dX7_count_25 (by rw [c830]; decide) (by rw [c830]; decide) (by rw [c830]; rfl) (by decide) ?_
                  refine lv_aload_n hx hb dX7_count_121 rfl (lv_at hl 0 rfl) ?_
                  refine fc_get (v := .ref (a 27)) (ci := 4) (C := RX7) (T := TX7) (N := 8) hx hb hwX7 hown hE hP 0 rfl rfl 5 (by decide) hk_fieldLink_RX7_32__BrideNotKnown___numbers___LBrideNotKnown_Row__ (fun _ h => h) rfl dX7_count_122 ?_
                  refine fc_get (v := .int ((S 4) 1 0)) (ci := 1) (C := RX4) (T := TX4) (N := 2) hx hb hwX4 hown hE hP 27 rfl rfl 1 (by decide) hk_fieldLink_RX7_264__BrideNotKnown_Row___size___I_ (fun _ h => h) rfl dX7_count_125 ?_
                  exact fc_reti hx hb hr hlocks hP hS dX7_count_128 (i1 hf) rfl
                · have hf := ifF hf c830
                  by_cases c831 : x1 = (7 : Int32)
                  · have hf := ifT hf c831
                    refine lv_tableIn (off := 104) (tgt := 129) hx hb dX7_count_25 (by rw [c831]; decide) (by rw [c831]; decide) (by rw [c831]; rfl) (by decide) ?_
                    refine lv_aload_n hx hb dX7_count_129 rfl (lv_at hl 0 rfl) ?_
                    refine fc_get (v := .ref (a 25)) (ci := 4) (C := RX7) (T := TX7) (N := 8) hx hb hwX7 hown hE hP 0 rfl rfl 4 (by decide) hk_fieldLink_RX7_25__BrideNotKnown___text___LBrideNotKnown_Text__ (fun _ h => h) rfl dX7_count_130 ?_
                    refine fc_get (v := .int ((S 3) 1 0)) (ci := 2) (C := RX5) (T := TX5) (N := 2) hx hb hwX5 hown hE hP 25 rfl rfl 1 (by decide) hk_fieldLink_RX7_287__BrideNotKnown_Text___size___I_ (fun _ h => h) rfl dX7_count_133 ?_
                    exact fc_reti hx hb hr hlocks hP hS dX7_count_136 (i1 hf) rfl
                  · have hf := ifF hf c831
                    refine lv_tableOut (tgt := 137) hx hb dX7_count_25 (by have dc822 := lv_neT c822 (a := 0) (by decide); have dc823 := lv_neT c823 (a := 1) (by decide); have dc824 := lv_neT c824 (a := 2) (by decide); have dc825 := lv_neT c825 (a := 3) (by decide); have dc827 := lv_neT c827 (a := 4) (by decide); have dc828 := lv_neT c828 (a := 5) (by decide); have dc830 := lv_neT c830 (a := 6) (by decide); have dc831 := lv_neT c831 (a := 7) (by decide); omega) (by decide) ?_
                    refine lv_bipush (v := (-9 : Int32)) hx hb dX7_count_137 (by decide) ?_
                    exact fc_reti hx hb hr hlocks hP hS dX7_count_139 (i1 hf) rfl
  refine lv_icmp_lt (tgt := 24) hx hb dX7_count_3 (by decide) (fun c832 => ?_) (fun c832 => ?_)
  · have hf := ifT hf c832
    exact J24_821 _ _ _ hP hD hS (lv_sub hl [0, 1] rfl) hf
  · have hf := ifF hf c832
    refine lv_iload_n hx hb dX7_count_6 rfl (lv_at hl 1 rfl) ?_
    refine lv_bipush (v := (16 : Int32)) hx hb dX7_count_7 (by decide) ?_
    refine lv_icmp_gt (tgt := 24) hx hb dX7_count_9 (by decide) (fun c833 => ?_) (fun c833 => ?_)
    · have hf := ifT hf c833
      exact J24_821 _ _ _ hP hD hS (lv_sub hl [0, 1] rfl) hf
    · have hf := ifF hf c833
      refine lv_aload_n hx hb dX7_count_12 rfl (lv_at hl 0 rfl) ?_
      refine fc_get (v := .ref (a 31)) (ci := 4) (C := RX7) (T := TX7) (N := 8) hx hb hwX7 hown hE hP 0 rfl rfl 7 (by decide) hk_fieldLink_RX7_43__BrideNotKnown___refusals____I_ (fun _ h => h) rfl dX7_count_13 ?_
      refine lv_iload_n hx hb dX7_count_16 rfl (lv_at hl 1 rfl) ?_
      refine lv_bipush (v := (10 : Int32)) hx hb dX7_count_17 (by decide) ?_
      refine lv_isub hx hb dX7_count_19 ?_
      obtain ⟨q834, hq834, hf⟩ := bnd hf
      refine fc_callS (Wa' := (cW G a S)) (st1 := [.int q834]) (As := [.ref (a 31), .int (x1 - (10 : Int32))]) (rest := []) hCF (k_X7_at (a 31) 7 ((S 6) 0) (x1 - (10 : Int32)) hq834) (va_cwS 2 hts gX7_count_X7_at rfl rfl rfl dk_X7_at ⟨Nat.le_of_ble_eq_true rfl, Nat.le_of_ble_eq_true rfl⟩) hE hAB hP hD hS [31] rfl rfl rfl rfl rfl rfl hl.1 rfl (Nat.le_of_ble_eq_true rfl) dX7_count_20 ⟨Nat.le_refl _, Nat.le_refl _⟩ (fun H locs hP hD hS => ?_)
      exact fc_reti hx hb hr hlocks hP hS dX7_count_23 (i1 hf) rfl
theorem dk_X7_drink : yX7_drink.cls ≠ "java/lang/invoke/MethodHandle" ∧ yX7_drink.cls ≠ "java/lang/invoke/VarHandle" ∧ (parseMethodDescriptor yX7_drink.desc).map (fun d => d.parameters.length) = some 2 := by decide +kernel
theorem iu_X7_drink_X7 : ∀ w ∈ u_ws RX7 TX7 8, w ∈ wsX7_drink := by decide +kernel
set_option maxHeartbeats 4000000 in
set_option maxRecDepth 100000 in
theorem k_X7_drink {l : Launch} {G : Gx} (a : Nat → Nat) (S : (Nat → St)) (x1 : Int32) (x2 : Int32) {r : Int32} {S' : (Nat → St)} (hf : f_X7_drink S x1 x2 = some (r, S')) : FC l G yX7_drink wsX7_drink ({ frames := 5, cells := 0, slots := 0, locals := 122 } : Room) [.ref (a 0), .int x1, .int x2] (cW G a S) (cW G a S') (some (.int r)) := by
  refine fc_head (cc := cX7_drink) (maxL := 4) (ret := (some .int)) (C := RX7) (lv := [(0, .ref (a 0)), (1, .int x1), (2, .int x2)]) (by decide) rfl rfl (Nat.le_of_ble_eq_true rfl) rfl ?_
  intro p e s m below meth c ls A hx hb hr hml hown hts hlocks hE hP hD hAB hS hl
  have hCF : CallFix p m c cX7_drink 4 s ([.ref (a 0), .int x1, .int x2] : List Value).toArray wsX7_drink RX7 := ⟨hx, hb, hml, hown, hts⟩
  have hwX7 : ∀ w ∈ u_ws RX7 TX7 8, w.before ([.ref (a 0), .int x1, .int x2] : List Value).toArray s = true := fun w h => hts w (iu_X7_drink_X7 w h)
  have hk_fieldLink_RX7_10__BrideNotKnown___now___LBrideNotKnown_Valley__ := hts (.fieldLink RX7 10 "BrideNotKnown" "now" "LBrideNotKnown$Valley;") (List.mem_of_getElem? (i := 1) rfl)
  rw [f_X7_drink] at hf
  refine lv_aload_n hx hb dX7_drink_0 rfl (lv_at hl 0 rfl) ?_
  refine fc_get (v := .ref (a 1)) (ci := 4) (C := RX7) (T := TX7) (N := 8) hx hb hwX7 hown hE hP 0 rfl rfl 0 (by decide) hk_fieldLink_RX7_10__BrideNotKnown___now___LBrideNotKnown_Valley__ (fun _ h => h) rfl dX7_drink_1 ?_
  refine lv_iload_n hx hb dX7_drink_4 rfl (lv_at hl 1 rfl) ?_
  obtain ⟨q840, hq840, hf⟩ := bnd hf
  refine fc_callV (Wa' := (cW G a S)) (st1 := [.int q840]) (As := [.int x1]) (rest := []) hCF (k_X6_hasGroom (sh 1 a) (S 0) x1 hq840) (cwV 1 hts gX7_drink_X6_hasGroom rfl rfl rfl ⟨rfl, dk_X6_hasGroom⟩ ⟨Nat.le_of_ble_eq_true rfl, Nat.le_of_ble_eq_true rfl⟩) hE hAB hP hD hS [1, 2, 3, 4, 5, 6, 7, 8] rfl rfl (va_recv hE.1 hP (ci := 3) (q0 := 1) rfl rfl) rfl rfl rfl rfl hl.1 rfl (Nat.le_of_ble_eq_true rfl) dX7_drink_5 ⟨Nat.le_refl _, Nat.le_refl _⟩ (fun H locs hP hD hS => ?_)
  refine lv_if_eq (tgt := 22) hx hb dX7_drink_8 (by decide) (fun c841 => ?_) (fun c841 => ?_)
  · have hf := ifT hf c841
    refine lv_aload_n hx hb dX7_drink_22 rfl (lv_at hl 0 rfl) ?_
    refine lv_iconst (v := (-1 : Int32)) hx hb dX7_drink_23 (by decide) ?_
    obtain ⟨q842, hq842, hf⟩ := bnd hf
    refine fc_callV (Wa' := (cW G a q842.2)) (st1 := [.int q842.1]) (As := [.int (-1 : Int32)]) (rest := []) hCF (k_X7_refuse a S (-1 : Int32) hq842) (cwV 1 hts gX7_drink_X7_refuse rfl rfl rfl ⟨rfl, dk_X7_refuse⟩ ⟨Nat.le_of_ble_eq_true rfl, Nat.le_of_ble_eq_true rfl⟩) hE hAB hP hD hS [0, 1, 2, 3, 4, 5, 6, 7, 8, 9, 10, 11, 12, 13, 14, 15, 16, 17, 18, 19, 20, 21, 22, 23, 24, 25, 26, 27, 28, 29, 30, 31] rfl rfl (va_recv hE.1 hP (ci := 4) (q0 := 0) rfl rfl) rfl rfl rfl rfl hl.1 rfl (Nat.le_of_ble_eq_true rfl) dX7_drink_24 ⟨Nat.le_refl _, Nat.le_refl _⟩ (fun H locs hP hD hS => ?_)
    exact fc_reti hx hb hr hlocks hP hS dX7_drink_27 (i2a hf) (congrArg (fun z => (cW G a z)) (i2b hf))
  · have hf := ifF hf c841
    refine lv_aload_n hx hb dX7_drink_11 rfl (lv_at hl 0 rfl) ?_
    refine fc_get (v := .ref (a 1)) (ci := 4) (C := RX7) (T := TX7) (N := 8) hx hb hwX7 hown hE hP 0 rfl rfl 0 (by decide) hk_fieldLink_RX7_10__BrideNotKnown___now___LBrideNotKnown_Valley__ (fun _ h => h) rfl dX7_drink_12 ?_
    refine lv_iload_n hx hb dX7_drink_15 rfl (lv_at hl 2 rfl) ?_
    obtain ⟨q843, hq843, hf⟩ := bnd hf
    refine fc_callV (Wa' := (cW G a S)) (st1 := [.int q843]) (As := [.int x2]) (rest := []) hCF (k_X6_hasBride (sh 1 a) (S 0) x2 hq843) (cwV 1 hts gX7_drink_X6_hasBride rfl rfl rfl ⟨rfl, dk_X6_hasBride⟩ ⟨Nat.le_of_ble_eq_true rfl, Nat.le_of_ble_eq_true rfl⟩) hE hAB hP hD hS [1, 2, 3, 4, 5, 6, 7, 8] rfl rfl (va_recv hE.1 hP (ci := 3) (q0 := 1) rfl rfl) rfl rfl rfl rfl hl.1 rfl (Nat.le_of_ble_eq_true rfl) dX7_drink_16 ⟨Nat.le_refl _, Nat.le_refl _⟩ (fun H locs hP hD hS => ?_)
    refine lv_if_ne (tgt := 28) hx hb dX7_drink_19 (by decide) (fun c844 => ?_) (fun c844 => ?_)
    · have hf := ifF hf c844
      refine lv_iconst (v := (0 : Int32)) hx hb dX7_drink_28 (by decide) ?_
      refine lv_istore_n (lv' := [(3, .int (0 : Int32)), (0, .ref (a 0)), (1, .int x1), (2, .int x2)]) hx hb dX7_drink_29 rfl hl (by decide) rfl (fun ls hl => ?_)
      have L30_846 : ∀ (n : Nat) (x3_845 : Int32) (H : Heap) (locs : List Loc) (ls : Array Slot), va_P (gD G) vwCl (cW G a S) H → va_D A (cW G a S) → va_S A s.heap H locs → lv_has ls 4 [(0, .ref (a 0)), (1, .int x1), (2, .int x2), (3, .int x3_845)] → f_X7_drink_30 S x1 x2 n x3_845 = some (r, S') → W p l e (headSpec wsX7_drink ({ frames := 5, cells := 0, slots := 0, locals := 122 } : Room)).room s m ([.ref (a 0), .int x1, .int x2] : List Value).toArray below meth c H locs 0 0 (MQ below (FQ G A (cW G a S') (some (.int r))) ([.ref (a 0), .int x1, .int x2] : List Value).toArray s 0 0 A) (F0 m 30 ls []) := by
        intro n
        induction n with
        | zero =>
          intro x3_845 H locs ls hP hD hS hl hf
          exact no_some hf
        | succ n ih =>
          intro x3_845 H locs ls hP hD hS hl hf
          rw [f_X7_drink_30] at hf
          refine lv_iload_n hx hb dX7_drink_30 rfl (lv_at hl 3 rfl) ?_
          refine lv_bipush (v := (9 : Int32)) hx hb dX7_drink_31 (by decide) ?_
          refine lv_icmp_gt (tgt := 57) hx hb dX7_drink_33 (by decide) (fun c847 => ?_) (fun c847 => ?_)
          · have hf := ifT hf c847
            refine lv_bipush (v := (-9 : Int32)) hx hb dX7_drink_57 (by decide) ?_
            exact fc_reti hx hb hr hlocks hP hS dX7_drink_59 (i2a hf) (congrArg (fun z => (cW G a z)) (i2b hf))
          · have hf := ifF hf c847
            refine lv_aload_n hx hb dX7_drink_36 rfl (lv_at hl 0 rfl) ?_
            refine fc_get (v := .ref (a 1)) (ci := 4) (C := RX7) (T := TX7) (N := 8) hx hb hwX7 hown hE hP 0 rfl rfl 0 (by decide) hk_fieldLink_RX7_10__BrideNotKnown___now___LBrideNotKnown_Valley__ (fun _ h => h) rfl dX7_drink_37 ?_
            refine lv_iload_n hx hb dX7_drink_40 rfl (lv_at hl 1 rfl) ?_
            refine lv_iload_n hx hb dX7_drink_41 rfl (lv_at hl 3 rfl) ?_
            obtain ⟨q848, hq848, hf⟩ := bnd hf
            refine fc_callV (Wa' := (cW G a S)) (st1 := [.int q848]) (As := [.int x1, .int x3_845]) (rest := []) hCF (k_X6_takenWith (sh 1 a) (S 0) x1 x3_845 hq848) (cwV 2 hts gX7_drink_X6_takenWith rfl rfl rfl ⟨rfl, dk_X6_takenWith⟩ ⟨Nat.le_of_ble_eq_true rfl, Nat.le_of_ble_eq_true rfl⟩) hE hAB hP hD hS [1, 2, 3, 4, 5, 6, 7, 8] rfl rfl (va_recv hE.1 hP (ci := 3) (q0 := 1) rfl rfl) rfl rfl rfl rfl hl.1 rfl (Nat.le_of_ble_eq_true rfl) dX7_drink_42 ⟨Nat.le_refl _, Nat.le_refl _⟩ (fun H locs hP hD hS => ?_)
            refine lv_iload_n hx hb dX7_drink_45 rfl (lv_at hl 2 rfl) ?_
            refine lv_icmp_ne (tgt := 51) hx hb dX7_drink_46 (by decide) (fun c849 => ?_) (fun c849 => ?_)
            · have hf := ifF hf c849
              refine lv_iinc (v := (x3_845 + (1 : Int32))) (lv' := [(3, .int (x3_845 + (1 : Int32))), (0, .ref (a 0)), (1, .int x1), (2, .int x2)]) hx hb dX7_drink_51 hl (k := 3) rfl rfl (by decide) rfl (fun ls hl => ?_)
              refine lv_goto (tgt := 30) hx hb dX7_drink_54 (by decide) ?_
              exact ih (x3_845 + (1 : Int32)) _ _ _ hP hD hS (lv_sub hl [1, 2, 3, 0] rfl) hf
            · have hf := ifT hf c849
              refine lv_iload_n hx hb dX7_drink_49 rfl (lv_at hl 3 rfl) ?_
              exact fc_reti hx hb hr hlocks hP hS dX7_drink_50 (i2a hf) (congrArg (fun z => (cW G a z)) (i2b hf))
      exact L30_846 FUEL (0 : Int32) _ _ _ hP hD hS (lv_sub hl [1, 2, 3, 0] rfl) hf
    · have hf := ifT hf c844
      refine lv_aload_n hx hb dX7_drink_22 rfl (lv_at hl 0 rfl) ?_
      refine lv_iconst (v := (-1 : Int32)) hx hb dX7_drink_23 (by decide) ?_
      obtain ⟨q850, hq850, hf⟩ := bnd hf
      refine fc_callV (Wa' := (cW G a q850.2)) (st1 := [.int q850.1]) (As := [.int (-1 : Int32)]) (rest := []) hCF (k_X7_refuse a S (-1 : Int32) hq850) (cwV 1 hts gX7_drink_X7_refuse rfl rfl rfl ⟨rfl, dk_X7_refuse⟩ ⟨Nat.le_of_ble_eq_true rfl, Nat.le_of_ble_eq_true rfl⟩) hE hAB hP hD hS [0, 1, 2, 3, 4, 5, 6, 7, 8, 9, 10, 11, 12, 13, 14, 15, 16, 17, 18, 19, 20, 21, 22, 23, 24, 25, 26, 27, 28, 29, 30, 31] rfl rfl (va_recv hE.1 hP (ci := 4) (q0 := 0) rfl rfl) rfl rfl rfl rfl hl.1 rfl (Nat.le_of_ble_eq_true rfl) dX7_drink_24 ⟨Nat.le_refl _, Nat.le_refl _⟩ (fun H locs hP hD hS => ?_)
      exact fc_reti hx hb hr hlocks hP hS dX7_drink_27 (i2a hf) (congrArg (fun z => (cW G a z)) (i2b hf))
theorem dk_X7_drinks : yX7_drinks.cls ≠ "java/lang/invoke/MethodHandle" ∧ yX7_drinks.cls ≠ "java/lang/invoke/VarHandle" ∧ (parseMethodDescriptor yX7_drinks.desc).map (fun d => d.parameters.length) = some 2 := by decide +kernel
theorem iu_X7_drinks_X7 : ∀ w ∈ u_ws RX7 TX7 8, w ∈ wsX7_drinks := by decide +kernel
set_option maxHeartbeats 4000000 in
set_option maxRecDepth 100000 in
theorem k_X7_drinks {l : Launch} {G : Gx} (a : Nat → Nat) (S : (Nat → St)) (x1 : Int32) (x2 : Int32) {r : Int32} {S' : (Nat → St)} (hf : f_X7_drinks S x1 x2 = some (r, S')) : FC l G yX7_drinks wsX7_drinks ({ frames := 2, cells := 0, slots := 0, locals := 45 } : Room) [.ref (a 0), .int x1, .int x2] (cW G a S) (cW G a S') (some (.int r)) := by
  refine fc_head (cc := cX7_drinks) (maxL := 5) (ret := (some .int)) (C := RX7) (lv := [(0, .ref (a 0)), (1, .int x1), (2, .int x2)]) (by decide) rfl rfl (Nat.le_of_ble_eq_true rfl) rfl ?_
  intro p e s m below meth c ls A hx hb hr hml hown hts hlocks hE hP hD hAB hS hl
  have hCF : CallFix p m c cX7_drinks 5 s ([.ref (a 0), .int x1, .int x2] : List Value).toArray wsX7_drinks RX7 := ⟨hx, hb, hml, hown, hts⟩
  have hwX7 : ∀ w ∈ u_ws RX7 TX7 8, w.before ([.ref (a 0), .int x1, .int x2] : List Value).toArray s = true := fun w h => hts w (iu_X7_drinks_X7 w h)
  have hk_fieldLink_RX7_10__BrideNotKnown___now___LBrideNotKnown_Valley__ := hts (.fieldLink RX7 10 "BrideNotKnown" "now" "LBrideNotKnown$Valley;") (List.mem_of_getElem? (i := 1) rfl)
  rw [f_X7_drinks] at hf
  refine lv_aload_n hx hb dX7_drinks_0 rfl (lv_at hl 0 rfl) ?_
  refine fc_get (v := .ref (a 1)) (ci := 4) (C := RX7) (T := TX7) (N := 8) hx hb hwX7 hown hE hP 0 rfl rfl 0 (by decide) hk_fieldLink_RX7_10__BrideNotKnown___now___LBrideNotKnown_Valley__ (fun _ h => h) rfl dX7_drinks_1 ?_
  refine lv_iload_n hx hb dX7_drinks_4 rfl (lv_at hl 1 rfl) ?_
  obtain ⟨q856, hq856, hf⟩ := bnd hf
  refine fc_callV (Wa' := (cW G a S)) (st1 := [.int q856]) (As := [.int x1]) (rest := []) hCF (k_X6_hasGroom (sh 1 a) (S 0) x1 hq856) (cwV 1 hts gX7_drinks_X6_hasGroom rfl rfl rfl ⟨rfl, dk_X6_hasGroom⟩ ⟨Nat.le_of_ble_eq_true rfl, Nat.le_of_ble_eq_true rfl⟩) hE hAB hP hD hS [1, 2, 3, 4, 5, 6, 7, 8] rfl rfl (va_recv hE.1 hP (ci := 3) (q0 := 1) rfl rfl) rfl rfl rfl rfl hl.1 rfl (Nat.le_of_ble_eq_true rfl) dX7_drinks_5 ⟨Nat.le_refl _, Nat.le_refl _⟩ (fun H locs hP hD hS => ?_)
  refine lv_iload_n hx hb dX7_drinks_8 rfl (lv_at hl 2 rfl) ?_
  refine lv_iconst (v := (0 : Int32)) hx hb dX7_drinks_9 (by decide) ?_
  refine lv_bipush (v := (9 : Int32)) hx hb dX7_drinks_10 (by decide) ?_
  obtain ⟨q857, hq857, hf⟩ := bnd hf
  refine fc_callS (Wa' := (cW G a S)) (st1 := [.int q857]) (As := [.int q856, .int x2, .int (0 : Int32), .int (9 : Int32)]) (rest := []) hCF (k_X7_refusalOf q856 x2 (0 : Int32) (9 : Int32) hq857) (va_cwS 4 hts gX7_drinks_X7_refusalOf rfl rfl rfl dk_X7_refusalOf ⟨Nat.le_of_ble_eq_true rfl, Nat.le_of_ble_eq_true rfl⟩) hE hAB hP hD hS [] rfl rfl rfl rfl rfl rfl hl.1 rfl (Nat.le_of_ble_eq_true rfl) dX7_drinks_12 ⟨Nat.le_refl _, Nat.le_refl _⟩ (fun H locs hP hD hS => ?_)
  refine lv_istore_n (lv' := [(3, .int q857), (0, .ref (a 0)), (1, .int x1), (2, .int x2)]) hx hb dX7_drinks_15 rfl hl (by decide) rfl (fun ls hl => ?_)
  refine lv_iload_n hx hb dX7_drinks_16 rfl (lv_at hl 0 rfl) ?_
  refine lv_if_eq (tgt := 26) hx hb dX7_drinks_17 (by decide) (fun c858 => ?_) (fun c858 => ?_)
  · have hf := ifT hf c858
    refine lv_aload_n hx hb dX7_drinks_26 rfl (lv_at hl 1 rfl) ?_
    refine fc_get (v := .ref (a 1)) (ci := 4) (C := RX7) (T := TX7) (N := 8) hx hb hwX7 hown hE hP 0 rfl rfl 0 (by decide) hk_fieldLink_RX7_10__BrideNotKnown___now___LBrideNotKnown_Valley__ (fun _ h => h) rfl dX7_drinks_27 ?_
    refine lv_iload_n hx hb dX7_drinks_30 rfl (lv_at hl 2 rfl) ?_
    obtain ⟨q859, hq859, hf⟩ := bnd hf
    refine fc_callV (Wa' := (cW G a S)) (st1 := [.int q859]) (As := [.int x1]) (rest := []) hCF (k_X6_liquorOf (sh 1 a) (S 0) x1 hq859) (cwV 1 hts gX7_drinks_X6_liquorOf rfl rfl rfl ⟨rfl, dk_X6_liquorOf⟩ ⟨Nat.le_of_ble_eq_true rfl, Nat.le_of_ble_eq_true rfl⟩) hE hAB hP hD hS [1, 2, 3, 4, 5, 6, 7, 8] rfl rfl (va_recv hE.1 hP (ci := 3) (q0 := 1) rfl rfl) rfl rfl rfl rfl hl.1 rfl (Nat.le_of_ble_eq_true rfl) dX7_drinks_31 ⟨Nat.le_refl _, Nat.le_refl _⟩ (fun H locs hP hD hS => ?_)
    refine lv_istore (lv' := [(4, .int q859), (3, .int q857), (0, .ref (a 0)), (1, .int x1), (2, .int x2)]) hx hb dX7_drinks_34 hl (by decide) rfl (fun ls hl => ?_)
    refine lv_aload_n hx hb dX7_drinks_36 rfl (lv_at hl 2 rfl) ?_
    refine fc_get (v := .ref (a 1)) (ci := 4) (C := RX7) (T := TX7) (N := 8) hx hb hwX7 hown hE hP 0 rfl rfl 0 (by decide) hk_fieldLink_RX7_10__BrideNotKnown___now___LBrideNotKnown_Valley__ (fun _ h => h) rfl dX7_drinks_37 ?_
    refine lv_iload_n hx hb dX7_drinks_40 rfl (lv_at hl 3 rfl) ?_
    refine lv_iload_n hx hb dX7_drinks_41 rfl (lv_at hl 4 rfl) ?_
    obtain ⟨q860, hq860, hf⟩ := bnd hf
    refine fc_callV (Wa' := (cW G a (sS S 0 q860))) (st1 := []) (As := [.int x1, .int x2]) (rest := []) hCF (k_X6_setLiquor (sh 1 a) (S 0) x1 x2 hq860) (cwV 2 hts gX7_drinks_X6_setLiquor rfl rfl rfl ⟨rfl, dk_X6_setLiquor⟩ ⟨Nat.le_of_ble_eq_true rfl, Nat.le_of_ble_eq_true rfl⟩) hE hAB hP hD hS [1, 2, 3, 4, 5, 6, 7, 8] rfl rfl (va_recv hE.1 hP (ci := 3) (q0 := 1) rfl rfl) rfl rfl rfl rfl hl.1 rfl (Nat.le_of_ble_eq_true rfl) dX7_drinks_42 ⟨Nat.le_refl _, Nat.le_refl _⟩ (fun H locs hP hD hS => ?_)
    refine lv_iload hx hb dX7_drinks_45 (lv_at hl 0 rfl) ?_
    exact fc_reti hx hb hr hlocks hP hS dX7_drinks_47 (i2a hf) (congrArg (fun z => (cW G a z)) (i2b hf))
  · have hf := ifF hf c858
    refine lv_aload_n hx hb dX7_drinks_20 rfl (lv_at hl 1 rfl) ?_
    refine lv_iload_n hx hb dX7_drinks_21 rfl (lv_at hl 0 rfl) ?_
    obtain ⟨q861, hq861, hf⟩ := bnd hf
    refine fc_callV (Wa' := (cW G a q861.2)) (st1 := [.int q861.1]) (As := [.int q857]) (rest := []) hCF (k_X7_refuse a S q857 hq861) (cwV 1 hts gX7_drinks_X7_refuse rfl rfl rfl ⟨rfl, dk_X7_refuse⟩ ⟨Nat.le_of_ble_eq_true rfl, Nat.le_of_ble_eq_true rfl⟩) hE hAB hP hD hS [0, 1, 2, 3, 4, 5, 6, 7, 8, 9, 10, 11, 12, 13, 14, 15, 16, 17, 18, 19, 20, 21, 22, 23, 24, 25, 26, 27, 28, 29, 30, 31] rfl rfl (va_recv hE.1 hP (ci := 4) (q0 := 0) rfl rfl) rfl rfl rfl rfl hl.1 rfl (Nat.le_of_ble_eq_true rfl) dX7_drinks_22 ⟨Nat.le_refl _, Nat.le_refl _⟩ (fun H locs hP hD hS => ?_)
    exact fc_reti hx hb hr hlocks hP hS dX7_drinks_25 (i2a hf) (congrArg (fun z => (cW G a z)) (i2b hf))
