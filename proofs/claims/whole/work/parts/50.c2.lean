theorem dk_X7_refuse : yX7_refuse.cls ≠ "java/lang/invoke/MethodHandle" ∧ yX7_refuse.cls ≠ "java/lang/invoke/VarHandle" ∧ (parseMethodDescriptor yX7_refuse.desc).map (fun d => d.parameters.length) = some 1 := by decide +kernel
theorem iu_X7_refuse_X7 : ∀ w ∈ u_ws RX7 TX7 8, w ∈ wsX7_refuse := by decide +kernel
set_option maxHeartbeats 4000000 in
set_option maxRecDepth 100000 in
theorem k_X7_refuse {l : Launch} {G : Gx} (a : Nat → Nat) (S : (Nat → St)) (x1 : Int32) {r : Int32} {S' : (Nat → St)} (hf : f_X7_refuse S x1 = some (r, S')) : FC l G yX7_refuse wsX7_refuse ({ frames := 1, cells := 0, slots := 0, locals := 22 } : Room) [.ref (a 0), .int x1] (cW G a S) (cW G a S') (some (.int r)) := by
  refine fc_head (cc := cX7_refuse) (maxL := 2) (ret := (some .int)) (C := RX7) (lv := [(0, .ref (a 0)), (1, .int x1)]) (by decide) rfl rfl (Nat.le_of_ble_eq_true rfl) rfl ?_
  intro p e s m below meth c ls A hx hb hr hml hown hts hlocks hE hP hD hAB hS hl
  have hCF : CallFix p m c cX7_refuse 2 s ([.ref (a 0), .int x1] : List Value).toArray wsX7_refuse RX7 := ⟨hx, hb, hml, hown, hts⟩
  have hwX7 : ∀ w ∈ u_ws RX7 TX7 8, w.before ([.ref (a 0), .int x1] : List Value).toArray s = true := fun w h => hts w (iu_X7_refuse_X7 w h)
  have hk_fieldLink_RX7_43__BrideNotKnown___refusals____I_ := hts (.fieldLink RX7 43 "BrideNotKnown" "refusals" "[I") (List.mem_of_getElem? (i := 1) rfl)
  rw [f_X7_refuse] at hf
  refine lv_aload_n hx hb dX7_refuse_0 rfl (lv_at hl 0 rfl) ?_
  refine fc_get (v := .ref (a 31)) (ci := 4) (C := RX7) (T := TX7) (N := 8) hx hb hwX7 hown hE hP 0 (cW_o G a S) rfl 7 (by decide) hk_fieldLink_RX7_43__BrideNotKnown___refusals____I_ (fun _ h => h) rfl dX7_refuse_1 ?_
  refine lv_iload_n hx hb dX7_refuse_4 rfl (lv_at hl 1 rfl) ?_
  refine lv_ineg hx hb dX7_refuse_5 ?_
  refine lv_aload_n hx hb dX7_refuse_6 rfl (lv_at hl 0 rfl) ?_
  refine fc_get (v := .ref (a 31)) (ci := 4) (C := RX7) (T := TX7) (N := 8) hx hb hwX7 hown hE hP 0 (cW_o G a S) rfl 7 (by decide) hk_fieldLink_RX7_43__BrideNotKnown___refusals____I_ (fun _ h => h) rfl dX7_refuse_7 ?_
  refine lv_iload_n hx hb dX7_refuse_10 rfl (lv_at hl 1 rfl) ?_
  refine lv_ineg hx hb dX7_refuse_11 ?_
  obtain ⟨q884, hq884, hf⟩ := bnd hf
  refine fc_callS (Wa' := (cW G a S)) (st1 := [.int q884, .int (-x1), .ref (a 31)]) (As := [.ref (a 31), .int (-x1)]) (rest := [.int (-x1), .ref (a 31)]) hCF (k_X7_at (a 31) 7 ((S 6) 0) (-x1) hq884) (va_cwS 2 hts gX7_refuse_X7_at rfl rfl rfl dk_X7_at ⟨Nat.le_of_ble_eq_true rfl, Nat.le_of_ble_eq_true rfl⟩) hE hAB hP hD hS [31] rfl (cW_ca31 G a S) (aW_f G (a 31) 7 ((S 6) 0) ((S 6) 0)) (cW_ia31 G a S) rfl rfl hl.1 rfl (Nat.le_of_ble_eq_true rfl) dX7_refuse_12 ⟨Nat.le_refl _, Nat.le_refl _⟩ (fun H locs hP hD hS => ?_)
  refine lv_iconst (v := (1 : Int32)) hx hb dX7_refuse_15 (by decide) ?_
  refine lv_iadd hx hb dX7_refuse_16 ?_
  obtain ⟨q885, hq885, hf⟩ := bnd hf
  refine fc_callS (Wa' := (cW G a (sS S 6 (sA (S 6) 0 q885)))) (st1 := []) (As := [.ref (a 31), .int (-x1), .int (q884 + (1 : Int32))]) (rest := []) hCF (k_X7_put (a 31) 7 ((S 6) 0) (-x1) (q884 + (1 : Int32)) hq885) (va_cwS 3 hts gX7_refuse_X7_put rfl rfl rfl dk_X7_put ⟨Nat.le_of_ble_eq_true rfl, Nat.le_of_ble_eq_true rfl⟩) hE hAB hP hD hS [31] rfl (cW_ca31 G a S) (aW_f G (a 31) 7 ((S 6) 0) q885) (cW_sa31 G a S q885) rfl rfl hl.1 rfl (Nat.le_of_ble_eq_true rfl) dX7_refuse_17 ⟨Nat.le_refl _, Nat.le_refl _⟩ (fun H locs hP hD hS => ?_)
  refine lv_iload_n hx hb dX7_refuse_20 rfl (lv_at hl 1 rfl) ?_
  exact fc_reti hx hb hr hlocks hP hS dX7_refuse_21 (i2a hf) (congrArg (fun z => (cW G a z)) (i2b hf))
theorem dk_X7_alike : yX7_alike.cls ≠ "java/lang/invoke/MethodHandle" ∧ yX7_alike.cls ≠ "java/lang/invoke/VarHandle" ∧ (parseMethodDescriptor yX7_alike.desc).map (fun d => d.parameters.length) = some 1 := by decide +kernel
theorem iu_X7_alike_X7 : ∀ w ∈ u_ws RX7 TX7 8, w ∈ wsX7_alike := by decide +kernel
set_option maxHeartbeats 4000000 in
set_option maxRecDepth 100000 in
theorem k_X7_alike {l : Launch} {G : Gx} (a : Nat → Nat) (S : (Nat → St)) (x1 : Int32) {r : Int32} {S' : (Nat → St)} (hf : f_X7_alike S x1 = some (r, S')) : FC l G yX7_alike wsX7_alike ({ frames := 6, cells := 0, slots := 0, locals := 137 } : Room) [.ref (a 0), .int x1] (cW G a S) (cW G a S') (some (.int r)) := by
  refine fc_head (cc := cX7_alike) (maxL := 2) (ret := (some .int)) (C := RX7) (lv := [(0, .ref (a 0)), (1, .int x1)]) (by decide) rfl rfl (Nat.le_of_ble_eq_true rfl) rfl ?_
  intro p e s m below meth c ls A hx hb hr hml hown hts hlocks hE hP hD hAB hS hl
  have hCF : CallFix p m c cX7_alike 2 s ([.ref (a 0), .int x1] : List Value).toArray wsX7_alike RX7 := ⟨hx, hb, hml, hown, hts⟩
  have hwX7 : ∀ w ∈ u_ws RX7 TX7 8, w.before ([.ref (a 0), .int x1] : List Value).toArray s = true := fun w h => hts w (iu_X7_alike_X7 w h)
  have hk_fieldLink_RX7_10__BrideNotKnown___now___LBrideNotKnown_Valley__ := hts (.fieldLink RX7 10 "BrideNotKnown" "now" "LBrideNotKnown$Valley;") (List.mem_of_getElem? (i := 1) rfl)
  rw [f_X7_alike] at hf
  refine lv_iload_n hx hb dX7_alike_0 rfl (lv_at hl 1 rfl) ?_
  by_cases c891 : x1 = (0 : Int32)
  · have hf := ifT hf c891
    refine lv_tableIn (off := 31) (tgt := 32) hx hb dX7_alike_1 (by rw [c891]; decide) (by rw [c891]; decide) (by rw [c891]; rfl) (by decide) ?_
    refine lv_aload_n hx hb dX7_alike_32 rfl (lv_at hl 0 rfl) ?_
    refine fc_get (v := .ref (a 1)) (ci := 4) (C := RX7) (T := TX7) (N := 8) hx hb hwX7 hown hE hP 0 (cW_o G a S) rfl 0 (by decide) hk_fieldLink_RX7_10__BrideNotKnown___now___LBrideNotKnown_Valley__ (fun _ h => h) rfl dX7_alike_33 ?_
    obtain ⟨q892, hq892, hf⟩ := bnd hf
    refine fc_callS (Wa' := (cW G a S)) (st1 := [.int q892]) (As := [.ref (a 1)]) (rest := []) hCF (k_X1_twos (sh 1 a) (S 0) hq892) (va_cwS 1 hts gX7_alike_X1_twos rfl rfl rfl dk_X1_twos ⟨Nat.le_of_ble_eq_true rfl, Nat.le_of_ble_eq_true rfl⟩) hE hAB hP hD hS [1, 2, 3, 4, 5, 6, 7, 8] cW_d0 (cW_c0 G a S) (vW_f G (sh 1 a) (S 0) (S 0)) (cW_i0 G a S) rfl rfl hl.1 rfl (Nat.le_of_ble_eq_true rfl) dX7_alike_36 ⟨Nat.le_refl _, Nat.le_refl _⟩ (fun H locs hP hD hS => ?_)
    exact fc_reti hx hb hr hlocks hP hS dX7_alike_39 (i2a hf) (congrArg (fun z => (cW G a z)) (i2b hf))
  · have hf := ifF hf c891
    by_cases c893 : x1 = (1 : Int32)
    · have hf := ifT hf c893
      refine lv_tableIn (off := 39) (tgt := 40) hx hb dX7_alike_1 (by rw [c893]; decide) (by rw [c893]; decide) (by rw [c893]; rfl) (by decide) ?_
      refine lv_aload_n hx hb dX7_alike_40 rfl (lv_at hl 0 rfl) ?_
      refine fc_get (v := .ref (a 1)) (ci := 4) (C := RX7) (T := TX7) (N := 8) hx hb hwX7 hown hE hP 0 (cW_o G a S) rfl 0 (by decide) hk_fieldLink_RX7_10__BrideNotKnown___now___LBrideNotKnown_Valley__ (fun _ h => h) rfl dX7_alike_41 ?_
      obtain ⟨q894, hq894, hf⟩ := bnd hf
      refine fc_callS (Wa' := (cW G a S)) (st1 := [.int q894]) (As := [.ref (a 1)]) (rest := []) hCF (k_X1_firstTwo (sh 1 a) (S 0) hq894) (va_cwS 1 hts gX7_alike_X1_firstTwo rfl rfl rfl dk_X1_firstTwo ⟨Nat.le_of_ble_eq_true rfl, Nat.le_of_ble_eq_true rfl⟩) hE hAB hP hD hS [1, 2, 3, 4, 5, 6, 7, 8] cW_d0 (cW_c0 G a S) (vW_f G (sh 1 a) (S 0) (S 0)) (cW_i0 G a S) rfl rfl hl.1 rfl (Nat.le_of_ble_eq_true rfl) dX7_alike_44 ⟨Nat.le_refl _, Nat.le_refl _⟩ (fun H locs hP hD hS => ?_)
      exact fc_reti hx hb hr hlocks hP hS dX7_alike_47 (i2a hf) (congrArg (fun z => (cW G a z)) (i2b hf))
    · have hf := ifF hf c893
      by_cases c895 : x1 = (2 : Int32)
      · have hf := ifT hf c895
        refine lv_tableIn (off := 47) (tgt := 48) hx hb dX7_alike_1 (by rw [c895]; decide) (by rw [c895]; decide) (by rw [c895]; rfl) (by decide) ?_
        refine lv_aload_n hx hb dX7_alike_48 rfl (lv_at hl 0 rfl) ?_
        refine fc_get (v := .ref (a 1)) (ci := 4) (C := RX7) (T := TX7) (N := 8) hx hb hwX7 hown hE hP 0 (cW_o G a S) rfl 0 (by decide) hk_fieldLink_RX7_10__BrideNotKnown___now___LBrideNotKnown_Valley__ (fun _ h => h) rfl dX7_alike_49 ?_
        obtain ⟨q896, hq896, hf⟩ := bnd hf
        refine fc_callS (Wa' := (cW G a S)) (st1 := [.int q896]) (As := [.ref (a 1)]) (rest := []) hCF (k_X1_greatest (sh 1 a) (S 0) hq896) (va_cwS 1 hts gX7_alike_X1_greatest rfl rfl rfl dk_X1_greatest ⟨Nat.le_of_ble_eq_true rfl, Nat.le_of_ble_eq_true rfl⟩) hE hAB hP hD hS [1, 2, 3, 4, 5, 6, 7, 8] cW_d0 (cW_c0 G a S) (vW_f G (sh 1 a) (S 0) (S 0)) (cW_i0 G a S) rfl rfl hl.1 rfl (Nat.le_of_ble_eq_true rfl) dX7_alike_52 ⟨Nat.le_refl _, Nat.le_refl _⟩ (fun H locs hP hD hS => ?_)
        exact fc_reti hx hb hr hlocks hP hS dX7_alike_55 (i2a hf) (congrArg (fun z => (cW G a z)) (i2b hf))
      · have hf := ifF hf c895
        by_cases c897 : x1 = (3 : Int32)
        · have hf := ifT hf c897
          refine lv_tableIn (off := 55) (tgt := 56) hx hb dX7_alike_1 (by rw [c897]; decide) (by rw [c897]; decide) (by rw [c897]; rfl) (by decide) ?_
          refine lv_aload_n hx hb dX7_alike_56 rfl (lv_at hl 0 rfl) ?_
          refine fc_get (v := .ref (a 1)) (ci := 4) (C := RX7) (T := TX7) (N := 8) hx hb hwX7 hown hE hP 0 (cW_o G a S) rfl 0 (by decide) hk_fieldLink_RX7_10__BrideNotKnown___now___LBrideNotKnown_Valley__ (fun _ h => h) rfl dX7_alike_57 ?_
          obtain ⟨q898, hq898, hf⟩ := bnd hf
          refine fc_callS (Wa' := (cW G a S)) (st1 := [.int q898]) (As := [.ref (a 1)]) (rest := []) hCF (k_X1_greatestShown (sh 1 a) (S 0) hq898) (va_cwS 1 hts gX7_alike_X1_greatestShown rfl rfl rfl dk_X1_greatestShown ⟨Nat.le_of_ble_eq_true rfl, Nat.le_of_ble_eq_true rfl⟩) hE hAB hP hD hS [1, 2, 3, 4, 5, 6, 7, 8] cW_d0 (cW_c0 G a S) (vW_f G (sh 1 a) (S 0) (S 0)) (cW_i0 G a S) rfl rfl hl.1 rfl (Nat.le_of_ble_eq_true rfl) dX7_alike_60 ⟨Nat.le_refl _, Nat.le_refl _⟩ (fun H locs hP hD hS => ?_)
          exact fc_reti hx hb hr hlocks hP hS dX7_alike_63 (i2a hf) (congrArg (fun z => (cW G a z)) (i2b hf))
        · have hf := ifF hf c897
          refine lv_tableOut (tgt := 64) hx hb dX7_alike_1 (by have dc891 := lv_neT c891 (a := 0) (by decide); have dc893 := lv_neT c893 (a := 1) (by decide); have dc895 := lv_neT c895 (a := 2) (by decide); have dc897 := lv_neT c897 (a := 3) (by decide); omega) (by decide) ?_
          refine lv_aload_n hx hb dX7_alike_64 rfl (lv_at hl 0 rfl) ?_
          refine lv_bipush (v := (-2 : Int32)) hx hb dX7_alike_65 (by decide) ?_
          obtain ⟨q899, hq899, hf⟩ := bnd hf
          refine fc_callV (Wa' := (cW G a q899.2)) (st1 := [.int q899.1]) (As := [.int (-2 : Int32)]) (rest := []) hCF (k_X7_refuse a S (-2 : Int32) hq899) (cwV 1 hts gX7_alike_X7_refuse rfl rfl rfl ⟨rfl, dk_X7_refuse⟩ ⟨Nat.le_of_ble_eq_true rfl, Nat.le_of_ble_eq_true rfl⟩) hE hAB hP hD hS [0, 1, 2, 3, 4, 5, 6, 7, 8, 9, 10, 11, 12, 13, 14, 15, 16, 17, 18, 19, 20, 21, 22, 23, 24, 25, 26, 27, 28, 29, 30, 31] cW_d (cW_c G a S) (va_recv hE.1 hP (ci := 4) (q0 := 0) rfl (cW_o G a S)) (cW_f G a S q899.2) (cW_s G a S q899.2) rfl rfl hl.1 rfl (Nat.le_of_ble_eq_true rfl) dX7_alike_67 ⟨Nat.le_refl _, Nat.le_refl _⟩ (fun H locs hP hD hS => ?_)
          exact fc_reti hx hb hr hlocks hP hS dX7_alike_70 (i2a hf) (congrArg (fun z => (cW G a z)) (i2b hf))
theorem dk_X7_away : yX7_away.cls ≠ "java/lang/invoke/MethodHandle" ∧ yX7_away.cls ≠ "java/lang/invoke/VarHandle" ∧ (parseMethodDescriptor yX7_away.desc).map (fun d => d.parameters.length) = some 0 := by decide +kernel
theorem iu_X7_away_X7 : ∀ w ∈ u_ws RX7 TX7 8, w ∈ wsX7_away := by decide +kernel
set_option maxHeartbeats 4000000 in
set_option maxRecDepth 100000 in
theorem k_X7_away {l : Launch} {G : Gx} (a : Nat → Nat) (S : (Nat → St)) {r : Int32} {S' : (Nat → St)} (hf : f_X7_away S = some (r, S')) : FC l G yX7_away wsX7_away ({ frames := 6, cells := 0, slots := 0, locals := 147 } : Room) [.ref (a 0)] (cW G a S) (cW G a S') (some (.int r)) := by
  refine fc_head (cc := cX7_away) (maxL := 1) (ret := (some .int)) (C := RX7) (lv := [(0, .ref (a 0))]) (by decide) rfl rfl (Nat.le_of_ble_eq_true rfl) rfl ?_
  intro p e s m below meth c ls A hx hb hr hml hown hts hlocks hE hP hD hAB hS hl
  have hCF : CallFix p m c cX7_away 1 s ([.ref (a 0)] : List Value).toArray wsX7_away RX7 := ⟨hx, hb, hml, hown, hts⟩
  have hwX7 : ∀ w ∈ u_ws RX7 TX7 8, w.before ([.ref (a 0)] : List Value).toArray s = true := fun w h => hts w (iu_X7_away_X7 w h)
  have hk_fieldLink_RX7_10__BrideNotKnown___now___LBrideNotKnown_Valley__ := hts (.fieldLink RX7 10 "BrideNotKnown" "now" "LBrideNotKnown$Valley;") (List.mem_of_getElem? (i := 1) rfl)
  have hk_fieldLink_RX7_16__BrideNotKnown___thought___LBrideNotKnown_Valley__ := hts (.fieldLink RX7 16 "BrideNotKnown" "thought" "LBrideNotKnown$Valley;") (List.mem_of_getElem? (i := 2) rfl)
  rw [f_X7_away] at hf
  refine lv_aload_n hx hb dX7_away_0 rfl (lv_at hl 0 rfl) ?_
  refine fc_get (v := .ref (a 1)) (ci := 4) (C := RX7) (T := TX7) (N := 8) hx hb hwX7 hown hE hP 0 (cW_o G a S) rfl 0 (by decide) hk_fieldLink_RX7_10__BrideNotKnown___now___LBrideNotKnown_Valley__ (fun _ h => h) rfl dX7_away_1 ?_
  refine lv_aload_n hx hb dX7_away_4 rfl (lv_at hl 0 rfl) ?_
  refine fc_get (v := .ref (a 9)) (ci := 4) (C := RX7) (T := TX7) (N := 8) hx hb hwX7 hown hE hP 0 (cW_o G a S) rfl 1 (by decide) hk_fieldLink_RX7_16__BrideNotKnown___thought___LBrideNotKnown_Valley__ (fun _ h => h) rfl dX7_away_5 ?_
  obtain ⟨q901, hq901, hf⟩ := bnd hf
  refine fc_callS (Wa' := (cW G a (sS S 1 q901.2))) (st1 := [.int q901.1]) (As := [.ref (a 1), .ref (a 9)]) (rest := []) hCF (k_X0_bestAway (sh 1 a) (S 0) (sh 9 a) (S 1) hq901) (va_cwS 2 hts gX7_away_X0_bestAway rfl rfl rfl dk_X0_bestAway ⟨Nat.le_of_ble_eq_true rfl, Nat.le_of_ble_eq_true rfl⟩) hE hAB hP hD hS [1, 2, 3, 4, 5, 6, 7, 8, 9, 10, 11, 12, 13, 14, 15, 16] (by decide +kernel) (cut_cut (cW_c0 G a S) (cW_c1 G a S)) (fst_fst (vW_f G (sh 1 a) (S 0) (S 0)) (vW_f G (sh 9 a) (S 1) q901.2)) ((set_set (i1 := [1, 2, 3, 4, 5, 6, 7, 8]) (W1 := (vW G (sh 1 a) (S 0))) (vW_n G (sh 1 a) (S 0)).symm).trans ((congrArg (fun z => setAll z _ _) (cW_s1 G a S q901.2)).trans (cW_i0 G a (sS S 1 q901.2)))) rfl rfl hl.1 rfl (Nat.le_of_ble_eq_true rfl) dX7_away_8 ⟨Nat.le_refl _, Nat.le_refl _⟩ (fun H locs hP hD hS => ?_)
  exact fc_reti hx hb hr hlocks hP hS dX7_away_11 (i2a hf) (congrArg (fun z => (cW G a z)) (i2b hf))
theorem dk_X7_bride : yX7_bride.cls ≠ "java/lang/invoke/MethodHandle" ∧ yX7_bride.cls ≠ "java/lang/invoke/VarHandle" ∧ (parseMethodDescriptor yX7_bride.desc).map (fun d => d.parameters.length) = some 2 := by decide +kernel
theorem iu_X7_bride_X7 : ∀ w ∈ u_ws RX7 TX7 8, w ∈ wsX7_bride := by decide +kernel
set_option maxHeartbeats 4000000 in
set_option maxRecDepth 100000 in
theorem k_X7_bride {l : Launch} {G : Gx} (a : Nat → Nat) (S : (Nat → St)) (x1 : Int32) (x2 : Int32) {r : Int32} {S' : (Nat → St)} (hf : f_X7_bride S x1 x2 = some (r, S')) : FC l G yX7_bride wsX7_bride ({ frames := 3, cells := 0, slots := 0, locals := 71 } : Room) [.ref (a 0), .int x1, .int x2] (cW G a S) (cW G a S') (some (.int r)) := by
  refine fc_head (cc := cX7_bride) (maxL := 3) (ret := (some .int)) (C := RX7) (lv := [(0, .ref (a 0)), (1, .int x1), (2, .int x2)]) (by decide) rfl rfl (Nat.le_of_ble_eq_true rfl) rfl ?_
  intro p e s m below meth c ls A hx hb hr hml hown hts hlocks hE hP hD hAB hS hl
  have hCF : CallFix p m c cX7_bride 3 s ([.ref (a 0), .int x1, .int x2] : List Value).toArray wsX7_bride RX7 := ⟨hx, hb, hml, hown, hts⟩
  have hwX7 : ∀ w ∈ u_ws RX7 TX7 8, w.before ([.ref (a 0), .int x1, .int x2] : List Value).toArray s = true := fun w h => hts w (iu_X7_bride_X7 w h)
  have hk_fieldLink_RX7_10__BrideNotKnown___now___LBrideNotKnown_Valley__ := hts (.fieldLink RX7 10 "BrideNotKnown" "now" "LBrideNotKnown$Valley;") (List.mem_of_getElem? (i := 1) rfl)
  rw [f_X7_bride] at hf
  refine lv_aload_n hx hb dX7_bride_0 rfl (lv_at hl 0 rfl) ?_
  refine fc_get (v := .ref (a 1)) (ci := 4) (C := RX7) (T := TX7) (N := 8) hx hb hwX7 hown hE hP 0 (cW_o G a S) rfl 0 (by decide) hk_fieldLink_RX7_10__BrideNotKnown___now___LBrideNotKnown_Valley__ (fun _ h => h) rfl dX7_bride_1 ?_
  refine lv_iload_n hx hb dX7_bride_4 rfl (lv_at hl 1 rfl) ?_
  obtain ⟨q911, hq911, hf⟩ := bnd hf
  refine fc_callV (Wa' := (cW G a S)) (st1 := [.int q911]) (As := [.int x1]) (rest := []) hCF (k_X6_hasBride (sh 1 a) (S 0) x1 hq911) (cwV 1 hts gX7_bride_X6_hasBride rfl rfl rfl ⟨rfl, dk_X6_hasBride⟩ ⟨Nat.le_of_ble_eq_true rfl, Nat.le_of_ble_eq_true rfl⟩) hE hAB hP hD hS [1, 2, 3, 4, 5, 6, 7, 8] cW_d0 (cW_c0 G a S) (va_recv hE.1 hP (ci := 3) (q0 := 1) rfl (cW_o0 G a S)) (vW_f G (sh 1 a) (S 0) (S 0)) (cW_i0 G a S) rfl rfl hl.1 rfl (Nat.le_of_ble_eq_true rfl) dX7_bride_5 ⟨Nat.le_refl _, Nat.le_refl _⟩ (fun H locs hP hD hS => ?_)
  refine lv_if_ne (tgt := 17) hx hb dX7_bride_8 (by decide) (fun c912 => ?_) (fun c912 => ?_)
  · have hf := ifF hf c912
    refine lv_iload_n hx hb dX7_bride_17 rfl (lv_at hl 2 rfl) ?_
    by_cases c913 : x2 = (0 : Int32)
    · have hf := ifT hf c913
      refine lv_tableIn (off := 38) (tgt := 56) hx hb dX7_bride_18 (by rw [c913]; decide) (by rw [c913]; decide) (by rw [c913]; rfl) (by decide) ?_
      refine lv_aload_n hx hb dX7_bride_56 rfl (lv_at hl 0 rfl) ?_
      refine fc_get (v := .ref (a 1)) (ci := 4) (C := RX7) (T := TX7) (N := 8) hx hb hwX7 hown hE hP 0 (cW_o G a S) rfl 0 (by decide) hk_fieldLink_RX7_10__BrideNotKnown___now___LBrideNotKnown_Valley__ (fun _ h => h) rfl dX7_bride_57 ?_
      refine lv_iload_n hx hb dX7_bride_60 rfl (lv_at hl 1 rfl) ?_
      obtain ⟨q914, hq914, hf⟩ := bnd hf
      refine fc_callV (Wa' := (cW G a S)) (st1 := [.int q914]) (As := [.int x1]) (rest := []) hCF (k_X6_kindOf (sh 1 a) (S 0) x1 hq914) (cwV 1 hts gX7_bride_X6_kindOf rfl rfl rfl ⟨rfl, dk_X6_kindOf⟩ ⟨Nat.le_of_ble_eq_true rfl, Nat.le_of_ble_eq_true rfl⟩) hE hAB hP hD hS [1, 2, 3, 4, 5, 6, 7, 8] cW_d0 (cW_c0 G a S) (va_recv hE.1 hP (ci := 3) (q0 := 1) rfl (cW_o0 G a S)) (vW_f G (sh 1 a) (S 0) (S 0)) (cW_i0 G a S) rfl rfl hl.1 rfl (Nat.le_of_ble_eq_true rfl) dX7_bride_61 ⟨Nat.le_refl _, Nat.le_refl _⟩ (fun H locs hP hD hS => ?_)
      exact fc_reti hx hb hr hlocks hP hS dX7_bride_64 (i2a hf) (congrArg (fun z => (cW G a z)) (i2b hf))
    · have hf := ifF hf c913
      by_cases c915 : x2 = (1 : Int32)
      · have hf := ifT hf c915
        refine lv_tableIn (off := 47) (tgt := 65) hx hb dX7_bride_18 (by rw [c915]; decide) (by rw [c915]; decide) (by rw [c915]; rfl) (by decide) ?_
        refine lv_aload_n hx hb dX7_bride_65 rfl (lv_at hl 0 rfl) ?_
        refine fc_get (v := .ref (a 1)) (ci := 4) (C := RX7) (T := TX7) (N := 8) hx hb hwX7 hown hE hP 0 (cW_o G a S) rfl 0 (by decide) hk_fieldLink_RX7_10__BrideNotKnown___now___LBrideNotKnown_Valley__ (fun _ h => h) rfl dX7_bride_66 ?_
        refine lv_iload_n hx hb dX7_bride_69 rfl (lv_at hl 1 rfl) ?_
        obtain ⟨q916, hq916, hf⟩ := bnd hf
        refine fc_callV (Wa' := (cW G a S)) (st1 := [.int q916]) (As := [.int x1]) (rest := []) hCF (k_X6_figureOf (sh 1 a) (S 0) x1 hq916) (cwV 1 hts gX7_bride_X6_figureOf rfl rfl rfl ⟨rfl, dk_X6_figureOf⟩ ⟨Nat.le_of_ble_eq_true rfl, Nat.le_of_ble_eq_true rfl⟩) hE hAB hP hD hS [1, 2, 3, 4, 5, 6, 7, 8] cW_d0 (cW_c0 G a S) (va_recv hE.1 hP (ci := 3) (q0 := 1) rfl (cW_o0 G a S)) (vW_f G (sh 1 a) (S 0) (S 0)) (cW_i0 G a S) rfl rfl hl.1 rfl (Nat.le_of_ble_eq_true rfl) dX7_bride_70 ⟨Nat.le_refl _, Nat.le_refl _⟩ (fun H locs hP hD hS => ?_)
        exact fc_reti hx hb hr hlocks hP hS dX7_bride_73 (i2a hf) (congrArg (fun z => (cW G a z)) (i2b hf))
      · have hf := ifF hf c915
        by_cases c917 : x2 = (2 : Int32)
        · have hf := ifT hf c917
          refine lv_tableIn (off := 56) (tgt := 74) hx hb dX7_bride_18 (by rw [c917]; decide) (by rw [c917]; decide) (by rw [c917]; rfl) (by decide) ?_
          refine lv_aload_n hx hb dX7_bride_74 rfl (lv_at hl 0 rfl) ?_
          refine fc_get (v := .ref (a 1)) (ci := 4) (C := RX7) (T := TX7) (N := 8) hx hb hwX7 hown hE hP 0 (cW_o G a S) rfl 0 (by decide) hk_fieldLink_RX7_10__BrideNotKnown___now___LBrideNotKnown_Valley__ (fun _ h => h) rfl dX7_bride_75 ?_
          refine lv_iload_n hx hb dX7_bride_78 rfl (lv_at hl 1 rfl) ?_
          obtain ⟨q918, hq918, hf⟩ := bnd hf
          refine fc_callV (Wa' := (cW G a S)) (st1 := [.int q918]) (As := [.int x1]) (rest := []) hCF (k_X6_footOf (sh 1 a) (S 0) x1 hq918) (cwV 1 hts gX7_bride_X6_footOf rfl rfl rfl ⟨rfl, dk_X6_footOf⟩ ⟨Nat.le_of_ble_eq_true rfl, Nat.le_of_ble_eq_true rfl⟩) hE hAB hP hD hS [1, 2, 3, 4, 5, 6, 7, 8] cW_d0 (cW_c0 G a S) (va_recv hE.1 hP (ci := 3) (q0 := 1) rfl (cW_o0 G a S)) (vW_f G (sh 1 a) (S 0) (S 0)) (cW_i0 G a S) rfl rfl hl.1 rfl (Nat.le_of_ble_eq_true rfl) dX7_bride_79 ⟨Nat.le_refl _, Nat.le_refl _⟩ (fun H locs hP hD hS => ?_)
          exact fc_reti hx hb hr hlocks hP hS dX7_bride_82 (i2a hf) (congrArg (fun z => (cW G a z)) (i2b hf))
        · have hf := ifF hf c917
          by_cases c919 : x2 = (3 : Int32)
          · have hf := ifT hf c919
            refine lv_tableIn (off := 65) (tgt := 83) hx hb dX7_bride_18 (by rw [c919]; decide) (by rw [c919]; decide) (by rw [c919]; rfl) (by decide) ?_
            refine lv_aload_n hx hb dX7_bride_83 rfl (lv_at hl 0 rfl) ?_
            refine fc_get (v := .ref (a 1)) (ci := 4) (C := RX7) (T := TX7) (N := 8) hx hb hwX7 hown hE hP 0 (cW_o G a S) rfl 0 (by decide) hk_fieldLink_RX7_10__BrideNotKnown___now___LBrideNotKnown_Valley__ (fun _ h => h) rfl dX7_bride_84 ?_
            refine lv_iload_n hx hb dX7_bride_87 rfl (lv_at hl 1 rfl) ?_
            refine lv_iconst (v := (0 : Int32)) hx hb dX7_bride_88 (by decide) ?_
            obtain ⟨q920, hq920, hf⟩ := bnd hf
            refine fc_callV (Wa' := (cW G a S)) (st1 := [.int q920]) (As := [.int x1, .int (0 : Int32)]) (rest := []) hCF (k_X6_shows (sh 1 a) (S 0) x1 (0 : Int32) hq920) (cwV 2 hts gX7_bride_X6_shows rfl rfl rfl ⟨rfl, dk_X6_shows⟩ ⟨Nat.le_of_ble_eq_true rfl, Nat.le_of_ble_eq_true rfl⟩) hE hAB hP hD hS [1, 2, 3, 4, 5, 6, 7, 8] cW_d0 (cW_c0 G a S) (va_recv hE.1 hP (ci := 3) (q0 := 1) rfl (cW_o0 G a S)) (vW_f G (sh 1 a) (S 0) (S 0)) (cW_i0 G a S) rfl rfl hl.1 rfl (Nat.le_of_ble_eq_true rfl) dX7_bride_89 ⟨Nat.le_refl _, Nat.le_refl _⟩ (fun H locs hP hD hS => ?_)
            exact fc_reti hx hb hr hlocks hP hS dX7_bride_92 (i2a hf) (congrArg (fun z => (cW G a z)) (i2b hf))
          · have hf := ifF hf c919
            by_cases c921 : x2 = (4 : Int32)
            · have hf := ifT hf c921
              refine lv_tableIn (off := 75) (tgt := 93) hx hb dX7_bride_18 (by rw [c921]; decide) (by rw [c921]; decide) (by rw [c921]; rfl) (by decide) ?_
              refine lv_aload_n hx hb dX7_bride_93 rfl (lv_at hl 0 rfl) ?_
              refine fc_get (v := .ref (a 1)) (ci := 4) (C := RX7) (T := TX7) (N := 8) hx hb hwX7 hown hE hP 0 (cW_o G a S) rfl 0 (by decide) hk_fieldLink_RX7_10__BrideNotKnown___now___LBrideNotKnown_Valley__ (fun _ h => h) rfl dX7_bride_94 ?_
              refine lv_iload_n hx hb dX7_bride_97 rfl (lv_at hl 1 rfl) ?_
              obtain ⟨q922, hq922, hf⟩ := bnd hf
              refine fc_callV (Wa' := (cW G a S)) (st1 := [.int q922]) (As := [.int x1]) (rest := []) hCF (k_X6_sentFor (sh 1 a) (S 0) x1 hq922) (cwV 1 hts gX7_bride_X6_sentFor rfl rfl rfl ⟨rfl, dk_X6_sentFor⟩ ⟨Nat.le_of_ble_eq_true rfl, Nat.le_of_ble_eq_true rfl⟩) hE hAB hP hD hS [1, 2, 3, 4, 5, 6, 7, 8] cW_d0 (cW_c0 G a S) (va_recv hE.1 hP (ci := 3) (q0 := 1) rfl (cW_o0 G a S)) (vW_f G (sh 1 a) (S 0) (S 0)) (cW_i0 G a S) rfl rfl hl.1 rfl (Nat.le_of_ble_eq_true rfl) dX7_bride_98 ⟨Nat.le_refl _, Nat.le_refl _⟩ (fun H locs hP hD hS => ?_)
              exact fc_reti hx hb hr hlocks hP hS dX7_bride_101 (i2a hf) (congrArg (fun z => (cW G a z)) (i2b hf))
            · have hf := ifF hf c921
              by_cases c923 : x2 = (5 : Int32)
              · have hf := ifT hf c923
                refine lv_tableIn (off := 84) (tgt := 102) hx hb dX7_bride_18 (by rw [c923]; decide) (by rw [c923]; decide) (by rw [c923]; rfl) (by decide) ?_
                refine lv_aload_n hx hb dX7_bride_102 rfl (lv_at hl 0 rfl) ?_
                refine fc_get (v := .ref (a 1)) (ci := 4) (C := RX7) (T := TX7) (N := 8) hx hb hwX7 hown hE hP 0 (cW_o G a S) rfl 0 (by decide) hk_fieldLink_RX7_10__BrideNotKnown___now___LBrideNotKnown_Valley__ (fun _ h => h) rfl dX7_bride_103 ?_
                refine lv_iload_n hx hb dX7_bride_106 rfl (lv_at hl 1 rfl) ?_
                obtain ⟨q924, hq924, hf⟩ := bnd hf
                refine fc_callV (Wa' := (cW G a S)) (st1 := [.int q924]) (As := [.int x1]) (rest := []) hCF (k_X6_placeOf (sh 1 a) (S 0) x1 hq924) (cwV 1 hts gX7_bride_X6_placeOf rfl rfl rfl ⟨rfl, dk_X6_placeOf⟩ ⟨Nat.le_of_ble_eq_true rfl, Nat.le_of_ble_eq_true rfl⟩) hE hAB hP hD hS [1, 2, 3, 4, 5, 6, 7, 8] cW_d0 (cW_c0 G a S) (va_recv hE.1 hP (ci := 3) (q0 := 1) rfl (cW_o0 G a S)) (vW_f G (sh 1 a) (S 0) (S 0)) (cW_i0 G a S) rfl rfl hl.1 rfl (Nat.le_of_ble_eq_true rfl) dX7_bride_107 ⟨Nat.le_refl _, Nat.le_refl _⟩ (fun H locs hP hD hS => ?_)
                exact fc_reti hx hb hr hlocks hP hS dX7_bride_110 (i2a hf) (congrArg (fun z => (cW G a z)) (i2b hf))
              · have hf := ifF hf c923
                refine lv_tableOut (tgt := 111) hx hb dX7_bride_18 (by have dc913 := lv_neT c913 (a := 0) (by decide); have dc915 := lv_neT c915 (a := 1) (by decide); have dc917 := lv_neT c917 (a := 2) (by decide); have dc919 := lv_neT c919 (a := 3) (by decide); have dc921 := lv_neT c921 (a := 4) (by decide); have dc923 := lv_neT c923 (a := 5) (by decide); omega) (by decide) ?_
                refine lv_aload_n hx hb dX7_bride_111 rfl (lv_at hl 0 rfl) ?_
                refine lv_bipush (v := (-2 : Int32)) hx hb dX7_bride_112 (by decide) ?_
                obtain ⟨q925, hq925, hf⟩ := bnd hf
                refine fc_callV (Wa' := (cW G a q925.2)) (st1 := [.int q925.1]) (As := [.int (-2 : Int32)]) (rest := []) hCF (k_X7_refuse a S (-2 : Int32) hq925) (cwV 1 hts gX7_bride_X7_refuse rfl rfl rfl ⟨rfl, dk_X7_refuse⟩ ⟨Nat.le_of_ble_eq_true rfl, Nat.le_of_ble_eq_true rfl⟩) hE hAB hP hD hS [0, 1, 2, 3, 4, 5, 6, 7, 8, 9, 10, 11, 12, 13, 14, 15, 16, 17, 18, 19, 20, 21, 22, 23, 24, 25, 26, 27, 28, 29, 30, 31] cW_d (cW_c G a S) (va_recv hE.1 hP (ci := 4) (q0 := 0) rfl (cW_o G a S)) (cW_f G a S q925.2) (cW_s G a S q925.2) rfl rfl hl.1 rfl (Nat.le_of_ble_eq_true rfl) dX7_bride_114 ⟨Nat.le_refl _, Nat.le_refl _⟩ (fun H locs hP hD hS => ?_)
                exact fc_reti hx hb hr hlocks hP hS dX7_bride_117 (i2a hf) (congrArg (fun z => (cW G a z)) (i2b hf))
  · have hf := ifT hf c912
    refine lv_aload_n hx hb dX7_bride_11 rfl (lv_at hl 0 rfl) ?_
    refine lv_iconst (v := (-1 : Int32)) hx hb dX7_bride_12 (by decide) ?_
    obtain ⟨q926, hq926, hf⟩ := bnd hf
    refine fc_callV (Wa' := (cW G a q926.2)) (st1 := [.int q926.1]) (As := [.int (-1 : Int32)]) (rest := []) hCF (k_X7_refuse a S (-1 : Int32) hq926) (cwV 1 hts gX7_bride_X7_refuse rfl rfl rfl ⟨rfl, dk_X7_refuse⟩ ⟨Nat.le_of_ble_eq_true rfl, Nat.le_of_ble_eq_true rfl⟩) hE hAB hP hD hS [0, 1, 2, 3, 4, 5, 6, 7, 8, 9, 10, 11, 12, 13, 14, 15, 16, 17, 18, 19, 20, 21, 22, 23, 24, 25, 26, 27, 28, 29, 30, 31] cW_d (cW_c G a S) (va_recv hE.1 hP (ci := 4) (q0 := 0) rfl (cW_o G a S)) (cW_f G a S q926.2) (cW_s G a S q926.2) rfl rfl hl.1 rfl (Nat.le_of_ble_eq_true rfl) dX7_bride_13 ⟨Nat.le_refl _, Nat.le_refl _⟩ (fun H locs hP hD hS => ?_)
    exact fc_reti hx hb hr hlocks hP hS dX7_bride_16 (i2a hf) (congrArg (fun z => (cW G a z)) (i2b hf))
theorem dk_X7_outside : yX7_outside.cls ≠ "java/lang/invoke/MethodHandle" ∧ yX7_outside.cls ≠ "java/lang/invoke/VarHandle" ∧ (parseMethodDescriptor yX7_outside.desc).map (fun d => d.parameters.length) = some 3 := by decide +kernel
set_option maxHeartbeats 4000000 in
set_option maxRecDepth 100000 in
theorem k_X7_outside {l : Launch} {G : Gx} (x0 : Int32) (x1 : Int32) (x2 : Int32) {r : Int32} (hf : f_X7_outside x0 x1 x2 = some r) : FC l G yX7_outside wsX7_outside ({ frames := 0, cells := 0, slots := 0, locals := 0 } : Room) [.int x0, .int x1, .int x2] ([] : va_W) ([] : va_W) (some (.int r)) := by
  refine fc_head (cc := cX7_outside) (maxL := 3) (ret := (some .int)) (C := RX7) (lv := [(0, .int x0), (1, .int x1), (2, .int x2)]) (by decide) rfl rfl (Nat.le_of_ble_eq_true rfl) rfl ?_
  intro p e s m below meth c ls A hx hb hr hml hown hts hlocks hE hP hD hAB hS hl
  have hCF : CallFix p m c cX7_outside 3 s ([.int x0, .int x1, .int x2] : List Value).toArray wsX7_outside RX7 := ⟨hx, hb, hml, hown, hts⟩
  rw [f_X7_outside] at hf
  refine lv_iload_n hx hb dX7_outside_0 rfl (lv_at hl 0 rfl) ?_
  refine lv_iload_n hx hb dX7_outside_1 rfl (lv_at hl 1 rfl) ?_
  refine lv_icmp_ge (tgt := 8) hx hb dX7_outside_2 (by decide) (fun c927 => ?_) (fun c927 => ?_)
  · have hf := ifT hf c927
    refine lv_iload_n hx hb dX7_outside_8 rfl (lv_at hl 0 rfl) ?_
    refine lv_iload_n hx hb dX7_outside_9 rfl (lv_at hl 2 rfl) ?_
    refine lv_icmp_le (tgt := 18) hx hb dX7_outside_10 (by decide) (fun c928 => ?_) (fun c928 => ?_)
    · have hf := ifT hf c928
      refine lv_iconst (v := (0 : Int32)) hx hb dX7_outside_18 (by decide) ?_
      exact fc_reti hx hb hr hlocks hP hS dX7_outside_19 (i1 hf) rfl
    · have hf := ifF hf c928
      refine lv_bipush (v := (-6 : Int32)) hx hb dX7_outside_13 (by decide) ?_
      refine lv_goto (tgt := 19) hx hb dX7_outside_15 (by decide) ?_
      exact fc_reti hx hb hr hlocks hP hS dX7_outside_19 (i1 hf) rfl
  · have hf := ifF hf c927
    refine lv_bipush (v := (-4 : Int32)) hx hb dX7_outside_5 (by decide) ?_
    exact fc_reti hx hb hr hlocks hP hS dX7_outside_7 (i1 hf) rfl
theorem dk_X7_refusalOf : yX7_refusalOf.cls ≠ "java/lang/invoke/MethodHandle" ∧ yX7_refusalOf.cls ≠ "java/lang/invoke/VarHandle" ∧ (parseMethodDescriptor yX7_refusalOf.desc).map (fun d => d.parameters.length) = some 4 := by decide +kernel
set_option maxHeartbeats 4000000 in
set_option maxRecDepth 100000 in
theorem k_X7_refusalOf {l : Launch} {G : Gx} (x0 : Int32) (x1 : Int32) (x2 : Int32) (x3 : Int32) {r : Int32} (hf : f_X7_refusalOf x0 x1 x2 x3 = some r) : FC l G yX7_refusalOf wsX7_refusalOf ({ frames := 1, cells := 0, slots := 0, locals := 22 } : Room) [.int x0, .int x1, .int x2, .int x3] ([] : va_W) ([] : va_W) (some (.int r)) := by
  refine fc_head (cc := cX7_refusalOf) (maxL := 4) (ret := (some .int)) (C := RX7) (lv := [(0, .int x0), (1, .int x1), (2, .int x2), (3, .int x3)]) (by decide) rfl rfl (Nat.le_of_ble_eq_true rfl) rfl ?_
  intro p e s m below meth c ls A hx hb hr hml hown hts hlocks hE hP hD hAB hS hl
  have hCF : CallFix p m c cX7_refusalOf 4 s ([.int x0, .int x1, .int x2, .int x3] : List Value).toArray wsX7_refusalOf RX7 := ⟨hx, hb, hml, hown, hts⟩
  rw [f_X7_refusalOf] at hf
  refine lv_iload_n hx hb dX7_refusalOf_0 rfl (lv_at hl 0 rfl) ?_
  refine lv_if_eq (tgt := 13) hx hb dX7_refusalOf_1 (by decide) (fun c930 => ?_) (fun c930 => ?_)
  · have hf := ifT hf c930
    refine lv_iconst (v := (-1 : Int32)) hx hb dX7_refusalOf_13 (by decide) ?_
    exact fc_reti hx hb hr hlocks hP hS dX7_refusalOf_14 (i1 hf) rfl
  · have hf := ifF hf c930
    refine lv_iload_n hx hb dX7_refusalOf_4 rfl (lv_at hl 1 rfl) ?_
    refine lv_iload_n hx hb dX7_refusalOf_5 rfl (lv_at hl 2 rfl) ?_
    refine lv_iload_n hx hb dX7_refusalOf_6 rfl (lv_at hl 3 rfl) ?_
    obtain ⟨q931, hq931, hf⟩ := bnd hf
    refine fc_callS (Wa' := ([] : va_W)) (st1 := [.int q931]) (As := [.int x1, .int x2, .int x3]) (rest := []) hCF (k_X7_outside x1 x2 x3 hq931) (va_cwS 3 hts gX7_refusalOf_X7_outside rfl rfl rfl dk_X7_outside ⟨Nat.le_of_ble_eq_true rfl, Nat.le_of_ble_eq_true rfl⟩) hE hAB hP hD hS [] rfl rfl rfl rfl rfl rfl hl.1 rfl (Nat.le_of_ble_eq_true rfl) dX7_refusalOf_7 ⟨Nat.le_refl _, Nat.le_refl _⟩ (fun H locs hP hD hS => ?_)
    refine lv_goto (tgt := 14) hx hb dX7_refusalOf_10 (by decide) ?_
    exact fc_reti hx hb hr hlocks hP hS dX7_refusalOf_14 (i1 hf) rfl
theorem dk_X7_refuseLong : yX7_refuseLong.cls ≠ "java/lang/invoke/MethodHandle" ∧ yX7_refuseLong.cls ≠ "java/lang/invoke/VarHandle" ∧ (parseMethodDescriptor yX7_refuseLong.desc).map (fun d => d.parameters.length) = some 1 := by decide +kernel
set_option maxHeartbeats 4000000 in
set_option maxRecDepth 100000 in
theorem k_X7_refuseLong {l : Launch} {G : Gx} (a : Nat → Nat) (S : (Nat → St)) (x1 : Int32) {r : Int64} {S' : (Nat → St)} (hf : f_X7_refuseLong S x1 = some (r, S')) : FC l G yX7_refuseLong wsX7_refuseLong ({ frames := 2, cells := 0, slots := 0, locals := 43 } : Room) [.ref (a 0), .int x1] (cW G a S) (cW G a S') (some (.long r)) := by
  refine fc_head (cc := cX7_refuseLong) (maxL := 2) (ret := (some .long)) (C := RX7) (lv := [(0, .ref (a 0)), (1, .int x1)]) (by decide) rfl rfl (Nat.le_of_ble_eq_true rfl) rfl ?_
  intro p e s m below meth c ls A hx hb hr hml hown hts hlocks hE hP hD hAB hS hl
  have hCF : CallFix p m c cX7_refuseLong 2 s ([.ref (a 0), .int x1] : List Value).toArray wsX7_refuseLong RX7 := ⟨hx, hb, hml, hown, hts⟩
  have hk_constantLong_RX7_292__4000000000000000000_ := hts (.constantLong RX7 292 (4000000000000000000)) (List.mem_of_getElem? (i := 1) rfl)
  rw [f_X7_refuseLong] at hf
  refine lv_ldc2 (v := (4000000000000000000 : Int64)) hx hb hown hk_constantLong_RX7_292__4000000000000000000_ dX7_refuseLong_0 ?_
  refine lv_aload_n hx hb dX7_refuseLong_3 rfl (lv_at hl 0 rfl) ?_
  refine lv_iload_n hx hb dX7_refuseLong_4 rfl (lv_at hl 1 rfl) ?_
  obtain ⟨q933, hq933, hf⟩ := bnd hf
  refine fc_callV (Wa' := (cW G a q933.2)) (st1 := [.int q933.1, .long (4000000000000000000 : Int64)]) (As := [.int x1]) (rest := [.long (4000000000000000000 : Int64)]) hCF (k_X7_refuse a S x1 hq933) (cwV 1 hts gX7_refuseLong_X7_refuse rfl rfl rfl ⟨rfl, dk_X7_refuse⟩ ⟨Nat.le_of_ble_eq_true rfl, Nat.le_of_ble_eq_true rfl⟩) hE hAB hP hD hS [0, 1, 2, 3, 4, 5, 6, 7, 8, 9, 10, 11, 12, 13, 14, 15, 16, 17, 18, 19, 20, 21, 22, 23, 24, 25, 26, 27, 28, 29, 30, 31] cW_d (cW_c G a S) (va_recv hE.1 hP (ci := 4) (q0 := 0) rfl (cW_o G a S)) (cW_f G a S q933.2) (cW_s G a S q933.2) rfl rfl hl.1 rfl (Nat.le_of_ble_eq_true rfl) dX7_refuseLong_5 ⟨Nat.le_refl _, Nat.le_refl _⟩ (fun H locs hP hD hS => ?_)
  refine lv_i2l (v := q933.1.toInt64) hx hb dX7_refuseLong_8 rfl ?_
  refine lv_lsub hx hb dX7_refuseLong_9 ?_
  exact fc_retl hx hb hr hlocks hP hS dX7_refuseLong_10 (i2a hf) (congrArg (fun z => (cW G a z)) (i2b hf))
theorem dk_X7_isNotEither : yX7_isNotEither.cls ≠ "java/lang/invoke/MethodHandle" ∧ yX7_isNotEither.cls ≠ "java/lang/invoke/VarHandle" ∧ (parseMethodDescriptor yX7_isNotEither.desc).map (fun d => d.parameters.length) = some 1 := by decide +kernel
set_option maxHeartbeats 4000000 in
set_option maxRecDepth 100000 in
theorem k_X7_isNotEither {l : Launch} {G : Gx} (x0 : Int32) {r : Int32} (hf : f_X7_isNotEither x0 = some r) : FC l G yX7_isNotEither wsX7_isNotEither ({ frames := 0, cells := 0, slots := 0, locals := 0 } : Room) [.int x0] ([] : va_W) ([] : va_W) (some (.int r)) := by
  refine fc_head (cc := cX7_isNotEither) (maxL := 1) (ret := (some .boolean)) (C := RX7) (lv := [(0, .int x0)]) (by decide) rfl rfl (Nat.le_of_ble_eq_true rfl) rfl ?_
  intro p e s m below meth c ls A hx hb hr hml hown hts hlocks hE hP hD hAB hS hl
  have hCF : CallFix p m c cX7_isNotEither 1 s ([.int x0] : List Value).toArray wsX7_isNotEither RX7 := ⟨hx, hb, hml, hown, hts⟩
  rw [f_X7_isNotEither] at hf
  refine lv_iload_n hx hb dX7_isNotEither_0 rfl (lv_at hl 0 rfl) ?_
  refine lv_if_eq (tgt := 13) hx hb dX7_isNotEither_1 (by decide) (fun c934 => ?_) (fun c934 => ?_)
  · have hf := ifT hf c934
    refine lv_iconst (v := (0 : Int32)) hx hb dX7_isNotEither_13 (by decide) ?_
    exact fc_retz hx hb hr hlocks hP hS dX7_isNotEither_14 (by decide) (i1 hf) rfl
  · have hf := ifF hf c934
    refine lv_iload_n hx hb dX7_isNotEither_4 rfl (lv_at hl 0 rfl) ?_
    refine lv_iconst (v := (1 : Int32)) hx hb dX7_isNotEither_5 (by decide) ?_
    refine lv_icmp_eq (tgt := 13) hx hb dX7_isNotEither_6 (by decide) (fun c935 => ?_) (fun c935 => ?_)
    · have hf := ifT hf c935
      refine lv_iconst (v := (0 : Int32)) hx hb dX7_isNotEither_13 (by decide) ?_
      exact fc_retz hx hb hr hlocks hP hS dX7_isNotEither_14 (by decide) (i1 hf) rfl
    · have hf := ifF hf c935
      refine lv_iconst (v := (1 : Int32)) hx hb dX7_isNotEither_9 (by decide) ?_
      refine lv_goto (tgt := 14) hx hb dX7_isNotEither_10 (by decide) ?_
      exact fc_retz hx hb hr hlocks hP hS dX7_isNotEither_14 (by decide) (i1 hf) rfl
theorem dk_X7_chance : yX7_chance.cls ≠ "java/lang/invoke/MethodHandle" ∧ yX7_chance.cls ≠ "java/lang/invoke/VarHandle" ∧ (parseMethodDescriptor yX7_chance.desc).map (fun d => d.parameters.length) = some 3 := by decide +kernel
theorem iu_X7_chance_X7 : ∀ w ∈ u_ws RX7 TX7 8, w ∈ wsX7_chance := by decide +kernel
set_option maxHeartbeats 4000000 in
set_option maxRecDepth 100000 in
theorem k_X7_chance {l : Launch} {G : Gx} (a : Nat → Nat) (S : (Nat → St)) (x1 : Int32) (x2 : Int32) (x3 : Int32) {r : Int64} {S' : (Nat → St)} (hf : f_X7_chance S x1 x2 x3 = some (r, S')) : FC l G yX7_chance wsX7_chance ({ frames := 6, cells := 0, slots := 0, locals := 151 } : Room) [.ref (a 0), .int x1, .int x2, .int x3] (cW G a S) (cW G a S') (some (.long r)) := by
  refine fc_head (cc := cX7_chance) (maxL := 5) (ret := (some .long)) (C := RX7) (lv := [(0, .ref (a 0)), (1, .int x1), (2, .int x2), (3, .int x3)]) (by decide) rfl rfl (Nat.le_of_ble_eq_true rfl) rfl ?_
  intro p e s m below meth c ls A hx hb hr hml hown hts hlocks hE hP hD hAB hS hl
  have hCF : CallFix p m c cX7_chance 5 s ([.ref (a 0), .int x1, .int x2, .int x3] : List Value).toArray wsX7_chance RX7 := ⟨hx, hb, hml, hown, hts⟩
  have hwX7 : ∀ w ∈ u_ws RX7 TX7 8, w.before ([.ref (a 0), .int x1, .int x2, .int x3] : List Value).toArray s = true := fun w h => hts w (iu_X7_chance_X7 w h)
  have hk_fieldLink_RX7_10__BrideNotKnown___now___LBrideNotKnown_Valley__ := hts (.fieldLink RX7 10 "BrideNotKnown" "now" "LBrideNotKnown$Valley;") (List.mem_of_getElem? (i := 1) rfl)
  rw [f_X7_chance] at hf
  refine lv_aload_n hx hb dX7_chance_0 rfl (lv_at hl 0 rfl) ?_
  refine fc_get (v := .ref (a 1)) (ci := 4) (C := RX7) (T := TX7) (N := 8) hx hb hwX7 hown hE hP 0 (cW_o G a S) rfl 0 (by decide) hk_fieldLink_RX7_10__BrideNotKnown___now___LBrideNotKnown_Valley__ (fun _ h => h) rfl dX7_chance_1 ?_
  refine lv_iload_n hx hb dX7_chance_4 rfl (lv_at hl 1 rfl) ?_
  obtain ⟨q942, hq942, hf⟩ := bnd hf
  refine fc_callV (Wa' := (cW G a S)) (st1 := [.int q942]) (As := [.int x1]) (rest := []) hCF (k_X6_hasBride (sh 1 a) (S 0) x1 hq942) (cwV 1 hts gX7_chance_X6_hasBride rfl rfl rfl ⟨rfl, dk_X6_hasBride⟩ ⟨Nat.le_of_ble_eq_true rfl, Nat.le_of_ble_eq_true rfl⟩) hE hAB hP hD hS [1, 2, 3, 4, 5, 6, 7, 8] cW_d0 (cW_c0 G a S) (va_recv hE.1 hP (ci := 3) (q0 := 1) rfl (cW_o0 G a S)) (vW_f G (sh 1 a) (S 0) (S 0)) (cW_i0 G a S) rfl rfl hl.1 rfl (Nat.le_of_ble_eq_true rfl) dX7_chance_5 ⟨Nat.le_refl _, Nat.le_refl _⟩ (fun H locs hP hD hS => ?_)
  refine lv_iload_n hx hb dX7_chance_8 rfl (lv_at hl 2 rfl) ?_
  refine lv_iconst (v := (0 : Int32)) hx hb dX7_chance_9 (by decide) ?_
  refine lv_iconst (v := (4 : Int32)) hx hb dX7_chance_10 (by decide) ?_
  obtain ⟨q943, hq943, hf⟩ := bnd hf
  refine fc_callS (Wa' := (cW G a S)) (st1 := [.int q943]) (As := [.int q942, .int x2, .int (0 : Int32), .int (4 : Int32)]) (rest := []) hCF (k_X7_refusalOf q942 x2 (0 : Int32) (4 : Int32) hq943) (va_cwS 4 hts gX7_chance_X7_refusalOf rfl rfl rfl dk_X7_refusalOf ⟨Nat.le_of_ble_eq_true rfl, Nat.le_of_ble_eq_true rfl⟩) hE hAB hP hD hS [] rfl rfl rfl rfl rfl rfl hl.1 rfl (Nat.le_of_ble_eq_true rfl) dX7_chance_11 ⟨Nat.le_refl _, Nat.le_refl _⟩ (fun H locs hP hD hS => ?_)
  refine lv_istore (lv' := [(4, .int q943), (0, .ref (a 0)), (1, .int x1), (2, .int x2), (3, .int x3)]) hx hb dX7_chance_14 hl (by decide) rfl (fun ls hl => ?_)
  refine lv_iload hx hb dX7_chance_16 (lv_at hl 0 rfl) ?_
  refine lv_if_eq (tgt := 28) hx hb dX7_chance_18 (by decide) (fun c944 => ?_) (fun c944 => ?_)
  · have hf := ifT hf c944
    refine lv_iload_n hx hb dX7_chance_28 rfl (lv_at hl 4 rfl) ?_
    obtain ⟨q945, hq945, hf⟩ := bnd hf
    refine fc_callS (Wa' := (cW G a S)) (st1 := [.int q945]) (As := [.int x3]) (rest := []) hCF (k_X7_isNotEither x3 hq945) (va_cwS 1 hts gX7_chance_X7_isNotEither rfl rfl rfl dk_X7_isNotEither ⟨Nat.le_of_ble_eq_true rfl, Nat.le_of_ble_eq_true rfl⟩) hE hAB hP hD hS [] rfl rfl rfl rfl rfl rfl hl.1 rfl (Nat.le_of_ble_eq_true rfl) dX7_chance_29 ⟨Nat.le_refl _, Nat.le_refl _⟩ (fun H locs hP hD hS => ?_)
    refine lv_if_eq (tgt := 42) hx hb dX7_chance_32 (by decide) (fun c946 => ?_) (fun c946 => ?_)
    · have hf := ifT hf c946
      refine lv_aload_n hx hb dX7_chance_42 rfl (lv_at hl 1 rfl) ?_
      refine fc_get (v := .ref (a 1)) (ci := 4) (C := RX7) (T := TX7) (N := 8) hx hb hwX7 hown hE hP 0 (cW_o G a S) rfl 0 (by decide) hk_fieldLink_RX7_10__BrideNotKnown___now___LBrideNotKnown_Valley__ (fun _ h => h) rfl dX7_chance_43 ?_
      refine lv_iload_n hx hb dX7_chance_46 rfl (lv_at hl 2 rfl) ?_
      refine lv_iload_n hx hb dX7_chance_47 rfl (lv_at hl 3 rfl) ?_
      refine lv_iload_n hx hb dX7_chance_48 rfl (lv_at hl 4 rfl) ?_
      obtain ⟨q947, hq947, hf⟩ := bnd hf
      refine fc_callS (Wa' := (cW G a S)) (st1 := [.long q947]) (As := [.ref (a 1), .int x1, .int x2, .int x3]) (rest := []) hCF (k_X2_ofTaking (sh 1 a) (S 0) x1 x2 x3 hq947) (va_cwS 4 hts gX7_chance_X2_ofTaking rfl rfl rfl dk_X2_ofTaking ⟨Nat.le_of_ble_eq_true rfl, Nat.le_of_ble_eq_true rfl⟩) hE hAB hP hD hS [1, 2, 3, 4, 5, 6, 7, 8] cW_d0 (cW_c0 G a S) (vW_f G (sh 1 a) (S 0) (S 0)) (cW_i0 G a S) rfl rfl hl.1 rfl (Nat.le_of_ble_eq_true rfl) dX7_chance_49 ⟨Nat.le_refl _, Nat.le_refl _⟩ (fun H locs hP hD hS => ?_)
      exact fc_retl hx hb hr hlocks hP hS dX7_chance_52 (i2a hf) (congrArg (fun z => (cW G a z)) (i2b hf))
    · have hf := ifF hf c946
      refine lv_aload_n hx hb dX7_chance_35 rfl (lv_at hl 1 rfl) ?_
      refine lv_bipush (v := (-2 : Int32)) hx hb dX7_chance_36 (by decide) ?_
      obtain ⟨q948, hq948, hf⟩ := bnd hf
      refine fc_callV (Wa' := (cW G a q948.2)) (st1 := [.long q948.1]) (As := [.int (-2 : Int32)]) (rest := []) hCF (k_X7_refuseLong a S (-2 : Int32) hq948) (cwV 1 hts gX7_chance_X7_refuseLong rfl rfl rfl ⟨rfl, dk_X7_refuseLong⟩ ⟨Nat.le_of_ble_eq_true rfl, Nat.le_of_ble_eq_true rfl⟩) hE hAB hP hD hS [0, 1, 2, 3, 4, 5, 6, 7, 8, 9, 10, 11, 12, 13, 14, 15, 16, 17, 18, 19, 20, 21, 22, 23, 24, 25, 26, 27, 28, 29, 30, 31] cW_d (cW_c G a S) (va_recv hE.1 hP (ci := 4) (q0 := 0) rfl (cW_o G a S)) (cW_f G a S q948.2) (cW_s G a S q948.2) rfl rfl hl.1 rfl (Nat.le_of_ble_eq_true rfl) dX7_chance_38 ⟨Nat.le_refl _, Nat.le_refl _⟩ (fun H locs hP hD hS => ?_)
      exact fc_retl hx hb hr hlocks hP hS dX7_chance_41 (i2a hf) (congrArg (fun z => (cW G a z)) (i2b hf))
  · have hf := ifF hf c944
    refine lv_aload_n hx hb dX7_chance_21 rfl (lv_at hl 1 rfl) ?_
    refine lv_iload hx hb dX7_chance_22 (lv_at hl 0 rfl) ?_
    obtain ⟨q949, hq949, hf⟩ := bnd hf
    refine fc_callV (Wa' := (cW G a q949.2)) (st1 := [.long q949.1]) (As := [.int q943]) (rest := []) hCF (k_X7_refuseLong a S q943 hq949) (cwV 1 hts gX7_chance_X7_refuseLong rfl rfl rfl ⟨rfl, dk_X7_refuseLong⟩ ⟨Nat.le_of_ble_eq_true rfl, Nat.le_of_ble_eq_true rfl⟩) hE hAB hP hD hS [0, 1, 2, 3, 4, 5, 6, 7, 8, 9, 10, 11, 12, 13, 14, 15, 16, 17, 18, 19, 20, 21, 22, 23, 24, 25, 26, 27, 28, 29, 30, 31] cW_d (cW_c G a S) (va_recv hE.1 hP (ci := 4) (q0 := 0) rfl (cW_o G a S)) (cW_f G a S q949.2) (cW_s G a S q949.2) rfl rfl hl.1 rfl (Nat.le_of_ble_eq_true rfl) dX7_chance_24 ⟨Nat.le_refl _, Nat.le_refl _⟩ (fun H locs hP hD hS => ?_)
    exact fc_retl hx hb hr hlocks hP hS dX7_chance_27 (i2a hf) (congrArg (fun z => (cW G a z)) (i2b hf))
theorem dk_X7_changes : yX7_changes.cls ≠ "java/lang/invoke/MethodHandle" ∧ yX7_changes.cls ≠ "java/lang/invoke/VarHandle" ∧ (parseMethodDescriptor yX7_changes.desc).map (fun d => d.parameters.length) = some 2 := by decide +kernel
theorem iu_X7_changes_X7 : ∀ w ∈ u_ws RX7 TX7 8, w ∈ wsX7_changes := by decide +kernel
set_option maxHeartbeats 4000000 in
set_option maxRecDepth 100000 in
theorem k_X7_changes {l : Launch} {G : Gx} (a : Nat → Nat) (S : (Nat → St)) (x1 : Int32) (x2 : Int32) {r : Int32} {S' : (Nat → St)} (hf : f_X7_changes S x1 x2 = some (r, S')) : FC l G yX7_changes wsX7_changes ({ frames := 3, cells := 0, slots := 0, locals := 64 } : Room) [.ref (a 0), .int x1, .int x2] (cW G a S) (cW G a S') (some (.int r)) := by
  refine fc_head (cc := cX7_changes) (maxL := 3) (ret := (some .int)) (C := RX7) (lv := [(0, .ref (a 0)), (1, .int x1), (2, .int x2)]) (by decide) rfl rfl (Nat.le_of_ble_eq_true rfl) rfl ?_
  intro p e s m below meth c ls A hx hb hr hml hown hts hlocks hE hP hD hAB hS hl
  have hCF : CallFix p m c cX7_changes 3 s ([.ref (a 0), .int x1, .int x2] : List Value).toArray wsX7_changes RX7 := ⟨hx, hb, hml, hown, hts⟩
  have hwX7 : ∀ w ∈ u_ws RX7 TX7 8, w.before ([.ref (a 0), .int x1, .int x2] : List Value).toArray s = true := fun w h => hts w (iu_X7_changes_X7 w h)
  have hk_fieldLink_RX7_10__BrideNotKnown___now___LBrideNotKnown_Valley__ := hts (.fieldLink RX7 10 "BrideNotKnown" "now" "LBrideNotKnown$Valley;") (List.mem_of_getElem? (i := 1) rfl)
  rw [f_X7_changes] at hf
  refine lv_aload_n hx hb dX7_changes_0 rfl (lv_at hl 0 rfl) ?_
  refine fc_get (v := .ref (a 1)) (ci := 4) (C := RX7) (T := TX7) (N := 8) hx hb hwX7 hown hE hP 0 (cW_o G a S) rfl 0 (by decide) hk_fieldLink_RX7_10__BrideNotKnown___now___LBrideNotKnown_Valley__ (fun _ h => h) rfl dX7_changes_1 ?_
  refine lv_iload_n hx hb dX7_changes_4 rfl (lv_at hl 1 rfl) ?_
  obtain ⟨q956, hq956, hf⟩ := bnd hf
  refine fc_callV (Wa' := (cW G a S)) (st1 := [.int q956]) (As := [.int x1]) (rest := []) hCF (k_X6_hasBride (sh 1 a) (S 0) x1 hq956) (cwV 1 hts gX7_changes_X6_hasBride rfl rfl rfl ⟨rfl, dk_X6_hasBride⟩ ⟨Nat.le_of_ble_eq_true rfl, Nat.le_of_ble_eq_true rfl⟩) hE hAB hP hD hS [1, 2, 3, 4, 5, 6, 7, 8] cW_d0 (cW_c0 G a S) (va_recv hE.1 hP (ci := 3) (q0 := 1) rfl (cW_o0 G a S)) (vW_f G (sh 1 a) (S 0) (S 0)) (cW_i0 G a S) rfl rfl hl.1 rfl (Nat.le_of_ble_eq_true rfl) dX7_changes_5 ⟨Nat.le_refl _, Nat.le_refl _⟩ (fun H locs hP hD hS => ?_)
  refine lv_if_eq (tgt := 21) hx hb dX7_changes_8 (by decide) (fun c957 => ?_) (fun c957 => ?_)
  · have hf := ifT hf c957
    refine lv_aload_n hx hb dX7_changes_21 rfl (lv_at hl 0 rfl) ?_
    refine lv_iconst (v := (-1 : Int32)) hx hb dX7_changes_22 (by decide) ?_
    obtain ⟨q958, hq958, hf⟩ := bnd hf
    refine fc_callV (Wa' := (cW G a q958.2)) (st1 := [.int q958.1]) (As := [.int (-1 : Int32)]) (rest := []) hCF (k_X7_refuse a S (-1 : Int32) hq958) (cwV 1 hts gX7_changes_X7_refuse rfl rfl rfl ⟨rfl, dk_X7_refuse⟩ ⟨Nat.le_of_ble_eq_true rfl, Nat.le_of_ble_eq_true rfl⟩) hE hAB hP hD hS [0, 1, 2, 3, 4, 5, 6, 7, 8, 9, 10, 11, 12, 13, 14, 15, 16, 17, 18, 19, 20, 21, 22, 23, 24, 25, 26, 27, 28, 29, 30, 31] cW_d (cW_c G a S) (va_recv hE.1 hP (ci := 4) (q0 := 0) rfl (cW_o G a S)) (cW_f G a S q958.2) (cW_s G a S q958.2) rfl rfl hl.1 rfl (Nat.le_of_ble_eq_true rfl) dX7_changes_23 ⟨Nat.le_refl _, Nat.le_refl _⟩ (fun H locs hP hD hS => ?_)
    exact fc_reti hx hb hr hlocks hP hS dX7_changes_26 (i2a hf) (congrArg (fun z => (cW G a z)) (i2b hf))
  · have hf := ifF hf c957
    refine lv_iload_n hx hb dX7_changes_11 rfl (lv_at hl 2 rfl) ?_
    refine lv_if_lt (tgt := 21) hx hb dX7_changes_12 (by decide) (fun c959 => ?_) (fun c959 => ?_)
    · have hf := ifT hf c959
      refine lv_aload_n hx hb dX7_changes_21 rfl (lv_at hl 0 rfl) ?_
      refine lv_iconst (v := (-1 : Int32)) hx hb dX7_changes_22 (by decide) ?_
      obtain ⟨q960, hq960, hf⟩ := bnd hf
      refine fc_callV (Wa' := (cW G a q960.2)) (st1 := [.int q960.1]) (As := [.int (-1 : Int32)]) (rest := []) hCF (k_X7_refuse a S (-1 : Int32) hq960) (cwV 1 hts gX7_changes_X7_refuse rfl rfl rfl ⟨rfl, dk_X7_refuse⟩ ⟨Nat.le_of_ble_eq_true rfl, Nat.le_of_ble_eq_true rfl⟩) hE hAB hP hD hS [0, 1, 2, 3, 4, 5, 6, 7, 8, 9, 10, 11, 12, 13, 14, 15, 16, 17, 18, 19, 20, 21, 22, 23, 24, 25, 26, 27, 28, 29, 30, 31] cW_d (cW_c G a S) (va_recv hE.1 hP (ci := 4) (q0 := 0) rfl (cW_o G a S)) (cW_f G a S q960.2) (cW_s G a S q960.2) rfl rfl hl.1 rfl (Nat.le_of_ble_eq_true rfl) dX7_changes_23 ⟨Nat.le_refl _, Nat.le_refl _⟩ (fun H locs hP hD hS => ?_)
      exact fc_reti hx hb hr hlocks hP hS dX7_changes_26 (i2a hf) (congrArg (fun z => (cW G a z)) (i2b hf))
    · have hf := ifF hf c959
      refine lv_iload_n hx hb dX7_changes_15 rfl (lv_at hl 2 rfl) ?_
      refine lv_bipush (v := (6 : Int32)) hx hb dX7_changes_16 (by decide) ?_
      refine lv_icmp_lt (tgt := 27) hx hb dX7_changes_18 (by decide) (fun c961 => ?_) (fun c961 => ?_)
      · have hf := ifT hf c961
        refine lv_aload_n hx hb dX7_changes_27 rfl (lv_at hl 0 rfl) ?_
        refine fc_get (v := .ref (a 1)) (ci := 4) (C := RX7) (T := TX7) (N := 8) hx hb hwX7 hown hE hP 0 (cW_o G a S) rfl 0 (by decide) hk_fieldLink_RX7_10__BrideNotKnown___now___LBrideNotKnown_Valley__ (fun _ h => h) rfl dX7_changes_28 ?_
        refine lv_iload_n hx hb dX7_changes_31 rfl (lv_at hl 1 rfl) ?_
        refine lv_iconst (v := (1 : Int32)) hx hb dX7_changes_32 (by decide) ?_
        refine lv_iload_n hx hb dX7_changes_33 rfl (lv_at hl 2 rfl) ?_
        refine lv_ishl hx hb dX7_changes_34 ?_
        obtain ⟨q962, hq962, hf⟩ := bnd hf
        refine fc_callV (Wa' := (cW G a (sS S 0 q962))) (st1 := []) (As := [.int x1, .int ((1 : Int32) <<< (x2 &&& 31))]) (rest := []) hCF (k_X6_changeToes (sh 1 a) (S 0) x1 ((1 : Int32) <<< (x2 &&& 31)) hq962) (cwV 2 hts gX7_changes_X6_changeToes rfl rfl rfl ⟨rfl, dk_X6_changeToes⟩ ⟨Nat.le_of_ble_eq_true rfl, Nat.le_of_ble_eq_true rfl⟩) hE hAB hP hD hS [1, 2, 3, 4, 5, 6, 7, 8] cW_d0 (cW_c0 G a S) (va_recv hE.1 hP (ci := 3) (q0 := 1) rfl (cW_o0 G a S)) (vW_f G (sh 1 a) (S 0) q962) (cW_s0 G a S q962) rfl rfl hl.1 rfl (Nat.le_of_ble_eq_true rfl) dX7_changes_35 ⟨Nat.le_refl _, Nat.le_refl _⟩ (fun H locs hP hD hS => ?_)
        refine lv_aload_n hx hb dX7_changes_38 rfl (lv_at hl 0 rfl) ?_
        refine fc_get (v := .ref (a 1)) (ci := 4) (C := RX7) (T := TX7) (N := 8) hx hb hwX7 hown hE hP 0 (cW_o G a (sS S 0 q962)) rfl 0 (by decide) hk_fieldLink_RX7_10__BrideNotKnown___now___LBrideNotKnown_Valley__ (fun _ h => h) rfl dX7_changes_39 ?_
        refine lv_iload_n hx hb dX7_changes_42 rfl (lv_at hl 1 rfl) ?_
        obtain ⟨q963, hq963, hf⟩ := bnd hf
        refine fc_callV (Wa' := (cW G a (sS S 0 q962))) (st1 := [.int q963]) (As := [.int x1]) (rest := []) hCF (k_X6_footOf (sh 1 a) q962 x1 hq963) (cwV 1 hts gX7_changes_X6_footOf rfl rfl rfl ⟨rfl, dk_X6_footOf⟩ ⟨Nat.le_of_ble_eq_true rfl, Nat.le_of_ble_eq_true rfl⟩) hE hAB hP hD hS [1, 2, 3, 4, 5, 6, 7, 8] cW_d0 (cW_c0 G a (sS S 0 q962)) (va_recv hE.1 hP (ci := 3) (q0 := 1) rfl (cW_o0 G a (sS S 0 q962))) (vW_f G (sh 1 a) q962 q962) (cW_i0 G a (sS S 0 q962)) rfl rfl hl.1 rfl (Nat.le_of_ble_eq_true rfl) dX7_changes_43 ⟨Nat.le_refl _, Nat.le_refl _⟩ (fun H locs hP hD hS => ?_)
        exact fc_reti hx hb hr hlocks hP hS dX7_changes_46 (i2a hf) (congrArg (fun z => (cW G a z)) (i2b hf))
      · have hf := ifF hf c961
        refine lv_aload_n hx hb dX7_changes_21 rfl (lv_at hl 0 rfl) ?_
        refine lv_iconst (v := (-1 : Int32)) hx hb dX7_changes_22 (by decide) ?_
        obtain ⟨q964, hq964, hf⟩ := bnd hf
        refine fc_callV (Wa' := (cW G a q964.2)) (st1 := [.int q964.1]) (As := [.int (-1 : Int32)]) (rest := []) hCF (k_X7_refuse a S (-1 : Int32) hq964) (cwV 1 hts gX7_changes_X7_refuse rfl rfl rfl ⟨rfl, dk_X7_refuse⟩ ⟨Nat.le_of_ble_eq_true rfl, Nat.le_of_ble_eq_true rfl⟩) hE hAB hP hD hS [0, 1, 2, 3, 4, 5, 6, 7, 8, 9, 10, 11, 12, 13, 14, 15, 16, 17, 18, 19, 20, 21, 22, 23, 24, 25, 26, 27, 28, 29, 30, 31] cW_d (cW_c G a S) (va_recv hE.1 hP (ci := 4) (q0 := 0) rfl (cW_o G a S)) (cW_f G a S q964.2) (cW_s G a S q964.2) rfl rfl hl.1 rfl (Nat.le_of_ble_eq_true rfl) dX7_changes_23 ⟨Nat.le_refl _, Nat.le_refl _⟩ (fun H locs hP hD hS => ?_)
        exact fc_reti hx hb hr hlocks hP hS dX7_changes_26 (i2a hf) (congrArg (fun z => (cW G a z)) (i2b hf))
theorem dk_X7_clear : yX7_clear.cls ≠ "java/lang/invoke/MethodHandle" ∧ yX7_clear.cls ≠ "java/lang/invoke/VarHandle" ∧ (parseMethodDescriptor yX7_clear.desc).map (fun d => d.parameters.length) = some 0 := by decide +kernel
theorem iu_X7_clear_X4 : ∀ w ∈ u_ws RX4 TX4 2, w ∈ wsX7_clear := by decide +kernel
theorem iu_X7_clear_X7 : ∀ w ∈ u_ws RX7 TX7 8, w ∈ wsX7_clear := by decide +kernel
set_option maxHeartbeats 4000000 in
set_option maxRecDepth 100000 in
theorem k_X7_clear {l : Launch} {G : Gx} (a : Nat → Nat) (S : (Nat → St)) {r : Int32} {S' : (Nat → St)} (hf : f_X7_clear S = some (r, S')) : FC l G yX7_clear wsX7_clear ({ frames := 1, cells := 0, slots := 0, locals := 20 } : Room) [.ref (a 0)] (cW G a S) (cW G a S') (some (.int r)) := by
  refine fc_head (cc := cX7_clear) (maxL := 2) (ret := (some .int)) (C := RX7) (lv := [(0, .ref (a 0))]) (by decide) rfl rfl (Nat.le_of_ble_eq_true rfl) rfl ?_
  intro p e s m below meth c ls A hx hb hr hml hown hts hlocks hE hP hD hAB hS hl
  have hCF : CallFix p m c cX7_clear 2 s ([.ref (a 0)] : List Value).toArray wsX7_clear RX7 := ⟨hx, hb, hml, hown, hts⟩
  have hwX4 : ∀ w ∈ u_ws RX4 TX4 2, w.before ([.ref (a 0)] : List Value).toArray s = true := fun w h => hts w (iu_X7_clear_X4 w h)
  have hwX7 : ∀ w ∈ u_ws RX7 TX7 8, w.before ([.ref (a 0)] : List Value).toArray s = true := fun w h => hts w (iu_X7_clear_X7 w h)
  have hk_fieldLink_RX7_32__BrideNotKnown___numbers___LBrideNotKnown_Row__ := hts (.fieldLink RX7 32 "BrideNotKnown" "numbers" "LBrideNotKnown$Row;") (List.mem_of_getElem? (i := 1) rfl)
  have hk_fieldLink_RX7_264__BrideNotKnown_Row___size___I_ := hts (.fieldLink RX7 264 "BrideNotKnown$Row" "size" "I") (List.mem_of_getElem? (i := 2) rfl)
  rw [f_X7_clear] at hf
  refine lv_aload_n hx hb dX7_clear_0 rfl (lv_at hl 0 rfl) ?_
  refine fc_get (v := .ref (a 27)) (ci := 4) (C := RX7) (T := TX7) (N := 8) hx hb hwX7 hown hE hP 0 (cW_o G a S) rfl 5 (by decide) hk_fieldLink_RX7_32__BrideNotKnown___numbers___LBrideNotKnown_Row__ (fun _ h => h) rfl dX7_clear_1 ?_
  refine fc_get (v := .int ((S 4) 1 0)) (ci := 1) (C := RX4) (T := TX4) (N := 2) hx hb hwX4 hown hE hP 27 (cW_o4 G a S) rfl 1 (by decide) hk_fieldLink_RX7_264__BrideNotKnown_Row___size___I_ (fun _ h => h) rfl dX7_clear_4 ?_
  refine lv_istore_n (lv' := [(1, .int ((S 4) 1 0)), (0, .ref (a 0))]) hx hb dX7_clear_7 rfl hl (by decide) rfl (fun ls hl => ?_)
  refine lv_aload_n hx hb dX7_clear_8 rfl (lv_at hl 1 rfl) ?_
  refine fc_get (v := .ref (a 27)) (ci := 4) (C := RX7) (T := TX7) (N := 8) hx hb hwX7 hown hE hP 0 (cW_o G a S) rfl 5 (by decide) hk_fieldLink_RX7_32__BrideNotKnown___numbers___LBrideNotKnown_Row__ (fun _ h => h) rfl dX7_clear_9 ?_
  obtain ⟨q966, hq966, hf⟩ := bnd hf
  refine fc_callV (Wa' := (cW G a (sS S 4 q966))) (st1 := []) (As := []) (rest := []) hCF (k_X4_empty (sh 27 a) (S 4) hq966) (cwV 0 hts gX7_clear_X4_empty rfl rfl rfl ⟨rfl, dk_X4_empty⟩ ⟨Nat.le_of_ble_eq_true rfl, Nat.le_of_ble_eq_true rfl⟩) hE hAB hP hD hS [27, 28] cW_d4 (cW_c4 G a S) (va_recv hE.1 hP (ci := 1) (q0 := 27) rfl (cW_o4 G a S)) (rW_f G (sh 27 a) (S 4) q966) (cW_s4 G a S q966) rfl rfl hl.1 rfl (Nat.le_of_ble_eq_true rfl) dX7_clear_12 ⟨Nat.le_refl _, Nat.le_refl _⟩ (fun H locs hP hD hS => ?_)
  refine lv_iload_n hx hb dX7_clear_15 rfl (lv_at hl 0 rfl) ?_
  exact fc_reti hx hb hr hlocks hP hS dX7_clear_16 (i2a hf) (congrArg (fun z => (cW G a z)) (i2b hf))
theorem dk_X7_count : yX7_count.cls ≠ "java/lang/invoke/MethodHandle" ∧ yX7_count.cls ≠ "java/lang/invoke/VarHandle" ∧ (parseMethodDescriptor yX7_count.desc).map (fun d => d.parameters.length) = some 1 := by decide +kernel
theorem iu_X7_count_X4 : ∀ w ∈ u_ws RX4 TX4 2, w ∈ wsX7_count := by decide +kernel
theorem iu_X7_count_X5 : ∀ w ∈ u_ws RX5 TX5 2, w ∈ wsX7_count := by decide +kernel
theorem iu_X7_count_X6 : ∀ w ∈ u_ws RX6 TX6 12, w ∈ wsX7_count := by decide +kernel
theorem iu_X7_count_X7 : ∀ w ∈ u_ws RX7 TX7 8, w ∈ wsX7_count := by decide +kernel
set_option maxHeartbeats 4000000 in
set_option maxRecDepth 100000 in
theorem k_X7_count {l : Launch} {G : Gx} (a : Nat → Nat) (S : (Nat → St)) (x1 : Int32) {r : Int32} (hf : f_X7_count S x1 = some r) : FC l G yX7_count wsX7_count ({ frames := 3, cells := 0, slots := 0, locals := 64 } : Room) [.ref (a 0), .int x1] (cW G a S) (cW G a S) (some (.int r)) := by
  refine fc_head (cc := cX7_count) (maxL := 2) (ret := (some .int)) (C := RX7) (lv := [(0, .ref (a 0)), (1, .int x1)]) (by decide) rfl rfl (Nat.le_of_ble_eq_true rfl) rfl ?_
  intro p e s m below meth c ls A hx hb hr hml hown hts hlocks hE hP hD hAB hS hl
  have hCF : CallFix p m c cX7_count 2 s ([.ref (a 0), .int x1] : List Value).toArray wsX7_count RX7 := ⟨hx, hb, hml, hown, hts⟩
  have hwX4 : ∀ w ∈ u_ws RX4 TX4 2, w.before ([.ref (a 0), .int x1] : List Value).toArray s = true := fun w h => hts w (iu_X7_count_X4 w h)
  have hwX5 : ∀ w ∈ u_ws RX5 TX5 2, w.before ([.ref (a 0), .int x1] : List Value).toArray s = true := fun w h => hts w (iu_X7_count_X5 w h)
  have hwX6 : ∀ w ∈ u_ws RX6 TX6 12, w.before ([.ref (a 0), .int x1] : List Value).toArray s = true := fun w h => hts w (iu_X7_count_X6 w h)
  have hwX7 : ∀ w ∈ u_ws RX7 TX7 8, w.before ([.ref (a 0), .int x1] : List Value).toArray s = true := fun w h => hts w (iu_X7_count_X7 w h)
  have hk_fieldLink_RX7_10__BrideNotKnown___now___LBrideNotKnown_Valley__ := hts (.fieldLink RX7 10 "BrideNotKnown" "now" "LBrideNotKnown$Valley;") (List.mem_of_getElem? (i := 2) rfl)
  have hk_fieldLink_RX7_228__BrideNotKnown_Valley___brideCount___I_ := hts (.fieldLink RX7 228 "BrideNotKnown$Valley" "brideCount" "I") (List.mem_of_getElem? (i := 3) rfl)
  have hk_fieldLink_RX7_201__BrideNotKnown_Valley___groomCount___I_ := hts (.fieldLink RX7 201 "BrideNotKnown$Valley" "groomCount" "I") (List.mem_of_getElem? (i := 4) rfl)
  have hk_fieldLink_RX7_274__BrideNotKnown_Valley___year___I_ := hts (.fieldLink RX7 274 "BrideNotKnown$Valley" "year" "I") (List.mem_of_getElem? (i := 5) rfl)
  have hk_fieldLink_RX7_281__BrideNotKnown_Valley___marriedGrooms___I_ := hts (.fieldLink RX7 281 "BrideNotKnown$Valley" "marriedGrooms" "I") (List.mem_of_getElem? (i := 6) rfl)
  have hk_fieldLink_RX7_32__BrideNotKnown___numbers___LBrideNotKnown_Row__ := hts (.fieldLink RX7 32 "BrideNotKnown" "numbers" "LBrideNotKnown$Row;") (List.mem_of_getElem? (i := 7) rfl)
  have hk_fieldLink_RX7_264__BrideNotKnown_Row___size___I_ := hts (.fieldLink RX7 264 "BrideNotKnown$Row" "size" "I") (List.mem_of_getElem? (i := 8) rfl)
  have hk_fieldLink_RX7_25__BrideNotKnown___text___LBrideNotKnown_Text__ := hts (.fieldLink RX7 25 "BrideNotKnown" "text" "LBrideNotKnown$Text;") (List.mem_of_getElem? (i := 9) rfl)
  have hk_fieldLink_RX7_287__BrideNotKnown_Text___size___I_ := hts (.fieldLink RX7 287 "BrideNotKnown$Text" "size" "I") (List.mem_of_getElem? (i := 10) rfl)
  have hk_fieldLink_RX7_43__BrideNotKnown___refusals____I_ := hts (.fieldLink RX7 43 "BrideNotKnown" "refusals" "[I") (List.mem_of_getElem? (i := 1) rfl)
  rw [f_X7_count] at hf
  refine lv_iload_n hx hb dX7_count_0 rfl (lv_at hl 1 rfl) ?_
  refine lv_bipush (v := (11 : Int32)) hx hb dX7_count_1 (by decide) ?_
  have J24_970 : ∀ (H : Heap) (locs : List Loc) (ls : Array Slot), va_P (gD G) vwCl (cW G a S) H → va_D A (cW G a S) → va_S A s.heap H locs → lv_has ls 2 [(0, .ref (a 0)), (1, .int x1)] → f_X7_count_24 S x1 = some r → W p l e (headSpec wsX7_count ({ frames := 3, cells := 0, slots := 0, locals := 64 } : Room)).room s m ([.ref (a 0), .int x1] : List Value).toArray below meth c H locs 0 0 (MQ below (FQ G A (cW G a S) (some (.int r))) ([.ref (a 0), .int x1] : List Value).toArray s 0 0 A) (F0 m 24 ls []) := by
    intro H locs ls hP hD hS hl hf
    rw [f_X7_count_24] at hf
    refine lv_iload_n hx hb dX7_count_24 rfl (lv_at hl 1 rfl) ?_
    by_cases c971 : x1 = (0 : Int32)
    · have hf := ifT hf c971
      refine lv_tableIn (off := 47) (tgt := 72) hx hb dX7_count_25 (by rw [c971]; decide) (by rw [c971]; decide) (by rw [c971]; rfl) (by decide) ?_
      refine lv_aload_n hx hb dX7_count_72 rfl (lv_at hl 0 rfl) ?_
      refine fc_get (v := .ref (a 1)) (ci := 4) (C := RX7) (T := TX7) (N := 8) hx hb hwX7 hown hE hP 0 (cW_o G a S) rfl 0 (by decide) hk_fieldLink_RX7_10__BrideNotKnown___now___LBrideNotKnown_Valley__ (fun _ h => h) rfl dX7_count_73 ?_
      refine fc_get (v := .int ((S 0) 7 1)) (ci := 3) (C := RX6) (T := TX6) (N := 12) hx hb hwX6 hown hE hP 1 (cW_o0 G a S) rfl 1 (by decide) hk_fieldLink_RX7_228__BrideNotKnown_Valley___brideCount___I_ (fun _ h => h) rfl dX7_count_76 ?_
      exact fc_reti hx hb hr hlocks hP hS dX7_count_79 (i1 hf) rfl
    · have hf := ifF hf c971
      by_cases c972 : x1 = (1 : Int32)
      · have hf := ifT hf c972
        refine lv_tableIn (off := 55) (tgt := 80) hx hb dX7_count_25 (by rw [c972]; decide) (by rw [c972]; decide) (by rw [c972]; rfl) (by decide) ?_
        refine lv_aload_n hx hb dX7_count_80 rfl (lv_at hl 0 rfl) ?_
        refine fc_get (v := .ref (a 1)) (ci := 4) (C := RX7) (T := TX7) (N := 8) hx hb hwX7 hown hE hP 0 (cW_o G a S) rfl 0 (by decide) hk_fieldLink_RX7_10__BrideNotKnown___now___LBrideNotKnown_Valley__ (fun _ h => h) rfl dX7_count_81 ?_
        refine fc_get (v := .int ((S 0) 7 3)) (ci := 3) (C := RX6) (T := TX6) (N := 12) hx hb hwX6 hown hE hP 1 (cW_o0 G a S) rfl 7 (by decide) hk_fieldLink_RX7_201__BrideNotKnown_Valley___groomCount___I_ (fun _ h => h) rfl dX7_count_84 ?_
        exact fc_reti hx hb hr hlocks hP hS dX7_count_87 (i1 hf) rfl
      · have hf := ifF hf c972
        by_cases c973 : x1 = (2 : Int32)
        · have hf := ifT hf c973
          refine lv_tableIn (off := 63) (tgt := 88) hx hb dX7_count_25 (by rw [c973]; decide) (by rw [c973]; decide) (by rw [c973]; rfl) (by decide) ?_
          refine lv_aload_n hx hb dX7_count_88 rfl (lv_at hl 0 rfl) ?_
          refine fc_get (v := .ref (a 1)) (ci := 4) (C := RX7) (T := TX7) (N := 8) hx hb hwX7 hown hE hP 0 (cW_o G a S) rfl 0 (by decide) hk_fieldLink_RX7_10__BrideNotKnown___now___LBrideNotKnown_Valley__ (fun _ h => h) rfl dX7_count_89 ?_
          refine fc_get (v := .int ((S 0) 7 0)) (ci := 3) (C := RX6) (T := TX6) (N := 12) hx hb hwX6 hown hE hP 1 (cW_o0 G a S) rfl 0 (by decide) hk_fieldLink_RX7_274__BrideNotKnown_Valley___year___I_ (fun _ h => h) rfl dX7_count_92 ?_
          exact fc_reti hx hb hr hlocks hP hS dX7_count_95 (i1 hf) rfl
        · have hf := ifF hf c973
          by_cases c974 : x1 = (3 : Int32)
          · have hf := ifT hf c974
            refine lv_tableIn (off := 71) (tgt := 96) hx hb dX7_count_25 (by rw [c974]; decide) (by rw [c974]; decide) (by rw [c974]; rfl) (by decide) ?_
            refine lv_aload_n hx hb dX7_count_96 rfl (lv_at hl 0 rfl) ?_
            refine fc_get (v := .ref (a 1)) (ci := 4) (C := RX7) (T := TX7) (N := 8) hx hb hwX7 hown hE hP 0 (cW_o G a S) rfl 0 (by decide) hk_fieldLink_RX7_10__BrideNotKnown___now___LBrideNotKnown_Valley__ (fun _ h => h) rfl dX7_count_97 ?_
            refine lv_iconst (v := (0 : Int32)) hx hb dX7_count_100 (by decide) ?_
            obtain ⟨q975, hq975, hf⟩ := bnd hf
            refine fc_callV (Wa' := (cW G a S)) (st1 := [.int q975]) (As := [.int (0 : Int32)]) (rest := []) hCF (k_X6_hereThen (sh 1 a) (S 0) (0 : Int32) hq975) (cwV 1 hts gX7_count_X6_hereThen rfl rfl rfl ⟨rfl, dk_X6_hereThen⟩ ⟨Nat.le_of_ble_eq_true rfl, Nat.le_of_ble_eq_true rfl⟩) hE hAB hP hD hS [1, 2, 3, 4, 5, 6, 7, 8] cW_d0 (cW_c0 G a S) (va_recv hE.1 hP (ci := 3) (q0 := 1) rfl (cW_o0 G a S)) (vW_f G (sh 1 a) (S 0) (S 0)) (cW_i0 G a S) rfl rfl hl.1 rfl (Nat.le_of_ble_eq_true rfl) dX7_count_101 ⟨Nat.le_refl _, Nat.le_refl _⟩ (fun H locs hP hD hS => ?_)
            exact fc_reti hx hb hr hlocks hP hS dX7_count_104 (i1 hf) rfl
          · have hf := ifF hf c974
            by_cases c976 : x1 = (4 : Int32)
            · have hf := ifT hf c976
              refine lv_tableIn (off := 80) (tgt := 105) hx hb dX7_count_25 (by rw [c976]; decide) (by rw [c976]; decide) (by rw [c976]; rfl) (by decide) ?_
              refine lv_aload_n hx hb dX7_count_105 rfl (lv_at hl 0 rfl) ?_
              refine fc_get (v := .ref (a 1)) (ci := 4) (C := RX7) (T := TX7) (N := 8) hx hb hwX7 hown hE hP 0 (cW_o G a S) rfl 0 (by decide) hk_fieldLink_RX7_10__BrideNotKnown___now___LBrideNotKnown_Valley__ (fun _ h => h) rfl dX7_count_106 ?_
              refine fc_get (v := .int ((S 0) 7 4)) (ci := 3) (C := RX6) (T := TX6) (N := 12) hx hb hwX6 hown hE hP 1 (cW_o0 G a S) rfl 11 (by decide) hk_fieldLink_RX7_281__BrideNotKnown_Valley___marriedGrooms___I_ (fun _ h => h) rfl dX7_count_109 ?_
              exact fc_reti hx hb hr hlocks hP hS dX7_count_112 (i1 hf) rfl
            · have hf := ifF hf c976
              by_cases c977 : x1 = (5 : Int32)
              · have hf := ifT hf c977
                refine lv_tableIn (off := 88) (tgt := 113) hx hb dX7_count_25 (by rw [c977]; decide) (by rw [c977]; decide) (by rw [c977]; rfl) (by decide) ?_
                refine lv_aload_n hx hb dX7_count_113 rfl (lv_at hl 0 rfl) ?_
                refine fc_get (v := .ref (a 1)) (ci := 4) (C := RX7) (T := TX7) (N := 8) hx hb hwX7 hown hE hP 0 (cW_o G a S) rfl 0 (by decide) hk_fieldLink_RX7_10__BrideNotKnown___now___LBrideNotKnown_Valley__ (fun _ h => h) rfl dX7_count_114 ?_
                obtain ⟨q978, hq978, hf⟩ := bnd hf
                refine fc_callV (Wa' := (cW G a S)) (st1 := [.int q978]) (As := []) (rest := []) hCF (k_X6_allLiquor (sh 1 a) (S 0) hq978) (cwV 0 hts gX7_count_X6_allLiquor rfl rfl rfl ⟨rfl, dk_X6_allLiquor⟩ ⟨Nat.le_of_ble_eq_true rfl, Nat.le_of_ble_eq_true rfl⟩) hE hAB hP hD hS [1, 2, 3, 4, 5, 6, 7, 8] cW_d0 (cW_c0 G a S) (va_recv hE.1 hP (ci := 3) (q0 := 1) rfl (cW_o0 G a S)) (vW_f G (sh 1 a) (S 0) (S 0)) (cW_i0 G a S) rfl rfl hl.1 rfl (Nat.le_of_ble_eq_true rfl) dX7_count_117 ⟨Nat.le_refl _, Nat.le_refl _⟩ (fun H locs hP hD hS => ?_)
                exact fc_reti hx hb hr hlocks hP hS dX7_count_120 (i1 hf) rfl
              · have hf := ifF hf c977
                by_cases c979 : x1 = (6 : Int32)
                · have hf := ifT hf c979
                  refine lv_tableIn (off := 96) (tgt := 121) hx hb dX7_count_25 (by rw [c979]; decide) (by rw [c979]; decide) (by rw [c979]; rfl) (by decide) ?_
                  refine lv_aload_n hx hb dX7_count_121 rfl (lv_at hl 0 rfl) ?_
                  refine fc_get (v := .ref (a 27)) (ci := 4) (C := RX7) (T := TX7) (N := 8) hx hb hwX7 hown hE hP 0 (cW_o G a S) rfl 5 (by decide) hk_fieldLink_RX7_32__BrideNotKnown___numbers___LBrideNotKnown_Row__ (fun _ h => h) rfl dX7_count_122 ?_
                  refine fc_get (v := .int ((S 4) 1 0)) (ci := 1) (C := RX4) (T := TX4) (N := 2) hx hb hwX4 hown hE hP 27 (cW_o4 G a S) rfl 1 (by decide) hk_fieldLink_RX7_264__BrideNotKnown_Row___size___I_ (fun _ h => h) rfl dX7_count_125 ?_
                  exact fc_reti hx hb hr hlocks hP hS dX7_count_128 (i1 hf) rfl
                · have hf := ifF hf c979
                  by_cases c980 : x1 = (7 : Int32)
                  · have hf := ifT hf c980
                    refine lv_tableIn (off := 104) (tgt := 129) hx hb dX7_count_25 (by rw [c980]; decide) (by rw [c980]; decide) (by rw [c980]; rfl) (by decide) ?_
                    refine lv_aload_n hx hb dX7_count_129 rfl (lv_at hl 0 rfl) ?_
                    refine fc_get (v := .ref (a 25)) (ci := 4) (C := RX7) (T := TX7) (N := 8) hx hb hwX7 hown hE hP 0 (cW_o G a S) rfl 4 (by decide) hk_fieldLink_RX7_25__BrideNotKnown___text___LBrideNotKnown_Text__ (fun _ h => h) rfl dX7_count_130 ?_
                    refine fc_get (v := .int ((S 3) 1 0)) (ci := 2) (C := RX5) (T := TX5) (N := 2) hx hb hwX5 hown hE hP 25 (cW_o3 G a S) rfl 1 (by decide) hk_fieldLink_RX7_287__BrideNotKnown_Text___size___I_ (fun _ h => h) rfl dX7_count_133 ?_
                    exact fc_reti hx hb hr hlocks hP hS dX7_count_136 (i1 hf) rfl
                  · have hf := ifF hf c980
                    refine lv_tableOut (tgt := 137) hx hb dX7_count_25 (by have dc971 := lv_neT c971 (a := 0) (by decide); have dc972 := lv_neT c972 (a := 1) (by decide); have dc973 := lv_neT c973 (a := 2) (by decide); have dc974 := lv_neT c974 (a := 3) (by decide); have dc976 := lv_neT c976 (a := 4) (by decide); have dc977 := lv_neT c977 (a := 5) (by decide); have dc979 := lv_neT c979 (a := 6) (by decide); have dc980 := lv_neT c980 (a := 7) (by decide); omega) (by decide) ?_
                    refine lv_bipush (v := (-9 : Int32)) hx hb dX7_count_137 (by decide) ?_
                    exact fc_reti hx hb hr hlocks hP hS dX7_count_139 (i1 hf) rfl
  refine lv_icmp_lt (tgt := 24) hx hb dX7_count_3 (by decide) (fun c981 => ?_) (fun c981 => ?_)
  · have hf := ifT hf c981
    exact J24_970 _ _ _ hP hD hS (lv_sub hl [0, 1] rfl) hf
  · have hf := ifF hf c981
    refine lv_iload_n hx hb dX7_count_6 rfl (lv_at hl 1 rfl) ?_
    refine lv_bipush (v := (16 : Int32)) hx hb dX7_count_7 (by decide) ?_
    refine lv_icmp_gt (tgt := 24) hx hb dX7_count_9 (by decide) (fun c982 => ?_) (fun c982 => ?_)
    · have hf := ifT hf c982
      exact J24_970 _ _ _ hP hD hS (lv_sub hl [0, 1] rfl) hf
    · have hf := ifF hf c982
      refine lv_aload_n hx hb dX7_count_12 rfl (lv_at hl 0 rfl) ?_
      refine fc_get (v := .ref (a 31)) (ci := 4) (C := RX7) (T := TX7) (N := 8) hx hb hwX7 hown hE hP 0 (cW_o G a S) rfl 7 (by decide) hk_fieldLink_RX7_43__BrideNotKnown___refusals____I_ (fun _ h => h) rfl dX7_count_13 ?_
      refine lv_iload_n hx hb dX7_count_16 rfl (lv_at hl 1 rfl) ?_
      refine lv_bipush (v := (10 : Int32)) hx hb dX7_count_17 (by decide) ?_
      refine lv_isub hx hb dX7_count_19 ?_
      obtain ⟨q983, hq983, hf⟩ := bnd hf
      refine fc_callS (Wa' := (cW G a S)) (st1 := [.int q983]) (As := [.ref (a 31), .int (x1 - (10 : Int32))]) (rest := []) hCF (k_X7_at (a 31) 7 ((S 6) 0) (x1 - (10 : Int32)) hq983) (va_cwS 2 hts gX7_count_X7_at rfl rfl rfl dk_X7_at ⟨Nat.le_of_ble_eq_true rfl, Nat.le_of_ble_eq_true rfl⟩) hE hAB hP hD hS [31] rfl (cW_ca31 G a S) (aW_f G (a 31) 7 ((S 6) 0) ((S 6) 0)) (cW_ia31 G a S) rfl rfl hl.1 rfl (Nat.le_of_ble_eq_true rfl) dX7_count_20 ⟨Nat.le_refl _, Nat.le_refl _⟩ (fun H locs hP hD hS => ?_)
      exact fc_reti hx hb hr hlocks hP hS dX7_count_23 (i1 hf) rfl
theorem dk_X7_drink : yX7_drink.cls ≠ "java/lang/invoke/MethodHandle" ∧ yX7_drink.cls ≠ "java/lang/invoke/VarHandle" ∧ (parseMethodDescriptor yX7_drink.desc).map (fun d => d.parameters.length) = some 2 := by decide +kernel
theorem iu_X7_drink_X7 : ∀ w ∈ u_ws RX7 TX7 8, w ∈ wsX7_drink := by decide +kernel
set_option maxHeartbeats 4000000 in
set_option maxRecDepth 100000 in
theorem k_X7_drink {l : Launch} {G : Gx} (a : Nat → Nat) (S : (Nat → St)) (x1 : Int32) (x2 : Int32) {r : Int32} {S' : (Nat → St)} (hf : f_X7_drink S x1 x2 = some (r, S')) : FC l G yX7_drink wsX7_drink ({ frames := 5, cells := 0, slots := 0, locals := 122 } : Room) [.ref (a 0), .int x1, .int x2] (cW G a S) (cW G a S') (some (.int r)) := by
  refine fc_head (cc := cX7_drink) (maxL := 4) (ret := (some .int)) (C := RX7) (lv := [(0, .ref (a 0)), (1, .int x1), (2, .int x2)]) (by decide) rfl rfl (Nat.le_of_ble_eq_true rfl) rfl ?_
  intro p e s m below meth c ls A hx hb hr hml hown hts hlocks hE hP hD hAB hS hl
  have hCF : CallFix p m c cX7_drink 4 s ([.ref (a 0), .int x1, .int x2] : List Value).toArray wsX7_drink RX7 := ⟨hx, hb, hml, hown, hts⟩
  have hwX7 : ∀ w ∈ u_ws RX7 TX7 8, w.before ([.ref (a 0), .int x1, .int x2] : List Value).toArray s = true := fun w h => hts w (iu_X7_drink_X7 w h)
  have hk_fieldLink_RX7_10__BrideNotKnown___now___LBrideNotKnown_Valley__ := hts (.fieldLink RX7 10 "BrideNotKnown" "now" "LBrideNotKnown$Valley;") (List.mem_of_getElem? (i := 1) rfl)
  rw [f_X7_drink] at hf
  refine lv_aload_n hx hb dX7_drink_0 rfl (lv_at hl 0 rfl) ?_
  refine fc_get (v := .ref (a 1)) (ci := 4) (C := RX7) (T := TX7) (N := 8) hx hb hwX7 hown hE hP 0 (cW_o G a S) rfl 0 (by decide) hk_fieldLink_RX7_10__BrideNotKnown___now___LBrideNotKnown_Valley__ (fun _ h => h) rfl dX7_drink_1 ?_
  refine lv_iload_n hx hb dX7_drink_4 rfl (lv_at hl 1 rfl) ?_
  obtain ⟨q989, hq989, hf⟩ := bnd hf
  refine fc_callV (Wa' := (cW G a S)) (st1 := [.int q989]) (As := [.int x1]) (rest := []) hCF (k_X6_hasGroom (sh 1 a) (S 0) x1 hq989) (cwV 1 hts gX7_drink_X6_hasGroom rfl rfl rfl ⟨rfl, dk_X6_hasGroom⟩ ⟨Nat.le_of_ble_eq_true rfl, Nat.le_of_ble_eq_true rfl⟩) hE hAB hP hD hS [1, 2, 3, 4, 5, 6, 7, 8] cW_d0 (cW_c0 G a S) (va_recv hE.1 hP (ci := 3) (q0 := 1) rfl (cW_o0 G a S)) (vW_f G (sh 1 a) (S 0) (S 0)) (cW_i0 G a S) rfl rfl hl.1 rfl (Nat.le_of_ble_eq_true rfl) dX7_drink_5 ⟨Nat.le_refl _, Nat.le_refl _⟩ (fun H locs hP hD hS => ?_)
  refine lv_if_eq (tgt := 22) hx hb dX7_drink_8 (by decide) (fun c990 => ?_) (fun c990 => ?_)
  · have hf := ifT hf c990
    refine lv_aload_n hx hb dX7_drink_22 rfl (lv_at hl 0 rfl) ?_
    refine lv_iconst (v := (-1 : Int32)) hx hb dX7_drink_23 (by decide) ?_
    obtain ⟨q991, hq991, hf⟩ := bnd hf
    refine fc_callV (Wa' := (cW G a q991.2)) (st1 := [.int q991.1]) (As := [.int (-1 : Int32)]) (rest := []) hCF (k_X7_refuse a S (-1 : Int32) hq991) (cwV 1 hts gX7_drink_X7_refuse rfl rfl rfl ⟨rfl, dk_X7_refuse⟩ ⟨Nat.le_of_ble_eq_true rfl, Nat.le_of_ble_eq_true rfl⟩) hE hAB hP hD hS [0, 1, 2, 3, 4, 5, 6, 7, 8, 9, 10, 11, 12, 13, 14, 15, 16, 17, 18, 19, 20, 21, 22, 23, 24, 25, 26, 27, 28, 29, 30, 31] cW_d (cW_c G a S) (va_recv hE.1 hP (ci := 4) (q0 := 0) rfl (cW_o G a S)) (cW_f G a S q991.2) (cW_s G a S q991.2) rfl rfl hl.1 rfl (Nat.le_of_ble_eq_true rfl) dX7_drink_24 ⟨Nat.le_refl _, Nat.le_refl _⟩ (fun H locs hP hD hS => ?_)
    exact fc_reti hx hb hr hlocks hP hS dX7_drink_27 (i2a hf) (congrArg (fun z => (cW G a z)) (i2b hf))
  · have hf := ifF hf c990
    refine lv_aload_n hx hb dX7_drink_11 rfl (lv_at hl 0 rfl) ?_
    refine fc_get (v := .ref (a 1)) (ci := 4) (C := RX7) (T := TX7) (N := 8) hx hb hwX7 hown hE hP 0 (cW_o G a S) rfl 0 (by decide) hk_fieldLink_RX7_10__BrideNotKnown___now___LBrideNotKnown_Valley__ (fun _ h => h) rfl dX7_drink_12 ?_
    refine lv_iload_n hx hb dX7_drink_15 rfl (lv_at hl 2 rfl) ?_
    obtain ⟨q992, hq992, hf⟩ := bnd hf
    refine fc_callV (Wa' := (cW G a S)) (st1 := [.int q992]) (As := [.int x2]) (rest := []) hCF (k_X6_hasBride (sh 1 a) (S 0) x2 hq992) (cwV 1 hts gX7_drink_X6_hasBride rfl rfl rfl ⟨rfl, dk_X6_hasBride⟩ ⟨Nat.le_of_ble_eq_true rfl, Nat.le_of_ble_eq_true rfl⟩) hE hAB hP hD hS [1, 2, 3, 4, 5, 6, 7, 8] cW_d0 (cW_c0 G a S) (va_recv hE.1 hP (ci := 3) (q0 := 1) rfl (cW_o0 G a S)) (vW_f G (sh 1 a) (S 0) (S 0)) (cW_i0 G a S) rfl rfl hl.1 rfl (Nat.le_of_ble_eq_true rfl) dX7_drink_16 ⟨Nat.le_refl _, Nat.le_refl _⟩ (fun H locs hP hD hS => ?_)
    refine lv_if_ne (tgt := 28) hx hb dX7_drink_19 (by decide) (fun c993 => ?_) (fun c993 => ?_)
    · have hf := ifF hf c993
      refine lv_iconst (v := (0 : Int32)) hx hb dX7_drink_28 (by decide) ?_
      refine lv_istore_n (lv' := [(3, .int (0 : Int32)), (0, .ref (a 0)), (1, .int x1), (2, .int x2)]) hx hb dX7_drink_29 rfl hl (by decide) rfl (fun ls hl => ?_)
      have L30_995 : ∀ (n : Nat) (x3_994 : Int32) (H : Heap) (locs : List Loc) (ls : Array Slot), va_P (gD G) vwCl (cW G a S) H → va_D A (cW G a S) → va_S A s.heap H locs → lv_has ls 4 [(0, .ref (a 0)), (1, .int x1), (2, .int x2), (3, .int x3_994)] → f_X7_drink_30 S x1 x2 n x3_994 = some (r, S') → W p l e (headSpec wsX7_drink ({ frames := 5, cells := 0, slots := 0, locals := 122 } : Room)).room s m ([.ref (a 0), .int x1, .int x2] : List Value).toArray below meth c H locs 0 0 (MQ below (FQ G A (cW G a S') (some (.int r))) ([.ref (a 0), .int x1, .int x2] : List Value).toArray s 0 0 A) (F0 m 30 ls []) := by
        intro n
        induction n with
        | zero =>
          intro x3_994 H locs ls hP hD hS hl hf
          exact no_some hf
        | succ n ih =>
          intro x3_994 H locs ls hP hD hS hl hf
          rw [f_X7_drink_30] at hf
          refine lv_iload_n hx hb dX7_drink_30 rfl (lv_at hl 3 rfl) ?_
          refine lv_bipush (v := (9 : Int32)) hx hb dX7_drink_31 (by decide) ?_
          refine lv_icmp_gt (tgt := 57) hx hb dX7_drink_33 (by decide) (fun c996 => ?_) (fun c996 => ?_)
          · have hf := ifT hf c996
            refine lv_bipush (v := (-9 : Int32)) hx hb dX7_drink_57 (by decide) ?_
            exact fc_reti hx hb hr hlocks hP hS dX7_drink_59 (i2a hf) (congrArg (fun z => (cW G a z)) (i2b hf))
          · have hf := ifF hf c996
            refine lv_aload_n hx hb dX7_drink_36 rfl (lv_at hl 0 rfl) ?_
            refine fc_get (v := .ref (a 1)) (ci := 4) (C := RX7) (T := TX7) (N := 8) hx hb hwX7 hown hE hP 0 (cW_o G a S) rfl 0 (by decide) hk_fieldLink_RX7_10__BrideNotKnown___now___LBrideNotKnown_Valley__ (fun _ h => h) rfl dX7_drink_37 ?_
            refine lv_iload_n hx hb dX7_drink_40 rfl (lv_at hl 1 rfl) ?_
            refine lv_iload_n hx hb dX7_drink_41 rfl (lv_at hl 3 rfl) ?_
            obtain ⟨q997, hq997, hf⟩ := bnd hf
            refine fc_callV (Wa' := (cW G a S)) (st1 := [.int q997]) (As := [.int x1, .int x3_994]) (rest := []) hCF (k_X6_takenWith (sh 1 a) (S 0) x1 x3_994 hq997) (cwV 2 hts gX7_drink_X6_takenWith rfl rfl rfl ⟨rfl, dk_X6_takenWith⟩ ⟨Nat.le_of_ble_eq_true rfl, Nat.le_of_ble_eq_true rfl⟩) hE hAB hP hD hS [1, 2, 3, 4, 5, 6, 7, 8] cW_d0 (cW_c0 G a S) (va_recv hE.1 hP (ci := 3) (q0 := 1) rfl (cW_o0 G a S)) (vW_f G (sh 1 a) (S 0) (S 0)) (cW_i0 G a S) rfl rfl hl.1 rfl (Nat.le_of_ble_eq_true rfl) dX7_drink_42 ⟨Nat.le_refl _, Nat.le_refl _⟩ (fun H locs hP hD hS => ?_)
            refine lv_iload_n hx hb dX7_drink_45 rfl (lv_at hl 2 rfl) ?_
            refine lv_icmp_ne (tgt := 51) hx hb dX7_drink_46 (by decide) (fun c998 => ?_) (fun c998 => ?_)
            · have hf := ifF hf c998
              refine lv_iinc (v := (x3_994 + (1 : Int32))) (lv' := [(3, .int (x3_994 + (1 : Int32))), (0, .ref (a 0)), (1, .int x1), (2, .int x2)]) hx hb dX7_drink_51 hl (k := 3) rfl rfl (by decide) rfl (fun ls hl => ?_)
              refine lv_goto (tgt := 30) hx hb dX7_drink_54 (by decide) ?_
              exact ih (x3_994 + (1 : Int32)) _ _ _ hP hD hS (lv_sub hl [1, 2, 3, 0] rfl) hf
            · have hf := ifT hf c998
              refine lv_iload_n hx hb dX7_drink_49 rfl (lv_at hl 3 rfl) ?_
              exact fc_reti hx hb hr hlocks hP hS dX7_drink_50 (i2a hf) (congrArg (fun z => (cW G a z)) (i2b hf))
      exact L30_995 FUEL (0 : Int32) _ _ _ hP hD hS (lv_sub hl [1, 2, 3, 0] rfl) hf
    · have hf := ifT hf c993
      refine lv_aload_n hx hb dX7_drink_22 rfl (lv_at hl 0 rfl) ?_
      refine lv_iconst (v := (-1 : Int32)) hx hb dX7_drink_23 (by decide) ?_
      obtain ⟨q999, hq999, hf⟩ := bnd hf
      refine fc_callV (Wa' := (cW G a q999.2)) (st1 := [.int q999.1]) (As := [.int (-1 : Int32)]) (rest := []) hCF (k_X7_refuse a S (-1 : Int32) hq999) (cwV 1 hts gX7_drink_X7_refuse rfl rfl rfl ⟨rfl, dk_X7_refuse⟩ ⟨Nat.le_of_ble_eq_true rfl, Nat.le_of_ble_eq_true rfl⟩) hE hAB hP hD hS [0, 1, 2, 3, 4, 5, 6, 7, 8, 9, 10, 11, 12, 13, 14, 15, 16, 17, 18, 19, 20, 21, 22, 23, 24, 25, 26, 27, 28, 29, 30, 31] cW_d (cW_c G a S) (va_recv hE.1 hP (ci := 4) (q0 := 0) rfl (cW_o G a S)) (cW_f G a S q999.2) (cW_s G a S q999.2) rfl rfl hl.1 rfl (Nat.le_of_ble_eq_true rfl) dX7_drink_24 ⟨Nat.le_refl _, Nat.le_refl _⟩ (fun H locs hP hD hS => ?_)
      exact fc_reti hx hb hr hlocks hP hS dX7_drink_27 (i2a hf) (congrArg (fun z => (cW G a z)) (i2b hf))
theorem dk_X7_drinks : yX7_drinks.cls ≠ "java/lang/invoke/MethodHandle" ∧ yX7_drinks.cls ≠ "java/lang/invoke/VarHandle" ∧ (parseMethodDescriptor yX7_drinks.desc).map (fun d => d.parameters.length) = some 2 := by decide +kernel
theorem iu_X7_drinks_X7 : ∀ w ∈ u_ws RX7 TX7 8, w ∈ wsX7_drinks := by decide +kernel
set_option maxHeartbeats 4000000 in
set_option maxRecDepth 100000 in
theorem k_X7_drinks {l : Launch} {G : Gx} (a : Nat → Nat) (S : (Nat → St)) (x1 : Int32) (x2 : Int32) {r : Int32} {S' : (Nat → St)} (hf : f_X7_drinks S x1 x2 = some (r, S')) : FC l G yX7_drinks wsX7_drinks ({ frames := 2, cells := 0, slots := 0, locals := 45 } : Room) [.ref (a 0), .int x1, .int x2] (cW G a S) (cW G a S') (some (.int r)) := by
  refine fc_head (cc := cX7_drinks) (maxL := 5) (ret := (some .int)) (C := RX7) (lv := [(0, .ref (a 0)), (1, .int x1), (2, .int x2)]) (by decide) rfl rfl (Nat.le_of_ble_eq_true rfl) rfl ?_
  intro p e s m below meth c ls A hx hb hr hml hown hts hlocks hE hP hD hAB hS hl
  have hCF : CallFix p m c cX7_drinks 5 s ([.ref (a 0), .int x1, .int x2] : List Value).toArray wsX7_drinks RX7 := ⟨hx, hb, hml, hown, hts⟩
  have hwX7 : ∀ w ∈ u_ws RX7 TX7 8, w.before ([.ref (a 0), .int x1, .int x2] : List Value).toArray s = true := fun w h => hts w (iu_X7_drinks_X7 w h)
  have hk_fieldLink_RX7_10__BrideNotKnown___now___LBrideNotKnown_Valley__ := hts (.fieldLink RX7 10 "BrideNotKnown" "now" "LBrideNotKnown$Valley;") (List.mem_of_getElem? (i := 1) rfl)
  rw [f_X7_drinks] at hf
  refine lv_aload_n hx hb dX7_drinks_0 rfl (lv_at hl 0 rfl) ?_
  refine fc_get (v := .ref (a 1)) (ci := 4) (C := RX7) (T := TX7) (N := 8) hx hb hwX7 hown hE hP 0 (cW_o G a S) rfl 0 (by decide) hk_fieldLink_RX7_10__BrideNotKnown___now___LBrideNotKnown_Valley__ (fun _ h => h) rfl dX7_drinks_1 ?_
  refine lv_iload_n hx hb dX7_drinks_4 rfl (lv_at hl 1 rfl) ?_
  obtain ⟨q1005, hq1005, hf⟩ := bnd hf
  refine fc_callV (Wa' := (cW G a S)) (st1 := [.int q1005]) (As := [.int x1]) (rest := []) hCF (k_X6_hasGroom (sh 1 a) (S 0) x1 hq1005) (cwV 1 hts gX7_drinks_X6_hasGroom rfl rfl rfl ⟨rfl, dk_X6_hasGroom⟩ ⟨Nat.le_of_ble_eq_true rfl, Nat.le_of_ble_eq_true rfl⟩) hE hAB hP hD hS [1, 2, 3, 4, 5, 6, 7, 8] cW_d0 (cW_c0 G a S) (va_recv hE.1 hP (ci := 3) (q0 := 1) rfl (cW_o0 G a S)) (vW_f G (sh 1 a) (S 0) (S 0)) (cW_i0 G a S) rfl rfl hl.1 rfl (Nat.le_of_ble_eq_true rfl) dX7_drinks_5 ⟨Nat.le_refl _, Nat.le_refl _⟩ (fun H locs hP hD hS => ?_)
  refine lv_iload_n hx hb dX7_drinks_8 rfl (lv_at hl 2 rfl) ?_
  refine lv_iconst (v := (0 : Int32)) hx hb dX7_drinks_9 (by decide) ?_
  refine lv_bipush (v := (9 : Int32)) hx hb dX7_drinks_10 (by decide) ?_
  obtain ⟨q1006, hq1006, hf⟩ := bnd hf
  refine fc_callS (Wa' := (cW G a S)) (st1 := [.int q1006]) (As := [.int q1005, .int x2, .int (0 : Int32), .int (9 : Int32)]) (rest := []) hCF (k_X7_refusalOf q1005 x2 (0 : Int32) (9 : Int32) hq1006) (va_cwS 4 hts gX7_drinks_X7_refusalOf rfl rfl rfl dk_X7_refusalOf ⟨Nat.le_of_ble_eq_true rfl, Nat.le_of_ble_eq_true rfl⟩) hE hAB hP hD hS [] rfl rfl rfl rfl rfl rfl hl.1 rfl (Nat.le_of_ble_eq_true rfl) dX7_drinks_12 ⟨Nat.le_refl _, Nat.le_refl _⟩ (fun H locs hP hD hS => ?_)
  refine lv_istore_n (lv' := [(3, .int q1006), (0, .ref (a 0)), (1, .int x1), (2, .int x2)]) hx hb dX7_drinks_15 rfl hl (by decide) rfl (fun ls hl => ?_)
  refine lv_iload_n hx hb dX7_drinks_16 rfl (lv_at hl 0 rfl) ?_
  refine lv_if_eq (tgt := 26) hx hb dX7_drinks_17 (by decide) (fun c1007 => ?_) (fun c1007 => ?_)
  · have hf := ifT hf c1007
    refine lv_aload_n hx hb dX7_drinks_26 rfl (lv_at hl 1 rfl) ?_
    refine fc_get (v := .ref (a 1)) (ci := 4) (C := RX7) (T := TX7) (N := 8) hx hb hwX7 hown hE hP 0 (cW_o G a S) rfl 0 (by decide) hk_fieldLink_RX7_10__BrideNotKnown___now___LBrideNotKnown_Valley__ (fun _ h => h) rfl dX7_drinks_27 ?_
    refine lv_iload_n hx hb dX7_drinks_30 rfl (lv_at hl 2 rfl) ?_
    obtain ⟨q1008, hq1008, hf⟩ := bnd hf
    refine fc_callV (Wa' := (cW G a S)) (st1 := [.int q1008]) (As := [.int x1]) (rest := []) hCF (k_X6_liquorOf (sh 1 a) (S 0) x1 hq1008) (cwV 1 hts gX7_drinks_X6_liquorOf rfl rfl rfl ⟨rfl, dk_X6_liquorOf⟩ ⟨Nat.le_of_ble_eq_true rfl, Nat.le_of_ble_eq_true rfl⟩) hE hAB hP hD hS [1, 2, 3, 4, 5, 6, 7, 8] cW_d0 (cW_c0 G a S) (va_recv hE.1 hP (ci := 3) (q0 := 1) rfl (cW_o0 G a S)) (vW_f G (sh 1 a) (S 0) (S 0)) (cW_i0 G a S) rfl rfl hl.1 rfl (Nat.le_of_ble_eq_true rfl) dX7_drinks_31 ⟨Nat.le_refl _, Nat.le_refl _⟩ (fun H locs hP hD hS => ?_)
    refine lv_istore (lv' := [(4, .int q1008), (3, .int q1006), (0, .ref (a 0)), (1, .int x1), (2, .int x2)]) hx hb dX7_drinks_34 hl (by decide) rfl (fun ls hl => ?_)
    refine lv_aload_n hx hb dX7_drinks_36 rfl (lv_at hl 2 rfl) ?_
    refine fc_get (v := .ref (a 1)) (ci := 4) (C := RX7) (T := TX7) (N := 8) hx hb hwX7 hown hE hP 0 (cW_o G a S) rfl 0 (by decide) hk_fieldLink_RX7_10__BrideNotKnown___now___LBrideNotKnown_Valley__ (fun _ h => h) rfl dX7_drinks_37 ?_
    refine lv_iload_n hx hb dX7_drinks_40 rfl (lv_at hl 3 rfl) ?_
    refine lv_iload_n hx hb dX7_drinks_41 rfl (lv_at hl 4 rfl) ?_
    obtain ⟨q1009, hq1009, hf⟩ := bnd hf
    refine fc_callV (Wa' := (cW G a (sS S 0 q1009))) (st1 := []) (As := [.int x1, .int x2]) (rest := []) hCF (k_X6_setLiquor (sh 1 a) (S 0) x1 x2 hq1009) (cwV 2 hts gX7_drinks_X6_setLiquor rfl rfl rfl ⟨rfl, dk_X6_setLiquor⟩ ⟨Nat.le_of_ble_eq_true rfl, Nat.le_of_ble_eq_true rfl⟩) hE hAB hP hD hS [1, 2, 3, 4, 5, 6, 7, 8] cW_d0 (cW_c0 G a S) (va_recv hE.1 hP (ci := 3) (q0 := 1) rfl (cW_o0 G a S)) (vW_f G (sh 1 a) (S 0) q1009) (cW_s0 G a S q1009) rfl rfl hl.1 rfl (Nat.le_of_ble_eq_true rfl) dX7_drinks_42 ⟨Nat.le_refl _, Nat.le_refl _⟩ (fun H locs hP hD hS => ?_)
    refine lv_iload hx hb dX7_drinks_45 (lv_at hl 0 rfl) ?_
    exact fc_reti hx hb hr hlocks hP hS dX7_drinks_47 (i2a hf) (congrArg (fun z => (cW G a z)) (i2b hf))
  · have hf := ifF hf c1007
    refine lv_aload_n hx hb dX7_drinks_20 rfl (lv_at hl 1 rfl) ?_
    refine lv_iload_n hx hb dX7_drinks_21 rfl (lv_at hl 0 rfl) ?_
    obtain ⟨q1010, hq1010, hf⟩ := bnd hf
    refine fc_callV (Wa' := (cW G a q1010.2)) (st1 := [.int q1010.1]) (As := [.int q1006]) (rest := []) hCF (k_X7_refuse a S q1006 hq1010) (cwV 1 hts gX7_drinks_X7_refuse rfl rfl rfl ⟨rfl, dk_X7_refuse⟩ ⟨Nat.le_of_ble_eq_true rfl, Nat.le_of_ble_eq_true rfl⟩) hE hAB hP hD hS [0, 1, 2, 3, 4, 5, 6, 7, 8, 9, 10, 11, 12, 13, 14, 15, 16, 17, 18, 19, 20, 21, 22, 23, 24, 25, 26, 27, 28, 29, 30, 31] cW_d (cW_c G a S) (va_recv hE.1 hP (ci := 4) (q0 := 0) rfl (cW_o G a S)) (cW_f G a S q1010.2) (cW_s G a S q1010.2) rfl rfl hl.1 rfl (Nat.le_of_ble_eq_true rfl) dX7_drinks_22 ⟨Nat.le_refl _, Nat.le_refl _⟩ (fun H locs hP hD hS => ?_)
    exact fc_reti hx hb hr hlocks hP hS dX7_drinks_25 (i2a hf) (congrArg (fun z => (cW G a z)) (i2b hf))
theorem dk_X7_forget : yX7_forget.cls ≠ "java/lang/invoke/MethodHandle" ∧ yX7_forget.cls ≠ "java/lang/invoke/VarHandle" ∧ (parseMethodDescriptor yX7_forget.desc).map (fun d => d.parameters.length) = some 1 := by decide +kernel
theorem iu_X7_forget_X7 : ∀ w ∈ u_ws RX7 TX7 8, w ∈ wsX7_forget := by decide +kernel
set_option maxHeartbeats 4000000 in
set_option maxRecDepth 100000 in
theorem k_X7_forget {l : Launch} {G : Gx} (a : Nat → Nat) (S : (Nat → St)) (x1 : Int32) {r : Int32} {S' : (Nat → St)} (hf : f_X7_forget S x1 = some (r, S')) : FC l G yX7_forget wsX7_forget ({ frames := 4, cells := 0, slots := 0, locals := 104 } : Room) [.ref (a 0), .int x1] (cW G a S) (cW G a S') (some (.int r)) := by
  refine fc_head (cc := cX7_forget) (maxL := 2) (ret := (some .int)) (C := RX7) (lv := [(0, .ref (a 0)), (1, .int x1)]) (by decide) rfl rfl (Nat.le_of_ble_eq_true rfl) rfl ?_
  intro p e s m below meth c ls A hx hb hr hml hown hts hlocks hE hP hD hAB hS hl
  have hCF : CallFix p m c cX7_forget 2 s ([.ref (a 0), .int x1] : List Value).toArray wsX7_forget RX7 := ⟨hx, hb, hml, hown, hts⟩
  have hwX7 : ∀ w ∈ u_ws RX7 TX7 8, w.before ([.ref (a 0), .int x1] : List Value).toArray s = true := fun w h => hts w (iu_X7_forget_X7 w h)
  have hk_fieldLink_RX7_10__BrideNotKnown___now___LBrideNotKnown_Valley__ := hts (.fieldLink RX7 10 "BrideNotKnown" "now" "LBrideNotKnown$Valley;") (List.mem_of_getElem? (i := 1) rfl)
  rw [f_X7_forget] at hf
  refine lv_aload_n hx hb dX7_forget_0 rfl (lv_at hl 0 rfl) ?_
  refine fc_get (v := .ref (a 1)) (ci := 4) (C := RX7) (T := TX7) (N := 8) hx hb hwX7 hown hE hP 0 (cW_o G a S) rfl 0 (by decide) hk_fieldLink_RX7_10__BrideNotKnown___now___LBrideNotKnown_Valley__ (fun _ h => h) rfl dX7_forget_1 ?_
  refine lv_iload_n hx hb dX7_forget_4 rfl (lv_at hl 1 rfl) ?_
  obtain ⟨q1016, hq1016, hf⟩ := bnd hf
  refine fc_callV (Wa' := (cW G a S)) (st1 := [.int q1016]) (As := [.int x1]) (rest := []) hCF (k_X6_hasGroom (sh 1 a) (S 0) x1 hq1016) (cwV 1 hts gX7_forget_X6_hasGroom rfl rfl rfl ⟨rfl, dk_X6_hasGroom⟩ ⟨Nat.le_of_ble_eq_true rfl, Nat.le_of_ble_eq_true rfl⟩) hE hAB hP hD hS [1, 2, 3, 4, 5, 6, 7, 8] cW_d0 (cW_c0 G a S) (va_recv hE.1 hP (ci := 3) (q0 := 1) rfl (cW_o0 G a S)) (vW_f G (sh 1 a) (S 0) (S 0)) (cW_i0 G a S) rfl rfl hl.1 rfl (Nat.le_of_ble_eq_true rfl) dX7_forget_5 ⟨Nat.le_refl _, Nat.le_refl _⟩ (fun H locs hP hD hS => ?_)
  refine lv_if_ne (tgt := 17) hx hb dX7_forget_8 (by decide) (fun c1017 => ?_) (fun c1017 => ?_)
  · have hf := ifF hf c1017
    refine lv_aload_n hx hb dX7_forget_17 rfl (lv_at hl 0 rfl) ?_
    refine fc_get (v := .ref (a 1)) (ci := 4) (C := RX7) (T := TX7) (N := 8) hx hb hwX7 hown hE hP 0 (cW_o G a S) rfl 0 (by decide) hk_fieldLink_RX7_10__BrideNotKnown___now___LBrideNotKnown_Valley__ (fun _ h => h) rfl dX7_forget_18 ?_
    refine lv_iload_n hx hb dX7_forget_21 rfl (lv_at hl 1 rfl) ?_
    obtain ⟨q1018, hq1018, hf⟩ := bnd hf
    refine fc_callV (Wa' := (cW G a S)) (st1 := [.int q1018]) (As := [.int x1]) (rest := []) hCF (k_X6_isUnmarried (sh 1 a) (S 0) x1 hq1018) (cwV 1 hts gX7_forget_X6_isUnmarried rfl rfl rfl ⟨rfl, dk_X6_isUnmarried⟩ ⟨Nat.le_of_ble_eq_true rfl, Nat.le_of_ble_eq_true rfl⟩) hE hAB hP hD hS [1, 2, 3, 4, 5, 6, 7, 8] cW_d0 (cW_c0 G a S) (va_recv hE.1 hP (ci := 3) (q0 := 1) rfl (cW_o0 G a S)) (vW_f G (sh 1 a) (S 0) (S 0)) (cW_i0 G a S) rfl rfl hl.1 rfl (Nat.le_of_ble_eq_true rfl) dX7_forget_22 ⟨Nat.le_refl _, Nat.le_refl _⟩ (fun H locs hP hD hS => ?_)
    refine lv_if_ne (tgt := 35) hx hb dX7_forget_25 (by decide) (fun c1019 => ?_) (fun c1019 => ?_)
    · have hf := ifF hf c1019
      refine lv_aload_n hx hb dX7_forget_35 rfl (lv_at hl 0 rfl) ?_
      refine fc_get (v := .ref (a 1)) (ci := 4) (C := RX7) (T := TX7) (N := 8) hx hb hwX7 hown hE hP 0 (cW_o G a S) rfl 0 (by decide) hk_fieldLink_RX7_10__BrideNotKnown___now___LBrideNotKnown_Valley__ (fun _ h => h) rfl dX7_forget_36 ?_
      refine lv_iload_n hx hb dX7_forget_39 rfl (lv_at hl 1 rfl) ?_
      obtain ⟨q1020, hq1020, hf⟩ := bnd hf
      refine fc_callS (Wa' := (cW G a S)) (st1 := [.int q1020]) (As := [.ref (a 1), .int x1]) (rest := []) hCF (k_X0_fewestForgotten (sh 1 a) (S 0) x1 hq1020) (va_cwS 2 hts gX7_forget_X0_fewestForgotten rfl rfl rfl dk_X0_fewestForgotten ⟨Nat.le_of_ble_eq_true rfl, Nat.le_of_ble_eq_true rfl⟩) hE hAB hP hD hS [1, 2, 3, 4, 5, 6, 7, 8] cW_d0 (cW_c0 G a S) (vW_f G (sh 1 a) (S 0) (S 0)) (cW_i0 G a S) rfl rfl hl.1 rfl (Nat.le_of_ble_eq_true rfl) dX7_forget_40 ⟨Nat.le_refl _, Nat.le_refl _⟩ (fun H locs hP hD hS => ?_)
      exact fc_reti hx hb hr hlocks hP hS dX7_forget_43 (i2a hf) (congrArg (fun z => (cW G a z)) (i2b hf))
    · have hf := ifT hf c1019
      refine lv_aload_n hx hb dX7_forget_28 rfl (lv_at hl 0 rfl) ?_
      refine lv_bipush (v := (-3 : Int32)) hx hb dX7_forget_29 (by decide) ?_
      obtain ⟨q1021, hq1021, hf⟩ := bnd hf
      refine fc_callV (Wa' := (cW G a q1021.2)) (st1 := [.int q1021.1]) (As := [.int (-3 : Int32)]) (rest := []) hCF (k_X7_refuse a S (-3 : Int32) hq1021) (cwV 1 hts gX7_forget_X7_refuse rfl rfl rfl ⟨rfl, dk_X7_refuse⟩ ⟨Nat.le_of_ble_eq_true rfl, Nat.le_of_ble_eq_true rfl⟩) hE hAB hP hD hS [0, 1, 2, 3, 4, 5, 6, 7, 8, 9, 10, 11, 12, 13, 14, 15, 16, 17, 18, 19, 20, 21, 22, 23, 24, 25, 26, 27, 28, 29, 30, 31] cW_d (cW_c G a S) (va_recv hE.1 hP (ci := 4) (q0 := 0) rfl (cW_o G a S)) (cW_f G a S q1021.2) (cW_s G a S q1021.2) rfl rfl hl.1 rfl (Nat.le_of_ble_eq_true rfl) dX7_forget_31 ⟨Nat.le_refl _, Nat.le_refl _⟩ (fun H locs hP hD hS => ?_)
      exact fc_reti hx hb hr hlocks hP hS dX7_forget_34 (i2a hf) (congrArg (fun z => (cW G a z)) (i2b hf))
  · have hf := ifT hf c1017
    refine lv_aload_n hx hb dX7_forget_11 rfl (lv_at hl 0 rfl) ?_
    refine lv_iconst (v := (-1 : Int32)) hx hb dX7_forget_12 (by decide) ?_
    obtain ⟨q1022, hq1022, hf⟩ := bnd hf
    refine fc_callV (Wa' := (cW G a q1022.2)) (st1 := [.int q1022.1]) (As := [.int (-1 : Int32)]) (rest := []) hCF (k_X7_refuse a S (-1 : Int32) hq1022) (cwV 1 hts gX7_forget_X7_refuse rfl rfl rfl ⟨rfl, dk_X7_refuse⟩ ⟨Nat.le_of_ble_eq_true rfl, Nat.le_of_ble_eq_true rfl⟩) hE hAB hP hD hS [0, 1, 2, 3, 4, 5, 6, 7, 8, 9, 10, 11, 12, 13, 14, 15, 16, 17, 18, 19, 20, 21, 22, 23, 24, 25, 26, 27, 28, 29, 30, 31] cW_d (cW_c G a S) (va_recv hE.1 hP (ci := 4) (q0 := 0) rfl (cW_o G a S)) (cW_f G a S q1022.2) (cW_s G a S q1022.2) rfl rfl hl.1 rfl (Nat.le_of_ble_eq_true rfl) dX7_forget_13 ⟨Nat.le_refl _, Nat.le_refl _⟩ (fun H locs hP hD hS => ?_)
    exact fc_reti hx hb hr hlocks hP hS dX7_forget_16 (i2a hf) (congrArg (fun z => (cW G a z)) (i2b hf))
