theorem dk_X0_bestAway : yX0_bestAway.cls ≠ "java/lang/invoke/MethodHandle" ∧ yX0_bestAway.cls ≠ "java/lang/invoke/VarHandle" ∧ (parseMethodDescriptor yX0_bestAway.desc).map (fun d => d.parameters.length) = some 2 := by decide +kernel
theorem iu_X0_bestAway_X6 : ∀ w ∈ u_ws RX6 TX6 12, w ∈ wsX0_bestAway := by decide +kernel
set_option maxHeartbeats 4000000 in
set_option maxRecDepth 100000 in
theorem k_X0_bestAway {l : Launch} {G : Gx} (a : Nat → Nat) (v : St) (b : Nat → Nat) (u : St) {r : Int32} {u' : St} (hf : f_X0_bestAway v u = some (r, u')) : FC l G yX0_bestAway wsX0_bestAway ({ frames := 5, cells := 0, slots := 0, locals := 122 } : Room) [.ref (a 0), .ref (b 0)] (vW G a v ++ vW G b u) (vW G a v ++ vW G b u') (some (.int r)) := by
  refine fc_head (cc := cX0_bestAway) (maxL := 6) (ret := (some .int)) (C := RX0) (lv := [(0, .ref (a 0)), (1, .ref (b 0))]) (by decide) rfl rfl (Nat.le_of_ble_eq_true rfl) rfl ?_
  intro p e s m below meth c ls A hx hb hr hml hown hts hlocks hE hP hD hAB hS hl
  have hCF : CallFix p m c cX0_bestAway 6 s ([.ref (a 0), .ref (b 0)] : List Value).toArray wsX0_bestAway RX0 := ⟨hx, hb, hml, hown, hts⟩
  have hwX6 : ∀ w ∈ u_ws RX6 TX6 12, w.before ([.ref (a 0), .ref (b 0)] : List Value).toArray s = true := fun w h => hts w (iu_X0_bestAway_X6 w h)
  have hk_fieldLink_RX0_47__BrideNotKnown_Valley___brideCount___I_ := hts (.fieldLink RX0 47 "BrideNotKnown$Valley" "brideCount" "I") (List.mem_of_getElem? (i := 1) rfl)
  rw [f_X0_bestAway] at hf
  refine lv_aload_n hx hb dX0_bestAway_0 rfl (lv_at hl 0 rfl) ?_
  obtain ⟨q176, hq176, hf⟩ := bnd hf
  refine fc_callV (Wa' := (vW G a v ++ vW G b u)) (st1 := [.int q176]) (As := []) (rest := []) hCF (k_X6_knownBits a v hq176) (cwV 0 hts gX0_bestAway_X6_knownBits rfl rfl rfl ⟨rfl, dk_X6_knownBits⟩ ⟨Nat.le_of_ble_eq_true rfl, Nat.le_of_ble_eq_true rfl⟩) hE hAB hP hD hS [0, 1, 2, 3, 4, 5, 6, 7] (by decide +kernel) (app_c (vW_c G a v)) (va_recv hE.1 hP (ci := 3) (q0 := 0) rfl (get_l (vW_o G a v))) (vW_f G a v v) ((set_q (vW_c G a v)).trans (congrArg (fun z => z ++ vW G b u) (vW_s G a v v))) rfl rfl hl.1 rfl (Nat.le_of_ble_eq_true rfl) dX0_bestAway_1 ⟨Nat.le_refl _, Nat.le_refl _⟩ (fun H locs hP hD hS => ?_)
  obtain ⟨q177, hq177, hf⟩ := bnd hf
  refine fc_callS (Wa' := (vW G a v ++ vW G b u)) (st1 := [.int q177]) (As := [.int q176]) (rest := []) hCF (k_J6_bitCount_0f7a4 q176 hq177) (va_cwS 1 hts gX0_bestAway_J6_bitCount_0f7a4 rfl rfl rfl dk_J6_bitCount_0f7a4 ⟨Nat.le_of_ble_eq_true rfl, Nat.le_of_ble_eq_true rfl⟩) hE hAB hP hD hS [] rfl rfl rfl rfl rfl rfl hl.1 rfl (Nat.le_of_ble_eq_true rfl) dX0_bestAway_4 ⟨Nat.le_refl _, Nat.le_refl _⟩ (fun H locs hP hD hS => ?_)
  refine lv_istore_n (lv' := [(2, .int q177), (0, .ref (a 0)), (1, .ref (b 0))]) hx hb dX0_bestAway_7 rfl hl (by decide) rfl (fun ls hl => ?_)
  refine lv_bipush (v := (-9 : Int32)) hx hb dX0_bestAway_8 (by decide) ?_
  refine lv_istore_n (lv' := [(3, .int (-9 : Int32)), (2, .int q177), (0, .ref (a 0)), (1, .ref (b 0))]) hx hb dX0_bestAway_10 rfl hl (by decide) rfl (fun ls hl => ?_)
  refine lv_iconst (v := (0 : Int32)) hx hb dX0_bestAway_11 (by decide) ?_
  refine lv_istore (lv' := [(4, .int (0 : Int32)), (3, .int (-9 : Int32)), (2, .int q177), (0, .ref (a 0)), (1, .ref (b 0))]) hx hb dX0_bestAway_12 hl (by decide) rfl (fun ls hl => ?_)
  have L14_182 : ∀ (n : Nat) (x2_178 : Int32) (x3_179 : Int32) (x4_180 : Int32) (u_181 : St) (H : Heap) (locs : List Loc) (ls : Array Slot), va_P (gD G) vwCl (vW G a v ++ vW G b u_181) H → va_D A (vW G a v ++ vW G b u_181) → va_S A s.heap H locs → lv_has ls 6 [(0, .ref (a 0)), (1, .ref (b 0)), (2, .int x2_178), (3, .int x3_179), (4, .int x4_180)] → f_X0_bestAway_14 v n x2_178 x3_179 x4_180 u_181 = some (r, u') → W p l e (headSpec wsX0_bestAway ({ frames := 5, cells := 0, slots := 0, locals := 122 } : Room)).room s m ([.ref (a 0), .ref (b 0)] : List Value).toArray below meth c H locs 0 0 (MQ below (FQ G A (vW G a v ++ vW G b u') (some (.int r))) ([.ref (a 0), .ref (b 0)] : List Value).toArray s 0 0 A) (F0 m 14 ls []) := by
    intro n
    induction n with
    | zero =>
      intro x2_178 x3_179 x4_180 u_181 H locs ls hP hD hS hl hf
      exact no_some hf
    | succ n ih =>
      intro x2_178 x3_179 x4_180 u_181 H locs ls hP hD hS hl hf
      rw [f_X0_bestAway_14] at hf
      refine lv_iload hx hb dX0_bestAway_14 (lv_at hl 4 rfl) ?_
      refine lv_aload_n hx hb dX0_bestAway_16 rfl (lv_at hl 0 rfl) ?_
      refine fc_get (v := .int (v 7 1)) (ci := 3) (C := RX6) (T := TX6) (N := 12) hx hb hwX6 hown hE hP 0 (get_l (vW_o G a v)) rfl 1 (by decide) hk_fieldLink_RX0_47__BrideNotKnown_Valley___brideCount___I_ (fun _ h => h) rfl dX0_bestAway_17 ?_
      refine lv_icmp_ge (tgt := 71) hx hb dX0_bestAway_20 (by decide) (fun c183 => ?_) (fun c183 => ?_)
      · have hf := ifT hf c183
        refine lv_iload_n hx hb dX0_bestAway_71 rfl (lv_at hl 3 rfl) ?_
        exact fc_reti hx hb hr hlocks hP hS dX0_bestAway_72 (i2a hf) (congrArg (fun z => (vW G a v ++ vW G b z)) (i2b hf))
      · have hf := ifF hf c183
        refine lv_aload_n hx hb dX0_bestAway_23 rfl (lv_at hl 0 rfl) ?_
        refine lv_iload hx hb dX0_bestAway_24 (lv_at hl 4 rfl) ?_
        obtain ⟨q184, hq184, hf⟩ := bnd hf
        refine fc_callV (Wa' := (vW G a v ++ vW G b u_181)) (st1 := [.int q184]) (As := [.int x4_180]) (rest := []) hCF (k_X6_isHere a v x4_180 hq184) (cwV 1 hts gX0_bestAway_X6_isHere rfl rfl rfl ⟨rfl, dk_X6_isHere⟩ ⟨Nat.le_of_ble_eq_true rfl, Nat.le_of_ble_eq_true rfl⟩) hE hAB hP hD hS [0, 1, 2, 3, 4, 5, 6, 7] (by decide +kernel) (app_c (vW_c G a v)) (va_recv hE.1 hP (ci := 3) (q0 := 0) rfl (get_l (vW_o G a v))) (vW_f G a v v) ((set_q (vW_c G a v)).trans (congrArg (fun z => z ++ vW G b u_181) (vW_s G a v v))) rfl rfl hl.1 rfl (Nat.le_of_ble_eq_true rfl) dX0_bestAway_26 ⟨Nat.le_refl _, Nat.le_refl _⟩ (fun H locs hP hD hS => ?_)
        refine lv_if_eq (tgt := 65) hx hb dX0_bestAway_29 (by decide) (fun c185 => ?_) (fun c185 => ?_)
        · have hf := ifT hf c185
          refine lv_iinc (v := (x4_180 + (1 : Int32))) (lv' := [(4, .int (x4_180 + (1 : Int32))), (0, .ref (a 0)), (1, .ref (b 0)), (2, .int x2_178), (3, .int x3_179)]) hx hb dX0_bestAway_65 hl (k := 4) rfl rfl (by decide) rfl (fun ls hl => ?_)
          refine lv_goto (tgt := 14) hx hb dX0_bestAway_68 (by decide) ?_
          exact ih x2_178 x3_179 (x4_180 + (1 : Int32)) u_181 _ _ _ hP hD hS (lv_sub hl [1, 2, 3, 4, 0] rfl) hf
        · have hf := ifF hf c185
          refine lv_aload_n hx hb dX0_bestAway_32 rfl (lv_at hl 1 rfl) ?_
          refine lv_aload_n hx hb dX0_bestAway_33 rfl (lv_at hl 0 rfl) ?_
          obtain ⟨q186, hq186, hf⟩ := bnd hf
          refine fc_callV (Wa' := (vW G a v ++ vW G b q186)) (st1 := []) (As := [.ref (a 0)]) (rest := []) hCF (k_X6_become b u_181 a v hq186) (cwV 1 hts gX0_bestAway_X6_become rfl rfl rfl ⟨rfl, dk_X6_become⟩ ⟨Nat.le_of_ble_eq_true rfl, Nat.le_of_ble_eq_true rfl⟩) hE hAB hP hD hS [8, 9, 10, 11, 12, 13, 14, 15, 0, 1, 2, 3, 4, 5, 6, 7] (by decide +kernel) (cut_cut (app_r (vW_n G a v) (vW_c G b u_181)) (app_c (vW_c G a v))) (va_recv hE.1 hP (ci := 3) (q0 := 8) rfl (get_r (vW_n G a v) (vW_o G b u_181))) (fst_fst (vW_f G b u_181 q186) (vW_f G a v v)) ((set_set (i1 := [8, 9, 10, 11, 12, 13, 14, 15]) (W1 := (vW G b q186)) (vW_n G b q186).symm).trans ((congrArg (fun z => setAll z _ _) ((set_q (vW_c G a v)).trans (congrArg (fun z => z ++ vW G b u_181) (vW_s G a v v)))).trans ((set_r (vW_n G a v)).trans (congrArg (fun z => vW G a v ++ z) (vW_s G b u_181 q186))))) rfl rfl hl.1 rfl (Nat.le_of_ble_eq_true rfl) dX0_bestAway_34 ⟨Nat.le_refl _, Nat.le_refl _⟩ (fun H locs hP hD hS => ?_)
          refine lv_aload_n hx hb dX0_bestAway_37 rfl (lv_at hl 1 rfl) ?_
          refine lv_iload hx hb dX0_bestAway_38 (lv_at hl 4 rfl) ?_
          refine lv_iconst (v := (1 : Int32)) hx hb dX0_bestAway_40 (by decide) ?_
          obtain ⟨q187, hq187, hf⟩ := bnd hf
          refine fc_callV (Wa' := (vW G a v ++ vW G b q187)) (st1 := []) (As := [.int x4_180, .int (1 : Int32)]) (rest := []) hCF (k_X6_sendHome b q186 x4_180 (1 : Int32) hq187) (cwV 2 hts gX0_bestAway_X6_sendHome rfl rfl rfl ⟨rfl, dk_X6_sendHome⟩ ⟨Nat.le_of_ble_eq_true rfl, Nat.le_of_ble_eq_true rfl⟩) hE hAB hP hD hS [8, 9, 10, 11, 12, 13, 14, 15] (by decide +kernel) (app_r (vW_n G a v) (vW_c G b q186)) (va_recv hE.1 hP (ci := 3) (q0 := 8) rfl (get_r (vW_n G a v) (vW_o G b q186))) (vW_f G b q186 q187) ((set_r (vW_n G a v)).trans (congrArg (fun z => vW G a v ++ z) (vW_s G b q186 q187))) rfl rfl hl.1 rfl (Nat.le_of_ble_eq_true rfl) dX0_bestAway_41 ⟨Nat.le_refl _, Nat.le_refl _⟩ (fun H locs hP hD hS => ?_)
          refine lv_aload_n hx hb dX0_bestAway_44 rfl (lv_at hl 1 rfl) ?_
          obtain ⟨q188, hq188, hf⟩ := bnd hf
          refine fc_callV (Wa' := (vW G a v ++ vW G b q187)) (st1 := [.int q188]) (As := []) (rest := []) hCF (k_X6_knownBits b q187 hq188) (cwV 0 hts gX0_bestAway_X6_knownBits rfl rfl rfl ⟨rfl, dk_X6_knownBits⟩ ⟨Nat.le_of_ble_eq_true rfl, Nat.le_of_ble_eq_true rfl⟩) hE hAB hP hD hS [8, 9, 10, 11, 12, 13, 14, 15] (by decide +kernel) (app_r (vW_n G a v) (vW_c G b q187)) (va_recv hE.1 hP (ci := 3) (q0 := 8) rfl (get_r (vW_n G a v) (vW_o G b q187))) (vW_f G b q187 q187) ((set_r (vW_n G a v)).trans (congrArg (fun z => vW G a v ++ z) (vW_s G b q187 q187))) rfl rfl hl.1 rfl (Nat.le_of_ble_eq_true rfl) dX0_bestAway_45 ⟨Nat.le_refl _, Nat.le_refl _⟩ (fun H locs hP hD hS => ?_)
          obtain ⟨q189, hq189, hf⟩ := bnd hf
          refine fc_callS (Wa' := (vW G a v ++ vW G b q187)) (st1 := [.int q189]) (As := [.int q188]) (rest := []) hCF (k_J6_bitCount_0f7a4 q188 hq189) (va_cwS 1 hts gX0_bestAway_J6_bitCount_0f7a4 rfl rfl rfl dk_J6_bitCount_0f7a4 ⟨Nat.le_of_ble_eq_true rfl, Nat.le_of_ble_eq_true rfl⟩) hE hAB hP hD hS [] rfl rfl rfl rfl rfl rfl hl.1 rfl (Nat.le_of_ble_eq_true rfl) dX0_bestAway_48 ⟨Nat.le_refl _, Nat.le_refl _⟩ (fun H locs hP hD hS => ?_)
          refine lv_istore (lv' := [(5, .int q189), (0, .ref (a 0)), (1, .ref (b 0)), (2, .int x2_178), (3, .int x3_179), (4, .int x4_180)]) hx hb dX0_bestAway_51 hl (by decide) rfl (fun ls hl => ?_)
          refine lv_iload hx hb dX0_bestAway_53 (lv_at hl 0 rfl) ?_
          refine lv_iload_n hx hb dX0_bestAway_55 rfl (lv_at hl 3 rfl) ?_
          refine lv_icmp_ge (tgt := 65) hx hb dX0_bestAway_56 (by decide) (fun c190 => ?_) (fun c190 => ?_)
          · have hf := ifT hf c190
            refine lv_iinc (v := (x4_180 + (1 : Int32))) (lv' := [(4, .int (x4_180 + (1 : Int32))), (5, .int q189), (0, .ref (a 0)), (1, .ref (b 0)), (2, .int x2_178), (3, .int x3_179)]) hx hb dX0_bestAway_65 hl (k := 5) rfl rfl (by decide) rfl (fun ls hl => ?_)
            refine lv_goto (tgt := 14) hx hb dX0_bestAway_68 (by decide) ?_
            exact ih x2_178 x3_179 (x4_180 + (1 : Int32)) q187 _ _ _ hP hD hS (lv_sub hl [2, 3, 4, 5, 0] rfl) hf
          · have hf := ifF hf c190
            refine lv_iload hx hb dX0_bestAway_59 (lv_at hl 0 rfl) ?_
            refine lv_istore_n (lv' := [(2, .int q189), (5, .int q189), (0, .ref (a 0)), (1, .ref (b 0)), (3, .int x3_179), (4, .int x4_180)]) hx hb dX0_bestAway_61 rfl hl (by decide) rfl (fun ls hl => ?_)
            refine lv_iload hx hb dX0_bestAway_62 (lv_at hl 5 rfl) ?_
            refine lv_istore_n (lv' := [(3, .int x4_180), (2, .int q189), (5, .int q189), (0, .ref (a 0)), (1, .ref (b 0)), (4, .int x4_180)]) hx hb dX0_bestAway_64 rfl hl (by decide) rfl (fun ls hl => ?_)
            refine lv_iinc (v := (x4_180 + (1 : Int32))) (lv' := [(4, .int (x4_180 + (1 : Int32))), (3, .int x4_180), (2, .int q189), (5, .int q189), (0, .ref (a 0)), (1, .ref (b 0))]) hx hb dX0_bestAway_65 hl (k := 5) rfl rfl (by decide) rfl (fun ls hl => ?_)
            refine lv_goto (tgt := 14) hx hb dX0_bestAway_68 (by decide) ?_
            exact ih q189 x4_180 (x4_180 + (1 : Int32)) q187 _ _ _ hP hD hS (lv_sub hl [4, 5, 2, 1, 0] rfl) hf
  exact L14_182 FUEL q177 (-9 : Int32) (0 : Int32) u _ _ _ hP hD hS (lv_sub hl [3, 4, 2, 1, 0] rfl) hf
theorem dk_X0_change : yX0_change.cls ≠ "java/lang/invoke/MethodHandle" ∧ yX0_change.cls ≠ "java/lang/invoke/VarHandle" ∧ (parseMethodDescriptor yX0_change.desc).map (fun d => d.parameters.length) = some 6 := by decide +kernel
set_option maxHeartbeats 4000000 in
set_option maxRecDepth 100000 in
theorem k_X0_change {l : Launch} {G : Gx} (a : Nat → Nat) (v : St) (b : Nat → Nat) (u : St) (x2 : Int32) (x3 : Int32) (x4 : Int32) (x5 : Int32) {u' : St} (hf : f_X0_change v u x2 x3 x4 x5 = some u') : FC l G yX0_change wsX0_change ({ frames := 3, cells := 0, slots := 0, locals := 64 } : Room) [.ref (a 0), .ref (b 0), .int x2, .int x3, .int x4, .int x5] (vW G a v ++ vW G b u) (vW G a v ++ vW G b u') none := by
  refine fc_head (cc := cX0_change) (maxL := 6) (ret := none) (C := RX0) (lv := [(0, .ref (a 0)), (1, .ref (b 0)), (2, .int x2), (3, .int x3), (4, .int x4), (5, .int x5)]) (by decide) rfl rfl (Nat.le_of_ble_eq_true rfl) rfl ?_
  intro p e s m below meth c ls A hx hb hr hml hown hts hlocks hE hP hD hAB hS hl
  have hCF : CallFix p m c cX0_change 6 s ([.ref (a 0), .ref (b 0), .int x2, .int x3, .int x4, .int x5] : List Value).toArray wsX0_change RX0 := ⟨hx, hb, hml, hown, hts⟩
  rw [f_X0_change] at hf
  refine lv_aload_n hx hb dX0_change_0 rfl (lv_at hl 1 rfl) ?_
  refine lv_aload_n hx hb dX0_change_1 rfl (lv_at hl 0 rfl) ?_
  obtain ⟨q200, hq200, hf⟩ := bnd hf
  refine fc_callV (Wa' := (vW G a v ++ vW G b q200)) (st1 := []) (As := [.ref (a 0)]) (rest := []) hCF (k_X6_become b u a v hq200) (cwV 1 hts gX0_change_X6_become rfl rfl rfl ⟨rfl, dk_X6_become⟩ ⟨Nat.le_of_ble_eq_true rfl, Nat.le_of_ble_eq_true rfl⟩) hE hAB hP hD hS [8, 9, 10, 11, 12, 13, 14, 15, 0, 1, 2, 3, 4, 5, 6, 7] (by decide +kernel) (cut_cut (app_r (vW_n G a v) (vW_c G b u)) (app_c (vW_c G a v))) (va_recv hE.1 hP (ci := 3) (q0 := 8) rfl (get_r (vW_n G a v) (vW_o G b u))) (fst_fst (vW_f G b u q200) (vW_f G a v v)) ((set_set (i1 := [8, 9, 10, 11, 12, 13, 14, 15]) (W1 := (vW G b q200)) (vW_n G b q200).symm).trans ((congrArg (fun z => setAll z _ _) ((set_q (vW_c G a v)).trans (congrArg (fun z => z ++ vW G b u) (vW_s G a v v)))).trans ((set_r (vW_n G a v)).trans (congrArg (fun z => vW G a v ++ z) (vW_s G b u q200))))) rfl rfl hl.1 rfl (Nat.le_of_ble_eq_true rfl) dX0_change_2 ⟨Nat.le_refl _, Nat.le_refl _⟩ (fun H locs hP hD hS => ?_)
  refine lv_aload_n hx hb dX0_change_5 rfl (lv_at hl 1 rfl) ?_
  refine lv_iload_n hx hb dX0_change_6 rfl (lv_at hl 2 rfl) ?_
  refine lv_iload_n hx hb dX0_change_7 rfl (lv_at hl 3 rfl) ?_
  obtain ⟨q201, hq201, hf⟩ := bnd hf
  refine fc_callV (Wa' := (vW G a v ++ vW G b q201)) (st1 := []) (As := [.int x2, .int x3]) (rest := []) hCF (k_X6_changeToes b q200 x2 x3 hq201) (cwV 2 hts gX0_change_X6_changeToes rfl rfl rfl ⟨rfl, dk_X6_changeToes⟩ ⟨Nat.le_of_ble_eq_true rfl, Nat.le_of_ble_eq_true rfl⟩) hE hAB hP hD hS [8, 9, 10, 11, 12, 13, 14, 15] (by decide +kernel) (app_r (vW_n G a v) (vW_c G b q200)) (va_recv hE.1 hP (ci := 3) (q0 := 8) rfl (get_r (vW_n G a v) (vW_o G b q200))) (vW_f G b q200 q201) ((set_r (vW_n G a v)).trans (congrArg (fun z => vW G a v ++ z) (vW_s G b q200 q201))) rfl rfl hl.1 rfl (Nat.le_of_ble_eq_true rfl) dX0_change_8 ⟨Nat.le_refl _, Nat.le_refl _⟩ (fun H locs hP hD hS => ?_)
  refine lv_aload_n hx hb dX0_change_11 rfl (lv_at hl 1 rfl) ?_
  refine lv_iload hx hb dX0_change_12 (lv_at hl 4 rfl) ?_
  refine lv_iload hx hb dX0_change_14 (lv_at hl 5 rfl) ?_
  obtain ⟨q202, hq202, hf⟩ := bnd hf
  refine fc_callV (Wa' := (vW G a v ++ vW G b q202)) (st1 := []) (As := [.int x4, .int x5]) (rest := []) hCF (k_X6_changeToes b q201 x4 x5 hq202) (cwV 2 hts gX0_change_X6_changeToes rfl rfl rfl ⟨rfl, dk_X6_changeToes⟩ ⟨Nat.le_of_ble_eq_true rfl, Nat.le_of_ble_eq_true rfl⟩) hE hAB hP hD hS [8, 9, 10, 11, 12, 13, 14, 15] (by decide +kernel) (app_r (vW_n G a v) (vW_c G b q201)) (va_recv hE.1 hP (ci := 3) (q0 := 8) rfl (get_r (vW_n G a v) (vW_o G b q201))) (vW_f G b q201 q202) ((set_r (vW_n G a v)).trans (congrArg (fun z => vW G a v ++ z) (vW_s G b q201 q202))) rfl rfl hl.1 rfl (Nat.le_of_ble_eq_true rfl) dX0_change_16 ⟨Nat.le_refl _, Nat.le_refl _⟩ (fun H locs hP hD hS => ?_)
  exact fc_retv hx hb hr hlocks hP hS dX0_change_19 (congrArg (fun z => (vW G a v ++ vW G b z)) (i1 hf))
theorem dk_X0_costOf : yX0_costOf.cls ≠ "java/lang/invoke/MethodHandle" ∧ yX0_costOf.cls ≠ "java/lang/invoke/VarHandle" ∧ (parseMethodDescriptor yX0_costOf.desc).map (fun d => d.parameters.length) = some 2 := by decide +kernel
theorem iu_X0_costOf_X6 : ∀ w ∈ u_ws RX6 TX6 12, w ∈ wsX0_costOf := by decide +kernel
set_option maxHeartbeats 4000000 in
set_option maxRecDepth 100000 in
theorem k_X0_costOf {l : Launch} {G : Gx} (a : Nat → Nat) (v : St) (x1 : Int32) {r : Int32} (hf : f_X0_costOf v x1 = some r) : FC l G yX0_costOf wsX0_costOf ({ frames := 4, cells := 0, slots := 0, locals := 99 } : Room) [.ref (a 0), .int x1] (vW G a v) (vW G a v) (some (.int r)) := by
  refine fc_head (cc := cX0_costOf) (maxL := 5) (ret := (some .int)) (C := RX0) (lv := [(0, .ref (a 0)), (1, .int x1)]) (by decide) rfl rfl (Nat.le_of_ble_eq_true rfl) rfl ?_
  intro p e s m below meth c ls A hx hb hr hml hown hts hlocks hE hP hD hAB hS hl
  have hCF : CallFix p m c cX0_costOf 5 s ([.ref (a 0), .int x1] : List Value).toArray wsX0_costOf RX0 := ⟨hx, hb, hml, hown, hts⟩
  have hwX6 : ∀ w ∈ u_ws RX6 TX6 12, w.before ([.ref (a 0), .int x1] : List Value).toArray s = true := fun w h => hts w (iu_X0_costOf_X6 w h)
  have hk_fieldLink_RX0_68__BrideNotKnown_Valley___groomCount___I_ := hts (.fieldLink RX0 68 "BrideNotKnown$Valley" "groomCount" "I") (List.mem_of_getElem? (i := 1) rfl)
  have hk_initialized_RX7 := hts (.initialized RX7) (List.mem_of_getElem? (i := 9) rfl)
  have hk_static_yX7_onlyOne := hts (.static yX7_onlyOne) (List.mem_of_getElem? (i := 38) rfl)
  have hk_static_yX7_has := hts (.static yX7_has) (List.mem_of_getElem? (i := 8) rfl)
  rw [f_X0_costOf] at hf
  refine lv_iconst (v := (0 : Int32)) hx hb dX0_costOf_0 (by decide) ?_
  refine lv_istore_n (lv' := [(2, .int (0 : Int32)), (0, .ref (a 0)), (1, .int x1)]) hx hb dX0_costOf_1 rfl hl (by decide) rfl (fun ls hl => ?_)
  refine lv_iconst (v := (0 : Int32)) hx hb dX0_costOf_2 (by decide) ?_
  refine lv_istore_n (lv' := [(3, .int (0 : Int32)), (2, .int (0 : Int32)), (0, .ref (a 0)), (1, .int x1)]) hx hb dX0_costOf_3 rfl hl (by decide) rfl (fun ls hl => ?_)
  have L4_217 : ∀ (n : Nat) (x2_215 : Int32) (x3_216 : Int32) (H : Heap) (locs : List Loc) (ls : Array Slot), va_P (gD G) vwCl (vW G a v) H → va_D A (vW G a v) → va_S A s.heap H locs → lv_has ls 5 [(0, .ref (a 0)), (1, .int x1), (2, .int x2_215), (3, .int x3_216)] → f_X0_costOf_4 v x1 n x2_215 x3_216 = some r → W p l e (headSpec wsX0_costOf ({ frames := 4, cells := 0, slots := 0, locals := 99 } : Room)).room s m ([.ref (a 0), .int x1] : List Value).toArray below meth c H locs 0 0 (MQ below (FQ G A (vW G a v) (some (.int r))) ([.ref (a 0), .int x1] : List Value).toArray s 0 0 A) (F0 m 4 ls []) := by
    intro n
    induction n with
    | zero =>
      intro x2_215 x3_216 H locs ls hP hD hS hl hf
      exact no_some hf
    | succ n ih =>
      intro x2_215 x3_216 H locs ls hP hD hS hl hf
      rw [f_X0_costOf_4] at hf
      refine lv_iload_n hx hb dX0_costOf_4 rfl (lv_at hl 3 rfl) ?_
      refine lv_aload_n hx hb dX0_costOf_5 rfl (lv_at hl 0 rfl) ?_
      refine fc_get (v := .int (v 7 3)) (ci := 3) (C := RX6) (T := TX6) (N := 12) hx hb hwX6 hown hE hP 0 (vW_o G a v) rfl 7 (by decide) hk_fieldLink_RX0_68__BrideNotKnown_Valley___groomCount___I_ (fun _ h => h) rfl dX0_costOf_6 ?_
      refine lv_icmp_ge (tgt := 62) hx hb dX0_costOf_9 (by decide) (fun c218 => ?_) (fun c218 => ?_)
      · have hf := ifT hf c218
        refine lv_iload_n hx hb dX0_costOf_62 rfl (lv_at hl 2 rfl) ?_
        exact fc_reti hx hb hr hlocks hP hS dX0_costOf_63 (i1 hf) rfl
      · have hf := ifF hf c218
        refine lv_aload_n hx hb dX0_costOf_12 rfl (lv_at hl 0 rfl) ?_
        refine lv_iload_n hx hb dX0_costOf_13 rfl (lv_at hl 3 rfl) ?_
        obtain ⟨q219, hq219, hf⟩ := bnd hf
        refine fc_callV (Wa' := (vW G a v)) (st1 := [.int q219]) (As := [.int x3_216]) (rest := []) hCF (k_X6_isUnmarried a v x3_216 hq219) (cwV 1 hts gX0_costOf_X6_isUnmarried rfl rfl rfl ⟨rfl, dk_X6_isUnmarried⟩ ⟨Nat.le_of_ble_eq_true rfl, Nat.le_of_ble_eq_true rfl⟩) hE hAB hP hD hS [0, 1, 2, 3, 4, 5, 6, 7] vW_d (vW_c G a v) (va_recv hE.1 hP (ci := 3) (q0 := 0) rfl (vW_o G a v)) (vW_f G a v v) (vW_s G a v v) rfl rfl hl.1 rfl (Nat.le_of_ble_eq_true rfl) dX0_costOf_14 ⟨Nat.le_refl _, Nat.le_refl _⟩ (fun H locs hP hD hS => ?_)
        have J30_221 : ∀ (s0_220 : Int32) (H : Heap) (locs : List Loc) (ls : Array Slot), va_P (gD G) vwCl (vW G a v) H → va_D A (vW G a v) → va_S A s.heap H locs → lv_has ls 5 [(0, .ref (a 0)), (1, .int x1), (2, .int x2_215), (3, .int x3_216)] → f_X0_costOf_30 x1 x2_215 x3_216 s0_220 (fun (x2_222 : Int32) (x3_223 : Int32) => f_X0_costOf_4 v x1 n x2_222 x3_223) = some r → W p l e (headSpec wsX0_costOf ({ frames := 4, cells := 0, slots := 0, locals := 99 } : Room)).room s m ([.ref (a 0), .int x1] : List Value).toArray below meth c H locs 0 0 (MQ below (FQ G A (vW G a v) (some (.int r))) ([.ref (a 0), .int x1] : List Value).toArray s 0 0 A) (F0 m 30 ls [.int s0_220]) := by
          intro s0_220 H locs ls hP hD hS hl hf
          rw [f_X0_costOf_30] at hf
          refine lv_istore (lv' := [(4, .int s0_220), (0, .ref (a 0)), (1, .int x1), (2, .int x2_215), (3, .int x3_216)]) hx hb dX0_costOf_30 hl (by decide) rfl (fun ls hl => ?_)
          refine lv_iload hx hb dX0_costOf_32 (lv_at hl 0 rfl) ?_
          obtain ⟨q224, hq224, hf⟩ := bnd hf
          refine fc_callN (Wa' := (vW G a v)) (st1 := [.int q224]) (As := [.int s0_220]) (rest := []) hCF (k_X7_onlyOne s0_220 hq224) ⟨va_cnB 1 hts gX0_costOf_X7_onlyOne_n39 rfl rfl rfl (hE.2.1 _ (List.mem_of_getElem? (i := 13) rfl)) hk_initialized_RX7 dk_X7_onlyOne ⟨Nat.le_of_ble_eq_true rfl, Nat.le_of_ble_eq_true rfl⟩, hk_static_yX7_onlyOne, trivial⟩ hE hAB hP hD hS [] rfl rfl rfl rfl rfl rfl hl.1 rfl (Nat.le_of_ble_eq_true rfl) dX0_costOf_34 ⟨Nat.le_refl _, Nat.le_refl _⟩ (fun H locs hP hD hS => ?_)
          refine lv_iload_n hx hb dX0_costOf_37 rfl (lv_at hl 2 rfl) ?_
          have J44_226 : ∀ (x2_225 : Int32) (H : Heap) (locs : List Loc) (ls : Array Slot), va_P (gD G) vwCl (vW G a v) H → va_D A (vW G a v) → va_S A s.heap H locs → lv_has ls 5 [(0, .ref (a 0)), (1, .int x1), (2, .int x2_225), (3, .int x3_216), (4, .int s0_220)] → f_X0_costOf_44 x1 x3_216 s0_220 x2_225 (fun (x2_227 : Int32) (x3_228 : Int32) => f_X0_costOf_4 v x1 n x2_227 x3_228) = some r → W p l e (headSpec wsX0_costOf ({ frames := 4, cells := 0, slots := 0, locals := 99 } : Room)).room s m ([.ref (a 0), .int x1] : List Value).toArray below meth c H locs 0 0 (MQ below (FQ G A (vW G a v) (some (.int r))) ([.ref (a 0), .int x1] : List Value).toArray s 0 0 A) (F0 m 44 ls []) := by
            intro x2_225 H locs ls hP hD hS hl hf
            rw [f_X0_costOf_44] at hf
            refine lv_iload hx hb dX0_costOf_44 (lv_at hl 4 rfl) ?_
            refine lv_iload_n hx hb dX0_costOf_46 rfl (lv_at hl 1 rfl) ?_
            obtain ⟨q229, hq229, hf⟩ := bnd hf
            refine fc_callN (Wa' := (vW G a v)) (st1 := [.int q229]) (As := [.int s0_220, .int x1]) (rest := []) hCF (k_X7_has s0_220 x1 hq229) ⟨va_cnB 2 hts gX0_costOf_X7_has_n27 rfl rfl rfl (hE.2.1 _ (List.mem_of_getElem? (i := 12) rfl)) hk_initialized_RX7 dk_X7_has ⟨Nat.le_of_ble_eq_true rfl, Nat.le_of_ble_eq_true rfl⟩, hk_static_yX7_has, trivial⟩ hE hAB hP hD hS [] rfl rfl rfl rfl rfl rfl hl.1 rfl (Nat.le_of_ble_eq_true rfl) dX0_costOf_47 ⟨Nat.le_refl _, Nat.le_refl _⟩ (fun H locs hP hD hS => ?_)
            refine lv_if_eq (tgt := 56) hx hb dX0_costOf_50 (by decide) (fun c230 => ?_) (fun c230 => ?_)
            · have hf := ifT hf c230
              refine lv_iinc (v := (x3_216 + (1 : Int32))) (lv' := [(3, .int (x3_216 + (1 : Int32))), (0, .ref (a 0)), (1, .int x1), (2, .int x2_225), (4, .int s0_220)]) hx hb dX0_costOf_56 hl (k := 3) rfl rfl (by decide) rfl (fun ls hl => ?_)
              refine lv_goto (tgt := 4) hx hb dX0_costOf_59 (by decide) ?_
              exact ih x2_225 (x3_216 + (1 : Int32)) _ _ _ hP hD hS (lv_sub hl [1, 2, 3, 0] rfl) hf
            · have hf := ifF hf c230
              refine lv_iinc (v := (x2_225 + (-1 : Int32))) (lv' := [(2, .int (x2_225 + (-1 : Int32))), (0, .ref (a 0)), (1, .int x1), (3, .int x3_216), (4, .int s0_220)]) hx hb dX0_costOf_53 hl (k := 2) rfl rfl (by decide) rfl (fun ls hl => ?_)
              refine lv_iinc (v := (x3_216 + (1 : Int32))) (lv' := [(3, .int (x3_216 + (1 : Int32))), (2, .int (x2_225 + (-1 : Int32))), (0, .ref (a 0)), (1, .int x1), (4, .int s0_220)]) hx hb dX0_costOf_56 hl (k := 3) rfl rfl (by decide) rfl (fun ls hl => ?_)
              refine lv_goto (tgt := 4) hx hb dX0_costOf_59 (by decide) ?_
              exact ih (x2_225 + (-1 : Int32)) (x3_216 + (1 : Int32)) _ _ _ hP hD hS (lv_sub hl [2, 3, 1, 0] rfl) hf
          refine lv_icmp_ne (tgt := 44) hx hb dX0_costOf_38 (by decide) (fun c231 => ?_) (fun c231 => ?_)
          · have hf := ifF hf c231
            exact J44_226 x2_215 _ _ _ hP hD hS (lv_sub hl [1, 2, 3, 4, 0] rfl) hf
          · have hf := ifT hf c231
            refine lv_iinc (v := (x2_215 + (10 : Int32))) (lv' := [(2, .int (x2_215 + (10 : Int32))), (4, .int s0_220), (0, .ref (a 0)), (1, .int x1), (3, .int x3_216)]) hx hb dX0_costOf_41 hl (k := 3) rfl rfl (by decide) rfl (fun ls hl => ?_)
            exact J44_226 (x2_215 + (10 : Int32)) _ _ _ hP hD hS (lv_sub hl [2, 3, 0, 4, 1] rfl) hf
        refine lv_if_eq (tgt := 29) hx hb dX0_costOf_17 (by decide) (fun c232 => ?_) (fun c232 => ?_)
        · have hf := ifT hf c232
          refine lv_iconst (v := (0 : Int32)) hx hb dX0_costOf_29 (by decide) ?_
          exact J30_221 (0 : Int32) _ _ _ hP hD hS (lv_sub hl [0, 1, 2, 3] rfl) hf
        · have hf := ifF hf c232
          refine lv_aload_n hx hb dX0_costOf_20 rfl (lv_at hl 0 rfl) ?_
          refine lv_iload_n hx hb dX0_costOf_21 rfl (lv_at hl 3 rfl) ?_
          refine lv_iconst (v := (0 : Int32)) hx hb dX0_costOf_22 (by decide) ?_
          obtain ⟨q233, hq233, hf⟩ := bnd hf
          refine fc_callV (Wa' := (vW G a v)) (st1 := [.int q233]) (As := [.int x3_216, .int (0 : Int32)]) (rest := []) hCF (k_X6_guesses a v x3_216 (0 : Int32) hq233) (cwV 2 hts gX0_costOf_X6_guesses rfl rfl rfl ⟨rfl, dk_X6_guesses⟩ ⟨Nat.le_of_ble_eq_true rfl, Nat.le_of_ble_eq_true rfl⟩) hE hAB hP hD hS [0, 1, 2, 3, 4, 5, 6, 7] vW_d (vW_c G a v) (va_recv hE.1 hP (ci := 3) (q0 := 0) rfl (vW_o G a v)) (vW_f G a v v) (vW_s G a v v) rfl rfl hl.1 rfl (Nat.le_of_ble_eq_true rfl) dX0_costOf_23 ⟨Nat.le_refl _, Nat.le_refl _⟩ (fun H locs hP hD hS => ?_)
          refine lv_goto (tgt := 30) hx hb dX0_costOf_26 (by decide) ?_
          exact J30_221 q233 _ _ _ hP hD hS (lv_sub hl [0, 1, 2, 3] rfl) hf
  exact L4_217 FUEL (0 : Int32) (0 : Int32) _ _ _ hP hD hS (lv_sub hl [2, 3, 1, 0] rfl) hf
theorem dk_X0_fewestForgotten : yX0_fewestForgotten.cls ≠ "java/lang/invoke/MethodHandle" ∧ yX0_fewestForgotten.cls ≠ "java/lang/invoke/VarHandle" ∧ (parseMethodDescriptor yX0_fewestForgotten.desc).map (fun d => d.parameters.length) = some 2 := by decide +kernel
set_option maxHeartbeats 4000000 in
set_option maxRecDepth 100000 in
theorem k_X0_fewestForgotten {l : Launch} {G : Gx} (a : Nat → Nat) (v : St) (x1 : Int32) {r : Int32} (hf : f_X0_fewestForgotten v x1 = some r) : FC l G yX0_fewestForgotten wsX0_fewestForgotten ({ frames := 3, cells := 0, slots := 0, locals := 77 } : Room) [.ref (a 0), .int x1] (vW G a v) (vW G a v) (some (.int r)) := by
  refine fc_head (cc := cX0_fewestForgotten) (maxL := 8) (ret := (some .int)) (C := RX0) (lv := [(0, .ref (a 0)), (1, .int x1)]) (by decide) rfl rfl (Nat.le_of_ble_eq_true rfl) rfl ?_
  intro p e s m below meth c ls A hx hb hr hml hown hts hlocks hE hP hD hAB hS hl
  have hCF : CallFix p m c cX0_fewestForgotten 8 s ([.ref (a 0), .int x1] : List Value).toArray wsX0_fewestForgotten RX0 := ⟨hx, hb, hml, hown, hts⟩
  have hk_initialized_RX7 := hts (.initialized RX7) (List.mem_of_getElem? (i := 8) rfl)
  have hk_static_yX7_onlyOne := hts (.static yX7_onlyOne) (List.mem_of_getElem? (i := 32) rfl)
  rw [f_X0_fewestForgotten] at hf
  refine lv_aload_n hx hb dX0_fewestForgotten_0 rfl (lv_at hl 0 rfl) ?_
  refine lv_iload_n hx hb dX0_fewestForgotten_1 rfl (lv_at hl 1 rfl) ?_
  obtain ⟨q241, hq241, hf⟩ := bnd hf
  refine fc_callV (Wa' := (vW G a v)) (st1 := [.int q241]) (As := [.int x1]) (rest := []) hCF (k_X6_lookOf a v x1 hq241) (cwV 1 hts gX0_fewestForgotten_X6_lookOf rfl rfl rfl ⟨rfl, dk_X6_lookOf⟩ ⟨Nat.le_of_ble_eq_true rfl, Nat.le_of_ble_eq_true rfl⟩) hE hAB hP hD hS [0, 1, 2, 3, 4, 5, 6, 7] vW_d (vW_c G a v) (va_recv hE.1 hP (ci := 3) (q0 := 0) rfl (vW_o G a v)) (vW_f G a v v) (vW_s G a v v) rfl rfl hl.1 rfl (Nat.le_of_ble_eq_true rfl) dX0_fewestForgotten_2 ⟨Nat.le_refl _, Nat.le_refl _⟩ (fun H locs hP hD hS => ?_)
  refine lv_istore_n (lv' := [(2, .int q241), (0, .ref (a 0)), (1, .int x1)]) hx hb dX0_fewestForgotten_5 rfl hl (by decide) rfl (fun ls hl => ?_)
  refine fc_gets hx hb hE hAB hS hown (hE.2.1 _ (List.mem_of_getElem? (i := 22) rfl)) dX0_fewestForgotten_6 ?_
  refine lv_astore_n (lv' := [(3, .ref (gT G)), (2, .int q241), (0, .ref (a 0)), (1, .int x1)]) hx hb dX0_fewestForgotten_9 rfl hl (by decide) rfl (fun ls hl => ?_)
  refine lv_aload_n hx hb dX0_fewestForgotten_10 rfl (lv_at hl 0 rfl) ?_
  refine fc_tlen hx hb hE hAB hS dX0_fewestForgotten_11 ?_
  refine lv_istore (lv' := [(4, .int (64 : Int32)), (3, .ref (gT G)), (2, .int q241), (0, .ref (a 0)), (1, .int x1)]) hx hb dX0_fewestForgotten_12 hl (by decide) rfl (fun ls hl => ?_)
  refine lv_iconst (v := (0 : Int32)) hx hb dX0_fewestForgotten_14 (by decide) ?_
  refine lv_istore (lv' := [(5, .int (0 : Int32)), (4, .int (64 : Int32)), (3, .ref (gT G)), (2, .int q241), (0, .ref (a 0)), (1, .int x1)]) hx hb dX0_fewestForgotten_15 hl (by decide) rfl (fun ls hl => ?_)
  have L17_243 : ∀ (n : Nat) (x5_242 : Int32) (H : Heap) (locs : List Loc) (ls : Array Slot), va_P (gD G) vwCl (vW G a v) H → va_D A (vW G a v) → va_S A s.heap H locs → lv_has ls 8 [(0, .ref (a 0)), (1, .int x1), (2, .int q241), (3, .ref (gT G)), (4, .int (64 : Int32)), (5, .int x5_242)] → f_X0_fewestForgotten_17 v x1 q241 (64 : Int32) n x5_242 = some r → W p l e (headSpec wsX0_fewestForgotten ({ frames := 3, cells := 0, slots := 0, locals := 77 } : Room)).room s m ([.ref (a 0), .int x1] : List Value).toArray below meth c H locs 0 0 (MQ below (FQ G A (vW G a v) (some (.int r))) ([.ref (a 0), .int x1] : List Value).toArray s 0 0 A) (F0 m 17 ls []) := by
    intro n
    induction n with
    | zero =>
      intro x5_242 H locs ls hP hD hS hl hf
      exact no_some hf
    | succ n ih =>
      intro x5_242 H locs ls hP hD hS hl hf
      rw [f_X0_fewestForgotten_17] at hf
      refine lv_iload hx hb dX0_fewestForgotten_17 (lv_at hl 5 rfl) ?_
      refine lv_iload hx hb dX0_fewestForgotten_19 (lv_at hl 4 rfl) ?_
      refine lv_icmp_ge (tgt := 80) hx hb dX0_fewestForgotten_21 (by decide) (fun c244 => ?_) (fun c244 => ?_)
      · have hf := ifT hf c244
        refine lv_bipush (v := (-9 : Int32)) hx hb dX0_fewestForgotten_80 (by decide) ?_
        exact fc_reti hx hb hr hlocks hP hS dX0_fewestForgotten_82 (i1 hf) rfl
      · have hf := ifF hf c244
        refine lv_aload_n hx hb dX0_fewestForgotten_24 rfl (lv_at hl 3 rfl) ?_
        refine lv_iload hx hb dX0_fewestForgotten_25 (lv_at hl 5 rfl) ?_
        obtain ⟨c245, hf⟩ := gd_some hf
        refine fc_ti hx hb hE hAB hS (inB_in c245) dX0_fewestForgotten_27 ?_
        refine lv_istore (lv' := [(6, .int (ffT x5_242.toNatClampNeg)), (0, .ref (a 0)), (1, .int x1), (2, .int q241), (3, .ref (gT G)), (4, .int (64 : Int32)), (5, .int x5_242)]) hx hb dX0_fewestForgotten_28 hl (by decide) rfl (fun ls hl => ?_)
        refine lv_iload hx hb dX0_fewestForgotten_30 (lv_at hl 0 rfl) ?_
        refine lv_iload_n hx hb dX0_fewestForgotten_32 rfl (lv_at hl 3 rfl) ?_
        refine lv_iconst (v := (-1 : Int32)) hx hb dX0_fewestForgotten_33 (by decide) ?_
        refine lv_ixor hx hb dX0_fewestForgotten_34 ?_
        refine lv_iand hx hb dX0_fewestForgotten_35 ?_
        have J44_247 : ∀ (s0_246 : Int32) (H : Heap) (locs : List Loc) (ls : Array Slot), va_P (gD G) vwCl (vW G a v) H → va_D A (vW G a v) → va_S A s.heap H locs → lv_has ls 8 [(0, .ref (a 0)), (1, .int x1), (2, .int q241), (3, .ref (gT G)), (4, .int (64 : Int32)), (5, .int x5_242), (6, .int (ffT x5_242.toNatClampNeg))] → f_X0_fewestForgotten_44 v x1 q241 x5_242 (ffT x5_242.toNatClampNeg) s0_246 (fun (x5_248 : Int32) => f_X0_fewestForgotten_17 v x1 q241 (64 : Int32) n x5_248) = some r → W p l e (headSpec wsX0_fewestForgotten ({ frames := 3, cells := 0, slots := 0, locals := 77 } : Room)).room s m ([.ref (a 0), .int x1] : List Value).toArray below meth c H locs 0 0 (MQ below (FQ G A (vW G a v) (some (.int r))) ([.ref (a 0), .int x1] : List Value).toArray s 0 0 A) (F0 m 44 ls [.int s0_246]) := by
          intro s0_246 H locs ls hP hD hS hl hf
          rw [f_X0_fewestForgotten_44] at hf
          refine lv_istore (lv' := [(7, .int s0_246), (0, .ref (a 0)), (1, .int x1), (2, .int q241), (3, .ref (gT G)), (4, .int (64 : Int32)), (5, .int x5_242), (6, .int (ffT x5_242.toNatClampNeg))]) hx hb dX0_fewestForgotten_44 hl (by decide) rfl (fun ls hl => ?_)
          refine lv_iload hx hb dX0_fewestForgotten_46 (lv_at hl 0 rfl) ?_
          refine lv_if_eq (tgt := 74) hx hb dX0_fewestForgotten_48 (by decide) (fun c249 => ?_) (fun c249 => ?_)
          · have hf := ifT hf c249
            refine lv_iinc (v := (x5_242 + (1 : Int32))) (lv' := [(5, .int (x5_242 + (1 : Int32))), (7, .int s0_246), (0, .ref (a 0)), (1, .int x1), (2, .int q241), (3, .ref (gT G)), (4, .int (64 : Int32)), (6, .int (ffT x5_242.toNatClampNeg))]) hx hb dX0_fewestForgotten_74 hl (k := 6) rfl rfl (by decide) rfl (fun ls hl => ?_)
            refine lv_goto (tgt := 17) hx hb dX0_fewestForgotten_77 (by decide) ?_
            exact ih (x5_242 + (1 : Int32)) _ _ _ hP hD hS (lv_sub hl [2, 3, 4, 5, 6, 0] rfl) hf
          · have hf := ifF hf c249
            refine lv_aload_n hx hb dX0_fewestForgotten_51 rfl (lv_at hl 1 rfl) ?_
            refine lv_iload_n hx hb dX0_fewestForgotten_52 rfl (lv_at hl 2 rfl) ?_
            refine lv_iload_n hx hb dX0_fewestForgotten_53 rfl (lv_at hl 3 rfl) ?_
            refine lv_iload hx hb dX0_fewestForgotten_54 (lv_at hl 7 rfl) ?_
            refine lv_iconst (v := (-1 : Int32)) hx hb dX0_fewestForgotten_56 (by decide) ?_
            refine lv_ixor hx hb dX0_fewestForgotten_57 ?_
            refine lv_iand hx hb dX0_fewestForgotten_58 ?_
            refine lv_iconst (v := (0 : Int32)) hx hb dX0_fewestForgotten_59 (by decide) ?_
            obtain ⟨q250, hq250, hf⟩ := bnd hf
            refine fc_callV (Wa' := (vW G a v)) (st1 := [.int q250]) (As := [.int x1, .int (q241 &&& ((ffT x5_242.toNatClampNeg) ^^^ (-1 : Int32))), .int (0 : Int32)]) (rest := []) hCF (k_X6_guessesBy a v x1 (q241 &&& ((ffT x5_242.toNatClampNeg) ^^^ (-1 : Int32))) (0 : Int32) hq250) (cwV 3 hts gX0_fewestForgotten_X6_guessesBy rfl rfl rfl ⟨rfl, dk_X6_guessesBy⟩ ⟨Nat.le_of_ble_eq_true rfl, Nat.le_of_ble_eq_true rfl⟩) hE hAB hP hD hS [0, 1, 2, 3, 4, 5, 6, 7] vW_d (vW_c G a v) (va_recv hE.1 hP (ci := 3) (q0 := 0) rfl (vW_o G a v)) (vW_f G a v v) (vW_s G a v v) rfl rfl hl.1 rfl (Nat.le_of_ble_eq_true rfl) dX0_fewestForgotten_60 ⟨Nat.le_refl _, Nat.le_refl _⟩ (fun H locs hP hD hS => ?_)
            obtain ⟨q251, hq251, hf⟩ := bnd hf
            refine fc_callN (Wa' := (vW G a v)) (st1 := [.int q251]) (As := [.int q250]) (rest := []) hCF (k_X7_onlyOne q250 hq251) ⟨va_cnB 1 hts gX0_fewestForgotten_X7_onlyOne_n39 rfl rfl rfl (hE.2.1 _ (List.mem_of_getElem? (i := 13) rfl)) hk_initialized_RX7 dk_X7_onlyOne ⟨Nat.le_of_ble_eq_true rfl, Nat.le_of_ble_eq_true rfl⟩, hk_static_yX7_onlyOne, trivial⟩ hE hAB hP hD hS [] rfl rfl rfl rfl rfl rfl hl.1 rfl (Nat.le_of_ble_eq_true rfl) dX0_fewestForgotten_63 ⟨Nat.le_refl _, Nat.le_refl _⟩ (fun H locs hP hD hS => ?_)
            refine lv_bipush (v := (-9 : Int32)) hx hb dX0_fewestForgotten_66 (by decide) ?_
            refine lv_icmp_ne (tgt := 74) hx hb dX0_fewestForgotten_68 (by decide) (fun c252 => ?_) (fun c252 => ?_)
            · have hf := ifF hf c252
              refine lv_iinc (v := (x5_242 + (1 : Int32))) (lv' := [(5, .int (x5_242 + (1 : Int32))), (7, .int s0_246), (0, .ref (a 0)), (1, .int x1), (2, .int q241), (3, .ref (gT G)), (4, .int (64 : Int32)), (6, .int (ffT x5_242.toNatClampNeg))]) hx hb dX0_fewestForgotten_74 hl (k := 6) rfl rfl (by decide) rfl (fun ls hl => ?_)
              refine lv_goto (tgt := 17) hx hb dX0_fewestForgotten_77 (by decide) ?_
              exact ih (x5_242 + (1 : Int32)) _ _ _ hP hD hS (lv_sub hl [2, 3, 4, 5, 6, 0] rfl) hf
            · have hf := ifT hf c252
              refine lv_iload hx hb dX0_fewestForgotten_71 (lv_at hl 7 rfl) ?_
              exact fc_reti hx hb hr hlocks hP hS dX0_fewestForgotten_73 (i1 hf) rfl
        refine lv_if_ne (tgt := 43) hx hb dX0_fewestForgotten_36 (by decide) (fun c253 => ?_) (fun c253 => ?_)
        · have hf := ifF hf c253
          refine lv_iconst (v := (0 : Int32)) hx hb dX0_fewestForgotten_43 (by decide) ?_
          exact J44_247 (0 : Int32) _ _ _ hP hD hS (lv_sub hl [1, 2, 3, 4, 5, 6, 0] rfl) hf
        · have hf := ifT hf c253
          refine lv_iconst (v := (1 : Int32)) hx hb dX0_fewestForgotten_39 (by decide) ?_
          refine lv_goto (tgt := 44) hx hb dX0_fewestForgotten_40 (by decide) ?_
          exact J44_247 (1 : Int32) _ _ _ hP hD hS (lv_sub hl [1, 2, 3, 4, 5, 6, 0] rfl) hf
  exact L17_243 FUEL (0 : Int32) _ _ _ hP hD hS (lv_sub hl [4, 5, 3, 2, 1, 0] rfl) hf
theorem dk_X0_fewestToes : yX0_fewestToes.cls ≠ "java/lang/invoke/MethodHandle" ∧ yX0_fewestToes.cls ≠ "java/lang/invoke/VarHandle" ∧ (parseMethodDescriptor yX0_fewestToes.desc).map (fun d => d.parameters.length) = some 3 := by decide +kernel
set_option maxHeartbeats 4000000 in
set_option maxRecDepth 100000 in
theorem k_X0_fewestToes {l : Launch} {G : Gx} (a : Nat → Nat) (v : St) (b : Nat → Nat) (u : St) (x2 : Int32) {r : Int32} {u' : St} (hf : f_X0_fewestToes v u x2 = some (r, u')) : FC l G yX0_fewestToes wsX0_fewestToes ({ frames := 5, cells := 0, slots := 0, locals := 122 } : Room) [.ref (a 0), .ref (b 0), .int x2] (vW G a v ++ vW G b u) (vW G a v ++ vW G b u') (some (.int r)) := by
  refine fc_head (cc := cX0_fewestToes) (maxL := 7) (ret := (some .int)) (C := RX0) (lv := [(0, .ref (a 0)), (1, .ref (b 0)), (2, .int x2)]) (by decide) rfl rfl (Nat.le_of_ble_eq_true rfl) rfl ?_
  intro p e s m below meth c ls A hx hb hr hml hown hts hlocks hE hP hD hAB hS hl
  have hCF : CallFix p m c cX0_fewestToes 7 s ([.ref (a 0), .ref (b 0), .int x2] : List Value).toArray wsX0_fewestToes RX0 := ⟨hx, hb, hml, hown, hts⟩
  have hk_initialized_RX7 := hts (.initialized RX7) (List.mem_of_getElem? (i := 19) rfl)
  have hk_static_yX7_has := hts (.static yX7_has) (List.mem_of_getElem? (i := 41) rfl)
  rw [f_X0_fewestToes] at hf
  refine fc_gets hx hb hE hAB hS hown (hE.2.1 _ (List.mem_of_getElem? (i := 22) rfl)) dX0_fewestToes_0 ?_
  refine lv_astore_n (lv' := [(3, .ref (gT G)), (0, .ref (a 0)), (1, .ref (b 0)), (2, .int x2)]) hx hb dX0_fewestToes_3 rfl hl (by decide) rfl (fun ls hl => ?_)
  refine lv_aload_n hx hb dX0_fewestToes_4 rfl (lv_at hl 0 rfl) ?_
  refine fc_tlen hx hb hE hAB hS dX0_fewestToes_5 ?_
  refine lv_istore (lv' := [(4, .int (64 : Int32)), (3, .ref (gT G)), (0, .ref (a 0)), (1, .ref (b 0)), (2, .int x2)]) hx hb dX0_fewestToes_6 hl (by decide) rfl (fun ls hl => ?_)
  refine lv_iconst (v := (0 : Int32)) hx hb dX0_fewestToes_8 (by decide) ?_
  refine lv_istore (lv' := [(5, .int (0 : Int32)), (4, .int (64 : Int32)), (3, .ref (gT G)), (0, .ref (a 0)), (1, .ref (b 0)), (2, .int x2)]) hx hb dX0_fewestToes_9 hl (by decide) rfl (fun ls hl => ?_)
  have L11_260 : ∀ (n : Nat) (x5_258 : Int32) (u_259 : St) (H : Heap) (locs : List Loc) (ls : Array Slot), va_P (gD G) vwCl (vW G a v ++ vW G b u_259) H → va_D A (vW G a v ++ vW G b u_259) → va_S A s.heap H locs → lv_has ls 7 [(0, .ref (a 0)), (1, .ref (b 0)), (2, .int x2), (3, .ref (gT G)), (4, .int (64 : Int32)), (5, .int x5_258)] → f_X0_fewestToes_11 v x2 (64 : Int32) n x5_258 u_259 = some (r, u') → W p l e (headSpec wsX0_fewestToes ({ frames := 5, cells := 0, slots := 0, locals := 122 } : Room)).room s m ([.ref (a 0), .ref (b 0), .int x2] : List Value).toArray below meth c H locs 0 0 (MQ below (FQ G A (vW G a v ++ vW G b u') (some (.int r))) ([.ref (a 0), .ref (b 0), .int x2] : List Value).toArray s 0 0 A) (F0 m 11 ls []) := by
    intro n
    induction n with
    | zero =>
      intro x5_258 u_259 H locs ls hP hD hS hl hf
      exact no_some hf
    | succ n ih =>
      intro x5_258 u_259 H locs ls hP hD hS hl hf
      rw [f_X0_fewestToes_11] at hf
      refine lv_iload hx hb dX0_fewestToes_11 (lv_at hl 5 rfl) ?_
      refine lv_iload hx hb dX0_fewestToes_13 (lv_at hl 4 rfl) ?_
      refine lv_icmp_ge (tgt := 56) hx hb dX0_fewestToes_15 (by decide) (fun c261 => ?_) (fun c261 => ?_)
      · have hf := ifT hf c261
        refine lv_bipush (v := (-9 : Int32)) hx hb dX0_fewestToes_56 (by decide) ?_
        exact fc_reti hx hb hr hlocks hP hS dX0_fewestToes_58 (i2a hf) (congrArg (fun z => (vW G a v ++ vW G b z)) (i2b hf))
      · have hf := ifF hf c261
        refine lv_aload_n hx hb dX0_fewestToes_18 rfl (lv_at hl 3 rfl) ?_
        refine lv_iload hx hb dX0_fewestToes_19 (lv_at hl 5 rfl) ?_
        obtain ⟨c262, hf⟩ := gd_some hf
        refine fc_ti hx hb hE hAB hS (inB_in c262) dX0_fewestToes_21 ?_
        refine lv_istore (lv' := [(6, .int (ffT x5_258.toNatClampNeg)), (0, .ref (a 0)), (1, .ref (b 0)), (2, .int x2), (3, .ref (gT G)), (4, .int (64 : Int32)), (5, .int x5_258)]) hx hb dX0_fewestToes_22 hl (by decide) rfl (fun ls hl => ?_)
        refine lv_aload_n hx hb dX0_fewestToes_24 rfl (lv_at hl 2 rfl) ?_
        refine lv_aload_n hx hb dX0_fewestToes_25 rfl (lv_at hl 1 rfl) ?_
        obtain ⟨q263, hq263, hf⟩ := bnd hf
        refine fc_callV (Wa' := (vW G a v ++ vW G b q263)) (st1 := []) (As := [.ref (a 0)]) (rest := []) hCF (k_X6_become b u_259 a v hq263) (cwV 1 hts gX0_fewestToes_X6_become rfl rfl rfl ⟨rfl, dk_X6_become⟩ ⟨Nat.le_of_ble_eq_true rfl, Nat.le_of_ble_eq_true rfl⟩) hE hAB hP hD hS [8, 9, 10, 11, 12, 13, 14, 15, 0, 1, 2, 3, 4, 5, 6, 7] (by decide +kernel) (cut_cut (app_r (vW_n G a v) (vW_c G b u_259)) (app_c (vW_c G a v))) (va_recv hE.1 hP (ci := 3) (q0 := 8) rfl (get_r (vW_n G a v) (vW_o G b u_259))) (fst_fst (vW_f G b u_259 q263) (vW_f G a v v)) ((set_set (i1 := [8, 9, 10, 11, 12, 13, 14, 15]) (W1 := (vW G b q263)) (vW_n G b q263).symm).trans ((congrArg (fun z => setAll z _ _) ((set_q (vW_c G a v)).trans (congrArg (fun z => z ++ vW G b u_259) (vW_s G a v v)))).trans ((set_r (vW_n G a v)).trans (congrArg (fun z => vW G a v ++ z) (vW_s G b u_259 q263))))) rfl rfl hl.1 rfl (Nat.le_of_ble_eq_true rfl) dX0_fewestToes_26 ⟨Nat.le_refl _, Nat.le_refl _⟩ (fun H locs hP hD hS => ?_)
        refine lv_aload_n hx hb dX0_fewestToes_29 rfl (lv_at hl 2 rfl) ?_
        refine lv_iload_n hx hb dX0_fewestToes_30 rfl (lv_at hl 3 rfl) ?_
        refine lv_iload hx hb dX0_fewestToes_31 (lv_at hl 0 rfl) ?_
        obtain ⟨q264, hq264, hf⟩ := bnd hf
        refine fc_callV (Wa' := (vW G a v ++ vW G b q264)) (st1 := []) (As := [.int x2, .int (ffT x5_258.toNatClampNeg)]) (rest := []) hCF (k_X6_changeToes b q263 x2 (ffT x5_258.toNatClampNeg) hq264) (cwV 2 hts gX0_fewestToes_X6_changeToes rfl rfl rfl ⟨rfl, dk_X6_changeToes⟩ ⟨Nat.le_of_ble_eq_true rfl, Nat.le_of_ble_eq_true rfl⟩) hE hAB hP hD hS [8, 9, 10, 11, 12, 13, 14, 15] (by decide +kernel) (app_r (vW_n G a v) (vW_c G b q263)) (va_recv hE.1 hP (ci := 3) (q0 := 8) rfl (get_r (vW_n G a v) (vW_o G b q263))) (vW_f G b q263 q264) ((set_r (vW_n G a v)).trans (congrArg (fun z => vW G a v ++ z) (vW_s G b q263 q264))) rfl rfl hl.1 rfl (Nat.le_of_ble_eq_true rfl) dX0_fewestToes_33 ⟨Nat.le_refl _, Nat.le_refl _⟩ (fun H locs hP hD hS => ?_)
        refine lv_aload_n hx hb dX0_fewestToes_36 rfl (lv_at hl 2 rfl) ?_
        obtain ⟨q265, hq265, hf⟩ := bnd hf
        refine fc_callV (Wa' := (vW G a v ++ vW G b q264)) (st1 := [.int q265]) (As := []) (rest := []) hCF (k_X6_knownBits b q264 hq265) (cwV 0 hts gX0_fewestToes_X6_knownBits rfl rfl rfl ⟨rfl, dk_X6_knownBits⟩ ⟨Nat.le_of_ble_eq_true rfl, Nat.le_of_ble_eq_true rfl⟩) hE hAB hP hD hS [8, 9, 10, 11, 12, 13, 14, 15] (by decide +kernel) (app_r (vW_n G a v) (vW_c G b q264)) (va_recv hE.1 hP (ci := 3) (q0 := 8) rfl (get_r (vW_n G a v) (vW_o G b q264))) (vW_f G b q264 q264) ((set_r (vW_n G a v)).trans (congrArg (fun z => vW G a v ++ z) (vW_s G b q264 q264))) rfl rfl hl.1 rfl (Nat.le_of_ble_eq_true rfl) dX0_fewestToes_37 ⟨Nat.le_refl _, Nat.le_refl _⟩ (fun H locs hP hD hS => ?_)
        refine lv_iload_n hx hb dX0_fewestToes_40 rfl (lv_at hl 3 rfl) ?_
        obtain ⟨q266, hq266, hf⟩ := bnd hf
        refine fc_callN (Wa' := (vW G a v ++ vW G b q264)) (st1 := [.int q266]) (As := [.int q265, .int x2]) (rest := []) hCF (k_X7_has q265 x2 hq266) ⟨va_cnB 2 hts gX0_fewestToes_X7_has_n27 rfl rfl rfl (hE.2.1 _ (List.mem_of_getElem? (i := 12) rfl)) hk_initialized_RX7 dk_X7_has ⟨Nat.le_of_ble_eq_true rfl, Nat.le_of_ble_eq_true rfl⟩, hk_static_yX7_has, trivial⟩ hE hAB hP hD hS [] rfl rfl rfl rfl rfl rfl hl.1 rfl (Nat.le_of_ble_eq_true rfl) dX0_fewestToes_41 ⟨Nat.le_refl _, Nat.le_refl _⟩ (fun H locs hP hD hS => ?_)
        refine lv_if_ne (tgt := 50) hx hb dX0_fewestToes_44 (by decide) (fun c267 => ?_) (fun c267 => ?_)
        · have hf := ifF hf c267
          refine lv_iinc (v := (x5_258 + (1 : Int32))) (lv' := [(5, .int (x5_258 + (1 : Int32))), (6, .int (ffT x5_258.toNatClampNeg)), (0, .ref (a 0)), (1, .ref (b 0)), (2, .int x2), (3, .ref (gT G)), (4, .int (64 : Int32))]) hx hb dX0_fewestToes_50 hl (k := 6) rfl rfl (by decide) rfl (fun ls hl => ?_)
          refine lv_goto (tgt := 11) hx hb dX0_fewestToes_53 (by decide) ?_
          exact ih (x5_258 + (1 : Int32)) q264 _ _ _ hP hD hS (lv_sub hl [2, 3, 4, 5, 6, 0] rfl) hf
        · have hf := ifT hf c267
          refine lv_iload hx hb dX0_fewestToes_47 (lv_at hl 0 rfl) ?_
          exact fc_reti hx hb hr hlocks hP hS dX0_fewestToes_49 (i2a hf) (congrArg (fun z => (vW G a v ++ vW G b z)) (i2b hf))
  exact L11_260 FUEL (0 : Int32) u _ _ _ hP hD hS (lv_sub hl [3, 4, 5, 2, 1, 0] rfl) hf
theorem dk_X0_firstRest : yX0_firstRest.cls ≠ "java/lang/invoke/MethodHandle" ∧ yX0_firstRest.cls ≠ "java/lang/invoke/VarHandle" ∧ (parseMethodDescriptor yX0_firstRest.desc).map (fun d => d.parameters.length) = some 4 := by decide +kernel
set_option maxHeartbeats 4000000 in
set_option maxRecDepth 100000 in
theorem k_X0_firstRest {l : Launch} {G : Gx} (a : Nat → Nat) (v : St) (b : Nat → Nat) (u : St) (x2 : Int32) (x3 : Int32) {r : Int32} {u' : St} (hf : f_X0_firstRest v u x2 x3 = some (r, u')) : FC l G yX0_firstRest wsX0_firstRest ({ frames := 5, cells := 0, slots := 0, locals := 123 } : Room) [.ref (a 0), .ref (b 0), .int x2, .int x3] (vW G a v ++ vW G b u) (vW G a v ++ vW G b u') (some (.int r)) := by
  refine fc_head (cc := cX0_firstRest) (maxL := 10) (ret := (some .int)) (C := RX0) (lv := [(0, .ref (a 0)), (1, .ref (b 0)), (2, .int x2), (3, .int x3)]) (by decide) rfl rfl (Nat.le_of_ble_eq_true rfl) rfl ?_
  intro p e s m below meth c ls A hx hb hr hml hown hts hlocks hE hP hD hAB hS hl
  have hCF : CallFix p m c cX0_firstRest 10 s ([.ref (a 0), .ref (b 0), .int x2, .int x3] : List Value).toArray wsX0_firstRest RX0 := ⟨hx, hb, hml, hown, hts⟩
  rw [f_X0_firstRest] at hf
  refine lv_iconst (v := (0 : Int32)) hx hb dX0_firstRest_0 (by decide) ?_
  refine lv_istore (lv' := [(4, .int (0 : Int32)), (0, .ref (a 0)), (1, .ref (b 0)), (2, .int x2), (3, .int x3)]) hx hb dX0_firstRest_1 hl (by decide) rfl (fun ls hl => ?_)
  have L3_282 : ∀ (n : Nat) (x4_280 : Int32) (u_281 : St) (H : Heap) (locs : List Loc) (ls : Array Slot), va_P (gD G) vwCl (vW G a v ++ vW G b u_281) H → va_D A (vW G a v ++ vW G b u_281) → va_S A s.heap H locs → lv_has ls 10 [(0, .ref (a 0)), (1, .ref (b 0)), (2, .int x2), (3, .int x3), (4, .int x4_280)] → f_X0_firstRest_3 v x2 x3 n x4_280 u_281 = some (r, u') → W p l e (headSpec wsX0_firstRest ({ frames := 5, cells := 0, slots := 0, locals := 123 } : Room)).room s m ([.ref (a 0), .ref (b 0), .int x2, .int x3] : List Value).toArray below meth c H locs 0 0 (MQ below (FQ G A (vW G a v ++ vW G b u') (some (.int r))) ([.ref (a 0), .ref (b 0), .int x2, .int x3] : List Value).toArray s 0 0 A) (F0 m 3 ls []) := by
    intro n
    induction n with
    | zero =>
      intro x4_280 u_281 H locs ls hP hD hS hl hf
      exact no_some hf
    | succ n ih =>
      intro x4_280 u_281 H locs ls hP hD hS hl hf
      rw [f_X0_firstRest_3] at hf
      refine lv_iload hx hb dX0_firstRest_3 (lv_at hl 4 rfl) ?_
      refine lv_iconst (v := (1 : Int32)) hx hb dX0_firstRest_5 (by decide) ?_
      refine lv_icmp_gt (tgt := 134) hx hb dX0_firstRest_6 (by decide) (fun c283 => ?_) (fun c283 => ?_)
      · have hf := ifT hf c283
        refine lv_bipush (v := (-9 : Int32)) hx hb dX0_firstRest_134 (by decide) ?_
        exact fc_reti hx hb hr hlocks hP hS dX0_firstRest_136 (i2a hf) (congrArg (fun z => (vW G a v ++ vW G b z)) (i2b hf))
      · have hf := ifF hf c283
        refine lv_iconst (v := (0 : Int32)) hx hb dX0_firstRest_9 (by decide) ?_
        refine lv_istore (lv' := [(5, .int (0 : Int32)), (0, .ref (a 0)), (1, .ref (b 0)), (2, .int x2), (3, .int x3), (4, .int x4_280)]) hx hb dX0_firstRest_10 hl (by decide) rfl (fun ls hl => ?_)
        have L12_286 : ∀ (K12_128 : St → Option (Int32 × St)) (hK12_128 : ∀ (u_287 : St) (H : Heap) (locs : List Loc) (ls : Array Slot), va_P (gD G) vwCl (vW G a v ++ vW G b u_287) H → va_D A (vW G a v ++ vW G b u_287) → va_S A s.heap H locs → lv_has ls 10 [(0, .ref (a 0)), (1, .ref (b 0)), (2, .int x2), (3, .int x3), (4, .int x4_280)] → K12_128 u_287 = some (r, u') → W p l e (headSpec wsX0_firstRest ({ frames := 5, cells := 0, slots := 0, locals := 123 } : Room)).room s m ([.ref (a 0), .ref (b 0), .int x2, .int x3] : List Value).toArray below meth c H locs 0 0 (MQ below (FQ G A (vW G a v ++ vW G b u') (some (.int r))) ([.ref (a 0), .ref (b 0), .int x2, .int x3] : List Value).toArray s 0 0 A) (F0 m 128 ls [])) (n : Nat) (x5_284 : Int32) (u_285 : St) (H : Heap) (locs : List Loc) (ls : Array Slot), va_P (gD G) vwCl (vW G a v ++ vW G b u_285) H → va_D A (vW G a v ++ vW G b u_285) → va_S A s.heap H locs → lv_has ls 10 [(0, .ref (a 0)), (1, .ref (b 0)), (2, .int x2), (3, .int x3), (4, .int x4_280), (5, .int x5_284)] → f_X0_firstRest_12 v x2 x3 x4_280 n x5_284 u_285 K12_128 = some (r, u') → W p l e (headSpec wsX0_firstRest ({ frames := 5, cells := 0, slots := 0, locals := 123 } : Room)).room s m ([.ref (a 0), .ref (b 0), .int x2, .int x3] : List Value).toArray below meth c H locs 0 0 (MQ below (FQ G A (vW G a v ++ vW G b u') (some (.int r))) ([.ref (a 0), .ref (b 0), .int x2, .int x3] : List Value).toArray s 0 0 A) (F0 m 12 ls []) := by
          intro K12_128 hK12_128 n
          induction n with
          | zero =>
            intro x5_284 u_285 H locs ls hP hD hS hl hf
            exact no_some hf
          | succ n ih =>
            intro x5_284 u_285 H locs ls hP hD hS hl hf
            rw [f_X0_firstRest_12] at hf
            refine lv_iload hx hb dX0_firstRest_12 (lv_at hl 5 rfl) ?_
            refine lv_iconst (v := (1 : Int32)) hx hb dX0_firstRest_14 (by decide) ?_
            refine lv_icmp_gt (tgt := 128) hx hb dX0_firstRest_15 (by decide) (fun c288 => ?_) (fun c288 => ?_)
            · have hf := ifT hf c288
              exact hK12_128 u_285 _ _ _ hP hD hS (lv_sub hl [0, 1, 2, 3, 4] rfl) hf
            · have hf := ifF hf c288
              refine lv_aload_n hx hb dX0_firstRest_18 rfl (lv_at hl 0 rfl) ?_
              refine lv_aload_n hx hb dX0_firstRest_19 rfl (lv_at hl 1 rfl) ?_
              refine lv_iload_n hx hb dX0_firstRest_20 rfl (lv_at hl 2 rfl) ?_
              refine lv_iload hx hb dX0_firstRest_21 (lv_at hl 4 rfl) ?_
              refine lv_iload_n hx hb dX0_firstRest_23 rfl (lv_at hl 3 rfl) ?_
              refine lv_iload hx hb dX0_firstRest_24 (lv_at hl 5 rfl) ?_
              obtain ⟨q289, hq289, hf⟩ := bnd hf
              refine fc_callS (Wa' := (vW G a v ++ vW G b q289)) (st1 := []) (As := [.ref (a 0), .ref (b 0), .int x2, .int x4_280, .int x3, .int x5_284]) (rest := []) hCF (k_X0_change a v b u_285 x2 x4_280 x3 x5_284 hq289) (va_cwS 6 hts gX0_firstRest_X0_change rfl rfl rfl dk_X0_change ⟨Nat.le_of_ble_eq_true rfl, Nat.le_of_ble_eq_true rfl⟩) hE hAB hP hD hS [0, 1, 2, 3, 4, 5, 6, 7, 8, 9, 10, 11, 12, 13, 14, 15] (by decide +kernel) (cut_cut (app_c (vW_c G a v)) (app_r (vW_n G a v) (vW_c G b u_285))) (fst_fst (vW_f G a v v) (vW_f G b u_285 q289)) ((set_set (i1 := [0, 1, 2, 3, 4, 5, 6, 7]) (W1 := (vW G a v)) (vW_n G a v).symm).trans ((congrArg (fun z => setAll z _ _) ((set_r (vW_n G a v)).trans (congrArg (fun z => vW G a v ++ z) (vW_s G b u_285 q289)))).trans ((set_q (vW_c G a v)).trans (congrArg (fun z => z ++ vW G b q289) (vW_s G a v v))))) rfl rfl hl.1 rfl (Nat.le_of_ble_eq_true rfl) dX0_firstRest_26 ⟨Nat.le_refl _, Nat.le_refl _⟩ (fun H locs hP hD hS => ?_)
              refine lv_aload_n hx hb dX0_firstRest_29 rfl (lv_at hl 1 rfl) ?_
              refine lv_iload_n hx hb dX0_firstRest_30 rfl (lv_at hl 2 rfl) ?_
              obtain ⟨q290, hq290, hf⟩ := bnd hf
              refine fc_callS (Wa' := (vW G a v ++ vW G b q289)) (st1 := [.int q290]) (As := [.ref (b 0), .int x2]) (rest := []) hCF (k_X0_costOf b q289 x2 hq290) (va_cwS 2 hts gX0_firstRest_X0_costOf rfl rfl rfl dk_X0_costOf ⟨Nat.le_of_ble_eq_true rfl, Nat.le_of_ble_eq_true rfl⟩) hE hAB hP hD hS [8, 9, 10, 11, 12, 13, 14, 15] (by decide +kernel) (app_r (vW_n G a v) (vW_c G b q289)) (vW_f G b q289 q289) ((set_r (vW_n G a v)).trans (congrArg (fun z => vW G a v ++ z) (vW_s G b q289 q289))) rfl rfl hl.1 rfl (Nat.le_of_ble_eq_true rfl) dX0_firstRest_31 ⟨Nat.le_refl _, Nat.le_refl _⟩ (fun H locs hP hD hS => ?_)
              refine lv_istore (lv' := [(6, .int q290), (0, .ref (a 0)), (1, .ref (b 0)), (2, .int x2), (3, .int x3), (4, .int x4_280), (5, .int x5_284)]) hx hb dX0_firstRest_34 hl (by decide) rfl (fun ls hl => ?_)
              refine lv_aload_n hx hb dX0_firstRest_36 rfl (lv_at hl 2 rfl) ?_
              refine lv_iload_n hx hb dX0_firstRest_37 rfl (lv_at hl 4 rfl) ?_
              obtain ⟨q291, hq291, hf⟩ := bnd hf
              refine fc_callS (Wa' := (vW G a v ++ vW G b q289)) (st1 := [.int q291]) (As := [.ref (b 0), .int x3]) (rest := []) hCF (k_X0_costOf b q289 x3 hq291) (va_cwS 2 hts gX0_firstRest_X0_costOf rfl rfl rfl dk_X0_costOf ⟨Nat.le_of_ble_eq_true rfl, Nat.le_of_ble_eq_true rfl⟩) hE hAB hP hD hS [8, 9, 10, 11, 12, 13, 14, 15] (by decide +kernel) (app_r (vW_n G a v) (vW_c G b q289)) (vW_f G b q289 q289) ((set_r (vW_n G a v)).trans (congrArg (fun z => vW G a v ++ z) (vW_s G b q289 q289))) rfl rfl hl.1 rfl (Nat.le_of_ble_eq_true rfl) dX0_firstRest_38 ⟨Nat.le_refl _, Nat.le_refl _⟩ (fun H locs hP hD hS => ?_)
              refine lv_istore (lv' := [(7, .int q291), (6, .int q290), (0, .ref (a 0)), (1, .ref (b 0)), (2, .int x2), (3, .int x3), (4, .int x4_280), (5, .int x5_284)]) hx hb dX0_firstRest_41 hl (by decide) rfl (fun ls hl => ?_)
              refine lv_aload_n hx hb dX0_firstRest_43 rfl (lv_at hl 2 rfl) ?_
              refine lv_aload_n hx hb dX0_firstRest_44 rfl (lv_at hl 3 rfl) ?_
              refine lv_iload_n hx hb dX0_firstRest_45 rfl (lv_at hl 4 rfl) ?_
              refine lv_iconst (v := (1 : Int32)) hx hb dX0_firstRest_46 (by decide) ?_
              refine lv_iload hx hb dX0_firstRest_47 (lv_at hl 6 rfl) ?_
              refine lv_isub hx hb dX0_firstRest_49 ?_
              refine lv_iload_n hx hb dX0_firstRest_50 rfl (lv_at hl 5 rfl) ?_
              refine lv_iload hx hb dX0_firstRest_51 (lv_at hl 7 rfl) ?_
              obtain ⟨q292, hq292, hf⟩ := bnd hf
              refine fc_callS (Wa' := (vW G a v ++ vW G b q292)) (st1 := []) (As := [.ref (a 0), .ref (b 0), .int x2, .int ((1 : Int32) - x4_280), .int x3, .int x5_284]) (rest := []) hCF (k_X0_change a v b q289 x2 ((1 : Int32) - x4_280) x3 x5_284 hq292) (va_cwS 6 hts gX0_firstRest_X0_change rfl rfl rfl dk_X0_change ⟨Nat.le_of_ble_eq_true rfl, Nat.le_of_ble_eq_true rfl⟩) hE hAB hP hD hS [0, 1, 2, 3, 4, 5, 6, 7, 8, 9, 10, 11, 12, 13, 14, 15] (by decide +kernel) (cut_cut (app_c (vW_c G a v)) (app_r (vW_n G a v) (vW_c G b q289))) (fst_fst (vW_f G a v v) (vW_f G b q289 q292)) ((set_set (i1 := [0, 1, 2, 3, 4, 5, 6, 7]) (W1 := (vW G a v)) (vW_n G a v).symm).trans ((congrArg (fun z => setAll z _ _) ((set_r (vW_n G a v)).trans (congrArg (fun z => vW G a v ++ z) (vW_s G b q289 q292)))).trans ((set_q (vW_c G a v)).trans (congrArg (fun z => z ++ vW G b q292) (vW_s G a v v))))) rfl rfl hl.1 rfl (Nat.le_of_ble_eq_true rfl) dX0_firstRest_53 ⟨Nat.le_refl _, Nat.le_refl _⟩ (fun H locs hP hD hS => ?_)
              refine lv_iload hx hb dX0_firstRest_56 (lv_at hl 1 rfl) ?_
              refine lv_aload_n hx hb dX0_firstRest_58 rfl (lv_at hl 3 rfl) ?_
              refine lv_iload_n hx hb dX0_firstRest_59 rfl (lv_at hl 4 rfl) ?_
              obtain ⟨q293, hq293, hf⟩ := bnd hf
              refine fc_callS (Wa' := (vW G a v ++ vW G b q292)) (st1 := [.int q293, .int q290]) (As := [.ref (b 0), .int x2]) (rest := [.int q290]) hCF (k_X0_costOf b q292 x2 hq293) (va_cwS 2 hts gX0_firstRest_X0_costOf rfl rfl rfl dk_X0_costOf ⟨Nat.le_of_ble_eq_true rfl, Nat.le_of_ble_eq_true rfl⟩) hE hAB hP hD hS [8, 9, 10, 11, 12, 13, 14, 15] (by decide +kernel) (app_r (vW_n G a v) (vW_c G b q292)) (vW_f G b q292 q292) ((set_r (vW_n G a v)).trans (congrArg (fun z => vW G a v ++ z) (vW_s G b q292 q292))) rfl rfl hl.1 rfl (Nat.le_of_ble_eq_true rfl) dX0_firstRest_60 ⟨Nat.le_refl _, Nat.le_refl _⟩ (fun H locs hP hD hS => ?_)
              have J71_295 : ∀ (s0_294 : Int32) (H : Heap) (locs : List Loc) (ls : Array Slot), va_P (gD G) vwCl (vW G a v ++ vW G b q292) H → va_D A (vW G a v ++ vW G b q292) → va_S A s.heap H locs → lv_has ls 10 [(0, .ref (a 0)), (1, .ref (b 0)), (2, .int x2), (3, .int x3), (4, .int x4_280), (5, .int x5_284), (7, .int q291)] → f_X0_firstRest_71 v q292 x2 x3 x4_280 x5_284 q291 s0_294 (fun (x5_296 : Int32) (u_297 : St) => f_X0_firstRest_12 v x2 x3 x4_280 n x5_296 u_297 K12_128) = some (r, u') → W p l e (headSpec wsX0_firstRest ({ frames := 5, cells := 0, slots := 0, locals := 123 } : Room)).room s m ([.ref (a 0), .ref (b 0), .int x2, .int x3] : List Value).toArray below meth c H locs 0 0 (MQ below (FQ G A (vW G a v ++ vW G b u') (some (.int r))) ([.ref (a 0), .ref (b 0), .int x2, .int x3] : List Value).toArray s 0 0 A) (F0 m 71 ls [.int s0_294]) := by
                intro s0_294 H locs ls hP hD hS hl hf
                rw [f_X0_firstRest_71] at hf
                refine lv_istore (lv' := [(8, .int s0_294), (0, .ref (a 0)), (1, .ref (b 0)), (2, .int x2), (3, .int x3), (4, .int x4_280), (5, .int x5_284), (7, .int q291)]) hx hb dX0_firstRest_71 hl (by decide) rfl (fun ls hl => ?_)
                refine lv_aload_n hx hb dX0_firstRest_73 rfl (lv_at hl 1 rfl) ?_
                refine lv_aload_n hx hb dX0_firstRest_74 rfl (lv_at hl 2 rfl) ?_
                refine lv_iload_n hx hb dX0_firstRest_75 rfl (lv_at hl 3 rfl) ?_
                refine lv_iload hx hb dX0_firstRest_76 (lv_at hl 5 rfl) ?_
                refine lv_iload_n hx hb dX0_firstRest_78 rfl (lv_at hl 4 rfl) ?_
                refine lv_iconst (v := (1 : Int32)) hx hb dX0_firstRest_79 (by decide) ?_
                refine lv_iload hx hb dX0_firstRest_80 (lv_at hl 6 rfl) ?_
                refine lv_isub hx hb dX0_firstRest_82 ?_
                obtain ⟨q298, hq298, hf⟩ := bnd hf
                refine fc_callS (Wa' := (vW G a v ++ vW G b q298)) (st1 := []) (As := [.ref (a 0), .ref (b 0), .int x2, .int x4_280, .int x3, .int ((1 : Int32) - x5_284)]) (rest := []) hCF (k_X0_change a v b q292 x2 x4_280 x3 ((1 : Int32) - x5_284) hq298) (va_cwS 6 hts gX0_firstRest_X0_change rfl rfl rfl dk_X0_change ⟨Nat.le_of_ble_eq_true rfl, Nat.le_of_ble_eq_true rfl⟩) hE hAB hP hD hS [0, 1, 2, 3, 4, 5, 6, 7, 8, 9, 10, 11, 12, 13, 14, 15] (by decide +kernel) (cut_cut (app_c (vW_c G a v)) (app_r (vW_n G a v) (vW_c G b q292))) (fst_fst (vW_f G a v v) (vW_f G b q292 q298)) ((set_set (i1 := [0, 1, 2, 3, 4, 5, 6, 7]) (W1 := (vW G a v)) (vW_n G a v).symm).trans ((congrArg (fun z => setAll z _ _) ((set_r (vW_n G a v)).trans (congrArg (fun z => vW G a v ++ z) (vW_s G b q292 q298)))).trans ((set_q (vW_c G a v)).trans (congrArg (fun z => z ++ vW G b q298) (vW_s G a v v))))) rfl rfl hl.1 rfl (Nat.le_of_ble_eq_true rfl) dX0_firstRest_83 ⟨Nat.le_refl _, Nat.le_refl _⟩ (fun H locs hP hD hS => ?_)
                refine lv_iload hx hb dX0_firstRest_86 (lv_at hl 7 rfl) ?_
                refine lv_aload_n hx hb dX0_firstRest_88 rfl (lv_at hl 2 rfl) ?_
                refine lv_iload_n hx hb dX0_firstRest_89 rfl (lv_at hl 4 rfl) ?_
                obtain ⟨q299, hq299, hf⟩ := bnd hf
                refine fc_callS (Wa' := (vW G a v ++ vW G b q298)) (st1 := [.int q299, .int q291]) (As := [.ref (b 0), .int x3]) (rest := [.int q291]) hCF (k_X0_costOf b q298 x3 hq299) (va_cwS 2 hts gX0_firstRest_X0_costOf rfl rfl rfl dk_X0_costOf ⟨Nat.le_of_ble_eq_true rfl, Nat.le_of_ble_eq_true rfl⟩) hE hAB hP hD hS [8, 9, 10, 11, 12, 13, 14, 15] (by decide +kernel) (app_r (vW_n G a v) (vW_c G b q298)) (vW_f G b q298 q298) ((set_r (vW_n G a v)).trans (congrArg (fun z => vW G a v ++ z) (vW_s G b q298 q298))) rfl rfl hl.1 rfl (Nat.le_of_ble_eq_true rfl) dX0_firstRest_90 ⟨Nat.le_refl _, Nat.le_refl _⟩ (fun H locs hP hD hS => ?_)
                have J101_301 : ∀ (s0_300 : Int32) (H : Heap) (locs : List Loc) (ls : Array Slot), va_P (gD G) vwCl (vW G a v ++ vW G b q298) H → va_D A (vW G a v ++ vW G b q298) → va_S A s.heap H locs → lv_has ls 10 [(0, .ref (a 0)), (1, .ref (b 0)), (2, .int x2), (3, .int x3), (4, .int x4_280), (5, .int x5_284), (8, .int s0_294)] → f_X0_firstRest_101 q298 x4_280 x5_284 s0_294 s0_300 (fun (x5_302 : Int32) (u_303 : St) => f_X0_firstRest_12 v x2 x3 x4_280 n x5_302 u_303 K12_128) = some (r, u') → W p l e (headSpec wsX0_firstRest ({ frames := 5, cells := 0, slots := 0, locals := 123 } : Room)).room s m ([.ref (a 0), .ref (b 0), .int x2, .int x3] : List Value).toArray below meth c H locs 0 0 (MQ below (FQ G A (vW G a v ++ vW G b u') (some (.int r))) ([.ref (a 0), .ref (b 0), .int x2, .int x3] : List Value).toArray s 0 0 A) (F0 m 101 ls [.int s0_300]) := by
                  intro s0_300 H locs ls hP hD hS hl hf
                  rw [f_X0_firstRest_101] at hf
                  refine lv_istore (lv' := [(9, .int s0_300), (0, .ref (a 0)), (1, .ref (b 0)), (2, .int x2), (3, .int x3), (4, .int x4_280), (5, .int x5_284), (8, .int s0_294)]) hx hb dX0_firstRest_101 hl (by decide) rfl (fun ls hl => ?_)
                  refine lv_iload hx hb dX0_firstRest_103 (lv_at hl 7 rfl) ?_
                  refine lv_if_eq (tgt := 122) hx hb dX0_firstRest_105 (by decide) (fun c304 => ?_) (fun c304 => ?_)
                  · have hf := ifT hf c304
                    refine lv_iinc (v := (x5_284 + (1 : Int32))) (lv' := [(5, .int (x5_284 + (1 : Int32))), (9, .int s0_300), (0, .ref (a 0)), (1, .ref (b 0)), (2, .int x2), (3, .int x3), (4, .int x4_280), (8, .int s0_294)]) hx hb dX0_firstRest_122 hl (k := 6) rfl rfl (by decide) rfl (fun ls hl => ?_)
                    refine lv_goto (tgt := 12) hx hb dX0_firstRest_125 (by decide) ?_
                    exact ih (x5_284 + (1 : Int32)) q298 _ _ _ hP hD hS (lv_sub hl [2, 3, 4, 5, 6, 0] rfl) hf
                  · have hf := ifF hf c304
                    refine lv_iload hx hb dX0_firstRest_108 (lv_at hl 0 rfl) ?_
                    refine lv_if_eq (tgt := 122) hx hb dX0_firstRest_110 (by decide) (fun c305 => ?_) (fun c305 => ?_)
                    · have hf := ifT hf c305
                      refine lv_iinc (v := (x5_284 + (1 : Int32))) (lv' := [(5, .int (x5_284 + (1 : Int32))), (9, .int s0_300), (0, .ref (a 0)), (1, .ref (b 0)), (2, .int x2), (3, .int x3), (4, .int x4_280), (8, .int s0_294)]) hx hb dX0_firstRest_122 hl (k := 6) rfl rfl (by decide) rfl (fun ls hl => ?_)
                      refine lv_goto (tgt := 12) hx hb dX0_firstRest_125 (by decide) ?_
                      exact ih (x5_284 + (1 : Int32)) q298 _ _ _ hP hD hS (lv_sub hl [2, 3, 4, 5, 6, 0] rfl) hf
                    · have hf := ifF hf c305
                      refine lv_bipush (v := (10 : Int32)) hx hb dX0_firstRest_113 (by decide) ?_
                      refine lv_iload hx hb dX0_firstRest_115 (lv_at hl 5 rfl) ?_
                      refine lv_imul hx hb dX0_firstRest_117 ?_
                      refine lv_iload hx hb dX0_firstRest_118 (lv_at hl 6 rfl) ?_
                      refine lv_iadd hx hb dX0_firstRest_120 ?_
                      exact fc_reti hx hb hr hlocks hP hS dX0_firstRest_121 (i2a hf) (congrArg (fun z => (vW G a v ++ vW G b z)) (i2b hf))
                refine lv_icmp_gt (tgt := 100) hx hb dX0_firstRest_93 (by decide) (fun c306 => ?_) (fun c306 => ?_)
                · have hf := ifT hf c306
                  refine lv_iconst (v := (0 : Int32)) hx hb dX0_firstRest_100 (by decide) ?_
                  exact J101_301 (0 : Int32) _ _ _ hP hD hS (lv_sub hl [1, 2, 3, 4, 5, 6, 0] rfl) hf
                · have hf := ifF hf c306
                  refine lv_iconst (v := (1 : Int32)) hx hb dX0_firstRest_96 (by decide) ?_
                  refine lv_goto (tgt := 101) hx hb dX0_firstRest_97 (by decide) ?_
                  exact J101_301 (1 : Int32) _ _ _ hP hD hS (lv_sub hl [1, 2, 3, 4, 5, 6, 0] rfl) hf
              refine lv_icmp_gt (tgt := 70) hx hb dX0_firstRest_63 (by decide) (fun c307 => ?_) (fun c307 => ?_)
              · have hf := ifT hf c307
                refine lv_iconst (v := (0 : Int32)) hx hb dX0_firstRest_70 (by decide) ?_
                exact J71_295 (0 : Int32) _ _ _ hP hD hS (lv_sub hl [2, 3, 4, 5, 6, 7, 0] rfl) hf
              · have hf := ifF hf c307
                refine lv_iconst (v := (1 : Int32)) hx hb dX0_firstRest_66 (by decide) ?_
                refine lv_goto (tgt := 71) hx hb dX0_firstRest_67 (by decide) ?_
                exact J71_295 (1 : Int32) _ _ _ hP hD hS (lv_sub hl [2, 3, 4, 5, 6, 7, 0] rfl) hf
        refine L12_286 _ ?_ FUEL (0 : Int32) u_281 _ _ _ hP hD hS (lv_sub hl [1, 2, 3, 4, 5, 0] rfl) hf
        intro u_308 H locs ls hP hD hS hl hf
        refine lv_iinc (v := (x4_280 + (1 : Int32))) (lv' := [(4, .int (x4_280 + (1 : Int32))), (0, .ref (a 0)), (1, .ref (b 0)), (2, .int x2), (3, .int x3)]) hx hb dX0_firstRest_128 hl (k := 4) rfl rfl (by decide) rfl (fun ls hl => ?_)
        refine lv_goto (tgt := 3) hx hb dX0_firstRest_131 (by decide) ?_
        exact ih (x4_280 + (1 : Int32)) u_308 _ _ _ hP hD hS (lv_sub hl [1, 2, 3, 4, 0] rfl) hf
  exact L3_282 FUEL (0 : Int32) u _ _ _ hP hD hS (lv_sub hl [1, 2, 3, 4, 0] rfl) hf
theorem dk_X1_areAlike : yX1_areAlike.cls ≠ "java/lang/invoke/MethodHandle" ∧ yX1_areAlike.cls ≠ "java/lang/invoke/VarHandle" ∧ (parseMethodDescriptor yX1_areAlike.desc).map (fun d => d.parameters.length) = some 4 := by decide +kernel
set_option maxHeartbeats 4000000 in
set_option maxRecDepth 100000 in
theorem k_X1_areAlike {l : Launch} {G : Gx} (a : Nat → Nat) (v : St) (x1 : Int32) (x2 : Int32) (x3 : Int32) {r : Int32} (hf : f_X1_areAlike v x1 x2 x3 = some r) : FC l G yX1_areAlike wsX1_areAlike ({ frames := 3, cells := 0, slots := 0, locals := 71 } : Room) [.ref (a 0), .int x1, .int x2, .int x3] (vW G a v) (vW G a v) (some (.int r)) := by
  refine fc_head (cc := cX1_areAlike) (maxL := 4) (ret := (some .boolean)) (C := RX1) (lv := [(0, .ref (a 0)), (1, .int x1), (2, .int x2), (3, .int x3)]) (by decide) rfl rfl (Nat.le_of_ble_eq_true rfl) rfl ?_
  intro p e s m below meth c ls A hx hb hr hml hown hts hlocks hE hP hD hAB hS hl
  have hCF : CallFix p m c cX1_areAlike 4 s ([.ref (a 0), .int x1, .int x2, .int x3] : List Value).toArray wsX1_areAlike RX1 := ⟨hx, hb, hml, hown, hts⟩
  rw [f_X1_areAlike] at hf
  refine lv_aload_n hx hb dX1_areAlike_0 rfl (lv_at hl 0 rfl) ?_
  refine lv_iload_n hx hb dX1_areAlike_1 rfl (lv_at hl 1 rfl) ?_
  obtain ⟨q319, hq319, hf⟩ := bnd hf
  refine fc_callV (Wa' := (vW G a v)) (st1 := [.int q319]) (As := [.int x1]) (rest := []) hCF (k_X6_isHere a v x1 hq319) (cwV 1 hts gX1_areAlike_X6_isHere rfl rfl rfl ⟨rfl, dk_X6_isHere⟩ ⟨Nat.le_of_ble_eq_true rfl, Nat.le_of_ble_eq_true rfl⟩) hE hAB hP hD hS [0, 1, 2, 3, 4, 5, 6, 7] vW_d (vW_c G a v) (va_recv hE.1 hP (ci := 3) (q0 := 0) rfl (vW_o G a v)) (vW_f G a v v) (vW_s G a v v) rfl rfl hl.1 rfl (Nat.le_of_ble_eq_true rfl) dX1_areAlike_2 ⟨Nat.le_refl _, Nat.le_refl _⟩ (fun H locs hP hD hS => ?_)
  refine lv_if_eq (tgt := 39) hx hb dX1_areAlike_5 (by decide) (fun c320 => ?_) (fun c320 => ?_)
  · have hf := ifT hf c320
    refine lv_iconst (v := (0 : Int32)) hx hb dX1_areAlike_39 (by decide) ?_
    exact fc_retz hx hb hr hlocks hP hS dX1_areAlike_40 (by decide) (i1 hf) rfl
  · have hf := ifF hf c320
    refine lv_aload_n hx hb dX1_areAlike_8 rfl (lv_at hl 0 rfl) ?_
    refine lv_iload_n hx hb dX1_areAlike_9 rfl (lv_at hl 2 rfl) ?_
    obtain ⟨q321, hq321, hf⟩ := bnd hf
    refine fc_callV (Wa' := (vW G a v)) (st1 := [.int q321]) (As := [.int x2]) (rest := []) hCF (k_X6_isHere a v x2 hq321) (cwV 1 hts gX1_areAlike_X6_isHere rfl rfl rfl ⟨rfl, dk_X6_isHere⟩ ⟨Nat.le_of_ble_eq_true rfl, Nat.le_of_ble_eq_true rfl⟩) hE hAB hP hD hS [0, 1, 2, 3, 4, 5, 6, 7] vW_d (vW_c G a v) (va_recv hE.1 hP (ci := 3) (q0 := 0) rfl (vW_o G a v)) (vW_f G a v v) (vW_s G a v v) rfl rfl hl.1 rfl (Nat.le_of_ble_eq_true rfl) dX1_areAlike_10 ⟨Nat.le_refl _, Nat.le_refl _⟩ (fun H locs hP hD hS => ?_)
    refine lv_if_eq (tgt := 39) hx hb dX1_areAlike_13 (by decide) (fun c322 => ?_) (fun c322 => ?_)
    · have hf := ifT hf c322
      refine lv_iconst (v := (0 : Int32)) hx hb dX1_areAlike_39 (by decide) ?_
      exact fc_retz hx hb hr hlocks hP hS dX1_areAlike_40 (by decide) (i1 hf) rfl
    · have hf := ifF hf c322
      refine lv_aload_n hx hb dX1_areAlike_16 rfl (lv_at hl 0 rfl) ?_
      refine lv_iload_n hx hb dX1_areAlike_17 rfl (lv_at hl 1 rfl) ?_
      refine lv_iconst (v := (0 : Int32)) hx hb dX1_areAlike_18 (by decide) ?_
      obtain ⟨q323, hq323, hf⟩ := bnd hf
      refine fc_callV (Wa' := (vW G a v)) (st1 := [.int q323]) (As := [.int x1, .int (0 : Int32)]) (rest := []) hCF (k_X6_shows a v x1 (0 : Int32) hq323) (cwV 2 hts gX1_areAlike_X6_shows rfl rfl rfl ⟨rfl, dk_X6_shows⟩ ⟨Nat.le_of_ble_eq_true rfl, Nat.le_of_ble_eq_true rfl⟩) hE hAB hP hD hS [0, 1, 2, 3, 4, 5, 6, 7] vW_d (vW_c G a v) (va_recv hE.1 hP (ci := 3) (q0 := 0) rfl (vW_o G a v)) (vW_f G a v v) (vW_s G a v v) rfl rfl hl.1 rfl (Nat.le_of_ble_eq_true rfl) dX1_areAlike_19 ⟨Nat.le_refl _, Nat.le_refl _⟩ (fun H locs hP hD hS => ?_)
      refine lv_iload_n hx hb dX1_areAlike_22 rfl (lv_at hl 3 rfl) ?_
      refine lv_iand hx hb dX1_areAlike_23 ?_
      refine lv_aload_n hx hb dX1_areAlike_24 rfl (lv_at hl 0 rfl) ?_
      refine lv_iload_n hx hb dX1_areAlike_25 rfl (lv_at hl 2 rfl) ?_
      refine lv_iconst (v := (0 : Int32)) hx hb dX1_areAlike_26 (by decide) ?_
      obtain ⟨q324, hq324, hf⟩ := bnd hf
      refine fc_callV (Wa' := (vW G a v)) (st1 := [.int q324, .int (q323 &&& x3)]) (As := [.int x2, .int (0 : Int32)]) (rest := [.int (q323 &&& x3)]) hCF (k_X6_shows a v x2 (0 : Int32) hq324) (cwV 2 hts gX1_areAlike_X6_shows rfl rfl rfl ⟨rfl, dk_X6_shows⟩ ⟨Nat.le_of_ble_eq_true rfl, Nat.le_of_ble_eq_true rfl⟩) hE hAB hP hD hS [0, 1, 2, 3, 4, 5, 6, 7] vW_d (vW_c G a v) (va_recv hE.1 hP (ci := 3) (q0 := 0) rfl (vW_o G a v)) (vW_f G a v v) (vW_s G a v v) rfl rfl hl.1 rfl (Nat.le_of_ble_eq_true rfl) dX1_areAlike_27 ⟨Nat.le_refl _, Nat.le_refl _⟩ (fun H locs hP hD hS => ?_)
      refine lv_iload_n hx hb dX1_areAlike_30 rfl (lv_at hl 3 rfl) ?_
      refine lv_iand hx hb dX1_areAlike_31 ?_
      refine lv_icmp_ne (tgt := 39) hx hb dX1_areAlike_32 (by decide) (fun c325 => ?_) (fun c325 => ?_)
      · have hf := ifF hf c325
        refine lv_iconst (v := (0 : Int32)) hx hb dX1_areAlike_39 (by decide) ?_
        exact fc_retz hx hb hr hlocks hP hS dX1_areAlike_40 (by decide) (i1 hf) rfl
      · have hf := ifT hf c325
        refine lv_iconst (v := (1 : Int32)) hx hb dX1_areAlike_35 (by decide) ?_
        refine lv_goto (tgt := 40) hx hb dX1_areAlike_36 (by decide) ?_
        exact fc_retz hx hb hr hlocks hP hS dX1_areAlike_40 (by decide) (i1 hf) rfl
theorem dk_X1_firstTwoBy : yX1_firstTwoBy.cls ≠ "java/lang/invoke/MethodHandle" ∧ yX1_firstTwoBy.cls ≠ "java/lang/invoke/VarHandle" ∧ (parseMethodDescriptor yX1_firstTwoBy.desc).map (fun d => d.parameters.length) = some 2 := by decide +kernel
theorem iu_X1_firstTwoBy_X6 : ∀ w ∈ u_ws RX6 TX6 12, w ∈ wsX1_firstTwoBy := by decide +kernel
set_option maxHeartbeats 4000000 in
set_option maxRecDepth 100000 in
theorem k_X1_firstTwoBy {l : Launch} {G : Gx} (a : Nat → Nat) (v : St) (x1 : Int32) {r : Int32} (hf : f_X1_firstTwoBy v x1 = some r) : FC l G yX1_firstTwoBy wsX1_firstTwoBy ({ frames := 4, cells := 0, slots := 0, locals := 94 } : Room) [.ref (a 0), .int x1] (vW G a v) (vW G a v) (some (.int r)) := by
  refine fc_head (cc := cX1_firstTwoBy) (maxL := 4) (ret := (some .int)) (C := RX1) (lv := [(0, .ref (a 0)), (1, .int x1)]) (by decide) rfl rfl (Nat.le_of_ble_eq_true rfl) rfl ?_
  intro p e s m below meth c ls A hx hb hr hml hown hts hlocks hE hP hD hAB hS hl
  have hCF : CallFix p m c cX1_firstTwoBy 4 s ([.ref (a 0), .int x1] : List Value).toArray wsX1_firstTwoBy RX1 := ⟨hx, hb, hml, hown, hts⟩
  have hwX6 : ∀ w ∈ u_ws RX6 TX6 12, w.before ([.ref (a 0), .int x1] : List Value).toArray s = true := fun w h => hts w (iu_X1_firstTwoBy_X6 w h)
  have hk_fieldLink_RX1_19__BrideNotKnown_Valley___brideCount___I_ := hts (.fieldLink RX1 19 "BrideNotKnown$Valley" "brideCount" "I") (List.mem_of_getElem? (i := 1) rfl)
  rw [f_X1_firstTwoBy] at hf
  refine lv_iconst (v := (0 : Int32)) hx hb dX1_firstTwoBy_0 (by decide) ?_
  refine lv_istore_n (lv' := [(2, .int (0 : Int32)), (0, .ref (a 0)), (1, .int x1)]) hx hb dX1_firstTwoBy_1 rfl hl (by decide) rfl (fun ls hl => ?_)
  have L2_328 : ∀ (n : Nat) (x2_327 : Int32) (H : Heap) (locs : List Loc) (ls : Array Slot), va_P (gD G) vwCl (vW G a v) H → va_D A (vW G a v) → va_S A s.heap H locs → lv_has ls 4 [(0, .ref (a 0)), (1, .int x1), (2, .int x2_327)] → f_X1_firstTwoBy_2 v x1 n x2_327 = some r → W p l e (headSpec wsX1_firstTwoBy ({ frames := 4, cells := 0, slots := 0, locals := 94 } : Room)).room s m ([.ref (a 0), .int x1] : List Value).toArray below meth c H locs 0 0 (MQ below (FQ G A (vW G a v) (some (.int r))) ([.ref (a 0), .int x1] : List Value).toArray s 0 0 A) (F0 m 2 ls []) := by
    intro n
    induction n with
    | zero =>
      intro x2_327 H locs ls hP hD hS hl hf
      exact no_some hf
    | succ n ih =>
      intro x2_327 H locs ls hP hD hS hl hf
      rw [f_X1_firstTwoBy_2] at hf
      refine lv_iload_n hx hb dX1_firstTwoBy_2 rfl (lv_at hl 2 rfl) ?_
      refine lv_aload_n hx hb dX1_firstTwoBy_3 rfl (lv_at hl 0 rfl) ?_
      refine fc_get (v := .int (v 7 1)) (ci := 3) (C := RX6) (T := TX6) (N := 12) hx hb hwX6 hown hE hP 0 (vW_o G a v) rfl 1 (by decide) hk_fieldLink_RX1_19__BrideNotKnown_Valley___brideCount___I_ (fun _ h => h) rfl dX1_firstTwoBy_4 ?_
      refine lv_icmp_ge (tgt := 51) hx hb dX1_firstTwoBy_7 (by decide) (fun c329 => ?_) (fun c329 => ?_)
      · have hf := ifT hf c329
        refine lv_bipush (v := (-9 : Int32)) hx hb dX1_firstTwoBy_51 (by decide) ?_
        exact fc_reti hx hb hr hlocks hP hS dX1_firstTwoBy_53 (i1 hf) rfl
      · have hf := ifF hf c329
        refine lv_iload_n hx hb dX1_firstTwoBy_10 rfl (lv_at hl 2 rfl) ?_
        refine lv_iconst (v := (1 : Int32)) hx hb dX1_firstTwoBy_11 (by decide) ?_
        refine lv_iadd hx hb dX1_firstTwoBy_12 ?_
        refine lv_istore_n (lv' := [(3, .int (x2_327 + (1 : Int32))), (0, .ref (a 0)), (1, .int x1), (2, .int x2_327)]) hx hb dX1_firstTwoBy_13 rfl hl (by decide) rfl (fun ls hl => ?_)
        have L14_331 : ∀ (K14_45 : Unit → Option (Int32)) (hK14_45 : ∀ (H : Heap) (locs : List Loc) (ls : Array Slot), va_P (gD G) vwCl (vW G a v) H → va_D A (vW G a v) → va_S A s.heap H locs → lv_has ls 4 [(0, .ref (a 0)), (1, .int x1), (2, .int x2_327)] → K14_45 () = some r → W p l e (headSpec wsX1_firstTwoBy ({ frames := 4, cells := 0, slots := 0, locals := 94 } : Room)).room s m ([.ref (a 0), .int x1] : List Value).toArray below meth c H locs 0 0 (MQ below (FQ G A (vW G a v) (some (.int r))) ([.ref (a 0), .int x1] : List Value).toArray s 0 0 A) (F0 m 45 ls [])) (n : Nat) (x3_330 : Int32) (H : Heap) (locs : List Loc) (ls : Array Slot), va_P (gD G) vwCl (vW G a v) H → va_D A (vW G a v) → va_S A s.heap H locs → lv_has ls 4 [(0, .ref (a 0)), (1, .int x1), (2, .int x2_327), (3, .int x3_330)] → f_X1_firstTwoBy_14 v x1 x2_327 n x3_330 K14_45 = some r → W p l e (headSpec wsX1_firstTwoBy ({ frames := 4, cells := 0, slots := 0, locals := 94 } : Room)).room s m ([.ref (a 0), .int x1] : List Value).toArray below meth c H locs 0 0 (MQ below (FQ G A (vW G a v) (some (.int r))) ([.ref (a 0), .int x1] : List Value).toArray s 0 0 A) (F0 m 14 ls []) := by
          intro K14_45 hK14_45 n
          induction n with
          | zero =>
            intro x3_330 H locs ls hP hD hS hl hf
            exact no_some hf
          | succ n ih =>
            intro x3_330 H locs ls hP hD hS hl hf
            rw [f_X1_firstTwoBy_14] at hf
            refine lv_iload_n hx hb dX1_firstTwoBy_14 rfl (lv_at hl 3 rfl) ?_
            refine lv_aload_n hx hb dX1_firstTwoBy_15 rfl (lv_at hl 0 rfl) ?_
            refine fc_get (v := .int (v 7 1)) (ci := 3) (C := RX6) (T := TX6) (N := 12) hx hb hwX6 hown hE hP 0 (vW_o G a v) rfl 1 (by decide) hk_fieldLink_RX1_19__BrideNotKnown_Valley___brideCount___I_ (fun _ h => h) rfl dX1_firstTwoBy_16 ?_
            refine lv_icmp_ge (tgt := 45) hx hb dX1_firstTwoBy_19 (by decide) (fun c332 => ?_) (fun c332 => ?_)
            · have hf := ifT hf c332
              exact hK14_45 _ _ _ hP hD hS (lv_sub hl [0, 1, 2] rfl) hf
            · have hf := ifF hf c332
              refine lv_aload_n hx hb dX1_firstTwoBy_22 rfl (lv_at hl 0 rfl) ?_
              refine lv_iload_n hx hb dX1_firstTwoBy_23 rfl (lv_at hl 2 rfl) ?_
              refine lv_iload_n hx hb dX1_firstTwoBy_24 rfl (lv_at hl 3 rfl) ?_
              refine lv_iload_n hx hb dX1_firstTwoBy_25 rfl (lv_at hl 1 rfl) ?_
              obtain ⟨q333, hq333, hf⟩ := bnd hf
              refine fc_callS (Wa' := (vW G a v)) (st1 := [.int q333]) (As := [.ref (a 0), .int x2_327, .int x3_330, .int x1]) (rest := []) hCF (k_X1_areAlike a v x2_327 x3_330 x1 hq333) (va_cwS 4 hts gX1_firstTwoBy_X1_areAlike rfl rfl rfl dk_X1_areAlike ⟨Nat.le_of_ble_eq_true rfl, Nat.le_of_ble_eq_true rfl⟩) hE hAB hP hD hS [0, 1, 2, 3, 4, 5, 6, 7] vW_d (vW_c G a v) (vW_f G a v v) (vW_s G a v v) rfl rfl hl.1 rfl (Nat.le_of_ble_eq_true rfl) dX1_firstTwoBy_26 ⟨Nat.le_refl _, Nat.le_refl _⟩ (fun H locs hP hD hS => ?_)
              refine lv_if_eq (tgt := 39) hx hb dX1_firstTwoBy_29 (by decide) (fun c334 => ?_) (fun c334 => ?_)
              · have hf := ifT hf c334
                refine lv_iinc (v := (x3_330 + (1 : Int32))) (lv' := [(3, .int (x3_330 + (1 : Int32))), (0, .ref (a 0)), (1, .int x1), (2, .int x2_327)]) hx hb dX1_firstTwoBy_39 hl (k := 3) rfl rfl (by decide) rfl (fun ls hl => ?_)
                refine lv_goto (tgt := 14) hx hb dX1_firstTwoBy_42 (by decide) ?_
                exact ih (x3_330 + (1 : Int32)) _ _ _ hP hD hS (lv_sub hl [1, 2, 3, 0] rfl) hf
              · have hf := ifF hf c334
                refine lv_bipush (v := (10 : Int32)) hx hb dX1_firstTwoBy_32 (by decide) ?_
                refine lv_iload_n hx hb dX1_firstTwoBy_34 rfl (lv_at hl 2 rfl) ?_
                refine lv_imul hx hb dX1_firstTwoBy_35 ?_
                refine lv_iload_n hx hb dX1_firstTwoBy_36 rfl (lv_at hl 3 rfl) ?_
                refine lv_iadd hx hb dX1_firstTwoBy_37 ?_
                exact fc_reti hx hb hr hlocks hP hS dX1_firstTwoBy_38 (i1 hf) rfl
        refine L14_331 _ ?_ FUEL (x2_327 + (1 : Int32)) _ _ _ hP hD hS (lv_sub hl [1, 2, 3, 0] rfl) hf
        intro H locs ls hP hD hS hl hf
        refine lv_iinc (v := (x2_327 + (1 : Int32))) (lv' := [(2, .int (x2_327 + (1 : Int32))), (0, .ref (a 0)), (1, .int x1)]) hx hb dX1_firstTwoBy_45 hl (k := 2) rfl rfl (by decide) rfl (fun ls hl => ?_)
        refine lv_goto (tgt := 2) hx hb dX1_firstTwoBy_48 (by decide) ?_
        exact ih (x2_327 + (1 : Int32)) _ _ _ hP hD hS (lv_sub hl [1, 2, 0] rfl) hf
  exact L2_328 FUEL (0 : Int32) _ _ _ hP hD hS (lv_sub hl [1, 2, 0] rfl) hf
theorem dk_X1_fewestLooks : yX1_fewestLooks.cls ≠ "java/lang/invoke/MethodHandle" ∧ yX1_fewestLooks.cls ≠ "java/lang/invoke/VarHandle" ∧ (parseMethodDescriptor yX1_fewestLooks.desc).map (fun d => d.parameters.length) = some 1 := by decide +kernel
set_option maxHeartbeats 4000000 in
set_option maxRecDepth 100000 in
theorem k_X1_fewestLooks {l : Launch} {G : Gx} (a : Nat → Nat) (v : St) {r : Int32} (hf : f_X1_fewestLooks v = some r) : FC l G yX1_fewestLooks wsX1_fewestLooks ({ frames := 5, cells := 0, slots := 0, locals := 117 } : Room) [.ref (a 0)] (vW G a v) (vW G a v) (some (.int r)) := by
  refine fc_head (cc := cX1_fewestLooks) (maxL := 5) (ret := (some .int)) (C := RX1) (lv := [(0, .ref (a 0))]) (by decide) rfl rfl (Nat.le_of_ble_eq_true rfl) rfl ?_
  intro p e s m below meth c ls A hx hb hr hml hown hts hlocks hE hP hD hAB hS hl
  have hCF : CallFix p m c cX1_fewestLooks 5 s ([.ref (a 0)] : List Value).toArray wsX1_fewestLooks RX1 := ⟨hx, hb, hml, hown, hts⟩
  rw [f_X1_fewestLooks] at hf
  refine fc_gets hx hb hE hAB hS hown (hE.2.1 _ (List.mem_of_getElem? (i := 23) rfl)) dX1_fewestLooks_0 ?_
  refine lv_astore_n (lv' := [(1, .ref (gT G)), (0, .ref (a 0))]) hx hb dX1_fewestLooks_3 rfl hl (by decide) rfl (fun ls hl => ?_)
  refine lv_aload_n hx hb dX1_fewestLooks_4 rfl (lv_at hl 0 rfl) ?_
  refine fc_tlen hx hb hE hAB hS dX1_fewestLooks_5 ?_
  refine lv_istore_n (lv' := [(2, .int (64 : Int32)), (1, .ref (gT G)), (0, .ref (a 0))]) hx hb dX1_fewestLooks_6 rfl hl (by decide) rfl (fun ls hl => ?_)
  refine lv_iconst (v := (0 : Int32)) hx hb dX1_fewestLooks_7 (by decide) ?_
  refine lv_istore_n (lv' := [(3, .int (0 : Int32)), (2, .int (64 : Int32)), (1, .ref (gT G)), (0, .ref (a 0))]) hx hb dX1_fewestLooks_8 rfl hl (by decide) rfl (fun ls hl => ?_)
  have L9_337 : ∀ (n : Nat) (x3_336 : Int32) (H : Heap) (locs : List Loc) (ls : Array Slot), va_P (gD G) vwCl (vW G a v) H → va_D A (vW G a v) → va_S A s.heap H locs → lv_has ls 5 [(0, .ref (a 0)), (1, .ref (gT G)), (2, .int (64 : Int32)), (3, .int x3_336)] → f_X1_fewestLooks_9 v (64 : Int32) n x3_336 = some r → W p l e (headSpec wsX1_fewestLooks ({ frames := 5, cells := 0, slots := 0, locals := 117 } : Room)).room s m ([.ref (a 0)] : List Value).toArray below meth c H locs 0 0 (MQ below (FQ G A (vW G a v) (some (.int r))) ([.ref (a 0)] : List Value).toArray s 0 0 A) (F0 m 9 ls []) := by
    intro n
    induction n with
    | zero =>
      intro x3_336 H locs ls hP hD hS hl hf
      exact no_some hf
    | succ n ih =>
      intro x3_336 H locs ls hP hD hS hl hf
      rw [f_X1_fewestLooks_9] at hf
      refine lv_iload_n hx hb dX1_fewestLooks_9 rfl (lv_at hl 3 rfl) ?_
      refine lv_iload_n hx hb dX1_fewestLooks_10 rfl (lv_at hl 2 rfl) ?_
      refine lv_icmp_ge (tgt := 39) hx hb dX1_fewestLooks_11 (by decide) (fun c338 => ?_) (fun c338 => ?_)
      · have hf := ifT hf c338
        refine lv_bipush (v := (-9 : Int32)) hx hb dX1_fewestLooks_39 (by decide) ?_
        exact fc_reti hx hb hr hlocks hP hS dX1_fewestLooks_41 (i1 hf) rfl
      · have hf := ifF hf c338
        refine lv_aload_n hx hb dX1_fewestLooks_14 rfl (lv_at hl 1 rfl) ?_
        refine lv_iload_n hx hb dX1_fewestLooks_15 rfl (lv_at hl 3 rfl) ?_
        obtain ⟨c339, hf⟩ := gd_some hf
        refine fc_ti hx hb hE hAB hS (inB_in c339) dX1_fewestLooks_16 ?_
        refine lv_istore (lv' := [(4, .int (ffT x3_336.toNatClampNeg)), (0, .ref (a 0)), (1, .ref (gT G)), (2, .int (64 : Int32)), (3, .int x3_336)]) hx hb dX1_fewestLooks_17 hl (by decide) rfl (fun ls hl => ?_)
        refine lv_aload_n hx hb dX1_fewestLooks_19 rfl (lv_at hl 1 rfl) ?_
        refine lv_iload hx hb dX1_fewestLooks_20 (lv_at hl 0 rfl) ?_
        obtain ⟨q340, hq340, hf⟩ := bnd hf
        refine fc_callS (Wa' := (vW G a v)) (st1 := [.int q340]) (As := [.ref (a 0), .int (ffT x3_336.toNatClampNeg)]) (rest := []) hCF (k_X1_firstTwoBy a v (ffT x3_336.toNatClampNeg) hq340) (va_cwS 2 hts gX1_fewestLooks_X1_firstTwoBy rfl rfl rfl dk_X1_firstTwoBy ⟨Nat.le_of_ble_eq_true rfl, Nat.le_of_ble_eq_true rfl⟩) hE hAB hP hD hS [0, 1, 2, 3, 4, 5, 6, 7] vW_d (vW_c G a v) (vW_f G a v v) (vW_s G a v v) rfl rfl hl.1 rfl (Nat.le_of_ble_eq_true rfl) dX1_fewestLooks_22 ⟨Nat.le_refl _, Nat.le_refl _⟩ (fun H locs hP hD hS => ?_)
        refine lv_bipush (v := (-9 : Int32)) hx hb dX1_fewestLooks_25 (by decide) ?_
        refine lv_icmp_ne (tgt := 33) hx hb dX1_fewestLooks_27 (by decide) (fun c341 => ?_) (fun c341 => ?_)
        · have hf := ifF hf c341
          refine lv_iinc (v := (x3_336 + (1 : Int32))) (lv' := [(3, .int (x3_336 + (1 : Int32))), (4, .int (ffT x3_336.toNatClampNeg)), (0, .ref (a 0)), (1, .ref (gT G)), (2, .int (64 : Int32))]) hx hb dX1_fewestLooks_33 hl (k := 4) rfl rfl (by decide) rfl (fun ls hl => ?_)
          refine lv_goto (tgt := 9) hx hb dX1_fewestLooks_36 (by decide) ?_
          exact ih (x3_336 + (1 : Int32)) _ _ _ hP hD hS (lv_sub hl [2, 3, 4, 0] rfl) hf
        · have hf := ifT hf c341
          refine lv_iload hx hb dX1_fewestLooks_30 (lv_at hl 0 rfl) ?_
          exact fc_reti hx hb hr hlocks hP hS dX1_fewestLooks_32 (i1 hf) rfl
  exact L9_337 FUEL (0 : Int32) _ _ _ hP hD hS (lv_sub hl [3, 2, 1, 0] rfl) hf
theorem dk_X1_firstTwo : yX1_firstTwo.cls ≠ "java/lang/invoke/MethodHandle" ∧ yX1_firstTwo.cls ≠ "java/lang/invoke/VarHandle" ∧ (parseMethodDescriptor yX1_firstTwo.desc).map (fun d => d.parameters.length) = some 1 := by decide +kernel
set_option maxHeartbeats 4000000 in
set_option maxRecDepth 100000 in
theorem k_X1_firstTwo {l : Launch} {G : Gx} (a : Nat → Nat) (v : St) {r : Int32} (hf : f_X1_firstTwo v = some r) : FC l G yX1_firstTwo wsX1_firstTwo ({ frames := 5, cells := 0, slots := 0, locals := 117 } : Room) [.ref (a 0)] (vW G a v) (vW G a v) (some (.int r)) := by
  refine fc_head (cc := cX1_firstTwo) (maxL := 1) (ret := (some .int)) (C := RX1) (lv := [(0, .ref (a 0))]) (by decide) rfl rfl (Nat.le_of_ble_eq_true rfl) rfl ?_
  intro p e s m below meth c ls A hx hb hr hml hown hts hlocks hE hP hD hAB hS hl
  have hCF : CallFix p m c cX1_firstTwo 1 s ([.ref (a 0)] : List Value).toArray wsX1_firstTwo RX1 := ⟨hx, hb, hml, hown, hts⟩
  rw [f_X1_firstTwo] at hf
  refine lv_aload_n hx hb dX1_firstTwo_0 rfl (lv_at hl 0 rfl) ?_
  refine lv_bipush (v := (63 : Int32)) hx hb dX1_firstTwo_1 (by decide) ?_
  obtain ⟨q343, hq343, hf⟩ := bnd hf
  refine fc_callS (Wa' := (vW G a v)) (st1 := [.int q343]) (As := [.ref (a 0), .int (63 : Int32)]) (rest := []) hCF (k_X1_firstTwoBy a v (63 : Int32) hq343) (va_cwS 2 hts gX1_firstTwo_X1_firstTwoBy rfl rfl rfl dk_X1_firstTwoBy ⟨Nat.le_of_ble_eq_true rfl, Nat.le_of_ble_eq_true rfl⟩) hE hAB hP hD hS [0, 1, 2, 3, 4, 5, 6, 7] vW_d (vW_c G a v) (vW_f G a v v) (vW_s G a v v) rfl rfl hl.1 rfl (Nat.le_of_ble_eq_true rfl) dX1_firstTwo_3 ⟨Nat.le_refl _, Nat.le_refl _⟩ (fun H locs hP hD hS => ?_)
  exact fc_reti hx hb hr hlocks hP hS dX1_firstTwo_6 (i1 hf) rfl
theorem dk_X1_howManyShow : yX1_howManyShow.cls ≠ "java/lang/invoke/MethodHandle" ∧ yX1_howManyShow.cls ≠ "java/lang/invoke/VarHandle" ∧ (parseMethodDescriptor yX1_howManyShow.desc).map (fun d => d.parameters.length) = some 2 := by decide +kernel
theorem iu_X1_howManyShow_X6 : ∀ w ∈ u_ws RX6 TX6 12, w ∈ wsX1_howManyShow := by decide +kernel
set_option maxHeartbeats 4000000 in
set_option maxRecDepth 100000 in
theorem k_X1_howManyShow {l : Launch} {G : Gx} (a : Nat → Nat) (v : St) (x1 : Int32) {r : Int32} (hf : f_X1_howManyShow v x1 = some r) : FC l G yX1_howManyShow wsX1_howManyShow ({ frames := 3, cells := 0, slots := 0, locals := 71 } : Room) [.ref (a 0), .int x1] (vW G a v) (vW G a v) (some (.int r)) := by
  refine fc_head (cc := cX1_howManyShow) (maxL := 4) (ret := (some .int)) (C := RX1) (lv := [(0, .ref (a 0)), (1, .int x1)]) (by decide) rfl rfl (Nat.le_of_ble_eq_true rfl) rfl ?_
  intro p e s m below meth c ls A hx hb hr hml hown hts hlocks hE hP hD hAB hS hl
  have hCF : CallFix p m c cX1_howManyShow 4 s ([.ref (a 0), .int x1] : List Value).toArray wsX1_howManyShow RX1 := ⟨hx, hb, hml, hown, hts⟩
  have hwX6 : ∀ w ∈ u_ws RX6 TX6 12, w.before ([.ref (a 0), .int x1] : List Value).toArray s = true := fun w h => hts w (iu_X1_howManyShow_X6 w h)
  have hk_fieldLink_RX1_19__BrideNotKnown_Valley___brideCount___I_ := hts (.fieldLink RX1 19 "BrideNotKnown$Valley" "brideCount" "I") (List.mem_of_getElem? (i := 1) rfl)
  rw [f_X1_howManyShow] at hf
  refine lv_iconst (v := (0 : Int32)) hx hb dX1_howManyShow_0 (by decide) ?_
  refine lv_istore_n (lv' := [(2, .int (0 : Int32)), (0, .ref (a 0)), (1, .int x1)]) hx hb dX1_howManyShow_1 rfl hl (by decide) rfl (fun ls hl => ?_)
  refine lv_iconst (v := (0 : Int32)) hx hb dX1_howManyShow_2 (by decide) ?_
  refine lv_istore_n (lv' := [(3, .int (0 : Int32)), (2, .int (0 : Int32)), (0, .ref (a 0)), (1, .int x1)]) hx hb dX1_howManyShow_3 rfl hl (by decide) rfl (fun ls hl => ?_)
  have L4_348 : ∀ (n : Nat) (x2_346 : Int32) (x3_347 : Int32) (H : Heap) (locs : List Loc) (ls : Array Slot), va_P (gD G) vwCl (vW G a v) H → va_D A (vW G a v) → va_S A s.heap H locs → lv_has ls 4 [(0, .ref (a 0)), (1, .int x1), (2, .int x2_346), (3, .int x3_347)] → f_X1_howManyShow_4 v x1 n x2_346 x3_347 = some r → W p l e (headSpec wsX1_howManyShow ({ frames := 3, cells := 0, slots := 0, locals := 71 } : Room)).room s m ([.ref (a 0), .int x1] : List Value).toArray below meth c H locs 0 0 (MQ below (FQ G A (vW G a v) (some (.int r))) ([.ref (a 0), .int x1] : List Value).toArray s 0 0 A) (F0 m 4 ls []) := by
    intro n
    induction n with
    | zero =>
      intro x2_346 x3_347 H locs ls hP hD hS hl hf
      exact no_some hf
    | succ n ih =>
      intro x2_346 x3_347 H locs ls hP hD hS hl hf
      rw [f_X1_howManyShow_4] at hf
      refine lv_iload_n hx hb dX1_howManyShow_4 rfl (lv_at hl 3 rfl) ?_
      refine lv_aload_n hx hb dX1_howManyShow_5 rfl (lv_at hl 0 rfl) ?_
      refine fc_get (v := .int (v 7 1)) (ci := 3) (C := RX6) (T := TX6) (N := 12) hx hb hwX6 hown hE hP 0 (vW_o G a v) rfl 1 (by decide) hk_fieldLink_RX1_19__BrideNotKnown_Valley___brideCount___I_ (fun _ h => h) rfl dX1_howManyShow_6 ?_
      refine lv_icmp_ge (tgt := 39) hx hb dX1_howManyShow_9 (by decide) (fun c349 => ?_) (fun c349 => ?_)
      · have hf := ifT hf c349
        refine lv_iload_n hx hb dX1_howManyShow_39 rfl (lv_at hl 2 rfl) ?_
        exact fc_reti hx hb hr hlocks hP hS dX1_howManyShow_40 (i1 hf) rfl
      · have hf := ifF hf c349
        refine lv_aload_n hx hb dX1_howManyShow_12 rfl (lv_at hl 0 rfl) ?_
        refine lv_iload_n hx hb dX1_howManyShow_13 rfl (lv_at hl 3 rfl) ?_
        obtain ⟨q350, hq350, hf⟩ := bnd hf
        refine fc_callV (Wa' := (vW G a v)) (st1 := [.int q350]) (As := [.int x3_347]) (rest := []) hCF (k_X6_isHere a v x3_347 hq350) (cwV 1 hts gX1_howManyShow_X6_isHere rfl rfl rfl ⟨rfl, dk_X6_isHere⟩ ⟨Nat.le_of_ble_eq_true rfl, Nat.le_of_ble_eq_true rfl⟩) hE hAB hP hD hS [0, 1, 2, 3, 4, 5, 6, 7] vW_d (vW_c G a v) (va_recv hE.1 hP (ci := 3) (q0 := 0) rfl (vW_o G a v)) (vW_f G a v v) (vW_s G a v v) rfl rfl hl.1 rfl (Nat.le_of_ble_eq_true rfl) dX1_howManyShow_14 ⟨Nat.le_refl _, Nat.le_refl _⟩ (fun H locs hP hD hS => ?_)
        refine lv_if_eq (tgt := 33) hx hb dX1_howManyShow_17 (by decide) (fun c351 => ?_) (fun c351 => ?_)
        · have hf := ifT hf c351
          refine lv_iinc (v := (x3_347 + (1 : Int32))) (lv' := [(3, .int (x3_347 + (1 : Int32))), (0, .ref (a 0)), (1, .int x1), (2, .int x2_346)]) hx hb dX1_howManyShow_33 hl (k := 3) rfl rfl (by decide) rfl (fun ls hl => ?_)
          refine lv_goto (tgt := 4) hx hb dX1_howManyShow_36 (by decide) ?_
          exact ih x2_346 (x3_347 + (1 : Int32)) _ _ _ hP hD hS (lv_sub hl [1, 2, 3, 0] rfl) hf
        · have hf := ifF hf c351
          refine lv_aload_n hx hb dX1_howManyShow_20 rfl (lv_at hl 0 rfl) ?_
          refine lv_iload_n hx hb dX1_howManyShow_21 rfl (lv_at hl 3 rfl) ?_
          refine lv_iconst (v := (0 : Int32)) hx hb dX1_howManyShow_22 (by decide) ?_
          obtain ⟨q352, hq352, hf⟩ := bnd hf
          refine fc_callV (Wa' := (vW G a v)) (st1 := [.int q352]) (As := [.int x3_347, .int (0 : Int32)]) (rest := []) hCF (k_X6_shows a v x3_347 (0 : Int32) hq352) (cwV 2 hts gX1_howManyShow_X6_shows rfl rfl rfl ⟨rfl, dk_X6_shows⟩ ⟨Nat.le_of_ble_eq_true rfl, Nat.le_of_ble_eq_true rfl⟩) hE hAB hP hD hS [0, 1, 2, 3, 4, 5, 6, 7] vW_d (vW_c G a v) (va_recv hE.1 hP (ci := 3) (q0 := 0) rfl (vW_o G a v)) (vW_f G a v v) (vW_s G a v v) rfl rfl hl.1 rfl (Nat.le_of_ble_eq_true rfl) dX1_howManyShow_23 ⟨Nat.le_refl _, Nat.le_refl _⟩ (fun H locs hP hD hS => ?_)
          refine lv_iload_n hx hb dX1_howManyShow_26 rfl (lv_at hl 1 rfl) ?_
          refine lv_icmp_ne (tgt := 33) hx hb dX1_howManyShow_27 (by decide) (fun c353 => ?_) (fun c353 => ?_)
          · have hf := ifF hf c353
            refine lv_iinc (v := (x3_347 + (1 : Int32))) (lv' := [(3, .int (x3_347 + (1 : Int32))), (0, .ref (a 0)), (1, .int x1), (2, .int x2_346)]) hx hb dX1_howManyShow_33 hl (k := 3) rfl rfl (by decide) rfl (fun ls hl => ?_)
            refine lv_goto (tgt := 4) hx hb dX1_howManyShow_36 (by decide) ?_
            exact ih x2_346 (x3_347 + (1 : Int32)) _ _ _ hP hD hS (lv_sub hl [1, 2, 3, 0] rfl) hf
          · have hf := ifT hf c353
            refine lv_iinc (v := (x2_346 + (1 : Int32))) (lv' := [(2, .int (x2_346 + (1 : Int32))), (0, .ref (a 0)), (1, .int x1), (3, .int x3_347)]) hx hb dX1_howManyShow_30 hl (k := 2) rfl rfl (by decide) rfl (fun ls hl => ?_)
            refine lv_iinc (v := (x3_347 + (1 : Int32))) (lv' := [(3, .int (x3_347 + (1 : Int32))), (2, .int (x2_346 + (1 : Int32))), (0, .ref (a 0)), (1, .int x1)]) hx hb dX1_howManyShow_33 hl (k := 3) rfl rfl (by decide) rfl (fun ls hl => ?_)
            refine lv_goto (tgt := 4) hx hb dX1_howManyShow_36 (by decide) ?_
            exact ih (x2_346 + (1 : Int32)) (x3_347 + (1 : Int32)) _ _ _ hP hD hS (lv_sub hl [2, 3, 1, 0] rfl) hf
  exact L4_348 FUEL (0 : Int32) (0 : Int32) _ _ _ hP hD hS (lv_sub hl [2, 3, 1, 0] rfl) hf
theorem dk_X1_greatest : yX1_greatest.cls ≠ "java/lang/invoke/MethodHandle" ∧ yX1_greatest.cls ≠ "java/lang/invoke/VarHandle" ∧ (parseMethodDescriptor yX1_greatest.desc).map (fun d => d.parameters.length) = some 1 := by decide +kernel
set_option maxHeartbeats 4000000 in
set_option maxRecDepth 100000 in
theorem k_X1_greatest {l : Launch} {G : Gx} (a : Nat → Nat) (v : St) {r : Int32} (hf : f_X1_greatest v = some r) : FC l G yX1_greatest wsX1_greatest ({ frames := 4, cells := 0, slots := 0, locals := 94 } : Room) [.ref (a 0)] (vW G a v) (vW G a v) (some (.int r)) := by
  refine fc_head (cc := cX1_greatest) (maxL := 3) (ret := (some .int)) (C := RX1) (lv := [(0, .ref (a 0))]) (by decide) rfl rfl (Nat.le_of_ble_eq_true rfl) rfl ?_
  intro p e s m below meth c ls A hx hb hr hml hown hts hlocks hE hP hD hAB hS hl
  have hCF : CallFix p m c cX1_greatest 3 s ([.ref (a 0)] : List Value).toArray wsX1_greatest RX1 := ⟨hx, hb, hml, hown, hts⟩
  have hk_methodLink_RX1_36_Lib_Math_max_name := hts (.methodLink RX1 36 Lib.Math.max.name) (List.mem_of_getElem? (i := 1) rfl)
  have hk_static_Lib_Math_max_name := hts (.static Lib.Math.max.name) (List.mem_of_getElem? (i := 2) rfl)
  have hk_initialized__java_lang_Math_ := hts (.initialized "java/lang/Math") (List.mem_of_getElem? (i := 3) rfl)
  have hk_code_Lib_Math_max_name_Lib_Math_max_code_2__some__int_ := hts (.code Lib.Math.max.name Lib.Math.max.code 2 (some .int)) (List.mem_of_getElem? (i := 4) rfl)
  rw [f_X1_greatest] at hf
  refine lv_iconst (v := (0 : Int32)) hx hb dX1_greatest_0 (by decide) ?_
  refine lv_istore_n (lv' := [(1, .int (0 : Int32)), (0, .ref (a 0))]) hx hb dX1_greatest_1 rfl hl (by decide) rfl (fun ls hl => ?_)
  refine lv_iconst (v := (0 : Int32)) hx hb dX1_greatest_2 (by decide) ?_
  refine lv_istore_n (lv' := [(2, .int (0 : Int32)), (1, .int (0 : Int32)), (0, .ref (a 0))]) hx hb dX1_greatest_3 rfl hl (by decide) rfl (fun ls hl => ?_)
  have L4_357 : ∀ (n : Nat) (x1_355 : Int32) (x2_356 : Int32) (H : Heap) (locs : List Loc) (ls : Array Slot), va_P (gD G) vwCl (vW G a v) H → va_D A (vW G a v) → va_S A s.heap H locs → lv_has ls 3 [(0, .ref (a 0)), (1, .int x1_355), (2, .int x2_356)] → f_X1_greatest_4 v n x1_355 x2_356 = some r → W p l e (headSpec wsX1_greatest ({ frames := 4, cells := 0, slots := 0, locals := 94 } : Room)).room s m ([.ref (a 0)] : List Value).toArray below meth c H locs 0 0 (MQ below (FQ G A (vW G a v) (some (.int r))) ([.ref (a 0)] : List Value).toArray s 0 0 A) (F0 m 4 ls []) := by
    intro n
    induction n with
    | zero =>
      intro x1_355 x2_356 H locs ls hP hD hS hl hf
      exact no_some hf
    | succ n ih =>
      intro x1_355 x2_356 H locs ls hP hD hS hl hf
      rw [f_X1_greatest_4] at hf
      refine lv_iload_n hx hb dX1_greatest_4 rfl (lv_at hl 2 rfl) ?_
      refine lv_bipush (v := (63 : Int32)) hx hb dX1_greatest_5 (by decide) ?_
      refine lv_icmp_gt (tgt := 26) hx hb dX1_greatest_7 (by decide) (fun c358 => ?_) (fun c358 => ?_)
      · have hf := ifT hf c358
        refine lv_iload_n hx hb dX1_greatest_26 rfl (lv_at hl 1 rfl) ?_
        exact fc_reti hx hb hr hlocks hP hS dX1_greatest_27 (i1 hf) rfl
      · have hf := ifF hf c358
        refine lv_iload_n hx hb dX1_greatest_10 rfl (lv_at hl 1 rfl) ?_
        refine lv_aload_n hx hb dX1_greatest_11 rfl (lv_at hl 0 rfl) ?_
        refine lv_iload_n hx hb dX1_greatest_12 rfl (lv_at hl 2 rfl) ?_
        obtain ⟨q359, hq359, hf⟩ := bnd hf
        refine fc_callS (Wa' := (vW G a v)) (st1 := [.int q359, .int x1_355]) (As := [.ref (a 0), .int x2_356]) (rest := [.int x1_355]) hCF (k_X1_howManyShow a v x2_356 hq359) (va_cwS 2 hts gX1_greatest_X1_howManyShow rfl rfl rfl dk_X1_howManyShow ⟨Nat.le_of_ble_eq_true rfl, Nat.le_of_ble_eq_true rfl⟩) hE hAB hP hD hS [0, 1, 2, 3, 4, 5, 6, 7] vW_d (vW_c G a v) (vW_f G a v v) (vW_s G a v v) rfl rfl hl.1 rfl (Nat.le_of_ble_eq_true rfl) dX1_greatest_13 ⟨Nat.le_refl _, Nat.le_refl _⟩ (fun H locs hP hD hS => ?_)
        refine va_mmax hx hb (hml.trans hl.1.symm) hown hk_methodLink_RX1_36_Lib_Math_max_name hk_static_Lib_Math_max_name hk_initialized__java_lang_Math_ hk_code_Lib_Math_max_name_Lib_Math_max_code_2__some__int_ (Nat.le_of_ble_eq_true rfl) (Nat.le_of_ble_eq_true rfl) (Nat.zero_le _) (Nat.zero_le _) dX1_greatest_16 ?_
        refine lv_istore_n (lv' := [(1, .int (if x1_355 < q359 then q359 else x1_355)), (0, .ref (a 0)), (2, .int x2_356)]) hx hb dX1_greatest_19 rfl hl (by decide) rfl (fun ls hl => ?_)
        refine lv_iinc (v := (x2_356 + (1 : Int32))) (lv' := [(2, .int (x2_356 + (1 : Int32))), (1, .int (if x1_355 < q359 then q359 else x1_355)), (0, .ref (a 0))]) hx hb dX1_greatest_20 hl (k := 2) rfl rfl (by decide) rfl (fun ls hl => ?_)
        refine lv_goto (tgt := 4) hx hb dX1_greatest_23 (by decide) ?_
        exact ih (if x1_355 < q359 then q359 else x1_355) (x2_356 + (1 : Int32)) _ _ _ hP hD hS (lv_sub hl [2, 1, 0] rfl) hf
  exact L4_357 FUEL (0 : Int32) (0 : Int32) _ _ _ hP hD hS (lv_sub hl [2, 1, 0] rfl) hf
theorem dk_X1_greatestShown : yX1_greatestShown.cls ≠ "java/lang/invoke/MethodHandle" ∧ yX1_greatestShown.cls ≠ "java/lang/invoke/VarHandle" ∧ (parseMethodDescriptor yX1_greatestShown.desc).map (fun d => d.parameters.length) = some 1 := by decide +kernel
set_option maxHeartbeats 4000000 in
set_option maxRecDepth 100000 in
theorem k_X1_greatestShown {l : Launch} {G : Gx} (a : Nat → Nat) (v : St) {r : Int32} (hf : f_X1_greatestShown v = some r) : FC l G yX1_greatestShown wsX1_greatestShown ({ frames := 4, cells := 0, slots := 0, locals := 94 } : Room) [.ref (a 0)] (vW G a v) (vW G a v) (some (.int r)) := by
  refine fc_head (cc := cX1_greatestShown) (maxL := 5) (ret := (some .int)) (C := RX1) (lv := [(0, .ref (a 0))]) (by decide) rfl rfl (Nat.le_of_ble_eq_true rfl) rfl ?_
  intro p e s m below meth c ls A hx hb hr hml hown hts hlocks hE hP hD hAB hS hl
  have hCF : CallFix p m c cX1_greatestShown 5 s ([.ref (a 0)] : List Value).toArray wsX1_greatestShown RX1 := ⟨hx, hb, hml, hown, hts⟩
  rw [f_X1_greatestShown] at hf
  refine lv_iconst (v := (0 : Int32)) hx hb dX1_greatestShown_0 (by decide) ?_
  refine lv_istore_n (lv' := [(1, .int (0 : Int32)), (0, .ref (a 0))]) hx hb dX1_greatestShown_1 rfl hl (by decide) rfl (fun ls hl => ?_)
  refine lv_bipush (v := (-9 : Int32)) hx hb dX1_greatestShown_2 (by decide) ?_
  refine lv_istore_n (lv' := [(2, .int (-9 : Int32)), (1, .int (0 : Int32)), (0, .ref (a 0))]) hx hb dX1_greatestShown_4 rfl hl (by decide) rfl (fun ls hl => ?_)
  refine lv_iconst (v := (0 : Int32)) hx hb dX1_greatestShown_5 (by decide) ?_
  refine lv_istore_n (lv' := [(3, .int (0 : Int32)), (2, .int (-9 : Int32)), (1, .int (0 : Int32)), (0, .ref (a 0))]) hx hb dX1_greatestShown_6 rfl hl (by decide) rfl (fun ls hl => ?_)
  have L7_364 : ∀ (n : Nat) (x1_361 : Int32) (x2_362 : Int32) (x3_363 : Int32) (H : Heap) (locs : List Loc) (ls : Array Slot), va_P (gD G) vwCl (vW G a v) H → va_D A (vW G a v) → va_S A s.heap H locs → lv_has ls 5 [(0, .ref (a 0)), (1, .int x1_361), (2, .int x2_362), (3, .int x3_363)] → f_X1_greatestShown_7 v n x1_361 x2_362 x3_363 = some r → W p l e (headSpec wsX1_greatestShown ({ frames := 4, cells := 0, slots := 0, locals := 94 } : Room)).room s m ([.ref (a 0)] : List Value).toArray below meth c H locs 0 0 (MQ below (FQ G A (vW G a v) (some (.int r))) ([.ref (a 0)] : List Value).toArray s 0 0 A) (F0 m 7 ls []) := by
    intro n
    induction n with
    | zero =>
      intro x1_361 x2_362 x3_363 H locs ls hP hD hS hl hf
      exact no_some hf
    | succ n ih =>
      intro x1_361 x2_362 x3_363 H locs ls hP hD hS hl hf
      rw [f_X1_greatestShown_7] at hf
      refine lv_iload_n hx hb dX1_greatestShown_7 rfl (lv_at hl 3 rfl) ?_
      refine lv_bipush (v := (63 : Int32)) hx hb dX1_greatestShown_8 (by decide) ?_
      refine lv_icmp_gt (tgt := 37) hx hb dX1_greatestShown_10 (by decide) (fun c365 => ?_) (fun c365 => ?_)
      · have hf := ifT hf c365
        refine lv_iload_n hx hb dX1_greatestShown_37 rfl (lv_at hl 2 rfl) ?_
        exact fc_reti hx hb hr hlocks hP hS dX1_greatestShown_38 (i1 hf) rfl
      · have hf := ifF hf c365
        refine lv_aload_n hx hb dX1_greatestShown_13 rfl (lv_at hl 0 rfl) ?_
        refine lv_iload_n hx hb dX1_greatestShown_14 rfl (lv_at hl 3 rfl) ?_
        obtain ⟨q366, hq366, hf⟩ := bnd hf
        refine fc_callS (Wa' := (vW G a v)) (st1 := [.int q366]) (As := [.ref (a 0), .int x3_363]) (rest := []) hCF (k_X1_howManyShow a v x3_363 hq366) (va_cwS 2 hts gX1_greatestShown_X1_howManyShow rfl rfl rfl dk_X1_howManyShow ⟨Nat.le_of_ble_eq_true rfl, Nat.le_of_ble_eq_true rfl⟩) hE hAB hP hD hS [0, 1, 2, 3, 4, 5, 6, 7] vW_d (vW_c G a v) (vW_f G a v v) (vW_s G a v v) rfl rfl hl.1 rfl (Nat.le_of_ble_eq_true rfl) dX1_greatestShown_15 ⟨Nat.le_refl _, Nat.le_refl _⟩ (fun H locs hP hD hS => ?_)
        refine lv_istore (lv' := [(4, .int q366), (0, .ref (a 0)), (1, .int x1_361), (2, .int x2_362), (3, .int x3_363)]) hx hb dX1_greatestShown_18 hl (by decide) rfl (fun ls hl => ?_)
        refine lv_iload hx hb dX1_greatestShown_20 (lv_at hl 0 rfl) ?_
        refine lv_iload_n hx hb dX1_greatestShown_22 rfl (lv_at hl 2 rfl) ?_
        refine lv_icmp_le (tgt := 31) hx hb dX1_greatestShown_23 (by decide) (fun c367 => ?_) (fun c367 => ?_)
        · have hf := ifT hf c367
          refine lv_iinc (v := (x3_363 + (1 : Int32))) (lv' := [(3, .int (x3_363 + (1 : Int32))), (4, .int q366), (0, .ref (a 0)), (1, .int x1_361), (2, .int x2_362)]) hx hb dX1_greatestShown_31 hl (k := 4) rfl rfl (by decide) rfl (fun ls hl => ?_)
          refine lv_goto (tgt := 7) hx hb dX1_greatestShown_34 (by decide) ?_
          exact ih x1_361 x2_362 (x3_363 + (1 : Int32)) _ _ _ hP hD hS (lv_sub hl [2, 3, 4, 0] rfl) hf
        · have hf := ifF hf c367
          refine lv_iload hx hb dX1_greatestShown_26 (lv_at hl 0 rfl) ?_
          refine lv_istore_n (lv' := [(1, .int q366), (4, .int q366), (0, .ref (a 0)), (2, .int x2_362), (3, .int x3_363)]) hx hb dX1_greatestShown_28 rfl hl (by decide) rfl (fun ls hl => ?_)
          refine lv_iload_n hx hb dX1_greatestShown_29 rfl (lv_at hl 4 rfl) ?_
          refine lv_istore_n (lv' := [(2, .int x3_363), (1, .int q366), (4, .int q366), (0, .ref (a 0)), (3, .int x3_363)]) hx hb dX1_greatestShown_30 rfl hl (by decide) rfl (fun ls hl => ?_)
          refine lv_iinc (v := (x3_363 + (1 : Int32))) (lv' := [(3, .int (x3_363 + (1 : Int32))), (2, .int x3_363), (1, .int q366), (4, .int q366), (0, .ref (a 0))]) hx hb dX1_greatestShown_31 hl (k := 4) rfl rfl (by decide) rfl (fun ls hl => ?_)
          refine lv_goto (tgt := 7) hx hb dX1_greatestShown_34 (by decide) ?_
          exact ih q366 x3_363 (x3_363 + (1 : Int32)) _ _ _ hP hD hS (lv_sub hl [4, 2, 1, 0] rfl) hf
  exact L7_364 FUEL (0 : Int32) (-9 : Int32) (0 : Int32) _ _ _ hP hD hS (lv_sub hl [3, 2, 1, 0] rfl) hf
theorem dk_X1_howFarApart : yX1_howFarApart.cls ≠ "java/lang/invoke/MethodHandle" ∧ yX1_howFarApart.cls ≠ "java/lang/invoke/VarHandle" ∧ (parseMethodDescriptor yX1_howFarApart.desc).map (fun d => d.parameters.length) = some 2 := by decide +kernel
theorem iu_X1_howFarApart_X6 : ∀ w ∈ u_ws RX6 TX6 12, w ∈ wsX1_howFarApart := by decide +kernel
set_option maxHeartbeats 4000000 in
set_option maxRecDepth 100000 in
theorem k_X1_howFarApart {l : Launch} {G : Gx} (a : Nat → Nat) (v : St) (x1 : Int32) {r : Int32} (hf : f_X1_howFarApart v x1 = some r) : FC l G yX1_howFarApart wsX1_howFarApart ({ frames := 3, cells := 0, slots := 0, locals := 71 } : Room) [.ref (a 0), .int x1] (vW G a v) (vW G a v) (some (.int r)) := by
  refine fc_head (cc := cX1_howFarApart) (maxL := 4) (ret := (some .int)) (C := RX1) (lv := [(0, .ref (a 0)), (1, .int x1)]) (by decide) rfl rfl (Nat.le_of_ble_eq_true rfl) rfl ?_
  intro p e s m below meth c ls A hx hb hr hml hown hts hlocks hE hP hD hAB hS hl
  have hCF : CallFix p m c cX1_howFarApart 4 s ([.ref (a 0), .int x1] : List Value).toArray wsX1_howFarApart RX1 := ⟨hx, hb, hml, hown, hts⟩
  have hwX6 : ∀ w ∈ u_ws RX6 TX6 12, w.before ([.ref (a 0), .int x1] : List Value).toArray s = true := fun w h => hts w (iu_X1_howFarApart_X6 w h)
  have hk_fieldLink_RX1_19__BrideNotKnown_Valley___brideCount___I_ := hts (.fieldLink RX1 19 "BrideNotKnown$Valley" "brideCount" "I") (List.mem_of_getElem? (i := 1) rfl)
  have hk_initialized_RX7 := hts (.initialized RX7) (List.mem_of_getElem? (i := 18) rfl)
  have hk_static_yX7_has := hts (.static yX7_has) (List.mem_of_getElem? (i := 17) rfl)
  have hk_methodLink_RX1_48_Lib_Math_abs_name := hts (.methodLink RX1 48 Lib.Math.abs.name) (List.mem_of_getElem? (i := 2) rfl)
  have hk_static_Lib_Math_abs_name := hts (.static Lib.Math.abs.name) (List.mem_of_getElem? (i := 3) rfl)
  have hk_initialized__java_lang_Math_ := hts (.initialized "java/lang/Math") (List.mem_of_getElem? (i := 4) rfl)
  have hk_code_Lib_Math_abs_name_Lib_Math_abs_code_1__some__int_ := hts (.code Lib.Math.abs.name Lib.Math.abs.code 1 (some .int)) (List.mem_of_getElem? (i := 5) rfl)
  rw [f_X1_howFarApart] at hf
  refine lv_iconst (v := (0 : Int32)) hx hb dX1_howFarApart_0 (by decide) ?_
  refine lv_istore_n (lv' := [(2, .int (0 : Int32)), (0, .ref (a 0)), (1, .int x1)]) hx hb dX1_howFarApart_1 rfl hl (by decide) rfl (fun ls hl => ?_)
  refine lv_iconst (v := (0 : Int32)) hx hb dX1_howFarApart_2 (by decide) ?_
  refine lv_istore_n (lv' := [(3, .int (0 : Int32)), (2, .int (0 : Int32)), (0, .ref (a 0)), (1, .int x1)]) hx hb dX1_howFarApart_3 rfl hl (by decide) rfl (fun ls hl => ?_)
  have L4_374 : ∀ (K4_47 : Int32 → Option (Int32)) (hK4_47 : ∀ (x2_375 : Int32) (H : Heap) (locs : List Loc) (ls : Array Slot), va_P (gD G) vwCl (vW G a v) H → va_D A (vW G a v) → va_S A s.heap H locs → lv_has ls 4 [(2, .int x2_375)] → K4_47 x2_375 = some r → W p l e (headSpec wsX1_howFarApart ({ frames := 3, cells := 0, slots := 0, locals := 71 } : Room)).room s m ([.ref (a 0), .int x1] : List Value).toArray below meth c H locs 0 0 (MQ below (FQ G A (vW G a v) (some (.int r))) ([.ref (a 0), .int x1] : List Value).toArray s 0 0 A) (F0 m 47 ls [])) (n : Nat) (x2_372 : Int32) (x3_373 : Int32) (H : Heap) (locs : List Loc) (ls : Array Slot), va_P (gD G) vwCl (vW G a v) H → va_D A (vW G a v) → va_S A s.heap H locs → lv_has ls 4 [(0, .ref (a 0)), (1, .int x1), (2, .int x2_372), (3, .int x3_373)] → f_X1_howFarApart_4 v x1 n x2_372 x3_373 K4_47 = some r → W p l e (headSpec wsX1_howFarApart ({ frames := 3, cells := 0, slots := 0, locals := 71 } : Room)).room s m ([.ref (a 0), .int x1] : List Value).toArray below meth c H locs 0 0 (MQ below (FQ G A (vW G a v) (some (.int r))) ([.ref (a 0), .int x1] : List Value).toArray s 0 0 A) (F0 m 4 ls []) := by
    intro K4_47 hK4_47 n
    induction n with
    | zero =>
      intro x2_372 x3_373 H locs ls hP hD hS hl hf
      exact no_some hf
    | succ n ih =>
      intro x2_372 x3_373 H locs ls hP hD hS hl hf
      rw [f_X1_howFarApart_4] at hf
      refine lv_iload_n hx hb dX1_howFarApart_4 rfl (lv_at hl 3 rfl) ?_
      refine lv_aload_n hx hb dX1_howFarApart_5 rfl (lv_at hl 0 rfl) ?_
      refine fc_get (v := .int (v 7 1)) (ci := 3) (C := RX6) (T := TX6) (N := 12) hx hb hwX6 hown hE hP 0 (vW_o G a v) rfl 1 (by decide) hk_fieldLink_RX1_19__BrideNotKnown_Valley___brideCount___I_ (fun _ h => h) rfl dX1_howFarApart_6 ?_
      refine lv_icmp_ge (tgt := 47) hx hb dX1_howFarApart_9 (by decide) (fun c376 => ?_) (fun c376 => ?_)
      · have hf := ifT hf c376
        exact hK4_47 x2_372 _ _ _ hP hD hS (lv_sub hl [2] rfl) hf
      · have hf := ifF hf c376
        refine lv_aload_n hx hb dX1_howFarApart_12 rfl (lv_at hl 0 rfl) ?_
        refine lv_iload_n hx hb dX1_howFarApart_13 rfl (lv_at hl 3 rfl) ?_
        obtain ⟨q377, hq377, hf⟩ := bnd hf
        refine fc_callV (Wa' := (vW G a v)) (st1 := [.int q377]) (As := [.int x3_373]) (rest := []) hCF (k_X6_isHere a v x3_373 hq377) (cwV 1 hts gX1_howFarApart_X6_isHere rfl rfl rfl ⟨rfl, dk_X6_isHere⟩ ⟨Nat.le_of_ble_eq_true rfl, Nat.le_of_ble_eq_true rfl⟩) hE hAB hP hD hS [0, 1, 2, 3, 4, 5, 6, 7] vW_d (vW_c G a v) (va_recv hE.1 hP (ci := 3) (q0 := 0) rfl (vW_o G a v)) (vW_f G a v v) (vW_s G a v v) rfl rfl hl.1 rfl (Nat.le_of_ble_eq_true rfl) dX1_howFarApart_14 ⟨Nat.le_refl _, Nat.le_refl _⟩ (fun H locs hP hD hS => ?_)
        refine lv_if_eq (tgt := 41) hx hb dX1_howFarApart_17 (by decide) (fun c378 => ?_) (fun c378 => ?_)
        · have hf := ifT hf c378
          refine lv_iinc (v := (x3_373 + (1 : Int32))) (lv' := [(3, .int (x3_373 + (1 : Int32))), (0, .ref (a 0)), (1, .int x1), (2, .int x2_372)]) hx hb dX1_howFarApart_41 hl (k := 3) rfl rfl (by decide) rfl (fun ls hl => ?_)
          refine lv_goto (tgt := 4) hx hb dX1_howFarApart_44 (by decide) ?_
          exact ih x2_372 (x3_373 + (1 : Int32)) _ _ _ hP hD hS (lv_sub hl [1, 2, 3, 0] rfl) hf
        · have hf := ifF hf c378
          refine lv_iload_n hx hb dX1_howFarApart_20 rfl (lv_at hl 2 rfl) ?_
          refine lv_aload_n hx hb dX1_howFarApart_21 rfl (lv_at hl 0 rfl) ?_
          refine lv_iload_n hx hb dX1_howFarApart_22 rfl (lv_at hl 3 rfl) ?_
          refine lv_iconst (v := (0 : Int32)) hx hb dX1_howFarApart_23 (by decide) ?_
          obtain ⟨q379, hq379, hf⟩ := bnd hf
          refine fc_callV (Wa' := (vW G a v)) (st1 := [.int q379, .int x2_372]) (As := [.int x3_373, .int (0 : Int32)]) (rest := [.int x2_372]) hCF (k_X6_shows a v x3_373 (0 : Int32) hq379) (cwV 2 hts gX1_howFarApart_X6_shows rfl rfl rfl ⟨rfl, dk_X6_shows⟩ ⟨Nat.le_of_ble_eq_true rfl, Nat.le_of_ble_eq_true rfl⟩) hE hAB hP hD hS [0, 1, 2, 3, 4, 5, 6, 7] vW_d (vW_c G a v) (va_recv hE.1 hP (ci := 3) (q0 := 0) rfl (vW_o G a v)) (vW_f G a v v) (vW_s G a v v) rfl rfl hl.1 rfl (Nat.le_of_ble_eq_true rfl) dX1_howFarApart_24 ⟨Nat.le_refl _, Nat.le_refl _⟩ (fun H locs hP hD hS => ?_)
          refine lv_iload_n hx hb dX1_howFarApart_27 rfl (lv_at hl 1 rfl) ?_
          obtain ⟨q380, hq380, hf⟩ := bnd hf
          refine fc_callN (Wa' := (vW G a v)) (st1 := [.int q380, .int x2_372]) (As := [.int q379, .int x1]) (rest := [.int x2_372]) hCF (k_X7_has q379 x1 hq380) ⟨va_cnB 2 hts gX1_howFarApart_X7_has_n44 rfl rfl rfl (hE.2.1 _ (List.mem_of_getElem? (i := 17) rfl)) hk_initialized_RX7 dk_X7_has ⟨Nat.le_of_ble_eq_true rfl, Nat.le_of_ble_eq_true rfl⟩, hk_static_yX7_has, trivial⟩ hE hAB hP hD hS [] rfl rfl rfl rfl rfl rfl hl.1 rfl (Nat.le_of_ble_eq_true rfl) dX1_howFarApart_28 ⟨Nat.le_refl _, Nat.le_refl _⟩ (fun H locs hP hD hS => ?_)
          refine lv_if_eq (tgt := 38) hx hb dX1_howFarApart_31 (by decide) (fun c381 => ?_) (fun c381 => ?_)
          · have hf := ifT hf c381
            refine lv_iconst (v := (-1 : Int32)) hx hb dX1_howFarApart_38 (by decide) ?_
            refine lv_iadd hx hb dX1_howFarApart_39 ?_
            refine lv_istore_n (lv' := [(2, .int (x2_372 + (-1 : Int32))), (0, .ref (a 0)), (1, .int x1), (3, .int x3_373)]) hx hb dX1_howFarApart_40 rfl hl (by decide) rfl (fun ls hl => ?_)
            refine lv_iinc (v := (x3_373 + (1 : Int32))) (lv' := [(3, .int (x3_373 + (1 : Int32))), (2, .int (x2_372 + (-1 : Int32))), (0, .ref (a 0)), (1, .int x1)]) hx hb dX1_howFarApart_41 hl (k := 3) rfl rfl (by decide) rfl (fun ls hl => ?_)
            refine lv_goto (tgt := 4) hx hb dX1_howFarApart_44 (by decide) ?_
            exact ih (x2_372 + (-1 : Int32)) (x3_373 + (1 : Int32)) _ _ _ hP hD hS (lv_sub hl [2, 3, 1, 0] rfl) hf
          · have hf := ifF hf c381
            refine lv_iconst (v := (1 : Int32)) hx hb dX1_howFarApart_34 (by decide) ?_
            refine lv_goto (tgt := 39) hx hb dX1_howFarApart_35 (by decide) ?_
            refine lv_iadd hx hb dX1_howFarApart_39 ?_
            refine lv_istore_n (lv' := [(2, .int (x2_372 + (1 : Int32))), (0, .ref (a 0)), (1, .int x1), (3, .int x3_373)]) hx hb dX1_howFarApart_40 rfl hl (by decide) rfl (fun ls hl => ?_)
            refine lv_iinc (v := (x3_373 + (1 : Int32))) (lv' := [(3, .int (x3_373 + (1 : Int32))), (2, .int (x2_372 + (1 : Int32))), (0, .ref (a 0)), (1, .int x1)]) hx hb dX1_howFarApart_41 hl (k := 3) rfl rfl (by decide) rfl (fun ls hl => ?_)
            refine lv_goto (tgt := 4) hx hb dX1_howFarApart_44 (by decide) ?_
            exact ih (x2_372 + (1 : Int32)) (x3_373 + (1 : Int32)) _ _ _ hP hD hS (lv_sub hl [2, 3, 1, 0] rfl) hf
  refine L4_374 _ ?_ FUEL (0 : Int32) (0 : Int32) _ _ _ hP hD hS (lv_sub hl [2, 3, 1, 0] rfl) hf
  intro x2_382 H locs ls hP hD hS hl hf
  refine lv_iload_n hx hb dX1_howFarApart_47 rfl (lv_at hl 0 rfl) ?_
  refine va_mabs hx hb (hml.trans hl.1.symm) hown hk_methodLink_RX1_48_Lib_Math_abs_name hk_static_Lib_Math_abs_name hk_initialized__java_lang_Math_ hk_code_Lib_Math_abs_name_Lib_Math_abs_code_1__some__int_ (Nat.le_of_ble_eq_true rfl) (Nat.le_of_ble_eq_true rfl) (Nat.zero_le _) (Nat.zero_le _) dX1_howFarApart_48 ?_
  exact fc_reti hx hb hr hlocks hP hS dX1_howFarApart_51 (i1 hf) rfl
theorem dk_X1_tellingToe : yX1_tellingToe.cls ≠ "java/lang/invoke/MethodHandle" ∧ yX1_tellingToe.cls ≠ "java/lang/invoke/VarHandle" ∧ (parseMethodDescriptor yX1_tellingToe.desc).map (fun d => d.parameters.length) = some 1 := by decide +kernel
set_option maxHeartbeats 4000000 in
set_option maxRecDepth 100000 in
theorem k_X1_tellingToe {l : Launch} {G : Gx} (a : Nat → Nat) (v : St) {r : Int32} (hf : f_X1_tellingToe v = some r) : FC l G yX1_tellingToe wsX1_tellingToe ({ frames := 4, cells := 0, slots := 0, locals := 94 } : Room) [.ref (a 0)] (vW G a v) (vW G a v) (some (.int r)) := by
  refine fc_head (cc := cX1_tellingToe) (maxL := 5) (ret := (some .int)) (C := RX1) (lv := [(0, .ref (a 0))]) (by decide) rfl rfl (Nat.le_of_ble_eq_true rfl) rfl ?_
  intro p e s m below meth c ls A hx hb hr hml hown hts hlocks hE hP hD hAB hS hl
  have hCF : CallFix p m c cX1_tellingToe 5 s ([.ref (a 0)] : List Value).toArray wsX1_tellingToe RX1 := ⟨hx, hb, hml, hown, hts⟩
  rw [f_X1_tellingToe] at hf
  refine lv_iconst (v := (0 : Int32)) hx hb dX1_tellingToe_0 (by decide) ?_
  refine lv_istore_n (lv' := [(1, .int (0 : Int32)), (0, .ref (a 0))]) hx hb dX1_tellingToe_1 rfl hl (by decide) rfl (fun ls hl => ?_)
  refine lv_bipush (v := (9 : Int32)) hx hb dX1_tellingToe_2 (by decide) ?_
  refine lv_istore_n (lv' := [(2, .int (9 : Int32)), (1, .int (0 : Int32)), (0, .ref (a 0))]) hx hb dX1_tellingToe_4 rfl hl (by decide) rfl (fun ls hl => ?_)
  refine lv_iconst (v := (0 : Int32)) hx hb dX1_tellingToe_5 (by decide) ?_
  refine lv_istore_n (lv' := [(3, .int (0 : Int32)), (2, .int (9 : Int32)), (1, .int (0 : Int32)), (0, .ref (a 0))]) hx hb dX1_tellingToe_6 rfl hl (by decide) rfl (fun ls hl => ?_)
  have L7_387 : ∀ (n : Nat) (x1_384 : Int32) (x2_385 : Int32) (x3_386 : Int32) (H : Heap) (locs : List Loc) (ls : Array Slot), va_P (gD G) vwCl (vW G a v) H → va_D A (vW G a v) → va_S A s.heap H locs → lv_has ls 5 [(0, .ref (a 0)), (1, .int x1_384), (2, .int x2_385), (3, .int x3_386)] → f_X1_tellingToe_7 v n x1_384 x2_385 x3_386 = some r → W p l e (headSpec wsX1_tellingToe ({ frames := 4, cells := 0, slots := 0, locals := 94 } : Room)).room s m ([.ref (a 0)] : List Value).toArray below meth c H locs 0 0 (MQ below (FQ G A (vW G a v) (some (.int r))) ([.ref (a 0)] : List Value).toArray s 0 0 A) (F0 m 7 ls []) := by
    intro n
    induction n with
    | zero =>
      intro x1_384 x2_385 x3_386 H locs ls hP hD hS hl hf
      exact no_some hf
    | succ n ih =>
      intro x1_384 x2_385 x3_386 H locs ls hP hD hS hl hf
      rw [f_X1_tellingToe_7] at hf
      refine lv_iload_n hx hb dX1_tellingToe_7 rfl (lv_at hl 3 rfl) ?_
      refine lv_bipush (v := (6 : Int32)) hx hb dX1_tellingToe_8 (by decide) ?_
      refine lv_icmp_ge (tgt := 37) hx hb dX1_tellingToe_10 (by decide) (fun c388 => ?_) (fun c388 => ?_)
      · have hf := ifT hf c388
        refine lv_iload_n hx hb dX1_tellingToe_37 rfl (lv_at hl 1 rfl) ?_
        exact fc_reti hx hb hr hlocks hP hS dX1_tellingToe_38 (i1 hf) rfl
      · have hf := ifF hf c388
        refine lv_aload_n hx hb dX1_tellingToe_13 rfl (lv_at hl 0 rfl) ?_
        refine lv_iload_n hx hb dX1_tellingToe_14 rfl (lv_at hl 3 rfl) ?_
        obtain ⟨q389, hq389, hf⟩ := bnd hf
        refine fc_callS (Wa' := (vW G a v)) (st1 := [.int q389]) (As := [.ref (a 0), .int x3_386]) (rest := []) hCF (k_X1_howFarApart a v x3_386 hq389) (va_cwS 2 hts gX1_tellingToe_X1_howFarApart rfl rfl rfl dk_X1_howFarApart ⟨Nat.le_of_ble_eq_true rfl, Nat.le_of_ble_eq_true rfl⟩) hE hAB hP hD hS [0, 1, 2, 3, 4, 5, 6, 7] vW_d (vW_c G a v) (vW_f G a v v) (vW_s G a v v) rfl rfl hl.1 rfl (Nat.le_of_ble_eq_true rfl) dX1_tellingToe_15 ⟨Nat.le_refl _, Nat.le_refl _⟩ (fun H locs hP hD hS => ?_)
        refine lv_istore (lv' := [(4, .int q389), (0, .ref (a 0)), (1, .int x1_384), (2, .int x2_385), (3, .int x3_386)]) hx hb dX1_tellingToe_18 hl (by decide) rfl (fun ls hl => ?_)
        refine lv_iload hx hb dX1_tellingToe_20 (lv_at hl 0 rfl) ?_
        refine lv_iload_n hx hb dX1_tellingToe_22 rfl (lv_at hl 3 rfl) ?_
        refine lv_icmp_ge (tgt := 31) hx hb dX1_tellingToe_23 (by decide) (fun c390 => ?_) (fun c390 => ?_)
        · have hf := ifT hf c390
          refine lv_iinc (v := (x3_386 + (1 : Int32))) (lv' := [(3, .int (x3_386 + (1 : Int32))), (4, .int q389), (0, .ref (a 0)), (1, .int x1_384), (2, .int x2_385)]) hx hb dX1_tellingToe_31 hl (k := 4) rfl rfl (by decide) rfl (fun ls hl => ?_)
          refine lv_goto (tgt := 7) hx hb dX1_tellingToe_34 (by decide) ?_
          exact ih x1_384 x2_385 (x3_386 + (1 : Int32)) _ _ _ hP hD hS (lv_sub hl [2, 3, 4, 0] rfl) hf
        · have hf := ifF hf c390
          refine lv_iload hx hb dX1_tellingToe_26 (lv_at hl 0 rfl) ?_
          refine lv_istore_n (lv' := [(2, .int q389), (4, .int q389), (0, .ref (a 0)), (1, .int x1_384), (3, .int x3_386)]) hx hb dX1_tellingToe_28 rfl hl (by decide) rfl (fun ls hl => ?_)
          refine lv_iload_n hx hb dX1_tellingToe_29 rfl (lv_at hl 4 rfl) ?_
          refine lv_istore_n (lv' := [(1, .int x3_386), (2, .int q389), (4, .int q389), (0, .ref (a 0)), (3, .int x3_386)]) hx hb dX1_tellingToe_30 rfl hl (by decide) rfl (fun ls hl => ?_)
          refine lv_iinc (v := (x3_386 + (1 : Int32))) (lv' := [(3, .int (x3_386 + (1 : Int32))), (1, .int x3_386), (2, .int q389), (4, .int q389), (0, .ref (a 0))]) hx hb dX1_tellingToe_31 hl (k := 4) rfl rfl (by decide) rfl (fun ls hl => ?_)
          refine lv_goto (tgt := 7) hx hb dX1_tellingToe_34 (by decide) ?_
          exact ih x3_386 q389 (x3_386 + (1 : Int32)) _ _ _ hP hD hS (lv_sub hl [4, 1, 2, 0] rfl) hf
  exact L7_387 FUEL (0 : Int32) (9 : Int32) (0 : Int32) _ _ _ hP hD hS (lv_sub hl [3, 2, 1, 0] rfl) hf
theorem dk_X1_twos : yX1_twos.cls ≠ "java/lang/invoke/MethodHandle" ∧ yX1_twos.cls ≠ "java/lang/invoke/VarHandle" ∧ (parseMethodDescriptor yX1_twos.desc).map (fun d => d.parameters.length) = some 1 := by decide +kernel
theorem iu_X1_twos_X6 : ∀ w ∈ u_ws RX6 TX6 12, w ∈ wsX1_twos := by decide +kernel
set_option maxHeartbeats 4000000 in
set_option maxRecDepth 100000 in
theorem k_X1_twos {l : Launch} {G : Gx} (a : Nat → Nat) (v : St) {r : Int32} (hf : f_X1_twos v = some r) : FC l G yX1_twos wsX1_twos ({ frames := 4, cells := 0, slots := 0, locals := 94 } : Room) [.ref (a 0)] (vW G a v) (vW G a v) (some (.int r)) := by
  refine fc_head (cc := cX1_twos) (maxL := 4) (ret := (some .int)) (C := RX1) (lv := [(0, .ref (a 0))]) (by decide) rfl rfl (Nat.le_of_ble_eq_true rfl) rfl ?_
  intro p e s m below meth c ls A hx hb hr hml hown hts hlocks hE hP hD hAB hS hl
  have hCF : CallFix p m c cX1_twos 4 s ([.ref (a 0)] : List Value).toArray wsX1_twos RX1 := ⟨hx, hb, hml, hown, hts⟩
  have hwX6 : ∀ w ∈ u_ws RX6 TX6 12, w.before ([.ref (a 0)] : List Value).toArray s = true := fun w h => hts w (iu_X1_twos_X6 w h)
  have hk_fieldLink_RX1_19__BrideNotKnown_Valley___brideCount___I_ := hts (.fieldLink RX1 19 "BrideNotKnown$Valley" "brideCount" "I") (List.mem_of_getElem? (i := 1) rfl)
  rw [f_X1_twos] at hf
  refine lv_iconst (v := (0 : Int32)) hx hb dX1_twos_0 (by decide) ?_
  refine lv_istore_n (lv' := [(1, .int (0 : Int32)), (0, .ref (a 0))]) hx hb dX1_twos_1 rfl hl (by decide) rfl (fun ls hl => ?_)
  refine lv_iconst (v := (0 : Int32)) hx hb dX1_twos_2 (by decide) ?_
  refine lv_istore_n (lv' := [(2, .int (0 : Int32)), (1, .int (0 : Int32)), (0, .ref (a 0))]) hx hb dX1_twos_3 rfl hl (by decide) rfl (fun ls hl => ?_)
  have L4_395 : ∀ (n : Nat) (x1_393 : Int32) (x2_394 : Int32) (H : Heap) (locs : List Loc) (ls : Array Slot), va_P (gD G) vwCl (vW G a v) H → va_D A (vW G a v) → va_S A s.heap H locs → lv_has ls 4 [(0, .ref (a 0)), (1, .int x1_393), (2, .int x2_394)] → f_X1_twos_4 v n x1_393 x2_394 = some r → W p l e (headSpec wsX1_twos ({ frames := 4, cells := 0, slots := 0, locals := 94 } : Room)).room s m ([.ref (a 0)] : List Value).toArray below meth c H locs 0 0 (MQ below (FQ G A (vW G a v) (some (.int r))) ([.ref (a 0)] : List Value).toArray s 0 0 A) (F0 m 4 ls []) := by
    intro n
    induction n with
    | zero =>
      intro x1_393 x2_394 H locs ls hP hD hS hl hf
      exact no_some hf
    | succ n ih =>
      intro x1_393 x2_394 H locs ls hP hD hS hl hf
      rw [f_X1_twos_4] at hf
      refine lv_iload_n hx hb dX1_twos_4 rfl (lv_at hl 2 rfl) ?_
      refine lv_aload_n hx hb dX1_twos_5 rfl (lv_at hl 0 rfl) ?_
      refine fc_get (v := .int (v 7 1)) (ci := 3) (C := RX6) (T := TX6) (N := 12) hx hb hwX6 hown hE hP 0 (vW_o G a v) rfl 1 (by decide) hk_fieldLink_RX1_19__BrideNotKnown_Valley___brideCount___I_ (fun _ h => h) rfl dX1_twos_6 ?_
      refine lv_icmp_ge (tgt := 50) hx hb dX1_twos_9 (by decide) (fun c396 => ?_) (fun c396 => ?_)
      · have hf := ifT hf c396
        refine lv_iload_n hx hb dX1_twos_50 rfl (lv_at hl 1 rfl) ?_
        exact fc_reti hx hb hr hlocks hP hS dX1_twos_51 (i1 hf) rfl
      · have hf := ifF hf c396
        refine lv_iload_n hx hb dX1_twos_12 rfl (lv_at hl 2 rfl) ?_
        refine lv_iconst (v := (1 : Int32)) hx hb dX1_twos_13 (by decide) ?_
        refine lv_iadd hx hb dX1_twos_14 ?_
        refine lv_istore_n (lv' := [(3, .int (x2_394 + (1 : Int32))), (0, .ref (a 0)), (1, .int x1_393), (2, .int x2_394)]) hx hb dX1_twos_15 rfl hl (by decide) rfl (fun ls hl => ?_)
        have L16_399 : ∀ (K16_44 : Int32 → Option (Int32)) (hK16_44 : ∀ (x1_400 : Int32) (H : Heap) (locs : List Loc) (ls : Array Slot), va_P (gD G) vwCl (vW G a v) H → va_D A (vW G a v) → va_S A s.heap H locs → lv_has ls 4 [(0, .ref (a 0)), (1, .int x1_400), (2, .int x2_394)] → K16_44 x1_400 = some r → W p l e (headSpec wsX1_twos ({ frames := 4, cells := 0, slots := 0, locals := 94 } : Room)).room s m ([.ref (a 0)] : List Value).toArray below meth c H locs 0 0 (MQ below (FQ G A (vW G a v) (some (.int r))) ([.ref (a 0)] : List Value).toArray s 0 0 A) (F0 m 44 ls [])) (n : Nat) (x1_397 : Int32) (x3_398 : Int32) (H : Heap) (locs : List Loc) (ls : Array Slot), va_P (gD G) vwCl (vW G a v) H → va_D A (vW G a v) → va_S A s.heap H locs → lv_has ls 4 [(0, .ref (a 0)), (1, .int x1_397), (2, .int x2_394), (3, .int x3_398)] → f_X1_twos_16 v x2_394 n x1_397 x3_398 K16_44 = some r → W p l e (headSpec wsX1_twos ({ frames := 4, cells := 0, slots := 0, locals := 94 } : Room)).room s m ([.ref (a 0)] : List Value).toArray below meth c H locs 0 0 (MQ below (FQ G A (vW G a v) (some (.int r))) ([.ref (a 0)] : List Value).toArray s 0 0 A) (F0 m 16 ls []) := by
          intro K16_44 hK16_44 n
          induction n with
          | zero =>
            intro x1_397 x3_398 H locs ls hP hD hS hl hf
            exact no_some hf
          | succ n ih =>
            intro x1_397 x3_398 H locs ls hP hD hS hl hf
            rw [f_X1_twos_16] at hf
            refine lv_iload_n hx hb dX1_twos_16 rfl (lv_at hl 3 rfl) ?_
            refine lv_aload_n hx hb dX1_twos_17 rfl (lv_at hl 0 rfl) ?_
            refine fc_get (v := .int (v 7 1)) (ci := 3) (C := RX6) (T := TX6) (N := 12) hx hb hwX6 hown hE hP 0 (vW_o G a v) rfl 1 (by decide) hk_fieldLink_RX1_19__BrideNotKnown_Valley___brideCount___I_ (fun _ h => h) rfl dX1_twos_18 ?_
            refine lv_icmp_ge (tgt := 44) hx hb dX1_twos_21 (by decide) (fun c401 => ?_) (fun c401 => ?_)
            · have hf := ifT hf c401
              exact hK16_44 x1_397 _ _ _ hP hD hS (lv_sub hl [0, 1, 2] rfl) hf
            · have hf := ifF hf c401
              refine lv_aload_n hx hb dX1_twos_24 rfl (lv_at hl 0 rfl) ?_
              refine lv_iload_n hx hb dX1_twos_25 rfl (lv_at hl 2 rfl) ?_
              refine lv_iload_n hx hb dX1_twos_26 rfl (lv_at hl 3 rfl) ?_
              refine lv_bipush (v := (63 : Int32)) hx hb dX1_twos_27 (by decide) ?_
              obtain ⟨q402, hq402, hf⟩ := bnd hf
              refine fc_callS (Wa' := (vW G a v)) (st1 := [.int q402]) (As := [.ref (a 0), .int x2_394, .int x3_398, .int (63 : Int32)]) (rest := []) hCF (k_X1_areAlike a v x2_394 x3_398 (63 : Int32) hq402) (va_cwS 4 hts gX1_twos_X1_areAlike rfl rfl rfl dk_X1_areAlike ⟨Nat.le_of_ble_eq_true rfl, Nat.le_of_ble_eq_true rfl⟩) hE hAB hP hD hS [0, 1, 2, 3, 4, 5, 6, 7] vW_d (vW_c G a v) (vW_f G a v v) (vW_s G a v v) rfl rfl hl.1 rfl (Nat.le_of_ble_eq_true rfl) dX1_twos_29 ⟨Nat.le_refl _, Nat.le_refl _⟩ (fun H locs hP hD hS => ?_)
              refine lv_if_eq (tgt := 38) hx hb dX1_twos_32 (by decide) (fun c403 => ?_) (fun c403 => ?_)
              · have hf := ifT hf c403
                refine lv_iinc (v := (x3_398 + (1 : Int32))) (lv' := [(3, .int (x3_398 + (1 : Int32))), (0, .ref (a 0)), (1, .int x1_397), (2, .int x2_394)]) hx hb dX1_twos_38 hl (k := 3) rfl rfl (by decide) rfl (fun ls hl => ?_)
                refine lv_goto (tgt := 16) hx hb dX1_twos_41 (by decide) ?_
                exact ih x1_397 (x3_398 + (1 : Int32)) _ _ _ hP hD hS (lv_sub hl [1, 2, 3, 0] rfl) hf
              · have hf := ifF hf c403
                refine lv_iinc (v := (x1_397 + (1 : Int32))) (lv' := [(1, .int (x1_397 + (1 : Int32))), (0, .ref (a 0)), (2, .int x2_394), (3, .int x3_398)]) hx hb dX1_twos_35 hl (k := 1) rfl rfl (by decide) rfl (fun ls hl => ?_)
                refine lv_iinc (v := (x3_398 + (1 : Int32))) (lv' := [(3, .int (x3_398 + (1 : Int32))), (1, .int (x1_397 + (1 : Int32))), (0, .ref (a 0)), (2, .int x2_394)]) hx hb dX1_twos_38 hl (k := 3) rfl rfl (by decide) rfl (fun ls hl => ?_)
                refine lv_goto (tgt := 16) hx hb dX1_twos_41 (by decide) ?_
                exact ih (x1_397 + (1 : Int32)) (x3_398 + (1 : Int32)) _ _ _ hP hD hS (lv_sub hl [2, 1, 3, 0] rfl) hf
        refine L16_399 _ ?_ FUEL x1_393 (x2_394 + (1 : Int32)) _ _ _ hP hD hS (lv_sub hl [1, 2, 3, 0] rfl) hf
        intro x1_404 H locs ls hP hD hS hl hf
        refine lv_iinc (v := (x2_394 + (1 : Int32))) (lv' := [(2, .int (x2_394 + (1 : Int32))), (0, .ref (a 0)), (1, .int x1_404)]) hx hb dX1_twos_44 hl (k := 2) rfl rfl (by decide) rfl (fun ls hl => ?_)
        refine lv_goto (tgt := 4) hx hb dX1_twos_47 (by decide) ?_
        exact ih x1_404 (x2_394 + (1 : Int32)) _ _ _ hP hD hS (lv_sub hl [1, 2, 0] rfl) hf
  exact L4_395 FUEL (0 : Int32) (0 : Int32) _ _ _ hP hD hS (lv_sub hl [2, 1, 0] rfl) hf
theorem dk_X2_greatestDivisor : yX2_greatestDivisor.cls ≠ "java/lang/invoke/MethodHandle" ∧ yX2_greatestDivisor.cls ≠ "java/lang/invoke/VarHandle" ∧ (parseMethodDescriptor yX2_greatestDivisor.desc).map (fun d => d.parameters.length) = some 2 := by decide +kernel
set_option maxHeartbeats 4000000 in
set_option maxRecDepth 100000 in
theorem k_X2_greatestDivisor {l : Launch} {G : Gx} (y0 : Int64) (y2 : Int64) {r : Int64} (hf : f_X2_greatestDivisor y0 y2 = some r) : FC l G yX2_greatestDivisor wsX2_greatestDivisor ({ frames := 0, cells := 0, slots := 0, locals := 0 } : Room) [.long y0, .long y2] ([] : va_W) ([] : va_W) (some (.long r)) := by
  refine fc_head (cc := cX2_greatestDivisor) (maxL := 11) (ret := (some .long)) (C := RX2) (lv := [(0, .long y0), (2, .long y2)]) (by decide) rfl rfl (Nat.le_of_ble_eq_true rfl) rfl ?_
  intro p e s m below meth c ls A hx hb hr hml hown hts hlocks hE hP hD hAB hS hl
  have hCF : CallFix p m c cX2_greatestDivisor 11 s ([.long y0, .long y2] : List Value).toArray wsX2_greatestDivisor RX2 := ⟨hx, hb, hml, hown, hts⟩
  rw [f_X2_greatestDivisor] at hf
  refine lv_lload_n hx hb dX2_greatestDivisor_0 rfl (lv_at hl 0 rfl) ?_
  refine lv_lstore (lv' := [(4, .long y0), (0, .long y0), (2, .long y2)]) hx hb dX2_greatestDivisor_1 hl (by decide) rfl (fun ls hl => ?_)
  refine lv_lload_n hx hb dX2_greatestDivisor_3 rfl (lv_at hl 2 rfl) ?_
  refine lv_lstore (lv' := [(6, .long y2), (4, .long y0), (0, .long y0), (2, .long y2)]) hx hb dX2_greatestDivisor_4 hl (by decide) rfl (fun ls hl => ?_)
  refine lv_iconst (v := (0 : Int32)) hx hb dX2_greatestDivisor_6 (by decide) ?_
  refine lv_istore (lv' := [(8, .int (0 : Int32)), (6, .long y2), (4, .long y0), (0, .long y0), (2, .long y2)]) hx hb dX2_greatestDivisor_7 hl (by decide) rfl (fun ls hl => ?_)
  have L9_408 : ∀ (n : Nat) (y4_405 : Int64) (y6_406 : Int64) (x8_407 : Int32) (H : Heap) (locs : List Loc) (ls : Array Slot), va_P (gD G) vwCl ([] : va_W) H → va_D A ([] : va_W) → va_S A s.heap H locs → lv_has ls 11 [(4, .long y4_405), (6, .long y6_406), (8, .int x8_407)] → f_X2_greatestDivisor_9 n y4_405 y6_406 x8_407 = some r → W p l e (headSpec wsX2_greatestDivisor ({ frames := 0, cells := 0, slots := 0, locals := 0 } : Room)).room s m ([.long y0, .long y2] : List Value).toArray below meth c H locs 0 0 (MQ below (FQ G A ([] : va_W) (some (.long r))) ([.long y0, .long y2] : List Value).toArray s 0 0 A) (F0 m 9 ls []) := by
    intro n
    induction n with
    | zero =>
      intro y4_405 y6_406 x8_407 H locs ls hP hD hS hl hf
      exact no_some hf
    | succ n ih =>
      intro y4_405 y6_406 x8_407 H locs ls hP hD hS hl hf
      rw [f_X2_greatestDivisor_9] at hf
      refine lv_iload hx hb dX2_greatestDivisor_9 (lv_at hl 2 rfl) ?_
      refine lv_bipush (v := (100 : Int32)) hx hb dX2_greatestDivisor_11 (by decide) ?_
      refine lv_icmp_ge (tgt := 44) hx hb dX2_greatestDivisor_13 (by decide) (fun c409 => ?_) (fun c409 => ?_)
      · have hf := ifT hf c409
        refine lv_lload hx hb dX2_greatestDivisor_44 (lv_at hl 0 rfl) ?_
        exact fc_retl hx hb hr hlocks hP hS dX2_greatestDivisor_46 (i1 hf) rfl
      · have hf := ifF hf c409
        refine lv_lload hx hb dX2_greatestDivisor_16 (lv_at hl 1 rfl) ?_
        refine lv_lconst (v := (0 : Int64)) hx hb dX2_greatestDivisor_18 (by decide) ?_
        refine W.lcmp hx hb dX2_greatestDivisor_19 ?_
        refine lv_if_eq (tgt := 44) hx hb dX2_greatestDivisor_20 (by decide) (fun c410 => ?_) (fun c410 => ?_)
        · have hf := ifT hf c410
          refine lv_lload hx hb dX2_greatestDivisor_44 (lv_at hl 0 rfl) ?_
          exact fc_retl hx hb hr hlocks hP hS dX2_greatestDivisor_46 (i1 hf) rfl
        · have hf := ifF hf c410
          refine lv_lload hx hb dX2_greatestDivisor_23 (lv_at hl 0 rfl) ?_
          refine lv_lload hx hb dX2_greatestDivisor_25 (lv_at hl 1 rfl) ?_
          obtain ⟨c411, hf⟩ := gd_some hf
          refine lv_lrem hx hb dX2_greatestDivisor_27 (nzL_ne c411) ?_
          refine lv_lstore (lv' := [(9, .long (y4_405 - y4_405 / y6_406 * y6_406)), (4, .long y4_405), (6, .long y6_406), (8, .int x8_407)]) hx hb dX2_greatestDivisor_28 hl (by decide) rfl (fun ls hl => ?_)
          refine lv_lload hx hb dX2_greatestDivisor_30 (lv_at hl 2 rfl) ?_
          refine lv_lstore (lv' := [(4, .long y6_406), (9, .long (y4_405 - y4_405 / y6_406 * y6_406)), (6, .long y6_406), (8, .int x8_407)]) hx hb dX2_greatestDivisor_32 hl (by decide) rfl (fun ls hl => ?_)
          refine lv_lload hx hb dX2_greatestDivisor_34 (lv_at hl 1 rfl) ?_
          refine lv_lstore (lv' := [(6, .long (y4_405 - y4_405 / y6_406 * y6_406)), (4, .long y6_406), (9, .long (y4_405 - y4_405 / y6_406 * y6_406)), (8, .int x8_407)]) hx hb dX2_greatestDivisor_36 hl (by decide) rfl (fun ls hl => ?_)
          refine lv_iinc (v := (x8_407 + (1 : Int32))) (lv' := [(8, .int (x8_407 + (1 : Int32))), (6, .long (y4_405 - y4_405 / y6_406 * y6_406)), (4, .long y6_406), (9, .long (y4_405 - y4_405 / y6_406 * y6_406))]) hx hb dX2_greatestDivisor_38 hl (k := 3) rfl rfl (by decide) rfl (fun ls hl => ?_)
          refine lv_goto (tgt := 9) hx hb dX2_greatestDivisor_41 (by decide) ?_
          exact ih y6_406 (y4_405 - y4_405 / y6_406 * y6_406) (x8_407 + (1 : Int32)) _ _ _ hP hD hS (lv_sub hl [2, 1, 0] rfl) hf
  exact L9_408 FUEL y0 y2 (0 : Int32) _ _ _ hP hD hS (lv_sub hl [2, 1, 0] rfl) hf
theorem dk_X2_partOf : yX2_partOf.cls ≠ "java/lang/invoke/MethodHandle" ∧ yX2_partOf.cls ≠ "java/lang/invoke/VarHandle" ∧ (parseMethodDescriptor yX2_partOf.desc).map (fun d => d.parameters.length) = some 3 := by decide +kernel
set_option maxHeartbeats 4000000 in
set_option maxRecDepth 100000 in
theorem k_X2_partOf {l : Launch} {G : Gx} (y0 : Int64) (y2 : Int64) (x4 : Int32) {r : Int64} (hf : f_X2_partOf y0 y2 x4 = some r) : FC l G yX2_partOf wsX2_partOf ({ frames := 1, cells := 0, slots := 0, locals := 30 } : Room) [.long y0, .long y2, .int x4] ([] : va_W) ([] : va_W) (some (.long r)) := by
  refine fc_head (cc := cX2_partOf) (maxL := 7) (ret := (some .long)) (C := RX2) (lv := [(0, .long y0), (2, .long y2), (4, .int x4)]) (by decide) rfl rfl (Nat.le_of_ble_eq_true rfl) rfl ?_
  intro p e s m below meth c ls A hx hb hr hml hown hts hlocks hE hP hD hAB hS hl
  have hCF : CallFix p m c cX2_partOf 7 s ([.long y0, .long y2, .int x4] : List Value).toArray wsX2_partOf RX2 := ⟨hx, hb, hml, hown, hts⟩
  rw [f_X2_partOf] at hf
  refine lv_lload_n hx hb dX2_partOf_0 rfl (lv_at hl 0 rfl) ?_
  refine lv_lload_n hx hb dX2_partOf_1 rfl (lv_at hl 1 rfl) ?_
  obtain ⟨q413, hq413, hf⟩ := bnd hf
  refine fc_callS (Wa' := ([] : va_W)) (st1 := [.long q413]) (As := [.long y0, .long y2]) (rest := []) hCF (k_X2_greatestDivisor y0 y2 hq413) (va_cwS 2 hts gX2_partOf_X2_greatestDivisor rfl rfl rfl dk_X2_greatestDivisor ⟨Nat.le_of_ble_eq_true rfl, Nat.le_of_ble_eq_true rfl⟩) hE hAB hP hD hS [] rfl rfl rfl rfl rfl rfl hl.1 rfl (Nat.le_of_ble_eq_true rfl) dX2_partOf_2 ⟨Nat.le_refl _, Nat.le_refl _⟩ (fun H locs hP hD hS => ?_)
  refine lv_lstore (lv' := [(5, .long q413), (0, .long y0), (2, .long y2), (4, .int x4)]) hx hb dX2_partOf_5 hl (by decide) rfl (fun ls hl => ?_)
  refine lv_lload hx hb dX2_partOf_7 (lv_at hl 0 rfl) ?_
  refine lv_lconst (v := (0 : Int64)) hx hb dX2_partOf_9 (by decide) ?_
  refine W.lcmp hx hb dX2_partOf_10 ?_
  refine lv_if_ne (tgt := 18) hx hb dX2_partOf_11 (by decide) (fun c414 => ?_) (fun c414 => ?_)
  · have hf := ifF hf c414
    refine lv_iload hx hb dX2_partOf_18 (lv_at hl 3 rfl) ?_
    refine lv_if_ne (tgt := 27) hx hb dX2_partOf_20 (by decide) (fun c415 => ?_) (fun c415 => ?_)
    · have hf := ifF hf c415
      refine lv_lload_n hx hb dX2_partOf_27 rfl (lv_at hl 2 rfl) ?_
      refine lv_lload hx hb dX2_partOf_28 (lv_at hl 0 rfl) ?_
      obtain ⟨c416, hf⟩ := gd_some hf
      refine lv_ldiv hx hb dX2_partOf_30 (nzL_ne c416) ?_
      exact fc_retl hx hb hr hlocks hP hS dX2_partOf_31 (i1 hf) rfl
    · have hf := ifT hf c415
      refine lv_lload_n hx hb dX2_partOf_23 rfl (lv_at hl 1 rfl) ?_
      refine lv_goto (tgt := 28) hx hb dX2_partOf_24 (by decide) ?_
      refine lv_lload hx hb dX2_partOf_28 (lv_at hl 0 rfl) ?_
      obtain ⟨c417, hf⟩ := gd_some hf
      refine lv_ldiv hx hb dX2_partOf_30 (nzL_ne c417) ?_
      exact fc_retl hx hb hr hlocks hP hS dX2_partOf_31 (i1 hf) rfl
  · have hf := ifT hf c414
    refine lv_iload hx hb dX2_partOf_14 (lv_at hl 3 rfl) ?_
    refine lv_i2l (v := x4.toInt64) hx hb dX2_partOf_16 rfl ?_
    exact fc_retl hx hb hr hlocks hP hS dX2_partOf_17 (i1 hf) rfl
theorem dk_X2_meanToes : yX2_meanToes.cls ≠ "java/lang/invoke/MethodHandle" ∧ yX2_meanToes.cls ≠ "java/lang/invoke/VarHandle" ∧ (parseMethodDescriptor yX2_meanToes.desc).map (fun d => d.parameters.length) = some 2 := by decide +kernel
theorem iu_X2_meanToes_X6 : ∀ w ∈ u_ws RX6 TX6 12, w ∈ wsX2_meanToes := by decide +kernel
set_option maxHeartbeats 4000000 in
set_option maxRecDepth 100000 in
theorem k_X2_meanToes {l : Launch} {G : Gx} (a : Nat → Nat) (v : St) (x1 : Int32) {r : Int64} (hf : f_X2_meanToes v x1 = some r) : FC l G yX2_meanToes wsX2_meanToes ({ frames := 2, cells := 0, slots := 0, locals := 56 } : Room) [.ref (a 0), .int x1] (vW G a v) (vW G a v) (some (.long r)) := by
  refine fc_head (cc := cX2_meanToes) (maxL := 5) (ret := (some .long)) (C := RX2) (lv := [(0, .ref (a 0)), (1, .int x1)]) (by decide) rfl rfl (Nat.le_of_ble_eq_true rfl) rfl ?_
  intro p e s m below meth c ls A hx hb hr hml hown hts hlocks hE hP hD hAB hS hl
  have hCF : CallFix p m c cX2_meanToes 5 s ([.ref (a 0), .int x1] : List Value).toArray wsX2_meanToes RX2 := ⟨hx, hb, hml, hown, hts⟩
  have hwX6 : ∀ w ∈ u_ws RX6 TX6 12, w.before ([.ref (a 0), .int x1] : List Value).toArray s = true := fun w h => hts w (iu_X2_meanToes_X6 w h)
  have hk_fieldLink_RX2_44__BrideNotKnown_Valley___brideCount___I_ := hts (.fieldLink RX2 44 "BrideNotKnown$Valley" "brideCount" "I") (List.mem_of_getElem? (i := 1) rfl)
  have hk_methodLink_RX2_26_Lib_Math_max_name := hts (.methodLink RX2 26 Lib.Math.max.name) (List.mem_of_getElem? (i := 2) rfl)
  have hk_static_Lib_Math_max_name := hts (.static Lib.Math.max.name) (List.mem_of_getElem? (i := 3) rfl)
  have hk_initialized__java_lang_Math_ := hts (.initialized "java/lang/Math") (List.mem_of_getElem? (i := 4) rfl)
  have hk_code_Lib_Math_max_name_Lib_Math_max_code_2__some__int_ := hts (.code Lib.Math.max.name Lib.Math.max.code 2 (some .int)) (List.mem_of_getElem? (i := 5) rfl)
  rw [f_X2_meanToes] at hf
  refine lv_lconst (v := (0 : Int64)) hx hb dX2_meanToes_0 (by decide) ?_
  refine lv_lstore_n (lv' := [(2, .long (0 : Int64)), (0, .ref (a 0)), (1, .int x1)]) hx hb dX2_meanToes_1 rfl hl (by decide) rfl (fun ls hl => ?_)
  refine lv_iconst (v := (0 : Int32)) hx hb dX2_meanToes_2 (by decide) ?_
  refine lv_istore (lv' := [(4, .int (0 : Int32)), (2, .long (0 : Int64)), (0, .ref (a 0)), (1, .int x1)]) hx hb dX2_meanToes_3 hl (by decide) rfl (fun ls hl => ?_)
  have L5_424 : ∀ (K5_33 : Int64 → Option (Int64)) (hK5_33 : ∀ (y2_425 : Int64) (H : Heap) (locs : List Loc) (ls : Array Slot), va_P (gD G) vwCl (vW G a v) H → va_D A (vW G a v) → va_S A s.heap H locs → lv_has ls 5 [(0, .ref (a 0)), (1, .int x1), (2, .long y2_425)] → K5_33 y2_425 = some r → W p l e (headSpec wsX2_meanToes ({ frames := 2, cells := 0, slots := 0, locals := 56 } : Room)).room s m ([.ref (a 0), .int x1] : List Value).toArray below meth c H locs 0 0 (MQ below (FQ G A (vW G a v) (some (.long r))) ([.ref (a 0), .int x1] : List Value).toArray s 0 0 A) (F0 m 33 ls [])) (n : Nat) (y2_422 : Int64) (x4_423 : Int32) (H : Heap) (locs : List Loc) (ls : Array Slot), va_P (gD G) vwCl (vW G a v) H → va_D A (vW G a v) → va_S A s.heap H locs → lv_has ls 5 [(0, .ref (a 0)), (1, .int x1), (2, .long y2_422), (4, .int x4_423)] → f_X2_meanToes_5 v n y2_422 x4_423 K5_33 = some r → W p l e (headSpec wsX2_meanToes ({ frames := 2, cells := 0, slots := 0, locals := 56 } : Room)).room s m ([.ref (a 0), .int x1] : List Value).toArray below meth c H locs 0 0 (MQ below (FQ G A (vW G a v) (some (.long r))) ([.ref (a 0), .int x1] : List Value).toArray s 0 0 A) (F0 m 5 ls []) := by
    intro K5_33 hK5_33 n
    induction n with
    | zero =>
      intro y2_422 x4_423 H locs ls hP hD hS hl hf
      exact no_some hf
    | succ n ih =>
      intro y2_422 x4_423 H locs ls hP hD hS hl hf
      rw [f_X2_meanToes_5] at hf
      refine lv_iload hx hb dX2_meanToes_5 (lv_at hl 3 rfl) ?_
      refine lv_aload_n hx hb dX2_meanToes_7 rfl (lv_at hl 0 rfl) ?_
      refine fc_get (v := .int (v 7 1)) (ci := 3) (C := RX6) (T := TX6) (N := 12) hx hb hwX6 hown hE hP 0 (vW_o G a v) rfl 1 (by decide) hk_fieldLink_RX2_44__BrideNotKnown_Valley___brideCount___I_ (fun _ h => h) rfl dX2_meanToes_8 ?_
      refine lv_icmp_ge (tgt := 33) hx hb dX2_meanToes_11 (by decide) (fun c426 => ?_) (fun c426 => ?_)
      · have hf := ifT hf c426
        exact hK5_33 y2_422 _ _ _ hP hD hS (lv_sub hl [0, 1, 2] rfl) hf
      · have hf := ifF hf c426
        refine lv_lload_n hx hb dX2_meanToes_14 rfl (lv_at hl 2 rfl) ?_
        refine lv_aload_n hx hb dX2_meanToes_15 rfl (lv_at hl 0 rfl) ?_
        refine lv_iload hx hb dX2_meanToes_16 (lv_at hl 3 rfl) ?_
        obtain ⟨q427, hq427, hf⟩ := bnd hf
        refine fc_callV (Wa' := (vW G a v)) (st1 := [.int q427, .long y2_422]) (As := [.int x4_423]) (rest := [.long y2_422]) hCF (k_X6_footOf a v x4_423 hq427) (cwV 1 hts gX2_meanToes_X6_footOf rfl rfl rfl ⟨rfl, dk_X6_footOf⟩ ⟨Nat.le_of_ble_eq_true rfl, Nat.le_of_ble_eq_true rfl⟩) hE hAB hP hD hS [0, 1, 2, 3, 4, 5, 6, 7] vW_d (vW_c G a v) (va_recv hE.1 hP (ci := 3) (q0 := 0) rfl (vW_o G a v)) (vW_f G a v v) (vW_s G a v v) rfl rfl hl.1 rfl (Nat.le_of_ble_eq_true rfl) dX2_meanToes_18 ⟨Nat.le_refl _, Nat.le_refl _⟩ (fun H locs hP hD hS => ?_)
        obtain ⟨q428, hq428, hf⟩ := bnd hf
        refine fc_callS (Wa' := (vW G a v)) (st1 := [.int q428, .long y2_422]) (As := [.int q427]) (rest := [.long y2_422]) hCF (k_J6_bitCount_0f7a4 q427 hq428) (va_cwS 1 hts gX2_meanToes_J6_bitCount_0f7a4 rfl rfl rfl dk_J6_bitCount_0f7a4 ⟨Nat.le_of_ble_eq_true rfl, Nat.le_of_ble_eq_true rfl⟩) hE hAB hP hD hS [] rfl rfl rfl rfl rfl rfl hl.1 rfl (Nat.le_of_ble_eq_true rfl) dX2_meanToes_21 ⟨Nat.le_refl _, Nat.le_refl _⟩ (fun H locs hP hD hS => ?_)
        refine lv_i2l (v := q428.toInt64) hx hb dX2_meanToes_24 rfl ?_
        refine lv_ladd hx hb dX2_meanToes_25 ?_
        refine lv_lstore_n (lv' := [(2, .long (y2_422 + (q428.toInt64))), (0, .ref (a 0)), (1, .int x1), (4, .int x4_423)]) hx hb dX2_meanToes_26 rfl hl (by decide) rfl (fun ls hl => ?_)
        refine lv_iinc (v := (x4_423 + (1 : Int32))) (lv' := [(4, .int (x4_423 + (1 : Int32))), (2, .long (y2_422 + (q428.toInt64))), (0, .ref (a 0)), (1, .int x1)]) hx hb dX2_meanToes_27 hl (k := 3) rfl rfl (by decide) rfl (fun ls hl => ?_)
        refine lv_goto (tgt := 5) hx hb dX2_meanToes_30 (by decide) ?_
        exact ih (y2_422 + (q428.toInt64)) (x4_423 + (1 : Int32)) _ _ _ hP hD hS (lv_sub hl [2, 3, 1, 0] rfl) hf
  refine L5_424 _ ?_ FUEL (0 : Int64) (0 : Int32) _ _ _ hP hD hS (lv_sub hl [2, 3, 1, 0] rfl) hf
  intro y2_429 H locs ls hP hD hS hl hf
  refine lv_lload_n hx hb dX2_meanToes_33 rfl (lv_at hl 2 rfl) ?_
  refine lv_iconst (v := (1 : Int32)) hx hb dX2_meanToes_34 (by decide) ?_
  refine lv_aload_n hx hb dX2_meanToes_35 rfl (lv_at hl 0 rfl) ?_
  refine fc_get (v := .int (v 7 1)) (ci := 3) (C := RX6) (T := TX6) (N := 12) hx hb hwX6 hown hE hP 0 (vW_o G a v) rfl 1 (by decide) hk_fieldLink_RX2_44__BrideNotKnown_Valley___brideCount___I_ (fun _ h => h) rfl dX2_meanToes_36 ?_
  refine va_mmax hx hb (hml.trans hl.1.symm) hown hk_methodLink_RX2_26_Lib_Math_max_name hk_static_Lib_Math_max_name hk_initialized__java_lang_Math_ hk_code_Lib_Math_max_name_Lib_Math_max_code_2__some__int_ (Nat.le_of_ble_eq_true rfl) (Nat.le_of_ble_eq_true rfl) (Nat.zero_le _) (Nat.zero_le _) dX2_meanToes_39 ?_
  refine lv_i2l (v := (if (1 : Int32) < (v 7 1) then (v 7 1) else (1 : Int32)).toInt64) hx hb dX2_meanToes_42 rfl ?_
  refine lv_iload_n hx hb dX2_meanToes_43 rfl (lv_at hl 1 rfl) ?_
  obtain ⟨q430, hq430, hf⟩ := bnd hf
  refine fc_callS (Wa' := (vW G a v)) (st1 := [.long q430]) (As := [.long y2_429, .long ((if (1 : Int32) < (v 7 1) then (v 7 1) else (1 : Int32)).toInt64), .int x1]) (rest := []) hCF (k_X2_partOf y2_429 ((if (1 : Int32) < (v 7 1) then (v 7 1) else (1 : Int32)).toInt64) x1 hq430) (va_cwS 3 hts gX2_meanToes_X2_partOf rfl rfl rfl dk_X2_partOf ⟨Nat.le_of_ble_eq_true rfl, Nat.le_of_ble_eq_true rfl⟩) hE hAB hP hD hS [] rfl rfl rfl rfl rfl rfl hl.1 rfl (Nat.le_of_ble_eq_true rfl) dX2_meanToes_44 ⟨Nat.le_refl _, Nat.le_refl _⟩ (fun H locs hP hD hS => ?_)
  exact fc_retl hx hb hr hlocks hP hS dX2_meanToes_47 (i1 hf) rfl
theorem dk_X2_ofTaking : yX2_ofTaking.cls ≠ "java/lang/invoke/MethodHandle" ∧ yX2_ofTaking.cls ≠ "java/lang/invoke/VarHandle" ∧ (parseMethodDescriptor yX2_ofTaking.desc).map (fun d => d.parameters.length) = some 4 := by decide +kernel
theorem iu_X2_ofTaking_X6 : ∀ w ∈ u_ws RX6 TX6 12, w ∈ wsX2_ofTaking := by decide +kernel
set_option maxHeartbeats 4000000 in
set_option maxRecDepth 100000 in
theorem k_X2_ofTaking {l : Launch} {G : Gx} (a : Nat → Nat) (v : St) (x1 : Int32) (x2 : Int32) (x3 : Int32) {r : Int64} (hf : f_X2_ofTaking v x1 x2 x3 = some r) : FC l G yX2_ofTaking wsX2_ofTaking ({ frames := 5, cells := 0, slots := 0, locals := 120 } : Room) [.ref (a 0), .int x1, .int x2, .int x3] (vW G a v) (vW G a v) (some (.long r)) := by
  refine fc_head (cc := cX2_ofTaking) (maxL := 12) (ret := (some .long)) (C := RX2) (lv := [(0, .ref (a 0)), (1, .int x1), (2, .int x2), (3, .int x3)]) (by decide) rfl rfl (Nat.le_of_ble_eq_true rfl) rfl ?_
  intro p e s m below meth c ls A hx hb hr hml hown hts hlocks hE hP hD hAB hS hl
  have hCF : CallFix p m c cX2_ofTaking 12 s ([.ref (a 0), .int x1, .int x2, .int x3] : List Value).toArray wsX2_ofTaking RX2 := ⟨hx, hb, hml, hown, hts⟩
  have hwX6 : ∀ w ∈ u_ws RX6 TX6 12, w.before ([.ref (a 0), .int x1, .int x2, .int x3] : List Value).toArray s = true := fun w h => hts w (iu_X2_ofTaking_X6 w h)
  have hk_fieldLink_RX2_7__BrideNotKnown_Valley___groomCount___I_ := hts (.fieldLink RX2 7 "BrideNotKnown$Valley" "groomCount" "I") (List.mem_of_getElem? (i := 1) rfl)
  have hk_methodLink_RX2_26_Lib_Math_max_name := hts (.methodLink RX2 26 Lib.Math.max.name) (List.mem_of_getElem? (i := 2) rfl)
  have hk_static_Lib_Math_max_name := hts (.static Lib.Math.max.name) (List.mem_of_getElem? (i := 3) rfl)
  have hk_initialized__java_lang_Math_ := hts (.initialized "java/lang/Math") (List.mem_of_getElem? (i := 4) rfl)
  have hk_code_Lib_Math_max_name_Lib_Math_max_code_2__some__int_ := hts (.code Lib.Math.max.name Lib.Math.max.code 2 (some .int)) (List.mem_of_getElem? (i := 5) rfl)
  have hk_initialized_RX7 := hts (.initialized RX7) (List.mem_of_getElem? (i := 13) rfl)
  have hk_static_yX7_has := hts (.static yX7_has) (List.mem_of_getElem? (i := 12) rfl)
  rw [f_X2_ofTaking] at hf
  refine lv_lconst (v := (1 : Int64)) hx hb dX2_ofTaking_0 (by decide) ?_
  refine lv_lstore (lv' := [(4, .long (1 : Int64)), (0, .ref (a 0)), (1, .int x1), (2, .int x2), (3, .int x3)]) hx hb dX2_ofTaking_1 hl (by decide) rfl (fun ls hl => ?_)
  refine lv_lconst (v := (1 : Int64)) hx hb dX2_ofTaking_3 (by decide) ?_
  refine lv_lstore (lv' := [(6, .long (1 : Int64)), (4, .long (1 : Int64)), (0, .ref (a 0)), (1, .int x1), (2, .int x2), (3, .int x3)]) hx hb dX2_ofTaking_4 hl (by decide) rfl (fun ls hl => ?_)
  refine lv_iconst (v := (0 : Int32)) hx hb dX2_ofTaking_6 (by decide) ?_
  refine lv_istore (lv' := [(8, .int (0 : Int32)), (6, .long (1 : Int64)), (4, .long (1 : Int64)), (0, .ref (a 0)), (1, .int x1), (2, .int x2), (3, .int x3)]) hx hb dX2_ofTaking_7 hl (by decide) rfl (fun ls hl => ?_)
  refine lv_iconst (v := (0 : Int32)) hx hb dX2_ofTaking_9 (by decide) ?_
  refine lv_istore (lv' := [(9, .int (0 : Int32)), (8, .int (0 : Int32)), (6, .long (1 : Int64)), (4, .long (1 : Int64)), (0, .ref (a 0)), (1, .int x1), (2, .int x2), (3, .int x3)]) hx hb dX2_ofTaking_10 hl (by decide) rfl (fun ls hl => ?_)
  have L12_449 : ∀ (K12_101 : Int64 → Int64 → Option (Int64)) (hK12_101 : ∀ (y4_450 : Int64) (y6_451 : Int64) (H : Heap) (locs : List Loc) (ls : Array Slot), va_P (gD G) vwCl (vW G a v) H → va_D A (vW G a v) → va_S A s.heap H locs → lv_has ls 12 [(3, .int x3), (4, .long y4_450), (6, .long y6_451)] → K12_101 y4_450 y6_451 = some r → W p l e (headSpec wsX2_ofTaking ({ frames := 5, cells := 0, slots := 0, locals := 120 } : Room)).room s m ([.ref (a 0), .int x1, .int x2, .int x3] : List Value).toArray below meth c H locs 0 0 (MQ below (FQ G A (vW G a v) (some (.long r))) ([.ref (a 0), .int x1, .int x2, .int x3] : List Value).toArray s 0 0 A) (F0 m 101 ls [])) (n : Nat) (y4_445 : Int64) (y6_446 : Int64) (x8_447 : Int32) (x9_448 : Int32) (H : Heap) (locs : List Loc) (ls : Array Slot), va_P (gD G) vwCl (vW G a v) H → va_D A (vW G a v) → va_S A s.heap H locs → lv_has ls 12 [(0, .ref (a 0)), (1, .int x1), (2, .int x2), (3, .int x3), (4, .long y4_445), (6, .long y6_446), (8, .int x8_447), (9, .int x9_448)] → f_X2_ofTaking_12 v x1 x2 n y4_445 y6_446 x8_447 x9_448 K12_101 = some r → W p l e (headSpec wsX2_ofTaking ({ frames := 5, cells := 0, slots := 0, locals := 120 } : Room)).room s m ([.ref (a 0), .int x1, .int x2, .int x3] : List Value).toArray below meth c H locs 0 0 (MQ below (FQ G A (vW G a v) (some (.long r))) ([.ref (a 0), .int x1, .int x2, .int x3] : List Value).toArray s 0 0 A) (F0 m 12 ls []) := by
    intro K12_101 hK12_101 n
    induction n with
    | zero =>
      intro y4_445 y6_446 x8_447 x9_448 H locs ls hP hD hS hl hf
      exact no_some hf
    | succ n ih =>
      intro y4_445 y6_446 x8_447 x9_448 H locs ls hP hD hS hl hf
      rw [f_X2_ofTaking_12] at hf
      refine lv_iload hx hb dX2_ofTaking_12 (lv_at hl 7 rfl) ?_
      refine lv_aload_n hx hb dX2_ofTaking_14 rfl (lv_at hl 0 rfl) ?_
      refine fc_get (v := .int (v 7 3)) (ci := 3) (C := RX6) (T := TX6) (N := 12) hx hb hwX6 hown hE hP 0 (vW_o G a v) rfl 7 (by decide) hk_fieldLink_RX2_7__BrideNotKnown_Valley___groomCount___I_ (fun _ h => h) rfl dX2_ofTaking_15 ?_
      refine lv_icmp_ge (tgt := 101) hx hb dX2_ofTaking_18 (by decide) (fun c452 => ?_) (fun c452 => ?_)
      · have hf := ifT hf c452
        exact hK12_101 y4_445 y6_446 _ _ _ hP hD hS (lv_sub hl [3, 4, 5] rfl) hf
      · have hf := ifF hf c452
        refine lv_aload_n hx hb dX2_ofTaking_21 rfl (lv_at hl 0 rfl) ?_
        refine lv_iload hx hb dX2_ofTaking_22 (lv_at hl 7 rfl) ?_
        obtain ⟨q453, hq453, hf⟩ := bnd hf
        refine fc_callV (Wa' := (vW G a v)) (st1 := [.int q453]) (As := [.int x9_448]) (rest := []) hCF (k_X6_isUnmarried a v x9_448 hq453) (cwV 1 hts gX2_ofTaking_X6_isUnmarried rfl rfl rfl ⟨rfl, dk_X6_isUnmarried⟩ ⟨Nat.le_of_ble_eq_true rfl, Nat.le_of_ble_eq_true rfl⟩) hE hAB hP hD hS [0, 1, 2, 3, 4, 5, 6, 7] vW_d (vW_c G a v) (va_recv hE.1 hP (ci := 3) (q0 := 0) rfl (vW_o G a v)) (vW_f G a v v) (vW_s G a v v) rfl rfl hl.1 rfl (Nat.le_of_ble_eq_true rfl) dX2_ofTaking_24 ⟨Nat.le_refl _, Nat.le_refl _⟩ (fun H locs hP hD hS => ?_)
        refine lv_if_eq (tgt := 95) hx hb dX2_ofTaking_27 (by decide) (fun c454 => ?_) (fun c454 => ?_)
        · have hf := ifT hf c454
          refine lv_iinc (v := (x9_448 + (1 : Int32))) (lv' := [(9, .int (x9_448 + (1 : Int32))), (0, .ref (a 0)), (1, .int x1), (2, .int x2), (3, .int x3), (4, .long y4_445), (6, .long y6_446), (8, .int x8_447)]) hx hb dX2_ofTaking_95 hl (k := 7) rfl rfl (by decide) rfl (fun ls hl => ?_)
          refine lv_goto (tgt := 12) hx hb dX2_ofTaking_98 (by decide) ?_
          exact ih y4_445 y6_446 x8_447 (x9_448 + (1 : Int32)) _ _ _ hP hD hS (lv_sub hl [1, 2, 3, 4, 5, 6, 7, 0] rfl) hf
        · have hf := ifF hf c454
          refine lv_iload hx hb dX2_ofTaking_30 (lv_at hl 6 rfl) ?_
          refine lv_iload_n hx hb dX2_ofTaking_32 rfl (lv_at hl 2 rfl) ?_
          refine lv_icmp_ge (tgt := 95) hx hb dX2_ofTaking_33 (by decide) (fun c455 => ?_) (fun c455 => ?_)
          · have hf := ifT hf c455
            refine lv_iinc (v := (x9_448 + (1 : Int32))) (lv' := [(9, .int (x9_448 + (1 : Int32))), (0, .ref (a 0)), (1, .int x1), (2, .int x2), (3, .int x3), (4, .long y4_445), (6, .long y6_446), (8, .int x8_447)]) hx hb dX2_ofTaking_95 hl (k := 7) rfl rfl (by decide) rfl (fun ls hl => ?_)
            refine lv_goto (tgt := 12) hx hb dX2_ofTaking_98 (by decide) ?_
            exact ih y4_445 y6_446 x8_447 (x9_448 + (1 : Int32)) _ _ _ hP hD hS (lv_sub hl [1, 2, 3, 4, 5, 6, 7, 0] rfl) hf
          · have hf := ifF hf c455
            refine lv_iinc (v := (x8_447 + (1 : Int32))) (lv' := [(8, .int (x8_447 + (1 : Int32))), (0, .ref (a 0)), (1, .int x1), (2, .int x2), (3, .int x3), (4, .long y4_445), (6, .long y6_446), (9, .int x9_448)]) hx hb dX2_ofTaking_36 hl (k := 6) rfl rfl (by decide) rfl (fun ls hl => ?_)
            refine lv_aload_n hx hb dX2_ofTaking_39 rfl (lv_at hl 1 rfl) ?_
            refine lv_iload hx hb dX2_ofTaking_40 (lv_at hl 7 rfl) ?_
            obtain ⟨q456, hq456, hf⟩ := bnd hf
            refine fc_callV (Wa' := (vW G a v)) (st1 := [.int q456]) (As := [.int x9_448]) (rest := []) hCF (k_X6_choiceOf a v x9_448 hq456) (cwV 1 hts gX2_ofTaking_X6_choiceOf rfl rfl rfl ⟨rfl, dk_X6_choiceOf⟩ ⟨Nat.le_of_ble_eq_true rfl, Nat.le_of_ble_eq_true rfl⟩) hE hAB hP hD hS [0, 1, 2, 3, 4, 5, 6, 7] vW_d (vW_c G a v) (va_recv hE.1 hP (ci := 3) (q0 := 0) rfl (vW_o G a v)) (vW_f G a v v) (vW_s G a v v) rfl rfl hl.1 rfl (Nat.le_of_ble_eq_true rfl) dX2_ofTaking_42 ⟨Nat.le_refl _, Nat.le_refl _⟩ (fun H locs hP hD hS => ?_)
            refine lv_istore (lv' := [(10, .int q456), (8, .int (x8_447 + (1 : Int32))), (0, .ref (a 0)), (1, .int x1), (2, .int x2), (3, .int x3), (4, .long y4_445), (6, .long y6_446), (9, .int x9_448)]) hx hb dX2_ofTaking_45 hl (by decide) rfl (fun ls hl => ?_)
            refine lv_iload hx hb dX2_ofTaking_47 (lv_at hl 0 rfl) ?_
            obtain ⟨q457, hq457, hf⟩ := bnd hf
            refine fc_callS (Wa' := (vW G a v)) (st1 := [.int q457]) (As := [.int q456]) (rest := []) hCF (k_J6_bitCount_0f7a4 q456 hq457) (va_cwS 1 hts gX2_ofTaking_J6_bitCount_0f7a4 rfl rfl rfl dk_J6_bitCount_0f7a4 ⟨Nat.le_of_ble_eq_true rfl, Nat.le_of_ble_eq_true rfl⟩) hE hAB hP hD hS [] rfl rfl rfl rfl rfl rfl hl.1 rfl (Nat.le_of_ble_eq_true rfl) dX2_ofTaking_49 ⟨Nat.le_refl _, Nat.le_refl _⟩ (fun H locs hP hD hS => ?_)
            refine lv_istore (lv' := [(11, .int q457), (10, .int q456), (8, .int (x8_447 + (1 : Int32))), (0, .ref (a 0)), (1, .int x1), (2, .int x2), (3, .int x3), (4, .long y4_445), (6, .long y6_446), (9, .int x9_448)]) hx hb dX2_ofTaking_52 hl (by decide) rfl (fun ls hl => ?_)
            refine lv_lload hx hb dX2_ofTaking_54 (lv_at hl 7 rfl) ?_
            refine lv_iconst (v := (1 : Int32)) hx hb dX2_ofTaking_56 (by decide) ?_
            refine lv_iload hx hb dX2_ofTaking_57 (lv_at hl 0 rfl) ?_
            refine va_mmax hx hb (hml.trans hl.1.symm) hown hk_methodLink_RX2_26_Lib_Math_max_name hk_static_Lib_Math_max_name hk_initialized__java_lang_Math_ hk_code_Lib_Math_max_name_Lib_Math_max_code_2__some__int_ (Nat.le_of_ble_eq_true rfl) (Nat.le_of_ble_eq_true rfl) (Nat.zero_le _) (Nat.zero_le _) dX2_ofTaking_59 ?_
            refine lv_i2l (v := (if (1 : Int32) < q457 then q457 else (1 : Int32)).toInt64) hx hb dX2_ofTaking_62 rfl ?_
            refine lv_lmul hx hb dX2_ofTaking_63 ?_
            refine lv_lstore (lv' := [(4, .long (y4_445 * ((if (1 : Int32) < q457 then q457 else (1 : Int32)).toInt64))), (11, .int q457), (10, .int q456), (8, .int (x8_447 + (1 : Int32))), (0, .ref (a 0)), (1, .int x1), (2, .int x2), (3, .int x3), (6, .long y6_446), (9, .int x9_448)]) hx hb dX2_ofTaking_64 hl (by decide) rfl (fun ls hl => ?_)
            refine lv_lload hx hb dX2_ofTaking_66 (lv_at hl 8 rfl) ?_
            refine lv_iload hx hb dX2_ofTaking_68 (lv_at hl 2 rfl) ?_
            refine lv_iload_n hx hb dX2_ofTaking_70 rfl (lv_at hl 5 rfl) ?_
            obtain ⟨q458, hq458, hf⟩ := bnd hf
            refine fc_callN (Wa' := (vW G a v)) (st1 := [.int q458, .long y6_446]) (As := [.int q456, .int x1]) (rest := [.long y6_446]) hCF (k_X7_has q456 x1 hq458) ⟨va_cnB 2 hts gX2_ofTaking_X7_has_n32 rfl rfl rfl (hE.2.1 _ (List.mem_of_getElem? (i := 20) rfl)) hk_initialized_RX7 dk_X7_has ⟨Nat.le_of_ble_eq_true rfl, Nat.le_of_ble_eq_true rfl⟩, hk_static_yX7_has, trivial⟩ hE hAB hP hD hS [] rfl rfl rfl rfl rfl rfl hl.1 rfl (Nat.le_of_ble_eq_true rfl) dX2_ofTaking_71 ⟨Nat.le_refl _, Nat.le_refl _⟩ (fun H locs hP hD hS => ?_)
            refine lv_if_eq (tgt := 85) hx hb dX2_ofTaking_74 (by decide) (fun c459 => ?_) (fun c459 => ?_)
            · have hf := ifT hf c459
              refine lv_iconst (v := (1 : Int32)) hx hb dX2_ofTaking_85 (by decide) ?_
              refine lv_iload hx hb dX2_ofTaking_86 (lv_at hl 1 rfl) ?_
              refine va_mmax hx hb (hml.trans hl.1.symm) hown hk_methodLink_RX2_26_Lib_Math_max_name hk_static_Lib_Math_max_name hk_initialized__java_lang_Math_ hk_code_Lib_Math_max_name_Lib_Math_max_code_2__some__int_ (Nat.le_of_ble_eq_true rfl) (Nat.le_of_ble_eq_true rfl) (Nat.zero_le _) (Nat.zero_le _) dX2_ofTaking_88 ?_
              refine lv_i2l (v := (if (1 : Int32) < q457 then q457 else (1 : Int32)).toInt64) hx hb dX2_ofTaking_91 rfl ?_
              refine lv_lmul hx hb dX2_ofTaking_92 ?_
              refine lv_lstore (lv' := [(6, .long (y6_446 * ((if (1 : Int32) < q457 then q457 else (1 : Int32)).toInt64))), (4, .long (y4_445 * ((if (1 : Int32) < q457 then q457 else (1 : Int32)).toInt64))), (11, .int q457), (10, .int q456), (8, .int (x8_447 + (1 : Int32))), (0, .ref (a 0)), (1, .int x1), (2, .int x2), (3, .int x3), (9, .int x9_448)]) hx hb dX2_ofTaking_93 hl (by decide) rfl (fun ls hl => ?_)
              refine lv_iinc (v := (x9_448 + (1 : Int32))) (lv' := [(9, .int (x9_448 + (1 : Int32))), (6, .long (y6_446 * ((if (1 : Int32) < q457 then q457 else (1 : Int32)).toInt64))), (4, .long (y4_445 * ((if (1 : Int32) < q457 then q457 else (1 : Int32)).toInt64))), (11, .int q457), (10, .int q456), (8, .int (x8_447 + (1 : Int32))), (0, .ref (a 0)), (1, .int x1), (2, .int x2), (3, .int x3)]) hx hb dX2_ofTaking_95 hl (k := 9) rfl rfl (by decide) rfl (fun ls hl => ?_)
              refine lv_goto (tgt := 12) hx hb dX2_ofTaking_98 (by decide) ?_
              exact ih (y4_445 * ((if (1 : Int32) < q457 then q457 else (1 : Int32)).toInt64)) (y6_446 * ((if (1 : Int32) < q457 then q457 else (1 : Int32)).toInt64)) (x8_447 + (1 : Int32)) (x9_448 + (1 : Int32)) _ _ _ hP hD hS (lv_sub hl [6, 7, 8, 9, 2, 1, 5, 0] rfl) hf
            · have hf := ifF hf c459
              refine lv_iload hx hb dX2_ofTaking_77 (lv_at hl 1 rfl) ?_
              refine lv_iconst (v := (1 : Int32)) hx hb dX2_ofTaking_79 (by decide) ?_
              refine lv_isub hx hb dX2_ofTaking_80 ?_
              refine lv_i2l (v := (q457 - (1 : Int32)).toInt64) hx hb dX2_ofTaking_81 rfl ?_
              refine lv_goto (tgt := 92) hx hb dX2_ofTaking_82 (by decide) ?_
              refine lv_lmul hx hb dX2_ofTaking_92 ?_
              refine lv_lstore (lv' := [(6, .long (y6_446 * ((q457 - (1 : Int32)).toInt64))), (4, .long (y4_445 * ((if (1 : Int32) < q457 then q457 else (1 : Int32)).toInt64))), (11, .int q457), (10, .int q456), (8, .int (x8_447 + (1 : Int32))), (0, .ref (a 0)), (1, .int x1), (2, .int x2), (3, .int x3), (9, .int x9_448)]) hx hb dX2_ofTaking_93 hl (by decide) rfl (fun ls hl => ?_)
              refine lv_iinc (v := (x9_448 + (1 : Int32))) (lv' := [(9, .int (x9_448 + (1 : Int32))), (6, .long (y6_446 * ((q457 - (1 : Int32)).toInt64))), (4, .long (y4_445 * ((if (1 : Int32) < q457 then q457 else (1 : Int32)).toInt64))), (11, .int q457), (10, .int q456), (8, .int (x8_447 + (1 : Int32))), (0, .ref (a 0)), (1, .int x1), (2, .int x2), (3, .int x3)]) hx hb dX2_ofTaking_95 hl (k := 9) rfl rfl (by decide) rfl (fun ls hl => ?_)
              refine lv_goto (tgt := 12) hx hb dX2_ofTaking_98 (by decide) ?_
              exact ih (y4_445 * ((if (1 : Int32) < q457 then q457 else (1 : Int32)).toInt64)) (y6_446 * ((q457 - (1 : Int32)).toInt64)) (x8_447 + (1 : Int32)) (x9_448 + (1 : Int32)) _ _ _ hP hD hS (lv_sub hl [6, 7, 8, 9, 2, 1, 5, 0] rfl) hf
  refine L12_449 _ ?_ FUEL (1 : Int64) (1 : Int64) (0 : Int32) (0 : Int32) _ _ _ hP hD hS (lv_sub hl [4, 5, 6, 7, 3, 2, 1, 0] rfl) hf
  intro y4_460 y6_461 H locs ls hP hD hS hl hf
  refine lv_lload hx hb dX2_ofTaking_101 (lv_at hl 1 rfl) ?_
  refine lv_lload hx hb dX2_ofTaking_103 (lv_at hl 2 rfl) ?_
  refine lv_lsub hx hb dX2_ofTaking_105 ?_
  refine lv_lload hx hb dX2_ofTaking_106 (lv_at hl 1 rfl) ?_
  refine lv_iload_n hx hb dX2_ofTaking_108 rfl (lv_at hl 0 rfl) ?_
  obtain ⟨q462, hq462, hf⟩ := bnd hf
  refine fc_callS (Wa' := (vW G a v)) (st1 := [.long q462]) (As := [.long (y4_460 - y6_461), .long y4_460, .int x3]) (rest := []) hCF (k_X2_partOf (y4_460 - y6_461) y4_460 x3 hq462) (va_cwS 3 hts gX2_ofTaking_X2_partOf rfl rfl rfl dk_X2_partOf ⟨Nat.le_of_ble_eq_true rfl, Nat.le_of_ble_eq_true rfl⟩) hE hAB hP hD hS [] rfl rfl rfl rfl rfl rfl hl.1 rfl (Nat.le_of_ble_eq_true rfl) dX2_ofTaking_109 ⟨Nat.le_refl _, Nat.le_refl _⟩ (fun H locs hP hD hS => ?_)
  exact fc_retl hx hb hr hlocks hP hS dX2_ofTaking_112 (i1 hf) rfl
theorem dk_X3_mayHaveAny : yX3_mayHaveAny.cls ≠ "java/lang/invoke/MethodHandle" ∧ yX3_mayHaveAny.cls ≠ "java/lang/invoke/VarHandle" ∧ (parseMethodDescriptor yX3_mayHaveAny.desc).map (fun d => d.parameters.length) = some 2 := by decide +kernel
theorem iu_X3_mayHaveAny_X3 : ∀ w ∈ u_ws RX3 TX3 2, w ∈ wsX3_mayHaveAny := by decide +kernel
set_option maxHeartbeats 4000000 in
set_option maxRecDepth 100000 in
theorem k_X3_mayHaveAny {l : Launch} {G : Gx} (a : Nat → Nat) (v : St) (x1 : Int32) (x2 : Int32) {r : Int32} (hf : f_X3_mayHaveAny v x1 x2 = some r) : FC l G yX3_mayHaveAny wsX3_mayHaveAny ({ frames := 1, cells := 0, slots := 0, locals := 21 } : Room) [.ref (a 0), .int x1, .int x2] (pW G a v) (pW G a v) (some (.int r)) := by
  refine fc_head (cc := cX3_mayHaveAny) (maxL := 5) (ret := (some .int)) (C := RX3) (lv := [(0, .ref (a 0)), (1, .int x1), (2, .int x2)]) (by decide) rfl rfl (Nat.le_of_ble_eq_true rfl) rfl ?_
  intro p e s m below meth c ls A hx hb hr hml hown hts hlocks hE hP hD hAB hS hl
  have hCF : CallFix p m c cX3_mayHaveAny 5 s ([.ref (a 0), .int x1, .int x2] : List Value).toArray wsX3_mayHaveAny RX3 := ⟨hx, hb, hml, hown, hts⟩
  have hwX3 : ∀ w ∈ u_ws RX3 TX3 2, w.before ([.ref (a 0), .int x1, .int x2] : List Value).toArray s = true := fun w h => hts w (iu_X3_mayHaveAny_X3 w h)
  have hk_initialized_RX7 := hts (.initialized RX7) (List.mem_of_getElem? (i := 3) rfl)
  have hk_static_yX7_has := hts (.static yX7_has) (List.mem_of_getElem? (i := 2) rfl)
  have hk_fieldLink_RX3_9__BrideNotKnown_Pairs___mayHave____I_ := hts (.fieldLink RX3 9 "BrideNotKnown$Pairs" "mayHave" "[I") (List.mem_of_getElem? (i := 1) rfl)
  have hk_static_yX7_at := hts (.static yX7_at) (List.mem_of_getElem? (i := 5) rfl)
  rw [f_X3_mayHaveAny] at hf
  refine lv_iconst (v := (0 : Int32)) hx hb dX3_mayHaveAny_0 (by decide) ?_
  refine lv_istore_n (lv' := [(3, .int (0 : Int32)), (0, .ref (a 0)), (1, .int x1), (2, .int x2)]) hx hb dX3_mayHaveAny_1 rfl hl (by decide) rfl (fun ls hl => ?_)
  refine lv_iconst (v := (0 : Int32)) hx hb dX3_mayHaveAny_2 (by decide) ?_
  refine lv_istore (lv' := [(4, .int (0 : Int32)), (3, .int (0 : Int32)), (0, .ref (a 0)), (1, .int x1), (2, .int x2)]) hx hb dX3_mayHaveAny_3 hl (by decide) rfl (fun ls hl => ?_)
  have L5_467 : ∀ (n : Nat) (x3_465 : Int32) (x4_466 : Int32) (H : Heap) (locs : List Loc) (ls : Array Slot), va_P (gD G) vwCl (pW G a v) H → va_D A (pW G a v) → va_S A s.heap H locs → lv_has ls 5 [(0, .ref (a 0)), (1, .int x1), (2, .int x2), (3, .int x3_465), (4, .int x4_466)] → f_X3_mayHaveAny_5 v x1 x2 n x3_465 x4_466 = some r → W p l e (headSpec wsX3_mayHaveAny ({ frames := 1, cells := 0, slots := 0, locals := 21 } : Room)).room s m ([.ref (a 0), .int x1, .int x2] : List Value).toArray below meth c H locs 0 0 (MQ below (FQ G A (pW G a v) (some (.int r))) ([.ref (a 0), .int x1, .int x2] : List Value).toArray s 0 0 A) (F0 m 5 ls []) := by
    intro n
    induction n with
    | zero =>
      intro x3_465 x4_466 H locs ls hP hD hS hl hf
      exact no_some hf
    | succ n ih =>
      intro x3_465 x4_466 H locs ls hP hD hS hl hf
      rw [f_X3_mayHaveAny_5] at hf
      refine lv_iload hx hb dX3_mayHaveAny_5 (lv_at hl 4 rfl) ?_
      refine lv_iconst (v := (5 : Int32)) hx hb dX3_mayHaveAny_7 (by decide) ?_
      refine lv_icmp_ge (tgt := 40) hx hb dX3_mayHaveAny_8 (by decide) (fun c468 => ?_) (fun c468 => ?_)
      · have hf := ifT hf c468
        refine lv_iload_n hx hb dX3_mayHaveAny_40 rfl (lv_at hl 3 rfl) ?_
        exact fc_reti hx hb hr hlocks hP hS dX3_mayHaveAny_41 (i1 hf) rfl
      · have hf := ifF hf c468
        refine lv_iload_n hx hb dX3_mayHaveAny_11 rfl (lv_at hl 1 rfl) ?_
        refine lv_iload hx hb dX3_mayHaveAny_12 (lv_at hl 4 rfl) ?_
        obtain ⟨q469, hq469, hf⟩ := bnd hf
        refine fc_callN (Wa' := (pW G a v)) (st1 := [.int q469]) (As := [.int x1, .int x4_466]) (rest := []) hCF (k_X7_has x1 x4_466 hq469) ⟨va_cnB 2 hts gX3_mayHaveAny_X7_has_n58 rfl rfl rfl (hE.2.1 _ (List.mem_of_getElem? (i := 15) rfl)) hk_initialized_RX7 dk_X7_has ⟨Nat.le_of_ble_eq_true rfl, Nat.le_of_ble_eq_true rfl⟩, hk_static_yX7_has, trivial⟩ hE hAB hP hD hS [] rfl rfl rfl rfl rfl rfl hl.1 rfl (Nat.le_of_ble_eq_true rfl) dX3_mayHaveAny_14 ⟨Nat.le_refl _, Nat.le_refl _⟩ (fun H locs hP hD hS => ?_)
        refine lv_if_eq (tgt := 34) hx hb dX3_mayHaveAny_17 (by decide) (fun c470 => ?_) (fun c470 => ?_)
        · have hf := ifT hf c470
          refine lv_iinc (v := (x4_466 + (1 : Int32))) (lv' := [(4, .int (x4_466 + (1 : Int32))), (0, .ref (a 0)), (1, .int x1), (2, .int x2), (3, .int x3_465)]) hx hb dX3_mayHaveAny_34 hl (k := 4) rfl rfl (by decide) rfl (fun ls hl => ?_)
          refine lv_goto (tgt := 5) hx hb dX3_mayHaveAny_37 (by decide) ?_
          exact ih x3_465 (x4_466 + (1 : Int32)) _ _ _ hP hD hS (lv_sub hl [1, 2, 3, 4, 0] rfl) hf
        · have hf := ifF hf c470
          refine lv_iload_n hx hb dX3_mayHaveAny_20 rfl (lv_at hl 3 rfl) ?_
          refine lv_aload_n hx hb dX3_mayHaveAny_21 rfl (lv_at hl 0 rfl) ?_
          refine fc_get (v := .ref (a 1)) (ci := 0) (C := RX3) (T := TX3) (N := 2) hx hb hwX3 hown hE hP 0 (pW_o G a v) rfl 0 (by decide) hk_fieldLink_RX3_9__BrideNotKnown_Pairs___mayHave____I_ (fun _ h => h) rfl dX3_mayHaveAny_22 ?_
          refine lv_iload_n hx hb dX3_mayHaveAny_25 rfl (lv_at hl 2 rfl) ?_
          refine lv_iload hx hb dX3_mayHaveAny_26 (lv_at hl 4 rfl) ?_
          refine lv_iadd hx hb dX3_mayHaveAny_28 ?_
          obtain ⟨q471, hq471, hf⟩ := bnd hf
          refine fc_callN (Wa' := (pW G a v)) (st1 := [.int q471, .int x3_465]) (As := [.ref (a 1), .int (x2 + x4_466)]) (rest := [.int x3_465]) hCF (k_X7_at (a 1) 5 (v 0) (x2 + x4_466) hq471) ⟨va_cnB 2 hts gX3_mayHaveAny_X7_at_n62 rfl rfl rfl (hE.2.1 _ (List.mem_of_getElem? (i := 16) rfl)) hk_initialized_RX7 dk_X7_at ⟨Nat.le_of_ble_eq_true rfl, Nat.le_of_ble_eq_true rfl⟩, hk_static_yX7_at, trivial⟩ hE hAB hP hD hS [1] rfl (pW_ca1 G a v) (aW_f G (a 1) 5 (v 0) (v 0)) (pW_ia1 G a v) rfl rfl hl.1 rfl (Nat.le_of_ble_eq_true rfl) dX3_mayHaveAny_29 ⟨Nat.le_refl _, Nat.le_refl _⟩ (fun H locs hP hD hS => ?_)
          refine lv_ior hx hb dX3_mayHaveAny_32 ?_
          refine lv_istore_n (lv' := [(3, .int (x3_465 ||| q471)), (0, .ref (a 0)), (1, .int x1), (2, .int x2), (4, .int x4_466)]) hx hb dX3_mayHaveAny_33 rfl hl (by decide) rfl (fun ls hl => ?_)
          refine lv_iinc (v := (x4_466 + (1 : Int32))) (lv' := [(4, .int (x4_466 + (1 : Int32))), (3, .int (x3_465 ||| q471)), (0, .ref (a 0)), (1, .int x1), (2, .int x2)]) hx hb dX3_mayHaveAny_34 hl (k := 4) rfl rfl (by decide) rfl (fun ls hl => ?_)
          refine lv_goto (tgt := 5) hx hb dX3_mayHaveAny_37 (by decide) ?_
          exact ih (x3_465 ||| q471) (x4_466 + (1 : Int32)) _ _ _ hP hD hS (lv_sub hl [2, 3, 4, 1, 0] rfl) hf
  exact L5_467 FUEL (0 : Int32) (0 : Int32) _ _ _ hP hD hS (lv_sub hl [2, 3, 4, 1, 0] rfl) hf
theorem dk_X3_most : yX3_most.cls ≠ "java/lang/invoke/MethodHandle" ∧ yX3_most.cls ≠ "java/lang/invoke/VarHandle" ∧ (parseMethodDescriptor yX3_most.desc).map (fun d => d.parameters.length) = some 2 := by decide +kernel
theorem iu_X3_most_X3 : ∀ w ∈ u_ws RX3 TX3 2, w ∈ wsX3_most := by decide +kernel
set_option maxHeartbeats 4000000 in
set_option maxRecDepth 100000 in
theorem k_X3_most {l : Launch} {G : Gx} (a : Nat → Nat) (v : St) (x1 : Int32) (x2 : Int32) {r : Int32} (hf : f_X3_most v x1 x2 = some r) : FC l G yX3_most wsX3_most ({ frames := 2, cells := 0, slots := 0, locals := 45 } : Room) [.ref (a 0), .int x1, .int x2] (pW G a v) (pW G a v) (some (.int r)) := by
  refine fc_head (cc := cX3_most) (maxL := 7) (ret := (some .int)) (C := RX3) (lv := [(0, .ref (a 0)), (1, .int x1), (2, .int x2)]) (by decide) rfl rfl (Nat.le_of_ble_eq_true rfl) rfl ?_
  intro p e s m below meth c ls A hx hb hr hml hown hts hlocks hE hP hD hAB hS hl
  have hCF : CallFix p m c cX3_most 7 s ([.ref (a 0), .int x1, .int x2] : List Value).toArray wsX3_most RX3 := ⟨hx, hb, hml, hown, hts⟩
  have hwX3 : ∀ w ∈ u_ws RX3 TX3 2, w.before ([.ref (a 0), .int x1, .int x2] : List Value).toArray s = true := fun w h => hts w (iu_X3_most_X3 w h)
  have hk_fieldLink_RX3_21__BrideNotKnown_Pairs___groomCount___I_ := hts (.fieldLink RX3 21 "BrideNotKnown$Pairs" "groomCount" "I") (List.mem_of_getElem? (i := 1) rfl)
  have hk_methodLink_RX3_42_Lib_Math_max_name := hts (.methodLink RX3 42 Lib.Math.max.name) (List.mem_of_getElem? (i := 2) rfl)
  have hk_static_Lib_Math_max_name := hts (.static Lib.Math.max.name) (List.mem_of_getElem? (i := 3) rfl)
  have hk_initialized__java_lang_Math_ := hts (.initialized "java/lang/Math") (List.mem_of_getElem? (i := 4) rfl)
  have hk_code_Lib_Math_max_name_Lib_Math_max_code_2__some__int_ := hts (.code Lib.Math.max.name Lib.Math.max.code 2 (some .int)) (List.mem_of_getElem? (i := 5) rfl)
  have hk_methodLink_RX3_55_Lib_Math_min_name := hts (.methodLink RX3 55 Lib.Math.min.name) (List.mem_of_getElem? (i := 6) rfl)
  have hk_static_Lib_Math_min_name := hts (.static Lib.Math.min.name) (List.mem_of_getElem? (i := 7) rfl)
  have hk_code_Lib_Math_min_name_Lib_Math_min_code_2__some__int_ := hts (.code Lib.Math.min.name Lib.Math.min.code 2 (some .int)) (List.mem_of_getElem? (i := 8) rfl)
  rw [f_X3_most] at hf
  refine lv_iconst (v := (0 : Int32)) hx hb dX3_most_0 (by decide) ?_
  refine lv_aload_n hx hb dX3_most_1 rfl (lv_at hl 0 rfl) ?_
  refine fc_get (v := .int (v 1 0)) (ci := 0) (C := RX3) (T := TX3) (N := 2) hx hb hwX3 hown hE hP 0 (pW_o G a v) rfl 1 (by decide) hk_fieldLink_RX3_21__BrideNotKnown_Pairs___groomCount___I_ (fun _ h => h) rfl dX3_most_2 ?_
  refine lv_iload_n hx hb dX3_most_5 rfl (lv_at hl 1 rfl) ?_
  refine lv_isub hx hb dX3_most_6 ?_
  refine va_mmax hx hb (hml.trans hl.1.symm) hown hk_methodLink_RX3_42_Lib_Math_max_name hk_static_Lib_Math_max_name hk_initialized__java_lang_Math_ hk_code_Lib_Math_max_name_Lib_Math_max_code_2__some__int_ (Nat.le_of_ble_eq_true rfl) (Nat.le_of_ble_eq_true rfl) (Nat.zero_le _) (Nat.zero_le _) dX3_most_7 ?_
  refine lv_istore_n (lv' := [(3, .int (if (0 : Int32) < ((v 1 0) - x1) then ((v 1 0) - x1) else (0 : Int32))), (0, .ref (a 0)), (1, .int x1), (2, .int x2)]) hx hb dX3_most_10 rfl hl (by decide) rfl (fun ls hl => ?_)
  refine lv_iload_n hx hb dX3_most_11 rfl (lv_at hl 0 rfl) ?_
  refine lv_istore (lv' := [(4, .int (if (0 : Int32) < ((v 1 0) - x1) then ((v 1 0) - x1) else (0 : Int32))), (3, .int (if (0 : Int32) < ((v 1 0) - x1) then ((v 1 0) - x1) else (0 : Int32))), (0, .ref (a 0)), (1, .int x1), (2, .int x2)]) hx hb dX3_most_12 hl (by decide) rfl (fun ls hl => ?_)
  refine lv_iconst (v := (0 : Int32)) hx hb dX3_most_14 (by decide) ?_
  refine lv_istore (lv' := [(5, .int (0 : Int32)), (4, .int (if (0 : Int32) < ((v 1 0) - x1) then ((v 1 0) - x1) else (0 : Int32))), (3, .int (if (0 : Int32) < ((v 1 0) - x1) then ((v 1 0) - x1) else (0 : Int32))), (0, .ref (a 0)), (1, .int x1), (2, .int x2)]) hx hb dX3_most_15 hl (by decide) rfl (fun ls hl => ?_)
  have L17_477 : ∀ (n : Nat) (x4_475 : Int32) (x5_476 : Int32) (H : Heap) (locs : List Loc) (ls : Array Slot), va_P (gD G) vwCl (pW G a v) H → va_D A (pW G a v) → va_S A s.heap H locs → lv_has ls 7 [(0, .ref (a 0)), (1, .int x1), (2, .int x2), (3, .int (if (0 : Int32) < ((v 1 0) - x1) then ((v 1 0) - x1) else (0 : Int32))), (4, .int x4_475), (5, .int x5_476)] → f_X3_most_17 v x1 x2 (if (0 : Int32) < ((v 1 0) - x1) then ((v 1 0) - x1) else (0 : Int32)) n x4_475 x5_476 = some r → W p l e (headSpec wsX3_most ({ frames := 2, cells := 0, slots := 0, locals := 45 } : Room)).room s m ([.ref (a 0), .int x1, .int x2] : List Value).toArray below meth c H locs 0 0 (MQ below (FQ G A (pW G a v) (some (.int r))) ([.ref (a 0), .int x1, .int x2] : List Value).toArray s 0 0 A) (F0 m 17 ls []) := by
    intro n
    induction n with
    | zero =>
      intro x4_475 x5_476 H locs ls hP hD hS hl hf
      exact no_some hf
    | succ n ih =>
      intro x4_475 x5_476 H locs ls hP hD hS hl hf
      rw [f_X3_most_17] at hf
      refine lv_iload hx hb dX3_most_17 (lv_at hl 5 rfl) ?_
      refine lv_iconst (v := (1 : Int32)) hx hb dX3_most_19 (by decide) ?_
      refine lv_iload_n hx hb dX3_most_20 rfl (lv_at hl 3 rfl) ?_
      refine lv_ishl hx hb dX3_most_21 ?_
      refine lv_icmp_ge (tgt := 64) hx hb dX3_most_22 (by decide) (fun c478 => ?_) (fun c478 => ?_)
      · have hf := ifT hf c478
        refine lv_iload hx hb dX3_most_64 (lv_at hl 4 rfl) ?_
        exact fc_reti hx hb hr hlocks hP hS dX3_most_66 (i1 hf) rfl
      · have hf := ifF hf c478
        refine lv_aload_n hx hb dX3_most_25 rfl (lv_at hl 0 rfl) ?_
        refine lv_iload hx hb dX3_most_26 (lv_at hl 5 rfl) ?_
        refine lv_iload_n hx hb dX3_most_28 rfl (lv_at hl 1 rfl) ?_
        obtain ⟨q479, hq479, hf⟩ := bnd hf
        refine fc_callV (Wa' := (pW G a v)) (st1 := [.int q479]) (As := [.int x5_476, .int x1]) (rest := []) hCF (k_X3_mayHaveAny a v x5_476 x1 hq479) (cwV 2 hts gX3_most_X3_mayHaveAny rfl rfl rfl ⟨rfl, dk_X3_mayHaveAny⟩ ⟨Nat.le_of_ble_eq_true rfl, Nat.le_of_ble_eq_true rfl⟩) hE hAB hP hD hS [0, 1] pW_d (pW_c G a v) (va_recv hE.1 hP (ci := 0) (q0 := 0) rfl (pW_o G a v)) (pW_f G a v v) (pW_s G a v v) rfl rfl hl.1 rfl (Nat.le_of_ble_eq_true rfl) dX3_most_29 ⟨Nat.le_refl _, Nat.le_refl _⟩ (fun H locs hP hD hS => ?_)
        refine lv_iload_n hx hb dX3_most_32 rfl (lv_at hl 2 rfl) ?_
        refine lv_iconst (v := (-1 : Int32)) hx hb dX3_most_33 (by decide) ?_
        refine lv_ixor hx hb dX3_most_34 ?_
        refine lv_iand hx hb dX3_most_35 ?_
        obtain ⟨q480, hq480, hf⟩ := bnd hf
        refine fc_callS (Wa' := (pW G a v)) (st1 := [.int q480]) (As := [.int (q479 &&& (x2 ^^^ (-1 : Int32)))]) (rest := []) hCF (k_J6_bitCount_0f7a4 (q479 &&& (x2 ^^^ (-1 : Int32))) hq480) (va_cwS 1 hts gX3_most_J6_bitCount_0f7a4 rfl rfl rfl dk_J6_bitCount_0f7a4 ⟨Nat.le_of_ble_eq_true rfl, Nat.le_of_ble_eq_true rfl⟩) hE hAB hP hD hS [] rfl rfl rfl rfl rfl rfl hl.1 rfl (Nat.le_of_ble_eq_true rfl) dX3_most_36 ⟨Nat.le_refl _, Nat.le_refl _⟩ (fun H locs hP hD hS => ?_)
        refine lv_istore (lv' := [(6, .int q480), (0, .ref (a 0)), (1, .int x1), (2, .int x2), (3, .int (if (0 : Int32) < ((v 1 0) - x1) then ((v 1 0) - x1) else (0 : Int32))), (4, .int x4_475), (5, .int x5_476)]) hx hb dX3_most_39 hl (by decide) rfl (fun ls hl => ?_)
        refine lv_iload hx hb dX3_most_41 (lv_at hl 5 rfl) ?_
        refine lv_iload_n hx hb dX3_most_43 rfl (lv_at hl 4 rfl) ?_
        refine lv_iload hx hb dX3_most_44 (lv_at hl 6 rfl) ?_
        obtain ⟨q481, hq481, hf⟩ := bnd hf
        refine fc_callS (Wa' := (pW G a v)) (st1 := [.int q481, .int (if (0 : Int32) < ((v 1 0) - x1) then ((v 1 0) - x1) else (0 : Int32)), .int x4_475]) (As := [.int x5_476]) (rest := [.int (if (0 : Int32) < ((v 1 0) - x1) then ((v 1 0) - x1) else (0 : Int32)), .int x4_475]) hCF (k_J6_bitCount_0f7a4 x5_476 hq481) (va_cwS 1 hts gX3_most_J6_bitCount_0f7a4 rfl rfl rfl dk_J6_bitCount_0f7a4 ⟨Nat.le_of_ble_eq_true rfl, Nat.le_of_ble_eq_true rfl⟩) hE hAB hP hD hS [] rfl rfl rfl rfl rfl rfl hl.1 rfl (Nat.le_of_ble_eq_true rfl) dX3_most_46 ⟨Nat.le_refl _, Nat.le_refl _⟩ (fun H locs hP hD hS => ?_)
        refine lv_isub hx hb dX3_most_49 ?_
        refine lv_iload hx hb dX3_most_50 (lv_at hl 0 rfl) ?_
        refine lv_iadd hx hb dX3_most_52 ?_
        refine va_mmin hx hb (hml.trans hl.1.symm) hown hk_methodLink_RX3_55_Lib_Math_min_name hk_static_Lib_Math_min_name hk_initialized__java_lang_Math_ hk_code_Lib_Math_min_name_Lib_Math_min_code_2__some__int_ (Nat.le_of_ble_eq_true rfl) (Nat.le_of_ble_eq_true rfl) (Nat.zero_le _) (Nat.zero_le _) dX3_most_53 ?_
        refine lv_istore (lv' := [(4, .int (if (((if (0 : Int32) < ((v 1 0) - x1) then ((v 1 0) - x1) else (0 : Int32)) - q481) + q480) < x4_475 then (((if (0 : Int32) < ((v 1 0) - x1) then ((v 1 0) - x1) else (0 : Int32)) - q481) + q480) else x4_475)), (6, .int q480), (0, .ref (a 0)), (1, .int x1), (2, .int x2), (3, .int (if (0 : Int32) < ((v 1 0) - x1) then ((v 1 0) - x1) else (0 : Int32))), (5, .int x5_476)]) hx hb dX3_most_56 hl (by decide) rfl (fun ls hl => ?_)
        refine lv_iinc (v := (x5_476 + (1 : Int32))) (lv' := [(5, .int (x5_476 + (1 : Int32))), (4, .int (if (((if (0 : Int32) < ((v 1 0) - x1) then ((v 1 0) - x1) else (0 : Int32)) - q481) + q480) < x4_475 then (((if (0 : Int32) < ((v 1 0) - x1) then ((v 1 0) - x1) else (0 : Int32)) - q481) + q480) else x4_475)), (6, .int q480), (0, .ref (a 0)), (1, .int x1), (2, .int x2), (3, .int (if (0 : Int32) < ((v 1 0) - x1) then ((v 1 0) - x1) else (0 : Int32)))]) hx hb dX3_most_58 hl (k := 6) rfl rfl (by decide) rfl (fun ls hl => ?_)
        refine lv_goto (tgt := 17) hx hb dX3_most_61 (by decide) ?_
        exact ih (if (((if (0 : Int32) < ((v 1 0) - x1) then ((v 1 0) - x1) else (0 : Int32)) - q481) + q480) < x4_475 then (((if (0 : Int32) < ((v 1 0) - x1) then ((v 1 0) - x1) else (0 : Int32)) - q481) + q480) else x4_475) (x5_476 + (1 : Int32)) _ _ _ hP hD hS (lv_sub hl [3, 4, 5, 6, 1, 0] rfl) hf
  exact L17_477 FUEL (if (0 : Int32) < ((v 1 0) - x1) then ((v 1 0) - x1) else (0 : Int32)) (0 : Int32) _ _ _ hP hD hS (lv_sub hl [3, 4, 5, 2, 1, 0] rfl) hf
theorem dk_X3_firstPartner : yX3_firstPartner.cls ≠ "java/lang/invoke/MethodHandle" ∧ yX3_firstPartner.cls ≠ "java/lang/invoke/VarHandle" ∧ (parseMethodDescriptor yX3_firstPartner.desc).map (fun d => d.parameters.length) = some 2 := by decide +kernel
theorem iu_X3_firstPartner_X3 : ∀ w ∈ u_ws RX3 TX3 2, w ∈ wsX3_firstPartner := by decide +kernel
set_option maxHeartbeats 4000000 in
set_option maxRecDepth 100000 in
theorem k_X3_firstPartner {l : Launch} {G : Gx} (a : Nat → Nat) (v : St) (x1 : Int32) (x2 : Int32) {r : Int32} (hf : f_X3_firstPartner v x1 x2 = some r) : FC l G yX3_firstPartner wsX3_firstPartner ({ frames := 3, cells := 0, slots := 0, locals := 71 } : Room) [.ref (a 0), .int x1, .int x2] (pW G a v) (pW G a v) (some (.int r)) := by
  refine fc_head (cc := cX3_firstPartner) (maxL := 6) (ret := (some .int)) (C := RX3) (lv := [(0, .ref (a 0)), (1, .int x1), (2, .int x2)]) (by decide) rfl rfl (Nat.le_of_ble_eq_true rfl) rfl ?_
  intro p e s m below meth c ls A hx hb hr hml hown hts hlocks hE hP hD hAB hS hl
  have hCF : CallFix p m c cX3_firstPartner 6 s ([.ref (a 0), .int x1, .int x2] : List Value).toArray wsX3_firstPartner RX3 := ⟨hx, hb, hml, hown, hts⟩
  have hwX3 : ∀ w ∈ u_ws RX3 TX3 2, w.before ([.ref (a 0), .int x1, .int x2] : List Value).toArray s = true := fun w h => hts w (iu_X3_firstPartner_X3 w h)
  have hk_fieldLink_RX3_9__BrideNotKnown_Pairs___mayHave____I_ := hts (.fieldLink RX3 9 "BrideNotKnown$Pairs" "mayHave" "[I") (List.mem_of_getElem? (i := 1) rfl)
  have hk_initialized_RX7 := hts (.initialized RX7) (List.mem_of_getElem? (i := 20) rfl)
  have hk_static_yX7_at := hts (.static yX7_at) (List.mem_of_getElem? (i := 22) rfl)
  have hk_static_yX7_has := hts (.static yX7_has) (List.mem_of_getElem? (i := 19) rfl)
  rw [f_X3_firstPartner] at hf
  refine lv_aload_n hx hb dX3_firstPartner_0 rfl (lv_at hl 0 rfl) ?_
  refine lv_iload_n hx hb dX3_firstPartner_1 rfl (lv_at hl 1 rfl) ?_
  refine lv_iload_n hx hb dX3_firstPartner_2 rfl (lv_at hl 2 rfl) ?_
  obtain ⟨q486, hq486, hf⟩ := bnd hf
  refine fc_callV (Wa' := (pW G a v)) (st1 := [.int q486]) (As := [.int x1, .int x2]) (rest := []) hCF (k_X3_most a v x1 x2 hq486) (cwV 2 hts gX3_firstPartner_X3_most rfl rfl rfl ⟨rfl, dk_X3_most⟩ ⟨Nat.le_of_ble_eq_true rfl, Nat.le_of_ble_eq_true rfl⟩) hE hAB hP hD hS [0, 1] pW_d (pW_c G a v) (va_recv hE.1 hP (ci := 0) (q0 := 0) rfl (pW_o G a v)) (pW_f G a v v) (pW_s G a v v) rfl rfl hl.1 rfl (Nat.le_of_ble_eq_true rfl) dX3_firstPartner_3 ⟨Nat.le_refl _, Nat.le_refl _⟩ (fun H locs hP hD hS => ?_)
  refine lv_istore_n (lv' := [(3, .int q486), (0, .ref (a 0)), (1, .int x1), (2, .int x2)]) hx hb dX3_firstPartner_6 rfl hl (by decide) rfl (fun ls hl => ?_)
  refine lv_iconst (v := (0 : Int32)) hx hb dX3_firstPartner_7 (by decide) ?_
  refine lv_istore (lv' := [(4, .int (0 : Int32)), (3, .int q486), (0, .ref (a 0)), (1, .int x1), (2, .int x2)]) hx hb dX3_firstPartner_8 hl (by decide) rfl (fun ls hl => ?_)
  have L10_488 : ∀ (n : Nat) (x4_487 : Int32) (H : Heap) (locs : List Loc) (ls : Array Slot), va_P (gD G) vwCl (pW G a v) H → va_D A (pW G a v) → va_S A s.heap H locs → lv_has ls 6 [(0, .ref (a 0)), (1, .int x1), (2, .int x2), (3, .int q486), (4, .int x4_487)] → f_X3_firstPartner_10 v x1 x2 q486 n x4_487 = some r → W p l e (headSpec wsX3_firstPartner ({ frames := 3, cells := 0, slots := 0, locals := 71 } : Room)).room s m ([.ref (a 0), .int x1, .int x2] : List Value).toArray below meth c H locs 0 0 (MQ below (FQ G A (pW G a v) (some (.int r))) ([.ref (a 0), .int x1, .int x2] : List Value).toArray s 0 0 A) (F0 m 10 ls []) := by
    intro n
    induction n with
    | zero =>
      intro x4_487 H locs ls hP hD hS hl hf
      exact no_some hf
    | succ n ih =>
      intro x4_487 H locs ls hP hD hS hl hf
      rw [f_X3_firstPartner_10] at hf
      refine lv_iload hx hb dX3_firstPartner_10 (lv_at hl 4 rfl) ?_
      refine lv_bipush (v := (8 : Int32)) hx hb dX3_firstPartner_12 (by decide) ?_
      refine lv_icmp_ge (tgt := 69) hx hb dX3_firstPartner_14 (by decide) (fun c489 => ?_) (fun c489 => ?_)
      · have hf := ifT hf c489
        refine lv_bipush (v := (-9 : Int32)) hx hb dX3_firstPartner_69 (by decide) ?_
        exact fc_reti hx hb hr hlocks hP hS dX3_firstPartner_71 (i1 hf) rfl
      · have hf := ifF hf c489
        refine lv_aload_n hx hb dX3_firstPartner_17 rfl (lv_at hl 0 rfl) ?_
        refine fc_get (v := .ref (a 1)) (ci := 0) (C := RX3) (T := TX3) (N := 2) hx hb hwX3 hown hE hP 0 (pW_o G a v) rfl 0 (by decide) hk_fieldLink_RX3_9__BrideNotKnown_Pairs___mayHave____I_ (fun _ h => h) rfl dX3_firstPartner_18 ?_
        refine lv_iload_n hx hb dX3_firstPartner_21 rfl (lv_at hl 1 rfl) ?_
        obtain ⟨q490, hq490, hf⟩ := bnd hf
        refine fc_callN (Wa' := (pW G a v)) (st1 := [.int q490]) (As := [.ref (a 1), .int x1]) (rest := []) hCF (k_X7_at (a 1) 5 (v 0) x1 hq490) ⟨va_cnB 2 hts gX3_firstPartner_X7_at_n62 rfl rfl rfl (hE.2.1 _ (List.mem_of_getElem? (i := 16) rfl)) hk_initialized_RX7 dk_X7_at ⟨Nat.le_of_ble_eq_true rfl, Nat.le_of_ble_eq_true rfl⟩, hk_static_yX7_at, trivial⟩ hE hAB hP hD hS [1] rfl (pW_ca1 G a v) (aW_f G (a 1) 5 (v 0) (v 0)) (pW_ia1 G a v) rfl rfl hl.1 rfl (Nat.le_of_ble_eq_true rfl) dX3_firstPartner_22 ⟨Nat.le_refl _, Nat.le_refl _⟩ (fun H locs hP hD hS => ?_)
        refine lv_iload_n hx hb dX3_firstPartner_25 rfl (lv_at hl 2 rfl) ?_
        refine lv_iconst (v := (-1 : Int32)) hx hb dX3_firstPartner_26 (by decide) ?_
        refine lv_ixor hx hb dX3_firstPartner_27 ?_
        refine lv_iand hx hb dX3_firstPartner_28 ?_
        refine lv_iload hx hb dX3_firstPartner_29 (lv_at hl 4 rfl) ?_
        obtain ⟨q491, hq491, hf⟩ := bnd hf
        refine fc_callN (Wa' := (pW G a v)) (st1 := [.int q491]) (As := [.int (q490 &&& (x2 ^^^ (-1 : Int32))), .int x4_487]) (rest := []) hCF (k_X7_has (q490 &&& (x2 ^^^ (-1 : Int32))) x4_487 hq491) ⟨va_cnB 2 hts gX3_firstPartner_X7_has_n58 rfl rfl rfl (hE.2.1 _ (List.mem_of_getElem? (i := 15) rfl)) hk_initialized_RX7 dk_X7_has ⟨Nat.le_of_ble_eq_true rfl, Nat.le_of_ble_eq_true rfl⟩, hk_static_yX7_has, trivial⟩ hE hAB hP hD hS [] rfl rfl rfl rfl rfl rfl hl.1 rfl (Nat.le_of_ble_eq_true rfl) dX3_firstPartner_31 ⟨Nat.le_refl _, Nat.le_refl _⟩ (fun H locs hP hD hS => ?_)
        refine lv_istore (lv' := [(5, .int q491), (0, .ref (a 0)), (1, .int x1), (2, .int x2), (3, .int q486), (4, .int x4_487)]) hx hb dX3_firstPartner_34 hl (by decide) rfl (fun ls hl => ?_)
        refine lv_iload hx hb dX3_firstPartner_36 (lv_at hl 0 rfl) ?_
        refine lv_if_eq (tgt := 63) hx hb dX3_firstPartner_38 (by decide) (fun c492 => ?_) (fun c492 => ?_)
        · have hf := ifT hf c492
          refine lv_iinc (v := (x4_487 + (1 : Int32))) (lv' := [(4, .int (x4_487 + (1 : Int32))), (5, .int q491), (0, .ref (a 0)), (1, .int x1), (2, .int x2), (3, .int q486)]) hx hb dX3_firstPartner_63 hl (k := 5) rfl rfl (by decide) rfl (fun ls hl => ?_)
          refine lv_goto (tgt := 10) hx hb dX3_firstPartner_66 (by decide) ?_
          exact ih (x4_487 + (1 : Int32)) _ _ _ hP hD hS (lv_sub hl [2, 3, 4, 5, 0] rfl) hf
        · have hf := ifF hf c492
          refine lv_iconst (v := (1 : Int32)) hx hb dX3_firstPartner_41 (by decide) ?_
          refine lv_aload_n hx hb dX3_firstPartner_42 rfl (lv_at hl 1 rfl) ?_
          refine lv_iload_n hx hb dX3_firstPartner_43 rfl (lv_at hl 2 rfl) ?_
          refine lv_iconst (v := (1 : Int32)) hx hb dX3_firstPartner_44 (by decide) ?_
          refine lv_iadd hx hb dX3_firstPartner_45 ?_
          refine lv_iload_n hx hb dX3_firstPartner_46 rfl (lv_at hl 3 rfl) ?_
          refine lv_iconst (v := (1 : Int32)) hx hb dX3_firstPartner_47 (by decide) ?_
          refine lv_iload hx hb dX3_firstPartner_48 (lv_at hl 5 rfl) ?_
          refine lv_ishl hx hb dX3_firstPartner_50 ?_
          refine lv_ior hx hb dX3_firstPartner_51 ?_
          obtain ⟨q493, hq493, hf⟩ := bnd hf
          refine fc_callV (Wa' := (pW G a v)) (st1 := [.int q493, .int (1 : Int32)]) (As := [.int (x1 + (1 : Int32)), .int (x2 ||| ((1 : Int32) <<< (x4_487 &&& 31)))]) (rest := [.int (1 : Int32)]) hCF (k_X3_most a v (x1 + (1 : Int32)) (x2 ||| ((1 : Int32) <<< (x4_487 &&& 31))) hq493) (cwV 2 hts gX3_firstPartner_X3_most rfl rfl rfl ⟨rfl, dk_X3_most⟩ ⟨Nat.le_of_ble_eq_true rfl, Nat.le_of_ble_eq_true rfl⟩) hE hAB hP hD hS [0, 1] pW_d (pW_c G a v) (va_recv hE.1 hP (ci := 0) (q0 := 0) rfl (pW_o G a v)) (pW_f G a v v) (pW_s G a v v) rfl rfl hl.1 rfl (Nat.le_of_ble_eq_true rfl) dX3_firstPartner_52 ⟨Nat.le_refl _, Nat.le_refl _⟩ (fun H locs hP hD hS => ?_)
          refine lv_iadd hx hb dX3_firstPartner_55 ?_
          refine lv_iload_n hx hb dX3_firstPartner_56 rfl (lv_at hl 4 rfl) ?_
          refine lv_icmp_ne (tgt := 63) hx hb dX3_firstPartner_57 (by decide) (fun c494 => ?_) (fun c494 => ?_)
          · have hf := ifF hf c494
            refine lv_iinc (v := (x4_487 + (1 : Int32))) (lv' := [(4, .int (x4_487 + (1 : Int32))), (5, .int q491), (0, .ref (a 0)), (1, .int x1), (2, .int x2), (3, .int q486)]) hx hb dX3_firstPartner_63 hl (k := 5) rfl rfl (by decide) rfl (fun ls hl => ?_)
            refine lv_goto (tgt := 10) hx hb dX3_firstPartner_66 (by decide) ?_
            exact ih (x4_487 + (1 : Int32)) _ _ _ hP hD hS (lv_sub hl [2, 3, 4, 5, 0] rfl) hf
          · have hf := ifT hf c494
            refine lv_iload hx hb dX3_firstPartner_60 (lv_at hl 5 rfl) ?_
            exact fc_reti hx hb hr hlocks hP hS dX3_firstPartner_62 (i1 hf) rfl
  exact L10_488 FUEL (0 : Int32) _ _ _ hP hD hS (lv_sub hl [2, 3, 4, 1, 0] rfl) hf
theorem dk_X3_notKnownTo : yX3_notKnownTo.cls ≠ "java/lang/invoke/MethodHandle" ∧ yX3_notKnownTo.cls ≠ "java/lang/invoke/VarHandle" ∧ (parseMethodDescriptor yX3_notKnownTo.desc).map (fun d => d.parameters.length) = some 2 := by decide +kernel
set_option maxHeartbeats 4000000 in
set_option maxRecDepth 100000 in
theorem k_X3_notKnownTo {l : Launch} {G : Gx} (a : Nat → Nat) (v : St) (x1 : Int32) {r : Int32} (hf : f_X3_notKnownTo v x1 = some r) : FC l G yX3_notKnownTo wsX3_notKnownTo ({ frames := 4, cells := 0, slots := 0, locals := 99 } : Room) [.ref (a 0), .int x1] (vW G a v) (vW G a v) (some (.int r)) := by
  refine fc_head (cc := cX3_notKnownTo) (maxL := 4) (ret := (some .int)) (C := RX3) (lv := [(0, .ref (a 0)), (1, .int x1)]) (by decide) rfl rfl (Nat.le_of_ble_eq_true rfl) rfl ?_
  intro p e s m below meth c ls A hx hb hr hml hown hts hlocks hE hP hD hAB hS hl
  have hCF : CallFix p m c cX3_notKnownTo 4 s ([.ref (a 0), .int x1] : List Value).toArray wsX3_notKnownTo RX3 := ⟨hx, hb, hml, hown, hts⟩
  rw [f_X3_notKnownTo] at hf
  refine lv_aload_n hx hb dX3_notKnownTo_0 rfl (lv_at hl 0 rfl) ?_
  refine lv_iload_n hx hb dX3_notKnownTo_1 rfl (lv_at hl 1 rfl) ?_
  refine lv_iconst (v := (0 : Int32)) hx hb dX3_notKnownTo_2 (by decide) ?_
  obtain ⟨q497, hq497, hf⟩ := bnd hf
  refine fc_callV (Wa' := (vW G a v)) (st1 := [.int q497]) (As := [.int x1, .int (0 : Int32)]) (rest := []) hCF (k_X6_knows a v x1 (0 : Int32) hq497) (cwV 2 hts gX3_notKnownTo_X6_knows rfl rfl rfl ⟨rfl, dk_X6_knows⟩ ⟨Nat.le_of_ble_eq_true rfl, Nat.le_of_ble_eq_true rfl⟩) hE hAB hP hD hS [0, 1, 2, 3, 4, 5, 6, 7] vW_d (vW_c G a v) (va_recv hE.1 hP (ci := 3) (q0 := 0) rfl (vW_o G a v)) (vW_f G a v v) (vW_s G a v v) rfl rfl hl.1 rfl (Nat.le_of_ble_eq_true rfl) dX3_notKnownTo_3 ⟨Nat.le_refl _, Nat.le_refl _⟩ (fun H locs hP hD hS => ?_)
  refine lv_istore_n (lv' := [(2, .int q497), (0, .ref (a 0)), (1, .int x1)]) hx hb dX3_notKnownTo_6 rfl hl (by decide) rfl (fun ls hl => ?_)
  refine lv_aload_n hx hb dX3_notKnownTo_7 rfl (lv_at hl 1 rfl) ?_
  refine lv_iconst (v := (0 : Int32)) hx hb dX3_notKnownTo_8 (by decide) ?_
  obtain ⟨q498, hq498, hf⟩ := bnd hf
  refine fc_callV (Wa' := (vW G a v)) (st1 := [.int q498]) (As := [.int (0 : Int32)]) (rest := []) hCF (k_X6_hereThen a v (0 : Int32) hq498) (cwV 1 hts gX3_notKnownTo_X6_hereThen rfl rfl rfl ⟨rfl, dk_X6_hereThen⟩ ⟨Nat.le_of_ble_eq_true rfl, Nat.le_of_ble_eq_true rfl⟩) hE hAB hP hD hS [0, 1, 2, 3, 4, 5, 6, 7] vW_d (vW_c G a v) (va_recv hE.1 hP (ci := 3) (q0 := 0) rfl (vW_o G a v)) (vW_f G a v v) (vW_s G a v v) rfl rfl hl.1 rfl (Nat.le_of_ble_eq_true rfl) dX3_notKnownTo_9 ⟨Nat.le_refl _, Nat.le_refl _⟩ (fun H locs hP hD hS => ?_)
  refine lv_istore_n (lv' := [(3, .int q498), (2, .int q497), (0, .ref (a 0)), (1, .int x1)]) hx hb dX3_notKnownTo_12 rfl hl (by decide) rfl (fun ls hl => ?_)
  refine lv_iload_n hx hb dX3_notKnownTo_13 rfl (lv_at hl 1 rfl) ?_
  refine lv_bipush (v := (-9 : Int32)) hx hb dX3_notKnownTo_14 (by decide) ?_
  refine lv_icmp_ne (tgt := 23) hx hb dX3_notKnownTo_16 (by decide) (fun c499 => ?_) (fun c499 => ?_)
  · have hf := ifF hf c499
    refine lv_iload_n hx hb dX3_notKnownTo_23 rfl (lv_at hl 0 rfl) ?_
    refine lv_iconst (v := (1 : Int32)) hx hb dX3_notKnownTo_24 (by decide) ?_
    refine lv_iload_n hx hb dX3_notKnownTo_25 rfl (lv_at hl 1 rfl) ?_
    refine lv_ishl hx hb dX3_notKnownTo_26 ?_
    refine lv_iconst (v := (-1 : Int32)) hx hb dX3_notKnownTo_27 (by decide) ?_
    refine lv_ixor hx hb dX3_notKnownTo_28 ?_
    refine lv_iand hx hb dX3_notKnownTo_29 ?_
    exact fc_reti hx hb hr hlocks hP hS dX3_notKnownTo_30 (i1 hf) rfl
  · have hf := ifT hf c499
    refine lv_iload_n hx hb dX3_notKnownTo_19 rfl (lv_at hl 0 rfl) ?_
    refine lv_goto (tgt := 30) hx hb dX3_notKnownTo_20 (by decide) ?_
    exact fc_reti hx hb hr hlocks hP hS dX3_notKnownTo_30 (i1 hf) rfl
theorem dk_X3_look : yX3_look.cls ≠ "java/lang/invoke/MethodHandle" ∧ yX3_look.cls ≠ "java/lang/invoke/VarHandle" ∧ (parseMethodDescriptor yX3_look.desc).map (fun d => d.parameters.length) = some 1 := by decide +kernel
theorem iu_X3_look_X3 : ∀ w ∈ u_ws RX3 TX3 2, w ∈ wsX3_look := by decide +kernel
theorem iu_X3_look_X6 : ∀ w ∈ u_ws RX6 TX6 12, w ∈ wsX3_look := by decide +kernel
set_option maxHeartbeats 4000000 in
set_option maxRecDepth 100000 in
theorem k_X3_look {l : Launch} {G : Gx} (a : Nat → Nat) (v : St) (b : Nat → Nat) (u : St) {v' : St} (hf : f_X3_look v u = some v') : FC l G yX3_look wsX3_look ({ frames := 5, cells := 0, slots := 0, locals := 122 } : Room) [.ref (a 0), .ref (b 0)] (pW G a v ++ vW G b u) (pW G a v' ++ vW G b u) none := by
  refine fc_head (cc := cX3_look) (maxL := 3) (ret := none) (C := RX3) (lv := [(0, .ref (a 0)), (1, .ref (b 0))]) (by decide) rfl rfl (Nat.le_of_ble_eq_true rfl) rfl ?_
  intro p e s m below meth c ls A hx hb hr hml hown hts hlocks hE hP hD hAB hS hl
  have hCF : CallFix p m c cX3_look 3 s ([.ref (a 0), .ref (b 0)] : List Value).toArray wsX3_look RX3 := ⟨hx, hb, hml, hown, hts⟩
  have hwX3 : ∀ w ∈ u_ws RX3 TX3 2, w.before ([.ref (a 0), .ref (b 0)] : List Value).toArray s = true := fun w h => hts w (iu_X3_look_X3 w h)
  have hwX6 : ∀ w ∈ u_ws RX6 TX6 12, w.before ([.ref (a 0), .ref (b 0)] : List Value).toArray s = true := fun w h => hts w (iu_X3_look_X6 w h)
  have hk_fieldLink_RX3_15__BrideNotKnown_Valley___groomCount___I_ := hts (.fieldLink RX3 15 "BrideNotKnown$Valley" "groomCount" "I") (List.mem_of_getElem? (i := 1) rfl)
  have hk_fieldLink_RX3_21__BrideNotKnown_Pairs___groomCount___I_ := hts (.fieldLink RX3 21 "BrideNotKnown$Pairs" "groomCount" "I") (List.mem_of_getElem? (i := 2) rfl)
  have hk_fieldLink_RX3_9__BrideNotKnown_Pairs___mayHave____I_ := hts (.fieldLink RX3 9 "BrideNotKnown$Pairs" "mayHave" "[I") (List.mem_of_getElem? (i := 3) rfl)
  have hk_initialized_RX7 := hts (.initialized RX7) (List.mem_of_getElem? (i := 11) rfl)
  have hk_static_yX7_put := hts (.static yX7_put) (List.mem_of_getElem? (i := 58) rfl)
  rw [f_X3_look] at hf
  refine lv_aload_n hx hb dX3_look_0 rfl (lv_at hl 0 rfl) ?_
  refine lv_aload_n hx hb dX3_look_1 rfl (lv_at hl 1 rfl) ?_
  refine fc_get (v := .int (u 7 3)) (ci := 3) (C := RX6) (T := TX6) (N := 12) hx hb hwX6 hown hE hP 2 (get_r (pW_n G a v) (vW_o G b u)) rfl 7 (by decide) hk_fieldLink_RX3_15__BrideNotKnown_Valley___groomCount___I_ (fun _ h => h) rfl dX3_look_2 ?_
  refine fc_put (Wa' := (pW G a (sA v 1 (upd (v 1) 0 (u 7 3))) ++ vW G b u)) (ci := 0) (C := RX3) (T := TX3) (N := 2) hx hb hwX3 tyX3 tyX3_ok nmX3 hown hE hP hD hS 0 (get_l (pW_o G a v)) rfl 1 (by decide) hk_fieldLink_RX3_21__BrideNotKnown_Pairs___groomCount___I_ (fun _ h => h) rfl rfl rfl (Nat.le_of_ble_eq_true rfl) dX3_look_5 (put_l (pW_o G a v) (pW_p1 G a v (u 7 3))) (fun H locs hP hD hS => ?_)
  refine lv_iconst (v := (0 : Int32)) hx hb dX3_look_8 (by decide) ?_
  refine lv_istore_n (lv' := [(2, .int (0 : Int32)), (0, .ref (a 0)), (1, .ref (b 0))]) hx hb dX3_look_9 rfl hl (by decide) rfl (fun ls hl => ?_)
  have L10_506 : ∀ (n : Nat) (x2_504 : Int32) (v_505 : St) (H : Heap) (locs : List Loc) (ls : Array Slot), va_P (gD G) vwCl (pW G a v_505 ++ vW G b u) H → va_D A (pW G a v_505 ++ vW G b u) → va_S A s.heap H locs → lv_has ls 3 [(0, .ref (a 0)), (1, .ref (b 0)), (2, .int x2_504)] → f_X3_look_10 u n x2_504 v_505 = some v' → W p l e (headSpec wsX3_look ({ frames := 5, cells := 0, slots := 0, locals := 122 } : Room)).room s m ([.ref (a 0), .ref (b 0)] : List Value).toArray below meth c H locs 0 0 (MQ below (FQ G A (pW G a v' ++ vW G b u) none) ([.ref (a 0), .ref (b 0)] : List Value).toArray s 0 0 A) (F0 m 10 ls []) := by
    intro n
    induction n with
    | zero =>
      intro x2_504 v_505 H locs ls hP hD hS hl hf
      exact no_some hf
    | succ n ih =>
      intro x2_504 v_505 H locs ls hP hD hS hl hf
      rw [f_X3_look_10] at hf
      refine lv_iload_n hx hb dX3_look_10 rfl (lv_at hl 2 rfl) ?_
      refine lv_aload_n hx hb dX3_look_11 rfl (lv_at hl 0 rfl) ?_
      refine fc_get (v := .int (v_505 1 0)) (ci := 0) (C := RX3) (T := TX3) (N := 2) hx hb hwX3 hown hE hP 0 (get_l (pW_o G a v_505)) rfl 1 (by decide) hk_fieldLink_RX3_21__BrideNotKnown_Pairs___groomCount___I_ (fun _ h => h) rfl dX3_look_12 ?_
      refine lv_icmp_ge (tgt := 49) hx hb dX3_look_15 (by decide) (fun c507 => ?_) (fun c507 => ?_)
      · have hf := ifT hf c507
        exact fc_retv hx hb hr hlocks hP hS dX3_look_49 (congrArg (fun z => (pW G a z ++ vW G b u)) (i1 hf))
      · have hf := ifF hf c507
        refine lv_aload_n hx hb dX3_look_18 rfl (lv_at hl 0 rfl) ?_
        refine fc_get (v := .ref (a 1)) (ci := 0) (C := RX3) (T := TX3) (N := 2) hx hb hwX3 hown hE hP 0 (get_l (pW_o G a v_505)) rfl 0 (by decide) hk_fieldLink_RX3_9__BrideNotKnown_Pairs___mayHave____I_ (fun _ h => h) rfl dX3_look_19 ?_
        refine lv_iload_n hx hb dX3_look_22 rfl (lv_at hl 2 rfl) ?_
        refine lv_aload_n hx hb dX3_look_23 rfl (lv_at hl 1 rfl) ?_
        refine lv_iload_n hx hb dX3_look_24 rfl (lv_at hl 2 rfl) ?_
        obtain ⟨q508, hq508, hf⟩ := bnd hf
        refine fc_callV (Wa' := (pW G a v_505 ++ vW G b u)) (st1 := [.int q508, .int x2_504, .ref (a 1)]) (As := [.int x2_504]) (rest := [.int x2_504, .ref (a 1)]) hCF (k_X6_isUnmarried b u x2_504 hq508) (cwV 1 hts gX3_look_X6_isUnmarried rfl rfl rfl ⟨rfl, dk_X6_isUnmarried⟩ ⟨Nat.le_of_ble_eq_true rfl, Nat.le_of_ble_eq_true rfl⟩) hE hAB hP hD hS [2, 3, 4, 5, 6, 7, 8, 9] (by decide +kernel) (app_r (pW_n G a v_505) (vW_c G b u)) (va_recv hE.1 hP (ci := 3) (q0 := 2) rfl (get_r (pW_n G a v_505) (vW_o G b u))) (vW_f G b u u) ((set_r (pW_n G a v_505)).trans (congrArg (fun z => pW G a v_505 ++ z) (vW_s G b u u))) rfl rfl hl.1 rfl (Nat.le_of_ble_eq_true rfl) dX3_look_25 ⟨Nat.le_refl _, Nat.le_refl _⟩ (fun H locs hP hD hS => ?_)
        refine lv_if_eq (tgt := 39) hx hb dX3_look_28 (by decide) (fun c509 => ?_) (fun c509 => ?_)
        · have hf := ifT hf c509
          refine lv_iconst (v := (0 : Int32)) hx hb dX3_look_39 (by decide) ?_
          obtain ⟨q510, hq510, hf⟩ := bnd hf
          refine fc_callN (Wa' := (pW G a (sA v_505 0 q510) ++ vW G b u)) (st1 := []) (As := [.ref (a 1), .int x2_504, .int (0 : Int32)]) (rest := []) hCF (k_X7_put (a 1) 5 (v_505 0) x2_504 (0 : Int32) hq510) ⟨va_cnB 3 hts gX3_look_X7_put_n30 rfl rfl rfl (hE.2.1 _ (List.mem_of_getElem? (i := 14) rfl)) hk_initialized_RX7 dk_X7_put ⟨Nat.le_of_ble_eq_true rfl, Nat.le_of_ble_eq_true rfl⟩, hk_static_yX7_put, trivial⟩ hE hAB hP hD hS [1] rfl (app_c (pW_ca1 G a v_505)) (aW_f G (a 1) 5 (v_505 0) q510) ((set_q (pW_ca1 G a v_505)).trans (congrArg (fun z => z ++ vW G b u) (pW_sa1 G a v_505 q510))) rfl rfl hl.1 rfl (Nat.le_of_ble_eq_true rfl) dX3_look_40 ⟨Nat.le_refl _, Nat.le_refl _⟩ (fun H locs hP hD hS => ?_)
          refine lv_iinc (v := (x2_504 + (1 : Int32))) (lv' := [(2, .int (x2_504 + (1 : Int32))), (0, .ref (a 0)), (1, .ref (b 0))]) hx hb dX3_look_43 hl (k := 2) rfl rfl (by decide) rfl (fun ls hl => ?_)
          refine lv_goto (tgt := 10) hx hb dX3_look_46 (by decide) ?_
          exact ih (x2_504 + (1 : Int32)) (sA v_505 0 q510) _ _ _ hP hD hS (lv_sub hl [1, 2, 0] rfl) hf
        · have hf := ifF hf c509
          refine lv_aload_n hx hb dX3_look_31 rfl (lv_at hl 1 rfl) ?_
          refine lv_iload_n hx hb dX3_look_32 rfl (lv_at hl 2 rfl) ?_
          obtain ⟨q511, hq511, hf⟩ := bnd hf
          refine fc_callS (Wa' := (pW G a v_505 ++ vW G b u)) (st1 := [.int q511, .int x2_504, .ref (a 1)]) (As := [.ref (b 0), .int x2_504]) (rest := [.int x2_504, .ref (a 1)]) hCF (k_X3_notKnownTo b u x2_504 hq511) (va_cwS 2 hts gX3_look_X3_notKnownTo rfl rfl rfl dk_X3_notKnownTo ⟨Nat.le_of_ble_eq_true rfl, Nat.le_of_ble_eq_true rfl⟩) hE hAB hP hD hS [2, 3, 4, 5, 6, 7, 8, 9] (by decide +kernel) (app_r (pW_n G a v_505) (vW_c G b u)) (vW_f G b u u) ((set_r (pW_n G a v_505)).trans (congrArg (fun z => pW G a v_505 ++ z) (vW_s G b u u))) rfl rfl hl.1 rfl (Nat.le_of_ble_eq_true rfl) dX3_look_33 ⟨Nat.le_refl _, Nat.le_refl _⟩ (fun H locs hP hD hS => ?_)
          refine lv_goto (tgt := 40) hx hb dX3_look_36 (by decide) ?_
          obtain ⟨q512, hq512, hf⟩ := bnd hf
          refine fc_callN (Wa' := (pW G a (sA v_505 0 q512) ++ vW G b u)) (st1 := []) (As := [.ref (a 1), .int x2_504, .int q511]) (rest := []) hCF (k_X7_put (a 1) 5 (v_505 0) x2_504 q511 hq512) ⟨va_cnB 3 hts gX3_look_X7_put_n30 rfl rfl rfl (hE.2.1 _ (List.mem_of_getElem? (i := 14) rfl)) hk_initialized_RX7 dk_X7_put ⟨Nat.le_of_ble_eq_true rfl, Nat.le_of_ble_eq_true rfl⟩, hk_static_yX7_put, trivial⟩ hE hAB hP hD hS [1] rfl (app_c (pW_ca1 G a v_505)) (aW_f G (a 1) 5 (v_505 0) q512) ((set_q (pW_ca1 G a v_505)).trans (congrArg (fun z => z ++ vW G b u) (pW_sa1 G a v_505 q512))) rfl rfl hl.1 rfl (Nat.le_of_ble_eq_true rfl) dX3_look_40 ⟨Nat.le_refl _, Nat.le_refl _⟩ (fun H locs hP hD hS => ?_)
          refine lv_iinc (v := (x2_504 + (1 : Int32))) (lv' := [(2, .int (x2_504 + (1 : Int32))), (0, .ref (a 0)), (1, .ref (b 0))]) hx hb dX3_look_43 hl (k := 2) rfl rfl (by decide) rfl (fun ls hl => ?_)
          refine lv_goto (tgt := 10) hx hb dX3_look_46 (by decide) ?_
          exact ih (x2_504 + (1 : Int32)) (sA v_505 0 q512) _ _ _ hP hD hS (lv_sub hl [1, 2, 0] rfl) hf
  exact L10_506 FUEL (0 : Int32) (sA v 1 (upd (v 1) 0 (u 7 3))) _ _ _ hP hD hS (lv_sub hl [1, 2, 0] rfl) hf
theorem dk_X3_partnerOf : yX3_partnerOf.cls ≠ "java/lang/invoke/MethodHandle" ∧ yX3_partnerOf.cls ≠ "java/lang/invoke/VarHandle" ∧ (parseMethodDescriptor yX3_partnerOf.desc).map (fun d => d.parameters.length) = some 1 := by decide +kernel
theorem iu_X3_partnerOf_X3 : ∀ w ∈ u_ws RX3 TX3 2, w ∈ wsX3_partnerOf := by decide +kernel
set_option maxHeartbeats 4000000 in
set_option maxRecDepth 100000 in
theorem k_X3_partnerOf {l : Launch} {G : Gx} (a : Nat → Nat) (v : St) (x1 : Int32) {r : Int32} (hf : f_X3_partnerOf v x1 = some r) : FC l G yX3_partnerOf wsX3_partnerOf ({ frames := 4, cells := 0, slots := 0, locals := 96 } : Room) [.ref (a 0), .int x1] (pW G a v) (pW G a v) (some (.int r)) := by
  refine fc_head (cc := cX3_partnerOf) (maxL := 5) (ret := (some .int)) (C := RX3) (lv := [(0, .ref (a 0)), (1, .int x1)]) (by decide) rfl rfl (Nat.le_of_ble_eq_true rfl) rfl ?_
  intro p e s m below meth c ls A hx hb hr hml hown hts hlocks hE hP hD hAB hS hl
  have hCF : CallFix p m c cX3_partnerOf 5 s ([.ref (a 0), .int x1] : List Value).toArray wsX3_partnerOf RX3 := ⟨hx, hb, hml, hown, hts⟩
  have hwX3 : ∀ w ∈ u_ws RX3 TX3 2, w.before ([.ref (a 0), .int x1] : List Value).toArray s = true := fun w h => hts w (iu_X3_partnerOf_X3 w h)
  have hk_fieldLink_RX3_21__BrideNotKnown_Pairs___groomCount___I_ := hts (.fieldLink RX3 21 "BrideNotKnown$Pairs" "groomCount" "I") (List.mem_of_getElem? (i := 1) rfl)
  rw [f_X3_partnerOf] at hf
  refine lv_iconst (v := (0 : Int32)) hx hb dX3_partnerOf_0 (by decide) ?_
  refine lv_istore_n (lv' := [(2, .int (0 : Int32)), (0, .ref (a 0)), (1, .int x1)]) hx hb dX3_partnerOf_1 rfl hl (by decide) rfl (fun ls hl => ?_)
  refine lv_bipush (v := (-9 : Int32)) hx hb dX3_partnerOf_2 (by decide) ?_
  refine lv_istore_n (lv' := [(3, .int (-9 : Int32)), (2, .int (0 : Int32)), (0, .ref (a 0)), (1, .int x1)]) hx hb dX3_partnerOf_4 rfl hl (by decide) rfl (fun ls hl => ?_)
  refine lv_iconst (v := (0 : Int32)) hx hb dX3_partnerOf_5 (by decide) ?_
  refine lv_istore (lv' := [(4, .int (0 : Int32)), (3, .int (-9 : Int32)), (2, .int (0 : Int32)), (0, .ref (a 0)), (1, .int x1)]) hx hb dX3_partnerOf_6 hl (by decide) rfl (fun ls hl => ?_)
  have L8_517 : ∀ (n : Nat) (x2_514 : Int32) (x3_515 : Int32) (x4_516 : Int32) (H : Heap) (locs : List Loc) (ls : Array Slot), va_P (gD G) vwCl (pW G a v) H → va_D A (pW G a v) → va_S A s.heap H locs → lv_has ls 5 [(0, .ref (a 0)), (1, .int x1), (2, .int x2_514), (3, .int x3_515), (4, .int x4_516)] → f_X3_partnerOf_8 v x1 n x2_514 x3_515 x4_516 = some r → W p l e (headSpec wsX3_partnerOf ({ frames := 4, cells := 0, slots := 0, locals := 96 } : Room)).room s m ([.ref (a 0), .int x1] : List Value).toArray below meth c H locs 0 0 (MQ below (FQ G A (pW G a v) (some (.int r))) ([.ref (a 0), .int x1] : List Value).toArray s 0 0 A) (F0 m 8 ls []) := by
    intro n
    induction n with
    | zero =>
      intro x2_514 x3_515 x4_516 H locs ls hP hD hS hl hf
      exact no_some hf
    | succ n ih =>
      intro x2_514 x3_515 x4_516 H locs ls hP hD hS hl hf
      rw [f_X3_partnerOf_8] at hf
      refine lv_iload hx hb dX3_partnerOf_8 (lv_at hl 4 rfl) ?_
      refine lv_iload_n hx hb dX3_partnerOf_10 rfl (lv_at hl 1 rfl) ?_
      refine lv_icmp_gt (tgt := 49) hx hb dX3_partnerOf_11 (by decide) (fun c518 => ?_) (fun c518 => ?_)
      · have hf := ifT hf c518
        refine lv_iload_n hx hb dX3_partnerOf_49 rfl (lv_at hl 3 rfl) ?_
        exact fc_reti hx hb hr hlocks hP hS dX3_partnerOf_50 (i1 hf) rfl
      · have hf := ifF hf c518
        refine lv_iload hx hb dX3_partnerOf_14 (lv_at hl 4 rfl) ?_
        refine lv_aload_n hx hb dX3_partnerOf_16 rfl (lv_at hl 0 rfl) ?_
        refine fc_get (v := .int (v 1 0)) (ci := 0) (C := RX3) (T := TX3) (N := 2) hx hb hwX3 hown hE hP 0 (pW_o G a v) rfl 1 (by decide) hk_fieldLink_RX3_21__BrideNotKnown_Pairs___groomCount___I_ (fun _ h => h) rfl dX3_partnerOf_17 ?_
        refine lv_icmp_ge (tgt := 49) hx hb dX3_partnerOf_20 (by decide) (fun c519 => ?_) (fun c519 => ?_)
        · have hf := ifT hf c519
          refine lv_iload_n hx hb dX3_partnerOf_49 rfl (lv_at hl 3 rfl) ?_
          exact fc_reti hx hb hr hlocks hP hS dX3_partnerOf_50 (i1 hf) rfl
        · have hf := ifF hf c519
          refine lv_aload_n hx hb dX3_partnerOf_23 rfl (lv_at hl 0 rfl) ?_
          refine lv_iload hx hb dX3_partnerOf_24 (lv_at hl 4 rfl) ?_
          refine lv_iload_n hx hb dX3_partnerOf_26 rfl (lv_at hl 2 rfl) ?_
          obtain ⟨q520, hq520, hf⟩ := bnd hf
          refine fc_callV (Wa' := (pW G a v)) (st1 := [.int q520]) (As := [.int x4_516, .int x2_514]) (rest := []) hCF (k_X3_firstPartner a v x4_516 x2_514 hq520) (cwV 2 hts gX3_partnerOf_X3_firstPartner rfl rfl rfl ⟨rfl, dk_X3_firstPartner⟩ ⟨Nat.le_of_ble_eq_true rfl, Nat.le_of_ble_eq_true rfl⟩) hE hAB hP hD hS [0, 1] pW_d (pW_c G a v) (va_recv hE.1 hP (ci := 0) (q0 := 0) rfl (pW_o G a v)) (pW_f G a v v) (pW_s G a v v) rfl rfl hl.1 rfl (Nat.le_of_ble_eq_true rfl) dX3_partnerOf_27 ⟨Nat.le_refl _, Nat.le_refl _⟩ (fun H locs hP hD hS => ?_)
          refine lv_istore_n (lv' := [(3, .int q520), (0, .ref (a 0)), (1, .int x1), (2, .int x2_514), (4, .int x4_516)]) hx hb dX3_partnerOf_30 rfl hl (by decide) rfl (fun ls hl => ?_)
          refine lv_iload_n hx hb dX3_partnerOf_31 rfl (lv_at hl 0 rfl) ?_
          refine lv_bipush (v := (-9 : Int32)) hx hb dX3_partnerOf_32 (by decide) ?_
          refine lv_icmp_eq (tgt := 43) hx hb dX3_partnerOf_34 (by decide) (fun c521 => ?_) (fun c521 => ?_)
          · have hf := ifT hf c521
            refine lv_iinc (v := (x4_516 + (1 : Int32))) (lv' := [(4, .int (x4_516 + (1 : Int32))), (3, .int q520), (0, .ref (a 0)), (1, .int x1), (2, .int x2_514)]) hx hb dX3_partnerOf_43 hl (k := 4) rfl rfl (by decide) rfl (fun ls hl => ?_)
            refine lv_goto (tgt := 8) hx hb dX3_partnerOf_46 (by decide) ?_
            exact ih x2_514 q520 (x4_516 + (1 : Int32)) _ _ _ hP hD hS (lv_sub hl [2, 3, 4, 1, 0] rfl) hf
          · have hf := ifF hf c521
            refine lv_iload_n hx hb dX3_partnerOf_37 rfl (lv_at hl 3 rfl) ?_
            refine lv_iconst (v := (1 : Int32)) hx hb dX3_partnerOf_38 (by decide) ?_
            refine lv_iload_n hx hb dX3_partnerOf_39 rfl (lv_at hl 0 rfl) ?_
            refine lv_ishl hx hb dX3_partnerOf_40 ?_
            refine lv_ior hx hb dX3_partnerOf_41 ?_
            refine lv_istore_n (lv' := [(2, .int (x2_514 ||| ((1 : Int32) <<< (q520 &&& 31)))), (3, .int q520), (0, .ref (a 0)), (1, .int x1), (4, .int x4_516)]) hx hb dX3_partnerOf_42 rfl hl (by decide) rfl (fun ls hl => ?_)
            refine lv_iinc (v := (x4_516 + (1 : Int32))) (lv' := [(4, .int (x4_516 + (1 : Int32))), (2, .int (x2_514 ||| ((1 : Int32) <<< (q520 &&& 31)))), (3, .int q520), (0, .ref (a 0)), (1, .int x1)]) hx hb dX3_partnerOf_43 hl (k := 4) rfl rfl (by decide) rfl (fun ls hl => ?_)
            refine lv_goto (tgt := 8) hx hb dX3_partnerOf_46 (by decide) ?_
            exact ih (x2_514 ||| ((1 : Int32) <<< (q520 &&& 31))) q520 (x4_516 + (1 : Int32)) _ _ _ hP hD hS (lv_sub hl [3, 4, 1, 2, 0] rfl) hf
  exact L8_517 FUEL (0 : Int32) (-9 : Int32) (0 : Int32) _ _ _ hP hD hS (lv_sub hl [3, 4, 2, 1, 0] rfl) hf
theorem dk_X4_add : yX4_add.cls ≠ "java/lang/invoke/MethodHandle" ∧ yX4_add.cls ≠ "java/lang/invoke/VarHandle" ∧ (parseMethodDescriptor yX4_add.desc).map (fun d => d.parameters.length) = some 1 := by decide +kernel
theorem iu_X4_add_X4 : ∀ w ∈ u_ws RX4 TX4 2, w ∈ wsX4_add := by decide +kernel
set_option maxHeartbeats 4000000 in
set_option maxRecDepth 100000 in
theorem k_X4_add {l : Launch} {G : Gx} (a : Nat → Nat) (v : St) (x1 : Int32) {r : Int32} {v' : St} (hf : f_X4_add v x1 = some (r, v')) : FC l G yX4_add wsX4_add ({ frames := 1, cells := 0, slots := 0, locals := 22 } : Room) [.ref (a 0), .int x1] (rW G a v) (rW G a v') (some (.int r)) := by
  refine fc_head (cc := cX4_add) (maxL := 2) (ret := (some .int)) (C := RX4) (lv := [(0, .ref (a 0)), (1, .int x1)]) (by decide) rfl rfl (Nat.le_of_ble_eq_true rfl) rfl ?_
  intro p e s m below meth c ls A hx hb hr hml hown hts hlocks hE hP hD hAB hS hl
  have hCF : CallFix p m c cX4_add 2 s ([.ref (a 0), .int x1] : List Value).toArray wsX4_add RX4 := ⟨hx, hb, hml, hown, hts⟩
  have hwX4 : ∀ w ∈ u_ws RX4 TX4 2, w.before ([.ref (a 0), .int x1] : List Value).toArray s = true := fun w h => hts w (iu_X4_add_X4 w h)
  have hk_fieldLink_RX4_9__BrideNotKnown_Row___told____I_ := hts (.fieldLink RX4 9 "BrideNotKnown$Row" "told" "[I") (List.mem_of_getElem? (i := 1) rfl)
  have hk_fieldLink_RX4_15__BrideNotKnown_Row___size___I_ := hts (.fieldLink RX4 15 "BrideNotKnown$Row" "size" "I") (List.mem_of_getElem? (i := 2) rfl)
  have hk_initialized_RX7 := hts (.initialized RX7) (List.mem_of_getElem? (i := 4) rfl)
  have hk_static_yX7_put := hts (.static yX7_put) (List.mem_of_getElem? (i := 3) rfl)
  rw [f_X4_add] at hf
  refine lv_aload_n hx hb dX4_add_0 rfl (lv_at hl 0 rfl) ?_
  refine fc_get (v := .ref (a 1)) (ci := 1) (C := RX4) (T := TX4) (N := 2) hx hb hwX4 hown hE hP 0 (rW_o G a v) rfl 0 (by decide) hk_fieldLink_RX4_9__BrideNotKnown_Row___told____I_ (fun _ h => h) rfl dX4_add_1 ?_
  refine lv_aload_n hx hb dX4_add_4 rfl (lv_at hl 0 rfl) ?_
  refine fc_get (v := .int (v 1 0)) (ci := 1) (C := RX4) (T := TX4) (N := 2) hx hb hwX4 hown hE hP 0 (rW_o G a v) rfl 1 (by decide) hk_fieldLink_RX4_15__BrideNotKnown_Row___size___I_ (fun _ h => h) rfl dX4_add_5 ?_
  refine lv_iload_n hx hb dX4_add_8 rfl (lv_at hl 1 rfl) ?_
  obtain ⟨q523, hq523, hf⟩ := bnd hf
  refine fc_callN (Wa' := (rW G a (sA v 0 q523))) (st1 := []) (As := [.ref (a 1), .int (v 1 0), .int x1]) (rest := []) hCF (k_X7_put (a 1) 16 (v 0) (v 1 0) x1 hq523) ⟨va_cnB 3 hts gX4_add_X7_put_n19 rfl rfl rfl (hE.2.1 _ (List.mem_of_getElem? (i := 21) rfl)) hk_initialized_RX7 dk_X7_put ⟨Nat.le_of_ble_eq_true rfl, Nat.le_of_ble_eq_true rfl⟩, hk_static_yX7_put, trivial⟩ hE hAB hP hD hS [1] rfl (rW_ca1 G a v) (aW_f G (a 1) 16 (v 0) q523) (rW_sa1 G a v q523) rfl rfl hl.1 rfl (Nat.le_of_ble_eq_true rfl) dX4_add_9 ⟨Nat.le_refl _, Nat.le_refl _⟩ (fun H locs hP hD hS => ?_)
  refine lv_aload_n hx hb dX4_add_12 rfl (lv_at hl 0 rfl) ?_
  refine lv_dup hx hb dX4_add_13 rfl ?_
  refine fc_get (v := .int (v 1 0)) (ci := 1) (C := RX4) (T := TX4) (N := 2) hx hb hwX4 hown hE hP 0 (rW_o G a (sA v 0 q523)) rfl 1 (by decide) hk_fieldLink_RX4_15__BrideNotKnown_Row___size___I_ (fun _ h => h) rfl dX4_add_14 ?_
  refine lv_iconst (v := (1 : Int32)) hx hb dX4_add_17 (by decide) ?_
  refine lv_iadd hx hb dX4_add_18 ?_
  refine fc_put (Wa' := (rW G a (sA (sA v 0 q523) 1 (upd (v 1) 0 ((v 1 0) + (1 : Int32)))))) (ci := 1) (C := RX4) (T := TX4) (N := 2) hx hb hwX4 tyX4 tyX4_ok nmX4 hown hE hP hD hS 0 (rW_o G a (sA v 0 q523)) rfl 1 (by decide) hk_fieldLink_RX4_15__BrideNotKnown_Row___size___I_ (fun _ h => h) rfl rfl rfl (Nat.le_of_ble_eq_true rfl) dX4_add_19 (rW_p1 G a (sA v 0 q523) ((v 1 0) + (1 : Int32))) (fun H locs hP hD hS => ?_)
  refine lv_aload_n hx hb dX4_add_22 rfl (lv_at hl 0 rfl) ?_
  refine fc_get (v := .int ((v 1 0) + (1 : Int32))) (ci := 1) (C := RX4) (T := TX4) (N := 2) hx hb hwX4 hown hE hP 0 (rW_o G a (sA (sA v 0 q523) 1 (upd (v 1) 0 ((v 1 0) + (1 : Int32))))) rfl 1 (by decide) hk_fieldLink_RX4_15__BrideNotKnown_Row___size___I_ (fun _ h => h) rfl dX4_add_23 ?_
  exact fc_reti hx hb hr hlocks hP hS dX4_add_26 (i2a hf) (congrArg (fun z => (rW G a z)) (i2b hf))
theorem dk_X4_empty : yX4_empty.cls ≠ "java/lang/invoke/MethodHandle" ∧ yX4_empty.cls ≠ "java/lang/invoke/VarHandle" ∧ (parseMethodDescriptor yX4_empty.desc).map (fun d => d.parameters.length) = some 0 := by decide +kernel
theorem iu_X4_empty_X4 : ∀ w ∈ u_ws RX4 TX4 2, w ∈ wsX4_empty := by decide +kernel
set_option maxHeartbeats 4000000 in
set_option maxRecDepth 100000 in
theorem k_X4_empty {l : Launch} {G : Gx} (a : Nat → Nat) (v : St) {v' : St} (hf : f_X4_empty v = some v') : FC l G yX4_empty wsX4_empty ({ frames := 0, cells := 0, slots := 0, locals := 0 } : Room) [.ref (a 0)] (rW G a v) (rW G a v') none := by
  refine fc_head (cc := cX4_empty) (maxL := 1) (ret := none) (C := RX4) (lv := [(0, .ref (a 0))]) (by decide) rfl rfl (Nat.le_of_ble_eq_true rfl) rfl ?_
  intro p e s m below meth c ls A hx hb hr hml hown hts hlocks hE hP hD hAB hS hl
  have hCF : CallFix p m c cX4_empty 1 s ([.ref (a 0)] : List Value).toArray wsX4_empty RX4 := ⟨hx, hb, hml, hown, hts⟩
  have hwX4 : ∀ w ∈ u_ws RX4 TX4 2, w.before ([.ref (a 0)] : List Value).toArray s = true := fun w h => hts w (iu_X4_empty_X4 w h)
  have hk_fieldLink_RX4_15__BrideNotKnown_Row___size___I_ := hts (.fieldLink RX4 15 "BrideNotKnown$Row" "size" "I") (List.mem_of_getElem? (i := 1) rfl)
  rw [f_X4_empty] at hf
  refine lv_aload_n hx hb dX4_empty_0 rfl (lv_at hl 0 rfl) ?_
  refine lv_iconst (v := (0 : Int32)) hx hb dX4_empty_1 (by decide) ?_
  refine fc_put (Wa' := (rW G a (sA v 1 (upd (v 1) 0 (0 : Int32))))) (ci := 1) (C := RX4) (T := TX4) (N := 2) hx hb hwX4 tyX4 tyX4_ok nmX4 hown hE hP hD hS 0 (rW_o G a v) rfl 1 (by decide) hk_fieldLink_RX4_15__BrideNotKnown_Row___size___I_ (fun _ h => h) rfl rfl rfl (Nat.le_of_ble_eq_true rfl) dX4_empty_2 (rW_p1 G a v (0 : Int32)) (fun H locs hP hD hS => ?_)
  exact fc_retv hx hb hr hlocks hP hS dX4_empty_5 (congrArg (fun z => (rW G a z)) (i1 hf))
theorem dk_X4_isShownAs : yX4_isShownAs.cls ≠ "java/lang/invoke/MethodHandle" ∧ yX4_isShownAs.cls ≠ "java/lang/invoke/VarHandle" ∧ (parseMethodDescriptor yX4_isShownAs.desc).map (fun d => d.parameters.length) = some 4 := by decide +kernel
theorem iu_X4_isShownAs_X4 : ∀ w ∈ u_ws RX4 TX4 2, w ∈ wsX4_isShownAs := by decide +kernel
set_option maxHeartbeats 4000000 in
set_option maxRecDepth 100000 in
theorem k_X4_isShownAs {l : Launch} {G : Gx} (a : Nat → Nat) (v : St) (b : Nat → Nat) (u : St) (x2 : Int32) (x3 : Int32) (x4 : Int32) {r : Int32} (hf : f_X4_isShownAs v u x2 x3 x4 = some r) : FC l G yX4_isShownAs wsX4_isShownAs ({ frames := 2, cells := 0, slots := 0, locals := 49 } : Room) [.ref (a 0), .ref (b 0), .int x2, .int x3, .int x4] (rW G a v ++ vW G b u) (rW G a v ++ vW G b u) (some (.int r)) := by
  refine fc_head (cc := cX4_isShownAs) (maxL := 6) (ret := (some .boolean)) (C := RX4) (lv := [(0, .ref (a 0)), (1, .ref (b 0)), (2, .int x2), (3, .int x3), (4, .int x4)]) (by decide) rfl rfl (Nat.le_of_ble_eq_true rfl) rfl ?_
  intro p e s m below meth c ls A hx hb hr hml hown hts hlocks hE hP hD hAB hS hl
  have hCF : CallFix p m c cX4_isShownAs 6 s ([.ref (a 0), .ref (b 0), .int x2, .int x3, .int x4] : List Value).toArray wsX4_isShownAs RX4 := ⟨hx, hb, hml, hown, hts⟩
  have hwX4 : ∀ w ∈ u_ws RX4 TX4 2, w.before ([.ref (a 0), .ref (b 0), .int x2, .int x3, .int x4] : List Value).toArray s = true := fun w h => hts w (iu_X4_isShownAs_X4 w h)
  have hk_fieldLink_RX4_15__BrideNotKnown_Row___size___I_ := hts (.fieldLink RX4 15 "BrideNotKnown$Row" "size" "I") (List.mem_of_getElem? (i := 1) rfl)
  have hk_fieldLink_RX4_9__BrideNotKnown_Row___told____I_ := hts (.fieldLink RX4 9 "BrideNotKnown$Row" "told" "[I") (List.mem_of_getElem? (i := 2) rfl)
  have hk_initialized_RX7 := hts (.initialized RX7) (List.mem_of_getElem? (i := 11) rfl)
  have hk_static_yX7_at := hts (.static yX7_at) (List.mem_of_getElem? (i := 10) rfl)
  rw [f_X4_isShownAs] at hf
  refine lv_iconst (v := (0 : Int32)) hx hb dX4_isShownAs_0 (by decide) ?_
  refine lv_istore (lv' := [(5, .int (0 : Int32)), (0, .ref (a 0)), (1, .ref (b 0)), (2, .int x2), (3, .int x3), (4, .int x4)]) hx hb dX4_isShownAs_1 hl (by decide) rfl (fun ls hl => ?_)
  have L3_529 : ∀ (n : Nat) (x5_528 : Int32) (H : Heap) (locs : List Loc) (ls : Array Slot), va_P (gD G) vwCl (rW G a v ++ vW G b u) H → va_D A (rW G a v ++ vW G b u) → va_S A s.heap H locs → lv_has ls 6 [(0, .ref (a 0)), (1, .ref (b 0)), (2, .int x2), (3, .int x3), (4, .int x4), (5, .int x5_528)] → f_X4_isShownAs_3 v u x2 x3 x4 n x5_528 = some r → W p l e (headSpec wsX4_isShownAs ({ frames := 2, cells := 0, slots := 0, locals := 49 } : Room)).room s m ([.ref (a 0), .ref (b 0), .int x2, .int x3, .int x4] : List Value).toArray below meth c H locs 0 0 (MQ below (FQ G A (rW G a v ++ vW G b u) (some (.int r))) ([.ref (a 0), .ref (b 0), .int x2, .int x3, .int x4] : List Value).toArray s 0 0 A) (F0 m 3 ls []) := by
    intro n
    induction n with
    | zero =>
      intro x5_528 H locs ls hP hD hS hl hf
      exact no_some hf
    | succ n ih =>
      intro x5_528 H locs ls hP hD hS hl hf
      rw [f_X4_isShownAs_3] at hf
      refine lv_iload hx hb dX4_isShownAs_3 (lv_at hl 5 rfl) ?_
      refine lv_aload_n hx hb dX4_isShownAs_5 rfl (lv_at hl 0 rfl) ?_
      refine fc_get (v := .int (v 1 0)) (ci := 1) (C := RX4) (T := TX4) (N := 2) hx hb hwX4 hown hE hP 0 (get_l (rW_o G a v)) rfl 1 (by decide) hk_fieldLink_RX4_15__BrideNotKnown_Row___size___I_ (fun _ h => h) rfl dX4_isShownAs_6 ?_
      refine lv_icmp_ge (tgt := 42) hx hb dX4_isShownAs_9 (by decide) (fun c530 => ?_) (fun c530 => ?_)
      · have hf := ifT hf c530
        refine lv_iconst (v := (1 : Int32)) hx hb dX4_isShownAs_42 (by decide) ?_
        exact fc_retz hx hb hr hlocks hP hS dX4_isShownAs_43 (by decide) (i1 hf) rfl
      · have hf := ifF hf c530
        refine lv_aload_n hx hb dX4_isShownAs_12 rfl (lv_at hl 1 rfl) ?_
        refine lv_iload_n hx hb dX4_isShownAs_13 rfl (lv_at hl 2 rfl) ?_
        refine lv_iload_n hx hb dX4_isShownAs_14 rfl (lv_at hl 3 rfl) ?_
        refine lv_iload hx hb dX4_isShownAs_15 (lv_at hl 4 rfl) ?_
        refine lv_iload hx hb dX4_isShownAs_17 (lv_at hl 5 rfl) ?_
        obtain ⟨q531, hq531, hf⟩ := bnd hf
        refine fc_callV (Wa' := (rW G a v ++ vW G b u)) (st1 := [.int q531]) (As := [.int x2, .int x3, .int x4, .int x5_528]) (rest := []) hCF (k_X6_showsAs b u x2 x3 x4 x5_528 hq531) (cwV 4 hts gX4_isShownAs_X6_showsAs rfl rfl rfl ⟨rfl, dk_X6_showsAs⟩ ⟨Nat.le_of_ble_eq_true rfl, Nat.le_of_ble_eq_true rfl⟩) hE hAB hP hD hS [2, 3, 4, 5, 6, 7, 8, 9] (by decide +kernel) (app_r (rW_n G a v) (vW_c G b u)) (va_recv hE.1 hP (ci := 3) (q0 := 2) rfl (get_r (rW_n G a v) (vW_o G b u))) (vW_f G b u u) ((set_r (rW_n G a v)).trans (congrArg (fun z => rW G a v ++ z) (vW_s G b u u))) rfl rfl hl.1 rfl (Nat.le_of_ble_eq_true rfl) dX4_isShownAs_19 ⟨Nat.le_refl _, Nat.le_refl _⟩ (fun H locs hP hD hS => ?_)
        refine lv_aload_n hx hb dX4_isShownAs_22 rfl (lv_at hl 0 rfl) ?_
        refine fc_get (v := .ref (a 1)) (ci := 1) (C := RX4) (T := TX4) (N := 2) hx hb hwX4 hown hE hP 0 (get_l (rW_o G a v)) rfl 0 (by decide) hk_fieldLink_RX4_9__BrideNotKnown_Row___told____I_ (fun _ h => h) rfl dX4_isShownAs_23 ?_
        refine lv_iload hx hb dX4_isShownAs_26 (lv_at hl 5 rfl) ?_
        obtain ⟨q532, hq532, hf⟩ := bnd hf
        refine fc_callN (Wa' := (rW G a v ++ vW G b u)) (st1 := [.int q532, .int q531]) (As := [.ref (a 1), .int x5_528]) (rest := [.int q531]) hCF (k_X7_at (a 1) 16 (v 0) x5_528 hq532) ⟨va_cnB 2 hts gX4_isShownAs_X7_at_n23 rfl rfl rfl (hE.2.1 _ (List.mem_of_getElem? (i := 18) rfl)) hk_initialized_RX7 dk_X7_at ⟨Nat.le_of_ble_eq_true rfl, Nat.le_of_ble_eq_true rfl⟩, hk_static_yX7_at, trivial⟩ hE hAB hP hD hS [1] rfl (app_c (rW_ca1 G a v)) (aW_f G (a 1) 16 (v 0) (v 0)) ((set_q (rW_ca1 G a v)).trans (congrArg (fun z => z ++ vW G b u) (rW_ia1 G a v))) rfl rfl hl.1 rfl (Nat.le_of_ble_eq_true rfl) dX4_isShownAs_28 ⟨Nat.le_refl _, Nat.le_refl _⟩ (fun H locs hP hD hS => ?_)
        refine lv_icmp_eq (tgt := 36) hx hb dX4_isShownAs_31 (by decide) (fun c533 => ?_) (fun c533 => ?_)
        · have hf := ifT hf c533
          refine lv_iinc (v := (x5_528 + (1 : Int32))) (lv' := [(5, .int (x5_528 + (1 : Int32))), (0, .ref (a 0)), (1, .ref (b 0)), (2, .int x2), (3, .int x3), (4, .int x4)]) hx hb dX4_isShownAs_36 hl (k := 5) rfl rfl (by decide) rfl (fun ls hl => ?_)
          refine lv_goto (tgt := 3) hx hb dX4_isShownAs_39 (by decide) ?_
          exact ih (x5_528 + (1 : Int32)) _ _ _ hP hD hS (lv_sub hl [1, 2, 3, 4, 5, 0] rfl) hf
        · have hf := ifF hf c533
          refine lv_iconst (v := (0 : Int32)) hx hb dX4_isShownAs_34 (by decide) ?_
          exact fc_retz hx hb hr hlocks hP hS dX4_isShownAs_35 (by decide) (i1 hf) rfl
  exact L3_529 FUEL (0 : Int32) _ _ _ hP hD hS (lv_sub hl [1, 2, 3, 4, 5, 0] rfl) hf
theorem dk_X4_figuresOf : yX4_figuresOf.cls ≠ "java/lang/invoke/MethodHandle" ∧ yX4_figuresOf.cls ≠ "java/lang/invoke/VarHandle" ∧ (parseMethodDescriptor yX4_figuresOf.desc).map (fun d => d.parameters.length) = some 2 := by decide +kernel
set_option maxHeartbeats 4000000 in
set_option maxRecDepth 100000 in
theorem k_X4_figuresOf {l : Launch} {G : Gx} (a : Nat → Nat) (v : St) (b : Nat → Nat) (u : St) (x2 : Int32) {r : Int32} (hf : f_X4_figuresOf v u x2 = some r) : FC l G yX4_figuresOf wsX4_figuresOf ({ frames := 3, cells := 0, slots := 0, locals := 74 } : Room) [.ref (a 0), .ref (b 0), .int x2] (rW G a v ++ vW G b u) (rW G a v ++ vW G b u) (some (.int r)) := by
  refine fc_head (cc := cX4_figuresOf) (maxL := 5) (ret := (some .int)) (C := RX4) (lv := [(0, .ref (a 0)), (1, .ref (b 0)), (2, .int x2)]) (by decide) rfl rfl (Nat.le_of_ble_eq_true rfl) rfl ?_
  intro p e s m below meth c ls A hx hb hr hml hown hts hlocks hE hP hD hAB hS hl
  have hCF : CallFix p m c cX4_figuresOf 5 s ([.ref (a 0), .ref (b 0), .int x2] : List Value).toArray wsX4_figuresOf RX4 := ⟨hx, hb, hml, hown, hts⟩
  rw [f_X4_figuresOf] at hf
  refine lv_iconst (v := (0 : Int32)) hx hb dX4_figuresOf_0 (by decide) ?_
  refine lv_istore_n (lv' := [(3, .int (0 : Int32)), (0, .ref (a 0)), (1, .ref (b 0)), (2, .int x2)]) hx hb dX4_figuresOf_1 rfl hl (by decide) rfl (fun ls hl => ?_)
  refine lv_iconst (v := (0 : Int32)) hx hb dX4_figuresOf_2 (by decide) ?_
  refine lv_istore (lv' := [(4, .int (0 : Int32)), (3, .int (0 : Int32)), (0, .ref (a 0)), (1, .ref (b 0)), (2, .int x2)]) hx hb dX4_figuresOf_3 hl (by decide) rfl (fun ls hl => ?_)
  have L5_538 : ∀ (n : Nat) (x3_536 : Int32) (x4_537 : Int32) (H : Heap) (locs : List Loc) (ls : Array Slot), va_P (gD G) vwCl (rW G a v ++ vW G b u) H → va_D A (rW G a v ++ vW G b u) → va_S A s.heap H locs → lv_has ls 5 [(0, .ref (a 0)), (1, .ref (b 0)), (2, .int x2), (3, .int x3_536), (4, .int x4_537)] → f_X4_figuresOf_5 v u x2 n x3_536 x4_537 = some r → W p l e (headSpec wsX4_figuresOf ({ frames := 3, cells := 0, slots := 0, locals := 74 } : Room)).room s m ([.ref (a 0), .ref (b 0), .int x2] : List Value).toArray below meth c H locs 0 0 (MQ below (FQ G A (rW G a v ++ vW G b u) (some (.int r))) ([.ref (a 0), .ref (b 0), .int x2] : List Value).toArray s 0 0 A) (F0 m 5 ls []) := by
    intro n
    induction n with
    | zero =>
      intro x3_536 x4_537 H locs ls hP hD hS hl hf
      exact no_some hf
    | succ n ih =>
      intro x3_536 x4_537 H locs ls hP hD hS hl hf
      rw [f_X4_figuresOf_5] at hf
      refine lv_iload hx hb dX4_figuresOf_5 (lv_at hl 4 rfl) ?_
      refine lv_bipush (v := (9 : Int32)) hx hb dX4_figuresOf_7 (by decide) ?_
      refine lv_icmp_gt (tgt := 41) hx hb dX4_figuresOf_9 (by decide) (fun c539 => ?_) (fun c539 => ?_)
      · have hf := ifT hf c539
        refine lv_iload_n hx hb dX4_figuresOf_41 rfl (lv_at hl 3 rfl) ?_
        exact fc_reti hx hb hr hlocks hP hS dX4_figuresOf_42 (i1 hf) rfl
      · have hf := ifF hf c539
        refine lv_aload_n hx hb dX4_figuresOf_12 rfl (lv_at hl 0 rfl) ?_
        refine lv_aload_n hx hb dX4_figuresOf_13 rfl (lv_at hl 1 rfl) ?_
        refine lv_iload_n hx hb dX4_figuresOf_14 rfl (lv_at hl 2 rfl) ?_
        refine lv_aload_n hx hb dX4_figuresOf_15 rfl (lv_at hl 1 rfl) ?_
        refine lv_iload_n hx hb dX4_figuresOf_16 rfl (lv_at hl 2 rfl) ?_
        obtain ⟨q540, hq540, hf⟩ := bnd hf
        refine fc_callV (Wa' := (rW G a v ++ vW G b u)) (st1 := [.int q540, .int x2, .ref (b 0), .ref (a 0)]) (As := [.int x2]) (rest := [.int x2, .ref (b 0), .ref (a 0)]) hCF (k_X6_kindOf b u x2 hq540) (cwV 1 hts gX4_figuresOf_X6_kindOf rfl rfl rfl ⟨rfl, dk_X6_kindOf⟩ ⟨Nat.le_of_ble_eq_true rfl, Nat.le_of_ble_eq_true rfl⟩) hE hAB hP hD hS [2, 3, 4, 5, 6, 7, 8, 9] (by decide +kernel) (app_r (rW_n G a v) (vW_c G b u)) (va_recv hE.1 hP (ci := 3) (q0 := 2) rfl (get_r (rW_n G a v) (vW_o G b u))) (vW_f G b u u) ((set_r (rW_n G a v)).trans (congrArg (fun z => rW G a v ++ z) (vW_s G b u u))) rfl rfl hl.1 rfl (Nat.le_of_ble_eq_true rfl) dX4_figuresOf_17 ⟨Nat.le_refl _, Nat.le_refl _⟩ (fun H locs hP hD hS => ?_)
        refine lv_iload hx hb dX4_figuresOf_20 (lv_at hl 4 rfl) ?_
        obtain ⟨q541, hq541, hf⟩ := bnd hf
        refine fc_callV (Wa' := (rW G a v ++ vW G b u)) (st1 := [.int q541]) (As := [.ref (b 0), .int x2, .int q540, .int x4_537]) (rest := []) hCF (k_X4_isShownAs a v b u x2 q540 x4_537 hq541) (cwV 4 hts gX4_figuresOf_X4_isShownAs rfl rfl rfl ⟨rfl, dk_X4_isShownAs⟩ ⟨Nat.le_of_ble_eq_true rfl, Nat.le_of_ble_eq_true rfl⟩) hE hAB hP hD hS [0, 1, 2, 3, 4, 5, 6, 7, 8, 9] (by decide +kernel) (cut_cut (app_c (rW_c G a v)) (app_r (rW_n G a v) (vW_c G b u))) (va_recv hE.1 hP (ci := 1) (q0 := 0) rfl (get_l (rW_o G a v))) (fst_fst (rW_f G a v v) (vW_f G b u u)) ((set_set (i1 := [0, 1]) (W1 := (rW G a v)) (rW_n G a v).symm).trans ((congrArg (fun z => setAll z _ _) ((set_r (rW_n G a v)).trans (congrArg (fun z => rW G a v ++ z) (vW_s G b u u)))).trans ((set_q (rW_c G a v)).trans (congrArg (fun z => z ++ vW G b u) (rW_s G a v v))))) rfl rfl hl.1 rfl (Nat.le_of_ble_eq_true rfl) dX4_figuresOf_22 ⟨Nat.le_refl _, Nat.le_refl _⟩ (fun H locs hP hD hS => ?_)
        refine lv_if_eq (tgt := 35) hx hb dX4_figuresOf_25 (by decide) (fun c542 => ?_) (fun c542 => ?_)
        · have hf := ifT hf c542
          refine lv_iinc (v := (x4_537 + (1 : Int32))) (lv' := [(4, .int (x4_537 + (1 : Int32))), (0, .ref (a 0)), (1, .ref (b 0)), (2, .int x2), (3, .int x3_536)]) hx hb dX4_figuresOf_35 hl (k := 4) rfl rfl (by decide) rfl (fun ls hl => ?_)
          refine lv_goto (tgt := 5) hx hb dX4_figuresOf_38 (by decide) ?_
          exact ih x3_536 (x4_537 + (1 : Int32)) _ _ _ hP hD hS (lv_sub hl [1, 2, 3, 4, 0] rfl) hf
        · have hf := ifF hf c542
          refine lv_iload_n hx hb dX4_figuresOf_28 rfl (lv_at hl 3 rfl) ?_
          refine lv_iconst (v := (1 : Int32)) hx hb dX4_figuresOf_29 (by decide) ?_
          refine lv_iload hx hb dX4_figuresOf_30 (lv_at hl 4 rfl) ?_
          refine lv_ishl hx hb dX4_figuresOf_32 ?_
          refine lv_ior hx hb dX4_figuresOf_33 ?_
          refine lv_istore_n (lv' := [(3, .int (x3_536 ||| ((1 : Int32) <<< (x4_537 &&& 31)))), (0, .ref (a 0)), (1, .ref (b 0)), (2, .int x2), (4, .int x4_537)]) hx hb dX4_figuresOf_34 rfl hl (by decide) rfl (fun ls hl => ?_)
          refine lv_iinc (v := (x4_537 + (1 : Int32))) (lv' := [(4, .int (x4_537 + (1 : Int32))), (3, .int (x3_536 ||| ((1 : Int32) <<< (x4_537 &&& 31)))), (0, .ref (a 0)), (1, .ref (b 0)), (2, .int x2)]) hx hb dX4_figuresOf_35 hl (k := 4) rfl rfl (by decide) rfl (fun ls hl => ?_)
          refine lv_goto (tgt := 5) hx hb dX4_figuresOf_38 (by decide) ?_
          exact ih (x3_536 ||| ((1 : Int32) <<< (x4_537 &&& 31))) (x4_537 + (1 : Int32)) _ _ _ hP hD hS (lv_sub hl [2, 3, 4, 1, 0] rfl) hf
  exact L5_538 FUEL (0 : Int32) (0 : Int32) _ _ _ hP hD hS (lv_sub hl [2, 3, 4, 1, 0] rfl) hf
theorem dk_X4_firstWrongGuess : yX4_firstWrongGuess.cls ≠ "java/lang/invoke/MethodHandle" ∧ yX4_firstWrongGuess.cls ≠ "java/lang/invoke/VarHandle" ∧ (parseMethodDescriptor yX4_firstWrongGuess.desc).map (fun d => d.parameters.length) = some 1 := by decide +kernel
theorem iu_X4_firstWrongGuess_X4 : ∀ w ∈ u_ws RX4 TX4 2, w ∈ wsX4_firstWrongGuess := by decide +kernel
set_option maxHeartbeats 4000000 in
set_option maxRecDepth 100000 in
theorem k_X4_firstWrongGuess {l : Launch} {G : Gx} (a : Nat → Nat) (v : St) (b : Nat → Nat) (u : St) {r : Int32} (hf : f_X4_firstWrongGuess v u = some r) : FC l G yX4_firstWrongGuess wsX4_firstWrongGuess ({ frames := 4, cells := 0, slots := 0, locals := 99 } : Room) [.ref (a 0), .ref (b 0)] (rW G a v ++ vW G b u) (rW G a v ++ vW G b u) (some (.int r)) := by
  refine fc_head (cc := cX4_firstWrongGuess) (maxL := 4) (ret := (some .int)) (C := RX4) (lv := [(0, .ref (a 0)), (1, .ref (b 0))]) (by decide) rfl rfl (Nat.le_of_ble_eq_true rfl) rfl ?_
  intro p e s m below meth c ls A hx hb hr hml hown hts hlocks hE hP hD hAB hS hl
  have hCF : CallFix p m c cX4_firstWrongGuess 4 s ([.ref (a 0), .ref (b 0)] : List Value).toArray wsX4_firstWrongGuess RX4 := ⟨hx, hb, hml, hown, hts⟩
  have hwX4 : ∀ w ∈ u_ws RX4 TX4 2, w.before ([.ref (a 0), .ref (b 0)] : List Value).toArray s = true := fun w h => hts w (iu_X4_firstWrongGuess_X4 w h)
  have hk_fieldLink_RX4_15__BrideNotKnown_Row___size___I_ := hts (.fieldLink RX4 15 "BrideNotKnown$Row" "size" "I") (List.mem_of_getElem? (i := 1) rfl)
  have hk_fieldLink_RX4_9__BrideNotKnown_Row___told____I_ := hts (.fieldLink RX4 9 "BrideNotKnown$Row" "told" "[I") (List.mem_of_getElem? (i := 2) rfl)
  have hk_initialized_RX7 := hts (.initialized RX7) (List.mem_of_getElem? (i := 15) rfl)
  have hk_static_yX7_at := hts (.static yX7_at) (List.mem_of_getElem? (i := 14) rfl)
  rw [f_X4_firstWrongGuess] at hf
  refine lv_iconst (v := (0 : Int32)) hx hb dX4_firstWrongGuess_0 (by decide) ?_
  refine lv_istore_n (lv' := [(2, .int (0 : Int32)), (0, .ref (a 0)), (1, .ref (b 0))]) hx hb dX4_firstWrongGuess_1 rfl hl (by decide) rfl (fun ls hl => ?_)
  have L2_553 : ∀ (n : Nat) (x2_552 : Int32) (H : Heap) (locs : List Loc) (ls : Array Slot), va_P (gD G) vwCl (rW G a v ++ vW G b u) H → va_D A (rW G a v ++ vW G b u) → va_S A s.heap H locs → lv_has ls 4 [(0, .ref (a 0)), (1, .ref (b 0)), (2, .int x2_552)] → f_X4_firstWrongGuess_2 v u n x2_552 = some r → W p l e (headSpec wsX4_firstWrongGuess ({ frames := 4, cells := 0, slots := 0, locals := 99 } : Room)).room s m ([.ref (a 0), .ref (b 0)] : List Value).toArray below meth c H locs 0 0 (MQ below (FQ G A (rW G a v ++ vW G b u) (some (.int r))) ([.ref (a 0), .ref (b 0)] : List Value).toArray s 0 0 A) (F0 m 2 ls []) := by
    intro n
    induction n with
    | zero =>
      intro x2_552 H locs ls hP hD hS hl hf
      exact no_some hf
    | succ n ih =>
      intro x2_552 H locs ls hP hD hS hl hf
      rw [f_X4_firstWrongGuess_2] at hf
      refine lv_iload_n hx hb dX4_firstWrongGuess_2 rfl (lv_at hl 2 rfl) ?_
      refine lv_aload_n hx hb dX4_firstWrongGuess_3 rfl (lv_at hl 0 rfl) ?_
      refine fc_get (v := .int (v 1 0)) (ci := 1) (C := RX4) (T := TX4) (N := 2) hx hb hwX4 hown hE hP 0 (get_l (rW_o G a v)) rfl 1 (by decide) hk_fieldLink_RX4_15__BrideNotKnown_Row___size___I_ (fun _ h => h) rfl dX4_firstWrongGuess_4 ?_
      refine lv_icmp_ge (tgt := 56) hx hb dX4_firstWrongGuess_7 (by decide) (fun c554 => ?_) (fun c554 => ?_)
      · have hf := ifT hf c554
        refine lv_bipush (v := (-9 : Int32)) hx hb dX4_firstWrongGuess_56 (by decide) ?_
        exact fc_reti hx hb hr hlocks hP hS dX4_firstWrongGuess_58 (i1 hf) rfl
      · have hf := ifF hf c554
        refine lv_aload_n hx hb dX4_firstWrongGuess_10 rfl (lv_at hl 1 rfl) ?_
        refine lv_iload_n hx hb dX4_firstWrongGuess_11 rfl (lv_at hl 2 rfl) ?_
        obtain ⟨q555, hq555, hf⟩ := bnd hf
        refine fc_callV (Wa' := (rW G a v ++ vW G b u)) (st1 := [.int q555]) (As := [.int x2_552]) (rest := []) hCF (k_X6_hasGroom b u x2_552 hq555) (cwV 1 hts gX4_firstWrongGuess_X6_hasGroom rfl rfl rfl ⟨rfl, dk_X6_hasGroom⟩ ⟨Nat.le_of_ble_eq_true rfl, Nat.le_of_ble_eq_true rfl⟩) hE hAB hP hD hS [2, 3, 4, 5, 6, 7, 8, 9] (by decide +kernel) (app_r (rW_n G a v) (vW_c G b u)) (va_recv hE.1 hP (ci := 3) (q0 := 2) rfl (get_r (rW_n G a v) (vW_o G b u))) (vW_f G b u u) ((set_r (rW_n G a v)).trans (congrArg (fun z => rW G a v ++ z) (vW_s G b u u))) rfl rfl hl.1 rfl (Nat.le_of_ble_eq_true rfl) dX4_firstWrongGuess_12 ⟨Nat.le_refl _, Nat.le_refl _⟩ (fun H locs hP hD hS => ?_)
        have J43_557 : ∀ (s0_556 : Int32) (H : Heap) (locs : List Loc) (ls : Array Slot), va_P (gD G) vwCl (rW G a v ++ vW G b u) H → va_D A (rW G a v ++ vW G b u) → va_S A s.heap H locs → lv_has ls 4 [(0, .ref (a 0)), (1, .ref (b 0)), (2, .int x2_552)] → f_X4_firstWrongGuess_43 x2_552 s0_556 (fun (x2_558 : Int32) => f_X4_firstWrongGuess_2 v u n x2_558) = some r → W p l e (headSpec wsX4_firstWrongGuess ({ frames := 4, cells := 0, slots := 0, locals := 99 } : Room)).room s m ([.ref (a 0), .ref (b 0)] : List Value).toArray below meth c H locs 0 0 (MQ below (FQ G A (rW G a v ++ vW G b u) (some (.int r))) ([.ref (a 0), .ref (b 0)] : List Value).toArray s 0 0 A) (F0 m 43 ls [.int s0_556]) := by
          intro s0_556 H locs ls hP hD hS hl hf
          rw [f_X4_firstWrongGuess_43] at hf
          refine lv_istore_n (lv' := [(3, .int s0_556), (0, .ref (a 0)), (1, .ref (b 0)), (2, .int x2_552)]) hx hb dX4_firstWrongGuess_43 rfl hl (by decide) rfl (fun ls hl => ?_)
          refine lv_iload_n hx hb dX4_firstWrongGuess_44 rfl (lv_at hl 0 rfl) ?_
          refine lv_if_ne (tgt := 50) hx hb dX4_firstWrongGuess_45 (by decide) (fun c559 => ?_) (fun c559 => ?_)
          · have hf := ifF hf c559
            refine lv_iinc (v := (x2_552 + (1 : Int32))) (lv' := [(2, .int (x2_552 + (1 : Int32))), (3, .int s0_556), (0, .ref (a 0)), (1, .ref (b 0))]) hx hb dX4_firstWrongGuess_50 hl (k := 3) rfl rfl (by decide) rfl (fun ls hl => ?_)
            refine lv_goto (tgt := 2) hx hb dX4_firstWrongGuess_53 (by decide) ?_
            exact ih (x2_552 + (1 : Int32)) _ _ _ hP hD hS (lv_sub hl [2, 3, 0] rfl) hf
          · have hf := ifT hf c559
            refine lv_iload_n hx hb dX4_firstWrongGuess_48 rfl (lv_at hl 3 rfl) ?_
            exact fc_reti hx hb hr hlocks hP hS dX4_firstWrongGuess_49 (i1 hf) rfl
        refine lv_if_eq (tgt := 42) hx hb dX4_firstWrongGuess_15 (by decide) (fun c560 => ?_) (fun c560 => ?_)
        · have hf := ifT hf c560
          refine lv_iconst (v := (0 : Int32)) hx hb dX4_firstWrongGuess_42 (by decide) ?_
          exact J43_557 (0 : Int32) _ _ _ hP hD hS (lv_sub hl [0, 1, 2] rfl) hf
        · have hf := ifF hf c560
          refine lv_aload_n hx hb dX4_firstWrongGuess_18 rfl (lv_at hl 1 rfl) ?_
          refine lv_iload_n hx hb dX4_firstWrongGuess_19 rfl (lv_at hl 2 rfl) ?_
          refine lv_iconst (v := (0 : Int32)) hx hb dX4_firstWrongGuess_20 (by decide) ?_
          obtain ⟨q561, hq561, hf⟩ := bnd hf
          refine fc_callV (Wa' := (rW G a v ++ vW G b u)) (st1 := [.int q561]) (As := [.int x2_552, .int (0 : Int32)]) (rest := []) hCF (k_X6_guesses b u x2_552 (0 : Int32) hq561) (cwV 2 hts gX4_firstWrongGuess_X6_guesses rfl rfl rfl ⟨rfl, dk_X6_guesses⟩ ⟨Nat.le_of_ble_eq_true rfl, Nat.le_of_ble_eq_true rfl⟩) hE hAB hP hD hS [2, 3, 4, 5, 6, 7, 8, 9] (by decide +kernel) (app_r (rW_n G a v) (vW_c G b u)) (va_recv hE.1 hP (ci := 3) (q0 := 2) rfl (get_r (rW_n G a v) (vW_o G b u))) (vW_f G b u u) ((set_r (rW_n G a v)).trans (congrArg (fun z => rW G a v ++ z) (vW_s G b u u))) rfl rfl hl.1 rfl (Nat.le_of_ble_eq_true rfl) dX4_firstWrongGuess_21 ⟨Nat.le_refl _, Nat.le_refl _⟩ (fun H locs hP hD hS => ?_)
          obtain ⟨q562, hq562, hf⟩ := bnd hf
          refine fc_callS (Wa' := (rW G a v ++ vW G b u)) (st1 := [.int q562]) (As := [.int q561]) (rest := []) hCF (k_J6_bitCount_0f7a4 q561 hq562) (va_cwS 1 hts gX4_firstWrongGuess_J6_bitCount_0f7a4 rfl rfl rfl dk_J6_bitCount_0f7a4 ⟨Nat.le_of_ble_eq_true rfl, Nat.le_of_ble_eq_true rfl⟩) hE hAB hP hD hS [] rfl rfl rfl rfl rfl rfl hl.1 rfl (Nat.le_of_ble_eq_true rfl) dX4_firstWrongGuess_24 ⟨Nat.le_refl _, Nat.le_refl _⟩ (fun H locs hP hD hS => ?_)
          refine lv_aload_n hx hb dX4_firstWrongGuess_27 rfl (lv_at hl 0 rfl) ?_
          refine fc_get (v := .ref (a 1)) (ci := 1) (C := RX4) (T := TX4) (N := 2) hx hb hwX4 hown hE hP 0 (get_l (rW_o G a v)) rfl 0 (by decide) hk_fieldLink_RX4_9__BrideNotKnown_Row___told____I_ (fun _ h => h) rfl dX4_firstWrongGuess_28 ?_
          refine lv_iload_n hx hb dX4_firstWrongGuess_31 rfl (lv_at hl 2 rfl) ?_
          obtain ⟨q563, hq563, hf⟩ := bnd hf
          refine fc_callN (Wa' := (rW G a v ++ vW G b u)) (st1 := [.int q563, .int q562]) (As := [.ref (a 1), .int x2_552]) (rest := [.int q562]) hCF (k_X7_at (a 1) 16 (v 0) x2_552 hq563) ⟨va_cnB 2 hts gX4_firstWrongGuess_X7_at_n23 rfl rfl rfl (hE.2.1 _ (List.mem_of_getElem? (i := 18) rfl)) hk_initialized_RX7 dk_X7_at ⟨Nat.le_of_ble_eq_true rfl, Nat.le_of_ble_eq_true rfl⟩, hk_static_yX7_at, trivial⟩ hE hAB hP hD hS [1] rfl (app_c (rW_ca1 G a v)) (aW_f G (a 1) 16 (v 0) (v 0)) ((set_q (rW_ca1 G a v)).trans (congrArg (fun z => z ++ vW G b u) (rW_ia1 G a v))) rfl rfl hl.1 rfl (Nat.le_of_ble_eq_true rfl) dX4_firstWrongGuess_32 ⟨Nat.le_refl _, Nat.le_refl _⟩ (fun H locs hP hD hS => ?_)
          refine lv_icmp_ne (tgt := 42) hx hb dX4_firstWrongGuess_35 (by decide) (fun c564 => ?_) (fun c564 => ?_)
          · have hf := ifF hf c564
            refine lv_iconst (v := (0 : Int32)) hx hb dX4_firstWrongGuess_42 (by decide) ?_
            exact J43_557 (0 : Int32) _ _ _ hP hD hS (lv_sub hl [0, 1, 2] rfl) hf
          · have hf := ifT hf c564
            refine lv_iconst (v := (1 : Int32)) hx hb dX4_firstWrongGuess_38 (by decide) ?_
            refine lv_goto (tgt := 43) hx hb dX4_firstWrongGuess_39 (by decide) ?_
            exact J43_557 (1 : Int32) _ _ _ hP hD hS (lv_sub hl [0, 1, 2] rfl) hf
  exact L2_553 FUEL (0 : Int32) _ _ _ hP hD hS (lv_sub hl [1, 2, 0] rfl) hf
theorem dk_X4_howManyToesOf : yX4_howManyToesOf.cls ≠ "java/lang/invoke/MethodHandle" ∧ yX4_howManyToesOf.cls ≠ "java/lang/invoke/VarHandle" ∧ (parseMethodDescriptor yX4_howManyToesOf.desc).map (fun d => d.parameters.length) = some 1 := by decide +kernel
theorem iu_X4_howManyToesOf_X4 : ∀ w ∈ u_ws RX4 TX4 2, w ∈ wsX4_howManyToesOf := by decide +kernel
set_option maxHeartbeats 4000000 in
set_option maxRecDepth 100000 in
theorem k_X4_howManyToesOf {l : Launch} {G : Gx} (a : Nat → Nat) (v : St) (x1 : Int32) {r : Int32} (hf : f_X4_howManyToesOf v x1 = some r) : FC l G yX4_howManyToesOf wsX4_howManyToesOf ({ frames := 1, cells := 0, slots := 0, locals := 21 } : Room) [.ref (a 0), .int x1] (rW G a v) (rW G a v) (some (.int r)) := by
  refine fc_head (cc := cX4_howManyToesOf) (maxL := 4) (ret := (some .int)) (C := RX4) (lv := [(0, .ref (a 0)), (1, .int x1)]) (by decide) rfl rfl (Nat.le_of_ble_eq_true rfl) rfl ?_
  intro p e s m below meth c ls A hx hb hr hml hown hts hlocks hE hP hD hAB hS hl
  have hCF : CallFix p m c cX4_howManyToesOf 4 s ([.ref (a 0), .int x1] : List Value).toArray wsX4_howManyToesOf RX4 := ⟨hx, hb, hml, hown, hts⟩
  have hwX4 : ∀ w ∈ u_ws RX4 TX4 2, w.before ([.ref (a 0), .int x1] : List Value).toArray s = true := fun w h => hts w (iu_X4_howManyToesOf_X4 w h)
  have hk_fieldLink_RX4_15__BrideNotKnown_Row___size___I_ := hts (.fieldLink RX4 15 "BrideNotKnown$Row" "size" "I") (List.mem_of_getElem? (i := 1) rfl)
  have hk_fieldLink_RX4_9__BrideNotKnown_Row___told____I_ := hts (.fieldLink RX4 9 "BrideNotKnown$Row" "told" "[I") (List.mem_of_getElem? (i := 2) rfl)
  have hk_initialized_RX7 := hts (.initialized RX7) (List.mem_of_getElem? (i := 4) rfl)
  have hk_static_yX7_at := hts (.static yX7_at) (List.mem_of_getElem? (i := 3) rfl)
  have hk_static_yX7_has := hts (.static yX7_has) (List.mem_of_getElem? (i := 6) rfl)
  rw [f_X4_howManyToesOf] at hf
  refine lv_iconst (v := (0 : Int32)) hx hb dX4_howManyToesOf_0 (by decide) ?_
  refine lv_istore_n (lv' := [(2, .int (0 : Int32)), (0, .ref (a 0)), (1, .int x1)]) hx hb dX4_howManyToesOf_1 rfl hl (by decide) rfl (fun ls hl => ?_)
  refine lv_iconst (v := (0 : Int32)) hx hb dX4_howManyToesOf_2 (by decide) ?_
  refine lv_istore_n (lv' := [(3, .int (0 : Int32)), (2, .int (0 : Int32)), (0, .ref (a 0)), (1, .int x1)]) hx hb dX4_howManyToesOf_3 rfl hl (by decide) rfl (fun ls hl => ?_)
  have L4_569 : ∀ (n : Nat) (x2_567 : Int32) (x3_568 : Int32) (H : Heap) (locs : List Loc) (ls : Array Slot), va_P (gD G) vwCl (rW G a v) H → va_D A (rW G a v) → va_S A s.heap H locs → lv_has ls 4 [(0, .ref (a 0)), (1, .int x1), (2, .int x2_567), (3, .int x3_568)] → f_X4_howManyToesOf_4 v x1 n x2_567 x3_568 = some r → W p l e (headSpec wsX4_howManyToesOf ({ frames := 1, cells := 0, slots := 0, locals := 21 } : Room)).room s m ([.ref (a 0), .int x1] : List Value).toArray below meth c H locs 0 0 (MQ below (FQ G A (rW G a v) (some (.int r))) ([.ref (a 0), .int x1] : List Value).toArray s 0 0 A) (F0 m 4 ls []) := by
    intro n
    induction n with
    | zero =>
      intro x2_567 x3_568 H locs ls hP hD hS hl hf
      exact no_some hf
    | succ n ih =>
      intro x2_567 x3_568 H locs ls hP hD hS hl hf
      rw [f_X4_howManyToesOf_4] at hf
      refine lv_iload_n hx hb dX4_howManyToesOf_4 rfl (lv_at hl 3 rfl) ?_
      refine lv_aload_n hx hb dX4_howManyToesOf_5 rfl (lv_at hl 0 rfl) ?_
      refine fc_get (v := .int (v 1 0)) (ci := 1) (C := RX4) (T := TX4) (N := 2) hx hb hwX4 hown hE hP 0 (rW_o G a v) rfl 1 (by decide) hk_fieldLink_RX4_15__BrideNotKnown_Row___size___I_ (fun _ h => h) rfl dX4_howManyToesOf_6 ?_
      refine lv_icmp_ge (tgt := 36) hx hb dX4_howManyToesOf_9 (by decide) (fun c570 => ?_) (fun c570 => ?_)
      · have hf := ifT hf c570
        refine lv_iload_n hx hb dX4_howManyToesOf_36 rfl (lv_at hl 2 rfl) ?_
        exact fc_reti hx hb hr hlocks hP hS dX4_howManyToesOf_37 (i1 hf) rfl
      · have hf := ifF hf c570
        refine lv_iload_n hx hb dX4_howManyToesOf_12 rfl (lv_at hl 1 rfl) ?_
        refine lv_aload_n hx hb dX4_howManyToesOf_13 rfl (lv_at hl 0 rfl) ?_
        refine fc_get (v := .ref (a 1)) (ci := 1) (C := RX4) (T := TX4) (N := 2) hx hb hwX4 hown hE hP 0 (rW_o G a v) rfl 0 (by decide) hk_fieldLink_RX4_9__BrideNotKnown_Row___told____I_ (fun _ h => h) rfl dX4_howManyToesOf_14 ?_
        refine lv_iload_n hx hb dX4_howManyToesOf_17 rfl (lv_at hl 3 rfl) ?_
        obtain ⟨q571, hq571, hf⟩ := bnd hf
        refine fc_callN (Wa' := (rW G a v)) (st1 := [.int q571, .int x1]) (As := [.ref (a 1), .int x3_568]) (rest := [.int x1]) hCF (k_X7_at (a 1) 16 (v 0) x3_568 hq571) ⟨va_cnB 2 hts gX4_howManyToesOf_X7_at_n23 rfl rfl rfl (hE.2.1 _ (List.mem_of_getElem? (i := 18) rfl)) hk_initialized_RX7 dk_X7_at ⟨Nat.le_of_ble_eq_true rfl, Nat.le_of_ble_eq_true rfl⟩, hk_static_yX7_at, trivial⟩ hE hAB hP hD hS [1] rfl (rW_ca1 G a v) (aW_f G (a 1) 16 (v 0) (v 0)) (rW_ia1 G a v) rfl rfl hl.1 rfl (Nat.le_of_ble_eq_true rfl) dX4_howManyToesOf_18 ⟨Nat.le_refl _, Nat.le_refl _⟩ (fun H locs hP hD hS => ?_)
        obtain ⟨q572, hq572, hf⟩ := bnd hf
        refine fc_callN (Wa' := (rW G a v)) (st1 := [.int q572]) (As := [.int x1, .int q571]) (rest := []) hCF (k_X7_has x1 q571 hq572) ⟨va_cnB 2 hts gX4_howManyToesOf_X7_has_n27 rfl rfl rfl (hE.2.1 _ (List.mem_of_getElem? (i := 19) rfl)) hk_initialized_RX7 dk_X7_has ⟨Nat.le_of_ble_eq_true rfl, Nat.le_of_ble_eq_true rfl⟩, hk_static_yX7_has, trivial⟩ hE hAB hP hD hS [] rfl rfl rfl rfl rfl rfl hl.1 rfl (Nat.le_of_ble_eq_true rfl) dX4_howManyToesOf_21 ⟨Nat.le_refl _, Nat.le_refl _⟩ (fun H locs hP hD hS => ?_)
        refine lv_if_eq (tgt := 30) hx hb dX4_howManyToesOf_24 (by decide) (fun c573 => ?_) (fun c573 => ?_)
        · have hf := ifT hf c573
          refine lv_iinc (v := (x3_568 + (1 : Int32))) (lv' := [(3, .int (x3_568 + (1 : Int32))), (0, .ref (a 0)), (1, .int x1), (2, .int x2_567)]) hx hb dX4_howManyToesOf_30 hl (k := 3) rfl rfl (by decide) rfl (fun ls hl => ?_)
          refine lv_goto (tgt := 4) hx hb dX4_howManyToesOf_33 (by decide) ?_
          exact ih x2_567 (x3_568 + (1 : Int32)) _ _ _ hP hD hS (lv_sub hl [1, 2, 3, 0] rfl) hf
        · have hf := ifF hf c573
          refine lv_iinc (v := (x2_567 + (1 : Int32))) (lv' := [(2, .int (x2_567 + (1 : Int32))), (0, .ref (a 0)), (1, .int x1), (3, .int x3_568)]) hx hb dX4_howManyToesOf_27 hl (k := 2) rfl rfl (by decide) rfl (fun ls hl => ?_)
          refine lv_iinc (v := (x3_568 + (1 : Int32))) (lv' := [(3, .int (x3_568 + (1 : Int32))), (2, .int (x2_567 + (1 : Int32))), (0, .ref (a 0)), (1, .int x1)]) hx hb dX4_howManyToesOf_30 hl (k := 3) rfl rfl (by decide) rfl (fun ls hl => ?_)
          refine lv_goto (tgt := 4) hx hb dX4_howManyToesOf_33 (by decide) ?_
          exact ih (x2_567 + (1 : Int32)) (x3_568 + (1 : Int32)) _ _ _ hP hD hS (lv_sub hl [2, 3, 1, 0] rfl) hf
  exact L4_569 FUEL (0 : Int32) (0 : Int32) _ _ _ hP hD hS (lv_sub hl [2, 3, 1, 0] rfl) hf
theorem dk_X4_isFull : yX4_isFull.cls ≠ "java/lang/invoke/MethodHandle" ∧ yX4_isFull.cls ≠ "java/lang/invoke/VarHandle" ∧ (parseMethodDescriptor yX4_isFull.desc).map (fun d => d.parameters.length) = some 0 := by decide +kernel
theorem iu_X4_isFull_X4 : ∀ w ∈ u_ws RX4 TX4 2, w ∈ wsX4_isFull := by decide +kernel
set_option maxHeartbeats 4000000 in
set_option maxRecDepth 100000 in
theorem k_X4_isFull {l : Launch} {G : Gx} (a : Nat → Nat) (v : St) {r : Int32} (hf : f_X4_isFull v = some r) : FC l G yX4_isFull wsX4_isFull ({ frames := 0, cells := 0, slots := 0, locals := 0 } : Room) [.ref (a 0)] (rW G a v) (rW G a v) (some (.int r)) := by
  refine fc_head (cc := cX4_isFull) (maxL := 1) (ret := (some .boolean)) (C := RX4) (lv := [(0, .ref (a 0))]) (by decide) rfl rfl (Nat.le_of_ble_eq_true rfl) rfl ?_
  intro p e s m below meth c ls A hx hb hr hml hown hts hlocks hE hP hD hAB hS hl
  have hCF : CallFix p m c cX4_isFull 1 s ([.ref (a 0)] : List Value).toArray wsX4_isFull RX4 := ⟨hx, hb, hml, hown, hts⟩
  have hwX4 : ∀ w ∈ u_ws RX4 TX4 2, w.before ([.ref (a 0)] : List Value).toArray s = true := fun w h => hts w (iu_X4_isFull_X4 w h)
  have hk_fieldLink_RX4_15__BrideNotKnown_Row___size___I_ := hts (.fieldLink RX4 15 "BrideNotKnown$Row" "size" "I") (List.mem_of_getElem? (i := 1) rfl)
  rw [f_X4_isFull] at hf
  refine lv_aload_n hx hb dX4_isFull_0 rfl (lv_at hl 0 rfl) ?_
  refine fc_get (v := .int (v 1 0)) (ci := 1) (C := RX4) (T := TX4) (N := 2) hx hb hwX4 hown hE hP 0 (rW_o G a v) rfl 1 (by decide) hk_fieldLink_RX4_15__BrideNotKnown_Row___size___I_ (fun _ h => h) rfl dX4_isFull_1 ?_
  refine lv_bipush (v := (16 : Int32)) hx hb dX4_isFull_4 (by decide) ?_
  refine lv_icmp_lt (tgt := 13) hx hb dX4_isFull_6 (by decide) (fun c574 => ?_) (fun c574 => ?_)
  · have hf := ifT hf c574
    refine lv_iconst (v := (0 : Int32)) hx hb dX4_isFull_13 (by decide) ?_
    exact fc_retz hx hb hr hlocks hP hS dX4_isFull_14 (by decide) (i1 hf) rfl
  · have hf := ifF hf c574
    refine lv_iconst (v := (1 : Int32)) hx hb dX4_isFull_9 (by decide) ?_
    refine lv_goto (tgt := 14) hx hb dX4_isFull_10 (by decide) ?_
    exact fc_retz hx hb hr hlocks hP hS dX4_isFull_14 (by decide) (i1 hf) rfl
theorem dk_X4_kindsOf : yX4_kindsOf.cls ≠ "java/lang/invoke/MethodHandle" ∧ yX4_kindsOf.cls ≠ "java/lang/invoke/VarHandle" ∧ (parseMethodDescriptor yX4_kindsOf.desc).map (fun d => d.parameters.length) = some 2 := by decide +kernel
set_option maxHeartbeats 4000000 in
set_option maxRecDepth 100000 in
theorem k_X4_kindsOf {l : Launch} {G : Gx} (a : Nat → Nat) (v : St) (b : Nat → Nat) (u : St) (x2 : Int32) {r : Int32} (hf : f_X4_kindsOf v u x2 = some r) : FC l G yX4_kindsOf wsX4_kindsOf ({ frames := 3, cells := 0, slots := 0, locals := 74 } : Room) [.ref (a 0), .ref (b 0), .int x2] (rW G a v ++ vW G b u) (rW G a v ++ vW G b u) (some (.int r)) := by
  refine fc_head (cc := cX4_kindsOf) (maxL := 5) (ret := (some .int)) (C := RX4) (lv := [(0, .ref (a 0)), (1, .ref (b 0)), (2, .int x2)]) (by decide) rfl rfl (Nat.le_of_ble_eq_true rfl) rfl ?_
  intro p e s m below meth c ls A hx hb hr hml hown hts hlocks hE hP hD hAB hS hl
  have hCF : CallFix p m c cX4_kindsOf 5 s ([.ref (a 0), .ref (b 0), .int x2] : List Value).toArray wsX4_kindsOf RX4 := ⟨hx, hb, hml, hown, hts⟩
  rw [f_X4_kindsOf] at hf
  refine lv_iconst (v := (0 : Int32)) hx hb dX4_kindsOf_0 (by decide) ?_
  refine lv_istore_n (lv' := [(3, .int (0 : Int32)), (0, .ref (a 0)), (1, .ref (b 0)), (2, .int x2)]) hx hb dX4_kindsOf_1 rfl hl (by decide) rfl (fun ls hl => ?_)
  refine lv_iconst (v := (0 : Int32)) hx hb dX4_kindsOf_2 (by decide) ?_
  refine lv_istore (lv' := [(4, .int (0 : Int32)), (3, .int (0 : Int32)), (0, .ref (a 0)), (1, .ref (b 0)), (2, .int x2)]) hx hb dX4_kindsOf_3 hl (by decide) rfl (fun ls hl => ?_)
  have L5_581 : ∀ (n : Nat) (x3_579 : Int32) (x4_580 : Int32) (H : Heap) (locs : List Loc) (ls : Array Slot), va_P (gD G) vwCl (rW G a v ++ vW G b u) H → va_D A (rW G a v ++ vW G b u) → va_S A s.heap H locs → lv_has ls 5 [(0, .ref (a 0)), (1, .ref (b 0)), (2, .int x2), (3, .int x3_579), (4, .int x4_580)] → f_X4_kindsOf_5 v u x2 n x3_579 x4_580 = some r → W p l e (headSpec wsX4_kindsOf ({ frames := 3, cells := 0, slots := 0, locals := 74 } : Room)).room s m ([.ref (a 0), .ref (b 0), .int x2] : List Value).toArray below meth c H locs 0 0 (MQ below (FQ G A (rW G a v ++ vW G b u) (some (.int r))) ([.ref (a 0), .ref (b 0), .int x2] : List Value).toArray s 0 0 A) (F0 m 5 ls []) := by
    intro n
    induction n with
    | zero =>
      intro x3_579 x4_580 H locs ls hP hD hS hl hf
      exact no_some hf
    | succ n ih =>
      intro x3_579 x4_580 H locs ls hP hD hS hl hf
      rw [f_X4_kindsOf_5] at hf
      refine lv_iload hx hb dX4_kindsOf_5 (lv_at hl 4 rfl) ?_
      refine lv_bipush (v := (6 : Int32)) hx hb dX4_kindsOf_7 (by decide) ?_
      refine lv_icmp_ge (tgt := 41) hx hb dX4_kindsOf_9 (by decide) (fun c582 => ?_) (fun c582 => ?_)
      · have hf := ifT hf c582
        refine lv_iload_n hx hb dX4_kindsOf_41 rfl (lv_at hl 3 rfl) ?_
        exact fc_reti hx hb hr hlocks hP hS dX4_kindsOf_42 (i1 hf) rfl
      · have hf := ifF hf c582
        refine lv_aload_n hx hb dX4_kindsOf_12 rfl (lv_at hl 0 rfl) ?_
        refine lv_aload_n hx hb dX4_kindsOf_13 rfl (lv_at hl 1 rfl) ?_
        refine lv_iload_n hx hb dX4_kindsOf_14 rfl (lv_at hl 2 rfl) ?_
        refine lv_iload hx hb dX4_kindsOf_15 (lv_at hl 4 rfl) ?_
        refine lv_aload_n hx hb dX4_kindsOf_17 rfl (lv_at hl 1 rfl) ?_
        refine lv_iload_n hx hb dX4_kindsOf_18 rfl (lv_at hl 2 rfl) ?_
        obtain ⟨q583, hq583, hf⟩ := bnd hf
        refine fc_callV (Wa' := (rW G a v ++ vW G b u)) (st1 := [.int q583, .int x4_580, .int x2, .ref (b 0), .ref (a 0)]) (As := [.int x2]) (rest := [.int x4_580, .int x2, .ref (b 0), .ref (a 0)]) hCF (k_X6_figureOf b u x2 hq583) (cwV 1 hts gX4_kindsOf_X6_figureOf rfl rfl rfl ⟨rfl, dk_X6_figureOf⟩ ⟨Nat.le_of_ble_eq_true rfl, Nat.le_of_ble_eq_true rfl⟩) hE hAB hP hD hS [2, 3, 4, 5, 6, 7, 8, 9] (by decide +kernel) (app_r (rW_n G a v) (vW_c G b u)) (va_recv hE.1 hP (ci := 3) (q0 := 2) rfl (get_r (rW_n G a v) (vW_o G b u))) (vW_f G b u u) ((set_r (rW_n G a v)).trans (congrArg (fun z => rW G a v ++ z) (vW_s G b u u))) rfl rfl hl.1 rfl (Nat.le_of_ble_eq_true rfl) dX4_kindsOf_19 ⟨Nat.le_refl _, Nat.le_refl _⟩ (fun H locs hP hD hS => ?_)
        obtain ⟨q584, hq584, hf⟩ := bnd hf
        refine fc_callV (Wa' := (rW G a v ++ vW G b u)) (st1 := [.int q584]) (As := [.ref (b 0), .int x2, .int x4_580, .int q583]) (rest := []) hCF (k_X4_isShownAs a v b u x2 x4_580 q583 hq584) (cwV 4 hts gX4_kindsOf_X4_isShownAs rfl rfl rfl ⟨rfl, dk_X4_isShownAs⟩ ⟨Nat.le_of_ble_eq_true rfl, Nat.le_of_ble_eq_true rfl⟩) hE hAB hP hD hS [0, 1, 2, 3, 4, 5, 6, 7, 8, 9] (by decide +kernel) (cut_cut (app_c (rW_c G a v)) (app_r (rW_n G a v) (vW_c G b u))) (va_recv hE.1 hP (ci := 1) (q0 := 0) rfl (get_l (rW_o G a v))) (fst_fst (rW_f G a v v) (vW_f G b u u)) ((set_set (i1 := [0, 1]) (W1 := (rW G a v)) (rW_n G a v).symm).trans ((congrArg (fun z => setAll z _ _) ((set_r (rW_n G a v)).trans (congrArg (fun z => rW G a v ++ z) (vW_s G b u u)))).trans ((set_q (rW_c G a v)).trans (congrArg (fun z => z ++ vW G b u) (rW_s G a v v))))) rfl rfl hl.1 rfl (Nat.le_of_ble_eq_true rfl) dX4_kindsOf_22 ⟨Nat.le_refl _, Nat.le_refl _⟩ (fun H locs hP hD hS => ?_)
        refine lv_if_eq (tgt := 35) hx hb dX4_kindsOf_25 (by decide) (fun c585 => ?_) (fun c585 => ?_)
        · have hf := ifT hf c585
          refine lv_iinc (v := (x4_580 + (1 : Int32))) (lv' := [(4, .int (x4_580 + (1 : Int32))), (0, .ref (a 0)), (1, .ref (b 0)), (2, .int x2), (3, .int x3_579)]) hx hb dX4_kindsOf_35 hl (k := 4) rfl rfl (by decide) rfl (fun ls hl => ?_)
          refine lv_goto (tgt := 5) hx hb dX4_kindsOf_38 (by decide) ?_
          exact ih x3_579 (x4_580 + (1 : Int32)) _ _ _ hP hD hS (lv_sub hl [1, 2, 3, 4, 0] rfl) hf
        · have hf := ifF hf c585
          refine lv_iload_n hx hb dX4_kindsOf_28 rfl (lv_at hl 3 rfl) ?_
          refine lv_iconst (v := (1 : Int32)) hx hb dX4_kindsOf_29 (by decide) ?_
          refine lv_iload hx hb dX4_kindsOf_30 (lv_at hl 4 rfl) ?_
          refine lv_ishl hx hb dX4_kindsOf_32 ?_
          refine lv_ior hx hb dX4_kindsOf_33 ?_
          refine lv_istore_n (lv' := [(3, .int (x3_579 ||| ((1 : Int32) <<< (x4_580 &&& 31)))), (0, .ref (a 0)), (1, .ref (b 0)), (2, .int x2), (4, .int x4_580)]) hx hb dX4_kindsOf_34 rfl hl (by decide) rfl (fun ls hl => ?_)
          refine lv_iinc (v := (x4_580 + (1 : Int32))) (lv' := [(4, .int (x4_580 + (1 : Int32))), (3, .int (x3_579 ||| ((1 : Int32) <<< (x4_580 &&& 31)))), (0, .ref (a 0)), (1, .ref (b 0)), (2, .int x2)]) hx hb dX4_kindsOf_35 hl (k := 4) rfl rfl (by decide) rfl (fun ls hl => ?_)
          refine lv_goto (tgt := 5) hx hb dX4_kindsOf_38 (by decide) ?_
          exact ih (x3_579 ||| ((1 : Int32) <<< (x4_580 &&& 31))) (x4_580 + (1 : Int32)) _ _ _ hP hD hS (lv_sub hl [2, 3, 4, 1, 0] rfl) hf
  exact L5_581 FUEL (0 : Int32) (0 : Int32) _ _ _ hP hD hS (lv_sub hl [2, 3, 4, 1, 0] rfl) hf
theorem dk_X5_add : yX5_add.cls ≠ "java/lang/invoke/MethodHandle" ∧ yX5_add.cls ≠ "java/lang/invoke/VarHandle" ∧ (parseMethodDescriptor yX5_add.desc).map (fun d => d.parameters.length) = some 1 := by decide +kernel
theorem iu_X5_add_X5 : ∀ w ∈ u_ws RX5 TX5 2, w ∈ wsX5_add := by decide +kernel
set_option maxHeartbeats 4000000 in
set_option maxRecDepth 100000 in
theorem k_X5_add {l : Launch} {G : Gx} (a : Nat → Nat) (v : St) (x1 : Int32) {r : Int32} {v' : St} (hf : f_X5_add v x1 = some (r, v')) : FC l G yX5_add wsX5_add ({ frames := 1, cells := 0, slots := 0, locals := 22 } : Room) [.ref (a 0), .int x1] (tW G a v) (tW G a v') (some (.int r)) := by
  refine fc_head (cc := cX5_add) (maxL := 2) (ret := (some .int)) (C := RX5) (lv := [(0, .ref (a 0)), (1, .int x1)]) (by decide) rfl rfl (Nat.le_of_ble_eq_true rfl) rfl ?_
  intro p e s m below meth c ls A hx hb hr hml hown hts hlocks hE hP hD hAB hS hl
  have hCF : CallFix p m c cX5_add 2 s ([.ref (a 0), .int x1] : List Value).toArray wsX5_add RX5 := ⟨hx, hb, hml, hown, hts⟩
  have hwX5 : ∀ w ∈ u_ws RX5 TX5 2, w.before ([.ref (a 0), .int x1] : List Value).toArray s = true := fun w h => hts w (iu_X5_add_X5 w h)
  have hk_fieldLink_RX5_9__BrideNotKnown_Text___letters____I_ := hts (.fieldLink RX5 9 "BrideNotKnown$Text" "letters" "[I") (List.mem_of_getElem? (i := 1) rfl)
  have hk_fieldLink_RX5_15__BrideNotKnown_Text___size___I_ := hts (.fieldLink RX5 15 "BrideNotKnown$Text" "size" "I") (List.mem_of_getElem? (i := 2) rfl)
  have hk_initialized_RX7 := hts (.initialized RX7) (List.mem_of_getElem? (i := 4) rfl)
  have hk_static_yX7_put := hts (.static yX7_put) (List.mem_of_getElem? (i := 3) rfl)
  rw [f_X5_add] at hf
  refine lv_aload_n hx hb dX5_add_0 rfl (lv_at hl 0 rfl) ?_
  refine fc_get (v := .ref (a 1)) (ci := 2) (C := RX5) (T := TX5) (N := 2) hx hb hwX5 hown hE hP 0 (tW_o G a v) rfl 0 (by decide) hk_fieldLink_RX5_9__BrideNotKnown_Text___letters____I_ (fun _ h => h) rfl dX5_add_1 ?_
  refine lv_aload_n hx hb dX5_add_4 rfl (lv_at hl 0 rfl) ?_
  refine fc_get (v := .int (v 1 0)) (ci := 2) (C := RX5) (T := TX5) (N := 2) hx hb hwX5 hown hE hP 0 (tW_o G a v) rfl 1 (by decide) hk_fieldLink_RX5_15__BrideNotKnown_Text___size___I_ (fun _ h => h) rfl dX5_add_5 ?_
  refine lv_iload_n hx hb dX5_add_8 rfl (lv_at hl 1 rfl) ?_
  obtain ⟨q587, hq587, hf⟩ := bnd hf
  refine fc_callN (Wa' := (tW G a (sA v 0 q587))) (st1 := []) (As := [.ref (a 1), .int (v 1 0), .int x1]) (rest := []) hCF (k_X7_put (a 1) 96 (v 0) (v 1 0) x1 hq587) ⟨va_cnB 3 hts gX5_add_X7_put_n19 rfl rfl rfl (hE.2.1 _ (List.mem_of_getElem? (i := 4) rfl)) hk_initialized_RX7 dk_X7_put ⟨Nat.le_of_ble_eq_true rfl, Nat.le_of_ble_eq_true rfl⟩, hk_static_yX7_put, trivial⟩ hE hAB hP hD hS [1] rfl (tW_ca1 G a v) (aW_f G (a 1) 96 (v 0) q587) (tW_sa1 G a v q587) rfl rfl hl.1 rfl (Nat.le_of_ble_eq_true rfl) dX5_add_9 ⟨Nat.le_refl _, Nat.le_refl _⟩ (fun H locs hP hD hS => ?_)
  refine lv_aload_n hx hb dX5_add_12 rfl (lv_at hl 0 rfl) ?_
  refine lv_dup hx hb dX5_add_13 rfl ?_
  refine fc_get (v := .int (v 1 0)) (ci := 2) (C := RX5) (T := TX5) (N := 2) hx hb hwX5 hown hE hP 0 (tW_o G a (sA v 0 q587)) rfl 1 (by decide) hk_fieldLink_RX5_15__BrideNotKnown_Text___size___I_ (fun _ h => h) rfl dX5_add_14 ?_
  refine lv_iconst (v := (1 : Int32)) hx hb dX5_add_17 (by decide) ?_
  refine lv_iadd hx hb dX5_add_18 ?_
  refine fc_put (Wa' := (tW G a (sA (sA v 0 q587) 1 (upd (v 1) 0 ((v 1 0) + (1 : Int32)))))) (ci := 2) (C := RX5) (T := TX5) (N := 2) hx hb hwX5 tyX5 tyX5_ok nmX5 hown hE hP hD hS 0 (tW_o G a (sA v 0 q587)) rfl 1 (by decide) hk_fieldLink_RX5_15__BrideNotKnown_Text___size___I_ (fun _ h => h) rfl rfl rfl (Nat.le_of_ble_eq_true rfl) dX5_add_19 (tW_p1 G a (sA v 0 q587) ((v 1 0) + (1 : Int32))) (fun H locs hP hD hS => ?_)
  refine lv_aload_n hx hb dX5_add_22 rfl (lv_at hl 0 rfl) ?_
  refine fc_get (v := .int ((v 1 0) + (1 : Int32))) (ci := 2) (C := RX5) (T := TX5) (N := 2) hx hb hwX5 hown hE hP 0 (tW_o G a (sA (sA v 0 q587) 1 (upd (v 1) 0 ((v 1 0) + (1 : Int32))))) rfl 1 (by decide) hk_fieldLink_RX5_15__BrideNotKnown_Text___size___I_ (fun _ h => h) rfl dX5_add_23 ?_
  exact fc_reti hx hb hr hlocks hP hS dX5_add_26 (i2a hf) (congrArg (fun z => (tW G a z)) (i2b hf))
theorem dk_X5_digitAt : yX5_digitAt.cls ≠ "java/lang/invoke/MethodHandle" ∧ yX5_digitAt.cls ≠ "java/lang/invoke/VarHandle" ∧ (parseMethodDescriptor yX5_digitAt.desc).map (fun d => d.parameters.length) = some 1 := by decide +kernel
theorem iu_X5_digitAt_X5 : ∀ w ∈ u_ws RX5 TX5 2, w ∈ wsX5_digitAt := by decide +kernel
set_option maxHeartbeats 4000000 in
set_option maxRecDepth 100000 in
theorem k_X5_digitAt {l : Launch} {G : Gx} (a : Nat → Nat) (v : St) (x1 : Int32) {r : Int32} (hf : f_X5_digitAt v x1 = some r) : FC l G yX5_digitAt wsX5_digitAt ({ frames := 1, cells := 0, slots := 0, locals := 21 } : Room) [.ref (a 0), .int x1] (tW G a v) (tW G a v) (some (.int r)) := by
  refine fc_head (cc := cX5_digitAt) (maxL := 2) (ret := (some .int)) (C := RX5) (lv := [(0, .ref (a 0)), (1, .int x1)]) (by decide) rfl rfl (Nat.le_of_ble_eq_true rfl) rfl ?_
  intro p e s m below meth c ls A hx hb hr hml hown hts hlocks hE hP hD hAB hS hl
  have hCF : CallFix p m c cX5_digitAt 2 s ([.ref (a 0), .int x1] : List Value).toArray wsX5_digitAt RX5 := ⟨hx, hb, hml, hown, hts⟩
  have hwX5 : ∀ w ∈ u_ws RX5 TX5 2, w.before ([.ref (a 0), .int x1] : List Value).toArray s = true := fun w h => hts w (iu_X5_digitAt_X5 w h)
  have hk_fieldLink_RX5_9__BrideNotKnown_Text___letters____I_ := hts (.fieldLink RX5 9 "BrideNotKnown$Text" "letters" "[I") (List.mem_of_getElem? (i := 1) rfl)
  have hk_initialized_RX7 := hts (.initialized RX7) (List.mem_of_getElem? (i := 3) rfl)
  have hk_static_yX7_at := hts (.static yX7_at) (List.mem_of_getElem? (i := 2) rfl)
  rw [f_X5_digitAt] at hf
  refine lv_aload_n hx hb dX5_digitAt_0 rfl (lv_at hl 0 rfl) ?_
  refine fc_get (v := .ref (a 1)) (ci := 2) (C := RX5) (T := TX5) (N := 2) hx hb hwX5 hown hE hP 0 (tW_o G a v) rfl 0 (by decide) hk_fieldLink_RX5_9__BrideNotKnown_Text___letters____I_ (fun _ h => h) rfl dX5_digitAt_1 ?_
  refine lv_iload_n hx hb dX5_digitAt_4 rfl (lv_at hl 1 rfl) ?_
  obtain ⟨q589, hq589, hf⟩ := bnd hf
  refine fc_callN (Wa' := (tW G a v)) (st1 := [.int q589]) (As := [.ref (a 1), .int x1]) (rest := []) hCF (k_X7_at (a 1) 96 (v 0) x1 hq589) ⟨va_cnB 2 hts gX5_digitAt_X7_at_n31 rfl rfl rfl (hE.2.1 _ (List.mem_of_getElem? (i := 6) rfl)) hk_initialized_RX7 dk_X7_at ⟨Nat.le_of_ble_eq_true rfl, Nat.le_of_ble_eq_true rfl⟩, hk_static_yX7_at, trivial⟩ hE hAB hP hD hS [1] rfl (tW_ca1 G a v) (aW_f G (a 1) 96 (v 0) (v 0)) (tW_ia1 G a v) rfl rfl hl.1 rfl (Nat.le_of_ble_eq_true rfl) dX5_digitAt_5 ⟨Nat.le_refl _, Nat.le_refl _⟩ (fun H locs hP hD hS => ?_)
  refine lv_bipush (v := (48 : Int32)) hx hb dX5_digitAt_8 (by decide) ?_
  refine lv_isub hx hb dX5_digitAt_10 ?_
  exact fc_reti hx hb hr hlocks hP hS dX5_digitAt_11 (i1 hf) rfl
theorem dk_X5_empty : yX5_empty.cls ≠ "java/lang/invoke/MethodHandle" ∧ yX5_empty.cls ≠ "java/lang/invoke/VarHandle" ∧ (parseMethodDescriptor yX5_empty.desc).map (fun d => d.parameters.length) = some 0 := by decide +kernel
theorem iu_X5_empty_X5 : ∀ w ∈ u_ws RX5 TX5 2, w ∈ wsX5_empty := by decide +kernel
set_option maxHeartbeats 4000000 in
set_option maxRecDepth 100000 in
theorem k_X5_empty {l : Launch} {G : Gx} (a : Nat → Nat) (v : St) {v' : St} (hf : f_X5_empty v = some v') : FC l G yX5_empty wsX5_empty ({ frames := 0, cells := 0, slots := 0, locals := 0 } : Room) [.ref (a 0)] (tW G a v) (tW G a v') none := by
  refine fc_head (cc := cX5_empty) (maxL := 1) (ret := none) (C := RX5) (lv := [(0, .ref (a 0))]) (by decide) rfl rfl (Nat.le_of_ble_eq_true rfl) rfl ?_
  intro p e s m below meth c ls A hx hb hr hml hown hts hlocks hE hP hD hAB hS hl
  have hCF : CallFix p m c cX5_empty 1 s ([.ref (a 0)] : List Value).toArray wsX5_empty RX5 := ⟨hx, hb, hml, hown, hts⟩
  have hwX5 : ∀ w ∈ u_ws RX5 TX5 2, w.before ([.ref (a 0)] : List Value).toArray s = true := fun w h => hts w (iu_X5_empty_X5 w h)
  have hk_fieldLink_RX5_15__BrideNotKnown_Text___size___I_ := hts (.fieldLink RX5 15 "BrideNotKnown$Text" "size" "I") (List.mem_of_getElem? (i := 1) rfl)
  rw [f_X5_empty] at hf
  refine lv_aload_n hx hb dX5_empty_0 rfl (lv_at hl 0 rfl) ?_
  refine lv_iconst (v := (0 : Int32)) hx hb dX5_empty_1 (by decide) ?_
  refine fc_put (Wa' := (tW G a (sA v 1 (upd (v 1) 0 (0 : Int32))))) (ci := 2) (C := RX5) (T := TX5) (N := 2) hx hb hwX5 tyX5 tyX5_ok nmX5 hown hE hP hD hS 0 (tW_o G a v) rfl 1 (by decide) hk_fieldLink_RX5_15__BrideNotKnown_Text___size___I_ (fun _ h => h) rfl rfl rfl (Nat.le_of_ble_eq_true rfl) dX5_empty_2 (tW_p1 G a v (0 : Int32)) (fun H locs hP hD hS => ?_)
  exact fc_retv hx hb hr hlocks hP hS dX5_empty_5 (congrArg (fun z => (tW G a z)) (i1 hf))
theorem dk_X5_fits : yX5_fits.cls ≠ "java/lang/invoke/MethodHandle" ∧ yX5_fits.cls ≠ "java/lang/invoke/VarHandle" ∧ (parseMethodDescriptor yX5_fits.desc).map (fun d => d.parameters.length) = some 2 := by decide +kernel
set_option maxHeartbeats 4000000 in
set_option maxRecDepth 100000 in
theorem k_X5_fits {l : Launch} {G : Gx} (x0 : Int32) (x1 : Int32) {r : Int32} (hf : f_X5_fits x0 x1 = some r) : FC l G yX5_fits wsX5_fits ({ frames := 4, cells := 0, slots := 0, locals := 91 } : Room) [.int x0, .int x1] ([] : va_W) ([] : va_W) (some (.int r)) := by
  refine fc_head (cc := cX5_fits) (maxL := 2) (ret := (some .boolean)) (C := RX5) (lv := [(0, .int x0), (1, .int x1)]) (by decide) rfl rfl (Nat.le_of_ble_eq_true rfl) rfl ?_
  intro p e s m below meth c ls A hx hb hr hml hown hts hlocks hE hP hD hAB hS hl
  have hCF : CallFix p m c cX5_fits 2 s ([.int x0, .int x1] : List Value).toArray wsX5_fits RX5 := ⟨hx, hb, hml, hown, hts⟩
  rw [f_X5_fits] at hf
  refine lv_iload_n hx hb dX5_fits_0 rfl (lv_at hl 1 rfl) ?_
  by_cases c591 : x1 = (57 : Int32)
  · have hf := ifT hf c591
    refine lv_lookup (off := 43) (tgt := 44) hx hb dX5_fits_1 (by decide) (by rw [c591]; rfl) (by decide) ?_
    refine lv_iload_n hx hb dX5_fits_44 rfl (lv_at hl 0 rfl) ?_
    refine lv_bipush (v := (48 : Int32)) hx hb dX5_fits_45 (by decide) ?_
    refine lv_icmp_lt (tgt := 60) hx hb dX5_fits_47 (by decide) (fun c592 => ?_) (fun c592 => ?_)
    · have hf := ifT hf c592
      refine lv_iconst (v := (0 : Int32)) hx hb dX5_fits_60 (by decide) ?_
      exact fc_retz hx hb hr hlocks hP hS dX5_fits_61 (by decide) (i1 hf) rfl
    · have hf := ifF hf c592
      refine lv_iload_n hx hb dX5_fits_50 rfl (lv_at hl 0 rfl) ?_
      refine lv_bipush (v := (57 : Int32)) hx hb dX5_fits_51 (by decide) ?_
      refine lv_icmp_gt (tgt := 60) hx hb dX5_fits_53 (by decide) (fun c593 => ?_) (fun c593 => ?_)
      · have hf := ifT hf c593
        refine lv_iconst (v := (0 : Int32)) hx hb dX5_fits_60 (by decide) ?_
        exact fc_retz hx hb hr hlocks hP hS dX5_fits_61 (by decide) (i1 hf) rfl
      · have hf := ifF hf c593
        refine lv_iconst (v := (1 : Int32)) hx hb dX5_fits_56 (by decide) ?_
        refine lv_goto (tgt := 61) hx hb dX5_fits_57 (by decide) ?_
        exact fc_retz hx hb hr hlocks hP hS dX5_fits_61 (by decide) (i1 hf) rfl
  · have hf := ifF hf c591
    by_cases c594 : x1 = (107 : Int32)
    · have hf := ifT hf c594
      refine lv_lookup (off := 27) (tgt := 28) hx hb dX5_fits_1 (by decide) (by rw [c594]; rfl) (by decide) ?_
      refine va_ldcS hx hb hown (hE.2.2.2 (66, "bsfctm", 5) (List.mem_of_getElem? (i := 5) rfl)) dX5_fits_28 ?_
      refine lv_iload_n hx hb dX5_fits_30 rfl (lv_at hl 0 rfl) ?_
      refine lv_i2c (v := (x0.toUInt32 % 65536).toInt32) hx hb dX5_fits_31 rfl ?_
      obtain ⟨q595, hq595, hf⟩ := bnd hf
      refine fc_callV (Wa' := ([] : va_W)) (st1 := [.int q595]) (As := [.int ((x0.toUInt32 % 65536).toInt32)]) (rest := []) hCF (k_J0_indexOf_0f7a4 5 ((x0.toUInt32 % 65536).toInt32) hq595) (cwV 1 hts gX5_fits_J0_indexOf_0f7a4 rfl rfl rfl ⟨rfl, dk_J0_indexOf_0f7a4⟩ ⟨Nat.le_of_ble_eq_true rfl, Nat.le_of_ble_eq_true rfl⟩) hE hAB hP hD hS [] rfl rfl (vk_recv (hE.2.2.1.narrow hAB).2.2.2.2 (lt6_J0_indexOf_0f7a4 hq595) hS) rfl rfl rfl rfl hl.1 rfl (Nat.le_of_ble_eq_true rfl) dX5_fits_32 ⟨Nat.le_refl _, Nat.le_refl _⟩ (fun H locs hP hD hS => ?_)
      refine lv_if_lt (tgt := 42) hx hb dX5_fits_35 (by decide) (fun c596 => ?_) (fun c596 => ?_)
      · have hf := ifT hf c596
        refine lv_iconst (v := (0 : Int32)) hx hb dX5_fits_42 (by decide) ?_
        exact fc_retz hx hb hr hlocks hP hS dX5_fits_43 (by decide) (i1 hf) rfl
      · have hf := ifF hf c596
        refine lv_iconst (v := (1 : Int32)) hx hb dX5_fits_38 (by decide) ?_
        refine lv_goto (tgt := 43) hx hb dX5_fits_39 (by decide) ?_
        exact fc_retz hx hb hr hlocks hP hS dX5_fits_43 (by decide) (i1 hf) rfl
    · have hf := ifF hf c594
      refine lv_lookup (off := 61) (tgt := 62) hx hb dX5_fits_1 (by decide) (by simp only [lv_osw (a := 57) c591 (by decide), lv_osw (a := 107) c594 (by decide)]; rfl) (by decide) ?_
      refine lv_iload_n hx hb dX5_fits_62 rfl (lv_at hl 0 rfl) ?_
      refine lv_iload_n hx hb dX5_fits_63 rfl (lv_at hl 1 rfl) ?_
      refine lv_icmp_ne (tgt := 71) hx hb dX5_fits_64 (by decide) (fun c597 => ?_) (fun c597 => ?_)
      · have hf := ifF hf c597
        refine lv_iconst (v := (0 : Int32)) hx hb dX5_fits_71 (by decide) ?_
        exact fc_retz hx hb hr hlocks hP hS dX5_fits_72 (by decide) (i1 hf) rfl
      · have hf := ifT hf c597
        refine lv_iconst (v := (1 : Int32)) hx hb dX5_fits_67 (by decide) ?_
        refine lv_goto (tgt := 72) hx hb dX5_fits_68 (by decide) ?_
        exact fc_retz hx hb hr hlocks hP hS dX5_fits_72 (by decide) (i1 hf) rfl
theorem dk_X5_formOf : yX5_formOf.cls ≠ "java/lang/invoke/MethodHandle" ∧ yX5_formOf.cls ≠ "java/lang/invoke/VarHandle" ∧ (parseMethodDescriptor yX5_formOf.desc).map (fun d => d.parameters.length) = some 1 := by decide +kernel
set_option maxHeartbeats 4000000 in
set_option maxRecDepth 100000 in
theorem k_X5_formOf {l : Launch} {G : Gx} (x0 : Int32) {r : Nat} (hf : f_X5_formOf x0 = some r) : FC l G yX5_formOf wsX5_formOf ({ frames := 0, cells := 0, slots := 0, locals := 0 } : Room) [.int x0] ([] : va_W) ([] : va_W) (some (.ref (gK G r))) := by
  refine fc_head (cc := cX5_formOf) (maxL := 1) (ret := (some (.object "java/lang/String"))) (C := RX5) (lv := [(0, .int x0)]) (by decide) rfl rfl (Nat.le_of_ble_eq_true rfl) rfl ?_
  intro p e s m below meth c ls A hx hb hr hml hown hts hlocks hE hP hD hAB hS hl
  have hCF : CallFix p m c cX5_formOf 1 s ([.int x0] : List Value).toArray wsX5_formOf RX5 := ⟨hx, hb, hml, hown, hts⟩
  rw [f_X5_formOf] at hf
  refine lv_iload_n hx hb dX5_formOf_0 rfl (lv_at hl 0 rfl) ?_
  by_cases c598 : x0 = (98 : Int32)
  · have hf := ifT hf c598
    refine lv_lookup (off := 59) (tgt := 60) hx hb dX5_formOf_1 (by decide) (by rw [c598]; rfl) (by decide) ?_
    refine va_ldcS hx hb hown (hE.2.2.2 (56, "k999;", 0) (List.mem_of_getElem? (i := 0) rfl)) dX5_formOf_60 ?_
    exact fc_reta hx hb hr hlocks hP hS dX5_formOf_62 (congrArg (gK G) (i1 hf)) rfl
  · have hf := ifF hf c598
    by_cases c599 : x0 = (103 : Int32)
    · have hf := ifT hf c599
      refine lv_lookup (off := 62) (tgt := 63) hx hb dX5_formOf_1 (by decide) (by rw [c599]; rfl) (by decide) ?_
      refine va_ldcS hx hb hown (hE.2.2.2 (58, "9999;", 1) (List.mem_of_getElem? (i := 1) rfl)) dX5_formOf_63 ?_
      exact fc_reta hx hb hr hlocks hP hS dX5_formOf_65 (congrArg (gK G) (i1 hf)) rfl
    · have hf := ifF hf c599
      by_cases c600 : x0 = (108 : Int32)
      · have hf := ifT hf c600
        refine lv_lookup (off := 65) (tgt := 66) hx hb dX5_formOf_1 (by decide) (by rw [c600]; rfl) (by decide) ?_
        refine va_ldcS hx hb hown (hE.2.2.2 (60, "99;", 2) (List.mem_of_getElem? (i := 2) rfl)) dX5_formOf_66 ?_
        exact fc_reta hx hb hr hlocks hP hS dX5_formOf_68 (congrArg (gK G) (i1 hf)) rfl
      · have hf := ifF hf c600
        by_cases c601 : x0 = (116 : Int32)
        · have hf := ifT hf c601
          refine lv_lookup (off := 65) (tgt := 66) hx hb dX5_formOf_1 (by decide) (by rw [c601]; rfl) (by decide) ?_
          refine va_ldcS hx hb hown (hE.2.2.2 (60, "99;", 2) (List.mem_of_getElem? (i := 2) rfl)) dX5_formOf_66 ?_
          exact fc_reta hx hb hr hlocks hP hS dX5_formOf_68 (congrArg (gK G) (i1 hf)) rfl
        · have hf := ifF hf c601
          by_cases c602 : x0 = (119 : Int32)
          · have hf := ifT hf c602
            refine lv_lookup (off := 68) (tgt := 69) hx hb dX5_formOf_1 (by decide) (by rw [c602]; rfl) (by decide) ?_
            refine va_ldcS hx hb hown (hE.2.2.2 (62, "9;", 3) (List.mem_of_getElem? (i := 3) rfl)) dX5_formOf_69 ?_
            exact fc_reta hx hb hr hlocks hP hS dX5_formOf_71 (congrArg (gK G) (i1 hf)) rfl
          · have hf := ifF hf c602
            by_cases c603 : x0 = (121 : Int32)
            · have hf := ifT hf c603
              refine lv_lookup (off := 65) (tgt := 66) hx hb dX5_formOf_1 (by decide) (by rw [c603]; rfl) (by decide) ?_
              refine va_ldcS hx hb hown (hE.2.2.2 (60, "99;", 2) (List.mem_of_getElem? (i := 2) rfl)) dX5_formOf_66 ?_
              exact fc_reta hx hb hr hlocks hP hS dX5_formOf_68 (congrArg (gK G) (i1 hf)) rfl
            · have hf := ifF hf c603
              refine lv_lookup (off := 71) (tgt := 72) hx hb dX5_formOf_1 (by decide) (by simp only [lv_osw (a := 98) c598 (by decide), lv_osw (a := 103) c599 (by decide), lv_osw (a := 108) c600 (by decide), lv_osw (a := 116) c601 (by decide), lv_osw (a := 119) c602 (by decide), lv_osw (a := 121) c603 (by decide)]; rfl) (by decide) ?_
              refine va_ldcS hx hb hown (hE.2.2.2 (64, "", 4) (List.mem_of_getElem? (i := 4) rfl)) dX5_formOf_72 ?_
              exact fc_reta hx hb hr hlocks hP hS dX5_formOf_74 (congrArg (gK G) (i1 hf)) rfl
theorem dk_X5_formFault : yX5_formFault.cls ≠ "java/lang/invoke/MethodHandle" ∧ yX5_formFault.cls ≠ "java/lang/invoke/VarHandle" ∧ (parseMethodDescriptor yX5_formFault.desc).map (fun d => d.parameters.length) = some 0 := by decide +kernel
theorem iu_X5_formFault_X5 : ∀ w ∈ u_ws RX5 TX5 2, w ∈ wsX5_formFault := by decide +kernel
set_option maxHeartbeats 4000000 in
set_option maxRecDepth 100000 in
theorem k_X5_formFault {l : Launch} {G : Gx} (a : Nat → Nat) (v : St) {r : Int32} (hf : f_X5_formFault v = some r) : FC l G yX5_formFault wsX5_formFault ({ frames := 5, cells := 0, slots := 0, locals := 112 } : Room) [.ref (a 0)] (tW G a v) (tW G a v) (some (.int r)) := by
  refine fc_head (cc := cX5_formFault) (maxL := 4) (ret := (some .int)) (C := RX5) (lv := [(0, .ref (a 0))]) (by decide) rfl rfl (Nat.le_of_ble_eq_true rfl) rfl ?_
  intro p e s m below meth c ls A hx hb hr hml hown hts hlocks hE hP hD hAB hS hl
  have hCF : CallFix p m c cX5_formFault 4 s ([.ref (a 0)] : List Value).toArray wsX5_formFault RX5 := ⟨hx, hb, hml, hown, hts⟩
  have hwX5 : ∀ w ∈ u_ws RX5 TX5 2, w.before ([.ref (a 0)] : List Value).toArray s = true := fun w h => hts w (iu_X5_formFault_X5 w h)
  have hk_fieldLink_RX5_15__BrideNotKnown_Text___size___I_ := hts (.fieldLink RX5 15 "BrideNotKnown$Text" "size" "I") (List.mem_of_getElem? (i := 1) rfl)
  have hk_fieldLink_RX5_9__BrideNotKnown_Text___letters____I_ := hts (.fieldLink RX5 9 "BrideNotKnown$Text" "letters" "[I") (List.mem_of_getElem? (i := 2) rfl)
  have hk_initialized_RX7 := hts (.initialized RX7) (List.mem_of_getElem? (i := 4) rfl)
  have hk_static_yX7_at := hts (.static yX7_at) (List.mem_of_getElem? (i := 3) rfl)
  rw [f_X5_formFault] at hf
  refine lv_aload_n hx hb dX5_formFault_0 rfl (lv_at hl 0 rfl) ?_
  refine fc_get (v := .int (v 1 0)) (ci := 2) (C := RX5) (T := TX5) (N := 2) hx hb hwX5 hown hE hP 0 (tW_o G a v) rfl 1 (by decide) hk_fieldLink_RX5_15__BrideNotKnown_Text___size___I_ (fun _ h => h) rfl dX5_formFault_1 ?_
  refine lv_if_ne (tgt := 9) hx hb dX5_formFault_4 (by decide) (fun c612 => ?_) (fun c612 => ?_)
  · have hf := ifF hf c612
    refine lv_iconst (v := (0 : Int32)) hx hb dX5_formFault_9 (by decide) ?_
    refine lv_istore_n (lv' := [(1, .int (0 : Int32)), (0, .ref (a 0))]) hx hb dX5_formFault_10 rfl hl (by decide) rfl (fun ls hl => ?_)
    have L11_614 : ∀ (n : Nat) (x1_613 : Int32) (H : Heap) (locs : List Loc) (ls : Array Slot), va_P (gD G) vwCl (tW G a v) H → va_D A (tW G a v) → va_S A s.heap H locs → lv_has ls 4 [(0, .ref (a 0)), (1, .int x1_613)] → f_X5_formFault_11 v n x1_613 = some r → W p l e (headSpec wsX5_formFault ({ frames := 5, cells := 0, slots := 0, locals := 112 } : Room)).room s m ([.ref (a 0)] : List Value).toArray below meth c H locs 0 0 (MQ below (FQ G A (tW G a v) (some (.int r))) ([.ref (a 0)] : List Value).toArray s 0 0 A) (F0 m 11 ls []) := by
      intro n
      induction n with
      | zero =>
        intro x1_613 H locs ls hP hD hS hl hf
        exact no_some hf
      | succ n ih =>
        intro x1_613 H locs ls hP hD hS hl hf
        rw [f_X5_formFault_11] at hf
        refine lv_iload_n hx hb dX5_formFault_11 rfl (lv_at hl 1 rfl) ?_
        refine lv_aload_n hx hb dX5_formFault_12 rfl (lv_at hl 0 rfl) ?_
        refine fc_get (v := .int (v 1 0)) (ci := 2) (C := RX5) (T := TX5) (N := 2) hx hb hwX5 hown hE hP 0 (tW_o G a v) rfl 1 (by decide) hk_fieldLink_RX5_15__BrideNotKnown_Text___size___I_ (fun _ h => h) rfl dX5_formFault_13 ?_
        refine lv_icmp_ge (tgt := 94) hx hb dX5_formFault_16 (by decide) (fun c615 => ?_) (fun c615 => ?_)
        · have hf := ifT hf c615
          refine lv_iconst (v := (-1 : Int32)) hx hb dX5_formFault_94 (by decide) ?_
          exact fc_reti hx hb hr hlocks hP hS dX5_formFault_95 (i1 hf) rfl
        · have hf := ifF hf c615
          refine lv_aload_n hx hb dX5_formFault_19 rfl (lv_at hl 0 rfl) ?_
          refine fc_get (v := .ref (a 1)) (ci := 2) (C := RX5) (T := TX5) (N := 2) hx hb hwX5 hown hE hP 0 (tW_o G a v) rfl 0 (by decide) hk_fieldLink_RX5_9__BrideNotKnown_Text___letters____I_ (fun _ h => h) rfl dX5_formFault_20 ?_
          refine lv_iload_n hx hb dX5_formFault_23 rfl (lv_at hl 1 rfl) ?_
          obtain ⟨q616, hq616, hf⟩ := bnd hf
          refine fc_callN (Wa' := (tW G a v)) (st1 := [.int q616]) (As := [.ref (a 1), .int x1_613]) (rest := []) hCF (k_X7_at (a 1) 96 (v 0) x1_613 hq616) ⟨va_cnB 2 hts gX5_formFault_X7_at_n31 rfl rfl rfl (hE.2.1 _ (List.mem_of_getElem? (i := 6) rfl)) hk_initialized_RX7 dk_X7_at ⟨Nat.le_of_ble_eq_true rfl, Nat.le_of_ble_eq_true rfl⟩, hk_static_yX7_at, trivial⟩ hE hAB hP hD hS [1] rfl (tW_ca1 G a v) (aW_f G (a 1) 96 (v 0) (v 0)) (tW_ia1 G a v) rfl rfl hl.1 rfl (Nat.le_of_ble_eq_true rfl) dX5_formFault_24 ⟨Nat.le_refl _, Nat.le_refl _⟩ (fun H locs hP hD hS => ?_)
          obtain ⟨q617, hq617, hf⟩ := bnd hf
          refine fc_callS (Wa' := (tW G a v)) (st1 := [.ref (gK G q617)]) (As := [.int q616]) (rest := []) hCF (k_X5_formOf q616 hq617) (va_cwS 1 hts gX5_formFault_X5_formOf rfl rfl rfl dk_X5_formOf ⟨Nat.le_of_ble_eq_true rfl, Nat.le_of_ble_eq_true rfl⟩) hE hAB hP hD hS [] rfl rfl rfl rfl rfl rfl hl.1 rfl (Nat.le_of_ble_eq_true rfl) dX5_formFault_27 ⟨Nat.le_refl _, Nat.le_refl _⟩ (fun H locs hP hD hS => ?_)
          refine lv_astore_n (lv' := [(2, .ref (gK G q617)), (0, .ref (a 0)), (1, .int x1_613)]) hx hb dX5_formFault_30 rfl hl (by decide) rfl (fun ls hl => ?_)
          refine lv_aload_n hx hb dX5_formFault_31 rfl (lv_at hl 0 rfl) ?_
          obtain ⟨q618, hq618, hf⟩ := bnd hf
          refine fc_callV (Wa' := (tW G a v)) (st1 := [.int q618]) (As := []) (rest := []) hCF (k_J0_isEmpty_aae02 q617 hq618) (cwV 0 hts gX5_formFault_J0_isEmpty_aae02 rfl rfl rfl ⟨rfl, dk_J0_isEmpty_aae02⟩ ⟨Nat.le_of_ble_eq_true rfl, Nat.le_of_ble_eq_true rfl⟩) hE hAB hP hD hS [] rfl rfl (vk_recv (hE.2.2.1.narrow hAB).2.2.2.2 (lt6_J0_isEmpty_aae02 hq618) hS) rfl rfl rfl rfl hl.1 rfl (Nat.le_of_ble_eq_true rfl) dX5_formFault_32 ⟨Nat.le_refl _, Nat.le_refl _⟩ (fun H locs hP hD hS => ?_)
          refine lv_if_eq (tgt := 40) hx hb dX5_formFault_35 (by decide) (fun c619 => ?_) (fun c619 => ?_)
          · have hf := ifT hf c619
            refine lv_iinc (v := (x1_613 + (1 : Int32))) (lv' := [(1, .int (x1_613 + (1 : Int32))), (2, .ref (gK G q617)), (0, .ref (a 0))]) hx hb dX5_formFault_40 hl (k := 2) rfl rfl (by decide) rfl (fun ls hl => ?_)
            refine lv_iconst (v := (0 : Int32)) hx hb dX5_formFault_43 (by decide) ?_
            refine lv_istore_n (lv' := [(3, .int (0 : Int32)), (1, .int (x1_613 + (1 : Int32))), (2, .ref (gK G q617)), (0, .ref (a 0))]) hx hb dX5_formFault_44 rfl hl (by decide) rfl (fun ls hl => ?_)
            have L45_622 : ∀ (K45_91 : Int32 → Option (Int32)) (hK45_91 : ∀ (x1_623 : Int32) (H : Heap) (locs : List Loc) (ls : Array Slot), va_P (gD G) vwCl (tW G a v) H → va_D A (tW G a v) → va_S A s.heap H locs → lv_has ls 4 [(0, .ref (a 0)), (1, .int x1_623)] → K45_91 x1_623 = some r → W p l e (headSpec wsX5_formFault ({ frames := 5, cells := 0, slots := 0, locals := 112 } : Room)).room s m ([.ref (a 0)] : List Value).toArray below meth c H locs 0 0 (MQ below (FQ G A (tW G a v) (some (.int r))) ([.ref (a 0)] : List Value).toArray s 0 0 A) (F0 m 91 ls [])) (n : Nat) (x1_620 : Int32) (x3_621 : Int32) (H : Heap) (locs : List Loc) (ls : Array Slot), va_P (gD G) vwCl (tW G a v) H → va_D A (tW G a v) → va_S A s.heap H locs → lv_has ls 4 [(0, .ref (a 0)), (1, .int x1_620), (2, .ref (gK G q617)), (3, .int x3_621)] → f_X5_formFault_45 v q617 n x1_620 x3_621 K45_91 = some r → W p l e (headSpec wsX5_formFault ({ frames := 5, cells := 0, slots := 0, locals := 112 } : Room)).room s m ([.ref (a 0)] : List Value).toArray below meth c H locs 0 0 (MQ below (FQ G A (tW G a v) (some (.int r))) ([.ref (a 0)] : List Value).toArray s 0 0 A) (F0 m 45 ls []) := by
              intro K45_91 hK45_91 n
              induction n with
              | zero =>
                intro x1_620 x3_621 H locs ls hP hD hS hl hf
                exact no_some hf
              | succ n ih =>
                intro x1_620 x3_621 H locs ls hP hD hS hl hf
                rw [f_X5_formFault_45] at hf
                refine lv_iload_n hx hb dX5_formFault_45 rfl (lv_at hl 3 rfl) ?_
                refine lv_aload_n hx hb dX5_formFault_46 rfl (lv_at hl 2 rfl) ?_
                obtain ⟨q624, hq624, hf⟩ := bnd hf
                refine fc_callV (Wa' := (tW G a v)) (st1 := [.int q624, .int x3_621]) (As := []) (rest := [.int x3_621]) hCF (k_J0_length_8abf5 q617 hq624) (cwV 0 hts gX5_formFault_J0_length_8abf5 rfl rfl rfl ⟨rfl, dk_J0_length_8abf5⟩ ⟨Nat.le_of_ble_eq_true rfl, Nat.le_of_ble_eq_true rfl⟩) hE hAB hP hD hS [] rfl rfl (vk_recv (hE.2.2.1.narrow hAB).2.2.2.2 (lt6_J0_length_8abf5 hq624) hS) rfl rfl rfl rfl hl.1 rfl (Nat.le_of_ble_eq_true rfl) dX5_formFault_47 ⟨Nat.le_refl _, Nat.le_refl _⟩ (fun H locs hP hD hS => ?_)
                refine lv_icmp_ge (tgt := 91) hx hb dX5_formFault_50 (by decide) (fun c625 => ?_) (fun c625 => ?_)
                · have hf := ifT hf c625
                  exact hK45_91 x1_620 _ _ _ hP hD hS (lv_sub hl [0, 1] rfl) hf
                · have hf := ifF hf c625
                  refine lv_iload_n hx hb dX5_formFault_53 rfl (lv_at hl 1 rfl) ?_
                  refine lv_aload_n hx hb dX5_formFault_54 rfl (lv_at hl 0 rfl) ?_
                  refine fc_get (v := .int (v 1 0)) (ci := 2) (C := RX5) (T := TX5) (N := 2) hx hb hwX5 hown hE hP 0 (tW_o G a v) rfl 1 (by decide) hk_fieldLink_RX5_15__BrideNotKnown_Text___size___I_ (fun _ h => h) rfl dX5_formFault_55 ?_
                  refine lv_icmp_ge (tgt := 80) hx hb dX5_formFault_58 (by decide) (fun c626 => ?_) (fun c626 => ?_)
                  · have hf := ifT hf c626
                    refine lv_iload_n hx hb dX5_formFault_80 rfl (lv_at hl 1 rfl) ?_
                    exact fc_reti hx hb hr hlocks hP hS dX5_formFault_81 (i1 hf) rfl
                  · have hf := ifF hf c626
                    refine lv_aload_n hx hb dX5_formFault_61 rfl (lv_at hl 0 rfl) ?_
                    refine fc_get (v := .ref (a 1)) (ci := 2) (C := RX5) (T := TX5) (N := 2) hx hb hwX5 hown hE hP 0 (tW_o G a v) rfl 0 (by decide) hk_fieldLink_RX5_9__BrideNotKnown_Text___letters____I_ (fun _ h => h) rfl dX5_formFault_62 ?_
                    refine lv_iload_n hx hb dX5_formFault_65 rfl (lv_at hl 1 rfl) ?_
                    obtain ⟨q627, hq627, hf⟩ := bnd hf
                    refine fc_callN (Wa' := (tW G a v)) (st1 := [.int q627]) (As := [.ref (a 1), .int x1_620]) (rest := []) hCF (k_X7_at (a 1) 96 (v 0) x1_620 hq627) ⟨va_cnB 2 hts gX5_formFault_X7_at_n31 rfl rfl rfl (hE.2.1 _ (List.mem_of_getElem? (i := 6) rfl)) hk_initialized_RX7 dk_X7_at ⟨Nat.le_of_ble_eq_true rfl, Nat.le_of_ble_eq_true rfl⟩, hk_static_yX7_at, trivial⟩ hE hAB hP hD hS [1] rfl (tW_ca1 G a v) (aW_f G (a 1) 96 (v 0) (v 0)) (tW_ia1 G a v) rfl rfl hl.1 rfl (Nat.le_of_ble_eq_true rfl) dX5_formFault_66 ⟨Nat.le_refl _, Nat.le_refl _⟩ (fun H locs hP hD hS => ?_)
                    refine lv_aload_n hx hb dX5_formFault_69 rfl (lv_at hl 2 rfl) ?_
                    refine lv_iload_n hx hb dX5_formFault_70 rfl (lv_at hl 3 rfl) ?_
                    obtain ⟨q628, hq628, hf⟩ := bnd hf
                    refine fc_callV (Wa' := (tW G a v)) (st1 := [.int q628, .int q627]) (As := [.int x3_621]) (rest := [.int q627]) hCF (k_J0_charAt_5068e q617 x3_621 hq628) (cwV 1 hts gX5_formFault_J0_charAt_5068e rfl rfl rfl ⟨rfl, dk_J0_charAt_5068e⟩ ⟨Nat.le_of_ble_eq_true rfl, Nat.le_of_ble_eq_true rfl⟩) hE hAB hP hD hS [] rfl rfl (vk_recv (hE.2.2.1.narrow hAB).2.2.2.2 (lt6_J0_charAt_5068e hq628) hS) rfl rfl rfl rfl hl.1 rfl (Nat.le_of_ble_eq_true rfl) dX5_formFault_71 ⟨Nat.le_refl _, Nat.le_refl _⟩ (fun H locs hP hD hS => ?_)
                    obtain ⟨q629, hq629, hf⟩ := bnd hf
                    refine fc_callS (Wa' := (tW G a v)) (st1 := [.int q629]) (As := [.int q627, .int q628]) (rest := []) hCF (k_X5_fits q627 q628 hq629) (va_cwS 2 hts gX5_formFault_X5_fits rfl rfl rfl dk_X5_fits ⟨Nat.le_of_ble_eq_true rfl, Nat.le_of_ble_eq_true rfl⟩) hE hAB hP hD hS [] rfl rfl rfl rfl rfl rfl hl.1 rfl (Nat.le_of_ble_eq_true rfl) dX5_formFault_74 ⟨Nat.le_refl _, Nat.le_refl _⟩ (fun H locs hP hD hS => ?_)
                    refine lv_if_ne (tgt := 82) hx hb dX5_formFault_77 (by decide) (fun c630 => ?_) (fun c630 => ?_)
                    · have hf := ifF hf c630
                      refine lv_iinc (v := (x1_620 + (1 : Int32))) (lv' := [(1, .int (x1_620 + (1 : Int32))), (0, .ref (a 0)), (2, .ref (gK G q617)), (3, .int x3_621)]) hx hb dX5_formFault_82 hl (k := 1) rfl rfl (by decide) rfl (fun ls hl => ?_)
                      refine lv_iinc (v := (x3_621 + (1 : Int32))) (lv' := [(3, .int (x3_621 + (1 : Int32))), (1, .int (x1_620 + (1 : Int32))), (0, .ref (a 0)), (2, .ref (gK G q617))]) hx hb dX5_formFault_85 hl (k := 3) rfl rfl (by decide) rfl (fun ls hl => ?_)
                      refine lv_goto (tgt := 45) hx hb dX5_formFault_88 (by decide) ?_
                      exact ih (x1_620 + (1 : Int32)) (x3_621 + (1 : Int32)) _ _ _ hP hD hS (lv_sub hl [2, 1, 3, 0] rfl) hf
                    · have hf := ifT hf c630
                      refine lv_iload_n hx hb dX5_formFault_80 rfl (lv_at hl 1 rfl) ?_
                      exact fc_reti hx hb hr hlocks hP hS dX5_formFault_81 (i1 hf) rfl
            refine L45_622 _ ?_ FUEL (x1_613 + (1 : Int32)) (0 : Int32) _ _ _ hP hD hS (lv_sub hl [3, 1, 2, 0] rfl) hf
            intro x1_631 H locs ls hP hD hS hl hf
            refine lv_goto (tgt := 11) hx hb dX5_formFault_91 (by decide) ?_
            exact ih x1_631 _ _ _ hP hD hS (lv_sub hl [0, 1] rfl) hf
          · have hf := ifF hf c619
            refine lv_iload_n hx hb dX5_formFault_38 rfl (lv_at hl 2 rfl) ?_
            exact fc_reti hx hb hr hlocks hP hS dX5_formFault_39 (i1 hf) rfl
    exact L11_614 FUEL (0 : Int32) _ _ _ hP hD hS (lv_sub hl [1, 0] rfl) hf
  · have hf := ifT hf c612
    refine lv_iconst (v := (0 : Int32)) hx hb dX5_formFault_7 (by decide) ?_
    exact fc_reti hx hb hr hlocks hP hS dX5_formFault_8 (i1 hf) rfl
theorem dk_X5_isFull : yX5_isFull.cls ≠ "java/lang/invoke/MethodHandle" ∧ yX5_isFull.cls ≠ "java/lang/invoke/VarHandle" ∧ (parseMethodDescriptor yX5_isFull.desc).map (fun d => d.parameters.length) = some 0 := by decide +kernel
theorem iu_X5_isFull_X5 : ∀ w ∈ u_ws RX5 TX5 2, w ∈ wsX5_isFull := by decide +kernel
set_option maxHeartbeats 4000000 in
set_option maxRecDepth 100000 in
theorem k_X5_isFull {l : Launch} {G : Gx} (a : Nat → Nat) (v : St) {r : Int32} (hf : f_X5_isFull v = some r) : FC l G yX5_isFull wsX5_isFull ({ frames := 0, cells := 0, slots := 0, locals := 0 } : Room) [.ref (a 0)] (tW G a v) (tW G a v) (some (.int r)) := by
  refine fc_head (cc := cX5_isFull) (maxL := 1) (ret := (some .boolean)) (C := RX5) (lv := [(0, .ref (a 0))]) (by decide) rfl rfl (Nat.le_of_ble_eq_true rfl) rfl ?_
  intro p e s m below meth c ls A hx hb hr hml hown hts hlocks hE hP hD hAB hS hl
  have hCF : CallFix p m c cX5_isFull 1 s ([.ref (a 0)] : List Value).toArray wsX5_isFull RX5 := ⟨hx, hb, hml, hown, hts⟩
  have hwX5 : ∀ w ∈ u_ws RX5 TX5 2, w.before ([.ref (a 0)] : List Value).toArray s = true := fun w h => hts w (iu_X5_isFull_X5 w h)
  have hk_fieldLink_RX5_15__BrideNotKnown_Text___size___I_ := hts (.fieldLink RX5 15 "BrideNotKnown$Text" "size" "I") (List.mem_of_getElem? (i := 1) rfl)
  rw [f_X5_isFull] at hf
  refine lv_aload_n hx hb dX5_isFull_0 rfl (lv_at hl 0 rfl) ?_
  refine fc_get (v := .int (v 1 0)) (ci := 2) (C := RX5) (T := TX5) (N := 2) hx hb hwX5 hown hE hP 0 (tW_o G a v) rfl 1 (by decide) hk_fieldLink_RX5_15__BrideNotKnown_Text___size___I_ (fun _ h => h) rfl dX5_isFull_1 ?_
  refine lv_bipush (v := (96 : Int32)) hx hb dX5_isFull_4 (by decide) ?_
  refine lv_icmp_lt (tgt := 13) hx hb dX5_isFull_6 (by decide) (fun c632 => ?_) (fun c632 => ?_)
  · have hf := ifT hf c632
    refine lv_iconst (v := (0 : Int32)) hx hb dX5_isFull_13 (by decide) ?_
    exact fc_retz hx hb hr hlocks hP hS dX5_isFull_14 (by decide) (i1 hf) rfl
  · have hf := ifF hf c632
    refine lv_iconst (v := (1 : Int32)) hx hb dX5_isFull_9 (by decide) ?_
    refine lv_goto (tgt := 14) hx hb dX5_isFull_10 (by decide) ?_
    exact fc_retz hx hb hr hlocks hP hS dX5_isFull_14 (by decide) (i1 hf) rfl
theorem dk_X5_kindAt : yX5_kindAt.cls ≠ "java/lang/invoke/MethodHandle" ∧ yX5_kindAt.cls ≠ "java/lang/invoke/VarHandle" ∧ (parseMethodDescriptor yX5_kindAt.desc).map (fun d => d.parameters.length) = some 1 := by decide +kernel
theorem iu_X5_kindAt_X5 : ∀ w ∈ u_ws RX5 TX5 2, w ∈ wsX5_kindAt := by decide +kernel
set_option maxHeartbeats 4000000 in
set_option maxRecDepth 100000 in
theorem k_X5_kindAt {l : Launch} {G : Gx} (a : Nat → Nat) (v : St) (x1 : Int32) {r : Int32} (hf : f_X5_kindAt v x1 = some r) : FC l G yX5_kindAt wsX5_kindAt ({ frames := 4, cells := 0, slots := 0, locals := 91 } : Room) [.ref (a 0), .int x1] (tW G a v) (tW G a v) (some (.int r)) := by
  refine fc_head (cc := cX5_kindAt) (maxL := 2) (ret := (some .int)) (C := RX5) (lv := [(0, .ref (a 0)), (1, .int x1)]) (by decide) rfl rfl (Nat.le_of_ble_eq_true rfl) rfl ?_
  intro p e s m below meth c ls A hx hb hr hml hown hts hlocks hE hP hD hAB hS hl
  have hCF : CallFix p m c cX5_kindAt 2 s ([.ref (a 0), .int x1] : List Value).toArray wsX5_kindAt RX5 := ⟨hx, hb, hml, hown, hts⟩
  have hwX5 : ∀ w ∈ u_ws RX5 TX5 2, w.before ([.ref (a 0), .int x1] : List Value).toArray s = true := fun w h => hts w (iu_X5_kindAt_X5 w h)
  have hk_fieldLink_RX5_9__BrideNotKnown_Text___letters____I_ := hts (.fieldLink RX5 9 "BrideNotKnown$Text" "letters" "[I") (List.mem_of_getElem? (i := 1) rfl)
  have hk_initialized_RX7 := hts (.initialized RX7) (List.mem_of_getElem? (i := 3) rfl)
  have hk_static_yX7_at := hts (.static yX7_at) (List.mem_of_getElem? (i := 2) rfl)
  rw [f_X5_kindAt] at hf
  refine va_ldcS hx hb hown (hE.2.2.2 (66, "bsfctm", 5) (List.mem_of_getElem? (i := 5) rfl)) dX5_kindAt_0 ?_
  refine lv_aload_n hx hb dX5_kindAt_2 rfl (lv_at hl 0 rfl) ?_
  refine fc_get (v := .ref (a 1)) (ci := 2) (C := RX5) (T := TX5) (N := 2) hx hb hwX5 hown hE hP 0 (tW_o G a v) rfl 0 (by decide) hk_fieldLink_RX5_9__BrideNotKnown_Text___letters____I_ (fun _ h => h) rfl dX5_kindAt_3 ?_
  refine lv_iload_n hx hb dX5_kindAt_6 rfl (lv_at hl 1 rfl) ?_
  obtain ⟨q635, hq635, hf⟩ := bnd hf
  refine fc_callN (Wa' := (tW G a v)) (st1 := [.int q635, .ref (gK G 5)]) (As := [.ref (a 1), .int x1]) (rest := [.ref (gK G 5)]) hCF (k_X7_at (a 1) 96 (v 0) x1 hq635) ⟨va_cnB 2 hts gX5_kindAt_X7_at_n31 rfl rfl rfl (hE.2.1 _ (List.mem_of_getElem? (i := 6) rfl)) hk_initialized_RX7 dk_X7_at ⟨Nat.le_of_ble_eq_true rfl, Nat.le_of_ble_eq_true rfl⟩, hk_static_yX7_at, trivial⟩ hE hAB hP hD hS [1] rfl (tW_ca1 G a v) (aW_f G (a 1) 96 (v 0) (v 0)) (tW_ia1 G a v) rfl rfl hl.1 rfl (Nat.le_of_ble_eq_true rfl) dX5_kindAt_7 ⟨Nat.le_refl _, Nat.le_refl _⟩ (fun H locs hP hD hS => ?_)
  refine lv_i2c (v := (q635.toUInt32 % 65536).toInt32) hx hb dX5_kindAt_10 rfl ?_
  obtain ⟨q636, hq636, hf⟩ := bnd hf
  refine fc_callV (Wa' := (tW G a v)) (st1 := [.int q636]) (As := [.int ((q635.toUInt32 % 65536).toInt32)]) (rest := []) hCF (k_J0_indexOf_0f7a4 5 ((q635.toUInt32 % 65536).toInt32) hq636) (cwV 1 hts gX5_kindAt_J0_indexOf_0f7a4 rfl rfl rfl ⟨rfl, dk_J0_indexOf_0f7a4⟩ ⟨Nat.le_of_ble_eq_true rfl, Nat.le_of_ble_eq_true rfl⟩) hE hAB hP hD hS [] rfl rfl (vk_recv (hE.2.2.1.narrow hAB).2.2.2.2 (lt6_J0_indexOf_0f7a4 hq636) hS) rfl rfl rfl rfl hl.1 rfl (Nat.le_of_ble_eq_true rfl) dX5_kindAt_11 ⟨Nat.le_refl _, Nat.le_refl _⟩ (fun H locs hP hD hS => ?_)
  exact fc_reti hx hb hr hlocks hP hS dX5_kindAt_14 (i1 hf) rfl
theorem dk_X5_numberAt : yX5_numberAt.cls ≠ "java/lang/invoke/MethodHandle" ∧ yX5_numberAt.cls ≠ "java/lang/invoke/VarHandle" ∧ (parseMethodDescriptor yX5_numberAt.desc).map (fun d => d.parameters.length) = some 1 := by decide +kernel
set_option maxHeartbeats 4000000 in
set_option maxRecDepth 100000 in
theorem k_X5_numberAt {l : Launch} {G : Gx} (a : Nat → Nat) (v : St) (x1 : Int32) {r : Int32} (hf : f_X5_numberAt v x1 = some r) : FC l G yX5_numberAt wsX5_numberAt ({ frames := 2, cells := 0, slots := 0, locals := 42 } : Room) [.ref (a 0), .int x1] (tW G a v) (tW G a v) (some (.int r)) := by
  refine fc_head (cc := cX5_numberAt) (maxL := 2) (ret := (some .int)) (C := RX5) (lv := [(0, .ref (a 0)), (1, .int x1)]) (by decide) rfl rfl (Nat.le_of_ble_eq_true rfl) rfl ?_
  intro p e s m below meth c ls A hx hb hr hml hown hts hlocks hE hP hD hAB hS hl
  have hCF : CallFix p m c cX5_numberAt 2 s ([.ref (a 0), .int x1] : List Value).toArray wsX5_numberAt RX5 := ⟨hx, hb, hml, hown, hts⟩
  rw [f_X5_numberAt] at hf
  refine lv_bipush (v := (10 : Int32)) hx hb dX5_numberAt_0 (by decide) ?_
  refine lv_aload_n hx hb dX5_numberAt_2 rfl (lv_at hl 0 rfl) ?_
  refine lv_iload_n hx hb dX5_numberAt_3 rfl (lv_at hl 1 rfl) ?_
  obtain ⟨q639, hq639, hf⟩ := bnd hf
  refine fc_callV (Wa' := (tW G a v)) (st1 := [.int q639, .int (10 : Int32)]) (As := [.int x1]) (rest := [.int (10 : Int32)]) hCF (k_X5_digitAt a v x1 hq639) (cwV 1 hts gX5_numberAt_X5_digitAt rfl rfl rfl ⟨rfl, dk_X5_digitAt⟩ ⟨Nat.le_of_ble_eq_true rfl, Nat.le_of_ble_eq_true rfl⟩) hE hAB hP hD hS [0, 1] tW_d (tW_c G a v) (va_recv hE.1 hP (ci := 2) (q0 := 0) rfl (tW_o G a v)) (tW_f G a v v) (tW_s G a v v) rfl rfl hl.1 rfl (Nat.le_of_ble_eq_true rfl) dX5_numberAt_4 ⟨Nat.le_refl _, Nat.le_refl _⟩ (fun H locs hP hD hS => ?_)
  refine lv_imul hx hb dX5_numberAt_7 ?_
  refine lv_aload_n hx hb dX5_numberAt_8 rfl (lv_at hl 0 rfl) ?_
  refine lv_iload_n hx hb dX5_numberAt_9 rfl (lv_at hl 1 rfl) ?_
  refine lv_iconst (v := (1 : Int32)) hx hb dX5_numberAt_10 (by decide) ?_
  refine lv_iadd hx hb dX5_numberAt_11 ?_
  obtain ⟨q640, hq640, hf⟩ := bnd hf
  refine fc_callV (Wa' := (tW G a v)) (st1 := [.int q640, .int ((10 : Int32) * q639)]) (As := [.int (x1 + (1 : Int32))]) (rest := [.int ((10 : Int32) * q639)]) hCF (k_X5_digitAt a v (x1 + (1 : Int32)) hq640) (cwV 1 hts gX5_numberAt_X5_digitAt rfl rfl rfl ⟨rfl, dk_X5_digitAt⟩ ⟨Nat.le_of_ble_eq_true rfl, Nat.le_of_ble_eq_true rfl⟩) hE hAB hP hD hS [0, 1] tW_d (tW_c G a v) (va_recv hE.1 hP (ci := 2) (q0 := 0) rfl (tW_o G a v)) (tW_f G a v v) (tW_s G a v v) rfl rfl hl.1 rfl (Nat.le_of_ble_eq_true rfl) dX5_numberAt_12 ⟨Nat.le_refl _, Nat.le_refl _⟩ (fun H locs hP hD hS => ?_)
  refine lv_iadd hx hb dX5_numberAt_15 ?_
  exact fc_reti hx hb hr hlocks hP hS dX5_numberAt_16 (i1 hf) rfl
theorem dk_X5_tellToe : yX5_tellToe.cls ≠ "java/lang/invoke/MethodHandle" ∧ yX5_tellToe.cls ≠ "java/lang/invoke/VarHandle" ∧ (parseMethodDescriptor yX5_tellToe.desc).map (fun d => d.parameters.length) = some 3 := by decide +kernel
set_option maxHeartbeats 4000000 in
set_option maxRecDepth 100000 in
theorem k_X5_tellToe {l : Launch} {G : Gx} (a : Nat → Nat) (v : St) (x1 : Int32) (x2 : Int32) {r : Int32} {v' : St} (hf : f_X5_tellToe v x1 x2 = some (r, v')) : FC l G yX5_tellToe wsX5_tellToe ({ frames := 3, cells := 0, slots := 0, locals := 64 } : Room) [.ref (a 0), .int x1, .int x2] (vW G a v) (vW G a v') (some (.int r)) := by
  refine fc_head (cc := cX5_tellToe) (maxL := 3) (ret := (some .boolean)) (C := RX5) (lv := [(0, .ref (a 0)), (1, .int x1), (2, .int x2)]) (by decide) rfl rfl (Nat.le_of_ble_eq_true rfl) rfl ?_
  intro p e s m below meth c ls A hx hb hr hml hown hts hlocks hE hP hD hAB hS hl
  have hCF : CallFix p m c cX5_tellToe 3 s ([.ref (a 0), .int x1, .int x2] : List Value).toArray wsX5_tellToe RX5 := ⟨hx, hb, hml, hown, hts⟩
  rw [f_X5_tellToe] at hf
  refine lv_aload_n hx hb dX5_tellToe_0 rfl (lv_at hl 0 rfl) ?_
  refine lv_iload_n hx hb dX5_tellToe_1 rfl (lv_at hl 1 rfl) ?_
  obtain ⟨q666, hq666, hf⟩ := bnd hf
  refine fc_callV (Wa' := (vW G a v)) (st1 := [.int q666]) (As := [.int x1]) (rest := []) hCF (k_X6_hasBride a v x1 hq666) (cwV 1 hts gX5_tellToe_X6_hasBride rfl rfl rfl ⟨rfl, dk_X6_hasBride⟩ ⟨Nat.le_of_ble_eq_true rfl, Nat.le_of_ble_eq_true rfl⟩) hE hAB hP hD hS [0, 1, 2, 3, 4, 5, 6, 7] vW_d (vW_c G a v) (va_recv hE.1 hP (ci := 3) (q0 := 0) rfl (vW_o G a v)) (vW_f G a v v) (vW_s G a v v) rfl rfl hl.1 rfl (Nat.le_of_ble_eq_true rfl) dX5_tellToe_2 ⟨Nat.le_refl _, Nat.le_refl _⟩ (fun H locs hP hD hS => ?_)
  refine lv_if_eq (tgt := 14) hx hb dX5_tellToe_5 (by decide) (fun c667 => ?_) (fun c667 => ?_)
  · have hf := ifT hf c667
    refine lv_iconst (v := (0 : Int32)) hx hb dX5_tellToe_14 (by decide) ?_
    exact fc_retz hx hb hr hlocks hP hS dX5_tellToe_15 (by decide) (i2a hf) (congrArg (fun z => (vW G a z)) (i2b hf))
  · have hf := ifF hf c667
    refine lv_iload_n hx hb dX5_tellToe_8 rfl (lv_at hl 2 rfl) ?_
    refine lv_bipush (v := (6 : Int32)) hx hb dX5_tellToe_9 (by decide) ?_
    refine lv_icmp_lt (tgt := 16) hx hb dX5_tellToe_11 (by decide) (fun c668 => ?_) (fun c668 => ?_)
    · have hf := ifT hf c668
      refine lv_aload_n hx hb dX5_tellToe_16 rfl (lv_at hl 0 rfl) ?_
      refine lv_iload_n hx hb dX5_tellToe_17 rfl (lv_at hl 1 rfl) ?_
      refine lv_iconst (v := (1 : Int32)) hx hb dX5_tellToe_18 (by decide) ?_
      refine lv_iload_n hx hb dX5_tellToe_19 rfl (lv_at hl 2 rfl) ?_
      refine lv_ishl hx hb dX5_tellToe_20 ?_
      obtain ⟨q669, hq669, hf⟩ := bnd hf
      refine fc_callV (Wa' := (vW G a q669)) (st1 := []) (As := [.int x1, .int ((1 : Int32) <<< (x2 &&& 31))]) (rest := []) hCF (k_X6_changeToes a v x1 ((1 : Int32) <<< (x2 &&& 31)) hq669) (cwV 2 hts gX5_tellToe_X6_changeToes rfl rfl rfl ⟨rfl, dk_X6_changeToes⟩ ⟨Nat.le_of_ble_eq_true rfl, Nat.le_of_ble_eq_true rfl⟩) hE hAB hP hD hS [0, 1, 2, 3, 4, 5, 6, 7] vW_d (vW_c G a v) (va_recv hE.1 hP (ci := 3) (q0 := 0) rfl (vW_o G a v)) (vW_f G a v q669) (vW_s G a v q669) rfl rfl hl.1 rfl (Nat.le_of_ble_eq_true rfl) dX5_tellToe_21 ⟨Nat.le_refl _, Nat.le_refl _⟩ (fun H locs hP hD hS => ?_)
      refine lv_iconst (v := (1 : Int32)) hx hb dX5_tellToe_24 (by decide) ?_
      exact fc_retz hx hb hr hlocks hP hS dX5_tellToe_25 (by decide) (i2a hf) (congrArg (fun z => (vW G a z)) (i2b hf))
    · have hf := ifF hf c668
      refine lv_iconst (v := (0 : Int32)) hx hb dX5_tellToe_14 (by decide) ?_
      exact fc_retz hx hb hr hlocks hP hS dX5_tellToe_15 (by decide) (i2a hf) (congrArg (fun z => (vW G a z)) (i2b hf))
theorem dk_X5_tellLiquor : yX5_tellLiquor.cls ≠ "java/lang/invoke/MethodHandle" ∧ yX5_tellLiquor.cls ≠ "java/lang/invoke/VarHandle" ∧ (parseMethodDescriptor yX5_tellLiquor.desc).map (fun d => d.parameters.length) = some 3 := by decide +kernel
set_option maxHeartbeats 4000000 in
set_option maxRecDepth 100000 in
theorem k_X5_tellLiquor {l : Launch} {G : Gx} (a : Nat → Nat) (v : St) (x1 : Int32) (x2 : Int32) {r : Int32} {v' : St} (hf : f_X5_tellLiquor v x1 x2 = some (r, v')) : FC l G yX5_tellLiquor wsX5_tellLiquor ({ frames := 2, cells := 0, slots := 0, locals := 44 } : Room) [.ref (a 0), .int x1, .int x2] (vW G a v) (vW G a v') (some (.int r)) := by
  refine fc_head (cc := cX5_tellLiquor) (maxL := 3) (ret := (some .boolean)) (C := RX5) (lv := [(0, .ref (a 0)), (1, .int x1), (2, .int x2)]) (by decide) rfl rfl (Nat.le_of_ble_eq_true rfl) rfl ?_
  intro p e s m below meth c ls A hx hb hr hml hown hts hlocks hE hP hD hAB hS hl
  have hCF : CallFix p m c cX5_tellLiquor 3 s ([.ref (a 0), .int x1, .int x2] : List Value).toArray wsX5_tellLiquor RX5 := ⟨hx, hb, hml, hown, hts⟩
  rw [f_X5_tellLiquor] at hf
  refine lv_aload_n hx hb dX5_tellLiquor_0 rfl (lv_at hl 0 rfl) ?_
  refine lv_iload_n hx hb dX5_tellLiquor_1 rfl (lv_at hl 1 rfl) ?_
  obtain ⟨q674, hq674, hf⟩ := bnd hf
  refine fc_callV (Wa' := (vW G a v)) (st1 := [.int q674]) (As := [.int x1]) (rest := []) hCF (k_X6_hasGroom a v x1 hq674) (cwV 1 hts gX5_tellLiquor_X6_hasGroom rfl rfl rfl ⟨rfl, dk_X6_hasGroom⟩ ⟨Nat.le_of_ble_eq_true rfl, Nat.le_of_ble_eq_true rfl⟩) hE hAB hP hD hS [0, 1, 2, 3, 4, 5, 6, 7] vW_d (vW_c G a v) (va_recv hE.1 hP (ci := 3) (q0 := 0) rfl (vW_o G a v)) (vW_f G a v v) (vW_s G a v v) rfl rfl hl.1 rfl (Nat.le_of_ble_eq_true rfl) dX5_tellLiquor_2 ⟨Nat.le_refl _, Nat.le_refl _⟩ (fun H locs hP hD hS => ?_)
  refine lv_if_ne (tgt := 10) hx hb dX5_tellLiquor_5 (by decide) (fun c675 => ?_) (fun c675 => ?_)
  · have hf := ifF hf c675
    refine lv_aload_n hx hb dX5_tellLiquor_10 rfl (lv_at hl 0 rfl) ?_
    refine lv_iload_n hx hb dX5_tellLiquor_11 rfl (lv_at hl 1 rfl) ?_
    refine lv_iload_n hx hb dX5_tellLiquor_12 rfl (lv_at hl 2 rfl) ?_
    obtain ⟨q676, hq676, hf⟩ := bnd hf
    refine fc_callV (Wa' := (vW G a q676)) (st1 := []) (As := [.int x1, .int x2]) (rest := []) hCF (k_X6_setLiquor a v x1 x2 hq676) (cwV 2 hts gX5_tellLiquor_X6_setLiquor rfl rfl rfl ⟨rfl, dk_X6_setLiquor⟩ ⟨Nat.le_of_ble_eq_true rfl, Nat.le_of_ble_eq_true rfl⟩) hE hAB hP hD hS [0, 1, 2, 3, 4, 5, 6, 7] vW_d (vW_c G a v) (va_recv hE.1 hP (ci := 3) (q0 := 0) rfl (vW_o G a v)) (vW_f G a v q676) (vW_s G a v q676) rfl rfl hl.1 rfl (Nat.le_of_ble_eq_true rfl) dX5_tellLiquor_13 ⟨Nat.le_refl _, Nat.le_refl _⟩ (fun H locs hP hD hS => ?_)
    refine lv_iconst (v := (1 : Int32)) hx hb dX5_tellLiquor_16 (by decide) ?_
    exact fc_retz hx hb hr hlocks hP hS dX5_tellLiquor_17 (by decide) (i2a hf) (congrArg (fun z => (vW G a z)) (i2b hf))
  · have hf := ifT hf c675
    refine lv_iconst (v := (0 : Int32)) hx hb dX5_tellLiquor_8 (by decide) ?_
    exact fc_retz hx hb hr hlocks hP hS dX5_tellLiquor_9 (by decide) (i2a hf) (congrArg (fun z => (vW G a z)) (i2b hf))
theorem dk_X5_tellYears : yX5_tellYears.cls ≠ "java/lang/invoke/MethodHandle" ∧ yX5_tellYears.cls ≠ "java/lang/invoke/VarHandle" ∧ (parseMethodDescriptor yX5_tellYears.desc).map (fun d => d.parameters.length) = some 2 := by decide +kernel
set_option maxHeartbeats 4000000 in
set_option maxRecDepth 100000 in
theorem k_X5_tellYears {l : Launch} {G : Gx} (a : Nat → Nat) (v : St) (x1 : Int32) {r : Int32} {v' : St} (hf : f_X5_tellYears v x1 = some (r, v')) : FC l G yX5_tellYears wsX5_tellYears ({ frames := 3, cells := 0, slots := 0, locals := 66 } : Room) [.ref (a 0), .int x1] (vW G a v) (vW G a v') (some (.int r)) := by
  refine fc_head (cc := cX5_tellYears) (maxL := 2) (ret := (some .boolean)) (C := RX5) (lv := [(0, .ref (a 0)), (1, .int x1)]) (by decide) rfl rfl (Nat.le_of_ble_eq_true rfl) rfl ?_
  intro p e s m below meth c ls A hx hb hr hml hown hts hlocks hE hP hD hAB hS hl
  have hCF : CallFix p m c cX5_tellYears 2 s ([.ref (a 0), .int x1] : List Value).toArray wsX5_tellYears RX5 := ⟨hx, hb, hml, hown, hts⟩
  rw [f_X5_tellYears] at hf
  refine lv_iload_n hx hb dX5_tellYears_0 rfl (lv_at hl 1 rfl) ?_
  refine lv_iconst (v := (1 : Int32)) hx hb dX5_tellYears_1 (by decide) ?_
  refine lv_icmp_lt (tgt := 19) hx hb dX5_tellYears_2 (by decide) (fun c734 => ?_) (fun c734 => ?_)
  · have hf := ifT hf c734
    refine lv_iconst (v := (0 : Int32)) hx hb dX5_tellYears_19 (by decide) ?_
    exact fc_retz hx hb hr hlocks hP hS dX5_tellYears_20 (by decide) (i2a hf) (congrArg (fun z => (vW G a z)) (i2b hf))
  · have hf := ifF hf c734
    refine lv_iload_n hx hb dX5_tellYears_5 rfl (lv_at hl 1 rfl) ?_
    refine lv_bipush (v := (60 : Int32)) hx hb dX5_tellYears_6 (by decide) ?_
    refine lv_icmp_gt (tgt := 19) hx hb dX5_tellYears_8 (by decide) (fun c735 => ?_) (fun c735 => ?_)
    · have hf := ifT hf c735
      refine lv_iconst (v := (0 : Int32)) hx hb dX5_tellYears_19 (by decide) ?_
      exact fc_retz hx hb hr hlocks hP hS dX5_tellYears_20 (by decide) (i2a hf) (congrArg (fun z => (vW G a z)) (i2b hf))
    · have hf := ifF hf c735
      refine lv_aload_n hx hb dX5_tellYears_11 rfl (lv_at hl 0 rfl) ?_
      refine lv_iload_n hx hb dX5_tellYears_12 rfl (lv_at hl 1 rfl) ?_
      obtain ⟨q736, hq736, hf⟩ := bnd hf
      refine fc_callV (Wa' := (vW G a v)) (st1 := [.int q736]) (As := [.int x1]) (rest := []) hCF (k_X6_canPass a v x1 hq736) (cwV 1 hts gX5_tellYears_X6_canPass rfl rfl rfl ⟨rfl, dk_X6_canPass⟩ ⟨Nat.le_of_ble_eq_true rfl, Nat.le_of_ble_eq_true rfl⟩) hE hAB hP hD hS [0, 1, 2, 3, 4, 5, 6, 7] vW_d (vW_c G a v) (va_recv hE.1 hP (ci := 3) (q0 := 0) rfl (vW_o G a v)) (vW_f G a v v) (vW_s G a v v) rfl rfl hl.1 rfl (Nat.le_of_ble_eq_true rfl) dX5_tellYears_13 ⟨Nat.le_refl _, Nat.le_refl _⟩ (fun H locs hP hD hS => ?_)
      refine lv_if_ne (tgt := 21) hx hb dX5_tellYears_16 (by decide) (fun c737 => ?_) (fun c737 => ?_)
      · have hf := ifF hf c737
        refine lv_aload_n hx hb dX5_tellYears_21 rfl (lv_at hl 0 rfl) ?_
        refine lv_iload_n hx hb dX5_tellYears_22 rfl (lv_at hl 1 rfl) ?_
        obtain ⟨q738, hq738, hf⟩ := bnd hf
        refine fc_callV (Wa' := (vW G a q738)) (st1 := []) (As := [.int x1]) (rest := []) hCF (k_X6_passYears a v x1 hq738) (cwV 1 hts gX5_tellYears_X6_passYears rfl rfl rfl ⟨rfl, dk_X6_passYears⟩ ⟨Nat.le_of_ble_eq_true rfl, Nat.le_of_ble_eq_true rfl⟩) hE hAB hP hD hS [0, 1, 2, 3, 4, 5, 6, 7] vW_d (vW_c G a v) (va_recv hE.1 hP (ci := 3) (q0 := 0) rfl (vW_o G a v)) (vW_f G a v q738) (vW_s G a v q738) rfl rfl hl.1 rfl (Nat.le_of_ble_eq_true rfl) dX5_tellYears_23 ⟨Nat.le_refl _, Nat.le_refl _⟩ (fun H locs hP hD hS => ?_)
        refine lv_iconst (v := (1 : Int32)) hx hb dX5_tellYears_26 (by decide) ?_
        exact fc_retz hx hb hr hlocks hP hS dX5_tellYears_27 (by decide) (i2a hf) (congrArg (fun z => (vW G a z)) (i2b hf))
      · have hf := ifT hf c737
        refine lv_iconst (v := (0 : Int32)) hx hb dX5_tellYears_19 (by decide) ?_
        exact fc_retz hx hb hr hlocks hP hS dX5_tellYears_20 (by decide) (i2a hf) (congrArg (fun z => (vW G a z)) (i2b hf))
theorem dk_X5_tell : yX5_tell.cls ≠ "java/lang/invoke/MethodHandle" ∧ yX5_tell.cls ≠ "java/lang/invoke/VarHandle" ∧ (parseMethodDescriptor yX5_tell.desc).map (fun d => d.parameters.length) = some 2 := by decide +kernel
theorem iu_X5_tell_X5 : ∀ w ∈ u_ws RX5 TX5 2, w ∈ wsX5_tell := by decide +kernel
set_option maxHeartbeats 4000000 in
set_option maxRecDepth 100000 in
theorem k_X5_tell {l : Launch} {G : Gx} (a : Nat → Nat) (v : St) (b : Nat → Nat) (u : St) (x2 : Int32) {r : Int32} {u' : St} (hf : f_X5_tell v u x2 = some (r, u')) : FC l G yX5_tell wsX5_tell ({ frames := 5, cells := 0, slots := 0, locals := 112 } : Room) [.ref (a 0), .ref (b 0), .int x2] (tW G a v ++ vW G b u) (tW G a v ++ vW G b u') (some (.int r)) := by
  refine fc_head (cc := cX5_tell) (maxL := 5) (ret := (some .boolean)) (C := RX5) (lv := [(0, .ref (a 0)), (1, .ref (b 0)), (2, .int x2)]) (by decide) rfl rfl (Nat.le_of_ble_eq_true rfl) rfl ?_
  intro p e s m below meth c ls A hx hb hr hml hown hts hlocks hE hP hD hAB hS hl
  have hCF : CallFix p m c cX5_tell 5 s ([.ref (a 0), .ref (b 0), .int x2] : List Value).toArray wsX5_tell RX5 := ⟨hx, hb, hml, hown, hts⟩
  have hwX5 : ∀ w ∈ u_ws RX5 TX5 2, w.before ([.ref (a 0), .ref (b 0), .int x2] : List Value).toArray s = true := fun w h => hts w (iu_X5_tell_X5 w h)
  have hk_fieldLink_RX5_9__BrideNotKnown_Text___letters____I_ := hts (.fieldLink RX5 9 "BrideNotKnown$Text" "letters" "[I") (List.mem_of_getElem? (i := 1) rfl)
  have hk_initialized_RX7 := hts (.initialized RX7) (List.mem_of_getElem? (i := 8) rfl)
  have hk_static_yX7_at := hts (.static yX7_at) (List.mem_of_getElem? (i := 7) rfl)
  rw [f_X5_tell] at hf
  refine lv_aload_n hx hb dX5_tell_0 rfl (lv_at hl 0 rfl) ?_
  refine lv_iload_n hx hb dX5_tell_1 rfl (lv_at hl 2 rfl) ?_
  refine lv_iconst (v := (1 : Int32)) hx hb dX5_tell_2 (by decide) ?_
  refine lv_iadd hx hb dX5_tell_3 ?_
  obtain ⟨q754, hq754, hf⟩ := bnd hf
  refine fc_callV (Wa' := (tW G a v ++ vW G b u)) (st1 := [.int q754]) (As := [.int (x2 + (1 : Int32))]) (rest := []) hCF (k_X5_digitAt a v (x2 + (1 : Int32)) hq754) (cwV 1 hts gX5_tell_X5_digitAt rfl rfl rfl ⟨rfl, dk_X5_digitAt⟩ ⟨Nat.le_of_ble_eq_true rfl, Nat.le_of_ble_eq_true rfl⟩) hE hAB hP hD hS [0, 1] (by decide +kernel) (app_c (tW_c G a v)) (va_recv hE.1 hP (ci := 2) (q0 := 0) rfl (get_l (tW_o G a v))) (tW_f G a v v) ((set_q (tW_c G a v)).trans (congrArg (fun z => z ++ vW G b u) (tW_s G a v v))) rfl rfl hl.1 rfl (Nat.le_of_ble_eq_true rfl) dX5_tell_4 ⟨Nat.le_refl _, Nat.le_refl _⟩ (fun H locs hP hD hS => ?_)
  refine lv_istore_n (lv' := [(3, .int q754), (0, .ref (a 0)), (1, .ref (b 0)), (2, .int x2)]) hx hb dX5_tell_7 rfl hl (by decide) rfl (fun ls hl => ?_)
  refine lv_aload_n hx hb dX5_tell_8 rfl (lv_at hl 1 rfl) ?_
  refine lv_iload_n hx hb dX5_tell_9 rfl (lv_at hl 3 rfl) ?_
  refine lv_iconst (v := (2 : Int32)) hx hb dX5_tell_10 (by decide) ?_
  refine lv_iadd hx hb dX5_tell_11 ?_
  obtain ⟨q755, hq755, hf⟩ := bnd hf
  refine fc_callV (Wa' := (tW G a v ++ vW G b u)) (st1 := [.int q755]) (As := [.int (x2 + (2 : Int32))]) (rest := []) hCF (k_X5_digitAt a v (x2 + (2 : Int32)) hq755) (cwV 1 hts gX5_tell_X5_digitAt rfl rfl rfl ⟨rfl, dk_X5_digitAt⟩ ⟨Nat.le_of_ble_eq_true rfl, Nat.le_of_ble_eq_true rfl⟩) hE hAB hP hD hS [0, 1] (by decide +kernel) (app_c (tW_c G a v)) (va_recv hE.1 hP (ci := 2) (q0 := 0) rfl (get_l (tW_o G a v))) (tW_f G a v v) ((set_q (tW_c G a v)).trans (congrArg (fun z => z ++ vW G b u) (tW_s G a v v))) rfl rfl hl.1 rfl (Nat.le_of_ble_eq_true rfl) dX5_tell_12 ⟨Nat.le_refl _, Nat.le_refl _⟩ (fun H locs hP hD hS => ?_)
  refine lv_istore (lv' := [(4, .int q755), (3, .int q754), (0, .ref (a 0)), (1, .ref (b 0)), (2, .int x2)]) hx hb dX5_tell_15 hl (by decide) rfl (fun ls hl => ?_)
  refine lv_aload_n hx hb dX5_tell_17 rfl (lv_at hl 2 rfl) ?_
  refine fc_get (v := .ref (a 1)) (ci := 2) (C := RX5) (T := TX5) (N := 2) hx hb hwX5 hown hE hP 0 (get_l (tW_o G a v)) rfl 0 (by decide) hk_fieldLink_RX5_9__BrideNotKnown_Text___letters____I_ (fun _ h => h) rfl dX5_tell_18 ?_
  refine lv_iload_n hx hb dX5_tell_21 rfl (lv_at hl 4 rfl) ?_
  obtain ⟨q756, hq756, hf⟩ := bnd hf
  refine fc_callN (Wa' := (tW G a v ++ vW G b u)) (st1 := [.int q756]) (As := [.ref (a 1), .int x2]) (rest := []) hCF (k_X7_at (a 1) 96 (v 0) x2 hq756) ⟨va_cnB 2 hts gX5_tell_X7_at_n31 rfl rfl rfl (hE.2.1 _ (List.mem_of_getElem? (i := 6) rfl)) hk_initialized_RX7 dk_X7_at ⟨Nat.le_of_ble_eq_true rfl, Nat.le_of_ble_eq_true rfl⟩, hk_static_yX7_at, trivial⟩ hE hAB hP hD hS [1] rfl (app_c (tW_ca1 G a v)) (aW_f G (a 1) 96 (v 0) (v 0)) ((set_q (tW_ca1 G a v)).trans (congrArg (fun z => z ++ vW G b u) (tW_ia1 G a v))) rfl rfl hl.1 rfl (Nat.le_of_ble_eq_true rfl) dX5_tell_22 ⟨Nat.le_refl _, Nat.le_refl _⟩ (fun H locs hP hD hS => ?_)
  by_cases c757 : q756 = (98 : Int32)
  · have hf := ifT hf c757
    refine lv_lookup (off := 51) (tgt := 76) hx hb dX5_tell_25 (by decide) (by rw [c757]; rfl) (by decide) ?_
    refine lv_aload_n hx hb dX5_tell_76 rfl (lv_at hl 3 rfl) ?_
    refine lv_aload_n hx hb dX5_tell_77 rfl (lv_at hl 2 rfl) ?_
    refine lv_iload_n hx hb dX5_tell_78 rfl (lv_at hl 4 rfl) ?_
    refine lv_iconst (v := (1 : Int32)) hx hb dX5_tell_79 (by decide) ?_
    refine lv_iadd hx hb dX5_tell_80 ?_
    obtain ⟨q758, hq758, hf⟩ := bnd hf
    refine fc_callV (Wa' := (tW G a v ++ vW G b u)) (st1 := [.int q758, .ref (b 0)]) (As := [.int (x2 + (1 : Int32))]) (rest := [.ref (b 0)]) hCF (k_X5_kindAt a v (x2 + (1 : Int32)) hq758) (cwV 1 hts gX5_tell_X5_kindAt rfl rfl rfl ⟨rfl, dk_X5_kindAt⟩ ⟨Nat.le_of_ble_eq_true rfl, Nat.le_of_ble_eq_true rfl⟩) hE hAB hP hD hS [0, 1] (by decide +kernel) (app_c (tW_c G a v)) (va_recv hE.1 hP (ci := 2) (q0 := 0) rfl (get_l (tW_o G a v))) (tW_f G a v v) ((set_q (tW_c G a v)).trans (congrArg (fun z => z ++ vW G b u) (tW_s G a v v))) rfl rfl hl.1 rfl (Nat.le_of_ble_eq_true rfl) dX5_tell_81 ⟨Nat.le_refl _, Nat.le_refl _⟩ (fun H locs hP hD hS => ?_)
    refine lv_iload hx hb dX5_tell_84 (lv_at hl 0 rfl) ?_
    refine lv_aload_n hx hb dX5_tell_86 rfl (lv_at hl 2 rfl) ?_
    refine lv_iload_n hx hb dX5_tell_87 rfl (lv_at hl 4 rfl) ?_
    refine lv_iconst (v := (3 : Int32)) hx hb dX5_tell_88 (by decide) ?_
    refine lv_iadd hx hb dX5_tell_89 ?_
    obtain ⟨q759, hq759, hf⟩ := bnd hf
    refine fc_callV (Wa' := (tW G a v ++ vW G b u)) (st1 := [.int q759, .int q755, .int q758, .ref (b 0)]) (As := [.int (x2 + (3 : Int32))]) (rest := [.int q755, .int q758, .ref (b 0)]) hCF (k_X5_numberAt a v (x2 + (3 : Int32)) hq759) (cwV 1 hts gX5_tell_X5_numberAt rfl rfl rfl ⟨rfl, dk_X5_numberAt⟩ ⟨Nat.le_of_ble_eq_true rfl, Nat.le_of_ble_eq_true rfl⟩) hE hAB hP hD hS [0, 1] (by decide +kernel) (app_c (tW_c G a v)) (va_recv hE.1 hP (ci := 2) (q0 := 0) rfl (get_l (tW_o G a v))) (tW_f G a v v) ((set_q (tW_c G a v)).trans (congrArg (fun z => z ++ vW G b u) (tW_s G a v v))) rfl rfl hl.1 rfl (Nat.le_of_ble_eq_true rfl) dX5_tell_90 ⟨Nat.le_refl _, Nat.le_refl _⟩ (fun H locs hP hD hS => ?_)
    obtain ⟨q760, hq760, hf⟩ := bnd hf
    refine fc_callV (Wa' := (tW G a v ++ vW G b q760.2)) (st1 := [.int q760.1]) (As := [.int q758, .int q755, .int q759]) (rest := []) hCF (k_X6_addBride b u q758 q755 q759 hq760) (cwV 3 hts gX5_tell_X6_addBride rfl rfl rfl ⟨rfl, dk_X6_addBride⟩ ⟨Nat.le_of_ble_eq_true rfl, Nat.le_of_ble_eq_true rfl⟩) hE hAB hP hD hS [2, 3, 4, 5, 6, 7, 8, 9] (by decide +kernel) (app_r (tW_n G a v) (vW_c G b u)) (va_recv hE.1 hP (ci := 3) (q0 := 2) rfl (get_r (tW_n G a v) (vW_o G b u))) (vW_f G b u q760.2) ((set_r (tW_n G a v)).trans (congrArg (fun z => tW G a v ++ z) (vW_s G b u q760.2))) rfl rfl hl.1 rfl (Nat.le_of_ble_eq_true rfl) dX5_tell_93 ⟨Nat.le_refl _, Nat.le_refl _⟩ (fun H locs hP hD hS => ?_)
    obtain ⟨c761, hf⟩ := gd_some hf
    exact fc_retz hx hb hr hlocks hP hS dX5_tell_96 (isZ_nar c761).1 (i2a hf) (congrArg (fun z => (tW G a v ++ vW G b z)) (i2b hf))
  · have hf := ifF hf c757
    by_cases c762 : q756 = (103 : Int32)
    · have hf := ifT hf c762
      refine lv_lookup (off := 72) (tgt := 97) hx hb dX5_tell_25 (by decide) (by rw [c762]; rfl) (by decide) ?_
      refine lv_aload_n hx hb dX5_tell_97 rfl (lv_at hl 3 rfl) ?_
      refine lv_aload_n hx hb dX5_tell_98 rfl (lv_at hl 2 rfl) ?_
      refine lv_iload_n hx hb dX5_tell_99 rfl (lv_at hl 4 rfl) ?_
      refine lv_iconst (v := (1 : Int32)) hx hb dX5_tell_100 (by decide) ?_
      refine lv_iadd hx hb dX5_tell_101 ?_
      obtain ⟨q763, hq763, hf⟩ := bnd hf
      refine fc_callV (Wa' := (tW G a v ++ vW G b u)) (st1 := [.int q763, .ref (b 0)]) (As := [.int (x2 + (1 : Int32))]) (rest := [.ref (b 0)]) hCF (k_X5_numberAt a v (x2 + (1 : Int32)) hq763) (cwV 1 hts gX5_tell_X5_numberAt rfl rfl rfl ⟨rfl, dk_X5_numberAt⟩ ⟨Nat.le_of_ble_eq_true rfl, Nat.le_of_ble_eq_true rfl⟩) hE hAB hP hD hS [0, 1] (by decide +kernel) (app_c (tW_c G a v)) (va_recv hE.1 hP (ci := 2) (q0 := 0) rfl (get_l (tW_o G a v))) (tW_f G a v v) ((set_q (tW_c G a v)).trans (congrArg (fun z => z ++ vW G b u) (tW_s G a v v))) rfl rfl hl.1 rfl (Nat.le_of_ble_eq_true rfl) dX5_tell_102 ⟨Nat.le_refl _, Nat.le_refl _⟩ (fun H locs hP hD hS => ?_)
      refine lv_aload_n hx hb dX5_tell_105 rfl (lv_at hl 2 rfl) ?_
      refine lv_iload_n hx hb dX5_tell_106 rfl (lv_at hl 4 rfl) ?_
      refine lv_iconst (v := (3 : Int32)) hx hb dX5_tell_107 (by decide) ?_
      refine lv_iadd hx hb dX5_tell_108 ?_
      obtain ⟨q764, hq764, hf⟩ := bnd hf
      refine fc_callV (Wa' := (tW G a v ++ vW G b u)) (st1 := [.int q764, .int q763, .ref (b 0)]) (As := [.int (x2 + (3 : Int32))]) (rest := [.int q763, .ref (b 0)]) hCF (k_X5_numberAt a v (x2 + (3 : Int32)) hq764) (cwV 1 hts gX5_tell_X5_numberAt rfl rfl rfl ⟨rfl, dk_X5_numberAt⟩ ⟨Nat.le_of_ble_eq_true rfl, Nat.le_of_ble_eq_true rfl⟩) hE hAB hP hD hS [0, 1] (by decide +kernel) (app_c (tW_c G a v)) (va_recv hE.1 hP (ci := 2) (q0 := 0) rfl (get_l (tW_o G a v))) (tW_f G a v v) ((set_q (tW_c G a v)).trans (congrArg (fun z => z ++ vW G b u) (tW_s G a v v))) rfl rfl hl.1 rfl (Nat.le_of_ble_eq_true rfl) dX5_tell_109 ⟨Nat.le_refl _, Nat.le_refl _⟩ (fun H locs hP hD hS => ?_)
      obtain ⟨q765, hq765, hf⟩ := bnd hf
      refine fc_callV (Wa' := (tW G a v ++ vW G b q765.2)) (st1 := [.int q765.1]) (As := [.int q763, .int q764]) (rest := []) hCF (k_X6_addGroom b u q763 q764 hq765) (cwV 2 hts gX5_tell_X6_addGroom rfl rfl rfl ⟨rfl, dk_X6_addGroom⟩ ⟨Nat.le_of_ble_eq_true rfl, Nat.le_of_ble_eq_true rfl⟩) hE hAB hP hD hS [2, 3, 4, 5, 6, 7, 8, 9] (by decide +kernel) (app_r (tW_n G a v) (vW_c G b u)) (va_recv hE.1 hP (ci := 3) (q0 := 2) rfl (get_r (tW_n G a v) (vW_o G b u))) (vW_f G b u q765.2) ((set_r (tW_n G a v)).trans (congrArg (fun z => tW G a v ++ z) (vW_s G b u q765.2))) rfl rfl hl.1 rfl (Nat.le_of_ble_eq_true rfl) dX5_tell_112 ⟨Nat.le_refl _, Nat.le_refl _⟩ (fun H locs hP hD hS => ?_)
      obtain ⟨c766, hf⟩ := gd_some hf
      exact fc_retz hx hb hr hlocks hP hS dX5_tell_115 (isZ_nar c766).1 (i2a hf) (congrArg (fun z => (tW G a v ++ vW G b z)) (i2b hf))
    · have hf := ifF hf c762
      by_cases c767 : q756 = (108 : Int32)
      · have hf := ifT hf c767
        refine lv_lookup (off := 99) (tgt := 124) hx hb dX5_tell_25 (by decide) (by rw [c767]; rfl) (by decide) ?_
        refine lv_aload_n hx hb dX5_tell_124 rfl (lv_at hl 3 rfl) ?_
        refine lv_iload_n hx hb dX5_tell_125 rfl (lv_at hl 1 rfl) ?_
        refine lv_iload hx hb dX5_tell_126 (lv_at hl 0 rfl) ?_
        obtain ⟨q768, hq768, hf⟩ := bnd hf
        refine fc_callS (Wa' := (tW G a v ++ vW G b q768.2)) (st1 := [.int q768.1]) (As := [.ref (b 0), .int q754, .int q755]) (rest := []) hCF (k_X5_tellLiquor b u q754 q755 hq768) (va_cwS 3 hts gX5_tell_X5_tellLiquor rfl rfl rfl dk_X5_tellLiquor ⟨Nat.le_of_ble_eq_true rfl, Nat.le_of_ble_eq_true rfl⟩) hE hAB hP hD hS [2, 3, 4, 5, 6, 7, 8, 9] (by decide +kernel) (app_r (tW_n G a v) (vW_c G b u)) (vW_f G b u q768.2) ((set_r (tW_n G a v)).trans (congrArg (fun z => tW G a v ++ z) (vW_s G b u q768.2))) rfl rfl hl.1 rfl (Nat.le_of_ble_eq_true rfl) dX5_tell_128 ⟨Nat.le_refl _, Nat.le_refl _⟩ (fun H locs hP hD hS => ?_)
        obtain ⟨c769, hf⟩ := gd_some hf
        exact fc_retz hx hb hr hlocks hP hS dX5_tell_131 (isZ_nar c769).1 (i2a hf) (congrArg (fun z => (tW G a v ++ vW G b z)) (i2b hf))
      · have hf := ifF hf c767
        by_cases c770 : q756 = (116 : Int32)
        · have hf := ifT hf c770
          refine lv_lookup (off := 91) (tgt := 116) hx hb dX5_tell_25 (by decide) (by rw [c770]; rfl) (by decide) ?_
          refine lv_aload_n hx hb dX5_tell_116 rfl (lv_at hl 3 rfl) ?_
          refine lv_iload_n hx hb dX5_tell_117 rfl (lv_at hl 1 rfl) ?_
          refine lv_iload hx hb dX5_tell_118 (lv_at hl 0 rfl) ?_
          obtain ⟨q771, hq771, hf⟩ := bnd hf
          refine fc_callS (Wa' := (tW G a v ++ vW G b q771.2)) (st1 := [.int q771.1]) (As := [.ref (b 0), .int q754, .int q755]) (rest := []) hCF (k_X5_tellToe b u q754 q755 hq771) (va_cwS 3 hts gX5_tell_X5_tellToe rfl rfl rfl dk_X5_tellToe ⟨Nat.le_of_ble_eq_true rfl, Nat.le_of_ble_eq_true rfl⟩) hE hAB hP hD hS [2, 3, 4, 5, 6, 7, 8, 9] (by decide +kernel) (app_r (tW_n G a v) (vW_c G b u)) (vW_f G b u q771.2) ((set_r (tW_n G a v)).trans (congrArg (fun z => tW G a v ++ z) (vW_s G b u q771.2))) rfl rfl hl.1 rfl (Nat.le_of_ble_eq_true rfl) dX5_tell_120 ⟨Nat.le_refl _, Nat.le_refl _⟩ (fun H locs hP hD hS => ?_)
          obtain ⟨c772, hf⟩ := gd_some hf
          exact fc_retz hx hb hr hlocks hP hS dX5_tell_123 (isZ_nar c772).1 (i2a hf) (congrArg (fun z => (tW G a v ++ vW G b z)) (i2b hf))
        · have hf := ifF hf c770
          by_cases c773 : q756 = (119 : Int32)
          · have hf := ifT hf c773
            refine lv_lookup (off := 107) (tgt := 132) hx hb dX5_tell_25 (by decide) (by rw [c773]; rfl) (by decide) ?_
            refine lv_aload_n hx hb dX5_tell_132 rfl (lv_at hl 3 rfl) ?_
            refine lv_iload_n hx hb dX5_tell_133 rfl (lv_at hl 1 rfl) ?_
            obtain ⟨q774, hq774, hf⟩ := bnd hf
            refine fc_callV (Wa' := (tW G a v ++ vW G b u)) (st1 := [.int q774]) (As := [.int q754]) (rest := []) hCF (k_X6_canWed b u q754 hq774) (cwV 1 hts gX5_tell_X6_canWed rfl rfl rfl ⟨rfl, dk_X6_canWed⟩ ⟨Nat.le_of_ble_eq_true rfl, Nat.le_of_ble_eq_true rfl⟩) hE hAB hP hD hS [2, 3, 4, 5, 6, 7, 8, 9] (by decide +kernel) (app_r (tW_n G a v) (vW_c G b u)) (va_recv hE.1 hP (ci := 3) (q0 := 2) rfl (get_r (tW_n G a v) (vW_o G b u))) (vW_f G b u u) ((set_r (tW_n G a v)).trans (congrArg (fun z => tW G a v ++ z) (vW_s G b u u))) rfl rfl hl.1 rfl (Nat.le_of_ble_eq_true rfl) dX5_tell_134 ⟨Nat.le_refl _, Nat.le_refl _⟩ (fun H locs hP hD hS => ?_)
            refine lv_if_eq (tgt := 154) hx hb dX5_tell_137 (by decide) (fun c775 => ?_) (fun c775 => ?_)
            · have hf := ifT hf c775
              refine lv_iconst (v := (0 : Int32)) hx hb dX5_tell_154 (by decide) ?_
              exact fc_retz hx hb hr hlocks hP hS dX5_tell_155 (by decide) (i2a hf) (congrArg (fun z => (tW G a v ++ vW G b z)) (i2b hf))
            · have hf := ifF hf c775
              refine lv_aload_n hx hb dX5_tell_140 rfl (lv_at hl 3 rfl) ?_
              refine lv_iload_n hx hb dX5_tell_141 rfl (lv_at hl 1 rfl) ?_
              obtain ⟨q776, hq776, hf⟩ := bnd hf
              refine fc_callV (Wa' := (tW G a v ++ vW G b q776.2)) (st1 := [.int q776.1]) (As := [.int q754]) (rest := []) hCF (k_X6_wed b u q754 hq776) (cwV 1 hts gX5_tell_X6_wed rfl rfl rfl ⟨rfl, dk_X6_wed⟩ ⟨Nat.le_of_ble_eq_true rfl, Nat.le_of_ble_eq_true rfl⟩) hE hAB hP hD hS [2, 3, 4, 5, 6, 7, 8, 9] (by decide +kernel) (app_r (tW_n G a v) (vW_c G b u)) (va_recv hE.1 hP (ci := 3) (q0 := 2) rfl (get_r (tW_n G a v) (vW_o G b u))) (vW_f G b u q776.2) ((set_r (tW_n G a v)).trans (congrArg (fun z => tW G a v ++ z) (vW_s G b u q776.2))) rfl rfl hl.1 rfl (Nat.le_of_ble_eq_true rfl) dX5_tell_142 ⟨Nat.le_refl _, Nat.le_refl _⟩ (fun H locs hP hD hS => ?_)
              refine lv_bipush (v := (-9 : Int32)) hx hb dX5_tell_145 (by decide) ?_
              refine lv_icmp_eq (tgt := 154) hx hb dX5_tell_147 (by decide) (fun c777 => ?_) (fun c777 => ?_)
              · have hf := ifT hf c777
                refine lv_iconst (v := (0 : Int32)) hx hb dX5_tell_154 (by decide) ?_
                exact fc_retz hx hb hr hlocks hP hS dX5_tell_155 (by decide) (i2a hf) (congrArg (fun z => (tW G a v ++ vW G b z)) (i2b hf))
              · have hf := ifF hf c777
                refine lv_iconst (v := (1 : Int32)) hx hb dX5_tell_150 (by decide) ?_
                refine lv_goto (tgt := 155) hx hb dX5_tell_151 (by decide) ?_
                exact fc_retz hx hb hr hlocks hP hS dX5_tell_155 (by decide) (i2a hf) (congrArg (fun z => (tW G a v ++ vW G b z)) (i2b hf))
          · have hf := ifF hf c773
            refine lv_lookup (off := 131) (tgt := 156) hx hb dX5_tell_25 (by decide) (by simp only [lv_osw (a := 98) c757 (by decide), lv_osw (a := 103) c762 (by decide), lv_osw (a := 108) c767 (by decide), lv_osw (a := 116) c770 (by decide), lv_osw (a := 119) c773 (by decide)]; rfl) (by decide) ?_
            refine lv_aload_n hx hb dX5_tell_156 rfl (lv_at hl 3 rfl) ?_
            refine lv_aload_n hx hb dX5_tell_157 rfl (lv_at hl 2 rfl) ?_
            refine lv_iload_n hx hb dX5_tell_158 rfl (lv_at hl 4 rfl) ?_
            refine lv_iconst (v := (1 : Int32)) hx hb dX5_tell_159 (by decide) ?_
            refine lv_iadd hx hb dX5_tell_160 ?_
            obtain ⟨q778, hq778, hf⟩ := bnd hf
            refine fc_callV (Wa' := (tW G a v ++ vW G b u)) (st1 := [.int q778, .ref (b 0)]) (As := [.int (x2 + (1 : Int32))]) (rest := [.ref (b 0)]) hCF (k_X5_numberAt a v (x2 + (1 : Int32)) hq778) (cwV 1 hts gX5_tell_X5_numberAt rfl rfl rfl ⟨rfl, dk_X5_numberAt⟩ ⟨Nat.le_of_ble_eq_true rfl, Nat.le_of_ble_eq_true rfl⟩) hE hAB hP hD hS [0, 1] (by decide +kernel) (app_c (tW_c G a v)) (va_recv hE.1 hP (ci := 2) (q0 := 0) rfl (get_l (tW_o G a v))) (tW_f G a v v) ((set_q (tW_c G a v)).trans (congrArg (fun z => z ++ vW G b u) (tW_s G a v v))) rfl rfl hl.1 rfl (Nat.le_of_ble_eq_true rfl) dX5_tell_161 ⟨Nat.le_refl _, Nat.le_refl _⟩ (fun H locs hP hD hS => ?_)
            obtain ⟨q779, hq779, hf⟩ := bnd hf
            refine fc_callS (Wa' := (tW G a v ++ vW G b q779.2)) (st1 := [.int q779.1]) (As := [.ref (b 0), .int q778]) (rest := []) hCF (k_X5_tellYears b u q778 hq779) (va_cwS 2 hts gX5_tell_X5_tellYears rfl rfl rfl dk_X5_tellYears ⟨Nat.le_of_ble_eq_true rfl, Nat.le_of_ble_eq_true rfl⟩) hE hAB hP hD hS [2, 3, 4, 5, 6, 7, 8, 9] (by decide +kernel) (app_r (tW_n G a v) (vW_c G b u)) (vW_f G b u q779.2) ((set_r (tW_n G a v)).trans (congrArg (fun z => tW G a v ++ z) (vW_s G b u q779.2))) rfl rfl hl.1 rfl (Nat.le_of_ble_eq_true rfl) dX5_tell_164 ⟨Nat.le_refl _, Nat.le_refl _⟩ (fun H locs hP hD hS => ?_)
            obtain ⟨c780, hf⟩ := gd_some hf
            exact fc_retz hx hb hr hlocks hP hS dX5_tell_167 (isZ_nar c780).1 (i2a hf) (congrArg (fun z => (tW G a v ++ vW G b z)) (i2b hf))
theorem dk_X5_tellTo : yX5_tellTo.cls ≠ "java/lang/invoke/MethodHandle" ∧ yX5_tellTo.cls ≠ "java/lang/invoke/VarHandle" ∧ (parseMethodDescriptor yX5_tellTo.desc).map (fun d => d.parameters.length) = some 1 := by decide +kernel
theorem iu_X5_tellTo_X5 : ∀ w ∈ u_ws RX5 TX5 2, w ∈ wsX5_tellTo := by decide +kernel
set_option maxHeartbeats 4000000 in
set_option maxRecDepth 100000 in
theorem k_X5_tellTo {l : Launch} {G : Gx} (a : Nat → Nat) (v : St) (b : Nat → Nat) (u : St) {r : Int32} {u' : St} (hf : f_X5_tellTo v u = some (r, u')) : FC l G yX5_tellTo wsX5_tellTo ({ frames := 6, cells := 0, slots := 0, locals := 136 } : Room) [.ref (a 0), .ref (b 0)] (tW G a v ++ vW G b u) (tW G a v ++ vW G b u') (some (.int r)) := by
  refine fc_head (cc := cX5_tellTo) (maxL := 5) (ret := (some .int)) (C := RX5) (lv := [(0, .ref (a 0)), (1, .ref (b 0))]) (by decide) rfl rfl (Nat.le_of_ble_eq_true rfl) rfl ?_
  intro p e s m below meth c ls A hx hb hr hml hown hts hlocks hE hP hD hAB hS hl
  have hCF : CallFix p m c cX5_tellTo 5 s ([.ref (a 0), .ref (b 0)] : List Value).toArray wsX5_tellTo RX5 := ⟨hx, hb, hml, hown, hts⟩
  have hwX5 : ∀ w ∈ u_ws RX5 TX5 2, w.before ([.ref (a 0), .ref (b 0)] : List Value).toArray s = true := fun w h => hts w (iu_X5_tellTo_X5 w h)
  have hk_fieldLink_RX5_15__BrideNotKnown_Text___size___I_ := hts (.fieldLink RX5 15 "BrideNotKnown$Text" "size" "I") (List.mem_of_getElem? (i := 1) rfl)
  have hk_fieldLink_RX5_9__BrideNotKnown_Text___letters____I_ := hts (.fieldLink RX5 9 "BrideNotKnown$Text" "letters" "[I") (List.mem_of_getElem? (i := 2) rfl)
  have hk_initialized_RX7 := hts (.initialized RX7) (List.mem_of_getElem? (i := 9) rfl)
  have hk_static_yX7_at := hts (.static yX7_at) (List.mem_of_getElem? (i := 8) rfl)
  rw [f_X5_tellTo] at hf
  refine lv_aload_n hx hb dX5_tellTo_0 rfl (lv_at hl 0 rfl) ?_
  obtain ⟨q786, hq786, hf⟩ := bnd hf
  refine fc_callV (Wa' := (tW G a v ++ vW G b u)) (st1 := [.int q786]) (As := []) (rest := []) hCF (k_X5_formFault a v hq786) (cwV 0 hts gX5_tellTo_X5_formFault rfl rfl rfl ⟨rfl, dk_X5_formFault⟩ ⟨Nat.le_of_ble_eq_true rfl, Nat.le_of_ble_eq_true rfl⟩) hE hAB hP hD hS [0, 1] (by decide +kernel) (app_c (tW_c G a v)) (va_recv hE.1 hP (ci := 2) (q0 := 0) rfl (get_l (tW_o G a v))) (tW_f G a v v) ((set_q (tW_c G a v)).trans (congrArg (fun z => z ++ vW G b u) (tW_s G a v v))) rfl rfl hl.1 rfl (Nat.le_of_ble_eq_true rfl) dX5_tellTo_1 ⟨Nat.le_refl _, Nat.le_refl _⟩ (fun H locs hP hD hS => ?_)
  refine lv_istore_n (lv' := [(2, .int q786), (0, .ref (a 0)), (1, .ref (b 0))]) hx hb dX5_tellTo_4 rfl hl (by decide) rfl (fun ls hl => ?_)
  refine lv_iload_n hx hb dX5_tellTo_5 rfl (lv_at hl 0 rfl) ?_
  refine lv_iconst (v := (-1 : Int32)) hx hb dX5_tellTo_6 (by decide) ?_
  refine lv_icmp_eq (tgt := 16) hx hb dX5_tellTo_7 (by decide) (fun c787 => ?_) (fun c787 => ?_)
  · have hf := ifT hf c787
    refine lv_iconst (v := (0 : Int32)) hx hb dX5_tellTo_16 (by decide) ?_
    refine lv_istore_n (lv' := [(3, .int (0 : Int32)), (2, .int q786), (0, .ref (a 0)), (1, .ref (b 0))]) hx hb dX5_tellTo_17 rfl hl (by decide) rfl (fun ls hl => ?_)
    refine lv_iconst (v := (0 : Int32)) hx hb dX5_tellTo_18 (by decide) ?_
    refine lv_istore (lv' := [(4, .int (0 : Int32)), (3, .int (0 : Int32)), (2, .int q786), (0, .ref (a 0)), (1, .ref (b 0))]) hx hb dX5_tellTo_19 hl (by decide) rfl (fun ls hl => ?_)
    have L21_791 : ∀ (n : Nat) (x3_788 : Int32) (x4_789 : Int32) (u_790 : St) (H : Heap) (locs : List Loc) (ls : Array Slot), va_P (gD G) vwCl (tW G a v ++ vW G b u_790) H → va_D A (tW G a v ++ vW G b u_790) → va_S A s.heap H locs → lv_has ls 5 [(0, .ref (a 0)), (1, .ref (b 0)), (3, .int x3_788), (4, .int x4_789)] → f_X5_tellTo_21 v n x3_788 x4_789 u_790 = some (r, u') → W p l e (headSpec wsX5_tellTo ({ frames := 6, cells := 0, slots := 0, locals := 136 } : Room)).room s m ([.ref (a 0), .ref (b 0)] : List Value).toArray below meth c H locs 0 0 (MQ below (FQ G A (tW G a v ++ vW G b u') (some (.int r))) ([.ref (a 0), .ref (b 0)] : List Value).toArray s 0 0 A) (F0 m 21 ls []) := by
      intro n
      induction n with
      | zero =>
        intro x3_788 x4_789 u_790 H locs ls hP hD hS hl hf
        exact no_some hf
      | succ n ih =>
        intro x3_788 x4_789 u_790 H locs ls hP hD hS hl hf
        rw [f_X5_tellTo_21] at hf
        refine lv_iload hx hb dX5_tellTo_21 (lv_at hl 3 rfl) ?_
        refine lv_aload_n hx hb dX5_tellTo_23 rfl (lv_at hl 0 rfl) ?_
        refine fc_get (v := .int (v 1 0)) (ci := 2) (C := RX5) (T := TX5) (N := 2) hx hb hwX5 hown hE hP 0 (get_l (tW_o G a v)) rfl 1 (by decide) hk_fieldLink_RX5_15__BrideNotKnown_Text___size___I_ (fun _ h => h) rfl dX5_tellTo_24 ?_
        refine lv_icmp_ge (tgt := 75) hx hb dX5_tellTo_27 (by decide) (fun c792 => ?_) (fun c792 => ?_)
        · have hf := ifT hf c792
          refine lv_iload_n hx hb dX5_tellTo_75 rfl (lv_at hl 2 rfl) ?_
          exact fc_reti hx hb hr hlocks hP hS dX5_tellTo_76 (i2a hf) (congrArg (fun z => (tW G a v ++ vW G b z)) (i2b hf))
        · have hf := ifF hf c792
          refine lv_aload_n hx hb dX5_tellTo_30 rfl (lv_at hl 0 rfl) ?_
          refine lv_aload_n hx hb dX5_tellTo_31 rfl (lv_at hl 1 rfl) ?_
          refine lv_iload hx hb dX5_tellTo_32 (lv_at hl 3 rfl) ?_
          obtain ⟨q793, hq793, hf⟩ := bnd hf
          refine fc_callV (Wa' := (tW G a v ++ vW G b q793.2)) (st1 := [.int q793.1]) (As := [.ref (b 0), .int x4_789]) (rest := []) hCF (k_X5_tell a v b u_790 x4_789 hq793) (cwV 2 hts gX5_tellTo_X5_tell rfl rfl rfl ⟨rfl, dk_X5_tell⟩ ⟨Nat.le_of_ble_eq_true rfl, Nat.le_of_ble_eq_true rfl⟩) hE hAB hP hD hS [0, 1, 2, 3, 4, 5, 6, 7, 8, 9] (by decide +kernel) (cut_cut (app_c (tW_c G a v)) (app_r (tW_n G a v) (vW_c G b u_790))) (va_recv hE.1 hP (ci := 2) (q0 := 0) rfl (get_l (tW_o G a v))) (fst_fst (tW_f G a v v) (vW_f G b u_790 q793.2)) ((set_set (i1 := [0, 1]) (W1 := (tW G a v)) (tW_n G a v).symm).trans ((congrArg (fun z => setAll z _ _) ((set_r (tW_n G a v)).trans (congrArg (fun z => tW G a v ++ z) (vW_s G b u_790 q793.2)))).trans ((set_q (tW_c G a v)).trans (congrArg (fun z => z ++ vW G b q793.2) (tW_s G a v v))))) rfl rfl hl.1 rfl (Nat.le_of_ble_eq_true rfl) dX5_tellTo_34 ⟨Nat.le_refl _, Nat.le_refl _⟩ (fun H locs hP hD hS => ?_)
          refine lv_if_ne (tgt := 47) hx hb dX5_tellTo_37 (by decide) (fun c794 => ?_) (fun c794 => ?_)
          · have hf := ifF hf c794
            refine lv_iload hx hb dX5_tellTo_47 (lv_at hl 3 rfl) ?_
            refine lv_iconst (v := (1 : Int32)) hx hb dX5_tellTo_49 (by decide) ?_
            refine lv_aload_n hx hb dX5_tellTo_50 rfl (lv_at hl 0 rfl) ?_
            refine fc_get (v := .ref (a 1)) (ci := 2) (C := RX5) (T := TX5) (N := 2) hx hb hwX5 hown hE hP 0 (get_l (tW_o G a v)) rfl 0 (by decide) hk_fieldLink_RX5_9__BrideNotKnown_Text___letters____I_ (fun _ h => h) rfl dX5_tellTo_51 ?_
            refine lv_iload hx hb dX5_tellTo_54 (lv_at hl 3 rfl) ?_
            obtain ⟨q795, hq795, hf⟩ := bnd hf
            refine fc_callN (Wa' := (tW G a v ++ vW G b q793.2)) (st1 := [.int q795, .int (1 : Int32), .int x4_789]) (As := [.ref (a 1), .int x4_789]) (rest := [.int (1 : Int32), .int x4_789]) hCF (k_X7_at (a 1) 96 (v 0) x4_789 hq795) ⟨va_cnB 2 hts gX5_tellTo_X7_at_n31 rfl rfl rfl (hE.2.1 _ (List.mem_of_getElem? (i := 6) rfl)) hk_initialized_RX7 dk_X7_at ⟨Nat.le_of_ble_eq_true rfl, Nat.le_of_ble_eq_true rfl⟩, hk_static_yX7_at, trivial⟩ hE hAB hP hD hS [1] rfl (app_c (tW_ca1 G a v)) (aW_f G (a 1) 96 (v 0) (v 0)) ((set_q (tW_ca1 G a v)).trans (congrArg (fun z => z ++ vW G b q793.2) (tW_ia1 G a v))) rfl rfl hl.1 rfl (Nat.le_of_ble_eq_true rfl) dX5_tellTo_56 ⟨Nat.le_refl _, Nat.le_refl _⟩ (fun H locs hP hD hS => ?_)
            obtain ⟨q796, hq796, hf⟩ := bnd hf
            refine fc_callS (Wa' := (tW G a v ++ vW G b q793.2)) (st1 := [.ref (gK G q796), .int (1 : Int32), .int x4_789]) (As := [.int q795]) (rest := [.int (1 : Int32), .int x4_789]) hCF (k_X5_formOf q795 hq796) (va_cwS 1 hts gX5_tellTo_X5_formOf rfl rfl rfl dk_X5_formOf ⟨Nat.le_of_ble_eq_true rfl, Nat.le_of_ble_eq_true rfl⟩) hE hAB hP hD hS [] rfl rfl rfl rfl rfl rfl hl.1 rfl (Nat.le_of_ble_eq_true rfl) dX5_tellTo_59 ⟨Nat.le_refl _, Nat.le_refl _⟩ (fun H locs hP hD hS => ?_)
            obtain ⟨q797, hq797, hf⟩ := bnd hf
            refine fc_callV (Wa' := (tW G a v ++ vW G b q793.2)) (st1 := [.int q797, .int (1 : Int32), .int x4_789]) (As := []) (rest := [.int (1 : Int32), .int x4_789]) hCF (k_J0_length_8abf5 q796 hq797) (cwV 0 hts gX5_tellTo_J0_length_8abf5 rfl rfl rfl ⟨rfl, dk_J0_length_8abf5⟩ ⟨Nat.le_of_ble_eq_true rfl, Nat.le_of_ble_eq_true rfl⟩) hE hAB hP hD hS [] rfl rfl (vk_recv (hE.2.2.1.narrow hAB).2.2.2.2 (lt6_J0_length_8abf5 hq797) hS) rfl rfl rfl rfl hl.1 rfl (Nat.le_of_ble_eq_true rfl) dX5_tellTo_62 ⟨Nat.le_refl _, Nat.le_refl _⟩ (fun H locs hP hD hS => ?_)
            refine lv_iadd hx hb dX5_tellTo_65 ?_
            refine lv_iadd hx hb dX5_tellTo_66 ?_
            refine lv_istore (lv' := [(4, .int (x4_789 + ((1 : Int32) + q797))), (0, .ref (a 0)), (1, .ref (b 0)), (3, .int x3_788)]) hx hb dX5_tellTo_67 hl (by decide) rfl (fun ls hl => ?_)
            refine lv_iinc (v := (x3_788 + (1 : Int32))) (lv' := [(3, .int (x3_788 + (1 : Int32))), (4, .int (x4_789 + ((1 : Int32) + q797))), (0, .ref (a 0)), (1, .ref (b 0))]) hx hb dX5_tellTo_69 hl (k := 3) rfl rfl (by decide) rfl (fun ls hl => ?_)
            refine lv_goto (tgt := 21) hx hb dX5_tellTo_72 (by decide) ?_
            exact ih (x3_788 + (1 : Int32)) (x4_789 + ((1 : Int32) + q797)) q793.2 _ _ _ hP hD hS (lv_sub hl [2, 3, 0, 1] rfl) hf
          · have hf := ifT hf c794
            refine lv_sipush (v := (-2000 : Int32)) hx hb dX5_tellTo_40 (by decide) ?_
            refine lv_iload hx hb dX5_tellTo_43 (lv_at hl 3 rfl) ?_
            refine lv_isub hx hb dX5_tellTo_45 ?_
            exact fc_reti hx hb hr hlocks hP hS dX5_tellTo_46 (i2a hf) (congrArg (fun z => (tW G a v ++ vW G b z)) (i2b hf))
    exact L21_791 FUEL (0 : Int32) (0 : Int32) u _ _ _ hP hD hS (lv_sub hl [3, 4, 1, 0] rfl) hf
  · have hf := ifF hf c787
    refine lv_sipush (v := (-1000 : Int32)) hx hb dX5_tellTo_10 (by decide) ?_
    refine lv_iload_n hx hb dX5_tellTo_13 rfl (lv_at hl 0 rfl) ?_
    refine lv_isub hx hb dX5_tellTo_14 ?_
    exact fc_reti hx hb hr hlocks hP hS dX5_tellTo_15 (i2a hf) (congrArg (fun z => (tW G a v ++ vW G b z)) (i2b hf))
