theorem dk_X0_bestAway : yX0_bestAway.cls ≠ "java/lang/invoke/MethodHandle" ∧ yX0_bestAway.cls ≠ "java/lang/invoke/VarHandle" ∧ (parseMethodDescriptor yX0_bestAway.desc).map (fun d => d.parameters.length) = some 2 := by decide +kernel
theorem iu_X0_bestAway_X6 : ∀ w ∈ u_ws RX6 TX6 12, w ∈ wsX0_bestAway := by decide +kernel
set_option maxHeartbeats 4000000 in
set_option maxRecDepth 100000 in
theorem k_X0_bestAway {l : Launch} {G : Gx} (a : Nat → Nat) (v : St) (b : Nat → Nat) (u : St) {r : Int32} {u' : St} (hf : f_X0_bestAway v u = some (r, u')) : FC l G yX0_bestAway wsX0_bestAway ({ frames := 5, cells := 0, slots := 0, locals := 122 } : Room) [.ref (a 0), .ref (b 0)] (vW G a v ++ vW G b u) (vW G a v ++ vW G b u') (some (.int r)) := by
  refine fc_head (cc := cX0_bestAway) (maxL := 6) (ret := (some .int)) (C := RX0) (lv := [(0, .ref (a 0)), (1, .ref (b 0))]) (by decide) rfl rfl (Nat.le_of_ble_eq_true rfl) rfl ?_
  intro p e s m below meth c ls A hx hb hr hml hown hts hlocks hE hP hD hAB hS hl
  have hCF : CallFix p m c cX0_bestAway 6 s ([.ref (a 0), .ref (b 0)] : List Value).toArray wsX0_bestAway RX0 := ⟨hx, hb, hml, hown, hts⟩
  have hwX6 : ∀ w ∈ u_ws RX6 TX6 12, w.before ([.ref (a 0), .ref (b 0)] : List Value).toArray s = true := fun w h => hts w (iu_X0_bestAway_X6 w h)
  have hk_fieldLink_RX0_47__BrideNotKnown_Valley___brideCount___I_ := hts (.fieldLink RX0 47 "BrideNotKnown$Valley" "brideCount" "I") (List.mem_of_getElem? (i := 1) rfl)
  rw [f_X0_bestAway] at hf
  refine lv_aload_n hx hb dX0_bestAway_0 rfl (lv_at hl 0 rfl) ?_
  obtain ⟨q132, hq132, hf⟩ := bnd hf
  refine fc_callV (Wa' := (vW G a v ++ vW G b u)) (st1 := [.int q132]) (As := []) (rest := []) hCF (k_X6_knownBits a v hq132) (cwV 0 hts gX0_bestAway_X6_knownBits rfl rfl rfl ⟨rfl, dk_X6_knownBits⟩ ⟨Nat.le_of_ble_eq_true rfl, Nat.le_of_ble_eq_true rfl⟩) hE hAB hP hD hS [0, 1, 2, 3, 4, 5, 6, 7] rfl rfl (va_recv hE.1 hP (ci := 3) (q0 := 0) rfl rfl) rfl rfl rfl rfl hl.1 rfl (Nat.le_of_ble_eq_true rfl) dX0_bestAway_1 ⟨Nat.le_refl _, Nat.le_refl _⟩ (fun H locs hP hD hS => ?_)
  obtain ⟨q133, hq133, hf⟩ := bnd hf
  refine fc_callS (Wa' := (vW G a v ++ vW G b u)) (st1 := [.int q133]) (As := [.int q132]) (rest := []) hCF (k_J6_bitCount_0f7a4 q132 hq133) (va_cwS 1 hts gX0_bestAway_J6_bitCount_0f7a4 rfl rfl rfl dk_J6_bitCount_0f7a4 ⟨Nat.le_of_ble_eq_true rfl, Nat.le_of_ble_eq_true rfl⟩) hE hAB hP hD hS [] rfl rfl rfl rfl rfl rfl hl.1 rfl (Nat.le_of_ble_eq_true rfl) dX0_bestAway_4 ⟨Nat.le_refl _, Nat.le_refl _⟩ (fun H locs hP hD hS => ?_)
  refine lv_istore_n (lv' := [(2, .int q133), (0, .ref (a 0)), (1, .ref (b 0))]) hx hb dX0_bestAway_7 rfl hl (by decide) rfl (fun ls hl => ?_)
  refine lv_bipush (v := (-9 : Int32)) hx hb dX0_bestAway_8 (by decide) ?_
  refine lv_istore_n (lv' := [(3, .int (-9 : Int32)), (2, .int q133), (0, .ref (a 0)), (1, .ref (b 0))]) hx hb dX0_bestAway_10 rfl hl (by decide) rfl (fun ls hl => ?_)
  refine lv_iconst (v := (0 : Int32)) hx hb dX0_bestAway_11 (by decide) ?_
  refine lv_istore (lv' := [(4, .int (0 : Int32)), (3, .int (-9 : Int32)), (2, .int q133), (0, .ref (a 0)), (1, .ref (b 0))]) hx hb dX0_bestAway_12 hl (by decide) rfl (fun ls hl => ?_)
  have L14_138 : ∀ (n : Nat) (x2_134 : Int32) (x3_135 : Int32) (x4_136 : Int32) (u_137 : St) (H : Heap) (locs : List Loc) (ls : Array Slot), va_P (gD G) vwCl (vW G a v ++ vW G b u_137) H → va_D A (vW G a v ++ vW G b u_137) → va_S A s.heap H locs → lv_has ls 6 [(0, .ref (a 0)), (1, .ref (b 0)), (2, .int x2_134), (3, .int x3_135), (4, .int x4_136)] → f_X0_bestAway_14 v n x2_134 x3_135 x4_136 u_137 = some (r, u') → W p l e (headSpec wsX0_bestAway ({ frames := 5, cells := 0, slots := 0, locals := 122 } : Room)).room s m ([.ref (a 0), .ref (b 0)] : List Value).toArray below meth c H locs 0 0 (MQ below (FQ G A (vW G a v ++ vW G b u') (some (.int r))) ([.ref (a 0), .ref (b 0)] : List Value).toArray s 0 0 A) (F0 m 14 ls []) := by
    intro n
    induction n with
    | zero =>
      intro x2_134 x3_135 x4_136 u_137 H locs ls hP hD hS hl hf
      exact no_some hf
    | succ n ih =>
      intro x2_134 x3_135 x4_136 u_137 H locs ls hP hD hS hl hf
      rw [f_X0_bestAway_14] at hf
      refine lv_iload hx hb dX0_bestAway_14 (lv_at hl 4 rfl) ?_
      refine lv_aload_n hx hb dX0_bestAway_16 rfl (lv_at hl 0 rfl) ?_
      refine fc_get (v := .int (v 7 1)) (ci := 3) (C := RX6) (T := TX6) (N := 12) hx hb hwX6 hown hE hP 0 rfl rfl 1 (by decide) hk_fieldLink_RX0_47__BrideNotKnown_Valley___brideCount___I_ (fun _ h => h) rfl dX0_bestAway_17 ?_
      refine lv_icmp_ge (tgt := 71) hx hb dX0_bestAway_20 (by decide) (fun c139 => ?_) (fun c139 => ?_)
      · have hf := ifT hf c139
        refine lv_iload_n hx hb dX0_bestAway_71 rfl (lv_at hl 3 rfl) ?_
        exact fc_reti hx hb hr hlocks hP hS dX0_bestAway_72 (i2a hf) (congrArg (fun z => (vW G a v ++ vW G b z)) (i2b hf))
      · have hf := ifF hf c139
        refine lv_aload_n hx hb dX0_bestAway_23 rfl (lv_at hl 0 rfl) ?_
        refine lv_iload hx hb dX0_bestAway_24 (lv_at hl 4 rfl) ?_
        obtain ⟨q140, hq140, hf⟩ := bnd hf
        refine fc_callV (Wa' := (vW G a v ++ vW G b u_137)) (st1 := [.int q140]) (As := [.int x4_136]) (rest := []) hCF (k_X6_isHere a v x4_136 hq140) (cwV 1 hts gX0_bestAway_X6_isHere rfl rfl rfl ⟨rfl, dk_X6_isHere⟩ ⟨Nat.le_of_ble_eq_true rfl, Nat.le_of_ble_eq_true rfl⟩) hE hAB hP hD hS [0, 1, 2, 3, 4, 5, 6, 7] rfl rfl (va_recv hE.1 hP (ci := 3) (q0 := 0) rfl rfl) rfl rfl rfl rfl hl.1 rfl (Nat.le_of_ble_eq_true rfl) dX0_bestAway_26 ⟨Nat.le_refl _, Nat.le_refl _⟩ (fun H locs hP hD hS => ?_)
        refine lv_if_eq (tgt := 65) hx hb dX0_bestAway_29 (by decide) (fun c141 => ?_) (fun c141 => ?_)
        · have hf := ifT hf c141
          refine lv_iinc (v := (x4_136 + (1 : Int32))) (lv' := [(4, .int (x4_136 + (1 : Int32))), (0, .ref (a 0)), (1, .ref (b 0)), (2, .int x2_134), (3, .int x3_135)]) hx hb dX0_bestAway_65 hl (k := 4) rfl rfl (by decide) rfl (fun ls hl => ?_)
          refine lv_goto (tgt := 14) hx hb dX0_bestAway_68 (by decide) ?_
          exact ih x2_134 x3_135 (x4_136 + (1 : Int32)) u_137 _ _ _ hP hD hS (lv_sub hl [1, 2, 3, 4, 0] rfl) hf
        · have hf := ifF hf c141
          refine lv_aload_n hx hb dX0_bestAway_32 rfl (lv_at hl 1 rfl) ?_
          refine lv_aload_n hx hb dX0_bestAway_33 rfl (lv_at hl 0 rfl) ?_
          obtain ⟨q142, hq142, hf⟩ := bnd hf
          refine fc_callV (Wa' := (vW G a v ++ vW G b q142)) (st1 := []) (As := [.ref (a 0)]) (rest := []) hCF (k_X6_become b u_137 a v hq142) (cwV 1 hts gX0_bestAway_X6_become rfl rfl rfl ⟨rfl, dk_X6_become⟩ ⟨Nat.le_of_ble_eq_true rfl, Nat.le_of_ble_eq_true rfl⟩) hE hAB hP hD hS [8, 9, 10, 11, 12, 13, 14, 15, 0, 1, 2, 3, 4, 5, 6, 7] rfl rfl (va_recv hE.1 hP (ci := 3) (q0 := 8) rfl rfl) rfl rfl rfl rfl hl.1 rfl (Nat.le_of_ble_eq_true rfl) dX0_bestAway_34 ⟨Nat.le_refl _, Nat.le_refl _⟩ (fun H locs hP hD hS => ?_)
          refine lv_aload_n hx hb dX0_bestAway_37 rfl (lv_at hl 1 rfl) ?_
          refine lv_iload hx hb dX0_bestAway_38 (lv_at hl 4 rfl) ?_
          refine lv_iconst (v := (1 : Int32)) hx hb dX0_bestAway_40 (by decide) ?_
          obtain ⟨q143, hq143, hf⟩ := bnd hf
          refine fc_callV (Wa' := (vW G a v ++ vW G b q143)) (st1 := []) (As := [.int x4_136, .int (1 : Int32)]) (rest := []) hCF (k_X6_sendHome b q142 x4_136 (1 : Int32) hq143) (cwV 2 hts gX0_bestAway_X6_sendHome rfl rfl rfl ⟨rfl, dk_X6_sendHome⟩ ⟨Nat.le_of_ble_eq_true rfl, Nat.le_of_ble_eq_true rfl⟩) hE hAB hP hD hS [8, 9, 10, 11, 12, 13, 14, 15] rfl rfl (va_recv hE.1 hP (ci := 3) (q0 := 8) rfl rfl) rfl rfl rfl rfl hl.1 rfl (Nat.le_of_ble_eq_true rfl) dX0_bestAway_41 ⟨Nat.le_refl _, Nat.le_refl _⟩ (fun H locs hP hD hS => ?_)
          refine lv_aload_n hx hb dX0_bestAway_44 rfl (lv_at hl 1 rfl) ?_
          obtain ⟨q144, hq144, hf⟩ := bnd hf
          refine fc_callV (Wa' := (vW G a v ++ vW G b q143)) (st1 := [.int q144]) (As := []) (rest := []) hCF (k_X6_knownBits b q143 hq144) (cwV 0 hts gX0_bestAway_X6_knownBits rfl rfl rfl ⟨rfl, dk_X6_knownBits⟩ ⟨Nat.le_of_ble_eq_true rfl, Nat.le_of_ble_eq_true rfl⟩) hE hAB hP hD hS [8, 9, 10, 11, 12, 13, 14, 15] rfl rfl (va_recv hE.1 hP (ci := 3) (q0 := 8) rfl rfl) rfl rfl rfl rfl hl.1 rfl (Nat.le_of_ble_eq_true rfl) dX0_bestAway_45 ⟨Nat.le_refl _, Nat.le_refl _⟩ (fun H locs hP hD hS => ?_)
          obtain ⟨q145, hq145, hf⟩ := bnd hf
          refine fc_callS (Wa' := (vW G a v ++ vW G b q143)) (st1 := [.int q145]) (As := [.int q144]) (rest := []) hCF (k_J6_bitCount_0f7a4 q144 hq145) (va_cwS 1 hts gX0_bestAway_J6_bitCount_0f7a4 rfl rfl rfl dk_J6_bitCount_0f7a4 ⟨Nat.le_of_ble_eq_true rfl, Nat.le_of_ble_eq_true rfl⟩) hE hAB hP hD hS [] rfl rfl rfl rfl rfl rfl hl.1 rfl (Nat.le_of_ble_eq_true rfl) dX0_bestAway_48 ⟨Nat.le_refl _, Nat.le_refl _⟩ (fun H locs hP hD hS => ?_)
          refine lv_istore (lv' := [(5, .int q145), (0, .ref (a 0)), (1, .ref (b 0)), (2, .int x2_134), (3, .int x3_135), (4, .int x4_136)]) hx hb dX0_bestAway_51 hl (by decide) rfl (fun ls hl => ?_)
          refine lv_iload hx hb dX0_bestAway_53 (lv_at hl 0 rfl) ?_
          refine lv_iload_n hx hb dX0_bestAway_55 rfl (lv_at hl 3 rfl) ?_
          refine lv_icmp_ge (tgt := 65) hx hb dX0_bestAway_56 (by decide) (fun c146 => ?_) (fun c146 => ?_)
          · have hf := ifT hf c146
            refine lv_iinc (v := (x4_136 + (1 : Int32))) (lv' := [(4, .int (x4_136 + (1 : Int32))), (5, .int q145), (0, .ref (a 0)), (1, .ref (b 0)), (2, .int x2_134), (3, .int x3_135)]) hx hb dX0_bestAway_65 hl (k := 5) rfl rfl (by decide) rfl (fun ls hl => ?_)
            refine lv_goto (tgt := 14) hx hb dX0_bestAway_68 (by decide) ?_
            exact ih x2_134 x3_135 (x4_136 + (1 : Int32)) q143 _ _ _ hP hD hS (lv_sub hl [2, 3, 4, 5, 0] rfl) hf
          · have hf := ifF hf c146
            refine lv_iload hx hb dX0_bestAway_59 (lv_at hl 0 rfl) ?_
            refine lv_istore_n (lv' := [(2, .int q145), (5, .int q145), (0, .ref (a 0)), (1, .ref (b 0)), (3, .int x3_135), (4, .int x4_136)]) hx hb dX0_bestAway_61 rfl hl (by decide) rfl (fun ls hl => ?_)
            refine lv_iload hx hb dX0_bestAway_62 (lv_at hl 5 rfl) ?_
            refine lv_istore_n (lv' := [(3, .int x4_136), (2, .int q145), (5, .int q145), (0, .ref (a 0)), (1, .ref (b 0)), (4, .int x4_136)]) hx hb dX0_bestAway_64 rfl hl (by decide) rfl (fun ls hl => ?_)
            refine lv_iinc (v := (x4_136 + (1 : Int32))) (lv' := [(4, .int (x4_136 + (1 : Int32))), (3, .int x4_136), (2, .int q145), (5, .int q145), (0, .ref (a 0)), (1, .ref (b 0))]) hx hb dX0_bestAway_65 hl (k := 5) rfl rfl (by decide) rfl (fun ls hl => ?_)
            refine lv_goto (tgt := 14) hx hb dX0_bestAway_68 (by decide) ?_
            exact ih q145 x4_136 (x4_136 + (1 : Int32)) q143 _ _ _ hP hD hS (lv_sub hl [4, 5, 2, 1, 0] rfl) hf
  exact L14_138 FUEL q133 (-9 : Int32) (0 : Int32) u _ _ _ hP hD hS (lv_sub hl [3, 4, 2, 1, 0] rfl) hf
theorem dk_X0_change : yX0_change.cls ≠ "java/lang/invoke/MethodHandle" ∧ yX0_change.cls ≠ "java/lang/invoke/VarHandle" ∧ (parseMethodDescriptor yX0_change.desc).map (fun d => d.parameters.length) = some 6 := by decide +kernel
set_option maxHeartbeats 4000000 in
set_option maxRecDepth 100000 in
theorem k_X0_change {l : Launch} {G : Gx} (a : Nat → Nat) (v : St) (b : Nat → Nat) (u : St) (x2 : Int32) (x3 : Int32) (x4 : Int32) (x5 : Int32) {u' : St} (hf : f_X0_change v u x2 x3 x4 x5 = some u') : FC l G yX0_change wsX0_change ({ frames := 3, cells := 0, slots := 0, locals := 64 } : Room) [.ref (a 0), .ref (b 0), .int x2, .int x3, .int x4, .int x5] (vW G a v ++ vW G b u) (vW G a v ++ vW G b u') none := by
  refine fc_head (cc := cX0_change) (maxL := 6) (ret := none) (C := RX0) (lv := [(0, .ref (a 0)), (1, .ref (b 0)), (2, .int x2), (3, .int x3), (4, .int x4), (5, .int x5)]) (by decide) rfl rfl (Nat.le_of_ble_eq_true rfl) rfl ?_
  intro p e s m below meth c ls A hx hb hr hml hown hts hlocks hE hP hD hAB hS hl
  have hCF : CallFix p m c cX0_change 6 s ([.ref (a 0), .ref (b 0), .int x2, .int x3, .int x4, .int x5] : List Value).toArray wsX0_change RX0 := ⟨hx, hb, hml, hown, hts⟩
  rw [f_X0_change] at hf
  refine lv_aload_n hx hb dX0_change_0 rfl (lv_at hl 1 rfl) ?_
  refine lv_aload_n hx hb dX0_change_1 rfl (lv_at hl 0 rfl) ?_
  obtain ⟨q156, hq156, hf⟩ := bnd hf
  refine fc_callV (Wa' := (vW G a v ++ vW G b q156)) (st1 := []) (As := [.ref (a 0)]) (rest := []) hCF (k_X6_become b u a v hq156) (cwV 1 hts gX0_change_X6_become rfl rfl rfl ⟨rfl, dk_X6_become⟩ ⟨Nat.le_of_ble_eq_true rfl, Nat.le_of_ble_eq_true rfl⟩) hE hAB hP hD hS [8, 9, 10, 11, 12, 13, 14, 15, 0, 1, 2, 3, 4, 5, 6, 7] rfl rfl (va_recv hE.1 hP (ci := 3) (q0 := 8) rfl rfl) rfl rfl rfl rfl hl.1 rfl (Nat.le_of_ble_eq_true rfl) dX0_change_2 ⟨Nat.le_refl _, Nat.le_refl _⟩ (fun H locs hP hD hS => ?_)
  refine lv_aload_n hx hb dX0_change_5 rfl (lv_at hl 1 rfl) ?_
  refine lv_iload_n hx hb dX0_change_6 rfl (lv_at hl 2 rfl) ?_
  refine lv_iload_n hx hb dX0_change_7 rfl (lv_at hl 3 rfl) ?_
  obtain ⟨q157, hq157, hf⟩ := bnd hf
  refine fc_callV (Wa' := (vW G a v ++ vW G b q157)) (st1 := []) (As := [.int x2, .int x3]) (rest := []) hCF (k_X6_changeToes b q156 x2 x3 hq157) (cwV 2 hts gX0_change_X6_changeToes rfl rfl rfl ⟨rfl, dk_X6_changeToes⟩ ⟨Nat.le_of_ble_eq_true rfl, Nat.le_of_ble_eq_true rfl⟩) hE hAB hP hD hS [8, 9, 10, 11, 12, 13, 14, 15] rfl rfl (va_recv hE.1 hP (ci := 3) (q0 := 8) rfl rfl) rfl rfl rfl rfl hl.1 rfl (Nat.le_of_ble_eq_true rfl) dX0_change_8 ⟨Nat.le_refl _, Nat.le_refl _⟩ (fun H locs hP hD hS => ?_)
  refine lv_aload_n hx hb dX0_change_11 rfl (lv_at hl 1 rfl) ?_
  refine lv_iload hx hb dX0_change_12 (lv_at hl 4 rfl) ?_
  refine lv_iload hx hb dX0_change_14 (lv_at hl 5 rfl) ?_
  obtain ⟨q158, hq158, hf⟩ := bnd hf
  refine fc_callV (Wa' := (vW G a v ++ vW G b q158)) (st1 := []) (As := [.int x4, .int x5]) (rest := []) hCF (k_X6_changeToes b q157 x4 x5 hq158) (cwV 2 hts gX0_change_X6_changeToes rfl rfl rfl ⟨rfl, dk_X6_changeToes⟩ ⟨Nat.le_of_ble_eq_true rfl, Nat.le_of_ble_eq_true rfl⟩) hE hAB hP hD hS [8, 9, 10, 11, 12, 13, 14, 15] rfl rfl (va_recv hE.1 hP (ci := 3) (q0 := 8) rfl rfl) rfl rfl rfl rfl hl.1 rfl (Nat.le_of_ble_eq_true rfl) dX0_change_16 ⟨Nat.le_refl _, Nat.le_refl _⟩ (fun H locs hP hD hS => ?_)
  exact fc_retv hx hb hr hlocks hP hS dX0_change_19 (congrArg (fun z => (vW G a v ++ vW G b z)) (i1 hf))
theorem dk_X0_costOf : yX0_costOf.cls ≠ "java/lang/invoke/MethodHandle" ∧ yX0_costOf.cls ≠ "java/lang/invoke/VarHandle" ∧ (parseMethodDescriptor yX0_costOf.desc).map (fun d => d.parameters.length) = some 2 := by decide +kernel
theorem iu_X0_costOf_X6 : ∀ w ∈ u_ws RX6 TX6 12, w ∈ wsX0_costOf := by decide +kernel
set_option maxHeartbeats 4000000 in
set_option maxRecDepth 100000 in
theorem k_X0_costOf {l : Launch} {G : Gx} (a : Nat → Nat) (v : St) (x1 : Int32) {r : Int32} (hf : f_X0_costOf v x1 = some r) : FC l G yX0_costOf wsX0_costOf ({ frames := 4, cells := 0, slots := 0, locals := 99 } : Room) [.ref (a 0), .int x1] (vW G a v) (vW G a v) (some (.int r)) := by
  refine fc_head (cc := cX0_costOf) (maxL := 5) (ret := (some .int)) (C := RX0) (lv := [(0, .ref (a 0)), (1, .int x1)]) (by decide) rfl rfl (Nat.le_of_ble_eq_true rfl) rfl ?_
  intro p e s m below meth c ls A hx hb hr hml hown hts hlocks hE hP hD hAB hS hl
  have hCF : CallFix p m c cX0_costOf 5 s ([.ref (a 0), .int x1] : List Value).toArray wsX0_costOf RX0 := ⟨hx, hb, hml, hown, hts⟩
  have hwX6 : ∀ w ∈ u_ws RX6 TX6 12, w.before ([.ref (a 0), .int x1] : List Value).toArray s = true := fun w h => hts w (iu_X0_costOf_X6 w h)
  have hk_fieldLink_RX0_68__BrideNotKnown_Valley___groomCount___I_ := hts (.fieldLink RX0 68 "BrideNotKnown$Valley" "groomCount" "I") (List.mem_of_getElem? (i := 1) rfl)
  have hk_initialized_RX7 := hts (.initialized RX7) (List.mem_of_getElem? (i := 9) rfl)
  have hk_static_yX7_onlyOne := hts (.static yX7_onlyOne) (List.mem_of_getElem? (i := 38) rfl)
  have hk_static_yX7_has := hts (.static yX7_has) (List.mem_of_getElem? (i := 8) rfl)
  rw [f_X0_costOf] at hf
  refine lv_iconst (v := (0 : Int32)) hx hb dX0_costOf_0 (by decide) ?_
  refine lv_istore_n (lv' := [(2, .int (0 : Int32)), (0, .ref (a 0)), (1, .int x1)]) hx hb dX0_costOf_1 rfl hl (by decide) rfl (fun ls hl => ?_)
  refine lv_iconst (v := (0 : Int32)) hx hb dX0_costOf_2 (by decide) ?_
  refine lv_istore_n (lv' := [(3, .int (0 : Int32)), (2, .int (0 : Int32)), (0, .ref (a 0)), (1, .int x1)]) hx hb dX0_costOf_3 rfl hl (by decide) rfl (fun ls hl => ?_)
  have L4_173 : ∀ (n : Nat) (x2_171 : Int32) (x3_172 : Int32) (H : Heap) (locs : List Loc) (ls : Array Slot), va_P (gD G) vwCl (vW G a v) H → va_D A (vW G a v) → va_S A s.heap H locs → lv_has ls 5 [(0, .ref (a 0)), (1, .int x1), (2, .int x2_171), (3, .int x3_172)] → f_X0_costOf_4 v x1 n x2_171 x3_172 = some r → W p l e (headSpec wsX0_costOf ({ frames := 4, cells := 0, slots := 0, locals := 99 } : Room)).room s m ([.ref (a 0), .int x1] : List Value).toArray below meth c H locs 0 0 (MQ below (FQ G A (vW G a v) (some (.int r))) ([.ref (a 0), .int x1] : List Value).toArray s 0 0 A) (F0 m 4 ls []) := by
    intro n
    induction n with
    | zero =>
      intro x2_171 x3_172 H locs ls hP hD hS hl hf
      exact no_some hf
    | succ n ih =>
      intro x2_171 x3_172 H locs ls hP hD hS hl hf
      rw [f_X0_costOf_4] at hf
      refine lv_iload_n hx hb dX0_costOf_4 rfl (lv_at hl 3 rfl) ?_
      refine lv_aload_n hx hb dX0_costOf_5 rfl (lv_at hl 0 rfl) ?_
      refine fc_get (v := .int (v 7 3)) (ci := 3) (C := RX6) (T := TX6) (N := 12) hx hb hwX6 hown hE hP 0 rfl rfl 7 (by decide) hk_fieldLink_RX0_68__BrideNotKnown_Valley___groomCount___I_ (fun _ h => h) rfl dX0_costOf_6 ?_
      refine lv_icmp_ge (tgt := 62) hx hb dX0_costOf_9 (by decide) (fun c174 => ?_) (fun c174 => ?_)
      · have hf := ifT hf c174
        refine lv_iload_n hx hb dX0_costOf_62 rfl (lv_at hl 2 rfl) ?_
        exact fc_reti hx hb hr hlocks hP hS dX0_costOf_63 (i1 hf) rfl
      · have hf := ifF hf c174
        refine lv_aload_n hx hb dX0_costOf_12 rfl (lv_at hl 0 rfl) ?_
        refine lv_iload_n hx hb dX0_costOf_13 rfl (lv_at hl 3 rfl) ?_
        obtain ⟨q175, hq175, hf⟩ := bnd hf
        refine fc_callV (Wa' := (vW G a v)) (st1 := [.int q175]) (As := [.int x3_172]) (rest := []) hCF (k_X6_isUnmarried a v x3_172 hq175) (cwV 1 hts gX0_costOf_X6_isUnmarried rfl rfl rfl ⟨rfl, dk_X6_isUnmarried⟩ ⟨Nat.le_of_ble_eq_true rfl, Nat.le_of_ble_eq_true rfl⟩) hE hAB hP hD hS [0, 1, 2, 3, 4, 5, 6, 7] rfl rfl (va_recv hE.1 hP (ci := 3) (q0 := 0) rfl rfl) rfl rfl rfl rfl hl.1 rfl (Nat.le_of_ble_eq_true rfl) dX0_costOf_14 ⟨Nat.le_refl _, Nat.le_refl _⟩ (fun H locs hP hD hS => ?_)
        have J30_177 : ∀ (s0_176 : Int32) (H : Heap) (locs : List Loc) (ls : Array Slot), va_P (gD G) vwCl (vW G a v) H → va_D A (vW G a v) → va_S A s.heap H locs → lv_has ls 5 [(0, .ref (a 0)), (1, .int x1), (2, .int x2_171), (3, .int x3_172)] → f_X0_costOf_30 x1 x2_171 x3_172 s0_176 (fun (x2_178 : Int32) (x3_179 : Int32) => f_X0_costOf_4 v x1 n x2_178 x3_179) = some r → W p l e (headSpec wsX0_costOf ({ frames := 4, cells := 0, slots := 0, locals := 99 } : Room)).room s m ([.ref (a 0), .int x1] : List Value).toArray below meth c H locs 0 0 (MQ below (FQ G A (vW G a v) (some (.int r))) ([.ref (a 0), .int x1] : List Value).toArray s 0 0 A) (F0 m 30 ls [.int s0_176]) := by
          intro s0_176 H locs ls hP hD hS hl hf
          rw [f_X0_costOf_30] at hf
          refine lv_istore (lv' := [(4, .int s0_176), (0, .ref (a 0)), (1, .int x1), (2, .int x2_171), (3, .int x3_172)]) hx hb dX0_costOf_30 hl (by decide) rfl (fun ls hl => ?_)
          refine lv_iload hx hb dX0_costOf_32 (lv_at hl 0 rfl) ?_
          obtain ⟨q180, hq180, hf⟩ := bnd hf
          refine fc_callN (Wa' := (vW G a v)) (st1 := [.int q180]) (As := [.int s0_176]) (rest := []) hCF (k_X7_onlyOne s0_176 hq180) ⟨va_cnB 1 hts gX0_costOf_X7_onlyOne_n39 rfl rfl rfl (hE.2.1 _ (List.mem_of_getElem? (i := 13) rfl)) hk_initialized_RX7 dk_X7_onlyOne ⟨Nat.le_of_ble_eq_true rfl, Nat.le_of_ble_eq_true rfl⟩, hk_static_yX7_onlyOne, trivial⟩ hE hAB hP hD hS [] rfl rfl rfl rfl rfl rfl hl.1 rfl (Nat.le_of_ble_eq_true rfl) dX0_costOf_34 ⟨Nat.le_refl _, Nat.le_refl _⟩ (fun H locs hP hD hS => ?_)
          refine lv_iload_n hx hb dX0_costOf_37 rfl (lv_at hl 2 rfl) ?_
          have J44_182 : ∀ (x2_181 : Int32) (H : Heap) (locs : List Loc) (ls : Array Slot), va_P (gD G) vwCl (vW G a v) H → va_D A (vW G a v) → va_S A s.heap H locs → lv_has ls 5 [(0, .ref (a 0)), (1, .int x1), (2, .int x2_181), (3, .int x3_172), (4, .int s0_176)] → f_X0_costOf_44 x1 x3_172 s0_176 x2_181 (fun (x2_183 : Int32) (x3_184 : Int32) => f_X0_costOf_4 v x1 n x2_183 x3_184) = some r → W p l e (headSpec wsX0_costOf ({ frames := 4, cells := 0, slots := 0, locals := 99 } : Room)).room s m ([.ref (a 0), .int x1] : List Value).toArray below meth c H locs 0 0 (MQ below (FQ G A (vW G a v) (some (.int r))) ([.ref (a 0), .int x1] : List Value).toArray s 0 0 A) (F0 m 44 ls []) := by
            intro x2_181 H locs ls hP hD hS hl hf
            rw [f_X0_costOf_44] at hf
            refine lv_iload hx hb dX0_costOf_44 (lv_at hl 4 rfl) ?_
            refine lv_iload_n hx hb dX0_costOf_46 rfl (lv_at hl 1 rfl) ?_
            obtain ⟨q185, hq185, hf⟩ := bnd hf
            refine fc_callN (Wa' := (vW G a v)) (st1 := [.int q185]) (As := [.int s0_176, .int x1]) (rest := []) hCF (k_X7_has s0_176 x1 hq185) ⟨va_cnB 2 hts gX0_costOf_X7_has_n27 rfl rfl rfl (hE.2.1 _ (List.mem_of_getElem? (i := 12) rfl)) hk_initialized_RX7 dk_X7_has ⟨Nat.le_of_ble_eq_true rfl, Nat.le_of_ble_eq_true rfl⟩, hk_static_yX7_has, trivial⟩ hE hAB hP hD hS [] rfl rfl rfl rfl rfl rfl hl.1 rfl (Nat.le_of_ble_eq_true rfl) dX0_costOf_47 ⟨Nat.le_refl _, Nat.le_refl _⟩ (fun H locs hP hD hS => ?_)
            refine lv_if_eq (tgt := 56) hx hb dX0_costOf_50 (by decide) (fun c186 => ?_) (fun c186 => ?_)
            · have hf := ifT hf c186
              refine lv_iinc (v := (x3_172 + (1 : Int32))) (lv' := [(3, .int (x3_172 + (1 : Int32))), (0, .ref (a 0)), (1, .int x1), (2, .int x2_181), (4, .int s0_176)]) hx hb dX0_costOf_56 hl (k := 3) rfl rfl (by decide) rfl (fun ls hl => ?_)
              refine lv_goto (tgt := 4) hx hb dX0_costOf_59 (by decide) ?_
              exact ih x2_181 (x3_172 + (1 : Int32)) _ _ _ hP hD hS (lv_sub hl [1, 2, 3, 0] rfl) hf
            · have hf := ifF hf c186
              refine lv_iinc (v := (x2_181 + (-1 : Int32))) (lv' := [(2, .int (x2_181 + (-1 : Int32))), (0, .ref (a 0)), (1, .int x1), (3, .int x3_172), (4, .int s0_176)]) hx hb dX0_costOf_53 hl (k := 2) rfl rfl (by decide) rfl (fun ls hl => ?_)
              refine lv_iinc (v := (x3_172 + (1 : Int32))) (lv' := [(3, .int (x3_172 + (1 : Int32))), (2, .int (x2_181 + (-1 : Int32))), (0, .ref (a 0)), (1, .int x1), (4, .int s0_176)]) hx hb dX0_costOf_56 hl (k := 3) rfl rfl (by decide) rfl (fun ls hl => ?_)
              refine lv_goto (tgt := 4) hx hb dX0_costOf_59 (by decide) ?_
              exact ih (x2_181 + (-1 : Int32)) (x3_172 + (1 : Int32)) _ _ _ hP hD hS (lv_sub hl [2, 3, 1, 0] rfl) hf
          refine lv_icmp_ne (tgt := 44) hx hb dX0_costOf_38 (by decide) (fun c187 => ?_) (fun c187 => ?_)
          · have hf := ifF hf c187
            exact J44_182 x2_171 _ _ _ hP hD hS (lv_sub hl [1, 2, 3, 4, 0] rfl) hf
          · have hf := ifT hf c187
            refine lv_iinc (v := (x2_171 + (10 : Int32))) (lv' := [(2, .int (x2_171 + (10 : Int32))), (4, .int s0_176), (0, .ref (a 0)), (1, .int x1), (3, .int x3_172)]) hx hb dX0_costOf_41 hl (k := 3) rfl rfl (by decide) rfl (fun ls hl => ?_)
            exact J44_182 (x2_171 + (10 : Int32)) _ _ _ hP hD hS (lv_sub hl [2, 3, 0, 4, 1] rfl) hf
        refine lv_if_eq (tgt := 29) hx hb dX0_costOf_17 (by decide) (fun c188 => ?_) (fun c188 => ?_)
        · have hf := ifT hf c188
          refine lv_iconst (v := (0 : Int32)) hx hb dX0_costOf_29 (by decide) ?_
          exact J30_177 (0 : Int32) _ _ _ hP hD hS (lv_sub hl [0, 1, 2, 3] rfl) hf
        · have hf := ifF hf c188
          refine lv_aload_n hx hb dX0_costOf_20 rfl (lv_at hl 0 rfl) ?_
          refine lv_iload_n hx hb dX0_costOf_21 rfl (lv_at hl 3 rfl) ?_
          refine lv_iconst (v := (0 : Int32)) hx hb dX0_costOf_22 (by decide) ?_
          obtain ⟨q189, hq189, hf⟩ := bnd hf
          refine fc_callV (Wa' := (vW G a v)) (st1 := [.int q189]) (As := [.int x3_172, .int (0 : Int32)]) (rest := []) hCF (k_X6_guesses a v x3_172 (0 : Int32) hq189) (cwV 2 hts gX0_costOf_X6_guesses rfl rfl rfl ⟨rfl, dk_X6_guesses⟩ ⟨Nat.le_of_ble_eq_true rfl, Nat.le_of_ble_eq_true rfl⟩) hE hAB hP hD hS [0, 1, 2, 3, 4, 5, 6, 7] rfl rfl (va_recv hE.1 hP (ci := 3) (q0 := 0) rfl rfl) rfl rfl rfl rfl hl.1 rfl (Nat.le_of_ble_eq_true rfl) dX0_costOf_23 ⟨Nat.le_refl _, Nat.le_refl _⟩ (fun H locs hP hD hS => ?_)
          refine lv_goto (tgt := 30) hx hb dX0_costOf_26 (by decide) ?_
          exact J30_177 q189 _ _ _ hP hD hS (lv_sub hl [0, 1, 2, 3] rfl) hf
  exact L4_173 FUEL (0 : Int32) (0 : Int32) _ _ _ hP hD hS (lv_sub hl [2, 3, 1, 0] rfl) hf
theorem dk_X0_fewestForgotten : yX0_fewestForgotten.cls ≠ "java/lang/invoke/MethodHandle" ∧ yX0_fewestForgotten.cls ≠ "java/lang/invoke/VarHandle" ∧ (parseMethodDescriptor yX0_fewestForgotten.desc).map (fun d => d.parameters.length) = some 2 := by decide +kernel
set_option maxHeartbeats 4000000 in
set_option maxRecDepth 100000 in
theorem k_X0_fewestForgotten {l : Launch} {G : Gx} (a : Nat → Nat) (v : St) (x1 : Int32) {r : Int32} (hf : f_X0_fewestForgotten v x1 = some r) : FC l G yX0_fewestForgotten wsX0_fewestForgotten ({ frames := 3, cells := 0, slots := 0, locals := 77 } : Room) [.ref (a 0), .int x1] (vW G a v) (vW G a v) (some (.int r)) := by
  refine fc_head (cc := cX0_fewestForgotten) (maxL := 8) (ret := (some .int)) (C := RX0) (lv := [(0, .ref (a 0)), (1, .int x1)]) (by decide) rfl rfl (Nat.le_of_ble_eq_true rfl) rfl ?_
  intro p e s m below meth c ls A hx hb hr hml hown hts hlocks hE hP hD hAB hS hl
  have hCF : CallFix p m c cX0_fewestForgotten 8 s ([.ref (a 0), .int x1] : List Value).toArray wsX0_fewestForgotten RX0 := ⟨hx, hb, hml, hown, hts⟩
  have hk_initialized_RX7 := hts (.initialized RX7) (List.mem_of_getElem? (i := 8) rfl)
  have hk_static_yX7_onlyOne := hts (.static yX7_onlyOne) (List.mem_of_getElem? (i := 32) rfl)
  rw [f_X0_fewestForgotten] at hf
  refine lv_aload_n hx hb dX0_fewestForgotten_0 rfl (lv_at hl 0 rfl) ?_
  refine lv_iload_n hx hb dX0_fewestForgotten_1 rfl (lv_at hl 1 rfl) ?_
  obtain ⟨q197, hq197, hf⟩ := bnd hf
  refine fc_callV (Wa' := (vW G a v)) (st1 := [.int q197]) (As := [.int x1]) (rest := []) hCF (k_X6_lookOf a v x1 hq197) (cwV 1 hts gX0_fewestForgotten_X6_lookOf rfl rfl rfl ⟨rfl, dk_X6_lookOf⟩ ⟨Nat.le_of_ble_eq_true rfl, Nat.le_of_ble_eq_true rfl⟩) hE hAB hP hD hS [0, 1, 2, 3, 4, 5, 6, 7] rfl rfl (va_recv hE.1 hP (ci := 3) (q0 := 0) rfl rfl) rfl rfl rfl rfl hl.1 rfl (Nat.le_of_ble_eq_true rfl) dX0_fewestForgotten_2 ⟨Nat.le_refl _, Nat.le_refl _⟩ (fun H locs hP hD hS => ?_)
  refine lv_istore_n (lv' := [(2, .int q197), (0, .ref (a 0)), (1, .int x1)]) hx hb dX0_fewestForgotten_5 rfl hl (by decide) rfl (fun ls hl => ?_)
  refine fc_gets hx hb hE hAB hS hown (hE.2.1 _ (List.mem_of_getElem? (i := 22) rfl)) dX0_fewestForgotten_6 ?_
  refine lv_astore_n (lv' := [(3, .ref (gT G)), (2, .int q197), (0, .ref (a 0)), (1, .int x1)]) hx hb dX0_fewestForgotten_9 rfl hl (by decide) rfl (fun ls hl => ?_)
  refine lv_aload_n hx hb dX0_fewestForgotten_10 rfl (lv_at hl 0 rfl) ?_
  refine fc_tlen hx hb hE hAB hS dX0_fewestForgotten_11 ?_
  refine lv_istore (lv' := [(4, .int (64 : Int32)), (3, .ref (gT G)), (2, .int q197), (0, .ref (a 0)), (1, .int x1)]) hx hb dX0_fewestForgotten_12 hl (by decide) rfl (fun ls hl => ?_)
  refine lv_iconst (v := (0 : Int32)) hx hb dX0_fewestForgotten_14 (by decide) ?_
  refine lv_istore (lv' := [(5, .int (0 : Int32)), (4, .int (64 : Int32)), (3, .ref (gT G)), (2, .int q197), (0, .ref (a 0)), (1, .int x1)]) hx hb dX0_fewestForgotten_15 hl (by decide) rfl (fun ls hl => ?_)
  have L17_199 : ∀ (n : Nat) (x5_198 : Int32) (H : Heap) (locs : List Loc) (ls : Array Slot), va_P (gD G) vwCl (vW G a v) H → va_D A (vW G a v) → va_S A s.heap H locs → lv_has ls 8 [(0, .ref (a 0)), (1, .int x1), (2, .int q197), (3, .ref (gT G)), (4, .int (64 : Int32)), (5, .int x5_198)] → f_X0_fewestForgotten_17 v x1 q197 (64 : Int32) n x5_198 = some r → W p l e (headSpec wsX0_fewestForgotten ({ frames := 3, cells := 0, slots := 0, locals := 77 } : Room)).room s m ([.ref (a 0), .int x1] : List Value).toArray below meth c H locs 0 0 (MQ below (FQ G A (vW G a v) (some (.int r))) ([.ref (a 0), .int x1] : List Value).toArray s 0 0 A) (F0 m 17 ls []) := by
    intro n
    induction n with
    | zero =>
      intro x5_198 H locs ls hP hD hS hl hf
      exact no_some hf
    | succ n ih =>
      intro x5_198 H locs ls hP hD hS hl hf
      rw [f_X0_fewestForgotten_17] at hf
      refine lv_iload hx hb dX0_fewestForgotten_17 (lv_at hl 5 rfl) ?_
      refine lv_iload hx hb dX0_fewestForgotten_19 (lv_at hl 4 rfl) ?_
      refine lv_icmp_ge (tgt := 80) hx hb dX0_fewestForgotten_21 (by decide) (fun c200 => ?_) (fun c200 => ?_)
      · have hf := ifT hf c200
        refine lv_bipush (v := (-9 : Int32)) hx hb dX0_fewestForgotten_80 (by decide) ?_
        exact fc_reti hx hb hr hlocks hP hS dX0_fewestForgotten_82 (i1 hf) rfl
      · have hf := ifF hf c200
        refine lv_aload_n hx hb dX0_fewestForgotten_24 rfl (lv_at hl 3 rfl) ?_
        refine lv_iload hx hb dX0_fewestForgotten_25 (lv_at hl 5 rfl) ?_
        obtain ⟨c201, hf⟩ := gd_some hf
        refine fc_ti hx hb hE hAB hS (inB_in c201) dX0_fewestForgotten_27 ?_
        refine lv_istore (lv' := [(6, .int (ffT x5_198.toNatClampNeg)), (0, .ref (a 0)), (1, .int x1), (2, .int q197), (3, .ref (gT G)), (4, .int (64 : Int32)), (5, .int x5_198)]) hx hb dX0_fewestForgotten_28 hl (by decide) rfl (fun ls hl => ?_)
        refine lv_iload hx hb dX0_fewestForgotten_30 (lv_at hl 0 rfl) ?_
        refine lv_iload_n hx hb dX0_fewestForgotten_32 rfl (lv_at hl 3 rfl) ?_
        refine lv_iconst (v := (-1 : Int32)) hx hb dX0_fewestForgotten_33 (by decide) ?_
        refine lv_ixor hx hb dX0_fewestForgotten_34 ?_
        refine lv_iand hx hb dX0_fewestForgotten_35 ?_
        have J44_203 : ∀ (s0_202 : Int32) (H : Heap) (locs : List Loc) (ls : Array Slot), va_P (gD G) vwCl (vW G a v) H → va_D A (vW G a v) → va_S A s.heap H locs → lv_has ls 8 [(0, .ref (a 0)), (1, .int x1), (2, .int q197), (3, .ref (gT G)), (4, .int (64 : Int32)), (5, .int x5_198), (6, .int (ffT x5_198.toNatClampNeg))] → f_X0_fewestForgotten_44 v x1 q197 x5_198 (ffT x5_198.toNatClampNeg) s0_202 (fun (x5_204 : Int32) => f_X0_fewestForgotten_17 v x1 q197 (64 : Int32) n x5_204) = some r → W p l e (headSpec wsX0_fewestForgotten ({ frames := 3, cells := 0, slots := 0, locals := 77 } : Room)).room s m ([.ref (a 0), .int x1] : List Value).toArray below meth c H locs 0 0 (MQ below (FQ G A (vW G a v) (some (.int r))) ([.ref (a 0), .int x1] : List Value).toArray s 0 0 A) (F0 m 44 ls [.int s0_202]) := by
          intro s0_202 H locs ls hP hD hS hl hf
          rw [f_X0_fewestForgotten_44] at hf
          refine lv_istore (lv' := [(7, .int s0_202), (0, .ref (a 0)), (1, .int x1), (2, .int q197), (3, .ref (gT G)), (4, .int (64 : Int32)), (5, .int x5_198), (6, .int (ffT x5_198.toNatClampNeg))]) hx hb dX0_fewestForgotten_44 hl (by decide) rfl (fun ls hl => ?_)
          refine lv_iload hx hb dX0_fewestForgotten_46 (lv_at hl 0 rfl) ?_
          refine lv_if_eq (tgt := 74) hx hb dX0_fewestForgotten_48 (by decide) (fun c205 => ?_) (fun c205 => ?_)
          · have hf := ifT hf c205
            refine lv_iinc (v := (x5_198 + (1 : Int32))) (lv' := [(5, .int (x5_198 + (1 : Int32))), (7, .int s0_202), (0, .ref (a 0)), (1, .int x1), (2, .int q197), (3, .ref (gT G)), (4, .int (64 : Int32)), (6, .int (ffT x5_198.toNatClampNeg))]) hx hb dX0_fewestForgotten_74 hl (k := 6) rfl rfl (by decide) rfl (fun ls hl => ?_)
            refine lv_goto (tgt := 17) hx hb dX0_fewestForgotten_77 (by decide) ?_
            exact ih (x5_198 + (1 : Int32)) _ _ _ hP hD hS (lv_sub hl [2, 3, 4, 5, 6, 0] rfl) hf
          · have hf := ifF hf c205
            refine lv_aload_n hx hb dX0_fewestForgotten_51 rfl (lv_at hl 1 rfl) ?_
            refine lv_iload_n hx hb dX0_fewestForgotten_52 rfl (lv_at hl 2 rfl) ?_
            refine lv_iload_n hx hb dX0_fewestForgotten_53 rfl (lv_at hl 3 rfl) ?_
            refine lv_iload hx hb dX0_fewestForgotten_54 (lv_at hl 7 rfl) ?_
            refine lv_iconst (v := (-1 : Int32)) hx hb dX0_fewestForgotten_56 (by decide) ?_
            refine lv_ixor hx hb dX0_fewestForgotten_57 ?_
            refine lv_iand hx hb dX0_fewestForgotten_58 ?_
            refine lv_iconst (v := (0 : Int32)) hx hb dX0_fewestForgotten_59 (by decide) ?_
            obtain ⟨q206, hq206, hf⟩ := bnd hf
            refine fc_callV (Wa' := (vW G a v)) (st1 := [.int q206]) (As := [.int x1, .int (q197 &&& ((ffT x5_198.toNatClampNeg) ^^^ (-1 : Int32))), .int (0 : Int32)]) (rest := []) hCF (k_X6_guessesBy a v x1 (q197 &&& ((ffT x5_198.toNatClampNeg) ^^^ (-1 : Int32))) (0 : Int32) hq206) (cwV 3 hts gX0_fewestForgotten_X6_guessesBy rfl rfl rfl ⟨rfl, dk_X6_guessesBy⟩ ⟨Nat.le_of_ble_eq_true rfl, Nat.le_of_ble_eq_true rfl⟩) hE hAB hP hD hS [0, 1, 2, 3, 4, 5, 6, 7] rfl rfl (va_recv hE.1 hP (ci := 3) (q0 := 0) rfl rfl) rfl rfl rfl rfl hl.1 rfl (Nat.le_of_ble_eq_true rfl) dX0_fewestForgotten_60 ⟨Nat.le_refl _, Nat.le_refl _⟩ (fun H locs hP hD hS => ?_)
            obtain ⟨q207, hq207, hf⟩ := bnd hf
            refine fc_callN (Wa' := (vW G a v)) (st1 := [.int q207]) (As := [.int q206]) (rest := []) hCF (k_X7_onlyOne q206 hq207) ⟨va_cnB 1 hts gX0_fewestForgotten_X7_onlyOne_n39 rfl rfl rfl (hE.2.1 _ (List.mem_of_getElem? (i := 13) rfl)) hk_initialized_RX7 dk_X7_onlyOne ⟨Nat.le_of_ble_eq_true rfl, Nat.le_of_ble_eq_true rfl⟩, hk_static_yX7_onlyOne, trivial⟩ hE hAB hP hD hS [] rfl rfl rfl rfl rfl rfl hl.1 rfl (Nat.le_of_ble_eq_true rfl) dX0_fewestForgotten_63 ⟨Nat.le_refl _, Nat.le_refl _⟩ (fun H locs hP hD hS => ?_)
            refine lv_bipush (v := (-9 : Int32)) hx hb dX0_fewestForgotten_66 (by decide) ?_
            refine lv_icmp_ne (tgt := 74) hx hb dX0_fewestForgotten_68 (by decide) (fun c208 => ?_) (fun c208 => ?_)
            · have hf := ifF hf c208
              refine lv_iinc (v := (x5_198 + (1 : Int32))) (lv' := [(5, .int (x5_198 + (1 : Int32))), (7, .int s0_202), (0, .ref (a 0)), (1, .int x1), (2, .int q197), (3, .ref (gT G)), (4, .int (64 : Int32)), (6, .int (ffT x5_198.toNatClampNeg))]) hx hb dX0_fewestForgotten_74 hl (k := 6) rfl rfl (by decide) rfl (fun ls hl => ?_)
              refine lv_goto (tgt := 17) hx hb dX0_fewestForgotten_77 (by decide) ?_
              exact ih (x5_198 + (1 : Int32)) _ _ _ hP hD hS (lv_sub hl [2, 3, 4, 5, 6, 0] rfl) hf
            · have hf := ifT hf c208
              refine lv_iload hx hb dX0_fewestForgotten_71 (lv_at hl 7 rfl) ?_
              exact fc_reti hx hb hr hlocks hP hS dX0_fewestForgotten_73 (i1 hf) rfl
        refine lv_if_ne (tgt := 43) hx hb dX0_fewestForgotten_36 (by decide) (fun c209 => ?_) (fun c209 => ?_)
        · have hf := ifF hf c209
          refine lv_iconst (v := (0 : Int32)) hx hb dX0_fewestForgotten_43 (by decide) ?_
          exact J44_203 (0 : Int32) _ _ _ hP hD hS (lv_sub hl [1, 2, 3, 4, 5, 6, 0] rfl) hf
        · have hf := ifT hf c209
          refine lv_iconst (v := (1 : Int32)) hx hb dX0_fewestForgotten_39 (by decide) ?_
          refine lv_goto (tgt := 44) hx hb dX0_fewestForgotten_40 (by decide) ?_
          exact J44_203 (1 : Int32) _ _ _ hP hD hS (lv_sub hl [1, 2, 3, 4, 5, 6, 0] rfl) hf
  exact L17_199 FUEL (0 : Int32) _ _ _ hP hD hS (lv_sub hl [4, 5, 3, 2, 1, 0] rfl) hf
theorem dk_X0_fewestToes : yX0_fewestToes.cls ≠ "java/lang/invoke/MethodHandle" ∧ yX0_fewestToes.cls ≠ "java/lang/invoke/VarHandle" ∧ (parseMethodDescriptor yX0_fewestToes.desc).map (fun d => d.parameters.length) = some 3 := by decide +kernel
set_option maxHeartbeats 4000000 in
set_option maxRecDepth 100000 in
theorem k_X0_fewestToes {l : Launch} {G : Gx} (a : Nat → Nat) (v : St) (b : Nat → Nat) (u : St) (x2 : Int32) {r : Int32} {u' : St} (hf : f_X0_fewestToes v u x2 = some (r, u')) : FC l G yX0_fewestToes wsX0_fewestToes ({ frames := 5, cells := 0, slots := 0, locals := 122 } : Room) [.ref (a 0), .ref (b 0), .int x2] (vW G a v ++ vW G b u) (vW G a v ++ vW G b u') (some (.int r)) := by
  refine fc_head (cc := cX0_fewestToes) (maxL := 7) (ret := (some .int)) (C := RX0) (lv := [(0, .ref (a 0)), (1, .ref (b 0)), (2, .int x2)]) (by decide) rfl rfl (Nat.le_of_ble_eq_true rfl) rfl ?_
  intro p e s m below meth c ls A hx hb hr hml hown hts hlocks hE hP hD hAB hS hl
  have hCF : CallFix p m c cX0_fewestToes 7 s ([.ref (a 0), .ref (b 0), .int x2] : List Value).toArray wsX0_fewestToes RX0 := ⟨hx, hb, hml, hown, hts⟩
  have hk_initialized_RX7 := hts (.initialized RX7) (List.mem_of_getElem? (i := 19) rfl)
  have hk_static_yX7_has := hts (.static yX7_has) (List.mem_of_getElem? (i := 41) rfl)
  rw [f_X0_fewestToes] at hf
  refine fc_gets hx hb hE hAB hS hown (hE.2.1 _ (List.mem_of_getElem? (i := 22) rfl)) dX0_fewestToes_0 ?_
  refine lv_astore_n (lv' := [(3, .ref (gT G)), (0, .ref (a 0)), (1, .ref (b 0)), (2, .int x2)]) hx hb dX0_fewestToes_3 rfl hl (by decide) rfl (fun ls hl => ?_)
  refine lv_aload_n hx hb dX0_fewestToes_4 rfl (lv_at hl 0 rfl) ?_
  refine fc_tlen hx hb hE hAB hS dX0_fewestToes_5 ?_
  refine lv_istore (lv' := [(4, .int (64 : Int32)), (3, .ref (gT G)), (0, .ref (a 0)), (1, .ref (b 0)), (2, .int x2)]) hx hb dX0_fewestToes_6 hl (by decide) rfl (fun ls hl => ?_)
  refine lv_iconst (v := (0 : Int32)) hx hb dX0_fewestToes_8 (by decide) ?_
  refine lv_istore (lv' := [(5, .int (0 : Int32)), (4, .int (64 : Int32)), (3, .ref (gT G)), (0, .ref (a 0)), (1, .ref (b 0)), (2, .int x2)]) hx hb dX0_fewestToes_9 hl (by decide) rfl (fun ls hl => ?_)
  have L11_216 : ∀ (n : Nat) (x5_214 : Int32) (u_215 : St) (H : Heap) (locs : List Loc) (ls : Array Slot), va_P (gD G) vwCl (vW G a v ++ vW G b u_215) H → va_D A (vW G a v ++ vW G b u_215) → va_S A s.heap H locs → lv_has ls 7 [(0, .ref (a 0)), (1, .ref (b 0)), (2, .int x2), (3, .ref (gT G)), (4, .int (64 : Int32)), (5, .int x5_214)] → f_X0_fewestToes_11 v x2 (64 : Int32) n x5_214 u_215 = some (r, u') → W p l e (headSpec wsX0_fewestToes ({ frames := 5, cells := 0, slots := 0, locals := 122 } : Room)).room s m ([.ref (a 0), .ref (b 0), .int x2] : List Value).toArray below meth c H locs 0 0 (MQ below (FQ G A (vW G a v ++ vW G b u') (some (.int r))) ([.ref (a 0), .ref (b 0), .int x2] : List Value).toArray s 0 0 A) (F0 m 11 ls []) := by
    intro n
    induction n with
    | zero =>
      intro x5_214 u_215 H locs ls hP hD hS hl hf
      exact no_some hf
    | succ n ih =>
      intro x5_214 u_215 H locs ls hP hD hS hl hf
      rw [f_X0_fewestToes_11] at hf
      refine lv_iload hx hb dX0_fewestToes_11 (lv_at hl 5 rfl) ?_
      refine lv_iload hx hb dX0_fewestToes_13 (lv_at hl 4 rfl) ?_
      refine lv_icmp_ge (tgt := 56) hx hb dX0_fewestToes_15 (by decide) (fun c217 => ?_) (fun c217 => ?_)
      · have hf := ifT hf c217
        refine lv_bipush (v := (-9 : Int32)) hx hb dX0_fewestToes_56 (by decide) ?_
        exact fc_reti hx hb hr hlocks hP hS dX0_fewestToes_58 (i2a hf) (congrArg (fun z => (vW G a v ++ vW G b z)) (i2b hf))
      · have hf := ifF hf c217
        refine lv_aload_n hx hb dX0_fewestToes_18 rfl (lv_at hl 3 rfl) ?_
        refine lv_iload hx hb dX0_fewestToes_19 (lv_at hl 5 rfl) ?_
        obtain ⟨c218, hf⟩ := gd_some hf
        refine fc_ti hx hb hE hAB hS (inB_in c218) dX0_fewestToes_21 ?_
        refine lv_istore (lv' := [(6, .int (ffT x5_214.toNatClampNeg)), (0, .ref (a 0)), (1, .ref (b 0)), (2, .int x2), (3, .ref (gT G)), (4, .int (64 : Int32)), (5, .int x5_214)]) hx hb dX0_fewestToes_22 hl (by decide) rfl (fun ls hl => ?_)
        refine lv_aload_n hx hb dX0_fewestToes_24 rfl (lv_at hl 2 rfl) ?_
        refine lv_aload_n hx hb dX0_fewestToes_25 rfl (lv_at hl 1 rfl) ?_
        obtain ⟨q219, hq219, hf⟩ := bnd hf
        refine fc_callV (Wa' := (vW G a v ++ vW G b q219)) (st1 := []) (As := [.ref (a 0)]) (rest := []) hCF (k_X6_become b u_215 a v hq219) (cwV 1 hts gX0_fewestToes_X6_become rfl rfl rfl ⟨rfl, dk_X6_become⟩ ⟨Nat.le_of_ble_eq_true rfl, Nat.le_of_ble_eq_true rfl⟩) hE hAB hP hD hS [8, 9, 10, 11, 12, 13, 14, 15, 0, 1, 2, 3, 4, 5, 6, 7] rfl rfl (va_recv hE.1 hP (ci := 3) (q0 := 8) rfl rfl) rfl rfl rfl rfl hl.1 rfl (Nat.le_of_ble_eq_true rfl) dX0_fewestToes_26 ⟨Nat.le_refl _, Nat.le_refl _⟩ (fun H locs hP hD hS => ?_)
        refine lv_aload_n hx hb dX0_fewestToes_29 rfl (lv_at hl 2 rfl) ?_
        refine lv_iload_n hx hb dX0_fewestToes_30 rfl (lv_at hl 3 rfl) ?_
        refine lv_iload hx hb dX0_fewestToes_31 (lv_at hl 0 rfl) ?_
        obtain ⟨q220, hq220, hf⟩ := bnd hf
        refine fc_callV (Wa' := (vW G a v ++ vW G b q220)) (st1 := []) (As := [.int x2, .int (ffT x5_214.toNatClampNeg)]) (rest := []) hCF (k_X6_changeToes b q219 x2 (ffT x5_214.toNatClampNeg) hq220) (cwV 2 hts gX0_fewestToes_X6_changeToes rfl rfl rfl ⟨rfl, dk_X6_changeToes⟩ ⟨Nat.le_of_ble_eq_true rfl, Nat.le_of_ble_eq_true rfl⟩) hE hAB hP hD hS [8, 9, 10, 11, 12, 13, 14, 15] rfl rfl (va_recv hE.1 hP (ci := 3) (q0 := 8) rfl rfl) rfl rfl rfl rfl hl.1 rfl (Nat.le_of_ble_eq_true rfl) dX0_fewestToes_33 ⟨Nat.le_refl _, Nat.le_refl _⟩ (fun H locs hP hD hS => ?_)
        refine lv_aload_n hx hb dX0_fewestToes_36 rfl (lv_at hl 2 rfl) ?_
        obtain ⟨q221, hq221, hf⟩ := bnd hf
        refine fc_callV (Wa' := (vW G a v ++ vW G b q220)) (st1 := [.int q221]) (As := []) (rest := []) hCF (k_X6_knownBits b q220 hq221) (cwV 0 hts gX0_fewestToes_X6_knownBits rfl rfl rfl ⟨rfl, dk_X6_knownBits⟩ ⟨Nat.le_of_ble_eq_true rfl, Nat.le_of_ble_eq_true rfl⟩) hE hAB hP hD hS [8, 9, 10, 11, 12, 13, 14, 15] rfl rfl (va_recv hE.1 hP (ci := 3) (q0 := 8) rfl rfl) rfl rfl rfl rfl hl.1 rfl (Nat.le_of_ble_eq_true rfl) dX0_fewestToes_37 ⟨Nat.le_refl _, Nat.le_refl _⟩ (fun H locs hP hD hS => ?_)
        refine lv_iload_n hx hb dX0_fewestToes_40 rfl (lv_at hl 3 rfl) ?_
        obtain ⟨q222, hq222, hf⟩ := bnd hf
        refine fc_callN (Wa' := (vW G a v ++ vW G b q220)) (st1 := [.int q222]) (As := [.int q221, .int x2]) (rest := []) hCF (k_X7_has q221 x2 hq222) ⟨va_cnB 2 hts gX0_fewestToes_X7_has_n27 rfl rfl rfl (hE.2.1 _ (List.mem_of_getElem? (i := 12) rfl)) hk_initialized_RX7 dk_X7_has ⟨Nat.le_of_ble_eq_true rfl, Nat.le_of_ble_eq_true rfl⟩, hk_static_yX7_has, trivial⟩ hE hAB hP hD hS [] rfl rfl rfl rfl rfl rfl hl.1 rfl (Nat.le_of_ble_eq_true rfl) dX0_fewestToes_41 ⟨Nat.le_refl _, Nat.le_refl _⟩ (fun H locs hP hD hS => ?_)
        refine lv_if_ne (tgt := 50) hx hb dX0_fewestToes_44 (by decide) (fun c223 => ?_) (fun c223 => ?_)
        · have hf := ifF hf c223
          refine lv_iinc (v := (x5_214 + (1 : Int32))) (lv' := [(5, .int (x5_214 + (1 : Int32))), (6, .int (ffT x5_214.toNatClampNeg)), (0, .ref (a 0)), (1, .ref (b 0)), (2, .int x2), (3, .ref (gT G)), (4, .int (64 : Int32))]) hx hb dX0_fewestToes_50 hl (k := 6) rfl rfl (by decide) rfl (fun ls hl => ?_)
          refine lv_goto (tgt := 11) hx hb dX0_fewestToes_53 (by decide) ?_
          exact ih (x5_214 + (1 : Int32)) q220 _ _ _ hP hD hS (lv_sub hl [2, 3, 4, 5, 6, 0] rfl) hf
        · have hf := ifT hf c223
          refine lv_iload hx hb dX0_fewestToes_47 (lv_at hl 0 rfl) ?_
          exact fc_reti hx hb hr hlocks hP hS dX0_fewestToes_49 (i2a hf) (congrArg (fun z => (vW G a v ++ vW G b z)) (i2b hf))
  exact L11_216 FUEL (0 : Int32) u _ _ _ hP hD hS (lv_sub hl [3, 4, 5, 2, 1, 0] rfl) hf
theorem dk_X0_firstRest : yX0_firstRest.cls ≠ "java/lang/invoke/MethodHandle" ∧ yX0_firstRest.cls ≠ "java/lang/invoke/VarHandle" ∧ (parseMethodDescriptor yX0_firstRest.desc).map (fun d => d.parameters.length) = some 4 := by decide +kernel
set_option maxHeartbeats 4000000 in
set_option maxRecDepth 100000 in
theorem k_X0_firstRest {l : Launch} {G : Gx} (a : Nat → Nat) (v : St) (b : Nat → Nat) (u : St) (x2 : Int32) (x3 : Int32) {r : Int32} {u' : St} (hf : f_X0_firstRest v u x2 x3 = some (r, u')) : FC l G yX0_firstRest wsX0_firstRest ({ frames := 5, cells := 0, slots := 0, locals := 123 } : Room) [.ref (a 0), .ref (b 0), .int x2, .int x3] (vW G a v ++ vW G b u) (vW G a v ++ vW G b u') (some (.int r)) := by
  refine fc_head (cc := cX0_firstRest) (maxL := 10) (ret := (some .int)) (C := RX0) (lv := [(0, .ref (a 0)), (1, .ref (b 0)), (2, .int x2), (3, .int x3)]) (by decide) rfl rfl (Nat.le_of_ble_eq_true rfl) rfl ?_
  intro p e s m below meth c ls A hx hb hr hml hown hts hlocks hE hP hD hAB hS hl
  have hCF : CallFix p m c cX0_firstRest 10 s ([.ref (a 0), .ref (b 0), .int x2, .int x3] : List Value).toArray wsX0_firstRest RX0 := ⟨hx, hb, hml, hown, hts⟩
  rw [f_X0_firstRest] at hf
  refine lv_iconst (v := (0 : Int32)) hx hb dX0_firstRest_0 (by decide) ?_
  refine lv_istore (lv' := [(4, .int (0 : Int32)), (0, .ref (a 0)), (1, .ref (b 0)), (2, .int x2), (3, .int x3)]) hx hb dX0_firstRest_1 hl (by decide) rfl (fun ls hl => ?_)
  have L3_238 : ∀ (n : Nat) (x4_236 : Int32) (u_237 : St) (H : Heap) (locs : List Loc) (ls : Array Slot), va_P (gD G) vwCl (vW G a v ++ vW G b u_237) H → va_D A (vW G a v ++ vW G b u_237) → va_S A s.heap H locs → lv_has ls 10 [(0, .ref (a 0)), (1, .ref (b 0)), (2, .int x2), (3, .int x3), (4, .int x4_236)] → f_X0_firstRest_3 v x2 x3 n x4_236 u_237 = some (r, u') → W p l e (headSpec wsX0_firstRest ({ frames := 5, cells := 0, slots := 0, locals := 123 } : Room)).room s m ([.ref (a 0), .ref (b 0), .int x2, .int x3] : List Value).toArray below meth c H locs 0 0 (MQ below (FQ G A (vW G a v ++ vW G b u') (some (.int r))) ([.ref (a 0), .ref (b 0), .int x2, .int x3] : List Value).toArray s 0 0 A) (F0 m 3 ls []) := by
    intro n
    induction n with
    | zero =>
      intro x4_236 u_237 H locs ls hP hD hS hl hf
      exact no_some hf
    | succ n ih =>
      intro x4_236 u_237 H locs ls hP hD hS hl hf
      rw [f_X0_firstRest_3] at hf
      refine lv_iload hx hb dX0_firstRest_3 (lv_at hl 4 rfl) ?_
      refine lv_iconst (v := (1 : Int32)) hx hb dX0_firstRest_5 (by decide) ?_
      refine lv_icmp_gt (tgt := 134) hx hb dX0_firstRest_6 (by decide) (fun c239 => ?_) (fun c239 => ?_)
      · have hf := ifT hf c239
        refine lv_bipush (v := (-9 : Int32)) hx hb dX0_firstRest_134 (by decide) ?_
        exact fc_reti hx hb hr hlocks hP hS dX0_firstRest_136 (i2a hf) (congrArg (fun z => (vW G a v ++ vW G b z)) (i2b hf))
      · have hf := ifF hf c239
        refine lv_iconst (v := (0 : Int32)) hx hb dX0_firstRest_9 (by decide) ?_
        refine lv_istore (lv' := [(5, .int (0 : Int32)), (0, .ref (a 0)), (1, .ref (b 0)), (2, .int x2), (3, .int x3), (4, .int x4_236)]) hx hb dX0_firstRest_10 hl (by decide) rfl (fun ls hl => ?_)
        have L12_242 : ∀ (K12_128 : St → Option (Int32 × St)) (hK12_128 : ∀ (u_243 : St) (H : Heap) (locs : List Loc) (ls : Array Slot), va_P (gD G) vwCl (vW G a v ++ vW G b u_243) H → va_D A (vW G a v ++ vW G b u_243) → va_S A s.heap H locs → lv_has ls 10 [(0, .ref (a 0)), (1, .ref (b 0)), (2, .int x2), (3, .int x3), (4, .int x4_236)] → K12_128 u_243 = some (r, u') → W p l e (headSpec wsX0_firstRest ({ frames := 5, cells := 0, slots := 0, locals := 123 } : Room)).room s m ([.ref (a 0), .ref (b 0), .int x2, .int x3] : List Value).toArray below meth c H locs 0 0 (MQ below (FQ G A (vW G a v ++ vW G b u') (some (.int r))) ([.ref (a 0), .ref (b 0), .int x2, .int x3] : List Value).toArray s 0 0 A) (F0 m 128 ls [])) (n : Nat) (x5_240 : Int32) (u_241 : St) (H : Heap) (locs : List Loc) (ls : Array Slot), va_P (gD G) vwCl (vW G a v ++ vW G b u_241) H → va_D A (vW G a v ++ vW G b u_241) → va_S A s.heap H locs → lv_has ls 10 [(0, .ref (a 0)), (1, .ref (b 0)), (2, .int x2), (3, .int x3), (4, .int x4_236), (5, .int x5_240)] → f_X0_firstRest_12 v x2 x3 x4_236 n x5_240 u_241 K12_128 = some (r, u') → W p l e (headSpec wsX0_firstRest ({ frames := 5, cells := 0, slots := 0, locals := 123 } : Room)).room s m ([.ref (a 0), .ref (b 0), .int x2, .int x3] : List Value).toArray below meth c H locs 0 0 (MQ below (FQ G A (vW G a v ++ vW G b u') (some (.int r))) ([.ref (a 0), .ref (b 0), .int x2, .int x3] : List Value).toArray s 0 0 A) (F0 m 12 ls []) := by
          intro K12_128 hK12_128 n
          induction n with
          | zero =>
            intro x5_240 u_241 H locs ls hP hD hS hl hf
            exact no_some hf
          | succ n ih =>
            intro x5_240 u_241 H locs ls hP hD hS hl hf
            rw [f_X0_firstRest_12] at hf
            refine lv_iload hx hb dX0_firstRest_12 (lv_at hl 5 rfl) ?_
            refine lv_iconst (v := (1 : Int32)) hx hb dX0_firstRest_14 (by decide) ?_
            refine lv_icmp_gt (tgt := 128) hx hb dX0_firstRest_15 (by decide) (fun c244 => ?_) (fun c244 => ?_)
            · have hf := ifT hf c244
              exact hK12_128 u_241 _ _ _ hP hD hS (lv_sub hl [0, 1, 2, 3, 4] rfl) hf
            · have hf := ifF hf c244
              refine lv_aload_n hx hb dX0_firstRest_18 rfl (lv_at hl 0 rfl) ?_
              refine lv_aload_n hx hb dX0_firstRest_19 rfl (lv_at hl 1 rfl) ?_
              refine lv_iload_n hx hb dX0_firstRest_20 rfl (lv_at hl 2 rfl) ?_
              refine lv_iload hx hb dX0_firstRest_21 (lv_at hl 4 rfl) ?_
              refine lv_iload_n hx hb dX0_firstRest_23 rfl (lv_at hl 3 rfl) ?_
              refine lv_iload hx hb dX0_firstRest_24 (lv_at hl 5 rfl) ?_
              obtain ⟨q245, hq245, hf⟩ := bnd hf
              refine fc_callS (Wa' := (vW G a v ++ vW G b q245)) (st1 := []) (As := [.ref (a 0), .ref (b 0), .int x2, .int x4_236, .int x3, .int x5_240]) (rest := []) hCF (k_X0_change a v b u_241 x2 x4_236 x3 x5_240 hq245) (va_cwS 6 hts gX0_firstRest_X0_change rfl rfl rfl dk_X0_change ⟨Nat.le_of_ble_eq_true rfl, Nat.le_of_ble_eq_true rfl⟩) hE hAB hP hD hS [0, 1, 2, 3, 4, 5, 6, 7, 8, 9, 10, 11, 12, 13, 14, 15] rfl rfl rfl rfl rfl rfl hl.1 rfl (Nat.le_of_ble_eq_true rfl) dX0_firstRest_26 ⟨Nat.le_refl _, Nat.le_refl _⟩ (fun H locs hP hD hS => ?_)
              refine lv_aload_n hx hb dX0_firstRest_29 rfl (lv_at hl 1 rfl) ?_
              refine lv_iload_n hx hb dX0_firstRest_30 rfl (lv_at hl 2 rfl) ?_
              obtain ⟨q246, hq246, hf⟩ := bnd hf
              refine fc_callS (Wa' := (vW G a v ++ vW G b q245)) (st1 := [.int q246]) (As := [.ref (b 0), .int x2]) (rest := []) hCF (k_X0_costOf b q245 x2 hq246) (va_cwS 2 hts gX0_firstRest_X0_costOf rfl rfl rfl dk_X0_costOf ⟨Nat.le_of_ble_eq_true rfl, Nat.le_of_ble_eq_true rfl⟩) hE hAB hP hD hS [8, 9, 10, 11, 12, 13, 14, 15] rfl rfl rfl rfl rfl rfl hl.1 rfl (Nat.le_of_ble_eq_true rfl) dX0_firstRest_31 ⟨Nat.le_refl _, Nat.le_refl _⟩ (fun H locs hP hD hS => ?_)
              refine lv_istore (lv' := [(6, .int q246), (0, .ref (a 0)), (1, .ref (b 0)), (2, .int x2), (3, .int x3), (4, .int x4_236), (5, .int x5_240)]) hx hb dX0_firstRest_34 hl (by decide) rfl (fun ls hl => ?_)
              refine lv_aload_n hx hb dX0_firstRest_36 rfl (lv_at hl 2 rfl) ?_
              refine lv_iload_n hx hb dX0_firstRest_37 rfl (lv_at hl 4 rfl) ?_
              obtain ⟨q247, hq247, hf⟩ := bnd hf
              refine fc_callS (Wa' := (vW G a v ++ vW G b q245)) (st1 := [.int q247]) (As := [.ref (b 0), .int x3]) (rest := []) hCF (k_X0_costOf b q245 x3 hq247) (va_cwS 2 hts gX0_firstRest_X0_costOf rfl rfl rfl dk_X0_costOf ⟨Nat.le_of_ble_eq_true rfl, Nat.le_of_ble_eq_true rfl⟩) hE hAB hP hD hS [8, 9, 10, 11, 12, 13, 14, 15] rfl rfl rfl rfl rfl rfl hl.1 rfl (Nat.le_of_ble_eq_true rfl) dX0_firstRest_38 ⟨Nat.le_refl _, Nat.le_refl _⟩ (fun H locs hP hD hS => ?_)
              refine lv_istore (lv' := [(7, .int q247), (6, .int q246), (0, .ref (a 0)), (1, .ref (b 0)), (2, .int x2), (3, .int x3), (4, .int x4_236), (5, .int x5_240)]) hx hb dX0_firstRest_41 hl (by decide) rfl (fun ls hl => ?_)
              refine lv_aload_n hx hb dX0_firstRest_43 rfl (lv_at hl 2 rfl) ?_
              refine lv_aload_n hx hb dX0_firstRest_44 rfl (lv_at hl 3 rfl) ?_
              refine lv_iload_n hx hb dX0_firstRest_45 rfl (lv_at hl 4 rfl) ?_
              refine lv_iconst (v := (1 : Int32)) hx hb dX0_firstRest_46 (by decide) ?_
              refine lv_iload hx hb dX0_firstRest_47 (lv_at hl 6 rfl) ?_
              refine lv_isub hx hb dX0_firstRest_49 ?_
              refine lv_iload_n hx hb dX0_firstRest_50 rfl (lv_at hl 5 rfl) ?_
              refine lv_iload hx hb dX0_firstRest_51 (lv_at hl 7 rfl) ?_
              obtain ⟨q248, hq248, hf⟩ := bnd hf
              refine fc_callS (Wa' := (vW G a v ++ vW G b q248)) (st1 := []) (As := [.ref (a 0), .ref (b 0), .int x2, .int ((1 : Int32) - x4_236), .int x3, .int x5_240]) (rest := []) hCF (k_X0_change a v b q245 x2 ((1 : Int32) - x4_236) x3 x5_240 hq248) (va_cwS 6 hts gX0_firstRest_X0_change rfl rfl rfl dk_X0_change ⟨Nat.le_of_ble_eq_true rfl, Nat.le_of_ble_eq_true rfl⟩) hE hAB hP hD hS [0, 1, 2, 3, 4, 5, 6, 7, 8, 9, 10, 11, 12, 13, 14, 15] rfl rfl rfl rfl rfl rfl hl.1 rfl (Nat.le_of_ble_eq_true rfl) dX0_firstRest_53 ⟨Nat.le_refl _, Nat.le_refl _⟩ (fun H locs hP hD hS => ?_)
              refine lv_iload hx hb dX0_firstRest_56 (lv_at hl 1 rfl) ?_
              refine lv_aload_n hx hb dX0_firstRest_58 rfl (lv_at hl 3 rfl) ?_
              refine lv_iload_n hx hb dX0_firstRest_59 rfl (lv_at hl 4 rfl) ?_
              obtain ⟨q249, hq249, hf⟩ := bnd hf
              refine fc_callS (Wa' := (vW G a v ++ vW G b q248)) (st1 := [.int q249, .int q246]) (As := [.ref (b 0), .int x2]) (rest := [.int q246]) hCF (k_X0_costOf b q248 x2 hq249) (va_cwS 2 hts gX0_firstRest_X0_costOf rfl rfl rfl dk_X0_costOf ⟨Nat.le_of_ble_eq_true rfl, Nat.le_of_ble_eq_true rfl⟩) hE hAB hP hD hS [8, 9, 10, 11, 12, 13, 14, 15] rfl rfl rfl rfl rfl rfl hl.1 rfl (Nat.le_of_ble_eq_true rfl) dX0_firstRest_60 ⟨Nat.le_refl _, Nat.le_refl _⟩ (fun H locs hP hD hS => ?_)
              have J71_251 : ∀ (s0_250 : Int32) (H : Heap) (locs : List Loc) (ls : Array Slot), va_P (gD G) vwCl (vW G a v ++ vW G b q248) H → va_D A (vW G a v ++ vW G b q248) → va_S A s.heap H locs → lv_has ls 10 [(0, .ref (a 0)), (1, .ref (b 0)), (2, .int x2), (3, .int x3), (4, .int x4_236), (5, .int x5_240), (7, .int q247)] → f_X0_firstRest_71 v q248 x2 x3 x4_236 x5_240 q247 s0_250 (fun (x5_252 : Int32) (u_253 : St) => f_X0_firstRest_12 v x2 x3 x4_236 n x5_252 u_253 K12_128) = some (r, u') → W p l e (headSpec wsX0_firstRest ({ frames := 5, cells := 0, slots := 0, locals := 123 } : Room)).room s m ([.ref (a 0), .ref (b 0), .int x2, .int x3] : List Value).toArray below meth c H locs 0 0 (MQ below (FQ G A (vW G a v ++ vW G b u') (some (.int r))) ([.ref (a 0), .ref (b 0), .int x2, .int x3] : List Value).toArray s 0 0 A) (F0 m 71 ls [.int s0_250]) := by
                intro s0_250 H locs ls hP hD hS hl hf
                rw [f_X0_firstRest_71] at hf
                refine lv_istore (lv' := [(8, .int s0_250), (0, .ref (a 0)), (1, .ref (b 0)), (2, .int x2), (3, .int x3), (4, .int x4_236), (5, .int x5_240), (7, .int q247)]) hx hb dX0_firstRest_71 hl (by decide) rfl (fun ls hl => ?_)
                refine lv_aload_n hx hb dX0_firstRest_73 rfl (lv_at hl 1 rfl) ?_
                refine lv_aload_n hx hb dX0_firstRest_74 rfl (lv_at hl 2 rfl) ?_
                refine lv_iload_n hx hb dX0_firstRest_75 rfl (lv_at hl 3 rfl) ?_
                refine lv_iload hx hb dX0_firstRest_76 (lv_at hl 5 rfl) ?_
                refine lv_iload_n hx hb dX0_firstRest_78 rfl (lv_at hl 4 rfl) ?_
                refine lv_iconst (v := (1 : Int32)) hx hb dX0_firstRest_79 (by decide) ?_
                refine lv_iload hx hb dX0_firstRest_80 (lv_at hl 6 rfl) ?_
                refine lv_isub hx hb dX0_firstRest_82 ?_
                obtain ⟨q254, hq254, hf⟩ := bnd hf
                refine fc_callS (Wa' := (vW G a v ++ vW G b q254)) (st1 := []) (As := [.ref (a 0), .ref (b 0), .int x2, .int x4_236, .int x3, .int ((1 : Int32) - x5_240)]) (rest := []) hCF (k_X0_change a v b q248 x2 x4_236 x3 ((1 : Int32) - x5_240) hq254) (va_cwS 6 hts gX0_firstRest_X0_change rfl rfl rfl dk_X0_change ⟨Nat.le_of_ble_eq_true rfl, Nat.le_of_ble_eq_true rfl⟩) hE hAB hP hD hS [0, 1, 2, 3, 4, 5, 6, 7, 8, 9, 10, 11, 12, 13, 14, 15] rfl rfl rfl rfl rfl rfl hl.1 rfl (Nat.le_of_ble_eq_true rfl) dX0_firstRest_83 ⟨Nat.le_refl _, Nat.le_refl _⟩ (fun H locs hP hD hS => ?_)
                refine lv_iload hx hb dX0_firstRest_86 (lv_at hl 7 rfl) ?_
                refine lv_aload_n hx hb dX0_firstRest_88 rfl (lv_at hl 2 rfl) ?_
                refine lv_iload_n hx hb dX0_firstRest_89 rfl (lv_at hl 4 rfl) ?_
                obtain ⟨q255, hq255, hf⟩ := bnd hf
                refine fc_callS (Wa' := (vW G a v ++ vW G b q254)) (st1 := [.int q255, .int q247]) (As := [.ref (b 0), .int x3]) (rest := [.int q247]) hCF (k_X0_costOf b q254 x3 hq255) (va_cwS 2 hts gX0_firstRest_X0_costOf rfl rfl rfl dk_X0_costOf ⟨Nat.le_of_ble_eq_true rfl, Nat.le_of_ble_eq_true rfl⟩) hE hAB hP hD hS [8, 9, 10, 11, 12, 13, 14, 15] rfl rfl rfl rfl rfl rfl hl.1 rfl (Nat.le_of_ble_eq_true rfl) dX0_firstRest_90 ⟨Nat.le_refl _, Nat.le_refl _⟩ (fun H locs hP hD hS => ?_)
                have J101_257 : ∀ (s0_256 : Int32) (H : Heap) (locs : List Loc) (ls : Array Slot), va_P (gD G) vwCl (vW G a v ++ vW G b q254) H → va_D A (vW G a v ++ vW G b q254) → va_S A s.heap H locs → lv_has ls 10 [(0, .ref (a 0)), (1, .ref (b 0)), (2, .int x2), (3, .int x3), (4, .int x4_236), (5, .int x5_240), (8, .int s0_250)] → f_X0_firstRest_101 q254 x4_236 x5_240 s0_250 s0_256 (fun (x5_258 : Int32) (u_259 : St) => f_X0_firstRest_12 v x2 x3 x4_236 n x5_258 u_259 K12_128) = some (r, u') → W p l e (headSpec wsX0_firstRest ({ frames := 5, cells := 0, slots := 0, locals := 123 } : Room)).room s m ([.ref (a 0), .ref (b 0), .int x2, .int x3] : List Value).toArray below meth c H locs 0 0 (MQ below (FQ G A (vW G a v ++ vW G b u') (some (.int r))) ([.ref (a 0), .ref (b 0), .int x2, .int x3] : List Value).toArray s 0 0 A) (F0 m 101 ls [.int s0_256]) := by
                  intro s0_256 H locs ls hP hD hS hl hf
                  rw [f_X0_firstRest_101] at hf
                  refine lv_istore (lv' := [(9, .int s0_256), (0, .ref (a 0)), (1, .ref (b 0)), (2, .int x2), (3, .int x3), (4, .int x4_236), (5, .int x5_240), (8, .int s0_250)]) hx hb dX0_firstRest_101 hl (by decide) rfl (fun ls hl => ?_)
                  refine lv_iload hx hb dX0_firstRest_103 (lv_at hl 7 rfl) ?_
                  refine lv_if_eq (tgt := 122) hx hb dX0_firstRest_105 (by decide) (fun c260 => ?_) (fun c260 => ?_)
                  · have hf := ifT hf c260
                    refine lv_iinc (v := (x5_240 + (1 : Int32))) (lv' := [(5, .int (x5_240 + (1 : Int32))), (9, .int s0_256), (0, .ref (a 0)), (1, .ref (b 0)), (2, .int x2), (3, .int x3), (4, .int x4_236), (8, .int s0_250)]) hx hb dX0_firstRest_122 hl (k := 6) rfl rfl (by decide) rfl (fun ls hl => ?_)
                    refine lv_goto (tgt := 12) hx hb dX0_firstRest_125 (by decide) ?_
                    exact ih (x5_240 + (1 : Int32)) q254 _ _ _ hP hD hS (lv_sub hl [2, 3, 4, 5, 6, 0] rfl) hf
                  · have hf := ifF hf c260
                    refine lv_iload hx hb dX0_firstRest_108 (lv_at hl 0 rfl) ?_
                    refine lv_if_eq (tgt := 122) hx hb dX0_firstRest_110 (by decide) (fun c261 => ?_) (fun c261 => ?_)
                    · have hf := ifT hf c261
                      refine lv_iinc (v := (x5_240 + (1 : Int32))) (lv' := [(5, .int (x5_240 + (1 : Int32))), (9, .int s0_256), (0, .ref (a 0)), (1, .ref (b 0)), (2, .int x2), (3, .int x3), (4, .int x4_236), (8, .int s0_250)]) hx hb dX0_firstRest_122 hl (k := 6) rfl rfl (by decide) rfl (fun ls hl => ?_)
                      refine lv_goto (tgt := 12) hx hb dX0_firstRest_125 (by decide) ?_
                      exact ih (x5_240 + (1 : Int32)) q254 _ _ _ hP hD hS (lv_sub hl [2, 3, 4, 5, 6, 0] rfl) hf
                    · have hf := ifF hf c261
                      refine lv_bipush (v := (10 : Int32)) hx hb dX0_firstRest_113 (by decide) ?_
                      refine lv_iload hx hb dX0_firstRest_115 (lv_at hl 5 rfl) ?_
                      refine lv_imul hx hb dX0_firstRest_117 ?_
                      refine lv_iload hx hb dX0_firstRest_118 (lv_at hl 6 rfl) ?_
                      refine lv_iadd hx hb dX0_firstRest_120 ?_
                      exact fc_reti hx hb hr hlocks hP hS dX0_firstRest_121 (i2a hf) (congrArg (fun z => (vW G a v ++ vW G b z)) (i2b hf))
                refine lv_icmp_gt (tgt := 100) hx hb dX0_firstRest_93 (by decide) (fun c262 => ?_) (fun c262 => ?_)
                · have hf := ifT hf c262
                  refine lv_iconst (v := (0 : Int32)) hx hb dX0_firstRest_100 (by decide) ?_
                  exact J101_257 (0 : Int32) _ _ _ hP hD hS (lv_sub hl [1, 2, 3, 4, 5, 6, 0] rfl) hf
                · have hf := ifF hf c262
                  refine lv_iconst (v := (1 : Int32)) hx hb dX0_firstRest_96 (by decide) ?_
                  refine lv_goto (tgt := 101) hx hb dX0_firstRest_97 (by decide) ?_
                  exact J101_257 (1 : Int32) _ _ _ hP hD hS (lv_sub hl [1, 2, 3, 4, 5, 6, 0] rfl) hf
              refine lv_icmp_gt (tgt := 70) hx hb dX0_firstRest_63 (by decide) (fun c263 => ?_) (fun c263 => ?_)
              · have hf := ifT hf c263
                refine lv_iconst (v := (0 : Int32)) hx hb dX0_firstRest_70 (by decide) ?_
                exact J71_251 (0 : Int32) _ _ _ hP hD hS (lv_sub hl [2, 3, 4, 5, 6, 7, 0] rfl) hf
              · have hf := ifF hf c263
                refine lv_iconst (v := (1 : Int32)) hx hb dX0_firstRest_66 (by decide) ?_
                refine lv_goto (tgt := 71) hx hb dX0_firstRest_67 (by decide) ?_
                exact J71_251 (1 : Int32) _ _ _ hP hD hS (lv_sub hl [2, 3, 4, 5, 6, 7, 0] rfl) hf
        refine L12_242 _ ?_ FUEL (0 : Int32) u_237 _ _ _ hP hD hS (lv_sub hl [1, 2, 3, 4, 5, 0] rfl) hf
        intro u_264 H locs ls hP hD hS hl hf
        refine lv_iinc (v := (x4_236 + (1 : Int32))) (lv' := [(4, .int (x4_236 + (1 : Int32))), (0, .ref (a 0)), (1, .ref (b 0)), (2, .int x2), (3, .int x3)]) hx hb dX0_firstRest_128 hl (k := 4) rfl rfl (by decide) rfl (fun ls hl => ?_)
        refine lv_goto (tgt := 3) hx hb dX0_firstRest_131 (by decide) ?_
        exact ih (x4_236 + (1 : Int32)) u_264 _ _ _ hP hD hS (lv_sub hl [1, 2, 3, 4, 0] rfl) hf
  exact L3_238 FUEL (0 : Int32) u _ _ _ hP hD hS (lv_sub hl [1, 2, 3, 4, 0] rfl) hf
theorem dk_X1_areAlike : yX1_areAlike.cls ≠ "java/lang/invoke/MethodHandle" ∧ yX1_areAlike.cls ≠ "java/lang/invoke/VarHandle" ∧ (parseMethodDescriptor yX1_areAlike.desc).map (fun d => d.parameters.length) = some 4 := by decide +kernel
set_option maxHeartbeats 4000000 in
set_option maxRecDepth 100000 in
theorem k_X1_areAlike {l : Launch} {G : Gx} (a : Nat → Nat) (v : St) (x1 : Int32) (x2 : Int32) (x3 : Int32) {r : Int32} (hf : f_X1_areAlike v x1 x2 x3 = some r) : FC l G yX1_areAlike wsX1_areAlike ({ frames := 3, cells := 0, slots := 0, locals := 71 } : Room) [.ref (a 0), .int x1, .int x2, .int x3] (vW G a v) (vW G a v) (some (.int r)) := by
  refine fc_head (cc := cX1_areAlike) (maxL := 4) (ret := (some .boolean)) (C := RX1) (lv := [(0, .ref (a 0)), (1, .int x1), (2, .int x2), (3, .int x3)]) (by decide) rfl rfl (Nat.le_of_ble_eq_true rfl) rfl ?_
  intro p e s m below meth c ls A hx hb hr hml hown hts hlocks hE hP hD hAB hS hl
  have hCF : CallFix p m c cX1_areAlike 4 s ([.ref (a 0), .int x1, .int x2, .int x3] : List Value).toArray wsX1_areAlike RX1 := ⟨hx, hb, hml, hown, hts⟩
  rw [f_X1_areAlike] at hf
  refine lv_aload_n hx hb dX1_areAlike_0 rfl (lv_at hl 0 rfl) ?_
  refine lv_iload_n hx hb dX1_areAlike_1 rfl (lv_at hl 1 rfl) ?_
  obtain ⟨q275, hq275, hf⟩ := bnd hf
  refine fc_callV (Wa' := (vW G a v)) (st1 := [.int q275]) (As := [.int x1]) (rest := []) hCF (k_X6_isHere a v x1 hq275) (cwV 1 hts gX1_areAlike_X6_isHere rfl rfl rfl ⟨rfl, dk_X6_isHere⟩ ⟨Nat.le_of_ble_eq_true rfl, Nat.le_of_ble_eq_true rfl⟩) hE hAB hP hD hS [0, 1, 2, 3, 4, 5, 6, 7] rfl rfl (va_recv hE.1 hP (ci := 3) (q0 := 0) rfl rfl) rfl rfl rfl rfl hl.1 rfl (Nat.le_of_ble_eq_true rfl) dX1_areAlike_2 ⟨Nat.le_refl _, Nat.le_refl _⟩ (fun H locs hP hD hS => ?_)
  refine lv_if_eq (tgt := 39) hx hb dX1_areAlike_5 (by decide) (fun c276 => ?_) (fun c276 => ?_)
  · have hf := ifT hf c276
    refine lv_iconst (v := (0 : Int32)) hx hb dX1_areAlike_39 (by decide) ?_
    exact fc_retz hx hb hr hlocks hP hS dX1_areAlike_40 (by decide) (i1 hf) rfl
  · have hf := ifF hf c276
    refine lv_aload_n hx hb dX1_areAlike_8 rfl (lv_at hl 0 rfl) ?_
    refine lv_iload_n hx hb dX1_areAlike_9 rfl (lv_at hl 2 rfl) ?_
    obtain ⟨q277, hq277, hf⟩ := bnd hf
    refine fc_callV (Wa' := (vW G a v)) (st1 := [.int q277]) (As := [.int x2]) (rest := []) hCF (k_X6_isHere a v x2 hq277) (cwV 1 hts gX1_areAlike_X6_isHere rfl rfl rfl ⟨rfl, dk_X6_isHere⟩ ⟨Nat.le_of_ble_eq_true rfl, Nat.le_of_ble_eq_true rfl⟩) hE hAB hP hD hS [0, 1, 2, 3, 4, 5, 6, 7] rfl rfl (va_recv hE.1 hP (ci := 3) (q0 := 0) rfl rfl) rfl rfl rfl rfl hl.1 rfl (Nat.le_of_ble_eq_true rfl) dX1_areAlike_10 ⟨Nat.le_refl _, Nat.le_refl _⟩ (fun H locs hP hD hS => ?_)
    refine lv_if_eq (tgt := 39) hx hb dX1_areAlike_13 (by decide) (fun c278 => ?_) (fun c278 => ?_)
    · have hf := ifT hf c278
      refine lv_iconst (v := (0 : Int32)) hx hb dX1_areAlike_39 (by decide) ?_
      exact fc_retz hx hb hr hlocks hP hS dX1_areAlike_40 (by decide) (i1 hf) rfl
    · have hf := ifF hf c278
      refine lv_aload_n hx hb dX1_areAlike_16 rfl (lv_at hl 0 rfl) ?_
      refine lv_iload_n hx hb dX1_areAlike_17 rfl (lv_at hl 1 rfl) ?_
      refine lv_iconst (v := (0 : Int32)) hx hb dX1_areAlike_18 (by decide) ?_
      obtain ⟨q279, hq279, hf⟩ := bnd hf
      refine fc_callV (Wa' := (vW G a v)) (st1 := [.int q279]) (As := [.int x1, .int (0 : Int32)]) (rest := []) hCF (k_X6_shows a v x1 (0 : Int32) hq279) (cwV 2 hts gX1_areAlike_X6_shows rfl rfl rfl ⟨rfl, dk_X6_shows⟩ ⟨Nat.le_of_ble_eq_true rfl, Nat.le_of_ble_eq_true rfl⟩) hE hAB hP hD hS [0, 1, 2, 3, 4, 5, 6, 7] rfl rfl (va_recv hE.1 hP (ci := 3) (q0 := 0) rfl rfl) rfl rfl rfl rfl hl.1 rfl (Nat.le_of_ble_eq_true rfl) dX1_areAlike_19 ⟨Nat.le_refl _, Nat.le_refl _⟩ (fun H locs hP hD hS => ?_)
      refine lv_iload_n hx hb dX1_areAlike_22 rfl (lv_at hl 3 rfl) ?_
      refine lv_iand hx hb dX1_areAlike_23 ?_
      refine lv_aload_n hx hb dX1_areAlike_24 rfl (lv_at hl 0 rfl) ?_
      refine lv_iload_n hx hb dX1_areAlike_25 rfl (lv_at hl 2 rfl) ?_
      refine lv_iconst (v := (0 : Int32)) hx hb dX1_areAlike_26 (by decide) ?_
      obtain ⟨q280, hq280, hf⟩ := bnd hf
      refine fc_callV (Wa' := (vW G a v)) (st1 := [.int q280, .int (q279 &&& x3)]) (As := [.int x2, .int (0 : Int32)]) (rest := [.int (q279 &&& x3)]) hCF (k_X6_shows a v x2 (0 : Int32) hq280) (cwV 2 hts gX1_areAlike_X6_shows rfl rfl rfl ⟨rfl, dk_X6_shows⟩ ⟨Nat.le_of_ble_eq_true rfl, Nat.le_of_ble_eq_true rfl⟩) hE hAB hP hD hS [0, 1, 2, 3, 4, 5, 6, 7] rfl rfl (va_recv hE.1 hP (ci := 3) (q0 := 0) rfl rfl) rfl rfl rfl rfl hl.1 rfl (Nat.le_of_ble_eq_true rfl) dX1_areAlike_27 ⟨Nat.le_refl _, Nat.le_refl _⟩ (fun H locs hP hD hS => ?_)
      refine lv_iload_n hx hb dX1_areAlike_30 rfl (lv_at hl 3 rfl) ?_
      refine lv_iand hx hb dX1_areAlike_31 ?_
      refine lv_icmp_ne (tgt := 39) hx hb dX1_areAlike_32 (by decide) (fun c281 => ?_) (fun c281 => ?_)
      · have hf := ifF hf c281
        refine lv_iconst (v := (0 : Int32)) hx hb dX1_areAlike_39 (by decide) ?_
        exact fc_retz hx hb hr hlocks hP hS dX1_areAlike_40 (by decide) (i1 hf) rfl
      · have hf := ifT hf c281
        refine lv_iconst (v := (1 : Int32)) hx hb dX1_areAlike_35 (by decide) ?_
        refine lv_goto (tgt := 40) hx hb dX1_areAlike_36 (by decide) ?_
        exact fc_retz hx hb hr hlocks hP hS dX1_areAlike_40 (by decide) (i1 hf) rfl
theorem dk_X1_firstTwoBy : yX1_firstTwoBy.cls ≠ "java/lang/invoke/MethodHandle" ∧ yX1_firstTwoBy.cls ≠ "java/lang/invoke/VarHandle" ∧ (parseMethodDescriptor yX1_firstTwoBy.desc).map (fun d => d.parameters.length) = some 2 := by decide +kernel
theorem iu_X1_firstTwoBy_X6 : ∀ w ∈ u_ws RX6 TX6 12, w ∈ wsX1_firstTwoBy := by decide +kernel
set_option maxHeartbeats 4000000 in
set_option maxRecDepth 100000 in
theorem k_X1_firstTwoBy {l : Launch} {G : Gx} (a : Nat → Nat) (v : St) (x1 : Int32) {r : Int32} (hf : f_X1_firstTwoBy v x1 = some r) : FC l G yX1_firstTwoBy wsX1_firstTwoBy ({ frames := 4, cells := 0, slots := 0, locals := 94 } : Room) [.ref (a 0), .int x1] (vW G a v) (vW G a v) (some (.int r)) := by
  refine fc_head (cc := cX1_firstTwoBy) (maxL := 4) (ret := (some .int)) (C := RX1) (lv := [(0, .ref (a 0)), (1, .int x1)]) (by decide) rfl rfl (Nat.le_of_ble_eq_true rfl) rfl ?_
  intro p e s m below meth c ls A hx hb hr hml hown hts hlocks hE hP hD hAB hS hl
  have hCF : CallFix p m c cX1_firstTwoBy 4 s ([.ref (a 0), .int x1] : List Value).toArray wsX1_firstTwoBy RX1 := ⟨hx, hb, hml, hown, hts⟩
  have hwX6 : ∀ w ∈ u_ws RX6 TX6 12, w.before ([.ref (a 0), .int x1] : List Value).toArray s = true := fun w h => hts w (iu_X1_firstTwoBy_X6 w h)
  have hk_fieldLink_RX1_19__BrideNotKnown_Valley___brideCount___I_ := hts (.fieldLink RX1 19 "BrideNotKnown$Valley" "brideCount" "I") (List.mem_of_getElem? (i := 1) rfl)
  rw [f_X1_firstTwoBy] at hf
  refine lv_iconst (v := (0 : Int32)) hx hb dX1_firstTwoBy_0 (by decide) ?_
  refine lv_istore_n (lv' := [(2, .int (0 : Int32)), (0, .ref (a 0)), (1, .int x1)]) hx hb dX1_firstTwoBy_1 rfl hl (by decide) rfl (fun ls hl => ?_)
  have L2_284 : ∀ (n : Nat) (x2_283 : Int32) (H : Heap) (locs : List Loc) (ls : Array Slot), va_P (gD G) vwCl (vW G a v) H → va_D A (vW G a v) → va_S A s.heap H locs → lv_has ls 4 [(0, .ref (a 0)), (1, .int x1), (2, .int x2_283)] → f_X1_firstTwoBy_2 v x1 n x2_283 = some r → W p l e (headSpec wsX1_firstTwoBy ({ frames := 4, cells := 0, slots := 0, locals := 94 } : Room)).room s m ([.ref (a 0), .int x1] : List Value).toArray below meth c H locs 0 0 (MQ below (FQ G A (vW G a v) (some (.int r))) ([.ref (a 0), .int x1] : List Value).toArray s 0 0 A) (F0 m 2 ls []) := by
    intro n
    induction n with
    | zero =>
      intro x2_283 H locs ls hP hD hS hl hf
      exact no_some hf
    | succ n ih =>
      intro x2_283 H locs ls hP hD hS hl hf
      rw [f_X1_firstTwoBy_2] at hf
      refine lv_iload_n hx hb dX1_firstTwoBy_2 rfl (lv_at hl 2 rfl) ?_
      refine lv_aload_n hx hb dX1_firstTwoBy_3 rfl (lv_at hl 0 rfl) ?_
      refine fc_get (v := .int (v 7 1)) (ci := 3) (C := RX6) (T := TX6) (N := 12) hx hb hwX6 hown hE hP 0 rfl rfl 1 (by decide) hk_fieldLink_RX1_19__BrideNotKnown_Valley___brideCount___I_ (fun _ h => h) rfl dX1_firstTwoBy_4 ?_
      refine lv_icmp_ge (tgt := 51) hx hb dX1_firstTwoBy_7 (by decide) (fun c285 => ?_) (fun c285 => ?_)
      · have hf := ifT hf c285
        refine lv_bipush (v := (-9 : Int32)) hx hb dX1_firstTwoBy_51 (by decide) ?_
        exact fc_reti hx hb hr hlocks hP hS dX1_firstTwoBy_53 (i1 hf) rfl
      · have hf := ifF hf c285
        refine lv_iload_n hx hb dX1_firstTwoBy_10 rfl (lv_at hl 2 rfl) ?_
        refine lv_iconst (v := (1 : Int32)) hx hb dX1_firstTwoBy_11 (by decide) ?_
        refine lv_iadd hx hb dX1_firstTwoBy_12 ?_
        refine lv_istore_n (lv' := [(3, .int (x2_283 + (1 : Int32))), (0, .ref (a 0)), (1, .int x1), (2, .int x2_283)]) hx hb dX1_firstTwoBy_13 rfl hl (by decide) rfl (fun ls hl => ?_)
        have L14_287 : ∀ (K14_45 : Unit → Option (Int32)) (hK14_45 : ∀ (H : Heap) (locs : List Loc) (ls : Array Slot), va_P (gD G) vwCl (vW G a v) H → va_D A (vW G a v) → va_S A s.heap H locs → lv_has ls 4 [(0, .ref (a 0)), (1, .int x1), (2, .int x2_283)] → K14_45 () = some r → W p l e (headSpec wsX1_firstTwoBy ({ frames := 4, cells := 0, slots := 0, locals := 94 } : Room)).room s m ([.ref (a 0), .int x1] : List Value).toArray below meth c H locs 0 0 (MQ below (FQ G A (vW G a v) (some (.int r))) ([.ref (a 0), .int x1] : List Value).toArray s 0 0 A) (F0 m 45 ls [])) (n : Nat) (x3_286 : Int32) (H : Heap) (locs : List Loc) (ls : Array Slot), va_P (gD G) vwCl (vW G a v) H → va_D A (vW G a v) → va_S A s.heap H locs → lv_has ls 4 [(0, .ref (a 0)), (1, .int x1), (2, .int x2_283), (3, .int x3_286)] → f_X1_firstTwoBy_14 v x1 x2_283 n x3_286 K14_45 = some r → W p l e (headSpec wsX1_firstTwoBy ({ frames := 4, cells := 0, slots := 0, locals := 94 } : Room)).room s m ([.ref (a 0), .int x1] : List Value).toArray below meth c H locs 0 0 (MQ below (FQ G A (vW G a v) (some (.int r))) ([.ref (a 0), .int x1] : List Value).toArray s 0 0 A) (F0 m 14 ls []) := by
          intro K14_45 hK14_45 n
          induction n with
          | zero =>
            intro x3_286 H locs ls hP hD hS hl hf
            exact no_some hf
          | succ n ih =>
            intro x3_286 H locs ls hP hD hS hl hf
            rw [f_X1_firstTwoBy_14] at hf
            refine lv_iload_n hx hb dX1_firstTwoBy_14 rfl (lv_at hl 3 rfl) ?_
            refine lv_aload_n hx hb dX1_firstTwoBy_15 rfl (lv_at hl 0 rfl) ?_
            refine fc_get (v := .int (v 7 1)) (ci := 3) (C := RX6) (T := TX6) (N := 12) hx hb hwX6 hown hE hP 0 rfl rfl 1 (by decide) hk_fieldLink_RX1_19__BrideNotKnown_Valley___brideCount___I_ (fun _ h => h) rfl dX1_firstTwoBy_16 ?_
            refine lv_icmp_ge (tgt := 45) hx hb dX1_firstTwoBy_19 (by decide) (fun c288 => ?_) (fun c288 => ?_)
            · have hf := ifT hf c288
              exact hK14_45 _ _ _ hP hD hS (lv_sub hl [0, 1, 2] rfl) hf
            · have hf := ifF hf c288
              refine lv_aload_n hx hb dX1_firstTwoBy_22 rfl (lv_at hl 0 rfl) ?_
              refine lv_iload_n hx hb dX1_firstTwoBy_23 rfl (lv_at hl 2 rfl) ?_
              refine lv_iload_n hx hb dX1_firstTwoBy_24 rfl (lv_at hl 3 rfl) ?_
              refine lv_iload_n hx hb dX1_firstTwoBy_25 rfl (lv_at hl 1 rfl) ?_
              obtain ⟨q289, hq289, hf⟩ := bnd hf
              refine fc_callS (Wa' := (vW G a v)) (st1 := [.int q289]) (As := [.ref (a 0), .int x2_283, .int x3_286, .int x1]) (rest := []) hCF (k_X1_areAlike a v x2_283 x3_286 x1 hq289) (va_cwS 4 hts gX1_firstTwoBy_X1_areAlike rfl rfl rfl dk_X1_areAlike ⟨Nat.le_of_ble_eq_true rfl, Nat.le_of_ble_eq_true rfl⟩) hE hAB hP hD hS [0, 1, 2, 3, 4, 5, 6, 7] rfl rfl rfl rfl rfl rfl hl.1 rfl (Nat.le_of_ble_eq_true rfl) dX1_firstTwoBy_26 ⟨Nat.le_refl _, Nat.le_refl _⟩ (fun H locs hP hD hS => ?_)
              refine lv_if_eq (tgt := 39) hx hb dX1_firstTwoBy_29 (by decide) (fun c290 => ?_) (fun c290 => ?_)
              · have hf := ifT hf c290
                refine lv_iinc (v := (x3_286 + (1 : Int32))) (lv' := [(3, .int (x3_286 + (1 : Int32))), (0, .ref (a 0)), (1, .int x1), (2, .int x2_283)]) hx hb dX1_firstTwoBy_39 hl (k := 3) rfl rfl (by decide) rfl (fun ls hl => ?_)
                refine lv_goto (tgt := 14) hx hb dX1_firstTwoBy_42 (by decide) ?_
                exact ih (x3_286 + (1 : Int32)) _ _ _ hP hD hS (lv_sub hl [1, 2, 3, 0] rfl) hf
              · have hf := ifF hf c290
                refine lv_bipush (v := (10 : Int32)) hx hb dX1_firstTwoBy_32 (by decide) ?_
                refine lv_iload_n hx hb dX1_firstTwoBy_34 rfl (lv_at hl 2 rfl) ?_
                refine lv_imul hx hb dX1_firstTwoBy_35 ?_
                refine lv_iload_n hx hb dX1_firstTwoBy_36 rfl (lv_at hl 3 rfl) ?_
                refine lv_iadd hx hb dX1_firstTwoBy_37 ?_
                exact fc_reti hx hb hr hlocks hP hS dX1_firstTwoBy_38 (i1 hf) rfl
        refine L14_287 _ ?_ FUEL (x2_283 + (1 : Int32)) _ _ _ hP hD hS (lv_sub hl [1, 2, 3, 0] rfl) hf
        intro H locs ls hP hD hS hl hf
        refine lv_iinc (v := (x2_283 + (1 : Int32))) (lv' := [(2, .int (x2_283 + (1 : Int32))), (0, .ref (a 0)), (1, .int x1)]) hx hb dX1_firstTwoBy_45 hl (k := 2) rfl rfl (by decide) rfl (fun ls hl => ?_)
        refine lv_goto (tgt := 2) hx hb dX1_firstTwoBy_48 (by decide) ?_
        exact ih (x2_283 + (1 : Int32)) _ _ _ hP hD hS (lv_sub hl [1, 2, 0] rfl) hf
  exact L2_284 FUEL (0 : Int32) _ _ _ hP hD hS (lv_sub hl [1, 2, 0] rfl) hf
theorem dk_X1_fewestLooks : yX1_fewestLooks.cls ≠ "java/lang/invoke/MethodHandle" ∧ yX1_fewestLooks.cls ≠ "java/lang/invoke/VarHandle" ∧ (parseMethodDescriptor yX1_fewestLooks.desc).map (fun d => d.parameters.length) = some 1 := by decide +kernel
set_option maxHeartbeats 4000000 in
set_option maxRecDepth 100000 in
theorem k_X1_fewestLooks {l : Launch} {G : Gx} (a : Nat → Nat) (v : St) {r : Int32} (hf : f_X1_fewestLooks v = some r) : FC l G yX1_fewestLooks wsX1_fewestLooks ({ frames := 5, cells := 0, slots := 0, locals := 117 } : Room) [.ref (a 0)] (vW G a v) (vW G a v) (some (.int r)) := by
  refine fc_head (cc := cX1_fewestLooks) (maxL := 5) (ret := (some .int)) (C := RX1) (lv := [(0, .ref (a 0))]) (by decide) rfl rfl (Nat.le_of_ble_eq_true rfl) rfl ?_
  intro p e s m below meth c ls A hx hb hr hml hown hts hlocks hE hP hD hAB hS hl
  have hCF : CallFix p m c cX1_fewestLooks 5 s ([.ref (a 0)] : List Value).toArray wsX1_fewestLooks RX1 := ⟨hx, hb, hml, hown, hts⟩
  rw [f_X1_fewestLooks] at hf
  refine fc_gets hx hb hE hAB hS hown (hE.2.1 _ (List.mem_of_getElem? (i := 23) rfl)) dX1_fewestLooks_0 ?_
  refine lv_astore_n (lv' := [(1, .ref (gT G)), (0, .ref (a 0))]) hx hb dX1_fewestLooks_3 rfl hl (by decide) rfl (fun ls hl => ?_)
  refine lv_aload_n hx hb dX1_fewestLooks_4 rfl (lv_at hl 0 rfl) ?_
  refine fc_tlen hx hb hE hAB hS dX1_fewestLooks_5 ?_
  refine lv_istore_n (lv' := [(2, .int (64 : Int32)), (1, .ref (gT G)), (0, .ref (a 0))]) hx hb dX1_fewestLooks_6 rfl hl (by decide) rfl (fun ls hl => ?_)
  refine lv_iconst (v := (0 : Int32)) hx hb dX1_fewestLooks_7 (by decide) ?_
  refine lv_istore_n (lv' := [(3, .int (0 : Int32)), (2, .int (64 : Int32)), (1, .ref (gT G)), (0, .ref (a 0))]) hx hb dX1_fewestLooks_8 rfl hl (by decide) rfl (fun ls hl => ?_)
  have L9_293 : ∀ (n : Nat) (x3_292 : Int32) (H : Heap) (locs : List Loc) (ls : Array Slot), va_P (gD G) vwCl (vW G a v) H → va_D A (vW G a v) → va_S A s.heap H locs → lv_has ls 5 [(0, .ref (a 0)), (1, .ref (gT G)), (2, .int (64 : Int32)), (3, .int x3_292)] → f_X1_fewestLooks_9 v (64 : Int32) n x3_292 = some r → W p l e (headSpec wsX1_fewestLooks ({ frames := 5, cells := 0, slots := 0, locals := 117 } : Room)).room s m ([.ref (a 0)] : List Value).toArray below meth c H locs 0 0 (MQ below (FQ G A (vW G a v) (some (.int r))) ([.ref (a 0)] : List Value).toArray s 0 0 A) (F0 m 9 ls []) := by
    intro n
    induction n with
    | zero =>
      intro x3_292 H locs ls hP hD hS hl hf
      exact no_some hf
    | succ n ih =>
      intro x3_292 H locs ls hP hD hS hl hf
      rw [f_X1_fewestLooks_9] at hf
      refine lv_iload_n hx hb dX1_fewestLooks_9 rfl (lv_at hl 3 rfl) ?_
      refine lv_iload_n hx hb dX1_fewestLooks_10 rfl (lv_at hl 2 rfl) ?_
      refine lv_icmp_ge (tgt := 39) hx hb dX1_fewestLooks_11 (by decide) (fun c294 => ?_) (fun c294 => ?_)
      · have hf := ifT hf c294
        refine lv_bipush (v := (-9 : Int32)) hx hb dX1_fewestLooks_39 (by decide) ?_
        exact fc_reti hx hb hr hlocks hP hS dX1_fewestLooks_41 (i1 hf) rfl
      · have hf := ifF hf c294
        refine lv_aload_n hx hb dX1_fewestLooks_14 rfl (lv_at hl 1 rfl) ?_
        refine lv_iload_n hx hb dX1_fewestLooks_15 rfl (lv_at hl 3 rfl) ?_
        obtain ⟨c295, hf⟩ := gd_some hf
        refine fc_ti hx hb hE hAB hS (inB_in c295) dX1_fewestLooks_16 ?_
        refine lv_istore (lv' := [(4, .int (ffT x3_292.toNatClampNeg)), (0, .ref (a 0)), (1, .ref (gT G)), (2, .int (64 : Int32)), (3, .int x3_292)]) hx hb dX1_fewestLooks_17 hl (by decide) rfl (fun ls hl => ?_)
        refine lv_aload_n hx hb dX1_fewestLooks_19 rfl (lv_at hl 1 rfl) ?_
        refine lv_iload hx hb dX1_fewestLooks_20 (lv_at hl 0 rfl) ?_
        obtain ⟨q296, hq296, hf⟩ := bnd hf
        refine fc_callS (Wa' := (vW G a v)) (st1 := [.int q296]) (As := [.ref (a 0), .int (ffT x3_292.toNatClampNeg)]) (rest := []) hCF (k_X1_firstTwoBy a v (ffT x3_292.toNatClampNeg) hq296) (va_cwS 2 hts gX1_fewestLooks_X1_firstTwoBy rfl rfl rfl dk_X1_firstTwoBy ⟨Nat.le_of_ble_eq_true rfl, Nat.le_of_ble_eq_true rfl⟩) hE hAB hP hD hS [0, 1, 2, 3, 4, 5, 6, 7] rfl rfl rfl rfl rfl rfl hl.1 rfl (Nat.le_of_ble_eq_true rfl) dX1_fewestLooks_22 ⟨Nat.le_refl _, Nat.le_refl _⟩ (fun H locs hP hD hS => ?_)
        refine lv_bipush (v := (-9 : Int32)) hx hb dX1_fewestLooks_25 (by decide) ?_
        refine lv_icmp_ne (tgt := 33) hx hb dX1_fewestLooks_27 (by decide) (fun c297 => ?_) (fun c297 => ?_)
        · have hf := ifF hf c297
          refine lv_iinc (v := (x3_292 + (1 : Int32))) (lv' := [(3, .int (x3_292 + (1 : Int32))), (4, .int (ffT x3_292.toNatClampNeg)), (0, .ref (a 0)), (1, .ref (gT G)), (2, .int (64 : Int32))]) hx hb dX1_fewestLooks_33 hl (k := 4) rfl rfl (by decide) rfl (fun ls hl => ?_)
          refine lv_goto (tgt := 9) hx hb dX1_fewestLooks_36 (by decide) ?_
          exact ih (x3_292 + (1 : Int32)) _ _ _ hP hD hS (lv_sub hl [2, 3, 4, 0] rfl) hf
        · have hf := ifT hf c297
          refine lv_iload hx hb dX1_fewestLooks_30 (lv_at hl 0 rfl) ?_
          exact fc_reti hx hb hr hlocks hP hS dX1_fewestLooks_32 (i1 hf) rfl
  exact L9_293 FUEL (0 : Int32) _ _ _ hP hD hS (lv_sub hl [3, 2, 1, 0] rfl) hf
theorem dk_X1_firstTwo : yX1_firstTwo.cls ≠ "java/lang/invoke/MethodHandle" ∧ yX1_firstTwo.cls ≠ "java/lang/invoke/VarHandle" ∧ (parseMethodDescriptor yX1_firstTwo.desc).map (fun d => d.parameters.length) = some 1 := by decide +kernel
set_option maxHeartbeats 4000000 in
set_option maxRecDepth 100000 in
theorem k_X1_firstTwo {l : Launch} {G : Gx} (a : Nat → Nat) (v : St) {r : Int32} (hf : f_X1_firstTwo v = some r) : FC l G yX1_firstTwo wsX1_firstTwo ({ frames := 5, cells := 0, slots := 0, locals := 117 } : Room) [.ref (a 0)] (vW G a v) (vW G a v) (some (.int r)) := by
  refine fc_head (cc := cX1_firstTwo) (maxL := 1) (ret := (some .int)) (C := RX1) (lv := [(0, .ref (a 0))]) (by decide) rfl rfl (Nat.le_of_ble_eq_true rfl) rfl ?_
  intro p e s m below meth c ls A hx hb hr hml hown hts hlocks hE hP hD hAB hS hl
  have hCF : CallFix p m c cX1_firstTwo 1 s ([.ref (a 0)] : List Value).toArray wsX1_firstTwo RX1 := ⟨hx, hb, hml, hown, hts⟩
  rw [f_X1_firstTwo] at hf
  refine lv_aload_n hx hb dX1_firstTwo_0 rfl (lv_at hl 0 rfl) ?_
  refine lv_bipush (v := (63 : Int32)) hx hb dX1_firstTwo_1 (by decide) ?_
  obtain ⟨q299, hq299, hf⟩ := bnd hf
  refine fc_callS (Wa' := (vW G a v)) (st1 := [.int q299]) (As := [.ref (a 0), .int (63 : Int32)]) (rest := []) hCF (k_X1_firstTwoBy a v (63 : Int32) hq299) (va_cwS 2 hts gX1_firstTwo_X1_firstTwoBy rfl rfl rfl dk_X1_firstTwoBy ⟨Nat.le_of_ble_eq_true rfl, Nat.le_of_ble_eq_true rfl⟩) hE hAB hP hD hS [0, 1, 2, 3, 4, 5, 6, 7] rfl rfl rfl rfl rfl rfl hl.1 rfl (Nat.le_of_ble_eq_true rfl) dX1_firstTwo_3 ⟨Nat.le_refl _, Nat.le_refl _⟩ (fun H locs hP hD hS => ?_)
  exact fc_reti hx hb hr hlocks hP hS dX1_firstTwo_6 (i1 hf) rfl
theorem dk_X1_howManyShow : yX1_howManyShow.cls ≠ "java/lang/invoke/MethodHandle" ∧ yX1_howManyShow.cls ≠ "java/lang/invoke/VarHandle" ∧ (parseMethodDescriptor yX1_howManyShow.desc).map (fun d => d.parameters.length) = some 2 := by decide +kernel
theorem iu_X1_howManyShow_X6 : ∀ w ∈ u_ws RX6 TX6 12, w ∈ wsX1_howManyShow := by decide +kernel
set_option maxHeartbeats 4000000 in
set_option maxRecDepth 100000 in
theorem k_X1_howManyShow {l : Launch} {G : Gx} (a : Nat → Nat) (v : St) (x1 : Int32) {r : Int32} (hf : f_X1_howManyShow v x1 = some r) : FC l G yX1_howManyShow wsX1_howManyShow ({ frames := 3, cells := 0, slots := 0, locals := 71 } : Room) [.ref (a 0), .int x1] (vW G a v) (vW G a v) (some (.int r)) := by
  refine fc_head (cc := cX1_howManyShow) (maxL := 4) (ret := (some .int)) (C := RX1) (lv := [(0, .ref (a 0)), (1, .int x1)]) (by decide) rfl rfl (Nat.le_of_ble_eq_true rfl) rfl ?_
  intro p e s m below meth c ls A hx hb hr hml hown hts hlocks hE hP hD hAB hS hl
  have hCF : CallFix p m c cX1_howManyShow 4 s ([.ref (a 0), .int x1] : List Value).toArray wsX1_howManyShow RX1 := ⟨hx, hb, hml, hown, hts⟩
  have hwX6 : ∀ w ∈ u_ws RX6 TX6 12, w.before ([.ref (a 0), .int x1] : List Value).toArray s = true := fun w h => hts w (iu_X1_howManyShow_X6 w h)
  have hk_fieldLink_RX1_19__BrideNotKnown_Valley___brideCount___I_ := hts (.fieldLink RX1 19 "BrideNotKnown$Valley" "brideCount" "I") (List.mem_of_getElem? (i := 1) rfl)
  rw [f_X1_howManyShow] at hf
  refine lv_iconst (v := (0 : Int32)) hx hb dX1_howManyShow_0 (by decide) ?_
  refine lv_istore_n (lv' := [(2, .int (0 : Int32)), (0, .ref (a 0)), (1, .int x1)]) hx hb dX1_howManyShow_1 rfl hl (by decide) rfl (fun ls hl => ?_)
  refine lv_iconst (v := (0 : Int32)) hx hb dX1_howManyShow_2 (by decide) ?_
  refine lv_istore_n (lv' := [(3, .int (0 : Int32)), (2, .int (0 : Int32)), (0, .ref (a 0)), (1, .int x1)]) hx hb dX1_howManyShow_3 rfl hl (by decide) rfl (fun ls hl => ?_)
  have L4_304 : ∀ (n : Nat) (x2_302 : Int32) (x3_303 : Int32) (H : Heap) (locs : List Loc) (ls : Array Slot), va_P (gD G) vwCl (vW G a v) H → va_D A (vW G a v) → va_S A s.heap H locs → lv_has ls 4 [(0, .ref (a 0)), (1, .int x1), (2, .int x2_302), (3, .int x3_303)] → f_X1_howManyShow_4 v x1 n x2_302 x3_303 = some r → W p l e (headSpec wsX1_howManyShow ({ frames := 3, cells := 0, slots := 0, locals := 71 } : Room)).room s m ([.ref (a 0), .int x1] : List Value).toArray below meth c H locs 0 0 (MQ below (FQ G A (vW G a v) (some (.int r))) ([.ref (a 0), .int x1] : List Value).toArray s 0 0 A) (F0 m 4 ls []) := by
    intro n
    induction n with
    | zero =>
      intro x2_302 x3_303 H locs ls hP hD hS hl hf
      exact no_some hf
    | succ n ih =>
      intro x2_302 x3_303 H locs ls hP hD hS hl hf
      rw [f_X1_howManyShow_4] at hf
      refine lv_iload_n hx hb dX1_howManyShow_4 rfl (lv_at hl 3 rfl) ?_
      refine lv_aload_n hx hb dX1_howManyShow_5 rfl (lv_at hl 0 rfl) ?_
      refine fc_get (v := .int (v 7 1)) (ci := 3) (C := RX6) (T := TX6) (N := 12) hx hb hwX6 hown hE hP 0 rfl rfl 1 (by decide) hk_fieldLink_RX1_19__BrideNotKnown_Valley___brideCount___I_ (fun _ h => h) rfl dX1_howManyShow_6 ?_
      refine lv_icmp_ge (tgt := 39) hx hb dX1_howManyShow_9 (by decide) (fun c305 => ?_) (fun c305 => ?_)
      · have hf := ifT hf c305
        refine lv_iload_n hx hb dX1_howManyShow_39 rfl (lv_at hl 2 rfl) ?_
        exact fc_reti hx hb hr hlocks hP hS dX1_howManyShow_40 (i1 hf) rfl
      · have hf := ifF hf c305
        refine lv_aload_n hx hb dX1_howManyShow_12 rfl (lv_at hl 0 rfl) ?_
        refine lv_iload_n hx hb dX1_howManyShow_13 rfl (lv_at hl 3 rfl) ?_
        obtain ⟨q306, hq306, hf⟩ := bnd hf
        refine fc_callV (Wa' := (vW G a v)) (st1 := [.int q306]) (As := [.int x3_303]) (rest := []) hCF (k_X6_isHere a v x3_303 hq306) (cwV 1 hts gX1_howManyShow_X6_isHere rfl rfl rfl ⟨rfl, dk_X6_isHere⟩ ⟨Nat.le_of_ble_eq_true rfl, Nat.le_of_ble_eq_true rfl⟩) hE hAB hP hD hS [0, 1, 2, 3, 4, 5, 6, 7] rfl rfl (va_recv hE.1 hP (ci := 3) (q0 := 0) rfl rfl) rfl rfl rfl rfl hl.1 rfl (Nat.le_of_ble_eq_true rfl) dX1_howManyShow_14 ⟨Nat.le_refl _, Nat.le_refl _⟩ (fun H locs hP hD hS => ?_)
        refine lv_if_eq (tgt := 33) hx hb dX1_howManyShow_17 (by decide) (fun c307 => ?_) (fun c307 => ?_)
        · have hf := ifT hf c307
          refine lv_iinc (v := (x3_303 + (1 : Int32))) (lv' := [(3, .int (x3_303 + (1 : Int32))), (0, .ref (a 0)), (1, .int x1), (2, .int x2_302)]) hx hb dX1_howManyShow_33 hl (k := 3) rfl rfl (by decide) rfl (fun ls hl => ?_)
          refine lv_goto (tgt := 4) hx hb dX1_howManyShow_36 (by decide) ?_
          exact ih x2_302 (x3_303 + (1 : Int32)) _ _ _ hP hD hS (lv_sub hl [1, 2, 3, 0] rfl) hf
        · have hf := ifF hf c307
          refine lv_aload_n hx hb dX1_howManyShow_20 rfl (lv_at hl 0 rfl) ?_
          refine lv_iload_n hx hb dX1_howManyShow_21 rfl (lv_at hl 3 rfl) ?_
          refine lv_iconst (v := (0 : Int32)) hx hb dX1_howManyShow_22 (by decide) ?_
          obtain ⟨q308, hq308, hf⟩ := bnd hf
          refine fc_callV (Wa' := (vW G a v)) (st1 := [.int q308]) (As := [.int x3_303, .int (0 : Int32)]) (rest := []) hCF (k_X6_shows a v x3_303 (0 : Int32) hq308) (cwV 2 hts gX1_howManyShow_X6_shows rfl rfl rfl ⟨rfl, dk_X6_shows⟩ ⟨Nat.le_of_ble_eq_true rfl, Nat.le_of_ble_eq_true rfl⟩) hE hAB hP hD hS [0, 1, 2, 3, 4, 5, 6, 7] rfl rfl (va_recv hE.1 hP (ci := 3) (q0 := 0) rfl rfl) rfl rfl rfl rfl hl.1 rfl (Nat.le_of_ble_eq_true rfl) dX1_howManyShow_23 ⟨Nat.le_refl _, Nat.le_refl _⟩ (fun H locs hP hD hS => ?_)
          refine lv_iload_n hx hb dX1_howManyShow_26 rfl (lv_at hl 1 rfl) ?_
          refine lv_icmp_ne (tgt := 33) hx hb dX1_howManyShow_27 (by decide) (fun c309 => ?_) (fun c309 => ?_)
          · have hf := ifF hf c309
            refine lv_iinc (v := (x3_303 + (1 : Int32))) (lv' := [(3, .int (x3_303 + (1 : Int32))), (0, .ref (a 0)), (1, .int x1), (2, .int x2_302)]) hx hb dX1_howManyShow_33 hl (k := 3) rfl rfl (by decide) rfl (fun ls hl => ?_)
            refine lv_goto (tgt := 4) hx hb dX1_howManyShow_36 (by decide) ?_
            exact ih x2_302 (x3_303 + (1 : Int32)) _ _ _ hP hD hS (lv_sub hl [1, 2, 3, 0] rfl) hf
          · have hf := ifT hf c309
            refine lv_iinc (v := (x2_302 + (1 : Int32))) (lv' := [(2, .int (x2_302 + (1 : Int32))), (0, .ref (a 0)), (1, .int x1), (3, .int x3_303)]) hx hb dX1_howManyShow_30 hl (k := 2) rfl rfl (by decide) rfl (fun ls hl => ?_)
            refine lv_iinc (v := (x3_303 + (1 : Int32))) (lv' := [(3, .int (x3_303 + (1 : Int32))), (2, .int (x2_302 + (1 : Int32))), (0, .ref (a 0)), (1, .int x1)]) hx hb dX1_howManyShow_33 hl (k := 3) rfl rfl (by decide) rfl (fun ls hl => ?_)
            refine lv_goto (tgt := 4) hx hb dX1_howManyShow_36 (by decide) ?_
            exact ih (x2_302 + (1 : Int32)) (x3_303 + (1 : Int32)) _ _ _ hP hD hS (lv_sub hl [2, 3, 1, 0] rfl) hf
  exact L4_304 FUEL (0 : Int32) (0 : Int32) _ _ _ hP hD hS (lv_sub hl [2, 3, 1, 0] rfl) hf
theorem dk_X1_greatest : yX1_greatest.cls ≠ "java/lang/invoke/MethodHandle" ∧ yX1_greatest.cls ≠ "java/lang/invoke/VarHandle" ∧ (parseMethodDescriptor yX1_greatest.desc).map (fun d => d.parameters.length) = some 1 := by decide +kernel
set_option maxHeartbeats 4000000 in
set_option maxRecDepth 100000 in
theorem k_X1_greatest {l : Launch} {G : Gx} (a : Nat → Nat) (v : St) {r : Int32} (hf : f_X1_greatest v = some r) : FC l G yX1_greatest wsX1_greatest ({ frames := 4, cells := 0, slots := 0, locals := 94 } : Room) [.ref (a 0)] (vW G a v) (vW G a v) (some (.int r)) := by
  refine fc_head (cc := cX1_greatest) (maxL := 3) (ret := (some .int)) (C := RX1) (lv := [(0, .ref (a 0))]) (by decide) rfl rfl (Nat.le_of_ble_eq_true rfl) rfl ?_
  intro p e s m below meth c ls A hx hb hr hml hown hts hlocks hE hP hD hAB hS hl
  have hCF : CallFix p m c cX1_greatest 3 s ([.ref (a 0)] : List Value).toArray wsX1_greatest RX1 := ⟨hx, hb, hml, hown, hts⟩
  have hk_methodLink_RX1_36_Lib_Math_max_name := hts (.methodLink RX1 36 Lib.Math.max.name) (List.mem_of_getElem? (i := 1) rfl)
  have hk_static_Lib_Math_max_name := hts (.static Lib.Math.max.name) (List.mem_of_getElem? (i := 2) rfl)
  have hk_initialized__java_lang_Math_ := hts (.initialized "java/lang/Math") (List.mem_of_getElem? (i := 3) rfl)
  have hk_code_Lib_Math_max_name_Lib_Math_max_code_2__some__int_ := hts (.code Lib.Math.max.name Lib.Math.max.code 2 (some .int)) (List.mem_of_getElem? (i := 4) rfl)
  rw [f_X1_greatest] at hf
  refine lv_iconst (v := (0 : Int32)) hx hb dX1_greatest_0 (by decide) ?_
  refine lv_istore_n (lv' := [(1, .int (0 : Int32)), (0, .ref (a 0))]) hx hb dX1_greatest_1 rfl hl (by decide) rfl (fun ls hl => ?_)
  refine lv_iconst (v := (0 : Int32)) hx hb dX1_greatest_2 (by decide) ?_
  refine lv_istore_n (lv' := [(2, .int (0 : Int32)), (1, .int (0 : Int32)), (0, .ref (a 0))]) hx hb dX1_greatest_3 rfl hl (by decide) rfl (fun ls hl => ?_)
  have L4_313 : ∀ (n : Nat) (x1_311 : Int32) (x2_312 : Int32) (H : Heap) (locs : List Loc) (ls : Array Slot), va_P (gD G) vwCl (vW G a v) H → va_D A (vW G a v) → va_S A s.heap H locs → lv_has ls 3 [(0, .ref (a 0)), (1, .int x1_311), (2, .int x2_312)] → f_X1_greatest_4 v n x1_311 x2_312 = some r → W p l e (headSpec wsX1_greatest ({ frames := 4, cells := 0, slots := 0, locals := 94 } : Room)).room s m ([.ref (a 0)] : List Value).toArray below meth c H locs 0 0 (MQ below (FQ G A (vW G a v) (some (.int r))) ([.ref (a 0)] : List Value).toArray s 0 0 A) (F0 m 4 ls []) := by
    intro n
    induction n with
    | zero =>
      intro x1_311 x2_312 H locs ls hP hD hS hl hf
      exact no_some hf
    | succ n ih =>
      intro x1_311 x2_312 H locs ls hP hD hS hl hf
      rw [f_X1_greatest_4] at hf
      refine lv_iload_n hx hb dX1_greatest_4 rfl (lv_at hl 2 rfl) ?_
      refine lv_bipush (v := (63 : Int32)) hx hb dX1_greatest_5 (by decide) ?_
      refine lv_icmp_gt (tgt := 26) hx hb dX1_greatest_7 (by decide) (fun c314 => ?_) (fun c314 => ?_)
      · have hf := ifT hf c314
        refine lv_iload_n hx hb dX1_greatest_26 rfl (lv_at hl 1 rfl) ?_
        exact fc_reti hx hb hr hlocks hP hS dX1_greatest_27 (i1 hf) rfl
      · have hf := ifF hf c314
        refine lv_iload_n hx hb dX1_greatest_10 rfl (lv_at hl 1 rfl) ?_
        refine lv_aload_n hx hb dX1_greatest_11 rfl (lv_at hl 0 rfl) ?_
        refine lv_iload_n hx hb dX1_greatest_12 rfl (lv_at hl 2 rfl) ?_
        obtain ⟨q315, hq315, hf⟩ := bnd hf
        refine fc_callS (Wa' := (vW G a v)) (st1 := [.int q315, .int x1_311]) (As := [.ref (a 0), .int x2_312]) (rest := [.int x1_311]) hCF (k_X1_howManyShow a v x2_312 hq315) (va_cwS 2 hts gX1_greatest_X1_howManyShow rfl rfl rfl dk_X1_howManyShow ⟨Nat.le_of_ble_eq_true rfl, Nat.le_of_ble_eq_true rfl⟩) hE hAB hP hD hS [0, 1, 2, 3, 4, 5, 6, 7] rfl rfl rfl rfl rfl rfl hl.1 rfl (Nat.le_of_ble_eq_true rfl) dX1_greatest_13 ⟨Nat.le_refl _, Nat.le_refl _⟩ (fun H locs hP hD hS => ?_)
        refine va_mmax hx hb (hml.trans hl.1.symm) hown hk_methodLink_RX1_36_Lib_Math_max_name hk_static_Lib_Math_max_name hk_initialized__java_lang_Math_ hk_code_Lib_Math_max_name_Lib_Math_max_code_2__some__int_ (Nat.le_of_ble_eq_true rfl) (Nat.le_of_ble_eq_true rfl) (Nat.zero_le _) (Nat.zero_le _) dX1_greatest_16 ?_
        refine lv_istore_n (lv' := [(1, .int (if x1_311 < q315 then q315 else x1_311)), (0, .ref (a 0)), (2, .int x2_312)]) hx hb dX1_greatest_19 rfl hl (by decide) rfl (fun ls hl => ?_)
        refine lv_iinc (v := (x2_312 + (1 : Int32))) (lv' := [(2, .int (x2_312 + (1 : Int32))), (1, .int (if x1_311 < q315 then q315 else x1_311)), (0, .ref (a 0))]) hx hb dX1_greatest_20 hl (k := 2) rfl rfl (by decide) rfl (fun ls hl => ?_)
        refine lv_goto (tgt := 4) hx hb dX1_greatest_23 (by decide) ?_
        exact ih (if x1_311 < q315 then q315 else x1_311) (x2_312 + (1 : Int32)) _ _ _ hP hD hS (lv_sub hl [2, 1, 0] rfl) hf
  exact L4_313 FUEL (0 : Int32) (0 : Int32) _ _ _ hP hD hS (lv_sub hl [2, 1, 0] rfl) hf
theorem dk_X1_greatestShown : yX1_greatestShown.cls ≠ "java/lang/invoke/MethodHandle" ∧ yX1_greatestShown.cls ≠ "java/lang/invoke/VarHandle" ∧ (parseMethodDescriptor yX1_greatestShown.desc).map (fun d => d.parameters.length) = some 1 := by decide +kernel
set_option maxHeartbeats 4000000 in
set_option maxRecDepth 100000 in
theorem k_X1_greatestShown {l : Launch} {G : Gx} (a : Nat → Nat) (v : St) {r : Int32} (hf : f_X1_greatestShown v = some r) : FC l G yX1_greatestShown wsX1_greatestShown ({ frames := 4, cells := 0, slots := 0, locals := 94 } : Room) [.ref (a 0)] (vW G a v) (vW G a v) (some (.int r)) := by
  refine fc_head (cc := cX1_greatestShown) (maxL := 5) (ret := (some .int)) (C := RX1) (lv := [(0, .ref (a 0))]) (by decide) rfl rfl (Nat.le_of_ble_eq_true rfl) rfl ?_
  intro p e s m below meth c ls A hx hb hr hml hown hts hlocks hE hP hD hAB hS hl
  have hCF : CallFix p m c cX1_greatestShown 5 s ([.ref (a 0)] : List Value).toArray wsX1_greatestShown RX1 := ⟨hx, hb, hml, hown, hts⟩
  rw [f_X1_greatestShown] at hf
  refine lv_iconst (v := (0 : Int32)) hx hb dX1_greatestShown_0 (by decide) ?_
  refine lv_istore_n (lv' := [(1, .int (0 : Int32)), (0, .ref (a 0))]) hx hb dX1_greatestShown_1 rfl hl (by decide) rfl (fun ls hl => ?_)
  refine lv_bipush (v := (-9 : Int32)) hx hb dX1_greatestShown_2 (by decide) ?_
  refine lv_istore_n (lv' := [(2, .int (-9 : Int32)), (1, .int (0 : Int32)), (0, .ref (a 0))]) hx hb dX1_greatestShown_4 rfl hl (by decide) rfl (fun ls hl => ?_)
  refine lv_iconst (v := (0 : Int32)) hx hb dX1_greatestShown_5 (by decide) ?_
  refine lv_istore_n (lv' := [(3, .int (0 : Int32)), (2, .int (-9 : Int32)), (1, .int (0 : Int32)), (0, .ref (a 0))]) hx hb dX1_greatestShown_6 rfl hl (by decide) rfl (fun ls hl => ?_)
  have L7_320 : ∀ (n : Nat) (x1_317 : Int32) (x2_318 : Int32) (x3_319 : Int32) (H : Heap) (locs : List Loc) (ls : Array Slot), va_P (gD G) vwCl (vW G a v) H → va_D A (vW G a v) → va_S A s.heap H locs → lv_has ls 5 [(0, .ref (a 0)), (1, .int x1_317), (2, .int x2_318), (3, .int x3_319)] → f_X1_greatestShown_7 v n x1_317 x2_318 x3_319 = some r → W p l e (headSpec wsX1_greatestShown ({ frames := 4, cells := 0, slots := 0, locals := 94 } : Room)).room s m ([.ref (a 0)] : List Value).toArray below meth c H locs 0 0 (MQ below (FQ G A (vW G a v) (some (.int r))) ([.ref (a 0)] : List Value).toArray s 0 0 A) (F0 m 7 ls []) := by
    intro n
    induction n with
    | zero =>
      intro x1_317 x2_318 x3_319 H locs ls hP hD hS hl hf
      exact no_some hf
    | succ n ih =>
      intro x1_317 x2_318 x3_319 H locs ls hP hD hS hl hf
      rw [f_X1_greatestShown_7] at hf
      refine lv_iload_n hx hb dX1_greatestShown_7 rfl (lv_at hl 3 rfl) ?_
      refine lv_bipush (v := (63 : Int32)) hx hb dX1_greatestShown_8 (by decide) ?_
      refine lv_icmp_gt (tgt := 37) hx hb dX1_greatestShown_10 (by decide) (fun c321 => ?_) (fun c321 => ?_)
      · have hf := ifT hf c321
        refine lv_iload_n hx hb dX1_greatestShown_37 rfl (lv_at hl 2 rfl) ?_
        exact fc_reti hx hb hr hlocks hP hS dX1_greatestShown_38 (i1 hf) rfl
      · have hf := ifF hf c321
        refine lv_aload_n hx hb dX1_greatestShown_13 rfl (lv_at hl 0 rfl) ?_
        refine lv_iload_n hx hb dX1_greatestShown_14 rfl (lv_at hl 3 rfl) ?_
        obtain ⟨q322, hq322, hf⟩ := bnd hf
        refine fc_callS (Wa' := (vW G a v)) (st1 := [.int q322]) (As := [.ref (a 0), .int x3_319]) (rest := []) hCF (k_X1_howManyShow a v x3_319 hq322) (va_cwS 2 hts gX1_greatestShown_X1_howManyShow rfl rfl rfl dk_X1_howManyShow ⟨Nat.le_of_ble_eq_true rfl, Nat.le_of_ble_eq_true rfl⟩) hE hAB hP hD hS [0, 1, 2, 3, 4, 5, 6, 7] rfl rfl rfl rfl rfl rfl hl.1 rfl (Nat.le_of_ble_eq_true rfl) dX1_greatestShown_15 ⟨Nat.le_refl _, Nat.le_refl _⟩ (fun H locs hP hD hS => ?_)
        refine lv_istore (lv' := [(4, .int q322), (0, .ref (a 0)), (1, .int x1_317), (2, .int x2_318), (3, .int x3_319)]) hx hb dX1_greatestShown_18 hl (by decide) rfl (fun ls hl => ?_)
        refine lv_iload hx hb dX1_greatestShown_20 (lv_at hl 0 rfl) ?_
        refine lv_iload_n hx hb dX1_greatestShown_22 rfl (lv_at hl 2 rfl) ?_
        refine lv_icmp_le (tgt := 31) hx hb dX1_greatestShown_23 (by decide) (fun c323 => ?_) (fun c323 => ?_)
        · have hf := ifT hf c323
          refine lv_iinc (v := (x3_319 + (1 : Int32))) (lv' := [(3, .int (x3_319 + (1 : Int32))), (4, .int q322), (0, .ref (a 0)), (1, .int x1_317), (2, .int x2_318)]) hx hb dX1_greatestShown_31 hl (k := 4) rfl rfl (by decide) rfl (fun ls hl => ?_)
          refine lv_goto (tgt := 7) hx hb dX1_greatestShown_34 (by decide) ?_
          exact ih x1_317 x2_318 (x3_319 + (1 : Int32)) _ _ _ hP hD hS (lv_sub hl [2, 3, 4, 0] rfl) hf
        · have hf := ifF hf c323
          refine lv_iload hx hb dX1_greatestShown_26 (lv_at hl 0 rfl) ?_
          refine lv_istore_n (lv' := [(1, .int q322), (4, .int q322), (0, .ref (a 0)), (2, .int x2_318), (3, .int x3_319)]) hx hb dX1_greatestShown_28 rfl hl (by decide) rfl (fun ls hl => ?_)
          refine lv_iload_n hx hb dX1_greatestShown_29 rfl (lv_at hl 4 rfl) ?_
          refine lv_istore_n (lv' := [(2, .int x3_319), (1, .int q322), (4, .int q322), (0, .ref (a 0)), (3, .int x3_319)]) hx hb dX1_greatestShown_30 rfl hl (by decide) rfl (fun ls hl => ?_)
          refine lv_iinc (v := (x3_319 + (1 : Int32))) (lv' := [(3, .int (x3_319 + (1 : Int32))), (2, .int x3_319), (1, .int q322), (4, .int q322), (0, .ref (a 0))]) hx hb dX1_greatestShown_31 hl (k := 4) rfl rfl (by decide) rfl (fun ls hl => ?_)
          refine lv_goto (tgt := 7) hx hb dX1_greatestShown_34 (by decide) ?_
          exact ih q322 x3_319 (x3_319 + (1 : Int32)) _ _ _ hP hD hS (lv_sub hl [4, 2, 1, 0] rfl) hf
  exact L7_320 FUEL (0 : Int32) (-9 : Int32) (0 : Int32) _ _ _ hP hD hS (lv_sub hl [3, 2, 1, 0] rfl) hf
theorem dk_X1_howFarApart : yX1_howFarApart.cls ≠ "java/lang/invoke/MethodHandle" ∧ yX1_howFarApart.cls ≠ "java/lang/invoke/VarHandle" ∧ (parseMethodDescriptor yX1_howFarApart.desc).map (fun d => d.parameters.length) = some 2 := by decide +kernel
theorem iu_X1_howFarApart_X6 : ∀ w ∈ u_ws RX6 TX6 12, w ∈ wsX1_howFarApart := by decide +kernel
set_option maxHeartbeats 4000000 in
set_option maxRecDepth 100000 in
theorem k_X1_howFarApart {l : Launch} {G : Gx} (a : Nat → Nat) (v : St) (x1 : Int32) {r : Int32} (hf : f_X1_howFarApart v x1 = some r) : FC l G yX1_howFarApart wsX1_howFarApart ({ frames := 3, cells := 0, slots := 0, locals := 71 } : Room) [.ref (a 0), .int x1] (vW G a v) (vW G a v) (some (.int r)) := by
  refine fc_head (cc := cX1_howFarApart) (maxL := 4) (ret := (some .int)) (C := RX1) (lv := [(0, .ref (a 0)), (1, .int x1)]) (by decide) rfl rfl (Nat.le_of_ble_eq_true rfl) rfl ?_
  intro p e s m below meth c ls A hx hb hr hml hown hts hlocks hE hP hD hAB hS hl
  have hCF : CallFix p m c cX1_howFarApart 4 s ([.ref (a 0), .int x1] : List Value).toArray wsX1_howFarApart RX1 := ⟨hx, hb, hml, hown, hts⟩
  have hwX6 : ∀ w ∈ u_ws RX6 TX6 12, w.before ([.ref (a 0), .int x1] : List Value).toArray s = true := fun w h => hts w (iu_X1_howFarApart_X6 w h)
  have hk_fieldLink_RX1_19__BrideNotKnown_Valley___brideCount___I_ := hts (.fieldLink RX1 19 "BrideNotKnown$Valley" "brideCount" "I") (List.mem_of_getElem? (i := 1) rfl)
  have hk_initialized_RX7 := hts (.initialized RX7) (List.mem_of_getElem? (i := 18) rfl)
  have hk_static_yX7_has := hts (.static yX7_has) (List.mem_of_getElem? (i := 17) rfl)
  have hk_methodLink_RX1_48_Lib_Math_abs_name := hts (.methodLink RX1 48 Lib.Math.abs.name) (List.mem_of_getElem? (i := 2) rfl)
  have hk_static_Lib_Math_abs_name := hts (.static Lib.Math.abs.name) (List.mem_of_getElem? (i := 3) rfl)
  have hk_initialized__java_lang_Math_ := hts (.initialized "java/lang/Math") (List.mem_of_getElem? (i := 4) rfl)
  have hk_code_Lib_Math_abs_name_Lib_Math_abs_code_1__some__int_ := hts (.code Lib.Math.abs.name Lib.Math.abs.code 1 (some .int)) (List.mem_of_getElem? (i := 5) rfl)
  rw [f_X1_howFarApart] at hf
  refine lv_iconst (v := (0 : Int32)) hx hb dX1_howFarApart_0 (by decide) ?_
  refine lv_istore_n (lv' := [(2, .int (0 : Int32)), (0, .ref (a 0)), (1, .int x1)]) hx hb dX1_howFarApart_1 rfl hl (by decide) rfl (fun ls hl => ?_)
  refine lv_iconst (v := (0 : Int32)) hx hb dX1_howFarApart_2 (by decide) ?_
  refine lv_istore_n (lv' := [(3, .int (0 : Int32)), (2, .int (0 : Int32)), (0, .ref (a 0)), (1, .int x1)]) hx hb dX1_howFarApart_3 rfl hl (by decide) rfl (fun ls hl => ?_)
  have L4_330 : ∀ (K4_47 : Int32 → Option (Int32)) (hK4_47 : ∀ (x2_331 : Int32) (H : Heap) (locs : List Loc) (ls : Array Slot), va_P (gD G) vwCl (vW G a v) H → va_D A (vW G a v) → va_S A s.heap H locs → lv_has ls 4 [(2, .int x2_331)] → K4_47 x2_331 = some r → W p l e (headSpec wsX1_howFarApart ({ frames := 3, cells := 0, slots := 0, locals := 71 } : Room)).room s m ([.ref (a 0), .int x1] : List Value).toArray below meth c H locs 0 0 (MQ below (FQ G A (vW G a v) (some (.int r))) ([.ref (a 0), .int x1] : List Value).toArray s 0 0 A) (F0 m 47 ls [])) (n : Nat) (x2_328 : Int32) (x3_329 : Int32) (H : Heap) (locs : List Loc) (ls : Array Slot), va_P (gD G) vwCl (vW G a v) H → va_D A (vW G a v) → va_S A s.heap H locs → lv_has ls 4 [(0, .ref (a 0)), (1, .int x1), (2, .int x2_328), (3, .int x3_329)] → f_X1_howFarApart_4 v x1 n x2_328 x3_329 K4_47 = some r → W p l e (headSpec wsX1_howFarApart ({ frames := 3, cells := 0, slots := 0, locals := 71 } : Room)).room s m ([.ref (a 0), .int x1] : List Value).toArray below meth c H locs 0 0 (MQ below (FQ G A (vW G a v) (some (.int r))) ([.ref (a 0), .int x1] : List Value).toArray s 0 0 A) (F0 m 4 ls []) := by
    intro K4_47 hK4_47 n
    induction n with
    | zero =>
      intro x2_328 x3_329 H locs ls hP hD hS hl hf
      exact no_some hf
    | succ n ih =>
      intro x2_328 x3_329 H locs ls hP hD hS hl hf
      rw [f_X1_howFarApart_4] at hf
      refine lv_iload_n hx hb dX1_howFarApart_4 rfl (lv_at hl 3 rfl) ?_
      refine lv_aload_n hx hb dX1_howFarApart_5 rfl (lv_at hl 0 rfl) ?_
      refine fc_get (v := .int (v 7 1)) (ci := 3) (C := RX6) (T := TX6) (N := 12) hx hb hwX6 hown hE hP 0 rfl rfl 1 (by decide) hk_fieldLink_RX1_19__BrideNotKnown_Valley___brideCount___I_ (fun _ h => h) rfl dX1_howFarApart_6 ?_
      refine lv_icmp_ge (tgt := 47) hx hb dX1_howFarApart_9 (by decide) (fun c332 => ?_) (fun c332 => ?_)
      · have hf := ifT hf c332
        exact hK4_47 x2_328 _ _ _ hP hD hS (lv_sub hl [2] rfl) hf
      · have hf := ifF hf c332
        refine lv_aload_n hx hb dX1_howFarApart_12 rfl (lv_at hl 0 rfl) ?_
        refine lv_iload_n hx hb dX1_howFarApart_13 rfl (lv_at hl 3 rfl) ?_
        obtain ⟨q333, hq333, hf⟩ := bnd hf
        refine fc_callV (Wa' := (vW G a v)) (st1 := [.int q333]) (As := [.int x3_329]) (rest := []) hCF (k_X6_isHere a v x3_329 hq333) (cwV 1 hts gX1_howFarApart_X6_isHere rfl rfl rfl ⟨rfl, dk_X6_isHere⟩ ⟨Nat.le_of_ble_eq_true rfl, Nat.le_of_ble_eq_true rfl⟩) hE hAB hP hD hS [0, 1, 2, 3, 4, 5, 6, 7] rfl rfl (va_recv hE.1 hP (ci := 3) (q0 := 0) rfl rfl) rfl rfl rfl rfl hl.1 rfl (Nat.le_of_ble_eq_true rfl) dX1_howFarApart_14 ⟨Nat.le_refl _, Nat.le_refl _⟩ (fun H locs hP hD hS => ?_)
        refine lv_if_eq (tgt := 41) hx hb dX1_howFarApart_17 (by decide) (fun c334 => ?_) (fun c334 => ?_)
        · have hf := ifT hf c334
          refine lv_iinc (v := (x3_329 + (1 : Int32))) (lv' := [(3, .int (x3_329 + (1 : Int32))), (0, .ref (a 0)), (1, .int x1), (2, .int x2_328)]) hx hb dX1_howFarApart_41 hl (k := 3) rfl rfl (by decide) rfl (fun ls hl => ?_)
          refine lv_goto (tgt := 4) hx hb dX1_howFarApart_44 (by decide) ?_
          exact ih x2_328 (x3_329 + (1 : Int32)) _ _ _ hP hD hS (lv_sub hl [1, 2, 3, 0] rfl) hf
        · have hf := ifF hf c334
          refine lv_iload_n hx hb dX1_howFarApart_20 rfl (lv_at hl 2 rfl) ?_
          refine lv_aload_n hx hb dX1_howFarApart_21 rfl (lv_at hl 0 rfl) ?_
          refine lv_iload_n hx hb dX1_howFarApart_22 rfl (lv_at hl 3 rfl) ?_
          refine lv_iconst (v := (0 : Int32)) hx hb dX1_howFarApart_23 (by decide) ?_
          obtain ⟨q335, hq335, hf⟩ := bnd hf
          refine fc_callV (Wa' := (vW G a v)) (st1 := [.int q335, .int x2_328]) (As := [.int x3_329, .int (0 : Int32)]) (rest := [.int x2_328]) hCF (k_X6_shows a v x3_329 (0 : Int32) hq335) (cwV 2 hts gX1_howFarApart_X6_shows rfl rfl rfl ⟨rfl, dk_X6_shows⟩ ⟨Nat.le_of_ble_eq_true rfl, Nat.le_of_ble_eq_true rfl⟩) hE hAB hP hD hS [0, 1, 2, 3, 4, 5, 6, 7] rfl rfl (va_recv hE.1 hP (ci := 3) (q0 := 0) rfl rfl) rfl rfl rfl rfl hl.1 rfl (Nat.le_of_ble_eq_true rfl) dX1_howFarApart_24 ⟨Nat.le_refl _, Nat.le_refl _⟩ (fun H locs hP hD hS => ?_)
          refine lv_iload_n hx hb dX1_howFarApart_27 rfl (lv_at hl 1 rfl) ?_
          obtain ⟨q336, hq336, hf⟩ := bnd hf
          refine fc_callN (Wa' := (vW G a v)) (st1 := [.int q336, .int x2_328]) (As := [.int q335, .int x1]) (rest := [.int x2_328]) hCF (k_X7_has q335 x1 hq336) ⟨va_cnB 2 hts gX1_howFarApart_X7_has_n44 rfl rfl rfl (hE.2.1 _ (List.mem_of_getElem? (i := 17) rfl)) hk_initialized_RX7 dk_X7_has ⟨Nat.le_of_ble_eq_true rfl, Nat.le_of_ble_eq_true rfl⟩, hk_static_yX7_has, trivial⟩ hE hAB hP hD hS [] rfl rfl rfl rfl rfl rfl hl.1 rfl (Nat.le_of_ble_eq_true rfl) dX1_howFarApart_28 ⟨Nat.le_refl _, Nat.le_refl _⟩ (fun H locs hP hD hS => ?_)
          refine lv_if_eq (tgt := 38) hx hb dX1_howFarApart_31 (by decide) (fun c337 => ?_) (fun c337 => ?_)
          · have hf := ifT hf c337
            refine lv_iconst (v := (-1 : Int32)) hx hb dX1_howFarApart_38 (by decide) ?_
            refine lv_iadd hx hb dX1_howFarApart_39 ?_
            refine lv_istore_n (lv' := [(2, .int (x2_328 + (-1 : Int32))), (0, .ref (a 0)), (1, .int x1), (3, .int x3_329)]) hx hb dX1_howFarApart_40 rfl hl (by decide) rfl (fun ls hl => ?_)
            refine lv_iinc (v := (x3_329 + (1 : Int32))) (lv' := [(3, .int (x3_329 + (1 : Int32))), (2, .int (x2_328 + (-1 : Int32))), (0, .ref (a 0)), (1, .int x1)]) hx hb dX1_howFarApart_41 hl (k := 3) rfl rfl (by decide) rfl (fun ls hl => ?_)
            refine lv_goto (tgt := 4) hx hb dX1_howFarApart_44 (by decide) ?_
            exact ih (x2_328 + (-1 : Int32)) (x3_329 + (1 : Int32)) _ _ _ hP hD hS (lv_sub hl [2, 3, 1, 0] rfl) hf
          · have hf := ifF hf c337
            refine lv_iconst (v := (1 : Int32)) hx hb dX1_howFarApart_34 (by decide) ?_
            refine lv_goto (tgt := 39) hx hb dX1_howFarApart_35 (by decide) ?_
            refine lv_iadd hx hb dX1_howFarApart_39 ?_
            refine lv_istore_n (lv' := [(2, .int (x2_328 + (1 : Int32))), (0, .ref (a 0)), (1, .int x1), (3, .int x3_329)]) hx hb dX1_howFarApart_40 rfl hl (by decide) rfl (fun ls hl => ?_)
            refine lv_iinc (v := (x3_329 + (1 : Int32))) (lv' := [(3, .int (x3_329 + (1 : Int32))), (2, .int (x2_328 + (1 : Int32))), (0, .ref (a 0)), (1, .int x1)]) hx hb dX1_howFarApart_41 hl (k := 3) rfl rfl (by decide) rfl (fun ls hl => ?_)
            refine lv_goto (tgt := 4) hx hb dX1_howFarApart_44 (by decide) ?_
            exact ih (x2_328 + (1 : Int32)) (x3_329 + (1 : Int32)) _ _ _ hP hD hS (lv_sub hl [2, 3, 1, 0] rfl) hf
  refine L4_330 _ ?_ FUEL (0 : Int32) (0 : Int32) _ _ _ hP hD hS (lv_sub hl [2, 3, 1, 0] rfl) hf
  intro x2_338 H locs ls hP hD hS hl hf
  refine lv_iload_n hx hb dX1_howFarApart_47 rfl (lv_at hl 0 rfl) ?_
  refine va_mabs hx hb (hml.trans hl.1.symm) hown hk_methodLink_RX1_48_Lib_Math_abs_name hk_static_Lib_Math_abs_name hk_initialized__java_lang_Math_ hk_code_Lib_Math_abs_name_Lib_Math_abs_code_1__some__int_ (Nat.le_of_ble_eq_true rfl) (Nat.le_of_ble_eq_true rfl) (Nat.zero_le _) (Nat.zero_le _) dX1_howFarApart_48 ?_
  exact fc_reti hx hb hr hlocks hP hS dX1_howFarApart_51 (i1 hf) rfl
theorem dk_X1_tellingToe : yX1_tellingToe.cls ≠ "java/lang/invoke/MethodHandle" ∧ yX1_tellingToe.cls ≠ "java/lang/invoke/VarHandle" ∧ (parseMethodDescriptor yX1_tellingToe.desc).map (fun d => d.parameters.length) = some 1 := by decide +kernel
set_option maxHeartbeats 4000000 in
set_option maxRecDepth 100000 in
theorem k_X1_tellingToe {l : Launch} {G : Gx} (a : Nat → Nat) (v : St) {r : Int32} (hf : f_X1_tellingToe v = some r) : FC l G yX1_tellingToe wsX1_tellingToe ({ frames := 4, cells := 0, slots := 0, locals := 94 } : Room) [.ref (a 0)] (vW G a v) (vW G a v) (some (.int r)) := by
  refine fc_head (cc := cX1_tellingToe) (maxL := 5) (ret := (some .int)) (C := RX1) (lv := [(0, .ref (a 0))]) (by decide) rfl rfl (Nat.le_of_ble_eq_true rfl) rfl ?_
  intro p e s m below meth c ls A hx hb hr hml hown hts hlocks hE hP hD hAB hS hl
  have hCF : CallFix p m c cX1_tellingToe 5 s ([.ref (a 0)] : List Value).toArray wsX1_tellingToe RX1 := ⟨hx, hb, hml, hown, hts⟩
  rw [f_X1_tellingToe] at hf
  refine lv_iconst (v := (0 : Int32)) hx hb dX1_tellingToe_0 (by decide) ?_
  refine lv_istore_n (lv' := [(1, .int (0 : Int32)), (0, .ref (a 0))]) hx hb dX1_tellingToe_1 rfl hl (by decide) rfl (fun ls hl => ?_)
  refine lv_bipush (v := (9 : Int32)) hx hb dX1_tellingToe_2 (by decide) ?_
  refine lv_istore_n (lv' := [(2, .int (9 : Int32)), (1, .int (0 : Int32)), (0, .ref (a 0))]) hx hb dX1_tellingToe_4 rfl hl (by decide) rfl (fun ls hl => ?_)
  refine lv_iconst (v := (0 : Int32)) hx hb dX1_tellingToe_5 (by decide) ?_
  refine lv_istore_n (lv' := [(3, .int (0 : Int32)), (2, .int (9 : Int32)), (1, .int (0 : Int32)), (0, .ref (a 0))]) hx hb dX1_tellingToe_6 rfl hl (by decide) rfl (fun ls hl => ?_)
  have L7_343 : ∀ (n : Nat) (x1_340 : Int32) (x2_341 : Int32) (x3_342 : Int32) (H : Heap) (locs : List Loc) (ls : Array Slot), va_P (gD G) vwCl (vW G a v) H → va_D A (vW G a v) → va_S A s.heap H locs → lv_has ls 5 [(0, .ref (a 0)), (1, .int x1_340), (2, .int x2_341), (3, .int x3_342)] → f_X1_tellingToe_7 v n x1_340 x2_341 x3_342 = some r → W p l e (headSpec wsX1_tellingToe ({ frames := 4, cells := 0, slots := 0, locals := 94 } : Room)).room s m ([.ref (a 0)] : List Value).toArray below meth c H locs 0 0 (MQ below (FQ G A (vW G a v) (some (.int r))) ([.ref (a 0)] : List Value).toArray s 0 0 A) (F0 m 7 ls []) := by
    intro n
    induction n with
    | zero =>
      intro x1_340 x2_341 x3_342 H locs ls hP hD hS hl hf
      exact no_some hf
    | succ n ih =>
      intro x1_340 x2_341 x3_342 H locs ls hP hD hS hl hf
      rw [f_X1_tellingToe_7] at hf
      refine lv_iload_n hx hb dX1_tellingToe_7 rfl (lv_at hl 3 rfl) ?_
      refine lv_bipush (v := (6 : Int32)) hx hb dX1_tellingToe_8 (by decide) ?_
      refine lv_icmp_ge (tgt := 37) hx hb dX1_tellingToe_10 (by decide) (fun c344 => ?_) (fun c344 => ?_)
      · have hf := ifT hf c344
        refine lv_iload_n hx hb dX1_tellingToe_37 rfl (lv_at hl 1 rfl) ?_
        exact fc_reti hx hb hr hlocks hP hS dX1_tellingToe_38 (i1 hf) rfl
      · have hf := ifF hf c344
        refine lv_aload_n hx hb dX1_tellingToe_13 rfl (lv_at hl 0 rfl) ?_
        refine lv_iload_n hx hb dX1_tellingToe_14 rfl (lv_at hl 3 rfl) ?_
        obtain ⟨q345, hq345, hf⟩ := bnd hf
        refine fc_callS (Wa' := (vW G a v)) (st1 := [.int q345]) (As := [.ref (a 0), .int x3_342]) (rest := []) hCF (k_X1_howFarApart a v x3_342 hq345) (va_cwS 2 hts gX1_tellingToe_X1_howFarApart rfl rfl rfl dk_X1_howFarApart ⟨Nat.le_of_ble_eq_true rfl, Nat.le_of_ble_eq_true rfl⟩) hE hAB hP hD hS [0, 1, 2, 3, 4, 5, 6, 7] rfl rfl rfl rfl rfl rfl hl.1 rfl (Nat.le_of_ble_eq_true rfl) dX1_tellingToe_15 ⟨Nat.le_refl _, Nat.le_refl _⟩ (fun H locs hP hD hS => ?_)
        refine lv_istore (lv' := [(4, .int q345), (0, .ref (a 0)), (1, .int x1_340), (2, .int x2_341), (3, .int x3_342)]) hx hb dX1_tellingToe_18 hl (by decide) rfl (fun ls hl => ?_)
        refine lv_iload hx hb dX1_tellingToe_20 (lv_at hl 0 rfl) ?_
        refine lv_iload_n hx hb dX1_tellingToe_22 rfl (lv_at hl 3 rfl) ?_
        refine lv_icmp_ge (tgt := 31) hx hb dX1_tellingToe_23 (by decide) (fun c346 => ?_) (fun c346 => ?_)
        · have hf := ifT hf c346
          refine lv_iinc (v := (x3_342 + (1 : Int32))) (lv' := [(3, .int (x3_342 + (1 : Int32))), (4, .int q345), (0, .ref (a 0)), (1, .int x1_340), (2, .int x2_341)]) hx hb dX1_tellingToe_31 hl (k := 4) rfl rfl (by decide) rfl (fun ls hl => ?_)
          refine lv_goto (tgt := 7) hx hb dX1_tellingToe_34 (by decide) ?_
          exact ih x1_340 x2_341 (x3_342 + (1 : Int32)) _ _ _ hP hD hS (lv_sub hl [2, 3, 4, 0] rfl) hf
        · have hf := ifF hf c346
          refine lv_iload hx hb dX1_tellingToe_26 (lv_at hl 0 rfl) ?_
          refine lv_istore_n (lv' := [(2, .int q345), (4, .int q345), (0, .ref (a 0)), (1, .int x1_340), (3, .int x3_342)]) hx hb dX1_tellingToe_28 rfl hl (by decide) rfl (fun ls hl => ?_)
          refine lv_iload_n hx hb dX1_tellingToe_29 rfl (lv_at hl 4 rfl) ?_
          refine lv_istore_n (lv' := [(1, .int x3_342), (2, .int q345), (4, .int q345), (0, .ref (a 0)), (3, .int x3_342)]) hx hb dX1_tellingToe_30 rfl hl (by decide) rfl (fun ls hl => ?_)
          refine lv_iinc (v := (x3_342 + (1 : Int32))) (lv' := [(3, .int (x3_342 + (1 : Int32))), (1, .int x3_342), (2, .int q345), (4, .int q345), (0, .ref (a 0))]) hx hb dX1_tellingToe_31 hl (k := 4) rfl rfl (by decide) rfl (fun ls hl => ?_)
          refine lv_goto (tgt := 7) hx hb dX1_tellingToe_34 (by decide) ?_
          exact ih x3_342 q345 (x3_342 + (1 : Int32)) _ _ _ hP hD hS (lv_sub hl [4, 1, 2, 0] rfl) hf
  exact L7_343 FUEL (0 : Int32) (9 : Int32) (0 : Int32) _ _ _ hP hD hS (lv_sub hl [3, 2, 1, 0] rfl) hf
theorem dk_X1_twos : yX1_twos.cls ≠ "java/lang/invoke/MethodHandle" ∧ yX1_twos.cls ≠ "java/lang/invoke/VarHandle" ∧ (parseMethodDescriptor yX1_twos.desc).map (fun d => d.parameters.length) = some 1 := by decide +kernel
theorem iu_X1_twos_X6 : ∀ w ∈ u_ws RX6 TX6 12, w ∈ wsX1_twos := by decide +kernel
set_option maxHeartbeats 4000000 in
set_option maxRecDepth 100000 in
theorem k_X1_twos {l : Launch} {G : Gx} (a : Nat → Nat) (v : St) {r : Int32} (hf : f_X1_twos v = some r) : FC l G yX1_twos wsX1_twos ({ frames := 4, cells := 0, slots := 0, locals := 94 } : Room) [.ref (a 0)] (vW G a v) (vW G a v) (some (.int r)) := by
  refine fc_head (cc := cX1_twos) (maxL := 4) (ret := (some .int)) (C := RX1) (lv := [(0, .ref (a 0))]) (by decide) rfl rfl (Nat.le_of_ble_eq_true rfl) rfl ?_
  intro p e s m below meth c ls A hx hb hr hml hown hts hlocks hE hP hD hAB hS hl
  have hCF : CallFix p m c cX1_twos 4 s ([.ref (a 0)] : List Value).toArray wsX1_twos RX1 := ⟨hx, hb, hml, hown, hts⟩
  have hwX6 : ∀ w ∈ u_ws RX6 TX6 12, w.before ([.ref (a 0)] : List Value).toArray s = true := fun w h => hts w (iu_X1_twos_X6 w h)
  have hk_fieldLink_RX1_19__BrideNotKnown_Valley___brideCount___I_ := hts (.fieldLink RX1 19 "BrideNotKnown$Valley" "brideCount" "I") (List.mem_of_getElem? (i := 1) rfl)
  rw [f_X1_twos] at hf
  refine lv_iconst (v := (0 : Int32)) hx hb dX1_twos_0 (by decide) ?_
  refine lv_istore_n (lv' := [(1, .int (0 : Int32)), (0, .ref (a 0))]) hx hb dX1_twos_1 rfl hl (by decide) rfl (fun ls hl => ?_)
  refine lv_iconst (v := (0 : Int32)) hx hb dX1_twos_2 (by decide) ?_
  refine lv_istore_n (lv' := [(2, .int (0 : Int32)), (1, .int (0 : Int32)), (0, .ref (a 0))]) hx hb dX1_twos_3 rfl hl (by decide) rfl (fun ls hl => ?_)
  have L4_351 : ∀ (n : Nat) (x1_349 : Int32) (x2_350 : Int32) (H : Heap) (locs : List Loc) (ls : Array Slot), va_P (gD G) vwCl (vW G a v) H → va_D A (vW G a v) → va_S A s.heap H locs → lv_has ls 4 [(0, .ref (a 0)), (1, .int x1_349), (2, .int x2_350)] → f_X1_twos_4 v n x1_349 x2_350 = some r → W p l e (headSpec wsX1_twos ({ frames := 4, cells := 0, slots := 0, locals := 94 } : Room)).room s m ([.ref (a 0)] : List Value).toArray below meth c H locs 0 0 (MQ below (FQ G A (vW G a v) (some (.int r))) ([.ref (a 0)] : List Value).toArray s 0 0 A) (F0 m 4 ls []) := by
    intro n
    induction n with
    | zero =>
      intro x1_349 x2_350 H locs ls hP hD hS hl hf
      exact no_some hf
    | succ n ih =>
      intro x1_349 x2_350 H locs ls hP hD hS hl hf
      rw [f_X1_twos_4] at hf
      refine lv_iload_n hx hb dX1_twos_4 rfl (lv_at hl 2 rfl) ?_
      refine lv_aload_n hx hb dX1_twos_5 rfl (lv_at hl 0 rfl) ?_
      refine fc_get (v := .int (v 7 1)) (ci := 3) (C := RX6) (T := TX6) (N := 12) hx hb hwX6 hown hE hP 0 rfl rfl 1 (by decide) hk_fieldLink_RX1_19__BrideNotKnown_Valley___brideCount___I_ (fun _ h => h) rfl dX1_twos_6 ?_
      refine lv_icmp_ge (tgt := 50) hx hb dX1_twos_9 (by decide) (fun c352 => ?_) (fun c352 => ?_)
      · have hf := ifT hf c352
        refine lv_iload_n hx hb dX1_twos_50 rfl (lv_at hl 1 rfl) ?_
        exact fc_reti hx hb hr hlocks hP hS dX1_twos_51 (i1 hf) rfl
      · have hf := ifF hf c352
        refine lv_iload_n hx hb dX1_twos_12 rfl (lv_at hl 2 rfl) ?_
        refine lv_iconst (v := (1 : Int32)) hx hb dX1_twos_13 (by decide) ?_
        refine lv_iadd hx hb dX1_twos_14 ?_
        refine lv_istore_n (lv' := [(3, .int (x2_350 + (1 : Int32))), (0, .ref (a 0)), (1, .int x1_349), (2, .int x2_350)]) hx hb dX1_twos_15 rfl hl (by decide) rfl (fun ls hl => ?_)
        have L16_355 : ∀ (K16_44 : Int32 → Option (Int32)) (hK16_44 : ∀ (x1_356 : Int32) (H : Heap) (locs : List Loc) (ls : Array Slot), va_P (gD G) vwCl (vW G a v) H → va_D A (vW G a v) → va_S A s.heap H locs → lv_has ls 4 [(0, .ref (a 0)), (1, .int x1_356), (2, .int x2_350)] → K16_44 x1_356 = some r → W p l e (headSpec wsX1_twos ({ frames := 4, cells := 0, slots := 0, locals := 94 } : Room)).room s m ([.ref (a 0)] : List Value).toArray below meth c H locs 0 0 (MQ below (FQ G A (vW G a v) (some (.int r))) ([.ref (a 0)] : List Value).toArray s 0 0 A) (F0 m 44 ls [])) (n : Nat) (x1_353 : Int32) (x3_354 : Int32) (H : Heap) (locs : List Loc) (ls : Array Slot), va_P (gD G) vwCl (vW G a v) H → va_D A (vW G a v) → va_S A s.heap H locs → lv_has ls 4 [(0, .ref (a 0)), (1, .int x1_353), (2, .int x2_350), (3, .int x3_354)] → f_X1_twos_16 v x2_350 n x1_353 x3_354 K16_44 = some r → W p l e (headSpec wsX1_twos ({ frames := 4, cells := 0, slots := 0, locals := 94 } : Room)).room s m ([.ref (a 0)] : List Value).toArray below meth c H locs 0 0 (MQ below (FQ G A (vW G a v) (some (.int r))) ([.ref (a 0)] : List Value).toArray s 0 0 A) (F0 m 16 ls []) := by
          intro K16_44 hK16_44 n
          induction n with
          | zero =>
            intro x1_353 x3_354 H locs ls hP hD hS hl hf
            exact no_some hf
          | succ n ih =>
            intro x1_353 x3_354 H locs ls hP hD hS hl hf
            rw [f_X1_twos_16] at hf
            refine lv_iload_n hx hb dX1_twos_16 rfl (lv_at hl 3 rfl) ?_
            refine lv_aload_n hx hb dX1_twos_17 rfl (lv_at hl 0 rfl) ?_
            refine fc_get (v := .int (v 7 1)) (ci := 3) (C := RX6) (T := TX6) (N := 12) hx hb hwX6 hown hE hP 0 rfl rfl 1 (by decide) hk_fieldLink_RX1_19__BrideNotKnown_Valley___brideCount___I_ (fun _ h => h) rfl dX1_twos_18 ?_
            refine lv_icmp_ge (tgt := 44) hx hb dX1_twos_21 (by decide) (fun c357 => ?_) (fun c357 => ?_)
            · have hf := ifT hf c357
              exact hK16_44 x1_353 _ _ _ hP hD hS (lv_sub hl [0, 1, 2] rfl) hf
            · have hf := ifF hf c357
              refine lv_aload_n hx hb dX1_twos_24 rfl (lv_at hl 0 rfl) ?_
              refine lv_iload_n hx hb dX1_twos_25 rfl (lv_at hl 2 rfl) ?_
              refine lv_iload_n hx hb dX1_twos_26 rfl (lv_at hl 3 rfl) ?_
              refine lv_bipush (v := (63 : Int32)) hx hb dX1_twos_27 (by decide) ?_
              obtain ⟨q358, hq358, hf⟩ := bnd hf
              refine fc_callS (Wa' := (vW G a v)) (st1 := [.int q358]) (As := [.ref (a 0), .int x2_350, .int x3_354, .int (63 : Int32)]) (rest := []) hCF (k_X1_areAlike a v x2_350 x3_354 (63 : Int32) hq358) (va_cwS 4 hts gX1_twos_X1_areAlike rfl rfl rfl dk_X1_areAlike ⟨Nat.le_of_ble_eq_true rfl, Nat.le_of_ble_eq_true rfl⟩) hE hAB hP hD hS [0, 1, 2, 3, 4, 5, 6, 7] rfl rfl rfl rfl rfl rfl hl.1 rfl (Nat.le_of_ble_eq_true rfl) dX1_twos_29 ⟨Nat.le_refl _, Nat.le_refl _⟩ (fun H locs hP hD hS => ?_)
              refine lv_if_eq (tgt := 38) hx hb dX1_twos_32 (by decide) (fun c359 => ?_) (fun c359 => ?_)
              · have hf := ifT hf c359
                refine lv_iinc (v := (x3_354 + (1 : Int32))) (lv' := [(3, .int (x3_354 + (1 : Int32))), (0, .ref (a 0)), (1, .int x1_353), (2, .int x2_350)]) hx hb dX1_twos_38 hl (k := 3) rfl rfl (by decide) rfl (fun ls hl => ?_)
                refine lv_goto (tgt := 16) hx hb dX1_twos_41 (by decide) ?_
                exact ih x1_353 (x3_354 + (1 : Int32)) _ _ _ hP hD hS (lv_sub hl [1, 2, 3, 0] rfl) hf
              · have hf := ifF hf c359
                refine lv_iinc (v := (x1_353 + (1 : Int32))) (lv' := [(1, .int (x1_353 + (1 : Int32))), (0, .ref (a 0)), (2, .int x2_350), (3, .int x3_354)]) hx hb dX1_twos_35 hl (k := 1) rfl rfl (by decide) rfl (fun ls hl => ?_)
                refine lv_iinc (v := (x3_354 + (1 : Int32))) (lv' := [(3, .int (x3_354 + (1 : Int32))), (1, .int (x1_353 + (1 : Int32))), (0, .ref (a 0)), (2, .int x2_350)]) hx hb dX1_twos_38 hl (k := 3) rfl rfl (by decide) rfl (fun ls hl => ?_)
                refine lv_goto (tgt := 16) hx hb dX1_twos_41 (by decide) ?_
                exact ih (x1_353 + (1 : Int32)) (x3_354 + (1 : Int32)) _ _ _ hP hD hS (lv_sub hl [2, 1, 3, 0] rfl) hf
        refine L16_355 _ ?_ FUEL x1_349 (x2_350 + (1 : Int32)) _ _ _ hP hD hS (lv_sub hl [1, 2, 3, 0] rfl) hf
        intro x1_360 H locs ls hP hD hS hl hf
        refine lv_iinc (v := (x2_350 + (1 : Int32))) (lv' := [(2, .int (x2_350 + (1 : Int32))), (0, .ref (a 0)), (1, .int x1_360)]) hx hb dX1_twos_44 hl (k := 2) rfl rfl (by decide) rfl (fun ls hl => ?_)
        refine lv_goto (tgt := 4) hx hb dX1_twos_47 (by decide) ?_
        exact ih x1_360 (x2_350 + (1 : Int32)) _ _ _ hP hD hS (lv_sub hl [1, 2, 0] rfl) hf
  exact L4_351 FUEL (0 : Int32) (0 : Int32) _ _ _ hP hD hS (lv_sub hl [2, 1, 0] rfl) hf
theorem dk_X2_greatestDivisor : yX2_greatestDivisor.cls ≠ "java/lang/invoke/MethodHandle" ∧ yX2_greatestDivisor.cls ≠ "java/lang/invoke/VarHandle" ∧ (parseMethodDescriptor yX2_greatestDivisor.desc).map (fun d => d.parameters.length) = some 2 := by decide +kernel
set_option maxHeartbeats 4000000 in
set_option maxRecDepth 100000 in
theorem k_X2_greatestDivisor {l : Launch} {G : Gx} (y0 : Int64) (y2 : Int64) {r : Int64} (hf : f_X2_greatestDivisor y0 y2 = some r) : FC l G yX2_greatestDivisor wsX2_greatestDivisor ({ frames := 0, cells := 0, slots := 0, locals := 0 } : Room) [.long y0, .long y2] ([] : va_W) ([] : va_W) (some (.long r)) := by
  refine fc_head (cc := cX2_greatestDivisor) (maxL := 11) (ret := (some .long)) (C := RX2) (lv := [(0, .long y0), (2, .long y2)]) (by decide) rfl rfl (Nat.le_of_ble_eq_true rfl) rfl ?_
  intro p e s m below meth c ls A hx hb hr hml hown hts hlocks hE hP hD hAB hS hl
  have hCF : CallFix p m c cX2_greatestDivisor 11 s ([.long y0, .long y2] : List Value).toArray wsX2_greatestDivisor RX2 := ⟨hx, hb, hml, hown, hts⟩
  rw [f_X2_greatestDivisor] at hf
  refine lv_lload_n hx hb dX2_greatestDivisor_0 rfl (lv_at hl 0 rfl) ?_
  refine lv_lstore (lv' := [(4, .long y0), (0, .long y0), (2, .long y2)]) hx hb dX2_greatestDivisor_1 hl (by decide) rfl (fun ls hl => ?_)
  refine lv_lload_n hx hb dX2_greatestDivisor_3 rfl (lv_at hl 2 rfl) ?_
  refine lv_lstore (lv' := [(6, .long y2), (4, .long y0), (0, .long y0), (2, .long y2)]) hx hb dX2_greatestDivisor_4 hl (by decide) rfl (fun ls hl => ?_)
  refine lv_iconst (v := (0 : Int32)) hx hb dX2_greatestDivisor_6 (by decide) ?_
  refine lv_istore (lv' := [(8, .int (0 : Int32)), (6, .long y2), (4, .long y0), (0, .long y0), (2, .long y2)]) hx hb dX2_greatestDivisor_7 hl (by decide) rfl (fun ls hl => ?_)
  have L9_364 : ∀ (n : Nat) (y4_361 : Int64) (y6_362 : Int64) (x8_363 : Int32) (H : Heap) (locs : List Loc) (ls : Array Slot), va_P (gD G) vwCl ([] : va_W) H → va_D A ([] : va_W) → va_S A s.heap H locs → lv_has ls 11 [(4, .long y4_361), (6, .long y6_362), (8, .int x8_363)] → f_X2_greatestDivisor_9 n y4_361 y6_362 x8_363 = some r → W p l e (headSpec wsX2_greatestDivisor ({ frames := 0, cells := 0, slots := 0, locals := 0 } : Room)).room s m ([.long y0, .long y2] : List Value).toArray below meth c H locs 0 0 (MQ below (FQ G A ([] : va_W) (some (.long r))) ([.long y0, .long y2] : List Value).toArray s 0 0 A) (F0 m 9 ls []) := by
    intro n
    induction n with
    | zero =>
      intro y4_361 y6_362 x8_363 H locs ls hP hD hS hl hf
      exact no_some hf
    | succ n ih =>
      intro y4_361 y6_362 x8_363 H locs ls hP hD hS hl hf
      rw [f_X2_greatestDivisor_9] at hf
      refine lv_iload hx hb dX2_greatestDivisor_9 (lv_at hl 2 rfl) ?_
      refine lv_bipush (v := (100 : Int32)) hx hb dX2_greatestDivisor_11 (by decide) ?_
      refine lv_icmp_ge (tgt := 44) hx hb dX2_greatestDivisor_13 (by decide) (fun c365 => ?_) (fun c365 => ?_)
      · have hf := ifT hf c365
        refine lv_lload hx hb dX2_greatestDivisor_44 (lv_at hl 0 rfl) ?_
        exact fc_retl hx hb hr hlocks hP hS dX2_greatestDivisor_46 (i1 hf) rfl
      · have hf := ifF hf c365
        refine lv_lload hx hb dX2_greatestDivisor_16 (lv_at hl 1 rfl) ?_
        refine lv_lconst (v := (0 : Int64)) hx hb dX2_greatestDivisor_18 (by decide) ?_
        refine W.lcmp hx hb dX2_greatestDivisor_19 ?_
        refine lv_if_eq (tgt := 44) hx hb dX2_greatestDivisor_20 (by decide) (fun c366 => ?_) (fun c366 => ?_)
        · have hf := ifT hf c366
          refine lv_lload hx hb dX2_greatestDivisor_44 (lv_at hl 0 rfl) ?_
          exact fc_retl hx hb hr hlocks hP hS dX2_greatestDivisor_46 (i1 hf) rfl
        · have hf := ifF hf c366
          refine lv_lload hx hb dX2_greatestDivisor_23 (lv_at hl 0 rfl) ?_
          refine lv_lload hx hb dX2_greatestDivisor_25 (lv_at hl 1 rfl) ?_
          obtain ⟨c367, hf⟩ := gd_some hf
          refine lv_lrem hx hb dX2_greatestDivisor_27 (nzL_ne c367) ?_
          refine lv_lstore (lv' := [(9, .long (y4_361 - y4_361 / y6_362 * y6_362)), (4, .long y4_361), (6, .long y6_362), (8, .int x8_363)]) hx hb dX2_greatestDivisor_28 hl (by decide) rfl (fun ls hl => ?_)
          refine lv_lload hx hb dX2_greatestDivisor_30 (lv_at hl 2 rfl) ?_
          refine lv_lstore (lv' := [(4, .long y6_362), (9, .long (y4_361 - y4_361 / y6_362 * y6_362)), (6, .long y6_362), (8, .int x8_363)]) hx hb dX2_greatestDivisor_32 hl (by decide) rfl (fun ls hl => ?_)
          refine lv_lload hx hb dX2_greatestDivisor_34 (lv_at hl 1 rfl) ?_
          refine lv_lstore (lv' := [(6, .long (y4_361 - y4_361 / y6_362 * y6_362)), (4, .long y6_362), (9, .long (y4_361 - y4_361 / y6_362 * y6_362)), (8, .int x8_363)]) hx hb dX2_greatestDivisor_36 hl (by decide) rfl (fun ls hl => ?_)
          refine lv_iinc (v := (x8_363 + (1 : Int32))) (lv' := [(8, .int (x8_363 + (1 : Int32))), (6, .long (y4_361 - y4_361 / y6_362 * y6_362)), (4, .long y6_362), (9, .long (y4_361 - y4_361 / y6_362 * y6_362))]) hx hb dX2_greatestDivisor_38 hl (k := 3) rfl rfl (by decide) rfl (fun ls hl => ?_)
          refine lv_goto (tgt := 9) hx hb dX2_greatestDivisor_41 (by decide) ?_
          exact ih y6_362 (y4_361 - y4_361 / y6_362 * y6_362) (x8_363 + (1 : Int32)) _ _ _ hP hD hS (lv_sub hl [2, 1, 0] rfl) hf
  exact L9_364 FUEL y0 y2 (0 : Int32) _ _ _ hP hD hS (lv_sub hl [2, 1, 0] rfl) hf
theorem dk_X2_partOf : yX2_partOf.cls ≠ "java/lang/invoke/MethodHandle" ∧ yX2_partOf.cls ≠ "java/lang/invoke/VarHandle" ∧ (parseMethodDescriptor yX2_partOf.desc).map (fun d => d.parameters.length) = some 3 := by decide +kernel
set_option maxHeartbeats 4000000 in
set_option maxRecDepth 100000 in
theorem k_X2_partOf {l : Launch} {G : Gx} (y0 : Int64) (y2 : Int64) (x4 : Int32) {r : Int64} (hf : f_X2_partOf y0 y2 x4 = some r) : FC l G yX2_partOf wsX2_partOf ({ frames := 1, cells := 0, slots := 0, locals := 30 } : Room) [.long y0, .long y2, .int x4] ([] : va_W) ([] : va_W) (some (.long r)) := by
  refine fc_head (cc := cX2_partOf) (maxL := 7) (ret := (some .long)) (C := RX2) (lv := [(0, .long y0), (2, .long y2), (4, .int x4)]) (by decide) rfl rfl (Nat.le_of_ble_eq_true rfl) rfl ?_
  intro p e s m below meth c ls A hx hb hr hml hown hts hlocks hE hP hD hAB hS hl
  have hCF : CallFix p m c cX2_partOf 7 s ([.long y0, .long y2, .int x4] : List Value).toArray wsX2_partOf RX2 := ⟨hx, hb, hml, hown, hts⟩
  rw [f_X2_partOf] at hf
  refine lv_lload_n hx hb dX2_partOf_0 rfl (lv_at hl 0 rfl) ?_
  refine lv_lload_n hx hb dX2_partOf_1 rfl (lv_at hl 1 rfl) ?_
  obtain ⟨q369, hq369, hf⟩ := bnd hf
  refine fc_callS (Wa' := ([] : va_W)) (st1 := [.long q369]) (As := [.long y0, .long y2]) (rest := []) hCF (k_X2_greatestDivisor y0 y2 hq369) (va_cwS 2 hts gX2_partOf_X2_greatestDivisor rfl rfl rfl dk_X2_greatestDivisor ⟨Nat.le_of_ble_eq_true rfl, Nat.le_of_ble_eq_true rfl⟩) hE hAB hP hD hS [] rfl rfl rfl rfl rfl rfl hl.1 rfl (Nat.le_of_ble_eq_true rfl) dX2_partOf_2 ⟨Nat.le_refl _, Nat.le_refl _⟩ (fun H locs hP hD hS => ?_)
  refine lv_lstore (lv' := [(5, .long q369), (0, .long y0), (2, .long y2), (4, .int x4)]) hx hb dX2_partOf_5 hl (by decide) rfl (fun ls hl => ?_)
  refine lv_lload hx hb dX2_partOf_7 (lv_at hl 0 rfl) ?_
  refine lv_lconst (v := (0 : Int64)) hx hb dX2_partOf_9 (by decide) ?_
  refine W.lcmp hx hb dX2_partOf_10 ?_
  refine lv_if_ne (tgt := 18) hx hb dX2_partOf_11 (by decide) (fun c370 => ?_) (fun c370 => ?_)
  · have hf := ifF hf c370
    refine lv_iload hx hb dX2_partOf_18 (lv_at hl 3 rfl) ?_
    refine lv_if_ne (tgt := 27) hx hb dX2_partOf_20 (by decide) (fun c371 => ?_) (fun c371 => ?_)
    · have hf := ifF hf c371
      refine lv_lload_n hx hb dX2_partOf_27 rfl (lv_at hl 2 rfl) ?_
      refine lv_lload hx hb dX2_partOf_28 (lv_at hl 0 rfl) ?_
      obtain ⟨c372, hf⟩ := gd_some hf
      refine lv_ldiv hx hb dX2_partOf_30 (nzL_ne c372) ?_
      exact fc_retl hx hb hr hlocks hP hS dX2_partOf_31 (i1 hf) rfl
    · have hf := ifT hf c371
      refine lv_lload_n hx hb dX2_partOf_23 rfl (lv_at hl 1 rfl) ?_
      refine lv_goto (tgt := 28) hx hb dX2_partOf_24 (by decide) ?_
      refine lv_lload hx hb dX2_partOf_28 (lv_at hl 0 rfl) ?_
      obtain ⟨c373, hf⟩ := gd_some hf
      refine lv_ldiv hx hb dX2_partOf_30 (nzL_ne c373) ?_
      exact fc_retl hx hb hr hlocks hP hS dX2_partOf_31 (i1 hf) rfl
  · have hf := ifT hf c370
    refine lv_iload hx hb dX2_partOf_14 (lv_at hl 3 rfl) ?_
    refine lv_i2l (v := x4.toInt64) hx hb dX2_partOf_16 rfl ?_
    exact fc_retl hx hb hr hlocks hP hS dX2_partOf_17 (i1 hf) rfl
theorem dk_X2_meanToes : yX2_meanToes.cls ≠ "java/lang/invoke/MethodHandle" ∧ yX2_meanToes.cls ≠ "java/lang/invoke/VarHandle" ∧ (parseMethodDescriptor yX2_meanToes.desc).map (fun d => d.parameters.length) = some 2 := by decide +kernel
theorem iu_X2_meanToes_X6 : ∀ w ∈ u_ws RX6 TX6 12, w ∈ wsX2_meanToes := by decide +kernel
set_option maxHeartbeats 4000000 in
set_option maxRecDepth 100000 in
theorem k_X2_meanToes {l : Launch} {G : Gx} (a : Nat → Nat) (v : St) (x1 : Int32) {r : Int64} (hf : f_X2_meanToes v x1 = some r) : FC l G yX2_meanToes wsX2_meanToes ({ frames := 2, cells := 0, slots := 0, locals := 56 } : Room) [.ref (a 0), .int x1] (vW G a v) (vW G a v) (some (.long r)) := by
  refine fc_head (cc := cX2_meanToes) (maxL := 5) (ret := (some .long)) (C := RX2) (lv := [(0, .ref (a 0)), (1, .int x1)]) (by decide) rfl rfl (Nat.le_of_ble_eq_true rfl) rfl ?_
  intro p e s m below meth c ls A hx hb hr hml hown hts hlocks hE hP hD hAB hS hl
  have hCF : CallFix p m c cX2_meanToes 5 s ([.ref (a 0), .int x1] : List Value).toArray wsX2_meanToes RX2 := ⟨hx, hb, hml, hown, hts⟩
  have hwX6 : ∀ w ∈ u_ws RX6 TX6 12, w.before ([.ref (a 0), .int x1] : List Value).toArray s = true := fun w h => hts w (iu_X2_meanToes_X6 w h)
  have hk_fieldLink_RX2_44__BrideNotKnown_Valley___brideCount___I_ := hts (.fieldLink RX2 44 "BrideNotKnown$Valley" "brideCount" "I") (List.mem_of_getElem? (i := 1) rfl)
  have hk_methodLink_RX2_26_Lib_Math_max_name := hts (.methodLink RX2 26 Lib.Math.max.name) (List.mem_of_getElem? (i := 2) rfl)
  have hk_static_Lib_Math_max_name := hts (.static Lib.Math.max.name) (List.mem_of_getElem? (i := 3) rfl)
  have hk_initialized__java_lang_Math_ := hts (.initialized "java/lang/Math") (List.mem_of_getElem? (i := 4) rfl)
  have hk_code_Lib_Math_max_name_Lib_Math_max_code_2__some__int_ := hts (.code Lib.Math.max.name Lib.Math.max.code 2 (some .int)) (List.mem_of_getElem? (i := 5) rfl)
  rw [f_X2_meanToes] at hf
  refine lv_lconst (v := (0 : Int64)) hx hb dX2_meanToes_0 (by decide) ?_
  refine lv_lstore_n (lv' := [(2, .long (0 : Int64)), (0, .ref (a 0)), (1, .int x1)]) hx hb dX2_meanToes_1 rfl hl (by decide) rfl (fun ls hl => ?_)
  refine lv_iconst (v := (0 : Int32)) hx hb dX2_meanToes_2 (by decide) ?_
  refine lv_istore (lv' := [(4, .int (0 : Int32)), (2, .long (0 : Int64)), (0, .ref (a 0)), (1, .int x1)]) hx hb dX2_meanToes_3 hl (by decide) rfl (fun ls hl => ?_)
  have L5_380 : ∀ (K5_33 : Int64 → Option (Int64)) (hK5_33 : ∀ (y2_381 : Int64) (H : Heap) (locs : List Loc) (ls : Array Slot), va_P (gD G) vwCl (vW G a v) H → va_D A (vW G a v) → va_S A s.heap H locs → lv_has ls 5 [(0, .ref (a 0)), (1, .int x1), (2, .long y2_381)] → K5_33 y2_381 = some r → W p l e (headSpec wsX2_meanToes ({ frames := 2, cells := 0, slots := 0, locals := 56 } : Room)).room s m ([.ref (a 0), .int x1] : List Value).toArray below meth c H locs 0 0 (MQ below (FQ G A (vW G a v) (some (.long r))) ([.ref (a 0), .int x1] : List Value).toArray s 0 0 A) (F0 m 33 ls [])) (n : Nat) (y2_378 : Int64) (x4_379 : Int32) (H : Heap) (locs : List Loc) (ls : Array Slot), va_P (gD G) vwCl (vW G a v) H → va_D A (vW G a v) → va_S A s.heap H locs → lv_has ls 5 [(0, .ref (a 0)), (1, .int x1), (2, .long y2_378), (4, .int x4_379)] → f_X2_meanToes_5 v n y2_378 x4_379 K5_33 = some r → W p l e (headSpec wsX2_meanToes ({ frames := 2, cells := 0, slots := 0, locals := 56 } : Room)).room s m ([.ref (a 0), .int x1] : List Value).toArray below meth c H locs 0 0 (MQ below (FQ G A (vW G a v) (some (.long r))) ([.ref (a 0), .int x1] : List Value).toArray s 0 0 A) (F0 m 5 ls []) := by
    intro K5_33 hK5_33 n
    induction n with
    | zero =>
      intro y2_378 x4_379 H locs ls hP hD hS hl hf
      exact no_some hf
    | succ n ih =>
      intro y2_378 x4_379 H locs ls hP hD hS hl hf
      rw [f_X2_meanToes_5] at hf
      refine lv_iload hx hb dX2_meanToes_5 (lv_at hl 3 rfl) ?_
      refine lv_aload_n hx hb dX2_meanToes_7 rfl (lv_at hl 0 rfl) ?_
      refine fc_get (v := .int (v 7 1)) (ci := 3) (C := RX6) (T := TX6) (N := 12) hx hb hwX6 hown hE hP 0 rfl rfl 1 (by decide) hk_fieldLink_RX2_44__BrideNotKnown_Valley___brideCount___I_ (fun _ h => h) rfl dX2_meanToes_8 ?_
      refine lv_icmp_ge (tgt := 33) hx hb dX2_meanToes_11 (by decide) (fun c382 => ?_) (fun c382 => ?_)
      · have hf := ifT hf c382
        exact hK5_33 y2_378 _ _ _ hP hD hS (lv_sub hl [0, 1, 2] rfl) hf
      · have hf := ifF hf c382
        refine lv_lload_n hx hb dX2_meanToes_14 rfl (lv_at hl 2 rfl) ?_
        refine lv_aload_n hx hb dX2_meanToes_15 rfl (lv_at hl 0 rfl) ?_
        refine lv_iload hx hb dX2_meanToes_16 (lv_at hl 3 rfl) ?_
        obtain ⟨q383, hq383, hf⟩ := bnd hf
        refine fc_callV (Wa' := (vW G a v)) (st1 := [.int q383, .long y2_378]) (As := [.int x4_379]) (rest := [.long y2_378]) hCF (k_X6_footOf a v x4_379 hq383) (cwV 1 hts gX2_meanToes_X6_footOf rfl rfl rfl ⟨rfl, dk_X6_footOf⟩ ⟨Nat.le_of_ble_eq_true rfl, Nat.le_of_ble_eq_true rfl⟩) hE hAB hP hD hS [0, 1, 2, 3, 4, 5, 6, 7] rfl rfl (va_recv hE.1 hP (ci := 3) (q0 := 0) rfl rfl) rfl rfl rfl rfl hl.1 rfl (Nat.le_of_ble_eq_true rfl) dX2_meanToes_18 ⟨Nat.le_refl _, Nat.le_refl _⟩ (fun H locs hP hD hS => ?_)
        obtain ⟨q384, hq384, hf⟩ := bnd hf
        refine fc_callS (Wa' := (vW G a v)) (st1 := [.int q384, .long y2_378]) (As := [.int q383]) (rest := [.long y2_378]) hCF (k_J6_bitCount_0f7a4 q383 hq384) (va_cwS 1 hts gX2_meanToes_J6_bitCount_0f7a4 rfl rfl rfl dk_J6_bitCount_0f7a4 ⟨Nat.le_of_ble_eq_true rfl, Nat.le_of_ble_eq_true rfl⟩) hE hAB hP hD hS [] rfl rfl rfl rfl rfl rfl hl.1 rfl (Nat.le_of_ble_eq_true rfl) dX2_meanToes_21 ⟨Nat.le_refl _, Nat.le_refl _⟩ (fun H locs hP hD hS => ?_)
        refine lv_i2l (v := q384.toInt64) hx hb dX2_meanToes_24 rfl ?_
        refine lv_ladd hx hb dX2_meanToes_25 ?_
        refine lv_lstore_n (lv' := [(2, .long (y2_378 + (q384.toInt64))), (0, .ref (a 0)), (1, .int x1), (4, .int x4_379)]) hx hb dX2_meanToes_26 rfl hl (by decide) rfl (fun ls hl => ?_)
        refine lv_iinc (v := (x4_379 + (1 : Int32))) (lv' := [(4, .int (x4_379 + (1 : Int32))), (2, .long (y2_378 + (q384.toInt64))), (0, .ref (a 0)), (1, .int x1)]) hx hb dX2_meanToes_27 hl (k := 3) rfl rfl (by decide) rfl (fun ls hl => ?_)
        refine lv_goto (tgt := 5) hx hb dX2_meanToes_30 (by decide) ?_
        exact ih (y2_378 + (q384.toInt64)) (x4_379 + (1 : Int32)) _ _ _ hP hD hS (lv_sub hl [2, 3, 1, 0] rfl) hf
  refine L5_380 _ ?_ FUEL (0 : Int64) (0 : Int32) _ _ _ hP hD hS (lv_sub hl [2, 3, 1, 0] rfl) hf
  intro y2_385 H locs ls hP hD hS hl hf
  refine lv_lload_n hx hb dX2_meanToes_33 rfl (lv_at hl 2 rfl) ?_
  refine lv_iconst (v := (1 : Int32)) hx hb dX2_meanToes_34 (by decide) ?_
  refine lv_aload_n hx hb dX2_meanToes_35 rfl (lv_at hl 0 rfl) ?_
  refine fc_get (v := .int (v 7 1)) (ci := 3) (C := RX6) (T := TX6) (N := 12) hx hb hwX6 hown hE hP 0 rfl rfl 1 (by decide) hk_fieldLink_RX2_44__BrideNotKnown_Valley___brideCount___I_ (fun _ h => h) rfl dX2_meanToes_36 ?_
  refine va_mmax hx hb (hml.trans hl.1.symm) hown hk_methodLink_RX2_26_Lib_Math_max_name hk_static_Lib_Math_max_name hk_initialized__java_lang_Math_ hk_code_Lib_Math_max_name_Lib_Math_max_code_2__some__int_ (Nat.le_of_ble_eq_true rfl) (Nat.le_of_ble_eq_true rfl) (Nat.zero_le _) (Nat.zero_le _) dX2_meanToes_39 ?_
  refine lv_i2l (v := (if (1 : Int32) < (v 7 1) then (v 7 1) else (1 : Int32)).toInt64) hx hb dX2_meanToes_42 rfl ?_
  refine lv_iload_n hx hb dX2_meanToes_43 rfl (lv_at hl 1 rfl) ?_
  obtain ⟨q386, hq386, hf⟩ := bnd hf
  refine fc_callS (Wa' := (vW G a v)) (st1 := [.long q386]) (As := [.long y2_385, .long ((if (1 : Int32) < (v 7 1) then (v 7 1) else (1 : Int32)).toInt64), .int x1]) (rest := []) hCF (k_X2_partOf y2_385 ((if (1 : Int32) < (v 7 1) then (v 7 1) else (1 : Int32)).toInt64) x1 hq386) (va_cwS 3 hts gX2_meanToes_X2_partOf rfl rfl rfl dk_X2_partOf ⟨Nat.le_of_ble_eq_true rfl, Nat.le_of_ble_eq_true rfl⟩) hE hAB hP hD hS [] rfl rfl rfl rfl rfl rfl hl.1 rfl (Nat.le_of_ble_eq_true rfl) dX2_meanToes_44 ⟨Nat.le_refl _, Nat.le_refl _⟩ (fun H locs hP hD hS => ?_)
  exact fc_retl hx hb hr hlocks hP hS dX2_meanToes_47 (i1 hf) rfl
theorem dk_X2_ofTaking : yX2_ofTaking.cls ≠ "java/lang/invoke/MethodHandle" ∧ yX2_ofTaking.cls ≠ "java/lang/invoke/VarHandle" ∧ (parseMethodDescriptor yX2_ofTaking.desc).map (fun d => d.parameters.length) = some 4 := by decide +kernel
theorem iu_X2_ofTaking_X6 : ∀ w ∈ u_ws RX6 TX6 12, w ∈ wsX2_ofTaking := by decide +kernel
set_option maxHeartbeats 4000000 in
set_option maxRecDepth 100000 in
theorem k_X2_ofTaking {l : Launch} {G : Gx} (a : Nat → Nat) (v : St) (x1 : Int32) (x2 : Int32) (x3 : Int32) {r : Int64} (hf : f_X2_ofTaking v x1 x2 x3 = some r) : FC l G yX2_ofTaking wsX2_ofTaking ({ frames := 5, cells := 0, slots := 0, locals := 120 } : Room) [.ref (a 0), .int x1, .int x2, .int x3] (vW G a v) (vW G a v) (some (.long r)) := by
  refine fc_head (cc := cX2_ofTaking) (maxL := 12) (ret := (some .long)) (C := RX2) (lv := [(0, .ref (a 0)), (1, .int x1), (2, .int x2), (3, .int x3)]) (by decide) rfl rfl (Nat.le_of_ble_eq_true rfl) rfl ?_
  intro p e s m below meth c ls A hx hb hr hml hown hts hlocks hE hP hD hAB hS hl
  have hCF : CallFix p m c cX2_ofTaking 12 s ([.ref (a 0), .int x1, .int x2, .int x3] : List Value).toArray wsX2_ofTaking RX2 := ⟨hx, hb, hml, hown, hts⟩
  have hwX6 : ∀ w ∈ u_ws RX6 TX6 12, w.before ([.ref (a 0), .int x1, .int x2, .int x3] : List Value).toArray s = true := fun w h => hts w (iu_X2_ofTaking_X6 w h)
  have hk_fieldLink_RX2_7__BrideNotKnown_Valley___groomCount___I_ := hts (.fieldLink RX2 7 "BrideNotKnown$Valley" "groomCount" "I") (List.mem_of_getElem? (i := 1) rfl)
  have hk_methodLink_RX2_26_Lib_Math_max_name := hts (.methodLink RX2 26 Lib.Math.max.name) (List.mem_of_getElem? (i := 2) rfl)
  have hk_static_Lib_Math_max_name := hts (.static Lib.Math.max.name) (List.mem_of_getElem? (i := 3) rfl)
  have hk_initialized__java_lang_Math_ := hts (.initialized "java/lang/Math") (List.mem_of_getElem? (i := 4) rfl)
  have hk_code_Lib_Math_max_name_Lib_Math_max_code_2__some__int_ := hts (.code Lib.Math.max.name Lib.Math.max.code 2 (some .int)) (List.mem_of_getElem? (i := 5) rfl)
  have hk_initialized_RX7 := hts (.initialized RX7) (List.mem_of_getElem? (i := 13) rfl)
  have hk_static_yX7_has := hts (.static yX7_has) (List.mem_of_getElem? (i := 12) rfl)
  rw [f_X2_ofTaking] at hf
  refine lv_lconst (v := (1 : Int64)) hx hb dX2_ofTaking_0 (by decide) ?_
  refine lv_lstore (lv' := [(4, .long (1 : Int64)), (0, .ref (a 0)), (1, .int x1), (2, .int x2), (3, .int x3)]) hx hb dX2_ofTaking_1 hl (by decide) rfl (fun ls hl => ?_)
  refine lv_lconst (v := (1 : Int64)) hx hb dX2_ofTaking_3 (by decide) ?_
  refine lv_lstore (lv' := [(6, .long (1 : Int64)), (4, .long (1 : Int64)), (0, .ref (a 0)), (1, .int x1), (2, .int x2), (3, .int x3)]) hx hb dX2_ofTaking_4 hl (by decide) rfl (fun ls hl => ?_)
  refine lv_iconst (v := (0 : Int32)) hx hb dX2_ofTaking_6 (by decide) ?_
  refine lv_istore (lv' := [(8, .int (0 : Int32)), (6, .long (1 : Int64)), (4, .long (1 : Int64)), (0, .ref (a 0)), (1, .int x1), (2, .int x2), (3, .int x3)]) hx hb dX2_ofTaking_7 hl (by decide) rfl (fun ls hl => ?_)
  refine lv_iconst (v := (0 : Int32)) hx hb dX2_ofTaking_9 (by decide) ?_
  refine lv_istore (lv' := [(9, .int (0 : Int32)), (8, .int (0 : Int32)), (6, .long (1 : Int64)), (4, .long (1 : Int64)), (0, .ref (a 0)), (1, .int x1), (2, .int x2), (3, .int x3)]) hx hb dX2_ofTaking_10 hl (by decide) rfl (fun ls hl => ?_)
  have L12_405 : ∀ (K12_101 : Int64 → Int64 → Option (Int64)) (hK12_101 : ∀ (y4_406 : Int64) (y6_407 : Int64) (H : Heap) (locs : List Loc) (ls : Array Slot), va_P (gD G) vwCl (vW G a v) H → va_D A (vW G a v) → va_S A s.heap H locs → lv_has ls 12 [(3, .int x3), (4, .long y4_406), (6, .long y6_407)] → K12_101 y4_406 y6_407 = some r → W p l e (headSpec wsX2_ofTaking ({ frames := 5, cells := 0, slots := 0, locals := 120 } : Room)).room s m ([.ref (a 0), .int x1, .int x2, .int x3] : List Value).toArray below meth c H locs 0 0 (MQ below (FQ G A (vW G a v) (some (.long r))) ([.ref (a 0), .int x1, .int x2, .int x3] : List Value).toArray s 0 0 A) (F0 m 101 ls [])) (n : Nat) (y4_401 : Int64) (y6_402 : Int64) (x8_403 : Int32) (x9_404 : Int32) (H : Heap) (locs : List Loc) (ls : Array Slot), va_P (gD G) vwCl (vW G a v) H → va_D A (vW G a v) → va_S A s.heap H locs → lv_has ls 12 [(0, .ref (a 0)), (1, .int x1), (2, .int x2), (3, .int x3), (4, .long y4_401), (6, .long y6_402), (8, .int x8_403), (9, .int x9_404)] → f_X2_ofTaking_12 v x1 x2 n y4_401 y6_402 x8_403 x9_404 K12_101 = some r → W p l e (headSpec wsX2_ofTaking ({ frames := 5, cells := 0, slots := 0, locals := 120 } : Room)).room s m ([.ref (a 0), .int x1, .int x2, .int x3] : List Value).toArray below meth c H locs 0 0 (MQ below (FQ G A (vW G a v) (some (.long r))) ([.ref (a 0), .int x1, .int x2, .int x3] : List Value).toArray s 0 0 A) (F0 m 12 ls []) := by
    intro K12_101 hK12_101 n
    induction n with
    | zero =>
      intro y4_401 y6_402 x8_403 x9_404 H locs ls hP hD hS hl hf
      exact no_some hf
    | succ n ih =>
      intro y4_401 y6_402 x8_403 x9_404 H locs ls hP hD hS hl hf
      rw [f_X2_ofTaking_12] at hf
      refine lv_iload hx hb dX2_ofTaking_12 (lv_at hl 7 rfl) ?_
      refine lv_aload_n hx hb dX2_ofTaking_14 rfl (lv_at hl 0 rfl) ?_
      refine fc_get (v := .int (v 7 3)) (ci := 3) (C := RX6) (T := TX6) (N := 12) hx hb hwX6 hown hE hP 0 rfl rfl 7 (by decide) hk_fieldLink_RX2_7__BrideNotKnown_Valley___groomCount___I_ (fun _ h => h) rfl dX2_ofTaking_15 ?_
      refine lv_icmp_ge (tgt := 101) hx hb dX2_ofTaking_18 (by decide) (fun c408 => ?_) (fun c408 => ?_)
      · have hf := ifT hf c408
        exact hK12_101 y4_401 y6_402 _ _ _ hP hD hS (lv_sub hl [3, 4, 5] rfl) hf
      · have hf := ifF hf c408
        refine lv_aload_n hx hb dX2_ofTaking_21 rfl (lv_at hl 0 rfl) ?_
        refine lv_iload hx hb dX2_ofTaking_22 (lv_at hl 7 rfl) ?_
        obtain ⟨q409, hq409, hf⟩ := bnd hf
        refine fc_callV (Wa' := (vW G a v)) (st1 := [.int q409]) (As := [.int x9_404]) (rest := []) hCF (k_X6_isUnmarried a v x9_404 hq409) (cwV 1 hts gX2_ofTaking_X6_isUnmarried rfl rfl rfl ⟨rfl, dk_X6_isUnmarried⟩ ⟨Nat.le_of_ble_eq_true rfl, Nat.le_of_ble_eq_true rfl⟩) hE hAB hP hD hS [0, 1, 2, 3, 4, 5, 6, 7] rfl rfl (va_recv hE.1 hP (ci := 3) (q0 := 0) rfl rfl) rfl rfl rfl rfl hl.1 rfl (Nat.le_of_ble_eq_true rfl) dX2_ofTaking_24 ⟨Nat.le_refl _, Nat.le_refl _⟩ (fun H locs hP hD hS => ?_)
        refine lv_if_eq (tgt := 95) hx hb dX2_ofTaking_27 (by decide) (fun c410 => ?_) (fun c410 => ?_)
        · have hf := ifT hf c410
          refine lv_iinc (v := (x9_404 + (1 : Int32))) (lv' := [(9, .int (x9_404 + (1 : Int32))), (0, .ref (a 0)), (1, .int x1), (2, .int x2), (3, .int x3), (4, .long y4_401), (6, .long y6_402), (8, .int x8_403)]) hx hb dX2_ofTaking_95 hl (k := 7) rfl rfl (by decide) rfl (fun ls hl => ?_)
          refine lv_goto (tgt := 12) hx hb dX2_ofTaking_98 (by decide) ?_
          exact ih y4_401 y6_402 x8_403 (x9_404 + (1 : Int32)) _ _ _ hP hD hS (lv_sub hl [1, 2, 3, 4, 5, 6, 7, 0] rfl) hf
        · have hf := ifF hf c410
          refine lv_iload hx hb dX2_ofTaking_30 (lv_at hl 6 rfl) ?_
          refine lv_iload_n hx hb dX2_ofTaking_32 rfl (lv_at hl 2 rfl) ?_
          refine lv_icmp_ge (tgt := 95) hx hb dX2_ofTaking_33 (by decide) (fun c411 => ?_) (fun c411 => ?_)
          · have hf := ifT hf c411
            refine lv_iinc (v := (x9_404 + (1 : Int32))) (lv' := [(9, .int (x9_404 + (1 : Int32))), (0, .ref (a 0)), (1, .int x1), (2, .int x2), (3, .int x3), (4, .long y4_401), (6, .long y6_402), (8, .int x8_403)]) hx hb dX2_ofTaking_95 hl (k := 7) rfl rfl (by decide) rfl (fun ls hl => ?_)
            refine lv_goto (tgt := 12) hx hb dX2_ofTaking_98 (by decide) ?_
            exact ih y4_401 y6_402 x8_403 (x9_404 + (1 : Int32)) _ _ _ hP hD hS (lv_sub hl [1, 2, 3, 4, 5, 6, 7, 0] rfl) hf
          · have hf := ifF hf c411
            refine lv_iinc (v := (x8_403 + (1 : Int32))) (lv' := [(8, .int (x8_403 + (1 : Int32))), (0, .ref (a 0)), (1, .int x1), (2, .int x2), (3, .int x3), (4, .long y4_401), (6, .long y6_402), (9, .int x9_404)]) hx hb dX2_ofTaking_36 hl (k := 6) rfl rfl (by decide) rfl (fun ls hl => ?_)
            refine lv_aload_n hx hb dX2_ofTaking_39 rfl (lv_at hl 1 rfl) ?_
            refine lv_iload hx hb dX2_ofTaking_40 (lv_at hl 7 rfl) ?_
            obtain ⟨q412, hq412, hf⟩ := bnd hf
            refine fc_callV (Wa' := (vW G a v)) (st1 := [.int q412]) (As := [.int x9_404]) (rest := []) hCF (k_X6_choiceOf a v x9_404 hq412) (cwV 1 hts gX2_ofTaking_X6_choiceOf rfl rfl rfl ⟨rfl, dk_X6_choiceOf⟩ ⟨Nat.le_of_ble_eq_true rfl, Nat.le_of_ble_eq_true rfl⟩) hE hAB hP hD hS [0, 1, 2, 3, 4, 5, 6, 7] rfl rfl (va_recv hE.1 hP (ci := 3) (q0 := 0) rfl rfl) rfl rfl rfl rfl hl.1 rfl (Nat.le_of_ble_eq_true rfl) dX2_ofTaking_42 ⟨Nat.le_refl _, Nat.le_refl _⟩ (fun H locs hP hD hS => ?_)
            refine lv_istore (lv' := [(10, .int q412), (8, .int (x8_403 + (1 : Int32))), (0, .ref (a 0)), (1, .int x1), (2, .int x2), (3, .int x3), (4, .long y4_401), (6, .long y6_402), (9, .int x9_404)]) hx hb dX2_ofTaking_45 hl (by decide) rfl (fun ls hl => ?_)
            refine lv_iload hx hb dX2_ofTaking_47 (lv_at hl 0 rfl) ?_
            obtain ⟨q413, hq413, hf⟩ := bnd hf
            refine fc_callS (Wa' := (vW G a v)) (st1 := [.int q413]) (As := [.int q412]) (rest := []) hCF (k_J6_bitCount_0f7a4 q412 hq413) (va_cwS 1 hts gX2_ofTaking_J6_bitCount_0f7a4 rfl rfl rfl dk_J6_bitCount_0f7a4 ⟨Nat.le_of_ble_eq_true rfl, Nat.le_of_ble_eq_true rfl⟩) hE hAB hP hD hS [] rfl rfl rfl rfl rfl rfl hl.1 rfl (Nat.le_of_ble_eq_true rfl) dX2_ofTaking_49 ⟨Nat.le_refl _, Nat.le_refl _⟩ (fun H locs hP hD hS => ?_)
            refine lv_istore (lv' := [(11, .int q413), (10, .int q412), (8, .int (x8_403 + (1 : Int32))), (0, .ref (a 0)), (1, .int x1), (2, .int x2), (3, .int x3), (4, .long y4_401), (6, .long y6_402), (9, .int x9_404)]) hx hb dX2_ofTaking_52 hl (by decide) rfl (fun ls hl => ?_)
            refine lv_lload hx hb dX2_ofTaking_54 (lv_at hl 7 rfl) ?_
            refine lv_iconst (v := (1 : Int32)) hx hb dX2_ofTaking_56 (by decide) ?_
            refine lv_iload hx hb dX2_ofTaking_57 (lv_at hl 0 rfl) ?_
            refine va_mmax hx hb (hml.trans hl.1.symm) hown hk_methodLink_RX2_26_Lib_Math_max_name hk_static_Lib_Math_max_name hk_initialized__java_lang_Math_ hk_code_Lib_Math_max_name_Lib_Math_max_code_2__some__int_ (Nat.le_of_ble_eq_true rfl) (Nat.le_of_ble_eq_true rfl) (Nat.zero_le _) (Nat.zero_le _) dX2_ofTaking_59 ?_
            refine lv_i2l (v := (if (1 : Int32) < q413 then q413 else (1 : Int32)).toInt64) hx hb dX2_ofTaking_62 rfl ?_
            refine lv_lmul hx hb dX2_ofTaking_63 ?_
            refine lv_lstore (lv' := [(4, .long (y4_401 * ((if (1 : Int32) < q413 then q413 else (1 : Int32)).toInt64))), (11, .int q413), (10, .int q412), (8, .int (x8_403 + (1 : Int32))), (0, .ref (a 0)), (1, .int x1), (2, .int x2), (3, .int x3), (6, .long y6_402), (9, .int x9_404)]) hx hb dX2_ofTaking_64 hl (by decide) rfl (fun ls hl => ?_)
            refine lv_lload hx hb dX2_ofTaking_66 (lv_at hl 8 rfl) ?_
            refine lv_iload hx hb dX2_ofTaking_68 (lv_at hl 2 rfl) ?_
            refine lv_iload_n hx hb dX2_ofTaking_70 rfl (lv_at hl 5 rfl) ?_
            obtain ⟨q414, hq414, hf⟩ := bnd hf
            refine fc_callN (Wa' := (vW G a v)) (st1 := [.int q414, .long y6_402]) (As := [.int q412, .int x1]) (rest := [.long y6_402]) hCF (k_X7_has q412 x1 hq414) ⟨va_cnB 2 hts gX2_ofTaking_X7_has_n32 rfl rfl rfl (hE.2.1 _ (List.mem_of_getElem? (i := 20) rfl)) hk_initialized_RX7 dk_X7_has ⟨Nat.le_of_ble_eq_true rfl, Nat.le_of_ble_eq_true rfl⟩, hk_static_yX7_has, trivial⟩ hE hAB hP hD hS [] rfl rfl rfl rfl rfl rfl hl.1 rfl (Nat.le_of_ble_eq_true rfl) dX2_ofTaking_71 ⟨Nat.le_refl _, Nat.le_refl _⟩ (fun H locs hP hD hS => ?_)
            refine lv_if_eq (tgt := 85) hx hb dX2_ofTaking_74 (by decide) (fun c415 => ?_) (fun c415 => ?_)
            · have hf := ifT hf c415
              refine lv_iconst (v := (1 : Int32)) hx hb dX2_ofTaking_85 (by decide) ?_
              refine lv_iload hx hb dX2_ofTaking_86 (lv_at hl 1 rfl) ?_
              refine va_mmax hx hb (hml.trans hl.1.symm) hown hk_methodLink_RX2_26_Lib_Math_max_name hk_static_Lib_Math_max_name hk_initialized__java_lang_Math_ hk_code_Lib_Math_max_name_Lib_Math_max_code_2__some__int_ (Nat.le_of_ble_eq_true rfl) (Nat.le_of_ble_eq_true rfl) (Nat.zero_le _) (Nat.zero_le _) dX2_ofTaking_88 ?_
              refine lv_i2l (v := (if (1 : Int32) < q413 then q413 else (1 : Int32)).toInt64) hx hb dX2_ofTaking_91 rfl ?_
              refine lv_lmul hx hb dX2_ofTaking_92 ?_
              refine lv_lstore (lv' := [(6, .long (y6_402 * ((if (1 : Int32) < q413 then q413 else (1 : Int32)).toInt64))), (4, .long (y4_401 * ((if (1 : Int32) < q413 then q413 else (1 : Int32)).toInt64))), (11, .int q413), (10, .int q412), (8, .int (x8_403 + (1 : Int32))), (0, .ref (a 0)), (1, .int x1), (2, .int x2), (3, .int x3), (9, .int x9_404)]) hx hb dX2_ofTaking_93 hl (by decide) rfl (fun ls hl => ?_)
              refine lv_iinc (v := (x9_404 + (1 : Int32))) (lv' := [(9, .int (x9_404 + (1 : Int32))), (6, .long (y6_402 * ((if (1 : Int32) < q413 then q413 else (1 : Int32)).toInt64))), (4, .long (y4_401 * ((if (1 : Int32) < q413 then q413 else (1 : Int32)).toInt64))), (11, .int q413), (10, .int q412), (8, .int (x8_403 + (1 : Int32))), (0, .ref (a 0)), (1, .int x1), (2, .int x2), (3, .int x3)]) hx hb dX2_ofTaking_95 hl (k := 9) rfl rfl (by decide) rfl (fun ls hl => ?_)
              refine lv_goto (tgt := 12) hx hb dX2_ofTaking_98 (by decide) ?_
              exact ih (y4_401 * ((if (1 : Int32) < q413 then q413 else (1 : Int32)).toInt64)) (y6_402 * ((if (1 : Int32) < q413 then q413 else (1 : Int32)).toInt64)) (x8_403 + (1 : Int32)) (x9_404 + (1 : Int32)) _ _ _ hP hD hS (lv_sub hl [6, 7, 8, 9, 2, 1, 5, 0] rfl) hf
            · have hf := ifF hf c415
              refine lv_iload hx hb dX2_ofTaking_77 (lv_at hl 1 rfl) ?_
              refine lv_iconst (v := (1 : Int32)) hx hb dX2_ofTaking_79 (by decide) ?_
              refine lv_isub hx hb dX2_ofTaking_80 ?_
              refine lv_i2l (v := (q413 - (1 : Int32)).toInt64) hx hb dX2_ofTaking_81 rfl ?_
              refine lv_goto (tgt := 92) hx hb dX2_ofTaking_82 (by decide) ?_
              refine lv_lmul hx hb dX2_ofTaking_92 ?_
              refine lv_lstore (lv' := [(6, .long (y6_402 * ((q413 - (1 : Int32)).toInt64))), (4, .long (y4_401 * ((if (1 : Int32) < q413 then q413 else (1 : Int32)).toInt64))), (11, .int q413), (10, .int q412), (8, .int (x8_403 + (1 : Int32))), (0, .ref (a 0)), (1, .int x1), (2, .int x2), (3, .int x3), (9, .int x9_404)]) hx hb dX2_ofTaking_93 hl (by decide) rfl (fun ls hl => ?_)
              refine lv_iinc (v := (x9_404 + (1 : Int32))) (lv' := [(9, .int (x9_404 + (1 : Int32))), (6, .long (y6_402 * ((q413 - (1 : Int32)).toInt64))), (4, .long (y4_401 * ((if (1 : Int32) < q413 then q413 else (1 : Int32)).toInt64))), (11, .int q413), (10, .int q412), (8, .int (x8_403 + (1 : Int32))), (0, .ref (a 0)), (1, .int x1), (2, .int x2), (3, .int x3)]) hx hb dX2_ofTaking_95 hl (k := 9) rfl rfl (by decide) rfl (fun ls hl => ?_)
              refine lv_goto (tgt := 12) hx hb dX2_ofTaking_98 (by decide) ?_
              exact ih (y4_401 * ((if (1 : Int32) < q413 then q413 else (1 : Int32)).toInt64)) (y6_402 * ((q413 - (1 : Int32)).toInt64)) (x8_403 + (1 : Int32)) (x9_404 + (1 : Int32)) _ _ _ hP hD hS (lv_sub hl [6, 7, 8, 9, 2, 1, 5, 0] rfl) hf
  refine L12_405 _ ?_ FUEL (1 : Int64) (1 : Int64) (0 : Int32) (0 : Int32) _ _ _ hP hD hS (lv_sub hl [4, 5, 6, 7, 3, 2, 1, 0] rfl) hf
  intro y4_416 y6_417 H locs ls hP hD hS hl hf
  refine lv_lload hx hb dX2_ofTaking_101 (lv_at hl 1 rfl) ?_
  refine lv_lload hx hb dX2_ofTaking_103 (lv_at hl 2 rfl) ?_
  refine lv_lsub hx hb dX2_ofTaking_105 ?_
  refine lv_lload hx hb dX2_ofTaking_106 (lv_at hl 1 rfl) ?_
  refine lv_iload_n hx hb dX2_ofTaking_108 rfl (lv_at hl 0 rfl) ?_
  obtain ⟨q418, hq418, hf⟩ := bnd hf
  refine fc_callS (Wa' := (vW G a v)) (st1 := [.long q418]) (As := [.long (y4_416 - y6_417), .long y4_416, .int x3]) (rest := []) hCF (k_X2_partOf (y4_416 - y6_417) y4_416 x3 hq418) (va_cwS 3 hts gX2_ofTaking_X2_partOf rfl rfl rfl dk_X2_partOf ⟨Nat.le_of_ble_eq_true rfl, Nat.le_of_ble_eq_true rfl⟩) hE hAB hP hD hS [] rfl rfl rfl rfl rfl rfl hl.1 rfl (Nat.le_of_ble_eq_true rfl) dX2_ofTaking_109 ⟨Nat.le_refl _, Nat.le_refl _⟩ (fun H locs hP hD hS => ?_)
  exact fc_retl hx hb hr hlocks hP hS dX2_ofTaking_112 (i1 hf) rfl
theorem dk_X3_mayHaveAny : yX3_mayHaveAny.cls ≠ "java/lang/invoke/MethodHandle" ∧ yX3_mayHaveAny.cls ≠ "java/lang/invoke/VarHandle" ∧ (parseMethodDescriptor yX3_mayHaveAny.desc).map (fun d => d.parameters.length) = some 2 := by decide +kernel
theorem iu_X3_mayHaveAny_X3 : ∀ w ∈ u_ws RX3 TX3 2, w ∈ wsX3_mayHaveAny := by decide +kernel
set_option maxHeartbeats 4000000 in
set_option maxRecDepth 100000 in
theorem k_X3_mayHaveAny {l : Launch} {G : Gx} (a : Nat → Nat) (v : St) (x1 : Int32) (x2 : Int32) {r : Int32} (hf : f_X3_mayHaveAny v x1 x2 = some r) : FC l G yX3_mayHaveAny wsX3_mayHaveAny ({ frames := 1, cells := 0, slots := 0, locals := 21 } : Room) [.ref (a 0), .int x1, .int x2] (pW G a v) (pW G a v) (some (.int r)) := by
  refine fc_head (cc := cX3_mayHaveAny) (maxL := 5) (ret := (some .int)) (C := RX3) (lv := [(0, .ref (a 0)), (1, .int x1), (2, .int x2)]) (by decide) rfl rfl (Nat.le_of_ble_eq_true rfl) rfl ?_
  intro p e s m below meth c ls A hx hb hr hml hown hts hlocks hE hP hD hAB hS hl
  have hCF : CallFix p m c cX3_mayHaveAny 5 s ([.ref (a 0), .int x1, .int x2] : List Value).toArray wsX3_mayHaveAny RX3 := ⟨hx, hb, hml, hown, hts⟩
  have hwX3 : ∀ w ∈ u_ws RX3 TX3 2, w.before ([.ref (a 0), .int x1, .int x2] : List Value).toArray s = true := fun w h => hts w (iu_X3_mayHaveAny_X3 w h)
  have hk_initialized_RX7 := hts (.initialized RX7) (List.mem_of_getElem? (i := 3) rfl)
  have hk_static_yX7_has := hts (.static yX7_has) (List.mem_of_getElem? (i := 2) rfl)
  have hk_fieldLink_RX3_9__BrideNotKnown_Pairs___mayHave____I_ := hts (.fieldLink RX3 9 "BrideNotKnown$Pairs" "mayHave" "[I") (List.mem_of_getElem? (i := 1) rfl)
  have hk_static_yX7_at := hts (.static yX7_at) (List.mem_of_getElem? (i := 5) rfl)
  rw [f_X3_mayHaveAny] at hf
  refine lv_iconst (v := (0 : Int32)) hx hb dX3_mayHaveAny_0 (by decide) ?_
  refine lv_istore_n (lv' := [(3, .int (0 : Int32)), (0, .ref (a 0)), (1, .int x1), (2, .int x2)]) hx hb dX3_mayHaveAny_1 rfl hl (by decide) rfl (fun ls hl => ?_)
  refine lv_iconst (v := (0 : Int32)) hx hb dX3_mayHaveAny_2 (by decide) ?_
  refine lv_istore (lv' := [(4, .int (0 : Int32)), (3, .int (0 : Int32)), (0, .ref (a 0)), (1, .int x1), (2, .int x2)]) hx hb dX3_mayHaveAny_3 hl (by decide) rfl (fun ls hl => ?_)
  have L5_423 : ∀ (n : Nat) (x3_421 : Int32) (x4_422 : Int32) (H : Heap) (locs : List Loc) (ls : Array Slot), va_P (gD G) vwCl (pW G a v) H → va_D A (pW G a v) → va_S A s.heap H locs → lv_has ls 5 [(0, .ref (a 0)), (1, .int x1), (2, .int x2), (3, .int x3_421), (4, .int x4_422)] → f_X3_mayHaveAny_5 v x1 x2 n x3_421 x4_422 = some r → W p l e (headSpec wsX3_mayHaveAny ({ frames := 1, cells := 0, slots := 0, locals := 21 } : Room)).room s m ([.ref (a 0), .int x1, .int x2] : List Value).toArray below meth c H locs 0 0 (MQ below (FQ G A (pW G a v) (some (.int r))) ([.ref (a 0), .int x1, .int x2] : List Value).toArray s 0 0 A) (F0 m 5 ls []) := by
    intro n
    induction n with
    | zero =>
      intro x3_421 x4_422 H locs ls hP hD hS hl hf
      exact no_some hf
    | succ n ih =>
      intro x3_421 x4_422 H locs ls hP hD hS hl hf
      rw [f_X3_mayHaveAny_5] at hf
      refine lv_iload hx hb dX3_mayHaveAny_5 (lv_at hl 4 rfl) ?_
      refine lv_iconst (v := (5 : Int32)) hx hb dX3_mayHaveAny_7 (by decide) ?_
      refine lv_icmp_ge (tgt := 40) hx hb dX3_mayHaveAny_8 (by decide) (fun c424 => ?_) (fun c424 => ?_)
      · have hf := ifT hf c424
        refine lv_iload_n hx hb dX3_mayHaveAny_40 rfl (lv_at hl 3 rfl) ?_
        exact fc_reti hx hb hr hlocks hP hS dX3_mayHaveAny_41 (i1 hf) rfl
      · have hf := ifF hf c424
        refine lv_iload_n hx hb dX3_mayHaveAny_11 rfl (lv_at hl 1 rfl) ?_
        refine lv_iload hx hb dX3_mayHaveAny_12 (lv_at hl 4 rfl) ?_
        obtain ⟨q425, hq425, hf⟩ := bnd hf
        refine fc_callN (Wa' := (pW G a v)) (st1 := [.int q425]) (As := [.int x1, .int x4_422]) (rest := []) hCF (k_X7_has x1 x4_422 hq425) ⟨va_cnB 2 hts gX3_mayHaveAny_X7_has_n58 rfl rfl rfl (hE.2.1 _ (List.mem_of_getElem? (i := 15) rfl)) hk_initialized_RX7 dk_X7_has ⟨Nat.le_of_ble_eq_true rfl, Nat.le_of_ble_eq_true rfl⟩, hk_static_yX7_has, trivial⟩ hE hAB hP hD hS [] rfl rfl rfl rfl rfl rfl hl.1 rfl (Nat.le_of_ble_eq_true rfl) dX3_mayHaveAny_14 ⟨Nat.le_refl _, Nat.le_refl _⟩ (fun H locs hP hD hS => ?_)
        refine lv_if_eq (tgt := 34) hx hb dX3_mayHaveAny_17 (by decide) (fun c426 => ?_) (fun c426 => ?_)
        · have hf := ifT hf c426
          refine lv_iinc (v := (x4_422 + (1 : Int32))) (lv' := [(4, .int (x4_422 + (1 : Int32))), (0, .ref (a 0)), (1, .int x1), (2, .int x2), (3, .int x3_421)]) hx hb dX3_mayHaveAny_34 hl (k := 4) rfl rfl (by decide) rfl (fun ls hl => ?_)
          refine lv_goto (tgt := 5) hx hb dX3_mayHaveAny_37 (by decide) ?_
          exact ih x3_421 (x4_422 + (1 : Int32)) _ _ _ hP hD hS (lv_sub hl [1, 2, 3, 4, 0] rfl) hf
        · have hf := ifF hf c426
          refine lv_iload_n hx hb dX3_mayHaveAny_20 rfl (lv_at hl 3 rfl) ?_
          refine lv_aload_n hx hb dX3_mayHaveAny_21 rfl (lv_at hl 0 rfl) ?_
          refine fc_get (v := .ref (a 1)) (ci := 0) (C := RX3) (T := TX3) (N := 2) hx hb hwX3 hown hE hP 0 rfl rfl 0 (by decide) hk_fieldLink_RX3_9__BrideNotKnown_Pairs___mayHave____I_ (fun _ h => h) rfl dX3_mayHaveAny_22 ?_
          refine lv_iload_n hx hb dX3_mayHaveAny_25 rfl (lv_at hl 2 rfl) ?_
          refine lv_iload hx hb dX3_mayHaveAny_26 (lv_at hl 4 rfl) ?_
          refine lv_iadd hx hb dX3_mayHaveAny_28 ?_
          obtain ⟨q427, hq427, hf⟩ := bnd hf
          refine fc_callN (Wa' := (pW G a v)) (st1 := [.int q427, .int x3_421]) (As := [.ref (a 1), .int (x2 + x4_422)]) (rest := [.int x3_421]) hCF (k_X7_at (a 1) 5 (v 0) (x2 + x4_422) hq427) ⟨va_cnB 2 hts gX3_mayHaveAny_X7_at_n62 rfl rfl rfl (hE.2.1 _ (List.mem_of_getElem? (i := 16) rfl)) hk_initialized_RX7 dk_X7_at ⟨Nat.le_of_ble_eq_true rfl, Nat.le_of_ble_eq_true rfl⟩, hk_static_yX7_at, trivial⟩ hE hAB hP hD hS [1] rfl rfl rfl rfl rfl rfl hl.1 rfl (Nat.le_of_ble_eq_true rfl) dX3_mayHaveAny_29 ⟨Nat.le_refl _, Nat.le_refl _⟩ (fun H locs hP hD hS => ?_)
          refine lv_ior hx hb dX3_mayHaveAny_32 ?_
          refine lv_istore_n (lv' := [(3, .int (x3_421 ||| q427)), (0, .ref (a 0)), (1, .int x1), (2, .int x2), (4, .int x4_422)]) hx hb dX3_mayHaveAny_33 rfl hl (by decide) rfl (fun ls hl => ?_)
          refine lv_iinc (v := (x4_422 + (1 : Int32))) (lv' := [(4, .int (x4_422 + (1 : Int32))), (3, .int (x3_421 ||| q427)), (0, .ref (a 0)), (1, .int x1), (2, .int x2)]) hx hb dX3_mayHaveAny_34 hl (k := 4) rfl rfl (by decide) rfl (fun ls hl => ?_)
          refine lv_goto (tgt := 5) hx hb dX3_mayHaveAny_37 (by decide) ?_
          exact ih (x3_421 ||| q427) (x4_422 + (1 : Int32)) _ _ _ hP hD hS (lv_sub hl [2, 3, 4, 1, 0] rfl) hf
  exact L5_423 FUEL (0 : Int32) (0 : Int32) _ _ _ hP hD hS (lv_sub hl [2, 3, 4, 1, 0] rfl) hf
theorem dk_X3_most : yX3_most.cls ≠ "java/lang/invoke/MethodHandle" ∧ yX3_most.cls ≠ "java/lang/invoke/VarHandle" ∧ (parseMethodDescriptor yX3_most.desc).map (fun d => d.parameters.length) = some 2 := by decide +kernel
theorem iu_X3_most_X3 : ∀ w ∈ u_ws RX3 TX3 2, w ∈ wsX3_most := by decide +kernel
set_option maxHeartbeats 4000000 in
set_option maxRecDepth 100000 in
theorem k_X3_most {l : Launch} {G : Gx} (a : Nat → Nat) (v : St) (x1 : Int32) (x2 : Int32) {r : Int32} (hf : f_X3_most v x1 x2 = some r) : FC l G yX3_most wsX3_most ({ frames := 2, cells := 0, slots := 0, locals := 45 } : Room) [.ref (a 0), .int x1, .int x2] (pW G a v) (pW G a v) (some (.int r)) := by
  refine fc_head (cc := cX3_most) (maxL := 7) (ret := (some .int)) (C := RX3) (lv := [(0, .ref (a 0)), (1, .int x1), (2, .int x2)]) (by decide) rfl rfl (Nat.le_of_ble_eq_true rfl) rfl ?_
  intro p e s m below meth c ls A hx hb hr hml hown hts hlocks hE hP hD hAB hS hl
  have hCF : CallFix p m c cX3_most 7 s ([.ref (a 0), .int x1, .int x2] : List Value).toArray wsX3_most RX3 := ⟨hx, hb, hml, hown, hts⟩
  have hwX3 : ∀ w ∈ u_ws RX3 TX3 2, w.before ([.ref (a 0), .int x1, .int x2] : List Value).toArray s = true := fun w h => hts w (iu_X3_most_X3 w h)
  have hk_fieldLink_RX3_21__BrideNotKnown_Pairs___groomCount___I_ := hts (.fieldLink RX3 21 "BrideNotKnown$Pairs" "groomCount" "I") (List.mem_of_getElem? (i := 1) rfl)
  have hk_methodLink_RX3_42_Lib_Math_max_name := hts (.methodLink RX3 42 Lib.Math.max.name) (List.mem_of_getElem? (i := 2) rfl)
  have hk_static_Lib_Math_max_name := hts (.static Lib.Math.max.name) (List.mem_of_getElem? (i := 3) rfl)
  have hk_initialized__java_lang_Math_ := hts (.initialized "java/lang/Math") (List.mem_of_getElem? (i := 4) rfl)
  have hk_code_Lib_Math_max_name_Lib_Math_max_code_2__some__int_ := hts (.code Lib.Math.max.name Lib.Math.max.code 2 (some .int)) (List.mem_of_getElem? (i := 5) rfl)
  have hk_methodLink_RX3_55_Lib_Math_min_name := hts (.methodLink RX3 55 Lib.Math.min.name) (List.mem_of_getElem? (i := 6) rfl)
  have hk_static_Lib_Math_min_name := hts (.static Lib.Math.min.name) (List.mem_of_getElem? (i := 7) rfl)
  have hk_code_Lib_Math_min_name_Lib_Math_min_code_2__some__int_ := hts (.code Lib.Math.min.name Lib.Math.min.code 2 (some .int)) (List.mem_of_getElem? (i := 8) rfl)
  rw [f_X3_most] at hf
  refine lv_iconst (v := (0 : Int32)) hx hb dX3_most_0 (by decide) ?_
  refine lv_aload_n hx hb dX3_most_1 rfl (lv_at hl 0 rfl) ?_
  refine fc_get (v := .int (v 1 0)) (ci := 0) (C := RX3) (T := TX3) (N := 2) hx hb hwX3 hown hE hP 0 rfl rfl 1 (by decide) hk_fieldLink_RX3_21__BrideNotKnown_Pairs___groomCount___I_ (fun _ h => h) rfl dX3_most_2 ?_
  refine lv_iload_n hx hb dX3_most_5 rfl (lv_at hl 1 rfl) ?_
  refine lv_isub hx hb dX3_most_6 ?_
  refine va_mmax hx hb (hml.trans hl.1.symm) hown hk_methodLink_RX3_42_Lib_Math_max_name hk_static_Lib_Math_max_name hk_initialized__java_lang_Math_ hk_code_Lib_Math_max_name_Lib_Math_max_code_2__some__int_ (Nat.le_of_ble_eq_true rfl) (Nat.le_of_ble_eq_true rfl) (Nat.zero_le _) (Nat.zero_le _) dX3_most_7 ?_
  refine lv_istore_n (lv' := [(3, .int (if (0 : Int32) < ((v 1 0) - x1) then ((v 1 0) - x1) else (0 : Int32))), (0, .ref (a 0)), (1, .int x1), (2, .int x2)]) hx hb dX3_most_10 rfl hl (by decide) rfl (fun ls hl => ?_)
  refine lv_iload_n hx hb dX3_most_11 rfl (lv_at hl 0 rfl) ?_
  refine lv_istore (lv' := [(4, .int (if (0 : Int32) < ((v 1 0) - x1) then ((v 1 0) - x1) else (0 : Int32))), (3, .int (if (0 : Int32) < ((v 1 0) - x1) then ((v 1 0) - x1) else (0 : Int32))), (0, .ref (a 0)), (1, .int x1), (2, .int x2)]) hx hb dX3_most_12 hl (by decide) rfl (fun ls hl => ?_)
  refine lv_iconst (v := (0 : Int32)) hx hb dX3_most_14 (by decide) ?_
  refine lv_istore (lv' := [(5, .int (0 : Int32)), (4, .int (if (0 : Int32) < ((v 1 0) - x1) then ((v 1 0) - x1) else (0 : Int32))), (3, .int (if (0 : Int32) < ((v 1 0) - x1) then ((v 1 0) - x1) else (0 : Int32))), (0, .ref (a 0)), (1, .int x1), (2, .int x2)]) hx hb dX3_most_15 hl (by decide) rfl (fun ls hl => ?_)
  have L17_433 : ∀ (n : Nat) (x4_431 : Int32) (x5_432 : Int32) (H : Heap) (locs : List Loc) (ls : Array Slot), va_P (gD G) vwCl (pW G a v) H → va_D A (pW G a v) → va_S A s.heap H locs → lv_has ls 7 [(0, .ref (a 0)), (1, .int x1), (2, .int x2), (3, .int (if (0 : Int32) < ((v 1 0) - x1) then ((v 1 0) - x1) else (0 : Int32))), (4, .int x4_431), (5, .int x5_432)] → f_X3_most_17 v x1 x2 (if (0 : Int32) < ((v 1 0) - x1) then ((v 1 0) - x1) else (0 : Int32)) n x4_431 x5_432 = some r → W p l e (headSpec wsX3_most ({ frames := 2, cells := 0, slots := 0, locals := 45 } : Room)).room s m ([.ref (a 0), .int x1, .int x2] : List Value).toArray below meth c H locs 0 0 (MQ below (FQ G A (pW G a v) (some (.int r))) ([.ref (a 0), .int x1, .int x2] : List Value).toArray s 0 0 A) (F0 m 17 ls []) := by
    intro n
    induction n with
    | zero =>
      intro x4_431 x5_432 H locs ls hP hD hS hl hf
      exact no_some hf
    | succ n ih =>
      intro x4_431 x5_432 H locs ls hP hD hS hl hf
      rw [f_X3_most_17] at hf
      refine lv_iload hx hb dX3_most_17 (lv_at hl 5 rfl) ?_
      refine lv_iconst (v := (1 : Int32)) hx hb dX3_most_19 (by decide) ?_
      refine lv_iload_n hx hb dX3_most_20 rfl (lv_at hl 3 rfl) ?_
      refine lv_ishl hx hb dX3_most_21 ?_
      refine lv_icmp_ge (tgt := 64) hx hb dX3_most_22 (by decide) (fun c434 => ?_) (fun c434 => ?_)
      · have hf := ifT hf c434
        refine lv_iload hx hb dX3_most_64 (lv_at hl 4 rfl) ?_
        exact fc_reti hx hb hr hlocks hP hS dX3_most_66 (i1 hf) rfl
      · have hf := ifF hf c434
        refine lv_aload_n hx hb dX3_most_25 rfl (lv_at hl 0 rfl) ?_
        refine lv_iload hx hb dX3_most_26 (lv_at hl 5 rfl) ?_
        refine lv_iload_n hx hb dX3_most_28 rfl (lv_at hl 1 rfl) ?_
        obtain ⟨q435, hq435, hf⟩ := bnd hf
        refine fc_callV (Wa' := (pW G a v)) (st1 := [.int q435]) (As := [.int x5_432, .int x1]) (rest := []) hCF (k_X3_mayHaveAny a v x5_432 x1 hq435) (cwV 2 hts gX3_most_X3_mayHaveAny rfl rfl rfl ⟨rfl, dk_X3_mayHaveAny⟩ ⟨Nat.le_of_ble_eq_true rfl, Nat.le_of_ble_eq_true rfl⟩) hE hAB hP hD hS [0, 1] rfl rfl (va_recv hE.1 hP (ci := 0) (q0 := 0) rfl rfl) rfl rfl rfl rfl hl.1 rfl (Nat.le_of_ble_eq_true rfl) dX3_most_29 ⟨Nat.le_refl _, Nat.le_refl _⟩ (fun H locs hP hD hS => ?_)
        refine lv_iload_n hx hb dX3_most_32 rfl (lv_at hl 2 rfl) ?_
        refine lv_iconst (v := (-1 : Int32)) hx hb dX3_most_33 (by decide) ?_
        refine lv_ixor hx hb dX3_most_34 ?_
        refine lv_iand hx hb dX3_most_35 ?_
        obtain ⟨q436, hq436, hf⟩ := bnd hf
        refine fc_callS (Wa' := (pW G a v)) (st1 := [.int q436]) (As := [.int (q435 &&& (x2 ^^^ (-1 : Int32)))]) (rest := []) hCF (k_J6_bitCount_0f7a4 (q435 &&& (x2 ^^^ (-1 : Int32))) hq436) (va_cwS 1 hts gX3_most_J6_bitCount_0f7a4 rfl rfl rfl dk_J6_bitCount_0f7a4 ⟨Nat.le_of_ble_eq_true rfl, Nat.le_of_ble_eq_true rfl⟩) hE hAB hP hD hS [] rfl rfl rfl rfl rfl rfl hl.1 rfl (Nat.le_of_ble_eq_true rfl) dX3_most_36 ⟨Nat.le_refl _, Nat.le_refl _⟩ (fun H locs hP hD hS => ?_)
        refine lv_istore (lv' := [(6, .int q436), (0, .ref (a 0)), (1, .int x1), (2, .int x2), (3, .int (if (0 : Int32) < ((v 1 0) - x1) then ((v 1 0) - x1) else (0 : Int32))), (4, .int x4_431), (5, .int x5_432)]) hx hb dX3_most_39 hl (by decide) rfl (fun ls hl => ?_)
        refine lv_iload hx hb dX3_most_41 (lv_at hl 5 rfl) ?_
        refine lv_iload_n hx hb dX3_most_43 rfl (lv_at hl 4 rfl) ?_
        refine lv_iload hx hb dX3_most_44 (lv_at hl 6 rfl) ?_
        obtain ⟨q437, hq437, hf⟩ := bnd hf
        refine fc_callS (Wa' := (pW G a v)) (st1 := [.int q437, .int (if (0 : Int32) < ((v 1 0) - x1) then ((v 1 0) - x1) else (0 : Int32)), .int x4_431]) (As := [.int x5_432]) (rest := [.int (if (0 : Int32) < ((v 1 0) - x1) then ((v 1 0) - x1) else (0 : Int32)), .int x4_431]) hCF (k_J6_bitCount_0f7a4 x5_432 hq437) (va_cwS 1 hts gX3_most_J6_bitCount_0f7a4 rfl rfl rfl dk_J6_bitCount_0f7a4 ⟨Nat.le_of_ble_eq_true rfl, Nat.le_of_ble_eq_true rfl⟩) hE hAB hP hD hS [] rfl rfl rfl rfl rfl rfl hl.1 rfl (Nat.le_of_ble_eq_true rfl) dX3_most_46 ⟨Nat.le_refl _, Nat.le_refl _⟩ (fun H locs hP hD hS => ?_)
        refine lv_isub hx hb dX3_most_49 ?_
        refine lv_iload hx hb dX3_most_50 (lv_at hl 0 rfl) ?_
        refine lv_iadd hx hb dX3_most_52 ?_
        refine va_mmin hx hb (hml.trans hl.1.symm) hown hk_methodLink_RX3_55_Lib_Math_min_name hk_static_Lib_Math_min_name hk_initialized__java_lang_Math_ hk_code_Lib_Math_min_name_Lib_Math_min_code_2__some__int_ (Nat.le_of_ble_eq_true rfl) (Nat.le_of_ble_eq_true rfl) (Nat.zero_le _) (Nat.zero_le _) dX3_most_53 ?_
        refine lv_istore (lv' := [(4, .int (if (((if (0 : Int32) < ((v 1 0) - x1) then ((v 1 0) - x1) else (0 : Int32)) - q437) + q436) < x4_431 then (((if (0 : Int32) < ((v 1 0) - x1) then ((v 1 0) - x1) else (0 : Int32)) - q437) + q436) else x4_431)), (6, .int q436), (0, .ref (a 0)), (1, .int x1), (2, .int x2), (3, .int (if (0 : Int32) < ((v 1 0) - x1) then ((v 1 0) - x1) else (0 : Int32))), (5, .int x5_432)]) hx hb dX3_most_56 hl (by decide) rfl (fun ls hl => ?_)
        refine lv_iinc (v := (x5_432 + (1 : Int32))) (lv' := [(5, .int (x5_432 + (1 : Int32))), (4, .int (if (((if (0 : Int32) < ((v 1 0) - x1) then ((v 1 0) - x1) else (0 : Int32)) - q437) + q436) < x4_431 then (((if (0 : Int32) < ((v 1 0) - x1) then ((v 1 0) - x1) else (0 : Int32)) - q437) + q436) else x4_431)), (6, .int q436), (0, .ref (a 0)), (1, .int x1), (2, .int x2), (3, .int (if (0 : Int32) < ((v 1 0) - x1) then ((v 1 0) - x1) else (0 : Int32)))]) hx hb dX3_most_58 hl (k := 6) rfl rfl (by decide) rfl (fun ls hl => ?_)
        refine lv_goto (tgt := 17) hx hb dX3_most_61 (by decide) ?_
        exact ih (if (((if (0 : Int32) < ((v 1 0) - x1) then ((v 1 0) - x1) else (0 : Int32)) - q437) + q436) < x4_431 then (((if (0 : Int32) < ((v 1 0) - x1) then ((v 1 0) - x1) else (0 : Int32)) - q437) + q436) else x4_431) (x5_432 + (1 : Int32)) _ _ _ hP hD hS (lv_sub hl [3, 4, 5, 6, 1, 0] rfl) hf
  exact L17_433 FUEL (if (0 : Int32) < ((v 1 0) - x1) then ((v 1 0) - x1) else (0 : Int32)) (0 : Int32) _ _ _ hP hD hS (lv_sub hl [3, 4, 5, 2, 1, 0] rfl) hf
theorem dk_X3_firstPartner : yX3_firstPartner.cls ≠ "java/lang/invoke/MethodHandle" ∧ yX3_firstPartner.cls ≠ "java/lang/invoke/VarHandle" ∧ (parseMethodDescriptor yX3_firstPartner.desc).map (fun d => d.parameters.length) = some 2 := by decide +kernel
theorem iu_X3_firstPartner_X3 : ∀ w ∈ u_ws RX3 TX3 2, w ∈ wsX3_firstPartner := by decide +kernel
set_option maxHeartbeats 4000000 in
set_option maxRecDepth 100000 in
theorem k_X3_firstPartner {l : Launch} {G : Gx} (a : Nat → Nat) (v : St) (x1 : Int32) (x2 : Int32) {r : Int32} (hf : f_X3_firstPartner v x1 x2 = some r) : FC l G yX3_firstPartner wsX3_firstPartner ({ frames := 3, cells := 0, slots := 0, locals := 71 } : Room) [.ref (a 0), .int x1, .int x2] (pW G a v) (pW G a v) (some (.int r)) := by
  refine fc_head (cc := cX3_firstPartner) (maxL := 6) (ret := (some .int)) (C := RX3) (lv := [(0, .ref (a 0)), (1, .int x1), (2, .int x2)]) (by decide) rfl rfl (Nat.le_of_ble_eq_true rfl) rfl ?_
  intro p e s m below meth c ls A hx hb hr hml hown hts hlocks hE hP hD hAB hS hl
  have hCF : CallFix p m c cX3_firstPartner 6 s ([.ref (a 0), .int x1, .int x2] : List Value).toArray wsX3_firstPartner RX3 := ⟨hx, hb, hml, hown, hts⟩
  have hwX3 : ∀ w ∈ u_ws RX3 TX3 2, w.before ([.ref (a 0), .int x1, .int x2] : List Value).toArray s = true := fun w h => hts w (iu_X3_firstPartner_X3 w h)
  have hk_fieldLink_RX3_9__BrideNotKnown_Pairs___mayHave____I_ := hts (.fieldLink RX3 9 "BrideNotKnown$Pairs" "mayHave" "[I") (List.mem_of_getElem? (i := 1) rfl)
  have hk_initialized_RX7 := hts (.initialized RX7) (List.mem_of_getElem? (i := 20) rfl)
  have hk_static_yX7_at := hts (.static yX7_at) (List.mem_of_getElem? (i := 22) rfl)
  have hk_static_yX7_has := hts (.static yX7_has) (List.mem_of_getElem? (i := 19) rfl)
  rw [f_X3_firstPartner] at hf
  refine lv_aload_n hx hb dX3_firstPartner_0 rfl (lv_at hl 0 rfl) ?_
  refine lv_iload_n hx hb dX3_firstPartner_1 rfl (lv_at hl 1 rfl) ?_
  refine lv_iload_n hx hb dX3_firstPartner_2 rfl (lv_at hl 2 rfl) ?_
  obtain ⟨q442, hq442, hf⟩ := bnd hf
  refine fc_callV (Wa' := (pW G a v)) (st1 := [.int q442]) (As := [.int x1, .int x2]) (rest := []) hCF (k_X3_most a v x1 x2 hq442) (cwV 2 hts gX3_firstPartner_X3_most rfl rfl rfl ⟨rfl, dk_X3_most⟩ ⟨Nat.le_of_ble_eq_true rfl, Nat.le_of_ble_eq_true rfl⟩) hE hAB hP hD hS [0, 1] rfl rfl (va_recv hE.1 hP (ci := 0) (q0 := 0) rfl rfl) rfl rfl rfl rfl hl.1 rfl (Nat.le_of_ble_eq_true rfl) dX3_firstPartner_3 ⟨Nat.le_refl _, Nat.le_refl _⟩ (fun H locs hP hD hS => ?_)
  refine lv_istore_n (lv' := [(3, .int q442), (0, .ref (a 0)), (1, .int x1), (2, .int x2)]) hx hb dX3_firstPartner_6 rfl hl (by decide) rfl (fun ls hl => ?_)
  refine lv_iconst (v := (0 : Int32)) hx hb dX3_firstPartner_7 (by decide) ?_
  refine lv_istore (lv' := [(4, .int (0 : Int32)), (3, .int q442), (0, .ref (a 0)), (1, .int x1), (2, .int x2)]) hx hb dX3_firstPartner_8 hl (by decide) rfl (fun ls hl => ?_)
  have L10_444 : ∀ (n : Nat) (x4_443 : Int32) (H : Heap) (locs : List Loc) (ls : Array Slot), va_P (gD G) vwCl (pW G a v) H → va_D A (pW G a v) → va_S A s.heap H locs → lv_has ls 6 [(0, .ref (a 0)), (1, .int x1), (2, .int x2), (3, .int q442), (4, .int x4_443)] → f_X3_firstPartner_10 v x1 x2 q442 n x4_443 = some r → W p l e (headSpec wsX3_firstPartner ({ frames := 3, cells := 0, slots := 0, locals := 71 } : Room)).room s m ([.ref (a 0), .int x1, .int x2] : List Value).toArray below meth c H locs 0 0 (MQ below (FQ G A (pW G a v) (some (.int r))) ([.ref (a 0), .int x1, .int x2] : List Value).toArray s 0 0 A) (F0 m 10 ls []) := by
    intro n
    induction n with
    | zero =>
      intro x4_443 H locs ls hP hD hS hl hf
      exact no_some hf
    | succ n ih =>
      intro x4_443 H locs ls hP hD hS hl hf
      rw [f_X3_firstPartner_10] at hf
      refine lv_iload hx hb dX3_firstPartner_10 (lv_at hl 4 rfl) ?_
      refine lv_bipush (v := (8 : Int32)) hx hb dX3_firstPartner_12 (by decide) ?_
      refine lv_icmp_ge (tgt := 69) hx hb dX3_firstPartner_14 (by decide) (fun c445 => ?_) (fun c445 => ?_)
      · have hf := ifT hf c445
        refine lv_bipush (v := (-9 : Int32)) hx hb dX3_firstPartner_69 (by decide) ?_
        exact fc_reti hx hb hr hlocks hP hS dX3_firstPartner_71 (i1 hf) rfl
      · have hf := ifF hf c445
        refine lv_aload_n hx hb dX3_firstPartner_17 rfl (lv_at hl 0 rfl) ?_
        refine fc_get (v := .ref (a 1)) (ci := 0) (C := RX3) (T := TX3) (N := 2) hx hb hwX3 hown hE hP 0 rfl rfl 0 (by decide) hk_fieldLink_RX3_9__BrideNotKnown_Pairs___mayHave____I_ (fun _ h => h) rfl dX3_firstPartner_18 ?_
        refine lv_iload_n hx hb dX3_firstPartner_21 rfl (lv_at hl 1 rfl) ?_
        obtain ⟨q446, hq446, hf⟩ := bnd hf
        refine fc_callN (Wa' := (pW G a v)) (st1 := [.int q446]) (As := [.ref (a 1), .int x1]) (rest := []) hCF (k_X7_at (a 1) 5 (v 0) x1 hq446) ⟨va_cnB 2 hts gX3_firstPartner_X7_at_n62 rfl rfl rfl (hE.2.1 _ (List.mem_of_getElem? (i := 16) rfl)) hk_initialized_RX7 dk_X7_at ⟨Nat.le_of_ble_eq_true rfl, Nat.le_of_ble_eq_true rfl⟩, hk_static_yX7_at, trivial⟩ hE hAB hP hD hS [1] rfl rfl rfl rfl rfl rfl hl.1 rfl (Nat.le_of_ble_eq_true rfl) dX3_firstPartner_22 ⟨Nat.le_refl _, Nat.le_refl _⟩ (fun H locs hP hD hS => ?_)
        refine lv_iload_n hx hb dX3_firstPartner_25 rfl (lv_at hl 2 rfl) ?_
        refine lv_iconst (v := (-1 : Int32)) hx hb dX3_firstPartner_26 (by decide) ?_
        refine lv_ixor hx hb dX3_firstPartner_27 ?_
        refine lv_iand hx hb dX3_firstPartner_28 ?_
        refine lv_iload hx hb dX3_firstPartner_29 (lv_at hl 4 rfl) ?_
        obtain ⟨q447, hq447, hf⟩ := bnd hf
        refine fc_callN (Wa' := (pW G a v)) (st1 := [.int q447]) (As := [.int (q446 &&& (x2 ^^^ (-1 : Int32))), .int x4_443]) (rest := []) hCF (k_X7_has (q446 &&& (x2 ^^^ (-1 : Int32))) x4_443 hq447) ⟨va_cnB 2 hts gX3_firstPartner_X7_has_n58 rfl rfl rfl (hE.2.1 _ (List.mem_of_getElem? (i := 15) rfl)) hk_initialized_RX7 dk_X7_has ⟨Nat.le_of_ble_eq_true rfl, Nat.le_of_ble_eq_true rfl⟩, hk_static_yX7_has, trivial⟩ hE hAB hP hD hS [] rfl rfl rfl rfl rfl rfl hl.1 rfl (Nat.le_of_ble_eq_true rfl) dX3_firstPartner_31 ⟨Nat.le_refl _, Nat.le_refl _⟩ (fun H locs hP hD hS => ?_)
        refine lv_istore (lv' := [(5, .int q447), (0, .ref (a 0)), (1, .int x1), (2, .int x2), (3, .int q442), (4, .int x4_443)]) hx hb dX3_firstPartner_34 hl (by decide) rfl (fun ls hl => ?_)
        refine lv_iload hx hb dX3_firstPartner_36 (lv_at hl 0 rfl) ?_
        refine lv_if_eq (tgt := 63) hx hb dX3_firstPartner_38 (by decide) (fun c448 => ?_) (fun c448 => ?_)
        · have hf := ifT hf c448
          refine lv_iinc (v := (x4_443 + (1 : Int32))) (lv' := [(4, .int (x4_443 + (1 : Int32))), (5, .int q447), (0, .ref (a 0)), (1, .int x1), (2, .int x2), (3, .int q442)]) hx hb dX3_firstPartner_63 hl (k := 5) rfl rfl (by decide) rfl (fun ls hl => ?_)
          refine lv_goto (tgt := 10) hx hb dX3_firstPartner_66 (by decide) ?_
          exact ih (x4_443 + (1 : Int32)) _ _ _ hP hD hS (lv_sub hl [2, 3, 4, 5, 0] rfl) hf
        · have hf := ifF hf c448
          refine lv_iconst (v := (1 : Int32)) hx hb dX3_firstPartner_41 (by decide) ?_
          refine lv_aload_n hx hb dX3_firstPartner_42 rfl (lv_at hl 1 rfl) ?_
          refine lv_iload_n hx hb dX3_firstPartner_43 rfl (lv_at hl 2 rfl) ?_
          refine lv_iconst (v := (1 : Int32)) hx hb dX3_firstPartner_44 (by decide) ?_
          refine lv_iadd hx hb dX3_firstPartner_45 ?_
          refine lv_iload_n hx hb dX3_firstPartner_46 rfl (lv_at hl 3 rfl) ?_
          refine lv_iconst (v := (1 : Int32)) hx hb dX3_firstPartner_47 (by decide) ?_
          refine lv_iload hx hb dX3_firstPartner_48 (lv_at hl 5 rfl) ?_
          refine lv_ishl hx hb dX3_firstPartner_50 ?_
          refine lv_ior hx hb dX3_firstPartner_51 ?_
          obtain ⟨q449, hq449, hf⟩ := bnd hf
          refine fc_callV (Wa' := (pW G a v)) (st1 := [.int q449, .int (1 : Int32)]) (As := [.int (x1 + (1 : Int32)), .int (x2 ||| ((1 : Int32) <<< (x4_443 &&& 31)))]) (rest := [.int (1 : Int32)]) hCF (k_X3_most a v (x1 + (1 : Int32)) (x2 ||| ((1 : Int32) <<< (x4_443 &&& 31))) hq449) (cwV 2 hts gX3_firstPartner_X3_most rfl rfl rfl ⟨rfl, dk_X3_most⟩ ⟨Nat.le_of_ble_eq_true rfl, Nat.le_of_ble_eq_true rfl⟩) hE hAB hP hD hS [0, 1] rfl rfl (va_recv hE.1 hP (ci := 0) (q0 := 0) rfl rfl) rfl rfl rfl rfl hl.1 rfl (Nat.le_of_ble_eq_true rfl) dX3_firstPartner_52 ⟨Nat.le_refl _, Nat.le_refl _⟩ (fun H locs hP hD hS => ?_)
          refine lv_iadd hx hb dX3_firstPartner_55 ?_
          refine lv_iload_n hx hb dX3_firstPartner_56 rfl (lv_at hl 4 rfl) ?_
          refine lv_icmp_ne (tgt := 63) hx hb dX3_firstPartner_57 (by decide) (fun c450 => ?_) (fun c450 => ?_)
          · have hf := ifF hf c450
            refine lv_iinc (v := (x4_443 + (1 : Int32))) (lv' := [(4, .int (x4_443 + (1 : Int32))), (5, .int q447), (0, .ref (a 0)), (1, .int x1), (2, .int x2), (3, .int q442)]) hx hb dX3_firstPartner_63 hl (k := 5) rfl rfl (by decide) rfl (fun ls hl => ?_)
            refine lv_goto (tgt := 10) hx hb dX3_firstPartner_66 (by decide) ?_
            exact ih (x4_443 + (1 : Int32)) _ _ _ hP hD hS (lv_sub hl [2, 3, 4, 5, 0] rfl) hf
          · have hf := ifT hf c450
            refine lv_iload hx hb dX3_firstPartner_60 (lv_at hl 5 rfl) ?_
            exact fc_reti hx hb hr hlocks hP hS dX3_firstPartner_62 (i1 hf) rfl
  exact L10_444 FUEL (0 : Int32) _ _ _ hP hD hS (lv_sub hl [2, 3, 4, 1, 0] rfl) hf
theorem dk_X3_notKnownTo : yX3_notKnownTo.cls ≠ "java/lang/invoke/MethodHandle" ∧ yX3_notKnownTo.cls ≠ "java/lang/invoke/VarHandle" ∧ (parseMethodDescriptor yX3_notKnownTo.desc).map (fun d => d.parameters.length) = some 2 := by decide +kernel
set_option maxHeartbeats 4000000 in
set_option maxRecDepth 100000 in
theorem k_X3_notKnownTo {l : Launch} {G : Gx} (a : Nat → Nat) (v : St) (x1 : Int32) {r : Int32} (hf : f_X3_notKnownTo v x1 = some r) : FC l G yX3_notKnownTo wsX3_notKnownTo ({ frames := 4, cells := 0, slots := 0, locals := 99 } : Room) [.ref (a 0), .int x1] (vW G a v) (vW G a v) (some (.int r)) := by
  refine fc_head (cc := cX3_notKnownTo) (maxL := 4) (ret := (some .int)) (C := RX3) (lv := [(0, .ref (a 0)), (1, .int x1)]) (by decide) rfl rfl (Nat.le_of_ble_eq_true rfl) rfl ?_
  intro p e s m below meth c ls A hx hb hr hml hown hts hlocks hE hP hD hAB hS hl
  have hCF : CallFix p m c cX3_notKnownTo 4 s ([.ref (a 0), .int x1] : List Value).toArray wsX3_notKnownTo RX3 := ⟨hx, hb, hml, hown, hts⟩
  rw [f_X3_notKnownTo] at hf
  refine lv_aload_n hx hb dX3_notKnownTo_0 rfl (lv_at hl 0 rfl) ?_
  refine lv_iload_n hx hb dX3_notKnownTo_1 rfl (lv_at hl 1 rfl) ?_
  refine lv_iconst (v := (0 : Int32)) hx hb dX3_notKnownTo_2 (by decide) ?_
  obtain ⟨q453, hq453, hf⟩ := bnd hf
  refine fc_callV (Wa' := (vW G a v)) (st1 := [.int q453]) (As := [.int x1, .int (0 : Int32)]) (rest := []) hCF (k_X6_knows a v x1 (0 : Int32) hq453) (cwV 2 hts gX3_notKnownTo_X6_knows rfl rfl rfl ⟨rfl, dk_X6_knows⟩ ⟨Nat.le_of_ble_eq_true rfl, Nat.le_of_ble_eq_true rfl⟩) hE hAB hP hD hS [0, 1, 2, 3, 4, 5, 6, 7] rfl rfl (va_recv hE.1 hP (ci := 3) (q0 := 0) rfl rfl) rfl rfl rfl rfl hl.1 rfl (Nat.le_of_ble_eq_true rfl) dX3_notKnownTo_3 ⟨Nat.le_refl _, Nat.le_refl _⟩ (fun H locs hP hD hS => ?_)
  refine lv_istore_n (lv' := [(2, .int q453), (0, .ref (a 0)), (1, .int x1)]) hx hb dX3_notKnownTo_6 rfl hl (by decide) rfl (fun ls hl => ?_)
  refine lv_aload_n hx hb dX3_notKnownTo_7 rfl (lv_at hl 1 rfl) ?_
  refine lv_iconst (v := (0 : Int32)) hx hb dX3_notKnownTo_8 (by decide) ?_
  obtain ⟨q454, hq454, hf⟩ := bnd hf
  refine fc_callV (Wa' := (vW G a v)) (st1 := [.int q454]) (As := [.int (0 : Int32)]) (rest := []) hCF (k_X6_hereThen a v (0 : Int32) hq454) (cwV 1 hts gX3_notKnownTo_X6_hereThen rfl rfl rfl ⟨rfl, dk_X6_hereThen⟩ ⟨Nat.le_of_ble_eq_true rfl, Nat.le_of_ble_eq_true rfl⟩) hE hAB hP hD hS [0, 1, 2, 3, 4, 5, 6, 7] rfl rfl (va_recv hE.1 hP (ci := 3) (q0 := 0) rfl rfl) rfl rfl rfl rfl hl.1 rfl (Nat.le_of_ble_eq_true rfl) dX3_notKnownTo_9 ⟨Nat.le_refl _, Nat.le_refl _⟩ (fun H locs hP hD hS => ?_)
  refine lv_istore_n (lv' := [(3, .int q454), (2, .int q453), (0, .ref (a 0)), (1, .int x1)]) hx hb dX3_notKnownTo_12 rfl hl (by decide) rfl (fun ls hl => ?_)
  refine lv_iload_n hx hb dX3_notKnownTo_13 rfl (lv_at hl 1 rfl) ?_
  refine lv_bipush (v := (-9 : Int32)) hx hb dX3_notKnownTo_14 (by decide) ?_
  refine lv_icmp_ne (tgt := 23) hx hb dX3_notKnownTo_16 (by decide) (fun c455 => ?_) (fun c455 => ?_)
  · have hf := ifF hf c455
    refine lv_iload_n hx hb dX3_notKnownTo_23 rfl (lv_at hl 0 rfl) ?_
    refine lv_iconst (v := (1 : Int32)) hx hb dX3_notKnownTo_24 (by decide) ?_
    refine lv_iload_n hx hb dX3_notKnownTo_25 rfl (lv_at hl 1 rfl) ?_
    refine lv_ishl hx hb dX3_notKnownTo_26 ?_
    refine lv_iconst (v := (-1 : Int32)) hx hb dX3_notKnownTo_27 (by decide) ?_
    refine lv_ixor hx hb dX3_notKnownTo_28 ?_
    refine lv_iand hx hb dX3_notKnownTo_29 ?_
    exact fc_reti hx hb hr hlocks hP hS dX3_notKnownTo_30 (i1 hf) rfl
  · have hf := ifT hf c455
    refine lv_iload_n hx hb dX3_notKnownTo_19 rfl (lv_at hl 0 rfl) ?_
    refine lv_goto (tgt := 30) hx hb dX3_notKnownTo_20 (by decide) ?_
    exact fc_reti hx hb hr hlocks hP hS dX3_notKnownTo_30 (i1 hf) rfl
theorem dk_X3_look : yX3_look.cls ≠ "java/lang/invoke/MethodHandle" ∧ yX3_look.cls ≠ "java/lang/invoke/VarHandle" ∧ (parseMethodDescriptor yX3_look.desc).map (fun d => d.parameters.length) = some 1 := by decide +kernel
theorem iu_X3_look_X3 : ∀ w ∈ u_ws RX3 TX3 2, w ∈ wsX3_look := by decide +kernel
theorem iu_X3_look_X6 : ∀ w ∈ u_ws RX6 TX6 12, w ∈ wsX3_look := by decide +kernel
set_option maxHeartbeats 4000000 in
set_option maxRecDepth 100000 in
theorem k_X3_look {l : Launch} {G : Gx} (a : Nat → Nat) (v : St) (b : Nat → Nat) (u : St) {v' : St} (hf : f_X3_look v u = some v') : FC l G yX3_look wsX3_look ({ frames := 5, cells := 0, slots := 0, locals := 122 } : Room) [.ref (a 0), .ref (b 0)] (pW G a v ++ vW G b u) (pW G a v' ++ vW G b u) none := by
  refine fc_head (cc := cX3_look) (maxL := 3) (ret := none) (C := RX3) (lv := [(0, .ref (a 0)), (1, .ref (b 0))]) (by decide) rfl rfl (Nat.le_of_ble_eq_true rfl) rfl ?_
  intro p e s m below meth c ls A hx hb hr hml hown hts hlocks hE hP hD hAB hS hl
  have hCF : CallFix p m c cX3_look 3 s ([.ref (a 0), .ref (b 0)] : List Value).toArray wsX3_look RX3 := ⟨hx, hb, hml, hown, hts⟩
  have hwX3 : ∀ w ∈ u_ws RX3 TX3 2, w.before ([.ref (a 0), .ref (b 0)] : List Value).toArray s = true := fun w h => hts w (iu_X3_look_X3 w h)
  have hwX6 : ∀ w ∈ u_ws RX6 TX6 12, w.before ([.ref (a 0), .ref (b 0)] : List Value).toArray s = true := fun w h => hts w (iu_X3_look_X6 w h)
  have hk_fieldLink_RX3_15__BrideNotKnown_Valley___groomCount___I_ := hts (.fieldLink RX3 15 "BrideNotKnown$Valley" "groomCount" "I") (List.mem_of_getElem? (i := 1) rfl)
  have hk_fieldLink_RX3_21__BrideNotKnown_Pairs___groomCount___I_ := hts (.fieldLink RX3 21 "BrideNotKnown$Pairs" "groomCount" "I") (List.mem_of_getElem? (i := 2) rfl)
  have hk_fieldLink_RX3_9__BrideNotKnown_Pairs___mayHave____I_ := hts (.fieldLink RX3 9 "BrideNotKnown$Pairs" "mayHave" "[I") (List.mem_of_getElem? (i := 3) rfl)
  have hk_initialized_RX7 := hts (.initialized RX7) (List.mem_of_getElem? (i := 11) rfl)
  have hk_static_yX7_put := hts (.static yX7_put) (List.mem_of_getElem? (i := 58) rfl)
  rw [f_X3_look] at hf
  refine lv_aload_n hx hb dX3_look_0 rfl (lv_at hl 0 rfl) ?_
  refine lv_aload_n hx hb dX3_look_1 rfl (lv_at hl 1 rfl) ?_
  refine fc_get (v := .int (u 7 3)) (ci := 3) (C := RX6) (T := TX6) (N := 12) hx hb hwX6 hown hE hP 2 rfl rfl 7 (by decide) hk_fieldLink_RX3_15__BrideNotKnown_Valley___groomCount___I_ (fun _ h => h) rfl dX3_look_2 ?_
  refine fc_put (Wa' := (pW G a (sA v 1 (upd (v 1) 0 (u 7 3))) ++ vW G b u)) (ci := 0) (C := RX3) (T := TX3) (N := 2) hx hb hwX3 tyX3 tyX3_ok nmX3 hown hE hP hD hS 0 rfl rfl 1 (by decide) hk_fieldLink_RX3_21__BrideNotKnown_Pairs___groomCount___I_ (fun _ h => h) rfl rfl rfl (Nat.le_of_ble_eq_true rfl) dX3_look_5 rfl (fun H locs hP hD hS => ?_)
  refine lv_iconst (v := (0 : Int32)) hx hb dX3_look_8 (by decide) ?_
  refine lv_istore_n (lv' := [(2, .int (0 : Int32)), (0, .ref (a 0)), (1, .ref (b 0))]) hx hb dX3_look_9 rfl hl (by decide) rfl (fun ls hl => ?_)
  have L10_462 : ∀ (n : Nat) (x2_460 : Int32) (v_461 : St) (H : Heap) (locs : List Loc) (ls : Array Slot), va_P (gD G) vwCl (pW G a v_461 ++ vW G b u) H → va_D A (pW G a v_461 ++ vW G b u) → va_S A s.heap H locs → lv_has ls 3 [(0, .ref (a 0)), (1, .ref (b 0)), (2, .int x2_460)] → f_X3_look_10 u n x2_460 v_461 = some v' → W p l e (headSpec wsX3_look ({ frames := 5, cells := 0, slots := 0, locals := 122 } : Room)).room s m ([.ref (a 0), .ref (b 0)] : List Value).toArray below meth c H locs 0 0 (MQ below (FQ G A (pW G a v' ++ vW G b u) none) ([.ref (a 0), .ref (b 0)] : List Value).toArray s 0 0 A) (F0 m 10 ls []) := by
    intro n
    induction n with
    | zero =>
      intro x2_460 v_461 H locs ls hP hD hS hl hf
      exact no_some hf
    | succ n ih =>
      intro x2_460 v_461 H locs ls hP hD hS hl hf
      rw [f_X3_look_10] at hf
      refine lv_iload_n hx hb dX3_look_10 rfl (lv_at hl 2 rfl) ?_
      refine lv_aload_n hx hb dX3_look_11 rfl (lv_at hl 0 rfl) ?_
      refine fc_get (v := .int (v_461 1 0)) (ci := 0) (C := RX3) (T := TX3) (N := 2) hx hb hwX3 hown hE hP 0 rfl rfl 1 (by decide) hk_fieldLink_RX3_21__BrideNotKnown_Pairs___groomCount___I_ (fun _ h => h) rfl dX3_look_12 ?_
      refine lv_icmp_ge (tgt := 49) hx hb dX3_look_15 (by decide) (fun c463 => ?_) (fun c463 => ?_)
      · have hf := ifT hf c463
        exact fc_retv hx hb hr hlocks hP hS dX3_look_49 (congrArg (fun z => (pW G a z ++ vW G b u)) (i1 hf))
      · have hf := ifF hf c463
        refine lv_aload_n hx hb dX3_look_18 rfl (lv_at hl 0 rfl) ?_
        refine fc_get (v := .ref (a 1)) (ci := 0) (C := RX3) (T := TX3) (N := 2) hx hb hwX3 hown hE hP 0 rfl rfl 0 (by decide) hk_fieldLink_RX3_9__BrideNotKnown_Pairs___mayHave____I_ (fun _ h => h) rfl dX3_look_19 ?_
        refine lv_iload_n hx hb dX3_look_22 rfl (lv_at hl 2 rfl) ?_
        refine lv_aload_n hx hb dX3_look_23 rfl (lv_at hl 1 rfl) ?_
        refine lv_iload_n hx hb dX3_look_24 rfl (lv_at hl 2 rfl) ?_
        obtain ⟨q464, hq464, hf⟩ := bnd hf
        refine fc_callV (Wa' := (pW G a v_461 ++ vW G b u)) (st1 := [.int q464, .int x2_460, .ref (a 1)]) (As := [.int x2_460]) (rest := [.int x2_460, .ref (a 1)]) hCF (k_X6_isUnmarried b u x2_460 hq464) (cwV 1 hts gX3_look_X6_isUnmarried rfl rfl rfl ⟨rfl, dk_X6_isUnmarried⟩ ⟨Nat.le_of_ble_eq_true rfl, Nat.le_of_ble_eq_true rfl⟩) hE hAB hP hD hS [2, 3, 4, 5, 6, 7, 8, 9] rfl rfl (va_recv hE.1 hP (ci := 3) (q0 := 2) rfl rfl) rfl rfl rfl rfl hl.1 rfl (Nat.le_of_ble_eq_true rfl) dX3_look_25 ⟨Nat.le_refl _, Nat.le_refl _⟩ (fun H locs hP hD hS => ?_)
        refine lv_if_eq (tgt := 39) hx hb dX3_look_28 (by decide) (fun c465 => ?_) (fun c465 => ?_)
        · have hf := ifT hf c465
          refine lv_iconst (v := (0 : Int32)) hx hb dX3_look_39 (by decide) ?_
          obtain ⟨q466, hq466, hf⟩ := bnd hf
          refine fc_callN (Wa' := (pW G a (sA v_461 0 q466) ++ vW G b u)) (st1 := []) (As := [.ref (a 1), .int x2_460, .int (0 : Int32)]) (rest := []) hCF (k_X7_put (a 1) 5 (v_461 0) x2_460 (0 : Int32) hq466) ⟨va_cnB 3 hts gX3_look_X7_put_n30 rfl rfl rfl (hE.2.1 _ (List.mem_of_getElem? (i := 14) rfl)) hk_initialized_RX7 dk_X7_put ⟨Nat.le_of_ble_eq_true rfl, Nat.le_of_ble_eq_true rfl⟩, hk_static_yX7_put, trivial⟩ hE hAB hP hD hS [1] rfl rfl rfl rfl rfl rfl hl.1 rfl (Nat.le_of_ble_eq_true rfl) dX3_look_40 ⟨Nat.le_refl _, Nat.le_refl _⟩ (fun H locs hP hD hS => ?_)
          refine lv_iinc (v := (x2_460 + (1 : Int32))) (lv' := [(2, .int (x2_460 + (1 : Int32))), (0, .ref (a 0)), (1, .ref (b 0))]) hx hb dX3_look_43 hl (k := 2) rfl rfl (by decide) rfl (fun ls hl => ?_)
          refine lv_goto (tgt := 10) hx hb dX3_look_46 (by decide) ?_
          exact ih (x2_460 + (1 : Int32)) (sA v_461 0 q466) _ _ _ hP hD hS (lv_sub hl [1, 2, 0] rfl) hf
        · have hf := ifF hf c465
          refine lv_aload_n hx hb dX3_look_31 rfl (lv_at hl 1 rfl) ?_
          refine lv_iload_n hx hb dX3_look_32 rfl (lv_at hl 2 rfl) ?_
          obtain ⟨q467, hq467, hf⟩ := bnd hf
          refine fc_callS (Wa' := (pW G a v_461 ++ vW G b u)) (st1 := [.int q467, .int x2_460, .ref (a 1)]) (As := [.ref (b 0), .int x2_460]) (rest := [.int x2_460, .ref (a 1)]) hCF (k_X3_notKnownTo b u x2_460 hq467) (va_cwS 2 hts gX3_look_X3_notKnownTo rfl rfl rfl dk_X3_notKnownTo ⟨Nat.le_of_ble_eq_true rfl, Nat.le_of_ble_eq_true rfl⟩) hE hAB hP hD hS [2, 3, 4, 5, 6, 7, 8, 9] rfl rfl rfl rfl rfl rfl hl.1 rfl (Nat.le_of_ble_eq_true rfl) dX3_look_33 ⟨Nat.le_refl _, Nat.le_refl _⟩ (fun H locs hP hD hS => ?_)
          refine lv_goto (tgt := 40) hx hb dX3_look_36 (by decide) ?_
          obtain ⟨q468, hq468, hf⟩ := bnd hf
          refine fc_callN (Wa' := (pW G a (sA v_461 0 q468) ++ vW G b u)) (st1 := []) (As := [.ref (a 1), .int x2_460, .int q467]) (rest := []) hCF (k_X7_put (a 1) 5 (v_461 0) x2_460 q467 hq468) ⟨va_cnB 3 hts gX3_look_X7_put_n30 rfl rfl rfl (hE.2.1 _ (List.mem_of_getElem? (i := 14) rfl)) hk_initialized_RX7 dk_X7_put ⟨Nat.le_of_ble_eq_true rfl, Nat.le_of_ble_eq_true rfl⟩, hk_static_yX7_put, trivial⟩ hE hAB hP hD hS [1] rfl rfl rfl rfl rfl rfl hl.1 rfl (Nat.le_of_ble_eq_true rfl) dX3_look_40 ⟨Nat.le_refl _, Nat.le_refl _⟩ (fun H locs hP hD hS => ?_)
          refine lv_iinc (v := (x2_460 + (1 : Int32))) (lv' := [(2, .int (x2_460 + (1 : Int32))), (0, .ref (a 0)), (1, .ref (b 0))]) hx hb dX3_look_43 hl (k := 2) rfl rfl (by decide) rfl (fun ls hl => ?_)
          refine lv_goto (tgt := 10) hx hb dX3_look_46 (by decide) ?_
          exact ih (x2_460 + (1 : Int32)) (sA v_461 0 q468) _ _ _ hP hD hS (lv_sub hl [1, 2, 0] rfl) hf
  exact L10_462 FUEL (0 : Int32) (sA v 1 (upd (v 1) 0 (u 7 3))) _ _ _ hP hD hS (lv_sub hl [1, 2, 0] rfl) hf
theorem dk_X3_partnerOf : yX3_partnerOf.cls ≠ "java/lang/invoke/MethodHandle" ∧ yX3_partnerOf.cls ≠ "java/lang/invoke/VarHandle" ∧ (parseMethodDescriptor yX3_partnerOf.desc).map (fun d => d.parameters.length) = some 1 := by decide +kernel
theorem iu_X3_partnerOf_X3 : ∀ w ∈ u_ws RX3 TX3 2, w ∈ wsX3_partnerOf := by decide +kernel
set_option maxHeartbeats 4000000 in
set_option maxRecDepth 100000 in
theorem k_X3_partnerOf {l : Launch} {G : Gx} (a : Nat → Nat) (v : St) (x1 : Int32) {r : Int32} (hf : f_X3_partnerOf v x1 = some r) : FC l G yX3_partnerOf wsX3_partnerOf ({ frames := 4, cells := 0, slots := 0, locals := 96 } : Room) [.ref (a 0), .int x1] (pW G a v) (pW G a v) (some (.int r)) := by
  refine fc_head (cc := cX3_partnerOf) (maxL := 5) (ret := (some .int)) (C := RX3) (lv := [(0, .ref (a 0)), (1, .int x1)]) (by decide) rfl rfl (Nat.le_of_ble_eq_true rfl) rfl ?_
  intro p e s m below meth c ls A hx hb hr hml hown hts hlocks hE hP hD hAB hS hl
  have hCF : CallFix p m c cX3_partnerOf 5 s ([.ref (a 0), .int x1] : List Value).toArray wsX3_partnerOf RX3 := ⟨hx, hb, hml, hown, hts⟩
  have hwX3 : ∀ w ∈ u_ws RX3 TX3 2, w.before ([.ref (a 0), .int x1] : List Value).toArray s = true := fun w h => hts w (iu_X3_partnerOf_X3 w h)
  have hk_fieldLink_RX3_21__BrideNotKnown_Pairs___groomCount___I_ := hts (.fieldLink RX3 21 "BrideNotKnown$Pairs" "groomCount" "I") (List.mem_of_getElem? (i := 1) rfl)
  rw [f_X3_partnerOf] at hf
  refine lv_iconst (v := (0 : Int32)) hx hb dX3_partnerOf_0 (by decide) ?_
  refine lv_istore_n (lv' := [(2, .int (0 : Int32)), (0, .ref (a 0)), (1, .int x1)]) hx hb dX3_partnerOf_1 rfl hl (by decide) rfl (fun ls hl => ?_)
  refine lv_bipush (v := (-9 : Int32)) hx hb dX3_partnerOf_2 (by decide) ?_
  refine lv_istore_n (lv' := [(3, .int (-9 : Int32)), (2, .int (0 : Int32)), (0, .ref (a 0)), (1, .int x1)]) hx hb dX3_partnerOf_4 rfl hl (by decide) rfl (fun ls hl => ?_)
  refine lv_iconst (v := (0 : Int32)) hx hb dX3_partnerOf_5 (by decide) ?_
  refine lv_istore (lv' := [(4, .int (0 : Int32)), (3, .int (-9 : Int32)), (2, .int (0 : Int32)), (0, .ref (a 0)), (1, .int x1)]) hx hb dX3_partnerOf_6 hl (by decide) rfl (fun ls hl => ?_)
  have L8_473 : ∀ (n : Nat) (x2_470 : Int32) (x3_471 : Int32) (x4_472 : Int32) (H : Heap) (locs : List Loc) (ls : Array Slot), va_P (gD G) vwCl (pW G a v) H → va_D A (pW G a v) → va_S A s.heap H locs → lv_has ls 5 [(0, .ref (a 0)), (1, .int x1), (2, .int x2_470), (3, .int x3_471), (4, .int x4_472)] → f_X3_partnerOf_8 v x1 n x2_470 x3_471 x4_472 = some r → W p l e (headSpec wsX3_partnerOf ({ frames := 4, cells := 0, slots := 0, locals := 96 } : Room)).room s m ([.ref (a 0), .int x1] : List Value).toArray below meth c H locs 0 0 (MQ below (FQ G A (pW G a v) (some (.int r))) ([.ref (a 0), .int x1] : List Value).toArray s 0 0 A) (F0 m 8 ls []) := by
    intro n
    induction n with
    | zero =>
      intro x2_470 x3_471 x4_472 H locs ls hP hD hS hl hf
      exact no_some hf
    | succ n ih =>
      intro x2_470 x3_471 x4_472 H locs ls hP hD hS hl hf
      rw [f_X3_partnerOf_8] at hf
      refine lv_iload hx hb dX3_partnerOf_8 (lv_at hl 4 rfl) ?_
      refine lv_iload_n hx hb dX3_partnerOf_10 rfl (lv_at hl 1 rfl) ?_
      refine lv_icmp_gt (tgt := 49) hx hb dX3_partnerOf_11 (by decide) (fun c474 => ?_) (fun c474 => ?_)
      · have hf := ifT hf c474
        refine lv_iload_n hx hb dX3_partnerOf_49 rfl (lv_at hl 3 rfl) ?_
        exact fc_reti hx hb hr hlocks hP hS dX3_partnerOf_50 (i1 hf) rfl
      · have hf := ifF hf c474
        refine lv_iload hx hb dX3_partnerOf_14 (lv_at hl 4 rfl) ?_
        refine lv_aload_n hx hb dX3_partnerOf_16 rfl (lv_at hl 0 rfl) ?_
        refine fc_get (v := .int (v 1 0)) (ci := 0) (C := RX3) (T := TX3) (N := 2) hx hb hwX3 hown hE hP 0 rfl rfl 1 (by decide) hk_fieldLink_RX3_21__BrideNotKnown_Pairs___groomCount___I_ (fun _ h => h) rfl dX3_partnerOf_17 ?_
        refine lv_icmp_ge (tgt := 49) hx hb dX3_partnerOf_20 (by decide) (fun c475 => ?_) (fun c475 => ?_)
        · have hf := ifT hf c475
          refine lv_iload_n hx hb dX3_partnerOf_49 rfl (lv_at hl 3 rfl) ?_
          exact fc_reti hx hb hr hlocks hP hS dX3_partnerOf_50 (i1 hf) rfl
        · have hf := ifF hf c475
          refine lv_aload_n hx hb dX3_partnerOf_23 rfl (lv_at hl 0 rfl) ?_
          refine lv_iload hx hb dX3_partnerOf_24 (lv_at hl 4 rfl) ?_
          refine lv_iload_n hx hb dX3_partnerOf_26 rfl (lv_at hl 2 rfl) ?_
          obtain ⟨q476, hq476, hf⟩ := bnd hf
          refine fc_callV (Wa' := (pW G a v)) (st1 := [.int q476]) (As := [.int x4_472, .int x2_470]) (rest := []) hCF (k_X3_firstPartner a v x4_472 x2_470 hq476) (cwV 2 hts gX3_partnerOf_X3_firstPartner rfl rfl rfl ⟨rfl, dk_X3_firstPartner⟩ ⟨Nat.le_of_ble_eq_true rfl, Nat.le_of_ble_eq_true rfl⟩) hE hAB hP hD hS [0, 1] rfl rfl (va_recv hE.1 hP (ci := 0) (q0 := 0) rfl rfl) rfl rfl rfl rfl hl.1 rfl (Nat.le_of_ble_eq_true rfl) dX3_partnerOf_27 ⟨Nat.le_refl _, Nat.le_refl _⟩ (fun H locs hP hD hS => ?_)
          refine lv_istore_n (lv' := [(3, .int q476), (0, .ref (a 0)), (1, .int x1), (2, .int x2_470), (4, .int x4_472)]) hx hb dX3_partnerOf_30 rfl hl (by decide) rfl (fun ls hl => ?_)
          refine lv_iload_n hx hb dX3_partnerOf_31 rfl (lv_at hl 0 rfl) ?_
          refine lv_bipush (v := (-9 : Int32)) hx hb dX3_partnerOf_32 (by decide) ?_
          refine lv_icmp_eq (tgt := 43) hx hb dX3_partnerOf_34 (by decide) (fun c477 => ?_) (fun c477 => ?_)
          · have hf := ifT hf c477
            refine lv_iinc (v := (x4_472 + (1 : Int32))) (lv' := [(4, .int (x4_472 + (1 : Int32))), (3, .int q476), (0, .ref (a 0)), (1, .int x1), (2, .int x2_470)]) hx hb dX3_partnerOf_43 hl (k := 4) rfl rfl (by decide) rfl (fun ls hl => ?_)
            refine lv_goto (tgt := 8) hx hb dX3_partnerOf_46 (by decide) ?_
            exact ih x2_470 q476 (x4_472 + (1 : Int32)) _ _ _ hP hD hS (lv_sub hl [2, 3, 4, 1, 0] rfl) hf
          · have hf := ifF hf c477
            refine lv_iload_n hx hb dX3_partnerOf_37 rfl (lv_at hl 3 rfl) ?_
            refine lv_iconst (v := (1 : Int32)) hx hb dX3_partnerOf_38 (by decide) ?_
            refine lv_iload_n hx hb dX3_partnerOf_39 rfl (lv_at hl 0 rfl) ?_
            refine lv_ishl hx hb dX3_partnerOf_40 ?_
            refine lv_ior hx hb dX3_partnerOf_41 ?_
            refine lv_istore_n (lv' := [(2, .int (x2_470 ||| ((1 : Int32) <<< (q476 &&& 31)))), (3, .int q476), (0, .ref (a 0)), (1, .int x1), (4, .int x4_472)]) hx hb dX3_partnerOf_42 rfl hl (by decide) rfl (fun ls hl => ?_)
            refine lv_iinc (v := (x4_472 + (1 : Int32))) (lv' := [(4, .int (x4_472 + (1 : Int32))), (2, .int (x2_470 ||| ((1 : Int32) <<< (q476 &&& 31)))), (3, .int q476), (0, .ref (a 0)), (1, .int x1)]) hx hb dX3_partnerOf_43 hl (k := 4) rfl rfl (by decide) rfl (fun ls hl => ?_)
            refine lv_goto (tgt := 8) hx hb dX3_partnerOf_46 (by decide) ?_
            exact ih (x2_470 ||| ((1 : Int32) <<< (q476 &&& 31))) q476 (x4_472 + (1 : Int32)) _ _ _ hP hD hS (lv_sub hl [3, 4, 1, 2, 0] rfl) hf
  exact L8_473 FUEL (0 : Int32) (-9 : Int32) (0 : Int32) _ _ _ hP hD hS (lv_sub hl [3, 4, 2, 1, 0] rfl) hf
theorem dk_X4_add : yX4_add.cls ≠ "java/lang/invoke/MethodHandle" ∧ yX4_add.cls ≠ "java/lang/invoke/VarHandle" ∧ (parseMethodDescriptor yX4_add.desc).map (fun d => d.parameters.length) = some 1 := by decide +kernel
theorem iu_X4_add_X4 : ∀ w ∈ u_ws RX4 TX4 2, w ∈ wsX4_add := by decide +kernel
set_option maxHeartbeats 4000000 in
set_option maxRecDepth 100000 in
theorem k_X4_add {l : Launch} {G : Gx} (a : Nat → Nat) (v : St) (x1 : Int32) {r : Int32} {v' : St} (hf : f_X4_add v x1 = some (r, v')) : FC l G yX4_add wsX4_add ({ frames := 1, cells := 0, slots := 0, locals := 22 } : Room) [.ref (a 0), .int x1] (rW G a v) (rW G a v') (some (.int r)) := by
  refine fc_head (cc := cX4_add) (maxL := 2) (ret := (some .int)) (C := RX4) (lv := [(0, .ref (a 0)), (1, .int x1)]) (by decide) rfl rfl (Nat.le_of_ble_eq_true rfl) rfl ?_
  intro p e s m below meth c ls A hx hb hr hml hown hts hlocks hE hP hD hAB hS hl
  have hCF : CallFix p m c cX4_add 2 s ([.ref (a 0), .int x1] : List Value).toArray wsX4_add RX4 := ⟨hx, hb, hml, hown, hts⟩
  have hwX4 : ∀ w ∈ u_ws RX4 TX4 2, w.before ([.ref (a 0), .int x1] : List Value).toArray s = true := fun w h => hts w (iu_X4_add_X4 w h)
  have hk_fieldLink_RX4_9__BrideNotKnown_Row___told____I_ := hts (.fieldLink RX4 9 "BrideNotKnown$Row" "told" "[I") (List.mem_of_getElem? (i := 1) rfl)
  have hk_fieldLink_RX4_15__BrideNotKnown_Row___size___I_ := hts (.fieldLink RX4 15 "BrideNotKnown$Row" "size" "I") (List.mem_of_getElem? (i := 2) rfl)
  have hk_initialized_RX7 := hts (.initialized RX7) (List.mem_of_getElem? (i := 4) rfl)
  have hk_static_yX7_put := hts (.static yX7_put) (List.mem_of_getElem? (i := 3) rfl)
  rw [f_X4_add] at hf
  refine lv_aload_n hx hb dX4_add_0 rfl (lv_at hl 0 rfl) ?_
  refine fc_get (v := .ref (a 1)) (ci := 1) (C := RX4) (T := TX4) (N := 2) hx hb hwX4 hown hE hP 0 rfl rfl 0 (by decide) hk_fieldLink_RX4_9__BrideNotKnown_Row___told____I_ (fun _ h => h) rfl dX4_add_1 ?_
  refine lv_aload_n hx hb dX4_add_4 rfl (lv_at hl 0 rfl) ?_
  refine fc_get (v := .int (v 1 0)) (ci := 1) (C := RX4) (T := TX4) (N := 2) hx hb hwX4 hown hE hP 0 rfl rfl 1 (by decide) hk_fieldLink_RX4_15__BrideNotKnown_Row___size___I_ (fun _ h => h) rfl dX4_add_5 ?_
  refine lv_iload_n hx hb dX4_add_8 rfl (lv_at hl 1 rfl) ?_
  obtain ⟨q479, hq479, hf⟩ := bnd hf
  refine fc_callN (Wa' := (rW G a (sA v 0 q479))) (st1 := []) (As := [.ref (a 1), .int (v 1 0), .int x1]) (rest := []) hCF (k_X7_put (a 1) 16 (v 0) (v 1 0) x1 hq479) ⟨va_cnB 3 hts gX4_add_X7_put_n19 rfl rfl rfl (hE.2.1 _ (List.mem_of_getElem? (i := 21) rfl)) hk_initialized_RX7 dk_X7_put ⟨Nat.le_of_ble_eq_true rfl, Nat.le_of_ble_eq_true rfl⟩, hk_static_yX7_put, trivial⟩ hE hAB hP hD hS [1] rfl rfl rfl rfl rfl rfl hl.1 rfl (Nat.le_of_ble_eq_true rfl) dX4_add_9 ⟨Nat.le_refl _, Nat.le_refl _⟩ (fun H locs hP hD hS => ?_)
  refine lv_aload_n hx hb dX4_add_12 rfl (lv_at hl 0 rfl) ?_
  refine lv_dup hx hb dX4_add_13 rfl ?_
  refine fc_get (v := .int (v 1 0)) (ci := 1) (C := RX4) (T := TX4) (N := 2) hx hb hwX4 hown hE hP 0 rfl rfl 1 (by decide) hk_fieldLink_RX4_15__BrideNotKnown_Row___size___I_ (fun _ h => h) rfl dX4_add_14 ?_
  refine lv_iconst (v := (1 : Int32)) hx hb dX4_add_17 (by decide) ?_
  refine lv_iadd hx hb dX4_add_18 ?_
  refine fc_put (Wa' := (rW G a (sA (sA v 0 q479) 1 (upd (v 1) 0 ((v 1 0) + (1 : Int32)))))) (ci := 1) (C := RX4) (T := TX4) (N := 2) hx hb hwX4 tyX4 tyX4_ok nmX4 hown hE hP hD hS 0 rfl rfl 1 (by decide) hk_fieldLink_RX4_15__BrideNotKnown_Row___size___I_ (fun _ h => h) rfl rfl rfl (Nat.le_of_ble_eq_true rfl) dX4_add_19 rfl (fun H locs hP hD hS => ?_)
  refine lv_aload_n hx hb dX4_add_22 rfl (lv_at hl 0 rfl) ?_
  refine fc_get (v := .int ((v 1 0) + (1 : Int32))) (ci := 1) (C := RX4) (T := TX4) (N := 2) hx hb hwX4 hown hE hP 0 rfl rfl 1 (by decide) hk_fieldLink_RX4_15__BrideNotKnown_Row___size___I_ (fun _ h => h) rfl dX4_add_23 ?_
  exact fc_reti hx hb hr hlocks hP hS dX4_add_26 (i2a hf) (congrArg (fun z => (rW G a z)) (i2b hf))
theorem dk_X4_empty : yX4_empty.cls ≠ "java/lang/invoke/MethodHandle" ∧ yX4_empty.cls ≠ "java/lang/invoke/VarHandle" ∧ (parseMethodDescriptor yX4_empty.desc).map (fun d => d.parameters.length) = some 0 := by decide +kernel
theorem iu_X4_empty_X4 : ∀ w ∈ u_ws RX4 TX4 2, w ∈ wsX4_empty := by decide +kernel
set_option maxHeartbeats 4000000 in
set_option maxRecDepth 100000 in
theorem k_X4_empty {l : Launch} {G : Gx} (a : Nat → Nat) (v : St) {v' : St} (hf : f_X4_empty v = some v') : FC l G yX4_empty wsX4_empty ({ frames := 0, cells := 0, slots := 0, locals := 0 } : Room) [.ref (a 0)] (rW G a v) (rW G a v') none := by
  refine fc_head (cc := cX4_empty) (maxL := 1) (ret := none) (C := RX4) (lv := [(0, .ref (a 0))]) (by decide) rfl rfl (Nat.le_of_ble_eq_true rfl) rfl ?_
  intro p e s m below meth c ls A hx hb hr hml hown hts hlocks hE hP hD hAB hS hl
  have hCF : CallFix p m c cX4_empty 1 s ([.ref (a 0)] : List Value).toArray wsX4_empty RX4 := ⟨hx, hb, hml, hown, hts⟩
  have hwX4 : ∀ w ∈ u_ws RX4 TX4 2, w.before ([.ref (a 0)] : List Value).toArray s = true := fun w h => hts w (iu_X4_empty_X4 w h)
  have hk_fieldLink_RX4_15__BrideNotKnown_Row___size___I_ := hts (.fieldLink RX4 15 "BrideNotKnown$Row" "size" "I") (List.mem_of_getElem? (i := 1) rfl)
  rw [f_X4_empty] at hf
  refine lv_aload_n hx hb dX4_empty_0 rfl (lv_at hl 0 rfl) ?_
  refine lv_iconst (v := (0 : Int32)) hx hb dX4_empty_1 (by decide) ?_
  refine fc_put (Wa' := (rW G a (sA v 1 (upd (v 1) 0 (0 : Int32))))) (ci := 1) (C := RX4) (T := TX4) (N := 2) hx hb hwX4 tyX4 tyX4_ok nmX4 hown hE hP hD hS 0 rfl rfl 1 (by decide) hk_fieldLink_RX4_15__BrideNotKnown_Row___size___I_ (fun _ h => h) rfl rfl rfl (Nat.le_of_ble_eq_true rfl) dX4_empty_2 rfl (fun H locs hP hD hS => ?_)
  exact fc_retv hx hb hr hlocks hP hS dX4_empty_5 (congrArg (fun z => (rW G a z)) (i1 hf))
theorem dk_X4_isShownAs : yX4_isShownAs.cls ≠ "java/lang/invoke/MethodHandle" ∧ yX4_isShownAs.cls ≠ "java/lang/invoke/VarHandle" ∧ (parseMethodDescriptor yX4_isShownAs.desc).map (fun d => d.parameters.length) = some 4 := by decide +kernel
theorem iu_X4_isShownAs_X4 : ∀ w ∈ u_ws RX4 TX4 2, w ∈ wsX4_isShownAs := by decide +kernel
set_option maxHeartbeats 4000000 in
set_option maxRecDepth 100000 in
theorem k_X4_isShownAs {l : Launch} {G : Gx} (a : Nat → Nat) (v : St) (b : Nat → Nat) (u : St) (x2 : Int32) (x3 : Int32) (x4 : Int32) {r : Int32} (hf : f_X4_isShownAs v u x2 x3 x4 = some r) : FC l G yX4_isShownAs wsX4_isShownAs ({ frames := 2, cells := 0, slots := 0, locals := 49 } : Room) [.ref (a 0), .ref (b 0), .int x2, .int x3, .int x4] (rW G a v ++ vW G b u) (rW G a v ++ vW G b u) (some (.int r)) := by
  refine fc_head (cc := cX4_isShownAs) (maxL := 6) (ret := (some .boolean)) (C := RX4) (lv := [(0, .ref (a 0)), (1, .ref (b 0)), (2, .int x2), (3, .int x3), (4, .int x4)]) (by decide) rfl rfl (Nat.le_of_ble_eq_true rfl) rfl ?_
  intro p e s m below meth c ls A hx hb hr hml hown hts hlocks hE hP hD hAB hS hl
  have hCF : CallFix p m c cX4_isShownAs 6 s ([.ref (a 0), .ref (b 0), .int x2, .int x3, .int x4] : List Value).toArray wsX4_isShownAs RX4 := ⟨hx, hb, hml, hown, hts⟩
  have hwX4 : ∀ w ∈ u_ws RX4 TX4 2, w.before ([.ref (a 0), .ref (b 0), .int x2, .int x3, .int x4] : List Value).toArray s = true := fun w h => hts w (iu_X4_isShownAs_X4 w h)
  have hk_fieldLink_RX4_15__BrideNotKnown_Row___size___I_ := hts (.fieldLink RX4 15 "BrideNotKnown$Row" "size" "I") (List.mem_of_getElem? (i := 1) rfl)
  have hk_fieldLink_RX4_9__BrideNotKnown_Row___told____I_ := hts (.fieldLink RX4 9 "BrideNotKnown$Row" "told" "[I") (List.mem_of_getElem? (i := 2) rfl)
  have hk_initialized_RX7 := hts (.initialized RX7) (List.mem_of_getElem? (i := 11) rfl)
  have hk_static_yX7_at := hts (.static yX7_at) (List.mem_of_getElem? (i := 10) rfl)
  rw [f_X4_isShownAs] at hf
  refine lv_iconst (v := (0 : Int32)) hx hb dX4_isShownAs_0 (by decide) ?_
  refine lv_istore (lv' := [(5, .int (0 : Int32)), (0, .ref (a 0)), (1, .ref (b 0)), (2, .int x2), (3, .int x3), (4, .int x4)]) hx hb dX4_isShownAs_1 hl (by decide) rfl (fun ls hl => ?_)
  have L3_485 : ∀ (n : Nat) (x5_484 : Int32) (H : Heap) (locs : List Loc) (ls : Array Slot), va_P (gD G) vwCl (rW G a v ++ vW G b u) H → va_D A (rW G a v ++ vW G b u) → va_S A s.heap H locs → lv_has ls 6 [(0, .ref (a 0)), (1, .ref (b 0)), (2, .int x2), (3, .int x3), (4, .int x4), (5, .int x5_484)] → f_X4_isShownAs_3 v u x2 x3 x4 n x5_484 = some r → W p l e (headSpec wsX4_isShownAs ({ frames := 2, cells := 0, slots := 0, locals := 49 } : Room)).room s m ([.ref (a 0), .ref (b 0), .int x2, .int x3, .int x4] : List Value).toArray below meth c H locs 0 0 (MQ below (FQ G A (rW G a v ++ vW G b u) (some (.int r))) ([.ref (a 0), .ref (b 0), .int x2, .int x3, .int x4] : List Value).toArray s 0 0 A) (F0 m 3 ls []) := by
    intro n
    induction n with
    | zero =>
      intro x5_484 H locs ls hP hD hS hl hf
      exact no_some hf
    | succ n ih =>
      intro x5_484 H locs ls hP hD hS hl hf
      rw [f_X4_isShownAs_3] at hf
      refine lv_iload hx hb dX4_isShownAs_3 (lv_at hl 5 rfl) ?_
      refine lv_aload_n hx hb dX4_isShownAs_5 rfl (lv_at hl 0 rfl) ?_
      refine fc_get (v := .int (v 1 0)) (ci := 1) (C := RX4) (T := TX4) (N := 2) hx hb hwX4 hown hE hP 0 rfl rfl 1 (by decide) hk_fieldLink_RX4_15__BrideNotKnown_Row___size___I_ (fun _ h => h) rfl dX4_isShownAs_6 ?_
      refine lv_icmp_ge (tgt := 42) hx hb dX4_isShownAs_9 (by decide) (fun c486 => ?_) (fun c486 => ?_)
      · have hf := ifT hf c486
        refine lv_iconst (v := (1 : Int32)) hx hb dX4_isShownAs_42 (by decide) ?_
        exact fc_retz hx hb hr hlocks hP hS dX4_isShownAs_43 (by decide) (i1 hf) rfl
      · have hf := ifF hf c486
        refine lv_aload_n hx hb dX4_isShownAs_12 rfl (lv_at hl 1 rfl) ?_
        refine lv_iload_n hx hb dX4_isShownAs_13 rfl (lv_at hl 2 rfl) ?_
        refine lv_iload_n hx hb dX4_isShownAs_14 rfl (lv_at hl 3 rfl) ?_
        refine lv_iload hx hb dX4_isShownAs_15 (lv_at hl 4 rfl) ?_
        refine lv_iload hx hb dX4_isShownAs_17 (lv_at hl 5 rfl) ?_
        obtain ⟨q487, hq487, hf⟩ := bnd hf
        refine fc_callV (Wa' := (rW G a v ++ vW G b u)) (st1 := [.int q487]) (As := [.int x2, .int x3, .int x4, .int x5_484]) (rest := []) hCF (k_X6_showsAs b u x2 x3 x4 x5_484 hq487) (cwV 4 hts gX4_isShownAs_X6_showsAs rfl rfl rfl ⟨rfl, dk_X6_showsAs⟩ ⟨Nat.le_of_ble_eq_true rfl, Nat.le_of_ble_eq_true rfl⟩) hE hAB hP hD hS [2, 3, 4, 5, 6, 7, 8, 9] rfl rfl (va_recv hE.1 hP (ci := 3) (q0 := 2) rfl rfl) rfl rfl rfl rfl hl.1 rfl (Nat.le_of_ble_eq_true rfl) dX4_isShownAs_19 ⟨Nat.le_refl _, Nat.le_refl _⟩ (fun H locs hP hD hS => ?_)
        refine lv_aload_n hx hb dX4_isShownAs_22 rfl (lv_at hl 0 rfl) ?_
        refine fc_get (v := .ref (a 1)) (ci := 1) (C := RX4) (T := TX4) (N := 2) hx hb hwX4 hown hE hP 0 rfl rfl 0 (by decide) hk_fieldLink_RX4_9__BrideNotKnown_Row___told____I_ (fun _ h => h) rfl dX4_isShownAs_23 ?_
        refine lv_iload hx hb dX4_isShownAs_26 (lv_at hl 5 rfl) ?_
        obtain ⟨q488, hq488, hf⟩ := bnd hf
        refine fc_callN (Wa' := (rW G a v ++ vW G b u)) (st1 := [.int q488, .int q487]) (As := [.ref (a 1), .int x5_484]) (rest := [.int q487]) hCF (k_X7_at (a 1) 16 (v 0) x5_484 hq488) ⟨va_cnB 2 hts gX4_isShownAs_X7_at_n23 rfl rfl rfl (hE.2.1 _ (List.mem_of_getElem? (i := 18) rfl)) hk_initialized_RX7 dk_X7_at ⟨Nat.le_of_ble_eq_true rfl, Nat.le_of_ble_eq_true rfl⟩, hk_static_yX7_at, trivial⟩ hE hAB hP hD hS [1] rfl rfl rfl rfl rfl rfl hl.1 rfl (Nat.le_of_ble_eq_true rfl) dX4_isShownAs_28 ⟨Nat.le_refl _, Nat.le_refl _⟩ (fun H locs hP hD hS => ?_)
        refine lv_icmp_eq (tgt := 36) hx hb dX4_isShownAs_31 (by decide) (fun c489 => ?_) (fun c489 => ?_)
        · have hf := ifT hf c489
          refine lv_iinc (v := (x5_484 + (1 : Int32))) (lv' := [(5, .int (x5_484 + (1 : Int32))), (0, .ref (a 0)), (1, .ref (b 0)), (2, .int x2), (3, .int x3), (4, .int x4)]) hx hb dX4_isShownAs_36 hl (k := 5) rfl rfl (by decide) rfl (fun ls hl => ?_)
          refine lv_goto (tgt := 3) hx hb dX4_isShownAs_39 (by decide) ?_
          exact ih (x5_484 + (1 : Int32)) _ _ _ hP hD hS (lv_sub hl [1, 2, 3, 4, 5, 0] rfl) hf
        · have hf := ifF hf c489
          refine lv_iconst (v := (0 : Int32)) hx hb dX4_isShownAs_34 (by decide) ?_
          exact fc_retz hx hb hr hlocks hP hS dX4_isShownAs_35 (by decide) (i1 hf) rfl
  exact L3_485 FUEL (0 : Int32) _ _ _ hP hD hS (lv_sub hl [1, 2, 3, 4, 5, 0] rfl) hf
theorem dk_X4_figuresOf : yX4_figuresOf.cls ≠ "java/lang/invoke/MethodHandle" ∧ yX4_figuresOf.cls ≠ "java/lang/invoke/VarHandle" ∧ (parseMethodDescriptor yX4_figuresOf.desc).map (fun d => d.parameters.length) = some 2 := by decide +kernel
set_option maxHeartbeats 4000000 in
set_option maxRecDepth 100000 in
theorem k_X4_figuresOf {l : Launch} {G : Gx} (a : Nat → Nat) (v : St) (b : Nat → Nat) (u : St) (x2 : Int32) {r : Int32} (hf : f_X4_figuresOf v u x2 = some r) : FC l G yX4_figuresOf wsX4_figuresOf ({ frames := 3, cells := 0, slots := 0, locals := 74 } : Room) [.ref (a 0), .ref (b 0), .int x2] (rW G a v ++ vW G b u) (rW G a v ++ vW G b u) (some (.int r)) := by
  refine fc_head (cc := cX4_figuresOf) (maxL := 5) (ret := (some .int)) (C := RX4) (lv := [(0, .ref (a 0)), (1, .ref (b 0)), (2, .int x2)]) (by decide) rfl rfl (Nat.le_of_ble_eq_true rfl) rfl ?_
  intro p e s m below meth c ls A hx hb hr hml hown hts hlocks hE hP hD hAB hS hl
  have hCF : CallFix p m c cX4_figuresOf 5 s ([.ref (a 0), .ref (b 0), .int x2] : List Value).toArray wsX4_figuresOf RX4 := ⟨hx, hb, hml, hown, hts⟩
  rw [f_X4_figuresOf] at hf
  refine lv_iconst (v := (0 : Int32)) hx hb dX4_figuresOf_0 (by decide) ?_
  refine lv_istore_n (lv' := [(3, .int (0 : Int32)), (0, .ref (a 0)), (1, .ref (b 0)), (2, .int x2)]) hx hb dX4_figuresOf_1 rfl hl (by decide) rfl (fun ls hl => ?_)
  refine lv_iconst (v := (0 : Int32)) hx hb dX4_figuresOf_2 (by decide) ?_
  refine lv_istore (lv' := [(4, .int (0 : Int32)), (3, .int (0 : Int32)), (0, .ref (a 0)), (1, .ref (b 0)), (2, .int x2)]) hx hb dX4_figuresOf_3 hl (by decide) rfl (fun ls hl => ?_)
  have L5_494 : ∀ (n : Nat) (x3_492 : Int32) (x4_493 : Int32) (H : Heap) (locs : List Loc) (ls : Array Slot), va_P (gD G) vwCl (rW G a v ++ vW G b u) H → va_D A (rW G a v ++ vW G b u) → va_S A s.heap H locs → lv_has ls 5 [(0, .ref (a 0)), (1, .ref (b 0)), (2, .int x2), (3, .int x3_492), (4, .int x4_493)] → f_X4_figuresOf_5 v u x2 n x3_492 x4_493 = some r → W p l e (headSpec wsX4_figuresOf ({ frames := 3, cells := 0, slots := 0, locals := 74 } : Room)).room s m ([.ref (a 0), .ref (b 0), .int x2] : List Value).toArray below meth c H locs 0 0 (MQ below (FQ G A (rW G a v ++ vW G b u) (some (.int r))) ([.ref (a 0), .ref (b 0), .int x2] : List Value).toArray s 0 0 A) (F0 m 5 ls []) := by
    intro n
    induction n with
    | zero =>
      intro x3_492 x4_493 H locs ls hP hD hS hl hf
      exact no_some hf
    | succ n ih =>
      intro x3_492 x4_493 H locs ls hP hD hS hl hf
      rw [f_X4_figuresOf_5] at hf
      refine lv_iload hx hb dX4_figuresOf_5 (lv_at hl 4 rfl) ?_
      refine lv_bipush (v := (9 : Int32)) hx hb dX4_figuresOf_7 (by decide) ?_
      refine lv_icmp_gt (tgt := 41) hx hb dX4_figuresOf_9 (by decide) (fun c495 => ?_) (fun c495 => ?_)
      · have hf := ifT hf c495
        refine lv_iload_n hx hb dX4_figuresOf_41 rfl (lv_at hl 3 rfl) ?_
        exact fc_reti hx hb hr hlocks hP hS dX4_figuresOf_42 (i1 hf) rfl
      · have hf := ifF hf c495
        refine lv_aload_n hx hb dX4_figuresOf_12 rfl (lv_at hl 0 rfl) ?_
        refine lv_aload_n hx hb dX4_figuresOf_13 rfl (lv_at hl 1 rfl) ?_
        refine lv_iload_n hx hb dX4_figuresOf_14 rfl (lv_at hl 2 rfl) ?_
        refine lv_aload_n hx hb dX4_figuresOf_15 rfl (lv_at hl 1 rfl) ?_
        refine lv_iload_n hx hb dX4_figuresOf_16 rfl (lv_at hl 2 rfl) ?_
        obtain ⟨q496, hq496, hf⟩ := bnd hf
        refine fc_callV (Wa' := (rW G a v ++ vW G b u)) (st1 := [.int q496, .int x2, .ref (b 0), .ref (a 0)]) (As := [.int x2]) (rest := [.int x2, .ref (b 0), .ref (a 0)]) hCF (k_X6_kindOf b u x2 hq496) (cwV 1 hts gX4_figuresOf_X6_kindOf rfl rfl rfl ⟨rfl, dk_X6_kindOf⟩ ⟨Nat.le_of_ble_eq_true rfl, Nat.le_of_ble_eq_true rfl⟩) hE hAB hP hD hS [2, 3, 4, 5, 6, 7, 8, 9] rfl rfl (va_recv hE.1 hP (ci := 3) (q0 := 2) rfl rfl) rfl rfl rfl rfl hl.1 rfl (Nat.le_of_ble_eq_true rfl) dX4_figuresOf_17 ⟨Nat.le_refl _, Nat.le_refl _⟩ (fun H locs hP hD hS => ?_)
        refine lv_iload hx hb dX4_figuresOf_20 (lv_at hl 4 rfl) ?_
        obtain ⟨q497, hq497, hf⟩ := bnd hf
        refine fc_callV (Wa' := (rW G a v ++ vW G b u)) (st1 := [.int q497]) (As := [.ref (b 0), .int x2, .int q496, .int x4_493]) (rest := []) hCF (k_X4_isShownAs a v b u x2 q496 x4_493 hq497) (cwV 4 hts gX4_figuresOf_X4_isShownAs rfl rfl rfl ⟨rfl, dk_X4_isShownAs⟩ ⟨Nat.le_of_ble_eq_true rfl, Nat.le_of_ble_eq_true rfl⟩) hE hAB hP hD hS [0, 1, 2, 3, 4, 5, 6, 7, 8, 9] rfl rfl (va_recv hE.1 hP (ci := 1) (q0 := 0) rfl rfl) rfl rfl rfl rfl hl.1 rfl (Nat.le_of_ble_eq_true rfl) dX4_figuresOf_22 ⟨Nat.le_refl _, Nat.le_refl _⟩ (fun H locs hP hD hS => ?_)
        refine lv_if_eq (tgt := 35) hx hb dX4_figuresOf_25 (by decide) (fun c498 => ?_) (fun c498 => ?_)
        · have hf := ifT hf c498
          refine lv_iinc (v := (x4_493 + (1 : Int32))) (lv' := [(4, .int (x4_493 + (1 : Int32))), (0, .ref (a 0)), (1, .ref (b 0)), (2, .int x2), (3, .int x3_492)]) hx hb dX4_figuresOf_35 hl (k := 4) rfl rfl (by decide) rfl (fun ls hl => ?_)
          refine lv_goto (tgt := 5) hx hb dX4_figuresOf_38 (by decide) ?_
          exact ih x3_492 (x4_493 + (1 : Int32)) _ _ _ hP hD hS (lv_sub hl [1, 2, 3, 4, 0] rfl) hf
        · have hf := ifF hf c498
          refine lv_iload_n hx hb dX4_figuresOf_28 rfl (lv_at hl 3 rfl) ?_
          refine lv_iconst (v := (1 : Int32)) hx hb dX4_figuresOf_29 (by decide) ?_
          refine lv_iload hx hb dX4_figuresOf_30 (lv_at hl 4 rfl) ?_
          refine lv_ishl hx hb dX4_figuresOf_32 ?_
          refine lv_ior hx hb dX4_figuresOf_33 ?_
          refine lv_istore_n (lv' := [(3, .int (x3_492 ||| ((1 : Int32) <<< (x4_493 &&& 31)))), (0, .ref (a 0)), (1, .ref (b 0)), (2, .int x2), (4, .int x4_493)]) hx hb dX4_figuresOf_34 rfl hl (by decide) rfl (fun ls hl => ?_)
          refine lv_iinc (v := (x4_493 + (1 : Int32))) (lv' := [(4, .int (x4_493 + (1 : Int32))), (3, .int (x3_492 ||| ((1 : Int32) <<< (x4_493 &&& 31)))), (0, .ref (a 0)), (1, .ref (b 0)), (2, .int x2)]) hx hb dX4_figuresOf_35 hl (k := 4) rfl rfl (by decide) rfl (fun ls hl => ?_)
          refine lv_goto (tgt := 5) hx hb dX4_figuresOf_38 (by decide) ?_
          exact ih (x3_492 ||| ((1 : Int32) <<< (x4_493 &&& 31))) (x4_493 + (1 : Int32)) _ _ _ hP hD hS (lv_sub hl [2, 3, 4, 1, 0] rfl) hf
  exact L5_494 FUEL (0 : Int32) (0 : Int32) _ _ _ hP hD hS (lv_sub hl [2, 3, 4, 1, 0] rfl) hf
theorem dk_X4_firstWrongGuess : yX4_firstWrongGuess.cls ≠ "java/lang/invoke/MethodHandle" ∧ yX4_firstWrongGuess.cls ≠ "java/lang/invoke/VarHandle" ∧ (parseMethodDescriptor yX4_firstWrongGuess.desc).map (fun d => d.parameters.length) = some 1 := by decide +kernel
theorem iu_X4_firstWrongGuess_X4 : ∀ w ∈ u_ws RX4 TX4 2, w ∈ wsX4_firstWrongGuess := by decide +kernel
set_option maxHeartbeats 4000000 in
set_option maxRecDepth 100000 in
theorem k_X4_firstWrongGuess {l : Launch} {G : Gx} (a : Nat → Nat) (v : St) (b : Nat → Nat) (u : St) {r : Int32} (hf : f_X4_firstWrongGuess v u = some r) : FC l G yX4_firstWrongGuess wsX4_firstWrongGuess ({ frames := 4, cells := 0, slots := 0, locals := 99 } : Room) [.ref (a 0), .ref (b 0)] (rW G a v ++ vW G b u) (rW G a v ++ vW G b u) (some (.int r)) := by
  refine fc_head (cc := cX4_firstWrongGuess) (maxL := 4) (ret := (some .int)) (C := RX4) (lv := [(0, .ref (a 0)), (1, .ref (b 0))]) (by decide) rfl rfl (Nat.le_of_ble_eq_true rfl) rfl ?_
  intro p e s m below meth c ls A hx hb hr hml hown hts hlocks hE hP hD hAB hS hl
  have hCF : CallFix p m c cX4_firstWrongGuess 4 s ([.ref (a 0), .ref (b 0)] : List Value).toArray wsX4_firstWrongGuess RX4 := ⟨hx, hb, hml, hown, hts⟩
  have hwX4 : ∀ w ∈ u_ws RX4 TX4 2, w.before ([.ref (a 0), .ref (b 0)] : List Value).toArray s = true := fun w h => hts w (iu_X4_firstWrongGuess_X4 w h)
  have hk_fieldLink_RX4_15__BrideNotKnown_Row___size___I_ := hts (.fieldLink RX4 15 "BrideNotKnown$Row" "size" "I") (List.mem_of_getElem? (i := 1) rfl)
  have hk_fieldLink_RX4_9__BrideNotKnown_Row___told____I_ := hts (.fieldLink RX4 9 "BrideNotKnown$Row" "told" "[I") (List.mem_of_getElem? (i := 2) rfl)
  have hk_initialized_RX7 := hts (.initialized RX7) (List.mem_of_getElem? (i := 15) rfl)
  have hk_static_yX7_at := hts (.static yX7_at) (List.mem_of_getElem? (i := 14) rfl)
  rw [f_X4_firstWrongGuess] at hf
  refine lv_iconst (v := (0 : Int32)) hx hb dX4_firstWrongGuess_0 (by decide) ?_
  refine lv_istore_n (lv' := [(2, .int (0 : Int32)), (0, .ref (a 0)), (1, .ref (b 0))]) hx hb dX4_firstWrongGuess_1 rfl hl (by decide) rfl (fun ls hl => ?_)
  have L2_509 : ∀ (n : Nat) (x2_508 : Int32) (H : Heap) (locs : List Loc) (ls : Array Slot), va_P (gD G) vwCl (rW G a v ++ vW G b u) H → va_D A (rW G a v ++ vW G b u) → va_S A s.heap H locs → lv_has ls 4 [(0, .ref (a 0)), (1, .ref (b 0)), (2, .int x2_508)] → f_X4_firstWrongGuess_2 v u n x2_508 = some r → W p l e (headSpec wsX4_firstWrongGuess ({ frames := 4, cells := 0, slots := 0, locals := 99 } : Room)).room s m ([.ref (a 0), .ref (b 0)] : List Value).toArray below meth c H locs 0 0 (MQ below (FQ G A (rW G a v ++ vW G b u) (some (.int r))) ([.ref (a 0), .ref (b 0)] : List Value).toArray s 0 0 A) (F0 m 2 ls []) := by
    intro n
    induction n with
    | zero =>
      intro x2_508 H locs ls hP hD hS hl hf
      exact no_some hf
    | succ n ih =>
      intro x2_508 H locs ls hP hD hS hl hf
      rw [f_X4_firstWrongGuess_2] at hf
      refine lv_iload_n hx hb dX4_firstWrongGuess_2 rfl (lv_at hl 2 rfl) ?_
      refine lv_aload_n hx hb dX4_firstWrongGuess_3 rfl (lv_at hl 0 rfl) ?_
      refine fc_get (v := .int (v 1 0)) (ci := 1) (C := RX4) (T := TX4) (N := 2) hx hb hwX4 hown hE hP 0 rfl rfl 1 (by decide) hk_fieldLink_RX4_15__BrideNotKnown_Row___size___I_ (fun _ h => h) rfl dX4_firstWrongGuess_4 ?_
      refine lv_icmp_ge (tgt := 56) hx hb dX4_firstWrongGuess_7 (by decide) (fun c510 => ?_) (fun c510 => ?_)
      · have hf := ifT hf c510
        refine lv_bipush (v := (-9 : Int32)) hx hb dX4_firstWrongGuess_56 (by decide) ?_
        exact fc_reti hx hb hr hlocks hP hS dX4_firstWrongGuess_58 (i1 hf) rfl
      · have hf := ifF hf c510
        refine lv_aload_n hx hb dX4_firstWrongGuess_10 rfl (lv_at hl 1 rfl) ?_
        refine lv_iload_n hx hb dX4_firstWrongGuess_11 rfl (lv_at hl 2 rfl) ?_
        obtain ⟨q511, hq511, hf⟩ := bnd hf
        refine fc_callV (Wa' := (rW G a v ++ vW G b u)) (st1 := [.int q511]) (As := [.int x2_508]) (rest := []) hCF (k_X6_hasGroom b u x2_508 hq511) (cwV 1 hts gX4_firstWrongGuess_X6_hasGroom rfl rfl rfl ⟨rfl, dk_X6_hasGroom⟩ ⟨Nat.le_of_ble_eq_true rfl, Nat.le_of_ble_eq_true rfl⟩) hE hAB hP hD hS [2, 3, 4, 5, 6, 7, 8, 9] rfl rfl (va_recv hE.1 hP (ci := 3) (q0 := 2) rfl rfl) rfl rfl rfl rfl hl.1 rfl (Nat.le_of_ble_eq_true rfl) dX4_firstWrongGuess_12 ⟨Nat.le_refl _, Nat.le_refl _⟩ (fun H locs hP hD hS => ?_)
        have J43_513 : ∀ (s0_512 : Int32) (H : Heap) (locs : List Loc) (ls : Array Slot), va_P (gD G) vwCl (rW G a v ++ vW G b u) H → va_D A (rW G a v ++ vW G b u) → va_S A s.heap H locs → lv_has ls 4 [(0, .ref (a 0)), (1, .ref (b 0)), (2, .int x2_508)] → f_X4_firstWrongGuess_43 x2_508 s0_512 (fun (x2_514 : Int32) => f_X4_firstWrongGuess_2 v u n x2_514) = some r → W p l e (headSpec wsX4_firstWrongGuess ({ frames := 4, cells := 0, slots := 0, locals := 99 } : Room)).room s m ([.ref (a 0), .ref (b 0)] : List Value).toArray below meth c H locs 0 0 (MQ below (FQ G A (rW G a v ++ vW G b u) (some (.int r))) ([.ref (a 0), .ref (b 0)] : List Value).toArray s 0 0 A) (F0 m 43 ls [.int s0_512]) := by
          intro s0_512 H locs ls hP hD hS hl hf
          rw [f_X4_firstWrongGuess_43] at hf
          refine lv_istore_n (lv' := [(3, .int s0_512), (0, .ref (a 0)), (1, .ref (b 0)), (2, .int x2_508)]) hx hb dX4_firstWrongGuess_43 rfl hl (by decide) rfl (fun ls hl => ?_)
          refine lv_iload_n hx hb dX4_firstWrongGuess_44 rfl (lv_at hl 0 rfl) ?_
          refine lv_if_ne (tgt := 50) hx hb dX4_firstWrongGuess_45 (by decide) (fun c515 => ?_) (fun c515 => ?_)
          · have hf := ifF hf c515
            refine lv_iinc (v := (x2_508 + (1 : Int32))) (lv' := [(2, .int (x2_508 + (1 : Int32))), (3, .int s0_512), (0, .ref (a 0)), (1, .ref (b 0))]) hx hb dX4_firstWrongGuess_50 hl (k := 3) rfl rfl (by decide) rfl (fun ls hl => ?_)
            refine lv_goto (tgt := 2) hx hb dX4_firstWrongGuess_53 (by decide) ?_
            exact ih (x2_508 + (1 : Int32)) _ _ _ hP hD hS (lv_sub hl [2, 3, 0] rfl) hf
          · have hf := ifT hf c515
            refine lv_iload_n hx hb dX4_firstWrongGuess_48 rfl (lv_at hl 3 rfl) ?_
            exact fc_reti hx hb hr hlocks hP hS dX4_firstWrongGuess_49 (i1 hf) rfl
        refine lv_if_eq (tgt := 42) hx hb dX4_firstWrongGuess_15 (by decide) (fun c516 => ?_) (fun c516 => ?_)
        · have hf := ifT hf c516
          refine lv_iconst (v := (0 : Int32)) hx hb dX4_firstWrongGuess_42 (by decide) ?_
          exact J43_513 (0 : Int32) _ _ _ hP hD hS (lv_sub hl [0, 1, 2] rfl) hf
        · have hf := ifF hf c516
          refine lv_aload_n hx hb dX4_firstWrongGuess_18 rfl (lv_at hl 1 rfl) ?_
          refine lv_iload_n hx hb dX4_firstWrongGuess_19 rfl (lv_at hl 2 rfl) ?_
          refine lv_iconst (v := (0 : Int32)) hx hb dX4_firstWrongGuess_20 (by decide) ?_
          obtain ⟨q517, hq517, hf⟩ := bnd hf
          refine fc_callV (Wa' := (rW G a v ++ vW G b u)) (st1 := [.int q517]) (As := [.int x2_508, .int (0 : Int32)]) (rest := []) hCF (k_X6_guesses b u x2_508 (0 : Int32) hq517) (cwV 2 hts gX4_firstWrongGuess_X6_guesses rfl rfl rfl ⟨rfl, dk_X6_guesses⟩ ⟨Nat.le_of_ble_eq_true rfl, Nat.le_of_ble_eq_true rfl⟩) hE hAB hP hD hS [2, 3, 4, 5, 6, 7, 8, 9] rfl rfl (va_recv hE.1 hP (ci := 3) (q0 := 2) rfl rfl) rfl rfl rfl rfl hl.1 rfl (Nat.le_of_ble_eq_true rfl) dX4_firstWrongGuess_21 ⟨Nat.le_refl _, Nat.le_refl _⟩ (fun H locs hP hD hS => ?_)
          obtain ⟨q518, hq518, hf⟩ := bnd hf
          refine fc_callS (Wa' := (rW G a v ++ vW G b u)) (st1 := [.int q518]) (As := [.int q517]) (rest := []) hCF (k_J6_bitCount_0f7a4 q517 hq518) (va_cwS 1 hts gX4_firstWrongGuess_J6_bitCount_0f7a4 rfl rfl rfl dk_J6_bitCount_0f7a4 ⟨Nat.le_of_ble_eq_true rfl, Nat.le_of_ble_eq_true rfl⟩) hE hAB hP hD hS [] rfl rfl rfl rfl rfl rfl hl.1 rfl (Nat.le_of_ble_eq_true rfl) dX4_firstWrongGuess_24 ⟨Nat.le_refl _, Nat.le_refl _⟩ (fun H locs hP hD hS => ?_)
          refine lv_aload_n hx hb dX4_firstWrongGuess_27 rfl (lv_at hl 0 rfl) ?_
          refine fc_get (v := .ref (a 1)) (ci := 1) (C := RX4) (T := TX4) (N := 2) hx hb hwX4 hown hE hP 0 rfl rfl 0 (by decide) hk_fieldLink_RX4_9__BrideNotKnown_Row___told____I_ (fun _ h => h) rfl dX4_firstWrongGuess_28 ?_
          refine lv_iload_n hx hb dX4_firstWrongGuess_31 rfl (lv_at hl 2 rfl) ?_
          obtain ⟨q519, hq519, hf⟩ := bnd hf
          refine fc_callN (Wa' := (rW G a v ++ vW G b u)) (st1 := [.int q519, .int q518]) (As := [.ref (a 1), .int x2_508]) (rest := [.int q518]) hCF (k_X7_at (a 1) 16 (v 0) x2_508 hq519) ⟨va_cnB 2 hts gX4_firstWrongGuess_X7_at_n23 rfl rfl rfl (hE.2.1 _ (List.mem_of_getElem? (i := 18) rfl)) hk_initialized_RX7 dk_X7_at ⟨Nat.le_of_ble_eq_true rfl, Nat.le_of_ble_eq_true rfl⟩, hk_static_yX7_at, trivial⟩ hE hAB hP hD hS [1] rfl rfl rfl rfl rfl rfl hl.1 rfl (Nat.le_of_ble_eq_true rfl) dX4_firstWrongGuess_32 ⟨Nat.le_refl _, Nat.le_refl _⟩ (fun H locs hP hD hS => ?_)
          refine lv_icmp_ne (tgt := 42) hx hb dX4_firstWrongGuess_35 (by decide) (fun c520 => ?_) (fun c520 => ?_)
          · have hf := ifF hf c520
            refine lv_iconst (v := (0 : Int32)) hx hb dX4_firstWrongGuess_42 (by decide) ?_
            exact J43_513 (0 : Int32) _ _ _ hP hD hS (lv_sub hl [0, 1, 2] rfl) hf
          · have hf := ifT hf c520
            refine lv_iconst (v := (1 : Int32)) hx hb dX4_firstWrongGuess_38 (by decide) ?_
            refine lv_goto (tgt := 43) hx hb dX4_firstWrongGuess_39 (by decide) ?_
            exact J43_513 (1 : Int32) _ _ _ hP hD hS (lv_sub hl [0, 1, 2] rfl) hf
  exact L2_509 FUEL (0 : Int32) _ _ _ hP hD hS (lv_sub hl [1, 2, 0] rfl) hf
theorem dk_X4_howManyToesOf : yX4_howManyToesOf.cls ≠ "java/lang/invoke/MethodHandle" ∧ yX4_howManyToesOf.cls ≠ "java/lang/invoke/VarHandle" ∧ (parseMethodDescriptor yX4_howManyToesOf.desc).map (fun d => d.parameters.length) = some 1 := by decide +kernel
theorem iu_X4_howManyToesOf_X4 : ∀ w ∈ u_ws RX4 TX4 2, w ∈ wsX4_howManyToesOf := by decide +kernel
set_option maxHeartbeats 4000000 in
set_option maxRecDepth 100000 in
theorem k_X4_howManyToesOf {l : Launch} {G : Gx} (a : Nat → Nat) (v : St) (x1 : Int32) {r : Int32} (hf : f_X4_howManyToesOf v x1 = some r) : FC l G yX4_howManyToesOf wsX4_howManyToesOf ({ frames := 1, cells := 0, slots := 0, locals := 21 } : Room) [.ref (a 0), .int x1] (rW G a v) (rW G a v) (some (.int r)) := by
  refine fc_head (cc := cX4_howManyToesOf) (maxL := 4) (ret := (some .int)) (C := RX4) (lv := [(0, .ref (a 0)), (1, .int x1)]) (by decide) rfl rfl (Nat.le_of_ble_eq_true rfl) rfl ?_
  intro p e s m below meth c ls A hx hb hr hml hown hts hlocks hE hP hD hAB hS hl
  have hCF : CallFix p m c cX4_howManyToesOf 4 s ([.ref (a 0), .int x1] : List Value).toArray wsX4_howManyToesOf RX4 := ⟨hx, hb, hml, hown, hts⟩
  have hwX4 : ∀ w ∈ u_ws RX4 TX4 2, w.before ([.ref (a 0), .int x1] : List Value).toArray s = true := fun w h => hts w (iu_X4_howManyToesOf_X4 w h)
  have hk_fieldLink_RX4_15__BrideNotKnown_Row___size___I_ := hts (.fieldLink RX4 15 "BrideNotKnown$Row" "size" "I") (List.mem_of_getElem? (i := 1) rfl)
  have hk_fieldLink_RX4_9__BrideNotKnown_Row___told____I_ := hts (.fieldLink RX4 9 "BrideNotKnown$Row" "told" "[I") (List.mem_of_getElem? (i := 2) rfl)
  have hk_initialized_RX7 := hts (.initialized RX7) (List.mem_of_getElem? (i := 4) rfl)
  have hk_static_yX7_at := hts (.static yX7_at) (List.mem_of_getElem? (i := 3) rfl)
  have hk_static_yX7_has := hts (.static yX7_has) (List.mem_of_getElem? (i := 6) rfl)
  rw [f_X4_howManyToesOf] at hf
  refine lv_iconst (v := (0 : Int32)) hx hb dX4_howManyToesOf_0 (by decide) ?_
  refine lv_istore_n (lv' := [(2, .int (0 : Int32)), (0, .ref (a 0)), (1, .int x1)]) hx hb dX4_howManyToesOf_1 rfl hl (by decide) rfl (fun ls hl => ?_)
  refine lv_iconst (v := (0 : Int32)) hx hb dX4_howManyToesOf_2 (by decide) ?_
  refine lv_istore_n (lv' := [(3, .int (0 : Int32)), (2, .int (0 : Int32)), (0, .ref (a 0)), (1, .int x1)]) hx hb dX4_howManyToesOf_3 rfl hl (by decide) rfl (fun ls hl => ?_)
  have L4_525 : ∀ (n : Nat) (x2_523 : Int32) (x3_524 : Int32) (H : Heap) (locs : List Loc) (ls : Array Slot), va_P (gD G) vwCl (rW G a v) H → va_D A (rW G a v) → va_S A s.heap H locs → lv_has ls 4 [(0, .ref (a 0)), (1, .int x1), (2, .int x2_523), (3, .int x3_524)] → f_X4_howManyToesOf_4 v x1 n x2_523 x3_524 = some r → W p l e (headSpec wsX4_howManyToesOf ({ frames := 1, cells := 0, slots := 0, locals := 21 } : Room)).room s m ([.ref (a 0), .int x1] : List Value).toArray below meth c H locs 0 0 (MQ below (FQ G A (rW G a v) (some (.int r))) ([.ref (a 0), .int x1] : List Value).toArray s 0 0 A) (F0 m 4 ls []) := by
    intro n
    induction n with
    | zero =>
      intro x2_523 x3_524 H locs ls hP hD hS hl hf
      exact no_some hf
    | succ n ih =>
      intro x2_523 x3_524 H locs ls hP hD hS hl hf
      rw [f_X4_howManyToesOf_4] at hf
      refine lv_iload_n hx hb dX4_howManyToesOf_4 rfl (lv_at hl 3 rfl) ?_
      refine lv_aload_n hx hb dX4_howManyToesOf_5 rfl (lv_at hl 0 rfl) ?_
      refine fc_get (v := .int (v 1 0)) (ci := 1) (C := RX4) (T := TX4) (N := 2) hx hb hwX4 hown hE hP 0 rfl rfl 1 (by decide) hk_fieldLink_RX4_15__BrideNotKnown_Row___size___I_ (fun _ h => h) rfl dX4_howManyToesOf_6 ?_
      refine lv_icmp_ge (tgt := 36) hx hb dX4_howManyToesOf_9 (by decide) (fun c526 => ?_) (fun c526 => ?_)
      · have hf := ifT hf c526
        refine lv_iload_n hx hb dX4_howManyToesOf_36 rfl (lv_at hl 2 rfl) ?_
        exact fc_reti hx hb hr hlocks hP hS dX4_howManyToesOf_37 (i1 hf) rfl
      · have hf := ifF hf c526
        refine lv_iload_n hx hb dX4_howManyToesOf_12 rfl (lv_at hl 1 rfl) ?_
        refine lv_aload_n hx hb dX4_howManyToesOf_13 rfl (lv_at hl 0 rfl) ?_
        refine fc_get (v := .ref (a 1)) (ci := 1) (C := RX4) (T := TX4) (N := 2) hx hb hwX4 hown hE hP 0 rfl rfl 0 (by decide) hk_fieldLink_RX4_9__BrideNotKnown_Row___told____I_ (fun _ h => h) rfl dX4_howManyToesOf_14 ?_
        refine lv_iload_n hx hb dX4_howManyToesOf_17 rfl (lv_at hl 3 rfl) ?_
        obtain ⟨q527, hq527, hf⟩ := bnd hf
        refine fc_callN (Wa' := (rW G a v)) (st1 := [.int q527, .int x1]) (As := [.ref (a 1), .int x3_524]) (rest := [.int x1]) hCF (k_X7_at (a 1) 16 (v 0) x3_524 hq527) ⟨va_cnB 2 hts gX4_howManyToesOf_X7_at_n23 rfl rfl rfl (hE.2.1 _ (List.mem_of_getElem? (i := 18) rfl)) hk_initialized_RX7 dk_X7_at ⟨Nat.le_of_ble_eq_true rfl, Nat.le_of_ble_eq_true rfl⟩, hk_static_yX7_at, trivial⟩ hE hAB hP hD hS [1] rfl rfl rfl rfl rfl rfl hl.1 rfl (Nat.le_of_ble_eq_true rfl) dX4_howManyToesOf_18 ⟨Nat.le_refl _, Nat.le_refl _⟩ (fun H locs hP hD hS => ?_)
        obtain ⟨q528, hq528, hf⟩ := bnd hf
        refine fc_callN (Wa' := (rW G a v)) (st1 := [.int q528]) (As := [.int x1, .int q527]) (rest := []) hCF (k_X7_has x1 q527 hq528) ⟨va_cnB 2 hts gX4_howManyToesOf_X7_has_n27 rfl rfl rfl (hE.2.1 _ (List.mem_of_getElem? (i := 19) rfl)) hk_initialized_RX7 dk_X7_has ⟨Nat.le_of_ble_eq_true rfl, Nat.le_of_ble_eq_true rfl⟩, hk_static_yX7_has, trivial⟩ hE hAB hP hD hS [] rfl rfl rfl rfl rfl rfl hl.1 rfl (Nat.le_of_ble_eq_true rfl) dX4_howManyToesOf_21 ⟨Nat.le_refl _, Nat.le_refl _⟩ (fun H locs hP hD hS => ?_)
        refine lv_if_eq (tgt := 30) hx hb dX4_howManyToesOf_24 (by decide) (fun c529 => ?_) (fun c529 => ?_)
        · have hf := ifT hf c529
          refine lv_iinc (v := (x3_524 + (1 : Int32))) (lv' := [(3, .int (x3_524 + (1 : Int32))), (0, .ref (a 0)), (1, .int x1), (2, .int x2_523)]) hx hb dX4_howManyToesOf_30 hl (k := 3) rfl rfl (by decide) rfl (fun ls hl => ?_)
          refine lv_goto (tgt := 4) hx hb dX4_howManyToesOf_33 (by decide) ?_
          exact ih x2_523 (x3_524 + (1 : Int32)) _ _ _ hP hD hS (lv_sub hl [1, 2, 3, 0] rfl) hf
        · have hf := ifF hf c529
          refine lv_iinc (v := (x2_523 + (1 : Int32))) (lv' := [(2, .int (x2_523 + (1 : Int32))), (0, .ref (a 0)), (1, .int x1), (3, .int x3_524)]) hx hb dX4_howManyToesOf_27 hl (k := 2) rfl rfl (by decide) rfl (fun ls hl => ?_)
          refine lv_iinc (v := (x3_524 + (1 : Int32))) (lv' := [(3, .int (x3_524 + (1 : Int32))), (2, .int (x2_523 + (1 : Int32))), (0, .ref (a 0)), (1, .int x1)]) hx hb dX4_howManyToesOf_30 hl (k := 3) rfl rfl (by decide) rfl (fun ls hl => ?_)
          refine lv_goto (tgt := 4) hx hb dX4_howManyToesOf_33 (by decide) ?_
          exact ih (x2_523 + (1 : Int32)) (x3_524 + (1 : Int32)) _ _ _ hP hD hS (lv_sub hl [2, 3, 1, 0] rfl) hf
  exact L4_525 FUEL (0 : Int32) (0 : Int32) _ _ _ hP hD hS (lv_sub hl [2, 3, 1, 0] rfl) hf
theorem dk_X4_isFull : yX4_isFull.cls ≠ "java/lang/invoke/MethodHandle" ∧ yX4_isFull.cls ≠ "java/lang/invoke/VarHandle" ∧ (parseMethodDescriptor yX4_isFull.desc).map (fun d => d.parameters.length) = some 0 := by decide +kernel
theorem iu_X4_isFull_X4 : ∀ w ∈ u_ws RX4 TX4 2, w ∈ wsX4_isFull := by decide +kernel
set_option maxHeartbeats 4000000 in
set_option maxRecDepth 100000 in
theorem k_X4_isFull {l : Launch} {G : Gx} (a : Nat → Nat) (v : St) {r : Int32} (hf : f_X4_isFull v = some r) : FC l G yX4_isFull wsX4_isFull ({ frames := 0, cells := 0, slots := 0, locals := 0 } : Room) [.ref (a 0)] (rW G a v) (rW G a v) (some (.int r)) := by
  refine fc_head (cc := cX4_isFull) (maxL := 1) (ret := (some .boolean)) (C := RX4) (lv := [(0, .ref (a 0))]) (by decide) rfl rfl (Nat.le_of_ble_eq_true rfl) rfl ?_
  intro p e s m below meth c ls A hx hb hr hml hown hts hlocks hE hP hD hAB hS hl
  have hCF : CallFix p m c cX4_isFull 1 s ([.ref (a 0)] : List Value).toArray wsX4_isFull RX4 := ⟨hx, hb, hml, hown, hts⟩
  have hwX4 : ∀ w ∈ u_ws RX4 TX4 2, w.before ([.ref (a 0)] : List Value).toArray s = true := fun w h => hts w (iu_X4_isFull_X4 w h)
  have hk_fieldLink_RX4_15__BrideNotKnown_Row___size___I_ := hts (.fieldLink RX4 15 "BrideNotKnown$Row" "size" "I") (List.mem_of_getElem? (i := 1) rfl)
  rw [f_X4_isFull] at hf
  refine lv_aload_n hx hb dX4_isFull_0 rfl (lv_at hl 0 rfl) ?_
  refine fc_get (v := .int (v 1 0)) (ci := 1) (C := RX4) (T := TX4) (N := 2) hx hb hwX4 hown hE hP 0 rfl rfl 1 (by decide) hk_fieldLink_RX4_15__BrideNotKnown_Row___size___I_ (fun _ h => h) rfl dX4_isFull_1 ?_
  refine lv_bipush (v := (16 : Int32)) hx hb dX4_isFull_4 (by decide) ?_
  refine lv_icmp_lt (tgt := 13) hx hb dX4_isFull_6 (by decide) (fun c530 => ?_) (fun c530 => ?_)
  · have hf := ifT hf c530
    refine lv_iconst (v := (0 : Int32)) hx hb dX4_isFull_13 (by decide) ?_
    exact fc_retz hx hb hr hlocks hP hS dX4_isFull_14 (by decide) (i1 hf) rfl
  · have hf := ifF hf c530
    refine lv_iconst (v := (1 : Int32)) hx hb dX4_isFull_9 (by decide) ?_
    refine lv_goto (tgt := 14) hx hb dX4_isFull_10 (by decide) ?_
    exact fc_retz hx hb hr hlocks hP hS dX4_isFull_14 (by decide) (i1 hf) rfl
theorem dk_X4_kindsOf : yX4_kindsOf.cls ≠ "java/lang/invoke/MethodHandle" ∧ yX4_kindsOf.cls ≠ "java/lang/invoke/VarHandle" ∧ (parseMethodDescriptor yX4_kindsOf.desc).map (fun d => d.parameters.length) = some 2 := by decide +kernel
set_option maxHeartbeats 4000000 in
set_option maxRecDepth 100000 in
theorem k_X4_kindsOf {l : Launch} {G : Gx} (a : Nat → Nat) (v : St) (b : Nat → Nat) (u : St) (x2 : Int32) {r : Int32} (hf : f_X4_kindsOf v u x2 = some r) : FC l G yX4_kindsOf wsX4_kindsOf ({ frames := 3, cells := 0, slots := 0, locals := 74 } : Room) [.ref (a 0), .ref (b 0), .int x2] (rW G a v ++ vW G b u) (rW G a v ++ vW G b u) (some (.int r)) := by
  refine fc_head (cc := cX4_kindsOf) (maxL := 5) (ret := (some .int)) (C := RX4) (lv := [(0, .ref (a 0)), (1, .ref (b 0)), (2, .int x2)]) (by decide) rfl rfl (Nat.le_of_ble_eq_true rfl) rfl ?_
  intro p e s m below meth c ls A hx hb hr hml hown hts hlocks hE hP hD hAB hS hl
  have hCF : CallFix p m c cX4_kindsOf 5 s ([.ref (a 0), .ref (b 0), .int x2] : List Value).toArray wsX4_kindsOf RX4 := ⟨hx, hb, hml, hown, hts⟩
  rw [f_X4_kindsOf] at hf
  refine lv_iconst (v := (0 : Int32)) hx hb dX4_kindsOf_0 (by decide) ?_
  refine lv_istore_n (lv' := [(3, .int (0 : Int32)), (0, .ref (a 0)), (1, .ref (b 0)), (2, .int x2)]) hx hb dX4_kindsOf_1 rfl hl (by decide) rfl (fun ls hl => ?_)
  refine lv_iconst (v := (0 : Int32)) hx hb dX4_kindsOf_2 (by decide) ?_
  refine lv_istore (lv' := [(4, .int (0 : Int32)), (3, .int (0 : Int32)), (0, .ref (a 0)), (1, .ref (b 0)), (2, .int x2)]) hx hb dX4_kindsOf_3 hl (by decide) rfl (fun ls hl => ?_)
  have L5_537 : ∀ (n : Nat) (x3_535 : Int32) (x4_536 : Int32) (H : Heap) (locs : List Loc) (ls : Array Slot), va_P (gD G) vwCl (rW G a v ++ vW G b u) H → va_D A (rW G a v ++ vW G b u) → va_S A s.heap H locs → lv_has ls 5 [(0, .ref (a 0)), (1, .ref (b 0)), (2, .int x2), (3, .int x3_535), (4, .int x4_536)] → f_X4_kindsOf_5 v u x2 n x3_535 x4_536 = some r → W p l e (headSpec wsX4_kindsOf ({ frames := 3, cells := 0, slots := 0, locals := 74 } : Room)).room s m ([.ref (a 0), .ref (b 0), .int x2] : List Value).toArray below meth c H locs 0 0 (MQ below (FQ G A (rW G a v ++ vW G b u) (some (.int r))) ([.ref (a 0), .ref (b 0), .int x2] : List Value).toArray s 0 0 A) (F0 m 5 ls []) := by
    intro n
    induction n with
    | zero =>
      intro x3_535 x4_536 H locs ls hP hD hS hl hf
      exact no_some hf
    | succ n ih =>
      intro x3_535 x4_536 H locs ls hP hD hS hl hf
      rw [f_X4_kindsOf_5] at hf
      refine lv_iload hx hb dX4_kindsOf_5 (lv_at hl 4 rfl) ?_
      refine lv_bipush (v := (6 : Int32)) hx hb dX4_kindsOf_7 (by decide) ?_
      refine lv_icmp_ge (tgt := 41) hx hb dX4_kindsOf_9 (by decide) (fun c538 => ?_) (fun c538 => ?_)
      · have hf := ifT hf c538
        refine lv_iload_n hx hb dX4_kindsOf_41 rfl (lv_at hl 3 rfl) ?_
        exact fc_reti hx hb hr hlocks hP hS dX4_kindsOf_42 (i1 hf) rfl
      · have hf := ifF hf c538
        refine lv_aload_n hx hb dX4_kindsOf_12 rfl (lv_at hl 0 rfl) ?_
        refine lv_aload_n hx hb dX4_kindsOf_13 rfl (lv_at hl 1 rfl) ?_
        refine lv_iload_n hx hb dX4_kindsOf_14 rfl (lv_at hl 2 rfl) ?_
        refine lv_iload hx hb dX4_kindsOf_15 (lv_at hl 4 rfl) ?_
        refine lv_aload_n hx hb dX4_kindsOf_17 rfl (lv_at hl 1 rfl) ?_
        refine lv_iload_n hx hb dX4_kindsOf_18 rfl (lv_at hl 2 rfl) ?_
        obtain ⟨q539, hq539, hf⟩ := bnd hf
        refine fc_callV (Wa' := (rW G a v ++ vW G b u)) (st1 := [.int q539, .int x4_536, .int x2, .ref (b 0), .ref (a 0)]) (As := [.int x2]) (rest := [.int x4_536, .int x2, .ref (b 0), .ref (a 0)]) hCF (k_X6_figureOf b u x2 hq539) (cwV 1 hts gX4_kindsOf_X6_figureOf rfl rfl rfl ⟨rfl, dk_X6_figureOf⟩ ⟨Nat.le_of_ble_eq_true rfl, Nat.le_of_ble_eq_true rfl⟩) hE hAB hP hD hS [2, 3, 4, 5, 6, 7, 8, 9] rfl rfl (va_recv hE.1 hP (ci := 3) (q0 := 2) rfl rfl) rfl rfl rfl rfl hl.1 rfl (Nat.le_of_ble_eq_true rfl) dX4_kindsOf_19 ⟨Nat.le_refl _, Nat.le_refl _⟩ (fun H locs hP hD hS => ?_)
        obtain ⟨q540, hq540, hf⟩ := bnd hf
        refine fc_callV (Wa' := (rW G a v ++ vW G b u)) (st1 := [.int q540]) (As := [.ref (b 0), .int x2, .int x4_536, .int q539]) (rest := []) hCF (k_X4_isShownAs a v b u x2 x4_536 q539 hq540) (cwV 4 hts gX4_kindsOf_X4_isShownAs rfl rfl rfl ⟨rfl, dk_X4_isShownAs⟩ ⟨Nat.le_of_ble_eq_true rfl, Nat.le_of_ble_eq_true rfl⟩) hE hAB hP hD hS [0, 1, 2, 3, 4, 5, 6, 7, 8, 9] rfl rfl (va_recv hE.1 hP (ci := 1) (q0 := 0) rfl rfl) rfl rfl rfl rfl hl.1 rfl (Nat.le_of_ble_eq_true rfl) dX4_kindsOf_22 ⟨Nat.le_refl _, Nat.le_refl _⟩ (fun H locs hP hD hS => ?_)
        refine lv_if_eq (tgt := 35) hx hb dX4_kindsOf_25 (by decide) (fun c541 => ?_) (fun c541 => ?_)
        · have hf := ifT hf c541
          refine lv_iinc (v := (x4_536 + (1 : Int32))) (lv' := [(4, .int (x4_536 + (1 : Int32))), (0, .ref (a 0)), (1, .ref (b 0)), (2, .int x2), (3, .int x3_535)]) hx hb dX4_kindsOf_35 hl (k := 4) rfl rfl (by decide) rfl (fun ls hl => ?_)
          refine lv_goto (tgt := 5) hx hb dX4_kindsOf_38 (by decide) ?_
          exact ih x3_535 (x4_536 + (1 : Int32)) _ _ _ hP hD hS (lv_sub hl [1, 2, 3, 4, 0] rfl) hf
        · have hf := ifF hf c541
          refine lv_iload_n hx hb dX4_kindsOf_28 rfl (lv_at hl 3 rfl) ?_
          refine lv_iconst (v := (1 : Int32)) hx hb dX4_kindsOf_29 (by decide) ?_
          refine lv_iload hx hb dX4_kindsOf_30 (lv_at hl 4 rfl) ?_
          refine lv_ishl hx hb dX4_kindsOf_32 ?_
          refine lv_ior hx hb dX4_kindsOf_33 ?_
          refine lv_istore_n (lv' := [(3, .int (x3_535 ||| ((1 : Int32) <<< (x4_536 &&& 31)))), (0, .ref (a 0)), (1, .ref (b 0)), (2, .int x2), (4, .int x4_536)]) hx hb dX4_kindsOf_34 rfl hl (by decide) rfl (fun ls hl => ?_)
          refine lv_iinc (v := (x4_536 + (1 : Int32))) (lv' := [(4, .int (x4_536 + (1 : Int32))), (3, .int (x3_535 ||| ((1 : Int32) <<< (x4_536 &&& 31)))), (0, .ref (a 0)), (1, .ref (b 0)), (2, .int x2)]) hx hb dX4_kindsOf_35 hl (k := 4) rfl rfl (by decide) rfl (fun ls hl => ?_)
          refine lv_goto (tgt := 5) hx hb dX4_kindsOf_38 (by decide) ?_
          exact ih (x3_535 ||| ((1 : Int32) <<< (x4_536 &&& 31))) (x4_536 + (1 : Int32)) _ _ _ hP hD hS (lv_sub hl [2, 3, 4, 1, 0] rfl) hf
  exact L5_537 FUEL (0 : Int32) (0 : Int32) _ _ _ hP hD hS (lv_sub hl [2, 3, 4, 1, 0] rfl) hf
theorem dk_X5_add : yX5_add.cls ≠ "java/lang/invoke/MethodHandle" ∧ yX5_add.cls ≠ "java/lang/invoke/VarHandle" ∧ (parseMethodDescriptor yX5_add.desc).map (fun d => d.parameters.length) = some 1 := by decide +kernel
theorem iu_X5_add_X5 : ∀ w ∈ u_ws RX5 TX5 2, w ∈ wsX5_add := by decide +kernel
set_option maxHeartbeats 4000000 in
set_option maxRecDepth 100000 in
theorem k_X5_add {l : Launch} {G : Gx} (a : Nat → Nat) (v : St) (x1 : Int32) {r : Int32} {v' : St} (hf : f_X5_add v x1 = some (r, v')) : FC l G yX5_add wsX5_add ({ frames := 1, cells := 0, slots := 0, locals := 22 } : Room) [.ref (a 0), .int x1] (tW G a v) (tW G a v') (some (.int r)) := by
  refine fc_head (cc := cX5_add) (maxL := 2) (ret := (some .int)) (C := RX5) (lv := [(0, .ref (a 0)), (1, .int x1)]) (by decide) rfl rfl (Nat.le_of_ble_eq_true rfl) rfl ?_
  intro p e s m below meth c ls A hx hb hr hml hown hts hlocks hE hP hD hAB hS hl
  have hCF : CallFix p m c cX5_add 2 s ([.ref (a 0), .int x1] : List Value).toArray wsX5_add RX5 := ⟨hx, hb, hml, hown, hts⟩
  have hwX5 : ∀ w ∈ u_ws RX5 TX5 2, w.before ([.ref (a 0), .int x1] : List Value).toArray s = true := fun w h => hts w (iu_X5_add_X5 w h)
  have hk_fieldLink_RX5_9__BrideNotKnown_Text___letters____I_ := hts (.fieldLink RX5 9 "BrideNotKnown$Text" "letters" "[I") (List.mem_of_getElem? (i := 1) rfl)
  have hk_fieldLink_RX5_15__BrideNotKnown_Text___size___I_ := hts (.fieldLink RX5 15 "BrideNotKnown$Text" "size" "I") (List.mem_of_getElem? (i := 2) rfl)
  have hk_initialized_RX7 := hts (.initialized RX7) (List.mem_of_getElem? (i := 4) rfl)
  have hk_static_yX7_put := hts (.static yX7_put) (List.mem_of_getElem? (i := 3) rfl)
  rw [f_X5_add] at hf
  refine lv_aload_n hx hb dX5_add_0 rfl (lv_at hl 0 rfl) ?_
  refine fc_get (v := .ref (a 1)) (ci := 2) (C := RX5) (T := TX5) (N := 2) hx hb hwX5 hown hE hP 0 rfl rfl 0 (by decide) hk_fieldLink_RX5_9__BrideNotKnown_Text___letters____I_ (fun _ h => h) rfl dX5_add_1 ?_
  refine lv_aload_n hx hb dX5_add_4 rfl (lv_at hl 0 rfl) ?_
  refine fc_get (v := .int (v 1 0)) (ci := 2) (C := RX5) (T := TX5) (N := 2) hx hb hwX5 hown hE hP 0 rfl rfl 1 (by decide) hk_fieldLink_RX5_15__BrideNotKnown_Text___size___I_ (fun _ h => h) rfl dX5_add_5 ?_
  refine lv_iload_n hx hb dX5_add_8 rfl (lv_at hl 1 rfl) ?_
  obtain ⟨q543, hq543, hf⟩ := bnd hf
  refine fc_callN (Wa' := (tW G a (sA v 0 q543))) (st1 := []) (As := [.ref (a 1), .int (v 1 0), .int x1]) (rest := []) hCF (k_X7_put (a 1) 96 (v 0) (v 1 0) x1 hq543) ⟨va_cnB 3 hts gX5_add_X7_put_n19 rfl rfl rfl (hE.2.1 _ (List.mem_of_getElem? (i := 4) rfl)) hk_initialized_RX7 dk_X7_put ⟨Nat.le_of_ble_eq_true rfl, Nat.le_of_ble_eq_true rfl⟩, hk_static_yX7_put, trivial⟩ hE hAB hP hD hS [1] rfl rfl rfl rfl rfl rfl hl.1 rfl (Nat.le_of_ble_eq_true rfl) dX5_add_9 ⟨Nat.le_refl _, Nat.le_refl _⟩ (fun H locs hP hD hS => ?_)
  refine lv_aload_n hx hb dX5_add_12 rfl (lv_at hl 0 rfl) ?_
  refine lv_dup hx hb dX5_add_13 rfl ?_
  refine fc_get (v := .int (v 1 0)) (ci := 2) (C := RX5) (T := TX5) (N := 2) hx hb hwX5 hown hE hP 0 rfl rfl 1 (by decide) hk_fieldLink_RX5_15__BrideNotKnown_Text___size___I_ (fun _ h => h) rfl dX5_add_14 ?_
  refine lv_iconst (v := (1 : Int32)) hx hb dX5_add_17 (by decide) ?_
  refine lv_iadd hx hb dX5_add_18 ?_
  refine fc_put (Wa' := (tW G a (sA (sA v 0 q543) 1 (upd (v 1) 0 ((v 1 0) + (1 : Int32)))))) (ci := 2) (C := RX5) (T := TX5) (N := 2) hx hb hwX5 tyX5 tyX5_ok nmX5 hown hE hP hD hS 0 rfl rfl 1 (by decide) hk_fieldLink_RX5_15__BrideNotKnown_Text___size___I_ (fun _ h => h) rfl rfl rfl (Nat.le_of_ble_eq_true rfl) dX5_add_19 rfl (fun H locs hP hD hS => ?_)
  refine lv_aload_n hx hb dX5_add_22 rfl (lv_at hl 0 rfl) ?_
  refine fc_get (v := .int ((v 1 0) + (1 : Int32))) (ci := 2) (C := RX5) (T := TX5) (N := 2) hx hb hwX5 hown hE hP 0 rfl rfl 1 (by decide) hk_fieldLink_RX5_15__BrideNotKnown_Text___size___I_ (fun _ h => h) rfl dX5_add_23 ?_
  exact fc_reti hx hb hr hlocks hP hS dX5_add_26 (i2a hf) (congrArg (fun z => (tW G a z)) (i2b hf))
theorem dk_X5_digitAt : yX5_digitAt.cls ≠ "java/lang/invoke/MethodHandle" ∧ yX5_digitAt.cls ≠ "java/lang/invoke/VarHandle" ∧ (parseMethodDescriptor yX5_digitAt.desc).map (fun d => d.parameters.length) = some 1 := by decide +kernel
theorem iu_X5_digitAt_X5 : ∀ w ∈ u_ws RX5 TX5 2, w ∈ wsX5_digitAt := by decide +kernel
set_option maxHeartbeats 4000000 in
set_option maxRecDepth 100000 in
theorem k_X5_digitAt {l : Launch} {G : Gx} (a : Nat → Nat) (v : St) (x1 : Int32) {r : Int32} (hf : f_X5_digitAt v x1 = some r) : FC l G yX5_digitAt wsX5_digitAt ({ frames := 1, cells := 0, slots := 0, locals := 21 } : Room) [.ref (a 0), .int x1] (tW G a v) (tW G a v) (some (.int r)) := by
  refine fc_head (cc := cX5_digitAt) (maxL := 2) (ret := (some .int)) (C := RX5) (lv := [(0, .ref (a 0)), (1, .int x1)]) (by decide) rfl rfl (Nat.le_of_ble_eq_true rfl) rfl ?_
  intro p e s m below meth c ls A hx hb hr hml hown hts hlocks hE hP hD hAB hS hl
  have hCF : CallFix p m c cX5_digitAt 2 s ([.ref (a 0), .int x1] : List Value).toArray wsX5_digitAt RX5 := ⟨hx, hb, hml, hown, hts⟩
  have hwX5 : ∀ w ∈ u_ws RX5 TX5 2, w.before ([.ref (a 0), .int x1] : List Value).toArray s = true := fun w h => hts w (iu_X5_digitAt_X5 w h)
  have hk_fieldLink_RX5_9__BrideNotKnown_Text___letters____I_ := hts (.fieldLink RX5 9 "BrideNotKnown$Text" "letters" "[I") (List.mem_of_getElem? (i := 1) rfl)
  have hk_initialized_RX7 := hts (.initialized RX7) (List.mem_of_getElem? (i := 3) rfl)
  have hk_static_yX7_at := hts (.static yX7_at) (List.mem_of_getElem? (i := 2) rfl)
  rw [f_X5_digitAt] at hf
  refine lv_aload_n hx hb dX5_digitAt_0 rfl (lv_at hl 0 rfl) ?_
  refine fc_get (v := .ref (a 1)) (ci := 2) (C := RX5) (T := TX5) (N := 2) hx hb hwX5 hown hE hP 0 rfl rfl 0 (by decide) hk_fieldLink_RX5_9__BrideNotKnown_Text___letters____I_ (fun _ h => h) rfl dX5_digitAt_1 ?_
  refine lv_iload_n hx hb dX5_digitAt_4 rfl (lv_at hl 1 rfl) ?_
  obtain ⟨q545, hq545, hf⟩ := bnd hf
  refine fc_callN (Wa' := (tW G a v)) (st1 := [.int q545]) (As := [.ref (a 1), .int x1]) (rest := []) hCF (k_X7_at (a 1) 96 (v 0) x1 hq545) ⟨va_cnB 2 hts gX5_digitAt_X7_at_n31 rfl rfl rfl (hE.2.1 _ (List.mem_of_getElem? (i := 6) rfl)) hk_initialized_RX7 dk_X7_at ⟨Nat.le_of_ble_eq_true rfl, Nat.le_of_ble_eq_true rfl⟩, hk_static_yX7_at, trivial⟩ hE hAB hP hD hS [1] rfl rfl rfl rfl rfl rfl hl.1 rfl (Nat.le_of_ble_eq_true rfl) dX5_digitAt_5 ⟨Nat.le_refl _, Nat.le_refl _⟩ (fun H locs hP hD hS => ?_)
  refine lv_bipush (v := (48 : Int32)) hx hb dX5_digitAt_8 (by decide) ?_
  refine lv_isub hx hb dX5_digitAt_10 ?_
  exact fc_reti hx hb hr hlocks hP hS dX5_digitAt_11 (i1 hf) rfl
theorem dk_X5_empty : yX5_empty.cls ≠ "java/lang/invoke/MethodHandle" ∧ yX5_empty.cls ≠ "java/lang/invoke/VarHandle" ∧ (parseMethodDescriptor yX5_empty.desc).map (fun d => d.parameters.length) = some 0 := by decide +kernel
theorem iu_X5_empty_X5 : ∀ w ∈ u_ws RX5 TX5 2, w ∈ wsX5_empty := by decide +kernel
set_option maxHeartbeats 4000000 in
set_option maxRecDepth 100000 in
theorem k_X5_empty {l : Launch} {G : Gx} (a : Nat → Nat) (v : St) {v' : St} (hf : f_X5_empty v = some v') : FC l G yX5_empty wsX5_empty ({ frames := 0, cells := 0, slots := 0, locals := 0 } : Room) [.ref (a 0)] (tW G a v) (tW G a v') none := by
  refine fc_head (cc := cX5_empty) (maxL := 1) (ret := none) (C := RX5) (lv := [(0, .ref (a 0))]) (by decide) rfl rfl (Nat.le_of_ble_eq_true rfl) rfl ?_
  intro p e s m below meth c ls A hx hb hr hml hown hts hlocks hE hP hD hAB hS hl
  have hCF : CallFix p m c cX5_empty 1 s ([.ref (a 0)] : List Value).toArray wsX5_empty RX5 := ⟨hx, hb, hml, hown, hts⟩
  have hwX5 : ∀ w ∈ u_ws RX5 TX5 2, w.before ([.ref (a 0)] : List Value).toArray s = true := fun w h => hts w (iu_X5_empty_X5 w h)
  have hk_fieldLink_RX5_15__BrideNotKnown_Text___size___I_ := hts (.fieldLink RX5 15 "BrideNotKnown$Text" "size" "I") (List.mem_of_getElem? (i := 1) rfl)
  rw [f_X5_empty] at hf
  refine lv_aload_n hx hb dX5_empty_0 rfl (lv_at hl 0 rfl) ?_
  refine lv_iconst (v := (0 : Int32)) hx hb dX5_empty_1 (by decide) ?_
  refine fc_put (Wa' := (tW G a (sA v 1 (upd (v 1) 0 (0 : Int32))))) (ci := 2) (C := RX5) (T := TX5) (N := 2) hx hb hwX5 tyX5 tyX5_ok nmX5 hown hE hP hD hS 0 rfl rfl 1 (by decide) hk_fieldLink_RX5_15__BrideNotKnown_Text___size___I_ (fun _ h => h) rfl rfl rfl (Nat.le_of_ble_eq_true rfl) dX5_empty_2 rfl (fun H locs hP hD hS => ?_)
  exact fc_retv hx hb hr hlocks hP hS dX5_empty_5 (congrArg (fun z => (tW G a z)) (i1 hf))
theorem dk_X5_isFull : yX5_isFull.cls ≠ "java/lang/invoke/MethodHandle" ∧ yX5_isFull.cls ≠ "java/lang/invoke/VarHandle" ∧ (parseMethodDescriptor yX5_isFull.desc).map (fun d => d.parameters.length) = some 0 := by decide +kernel
theorem iu_X5_isFull_X5 : ∀ w ∈ u_ws RX5 TX5 2, w ∈ wsX5_isFull := by decide +kernel
set_option maxHeartbeats 4000000 in
set_option maxRecDepth 100000 in
theorem k_X5_isFull {l : Launch} {G : Gx} (a : Nat → Nat) (v : St) {r : Int32} (hf : f_X5_isFull v = some r) : FC l G yX5_isFull wsX5_isFull ({ frames := 0, cells := 0, slots := 0, locals := 0 } : Room) [.ref (a 0)] (tW G a v) (tW G a v) (some (.int r)) := by
  refine fc_head (cc := cX5_isFull) (maxL := 1) (ret := (some .boolean)) (C := RX5) (lv := [(0, .ref (a 0))]) (by decide) rfl rfl (Nat.le_of_ble_eq_true rfl) rfl ?_
  intro p e s m below meth c ls A hx hb hr hml hown hts hlocks hE hP hD hAB hS hl
  have hCF : CallFix p m c cX5_isFull 1 s ([.ref (a 0)] : List Value).toArray wsX5_isFull RX5 := ⟨hx, hb, hml, hown, hts⟩
  have hwX5 : ∀ w ∈ u_ws RX5 TX5 2, w.before ([.ref (a 0)] : List Value).toArray s = true := fun w h => hts w (iu_X5_isFull_X5 w h)
  have hk_fieldLink_RX5_15__BrideNotKnown_Text___size___I_ := hts (.fieldLink RX5 15 "BrideNotKnown$Text" "size" "I") (List.mem_of_getElem? (i := 1) rfl)
  rw [f_X5_isFull] at hf
  refine lv_aload_n hx hb dX5_isFull_0 rfl (lv_at hl 0 rfl) ?_
  refine fc_get (v := .int (v 1 0)) (ci := 2) (C := RX5) (T := TX5) (N := 2) hx hb hwX5 hown hE hP 0 rfl rfl 1 (by decide) hk_fieldLink_RX5_15__BrideNotKnown_Text___size___I_ (fun _ h => h) rfl dX5_isFull_1 ?_
  refine lv_bipush (v := (96 : Int32)) hx hb dX5_isFull_4 (by decide) ?_
  refine lv_icmp_lt (tgt := 13) hx hb dX5_isFull_6 (by decide) (fun c546 => ?_) (fun c546 => ?_)
  · have hf := ifT hf c546
    refine lv_iconst (v := (0 : Int32)) hx hb dX5_isFull_13 (by decide) ?_
    exact fc_retz hx hb hr hlocks hP hS dX5_isFull_14 (by decide) (i1 hf) rfl
  · have hf := ifF hf c546
    refine lv_iconst (v := (1 : Int32)) hx hb dX5_isFull_9 (by decide) ?_
    refine lv_goto (tgt := 14) hx hb dX5_isFull_10 (by decide) ?_
    exact fc_retz hx hb hr hlocks hP hS dX5_isFull_14 (by decide) (i1 hf) rfl
theorem dk_X5_numberAt : yX5_numberAt.cls ≠ "java/lang/invoke/MethodHandle" ∧ yX5_numberAt.cls ≠ "java/lang/invoke/VarHandle" ∧ (parseMethodDescriptor yX5_numberAt.desc).map (fun d => d.parameters.length) = some 1 := by decide +kernel
set_option maxHeartbeats 4000000 in
set_option maxRecDepth 100000 in
theorem k_X5_numberAt {l : Launch} {G : Gx} (a : Nat → Nat) (v : St) (x1 : Int32) {r : Int32} (hf : f_X5_numberAt v x1 = some r) : FC l G yX5_numberAt wsX5_numberAt ({ frames := 2, cells := 0, slots := 0, locals := 42 } : Room) [.ref (a 0), .int x1] (tW G a v) (tW G a v) (some (.int r)) := by
  refine fc_head (cc := cX5_numberAt) (maxL := 2) (ret := (some .int)) (C := RX5) (lv := [(0, .ref (a 0)), (1, .int x1)]) (by decide) rfl rfl (Nat.le_of_ble_eq_true rfl) rfl ?_
  intro p e s m below meth c ls A hx hb hr hml hown hts hlocks hE hP hD hAB hS hl
  have hCF : CallFix p m c cX5_numberAt 2 s ([.ref (a 0), .int x1] : List Value).toArray wsX5_numberAt RX5 := ⟨hx, hb, hml, hown, hts⟩
  rw [f_X5_numberAt] at hf
  refine lv_bipush (v := (10 : Int32)) hx hb dX5_numberAt_0 (by decide) ?_
  refine lv_aload_n hx hb dX5_numberAt_2 rfl (lv_at hl 0 rfl) ?_
  refine lv_iload_n hx hb dX5_numberAt_3 rfl (lv_at hl 1 rfl) ?_
  obtain ⟨q549, hq549, hf⟩ := bnd hf
  refine fc_callV (Wa' := (tW G a v)) (st1 := [.int q549, .int (10 : Int32)]) (As := [.int x1]) (rest := [.int (10 : Int32)]) hCF (k_X5_digitAt a v x1 hq549) (cwV 1 hts gX5_numberAt_X5_digitAt rfl rfl rfl ⟨rfl, dk_X5_digitAt⟩ ⟨Nat.le_of_ble_eq_true rfl, Nat.le_of_ble_eq_true rfl⟩) hE hAB hP hD hS [0, 1] rfl rfl (va_recv hE.1 hP (ci := 2) (q0 := 0) rfl rfl) rfl rfl rfl rfl hl.1 rfl (Nat.le_of_ble_eq_true rfl) dX5_numberAt_4 ⟨Nat.le_refl _, Nat.le_refl _⟩ (fun H locs hP hD hS => ?_)
  refine lv_imul hx hb dX5_numberAt_7 ?_
  refine lv_aload_n hx hb dX5_numberAt_8 rfl (lv_at hl 0 rfl) ?_
  refine lv_iload_n hx hb dX5_numberAt_9 rfl (lv_at hl 1 rfl) ?_
  refine lv_iconst (v := (1 : Int32)) hx hb dX5_numberAt_10 (by decide) ?_
  refine lv_iadd hx hb dX5_numberAt_11 ?_
  obtain ⟨q550, hq550, hf⟩ := bnd hf
  refine fc_callV (Wa' := (tW G a v)) (st1 := [.int q550, .int ((10 : Int32) * q549)]) (As := [.int (x1 + (1 : Int32))]) (rest := [.int ((10 : Int32) * q549)]) hCF (k_X5_digitAt a v (x1 + (1 : Int32)) hq550) (cwV 1 hts gX5_numberAt_X5_digitAt rfl rfl rfl ⟨rfl, dk_X5_digitAt⟩ ⟨Nat.le_of_ble_eq_true rfl, Nat.le_of_ble_eq_true rfl⟩) hE hAB hP hD hS [0, 1] rfl rfl (va_recv hE.1 hP (ci := 2) (q0 := 0) rfl rfl) rfl rfl rfl rfl hl.1 rfl (Nat.le_of_ble_eq_true rfl) dX5_numberAt_12 ⟨Nat.le_refl _, Nat.le_refl _⟩ (fun H locs hP hD hS => ?_)
  refine lv_iadd hx hb dX5_numberAt_15 ?_
  exact fc_reti hx hb hr hlocks hP hS dX5_numberAt_16 (i1 hf) rfl
theorem dk_X5_tellLiquor : yX5_tellLiquor.cls ≠ "java/lang/invoke/MethodHandle" ∧ yX5_tellLiquor.cls ≠ "java/lang/invoke/VarHandle" ∧ (parseMethodDescriptor yX5_tellLiquor.desc).map (fun d => d.parameters.length) = some 3 := by decide +kernel
set_option maxHeartbeats 4000000 in
set_option maxRecDepth 100000 in
theorem k_X5_tellLiquor {l : Launch} {G : Gx} (a : Nat → Nat) (v : St) (x1 : Int32) (x2 : Int32) {r : Int32} {v' : St} (hf : f_X5_tellLiquor v x1 x2 = some (r, v')) : FC l G yX5_tellLiquor wsX5_tellLiquor ({ frames := 2, cells := 0, slots := 0, locals := 44 } : Room) [.ref (a 0), .int x1, .int x2] (vW G a v) (vW G a v') (some (.int r)) := by
  refine fc_head (cc := cX5_tellLiquor) (maxL := 3) (ret := (some .boolean)) (C := RX5) (lv := [(0, .ref (a 0)), (1, .int x1), (2, .int x2)]) (by decide) rfl rfl (Nat.le_of_ble_eq_true rfl) rfl ?_
  intro p e s m below meth c ls A hx hb hr hml hown hts hlocks hE hP hD hAB hS hl
  have hCF : CallFix p m c cX5_tellLiquor 3 s ([.ref (a 0), .int x1, .int x2] : List Value).toArray wsX5_tellLiquor RX5 := ⟨hx, hb, hml, hown, hts⟩
  rw [f_X5_tellLiquor] at hf
  refine lv_aload_n hx hb dX5_tellLiquor_0 rfl (lv_at hl 0 rfl) ?_
  refine lv_iload_n hx hb dX5_tellLiquor_1 rfl (lv_at hl 1 rfl) ?_
  obtain ⟨q555, hq555, hf⟩ := bnd hf
  refine fc_callV (Wa' := (vW G a v)) (st1 := [.int q555]) (As := [.int x1]) (rest := []) hCF (k_X6_hasGroom a v x1 hq555) (cwV 1 hts gX5_tellLiquor_X6_hasGroom rfl rfl rfl ⟨rfl, dk_X6_hasGroom⟩ ⟨Nat.le_of_ble_eq_true rfl, Nat.le_of_ble_eq_true rfl⟩) hE hAB hP hD hS [0, 1, 2, 3, 4, 5, 6, 7] rfl rfl (va_recv hE.1 hP (ci := 3) (q0 := 0) rfl rfl) rfl rfl rfl rfl hl.1 rfl (Nat.le_of_ble_eq_true rfl) dX5_tellLiquor_2 ⟨Nat.le_refl _, Nat.le_refl _⟩ (fun H locs hP hD hS => ?_)
  refine lv_if_ne (tgt := 10) hx hb dX5_tellLiquor_5 (by decide) (fun c556 => ?_) (fun c556 => ?_)
  · have hf := ifF hf c556
    refine lv_aload_n hx hb dX5_tellLiquor_10 rfl (lv_at hl 0 rfl) ?_
    refine lv_iload_n hx hb dX5_tellLiquor_11 rfl (lv_at hl 1 rfl) ?_
    refine lv_iload_n hx hb dX5_tellLiquor_12 rfl (lv_at hl 2 rfl) ?_
    obtain ⟨q557, hq557, hf⟩ := bnd hf
    refine fc_callV (Wa' := (vW G a q557)) (st1 := []) (As := [.int x1, .int x2]) (rest := []) hCF (k_X6_setLiquor a v x1 x2 hq557) (cwV 2 hts gX5_tellLiquor_X6_setLiquor rfl rfl rfl ⟨rfl, dk_X6_setLiquor⟩ ⟨Nat.le_of_ble_eq_true rfl, Nat.le_of_ble_eq_true rfl⟩) hE hAB hP hD hS [0, 1, 2, 3, 4, 5, 6, 7] rfl rfl (va_recv hE.1 hP (ci := 3) (q0 := 0) rfl rfl) rfl rfl rfl rfl hl.1 rfl (Nat.le_of_ble_eq_true rfl) dX5_tellLiquor_13 ⟨Nat.le_refl _, Nat.le_refl _⟩ (fun H locs hP hD hS => ?_)
    refine lv_iconst (v := (1 : Int32)) hx hb dX5_tellLiquor_16 (by decide) ?_
    exact fc_retz hx hb hr hlocks hP hS dX5_tellLiquor_17 (by decide) (i2a hf) (congrArg (fun z => (vW G a z)) (i2b hf))
  · have hf := ifT hf c556
    refine lv_iconst (v := (0 : Int32)) hx hb dX5_tellLiquor_8 (by decide) ?_
    exact fc_retz hx hb hr hlocks hP hS dX5_tellLiquor_9 (by decide) (i2a hf) (congrArg (fun z => (vW G a z)) (i2b hf))
theorem dk_X5_tellToe : yX5_tellToe.cls ≠ "java/lang/invoke/MethodHandle" ∧ yX5_tellToe.cls ≠ "java/lang/invoke/VarHandle" ∧ (parseMethodDescriptor yX5_tellToe.desc).map (fun d => d.parameters.length) = some 3 := by decide +kernel
set_option maxHeartbeats 4000000 in
set_option maxRecDepth 100000 in
theorem k_X5_tellToe {l : Launch} {G : Gx} (a : Nat → Nat) (v : St) (x1 : Int32) (x2 : Int32) {r : Int32} {v' : St} (hf : f_X5_tellToe v x1 x2 = some (r, v')) : FC l G yX5_tellToe wsX5_tellToe ({ frames := 3, cells := 0, slots := 0, locals := 64 } : Room) [.ref (a 0), .int x1, .int x2] (vW G a v) (vW G a v') (some (.int r)) := by
  refine fc_head (cc := cX5_tellToe) (maxL := 3) (ret := (some .boolean)) (C := RX5) (lv := [(0, .ref (a 0)), (1, .int x1), (2, .int x2)]) (by decide) rfl rfl (Nat.le_of_ble_eq_true rfl) rfl ?_
  intro p e s m below meth c ls A hx hb hr hml hown hts hlocks hE hP hD hAB hS hl
  have hCF : CallFix p m c cX5_tellToe 3 s ([.ref (a 0), .int x1, .int x2] : List Value).toArray wsX5_tellToe RX5 := ⟨hx, hb, hml, hown, hts⟩
  rw [f_X5_tellToe] at hf
  refine lv_aload_n hx hb dX5_tellToe_0 rfl (lv_at hl 0 rfl) ?_
  refine lv_iload_n hx hb dX5_tellToe_1 rfl (lv_at hl 1 rfl) ?_
  obtain ⟨q562, hq562, hf⟩ := bnd hf
  refine fc_callV (Wa' := (vW G a v)) (st1 := [.int q562]) (As := [.int x1]) (rest := []) hCF (k_X6_hasBride a v x1 hq562) (cwV 1 hts gX5_tellToe_X6_hasBride rfl rfl rfl ⟨rfl, dk_X6_hasBride⟩ ⟨Nat.le_of_ble_eq_true rfl, Nat.le_of_ble_eq_true rfl⟩) hE hAB hP hD hS [0, 1, 2, 3, 4, 5, 6, 7] rfl rfl (va_recv hE.1 hP (ci := 3) (q0 := 0) rfl rfl) rfl rfl rfl rfl hl.1 rfl (Nat.le_of_ble_eq_true rfl) dX5_tellToe_2 ⟨Nat.le_refl _, Nat.le_refl _⟩ (fun H locs hP hD hS => ?_)
  refine lv_if_eq (tgt := 14) hx hb dX5_tellToe_5 (by decide) (fun c563 => ?_) (fun c563 => ?_)
  · have hf := ifT hf c563
    refine lv_iconst (v := (0 : Int32)) hx hb dX5_tellToe_14 (by decide) ?_
    exact fc_retz hx hb hr hlocks hP hS dX5_tellToe_15 (by decide) (i2a hf) (congrArg (fun z => (vW G a z)) (i2b hf))
  · have hf := ifF hf c563
    refine lv_iload_n hx hb dX5_tellToe_8 rfl (lv_at hl 2 rfl) ?_
    refine lv_bipush (v := (6 : Int32)) hx hb dX5_tellToe_9 (by decide) ?_
    refine lv_icmp_lt (tgt := 16) hx hb dX5_tellToe_11 (by decide) (fun c564 => ?_) (fun c564 => ?_)
    · have hf := ifT hf c564
      refine lv_aload_n hx hb dX5_tellToe_16 rfl (lv_at hl 0 rfl) ?_
      refine lv_iload_n hx hb dX5_tellToe_17 rfl (lv_at hl 1 rfl) ?_
      refine lv_iconst (v := (1 : Int32)) hx hb dX5_tellToe_18 (by decide) ?_
      refine lv_iload_n hx hb dX5_tellToe_19 rfl (lv_at hl 2 rfl) ?_
      refine lv_ishl hx hb dX5_tellToe_20 ?_
      obtain ⟨q565, hq565, hf⟩ := bnd hf
      refine fc_callV (Wa' := (vW G a q565)) (st1 := []) (As := [.int x1, .int ((1 : Int32) <<< (x2 &&& 31))]) (rest := []) hCF (k_X6_changeToes a v x1 ((1 : Int32) <<< (x2 &&& 31)) hq565) (cwV 2 hts gX5_tellToe_X6_changeToes rfl rfl rfl ⟨rfl, dk_X6_changeToes⟩ ⟨Nat.le_of_ble_eq_true rfl, Nat.le_of_ble_eq_true rfl⟩) hE hAB hP hD hS [0, 1, 2, 3, 4, 5, 6, 7] rfl rfl (va_recv hE.1 hP (ci := 3) (q0 := 0) rfl rfl) rfl rfl rfl rfl hl.1 rfl (Nat.le_of_ble_eq_true rfl) dX5_tellToe_21 ⟨Nat.le_refl _, Nat.le_refl _⟩ (fun H locs hP hD hS => ?_)
      refine lv_iconst (v := (1 : Int32)) hx hb dX5_tellToe_24 (by decide) ?_
      exact fc_retz hx hb hr hlocks hP hS dX5_tellToe_25 (by decide) (i2a hf) (congrArg (fun z => (vW G a z)) (i2b hf))
    · have hf := ifF hf c564
      refine lv_iconst (v := (0 : Int32)) hx hb dX5_tellToe_14 (by decide) ?_
      exact fc_retz hx hb hr hlocks hP hS dX5_tellToe_15 (by decide) (i2a hf) (congrArg (fun z => (vW G a z)) (i2b hf))
theorem dk_X5_tellYears : yX5_tellYears.cls ≠ "java/lang/invoke/MethodHandle" ∧ yX5_tellYears.cls ≠ "java/lang/invoke/VarHandle" ∧ (parseMethodDescriptor yX5_tellYears.desc).map (fun d => d.parameters.length) = some 2 := by decide +kernel
set_option maxHeartbeats 4000000 in
set_option maxRecDepth 100000 in
theorem k_X5_tellYears {l : Launch} {G : Gx} (a : Nat → Nat) (v : St) (x1 : Int32) {r : Int32} {v' : St} (hf : f_X5_tellYears v x1 = some (r, v')) : FC l G yX5_tellYears wsX5_tellYears ({ frames := 3, cells := 0, slots := 0, locals := 66 } : Room) [.ref (a 0), .int x1] (vW G a v) (vW G a v') (some (.int r)) := by
  refine fc_head (cc := cX5_tellYears) (maxL := 2) (ret := (some .boolean)) (C := RX5) (lv := [(0, .ref (a 0)), (1, .int x1)]) (by decide) rfl rfl (Nat.le_of_ble_eq_true rfl) rfl ?_
  intro p e s m below meth c ls A hx hb hr hml hown hts hlocks hE hP hD hAB hS hl
  have hCF : CallFix p m c cX5_tellYears 2 s ([.ref (a 0), .int x1] : List Value).toArray wsX5_tellYears RX5 := ⟨hx, hb, hml, hown, hts⟩
  rw [f_X5_tellYears] at hf
  refine lv_iload_n hx hb dX5_tellYears_0 rfl (lv_at hl 1 rfl) ?_
  refine lv_iconst (v := (1 : Int32)) hx hb dX5_tellYears_1 (by decide) ?_
  refine lv_icmp_lt (tgt := 19) hx hb dX5_tellYears_2 (by decide) (fun c592 => ?_) (fun c592 => ?_)
  · have hf := ifT hf c592
    refine lv_iconst (v := (0 : Int32)) hx hb dX5_tellYears_19 (by decide) ?_
    exact fc_retz hx hb hr hlocks hP hS dX5_tellYears_20 (by decide) (i2a hf) (congrArg (fun z => (vW G a z)) (i2b hf))
  · have hf := ifF hf c592
    refine lv_iload_n hx hb dX5_tellYears_5 rfl (lv_at hl 1 rfl) ?_
    refine lv_bipush (v := (60 : Int32)) hx hb dX5_tellYears_6 (by decide) ?_
    refine lv_icmp_gt (tgt := 19) hx hb dX5_tellYears_8 (by decide) (fun c593 => ?_) (fun c593 => ?_)
    · have hf := ifT hf c593
      refine lv_iconst (v := (0 : Int32)) hx hb dX5_tellYears_19 (by decide) ?_
      exact fc_retz hx hb hr hlocks hP hS dX5_tellYears_20 (by decide) (i2a hf) (congrArg (fun z => (vW G a z)) (i2b hf))
    · have hf := ifF hf c593
      refine lv_aload_n hx hb dX5_tellYears_11 rfl (lv_at hl 0 rfl) ?_
      refine lv_iload_n hx hb dX5_tellYears_12 rfl (lv_at hl 1 rfl) ?_
      obtain ⟨q594, hq594, hf⟩ := bnd hf
      refine fc_callV (Wa' := (vW G a v)) (st1 := [.int q594]) (As := [.int x1]) (rest := []) hCF (k_X6_canPass a v x1 hq594) (cwV 1 hts gX5_tellYears_X6_canPass rfl rfl rfl ⟨rfl, dk_X6_canPass⟩ ⟨Nat.le_of_ble_eq_true rfl, Nat.le_of_ble_eq_true rfl⟩) hE hAB hP hD hS [0, 1, 2, 3, 4, 5, 6, 7] rfl rfl (va_recv hE.1 hP (ci := 3) (q0 := 0) rfl rfl) rfl rfl rfl rfl hl.1 rfl (Nat.le_of_ble_eq_true rfl) dX5_tellYears_13 ⟨Nat.le_refl _, Nat.le_refl _⟩ (fun H locs hP hD hS => ?_)
      refine lv_if_ne (tgt := 21) hx hb dX5_tellYears_16 (by decide) (fun c595 => ?_) (fun c595 => ?_)
      · have hf := ifF hf c595
        refine lv_aload_n hx hb dX5_tellYears_21 rfl (lv_at hl 0 rfl) ?_
        refine lv_iload_n hx hb dX5_tellYears_22 rfl (lv_at hl 1 rfl) ?_
        obtain ⟨q596, hq596, hf⟩ := bnd hf
        refine fc_callV (Wa' := (vW G a q596)) (st1 := []) (As := [.int x1]) (rest := []) hCF (k_X6_passYears a v x1 hq596) (cwV 1 hts gX5_tellYears_X6_passYears rfl rfl rfl ⟨rfl, dk_X6_passYears⟩ ⟨Nat.le_of_ble_eq_true rfl, Nat.le_of_ble_eq_true rfl⟩) hE hAB hP hD hS [0, 1, 2, 3, 4, 5, 6, 7] rfl rfl (va_recv hE.1 hP (ci := 3) (q0 := 0) rfl rfl) rfl rfl rfl rfl hl.1 rfl (Nat.le_of_ble_eq_true rfl) dX5_tellYears_23 ⟨Nat.le_refl _, Nat.le_refl _⟩ (fun H locs hP hD hS => ?_)
        refine lv_iconst (v := (1 : Int32)) hx hb dX5_tellYears_26 (by decide) ?_
        exact fc_retz hx hb hr hlocks hP hS dX5_tellYears_27 (by decide) (i2a hf) (congrArg (fun z => (vW G a z)) (i2b hf))
      · have hf := ifT hf c595
        refine lv_iconst (v := (0 : Int32)) hx hb dX5_tellYears_19 (by decide) ?_
        exact fc_retz hx hb hr hlocks hP hS dX5_tellYears_20 (by decide) (i2a hf) (congrArg (fun z => (vW G a z)) (i2b hf))
