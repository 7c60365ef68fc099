theorem dk_X8_findCosts : yX8_findCosts.cls ≠ "java/lang/invoke/MethodHandle" ∧ yX8_findCosts.cls ≠ "java/lang/invoke/VarHandle" ∧ (parseMethodDescriptor yX8_findCosts.desc).map (fun d => d.parameters.length) = some 2 := by decide +kernel
theorem iu_X8_findCosts_X8 : ∀ w ∈ u_ws RX8 TX8 29, w ∈ wsX8_findCosts := by decide +kernel
set_option maxHeartbeats 4000000 in
set_option maxRecDepth 100000 in
theorem k_X8_findCosts {l : Launch} {G : Gx} (a : Nat → Nat) (v : St) (x1 : Int32) (x2 : Int32) {v' : St} (hf : f_X8_findCosts v x1 x2 = some v') : FC l G yX8_findCosts wsX8_findCosts ({ frames := 6, cells := 0, slots := 0, locals := 134 } : Room) [.ref (a 0), .int x1, .int x2] (mW G a v) (mW G a v') none := by
  refine fc_head (cc := cX8_findCosts) (maxL := 4) (ret := none) (C := RX8) (lv := [(0, .ref (a 0)), (1, .int x1), (2, .int x2)]) (by decide) rfl rfl (Nat.le_of_ble_eq_true rfl) rfl ?_
  intro p e s m below meth c ls A hx hb hr hml hown hts hlocks hE hP hD hAB hS hl
  have hCF : CallFix p m c cX8_findCosts 4 s ([.ref (a 0), .int x1, .int x2] : List Value).toArray wsX8_findCosts RX8 := ⟨hx, hb, hml, hown, hts⟩
  have hwX8 : ∀ w ∈ u_ws RX8 TX8 29, w.before ([.ref (a 0), .int x1, .int x2] : List Value).toArray s = true := fun w h => hts w (iu_X8_findCosts_X8 w h)
  have hk_fieldLink_RX8_19__BrideNotKnownModel___foot____I_ := hts (.fieldLink RX8 19 "BrideNotKnownModel" "foot" "[I") (List.mem_of_getElem? (i := 1) rfl)
  have hk_fieldLink_RX8_63__BrideNotKnownModel___costs____I_ := hts (.fieldLink RX8 63 "BrideNotKnownModel" "costs" "[I") (List.mem_of_getElem? (i := 2) rfl)
  rw [f_X8_findCosts] at hf
  refine lv_iconst (v := (0 : Int32)) hx hb dX8_findCosts_0 (by decide) ?_
  refine lv_istore_n (lv' := [(3, .int (0 : Int32)), (0, .ref (a 0)), (1, .int x1), (2, .int x2)]) hx hb dX8_findCosts_1 rfl hl (by decide) rfl (fun ls hl => ?_)
  have L2_2028 : ∀ (n : Nat) (x3_2026 : Int32) (v_2027 : St) (H : Heap) (locs : List Loc) (ls : Array Slot), va_P (gD G) vwCl (mW G a v_2027) H → va_D A (mW G a v_2027) → va_S A s.heap H locs → lv_has ls 4 [(0, .ref (a 0)), (1, .int x1), (2, .int x2), (3, .int x3_2026)] → f_X8_findCosts_2 x1 x2 n x3_2026 v_2027 = some v' → W p l e (headSpec wsX8_findCosts ({ frames := 6, cells := 0, slots := 0, locals := 134 } : Room)).room s m ([.ref (a 0), .int x1, .int x2] : List Value).toArray below meth c H locs 0 0 (MQ below (FQ G A (mW G a v') none) ([.ref (a 0), .int x1, .int x2] : List Value).toArray s 0 0 A) (F0 m 2 ls []) := by
    intro n
    induction n with
    | zero =>
      intro x3_2026 v_2027 H locs ls hP hD hS hl hf
      exact no_some hf
    | succ n ih =>
      intro x3_2026 v_2027 H locs ls hP hD hS hl hf
      rw [f_X8_findCosts_2] at hf
      refine lv_iload_n hx hb dX8_findCosts_2 rfl (lv_at hl 3 rfl) ?_
      refine lv_iconst (v := (4 : Int32)) hx hb dX8_findCosts_3 (by decide) ?_
      refine lv_icmp_ge (tgt := 89) hx hb dX8_findCosts_4 (by decide) (fun c2029 => ?_) (fun c2029 => ?_)
      · have hf := ifT hf c2029
        exact fc_retv hx hb hr hlocks hP hS dX8_findCosts_89 (congrArg (fun z => (mW G a z)) (i1 hf))
      · have hf := ifF hf c2029
        refine lv_aload_n hx hb dX8_findCosts_7 rfl (lv_at hl 0 rfl) ?_
        refine fc_get (v := .ref (a 4)) (ci := 5) (C := RX8) (T := TX8) (N := 29) hx hb hwX8 hown hE hP 0 (mW_o G a v_2027) rfl 3 (by decide) hk_fieldLink_RX8_19__BrideNotKnownModel___foot____I_ (fun _ h => h) rfl dX8_findCosts_8 ?_
        refine lv_iload_n hx hb dX8_findCosts_11 rfl (lv_at hl 1 rfl) ?_
        refine lv_dup2_11 hx hb dX8_findCosts_12 rfl rfl ?_
        obtain ⟨c2030, hf⟩ := gd_some hf
        refine fc_iald (n := 8) (f := (v_2027 3)) hx hb hE hP 4 (mW_a4 G a v_2027) (inB_in c2030) dX8_findCosts_13 ?_
        refine lv_iload_n hx hb dX8_findCosts_14 rfl (lv_at hl 3 rfl) ?_
        refine lv_iconst (v := (2 : Int32)) hx hb dX8_findCosts_15 (by decide) ?_
        refine lv_idiv hx hb dX8_findCosts_16 (by decide) ?_
        refine lv_ixor hx hb dX8_findCosts_17 ?_
        obtain ⟨c2031, hf⟩ := gd_some hf
        refine fc_iast (n := 8) (f := (v_2027 3)) (Wa' := (mW G a (sA v_2027 3 (upd (v_2027 3) x1.toNatClampNeg (((v_2027 3) x1.toNatClampNeg) ^^^ (x3_2026 / (2 : Int32))))))) hx hb hE hP hD hS 4 (mW_a4 G a v_2027) (inB_in c2031) dX8_findCosts_18 (mW_t4 G a v_2027 (upd (v_2027 3) x1.toNatClampNeg (((v_2027 3) x1.toNatClampNeg) ^^^ (x3_2026 / (2 : Int32))))) (fun H locs hP hD hS => ?_)
        refine lv_aload_n hx hb dX8_findCosts_19 rfl (lv_at hl 0 rfl) ?_
        refine fc_get (v := .ref (a 4)) (ci := 5) (C := RX8) (T := TX8) (N := 29) hx hb hwX8 hown hE hP 0 (mW_o G a (sA v_2027 3 (upd (v_2027 3) x1.toNatClampNeg (((v_2027 3) x1.toNatClampNeg) ^^^ (x3_2026 / (2 : Int32)))))) rfl 3 (by decide) hk_fieldLink_RX8_19__BrideNotKnownModel___foot____I_ (fun _ h => h) rfl dX8_findCosts_20 ?_
        refine lv_iload_n hx hb dX8_findCosts_23 rfl (lv_at hl 2 rfl) ?_
        refine lv_dup2_11 hx hb dX8_findCosts_24 rfl rfl ?_
        obtain ⟨c2032, hf⟩ := gd_some hf
        refine fc_iald (n := 8) (f := (upd (v_2027 3) x1.toNatClampNeg (((v_2027 3) x1.toNatClampNeg) ^^^ (x3_2026 / (2 : Int32))))) hx hb hE hP 4 (mW_a4 G a (sA v_2027 3 (upd (v_2027 3) x1.toNatClampNeg (((v_2027 3) x1.toNatClampNeg) ^^^ (x3_2026 / (2 : Int32)))))) (inB_in c2032) dX8_findCosts_25 ?_
        refine lv_iload_n hx hb dX8_findCosts_26 rfl (lv_at hl 3 rfl) ?_
        refine lv_iconst (v := (2 : Int32)) hx hb dX8_findCosts_27 (by decide) ?_
        refine lv_irem hx hb dX8_findCosts_28 (by decide) ?_
        refine lv_ixor hx hb dX8_findCosts_29 ?_
        obtain ⟨c2033, hf⟩ := gd_some hf
        refine fc_iast (n := 8) (f := (upd (v_2027 3) x1.toNatClampNeg (((v_2027 3) x1.toNatClampNeg) ^^^ (x3_2026 / (2 : Int32))))) (Wa' := (mW G a (sA (sA v_2027 3 (upd (v_2027 3) x1.toNatClampNeg (((v_2027 3) x1.toNatClampNeg) ^^^ (x3_2026 / (2 : Int32))))) 3 (upd (upd (v_2027 3) x1.toNatClampNeg (((v_2027 3) x1.toNatClampNeg) ^^^ (x3_2026 / (2 : Int32)))) x2.toNatClampNeg (((upd (v_2027 3) x1.toNatClampNeg (((v_2027 3) x1.toNatClampNeg) ^^^ (x3_2026 / (2 : Int32)))) x2.toNatClampNeg) ^^^ (x3_2026 - x3_2026 / (2 : Int32) * (2 : Int32))))))) hx hb hE hP hD hS 4 (mW_a4 G a (sA v_2027 3 (upd (v_2027 3) x1.toNatClampNeg (((v_2027 3) x1.toNatClampNeg) ^^^ (x3_2026 / (2 : Int32)))))) (inB_in c2033) dX8_findCosts_30 (mW_t4 G a (sA v_2027 3 (upd (v_2027 3) x1.toNatClampNeg (((v_2027 3) x1.toNatClampNeg) ^^^ (x3_2026 / (2 : Int32))))) (upd (upd (v_2027 3) x1.toNatClampNeg (((v_2027 3) x1.toNatClampNeg) ^^^ (x3_2026 / (2 : Int32)))) x2.toNatClampNeg (((upd (v_2027 3) x1.toNatClampNeg (((v_2027 3) x1.toNatClampNeg) ^^^ (x3_2026 / (2 : Int32)))) x2.toNatClampNeg) ^^^ (x3_2026 - x3_2026 / (2 : Int32) * (2 : Int32))))) (fun H locs hP hD hS => ?_)
        refine lv_aload_n hx hb dX8_findCosts_31 rfl (lv_at hl 0 rfl) ?_
        refine fc_get (v := .ref (a 17)) (ci := 5) (C := RX8) (T := TX8) (N := 29) hx hb hwX8 hown hE hP 0 (mW_o G a (sA (sA v_2027 3 (upd (v_2027 3) x1.toNatClampNeg (((v_2027 3) x1.toNatClampNeg) ^^^ (x3_2026 / (2 : Int32))))) 3 (upd (upd (v_2027 3) x1.toNatClampNeg (((v_2027 3) x1.toNatClampNeg) ^^^ (x3_2026 / (2 : Int32)))) x2.toNatClampNeg (((upd (v_2027 3) x1.toNatClampNeg (((v_2027 3) x1.toNatClampNeg) ^^^ (x3_2026 / (2 : Int32)))) x2.toNatClampNeg) ^^^ (x3_2026 - x3_2026 / (2 : Int32) * (2 : Int32)))))) rfl 27 (by decide) hk_fieldLink_RX8_63__BrideNotKnownModel___costs____I_ (fun _ h => h) rfl dX8_findCosts_32 ?_
        refine lv_iconst (v := (2 : Int32)) hx hb dX8_findCosts_35 (by decide) ?_
        refine lv_iload_n hx hb dX8_findCosts_36 rfl (lv_at hl 3 rfl) ?_
        refine lv_imul hx hb dX8_findCosts_37 ?_
        refine lv_aload_n hx hb dX8_findCosts_38 rfl (lv_at hl 0 rfl) ?_
        refine lv_iload_n hx hb dX8_findCosts_39 rfl (lv_at hl 1 rfl) ?_
        obtain ⟨q2034, hq2034, hf⟩ := bnd hf
        refine fc_callV (Wa' := (mW G a (sA (sA v_2027 3 (upd (v_2027 3) x1.toNatClampNeg (((v_2027 3) x1.toNatClampNeg) ^^^ (x3_2026 / (2 : Int32))))) 3 (upd (upd (v_2027 3) x1.toNatClampNeg (((v_2027 3) x1.toNatClampNeg) ^^^ (x3_2026 / (2 : Int32)))) x2.toNatClampNeg (((upd (v_2027 3) x1.toNatClampNeg (((v_2027 3) x1.toNatClampNeg) ^^^ (x3_2026 / (2 : Int32)))) x2.toNatClampNeg) ^^^ (x3_2026 - x3_2026 / (2 : Int32) * (2 : Int32))))))) (st1 := [.int q2034, .int ((2 : Int32) * x3_2026), .ref (a 17)]) (As := [.int x1]) (rest := [.int ((2 : Int32) * x3_2026), .ref (a 17)]) hCF (k_X8_costOf a (sA (sA v_2027 3 (upd (v_2027 3) x1.toNatClampNeg (((v_2027 3) x1.toNatClampNeg) ^^^ (x3_2026 / (2 : Int32))))) 3 (upd (upd (v_2027 3) x1.toNatClampNeg (((v_2027 3) x1.toNatClampNeg) ^^^ (x3_2026 / (2 : Int32)))) x2.toNatClampNeg (((upd (v_2027 3) x1.toNatClampNeg (((v_2027 3) x1.toNatClampNeg) ^^^ (x3_2026 / (2 : Int32)))) x2.toNatClampNeg) ^^^ (x3_2026 - x3_2026 / (2 : Int32) * (2 : Int32))))) x1 hq2034) (cwV 1 hts gX8_findCosts_X8_costOf rfl rfl rfl ⟨rfl, dk_X8_costOf⟩ ⟨Nat.le_of_ble_eq_true rfl, Nat.le_of_ble_eq_true rfl⟩) hE hAB hP hD hS [0, 1, 2, 3, 4, 5, 6, 7, 8, 9, 10, 11, 12, 13, 14, 15, 16, 17, 18, 19, 20, 21, 22, 23, 24] mW_d (mW_c G a (sA (sA v_2027 3 (upd (v_2027 3) x1.toNatClampNeg (((v_2027 3) x1.toNatClampNeg) ^^^ (x3_2026 / (2 : Int32))))) 3 (upd (upd (v_2027 3) x1.toNatClampNeg (((v_2027 3) x1.toNatClampNeg) ^^^ (x3_2026 / (2 : Int32)))) x2.toNatClampNeg (((upd (v_2027 3) x1.toNatClampNeg (((v_2027 3) x1.toNatClampNeg) ^^^ (x3_2026 / (2 : Int32)))) x2.toNatClampNeg) ^^^ (x3_2026 - x3_2026 / (2 : Int32) * (2 : Int32)))))) (va_recv hE.1 hP (ci := 5) (q0 := 0) rfl (mW_o G a (sA (sA v_2027 3 (upd (v_2027 3) x1.toNatClampNeg (((v_2027 3) x1.toNatClampNeg) ^^^ (x3_2026 / (2 : Int32))))) 3 (upd (upd (v_2027 3) x1.toNatClampNeg (((v_2027 3) x1.toNatClampNeg) ^^^ (x3_2026 / (2 : Int32)))) x2.toNatClampNeg (((upd (v_2027 3) x1.toNatClampNeg (((v_2027 3) x1.toNatClampNeg) ^^^ (x3_2026 / (2 : Int32)))) x2.toNatClampNeg) ^^^ (x3_2026 - x3_2026 / (2 : Int32) * (2 : Int32))))))) (mW_f G a (sA (sA v_2027 3 (upd (v_2027 3) x1.toNatClampNeg (((v_2027 3) x1.toNatClampNeg) ^^^ (x3_2026 / (2 : Int32))))) 3 (upd (upd (v_2027 3) x1.toNatClampNeg (((v_2027 3) x1.toNatClampNeg) ^^^ (x3_2026 / (2 : Int32)))) x2.toNatClampNeg (((upd (v_2027 3) x1.toNatClampNeg (((v_2027 3) x1.toNatClampNeg) ^^^ (x3_2026 / (2 : Int32)))) x2.toNatClampNeg) ^^^ (x3_2026 - x3_2026 / (2 : Int32) * (2 : Int32))))) (sA (sA v_2027 3 (upd (v_2027 3) x1.toNatClampNeg (((v_2027 3) x1.toNatClampNeg) ^^^ (x3_2026 / (2 : Int32))))) 3 (upd (upd (v_2027 3) x1.toNatClampNeg (((v_2027 3) x1.toNatClampNeg) ^^^ (x3_2026 / (2 : Int32)))) x2.toNatClampNeg (((upd (v_2027 3) x1.toNatClampNeg (((v_2027 3) x1.toNatClampNeg) ^^^ (x3_2026 / (2 : Int32)))) x2.toNatClampNeg) ^^^ (x3_2026 - x3_2026 / (2 : Int32) * (2 : Int32)))))) (mW_s G a (sA (sA v_2027 3 (upd (v_2027 3) x1.toNatClampNeg (((v_2027 3) x1.toNatClampNeg) ^^^ (x3_2026 / (2 : Int32))))) 3 (upd (upd (v_2027 3) x1.toNatClampNeg (((v_2027 3) x1.toNatClampNeg) ^^^ (x3_2026 / (2 : Int32)))) x2.toNatClampNeg (((upd (v_2027 3) x1.toNatClampNeg (((v_2027 3) x1.toNatClampNeg) ^^^ (x3_2026 / (2 : Int32)))) x2.toNatClampNeg) ^^^ (x3_2026 - x3_2026 / (2 : Int32) * (2 : Int32))))) (sA (sA v_2027 3 (upd (v_2027 3) x1.toNatClampNeg (((v_2027 3) x1.toNatClampNeg) ^^^ (x3_2026 / (2 : Int32))))) 3 (upd (upd (v_2027 3) x1.toNatClampNeg (((v_2027 3) x1.toNatClampNeg) ^^^ (x3_2026 / (2 : Int32)))) x2.toNatClampNeg (((upd (v_2027 3) x1.toNatClampNeg (((v_2027 3) x1.toNatClampNeg) ^^^ (x3_2026 / (2 : Int32)))) x2.toNatClampNeg) ^^^ (x3_2026 - x3_2026 / (2 : Int32) * (2 : Int32)))))) rfl rfl hl.1 rfl (Nat.le_of_ble_eq_true rfl) dX8_findCosts_40 ⟨Nat.le_refl _, Nat.le_refl _⟩ (fun H locs hP hD hS => ?_)
        obtain ⟨c2035, hf⟩ := gd_some hf
        refine fc_iast (n := 8) (f := (v_2027 16)) (Wa' := (mW G a (sA (sA (sA v_2027 3 (upd (v_2027 3) x1.toNatClampNeg (((v_2027 3) x1.toNatClampNeg) ^^^ (x3_2026 / (2 : Int32))))) 3 (upd (upd (v_2027 3) x1.toNatClampNeg (((v_2027 3) x1.toNatClampNeg) ^^^ (x3_2026 / (2 : Int32)))) x2.toNatClampNeg (((upd (v_2027 3) x1.toNatClampNeg (((v_2027 3) x1.toNatClampNeg) ^^^ (x3_2026 / (2 : Int32)))) x2.toNatClampNeg) ^^^ (x3_2026 - x3_2026 / (2 : Int32) * (2 : Int32))))) 16 (upd (v_2027 16) ((2 : Int32) * x3_2026).toNatClampNeg q2034)))) hx hb hE hP hD hS 17 (mW_a17 G a (sA (sA v_2027 3 (upd (v_2027 3) x1.toNatClampNeg (((v_2027 3) x1.toNatClampNeg) ^^^ (x3_2026 / (2 : Int32))))) 3 (upd (upd (v_2027 3) x1.toNatClampNeg (((v_2027 3) x1.toNatClampNeg) ^^^ (x3_2026 / (2 : Int32)))) x2.toNatClampNeg (((upd (v_2027 3) x1.toNatClampNeg (((v_2027 3) x1.toNatClampNeg) ^^^ (x3_2026 / (2 : Int32)))) x2.toNatClampNeg) ^^^ (x3_2026 - x3_2026 / (2 : Int32) * (2 : Int32)))))) (inB_in c2035) dX8_findCosts_43 (mW_t17 G a (sA (sA v_2027 3 (upd (v_2027 3) x1.toNatClampNeg (((v_2027 3) x1.toNatClampNeg) ^^^ (x3_2026 / (2 : Int32))))) 3 (upd (upd (v_2027 3) x1.toNatClampNeg (((v_2027 3) x1.toNatClampNeg) ^^^ (x3_2026 / (2 : Int32)))) x2.toNatClampNeg (((upd (v_2027 3) x1.toNatClampNeg (((v_2027 3) x1.toNatClampNeg) ^^^ (x3_2026 / (2 : Int32)))) x2.toNatClampNeg) ^^^ (x3_2026 - x3_2026 / (2 : Int32) * (2 : Int32))))) (upd (v_2027 16) ((2 : Int32) * x3_2026).toNatClampNeg q2034)) (fun H locs hP hD hS => ?_)
        refine lv_aload_n hx hb dX8_findCosts_44 rfl (lv_at hl 0 rfl) ?_
        refine fc_get (v := .ref (a 17)) (ci := 5) (C := RX8) (T := TX8) (N := 29) hx hb hwX8 hown hE hP 0 (mW_o G a (sA (sA (sA v_2027 3 (upd (v_2027 3) x1.toNatClampNeg (((v_2027 3) x1.toNatClampNeg) ^^^ (x3_2026 / (2 : Int32))))) 3 (upd (upd (v_2027 3) x1.toNatClampNeg (((v_2027 3) x1.toNatClampNeg) ^^^ (x3_2026 / (2 : Int32)))) x2.toNatClampNeg (((upd (v_2027 3) x1.toNatClampNeg (((v_2027 3) x1.toNatClampNeg) ^^^ (x3_2026 / (2 : Int32)))) x2.toNatClampNeg) ^^^ (x3_2026 - x3_2026 / (2 : Int32) * (2 : Int32))))) 16 (upd (v_2027 16) ((2 : Int32) * x3_2026).toNatClampNeg q2034))) rfl 27 (by decide) hk_fieldLink_RX8_63__BrideNotKnownModel___costs____I_ (fun _ h => h) rfl dX8_findCosts_45 ?_
        refine lv_iconst (v := (2 : Int32)) hx hb dX8_findCosts_48 (by decide) ?_
        refine lv_iload_n hx hb dX8_findCosts_49 rfl (lv_at hl 3 rfl) ?_
        refine lv_imul hx hb dX8_findCosts_50 ?_
        refine lv_iconst (v := (1 : Int32)) hx hb dX8_findCosts_51 (by decide) ?_
        refine lv_iadd hx hb dX8_findCosts_52 ?_
        refine lv_aload_n hx hb dX8_findCosts_53 rfl (lv_at hl 0 rfl) ?_
        refine lv_iload_n hx hb dX8_findCosts_54 rfl (lv_at hl 2 rfl) ?_
        obtain ⟨q2036, hq2036, hf⟩ := bnd hf
        refine fc_callV (Wa' := (mW G a (sA (sA (sA v_2027 3 (upd (v_2027 3) x1.toNatClampNeg (((v_2027 3) x1.toNatClampNeg) ^^^ (x3_2026 / (2 : Int32))))) 3 (upd (upd (v_2027 3) x1.toNatClampNeg (((v_2027 3) x1.toNatClampNeg) ^^^ (x3_2026 / (2 : Int32)))) x2.toNatClampNeg (((upd (v_2027 3) x1.toNatClampNeg (((v_2027 3) x1.toNatClampNeg) ^^^ (x3_2026 / (2 : Int32)))) x2.toNatClampNeg) ^^^ (x3_2026 - x3_2026 / (2 : Int32) * (2 : Int32))))) 16 (upd (v_2027 16) ((2 : Int32) * x3_2026).toNatClampNeg q2034)))) (st1 := [.int q2036, .int (((2 : Int32) * x3_2026) + (1 : Int32)), .ref (a 17)]) (As := [.int x2]) (rest := [.int (((2 : Int32) * x3_2026) + (1 : Int32)), .ref (a 17)]) hCF (k_X8_costOf a (sA (sA (sA v_2027 3 (upd (v_2027 3) x1.toNatClampNeg (((v_2027 3) x1.toNatClampNeg) ^^^ (x3_2026 / (2 : Int32))))) 3 (upd (upd (v_2027 3) x1.toNatClampNeg (((v_2027 3) x1.toNatClampNeg) ^^^ (x3_2026 / (2 : Int32)))) x2.toNatClampNeg (((upd (v_2027 3) x1.toNatClampNeg (((v_2027 3) x1.toNatClampNeg) ^^^ (x3_2026 / (2 : Int32)))) x2.toNatClampNeg) ^^^ (x3_2026 - x3_2026 / (2 : Int32) * (2 : Int32))))) 16 (upd (v_2027 16) ((2 : Int32) * x3_2026).toNatClampNeg q2034)) x2 hq2036) (cwV 1 hts gX8_findCosts_X8_costOf rfl rfl rfl ⟨rfl, dk_X8_costOf⟩ ⟨Nat.le_of_ble_eq_true rfl, Nat.le_of_ble_eq_true rfl⟩) hE hAB hP hD hS [0, 1, 2, 3, 4, 5, 6, 7, 8, 9, 10, 11, 12, 13, 14, 15, 16, 17, 18, 19, 20, 21, 22, 23, 24] mW_d (mW_c G a (sA (sA (sA v_2027 3 (upd (v_2027 3) x1.toNatClampNeg (((v_2027 3) x1.toNatClampNeg) ^^^ (x3_2026 / (2 : Int32))))) 3 (upd (upd (v_2027 3) x1.toNatClampNeg (((v_2027 3) x1.toNatClampNeg) ^^^ (x3_2026 / (2 : Int32)))) x2.toNatClampNeg (((upd (v_2027 3) x1.toNatClampNeg (((v_2027 3) x1.toNatClampNeg) ^^^ (x3_2026 / (2 : Int32)))) x2.toNatClampNeg) ^^^ (x3_2026 - x3_2026 / (2 : Int32) * (2 : Int32))))) 16 (upd (v_2027 16) ((2 : Int32) * x3_2026).toNatClampNeg q2034))) (va_recv hE.1 hP (ci := 5) (q0 := 0) rfl (mW_o G a (sA (sA (sA v_2027 3 (upd (v_2027 3) x1.toNatClampNeg (((v_2027 3) x1.toNatClampNeg) ^^^ (x3_2026 / (2 : Int32))))) 3 (upd (upd (v_2027 3) x1.toNatClampNeg (((v_2027 3) x1.toNatClampNeg) ^^^ (x3_2026 / (2 : Int32)))) x2.toNatClampNeg (((upd (v_2027 3) x1.toNatClampNeg (((v_2027 3) x1.toNatClampNeg) ^^^ (x3_2026 / (2 : Int32)))) x2.toNatClampNeg) ^^^ (x3_2026 - x3_2026 / (2 : Int32) * (2 : Int32))))) 16 (upd (v_2027 16) ((2 : Int32) * x3_2026).toNatClampNeg q2034)))) (mW_f G a (sA (sA (sA v_2027 3 (upd (v_2027 3) x1.toNatClampNeg (((v_2027 3) x1.toNatClampNeg) ^^^ (x3_2026 / (2 : Int32))))) 3 (upd (upd (v_2027 3) x1.toNatClampNeg (((v_2027 3) x1.toNatClampNeg) ^^^ (x3_2026 / (2 : Int32)))) x2.toNatClampNeg (((upd (v_2027 3) x1.toNatClampNeg (((v_2027 3) x1.toNatClampNeg) ^^^ (x3_2026 / (2 : Int32)))) x2.toNatClampNeg) ^^^ (x3_2026 - x3_2026 / (2 : Int32) * (2 : Int32))))) 16 (upd (v_2027 16) ((2 : Int32) * x3_2026).toNatClampNeg q2034)) (sA (sA (sA v_2027 3 (upd (v_2027 3) x1.toNatClampNeg (((v_2027 3) x1.toNatClampNeg) ^^^ (x3_2026 / (2 : Int32))))) 3 (upd (upd (v_2027 3) x1.toNatClampNeg (((v_2027 3) x1.toNatClampNeg) ^^^ (x3_2026 / (2 : Int32)))) x2.toNatClampNeg (((upd (v_2027 3) x1.toNatClampNeg (((v_2027 3) x1.toNatClampNeg) ^^^ (x3_2026 / (2 : Int32)))) x2.toNatClampNeg) ^^^ (x3_2026 - x3_2026 / (2 : Int32) * (2 : Int32))))) 16 (upd (v_2027 16) ((2 : Int32) * x3_2026).toNatClampNeg q2034))) (mW_s G a (sA (sA (sA v_2027 3 (upd (v_2027 3) x1.toNatClampNeg (((v_2027 3) x1.toNatClampNeg) ^^^ (x3_2026 / (2 : Int32))))) 3 (upd (upd (v_2027 3) x1.toNatClampNeg (((v_2027 3) x1.toNatClampNeg) ^^^ (x3_2026 / (2 : Int32)))) x2.toNatClampNeg (((upd (v_2027 3) x1.toNatClampNeg (((v_2027 3) x1.toNatClampNeg) ^^^ (x3_2026 / (2 : Int32)))) x2.toNatClampNeg) ^^^ (x3_2026 - x3_2026 / (2 : Int32) * (2 : Int32))))) 16 (upd (v_2027 16) ((2 : Int32) * x3_2026).toNatClampNeg q2034)) (sA (sA (sA v_2027 3 (upd (v_2027 3) x1.toNatClampNeg (((v_2027 3) x1.toNatClampNeg) ^^^ (x3_2026 / (2 : Int32))))) 3 (upd (upd (v_2027 3) x1.toNatClampNeg (((v_2027 3) x1.toNatClampNeg) ^^^ (x3_2026 / (2 : Int32)))) x2.toNatClampNeg (((upd (v_2027 3) x1.toNatClampNeg (((v_2027 3) x1.toNatClampNeg) ^^^ (x3_2026 / (2 : Int32)))) x2.toNatClampNeg) ^^^ (x3_2026 - x3_2026 / (2 : Int32) * (2 : Int32))))) 16 (upd (v_2027 16) ((2 : Int32) * x3_2026).toNatClampNeg q2034))) rfl rfl hl.1 rfl (Nat.le_of_ble_eq_true rfl) dX8_findCosts_55 ⟨Nat.le_refl _, Nat.le_refl _⟩ (fun H locs hP hD hS => ?_)
        obtain ⟨c2037, hf⟩ := gd_some hf
        refine fc_iast (n := 8) (f := (upd (v_2027 16) ((2 : Int32) * x3_2026).toNatClampNeg q2034)) (Wa' := (mW G a (sA (sA (sA (sA v_2027 3 (upd (v_2027 3) x1.toNatClampNeg (((v_2027 3) x1.toNatClampNeg) ^^^ (x3_2026 / (2 : Int32))))) 3 (upd (upd (v_2027 3) x1.toNatClampNeg (((v_2027 3) x1.toNatClampNeg) ^^^ (x3_2026 / (2 : Int32)))) x2.toNatClampNeg (((upd (v_2027 3) x1.toNatClampNeg (((v_2027 3) x1.toNatClampNeg) ^^^ (x3_2026 / (2 : Int32)))) x2.toNatClampNeg) ^^^ (x3_2026 - x3_2026 / (2 : Int32) * (2 : Int32))))) 16 (upd (v_2027 16) ((2 : Int32) * x3_2026).toNatClampNeg q2034)) 16 (upd (upd (v_2027 16) ((2 : Int32) * x3_2026).toNatClampNeg q2034) (((2 : Int32) * x3_2026) + (1 : Int32)).toNatClampNeg q2036)))) hx hb hE hP hD hS 17 (mW_a17 G a (sA (sA (sA v_2027 3 (upd (v_2027 3) x1.toNatClampNeg (((v_2027 3) x1.toNatClampNeg) ^^^ (x3_2026 / (2 : Int32))))) 3 (upd (upd (v_2027 3) x1.toNatClampNeg (((v_2027 3) x1.toNatClampNeg) ^^^ (x3_2026 / (2 : Int32)))) x2.toNatClampNeg (((upd (v_2027 3) x1.toNatClampNeg (((v_2027 3) x1.toNatClampNeg) ^^^ (x3_2026 / (2 : Int32)))) x2.toNatClampNeg) ^^^ (x3_2026 - x3_2026 / (2 : Int32) * (2 : Int32))))) 16 (upd (v_2027 16) ((2 : Int32) * x3_2026).toNatClampNeg q2034))) (inB_in c2037) dX8_findCosts_58 (mW_t17 G a (sA (sA (sA v_2027 3 (upd (v_2027 3) x1.toNatClampNeg (((v_2027 3) x1.toNatClampNeg) ^^^ (x3_2026 / (2 : Int32))))) 3 (upd (upd (v_2027 3) x1.toNatClampNeg (((v_2027 3) x1.toNatClampNeg) ^^^ (x3_2026 / (2 : Int32)))) x2.toNatClampNeg (((upd (v_2027 3) x1.toNatClampNeg (((v_2027 3) x1.toNatClampNeg) ^^^ (x3_2026 / (2 : Int32)))) x2.toNatClampNeg) ^^^ (x3_2026 - x3_2026 / (2 : Int32) * (2 : Int32))))) 16 (upd (v_2027 16) ((2 : Int32) * x3_2026).toNatClampNeg q2034)) (upd (upd (v_2027 16) ((2 : Int32) * x3_2026).toNatClampNeg q2034) (((2 : Int32) * x3_2026) + (1 : Int32)).toNatClampNeg q2036)) (fun H locs hP hD hS => ?_)
        refine lv_aload_n hx hb dX8_findCosts_59 rfl (lv_at hl 0 rfl) ?_
        refine fc_get (v := .ref (a 4)) (ci := 5) (C := RX8) (T := TX8) (N := 29) hx hb hwX8 hown hE hP 0 (mW_o G a (sA (sA (sA (sA v_2027 3 (upd (v_2027 3) x1.toNatClampNeg (((v_2027 3) x1.toNatClampNeg) ^^^ (x3_2026 / (2 : Int32))))) 3 (upd (upd (v_2027 3) x1.toNatClampNeg (((v_2027 3) x1.toNatClampNeg) ^^^ (x3_2026 / (2 : Int32)))) x2.toNatClampNeg (((upd (v_2027 3) x1.toNatClampNeg (((v_2027 3) x1.toNatClampNeg) ^^^ (x3_2026 / (2 : Int32)))) x2.toNatClampNeg) ^^^ (x3_2026 - x3_2026 / (2 : Int32) * (2 : Int32))))) 16 (upd (v_2027 16) ((2 : Int32) * x3_2026).toNatClampNeg q2034)) 16 (upd (upd (v_2027 16) ((2 : Int32) * x3_2026).toNatClampNeg q2034) (((2 : Int32) * x3_2026) + (1 : Int32)).toNatClampNeg q2036))) rfl 3 (by decide) hk_fieldLink_RX8_19__BrideNotKnownModel___foot____I_ (fun _ h => h) rfl dX8_findCosts_60 ?_
        refine lv_iload_n hx hb dX8_findCosts_63 rfl (lv_at hl 1 rfl) ?_
        refine lv_dup2_11 hx hb dX8_findCosts_64 rfl rfl ?_
        obtain ⟨c2038, hf⟩ := gd_some hf
        refine fc_iald (n := 8) (f := (upd (upd (v_2027 3) x1.toNatClampNeg (((v_2027 3) x1.toNatClampNeg) ^^^ (x3_2026 / (2 : Int32)))) x2.toNatClampNeg (((upd (v_2027 3) x1.toNatClampNeg (((v_2027 3) x1.toNatClampNeg) ^^^ (x3_2026 / (2 : Int32)))) x2.toNatClampNeg) ^^^ (x3_2026 - x3_2026 / (2 : Int32) * (2 : Int32))))) hx hb hE hP 4 (mW_a4 G a (sA (sA (sA (sA v_2027 3 (upd (v_2027 3) x1.toNatClampNeg (((v_2027 3) x1.toNatClampNeg) ^^^ (x3_2026 / (2 : Int32))))) 3 (upd (upd (v_2027 3) x1.toNatClampNeg (((v_2027 3) x1.toNatClampNeg) ^^^ (x3_2026 / (2 : Int32)))) x2.toNatClampNeg (((upd (v_2027 3) x1.toNatClampNeg (((v_2027 3) x1.toNatClampNeg) ^^^ (x3_2026 / (2 : Int32)))) x2.toNatClampNeg) ^^^ (x3_2026 - x3_2026 / (2 : Int32) * (2 : Int32))))) 16 (upd (v_2027 16) ((2 : Int32) * x3_2026).toNatClampNeg q2034)) 16 (upd (upd (v_2027 16) ((2 : Int32) * x3_2026).toNatClampNeg q2034) (((2 : Int32) * x3_2026) + (1 : Int32)).toNatClampNeg q2036))) (inB_in c2038) dX8_findCosts_65 ?_
        refine lv_iload_n hx hb dX8_findCosts_66 rfl (lv_at hl 3 rfl) ?_
        refine lv_iconst (v := (2 : Int32)) hx hb dX8_findCosts_67 (by decide) ?_
        refine lv_idiv hx hb dX8_findCosts_68 (by decide) ?_
        refine lv_ixor hx hb dX8_findCosts_69 ?_
        obtain ⟨c2039, hf⟩ := gd_some hf
        refine fc_iast (n := 8) (f := (upd (upd (v_2027 3) x1.toNatClampNeg (((v_2027 3) x1.toNatClampNeg) ^^^ (x3_2026 / (2 : Int32)))) x2.toNatClampNeg (((upd (v_2027 3) x1.toNatClampNeg (((v_2027 3) x1.toNatClampNeg) ^^^ (x3_2026 / (2 : Int32)))) x2.toNatClampNeg) ^^^ (x3_2026 - x3_2026 / (2 : Int32) * (2 : Int32))))) (Wa' := (mW G a (sA (sA (sA (sA (sA v_2027 3 (upd (v_2027 3) x1.toNatClampNeg (((v_2027 3) x1.toNatClampNeg) ^^^ (x3_2026 / (2 : Int32))))) 3 (upd (upd (v_2027 3) x1.toNatClampNeg (((v_2027 3) x1.toNatClampNeg) ^^^ (x3_2026 / (2 : Int32)))) x2.toNatClampNeg (((upd (v_2027 3) x1.toNatClampNeg (((v_2027 3) x1.toNatClampNeg) ^^^ (x3_2026 / (2 : Int32)))) x2.toNatClampNeg) ^^^ (x3_2026 - x3_2026 / (2 : Int32) * (2 : Int32))))) 16 (upd (v_2027 16) ((2 : Int32) * x3_2026).toNatClampNeg q2034)) 16 (upd (upd (v_2027 16) ((2 : Int32) * x3_2026).toNatClampNeg q2034) (((2 : Int32) * x3_2026) + (1 : Int32)).toNatClampNeg q2036)) 3 (upd (upd (upd (v_2027 3) x1.toNatClampNeg (((v_2027 3) x1.toNatClampNeg) ^^^ (x3_2026 / (2 : Int32)))) x2.toNatClampNeg (((upd (v_2027 3) x1.toNatClampNeg (((v_2027 3) x1.toNatClampNeg) ^^^ (x3_2026 / (2 : Int32)))) x2.toNatClampNeg) ^^^ (x3_2026 - x3_2026 / (2 : Int32) * (2 : Int32)))) x1.toNatClampNeg (((upd (upd (v_2027 3) x1.toNatClampNeg (((v_2027 3) x1.toNatClampNeg) ^^^ (x3_2026 / (2 : Int32)))) x2.toNatClampNeg (((upd (v_2027 3) x1.toNatClampNeg (((v_2027 3) x1.toNatClampNeg) ^^^ (x3_2026 / (2 : Int32)))) x2.toNatClampNeg) ^^^ (x3_2026 - x3_2026 / (2 : Int32) * (2 : Int32)))) x1.toNatClampNeg) ^^^ (x3_2026 / (2 : Int32))))))) hx hb hE hP hD hS 4 (mW_a4 G a (sA (sA (sA (sA v_2027 3 (upd (v_2027 3) x1.toNatClampNeg (((v_2027 3) x1.toNatClampNeg) ^^^ (x3_2026 / (2 : Int32))))) 3 (upd (upd (v_2027 3) x1.toNatClampNeg (((v_2027 3) x1.toNatClampNeg) ^^^ (x3_2026 / (2 : Int32)))) x2.toNatClampNeg (((upd (v_2027 3) x1.toNatClampNeg (((v_2027 3) x1.toNatClampNeg) ^^^ (x3_2026 / (2 : Int32)))) x2.toNatClampNeg) ^^^ (x3_2026 - x3_2026 / (2 : Int32) * (2 : Int32))))) 16 (upd (v_2027 16) ((2 : Int32) * x3_2026).toNatClampNeg q2034)) 16 (upd (upd (v_2027 16) ((2 : Int32) * x3_2026).toNatClampNeg q2034) (((2 : Int32) * x3_2026) + (1 : Int32)).toNatClampNeg q2036))) (inB_in c2039) dX8_findCosts_70 (mW_t4 G a (sA (sA (sA (sA v_2027 3 (upd (v_2027 3) x1.toNatClampNeg (((v_2027 3) x1.toNatClampNeg) ^^^ (x3_2026 / (2 : Int32))))) 3 (upd (upd (v_2027 3) x1.toNatClampNeg (((v_2027 3) x1.toNatClampNeg) ^^^ (x3_2026 / (2 : Int32)))) x2.toNatClampNeg (((upd (v_2027 3) x1.toNatClampNeg (((v_2027 3) x1.toNatClampNeg) ^^^ (x3_2026 / (2 : Int32)))) x2.toNatClampNeg) ^^^ (x3_2026 - x3_2026 / (2 : Int32) * (2 : Int32))))) 16 (upd (v_2027 16) ((2 : Int32) * x3_2026).toNatClampNeg q2034)) 16 (upd (upd (v_2027 16) ((2 : Int32) * x3_2026).toNatClampNeg q2034) (((2 : Int32) * x3_2026) + (1 : Int32)).toNatClampNeg q2036)) (upd (upd (upd (v_2027 3) x1.toNatClampNeg (((v_2027 3) x1.toNatClampNeg) ^^^ (x3_2026 / (2 : Int32)))) x2.toNatClampNeg (((upd (v_2027 3) x1.toNatClampNeg (((v_2027 3) x1.toNatClampNeg) ^^^ (x3_2026 / (2 : Int32)))) x2.toNatClampNeg) ^^^ (x3_2026 - x3_2026 / (2 : Int32) * (2 : Int32)))) x1.toNatClampNeg (((upd (upd (v_2027 3) x1.toNatClampNeg (((v_2027 3) x1.toNatClampNeg) ^^^ (x3_2026 / (2 : Int32)))) x2.toNatClampNeg (((upd (v_2027 3) x1.toNatClampNeg (((v_2027 3) x1.toNatClampNeg) ^^^ (x3_2026 / (2 : Int32)))) x2.toNatClampNeg) ^^^ (x3_2026 - x3_2026 / (2 : Int32) * (2 : Int32)))) x1.toNatClampNeg) ^^^ (x3_2026 / (2 : Int32))))) (fun H locs hP hD hS => ?_)
        refine lv_aload_n hx hb dX8_findCosts_71 rfl (lv_at hl 0 rfl) ?_
        refine fc_get (v := .ref (a 4)) (ci := 5) (C := RX8) (T := TX8) (N := 29) hx hb hwX8 hown hE hP 0 (mW_o G a (sA (sA (sA (sA (sA v_2027 3 (upd (v_2027 3) x1.toNatClampNeg (((v_2027 3) x1.toNatClampNeg) ^^^ (x3_2026 / (2 : Int32))))) 3 (upd (upd (v_2027 3) x1.toNatClampNeg (((v_2027 3) x1.toNatClampNeg) ^^^ (x3_2026 / (2 : Int32)))) x2.toNatClampNeg (((upd (v_2027 3) x1.toNatClampNeg (((v_2027 3) x1.toNatClampNeg) ^^^ (x3_2026 / (2 : Int32)))) x2.toNatClampNeg) ^^^ (x3_2026 - x3_2026 / (2 : Int32) * (2 : Int32))))) 16 (upd (v_2027 16) ((2 : Int32) * x3_2026).toNatClampNeg q2034)) 16 (upd (upd (v_2027 16) ((2 : Int32) * x3_2026).toNatClampNeg q2034) (((2 : Int32) * x3_2026) + (1 : Int32)).toNatClampNeg q2036)) 3 (upd (upd (upd (v_2027 3) x1.toNatClampNeg (((v_2027 3) x1.toNatClampNeg) ^^^ (x3_2026 / (2 : Int32)))) x2.toNatClampNeg (((upd (v_2027 3) x1.toNatClampNeg (((v_2027 3) x1.toNatClampNeg) ^^^ (x3_2026 / (2 : Int32)))) x2.toNatClampNeg) ^^^ (x3_2026 - x3_2026 / (2 : Int32) * (2 : Int32)))) x1.toNatClampNeg (((upd (upd (v_2027 3) x1.toNatClampNeg (((v_2027 3) x1.toNatClampNeg) ^^^ (x3_2026 / (2 : Int32)))) x2.toNatClampNeg (((upd (v_2027 3) x1.toNatClampNeg (((v_2027 3) x1.toNatClampNeg) ^^^ (x3_2026 / (2 : Int32)))) x2.toNatClampNeg) ^^^ (x3_2026 - x3_2026 / (2 : Int32) * (2 : Int32)))) x1.toNatClampNeg) ^^^ (x3_2026 / (2 : Int32)))))) rfl 3 (by decide) hk_fieldLink_RX8_19__BrideNotKnownModel___foot____I_ (fun _ h => h) rfl dX8_findCosts_72 ?_
        refine lv_iload_n hx hb dX8_findCosts_75 rfl (lv_at hl 2 rfl) ?_
        refine lv_dup2_11 hx hb dX8_findCosts_76 rfl rfl ?_
        obtain ⟨c2040, hf⟩ := gd_some hf
        refine fc_iald (n := 8) (f := (upd (upd (upd (v_2027 3) x1.toNatClampNeg (((v_2027 3) x1.toNatClampNeg) ^^^ (x3_2026 / (2 : Int32)))) x2.toNatClampNeg (((upd (v_2027 3) x1.toNatClampNeg (((v_2027 3) x1.toNatClampNeg) ^^^ (x3_2026 / (2 : Int32)))) x2.toNatClampNeg) ^^^ (x3_2026 - x3_2026 / (2 : Int32) * (2 : Int32)))) x1.toNatClampNeg (((upd (upd (v_2027 3) x1.toNatClampNeg (((v_2027 3) x1.toNatClampNeg) ^^^ (x3_2026 / (2 : Int32)))) x2.toNatClampNeg (((upd (v_2027 3) x1.toNatClampNeg (((v_2027 3) x1.toNatClampNeg) ^^^ (x3_2026 / (2 : Int32)))) x2.toNatClampNeg) ^^^ (x3_2026 - x3_2026 / (2 : Int32) * (2 : Int32)))) x1.toNatClampNeg) ^^^ (x3_2026 / (2 : Int32))))) hx hb hE hP 4 (mW_a4 G a (sA (sA (sA (sA (sA v_2027 3 (upd (v_2027 3) x1.toNatClampNeg (((v_2027 3) x1.toNatClampNeg) ^^^ (x3_2026 / (2 : Int32))))) 3 (upd (upd (v_2027 3) x1.toNatClampNeg (((v_2027 3) x1.toNatClampNeg) ^^^ (x3_2026 / (2 : Int32)))) x2.toNatClampNeg (((upd (v_2027 3) x1.toNatClampNeg (((v_2027 3) x1.toNatClampNeg) ^^^ (x3_2026 / (2 : Int32)))) x2.toNatClampNeg) ^^^ (x3_2026 - x3_2026 / (2 : Int32) * (2 : Int32))))) 16 (upd (v_2027 16) ((2 : Int32) * x3_2026).toNatClampNeg q2034)) 16 (upd (upd (v_2027 16) ((2 : Int32) * x3_2026).toNatClampNeg q2034) (((2 : Int32) * x3_2026) + (1 : Int32)).toNatClampNeg q2036)) 3 (upd (upd (upd (v_2027 3) x1.toNatClampNeg (((v_2027 3) x1.toNatClampNeg) ^^^ (x3_2026 / (2 : Int32)))) x2.toNatClampNeg (((upd (v_2027 3) x1.toNatClampNeg (((v_2027 3) x1.toNatClampNeg) ^^^ (x3_2026 / (2 : Int32)))) x2.toNatClampNeg) ^^^ (x3_2026 - x3_2026 / (2 : Int32) * (2 : Int32)))) x1.toNatClampNeg (((upd (upd (v_2027 3) x1.toNatClampNeg (((v_2027 3) x1.toNatClampNeg) ^^^ (x3_2026 / (2 : Int32)))) x2.toNatClampNeg (((upd (v_2027 3) x1.toNatClampNeg (((v_2027 3) x1.toNatClampNeg) ^^^ (x3_2026 / (2 : Int32)))) x2.toNatClampNeg) ^^^ (x3_2026 - x3_2026 / (2 : Int32) * (2 : Int32)))) x1.toNatClampNeg) ^^^ (x3_2026 / (2 : Int32)))))) (inB_in c2040) dX8_findCosts_77 ?_
        refine lv_iload_n hx hb dX8_findCosts_78 rfl (lv_at hl 3 rfl) ?_
        refine lv_iconst (v := (2 : Int32)) hx hb dX8_findCosts_79 (by decide) ?_
        refine lv_irem hx hb dX8_findCosts_80 (by decide) ?_
        refine lv_ixor hx hb dX8_findCosts_81 ?_
        obtain ⟨c2041, hf⟩ := gd_some hf
        refine fc_iast (n := 8) (f := (upd (upd (upd (v_2027 3) x1.toNatClampNeg (((v_2027 3) x1.toNatClampNeg) ^^^ (x3_2026 / (2 : Int32)))) x2.toNatClampNeg (((upd (v_2027 3) x1.toNatClampNeg (((v_2027 3) x1.toNatClampNeg) ^^^ (x3_2026 / (2 : Int32)))) x2.toNatClampNeg) ^^^ (x3_2026 - x3_2026 / (2 : Int32) * (2 : Int32)))) x1.toNatClampNeg (((upd (upd (v_2027 3) x1.toNatClampNeg (((v_2027 3) x1.toNatClampNeg) ^^^ (x3_2026 / (2 : Int32)))) x2.toNatClampNeg (((upd (v_2027 3) x1.toNatClampNeg (((v_2027 3) x1.toNatClampNeg) ^^^ (x3_2026 / (2 : Int32)))) x2.toNatClampNeg) ^^^ (x3_2026 - x3_2026 / (2 : Int32) * (2 : Int32)))) x1.toNatClampNeg) ^^^ (x3_2026 / (2 : Int32))))) (Wa' := (mW G a (sA (sA (sA (sA (sA (sA v_2027 3 (upd (v_2027 3) x1.toNatClampNeg (((v_2027 3) x1.toNatClampNeg) ^^^ (x3_2026 / (2 : Int32))))) 3 (upd (upd (v_2027 3) x1.toNatClampNeg (((v_2027 3) x1.toNatClampNeg) ^^^ (x3_2026 / (2 : Int32)))) x2.toNatClampNeg (((upd (v_2027 3) x1.toNatClampNeg (((v_2027 3) x1.toNatClampNeg) ^^^ (x3_2026 / (2 : Int32)))) x2.toNatClampNeg) ^^^ (x3_2026 - x3_2026 / (2 : Int32) * (2 : Int32))))) 16 (upd (v_2027 16) ((2 : Int32) * x3_2026).toNatClampNeg q2034)) 16 (upd (upd (v_2027 16) ((2 : Int32) * x3_2026).toNatClampNeg q2034) (((2 : Int32) * x3_2026) + (1 : Int32)).toNatClampNeg q2036)) 3 (upd (upd (upd (v_2027 3) x1.toNatClampNeg (((v_2027 3) x1.toNatClampNeg) ^^^ (x3_2026 / (2 : Int32)))) x2.toNatClampNeg (((upd (v_2027 3) x1.toNatClampNeg (((v_2027 3) x1.toNatClampNeg) ^^^ (x3_2026 / (2 : Int32)))) x2.toNatClampNeg) ^^^ (x3_2026 - x3_2026 / (2 : Int32) * (2 : Int32)))) x1.toNatClampNeg (((upd (upd (v_2027 3) x1.toNatClampNeg (((v_2027 3) x1.toNatClampNeg) ^^^ (x3_2026 / (2 : Int32)))) x2.toNatClampNeg (((upd (v_2027 3) x1.toNatClampNeg (((v_2027 3) x1.toNatClampNeg) ^^^ (x3_2026 / (2 : Int32)))) x2.toNatClampNeg) ^^^ (x3_2026 - x3_2026 / (2 : Int32) * (2 : Int32)))) x1.toNatClampNeg) ^^^ (x3_2026 / (2 : Int32))))) 3 (upd (upd (upd (upd (v_2027 3) x1.toNatClampNeg (((v_2027 3) x1.toNatClampNeg) ^^^ (x3_2026 / (2 : Int32)))) x2.toNatClampNeg (((upd (v_2027 3) x1.toNatClampNeg (((v_2027 3) x1.toNatClampNeg) ^^^ (x3_2026 / (2 : Int32)))) x2.toNatClampNeg) ^^^ (x3_2026 - x3_2026 / (2 : Int32) * (2 : Int32)))) x1.toNatClampNeg (((upd (upd (v_2027 3) x1.toNatClampNeg (((v_2027 3) x1.toNatClampNeg) ^^^ (x3_2026 / (2 : Int32)))) x2.toNatClampNeg (((upd (v_2027 3) x1.toNatClampNeg (((v_2027 3) x1.toNatClampNeg) ^^^ (x3_2026 / (2 : Int32)))) x2.toNatClampNeg) ^^^ (x3_2026 - x3_2026 / (2 : Int32) * (2 : Int32)))) x1.toNatClampNeg) ^^^ (x3_2026 / (2 : Int32)))) x2.toNatClampNeg (((upd (upd (upd (v_2027 3) x1.toNatClampNeg (((v_2027 3) x1.toNatClampNeg) ^^^ (x3_2026 / (2 : Int32)))) x2.toNatClampNeg (((upd (v_2027 3) x1.toNatClampNeg (((v_2027 3) x1.toNatClampNeg) ^^^ (x3_2026 / (2 : Int32)))) x2.toNatClampNeg) ^^^ (x3_2026 - x3_2026 / (2 : Int32) * (2 : Int32)))) x1.toNatClampNeg (((upd (upd (v_2027 3) x1.toNatClampNeg (((v_2027 3) x1.toNatClampNeg) ^^^ (x3_2026 / (2 : Int32)))) x2.toNatClampNeg (((upd (v_2027 3) x1.toNatClampNeg (((v_2027 3) x1.toNatClampNeg) ^^^ (x3_2026 / (2 : Int32)))) x2.toNatClampNeg) ^^^ (x3_2026 - x3_2026 / (2 : Int32) * (2 : Int32)))) x1.toNatClampNeg) ^^^ (x3_2026 / (2 : Int32)))) x2.toNatClampNeg) ^^^ (x3_2026 - x3_2026 / (2 : Int32) * (2 : Int32))))))) hx hb hE hP hD hS 4 (mW_a4 G a (sA (sA (sA (sA (sA v_2027 3 (upd (v_2027 3) x1.toNatClampNeg (((v_2027 3) x1.toNatClampNeg) ^^^ (x3_2026 / (2 : Int32))))) 3 (upd (upd (v_2027 3) x1.toNatClampNeg (((v_2027 3) x1.toNatClampNeg) ^^^ (x3_2026 / (2 : Int32)))) x2.toNatClampNeg (((upd (v_2027 3) x1.toNatClampNeg (((v_2027 3) x1.toNatClampNeg) ^^^ (x3_2026 / (2 : Int32)))) x2.toNatClampNeg) ^^^ (x3_2026 - x3_2026 / (2 : Int32) * (2 : Int32))))) 16 (upd (v_2027 16) ((2 : Int32) * x3_2026).toNatClampNeg q2034)) 16 (upd (upd (v_2027 16) ((2 : Int32) * x3_2026).toNatClampNeg q2034) (((2 : Int32) * x3_2026) + (1 : Int32)).toNatClampNeg q2036)) 3 (upd (upd (upd (v_2027 3) x1.toNatClampNeg (((v_2027 3) x1.toNatClampNeg) ^^^ (x3_2026 / (2 : Int32)))) x2.toNatClampNeg (((upd (v_2027 3) x1.toNatClampNeg (((v_2027 3) x1.toNatClampNeg) ^^^ (x3_2026 / (2 : Int32)))) x2.toNatClampNeg) ^^^ (x3_2026 - x3_2026 / (2 : Int32) * (2 : Int32)))) x1.toNatClampNeg (((upd (upd (v_2027 3) x1.toNatClampNeg (((v_2027 3) x1.toNatClampNeg) ^^^ (x3_2026 / (2 : Int32)))) x2.toNatClampNeg (((upd (v_2027 3) x1.toNatClampNeg (((v_2027 3) x1.toNatClampNeg) ^^^ (x3_2026 / (2 : Int32)))) x2.toNatClampNeg) ^^^ (x3_2026 - x3_2026 / (2 : Int32) * (2 : Int32)))) x1.toNatClampNeg) ^^^ (x3_2026 / (2 : Int32)))))) (inB_in c2041) dX8_findCosts_82 (mW_t4 G a (sA (sA (sA (sA (sA v_2027 3 (upd (v_2027 3) x1.toNatClampNeg (((v_2027 3) x1.toNatClampNeg) ^^^ (x3_2026 / (2 : Int32))))) 3 (upd (upd (v_2027 3) x1.toNatClampNeg (((v_2027 3) x1.toNatClampNeg) ^^^ (x3_2026 / (2 : Int32)))) x2.toNatClampNeg (((upd (v_2027 3) x1.toNatClampNeg (((v_2027 3) x1.toNatClampNeg) ^^^ (x3_2026 / (2 : Int32)))) x2.toNatClampNeg) ^^^ (x3_2026 - x3_2026 / (2 : Int32) * (2 : Int32))))) 16 (upd (v_2027 16) ((2 : Int32) * x3_2026).toNatClampNeg q2034)) 16 (upd (upd (v_2027 16) ((2 : Int32) * x3_2026).toNatClampNeg q2034) (((2 : Int32) * x3_2026) + (1 : Int32)).toNatClampNeg q2036)) 3 (upd (upd (upd (v_2027 3) x1.toNatClampNeg (((v_2027 3) x1.toNatClampNeg) ^^^ (x3_2026 / (2 : Int32)))) x2.toNatClampNeg (((upd (v_2027 3) x1.toNatClampNeg (((v_2027 3) x1.toNatClampNeg) ^^^ (x3_2026 / (2 : Int32)))) x2.toNatClampNeg) ^^^ (x3_2026 - x3_2026 / (2 : Int32) * (2 : Int32)))) x1.toNatClampNeg (((upd (upd (v_2027 3) x1.toNatClampNeg (((v_2027 3) x1.toNatClampNeg) ^^^ (x3_2026 / (2 : Int32)))) x2.toNatClampNeg (((upd (v_2027 3) x1.toNatClampNeg (((v_2027 3) x1.toNatClampNeg) ^^^ (x3_2026 / (2 : Int32)))) x2.toNatClampNeg) ^^^ (x3_2026 - x3_2026 / (2 : Int32) * (2 : Int32)))) x1.toNatClampNeg) ^^^ (x3_2026 / (2 : Int32))))) (upd (upd (upd (upd (v_2027 3) x1.toNatClampNeg (((v_2027 3) x1.toNatClampNeg) ^^^ (x3_2026 / (2 : Int32)))) x2.toNatClampNeg (((upd (v_2027 3) x1.toNatClampNeg (((v_2027 3) x1.toNatClampNeg) ^^^ (x3_2026 / (2 : Int32)))) x2.toNatClampNeg) ^^^ (x3_2026 - x3_2026 / (2 : Int32) * (2 : Int32)))) x1.toNatClampNeg (((upd (upd (v_2027 3) x1.toNatClampNeg (((v_2027 3) x1.toNatClampNeg) ^^^ (x3_2026 / (2 : Int32)))) x2.toNatClampNeg (((upd (v_2027 3) x1.toNatClampNeg (((v_2027 3) x1.toNatClampNeg) ^^^ (x3_2026 / (2 : Int32)))) x2.toNatClampNeg) ^^^ (x3_2026 - x3_2026 / (2 : Int32) * (2 : Int32)))) x1.toNatClampNeg) ^^^ (x3_2026 / (2 : Int32)))) x2.toNatClampNeg (((upd (upd (upd (v_2027 3) x1.toNatClampNeg (((v_2027 3) x1.toNatClampNeg) ^^^ (x3_2026 / (2 : Int32)))) x2.toNatClampNeg (((upd (v_2027 3) x1.toNatClampNeg (((v_2027 3) x1.toNatClampNeg) ^^^ (x3_2026 / (2 : Int32)))) x2.toNatClampNeg) ^^^ (x3_2026 - x3_2026 / (2 : Int32) * (2 : Int32)))) x1.toNatClampNeg (((upd (upd (v_2027 3) x1.toNatClampNeg (((v_2027 3) x1.toNatClampNeg) ^^^ (x3_2026 / (2 : Int32)))) x2.toNatClampNeg (((upd (v_2027 3) x1.toNatClampNeg (((v_2027 3) x1.toNatClampNeg) ^^^ (x3_2026 / (2 : Int32)))) x2.toNatClampNeg) ^^^ (x3_2026 - x3_2026 / (2 : Int32) * (2 : Int32)))) x1.toNatClampNeg) ^^^ (x3_2026 / (2 : Int32)))) x2.toNatClampNeg) ^^^ (x3_2026 - x3_2026 / (2 : Int32) * (2 : Int32))))) (fun H locs hP hD hS => ?_)
        refine lv_iinc (v := (x3_2026 + (1 : Int32))) (lv' := [(3, .int (x3_2026 + (1 : Int32))), (0, .ref (a 0)), (1, .int x1), (2, .int x2)]) hx hb dX8_findCosts_83 hl (k := 3) rfl rfl (by decide) rfl (fun ls hl => ?_)
        refine lv_goto (tgt := 2) hx hb dX8_findCosts_86 (by decide) ?_
        exact ih (x3_2026 + (1 : Int32)) (sA (sA (sA (sA (sA (sA v_2027 3 (upd (v_2027 3) x1.toNatClampNeg (((v_2027 3) x1.toNatClampNeg) ^^^ (x3_2026 / (2 : Int32))))) 3 (upd (upd (v_2027 3) x1.toNatClampNeg (((v_2027 3) x1.toNatClampNeg) ^^^ (x3_2026 / (2 : Int32)))) x2.toNatClampNeg (((upd (v_2027 3) x1.toNatClampNeg (((v_2027 3) x1.toNatClampNeg) ^^^ (x3_2026 / (2 : Int32)))) x2.toNatClampNeg) ^^^ (x3_2026 - x3_2026 / (2 : Int32) * (2 : Int32))))) 16 (upd (v_2027 16) ((2 : Int32) * x3_2026).toNatClampNeg q2034)) 16 (upd (upd (v_2027 16) ((2 : Int32) * x3_2026).toNatClampNeg q2034) (((2 : Int32) * x3_2026) + (1 : Int32)).toNatClampNeg q2036)) 3 (upd (upd (upd (v_2027 3) x1.toNatClampNeg (((v_2027 3) x1.toNatClampNeg) ^^^ (x3_2026 / (2 : Int32)))) x2.toNatClampNeg (((upd (v_2027 3) x1.toNatClampNeg (((v_2027 3) x1.toNatClampNeg) ^^^ (x3_2026 / (2 : Int32)))) x2.toNatClampNeg) ^^^ (x3_2026 - x3_2026 / (2 : Int32) * (2 : Int32)))) x1.toNatClampNeg (((upd (upd (v_2027 3) x1.toNatClampNeg (((v_2027 3) x1.toNatClampNeg) ^^^ (x3_2026 / (2 : Int32)))) x2.toNatClampNeg (((upd (v_2027 3) x1.toNatClampNeg (((v_2027 3) x1.toNatClampNeg) ^^^ (x3_2026 / (2 : Int32)))) x2.toNatClampNeg) ^^^ (x3_2026 - x3_2026 / (2 : Int32) * (2 : Int32)))) x1.toNatClampNeg) ^^^ (x3_2026 / (2 : Int32))))) 3 (upd (upd (upd (upd (v_2027 3) x1.toNatClampNeg (((v_2027 3) x1.toNatClampNeg) ^^^ (x3_2026 / (2 : Int32)))) x2.toNatClampNeg (((upd (v_2027 3) x1.toNatClampNeg (((v_2027 3) x1.toNatClampNeg) ^^^ (x3_2026 / (2 : Int32)))) x2.toNatClampNeg) ^^^ (x3_2026 - x3_2026 / (2 : Int32) * (2 : Int32)))) x1.toNatClampNeg (((upd (upd (v_2027 3) x1.toNatClampNeg (((v_2027 3) x1.toNatClampNeg) ^^^ (x3_2026 / (2 : Int32)))) x2.toNatClampNeg (((upd (v_2027 3) x1.toNatClampNeg (((v_2027 3) x1.toNatClampNeg) ^^^ (x3_2026 / (2 : Int32)))) x2.toNatClampNeg) ^^^ (x3_2026 - x3_2026 / (2 : Int32) * (2 : Int32)))) x1.toNatClampNeg) ^^^ (x3_2026 / (2 : Int32)))) x2.toNatClampNeg (((upd (upd (upd (v_2027 3) x1.toNatClampNeg (((v_2027 3) x1.toNatClampNeg) ^^^ (x3_2026 / (2 : Int32)))) x2.toNatClampNeg (((upd (v_2027 3) x1.toNatClampNeg (((v_2027 3) x1.toNatClampNeg) ^^^ (x3_2026 / (2 : Int32)))) x2.toNatClampNeg) ^^^ (x3_2026 - x3_2026 / (2 : Int32) * (2 : Int32)))) x1.toNatClampNeg (((upd (upd (v_2027 3) x1.toNatClampNeg (((v_2027 3) x1.toNatClampNeg) ^^^ (x3_2026 / (2 : Int32)))) x2.toNatClampNeg (((upd (v_2027 3) x1.toNatClampNeg (((v_2027 3) x1.toNatClampNeg) ^^^ (x3_2026 / (2 : Int32)))) x2.toNatClampNeg) ^^^ (x3_2026 - x3_2026 / (2 : Int32) * (2 : Int32)))) x1.toNatClampNeg) ^^^ (x3_2026 / (2 : Int32)))) x2.toNatClampNeg) ^^^ (x3_2026 - x3_2026 / (2 : Int32) * (2 : Int32))))) _ _ _ hP hD hS (lv_sub hl [1, 2, 3, 0] rfl) hf
  exact L2_2028 FUEL (0 : Int32) v _ _ _ hP hD hS (lv_sub hl [1, 2, 3, 0] rfl) hf
theorem dk_X8_isPair : yX8_isPair.cls ≠ "java/lang/invoke/MethodHandle" ∧ yX8_isPair.cls ≠ "java/lang/invoke/VarHandle" ∧ (parseMethodDescriptor yX8_isPair.desc).map (fun d => d.parameters.length) = some 2 := by decide +kernel
theorem iu_X8_isPair_X8 : ∀ w ∈ u_ws RX8 TX8 29, w ∈ wsX8_isPair := by decide +kernel
set_option maxHeartbeats 4000000 in
set_option maxRecDepth 100000 in
theorem k_X8_isPair {l : Launch} {G : Gx} (a : Nat → Nat) (v : St) (x1 : Int32) (x2 : Int32) {r : Int32} (hf : f_X8_isPair v x1 x2 = some r) : FC l G yX8_isPair wsX8_isPair ({ frames := 5, cells := 0, slots := 0, locals := 111 } : Room) [.ref (a 0), .int x1, .int x2] (mW G a v) (mW G a v) (some (.int r)) := by
  refine fc_head (cc := cX8_isPair) (maxL := 3) (ret := (some .boolean)) (C := RX8) (lv := [(0, .ref (a 0)), (1, .int x1), (2, .int x2)]) (by decide) rfl rfl (Nat.le_of_ble_eq_true rfl) rfl ?_
  intro p e s m below meth c ls A hx hb hr hml hown hts hlocks hE hP hD hAB hS hl
  have hCF : CallFix p m c cX8_isPair 3 s ([.ref (a 0), .int x1, .int x2] : List Value).toArray wsX8_isPair RX8 := ⟨hx, hb, hml, hown, hts⟩
  have hwX8 : ∀ w ∈ u_ws RX8 TX8 29, w.before ([.ref (a 0), .int x1, .int x2] : List Value).toArray s = true := fun w h => hts w (iu_X8_isPair_X8 w h)
  have hk_fieldLink_RX8_37__BrideNotKnownModel___married____I_ := hts (.fieldLink RX8 37 "BrideNotKnownModel" "married" "[I") (List.mem_of_getElem? (i := 1) rfl)
  have hk_fieldLink_RX8_22__BrideNotKnownModel___state____I_ := hts (.fieldLink RX8 22 "BrideNotKnownModel" "state" "[I") (List.mem_of_getElem? (i := 2) rfl)
  rw [f_X8_isPair] at hf
  refine lv_aload_n hx hb dX8_isPair_0 rfl (lv_at hl 0 rfl) ?_
  refine fc_get (v := .ref (a 10)) (ci := 5) (C := RX8) (T := TX8) (N := 29) hx hb hwX8 hown hE hP 0 (mW_o G a v) rfl 9 (by decide) hk_fieldLink_RX8_37__BrideNotKnownModel___married____I_ (fun _ h => h) rfl dX8_isPair_1 ?_
  refine lv_iload_n hx hb dX8_isPair_4 rfl (lv_at hl 1 rfl) ?_
  obtain ⟨c2043, hf⟩ := gd_some hf
  refine fc_iald (n := 5) (f := (v 9)) hx hb hE hP 10 (mW_a10 G a v) (inB_in c2043) dX8_isPair_5 ?_
  refine lv_if_ne (tgt := 31) hx hb dX8_isPair_6 (by decide) (fun c2044 => ?_) (fun c2044 => ?_)
  · have hf := ifF hf c2044
    refine lv_iconst (v := (0 : Int32)) hx hb dX8_isPair_31 (by decide) ?_
    exact fc_retz hx hb hr hlocks hP hS dX8_isPair_32 (by decide) (i1 hf) rfl
  · have hf := ifT hf c2044
    refine lv_aload_n hx hb dX8_isPair_9 rfl (lv_at hl 0 rfl) ?_
    refine fc_get (v := .ref (a 5)) (ci := 5) (C := RX8) (T := TX8) (N := 29) hx hb hwX8 hown hE hP 0 (mW_o G a v) rfl 4 (by decide) hk_fieldLink_RX8_22__BrideNotKnownModel___state____I_ (fun _ h => h) rfl dX8_isPair_10 ?_
    refine lv_iload_n hx hb dX8_isPair_13 rfl (lv_at hl 2 rfl) ?_
    obtain ⟨c2045, hf⟩ := gd_some hf
    refine fc_iald (n := 8) (f := (v 4)) hx hb hE hP 5 (mW_a5 G a v) (inB_in c2045) dX8_isPair_14 ?_
    refine lv_if_ne (tgt := 31) hx hb dX8_isPair_15 (by decide) (fun c2046 => ?_) (fun c2046 => ?_)
    · have hf := ifF hf c2046
      refine lv_iconst (v := (0 : Int32)) hx hb dX8_isPair_31 (by decide) ?_
      exact fc_retz hx hb hr hlocks hP hS dX8_isPair_32 (by decide) (i1 hf) rfl
    · have hf := ifT hf c2046
      refine lv_aload_n hx hb dX8_isPair_18 rfl (lv_at hl 0 rfl) ?_
      refine lv_iload_n hx hb dX8_isPair_19 rfl (lv_at hl 1 rfl) ?_
      obtain ⟨q2047, hq2047, hf⟩ := bnd hf
      refine fc_callV (Wa' := (mW G a v)) (st1 := [.int q2047]) (As := [.int x1]) (rest := []) hCF (k_X8_knows a v x1 hq2047) (cwV 1 hts gX8_isPair_X8_knows rfl rfl rfl ⟨rfl, dk_X8_knows⟩ ⟨Nat.le_of_ble_eq_true rfl, Nat.le_of_ble_eq_true rfl⟩) hE hAB hP hD hS [0, 1, 2, 3, 4, 5, 6, 7, 8, 9, 10, 11, 12, 13, 14, 15, 16, 17, 18, 19, 20, 21, 22, 23, 24] mW_d (mW_c G a v) (va_recv hE.1 hP (ci := 5) (q0 := 0) rfl (mW_o G a v)) (mW_f G a v v) (mW_s G a v v) rfl rfl hl.1 rfl (Nat.le_of_ble_eq_true rfl) dX8_isPair_20 ⟨Nat.le_refl _, Nat.le_refl _⟩ (fun H locs hP hD hS => ?_)
      refine lv_iload_n hx hb dX8_isPair_23 rfl (lv_at hl 2 rfl) ?_
      refine lv_icmp_eq (tgt := 31) hx hb dX8_isPair_24 (by decide) (fun c2048 => ?_) (fun c2048 => ?_)
      · have hf := ifT hf c2048
        refine lv_iconst (v := (0 : Int32)) hx hb dX8_isPair_31 (by decide) ?_
        exact fc_retz hx hb hr hlocks hP hS dX8_isPair_32 (by decide) (i1 hf) rfl
      · have hf := ifF hf c2048
        refine lv_iconst (v := (1 : Int32)) hx hb dX8_isPair_27 (by decide) ?_
        refine lv_goto (tgt := 32) hx hb dX8_isPair_28 (by decide) ?_
        exact fc_retz hx hb hr hlocks hP hS dX8_isPair_32 (by decide) (i1 hf) rfl
theorem dk_X8_findPairsWith : yX8_findPairsWith.cls ≠ "java/lang/invoke/MethodHandle" ∧ yX8_findPairsWith.cls ≠ "java/lang/invoke/VarHandle" ∧ (parseMethodDescriptor yX8_findPairsWith.desc).map (fun d => d.parameters.length) = some 2 := by decide +kernel
theorem iu_X8_findPairsWith_X8 : ∀ w ∈ u_ws RX8 TX8 29, w ∈ wsX8_findPairsWith := by decide +kernel
set_option maxHeartbeats 4000000 in
set_option maxRecDepth 100000 in
theorem k_X8_findPairsWith {l : Launch} {G : Gx} (a : Nat → Nat) (v : St) (x1 : Int32) (x2 : Int32) {v' : St} (hf : f_X8_findPairsWith v x1 x2 = some v') : FC l G yX8_findPairsWith wsX8_findPairsWith ({ frames := 1, cells := 0, slots := 0, locals := 21 } : Room) [.ref (a 0), .int x1, .int x2] (mW G a v) (mW G a v') none := by
  refine fc_head (cc := cX8_findPairsWith) (maxL := 5) (ret := none) (C := RX8) (lv := [(0, .ref (a 0)), (1, .int x1), (2, .int x2)]) (by decide) rfl rfl (Nat.le_of_ble_eq_true rfl) rfl ?_
  intro p e s m below meth c ls A hx hb hr hml hown hts hlocks hE hP hD hAB hS hl
  have hCF : CallFix p m c cX8_findPairsWith 5 s ([.ref (a 0), .int x1, .int x2] : List Value).toArray wsX8_findPairsWith RX8 := ⟨hx, hb, hml, hown, hts⟩
  have hwX8 : ∀ w ∈ u_ws RX8 TX8 29, w.before ([.ref (a 0), .int x1, .int x2] : List Value).toArray s = true := fun w h => hts w (iu_X8_findPairsWith_X8 w h)
  have hk_fieldLink_RX8_57__BrideNotKnownModel___pairsFrom_____I_ := hts (.fieldLink RX8 57 "BrideNotKnownModel" "pairsFrom" "[[I") (List.mem_of_getElem? (i := 1) rfl)
  rw [f_X8_findPairsWith] at hf
  refine lv_iconst (v := (0 : Int32)) hx hb dX8_findPairsWith_0 (by decide) ?_
  refine lv_istore_n (lv' := [(3, .int (0 : Int32)), (0, .ref (a 0)), (1, .int x1), (2, .int x2)]) hx hb dX8_findPairsWith_1 rfl hl (by decide) rfl (fun ls hl => ?_)
  have L2_2052 : ∀ (n : Nat) (x3_2050 : Int32) (v_2051 : St) (H : Heap) (locs : List Loc) (ls : Array Slot), va_P (gD G) vwCl (mW G a v_2051) H → va_D A (mW G a v_2051) → va_S A s.heap H locs → lv_has ls 5 [(0, .ref (a 0)), (1, .int x1), (2, .int x2), (3, .int x3_2050)] → f_X8_findPairsWith_2 x1 x2 n x3_2050 v_2051 = some v' → W p l e (headSpec wsX8_findPairsWith ({ frames := 1, cells := 0, slots := 0, locals := 21 } : Room)).room s m ([.ref (a 0), .int x1, .int x2] : List Value).toArray below meth c H locs 0 0 (MQ below (FQ G A (mW G a v') none) ([.ref (a 0), .int x1, .int x2] : List Value).toArray s 0 0 A) (F0 m 2 ls []) := by
    intro n
    induction n with
    | zero =>
      intro x3_2050 v_2051 H locs ls hP hD hS hl hf
      exact no_some hf
    | succ n ih =>
      intro x3_2050 v_2051 H locs ls hP hD hS hl hf
      rw [f_X8_findPairsWith_2] at hf
      refine lv_iload_n hx hb dX8_findPairsWith_2 rfl (lv_at hl 3 rfl) ?_
      refine lv_sipush (v := (256 : Int32)) hx hb dX8_findPairsWith_3 (by decide) ?_
      refine lv_icmp_ge (tgt := 80) hx hb dX8_findPairsWith_6 (by decide) (fun c2053 => ?_) (fun c2053 => ?_)
      · have hf := ifT hf c2053
        exact fc_retv hx hb hr hlocks hP hS dX8_findPairsWith_80 (congrArg (fun z => (mW G a z)) (i1 hf))
      · have hf := ifF hf c2053
        refine lv_iload_n hx hb dX8_findPairsWith_9 rfl (lv_at hl 3 rfl) ?_
        refine lv_iload_n hx hb dX8_findPairsWith_10 rfl (lv_at hl 2 rfl) ?_
        obtain ⟨q2054, hq2054, hf⟩ := bnd hf
        refine fc_callS (Wa' := (mW G a v_2051)) (st1 := [.int q2054]) (As := [.int x3_2050, .int x2]) (rest := []) hCF (k_X8_has x3_2050 x2 hq2054) (va_cwS 2 hts gX8_findPairsWith_X8_has rfl rfl rfl dk_X8_has ⟨Nat.le_of_ble_eq_true rfl, Nat.le_of_ble_eq_true rfl⟩) hE hAB hP hD hS [] rfl rfl rfl rfl rfl rfl hl.1 rfl (Nat.le_of_ble_eq_true rfl) dX8_findPairsWith_11 ⟨Nat.le_refl _, Nat.le_refl _⟩ (fun H locs hP hD hS => ?_)
        refine lv_if_ne (tgt := 20) hx hb dX8_findPairsWith_14 (by decide) (fun c2055 => ?_) (fun c2055 => ?_)
        · have hf := ifF hf c2055
          refine lv_iconst (v := (1 : Int32)) hx hb dX8_findPairsWith_20 (by decide) ?_
          refine lv_aload_n hx hb dX8_findPairsWith_21 rfl (lv_at hl 0 rfl) ?_
          refine fc_get (v := .ref (a 24)) (ci := 5) (C := RX8) (T := TX8) (N := 29) hx hb hwX8 hown hE hP 0 (mW_o G a v_2051) rfl 24 (by decide) hk_fieldLink_RX8_57__BrideNotKnownModel___pairsFrom_____I_ (fun _ h => h) rfl dX8_findPairsWith_22 ?_
          refine lv_iload_n hx hb dX8_findPairsWith_25 rfl (lv_at hl 1 rfl) ?_
          refine lv_iconst (v := (1 : Int32)) hx hb dX8_findPairsWith_26 (by decide) ?_
          refine lv_iadd hx hb dX8_findPairsWith_27 ?_
          obtain ⟨c2056, hf⟩ := gd_some hf
          refine fc_aald (n := 6) (f := (fun i => if i < 6 then some (a (18 + i)) else none)) (b := (a (18 + (x1 + (1 : Int32)).toNatClampNeg))) hx hb hE hP 24 (mW_g G a v_2051) (inB_in c2056) (if_pos (inB_lt c2056)) dX8_findPairsWith_28 ?_
          refine lv_iload_n hx hb dX8_findPairsWith_29 rfl (lv_at hl 3 rfl) ?_
          refine lv_iconst (v := (1 : Int32)) hx hb dX8_findPairsWith_30 (by decide) ?_
          refine lv_iload_n hx hb dX8_findPairsWith_31 rfl (lv_at hl 2 rfl) ?_
          refine lv_ishl hx hb dX8_findPairsWith_32 ?_
          refine lv_iconst (v := (-1 : Int32)) hx hb dX8_findPairsWith_33 (by decide) ?_
          refine lv_ixor hx hb dX8_findPairsWith_34 ?_
          refine lv_iand hx hb dX8_findPairsWith_35 ?_
          obtain ⟨c2057, hf⟩ := gd_some hf
          refine fc_iald (n := 256) (f := (v_2051 (17 + (x1 + (1 : Int32)).toNatClampNeg))) hx hb hE hP (18 + (x1 + (1 : Int32)).toNatClampNeg) (mW_row G a v_2051 (inB_lt c2056)) (inB_in c2057) dX8_findPairsWith_36 ?_
          refine lv_iadd hx hb dX8_findPairsWith_37 ?_
          refine lv_istore (lv' := [(4, .int ((1 : Int32) + ((v_2051 (17 + (x1 + (1 : Int32)).toNatClampNeg)) (x3_2050 &&& (((1 : Int32) <<< (x2 &&& 31)) ^^^ (-1 : Int32))).toNatClampNeg))), (0, .ref (a 0)), (1, .int x1), (2, .int x2), (3, .int x3_2050)]) hx hb dX8_findPairsWith_38 hl (by decide) rfl (fun ls hl => ?_)
          refine lv_aload_n hx hb dX8_findPairsWith_40 rfl (lv_at hl 1 rfl) ?_
          refine fc_get (v := .ref (a 24)) (ci := 5) (C := RX8) (T := TX8) (N := 29) hx hb hwX8 hown hE hP 0 (mW_o G a v_2051) rfl 24 (by decide) hk_fieldLink_RX8_57__BrideNotKnownModel___pairsFrom_____I_ (fun _ h => h) rfl dX8_findPairsWith_41 ?_
          refine lv_iload_n hx hb dX8_findPairsWith_44 rfl (lv_at hl 2 rfl) ?_
          obtain ⟨c2058, hf⟩ := gd_some hf
          refine fc_aald (n := 6) (f := (fun i => if i < 6 then some (a (18 + i)) else none)) (b := (a (18 + x1.toNatClampNeg))) hx hb hE hP 24 (mW_g G a v_2051) (inB_in c2058) (if_pos (inB_lt c2058)) dX8_findPairsWith_45 ?_
          refine lv_iload_n hx hb dX8_findPairsWith_46 rfl (lv_at hl 4 rfl) ?_
          refine lv_iload hx hb dX8_findPairsWith_47 (lv_at hl 0 rfl) ?_
          refine lv_aload_n hx hb dX8_findPairsWith_49 rfl (lv_at hl 1 rfl) ?_
          refine fc_get (v := .ref (a 24)) (ci := 5) (C := RX8) (T := TX8) (N := 29) hx hb hwX8 hown hE hP 0 (mW_o G a v_2051) rfl 24 (by decide) hk_fieldLink_RX8_57__BrideNotKnownModel___pairsFrom_____I_ (fun _ h => h) rfl dX8_findPairsWith_50 ?_
          refine lv_iload_n hx hb dX8_findPairsWith_53 rfl (lv_at hl 2 rfl) ?_
          obtain ⟨c2059, hf⟩ := gd_some hf
          refine fc_aald (n := 6) (f := (fun i => if i < 6 then some (a (18 + i)) else none)) (b := (a (18 + x1.toNatClampNeg))) hx hb hE hP 24 (mW_g G a v_2051) (inB_in c2059) (if_pos (inB_lt c2059)) dX8_findPairsWith_54 ?_
          refine lv_iload_n hx hb dX8_findPairsWith_55 rfl (lv_at hl 4 rfl) ?_
          obtain ⟨c2060, hf⟩ := gd_some hf
          refine fc_iald (n := 256) (f := (v_2051 (17 + x1.toNatClampNeg))) hx hb hE hP (18 + x1.toNatClampNeg) (mW_row G a v_2051 (inB_lt c2059)) (inB_in c2060) dX8_findPairsWith_56 ?_
          refine lv_icmp_le (tgt := 65) hx hb dX8_findPairsWith_57 (by decide) (fun c2061 => ?_) (fun c2061 => ?_)
          · have hf := ifT hf c2061
            refine lv_aload_n hx hb dX8_findPairsWith_65 rfl (lv_at hl 1 rfl) ?_
            refine fc_get (v := .ref (a 24)) (ci := 5) (C := RX8) (T := TX8) (N := 29) hx hb hwX8 hown hE hP 0 (mW_o G a v_2051) rfl 24 (by decide) hk_fieldLink_RX8_57__BrideNotKnownModel___pairsFrom_____I_ (fun _ h => h) rfl dX8_findPairsWith_66 ?_
            refine lv_iload_n hx hb dX8_findPairsWith_69 rfl (lv_at hl 2 rfl) ?_
            obtain ⟨c2062, hf⟩ := gd_some hf
            refine fc_aald (n := 6) (f := (fun i => if i < 6 then some (a (18 + i)) else none)) (b := (a (18 + x1.toNatClampNeg))) hx hb hE hP 24 (mW_g G a v_2051) (inB_in c2062) (if_pos (inB_lt c2062)) dX8_findPairsWith_70 ?_
            refine lv_iload_n hx hb dX8_findPairsWith_71 rfl (lv_at hl 4 rfl) ?_
            obtain ⟨c2063, hf⟩ := gd_some hf
            refine fc_iald (n := 256) (f := (v_2051 (17 + x1.toNatClampNeg))) hx hb hE hP (18 + x1.toNatClampNeg) (mW_row G a v_2051 (inB_lt c2062)) (inB_in c2063) dX8_findPairsWith_72 ?_
            obtain ⟨c2064, hf⟩ := gd_some hf
            refine fc_iast (n := 256) (f := (v_2051 (17 + x1.toNatClampNeg))) (Wa' := (mW G a (sA v_2051 (17 + x1.toNatClampNeg) (upd (v_2051 (17 + x1.toNatClampNeg)) x3_2050.toNatClampNeg ((v_2051 (17 + x1.toNatClampNeg)) x3_2050.toNatClampNeg))))) hx hb hE hP hD hS (18 + x1.toNatClampNeg) (mW_row G a v_2051 (inB_lt c2058)) (inB_in c2064) dX8_findPairsWith_73 (mW_rset G a v_2051 _ (inB_lt c2058)) (fun H locs hP hD hS => ?_)
            refine lv_iinc (v := (x3_2050 + (1 : Int32))) (lv' := [(3, .int (x3_2050 + (1 : Int32))), (4, .int ((1 : Int32) + ((v_2051 (17 + (x1 + (1 : Int32)).toNatClampNeg)) (x3_2050 &&& (((1 : Int32) <<< (x2 &&& 31)) ^^^ (-1 : Int32))).toNatClampNeg))), (0, .ref (a 0)), (1, .int x1), (2, .int x2)]) hx hb dX8_findPairsWith_74 hl (k := 4) rfl rfl (by decide) rfl (fun ls hl => ?_)
            refine lv_goto (tgt := 2) hx hb dX8_findPairsWith_77 (by decide) ?_
            exact ih (x3_2050 + (1 : Int32)) (sA v_2051 (17 + x1.toNatClampNeg) (upd (v_2051 (17 + x1.toNatClampNeg)) x3_2050.toNatClampNeg ((v_2051 (17 + x1.toNatClampNeg)) x3_2050.toNatClampNeg))) _ _ _ hP hD hS (lv_sub hl [2, 3, 4, 0] rfl) hf
          · have hf := ifF hf c2061
            refine lv_iload hx hb dX8_findPairsWith_60 (lv_at hl 0 rfl) ?_
            refine lv_goto (tgt := 73) hx hb dX8_findPairsWith_62 (by decide) ?_
            obtain ⟨c2065, hf⟩ := gd_some hf
            refine fc_iast (n := 256) (f := (v_2051 (17 + x1.toNatClampNeg))) (Wa' := (mW G a (sA v_2051 (17 + x1.toNatClampNeg) (upd (v_2051 (17 + x1.toNatClampNeg)) x3_2050.toNatClampNeg ((1 : Int32) + ((v_2051 (17 + (x1 + (1 : Int32)).toNatClampNeg)) (x3_2050 &&& (((1 : Int32) <<< (x2 &&& 31)) ^^^ (-1 : Int32))).toNatClampNeg)))))) hx hb hE hP hD hS (18 + x1.toNatClampNeg) (mW_row G a v_2051 (inB_lt c2058)) (inB_in c2065) dX8_findPairsWith_73 (mW_rset G a v_2051 _ (inB_lt c2058)) (fun H locs hP hD hS => ?_)
            refine lv_iinc (v := (x3_2050 + (1 : Int32))) (lv' := [(3, .int (x3_2050 + (1 : Int32))), (4, .int ((1 : Int32) + ((v_2051 (17 + (x1 + (1 : Int32)).toNatClampNeg)) (x3_2050 &&& (((1 : Int32) <<< (x2 &&& 31)) ^^^ (-1 : Int32))).toNatClampNeg))), (0, .ref (a 0)), (1, .int x1), (2, .int x2)]) hx hb dX8_findPairsWith_74 hl (k := 4) rfl rfl (by decide) rfl (fun ls hl => ?_)
            refine lv_goto (tgt := 2) hx hb dX8_findPairsWith_77 (by decide) ?_
            exact ih (x3_2050 + (1 : Int32)) (sA v_2051 (17 + x1.toNatClampNeg) (upd (v_2051 (17 + x1.toNatClampNeg)) x3_2050.toNatClampNeg ((1 : Int32) + ((v_2051 (17 + (x1 + (1 : Int32)).toNatClampNeg)) (x3_2050 &&& (((1 : Int32) <<< (x2 &&& 31)) ^^^ (-1 : Int32))).toNatClampNeg)))) _ _ _ hP hD hS (lv_sub hl [2, 3, 4, 0] rfl) hf
        · have hf := ifT hf c2055
          refine lv_goto (tgt := 74) hx hb dX8_findPairsWith_17 (by decide) ?_
          refine lv_iinc (v := (x3_2050 + (1 : Int32))) (lv' := [(3, .int (x3_2050 + (1 : Int32))), (0, .ref (a 0)), (1, .int x1), (2, .int x2)]) hx hb dX8_findPairsWith_74 hl (k := 3) rfl rfl (by decide) rfl (fun ls hl => ?_)
          refine lv_goto (tgt := 2) hx hb dX8_findPairsWith_77 (by decide) ?_
          exact ih (x3_2050 + (1 : Int32)) v_2051 _ _ _ hP hD hS (lv_sub hl [1, 2, 3, 0] rfl) hf
  exact L2_2052 FUEL (0 : Int32) v _ _ _ hP hD hS (lv_sub hl [1, 2, 3, 0] rfl) hf
theorem dk_X8_findPairs : yX8_findPairs.cls ≠ "java/lang/invoke/MethodHandle" ∧ yX8_findPairs.cls ≠ "java/lang/invoke/VarHandle" ∧ (parseMethodDescriptor yX8_findPairs.desc).map (fun d => d.parameters.length) = some 0 := by decide +kernel
theorem iu_X8_findPairs_X8 : ∀ w ∈ u_ws RX8 TX8 29, w ∈ wsX8_findPairs := by decide +kernel
set_option maxHeartbeats 4000000 in
set_option maxRecDepth 100000 in
theorem k_X8_findPairs {l : Launch} {G : Gx} (a : Nat → Nat) (v : St) {v' : St} (hf : f_X8_findPairs v = some v') : FC l G yX8_findPairs wsX8_findPairs ({ frames := 6, cells := 0, slots := 0, locals := 133 } : Room) [.ref (a 0)] (mW G a v) (mW G a v') none := by
  refine fc_head (cc := cX8_findPairs) (maxL := 3) (ret := none) (C := RX8) (lv := [(0, .ref (a 0))]) (by decide) rfl rfl (Nat.le_of_ble_eq_true rfl) rfl ?_
  intro p e s m below meth c ls A hx hb hr hml hown hts hlocks hE hP hD hAB hS hl
  have hCF : CallFix p m c cX8_findPairs 3 s ([.ref (a 0)] : List Value).toArray wsX8_findPairs RX8 := ⟨hx, hb, hml, hown, hts⟩
  have hwX8 : ∀ w ∈ u_ws RX8 TX8 29, w.before ([.ref (a 0)] : List Value).toArray s = true := fun w h => hts w (iu_X8_findPairs_X8 w h)
  have hk_fieldLink_RX8_57__BrideNotKnownModel___pairsFrom_____I_ := hts (.fieldLink RX8 57 "BrideNotKnownModel" "pairsFrom" "[[I") (List.mem_of_getElem? (i := 1) rfl)
  have hk_fieldLink_RX8_76__BrideNotKnownModel___grooms___I_ := hts (.fieldLink RX8 76 "BrideNotKnownModel" "grooms" "I") (List.mem_of_getElem? (i := 2) rfl)
  have hk_fieldLink_RX8_66__BrideNotKnownModel___brides___I_ := hts (.fieldLink RX8 66 "BrideNotKnownModel" "brides" "I") (List.mem_of_getElem? (i := 3) rfl)
  rw [f_X8_findPairs] at hf
  refine lv_iconst (v := (0 : Int32)) hx hb dX8_findPairs_0 (by decide) ?_
  refine lv_istore_n (lv' := [(1, .int (0 : Int32)), (0, .ref (a 0))]) hx hb dX8_findPairs_1 rfl hl (by decide) rfl (fun ls hl => ?_)
  have L2_2073 : ∀ (K2_27 : St → Option (St)) (hK2_27 : ∀ (v_2074 : St) (H : Heap) (locs : List Loc) (ls : Array Slot), va_P (gD G) vwCl (mW G a v_2074) H → va_D A (mW G a v_2074) → va_S A s.heap H locs → lv_has ls 3 [(0, .ref (a 0))] → K2_27 v_2074 = some v' → W p l e (headSpec wsX8_findPairs ({ frames := 6, cells := 0, slots := 0, locals := 133 } : Room)).room s m ([.ref (a 0)] : List Value).toArray below meth c H locs 0 0 (MQ below (FQ G A (mW G a v') none) ([.ref (a 0)] : List Value).toArray s 0 0 A) (F0 m 27 ls [])) (n : Nat) (x1_2071 : Int32) (v_2072 : St) (H : Heap) (locs : List Loc) (ls : Array Slot), va_P (gD G) vwCl (mW G a v_2072) H → va_D A (mW G a v_2072) → va_S A s.heap H locs → lv_has ls 3 [(0, .ref (a 0)), (1, .int x1_2071)] → f_X8_findPairs_2 n x1_2071 v_2072 K2_27 = some v' → W p l e (headSpec wsX8_findPairs ({ frames := 6, cells := 0, slots := 0, locals := 133 } : Room)).room s m ([.ref (a 0)] : List Value).toArray below meth c H locs 0 0 (MQ below (FQ G A (mW G a v') none) ([.ref (a 0)] : List Value).toArray s 0 0 A) (F0 m 2 ls []) := by
    intro K2_27 hK2_27 n
    induction n with
    | zero =>
      intro x1_2071 v_2072 H locs ls hP hD hS hl hf
      exact no_some hf
    | succ n ih =>
      intro x1_2071 v_2072 H locs ls hP hD hS hl hf
      rw [f_X8_findPairs_2] at hf
      refine lv_iload_n hx hb dX8_findPairs_2 rfl (lv_at hl 1 rfl) ?_
      refine lv_sipush (v := (256 : Int32)) hx hb dX8_findPairs_3 (by decide) ?_
      refine lv_icmp_ge (tgt := 27) hx hb dX8_findPairs_6 (by decide) (fun c2075 => ?_) (fun c2075 => ?_)
      · have hf := ifT hf c2075
        exact hK2_27 v_2072 _ _ _ hP hD hS (lv_sub hl [0] rfl) hf
      · have hf := ifF hf c2075
        refine lv_aload_n hx hb dX8_findPairs_9 rfl (lv_at hl 0 rfl) ?_
        refine fc_get (v := .ref (a 24)) (ci := 5) (C := RX8) (T := TX8) (N := 29) hx hb hwX8 hown hE hP 0 (mW_o G a v_2072) rfl 24 (by decide) hk_fieldLink_RX8_57__BrideNotKnownModel___pairsFrom_____I_ (fun _ h => h) rfl dX8_findPairs_10 ?_
        refine lv_aload_n hx hb dX8_findPairs_13 rfl (lv_at hl 0 rfl) ?_
        refine fc_get (v := .int (v_2072 23 1)) (ci := 5) (C := RX8) (T := TX8) (N := 29) hx hb hwX8 hown hE hP 0 (mW_o G a v_2072) rfl 11 (by decide) hk_fieldLink_RX8_76__BrideNotKnownModel___grooms___I_ (fun _ h => h) rfl dX8_findPairs_14 ?_
        obtain ⟨c2076, hf⟩ := gd_some hf
        refine fc_aald (n := 6) (f := (fun i => if i < 6 then some (a (18 + i)) else none)) (b := (a (18 + (v_2072 23 1).toNatClampNeg))) hx hb hE hP 24 (mW_g G a v_2072) (inB_in c2076) (if_pos (inB_lt c2076)) dX8_findPairs_17 ?_
        refine lv_iload_n hx hb dX8_findPairs_18 rfl (lv_at hl 1 rfl) ?_
        refine lv_iconst (v := (0 : Int32)) hx hb dX8_findPairs_19 (by decide) ?_
        obtain ⟨c2077, hf⟩ := gd_some hf
        refine fc_iast (n := 256) (f := (v_2072 (17 + (v_2072 23 1).toNatClampNeg))) (Wa' := (mW G a (sA v_2072 (17 + (v_2072 23 1).toNatClampNeg) (upd (v_2072 (17 + (v_2072 23 1).toNatClampNeg)) x1_2071.toNatClampNeg (0 : Int32))))) hx hb hE hP hD hS (18 + (v_2072 23 1).toNatClampNeg) (mW_row G a v_2072 (inB_lt c2076)) (inB_in c2077) dX8_findPairs_20 (mW_rset G a v_2072 _ (inB_lt c2076)) (fun H locs hP hD hS => ?_)
        refine lv_iinc (v := (x1_2071 + (1 : Int32))) (lv' := [(1, .int (x1_2071 + (1 : Int32))), (0, .ref (a 0))]) hx hb dX8_findPairs_21 hl (k := 1) rfl rfl (by decide) rfl (fun ls hl => ?_)
        refine lv_goto (tgt := 2) hx hb dX8_findPairs_24 (by decide) ?_
        exact ih (x1_2071 + (1 : Int32)) (sA v_2072 (17 + (v_2072 23 1).toNatClampNeg) (upd (v_2072 (17 + (v_2072 23 1).toNatClampNeg)) x1_2071.toNatClampNeg (0 : Int32))) _ _ _ hP hD hS (lv_sub hl [1, 0] rfl) hf
  refine L2_2073 _ ?_ FUEL (0 : Int32) v _ _ _ hP hD hS (lv_sub hl [1, 0] rfl) hf
  intro v_2078 H locs ls hP hD hS hl hf
  refine lv_aload_n hx hb dX8_findPairs_27 rfl (lv_at hl 0 rfl) ?_
  refine fc_get (v := .int (v_2078 23 1)) (ci := 5) (C := RX8) (T := TX8) (N := 29) hx hb hwX8 hown hE hP 0 (mW_o G a v_2078) rfl 11 (by decide) hk_fieldLink_RX8_76__BrideNotKnownModel___grooms___I_ (fun _ h => h) rfl dX8_findPairs_28 ?_
  refine lv_iconst (v := (1 : Int32)) hx hb dX8_findPairs_31 (by decide) ?_
  refine lv_isub hx hb dX8_findPairs_32 ?_
  refine lv_istore_n (lv' := [(1, .int ((v_2078 23 1) - (1 : Int32))), (0, .ref (a 0))]) hx hb dX8_findPairs_33 rfl hl (by decide) rfl (fun ls hl => ?_)
  have L34_2081 : ∀ (n : Nat) (x1_2079 : Int32) (v_2080 : St) (H : Heap) (locs : List Loc) (ls : Array Slot), va_P (gD G) vwCl (mW G a v_2080) H → va_D A (mW G a v_2080) → va_S A s.heap H locs → lv_has ls 3 [(0, .ref (a 0)), (1, .int x1_2079)] → f_X8_findPairs_34 n x1_2079 v_2080 = some v' → W p l e (headSpec wsX8_findPairs ({ frames := 6, cells := 0, slots := 0, locals := 133 } : Room)).room s m ([.ref (a 0)] : List Value).toArray below meth c H locs 0 0 (MQ below (FQ G A (mW G a v') none) ([.ref (a 0)] : List Value).toArray s 0 0 A) (F0 m 34 ls []) := by
    intro n
    induction n with
    | zero =>
      intro x1_2079 v_2080 H locs ls hP hD hS hl hf
      exact no_some hf
    | succ n ih =>
      intro x1_2079 v_2080 H locs ls hP hD hS hl hf
      rw [f_X8_findPairs_34] at hf
      refine lv_iload_n hx hb dX8_findPairs_34 rfl (lv_at hl 1 rfl) ?_
      refine lv_if_lt (tgt := 108) hx hb dX8_findPairs_35 (by decide) (fun c2082 => ?_) (fun c2082 => ?_)
      · have hf := ifT hf c2082
        exact fc_retv hx hb hr hlocks hP hS dX8_findPairs_108 (congrArg (fun z => (mW G a z)) (i1 hf))
      · have hf := ifF hf c2082
        refine lv_iconst (v := (0 : Int32)) hx hb dX8_findPairs_38 (by decide) ?_
        refine lv_istore_n (lv' := [(2, .int (0 : Int32)), (0, .ref (a 0)), (1, .int x1_2079)]) hx hb dX8_findPairs_39 rfl hl (by decide) rfl (fun ls hl => ?_)
        have L40_2085 : ∀ (K40_71 : St → Option (St)) (hK40_71 : ∀ (v_2086 : St) (H : Heap) (locs : List Loc) (ls : Array Slot), va_P (gD G) vwCl (mW G a v_2086) H → va_D A (mW G a v_2086) → va_S A s.heap H locs → lv_has ls 3 [(0, .ref (a 0)), (1, .int x1_2079)] → K40_71 v_2086 = some v' → W p l e (headSpec wsX8_findPairs ({ frames := 6, cells := 0, slots := 0, locals := 133 } : Room)).room s m ([.ref (a 0)] : List Value).toArray below meth c H locs 0 0 (MQ below (FQ G A (mW G a v') none) ([.ref (a 0)] : List Value).toArray s 0 0 A) (F0 m 71 ls [])) (n : Nat) (x2_2083 : Int32) (v_2084 : St) (H : Heap) (locs : List Loc) (ls : Array Slot), va_P (gD G) vwCl (mW G a v_2084) H → va_D A (mW G a v_2084) → va_S A s.heap H locs → lv_has ls 3 [(0, .ref (a 0)), (1, .int x1_2079), (2, .int x2_2083)] → f_X8_findPairs_40 x1_2079 n x2_2083 v_2084 K40_71 = some v' → W p l e (headSpec wsX8_findPairs ({ frames := 6, cells := 0, slots := 0, locals := 133 } : Room)).room s m ([.ref (a 0)] : List Value).toArray below meth c H locs 0 0 (MQ below (FQ G A (mW G a v') none) ([.ref (a 0)] : List Value).toArray s 0 0 A) (F0 m 40 ls []) := by
          intro K40_71 hK40_71 n
          induction n with
          | zero =>
            intro x2_2083 v_2084 H locs ls hP hD hS hl hf
            exact no_some hf
          | succ n ih =>
            intro x2_2083 v_2084 H locs ls hP hD hS hl hf
            rw [f_X8_findPairs_40] at hf
            refine lv_iload_n hx hb dX8_findPairs_40 rfl (lv_at hl 2 rfl) ?_
            refine lv_sipush (v := (256 : Int32)) hx hb dX8_findPairs_41 (by decide) ?_
            refine lv_icmp_ge (tgt := 71) hx hb dX8_findPairs_44 (by decide) (fun c2087 => ?_) (fun c2087 => ?_)
            · have hf := ifT hf c2087
              exact hK40_71 v_2084 _ _ _ hP hD hS (lv_sub hl [0, 1] rfl) hf
            · have hf := ifF hf c2087
              refine lv_aload_n hx hb dX8_findPairs_47 rfl (lv_at hl 0 rfl) ?_
              refine fc_get (v := .ref (a 24)) (ci := 5) (C := RX8) (T := TX8) (N := 29) hx hb hwX8 hown hE hP 0 (mW_o G a v_2084) rfl 24 (by decide) hk_fieldLink_RX8_57__BrideNotKnownModel___pairsFrom_____I_ (fun _ h => h) rfl dX8_findPairs_48 ?_
              refine lv_iload_n hx hb dX8_findPairs_51 rfl (lv_at hl 1 rfl) ?_
              obtain ⟨c2088, hf⟩ := gd_some hf
              refine fc_aald (n := 6) (f := (fun i => if i < 6 then some (a (18 + i)) else none)) (b := (a (18 + x1_2079.toNatClampNeg))) hx hb hE hP 24 (mW_g G a v_2084) (inB_in c2088) (if_pos (inB_lt c2088)) dX8_findPairs_52 ?_
              refine lv_iload_n hx hb dX8_findPairs_53 rfl (lv_at hl 2 rfl) ?_
              refine lv_aload_n hx hb dX8_findPairs_54 rfl (lv_at hl 0 rfl) ?_
              refine fc_get (v := .ref (a 24)) (ci := 5) (C := RX8) (T := TX8) (N := 29) hx hb hwX8 hown hE hP 0 (mW_o G a v_2084) rfl 24 (by decide) hk_fieldLink_RX8_57__BrideNotKnownModel___pairsFrom_____I_ (fun _ h => h) rfl dX8_findPairs_55 ?_
              refine lv_iload_n hx hb dX8_findPairs_58 rfl (lv_at hl 1 rfl) ?_
              refine lv_iconst (v := (1 : Int32)) hx hb dX8_findPairs_59 (by decide) ?_
              refine lv_iadd hx hb dX8_findPairs_60 ?_
              obtain ⟨c2089, hf⟩ := gd_some hf
              refine fc_aald (n := 6) (f := (fun i => if i < 6 then some (a (18 + i)) else none)) (b := (a (18 + (x1_2079 + (1 : Int32)).toNatClampNeg))) hx hb hE hP 24 (mW_g G a v_2084) (inB_in c2089) (if_pos (inB_lt c2089)) dX8_findPairs_61 ?_
              refine lv_iload_n hx hb dX8_findPairs_62 rfl (lv_at hl 2 rfl) ?_
              obtain ⟨c2090, hf⟩ := gd_some hf
              refine fc_iald (n := 256) (f := (v_2084 (17 + (x1_2079 + (1 : Int32)).toNatClampNeg))) hx hb hE hP (18 + (x1_2079 + (1 : Int32)).toNatClampNeg) (mW_row G a v_2084 (inB_lt c2089)) (inB_in c2090) dX8_findPairs_63 ?_
              obtain ⟨c2091, hf⟩ := gd_some hf
              refine fc_iast (n := 256) (f := (v_2084 (17 + x1_2079.toNatClampNeg))) (Wa' := (mW G a (sA v_2084 (17 + x1_2079.toNatClampNeg) (upd (v_2084 (17 + x1_2079.toNatClampNeg)) x2_2083.toNatClampNeg ((v_2084 (17 + (x1_2079 + (1 : Int32)).toNatClampNeg)) x2_2083.toNatClampNeg))))) hx hb hE hP hD hS (18 + x1_2079.toNatClampNeg) (mW_row G a v_2084 (inB_lt c2088)) (inB_in c2091) dX8_findPairs_64 (mW_rset G a v_2084 _ (inB_lt c2088)) (fun H locs hP hD hS => ?_)
              refine lv_iinc (v := (x2_2083 + (1 : Int32))) (lv' := [(2, .int (x2_2083 + (1 : Int32))), (0, .ref (a 0)), (1, .int x1_2079)]) hx hb dX8_findPairs_65 hl (k := 2) rfl rfl (by decide) rfl (fun ls hl => ?_)
              refine lv_goto (tgt := 40) hx hb dX8_findPairs_68 (by decide) ?_
              exact ih (x2_2083 + (1 : Int32)) (sA v_2084 (17 + x1_2079.toNatClampNeg) (upd (v_2084 (17 + x1_2079.toNatClampNeg)) x2_2083.toNatClampNeg ((v_2084 (17 + (x1_2079 + (1 : Int32)).toNatClampNeg)) x2_2083.toNatClampNeg))) _ _ _ hP hD hS (lv_sub hl [1, 2, 0] rfl) hf
        refine L40_2085 _ ?_ FUEL (0 : Int32) v_2080 _ _ _ hP hD hS (lv_sub hl [1, 2, 0] rfl) hf
        intro v_2092 H locs ls hP hD hS hl hf
        refine lv_iconst (v := (0 : Int32)) hx hb dX8_findPairs_71 (by decide) ?_
        refine lv_istore_n (lv' := [(2, .int (0 : Int32)), (0, .ref (a 0)), (1, .int x1_2079)]) hx hb dX8_findPairs_72 rfl hl (by decide) rfl (fun ls hl => ?_)
        have L73_2095 : ∀ (K73_102 : St → Option (St)) (hK73_102 : ∀ (v_2096 : St) (H : Heap) (locs : List Loc) (ls : Array Slot), va_P (gD G) vwCl (mW G a v_2096) H → va_D A (mW G a v_2096) → va_S A s.heap H locs → lv_has ls 3 [(0, .ref (a 0)), (1, .int x1_2079)] → K73_102 v_2096 = some v' → W p l e (headSpec wsX8_findPairs ({ frames := 6, cells := 0, slots := 0, locals := 133 } : Room)).room s m ([.ref (a 0)] : List Value).toArray below meth c H locs 0 0 (MQ below (FQ G A (mW G a v') none) ([.ref (a 0)] : List Value).toArray s 0 0 A) (F0 m 102 ls [])) (n : Nat) (x2_2093 : Int32) (v_2094 : St) (H : Heap) (locs : List Loc) (ls : Array Slot), va_P (gD G) vwCl (mW G a v_2094) H → va_D A (mW G a v_2094) → va_S A s.heap H locs → lv_has ls 3 [(0, .ref (a 0)), (1, .int x1_2079), (2, .int x2_2093)] → f_X8_findPairs_73 x1_2079 n x2_2093 v_2094 K73_102 = some v' → W p l e (headSpec wsX8_findPairs ({ frames := 6, cells := 0, slots := 0, locals := 133 } : Room)).room s m ([.ref (a 0)] : List Value).toArray below meth c H locs 0 0 (MQ below (FQ G A (mW G a v') none) ([.ref (a 0)] : List Value).toArray s 0 0 A) (F0 m 73 ls []) := by
          intro K73_102 hK73_102 n
          induction n with
          | zero =>
            intro x2_2093 v_2094 H locs ls hP hD hS hl hf
            exact no_some hf
          | succ n ih =>
            intro x2_2093 v_2094 H locs ls hP hD hS hl hf
            rw [f_X8_findPairs_73] at hf
            refine lv_iload_n hx hb dX8_findPairs_73 rfl (lv_at hl 2 rfl) ?_
            refine lv_aload_n hx hb dX8_findPairs_74 rfl (lv_at hl 0 rfl) ?_
            refine fc_get (v := .int (v_2094 23 0)) (ci := 5) (C := RX8) (T := TX8) (N := 29) hx hb hwX8 hown hE hP 0 (mW_o G a v_2094) rfl 10 (by decide) hk_fieldLink_RX8_66__BrideNotKnownModel___brides___I_ (fun _ h => h) rfl dX8_findPairs_75 ?_
            refine lv_icmp_ge (tgt := 102) hx hb dX8_findPairs_78 (by decide) (fun c2097 => ?_) (fun c2097 => ?_)
            · have hf := ifT hf c2097
              exact hK73_102 v_2094 _ _ _ hP hD hS (lv_sub hl [0, 1] rfl) hf
            · have hf := ifF hf c2097
              refine lv_aload_n hx hb dX8_findPairs_81 rfl (lv_at hl 0 rfl) ?_
              refine lv_iload_n hx hb dX8_findPairs_82 rfl (lv_at hl 1 rfl) ?_
              refine lv_iload_n hx hb dX8_findPairs_83 rfl (lv_at hl 2 rfl) ?_
              obtain ⟨q2098, hq2098, hf⟩ := bnd hf
              refine fc_callV (Wa' := (mW G a v_2094)) (st1 := [.int q2098]) (As := [.int x1_2079, .int x2_2093]) (rest := []) hCF (k_X8_isPair a v_2094 x1_2079 x2_2093 hq2098) (cwV 2 hts gX8_findPairs_X8_isPair rfl rfl rfl ⟨rfl, dk_X8_isPair⟩ ⟨Nat.le_of_ble_eq_true rfl, Nat.le_of_ble_eq_true rfl⟩) hE hAB hP hD hS [0, 1, 2, 3, 4, 5, 6, 7, 8, 9, 10, 11, 12, 13, 14, 15, 16, 17, 18, 19, 20, 21, 22, 23, 24] mW_d (mW_c G a v_2094) (va_recv hE.1 hP (ci := 5) (q0 := 0) rfl (mW_o G a v_2094)) (mW_f G a v_2094 v_2094) (mW_s G a v_2094 v_2094) rfl rfl hl.1 rfl (Nat.le_of_ble_eq_true rfl) dX8_findPairs_84 ⟨Nat.le_refl _, Nat.le_refl _⟩ (fun H locs hP hD hS => ?_)
              refine lv_if_eq (tgt := 96) hx hb dX8_findPairs_87 (by decide) (fun c2099 => ?_) (fun c2099 => ?_)
              · have hf := ifT hf c2099
                refine lv_iinc (v := (x2_2093 + (1 : Int32))) (lv' := [(2, .int (x2_2093 + (1 : Int32))), (0, .ref (a 0)), (1, .int x1_2079)]) hx hb dX8_findPairs_96 hl (k := 2) rfl rfl (by decide) rfl (fun ls hl => ?_)
                refine lv_goto (tgt := 73) hx hb dX8_findPairs_99 (by decide) ?_
                exact ih (x2_2093 + (1 : Int32)) v_2094 _ _ _ hP hD hS (lv_sub hl [1, 2, 0] rfl) hf
              · have hf := ifF hf c2099
                refine lv_aload_n hx hb dX8_findPairs_90 rfl (lv_at hl 0 rfl) ?_
                refine lv_iload_n hx hb dX8_findPairs_91 rfl (lv_at hl 1 rfl) ?_
                refine lv_iload_n hx hb dX8_findPairs_92 rfl (lv_at hl 2 rfl) ?_
                obtain ⟨q2100, hq2100, hf⟩ := bnd hf
                refine fc_callV (Wa' := (mW G a q2100)) (st1 := []) (As := [.int x1_2079, .int x2_2093]) (rest := []) hCF (k_X8_findPairsWith a v_2094 x1_2079 x2_2093 hq2100) (cwV 2 hts gX8_findPairs_X8_findPairsWith rfl rfl rfl ⟨rfl, dk_X8_findPairsWith⟩ ⟨Nat.le_of_ble_eq_true rfl, Nat.le_of_ble_eq_true rfl⟩) hE hAB hP hD hS [0, 1, 2, 3, 4, 5, 6, 7, 8, 9, 10, 11, 12, 13, 14, 15, 16, 17, 18, 19, 20, 21, 22, 23, 24] mW_d (mW_c G a v_2094) (va_recv hE.1 hP (ci := 5) (q0 := 0) rfl (mW_o G a v_2094)) (mW_f G a v_2094 q2100) (mW_s G a v_2094 q2100) rfl rfl hl.1 rfl (Nat.le_of_ble_eq_true rfl) dX8_findPairs_93 ⟨Nat.le_refl _, Nat.le_refl _⟩ (fun H locs hP hD hS => ?_)
                refine lv_iinc (v := (x2_2093 + (1 : Int32))) (lv' := [(2, .int (x2_2093 + (1 : Int32))), (0, .ref (a 0)), (1, .int x1_2079)]) hx hb dX8_findPairs_96 hl (k := 2) rfl rfl (by decide) rfl (fun ls hl => ?_)
                refine lv_goto (tgt := 73) hx hb dX8_findPairs_99 (by decide) ?_
                exact ih (x2_2093 + (1 : Int32)) q2100 _ _ _ hP hD hS (lv_sub hl [1, 2, 0] rfl) hf
        refine L73_2095 _ ?_ FUEL (0 : Int32) v_2092 _ _ _ hP hD hS (lv_sub hl [1, 2, 0] rfl) hf
        intro v_2101 H locs ls hP hD hS hl hf
        refine lv_iinc (v := (x1_2079 + (-1 : Int32))) (lv' := [(1, .int (x1_2079 + (-1 : Int32))), (0, .ref (a 0))]) hx hb dX8_findPairs_102 hl (k := 1) rfl rfl (by decide) rfl (fun ls hl => ?_)
        refine lv_goto (tgt := 34) hx hb dX8_findPairs_105 (by decide) ?_
        exact ih (x1_2079 + (-1 : Int32)) v_2101 _ _ _ hP hD hS (lv_sub hl [1, 0] rfl) hf
  exact L34_2081 FUEL ((v_2078 23 1) - (1 : Int32)) v_2078 _ _ _ hP hD hS (lv_sub hl [1, 0] rfl) hf
theorem dk_X8_forget : yX8_forget.cls ≠ "java/lang/invoke/MethodHandle" ∧ yX8_forget.cls ≠ "java/lang/invoke/VarHandle" ∧ (parseMethodDescriptor yX8_forget.desc).map (fun d => d.parameters.length) = some 1 := by decide +kernel
theorem iu_X8_forget_X8 : ∀ w ∈ u_ws RX8 TX8 29, w ∈ wsX8_forget := by decide +kernel
set_option maxHeartbeats 4000000 in
set_option maxRecDepth 100000 in
theorem k_X8_forget {l : Launch} {G : Gx} (a : Nat → Nat) (v : St) (x1 : Int32) {r : Int32} {v' : St} (hf : f_X8_forget v x1 = some (r, v')) : FC l G yX8_forget wsX8_forget ({ frames := 3, cells := 0, slots := 0, locals := 68 } : Room) [.ref (a 0), .int x1] (mW G a v) (mW G a v') (some (.int r)) := by
  refine fc_head (cc := cX8_forget) (maxL := 5) (ret := (some .int)) (C := RX8) (lv := [(0, .ref (a 0)), (1, .int x1)]) (by decide) rfl rfl (Nat.le_of_ble_eq_true rfl) rfl ?_
  intro p e s m below meth c ls A hx hb hr hml hown hts hlocks hE hP hD hAB hS hl
  have hCF : CallFix p m c cX8_forget 5 s ([.ref (a 0), .int x1] : List Value).toArray wsX8_forget RX8 := ⟨hx, hb, hml, hown, hts⟩
  have hwX8 : ∀ w ∈ u_ws RX8 TX8 29, w.before ([.ref (a 0), .int x1] : List Value).toArray s = true := fun w h => hts w (iu_X8_forget_X8 w h)
  have hk_fieldLink_RX8_28__BrideNotKnownModel___looks____I_ := hts (.fieldLink RX8 28 "BrideNotKnownModel" "looks" "[I") (List.mem_of_getElem? (i := 2) rfl)
  have hk_fieldLink_RX8_31__BrideNotKnownModel___mind____I_ := hts (.fieldLink RX8 31 "BrideNotKnownModel" "mind" "[I") (List.mem_of_getElem? (i := 3) rfl)
  have hk_fieldLink_RX8_37__BrideNotKnownModel___married____I_ := hts (.fieldLink RX8 37 "BrideNotKnownModel" "married" "[I") (List.mem_of_getElem? (i := 1) rfl)
  rw [f_X8_forget] at hf
  refine lv_aload_n hx hb dX8_forget_0 rfl (lv_at hl 0 rfl) ?_
  refine lv_iload_n hx hb dX8_forget_1 rfl (lv_at hl 1 rfl) ?_
  obtain ⟨q2112, hq2112, hf⟩ := bnd hf
  refine fc_callV (Wa' := (mW G a v)) (st1 := [.int q2112]) (As := [.int x1]) (rest := []) hCF (k_X8_isGroom a v x1 hq2112) (cwV 1 hts gX8_forget_X8_isGroom rfl rfl rfl ⟨rfl, dk_X8_isGroom⟩ ⟨Nat.le_of_ble_eq_true rfl, Nat.le_of_ble_eq_true rfl⟩) hE hAB hP hD hS [0, 1, 2, 3, 4, 5, 6, 7, 8, 9, 10, 11, 12, 13, 14, 15, 16, 17, 18, 19, 20, 21, 22, 23, 24] mW_d (mW_c G a v) (va_recv hE.1 hP (ci := 5) (q0 := 0) rfl (mW_o G a v)) (mW_f G a v v) (mW_s G a v v) rfl rfl hl.1 rfl (Nat.le_of_ble_eq_true rfl) dX8_forget_2 ⟨Nat.le_refl _, Nat.le_refl _⟩ (fun H locs hP hD hS => ?_)
  have J28_2114 : ∀ (s0_2113 : Int32) (H : Heap) (locs : List Loc) (ls : Array Slot), va_P (gD G) vwCl (mW G a v) H → va_D A (mW G a v) → va_S A s.heap H locs → lv_has ls 5 [(0, .ref (a 0)), (1, .int x1)] → f_X8_forget_28 v x1 s0_2113 = some (r, v') → W p l e (headSpec wsX8_forget ({ frames := 3, cells := 0, slots := 0, locals := 68 } : Room)).room s m ([.ref (a 0), .int x1] : List Value).toArray below meth c H locs 0 0 (MQ below (FQ G A (mW G a v') (some (.int r))) ([.ref (a 0), .int x1] : List Value).toArray s 0 0 A) (F0 m 28 ls [.int s0_2113]) := by
    intro s0_2113 H locs ls hP hD hS hl hf
    rw [f_X8_forget_28] at hf
    refine lv_istore_n (lv' := [(2, .int s0_2113), (0, .ref (a 0)), (1, .int x1)]) hx hb dX8_forget_28 rfl hl (by decide) rfl (fun ls hl => ?_)
    refine lv_iload_n hx hb dX8_forget_29 rfl (lv_at hl 0 rfl) ?_
    refine lv_if_eq (tgt := 39) hx hb dX8_forget_30 (by decide) (fun c2115 => ?_) (fun c2115 => ?_)
    · have hf := ifT hf c2115
      refine lv_bipush (v := (-9 : Int32)) hx hb dX8_forget_39 (by decide) ?_
      refine lv_istore_n (lv' := [(3, .int (-9 : Int32)), (2, .int s0_2113), (0, .ref (a 0)), (1, .int x1)]) hx hb dX8_forget_41 rfl hl (by decide) rfl (fun ls hl => ?_)
      refine lv_iconst (v := (0 : Int32)) hx hb dX8_forget_42 (by decide) ?_
      refine lv_istore (lv' := [(4, .int (0 : Int32)), (3, .int (-9 : Int32)), (2, .int s0_2113), (0, .ref (a 0)), (1, .int x1)]) hx hb dX8_forget_43 hl (by decide) rfl (fun ls hl => ?_)
      have L45_2118 : ∀ (n : Nat) (x3_2116 : Int32) (x4_2117 : Int32) (H : Heap) (locs : List Loc) (ls : Array Slot), va_P (gD G) vwCl (mW G a v) H → va_D A (mW G a v) → va_S A s.heap H locs → lv_has ls 5 [(0, .ref (a 0)), (1, .int x1), (3, .int x3_2116), (4, .int x4_2117)] → f_X8_forget_45 v x1 n x3_2116 x4_2117 = some (r, v') → W p l e (headSpec wsX8_forget ({ frames := 3, cells := 0, slots := 0, locals := 68 } : Room)).room s m ([.ref (a 0), .int x1] : List Value).toArray below meth c H locs 0 0 (MQ below (FQ G A (mW G a v') (some (.int r))) ([.ref (a 0), .int x1] : List Value).toArray s 0 0 A) (F0 m 45 ls []) := by
        intro n
        induction n with
        | zero =>
          intro x3_2116 x4_2117 H locs ls hP hD hS hl hf
          exact no_some hf
        | succ n ih =>
          intro x3_2116 x4_2117 H locs ls hP hD hS hl hf
          rw [f_X8_forget_45] at hf
          refine lv_iload hx hb dX8_forget_45 (lv_at hl 3 rfl) ?_
          refine lv_bipush (v := (63 : Int32)) hx hb dX8_forget_47 (by decide) ?_
          refine lv_icmp_gt (tgt := 122) hx hb dX8_forget_49 (by decide) (fun c2119 => ?_) (fun c2119 => ?_)
          · have hf := ifT hf c2119
            refine lv_iload_n hx hb dX8_forget_122 rfl (lv_at hl 2 rfl) ?_
            exact fc_reti hx hb hr hlocks hP hS dX8_forget_123 (i2a hf) (congrArg (fun z => (mW G a z)) (i2b hf))
          · have hf := ifF hf c2119
            refine lv_iload hx hb dX8_forget_52 (lv_at hl 3 rfl) ?_
            refine lv_aload_n hx hb dX8_forget_54 rfl (lv_at hl 0 rfl) ?_
            refine fc_get (v := .ref (a 7)) (ci := 5) (C := RX8) (T := TX8) (N := 29) hx hb hwX8 hown hE hP 0 (mW_o G a v) rfl 6 (by decide) hk_fieldLink_RX8_28__BrideNotKnownModel___looks____I_ (fun _ h => h) rfl dX8_forget_55 ?_
            refine lv_iload_n hx hb dX8_forget_58 rfl (lv_at hl 1 rfl) ?_
            obtain ⟨c2120, hf⟩ := gd_some hf
            refine fc_iald (n := 5) (f := (v 6)) hx hb hE hP 7 (mW_a7 G a v) (inB_in c2120) dX8_forget_59 ?_
            refine lv_iconst (v := (-1 : Int32)) hx hb dX8_forget_60 (by decide) ?_
            refine lv_ixor hx hb dX8_forget_61 ?_
            refine lv_iand hx hb dX8_forget_62 ?_
            refine lv_if_ne (tgt := 116) hx hb dX8_forget_63 (by decide) (fun c2121 => ?_) (fun c2121 => ?_)
            · have hf := ifF hf c2121
              refine lv_iinc (v := (x4_2117 + (1 : Int32))) (lv' := [(4, .int (x4_2117 + (1 : Int32))), (0, .ref (a 0)), (1, .int x1), (3, .int x3_2116)]) hx hb dX8_forget_116 hl (k := 3) rfl rfl (by decide) rfl (fun ls hl => ?_)
              refine lv_goto (tgt := 45) hx hb dX8_forget_119 (by decide) ?_
              exact ih x3_2116 (x4_2117 + (1 : Int32)) _ _ _ hP hD hS (lv_sub hl [1, 2, 3, 0] rfl) hf
            · have hf := ifT hf c2121
              refine lv_iload_n hx hb dX8_forget_66 rfl (lv_at hl 2 rfl) ?_
              have J85_2122 : ∀ (H : Heap) (locs : List Loc) (ls : Array Slot), va_P (gD G) vwCl (mW G a v) H → va_D A (mW G a v) → va_S A s.heap H locs → lv_has ls 5 [(0, .ref (a 0)), (1, .int x1), (3, .int x3_2116), (4, .int x4_2117)] → f_X8_forget_85 v x1 x3_2116 x4_2117 (fun (x3_2123 : Int32) (x4_2124 : Int32) => f_X8_forget_45 v x1 n x3_2123 x4_2124) = some (r, v') → W p l e (headSpec wsX8_forget ({ frames := 3, cells := 0, slots := 0, locals := 68 } : Room)).room s m ([.ref (a 0), .int x1] : List Value).toArray below meth c H locs 0 0 (MQ below (FQ G A (mW G a v') (some (.int r))) ([.ref (a 0), .int x1] : List Value).toArray s 0 0 A) (F0 m 85 ls []) := by
                intro H locs ls hP hD hS hl hf
                rw [f_X8_forget_85] at hf
                refine lv_aload_n hx hb dX8_forget_85 rfl (lv_at hl 0 rfl) ?_
                refine lv_aload_n hx hb dX8_forget_86 rfl (lv_at hl 0 rfl) ?_
                refine fc_get (v := .ref (a 7)) (ci := 5) (C := RX8) (T := TX8) (N := 29) hx hb hwX8 hown hE hP 0 (mW_o G a v) rfl 6 (by decide) hk_fieldLink_RX8_28__BrideNotKnownModel___looks____I_ (fun _ h => h) rfl dX8_forget_87 ?_
                refine lv_iload_n hx hb dX8_forget_90 rfl (lv_at hl 1 rfl) ?_
                obtain ⟨c2125, hf⟩ := gd_some hf
                refine fc_iald (n := 5) (f := (v 6)) hx hb hE hP 7 (mW_a7 G a v) (inB_in c2125) dX8_forget_91 ?_
                refine lv_iload hx hb dX8_forget_92 (lv_at hl 3 rfl) ?_
                refine lv_iconst (v := (-1 : Int32)) hx hb dX8_forget_94 (by decide) ?_
                refine lv_ixor hx hb dX8_forget_95 ?_
                refine lv_iand hx hb dX8_forget_96 ?_
                refine lv_aload_n hx hb dX8_forget_97 rfl (lv_at hl 0 rfl) ?_
                refine fc_get (v := .ref (a 8)) (ci := 5) (C := RX8) (T := TX8) (N := 29) hx hb hwX8 hown hE hP 0 (mW_o G a v) rfl 7 (by decide) hk_fieldLink_RX8_31__BrideNotKnownModel___mind____I_ (fun _ h => h) rfl dX8_forget_98 ?_
                refine lv_iload_n hx hb dX8_forget_101 rfl (lv_at hl 1 rfl) ?_
                obtain ⟨c2126, hf⟩ := gd_some hf
                refine fc_iald (n := 5) (f := (v 7)) hx hb hE hP 8 (mW_a8 G a v) (inB_in c2126) dX8_forget_102 ?_
                obtain ⟨q2127, hq2127, hf⟩ := bnd hf
                refine fc_callV (Wa' := (mW G a v)) (st1 := [.int q2127]) (As := [.int (((v 6) x1.toNatClampNeg) &&& (x4_2117 ^^^ (-1 : Int32))), .int ((v 7) x1.toNatClampNeg)]) (rest := []) hCF (k_X8_guessesBy a v (((v 6) x1.toNatClampNeg) &&& (x4_2117 ^^^ (-1 : Int32))) ((v 7) x1.toNatClampNeg) hq2127) (cwV 2 hts gX8_forget_X8_guessesBy rfl rfl rfl ⟨rfl, dk_X8_guessesBy⟩ ⟨Nat.le_of_ble_eq_true rfl, Nat.le_of_ble_eq_true rfl⟩) hE hAB hP hD hS [0, 1, 2, 3, 4, 5, 6, 7, 8, 9, 10, 11, 12, 13, 14, 15, 16, 17, 18, 19, 20, 21, 22, 23, 24] mW_d (mW_c G a v) (va_recv hE.1 hP (ci := 5) (q0 := 0) rfl (mW_o G a v)) (mW_f G a v v) (mW_s G a v v) rfl rfl hl.1 rfl (Nat.le_of_ble_eq_true rfl) dX8_forget_103 ⟨Nat.le_refl _, Nat.le_refl _⟩ (fun H locs hP hD hS => ?_)
                obtain ⟨q2128, hq2128, hf⟩ := bnd hf
                refine fc_callS (Wa' := (mW G a v)) (st1 := [.int q2128]) (As := [.int q2127]) (rest := []) hCF (k_X8_bits q2127 hq2128) (va_cwS 1 hts gX8_forget_X8_bits rfl rfl rfl dk_X8_bits ⟨Nat.le_of_ble_eq_true rfl, Nat.le_of_ble_eq_true rfl⟩) hE hAB hP hD hS [] rfl rfl rfl rfl rfl rfl hl.1 rfl (Nat.le_of_ble_eq_true rfl) dX8_forget_106 ⟨Nat.le_refl _, Nat.le_refl _⟩ (fun H locs hP hD hS => ?_)
                refine lv_iconst (v := (1 : Int32)) hx hb dX8_forget_109 (by decide) ?_
                refine lv_icmp_eq (tgt := 116) hx hb dX8_forget_110 (by decide) (fun c2129 => ?_) (fun c2129 => ?_)
                · have hf := ifT hf c2129
                  refine lv_iinc (v := (x4_2117 + (1 : Int32))) (lv' := [(4, .int (x4_2117 + (1 : Int32))), (0, .ref (a 0)), (1, .int x1), (3, .int x3_2116)]) hx hb dX8_forget_116 hl (k := 3) rfl rfl (by decide) rfl (fun ls hl => ?_)
                  refine lv_goto (tgt := 45) hx hb dX8_forget_119 (by decide) ?_
                  exact ih x3_2116 (x4_2117 + (1 : Int32)) _ _ _ hP hD hS (lv_sub hl [1, 2, 3, 0] rfl) hf
                · have hf := ifF hf c2129
                  refine lv_iload hx hb dX8_forget_113 (lv_at hl 3 rfl) ?_
                  refine lv_istore_n (lv' := [(3, .int x4_2117), (0, .ref (a 0)), (1, .int x1), (4, .int x4_2117)]) hx hb dX8_forget_115 rfl hl (by decide) rfl (fun ls hl => ?_)
                  refine lv_iinc (v := (x4_2117 + (1 : Int32))) (lv' := [(4, .int (x4_2117 + (1 : Int32))), (3, .int x4_2117), (0, .ref (a 0)), (1, .int x1)]) hx hb dX8_forget_116 hl (k := 3) rfl rfl (by decide) rfl (fun ls hl => ?_)
                  refine lv_goto (tgt := 45) hx hb dX8_forget_119 (by decide) ?_
                  exact ih x4_2117 (x4_2117 + (1 : Int32)) _ _ _ hP hD hS (lv_sub hl [2, 3, 1, 0] rfl) hf
              refine lv_if_lt (tgt := 85) hx hb dX8_forget_67 (by decide) (fun c2130 => ?_) (fun c2130 => ?_)
              · have hf := ifT hf c2130
                exact J85_2122 _ _ _ hP hD hS (lv_sub hl [0, 1, 2, 3] rfl) hf
              · have hf := ifF hf c2130
                refine lv_iload hx hb dX8_forget_70 (lv_at hl 3 rfl) ?_
                obtain ⟨q2131, hq2131, hf⟩ := bnd hf
                refine fc_callS (Wa' := (mW G a v)) (st1 := [.int q2131]) (As := [.int x4_2117]) (rest := []) hCF (k_X8_bits x4_2117 hq2131) (va_cwS 1 hts gX8_forget_X8_bits rfl rfl rfl dk_X8_bits ⟨Nat.le_of_ble_eq_true rfl, Nat.le_of_ble_eq_true rfl⟩) hE hAB hP hD hS [] rfl rfl rfl rfl rfl rfl hl.1 rfl (Nat.le_of_ble_eq_true rfl) dX8_forget_72 ⟨Nat.le_refl _, Nat.le_refl _⟩ (fun H locs hP hD hS => ?_)
                refine lv_iload_n hx hb dX8_forget_75 rfl (lv_at hl 2 rfl) ?_
                obtain ⟨q2132, hq2132, hf⟩ := bnd hf
                refine fc_callS (Wa' := (mW G a v)) (st1 := [.int q2132, .int q2131]) (As := [.int x3_2116]) (rest := [.int q2131]) hCF (k_X8_bits x3_2116 hq2132) (va_cwS 1 hts gX8_forget_X8_bits rfl rfl rfl dk_X8_bits ⟨Nat.le_of_ble_eq_true rfl, Nat.le_of_ble_eq_true rfl⟩) hE hAB hP hD hS [] rfl rfl rfl rfl rfl rfl hl.1 rfl (Nat.le_of_ble_eq_true rfl) dX8_forget_76 ⟨Nat.le_refl _, Nat.le_refl _⟩ (fun H locs hP hD hS => ?_)
                refine lv_icmp_lt (tgt := 85) hx hb dX8_forget_79 (by decide) (fun c2133 => ?_) (fun c2133 => ?_)
                · have hf := ifT hf c2133
                  exact J85_2122 _ _ _ hP hD hS (lv_sub hl [0, 1, 2, 3] rfl) hf
                · have hf := ifF hf c2133
                  refine lv_goto (tgt := 116) hx hb dX8_forget_82 (by decide) ?_
                  refine lv_iinc (v := (x4_2117 + (1 : Int32))) (lv' := [(4, .int (x4_2117 + (1 : Int32))), (0, .ref (a 0)), (1, .int x1), (3, .int x3_2116)]) hx hb dX8_forget_116 hl (k := 3) rfl rfl (by decide) rfl (fun ls hl => ?_)
                  refine lv_goto (tgt := 45) hx hb dX8_forget_119 (by decide) ?_
                  exact ih x3_2116 (x4_2117 + (1 : Int32)) _ _ _ hP hD hS (lv_sub hl [1, 2, 3, 0] rfl) hf
      exact L45_2118 FUEL (-9 : Int32) (0 : Int32) _ _ _ hP hD hS (lv_sub hl [3, 4, 1, 0] rfl) hf
    · have hf := ifF hf c2115
      refine lv_aload_n hx hb dX8_forget_33 rfl (lv_at hl 1 rfl) ?_
      refine lv_iload_n hx hb dX8_forget_34 rfl (lv_at hl 0 rfl) ?_
      obtain ⟨q2134, hq2134, hf⟩ := bnd hf
      refine fc_callV (Wa' := (mW G a q2134.2)) (st1 := [.int q2134.1]) (As := [.int s0_2113]) (rest := []) hCF (k_X8_no a v s0_2113 hq2134) (cwV 1 hts gX8_forget_X8_no rfl rfl rfl ⟨rfl, dk_X8_no⟩ ⟨Nat.le_of_ble_eq_true rfl, Nat.le_of_ble_eq_true rfl⟩) hE hAB hP hD hS [0, 1, 2, 3, 4, 5, 6, 7, 8, 9, 10, 11, 12, 13, 14, 15, 16, 17, 18, 19, 20, 21, 22, 23, 24] mW_d (mW_c G a v) (va_recv hE.1 hP (ci := 5) (q0 := 0) rfl (mW_o G a v)) (mW_f G a v q2134.2) (mW_s G a v q2134.2) rfl rfl hl.1 rfl (Nat.le_of_ble_eq_true rfl) dX8_forget_35 ⟨Nat.le_refl _, Nat.le_refl _⟩ (fun H locs hP hD hS => ?_)
      exact fc_reti hx hb hr hlocks hP hS dX8_forget_38 (i2a hf) (congrArg (fun z => (mW G a z)) (i2b hf))
  refine lv_if_ne (tgt := 12) hx hb dX8_forget_5 (by decide) (fun c2135 => ?_) (fun c2135 => ?_)
  · have hf := ifF hf c2135
    refine lv_aload_n hx hb dX8_forget_12 rfl (lv_at hl 0 rfl) ?_
    refine fc_get (v := .ref (a 10)) (ci := 5) (C := RX8) (T := TX8) (N := 29) hx hb hwX8 hown hE hP 0 (mW_o G a v) rfl 9 (by decide) hk_fieldLink_RX8_37__BrideNotKnownModel___married____I_ (fun _ h => h) rfl dX8_forget_13 ?_
    refine lv_iload_n hx hb dX8_forget_16 rfl (lv_at hl 1 rfl) ?_
    obtain ⟨c2136, hf⟩ := gd_some hf
    refine fc_iald (n := 5) (f := (v 9)) hx hb hE hP 10 (mW_a10 G a v) (inB_in c2136) dX8_forget_17 ?_
    refine lv_iconst (v := (1 : Int32)) hx hb dX8_forget_18 (by decide) ?_
    refine lv_icmp_ne (tgt := 27) hx hb dX8_forget_19 (by decide) (fun c2137 => ?_) (fun c2137 => ?_)
    · have hf := ifF hf c2137
      refine lv_iconst (v := (0 : Int32)) hx hb dX8_forget_27 (by decide) ?_
      exact J28_2114 (0 : Int32) _ _ _ hP hD hS (lv_sub hl [0, 1] rfl) hf
    · have hf := ifT hf c2137
      refine lv_bipush (v := (-3 : Int32)) hx hb dX8_forget_22 (by decide) ?_
      refine lv_goto (tgt := 28) hx hb dX8_forget_24 (by decide) ?_
      exact J28_2114 (-3 : Int32) _ _ _ hP hD hS (lv_sub hl [0, 1] rfl) hf
  · have hf := ifT hf c2135
    refine lv_iconst (v := (-1 : Int32)) hx hb dX8_forget_8 (by decide) ?_
    refine lv_goto (tgt := 28) hx hb dX8_forget_9 (by decide) ?_
    exact J28_2114 (-1 : Int32) _ _ _ hP hD hS (lv_sub hl [0, 1] rfl) hf
theorem dk_X8_groom : yX8_groom.cls ≠ "java/lang/invoke/MethodHandle" ∧ yX8_groom.cls ≠ "java/lang/invoke/VarHandle" ∧ (parseMethodDescriptor yX8_groom.desc).map (fun d => d.parameters.length) = some 2 := by decide +kernel
theorem iu_X8_groom_X8 : ∀ w ∈ u_ws RX8 TX8 29, w ∈ wsX8_groom := by decide +kernel
set_option maxHeartbeats 4000000 in
set_option maxRecDepth 100000 in
theorem k_X8_groom {l : Launch} {G : Gx} (a : Nat → Nat) (v : St) (x1 : Int32) (x2 : Int32) {r : Int32} {v' : St} (hf : f_X8_groom v x1 x2 = some (r, v')) : FC l G yX8_groom wsX8_groom ({ frames := 5, cells := 0, slots := 0, locals := 111 } : Room) [.ref (a 0), .int x1, .int x2] (mW G a v) (mW G a v') (some (.int r)) := by
  refine fc_head (cc := cX8_groom) (maxL := 3) (ret := (some .int)) (C := RX8) (lv := [(0, .ref (a 0)), (1, .int x1), (2, .int x2)]) (by decide) rfl rfl (Nat.le_of_ble_eq_true rfl) rfl ?_
  intro p e s m below meth c ls A hx hb hr hml hown hts hlocks hE hP hD hAB hS hl
  have hCF : CallFix p m c cX8_groom 3 s ([.ref (a 0), .int x1, .int x2] : List Value).toArray wsX8_groom RX8 := ⟨hx, hb, hml, hown, hts⟩
  have hwX8 : ∀ w ∈ u_ws RX8 TX8 29, w.before ([.ref (a 0), .int x1, .int x2] : List Value).toArray s = true := fun w h => hts w (iu_X8_groom_X8 w h)
  have hk_fieldLink_RX8_28__BrideNotKnownModel___looks____I_ := hts (.fieldLink RX8 28 "BrideNotKnownModel" "looks" "[I") (List.mem_of_getElem? (i := 1) rfl)
  have hk_fieldLink_RX8_31__BrideNotKnownModel___mind____I_ := hts (.fieldLink RX8 31 "BrideNotKnownModel" "mind" "[I") (List.mem_of_getElem? (i := 2) rfl)
  have hk_fieldLink_RX8_34__BrideNotKnownModel___liquor____I_ := hts (.fieldLink RX8 34 "BrideNotKnownModel" "liquor" "[I") (List.mem_of_getElem? (i := 3) rfl)
  have hk_fieldLink_RX8_37__BrideNotKnownModel___married____I_ := hts (.fieldLink RX8 37 "BrideNotKnownModel" "married" "[I") (List.mem_of_getElem? (i := 4) rfl)
  rw [f_X8_groom] at hf
  refine lv_aload_n hx hb dX8_groom_0 rfl (lv_at hl 0 rfl) ?_
  refine lv_iload_n hx hb dX8_groom_1 rfl (lv_at hl 1 rfl) ?_
  obtain ⟨q2143, hq2143, hf⟩ := bnd hf
  refine fc_callV (Wa' := (mW G a v)) (st1 := [.int q2143]) (As := [.int x1]) (rest := []) hCF (k_X8_isGroom a v x1 hq2143) (cwV 1 hts gX8_groom_X8_isGroom rfl rfl rfl ⟨rfl, dk_X8_isGroom⟩ ⟨Nat.le_of_ble_eq_true rfl, Nat.le_of_ble_eq_true rfl⟩) hE hAB hP hD hS [0, 1, 2, 3, 4, 5, 6, 7, 8, 9, 10, 11, 12, 13, 14, 15, 16, 17, 18, 19, 20, 21, 22, 23, 24] mW_d (mW_c G a v) (va_recv hE.1 hP (ci := 5) (q0 := 0) rfl (mW_o G a v)) (mW_f G a v v) (mW_s G a v v) rfl rfl hl.1 rfl (Nat.le_of_ble_eq_true rfl) dX8_groom_2 ⟨Nat.le_refl _, Nat.le_refl _⟩ (fun H locs hP hD hS => ?_)
  refine lv_if_ne (tgt := 14) hx hb dX8_groom_5 (by decide) (fun c2144 => ?_) (fun c2144 => ?_)
  · have hf := ifF hf c2144
    refine lv_iload_n hx hb dX8_groom_14 rfl (lv_at hl 2 rfl) ?_
    by_cases c2145 : x2 = (0 : Int32)
    · have hf := ifT hf c2145
      refine lv_tableIn (off := 37) (tgt := 52) hx hb dX8_groom_15 (by rw [c2145]; decide) (by rw [c2145]; decide) (by rw [c2145]; rfl) (by decide) ?_
      refine lv_aload_n hx hb dX8_groom_52 rfl (lv_at hl 0 rfl) ?_
      refine fc_get (v := .ref (a 7)) (ci := 5) (C := RX8) (T := TX8) (N := 29) hx hb hwX8 hown hE hP 0 (mW_o G a v) rfl 6 (by decide) hk_fieldLink_RX8_28__BrideNotKnownModel___looks____I_ (fun _ h => h) rfl dX8_groom_53 ?_
      refine lv_iload_n hx hb dX8_groom_56 rfl (lv_at hl 1 rfl) ?_
      obtain ⟨c2146, hf⟩ := gd_some hf
      refine fc_iald (n := 5) (f := (v 6)) hx hb hE hP 7 (mW_a7 G a v) (inB_in c2146) dX8_groom_57 ?_
      exact fc_reti hx hb hr hlocks hP hS dX8_groom_58 (i2a hf) (congrArg (fun z => (mW G a z)) (i2b hf))
    · have hf := ifF hf c2145
      by_cases c2147 : x2 = (1 : Int32)
      · have hf := ifT hf c2147
        refine lv_tableIn (off := 44) (tgt := 59) hx hb dX8_groom_15 (by rw [c2147]; decide) (by rw [c2147]; decide) (by rw [c2147]; rfl) (by decide) ?_
        refine lv_aload_n hx hb dX8_groom_59 rfl (lv_at hl 0 rfl) ?_
        refine fc_get (v := .ref (a 8)) (ci := 5) (C := RX8) (T := TX8) (N := 29) hx hb hwX8 hown hE hP 0 (mW_o G a v) rfl 7 (by decide) hk_fieldLink_RX8_31__BrideNotKnownModel___mind____I_ (fun _ h => h) rfl dX8_groom_60 ?_
        refine lv_iload_n hx hb dX8_groom_63 rfl (lv_at hl 1 rfl) ?_
        obtain ⟨c2148, hf⟩ := gd_some hf
        refine fc_iald (n := 5) (f := (v 7)) hx hb hE hP 8 (mW_a8 G a v) (inB_in c2148) dX8_groom_64 ?_
        exact fc_reti hx hb hr hlocks hP hS dX8_groom_65 (i2a hf) (congrArg (fun z => (mW G a z)) (i2b hf))
      · have hf := ifF hf c2147
        by_cases c2149 : x2 = (2 : Int32)
        · have hf := ifT hf c2149
          refine lv_tableIn (off := 51) (tgt := 66) hx hb dX8_groom_15 (by rw [c2149]; decide) (by rw [c2149]; decide) (by rw [c2149]; rfl) (by decide) ?_
          refine lv_aload_n hx hb dX8_groom_66 rfl (lv_at hl 0 rfl) ?_
          refine fc_get (v := .ref (a 9)) (ci := 5) (C := RX8) (T := TX8) (N := 29) hx hb hwX8 hown hE hP 0 (mW_o G a v) rfl 8 (by decide) hk_fieldLink_RX8_34__BrideNotKnownModel___liquor____I_ (fun _ h => h) rfl dX8_groom_67 ?_
          refine lv_iload_n hx hb dX8_groom_70 rfl (lv_at hl 1 rfl) ?_
          obtain ⟨c2150, hf⟩ := gd_some hf
          refine fc_iald (n := 5) (f := (v 8)) hx hb hE hP 9 (mW_a9 G a v) (inB_in c2150) dX8_groom_71 ?_
          exact fc_reti hx hb hr hlocks hP hS dX8_groom_72 (i2a hf) (congrArg (fun z => (mW G a z)) (i2b hf))
        · have hf := ifF hf c2149
          by_cases c2151 : x2 = (3 : Int32)
          · have hf := ifT hf c2151
            refine lv_tableIn (off := 58) (tgt := 73) hx hb dX8_groom_15 (by rw [c2151]; decide) (by rw [c2151]; decide) (by rw [c2151]; rfl) (by decide) ?_
            refine lv_aload_n hx hb dX8_groom_73 rfl (lv_at hl 0 rfl) ?_
            refine fc_get (v := .ref (a 10)) (ci := 5) (C := RX8) (T := TX8) (N := 29) hx hb hwX8 hown hE hP 0 (mW_o G a v) rfl 9 (by decide) hk_fieldLink_RX8_37__BrideNotKnownModel___married____I_ (fun _ h => h) rfl dX8_groom_74 ?_
            refine lv_iload_n hx hb dX8_groom_77 rfl (lv_at hl 1 rfl) ?_
            obtain ⟨c2152, hf⟩ := gd_some hf
            refine fc_iald (n := 5) (f := (v 9)) hx hb hE hP 10 (mW_a10 G a v) (inB_in c2152) dX8_groom_78 ?_
            exact fc_reti hx hb hr hlocks hP hS dX8_groom_79 (i2a hf) (congrArg (fun z => (mW G a z)) (i2b hf))
          · have hf := ifF hf c2151
            by_cases c2153 : x2 = (4 : Int32)
            · have hf := ifT hf c2153
              refine lv_tableIn (off := 65) (tgt := 80) hx hb dX8_groom_15 (by rw [c2153]; decide) (by rw [c2153]; decide) (by rw [c2153]; rfl) (by decide) ?_
              refine lv_aload_n hx hb dX8_groom_80 rfl (lv_at hl 0 rfl) ?_
              refine lv_iload_n hx hb dX8_groom_81 rfl (lv_at hl 1 rfl) ?_
              obtain ⟨q2154, hq2154, hf⟩ := bnd hf
              refine fc_callV (Wa' := (mW G a v)) (st1 := [.int q2154]) (As := [.int x1]) (rest := []) hCF (k_X8_guesses a v x1 hq2154) (cwV 1 hts gX8_groom_X8_guesses rfl rfl rfl ⟨rfl, dk_X8_guesses⟩ ⟨Nat.le_of_ble_eq_true rfl, Nat.le_of_ble_eq_true rfl⟩) hE hAB hP hD hS [0, 1, 2, 3, 4, 5, 6, 7, 8, 9, 10, 11, 12, 13, 14, 15, 16, 17, 18, 19, 20, 21, 22, 23, 24] mW_d (mW_c G a v) (va_recv hE.1 hP (ci := 5) (q0 := 0) rfl (mW_o G a v)) (mW_f G a v v) (mW_s G a v v) rfl rfl hl.1 rfl (Nat.le_of_ble_eq_true rfl) dX8_groom_82 ⟨Nat.le_refl _, Nat.le_refl _⟩ (fun H locs hP hD hS => ?_)
              exact fc_reti hx hb hr hlocks hP hS dX8_groom_85 (i2a hf) (congrArg (fun z => (mW G a z)) (i2b hf))
            · have hf := ifF hf c2153
              by_cases c2155 : x2 = (5 : Int32)
              · have hf := ifT hf c2155
                refine lv_tableIn (off := 71) (tgt := 86) hx hb dX8_groom_15 (by rw [c2155]; decide) (by rw [c2155]; decide) (by rw [c2155]; rfl) (by decide) ?_
                refine lv_aload_n hx hb dX8_groom_86 rfl (lv_at hl 0 rfl) ?_
                refine lv_iload_n hx hb dX8_groom_87 rfl (lv_at hl 1 rfl) ?_
                obtain ⟨q2156, hq2156, hf⟩ := bnd hf
                refine fc_callV (Wa' := (mW G a v)) (st1 := [.int q2156]) (As := [.int x1]) (rest := []) hCF (k_X8_knows a v x1 hq2156) (cwV 1 hts gX8_groom_X8_knows rfl rfl rfl ⟨rfl, dk_X8_knows⟩ ⟨Nat.le_of_ble_eq_true rfl, Nat.le_of_ble_eq_true rfl⟩) hE hAB hP hD hS [0, 1, 2, 3, 4, 5, 6, 7, 8, 9, 10, 11, 12, 13, 14, 15, 16, 17, 18, 19, 20, 21, 22, 23, 24] mW_d (mW_c G a v) (va_recv hE.1 hP (ci := 5) (q0 := 0) rfl (mW_o G a v)) (mW_f G a v v) (mW_s G a v v) rfl rfl hl.1 rfl (Nat.le_of_ble_eq_true rfl) dX8_groom_88 ⟨Nat.le_refl _, Nat.le_refl _⟩ (fun H locs hP hD hS => ?_)
                exact fc_reti hx hb hr hlocks hP hS dX8_groom_91 (i2a hf) (congrArg (fun z => (mW G a z)) (i2b hf))
              · have hf := ifF hf c2155
                refine lv_tableOut (tgt := 92) hx hb dX8_groom_15 (by have dc2145 := lv_neT c2145 (a := 0) (by decide); have dc2147 := lv_neT c2147 (a := 1) (by decide); have dc2149 := lv_neT c2149 (a := 2) (by decide); have dc2151 := lv_neT c2151 (a := 3) (by decide); have dc2153 := lv_neT c2153 (a := 4) (by decide); have dc2155 := lv_neT c2155 (a := 5) (by decide); omega) (by decide) ?_
                refine lv_aload_n hx hb dX8_groom_92 rfl (lv_at hl 0 rfl) ?_
                refine lv_bipush (v := (-2 : Int32)) hx hb dX8_groom_93 (by decide) ?_
                obtain ⟨q2157, hq2157, hf⟩ := bnd hf
                refine fc_callV (Wa' := (mW G a q2157.2)) (st1 := [.int q2157.1]) (As := [.int (-2 : Int32)]) (rest := []) hCF (k_X8_no a v (-2 : Int32) hq2157) (cwV 1 hts gX8_groom_X8_no rfl rfl rfl ⟨rfl, dk_X8_no⟩ ⟨Nat.le_of_ble_eq_true rfl, Nat.le_of_ble_eq_true rfl⟩) hE hAB hP hD hS [0, 1, 2, 3, 4, 5, 6, 7, 8, 9, 10, 11, 12, 13, 14, 15, 16, 17, 18, 19, 20, 21, 22, 23, 24] mW_d (mW_c G a v) (va_recv hE.1 hP (ci := 5) (q0 := 0) rfl (mW_o G a v)) (mW_f G a v q2157.2) (mW_s G a v q2157.2) rfl rfl hl.1 rfl (Nat.le_of_ble_eq_true rfl) dX8_groom_95 ⟨Nat.le_refl _, Nat.le_refl _⟩ (fun H locs hP hD hS => ?_)
                exact fc_reti hx hb hr hlocks hP hS dX8_groom_98 (i2a hf) (congrArg (fun z => (mW G a z)) (i2b hf))
  · have hf := ifT hf c2144
    refine lv_aload_n hx hb dX8_groom_8 rfl (lv_at hl 0 rfl) ?_
    refine lv_iconst (v := (-1 : Int32)) hx hb dX8_groom_9 (by decide) ?_
    obtain ⟨q2158, hq2158, hf⟩ := bnd hf
    refine fc_callV (Wa' := (mW G a q2158.2)) (st1 := [.int q2158.1]) (As := [.int (-1 : Int32)]) (rest := []) hCF (k_X8_no a v (-1 : Int32) hq2158) (cwV 1 hts gX8_groom_X8_no rfl rfl rfl ⟨rfl, dk_X8_no⟩ ⟨Nat.le_of_ble_eq_true rfl, Nat.le_of_ble_eq_true rfl⟩) hE hAB hP hD hS [0, 1, 2, 3, 4, 5, 6, 7, 8, 9, 10, 11, 12, 13, 14, 15, 16, 17, 18, 19, 20, 21, 22, 23, 24] mW_d (mW_c G a v) (va_recv hE.1 hP (ci := 5) (q0 := 0) rfl (mW_o G a v)) (mW_f G a v q2158.2) (mW_s G a v q2158.2) rfl rfl hl.1 rfl (Nat.le_of_ble_eq_true rfl) dX8_groom_10 ⟨Nat.le_refl _, Nat.le_refl _⟩ (fun H locs hP hD hS => ?_)
    exact fc_reti hx hb hr hlocks hP hS dX8_groom_13 (i2a hf) (congrArg (fun z => (mW G a z)) (i2b hf))
theorem dk_X8_groomThen : yX8_groomThen.cls ≠ "java/lang/invoke/MethodHandle" ∧ yX8_groomThen.cls ≠ "java/lang/invoke/VarHandle" ∧ (parseMethodDescriptor yX8_groomThen.desc).map (fun d => d.parameters.length) = some 3 := by decide +kernel
set_option maxHeartbeats 4000000 in
set_option maxRecDepth 100000 in
theorem k_X8_groomThen {l : Launch} {G : Gx} (a : Nat → Nat) (v : St) (x1 : Int32) (x2 : Int32) (x3 : Int32) {r : Int32} {v' : St} (hf : f_X8_groomThen v x1 x2 x3 = some (r, v')) : FC l G yX8_groomThen wsX8_groomThen ({ frames := 5, cells := 0, slots := 0, locals := 111 } : Room) [.ref (a 0), .int x1, .int x2, .int x3] (mW G a v) (mW G a v') (some (.int r)) := by
  refine fc_head (cc := cX8_groomThen) (maxL := 6) (ret := (some .int)) (C := RX8) (lv := [(0, .ref (a 0)), (1, .int x1), (2, .int x2), (3, .int x3)]) (by decide) rfl rfl (Nat.le_of_ble_eq_true rfl) rfl ?_
  intro p e s m below meth c ls A hx hb hr hml hown hts hlocks hE hP hD hAB hS hl
  have hCF : CallFix p m c cX8_groomThen 6 s ([.ref (a 0), .int x1, .int x2, .int x3] : List Value).toArray wsX8_groomThen RX8 := ⟨hx, hb, hml, hown, hts⟩
  rw [f_X8_groomThen] at hf
  refine lv_aload_n hx hb dX8_groomThen_0 rfl (lv_at hl 0 rfl) ?_
  refine lv_iload_n hx hb dX8_groomThen_1 rfl (lv_at hl 1 rfl) ?_
  obtain ⟨q2169, hq2169, hf⟩ := bnd hf
  refine fc_callV (Wa' := (mW G a v)) (st1 := [.int q2169]) (As := [.int x1]) (rest := []) hCF (k_X8_isGroom a v x1 hq2169) (cwV 1 hts gX8_groomThen_X8_isGroom rfl rfl rfl ⟨rfl, dk_X8_isGroom⟩ ⟨Nat.le_of_ble_eq_true rfl, Nat.le_of_ble_eq_true rfl⟩) hE hAB hP hD hS [0, 1, 2, 3, 4, 5, 6, 7, 8, 9, 10, 11, 12, 13, 14, 15, 16, 17, 18, 19, 20, 21, 22, 23, 24] mW_d (mW_c G a v) (va_recv hE.1 hP (ci := 5) (q0 := 0) rfl (mW_o G a v)) (mW_f G a v v) (mW_s G a v v) rfl rfl hl.1 rfl (Nat.le_of_ble_eq_true rfl) dX8_groomThen_2 ⟨Nat.le_refl _, Nat.le_refl _⟩ (fun H locs hP hD hS => ?_)
  have J19_2171 : ∀ (s0_2170 : Int32) (H : Heap) (locs : List Loc) (ls : Array Slot), va_P (gD G) vwCl (mW G a v) H → va_D A (mW G a v) → va_S A s.heap H locs → lv_has ls 6 [(0, .ref (a 0)), (1, .int x1), (2, .int x2), (3, .int x3)] → f_X8_groomThen_19 v x1 x2 x3 s0_2170 = some (r, v') → W p l e (headSpec wsX8_groomThen ({ frames := 5, cells := 0, slots := 0, locals := 111 } : Room)).room s m ([.ref (a 0), .int x1, .int x2, .int x3] : List Value).toArray below meth c H locs 0 0 (MQ below (FQ G A (mW G a v') (some (.int r))) ([.ref (a 0), .int x1, .int x2, .int x3] : List Value).toArray s 0 0 A) (F0 m 19 ls [.int s0_2170]) := by
    intro s0_2170 H locs ls hP hD hS hl hf
    rw [f_X8_groomThen_19] at hf
    refine lv_istore (lv' := [(4, .int s0_2170), (0, .ref (a 0)), (1, .int x1), (2, .int x2), (3, .int x3)]) hx hb dX8_groomThen_19 hl (by decide) rfl (fun ls hl => ?_)
    refine lv_iload hx hb dX8_groomThen_21 (lv_at hl 0 rfl) ?_
    have J39_2173 : ∀ (x4_2172 : Int32) (H : Heap) (locs : List Loc) (ls : Array Slot), va_P (gD G) vwCl (mW G a v) H → va_D A (mW G a v) → va_S A s.heap H locs → lv_has ls 6 [(0, .ref (a 0)), (1, .int x1), (2, .int x2), (3, .int x3), (4, .int x4_2172)] → f_X8_groomThen_39 v x1 x2 x3 x4_2172 = some (r, v') → W p l e (headSpec wsX8_groomThen ({ frames := 5, cells := 0, slots := 0, locals := 111 } : Room)).room s m ([.ref (a 0), .int x1, .int x2, .int x3] : List Value).toArray below meth c H locs 0 0 (MQ below (FQ G A (mW G a v') (some (.int r))) ([.ref (a 0), .int x1, .int x2, .int x3] : List Value).toArray s 0 0 A) (F0 m 39 ls []) := by
      intro x4_2172 H locs ls hP hD hS hl hf
      rw [f_X8_groomThen_39] at hf
      refine lv_iload hx hb dX8_groomThen_39 (lv_at hl 4 rfl) ?_
      refine lv_if_eq (tgt := 51) hx hb dX8_groomThen_41 (by decide) (fun c2174 => ?_) (fun c2174 => ?_)
      · have hf := ifT hf c2174
        refine lv_aload_n hx hb dX8_groomThen_51 rfl (lv_at hl 0 rfl) ?_
        obtain ⟨q2175, hq2175, hf⟩ := bnd hf
        refine fc_callV (Wa' := (mW G a q2175)) (st1 := []) (As := []) (rest := []) hCF (k_X8_thinks a v hq2175) (cwV 0 hts gX8_groomThen_X8_thinks rfl rfl rfl ⟨rfl, dk_X8_thinks⟩ ⟨Nat.le_of_ble_eq_true rfl, Nat.le_of_ble_eq_true rfl⟩) hE hAB hP hD hS [0, 1, 2, 3, 4, 5, 6, 7, 8, 9, 10, 11, 12, 13, 14, 15, 16, 17, 18, 19, 20, 21, 22, 23, 24] mW_d (mW_c G a v) (va_recv hE.1 hP (ci := 5) (q0 := 0) rfl (mW_o G a v)) (mW_f G a v q2175) (mW_s G a v q2175) rfl rfl hl.1 rfl (Nat.le_of_ble_eq_true rfl) dX8_groomThen_52 ⟨Nat.le_refl _, Nat.le_refl _⟩ (fun H locs hP hD hS => ?_)
        refine lv_aload_n hx hb dX8_groomThen_55 rfl (lv_at hl 0 rfl) ?_
        refine lv_iload_n hx hb dX8_groomThen_56 rfl (lv_at hl 2 rfl) ?_
        obtain ⟨q2176, hq2176, hf⟩ := bnd hf
        refine fc_callV (Wa' := (mW G a q2176)) (st1 := []) (As := [.int x2]) (rest := []) hCF (k_X8_goes a q2175 x2 hq2176) (cwV 1 hts gX8_groomThen_X8_goes rfl rfl rfl ⟨rfl, dk_X8_goes⟩ ⟨Nat.le_of_ble_eq_true rfl, Nat.le_of_ble_eq_true rfl⟩) hE hAB hP hD hS [0, 1, 2, 3, 4, 5, 6, 7, 8, 9, 10, 11, 12, 13, 14, 15, 16, 17, 18, 19, 20, 21, 22, 23, 24] mW_d (mW_c G a q2175) (va_recv hE.1 hP (ci := 5) (q0 := 0) rfl (mW_o G a q2175)) (mW_f G a q2175 q2176) (mW_s G a q2175 q2176) rfl rfl hl.1 rfl (Nat.le_of_ble_eq_true rfl) dX8_groomThen_57 ⟨Nat.le_refl _, Nat.le_refl _⟩ (fun H locs hP hD hS => ?_)
        refine lv_iload_n hx hb dX8_groomThen_60 rfl (lv_at hl 3 rfl) ?_
        refine lv_if_ne (tgt := 72) hx hb dX8_groomThen_61 (by decide) (fun c2177 => ?_) (fun c2177 => ?_)
        · have hf := ifF hf c2177
          refine lv_aload_n hx hb dX8_groomThen_72 rfl (lv_at hl 0 rfl) ?_
          refine lv_iload_n hx hb dX8_groomThen_73 rfl (lv_at hl 1 rfl) ?_
          obtain ⟨q2178, hq2178, hf⟩ := bnd hf
          refine fc_callV (Wa' := (mW G a q2176)) (st1 := [.int q2178]) (As := [.int x1]) (rest := []) hCF (k_X8_knows a q2176 x1 hq2178) (cwV 1 hts gX8_groomThen_X8_knows rfl rfl rfl ⟨rfl, dk_X8_knows⟩ ⟨Nat.le_of_ble_eq_true rfl, Nat.le_of_ble_eq_true rfl⟩) hE hAB hP hD hS [0, 1, 2, 3, 4, 5, 6, 7, 8, 9, 10, 11, 12, 13, 14, 15, 16, 17, 18, 19, 20, 21, 22, 23, 24] mW_d (mW_c G a q2176) (va_recv hE.1 hP (ci := 5) (q0 := 0) rfl (mW_o G a q2176)) (mW_f G a q2176 q2176) (mW_s G a q2176 q2176) rfl rfl hl.1 rfl (Nat.le_of_ble_eq_true rfl) dX8_groomThen_74 ⟨Nat.le_refl _, Nat.le_refl _⟩ (fun H locs hP hD hS => ?_)
          refine lv_istore (lv' := [(5, .int q2178), (0, .ref (a 0)), (1, .int x1), (2, .int x2), (3, .int x3), (4, .int x4_2172)]) hx hb dX8_groomThen_77 hl (by decide) rfl (fun ls hl => ?_)
          refine lv_aload_n hx hb dX8_groomThen_79 rfl (lv_at hl 1 rfl) ?_
          obtain ⟨q2179, hq2179, hf⟩ := bnd hf
          refine fc_callV (Wa' := (mW G a q2179)) (st1 := []) (As := []) (rest := []) hCF (k_X8_forgets a q2176 hq2179) (cwV 0 hts gX8_groomThen_X8_forgets rfl rfl rfl ⟨rfl, dk_X8_forgets⟩ ⟨Nat.le_of_ble_eq_true rfl, Nat.le_of_ble_eq_true rfl⟩) hE hAB hP hD hS [0, 1, 2, 3, 4, 5, 6, 7, 8, 9, 10, 11, 12, 13, 14, 15, 16, 17, 18, 19, 20, 21, 22, 23, 24] mW_d (mW_c G a q2176) (va_recv hE.1 hP (ci := 5) (q0 := 0) rfl (mW_o G a q2176)) (mW_f G a q2176 q2179) (mW_s G a q2176 q2179) rfl rfl hl.1 rfl (Nat.le_of_ble_eq_true rfl) dX8_groomThen_80 ⟨Nat.le_refl _, Nat.le_refl _⟩ (fun H locs hP hD hS => ?_)
          refine lv_iload hx hb dX8_groomThen_83 (lv_at hl 0 rfl) ?_
          exact fc_reti hx hb hr hlocks hP hS dX8_groomThen_85 (i2a hf) (congrArg (fun z => (mW G a z)) (i2b hf))
        · have hf := ifT hf c2177
          refine lv_aload_n hx hb dX8_groomThen_64 rfl (lv_at hl 0 rfl) ?_
          refine lv_iload_n hx hb dX8_groomThen_65 rfl (lv_at hl 1 rfl) ?_
          obtain ⟨q2180, hq2180, hf⟩ := bnd hf
          refine fc_callV (Wa' := (mW G a q2176)) (st1 := [.int q2180]) (As := [.int x1]) (rest := []) hCF (k_X8_guesses a q2176 x1 hq2180) (cwV 1 hts gX8_groomThen_X8_guesses rfl rfl rfl ⟨rfl, dk_X8_guesses⟩ ⟨Nat.le_of_ble_eq_true rfl, Nat.le_of_ble_eq_true rfl⟩) hE hAB hP hD hS [0, 1, 2, 3, 4, 5, 6, 7, 8, 9, 10, 11, 12, 13, 14, 15, 16, 17, 18, 19, 20, 21, 22, 23, 24] mW_d (mW_c G a q2176) (va_recv hE.1 hP (ci := 5) (q0 := 0) rfl (mW_o G a q2176)) (mW_f G a q2176 q2176) (mW_s G a q2176 q2176) rfl rfl hl.1 rfl (Nat.le_of_ble_eq_true rfl) dX8_groomThen_66 ⟨Nat.le_refl _, Nat.le_refl _⟩ (fun H locs hP hD hS => ?_)
          refine lv_goto (tgt := 77) hx hb dX8_groomThen_69 (by decide) ?_
          refine lv_istore (lv' := [(5, .int q2180), (0, .ref (a 0)), (1, .int x1), (2, .int x2), (3, .int x3), (4, .int x4_2172)]) hx hb dX8_groomThen_77 hl (by decide) rfl (fun ls hl => ?_)
          refine lv_aload_n hx hb dX8_groomThen_79 rfl (lv_at hl 1 rfl) ?_
          obtain ⟨q2181, hq2181, hf⟩ := bnd hf
          refine fc_callV (Wa' := (mW G a q2181)) (st1 := []) (As := []) (rest := []) hCF (k_X8_forgets a q2176 hq2181) (cwV 0 hts gX8_groomThen_X8_forgets rfl rfl rfl ⟨rfl, dk_X8_forgets⟩ ⟨Nat.le_of_ble_eq_true rfl, Nat.le_of_ble_eq_true rfl⟩) hE hAB hP hD hS [0, 1, 2, 3, 4, 5, 6, 7, 8, 9, 10, 11, 12, 13, 14, 15, 16, 17, 18, 19, 20, 21, 22, 23, 24] mW_d (mW_c G a q2176) (va_recv hE.1 hP (ci := 5) (q0 := 0) rfl (mW_o G a q2176)) (mW_f G a q2176 q2181) (mW_s G a q2176 q2181) rfl rfl hl.1 rfl (Nat.le_of_ble_eq_true rfl) dX8_groomThen_80 ⟨Nat.le_refl _, Nat.le_refl _⟩ (fun H locs hP hD hS => ?_)
          refine lv_iload hx hb dX8_groomThen_83 (lv_at hl 0 rfl) ?_
          exact fc_reti hx hb hr hlocks hP hS dX8_groomThen_85 (i2a hf) (congrArg (fun z => (mW G a z)) (i2b hf))
      · have hf := ifF hf c2174
        refine lv_aload_n hx hb dX8_groomThen_44 rfl (lv_at hl 0 rfl) ?_
        refine lv_iload hx hb dX8_groomThen_45 (lv_at hl 4 rfl) ?_
        obtain ⟨q2182, hq2182, hf⟩ := bnd hf
        refine fc_callV (Wa' := (mW G a q2182.2)) (st1 := [.int q2182.1]) (As := [.int x4_2172]) (rest := []) hCF (k_X8_no a v x4_2172 hq2182) (cwV 1 hts gX8_groomThen_X8_no rfl rfl rfl ⟨rfl, dk_X8_no⟩ ⟨Nat.le_of_ble_eq_true rfl, Nat.le_of_ble_eq_true rfl⟩) hE hAB hP hD hS [0, 1, 2, 3, 4, 5, 6, 7, 8, 9, 10, 11, 12, 13, 14, 15, 16, 17, 18, 19, 20, 21, 22, 23, 24] mW_d (mW_c G a v) (va_recv hE.1 hP (ci := 5) (q0 := 0) rfl (mW_o G a v)) (mW_f G a v q2182.2) (mW_s G a v q2182.2) rfl rfl hl.1 rfl (Nat.le_of_ble_eq_true rfl) dX8_groomThen_47 ⟨Nat.le_refl _, Nat.le_refl _⟩ (fun H locs hP hD hS => ?_)
        exact fc_reti hx hb hr hlocks hP hS dX8_groomThen_50 (i2a hf) (congrArg (fun z => (mW G a z)) (i2b hf))
    refine lv_if_ne (tgt := 39) hx hb dX8_groomThen_23 (by decide) (fun c2183 => ?_) (fun c2183 => ?_)
    · have hf := ifF hf c2183
      exact J39_2173 s0_2170 _ _ _ hP hD hS (lv_sub hl [1, 2, 3, 4, 0] rfl) hf
    · have hf := ifT hf c2183
      refine lv_iload_n hx hb dX8_groomThen_26 rfl (lv_at hl 4 rfl) ?_
      refine lv_iconst (v := (0 : Int32)) hx hb dX8_groomThen_27 (by decide) ?_
      refine lv_iconst (v := (1 : Int32)) hx hb dX8_groomThen_28 (by decide) ?_
      obtain ⟨q2184, hq2184, hf⟩ := bnd hf
      refine fc_callS (Wa' := (mW G a v)) (st1 := [.int q2184]) (As := [.int x3, .int (0 : Int32), .int (1 : Int32)]) (rest := []) hCF (k_X8_isIn x3 (0 : Int32) (1 : Int32) hq2184) (va_cwS 3 hts gX8_groomThen_X8_isIn rfl rfl rfl dk_X8_isIn ⟨Nat.le_of_ble_eq_true rfl, Nat.le_of_ble_eq_true rfl⟩) hE hAB hP hD hS [] rfl rfl rfl rfl rfl rfl hl.1 rfl (Nat.le_of_ble_eq_true rfl) dX8_groomThen_29 ⟨Nat.le_refl _, Nat.le_refl _⟩ (fun H locs hP hD hS => ?_)
      refine lv_if_ne (tgt := 39) hx hb dX8_groomThen_32 (by decide) (fun c2185 => ?_) (fun c2185 => ?_)
      · have hf := ifF hf c2185
        exact J39_2173 s0_2170 _ _ _ hP hD hS (lv_sub hl [1, 2, 3, 4, 0] rfl) hf
      · have hf := ifT hf c2185
        refine lv_bipush (v := (-2 : Int32)) hx hb dX8_groomThen_35 (by decide) ?_
        refine lv_istore (lv' := [(4, .int (-2 : Int32)), (0, .ref (a 0)), (1, .int x1), (2, .int x2), (3, .int x3)]) hx hb dX8_groomThen_37 hl (by decide) rfl (fun ls hl => ?_)
        exact J39_2173 (-2 : Int32) _ _ _ hP hD hS (lv_sub hl [1, 2, 3, 4, 0] rfl) hf
  refine lv_if_ne (tgt := 12) hx hb dX8_groomThen_5 (by decide) (fun c2186 => ?_) (fun c2186 => ?_)
  · have hf := ifF hf c2186
    refine lv_iload_n hx hb dX8_groomThen_12 rfl (lv_at hl 2 rfl) ?_
    refine lv_iconst (v := (0 : Int32)) hx hb dX8_groomThen_13 (by decide) ?_
    refine lv_bipush (v := (60 : Int32)) hx hb dX8_groomThen_14 (by decide) ?_
    obtain ⟨q2187, hq2187, hf⟩ := bnd hf
    refine fc_callS (Wa' := (mW G a v)) (st1 := [.int q2187]) (As := [.int x2, .int (0 : Int32), .int (60 : Int32)]) (rest := []) hCF (k_X8_bound x2 (0 : Int32) (60 : Int32) hq2187) (va_cwS 3 hts gX8_groomThen_X8_bound rfl rfl rfl dk_X8_bound ⟨Nat.le_of_ble_eq_true rfl, Nat.le_of_ble_eq_true rfl⟩) hE hAB hP hD hS [] rfl rfl rfl rfl rfl rfl hl.1 rfl (Nat.le_of_ble_eq_true rfl) dX8_groomThen_16 ⟨Nat.le_refl _, Nat.le_refl _⟩ (fun H locs hP hD hS => ?_)
    exact J19_2171 q2187 _ _ _ hP hD hS (lv_sub hl [0, 1, 2, 3] rfl) hf
  · have hf := ifT hf c2186
    refine lv_iconst (v := (-1 : Int32)) hx hb dX8_groomThen_8 (by decide) ?_
    refine lv_goto (tgt := 19) hx hb dX8_groomThen_9 (by decide) ?_
    exact J19_2171 (-1 : Int32) _ _ _ hP hD hS (lv_sub hl [0, 1, 2, 3] rfl) hf
theorem dk_X8_hide : yX8_hide.cls ≠ "java/lang/invoke/MethodHandle" ∧ yX8_hide.cls ≠ "java/lang/invoke/VarHandle" ∧ (parseMethodDescriptor yX8_hide.desc).map (fun d => d.parameters.length) = some 1 := by decide +kernel
theorem iu_X8_hide_X8 : ∀ w ∈ u_ws RX8 TX8 29, w ∈ wsX8_hide := by decide +kernel
set_option maxHeartbeats 4000000 in
set_option maxRecDepth 100000 in
theorem k_X8_hide {l : Launch} {G : Gx} (a : Nat → Nat) (v : St) (x1 : Int32) {r : Int32} {v' : St} (hf : f_X8_hide v x1 = some (r, v')) : FC l G yX8_hide wsX8_hide ({ frames := 6, cells := 0, slots := 0, locals := 134 } : Room) [.ref (a 0), .int x1] (mW G a v) (mW G a v') (some (.int r)) := by
  refine fc_head (cc := cX8_hide) (maxL := 6) (ret := (some .int)) (C := RX8) (lv := [(0, .ref (a 0)), (1, .int x1)]) (by decide) rfl rfl (Nat.le_of_ble_eq_true rfl) rfl ?_
  intro p e s m below meth c ls A hx hb hr hml hown hts hlocks hE hP hD hAB hS hl
  have hCF : CallFix p m c cX8_hide 6 s ([.ref (a 0), .int x1] : List Value).toArray wsX8_hide RX8 := ⟨hx, hb, hml, hown, hts⟩
  have hwX8 : ∀ w ∈ u_ws RX8 TX8 29, w.before ([.ref (a 0), .int x1] : List Value).toArray s = true := fun w h => hts w (iu_X8_hide_X8 w h)
  have hk_fieldLink_RX8_19__BrideNotKnownModel___foot____I_ := hts (.fieldLink RX8 19 "BrideNotKnownModel" "foot" "[I") (List.mem_of_getElem? (i := 2) rfl)
  have hk_fieldLink_RX8_22__BrideNotKnownModel___state____I_ := hts (.fieldLink RX8 22 "BrideNotKnownModel" "state" "[I") (List.mem_of_getElem? (i := 1) rfl)
  rw [f_X8_hide] at hf
  refine lv_aload_n hx hb dX8_hide_0 rfl (lv_at hl 0 rfl) ?_
  refine lv_iload_n hx hb dX8_hide_1 rfl (lv_at hl 1 rfl) ?_
  obtain ⟨q2194, hq2194, hf⟩ := bnd hf
  refine fc_callV (Wa' := (mW G a v)) (st1 := [.int q2194]) (As := [.int x1]) (rest := []) hCF (k_X8_isBride a v x1 hq2194) (cwV 1 hts gX8_hide_X8_isBride rfl rfl rfl ⟨rfl, dk_X8_isBride⟩ ⟨Nat.le_of_ble_eq_true rfl, Nat.le_of_ble_eq_true rfl⟩) hE hAB hP hD hS [0, 1, 2, 3, 4, 5, 6, 7, 8, 9, 10, 11, 12, 13, 14, 15, 16, 17, 18, 19, 20, 21, 22, 23, 24] mW_d (mW_c G a v) (va_recv hE.1 hP (ci := 5) (q0 := 0) rfl (mW_o G a v)) (mW_f G a v v) (mW_s G a v v) rfl rfl hl.1 rfl (Nat.le_of_ble_eq_true rfl) dX8_hide_2 ⟨Nat.le_refl _, Nat.le_refl _⟩ (fun H locs hP hD hS => ?_)
  have J27_2196 : ∀ (s0_2195 : Int32) (H : Heap) (locs : List Loc) (ls : Array Slot), va_P (gD G) vwCl (mW G a v) H → va_D A (mW G a v) → va_S A s.heap H locs → lv_has ls 6 [(0, .ref (a 0)), (1, .int x1)] → f_X8_hide_27 v x1 s0_2195 = some (r, v') → W p l e (headSpec wsX8_hide ({ frames := 6, cells := 0, slots := 0, locals := 134 } : Room)).room s m ([.ref (a 0), .int x1] : List Value).toArray below meth c H locs 0 0 (MQ below (FQ G A (mW G a v') (some (.int r))) ([.ref (a 0), .int x1] : List Value).toArray s 0 0 A) (F0 m 27 ls [.int s0_2195]) := by
    intro s0_2195 H locs ls hP hD hS hl hf
    rw [f_X8_hide_27] at hf
    refine lv_istore_n (lv' := [(2, .int s0_2195), (0, .ref (a 0)), (1, .int x1)]) hx hb dX8_hide_27 rfl hl (by decide) rfl (fun ls hl => ?_)
    refine lv_iload_n hx hb dX8_hide_28 rfl (lv_at hl 0 rfl) ?_
    refine lv_if_eq (tgt := 38) hx hb dX8_hide_29 (by decide) (fun c2197 => ?_) (fun c2197 => ?_)
    · have hf := ifT hf c2197
      refine lv_aload_n hx hb dX8_hide_38 rfl (lv_at hl 1 rfl) ?_
      refine fc_get (v := .ref (a 4)) (ci := 5) (C := RX8) (T := TX8) (N := 29) hx hb hwX8 hown hE hP 0 (mW_o G a v) rfl 3 (by decide) hk_fieldLink_RX8_19__BrideNotKnownModel___foot____I_ (fun _ h => h) rfl dX8_hide_39 ?_
      refine lv_iload_n hx hb dX8_hide_42 rfl (lv_at hl 2 rfl) ?_
      obtain ⟨c2198, hf⟩ := gd_some hf
      refine fc_iald (n := 8) (f := (v 3)) hx hb hE hP 4 (mW_a4 G a v) (inB_in c2198) dX8_hide_43 ?_
      refine lv_istore_n (lv' := [(3, .int ((v 3) x1.toNatClampNeg)), (2, .int s0_2195), (0, .ref (a 0)), (1, .int x1)]) hx hb dX8_hide_44 rfl hl (by decide) rfl (fun ls hl => ?_)
      refine lv_bipush (v := (-9 : Int32)) hx hb dX8_hide_45 (by decide) ?_
      refine lv_istore (lv' := [(4, .int (-9 : Int32)), (3, .int ((v 3) x1.toNatClampNeg)), (2, .int s0_2195), (0, .ref (a 0)), (1, .int x1)]) hx hb dX8_hide_47 hl (by decide) rfl (fun ls hl => ?_)
      refine lv_iconst (v := (0 : Int32)) hx hb dX8_hide_49 (by decide) ?_
      refine lv_istore (lv' := [(5, .int (0 : Int32)), (4, .int (-9 : Int32)), (3, .int ((v 3) x1.toNatClampNeg)), (2, .int s0_2195), (0, .ref (a 0)), (1, .int x1)]) hx hb dX8_hide_50 hl (by decide) rfl (fun ls hl => ?_)
      have L52_2202 : ∀ (n : Nat) (x4_2199 : Int32) (x5_2200 : Int32) (v_2201 : St) (H : Heap) (locs : List Loc) (ls : Array Slot), va_P (gD G) vwCl (mW G a v_2201) H → va_D A (mW G a v_2201) → va_S A s.heap H locs → lv_has ls 6 [(0, .ref (a 0)), (1, .int x1), (3, .int ((v 3) x1.toNatClampNeg)), (4, .int x4_2199), (5, .int x5_2200)] → f_X8_hide_52 x1 ((v 3) x1.toNatClampNeg) n x4_2199 x5_2200 v_2201 = some (r, v') → W p l e (headSpec wsX8_hide ({ frames := 6, cells := 0, slots := 0, locals := 134 } : Room)).room s m ([.ref (a 0), .int x1] : List Value).toArray below meth c H locs 0 0 (MQ below (FQ G A (mW G a v') (some (.int r))) ([.ref (a 0), .int x1] : List Value).toArray s 0 0 A) (F0 m 52 ls []) := by
        intro n
        induction n with
        | zero =>
          intro x4_2199 x5_2200 v_2201 H locs ls hP hD hS hl hf
          exact no_some hf
        | succ n ih =>
          intro x4_2199 x5_2200 v_2201 H locs ls hP hD hS hl hf
          rw [f_X8_hide_52] at hf
          refine lv_iload hx hb dX8_hide_52 (lv_at hl 4 rfl) ?_
          refine lv_bipush (v := (63 : Int32)) hx hb dX8_hide_54 (by decide) ?_
          refine lv_icmp_gt (tgt := 108) hx hb dX8_hide_56 (by decide) (fun c2203 => ?_) (fun c2203 => ?_)
          · have hf := ifT hf c2203
            refine lv_aload_n hx hb dX8_hide_108 rfl (lv_at hl 0 rfl) ?_
            refine fc_get (v := .ref (a 4)) (ci := 5) (C := RX8) (T := TX8) (N := 29) hx hb hwX8 hown hE hP 0 (mW_o G a v_2201) rfl 3 (by decide) hk_fieldLink_RX8_19__BrideNotKnownModel___foot____I_ (fun _ h => h) rfl dX8_hide_109 ?_
            refine lv_iload_n hx hb dX8_hide_112 rfl (lv_at hl 1 rfl) ?_
            refine lv_iload_n hx hb dX8_hide_113 rfl (lv_at hl 2 rfl) ?_
            obtain ⟨c2204, hf⟩ := gd_some hf
            refine fc_iast (n := 8) (f := (v_2201 3)) (Wa' := (mW G a (sA v_2201 3 (upd (v_2201 3) x1.toNatClampNeg ((v 3) x1.toNatClampNeg))))) hx hb hE hP hD hS 4 (mW_a4 G a v_2201) (inB_in c2204) dX8_hide_114 (mW_t4 G a v_2201 (upd (v_2201 3) x1.toNatClampNeg ((v 3) x1.toNatClampNeg))) (fun H locs hP hD hS => ?_)
            refine lv_iload hx hb dX8_hide_115 (lv_at hl 3 rfl) ?_
            exact fc_reti hx hb hr hlocks hP hS dX8_hide_117 (i2a hf) (congrArg (fun z => (mW G a z)) (i2b hf))
          · have hf := ifF hf c2203
            refine lv_aload_n hx hb dX8_hide_59 rfl (lv_at hl 0 rfl) ?_
            refine fc_get (v := .ref (a 4)) (ci := 5) (C := RX8) (T := TX8) (N := 29) hx hb hwX8 hown hE hP 0 (mW_o G a v_2201) rfl 3 (by decide) hk_fieldLink_RX8_19__BrideNotKnownModel___foot____I_ (fun _ h => h) rfl dX8_hide_60 ?_
            refine lv_iload_n hx hb dX8_hide_63 rfl (lv_at hl 1 rfl) ?_
            refine lv_iload_n hx hb dX8_hide_64 rfl (lv_at hl 2 rfl) ?_
            refine lv_iload hx hb dX8_hide_65 (lv_at hl 4 rfl) ?_
            refine lv_ixor hx hb dX8_hide_67 ?_
            obtain ⟨c2205, hf⟩ := gd_some hf
            refine fc_iast (n := 8) (f := (v_2201 3)) (Wa' := (mW G a (sA v_2201 3 (upd (v_2201 3) x1.toNatClampNeg (((v 3) x1.toNatClampNeg) ^^^ x5_2200))))) hx hb hE hP hD hS 4 (mW_a4 G a v_2201) (inB_in c2205) dX8_hide_68 (mW_t4 G a v_2201 (upd (v_2201 3) x1.toNatClampNeg (((v 3) x1.toNatClampNeg) ^^^ x5_2200))) (fun H locs hP hD hS => ?_)
            refine lv_aload_n hx hb dX8_hide_69 rfl (lv_at hl 0 rfl) ?_
            obtain ⟨q2206, hq2206, hf⟩ := bnd hf
            refine fc_callV (Wa' := (mW G a (sA v_2201 3 (upd (v_2201 3) x1.toNatClampNeg (((v 3) x1.toNatClampNeg) ^^^ x5_2200))))) (st1 := [.int q2206]) (As := []) (rest := []) hCF (k_X8_knownOnes a (sA v_2201 3 (upd (v_2201 3) x1.toNatClampNeg (((v 3) x1.toNatClampNeg) ^^^ x5_2200))) hq2206) (cwV 0 hts gX8_hide_X8_knownOnes rfl rfl rfl ⟨rfl, dk_X8_knownOnes⟩ ⟨Nat.le_of_ble_eq_true rfl, Nat.le_of_ble_eq_true rfl⟩) hE hAB hP hD hS [0, 1, 2, 3, 4, 5, 6, 7, 8, 9, 10, 11, 12, 13, 14, 15, 16, 17, 18, 19, 20, 21, 22, 23, 24] mW_d (mW_c G a (sA v_2201 3 (upd (v_2201 3) x1.toNatClampNeg (((v 3) x1.toNatClampNeg) ^^^ x5_2200)))) (va_recv hE.1 hP (ci := 5) (q0 := 0) rfl (mW_o G a (sA v_2201 3 (upd (v_2201 3) x1.toNatClampNeg (((v 3) x1.toNatClampNeg) ^^^ x5_2200))))) (mW_f G a (sA v_2201 3 (upd (v_2201 3) x1.toNatClampNeg (((v 3) x1.toNatClampNeg) ^^^ x5_2200))) (sA v_2201 3 (upd (v_2201 3) x1.toNatClampNeg (((v 3) x1.toNatClampNeg) ^^^ x5_2200)))) (mW_s G a (sA v_2201 3 (upd (v_2201 3) x1.toNatClampNeg (((v 3) x1.toNatClampNeg) ^^^ x5_2200))) (sA v_2201 3 (upd (v_2201 3) x1.toNatClampNeg (((v 3) x1.toNatClampNeg) ^^^ x5_2200)))) rfl rfl hl.1 rfl (Nat.le_of_ble_eq_true rfl) dX8_hide_70 ⟨Nat.le_refl _, Nat.le_refl _⟩ (fun H locs hP hD hS => ?_)
            refine lv_iload_n hx hb dX8_hide_73 rfl (lv_at hl 1 rfl) ?_
            obtain ⟨q2207, hq2207, hf⟩ := bnd hf
            refine fc_callS (Wa' := (mW G a (sA v_2201 3 (upd (v_2201 3) x1.toNatClampNeg (((v 3) x1.toNatClampNeg) ^^^ x5_2200))))) (st1 := [.int q2207]) (As := [.int q2206, .int x1]) (rest := []) hCF (k_X8_has q2206 x1 hq2207) (va_cwS 2 hts gX8_hide_X8_has rfl rfl rfl dk_X8_has ⟨Nat.le_of_ble_eq_true rfl, Nat.le_of_ble_eq_true rfl⟩) hE hAB hP hD hS [] rfl rfl rfl rfl rfl rfl hl.1 rfl (Nat.le_of_ble_eq_true rfl) dX8_hide_74 ⟨Nat.le_refl _, Nat.le_refl _⟩ (fun H locs hP hD hS => ?_)
            refine lv_if_ne (tgt := 102) hx hb dX8_hide_77 (by decide) (fun c2208 => ?_) (fun c2208 => ?_)
            · have hf := ifF hf c2208
              refine lv_iinc (v := (x5_2200 + (1 : Int32))) (lv' := [(5, .int (x5_2200 + (1 : Int32))), (0, .ref (a 0)), (1, .int x1), (3, .int ((v 3) x1.toNatClampNeg)), (4, .int x4_2199)]) hx hb dX8_hide_102 hl (k := 4) rfl rfl (by decide) rfl (fun ls hl => ?_)
              refine lv_goto (tgt := 52) hx hb dX8_hide_105 (by decide) ?_
              exact ih x4_2199 (x5_2200 + (1 : Int32)) (sA v_2201 3 (upd (v_2201 3) x1.toNatClampNeg (((v 3) x1.toNatClampNeg) ^^^ x5_2200))) _ _ _ hP hD hS (lv_sub hl [1, 2, 3, 4, 0] rfl) hf
            · have hf := ifT hf c2208
              refine lv_iload hx hb dX8_hide_80 (lv_at hl 3 rfl) ?_
              refine lv_if_lt (tgt := 98) hx hb dX8_hide_82 (by decide) (fun c2209 => ?_) (fun c2209 => ?_)
              · have hf := ifT hf c2209
                refine lv_iload hx hb dX8_hide_98 (lv_at hl 4 rfl) ?_
                refine lv_istore (lv' := [(4, .int x5_2200), (0, .ref (a 0)), (1, .int x1), (3, .int ((v 3) x1.toNatClampNeg)), (5, .int x5_2200)]) hx hb dX8_hide_100 hl (by decide) rfl (fun ls hl => ?_)
                refine lv_iinc (v := (x5_2200 + (1 : Int32))) (lv' := [(5, .int (x5_2200 + (1 : Int32))), (4, .int x5_2200), (0, .ref (a 0)), (1, .int x1), (3, .int ((v 3) x1.toNatClampNeg))]) hx hb dX8_hide_102 hl (k := 4) rfl rfl (by decide) rfl (fun ls hl => ?_)
                refine lv_goto (tgt := 52) hx hb dX8_hide_105 (by decide) ?_
                exact ih x5_2200 (x5_2200 + (1 : Int32)) (sA v_2201 3 (upd (v_2201 3) x1.toNatClampNeg (((v 3) x1.toNatClampNeg) ^^^ x5_2200))) _ _ _ hP hD hS (lv_sub hl [2, 3, 4, 1, 0] rfl) hf
              · have hf := ifF hf c2209
                refine lv_iload hx hb dX8_hide_85 (lv_at hl 4 rfl) ?_
                obtain ⟨q2210, hq2210, hf⟩ := bnd hf
                refine fc_callS (Wa' := (mW G a (sA v_2201 3 (upd (v_2201 3) x1.toNatClampNeg (((v 3) x1.toNatClampNeg) ^^^ x5_2200))))) (st1 := [.int q2210]) (As := [.int x5_2200]) (rest := []) hCF (k_X8_bits x5_2200 hq2210) (va_cwS 1 hts gX8_hide_X8_bits rfl rfl rfl dk_X8_bits ⟨Nat.le_of_ble_eq_true rfl, Nat.le_of_ble_eq_true rfl⟩) hE hAB hP hD hS [] rfl rfl rfl rfl rfl rfl hl.1 rfl (Nat.le_of_ble_eq_true rfl) dX8_hide_87 ⟨Nat.le_refl _, Nat.le_refl _⟩ (fun H locs hP hD hS => ?_)
                refine lv_iload hx hb dX8_hide_90 (lv_at hl 3 rfl) ?_
                obtain ⟨q2211, hq2211, hf⟩ := bnd hf
                refine fc_callS (Wa' := (mW G a (sA v_2201 3 (upd (v_2201 3) x1.toNatClampNeg (((v 3) x1.toNatClampNeg) ^^^ x5_2200))))) (st1 := [.int q2211, .int q2210]) (As := [.int x4_2199]) (rest := [.int q2210]) hCF (k_X8_bits x4_2199 hq2211) (va_cwS 1 hts gX8_hide_X8_bits rfl rfl rfl dk_X8_bits ⟨Nat.le_of_ble_eq_true rfl, Nat.le_of_ble_eq_true rfl⟩) hE hAB hP hD hS [] rfl rfl rfl rfl rfl rfl hl.1 rfl (Nat.le_of_ble_eq_true rfl) dX8_hide_92 ⟨Nat.le_refl _, Nat.le_refl _⟩ (fun H locs hP hD hS => ?_)
                refine lv_icmp_ge (tgt := 102) hx hb dX8_hide_95 (by decide) (fun c2212 => ?_) (fun c2212 => ?_)
                · have hf := ifT hf c2212
                  refine lv_iinc (v := (x5_2200 + (1 : Int32))) (lv' := [(5, .int (x5_2200 + (1 : Int32))), (0, .ref (a 0)), (1, .int x1), (3, .int ((v 3) x1.toNatClampNeg)), (4, .int x4_2199)]) hx hb dX8_hide_102 hl (k := 4) rfl rfl (by decide) rfl (fun ls hl => ?_)
                  refine lv_goto (tgt := 52) hx hb dX8_hide_105 (by decide) ?_
                  exact ih x4_2199 (x5_2200 + (1 : Int32)) (sA v_2201 3 (upd (v_2201 3) x1.toNatClampNeg (((v 3) x1.toNatClampNeg) ^^^ x5_2200))) _ _ _ hP hD hS (lv_sub hl [1, 2, 3, 4, 0] rfl) hf
                · have hf := ifF hf c2212
                  refine lv_iload hx hb dX8_hide_98 (lv_at hl 4 rfl) ?_
                  refine lv_istore (lv' := [(4, .int x5_2200), (0, .ref (a 0)), (1, .int x1), (3, .int ((v 3) x1.toNatClampNeg)), (5, .int x5_2200)]) hx hb dX8_hide_100 hl (by decide) rfl (fun ls hl => ?_)
                  refine lv_iinc (v := (x5_2200 + (1 : Int32))) (lv' := [(5, .int (x5_2200 + (1 : Int32))), (4, .int x5_2200), (0, .ref (a 0)), (1, .int x1), (3, .int ((v 3) x1.toNatClampNeg))]) hx hb dX8_hide_102 hl (k := 4) rfl rfl (by decide) rfl (fun ls hl => ?_)
                  refine lv_goto (tgt := 52) hx hb dX8_hide_105 (by decide) ?_
                  exact ih x5_2200 (x5_2200 + (1 : Int32)) (sA v_2201 3 (upd (v_2201 3) x1.toNatClampNeg (((v 3) x1.toNatClampNeg) ^^^ x5_2200))) _ _ _ hP hD hS (lv_sub hl [2, 3, 4, 1, 0] rfl) hf
      exact L52_2202 FUEL (-9 : Int32) (0 : Int32) v _ _ _ hP hD hS (lv_sub hl [4, 5, 2, 1, 0] rfl) hf
    · have hf := ifF hf c2197
      refine lv_aload_n hx hb dX8_hide_32 rfl (lv_at hl 1 rfl) ?_
      refine lv_iload_n hx hb dX8_hide_33 rfl (lv_at hl 0 rfl) ?_
      obtain ⟨q2213, hq2213, hf⟩ := bnd hf
      refine fc_callV (Wa' := (mW G a q2213.2)) (st1 := [.int q2213.1]) (As := [.int s0_2195]) (rest := []) hCF (k_X8_no a v s0_2195 hq2213) (cwV 1 hts gX8_hide_X8_no rfl rfl rfl ⟨rfl, dk_X8_no⟩ ⟨Nat.le_of_ble_eq_true rfl, Nat.le_of_ble_eq_true rfl⟩) hE hAB hP hD hS [0, 1, 2, 3, 4, 5, 6, 7, 8, 9, 10, 11, 12, 13, 14, 15, 16, 17, 18, 19, 20, 21, 22, 23, 24] mW_d (mW_c G a v) (va_recv hE.1 hP (ci := 5) (q0 := 0) rfl (mW_o G a v)) (mW_f G a v q2213.2) (mW_s G a v q2213.2) rfl rfl hl.1 rfl (Nat.le_of_ble_eq_true rfl) dX8_hide_34 ⟨Nat.le_refl _, Nat.le_refl _⟩ (fun H locs hP hD hS => ?_)
      exact fc_reti hx hb hr hlocks hP hS dX8_hide_37 (i2a hf) (congrArg (fun z => (mW G a z)) (i2b hf))
  refine lv_if_ne (tgt := 12) hx hb dX8_hide_5 (by decide) (fun c2214 => ?_) (fun c2214 => ?_)
  · have hf := ifF hf c2214
    refine lv_aload_n hx hb dX8_hide_12 rfl (lv_at hl 0 rfl) ?_
    refine fc_get (v := .ref (a 5)) (ci := 5) (C := RX8) (T := TX8) (N := 29) hx hb hwX8 hown hE hP 0 (mW_o G a v) rfl 4 (by decide) hk_fieldLink_RX8_22__BrideNotKnownModel___state____I_ (fun _ h => h) rfl dX8_hide_13 ?_
    refine lv_iload_n hx hb dX8_hide_16 rfl (lv_at hl 1 rfl) ?_
    obtain ⟨c2215, hf⟩ := gd_some hf
    refine fc_iald (n := 8) (f := (v 4)) hx hb hE hP 5 (mW_a5 G a v) (inB_in c2215) dX8_hide_17 ?_
    refine lv_if_eq (tgt := 26) hx hb dX8_hide_18 (by decide) (fun c2216 => ?_) (fun c2216 => ?_)
    · have hf := ifT hf c2216
      refine lv_iconst (v := (0 : Int32)) hx hb dX8_hide_26 (by decide) ?_
      exact J27_2196 (0 : Int32) _ _ _ hP hD hS (lv_sub hl [0, 1] rfl) hf
    · have hf := ifF hf c2216
      refine lv_bipush (v := (-3 : Int32)) hx hb dX8_hide_21 (by decide) ?_
      refine lv_goto (tgt := 27) hx hb dX8_hide_23 (by decide) ?_
      exact J27_2196 (-3 : Int32) _ _ _ hP hD hS (lv_sub hl [0, 1] rfl) hf
  · have hf := ifT hf c2214
    refine lv_iconst (v := (-1 : Int32)) hx hb dX8_hide_8 (by decide) ?_
    refine lv_goto (tgt := 27) hx hb dX8_hide_9 (by decide) ?_
    exact J27_2196 (-1 : Int32) _ _ _ hP hD hS (lv_sub hl [0, 1] rfl) hf
theorem dk_X8_image : yX8_image.cls ≠ "java/lang/invoke/MethodHandle" ∧ yX8_image.cls ≠ "java/lang/invoke/VarHandle" ∧ (parseMethodDescriptor yX8_image.desc).map (fun d => d.parameters.length) = some 0 := by decide +kernel
theorem iu_X8_image_X8 : ∀ w ∈ u_ws RX8 TX8 29, w ∈ wsX8_image := by decide +kernel
set_option maxHeartbeats 4000000 in
set_option maxRecDepth 100000 in
theorem k_X8_image {l : Launch} {G : Gx} (a : Nat → Nat) (v : St) {r : Int32} {v' : St} (hf : f_X8_image v = some (r, v')) : FC l G yX8_image wsX8_image ({ frames := 2, cells := 0, slots := 0, locals := 44 } : Room) [.ref (a 0)] (mW G a v) (mW G a v') (some (.int r)) := by
  refine fc_head (cc := cX8_image) (maxL := 1) (ret := (some .int)) (C := RX8) (lv := [(0, .ref (a 0))]) (by decide) rfl rfl (Nat.le_of_ble_eq_true rfl) rfl ?_
  intro p e s m below meth c ls A hx hb hr hml hown hts hlocks hE hP hD hAB hS hl
  have hCF : CallFix p m c cX8_image 1 s ([.ref (a 0)] : List Value).toArray wsX8_image RX8 := ⟨hx, hb, hml, hown, hts⟩
  have hwX8 : ∀ w ∈ u_ws RX8 TX8 29, w.before ([.ref (a 0)] : List Value).toArray s = true := fun w h => hts w (iu_X8_image_X8 w h)
  have hk_fieldLink_RX8_170__BrideNotKnownModel___hasImage___Z_ := hts (.fieldLink RX8 170 "BrideNotKnownModel" "hasImage" "Z") (List.mem_of_getElem? (i := 1) rfl)
  have hk_fieldLink_RX8_117__BrideNotKnownModel___year___I_ := hts (.fieldLink RX8 117 "BrideNotKnownModel" "year" "I") (List.mem_of_getElem? (i := 2) rfl)
  rw [f_X8_image] at hf
  refine lv_aload_n hx hb dX8_image_0 rfl (lv_at hl 0 rfl) ?_
  refine lv_iconst (v := (1 : Int32)) hx hb dX8_image_1 (by decide) ?_
  refine fc_put (Wa' := (mW G a (sA v 23 (upd (v 23) 6 (1 : Int32))))) (ci := 5) (C := RX8) (T := TX8) (N := 29) hx hb hwX8 tyX8 tyX8_ok nmX8 hown hE hP hD hS 0 (mW_o G a v) rfl 21 (by decide) hk_fieldLink_RX8_170__BrideNotKnownModel___hasImage___Z_ (fun _ h => h) rfl (by decide) (by decide) (Nat.le_of_ble_eq_true rfl) dX8_image_2 (mW_p21 G a v (1 : Int32)) (fun H locs hP hD hS => ?_)
  refine lv_aload_n hx hb dX8_image_5 rfl (lv_at hl 0 rfl) ?_
  refine lv_iconst (v := (0 : Int32)) hx hb dX8_image_6 (by decide) ?_
  refine lv_iconst (v := (1 : Int32)) hx hb dX8_image_7 (by decide) ?_
  obtain ⟨q2218, hq2218, hf⟩ := bnd hf
  refine fc_callV (Wa' := (mW G a q2218)) (st1 := []) (As := [.int (0 : Int32), .int (1 : Int32)]) (rest := []) hCF (k_X8_passesAll a (sA v 23 (upd (v 23) 6 (1 : Int32))) (0 : Int32) (1 : Int32) hq2218) (cwV 2 hts gX8_image_X8_passesAll rfl rfl rfl ⟨rfl, dk_X8_passesAll⟩ ⟨Nat.le_of_ble_eq_true rfl, Nat.le_of_ble_eq_true rfl⟩) hE hAB hP hD hS [0, 1, 2, 3, 4, 5, 6, 7, 8, 9, 10, 11, 12, 13, 14, 15, 16, 17, 18, 19, 20, 21, 22, 23, 24] mW_d (mW_c G a (sA v 23 (upd (v 23) 6 (1 : Int32)))) (va_recv hE.1 hP (ci := 5) (q0 := 0) rfl (mW_o G a (sA v 23 (upd (v 23) 6 (1 : Int32))))) (mW_f G a (sA v 23 (upd (v 23) 6 (1 : Int32))) q2218) (mW_s G a (sA v 23 (upd (v 23) 6 (1 : Int32))) q2218) rfl rfl hl.1 rfl (Nat.le_of_ble_eq_true rfl) dX8_image_8 ⟨Nat.le_refl _, Nat.le_refl _⟩ (fun H locs hP hD hS => ?_)
  refine lv_aload_n hx hb dX8_image_11 rfl (lv_at hl 0 rfl) ?_
  refine fc_get (v := .int (q2218 23 2)) (ci := 5) (C := RX8) (T := TX8) (N := 29) hx hb hwX8 hown hE hP 0 (mW_o G a q2218) rfl 12 (by decide) hk_fieldLink_RX8_117__BrideNotKnownModel___year___I_ (fun _ h => h) rfl dX8_image_12 ?_
  exact fc_reti hx hb hr hlocks hP hS dX8_image_15 (i2a hf) (congrArg (fun z => (mW G a z)) (i2b hf))
theorem dk_X8_judge : yX8_judge.cls ≠ "java/lang/invoke/MethodHandle" ∧ yX8_judge.cls ≠ "java/lang/invoke/VarHandle" ∧ (parseMethodDescriptor yX8_judge.desc).map (fun d => d.parameters.length) = some 0 := by decide +kernel
theorem iu_X8_judge_X8 : ∀ w ∈ u_ws RX8 TX8 29, w ∈ wsX8_judge := by decide +kernel
set_option maxHeartbeats 4000000 in
set_option maxRecDepth 100000 in
theorem k_X8_judge {l : Launch} {G : Gx} (a : Nat → Nat) (v : St) {r : Int32} {v' : St} (hf : f_X8_judge v = some (r, v')) : FC l G yX8_judge wsX8_judge ({ frames := 4, cells := 0, slots := 0, locals := 89 } : Room) [.ref (a 0)] (mW G a v) (mW G a v') (some (.int r)) := by
  refine fc_head (cc := cX8_judge) (maxL := 3) (ret := (some .int)) (C := RX8) (lv := [(0, .ref (a 0))]) (by decide) rfl rfl (Nat.le_of_ble_eq_true rfl) rfl ?_
  intro p e s m below meth c ls A hx hb hr hml hown hts hlocks hE hP hD hAB hS hl
  have hCF : CallFix p m c cX8_judge 3 s ([.ref (a 0)] : List Value).toArray wsX8_judge RX8 := ⟨hx, hb, hml, hown, hts⟩
  have hwX8 : ∀ w ∈ u_ws RX8 TX8 29, w.before ([.ref (a 0)] : List Value).toArray s = true := fun w h => hts w (iu_X8_judge_X8 w h)
  have hk_fieldLink_RX8_250__BrideNotKnownModel___rowMany___I_ := hts (.fieldLink RX8 250 "BrideNotKnownModel" "rowMany" "I") (List.mem_of_getElem? (i := 1) rfl)
  have hk_fieldLink_RX8_76__BrideNotKnownModel___grooms___I_ := hts (.fieldLink RX8 76 "BrideNotKnownModel" "grooms" "I") (List.mem_of_getElem? (i := 2) rfl)
  have hk_fieldLink_RX8_60__BrideNotKnownModel___row____I_ := hts (.fieldLink RX8 60 "BrideNotKnownModel" "row" "[I") (List.mem_of_getElem? (i := 3) rfl)
  rw [f_X8_judge] at hf
  refine lv_aload_n hx hb dX8_judge_0 rfl (lv_at hl 0 rfl) ?_
  refine fc_get (v := .int (v 23 9)) (ci := 5) (C := RX8) (T := TX8) (N := 29) hx hb hwX8 hown hE hP 0 (mW_o G a v) rfl 26 (by decide) hk_fieldLink_RX8_250__BrideNotKnownModel___rowMany___I_ (fun _ h => h) rfl dX8_judge_1 ?_
  refine lv_istore_n (lv' := [(1, .int (v 23 9)), (0, .ref (a 0))]) hx hb dX8_judge_4 rfl hl (by decide) rfl (fun ls hl => ?_)
  refine lv_aload_n hx hb dX8_judge_5 rfl (lv_at hl 1 rfl) ?_
  refine lv_iconst (v := (0 : Int32)) hx hb dX8_judge_6 (by decide) ?_
  refine fc_put (Wa' := (mW G a (sA v 23 (upd (v 23) 9 (0 : Int32))))) (ci := 5) (C := RX8) (T := TX8) (N := 29) hx hb hwX8 tyX8 tyX8_ok nmX8 hown hE hP hD hS 0 (mW_o G a v) rfl 26 (by decide) hk_fieldLink_RX8_250__BrideNotKnownModel___rowMany___I_ (fun _ h => h) rfl rfl rfl (Nat.le_of_ble_eq_true rfl) dX8_judge_7 (mW_p26 G a v (0 : Int32)) (fun H locs hP hD hS => ?_)
  refine lv_iconst (v := (0 : Int32)) hx hb dX8_judge_10 (by decide) ?_
  refine lv_istore_n (lv' := [(2, .int (0 : Int32)), (1, .int (v 23 9)), (0, .ref (a 0))]) hx hb dX8_judge_11 rfl hl (by decide) rfl (fun ls hl => ?_)
  have L12_2222 : ∀ (n : Nat) (x2_2221 : Int32) (H : Heap) (locs : List Loc) (ls : Array Slot), va_P (gD G) vwCl (mW G a (sA v 23 (upd (v 23) 9 (0 : Int32)))) H → va_D A (mW G a (sA v 23 (upd (v 23) 9 (0 : Int32)))) → va_S A s.heap H locs → lv_has ls 3 [(0, .ref (a 0)), (1, .int (v 23 9)), (2, .int x2_2221)] → f_X8_judge_12 (sA v 23 (upd (v 23) 9 (0 : Int32))) (v 23 9) n x2_2221 = some (r, v') → W p l e (headSpec wsX8_judge ({ frames := 4, cells := 0, slots := 0, locals := 89 } : Room)).room s m ([.ref (a 0)] : List Value).toArray below meth c H locs 0 0 (MQ below (FQ G A (mW G a v') (some (.int r))) ([.ref (a 0)] : List Value).toArray s 0 0 A) (F0 m 12 ls []) := by
    intro n
    induction n with
    | zero =>
      intro x2_2221 H locs ls hP hD hS hl hf
      exact no_some hf
    | succ n ih =>
      intro x2_2221 H locs ls hP hD hS hl hf
      rw [f_X8_judge_12] at hf
      refine lv_iload_n hx hb dX8_judge_12 rfl (lv_at hl 2 rfl) ?_
      refine lv_iload_n hx hb dX8_judge_13 rfl (lv_at hl 1 rfl) ?_
      refine lv_icmp_ge (tgt := 50) hx hb dX8_judge_14 (by decide) (fun c2223 => ?_) (fun c2223 => ?_)
      · have hf := ifT hf c2223
        refine lv_bipush (v := (-9 : Int32)) hx hb dX8_judge_50 (by decide) ?_
        exact fc_reti hx hb hr hlocks hP hS dX8_judge_52 (i2a hf) (congrArg (fun z => (mW G a z)) (i2b hf))
      · have hf := ifF hf c2223
        refine lv_iload_n hx hb dX8_judge_17 rfl (lv_at hl 2 rfl) ?_
        refine lv_aload_n hx hb dX8_judge_18 rfl (lv_at hl 0 rfl) ?_
        refine fc_get (v := .int (v 23 1)) (ci := 5) (C := RX8) (T := TX8) (N := 29) hx hb hwX8 hown hE hP 0 (mW_o G a (sA v 23 (upd (v 23) 9 (0 : Int32)))) rfl 11 (by decide) hk_fieldLink_RX8_76__BrideNotKnownModel___grooms___I_ (fun _ h => h) rfl dX8_judge_19 ?_
        refine lv_icmp_ge (tgt := 42) hx hb dX8_judge_22 (by decide) (fun c2224 => ?_) (fun c2224 => ?_)
        · have hf := ifT hf c2224
          refine lv_iload_n hx hb dX8_judge_42 rfl (lv_at hl 2 rfl) ?_
          exact fc_reti hx hb hr hlocks hP hS dX8_judge_43 (i2a hf) (congrArg (fun z => (mW G a z)) (i2b hf))
        · have hf := ifF hf c2224
          refine lv_aload_n hx hb dX8_judge_25 rfl (lv_at hl 0 rfl) ?_
          refine lv_iload_n hx hb dX8_judge_26 rfl (lv_at hl 2 rfl) ?_
          obtain ⟨q2225, hq2225, hf⟩ := bnd hf
          refine fc_callV (Wa' := (mW G a (sA v 23 (upd (v 23) 9 (0 : Int32))))) (st1 := [.int q2225]) (As := [.int x2_2221]) (rest := []) hCF (k_X8_guesses a (sA v 23 (upd (v 23) 9 (0 : Int32))) x2_2221 hq2225) (cwV 1 hts gX8_judge_X8_guesses rfl rfl rfl ⟨rfl, dk_X8_guesses⟩ ⟨Nat.le_of_ble_eq_true rfl, Nat.le_of_ble_eq_true rfl⟩) hE hAB hP hD hS [0, 1, 2, 3, 4, 5, 6, 7, 8, 9, 10, 11, 12, 13, 14, 15, 16, 17, 18, 19, 20, 21, 22, 23, 24] mW_d (mW_c G a (sA v 23 (upd (v 23) 9 (0 : Int32)))) (va_recv hE.1 hP (ci := 5) (q0 := 0) rfl (mW_o G a (sA v 23 (upd (v 23) 9 (0 : Int32))))) (mW_f G a (sA v 23 (upd (v 23) 9 (0 : Int32))) (sA v 23 (upd (v 23) 9 (0 : Int32)))) (mW_s G a (sA v 23 (upd (v 23) 9 (0 : Int32))) (sA v 23 (upd (v 23) 9 (0 : Int32)))) rfl rfl hl.1 rfl (Nat.le_of_ble_eq_true rfl) dX8_judge_27 ⟨Nat.le_refl _, Nat.le_refl _⟩ (fun H locs hP hD hS => ?_)
          obtain ⟨q2226, hq2226, hf⟩ := bnd hf
          refine fc_callS (Wa' := (mW G a (sA v 23 (upd (v 23) 9 (0 : Int32))))) (st1 := [.int q2226]) (As := [.int q2225]) (rest := []) hCF (k_X8_bits q2225 hq2226) (va_cwS 1 hts gX8_judge_X8_bits rfl rfl rfl dk_X8_bits ⟨Nat.le_of_ble_eq_true rfl, Nat.le_of_ble_eq_true rfl⟩) hE hAB hP hD hS [] rfl rfl rfl rfl rfl rfl hl.1 rfl (Nat.le_of_ble_eq_true rfl) dX8_judge_30 ⟨Nat.le_refl _, Nat.le_refl _⟩ (fun H locs hP hD hS => ?_)
          refine lv_aload_n hx hb dX8_judge_33 rfl (lv_at hl 0 rfl) ?_
          refine fc_get (v := .ref (a 16)) (ci := 5) (C := RX8) (T := TX8) (N := 29) hx hb hwX8 hown hE hP 0 (mW_o G a (sA v 23 (upd (v 23) 9 (0 : Int32)))) rfl 25 (by decide) hk_fieldLink_RX8_60__BrideNotKnownModel___row____I_ (fun _ h => h) rfl dX8_judge_34 ?_
          refine lv_iload_n hx hb dX8_judge_37 rfl (lv_at hl 2 rfl) ?_
          obtain ⟨c2227, hf⟩ := gd_some hf
          refine fc_iald (n := 16) (f := (v 15)) hx hb hE hP 16 (mW_a16 G a (sA v 23 (upd (v 23) 9 (0 : Int32)))) (inB_in c2227) dX8_judge_38 ?_
          refine lv_icmp_eq (tgt := 44) hx hb dX8_judge_39 (by decide) (fun c2228 => ?_) (fun c2228 => ?_)
          · have hf := ifT hf c2228
            refine lv_iinc (v := (x2_2221 + (1 : Int32))) (lv' := [(2, .int (x2_2221 + (1 : Int32))), (0, .ref (a 0)), (1, .int (v 23 9))]) hx hb dX8_judge_44 hl (k := 2) rfl rfl (by decide) rfl (fun ls hl => ?_)
            refine lv_goto (tgt := 12) hx hb dX8_judge_47 (by decide) ?_
            exact ih (x2_2221 + (1 : Int32)) _ _ _ hP hD hS (lv_sub hl [1, 2, 0] rfl) hf
          · have hf := ifF hf c2228
            refine lv_iload_n hx hb dX8_judge_42 rfl (lv_at hl 2 rfl) ?_
            exact fc_reti hx hb hr hlocks hP hS dX8_judge_43 (i2a hf) (congrArg (fun z => (mW G a z)) (i2b hf))
  exact L12_2222 FUEL (0 : Int32) _ _ _ hP hD hS (lv_sub hl [2, 1, 0] rfl) hf
theorem dk_X8_kindOf : yX8_kindOf.cls ≠ "java/lang/invoke/MethodHandle" ∧ yX8_kindOf.cls ≠ "java/lang/invoke/VarHandle" ∧ (parseMethodDescriptor yX8_kindOf.desc).map (fun d => d.parameters.length) = some 1 := by decide +kernel
set_option maxHeartbeats 4000000 in
set_option maxRecDepth 100000 in
theorem k_X8_kindOf {l : Launch} {G : Gx} (x0 : Int32) {r : Int32} (hf : f_X8_kindOf x0 = some r) : FC l G yX8_kindOf wsX8_kindOf ({ frames := 0, cells := 0, slots := 0, locals := 0 } : Room) [.int x0] ([] : va_W) ([] : va_W) (some (.int r)) := by
  refine fc_head (cc := cX8_kindOf) (maxL := 1) (ret := (some .int)) (C := RX8) (lv := [(0, .int x0)]) (by decide) rfl rfl (Nat.le_of_ble_eq_true rfl) rfl ?_
  intro p e s m below meth c ls A hx hb hr hml hown hts hlocks hE hP hD hAB hS hl
  have hCF : CallFix p m c cX8_kindOf 1 s ([.int x0] : List Value).toArray wsX8_kindOf RX8 := ⟨hx, hb, hml, hown, hts⟩
  rw [f_X8_kindOf] at hf
  refine lv_iload_n hx hb dX8_kindOf_0 rfl (lv_at hl 0 rfl) ?_
  refine lv_bipush (v := (98 : Int32)) hx hb dX8_kindOf_1 (by decide) ?_
  refine lv_icmp_ne (tgt := 10) hx hb dX8_kindOf_3 (by decide) (fun c2229 => ?_) (fun c2229 => ?_)
  · have hf := ifF hf c2229
    refine lv_iload_n hx hb dX8_kindOf_10 rfl (lv_at hl 0 rfl) ?_
    refine lv_bipush (v := (115 : Int32)) hx hb dX8_kindOf_11 (by decide) ?_
    refine lv_icmp_ne (tgt := 20) hx hb dX8_kindOf_13 (by decide) (fun c2230 => ?_) (fun c2230 => ?_)
    · have hf := ifF hf c2230
      refine lv_iload_n hx hb dX8_kindOf_20 rfl (lv_at hl 0 rfl) ?_
      refine lv_bipush (v := (102 : Int32)) hx hb dX8_kindOf_21 (by decide) ?_
      refine lv_icmp_ne (tgt := 30) hx hb dX8_kindOf_23 (by decide) (fun c2231 => ?_) (fun c2231 => ?_)
      · have hf := ifF hf c2231
        refine lv_iload_n hx hb dX8_kindOf_30 rfl (lv_at hl 0 rfl) ?_
        refine lv_bipush (v := (99 : Int32)) hx hb dX8_kindOf_31 (by decide) ?_
        refine lv_icmp_ne (tgt := 40) hx hb dX8_kindOf_33 (by decide) (fun c2232 => ?_) (fun c2232 => ?_)
        · have hf := ifF hf c2232
          refine lv_iload_n hx hb dX8_kindOf_40 rfl (lv_at hl 0 rfl) ?_
          refine lv_bipush (v := (116 : Int32)) hx hb dX8_kindOf_41 (by decide) ?_
          refine lv_icmp_ne (tgt := 50) hx hb dX8_kindOf_43 (by decide) (fun c2233 => ?_) (fun c2233 => ?_)
          · have hf := ifF hf c2233
            refine lv_iload_n hx hb dX8_kindOf_50 rfl (lv_at hl 0 rfl) ?_
            refine lv_bipush (v := (109 : Int32)) hx hb dX8_kindOf_51 (by decide) ?_
            refine lv_icmp_ne (tgt := 60) hx hb dX8_kindOf_53 (by decide) (fun c2234 => ?_) (fun c2234 => ?_)
            · have hf := ifF hf c2234
              refine lv_iconst (v := (-1 : Int32)) hx hb dX8_kindOf_60 (by decide) ?_
              exact fc_reti hx hb hr hlocks hP hS dX8_kindOf_61 (i1 hf) rfl
            · have hf := ifT hf c2234
              refine lv_iconst (v := (5 : Int32)) hx hb dX8_kindOf_56 (by decide) ?_
              refine lv_goto (tgt := 61) hx hb dX8_kindOf_57 (by decide) ?_
              exact fc_reti hx hb hr hlocks hP hS dX8_kindOf_61 (i1 hf) rfl
          · have hf := ifT hf c2233
            refine lv_iconst (v := (4 : Int32)) hx hb dX8_kindOf_46 (by decide) ?_
            refine lv_goto (tgt := 61) hx hb dX8_kindOf_47 (by decide) ?_
            exact fc_reti hx hb hr hlocks hP hS dX8_kindOf_61 (i1 hf) rfl
        · have hf := ifT hf c2232
          refine lv_iconst (v := (3 : Int32)) hx hb dX8_kindOf_36 (by decide) ?_
          refine lv_goto (tgt := 61) hx hb dX8_kindOf_37 (by decide) ?_
          exact fc_reti hx hb hr hlocks hP hS dX8_kindOf_61 (i1 hf) rfl
      · have hf := ifT hf c2231
        refine lv_iconst (v := (2 : Int32)) hx hb dX8_kindOf_26 (by decide) ?_
        refine lv_goto (tgt := 61) hx hb dX8_kindOf_27 (by decide) ?_
        exact fc_reti hx hb hr hlocks hP hS dX8_kindOf_61 (i1 hf) rfl
    · have hf := ifT hf c2230
      refine lv_iconst (v := (1 : Int32)) hx hb dX8_kindOf_16 (by decide) ?_
      refine lv_goto (tgt := 61) hx hb dX8_kindOf_17 (by decide) ?_
      exact fc_reti hx hb hr hlocks hP hS dX8_kindOf_61 (i1 hf) rfl
  · have hf := ifT hf c2229
    refine lv_iconst (v := (0 : Int32)) hx hb dX8_kindOf_6 (by decide) ?_
    refine lv_goto (tgt := 61) hx hb dX8_kindOf_7 (by decide) ?_
    exact fc_reti hx hb hr hlocks hP hS dX8_kindOf_61 (i1 hf) rfl
theorem dk_X8_known : yX8_known.cls ≠ "java/lang/invoke/MethodHandle" ∧ yX8_known.cls ≠ "java/lang/invoke/VarHandle" ∧ (parseMethodDescriptor yX8_known.desc).map (fun d => d.parameters.length) = some 1 := by decide +kernel
set_option maxHeartbeats 4000000 in
set_option maxRecDepth 100000 in
theorem k_X8_known {l : Launch} {G : Gx} (a : Nat → Nat) (v : St) (x1 : Int32) {r : Int32} {v' : St} (hf : f_X8_known v x1 = some (r, v')) : FC l G yX8_known wsX8_known ({ frames := 6, cells := 0, slots := 0, locals := 134 } : Room) [.ref (a 0), .int x1] (mW G a v) (mW G a v') (some (.int r)) := by
  refine fc_head (cc := cX8_known) (maxL := 2) (ret := (some .int)) (C := RX8) (lv := [(0, .ref (a 0)), (1, .int x1)]) (by decide) rfl rfl (Nat.le_of_ble_eq_true rfl) rfl ?_
  intro p e s m below meth c ls A hx hb hr hml hown hts hlocks hE hP hD hAB hS hl
  have hCF : CallFix p m c cX8_known 2 s ([.ref (a 0), .int x1] : List Value).toArray wsX8_known RX8 := ⟨hx, hb, hml, hown, hts⟩
  rw [f_X8_known] at hf
  refine lv_iload_n hx hb dX8_known_0 rfl (lv_at hl 1 rfl) ?_
  refine lv_iconst (v := (0 : Int32)) hx hb dX8_known_1 (by decide) ?_
  refine lv_iconst (v := (1 : Int32)) hx hb dX8_known_2 (by decide) ?_
  obtain ⟨q2240, hq2240, hf⟩ := bnd hf
  refine fc_callS (Wa' := (mW G a v)) (st1 := [.int q2240]) (As := [.int x1, .int (0 : Int32), .int (1 : Int32)]) (rest := []) hCF (k_X8_isIn x1 (0 : Int32) (1 : Int32) hq2240) (va_cwS 3 hts gX8_known_X8_isIn rfl rfl rfl dk_X8_isIn ⟨Nat.le_of_ble_eq_true rfl, Nat.le_of_ble_eq_true rfl⟩) hE hAB hP hD hS [] rfl rfl rfl rfl rfl rfl hl.1 rfl (Nat.le_of_ble_eq_true rfl) dX8_known_3 ⟨Nat.le_refl _, Nat.le_refl _⟩ (fun H locs hP hD hS => ?_)
  refine lv_if_ne (tgt := 16) hx hb dX8_known_6 (by decide) (fun c2241 => ?_) (fun c2241 => ?_)
  · have hf := ifF hf c2241
    refine lv_iload_n hx hb dX8_known_16 rfl (lv_at hl 1 rfl) ?_
    refine lv_if_ne (tgt := 27) hx hb dX8_known_17 (by decide) (fun c2242 => ?_) (fun c2242 => ?_)
    · have hf := ifF hf c2242
      refine lv_aload_n hx hb dX8_known_27 rfl (lv_at hl 0 rfl) ?_
      obtain ⟨q2243, hq2243, hf⟩ := bnd hf
      refine fc_callV (Wa' := (mW G a v)) (st1 := [.int q2243]) (As := []) (rest := []) hCF (k_X8_here a v hq2243) (cwV 0 hts gX8_known_X8_here rfl rfl rfl ⟨rfl, dk_X8_here⟩ ⟨Nat.le_of_ble_eq_true rfl, Nat.le_of_ble_eq_true rfl⟩) hE hAB hP hD hS [0, 1, 2, 3, 4, 5, 6, 7, 8, 9, 10, 11, 12, 13, 14, 15, 16, 17, 18, 19, 20, 21, 22, 23, 24] mW_d (mW_c G a v) (va_recv hE.1 hP (ci := 5) (q0 := 0) rfl (mW_o G a v)) (mW_f G a v v) (mW_s G a v v) rfl rfl hl.1 rfl (Nat.le_of_ble_eq_true rfl) dX8_known_28 ⟨Nat.le_refl _, Nat.le_refl _⟩ (fun H locs hP hD hS => ?_)
      refine lv_aload_n hx hb dX8_known_31 rfl (lv_at hl 0 rfl) ?_
      obtain ⟨q2244, hq2244, hf⟩ := bnd hf
      refine fc_callV (Wa' := (mW G a v)) (st1 := [.int q2244, .int q2243]) (As := []) (rest := [.int q2243]) hCF (k_X8_knownOnes a v hq2244) (cwV 0 hts gX8_known_X8_knownOnes rfl rfl rfl ⟨rfl, dk_X8_knownOnes⟩ ⟨Nat.le_of_ble_eq_true rfl, Nat.le_of_ble_eq_true rfl⟩) hE hAB hP hD hS [0, 1, 2, 3, 4, 5, 6, 7, 8, 9, 10, 11, 12, 13, 14, 15, 16, 17, 18, 19, 20, 21, 22, 23, 24] mW_d (mW_c G a v) (va_recv hE.1 hP (ci := 5) (q0 := 0) rfl (mW_o G a v)) (mW_f G a v v) (mW_s G a v v) rfl rfl hl.1 rfl (Nat.le_of_ble_eq_true rfl) dX8_known_32 ⟨Nat.le_refl _, Nat.le_refl _⟩ (fun H locs hP hD hS => ?_)
      refine lv_iconst (v := (-1 : Int32)) hx hb dX8_known_35 (by decide) ?_
      refine lv_ixor hx hb dX8_known_36 ?_
      refine lv_iand hx hb dX8_known_37 ?_
      exact fc_reti hx hb hr hlocks hP hS dX8_known_38 (i2a hf) (congrArg (fun z => (mW G a z)) (i2b hf))
    · have hf := ifT hf c2242
      refine lv_aload_n hx hb dX8_known_20 rfl (lv_at hl 0 rfl) ?_
      obtain ⟨q2245, hq2245, hf⟩ := bnd hf
      refine fc_callV (Wa' := (mW G a v)) (st1 := [.int q2245]) (As := []) (rest := []) hCF (k_X8_knownOnes a v hq2245) (cwV 0 hts gX8_known_X8_knownOnes rfl rfl rfl ⟨rfl, dk_X8_knownOnes⟩ ⟨Nat.le_of_ble_eq_true rfl, Nat.le_of_ble_eq_true rfl⟩) hE hAB hP hD hS [0, 1, 2, 3, 4, 5, 6, 7, 8, 9, 10, 11, 12, 13, 14, 15, 16, 17, 18, 19, 20, 21, 22, 23, 24] mW_d (mW_c G a v) (va_recv hE.1 hP (ci := 5) (q0 := 0) rfl (mW_o G a v)) (mW_f G a v v) (mW_s G a v v) rfl rfl hl.1 rfl (Nat.le_of_ble_eq_true rfl) dX8_known_21 ⟨Nat.le_refl _, Nat.le_refl _⟩ (fun H locs hP hD hS => ?_)
      refine lv_goto (tgt := 38) hx hb dX8_known_24 (by decide) ?_
      exact fc_reti hx hb hr hlocks hP hS dX8_known_38 (i2a hf) (congrArg (fun z => (mW G a z)) (i2b hf))
  · have hf := ifT hf c2241
    refine lv_aload_n hx hb dX8_known_9 rfl (lv_at hl 0 rfl) ?_
    refine lv_bipush (v := (-2 : Int32)) hx hb dX8_known_10 (by decide) ?_
    obtain ⟨q2246, hq2246, hf⟩ := bnd hf
    refine fc_callV (Wa' := (mW G a q2246.2)) (st1 := [.int q2246.1]) (As := [.int (-2 : Int32)]) (rest := []) hCF (k_X8_no a v (-2 : Int32) hq2246) (cwV 1 hts gX8_known_X8_no rfl rfl rfl ⟨rfl, dk_X8_no⟩ ⟨Nat.le_of_ble_eq_true rfl, Nat.le_of_ble_eq_true rfl⟩) hE hAB hP hD hS [0, 1, 2, 3, 4, 5, 6, 7, 8, 9, 10, 11, 12, 13, 14, 15, 16, 17, 18, 19, 20, 21, 22, 23, 24] mW_d (mW_c G a v) (va_recv hE.1 hP (ci := 5) (q0 := 0) rfl (mW_o G a v)) (mW_f G a v q2246.2) (mW_s G a v q2246.2) rfl rfl hl.1 rfl (Nat.le_of_ble_eq_true rfl) dX8_known_12 ⟨Nat.le_refl _, Nat.le_refl _⟩ (fun H locs hP hD hS => ?_)
    exact fc_reti hx hb hr hlocks hP hS dX8_known_15 (i2a hf) (congrArg (fun z => (mW G a z)) (i2b hf))
theorem dk_X8_letter : yX8_letter.cls ≠ "java/lang/invoke/MethodHandle" ∧ yX8_letter.cls ≠ "java/lang/invoke/VarHandle" ∧ (parseMethodDescriptor yX8_letter.desc).map (fun d => d.parameters.length) = some 1 := by decide +kernel
theorem iu_X8_letter_X8 : ∀ w ∈ u_ws RX8 TX8 29, w ∈ wsX8_letter := by decide +kernel
set_option maxHeartbeats 4000000 in
set_option maxRecDepth 100000 in
theorem k_X8_letter {l : Launch} {G : Gx} (a : Nat → Nat) (v : St) (x1 : Int32) {r : Int32} {v' : St} (hf : f_X8_letter v x1 = some (r, v')) : FC l G yX8_letter wsX8_letter ({ frames := 1, cells := 0, slots := 0, locals := 22 } : Room) [.ref (a 0), .int x1] (mW G a v) (mW G a v') (some (.int r)) := by
  refine fc_head (cc := cX8_letter) (maxL := 3) (ret := (some .int)) (C := RX8) (lv := [(0, .ref (a 0)), (1, .int x1)]) (by decide) rfl rfl (Nat.le_of_ble_eq_true rfl) rfl ?_
  intro p e s m below meth c ls A hx hb hr hml hown hts hlocks hE hP hD hAB hS hl
  have hCF : CallFix p m c cX8_letter 3 s ([.ref (a 0), .int x1] : List Value).toArray wsX8_letter RX8 := ⟨hx, hb, hml, hown, hts⟩
  have hwX8 : ∀ w ∈ u_ws RX8 TX8 29, w.before ([.ref (a 0), .int x1] : List Value).toArray s = true := fun w h => hts w (iu_X8_letter_X8 w h)
  have hk_fieldLink_RX8_40__BrideNotKnownModel___tape____I_ := hts (.fieldLink RX8 40 "BrideNotKnownModel" "tape" "[I") (List.mem_of_getElem? (i := 2) rfl)
  have hk_fieldLink_RX8_83__BrideNotKnownModel___taped___I_ := hts (.fieldLink RX8 83 "BrideNotKnownModel" "taped" "I") (List.mem_of_getElem? (i := 1) rfl)
  rw [f_X8_letter] at hf
  refine lv_iload_n hx hb dX8_letter_0 rfl (lv_at hl 1 rfl) ?_
  refine lv_iconst (v := (0 : Int32)) hx hb dX8_letter_1 (by decide) ?_
  refine lv_sipush (v := (255 : Int32)) hx hb dX8_letter_2 (by decide) ?_
  obtain ⟨q2249, hq2249, hf⟩ := bnd hf
  refine fc_callS (Wa' := (mW G a v)) (st1 := [.int q2249]) (As := [.int x1, .int (0 : Int32), .int (255 : Int32)]) (rest := []) hCF (k_X8_bound x1 (0 : Int32) (255 : Int32) hq2249) (va_cwS 3 hts gX8_letter_X8_bound rfl rfl rfl dk_X8_bound ⟨Nat.le_of_ble_eq_true rfl, Nat.le_of_ble_eq_true rfl⟩) hE hAB hP hD hS [] rfl rfl rfl rfl rfl rfl hl.1 rfl (Nat.le_of_ble_eq_true rfl) dX8_letter_5 ⟨Nat.le_refl _, Nat.le_refl _⟩ (fun H locs hP hD hS => ?_)
  refine lv_istore_n (lv' := [(2, .int q2249), (0, .ref (a 0)), (1, .int x1)]) hx hb dX8_letter_8 rfl hl (by decide) rfl (fun ls hl => ?_)
  refine lv_iload_n hx hb dX8_letter_9 rfl (lv_at hl 0 rfl) ?_
  have J25_2251 : ∀ (x2_2250 : Int32) (H : Heap) (locs : List Loc) (ls : Array Slot), va_P (gD G) vwCl (mW G a v) H → va_D A (mW G a v) → va_S A s.heap H locs → lv_has ls 3 [(0, .ref (a 0)), (1, .int x1), (2, .int x2_2250)] → f_X8_letter_25 v x1 x2_2250 = some (r, v') → W p l e (headSpec wsX8_letter ({ frames := 1, cells := 0, slots := 0, locals := 22 } : Room)).room s m ([.ref (a 0), .int x1] : List Value).toArray below meth c H locs 0 0 (MQ below (FQ G A (mW G a v') (some (.int r))) ([.ref (a 0), .int x1] : List Value).toArray s 0 0 A) (F0 m 25 ls []) := by
    intro x2_2250 H locs ls hP hD hS hl hf
    rw [f_X8_letter_25] at hf
    refine lv_iload_n hx hb dX8_letter_25 rfl (lv_at hl 2 rfl) ?_
    refine lv_if_eq (tgt := 35) hx hb dX8_letter_26 (by decide) (fun c2252 => ?_) (fun c2252 => ?_)
    · have hf := ifT hf c2252
      refine lv_aload_n hx hb dX8_letter_35 rfl (lv_at hl 0 rfl) ?_
      refine fc_get (v := .ref (a 11)) (ci := 5) (C := RX8) (T := TX8) (N := 29) hx hb hwX8 hown hE hP 0 (mW_o G a v) rfl 13 (by decide) hk_fieldLink_RX8_40__BrideNotKnownModel___tape____I_ (fun _ h => h) rfl dX8_letter_36 ?_
      refine lv_aload_n hx hb dX8_letter_39 rfl (lv_at hl 0 rfl) ?_
      refine fc_get (v := .int (v 23 3)) (ci := 5) (C := RX8) (T := TX8) (N := 29) hx hb hwX8 hown hE hP 0 (mW_o G a v) rfl 17 (by decide) hk_fieldLink_RX8_83__BrideNotKnownModel___taped___I_ (fun _ h => h) rfl dX8_letter_40 ?_
      refine lv_iload_n hx hb dX8_letter_43 rfl (lv_at hl 1 rfl) ?_
      obtain ⟨c2253, hf⟩ := gd_some hf
      refine fc_iast (n := 96) (f := (v 10)) (Wa' := (mW G a (sA v 10 (upd (v 10) (v 23 3).toNatClampNeg x1)))) hx hb hE hP hD hS 11 (mW_a11 G a v) (inB_in c2253) dX8_letter_44 (mW_t11 G a v (upd (v 10) (v 23 3).toNatClampNeg x1)) (fun H locs hP hD hS => ?_)
      refine lv_aload_n hx hb dX8_letter_45 rfl (lv_at hl 0 rfl) ?_
      refine lv_dup hx hb dX8_letter_46 rfl ?_
      refine fc_get (v := .int (v 23 3)) (ci := 5) (C := RX8) (T := TX8) (N := 29) hx hb hwX8 hown hE hP 0 (mW_o G a (sA v 10 (upd (v 10) (v 23 3).toNatClampNeg x1))) rfl 17 (by decide) hk_fieldLink_RX8_83__BrideNotKnownModel___taped___I_ (fun _ h => h) rfl dX8_letter_47 ?_
      refine lv_iconst (v := (1 : Int32)) hx hb dX8_letter_50 (by decide) ?_
      refine lv_iadd hx hb dX8_letter_51 ?_
      refine fc_put (Wa' := (mW G a (sA (sA v 10 (upd (v 10) (v 23 3).toNatClampNeg x1)) 23 (upd (v 23) 3 ((v 23 3) + (1 : Int32)))))) (ci := 5) (C := RX8) (T := TX8) (N := 29) hx hb hwX8 tyX8 tyX8_ok nmX8 hown hE hP hD hS 0 (mW_o G a (sA v 10 (upd (v 10) (v 23 3).toNatClampNeg x1))) rfl 17 (by decide) hk_fieldLink_RX8_83__BrideNotKnownModel___taped___I_ (fun _ h => h) rfl rfl rfl (Nat.le_of_ble_eq_true rfl) dX8_letter_52 (mW_p17 G a (sA v 10 (upd (v 10) (v 23 3).toNatClampNeg x1)) ((v 23 3) + (1 : Int32))) (fun H locs hP hD hS => ?_)
      refine lv_aload_n hx hb dX8_letter_55 rfl (lv_at hl 0 rfl) ?_
      refine fc_get (v := .int ((v 23 3) + (1 : Int32))) (ci := 5) (C := RX8) (T := TX8) (N := 29) hx hb hwX8 hown hE hP 0 (mW_o G a (sA (sA v 10 (upd (v 10) (v 23 3).toNatClampNeg x1)) 23 (upd (v 23) 3 ((v 23 3) + (1 : Int32))))) rfl 17 (by decide) hk_fieldLink_RX8_83__BrideNotKnownModel___taped___I_ (fun _ h => h) rfl dX8_letter_56 ?_
      exact fc_reti hx hb hr hlocks hP hS dX8_letter_59 (i2a hf) (congrArg (fun z => (mW G a z)) (i2b hf))
    · have hf := ifF hf c2252
      refine lv_aload_n hx hb dX8_letter_29 rfl (lv_at hl 0 rfl) ?_
      refine lv_iload_n hx hb dX8_letter_30 rfl (lv_at hl 2 rfl) ?_
      obtain ⟨q2254, hq2254, hf⟩ := bnd hf
      refine fc_callV (Wa' := (mW G a q2254.2)) (st1 := [.int q2254.1]) (As := [.int x2_2250]) (rest := []) hCF (k_X8_no a v x2_2250 hq2254) (cwV 1 hts gX8_letter_X8_no rfl rfl rfl ⟨rfl, dk_X8_no⟩ ⟨Nat.le_of_ble_eq_true rfl, Nat.le_of_ble_eq_true rfl⟩) hE hAB hP hD hS [0, 1, 2, 3, 4, 5, 6, 7, 8, 9, 10, 11, 12, 13, 14, 15, 16, 17, 18, 19, 20, 21, 22, 23, 24] mW_d (mW_c G a v) (va_recv hE.1 hP (ci := 5) (q0 := 0) rfl (mW_o G a v)) (mW_f G a v q2254.2) (mW_s G a v q2254.2) rfl rfl hl.1 rfl (Nat.le_of_ble_eq_true rfl) dX8_letter_31 ⟨Nat.le_refl _, Nat.le_refl _⟩ (fun H locs hP hD hS => ?_)
      exact fc_reti hx hb hr hlocks hP hS dX8_letter_34 (i2a hf) (congrArg (fun z => (mW G a z)) (i2b hf))
  refine lv_if_ne (tgt := 25) hx hb dX8_letter_10 (by decide) (fun c2255 => ?_) (fun c2255 => ?_)
  · have hf := ifF hf c2255
    exact J25_2251 q2249 _ _ _ hP hD hS (lv_sub hl [1, 2, 0] rfl) hf
  · have hf := ifT hf c2255
    refine lv_aload_n hx hb dX8_letter_13 rfl (lv_at hl 1 rfl) ?_
    refine fc_get (v := .int (v 23 3)) (ci := 5) (C := RX8) (T := TX8) (N := 29) hx hb hwX8 hown hE hP 0 (mW_o G a v) rfl 17 (by decide) hk_fieldLink_RX8_83__BrideNotKnownModel___taped___I_ (fun _ h => h) rfl dX8_letter_14 ?_
    refine lv_bipush (v := (96 : Int32)) hx hb dX8_letter_17 (by decide) ?_
    refine lv_icmp_ne (tgt := 25) hx hb dX8_letter_19 (by decide) (fun c2256 => ?_) (fun c2256 => ?_)
    · have hf := ifF hf c2256
      exact J25_2251 q2249 _ _ _ hP hD hS (lv_sub hl [1, 2, 0] rfl) hf
    · have hf := ifT hf c2256
      refine lv_bipush (v := (-6 : Int32)) hx hb dX8_letter_22 (by decide) ?_
      refine lv_istore_n (lv' := [(2, .int (-6 : Int32)), (0, .ref (a 0)), (1, .int x1)]) hx hb dX8_letter_24 rfl hl (by decide) rfl (fun ls hl => ?_)
      exact J25_2251 (-6 : Int32) _ _ _ hP hD hS (lv_sub hl [1, 2, 0] rfl) hf
theorem dk_X8_lies : yX8_lies.cls ≠ "java/lang/invoke/MethodHandle" ∧ yX8_lies.cls ≠ "java/lang/invoke/VarHandle" ∧ (parseMethodDescriptor yX8_lies.desc).map (fun d => d.parameters.length) = some 0 := by decide +kernel
theorem iu_X8_lies_X8 : ∀ w ∈ u_ws RX8 TX8 29, w ∈ wsX8_lies := by decide +kernel
set_option maxHeartbeats 4000000 in
set_option maxRecDepth 100000 in
theorem k_X8_lies {l : Launch} {G : Gx} (a : Nat → Nat) (v : St) {r : Int32} (hf : f_X8_lies v = some r) : FC l G yX8_lies wsX8_lies ({ frames := 2, cells := 0, slots := 0, locals := 44 } : Room) [.ref (a 0)] (mW G a v) (mW G a v) (some (.int r)) := by
  refine fc_head (cc := cX8_lies) (maxL := 3) (ret := (some .int)) (C := RX8) (lv := [(0, .ref (a 0))]) (by decide) rfl rfl (Nat.le_of_ble_eq_true rfl) rfl ?_
  intro p e s m below meth c ls A hx hb hr hml hown hts hlocks hE hP hD hAB hS hl
  have hCF : CallFix p m c cX8_lies 3 s ([.ref (a 0)] : List Value).toArray wsX8_lies RX8 := ⟨hx, hb, hml, hown, hts⟩
  have hwX8 : ∀ w ∈ u_ws RX8 TX8 29, w.before ([.ref (a 0)] : List Value).toArray s = true := fun w h => hts w (iu_X8_lies_X8 w h)
  have hk_fieldLink_RX8_66__BrideNotKnownModel___brides___I_ := hts (.fieldLink RX8 66 "BrideNotKnownModel" "brides" "I") (List.mem_of_getElem? (i := 1) rfl)
  have hk_fieldLink_RX8_22__BrideNotKnownModel___state____I_ := hts (.fieldLink RX8 22 "BrideNotKnownModel" "state" "[I") (List.mem_of_getElem? (i := 2) rfl)
  have hk_fieldLink_RX8_19__BrideNotKnownModel___foot____I_ := hts (.fieldLink RX8 19 "BrideNotKnownModel" "foot" "[I") (List.mem_of_getElem? (i := 3) rfl)
  rw [f_X8_lies] at hf
  refine lv_iconst (v := (0 : Int32)) hx hb dX8_lies_0 (by decide) ?_
  refine lv_istore_n (lv' := [(1, .int (0 : Int32)), (0, .ref (a 0))]) hx hb dX8_lies_1 rfl hl (by decide) rfl (fun ls hl => ?_)
  refine lv_iconst (v := (0 : Int32)) hx hb dX8_lies_2 (by decide) ?_
  refine lv_istore_n (lv' := [(2, .int (0 : Int32)), (1, .int (0 : Int32)), (0, .ref (a 0))]) hx hb dX8_lies_3 rfl hl (by decide) rfl (fun ls hl => ?_)
  have L4_2261 : ∀ (n : Nat) (x1_2259 : Int32) (x2_2260 : Int32) (H : Heap) (locs : List Loc) (ls : Array Slot), va_P (gD G) vwCl (mW G a v) H → va_D A (mW G a v) → va_S A s.heap H locs → lv_has ls 3 [(0, .ref (a 0)), (1, .int x1_2259), (2, .int x2_2260)] → f_X8_lies_4 v n x1_2259 x2_2260 = some r → W p l e (headSpec wsX8_lies ({ frames := 2, cells := 0, slots := 0, locals := 44 } : Room)).room s m ([.ref (a 0)] : List Value).toArray below meth c H locs 0 0 (MQ below (FQ G A (mW G a v) (some (.int r))) ([.ref (a 0)] : List Value).toArray s 0 0 A) (F0 m 4 ls []) := by
    intro n
    induction n with
    | zero =>
      intro x1_2259 x2_2260 H locs ls hP hD hS hl hf
      exact no_some hf
    | succ n ih =>
      intro x1_2259 x2_2260 H locs ls hP hD hS hl hf
      rw [f_X8_lies_4] at hf
      refine lv_iload_n hx hb dX8_lies_4 rfl (lv_at hl 2 rfl) ?_
      refine lv_aload_n hx hb dX8_lies_5 rfl (lv_at hl 0 rfl) ?_
      refine fc_get (v := .int (v 23 0)) (ci := 5) (C := RX8) (T := TX8) (N := 29) hx hb hwX8 hown hE hP 0 (mW_o G a v) rfl 10 (by decide) hk_fieldLink_RX8_66__BrideNotKnownModel___brides___I_ (fun _ h => h) rfl dX8_lies_6 ?_
      refine lv_icmp_ge (tgt := 49) hx hb dX8_lies_9 (by decide) (fun c2262 => ?_) (fun c2262 => ?_)
      · have hf := ifT hf c2262
        refine lv_iload_n hx hb dX8_lies_49 rfl (lv_at hl 1 rfl) ?_
        exact fc_reti hx hb hr hlocks hP hS dX8_lies_50 (i1 hf) rfl
      · have hf := ifF hf c2262
        refine lv_iload_n hx hb dX8_lies_12 rfl (lv_at hl 1 rfl) ?_
        refine lv_aload_n hx hb dX8_lies_13 rfl (lv_at hl 0 rfl) ?_
        refine fc_get (v := .ref (a 5)) (ci := 5) (C := RX8) (T := TX8) (N := 29) hx hb hwX8 hown hE hP 0 (mW_o G a v) rfl 4 (by decide) hk_fieldLink_RX8_22__BrideNotKnownModel___state____I_ (fun _ h => h) rfl dX8_lies_14 ?_
        refine lv_iload_n hx hb dX8_lies_17 rfl (lv_at hl 2 rfl) ?_
        obtain ⟨c2263, hf⟩ := gd_some hf
        refine fc_iald (n := 8) (f := (v 4)) hx hb hE hP 5 (mW_a5 G a v) (inB_in c2263) dX8_lies_18 ?_
        refine lv_if_ne (tgt := 40) hx hb dX8_lies_19 (by decide) (fun c2264 => ?_) (fun c2264 => ?_)
        · have hf := ifF hf c2264
          refine lv_iconst (v := (0 : Int32)) hx hb dX8_lies_40 (by decide) ?_
          refine lv_iadd hx hb dX8_lies_41 ?_
          refine lv_istore_n (lv' := [(1, .int (x1_2259 + (0 : Int32))), (0, .ref (a 0)), (2, .int x2_2260)]) hx hb dX8_lies_42 rfl hl (by decide) rfl (fun ls hl => ?_)
          refine lv_iinc (v := (x2_2260 + (1 : Int32))) (lv' := [(2, .int (x2_2260 + (1 : Int32))), (1, .int (x1_2259 + (0 : Int32))), (0, .ref (a 0))]) hx hb dX8_lies_43 hl (k := 2) rfl rfl (by decide) rfl (fun ls hl => ?_)
          refine lv_goto (tgt := 4) hx hb dX8_lies_46 (by decide) ?_
          exact ih (x1_2259 + (0 : Int32)) (x2_2260 + (1 : Int32)) _ _ _ hP hD hS (lv_sub hl [2, 1, 0] rfl) hf
        · have hf := ifT hf c2264
          refine lv_aload_n hx hb dX8_lies_22 rfl (lv_at hl 0 rfl) ?_
          refine lv_iload_n hx hb dX8_lies_23 rfl (lv_at hl 2 rfl) ?_
          obtain ⟨q2265, hq2265, hf⟩ := bnd hf
          refine fc_callV (Wa' := (mW G a v)) (st1 := [.int q2265, .int x1_2259]) (As := [.int x2_2260]) (rest := [.int x1_2259]) hCF (k_X8_showsOf a v x2_2260 hq2265) (cwV 1 hts gX8_lies_X8_showsOf rfl rfl rfl ⟨rfl, dk_X8_showsOf⟩ ⟨Nat.le_of_ble_eq_true rfl, Nat.le_of_ble_eq_true rfl⟩) hE hAB hP hD hS [0, 1, 2, 3, 4, 5, 6, 7, 8, 9, 10, 11, 12, 13, 14, 15, 16, 17, 18, 19, 20, 21, 22, 23, 24] mW_d (mW_c G a v) (va_recv hE.1 hP (ci := 5) (q0 := 0) rfl (mW_o G a v)) (mW_f G a v v) (mW_s G a v v) rfl rfl hl.1 rfl (Nat.le_of_ble_eq_true rfl) dX8_lies_24 ⟨Nat.le_refl _, Nat.le_refl _⟩ (fun H locs hP hD hS => ?_)
          refine lv_aload_n hx hb dX8_lies_27 rfl (lv_at hl 0 rfl) ?_
          refine fc_get (v := .ref (a 4)) (ci := 5) (C := RX8) (T := TX8) (N := 29) hx hb hwX8 hown hE hP 0 (mW_o G a v) rfl 3 (by decide) hk_fieldLink_RX8_19__BrideNotKnownModel___foot____I_ (fun _ h => h) rfl dX8_lies_28 ?_
          refine lv_iload_n hx hb dX8_lies_31 rfl (lv_at hl 2 rfl) ?_
          obtain ⟨c2266, hf⟩ := gd_some hf
          refine fc_iald (n := 8) (f := (v 3)) hx hb hE hP 4 (mW_a4 G a v) (inB_in c2266) dX8_lies_32 ?_
          refine lv_ixor hx hb dX8_lies_33 ?_
          obtain ⟨q2267, hq2267, hf⟩ := bnd hf
          refine fc_callS (Wa' := (mW G a v)) (st1 := [.int q2267, .int x1_2259]) (As := [.int (q2265 ^^^ ((v 3) x2_2260.toNatClampNeg))]) (rest := [.int x1_2259]) hCF (k_X8_bits (q2265 ^^^ ((v 3) x2_2260.toNatClampNeg)) hq2267) (va_cwS 1 hts gX8_lies_X8_bits rfl rfl rfl dk_X8_bits ⟨Nat.le_of_ble_eq_true rfl, Nat.le_of_ble_eq_true rfl⟩) hE hAB hP hD hS [] rfl rfl rfl rfl rfl rfl hl.1 rfl (Nat.le_of_ble_eq_true rfl) dX8_lies_34 ⟨Nat.le_refl _, Nat.le_refl _⟩ (fun H locs hP hD hS => ?_)
          refine lv_goto (tgt := 41) hx hb dX8_lies_37 (by decide) ?_
          refine lv_iadd hx hb dX8_lies_41 ?_
          refine lv_istore_n (lv' := [(1, .int (x1_2259 + q2267)), (0, .ref (a 0)), (2, .int x2_2260)]) hx hb dX8_lies_42 rfl hl (by decide) rfl (fun ls hl => ?_)
          refine lv_iinc (v := (x2_2260 + (1 : Int32))) (lv' := [(2, .int (x2_2260 + (1 : Int32))), (1, .int (x1_2259 + q2267)), (0, .ref (a 0))]) hx hb dX8_lies_43 hl (k := 2) rfl rfl (by decide) rfl (fun ls hl => ?_)
          refine lv_goto (tgt := 4) hx hb dX8_lies_46 (by decide) ?_
          exact ih (x1_2259 + q2267) (x2_2260 + (1 : Int32)) _ _ _ hP hD hS (lv_sub hl [2, 1, 0] rfl) hf
  exact L4_2261 FUEL (0 : Int32) (0 : Int32) _ _ _ hP hD hS (lv_sub hl [2, 1, 0] rfl) hf
theorem dk_X8_looks : yX8_looks.cls ≠ "java/lang/invoke/MethodHandle" ∧ yX8_looks.cls ≠ "java/lang/invoke/VarHandle" ∧ (parseMethodDescriptor yX8_looks.desc).map (fun d => d.parameters.length) = some 2 := by decide +kernel
theorem iu_X8_looks_X8 : ∀ w ∈ u_ws RX8 TX8 29, w ∈ wsX8_looks := by decide +kernel
set_option maxHeartbeats 4000000 in
set_option maxRecDepth 100000 in
theorem k_X8_looks {l : Launch} {G : Gx} (a : Nat → Nat) (v : St) (x1 : Int32) (x2 : Int32) {r : Int32} {v' : St} (hf : f_X8_looks v x1 x2 = some (r, v')) : FC l G yX8_looks wsX8_looks ({ frames := 1, cells := 0, slots := 0, locals := 22 } : Room) [.ref (a 0), .int x1, .int x2] (mW G a v) (mW G a v') (some (.int r)) := by
  refine fc_head (cc := cX8_looks) (maxL := 5) (ret := (some .int)) (C := RX8) (lv := [(0, .ref (a 0)), (1, .int x1), (2, .int x2)]) (by decide) rfl rfl (Nat.le_of_ble_eq_true rfl) rfl ?_
  intro p e s m below meth c ls A hx hb hr hml hown hts hlocks hE hP hD hAB hS hl
  have hCF : CallFix p m c cX8_looks 5 s ([.ref (a 0), .int x1, .int x2] : List Value).toArray wsX8_looks RX8 := ⟨hx, hb, hml, hown, hts⟩
  have hwX8 : ∀ w ∈ u_ws RX8 TX8 29, w.before ([.ref (a 0), .int x1, .int x2] : List Value).toArray s = true := fun w h => hts w (iu_X8_looks_X8 w h)
  have hk_fieldLink_RX8_28__BrideNotKnownModel___looks____I_ := hts (.fieldLink RX8 28 "BrideNotKnownModel" "looks" "[I") (List.mem_of_getElem? (i := 1) rfl)
  rw [f_X8_looks] at hf
  refine lv_aload_n hx hb dX8_looks_0 rfl (lv_at hl 0 rfl) ?_
  refine lv_iload_n hx hb dX8_looks_1 rfl (lv_at hl 1 rfl) ?_
  obtain ⟨q2271, hq2271, hf⟩ := bnd hf
  refine fc_callV (Wa' := (mW G a v)) (st1 := [.int q2271]) (As := [.int x1]) (rest := []) hCF (k_X8_isGroom a v x1 hq2271) (cwV 1 hts gX8_looks_X8_isGroom rfl rfl rfl ⟨rfl, dk_X8_isGroom⟩ ⟨Nat.le_of_ble_eq_true rfl, Nat.le_of_ble_eq_true rfl⟩) hE hAB hP hD hS [0, 1, 2, 3, 4, 5, 6, 7, 8, 9, 10, 11, 12, 13, 14, 15, 16, 17, 18, 19, 20, 21, 22, 23, 24] mW_d (mW_c G a v) (va_recv hE.1 hP (ci := 5) (q0 := 0) rfl (mW_o G a v)) (mW_f G a v v) (mW_s G a v v) rfl rfl hl.1 rfl (Nat.le_of_ble_eq_true rfl) dX8_looks_2 ⟨Nat.le_refl _, Nat.le_refl _⟩ (fun H locs hP hD hS => ?_)
  have J19_2273 : ∀ (s0_2272 : Int32) (H : Heap) (locs : List Loc) (ls : Array Slot), va_P (gD G) vwCl (mW G a v) H → va_D A (mW G a v) → va_S A s.heap H locs → lv_has ls 5 [(0, .ref (a 0)), (1, .int x1), (2, .int x2)] → f_X8_looks_19 v x1 x2 s0_2272 = some (r, v') → W p l e (headSpec wsX8_looks ({ frames := 1, cells := 0, slots := 0, locals := 22 } : Room)).room s m ([.ref (a 0), .int x1, .int x2] : List Value).toArray below meth c H locs 0 0 (MQ below (FQ G A (mW G a v') (some (.int r))) ([.ref (a 0), .int x1, .int x2] : List Value).toArray s 0 0 A) (F0 m 19 ls [.int s0_2272]) := by
    intro s0_2272 H locs ls hP hD hS hl hf
    rw [f_X8_looks_19] at hf
    refine lv_istore_n (lv' := [(3, .int s0_2272), (0, .ref (a 0)), (1, .int x1), (2, .int x2)]) hx hb dX8_looks_19 rfl hl (by decide) rfl (fun ls hl => ?_)
    refine lv_iload_n hx hb dX8_looks_20 rfl (lv_at hl 0 rfl) ?_
    refine lv_if_eq (tgt := 30) hx hb dX8_looks_21 (by decide) (fun c2274 => ?_) (fun c2274 => ?_)
    · have hf := ifT hf c2274
      refine lv_aload_n hx hb dX8_looks_30 rfl (lv_at hl 1 rfl) ?_
      refine fc_get (v := .ref (a 7)) (ci := 5) (C := RX8) (T := TX8) (N := 29) hx hb hwX8 hown hE hP 0 (mW_o G a v) rfl 6 (by decide) hk_fieldLink_RX8_28__BrideNotKnownModel___looks____I_ (fun _ h => h) rfl dX8_looks_31 ?_
      refine lv_iload_n hx hb dX8_looks_34 rfl (lv_at hl 2 rfl) ?_
      obtain ⟨c2275, hf⟩ := gd_some hf
      refine fc_iald (n := 5) (f := (v 6)) hx hb hE hP 7 (mW_a7 G a v) (inB_in c2275) dX8_looks_35 ?_
      refine lv_istore (lv' := [(4, .int ((v 6) x1.toNatClampNeg)), (3, .int s0_2272), (0, .ref (a 0)), (1, .int x1), (2, .int x2)]) hx hb dX8_looks_36 hl (by decide) rfl (fun ls hl => ?_)
      refine lv_aload_n hx hb dX8_looks_38 rfl (lv_at hl 2 rfl) ?_
      refine fc_get (v := .ref (a 7)) (ci := 5) (C := RX8) (T := TX8) (N := 29) hx hb hwX8 hown hE hP 0 (mW_o G a v) rfl 6 (by decide) hk_fieldLink_RX8_28__BrideNotKnownModel___looks____I_ (fun _ h => h) rfl dX8_looks_39 ?_
      refine lv_iload_n hx hb dX8_looks_42 rfl (lv_at hl 3 rfl) ?_
      refine lv_iload_n hx hb dX8_looks_43 rfl (lv_at hl 4 rfl) ?_
      obtain ⟨c2276, hf⟩ := gd_some hf
      refine fc_iast (n := 5) (f := (v 6)) (Wa' := (mW G a (sA v 6 (upd (v 6) x1.toNatClampNeg x2)))) hx hb hE hP hD hS 7 (mW_a7 G a v) (inB_in c2276) dX8_looks_44 (mW_t7 G a v (upd (v 6) x1.toNatClampNeg x2)) (fun H locs hP hD hS => ?_)
      refine lv_iload hx hb dX8_looks_45 (lv_at hl 0 rfl) ?_
      exact fc_reti hx hb hr hlocks hP hS dX8_looks_47 (i2a hf) (congrArg (fun z => (mW G a z)) (i2b hf))
    · have hf := ifF hf c2274
      refine lv_aload_n hx hb dX8_looks_24 rfl (lv_at hl 1 rfl) ?_
      refine lv_iload_n hx hb dX8_looks_25 rfl (lv_at hl 0 rfl) ?_
      obtain ⟨q2277, hq2277, hf⟩ := bnd hf
      refine fc_callV (Wa' := (mW G a q2277.2)) (st1 := [.int q2277.1]) (As := [.int s0_2272]) (rest := []) hCF (k_X8_no a v s0_2272 hq2277) (cwV 1 hts gX8_looks_X8_no rfl rfl rfl ⟨rfl, dk_X8_no⟩ ⟨Nat.le_of_ble_eq_true rfl, Nat.le_of_ble_eq_true rfl⟩) hE hAB hP hD hS [0, 1, 2, 3, 4, 5, 6, 7, 8, 9, 10, 11, 12, 13, 14, 15, 16, 17, 18, 19, 20, 21, 22, 23, 24] mW_d (mW_c G a v) (va_recv hE.1 hP (ci := 5) (q0 := 0) rfl (mW_o G a v)) (mW_f G a v q2277.2) (mW_s G a v q2277.2) rfl rfl hl.1 rfl (Nat.le_of_ble_eq_true rfl) dX8_looks_26 ⟨Nat.le_refl _, Nat.le_refl _⟩ (fun H locs hP hD hS => ?_)
      exact fc_reti hx hb hr hlocks hP hS dX8_looks_29 (i2a hf) (congrArg (fun z => (mW G a z)) (i2b hf))
  refine lv_if_ne (tgt := 12) hx hb dX8_looks_5 (by decide) (fun c2278 => ?_) (fun c2278 => ?_)
  · have hf := ifF hf c2278
    refine lv_iload_n hx hb dX8_looks_12 rfl (lv_at hl 2 rfl) ?_
    refine lv_iconst (v := (0 : Int32)) hx hb dX8_looks_13 (by decide) ?_
    refine lv_bipush (v := (63 : Int32)) hx hb dX8_looks_14 (by decide) ?_
    obtain ⟨q2279, hq2279, hf⟩ := bnd hf
    refine fc_callS (Wa' := (mW G a v)) (st1 := [.int q2279]) (As := [.int x2, .int (0 : Int32), .int (63 : Int32)]) (rest := []) hCF (k_X8_bound x2 (0 : Int32) (63 : Int32) hq2279) (va_cwS 3 hts gX8_looks_X8_bound rfl rfl rfl dk_X8_bound ⟨Nat.le_of_ble_eq_true rfl, Nat.le_of_ble_eq_true rfl⟩) hE hAB hP hD hS [] rfl rfl rfl rfl rfl rfl hl.1 rfl (Nat.le_of_ble_eq_true rfl) dX8_looks_16 ⟨Nat.le_refl _, Nat.le_refl _⟩ (fun H locs hP hD hS => ?_)
    exact J19_2273 q2279 _ _ _ hP hD hS (lv_sub hl [0, 1, 2] rfl) hf
  · have hf := ifT hf c2278
    refine lv_iconst (v := (-1 : Int32)) hx hb dX8_looks_8 (by decide) ?_
    refine lv_goto (tgt := 19) hx hb dX8_looks_9 (by decide) ?_
    exact J19_2273 (-1 : Int32) _ _ _ hP hD hS (lv_sub hl [0, 1, 2] rfl) hf
theorem dk_X8_otherwise : yX8_otherwise.cls ≠ "java/lang/invoke/MethodHandle" ∧ yX8_otherwise.cls ≠ "java/lang/invoke/VarHandle" ∧ (parseMethodDescriptor yX8_otherwise.desc).map (fun d => d.parameters.length) = some 2 := by decide +kernel
theorem iu_X8_otherwise_X8 : ∀ w ∈ u_ws RX8 TX8 29, w ∈ wsX8_otherwise := by decide +kernel
set_option maxHeartbeats 4000000 in
set_option maxRecDepth 100000 in
theorem k_X8_otherwise {l : Launch} {G : Gx} (a : Nat → Nat) (v : St) (x1 : Int32) (x2 : Int32) {r : Int32} (hf : f_X8_otherwise v x1 x2 = some r) : FC l G yX8_otherwise wsX8_otherwise ({ frames := 1, cells := 0, slots := 0, locals := 22 } : Room) [.ref (a 0), .int x1, .int x2] (mW G a v) (mW G a v) (some (.int r)) := by
  refine fc_head (cc := cX8_otherwise) (maxL := 3) (ret := (some .int)) (C := RX8) (lv := [(0, .ref (a 0)), (1, .int x1), (2, .int x2)]) (by decide) rfl rfl (Nat.le_of_ble_eq_true rfl) rfl ?_
  intro p e s m below meth c ls A hx hb hr hml hown hts hlocks hE hP hD hAB hS hl
  have hCF : CallFix p m c cX8_otherwise 3 s ([.ref (a 0), .int x1, .int x2] : List Value).toArray wsX8_otherwise RX8 := ⟨hx, hb, hml, hown, hts⟩
  have hwX8 : ∀ w ∈ u_ws RX8 TX8 29, w.before ([.ref (a 0), .int x1, .int x2] : List Value).toArray s = true := fun w h => hts w (iu_X8_otherwise_X8 w h)
  have hk_fieldLink_RX8_19__BrideNotKnownModel___foot____I_ := hts (.fieldLink RX8 19 "BrideNotKnownModel" "foot" "[I") (List.mem_of_getElem? (i := 1) rfl)
  have hk_fieldLink_RX8_31__BrideNotKnownModel___mind____I_ := hts (.fieldLink RX8 31 "BrideNotKnownModel" "mind" "[I") (List.mem_of_getElem? (i := 2) rfl)
  rw [f_X8_otherwise] at hf
  refine lv_aload_n hx hb dX8_otherwise_0 rfl (lv_at hl 0 rfl) ?_
  refine fc_get (v := .ref (a 4)) (ci := 5) (C := RX8) (T := TX8) (N := 29) hx hb hwX8 hown hE hP 0 (mW_o G a v) rfl 3 (by decide) hk_fieldLink_RX8_19__BrideNotKnownModel___foot____I_ (fun _ h => h) rfl dX8_otherwise_1 ?_
  refine lv_iload_n hx hb dX8_otherwise_4 rfl (lv_at hl 1 rfl) ?_
  obtain ⟨c2281, hf⟩ := gd_some hf
  refine fc_iald (n := 8) (f := (v 3)) hx hb hE hP 4 (mW_a4 G a v) (inB_in c2281) dX8_otherwise_5 ?_
  refine lv_aload_n hx hb dX8_otherwise_6 rfl (lv_at hl 0 rfl) ?_
  refine fc_get (v := .ref (a 8)) (ci := 5) (C := RX8) (T := TX8) (N := 29) hx hb hwX8 hown hE hP 0 (mW_o G a v) rfl 7 (by decide) hk_fieldLink_RX8_31__BrideNotKnownModel___mind____I_ (fun _ h => h) rfl dX8_otherwise_7 ?_
  refine lv_iload_n hx hb dX8_otherwise_10 rfl (lv_at hl 2 rfl) ?_
  obtain ⟨c2282, hf⟩ := gd_some hf
  refine fc_iald (n := 5) (f := (v 7)) hx hb hE hP 8 (mW_a8 G a v) (inB_in c2282) dX8_otherwise_11 ?_
  refine lv_ixor hx hb dX8_otherwise_12 ?_
  obtain ⟨q2283, hq2283, hf⟩ := bnd hf
  refine fc_callS (Wa' := (mW G a v)) (st1 := [.int q2283]) (As := [.int (((v 3) x1.toNatClampNeg) ^^^ ((v 7) x2.toNatClampNeg))]) (rest := []) hCF (k_X8_bits (((v 3) x1.toNatClampNeg) ^^^ ((v 7) x2.toNatClampNeg)) hq2283) (va_cwS 1 hts gX8_otherwise_X8_bits rfl rfl rfl dk_X8_bits ⟨Nat.le_of_ble_eq_true rfl, Nat.le_of_ble_eq_true rfl⟩) hE hAB hP hD hS [] rfl rfl rfl rfl rfl rfl hl.1 rfl (Nat.le_of_ble_eq_true rfl) dX8_otherwise_13 ⟨Nat.le_refl _, Nat.le_refl _⟩ (fun H locs hP hD hS => ?_)
  exact fc_reti hx hb hr hlocks hP hS dX8_otherwise_16 (i1 hf) rfl
theorem dk_X8_meantFor : yX8_meantFor.cls ≠ "java/lang/invoke/MethodHandle" ∧ yX8_meantFor.cls ≠ "java/lang/invoke/VarHandle" ∧ (parseMethodDescriptor yX8_meantFor.desc).map (fun d => d.parameters.length) = some 1 := by decide +kernel
theorem iu_X8_meantFor_X8 : ∀ w ∈ u_ws RX8 TX8 29, w ∈ wsX8_meantFor := by decide +kernel
set_option maxHeartbeats 4000000 in
set_option maxRecDepth 100000 in
theorem k_X8_meantFor {l : Launch} {G : Gx} (a : Nat → Nat) (v : St) (x1 : Int32) {r : Int32} (hf : f_X8_meantFor v x1 = some r) : FC l G yX8_meantFor wsX8_meantFor ({ frames := 2, cells := 0, slots := 0, locals := 44 } : Room) [.ref (a 0), .int x1] (mW G a v) (mW G a v) (some (.int r)) := by
  refine fc_head (cc := cX8_meantFor) (maxL := 4) (ret := (some .int)) (C := RX8) (lv := [(0, .ref (a 0)), (1, .int x1)]) (by decide) rfl rfl (Nat.le_of_ble_eq_true rfl) rfl ?_
  intro p e s m below meth c ls A hx hb hr hml hown hts hlocks hE hP hD hAB hS hl
  have hCF : CallFix p m c cX8_meantFor 4 s ([.ref (a 0), .int x1] : List Value).toArray wsX8_meantFor RX8 := ⟨hx, hb, hml, hown, hts⟩
  have hwX8 : ∀ w ∈ u_ws RX8 TX8 29, w.before ([.ref (a 0), .int x1] : List Value).toArray s = true := fun w h => hts w (iu_X8_meantFor_X8 w h)
  have hk_fieldLink_RX8_66__BrideNotKnownModel___brides___I_ := hts (.fieldLink RX8 66 "BrideNotKnownModel" "brides" "I") (List.mem_of_getElem? (i := 1) rfl)
  rw [f_X8_meantFor] at hf
  refine lv_bipush (v := (-9 : Int32)) hx hb dX8_meantFor_0 (by decide) ?_
  refine lv_istore_n (lv' := [(2, .int (-9 : Int32)), (0, .ref (a 0)), (1, .int x1)]) hx hb dX8_meantFor_2 rfl hl (by decide) rfl (fun ls hl => ?_)
  refine lv_iconst (v := (0 : Int32)) hx hb dX8_meantFor_3 (by decide) ?_
  refine lv_istore_n (lv' := [(3, .int (0 : Int32)), (2, .int (-9 : Int32)), (0, .ref (a 0)), (1, .int x1)]) hx hb dX8_meantFor_4 rfl hl (by decide) rfl (fun ls hl => ?_)
  have L5_2288 : ∀ (n : Nat) (x2_2286 : Int32) (x3_2287 : Int32) (H : Heap) (locs : List Loc) (ls : Array Slot), va_P (gD G) vwCl (mW G a v) H → va_D A (mW G a v) → va_S A s.heap H locs → lv_has ls 4 [(0, .ref (a 0)), (1, .int x1), (2, .int x2_2286), (3, .int x3_2287)] → f_X8_meantFor_5 v x1 n x2_2286 x3_2287 = some r → W p l e (headSpec wsX8_meantFor ({ frames := 2, cells := 0, slots := 0, locals := 44 } : Room)).room s m ([.ref (a 0), .int x1] : List Value).toArray below meth c H locs 0 0 (MQ below (FQ G A (mW G a v) (some (.int r))) ([.ref (a 0), .int x1] : List Value).toArray s 0 0 A) (F0 m 5 ls []) := by
    intro n
    induction n with
    | zero =>
      intro x2_2286 x3_2287 H locs ls hP hD hS hl hf
      exact no_some hf
    | succ n ih =>
      intro x2_2286 x3_2287 H locs ls hP hD hS hl hf
      rw [f_X8_meantFor_5] at hf
      refine lv_iload_n hx hb dX8_meantFor_5 rfl (lv_at hl 3 rfl) ?_
      refine lv_aload_n hx hb dX8_meantFor_6 rfl (lv_at hl 0 rfl) ?_
      refine fc_get (v := .int (v 23 0)) (ci := 5) (C := RX8) (T := TX8) (N := 29) hx hb hwX8 hown hE hP 0 (mW_o G a v) rfl 10 (by decide) hk_fieldLink_RX8_66__BrideNotKnownModel___brides___I_ (fun _ h => h) rfl dX8_meantFor_7 ?_
      refine lv_icmp_ge (tgt := 44) hx hb dX8_meantFor_10 (by decide) (fun c2289 => ?_) (fun c2289 => ?_)
      · have hf := ifT hf c2289
        refine lv_iload_n hx hb dX8_meantFor_44 rfl (lv_at hl 2 rfl) ?_
        exact fc_reti hx hb hr hlocks hP hS dX8_meantFor_45 (i1 hf) rfl
      · have hf := ifF hf c2289
        refine lv_iload_n hx hb dX8_meantFor_13 rfl (lv_at hl 2 rfl) ?_
        refine lv_if_lt (tgt := 32) hx hb dX8_meantFor_14 (by decide) (fun c2290 => ?_) (fun c2290 => ?_)
        · have hf := ifT hf c2290
          refine lv_iload_n hx hb dX8_meantFor_32 rfl (lv_at hl 3 rfl) ?_
          refine lv_goto (tgt := 37) hx hb dX8_meantFor_33 (by decide) ?_
          refine lv_istore_n (lv' := [(2, .int x3_2287), (0, .ref (a 0)), (1, .int x1), (3, .int x3_2287)]) hx hb dX8_meantFor_37 rfl hl (by decide) rfl (fun ls hl => ?_)
          refine lv_iinc (v := (x3_2287 + (1 : Int32))) (lv' := [(3, .int (x3_2287 + (1 : Int32))), (2, .int x3_2287), (0, .ref (a 0)), (1, .int x1)]) hx hb dX8_meantFor_38 hl (k := 3) rfl rfl (by decide) rfl (fun ls hl => ?_)
          refine lv_goto (tgt := 5) hx hb dX8_meantFor_41 (by decide) ?_
          exact ih x3_2287 (x3_2287 + (1 : Int32)) _ _ _ hP hD hS (lv_sub hl [2, 3, 1, 0] rfl) hf
        · have hf := ifF hf c2290
          refine lv_aload_n hx hb dX8_meantFor_17 rfl (lv_at hl 0 rfl) ?_
          refine lv_iload_n hx hb dX8_meantFor_18 rfl (lv_at hl 3 rfl) ?_
          refine lv_iload_n hx hb dX8_meantFor_19 rfl (lv_at hl 1 rfl) ?_
          obtain ⟨q2291, hq2291, hf⟩ := bnd hf
          refine fc_callV (Wa' := (mW G a v)) (st1 := [.int q2291]) (As := [.int x3_2287, .int x1]) (rest := []) hCF (k_X8_otherwise a v x3_2287 x1 hq2291) (cwV 2 hts gX8_meantFor_X8_otherwise rfl rfl rfl ⟨rfl, dk_X8_otherwise⟩ ⟨Nat.le_of_ble_eq_true rfl, Nat.le_of_ble_eq_true rfl⟩) hE hAB hP hD hS [0, 1, 2, 3, 4, 5, 6, 7, 8, 9, 10, 11, 12, 13, 14, 15, 16, 17, 18, 19, 20, 21, 22, 23, 24] mW_d (mW_c G a v) (va_recv hE.1 hP (ci := 5) (q0 := 0) rfl (mW_o G a v)) (mW_f G a v v) (mW_s G a v v) rfl rfl hl.1 rfl (Nat.le_of_ble_eq_true rfl) dX8_meantFor_20 ⟨Nat.le_refl _, Nat.le_refl _⟩ (fun H locs hP hD hS => ?_)
          refine lv_aload_n hx hb dX8_meantFor_23 rfl (lv_at hl 0 rfl) ?_
          refine lv_iload_n hx hb dX8_meantFor_24 rfl (lv_at hl 2 rfl) ?_
          refine lv_iload_n hx hb dX8_meantFor_25 rfl (lv_at hl 1 rfl) ?_
          obtain ⟨q2292, hq2292, hf⟩ := bnd hf
          refine fc_callV (Wa' := (mW G a v)) (st1 := [.int q2292, .int q2291]) (As := [.int x2_2286, .int x1]) (rest := [.int q2291]) hCF (k_X8_otherwise a v x2_2286 x1 hq2292) (cwV 2 hts gX8_meantFor_X8_otherwise rfl rfl rfl ⟨rfl, dk_X8_otherwise⟩ ⟨Nat.le_of_ble_eq_true rfl, Nat.le_of_ble_eq_true rfl⟩) hE hAB hP hD hS [0, 1, 2, 3, 4, 5, 6, 7, 8, 9, 10, 11, 12, 13, 14, 15, 16, 17, 18, 19, 20, 21, 22, 23, 24] mW_d (mW_c G a v) (va_recv hE.1 hP (ci := 5) (q0 := 0) rfl (mW_o G a v)) (mW_f G a v v) (mW_s G a v v) rfl rfl hl.1 rfl (Nat.le_of_ble_eq_true rfl) dX8_meantFor_26 ⟨Nat.le_refl _, Nat.le_refl _⟩ (fun H locs hP hD hS => ?_)
          refine lv_icmp_ge (tgt := 36) hx hb dX8_meantFor_29 (by decide) (fun c2293 => ?_) (fun c2293 => ?_)
          · have hf := ifT hf c2293
            refine lv_iload_n hx hb dX8_meantFor_36 rfl (lv_at hl 2 rfl) ?_
            refine lv_istore_n (lv' := [(2, .int x2_2286), (0, .ref (a 0)), (1, .int x1), (3, .int x3_2287)]) hx hb dX8_meantFor_37 rfl hl (by decide) rfl (fun ls hl => ?_)
            refine lv_iinc (v := (x3_2287 + (1 : Int32))) (lv' := [(3, .int (x3_2287 + (1 : Int32))), (2, .int x2_2286), (0, .ref (a 0)), (1, .int x1)]) hx hb dX8_meantFor_38 hl (k := 3) rfl rfl (by decide) rfl (fun ls hl => ?_)
            refine lv_goto (tgt := 5) hx hb dX8_meantFor_41 (by decide) ?_
            exact ih x2_2286 (x3_2287 + (1 : Int32)) _ _ _ hP hD hS (lv_sub hl [2, 3, 1, 0] rfl) hf
          · have hf := ifF hf c2293
            refine lv_iload_n hx hb dX8_meantFor_32 rfl (lv_at hl 3 rfl) ?_
            refine lv_goto (tgt := 37) hx hb dX8_meantFor_33 (by decide) ?_
            refine lv_istore_n (lv' := [(2, .int x3_2287), (0, .ref (a 0)), (1, .int x1), (3, .int x3_2287)]) hx hb dX8_meantFor_37 rfl hl (by decide) rfl (fun ls hl => ?_)
            refine lv_iinc (v := (x3_2287 + (1 : Int32))) (lv' := [(3, .int (x3_2287 + (1 : Int32))), (2, .int x3_2287), (0, .ref (a 0)), (1, .int x1)]) hx hb dX8_meantFor_38 hl (k := 3) rfl rfl (by decide) rfl (fun ls hl => ?_)
            refine lv_goto (tgt := 5) hx hb dX8_meantFor_41 (by decide) ?_
            exact ih x3_2287 (x3_2287 + (1 : Int32)) _ _ _ hP hD hS (lv_sub hl [2, 3, 1, 0] rfl) hf
  exact L5_2288 FUEL (-9 : Int32) (0 : Int32) _ _ _ hP hD hS (lv_sub hl [2, 3, 1, 0] rfl) hf
theorem dk_X8_loses : yX8_loses.cls ≠ "java/lang/invoke/MethodHandle" ∧ yX8_loses.cls ≠ "java/lang/invoke/VarHandle" ∧ (parseMethodDescriptor yX8_loses.desc).map (fun d => d.parameters.length) = some 0 := by decide +kernel
theorem iu_X8_loses_X8 : ∀ w ∈ u_ws RX8 TX8 29, w ∈ wsX8_loses := by decide +kernel
set_option maxHeartbeats 4000000 in
set_option maxRecDepth 100000 in
theorem k_X8_loses {l : Launch} {G : Gx} (a : Nat → Nat) (v : St) {r : Int32} (hf : f_X8_loses v = some r) : FC l G yX8_loses wsX8_loses ({ frames := 5, cells := 0, slots := 0, locals := 111 } : Room) [.ref (a 0)] (mW G a v) (mW G a v) (some (.int r)) := by
  refine fc_head (cc := cX8_loses) (maxL := 3) (ret := (some .int)) (C := RX8) (lv := [(0, .ref (a 0))]) (by decide) rfl rfl (Nat.le_of_ble_eq_true rfl) rfl ?_
  intro p e s m below meth c ls A hx hb hr hml hown hts hlocks hE hP hD hAB hS hl
  have hCF : CallFix p m c cX8_loses 3 s ([.ref (a 0)] : List Value).toArray wsX8_loses RX8 := ⟨hx, hb, hml, hown, hts⟩
  have hwX8 : ∀ w ∈ u_ws RX8 TX8 29, w.before ([.ref (a 0)] : List Value).toArray s = true := fun w h => hts w (iu_X8_loses_X8 w h)
  have hk_fieldLink_RX8_76__BrideNotKnownModel___grooms___I_ := hts (.fieldLink RX8 76 "BrideNotKnownModel" "grooms" "I") (List.mem_of_getElem? (i := 1) rfl)
  rw [f_X8_loses] at hf
  refine lv_iconst (v := (0 : Int32)) hx hb dX8_loses_0 (by decide) ?_
  refine lv_istore_n (lv' := [(1, .int (0 : Int32)), (0, .ref (a 0))]) hx hb dX8_loses_1 rfl hl (by decide) rfl (fun ls hl => ?_)
  refine lv_iconst (v := (0 : Int32)) hx hb dX8_loses_2 (by decide) ?_
  refine lv_istore_n (lv' := [(2, .int (0 : Int32)), (1, .int (0 : Int32)), (0, .ref (a 0))]) hx hb dX8_loses_3 rfl hl (by decide) rfl (fun ls hl => ?_)
  have L4_2299 : ∀ (n : Nat) (x1_2297 : Int32) (x2_2298 : Int32) (H : Heap) (locs : List Loc) (ls : Array Slot), va_P (gD G) vwCl (mW G a v) H → va_D A (mW G a v) → va_S A s.heap H locs → lv_has ls 3 [(0, .ref (a 0)), (1, .int x1_2297), (2, .int x2_2298)] → f_X8_loses_4 v n x1_2297 x2_2298 = some r → W p l e (headSpec wsX8_loses ({ frames := 5, cells := 0, slots := 0, locals := 111 } : Room)).room s m ([.ref (a 0)] : List Value).toArray below meth c H locs 0 0 (MQ below (FQ G A (mW G a v) (some (.int r))) ([.ref (a 0)] : List Value).toArray s 0 0 A) (F0 m 4 ls []) := by
    intro n
    induction n with
    | zero =>
      intro x1_2297 x2_2298 H locs ls hP hD hS hl hf
      exact no_some hf
    | succ n ih =>
      intro x1_2297 x2_2298 H locs ls hP hD hS hl hf
      rw [f_X8_loses_4] at hf
      refine lv_iload_n hx hb dX8_loses_4 rfl (lv_at hl 2 rfl) ?_
      refine lv_aload_n hx hb dX8_loses_5 rfl (lv_at hl 0 rfl) ?_
      refine fc_get (v := .int (v 23 1)) (ci := 5) (C := RX8) (T := TX8) (N := 29) hx hb hwX8 hown hE hP 0 (mW_o G a v) rfl 11 (by decide) hk_fieldLink_RX8_76__BrideNotKnownModel___grooms___I_ (fun _ h => h) rfl dX8_loses_6 ?_
      refine lv_icmp_ge (tgt := 49) hx hb dX8_loses_9 (by decide) (fun c2300 => ?_) (fun c2300 => ?_)
      · have hf := ifT hf c2300
        refine lv_iload_n hx hb dX8_loses_49 rfl (lv_at hl 1 rfl) ?_
        exact fc_reti hx hb hr hlocks hP hS dX8_loses_50 (i1 hf) rfl
      · have hf := ifF hf c2300
        refine lv_iload_n hx hb dX8_loses_12 rfl (lv_at hl 1 rfl) ?_
        refine lv_aload_n hx hb dX8_loses_13 rfl (lv_at hl 0 rfl) ?_
        refine lv_iload_n hx hb dX8_loses_14 rfl (lv_at hl 2 rfl) ?_
        obtain ⟨q2301, hq2301, hf⟩ := bnd hf
        refine fc_callV (Wa' := (mW G a v)) (st1 := [.int q2301, .int x1_2297]) (As := [.int x2_2298]) (rest := [.int x1_2297]) hCF (k_X8_knows a v x2_2298 hq2301) (cwV 1 hts gX8_loses_X8_knows rfl rfl rfl ⟨rfl, dk_X8_knows⟩ ⟨Nat.le_of_ble_eq_true rfl, Nat.le_of_ble_eq_true rfl⟩) hE hAB hP hD hS [0, 1, 2, 3, 4, 5, 6, 7, 8, 9, 10, 11, 12, 13, 14, 15, 16, 17, 18, 19, 20, 21, 22, 23, 24] mW_d (mW_c G a v) (va_recv hE.1 hP (ci := 5) (q0 := 0) rfl (mW_o G a v)) (mW_f G a v v) (mW_s G a v v) rfl rfl hl.1 rfl (Nat.le_of_ble_eq_true rfl) dX8_loses_15 ⟨Nat.le_refl _, Nat.le_refl _⟩ (fun H locs hP hD hS => ?_)
        refine lv_if_lt (tgt := 40) hx hb dX8_loses_18 (by decide) (fun c2302 => ?_) (fun c2302 => ?_)
        · have hf := ifT hf c2302
          refine lv_iconst (v := (0 : Int32)) hx hb dX8_loses_40 (by decide) ?_
          refine lv_ior hx hb dX8_loses_41 ?_
          refine lv_istore_n (lv' := [(1, .int (x1_2297 ||| (0 : Int32))), (0, .ref (a 0)), (2, .int x2_2298)]) hx hb dX8_loses_42 rfl hl (by decide) rfl (fun ls hl => ?_)
          refine lv_iinc (v := (x2_2298 + (1 : Int32))) (lv' := [(2, .int (x2_2298 + (1 : Int32))), (1, .int (x1_2297 ||| (0 : Int32))), (0, .ref (a 0))]) hx hb dX8_loses_43 hl (k := 2) rfl rfl (by decide) rfl (fun ls hl => ?_)
          refine lv_goto (tgt := 4) hx hb dX8_loses_46 (by decide) ?_
          exact ih (x1_2297 ||| (0 : Int32)) (x2_2298 + (1 : Int32)) _ _ _ hP hD hS (lv_sub hl [2, 1, 0] rfl) hf
        · have hf := ifF hf c2302
          refine lv_aload_n hx hb dX8_loses_21 rfl (lv_at hl 0 rfl) ?_
          refine lv_iload_n hx hb dX8_loses_22 rfl (lv_at hl 2 rfl) ?_
          obtain ⟨q2303, hq2303, hf⟩ := bnd hf
          refine fc_callV (Wa' := (mW G a v)) (st1 := [.int q2303, .int x1_2297]) (As := [.int x2_2298]) (rest := [.int x1_2297]) hCF (k_X8_knows a v x2_2298 hq2303) (cwV 1 hts gX8_loses_X8_knows rfl rfl rfl ⟨rfl, dk_X8_knows⟩ ⟨Nat.le_of_ble_eq_true rfl, Nat.le_of_ble_eq_true rfl⟩) hE hAB hP hD hS [0, 1, 2, 3, 4, 5, 6, 7, 8, 9, 10, 11, 12, 13, 14, 15, 16, 17, 18, 19, 20, 21, 22, 23, 24] mW_d (mW_c G a v) (va_recv hE.1 hP (ci := 5) (q0 := 0) rfl (mW_o G a v)) (mW_f G a v v) (mW_s G a v v) rfl rfl hl.1 rfl (Nat.le_of_ble_eq_true rfl) dX8_loses_23 ⟨Nat.le_refl _, Nat.le_refl _⟩ (fun H locs hP hD hS => ?_)
          refine lv_aload_n hx hb dX8_loses_26 rfl (lv_at hl 0 rfl) ?_
          refine lv_iload_n hx hb dX8_loses_27 rfl (lv_at hl 2 rfl) ?_
          obtain ⟨q2304, hq2304, hf⟩ := bnd hf
          refine fc_callV (Wa' := (mW G a v)) (st1 := [.int q2304, .int q2303, .int x1_2297]) (As := [.int x2_2298]) (rest := [.int q2303, .int x1_2297]) hCF (k_X8_meantFor a v x2_2298 hq2304) (cwV 1 hts gX8_loses_X8_meantFor rfl rfl rfl ⟨rfl, dk_X8_meantFor⟩ ⟨Nat.le_of_ble_eq_true rfl, Nat.le_of_ble_eq_true rfl⟩) hE hAB hP hD hS [0, 1, 2, 3, 4, 5, 6, 7, 8, 9, 10, 11, 12, 13, 14, 15, 16, 17, 18, 19, 20, 21, 22, 23, 24] mW_d (mW_c G a v) (va_recv hE.1 hP (ci := 5) (q0 := 0) rfl (mW_o G a v)) (mW_f G a v v) (mW_s G a v v) rfl rfl hl.1 rfl (Nat.le_of_ble_eq_true rfl) dX8_loses_28 ⟨Nat.le_refl _, Nat.le_refl _⟩ (fun H locs hP hD hS => ?_)
          refine lv_icmp_ne (tgt := 40) hx hb dX8_loses_31 (by decide) (fun c2305 => ?_) (fun c2305 => ?_)
          · have hf := ifF hf c2305
            refine lv_iconst (v := (0 : Int32)) hx hb dX8_loses_40 (by decide) ?_
            refine lv_ior hx hb dX8_loses_41 ?_
            refine lv_istore_n (lv' := [(1, .int (x1_2297 ||| (0 : Int32))), (0, .ref (a 0)), (2, .int x2_2298)]) hx hb dX8_loses_42 rfl hl (by decide) rfl (fun ls hl => ?_)
            refine lv_iinc (v := (x2_2298 + (1 : Int32))) (lv' := [(2, .int (x2_2298 + (1 : Int32))), (1, .int (x1_2297 ||| (0 : Int32))), (0, .ref (a 0))]) hx hb dX8_loses_43 hl (k := 2) rfl rfl (by decide) rfl (fun ls hl => ?_)
            refine lv_goto (tgt := 4) hx hb dX8_loses_46 (by decide) ?_
            exact ih (x1_2297 ||| (0 : Int32)) (x2_2298 + (1 : Int32)) _ _ _ hP hD hS (lv_sub hl [2, 1, 0] rfl) hf
          · have hf := ifT hf c2305
            refine lv_iconst (v := (1 : Int32)) hx hb dX8_loses_34 (by decide) ?_
            refine lv_iload_n hx hb dX8_loses_35 rfl (lv_at hl 2 rfl) ?_
            refine lv_ishl hx hb dX8_loses_36 ?_
            refine lv_goto (tgt := 41) hx hb dX8_loses_37 (by decide) ?_
            refine lv_ior hx hb dX8_loses_41 ?_
            refine lv_istore_n (lv' := [(1, .int (x1_2297 ||| ((1 : Int32) <<< (x2_2298 &&& 31)))), (0, .ref (a 0)), (2, .int x2_2298)]) hx hb dX8_loses_42 rfl hl (by decide) rfl (fun ls hl => ?_)
            refine lv_iinc (v := (x2_2298 + (1 : Int32))) (lv' := [(2, .int (x2_2298 + (1 : Int32))), (1, .int (x1_2297 ||| ((1 : Int32) <<< (x2_2298 &&& 31)))), (0, .ref (a 0))]) hx hb dX8_loses_43 hl (k := 2) rfl rfl (by decide) rfl (fun ls hl => ?_)
            refine lv_goto (tgt := 4) hx hb dX8_loses_46 (by decide) ?_
            exact ih (x1_2297 ||| ((1 : Int32) <<< (x2_2298 &&& 31))) (x2_2298 + (1 : Int32)) _ _ _ hP hD hS (lv_sub hl [2, 1, 0] rfl) hf
  exact L4_2299 FUEL (0 : Int32) (0 : Int32) _ _ _ hP hD hS (lv_sub hl [2, 1, 0] rfl) hf
theorem dk_X8_wedsAll : yX8_wedsAll.cls ≠ "java/lang/invoke/MethodHandle" ∧ yX8_wedsAll.cls ≠ "java/lang/invoke/VarHandle" ∧ (parseMethodDescriptor yX8_wedsAll.desc).map (fun d => d.parameters.length) = some 0 := by decide +kernel
theorem iu_X8_wedsAll_X8 : ∀ w ∈ u_ws RX8 TX8 29, w ∈ wsX8_wedsAll := by decide +kernel
set_option maxHeartbeats 4000000 in
set_option maxRecDepth 100000 in
theorem k_X8_wedsAll {l : Launch} {G : Gx} (a : Nat → Nat) (v : St) {r : Int32} {v' : St} (hf : f_X8_wedsAll v = some (r, v')) : FC l G yX8_wedsAll wsX8_wedsAll ({ frames := 6, cells := 0, slots := 0, locals := 137 } : Room) [.ref (a 0)] (mW G a v) (mW G a v') (some (.int r)) := by
  refine fc_head (cc := cX8_wedsAll) (maxL := 3) (ret := (some .int)) (C := RX8) (lv := [(0, .ref (a 0))]) (by decide) rfl rfl (Nat.le_of_ble_eq_true rfl) rfl ?_
  intro p e s m below meth c ls A hx hb hr hml hown hts hlocks hE hP hD hAB hS hl
  have hCF : CallFix p m c cX8_wedsAll 3 s ([.ref (a 0)] : List Value).toArray wsX8_wedsAll RX8 := ⟨hx, hb, hml, hown, hts⟩
  have hwX8 : ∀ w ∈ u_ws RX8 TX8 29, w.before ([.ref (a 0)] : List Value).toArray s = true := fun w h => hts w (iu_X8_wedsAll_X8 w h)
  have hk_fieldLink_RX8_76__BrideNotKnownModel___grooms___I_ := hts (.fieldLink RX8 76 "BrideNotKnownModel" "grooms" "I") (List.mem_of_getElem? (i := 1) rfl)
  rw [f_X8_wedsAll] at hf
  refine lv_iconst (v := (0 : Int32)) hx hb dX8_wedsAll_0 (by decide) ?_
  refine lv_istore_n (lv' := [(1, .int (0 : Int32)), (0, .ref (a 0))]) hx hb dX8_wedsAll_1 rfl hl (by decide) rfl (fun ls hl => ?_)
  refine lv_iconst (v := (0 : Int32)) hx hb dX8_wedsAll_2 (by decide) ?_
  refine lv_istore_n (lv' := [(2, .int (0 : Int32)), (1, .int (0 : Int32)), (0, .ref (a 0))]) hx hb dX8_wedsAll_3 rfl hl (by decide) rfl (fun ls hl => ?_)
  have L4_2311 : ∀ (n : Nat) (x1_2308 : Int32) (x2_2309 : Int32) (v_2310 : St) (H : Heap) (locs : List Loc) (ls : Array Slot), va_P (gD G) vwCl (mW G a v_2310) H → va_D A (mW G a v_2310) → va_S A s.heap H locs → lv_has ls 3 [(0, .ref (a 0)), (1, .int x1_2308), (2, .int x2_2309)] → f_X8_wedsAll_4 n x1_2308 x2_2309 v_2310 = some (r, v') → W p l e (headSpec wsX8_wedsAll ({ frames := 6, cells := 0, slots := 0, locals := 137 } : Room)).room s m ([.ref (a 0)] : List Value).toArray below meth c H locs 0 0 (MQ below (FQ G A (mW G a v') (some (.int r))) ([.ref (a 0)] : List Value).toArray s 0 0 A) (F0 m 4 ls []) := by
    intro n
    induction n with
    | zero =>
      intro x1_2308 x2_2309 v_2310 H locs ls hP hD hS hl hf
      exact no_some hf
    | succ n ih =>
      intro x1_2308 x2_2309 v_2310 H locs ls hP hD hS hl hf
      rw [f_X8_wedsAll_4] at hf
      refine lv_iload_n hx hb dX8_wedsAll_4 rfl (lv_at hl 2 rfl) ?_
      refine lv_aload_n hx hb dX8_wedsAll_5 rfl (lv_at hl 0 rfl) ?_
      refine fc_get (v := .int (v_2310 23 1)) (ci := 5) (C := RX8) (T := TX8) (N := 29) hx hb hwX8 hown hE hP 0 (mW_o G a v_2310) rfl 11 (by decide) hk_fieldLink_RX8_76__BrideNotKnownModel___grooms___I_ (fun _ h => h) rfl dX8_wedsAll_6 ?_
      refine lv_icmp_ge (tgt := 45) hx hb dX8_wedsAll_9 (by decide) (fun c2312 => ?_) (fun c2312 => ?_)
      · have hf := ifT hf c2312
        refine lv_iload_n hx hb dX8_wedsAll_45 rfl (lv_at hl 1 rfl) ?_
        exact fc_reti hx hb hr hlocks hP hS dX8_wedsAll_46 (i2a hf) (congrArg (fun z => (mW G a z)) (i2b hf))
      · have hf := ifF hf c2312
        refine lv_aload_n hx hb dX8_wedsAll_12 rfl (lv_at hl 0 rfl) ?_
        refine lv_iload_n hx hb dX8_wedsAll_13 rfl (lv_at hl 2 rfl) ?_
        obtain ⟨q2313, hq2313, hf⟩ := bnd hf
        refine fc_callV (Wa' := (mW G a v_2310)) (st1 := [.int q2313]) (As := [.int x2_2309]) (rest := []) hCF (k_X8_canWed a v_2310 x2_2309 hq2313) (cwV 1 hts gX8_wedsAll_X8_canWed rfl rfl rfl ⟨rfl, dk_X8_canWed⟩ ⟨Nat.le_of_ble_eq_true rfl, Nat.le_of_ble_eq_true rfl⟩) hE hAB hP hD hS [0, 1, 2, 3, 4, 5, 6, 7, 8, 9, 10, 11, 12, 13, 14, 15, 16, 17, 18, 19, 20, 21, 22, 23, 24] mW_d (mW_c G a v_2310) (va_recv hE.1 hP (ci := 5) (q0 := 0) rfl (mW_o G a v_2310)) (mW_f G a v_2310 v_2310) (mW_s G a v_2310 v_2310) rfl rfl hl.1 rfl (Nat.le_of_ble_eq_true rfl) dX8_wedsAll_14 ⟨Nat.le_refl _, Nat.le_refl _⟩ (fun H locs hP hD hS => ?_)
        refine lv_if_eq (tgt := 39) hx hb dX8_wedsAll_17 (by decide) (fun c2314 => ?_) (fun c2314 => ?_)
        · have hf := ifT hf c2314
          refine lv_iinc (v := (x2_2309 + (1 : Int32))) (lv' := [(2, .int (x2_2309 + (1 : Int32))), (0, .ref (a 0)), (1, .int x1_2308)]) hx hb dX8_wedsAll_39 hl (k := 2) rfl rfl (by decide) rfl (fun ls hl => ?_)
          refine lv_goto (tgt := 4) hx hb dX8_wedsAll_42 (by decide) ?_
          exact ih x1_2308 (x2_2309 + (1 : Int32)) v_2310 _ _ _ hP hD hS (lv_sub hl [1, 2, 0] rfl) hf
        · have hf := ifF hf c2314
          refine lv_iload_n hx hb dX8_wedsAll_20 rfl (lv_at hl 1 rfl) ?_
          refine lv_aload_n hx hb dX8_wedsAll_21 rfl (lv_at hl 0 rfl) ?_
          refine lv_iload_n hx hb dX8_wedsAll_22 rfl (lv_at hl 2 rfl) ?_
          obtain ⟨q2315, hq2315, hf⟩ := bnd hf
          refine fc_callV (Wa' := (mW G a q2315.2)) (st1 := [.int q2315.1, .int x1_2308]) (As := [.int x2_2309]) (rest := [.int x1_2308]) hCF (k_X8_weds a v_2310 x2_2309 hq2315) (cwV 1 hts gX8_wedsAll_X8_weds rfl rfl rfl ⟨rfl, dk_X8_weds⟩ ⟨Nat.le_of_ble_eq_true rfl, Nat.le_of_ble_eq_true rfl⟩) hE hAB hP hD hS [0, 1, 2, 3, 4, 5, 6, 7, 8, 9, 10, 11, 12, 13, 14, 15, 16, 17, 18, 19, 20, 21, 22, 23, 24] mW_d (mW_c G a v_2310) (va_recv hE.1 hP (ci := 5) (q0 := 0) rfl (mW_o G a v_2310)) (mW_f G a v_2310 q2315.2) (mW_s G a v_2310 q2315.2) rfl rfl hl.1 rfl (Nat.le_of_ble_eq_true rfl) dX8_wedsAll_23 ⟨Nat.le_refl _, Nat.le_refl _⟩ (fun H locs hP hD hS => ?_)
          refine lv_bipush (v := (100 : Int32)) hx hb dX8_wedsAll_26 (by decide) ?_
          refine lv_icmp_lt (tgt := 36) hx hb dX8_wedsAll_28 (by decide) (fun c2316 => ?_) (fun c2316 => ?_)
          · have hf := ifT hf c2316
            refine lv_iconst (v := (1 : Int32)) hx hb dX8_wedsAll_36 (by decide) ?_
            refine lv_iadd hx hb dX8_wedsAll_37 ?_
            refine lv_istore_n (lv' := [(1, .int (x1_2308 + (1 : Int32))), (0, .ref (a 0)), (2, .int x2_2309)]) hx hb dX8_wedsAll_38 rfl hl (by decide) rfl (fun ls hl => ?_)
            refine lv_iinc (v := (x2_2309 + (1 : Int32))) (lv' := [(2, .int (x2_2309 + (1 : Int32))), (1, .int (x1_2308 + (1 : Int32))), (0, .ref (a 0))]) hx hb dX8_wedsAll_39 hl (k := 2) rfl rfl (by decide) rfl (fun ls hl => ?_)
            refine lv_goto (tgt := 4) hx hb dX8_wedsAll_42 (by decide) ?_
            exact ih (x1_2308 + (1 : Int32)) (x2_2309 + (1 : Int32)) q2315.2 _ _ _ hP hD hS (lv_sub hl [2, 1, 0] rfl) hf
          · have hf := ifF hf c2316
            refine lv_bipush (v := (100 : Int32)) hx hb dX8_wedsAll_31 (by decide) ?_
            refine lv_goto (tgt := 37) hx hb dX8_wedsAll_33 (by decide) ?_
            refine lv_iadd hx hb dX8_wedsAll_37 ?_
            refine lv_istore_n (lv' := [(1, .int (x1_2308 + (100 : Int32))), (0, .ref (a 0)), (2, .int x2_2309)]) hx hb dX8_wedsAll_38 rfl hl (by decide) rfl (fun ls hl => ?_)
            refine lv_iinc (v := (x2_2309 + (1 : Int32))) (lv' := [(2, .int (x2_2309 + (1 : Int32))), (1, .int (x1_2308 + (100 : Int32))), (0, .ref (a 0))]) hx hb dX8_wedsAll_39 hl (k := 2) rfl rfl (by decide) rfl (fun ls hl => ?_)
            refine lv_goto (tgt := 4) hx hb dX8_wedsAll_42 (by decide) ?_
            exact ih (x1_2308 + (100 : Int32)) (x2_2309 + (1 : Int32)) q2315.2 _ _ _ hP hD hS (lv_sub hl [2, 1, 0] rfl) hf
  exact L4_2311 FUEL (0 : Int32) (0 : Int32) v _ _ _ hP hD hS (lv_sub hl [2, 1, 0] rfl) hf
theorem dk_X8_lots : yX8_lots.cls ≠ "java/lang/invoke/MethodHandle" ∧ yX8_lots.cls ≠ "java/lang/invoke/VarHandle" ∧ (parseMethodDescriptor yX8_lots.desc).map (fun d => d.parameters.length) = some 3 := by decide +kernel
theorem iu_X8_lots_X8 : ∀ w ∈ u_ws RX8 TX8 29, w ∈ wsX8_lots := by decide +kernel
set_option maxHeartbeats 4000000 in
set_option maxRecDepth 100000 in
theorem k_X8_lots {l : Launch} {G : Gx} (a : Nat → Nat) (v : St) (x1 : Int32) (x2 : Int32) (x3 : Int32) {r : Int32} {v' : St} (hf : f_X8_lots v x1 x2 x3 = some (r, v')) : FC l G yX8_lots wsX8_lots ({ frames := 7, cells := 0, slots := 0, locals := 159 } : Room) [.ref (a 0), .int x1, .int x2, .int x3] (mW G a v) (mW G a v') (some (.int r)) := by
  refine fc_head (cc := cX8_lots) (maxL := 8) (ret := (some .int)) (C := RX8) (lv := [(0, .ref (a 0)), (1, .int x1), (2, .int x2), (3, .int x3)]) (by decide) rfl rfl (Nat.le_of_ble_eq_true rfl) rfl ?_
  intro p e s m below meth c ls A hx hb hr hml hown hts hlocks hE hP hD hAB hS hl
  have hCF : CallFix p m c cX8_lots 8 s ([.ref (a 0), .int x1, .int x2, .int x3] : List Value).toArray wsX8_lots RX8 := ⟨hx, hb, hml, hown, hts⟩
  have hwX8 : ∀ w ∈ u_ws RX8 TX8 29, w.before ([.ref (a 0), .int x1, .int x2, .int x3] : List Value).toArray s = true := fun w h => hts w (iu_X8_lots_X8 w h)
  have hk_fieldLink_RX8_278__BrideNotKnownModel___lots___I_ := hts (.fieldLink RX8 278 "BrideNotKnownModel" "lots" "I") (List.mem_of_getElem? (i := 1) rfl)
  have hk_fieldLink_RX8_66__BrideNotKnownModel___brides___I_ := hts (.fieldLink RX8 66 "BrideNotKnownModel" "brides" "I") (List.mem_of_getElem? (i := 2) rfl)
  have hk_fieldLink_RX8_19__BrideNotKnownModel___foot____I_ := hts (.fieldLink RX8 19 "BrideNotKnownModel" "foot" "[I") (List.mem_of_getElem? (i := 3) rfl)
  have hk_fieldLink_RX8_76__BrideNotKnownModel___grooms___I_ := hts (.fieldLink RX8 76 "BrideNotKnownModel" "grooms" "I") (List.mem_of_getElem? (i := 4) rfl)
  have hk_fieldLink_RX8_31__BrideNotKnownModel___mind____I_ := hts (.fieldLink RX8 31 "BrideNotKnownModel" "mind" "[I") (List.mem_of_getElem? (i := 5) rfl)
  rw [f_X8_lots] at hf
  refine lv_iload_n hx hb dX8_lots_0 rfl (lv_at hl 1 rfl) ?_
  refine lv_iconst (v := (1 : Int32)) hx hb dX8_lots_1 (by decide) ?_
  refine lv_bipush (v := (20 : Int32)) hx hb dX8_lots_2 (by decide) ?_
  obtain ⟨q2328, hq2328, hf⟩ := bnd hf
  refine fc_callS (Wa' := (mW G a v)) (st1 := [.int q2328]) (As := [.int x1, .int (1 : Int32), .int (20 : Int32)]) (rest := []) hCF (k_X8_bound x1 (1 : Int32) (20 : Int32) hq2328) (va_cwS 3 hts gX8_lots_X8_bound rfl rfl rfl dk_X8_bound ⟨Nat.le_of_ble_eq_true rfl, Nat.le_of_ble_eq_true rfl⟩) hE hAB hP hD hS [] rfl rfl rfl rfl rfl rfl hl.1 rfl (Nat.le_of_ble_eq_true rfl) dX8_lots_4 ⟨Nat.le_refl _, Nat.le_refl _⟩ (fun H locs hP hD hS => ?_)
  refine lv_istore (lv' := [(4, .int q2328), (0, .ref (a 0)), (1, .int x1), (2, .int x2), (3, .int x3)]) hx hb dX8_lots_7 hl (by decide) rfl (fun ls hl => ?_)
  refine lv_iload hx hb dX8_lots_9 (lv_at hl 0 rfl) ?_
  have J27_2330 : ∀ (x4_2329 : Int32) (H : Heap) (locs : List Loc) (ls : Array Slot), va_P (gD G) vwCl (mW G a v) H → va_D A (mW G a v) → va_S A s.heap H locs → lv_has ls 8 [(0, .ref (a 0)), (1, .int x1), (2, .int x2), (3, .int x3), (4, .int x4_2329)] → f_X8_lots_27 v x1 x2 x3 x4_2329 = some (r, v') → W p l e (headSpec wsX8_lots ({ frames := 7, cells := 0, slots := 0, locals := 159 } : Room)).room s m ([.ref (a 0), .int x1, .int x2, .int x3] : List Value).toArray below meth c H locs 0 0 (MQ below (FQ G A (mW G a v') (some (.int r))) ([.ref (a 0), .int x1, .int x2, .int x3] : List Value).toArray s 0 0 A) (F0 m 27 ls []) := by
    intro x4_2329 H locs ls hP hD hS hl hf
    rw [f_X8_lots_27] at hf
    refine lv_iload hx hb dX8_lots_27 (lv_at hl 4 rfl) ?_
    refine lv_if_eq (tgt := 39) hx hb dX8_lots_29 (by decide) (fun c2331 => ?_) (fun c2331 => ?_)
    · have hf := ifT hf c2331
      refine lv_aload_n hx hb dX8_lots_39 rfl (lv_at hl 0 rfl) ?_
      refine lv_iload_n hx hb dX8_lots_40 rfl (lv_at hl 2 rfl) ?_
      refine fc_put (Wa' := (mW G a (sA v 23 (upd (v 23) 10 x2)))) (ci := 5) (C := RX8) (T := TX8) (N := 29) hx hb hwX8 tyX8 tyX8_ok nmX8 hown hE hP hD hS 0 (mW_o G a v) rfl 28 (by decide) hk_fieldLink_RX8_278__BrideNotKnownModel___lots___I_ (fun _ h => h) rfl rfl rfl (Nat.le_of_ble_eq_true rfl) dX8_lots_41 (mW_p28 G a v x2) (fun H locs hP hD hS => ?_)
      refine lv_iconst (v := (0 : Int32)) hx hb dX8_lots_44 (by decide) ?_
      refine lv_istore (lv' := [(5, .int (0 : Int32)), (0, .ref (a 0)), (1, .int x1), (2, .int x2), (3, .int x3), (4, .int x4_2329)]) hx hb dX8_lots_45 hl (by decide) rfl (fun ls hl => ?_)
      refine lv_iconst (v := (0 : Int32)) hx hb dX8_lots_47 (by decide) ?_
      refine lv_istore (lv' := [(6, .int (0 : Int32)), (5, .int (0 : Int32)), (0, .ref (a 0)), (1, .int x1), (2, .int x2), (3, .int x3), (4, .int x4_2329)]) hx hb dX8_lots_48 hl (by decide) rfl (fun ls hl => ?_)
      have L50_2335 : ∀ (n : Nat) (x5_2332 : Int32) (x6_2333 : Int32) (v_2334 : St) (H : Heap) (locs : List Loc) (ls : Array Slot), va_P (gD G) vwCl (mW G a v_2334) H → va_D A (mW G a v_2334) → va_S A s.heap H locs → lv_has ls 8 [(0, .ref (a 0)), (1, .int x1), (3, .int x3), (5, .int x5_2332), (6, .int x6_2333)] → f_X8_lots_50 x1 x3 n x5_2332 x6_2333 v_2334 = some (r, v') → W p l e (headSpec wsX8_lots ({ frames := 7, cells := 0, slots := 0, locals := 159 } : Room)).room s m ([.ref (a 0), .int x1, .int x2, .int x3] : List Value).toArray below meth c H locs 0 0 (MQ below (FQ G A (mW G a v') (some (.int r))) ([.ref (a 0), .int x1, .int x2, .int x3] : List Value).toArray s 0 0 A) (F0 m 50 ls []) := by
        intro n
        induction n with
        | zero =>
          intro x5_2332 x6_2333 v_2334 H locs ls hP hD hS hl hf
          exact no_some hf
        | succ n ih =>
          intro x5_2332 x6_2333 v_2334 H locs ls hP hD hS hl hf
          rw [f_X8_lots_50] at hf
          refine lv_iload hx hb dX8_lots_50 (lv_at hl 4 rfl) ?_
          refine lv_iload_n hx hb dX8_lots_52 rfl (lv_at hl 1 rfl) ?_
          refine lv_icmp_ge (tgt := 160) hx hb dX8_lots_53 (by decide) (fun c2336 => ?_) (fun c2336 => ?_)
          · have hf := ifT hf c2336
            refine lv_iload hx hb dX8_lots_160 (lv_at hl 3 rfl) ?_
            exact fc_reti hx hb hr hlocks hP hS dX8_lots_162 (i2a hf) (congrArg (fun z => (mW G a z)) (i2b hf))
          · have hf := ifF hf c2336
            refine lv_aload_n hx hb dX8_lots_56 rfl (lv_at hl 0 rfl) ?_
            obtain ⟨q2337, hq2337, hf⟩ := bnd hf
            refine fc_callV (Wa' := (mW G a q2337)) (st1 := []) (As := []) (rest := []) hCF (k_X8_thinks a v_2334 hq2337) (cwV 0 hts gX8_lots_X8_thinks rfl rfl rfl ⟨rfl, dk_X8_thinks⟩ ⟨Nat.le_of_ble_eq_true rfl, Nat.le_of_ble_eq_true rfl⟩) hE hAB hP hD hS [0, 1, 2, 3, 4, 5, 6, 7, 8, 9, 10, 11, 12, 13, 14, 15, 16, 17, 18, 19, 20, 21, 22, 23, 24] mW_d (mW_c G a v_2334) (va_recv hE.1 hP (ci := 5) (q0 := 0) rfl (mW_o G a v_2334)) (mW_f G a v_2334 q2337) (mW_s G a v_2334 q2337) rfl rfl hl.1 rfl (Nat.le_of_ble_eq_true rfl) dX8_lots_57 ⟨Nat.le_refl _, Nat.le_refl _⟩ (fun H locs hP hD hS => ?_)
            refine lv_iconst (v := (0 : Int32)) hx hb dX8_lots_60 (by decide) ?_
            refine lv_istore (lv' := [(7, .int (0 : Int32)), (0, .ref (a 0)), (1, .int x1), (3, .int x3), (5, .int x5_2332), (6, .int x6_2333)]) hx hb dX8_lots_61 hl (by decide) rfl (fun ls hl => ?_)
            have L63_2340 : ∀ (K63_91 : St → Option (Int32 × St)) (hK63_91 : ∀ (v_2341 : St) (H : Heap) (locs : List Loc) (ls : Array Slot), va_P (gD G) vwCl (mW G a v_2341) H → va_D A (mW G a v_2341) → va_S A s.heap H locs → lv_has ls 8 [(0, .ref (a 0)), (1, .int x1), (3, .int x3), (5, .int x5_2332), (6, .int x6_2333)] → K63_91 v_2341 = some (r, v') → W p l e (headSpec wsX8_lots ({ frames := 7, cells := 0, slots := 0, locals := 159 } : Room)).room s m ([.ref (a 0), .int x1, .int x2, .int x3] : List Value).toArray below meth c H locs 0 0 (MQ below (FQ G A (mW G a v') (some (.int r))) ([.ref (a 0), .int x1, .int x2, .int x3] : List Value).toArray s 0 0 A) (F0 m 91 ls [])) (n : Nat) (x7_2338 : Int32) (v_2339 : St) (H : Heap) (locs : List Loc) (ls : Array Slot), va_P (gD G) vwCl (mW G a v_2339) H → va_D A (mW G a v_2339) → va_S A s.heap H locs → lv_has ls 8 [(0, .ref (a 0)), (1, .int x1), (3, .int x3), (5, .int x5_2332), (6, .int x6_2333), (7, .int x7_2338)] → f_X8_lots_63 n x7_2338 v_2339 K63_91 = some (r, v') → W p l e (headSpec wsX8_lots ({ frames := 7, cells := 0, slots := 0, locals := 159 } : Room)).room s m ([.ref (a 0), .int x1, .int x2, .int x3] : List Value).toArray below meth c H locs 0 0 (MQ below (FQ G A (mW G a v') (some (.int r))) ([.ref (a 0), .int x1, .int x2, .int x3] : List Value).toArray s 0 0 A) (F0 m 63 ls []) := by
              intro K63_91 hK63_91 n
              induction n with
              | zero =>
                intro x7_2338 v_2339 H locs ls hP hD hS hl hf
                exact no_some hf
              | succ n ih =>
                intro x7_2338 v_2339 H locs ls hP hD hS hl hf
                rw [f_X8_lots_63] at hf
                refine lv_iload hx hb dX8_lots_63 (lv_at hl 5 rfl) ?_
                refine lv_aload_n hx hb dX8_lots_65 rfl (lv_at hl 0 rfl) ?_
                refine fc_get (v := .int (v_2339 23 0)) (ci := 5) (C := RX8) (T := TX8) (N := 29) hx hb hwX8 hown hE hP 0 (mW_o G a v_2339) rfl 10 (by decide) hk_fieldLink_RX8_66__BrideNotKnownModel___brides___I_ (fun _ h => h) rfl dX8_lots_66 ?_
                refine lv_icmp_ge (tgt := 91) hx hb dX8_lots_69 (by decide) (fun c2342 => ?_) (fun c2342 => ?_)
                · have hf := ifT hf c2342
                  exact hK63_91 v_2339 _ _ _ hP hD hS (lv_sub hl [0, 1, 2, 3, 4] rfl) hf
                · have hf := ifF hf c2342
                  refine lv_aload_n hx hb dX8_lots_72 rfl (lv_at hl 0 rfl) ?_
                  refine fc_get (v := .ref (a 4)) (ci := 5) (C := RX8) (T := TX8) (N := 29) hx hb hwX8 hown hE hP 0 (mW_o G a v_2339) rfl 3 (by decide) hk_fieldLink_RX8_19__BrideNotKnownModel___foot____I_ (fun _ h => h) rfl dX8_lots_73 ?_
                  refine lv_iload hx hb dX8_lots_76 (lv_at hl 5 rfl) ?_
                  refine lv_aload_n hx hb dX8_lots_78 rfl (lv_at hl 0 rfl) ?_
                  refine lv_bipush (v := (64 : Int32)) hx hb dX8_lots_79 (by decide) ?_
                  obtain ⟨q2343, hq2343, hf⟩ := bnd hf
                  refine fc_callV (Wa' := (mW G a q2343.2)) (st1 := [.int q2343.1, .int x7_2338, .ref (a 4)]) (As := [.int (64 : Int32)]) (rest := [.int x7_2338, .ref (a 4)]) hCF (k_X8_draw a v_2339 (64 : Int32) hq2343) (cwV 1 hts gX8_lots_X8_draw rfl rfl rfl ⟨rfl, dk_X8_draw⟩ ⟨Nat.le_of_ble_eq_true rfl, Nat.le_of_ble_eq_true rfl⟩) hE hAB hP hD hS [0, 1, 2, 3, 4, 5, 6, 7, 8, 9, 10, 11, 12, 13, 14, 15, 16, 17, 18, 19, 20, 21, 22, 23, 24] mW_d (mW_c G a v_2339) (va_recv hE.1 hP (ci := 5) (q0 := 0) rfl (mW_o G a v_2339)) (mW_f G a v_2339 q2343.2) (mW_s G a v_2339 q2343.2) rfl rfl hl.1 rfl (Nat.le_of_ble_eq_true rfl) dX8_lots_81 ⟨Nat.le_refl _, Nat.le_refl _⟩ (fun H locs hP hD hS => ?_)
                  obtain ⟨c2344, hf⟩ := gd_some hf
                  refine fc_iast (n := 8) (f := (q2343.2 3)) (Wa' := (mW G a (sA q2343.2 3 (upd (q2343.2 3) x7_2338.toNatClampNeg q2343.1)))) hx hb hE hP hD hS 4 (mW_a4 G a q2343.2) (inB_in c2344) dX8_lots_84 (mW_t4 G a q2343.2 (upd (q2343.2 3) x7_2338.toNatClampNeg q2343.1)) (fun H locs hP hD hS => ?_)
                  refine lv_iinc (v := (x7_2338 + (1 : Int32))) (lv' := [(7, .int (x7_2338 + (1 : Int32))), (0, .ref (a 0)), (1, .int x1), (3, .int x3), (5, .int x5_2332), (6, .int x6_2333)]) hx hb dX8_lots_85 hl (k := 5) rfl rfl (by decide) rfl (fun ls hl => ?_)
                  refine lv_goto (tgt := 63) hx hb dX8_lots_88 (by decide) ?_
                  exact ih (x7_2338 + (1 : Int32)) (sA q2343.2 3 (upd (q2343.2 3) x7_2338.toNatClampNeg q2343.1)) _ _ _ hP hD hS (lv_sub hl [1, 2, 3, 4, 5, 0] rfl) hf
            refine L63_2340 _ ?_ FUEL (0 : Int32) q2337 _ _ _ hP hD hS (lv_sub hl [1, 2, 3, 4, 5, 0] rfl) hf
            intro v_2345 H locs ls hP hD hS hl hf
            refine lv_iconst (v := (0 : Int32)) hx hb dX8_lots_91 (by decide) ?_
            refine lv_istore (lv' := [(7, .int (0 : Int32)), (0, .ref (a 0)), (1, .int x1), (3, .int x3), (5, .int x5_2332), (6, .int x6_2333)]) hx hb dX8_lots_92 hl (by decide) rfl (fun ls hl => ?_)
            have L94_2348 : ∀ (K94_122 : St → Option (Int32 × St)) (hK94_122 : ∀ (v_2349 : St) (H : Heap) (locs : List Loc) (ls : Array Slot), va_P (gD G) vwCl (mW G a v_2349) H → va_D A (mW G a v_2349) → va_S A s.heap H locs → lv_has ls 8 [(0, .ref (a 0)), (1, .int x1), (3, .int x3), (5, .int x5_2332), (6, .int x6_2333)] → K94_122 v_2349 = some (r, v') → W p l e (headSpec wsX8_lots ({ frames := 7, cells := 0, slots := 0, locals := 159 } : Room)).room s m ([.ref (a 0), .int x1, .int x2, .int x3] : List Value).toArray below meth c H locs 0 0 (MQ below (FQ G A (mW G a v') (some (.int r))) ([.ref (a 0), .int x1, .int x2, .int x3] : List Value).toArray s 0 0 A) (F0 m 122 ls [])) (n : Nat) (x7_2346 : Int32) (v_2347 : St) (H : Heap) (locs : List Loc) (ls : Array Slot), va_P (gD G) vwCl (mW G a v_2347) H → va_D A (mW G a v_2347) → va_S A s.heap H locs → lv_has ls 8 [(0, .ref (a 0)), (1, .int x1), (3, .int x3), (5, .int x5_2332), (6, .int x6_2333), (7, .int x7_2346)] → f_X8_lots_94 n x7_2346 v_2347 K94_122 = some (r, v') → W p l e (headSpec wsX8_lots ({ frames := 7, cells := 0, slots := 0, locals := 159 } : Room)).room s m ([.ref (a 0), .int x1, .int x2, .int x3] : List Value).toArray below meth c H locs 0 0 (MQ below (FQ G A (mW G a v') (some (.int r))) ([.ref (a 0), .int x1, .int x2, .int x3] : List Value).toArray s 0 0 A) (F0 m 94 ls []) := by
              intro K94_122 hK94_122 n
              induction n with
              | zero =>
                intro x7_2346 v_2347 H locs ls hP hD hS hl hf
                exact no_some hf
              | succ n ih =>
                intro x7_2346 v_2347 H locs ls hP hD hS hl hf
                rw [f_X8_lots_94] at hf
                refine lv_iload hx hb dX8_lots_94 (lv_at hl 5 rfl) ?_
                refine lv_aload_n hx hb dX8_lots_96 rfl (lv_at hl 0 rfl) ?_
                refine fc_get (v := .int (v_2347 23 1)) (ci := 5) (C := RX8) (T := TX8) (N := 29) hx hb hwX8 hown hE hP 0 (mW_o G a v_2347) rfl 11 (by decide) hk_fieldLink_RX8_76__BrideNotKnownModel___grooms___I_ (fun _ h => h) rfl dX8_lots_97 ?_
                refine lv_icmp_ge (tgt := 122) hx hb dX8_lots_100 (by decide) (fun c2350 => ?_) (fun c2350 => ?_)
                · have hf := ifT hf c2350
                  exact hK94_122 v_2347 _ _ _ hP hD hS (lv_sub hl [0, 1, 2, 3, 4] rfl) hf
                · have hf := ifF hf c2350
                  refine lv_aload_n hx hb dX8_lots_103 rfl (lv_at hl 0 rfl) ?_
                  refine fc_get (v := .ref (a 8)) (ci := 5) (C := RX8) (T := TX8) (N := 29) hx hb hwX8 hown hE hP 0 (mW_o G a v_2347) rfl 7 (by decide) hk_fieldLink_RX8_31__BrideNotKnownModel___mind____I_ (fun _ h => h) rfl dX8_lots_104 ?_
                  refine lv_iload hx hb dX8_lots_107 (lv_at hl 5 rfl) ?_
                  refine lv_aload_n hx hb dX8_lots_109 rfl (lv_at hl 0 rfl) ?_
                  refine lv_bipush (v := (64 : Int32)) hx hb dX8_lots_110 (by decide) ?_
                  obtain ⟨q2351, hq2351, hf⟩ := bnd hf
                  refine fc_callV (Wa' := (mW G a q2351.2)) (st1 := [.int q2351.1, .int x7_2346, .ref (a 8)]) (As := [.int (64 : Int32)]) (rest := [.int x7_2346, .ref (a 8)]) hCF (k_X8_draw a v_2347 (64 : Int32) hq2351) (cwV 1 hts gX8_lots_X8_draw rfl rfl rfl ⟨rfl, dk_X8_draw⟩ ⟨Nat.le_of_ble_eq_true rfl, Nat.le_of_ble_eq_true rfl⟩) hE hAB hP hD hS [0, 1, 2, 3, 4, 5, 6, 7, 8, 9, 10, 11, 12, 13, 14, 15, 16, 17, 18, 19, 20, 21, 22, 23, 24] mW_d (mW_c G a v_2347) (va_recv hE.1 hP (ci := 5) (q0 := 0) rfl (mW_o G a v_2347)) (mW_f G a v_2347 q2351.2) (mW_s G a v_2347 q2351.2) rfl rfl hl.1 rfl (Nat.le_of_ble_eq_true rfl) dX8_lots_112 ⟨Nat.le_refl _, Nat.le_refl _⟩ (fun H locs hP hD hS => ?_)
                  obtain ⟨c2352, hf⟩ := gd_some hf
                  refine fc_iast (n := 5) (f := (q2351.2 7)) (Wa' := (mW G a (sA q2351.2 7 (upd (q2351.2 7) x7_2346.toNatClampNeg q2351.1)))) hx hb hE hP hD hS 8 (mW_a8 G a q2351.2) (inB_in c2352) dX8_lots_115 (mW_t8 G a q2351.2 (upd (q2351.2 7) x7_2346.toNatClampNeg q2351.1)) (fun H locs hP hD hS => ?_)
                  refine lv_iinc (v := (x7_2346 + (1 : Int32))) (lv' := [(7, .int (x7_2346 + (1 : Int32))), (0, .ref (a 0)), (1, .int x1), (3, .int x3), (5, .int x5_2332), (6, .int x6_2333)]) hx hb dX8_lots_116 hl (k := 5) rfl rfl (by decide) rfl (fun ls hl => ?_)
                  refine lv_goto (tgt := 94) hx hb dX8_lots_119 (by decide) ?_
                  exact ih (x7_2346 + (1 : Int32)) (sA q2351.2 7 (upd (q2351.2 7) x7_2346.toNatClampNeg q2351.1)) _ _ _ hP hD hS (lv_sub hl [1, 2, 3, 4, 5, 0] rfl) hf
            refine L94_2348 _ ?_ FUEL (0 : Int32) v_2345 _ _ _ hP hD hS (lv_sub hl [1, 2, 3, 4, 5, 0] rfl) hf
            intro v_2353 H locs ls hP hD hS hl hf
            refine lv_aload_n hx hb dX8_lots_122 rfl (lv_at hl 0 rfl) ?_
            obtain ⟨q2354, hq2354, hf⟩ := bnd hf
            refine fc_callV (Wa' := (mW G a q2354.2)) (st1 := [.int q2354.1]) (As := []) (rest := []) hCF (k_X8_wedsAll a v_2353 hq2354) (cwV 0 hts gX8_lots_X8_wedsAll rfl rfl rfl ⟨rfl, dk_X8_wedsAll⟩ ⟨Nat.le_of_ble_eq_true rfl, Nat.le_of_ble_eq_true rfl⟩) hE hAB hP hD hS [0, 1, 2, 3, 4, 5, 6, 7, 8, 9, 10, 11, 12, 13, 14, 15, 16, 17, 18, 19, 20, 21, 22, 23, 24] mW_d (mW_c G a v_2353) (va_recv hE.1 hP (ci := 5) (q0 := 0) rfl (mW_o G a v_2353)) (mW_f G a v_2353 q2354.2) (mW_s G a v_2353 q2354.2) rfl rfl hl.1 rfl (Nat.le_of_ble_eq_true rfl) dX8_lots_123 ⟨Nat.le_refl _, Nat.le_refl _⟩ (fun H locs hP hD hS => ?_)
            refine lv_istore (lv' := [(7, .int q2354.1), (0, .ref (a 0)), (1, .int x1), (3, .int x3), (5, .int x5_2332), (6, .int x6_2333)]) hx hb dX8_lots_126 hl (by decide) rfl (fun ls hl => ?_)
            refine lv_iload hx hb dX8_lots_128 (lv_at hl 4 rfl) ?_
            refine lv_iload_n hx hb dX8_lots_130 rfl (lv_at hl 3 rfl) ?_
            refine lv_if_ne (tgt := 142) hx hb dX8_lots_131 (by decide) (fun c2355 => ?_) (fun c2355 => ?_)
            · have hf := ifF hf c2355
              refine lv_iload hx hb dX8_lots_142 (lv_at hl 0 rfl) ?_
              refine lv_bipush (v := (100 : Int32)) hx hb dX8_lots_144 (by decide) ?_
              refine lv_irem hx hb dX8_lots_146 (by decide) ?_
              refine lv_iadd hx hb dX8_lots_147 ?_
              refine lv_istore (lv' := [(5, .int (x5_2332 + (q2354.1 - q2354.1 / (100 : Int32) * (100 : Int32)))), (7, .int q2354.1), (0, .ref (a 0)), (1, .int x1), (3, .int x3), (6, .int x6_2333)]) hx hb dX8_lots_148 hl (by decide) rfl (fun ls hl => ?_)
              refine lv_aload_n hx hb dX8_lots_150 rfl (lv_at hl 2 rfl) ?_
              obtain ⟨q2356, hq2356, hf⟩ := bnd hf
              refine fc_callV (Wa' := (mW G a q2356)) (st1 := []) (As := []) (rest := []) hCF (k_X8_forgets a q2354.2 hq2356) (cwV 0 hts gX8_lots_X8_forgets rfl rfl rfl ⟨rfl, dk_X8_forgets⟩ ⟨Nat.le_of_ble_eq_true rfl, Nat.le_of_ble_eq_true rfl⟩) hE hAB hP hD hS [0, 1, 2, 3, 4, 5, 6, 7, 8, 9, 10, 11, 12, 13, 14, 15, 16, 17, 18, 19, 20, 21, 22, 23, 24] mW_d (mW_c G a q2354.2) (va_recv hE.1 hP (ci := 5) (q0 := 0) rfl (mW_o G a q2354.2)) (mW_f G a q2354.2 q2356) (mW_s G a q2354.2 q2356) rfl rfl hl.1 rfl (Nat.le_of_ble_eq_true rfl) dX8_lots_151 ⟨Nat.le_refl _, Nat.le_refl _⟩ (fun H locs hP hD hS => ?_)
              refine lv_iinc (v := (x6_2333 + (1 : Int32))) (lv' := [(6, .int (x6_2333 + (1 : Int32))), (5, .int (x5_2332 + (q2354.1 - q2354.1 / (100 : Int32) * (100 : Int32)))), (7, .int q2354.1), (0, .ref (a 0)), (1, .int x1), (3, .int x3)]) hx hb dX8_lots_154 hl (k := 5) rfl rfl (by decide) rfl (fun ls hl => ?_)
              refine lv_goto (tgt := 50) hx hb dX8_lots_157 (by decide) ?_
              exact ih (x5_2332 + (q2354.1 - q2354.1 / (100 : Int32) * (100 : Int32))) (x6_2333 + (1 : Int32)) q2356 _ _ _ hP hD hS (lv_sub hl [3, 4, 5, 1, 0] rfl) hf
            · have hf := ifT hf c2355
              refine lv_iload hx hb dX8_lots_134 (lv_at hl 0 rfl) ?_
              refine lv_bipush (v := (100 : Int32)) hx hb dX8_lots_136 (by decide) ?_
              refine lv_idiv hx hb dX8_lots_138 (by decide) ?_
              refine lv_goto (tgt := 147) hx hb dX8_lots_139 (by decide) ?_
              refine lv_iadd hx hb dX8_lots_147 ?_
              refine lv_istore (lv' := [(5, .int (x5_2332 + (q2354.1 / (100 : Int32)))), (7, .int q2354.1), (0, .ref (a 0)), (1, .int x1), (3, .int x3), (6, .int x6_2333)]) hx hb dX8_lots_148 hl (by decide) rfl (fun ls hl => ?_)
              refine lv_aload_n hx hb dX8_lots_150 rfl (lv_at hl 2 rfl) ?_
              obtain ⟨q2357, hq2357, hf⟩ := bnd hf
              refine fc_callV (Wa' := (mW G a q2357)) (st1 := []) (As := []) (rest := []) hCF (k_X8_forgets a q2354.2 hq2357) (cwV 0 hts gX8_lots_X8_forgets rfl rfl rfl ⟨rfl, dk_X8_forgets⟩ ⟨Nat.le_of_ble_eq_true rfl, Nat.le_of_ble_eq_true rfl⟩) hE hAB hP hD hS [0, 1, 2, 3, 4, 5, 6, 7, 8, 9, 10, 11, 12, 13, 14, 15, 16, 17, 18, 19, 20, 21, 22, 23, 24] mW_d (mW_c G a q2354.2) (va_recv hE.1 hP (ci := 5) (q0 := 0) rfl (mW_o G a q2354.2)) (mW_f G a q2354.2 q2357) (mW_s G a q2354.2 q2357) rfl rfl hl.1 rfl (Nat.le_of_ble_eq_true rfl) dX8_lots_151 ⟨Nat.le_refl _, Nat.le_refl _⟩ (fun H locs hP hD hS => ?_)
              refine lv_iinc (v := (x6_2333 + (1 : Int32))) (lv' := [(6, .int (x6_2333 + (1 : Int32))), (5, .int (x5_2332 + (q2354.1 / (100 : Int32)))), (7, .int q2354.1), (0, .ref (a 0)), (1, .int x1), (3, .int x3)]) hx hb dX8_lots_154 hl (k := 5) rfl rfl (by decide) rfl (fun ls hl => ?_)
              refine lv_goto (tgt := 50) hx hb dX8_lots_157 (by decide) ?_
              exact ih (x5_2332 + (q2354.1 / (100 : Int32))) (x6_2333 + (1 : Int32)) q2357 _ _ _ hP hD hS (lv_sub hl [3, 4, 5, 1, 0] rfl) hf
      exact L50_2335 FUEL (0 : Int32) (0 : Int32) (sA v 23 (upd (v 23) 10 x2)) _ _ _ hP hD hS (lv_sub hl [2, 3, 5, 1, 0] rfl) hf
    · have hf := ifF hf c2331
      refine lv_aload_n hx hb dX8_lots_32 rfl (lv_at hl 0 rfl) ?_
      refine lv_iload hx hb dX8_lots_33 (lv_at hl 4 rfl) ?_
      obtain ⟨q2358, hq2358, hf⟩ := bnd hf
      refine fc_callV (Wa' := (mW G a q2358.2)) (st1 := [.int q2358.1]) (As := [.int x4_2329]) (rest := []) hCF (k_X8_no a v x4_2329 hq2358) (cwV 1 hts gX8_lots_X8_no rfl rfl rfl ⟨rfl, dk_X8_no⟩ ⟨Nat.le_of_ble_eq_true rfl, Nat.le_of_ble_eq_true rfl⟩) hE hAB hP hD hS [0, 1, 2, 3, 4, 5, 6, 7, 8, 9, 10, 11, 12, 13, 14, 15, 16, 17, 18, 19, 20, 21, 22, 23, 24] mW_d (mW_c G a v) (va_recv hE.1 hP (ci := 5) (q0 := 0) rfl (mW_o G a v)) (mW_f G a v q2358.2) (mW_s G a v q2358.2) rfl rfl hl.1 rfl (Nat.le_of_ble_eq_true rfl) dX8_lots_35 ⟨Nat.le_refl _, Nat.le_refl _⟩ (fun H locs hP hD hS => ?_)
      exact fc_reti hx hb hr hlocks hP hS dX8_lots_38 (i2a hf) (congrArg (fun z => (mW G a z)) (i2b hf))
  refine lv_if_ne (tgt := 27) hx hb dX8_lots_11 (by decide) (fun c2359 => ?_) (fun c2359 => ?_)
  · have hf := ifF hf c2359
    exact J27_2330 q2328 _ _ _ hP hD hS (lv_sub hl [1, 2, 3, 4, 0] rfl) hf
  · have hf := ifT hf c2359
    refine lv_iload_n hx hb dX8_lots_14 rfl (lv_at hl 4 rfl) ?_
    refine lv_iconst (v := (0 : Int32)) hx hb dX8_lots_15 (by decide) ?_
    refine lv_iconst (v := (1 : Int32)) hx hb dX8_lots_16 (by decide) ?_
    obtain ⟨q2360, hq2360, hf⟩ := bnd hf
    refine fc_callS (Wa' := (mW G a v)) (st1 := [.int q2360]) (As := [.int x3, .int (0 : Int32), .int (1 : Int32)]) (rest := []) hCF (k_X8_isIn x3 (0 : Int32) (1 : Int32) hq2360) (va_cwS 3 hts gX8_lots_X8_isIn rfl rfl rfl dk_X8_isIn ⟨Nat.le_of_ble_eq_true rfl, Nat.le_of_ble_eq_true rfl⟩) hE hAB hP hD hS [] rfl rfl rfl rfl rfl rfl hl.1 rfl (Nat.le_of_ble_eq_true rfl) dX8_lots_17 ⟨Nat.le_refl _, Nat.le_refl _⟩ (fun H locs hP hD hS => ?_)
    refine lv_if_ne (tgt := 27) hx hb dX8_lots_20 (by decide) (fun c2361 => ?_) (fun c2361 => ?_)
    · have hf := ifF hf c2361
      exact J27_2330 q2328 _ _ _ hP hD hS (lv_sub hl [1, 2, 3, 4, 0] rfl) hf
    · have hf := ifT hf c2361
      refine lv_bipush (v := (-2 : Int32)) hx hb dX8_lots_23 (by decide) ?_
      refine lv_istore (lv' := [(4, .int (-2 : Int32)), (0, .ref (a 0)), (1, .int x1), (2, .int x2), (3, .int x3)]) hx hb dX8_lots_25 hl (by decide) rfl (fun ls hl => ?_)
      exact J27_2330 (-2 : Int32) _ _ _ hP hD hS (lv_sub hl [1, 2, 3, 4, 0] rfl) hf
theorem dk_X8_mean : yX8_mean.cls ≠ "java/lang/invoke/MethodHandle" ∧ yX8_mean.cls ≠ "java/lang/invoke/VarHandle" ∧ (parseMethodDescriptor yX8_mean.desc).map (fun d => d.parameters.length) = some 1 := by decide +kernel
theorem iu_X8_mean_X8 : ∀ w ∈ u_ws RX8 TX8 29, w ∈ wsX8_mean := by decide +kernel
set_option maxHeartbeats 4000000 in
set_option maxRecDepth 100000 in
theorem k_X8_mean {l : Launch} {G : Gx} (a : Nat → Nat) (v : St) (x1 : Int32) {r : Int64} {v' : St} (hf : f_X8_mean v x1 = some (r, v')) : FC l G yX8_mean wsX8_mean ({ frames := 2, cells := 0, slots := 0, locals := 53 } : Room) [.ref (a 0), .int x1] (mW G a v) (mW G a v') (some (.long r)) := by
  refine fc_head (cc := cX8_mean) (maxL := 5) (ret := (some .long)) (C := RX8) (lv := [(0, .ref (a 0)), (1, .int x1)]) (by decide) rfl rfl (Nat.le_of_ble_eq_true rfl) rfl ?_
  intro p e s m below meth c ls A hx hb hr hml hown hts hlocks hE hP hD hAB hS hl
  have hCF : CallFix p m c cX8_mean 5 s ([.ref (a 0), .int x1] : List Value).toArray wsX8_mean RX8 := ⟨hx, hb, hml, hown, hts⟩
  have hwX8 : ∀ w ∈ u_ws RX8 TX8 29, w.before ([.ref (a 0), .int x1] : List Value).toArray s = true := fun w h => hts w (iu_X8_mean_X8 w h)
  have hk_fieldLink_RX8_66__BrideNotKnownModel___brides___I_ := hts (.fieldLink RX8 66 "BrideNotKnownModel" "brides" "I") (List.mem_of_getElem? (i := 1) rfl)
  have hk_fieldLink_RX8_19__BrideNotKnownModel___foot____I_ := hts (.fieldLink RX8 19 "BrideNotKnownModel" "foot" "[I") (List.mem_of_getElem? (i := 2) rfl)
  rw [f_X8_mean] at hf
  refine lv_iload_n hx hb dX8_mean_0 rfl (lv_at hl 1 rfl) ?_
  refine lv_iconst (v := (0 : Int32)) hx hb dX8_mean_1 (by decide) ?_
  refine lv_iconst (v := (1 : Int32)) hx hb dX8_mean_2 (by decide) ?_
  obtain ⟨q2367, hq2367, hf⟩ := bnd hf
  refine fc_callS (Wa' := (mW G a v)) (st1 := [.int q2367]) (As := [.int x1, .int (0 : Int32), .int (1 : Int32)]) (rest := []) hCF (k_X8_isIn x1 (0 : Int32) (1 : Int32) hq2367) (va_cwS 3 hts gX8_mean_X8_isIn rfl rfl rfl dk_X8_isIn ⟨Nat.le_of_ble_eq_true rfl, Nat.le_of_ble_eq_true rfl⟩) hE hAB hP hD hS [] rfl rfl rfl rfl rfl rfl hl.1 rfl (Nat.le_of_ble_eq_true rfl) dX8_mean_3 ⟨Nat.le_refl _, Nat.le_refl _⟩ (fun H locs hP hD hS => ?_)
  refine lv_if_ne (tgt := 16) hx hb dX8_mean_6 (by decide) (fun c2368 => ?_) (fun c2368 => ?_)
  · have hf := ifF hf c2368
    refine lv_lconst (v := (0 : Int64)) hx hb dX8_mean_16 (by decide) ?_
    refine lv_lstore_n (lv' := [(2, .long (0 : Int64)), (0, .ref (a 0)), (1, .int x1)]) hx hb dX8_mean_17 rfl hl (by decide) rfl (fun ls hl => ?_)
    refine lv_iconst (v := (0 : Int32)) hx hb dX8_mean_18 (by decide) ?_
    refine lv_istore (lv' := [(4, .int (0 : Int32)), (2, .long (0 : Int64)), (0, .ref (a 0)), (1, .int x1)]) hx hb dX8_mean_19 hl (by decide) rfl (fun ls hl => ?_)
    have L21_2371 : ∀ (K21_50 : Int64 → Option (Int64 × St)) (hK21_50 : ∀ (y2_2372 : Int64) (H : Heap) (locs : List Loc) (ls : Array Slot), va_P (gD G) vwCl (mW G a v) H → va_D A (mW G a v) → va_S A s.heap H locs → lv_has ls 5 [(0, .ref (a 0)), (1, .int x1), (2, .long y2_2372)] → K21_50 y2_2372 = some (r, v') → W p l e (headSpec wsX8_mean ({ frames := 2, cells := 0, slots := 0, locals := 53 } : Room)).room s m ([.ref (a 0), .int x1] : List Value).toArray below meth c H locs 0 0 (MQ below (FQ G A (mW G a v') (some (.long r))) ([.ref (a 0), .int x1] : List Value).toArray s 0 0 A) (F0 m 50 ls [])) (n : Nat) (y2_2369 : Int64) (x4_2370 : Int32) (H : Heap) (locs : List Loc) (ls : Array Slot), va_P (gD G) vwCl (mW G a v) H → va_D A (mW G a v) → va_S A s.heap H locs → lv_has ls 5 [(0, .ref (a 0)), (1, .int x1), (2, .long y2_2369), (4, .int x4_2370)] → f_X8_mean_21 v n y2_2369 x4_2370 K21_50 = some (r, v') → W p l e (headSpec wsX8_mean ({ frames := 2, cells := 0, slots := 0, locals := 53 } : Room)).room s m ([.ref (a 0), .int x1] : List Value).toArray below meth c H locs 0 0 (MQ below (FQ G A (mW G a v') (some (.long r))) ([.ref (a 0), .int x1] : List Value).toArray s 0 0 A) (F0 m 21 ls []) := by
      intro K21_50 hK21_50 n
      induction n with
      | zero =>
        intro y2_2369 x4_2370 H locs ls hP hD hS hl hf
        exact no_some hf
      | succ n ih =>
        intro y2_2369 x4_2370 H locs ls hP hD hS hl hf
        rw [f_X8_mean_21] at hf
        refine lv_iload hx hb dX8_mean_21 (lv_at hl 3 rfl) ?_
        refine lv_aload_n hx hb dX8_mean_23 rfl (lv_at hl 0 rfl) ?_
        refine fc_get (v := .int (v 23 0)) (ci := 5) (C := RX8) (T := TX8) (N := 29) hx hb hwX8 hown hE hP 0 (mW_o G a v) rfl 10 (by decide) hk_fieldLink_RX8_66__BrideNotKnownModel___brides___I_ (fun _ h => h) rfl dX8_mean_24 ?_
        refine lv_icmp_ge (tgt := 50) hx hb dX8_mean_27 (by decide) (fun c2373 => ?_) (fun c2373 => ?_)
        · have hf := ifT hf c2373
          exact hK21_50 y2_2369 _ _ _ hP hD hS (lv_sub hl [0, 1, 2] rfl) hf
        · have hf := ifF hf c2373
          refine lv_lload_n hx hb dX8_mean_30 rfl (lv_at hl 2 rfl) ?_
          refine lv_aload_n hx hb dX8_mean_31 rfl (lv_at hl 0 rfl) ?_
          refine fc_get (v := .ref (a 4)) (ci := 5) (C := RX8) (T := TX8) (N := 29) hx hb hwX8 hown hE hP 0 (mW_o G a v) rfl 3 (by decide) hk_fieldLink_RX8_19__BrideNotKnownModel___foot____I_ (fun _ h => h) rfl dX8_mean_32 ?_
          refine lv_iload hx hb dX8_mean_35 (lv_at hl 3 rfl) ?_
          obtain ⟨c2374, hf⟩ := gd_some hf
          refine fc_iald (n := 8) (f := (v 3)) hx hb hE hP 4 (mW_a4 G a v) (inB_in c2374) dX8_mean_37 ?_
          obtain ⟨q2375, hq2375, hf⟩ := bnd hf
          refine fc_callS (Wa' := (mW G a v)) (st1 := [.int q2375, .long y2_2369]) (As := [.int ((v 3) x4_2370.toNatClampNeg)]) (rest := [.long y2_2369]) hCF (k_X8_bits ((v 3) x4_2370.toNatClampNeg) hq2375) (va_cwS 1 hts gX8_mean_X8_bits rfl rfl rfl dk_X8_bits ⟨Nat.le_of_ble_eq_true rfl, Nat.le_of_ble_eq_true rfl⟩) hE hAB hP hD hS [] rfl rfl rfl rfl rfl rfl hl.1 rfl (Nat.le_of_ble_eq_true rfl) dX8_mean_38 ⟨Nat.le_refl _, Nat.le_refl _⟩ (fun H locs hP hD hS => ?_)
          refine lv_i2l (v := q2375.toInt64) hx hb dX8_mean_41 rfl ?_
          refine lv_ladd hx hb dX8_mean_42 ?_
          refine lv_lstore_n (lv' := [(2, .long (y2_2369 + (q2375.toInt64))), (0, .ref (a 0)), (1, .int x1), (4, .int x4_2370)]) hx hb dX8_mean_43 rfl hl (by decide) rfl (fun ls hl => ?_)
          refine lv_iinc (v := (x4_2370 + (1 : Int32))) (lv' := [(4, .int (x4_2370 + (1 : Int32))), (2, .long (y2_2369 + (q2375.toInt64))), (0, .ref (a 0)), (1, .int x1)]) hx hb dX8_mean_44 hl (k := 3) rfl rfl (by decide) rfl (fun ls hl => ?_)
          refine lv_goto (tgt := 21) hx hb dX8_mean_47 (by decide) ?_
          exact ih (y2_2369 + (q2375.toInt64)) (x4_2370 + (1 : Int32)) _ _ _ hP hD hS (lv_sub hl [2, 3, 1, 0] rfl) hf
    refine L21_2371 _ ?_ FUEL (0 : Int64) (0 : Int32) _ _ _ hP hD hS (lv_sub hl [2, 3, 1, 0] rfl) hf
    intro y2_2376 H locs ls hP hD hS hl hf
    refine lv_aload_n hx hb dX8_mean_50 rfl (lv_at hl 0 rfl) ?_
    refine fc_get (v := .int (v 23 0)) (ci := 5) (C := RX8) (T := TX8) (N := 29) hx hb hwX8 hown hE hP 0 (mW_o G a v) rfl 10 (by decide) hk_fieldLink_RX8_66__BrideNotKnownModel___brides___I_ (fun _ h => h) rfl dX8_mean_51 ?_
    refine lv_if_ne (tgt := 62) hx hb dX8_mean_54 (by decide) (fun c2377 => ?_) (fun c2377 => ?_)
    · have hf := ifF hf c2377
      refine lv_lload_n hx hb dX8_mean_62 rfl (lv_at hl 2 rfl) ?_
      refine lv_aload_n hx hb dX8_mean_63 rfl (lv_at hl 0 rfl) ?_
      refine fc_get (v := .int (v 23 0)) (ci := 5) (C := RX8) (T := TX8) (N := 29) hx hb hwX8 hown hE hP 0 (mW_o G a v) rfl 10 (by decide) hk_fieldLink_RX8_66__BrideNotKnownModel___brides___I_ (fun _ h => h) rfl dX8_mean_64 ?_
      refine lv_i2l (v := (v 23 0).toInt64) hx hb dX8_mean_67 rfl ?_
      refine lv_iload_n hx hb dX8_mean_68 rfl (lv_at hl 1 rfl) ?_
      obtain ⟨q2378, hq2378, hf⟩ := bnd hf
      refine fc_callS (Wa' := (mW G a v)) (st1 := [.long q2378]) (As := [.long y2_2376, .long ((v 23 0).toInt64), .int x1]) (rest := []) hCF (k_X8_partOf y2_2376 ((v 23 0).toInt64) x1 hq2378) (va_cwS 3 hts gX8_mean_X8_partOf rfl rfl rfl dk_X8_partOf ⟨Nat.le_of_ble_eq_true rfl, Nat.le_of_ble_eq_true rfl⟩) hE hAB hP hD hS [] rfl rfl rfl rfl rfl rfl hl.1 rfl (Nat.le_of_ble_eq_true rfl) dX8_mean_69 ⟨Nat.le_refl _, Nat.le_refl _⟩ (fun H locs hP hD hS => ?_)
      exact fc_retl hx hb hr hlocks hP hS dX8_mean_72 (i2a hf) (congrArg (fun z => (mW G a z)) (i2b hf))
    · have hf := ifT hf c2377
      refine lv_iload_n hx hb dX8_mean_57 rfl (lv_at hl 1 rfl) ?_
      refine lv_i2l (v := x1.toInt64) hx hb dX8_mean_58 rfl ?_
      refine lv_goto (tgt := 72) hx hb dX8_mean_59 (by decide) ?_
      exact fc_retl hx hb hr hlocks hP hS dX8_mean_72 (i2a hf) (congrArg (fun z => (mW G a z)) (i2b hf))
  · have hf := ifT hf c2368
    refine lv_aload_n hx hb dX8_mean_9 rfl (lv_at hl 0 rfl) ?_
    refine lv_bipush (v := (-2 : Int32)) hx hb dX8_mean_10 (by decide) ?_
    obtain ⟨q2379, hq2379, hf⟩ := bnd hf
    refine fc_callV (Wa' := (mW G a q2379.2)) (st1 := [.long q2379.1]) (As := [.int (-2 : Int32)]) (rest := []) hCF (k_X8_lowestOf a v (-2 : Int32) hq2379) (cwV 1 hts gX8_mean_X8_lowestOf rfl rfl rfl ⟨rfl, dk_X8_lowestOf⟩ ⟨Nat.le_of_ble_eq_true rfl, Nat.le_of_ble_eq_true rfl⟩) hE hAB hP hD hS [0, 1, 2, 3, 4, 5, 6, 7, 8, 9, 10, 11, 12, 13, 14, 15, 16, 17, 18, 19, 20, 21, 22, 23, 24] mW_d (mW_c G a v) (va_recv hE.1 hP (ci := 5) (q0 := 0) rfl (mW_o G a v)) (mW_f G a v q2379.2) (mW_s G a v q2379.2) rfl rfl hl.1 rfl (Nat.le_of_ble_eq_true rfl) dX8_mean_12 ⟨Nat.le_refl _, Nat.le_refl _⟩ (fun H locs hP hD hS => ?_)
    exact fc_retl hx hb hr hlocks hP hS dX8_mean_15 (i2a hf) (congrArg (fun z => (mW G a z)) (i2b hf))
theorem dk_X8_meant : yX8_meant.cls ≠ "java/lang/invoke/MethodHandle" ∧ yX8_meant.cls ≠ "java/lang/invoke/VarHandle" ∧ (parseMethodDescriptor yX8_meant.desc).map (fun d => d.parameters.length) = some 2 := by decide +kernel
set_option maxHeartbeats 4000000 in
set_option maxRecDepth 100000 in
theorem k_X8_meant {l : Launch} {G : Gx} (a : Nat → Nat) (v : St) (x1 : Int32) (x2 : Int32) {r : Int32} {v' : St} (hf : f_X8_meant v x1 x2 = some (r, v')) : FC l G yX8_meant wsX8_meant ({ frames := 3, cells := 0, slots := 0, locals := 67 } : Room) [.ref (a 0), .int x1, .int x2] (mW G a v) (mW G a v') (some (.int r)) := by
  refine fc_head (cc := cX8_meant) (maxL := 5) (ret := (some .int)) (C := RX8) (lv := [(0, .ref (a 0)), (1, .int x1), (2, .int x2)]) (by decide) rfl rfl (Nat.le_of_ble_eq_true rfl) rfl ?_
  intro p e s m below meth c ls A hx hb hr hml hown hts hlocks hE hP hD hAB hS hl
  have hCF : CallFix p m c cX8_meant 5 s ([.ref (a 0), .int x1, .int x2] : List Value).toArray wsX8_meant RX8 := ⟨hx, hb, hml, hown, hts⟩
  rw [f_X8_meant] at hf
  refine lv_aload_n hx hb dX8_meant_0 rfl (lv_at hl 0 rfl) ?_
  refine lv_iload_n hx hb dX8_meant_1 rfl (lv_at hl 1 rfl) ?_
  obtain ⟨q2385, hq2385, hf⟩ := bnd hf
  refine fc_callV (Wa' := (mW G a v)) (st1 := [.int q2385]) (As := [.int x1]) (rest := []) hCF (k_X8_isGroom a v x1 hq2385) (cwV 1 hts gX8_meant_X8_isGroom rfl rfl rfl ⟨rfl, dk_X8_isGroom⟩ ⟨Nat.le_of_ble_eq_true rfl, Nat.le_of_ble_eq_true rfl⟩) hE hAB hP hD hS [0, 1, 2, 3, 4, 5, 6, 7, 8, 9, 10, 11, 12, 13, 14, 15, 16, 17, 18, 19, 20, 21, 22, 23, 24] mW_d (mW_c G a v) (va_recv hE.1 hP (ci := 5) (q0 := 0) rfl (mW_o G a v)) (mW_f G a v v) (mW_s G a v v) rfl rfl hl.1 rfl (Nat.le_of_ble_eq_true rfl) dX8_meant_2 ⟨Nat.le_refl _, Nat.le_refl _⟩ (fun H locs hP hD hS => ?_)
  have J27_2387 : ∀ (s0_2386 : Int32) (H : Heap) (locs : List Loc) (ls : Array Slot), va_P (gD G) vwCl (mW G a v) H → va_D A (mW G a v) → va_S A s.heap H locs → lv_has ls 5 [(0, .ref (a 0)), (1, .int x1), (2, .int x2)] → f_X8_meant_27 v x1 x2 s0_2386 = some (r, v') → W p l e (headSpec wsX8_meant ({ frames := 3, cells := 0, slots := 0, locals := 67 } : Room)).room s m ([.ref (a 0), .int x1, .int x2] : List Value).toArray below meth c H locs 0 0 (MQ below (FQ G A (mW G a v') (some (.int r))) ([.ref (a 0), .int x1, .int x2] : List Value).toArray s 0 0 A) (F0 m 27 ls [.int s0_2386]) := by
    intro s0_2386 H locs ls hP hD hS hl hf
    rw [f_X8_meant_27] at hf
    refine lv_istore_n (lv' := [(3, .int s0_2386), (0, .ref (a 0)), (1, .int x1), (2, .int x2)]) hx hb dX8_meant_27 rfl hl (by decide) rfl (fun ls hl => ?_)
    refine lv_iload_n hx hb dX8_meant_28 rfl (lv_at hl 0 rfl) ?_
    refine lv_if_eq (tgt := 38) hx hb dX8_meant_29 (by decide) (fun c2388 => ?_) (fun c2388 => ?_)
    · have hf := ifT hf c2388
      refine lv_aload_n hx hb dX8_meant_38 rfl (lv_at hl 1 rfl) ?_
      refine lv_iload_n hx hb dX8_meant_39 rfl (lv_at hl 2 rfl) ?_
      obtain ⟨q2389, hq2389, hf⟩ := bnd hf
      refine fc_callV (Wa' := (mW G a v)) (st1 := [.int q2389]) (As := [.int x1]) (rest := []) hCF (k_X8_meantFor a v x1 hq2389) (cwV 1 hts gX8_meant_X8_meantFor rfl rfl rfl ⟨rfl, dk_X8_meantFor⟩ ⟨Nat.le_of_ble_eq_true rfl, Nat.le_of_ble_eq_true rfl⟩) hE hAB hP hD hS [0, 1, 2, 3, 4, 5, 6, 7, 8, 9, 10, 11, 12, 13, 14, 15, 16, 17, 18, 19, 20, 21, 22, 23, 24] mW_d (mW_c G a v) (va_recv hE.1 hP (ci := 5) (q0 := 0) rfl (mW_o G a v)) (mW_f G a v v) (mW_s G a v v) rfl rfl hl.1 rfl (Nat.le_of_ble_eq_true rfl) dX8_meant_40 ⟨Nat.le_refl _, Nat.le_refl _⟩ (fun H locs hP hD hS => ?_)
      refine lv_istore (lv' := [(4, .int q2389), (3, .int s0_2386), (0, .ref (a 0)), (1, .int x1), (2, .int x2)]) hx hb dX8_meant_43 hl (by decide) rfl (fun ls hl => ?_)
      refine lv_iload_n hx hb dX8_meant_45 rfl (lv_at hl 4 rfl) ?_
      refine lv_if_eq (tgt := 54) hx hb dX8_meant_46 (by decide) (fun c2390 => ?_) (fun c2390 => ?_)
      · have hf := ifT hf c2390
        refine lv_iload hx hb dX8_meant_54 (lv_at hl 0 rfl) ?_
        refine lv_goto (tgt := 66) hx hb dX8_meant_56 (by decide) ?_
        exact fc_reti hx hb hr hlocks hP hS dX8_meant_66 (i2a hf) (congrArg (fun z => (mW G a z)) (i2b hf))
      · have hf := ifF hf c2390
        refine lv_iload hx hb dX8_meant_49 (lv_at hl 0 rfl) ?_
        refine lv_if_ge (tgt := 59) hx hb dX8_meant_51 (by decide) (fun c2391 => ?_) (fun c2391 => ?_)
        · have hf := ifT hf c2391
          refine lv_aload_n hx hb dX8_meant_59 rfl (lv_at hl 2 rfl) ?_
          refine lv_iload hx hb dX8_meant_60 (lv_at hl 0 rfl) ?_
          refine lv_iload_n hx hb dX8_meant_62 rfl (lv_at hl 3 rfl) ?_
          obtain ⟨q2392, hq2392, hf⟩ := bnd hf
          refine fc_callV (Wa' := (mW G a v)) (st1 := [.int q2392]) (As := [.int q2389, .int x1]) (rest := []) hCF (k_X8_otherwise a v q2389 x1 hq2392) (cwV 2 hts gX8_meant_X8_otherwise rfl rfl rfl ⟨rfl, dk_X8_otherwise⟩ ⟨Nat.le_of_ble_eq_true rfl, Nat.le_of_ble_eq_true rfl⟩) hE hAB hP hD hS [0, 1, 2, 3, 4, 5, 6, 7, 8, 9, 10, 11, 12, 13, 14, 15, 16, 17, 18, 19, 20, 21, 22, 23, 24] mW_d (mW_c G a v) (va_recv hE.1 hP (ci := 5) (q0 := 0) rfl (mW_o G a v)) (mW_f G a v v) (mW_s G a v v) rfl rfl hl.1 rfl (Nat.le_of_ble_eq_true rfl) dX8_meant_63 ⟨Nat.le_refl _, Nat.le_refl _⟩ (fun H locs hP hD hS => ?_)
          exact fc_reti hx hb hr hlocks hP hS dX8_meant_66 (i2a hf) (congrArg (fun z => (mW G a z)) (i2b hf))
        · have hf := ifF hf c2391
          refine lv_iload hx hb dX8_meant_54 (lv_at hl 0 rfl) ?_
          refine lv_goto (tgt := 66) hx hb dX8_meant_56 (by decide) ?_
          exact fc_reti hx hb hr hlocks hP hS dX8_meant_66 (i2a hf) (congrArg (fun z => (mW G a z)) (i2b hf))
    · have hf := ifF hf c2388
      refine lv_aload_n hx hb dX8_meant_32 rfl (lv_at hl 1 rfl) ?_
      refine lv_iload_n hx hb dX8_meant_33 rfl (lv_at hl 0 rfl) ?_
      obtain ⟨q2393, hq2393, hf⟩ := bnd hf
      refine fc_callV (Wa' := (mW G a q2393.2)) (st1 := [.int q2393.1]) (As := [.int s0_2386]) (rest := []) hCF (k_X8_no a v s0_2386 hq2393) (cwV 1 hts gX8_meant_X8_no rfl rfl rfl ⟨rfl, dk_X8_no⟩ ⟨Nat.le_of_ble_eq_true rfl, Nat.le_of_ble_eq_true rfl⟩) hE hAB hP hD hS [0, 1, 2, 3, 4, 5, 6, 7, 8, 9, 10, 11, 12, 13, 14, 15, 16, 17, 18, 19, 20, 21, 22, 23, 24] mW_d (mW_c G a v) (va_recv hE.1 hP (ci := 5) (q0 := 0) rfl (mW_o G a v)) (mW_f G a v q2393.2) (mW_s G a v q2393.2) rfl rfl hl.1 rfl (Nat.le_of_ble_eq_true rfl) dX8_meant_34 ⟨Nat.le_refl _, Nat.le_refl _⟩ (fun H locs hP hD hS => ?_)
      exact fc_reti hx hb hr hlocks hP hS dX8_meant_37 (i2a hf) (congrArg (fun z => (mW G a z)) (i2b hf))
  refine lv_if_ne (tgt := 12) hx hb dX8_meant_5 (by decide) (fun c2394 => ?_) (fun c2394 => ?_)
  · have hf := ifF hf c2394
    refine lv_iload_n hx hb dX8_meant_12 rfl (lv_at hl 2 rfl) ?_
    refine lv_iconst (v := (0 : Int32)) hx hb dX8_meant_13 (by decide) ?_
    refine lv_iconst (v := (1 : Int32)) hx hb dX8_meant_14 (by decide) ?_
    obtain ⟨q2395, hq2395, hf⟩ := bnd hf
    refine fc_callS (Wa' := (mW G a v)) (st1 := [.int q2395]) (As := [.int x2, .int (0 : Int32), .int (1 : Int32)]) (rest := []) hCF (k_X8_isIn x2 (0 : Int32) (1 : Int32) hq2395) (va_cwS 3 hts gX8_meant_X8_isIn rfl rfl rfl dk_X8_isIn ⟨Nat.le_of_ble_eq_true rfl, Nat.le_of_ble_eq_true rfl⟩) hE hAB hP hD hS [] rfl rfl rfl rfl rfl rfl hl.1 rfl (Nat.le_of_ble_eq_true rfl) dX8_meant_15 ⟨Nat.le_refl _, Nat.le_refl _⟩ (fun H locs hP hD hS => ?_)
    refine lv_if_ne (tgt := 26) hx hb dX8_meant_18 (by decide) (fun c2396 => ?_) (fun c2396 => ?_)
    · have hf := ifF hf c2396
      refine lv_iconst (v := (0 : Int32)) hx hb dX8_meant_26 (by decide) ?_
      exact J27_2387 (0 : Int32) _ _ _ hP hD hS (lv_sub hl [0, 1, 2] rfl) hf
    · have hf := ifT hf c2396
      refine lv_bipush (v := (-2 : Int32)) hx hb dX8_meant_21 (by decide) ?_
      refine lv_goto (tgt := 27) hx hb dX8_meant_23 (by decide) ?_
      exact J27_2387 (-2 : Int32) _ _ _ hP hD hS (lv_sub hl [0, 1, 2] rfl) hf
  · have hf := ifT hf c2394
    refine lv_iconst (v := (-1 : Int32)) hx hb dX8_meant_8 (by decide) ?_
    refine lv_goto (tgt := 27) hx hb dX8_meant_9 (by decide) ?_
    exact J27_2387 (-1 : Int32) _ _ _ hP hD hS (lv_sub hl [0, 1, 2] rfl) hf
theorem dk_X8_minds : yX8_minds.cls ≠ "java/lang/invoke/MethodHandle" ∧ yX8_minds.cls ≠ "java/lang/invoke/VarHandle" ∧ (parseMethodDescriptor yX8_minds.desc).map (fun d => d.parameters.length) = some 2 := by decide +kernel
theorem iu_X8_minds_X8 : ∀ w ∈ u_ws RX8 TX8 29, w ∈ wsX8_minds := by decide +kernel
set_option maxHeartbeats 4000000 in
set_option maxRecDepth 100000 in
theorem k_X8_minds {l : Launch} {G : Gx} (a : Nat → Nat) (v : St) (x1 : Int32) (x2 : Int32) {r : Int32} {v' : St} (hf : f_X8_minds v x1 x2 = some (r, v')) : FC l G yX8_minds wsX8_minds ({ frames := 1, cells := 0, slots := 0, locals := 22 } : Room) [.ref (a 0), .int x1, .int x2] (mW G a v) (mW G a v') (some (.int r)) := by
  refine fc_head (cc := cX8_minds) (maxL := 5) (ret := (some .int)) (C := RX8) (lv := [(0, .ref (a 0)), (1, .int x1), (2, .int x2)]) (by decide) rfl rfl (Nat.le_of_ble_eq_true rfl) rfl ?_
  intro p e s m below meth c ls A hx hb hr hml hown hts hlocks hE hP hD hAB hS hl
  have hCF : CallFix p m c cX8_minds 5 s ([.ref (a 0), .int x1, .int x2] : List Value).toArray wsX8_minds RX8 := ⟨hx, hb, hml, hown, hts⟩
  have hwX8 : ∀ w ∈ u_ws RX8 TX8 29, w.before ([.ref (a 0), .int x1, .int x2] : List Value).toArray s = true := fun w h => hts w (iu_X8_minds_X8 w h)
  have hk_fieldLink_RX8_31__BrideNotKnownModel___mind____I_ := hts (.fieldLink RX8 31 "BrideNotKnownModel" "mind" "[I") (List.mem_of_getElem? (i := 1) rfl)
  rw [f_X8_minds] at hf
  refine lv_aload_n hx hb dX8_minds_0 rfl (lv_at hl 0 rfl) ?_
  refine lv_iload_n hx hb dX8_minds_1 rfl (lv_at hl 1 rfl) ?_
  obtain ⟨q2400, hq2400, hf⟩ := bnd hf
  refine fc_callV (Wa' := (mW G a v)) (st1 := [.int q2400]) (As := [.int x1]) (rest := []) hCF (k_X8_isGroom a v x1 hq2400) (cwV 1 hts gX8_minds_X8_isGroom rfl rfl rfl ⟨rfl, dk_X8_isGroom⟩ ⟨Nat.le_of_ble_eq_true rfl, Nat.le_of_ble_eq_true rfl⟩) hE hAB hP hD hS [0, 1, 2, 3, 4, 5, 6, 7, 8, 9, 10, 11, 12, 13, 14, 15, 16, 17, 18, 19, 20, 21, 22, 23, 24] mW_d (mW_c G a v) (va_recv hE.1 hP (ci := 5) (q0 := 0) rfl (mW_o G a v)) (mW_f G a v v) (mW_s G a v v) rfl rfl hl.1 rfl (Nat.le_of_ble_eq_true rfl) dX8_minds_2 ⟨Nat.le_refl _, Nat.le_refl _⟩ (fun H locs hP hD hS => ?_)
  have J19_2402 : ∀ (s0_2401 : Int32) (H : Heap) (locs : List Loc) (ls : Array Slot), va_P (gD G) vwCl (mW G a v) H → va_D A (mW G a v) → va_S A s.heap H locs → lv_has ls 5 [(0, .ref (a 0)), (1, .int x1), (2, .int x2)] → f_X8_minds_19 v x1 x2 s0_2401 = some (r, v') → W p l e (headSpec wsX8_minds ({ frames := 1, cells := 0, slots := 0, locals := 22 } : Room)).room s m ([.ref (a 0), .int x1, .int x2] : List Value).toArray below meth c H locs 0 0 (MQ below (FQ G A (mW G a v') (some (.int r))) ([.ref (a 0), .int x1, .int x2] : List Value).toArray s 0 0 A) (F0 m 19 ls [.int s0_2401]) := by
    intro s0_2401 H locs ls hP hD hS hl hf
    rw [f_X8_minds_19] at hf
    refine lv_istore_n (lv' := [(3, .int s0_2401), (0, .ref (a 0)), (1, .int x1), (2, .int x2)]) hx hb dX8_minds_19 rfl hl (by decide) rfl (fun ls hl => ?_)
    refine lv_iload_n hx hb dX8_minds_20 rfl (lv_at hl 0 rfl) ?_
    refine lv_if_eq (tgt := 30) hx hb dX8_minds_21 (by decide) (fun c2403 => ?_) (fun c2403 => ?_)
    · have hf := ifT hf c2403
      refine lv_aload_n hx hb dX8_minds_30 rfl (lv_at hl 1 rfl) ?_
      refine fc_get (v := .ref (a 8)) (ci := 5) (C := RX8) (T := TX8) (N := 29) hx hb hwX8 hown hE hP 0 (mW_o G a v) rfl 7 (by decide) hk_fieldLink_RX8_31__BrideNotKnownModel___mind____I_ (fun _ h => h) rfl dX8_minds_31 ?_
      refine lv_iload_n hx hb dX8_minds_34 rfl (lv_at hl 2 rfl) ?_
      obtain ⟨c2404, hf⟩ := gd_some hf
      refine fc_iald (n := 5) (f := (v 7)) hx hb hE hP 8 (mW_a8 G a v) (inB_in c2404) dX8_minds_35 ?_
      refine lv_istore (lv' := [(4, .int ((v 7) x1.toNatClampNeg)), (3, .int s0_2401), (0, .ref (a 0)), (1, .int x1), (2, .int x2)]) hx hb dX8_minds_36 hl (by decide) rfl (fun ls hl => ?_)
      refine lv_aload_n hx hb dX8_minds_38 rfl (lv_at hl 2 rfl) ?_
      refine fc_get (v := .ref (a 8)) (ci := 5) (C := RX8) (T := TX8) (N := 29) hx hb hwX8 hown hE hP 0 (mW_o G a v) rfl 7 (by decide) hk_fieldLink_RX8_31__BrideNotKnownModel___mind____I_ (fun _ h => h) rfl dX8_minds_39 ?_
      refine lv_iload_n hx hb dX8_minds_42 rfl (lv_at hl 3 rfl) ?_
      refine lv_iload_n hx hb dX8_minds_43 rfl (lv_at hl 4 rfl) ?_
      obtain ⟨c2405, hf⟩ := gd_some hf
      refine fc_iast (n := 5) (f := (v 7)) (Wa' := (mW G a (sA v 7 (upd (v 7) x1.toNatClampNeg x2)))) hx hb hE hP hD hS 8 (mW_a8 G a v) (inB_in c2405) dX8_minds_44 (mW_t8 G a v (upd (v 7) x1.toNatClampNeg x2)) (fun H locs hP hD hS => ?_)
      refine lv_iload hx hb dX8_minds_45 (lv_at hl 0 rfl) ?_
      exact fc_reti hx hb hr hlocks hP hS dX8_minds_47 (i2a hf) (congrArg (fun z => (mW G a z)) (i2b hf))
    · have hf := ifF hf c2403
      refine lv_aload_n hx hb dX8_minds_24 rfl (lv_at hl 1 rfl) ?_
      refine lv_iload_n hx hb dX8_minds_25 rfl (lv_at hl 0 rfl) ?_
      obtain ⟨q2406, hq2406, hf⟩ := bnd hf
      refine fc_callV (Wa' := (mW G a q2406.2)) (st1 := [.int q2406.1]) (As := [.int s0_2401]) (rest := []) hCF (k_X8_no a v s0_2401 hq2406) (cwV 1 hts gX8_minds_X8_no rfl rfl rfl ⟨rfl, dk_X8_no⟩ ⟨Nat.le_of_ble_eq_true rfl, Nat.le_of_ble_eq_true rfl⟩) hE hAB hP hD hS [0, 1, 2, 3, 4, 5, 6, 7, 8, 9, 10, 11, 12, 13, 14, 15, 16, 17, 18, 19, 20, 21, 22, 23, 24] mW_d (mW_c G a v) (va_recv hE.1 hP (ci := 5) (q0 := 0) rfl (mW_o G a v)) (mW_f G a v q2406.2) (mW_s G a v q2406.2) rfl rfl hl.1 rfl (Nat.le_of_ble_eq_true rfl) dX8_minds_26 ⟨Nat.le_refl _, Nat.le_refl _⟩ (fun H locs hP hD hS => ?_)
      exact fc_reti hx hb hr hlocks hP hS dX8_minds_29 (i2a hf) (congrArg (fun z => (mW G a z)) (i2b hf))
  refine lv_if_ne (tgt := 12) hx hb dX8_minds_5 (by decide) (fun c2407 => ?_) (fun c2407 => ?_)
  · have hf := ifF hf c2407
    refine lv_iload_n hx hb dX8_minds_12 rfl (lv_at hl 2 rfl) ?_
    refine lv_iconst (v := (0 : Int32)) hx hb dX8_minds_13 (by decide) ?_
    refine lv_bipush (v := (63 : Int32)) hx hb dX8_minds_14 (by decide) ?_
    obtain ⟨q2408, hq2408, hf⟩ := bnd hf
    refine fc_callS (Wa' := (mW G a v)) (st1 := [.int q2408]) (As := [.int x2, .int (0 : Int32), .int (63 : Int32)]) (rest := []) hCF (k_X8_bound x2 (0 : Int32) (63 : Int32) hq2408) (va_cwS 3 hts gX8_minds_X8_bound rfl rfl rfl dk_X8_bound ⟨Nat.le_of_ble_eq_true rfl, Nat.le_of_ble_eq_true rfl⟩) hE hAB hP hD hS [] rfl rfl rfl rfl rfl rfl hl.1 rfl (Nat.le_of_ble_eq_true rfl) dX8_minds_16 ⟨Nat.le_refl _, Nat.le_refl _⟩ (fun H locs hP hD hS => ?_)
    exact J19_2402 q2408 _ _ _ hP hD hS (lv_sub hl [0, 1, 2] rfl) hf
  · have hf := ifT hf c2407
    refine lv_iconst (v := (-1 : Int32)) hx hb dX8_minds_8 (by decide) ?_
    refine lv_goto (tgt := 19) hx hb dX8_minds_9 (by decide) ?_
    exact J19_2402 (-1 : Int32) _ _ _ hP hD hS (lv_sub hl [0, 1, 2] rfl) hf
theorem dk_X8_next : yX8_next.cls ≠ "java/lang/invoke/MethodHandle" ∧ yX8_next.cls ≠ "java/lang/invoke/VarHandle" ∧ (parseMethodDescriptor yX8_next.desc).map (fun d => d.parameters.length) = some 0 := by decide +kernel
theorem iu_X8_next_X8 : ∀ w ∈ u_ws RX8 TX8 29, w ∈ wsX8_next := by decide +kernel
set_option maxHeartbeats 4000000 in
set_option maxRecDepth 100000 in
theorem k_X8_next {l : Launch} {G : Gx} (a : Nat → Nat) (v : St) {r : Int32} (hf : f_X8_next v = some r) : FC l G yX8_next wsX8_next ({ frames := 0, cells := 0, slots := 0, locals := 0 } : Room) [.ref (a 0)] (mW G a v) (mW G a v) (some (.int r)) := by
  refine fc_head (cc := cX8_next) (maxL := 1) (ret := (some .int)) (C := RX8) (lv := [(0, .ref (a 0))]) (by decide) rfl rfl (Nat.le_of_ble_eq_true rfl) rfl ?_
  intro p e s m below meth c ls A hx hb hr hml hown hts hlocks hE hP hD hAB hS hl
  have hCF : CallFix p m c cX8_next 1 s ([.ref (a 0)] : List Value).toArray wsX8_next RX8 := ⟨hx, hb, hml, hown, hts⟩
  have hwX8 : ∀ w ∈ u_ws RX8 TX8 29, w.before ([.ref (a 0)] : List Value).toArray s = true := fun w h => hts w (iu_X8_next_X8 w h)
  have hk_fieldLink_RX8_90__BrideNotKnownModel___at___I_ := hts (.fieldLink RX8 90 "BrideNotKnownModel" "at" "I") (List.mem_of_getElem? (i := 1) rfl)
  have hk_fieldLink_RX8_83__BrideNotKnownModel___taped___I_ := hts (.fieldLink RX8 83 "BrideNotKnownModel" "taped" "I") (List.mem_of_getElem? (i := 2) rfl)
  have hk_fieldLink_RX8_40__BrideNotKnownModel___tape____I_ := hts (.fieldLink RX8 40 "BrideNotKnownModel" "tape" "[I") (List.mem_of_getElem? (i := 3) rfl)
  rw [f_X8_next] at hf
  refine lv_aload_n hx hb dX8_next_0 rfl (lv_at hl 0 rfl) ?_
  refine fc_get (v := .int (v 23 4)) (ci := 5) (C := RX8) (T := TX8) (N := 29) hx hb hwX8 hown hE hP 0 (mW_o G a v) rfl 18 (by decide) hk_fieldLink_RX8_90__BrideNotKnownModel___at___I_ (fun _ h => h) rfl dX8_next_1 ?_
  refine lv_aload_n hx hb dX8_next_4 rfl (lv_at hl 0 rfl) ?_
  refine fc_get (v := .int (v 23 3)) (ci := 5) (C := RX8) (T := TX8) (N := 29) hx hb hwX8 hown hE hP 0 (mW_o G a v) rfl 17 (by decide) hk_fieldLink_RX8_83__BrideNotKnownModel___taped___I_ (fun _ h => h) rfl dX8_next_5 ?_
  refine lv_icmp_ge (tgt := 23) hx hb dX8_next_8 (by decide) (fun c2409 => ?_) (fun c2409 => ?_)
  · have hf := ifT hf c2409
    refine lv_iconst (v := (-1 : Int32)) hx hb dX8_next_23 (by decide) ?_
    exact fc_reti hx hb hr hlocks hP hS dX8_next_24 (i1 hf) rfl
  · have hf := ifF hf c2409
    refine lv_aload_n hx hb dX8_next_11 rfl (lv_at hl 0 rfl) ?_
    refine fc_get (v := .ref (a 11)) (ci := 5) (C := RX8) (T := TX8) (N := 29) hx hb hwX8 hown hE hP 0 (mW_o G a v) rfl 13 (by decide) hk_fieldLink_RX8_40__BrideNotKnownModel___tape____I_ (fun _ h => h) rfl dX8_next_12 ?_
    refine lv_aload_n hx hb dX8_next_15 rfl (lv_at hl 0 rfl) ?_
    refine fc_get (v := .int (v 23 4)) (ci := 5) (C := RX8) (T := TX8) (N := 29) hx hb hwX8 hown hE hP 0 (mW_o G a v) rfl 18 (by decide) hk_fieldLink_RX8_90__BrideNotKnownModel___at___I_ (fun _ h => h) rfl dX8_next_16 ?_
    obtain ⟨c2410, hf⟩ := gd_some hf
    refine fc_iald (n := 96) (f := (v 10)) hx hb hE hP 11 (mW_a11 G a v) (inB_in c2410) dX8_next_19 ?_
    refine lv_goto (tgt := 24) hx hb dX8_next_20 (by decide) ?_
    exact fc_reti hx hb hr hlocks hP hS dX8_next_24 (i1 hf) rfl
theorem dk_X8_on : yX8_on.cls ≠ "java/lang/invoke/MethodHandle" ∧ yX8_on.cls ≠ "java/lang/invoke/VarHandle" ∧ (parseMethodDescriptor yX8_on.desc).map (fun d => d.parameters.length) = some 0 := by decide +kernel
theorem iu_X8_on_X8 : ∀ w ∈ u_ws RX8 TX8 29, w ∈ wsX8_on := by decide +kernel
set_option maxHeartbeats 4000000 in
set_option maxRecDepth 100000 in
theorem k_X8_on {l : Launch} {G : Gx} (a : Nat → Nat) (v : St) {r : Int32} {v' : St} (hf : f_X8_on v = some (r, v')) : FC l G yX8_on wsX8_on ({ frames := 2, cells := 0, slots := 0, locals := 44 } : Room) [.ref (a 0)] (mW G a v) (mW G a v') (some (.int r)) := by
  refine fc_head (cc := cX8_on) (maxL := 1) (ret := (some .int)) (C := RX8) (lv := [(0, .ref (a 0))]) (by decide) rfl rfl (Nat.le_of_ble_eq_true rfl) rfl ?_
  intro p e s m below meth c ls A hx hb hr hml hown hts hlocks hE hP hD hAB hS hl
  have hCF : CallFix p m c cX8_on 1 s ([.ref (a 0)] : List Value).toArray wsX8_on RX8 := ⟨hx, hb, hml, hown, hts⟩
  have hwX8 : ∀ w ∈ u_ws RX8 TX8 29, w.before ([.ref (a 0)] : List Value).toArray s = true := fun w h => hts w (iu_X8_on_X8 w h)
  have hk_fieldLink_RX8_170__BrideNotKnownModel___hasImage___Z_ := hts (.fieldLink RX8 170 "BrideNotKnownModel" "hasImage" "Z") (List.mem_of_getElem? (i := 1) rfl)
  have hk_fieldLink_RX8_117__BrideNotKnownModel___year___I_ := hts (.fieldLink RX8 117 "BrideNotKnownModel" "year" "I") (List.mem_of_getElem? (i := 2) rfl)
  rw [f_X8_on] at hf
  refine lv_aload_n hx hb dX8_on_0 rfl (lv_at hl 0 rfl) ?_
  refine fc_get (v := .int (v 23 6)) (ci := 5) (C := RX8) (T := TX8) (N := 29) hx hb hwX8 hown hE hP 0 (mW_o G a v) rfl 21 (by decide) hk_fieldLink_RX8_170__BrideNotKnownModel___hasImage___Z_ (fun _ h => h) rfl dX8_on_1 ?_
  refine lv_if_ne (tgt := 14) hx hb dX8_on_4 (by decide) (fun c2413 => ?_) (fun c2413 => ?_)
  · have hf := ifF hf c2413
    refine lv_aload_n hx hb dX8_on_14 rfl (lv_at hl 0 rfl) ?_
    refine lv_iconst (v := (0 : Int32)) hx hb dX8_on_15 (by decide) ?_
    refine lv_iconst (v := (0 : Int32)) hx hb dX8_on_16 (by decide) ?_
    obtain ⟨q2414, hq2414, hf⟩ := bnd hf
    refine fc_callV (Wa' := (mW G a q2414)) (st1 := []) (As := [.int (0 : Int32), .int (0 : Int32)]) (rest := []) hCF (k_X8_passesAll a v (0 : Int32) (0 : Int32) hq2414) (cwV 2 hts gX8_on_X8_passesAll rfl rfl rfl ⟨rfl, dk_X8_passesAll⟩ ⟨Nat.le_of_ble_eq_true rfl, Nat.le_of_ble_eq_true rfl⟩) hE hAB hP hD hS [0, 1, 2, 3, 4, 5, 6, 7, 8, 9, 10, 11, 12, 13, 14, 15, 16, 17, 18, 19, 20, 21, 22, 23, 24] mW_d (mW_c G a v) (va_recv hE.1 hP (ci := 5) (q0 := 0) rfl (mW_o G a v)) (mW_f G a v q2414) (mW_s G a v q2414) rfl rfl hl.1 rfl (Nat.le_of_ble_eq_true rfl) dX8_on_17 ⟨Nat.le_refl _, Nat.le_refl _⟩ (fun H locs hP hD hS => ?_)
    refine lv_aload_n hx hb dX8_on_20 rfl (lv_at hl 0 rfl) ?_
    refine fc_get (v := .int (q2414 23 2)) (ci := 5) (C := RX8) (T := TX8) (N := 29) hx hb hwX8 hown hE hP 0 (mW_o G a q2414) rfl 12 (by decide) hk_fieldLink_RX8_117__BrideNotKnownModel___year___I_ (fun _ h => h) rfl dX8_on_21 ?_
    exact fc_reti hx hb hr hlocks hP hS dX8_on_24 (i2a hf) (congrArg (fun z => (mW G a z)) (i2b hf))
  · have hf := ifT hf c2413
    refine lv_aload_n hx hb dX8_on_7 rfl (lv_at hl 0 rfl) ?_
    refine lv_bipush (v := (-3 : Int32)) hx hb dX8_on_8 (by decide) ?_
    obtain ⟨q2415, hq2415, hf⟩ := bnd hf
    refine fc_callV (Wa' := (mW G a q2415.2)) (st1 := [.int q2415.1]) (As := [.int (-3 : Int32)]) (rest := []) hCF (k_X8_no a v (-3 : Int32) hq2415) (cwV 1 hts gX8_on_X8_no rfl rfl rfl ⟨rfl, dk_X8_no⟩ ⟨Nat.le_of_ble_eq_true rfl, Nat.le_of_ble_eq_true rfl⟩) hE hAB hP hD hS [0, 1, 2, 3, 4, 5, 6, 7, 8, 9, 10, 11, 12, 13, 14, 15, 16, 17, 18, 19, 20, 21, 22, 23, 24] mW_d (mW_c G a v) (va_recv hE.1 hP (ci := 5) (q0 := 0) rfl (mW_o G a v)) (mW_f G a v q2415.2) (mW_s G a v q2415.2) rfl rfl hl.1 rfl (Nat.le_of_ble_eq_true rfl) dX8_on_10 ⟨Nat.le_refl _, Nat.le_refl _⟩ (fun H locs hP hD hS => ?_)
    exact fc_reti hx hb hr hlocks hP hS dX8_on_13 (i2a hf) (congrArg (fun z => (mW G a z)) (i2b hf))
