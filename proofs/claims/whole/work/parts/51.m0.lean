theorem dk_X8_isIn : yX8_isIn.cls ≠ "java/lang/invoke/MethodHandle" ∧ yX8_isIn.cls ≠ "java/lang/invoke/VarHandle" ∧ (parseMethodDescriptor yX8_isIn.desc).map (fun d => d.parameters.length) = some 3 := by decide +kernel
set_option maxHeartbeats 4000000 in
set_option maxRecDepth 100000 in
theorem k_X8_isIn {l : Launch} {G : Gx} (x0 : Int32) (x1 : Int32) (x2 : Int32) {r : Int32} (hf : f_X8_isIn x0 x1 x2 = some r) : FC l G yX8_isIn wsX8_isIn ({ frames := 0, cells := 0, slots := 0, locals := 0 } : Room) [.int x0, .int x1, .int x2] ([] : va_W) ([] : va_W) (some (.int r)) := by
  refine fc_head (cc := cX8_isIn) (maxL := 3) (ret := (some .boolean)) (C := RX8) (lv := [(0, .int x0), (1, .int x1), (2, .int x2)]) (by decide) rfl rfl (Nat.le_of_ble_eq_true rfl) rfl ?_
  intro p e s m below meth c ls A hx hb hr hml hown hts hlocks hE hP hD hAB hS hl
  have hCF : CallFix p m c cX8_isIn 3 s ([.int x0, .int x1, .int x2] : List Value).toArray wsX8_isIn RX8 := ⟨hx, hb, hml, hown, hts⟩
  rw [f_X8_isIn] at hf
  refine lv_iload_n hx hb dX8_isIn_0 rfl (lv_at hl 0 rfl) ?_
  refine lv_iload_n hx hb dX8_isIn_1 rfl (lv_at hl 1 rfl) ?_
  refine lv_icmp_lt (tgt := 14) hx hb dX8_isIn_2 (by decide) (fun c1380 => ?_) (fun c1380 => ?_)
  · have hf := ifT hf c1380
    refine lv_iconst (v := (0 : Int32)) hx hb dX8_isIn_14 (by decide) ?_
    exact fc_retz hx hb hr hlocks hP hS dX8_isIn_15 (by decide) (i1 hf) rfl
  · have hf := ifF hf c1380
    refine lv_iload_n hx hb dX8_isIn_5 rfl (lv_at hl 0 rfl) ?_
    refine lv_iload_n hx hb dX8_isIn_6 rfl (lv_at hl 2 rfl) ?_
    refine lv_icmp_gt (tgt := 14) hx hb dX8_isIn_7 (by decide) (fun c1381 => ?_) (fun c1381 => ?_)
    · have hf := ifT hf c1381
      refine lv_iconst (v := (0 : Int32)) hx hb dX8_isIn_14 (by decide) ?_
      exact fc_retz hx hb hr hlocks hP hS dX8_isIn_15 (by decide) (i1 hf) rfl
    · have hf := ifF hf c1381
      refine lv_iconst (v := (1 : Int32)) hx hb dX8_isIn_10 (by decide) ?_
      refine lv_goto (tgt := 15) hx hb dX8_isIn_11 (by decide) ?_
      exact fc_retz hx hb hr hlocks hP hS dX8_isIn_15 (by decide) (i1 hf) rfl
theorem dk_X8_no : yX8_no.cls ≠ "java/lang/invoke/MethodHandle" ∧ yX8_no.cls ≠ "java/lang/invoke/VarHandle" ∧ (parseMethodDescriptor yX8_no.desc).map (fun d => d.parameters.length) = some 1 := by decide +kernel
theorem iu_X8_no_X8 : ∀ w ∈ u_ws RX8 TX8 29, w ∈ wsX8_no := by decide +kernel
set_option maxHeartbeats 4000000 in
set_option maxRecDepth 100000 in
theorem k_X8_no {l : Launch} {G : Gx} (a : Nat → Nat) (v : St) (x1 : Int32) {r : Int32} {v' : St} (hf : f_X8_no v x1 = some (r, v')) : FC l G yX8_no wsX8_no ({ frames := 0, cells := 0, slots := 0, locals := 0 } : Room) [.ref (a 0), .int x1] (mW G a v) (mW G a v') (some (.int r)) := by
  refine fc_head (cc := cX8_no) (maxL := 2) (ret := (some .int)) (C := RX8) (lv := [(0, .ref (a 0)), (1, .int x1)]) (by decide) rfl rfl (Nat.le_of_ble_eq_true rfl) rfl ?_
  intro p e s m below meth c ls A hx hb hr hml hown hts hlocks hE hP hD hAB hS hl
  have hCF : CallFix p m c cX8_no 2 s ([.ref (a 0), .int x1] : List Value).toArray wsX8_no RX8 := ⟨hx, hb, hml, hown, hts⟩
  have hwX8 : ∀ w ∈ u_ws RX8 TX8 29, w.before ([.ref (a 0), .int x1] : List Value).toArray s = true := fun w h => hts w (iu_X8_no_X8 w h)
  have hk_fieldLink_RX8_7__BrideNotKnownModel___refused____I_ := hts (.fieldLink RX8 7 "BrideNotKnownModel" "refused" "[I") (List.mem_of_getElem? (i := 1) rfl)
  rw [f_X8_no] at hf
  refine lv_aload_n hx hb dX8_no_0 rfl (lv_at hl 0 rfl) ?_
  refine fc_get (v := .ref (a 1)) (ci := 5) (C := RX8) (T := TX8) (N := 29) hx hb hwX8 hown hE hP 0 (mW_o G a v) rfl 0 (by decide) hk_fieldLink_RX8_7__BrideNotKnownModel___refused____I_ (fun _ h => h) rfl dX8_no_1 ?_
  refine lv_iload_n hx hb dX8_no_4 rfl (lv_at hl 1 rfl) ?_
  refine lv_ineg hx hb dX8_no_5 ?_
  refine lv_dup2_11 hx hb dX8_no_6 rfl rfl ?_
  obtain ⟨c1382, hf⟩ := gd_some hf
  refine fc_iald (n := 7) (f := (v 0)) hx hb hE hP 1 (mW_a1 G a v) (inB_in c1382) dX8_no_7 ?_
  refine lv_iconst (v := (1 : Int32)) hx hb dX8_no_8 (by decide) ?_
  refine lv_iadd hx hb dX8_no_9 ?_
  obtain ⟨c1383, hf⟩ := gd_some hf
  refine fc_iast (n := 7) (f := (v 0)) (Wa' := (mW G a (sA v 0 (upd (v 0) (-x1).toNatClampNeg (((v 0) (-x1).toNatClampNeg) + (1 : Int32)))))) hx hb hE hP hD hS 1 (mW_a1 G a v) (inB_in c1383) dX8_no_10 (mW_t1 G a v (upd (v 0) (-x1).toNatClampNeg (((v 0) (-x1).toNatClampNeg) + (1 : Int32)))) (fun H locs hP hD hS => ?_)
  refine lv_iload_n hx hb dX8_no_11 rfl (lv_at hl 1 rfl) ?_
  exact fc_reti hx hb hr hlocks hP hS dX8_no_12 (i2a hf) (congrArg (fun z => (mW G a z)) (i2b hf))
theorem dk_X8_sisterly : yX8_sisterly.cls ≠ "java/lang/invoke/MethodHandle" ∧ yX8_sisterly.cls ≠ "java/lang/invoke/VarHandle" ∧ (parseMethodDescriptor yX8_sisterly.desc).map (fun d => d.parameters.length) = some 1 := by decide +kernel
theorem iu_X8_sisterly_X8 : ∀ w ∈ u_ws RX8 TX8 29, w ∈ wsX8_sisterly := by decide +kernel
set_option maxHeartbeats 4000000 in
set_option maxRecDepth 100000 in
theorem k_X8_sisterly {l : Launch} {G : Gx} (a : Nat → Nat) (v : St) (x1 : Int32) {r : Int32} (hf : f_X8_sisterly v x1 = some r) : FC l G yX8_sisterly wsX8_sisterly ({ frames := 0, cells := 0, slots := 0, locals := 0 } : Room) [.ref (a 0), .int x1] (mW G a v) (mW G a v) (some (.int r)) := by
  refine fc_head (cc := cX8_sisterly) (maxL := 2) (ret := (some .int)) (C := RX8) (lv := [(0, .ref (a 0)), (1, .int x1)]) (by decide) rfl rfl (Nat.le_of_ble_eq_true rfl) rfl ?_
  intro p e s m below meth c ls A hx hb hr hml hown hts hlocks hE hP hD hAB hS hl
  have hCF : CallFix p m c cX8_sisterly 2 s ([.ref (a 0), .int x1] : List Value).toArray wsX8_sisterly RX8 := ⟨hx, hb, hml, hown, hts⟩
  have hwX8 : ∀ w ∈ u_ws RX8 TX8 29, w.before ([.ref (a 0), .int x1] : List Value).toArray s = true := fun w h => hts w (iu_X8_sisterly_X8 w h)
  have hk_fieldLink_RX8_19__BrideNotKnownModel___foot____I_ := hts (.fieldLink RX8 19 "BrideNotKnownModel" "foot" "[I") (List.mem_of_getElem? (i := 1) rfl)
  rw [f_X8_sisterly] at hf
  refine lv_aload_n hx hb dX8_sisterly_0 rfl (lv_at hl 0 rfl) ?_
  refine fc_get (v := .ref (a 4)) (ci := 5) (C := RX8) (T := TX8) (N := 29) hx hb hwX8 hown hE hP 0 (mW_o G a v) rfl 3 (by decide) hk_fieldLink_RX8_19__BrideNotKnownModel___foot____I_ (fun _ h => h) rfl dX8_sisterly_1 ?_
  refine lv_iload_n hx hb dX8_sisterly_4 rfl (lv_at hl 1 rfl) ?_
  refine lv_if_ne (tgt := 12) hx hb dX8_sisterly_5 (by decide) (fun c1384 => ?_) (fun c1384 => ?_)
  · have hf := ifF hf c1384
    refine lv_iload_n hx hb dX8_sisterly_12 rfl (lv_at hl 1 rfl) ?_
    refine lv_iconst (v := (1 : Int32)) hx hb dX8_sisterly_13 (by decide) ?_
    refine lv_isub hx hb dX8_sisterly_14 ?_
    obtain ⟨c1385, hf⟩ := gd_some hf
    refine fc_iald (n := 8) (f := (v 3)) hx hb hE hP 4 (mW_a4 G a v) (inB_in c1385) dX8_sisterly_15 ?_
    exact fc_reti hx hb hr hlocks hP hS dX8_sisterly_16 (i1 hf) rfl
  · have hf := ifT hf c1384
    refine lv_iconst (v := (0 : Int32)) hx hb dX8_sisterly_8 (by decide) ?_
    refine lv_goto (tgt := 15) hx hb dX8_sisterly_9 (by decide) ?_
    refine fc_iald (n := 8) (f := (v 3)) hx hb hE hP 4 (mW_a4 G a v) (inB_in (by decide)) dX8_sisterly_15 ?_
    exact fc_reti hx hb hr hlocks hP hS dX8_sisterly_16 (i1 hf) rfl
theorem dk_X8_showsOf : yX8_showsOf.cls ≠ "java/lang/invoke/MethodHandle" ∧ yX8_showsOf.cls ≠ "java/lang/invoke/VarHandle" ∧ (parseMethodDescriptor yX8_showsOf.desc).map (fun d => d.parameters.length) = some 1 := by decide +kernel
theorem iu_X8_showsOf_X8 : ∀ w ∈ u_ws RX8 TX8 29, w ∈ wsX8_showsOf := by decide +kernel
set_option maxHeartbeats 4000000 in
set_option maxRecDepth 100000 in
theorem k_X8_showsOf {l : Launch} {G : Gx} (a : Nat → Nat) (v : St) (x1 : Int32) {r : Int32} (hf : f_X8_showsOf v x1 = some r) : FC l G yX8_showsOf wsX8_showsOf ({ frames := 1, cells := 0, slots := 0, locals := 21 } : Room) [.ref (a 0), .int x1] (mW G a v) (mW G a v) (some (.int r)) := by
  refine fc_head (cc := cX8_showsOf) (maxL := 4) (ret := (some .int)) (C := RX8) (lv := [(0, .ref (a 0)), (1, .int x1)]) (by decide) rfl rfl (Nat.le_of_ble_eq_true rfl) rfl ?_
  intro p e s m below meth c ls A hx hb hr hml hown hts hlocks hE hP hD hAB hS hl
  have hCF : CallFix p m c cX8_showsOf 4 s ([.ref (a 0), .int x1] : List Value).toArray wsX8_showsOf RX8 := ⟨hx, hb, hml, hown, hts⟩
  have hwX8 : ∀ w ∈ u_ws RX8 TX8 29, w.before ([.ref (a 0), .int x1] : List Value).toArray s = true := fun w h => hts w (iu_X8_showsOf_X8 w h)
  have hk_fieldLink_RX8_19__BrideNotKnownModel___foot____I_ := hts (.fieldLink RX8 19 "BrideNotKnownModel" "foot" "[I") (List.mem_of_getElem? (i := 1) rfl)
  have hk_fieldLink_RX8_16__BrideNotKnownModel___figure____I_ := hts (.fieldLink RX8 16 "BrideNotKnownModel" "figure" "[I") (List.mem_of_getElem? (i := 2) rfl)
  have hk_fieldLink_RX8_117__BrideNotKnownModel___year___I_ := hts (.fieldLink RX8 117 "BrideNotKnownModel" "year" "I") (List.mem_of_getElem? (i := 3) rfl)
  have hk_fieldLink_RX8_13__BrideNotKnownModel___kind____I_ := hts (.fieldLink RX8 13 "BrideNotKnownModel" "kind" "[I") (List.mem_of_getElem? (i := 4) rfl)
  rw [f_X8_showsOf] at hf
  refine lv_aload_n hx hb dX8_showsOf_0 rfl (lv_at hl 0 rfl) ?_
  refine fc_get (v := .ref (a 4)) (ci := 5) (C := RX8) (T := TX8) (N := 29) hx hb hwX8 hown hE hP 0 (mW_o G a v) rfl 3 (by decide) hk_fieldLink_RX8_19__BrideNotKnownModel___foot____I_ (fun _ h => h) rfl dX8_showsOf_1 ?_
  refine lv_iload_n hx hb dX8_showsOf_4 rfl (lv_at hl 1 rfl) ?_
  obtain ⟨c1388, hf⟩ := gd_some hf
  refine fc_iald (n := 8) (f := (v 3)) hx hb hE hP 4 (mW_a4 G a v) (inB_in c1388) dX8_showsOf_5 ?_
  refine lv_iconst (v := (1 : Int32)) hx hb dX8_showsOf_6 (by decide) ?_
  refine lv_aload_n hx hb dX8_showsOf_7 rfl (lv_at hl 0 rfl) ?_
  refine fc_get (v := .ref (a 3)) (ci := 5) (C := RX8) (T := TX8) (N := 29) hx hb hwX8 hown hE hP 0 (mW_o G a v) rfl 2 (by decide) hk_fieldLink_RX8_16__BrideNotKnownModel___figure____I_ (fun _ h => h) rfl dX8_showsOf_8 ?_
  refine lv_iload_n hx hb dX8_showsOf_11 rfl (lv_at hl 1 rfl) ?_
  obtain ⟨c1389, hf⟩ := gd_some hf
  refine fc_iald (n := 8) (f := (v 2)) hx hb hE hP 3 (mW_a3 G a v) (inB_in c1389) dX8_showsOf_12 ?_
  refine lv_bipush (v := (6 : Int32)) hx hb dX8_showsOf_13 (by decide) ?_
  refine lv_irem hx hb dX8_showsOf_15 (by decide) ?_
  refine lv_ishl hx hb dX8_showsOf_16 ?_
  refine lv_ixor hx hb dX8_showsOf_17 ?_
  refine lv_istore_n (lv' := [(2, .int (((v 3) x1.toNatClampNeg) ^^^ ((1 : Int32) <<< ((((v 2) x1.toNatClampNeg) - ((v 2) x1.toNatClampNeg) / (6 : Int32) * (6 : Int32)) &&& 31)))), (0, .ref (a 0)), (1, .int x1)]) hx hb dX8_showsOf_18 rfl hl (by decide) rfl (fun ls hl => ?_)
  refine lv_aload_n hx hb dX8_showsOf_19 rfl (lv_at hl 1 rfl) ?_
  refine fc_get (v := .int (v 23 2)) (ci := 5) (C := RX8) (T := TX8) (N := 29) hx hb hwX8 hown hE hP 0 (mW_o G a v) rfl 12 (by decide) hk_fieldLink_RX8_117__BrideNotKnownModel___year___I_ (fun _ h => h) rfl dX8_showsOf_20 ?_
  refine lv_iconst (v := (2 : Int32)) hx hb dX8_showsOf_23 (by decide) ?_
  refine lv_irem hx hb dX8_showsOf_24 (by decide) ?_
  refine lv_iconst (v := (1 : Int32)) hx hb dX8_showsOf_25 (by decide) ?_
  have J39_1391 : ∀ (s0_1390 : Int32) (H : Heap) (locs : List Loc) (ls : Array Slot), va_P (gD G) vwCl (mW G a v) H → va_D A (mW G a v) → va_S A s.heap H locs → lv_has ls 4 [(0, .ref (a 0)), (1, .int x1), (2, .int (((v 3) x1.toNatClampNeg) ^^^ ((1 : Int32) <<< ((((v 2) x1.toNatClampNeg) - ((v 2) x1.toNatClampNeg) / (6 : Int32) * (6 : Int32)) &&& 31))))] → f_X8_showsOf_39 v x1 (((v 3) x1.toNatClampNeg) ^^^ ((1 : Int32) <<< ((((v 2) x1.toNatClampNeg) - ((v 2) x1.toNatClampNeg) / (6 : Int32) * (6 : Int32)) &&& 31))) s0_1390 = some r → W p l e (headSpec wsX8_showsOf ({ frames := 1, cells := 0, slots := 0, locals := 21 } : Room)).room s m ([.ref (a 0), .int x1] : List Value).toArray below meth c H locs 0 0 (MQ below (FQ G A (mW G a v) (some (.int r))) ([.ref (a 0), .int x1] : List Value).toArray s 0 0 A) (F0 m 39 ls [.int s0_1390]) := by
    intro s0_1390 H locs ls hP hD hS hl hf
    rw [f_X8_showsOf_39] at hf
    refine lv_istore_n (lv' := [(3, .int s0_1390), (0, .ref (a 0)), (1, .int x1), (2, .int (((v 3) x1.toNatClampNeg) ^^^ ((1 : Int32) <<< ((((v 2) x1.toNatClampNeg) - ((v 2) x1.toNatClampNeg) / (6 : Int32) * (6 : Int32)) &&& 31))))]) hx hb dX8_showsOf_39 rfl hl (by decide) rfl (fun ls hl => ?_)
    refine lv_aload_n hx hb dX8_showsOf_40 rfl (lv_at hl 1 rfl) ?_
    refine fc_get (v := .ref (a 2)) (ci := 5) (C := RX8) (T := TX8) (N := 29) hx hb hwX8 hown hE hP 0 (mW_o G a v) rfl 1 (by decide) hk_fieldLink_RX8_13__BrideNotKnownModel___kind____I_ (fun _ h => h) rfl dX8_showsOf_41 ?_
    refine lv_iload_n hx hb dX8_showsOf_44 rfl (lv_at hl 2 rfl) ?_
    obtain ⟨c1392, hf⟩ := gd_some hf
    refine fc_iald (n := 8) (f := (v 1)) hx hb hE hP 2 (mW_a2 G a v) (inB_in c1392) dX8_showsOf_45 ?_
    by_cases c1393 : ((v 1) x1.toNatClampNeg) = (1 : Int32)
    · have hf := ifT hf c1393
      refine lv_tableIn (off := 34) (tgt := 80) hx hb dX8_showsOf_46 (by rw [c1393]; decide) (by rw [c1393]; decide) (by rw [c1393]; rfl) (by decide) ?_
      refine lv_aload_n hx hb dX8_showsOf_80 rfl (lv_at hl 1 rfl) ?_
      refine lv_iload_n hx hb dX8_showsOf_81 rfl (lv_at hl 2 rfl) ?_
      obtain ⟨q1394, hq1394, hf⟩ := bnd hf
      refine fc_callV (Wa' := (mW G a v)) (st1 := [.int q1394]) (As := [.int x1]) (rest := []) hCF (k_X8_sisterly a v x1 hq1394) (cwV 1 hts gX8_showsOf_X8_sisterly rfl rfl rfl ⟨rfl, dk_X8_sisterly⟩ ⟨Nat.le_of_ble_eq_true rfl, Nat.le_of_ble_eq_true rfl⟩) hE hAB hP hD hS [0, 1, 2, 3, 4, 5, 6, 7, 8, 9, 10, 11, 12, 13, 14, 15, 16, 17, 18, 19, 20, 21, 22, 23, 24] mW_d (mW_c G a v) (va_recv hE.1 hP (ci := 5) (q0 := 0) rfl (mW_o G a v)) (mW_f G a v v) (mW_s G a v v) rfl rfl hl.1 rfl (Nat.le_of_ble_eq_true rfl) dX8_showsOf_82 ⟨Nat.le_refl _, Nat.le_refl _⟩ (fun H locs hP hD hS => ?_)
      exact fc_reti hx hb hr hlocks hP hS dX8_showsOf_85 (i1 hf) rfl
    · have hf := ifF hf c1393
      by_cases c1395 : ((v 1) x1.toNatClampNeg) = (2 : Int32)
      · have hf := ifT hf c1395
        refine lv_tableIn (off := 40) (tgt := 86) hx hb dX8_showsOf_46 (by rw [c1395]; decide) (by rw [c1395]; decide) (by rw [c1395]; rfl) (by decide) ?_
        refine lv_iload_n hx hb dX8_showsOf_86 rfl (lv_at hl 3 rfl) ?_
        exact fc_reti hx hb hr hlocks hP hS dX8_showsOf_87 (i1 hf) rfl
      · have hf := ifF hf c1395
        by_cases c1396 : ((v 1) x1.toNatClampNeg) = (3 : Int32)
        · have hf := ifT hf c1396
          refine lv_tableIn (off := 42) (tgt := 88) hx hb dX8_showsOf_46 (by rw [c1396]; decide) (by rw [c1396]; decide) (by rw [c1396]; rfl) (by decide) ?_
          refine lv_iload_n hx hb dX8_showsOf_88 rfl (lv_at hl 0 rfl) ?_
          exact fc_reti hx hb hr hlocks hP hS dX8_showsOf_89 (i1 hf) rfl
        · have hf := ifF hf c1396
          by_cases c1397 : ((v 1) x1.toNatClampNeg) = (4 : Int32)
          · have hf := ifT hf c1397
            refine lv_tableIn (off := 44) (tgt := 90) hx hb dX8_showsOf_46 (by rw [c1397]; decide) (by rw [c1397]; decide) (by rw [c1397]; rfl) (by decide) ?_
            refine lv_aload_n hx hb dX8_showsOf_90 rfl (lv_at hl 1 rfl) ?_
            refine lv_iload_n hx hb dX8_showsOf_91 rfl (lv_at hl 2 rfl) ?_
            obtain ⟨q1398, hq1398, hf⟩ := bnd hf
            refine fc_callV (Wa' := (mW G a v)) (st1 := [.int q1398]) (As := [.int x1]) (rest := []) hCF (k_X8_sisterly a v x1 hq1398) (cwV 1 hts gX8_showsOf_X8_sisterly rfl rfl rfl ⟨rfl, dk_X8_sisterly⟩ ⟨Nat.le_of_ble_eq_true rfl, Nat.le_of_ble_eq_true rfl⟩) hE hAB hP hD hS [0, 1, 2, 3, 4, 5, 6, 7, 8, 9, 10, 11, 12, 13, 14, 15, 16, 17, 18, 19, 20, 21, 22, 23, 24] mW_d (mW_c G a v) (va_recv hE.1 hP (ci := 5) (q0 := 0) rfl (mW_o G a v)) (mW_f G a v v) (mW_s G a v v) rfl rfl hl.1 rfl (Nat.le_of_ble_eq_true rfl) dX8_showsOf_92 ⟨Nat.le_refl _, Nat.le_refl _⟩ (fun H locs hP hD hS => ?_)
            refine lv_aload_n hx hb dX8_showsOf_95 rfl (lv_at hl 1 rfl) ?_
            refine fc_get (v := .ref (a 4)) (ci := 5) (C := RX8) (T := TX8) (N := 29) hx hb hwX8 hown hE hP 0 (mW_o G a v) rfl 3 (by decide) hk_fieldLink_RX8_19__BrideNotKnownModel___foot____I_ (fun _ h => h) rfl dX8_showsOf_96 ?_
            refine lv_iload_n hx hb dX8_showsOf_99 rfl (lv_at hl 2 rfl) ?_
            obtain ⟨c1399, hf⟩ := gd_some hf
            refine fc_iald (n := 8) (f := (v 3)) hx hb hE hP 4 (mW_a4 G a v) (inB_in c1399) dX8_showsOf_100 ?_
            refine lv_ixor hx hb dX8_showsOf_101 ?_
            exact fc_reti hx hb hr hlocks hP hS dX8_showsOf_102 (i1 hf) rfl
          · have hf := ifF hf c1397
            by_cases c1400 : ((v 1) x1.toNatClampNeg) = (5 : Int32)
            · have hf := ifT hf c1400
              refine lv_tableIn (off := 57) (tgt := 103) hx hb dX8_showsOf_46 (by rw [c1400]; decide) (by rw [c1400]; decide) (by rw [c1400]; rfl) (by decide) ?_
              refine lv_iload_n hx hb dX8_showsOf_103 rfl (lv_at hl 0 rfl) ?_
              refine lv_bipush (v := (30 : Int32)) hx hb dX8_showsOf_104 (by decide) ?_
              refine lv_iand hx hb dX8_showsOf_106 ?_
              exact fc_reti hx hb hr hlocks hP hS dX8_showsOf_107 (i1 hf) rfl
            · have hf := ifF hf c1400
              refine lv_tableOut (tgt := 108) hx hb dX8_showsOf_46 (by have dc1393 := lv_neT c1393 (a := 1) (by decide); have dc1395 := lv_neT c1395 (a := 2) (by decide); have dc1396 := lv_neT c1396 (a := 3) (by decide); have dc1397 := lv_neT c1397 (a := 4) (by decide); have dc1400 := lv_neT c1400 (a := 5) (by decide); omega) (by decide) ?_
              refine lv_aload_n hx hb dX8_showsOf_108 rfl (lv_at hl 1 rfl) ?_
              refine fc_get (v := .ref (a 4)) (ci := 5) (C := RX8) (T := TX8) (N := 29) hx hb hwX8 hown hE hP 0 (mW_o G a v) rfl 3 (by decide) hk_fieldLink_RX8_19__BrideNotKnownModel___foot____I_ (fun _ h => h) rfl dX8_showsOf_109 ?_
              refine lv_iload_n hx hb dX8_showsOf_112 rfl (lv_at hl 2 rfl) ?_
              obtain ⟨c1401, hf⟩ := gd_some hf
              refine fc_iald (n := 8) (f := (v 3)) hx hb hE hP 4 (mW_a4 G a v) (inB_in c1401) dX8_showsOf_113 ?_
              exact fc_reti hx hb hr hlocks hP hS dX8_showsOf_114 (i1 hf) rfl
  refine lv_icmp_ne (tgt := 33) hx hb dX8_showsOf_26 (by decide) (fun c1402 => ?_) (fun c1402 => ?_)
  · have hf := ifF hf c1402
    refine lv_aload_n hx hb dX8_showsOf_33 rfl (lv_at hl 1 rfl) ?_
    refine fc_get (v := .ref (a 4)) (ci := 5) (C := RX8) (T := TX8) (N := 29) hx hb hwX8 hown hE hP 0 (mW_o G a v) rfl 3 (by decide) hk_fieldLink_RX8_19__BrideNotKnownModel___foot____I_ (fun _ h => h) rfl dX8_showsOf_34 ?_
    refine lv_iload_n hx hb dX8_showsOf_37 rfl (lv_at hl 2 rfl) ?_
    obtain ⟨c1403, hf⟩ := gd_some hf
    refine fc_iald (n := 8) (f := (v 3)) hx hb hE hP 4 (mW_a4 G a v) (inB_in c1403) dX8_showsOf_38 ?_
    exact J39_1391 ((v 3) x1.toNatClampNeg) _ _ _ hP hD hS (lv_sub hl [1, 2, 0] rfl) hf
  · have hf := ifT hf c1402
    refine lv_iload_n hx hb dX8_showsOf_29 rfl (lv_at hl 0 rfl) ?_
    refine lv_goto (tgt := 39) hx hb dX8_showsOf_30 (by decide) ?_
    exact J39_1391 (((v 3) x1.toNatClampNeg) ^^^ ((1 : Int32) <<< ((((v 2) x1.toNatClampNeg) - ((v 2) x1.toNatClampNeg) / (6 : Int32) * (6 : Int32)) &&& 31))) _ _ _ hP hD hS (lv_sub hl [1, 2, 0] rfl) hf
theorem dk_X8_guessesBy : yX8_guessesBy.cls ≠ "java/lang/invoke/MethodHandle" ∧ yX8_guessesBy.cls ≠ "java/lang/invoke/VarHandle" ∧ (parseMethodDescriptor yX8_guessesBy.desc).map (fun d => d.parameters.length) = some 2 := by decide +kernel
theorem iu_X8_guessesBy_X8 : ∀ w ∈ u_ws RX8 TX8 29, w ∈ wsX8_guessesBy := by decide +kernel
set_option maxHeartbeats 4000000 in
set_option maxRecDepth 100000 in
theorem k_X8_guessesBy {l : Launch} {G : Gx} (a : Nat → Nat) (v : St) (x1 : Int32) (x2 : Int32) {r : Int32} (hf : f_X8_guessesBy v x1 x2 = some r) : FC l G yX8_guessesBy wsX8_guessesBy ({ frames := 2, cells := 0, slots := 0, locals := 44 } : Room) [.ref (a 0), .int x1, .int x2] (mW G a v) (mW G a v) (some (.int r)) := by
  refine fc_head (cc := cX8_guessesBy) (maxL := 5) (ret := (some .int)) (C := RX8) (lv := [(0, .ref (a 0)), (1, .int x1), (2, .int x2)]) (by decide) rfl rfl (Nat.le_of_ble_eq_true rfl) rfl ?_
  intro p e s m below meth c ls A hx hb hr hml hown hts hlocks hE hP hD hAB hS hl
  have hCF : CallFix p m c cX8_guessesBy 5 s ([.ref (a 0), .int x1, .int x2] : List Value).toArray wsX8_guessesBy RX8 := ⟨hx, hb, hml, hown, hts⟩
  have hwX8 : ∀ w ∈ u_ws RX8 TX8 29, w.before ([.ref (a 0), .int x1, .int x2] : List Value).toArray s = true := fun w h => hts w (iu_X8_guessesBy_X8 w h)
  have hk_fieldLink_RX8_66__BrideNotKnownModel___brides___I_ := hts (.fieldLink RX8 66 "BrideNotKnownModel" "brides" "I") (List.mem_of_getElem? (i := 1) rfl)
  have hk_fieldLink_RX8_22__BrideNotKnownModel___state____I_ := hts (.fieldLink RX8 22 "BrideNotKnownModel" "state" "[I") (List.mem_of_getElem? (i := 2) rfl)
  rw [f_X8_guessesBy] at hf
  refine lv_iconst (v := (0 : Int32)) hx hb dX8_guessesBy_0 (by decide) ?_
  refine lv_istore_n (lv' := [(3, .int (0 : Int32)), (0, .ref (a 0)), (1, .int x1), (2, .int x2)]) hx hb dX8_guessesBy_1 rfl hl (by decide) rfl (fun ls hl => ?_)
  refine lv_iconst (v := (0 : Int32)) hx hb dX8_guessesBy_2 (by decide) ?_
  refine lv_istore (lv' := [(4, .int (0 : Int32)), (3, .int (0 : Int32)), (0, .ref (a 0)), (1, .int x1), (2, .int x2)]) hx hb dX8_guessesBy_3 hl (by decide) rfl (fun ls hl => ?_)
  have L5_1407 : ∀ (n : Nat) (x3_1405 : Int32) (x4_1406 : Int32) (H : Heap) (locs : List Loc) (ls : Array Slot), va_P (gD G) vwCl (mW G a v) H → va_D A (mW G a v) → va_S A s.heap H locs → lv_has ls 5 [(0, .ref (a 0)), (1, .int x1), (2, .int x2), (3, .int x3_1405), (4, .int x4_1406)] → f_X8_guessesBy_5 v x1 x2 n x3_1405 x4_1406 = some r → W p l e (headSpec wsX8_guessesBy ({ frames := 2, cells := 0, slots := 0, locals := 44 } : Room)).room s m ([.ref (a 0), .int x1, .int x2] : List Value).toArray below meth c H locs 0 0 (MQ below (FQ G A (mW G a v) (some (.int r))) ([.ref (a 0), .int x1, .int x2] : List Value).toArray s 0 0 A) (F0 m 5 ls []) := by
    intro n
    induction n with
    | zero =>
      intro x3_1405 x4_1406 H locs ls hP hD hS hl hf
      exact no_some hf
    | succ n ih =>
      intro x3_1405 x4_1406 H locs ls hP hD hS hl hf
      rw [f_X8_guessesBy_5] at hf
      refine lv_iload hx hb dX8_guessesBy_5 (lv_at hl 4 rfl) ?_
      refine lv_aload_n hx hb dX8_guessesBy_7 rfl (lv_at hl 0 rfl) ?_
      refine fc_get (v := .int (v 23 0)) (ci := 5) (C := RX8) (T := TX8) (N := 29) hx hb hwX8 hown hE hP 0 (mW_o G a v) rfl 10 (by decide) hk_fieldLink_RX8_66__BrideNotKnownModel___brides___I_ (fun _ h => h) rfl dX8_guessesBy_8 ?_
      refine lv_icmp_ge (tgt := 54) hx hb dX8_guessesBy_11 (by decide) (fun c1408 => ?_) (fun c1408 => ?_)
      · have hf := ifT hf c1408
        refine lv_iload_n hx hb dX8_guessesBy_54 rfl (lv_at hl 3 rfl) ?_
        exact fc_reti hx hb hr hlocks hP hS dX8_guessesBy_55 (i1 hf) rfl
      · have hf := ifF hf c1408
        refine lv_iload_n hx hb dX8_guessesBy_14 rfl (lv_at hl 3 rfl) ?_
        refine lv_aload_n hx hb dX8_guessesBy_15 rfl (lv_at hl 0 rfl) ?_
        refine fc_get (v := .ref (a 5)) (ci := 5) (C := RX8) (T := TX8) (N := 29) hx hb hwX8 hown hE hP 0 (mW_o G a v) rfl 4 (by decide) hk_fieldLink_RX8_22__BrideNotKnownModel___state____I_ (fun _ h => h) rfl dX8_guessesBy_16 ?_
        refine lv_iload hx hb dX8_guessesBy_19 (lv_at hl 4 rfl) ?_
        obtain ⟨c1409, hf⟩ := gd_some hf
        refine fc_iald (n := 8) (f := (v 4)) hx hb hE hP 5 (mW_a5 G a v) (inB_in c1409) dX8_guessesBy_21 ?_
        refine lv_if_ne (tgt := 45) hx hb dX8_guessesBy_22 (by decide) (fun c1410 => ?_) (fun c1410 => ?_)
        · have hf := ifF hf c1410
          refine lv_iconst (v := (0 : Int32)) hx hb dX8_guessesBy_45 (by decide) ?_
          refine lv_ior hx hb dX8_guessesBy_46 ?_
          refine lv_istore_n (lv' := [(3, .int (x3_1405 ||| (0 : Int32))), (0, .ref (a 0)), (1, .int x1), (2, .int x2), (4, .int x4_1406)]) hx hb dX8_guessesBy_47 rfl hl (by decide) rfl (fun ls hl => ?_)
          refine lv_iinc (v := (x4_1406 + (1 : Int32))) (lv' := [(4, .int (x4_1406 + (1 : Int32))), (3, .int (x3_1405 ||| (0 : Int32))), (0, .ref (a 0)), (1, .int x1), (2, .int x2)]) hx hb dX8_guessesBy_48 hl (k := 4) rfl rfl (by decide) rfl (fun ls hl => ?_)
          refine lv_goto (tgt := 5) hx hb dX8_guessesBy_51 (by decide) ?_
          exact ih (x3_1405 ||| (0 : Int32)) (x4_1406 + (1 : Int32)) _ _ _ hP hD hS (lv_sub hl [2, 3, 4, 1, 0] rfl) hf
        · have hf := ifT hf c1410
          refine lv_aload_n hx hb dX8_guessesBy_25 rfl (lv_at hl 0 rfl) ?_
          refine lv_iload hx hb dX8_guessesBy_26 (lv_at hl 4 rfl) ?_
          obtain ⟨q1411, hq1411, hf⟩ := bnd hf
          refine fc_callV (Wa' := (mW G a v)) (st1 := [.int q1411, .int x3_1405]) (As := [.int x4_1406]) (rest := [.int x3_1405]) hCF (k_X8_showsOf a v x4_1406 hq1411) (cwV 1 hts gX8_guessesBy_X8_showsOf rfl rfl rfl ⟨rfl, dk_X8_showsOf⟩ ⟨Nat.le_of_ble_eq_true rfl, Nat.le_of_ble_eq_true rfl⟩) hE hAB hP hD hS [0, 1, 2, 3, 4, 5, 6, 7, 8, 9, 10, 11, 12, 13, 14, 15, 16, 17, 18, 19, 20, 21, 22, 23, 24] mW_d (mW_c G a v) (va_recv hE.1 hP (ci := 5) (q0 := 0) rfl (mW_o G a v)) (mW_f G a v v) (mW_s G a v v) rfl rfl hl.1 rfl (Nat.le_of_ble_eq_true rfl) dX8_guessesBy_28 ⟨Nat.le_refl _, Nat.le_refl _⟩ (fun H locs hP hD hS => ?_)
          refine lv_iload_n hx hb dX8_guessesBy_31 rfl (lv_at hl 2 rfl) ?_
          refine lv_ixor hx hb dX8_guessesBy_32 ?_
          refine lv_iload_n hx hb dX8_guessesBy_33 rfl (lv_at hl 1 rfl) ?_
          refine lv_iand hx hb dX8_guessesBy_34 ?_
          refine lv_if_ne (tgt := 45) hx hb dX8_guessesBy_35 (by decide) (fun c1412 => ?_) (fun c1412 => ?_)
          · have hf := ifF hf c1412
            refine lv_iconst (v := (0 : Int32)) hx hb dX8_guessesBy_45 (by decide) ?_
            refine lv_ior hx hb dX8_guessesBy_46 ?_
            refine lv_istore_n (lv' := [(3, .int (x3_1405 ||| (0 : Int32))), (0, .ref (a 0)), (1, .int x1), (2, .int x2), (4, .int x4_1406)]) hx hb dX8_guessesBy_47 rfl hl (by decide) rfl (fun ls hl => ?_)
            refine lv_iinc (v := (x4_1406 + (1 : Int32))) (lv' := [(4, .int (x4_1406 + (1 : Int32))), (3, .int (x3_1405 ||| (0 : Int32))), (0, .ref (a 0)), (1, .int x1), (2, .int x2)]) hx hb dX8_guessesBy_48 hl (k := 4) rfl rfl (by decide) rfl (fun ls hl => ?_)
            refine lv_goto (tgt := 5) hx hb dX8_guessesBy_51 (by decide) ?_
            exact ih (x3_1405 ||| (0 : Int32)) (x4_1406 + (1 : Int32)) _ _ _ hP hD hS (lv_sub hl [2, 3, 4, 1, 0] rfl) hf
          · have hf := ifT hf c1412
            refine lv_iconst (v := (1 : Int32)) hx hb dX8_guessesBy_38 (by decide) ?_
            refine lv_iload hx hb dX8_guessesBy_39 (lv_at hl 4 rfl) ?_
            refine lv_ishl hx hb dX8_guessesBy_41 ?_
            refine lv_goto (tgt := 46) hx hb dX8_guessesBy_42 (by decide) ?_
            refine lv_ior hx hb dX8_guessesBy_46 ?_
            refine lv_istore_n (lv' := [(3, .int (x3_1405 ||| ((1 : Int32) <<< (x4_1406 &&& 31)))), (0, .ref (a 0)), (1, .int x1), (2, .int x2), (4, .int x4_1406)]) hx hb dX8_guessesBy_47 rfl hl (by decide) rfl (fun ls hl => ?_)
            refine lv_iinc (v := (x4_1406 + (1 : Int32))) (lv' := [(4, .int (x4_1406 + (1 : Int32))), (3, .int (x3_1405 ||| ((1 : Int32) <<< (x4_1406 &&& 31)))), (0, .ref (a 0)), (1, .int x1), (2, .int x2)]) hx hb dX8_guessesBy_48 hl (k := 4) rfl rfl (by decide) rfl (fun ls hl => ?_)
            refine lv_goto (tgt := 5) hx hb dX8_guessesBy_51 (by decide) ?_
            exact ih (x3_1405 ||| ((1 : Int32) <<< (x4_1406 &&& 31))) (x4_1406 + (1 : Int32)) _ _ _ hP hD hS (lv_sub hl [2, 3, 4, 1, 0] rfl) hf
  exact L5_1407 FUEL (0 : Int32) (0 : Int32) _ _ _ hP hD hS (lv_sub hl [2, 3, 4, 1, 0] rfl) hf
theorem dk_X8_showing : yX8_showing.cls ≠ "java/lang/invoke/MethodHandle" ∧ yX8_showing.cls ≠ "java/lang/invoke/VarHandle" ∧ (parseMethodDescriptor yX8_showing.desc).map (fun d => d.parameters.length) = some 1 := by decide +kernel
set_option maxHeartbeats 4000000 in
set_option maxRecDepth 100000 in
theorem k_X8_showing {l : Launch} {G : Gx} (a : Nat → Nat) (v : St) (x1 : Int32) {r : Int32} (hf : f_X8_showing v x1 = some r) : FC l G yX8_showing wsX8_showing ({ frames := 3, cells := 0, slots := 0, locals := 68 } : Room) [.ref (a 0), .int x1] (mW G a v) (mW G a v) (some (.int r)) := by
  refine fc_head (cc := cX8_showing) (maxL := 2) (ret := (some .int)) (C := RX8) (lv := [(0, .ref (a 0)), (1, .int x1)]) (by decide) rfl rfl (Nat.le_of_ble_eq_true rfl) rfl ?_
  intro p e s m below meth c ls A hx hb hr hml hown hts hlocks hE hP hD hAB hS hl
  have hCF : CallFix p m c cX8_showing 2 s ([.ref (a 0), .int x1] : List Value).toArray wsX8_showing RX8 := ⟨hx, hb, hml, hown, hts⟩
  rw [f_X8_showing] at hf
  refine lv_aload_n hx hb dX8_showing_0 rfl (lv_at hl 0 rfl) ?_
  refine lv_bipush (v := (63 : Int32)) hx hb dX8_showing_1 (by decide) ?_
  refine lv_iload_n hx hb dX8_showing_3 rfl (lv_at hl 1 rfl) ?_
  obtain ⟨q1414, hq1414, hf⟩ := bnd hf
  refine fc_callV (Wa' := (mW G a v)) (st1 := [.int q1414]) (As := [.int (63 : Int32), .int x1]) (rest := []) hCF (k_X8_guessesBy a v (63 : Int32) x1 hq1414) (cwV 2 hts gX8_showing_X8_guessesBy rfl rfl rfl ⟨rfl, dk_X8_guessesBy⟩ ⟨Nat.le_of_ble_eq_true rfl, Nat.le_of_ble_eq_true rfl⟩) hE hAB hP hD hS [0, 1, 2, 3, 4, 5, 6, 7, 8, 9, 10, 11, 12, 13, 14, 15, 16, 17, 18, 19, 20, 21, 22, 23, 24] mW_d (mW_c G a v) (va_recv hE.1 hP (ci := 5) (q0 := 0) rfl (mW_o G a v)) (mW_f G a v v) (mW_s G a v v) rfl rfl hl.1 rfl (Nat.le_of_ble_eq_true rfl) dX8_showing_4 ⟨Nat.le_refl _, Nat.le_refl _⟩ (fun H locs hP hD hS => ?_)
  exact fc_reti hx hb hr hlocks hP hS dX8_showing_7 (i1 hf) rfl
theorem dk_X8_has : yX8_has.cls ≠ "java/lang/invoke/MethodHandle" ∧ yX8_has.cls ≠ "java/lang/invoke/VarHandle" ∧ (parseMethodDescriptor yX8_has.desc).map (fun d => d.parameters.length) = some 2 := by decide +kernel
set_option maxHeartbeats 4000000 in
set_option maxRecDepth 100000 in
theorem k_X8_has {l : Launch} {G : Gx} (x0 : Int32) (x1 : Int32) {r : Int32} (hf : f_X8_has x0 x1 = some r) : FC l G yX8_has wsX8_has ({ frames := 0, cells := 0, slots := 0, locals := 0 } : Room) [.int x0, .int x1] ([] : va_W) ([] : va_W) (some (.int r)) := by
  refine fc_head (cc := cX8_has) (maxL := 2) (ret := (some .boolean)) (C := RX8) (lv := [(0, .int x0), (1, .int x1)]) (by decide) rfl rfl (Nat.le_of_ble_eq_true rfl) rfl ?_
  intro p e s m below meth c ls A hx hb hr hml hown hts hlocks hE hP hD hAB hS hl
  have hCF : CallFix p m c cX8_has 2 s ([.int x0, .int x1] : List Value).toArray wsX8_has RX8 := ⟨hx, hb, hml, hown, hts⟩
  rw [f_X8_has] at hf
  refine lv_iload_n hx hb dX8_has_0 rfl (lv_at hl 0 rfl) ?_
  refine lv_iload_n hx hb dX8_has_1 rfl (lv_at hl 1 rfl) ?_
  refine lv_ishr hx hb dX8_has_2 ?_
  refine lv_iconst (v := (1 : Int32)) hx hb dX8_has_3 (by decide) ?_
  refine lv_iand hx hb dX8_has_4 ?_
  refine lv_iconst (v := (1 : Int32)) hx hb dX8_has_5 (by decide) ?_
  refine lv_icmp_ne (tgt := 13) hx hb dX8_has_6 (by decide) (fun c1415 => ?_) (fun c1415 => ?_)
  · have hf := ifF hf c1415
    refine lv_iconst (v := (0 : Int32)) hx hb dX8_has_13 (by decide) ?_
    exact fc_retz hx hb hr hlocks hP hS dX8_has_14 (by decide) (i1 hf) rfl
  · have hf := ifT hf c1415
    refine lv_iconst (v := (1 : Int32)) hx hb dX8_has_9 (by decide) ?_
    refine lv_goto (tgt := 14) hx hb dX8_has_10 (by decide) ?_
    exact fc_retz hx hb hr hlocks hP hS dX8_has_14 (by decide) (i1 hf) rfl
theorem dk_X8_lowest : yX8_lowest.cls ≠ "java/lang/invoke/MethodHandle" ∧ yX8_lowest.cls ≠ "java/lang/invoke/VarHandle" ∧ (parseMethodDescriptor yX8_lowest.desc).map (fun d => d.parameters.length) = some 1 := by decide +kernel
set_option maxHeartbeats 4000000 in
set_option maxRecDepth 100000 in
theorem k_X8_lowest {l : Launch} {G : Gx} (x0 : Int32) {r : Int32} (hf : f_X8_lowest x0 = some r) : FC l G yX8_lowest wsX8_lowest ({ frames := 1, cells := 0, slots := 0, locals := 21 } : Room) [.int x0] ([] : va_W) ([] : va_W) (some (.int r)) := by
  refine fc_head (cc := cX8_lowest) (maxL := 2) (ret := (some .int)) (C := RX8) (lv := [(0, .int x0)]) (by decide) rfl rfl (Nat.le_of_ble_eq_true rfl) rfl ?_
  intro p e s m below meth c ls A hx hb hr hml hown hts hlocks hE hP hD hAB hS hl
  have hCF : CallFix p m c cX8_lowest 2 s ([.int x0] : List Value).toArray wsX8_lowest RX8 := ⟨hx, hb, hml, hown, hts⟩
  rw [f_X8_lowest] at hf
  refine lv_iconst (v := (0 : Int32)) hx hb dX8_lowest_0 (by decide) ?_
  refine lv_istore_n (lv' := [(1, .int (0 : Int32)), (0, .int x0)]) hx hb dX8_lowest_1 rfl hl (by decide) rfl (fun ls hl => ?_)
  have L2_1418 : ∀ (n : Nat) (x1_1417 : Int32) (H : Heap) (locs : List Loc) (ls : Array Slot), va_P (gD G) vwCl ([] : va_W) H → va_D A ([] : va_W) → va_S A s.heap H locs → lv_has ls 2 [(0, .int x0), (1, .int x1_1417)] → f_X8_lowest_2 x0 n x1_1417 = some r → W p l e (headSpec wsX8_lowest ({ frames := 1, cells := 0, slots := 0, locals := 21 } : Room)).room s m ([.int x0] : List Value).toArray below meth c H locs 0 0 (MQ below (FQ G A ([] : va_W) (some (.int r))) ([.int x0] : List Value).toArray s 0 0 A) (F0 m 2 ls []) := by
    intro n
    induction n with
    | zero =>
      intro x1_1417 H locs ls hP hD hS hl hf
      exact no_some hf
    | succ n ih =>
      intro x1_1417 H locs ls hP hD hS hl hf
      rw [f_X8_lowest_2] at hf
      refine lv_iload_n hx hb dX8_lowest_2 rfl (lv_at hl 0 rfl) ?_
      refine lv_iload_n hx hb dX8_lowest_3 rfl (lv_at hl 1 rfl) ?_
      obtain ⟨q1419, hq1419, hf⟩ := bnd hf
      refine fc_callS (Wa' := ([] : va_W)) (st1 := [.int q1419]) (As := [.int x0, .int x1_1417]) (rest := []) hCF (k_X8_has x0 x1_1417 hq1419) (va_cwS 2 hts gX8_lowest_X8_has rfl rfl rfl dk_X8_has ⟨Nat.le_of_ble_eq_true rfl, Nat.le_of_ble_eq_true rfl⟩) hE hAB hP hD hS [] rfl rfl rfl rfl rfl rfl hl.1 rfl (Nat.le_of_ble_eq_true rfl) dX8_lowest_4 ⟨Nat.le_refl _, Nat.le_refl _⟩ (fun H locs hP hD hS => ?_)
      refine lv_if_ne (tgt := 16) hx hb dX8_lowest_7 (by decide) (fun c1420 => ?_) (fun c1420 => ?_)
      · have hf := ifF hf c1420
        refine lv_iload_n hx hb dX8_lowest_16 rfl (lv_at hl 1 rfl) ?_
        exact fc_reti hx hb hr hlocks hP hS dX8_lowest_17 (i1 hf) rfl
      · have hf := ifT hf c1420
        refine lv_iinc (v := (x1_1417 + (1 : Int32))) (lv' := [(1, .int (x1_1417 + (1 : Int32))), (0, .int x0)]) hx hb dX8_lowest_10 hl (k := 1) rfl rfl (by decide) rfl (fun ls hl => ?_)
        refine lv_goto (tgt := 2) hx hb dX8_lowest_13 (by decide) ?_
        exact ih (x1_1417 + (1 : Int32)) _ _ _ hP hD hS (lv_sub hl [1, 0] rfl) hf
  exact L2_1418 FUEL (0 : Int32) _ _ _ hP hD hS (lv_sub hl [1, 0] rfl) hf
theorem dk_X8_firstAlike : yX8_firstAlike.cls ≠ "java/lang/invoke/MethodHandle" ∧ yX8_firstAlike.cls ≠ "java/lang/invoke/VarHandle" ∧ (parseMethodDescriptor yX8_firstAlike.desc).map (fun d => d.parameters.length) = some 0 := by decide +kernel
theorem iu_X8_firstAlike_X8 : ∀ w ∈ u_ws RX8 TX8 29, w ∈ wsX8_firstAlike := by decide +kernel
set_option maxHeartbeats 4000000 in
set_option maxRecDepth 100000 in
theorem k_X8_firstAlike {l : Launch} {G : Gx} (a : Nat → Nat) (v : St) {r : Int32} (hf : f_X8_firstAlike v = some r) : FC l G yX8_firstAlike wsX8_firstAlike ({ frames := 4, cells := 0, slots := 0, locals := 89 } : Room) [.ref (a 0)] (mW G a v) (mW G a v) (some (.int r)) := by
  refine fc_head (cc := cX8_firstAlike) (maxL := 3) (ret := (some .int)) (C := RX8) (lv := [(0, .ref (a 0))]) (by decide) rfl rfl (Nat.le_of_ble_eq_true rfl) rfl ?_
  intro p e s m below meth c ls A hx hb hr hml hown hts hlocks hE hP hD hAB hS hl
  have hCF : CallFix p m c cX8_firstAlike 3 s ([.ref (a 0)] : List Value).toArray wsX8_firstAlike RX8 := ⟨hx, hb, hml, hown, hts⟩
  have hwX8 : ∀ w ∈ u_ws RX8 TX8 29, w.before ([.ref (a 0)] : List Value).toArray s = true := fun w h => hts w (iu_X8_firstAlike_X8 w h)
  have hk_fieldLink_RX8_66__BrideNotKnownModel___brides___I_ := hts (.fieldLink RX8 66 "BrideNotKnownModel" "brides" "I") (List.mem_of_getElem? (i := 1) rfl)
  have hk_fieldLink_RX8_22__BrideNotKnownModel___state____I_ := hts (.fieldLink RX8 22 "BrideNotKnownModel" "state" "[I") (List.mem_of_getElem? (i := 2) rfl)
  rw [f_X8_firstAlike] at hf
  refine lv_iconst (v := (0 : Int32)) hx hb dX8_firstAlike_0 (by decide) ?_
  refine lv_istore_n (lv' := [(1, .int (0 : Int32)), (0, .ref (a 0))]) hx hb dX8_firstAlike_1 rfl hl (by decide) rfl (fun ls hl => ?_)
  have L2_1429 : ∀ (K2_41 : Int32 → Int32 → Option (Int32)) (hK2_41 : ∀ (x1_1430 : Int32) (x2_1431 : Int32) (H : Heap) (locs : List Loc) (ls : Array Slot), va_P (gD G) vwCl (mW G a v) H → va_D A (mW G a v) → va_S A s.heap H locs → lv_has ls 3 [(1, .int x1_1430), (2, .int x2_1431)] → K2_41 x1_1430 x2_1431 = some r → W p l e (headSpec wsX8_firstAlike ({ frames := 4, cells := 0, slots := 0, locals := 89 } : Room)).room s m ([.ref (a 0)] : List Value).toArray below meth c H locs 0 0 (MQ below (FQ G A (mW G a v) (some (.int r))) ([.ref (a 0)] : List Value).toArray s 0 0 A) (F0 m 41 ls [])) (n : Nat) (x1_1428 : Int32) (H : Heap) (locs : List Loc) (ls : Array Slot), va_P (gD G) vwCl (mW G a v) H → va_D A (mW G a v) → va_S A s.heap H locs → lv_has ls 3 [(0, .ref (a 0)), (1, .int x1_1428)] → f_X8_firstAlike_2 v n x1_1428 K2_41 = some r → W p l e (headSpec wsX8_firstAlike ({ frames := 4, cells := 0, slots := 0, locals := 89 } : Room)).room s m ([.ref (a 0)] : List Value).toArray below meth c H locs 0 0 (MQ below (FQ G A (mW G a v) (some (.int r))) ([.ref (a 0)] : List Value).toArray s 0 0 A) (F0 m 2 ls []) := by
    intro K2_41 hK2_41 n
    induction n with
    | zero =>
      intro x1_1428 H locs ls hP hD hS hl hf
      exact no_some hf
    | succ n ih =>
      intro x1_1428 H locs ls hP hD hS hl hf
      rw [f_X8_firstAlike_2] at hf
      refine lv_iload_n hx hb dX8_firstAlike_2 rfl (lv_at hl 1 rfl) ?_
      refine lv_aload_n hx hb dX8_firstAlike_3 rfl (lv_at hl 0 rfl) ?_
      refine fc_get (v := .int (v 23 0)) (ci := 5) (C := RX8) (T := TX8) (N := 29) hx hb hwX8 hown hE hP 0 (mW_o G a v) rfl 10 (by decide) hk_fieldLink_RX8_66__BrideNotKnownModel___brides___I_ (fun _ h => h) rfl dX8_firstAlike_4 ?_
      refine lv_icmp_ge (tgt := 61) hx hb dX8_firstAlike_7 (by decide) (fun c1432 => ?_) (fun c1432 => ?_)
      · have hf := ifT hf c1432
        refine lv_bipush (v := (-9 : Int32)) hx hb dX8_firstAlike_61 (by decide) ?_
        exact fc_reti hx hb hr hlocks hP hS dX8_firstAlike_63 (i1 hf) rfl
      · have hf := ifF hf c1432
        refine lv_aload_n hx hb dX8_firstAlike_10 rfl (lv_at hl 0 rfl) ?_
        refine fc_get (v := .ref (a 5)) (ci := 5) (C := RX8) (T := TX8) (N := 29) hx hb hwX8 hown hE hP 0 (mW_o G a v) rfl 4 (by decide) hk_fieldLink_RX8_22__BrideNotKnownModel___state____I_ (fun _ h => h) rfl dX8_firstAlike_11 ?_
        refine lv_iload_n hx hb dX8_firstAlike_14 rfl (lv_at hl 1 rfl) ?_
        obtain ⟨c1433, hf⟩ := gd_some hf
        refine fc_iald (n := 8) (f := (v 4)) hx hb hE hP 5 (mW_a5 G a v) (inB_in c1433) dX8_firstAlike_15 ?_
        have J36_1435 : ∀ (s0_1434 : Int32) (H : Heap) (locs : List Loc) (ls : Array Slot), va_P (gD G) vwCl (mW G a v) H → va_D A (mW G a v) → va_S A s.heap H locs → lv_has ls 3 [(0, .ref (a 0)), (1, .int x1_1428)] → f_X8_firstAlike_36 x1_1428 s0_1434 (fun (x1_1436 : Int32) => f_X8_firstAlike_2 v n x1_1436 K2_41) K2_41 = some r → W p l e (headSpec wsX8_firstAlike ({ frames := 4, cells := 0, slots := 0, locals := 89 } : Room)).room s m ([.ref (a 0)] : List Value).toArray below meth c H locs 0 0 (MQ below (FQ G A (mW G a v) (some (.int r))) ([.ref (a 0)] : List Value).toArray s 0 0 A) (F0 m 36 ls [.int s0_1434]) := by
          intro s0_1434 H locs ls hP hD hS hl hf
          rw [f_X8_firstAlike_36] at hf
          refine lv_istore_n (lv' := [(2, .int s0_1434), (0, .ref (a 0)), (1, .int x1_1428)]) hx hb dX8_firstAlike_36 rfl hl (by decide) rfl (fun ls hl => ?_)
          refine lv_iload_n hx hb dX8_firstAlike_37 rfl (lv_at hl 0 rfl) ?_
          refine lv_if_eq (tgt := 55) hx hb dX8_firstAlike_38 (by decide) (fun c1437 => ?_) (fun c1437 => ?_)
          · have hf := ifT hf c1437
            refine lv_iinc (v := (x1_1428 + (1 : Int32))) (lv' := [(1, .int (x1_1428 + (1 : Int32))), (2, .int s0_1434), (0, .ref (a 0))]) hx hb dX8_firstAlike_55 hl (k := 2) rfl rfl (by decide) rfl (fun ls hl => ?_)
            refine lv_goto (tgt := 2) hx hb dX8_firstAlike_58 (by decide) ?_
            exact ih (x1_1428 + (1 : Int32)) _ _ _ hP hD hS (lv_sub hl [2, 0] rfl) hf
          · have hf := ifF hf c1437
            exact hK2_41 x1_1428 s0_1434 _ _ _ hP hD hS (lv_sub hl [2, 0] rfl) hf
        refine lv_if_ne (tgt := 35) hx hb dX8_firstAlike_16 (by decide) (fun c1438 => ?_) (fun c1438 => ?_)
        · have hf := ifF hf c1438
          refine lv_iconst (v := (0 : Int32)) hx hb dX8_firstAlike_35 (by decide) ?_
          exact J36_1435 (0 : Int32) _ _ _ hP hD hS (lv_sub hl [0, 1] rfl) hf
        · have hf := ifT hf c1438
          refine lv_aload_n hx hb dX8_firstAlike_19 rfl (lv_at hl 0 rfl) ?_
          refine lv_aload_n hx hb dX8_firstAlike_20 rfl (lv_at hl 0 rfl) ?_
          refine lv_iload_n hx hb dX8_firstAlike_21 rfl (lv_at hl 1 rfl) ?_
          obtain ⟨q1439, hq1439, hf⟩ := bnd hf
          refine fc_callV (Wa' := (mW G a v)) (st1 := [.int q1439, .ref (a 0)]) (As := [.int x1_1428]) (rest := [.ref (a 0)]) hCF (k_X8_showsOf a v x1_1428 hq1439) (cwV 1 hts gX8_firstAlike_X8_showsOf rfl rfl rfl ⟨rfl, dk_X8_showsOf⟩ ⟨Nat.le_of_ble_eq_true rfl, Nat.le_of_ble_eq_true rfl⟩) hE hAB hP hD hS [0, 1, 2, 3, 4, 5, 6, 7, 8, 9, 10, 11, 12, 13, 14, 15, 16, 17, 18, 19, 20, 21, 22, 23, 24] mW_d (mW_c G a v) (va_recv hE.1 hP (ci := 5) (q0 := 0) rfl (mW_o G a v)) (mW_f G a v v) (mW_s G a v v) rfl rfl hl.1 rfl (Nat.le_of_ble_eq_true rfl) dX8_firstAlike_22 ⟨Nat.le_refl _, Nat.le_refl _⟩ (fun H locs hP hD hS => ?_)
          obtain ⟨q1440, hq1440, hf⟩ := bnd hf
          refine fc_callV (Wa' := (mW G a v)) (st1 := [.int q1440]) (As := [.int q1439]) (rest := []) hCF (k_X8_showing a v q1439 hq1440) (cwV 1 hts gX8_firstAlike_X8_showing rfl rfl rfl ⟨rfl, dk_X8_showing⟩ ⟨Nat.le_of_ble_eq_true rfl, Nat.le_of_ble_eq_true rfl⟩) hE hAB hP hD hS [0, 1, 2, 3, 4, 5, 6, 7, 8, 9, 10, 11, 12, 13, 14, 15, 16, 17, 18, 19, 20, 21, 22, 23, 24] mW_d (mW_c G a v) (va_recv hE.1 hP (ci := 5) (q0 := 0) rfl (mW_o G a v)) (mW_f G a v v) (mW_s G a v v) rfl rfl hl.1 rfl (Nat.le_of_ble_eq_true rfl) dX8_firstAlike_25 ⟨Nat.le_refl _, Nat.le_refl _⟩ (fun H locs hP hD hS => ?_)
          refine lv_iload_n hx hb dX8_firstAlike_28 rfl (lv_at hl 1 rfl) ?_
          refine lv_iconst (v := (1 : Int32)) hx hb dX8_firstAlike_29 (by decide) ?_
          refine lv_iadd hx hb dX8_firstAlike_30 ?_
          refine lv_ishr hx hb dX8_firstAlike_31 ?_
          refine lv_goto (tgt := 36) hx hb dX8_firstAlike_32 (by decide) ?_
          exact J36_1435 (q1440 >>> ((x1_1428 + (1 : Int32)) &&& 31)) _ _ _ hP hD hS (lv_sub hl [0, 1] rfl) hf
  refine L2_1429 _ ?_ FUEL (0 : Int32) _ _ _ hP hD hS (lv_sub hl [1, 0] rfl) hf
  intro x1_1441 x2_1442 H locs ls hP hD hS hl hf
  refine lv_bipush (v := (10 : Int32)) hx hb dX8_firstAlike_41 (by decide) ?_
  refine lv_iload_n hx hb dX8_firstAlike_43 rfl (lv_at hl 0 rfl) ?_
  refine lv_imul hx hb dX8_firstAlike_44 ?_
  refine lv_iload_n hx hb dX8_firstAlike_45 rfl (lv_at hl 0 rfl) ?_
  refine lv_iadd hx hb dX8_firstAlike_46 ?_
  refine lv_iconst (v := (1 : Int32)) hx hb dX8_firstAlike_47 (by decide) ?_
  refine lv_iadd hx hb dX8_firstAlike_48 ?_
  refine lv_iload_n hx hb dX8_firstAlike_49 rfl (lv_at hl 1 rfl) ?_
  obtain ⟨q1443, hq1443, hf⟩ := bnd hf
  refine fc_callS (Wa' := (mW G a v)) (st1 := [.int q1443, .int ((((10 : Int32) * x1_1441) + x1_1441) + (1 : Int32))]) (As := [.int x2_1442]) (rest := [.int ((((10 : Int32) * x1_1441) + x1_1441) + (1 : Int32))]) hCF (k_X8_lowest x2_1442 hq1443) (va_cwS 1 hts gX8_firstAlike_X8_lowest rfl rfl rfl dk_X8_lowest ⟨Nat.le_of_ble_eq_true rfl, Nat.le_of_ble_eq_true rfl⟩) hE hAB hP hD hS [] rfl rfl rfl rfl rfl rfl hl.1 rfl (Nat.le_of_ble_eq_true rfl) dX8_firstAlike_50 ⟨Nat.le_refl _, Nat.le_refl _⟩ (fun H locs hP hD hS => ?_)
  refine lv_iadd hx hb dX8_firstAlike_53 ?_
  exact fc_reti hx hb hr hlocks hP hS dX8_firstAlike_54 (i1 hf) rfl
theorem dk_X8_bits : yX8_bits.cls ≠ "java/lang/invoke/MethodHandle" ∧ yX8_bits.cls ≠ "java/lang/invoke/VarHandle" ∧ (parseMethodDescriptor yX8_bits.desc).map (fun d => d.parameters.length) = some 1 := by decide +kernel
set_option maxHeartbeats 4000000 in
set_option maxRecDepth 100000 in
theorem k_X8_bits {l : Launch} {G : Gx} (x0 : Int32) {r : Int32} (hf : f_X8_bits x0 = some r) : FC l G yX8_bits wsX8_bits ({ frames := 0, cells := 0, slots := 0, locals := 0 } : Room) [.int x0] ([] : va_W) ([] : va_W) (some (.int r)) := by
  refine fc_head (cc := cX8_bits) (maxL := 3) (ret := (some .int)) (C := RX8) (lv := [(0, .int x0)]) (by decide) rfl rfl (Nat.le_of_ble_eq_true rfl) rfl ?_
  intro p e s m below meth c ls A hx hb hr hml hown hts hlocks hE hP hD hAB hS hl
  have hCF : CallFix p m c cX8_bits 3 s ([.int x0] : List Value).toArray wsX8_bits RX8 := ⟨hx, hb, hml, hown, hts⟩
  rw [f_X8_bits] at hf
  refine lv_iconst (v := (0 : Int32)) hx hb dX8_bits_0 (by decide) ?_
  refine lv_istore_n (lv' := [(1, .int (0 : Int32)), (0, .int x0)]) hx hb dX8_bits_1 rfl hl (by decide) rfl (fun ls hl => ?_)
  refine lv_iconst (v := (0 : Int32)) hx hb dX8_bits_2 (by decide) ?_
  refine lv_istore_n (lv' := [(2, .int (0 : Int32)), (1, .int (0 : Int32)), (0, .int x0)]) hx hb dX8_bits_3 rfl hl (by decide) rfl (fun ls hl => ?_)
  have L4_1446 : ∀ (n : Nat) (x1_1444 : Int32) (x2_1445 : Int32) (H : Heap) (locs : List Loc) (ls : Array Slot), va_P (gD G) vwCl ([] : va_W) H → va_D A ([] : va_W) → va_S A s.heap H locs → lv_has ls 3 [(0, .int x0), (1, .int x1_1444), (2, .int x2_1445)] → f_X8_bits_4 x0 n x1_1444 x2_1445 = some r → W p l e (headSpec wsX8_bits ({ frames := 0, cells := 0, slots := 0, locals := 0 } : Room)).room s m ([.int x0] : List Value).toArray below meth c H locs 0 0 (MQ below (FQ G A ([] : va_W) (some (.int r))) ([.int x0] : List Value).toArray s 0 0 A) (F0 m 4 ls []) := by
    intro n
    induction n with
    | zero =>
      intro x1_1444 x2_1445 H locs ls hP hD hS hl hf
      exact no_some hf
    | succ n ih =>
      intro x1_1444 x2_1445 H locs ls hP hD hS hl hf
      rw [f_X8_bits_4] at hf
      refine lv_iload_n hx hb dX8_bits_4 rfl (lv_at hl 2 rfl) ?_
      refine lv_bipush (v := (31 : Int32)) hx hb dX8_bits_5 (by decide) ?_
      refine lv_icmp_ge (tgt := 24) hx hb dX8_bits_7 (by decide) (fun c1447 => ?_) (fun c1447 => ?_)
      · have hf := ifT hf c1447
        refine lv_iload_n hx hb dX8_bits_24 rfl (lv_at hl 1 rfl) ?_
        exact fc_reti hx hb hr hlocks hP hS dX8_bits_25 (i1 hf) rfl
      · have hf := ifF hf c1447
        refine lv_iload_n hx hb dX8_bits_10 rfl (lv_at hl 1 rfl) ?_
        refine lv_iload_n hx hb dX8_bits_11 rfl (lv_at hl 0 rfl) ?_
        refine lv_iload_n hx hb dX8_bits_12 rfl (lv_at hl 2 rfl) ?_
        refine lv_ishr hx hb dX8_bits_13 ?_
        refine lv_iconst (v := (1 : Int32)) hx hb dX8_bits_14 (by decide) ?_
        refine lv_iand hx hb dX8_bits_15 ?_
        refine lv_iadd hx hb dX8_bits_16 ?_
        refine lv_istore_n (lv' := [(1, .int (x1_1444 + ((x0 >>> (x2_1445 &&& 31)) &&& (1 : Int32)))), (0, .int x0), (2, .int x2_1445)]) hx hb dX8_bits_17 rfl hl (by decide) rfl (fun ls hl => ?_)
        refine lv_iinc (v := (x2_1445 + (1 : Int32))) (lv' := [(2, .int (x2_1445 + (1 : Int32))), (1, .int (x1_1444 + ((x0 >>> (x2_1445 &&& 31)) &&& (1 : Int32)))), (0, .int x0)]) hx hb dX8_bits_18 hl (k := 2) rfl rfl (by decide) rfl (fun ls hl => ?_)
        refine lv_goto (tgt := 4) hx hb dX8_bits_21 (by decide) ?_
        exact ih (x1_1444 + ((x0 >>> (x2_1445 &&& 31)) &&& (1 : Int32))) (x2_1445 + (1 : Int32)) _ _ _ hP hD hS (lv_sub hl [2, 1, 0] rfl) hf
  exact L4_1446 FUEL (0 : Int32) (0 : Int32) _ _ _ hP hD hS (lv_sub hl [2, 1, 0] rfl) hf
theorem dk_X8_alike : yX8_alike.cls ≠ "java/lang/invoke/MethodHandle" ∧ yX8_alike.cls ≠ "java/lang/invoke/VarHandle" ∧ (parseMethodDescriptor yX8_alike.desc).map (fun d => d.parameters.length) = some 1 := by decide +kernel
set_option maxHeartbeats 4000000 in
set_option maxRecDepth 100000 in
theorem k_X8_alike {l : Launch} {G : Gx} (a : Nat → Nat) (v : St) (x1 : Int32) {r : Int32} {v' : St} (hf : f_X8_alike v x1 = some (r, v')) : FC l G yX8_alike wsX8_alike ({ frames := 5, cells := 0, slots := 0, locals := 111 } : Room) [.ref (a 0), .int x1] (mW G a v) (mW G a v') (some (.int r)) := by
  refine fc_head (cc := cX8_alike) (maxL := 7) (ret := (some .int)) (C := RX8) (lv := [(0, .ref (a 0)), (1, .int x1)]) (by decide) rfl rfl (Nat.le_of_ble_eq_true rfl) rfl ?_
  intro p e s m below meth c ls A hx hb hr hml hown hts hlocks hE hP hD hAB hS hl
  have hCF : CallFix p m c cX8_alike 7 s ([.ref (a 0), .int x1] : List Value).toArray wsX8_alike RX8 := ⟨hx, hb, hml, hown, hts⟩
  rw [f_X8_alike] at hf
  refine lv_iload_n hx hb dX8_alike_0 rfl (lv_at hl 1 rfl) ?_
  refine lv_iconst (v := (0 : Int32)) hx hb dX8_alike_1 (by decide) ?_
  refine lv_iconst (v := (3 : Int32)) hx hb dX8_alike_2 (by decide) ?_
  obtain ⟨q1456, hq1456, hf⟩ := bnd hf
  refine fc_callS (Wa' := (mW G a v)) (st1 := [.int q1456]) (As := [.int x1, .int (0 : Int32), .int (3 : Int32)]) (rest := []) hCF (k_X8_isIn x1 (0 : Int32) (3 : Int32) hq1456) (va_cwS 3 hts gX8_alike_X8_isIn rfl rfl rfl dk_X8_isIn ⟨Nat.le_of_ble_eq_true rfl, Nat.le_of_ble_eq_true rfl⟩) hE hAB hP hD hS [] rfl rfl rfl rfl rfl rfl hl.1 rfl (Nat.le_of_ble_eq_true rfl) dX8_alike_3 ⟨Nat.le_refl _, Nat.le_refl _⟩ (fun H locs hP hD hS => ?_)
  refine lv_if_ne (tgt := 16) hx hb dX8_alike_6 (by decide) (fun c1457 => ?_) (fun c1457 => ?_)
  · have hf := ifF hf c1457
    refine lv_iload_n hx hb dX8_alike_16 rfl (lv_at hl 1 rfl) ?_
    refine lv_iconst (v := (1 : Int32)) hx hb dX8_alike_17 (by decide) ?_
    refine lv_icmp_ne (tgt := 26) hx hb dX8_alike_18 (by decide) (fun c1458 => ?_) (fun c1458 => ?_)
    · have hf := ifF hf c1458
      refine lv_iconst (v := (0 : Int32)) hx hb dX8_alike_26 (by decide) ?_
      refine lv_istore_n (lv' := [(2, .int (0 : Int32)), (0, .ref (a 0)), (1, .int x1)]) hx hb dX8_alike_27 rfl hl (by decide) rfl (fun ls hl => ?_)
      refine lv_iconst (v := (0 : Int32)) hx hb dX8_alike_28 (by decide) ?_
      refine lv_istore_n (lv' := [(3, .int (0 : Int32)), (2, .int (0 : Int32)), (0, .ref (a 0)), (1, .int x1)]) hx hb dX8_alike_29 rfl hl (by decide) rfl (fun ls hl => ?_)
      refine lv_bipush (v := (-9 : Int32)) hx hb dX8_alike_30 (by decide) ?_
      refine lv_istore (lv' := [(4, .int (-9 : Int32)), (3, .int (0 : Int32)), (2, .int (0 : Int32)), (0, .ref (a 0)), (1, .int x1)]) hx hb dX8_alike_32 hl (by decide) rfl (fun ls hl => ?_)
      refine lv_iconst (v := (0 : Int32)) hx hb dX8_alike_34 (by decide) ?_
      refine lv_istore (lv' := [(5, .int (0 : Int32)), (4, .int (-9 : Int32)), (3, .int (0 : Int32)), (2, .int (0 : Int32)), (0, .ref (a 0)), (1, .int x1)]) hx hb dX8_alike_35 hl (by decide) rfl (fun ls hl => ?_)
      have L37_1463 : ∀ (K37_89 : Int32 → Int32 → Int32 → Option (Int32 × St)) (hK37_89 : ∀ (x2_1464 : Int32) (x3_1465 : Int32) (x4_1466 : Int32) (H : Heap) (locs : List Loc) (ls : Array Slot), va_P (gD G) vwCl (mW G a v) H → va_D A (mW G a v) → va_S A s.heap H locs → lv_has ls 7 [(1, .int x1), (2, .int x2_1464), (3, .int x3_1465), (4, .int x4_1466)] → K37_89 x2_1464 x3_1465 x4_1466 = some (r, v') → W p l e (headSpec wsX8_alike ({ frames := 5, cells := 0, slots := 0, locals := 111 } : Room)).room s m ([.ref (a 0), .int x1] : List Value).toArray below meth c H locs 0 0 (MQ below (FQ G A (mW G a v') (some (.int r))) ([.ref (a 0), .int x1] : List Value).toArray s 0 0 A) (F0 m 89 ls [])) (n : Nat) (x2_1459 : Int32) (x3_1460 : Int32) (x4_1461 : Int32) (x5_1462 : Int32) (H : Heap) (locs : List Loc) (ls : Array Slot), va_P (gD G) vwCl (mW G a v) H → va_D A (mW G a v) → va_S A s.heap H locs → lv_has ls 7 [(0, .ref (a 0)), (1, .int x1), (2, .int x2_1459), (3, .int x3_1460), (4, .int x4_1461), (5, .int x5_1462)] → f_X8_alike_37 v n x2_1459 x3_1460 x4_1461 x5_1462 K37_89 = some (r, v') → W p l e (headSpec wsX8_alike ({ frames := 5, cells := 0, slots := 0, locals := 111 } : Room)).room s m ([.ref (a 0), .int x1] : List Value).toArray below meth c H locs 0 0 (MQ below (FQ G A (mW G a v') (some (.int r))) ([.ref (a 0), .int x1] : List Value).toArray s 0 0 A) (F0 m 37 ls []) := by
        intro K37_89 hK37_89 n
        induction n with
        | zero =>
          intro x2_1459 x3_1460 x4_1461 x5_1462 H locs ls hP hD hS hl hf
          exact no_some hf
        | succ n ih =>
          intro x2_1459 x3_1460 x4_1461 x5_1462 H locs ls hP hD hS hl hf
          rw [f_X8_alike_37] at hf
          refine lv_iload hx hb dX8_alike_37 (lv_at hl 5 rfl) ?_
          refine lv_bipush (v := (63 : Int32)) hx hb dX8_alike_39 (by decide) ?_
          refine lv_icmp_gt (tgt := 89) hx hb dX8_alike_41 (by decide) (fun c1467 => ?_) (fun c1467 => ?_)
          · have hf := ifT hf c1467
            exact hK37_89 x2_1459 x3_1460 x4_1461 _ _ _ hP hD hS (lv_sub hl [1, 2, 3, 4] rfl) hf
          · have hf := ifF hf c1467
            refine lv_aload_n hx hb dX8_alike_44 rfl (lv_at hl 0 rfl) ?_
            refine lv_iload hx hb dX8_alike_45 (lv_at hl 5 rfl) ?_
            obtain ⟨q1468, hq1468, hf⟩ := bnd hf
            refine fc_callV (Wa' := (mW G a v)) (st1 := [.int q1468]) (As := [.int x5_1462]) (rest := []) hCF (k_X8_showing a v x5_1462 hq1468) (cwV 1 hts gX8_alike_X8_showing rfl rfl rfl ⟨rfl, dk_X8_showing⟩ ⟨Nat.le_of_ble_eq_true rfl, Nat.le_of_ble_eq_true rfl⟩) hE hAB hP hD hS [0, 1, 2, 3, 4, 5, 6, 7, 8, 9, 10, 11, 12, 13, 14, 15, 16, 17, 18, 19, 20, 21, 22, 23, 24] mW_d (mW_c G a v) (va_recv hE.1 hP (ci := 5) (q0 := 0) rfl (mW_o G a v)) (mW_f G a v v) (mW_s G a v v) rfl rfl hl.1 rfl (Nat.le_of_ble_eq_true rfl) dX8_alike_47 ⟨Nat.le_refl _, Nat.le_refl _⟩ (fun H locs hP hD hS => ?_)
            obtain ⟨q1469, hq1469, hf⟩ := bnd hf
            refine fc_callS (Wa' := (mW G a v)) (st1 := [.int q1469]) (As := [.int q1468]) (rest := []) hCF (k_X8_bits q1468 hq1469) (va_cwS 1 hts gX8_alike_X8_bits rfl rfl rfl dk_X8_bits ⟨Nat.le_of_ble_eq_true rfl, Nat.le_of_ble_eq_true rfl⟩) hE hAB hP hD hS [] rfl rfl rfl rfl rfl rfl hl.1 rfl (Nat.le_of_ble_eq_true rfl) dX8_alike_50 ⟨Nat.le_refl _, Nat.le_refl _⟩ (fun H locs hP hD hS => ?_)
            refine lv_istore (lv' := [(6, .int q1469), (0, .ref (a 0)), (1, .int x1), (2, .int x2_1459), (3, .int x3_1460), (4, .int x4_1461), (5, .int x5_1462)]) hx hb dX8_alike_53 hl (by decide) rfl (fun ls hl => ?_)
            refine lv_iload_n hx hb dX8_alike_55 rfl (lv_at hl 3 rfl) ?_
            refine lv_iload hx hb dX8_alike_56 (lv_at hl 0 rfl) ?_
            refine lv_iload hx hb dX8_alike_58 (lv_at hl 0 rfl) ?_
            refine lv_iconst (v := (1 : Int32)) hx hb dX8_alike_60 (by decide) ?_
            refine lv_isub hx hb dX8_alike_61 ?_
            refine lv_imul hx hb dX8_alike_62 ?_
            refine lv_iconst (v := (2 : Int32)) hx hb dX8_alike_63 (by decide) ?_
            refine lv_idiv hx hb dX8_alike_64 (by decide) ?_
            refine lv_iadd hx hb dX8_alike_65 ?_
            refine lv_istore_n (lv' := [(2, .int (x2_1459 + ((q1469 * (q1469 - (1 : Int32))) / (2 : Int32)))), (6, .int q1469), (0, .ref (a 0)), (1, .int x1), (3, .int x3_1460), (4, .int x4_1461), (5, .int x5_1462)]) hx hb dX8_alike_66 rfl hl (by decide) rfl (fun ls hl => ?_)
            refine lv_iload hx hb dX8_alike_67 (lv_at hl 1 rfl) ?_
            refine lv_iload_n hx hb dX8_alike_69 rfl (lv_at hl 4 rfl) ?_
            refine lv_icmp_gt (tgt := 76) hx hb dX8_alike_70 (by decide) (fun c1470 => ?_) (fun c1470 => ?_)
            · have hf := ifT hf c1470
              refine lv_iload hx hb dX8_alike_76 (lv_at hl 1 rfl) ?_
              refine lv_istore_n (lv' := [(3, .int q1469), (2, .int (x2_1459 + ((q1469 * (q1469 - (1 : Int32))) / (2 : Int32)))), (6, .int q1469), (0, .ref (a 0)), (1, .int x1), (4, .int x4_1461), (5, .int x5_1462)]) hx hb dX8_alike_78 rfl hl (by decide) rfl (fun ls hl => ?_)
              refine lv_iload hx hb dX8_alike_79 (lv_at hl 6 rfl) ?_
              refine lv_istore (lv' := [(4, .int x5_1462), (3, .int q1469), (2, .int (x2_1459 + ((q1469 * (q1469 - (1 : Int32))) / (2 : Int32)))), (6, .int q1469), (0, .ref (a 0)), (1, .int x1), (5, .int x5_1462)]) hx hb dX8_alike_81 hl (by decide) rfl (fun ls hl => ?_)
              refine lv_iinc (v := (x5_1462 + (1 : Int32))) (lv' := [(5, .int (x5_1462 + (1 : Int32))), (4, .int x5_1462), (3, .int q1469), (2, .int (x2_1459 + ((q1469 * (q1469 - (1 : Int32))) / (2 : Int32)))), (6, .int q1469), (0, .ref (a 0)), (1, .int x1)]) hx hb dX8_alike_83 hl (k := 6) rfl rfl (by decide) rfl (fun ls hl => ?_)
              refine lv_goto (tgt := 37) hx hb dX8_alike_86 (by decide) ?_
              exact ih (x2_1459 + ((q1469 * (q1469 - (1 : Int32))) / (2 : Int32))) q1469 x5_1462 (x5_1462 + (1 : Int32)) _ _ _ hP hD hS (lv_sub hl [5, 6, 3, 2, 1, 0] rfl) hf
            · have hf := ifF hf c1470
              refine lv_goto (tgt := 83) hx hb dX8_alike_73 (by decide) ?_
              refine lv_iinc (v := (x5_1462 + (1 : Int32))) (lv' := [(5, .int (x5_1462 + (1 : Int32))), (2, .int (x2_1459 + ((q1469 * (q1469 - (1 : Int32))) / (2 : Int32)))), (6, .int q1469), (0, .ref (a 0)), (1, .int x1), (3, .int x3_1460), (4, .int x4_1461)]) hx hb dX8_alike_83 hl (k := 6) rfl rfl (by decide) rfl (fun ls hl => ?_)
              refine lv_goto (tgt := 37) hx hb dX8_alike_86 (by decide) ?_
              exact ih (x2_1459 + ((q1469 * (q1469 - (1 : Int32))) / (2 : Int32))) x3_1460 x4_1461 (x5_1462 + (1 : Int32)) _ _ _ hP hD hS (lv_sub hl [3, 4, 1, 5, 6, 0] rfl) hf
      refine L37_1463 _ ?_ FUEL (0 : Int32) (0 : Int32) (-9 : Int32) (0 : Int32) _ _ _ hP hD hS (lv_sub hl [4, 5, 3, 2, 1, 0] rfl) hf
      intro x2_1471 x3_1472 x4_1473 H locs ls hP hD hS hl hf
      refine lv_iload_n hx hb dX8_alike_89 rfl (lv_at hl 0 rfl) ?_
      refine lv_if_ne (tgt := 97) hx hb dX8_alike_90 (by decide) (fun c1474 => ?_) (fun c1474 => ?_)
      · have hf := ifF hf c1474
        refine lv_iload_n hx hb dX8_alike_97 rfl (lv_at hl 0 rfl) ?_
        refine lv_iconst (v := (2 : Int32)) hx hb dX8_alike_98 (by decide) ?_
        refine lv_icmp_ne (tgt := 106) hx hb dX8_alike_99 (by decide) (fun c1475 => ?_) (fun c1475 => ?_)
        · have hf := ifF hf c1475
          refine lv_iload hx hb dX8_alike_106 (lv_at hl 3 rfl) ?_
          exact fc_reti hx hb hr hlocks hP hS dX8_alike_108 (i2a hf) (congrArg (fun z => (mW G a z)) (i2b hf))
        · have hf := ifT hf c1475
          refine lv_iload_n hx hb dX8_alike_102 rfl (lv_at hl 2 rfl) ?_
          refine lv_goto (tgt := 108) hx hb dX8_alike_103 (by decide) ?_
          exact fc_reti hx hb hr hlocks hP hS dX8_alike_108 (i2a hf) (congrArg (fun z => (mW G a z)) (i2b hf))
      · have hf := ifT hf c1474
        refine lv_iload_n hx hb dX8_alike_93 rfl (lv_at hl 1 rfl) ?_
        refine lv_goto (tgt := 108) hx hb dX8_alike_94 (by decide) ?_
        exact fc_reti hx hb hr hlocks hP hS dX8_alike_108 (i2a hf) (congrArg (fun z => (mW G a z)) (i2b hf))
    · have hf := ifT hf c1458
      refine lv_aload_n hx hb dX8_alike_21 rfl (lv_at hl 0 rfl) ?_
      obtain ⟨q1476, hq1476, hf⟩ := bnd hf
      refine fc_callV (Wa' := (mW G a v)) (st1 := [.int q1476]) (As := []) (rest := []) hCF (k_X8_firstAlike a v hq1476) (cwV 0 hts gX8_alike_X8_firstAlike rfl rfl rfl ⟨rfl, dk_X8_firstAlike⟩ ⟨Nat.le_of_ble_eq_true rfl, Nat.le_of_ble_eq_true rfl⟩) hE hAB hP hD hS [0, 1, 2, 3, 4, 5, 6, 7, 8, 9, 10, 11, 12, 13, 14, 15, 16, 17, 18, 19, 20, 21, 22, 23, 24] mW_d (mW_c G a v) (va_recv hE.1 hP (ci := 5) (q0 := 0) rfl (mW_o G a v)) (mW_f G a v v) (mW_s G a v v) rfl rfl hl.1 rfl (Nat.le_of_ble_eq_true rfl) dX8_alike_22 ⟨Nat.le_refl _, Nat.le_refl _⟩ (fun H locs hP hD hS => ?_)
      exact fc_reti hx hb hr hlocks hP hS dX8_alike_25 (i2a hf) (congrArg (fun z => (mW G a z)) (i2b hf))
  · have hf := ifT hf c1457
    refine lv_aload_n hx hb dX8_alike_9 rfl (lv_at hl 0 rfl) ?_
    refine lv_bipush (v := (-2 : Int32)) hx hb dX8_alike_10 (by decide) ?_
    obtain ⟨q1477, hq1477, hf⟩ := bnd hf
    refine fc_callV (Wa' := (mW G a q1477.2)) (st1 := [.int q1477.1]) (As := [.int (-2 : Int32)]) (rest := []) hCF (k_X8_no a v (-2 : Int32) hq1477) (cwV 1 hts gX8_alike_X8_no rfl rfl rfl ⟨rfl, dk_X8_no⟩ ⟨Nat.le_of_ble_eq_true rfl, Nat.le_of_ble_eq_true rfl⟩) hE hAB hP hD hS [0, 1, 2, 3, 4, 5, 6, 7, 8, 9, 10, 11, 12, 13, 14, 15, 16, 17, 18, 19, 20, 21, 22, 23, 24] mW_d (mW_c G a v) (va_recv hE.1 hP (ci := 5) (q0 := 0) rfl (mW_o G a v)) (mW_f G a v q1477.2) (mW_s G a v q1477.2) rfl rfl hl.1 rfl (Nat.le_of_ble_eq_true rfl) dX8_alike_12 ⟨Nat.le_refl _, Nat.le_refl _⟩ (fun H locs hP hD hS => ?_)
    exact fc_reti hx hb hr hlocks hP hS dX8_alike_15 (i2a hf) (congrArg (fun z => (mW G a z)) (i2b hf))
theorem dk_X8_areToldApart : yX8_areToldApart.cls ≠ "java/lang/invoke/MethodHandle" ∧ yX8_areToldApart.cls ≠ "java/lang/invoke/VarHandle" ∧ (parseMethodDescriptor yX8_areToldApart.desc).map (fun d => d.parameters.length) = some 1 := by decide +kernel
theorem iu_X8_areToldApart_X8 : ∀ w ∈ u_ws RX8 TX8 29, w ∈ wsX8_areToldApart := by decide +kernel
set_option maxHeartbeats 4000000 in
set_option maxRecDepth 100000 in
theorem k_X8_areToldApart {l : Launch} {G : Gx} (a : Nat → Nat) (v : St) (x1 : Int32) {r : Int32} (hf : f_X8_areToldApart v x1 = some r) : FC l G yX8_areToldApart wsX8_areToldApart ({ frames := 3, cells := 0, slots := 0, locals := 68 } : Room) [.ref (a 0), .int x1] (mW G a v) (mW G a v) (some (.int r)) := by
  refine fc_head (cc := cX8_areToldApart) (maxL := 3) (ret := (some .boolean)) (C := RX8) (lv := [(0, .ref (a 0)), (1, .int x1)]) (by decide) rfl rfl (Nat.le_of_ble_eq_true rfl) rfl ?_
  intro p e s m below meth c ls A hx hb hr hml hown hts hlocks hE hP hD hAB hS hl
  have hCF : CallFix p m c cX8_areToldApart 3 s ([.ref (a 0), .int x1] : List Value).toArray wsX8_areToldApart RX8 := ⟨hx, hb, hml, hown, hts⟩
  have hwX8 : ∀ w ∈ u_ws RX8 TX8 29, w.before ([.ref (a 0), .int x1] : List Value).toArray s = true := fun w h => hts w (iu_X8_areToldApart_X8 w h)
  have hk_fieldLink_RX8_66__BrideNotKnownModel___brides___I_ := hts (.fieldLink RX8 66 "BrideNotKnownModel" "brides" "I") (List.mem_of_getElem? (i := 1) rfl)
  have hk_fieldLink_RX8_22__BrideNotKnownModel___state____I_ := hts (.fieldLink RX8 22 "BrideNotKnownModel" "state" "[I") (List.mem_of_getElem? (i := 2) rfl)
  rw [f_X8_areToldApart] at hf
  refine lv_iconst (v := (0 : Int32)) hx hb dX8_areToldApart_0 (by decide) ?_
  refine lv_istore_n (lv' := [(2, .int (0 : Int32)), (0, .ref (a 0)), (1, .int x1)]) hx hb dX8_areToldApart_1 rfl hl (by decide) rfl (fun ls hl => ?_)
  have L2_1482 : ∀ (n : Nat) (x2_1481 : Int32) (H : Heap) (locs : List Loc) (ls : Array Slot), va_P (gD G) vwCl (mW G a v) H → va_D A (mW G a v) → va_S A s.heap H locs → lv_has ls 3 [(0, .ref (a 0)), (1, .int x1), (2, .int x2_1481)] → f_X8_areToldApart_2 v x1 n x2_1481 = some r → W p l e (headSpec wsX8_areToldApart ({ frames := 3, cells := 0, slots := 0, locals := 68 } : Room)).room s m ([.ref (a 0), .int x1] : List Value).toArray below meth c H locs 0 0 (MQ below (FQ G A (mW G a v) (some (.int r))) ([.ref (a 0), .int x1] : List Value).toArray s 0 0 A) (F0 m 2 ls []) := by
    intro n
    induction n with
    | zero =>
      intro x2_1481 H locs ls hP hD hS hl hf
      exact no_some hf
    | succ n ih =>
      intro x2_1481 H locs ls hP hD hS hl hf
      rw [f_X8_areToldApart_2] at hf
      refine lv_iload_n hx hb dX8_areToldApart_2 rfl (lv_at hl 2 rfl) ?_
      refine lv_aload_n hx hb dX8_areToldApart_3 rfl (lv_at hl 0 rfl) ?_
      refine fc_get (v := .int (v 23 0)) (ci := 5) (C := RX8) (T := TX8) (N := 29) hx hb hwX8 hown hE hP 0 (mW_o G a v) rfl 10 (by decide) hk_fieldLink_RX8_66__BrideNotKnownModel___brides___I_ (fun _ h => h) rfl dX8_areToldApart_4 ?_
      refine lv_icmp_ge (tgt := 44) hx hb dX8_areToldApart_7 (by decide) (fun c1483 => ?_) (fun c1483 => ?_)
      · have hf := ifT hf c1483
        refine lv_iconst (v := (1 : Int32)) hx hb dX8_areToldApart_44 (by decide) ?_
        exact fc_retz hx hb hr hlocks hP hS dX8_areToldApart_45 (by decide) (i1 hf) rfl
      · have hf := ifF hf c1483
        refine lv_aload_n hx hb dX8_areToldApart_10 rfl (lv_at hl 0 rfl) ?_
        refine fc_get (v := .ref (a 5)) (ci := 5) (C := RX8) (T := TX8) (N := 29) hx hb hwX8 hown hE hP 0 (mW_o G a v) rfl 4 (by decide) hk_fieldLink_RX8_22__BrideNotKnownModel___state____I_ (fun _ h => h) rfl dX8_areToldApart_11 ?_
        refine lv_iload_n hx hb dX8_areToldApart_14 rfl (lv_at hl 2 rfl) ?_
        obtain ⟨c1484, hf⟩ := gd_some hf
        refine fc_iald (n := 8) (f := (v 4)) hx hb hE hP 5 (mW_a5 G a v) (inB_in c1484) dX8_areToldApart_15 ?_
        refine lv_if_ne (tgt := 38) hx hb dX8_areToldApart_16 (by decide) (fun c1485 => ?_) (fun c1485 => ?_)
        · have hf := ifF hf c1485
          refine lv_iinc (v := (x2_1481 + (1 : Int32))) (lv' := [(2, .int (x2_1481 + (1 : Int32))), (0, .ref (a 0)), (1, .int x1)]) hx hb dX8_areToldApart_38 hl (k := 2) rfl rfl (by decide) rfl (fun ls hl => ?_)
          refine lv_goto (tgt := 2) hx hb dX8_areToldApart_41 (by decide) ?_
          exact ih (x2_1481 + (1 : Int32)) _ _ _ hP hD hS (lv_sub hl [1, 2, 0] rfl) hf
        · have hf := ifT hf c1485
          refine lv_aload_n hx hb dX8_areToldApart_19 rfl (lv_at hl 0 rfl) ?_
          refine lv_iload_n hx hb dX8_areToldApart_20 rfl (lv_at hl 1 rfl) ?_
          refine lv_aload_n hx hb dX8_areToldApart_21 rfl (lv_at hl 0 rfl) ?_
          refine lv_iload_n hx hb dX8_areToldApart_22 rfl (lv_at hl 2 rfl) ?_
          obtain ⟨q1486, hq1486, hf⟩ := bnd hf
          refine fc_callV (Wa' := (mW G a v)) (st1 := [.int q1486, .int x1, .ref (a 0)]) (As := [.int x2_1481]) (rest := [.int x1, .ref (a 0)]) hCF (k_X8_showsOf a v x2_1481 hq1486) (cwV 1 hts gX8_areToldApart_X8_showsOf rfl rfl rfl ⟨rfl, dk_X8_showsOf⟩ ⟨Nat.le_of_ble_eq_true rfl, Nat.le_of_ble_eq_true rfl⟩) hE hAB hP hD hS [0, 1, 2, 3, 4, 5, 6, 7, 8, 9, 10, 11, 12, 13, 14, 15, 16, 17, 18, 19, 20, 21, 22, 23, 24] mW_d (mW_c G a v) (va_recv hE.1 hP (ci := 5) (q0 := 0) rfl (mW_o G a v)) (mW_f G a v v) (mW_s G a v v) rfl rfl hl.1 rfl (Nat.le_of_ble_eq_true rfl) dX8_areToldApart_23 ⟨Nat.le_refl _, Nat.le_refl _⟩ (fun H locs hP hD hS => ?_)
          obtain ⟨q1487, hq1487, hf⟩ := bnd hf
          refine fc_callV (Wa' := (mW G a v)) (st1 := [.int q1487]) (As := [.int x1, .int q1486]) (rest := []) hCF (k_X8_guessesBy a v x1 q1486 hq1487) (cwV 2 hts gX8_areToldApart_X8_guessesBy rfl rfl rfl ⟨rfl, dk_X8_guessesBy⟩ ⟨Nat.le_of_ble_eq_true rfl, Nat.le_of_ble_eq_true rfl⟩) hE hAB hP hD hS [0, 1, 2, 3, 4, 5, 6, 7, 8, 9, 10, 11, 12, 13, 14, 15, 16, 17, 18, 19, 20, 21, 22, 23, 24] mW_d (mW_c G a v) (va_recv hE.1 hP (ci := 5) (q0 := 0) rfl (mW_o G a v)) (mW_f G a v v) (mW_s G a v v) rfl rfl hl.1 rfl (Nat.le_of_ble_eq_true rfl) dX8_areToldApart_26 ⟨Nat.le_refl _, Nat.le_refl _⟩ (fun H locs hP hD hS => ?_)
          obtain ⟨q1488, hq1488, hf⟩ := bnd hf
          refine fc_callS (Wa' := (mW G a v)) (st1 := [.int q1488]) (As := [.int q1487]) (rest := []) hCF (k_X8_bits q1487 hq1488) (va_cwS 1 hts gX8_areToldApart_X8_bits rfl rfl rfl dk_X8_bits ⟨Nat.le_of_ble_eq_true rfl, Nat.le_of_ble_eq_true rfl⟩) hE hAB hP hD hS [] rfl rfl rfl rfl rfl rfl hl.1 rfl (Nat.le_of_ble_eq_true rfl) dX8_areToldApart_29 ⟨Nat.le_refl _, Nat.le_refl _⟩ (fun H locs hP hD hS => ?_)
          refine lv_iconst (v := (1 : Int32)) hx hb dX8_areToldApart_32 (by decide) ?_
          refine lv_icmp_le (tgt := 38) hx hb dX8_areToldApart_33 (by decide) (fun c1489 => ?_) (fun c1489 => ?_)
          · have hf := ifT hf c1489
            refine lv_iinc (v := (x2_1481 + (1 : Int32))) (lv' := [(2, .int (x2_1481 + (1 : Int32))), (0, .ref (a 0)), (1, .int x1)]) hx hb dX8_areToldApart_38 hl (k := 2) rfl rfl (by decide) rfl (fun ls hl => ?_)
            refine lv_goto (tgt := 2) hx hb dX8_areToldApart_41 (by decide) ?_
            exact ih (x2_1481 + (1 : Int32)) _ _ _ hP hD hS (lv_sub hl [1, 2, 0] rfl) hf
          · have hf := ifF hf c1489
            refine lv_iconst (v := (0 : Int32)) hx hb dX8_areToldApart_36 (by decide) ?_
            exact fc_retz hx hb hr hlocks hP hS dX8_areToldApart_37 (by decide) (i1 hf) rfl
  exact L2_1482 FUEL (0 : Int32) _ _ _ hP hD hS (lv_sub hl [1, 2, 0] rfl) hf
theorem dk_X8_guesses : yX8_guesses.cls ≠ "java/lang/invoke/MethodHandle" ∧ yX8_guesses.cls ≠ "java/lang/invoke/VarHandle" ∧ (parseMethodDescriptor yX8_guesses.desc).map (fun d => d.parameters.length) = some 1 := by decide +kernel
theorem iu_X8_guesses_X8 : ∀ w ∈ u_ws RX8 TX8 29, w ∈ wsX8_guesses := by decide +kernel
set_option maxHeartbeats 4000000 in
set_option maxRecDepth 100000 in
theorem k_X8_guesses {l : Launch} {G : Gx} (a : Nat → Nat) (v : St) (x1 : Int32) {r : Int32} (hf : f_X8_guesses v x1 = some r) : FC l G yX8_guesses wsX8_guesses ({ frames := 3, cells := 0, slots := 0, locals := 68 } : Room) [.ref (a 0), .int x1] (mW G a v) (mW G a v) (some (.int r)) := by
  refine fc_head (cc := cX8_guesses) (maxL := 2) (ret := (some .int)) (C := RX8) (lv := [(0, .ref (a 0)), (1, .int x1)]) (by decide) rfl rfl (Nat.le_of_ble_eq_true rfl) rfl ?_
  intro p e s m below meth c ls A hx hb hr hml hown hts hlocks hE hP hD hAB hS hl
  have hCF : CallFix p m c cX8_guesses 2 s ([.ref (a 0), .int x1] : List Value).toArray wsX8_guesses RX8 := ⟨hx, hb, hml, hown, hts⟩
  have hwX8 : ∀ w ∈ u_ws RX8 TX8 29, w.before ([.ref (a 0), .int x1] : List Value).toArray s = true := fun w h => hts w (iu_X8_guesses_X8 w h)
  have hk_fieldLink_RX8_28__BrideNotKnownModel___looks____I_ := hts (.fieldLink RX8 28 "BrideNotKnownModel" "looks" "[I") (List.mem_of_getElem? (i := 1) rfl)
  have hk_fieldLink_RX8_31__BrideNotKnownModel___mind____I_ := hts (.fieldLink RX8 31 "BrideNotKnownModel" "mind" "[I") (List.mem_of_getElem? (i := 2) rfl)
  rw [f_X8_guesses] at hf
  refine lv_aload_n hx hb dX8_guesses_0 rfl (lv_at hl 0 rfl) ?_
  refine lv_aload_n hx hb dX8_guesses_1 rfl (lv_at hl 0 rfl) ?_
  refine fc_get (v := .ref (a 7)) (ci := 5) (C := RX8) (T := TX8) (N := 29) hx hb hwX8 hown hE hP 0 (mW_o G a v) rfl 6 (by decide) hk_fieldLink_RX8_28__BrideNotKnownModel___looks____I_ (fun _ h => h) rfl dX8_guesses_2 ?_
  refine lv_iload_n hx hb dX8_guesses_5 rfl (lv_at hl 1 rfl) ?_
  obtain ⟨c1491, hf⟩ := gd_some hf
  refine fc_iald (n := 5) (f := (v 6)) hx hb hE hP 7 (mW_a7 G a v) (inB_in c1491) dX8_guesses_6 ?_
  refine lv_aload_n hx hb dX8_guesses_7 rfl (lv_at hl 0 rfl) ?_
  refine fc_get (v := .ref (a 8)) (ci := 5) (C := RX8) (T := TX8) (N := 29) hx hb hwX8 hown hE hP 0 (mW_o G a v) rfl 7 (by decide) hk_fieldLink_RX8_31__BrideNotKnownModel___mind____I_ (fun _ h => h) rfl dX8_guesses_8 ?_
  refine lv_iload_n hx hb dX8_guesses_11 rfl (lv_at hl 1 rfl) ?_
  obtain ⟨c1492, hf⟩ := gd_some hf
  refine fc_iald (n := 5) (f := (v 7)) hx hb hE hP 8 (mW_a8 G a v) (inB_in c1492) dX8_guesses_12 ?_
  obtain ⟨q1493, hq1493, hf⟩ := bnd hf
  refine fc_callV (Wa' := (mW G a v)) (st1 := [.int q1493]) (As := [.int ((v 6) x1.toNatClampNeg), .int ((v 7) x1.toNatClampNeg)]) (rest := []) hCF (k_X8_guessesBy a v ((v 6) x1.toNatClampNeg) ((v 7) x1.toNatClampNeg) hq1493) (cwV 2 hts gX8_guesses_X8_guessesBy rfl rfl rfl ⟨rfl, dk_X8_guessesBy⟩ ⟨Nat.le_of_ble_eq_true rfl, Nat.le_of_ble_eq_true rfl⟩) hE hAB hP hD hS [0, 1, 2, 3, 4, 5, 6, 7, 8, 9, 10, 11, 12, 13, 14, 15, 16, 17, 18, 19, 20, 21, 22, 23, 24] mW_d (mW_c G a v) (va_recv hE.1 hP (ci := 5) (q0 := 0) rfl (mW_o G a v)) (mW_f G a v v) (mW_s G a v v) rfl rfl hl.1 rfl (Nat.le_of_ble_eq_true rfl) dX8_guesses_13 ⟨Nat.le_refl _, Nat.le_refl _⟩ (fun H locs hP hD hS => ?_)
  exact fc_reti hx hb hr hlocks hP hS dX8_guesses_16 (i1 hf) rfl
theorem dk_X8_knows : yX8_knows.cls ≠ "java/lang/invoke/MethodHandle" ∧ yX8_knows.cls ≠ "java/lang/invoke/VarHandle" ∧ (parseMethodDescriptor yX8_knows.desc).map (fun d => d.parameters.length) = some 1 := by decide +kernel
set_option maxHeartbeats 4000000 in
set_option maxRecDepth 100000 in
theorem k_X8_knows {l : Launch} {G : Gx} (a : Nat → Nat) (v : St) (x1 : Int32) {r : Int32} (hf : f_X8_knows v x1 = some r) : FC l G yX8_knows wsX8_knows ({ frames := 4, cells := 0, slots := 0, locals := 89 } : Room) [.ref (a 0), .int x1] (mW G a v) (mW G a v) (some (.int r)) := by
  refine fc_head (cc := cX8_knows) (maxL := 3) (ret := (some .int)) (C := RX8) (lv := [(0, .ref (a 0)), (1, .int x1)]) (by decide) rfl rfl (Nat.le_of_ble_eq_true rfl) rfl ?_
  intro p e s m below meth c ls A hx hb hr hml hown hts hlocks hE hP hD hAB hS hl
  have hCF : CallFix p m c cX8_knows 3 s ([.ref (a 0), .int x1] : List Value).toArray wsX8_knows RX8 := ⟨hx, hb, hml, hown, hts⟩
  rw [f_X8_knows] at hf
  refine lv_aload_n hx hb dX8_knows_0 rfl (lv_at hl 0 rfl) ?_
  refine lv_iload_n hx hb dX8_knows_1 rfl (lv_at hl 1 rfl) ?_
  obtain ⟨q1497, hq1497, hf⟩ := bnd hf
  refine fc_callV (Wa' := (mW G a v)) (st1 := [.int q1497]) (As := [.int x1]) (rest := []) hCF (k_X8_guesses a v x1 hq1497) (cwV 1 hts gX8_knows_X8_guesses rfl rfl rfl ⟨rfl, dk_X8_guesses⟩ ⟨Nat.le_of_ble_eq_true rfl, Nat.le_of_ble_eq_true rfl⟩) hE hAB hP hD hS [0, 1, 2, 3, 4, 5, 6, 7, 8, 9, 10, 11, 12, 13, 14, 15, 16, 17, 18, 19, 20, 21, 22, 23, 24] mW_d (mW_c G a v) (va_recv hE.1 hP (ci := 5) (q0 := 0) rfl (mW_o G a v)) (mW_f G a v v) (mW_s G a v v) rfl rfl hl.1 rfl (Nat.le_of_ble_eq_true rfl) dX8_knows_2 ⟨Nat.le_refl _, Nat.le_refl _⟩ (fun H locs hP hD hS => ?_)
  refine lv_istore_n (lv' := [(2, .int q1497), (0, .ref (a 0)), (1, .int x1)]) hx hb dX8_knows_5 rfl hl (by decide) rfl (fun ls hl => ?_)
  refine lv_iload_n hx hb dX8_knows_6 rfl (lv_at hl 0 rfl) ?_
  obtain ⟨q1498, hq1498, hf⟩ := bnd hf
  refine fc_callS (Wa' := (mW G a v)) (st1 := [.int q1498]) (As := [.int q1497]) (rest := []) hCF (k_X8_bits q1497 hq1498) (va_cwS 1 hts gX8_knows_X8_bits rfl rfl rfl dk_X8_bits ⟨Nat.le_of_ble_eq_true rfl, Nat.le_of_ble_eq_true rfl⟩) hE hAB hP hD hS [] rfl rfl rfl rfl rfl rfl hl.1 rfl (Nat.le_of_ble_eq_true rfl) dX8_knows_7 ⟨Nat.le_refl _, Nat.le_refl _⟩ (fun H locs hP hD hS => ?_)
  refine lv_iconst (v := (1 : Int32)) hx hb dX8_knows_10 (by decide) ?_
  refine lv_icmp_ne (tgt := 21) hx hb dX8_knows_11 (by decide) (fun c1499 => ?_) (fun c1499 => ?_)
  · have hf := ifF hf c1499
    refine lv_bipush (v := (-9 : Int32)) hx hb dX8_knows_21 (by decide) ?_
    exact fc_reti hx hb hr hlocks hP hS dX8_knows_23 (i1 hf) rfl
  · have hf := ifT hf c1499
    refine lv_iload_n hx hb dX8_knows_14 rfl (lv_at hl 0 rfl) ?_
    obtain ⟨q1500, hq1500, hf⟩ := bnd hf
    refine fc_callS (Wa' := (mW G a v)) (st1 := [.int q1500]) (As := [.int q1497]) (rest := []) hCF (k_X8_lowest q1497 hq1500) (va_cwS 1 hts gX8_knows_X8_lowest rfl rfl rfl dk_X8_lowest ⟨Nat.le_of_ble_eq_true rfl, Nat.le_of_ble_eq_true rfl⟩) hE hAB hP hD hS [] rfl rfl rfl rfl rfl rfl hl.1 rfl (Nat.le_of_ble_eq_true rfl) dX8_knows_15 ⟨Nat.le_refl _, Nat.le_refl _⟩ (fun H locs hP hD hS => ?_)
    refine lv_goto (tgt := 23) hx hb dX8_knows_18 (by decide) ?_
    exact fc_reti hx hb hr hlocks hP hS dX8_knows_23 (i1 hf) rfl
theorem dk_X8_knownOnes : yX8_knownOnes.cls ≠ "java/lang/invoke/MethodHandle" ∧ yX8_knownOnes.cls ≠ "java/lang/invoke/VarHandle" ∧ (parseMethodDescriptor yX8_knownOnes.desc).map (fun d => d.parameters.length) = some 0 := by decide +kernel
theorem iu_X8_knownOnes_X8 : ∀ w ∈ u_ws RX8 TX8 29, w ∈ wsX8_knownOnes := by decide +kernel
set_option maxHeartbeats 4000000 in
set_option maxRecDepth 100000 in
theorem k_X8_knownOnes {l : Launch} {G : Gx} (a : Nat → Nat) (v : St) {r : Int32} (hf : f_X8_knownOnes v = some r) : FC l G yX8_knownOnes wsX8_knownOnes ({ frames := 5, cells := 0, slots := 0, locals := 111 } : Room) [.ref (a 0)] (mW G a v) (mW G a v) (some (.int r)) := by
  refine fc_head (cc := cX8_knownOnes) (maxL := 4) (ret := (some .int)) (C := RX8) (lv := [(0, .ref (a 0))]) (by decide) rfl rfl (Nat.le_of_ble_eq_true rfl) rfl ?_
  intro p e s m below meth c ls A hx hb hr hml hown hts hlocks hE hP hD hAB hS hl
  have hCF : CallFix p m c cX8_knownOnes 4 s ([.ref (a 0)] : List Value).toArray wsX8_knownOnes RX8 := ⟨hx, hb, hml, hown, hts⟩
  have hwX8 : ∀ w ∈ u_ws RX8 TX8 29, w.before ([.ref (a 0)] : List Value).toArray s = true := fun w h => hts w (iu_X8_knownOnes_X8 w h)
  have hk_fieldLink_RX8_76__BrideNotKnownModel___grooms___I_ := hts (.fieldLink RX8 76 "BrideNotKnownModel" "grooms" "I") (List.mem_of_getElem? (i := 1) rfl)
  have hk_fieldLink_RX8_37__BrideNotKnownModel___married____I_ := hts (.fieldLink RX8 37 "BrideNotKnownModel" "married" "[I") (List.mem_of_getElem? (i := 2) rfl)
  rw [f_X8_knownOnes] at hf
  refine lv_iconst (v := (0 : Int32)) hx hb dX8_knownOnes_0 (by decide) ?_
  refine lv_istore_n (lv' := [(1, .int (0 : Int32)), (0, .ref (a 0))]) hx hb dX8_knownOnes_1 rfl hl (by decide) rfl (fun ls hl => ?_)
  refine lv_iconst (v := (0 : Int32)) hx hb dX8_knownOnes_2 (by decide) ?_
  refine lv_istore_n (lv' := [(2, .int (0 : Int32)), (1, .int (0 : Int32)), (0, .ref (a 0))]) hx hb dX8_knownOnes_3 rfl hl (by decide) rfl (fun ls hl => ?_)
  have L4_1508 : ∀ (n : Nat) (x1_1506 : Int32) (x2_1507 : Int32) (H : Heap) (locs : List Loc) (ls : Array Slot), va_P (gD G) vwCl (mW G a v) H → va_D A (mW G a v) → va_S A s.heap H locs → lv_has ls 4 [(0, .ref (a 0)), (1, .int x1_1506), (2, .int x2_1507)] → f_X8_knownOnes_4 v n x1_1506 x2_1507 = some r → W p l e (headSpec wsX8_knownOnes ({ frames := 5, cells := 0, slots := 0, locals := 111 } : Room)).room s m ([.ref (a 0)] : List Value).toArray below meth c H locs 0 0 (MQ below (FQ G A (mW G a v) (some (.int r))) ([.ref (a 0)] : List Value).toArray s 0 0 A) (F0 m 4 ls []) := by
    intro n
    induction n with
    | zero =>
      intro x1_1506 x2_1507 H locs ls hP hD hS hl hf
      exact no_some hf
    | succ n ih =>
      intro x1_1506 x2_1507 H locs ls hP hD hS hl hf
      rw [f_X8_knownOnes_4] at hf
      refine lv_iload_n hx hb dX8_knownOnes_4 rfl (lv_at hl 2 rfl) ?_
      refine lv_aload_n hx hb dX8_knownOnes_5 rfl (lv_at hl 0 rfl) ?_
      refine fc_get (v := .int (v 23 1)) (ci := 5) (C := RX8) (T := TX8) (N := 29) hx hb hwX8 hown hE hP 0 (mW_o G a v) rfl 11 (by decide) hk_fieldLink_RX8_76__BrideNotKnownModel___grooms___I_ (fun _ h => h) rfl dX8_knownOnes_6 ?_
      refine lv_icmp_ge (tgt := 52) hx hb dX8_knownOnes_9 (by decide) (fun c1509 => ?_) (fun c1509 => ?_)
      · have hf := ifT hf c1509
        refine lv_iload_n hx hb dX8_knownOnes_52 rfl (lv_at hl 1 rfl) ?_
        exact fc_reti hx hb hr hlocks hP hS dX8_knownOnes_53 (i1 hf) rfl
      · have hf := ifF hf c1509
        refine lv_aload_n hx hb dX8_knownOnes_12 rfl (lv_at hl 0 rfl) ?_
        refine fc_get (v := .ref (a 10)) (ci := 5) (C := RX8) (T := TX8) (N := 29) hx hb hwX8 hown hE hP 0 (mW_o G a v) rfl 9 (by decide) hk_fieldLink_RX8_37__BrideNotKnownModel___married____I_ (fun _ h => h) rfl dX8_knownOnes_13 ?_
        refine lv_iload_n hx hb dX8_knownOnes_16 rfl (lv_at hl 2 rfl) ?_
        obtain ⟨c1510, hf⟩ := gd_some hf
        refine fc_iald (n := 5) (f := (v 9)) hx hb hE hP 10 (mW_a10 G a v) (inB_in c1510) dX8_knownOnes_17 ?_
        have J31_1512 : ∀ (s0_1511 : Int32) (H : Heap) (locs : List Loc) (ls : Array Slot), va_P (gD G) vwCl (mW G a v) H → va_D A (mW G a v) → va_S A s.heap H locs → lv_has ls 4 [(0, .ref (a 0)), (1, .int x1_1506), (2, .int x2_1507)] → f_X8_knownOnes_31 x1_1506 x2_1507 s0_1511 (fun (x1_1513 : Int32) (x2_1514 : Int32) => f_X8_knownOnes_4 v n x1_1513 x2_1514) = some r → W p l e (headSpec wsX8_knownOnes ({ frames := 5, cells := 0, slots := 0, locals := 111 } : Room)).room s m ([.ref (a 0)] : List Value).toArray below meth c H locs 0 0 (MQ below (FQ G A (mW G a v) (some (.int r))) ([.ref (a 0)] : List Value).toArray s 0 0 A) (F0 m 31 ls [.int s0_1511]) := by
          intro s0_1511 H locs ls hP hD hS hl hf
          rw [f_X8_knownOnes_31] at hf
          refine lv_istore_n (lv' := [(3, .int s0_1511), (0, .ref (a 0)), (1, .int x1_1506), (2, .int x2_1507)]) hx hb dX8_knownOnes_31 rfl hl (by decide) rfl (fun ls hl => ?_)
          refine lv_iload_n hx hb dX8_knownOnes_32 rfl (lv_at hl 2 rfl) ?_
          refine lv_iload_n hx hb dX8_knownOnes_33 rfl (lv_at hl 0 rfl) ?_
          refine lv_if_lt (tgt := 43) hx hb dX8_knownOnes_34 (by decide) (fun c1515 => ?_) (fun c1515 => ?_)
          · have hf := ifT hf c1515
            refine lv_iconst (v := (0 : Int32)) hx hb dX8_knownOnes_43 (by decide) ?_
            refine lv_ior hx hb dX8_knownOnes_44 ?_
            refine lv_istore_n (lv' := [(1, .int (x1_1506 ||| (0 : Int32))), (3, .int s0_1511), (0, .ref (a 0)), (2, .int x2_1507)]) hx hb dX8_knownOnes_45 rfl hl (by decide) rfl (fun ls hl => ?_)
            refine lv_iinc (v := (x2_1507 + (1 : Int32))) (lv' := [(2, .int (x2_1507 + (1 : Int32))), (1, .int (x1_1506 ||| (0 : Int32))), (3, .int s0_1511), (0, .ref (a 0))]) hx hb dX8_knownOnes_46 hl (k := 3) rfl rfl (by decide) rfl (fun ls hl => ?_)
            refine lv_goto (tgt := 4) hx hb dX8_knownOnes_49 (by decide) ?_
            exact ih (x1_1506 ||| (0 : Int32)) (x2_1507 + (1 : Int32)) _ _ _ hP hD hS (lv_sub hl [3, 1, 0] rfl) hf
          · have hf := ifF hf c1515
            refine lv_iconst (v := (1 : Int32)) hx hb dX8_knownOnes_37 (by decide) ?_
            refine lv_iload_n hx hb dX8_knownOnes_38 rfl (lv_at hl 0 rfl) ?_
            refine lv_ishl hx hb dX8_knownOnes_39 ?_
            refine lv_goto (tgt := 44) hx hb dX8_knownOnes_40 (by decide) ?_
            refine lv_ior hx hb dX8_knownOnes_44 ?_
            refine lv_istore_n (lv' := [(1, .int (x1_1506 ||| ((1 : Int32) <<< (s0_1511 &&& 31)))), (3, .int s0_1511), (0, .ref (a 0)), (2, .int x2_1507)]) hx hb dX8_knownOnes_45 rfl hl (by decide) rfl (fun ls hl => ?_)
            refine lv_iinc (v := (x2_1507 + (1 : Int32))) (lv' := [(2, .int (x2_1507 + (1 : Int32))), (1, .int (x1_1506 ||| ((1 : Int32) <<< (s0_1511 &&& 31)))), (3, .int s0_1511), (0, .ref (a 0))]) hx hb dX8_knownOnes_46 hl (k := 3) rfl rfl (by decide) rfl (fun ls hl => ?_)
            refine lv_goto (tgt := 4) hx hb dX8_knownOnes_49 (by decide) ?_
            exact ih (x1_1506 ||| ((1 : Int32) <<< (s0_1511 &&& 31))) (x2_1507 + (1 : Int32)) _ _ _ hP hD hS (lv_sub hl [3, 1, 0] rfl) hf
        refine lv_if_ne (tgt := 29) hx hb dX8_knownOnes_18 (by decide) (fun c1516 => ?_) (fun c1516 => ?_)
        · have hf := ifF hf c1516
          refine lv_bipush (v := (-9 : Int32)) hx hb dX8_knownOnes_29 (by decide) ?_
          exact J31_1512 (-9 : Int32) _ _ _ hP hD hS (lv_sub hl [0, 1, 2] rfl) hf
        · have hf := ifT hf c1516
          refine lv_aload_n hx hb dX8_knownOnes_21 rfl (lv_at hl 0 rfl) ?_
          refine lv_iload_n hx hb dX8_knownOnes_22 rfl (lv_at hl 2 rfl) ?_
          obtain ⟨q1517, hq1517, hf⟩ := bnd hf
          refine fc_callV (Wa' := (mW G a v)) (st1 := [.int q1517]) (As := [.int x2_1507]) (rest := []) hCF (k_X8_knows a v x2_1507 hq1517) (cwV 1 hts gX8_knownOnes_X8_knows rfl rfl rfl ⟨rfl, dk_X8_knows⟩ ⟨Nat.le_of_ble_eq_true rfl, Nat.le_of_ble_eq_true rfl⟩) hE hAB hP hD hS [0, 1, 2, 3, 4, 5, 6, 7, 8, 9, 10, 11, 12, 13, 14, 15, 16, 17, 18, 19, 20, 21, 22, 23, 24] mW_d (mW_c G a v) (va_recv hE.1 hP (ci := 5) (q0 := 0) rfl (mW_o G a v)) (mW_f G a v v) (mW_s G a v v) rfl rfl hl.1 rfl (Nat.le_of_ble_eq_true rfl) dX8_knownOnes_23 ⟨Nat.le_refl _, Nat.le_refl _⟩ (fun H locs hP hD hS => ?_)
          refine lv_goto (tgt := 31) hx hb dX8_knownOnes_26 (by decide) ?_
          exact J31_1512 q1517 _ _ _ hP hD hS (lv_sub hl [0, 1, 2] rfl) hf
  exact L4_1508 FUEL (0 : Int32) (0 : Int32) _ _ _ hP hD hS (lv_sub hl [2, 1, 0] rfl) hf
theorem dk_X8_away : yX8_away.cls ≠ "java/lang/invoke/MethodHandle" ∧ yX8_away.cls ≠ "java/lang/invoke/VarHandle" ∧ (parseMethodDescriptor yX8_away.desc).map (fun d => d.parameters.length) = some 0 := by decide +kernel
theorem iu_X8_away_X8 : ∀ w ∈ u_ws RX8 TX8 29, w ∈ wsX8_away := by decide +kernel
set_option maxHeartbeats 4000000 in
set_option maxRecDepth 100000 in
theorem k_X8_away {l : Launch} {G : Gx} (a : Nat → Nat) (v : St) {r : Int32} {v' : St} (hf : f_X8_away v = some (r, v')) : FC l G yX8_away wsX8_away ({ frames := 6, cells := 0, slots := 0, locals := 134 } : Room) [.ref (a 0)] (mW G a v) (mW G a v') (some (.int r)) := by
  refine fc_head (cc := cX8_away) (maxL := 5) (ret := (some .int)) (C := RX8) (lv := [(0, .ref (a 0))]) (by decide) rfl rfl (Nat.le_of_ble_eq_true rfl) rfl ?_
  intro p e s m below meth c ls A hx hb hr hml hown hts hlocks hE hP hD hAB hS hl
  have hCF : CallFix p m c cX8_away 5 s ([.ref (a 0)] : List Value).toArray wsX8_away RX8 := ⟨hx, hb, hml, hown, hts⟩
  have hwX8 : ∀ w ∈ u_ws RX8 TX8 29, w.before ([.ref (a 0)] : List Value).toArray s = true := fun w h => hts w (iu_X8_away_X8 w h)
  have hk_fieldLink_RX8_66__BrideNotKnownModel___brides___I_ := hts (.fieldLink RX8 66 "BrideNotKnownModel" "brides" "I") (List.mem_of_getElem? (i := 1) rfl)
  have hk_fieldLink_RX8_22__BrideNotKnownModel___state____I_ := hts (.fieldLink RX8 22 "BrideNotKnownModel" "state" "[I") (List.mem_of_getElem? (i := 2) rfl)
  rw [f_X8_away] at hf
  refine lv_bipush (v := (-9 : Int32)) hx hb dX8_away_0 (by decide) ?_
  refine lv_istore_n (lv' := [(1, .int (-9 : Int32)), (0, .ref (a 0))]) hx hb dX8_away_2 rfl hl (by decide) rfl (fun ls hl => ?_)
  refine lv_aload_n hx hb dX8_away_3 rfl (lv_at hl 1 rfl) ?_
  obtain ⟨q1522, hq1522, hf⟩ := bnd hf
  refine fc_callV (Wa' := (mW G a v)) (st1 := [.int q1522]) (As := []) (rest := []) hCF (k_X8_knownOnes a v hq1522) (cwV 0 hts gX8_away_X8_knownOnes rfl rfl rfl ⟨rfl, dk_X8_knownOnes⟩ ⟨Nat.le_of_ble_eq_true rfl, Nat.le_of_ble_eq_true rfl⟩) hE hAB hP hD hS [0, 1, 2, 3, 4, 5, 6, 7, 8, 9, 10, 11, 12, 13, 14, 15, 16, 17, 18, 19, 20, 21, 22, 23, 24] mW_d (mW_c G a v) (va_recv hE.1 hP (ci := 5) (q0 := 0) rfl (mW_o G a v)) (mW_f G a v v) (mW_s G a v v) rfl rfl hl.1 rfl (Nat.le_of_ble_eq_true rfl) dX8_away_4 ⟨Nat.le_refl _, Nat.le_refl _⟩ (fun H locs hP hD hS => ?_)
  obtain ⟨q1523, hq1523, hf⟩ := bnd hf
  refine fc_callS (Wa' := (mW G a v)) (st1 := [.int q1523]) (As := [.int q1522]) (rest := []) hCF (k_X8_bits q1522 hq1523) (va_cwS 1 hts gX8_away_X8_bits rfl rfl rfl dk_X8_bits ⟨Nat.le_of_ble_eq_true rfl, Nat.le_of_ble_eq_true rfl⟩) hE hAB hP hD hS [] rfl rfl rfl rfl rfl rfl hl.1 rfl (Nat.le_of_ble_eq_true rfl) dX8_away_7 ⟨Nat.le_refl _, Nat.le_refl _⟩ (fun H locs hP hD hS => ?_)
  refine lv_istore_n (lv' := [(2, .int q1523), (1, .int (-9 : Int32)), (0, .ref (a 0))]) hx hb dX8_away_10 rfl hl (by decide) rfl (fun ls hl => ?_)
  refine lv_iconst (v := (0 : Int32)) hx hb dX8_away_11 (by decide) ?_
  refine lv_istore_n (lv' := [(3, .int (0 : Int32)), (2, .int q1523), (1, .int (-9 : Int32)), (0, .ref (a 0))]) hx hb dX8_away_12 rfl hl (by decide) rfl (fun ls hl => ?_)
  have L13_1528 : ∀ (n : Nat) (x1_1524 : Int32) (x2_1525 : Int32) (x3_1526 : Int32) (v_1527 : St) (H : Heap) (locs : List Loc) (ls : Array Slot), va_P (gD G) vwCl (mW G a v_1527) H → va_D A (mW G a v_1527) → va_S A s.heap H locs → lv_has ls 5 [(0, .ref (a 0)), (1, .int x1_1524), (2, .int x2_1525), (3, .int x3_1526)] → f_X8_away_13 n x1_1524 x2_1525 x3_1526 v_1527 = some (r, v') → W p l e (headSpec wsX8_away ({ frames := 6, cells := 0, slots := 0, locals := 134 } : Room)).room s m ([.ref (a 0)] : List Value).toArray below meth c H locs 0 0 (MQ below (FQ G A (mW G a v') (some (.int r))) ([.ref (a 0)] : List Value).toArray s 0 0 A) (F0 m 13 ls []) := by
    intro n
    induction n with
    | zero =>
      intro x1_1524 x2_1525 x3_1526 v_1527 H locs ls hP hD hS hl hf
      exact no_some hf
    | succ n ih =>
      intro x1_1524 x2_1525 x3_1526 v_1527 H locs ls hP hD hS hl hf
      rw [f_X8_away_13] at hf
      refine lv_iload_n hx hb dX8_away_13 rfl (lv_at hl 3 rfl) ?_
      refine lv_aload_n hx hb dX8_away_14 rfl (lv_at hl 0 rfl) ?_
      refine fc_get (v := .int (v_1527 23 0)) (ci := 5) (C := RX8) (T := TX8) (N := 29) hx hb hwX8 hown hE hP 0 (mW_o G a v_1527) rfl 10 (by decide) hk_fieldLink_RX8_66__BrideNotKnownModel___brides___I_ (fun _ h => h) rfl dX8_away_15 ?_
      refine lv_icmp_ge (tgt := 76) hx hb dX8_away_18 (by decide) (fun c1529 => ?_) (fun c1529 => ?_)
      · have hf := ifT hf c1529
        refine lv_iload_n hx hb dX8_away_76 rfl (lv_at hl 1 rfl) ?_
        exact fc_reti hx hb hr hlocks hP hS dX8_away_77 (i2a hf) (congrArg (fun z => (mW G a z)) (i2b hf))
      · have hf := ifF hf c1529
        refine lv_aload_n hx hb dX8_away_21 rfl (lv_at hl 0 rfl) ?_
        refine fc_get (v := .ref (a 5)) (ci := 5) (C := RX8) (T := TX8) (N := 29) hx hb hwX8 hown hE hP 0 (mW_o G a v_1527) rfl 4 (by decide) hk_fieldLink_RX8_22__BrideNotKnownModel___state____I_ (fun _ h => h) rfl dX8_away_22 ?_
        refine lv_iload_n hx hb dX8_away_25 rfl (lv_at hl 3 rfl) ?_
        obtain ⟨c1530, hf⟩ := gd_some hf
        refine fc_iald (n := 8) (f := (v_1527 4)) hx hb hE hP 5 (mW_a5 G a v_1527) (inB_in c1530) dX8_away_26 ?_
        refine lv_if_eq (tgt := 33) hx hb dX8_away_27 (by decide) (fun c1531 => ?_) (fun c1531 => ?_)
        · have hf := ifT hf c1531
          refine lv_aload_n hx hb dX8_away_33 rfl (lv_at hl 0 rfl) ?_
          refine fc_get (v := .ref (a 5)) (ci := 5) (C := RX8) (T := TX8) (N := 29) hx hb hwX8 hown hE hP 0 (mW_o G a v_1527) rfl 4 (by decide) hk_fieldLink_RX8_22__BrideNotKnownModel___state____I_ (fun _ h => h) rfl dX8_away_34 ?_
          refine lv_iload_n hx hb dX8_away_37 rfl (lv_at hl 3 rfl) ?_
          refine lv_iconst (v := (1 : Int32)) hx hb dX8_away_38 (by decide) ?_
          obtain ⟨c1532, hf⟩ := gd_some hf
          refine fc_iast (n := 8) (f := (v_1527 4)) (Wa' := (mW G a (sA v_1527 4 (upd (v_1527 4) x3_1526.toNatClampNeg (1 : Int32))))) hx hb hE hP hD hS 5 (mW_a5 G a v_1527) (inB_in c1532) dX8_away_39 (mW_t5 G a v_1527 (upd (v_1527 4) x3_1526.toNatClampNeg (1 : Int32))) (fun H locs hP hD hS => ?_)
          refine lv_aload_n hx hb dX8_away_40 rfl (lv_at hl 0 rfl) ?_
          obtain ⟨q1533, hq1533, hf⟩ := bnd hf
          refine fc_callV (Wa' := (mW G a (sA v_1527 4 (upd (v_1527 4) x3_1526.toNatClampNeg (1 : Int32))))) (st1 := [.int q1533]) (As := []) (rest := []) hCF (k_X8_knownOnes a (sA v_1527 4 (upd (v_1527 4) x3_1526.toNatClampNeg (1 : Int32))) hq1533) (cwV 0 hts gX8_away_X8_knownOnes rfl rfl rfl ⟨rfl, dk_X8_knownOnes⟩ ⟨Nat.le_of_ble_eq_true rfl, Nat.le_of_ble_eq_true rfl⟩) hE hAB hP hD hS [0, 1, 2, 3, 4, 5, 6, 7, 8, 9, 10, 11, 12, 13, 14, 15, 16, 17, 18, 19, 20, 21, 22, 23, 24] mW_d (mW_c G a (sA v_1527 4 (upd (v_1527 4) x3_1526.toNatClampNeg (1 : Int32)))) (va_recv hE.1 hP (ci := 5) (q0 := 0) rfl (mW_o G a (sA v_1527 4 (upd (v_1527 4) x3_1526.toNatClampNeg (1 : Int32))))) (mW_f G a (sA v_1527 4 (upd (v_1527 4) x3_1526.toNatClampNeg (1 : Int32))) (sA v_1527 4 (upd (v_1527 4) x3_1526.toNatClampNeg (1 : Int32)))) (mW_s G a (sA v_1527 4 (upd (v_1527 4) x3_1526.toNatClampNeg (1 : Int32))) (sA v_1527 4 (upd (v_1527 4) x3_1526.toNatClampNeg (1 : Int32)))) rfl rfl hl.1 rfl (Nat.le_of_ble_eq_true rfl) dX8_away_41 ⟨Nat.le_refl _, Nat.le_refl _⟩ (fun H locs hP hD hS => ?_)
          obtain ⟨q1534, hq1534, hf⟩ := bnd hf
          refine fc_callS (Wa' := (mW G a (sA v_1527 4 (upd (v_1527 4) x3_1526.toNatClampNeg (1 : Int32))))) (st1 := [.int q1534]) (As := [.int q1533]) (rest := []) hCF (k_X8_bits q1533 hq1534) (va_cwS 1 hts gX8_away_X8_bits rfl rfl rfl dk_X8_bits ⟨Nat.le_of_ble_eq_true rfl, Nat.le_of_ble_eq_true rfl⟩) hE hAB hP hD hS [] rfl rfl rfl rfl rfl rfl hl.1 rfl (Nat.le_of_ble_eq_true rfl) dX8_away_44 ⟨Nat.le_refl _, Nat.le_refl _⟩ (fun H locs hP hD hS => ?_)
          refine lv_istore (lv' := [(4, .int q1534), (0, .ref (a 0)), (1, .int x1_1524), (2, .int x2_1525), (3, .int x3_1526)]) hx hb dX8_away_47 hl (by decide) rfl (fun ls hl => ?_)
          refine lv_aload_n hx hb dX8_away_49 rfl (lv_at hl 1 rfl) ?_
          refine fc_get (v := .ref (a 5)) (ci := 5) (C := RX8) (T := TX8) (N := 29) hx hb hwX8 hown hE hP 0 (mW_o G a (sA v_1527 4 (upd (v_1527 4) x3_1526.toNatClampNeg (1 : Int32)))) rfl 4 (by decide) hk_fieldLink_RX8_22__BrideNotKnownModel___state____I_ (fun _ h => h) rfl dX8_away_50 ?_
          refine lv_iload_n hx hb dX8_away_53 rfl (lv_at hl 4 rfl) ?_
          refine lv_iconst (v := (0 : Int32)) hx hb dX8_away_54 (by decide) ?_
          obtain ⟨c1535, hf⟩ := gd_some hf
          refine fc_iast (n := 8) (f := (upd (v_1527 4) x3_1526.toNatClampNeg (1 : Int32))) (Wa' := (mW G a (sA (sA v_1527 4 (upd (v_1527 4) x3_1526.toNatClampNeg (1 : Int32))) 4 (upd (upd (v_1527 4) x3_1526.toNatClampNeg (1 : Int32)) x3_1526.toNatClampNeg (0 : Int32))))) hx hb hE hP hD hS 5 (mW_a5 G a (sA v_1527 4 (upd (v_1527 4) x3_1526.toNatClampNeg (1 : Int32)))) (inB_in c1535) dX8_away_55 (mW_t5 G a (sA v_1527 4 (upd (v_1527 4) x3_1526.toNatClampNeg (1 : Int32))) (upd (upd (v_1527 4) x3_1526.toNatClampNeg (1 : Int32)) x3_1526.toNatClampNeg (0 : Int32))) (fun H locs hP hD hS => ?_)
          refine lv_iload hx hb dX8_away_56 (lv_at hl 0 rfl) ?_
          refine lv_iload_n hx hb dX8_away_58 rfl (lv_at hl 3 rfl) ?_
          refine lv_icmp_lt (tgt := 65) hx hb dX8_away_59 (by decide) (fun c1536 => ?_) (fun c1536 => ?_)
          · have hf := ifT hf c1536
            refine lv_iload_n hx hb dX8_away_65 rfl (lv_at hl 4 rfl) ?_
            refine lv_istore_n (lv' := [(1, .int x3_1526), (4, .int q1534), (0, .ref (a 0)), (2, .int x2_1525), (3, .int x3_1526)]) hx hb dX8_away_66 rfl hl (by decide) rfl (fun ls hl => ?_)
            refine lv_iload hx hb dX8_away_67 (lv_at hl 1 rfl) ?_
            refine lv_istore_n (lv' := [(2, .int q1534), (1, .int x3_1526), (4, .int q1534), (0, .ref (a 0)), (3, .int x3_1526)]) hx hb dX8_away_69 rfl hl (by decide) rfl (fun ls hl => ?_)
            refine lv_iinc (v := (x3_1526 + (1 : Int32))) (lv' := [(3, .int (x3_1526 + (1 : Int32))), (2, .int q1534), (1, .int x3_1526), (4, .int q1534), (0, .ref (a 0))]) hx hb dX8_away_70 hl (k := 4) rfl rfl (by decide) rfl (fun ls hl => ?_)
            refine lv_goto (tgt := 13) hx hb dX8_away_73 (by decide) ?_
            exact ih x3_1526 q1534 (x3_1526 + (1 : Int32)) (sA (sA v_1527 4 (upd (v_1527 4) x3_1526.toNatClampNeg (1 : Int32))) 4 (upd (upd (v_1527 4) x3_1526.toNatClampNeg (1 : Int32)) x3_1526.toNatClampNeg (0 : Int32))) _ _ _ hP hD hS (lv_sub hl [4, 2, 1, 0] rfl) hf
          · have hf := ifF hf c1536
            refine lv_goto (tgt := 70) hx hb dX8_away_62 (by decide) ?_
            refine lv_iinc (v := (x3_1526 + (1 : Int32))) (lv' := [(3, .int (x3_1526 + (1 : Int32))), (4, .int q1534), (0, .ref (a 0)), (1, .int x1_1524), (2, .int x2_1525)]) hx hb dX8_away_70 hl (k := 4) rfl rfl (by decide) rfl (fun ls hl => ?_)
            refine lv_goto (tgt := 13) hx hb dX8_away_73 (by decide) ?_
            exact ih x1_1524 x2_1525 (x3_1526 + (1 : Int32)) (sA (sA v_1527 4 (upd (v_1527 4) x3_1526.toNatClampNeg (1 : Int32))) 4 (upd (upd (v_1527 4) x3_1526.toNatClampNeg (1 : Int32)) x3_1526.toNatClampNeg (0 : Int32))) _ _ _ hP hD hS (lv_sub hl [2, 3, 4, 0] rfl) hf
        · have hf := ifF hf c1531
          refine lv_goto (tgt := 70) hx hb dX8_away_30 (by decide) ?_
          refine lv_iinc (v := (x3_1526 + (1 : Int32))) (lv' := [(3, .int (x3_1526 + (1 : Int32))), (0, .ref (a 0)), (1, .int x1_1524), (2, .int x2_1525)]) hx hb dX8_away_70 hl (k := 3) rfl rfl (by decide) rfl (fun ls hl => ?_)
          refine lv_goto (tgt := 13) hx hb dX8_away_73 (by decide) ?_
          exact ih x1_1524 x2_1525 (x3_1526 + (1 : Int32)) v_1527 _ _ _ hP hD hS (lv_sub hl [1, 2, 3, 0] rfl) hf
  exact L13_1528 FUEL (-9 : Int32) q1523 (0 : Int32) v _ _ _ hP hD hS (lv_sub hl [3, 2, 1, 0] rfl) hf
theorem dk_X8_passes : yX8_passes.cls ≠ "java/lang/invoke/MethodHandle" ∧ yX8_passes.cls ≠ "java/lang/invoke/VarHandle" ∧ (parseMethodDescriptor yX8_passes.desc).map (fun d => d.parameters.length) = some 1 := by decide +kernel
theorem iu_X8_passes_X8 : ∀ w ∈ u_ws RX8 TX8 29, w ∈ wsX8_passes := by decide +kernel
set_option maxHeartbeats 4000000 in
set_option maxRecDepth 100000 in
theorem k_X8_passes {l : Launch} {G : Gx} (a : Nat → Nat) (v : St) (k : Nat) {v' : St} (hf : f_X8_passes v k = some v') (hk : k < 10) : FC l G yX8_passes wsX8_passes ({ frames := 0, cells := 0, slots := 0, locals := 0 } : Room) [.ref (a 0), .ref (a (1 + k))] (mW G a v) (mW G a v') none := by
  refine fc_head (cc := cX8_passes) (maxL := 3) (ret := none) (C := RX8) (lv := [(0, .ref (a 0)), (1, .ref (a (1 + k)))]) (by decide) rfl rfl (Nat.le_of_ble_eq_true rfl) rfl ?_
  intro p e s m below meth c ls A hx hb hr hml hown hts hlocks hE hP hD hAB hS hl
  have hCF : CallFix p m c cX8_passes 3 s ([.ref (a 0), .ref (a (1 + k))] : List Value).toArray wsX8_passes RX8 := ⟨hx, hb, hml, hown, hts⟩
  have hwX8 : ∀ w ∈ u_ws RX8 TX8 29, w.before ([.ref (a 0), .ref (a (1 + k))] : List Value).toArray s = true := fun w h => hts w (iu_X8_passes_X8 w h)
  have hk_fieldLink_RX8_156__BrideNotKnownModel___isKeeping___Z_ := hts (.fieldLink RX8 156 "BrideNotKnownModel" "isKeeping" "Z") (List.mem_of_getElem? (i := 1) rfl)
  have hk_fieldLink_RX8_160__BrideNotKnownModel___cursor___I_ := hts (.fieldLink RX8 160 "BrideNotKnownModel" "cursor" "I") (List.mem_of_getElem? (i := 3) rfl)
  have hk_fieldLink_RX8_52__BrideNotKnownModel___kept____I_ := hts (.fieldLink RX8 52 "BrideNotKnownModel" "kept" "[I") (List.mem_of_getElem? (i := 2) rfl)
  rw [f_X8_passes] at hf
  refine lv_iconst (v := (0 : Int32)) hx hb dX8_passes_0 (by decide) ?_
  refine lv_istore_n (lv' := [(2, .int (0 : Int32)), (0, .ref (a 0)), (1, .ref (a (1 + k)))]) hx hb dX8_passes_1 rfl hl (by decide) rfl (fun ls hl => ?_)
  have L2_1543 : ∀ (n : Nat) (x2_1541 : Int32) (v_1542 : St) (H : Heap) (locs : List Loc) (ls : Array Slot), va_P (gD G) vwCl (mW G a v_1542) H → va_D A (mW G a v_1542) → va_S A s.heap H locs → lv_has ls 3 [(0, .ref (a 0)), (1, .ref (a (1 + k))), (2, .int x2_1541)] → f_X8_passes_2 k n x2_1541 v_1542 = some v' → W p l e (headSpec wsX8_passes ({ frames := 0, cells := 0, slots := 0, locals := 0 } : Room)).room s m ([.ref (a 0), .ref (a (1 + k))] : List Value).toArray below meth c H locs 0 0 (MQ below (FQ G A (mW G a v') none) ([.ref (a 0), .ref (a (1 + k))] : List Value).toArray s 0 0 A) (F0 m 2 ls []) := by
    intro n
    induction n with
    | zero =>
      intro x2_1541 v_1542 H locs ls hP hD hS hl hf
      exact no_some hf
    | succ n ih =>
      intro x2_1541 v_1542 H locs ls hP hD hS hl hf
      rw [f_X8_passes_2] at hf
      refine lv_iload_n hx hb dX8_passes_2 rfl (lv_at hl 2 rfl) ?_
      refine lv_aload_n hx hb dX8_passes_3 rfl (lv_at hl 1 rfl) ?_
      refine fc_alen (n := (mLen k)) (f := (v_1542 k)) hx hb hE hP (1 + k) (mW_at G a v_1542 hk) dX8_passes_4 ?_
      refine lv_icmp_ge (tgt := 58) hx hb dX8_passes_5 (by decide) (fun c1544 => ?_) (fun c1544 => ?_)
      · have hf := ifT hf c1544
        exact fc_retv hx hb hr hlocks hP hS dX8_passes_58 (congrArg (fun z => (mW G a z)) (i1 hf))
      · have hf := ifF hf c1544
        refine lv_aload_n hx hb dX8_passes_8 rfl (lv_at hl 0 rfl) ?_
        refine fc_get (v := .int (v_1542 23 7)) (ci := 5) (C := RX8) (T := TX8) (N := 29) hx hb hwX8 hown hE hP 0 (mW_o G a v_1542) rfl 22 (by decide) hk_fieldLink_RX8_156__BrideNotKnownModel___isKeeping___Z_ (fun _ h => h) rfl dX8_passes_9 ?_
        have J42_1546 : ∀ (v_1545 : St) (H : Heap) (locs : List Loc) (ls : Array Slot), va_P (gD G) vwCl (mW G a v_1545) H → va_D A (mW G a v_1545) → va_S A s.heap H locs → lv_has ls 3 [(0, .ref (a 0)), (1, .ref (a (1 + k))), (2, .int x2_1541)] → f_X8_passes_42 x2_1541 v_1545 (fun (x2_1547 : Int32) (v_1548 : St) => f_X8_passes_2 k n x2_1547 v_1548) = some v' → W p l e (headSpec wsX8_passes ({ frames := 0, cells := 0, slots := 0, locals := 0 } : Room)).room s m ([.ref (a 0), .ref (a (1 + k))] : List Value).toArray below meth c H locs 0 0 (MQ below (FQ G A (mW G a v') none) ([.ref (a 0), .ref (a (1 + k))] : List Value).toArray s 0 0 A) (F0 m 42 ls []) := by
          intro v_1545 H locs ls hP hD hS hl hf
          rw [f_X8_passes_42] at hf
          refine lv_aload_n hx hb dX8_passes_42 rfl (lv_at hl 0 rfl) ?_
          refine lv_dup hx hb dX8_passes_43 rfl ?_
          refine fc_get (v := .int (v_1545 23 8)) (ci := 5) (C := RX8) (T := TX8) (N := 29) hx hb hwX8 hown hE hP 0 (mW_o G a v_1545) rfl 23 (by decide) hk_fieldLink_RX8_160__BrideNotKnownModel___cursor___I_ (fun _ h => h) rfl dX8_passes_44 ?_
          refine lv_iconst (v := (1 : Int32)) hx hb dX8_passes_47 (by decide) ?_
          refine lv_iadd hx hb dX8_passes_48 ?_
          refine fc_put (Wa' := (mW G a (sA v_1545 23 (upd (v_1545 23) 8 ((v_1545 23 8) + (1 : Int32)))))) (ci := 5) (C := RX8) (T := TX8) (N := 29) hx hb hwX8 tyX8 tyX8_ok nmX8 hown hE hP hD hS 0 (mW_o G a v_1545) rfl 23 (by decide) hk_fieldLink_RX8_160__BrideNotKnownModel___cursor___I_ (fun _ h => h) rfl rfl rfl (Nat.le_of_ble_eq_true rfl) dX8_passes_49 (mW_p23 G a v_1545 ((v_1545 23 8) + (1 : Int32))) (fun H locs hP hD hS => ?_)
          refine lv_iinc (v := (x2_1541 + (1 : Int32))) (lv' := [(2, .int (x2_1541 + (1 : Int32))), (0, .ref (a 0)), (1, .ref (a (1 + k)))]) hx hb dX8_passes_52 hl (k := 2) rfl rfl (by decide) rfl (fun ls hl => ?_)
          refine lv_goto (tgt := 2) hx hb dX8_passes_55 (by decide) ?_
          exact ih (x2_1541 + (1 : Int32)) (sA v_1545 23 (upd (v_1545 23) 8 ((v_1545 23 8) + (1 : Int32)))) _ _ _ hP hD hS (lv_sub hl [1, 2, 0] rfl) hf
        refine lv_if_eq (tgt := 30) hx hb dX8_passes_12 (by decide) (fun c1549 => ?_) (fun c1549 => ?_)
        · have hf := ifT hf c1549
          refine lv_aload_n hx hb dX8_passes_30 rfl (lv_at hl 1 rfl) ?_
          refine lv_iload_n hx hb dX8_passes_31 rfl (lv_at hl 2 rfl) ?_
          refine lv_aload_n hx hb dX8_passes_32 rfl (lv_at hl 0 rfl) ?_
          refine fc_get (v := .ref (a 15)) (ci := 5) (C := RX8) (T := TX8) (N := 29) hx hb hwX8 hown hE hP 0 (mW_o G a v_1542) rfl 20 (by decide) hk_fieldLink_RX8_52__BrideNotKnownModel___kept____I_ (fun _ h => h) rfl dX8_passes_33 ?_
          refine lv_aload_n hx hb dX8_passes_36 rfl (lv_at hl 0 rfl) ?_
          refine fc_get (v := .int (v_1542 23 8)) (ci := 5) (C := RX8) (T := TX8) (N := 29) hx hb hwX8 hown hE hP 0 (mW_o G a v_1542) rfl 23 (by decide) hk_fieldLink_RX8_160__BrideNotKnownModel___cursor___I_ (fun _ h => h) rfl dX8_passes_37 ?_
          obtain ⟨c1550, hf⟩ := gd_some hf
          refine fc_iald (n := 189) (f := (v_1542 14)) hx hb hE hP 15 (mW_a15 G a v_1542) (inB_in c1550) dX8_passes_40 ?_
          obtain ⟨c1551, hf⟩ := gd_some hf
          refine fc_iast (n := (mLen k)) (f := (v_1542 k)) (Wa' := (mW G a (sA v_1542 k (upd (v_1542 k) x2_1541.toNatClampNeg ((v_1542 14) (v_1542 23 8).toNatClampNeg))))) hx hb hE hP hD hS (1 + k) (mW_at G a v_1542 hk) (inB_in c1551) dX8_passes_41 (mW_set G a v_1542 _ hk) (fun H locs hP hD hS => ?_)
          exact J42_1546 (sA v_1542 k (upd (v_1542 k) x2_1541.toNatClampNeg ((v_1542 14) (v_1542 23 8).toNatClampNeg))) _ _ _ hP hD hS (lv_sub hl [0, 1, 2] rfl) hf
        · have hf := ifF hf c1549
          refine lv_aload_n hx hb dX8_passes_15 rfl (lv_at hl 0 rfl) ?_
          refine fc_get (v := .ref (a 15)) (ci := 5) (C := RX8) (T := TX8) (N := 29) hx hb hwX8 hown hE hP 0 (mW_o G a v_1542) rfl 20 (by decide) hk_fieldLink_RX8_52__BrideNotKnownModel___kept____I_ (fun _ h => h) rfl dX8_passes_16 ?_
          refine lv_aload_n hx hb dX8_passes_19 rfl (lv_at hl 0 rfl) ?_
          refine fc_get (v := .int (v_1542 23 8)) (ci := 5) (C := RX8) (T := TX8) (N := 29) hx hb hwX8 hown hE hP 0 (mW_o G a v_1542) rfl 23 (by decide) hk_fieldLink_RX8_160__BrideNotKnownModel___cursor___I_ (fun _ h => h) rfl dX8_passes_20 ?_
          refine lv_aload_n hx hb dX8_passes_23 rfl (lv_at hl 1 rfl) ?_
          refine lv_iload_n hx hb dX8_passes_24 rfl (lv_at hl 2 rfl) ?_
          obtain ⟨c1552, hf⟩ := gd_some hf
          refine fc_iald (n := (mLen k)) (f := (v_1542 k)) hx hb hE hP (1 + k) (mW_at G a v_1542 hk) (inB_in c1552) dX8_passes_25 ?_
          obtain ⟨c1553, hf⟩ := gd_some hf
          refine fc_iast (n := 189) (f := (v_1542 14)) (Wa' := (mW G a (sA v_1542 14 (upd (v_1542 14) (v_1542 23 8).toNatClampNeg ((v_1542 k) x2_1541.toNatClampNeg))))) hx hb hE hP hD hS 15 (mW_a15 G a v_1542) (inB_in c1553) dX8_passes_26 (mW_t15 G a v_1542 (upd (v_1542 14) (v_1542 23 8).toNatClampNeg ((v_1542 k) x2_1541.toNatClampNeg))) (fun H locs hP hD hS => ?_)
          refine lv_goto (tgt := 42) hx hb dX8_passes_27 (by decide) ?_
          exact J42_1546 (sA v_1542 14 (upd (v_1542 14) (v_1542 23 8).toNatClampNeg ((v_1542 k) x2_1541.toNatClampNeg))) _ _ _ hP hD hS (lv_sub hl [0, 1, 2] rfl) hf
  exact L2_1543 FUEL (0 : Int32) v _ _ _ hP hD hS (lv_sub hl [1, 2, 0] rfl) hf
theorem dk_X8_passOne : yX8_passOne.cls ≠ "java/lang/invoke/MethodHandle" ∧ yX8_passOne.cls ≠ "java/lang/invoke/VarHandle" ∧ (parseMethodDescriptor yX8_passOne.desc).map (fun d => d.parameters.length) = some 1 := by decide +kernel
theorem iu_X8_passOne_X8 : ∀ w ∈ u_ws RX8 TX8 29, w ∈ wsX8_passOne := by decide +kernel
set_option maxHeartbeats 4000000 in
set_option maxRecDepth 100000 in
theorem k_X8_passOne {l : Launch} {G : Gx} (a : Nat → Nat) (v : St) (x1 : Int32) {r : Int32} {v' : St} (hf : f_X8_passOne v x1 = some (r, v')) : FC l G yX8_passOne wsX8_passOne ({ frames := 0, cells := 0, slots := 0, locals := 0 } : Room) [.ref (a 0), .int x1] (mW G a v) (mW G a v') (some (.int r)) := by
  refine fc_head (cc := cX8_passOne) (maxL := 3) (ret := (some .int)) (C := RX8) (lv := [(0, .ref (a 0)), (1, .int x1)]) (by decide) rfl rfl (Nat.le_of_ble_eq_true rfl) rfl ?_
  intro p e s m below meth c ls A hx hb hr hml hown hts hlocks hE hP hD hAB hS hl
  have hCF : CallFix p m c cX8_passOne 3 s ([.ref (a 0), .int x1] : List Value).toArray wsX8_passOne RX8 := ⟨hx, hb, hml, hown, hts⟩
  have hwX8 : ∀ w ∈ u_ws RX8 TX8 29, w.before ([.ref (a 0), .int x1] : List Value).toArray s = true := fun w h => hts w (iu_X8_passOne_X8 w h)
  have hk_fieldLink_RX8_156__BrideNotKnownModel___isKeeping___Z_ := hts (.fieldLink RX8 156 "BrideNotKnownModel" "isKeeping" "Z") (List.mem_of_getElem? (i := 1) rfl)
  have hk_fieldLink_RX8_160__BrideNotKnownModel___cursor___I_ := hts (.fieldLink RX8 160 "BrideNotKnownModel" "cursor" "I") (List.mem_of_getElem? (i := 3) rfl)
  have hk_fieldLink_RX8_52__BrideNotKnownModel___kept____I_ := hts (.fieldLink RX8 52 "BrideNotKnownModel" "kept" "[I") (List.mem_of_getElem? (i := 2) rfl)
  rw [f_X8_passOne] at hf
  refine lv_aload_n hx hb dX8_passOne_0 rfl (lv_at hl 0 rfl) ?_
  refine fc_get (v := .int (v 23 7)) (ci := 5) (C := RX8) (T := TX8) (N := 29) hx hb hwX8 hown hE hP 0 (mW_o G a v) rfl 22 (by decide) hk_fieldLink_RX8_156__BrideNotKnownModel___isKeeping___Z_ (fun _ h => h) rfl dX8_passOne_1 ?_
  have J20_1555 : ∀ (s0_1554 : Int32) (H : Heap) (locs : List Loc) (ls : Array Slot), va_P (gD G) vwCl (mW G a v) H → va_D A (mW G a v) → va_S A s.heap H locs → lv_has ls 3 [(0, .ref (a 0)), (1, .int x1)] → f_X8_passOne_20 v x1 s0_1554 = some (r, v') → W p l e (headSpec wsX8_passOne ({ frames := 0, cells := 0, slots := 0, locals := 0 } : Room)).room s m ([.ref (a 0), .int x1] : List Value).toArray below meth c H locs 0 0 (MQ below (FQ G A (mW G a v') (some (.int r))) ([.ref (a 0), .int x1] : List Value).toArray s 0 0 A) (F0 m 20 ls [.int s0_1554]) := by
    intro s0_1554 H locs ls hP hD hS hl hf
    rw [f_X8_passOne_20] at hf
    refine lv_istore_n (lv' := [(2, .int s0_1554), (0, .ref (a 0)), (1, .int x1)]) hx hb dX8_passOne_20 rfl hl (by decide) rfl (fun ls hl => ?_)
    refine lv_aload_n hx hb dX8_passOne_21 rfl (lv_at hl 1 rfl) ?_
    refine fc_get (v := .int (v 23 7)) (ci := 5) (C := RX8) (T := TX8) (N := 29) hx hb hwX8 hown hE hP 0 (mW_o G a v) rfl 22 (by decide) hk_fieldLink_RX8_156__BrideNotKnownModel___isKeeping___Z_ (fun _ h => h) rfl dX8_passOne_22 ?_
    have J38_1557 : ∀ (v_1556 : St) (H : Heap) (locs : List Loc) (ls : Array Slot), va_P (gD G) vwCl (mW G a v_1556) H → va_D A (mW G a v_1556) → va_S A s.heap H locs → lv_has ls 3 [(0, .ref (a 0)), (2, .int s0_1554)] → f_X8_passOne_38 s0_1554 v_1556 = some (r, v') → W p l e (headSpec wsX8_passOne ({ frames := 0, cells := 0, slots := 0, locals := 0 } : Room)).room s m ([.ref (a 0), .int x1] : List Value).toArray below meth c H locs 0 0 (MQ below (FQ G A (mW G a v') (some (.int r))) ([.ref (a 0), .int x1] : List Value).toArray s 0 0 A) (F0 m 38 ls []) := by
      intro v_1556 H locs ls hP hD hS hl hf
      rw [f_X8_passOne_38] at hf
      refine lv_aload_n hx hb dX8_passOne_38 rfl (lv_at hl 0 rfl) ?_
      refine lv_dup hx hb dX8_passOne_39 rfl ?_
      refine fc_get (v := .int (v_1556 23 8)) (ci := 5) (C := RX8) (T := TX8) (N := 29) hx hb hwX8 hown hE hP 0 (mW_o G a v_1556) rfl 23 (by decide) hk_fieldLink_RX8_160__BrideNotKnownModel___cursor___I_ (fun _ h => h) rfl dX8_passOne_40 ?_
      refine lv_iconst (v := (1 : Int32)) hx hb dX8_passOne_43 (by decide) ?_
      refine lv_iadd hx hb dX8_passOne_44 ?_
      refine fc_put (Wa' := (mW G a (sA v_1556 23 (upd (v_1556 23) 8 ((v_1556 23 8) + (1 : Int32)))))) (ci := 5) (C := RX8) (T := TX8) (N := 29) hx hb hwX8 tyX8 tyX8_ok nmX8 hown hE hP hD hS 0 (mW_o G a v_1556) rfl 23 (by decide) hk_fieldLink_RX8_160__BrideNotKnownModel___cursor___I_ (fun _ h => h) rfl rfl rfl (Nat.le_of_ble_eq_true rfl) dX8_passOne_45 (mW_p23 G a v_1556 ((v_1556 23 8) + (1 : Int32))) (fun H locs hP hD hS => ?_)
      refine lv_iload_n hx hb dX8_passOne_48 rfl (lv_at hl 1 rfl) ?_
      exact fc_reti hx hb hr hlocks hP hS dX8_passOne_49 (i2a hf) (congrArg (fun z => (mW G a z)) (i2b hf))
    refine lv_if_eq (tgt := 38) hx hb dX8_passOne_25 (by decide) (fun c1558 => ?_) (fun c1558 => ?_)
    · have hf := ifT hf c1558
      exact J38_1557 v _ _ _ hP hD hS (lv_sub hl [1, 0] rfl) hf
    · have hf := ifF hf c1558
      refine lv_aload_n hx hb dX8_passOne_28 rfl (lv_at hl 1 rfl) ?_
      refine fc_get (v := .ref (a 15)) (ci := 5) (C := RX8) (T := TX8) (N := 29) hx hb hwX8 hown hE hP 0 (mW_o G a v) rfl 20 (by decide) hk_fieldLink_RX8_52__BrideNotKnownModel___kept____I_ (fun _ h => h) rfl dX8_passOne_29 ?_
      refine lv_aload_n hx hb dX8_passOne_32 rfl (lv_at hl 1 rfl) ?_
      refine fc_get (v := .int (v 23 8)) (ci := 5) (C := RX8) (T := TX8) (N := 29) hx hb hwX8 hown hE hP 0 (mW_o G a v) rfl 23 (by decide) hk_fieldLink_RX8_160__BrideNotKnownModel___cursor___I_ (fun _ h => h) rfl dX8_passOne_33 ?_
      refine lv_iload_n hx hb dX8_passOne_36 rfl (lv_at hl 2 rfl) ?_
      obtain ⟨c1559, hf⟩ := gd_some hf
      refine fc_iast (n := 189) (f := (v 14)) (Wa' := (mW G a (sA v 14 (upd (v 14) (v 23 8).toNatClampNeg x1)))) hx hb hE hP hD hS 15 (mW_a15 G a v) (inB_in c1559) dX8_passOne_37 (mW_t15 G a v (upd (v 14) (v 23 8).toNatClampNeg x1)) (fun H locs hP hD hS => ?_)
      exact J38_1557 (sA v 14 (upd (v 14) (v 23 8).toNatClampNeg x1)) _ _ _ hP hD hS (lv_sub hl [1, 0] rfl) hf
  refine lv_if_eq (tgt := 11) hx hb dX8_passOne_4 (by decide) (fun c1560 => ?_) (fun c1560 => ?_)
  · have hf := ifT hf c1560
    refine lv_aload_n hx hb dX8_passOne_11 rfl (lv_at hl 0 rfl) ?_
    refine fc_get (v := .ref (a 15)) (ci := 5) (C := RX8) (T := TX8) (N := 29) hx hb hwX8 hown hE hP 0 (mW_o G a v) rfl 20 (by decide) hk_fieldLink_RX8_52__BrideNotKnownModel___kept____I_ (fun _ h => h) rfl dX8_passOne_12 ?_
    refine lv_aload_n hx hb dX8_passOne_15 rfl (lv_at hl 0 rfl) ?_
    refine fc_get (v := .int (v 23 8)) (ci := 5) (C := RX8) (T := TX8) (N := 29) hx hb hwX8 hown hE hP 0 (mW_o G a v) rfl 23 (by decide) hk_fieldLink_RX8_160__BrideNotKnownModel___cursor___I_ (fun _ h => h) rfl dX8_passOne_16 ?_
    obtain ⟨c1561, hf⟩ := gd_some hf
    refine fc_iald (n := 189) (f := (v 14)) hx hb hE hP 15 (mW_a15 G a v) (inB_in c1561) dX8_passOne_19 ?_
    exact J20_1555 ((v 14) (v 23 8).toNatClampNeg) _ _ _ hP hD hS (lv_sub hl [0, 1] rfl) hf
  · have hf := ifF hf c1560
    refine lv_iload_n hx hb dX8_passOne_7 rfl (lv_at hl 1 rfl) ?_
    refine lv_goto (tgt := 20) hx hb dX8_passOne_8 (by decide) ?_
    exact J20_1555 x1 _ _ _ hP hD hS (lv_sub hl [0, 1] rfl) hf
theorem dk_X8_passesAll : yX8_passesAll.cls ≠ "java/lang/invoke/MethodHandle" ∧ yX8_passesAll.cls ≠ "java/lang/invoke/VarHandle" ∧ (parseMethodDescriptor yX8_passesAll.desc).map (fun d => d.parameters.length) = some 2 := by decide +kernel
theorem iu_X8_passesAll_X8 : ∀ w ∈ u_ws RX8 TX8 29, w ∈ wsX8_passesAll := by decide +kernel
set_option maxHeartbeats 4000000 in
set_option maxRecDepth 100000 in
theorem k_X8_passesAll {l : Launch} {G : Gx} (a : Nat → Nat) (v : St) (x1 : Int32) (x2 : Int32) {v' : St} (hf : f_X8_passesAll v x1 x2 = some v') : FC l G yX8_passesAll wsX8_passesAll ({ frames := 1, cells := 0, slots := 0, locals := 22 } : Room) [.ref (a 0), .int x1, .int x2] (mW G a v) (mW G a v') none := by
  refine fc_head (cc := cX8_passesAll) (maxL := 3) (ret := none) (C := RX8) (lv := [(0, .ref (a 0)), (1, .int x1), (2, .int x2)]) (by decide) rfl rfl (Nat.le_of_ble_eq_true rfl) rfl ?_
  intro p e s m below meth c ls A hx hb hr hml hown hts hlocks hE hP hD hAB hS hl
  have hCF : CallFix p m c cX8_passesAll 3 s ([.ref (a 0), .int x1, .int x2] : List Value).toArray wsX8_passesAll RX8 := ⟨hx, hb, hml, hown, hts⟩
  have hwX8 : ∀ w ∈ u_ws RX8 TX8 29, w.before ([.ref (a 0), .int x1, .int x2] : List Value).toArray s = true := fun w h => hts w (iu_X8_passesAll_X8 w h)
  have hk_fieldLink_RX8_160__BrideNotKnownModel___cursor___I_ := hts (.fieldLink RX8 160 "BrideNotKnownModel" "cursor" "I") (List.mem_of_getElem? (i := 1) rfl)
  have hk_fieldLink_RX8_156__BrideNotKnownModel___isKeeping___Z_ := hts (.fieldLink RX8 156 "BrideNotKnownModel" "isKeeping" "Z") (List.mem_of_getElem? (i := 2) rfl)
  have hk_fieldLink_RX8_13__BrideNotKnownModel___kind____I_ := hts (.fieldLink RX8 13 "BrideNotKnownModel" "kind" "[I") (List.mem_of_getElem? (i := 3) rfl)
  have hk_fieldLink_RX8_16__BrideNotKnownModel___figure____I_ := hts (.fieldLink RX8 16 "BrideNotKnownModel" "figure" "[I") (List.mem_of_getElem? (i := 4) rfl)
  have hk_fieldLink_RX8_19__BrideNotKnownModel___foot____I_ := hts (.fieldLink RX8 19 "BrideNotKnownModel" "foot" "[I") (List.mem_of_getElem? (i := 5) rfl)
  have hk_fieldLink_RX8_22__BrideNotKnownModel___state____I_ := hts (.fieldLink RX8 22 "BrideNotKnownModel" "state" "[I") (List.mem_of_getElem? (i := 6) rfl)
  have hk_fieldLink_RX8_25__BrideNotKnownModel___sent____I_ := hts (.fieldLink RX8 25 "BrideNotKnownModel" "sent" "[I") (List.mem_of_getElem? (i := 7) rfl)
  have hk_fieldLink_RX8_28__BrideNotKnownModel___looks____I_ := hts (.fieldLink RX8 28 "BrideNotKnownModel" "looks" "[I") (List.mem_of_getElem? (i := 8) rfl)
  have hk_fieldLink_RX8_31__BrideNotKnownModel___mind____I_ := hts (.fieldLink RX8 31 "BrideNotKnownModel" "mind" "[I") (List.mem_of_getElem? (i := 9) rfl)
  have hk_fieldLink_RX8_34__BrideNotKnownModel___liquor____I_ := hts (.fieldLink RX8 34 "BrideNotKnownModel" "liquor" "[I") (List.mem_of_getElem? (i := 10) rfl)
  have hk_fieldLink_RX8_37__BrideNotKnownModel___married____I_ := hts (.fieldLink RX8 37 "BrideNotKnownModel" "married" "[I") (List.mem_of_getElem? (i := 11) rfl)
  have hk_fieldLink_RX8_66__BrideNotKnownModel___brides___I_ := hts (.fieldLink RX8 66 "BrideNotKnownModel" "brides" "I") (List.mem_of_getElem? (i := 12) rfl)
  have hk_fieldLink_RX8_76__BrideNotKnownModel___grooms___I_ := hts (.fieldLink RX8 76 "BrideNotKnownModel" "grooms" "I") (List.mem_of_getElem? (i := 13) rfl)
  have hk_fieldLink_RX8_117__BrideNotKnownModel___year___I_ := hts (.fieldLink RX8 117 "BrideNotKnownModel" "year" "I") (List.mem_of_getElem? (i := 14) rfl)
  rw [f_X8_passesAll] at hf
  refine lv_aload_n hx hb dX8_passesAll_0 rfl (lv_at hl 0 rfl) ?_
  refine lv_bipush (v := (63 : Int32)) hx hb dX8_passesAll_1 (by decide) ?_
  refine lv_iload_n hx hb dX8_passesAll_3 rfl (lv_at hl 1 rfl) ?_
  refine lv_imul hx hb dX8_passesAll_4 ?_
  refine fc_put (Wa' := (mW G a (sA v 23 (upd (v 23) 8 ((63 : Int32) * x1))))) (ci := 5) (C := RX8) (T := TX8) (N := 29) hx hb hwX8 tyX8 tyX8_ok nmX8 hown hE hP hD hS 0 (mW_o G a v) rfl 23 (by decide) hk_fieldLink_RX8_160__BrideNotKnownModel___cursor___I_ (fun _ h => h) rfl rfl rfl (Nat.le_of_ble_eq_true rfl) dX8_passesAll_5 (mW_p23 G a v ((63 : Int32) * x1)) (fun H locs hP hD hS => ?_)
  refine lv_aload_n hx hb dX8_passesAll_8 rfl (lv_at hl 0 rfl) ?_
  refine lv_iload_n hx hb dX8_passesAll_9 rfl (lv_at hl 2 rfl) ?_
  obtain ⟨c1574, hf⟩ := gd_some hf
  refine fc_put (Wa' := (mW G a (sA (sA v 23 (upd (v 23) 8 ((63 : Int32) * x1))) 23 (upd (upd (v 23) 8 ((63 : Int32) * x1)) 7 x2)))) (ci := 5) (C := RX8) (T := TX8) (N := 29) hx hb hwX8 tyX8 tyX8_ok nmX8 hown hE hP hD hS 0 (mW_o G a (sA v 23 (upd (v 23) 8 ((63 : Int32) * x1)))) rfl 22 (by decide) hk_fieldLink_RX8_156__BrideNotKnownModel___isKeeping___Z_ (fun _ h => h) rfl (isZ_nar c1574).1 (isZ_nar c1574).2 (Nat.le_of_ble_eq_true rfl) dX8_passesAll_10 (mW_p22 G a (sA v 23 (upd (v 23) 8 ((63 : Int32) * x1))) x2) (fun H locs hP hD hS => ?_)
  refine lv_aload_n hx hb dX8_passesAll_13 rfl (lv_at hl 0 rfl) ?_
  refine lv_aload_n hx hb dX8_passesAll_14 rfl (lv_at hl 0 rfl) ?_
  refine fc_get (v := .ref (a 2)) (ci := 5) (C := RX8) (T := TX8) (N := 29) hx hb hwX8 hown hE hP 0 (mW_o G a (sA (sA v 23 (upd (v 23) 8 ((63 : Int32) * x1))) 23 (upd (upd (v 23) 8 ((63 : Int32) * x1)) 7 x2))) rfl 1 (by decide) hk_fieldLink_RX8_13__BrideNotKnownModel___kind____I_ (fun _ h => h) rfl dX8_passesAll_15 ?_
  obtain ⟨q1575, hq1575, hf⟩ := bnd hf
  refine fc_callV (Wa' := (mW G a q1575)) (st1 := []) (As := [.ref (a 2)]) (rest := []) hCF (k_X8_passes a (sA (sA v 23 (upd (v 23) 8 ((63 : Int32) * x1))) 23 (upd (upd (v 23) 8 ((63 : Int32) * x1)) 7 x2)) 1 hq1575 (by decide)) (cwV 1 hts gX8_passesAll_X8_passes rfl rfl rfl ⟨rfl, dk_X8_passes⟩ ⟨Nat.le_of_ble_eq_true rfl, Nat.le_of_ble_eq_true rfl⟩) hE hAB hP hD hS [0, 1, 2, 3, 4, 5, 6, 7, 8, 9, 10, 11, 12, 13, 14, 15, 16, 17, 18, 19, 20, 21, 22, 23, 24] mW_d (mW_c G a (sA (sA v 23 (upd (v 23) 8 ((63 : Int32) * x1))) 23 (upd (upd (v 23) 8 ((63 : Int32) * x1)) 7 x2))) (va_recv hE.1 hP (ci := 5) (q0 := 0) rfl (mW_o G a (sA (sA v 23 (upd (v 23) 8 ((63 : Int32) * x1))) 23 (upd (upd (v 23) 8 ((63 : Int32) * x1)) 7 x2)))) (mW_f G a (sA (sA v 23 (upd (v 23) 8 ((63 : Int32) * x1))) 23 (upd (upd (v 23) 8 ((63 : Int32) * x1)) 7 x2)) q1575) (mW_s G a (sA (sA v 23 (upd (v 23) 8 ((63 : Int32) * x1))) 23 (upd (upd (v 23) 8 ((63 : Int32) * x1)) 7 x2)) q1575) rfl rfl hl.1 rfl (Nat.le_of_ble_eq_true rfl) dX8_passesAll_18 ⟨Nat.le_refl _, Nat.le_refl _⟩ (fun H locs hP hD hS => ?_)
  refine lv_aload_n hx hb dX8_passesAll_21 rfl (lv_at hl 0 rfl) ?_
  refine lv_aload_n hx hb dX8_passesAll_22 rfl (lv_at hl 0 rfl) ?_
  refine fc_get (v := .ref (a 3)) (ci := 5) (C := RX8) (T := TX8) (N := 29) hx hb hwX8 hown hE hP 0 (mW_o G a q1575) rfl 2 (by decide) hk_fieldLink_RX8_16__BrideNotKnownModel___figure____I_ (fun _ h => h) rfl dX8_passesAll_23 ?_
  obtain ⟨q1576, hq1576, hf⟩ := bnd hf
  refine fc_callV (Wa' := (mW G a q1576)) (st1 := []) (As := [.ref (a 3)]) (rest := []) hCF (k_X8_passes a q1575 2 hq1576 (by decide)) (cwV 1 hts gX8_passesAll_X8_passes rfl rfl rfl ⟨rfl, dk_X8_passes⟩ ⟨Nat.le_of_ble_eq_true rfl, Nat.le_of_ble_eq_true rfl⟩) hE hAB hP hD hS [0, 1, 2, 3, 4, 5, 6, 7, 8, 9, 10, 11, 12, 13, 14, 15, 16, 17, 18, 19, 20, 21, 22, 23, 24] mW_d (mW_c G a q1575) (va_recv hE.1 hP (ci := 5) (q0 := 0) rfl (mW_o G a q1575)) (mW_f G a q1575 q1576) (mW_s G a q1575 q1576) rfl rfl hl.1 rfl (Nat.le_of_ble_eq_true rfl) dX8_passesAll_26 ⟨Nat.le_refl _, Nat.le_refl _⟩ (fun H locs hP hD hS => ?_)
  refine lv_aload_n hx hb dX8_passesAll_29 rfl (lv_at hl 0 rfl) ?_
  refine lv_aload_n hx hb dX8_passesAll_30 rfl (lv_at hl 0 rfl) ?_
  refine fc_get (v := .ref (a 4)) (ci := 5) (C := RX8) (T := TX8) (N := 29) hx hb hwX8 hown hE hP 0 (mW_o G a q1576) rfl 3 (by decide) hk_fieldLink_RX8_19__BrideNotKnownModel___foot____I_ (fun _ h => h) rfl dX8_passesAll_31 ?_
  obtain ⟨q1577, hq1577, hf⟩ := bnd hf
  refine fc_callV (Wa' := (mW G a q1577)) (st1 := []) (As := [.ref (a 4)]) (rest := []) hCF (k_X8_passes a q1576 3 hq1577 (by decide)) (cwV 1 hts gX8_passesAll_X8_passes rfl rfl rfl ⟨rfl, dk_X8_passes⟩ ⟨Nat.le_of_ble_eq_true rfl, Nat.le_of_ble_eq_true rfl⟩) hE hAB hP hD hS [0, 1, 2, 3, 4, 5, 6, 7, 8, 9, 10, 11, 12, 13, 14, 15, 16, 17, 18, 19, 20, 21, 22, 23, 24] mW_d (mW_c G a q1576) (va_recv hE.1 hP (ci := 5) (q0 := 0) rfl (mW_o G a q1576)) (mW_f G a q1576 q1577) (mW_s G a q1576 q1577) rfl rfl hl.1 rfl (Nat.le_of_ble_eq_true rfl) dX8_passesAll_34 ⟨Nat.le_refl _, Nat.le_refl _⟩ (fun H locs hP hD hS => ?_)
  refine lv_aload_n hx hb dX8_passesAll_37 rfl (lv_at hl 0 rfl) ?_
  refine lv_aload_n hx hb dX8_passesAll_38 rfl (lv_at hl 0 rfl) ?_
  refine fc_get (v := .ref (a 5)) (ci := 5) (C := RX8) (T := TX8) (N := 29) hx hb hwX8 hown hE hP 0 (mW_o G a q1577) rfl 4 (by decide) hk_fieldLink_RX8_22__BrideNotKnownModel___state____I_ (fun _ h => h) rfl dX8_passesAll_39 ?_
  obtain ⟨q1578, hq1578, hf⟩ := bnd hf
  refine fc_callV (Wa' := (mW G a q1578)) (st1 := []) (As := [.ref (a 5)]) (rest := []) hCF (k_X8_passes a q1577 4 hq1578 (by decide)) (cwV 1 hts gX8_passesAll_X8_passes rfl rfl rfl ⟨rfl, dk_X8_passes⟩ ⟨Nat.le_of_ble_eq_true rfl, Nat.le_of_ble_eq_true rfl⟩) hE hAB hP hD hS [0, 1, 2, 3, 4, 5, 6, 7, 8, 9, 10, 11, 12, 13, 14, 15, 16, 17, 18, 19, 20, 21, 22, 23, 24] mW_d (mW_c G a q1577) (va_recv hE.1 hP (ci := 5) (q0 := 0) rfl (mW_o G a q1577)) (mW_f G a q1577 q1578) (mW_s G a q1577 q1578) rfl rfl hl.1 rfl (Nat.le_of_ble_eq_true rfl) dX8_passesAll_42 ⟨Nat.le_refl _, Nat.le_refl _⟩ (fun H locs hP hD hS => ?_)
  refine lv_aload_n hx hb dX8_passesAll_45 rfl (lv_at hl 0 rfl) ?_
  refine lv_aload_n hx hb dX8_passesAll_46 rfl (lv_at hl 0 rfl) ?_
  refine fc_get (v := .ref (a 6)) (ci := 5) (C := RX8) (T := TX8) (N := 29) hx hb hwX8 hown hE hP 0 (mW_o G a q1578) rfl 5 (by decide) hk_fieldLink_RX8_25__BrideNotKnownModel___sent____I_ (fun _ h => h) rfl dX8_passesAll_47 ?_
  obtain ⟨q1579, hq1579, hf⟩ := bnd hf
  refine fc_callV (Wa' := (mW G a q1579)) (st1 := []) (As := [.ref (a 6)]) (rest := []) hCF (k_X8_passes a q1578 5 hq1579 (by decide)) (cwV 1 hts gX8_passesAll_X8_passes rfl rfl rfl ⟨rfl, dk_X8_passes⟩ ⟨Nat.le_of_ble_eq_true rfl, Nat.le_of_ble_eq_true rfl⟩) hE hAB hP hD hS [0, 1, 2, 3, 4, 5, 6, 7, 8, 9, 10, 11, 12, 13, 14, 15, 16, 17, 18, 19, 20, 21, 22, 23, 24] mW_d (mW_c G a q1578) (va_recv hE.1 hP (ci := 5) (q0 := 0) rfl (mW_o G a q1578)) (mW_f G a q1578 q1579) (mW_s G a q1578 q1579) rfl rfl hl.1 rfl (Nat.le_of_ble_eq_true rfl) dX8_passesAll_50 ⟨Nat.le_refl _, Nat.le_refl _⟩ (fun H locs hP hD hS => ?_)
  refine lv_aload_n hx hb dX8_passesAll_53 rfl (lv_at hl 0 rfl) ?_
  refine lv_aload_n hx hb dX8_passesAll_54 rfl (lv_at hl 0 rfl) ?_
  refine fc_get (v := .ref (a 7)) (ci := 5) (C := RX8) (T := TX8) (N := 29) hx hb hwX8 hown hE hP 0 (mW_o G a q1579) rfl 6 (by decide) hk_fieldLink_RX8_28__BrideNotKnownModel___looks____I_ (fun _ h => h) rfl dX8_passesAll_55 ?_
  obtain ⟨q1580, hq1580, hf⟩ := bnd hf
  refine fc_callV (Wa' := (mW G a q1580)) (st1 := []) (As := [.ref (a 7)]) (rest := []) hCF (k_X8_passes a q1579 6 hq1580 (by decide)) (cwV 1 hts gX8_passesAll_X8_passes rfl rfl rfl ⟨rfl, dk_X8_passes⟩ ⟨Nat.le_of_ble_eq_true rfl, Nat.le_of_ble_eq_true rfl⟩) hE hAB hP hD hS [0, 1, 2, 3, 4, 5, 6, 7, 8, 9, 10, 11, 12, 13, 14, 15, 16, 17, 18, 19, 20, 21, 22, 23, 24] mW_d (mW_c G a q1579) (va_recv hE.1 hP (ci := 5) (q0 := 0) rfl (mW_o G a q1579)) (mW_f G a q1579 q1580) (mW_s G a q1579 q1580) rfl rfl hl.1 rfl (Nat.le_of_ble_eq_true rfl) dX8_passesAll_58 ⟨Nat.le_refl _, Nat.le_refl _⟩ (fun H locs hP hD hS => ?_)
  refine lv_aload_n hx hb dX8_passesAll_61 rfl (lv_at hl 0 rfl) ?_
  refine lv_aload_n hx hb dX8_passesAll_62 rfl (lv_at hl 0 rfl) ?_
  refine fc_get (v := .ref (a 8)) (ci := 5) (C := RX8) (T := TX8) (N := 29) hx hb hwX8 hown hE hP 0 (mW_o G a q1580) rfl 7 (by decide) hk_fieldLink_RX8_31__BrideNotKnownModel___mind____I_ (fun _ h => h) rfl dX8_passesAll_63 ?_
  obtain ⟨q1581, hq1581, hf⟩ := bnd hf
  refine fc_callV (Wa' := (mW G a q1581)) (st1 := []) (As := [.ref (a 8)]) (rest := []) hCF (k_X8_passes a q1580 7 hq1581 (by decide)) (cwV 1 hts gX8_passesAll_X8_passes rfl rfl rfl ⟨rfl, dk_X8_passes⟩ ⟨Nat.le_of_ble_eq_true rfl, Nat.le_of_ble_eq_true rfl⟩) hE hAB hP hD hS [0, 1, 2, 3, 4, 5, 6, 7, 8, 9, 10, 11, 12, 13, 14, 15, 16, 17, 18, 19, 20, 21, 22, 23, 24] mW_d (mW_c G a q1580) (va_recv hE.1 hP (ci := 5) (q0 := 0) rfl (mW_o G a q1580)) (mW_f G a q1580 q1581) (mW_s G a q1580 q1581) rfl rfl hl.1 rfl (Nat.le_of_ble_eq_true rfl) dX8_passesAll_66 ⟨Nat.le_refl _, Nat.le_refl _⟩ (fun H locs hP hD hS => ?_)
  refine lv_aload_n hx hb dX8_passesAll_69 rfl (lv_at hl 0 rfl) ?_
  refine lv_aload_n hx hb dX8_passesAll_70 rfl (lv_at hl 0 rfl) ?_
  refine fc_get (v := .ref (a 9)) (ci := 5) (C := RX8) (T := TX8) (N := 29) hx hb hwX8 hown hE hP 0 (mW_o G a q1581) rfl 8 (by decide) hk_fieldLink_RX8_34__BrideNotKnownModel___liquor____I_ (fun _ h => h) rfl dX8_passesAll_71 ?_
  obtain ⟨q1582, hq1582, hf⟩ := bnd hf
  refine fc_callV (Wa' := (mW G a q1582)) (st1 := []) (As := [.ref (a 9)]) (rest := []) hCF (k_X8_passes a q1581 8 hq1582 (by decide)) (cwV 1 hts gX8_passesAll_X8_passes rfl rfl rfl ⟨rfl, dk_X8_passes⟩ ⟨Nat.le_of_ble_eq_true rfl, Nat.le_of_ble_eq_true rfl⟩) hE hAB hP hD hS [0, 1, 2, 3, 4, 5, 6, 7, 8, 9, 10, 11, 12, 13, 14, 15, 16, 17, 18, 19, 20, 21, 22, 23, 24] mW_d (mW_c G a q1581) (va_recv hE.1 hP (ci := 5) (q0 := 0) rfl (mW_o G a q1581)) (mW_f G a q1581 q1582) (mW_s G a q1581 q1582) rfl rfl hl.1 rfl (Nat.le_of_ble_eq_true rfl) dX8_passesAll_74 ⟨Nat.le_refl _, Nat.le_refl _⟩ (fun H locs hP hD hS => ?_)
  refine lv_aload_n hx hb dX8_passesAll_77 rfl (lv_at hl 0 rfl) ?_
  refine lv_aload_n hx hb dX8_passesAll_78 rfl (lv_at hl 0 rfl) ?_
  refine fc_get (v := .ref (a 10)) (ci := 5) (C := RX8) (T := TX8) (N := 29) hx hb hwX8 hown hE hP 0 (mW_o G a q1582) rfl 9 (by decide) hk_fieldLink_RX8_37__BrideNotKnownModel___married____I_ (fun _ h => h) rfl dX8_passesAll_79 ?_
  obtain ⟨q1583, hq1583, hf⟩ := bnd hf
  refine fc_callV (Wa' := (mW G a q1583)) (st1 := []) (As := [.ref (a 10)]) (rest := []) hCF (k_X8_passes a q1582 9 hq1583 (by decide)) (cwV 1 hts gX8_passesAll_X8_passes rfl rfl rfl ⟨rfl, dk_X8_passes⟩ ⟨Nat.le_of_ble_eq_true rfl, Nat.le_of_ble_eq_true rfl⟩) hE hAB hP hD hS [0, 1, 2, 3, 4, 5, 6, 7, 8, 9, 10, 11, 12, 13, 14, 15, 16, 17, 18, 19, 20, 21, 22, 23, 24] mW_d (mW_c G a q1582) (va_recv hE.1 hP (ci := 5) (q0 := 0) rfl (mW_o G a q1582)) (mW_f G a q1582 q1583) (mW_s G a q1582 q1583) rfl rfl hl.1 rfl (Nat.le_of_ble_eq_true rfl) dX8_passesAll_82 ⟨Nat.le_refl _, Nat.le_refl _⟩ (fun H locs hP hD hS => ?_)
  refine lv_aload_n hx hb dX8_passesAll_85 rfl (lv_at hl 0 rfl) ?_
  refine lv_aload_n hx hb dX8_passesAll_86 rfl (lv_at hl 0 rfl) ?_
  refine lv_aload_n hx hb dX8_passesAll_87 rfl (lv_at hl 0 rfl) ?_
  refine fc_get (v := .int (q1583 23 0)) (ci := 5) (C := RX8) (T := TX8) (N := 29) hx hb hwX8 hown hE hP 0 (mW_o G a q1583) rfl 10 (by decide) hk_fieldLink_RX8_66__BrideNotKnownModel___brides___I_ (fun _ h => h) rfl dX8_passesAll_88 ?_
  obtain ⟨q1584, hq1584, hf⟩ := bnd hf
  refine fc_callV (Wa' := (mW G a q1584.2)) (st1 := [.int q1584.1, .ref (a 0)]) (As := [.int (q1583 23 0)]) (rest := [.ref (a 0)]) hCF (k_X8_passOne a q1583 (q1583 23 0) hq1584) (cwV 1 hts gX8_passesAll_X8_passOne rfl rfl rfl ⟨rfl, dk_X8_passOne⟩ ⟨Nat.le_of_ble_eq_true rfl, Nat.le_of_ble_eq_true rfl⟩) hE hAB hP hD hS [0, 1, 2, 3, 4, 5, 6, 7, 8, 9, 10, 11, 12, 13, 14, 15, 16, 17, 18, 19, 20, 21, 22, 23, 24] mW_d (mW_c G a q1583) (va_recv hE.1 hP (ci := 5) (q0 := 0) rfl (mW_o G a q1583)) (mW_f G a q1583 q1584.2) (mW_s G a q1583 q1584.2) rfl rfl hl.1 rfl (Nat.le_of_ble_eq_true rfl) dX8_passesAll_91 ⟨Nat.le_refl _, Nat.le_refl _⟩ (fun H locs hP hD hS => ?_)
  refine fc_put (Wa' := (mW G a (sA q1584.2 23 (upd (q1584.2 23) 0 q1584.1)))) (ci := 5) (C := RX8) (T := TX8) (N := 29) hx hb hwX8 tyX8 tyX8_ok nmX8 hown hE hP hD hS 0 (mW_o G a q1584.2) rfl 10 (by decide) hk_fieldLink_RX8_66__BrideNotKnownModel___brides___I_ (fun _ h => h) rfl rfl rfl (Nat.le_of_ble_eq_true rfl) dX8_passesAll_94 (mW_p10 G a q1584.2 q1584.1) (fun H locs hP hD hS => ?_)
  refine lv_aload_n hx hb dX8_passesAll_97 rfl (lv_at hl 0 rfl) ?_
  refine lv_aload_n hx hb dX8_passesAll_98 rfl (lv_at hl 0 rfl) ?_
  refine lv_aload_n hx hb dX8_passesAll_99 rfl (lv_at hl 0 rfl) ?_
  refine fc_get (v := .int (q1584.2 23 1)) (ci := 5) (C := RX8) (T := TX8) (N := 29) hx hb hwX8 hown hE hP 0 (mW_o G a (sA q1584.2 23 (upd (q1584.2 23) 0 q1584.1))) rfl 11 (by decide) hk_fieldLink_RX8_76__BrideNotKnownModel___grooms___I_ (fun _ h => h) rfl dX8_passesAll_100 ?_
  obtain ⟨q1585, hq1585, hf⟩ := bnd hf
  refine fc_callV (Wa' := (mW G a q1585.2)) (st1 := [.int q1585.1, .ref (a 0)]) (As := [.int (q1584.2 23 1)]) (rest := [.ref (a 0)]) hCF (k_X8_passOne a (sA q1584.2 23 (upd (q1584.2 23) 0 q1584.1)) (q1584.2 23 1) hq1585) (cwV 1 hts gX8_passesAll_X8_passOne rfl rfl rfl ⟨rfl, dk_X8_passOne⟩ ⟨Nat.le_of_ble_eq_true rfl, Nat.le_of_ble_eq_true rfl⟩) hE hAB hP hD hS [0, 1, 2, 3, 4, 5, 6, 7, 8, 9, 10, 11, 12, 13, 14, 15, 16, 17, 18, 19, 20, 21, 22, 23, 24] mW_d (mW_c G a (sA q1584.2 23 (upd (q1584.2 23) 0 q1584.1))) (va_recv hE.1 hP (ci := 5) (q0 := 0) rfl (mW_o G a (sA q1584.2 23 (upd (q1584.2 23) 0 q1584.1)))) (mW_f G a (sA q1584.2 23 (upd (q1584.2 23) 0 q1584.1)) q1585.2) (mW_s G a (sA q1584.2 23 (upd (q1584.2 23) 0 q1584.1)) q1585.2) rfl rfl hl.1 rfl (Nat.le_of_ble_eq_true rfl) dX8_passesAll_103 ⟨Nat.le_refl _, Nat.le_refl _⟩ (fun H locs hP hD hS => ?_)
  refine fc_put (Wa' := (mW G a (sA q1585.2 23 (upd (q1585.2 23) 1 q1585.1)))) (ci := 5) (C := RX8) (T := TX8) (N := 29) hx hb hwX8 tyX8 tyX8_ok nmX8 hown hE hP hD hS 0 (mW_o G a q1585.2) rfl 11 (by decide) hk_fieldLink_RX8_76__BrideNotKnownModel___grooms___I_ (fun _ h => h) rfl rfl rfl (Nat.le_of_ble_eq_true rfl) dX8_passesAll_106 (mW_p11 G a q1585.2 q1585.1) (fun H locs hP hD hS => ?_)
  refine lv_aload_n hx hb dX8_passesAll_109 rfl (lv_at hl 0 rfl) ?_
  refine lv_aload_n hx hb dX8_passesAll_110 rfl (lv_at hl 0 rfl) ?_
  refine lv_aload_n hx hb dX8_passesAll_111 rfl (lv_at hl 0 rfl) ?_
  refine fc_get (v := .int (q1585.2 23 2)) (ci := 5) (C := RX8) (T := TX8) (N := 29) hx hb hwX8 hown hE hP 0 (mW_o G a (sA q1585.2 23 (upd (q1585.2 23) 1 q1585.1))) rfl 12 (by decide) hk_fieldLink_RX8_117__BrideNotKnownModel___year___I_ (fun _ h => h) rfl dX8_passesAll_112 ?_
  obtain ⟨q1586, hq1586, hf⟩ := bnd hf
  refine fc_callV (Wa' := (mW G a q1586.2)) (st1 := [.int q1586.1, .ref (a 0)]) (As := [.int (q1585.2 23 2)]) (rest := [.ref (a 0)]) hCF (k_X8_passOne a (sA q1585.2 23 (upd (q1585.2 23) 1 q1585.1)) (q1585.2 23 2) hq1586) (cwV 1 hts gX8_passesAll_X8_passOne rfl rfl rfl ⟨rfl, dk_X8_passOne⟩ ⟨Nat.le_of_ble_eq_true rfl, Nat.le_of_ble_eq_true rfl⟩) hE hAB hP hD hS [0, 1, 2, 3, 4, 5, 6, 7, 8, 9, 10, 11, 12, 13, 14, 15, 16, 17, 18, 19, 20, 21, 22, 23, 24] mW_d (mW_c G a (sA q1585.2 23 (upd (q1585.2 23) 1 q1585.1))) (va_recv hE.1 hP (ci := 5) (q0 := 0) rfl (mW_o G a (sA q1585.2 23 (upd (q1585.2 23) 1 q1585.1)))) (mW_f G a (sA q1585.2 23 (upd (q1585.2 23) 1 q1585.1)) q1586.2) (mW_s G a (sA q1585.2 23 (upd (q1585.2 23) 1 q1585.1)) q1586.2) rfl rfl hl.1 rfl (Nat.le_of_ble_eq_true rfl) dX8_passesAll_115 ⟨Nat.le_refl _, Nat.le_refl _⟩ (fun H locs hP hD hS => ?_)
  refine fc_put (Wa' := (mW G a (sA q1586.2 23 (upd (q1586.2 23) 2 q1586.1)))) (ci := 5) (C := RX8) (T := TX8) (N := 29) hx hb hwX8 tyX8 tyX8_ok nmX8 hown hE hP hD hS 0 (mW_o G a q1586.2) rfl 12 (by decide) hk_fieldLink_RX8_117__BrideNotKnownModel___year___I_ (fun _ h => h) rfl rfl rfl (Nat.le_of_ble_eq_true rfl) dX8_passesAll_118 (mW_p12 G a q1586.2 q1586.1) (fun H locs hP hD hS => ?_)
  exact fc_retv hx hb hr hlocks hP hS dX8_passesAll_121 (congrArg (fun z => (mW G a z)) (i1 hf))
theorem dk_X8_thinks : yX8_thinks.cls ≠ "java/lang/invoke/MethodHandle" ∧ yX8_thinks.cls ≠ "java/lang/invoke/VarHandle" ∧ (parseMethodDescriptor yX8_thinks.desc).map (fun d => d.parameters.length) = some 0 := by decide +kernel
set_option maxHeartbeats 4000000 in
set_option maxRecDepth 100000 in
theorem k_X8_thinks {l : Launch} {G : Gx} (a : Nat → Nat) (v : St) {v' : St} (hf : f_X8_thinks v = some v') : FC l G yX8_thinks wsX8_thinks ({ frames := 2, cells := 0, slots := 0, locals := 44 } : Room) [.ref (a 0)] (mW G a v) (mW G a v') none := by
  refine fc_head (cc := cX8_thinks) (maxL := 1) (ret := none) (C := RX8) (lv := [(0, .ref (a 0))]) (by decide) rfl rfl (Nat.le_of_ble_eq_true rfl) rfl ?_
  intro p e s m below meth c ls A hx hb hr hml hown hts hlocks hE hP hD hAB hS hl
  have hCF : CallFix p m c cX8_thinks 1 s ([.ref (a 0)] : List Value).toArray wsX8_thinks RX8 := ⟨hx, hb, hml, hown, hts⟩
  rw [f_X8_thinks] at hf
  refine lv_aload_n hx hb dX8_thinks_0 rfl (lv_at hl 0 rfl) ?_
  refine lv_iconst (v := (2 : Int32)) hx hb dX8_thinks_1 (by decide) ?_
  refine lv_iconst (v := (1 : Int32)) hx hb dX8_thinks_2 (by decide) ?_
  obtain ⟨q1588, hq1588, hf⟩ := bnd hf
  refine fc_callV (Wa' := (mW G a q1588)) (st1 := []) (As := [.int (2 : Int32), .int (1 : Int32)]) (rest := []) hCF (k_X8_passesAll a v (2 : Int32) (1 : Int32) hq1588) (cwV 2 hts gX8_thinks_X8_passesAll rfl rfl rfl ⟨rfl, dk_X8_passesAll⟩ ⟨Nat.le_of_ble_eq_true rfl, Nat.le_of_ble_eq_true rfl⟩) hE hAB hP hD hS [0, 1, 2, 3, 4, 5, 6, 7, 8, 9, 10, 11, 12, 13, 14, 15, 16, 17, 18, 19, 20, 21, 22, 23, 24] mW_d (mW_c G a v) (va_recv hE.1 hP (ci := 5) (q0 := 0) rfl (mW_o G a v)) (mW_f G a v q1588) (mW_s G a v q1588) rfl rfl hl.1 rfl (Nat.le_of_ble_eq_true rfl) dX8_thinks_3 ⟨Nat.le_refl _, Nat.le_refl _⟩ (fun H locs hP hD hS => ?_)
  exact fc_retv hx hb hr hlocks hP hS dX8_thinks_6 (congrArg (fun z => (mW G a z)) (i1 hf))
theorem dk_X8_goesYear : yX8_goesYear.cls ≠ "java/lang/invoke/MethodHandle" ∧ yX8_goesYear.cls ≠ "java/lang/invoke/VarHandle" ∧ (parseMethodDescriptor yX8_goesYear.desc).map (fun d => d.parameters.length) = some 0 := by decide +kernel
theorem iu_X8_goesYear_X8 : ∀ w ∈ u_ws RX8 TX8 29, w ∈ wsX8_goesYear := by decide +kernel
set_option maxHeartbeats 4000000 in
set_option maxRecDepth 100000 in
theorem k_X8_goesYear {l : Launch} {G : Gx} (a : Nat → Nat) (v : St) {v' : St} (hf : f_X8_goesYear v = some v') : FC l G yX8_goesYear wsX8_goesYear ({ frames := 0, cells := 0, slots := 0, locals := 0 } : Room) [.ref (a 0)] (mW G a v) (mW G a v') none := by
  refine fc_head (cc := cX8_goesYear) (maxL := 2) (ret := none) (C := RX8) (lv := [(0, .ref (a 0))]) (by decide) rfl rfl (Nat.le_of_ble_eq_true rfl) rfl ?_
  intro p e s m below meth c ls A hx hb hr hml hown hts hlocks hE hP hD hAB hS hl
  have hCF : CallFix p m c cX8_goesYear 2 s ([.ref (a 0)] : List Value).toArray wsX8_goesYear RX8 := ⟨hx, hb, hml, hown, hts⟩
  have hwX8 : ∀ w ∈ u_ws RX8 TX8 29, w.before ([.ref (a 0)] : List Value).toArray s = true := fun w h => hts w (iu_X8_goesYear_X8 w h)
  have hk_fieldLink_RX8_117__BrideNotKnownModel___year___I_ := hts (.fieldLink RX8 117 "BrideNotKnownModel" "year" "I") (List.mem_of_getElem? (i := 1) rfl)
  have hk_fieldLink_RX8_66__BrideNotKnownModel___brides___I_ := hts (.fieldLink RX8 66 "BrideNotKnownModel" "brides" "I") (List.mem_of_getElem? (i := 2) rfl)
  have hk_fieldLink_RX8_22__BrideNotKnownModel___state____I_ := hts (.fieldLink RX8 22 "BrideNotKnownModel" "state" "[I") (List.mem_of_getElem? (i := 3) rfl)
  have hk_fieldLink_RX8_25__BrideNotKnownModel___sent____I_ := hts (.fieldLink RX8 25 "BrideNotKnownModel" "sent" "[I") (List.mem_of_getElem? (i := 4) rfl)
  have hk_fieldLink_RX8_76__BrideNotKnownModel___grooms___I_ := hts (.fieldLink RX8 76 "BrideNotKnownModel" "grooms" "I") (List.mem_of_getElem? (i := 5) rfl)
  have hk_fieldLink_RX8_34__BrideNotKnownModel___liquor____I_ := hts (.fieldLink RX8 34 "BrideNotKnownModel" "liquor" "[I") (List.mem_of_getElem? (i := 6) rfl)
  rw [f_X8_goesYear] at hf
  refine lv_aload_n hx hb dX8_goesYear_0 rfl (lv_at hl 0 rfl) ?_
  refine lv_dup hx hb dX8_goesYear_1 rfl ?_
  refine fc_get (v := .int (v 23 2)) (ci := 5) (C := RX8) (T := TX8) (N := 29) hx hb hwX8 hown hE hP 0 (mW_o G a v) rfl 12 (by decide) hk_fieldLink_RX8_117__BrideNotKnownModel___year___I_ (fun _ h => h) rfl dX8_goesYear_2 ?_
  refine lv_iconst (v := (1 : Int32)) hx hb dX8_goesYear_5 (by decide) ?_
  refine lv_iadd hx hb dX8_goesYear_6 ?_
  refine fc_put (Wa' := (mW G a (sA v 23 (upd (v 23) 2 ((v 23 2) + (1 : Int32)))))) (ci := 5) (C := RX8) (T := TX8) (N := 29) hx hb hwX8 tyX8 tyX8_ok nmX8 hown hE hP hD hS 0 (mW_o G a v) rfl 12 (by decide) hk_fieldLink_RX8_117__BrideNotKnownModel___year___I_ (fun _ h => h) rfl rfl rfl (Nat.le_of_ble_eq_true rfl) dX8_goesYear_7 (mW_p12 G a v ((v 23 2) + (1 : Int32))) (fun H locs hP hD hS => ?_)
  refine lv_iconst (v := (0 : Int32)) hx hb dX8_goesYear_10 (by decide) ?_
  refine lv_istore_n (lv' := [(1, .int (0 : Int32)), (0, .ref (a 0))]) hx hb dX8_goesYear_11 rfl hl (by decide) rfl (fun ls hl => ?_)
  have L12_1592 : ∀ (K12_69 : St → Option (St)) (hK12_69 : ∀ (v_1593 : St) (H : Heap) (locs : List Loc) (ls : Array Slot), va_P (gD G) vwCl (mW G a v_1593) H → va_D A (mW G a v_1593) → va_S A s.heap H locs → lv_has ls 2 [(0, .ref (a 0))] → K12_69 v_1593 = some v' → W p l e (headSpec wsX8_goesYear ({ frames := 0, cells := 0, slots := 0, locals := 0 } : Room)).room s m ([.ref (a 0)] : List Value).toArray below meth c H locs 0 0 (MQ below (FQ G A (mW G a v') none) ([.ref (a 0)] : List Value).toArray s 0 0 A) (F0 m 69 ls [])) (n : Nat) (x1_1590 : Int32) (v_1591 : St) (H : Heap) (locs : List Loc) (ls : Array Slot), va_P (gD G) vwCl (mW G a v_1591) H → va_D A (mW G a v_1591) → va_S A s.heap H locs → lv_has ls 2 [(0, .ref (a 0)), (1, .int x1_1590)] → f_X8_goesYear_12 n x1_1590 v_1591 K12_69 = some v' → W p l e (headSpec wsX8_goesYear ({ frames := 0, cells := 0, slots := 0, locals := 0 } : Room)).room s m ([.ref (a 0)] : List Value).toArray below meth c H locs 0 0 (MQ below (FQ G A (mW G a v') none) ([.ref (a 0)] : List Value).toArray s 0 0 A) (F0 m 12 ls []) := by
    intro K12_69 hK12_69 n
    induction n with
    | zero =>
      intro x1_1590 v_1591 H locs ls hP hD hS hl hf
      exact no_some hf
    | succ n ih =>
      intro x1_1590 v_1591 H locs ls hP hD hS hl hf
      rw [f_X8_goesYear_12] at hf
      refine lv_iload_n hx hb dX8_goesYear_12 rfl (lv_at hl 1 rfl) ?_
      refine lv_aload_n hx hb dX8_goesYear_13 rfl (lv_at hl 0 rfl) ?_
      refine fc_get (v := .int (v_1591 23 0)) (ci := 5) (C := RX8) (T := TX8) (N := 29) hx hb hwX8 hown hE hP 0 (mW_o G a v_1591) rfl 10 (by decide) hk_fieldLink_RX8_66__BrideNotKnownModel___brides___I_ (fun _ h => h) rfl dX8_goesYear_14 ?_
      refine lv_icmp_ge (tgt := 69) hx hb dX8_goesYear_17 (by decide) (fun c1594 => ?_) (fun c1594 => ?_)
      · have hf := ifT hf c1594
        exact hK12_69 v_1591 _ _ _ hP hD hS (lv_sub hl [0] rfl) hf
      · have hf := ifF hf c1594
        refine lv_aload_n hx hb dX8_goesYear_20 rfl (lv_at hl 0 rfl) ?_
        refine fc_get (v := .ref (a 5)) (ci := 5) (C := RX8) (T := TX8) (N := 29) hx hb hwX8 hown hE hP 0 (mW_o G a v_1591) rfl 4 (by decide) hk_fieldLink_RX8_22__BrideNotKnownModel___state____I_ (fun _ h => h) rfl dX8_goesYear_21 ?_
        refine lv_iload_n hx hb dX8_goesYear_24 rfl (lv_at hl 1 rfl) ?_
        obtain ⟨c1595, hf⟩ := gd_some hf
        refine fc_iald (n := 8) (f := (v_1591 4)) hx hb hE hP 5 (mW_a5 G a v_1591) (inB_in c1595) dX8_goesYear_25 ?_
        refine lv_iconst (v := (1 : Int32)) hx hb dX8_goesYear_26 (by decide) ?_
        refine lv_icmp_eq (tgt := 33) hx hb dX8_goesYear_27 (by decide) (fun c1596 => ?_) (fun c1596 => ?_)
        · have hf := ifT hf c1596
          refine lv_aload_n hx hb dX8_goesYear_33 rfl (lv_at hl 0 rfl) ?_
          refine fc_get (v := .ref (a 6)) (ci := 5) (C := RX8) (T := TX8) (N := 29) hx hb hwX8 hown hE hP 0 (mW_o G a v_1591) rfl 5 (by decide) hk_fieldLink_RX8_25__BrideNotKnownModel___sent____I_ (fun _ h => h) rfl dX8_goesYear_34 ?_
          refine lv_iload_n hx hb dX8_goesYear_37 rfl (lv_at hl 1 rfl) ?_
          refine lv_dup2_11 hx hb dX8_goesYear_38 rfl rfl ?_
          obtain ⟨c1597, hf⟩ := gd_some hf
          refine fc_iald (n := 8) (f := (v_1591 5)) hx hb hE hP 6 (mW_a6 G a v_1591) (inB_in c1597) dX8_goesYear_39 ?_
          refine lv_iconst (v := (1 : Int32)) hx hb dX8_goesYear_40 (by decide) ?_
          refine lv_isub hx hb dX8_goesYear_41 ?_
          obtain ⟨c1598, hf⟩ := gd_some hf
          refine fc_iast (n := 8) (f := (v_1591 5)) (Wa' := (mW G a (sA v_1591 5 (upd (v_1591 5) x1_1590.toNatClampNeg (((v_1591 5) x1_1590.toNatClampNeg) - (1 : Int32)))))) hx hb hE hP hD hS 6 (mW_a6 G a v_1591) (inB_in c1598) dX8_goesYear_42 (mW_t6 G a v_1591 (upd (v_1591 5) x1_1590.toNatClampNeg (((v_1591 5) x1_1590.toNatClampNeg) - (1 : Int32)))) (fun H locs hP hD hS => ?_)
          refine lv_aload_n hx hb dX8_goesYear_43 rfl (lv_at hl 0 rfl) ?_
          refine fc_get (v := .ref (a 5)) (ci := 5) (C := RX8) (T := TX8) (N := 29) hx hb hwX8 hown hE hP 0 (mW_o G a (sA v_1591 5 (upd (v_1591 5) x1_1590.toNatClampNeg (((v_1591 5) x1_1590.toNatClampNeg) - (1 : Int32))))) rfl 4 (by decide) hk_fieldLink_RX8_22__BrideNotKnownModel___state____I_ (fun _ h => h) rfl dX8_goesYear_44 ?_
          refine lv_iload_n hx hb dX8_goesYear_47 rfl (lv_at hl 1 rfl) ?_
          refine lv_aload_n hx hb dX8_goesYear_48 rfl (lv_at hl 0 rfl) ?_
          refine fc_get (v := .ref (a 6)) (ci := 5) (C := RX8) (T := TX8) (N := 29) hx hb hwX8 hown hE hP 0 (mW_o G a (sA v_1591 5 (upd (v_1591 5) x1_1590.toNatClampNeg (((v_1591 5) x1_1590.toNatClampNeg) - (1 : Int32))))) rfl 5 (by decide) hk_fieldLink_RX8_25__BrideNotKnownModel___sent____I_ (fun _ h => h) rfl dX8_goesYear_49 ?_
          refine lv_iload_n hx hb dX8_goesYear_52 rfl (lv_at hl 1 rfl) ?_
          obtain ⟨c1599, hf⟩ := gd_some hf
          refine fc_iald (n := 8) (f := (upd (v_1591 5) x1_1590.toNatClampNeg (((v_1591 5) x1_1590.toNatClampNeg) - (1 : Int32)))) hx hb hE hP 6 (mW_a6 G a (sA v_1591 5 (upd (v_1591 5) x1_1590.toNatClampNeg (((v_1591 5) x1_1590.toNatClampNeg) - (1 : Int32))))) (inB_in c1599) dX8_goesYear_53 ?_
          refine lv_if_ne (tgt := 61) hx hb dX8_goesYear_54 (by decide) (fun c1600 => ?_) (fun c1600 => ?_)
          · have hf := ifF hf c1600
            refine lv_iconst (v := (1 : Int32)) hx hb dX8_goesYear_61 (by decide) ?_
            obtain ⟨c1601, hf⟩ := gd_some hf
            refine fc_iast (n := 8) (f := (v_1591 4)) (Wa' := (mW G a (sA (sA v_1591 5 (upd (v_1591 5) x1_1590.toNatClampNeg (((v_1591 5) x1_1590.toNatClampNeg) - (1 : Int32)))) 4 (upd (v_1591 4) x1_1590.toNatClampNeg (1 : Int32))))) hx hb hE hP hD hS 5 (mW_a5 G a (sA v_1591 5 (upd (v_1591 5) x1_1590.toNatClampNeg (((v_1591 5) x1_1590.toNatClampNeg) - (1 : Int32))))) (inB_in c1601) dX8_goesYear_62 (mW_t5 G a (sA v_1591 5 (upd (v_1591 5) x1_1590.toNatClampNeg (((v_1591 5) x1_1590.toNatClampNeg) - (1 : Int32)))) (upd (v_1591 4) x1_1590.toNatClampNeg (1 : Int32))) (fun H locs hP hD hS => ?_)
            refine lv_iinc (v := (x1_1590 + (1 : Int32))) (lv' := [(1, .int (x1_1590 + (1 : Int32))), (0, .ref (a 0))]) hx hb dX8_goesYear_63 hl (k := 1) rfl rfl (by decide) rfl (fun ls hl => ?_)
            refine lv_goto (tgt := 12) hx hb dX8_goesYear_66 (by decide) ?_
            exact ih (x1_1590 + (1 : Int32)) (sA (sA v_1591 5 (upd (v_1591 5) x1_1590.toNatClampNeg (((v_1591 5) x1_1590.toNatClampNeg) - (1 : Int32)))) 4 (upd (v_1591 4) x1_1590.toNatClampNeg (1 : Int32))) _ _ _ hP hD hS (lv_sub hl [1, 0] rfl) hf
          · have hf := ifT hf c1600
            refine lv_iconst (v := (0 : Int32)) hx hb dX8_goesYear_57 (by decide) ?_
            refine lv_goto (tgt := 62) hx hb dX8_goesYear_58 (by decide) ?_
            obtain ⟨c1602, hf⟩ := gd_some hf
            refine fc_iast (n := 8) (f := (v_1591 4)) (Wa' := (mW G a (sA (sA v_1591 5 (upd (v_1591 5) x1_1590.toNatClampNeg (((v_1591 5) x1_1590.toNatClampNeg) - (1 : Int32)))) 4 (upd (v_1591 4) x1_1590.toNatClampNeg (0 : Int32))))) hx hb hE hP hD hS 5 (mW_a5 G a (sA v_1591 5 (upd (v_1591 5) x1_1590.toNatClampNeg (((v_1591 5) x1_1590.toNatClampNeg) - (1 : Int32))))) (inB_in c1602) dX8_goesYear_62 (mW_t5 G a (sA v_1591 5 (upd (v_1591 5) x1_1590.toNatClampNeg (((v_1591 5) x1_1590.toNatClampNeg) - (1 : Int32)))) (upd (v_1591 4) x1_1590.toNatClampNeg (0 : Int32))) (fun H locs hP hD hS => ?_)
            refine lv_iinc (v := (x1_1590 + (1 : Int32))) (lv' := [(1, .int (x1_1590 + (1 : Int32))), (0, .ref (a 0))]) hx hb dX8_goesYear_63 hl (k := 1) rfl rfl (by decide) rfl (fun ls hl => ?_)
            refine lv_goto (tgt := 12) hx hb dX8_goesYear_66 (by decide) ?_
            exact ih (x1_1590 + (1 : Int32)) (sA (sA v_1591 5 (upd (v_1591 5) x1_1590.toNatClampNeg (((v_1591 5) x1_1590.toNatClampNeg) - (1 : Int32)))) 4 (upd (v_1591 4) x1_1590.toNatClampNeg (0 : Int32))) _ _ _ hP hD hS (lv_sub hl [1, 0] rfl) hf
        · have hf := ifF hf c1596
          refine lv_goto (tgt := 63) hx hb dX8_goesYear_30 (by decide) ?_
          refine lv_iinc (v := (x1_1590 + (1 : Int32))) (lv' := [(1, .int (x1_1590 + (1 : Int32))), (0, .ref (a 0))]) hx hb dX8_goesYear_63 hl (k := 1) rfl rfl (by decide) rfl (fun ls hl => ?_)
          refine lv_goto (tgt := 12) hx hb dX8_goesYear_66 (by decide) ?_
          exact ih (x1_1590 + (1 : Int32)) v_1591 _ _ _ hP hD hS (lv_sub hl [1, 0] rfl) hf
  refine L12_1592 _ ?_ FUEL (0 : Int32) (sA v 23 (upd (v 23) 2 ((v 23 2) + (1 : Int32)))) _ _ _ hP hD hS (lv_sub hl [1, 0] rfl) hf
  intro v_1603 H locs ls hP hD hS hl hf
  refine lv_iconst (v := (0 : Int32)) hx hb dX8_goesYear_69 (by decide) ?_
  refine lv_istore_n (lv' := [(1, .int (0 : Int32)), (0, .ref (a 0))]) hx hb dX8_goesYear_70 rfl hl (by decide) rfl (fun ls hl => ?_)
  have L71_1606 : ∀ (n : Nat) (x1_1604 : Int32) (v_1605 : St) (H : Heap) (locs : List Loc) (ls : Array Slot), va_P (gD G) vwCl (mW G a v_1605) H → va_D A (mW G a v_1605) → va_S A s.heap H locs → lv_has ls 2 [(0, .ref (a 0)), (1, .int x1_1604)] → f_X8_goesYear_71 n x1_1604 v_1605 = some v' → W p l e (headSpec wsX8_goesYear ({ frames := 0, cells := 0, slots := 0, locals := 0 } : Room)).room s m ([.ref (a 0)] : List Value).toArray below meth c H locs 0 0 (MQ below (FQ G A (mW G a v') none) ([.ref (a 0)] : List Value).toArray s 0 0 A) (F0 m 71 ls []) := by
    intro n
    induction n with
    | zero =>
      intro x1_1604 v_1605 H locs ls hP hD hS hl hf
      exact no_some hf
    | succ n ih =>
      intro x1_1604 v_1605 H locs ls hP hD hS hl hf
      rw [f_X8_goesYear_71] at hf
      refine lv_iload_n hx hb dX8_goesYear_71 rfl (lv_at hl 1 rfl) ?_
      refine lv_aload_n hx hb dX8_goesYear_72 rfl (lv_at hl 0 rfl) ?_
      refine fc_get (v := .int (v_1605 23 1)) (ci := 5) (C := RX8) (T := TX8) (N := 29) hx hb hwX8 hown hE hP 0 (mW_o G a v_1605) rfl 11 (by decide) hk_fieldLink_RX8_76__BrideNotKnownModel___grooms___I_ (fun _ h => h) rfl dX8_goesYear_73 ?_
      refine lv_icmp_ge (tgt := 108) hx hb dX8_goesYear_76 (by decide) (fun c1607 => ?_) (fun c1607 => ?_)
      · have hf := ifT hf c1607
        exact fc_retv hx hb hr hlocks hP hS dX8_goesYear_108 (congrArg (fun z => (mW G a z)) (i1 hf))
      · have hf := ifF hf c1607
        refine lv_aload_n hx hb dX8_goesYear_79 rfl (lv_at hl 0 rfl) ?_
        refine fc_get (v := .ref (a 9)) (ci := 5) (C := RX8) (T := TX8) (N := 29) hx hb hwX8 hown hE hP 0 (mW_o G a v_1605) rfl 8 (by decide) hk_fieldLink_RX8_34__BrideNotKnownModel___liquor____I_ (fun _ h => h) rfl dX8_goesYear_80 ?_
        refine lv_iload_n hx hb dX8_goesYear_83 rfl (lv_at hl 1 rfl) ?_
        refine lv_dup2_11 hx hb dX8_goesYear_84 rfl rfl ?_
        obtain ⟨c1608, hf⟩ := gd_some hf
        refine fc_iald (n := 5) (f := (v_1605 8)) hx hb hE hP 9 (mW_a9 G a v_1605) (inB_in c1608) dX8_goesYear_85 ?_
        refine lv_aload_n hx hb dX8_goesYear_86 rfl (lv_at hl 0 rfl) ?_
        refine fc_get (v := .ref (a 9)) (ci := 5) (C := RX8) (T := TX8) (N := 29) hx hb hwX8 hown hE hP 0 (mW_o G a v_1605) rfl 8 (by decide) hk_fieldLink_RX8_34__BrideNotKnownModel___liquor____I_ (fun _ h => h) rfl dX8_goesYear_87 ?_
        refine lv_iload_n hx hb dX8_goesYear_90 rfl (lv_at hl 1 rfl) ?_
        obtain ⟨c1609, hf⟩ := gd_some hf
        refine fc_iald (n := 5) (f := (v_1605 8)) hx hb hE hP 9 (mW_a9 G a v_1605) (inB_in c1609) dX8_goesYear_91 ?_
        refine lv_if_le (tgt := 99) hx hb dX8_goesYear_92 (by decide) (fun c1610 => ?_) (fun c1610 => ?_)
        · have hf := ifT hf c1610
          refine lv_iconst (v := (0 : Int32)) hx hb dX8_goesYear_99 (by decide) ?_
          refine lv_isub hx hb dX8_goesYear_100 ?_
          obtain ⟨c1611, hf⟩ := gd_some hf
          refine fc_iast (n := 5) (f := (v_1605 8)) (Wa' := (mW G a (sA v_1605 8 (upd (v_1605 8) x1_1604.toNatClampNeg (((v_1605 8) x1_1604.toNatClampNeg) - (0 : Int32)))))) hx hb hE hP hD hS 9 (mW_a9 G a v_1605) (inB_in c1611) dX8_goesYear_101 (mW_t9 G a v_1605 (upd (v_1605 8) x1_1604.toNatClampNeg (((v_1605 8) x1_1604.toNatClampNeg) - (0 : Int32)))) (fun H locs hP hD hS => ?_)
          refine lv_iinc (v := (x1_1604 + (1 : Int32))) (lv' := [(1, .int (x1_1604 + (1 : Int32))), (0, .ref (a 0))]) hx hb dX8_goesYear_102 hl (k := 1) rfl rfl (by decide) rfl (fun ls hl => ?_)
          refine lv_goto (tgt := 71) hx hb dX8_goesYear_105 (by decide) ?_
          exact ih (x1_1604 + (1 : Int32)) (sA v_1605 8 (upd (v_1605 8) x1_1604.toNatClampNeg (((v_1605 8) x1_1604.toNatClampNeg) - (0 : Int32)))) _ _ _ hP hD hS (lv_sub hl [1, 0] rfl) hf
        · have hf := ifF hf c1610
          refine lv_iconst (v := (1 : Int32)) hx hb dX8_goesYear_95 (by decide) ?_
          refine lv_goto (tgt := 100) hx hb dX8_goesYear_96 (by decide) ?_
          refine lv_isub hx hb dX8_goesYear_100 ?_
          obtain ⟨c1612, hf⟩ := gd_some hf
          refine fc_iast (n := 5) (f := (v_1605 8)) (Wa' := (mW G a (sA v_1605 8 (upd (v_1605 8) x1_1604.toNatClampNeg (((v_1605 8) x1_1604.toNatClampNeg) - (1 : Int32)))))) hx hb hE hP hD hS 9 (mW_a9 G a v_1605) (inB_in c1612) dX8_goesYear_101 (mW_t9 G a v_1605 (upd (v_1605 8) x1_1604.toNatClampNeg (((v_1605 8) x1_1604.toNatClampNeg) - (1 : Int32)))) (fun H locs hP hD hS => ?_)
          refine lv_iinc (v := (x1_1604 + (1 : Int32))) (lv' := [(1, .int (x1_1604 + (1 : Int32))), (0, .ref (a 0))]) hx hb dX8_goesYear_102 hl (k := 1) rfl rfl (by decide) rfl (fun ls hl => ?_)
          refine lv_goto (tgt := 71) hx hb dX8_goesYear_105 (by decide) ?_
          exact ih (x1_1604 + (1 : Int32)) (sA v_1605 8 (upd (v_1605 8) x1_1604.toNatClampNeg (((v_1605 8) x1_1604.toNatClampNeg) - (1 : Int32)))) _ _ _ hP hD hS (lv_sub hl [1, 0] rfl) hf
  exact L71_1606 FUEL (0 : Int32) v_1603 _ _ _ hP hD hS (lv_sub hl [1, 0] rfl) hf
theorem dk_X8_forgets : yX8_forgets.cls ≠ "java/lang/invoke/MethodHandle" ∧ yX8_forgets.cls ≠ "java/lang/invoke/VarHandle" ∧ (parseMethodDescriptor yX8_forgets.desc).map (fun d => d.parameters.length) = some 0 := by decide +kernel
set_option maxHeartbeats 4000000 in
set_option maxRecDepth 100000 in
theorem k_X8_forgets {l : Launch} {G : Gx} (a : Nat → Nat) (v : St) {v' : St} (hf : f_X8_forgets v = some v') : FC l G yX8_forgets wsX8_forgets ({ frames := 2, cells := 0, slots := 0, locals := 44 } : Room) [.ref (a 0)] (mW G a v) (mW G a v') none := by
  refine fc_head (cc := cX8_forgets) (maxL := 1) (ret := none) (C := RX8) (lv := [(0, .ref (a 0))]) (by decide) rfl rfl (Nat.le_of_ble_eq_true rfl) rfl ?_
  intro p e s m below meth c ls A hx hb hr hml hown hts hlocks hE hP hD hAB hS hl
  have hCF : CallFix p m c cX8_forgets 1 s ([.ref (a 0)] : List Value).toArray wsX8_forgets RX8 := ⟨hx, hb, hml, hown, hts⟩
  rw [f_X8_forgets] at hf
  refine lv_aload_n hx hb dX8_forgets_0 rfl (lv_at hl 0 rfl) ?_
  refine lv_iconst (v := (2 : Int32)) hx hb dX8_forgets_1 (by decide) ?_
  refine lv_iconst (v := (0 : Int32)) hx hb dX8_forgets_2 (by decide) ?_
  obtain ⟨q1614, hq1614, hf⟩ := bnd hf
  refine fc_callV (Wa' := (mW G a q1614)) (st1 := []) (As := [.int (2 : Int32), .int (0 : Int32)]) (rest := []) hCF (k_X8_passesAll a v (2 : Int32) (0 : Int32) hq1614) (cwV 2 hts gX8_forgets_X8_passesAll rfl rfl rfl ⟨rfl, dk_X8_passesAll⟩ ⟨Nat.le_of_ble_eq_true rfl, Nat.le_of_ble_eq_true rfl⟩) hE hAB hP hD hS [0, 1, 2, 3, 4, 5, 6, 7, 8, 9, 10, 11, 12, 13, 14, 15, 16, 17, 18, 19, 20, 21, 22, 23, 24] mW_d (mW_c G a v) (va_recv hE.1 hP (ci := 5) (q0 := 0) rfl (mW_o G a v)) (mW_f G a v q1614) (mW_s G a v q1614) rfl rfl hl.1 rfl (Nat.le_of_ble_eq_true rfl) dX8_forgets_3 ⟨Nat.le_refl _, Nat.le_refl _⟩ (fun H locs hP hD hS => ?_)
  exact fc_retv hx hb hr hlocks hP hS dX8_forgets_6 (congrArg (fun z => (mW G a z)) (i1 hf))
theorem dk_X8_isSo : yX8_isSo.cls ≠ "java/lang/invoke/MethodHandle" ∧ yX8_isSo.cls ≠ "java/lang/invoke/VarHandle" ∧ (parseMethodDescriptor yX8_isSo.desc).map (fun d => d.parameters.length) = some 1 := by decide +kernel
theorem iu_X8_isSo_X8 : ∀ w ∈ u_ws RX8 TX8 29, w ∈ wsX8_isSo := by decide +kernel
set_option maxHeartbeats 4000000 in
set_option maxRecDepth 100000 in
theorem k_X8_isSo {l : Launch} {G : Gx} (a : Nat → Nat) (v : St) (x1 : Int32) {r : Int32} {v' : St} (hf : f_X8_isSo v x1 = some (r, v')) : FC l G yX8_isSo wsX8_isSo ({ frames := 3, cells := 0, slots := 0, locals := 64 } : Room) [.ref (a 0), .int x1] (mW G a v) (mW G a v') (some (.int r)) := by
  refine fc_head (cc := cX8_isSo) (maxL := 4) (ret := (some .boolean)) (C := RX8) (lv := [(0, .ref (a 0)), (1, .int x1)]) (by decide) rfl rfl (Nat.le_of_ble_eq_true rfl) rfl ?_
  intro p e s m below meth c ls A hx hb hr hml hown hts hlocks hE hP hD hAB hS hl
  have hCF : CallFix p m c cX8_isSo 4 s ([.ref (a 0), .int x1] : List Value).toArray wsX8_isSo RX8 := ⟨hx, hb, hml, hown, hts⟩
  have hwX8 : ∀ w ∈ u_ws RX8 TX8 29, w.before ([.ref (a 0), .int x1] : List Value).toArray s = true := fun w h => hts w (iu_X8_isSo_X8 w h)
  have hk_fieldLink_RX8_250__BrideNotKnownModel___rowMany___I_ := hts (.fieldLink RX8 250 "BrideNotKnownModel" "rowMany" "I") (List.mem_of_getElem? (i := 1) rfl)
  have hk_fieldLink_RX8_60__BrideNotKnownModel___row____I_ := hts (.fieldLink RX8 60 "BrideNotKnownModel" "row" "[I") (List.mem_of_getElem? (i := 2) rfl)
  rw [f_X8_isSo] at hf
  refine lv_aload_n hx hb dX8_isSo_0 rfl (lv_at hl 0 rfl) ?_
  obtain ⟨q1622, hq1622, hf⟩ := bnd hf
  refine fc_callV (Wa' := (mW G a q1622)) (st1 := []) (As := []) (rest := []) hCF (k_X8_thinks a v hq1622) (cwV 0 hts gX8_isSo_X8_thinks rfl rfl rfl ⟨rfl, dk_X8_thinks⟩ ⟨Nat.le_of_ble_eq_true rfl, Nat.le_of_ble_eq_true rfl⟩) hE hAB hP hD hS [0, 1, 2, 3, 4, 5, 6, 7, 8, 9, 10, 11, 12, 13, 14, 15, 16, 17, 18, 19, 20, 21, 22, 23, 24] mW_d (mW_c G a v) (va_recv hE.1 hP (ci := 5) (q0 := 0) rfl (mW_o G a v)) (mW_f G a v q1622) (mW_s G a v q1622) rfl rfl hl.1 rfl (Nat.le_of_ble_eq_true rfl) dX8_isSo_1 ⟨Nat.le_refl _, Nat.le_refl _⟩ (fun H locs hP hD hS => ?_)
  refine lv_iconst (v := (1 : Int32)) hx hb dX8_isSo_4 (by decide) ?_
  refine lv_istore_n (lv' := [(2, .int (1 : Int32)), (0, .ref (a 0)), (1, .int x1)]) hx hb dX8_isSo_5 rfl hl (by decide) rfl (fun ls hl => ?_)
  refine lv_iconst (v := (0 : Int32)) hx hb dX8_isSo_6 (by decide) ?_
  refine lv_istore_n (lv' := [(3, .int (0 : Int32)), (2, .int (1 : Int32)), (0, .ref (a 0)), (1, .int x1)]) hx hb dX8_isSo_7 rfl hl (by decide) rfl (fun ls hl => ?_)
  have L8_1626 : ∀ (K8_50 : Int32 → St → Option (Int32 × St)) (hK8_50 : ∀ (x2_1627 : Int32) (v_1628 : St) (H : Heap) (locs : List Loc) (ls : Array Slot), va_P (gD G) vwCl (mW G a v_1628) H → va_D A (mW G a v_1628) → va_S A s.heap H locs → lv_has ls 4 [(0, .ref (a 0)), (2, .int x2_1627)] → K8_50 x2_1627 v_1628 = some (r, v') → W p l e (headSpec wsX8_isSo ({ frames := 3, cells := 0, slots := 0, locals := 64 } : Room)).room s m ([.ref (a 0), .int x1] : List Value).toArray below meth c H locs 0 0 (MQ below (FQ G A (mW G a v') (some (.int r))) ([.ref (a 0), .int x1] : List Value).toArray s 0 0 A) (F0 m 50 ls [])) (n : Nat) (x2_1623 : Int32) (x3_1624 : Int32) (v_1625 : St) (H : Heap) (locs : List Loc) (ls : Array Slot), va_P (gD G) vwCl (mW G a v_1625) H → va_D A (mW G a v_1625) → va_S A s.heap H locs → lv_has ls 4 [(0, .ref (a 0)), (1, .int x1), (2, .int x2_1623), (3, .int x3_1624)] → f_X8_isSo_8 x1 n x2_1623 x3_1624 v_1625 K8_50 = some (r, v') → W p l e (headSpec wsX8_isSo ({ frames := 3, cells := 0, slots := 0, locals := 64 } : Room)).room s m ([.ref (a 0), .int x1] : List Value).toArray below meth c H locs 0 0 (MQ below (FQ G A (mW G a v') (some (.int r))) ([.ref (a 0), .int x1] : List Value).toArray s 0 0 A) (F0 m 8 ls []) := by
    intro K8_50 hK8_50 n
    induction n with
    | zero =>
      intro x2_1623 x3_1624 v_1625 H locs ls hP hD hS hl hf
      exact no_some hf
    | succ n ih =>
      intro x2_1623 x3_1624 v_1625 H locs ls hP hD hS hl hf
      rw [f_X8_isSo_8] at hf
      refine lv_iload_n hx hb dX8_isSo_8 rfl (lv_at hl 3 rfl) ?_
      refine lv_aload_n hx hb dX8_isSo_9 rfl (lv_at hl 0 rfl) ?_
      refine fc_get (v := .int (v_1625 23 9)) (ci := 5) (C := RX8) (T := TX8) (N := 29) hx hb hwX8 hown hE hP 0 (mW_o G a v_1625) rfl 26 (by decide) hk_fieldLink_RX8_250__BrideNotKnownModel___rowMany___I_ (fun _ h => h) rfl dX8_isSo_10 ?_
      refine lv_icmp_ge (tgt := 50) hx hb dX8_isSo_13 (by decide) (fun c1629 => ?_) (fun c1629 => ?_)
      · have hf := ifT hf c1629
        exact hK8_50 x2_1623 v_1625 _ _ _ hP hD hS (lv_sub hl [0, 2] rfl) hf
      · have hf := ifF hf c1629
        refine lv_iload_n hx hb dX8_isSo_16 rfl (lv_at hl 2 rfl) ?_
        refine lv_if_eq (tgt := 50) hx hb dX8_isSo_17 (by decide) (fun c1630 => ?_) (fun c1630 => ?_)
        · have hf := ifT hf c1630
          exact hK8_50 x2_1623 v_1625 _ _ _ hP hD hS (lv_sub hl [0, 2] rfl) hf
        · have hf := ifF hf c1630
          refine lv_aload_n hx hb dX8_isSo_20 rfl (lv_at hl 0 rfl) ?_
          refine lv_iload_n hx hb dX8_isSo_21 rfl (lv_at hl 1 rfl) ?_
          obtain ⟨q1631, hq1631, hf⟩ := bnd hf
          refine fc_callV (Wa' := (mW G a v_1625)) (st1 := [.int q1631]) (As := [.int x1]) (rest := []) hCF (k_X8_showsOf a v_1625 x1 hq1631) (cwV 1 hts gX8_isSo_X8_showsOf rfl rfl rfl ⟨rfl, dk_X8_showsOf⟩ ⟨Nat.le_of_ble_eq_true rfl, Nat.le_of_ble_eq_true rfl⟩) hE hAB hP hD hS [0, 1, 2, 3, 4, 5, 6, 7, 8, 9, 10, 11, 12, 13, 14, 15, 16, 17, 18, 19, 20, 21, 22, 23, 24] mW_d (mW_c G a v_1625) (va_recv hE.1 hP (ci := 5) (q0 := 0) rfl (mW_o G a v_1625)) (mW_f G a v_1625 v_1625) (mW_s G a v_1625 v_1625) rfl rfl hl.1 rfl (Nat.le_of_ble_eq_true rfl) dX8_isSo_22 ⟨Nat.le_refl _, Nat.le_refl _⟩ (fun H locs hP hD hS => ?_)
          refine lv_aload_n hx hb dX8_isSo_25 rfl (lv_at hl 0 rfl) ?_
          refine fc_get (v := .ref (a 16)) (ci := 5) (C := RX8) (T := TX8) (N := 29) hx hb hwX8 hown hE hP 0 (mW_o G a v_1625) rfl 25 (by decide) hk_fieldLink_RX8_60__BrideNotKnownModel___row____I_ (fun _ h => h) rfl dX8_isSo_26 ?_
          refine lv_iload_n hx hb dX8_isSo_29 rfl (lv_at hl 3 rfl) ?_
          obtain ⟨c1632, hf⟩ := gd_some hf
          refine fc_iald (n := 16) (f := (v_1625 15)) hx hb hE hP 16 (mW_a16 G a v_1625) (inB_in c1632) dX8_isSo_30 ?_
          refine lv_icmp_ne (tgt := 38) hx hb dX8_isSo_31 (by decide) (fun c1633 => ?_) (fun c1633 => ?_)
          · have hf := ifF hf c1633
            refine lv_iconst (v := (0 : Int32)) hx hb dX8_isSo_38 (by decide) ?_
            refine lv_istore_n (lv' := [(2, .int (0 : Int32)), (0, .ref (a 0)), (1, .int x1), (3, .int x3_1624)]) hx hb dX8_isSo_39 rfl hl (by decide) rfl (fun ls hl => ?_)
            refine lv_aload_n hx hb dX8_isSo_40 rfl (lv_at hl 1 rfl) ?_
            obtain ⟨q1634, hq1634, hf⟩ := bnd hf
            refine fc_callV (Wa' := (mW G a q1634)) (st1 := []) (As := []) (rest := []) hCF (k_X8_goesYear a v_1625 hq1634) (cwV 0 hts gX8_isSo_X8_goesYear rfl rfl rfl ⟨rfl, dk_X8_goesYear⟩ ⟨Nat.le_of_ble_eq_true rfl, Nat.le_of_ble_eq_true rfl⟩) hE hAB hP hD hS [0, 1, 2, 3, 4, 5, 6, 7, 8, 9, 10, 11, 12, 13, 14, 15, 16, 17, 18, 19, 20, 21, 22, 23, 24] mW_d (mW_c G a v_1625) (va_recv hE.1 hP (ci := 5) (q0 := 0) rfl (mW_o G a v_1625)) (mW_f G a v_1625 q1634) (mW_s G a v_1625 q1634) rfl rfl hl.1 rfl (Nat.le_of_ble_eq_true rfl) dX8_isSo_41 ⟨Nat.le_refl _, Nat.le_refl _⟩ (fun H locs hP hD hS => ?_)
            refine lv_iinc (v := (x3_1624 + (1 : Int32))) (lv' := [(3, .int (x3_1624 + (1 : Int32))), (2, .int (0 : Int32)), (0, .ref (a 0)), (1, .int x1)]) hx hb dX8_isSo_44 hl (k := 3) rfl rfl (by decide) rfl (fun ls hl => ?_)
            refine lv_goto (tgt := 8) hx hb dX8_isSo_47 (by decide) ?_
            exact ih (0 : Int32) (x3_1624 + (1 : Int32)) q1634 _ _ _ hP hD hS (lv_sub hl [2, 3, 1, 0] rfl) hf
          · have hf := ifT hf c1633
            refine lv_iconst (v := (1 : Int32)) hx hb dX8_isSo_34 (by decide) ?_
            refine lv_goto (tgt := 39) hx hb dX8_isSo_35 (by decide) ?_
            refine lv_istore_n (lv' := [(2, .int (1 : Int32)), (0, .ref (a 0)), (1, .int x1), (3, .int x3_1624)]) hx hb dX8_isSo_39 rfl hl (by decide) rfl (fun ls hl => ?_)
            refine lv_aload_n hx hb dX8_isSo_40 rfl (lv_at hl 1 rfl) ?_
            obtain ⟨q1635, hq1635, hf⟩ := bnd hf
            refine fc_callV (Wa' := (mW G a q1635)) (st1 := []) (As := []) (rest := []) hCF (k_X8_goesYear a v_1625 hq1635) (cwV 0 hts gX8_isSo_X8_goesYear rfl rfl rfl ⟨rfl, dk_X8_goesYear⟩ ⟨Nat.le_of_ble_eq_true rfl, Nat.le_of_ble_eq_true rfl⟩) hE hAB hP hD hS [0, 1, 2, 3, 4, 5, 6, 7, 8, 9, 10, 11, 12, 13, 14, 15, 16, 17, 18, 19, 20, 21, 22, 23, 24] mW_d (mW_c G a v_1625) (va_recv hE.1 hP (ci := 5) (q0 := 0) rfl (mW_o G a v_1625)) (mW_f G a v_1625 q1635) (mW_s G a v_1625 q1635) rfl rfl hl.1 rfl (Nat.le_of_ble_eq_true rfl) dX8_isSo_41 ⟨Nat.le_refl _, Nat.le_refl _⟩ (fun H locs hP hD hS => ?_)
            refine lv_iinc (v := (x3_1624 + (1 : Int32))) (lv' := [(3, .int (x3_1624 + (1 : Int32))), (2, .int (1 : Int32)), (0, .ref (a 0)), (1, .int x1)]) hx hb dX8_isSo_44 hl (k := 3) rfl rfl (by decide) rfl (fun ls hl => ?_)
            refine lv_goto (tgt := 8) hx hb dX8_isSo_47 (by decide) ?_
            exact ih (1 : Int32) (x3_1624 + (1 : Int32)) q1635 _ _ _ hP hD hS (lv_sub hl [2, 3, 1, 0] rfl) hf
  refine L8_1626 _ ?_ FUEL (1 : Int32) (0 : Int32) q1622 _ _ _ hP hD hS (lv_sub hl [2, 3, 1, 0] rfl) hf
  intro x2_1636 v_1637 H locs ls hP hD hS hl hf
  refine lv_aload_n hx hb dX8_isSo_50 rfl (lv_at hl 0 rfl) ?_
  obtain ⟨q1638, hq1638, hf⟩ := bnd hf
  refine fc_callV (Wa' := (mW G a q1638)) (st1 := []) (As := []) (rest := []) hCF (k_X8_forgets a v_1637 hq1638) (cwV 0 hts gX8_isSo_X8_forgets rfl rfl rfl ⟨rfl, dk_X8_forgets⟩ ⟨Nat.le_of_ble_eq_true rfl, Nat.le_of_ble_eq_true rfl⟩) hE hAB hP hD hS [0, 1, 2, 3, 4, 5, 6, 7, 8, 9, 10, 11, 12, 13, 14, 15, 16, 17, 18, 19, 20, 21, 22, 23, 24] mW_d (mW_c G a v_1637) (va_recv hE.1 hP (ci := 5) (q0 := 0) rfl (mW_o G a v_1637)) (mW_f G a v_1637 q1638) (mW_s G a v_1637 q1638) rfl rfl hl.1 rfl (Nat.le_of_ble_eq_true rfl) dX8_isSo_51 ⟨Nat.le_refl _, Nat.le_refl _⟩ (fun H locs hP hD hS => ?_)
  refine lv_iload_n hx hb dX8_isSo_54 rfl (lv_at hl 1 rfl) ?_
  obtain ⟨c1639, hf⟩ := gd_some hf
  exact fc_retz hx hb hr hlocks hP hS dX8_isSo_55 (isZ_nar c1639).1 (i2a hf) (congrArg (fun z => (mW G a z)) (i2b hf))
theorem dk_X8_bitsFor : yX8_bitsFor.cls ≠ "java/lang/invoke/MethodHandle" ∧ yX8_bitsFor.cls ≠ "java/lang/invoke/VarHandle" ∧ (parseMethodDescriptor yX8_bitsFor.desc).map (fun d => d.parameters.length) = some 3 := by decide +kernel
set_option maxHeartbeats 4000000 in
set_option maxRecDepth 100000 in
theorem k_X8_bitsFor {l : Launch} {G : Gx} (a : Nat → Nat) (v : St) (k : Nat) (x2 : Int32) (x3 : Int32) {r : Int32} {v' : St} (hf : f_X8_bitsFor v k x2 x3 = some (r, v')) (hk : k < 10) : FC l G yX8_bitsFor wsX8_bitsFor ({ frames := 4, cells := 0, slots := 0, locals := 87 } : Room) [.ref (a 0), .ref (a (1 + k)), .int x2, .int x3] (mW G a v) (mW G a v') (some (.int r)) := by
  refine fc_head (cc := cX8_bitsFor) (maxL := 7) (ret := (some .int)) (C := RX8) (lv := [(0, .ref (a 0)), (1, .ref (a (1 + k))), (2, .int x2), (3, .int x3)]) (by decide) rfl rfl (Nat.le_of_ble_eq_true rfl) rfl ?_
  intro p e s m below meth c ls A hx hb hr hml hown hts hlocks hE hP hD hAB hS hl
  have hCF : CallFix p m c cX8_bitsFor 7 s ([.ref (a 0), .ref (a (1 + k)), .int x2, .int x3] : List Value).toArray wsX8_bitsFor RX8 := ⟨hx, hb, hml, hown, hts⟩
  rw [f_X8_bitsFor] at hf
  refine lv_aload_n hx hb dX8_bitsFor_0 rfl (lv_at hl 1 rfl) ?_
  refine lv_iload_n hx hb dX8_bitsFor_1 rfl (lv_at hl 2 rfl) ?_
  obtain ⟨c1641, hf⟩ := gd_some hf
  refine fc_iald (n := (mLen k)) (f := (v k)) hx hb hE hP (1 + k) (mW_at G a v hk) (inB_in c1641) dX8_bitsFor_2 ?_
  refine lv_istore (lv' := [(4, .int ((v k) x2.toNatClampNeg)), (0, .ref (a 0)), (1, .ref (a (1 + k))), (2, .int x2), (3, .int x3)]) hx hb dX8_bitsFor_3 hl (by decide) rfl (fun ls hl => ?_)
  refine lv_iconst (v := (0 : Int32)) hx hb dX8_bitsFor_5 (by decide) ?_
  refine lv_istore (lv' := [(5, .int (0 : Int32)), (4, .int ((v k) x2.toNatClampNeg)), (0, .ref (a 0)), (1, .ref (a (1 + k))), (2, .int x2), (3, .int x3)]) hx hb dX8_bitsFor_6 hl (by decide) rfl (fun ls hl => ?_)
  refine lv_iconst (v := (0 : Int32)) hx hb dX8_bitsFor_8 (by decide) ?_
  refine lv_istore (lv' := [(6, .int (0 : Int32)), (5, .int (0 : Int32)), (4, .int ((v k) x2.toNatClampNeg)), (0, .ref (a 0)), (1, .ref (a (1 + k))), (2, .int x2), (3, .int x3)]) hx hb dX8_bitsFor_9 hl (by decide) rfl (fun ls hl => ?_)
  have L11_1645 : ∀ (n : Nat) (x5_1642 : Int32) (x6_1643 : Int32) (v_1644 : St) (H : Heap) (locs : List Loc) (ls : Array Slot), va_P (gD G) vwCl (mW G a v_1644) H → va_D A (mW G a v_1644) → va_S A s.heap H locs → lv_has ls 7 [(0, .ref (a 0)), (1, .ref (a (1 + k))), (2, .int x2), (3, .int x3), (4, .int ((v k) x2.toNatClampNeg)), (5, .int x5_1642), (6, .int x6_1643)] → f_X8_bitsFor_11 k x2 x3 ((v k) x2.toNatClampNeg) n x5_1642 x6_1643 v_1644 = some (r, v') → W p l e (headSpec wsX8_bitsFor ({ frames := 4, cells := 0, slots := 0, locals := 87 } : Room)).room s m ([.ref (a 0), .ref (a (1 + k)), .int x2, .int x3] : List Value).toArray below meth c H locs 0 0 (MQ below (FQ G A (mW G a v') (some (.int r))) ([.ref (a 0), .ref (a (1 + k)), .int x2, .int x3] : List Value).toArray s 0 0 A) (F0 m 11 ls []) := by
    intro n
    induction n with
    | zero =>
      intro x5_1642 x6_1643 v_1644 H locs ls hP hD hS hl hf
      exact no_some hf
    | succ n ih =>
      intro x5_1642 x6_1643 v_1644 H locs ls hP hD hS hl hf
      rw [f_X8_bitsFor_11] at hf
      refine lv_iload hx hb dX8_bitsFor_11 (lv_at hl 6 rfl) ?_
      refine lv_iload_n hx hb dX8_bitsFor_13 rfl (lv_at hl 3 rfl) ?_
      refine lv_icmp_ge (tgt := 49) hx hb dX8_bitsFor_14 (by decide) (fun c1646 => ?_) (fun c1646 => ?_)
      · have hf := ifT hf c1646
        refine lv_aload_n hx hb dX8_bitsFor_49 rfl (lv_at hl 1 rfl) ?_
        refine lv_iload_n hx hb dX8_bitsFor_50 rfl (lv_at hl 2 rfl) ?_
        refine lv_iload hx hb dX8_bitsFor_51 (lv_at hl 4 rfl) ?_
        obtain ⟨c1647, hf⟩ := gd_some hf
        refine fc_iast (n := (mLen k)) (f := (v_1644 k)) (Wa' := (mW G a (sA v_1644 k (upd (v_1644 k) x2.toNatClampNeg ((v k) x2.toNatClampNeg))))) hx hb hE hP hD hS (1 + k) (mW_at G a v_1644 hk) (inB_in c1647) dX8_bitsFor_53 (mW_set G a v_1644 _ hk) (fun H locs hP hD hS => ?_)
        refine lv_iload hx hb dX8_bitsFor_54 (lv_at hl 5 rfl) ?_
        exact fc_reti hx hb hr hlocks hP hS dX8_bitsFor_56 (i2a hf) (congrArg (fun z => (mW G a z)) (i2b hf))
      · have hf := ifF hf c1646
        refine lv_aload_n hx hb dX8_bitsFor_17 rfl (lv_at hl 1 rfl) ?_
        refine lv_iload_n hx hb dX8_bitsFor_18 rfl (lv_at hl 2 rfl) ?_
        refine lv_iload hx hb dX8_bitsFor_19 (lv_at hl 6 rfl) ?_
        obtain ⟨c1648, hf⟩ := gd_some hf
        refine fc_iast (n := (mLen k)) (f := (v_1644 k)) (Wa' := (mW G a (sA v_1644 k (upd (v_1644 k) x2.toNatClampNeg x6_1643)))) hx hb hE hP hD hS (1 + k) (mW_at G a v_1644 hk) (inB_in c1648) dX8_bitsFor_21 (mW_set G a v_1644 _ hk) (fun H locs hP hD hS => ?_)
        refine lv_iload hx hb dX8_bitsFor_22 (lv_at hl 5 rfl) ?_
        refine lv_aload_n hx hb dX8_bitsFor_24 rfl (lv_at hl 0 rfl) ?_
        refine lv_iload_n hx hb dX8_bitsFor_25 rfl (lv_at hl 2 rfl) ?_
        obtain ⟨q1649, hq1649, hf⟩ := bnd hf
        refine fc_callV (Wa' := (mW G a q1649.2)) (st1 := [.int q1649.1, .int x5_1642]) (As := [.int x2]) (rest := [.int x5_1642]) hCF (k_X8_isSo a (sA v_1644 k (upd (v_1644 k) x2.toNatClampNeg x6_1643)) x2 hq1649) (cwV 1 hts gX8_bitsFor_X8_isSo rfl rfl rfl ⟨rfl, dk_X8_isSo⟩ ⟨Nat.le_of_ble_eq_true rfl, Nat.le_of_ble_eq_true rfl⟩) hE hAB hP hD hS [0, 1, 2, 3, 4, 5, 6, 7, 8, 9, 10, 11, 12, 13, 14, 15, 16, 17, 18, 19, 20, 21, 22, 23, 24] mW_d (mW_c G a (sA v_1644 k (upd (v_1644 k) x2.toNatClampNeg x6_1643))) (va_recv hE.1 hP (ci := 5) (q0 := 0) rfl (mW_o G a (sA v_1644 k (upd (v_1644 k) x2.toNatClampNeg x6_1643)))) (mW_f G a (sA v_1644 k (upd (v_1644 k) x2.toNatClampNeg x6_1643)) q1649.2) (mW_s G a (sA v_1644 k (upd (v_1644 k) x2.toNatClampNeg x6_1643)) q1649.2) rfl rfl hl.1 rfl (Nat.le_of_ble_eq_true rfl) dX8_bitsFor_26 ⟨Nat.le_refl _, Nat.le_refl _⟩ (fun H locs hP hD hS => ?_)
        refine lv_if_eq (tgt := 39) hx hb dX8_bitsFor_29 (by decide) (fun c1650 => ?_) (fun c1650 => ?_)
        · have hf := ifT hf c1650
          refine lv_iconst (v := (0 : Int32)) hx hb dX8_bitsFor_39 (by decide) ?_
          refine lv_ior hx hb dX8_bitsFor_40 ?_
          refine lv_istore (lv' := [(5, .int (x5_1642 ||| (0 : Int32))), (0, .ref (a 0)), (1, .ref (a (1 + k))), (2, .int x2), (3, .int x3), (4, .int ((v k) x2.toNatClampNeg)), (6, .int x6_1643)]) hx hb dX8_bitsFor_41 hl (by decide) rfl (fun ls hl => ?_)
          refine lv_iinc (v := (x6_1643 + (1 : Int32))) (lv' := [(6, .int (x6_1643 + (1 : Int32))), (5, .int (x5_1642 ||| (0 : Int32))), (0, .ref (a 0)), (1, .ref (a (1 + k))), (2, .int x2), (3, .int x3), (4, .int ((v k) x2.toNatClampNeg))]) hx hb dX8_bitsFor_43 hl (k := 6) rfl rfl (by decide) rfl (fun ls hl => ?_)
          refine lv_goto (tgt := 11) hx hb dX8_bitsFor_46 (by decide) ?_
          exact ih (x5_1642 ||| (0 : Int32)) (x6_1643 + (1 : Int32)) q1649.2 _ _ _ hP hD hS (lv_sub hl [2, 3, 4, 5, 6, 1, 0] rfl) hf
        · have hf := ifF hf c1650
          refine lv_iconst (v := (1 : Int32)) hx hb dX8_bitsFor_32 (by decide) ?_
          refine lv_iload hx hb dX8_bitsFor_33 (lv_at hl 6 rfl) ?_
          refine lv_ishl hx hb dX8_bitsFor_35 ?_
          refine lv_goto (tgt := 40) hx hb dX8_bitsFor_36 (by decide) ?_
          refine lv_ior hx hb dX8_bitsFor_40 ?_
          refine lv_istore (lv' := [(5, .int (x5_1642 ||| ((1 : Int32) <<< (x6_1643 &&& 31)))), (0, .ref (a 0)), (1, .ref (a (1 + k))), (2, .int x2), (3, .int x3), (4, .int ((v k) x2.toNatClampNeg)), (6, .int x6_1643)]) hx hb dX8_bitsFor_41 hl (by decide) rfl (fun ls hl => ?_)
          refine lv_iinc (v := (x6_1643 + (1 : Int32))) (lv' := [(6, .int (x6_1643 + (1 : Int32))), (5, .int (x5_1642 ||| ((1 : Int32) <<< (x6_1643 &&& 31)))), (0, .ref (a 0)), (1, .ref (a (1 + k))), (2, .int x2), (3, .int x3), (4, .int ((v k) x2.toNatClampNeg))]) hx hb dX8_bitsFor_43 hl (k := 6) rfl rfl (by decide) rfl (fun ls hl => ?_)
          refine lv_goto (tgt := 11) hx hb dX8_bitsFor_46 (by decide) ?_
          exact ih (x5_1642 ||| ((1 : Int32) <<< (x6_1643 &&& 31))) (x6_1643 + (1 : Int32)) q1649.2 _ _ _ hP hD hS (lv_sub hl [2, 3, 4, 5, 6, 1, 0] rfl) hf
  exact L11_1645 FUEL (0 : Int32) (0 : Int32) v _ _ _ hP hD hS (lv_sub hl [3, 4, 5, 6, 2, 1, 0] rfl) hf
theorem dk_X8_bound : yX8_bound.cls ≠ "java/lang/invoke/MethodHandle" ∧ yX8_bound.cls ≠ "java/lang/invoke/VarHandle" ∧ (parseMethodDescriptor yX8_bound.desc).map (fun d => d.parameters.length) = some 3 := by decide +kernel
set_option maxHeartbeats 4000000 in
set_option maxRecDepth 100000 in
theorem k_X8_bound {l : Launch} {G : Gx} (x0 : Int32) (x1 : Int32) (x2 : Int32) {r : Int32} (hf : f_X8_bound x0 x1 x2 = some r) : FC l G yX8_bound wsX8_bound ({ frames := 0, cells := 0, slots := 0, locals := 0 } : Room) [.int x0, .int x1, .int x2] ([] : va_W) ([] : va_W) (some (.int r)) := by
  refine fc_head (cc := cX8_bound) (maxL := 3) (ret := (some .int)) (C := RX8) (lv := [(0, .int x0), (1, .int x1), (2, .int x2)]) (by decide) rfl rfl (Nat.le_of_ble_eq_true rfl) rfl ?_
  intro p e s m below meth c ls A hx hb hr hml hown hts hlocks hE hP hD hAB hS hl
  have hCF : CallFix p m c cX8_bound 3 s ([.int x0, .int x1, .int x2] : List Value).toArray wsX8_bound RX8 := ⟨hx, hb, hml, hown, hts⟩
  rw [f_X8_bound] at hf
  refine lv_iload_n hx hb dX8_bound_0 rfl (lv_at hl 0 rfl) ?_
  refine lv_iload_n hx hb dX8_bound_1 rfl (lv_at hl 1 rfl) ?_
  refine lv_icmp_ge (tgt := 10) hx hb dX8_bound_2 (by decide) (fun c1651 => ?_) (fun c1651 => ?_)
  · have hf := ifT hf c1651
    refine lv_iload_n hx hb dX8_bound_10 rfl (lv_at hl 0 rfl) ?_
    refine lv_iload_n hx hb dX8_bound_11 rfl (lv_at hl 2 rfl) ?_
    refine lv_icmp_le (tgt := 20) hx hb dX8_bound_12 (by decide) (fun c1652 => ?_) (fun c1652 => ?_)
    · have hf := ifT hf c1652
      refine lv_iconst (v := (0 : Int32)) hx hb dX8_bound_20 (by decide) ?_
      exact fc_reti hx hb hr hlocks hP hS dX8_bound_21 (i1 hf) rfl
    · have hf := ifF hf c1652
      refine lv_bipush (v := (-6 : Int32)) hx hb dX8_bound_15 (by decide) ?_
      refine lv_goto (tgt := 21) hx hb dX8_bound_17 (by decide) ?_
      exact fc_reti hx hb hr hlocks hP hS dX8_bound_21 (i1 hf) rfl
  · have hf := ifF hf c1651
    refine lv_bipush (v := (-4 : Int32)) hx hb dX8_bound_5 (by decide) ?_
    refine lv_goto (tgt := 21) hx hb dX8_bound_7 (by decide) ?_
    exact fc_reti hx hb hr hlocks hP hS dX8_bound_21 (i1 hf) rfl
