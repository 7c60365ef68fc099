theorem dk_X8_isBride : yX8_isBride.cls ≠ "java/lang/invoke/MethodHandle" ∧ yX8_isBride.cls ≠ "java/lang/invoke/VarHandle" ∧ (parseMethodDescriptor yX8_isBride.desc).map (fun d => d.parameters.length) = some 1 := by decide +kernel
theorem iu_X8_isBride_X8 : ∀ w ∈ u_ws RX8 TX8 29, w ∈ wsX8_isBride := by decide +kernel
set_option maxHeartbeats 4000000 in
set_option maxRecDepth 100000 in
theorem k_X8_isBride {l : Launch} {G : Gx} (a : Nat → Nat) (v : St) (x1 : Int32) {r : Int32} (hf : f_X8_isBride v x1 = some r) : FC l G yX8_isBride wsX8_isBride ({ frames := 0, cells := 0, slots := 0, locals := 0 } : Room) [.ref (a 0), .int x1] (mW G a v) (mW G a v) (some (.int r)) := by
  refine fc_head (cc := cX8_isBride) (maxL := 2) (ret := (some .boolean)) (C := RX8) (lv := [(0, .ref (a 0)), (1, .int x1)]) (by decide) rfl rfl (Nat.le_of_ble_eq_true rfl) rfl ?_
  intro p e s m below meth c ls A hx hb hr hml hown hts hlocks hE hP hD hAB hS hl
  have hCF : CallFix p m c cX8_isBride 2 s ([.ref (a 0), .int x1] : List Value).toArray wsX8_isBride RX8 := ⟨hx, hb, hml, hown, hts⟩
  have hwX8 : ∀ w ∈ u_ws RX8 TX8 29, w.before ([.ref (a 0), .int x1] : List Value).toArray s = true := fun w h => hts w (iu_X8_isBride_X8 w h)
  have hk_fieldLink_RX8_66__BrideNotKnownModel___brides___I_ := hts (.fieldLink RX8 66 "BrideNotKnownModel" "brides" "I") (List.mem_of_getElem? (i := 1) rfl)
  rw [f_X8_isBride] at hf
  refine lv_iload_n hx hb dX8_isBride_0 rfl (lv_at hl 1 rfl) ?_
  refine lv_if_lt (tgt := 16) hx hb dX8_isBride_1 (by decide) (fun c1653 => ?_) (fun c1653 => ?_)
  · have hf := ifT hf c1653
    refine lv_iconst (v := (0 : Int32)) hx hb dX8_isBride_16 (by decide) ?_
    exact fc_retz hx hb hr hlocks hP hS dX8_isBride_17 (by decide) (i1 hf) rfl
  · have hf := ifF hf c1653
    refine lv_iload_n hx hb dX8_isBride_4 rfl (lv_at hl 1 rfl) ?_
    refine lv_aload_n hx hb dX8_isBride_5 rfl (lv_at hl 0 rfl) ?_
    refine fc_get (v := .int (v 23 0)) (ci := 5) (C := RX8) (T := TX8) (N := 29) hx hb hwX8 hown hE hP 0 (mW_o G a v) rfl 10 (by decide) hk_fieldLink_RX8_66__BrideNotKnownModel___brides___I_ (fun _ h => h) rfl dX8_isBride_6 ?_
    refine lv_icmp_ge (tgt := 16) hx hb dX8_isBride_9 (by decide) (fun c1654 => ?_) (fun c1654 => ?_)
    · have hf := ifT hf c1654
      refine lv_iconst (v := (0 : Int32)) hx hb dX8_isBride_16 (by decide) ?_
      exact fc_retz hx hb hr hlocks hP hS dX8_isBride_17 (by decide) (i1 hf) rfl
    · have hf := ifF hf c1654
      refine lv_iconst (v := (1 : Int32)) hx hb dX8_isBride_12 (by decide) ?_
      refine lv_goto (tgt := 17) hx hb dX8_isBride_13 (by decide) ?_
      exact fc_retz hx hb hr hlocks hP hS dX8_isBride_17 (by decide) (i1 hf) rfl
theorem dk_X8_bride : yX8_bride.cls ≠ "java/lang/invoke/MethodHandle" ∧ yX8_bride.cls ≠ "java/lang/invoke/VarHandle" ∧ (parseMethodDescriptor yX8_bride.desc).map (fun d => d.parameters.length) = some 2 := by decide +kernel
theorem iu_X8_bride_X8 : ∀ w ∈ u_ws RX8 TX8 29, w ∈ wsX8_bride := by decide +kernel
set_option maxHeartbeats 4000000 in
set_option maxRecDepth 100000 in
theorem k_X8_bride {l : Launch} {G : Gx} (a : Nat → Nat) (v : St) (x1 : Int32) (x2 : Int32) {r : Int32} {v' : St} (hf : f_X8_bride v x1 x2 = some (r, v')) : FC l G yX8_bride wsX8_bride ({ frames := 2, cells := 0, slots := 0, locals := 44 } : Room) [.ref (a 0), .int x1, .int x2] (mW G a v) (mW G a v') (some (.int r)) := by
  refine fc_head (cc := cX8_bride) (maxL := 3) (ret := (some .int)) (C := RX8) (lv := [(0, .ref (a 0)), (1, .int x1), (2, .int x2)]) (by decide) rfl rfl (Nat.le_of_ble_eq_true rfl) rfl ?_
  intro p e s m below meth c ls A hx hb hr hml hown hts hlocks hE hP hD hAB hS hl
  have hCF : CallFix p m c cX8_bride 3 s ([.ref (a 0), .int x1, .int x2] : List Value).toArray wsX8_bride RX8 := ⟨hx, hb, hml, hown, hts⟩
  have hwX8 : ∀ w ∈ u_ws RX8 TX8 29, w.before ([.ref (a 0), .int x1, .int x2] : List Value).toArray s = true := fun w h => hts w (iu_X8_bride_X8 w h)
  have hk_fieldLink_RX8_13__BrideNotKnownModel___kind____I_ := hts (.fieldLink RX8 13 "BrideNotKnownModel" "kind" "[I") (List.mem_of_getElem? (i := 1) rfl)
  have hk_fieldLink_RX8_16__BrideNotKnownModel___figure____I_ := hts (.fieldLink RX8 16 "BrideNotKnownModel" "figure" "[I") (List.mem_of_getElem? (i := 2) rfl)
  have hk_fieldLink_RX8_19__BrideNotKnownModel___foot____I_ := hts (.fieldLink RX8 19 "BrideNotKnownModel" "foot" "[I") (List.mem_of_getElem? (i := 3) rfl)
  have hk_fieldLink_RX8_25__BrideNotKnownModel___sent____I_ := hts (.fieldLink RX8 25 "BrideNotKnownModel" "sent" "[I") (List.mem_of_getElem? (i := 4) rfl)
  have hk_fieldLink_RX8_22__BrideNotKnownModel___state____I_ := hts (.fieldLink RX8 22 "BrideNotKnownModel" "state" "[I") (List.mem_of_getElem? (i := 5) rfl)
  rw [f_X8_bride] at hf
  refine lv_aload_n hx hb dX8_bride_0 rfl (lv_at hl 0 rfl) ?_
  refine lv_iload_n hx hb dX8_bride_1 rfl (lv_at hl 1 rfl) ?_
  obtain ⟨q1659, hq1659, hf⟩ := bnd hf
  refine fc_callV (Wa' := (mW G a v)) (st1 := [.int q1659]) (As := [.int x1]) (rest := []) hCF (k_X8_isBride a v x1 hq1659) (cwV 1 hts gX8_bride_X8_isBride rfl rfl rfl ⟨rfl, dk_X8_isBride⟩ ⟨Nat.le_of_ble_eq_true rfl, Nat.le_of_ble_eq_true rfl⟩) hE hAB hP hD hS [0, 1, 2, 3, 4, 5, 6, 7, 8, 9, 10, 11, 12, 13, 14, 15, 16, 17, 18, 19, 20, 21, 22, 23, 24] mW_d (mW_c G a v) (va_recv hE.1 hP (ci := 5) (q0 := 0) rfl (mW_o G a v)) (mW_f G a v v) (mW_s G a v v) rfl rfl hl.1 rfl (Nat.le_of_ble_eq_true rfl) dX8_bride_2 ⟨Nat.le_refl _, Nat.le_refl _⟩ (fun H locs hP hD hS => ?_)
  refine lv_if_ne (tgt := 14) hx hb dX8_bride_5 (by decide) (fun c1660 => ?_) (fun c1660 => ?_)
  · have hf := ifF hf c1660
    refine lv_iload_n hx hb dX8_bride_14 rfl (lv_at hl 2 rfl) ?_
    by_cases c1661 : x2 = (0 : Int32)
    · have hf := ifT hf c1661
      refine lv_tableIn (off := 37) (tgt := 52) hx hb dX8_bride_15 (by rw [c1661]; decide) (by rw [c1661]; decide) (by rw [c1661]; rfl) (by decide) ?_
      refine lv_aload_n hx hb dX8_bride_52 rfl (lv_at hl 0 rfl) ?_
      refine fc_get (v := .ref (a 2)) (ci := 5) (C := RX8) (T := TX8) (N := 29) hx hb hwX8 hown hE hP 0 (mW_o G a v) rfl 1 (by decide) hk_fieldLink_RX8_13__BrideNotKnownModel___kind____I_ (fun _ h => h) rfl dX8_bride_53 ?_
      refine lv_iload_n hx hb dX8_bride_56 rfl (lv_at hl 1 rfl) ?_
      obtain ⟨c1662, hf⟩ := gd_some hf
      refine fc_iald (n := 8) (f := (v 1)) hx hb hE hP 2 (mW_a2 G a v) (inB_in c1662) dX8_bride_57 ?_
      exact fc_reti hx hb hr hlocks hP hS dX8_bride_58 (i2a hf) (congrArg (fun z => (mW G a z)) (i2b hf))
    · have hf := ifF hf c1661
      by_cases c1663 : x2 = (1 : Int32)
      · have hf := ifT hf c1663
        refine lv_tableIn (off := 44) (tgt := 59) hx hb dX8_bride_15 (by rw [c1663]; decide) (by rw [c1663]; decide) (by rw [c1663]; rfl) (by decide) ?_
        refine lv_aload_n hx hb dX8_bride_59 rfl (lv_at hl 0 rfl) ?_
        refine fc_get (v := .ref (a 3)) (ci := 5) (C := RX8) (T := TX8) (N := 29) hx hb hwX8 hown hE hP 0 (mW_o G a v) rfl 2 (by decide) hk_fieldLink_RX8_16__BrideNotKnownModel___figure____I_ (fun _ h => h) rfl dX8_bride_60 ?_
        refine lv_iload_n hx hb dX8_bride_63 rfl (lv_at hl 1 rfl) ?_
        obtain ⟨c1664, hf⟩ := gd_some hf
        refine fc_iald (n := 8) (f := (v 2)) hx hb hE hP 3 (mW_a3 G a v) (inB_in c1664) dX8_bride_64 ?_
        exact fc_reti hx hb hr hlocks hP hS dX8_bride_65 (i2a hf) (congrArg (fun z => (mW G a z)) (i2b hf))
      · have hf := ifF hf c1663
        by_cases c1665 : x2 = (2 : Int32)
        · have hf := ifT hf c1665
          refine lv_tableIn (off := 51) (tgt := 66) hx hb dX8_bride_15 (by rw [c1665]; decide) (by rw [c1665]; decide) (by rw [c1665]; rfl) (by decide) ?_
          refine lv_aload_n hx hb dX8_bride_66 rfl (lv_at hl 0 rfl) ?_
          refine fc_get (v := .ref (a 4)) (ci := 5) (C := RX8) (T := TX8) (N := 29) hx hb hwX8 hown hE hP 0 (mW_o G a v) rfl 3 (by decide) hk_fieldLink_RX8_19__BrideNotKnownModel___foot____I_ (fun _ h => h) rfl dX8_bride_67 ?_
          refine lv_iload_n hx hb dX8_bride_70 rfl (lv_at hl 1 rfl) ?_
          obtain ⟨c1666, hf⟩ := gd_some hf
          refine fc_iald (n := 8) (f := (v 3)) hx hb hE hP 4 (mW_a4 G a v) (inB_in c1666) dX8_bride_71 ?_
          exact fc_reti hx hb hr hlocks hP hS dX8_bride_72 (i2a hf) (congrArg (fun z => (mW G a z)) (i2b hf))
        · have hf := ifF hf c1665
          by_cases c1667 : x2 = (3 : Int32)
          · have hf := ifT hf c1667
            refine lv_tableIn (off := 58) (tgt := 73) hx hb dX8_bride_15 (by rw [c1667]; decide) (by rw [c1667]; decide) (by rw [c1667]; rfl) (by decide) ?_
            refine lv_aload_n hx hb dX8_bride_73 rfl (lv_at hl 0 rfl) ?_
            refine lv_iload_n hx hb dX8_bride_74 rfl (lv_at hl 1 rfl) ?_
            obtain ⟨q1668, hq1668, hf⟩ := bnd hf
            refine fc_callV (Wa' := (mW G a v)) (st1 := [.int q1668]) (As := [.int x1]) (rest := []) hCF (k_X8_showsOf a v x1 hq1668) (cwV 1 hts gX8_bride_X8_showsOf rfl rfl rfl ⟨rfl, dk_X8_showsOf⟩ ⟨Nat.le_of_ble_eq_true rfl, Nat.le_of_ble_eq_true rfl⟩) hE hAB hP hD hS [0, 1, 2, 3, 4, 5, 6, 7, 8, 9, 10, 11, 12, 13, 14, 15, 16, 17, 18, 19, 20, 21, 22, 23, 24] mW_d (mW_c G a v) (va_recv hE.1 hP (ci := 5) (q0 := 0) rfl (mW_o G a v)) (mW_f G a v v) (mW_s G a v v) rfl rfl hl.1 rfl (Nat.le_of_ble_eq_true rfl) dX8_bride_75 ⟨Nat.le_refl _, Nat.le_refl _⟩ (fun H locs hP hD hS => ?_)
            exact fc_reti hx hb hr hlocks hP hS dX8_bride_78 (i2a hf) (congrArg (fun z => (mW G a z)) (i2b hf))
          · have hf := ifF hf c1667
            by_cases c1669 : x2 = (4 : Int32)
            · have hf := ifT hf c1669
              refine lv_tableIn (off := 64) (tgt := 79) hx hb dX8_bride_15 (by rw [c1669]; decide) (by rw [c1669]; decide) (by rw [c1669]; rfl) (by decide) ?_
              refine lv_aload_n hx hb dX8_bride_79 rfl (lv_at hl 0 rfl) ?_
              refine fc_get (v := .ref (a 6)) (ci := 5) (C := RX8) (T := TX8) (N := 29) hx hb hwX8 hown hE hP 0 (mW_o G a v) rfl 5 (by decide) hk_fieldLink_RX8_25__BrideNotKnownModel___sent____I_ (fun _ h => h) rfl dX8_bride_80 ?_
              refine lv_iload_n hx hb dX8_bride_83 rfl (lv_at hl 1 rfl) ?_
              obtain ⟨c1670, hf⟩ := gd_some hf
              refine fc_iald (n := 8) (f := (v 5)) hx hb hE hP 6 (mW_a6 G a v) (inB_in c1670) dX8_bride_84 ?_
              exact fc_reti hx hb hr hlocks hP hS dX8_bride_85 (i2a hf) (congrArg (fun z => (mW G a z)) (i2b hf))
            · have hf := ifF hf c1669
              by_cases c1671 : x2 = (5 : Int32)
              · have hf := ifT hf c1671
                refine lv_tableIn (off := 71) (tgt := 86) hx hb dX8_bride_15 (by rw [c1671]; decide) (by rw [c1671]; decide) (by rw [c1671]; rfl) (by decide) ?_
                refine lv_aload_n hx hb dX8_bride_86 rfl (lv_at hl 0 rfl) ?_
                refine fc_get (v := .ref (a 5)) (ci := 5) (C := RX8) (T := TX8) (N := 29) hx hb hwX8 hown hE hP 0 (mW_o G a v) rfl 4 (by decide) hk_fieldLink_RX8_22__BrideNotKnownModel___state____I_ (fun _ h => h) rfl dX8_bride_87 ?_
                refine lv_iload_n hx hb dX8_bride_90 rfl (lv_at hl 1 rfl) ?_
                obtain ⟨c1672, hf⟩ := gd_some hf
                refine fc_iald (n := 8) (f := (v 4)) hx hb hE hP 5 (mW_a5 G a v) (inB_in c1672) dX8_bride_91 ?_
                exact fc_reti hx hb hr hlocks hP hS dX8_bride_92 (i2a hf) (congrArg (fun z => (mW G a z)) (i2b hf))
              · have hf := ifF hf c1671
                refine lv_tableOut (tgt := 93) hx hb dX8_bride_15 (by have dc1661 := lv_neT c1661 (a := 0) (by decide); have dc1663 := lv_neT c1663 (a := 1) (by decide); have dc1665 := lv_neT c1665 (a := 2) (by decide); have dc1667 := lv_neT c1667 (a := 3) (by decide); have dc1669 := lv_neT c1669 (a := 4) (by decide); have dc1671 := lv_neT c1671 (a := 5) (by decide); omega) (by decide) ?_
                refine lv_aload_n hx hb dX8_bride_93 rfl (lv_at hl 0 rfl) ?_
                refine lv_bipush (v := (-2 : Int32)) hx hb dX8_bride_94 (by decide) ?_
                obtain ⟨q1673, hq1673, hf⟩ := bnd hf
                refine fc_callV (Wa' := (mW G a q1673.2)) (st1 := [.int q1673.1]) (As := [.int (-2 : Int32)]) (rest := []) hCF (k_X8_no a v (-2 : Int32) hq1673) (cwV 1 hts gX8_bride_X8_no rfl rfl rfl ⟨rfl, dk_X8_no⟩ ⟨Nat.le_of_ble_eq_true rfl, Nat.le_of_ble_eq_true rfl⟩) hE hAB hP hD hS [0, 1, 2, 3, 4, 5, 6, 7, 8, 9, 10, 11, 12, 13, 14, 15, 16, 17, 18, 19, 20, 21, 22, 23, 24] mW_d (mW_c G a v) (va_recv hE.1 hP (ci := 5) (q0 := 0) rfl (mW_o G a v)) (mW_f G a v q1673.2) (mW_s G a v q1673.2) rfl rfl hl.1 rfl (Nat.le_of_ble_eq_true rfl) dX8_bride_96 ⟨Nat.le_refl _, Nat.le_refl _⟩ (fun H locs hP hD hS => ?_)
                exact fc_reti hx hb hr hlocks hP hS dX8_bride_99 (i2a hf) (congrArg (fun z => (mW G a z)) (i2b hf))
  · have hf := ifT hf c1660
    refine lv_aload_n hx hb dX8_bride_8 rfl (lv_at hl 0 rfl) ?_
    refine lv_iconst (v := (-1 : Int32)) hx hb dX8_bride_9 (by decide) ?_
    obtain ⟨q1674, hq1674, hf⟩ := bnd hf
    refine fc_callV (Wa' := (mW G a q1674.2)) (st1 := [.int q1674.1]) (As := [.int (-1 : Int32)]) (rest := []) hCF (k_X8_no a v (-1 : Int32) hq1674) (cwV 1 hts gX8_bride_X8_no rfl rfl rfl ⟨rfl, dk_X8_no⟩ ⟨Nat.le_of_ble_eq_true rfl, Nat.le_of_ble_eq_true rfl⟩) hE hAB hP hD hS [0, 1, 2, 3, 4, 5, 6, 7, 8, 9, 10, 11, 12, 13, 14, 15, 16, 17, 18, 19, 20, 21, 22, 23, 24] mW_d (mW_c G a v) (va_recv hE.1 hP (ci := 5) (q0 := 0) rfl (mW_o G a v)) (mW_f G a v q1674.2) (mW_s G a v q1674.2) rfl rfl hl.1 rfl (Nat.le_of_ble_eq_true rfl) dX8_bride_10 ⟨Nat.le_refl _, Nat.le_refl _⟩ (fun H locs hP hD hS => ?_)
    exact fc_reti hx hb hr hlocks hP hS dX8_bride_13 (i2a hf) (congrArg (fun z => (mW G a z)) (i2b hf))
theorem dk_X8_here : yX8_here.cls ≠ "java/lang/invoke/MethodHandle" ∧ yX8_here.cls ≠ "java/lang/invoke/VarHandle" ∧ (parseMethodDescriptor yX8_here.desc).map (fun d => d.parameters.length) = some 0 := by decide +kernel
theorem iu_X8_here_X8 : ∀ w ∈ u_ws RX8 TX8 29, w ∈ wsX8_here := by decide +kernel
set_option maxHeartbeats 4000000 in
set_option maxRecDepth 100000 in
theorem k_X8_here {l : Launch} {G : Gx} (a : Nat → Nat) (v : St) {r : Int32} (hf : f_X8_here v = some r) : FC l G yX8_here wsX8_here ({ frames := 0, cells := 0, slots := 0, locals := 0 } : Room) [.ref (a 0)] (mW G a v) (mW G a v) (some (.int r)) := by
  refine fc_head (cc := cX8_here) (maxL := 3) (ret := (some .int)) (C := RX8) (lv := [(0, .ref (a 0))]) (by decide) rfl rfl (Nat.le_of_ble_eq_true rfl) rfl ?_
  intro p e s m below meth c ls A hx hb hr hml hown hts hlocks hE hP hD hAB hS hl
  have hCF : CallFix p m c cX8_here 3 s ([.ref (a 0)] : List Value).toArray wsX8_here RX8 := ⟨hx, hb, hml, hown, hts⟩
  have hwX8 : ∀ w ∈ u_ws RX8 TX8 29, w.before ([.ref (a 0)] : List Value).toArray s = true := fun w h => hts w (iu_X8_here_X8 w h)
  have hk_fieldLink_RX8_66__BrideNotKnownModel___brides___I_ := hts (.fieldLink RX8 66 "BrideNotKnownModel" "brides" "I") (List.mem_of_getElem? (i := 1) rfl)
  have hk_fieldLink_RX8_22__BrideNotKnownModel___state____I_ := hts (.fieldLink RX8 22 "BrideNotKnownModel" "state" "[I") (List.mem_of_getElem? (i := 2) rfl)
  rw [f_X8_here] at hf
  refine lv_iconst (v := (0 : Int32)) hx hb dX8_here_0 (by decide) ?_
  refine lv_istore_n (lv' := [(1, .int (0 : Int32)), (0, .ref (a 0))]) hx hb dX8_here_1 rfl hl (by decide) rfl (fun ls hl => ?_)
  refine lv_iconst (v := (0 : Int32)) hx hb dX8_here_2 (by decide) ?_
  refine lv_istore_n (lv' := [(2, .int (0 : Int32)), (1, .int (0 : Int32)), (0, .ref (a 0))]) hx hb dX8_here_3 rfl hl (by decide) rfl (fun ls hl => ?_)
  have L4_1677 : ∀ (n : Nat) (x1_1675 : Int32) (x2_1676 : Int32) (H : Heap) (locs : List Loc) (ls : Array Slot), va_P (gD G) vwCl (mW G a v) H → va_D A (mW G a v) → va_S A s.heap H locs → lv_has ls 3 [(0, .ref (a 0)), (1, .int x1_1675), (2, .int x2_1676)] → f_X8_here_4 v n x1_1675 x2_1676 = some r → W p l e (headSpec wsX8_here ({ frames := 0, cells := 0, slots := 0, locals := 0 } : Room)).room s m ([.ref (a 0)] : List Value).toArray below meth c H locs 0 0 (MQ below (FQ G A (mW G a v) (some (.int r))) ([.ref (a 0)] : List Value).toArray s 0 0 A) (F0 m 4 ls []) := by
    intro n
    induction n with
    | zero =>
      intro x1_1675 x2_1676 H locs ls hP hD hS hl hf
      exact no_some hf
    | succ n ih =>
      intro x1_1675 x2_1676 H locs ls hP hD hS hl hf
      rw [f_X8_here_4] at hf
      refine lv_iload_n hx hb dX8_here_4 rfl (lv_at hl 2 rfl) ?_
      refine lv_aload_n hx hb dX8_here_5 rfl (lv_at hl 0 rfl) ?_
      refine fc_get (v := .int (v 23 0)) (ci := 5) (C := RX8) (T := TX8) (N := 29) hx hb hwX8 hown hE hP 0 (mW_o G a v) rfl 10 (by decide) hk_fieldLink_RX8_66__BrideNotKnownModel___brides___I_ (fun _ h => h) rfl dX8_here_6 ?_
      refine lv_icmp_ge (tgt := 37) hx hb dX8_here_9 (by decide) (fun c1678 => ?_) (fun c1678 => ?_)
      · have hf := ifT hf c1678
        refine lv_iload_n hx hb dX8_here_37 rfl (lv_at hl 1 rfl) ?_
        exact fc_reti hx hb hr hlocks hP hS dX8_here_38 (i1 hf) rfl
      · have hf := ifF hf c1678
        refine lv_iload_n hx hb dX8_here_12 rfl (lv_at hl 1 rfl) ?_
        refine lv_aload_n hx hb dX8_here_13 rfl (lv_at hl 0 rfl) ?_
        refine fc_get (v := .ref (a 5)) (ci := 5) (C := RX8) (T := TX8) (N := 29) hx hb hwX8 hown hE hP 0 (mW_o G a v) rfl 4 (by decide) hk_fieldLink_RX8_22__BrideNotKnownModel___state____I_ (fun _ h => h) rfl dX8_here_14 ?_
        refine lv_iload_n hx hb dX8_here_17 rfl (lv_at hl 2 rfl) ?_
        obtain ⟨c1679, hf⟩ := gd_some hf
        refine fc_iald (n := 8) (f := (v 4)) hx hb hE hP 5 (mW_a5 G a v) (inB_in c1679) dX8_here_18 ?_
        refine lv_if_ne (tgt := 28) hx hb dX8_here_19 (by decide) (fun c1680 => ?_) (fun c1680 => ?_)
        · have hf := ifF hf c1680
          refine lv_iconst (v := (0 : Int32)) hx hb dX8_here_28 (by decide) ?_
          refine lv_ior hx hb dX8_here_29 ?_
          refine lv_istore_n (lv' := [(1, .int (x1_1675 ||| (0 : Int32))), (0, .ref (a 0)), (2, .int x2_1676)]) hx hb dX8_here_30 rfl hl (by decide) rfl (fun ls hl => ?_)
          refine lv_iinc (v := (x2_1676 + (1 : Int32))) (lv' := [(2, .int (x2_1676 + (1 : Int32))), (1, .int (x1_1675 ||| (0 : Int32))), (0, .ref (a 0))]) hx hb dX8_here_31 hl (k := 2) rfl rfl (by decide) rfl (fun ls hl => ?_)
          refine lv_goto (tgt := 4) hx hb dX8_here_34 (by decide) ?_
          exact ih (x1_1675 ||| (0 : Int32)) (x2_1676 + (1 : Int32)) _ _ _ hP hD hS (lv_sub hl [2, 1, 0] rfl) hf
        · have hf := ifT hf c1680
          refine lv_iconst (v := (1 : Int32)) hx hb dX8_here_22 (by decide) ?_
          refine lv_iload_n hx hb dX8_here_23 rfl (lv_at hl 2 rfl) ?_
          refine lv_ishl hx hb dX8_here_24 ?_
          refine lv_goto (tgt := 29) hx hb dX8_here_25 (by decide) ?_
          refine lv_ior hx hb dX8_here_29 ?_
          refine lv_istore_n (lv' := [(1, .int (x1_1675 ||| ((1 : Int32) <<< (x2_1676 &&& 31)))), (0, .ref (a 0)), (2, .int x2_1676)]) hx hb dX8_here_30 rfl hl (by decide) rfl (fun ls hl => ?_)
          refine lv_iinc (v := (x2_1676 + (1 : Int32))) (lv' := [(2, .int (x2_1676 + (1 : Int32))), (1, .int (x1_1675 ||| ((1 : Int32) <<< (x2_1676 &&& 31)))), (0, .ref (a 0))]) hx hb dX8_here_31 hl (k := 2) rfl rfl (by decide) rfl (fun ls hl => ?_)
          refine lv_goto (tgt := 4) hx hb dX8_here_34 (by decide) ?_
          exact ih (x1_1675 ||| ((1 : Int32) <<< (x2_1676 &&& 31))) (x2_1676 + (1 : Int32)) _ _ _ hP hD hS (lv_sub hl [2, 1, 0] rfl) hf
  exact L4_1677 FUEL (0 : Int32) (0 : Int32) _ _ _ hP hD hS (lv_sub hl [2, 1, 0] rfl) hf
theorem dk_X8_canWed : yX8_canWed.cls ≠ "java/lang/invoke/MethodHandle" ∧ yX8_canWed.cls ≠ "java/lang/invoke/VarHandle" ∧ (parseMethodDescriptor yX8_canWed.desc).map (fun d => d.parameters.length) = some 1 := by decide +kernel
theorem iu_X8_canWed_X8 : ∀ w ∈ u_ws RX8 TX8 29, w ∈ wsX8_canWed := by decide +kernel
set_option maxHeartbeats 4000000 in
set_option maxRecDepth 100000 in
theorem k_X8_canWed {l : Launch} {G : Gx} (a : Nat → Nat) (v : St) (x1 : Int32) {r : Int32} (hf : f_X8_canWed v x1 = some r) : FC l G yX8_canWed wsX8_canWed ({ frames := 1, cells := 0, slots := 0, locals := 22 } : Room) [.ref (a 0), .int x1] (mW G a v) (mW G a v) (some (.int r)) := by
  refine fc_head (cc := cX8_canWed) (maxL := 2) (ret := (some .boolean)) (C := RX8) (lv := [(0, .ref (a 0)), (1, .int x1)]) (by decide) rfl rfl (Nat.le_of_ble_eq_true rfl) rfl ?_
  intro p e s m below meth c ls A hx hb hr hml hown hts hlocks hE hP hD hAB hS hl
  have hCF : CallFix p m c cX8_canWed 2 s ([.ref (a 0), .int x1] : List Value).toArray wsX8_canWed RX8 := ⟨hx, hb, hml, hown, hts⟩
  have hwX8 : ∀ w ∈ u_ws RX8 TX8 29, w.before ([.ref (a 0), .int x1] : List Value).toArray s = true := fun w h => hts w (iu_X8_canWed_X8 w h)
  have hk_fieldLink_RX8_37__BrideNotKnownModel___married____I_ := hts (.fieldLink RX8 37 "BrideNotKnownModel" "married" "[I") (List.mem_of_getElem? (i := 1) rfl)
  rw [f_X8_canWed] at hf
  refine lv_aload_n hx hb dX8_canWed_0 rfl (lv_at hl 0 rfl) ?_
  refine fc_get (v := .ref (a 10)) (ci := 5) (C := RX8) (T := TX8) (N := 29) hx hb hwX8 hown hE hP 0 (mW_o G a v) rfl 9 (by decide) hk_fieldLink_RX8_37__BrideNotKnownModel___married____I_ (fun _ h => h) rfl dX8_canWed_1 ?_
  refine lv_iload_n hx hb dX8_canWed_4 rfl (lv_at hl 1 rfl) ?_
  obtain ⟨c1682, hf⟩ := gd_some hf
  refine fc_iald (n := 5) (f := (v 9)) hx hb hE hP 10 (mW_a10 G a v) (inB_in c1682) dX8_canWed_5 ?_
  refine lv_if_ne (tgt := 20) hx hb dX8_canWed_6 (by decide) (fun c1683 => ?_) (fun c1683 => ?_)
  · have hf := ifF hf c1683
    refine lv_iconst (v := (0 : Int32)) hx hb dX8_canWed_20 (by decide) ?_
    exact fc_retz hx hb hr hlocks hP hS dX8_canWed_21 (by decide) (i1 hf) rfl
  · have hf := ifT hf c1683
    refine lv_aload_n hx hb dX8_canWed_9 rfl (lv_at hl 0 rfl) ?_
    obtain ⟨q1684, hq1684, hf⟩ := bnd hf
    refine fc_callV (Wa' := (mW G a v)) (st1 := [.int q1684]) (As := []) (rest := []) hCF (k_X8_here a v hq1684) (cwV 0 hts gX8_canWed_X8_here rfl rfl rfl ⟨rfl, dk_X8_here⟩ ⟨Nat.le_of_ble_eq_true rfl, Nat.le_of_ble_eq_true rfl⟩) hE hAB hP hD hS [0, 1, 2, 3, 4, 5, 6, 7, 8, 9, 10, 11, 12, 13, 14, 15, 16, 17, 18, 19, 20, 21, 22, 23, 24] mW_d (mW_c G a v) (va_recv hE.1 hP (ci := 5) (q0 := 0) rfl (mW_o G a v)) (mW_f G a v v) (mW_s G a v v) rfl rfl hl.1 rfl (Nat.le_of_ble_eq_true rfl) dX8_canWed_10 ⟨Nat.le_refl _, Nat.le_refl _⟩ (fun H locs hP hD hS => ?_)
    refine lv_if_eq (tgt := 20) hx hb dX8_canWed_13 (by decide) (fun c1685 => ?_) (fun c1685 => ?_)
    · have hf := ifT hf c1685
      refine lv_iconst (v := (0 : Int32)) hx hb dX8_canWed_20 (by decide) ?_
      exact fc_retz hx hb hr hlocks hP hS dX8_canWed_21 (by decide) (i1 hf) rfl
    · have hf := ifF hf c1685
      refine lv_iconst (v := (1 : Int32)) hx hb dX8_canWed_16 (by decide) ?_
      refine lv_goto (tgt := 21) hx hb dX8_canWed_17 (by decide) ?_
      exact fc_retz hx hb hr hlocks hP hS dX8_canWed_21 (by decide) (i1 hf) rfl
theorem dk_X8_lowestOf : yX8_lowestOf.cls ≠ "java/lang/invoke/MethodHandle" ∧ yX8_lowestOf.cls ≠ "java/lang/invoke/VarHandle" ∧ (parseMethodDescriptor yX8_lowestOf.desc).map (fun d => d.parameters.length) = some 1 := by decide +kernel
theorem iu_X8_lowestOf_X8 : ∀ w ∈ u_ws RX8 TX8 29, w ∈ wsX8_lowestOf := by decide +kernel
set_option maxHeartbeats 4000000 in
set_option maxRecDepth 100000 in
theorem k_X8_lowestOf {l : Launch} {G : Gx} (a : Nat → Nat) (v : St) (x1 : Int32) {r : Int64} {v' : St} (hf : f_X8_lowestOf v x1 = some (r, v')) : FC l G yX8_lowestOf wsX8_lowestOf ({ frames := 0, cells := 0, slots := 0, locals := 0 } : Room) [.ref (a 0), .int x1] (mW G a v) (mW G a v') (some (.long r)) := by
  refine fc_head (cc := cX8_lowestOf) (maxL := 2) (ret := (some .long)) (C := RX8) (lv := [(0, .ref (a 0)), (1, .int x1)]) (by decide) rfl rfl (Nat.le_of_ble_eq_true rfl) rfl ?_
  intro p e s m below meth c ls A hx hb hr hml hown hts hlocks hE hP hD hAB hS hl
  have hCF : CallFix p m c cX8_lowestOf 2 s ([.ref (a 0), .int x1] : List Value).toArray wsX8_lowestOf RX8 := ⟨hx, hb, hml, hown, hts⟩
  have hwX8 : ∀ w ∈ u_ws RX8 TX8 29, w.before ([.ref (a 0), .int x1] : List Value).toArray s = true := fun w h => hts w (iu_X8_lowestOf_X8 w h)
  have hk_fieldLink_RX8_7__BrideNotKnownModel___refused____I_ := hts (.fieldLink RX8 7 "BrideNotKnownModel" "refused" "[I") (List.mem_of_getElem? (i := 1) rfl)
  have hk_constantLong_RX8_70__4000000000000000000_ := hts (.constantLong RX8 70 (4000000000000000000)) (List.mem_of_getElem? (i := 2) rfl)
  rw [f_X8_lowestOf] at hf
  refine lv_aload_n hx hb dX8_lowestOf_0 rfl (lv_at hl 0 rfl) ?_
  refine fc_get (v := .ref (a 1)) (ci := 5) (C := RX8) (T := TX8) (N := 29) hx hb hwX8 hown hE hP 0 (mW_o G a v) rfl 0 (by decide) hk_fieldLink_RX8_7__BrideNotKnownModel___refused____I_ (fun _ h => h) rfl dX8_lowestOf_1 ?_
  refine lv_iload_n hx hb dX8_lowestOf_4 rfl (lv_at hl 1 rfl) ?_
  refine lv_ineg hx hb dX8_lowestOf_5 ?_
  refine lv_dup2_11 hx hb dX8_lowestOf_6 rfl rfl ?_
  obtain ⟨c1686, hf⟩ := gd_some hf
  refine fc_iald (n := 7) (f := (v 0)) hx hb hE hP 1 (mW_a1 G a v) (inB_in c1686) dX8_lowestOf_7 ?_
  refine lv_iconst (v := (1 : Int32)) hx hb dX8_lowestOf_8 (by decide) ?_
  refine lv_iadd hx hb dX8_lowestOf_9 ?_
  obtain ⟨c1687, hf⟩ := gd_some hf
  refine fc_iast (n := 7) (f := (v 0)) (Wa' := (mW G a (sA v 0 (upd (v 0) (-x1).toNatClampNeg (((v 0) (-x1).toNatClampNeg) + (1 : Int32)))))) hx hb hE hP hD hS 1 (mW_a1 G a v) (inB_in c1687) dX8_lowestOf_10 (mW_t1 G a v (upd (v 0) (-x1).toNatClampNeg (((v 0) (-x1).toNatClampNeg) + (1 : Int32)))) (fun H locs hP hD hS => ?_)
  refine lv_ldc2 (v := (4000000000000000000 : Int64)) hx hb hown hk_constantLong_RX8_70__4000000000000000000_ dX8_lowestOf_11 ?_
  refine lv_iload_n hx hb dX8_lowestOf_14 rfl (lv_at hl 1 rfl) ?_
  refine lv_i2l (v := x1.toInt64) hx hb dX8_lowestOf_15 rfl ?_
  refine lv_lsub hx hb dX8_lowestOf_16 ?_
  exact fc_retl hx hb hr hlocks hP hS dX8_lowestOf_17 (i2a hf) (congrArg (fun z => (mW G a z)) (i2b hf))
theorem dk_X8_divisor : yX8_divisor.cls ≠ "java/lang/invoke/MethodHandle" ∧ yX8_divisor.cls ≠ "java/lang/invoke/VarHandle" ∧ (parseMethodDescriptor yX8_divisor.desc).map (fun d => d.parameters.length) = some 2 := by decide +kernel
set_option maxHeartbeats 4000000 in
set_option maxRecDepth 100000 in
theorem k_X8_divisor {l : Launch} {G : Gx} (y0 : Int64) (y2 : Int64) {r : Int64} (hf : f_X8_divisor y0 y2 = some r) : FC l G yX8_divisor wsX8_divisor ({ frames := 0, cells := 0, slots := 0, locals := 0 } : Room) [.long y0, .long y2] ([] : va_W) ([] : va_W) (some (.long r)) := by
  refine fc_head (cc := cX8_divisor) (maxL := 10) (ret := (some .long)) (C := RX8) (lv := [(0, .long y0), (2, .long y2)]) (by decide) rfl rfl (Nat.le_of_ble_eq_true rfl) rfl ?_
  intro p e s m below meth c ls A hx hb hr hml hown hts hlocks hE hP hD hAB hS hl
  have hCF : CallFix p m c cX8_divisor 10 s ([.long y0, .long y2] : List Value).toArray wsX8_divisor RX8 := ⟨hx, hb, hml, hown, hts⟩
  rw [f_X8_divisor] at hf
  refine lv_lload_n hx hb dX8_divisor_0 rfl (lv_at hl 0 rfl) ?_
  refine lv_lstore (lv' := [(4, .long y0), (0, .long y0), (2, .long y2)]) hx hb dX8_divisor_1 hl (by decide) rfl (fun ls hl => ?_)
  refine lv_lload_n hx hb dX8_divisor_3 rfl (lv_at hl 2 rfl) ?_
  refine lv_lstore (lv' := [(6, .long y2), (4, .long y0), (0, .long y0), (2, .long y2)]) hx hb dX8_divisor_4 hl (by decide) rfl (fun ls hl => ?_)
  have L6_1690 : ∀ (n : Nat) (y4_1688 : Int64) (y6_1689 : Int64) (H : Heap) (locs : List Loc) (ls : Array Slot), va_P (gD G) vwCl ([] : va_W) H → va_D A ([] : va_W) → va_S A s.heap H locs → lv_has ls 10 [(4, .long y4_1688), (6, .long y6_1689)] → f_X8_divisor_6 n y4_1688 y6_1689 = some r → W p l e (headSpec wsX8_divisor ({ frames := 0, cells := 0, slots := 0, locals := 0 } : Room)).room s m ([.long y0, .long y2] : List Value).toArray below meth c H locs 0 0 (MQ below (FQ G A ([] : va_W) (some (.long r))) ([.long y0, .long y2] : List Value).toArray s 0 0 A) (F0 m 6 ls []) := by
    intro n
    induction n with
    | zero =>
      intro y4_1688 y6_1689 H locs ls hP hD hS hl hf
      exact no_some hf
    | succ n ih =>
      intro y4_1688 y6_1689 H locs ls hP hD hS hl hf
      rw [f_X8_divisor_6] at hf
      refine lv_lload hx hb dX8_divisor_6 (lv_at hl 1 rfl) ?_
      refine lv_lconst (v := (0 : Int64)) hx hb dX8_divisor_8 (by decide) ?_
      refine W.lcmp hx hb dX8_divisor_9 ?_
      refine lv_if_eq (tgt := 31) hx hb dX8_divisor_10 (by decide) (fun c1691 => ?_) (fun c1691 => ?_)
      · have hf := ifT hf c1691
        refine lv_lload hx hb dX8_divisor_31 (lv_at hl 0 rfl) ?_
        exact fc_retl hx hb hr hlocks hP hS dX8_divisor_33 (i1 hf) rfl
      · have hf := ifF hf c1691
        refine lv_lload hx hb dX8_divisor_13 (lv_at hl 0 rfl) ?_
        refine lv_lload hx hb dX8_divisor_15 (lv_at hl 1 rfl) ?_
        obtain ⟨c1692, hf⟩ := gd_some hf
        refine lv_lrem hx hb dX8_divisor_17 (nzL_ne c1692) ?_
        refine lv_lstore (lv' := [(8, .long (y4_1688 - y4_1688 / y6_1689 * y6_1689)), (4, .long y4_1688), (6, .long y6_1689)]) hx hb dX8_divisor_18 hl (by decide) rfl (fun ls hl => ?_)
        refine lv_lload hx hb dX8_divisor_20 (lv_at hl 2 rfl) ?_
        refine lv_lstore (lv' := [(4, .long y6_1689), (8, .long (y4_1688 - y4_1688 / y6_1689 * y6_1689)), (6, .long y6_1689)]) hx hb dX8_divisor_22 hl (by decide) rfl (fun ls hl => ?_)
        refine lv_lload hx hb dX8_divisor_24 (lv_at hl 1 rfl) ?_
        refine lv_lstore (lv' := [(6, .long (y4_1688 - y4_1688 / y6_1689 * y6_1689)), (4, .long y6_1689), (8, .long (y4_1688 - y4_1688 / y6_1689 * y6_1689))]) hx hb dX8_divisor_26 hl (by decide) rfl (fun ls hl => ?_)
        refine lv_goto (tgt := 6) hx hb dX8_divisor_28 (by decide) ?_
        exact ih y6_1689 (y4_1688 - y4_1688 / y6_1689 * y6_1689) _ _ _ hP hD hS (lv_sub hl [1, 0] rfl) hf
  exact L6_1690 FUEL y0 y2 _ _ _ hP hD hS (lv_sub hl [1, 0] rfl) hf
theorem dk_X8_partOf : yX8_partOf.cls ≠ "java/lang/invoke/MethodHandle" ∧ yX8_partOf.cls ≠ "java/lang/invoke/VarHandle" ∧ (parseMethodDescriptor yX8_partOf.desc).map (fun d => d.parameters.length) = some 3 := by decide +kernel
set_option maxHeartbeats 4000000 in
set_option maxRecDepth 100000 in
theorem k_X8_partOf {l : Launch} {G : Gx} (y0 : Int64) (y2 : Int64) (x4 : Int32) {r : Int64} (hf : f_X8_partOf y0 y2 x4 = some r) : FC l G yX8_partOf wsX8_partOf ({ frames := 1, cells := 0, slots := 0, locals := 29 } : Room) [.long y0, .long y2, .int x4] ([] : va_W) ([] : va_W) (some (.long r)) := by
  refine fc_head (cc := cX8_partOf) (maxL := 5) (ret := (some .long)) (C := RX8) (lv := [(0, .long y0), (2, .long y2), (4, .int x4)]) (by decide) rfl rfl (Nat.le_of_ble_eq_true rfl) rfl ?_
  intro p e s m below meth c ls A hx hb hr hml hown hts hlocks hE hP hD hAB hS hl
  have hCF : CallFix p m c cX8_partOf 5 s ([.long y0, .long y2, .int x4] : List Value).toArray wsX8_partOf RX8 := ⟨hx, hb, hml, hown, hts⟩
  rw [f_X8_partOf] at hf
  refine lv_iload hx hb dX8_partOf_0 (lv_at hl 2 rfl) ?_
  refine lv_if_ne (tgt := 9) hx hb dX8_partOf_2 (by decide) (fun c1695 => ?_) (fun c1695 => ?_)
  · have hf := ifF hf c1695
    refine lv_lload_n hx hb dX8_partOf_9 rfl (lv_at hl 1 rfl) ?_
    refine lv_lload_n hx hb dX8_partOf_10 rfl (lv_at hl 0 rfl) ?_
    refine lv_lload_n hx hb dX8_partOf_11 rfl (lv_at hl 1 rfl) ?_
    obtain ⟨q1696, hq1696, hf⟩ := bnd hf
    refine fc_callS (Wa' := ([] : va_W)) (st1 := [.long q1696, .long y2]) (As := [.long y0, .long y2]) (rest := [.long y2]) hCF (k_X8_divisor y0 y2 hq1696) (va_cwS 2 hts gX8_partOf_X8_divisor rfl rfl rfl dk_X8_divisor ⟨Nat.le_of_ble_eq_true rfl, Nat.le_of_ble_eq_true rfl⟩) hE hAB hP hD hS [] rfl rfl rfl rfl rfl rfl hl.1 rfl (Nat.le_of_ble_eq_true rfl) dX8_partOf_12 ⟨Nat.le_refl _, Nat.le_refl _⟩ (fun H locs hP hD hS => ?_)
    obtain ⟨c1697, hf⟩ := gd_some hf
    refine lv_ldiv hx hb dX8_partOf_15 (nzL_ne c1697) ?_
    exact fc_retl hx hb hr hlocks hP hS dX8_partOf_16 (i1 hf) rfl
  · have hf := ifT hf c1695
    refine lv_lload_n hx hb dX8_partOf_5 rfl (lv_at hl 0 rfl) ?_
    refine lv_goto (tgt := 10) hx hb dX8_partOf_6 (by decide) ?_
    refine lv_lload_n hx hb dX8_partOf_10 rfl (lv_at hl 0 rfl) ?_
    refine lv_lload_n hx hb dX8_partOf_11 rfl (lv_at hl 1 rfl) ?_
    obtain ⟨q1698, hq1698, hf⟩ := bnd hf
    refine fc_callS (Wa' := ([] : va_W)) (st1 := [.long q1698, .long y0]) (As := [.long y0, .long y2]) (rest := [.long y0]) hCF (k_X8_divisor y0 y2 hq1698) (va_cwS 2 hts gX8_partOf_X8_divisor rfl rfl rfl dk_X8_divisor ⟨Nat.le_of_ble_eq_true rfl, Nat.le_of_ble_eq_true rfl⟩) hE hAB hP hD hS [] rfl rfl rfl rfl rfl rfl hl.1 rfl (Nat.le_of_ble_eq_true rfl) dX8_partOf_12 ⟨Nat.le_refl _, Nat.le_refl _⟩ (fun H locs hP hD hS => ?_)
    obtain ⟨c1699, hf⟩ := gd_some hf
    refine lv_ldiv hx hb dX8_partOf_15 (nzL_ne c1699) ?_
    exact fc_retl hx hb hr hlocks hP hS dX8_partOf_16 (i1 hf) rfl
theorem dk_X8_chance : yX8_chance.cls ≠ "java/lang/invoke/MethodHandle" ∧ yX8_chance.cls ≠ "java/lang/invoke/VarHandle" ∧ (parseMethodDescriptor yX8_chance.desc).map (fun d => d.parameters.length) = some 3 := by decide +kernel
theorem iu_X8_chance_X8 : ∀ w ∈ u_ws RX8 TX8 29, w ∈ wsX8_chance := by decide +kernel
set_option maxHeartbeats 4000000 in
set_option maxRecDepth 100000 in
theorem k_X8_chance {l : Launch} {G : Gx} (a : Nat → Nat) (v : St) (x1 : Int32) (x2 : Int32) (x3 : Int32) {r : Int64} {v' : St} (hf : f_X8_chance v x1 x2 x3 = some (r, v')) : FC l G yX8_chance wsX8_chance ({ frames := 4, cells := 0, slots := 0, locals := 89 } : Room) [.ref (a 0), .int x1, .int x2, .int x3] (mW G a v) (mW G a v') (some (.long r)) := by
  refine fc_head (cc := cX8_chance) (maxL := 12) (ret := (some .long)) (C := RX8) (lv := [(0, .ref (a 0)), (1, .int x1), (2, .int x2), (3, .int x3)]) (by decide) rfl rfl (Nat.le_of_ble_eq_true rfl) rfl ?_
  intro p e s m below meth c ls A hx hb hr hml hown hts hlocks hE hP hD hAB hS hl
  have hCF : CallFix p m c cX8_chance 12 s ([.ref (a 0), .int x1, .int x2, .int x3] : List Value).toArray wsX8_chance RX8 := ⟨hx, hb, hml, hown, hts⟩
  have hwX8 : ∀ w ∈ u_ws RX8 TX8 29, w.before ([.ref (a 0), .int x1, .int x2, .int x3] : List Value).toArray s = true := fun w h => hts w (iu_X8_chance_X8 w h)
  have hk_fieldLink_RX8_76__BrideNotKnownModel___grooms___I_ := hts (.fieldLink RX8 76 "BrideNotKnownModel" "grooms" "I") (List.mem_of_getElem? (i := 1) rfl)
  have hk_fieldLink_RX8_37__BrideNotKnownModel___married____I_ := hts (.fieldLink RX8 37 "BrideNotKnownModel" "married" "[I") (List.mem_of_getElem? (i := 2) rfl)
  rw [f_X8_chance] at hf
  refine lv_aload_n hx hb dX8_chance_0 rfl (lv_at hl 0 rfl) ?_
  refine lv_iload_n hx hb dX8_chance_1 rfl (lv_at hl 1 rfl) ?_
  obtain ⟨q1724, hq1724, hf⟩ := bnd hf
  refine fc_callV (Wa' := (mW G a v)) (st1 := [.int q1724]) (As := [.int x1]) (rest := []) hCF (k_X8_isBride a v x1 hq1724) (cwV 1 hts gX8_chance_X8_isBride rfl rfl rfl ⟨rfl, dk_X8_isBride⟩ ⟨Nat.le_of_ble_eq_true rfl, Nat.le_of_ble_eq_true rfl⟩) hE hAB hP hD hS [0, 1, 2, 3, 4, 5, 6, 7, 8, 9, 10, 11, 12, 13, 14, 15, 16, 17, 18, 19, 20, 21, 22, 23, 24] mW_d (mW_c G a v) (va_recv hE.1 hP (ci := 5) (q0 := 0) rfl (mW_o G a v)) (mW_f G a v v) (mW_s G a v v) rfl rfl hl.1 rfl (Nat.le_of_ble_eq_true rfl) dX8_chance_2 ⟨Nat.le_refl _, Nat.le_refl _⟩ (fun H locs hP hD hS => ?_)
  have J18_1726 : ∀ (s0_1725 : Int32) (H : Heap) (locs : List Loc) (ls : Array Slot), va_P (gD G) vwCl (mW G a v) H → va_D A (mW G a v) → va_S A s.heap H locs → lv_has ls 12 [(0, .ref (a 0)), (1, .int x1), (2, .int x2), (3, .int x3)] → f_X8_chance_18 v x1 x2 x3 s0_1725 = some (r, v') → W p l e (headSpec wsX8_chance ({ frames := 4, cells := 0, slots := 0, locals := 89 } : Room)).room s m ([.ref (a 0), .int x1, .int x2, .int x3] : List Value).toArray below meth c H locs 0 0 (MQ below (FQ G A (mW G a v') (some (.long r))) ([.ref (a 0), .int x1, .int x2, .int x3] : List Value).toArray s 0 0 A) (F0 m 18 ls [.int s0_1725]) := by
    intro s0_1725 H locs ls hP hD hS hl hf
    rw [f_X8_chance_18] at hf
    refine lv_istore (lv' := [(4, .int s0_1725), (0, .ref (a 0)), (1, .int x1), (2, .int x2), (3, .int x3)]) hx hb dX8_chance_18 hl (by decide) rfl (fun ls hl => ?_)
    refine lv_iload hx hb dX8_chance_20 (lv_at hl 0 rfl) ?_
    have J38_1728 : ∀ (x4_1727 : Int32) (H : Heap) (locs : List Loc) (ls : Array Slot), va_P (gD G) vwCl (mW G a v) H → va_D A (mW G a v) → va_S A s.heap H locs → lv_has ls 12 [(0, .ref (a 0)), (1, .int x1), (2, .int x2), (3, .int x3), (4, .int x4_1727)] → f_X8_chance_38 v x1 x2 x3 x4_1727 = some (r, v') → W p l e (headSpec wsX8_chance ({ frames := 4, cells := 0, slots := 0, locals := 89 } : Room)).room s m ([.ref (a 0), .int x1, .int x2, .int x3] : List Value).toArray below meth c H locs 0 0 (MQ below (FQ G A (mW G a v') (some (.long r))) ([.ref (a 0), .int x1, .int x2, .int x3] : List Value).toArray s 0 0 A) (F0 m 38 ls []) := by
      intro x4_1727 H locs ls hP hD hS hl hf
      rw [f_X8_chance_38] at hf
      refine lv_iload hx hb dX8_chance_38 (lv_at hl 4 rfl) ?_
      refine lv_if_eq (tgt := 50) hx hb dX8_chance_40 (by decide) (fun c1729 => ?_) (fun c1729 => ?_)
      · have hf := ifT hf c1729
        refine lv_lconst (v := (1 : Int64)) hx hb dX8_chance_50 (by decide) ?_
        refine lv_lstore (lv' := [(5, .long (1 : Int64)), (0, .ref (a 0)), (1, .int x1), (2, .int x2), (3, .int x3), (4, .int x4_1727)]) hx hb dX8_chance_51 hl (by decide) rfl (fun ls hl => ?_)
        refine lv_lconst (v := (1 : Int64)) hx hb dX8_chance_53 (by decide) ?_
        refine lv_lstore (lv' := [(7, .long (1 : Int64)), (5, .long (1 : Int64)), (0, .ref (a 0)), (1, .int x1), (2, .int x2), (3, .int x3), (4, .int x4_1727)]) hx hb dX8_chance_54 hl (by decide) rfl (fun ls hl => ?_)
        refine lv_aload_n hx hb dX8_chance_56 rfl (lv_at hl 2 rfl) ?_
        obtain ⟨q1730, hq1730, hf⟩ := bnd hf
        refine fc_callV (Wa' := (mW G a v)) (st1 := [.int q1730]) (As := []) (rest := []) hCF (k_X8_here a v hq1730) (cwV 0 hts gX8_chance_X8_here rfl rfl rfl ⟨rfl, dk_X8_here⟩ ⟨Nat.le_of_ble_eq_true rfl, Nat.le_of_ble_eq_true rfl⟩) hE hAB hP hD hS [0, 1, 2, 3, 4, 5, 6, 7, 8, 9, 10, 11, 12, 13, 14, 15, 16, 17, 18, 19, 20, 21, 22, 23, 24] mW_d (mW_c G a v) (va_recv hE.1 hP (ci := 5) (q0 := 0) rfl (mW_o G a v)) (mW_f G a v v) (mW_s G a v v) rfl rfl hl.1 rfl (Nat.le_of_ble_eq_true rfl) dX8_chance_57 ⟨Nat.le_refl _, Nat.le_refl _⟩ (fun H locs hP hD hS => ?_)
        refine lv_if_ne (tgt := 67) hx hb dX8_chance_60 (by decide) (fun c1731 => ?_) (fun c1731 => ?_)
        · have hf := ifF hf c1731
          refine lv_iload_n hx hb dX8_chance_67 rfl (lv_at hl 4 rfl) ?_
          refine lv_istore (lv' := [(9, .int x2), (7, .long (1 : Int64)), (5, .long (1 : Int64)), (0, .ref (a 0)), (1, .int x1), (2, .int x2), (3, .int x3), (4, .int x4_1727)]) hx hb dX8_chance_68 hl (by decide) rfl (fun ls hl => ?_)
          refine lv_iconst (v := (0 : Int32)) hx hb dX8_chance_70 (by decide) ?_
          refine lv_istore (lv' := [(10, .int (0 : Int32)), (9, .int x2), (7, .long (1 : Int64)), (5, .long (1 : Int64)), (0, .ref (a 0)), (1, .int x1), (2, .int x2), (3, .int x3), (4, .int x4_1727)]) hx hb dX8_chance_71 hl (by decide) rfl (fun ls hl => ?_)
          have J171_1734 : ∀ (y5_1732 : Int64) (y7_1733 : Int64) (H : Heap) (locs : List Loc) (ls : Array Slot), va_P (gD G) vwCl (mW G a v) H → va_D A (mW G a v) → va_S A s.heap H locs → lv_has ls 12 [(3, .int x3), (5, .long y5_1732), (7, .long y7_1733)] → f_X8_chance_171 v x3 y5_1732 y7_1733 = some (r, v') → W p l e (headSpec wsX8_chance ({ frames := 4, cells := 0, slots := 0, locals := 89 } : Room)).room s m ([.ref (a 0), .int x1, .int x2, .int x3] : List Value).toArray below meth c H locs 0 0 (MQ below (FQ G A (mW G a v') (some (.long r))) ([.ref (a 0), .int x1, .int x2, .int x3] : List Value).toArray s 0 0 A) (F0 m 171 ls []) := by
            intro y5_1732 y7_1733 H locs ls hP hD hS hl hf
            rw [f_X8_chance_171] at hf
            refine lv_lload hx hb dX8_chance_171 (lv_at hl 2 rfl) ?_
            refine lv_lload hx hb dX8_chance_173 (lv_at hl 1 rfl) ?_
            refine lv_lsub hx hb dX8_chance_175 ?_
            refine lv_lload hx hb dX8_chance_176 (lv_at hl 2 rfl) ?_
            refine lv_iload_n hx hb dX8_chance_178 rfl (lv_at hl 0 rfl) ?_
            obtain ⟨q1735, hq1735, hf⟩ := bnd hf
            refine fc_callS (Wa' := (mW G a v)) (st1 := [.long q1735]) (As := [.long (y7_1733 - y5_1732), .long y7_1733, .int x3]) (rest := []) hCF (k_X8_partOf (y7_1733 - y5_1732) y7_1733 x3 hq1735) (va_cwS 3 hts gX8_chance_X8_partOf rfl rfl rfl dk_X8_partOf ⟨Nat.le_of_ble_eq_true rfl, Nat.le_of_ble_eq_true rfl⟩) hE hAB hP hD hS [] rfl rfl rfl rfl rfl rfl hl.1 rfl (Nat.le_of_ble_eq_true rfl) dX8_chance_179 ⟨Nat.le_refl _, Nat.le_refl _⟩ (fun H locs hP hD hS => ?_)
            exact fc_retl hx hb hr hlocks hP hS dX8_chance_182 (i2a hf) (congrArg (fun z => (mW G a z)) (i2b hf))
          have L73_1740 : ∀ (K73_171 : Int64 → Int64 → Option (Int64 × St)) (hK73_171 : ∀ (y5_1741 : Int64) (y7_1742 : Int64) (H : Heap) (locs : List Loc) (ls : Array Slot), va_P (gD G) vwCl (mW G a v) H → va_D A (mW G a v) → va_S A s.heap H locs → lv_has ls 12 [(3, .int x3), (5, .long y5_1741), (7, .long y7_1742)] → K73_171 y5_1741 y7_1742 = some (r, v') → W p l e (headSpec wsX8_chance ({ frames := 4, cells := 0, slots := 0, locals := 89 } : Room)).room s m ([.ref (a 0), .int x1, .int x2, .int x3] : List Value).toArray below meth c H locs 0 0 (MQ below (FQ G A (mW G a v') (some (.long r))) ([.ref (a 0), .int x1, .int x2, .int x3] : List Value).toArray s 0 0 A) (F0 m 171 ls [])) (n : Nat) (y5_1736 : Int64) (y7_1737 : Int64) (x9_1738 : Int32) (x10_1739 : Int32) (H : Heap) (locs : List Loc) (ls : Array Slot), va_P (gD G) vwCl (mW G a v) H → va_D A (mW G a v) → va_S A s.heap H locs → lv_has ls 12 [(0, .ref (a 0)), (1, .int x1), (3, .int x3), (5, .long y5_1736), (7, .long y7_1737), (9, .int x9_1738), (10, .int x10_1739)] → f_X8_chance_73 v x1 n y5_1736 y7_1737 x9_1738 x10_1739 K73_171 = some (r, v') → W p l e (headSpec wsX8_chance ({ frames := 4, cells := 0, slots := 0, locals := 89 } : Room)).room s m ([.ref (a 0), .int x1, .int x2, .int x3] : List Value).toArray below meth c H locs 0 0 (MQ below (FQ G A (mW G a v') (some (.long r))) ([.ref (a 0), .int x1, .int x2, .int x3] : List Value).toArray s 0 0 A) (F0 m 73 ls []) := by
            intro K73_171 hK73_171 n
            induction n with
            | zero =>
              intro y5_1736 y7_1737 x9_1738 x10_1739 H locs ls hP hD hS hl hf
              exact no_some hf
            | succ n ih =>
              intro y5_1736 y7_1737 x9_1738 x10_1739 H locs ls hP hD hS hl hf
              rw [f_X8_chance_73] at hf
              refine lv_iload hx hb dX8_chance_73 (lv_at hl 6 rfl) ?_
              refine lv_aload_n hx hb dX8_chance_75 rfl (lv_at hl 0 rfl) ?_
              refine fc_get (v := .int (v 23 1)) (ci := 5) (C := RX8) (T := TX8) (N := 29) hx hb hwX8 hown hE hP 0 (mW_o G a v) rfl 11 (by decide) hk_fieldLink_RX8_76__BrideNotKnownModel___grooms___I_ (fun _ h => h) rfl dX8_chance_76 ?_
              refine lv_icmp_ge (tgt := 171) hx hb dX8_chance_79 (by decide) (fun c1743 => ?_) (fun c1743 => ?_)
              · have hf := ifT hf c1743
                exact hK73_171 y5_1736 y7_1737 _ _ _ hP hD hS (lv_sub hl [2, 3, 4] rfl) hf
              · have hf := ifF hf c1743
                refine lv_iload hx hb dX8_chance_82 (lv_at hl 5 rfl) ?_
                refine lv_if_le (tgt := 171) hx hb dX8_chance_84 (by decide) (fun c1744 => ?_) (fun c1744 => ?_)
                · have hf := ifT hf c1744
                  exact hK73_171 y5_1736 y7_1737 _ _ _ hP hD hS (lv_sub hl [2, 3, 4] rfl) hf
                · have hf := ifF hf c1744
                  refine lv_aload_n hx hb dX8_chance_87 rfl (lv_at hl 0 rfl) ?_
                  refine fc_get (v := .ref (a 10)) (ci := 5) (C := RX8) (T := TX8) (N := 29) hx hb hwX8 hown hE hP 0 (mW_o G a v) rfl 9 (by decide) hk_fieldLink_RX8_37__BrideNotKnownModel___married____I_ (fun _ h => h) rfl dX8_chance_88 ?_
                  refine lv_iload hx hb dX8_chance_91 (lv_at hl 6 rfl) ?_
                  obtain ⟨c1745, hf⟩ := gd_some hf
                  refine fc_iald (n := 5) (f := (v 9)) hx hb hE hP 10 (mW_a10 G a v) (inB_in c1745) dX8_chance_93 ?_
                  refine lv_iconst (v := (1 : Int32)) hx hb dX8_chance_94 (by decide) ?_
                  refine lv_icmp_ne (tgt := 101) hx hb dX8_chance_95 (by decide) (fun c1746 => ?_) (fun c1746 => ?_)
                  · have hf := ifF hf c1746
                    refine lv_aload_n hx hb dX8_chance_101 rfl (lv_at hl 0 rfl) ?_
                    refine lv_iload hx hb dX8_chance_102 (lv_at hl 6 rfl) ?_
                    obtain ⟨q1747, hq1747, hf⟩ := bnd hf
                    refine fc_callV (Wa' := (mW G a v)) (st1 := [.int q1747]) (As := [.int x10_1739]) (rest := []) hCF (k_X8_guesses a v x10_1739 hq1747) (cwV 1 hts gX8_chance_X8_guesses rfl rfl rfl ⟨rfl, dk_X8_guesses⟩ ⟨Nat.le_of_ble_eq_true rfl, Nat.le_of_ble_eq_true rfl⟩) hE hAB hP hD hS [0, 1, 2, 3, 4, 5, 6, 7, 8, 9, 10, 11, 12, 13, 14, 15, 16, 17, 18, 19, 20, 21, 22, 23, 24] mW_d (mW_c G a v) (va_recv hE.1 hP (ci := 5) (q0 := 0) rfl (mW_o G a v)) (mW_f G a v v) (mW_s G a v v) rfl rfl hl.1 rfl (Nat.le_of_ble_eq_true rfl) dX8_chance_104 ⟨Nat.le_refl _, Nat.le_refl _⟩ (fun H locs hP hD hS => ?_)
                    have J123_1749 : ∀ (s0_1748 : Int32) (H : Heap) (locs : List Loc) (ls : Array Slot), va_P (gD G) vwCl (mW G a v) H → va_D A (mW G a v) → va_S A s.heap H locs → lv_has ls 12 [(0, .ref (a 0)), (1, .int x1), (3, .int x3), (5, .long y5_1736), (7, .long y7_1737), (9, .int x9_1738), (10, .int x10_1739)] → f_X8_chance_123 x1 y5_1736 y7_1737 x9_1738 x10_1739 s0_1748 (fun (y5_1750 : Int64) (y7_1751 : Int64) (x9_1752 : Int32) (x10_1753 : Int32) => f_X8_chance_73 v x1 n y5_1750 y7_1751 x9_1752 x10_1753 K73_171) = some (r, v') → W p l e (headSpec wsX8_chance ({ frames := 4, cells := 0, slots := 0, locals := 89 } : Room)).room s m ([.ref (a 0), .int x1, .int x2, .int x3] : List Value).toArray below meth c H locs 0 0 (MQ below (FQ G A (mW G a v') (some (.long r))) ([.ref (a 0), .int x1, .int x2, .int x3] : List Value).toArray s 0 0 A) (F0 m 123 ls [.int s0_1748]) := by
                      intro s0_1748 H locs ls hP hD hS hl hf
                      rw [f_X8_chance_123] at hf
                      refine lv_istore (lv' := [(11, .int s0_1748), (0, .ref (a 0)), (1, .int x1), (3, .int x3), (5, .long y5_1736), (7, .long y7_1737), (9, .int x9_1738), (10, .int x10_1739)]) hx hb dX8_chance_123 hl (by decide) rfl (fun ls hl => ?_)
                      refine lv_lload hx hb dX8_chance_125 (lv_at hl 4 rfl) ?_
                      refine lv_iload hx hb dX8_chance_127 (lv_at hl 0 rfl) ?_
                      obtain ⟨q1754, hq1754, hf⟩ := bnd hf
                      refine fc_callS (Wa' := (mW G a v)) (st1 := [.int q1754, .long y5_1736]) (As := [.int s0_1748]) (rest := [.long y5_1736]) hCF (k_X8_bits s0_1748 hq1754) (va_cwS 1 hts gX8_chance_X8_bits rfl rfl rfl dk_X8_bits ⟨Nat.le_of_ble_eq_true rfl, Nat.le_of_ble_eq_true rfl⟩) hE hAB hP hD hS [] rfl rfl rfl rfl rfl rfl hl.1 rfl (Nat.le_of_ble_eq_true rfl) dX8_chance_129 ⟨Nat.le_refl _, Nat.le_refl _⟩ (fun H locs hP hD hS => ?_)
                      refine lv_iload hx hb dX8_chance_132 (lv_at hl 0 rfl) ?_
                      refine lv_iload_n hx hb dX8_chance_134 rfl (lv_at hl 2 rfl) ?_
                      obtain ⟨q1755, hq1755, hf⟩ := bnd hf
                      refine fc_callS (Wa' := (mW G a v)) (st1 := [.int q1755, .int q1754, .long y5_1736]) (As := [.int s0_1748, .int x1]) (rest := [.int q1754, .long y5_1736]) hCF (k_X8_has s0_1748 x1 hq1755) (va_cwS 2 hts gX8_chance_X8_has rfl rfl rfl dk_X8_has ⟨Nat.le_of_ble_eq_true rfl, Nat.le_of_ble_eq_true rfl⟩) hE hAB hP hD hS [] rfl rfl rfl rfl rfl rfl hl.1 rfl (Nat.le_of_ble_eq_true rfl) dX8_chance_135 ⟨Nat.le_refl _, Nat.le_refl _⟩ (fun H locs hP hD hS => ?_)
                      have J146_1759 : ∀ (s0_1756 : Int32) (s1_1757 : Int32) (s2_1758 : Int64) (H : Heap) (locs : List Loc) (ls : Array Slot), va_P (gD G) vwCl (mW G a v) H → va_D A (mW G a v) → va_S A s.heap H locs → lv_has ls 12 [(0, .ref (a 0)), (1, .int x1), (3, .int x3), (7, .long y7_1737), (9, .int x9_1738), (10, .int x10_1739), (11, .int s0_1748)] → f_X8_chance_146 y7_1737 x9_1738 x10_1739 s0_1748 s0_1756 s1_1757 s2_1758 (fun (y5_1760 : Int64) (y7_1761 : Int64) (x9_1762 : Int32) (x10_1763 : Int32) => f_X8_chance_73 v x1 n y5_1760 y7_1761 x9_1762 x10_1763 K73_171) = some (r, v') → W p l e (headSpec wsX8_chance ({ frames := 4, cells := 0, slots := 0, locals := 89 } : Room)).room s m ([.ref (a 0), .int x1, .int x2, .int x3] : List Value).toArray below meth c H locs 0 0 (MQ below (FQ G A (mW G a v') (some (.long r))) ([.ref (a 0), .int x1, .int x2, .int x3] : List Value).toArray s 0 0 A) (F0 m 146 ls [.int s0_1756, .int s1_1757, .long s2_1758]) := by
                        intro s0_1756 s1_1757 s2_1758 H locs ls hP hD hS hl hf
                        rw [f_X8_chance_146] at hf
                        refine lv_isub hx hb dX8_chance_146 ?_
                        refine lv_i2l (v := (s1_1757 - s0_1756).toInt64) hx hb dX8_chance_147 rfl ?_
                        refine lv_lmul hx hb dX8_chance_148 ?_
                        refine lv_lstore (lv' := [(5, .long (s2_1758 * ((s1_1757 - s0_1756).toInt64))), (0, .ref (a 0)), (1, .int x1), (3, .int x3), (7, .long y7_1737), (9, .int x9_1738), (10, .int x10_1739), (11, .int s0_1748)]) hx hb dX8_chance_149 hl (by decide) rfl (fun ls hl => ?_)
                        refine lv_lload hx hb dX8_chance_151 (lv_at hl 4 rfl) ?_
                        refine lv_iload hx hb dX8_chance_153 (lv_at hl 7 rfl) ?_
                        obtain ⟨q1764, hq1764, hf⟩ := bnd hf
                        refine fc_callS (Wa' := (mW G a v)) (st1 := [.int q1764, .long y7_1737]) (As := [.int s0_1748]) (rest := [.long y7_1737]) hCF (k_X8_bits s0_1748 hq1764) (va_cwS 1 hts gX8_chance_X8_bits rfl rfl rfl dk_X8_bits ⟨Nat.le_of_ble_eq_true rfl, Nat.le_of_ble_eq_true rfl⟩) hE hAB hP hD hS [] rfl rfl rfl rfl rfl rfl hl.1 rfl (Nat.le_of_ble_eq_true rfl) dX8_chance_155 ⟨Nat.le_refl _, Nat.le_refl _⟩ (fun H locs hP hD hS => ?_)
                        refine lv_i2l (v := q1764.toInt64) hx hb dX8_chance_158 rfl ?_
                        refine lv_lmul hx hb dX8_chance_159 ?_
                        refine lv_lstore (lv' := [(7, .long (y7_1737 * (q1764.toInt64))), (5, .long (s2_1758 * ((s1_1757 - s0_1756).toInt64))), (0, .ref (a 0)), (1, .int x1), (3, .int x3), (9, .int x9_1738), (10, .int x10_1739), (11, .int s0_1748)]) hx hb dX8_chance_160 hl (by decide) rfl (fun ls hl => ?_)
                        refine lv_iinc (v := (x9_1738 + (-1 : Int32))) (lv' := [(9, .int (x9_1738 + (-1 : Int32))), (7, .long (y7_1737 * (q1764.toInt64))), (5, .long (s2_1758 * ((s1_1757 - s0_1756).toInt64))), (0, .ref (a 0)), (1, .int x1), (3, .int x3), (10, .int x10_1739), (11, .int s0_1748)]) hx hb dX8_chance_162 hl (k := 5) rfl rfl (by decide) rfl (fun ls hl => ?_)
                        refine lv_iinc (v := (x10_1739 + (1 : Int32))) (lv' := [(10, .int (x10_1739 + (1 : Int32))), (9, .int (x9_1738 + (-1 : Int32))), (7, .long (y7_1737 * (q1764.toInt64))), (5, .long (s2_1758 * ((s1_1757 - s0_1756).toInt64))), (0, .ref (a 0)), (1, .int x1), (3, .int x3), (11, .int s0_1748)]) hx hb dX8_chance_165 hl (k := 6) rfl rfl (by decide) rfl (fun ls hl => ?_)
                        refine lv_goto (tgt := 73) hx hb dX8_chance_168 (by decide) ?_
                        exact ih (s2_1758 * ((s1_1757 - s0_1756).toInt64)) (y7_1737 * (q1764.toInt64)) (x9_1738 + (-1 : Int32)) (x10_1739 + (1 : Int32)) _ _ _ hP hD hS (lv_sub hl [4, 5, 6, 3, 2, 1, 0] rfl) hf
                      refine lv_if_eq (tgt := 145) hx hb dX8_chance_138 (by decide) (fun c1765 => ?_) (fun c1765 => ?_)
                      · have hf := ifT hf c1765
                        refine lv_iconst (v := (0 : Int32)) hx hb dX8_chance_145 (by decide) ?_
                        exact J146_1759 (0 : Int32) q1754 y5_1736 _ _ _ hP hD hS (lv_sub hl [1, 2, 3, 5, 6, 7, 0] rfl) hf
                      · have hf := ifF hf c1765
                        refine lv_iconst (v := (1 : Int32)) hx hb dX8_chance_141 (by decide) ?_
                        refine lv_goto (tgt := 146) hx hb dX8_chance_142 (by decide) ?_
                        exact J146_1759 (1 : Int32) q1754 y5_1736 _ _ _ hP hD hS (lv_sub hl [1, 2, 3, 5, 6, 7, 0] rfl) hf
                    refine lv_if_ne (tgt := 117) hx hb dX8_chance_107 (by decide) (fun c1766 => ?_) (fun c1766 => ?_)
                    · have hf := ifF hf c1766
                      refine lv_aload_n hx hb dX8_chance_117 rfl (lv_at hl 0 rfl) ?_
                      refine lv_iload hx hb dX8_chance_118 (lv_at hl 6 rfl) ?_
                      obtain ⟨q1767, hq1767, hf⟩ := bnd hf
                      refine fc_callV (Wa' := (mW G a v)) (st1 := [.int q1767]) (As := [.int x10_1739]) (rest := []) hCF (k_X8_guesses a v x10_1739 hq1767) (cwV 1 hts gX8_chance_X8_guesses rfl rfl rfl ⟨rfl, dk_X8_guesses⟩ ⟨Nat.le_of_ble_eq_true rfl, Nat.le_of_ble_eq_true rfl⟩) hE hAB hP hD hS [0, 1, 2, 3, 4, 5, 6, 7, 8, 9, 10, 11, 12, 13, 14, 15, 16, 17, 18, 19, 20, 21, 22, 23, 24] mW_d (mW_c G a v) (va_recv hE.1 hP (ci := 5) (q0 := 0) rfl (mW_o G a v)) (mW_f G a v v) (mW_s G a v v) rfl rfl hl.1 rfl (Nat.le_of_ble_eq_true rfl) dX8_chance_120 ⟨Nat.le_refl _, Nat.le_refl _⟩ (fun H locs hP hD hS => ?_)
                      exact J123_1749 q1767 _ _ _ hP hD hS (lv_sub hl [0, 1, 2, 3, 4, 5, 6] rfl) hf
                    · have hf := ifT hf c1766
                      refine lv_aload_n hx hb dX8_chance_110 rfl (lv_at hl 0 rfl) ?_
                      obtain ⟨q1768, hq1768, hf⟩ := bnd hf
                      refine fc_callV (Wa' := (mW G a v)) (st1 := [.int q1768]) (As := []) (rest := []) hCF (k_X8_here a v hq1768) (cwV 0 hts gX8_chance_X8_here rfl rfl rfl ⟨rfl, dk_X8_here⟩ ⟨Nat.le_of_ble_eq_true rfl, Nat.le_of_ble_eq_true rfl⟩) hE hAB hP hD hS [0, 1, 2, 3, 4, 5, 6, 7, 8, 9, 10, 11, 12, 13, 14, 15, 16, 17, 18, 19, 20, 21, 22, 23, 24] mW_d (mW_c G a v) (va_recv hE.1 hP (ci := 5) (q0 := 0) rfl (mW_o G a v)) (mW_f G a v v) (mW_s G a v v) rfl rfl hl.1 rfl (Nat.le_of_ble_eq_true rfl) dX8_chance_111 ⟨Nat.le_refl _, Nat.le_refl _⟩ (fun H locs hP hD hS => ?_)
                      refine lv_goto (tgt := 123) hx hb dX8_chance_114 (by decide) ?_
                      exact J123_1749 q1768 _ _ _ hP hD hS (lv_sub hl [0, 1, 2, 3, 4, 5, 6] rfl) hf
                  · have hf := ifT hf c1746
                    refine lv_goto (tgt := 165) hx hb dX8_chance_98 (by decide) ?_
                    refine lv_iinc (v := (x10_1739 + (1 : Int32))) (lv' := [(10, .int (x10_1739 + (1 : Int32))), (0, .ref (a 0)), (1, .int x1), (3, .int x3), (5, .long y5_1736), (7, .long y7_1737), (9, .int x9_1738)]) hx hb dX8_chance_165 hl (k := 6) rfl rfl (by decide) rfl (fun ls hl => ?_)
                    refine lv_goto (tgt := 73) hx hb dX8_chance_168 (by decide) ?_
                    exact ih y5_1736 y7_1737 x9_1738 (x10_1739 + (1 : Int32)) _ _ _ hP hD hS (lv_sub hl [1, 2, 3, 4, 5, 6, 0] rfl) hf
          refine L73_1740 _ ?_ FUEL (1 : Int64) (1 : Int64) x2 (0 : Int32) _ _ _ hP hD hS (lv_sub hl [4, 5, 7, 3, 2, 1, 0] rfl) hf
          intro y5_1769 y7_1770 H locs ls hP hD hS hl hf
          exact J171_1734 y5_1769 y7_1770 _ _ _ hP hD hS (lv_sub hl [0, 1, 2] rfl) hf
        · have hf := ifT hf c1731
          refine lv_iconst (v := (0 : Int32)) hx hb dX8_chance_63 (by decide) ?_
          refine lv_goto (tgt := 68) hx hb dX8_chance_64 (by decide) ?_
          refine lv_istore (lv' := [(9, .int (0 : Int32)), (7, .long (1 : Int64)), (5, .long (1 : Int64)), (0, .ref (a 0)), (1, .int x1), (2, .int x2), (3, .int x3), (4, .int x4_1727)]) hx hb dX8_chance_68 hl (by decide) rfl (fun ls hl => ?_)
          refine lv_iconst (v := (0 : Int32)) hx hb dX8_chance_70 (by decide) ?_
          refine lv_istore (lv' := [(10, .int (0 : Int32)), (9, .int (0 : Int32)), (7, .long (1 : Int64)), (5, .long (1 : Int64)), (0, .ref (a 0)), (1, .int x1), (2, .int x2), (3, .int x3), (4, .int x4_1727)]) hx hb dX8_chance_71 hl (by decide) rfl (fun ls hl => ?_)
          have J171_1773 : ∀ (y5_1771 : Int64) (y7_1772 : Int64) (H : Heap) (locs : List Loc) (ls : Array Slot), va_P (gD G) vwCl (mW G a v) H → va_D A (mW G a v) → va_S A s.heap H locs → lv_has ls 12 [(3, .int x3), (5, .long y5_1771), (7, .long y7_1772)] → f_X8_chance_171 v x3 y5_1771 y7_1772 = some (r, v') → W p l e (headSpec wsX8_chance ({ frames := 4, cells := 0, slots := 0, locals := 89 } : Room)).room s m ([.ref (a 0), .int x1, .int x2, .int x3] : List Value).toArray below meth c H locs 0 0 (MQ below (FQ G A (mW G a v') (some (.long r))) ([.ref (a 0), .int x1, .int x2, .int x3] : List Value).toArray s 0 0 A) (F0 m 171 ls []) := by
            intro y5_1771 y7_1772 H locs ls hP hD hS hl hf
            rw [f_X8_chance_171] at hf
            refine lv_lload hx hb dX8_chance_171 (lv_at hl 2 rfl) ?_
            refine lv_lload hx hb dX8_chance_173 (lv_at hl 1 rfl) ?_
            refine lv_lsub hx hb dX8_chance_175 ?_
            refine lv_lload hx hb dX8_chance_176 (lv_at hl 2 rfl) ?_
            refine lv_iload_n hx hb dX8_chance_178 rfl (lv_at hl 0 rfl) ?_
            obtain ⟨q1774, hq1774, hf⟩ := bnd hf
            refine fc_callS (Wa' := (mW G a v)) (st1 := [.long q1774]) (As := [.long (y7_1772 - y5_1771), .long y7_1772, .int x3]) (rest := []) hCF (k_X8_partOf (y7_1772 - y5_1771) y7_1772 x3 hq1774) (va_cwS 3 hts gX8_chance_X8_partOf rfl rfl rfl dk_X8_partOf ⟨Nat.le_of_ble_eq_true rfl, Nat.le_of_ble_eq_true rfl⟩) hE hAB hP hD hS [] rfl rfl rfl rfl rfl rfl hl.1 rfl (Nat.le_of_ble_eq_true rfl) dX8_chance_179 ⟨Nat.le_refl _, Nat.le_refl _⟩ (fun H locs hP hD hS => ?_)
            exact fc_retl hx hb hr hlocks hP hS dX8_chance_182 (i2a hf) (congrArg (fun z => (mW G a z)) (i2b hf))
          have L73_1779 : ∀ (K73_171 : Int64 → Int64 → Option (Int64 × St)) (hK73_171 : ∀ (y5_1780 : Int64) (y7_1781 : Int64) (H : Heap) (locs : List Loc) (ls : Array Slot), va_P (gD G) vwCl (mW G a v) H → va_D A (mW G a v) → va_S A s.heap H locs → lv_has ls 12 [(3, .int x3), (5, .long y5_1780), (7, .long y7_1781)] → K73_171 y5_1780 y7_1781 = some (r, v') → W p l e (headSpec wsX8_chance ({ frames := 4, cells := 0, slots := 0, locals := 89 } : Room)).room s m ([.ref (a 0), .int x1, .int x2, .int x3] : List Value).toArray below meth c H locs 0 0 (MQ below (FQ G A (mW G a v') (some (.long r))) ([.ref (a 0), .int x1, .int x2, .int x3] : List Value).toArray s 0 0 A) (F0 m 171 ls [])) (n : Nat) (y5_1775 : Int64) (y7_1776 : Int64) (x9_1777 : Int32) (x10_1778 : Int32) (H : Heap) (locs : List Loc) (ls : Array Slot), va_P (gD G) vwCl (mW G a v) H → va_D A (mW G a v) → va_S A s.heap H locs → lv_has ls 12 [(0, .ref (a 0)), (1, .int x1), (3, .int x3), (5, .long y5_1775), (7, .long y7_1776), (9, .int x9_1777), (10, .int x10_1778)] → f_X8_chance_73 v x1 n y5_1775 y7_1776 x9_1777 x10_1778 K73_171 = some (r, v') → W p l e (headSpec wsX8_chance ({ frames := 4, cells := 0, slots := 0, locals := 89 } : Room)).room s m ([.ref (a 0), .int x1, .int x2, .int x3] : List Value).toArray below meth c H locs 0 0 (MQ below (FQ G A (mW G a v') (some (.long r))) ([.ref (a 0), .int x1, .int x2, .int x3] : List Value).toArray s 0 0 A) (F0 m 73 ls []) := by
            intro K73_171 hK73_171 n
            induction n with
            | zero =>
              intro y5_1775 y7_1776 x9_1777 x10_1778 H locs ls hP hD hS hl hf
              exact no_some hf
            | succ n ih =>
              intro y5_1775 y7_1776 x9_1777 x10_1778 H locs ls hP hD hS hl hf
              rw [f_X8_chance_73] at hf
              refine lv_iload hx hb dX8_chance_73 (lv_at hl 6 rfl) ?_
              refine lv_aload_n hx hb dX8_chance_75 rfl (lv_at hl 0 rfl) ?_
              refine fc_get (v := .int (v 23 1)) (ci := 5) (C := RX8) (T := TX8) (N := 29) hx hb hwX8 hown hE hP 0 (mW_o G a v) rfl 11 (by decide) hk_fieldLink_RX8_76__BrideNotKnownModel___grooms___I_ (fun _ h => h) rfl dX8_chance_76 ?_
              refine lv_icmp_ge (tgt := 171) hx hb dX8_chance_79 (by decide) (fun c1782 => ?_) (fun c1782 => ?_)
              · have hf := ifT hf c1782
                exact hK73_171 y5_1775 y7_1776 _ _ _ hP hD hS (lv_sub hl [2, 3, 4] rfl) hf
              · have hf := ifF hf c1782
                refine lv_iload hx hb dX8_chance_82 (lv_at hl 5 rfl) ?_
                refine lv_if_le (tgt := 171) hx hb dX8_chance_84 (by decide) (fun c1783 => ?_) (fun c1783 => ?_)
                · have hf := ifT hf c1783
                  exact hK73_171 y5_1775 y7_1776 _ _ _ hP hD hS (lv_sub hl [2, 3, 4] rfl) hf
                · have hf := ifF hf c1783
                  refine lv_aload_n hx hb dX8_chance_87 rfl (lv_at hl 0 rfl) ?_
                  refine fc_get (v := .ref (a 10)) (ci := 5) (C := RX8) (T := TX8) (N := 29) hx hb hwX8 hown hE hP 0 (mW_o G a v) rfl 9 (by decide) hk_fieldLink_RX8_37__BrideNotKnownModel___married____I_ (fun _ h => h) rfl dX8_chance_88 ?_
                  refine lv_iload hx hb dX8_chance_91 (lv_at hl 6 rfl) ?_
                  obtain ⟨c1784, hf⟩ := gd_some hf
                  refine fc_iald (n := 5) (f := (v 9)) hx hb hE hP 10 (mW_a10 G a v) (inB_in c1784) dX8_chance_93 ?_
                  refine lv_iconst (v := (1 : Int32)) hx hb dX8_chance_94 (by decide) ?_
                  refine lv_icmp_ne (tgt := 101) hx hb dX8_chance_95 (by decide) (fun c1785 => ?_) (fun c1785 => ?_)
                  · have hf := ifF hf c1785
                    refine lv_aload_n hx hb dX8_chance_101 rfl (lv_at hl 0 rfl) ?_
                    refine lv_iload hx hb dX8_chance_102 (lv_at hl 6 rfl) ?_
                    obtain ⟨q1786, hq1786, hf⟩ := bnd hf
                    refine fc_callV (Wa' := (mW G a v)) (st1 := [.int q1786]) (As := [.int x10_1778]) (rest := []) hCF (k_X8_guesses a v x10_1778 hq1786) (cwV 1 hts gX8_chance_X8_guesses rfl rfl rfl ⟨rfl, dk_X8_guesses⟩ ⟨Nat.le_of_ble_eq_true rfl, Nat.le_of_ble_eq_true rfl⟩) hE hAB hP hD hS [0, 1, 2, 3, 4, 5, 6, 7, 8, 9, 10, 11, 12, 13, 14, 15, 16, 17, 18, 19, 20, 21, 22, 23, 24] mW_d (mW_c G a v) (va_recv hE.1 hP (ci := 5) (q0 := 0) rfl (mW_o G a v)) (mW_f G a v v) (mW_s G a v v) rfl rfl hl.1 rfl (Nat.le_of_ble_eq_true rfl) dX8_chance_104 ⟨Nat.le_refl _, Nat.le_refl _⟩ (fun H locs hP hD hS => ?_)
                    have J123_1788 : ∀ (s0_1787 : Int32) (H : Heap) (locs : List Loc) (ls : Array Slot), va_P (gD G) vwCl (mW G a v) H → va_D A (mW G a v) → va_S A s.heap H locs → lv_has ls 12 [(0, .ref (a 0)), (1, .int x1), (3, .int x3), (5, .long y5_1775), (7, .long y7_1776), (9, .int x9_1777), (10, .int x10_1778)] → f_X8_chance_123 x1 y5_1775 y7_1776 x9_1777 x10_1778 s0_1787 (fun (y5_1789 : Int64) (y7_1790 : Int64) (x9_1791 : Int32) (x10_1792 : Int32) => f_X8_chance_73 v x1 n y5_1789 y7_1790 x9_1791 x10_1792 K73_171) = some (r, v') → W p l e (headSpec wsX8_chance ({ frames := 4, cells := 0, slots := 0, locals := 89 } : Room)).room s m ([.ref (a 0), .int x1, .int x2, .int x3] : List Value).toArray below meth c H locs 0 0 (MQ below (FQ G A (mW G a v') (some (.long r))) ([.ref (a 0), .int x1, .int x2, .int x3] : List Value).toArray s 0 0 A) (F0 m 123 ls [.int s0_1787]) := by
                      intro s0_1787 H locs ls hP hD hS hl hf
                      rw [f_X8_chance_123] at hf
                      refine lv_istore (lv' := [(11, .int s0_1787), (0, .ref (a 0)), (1, .int x1), (3, .int x3), (5, .long y5_1775), (7, .long y7_1776), (9, .int x9_1777), (10, .int x10_1778)]) hx hb dX8_chance_123 hl (by decide) rfl (fun ls hl => ?_)
                      refine lv_lload hx hb dX8_chance_125 (lv_at hl 4 rfl) ?_
                      refine lv_iload hx hb dX8_chance_127 (lv_at hl 0 rfl) ?_
                      obtain ⟨q1793, hq1793, hf⟩ := bnd hf
                      refine fc_callS (Wa' := (mW G a v)) (st1 := [.int q1793, .long y5_1775]) (As := [.int s0_1787]) (rest := [.long y5_1775]) hCF (k_X8_bits s0_1787 hq1793) (va_cwS 1 hts gX8_chance_X8_bits rfl rfl rfl dk_X8_bits ⟨Nat.le_of_ble_eq_true rfl, Nat.le_of_ble_eq_true rfl⟩) hE hAB hP hD hS [] rfl rfl rfl rfl rfl rfl hl.1 rfl (Nat.le_of_ble_eq_true rfl) dX8_chance_129 ⟨Nat.le_refl _, Nat.le_refl _⟩ (fun H locs hP hD hS => ?_)
                      refine lv_iload hx hb dX8_chance_132 (lv_at hl 0 rfl) ?_
                      refine lv_iload_n hx hb dX8_chance_134 rfl (lv_at hl 2 rfl) ?_
                      obtain ⟨q1794, hq1794, hf⟩ := bnd hf
                      refine fc_callS (Wa' := (mW G a v)) (st1 := [.int q1794, .int q1793, .long y5_1775]) (As := [.int s0_1787, .int x1]) (rest := [.int q1793, .long y5_1775]) hCF (k_X8_has s0_1787 x1 hq1794) (va_cwS 2 hts gX8_chance_X8_has rfl rfl rfl dk_X8_has ⟨Nat.le_of_ble_eq_true rfl, Nat.le_of_ble_eq_true rfl⟩) hE hAB hP hD hS [] rfl rfl rfl rfl rfl rfl hl.1 rfl (Nat.le_of_ble_eq_true rfl) dX8_chance_135 ⟨Nat.le_refl _, Nat.le_refl _⟩ (fun H locs hP hD hS => ?_)
                      have J146_1798 : ∀ (s0_1795 : Int32) (s1_1796 : Int32) (s2_1797 : Int64) (H : Heap) (locs : List Loc) (ls : Array Slot), va_P (gD G) vwCl (mW G a v) H → va_D A (mW G a v) → va_S A s.heap H locs → lv_has ls 12 [(0, .ref (a 0)), (1, .int x1), (3, .int x3), (7, .long y7_1776), (9, .int x9_1777), (10, .int x10_1778), (11, .int s0_1787)] → f_X8_chance_146 y7_1776 x9_1777 x10_1778 s0_1787 s0_1795 s1_1796 s2_1797 (fun (y5_1799 : Int64) (y7_1800 : Int64) (x9_1801 : Int32) (x10_1802 : Int32) => f_X8_chance_73 v x1 n y5_1799 y7_1800 x9_1801 x10_1802 K73_171) = some (r, v') → W p l e (headSpec wsX8_chance ({ frames := 4, cells := 0, slots := 0, locals := 89 } : Room)).room s m ([.ref (a 0), .int x1, .int x2, .int x3] : List Value).toArray below meth c H locs 0 0 (MQ below (FQ G A (mW G a v') (some (.long r))) ([.ref (a 0), .int x1, .int x2, .int x3] : List Value).toArray s 0 0 A) (F0 m 146 ls [.int s0_1795, .int s1_1796, .long s2_1797]) := by
                        intro s0_1795 s1_1796 s2_1797 H locs ls hP hD hS hl hf
                        rw [f_X8_chance_146] at hf
                        refine lv_isub hx hb dX8_chance_146 ?_
                        refine lv_i2l (v := (s1_1796 - s0_1795).toInt64) hx hb dX8_chance_147 rfl ?_
                        refine lv_lmul hx hb dX8_chance_148 ?_
                        refine lv_lstore (lv' := [(5, .long (s2_1797 * ((s1_1796 - s0_1795).toInt64))), (0, .ref (a 0)), (1, .int x1), (3, .int x3), (7, .long y7_1776), (9, .int x9_1777), (10, .int x10_1778), (11, .int s0_1787)]) hx hb dX8_chance_149 hl (by decide) rfl (fun ls hl => ?_)
                        refine lv_lload hx hb dX8_chance_151 (lv_at hl 4 rfl) ?_
                        refine lv_iload hx hb dX8_chance_153 (lv_at hl 7 rfl) ?_
                        obtain ⟨q1803, hq1803, hf⟩ := bnd hf
                        refine fc_callS (Wa' := (mW G a v)) (st1 := [.int q1803, .long y7_1776]) (As := [.int s0_1787]) (rest := [.long y7_1776]) hCF (k_X8_bits s0_1787 hq1803) (va_cwS 1 hts gX8_chance_X8_bits rfl rfl rfl dk_X8_bits ⟨Nat.le_of_ble_eq_true rfl, Nat.le_of_ble_eq_true rfl⟩) hE hAB hP hD hS [] rfl rfl rfl rfl rfl rfl hl.1 rfl (Nat.le_of_ble_eq_true rfl) dX8_chance_155 ⟨Nat.le_refl _, Nat.le_refl _⟩ (fun H locs hP hD hS => ?_)
                        refine lv_i2l (v := q1803.toInt64) hx hb dX8_chance_158 rfl ?_
                        refine lv_lmul hx hb dX8_chance_159 ?_
                        refine lv_lstore (lv' := [(7, .long (y7_1776 * (q1803.toInt64))), (5, .long (s2_1797 * ((s1_1796 - s0_1795).toInt64))), (0, .ref (a 0)), (1, .int x1), (3, .int x3), (9, .int x9_1777), (10, .int x10_1778), (11, .int s0_1787)]) hx hb dX8_chance_160 hl (by decide) rfl (fun ls hl => ?_)
                        refine lv_iinc (v := (x9_1777 + (-1 : Int32))) (lv' := [(9, .int (x9_1777 + (-1 : Int32))), (7, .long (y7_1776 * (q1803.toInt64))), (5, .long (s2_1797 * ((s1_1796 - s0_1795).toInt64))), (0, .ref (a 0)), (1, .int x1), (3, .int x3), (10, .int x10_1778), (11, .int s0_1787)]) hx hb dX8_chance_162 hl (k := 5) rfl rfl (by decide) rfl (fun ls hl => ?_)
                        refine lv_iinc (v := (x10_1778 + (1 : Int32))) (lv' := [(10, .int (x10_1778 + (1 : Int32))), (9, .int (x9_1777 + (-1 : Int32))), (7, .long (y7_1776 * (q1803.toInt64))), (5, .long (s2_1797 * ((s1_1796 - s0_1795).toInt64))), (0, .ref (a 0)), (1, .int x1), (3, .int x3), (11, .int s0_1787)]) hx hb dX8_chance_165 hl (k := 6) rfl rfl (by decide) rfl (fun ls hl => ?_)
                        refine lv_goto (tgt := 73) hx hb dX8_chance_168 (by decide) ?_
                        exact ih (s2_1797 * ((s1_1796 - s0_1795).toInt64)) (y7_1776 * (q1803.toInt64)) (x9_1777 + (-1 : Int32)) (x10_1778 + (1 : Int32)) _ _ _ hP hD hS (lv_sub hl [4, 5, 6, 3, 2, 1, 0] rfl) hf
                      refine lv_if_eq (tgt := 145) hx hb dX8_chance_138 (by decide) (fun c1804 => ?_) (fun c1804 => ?_)
                      · have hf := ifT hf c1804
                        refine lv_iconst (v := (0 : Int32)) hx hb dX8_chance_145 (by decide) ?_
                        exact J146_1798 (0 : Int32) q1793 y5_1775 _ _ _ hP hD hS (lv_sub hl [1, 2, 3, 5, 6, 7, 0] rfl) hf
                      · have hf := ifF hf c1804
                        refine lv_iconst (v := (1 : Int32)) hx hb dX8_chance_141 (by decide) ?_
                        refine lv_goto (tgt := 146) hx hb dX8_chance_142 (by decide) ?_
                        exact J146_1798 (1 : Int32) q1793 y5_1775 _ _ _ hP hD hS (lv_sub hl [1, 2, 3, 5, 6, 7, 0] rfl) hf
                    refine lv_if_ne (tgt := 117) hx hb dX8_chance_107 (by decide) (fun c1805 => ?_) (fun c1805 => ?_)
                    · have hf := ifF hf c1805
                      refine lv_aload_n hx hb dX8_chance_117 rfl (lv_at hl 0 rfl) ?_
                      refine lv_iload hx hb dX8_chance_118 (lv_at hl 6 rfl) ?_
                      obtain ⟨q1806, hq1806, hf⟩ := bnd hf
                      refine fc_callV (Wa' := (mW G a v)) (st1 := [.int q1806]) (As := [.int x10_1778]) (rest := []) hCF (k_X8_guesses a v x10_1778 hq1806) (cwV 1 hts gX8_chance_X8_guesses rfl rfl rfl ⟨rfl, dk_X8_guesses⟩ ⟨Nat.le_of_ble_eq_true rfl, Nat.le_of_ble_eq_true rfl⟩) hE hAB hP hD hS [0, 1, 2, 3, 4, 5, 6, 7, 8, 9, 10, 11, 12, 13, 14, 15, 16, 17, 18, 19, 20, 21, 22, 23, 24] mW_d (mW_c G a v) (va_recv hE.1 hP (ci := 5) (q0 := 0) rfl (mW_o G a v)) (mW_f G a v v) (mW_s G a v v) rfl rfl hl.1 rfl (Nat.le_of_ble_eq_true rfl) dX8_chance_120 ⟨Nat.le_refl _, Nat.le_refl _⟩ (fun H locs hP hD hS => ?_)
                      exact J123_1788 q1806 _ _ _ hP hD hS (lv_sub hl [0, 1, 2, 3, 4, 5, 6] rfl) hf
                    · have hf := ifT hf c1805
                      refine lv_aload_n hx hb dX8_chance_110 rfl (lv_at hl 0 rfl) ?_
                      obtain ⟨q1807, hq1807, hf⟩ := bnd hf
                      refine fc_callV (Wa' := (mW G a v)) (st1 := [.int q1807]) (As := []) (rest := []) hCF (k_X8_here a v hq1807) (cwV 0 hts gX8_chance_X8_here rfl rfl rfl ⟨rfl, dk_X8_here⟩ ⟨Nat.le_of_ble_eq_true rfl, Nat.le_of_ble_eq_true rfl⟩) hE hAB hP hD hS [0, 1, 2, 3, 4, 5, 6, 7, 8, 9, 10, 11, 12, 13, 14, 15, 16, 17, 18, 19, 20, 21, 22, 23, 24] mW_d (mW_c G a v) (va_recv hE.1 hP (ci := 5) (q0 := 0) rfl (mW_o G a v)) (mW_f G a v v) (mW_s G a v v) rfl rfl hl.1 rfl (Nat.le_of_ble_eq_true rfl) dX8_chance_111 ⟨Nat.le_refl _, Nat.le_refl _⟩ (fun H locs hP hD hS => ?_)
                      refine lv_goto (tgt := 123) hx hb dX8_chance_114 (by decide) ?_
                      exact J123_1788 q1807 _ _ _ hP hD hS (lv_sub hl [0, 1, 2, 3, 4, 5, 6] rfl) hf
                  · have hf := ifT hf c1785
                    refine lv_goto (tgt := 165) hx hb dX8_chance_98 (by decide) ?_
                    refine lv_iinc (v := (x10_1778 + (1 : Int32))) (lv' := [(10, .int (x10_1778 + (1 : Int32))), (0, .ref (a 0)), (1, .int x1), (3, .int x3), (5, .long y5_1775), (7, .long y7_1776), (9, .int x9_1777)]) hx hb dX8_chance_165 hl (k := 6) rfl rfl (by decide) rfl (fun ls hl => ?_)
                    refine lv_goto (tgt := 73) hx hb dX8_chance_168 (by decide) ?_
                    exact ih y5_1775 y7_1776 x9_1777 (x10_1778 + (1 : Int32)) _ _ _ hP hD hS (lv_sub hl [1, 2, 3, 4, 5, 6, 0] rfl) hf
          refine L73_1779 _ ?_ FUEL (1 : Int64) (1 : Int64) (0 : Int32) (0 : Int32) _ _ _ hP hD hS (lv_sub hl [4, 5, 7, 3, 2, 1, 0] rfl) hf
          intro y5_1808 y7_1809 H locs ls hP hD hS hl hf
          exact J171_1773 y5_1808 y7_1809 _ _ _ hP hD hS (lv_sub hl [0, 1, 2] rfl) hf
      · have hf := ifF hf c1729
        refine lv_aload_n hx hb dX8_chance_43 rfl (lv_at hl 0 rfl) ?_
        refine lv_iload hx hb dX8_chance_44 (lv_at hl 4 rfl) ?_
        obtain ⟨q1810, hq1810, hf⟩ := bnd hf
        refine fc_callV (Wa' := (mW G a q1810.2)) (st1 := [.long q1810.1]) (As := [.int x4_1727]) (rest := []) hCF (k_X8_lowestOf a v x4_1727 hq1810) (cwV 1 hts gX8_chance_X8_lowestOf rfl rfl rfl ⟨rfl, dk_X8_lowestOf⟩ ⟨Nat.le_of_ble_eq_true rfl, Nat.le_of_ble_eq_true rfl⟩) hE hAB hP hD hS [0, 1, 2, 3, 4, 5, 6, 7, 8, 9, 10, 11, 12, 13, 14, 15, 16, 17, 18, 19, 20, 21, 22, 23, 24] mW_d (mW_c G a v) (va_recv hE.1 hP (ci := 5) (q0 := 0) rfl (mW_o G a v)) (mW_f G a v q1810.2) (mW_s G a v q1810.2) rfl rfl hl.1 rfl (Nat.le_of_ble_eq_true rfl) dX8_chance_46 ⟨Nat.le_refl _, Nat.le_refl _⟩ (fun H locs hP hD hS => ?_)
        exact fc_retl hx hb hr hlocks hP hS dX8_chance_49 (i2a hf) (congrArg (fun z => (mW G a z)) (i2b hf))
    refine lv_if_ne (tgt := 38) hx hb dX8_chance_22 (by decide) (fun c1811 => ?_) (fun c1811 => ?_)
    · have hf := ifF hf c1811
      exact J38_1728 s0_1725 _ _ _ hP hD hS (lv_sub hl [1, 2, 3, 4, 0] rfl) hf
    · have hf := ifT hf c1811
      refine lv_iload_n hx hb dX8_chance_25 rfl (lv_at hl 4 rfl) ?_
      refine lv_iconst (v := (0 : Int32)) hx hb dX8_chance_26 (by decide) ?_
      refine lv_iconst (v := (1 : Int32)) hx hb dX8_chance_27 (by decide) ?_
      obtain ⟨q1812, hq1812, hf⟩ := bnd hf
      refine fc_callS (Wa' := (mW G a v)) (st1 := [.int q1812]) (As := [.int x3, .int (0 : Int32), .int (1 : Int32)]) (rest := []) hCF (k_X8_isIn x3 (0 : Int32) (1 : Int32) hq1812) (va_cwS 3 hts gX8_chance_X8_isIn rfl rfl rfl dk_X8_isIn ⟨Nat.le_of_ble_eq_true rfl, Nat.le_of_ble_eq_true rfl⟩) hE hAB hP hD hS [] rfl rfl rfl rfl rfl rfl hl.1 rfl (Nat.le_of_ble_eq_true rfl) dX8_chance_28 ⟨Nat.le_refl _, Nat.le_refl _⟩ (fun H locs hP hD hS => ?_)
      refine lv_if_ne (tgt := 38) hx hb dX8_chance_31 (by decide) (fun c1813 => ?_) (fun c1813 => ?_)
      · have hf := ifF hf c1813
        exact J38_1728 s0_1725 _ _ _ hP hD hS (lv_sub hl [1, 2, 3, 4, 0] rfl) hf
      · have hf := ifT hf c1813
        refine lv_bipush (v := (-2 : Int32)) hx hb dX8_chance_34 (by decide) ?_
        refine lv_istore (lv' := [(4, .int (-2 : Int32)), (0, .ref (a 0)), (1, .int x1), (2, .int x2), (3, .int x3)]) hx hb dX8_chance_36 hl (by decide) rfl (fun ls hl => ?_)
        exact J38_1728 (-2 : Int32) _ _ _ hP hD hS (lv_sub hl [1, 2, 3, 4, 0] rfl) hf
  refine lv_if_ne (tgt := 12) hx hb dX8_chance_5 (by decide) (fun c1814 => ?_) (fun c1814 => ?_)
  · have hf := ifF hf c1814
    refine lv_iload_n hx hb dX8_chance_12 rfl (lv_at hl 2 rfl) ?_
    refine lv_iconst (v := (0 : Int32)) hx hb dX8_chance_13 (by decide) ?_
    refine lv_iconst (v := (4 : Int32)) hx hb dX8_chance_14 (by decide) ?_
    obtain ⟨q1815, hq1815, hf⟩ := bnd hf
    refine fc_callS (Wa' := (mW G a v)) (st1 := [.int q1815]) (As := [.int x2, .int (0 : Int32), .int (4 : Int32)]) (rest := []) hCF (k_X8_bound x2 (0 : Int32) (4 : Int32) hq1815) (va_cwS 3 hts gX8_chance_X8_bound rfl rfl rfl dk_X8_bound ⟨Nat.le_of_ble_eq_true rfl, Nat.le_of_ble_eq_true rfl⟩) hE hAB hP hD hS [] rfl rfl rfl rfl rfl rfl hl.1 rfl (Nat.le_of_ble_eq_true rfl) dX8_chance_15 ⟨Nat.le_refl _, Nat.le_refl _⟩ (fun H locs hP hD hS => ?_)
    exact J18_1726 q1815 _ _ _ hP hD hS (lv_sub hl [0, 1, 2, 3] rfl) hf
  · have hf := ifT hf c1814
    refine lv_iconst (v := (-1 : Int32)) hx hb dX8_chance_8 (by decide) ?_
    refine lv_goto (tgt := 18) hx hb dX8_chance_9 (by decide) ?_
    exact J18_1726 (-1 : Int32) _ _ _ hP hD hS (lv_sub hl [0, 1, 2, 3] rfl) hf
theorem dk_X8_changes : yX8_changes.cls ≠ "java/lang/invoke/MethodHandle" ∧ yX8_changes.cls ≠ "java/lang/invoke/VarHandle" ∧ (parseMethodDescriptor yX8_changes.desc).map (fun d => d.parameters.length) = some 2 := by decide +kernel
theorem iu_X8_changes_X8 : ∀ w ∈ u_ws RX8 TX8 29, w ∈ wsX8_changes := by decide +kernel
set_option maxHeartbeats 4000000 in
set_option maxRecDepth 100000 in
theorem k_X8_changes {l : Launch} {G : Gx} (a : Nat → Nat) (v : St) (x1 : Int32) (x2 : Int32) {r : Int32} {v' : St} (hf : f_X8_changes v x1 x2 = some (r, v')) : FC l G yX8_changes wsX8_changes ({ frames := 1, cells := 0, slots := 0, locals := 22 } : Room) [.ref (a 0), .int x1, .int x2] (mW G a v) (mW G a v') (some (.int r)) := by
  refine fc_head (cc := cX8_changes) (maxL := 3) (ret := (some .int)) (C := RX8) (lv := [(0, .ref (a 0)), (1, .int x1), (2, .int x2)]) (by decide) rfl rfl (Nat.le_of_ble_eq_true rfl) rfl ?_
  intro p e s m below meth c ls A hx hb hr hml hown hts hlocks hE hP hD hAB hS hl
  have hCF : CallFix p m c cX8_changes 3 s ([.ref (a 0), .int x1, .int x2] : List Value).toArray wsX8_changes RX8 := ⟨hx, hb, hml, hown, hts⟩
  have hwX8 : ∀ w ∈ u_ws RX8 TX8 29, w.before ([.ref (a 0), .int x1, .int x2] : List Value).toArray s = true := fun w h => hts w (iu_X8_changes_X8 w h)
  have hk_fieldLink_RX8_19__BrideNotKnownModel___foot____I_ := hts (.fieldLink RX8 19 "BrideNotKnownModel" "foot" "[I") (List.mem_of_getElem? (i := 1) rfl)
  rw [f_X8_changes] at hf
  refine lv_aload_n hx hb dX8_changes_0 rfl (lv_at hl 0 rfl) ?_
  refine lv_iload_n hx hb dX8_changes_1 rfl (lv_at hl 1 rfl) ?_
  obtain ⟨q1820, hq1820, hf⟩ := bnd hf
  refine fc_callV (Wa' := (mW G a v)) (st1 := [.int q1820]) (As := [.int x1]) (rest := []) hCF (k_X8_isBride a v x1 hq1820) (cwV 1 hts gX8_changes_X8_isBride rfl rfl rfl ⟨rfl, dk_X8_isBride⟩ ⟨Nat.le_of_ble_eq_true rfl, Nat.le_of_ble_eq_true rfl⟩) hE hAB hP hD hS [0, 1, 2, 3, 4, 5, 6, 7, 8, 9, 10, 11, 12, 13, 14, 15, 16, 17, 18, 19, 20, 21, 22, 23, 24] mW_d (mW_c G a v) (va_recv hE.1 hP (ci := 5) (q0 := 0) rfl (mW_o G a v)) (mW_f G a v v) (mW_s G a v v) rfl rfl hl.1 rfl (Nat.le_of_ble_eq_true rfl) dX8_changes_2 ⟨Nat.le_refl _, Nat.le_refl _⟩ (fun H locs hP hD hS => ?_)
  refine lv_if_eq (tgt := 17) hx hb dX8_changes_5 (by decide) (fun c1821 => ?_) (fun c1821 => ?_)
  · have hf := ifT hf c1821
    refine lv_aload_n hx hb dX8_changes_17 rfl (lv_at hl 0 rfl) ?_
    refine lv_iconst (v := (-1 : Int32)) hx hb dX8_changes_18 (by decide) ?_
    obtain ⟨q1822, hq1822, hf⟩ := bnd hf
    refine fc_callV (Wa' := (mW G a q1822.2)) (st1 := [.int q1822.1]) (As := [.int (-1 : Int32)]) (rest := []) hCF (k_X8_no a v (-1 : Int32) hq1822) (cwV 1 hts gX8_changes_X8_no rfl rfl rfl ⟨rfl, dk_X8_no⟩ ⟨Nat.le_of_ble_eq_true rfl, Nat.le_of_ble_eq_true rfl⟩) hE hAB hP hD hS [0, 1, 2, 3, 4, 5, 6, 7, 8, 9, 10, 11, 12, 13, 14, 15, 16, 17, 18, 19, 20, 21, 22, 23, 24] mW_d (mW_c G a v) (va_recv hE.1 hP (ci := 5) (q0 := 0) rfl (mW_o G a v)) (mW_f G a v q1822.2) (mW_s G a v q1822.2) rfl rfl hl.1 rfl (Nat.le_of_ble_eq_true rfl) dX8_changes_19 ⟨Nat.le_refl _, Nat.le_refl _⟩ (fun H locs hP hD hS => ?_)
    exact fc_reti hx hb hr hlocks hP hS dX8_changes_22 (i2a hf) (congrArg (fun z => (mW G a z)) (i2b hf))
  · have hf := ifF hf c1821
    refine lv_iload_n hx hb dX8_changes_8 rfl (lv_at hl 2 rfl) ?_
    refine lv_iconst (v := (0 : Int32)) hx hb dX8_changes_9 (by decide) ?_
    refine lv_iconst (v := (5 : Int32)) hx hb dX8_changes_10 (by decide) ?_
    obtain ⟨q1823, hq1823, hf⟩ := bnd hf
    refine fc_callS (Wa' := (mW G a v)) (st1 := [.int q1823]) (As := [.int x2, .int (0 : Int32), .int (5 : Int32)]) (rest := []) hCF (k_X8_isIn x2 (0 : Int32) (5 : Int32) hq1823) (va_cwS 3 hts gX8_changes_X8_isIn rfl rfl rfl dk_X8_isIn ⟨Nat.le_of_ble_eq_true rfl, Nat.le_of_ble_eq_true rfl⟩) hE hAB hP hD hS [] rfl rfl rfl rfl rfl rfl hl.1 rfl (Nat.le_of_ble_eq_true rfl) dX8_changes_11 ⟨Nat.le_refl _, Nat.le_refl _⟩ (fun H locs hP hD hS => ?_)
    refine lv_if_ne (tgt := 23) hx hb dX8_changes_14 (by decide) (fun c1824 => ?_) (fun c1824 => ?_)
    · have hf := ifF hf c1824
      refine lv_aload_n hx hb dX8_changes_23 rfl (lv_at hl 0 rfl) ?_
      refine fc_get (v := .ref (a 4)) (ci := 5) (C := RX8) (T := TX8) (N := 29) hx hb hwX8 hown hE hP 0 (mW_o G a v) rfl 3 (by decide) hk_fieldLink_RX8_19__BrideNotKnownModel___foot____I_ (fun _ h => h) rfl dX8_changes_24 ?_
      refine lv_iload_n hx hb dX8_changes_27 rfl (lv_at hl 1 rfl) ?_
      refine lv_dup2_11 hx hb dX8_changes_28 rfl rfl ?_
      obtain ⟨c1825, hf⟩ := gd_some hf
      refine fc_iald (n := 8) (f := (v 3)) hx hb hE hP 4 (mW_a4 G a v) (inB_in c1825) dX8_changes_29 ?_
      refine lv_iconst (v := (1 : Int32)) hx hb dX8_changes_30 (by decide) ?_
      refine lv_iload_n hx hb dX8_changes_31 rfl (lv_at hl 2 rfl) ?_
      refine lv_ishl hx hb dX8_changes_32 ?_
      refine lv_ixor hx hb dX8_changes_33 ?_
      obtain ⟨c1826, hf⟩ := gd_some hf
      refine fc_iast (n := 8) (f := (v 3)) (Wa' := (mW G a (sA v 3 (upd (v 3) x1.toNatClampNeg (((v 3) x1.toNatClampNeg) ^^^ ((1 : Int32) <<< (x2 &&& 31))))))) hx hb hE hP hD hS 4 (mW_a4 G a v) (inB_in c1826) dX8_changes_34 (mW_t4 G a v (upd (v 3) x1.toNatClampNeg (((v 3) x1.toNatClampNeg) ^^^ ((1 : Int32) <<< (x2 &&& 31))))) (fun H locs hP hD hS => ?_)
      refine lv_aload_n hx hb dX8_changes_35 rfl (lv_at hl 0 rfl) ?_
      refine fc_get (v := .ref (a 4)) (ci := 5) (C := RX8) (T := TX8) (N := 29) hx hb hwX8 hown hE hP 0 (mW_o G a (sA v 3 (upd (v 3) x1.toNatClampNeg (((v 3) x1.toNatClampNeg) ^^^ ((1 : Int32) <<< (x2 &&& 31)))))) rfl 3 (by decide) hk_fieldLink_RX8_19__BrideNotKnownModel___foot____I_ (fun _ h => h) rfl dX8_changes_36 ?_
      refine lv_iload_n hx hb dX8_changes_39 rfl (lv_at hl 1 rfl) ?_
      obtain ⟨c1827, hf⟩ := gd_some hf
      refine fc_iald (n := 8) (f := (upd (v 3) x1.toNatClampNeg (((v 3) x1.toNatClampNeg) ^^^ ((1 : Int32) <<< (x2 &&& 31))))) hx hb hE hP 4 (mW_a4 G a (sA v 3 (upd (v 3) x1.toNatClampNeg (((v 3) x1.toNatClampNeg) ^^^ ((1 : Int32) <<< (x2 &&& 31)))))) (inB_in c1827) dX8_changes_40 ?_
      exact fc_reti hx hb hr hlocks hP hS dX8_changes_41 (i2a hf) (congrArg (fun z => (mW G a z)) (i2b hf))
    · have hf := ifT hf c1824
      refine lv_aload_n hx hb dX8_changes_17 rfl (lv_at hl 0 rfl) ?_
      refine lv_iconst (v := (-1 : Int32)) hx hb dX8_changes_18 (by decide) ?_
      obtain ⟨q1828, hq1828, hf⟩ := bnd hf
      refine fc_callV (Wa' := (mW G a q1828.2)) (st1 := [.int q1828.1]) (As := [.int (-1 : Int32)]) (rest := []) hCF (k_X8_no a v (-1 : Int32) hq1828) (cwV 1 hts gX8_changes_X8_no rfl rfl rfl ⟨rfl, dk_X8_no⟩ ⟨Nat.le_of_ble_eq_true rfl, Nat.le_of_ble_eq_true rfl⟩) hE hAB hP hD hS [0, 1, 2, 3, 4, 5, 6, 7, 8, 9, 10, 11, 12, 13, 14, 15, 16, 17, 18, 19, 20, 21, 22, 23, 24] mW_d (mW_c G a v) (va_recv hE.1 hP (ci := 5) (q0 := 0) rfl (mW_o G a v)) (mW_f G a v q1828.2) (mW_s G a v q1828.2) rfl rfl hl.1 rfl (Nat.le_of_ble_eq_true rfl) dX8_changes_19 ⟨Nat.le_refl _, Nat.le_refl _⟩ (fun H locs hP hD hS => ?_)
      exact fc_reti hx hb hr hlocks hP hS dX8_changes_22 (i2a hf) (congrArg (fun z => (mW G a z)) (i2b hf))
theorem dk_X8_clear : yX8_clear.cls ≠ "java/lang/invoke/MethodHandle" ∧ yX8_clear.cls ≠ "java/lang/invoke/VarHandle" ∧ (parseMethodDescriptor yX8_clear.desc).map (fun d => d.parameters.length) = some 0 := by decide +kernel
theorem iu_X8_clear_X8 : ∀ w ∈ u_ws RX8 TX8 29, w ∈ wsX8_clear := by decide +kernel
set_option maxHeartbeats 4000000 in
set_option maxRecDepth 100000 in
theorem k_X8_clear {l : Launch} {G : Gx} (a : Nat → Nat) (v : St) {r : Int32} {v' : St} (hf : f_X8_clear v = some (r, v')) : FC l G yX8_clear wsX8_clear ({ frames := 0, cells := 0, slots := 0, locals := 0 } : Room) [.ref (a 0)] (mW G a v) (mW G a v') (some (.int r)) := by
  refine fc_head (cc := cX8_clear) (maxL := 2) (ret := (some .int)) (C := RX8) (lv := [(0, .ref (a 0))]) (by decide) rfl rfl (Nat.le_of_ble_eq_true rfl) rfl ?_
  intro p e s m below meth c ls A hx hb hr hml hown hts hlocks hE hP hD hAB hS hl
  have hCF : CallFix p m c cX8_clear 2 s ([.ref (a 0)] : List Value).toArray wsX8_clear RX8 := ⟨hx, hb, hml, hown, hts⟩
  have hwX8 : ∀ w ∈ u_ws RX8 TX8 29, w.before ([.ref (a 0)] : List Value).toArray s = true := fun w h => hts w (iu_X8_clear_X8 w h)
  have hk_fieldLink_RX8_250__BrideNotKnownModel___rowMany___I_ := hts (.fieldLink RX8 250 "BrideNotKnownModel" "rowMany" "I") (List.mem_of_getElem? (i := 1) rfl)
  rw [f_X8_clear] at hf
  refine lv_aload_n hx hb dX8_clear_0 rfl (lv_at hl 0 rfl) ?_
  refine fc_get (v := .int (v 23 9)) (ci := 5) (C := RX8) (T := TX8) (N := 29) hx hb hwX8 hown hE hP 0 (mW_o G a v) rfl 26 (by decide) hk_fieldLink_RX8_250__BrideNotKnownModel___rowMany___I_ (fun _ h => h) rfl dX8_clear_1 ?_
  refine lv_istore_n (lv' := [(1, .int (v 23 9)), (0, .ref (a 0))]) hx hb dX8_clear_4 rfl hl (by decide) rfl (fun ls hl => ?_)
  refine lv_aload_n hx hb dX8_clear_5 rfl (lv_at hl 1 rfl) ?_
  refine lv_iconst (v := (0 : Int32)) hx hb dX8_clear_6 (by decide) ?_
  refine fc_put (Wa' := (mW G a (sA v 23 (upd (v 23) 9 (0 : Int32))))) (ci := 5) (C := RX8) (T := TX8) (N := 29) hx hb hwX8 tyX8 tyX8_ok nmX8 hown hE hP hD hS 0 (mW_o G a v) rfl 26 (by decide) hk_fieldLink_RX8_250__BrideNotKnownModel___rowMany___I_ (fun _ h => h) rfl rfl rfl (Nat.le_of_ble_eq_true rfl) dX8_clear_7 (mW_p26 G a v (0 : Int32)) (fun H locs hP hD hS => ?_)
  refine lv_iload_n hx hb dX8_clear_10 rfl (lv_at hl 0 rfl) ?_
  exact fc_reti hx hb hr hlocks hP hS dX8_clear_11 (i2a hf) (congrArg (fun z => (mW G a z)) (i2b hf))
theorem dk_X8_comesBride : yX8_comesBride.cls ≠ "java/lang/invoke/MethodHandle" ∧ yX8_comesBride.cls ≠ "java/lang/invoke/VarHandle" ∧ (parseMethodDescriptor yX8_comesBride.desc).map (fun d => d.parameters.length) = some 3 := by decide +kernel
theorem iu_X8_comesBride_X8 : ∀ w ∈ u_ws RX8 TX8 29, w ∈ wsX8_comesBride := by decide +kernel
set_option maxHeartbeats 4000000 in
set_option maxRecDepth 100000 in
theorem k_X8_comesBride {l : Launch} {G : Gx} (a : Nat → Nat) (v : St) (x1 : Int32) (x2 : Int32) (x3 : Int32) {r : Int32} {v' : St} (hf : f_X8_comesBride v x1 x2 x3 = some (r, v')) : FC l G yX8_comesBride wsX8_comesBride ({ frames := 0, cells := 0, slots := 0, locals := 0 } : Room) [.ref (a 0), .int x1, .int x2, .int x3] (mW G a v) (mW G a v') (some (.int r)) := by
  refine fc_head (cc := cX8_comesBride) (maxL := 4) (ret := (some .boolean)) (C := RX8) (lv := [(0, .ref (a 0)), (1, .int x1), (2, .int x2), (3, .int x3)]) (by decide) rfl rfl (Nat.le_of_ble_eq_true rfl) rfl ?_
  intro p e s m below meth c ls A hx hb hr hml hown hts hlocks hE hP hD hAB hS hl
  have hCF : CallFix p m c cX8_comesBride 4 s ([.ref (a 0), .int x1, .int x2, .int x3] : List Value).toArray wsX8_comesBride RX8 := ⟨hx, hb, hml, hown, hts⟩
  have hwX8 : ∀ w ∈ u_ws RX8 TX8 29, w.before ([.ref (a 0), .int x1, .int x2, .int x3] : List Value).toArray s = true := fun w h => hts w (iu_X8_comesBride_X8 w h)
  have hk_fieldLink_RX8_66__BrideNotKnownModel___brides___I_ := hts (.fieldLink RX8 66 "BrideNotKnownModel" "brides" "I") (List.mem_of_getElem? (i := 1) rfl)
  have hk_fieldLink_RX8_13__BrideNotKnownModel___kind____I_ := hts (.fieldLink RX8 13 "BrideNotKnownModel" "kind" "[I") (List.mem_of_getElem? (i := 2) rfl)
  have hk_fieldLink_RX8_16__BrideNotKnownModel___figure____I_ := hts (.fieldLink RX8 16 "BrideNotKnownModel" "figure" "[I") (List.mem_of_getElem? (i := 3) rfl)
  have hk_fieldLink_RX8_19__BrideNotKnownModel___foot____I_ := hts (.fieldLink RX8 19 "BrideNotKnownModel" "foot" "[I") (List.mem_of_getElem? (i := 4) rfl)
  have hk_fieldLink_RX8_22__BrideNotKnownModel___state____I_ := hts (.fieldLink RX8 22 "BrideNotKnownModel" "state" "[I") (List.mem_of_getElem? (i := 5) rfl)
  have hk_fieldLink_RX8_25__BrideNotKnownModel___sent____I_ := hts (.fieldLink RX8 25 "BrideNotKnownModel" "sent" "[I") (List.mem_of_getElem? (i := 6) rfl)
  rw [f_X8_comesBride] at hf
  refine lv_iload_n hx hb dX8_comesBride_0 rfl (lv_at hl 3 rfl) ?_
  refine lv_bipush (v := (63 : Int32)) hx hb dX8_comesBride_1 (by decide) ?_
  refine lv_icmp_gt (tgt := 15) hx hb dX8_comesBride_3 (by decide) (fun c1829 => ?_) (fun c1829 => ?_)
  · have hf := ifT hf c1829
    refine lv_iconst (v := (0 : Int32)) hx hb dX8_comesBride_15 (by decide) ?_
    exact fc_retz hx hb hr hlocks hP hS dX8_comesBride_16 (by decide) (i2a hf) (congrArg (fun z => (mW G a z)) (i2b hf))
  · have hf := ifF hf c1829
    refine lv_aload_n hx hb dX8_comesBride_6 rfl (lv_at hl 0 rfl) ?_
    refine fc_get (v := .int (v 23 0)) (ci := 5) (C := RX8) (T := TX8) (N := 29) hx hb hwX8 hown hE hP 0 (mW_o G a v) rfl 10 (by decide) hk_fieldLink_RX8_66__BrideNotKnownModel___brides___I_ (fun _ h => h) rfl dX8_comesBride_7 ?_
    refine lv_bipush (v := (8 : Int32)) hx hb dX8_comesBride_10 (by decide) ?_
    refine lv_icmp_ne (tgt := 17) hx hb dX8_comesBride_12 (by decide) (fun c1830 => ?_) (fun c1830 => ?_)
    · have hf := ifF hf c1830
      refine lv_aload_n hx hb dX8_comesBride_17 rfl (lv_at hl 0 rfl) ?_
      refine fc_get (v := .ref (a 2)) (ci := 5) (C := RX8) (T := TX8) (N := 29) hx hb hwX8 hown hE hP 0 (mW_o G a v) rfl 1 (by decide) hk_fieldLink_RX8_13__BrideNotKnownModel___kind____I_ (fun _ h => h) rfl dX8_comesBride_18 ?_
      refine lv_aload_n hx hb dX8_comesBride_21 rfl (lv_at hl 0 rfl) ?_
      refine fc_get (v := .int (v 23 0)) (ci := 5) (C := RX8) (T := TX8) (N := 29) hx hb hwX8 hown hE hP 0 (mW_o G a v) rfl 10 (by decide) hk_fieldLink_RX8_66__BrideNotKnownModel___brides___I_ (fun _ h => h) rfl dX8_comesBride_22 ?_
      refine lv_iload_n hx hb dX8_comesBride_25 rfl (lv_at hl 1 rfl) ?_
      obtain ⟨c1831, hf⟩ := gd_some hf
      refine fc_iast (n := 8) (f := (v 1)) (Wa' := (mW G a (sA v 1 (upd (v 1) (v 23 0).toNatClampNeg x1)))) hx hb hE hP hD hS 2 (mW_a2 G a v) (inB_in c1831) dX8_comesBride_26 (mW_t2 G a v (upd (v 1) (v 23 0).toNatClampNeg x1)) (fun H locs hP hD hS => ?_)
      refine lv_aload_n hx hb dX8_comesBride_27 rfl (lv_at hl 0 rfl) ?_
      refine fc_get (v := .ref (a 3)) (ci := 5) (C := RX8) (T := TX8) (N := 29) hx hb hwX8 hown hE hP 0 (mW_o G a (sA v 1 (upd (v 1) (v 23 0).toNatClampNeg x1))) rfl 2 (by decide) hk_fieldLink_RX8_16__BrideNotKnownModel___figure____I_ (fun _ h => h) rfl dX8_comesBride_28 ?_
      refine lv_aload_n hx hb dX8_comesBride_31 rfl (lv_at hl 0 rfl) ?_
      refine fc_get (v := .int (v 23 0)) (ci := 5) (C := RX8) (T := TX8) (N := 29) hx hb hwX8 hown hE hP 0 (mW_o G a (sA v 1 (upd (v 1) (v 23 0).toNatClampNeg x1))) rfl 10 (by decide) hk_fieldLink_RX8_66__BrideNotKnownModel___brides___I_ (fun _ h => h) rfl dX8_comesBride_32 ?_
      refine lv_iload_n hx hb dX8_comesBride_35 rfl (lv_at hl 2 rfl) ?_
      obtain ⟨c1832, hf⟩ := gd_some hf
      refine fc_iast (n := 8) (f := (v 2)) (Wa' := (mW G a (sA (sA v 1 (upd (v 1) (v 23 0).toNatClampNeg x1)) 2 (upd (v 2) (v 23 0).toNatClampNeg x2)))) hx hb hE hP hD hS 3 (mW_a3 G a (sA v 1 (upd (v 1) (v 23 0).toNatClampNeg x1))) (inB_in c1832) dX8_comesBride_36 (mW_t3 G a (sA v 1 (upd (v 1) (v 23 0).toNatClampNeg x1)) (upd (v 2) (v 23 0).toNatClampNeg x2)) (fun H locs hP hD hS => ?_)
      refine lv_aload_n hx hb dX8_comesBride_37 rfl (lv_at hl 0 rfl) ?_
      refine fc_get (v := .ref (a 4)) (ci := 5) (C := RX8) (T := TX8) (N := 29) hx hb hwX8 hown hE hP 0 (mW_o G a (sA (sA v 1 (upd (v 1) (v 23 0).toNatClampNeg x1)) 2 (upd (v 2) (v 23 0).toNatClampNeg x2))) rfl 3 (by decide) hk_fieldLink_RX8_19__BrideNotKnownModel___foot____I_ (fun _ h => h) rfl dX8_comesBride_38 ?_
      refine lv_aload_n hx hb dX8_comesBride_41 rfl (lv_at hl 0 rfl) ?_
      refine fc_get (v := .int (v 23 0)) (ci := 5) (C := RX8) (T := TX8) (N := 29) hx hb hwX8 hown hE hP 0 (mW_o G a (sA (sA v 1 (upd (v 1) (v 23 0).toNatClampNeg x1)) 2 (upd (v 2) (v 23 0).toNatClampNeg x2))) rfl 10 (by decide) hk_fieldLink_RX8_66__BrideNotKnownModel___brides___I_ (fun _ h => h) rfl dX8_comesBride_42 ?_
      refine lv_iload_n hx hb dX8_comesBride_45 rfl (lv_at hl 3 rfl) ?_
      obtain ⟨c1833, hf⟩ := gd_some hf
      refine fc_iast (n := 8) (f := (v 3)) (Wa' := (mW G a (sA (sA (sA v 1 (upd (v 1) (v 23 0).toNatClampNeg x1)) 2 (upd (v 2) (v 23 0).toNatClampNeg x2)) 3 (upd (v 3) (v 23 0).toNatClampNeg x3)))) hx hb hE hP hD hS 4 (mW_a4 G a (sA (sA v 1 (upd (v 1) (v 23 0).toNatClampNeg x1)) 2 (upd (v 2) (v 23 0).toNatClampNeg x2))) (inB_in c1833) dX8_comesBride_46 (mW_t4 G a (sA (sA v 1 (upd (v 1) (v 23 0).toNatClampNeg x1)) 2 (upd (v 2) (v 23 0).toNatClampNeg x2)) (upd (v 3) (v 23 0).toNatClampNeg x3)) (fun H locs hP hD hS => ?_)
      refine lv_aload_n hx hb dX8_comesBride_47 rfl (lv_at hl 0 rfl) ?_
      refine fc_get (v := .ref (a 5)) (ci := 5) (C := RX8) (T := TX8) (N := 29) hx hb hwX8 hown hE hP 0 (mW_o G a (sA (sA (sA v 1 (upd (v 1) (v 23 0).toNatClampNeg x1)) 2 (upd (v 2) (v 23 0).toNatClampNeg x2)) 3 (upd (v 3) (v 23 0).toNatClampNeg x3))) rfl 4 (by decide) hk_fieldLink_RX8_22__BrideNotKnownModel___state____I_ (fun _ h => h) rfl dX8_comesBride_48 ?_
      refine lv_aload_n hx hb dX8_comesBride_51 rfl (lv_at hl 0 rfl) ?_
      refine fc_get (v := .int (v 23 0)) (ci := 5) (C := RX8) (T := TX8) (N := 29) hx hb hwX8 hown hE hP 0 (mW_o G a (sA (sA (sA v 1 (upd (v 1) (v 23 0).toNatClampNeg x1)) 2 (upd (v 2) (v 23 0).toNatClampNeg x2)) 3 (upd (v 3) (v 23 0).toNatClampNeg x3))) rfl 10 (by decide) hk_fieldLink_RX8_66__BrideNotKnownModel___brides___I_ (fun _ h => h) rfl dX8_comesBride_52 ?_
      refine lv_iconst (v := (0 : Int32)) hx hb dX8_comesBride_55 (by decide) ?_
      obtain ⟨c1834, hf⟩ := gd_some hf
      refine fc_iast (n := 8) (f := (v 4)) (Wa' := (mW G a (sA (sA (sA (sA v 1 (upd (v 1) (v 23 0).toNatClampNeg x1)) 2 (upd (v 2) (v 23 0).toNatClampNeg x2)) 3 (upd (v 3) (v 23 0).toNatClampNeg x3)) 4 (upd (v 4) (v 23 0).toNatClampNeg (0 : Int32))))) hx hb hE hP hD hS 5 (mW_a5 G a (sA (sA (sA v 1 (upd (v 1) (v 23 0).toNatClampNeg x1)) 2 (upd (v 2) (v 23 0).toNatClampNeg x2)) 3 (upd (v 3) (v 23 0).toNatClampNeg x3))) (inB_in c1834) dX8_comesBride_56 (mW_t5 G a (sA (sA (sA v 1 (upd (v 1) (v 23 0).toNatClampNeg x1)) 2 (upd (v 2) (v 23 0).toNatClampNeg x2)) 3 (upd (v 3) (v 23 0).toNatClampNeg x3)) (upd (v 4) (v 23 0).toNatClampNeg (0 : Int32))) (fun H locs hP hD hS => ?_)
      refine lv_aload_n hx hb dX8_comesBride_57 rfl (lv_at hl 0 rfl) ?_
      refine fc_get (v := .ref (a 6)) (ci := 5) (C := RX8) (T := TX8) (N := 29) hx hb hwX8 hown hE hP 0 (mW_o G a (sA (sA (sA (sA v 1 (upd (v 1) (v 23 0).toNatClampNeg x1)) 2 (upd (v 2) (v 23 0).toNatClampNeg x2)) 3 (upd (v 3) (v 23 0).toNatClampNeg x3)) 4 (upd (v 4) (v 23 0).toNatClampNeg (0 : Int32)))) rfl 5 (by decide) hk_fieldLink_RX8_25__BrideNotKnownModel___sent____I_ (fun _ h => h) rfl dX8_comesBride_58 ?_
      refine lv_aload_n hx hb dX8_comesBride_61 rfl (lv_at hl 0 rfl) ?_
      refine fc_get (v := .int (v 23 0)) (ci := 5) (C := RX8) (T := TX8) (N := 29) hx hb hwX8 hown hE hP 0 (mW_o G a (sA (sA (sA (sA v 1 (upd (v 1) (v 23 0).toNatClampNeg x1)) 2 (upd (v 2) (v 23 0).toNatClampNeg x2)) 3 (upd (v 3) (v 23 0).toNatClampNeg x3)) 4 (upd (v 4) (v 23 0).toNatClampNeg (0 : Int32)))) rfl 10 (by decide) hk_fieldLink_RX8_66__BrideNotKnownModel___brides___I_ (fun _ h => h) rfl dX8_comesBride_62 ?_
      refine lv_iconst (v := (0 : Int32)) hx hb dX8_comesBride_65 (by decide) ?_
      obtain ⟨c1835, hf⟩ := gd_some hf
      refine fc_iast (n := 8) (f := (v 5)) (Wa' := (mW G a (sA (sA (sA (sA (sA v 1 (upd (v 1) (v 23 0).toNatClampNeg x1)) 2 (upd (v 2) (v 23 0).toNatClampNeg x2)) 3 (upd (v 3) (v 23 0).toNatClampNeg x3)) 4 (upd (v 4) (v 23 0).toNatClampNeg (0 : Int32))) 5 (upd (v 5) (v 23 0).toNatClampNeg (0 : Int32))))) hx hb hE hP hD hS 6 (mW_a6 G a (sA (sA (sA (sA v 1 (upd (v 1) (v 23 0).toNatClampNeg x1)) 2 (upd (v 2) (v 23 0).toNatClampNeg x2)) 3 (upd (v 3) (v 23 0).toNatClampNeg x3)) 4 (upd (v 4) (v 23 0).toNatClampNeg (0 : Int32)))) (inB_in c1835) dX8_comesBride_66 (mW_t6 G a (sA (sA (sA (sA v 1 (upd (v 1) (v 23 0).toNatClampNeg x1)) 2 (upd (v 2) (v 23 0).toNatClampNeg x2)) 3 (upd (v 3) (v 23 0).toNatClampNeg x3)) 4 (upd (v 4) (v 23 0).toNatClampNeg (0 : Int32))) (upd (v 5) (v 23 0).toNatClampNeg (0 : Int32))) (fun H locs hP hD hS => ?_)
      refine lv_aload_n hx hb dX8_comesBride_67 rfl (lv_at hl 0 rfl) ?_
      refine lv_dup hx hb dX8_comesBride_68 rfl ?_
      refine fc_get (v := .int (v 23 0)) (ci := 5) (C := RX8) (T := TX8) (N := 29) hx hb hwX8 hown hE hP 0 (mW_o G a (sA (sA (sA (sA (sA v 1 (upd (v 1) (v 23 0).toNatClampNeg x1)) 2 (upd (v 2) (v 23 0).toNatClampNeg x2)) 3 (upd (v 3) (v 23 0).toNatClampNeg x3)) 4 (upd (v 4) (v 23 0).toNatClampNeg (0 : Int32))) 5 (upd (v 5) (v 23 0).toNatClampNeg (0 : Int32)))) rfl 10 (by decide) hk_fieldLink_RX8_66__BrideNotKnownModel___brides___I_ (fun _ h => h) rfl dX8_comesBride_69 ?_
      refine lv_iconst (v := (1 : Int32)) hx hb dX8_comesBride_72 (by decide) ?_
      refine lv_iadd hx hb dX8_comesBride_73 ?_
      refine fc_put (Wa' := (mW G a (sA (sA (sA (sA (sA (sA v 1 (upd (v 1) (v 23 0).toNatClampNeg x1)) 2 (upd (v 2) (v 23 0).toNatClampNeg x2)) 3 (upd (v 3) (v 23 0).toNatClampNeg x3)) 4 (upd (v 4) (v 23 0).toNatClampNeg (0 : Int32))) 5 (upd (v 5) (v 23 0).toNatClampNeg (0 : Int32))) 23 (upd (v 23) 0 ((v 23 0) + (1 : Int32)))))) (ci := 5) (C := RX8) (T := TX8) (N := 29) hx hb hwX8 tyX8 tyX8_ok nmX8 hown hE hP hD hS 0 (mW_o G a (sA (sA (sA (sA (sA v 1 (upd (v 1) (v 23 0).toNatClampNeg x1)) 2 (upd (v 2) (v 23 0).toNatClampNeg x2)) 3 (upd (v 3) (v 23 0).toNatClampNeg x3)) 4 (upd (v 4) (v 23 0).toNatClampNeg (0 : Int32))) 5 (upd (v 5) (v 23 0).toNatClampNeg (0 : Int32)))) rfl 10 (by decide) hk_fieldLink_RX8_66__BrideNotKnownModel___brides___I_ (fun _ h => h) rfl rfl rfl (Nat.le_of_ble_eq_true rfl) dX8_comesBride_74 (mW_p10 G a (sA (sA (sA (sA (sA v 1 (upd (v 1) (v 23 0).toNatClampNeg x1)) 2 (upd (v 2) (v 23 0).toNatClampNeg x2)) 3 (upd (v 3) (v 23 0).toNatClampNeg x3)) 4 (upd (v 4) (v 23 0).toNatClampNeg (0 : Int32))) 5 (upd (v 5) (v 23 0).toNatClampNeg (0 : Int32))) ((v 23 0) + (1 : Int32))) (fun H locs hP hD hS => ?_)
      refine lv_iconst (v := (1 : Int32)) hx hb dX8_comesBride_77 (by decide) ?_
      exact fc_retz hx hb hr hlocks hP hS dX8_comesBride_78 (by decide) (i2a hf) (congrArg (fun z => (mW G a z)) (i2b hf))
    · have hf := ifT hf c1830
      refine lv_iconst (v := (0 : Int32)) hx hb dX8_comesBride_15 (by decide) ?_
      exact fc_retz hx hb hr hlocks hP hS dX8_comesBride_16 (by decide) (i2a hf) (congrArg (fun z => (mW G a z)) (i2b hf))
theorem dk_X8_comesGroom : yX8_comesGroom.cls ≠ "java/lang/invoke/MethodHandle" ∧ yX8_comesGroom.cls ≠ "java/lang/invoke/VarHandle" ∧ (parseMethodDescriptor yX8_comesGroom.desc).map (fun d => d.parameters.length) = some 2 := by decide +kernel
theorem iu_X8_comesGroom_X8 : ∀ w ∈ u_ws RX8 TX8 29, w ∈ wsX8_comesGroom := by decide +kernel
set_option maxHeartbeats 4000000 in
set_option maxRecDepth 100000 in
theorem k_X8_comesGroom {l : Launch} {G : Gx} (a : Nat → Nat) (v : St) (x1 : Int32) (x2 : Int32) {r : Int32} {v' : St} (hf : f_X8_comesGroom v x1 x2 = some (r, v')) : FC l G yX8_comesGroom wsX8_comesGroom ({ frames := 0, cells := 0, slots := 0, locals := 0 } : Room) [.ref (a 0), .int x1, .int x2] (mW G a v) (mW G a v') (some (.int r)) := by
  refine fc_head (cc := cX8_comesGroom) (maxL := 3) (ret := (some .boolean)) (C := RX8) (lv := [(0, .ref (a 0)), (1, .int x1), (2, .int x2)]) (by decide) rfl rfl (Nat.le_of_ble_eq_true rfl) rfl ?_
  intro p e s m below meth c ls A hx hb hr hml hown hts hlocks hE hP hD hAB hS hl
  have hCF : CallFix p m c cX8_comesGroom 3 s ([.ref (a 0), .int x1, .int x2] : List Value).toArray wsX8_comesGroom RX8 := ⟨hx, hb, hml, hown, hts⟩
  have hwX8 : ∀ w ∈ u_ws RX8 TX8 29, w.before ([.ref (a 0), .int x1, .int x2] : List Value).toArray s = true := fun w h => hts w (iu_X8_comesGroom_X8 w h)
  have hk_fieldLink_RX8_76__BrideNotKnownModel___grooms___I_ := hts (.fieldLink RX8 76 "BrideNotKnownModel" "grooms" "I") (List.mem_of_getElem? (i := 1) rfl)
  have hk_fieldLink_RX8_28__BrideNotKnownModel___looks____I_ := hts (.fieldLink RX8 28 "BrideNotKnownModel" "looks" "[I") (List.mem_of_getElem? (i := 2) rfl)
  have hk_fieldLink_RX8_31__BrideNotKnownModel___mind____I_ := hts (.fieldLink RX8 31 "BrideNotKnownModel" "mind" "[I") (List.mem_of_getElem? (i := 3) rfl)
  have hk_fieldLink_RX8_34__BrideNotKnownModel___liquor____I_ := hts (.fieldLink RX8 34 "BrideNotKnownModel" "liquor" "[I") (List.mem_of_getElem? (i := 4) rfl)
  have hk_fieldLink_RX8_37__BrideNotKnownModel___married____I_ := hts (.fieldLink RX8 37 "BrideNotKnownModel" "married" "[I") (List.mem_of_getElem? (i := 5) rfl)
  rw [f_X8_comesGroom] at hf
  refine lv_iload_n hx hb dX8_comesGroom_0 rfl (lv_at hl 1 rfl) ?_
  refine lv_bipush (v := (63 : Int32)) hx hb dX8_comesGroom_1 (by decide) ?_
  refine lv_icmp_gt (tgt := 20) hx hb dX8_comesGroom_3 (by decide) (fun c1836 => ?_) (fun c1836 => ?_)
  · have hf := ifT hf c1836
    refine lv_iconst (v := (0 : Int32)) hx hb dX8_comesGroom_20 (by decide) ?_
    exact fc_retz hx hb hr hlocks hP hS dX8_comesGroom_21 (by decide) (i2a hf) (congrArg (fun z => (mW G a z)) (i2b hf))
  · have hf := ifF hf c1836
    refine lv_iload_n hx hb dX8_comesGroom_6 rfl (lv_at hl 2 rfl) ?_
    refine lv_bipush (v := (63 : Int32)) hx hb dX8_comesGroom_7 (by decide) ?_
    refine lv_icmp_gt (tgt := 20) hx hb dX8_comesGroom_9 (by decide) (fun c1837 => ?_) (fun c1837 => ?_)
    · have hf := ifT hf c1837
      refine lv_iconst (v := (0 : Int32)) hx hb dX8_comesGroom_20 (by decide) ?_
      exact fc_retz hx hb hr hlocks hP hS dX8_comesGroom_21 (by decide) (i2a hf) (congrArg (fun z => (mW G a z)) (i2b hf))
    · have hf := ifF hf c1837
      refine lv_aload_n hx hb dX8_comesGroom_12 rfl (lv_at hl 0 rfl) ?_
      refine fc_get (v := .int (v 23 1)) (ci := 5) (C := RX8) (T := TX8) (N := 29) hx hb hwX8 hown hE hP 0 (mW_o G a v) rfl 11 (by decide) hk_fieldLink_RX8_76__BrideNotKnownModel___grooms___I_ (fun _ h => h) rfl dX8_comesGroom_13 ?_
      refine lv_iconst (v := (5 : Int32)) hx hb dX8_comesGroom_16 (by decide) ?_
      refine lv_icmp_ne (tgt := 22) hx hb dX8_comesGroom_17 (by decide) (fun c1838 => ?_) (fun c1838 => ?_)
      · have hf := ifF hf c1838
        refine lv_aload_n hx hb dX8_comesGroom_22 rfl (lv_at hl 0 rfl) ?_
        refine fc_get (v := .ref (a 7)) (ci := 5) (C := RX8) (T := TX8) (N := 29) hx hb hwX8 hown hE hP 0 (mW_o G a v) rfl 6 (by decide) hk_fieldLink_RX8_28__BrideNotKnownModel___looks____I_ (fun _ h => h) rfl dX8_comesGroom_23 ?_
        refine lv_aload_n hx hb dX8_comesGroom_26 rfl (lv_at hl 0 rfl) ?_
        refine fc_get (v := .int (v 23 1)) (ci := 5) (C := RX8) (T := TX8) (N := 29) hx hb hwX8 hown hE hP 0 (mW_o G a v) rfl 11 (by decide) hk_fieldLink_RX8_76__BrideNotKnownModel___grooms___I_ (fun _ h => h) rfl dX8_comesGroom_27 ?_
        refine lv_iload_n hx hb dX8_comesGroom_30 rfl (lv_at hl 1 rfl) ?_
        obtain ⟨c1839, hf⟩ := gd_some hf
        refine fc_iast (n := 5) (f := (v 6)) (Wa' := (mW G a (sA v 6 (upd (v 6) (v 23 1).toNatClampNeg x1)))) hx hb hE hP hD hS 7 (mW_a7 G a v) (inB_in c1839) dX8_comesGroom_31 (mW_t7 G a v (upd (v 6) (v 23 1).toNatClampNeg x1)) (fun H locs hP hD hS => ?_)
        refine lv_aload_n hx hb dX8_comesGroom_32 rfl (lv_at hl 0 rfl) ?_
        refine fc_get (v := .ref (a 8)) (ci := 5) (C := RX8) (T := TX8) (N := 29) hx hb hwX8 hown hE hP 0 (mW_o G a (sA v 6 (upd (v 6) (v 23 1).toNatClampNeg x1))) rfl 7 (by decide) hk_fieldLink_RX8_31__BrideNotKnownModel___mind____I_ (fun _ h => h) rfl dX8_comesGroom_33 ?_
        refine lv_aload_n hx hb dX8_comesGroom_36 rfl (lv_at hl 0 rfl) ?_
        refine fc_get (v := .int (v 23 1)) (ci := 5) (C := RX8) (T := TX8) (N := 29) hx hb hwX8 hown hE hP 0 (mW_o G a (sA v 6 (upd (v 6) (v 23 1).toNatClampNeg x1))) rfl 11 (by decide) hk_fieldLink_RX8_76__BrideNotKnownModel___grooms___I_ (fun _ h => h) rfl dX8_comesGroom_37 ?_
        refine lv_iload_n hx hb dX8_comesGroom_40 rfl (lv_at hl 2 rfl) ?_
        obtain ⟨c1840, hf⟩ := gd_some hf
        refine fc_iast (n := 5) (f := (v 7)) (Wa' := (mW G a (sA (sA v 6 (upd (v 6) (v 23 1).toNatClampNeg x1)) 7 (upd (v 7) (v 23 1).toNatClampNeg x2)))) hx hb hE hP hD hS 8 (mW_a8 G a (sA v 6 (upd (v 6) (v 23 1).toNatClampNeg x1))) (inB_in c1840) dX8_comesGroom_41 (mW_t8 G a (sA v 6 (upd (v 6) (v 23 1).toNatClampNeg x1)) (upd (v 7) (v 23 1).toNatClampNeg x2)) (fun H locs hP hD hS => ?_)
        refine lv_aload_n hx hb dX8_comesGroom_42 rfl (lv_at hl 0 rfl) ?_
        refine fc_get (v := .ref (a 9)) (ci := 5) (C := RX8) (T := TX8) (N := 29) hx hb hwX8 hown hE hP 0 (mW_o G a (sA (sA v 6 (upd (v 6) (v 23 1).toNatClampNeg x1)) 7 (upd (v 7) (v 23 1).toNatClampNeg x2))) rfl 8 (by decide) hk_fieldLink_RX8_34__BrideNotKnownModel___liquor____I_ (fun _ h => h) rfl dX8_comesGroom_43 ?_
        refine lv_aload_n hx hb dX8_comesGroom_46 rfl (lv_at hl 0 rfl) ?_
        refine fc_get (v := .int (v 23 1)) (ci := 5) (C := RX8) (T := TX8) (N := 29) hx hb hwX8 hown hE hP 0 (mW_o G a (sA (sA v 6 (upd (v 6) (v 23 1).toNatClampNeg x1)) 7 (upd (v 7) (v 23 1).toNatClampNeg x2))) rfl 11 (by decide) hk_fieldLink_RX8_76__BrideNotKnownModel___grooms___I_ (fun _ h => h) rfl dX8_comesGroom_47 ?_
        refine lv_iconst (v := (0 : Int32)) hx hb dX8_comesGroom_50 (by decide) ?_
        obtain ⟨c1841, hf⟩ := gd_some hf
        refine fc_iast (n := 5) (f := (v 8)) (Wa' := (mW G a (sA (sA (sA v 6 (upd (v 6) (v 23 1).toNatClampNeg x1)) 7 (upd (v 7) (v 23 1).toNatClampNeg x2)) 8 (upd (v 8) (v 23 1).toNatClampNeg (0 : Int32))))) hx hb hE hP hD hS 9 (mW_a9 G a (sA (sA v 6 (upd (v 6) (v 23 1).toNatClampNeg x1)) 7 (upd (v 7) (v 23 1).toNatClampNeg x2))) (inB_in c1841) dX8_comesGroom_51 (mW_t9 G a (sA (sA v 6 (upd (v 6) (v 23 1).toNatClampNeg x1)) 7 (upd (v 7) (v 23 1).toNatClampNeg x2)) (upd (v 8) (v 23 1).toNatClampNeg (0 : Int32))) (fun H locs hP hD hS => ?_)
        refine lv_aload_n hx hb dX8_comesGroom_52 rfl (lv_at hl 0 rfl) ?_
        refine fc_get (v := .ref (a 10)) (ci := 5) (C := RX8) (T := TX8) (N := 29) hx hb hwX8 hown hE hP 0 (mW_o G a (sA (sA (sA v 6 (upd (v 6) (v 23 1).toNatClampNeg x1)) 7 (upd (v 7) (v 23 1).toNatClampNeg x2)) 8 (upd (v 8) (v 23 1).toNatClampNeg (0 : Int32)))) rfl 9 (by decide) hk_fieldLink_RX8_37__BrideNotKnownModel___married____I_ (fun _ h => h) rfl dX8_comesGroom_53 ?_
        refine lv_aload_n hx hb dX8_comesGroom_56 rfl (lv_at hl 0 rfl) ?_
        refine fc_get (v := .int (v 23 1)) (ci := 5) (C := RX8) (T := TX8) (N := 29) hx hb hwX8 hown hE hP 0 (mW_o G a (sA (sA (sA v 6 (upd (v 6) (v 23 1).toNatClampNeg x1)) 7 (upd (v 7) (v 23 1).toNatClampNeg x2)) 8 (upd (v 8) (v 23 1).toNatClampNeg (0 : Int32)))) rfl 11 (by decide) hk_fieldLink_RX8_76__BrideNotKnownModel___grooms___I_ (fun _ h => h) rfl dX8_comesGroom_57 ?_
        refine lv_iconst (v := (0 : Int32)) hx hb dX8_comesGroom_60 (by decide) ?_
        obtain ⟨c1842, hf⟩ := gd_some hf
        refine fc_iast (n := 5) (f := (v 9)) (Wa' := (mW G a (sA (sA (sA (sA v 6 (upd (v 6) (v 23 1).toNatClampNeg x1)) 7 (upd (v 7) (v 23 1).toNatClampNeg x2)) 8 (upd (v 8) (v 23 1).toNatClampNeg (0 : Int32))) 9 (upd (v 9) (v 23 1).toNatClampNeg (0 : Int32))))) hx hb hE hP hD hS 10 (mW_a10 G a (sA (sA (sA v 6 (upd (v 6) (v 23 1).toNatClampNeg x1)) 7 (upd (v 7) (v 23 1).toNatClampNeg x2)) 8 (upd (v 8) (v 23 1).toNatClampNeg (0 : Int32)))) (inB_in c1842) dX8_comesGroom_61 (mW_t10 G a (sA (sA (sA v 6 (upd (v 6) (v 23 1).toNatClampNeg x1)) 7 (upd (v 7) (v 23 1).toNatClampNeg x2)) 8 (upd (v 8) (v 23 1).toNatClampNeg (0 : Int32))) (upd (v 9) (v 23 1).toNatClampNeg (0 : Int32))) (fun H locs hP hD hS => ?_)
        refine lv_aload_n hx hb dX8_comesGroom_62 rfl (lv_at hl 0 rfl) ?_
        refine lv_dup hx hb dX8_comesGroom_63 rfl ?_
        refine fc_get (v := .int (v 23 1)) (ci := 5) (C := RX8) (T := TX8) (N := 29) hx hb hwX8 hown hE hP 0 (mW_o G a (sA (sA (sA (sA v 6 (upd (v 6) (v 23 1).toNatClampNeg x1)) 7 (upd (v 7) (v 23 1).toNatClampNeg x2)) 8 (upd (v 8) (v 23 1).toNatClampNeg (0 : Int32))) 9 (upd (v 9) (v 23 1).toNatClampNeg (0 : Int32)))) rfl 11 (by decide) hk_fieldLink_RX8_76__BrideNotKnownModel___grooms___I_ (fun _ h => h) rfl dX8_comesGroom_64 ?_
        refine lv_iconst (v := (1 : Int32)) hx hb dX8_comesGroom_67 (by decide) ?_
        refine lv_iadd hx hb dX8_comesGroom_68 ?_
        refine fc_put (Wa' := (mW G a (sA (sA (sA (sA (sA v 6 (upd (v 6) (v 23 1).toNatClampNeg x1)) 7 (upd (v 7) (v 23 1).toNatClampNeg x2)) 8 (upd (v 8) (v 23 1).toNatClampNeg (0 : Int32))) 9 (upd (v 9) (v 23 1).toNatClampNeg (0 : Int32))) 23 (upd (v 23) 1 ((v 23 1) + (1 : Int32)))))) (ci := 5) (C := RX8) (T := TX8) (N := 29) hx hb hwX8 tyX8 tyX8_ok nmX8 hown hE hP hD hS 0 (mW_o G a (sA (sA (sA (sA v 6 (upd (v 6) (v 23 1).toNatClampNeg x1)) 7 (upd (v 7) (v 23 1).toNatClampNeg x2)) 8 (upd (v 8) (v 23 1).toNatClampNeg (0 : Int32))) 9 (upd (v 9) (v 23 1).toNatClampNeg (0 : Int32)))) rfl 11 (by decide) hk_fieldLink_RX8_76__BrideNotKnownModel___grooms___I_ (fun _ h => h) rfl rfl rfl (Nat.le_of_ble_eq_true rfl) dX8_comesGroom_69 (mW_p11 G a (sA (sA (sA (sA v 6 (upd (v 6) (v 23 1).toNatClampNeg x1)) 7 (upd (v 7) (v 23 1).toNatClampNeg x2)) 8 (upd (v 8) (v 23 1).toNatClampNeg (0 : Int32))) 9 (upd (v 9) (v 23 1).toNatClampNeg (0 : Int32))) ((v 23 1) + (1 : Int32))) (fun H locs hP hD hS => ?_)
        refine lv_iconst (v := (1 : Int32)) hx hb dX8_comesGroom_72 (by decide) ?_
        exact fc_retz hx hb hr hlocks hP hS dX8_comesGroom_73 (by decide) (i2a hf) (congrArg (fun z => (mW G a z)) (i2b hf))
      · have hf := ifT hf c1838
        refine lv_iconst (v := (0 : Int32)) hx hb dX8_comesGroom_20 (by decide) ?_
        exact fc_retz hx hb hr hlocks hP hS dX8_comesGroom_21 (by decide) (i2a hf) (congrArg (fun z => (mW G a z)) (i2b hf))
theorem dk_X8_isGroom : yX8_isGroom.cls ≠ "java/lang/invoke/MethodHandle" ∧ yX8_isGroom.cls ≠ "java/lang/invoke/VarHandle" ∧ (parseMethodDescriptor yX8_isGroom.desc).map (fun d => d.parameters.length) = some 1 := by decide +kernel
theorem iu_X8_isGroom_X8 : ∀ w ∈ u_ws RX8 TX8 29, w ∈ wsX8_isGroom := by decide +kernel
set_option maxHeartbeats 4000000 in
set_option maxRecDepth 100000 in
theorem k_X8_isGroom {l : Launch} {G : Gx} (a : Nat → Nat) (v : St) (x1 : Int32) {r : Int32} (hf : f_X8_isGroom v x1 = some r) : FC l G yX8_isGroom wsX8_isGroom ({ frames := 0, cells := 0, slots := 0, locals := 0 } : Room) [.ref (a 0), .int x1] (mW G a v) (mW G a v) (some (.int r)) := by
  refine fc_head (cc := cX8_isGroom) (maxL := 2) (ret := (some .boolean)) (C := RX8) (lv := [(0, .ref (a 0)), (1, .int x1)]) (by decide) rfl rfl (Nat.le_of_ble_eq_true rfl) rfl ?_
  intro p e s m below meth c ls A hx hb hr hml hown hts hlocks hE hP hD hAB hS hl
  have hCF : CallFix p m c cX8_isGroom 2 s ([.ref (a 0), .int x1] : List Value).toArray wsX8_isGroom RX8 := ⟨hx, hb, hml, hown, hts⟩
  have hwX8 : ∀ w ∈ u_ws RX8 TX8 29, w.before ([.ref (a 0), .int x1] : List Value).toArray s = true := fun w h => hts w (iu_X8_isGroom_X8 w h)
  have hk_fieldLink_RX8_76__BrideNotKnownModel___grooms___I_ := hts (.fieldLink RX8 76 "BrideNotKnownModel" "grooms" "I") (List.mem_of_getElem? (i := 1) rfl)
  rw [f_X8_isGroom] at hf
  refine lv_iload_n hx hb dX8_isGroom_0 rfl (lv_at hl 1 rfl) ?_
  refine lv_if_lt (tgt := 16) hx hb dX8_isGroom_1 (by decide) (fun c1843 => ?_) (fun c1843 => ?_)
  · have hf := ifT hf c1843
    refine lv_iconst (v := (0 : Int32)) hx hb dX8_isGroom_16 (by decide) ?_
    exact fc_retz hx hb hr hlocks hP hS dX8_isGroom_17 (by decide) (i1 hf) rfl
  · have hf := ifF hf c1843
    refine lv_iload_n hx hb dX8_isGroom_4 rfl (lv_at hl 1 rfl) ?_
    refine lv_aload_n hx hb dX8_isGroom_5 rfl (lv_at hl 0 rfl) ?_
    refine fc_get (v := .int (v 23 1)) (ci := 5) (C := RX8) (T := TX8) (N := 29) hx hb hwX8 hown hE hP 0 (mW_o G a v) rfl 11 (by decide) hk_fieldLink_RX8_76__BrideNotKnownModel___grooms___I_ (fun _ h => h) rfl dX8_isGroom_6 ?_
    refine lv_icmp_ge (tgt := 16) hx hb dX8_isGroom_9 (by decide) (fun c1844 => ?_) (fun c1844 => ?_)
    · have hf := ifT hf c1844
      refine lv_iconst (v := (0 : Int32)) hx hb dX8_isGroom_16 (by decide) ?_
      exact fc_retz hx hb hr hlocks hP hS dX8_isGroom_17 (by decide) (i1 hf) rfl
    · have hf := ifF hf c1844
      refine lv_iconst (v := (1 : Int32)) hx hb dX8_isGroom_12 (by decide) ?_
      refine lv_goto (tgt := 17) hx hb dX8_isGroom_13 (by decide) ?_
      exact fc_retz hx hb hr hlocks hP hS dX8_isGroom_17 (by decide) (i1 hf) rfl
theorem dk_X8_sends : yX8_sends.cls ≠ "java/lang/invoke/MethodHandle" ∧ yX8_sends.cls ≠ "java/lang/invoke/VarHandle" ∧ (parseMethodDescriptor yX8_sends.desc).map (fun d => d.parameters.length) = some 2 := by decide +kernel
theorem iu_X8_sends_X8 : ∀ w ∈ u_ws RX8 TX8 29, w ∈ wsX8_sends := by decide +kernel
set_option maxHeartbeats 4000000 in
set_option maxRecDepth 100000 in
theorem k_X8_sends {l : Launch} {G : Gx} (a : Nat → Nat) (v : St) (x1 : Int32) (x2 : Int32) {v' : St} (hf : f_X8_sends v x1 x2 = some v') : FC l G yX8_sends wsX8_sends ({ frames := 0, cells := 0, slots := 0, locals := 0 } : Room) [.ref (a 0), .int x1, .int x2] (mW G a v) (mW G a v') none := by
  refine fc_head (cc := cX8_sends) (maxL := 3) (ret := none) (C := RX8) (lv := [(0, .ref (a 0)), (1, .int x1), (2, .int x2)]) (by decide) rfl rfl (Nat.le_of_ble_eq_true rfl) rfl ?_
  intro p e s m below meth c ls A hx hb hr hml hown hts hlocks hE hP hD hAB hS hl
  have hCF : CallFix p m c cX8_sends 3 s ([.ref (a 0), .int x1, .int x2] : List Value).toArray wsX8_sends RX8 := ⟨hx, hb, hml, hown, hts⟩
  have hwX8 : ∀ w ∈ u_ws RX8 TX8 29, w.before ([.ref (a 0), .int x1, .int x2] : List Value).toArray s = true := fun w h => hts w (iu_X8_sends_X8 w h)
  have hk_fieldLink_RX8_22__BrideNotKnownModel___state____I_ := hts (.fieldLink RX8 22 "BrideNotKnownModel" "state" "[I") (List.mem_of_getElem? (i := 1) rfl)
  have hk_fieldLink_RX8_25__BrideNotKnownModel___sent____I_ := hts (.fieldLink RX8 25 "BrideNotKnownModel" "sent" "[I") (List.mem_of_getElem? (i := 2) rfl)
  rw [f_X8_sends] at hf
  refine lv_aload_n hx hb dX8_sends_0 rfl (lv_at hl 0 rfl) ?_
  refine fc_get (v := .ref (a 5)) (ci := 5) (C := RX8) (T := TX8) (N := 29) hx hb hwX8 hown hE hP 0 (mW_o G a v) rfl 4 (by decide) hk_fieldLink_RX8_22__BrideNotKnownModel___state____I_ (fun _ h => h) rfl dX8_sends_1 ?_
  refine lv_iload_n hx hb dX8_sends_4 rfl (lv_at hl 1 rfl) ?_
  refine lv_iconst (v := (1 : Int32)) hx hb dX8_sends_5 (by decide) ?_
  obtain ⟨c1845, hf⟩ := gd_some hf
  refine fc_iast (n := 8) (f := (v 4)) (Wa' := (mW G a (sA v 4 (upd (v 4) x1.toNatClampNeg (1 : Int32))))) hx hb hE hP hD hS 5 (mW_a5 G a v) (inB_in c1845) dX8_sends_6 (mW_t5 G a v (upd (v 4) x1.toNatClampNeg (1 : Int32))) (fun H locs hP hD hS => ?_)
  refine lv_aload_n hx hb dX8_sends_7 rfl (lv_at hl 0 rfl) ?_
  refine fc_get (v := .ref (a 6)) (ci := 5) (C := RX8) (T := TX8) (N := 29) hx hb hwX8 hown hE hP 0 (mW_o G a (sA v 4 (upd (v 4) x1.toNatClampNeg (1 : Int32)))) rfl 5 (by decide) hk_fieldLink_RX8_25__BrideNotKnownModel___sent____I_ (fun _ h => h) rfl dX8_sends_8 ?_
  refine lv_iload_n hx hb dX8_sends_11 rfl (lv_at hl 1 rfl) ?_
  refine lv_iload_n hx hb dX8_sends_12 rfl (lv_at hl 2 rfl) ?_
  obtain ⟨c1846, hf⟩ := gd_some hf
  refine fc_iast (n := 8) (f := (v 5)) (Wa' := (mW G a (sA (sA v 4 (upd (v 4) x1.toNatClampNeg (1 : Int32))) 5 (upd (v 5) x1.toNatClampNeg x2)))) hx hb hE hP hD hS 6 (mW_a6 G a (sA v 4 (upd (v 4) x1.toNatClampNeg (1 : Int32)))) (inB_in c1846) dX8_sends_13 (mW_t6 G a (sA v 4 (upd (v 4) x1.toNatClampNeg (1 : Int32))) (upd (v 5) x1.toNatClampNeg x2)) (fun H locs hP hD hS => ?_)
  exact fc_retv hx hb hr hlocks hP hS dX8_sends_14 (congrArg (fun z => (mW G a z)) (i1 hf))
theorem dk_X8_takenBy : yX8_takenBy.cls ≠ "java/lang/invoke/MethodHandle" ∧ yX8_takenBy.cls ≠ "java/lang/invoke/VarHandle" ∧ (parseMethodDescriptor yX8_takenBy.desc).map (fun d => d.parameters.length) = some 2 := by decide +kernel
set_option maxHeartbeats 4000000 in
set_option maxRecDepth 100000 in
theorem k_X8_takenBy {l : Launch} {G : Gx} (a : Nat → Nat) (v : St) (x1 : Int32) (x2 : Int32) {r : Int32} (hf : f_X8_takenBy v x1 x2 = some r) : FC l G yX8_takenBy wsX8_takenBy ({ frames := 4, cells := 0, slots := 0, locals := 89 } : Room) [.ref (a 0), .int x1, .int x2] (mW G a v) (mW G a v) (some (.int r)) := by
  refine fc_head (cc := cX8_takenBy) (maxL := 6) (ret := (some .int)) (C := RX8) (lv := [(0, .ref (a 0)), (1, .int x1), (2, .int x2)]) (by decide) rfl rfl (Nat.le_of_ble_eq_true rfl) rfl ?_
  intro p e s m below meth c ls A hx hb hr hml hown hts hlocks hE hP hD hAB hS hl
  have hCF : CallFix p m c cX8_takenBy 6 s ([.ref (a 0), .int x1, .int x2] : List Value).toArray wsX8_takenBy RX8 := ⟨hx, hb, hml, hown, hts⟩
  rw [f_X8_takenBy] at hf
  refine lv_aload_n hx hb dX8_takenBy_0 rfl (lv_at hl 0 rfl) ?_
  refine lv_iload_n hx hb dX8_takenBy_1 rfl (lv_at hl 1 rfl) ?_
  obtain ⟨q1853, hq1853, hf⟩ := bnd hf
  refine fc_callV (Wa' := (mW G a v)) (st1 := [.int q1853]) (As := [.int x1]) (rest := []) hCF (k_X8_guesses a v x1 hq1853) (cwV 1 hts gX8_takenBy_X8_guesses rfl rfl rfl ⟨rfl, dk_X8_guesses⟩ ⟨Nat.le_of_ble_eq_true rfl, Nat.le_of_ble_eq_true rfl⟩) hE hAB hP hD hS [0, 1, 2, 3, 4, 5, 6, 7, 8, 9, 10, 11, 12, 13, 14, 15, 16, 17, 18, 19, 20, 21, 22, 23, 24] mW_d (mW_c G a v) (va_recv hE.1 hP (ci := 5) (q0 := 0) rfl (mW_o G a v)) (mW_f G a v v) (mW_s G a v v) rfl rfl hl.1 rfl (Nat.le_of_ble_eq_true rfl) dX8_takenBy_2 ⟨Nat.le_refl _, Nat.le_refl _⟩ (fun H locs hP hD hS => ?_)
  have J20_1855 : ∀ (s0_1854 : Int32) (H : Heap) (locs : List Loc) (ls : Array Slot), va_P (gD G) vwCl (mW G a v) H → va_D A (mW G a v) → va_S A s.heap H locs → lv_has ls 6 [(2, .int x2)] → f_X8_takenBy_20 x2 s0_1854 = some r → W p l e (headSpec wsX8_takenBy ({ frames := 4, cells := 0, slots := 0, locals := 89 } : Room)).room s m ([.ref (a 0), .int x1, .int x2] : List Value).toArray below meth c H locs 0 0 (MQ below (FQ G A (mW G a v) (some (.int r))) ([.ref (a 0), .int x1, .int x2] : List Value).toArray s 0 0 A) (F0 m 20 ls [.int s0_1854]) := by
    intro s0_1854 H locs ls hP hD hS hl hf
    rw [f_X8_takenBy_20] at hf
    refine lv_istore_n (lv' := [(3, .int s0_1854), (2, .int x2)]) hx hb dX8_takenBy_20 rfl hl (by decide) rfl (fun ls hl => ?_)
    refine lv_iload_n hx hb dX8_takenBy_21 rfl (lv_at hl 1 rfl) ?_
    refine lv_iload_n hx hb dX8_takenBy_22 rfl (lv_at hl 0 rfl) ?_
    obtain ⟨q1856, hq1856, hf⟩ := bnd hf
    refine fc_callS (Wa' := (mW G a v)) (st1 := [.int q1856, .int x2]) (As := [.int s0_1854]) (rest := [.int x2]) hCF (k_X8_bits s0_1854 hq1856) (va_cwS 1 hts gX8_takenBy_X8_bits rfl rfl rfl dk_X8_bits ⟨Nat.le_of_ble_eq_true rfl, Nat.le_of_ble_eq_true rfl⟩) hE hAB hP hD hS [] rfl rfl rfl rfl rfl rfl hl.1 rfl (Nat.le_of_ble_eq_true rfl) dX8_takenBy_23 ⟨Nat.le_refl _, Nat.le_refl _⟩ (fun H locs hP hD hS => ?_)
    obtain ⟨c1857, hf⟩ := gd_some hf
    refine lv_irem hx hb dX8_takenBy_26 (nzI_ne c1857) ?_
    refine lv_istore (lv' := [(4, .int (x2 - x2 / q1856 * q1856)), (3, .int s0_1854), (2, .int x2)]) hx hb dX8_takenBy_27 hl (by decide) rfl (fun ls hl => ?_)
    refine lv_iload_n hx hb dX8_takenBy_29 rfl (lv_at hl 1 rfl) ?_
    obtain ⟨q1858, hq1858, hf⟩ := bnd hf
    refine fc_callS (Wa' := (mW G a v)) (st1 := [.int q1858]) (As := [.int s0_1854]) (rest := []) hCF (k_X8_lowest s0_1854 hq1858) (va_cwS 1 hts gX8_takenBy_X8_lowest rfl rfl rfl dk_X8_lowest ⟨Nat.le_of_ble_eq_true rfl, Nat.le_of_ble_eq_true rfl⟩) hE hAB hP hD hS [] rfl rfl rfl rfl rfl rfl hl.1 rfl (Nat.le_of_ble_eq_true rfl) dX8_takenBy_30 ⟨Nat.le_refl _, Nat.le_refl _⟩ (fun H locs hP hD hS => ?_)
    refine lv_istore (lv' := [(5, .int q1858), (4, .int (x2 - x2 / q1856 * q1856)), (3, .int s0_1854), (2, .int x2)]) hx hb dX8_takenBy_33 hl (by decide) rfl (fun ls hl => ?_)
    have L35_1861 : ∀ (n : Nat) (x4_1859 : Int32) (x5_1860 : Int32) (H : Heap) (locs : List Loc) (ls : Array Slot), va_P (gD G) vwCl (mW G a v) H → va_D A (mW G a v) → va_S A s.heap H locs → lv_has ls 6 [(3, .int s0_1854), (4, .int x4_1859), (5, .int x5_1860)] → f_X8_takenBy_35 s0_1854 n x4_1859 x5_1860 = some r → W p l e (headSpec wsX8_takenBy ({ frames := 4, cells := 0, slots := 0, locals := 89 } : Room)).room s m ([.ref (a 0), .int x1, .int x2] : List Value).toArray below meth c H locs 0 0 (MQ below (FQ G A (mW G a v) (some (.int r))) ([.ref (a 0), .int x1, .int x2] : List Value).toArray s 0 0 A) (F0 m 35 ls []) := by
      intro n
      induction n with
      | zero =>
        intro x4_1859 x5_1860 H locs ls hP hD hS hl hf
        exact no_some hf
      | succ n ih =>
        intro x4_1859 x5_1860 H locs ls hP hD hS hl hf
        rw [f_X8_takenBy_35] at hf
        refine lv_iload hx hb dX8_takenBy_35 (lv_at hl 1 rfl) ?_
        refine lv_if_le (tgt := 65) hx hb dX8_takenBy_37 (by decide) (fun c1862 => ?_) (fun c1862 => ?_)
        · have hf := ifT hf c1862
          refine lv_iload hx hb dX8_takenBy_65 (lv_at hl 2 rfl) ?_
          exact fc_reti hx hb hr hlocks hP hS dX8_takenBy_67 (i1 hf) rfl
        · have hf := ifF hf c1862
          refine lv_iinc (v := (x5_1860 + (1 : Int32))) (lv' := [(5, .int (x5_1860 + (1 : Int32))), (3, .int s0_1854), (4, .int x4_1859)]) hx hb dX8_takenBy_40 hl (k := 2) rfl rfl (by decide) rfl (fun ls hl => ?_)
          refine lv_iload hx hb dX8_takenBy_43 (lv_at hl 2 rfl) ?_
          refine lv_iload_n hx hb dX8_takenBy_45 rfl (lv_at hl 1 rfl) ?_
          refine lv_iload hx hb dX8_takenBy_46 (lv_at hl 0 rfl) ?_
          obtain ⟨q1863, hq1863, hf⟩ := bnd hf
          refine fc_callS (Wa' := (mW G a v)) (st1 := [.int q1863, .int x4_1859]) (As := [.int s0_1854, .int (x5_1860 + (1 : Int32))]) (rest := [.int x4_1859]) hCF (k_X8_has s0_1854 (x5_1860 + (1 : Int32)) hq1863) (va_cwS 2 hts gX8_takenBy_X8_has rfl rfl rfl dk_X8_has ⟨Nat.le_of_ble_eq_true rfl, Nat.le_of_ble_eq_true rfl⟩) hE hAB hP hD hS [] rfl rfl rfl rfl rfl rfl hl.1 rfl (Nat.le_of_ble_eq_true rfl) dX8_takenBy_48 ⟨Nat.le_refl _, Nat.le_refl _⟩ (fun H locs hP hD hS => ?_)
          refine lv_if_eq (tgt := 58) hx hb dX8_takenBy_51 (by decide) (fun c1864 => ?_) (fun c1864 => ?_)
          · have hf := ifT hf c1864
            refine lv_iconst (v := (0 : Int32)) hx hb dX8_takenBy_58 (by decide) ?_
            refine lv_isub hx hb dX8_takenBy_59 ?_
            refine lv_istore (lv' := [(4, .int (x4_1859 - (0 : Int32))), (5, .int (x5_1860 + (1 : Int32))), (3, .int s0_1854)]) hx hb dX8_takenBy_60 hl (by decide) rfl (fun ls hl => ?_)
            refine lv_goto (tgt := 35) hx hb dX8_takenBy_62 (by decide) ?_
            exact ih (x4_1859 - (0 : Int32)) (x5_1860 + (1 : Int32)) _ _ _ hP hD hS (lv_sub hl [2, 0, 1] rfl) hf
          · have hf := ifF hf c1864
            refine lv_iconst (v := (1 : Int32)) hx hb dX8_takenBy_54 (by decide) ?_
            refine lv_goto (tgt := 59) hx hb dX8_takenBy_55 (by decide) ?_
            refine lv_isub hx hb dX8_takenBy_59 ?_
            refine lv_istore (lv' := [(4, .int (x4_1859 - (1 : Int32))), (5, .int (x5_1860 + (1 : Int32))), (3, .int s0_1854)]) hx hb dX8_takenBy_60 hl (by decide) rfl (fun ls hl => ?_)
            refine lv_goto (tgt := 35) hx hb dX8_takenBy_62 (by decide) ?_
            exact ih (x4_1859 - (1 : Int32)) (x5_1860 + (1 : Int32)) _ _ _ hP hD hS (lv_sub hl [2, 0, 1] rfl) hf
    exact L35_1861 FUEL (x2 - x2 / q1856 * q1856) q1858 _ _ _ hP hD hS (lv_sub hl [2, 1, 0] rfl) hf
  refine lv_if_ne (tgt := 15) hx hb dX8_takenBy_5 (by decide) (fun c1865 => ?_) (fun c1865 => ?_)
  · have hf := ifF hf c1865
    refine lv_aload_n hx hb dX8_takenBy_15 rfl (lv_at hl 0 rfl) ?_
    refine lv_iload_n hx hb dX8_takenBy_16 rfl (lv_at hl 1 rfl) ?_
    obtain ⟨q1866, hq1866, hf⟩ := bnd hf
    refine fc_callV (Wa' := (mW G a v)) (st1 := [.int q1866]) (As := [.int x1]) (rest := []) hCF (k_X8_guesses a v x1 hq1866) (cwV 1 hts gX8_takenBy_X8_guesses rfl rfl rfl ⟨rfl, dk_X8_guesses⟩ ⟨Nat.le_of_ble_eq_true rfl, Nat.le_of_ble_eq_true rfl⟩) hE hAB hP hD hS [0, 1, 2, 3, 4, 5, 6, 7, 8, 9, 10, 11, 12, 13, 14, 15, 16, 17, 18, 19, 20, 21, 22, 23, 24] mW_d (mW_c G a v) (va_recv hE.1 hP (ci := 5) (q0 := 0) rfl (mW_o G a v)) (mW_f G a v v) (mW_s G a v v) rfl rfl hl.1 rfl (Nat.le_of_ble_eq_true rfl) dX8_takenBy_17 ⟨Nat.le_refl _, Nat.le_refl _⟩ (fun H locs hP hD hS => ?_)
    exact J20_1855 q1866 _ _ _ hP hD hS (lv_sub hl [2] rfl) hf
  · have hf := ifT hf c1865
    refine lv_aload_n hx hb dX8_takenBy_8 rfl (lv_at hl 0 rfl) ?_
    obtain ⟨q1867, hq1867, hf⟩ := bnd hf
    refine fc_callV (Wa' := (mW G a v)) (st1 := [.int q1867]) (As := []) (rest := []) hCF (k_X8_here a v hq1867) (cwV 0 hts gX8_takenBy_X8_here rfl rfl rfl ⟨rfl, dk_X8_here⟩ ⟨Nat.le_of_ble_eq_true rfl, Nat.le_of_ble_eq_true rfl⟩) hE hAB hP hD hS [0, 1, 2, 3, 4, 5, 6, 7, 8, 9, 10, 11, 12, 13, 14, 15, 16, 17, 18, 19, 20, 21, 22, 23, 24] mW_d (mW_c G a v) (va_recv hE.1 hP (ci := 5) (q0 := 0) rfl (mW_o G a v)) (mW_f G a v v) (mW_s G a v v) rfl rfl hl.1 rfl (Nat.le_of_ble_eq_true rfl) dX8_takenBy_9 ⟨Nat.le_refl _, Nat.le_refl _⟩ (fun H locs hP hD hS => ?_)
    refine lv_goto (tgt := 20) hx hb dX8_takenBy_12 (by decide) ?_
    exact J20_1855 q1867 _ _ _ hP hD hS (lv_sub hl [2] rfl) hf
theorem dk_X8_weds : yX8_weds.cls ≠ "java/lang/invoke/MethodHandle" ∧ yX8_weds.cls ≠ "java/lang/invoke/VarHandle" ∧ (parseMethodDescriptor yX8_weds.desc).map (fun d => d.parameters.length) = some 1 := by decide +kernel
theorem iu_X8_weds_X8 : ∀ w ∈ u_ws RX8 TX8 29, w ∈ wsX8_weds := by decide +kernel
set_option maxHeartbeats 4000000 in
set_option maxRecDepth 100000 in
theorem k_X8_weds {l : Launch} {G : Gx} (a : Nat → Nat) (v : St) (x1 : Int32) {r : Int32} {v' : St} (hf : f_X8_weds v x1 = some (r, v')) : FC l G yX8_weds wsX8_weds ({ frames := 5, cells := 0, slots := 0, locals := 114 } : Room) [.ref (a 0), .int x1] (mW G a v) (mW G a v') (some (.int r)) := by
  refine fc_head (cc := cX8_weds) (maxL := 4) (ret := (some .int)) (C := RX8) (lv := [(0, .ref (a 0)), (1, .int x1)]) (by decide) rfl rfl (Nat.le_of_ble_eq_true rfl) rfl ?_
  intro p e s m below meth c ls A hx hb hr hml hown hts hlocks hE hP hD hAB hS hl
  have hCF : CallFix p m c cX8_weds 4 s ([.ref (a 0), .int x1] : List Value).toArray wsX8_weds RX8 := ⟨hx, hb, hml, hown, hts⟩
  have hwX8 : ∀ w ∈ u_ws RX8 TX8 29, w.before ([.ref (a 0), .int x1] : List Value).toArray s = true := fun w h => hts w (iu_X8_weds_X8 w h)
  have hk_fieldLink_RX8_34__BrideNotKnownModel___liquor____I_ := hts (.fieldLink RX8 34 "BrideNotKnownModel" "liquor" "[I") (List.mem_of_getElem? (i := 1) rfl)
  have hk_fieldLink_RX8_22__BrideNotKnownModel___state____I_ := hts (.fieldLink RX8 22 "BrideNotKnownModel" "state" "[I") (List.mem_of_getElem? (i := 2) rfl)
  have hk_fieldLink_RX8_37__BrideNotKnownModel___married____I_ := hts (.fieldLink RX8 37 "BrideNotKnownModel" "married" "[I") (List.mem_of_getElem? (i := 3) rfl)
  rw [f_X8_weds] at hf
  refine lv_aload_n hx hb dX8_weds_0 rfl (lv_at hl 0 rfl) ?_
  refine lv_iload_n hx hb dX8_weds_1 rfl (lv_at hl 1 rfl) ?_
  obtain ⟨q1871, hq1871, hf⟩ := bnd hf
  refine fc_callV (Wa' := (mW G a v)) (st1 := [.int q1871]) (As := [.int x1]) (rest := []) hCF (k_X8_knows a v x1 hq1871) (cwV 1 hts gX8_weds_X8_knows rfl rfl rfl ⟨rfl, dk_X8_knows⟩ ⟨Nat.le_of_ble_eq_true rfl, Nat.le_of_ble_eq_true rfl⟩) hE hAB hP hD hS [0, 1, 2, 3, 4, 5, 6, 7, 8, 9, 10, 11, 12, 13, 14, 15, 16, 17, 18, 19, 20, 21, 22, 23, 24] mW_d (mW_c G a v) (va_recv hE.1 hP (ci := 5) (q0 := 0) rfl (mW_o G a v)) (mW_f G a v v) (mW_s G a v v) rfl rfl hl.1 rfl (Nat.le_of_ble_eq_true rfl) dX8_weds_2 ⟨Nat.le_refl _, Nat.le_refl _⟩ (fun H locs hP hD hS => ?_)
  refine lv_istore_n (lv' := [(2, .int q1871), (0, .ref (a 0)), (1, .int x1)]) hx hb dX8_weds_5 rfl hl (by decide) rfl (fun ls hl => ?_)
  refine lv_iload_n hx hb dX8_weds_6 rfl (lv_at hl 0 rfl) ?_
  refine lv_if_lt (tgt := 27) hx hb dX8_weds_7 (by decide) (fun c1872 => ?_) (fun c1872 => ?_)
  · have hf := ifT hf c1872
    refine lv_aload_n hx hb dX8_weds_27 rfl (lv_at hl 1 rfl) ?_
    refine lv_iload_n hx hb dX8_weds_28 rfl (lv_at hl 2 rfl) ?_
    refine lv_aload_n hx hb dX8_weds_29 rfl (lv_at hl 1 rfl) ?_
    refine fc_get (v := .ref (a 9)) (ci := 5) (C := RX8) (T := TX8) (N := 29) hx hb hwX8 hown hE hP 0 (mW_o G a v) rfl 8 (by decide) hk_fieldLink_RX8_34__BrideNotKnownModel___liquor____I_ (fun _ h => h) rfl dX8_weds_30 ?_
    refine lv_iload_n hx hb dX8_weds_33 rfl (lv_at hl 2 rfl) ?_
    obtain ⟨c1873, hf⟩ := gd_some hf
    refine fc_iald (n := 5) (f := (v 8)) hx hb hE hP 9 (mW_a9 G a v) (inB_in c1873) dX8_weds_34 ?_
    obtain ⟨q1874, hq1874, hf⟩ := bnd hf
    refine fc_callV (Wa' := (mW G a v)) (st1 := [.int q1874]) (As := [.int x1, .int ((v 8) x1.toNatClampNeg)]) (rest := []) hCF (k_X8_takenBy a v x1 ((v 8) x1.toNatClampNeg) hq1874) (cwV 2 hts gX8_weds_X8_takenBy rfl rfl rfl ⟨rfl, dk_X8_takenBy⟩ ⟨Nat.le_of_ble_eq_true rfl, Nat.le_of_ble_eq_true rfl⟩) hE hAB hP hD hS [0, 1, 2, 3, 4, 5, 6, 7, 8, 9, 10, 11, 12, 13, 14, 15, 16, 17, 18, 19, 20, 21, 22, 23, 24] mW_d (mW_c G a v) (va_recv hE.1 hP (ci := 5) (q0 := 0) rfl (mW_o G a v)) (mW_f G a v v) (mW_s G a v v) rfl rfl hl.1 rfl (Nat.le_of_ble_eq_true rfl) dX8_weds_35 ⟨Nat.le_refl _, Nat.le_refl _⟩ (fun H locs hP hD hS => ?_)
    refine lv_istore_n (lv' := [(3, .int q1874), (2, .int q1871), (0, .ref (a 0)), (1, .int x1)]) hx hb dX8_weds_38 rfl hl (by decide) rfl (fun ls hl => ?_)
    refine lv_aload_n hx hb dX8_weds_39 rfl (lv_at hl 2 rfl) ?_
    refine fc_get (v := .ref (a 5)) (ci := 5) (C := RX8) (T := TX8) (N := 29) hx hb hwX8 hown hE hP 0 (mW_o G a v) rfl 4 (by decide) hk_fieldLink_RX8_22__BrideNotKnownModel___state____I_ (fun _ h => h) rfl dX8_weds_40 ?_
    refine lv_iload_n hx hb dX8_weds_43 rfl (lv_at hl 0 rfl) ?_
    refine lv_iconst (v := (2 : Int32)) hx hb dX8_weds_44 (by decide) ?_
    obtain ⟨c1875, hf⟩ := gd_some hf
    refine fc_iast (n := 8) (f := (v 4)) (Wa' := (mW G a (sA v 4 (upd (v 4) q1874.toNatClampNeg (2 : Int32))))) hx hb hE hP hD hS 5 (mW_a5 G a v) (inB_in c1875) dX8_weds_45 (mW_t5 G a v (upd (v 4) q1874.toNatClampNeg (2 : Int32))) (fun H locs hP hD hS => ?_)
    refine lv_aload_n hx hb dX8_weds_46 rfl (lv_at hl 2 rfl) ?_
    refine fc_get (v := .ref (a 10)) (ci := 5) (C := RX8) (T := TX8) (N := 29) hx hb hwX8 hown hE hP 0 (mW_o G a (sA v 4 (upd (v 4) q1874.toNatClampNeg (2 : Int32)))) rfl 9 (by decide) hk_fieldLink_RX8_37__BrideNotKnownModel___married____I_ (fun _ h => h) rfl dX8_weds_47 ?_
    refine lv_iload_n hx hb dX8_weds_50 rfl (lv_at hl 3 rfl) ?_
    refine lv_iconst (v := (1 : Int32)) hx hb dX8_weds_51 (by decide) ?_
    obtain ⟨c1876, hf⟩ := gd_some hf
    refine fc_iast (n := 5) (f := (v 9)) (Wa' := (mW G a (sA (sA v 4 (upd (v 4) q1874.toNatClampNeg (2 : Int32))) 9 (upd (v 9) x1.toNatClampNeg (1 : Int32))))) hx hb hE hP hD hS 10 (mW_a10 G a (sA v 4 (upd (v 4) q1874.toNatClampNeg (2 : Int32)))) (inB_in c1876) dX8_weds_52 (mW_t10 G a (sA v 4 (upd (v 4) q1874.toNatClampNeg (2 : Int32))) (upd (v 9) x1.toNatClampNeg (1 : Int32))) (fun H locs hP hD hS => ?_)
    refine lv_bipush (v := (100 : Int32)) hx hb dX8_weds_53 (by decide) ?_
    refine lv_iload_n hx hb dX8_weds_55 rfl (lv_at hl 0 rfl) ?_
    refine lv_iadd hx hb dX8_weds_56 ?_
    exact fc_reti hx hb hr hlocks hP hS dX8_weds_57 (i2a hf) (congrArg (fun z => (mW G a z)) (i2b hf))
  · have hf := ifF hf c1872
    refine lv_aload_n hx hb dX8_weds_10 rfl (lv_at hl 1 rfl) ?_
    refine lv_iload_n hx hb dX8_weds_11 rfl (lv_at hl 0 rfl) ?_
    refine lv_iconst (v := (1 : Int32)) hx hb dX8_weds_12 (by decide) ?_
    refine lv_aload_n hx hb dX8_weds_13 rfl (lv_at hl 1 rfl) ?_
    refine fc_get (v := .ref (a 9)) (ci := 5) (C := RX8) (T := TX8) (N := 29) hx hb hwX8 hown hE hP 0 (mW_o G a v) rfl 8 (by decide) hk_fieldLink_RX8_34__BrideNotKnownModel___liquor____I_ (fun _ h => h) rfl dX8_weds_14 ?_
    refine lv_iload_n hx hb dX8_weds_17 rfl (lv_at hl 2 rfl) ?_
    obtain ⟨c1877, hf⟩ := gd_some hf
    refine fc_iald (n := 5) (f := (v 8)) hx hb hE hP 9 (mW_a9 G a v) (inB_in c1877) dX8_weds_18 ?_
    refine lv_iconst (v := (3 : Int32)) hx hb dX8_weds_19 (by decide) ?_
    refine lv_idiv hx hb dX8_weds_20 (by decide) ?_
    refine lv_iadd hx hb dX8_weds_21 ?_
    obtain ⟨q1878, hq1878, hf⟩ := bnd hf
    refine fc_callV (Wa' := (mW G a q1878)) (st1 := []) (As := [.int q1871, .int ((1 : Int32) + (((v 8) x1.toNatClampNeg) / (3 : Int32)))]) (rest := []) hCF (k_X8_sends a v q1871 ((1 : Int32) + (((v 8) x1.toNatClampNeg) / (3 : Int32))) hq1878) (cwV 2 hts gX8_weds_X8_sends rfl rfl rfl ⟨rfl, dk_X8_sends⟩ ⟨Nat.le_of_ble_eq_true rfl, Nat.le_of_ble_eq_true rfl⟩) hE hAB hP hD hS [0, 1, 2, 3, 4, 5, 6, 7, 8, 9, 10, 11, 12, 13, 14, 15, 16, 17, 18, 19, 20, 21, 22, 23, 24] mW_d (mW_c G a v) (va_recv hE.1 hP (ci := 5) (q0 := 0) rfl (mW_o G a v)) (mW_f G a v q1878) (mW_s G a v q1878) rfl rfl hl.1 rfl (Nat.le_of_ble_eq_true rfl) dX8_weds_22 ⟨Nat.le_refl _, Nat.le_refl _⟩ (fun H locs hP hD hS => ?_)
    refine lv_iload_n hx hb dX8_weds_25 rfl (lv_at hl 0 rfl) ?_
    exact fc_reti hx hb hr hlocks hP hS dX8_weds_26 (i2a hf) (congrArg (fun z => (mW G a z)) (i2b hf))
theorem dk_X8_goes : yX8_goes.cls ≠ "java/lang/invoke/MethodHandle" ∧ yX8_goes.cls ≠ "java/lang/invoke/VarHandle" ∧ (parseMethodDescriptor yX8_goes.desc).map (fun d => d.parameters.length) = some 1 := by decide +kernel
set_option maxHeartbeats 4000000 in
set_option maxRecDepth 100000 in
theorem k_X8_goes {l : Launch} {G : Gx} (a : Nat → Nat) (v : St) (x1 : Int32) {v' : St} (hf : f_X8_goes v x1 = some v') : FC l G yX8_goes wsX8_goes ({ frames := 1, cells := 0, slots := 0, locals := 21 } : Room) [.ref (a 0), .int x1] (mW G a v) (mW G a v') none := by
  refine fc_head (cc := cX8_goes) (maxL := 3) (ret := none) (C := RX8) (lv := [(0, .ref (a 0)), (1, .int x1)]) (by decide) rfl rfl (Nat.le_of_ble_eq_true rfl) rfl ?_
  intro p e s m below meth c ls A hx hb hr hml hown hts hlocks hE hP hD hAB hS hl
  have hCF : CallFix p m c cX8_goes 3 s ([.ref (a 0), .int x1] : List Value).toArray wsX8_goes RX8 := ⟨hx, hb, hml, hown, hts⟩
  rw [f_X8_goes] at hf
  refine lv_iconst (v := (0 : Int32)) hx hb dX8_goes_0 (by decide) ?_
  refine lv_istore_n (lv' := [(2, .int (0 : Int32)), (0, .ref (a 0)), (1, .int x1)]) hx hb dX8_goes_1 rfl hl (by decide) rfl (fun ls hl => ?_)
  have L2_1882 : ∀ (n : Nat) (x2_1880 : Int32) (v_1881 : St) (H : Heap) (locs : List Loc) (ls : Array Slot), va_P (gD G) vwCl (mW G a v_1881) H → va_D A (mW G a v_1881) → va_S A s.heap H locs → lv_has ls 3 [(0, .ref (a 0)), (1, .int x1), (2, .int x2_1880)] → f_X8_goes_2 x1 n x2_1880 v_1881 = some v' → W p l e (headSpec wsX8_goes ({ frames := 1, cells := 0, slots := 0, locals := 21 } : Room)).room s m ([.ref (a 0), .int x1] : List Value).toArray below meth c H locs 0 0 (MQ below (FQ G A (mW G a v') none) ([.ref (a 0), .int x1] : List Value).toArray s 0 0 A) (F0 m 2 ls []) := by
    intro n
    induction n with
    | zero =>
      intro x2_1880 v_1881 H locs ls hP hD hS hl hf
      exact no_some hf
    | succ n ih =>
      intro x2_1880 v_1881 H locs ls hP hD hS hl hf
      rw [f_X8_goes_2] at hf
      refine lv_iload_n hx hb dX8_goes_2 rfl (lv_at hl 2 rfl) ?_
      refine lv_iload_n hx hb dX8_goes_3 rfl (lv_at hl 1 rfl) ?_
      refine lv_icmp_ge (tgt := 17) hx hb dX8_goes_4 (by decide) (fun c1883 => ?_) (fun c1883 => ?_)
      · have hf := ifT hf c1883
        exact fc_retv hx hb hr hlocks hP hS dX8_goes_17 (congrArg (fun z => (mW G a z)) (i1 hf))
      · have hf := ifF hf c1883
        refine lv_aload_n hx hb dX8_goes_7 rfl (lv_at hl 0 rfl) ?_
        obtain ⟨q1884, hq1884, hf⟩ := bnd hf
        refine fc_callV (Wa' := (mW G a q1884)) (st1 := []) (As := []) (rest := []) hCF (k_X8_goesYear a v_1881 hq1884) (cwV 0 hts gX8_goes_X8_goesYear rfl rfl rfl ⟨rfl, dk_X8_goesYear⟩ ⟨Nat.le_of_ble_eq_true rfl, Nat.le_of_ble_eq_true rfl⟩) hE hAB hP hD hS [0, 1, 2, 3, 4, 5, 6, 7, 8, 9, 10, 11, 12, 13, 14, 15, 16, 17, 18, 19, 20, 21, 22, 23, 24] mW_d (mW_c G a v_1881) (va_recv hE.1 hP (ci := 5) (q0 := 0) rfl (mW_o G a v_1881)) (mW_f G a v_1881 q1884) (mW_s G a v_1881 q1884) rfl rfl hl.1 rfl (Nat.le_of_ble_eq_true rfl) dX8_goes_8 ⟨Nat.le_refl _, Nat.le_refl _⟩ (fun H locs hP hD hS => ?_)
        refine lv_iinc (v := (x2_1880 + (1 : Int32))) (lv' := [(2, .int (x2_1880 + (1 : Int32))), (0, .ref (a 0)), (1, .int x1)]) hx hb dX8_goes_11 hl (k := 2) rfl rfl (by decide) rfl (fun ls hl => ?_)
        refine lv_goto (tgt := 2) hx hb dX8_goes_14 (by decide) ?_
        exact ih (x2_1880 + (1 : Int32)) q1884 _ _ _ hP hD hS (lv_sub hl [1, 2, 0] rfl) hf
  exact L2_1882 FUEL (0 : Int32) v _ _ _ hP hD hS (lv_sub hl [1, 2, 0] rfl) hf
theorem dk_X8_comesYears : yX8_comesYears.cls ≠ "java/lang/invoke/MethodHandle" ∧ yX8_comesYears.cls ≠ "java/lang/invoke/VarHandle" ∧ (parseMethodDescriptor yX8_comesYears.desc).map (fun d => d.parameters.length) = some 1 := by decide +kernel
theorem iu_X8_comesYears_X8 : ∀ w ∈ u_ws RX8 TX8 29, w ∈ wsX8_comesYears := by decide +kernel
set_option maxHeartbeats 4000000 in
set_option maxRecDepth 100000 in
theorem k_X8_comesYears {l : Launch} {G : Gx} (a : Nat → Nat) (v : St) (x1 : Int32) {r : Int32} {v' : St} (hf : f_X8_comesYears v x1 = some (r, v')) : FC l G yX8_comesYears wsX8_comesYears ({ frames := 2, cells := 0, slots := 0, locals := 43 } : Room) [.ref (a 0), .int x1] (mW G a v) (mW G a v') (some (.int r)) := by
  refine fc_head (cc := cX8_comesYears) (maxL := 2) (ret := (some .boolean)) (C := RX8) (lv := [(0, .ref (a 0)), (1, .int x1)]) (by decide) rfl rfl (Nat.le_of_ble_eq_true rfl) rfl ?_
  intro p e s m below meth c ls A hx hb hr hml hown hts hlocks hE hP hD hAB hS hl
  have hCF : CallFix p m c cX8_comesYears 2 s ([.ref (a 0), .int x1] : List Value).toArray wsX8_comesYears RX8 := ⟨hx, hb, hml, hown, hts⟩
  have hwX8 : ∀ w ∈ u_ws RX8 TX8 29, w.before ([.ref (a 0), .int x1] : List Value).toArray s = true := fun w h => hts w (iu_X8_comesYears_X8 w h)
  have hk_fieldLink_RX8_117__BrideNotKnownModel___year___I_ := hts (.fieldLink RX8 117 "BrideNotKnownModel" "year" "I") (List.mem_of_getElem? (i := 1) rfl)
  rw [f_X8_comesYears] at hf
  refine lv_iload_n hx hb dX8_comesYears_0 rfl (lv_at hl 1 rfl) ?_
  refine lv_iconst (v := (1 : Int32)) hx hb dX8_comesYears_1 (by decide) ?_
  refine lv_bipush (v := (60 : Int32)) hx hb dX8_comesYears_2 (by decide) ?_
  obtain ⟨q1887, hq1887, hf⟩ := bnd hf
  refine fc_callS (Wa' := (mW G a v)) (st1 := [.int q1887]) (As := [.int x1, .int (1 : Int32), .int (60 : Int32)]) (rest := []) hCF (k_X8_isIn x1 (1 : Int32) (60 : Int32) hq1887) (va_cwS 3 hts gX8_comesYears_X8_isIn rfl rfl rfl dk_X8_isIn ⟨Nat.le_of_ble_eq_true rfl, Nat.le_of_ble_eq_true rfl⟩) hE hAB hP hD hS [] rfl rfl rfl rfl rfl rfl hl.1 rfl (Nat.le_of_ble_eq_true rfl) dX8_comesYears_4 ⟨Nat.le_refl _, Nat.le_refl _⟩ (fun H locs hP hD hS => ?_)
  refine lv_if_eq (tgt := 22) hx hb dX8_comesYears_7 (by decide) (fun c1888 => ?_) (fun c1888 => ?_)
  · have hf := ifT hf c1888
    refine lv_iconst (v := (0 : Int32)) hx hb dX8_comesYears_22 (by decide) ?_
    exact fc_retz hx hb hr hlocks hP hS dX8_comesYears_23 (by decide) (i2a hf) (congrArg (fun z => (mW G a z)) (i2b hf))
  · have hf := ifF hf c1888
    refine lv_aload_n hx hb dX8_comesYears_10 rfl (lv_at hl 0 rfl) ?_
    refine fc_get (v := .int (v 23 2)) (ci := 5) (C := RX8) (T := TX8) (N := 29) hx hb hwX8 hown hE hP 0 (mW_o G a v) rfl 12 (by decide) hk_fieldLink_RX8_117__BrideNotKnownModel___year___I_ (fun _ h => h) rfl dX8_comesYears_11 ?_
    refine lv_iload_n hx hb dX8_comesYears_14 rfl (lv_at hl 1 rfl) ?_
    refine lv_iadd hx hb dX8_comesYears_15 ?_
    refine lv_sipush (v := (999 : Int32)) hx hb dX8_comesYears_16 (by decide) ?_
    refine lv_icmp_le (tgt := 24) hx hb dX8_comesYears_19 (by decide) (fun c1889 => ?_) (fun c1889 => ?_)
    · have hf := ifT hf c1889
      refine lv_aload_n hx hb dX8_comesYears_24 rfl (lv_at hl 0 rfl) ?_
      refine lv_iload_n hx hb dX8_comesYears_25 rfl (lv_at hl 1 rfl) ?_
      obtain ⟨q1890, hq1890, hf⟩ := bnd hf
      refine fc_callV (Wa' := (mW G a q1890)) (st1 := []) (As := [.int x1]) (rest := []) hCF (k_X8_goes a v x1 hq1890) (cwV 1 hts gX8_comesYears_X8_goes rfl rfl rfl ⟨rfl, dk_X8_goes⟩ ⟨Nat.le_of_ble_eq_true rfl, Nat.le_of_ble_eq_true rfl⟩) hE hAB hP hD hS [0, 1, 2, 3, 4, 5, 6, 7, 8, 9, 10, 11, 12, 13, 14, 15, 16, 17, 18, 19, 20, 21, 22, 23, 24] mW_d (mW_c G a v) (va_recv hE.1 hP (ci := 5) (q0 := 0) rfl (mW_o G a v)) (mW_f G a v q1890) (mW_s G a v q1890) rfl rfl hl.1 rfl (Nat.le_of_ble_eq_true rfl) dX8_comesYears_26 ⟨Nat.le_refl _, Nat.le_refl _⟩ (fun H locs hP hD hS => ?_)
      refine lv_iconst (v := (1 : Int32)) hx hb dX8_comesYears_29 (by decide) ?_
      exact fc_retz hx hb hr hlocks hP hS dX8_comesYears_30 (by decide) (i2a hf) (congrArg (fun z => (mW G a z)) (i2b hf))
    · have hf := ifF hf c1889
      refine lv_iconst (v := (0 : Int32)) hx hb dX8_comesYears_22 (by decide) ?_
      exact fc_retz hx hb hr hlocks hP hS dX8_comesYears_23 (by decide) (i2a hf) (congrArg (fun z => (mW G a z)) (i2b hf))
theorem dk_X8_comes : yX8_comes.cls ≠ "java/lang/invoke/MethodHandle" ∧ yX8_comes.cls ≠ "java/lang/invoke/VarHandle" ∧ (parseMethodDescriptor yX8_comes.desc).map (fun d => d.parameters.length) = some 1 := by decide +kernel
theorem iu_X8_comes_X8 : ∀ w ∈ u_ws RX8 TX8 29, w ∈ wsX8_comes := by decide +kernel
set_option maxHeartbeats 4000000 in
set_option maxRecDepth 100000 in
theorem k_X8_comes {l : Launch} {G : Gx} (a : Nat → Nat) (v : St) (x1 : Int32) {r : Int32} {v' : St} (hf : f_X8_comes v x1 = some (r, v')) : FC l G yX8_comes wsX8_comes ({ frames := 6, cells := 0, slots := 0, locals := 137 } : Room) [.ref (a 0), .int x1] (mW G a v) (mW G a v') (some (.int r)) := by
  refine fc_head (cc := cX8_comes) (maxL := 3) (ret := (some .boolean)) (C := RX8) (lv := [(0, .ref (a 0)), (1, .int x1)]) (by decide) rfl rfl (Nat.le_of_ble_eq_true rfl) rfl ?_
  intro p e s m below meth c ls A hx hb hr hml hown hts hlocks hE hP hD hAB hS hl
  have hCF : CallFix p m c cX8_comes 3 s ([.ref (a 0), .int x1] : List Value).toArray wsX8_comes RX8 := ⟨hx, hb, hml, hown, hts⟩
  have hwX8 : ∀ w ∈ u_ws RX8 TX8 29, w.before ([.ref (a 0), .int x1] : List Value).toArray s = true := fun w h => hts w (iu_X8_comes_X8 w h)
  have hk_fieldLink_RX8_43__BrideNotKnownModel___letter____I_ := hts (.fieldLink RX8 43 "BrideNotKnownModel" "letter" "[I") (List.mem_of_getElem? (i := 1) rfl)
  have hk_fieldLink_RX8_49__BrideNotKnownModel___told____I_ := hts (.fieldLink RX8 49 "BrideNotKnownModel" "told" "[I") (List.mem_of_getElem? (i := 2) rfl)
  have hk_fieldLink_RX8_34__BrideNotKnownModel___liquor____I_ := hts (.fieldLink RX8 34 "BrideNotKnownModel" "liquor" "[I") (List.mem_of_getElem? (i := 4) rfl)
  have hk_fieldLink_RX8_19__BrideNotKnownModel___foot____I_ := hts (.fieldLink RX8 19 "BrideNotKnownModel" "foot" "[I") (List.mem_of_getElem? (i := 3) rfl)
  rw [f_X8_comes] at hf
  refine lv_iconst (v := (3 : Int32)) hx hb dX8_comes_0 (by decide) ?_
  refine lv_iload_n hx hb dX8_comes_1 rfl (lv_at hl 1 rfl) ?_
  refine lv_imul hx hb dX8_comes_2 ?_
  refine lv_istore_n (lv' := [(2, .int ((3 : Int32) * x1)), (0, .ref (a 0)), (1, .int x1)]) hx hb dX8_comes_3 rfl hl (by decide) rfl (fun ls hl => ?_)
  refine lv_aload_n hx hb dX8_comes_4 rfl (lv_at hl 1 rfl) ?_
  refine fc_get (v := .ref (a 12)) (ci := 5) (C := RX8) (T := TX8) (N := 29) hx hb hwX8 hown hE hP 0 (mW_o G a v) rfl 14 (by decide) hk_fieldLink_RX8_43__BrideNotKnownModel___letter____I_ (fun _ h => h) rfl dX8_comes_5 ?_
  refine lv_iload_n hx hb dX8_comes_8 rfl (lv_at hl 2 rfl) ?_
  obtain ⟨c1899, hf⟩ := gd_some hf
  refine fc_iald (n := 48) (f := (v 11)) hx hb hE hP 12 (mW_a12 G a v) (inB_in c1899) dX8_comes_9 ?_
  by_cases c1900 : ((v 11) x1.toNatClampNeg) = (98 : Int32)
  · have hf := ifT hf c1900
    refine lv_lookup (off := 50) (tgt := 60) hx hb dX8_comes_10 (by decide) (by rw [c1900]; rfl) (by decide) ?_
    refine lv_aload_n hx hb dX8_comes_60 rfl (lv_at hl 1 rfl) ?_
    refine lv_aload_n hx hb dX8_comes_61 rfl (lv_at hl 1 rfl) ?_
    refine fc_get (v := .ref (a 14)) (ci := 5) (C := RX8) (T := TX8) (N := 29) hx hb hwX8 hown hE hP 0 (mW_o G a v) rfl 16 (by decide) hk_fieldLink_RX8_49__BrideNotKnownModel___told____I_ (fun _ h => h) rfl dX8_comes_62 ?_
    refine lv_iload_n hx hb dX8_comes_65 rfl (lv_at hl 0 rfl) ?_
    obtain ⟨c1901, hf⟩ := gd_some hf
    refine fc_iald (n := 144) (f := (v 13)) hx hb hE hP 14 (mW_a14 G a v) (inB_in c1901) dX8_comes_66 ?_
    refine lv_aload_n hx hb dX8_comes_67 rfl (lv_at hl 1 rfl) ?_
    refine fc_get (v := .ref (a 14)) (ci := 5) (C := RX8) (T := TX8) (N := 29) hx hb hwX8 hown hE hP 0 (mW_o G a v) rfl 16 (by decide) hk_fieldLink_RX8_49__BrideNotKnownModel___told____I_ (fun _ h => h) rfl dX8_comes_68 ?_
    refine lv_iload_n hx hb dX8_comes_71 rfl (lv_at hl 0 rfl) ?_
    refine lv_iconst (v := (1 : Int32)) hx hb dX8_comes_72 (by decide) ?_
    refine lv_iadd hx hb dX8_comes_73 ?_
    obtain ⟨c1902, hf⟩ := gd_some hf
    refine fc_iald (n := 144) (f := (v 13)) hx hb hE hP 14 (mW_a14 G a v) (inB_in c1902) dX8_comes_74 ?_
    refine lv_aload_n hx hb dX8_comes_75 rfl (lv_at hl 1 rfl) ?_
    refine fc_get (v := .ref (a 14)) (ci := 5) (C := RX8) (T := TX8) (N := 29) hx hb hwX8 hown hE hP 0 (mW_o G a v) rfl 16 (by decide) hk_fieldLink_RX8_49__BrideNotKnownModel___told____I_ (fun _ h => h) rfl dX8_comes_76 ?_
    refine lv_iload_n hx hb dX8_comes_79 rfl (lv_at hl 0 rfl) ?_
    refine lv_iconst (v := (2 : Int32)) hx hb dX8_comes_80 (by decide) ?_
    refine lv_iadd hx hb dX8_comes_81 ?_
    obtain ⟨c1903, hf⟩ := gd_some hf
    refine fc_iald (n := 144) (f := (v 13)) hx hb hE hP 14 (mW_a14 G a v) (inB_in c1903) dX8_comes_82 ?_
    obtain ⟨q1904, hq1904, hf⟩ := bnd hf
    refine fc_callV (Wa' := (mW G a q1904.2)) (st1 := [.int q1904.1]) (As := [.int ((v 13) ((3 : Int32) * x1).toNatClampNeg), .int ((v 13) (((3 : Int32) * x1) + (1 : Int32)).toNatClampNeg), .int ((v 13) (((3 : Int32) * x1) + (2 : Int32)).toNatClampNeg)]) (rest := []) hCF (k_X8_comesBride a v ((v 13) ((3 : Int32) * x1).toNatClampNeg) ((v 13) (((3 : Int32) * x1) + (1 : Int32)).toNatClampNeg) ((v 13) (((3 : Int32) * x1) + (2 : Int32)).toNatClampNeg) hq1904) (cwV 3 hts gX8_comes_X8_comesBride rfl rfl rfl ⟨rfl, dk_X8_comesBride⟩ ⟨Nat.le_of_ble_eq_true rfl, Nat.le_of_ble_eq_true rfl⟩) hE hAB hP hD hS [0, 1, 2, 3, 4, 5, 6, 7, 8, 9, 10, 11, 12, 13, 14, 15, 16, 17, 18, 19, 20, 21, 22, 23, 24] mW_d (mW_c G a v) (va_recv hE.1 hP (ci := 5) (q0 := 0) rfl (mW_o G a v)) (mW_f G a v q1904.2) (mW_s G a v q1904.2) rfl rfl hl.1 rfl (Nat.le_of_ble_eq_true rfl) dX8_comes_83 ⟨Nat.le_refl _, Nat.le_refl _⟩ (fun H locs hP hD hS => ?_)
    obtain ⟨c1905, hf⟩ := gd_some hf
    exact fc_retz hx hb hr hlocks hP hS dX8_comes_86 (isZ_nar c1905).1 (i2a hf) (congrArg (fun z => (mW G a z)) (i2b hf))
  · have hf := ifF hf c1900
    by_cases c1906 : ((v 11) x1.toNatClampNeg) = (103 : Int32)
    · have hf := ifT hf c1906
      refine lv_lookup (off := 77) (tgt := 87) hx hb dX8_comes_10 (by decide) (by rw [c1906]; rfl) (by decide) ?_
      refine lv_aload_n hx hb dX8_comes_87 rfl (lv_at hl 1 rfl) ?_
      refine lv_aload_n hx hb dX8_comes_88 rfl (lv_at hl 1 rfl) ?_
      refine fc_get (v := .ref (a 14)) (ci := 5) (C := RX8) (T := TX8) (N := 29) hx hb hwX8 hown hE hP 0 (mW_o G a v) rfl 16 (by decide) hk_fieldLink_RX8_49__BrideNotKnownModel___told____I_ (fun _ h => h) rfl dX8_comes_89 ?_
      refine lv_iload_n hx hb dX8_comes_92 rfl (lv_at hl 0 rfl) ?_
      obtain ⟨c1907, hf⟩ := gd_some hf
      refine fc_iald (n := 144) (f := (v 13)) hx hb hE hP 14 (mW_a14 G a v) (inB_in c1907) dX8_comes_93 ?_
      refine lv_aload_n hx hb dX8_comes_94 rfl (lv_at hl 1 rfl) ?_
      refine fc_get (v := .ref (a 14)) (ci := 5) (C := RX8) (T := TX8) (N := 29) hx hb hwX8 hown hE hP 0 (mW_o G a v) rfl 16 (by decide) hk_fieldLink_RX8_49__BrideNotKnownModel___told____I_ (fun _ h => h) rfl dX8_comes_95 ?_
      refine lv_iload_n hx hb dX8_comes_98 rfl (lv_at hl 0 rfl) ?_
      refine lv_iconst (v := (1 : Int32)) hx hb dX8_comes_99 (by decide) ?_
      refine lv_iadd hx hb dX8_comes_100 ?_
      obtain ⟨c1908, hf⟩ := gd_some hf
      refine fc_iald (n := 144) (f := (v 13)) hx hb hE hP 14 (mW_a14 G a v) (inB_in c1908) dX8_comes_101 ?_
      obtain ⟨q1909, hq1909, hf⟩ := bnd hf
      refine fc_callV (Wa' := (mW G a q1909.2)) (st1 := [.int q1909.1]) (As := [.int ((v 13) ((3 : Int32) * x1).toNatClampNeg), .int ((v 13) (((3 : Int32) * x1) + (1 : Int32)).toNatClampNeg)]) (rest := []) hCF (k_X8_comesGroom a v ((v 13) ((3 : Int32) * x1).toNatClampNeg) ((v 13) (((3 : Int32) * x1) + (1 : Int32)).toNatClampNeg) hq1909) (cwV 2 hts gX8_comes_X8_comesGroom rfl rfl rfl ⟨rfl, dk_X8_comesGroom⟩ ⟨Nat.le_of_ble_eq_true rfl, Nat.le_of_ble_eq_true rfl⟩) hE hAB hP hD hS [0, 1, 2, 3, 4, 5, 6, 7, 8, 9, 10, 11, 12, 13, 14, 15, 16, 17, 18, 19, 20, 21, 22, 23, 24] mW_d (mW_c G a v) (va_recv hE.1 hP (ci := 5) (q0 := 0) rfl (mW_o G a v)) (mW_f G a v q1909.2) (mW_s G a v q1909.2) rfl rfl hl.1 rfl (Nat.le_of_ble_eq_true rfl) dX8_comes_102 ⟨Nat.le_refl _, Nat.le_refl _⟩ (fun H locs hP hD hS => ?_)
      obtain ⟨c1910, hf⟩ := gd_some hf
      exact fc_retz hx hb hr hlocks hP hS dX8_comes_105 (isZ_nar c1910).1 (i2a hf) (congrArg (fun z => (mW G a z)) (i2b hf))
    · have hf := ifF hf c1906
      by_cases c1911 : ((v 11) x1.toNatClampNeg) = (108 : Int32)
      · have hf := ifT hf c1911
        refine lv_lookup (off := 150) (tgt := 160) hx hb dX8_comes_10 (by decide) (by rw [c1911]; rfl) (by decide) ?_
        refine lv_aload_n hx hb dX8_comes_160 rfl (lv_at hl 1 rfl) ?_
        refine lv_aload_n hx hb dX8_comes_161 rfl (lv_at hl 1 rfl) ?_
        refine fc_get (v := .ref (a 14)) (ci := 5) (C := RX8) (T := TX8) (N := 29) hx hb hwX8 hown hE hP 0 (mW_o G a v) rfl 16 (by decide) hk_fieldLink_RX8_49__BrideNotKnownModel___told____I_ (fun _ h => h) rfl dX8_comes_162 ?_
        refine lv_iload_n hx hb dX8_comes_165 rfl (lv_at hl 0 rfl) ?_
        obtain ⟨c1912, hf⟩ := gd_some hf
        refine fc_iald (n := 144) (f := (v 13)) hx hb hE hP 14 (mW_a14 G a v) (inB_in c1912) dX8_comes_166 ?_
        obtain ⟨q1913, hq1913, hf⟩ := bnd hf
        refine fc_callV (Wa' := (mW G a v)) (st1 := [.int q1913]) (As := [.int ((v 13) ((3 : Int32) * x1).toNatClampNeg)]) (rest := []) hCF (k_X8_isGroom a v ((v 13) ((3 : Int32) * x1).toNatClampNeg) hq1913) (cwV 1 hts gX8_comes_X8_isGroom rfl rfl rfl ⟨rfl, dk_X8_isGroom⟩ ⟨Nat.le_of_ble_eq_true rfl, Nat.le_of_ble_eq_true rfl⟩) hE hAB hP hD hS [0, 1, 2, 3, 4, 5, 6, 7, 8, 9, 10, 11, 12, 13, 14, 15, 16, 17, 18, 19, 20, 21, 22, 23, 24] mW_d (mW_c G a v) (va_recv hE.1 hP (ci := 5) (q0 := 0) rfl (mW_o G a v)) (mW_f G a v v) (mW_s G a v v) rfl rfl hl.1 rfl (Nat.le_of_ble_eq_true rfl) dX8_comes_167 ⟨Nat.le_refl _, Nat.le_refl _⟩ (fun H locs hP hD hS => ?_)
        refine lv_if_ne (tgt := 175) hx hb dX8_comes_170 (by decide) (fun c1914 => ?_) (fun c1914 => ?_)
        · have hf := ifF hf c1914
          refine lv_aload_n hx hb dX8_comes_175 rfl (lv_at hl 1 rfl) ?_
          refine fc_get (v := .ref (a 9)) (ci := 5) (C := RX8) (T := TX8) (N := 29) hx hb hwX8 hown hE hP 0 (mW_o G a v) rfl 8 (by decide) hk_fieldLink_RX8_34__BrideNotKnownModel___liquor____I_ (fun _ h => h) rfl dX8_comes_176 ?_
          refine lv_aload_n hx hb dX8_comes_179 rfl (lv_at hl 1 rfl) ?_
          refine fc_get (v := .ref (a 14)) (ci := 5) (C := RX8) (T := TX8) (N := 29) hx hb hwX8 hown hE hP 0 (mW_o G a v) rfl 16 (by decide) hk_fieldLink_RX8_49__BrideNotKnownModel___told____I_ (fun _ h => h) rfl dX8_comes_180 ?_
          refine lv_iload_n hx hb dX8_comes_183 rfl (lv_at hl 0 rfl) ?_
          obtain ⟨c1915, hf⟩ := gd_some hf
          refine fc_iald (n := 144) (f := (v 13)) hx hb hE hP 14 (mW_a14 G a v) (inB_in c1915) dX8_comes_184 ?_
          refine lv_aload_n hx hb dX8_comes_185 rfl (lv_at hl 1 rfl) ?_
          refine fc_get (v := .ref (a 14)) (ci := 5) (C := RX8) (T := TX8) (N := 29) hx hb hwX8 hown hE hP 0 (mW_o G a v) rfl 16 (by decide) hk_fieldLink_RX8_49__BrideNotKnownModel___told____I_ (fun _ h => h) rfl dX8_comes_186 ?_
          refine lv_iload_n hx hb dX8_comes_189 rfl (lv_at hl 0 rfl) ?_
          refine lv_iconst (v := (1 : Int32)) hx hb dX8_comes_190 (by decide) ?_
          refine lv_iadd hx hb dX8_comes_191 ?_
          obtain ⟨c1916, hf⟩ := gd_some hf
          refine fc_iald (n := 144) (f := (v 13)) hx hb hE hP 14 (mW_a14 G a v) (inB_in c1916) dX8_comes_192 ?_
          obtain ⟨c1917, hf⟩ := gd_some hf
          refine fc_iast (n := 5) (f := (v 8)) (Wa' := (mW G a (sA v 8 (upd (v 8) ((v 13) ((3 : Int32) * x1).toNatClampNeg).toNatClampNeg ((v 13) (((3 : Int32) * x1) + (1 : Int32)).toNatClampNeg))))) hx hb hE hP hD hS 9 (mW_a9 G a v) (inB_in c1917) dX8_comes_193 (mW_t9 G a v (upd (v 8) ((v 13) ((3 : Int32) * x1).toNatClampNeg).toNatClampNeg ((v 13) (((3 : Int32) * x1) + (1 : Int32)).toNatClampNeg))) (fun H locs hP hD hS => ?_)
          refine lv_iconst (v := (1 : Int32)) hx hb dX8_comes_194 (by decide) ?_
          exact fc_retz hx hb hr hlocks hP hS dX8_comes_195 (by decide) (i2a hf) (congrArg (fun z => (mW G a z)) (i2b hf))
        · have hf := ifT hf c1914
          refine lv_iconst (v := (0 : Int32)) hx hb dX8_comes_173 (by decide) ?_
          exact fc_retz hx hb hr hlocks hP hS dX8_comes_174 (by decide) (i2a hf) (congrArg (fun z => (mW G a z)) (i2b hf))
      · have hf := ifF hf c1911
        by_cases c1918 : ((v 11) x1.toNatClampNeg) = (116 : Int32)
        · have hf := ifT hf c1918
          refine lv_lookup (off := 96) (tgt := 106) hx hb dX8_comes_10 (by decide) (by rw [c1918]; rfl) (by decide) ?_
          refine lv_aload_n hx hb dX8_comes_106 rfl (lv_at hl 1 rfl) ?_
          refine lv_aload_n hx hb dX8_comes_107 rfl (lv_at hl 1 rfl) ?_
          refine fc_get (v := .ref (a 14)) (ci := 5) (C := RX8) (T := TX8) (N := 29) hx hb hwX8 hown hE hP 0 (mW_o G a v) rfl 16 (by decide) hk_fieldLink_RX8_49__BrideNotKnownModel___told____I_ (fun _ h => h) rfl dX8_comes_108 ?_
          refine lv_iload_n hx hb dX8_comes_111 rfl (lv_at hl 0 rfl) ?_
          obtain ⟨c1919, hf⟩ := gd_some hf
          refine fc_iald (n := 144) (f := (v 13)) hx hb hE hP 14 (mW_a14 G a v) (inB_in c1919) dX8_comes_112 ?_
          obtain ⟨q1920, hq1920, hf⟩ := bnd hf
          refine fc_callV (Wa' := (mW G a v)) (st1 := [.int q1920]) (As := [.int ((v 13) ((3 : Int32) * x1).toNatClampNeg)]) (rest := []) hCF (k_X8_isBride a v ((v 13) ((3 : Int32) * x1).toNatClampNeg) hq1920) (cwV 1 hts gX8_comes_X8_isBride rfl rfl rfl ⟨rfl, dk_X8_isBride⟩ ⟨Nat.le_of_ble_eq_true rfl, Nat.le_of_ble_eq_true rfl⟩) hE hAB hP hD hS [0, 1, 2, 3, 4, 5, 6, 7, 8, 9, 10, 11, 12, 13, 14, 15, 16, 17, 18, 19, 20, 21, 22, 23, 24] mW_d (mW_c G a v) (va_recv hE.1 hP (ci := 5) (q0 := 0) rfl (mW_o G a v)) (mW_f G a v v) (mW_s G a v v) rfl rfl hl.1 rfl (Nat.le_of_ble_eq_true rfl) dX8_comes_113 ⟨Nat.le_refl _, Nat.le_refl _⟩ (fun H locs hP hD hS => ?_)
          refine lv_if_eq (tgt := 132) hx hb dX8_comes_116 (by decide) (fun c1921 => ?_) (fun c1921 => ?_)
          · have hf := ifT hf c1921
            refine lv_iconst (v := (0 : Int32)) hx hb dX8_comes_132 (by decide) ?_
            exact fc_retz hx hb hr hlocks hP hS dX8_comes_133 (by decide) (i2a hf) (congrArg (fun z => (mW G a z)) (i2b hf))
          · have hf := ifF hf c1921
            refine lv_aload_n hx hb dX8_comes_119 rfl (lv_at hl 1 rfl) ?_
            refine fc_get (v := .ref (a 14)) (ci := 5) (C := RX8) (T := TX8) (N := 29) hx hb hwX8 hown hE hP 0 (mW_o G a v) rfl 16 (by decide) hk_fieldLink_RX8_49__BrideNotKnownModel___told____I_ (fun _ h => h) rfl dX8_comes_120 ?_
            refine lv_iload_n hx hb dX8_comes_123 rfl (lv_at hl 0 rfl) ?_
            refine lv_iconst (v := (1 : Int32)) hx hb dX8_comes_124 (by decide) ?_
            refine lv_iadd hx hb dX8_comes_125 ?_
            obtain ⟨c1922, hf⟩ := gd_some hf
            refine fc_iald (n := 144) (f := (v 13)) hx hb hE hP 14 (mW_a14 G a v) (inB_in c1922) dX8_comes_126 ?_
            refine lv_bipush (v := (6 : Int32)) hx hb dX8_comes_127 (by decide) ?_
            refine lv_icmp_lt (tgt := 134) hx hb dX8_comes_129 (by decide) (fun c1923 => ?_) (fun c1923 => ?_)
            · have hf := ifT hf c1923
              refine lv_aload_n hx hb dX8_comes_134 rfl (lv_at hl 1 rfl) ?_
              refine fc_get (v := .ref (a 4)) (ci := 5) (C := RX8) (T := TX8) (N := 29) hx hb hwX8 hown hE hP 0 (mW_o G a v) rfl 3 (by decide) hk_fieldLink_RX8_19__BrideNotKnownModel___foot____I_ (fun _ h => h) rfl dX8_comes_135 ?_
              refine lv_aload_n hx hb dX8_comes_138 rfl (lv_at hl 1 rfl) ?_
              refine fc_get (v := .ref (a 14)) (ci := 5) (C := RX8) (T := TX8) (N := 29) hx hb hwX8 hown hE hP 0 (mW_o G a v) rfl 16 (by decide) hk_fieldLink_RX8_49__BrideNotKnownModel___told____I_ (fun _ h => h) rfl dX8_comes_139 ?_
              refine lv_iload_n hx hb dX8_comes_142 rfl (lv_at hl 0 rfl) ?_
              obtain ⟨c1924, hf⟩ := gd_some hf
              refine fc_iald (n := 144) (f := (v 13)) hx hb hE hP 14 (mW_a14 G a v) (inB_in c1924) dX8_comes_143 ?_
              refine lv_dup2_11 hx hb dX8_comes_144 rfl rfl ?_
              obtain ⟨c1925, hf⟩ := gd_some hf
              refine fc_iald (n := 8) (f := (v 3)) hx hb hE hP 4 (mW_a4 G a v) (inB_in c1925) dX8_comes_145 ?_
              refine lv_iconst (v := (1 : Int32)) hx hb dX8_comes_146 (by decide) ?_
              refine lv_aload_n hx hb dX8_comes_147 rfl (lv_at hl 1 rfl) ?_
              refine fc_get (v := .ref (a 14)) (ci := 5) (C := RX8) (T := TX8) (N := 29) hx hb hwX8 hown hE hP 0 (mW_o G a v) rfl 16 (by decide) hk_fieldLink_RX8_49__BrideNotKnownModel___told____I_ (fun _ h => h) rfl dX8_comes_148 ?_
              refine lv_iload_n hx hb dX8_comes_151 rfl (lv_at hl 0 rfl) ?_
              refine lv_iconst (v := (1 : Int32)) hx hb dX8_comes_152 (by decide) ?_
              refine lv_iadd hx hb dX8_comes_153 ?_
              obtain ⟨c1926, hf⟩ := gd_some hf
              refine fc_iald (n := 144) (f := (v 13)) hx hb hE hP 14 (mW_a14 G a v) (inB_in c1926) dX8_comes_154 ?_
              refine lv_ishl hx hb dX8_comes_155 ?_
              refine lv_ixor hx hb dX8_comes_156 ?_
              obtain ⟨c1927, hf⟩ := gd_some hf
              refine fc_iast (n := 8) (f := (v 3)) (Wa' := (mW G a (sA v 3 (upd (v 3) ((v 13) ((3 : Int32) * x1).toNatClampNeg).toNatClampNeg (((v 3) ((v 13) ((3 : Int32) * x1).toNatClampNeg).toNatClampNeg) ^^^ ((1 : Int32) <<< (((v 13) (((3 : Int32) * x1) + (1 : Int32)).toNatClampNeg) &&& 31))))))) hx hb hE hP hD hS 4 (mW_a4 G a v) (inB_in c1927) dX8_comes_157 (mW_t4 G a v (upd (v 3) ((v 13) ((3 : Int32) * x1).toNatClampNeg).toNatClampNeg (((v 3) ((v 13) ((3 : Int32) * x1).toNatClampNeg).toNatClampNeg) ^^^ ((1 : Int32) <<< (((v 13) (((3 : Int32) * x1) + (1 : Int32)).toNatClampNeg) &&& 31))))) (fun H locs hP hD hS => ?_)
              refine lv_iconst (v := (1 : Int32)) hx hb dX8_comes_158 (by decide) ?_
              exact fc_retz hx hb hr hlocks hP hS dX8_comes_159 (by decide) (i2a hf) (congrArg (fun z => (mW G a z)) (i2b hf))
            · have hf := ifF hf c1923
              refine lv_iconst (v := (0 : Int32)) hx hb dX8_comes_132 (by decide) ?_
              exact fc_retz hx hb hr hlocks hP hS dX8_comes_133 (by decide) (i2a hf) (congrArg (fun z => (mW G a z)) (i2b hf))
        · have hf := ifF hf c1918
          by_cases c1928 : ((v 11) x1.toNatClampNeg) = (119 : Int32)
          · have hf := ifT hf c1928
            refine lv_lookup (off := 186) (tgt := 196) hx hb dX8_comes_10 (by decide) (by rw [c1928]; rfl) (by decide) ?_
            refine lv_aload_n hx hb dX8_comes_196 rfl (lv_at hl 1 rfl) ?_
            refine lv_aload_n hx hb dX8_comes_197 rfl (lv_at hl 1 rfl) ?_
            refine fc_get (v := .ref (a 14)) (ci := 5) (C := RX8) (T := TX8) (N := 29) hx hb hwX8 hown hE hP 0 (mW_o G a v) rfl 16 (by decide) hk_fieldLink_RX8_49__BrideNotKnownModel___told____I_ (fun _ h => h) rfl dX8_comes_198 ?_
            refine lv_iload_n hx hb dX8_comes_201 rfl (lv_at hl 0 rfl) ?_
            obtain ⟨c1929, hf⟩ := gd_some hf
            refine fc_iald (n := 144) (f := (v 13)) hx hb hE hP 14 (mW_a14 G a v) (inB_in c1929) dX8_comes_202 ?_
            obtain ⟨q1930, hq1930, hf⟩ := bnd hf
            refine fc_callV (Wa' := (mW G a v)) (st1 := [.int q1930]) (As := [.int ((v 13) ((3 : Int32) * x1).toNatClampNeg)]) (rest := []) hCF (k_X8_isGroom a v ((v 13) ((3 : Int32) * x1).toNatClampNeg) hq1930) (cwV 1 hts gX8_comes_X8_isGroom rfl rfl rfl ⟨rfl, dk_X8_isGroom⟩ ⟨Nat.le_of_ble_eq_true rfl, Nat.le_of_ble_eq_true rfl⟩) hE hAB hP hD hS [0, 1, 2, 3, 4, 5, 6, 7, 8, 9, 10, 11, 12, 13, 14, 15, 16, 17, 18, 19, 20, 21, 22, 23, 24] mW_d (mW_c G a v) (va_recv hE.1 hP (ci := 5) (q0 := 0) rfl (mW_o G a v)) (mW_f G a v v) (mW_s G a v v) rfl rfl hl.1 rfl (Nat.le_of_ble_eq_true rfl) dX8_comes_203 ⟨Nat.le_refl _, Nat.le_refl _⟩ (fun H locs hP hD hS => ?_)
            refine lv_if_eq (tgt := 222) hx hb dX8_comes_206 (by decide) (fun c1931 => ?_) (fun c1931 => ?_)
            · have hf := ifT hf c1931
              refine lv_iconst (v := (0 : Int32)) hx hb dX8_comes_222 (by decide) ?_
              exact fc_retz hx hb hr hlocks hP hS dX8_comes_223 (by decide) (i2a hf) (congrArg (fun z => (mW G a z)) (i2b hf))
            · have hf := ifF hf c1931
              refine lv_aload_n hx hb dX8_comes_209 rfl (lv_at hl 1 rfl) ?_
              refine lv_aload_n hx hb dX8_comes_210 rfl (lv_at hl 1 rfl) ?_
              refine fc_get (v := .ref (a 14)) (ci := 5) (C := RX8) (T := TX8) (N := 29) hx hb hwX8 hown hE hP 0 (mW_o G a v) rfl 16 (by decide) hk_fieldLink_RX8_49__BrideNotKnownModel___told____I_ (fun _ h => h) rfl dX8_comes_211 ?_
              refine lv_iload_n hx hb dX8_comes_214 rfl (lv_at hl 0 rfl) ?_
              obtain ⟨c1932, hf⟩ := gd_some hf
              refine fc_iald (n := 144) (f := (v 13)) hx hb hE hP 14 (mW_a14 G a v) (inB_in c1932) dX8_comes_215 ?_
              obtain ⟨q1933, hq1933, hf⟩ := bnd hf
              refine fc_callV (Wa' := (mW G a v)) (st1 := [.int q1933]) (As := [.int ((v 13) ((3 : Int32) * x1).toNatClampNeg)]) (rest := []) hCF (k_X8_canWed a v ((v 13) ((3 : Int32) * x1).toNatClampNeg) hq1933) (cwV 1 hts gX8_comes_X8_canWed rfl rfl rfl ⟨rfl, dk_X8_canWed⟩ ⟨Nat.le_of_ble_eq_true rfl, Nat.le_of_ble_eq_true rfl⟩) hE hAB hP hD hS [0, 1, 2, 3, 4, 5, 6, 7, 8, 9, 10, 11, 12, 13, 14, 15, 16, 17, 18, 19, 20, 21, 22, 23, 24] mW_d (mW_c G a v) (va_recv hE.1 hP (ci := 5) (q0 := 0) rfl (mW_o G a v)) (mW_f G a v v) (mW_s G a v v) rfl rfl hl.1 rfl (Nat.le_of_ble_eq_true rfl) dX8_comes_216 ⟨Nat.le_refl _, Nat.le_refl _⟩ (fun H locs hP hD hS => ?_)
              refine lv_if_ne (tgt := 224) hx hb dX8_comes_219 (by decide) (fun c1934 => ?_) (fun c1934 => ?_)
              · have hf := ifF hf c1934
                refine lv_aload_n hx hb dX8_comes_224 rfl (lv_at hl 1 rfl) ?_
                refine lv_aload_n hx hb dX8_comes_225 rfl (lv_at hl 1 rfl) ?_
                refine fc_get (v := .ref (a 14)) (ci := 5) (C := RX8) (T := TX8) (N := 29) hx hb hwX8 hown hE hP 0 (mW_o G a v) rfl 16 (by decide) hk_fieldLink_RX8_49__BrideNotKnownModel___told____I_ (fun _ h => h) rfl dX8_comes_226 ?_
                refine lv_iload_n hx hb dX8_comes_229 rfl (lv_at hl 0 rfl) ?_
                obtain ⟨c1935, hf⟩ := gd_some hf
                refine fc_iald (n := 144) (f := (v 13)) hx hb hE hP 14 (mW_a14 G a v) (inB_in c1935) dX8_comes_230 ?_
                obtain ⟨q1936, hq1936, hf⟩ := bnd hf
                refine fc_callV (Wa' := (mW G a q1936.2)) (st1 := [.int q1936.1]) (As := [.int ((v 13) ((3 : Int32) * x1).toNatClampNeg)]) (rest := []) hCF (k_X8_weds a v ((v 13) ((3 : Int32) * x1).toNatClampNeg) hq1936) (cwV 1 hts gX8_comes_X8_weds rfl rfl rfl ⟨rfl, dk_X8_weds⟩ ⟨Nat.le_of_ble_eq_true rfl, Nat.le_of_ble_eq_true rfl⟩) hE hAB hP hD hS [0, 1, 2, 3, 4, 5, 6, 7, 8, 9, 10, 11, 12, 13, 14, 15, 16, 17, 18, 19, 20, 21, 22, 23, 24] mW_d (mW_c G a v) (va_recv hE.1 hP (ci := 5) (q0 := 0) rfl (mW_o G a v)) (mW_f G a v q1936.2) (mW_s G a v q1936.2) rfl rfl hl.1 rfl (Nat.le_of_ble_eq_true rfl) dX8_comes_231 ⟨Nat.le_refl _, Nat.le_refl _⟩ (fun H locs hP hD hS => ?_)
                refine lv_pop hx hb dX8_comes_234 rfl ?_
                refine lv_iconst (v := (1 : Int32)) hx hb dX8_comes_235 (by decide) ?_
                exact fc_retz hx hb hr hlocks hP hS dX8_comes_236 (by decide) (i2a hf) (congrArg (fun z => (mW G a z)) (i2b hf))
              · have hf := ifT hf c1934
                refine lv_iconst (v := (0 : Int32)) hx hb dX8_comes_222 (by decide) ?_
                exact fc_retz hx hb hr hlocks hP hS dX8_comes_223 (by decide) (i2a hf) (congrArg (fun z => (mW G a z)) (i2b hf))
          · have hf := ifF hf c1928
            refine lv_lookup (off := 227) (tgt := 237) hx hb dX8_comes_10 (by decide) (by simp only [lv_osw (a := 98) c1900 (by decide), lv_osw (a := 103) c1906 (by decide), lv_osw (a := 108) c1911 (by decide), lv_osw (a := 116) c1918 (by decide), lv_osw (a := 119) c1928 (by decide)]; rfl) (by decide) ?_
            refine lv_aload_n hx hb dX8_comes_237 rfl (lv_at hl 1 rfl) ?_
            refine lv_aload_n hx hb dX8_comes_238 rfl (lv_at hl 1 rfl) ?_
            refine fc_get (v := .ref (a 14)) (ci := 5) (C := RX8) (T := TX8) (N := 29) hx hb hwX8 hown hE hP 0 (mW_o G a v) rfl 16 (by decide) hk_fieldLink_RX8_49__BrideNotKnownModel___told____I_ (fun _ h => h) rfl dX8_comes_239 ?_
            refine lv_iload_n hx hb dX8_comes_242 rfl (lv_at hl 0 rfl) ?_
            obtain ⟨c1937, hf⟩ := gd_some hf
            refine fc_iald (n := 144) (f := (v 13)) hx hb hE hP 14 (mW_a14 G a v) (inB_in c1937) dX8_comes_243 ?_
            obtain ⟨q1938, hq1938, hf⟩ := bnd hf
            refine fc_callV (Wa' := (mW G a q1938.2)) (st1 := [.int q1938.1]) (As := [.int ((v 13) ((3 : Int32) * x1).toNatClampNeg)]) (rest := []) hCF (k_X8_comesYears a v ((v 13) ((3 : Int32) * x1).toNatClampNeg) hq1938) (cwV 1 hts gX8_comes_X8_comesYears rfl rfl rfl ⟨rfl, dk_X8_comesYears⟩ ⟨Nat.le_of_ble_eq_true rfl, Nat.le_of_ble_eq_true rfl⟩) hE hAB hP hD hS [0, 1, 2, 3, 4, 5, 6, 7, 8, 9, 10, 11, 12, 13, 14, 15, 16, 17, 18, 19, 20, 21, 22, 23, 24] mW_d (mW_c G a v) (va_recv hE.1 hP (ci := 5) (q0 := 0) rfl (mW_o G a v)) (mW_f G a v q1938.2) (mW_s G a v q1938.2) rfl rfl hl.1 rfl (Nat.le_of_ble_eq_true rfl) dX8_comes_244 ⟨Nat.le_refl _, Nat.le_refl _⟩ (fun H locs hP hD hS => ?_)
            obtain ⟨c1939, hf⟩ := gd_some hf
            exact fc_retz hx hb hr hlocks hP hS dX8_comes_247 (isZ_nar c1939).1 (i2a hf) (congrArg (fun z => (mW G a z)) (i2b hf))
theorem dk_X8_costOf : yX8_costOf.cls ≠ "java/lang/invoke/MethodHandle" ∧ yX8_costOf.cls ≠ "java/lang/invoke/VarHandle" ∧ (parseMethodDescriptor yX8_costOf.desc).map (fun d => d.parameters.length) = some 1 := by decide +kernel
theorem iu_X8_costOf_X8 : ∀ w ∈ u_ws RX8 TX8 29, w ∈ wsX8_costOf := by decide +kernel
set_option maxHeartbeats 4000000 in
set_option maxRecDepth 100000 in
theorem k_X8_costOf {l : Launch} {G : Gx} (a : Nat → Nat) (v : St) (x1 : Int32) {r : Int32} (hf : f_X8_costOf v x1 = some r) : FC l G yX8_costOf wsX8_costOf ({ frames := 5, cells := 0, slots := 0, locals := 111 } : Room) [.ref (a 0), .int x1] (mW G a v) (mW G a v) (some (.int r)) := by
  refine fc_head (cc := cX8_costOf) (maxL := 4) (ret := (some .int)) (C := RX8) (lv := [(0, .ref (a 0)), (1, .int x1)]) (by decide) rfl rfl (Nat.le_of_ble_eq_true rfl) rfl ?_
  intro p e s m below meth c ls A hx hb hr hml hown hts hlocks hE hP hD hAB hS hl
  have hCF : CallFix p m c cX8_costOf 4 s ([.ref (a 0), .int x1] : List Value).toArray wsX8_costOf RX8 := ⟨hx, hb, hml, hown, hts⟩
  have hwX8 : ∀ w ∈ u_ws RX8 TX8 29, w.before ([.ref (a 0), .int x1] : List Value).toArray s = true := fun w h => hts w (iu_X8_costOf_X8 w h)
  have hk_fieldLink_RX8_76__BrideNotKnownModel___grooms___I_ := hts (.fieldLink RX8 76 "BrideNotKnownModel" "grooms" "I") (List.mem_of_getElem? (i := 1) rfl)
  have hk_fieldLink_RX8_37__BrideNotKnownModel___married____I_ := hts (.fieldLink RX8 37 "BrideNotKnownModel" "married" "[I") (List.mem_of_getElem? (i := 2) rfl)
  rw [f_X8_costOf] at hf
  refine lv_iconst (v := (0 : Int32)) hx hb dX8_costOf_0 (by decide) ?_
  refine lv_istore_n (lv' := [(2, .int (0 : Int32)), (0, .ref (a 0)), (1, .int x1)]) hx hb dX8_costOf_1 rfl hl (by decide) rfl (fun ls hl => ?_)
  refine lv_iconst (v := (0 : Int32)) hx hb dX8_costOf_2 (by decide) ?_
  refine lv_istore_n (lv' := [(3, .int (0 : Int32)), (2, .int (0 : Int32)), (0, .ref (a 0)), (1, .int x1)]) hx hb dX8_costOf_3 rfl hl (by decide) rfl (fun ls hl => ?_)
  have L4_1949 : ∀ (n : Nat) (x2_1947 : Int32) (x3_1948 : Int32) (H : Heap) (locs : List Loc) (ls : Array Slot), va_P (gD G) vwCl (mW G a v) H → va_D A (mW G a v) → va_S A s.heap H locs → lv_has ls 4 [(0, .ref (a 0)), (1, .int x1), (2, .int x2_1947), (3, .int x3_1948)] → f_X8_costOf_4 v x1 n x2_1947 x3_1948 = some r → W p l e (headSpec wsX8_costOf ({ frames := 5, cells := 0, slots := 0, locals := 111 } : Room)).room s m ([.ref (a 0), .int x1] : List Value).toArray below meth c H locs 0 0 (MQ below (FQ G A (mW G a v) (some (.int r))) ([.ref (a 0), .int x1] : List Value).toArray s 0 0 A) (F0 m 4 ls []) := by
    intro n
    induction n with
    | zero =>
      intro x2_1947 x3_1948 H locs ls hP hD hS hl hf
      exact no_some hf
    | succ n ih =>
      intro x2_1947 x3_1948 H locs ls hP hD hS hl hf
      rw [f_X8_costOf_4] at hf
      refine lv_iload_n hx hb dX8_costOf_4 rfl (lv_at hl 3 rfl) ?_
      refine lv_aload_n hx hb dX8_costOf_5 rfl (lv_at hl 0 rfl) ?_
      refine fc_get (v := .int (v 23 1)) (ci := 5) (C := RX8) (T := TX8) (N := 29) hx hb hwX8 hown hE hP 0 (mW_o G a v) rfl 11 (by decide) hk_fieldLink_RX8_76__BrideNotKnownModel___grooms___I_ (fun _ h => h) rfl dX8_costOf_6 ?_
      refine lv_icmp_ge (tgt := 67) hx hb dX8_costOf_9 (by decide) (fun c1950 => ?_) (fun c1950 => ?_)
      · have hf := ifT hf c1950
        refine lv_iload_n hx hb dX8_costOf_67 rfl (lv_at hl 2 rfl) ?_
        exact fc_reti hx hb hr hlocks hP hS dX8_costOf_68 (i1 hf) rfl
      · have hf := ifF hf c1950
        refine lv_aload_n hx hb dX8_costOf_12 rfl (lv_at hl 0 rfl) ?_
        refine fc_get (v := .ref (a 10)) (ci := 5) (C := RX8) (T := TX8) (N := 29) hx hb hwX8 hown hE hP 0 (mW_o G a v) rfl 9 (by decide) hk_fieldLink_RX8_37__BrideNotKnownModel___married____I_ (fun _ h => h) rfl dX8_costOf_13 ?_
        refine lv_iload_n hx hb dX8_costOf_16 rfl (lv_at hl 3 rfl) ?_
        obtain ⟨c1951, hf⟩ := gd_some hf
        refine fc_iald (n := 5) (f := (v 9)) hx hb hE hP 10 (mW_a10 G a v) (inB_in c1951) dX8_costOf_17 ?_
        refine lv_iconst (v := (1 : Int32)) hx hb dX8_costOf_18 (by decide) ?_
        refine lv_icmp_ne (tgt := 25) hx hb dX8_costOf_19 (by decide) (fun c1952 => ?_) (fun c1952 => ?_)
        · have hf := ifF hf c1952
          refine lv_iload_n hx hb dX8_costOf_25 rfl (lv_at hl 2 rfl) ?_
          refine lv_aload_n hx hb dX8_costOf_26 rfl (lv_at hl 0 rfl) ?_
          refine lv_iload_n hx hb dX8_costOf_27 rfl (lv_at hl 3 rfl) ?_
          obtain ⟨q1953, hq1953, hf⟩ := bnd hf
          refine fc_callV (Wa' := (mW G a v)) (st1 := [.int q1953, .int x2_1947]) (As := [.int x3_1948]) (rest := [.int x2_1947]) hCF (k_X8_knows a v x3_1948 hq1953) (cwV 1 hts gX8_costOf_X8_knows rfl rfl rfl ⟨rfl, dk_X8_knows⟩ ⟨Nat.le_of_ble_eq_true rfl, Nat.le_of_ble_eq_true rfl⟩) hE hAB hP hD hS [0, 1, 2, 3, 4, 5, 6, 7, 8, 9, 10, 11, 12, 13, 14, 15, 16, 17, 18, 19, 20, 21, 22, 23, 24] mW_d (mW_c G a v) (va_recv hE.1 hP (ci := 5) (q0 := 0) rfl (mW_o G a v)) (mW_f G a v v) (mW_s G a v v) rfl rfl hl.1 rfl (Nat.le_of_ble_eq_true rfl) dX8_costOf_28 ⟨Nat.le_refl _, Nat.le_refl _⟩ (fun H locs hP hD hS => ?_)
          refine lv_iload_n hx hb dX8_costOf_31 rfl (lv_at hl 1 rfl) ?_
          have J41_1956 : ∀ (s0_1954 : Int32) (s1_1955 : Int32) (H : Heap) (locs : List Loc) (ls : Array Slot), va_P (gD G) vwCl (mW G a v) H → va_D A (mW G a v) → va_S A s.heap H locs → lv_has ls 4 [(0, .ref (a 0)), (1, .int x1), (3, .int x3_1948)] → f_X8_costOf_41 v x1 x3_1948 s0_1954 s1_1955 (fun (x2_1957 : Int32) (x3_1958 : Int32) => f_X8_costOf_4 v x1 n x2_1957 x3_1958) = some r → W p l e (headSpec wsX8_costOf ({ frames := 5, cells := 0, slots := 0, locals := 111 } : Room)).room s m ([.ref (a 0), .int x1] : List Value).toArray below meth c H locs 0 0 (MQ below (FQ G A (mW G a v) (some (.int r))) ([.ref (a 0), .int x1] : List Value).toArray s 0 0 A) (F0 m 41 ls [.int s0_1954, .int s1_1955]) := by
            intro s0_1954 s1_1955 H locs ls hP hD hS hl hf
            rw [f_X8_costOf_41] at hf
            refine lv_aload_n hx hb dX8_costOf_41 rfl (lv_at hl 0 rfl) ?_
            refine lv_iload_n hx hb dX8_costOf_42 rfl (lv_at hl 2 rfl) ?_
            obtain ⟨q1959, hq1959, hf⟩ := bnd hf
            refine fc_callV (Wa' := (mW G a v)) (st1 := [.int q1959, .int s0_1954, .int s1_1955]) (As := [.int x3_1948]) (rest := [.int s0_1954, .int s1_1955]) hCF (k_X8_guesses a v x3_1948 hq1959) (cwV 1 hts gX8_costOf_X8_guesses rfl rfl rfl ⟨rfl, dk_X8_guesses⟩ ⟨Nat.le_of_ble_eq_true rfl, Nat.le_of_ble_eq_true rfl⟩) hE hAB hP hD hS [0, 1, 2, 3, 4, 5, 6, 7, 8, 9, 10, 11, 12, 13, 14, 15, 16, 17, 18, 19, 20, 21, 22, 23, 24] mW_d (mW_c G a v) (va_recv hE.1 hP (ci := 5) (q0 := 0) rfl (mW_o G a v)) (mW_f G a v v) (mW_s G a v v) rfl rfl hl.1 rfl (Nat.le_of_ble_eq_true rfl) dX8_costOf_43 ⟨Nat.le_refl _, Nat.le_refl _⟩ (fun H locs hP hD hS => ?_)
            refine lv_iload_n hx hb dX8_costOf_46 rfl (lv_at hl 1 rfl) ?_
            obtain ⟨q1960, hq1960, hf⟩ := bnd hf
            refine fc_callS (Wa' := (mW G a v)) (st1 := [.int q1960, .int s0_1954, .int s1_1955]) (As := [.int q1959, .int x1]) (rest := [.int s0_1954, .int s1_1955]) hCF (k_X8_has q1959 x1 hq1960) (va_cwS 2 hts gX8_costOf_X8_has rfl rfl rfl dk_X8_has ⟨Nat.le_of_ble_eq_true rfl, Nat.le_of_ble_eq_true rfl⟩) hE hAB hP hD hS [] rfl rfl rfl rfl rfl rfl hl.1 rfl (Nat.le_of_ble_eq_true rfl) dX8_costOf_47 ⟨Nat.le_refl _, Nat.le_refl _⟩ (fun H locs hP hD hS => ?_)
            refine lv_if_eq (tgt := 57) hx hb dX8_costOf_50 (by decide) (fun c1961 => ?_) (fun c1961 => ?_)
            · have hf := ifT hf c1961
              refine lv_iconst (v := (0 : Int32)) hx hb dX8_costOf_57 (by decide) ?_
              refine lv_isub hx hb dX8_costOf_58 ?_
              refine lv_iadd hx hb dX8_costOf_59 ?_
              refine lv_istore_n (lv' := [(2, .int (s1_1955 + (s0_1954 - (0 : Int32)))), (0, .ref (a 0)), (1, .int x1), (3, .int x3_1948)]) hx hb dX8_costOf_60 rfl hl (by decide) rfl (fun ls hl => ?_)
              refine lv_iinc (v := (x3_1948 + (1 : Int32))) (lv' := [(3, .int (x3_1948 + (1 : Int32))), (2, .int (s1_1955 + (s0_1954 - (0 : Int32)))), (0, .ref (a 0)), (1, .int x1)]) hx hb dX8_costOf_61 hl (k := 3) rfl rfl (by decide) rfl (fun ls hl => ?_)
              refine lv_goto (tgt := 4) hx hb dX8_costOf_64 (by decide) ?_
              exact ih (s1_1955 + (s0_1954 - (0 : Int32))) (x3_1948 + (1 : Int32)) _ _ _ hP hD hS (lv_sub hl [2, 3, 1, 0] rfl) hf
            · have hf := ifF hf c1961
              refine lv_iconst (v := (1 : Int32)) hx hb dX8_costOf_53 (by decide) ?_
              refine lv_goto (tgt := 58) hx hb dX8_costOf_54 (by decide) ?_
              refine lv_isub hx hb dX8_costOf_58 ?_
              refine lv_iadd hx hb dX8_costOf_59 ?_
              refine lv_istore_n (lv' := [(2, .int (s1_1955 + (s0_1954 - (1 : Int32)))), (0, .ref (a 0)), (1, .int x1), (3, .int x3_1948)]) hx hb dX8_costOf_60 rfl hl (by decide) rfl (fun ls hl => ?_)
              refine lv_iinc (v := (x3_1948 + (1 : Int32))) (lv' := [(3, .int (x3_1948 + (1 : Int32))), (2, .int (s1_1955 + (s0_1954 - (1 : Int32)))), (0, .ref (a 0)), (1, .int x1)]) hx hb dX8_costOf_61 hl (k := 3) rfl rfl (by decide) rfl (fun ls hl => ?_)
              refine lv_goto (tgt := 4) hx hb dX8_costOf_64 (by decide) ?_
              exact ih (s1_1955 + (s0_1954 - (1 : Int32))) (x3_1948 + (1 : Int32)) _ _ _ hP hD hS (lv_sub hl [2, 3, 1, 0] rfl) hf
          refine lv_icmp_ne (tgt := 40) hx hb dX8_costOf_32 (by decide) (fun c1962 => ?_) (fun c1962 => ?_)
          · have hf := ifF hf c1962
            refine lv_iconst (v := (0 : Int32)) hx hb dX8_costOf_40 (by decide) ?_
            exact J41_1956 (0 : Int32) x2_1947 _ _ _ hP hD hS (lv_sub hl [0, 1, 3] rfl) hf
          · have hf := ifT hf c1962
            refine lv_bipush (v := (10 : Int32)) hx hb dX8_costOf_35 (by decide) ?_
            refine lv_goto (tgt := 41) hx hb dX8_costOf_37 (by decide) ?_
            exact J41_1956 (10 : Int32) x2_1947 _ _ _ hP hD hS (lv_sub hl [0, 1, 3] rfl) hf
        · have hf := ifT hf c1952
          refine lv_goto (tgt := 61) hx hb dX8_costOf_22 (by decide) ?_
          refine lv_iinc (v := (x3_1948 + (1 : Int32))) (lv' := [(3, .int (x3_1948 + (1 : Int32))), (0, .ref (a 0)), (1, .int x1), (2, .int x2_1947)]) hx hb dX8_costOf_61 hl (k := 3) rfl rfl (by decide) rfl (fun ls hl => ?_)
          refine lv_goto (tgt := 4) hx hb dX8_costOf_64 (by decide) ?_
          exact ih x2_1947 (x3_1948 + (1 : Int32)) _ _ _ hP hD hS (lv_sub hl [1, 2, 3, 0] rfl) hf
  exact L4_1949 FUEL (0 : Int32) (0 : Int32) _ _ _ hP hD hS (lv_sub hl [2, 3, 1, 0] rfl) hf
theorem dk_X8_marriedOnes : yX8_marriedOnes.cls ≠ "java/lang/invoke/MethodHandle" ∧ yX8_marriedOnes.cls ≠ "java/lang/invoke/VarHandle" ∧ (parseMethodDescriptor yX8_marriedOnes.desc).map (fun d => d.parameters.length) = some 0 := by decide +kernel
theorem iu_X8_marriedOnes_X8 : ∀ w ∈ u_ws RX8 TX8 29, w ∈ wsX8_marriedOnes := by decide +kernel
set_option maxHeartbeats 4000000 in
set_option maxRecDepth 100000 in
theorem k_X8_marriedOnes {l : Launch} {G : Gx} (a : Nat → Nat) (v : St) {r : Int32} (hf : f_X8_marriedOnes v = some r) : FC l G yX8_marriedOnes wsX8_marriedOnes ({ frames := 0, cells := 0, slots := 0, locals := 0 } : Room) [.ref (a 0)] (mW G a v) (mW G a v) (some (.int r)) := by
  refine fc_head (cc := cX8_marriedOnes) (maxL := 3) (ret := (some .int)) (C := RX8) (lv := [(0, .ref (a 0))]) (by decide) rfl rfl (Nat.le_of_ble_eq_true rfl) rfl ?_
  intro p e s m below meth c ls A hx hb hr hml hown hts hlocks hE hP hD hAB hS hl
  have hCF : CallFix p m c cX8_marriedOnes 3 s ([.ref (a 0)] : List Value).toArray wsX8_marriedOnes RX8 := ⟨hx, hb, hml, hown, hts⟩
  have hwX8 : ∀ w ∈ u_ws RX8 TX8 29, w.before ([.ref (a 0)] : List Value).toArray s = true := fun w h => hts w (iu_X8_marriedOnes_X8 w h)
  have hk_fieldLink_RX8_76__BrideNotKnownModel___grooms___I_ := hts (.fieldLink RX8 76 "BrideNotKnownModel" "grooms" "I") (List.mem_of_getElem? (i := 1) rfl)
  have hk_fieldLink_RX8_37__BrideNotKnownModel___married____I_ := hts (.fieldLink RX8 37 "BrideNotKnownModel" "married" "[I") (List.mem_of_getElem? (i := 2) rfl)
  rw [f_X8_marriedOnes] at hf
  refine lv_iconst (v := (0 : Int32)) hx hb dX8_marriedOnes_0 (by decide) ?_
  refine lv_istore_n (lv' := [(1, .int (0 : Int32)), (0, .ref (a 0))]) hx hb dX8_marriedOnes_1 rfl hl (by decide) rfl (fun ls hl => ?_)
  refine lv_iconst (v := (0 : Int32)) hx hb dX8_marriedOnes_2 (by decide) ?_
  refine lv_istore_n (lv' := [(2, .int (0 : Int32)), (1, .int (0 : Int32)), (0, .ref (a 0))]) hx hb dX8_marriedOnes_3 rfl hl (by decide) rfl (fun ls hl => ?_)
  have L4_1965 : ∀ (n : Nat) (x1_1963 : Int32) (x2_1964 : Int32) (H : Heap) (locs : List Loc) (ls : Array Slot), va_P (gD G) vwCl (mW G a v) H → va_D A (mW G a v) → va_S A s.heap H locs → lv_has ls 3 [(0, .ref (a 0)), (1, .int x1_1963), (2, .int x2_1964)] → f_X8_marriedOnes_4 v n x1_1963 x2_1964 = some r → W p l e (headSpec wsX8_marriedOnes ({ frames := 0, cells := 0, slots := 0, locals := 0 } : Room)).room s m ([.ref (a 0)] : List Value).toArray below meth c H locs 0 0 (MQ below (FQ G A (mW G a v) (some (.int r))) ([.ref (a 0)] : List Value).toArray s 0 0 A) (F0 m 4 ls []) := by
    intro n
    induction n with
    | zero =>
      intro x1_1963 x2_1964 H locs ls hP hD hS hl hf
      exact no_some hf
    | succ n ih =>
      intro x1_1963 x2_1964 H locs ls hP hD hS hl hf
      rw [f_X8_marriedOnes_4] at hf
      refine lv_iload_n hx hb dX8_marriedOnes_4 rfl (lv_at hl 2 rfl) ?_
      refine lv_aload_n hx hb dX8_marriedOnes_5 rfl (lv_at hl 0 rfl) ?_
      refine fc_get (v := .int (v 23 1)) (ci := 5) (C := RX8) (T := TX8) (N := 29) hx hb hwX8 hown hE hP 0 (mW_o G a v) rfl 11 (by decide) hk_fieldLink_RX8_76__BrideNotKnownModel___grooms___I_ (fun _ h => h) rfl dX8_marriedOnes_6 ?_
      refine lv_icmp_ge (tgt := 29) hx hb dX8_marriedOnes_9 (by decide) (fun c1966 => ?_) (fun c1966 => ?_)
      · have hf := ifT hf c1966
        refine lv_iload_n hx hb dX8_marriedOnes_29 rfl (lv_at hl 1 rfl) ?_
        exact fc_reti hx hb hr hlocks hP hS dX8_marriedOnes_30 (i1 hf) rfl
      · have hf := ifF hf c1966
        refine lv_iload_n hx hb dX8_marriedOnes_12 rfl (lv_at hl 1 rfl) ?_
        refine lv_aload_n hx hb dX8_marriedOnes_13 rfl (lv_at hl 0 rfl) ?_
        refine fc_get (v := .ref (a 10)) (ci := 5) (C := RX8) (T := TX8) (N := 29) hx hb hwX8 hown hE hP 0 (mW_o G a v) rfl 9 (by decide) hk_fieldLink_RX8_37__BrideNotKnownModel___married____I_ (fun _ h => h) rfl dX8_marriedOnes_14 ?_
        refine lv_iload_n hx hb dX8_marriedOnes_17 rfl (lv_at hl 2 rfl) ?_
        obtain ⟨c1967, hf⟩ := gd_some hf
        refine fc_iald (n := 5) (f := (v 9)) hx hb hE hP 10 (mW_a10 G a v) (inB_in c1967) dX8_marriedOnes_18 ?_
        refine lv_iload_n hx hb dX8_marriedOnes_19 rfl (lv_at hl 2 rfl) ?_
        refine lv_ishl hx hb dX8_marriedOnes_20 ?_
        refine lv_ior hx hb dX8_marriedOnes_21 ?_
        refine lv_istore_n (lv' := [(1, .int (x1_1963 ||| (((v 9) x2_1964.toNatClampNeg) <<< (x2_1964 &&& 31)))), (0, .ref (a 0)), (2, .int x2_1964)]) hx hb dX8_marriedOnes_22 rfl hl (by decide) rfl (fun ls hl => ?_)
        refine lv_iinc (v := (x2_1964 + (1 : Int32))) (lv' := [(2, .int (x2_1964 + (1 : Int32))), (1, .int (x1_1963 ||| (((v 9) x2_1964.toNatClampNeg) <<< (x2_1964 &&& 31)))), (0, .ref (a 0))]) hx hb dX8_marriedOnes_23 hl (k := 2) rfl rfl (by decide) rfl (fun ls hl => ?_)
        refine lv_goto (tgt := 4) hx hb dX8_marriedOnes_26 (by decide) ?_
        exact ih (x1_1963 ||| (((v 9) x2_1964.toNatClampNeg) <<< (x2_1964 &&& 31))) (x2_1964 + (1 : Int32)) _ _ _ hP hD hS (lv_sub hl [2, 1, 0] rfl) hf
  exact L4_1965 FUEL (0 : Int32) (0 : Int32) _ _ _ hP hD hS (lv_sub hl [2, 1, 0] rfl) hf
theorem dk_X8_count : yX8_count.cls ≠ "java/lang/invoke/MethodHandle" ∧ yX8_count.cls ≠ "java/lang/invoke/VarHandle" ∧ (parseMethodDescriptor yX8_count.desc).map (fun d => d.parameters.length) = some 1 := by decide +kernel
theorem iu_X8_count_X8 : ∀ w ∈ u_ws RX8 TX8 29, w ∈ wsX8_count := by decide +kernel
set_option maxHeartbeats 4000000 in
set_option maxRecDepth 100000 in
theorem k_X8_count {l : Launch} {G : Gx} (a : Nat → Nat) (v : St) (x1 : Int32) {r : Int32} (hf : f_X8_count v x1 = some r) : FC l G yX8_count wsX8_count ({ frames := 1, cells := 0, slots := 0, locals := 22 } : Room) [.ref (a 0), .int x1] (mW G a v) (mW G a v) (some (.int r)) := by
  refine fc_head (cc := cX8_count) (maxL := 4) (ret := (some .int)) (C := RX8) (lv := [(0, .ref (a 0)), (1, .int x1)]) (by decide) rfl rfl (Nat.le_of_ble_eq_true rfl) rfl ?_
  intro p e s m below meth c ls A hx hb hr hml hown hts hlocks hE hP hD hAB hS hl
  have hCF : CallFix p m c cX8_count 4 s ([.ref (a 0), .int x1] : List Value).toArray wsX8_count RX8 := ⟨hx, hb, hml, hown, hts⟩
  have hwX8 : ∀ w ∈ u_ws RX8 TX8 29, w.before ([.ref (a 0), .int x1] : List Value).toArray s = true := fun w h => hts w (iu_X8_count_X8 w h)
  have hk_fieldLink_RX8_66__BrideNotKnownModel___brides___I_ := hts (.fieldLink RX8 66 "BrideNotKnownModel" "brides" "I") (List.mem_of_getElem? (i := 2) rfl)
  have hk_fieldLink_RX8_76__BrideNotKnownModel___grooms___I_ := hts (.fieldLink RX8 76 "BrideNotKnownModel" "grooms" "I") (List.mem_of_getElem? (i := 3) rfl)
  have hk_fieldLink_RX8_117__BrideNotKnownModel___year___I_ := hts (.fieldLink RX8 117 "BrideNotKnownModel" "year" "I") (List.mem_of_getElem? (i := 4) rfl)
  have hk_fieldLink_RX8_34__BrideNotKnownModel___liquor____I_ := hts (.fieldLink RX8 34 "BrideNotKnownModel" "liquor" "[I") (List.mem_of_getElem? (i := 5) rfl)
  have hk_fieldLink_RX8_250__BrideNotKnownModel___rowMany___I_ := hts (.fieldLink RX8 250 "BrideNotKnownModel" "rowMany" "I") (List.mem_of_getElem? (i := 6) rfl)
  have hk_fieldLink_RX8_83__BrideNotKnownModel___taped___I_ := hts (.fieldLink RX8 83 "BrideNotKnownModel" "taped" "I") (List.mem_of_getElem? (i := 7) rfl)
  have hk_fieldLink_RX8_7__BrideNotKnownModel___refused____I_ := hts (.fieldLink RX8 7 "BrideNotKnownModel" "refused" "[I") (List.mem_of_getElem? (i := 1) rfl)
  rw [f_X8_count] at hf
  refine lv_iload_n hx hb dX8_count_0 rfl (lv_at hl 1 rfl) ?_
  refine lv_bipush (v := (11 : Int32)) hx hb dX8_count_1 (by decide) ?_
  refine lv_bipush (v := (16 : Int32)) hx hb dX8_count_3 (by decide) ?_
  obtain ⟨q1971, hq1971, hf⟩ := bnd hf
  refine fc_callS (Wa' := (mW G a v)) (st1 := [.int q1971]) (As := [.int x1, .int (11 : Int32), .int (16 : Int32)]) (rest := []) hCF (k_X8_isIn x1 (11 : Int32) (16 : Int32) hq1971) (va_cwS 3 hts gX8_count_X8_isIn rfl rfl rfl dk_X8_isIn ⟨Nat.le_of_ble_eq_true rfl, Nat.le_of_ble_eq_true rfl⟩) hE hAB hP hD hS [] rfl rfl rfl rfl rfl rfl hl.1 rfl (Nat.le_of_ble_eq_true rfl) dX8_count_5 ⟨Nat.le_refl _, Nat.le_refl _⟩ (fun H locs hP hD hS => ?_)
  refine lv_if_eq (tgt := 21) hx hb dX8_count_8 (by decide) (fun c1972 => ?_) (fun c1972 => ?_)
  · have hf := ifT hf c1972
    refine lv_iconst (v := (0 : Int32)) hx hb dX8_count_21 (by decide) ?_
    refine lv_istore_n (lv' := [(2, .int (0 : Int32)), (0, .ref (a 0)), (1, .int x1)]) hx hb dX8_count_22 rfl hl (by decide) rfl (fun ls hl => ?_)
    refine lv_iload_n hx hb dX8_count_23 rfl (lv_at hl 2 rfl) ?_
    by_cases c1973 : x1 = (0 : Int32)
    · have hf := ifT hf c1973
      refine lv_tableIn (off := 48) (tgt := 72) hx hb dX8_count_24 (by rw [c1973]; decide) (by rw [c1973]; decide) (by rw [c1973]; rfl) (by decide) ?_
      refine lv_aload_n hx hb dX8_count_72 rfl (lv_at hl 1 rfl) ?_
      refine fc_get (v := .int (v 23 0)) (ci := 5) (C := RX8) (T := TX8) (N := 29) hx hb hwX8 hown hE hP 0 (mW_o G a v) rfl 10 (by decide) hk_fieldLink_RX8_66__BrideNotKnownModel___brides___I_ (fun _ h => h) rfl dX8_count_73 ?_
      exact fc_reti hx hb hr hlocks hP hS dX8_count_76 (i1 hf) rfl
    · have hf := ifF hf c1973
      by_cases c1974 : x1 = (1 : Int32)
      · have hf := ifT hf c1974
        refine lv_tableIn (off := 53) (tgt := 77) hx hb dX8_count_24 (by rw [c1974]; decide) (by rw [c1974]; decide) (by rw [c1974]; rfl) (by decide) ?_
        refine lv_aload_n hx hb dX8_count_77 rfl (lv_at hl 1 rfl) ?_
        refine fc_get (v := .int (v 23 1)) (ci := 5) (C := RX8) (T := TX8) (N := 29) hx hb hwX8 hown hE hP 0 (mW_o G a v) rfl 11 (by decide) hk_fieldLink_RX8_76__BrideNotKnownModel___grooms___I_ (fun _ h => h) rfl dX8_count_78 ?_
        exact fc_reti hx hb hr hlocks hP hS dX8_count_81 (i1 hf) rfl
      · have hf := ifF hf c1974
        by_cases c1975 : x1 = (2 : Int32)
        · have hf := ifT hf c1975
          refine lv_tableIn (off := 58) (tgt := 82) hx hb dX8_count_24 (by rw [c1975]; decide) (by rw [c1975]; decide) (by rw [c1975]; rfl) (by decide) ?_
          refine lv_aload_n hx hb dX8_count_82 rfl (lv_at hl 1 rfl) ?_
          refine fc_get (v := .int (v 23 2)) (ci := 5) (C := RX8) (T := TX8) (N := 29) hx hb hwX8 hown hE hP 0 (mW_o G a v) rfl 12 (by decide) hk_fieldLink_RX8_117__BrideNotKnownModel___year___I_ (fun _ h => h) rfl dX8_count_83 ?_
          exact fc_reti hx hb hr hlocks hP hS dX8_count_86 (i1 hf) rfl
        · have hf := ifF hf c1975
          by_cases c1976 : x1 = (3 : Int32)
          · have hf := ifT hf c1976
            refine lv_tableIn (off := 63) (tgt := 87) hx hb dX8_count_24 (by rw [c1976]; decide) (by rw [c1976]; decide) (by rw [c1976]; rfl) (by decide) ?_
            refine lv_aload_n hx hb dX8_count_87 rfl (lv_at hl 1 rfl) ?_
            obtain ⟨q1977, hq1977, hf⟩ := bnd hf
            refine fc_callV (Wa' := (mW G a v)) (st1 := [.int q1977]) (As := []) (rest := []) hCF (k_X8_here a v hq1977) (cwV 0 hts gX8_count_X8_here rfl rfl rfl ⟨rfl, dk_X8_here⟩ ⟨Nat.le_of_ble_eq_true rfl, Nat.le_of_ble_eq_true rfl⟩) hE hAB hP hD hS [0, 1, 2, 3, 4, 5, 6, 7, 8, 9, 10, 11, 12, 13, 14, 15, 16, 17, 18, 19, 20, 21, 22, 23, 24] mW_d (mW_c G a v) (va_recv hE.1 hP (ci := 5) (q0 := 0) rfl (mW_o G a v)) (mW_f G a v v) (mW_s G a v v) rfl rfl hl.1 rfl (Nat.le_of_ble_eq_true rfl) dX8_count_88 ⟨Nat.le_refl _, Nat.le_refl _⟩ (fun H locs hP hD hS => ?_)
            exact fc_reti hx hb hr hlocks hP hS dX8_count_91 (i1 hf) rfl
          · have hf := ifF hf c1976
            by_cases c1978 : x1 = (4 : Int32)
            · have hf := ifT hf c1978
              refine lv_tableIn (off := 68) (tgt := 92) hx hb dX8_count_24 (by rw [c1978]; decide) (by rw [c1978]; decide) (by rw [c1978]; rfl) (by decide) ?_
              refine lv_aload_n hx hb dX8_count_92 rfl (lv_at hl 1 rfl) ?_
              obtain ⟨q1979, hq1979, hf⟩ := bnd hf
              refine fc_callV (Wa' := (mW G a v)) (st1 := [.int q1979]) (As := []) (rest := []) hCF (k_X8_marriedOnes a v hq1979) (cwV 0 hts gX8_count_X8_marriedOnes rfl rfl rfl ⟨rfl, dk_X8_marriedOnes⟩ ⟨Nat.le_of_ble_eq_true rfl, Nat.le_of_ble_eq_true rfl⟩) hE hAB hP hD hS [0, 1, 2, 3, 4, 5, 6, 7, 8, 9, 10, 11, 12, 13, 14, 15, 16, 17, 18, 19, 20, 21, 22, 23, 24] mW_d (mW_c G a v) (va_recv hE.1 hP (ci := 5) (q0 := 0) rfl (mW_o G a v)) (mW_f G a v v) (mW_s G a v v) rfl rfl hl.1 rfl (Nat.le_of_ble_eq_true rfl) dX8_count_93 ⟨Nat.le_refl _, Nat.le_refl _⟩ (fun H locs hP hD hS => ?_)
              exact fc_reti hx hb hr hlocks hP hS dX8_count_96 (i1 hf) rfl
            · have hf := ifF hf c1978
              by_cases c1980 : x1 = (5 : Int32)
              · have hf := ifT hf c1980
                refine lv_tableIn (off := 73) (tgt := 97) hx hb dX8_count_24 (by rw [c1980]; decide) (by rw [c1980]; decide) (by rw [c1980]; rfl) (by decide) ?_
                refine lv_iconst (v := (0 : Int32)) hx hb dX8_count_97 (by decide) ?_
                refine lv_istore_n (lv' := [(3, .int (0 : Int32)), (2, .int (0 : Int32)), (0, .ref (a 0)), (1, .int x1)]) hx hb dX8_count_98 rfl hl (by decide) rfl (fun ls hl => ?_)
                have L99_1983 : ∀ (n : Nat) (x2_1981 : Int32) (x3_1982 : Int32) (H : Heap) (locs : List Loc) (ls : Array Slot), va_P (gD G) vwCl (mW G a v) H → va_D A (mW G a v) → va_S A s.heap H locs → lv_has ls 4 [(0, .ref (a 0)), (2, .int x2_1981), (3, .int x3_1982)] → f_X8_count_99 v n x2_1981 x3_1982 = some r → W p l e (headSpec wsX8_count ({ frames := 1, cells := 0, slots := 0, locals := 22 } : Room)).room s m ([.ref (a 0), .int x1] : List Value).toArray below meth c H locs 0 0 (MQ below (FQ G A (mW G a v) (some (.int r))) ([.ref (a 0), .int x1] : List Value).toArray s 0 0 A) (F0 m 99 ls []) := by
                  intro n
                  induction n with
                  | zero =>
                    intro x2_1981 x3_1982 H locs ls hP hD hS hl hf
                    exact no_some hf
                  | succ n ih =>
                    intro x2_1981 x3_1982 H locs ls hP hD hS hl hf
                    rw [f_X8_count_99] at hf
                    refine lv_iload_n hx hb dX8_count_99 rfl (lv_at hl 2 rfl) ?_
                    refine lv_aload_n hx hb dX8_count_100 rfl (lv_at hl 0 rfl) ?_
                    refine fc_get (v := .int (v 23 1)) (ci := 5) (C := RX8) (T := TX8) (N := 29) hx hb hwX8 hown hE hP 0 (mW_o G a v) rfl 11 (by decide) hk_fieldLink_RX8_76__BrideNotKnownModel___grooms___I_ (fun _ h => h) rfl dX8_count_101 ?_
                    refine lv_icmp_ge (tgt := 122) hx hb dX8_count_104 (by decide) (fun c1984 => ?_) (fun c1984 => ?_)
                    · have hf := ifT hf c1984
                      refine lv_iload_n hx hb dX8_count_122 rfl (lv_at hl 1 rfl) ?_
                      exact fc_reti hx hb hr hlocks hP hS dX8_count_123 (i1 hf) rfl
                    · have hf := ifF hf c1984
                      refine lv_iload_n hx hb dX8_count_107 rfl (lv_at hl 1 rfl) ?_
                      refine lv_aload_n hx hb dX8_count_108 rfl (lv_at hl 0 rfl) ?_
                      refine fc_get (v := .ref (a 9)) (ci := 5) (C := RX8) (T := TX8) (N := 29) hx hb hwX8 hown hE hP 0 (mW_o G a v) rfl 8 (by decide) hk_fieldLink_RX8_34__BrideNotKnownModel___liquor____I_ (fun _ h => h) rfl dX8_count_109 ?_
                      refine lv_iload_n hx hb dX8_count_112 rfl (lv_at hl 2 rfl) ?_
                      obtain ⟨c1985, hf⟩ := gd_some hf
                      refine fc_iald (n := 5) (f := (v 8)) hx hb hE hP 9 (mW_a9 G a v) (inB_in c1985) dX8_count_113 ?_
                      refine lv_iadd hx hb dX8_count_114 ?_
                      refine lv_istore_n (lv' := [(2, .int (x2_1981 + ((v 8) x3_1982.toNatClampNeg))), (0, .ref (a 0)), (3, .int x3_1982)]) hx hb dX8_count_115 rfl hl (by decide) rfl (fun ls hl => ?_)
                      refine lv_iinc (v := (x3_1982 + (1 : Int32))) (lv' := [(3, .int (x3_1982 + (1 : Int32))), (2, .int (x2_1981 + ((v 8) x3_1982.toNatClampNeg))), (0, .ref (a 0))]) hx hb dX8_count_116 hl (k := 2) rfl rfl (by decide) rfl (fun ls hl => ?_)
                      refine lv_goto (tgt := 99) hx hb dX8_count_119 (by decide) ?_
                      exact ih (x2_1981 + ((v 8) x3_1982.toNatClampNeg)) (x3_1982 + (1 : Int32)) _ _ _ hP hD hS (lv_sub hl [2, 1, 0] rfl) hf
                exact L99_1983 FUEL (0 : Int32) (0 : Int32) _ _ _ hP hD hS (lv_sub hl [2, 1, 0] rfl) hf
              · have hf := ifF hf c1980
                by_cases c1986 : x1 = (6 : Int32)
                · have hf := ifT hf c1986
                  refine lv_tableIn (off := 100) (tgt := 124) hx hb dX8_count_24 (by rw [c1986]; decide) (by rw [c1986]; decide) (by rw [c1986]; rfl) (by decide) ?_
                  refine lv_aload_n hx hb dX8_count_124 rfl (lv_at hl 1 rfl) ?_
                  refine fc_get (v := .int (v 23 9)) (ci := 5) (C := RX8) (T := TX8) (N := 29) hx hb hwX8 hown hE hP 0 (mW_o G a v) rfl 26 (by decide) hk_fieldLink_RX8_250__BrideNotKnownModel___rowMany___I_ (fun _ h => h) rfl dX8_count_125 ?_
                  exact fc_reti hx hb hr hlocks hP hS dX8_count_128 (i1 hf) rfl
                · have hf := ifF hf c1986
                  by_cases c1987 : x1 = (7 : Int32)
                  · have hf := ifT hf c1987
                    refine lv_tableIn (off := 105) (tgt := 129) hx hb dX8_count_24 (by rw [c1987]; decide) (by rw [c1987]; decide) (by rw [c1987]; rfl) (by decide) ?_
                    refine lv_aload_n hx hb dX8_count_129 rfl (lv_at hl 1 rfl) ?_
                    refine fc_get (v := .int (v 23 3)) (ci := 5) (C := RX8) (T := TX8) (N := 29) hx hb hwX8 hown hE hP 0 (mW_o G a v) rfl 17 (by decide) hk_fieldLink_RX8_83__BrideNotKnownModel___taped___I_ (fun _ h => h) rfl dX8_count_130 ?_
                    exact fc_reti hx hb hr hlocks hP hS dX8_count_133 (i1 hf) rfl
                  · have hf := ifF hf c1987
                    refine lv_tableOut (tgt := 134) hx hb dX8_count_24 (by have dc1973 := lv_neT c1973 (a := 0) (by decide); have dc1974 := lv_neT c1974 (a := 1) (by decide); have dc1975 := lv_neT c1975 (a := 2) (by decide); have dc1976 := lv_neT c1976 (a := 3) (by decide); have dc1978 := lv_neT c1978 (a := 4) (by decide); have dc1980 := lv_neT c1980 (a := 5) (by decide); have dc1986 := lv_neT c1986 (a := 6) (by decide); have dc1987 := lv_neT c1987 (a := 7) (by decide); omega) (by decide) ?_
                    refine lv_bipush (v := (-9 : Int32)) hx hb dX8_count_134 (by decide) ?_
                    exact fc_reti hx hb hr hlocks hP hS dX8_count_136 (i1 hf) rfl
  · have hf := ifF hf c1972
    refine lv_aload_n hx hb dX8_count_11 rfl (lv_at hl 0 rfl) ?_
    refine fc_get (v := .ref (a 1)) (ci := 5) (C := RX8) (T := TX8) (N := 29) hx hb hwX8 hown hE hP 0 (mW_o G a v) rfl 0 (by decide) hk_fieldLink_RX8_7__BrideNotKnownModel___refused____I_ (fun _ h => h) rfl dX8_count_12 ?_
    refine lv_iload_n hx hb dX8_count_15 rfl (lv_at hl 1 rfl) ?_
    refine lv_bipush (v := (10 : Int32)) hx hb dX8_count_16 (by decide) ?_
    refine lv_isub hx hb dX8_count_18 ?_
    obtain ⟨c1988, hf⟩ := gd_some hf
    refine fc_iald (n := 7) (f := (v 0)) hx hb hE hP 1 (mW_a1 G a v) (inB_in c1988) dX8_count_19 ?_
    exact fc_reti hx hb hr hlocks hP hS dX8_count_20 (i1 hf) rfl
theorem dk_X8_draw : yX8_draw.cls ≠ "java/lang/invoke/MethodHandle" ∧ yX8_draw.cls ≠ "java/lang/invoke/VarHandle" ∧ (parseMethodDescriptor yX8_draw.desc).map (fun d => d.parameters.length) = some 1 := by decide +kernel
theorem iu_X8_draw_X8 : ∀ w ∈ u_ws RX8 TX8 29, w ∈ wsX8_draw := by decide +kernel
set_option maxHeartbeats 4000000 in
set_option maxRecDepth 100000 in
theorem k_X8_draw {l : Launch} {G : Gx} (a : Nat → Nat) (v : St) (x1 : Int32) {r : Int32} {v' : St} (hf : f_X8_draw v x1 = some (r, v')) : FC l G yX8_draw wsX8_draw ({ frames := 0, cells := 0, slots := 0, locals := 0 } : Room) [.ref (a 0), .int x1] (mW G a v) (mW G a v') (some (.int r)) := by
  refine fc_head (cc := cX8_draw) (maxL := 2) (ret := (some .int)) (C := RX8) (lv := [(0, .ref (a 0)), (1, .int x1)]) (by decide) rfl rfl (Nat.le_of_ble_eq_true rfl) rfl ?_
  intro p e s m below meth c ls A hx hb hr hml hown hts hlocks hE hP hD hAB hS hl
  have hCF : CallFix p m c cX8_draw 2 s ([.ref (a 0), .int x1] : List Value).toArray wsX8_draw RX8 := ⟨hx, hb, hml, hown, hts⟩
  have hwX8 : ∀ w ∈ u_ws RX8 TX8 29, w.before ([.ref (a 0), .int x1] : List Value).toArray s = true := fun w h => hts w (iu_X8_draw_X8 w h)
  have hk_fieldLink_RX8_278__BrideNotKnownModel___lots___I_ := hts (.fieldLink RX8 278 "BrideNotKnownModel" "lots" "I") (List.mem_of_getElem? (i := 1) rfl)
  have hk_constant_RX8_281__1664525_ := hts (.constant RX8 281 (1664525)) (List.mem_of_getElem? (i := 2) rfl)
  have hk_constant_RX8_282__1013904223_ := hts (.constant RX8 282 (1013904223)) (List.mem_of_getElem? (i := 3) rfl)
  have hk_constant_RX8_283__2147483647_ := hts (.constant RX8 283 (2147483647)) (List.mem_of_getElem? (i := 4) rfl)
  rw [f_X8_draw] at hf
  refine lv_aload_n hx hb dX8_draw_0 rfl (lv_at hl 0 rfl) ?_
  refine lv_aload_n hx hb dX8_draw_1 rfl (lv_at hl 0 rfl) ?_
  refine fc_get (v := .int (v 23 10)) (ci := 5) (C := RX8) (T := TX8) (N := 29) hx hb hwX8 hown hE hP 0 (mW_o G a v) rfl 28 (by decide) hk_fieldLink_RX8_278__BrideNotKnownModel___lots___I_ (fun _ h => h) rfl dX8_draw_2 ?_
  refine lv_ldcw (v := (1664525 : Int32)) hx hb hown hk_constant_RX8_281__1664525_ dX8_draw_5 ?_
  refine lv_imul hx hb dX8_draw_8 ?_
  refine lv_ldcw (v := (1013904223 : Int32)) hx hb hown hk_constant_RX8_282__1013904223_ dX8_draw_9 ?_
  refine lv_iadd hx hb dX8_draw_12 ?_
  refine fc_put (Wa' := (mW G a (sA v 23 (upd (v 23) 10 (((v 23 10) * (1664525 : Int32)) + (1013904223 : Int32)))))) (ci := 5) (C := RX8) (T := TX8) (N := 29) hx hb hwX8 tyX8 tyX8_ok nmX8 hown hE hP hD hS 0 (mW_o G a v) rfl 28 (by decide) hk_fieldLink_RX8_278__BrideNotKnownModel___lots___I_ (fun _ h => h) rfl rfl rfl (Nat.le_of_ble_eq_true rfl) dX8_draw_13 (mW_p28 G a v (((v 23 10) * (1664525 : Int32)) + (1013904223 : Int32))) (fun H locs hP hD hS => ?_)
  refine lv_aload_n hx hb dX8_draw_16 rfl (lv_at hl 0 rfl) ?_
  refine fc_get (v := .int (((v 23 10) * (1664525 : Int32)) + (1013904223 : Int32))) (ci := 5) (C := RX8) (T := TX8) (N := 29) hx hb hwX8 hown hE hP 0 (mW_o G a (sA v 23 (upd (v 23) 10 (((v 23 10) * (1664525 : Int32)) + (1013904223 : Int32))))) rfl 28 (by decide) hk_fieldLink_RX8_278__BrideNotKnownModel___lots___I_ (fun _ h => h) rfl dX8_draw_17 ?_
  refine lv_ldcw (v := (2147483647 : Int32)) hx hb hown hk_constant_RX8_283__2147483647_ dX8_draw_20 ?_
  refine lv_iand hx hb dX8_draw_23 ?_
  refine lv_sipush (v := (256 : Int32)) hx hb dX8_draw_24 (by decide) ?_
  refine lv_idiv hx hb dX8_draw_27 (by decide) ?_
  refine lv_iload_n hx hb dX8_draw_28 rfl (lv_at hl 1 rfl) ?_
  obtain ⟨c1989, hf⟩ := gd_some hf
  refine lv_irem hx hb dX8_draw_29 (nzI_ne c1989) ?_
  exact fc_reti hx hb hr hlocks hP hS dX8_draw_30 (i2a hf) (congrArg (fun z => (mW G a z)) (i2b hf))
theorem dk_X8_drink : yX8_drink.cls ≠ "java/lang/invoke/MethodHandle" ∧ yX8_drink.cls ≠ "java/lang/invoke/VarHandle" ∧ (parseMethodDescriptor yX8_drink.desc).map (fun d => d.parameters.length) = some 2 := by decide +kernel
set_option maxHeartbeats 4000000 in
set_option maxRecDepth 100000 in
theorem k_X8_drink {l : Launch} {G : Gx} (a : Nat → Nat) (v : St) (x1 : Int32) (x2 : Int32) {r : Int32} {v' : St} (hf : f_X8_drink v x1 x2 = some (r, v')) : FC l G yX8_drink wsX8_drink ({ frames := 5, cells := 0, slots := 0, locals := 114 } : Room) [.ref (a 0), .int x1, .int x2] (mW G a v) (mW G a v') (some (.int r)) := by
  refine fc_head (cc := cX8_drink) (maxL := 4) (ret := (some .int)) (C := RX8) (lv := [(0, .ref (a 0)), (1, .int x1), (2, .int x2)]) (by decide) rfl rfl (Nat.le_of_ble_eq_true rfl) rfl ?_
  intro p e s m below meth c ls A hx hb hr hml hown hts hlocks hE hP hD hAB hS hl
  have hCF : CallFix p m c cX8_drink 4 s ([.ref (a 0), .int x1, .int x2] : List Value).toArray wsX8_drink RX8 := ⟨hx, hb, hml, hown, hts⟩
  rw [f_X8_drink] at hf
  refine lv_aload_n hx hb dX8_drink_0 rfl (lv_at hl 0 rfl) ?_
  refine lv_iload_n hx hb dX8_drink_1 rfl (lv_at hl 1 rfl) ?_
  obtain ⟨q1997, hq1997, hf⟩ := bnd hf
  refine fc_callV (Wa' := (mW G a v)) (st1 := [.int q1997]) (As := [.int x1]) (rest := []) hCF (k_X8_isGroom a v x1 hq1997) (cwV 1 hts gX8_drink_X8_isGroom rfl rfl rfl ⟨rfl, dk_X8_isGroom⟩ ⟨Nat.le_of_ble_eq_true rfl, Nat.le_of_ble_eq_true rfl⟩) hE hAB hP hD hS [0, 1, 2, 3, 4, 5, 6, 7, 8, 9, 10, 11, 12, 13, 14, 15, 16, 17, 18, 19, 20, 21, 22, 23, 24] mW_d (mW_c G a v) (va_recv hE.1 hP (ci := 5) (q0 := 0) rfl (mW_o G a v)) (mW_f G a v v) (mW_s G a v v) rfl rfl hl.1 rfl (Nat.le_of_ble_eq_true rfl) dX8_drink_2 ⟨Nat.le_refl _, Nat.le_refl _⟩ (fun H locs hP hD hS => ?_)
  refine lv_if_eq (tgt := 16) hx hb dX8_drink_5 (by decide) (fun c1998 => ?_) (fun c1998 => ?_)
  · have hf := ifT hf c1998
    refine lv_aload_n hx hb dX8_drink_16 rfl (lv_at hl 0 rfl) ?_
    refine lv_iconst (v := (-1 : Int32)) hx hb dX8_drink_17 (by decide) ?_
    obtain ⟨q1999, hq1999, hf⟩ := bnd hf
    refine fc_callV (Wa' := (mW G a q1999.2)) (st1 := [.int q1999.1]) (As := [.int (-1 : Int32)]) (rest := []) hCF (k_X8_no a v (-1 : Int32) hq1999) (cwV 1 hts gX8_drink_X8_no rfl rfl rfl ⟨rfl, dk_X8_no⟩ ⟨Nat.le_of_ble_eq_true rfl, Nat.le_of_ble_eq_true rfl⟩) hE hAB hP hD hS [0, 1, 2, 3, 4, 5, 6, 7, 8, 9, 10, 11, 12, 13, 14, 15, 16, 17, 18, 19, 20, 21, 22, 23, 24] mW_d (mW_c G a v) (va_recv hE.1 hP (ci := 5) (q0 := 0) rfl (mW_o G a v)) (mW_f G a v q1999.2) (mW_s G a v q1999.2) rfl rfl hl.1 rfl (Nat.le_of_ble_eq_true rfl) dX8_drink_18 ⟨Nat.le_refl _, Nat.le_refl _⟩ (fun H locs hP hD hS => ?_)
    exact fc_reti hx hb hr hlocks hP hS dX8_drink_21 (i2a hf) (congrArg (fun z => (mW G a z)) (i2b hf))
  · have hf := ifF hf c1998
    refine lv_aload_n hx hb dX8_drink_8 rfl (lv_at hl 0 rfl) ?_
    refine lv_iload_n hx hb dX8_drink_9 rfl (lv_at hl 2 rfl) ?_
    obtain ⟨q2000, hq2000, hf⟩ := bnd hf
    refine fc_callV (Wa' := (mW G a v)) (st1 := [.int q2000]) (As := [.int x2]) (rest := []) hCF (k_X8_isBride a v x2 hq2000) (cwV 1 hts gX8_drink_X8_isBride rfl rfl rfl ⟨rfl, dk_X8_isBride⟩ ⟨Nat.le_of_ble_eq_true rfl, Nat.le_of_ble_eq_true rfl⟩) hE hAB hP hD hS [0, 1, 2, 3, 4, 5, 6, 7, 8, 9, 10, 11, 12, 13, 14, 15, 16, 17, 18, 19, 20, 21, 22, 23, 24] mW_d (mW_c G a v) (va_recv hE.1 hP (ci := 5) (q0 := 0) rfl (mW_o G a v)) (mW_f G a v v) (mW_s G a v v) rfl rfl hl.1 rfl (Nat.le_of_ble_eq_true rfl) dX8_drink_10 ⟨Nat.le_refl _, Nat.le_refl _⟩ (fun H locs hP hD hS => ?_)
    refine lv_if_ne (tgt := 22) hx hb dX8_drink_13 (by decide) (fun c2001 => ?_) (fun c2001 => ?_)
    · have hf := ifF hf c2001
      refine lv_aload_n hx hb dX8_drink_22 rfl (lv_at hl 0 rfl) ?_
      refine lv_iload_n hx hb dX8_drink_23 rfl (lv_at hl 1 rfl) ?_
      obtain ⟨q2002, hq2002, hf⟩ := bnd hf
      refine fc_callV (Wa' := (mW G a v)) (st1 := [.int q2002]) (As := [.int x1]) (rest := []) hCF (k_X8_canWed a v x1 hq2002) (cwV 1 hts gX8_drink_X8_canWed rfl rfl rfl ⟨rfl, dk_X8_canWed⟩ ⟨Nat.le_of_ble_eq_true rfl, Nat.le_of_ble_eq_true rfl⟩) hE hAB hP hD hS [0, 1, 2, 3, 4, 5, 6, 7, 8, 9, 10, 11, 12, 13, 14, 15, 16, 17, 18, 19, 20, 21, 22, 23, 24] mW_d (mW_c G a v) (va_recv hE.1 hP (ci := 5) (q0 := 0) rfl (mW_o G a v)) (mW_f G a v v) (mW_s G a v v) rfl rfl hl.1 rfl (Nat.le_of_ble_eq_true rfl) dX8_drink_24 ⟨Nat.le_refl _, Nat.le_refl _⟩ (fun H locs hP hD hS => ?_)
      refine lv_if_eq (tgt := 38) hx hb dX8_drink_27 (by decide) (fun c2003 => ?_) (fun c2003 => ?_)
      · have hf := ifT hf c2003
        refine lv_bipush (v := (-9 : Int32)) hx hb dX8_drink_38 (by decide) ?_
        exact fc_reti hx hb hr hlocks hP hS dX8_drink_40 (i2a hf) (congrArg (fun z => (mW G a z)) (i2b hf))
      · have hf := ifF hf c2003
        refine lv_aload_n hx hb dX8_drink_30 rfl (lv_at hl 0 rfl) ?_
        refine lv_iload_n hx hb dX8_drink_31 rfl (lv_at hl 1 rfl) ?_
        obtain ⟨q2004, hq2004, hf⟩ := bnd hf
        refine fc_callV (Wa' := (mW G a v)) (st1 := [.int q2004]) (As := [.int x1]) (rest := []) hCF (k_X8_knows a v x1 hq2004) (cwV 1 hts gX8_drink_X8_knows rfl rfl rfl ⟨rfl, dk_X8_knows⟩ ⟨Nat.le_of_ble_eq_true rfl, Nat.le_of_ble_eq_true rfl⟩) hE hAB hP hD hS [0, 1, 2, 3, 4, 5, 6, 7, 8, 9, 10, 11, 12, 13, 14, 15, 16, 17, 18, 19, 20, 21, 22, 23, 24] mW_d (mW_c G a v) (va_recv hE.1 hP (ci := 5) (q0 := 0) rfl (mW_o G a v)) (mW_f G a v v) (mW_s G a v v) rfl rfl hl.1 rfl (Nat.le_of_ble_eq_true rfl) dX8_drink_32 ⟨Nat.le_refl _, Nat.le_refl _⟩ (fun H locs hP hD hS => ?_)
        refine lv_if_lt (tgt := 41) hx hb dX8_drink_35 (by decide) (fun c2005 => ?_) (fun c2005 => ?_)
        · have hf := ifT hf c2005
          refine lv_iconst (v := (0 : Int32)) hx hb dX8_drink_41 (by decide) ?_
          refine lv_istore_n (lv' := [(3, .int (0 : Int32)), (0, .ref (a 0)), (1, .int x1), (2, .int x2)]) hx hb dX8_drink_42 rfl hl (by decide) rfl (fun ls hl => ?_)
          have L43_2007 : ∀ (n : Nat) (x3_2006 : Int32) (H : Heap) (locs : List Loc) (ls : Array Slot), va_P (gD G) vwCl (mW G a v) H → va_D A (mW G a v) → va_S A s.heap H locs → lv_has ls 4 [(0, .ref (a 0)), (1, .int x1), (2, .int x2), (3, .int x3_2006)] → f_X8_drink_43 v x1 x2 n x3_2006 = some (r, v') → W p l e (headSpec wsX8_drink ({ frames := 5, cells := 0, slots := 0, locals := 114 } : Room)).room s m ([.ref (a 0), .int x1, .int x2] : List Value).toArray below meth c H locs 0 0 (MQ below (FQ G A (mW G a v') (some (.int r))) ([.ref (a 0), .int x1, .int x2] : List Value).toArray s 0 0 A) (F0 m 43 ls []) := by
            intro n
            induction n with
            | zero =>
              intro x3_2006 H locs ls hP hD hS hl hf
              exact no_some hf
            | succ n ih =>
              intro x3_2006 H locs ls hP hD hS hl hf
              rw [f_X8_drink_43] at hf
              refine lv_iload_n hx hb dX8_drink_43 rfl (lv_at hl 3 rfl) ?_
              refine lv_bipush (v := (10 : Int32)) hx hb dX8_drink_44 (by decide) ?_
              refine lv_icmp_ge (tgt := 67) hx hb dX8_drink_46 (by decide) (fun c2008 => ?_) (fun c2008 => ?_)
              · have hf := ifT hf c2008
                refine lv_bipush (v := (-9 : Int32)) hx hb dX8_drink_67 (by decide) ?_
                exact fc_reti hx hb hr hlocks hP hS dX8_drink_69 (i2a hf) (congrArg (fun z => (mW G a z)) (i2b hf))
              · have hf := ifF hf c2008
                refine lv_aload_n hx hb dX8_drink_49 rfl (lv_at hl 0 rfl) ?_
                refine lv_iload_n hx hb dX8_drink_50 rfl (lv_at hl 1 rfl) ?_
                refine lv_iload_n hx hb dX8_drink_51 rfl (lv_at hl 3 rfl) ?_
                obtain ⟨q2009, hq2009, hf⟩ := bnd hf
                refine fc_callV (Wa' := (mW G a v)) (st1 := [.int q2009]) (As := [.int x1, .int x3_2006]) (rest := []) hCF (k_X8_takenBy a v x1 x3_2006 hq2009) (cwV 2 hts gX8_drink_X8_takenBy rfl rfl rfl ⟨rfl, dk_X8_takenBy⟩ ⟨Nat.le_of_ble_eq_true rfl, Nat.le_of_ble_eq_true rfl⟩) hE hAB hP hD hS [0, 1, 2, 3, 4, 5, 6, 7, 8, 9, 10, 11, 12, 13, 14, 15, 16, 17, 18, 19, 20, 21, 22, 23, 24] mW_d (mW_c G a v) (va_recv hE.1 hP (ci := 5) (q0 := 0) rfl (mW_o G a v)) (mW_f G a v v) (mW_s G a v v) rfl rfl hl.1 rfl (Nat.le_of_ble_eq_true rfl) dX8_drink_52 ⟨Nat.le_refl _, Nat.le_refl _⟩ (fun H locs hP hD hS => ?_)
                refine lv_iload_n hx hb dX8_drink_55 rfl (lv_at hl 2 rfl) ?_
                refine lv_icmp_ne (tgt := 61) hx hb dX8_drink_56 (by decide) (fun c2010 => ?_) (fun c2010 => ?_)
                · have hf := ifF hf c2010
                  refine lv_iinc (v := (x3_2006 + (1 : Int32))) (lv' := [(3, .int (x3_2006 + (1 : Int32))), (0, .ref (a 0)), (1, .int x1), (2, .int x2)]) hx hb dX8_drink_61 hl (k := 3) rfl rfl (by decide) rfl (fun ls hl => ?_)
                  refine lv_goto (tgt := 43) hx hb dX8_drink_64 (by decide) ?_
                  exact ih (x3_2006 + (1 : Int32)) _ _ _ hP hD hS (lv_sub hl [1, 2, 3, 0] rfl) hf
                · have hf := ifT hf c2010
                  refine lv_iload_n hx hb dX8_drink_59 rfl (lv_at hl 3 rfl) ?_
                  exact fc_reti hx hb hr hlocks hP hS dX8_drink_60 (i2a hf) (congrArg (fun z => (mW G a z)) (i2b hf))
          exact L43_2007 FUEL (0 : Int32) _ _ _ hP hD hS (lv_sub hl [1, 2, 3, 0] rfl) hf
        · have hf := ifF hf c2005
          refine lv_bipush (v := (-9 : Int32)) hx hb dX8_drink_38 (by decide) ?_
          exact fc_reti hx hb hr hlocks hP hS dX8_drink_40 (i2a hf) (congrArg (fun z => (mW G a z)) (i2b hf))
    · have hf := ifT hf c2001
      refine lv_aload_n hx hb dX8_drink_16 rfl (lv_at hl 0 rfl) ?_
      refine lv_iconst (v := (-1 : Int32)) hx hb dX8_drink_17 (by decide) ?_
      obtain ⟨q2011, hq2011, hf⟩ := bnd hf
      refine fc_callV (Wa' := (mW G a q2011.2)) (st1 := [.int q2011.1]) (As := [.int (-1 : Int32)]) (rest := []) hCF (k_X8_no a v (-1 : Int32) hq2011) (cwV 1 hts gX8_drink_X8_no rfl rfl rfl ⟨rfl, dk_X8_no⟩ ⟨Nat.le_of_ble_eq_true rfl, Nat.le_of_ble_eq_true rfl⟩) hE hAB hP hD hS [0, 1, 2, 3, 4, 5, 6, 7, 8, 9, 10, 11, 12, 13, 14, 15, 16, 17, 18, 19, 20, 21, 22, 23, 24] mW_d (mW_c G a v) (va_recv hE.1 hP (ci := 5) (q0 := 0) rfl (mW_o G a v)) (mW_f G a v q2011.2) (mW_s G a v q2011.2) rfl rfl hl.1 rfl (Nat.le_of_ble_eq_true rfl) dX8_drink_18 ⟨Nat.le_refl _, Nat.le_refl _⟩ (fun H locs hP hD hS => ?_)
      exact fc_reti hx hb hr hlocks hP hS dX8_drink_21 (i2a hf) (congrArg (fun z => (mW G a z)) (i2b hf))
theorem dk_X8_drinks : yX8_drinks.cls ≠ "java/lang/invoke/MethodHandle" ∧ yX8_drinks.cls ≠ "java/lang/invoke/VarHandle" ∧ (parseMethodDescriptor yX8_drinks.desc).map (fun d => d.parameters.length) = some 2 := by decide +kernel
theorem iu_X8_drinks_X8 : ∀ w ∈ u_ws RX8 TX8 29, w ∈ wsX8_drinks := by decide +kernel
set_option maxHeartbeats 4000000 in
set_option maxRecDepth 100000 in
theorem k_X8_drinks {l : Launch} {G : Gx} (a : Nat → Nat) (v : St) (x1 : Int32) (x2 : Int32) {r : Int32} {v' : St} (hf : f_X8_drinks v x1 x2 = some (r, v')) : FC l G yX8_drinks wsX8_drinks ({ frames := 1, cells := 0, slots := 0, locals := 22 } : Room) [.ref (a 0), .int x1, .int x2] (mW G a v) (mW G a v') (some (.int r)) := by
  refine fc_head (cc := cX8_drinks) (maxL := 5) (ret := (some .int)) (C := RX8) (lv := [(0, .ref (a 0)), (1, .int x1), (2, .int x2)]) (by decide) rfl rfl (Nat.le_of_ble_eq_true rfl) rfl ?_
  intro p e s m below meth c ls A hx hb hr hml hown hts hlocks hE hP hD hAB hS hl
  have hCF : CallFix p m c cX8_drinks 5 s ([.ref (a 0), .int x1, .int x2] : List Value).toArray wsX8_drinks RX8 := ⟨hx, hb, hml, hown, hts⟩
  have hwX8 : ∀ w ∈ u_ws RX8 TX8 29, w.before ([.ref (a 0), .int x1, .int x2] : List Value).toArray s = true := fun w h => hts w (iu_X8_drinks_X8 w h)
  have hk_fieldLink_RX8_34__BrideNotKnownModel___liquor____I_ := hts (.fieldLink RX8 34 "BrideNotKnownModel" "liquor" "[I") (List.mem_of_getElem? (i := 1) rfl)
  rw [f_X8_drinks] at hf
  refine lv_aload_n hx hb dX8_drinks_0 rfl (lv_at hl 0 rfl) ?_
  refine lv_iload_n hx hb dX8_drinks_1 rfl (lv_at hl 1 rfl) ?_
  obtain ⟨q2015, hq2015, hf⟩ := bnd hf
  refine fc_callV (Wa' := (mW G a v)) (st1 := [.int q2015]) (As := [.int x1]) (rest := []) hCF (k_X8_isGroom a v x1 hq2015) (cwV 1 hts gX8_drinks_X8_isGroom rfl rfl rfl ⟨rfl, dk_X8_isGroom⟩ ⟨Nat.le_of_ble_eq_true rfl, Nat.le_of_ble_eq_true rfl⟩) hE hAB hP hD hS [0, 1, 2, 3, 4, 5, 6, 7, 8, 9, 10, 11, 12, 13, 14, 15, 16, 17, 18, 19, 20, 21, 22, 23, 24] mW_d (mW_c G a v) (va_recv hE.1 hP (ci := 5) (q0 := 0) rfl (mW_o G a v)) (mW_f G a v v) (mW_s G a v v) rfl rfl hl.1 rfl (Nat.le_of_ble_eq_true rfl) dX8_drinks_2 ⟨Nat.le_refl _, Nat.le_refl _⟩ (fun H locs hP hD hS => ?_)
  have J19_2017 : ∀ (s0_2016 : Int32) (H : Heap) (locs : List Loc) (ls : Array Slot), va_P (gD G) vwCl (mW G a v) H → va_D A (mW G a v) → va_S A s.heap H locs → lv_has ls 5 [(0, .ref (a 0)), (1, .int x1), (2, .int x2)] → f_X8_drinks_19 v x1 x2 s0_2016 = some (r, v') → W p l e (headSpec wsX8_drinks ({ frames := 1, cells := 0, slots := 0, locals := 22 } : Room)).room s m ([.ref (a 0), .int x1, .int x2] : List Value).toArray below meth c H locs 0 0 (MQ below (FQ G A (mW G a v') (some (.int r))) ([.ref (a 0), .int x1, .int x2] : List Value).toArray s 0 0 A) (F0 m 19 ls [.int s0_2016]) := by
    intro s0_2016 H locs ls hP hD hS hl hf
    rw [f_X8_drinks_19] at hf
    refine lv_istore_n (lv' := [(3, .int s0_2016), (0, .ref (a 0)), (1, .int x1), (2, .int x2)]) hx hb dX8_drinks_19 rfl hl (by decide) rfl (fun ls hl => ?_)
    refine lv_iload_n hx hb dX8_drinks_20 rfl (lv_at hl 0 rfl) ?_
    refine lv_if_eq (tgt := 30) hx hb dX8_drinks_21 (by decide) (fun c2018 => ?_) (fun c2018 => ?_)
    · have hf := ifT hf c2018
      refine lv_aload_n hx hb dX8_drinks_30 rfl (lv_at hl 1 rfl) ?_
      refine fc_get (v := .ref (a 9)) (ci := 5) (C := RX8) (T := TX8) (N := 29) hx hb hwX8 hown hE hP 0 (mW_o G a v) rfl 8 (by decide) hk_fieldLink_RX8_34__BrideNotKnownModel___liquor____I_ (fun _ h => h) rfl dX8_drinks_31 ?_
      refine lv_iload_n hx hb dX8_drinks_34 rfl (lv_at hl 2 rfl) ?_
      obtain ⟨c2019, hf⟩ := gd_some hf
      refine fc_iald (n := 5) (f := (v 8)) hx hb hE hP 9 (mW_a9 G a v) (inB_in c2019) dX8_drinks_35 ?_
      refine lv_istore (lv' := [(4, .int ((v 8) x1.toNatClampNeg)), (3, .int s0_2016), (0, .ref (a 0)), (1, .int x1), (2, .int x2)]) hx hb dX8_drinks_36 hl (by decide) rfl (fun ls hl => ?_)
      refine lv_aload_n hx hb dX8_drinks_38 rfl (lv_at hl 2 rfl) ?_
      refine fc_get (v := .ref (a 9)) (ci := 5) (C := RX8) (T := TX8) (N := 29) hx hb hwX8 hown hE hP 0 (mW_o G a v) rfl 8 (by decide) hk_fieldLink_RX8_34__BrideNotKnownModel___liquor____I_ (fun _ h => h) rfl dX8_drinks_39 ?_
      refine lv_iload_n hx hb dX8_drinks_42 rfl (lv_at hl 3 rfl) ?_
      refine lv_iload_n hx hb dX8_drinks_43 rfl (lv_at hl 4 rfl) ?_
      obtain ⟨c2020, hf⟩ := gd_some hf
      refine fc_iast (n := 5) (f := (v 8)) (Wa' := (mW G a (sA v 8 (upd (v 8) x1.toNatClampNeg x2)))) hx hb hE hP hD hS 9 (mW_a9 G a v) (inB_in c2020) dX8_drinks_44 (mW_t9 G a v (upd (v 8) x1.toNatClampNeg x2)) (fun H locs hP hD hS => ?_)
      refine lv_iload hx hb dX8_drinks_45 (lv_at hl 0 rfl) ?_
      exact fc_reti hx hb hr hlocks hP hS dX8_drinks_47 (i2a hf) (congrArg (fun z => (mW G a z)) (i2b hf))
    · have hf := ifF hf c2018
      refine lv_aload_n hx hb dX8_drinks_24 rfl (lv_at hl 1 rfl) ?_
      refine lv_iload_n hx hb dX8_drinks_25 rfl (lv_at hl 0 rfl) ?_
      obtain ⟨q2021, hq2021, hf⟩ := bnd hf
      refine fc_callV (Wa' := (mW G a q2021.2)) (st1 := [.int q2021.1]) (As := [.int s0_2016]) (rest := []) hCF (k_X8_no a v s0_2016 hq2021) (cwV 1 hts gX8_drinks_X8_no rfl rfl rfl ⟨rfl, dk_X8_no⟩ ⟨Nat.le_of_ble_eq_true rfl, Nat.le_of_ble_eq_true rfl⟩) hE hAB hP hD hS [0, 1, 2, 3, 4, 5, 6, 7, 8, 9, 10, 11, 12, 13, 14, 15, 16, 17, 18, 19, 20, 21, 22, 23, 24] mW_d (mW_c G a v) (va_recv hE.1 hP (ci := 5) (q0 := 0) rfl (mW_o G a v)) (mW_f G a v q2021.2) (mW_s G a v q2021.2) rfl rfl hl.1 rfl (Nat.le_of_ble_eq_true rfl) dX8_drinks_26 ⟨Nat.le_refl _, Nat.le_refl _⟩ (fun H locs hP hD hS => ?_)
      exact fc_reti hx hb hr hlocks hP hS dX8_drinks_29 (i2a hf) (congrArg (fun z => (mW G a z)) (i2b hf))
  refine lv_if_ne (tgt := 12) hx hb dX8_drinks_5 (by decide) (fun c2022 => ?_) (fun c2022 => ?_)
  · have hf := ifF hf c2022
    refine lv_iload_n hx hb dX8_drinks_12 rfl (lv_at hl 2 rfl) ?_
    refine lv_iconst (v := (0 : Int32)) hx hb dX8_drinks_13 (by decide) ?_
    refine lv_bipush (v := (9 : Int32)) hx hb dX8_drinks_14 (by decide) ?_
    obtain ⟨q2023, hq2023, hf⟩ := bnd hf
    refine fc_callS (Wa' := (mW G a v)) (st1 := [.int q2023]) (As := [.int x2, .int (0 : Int32), .int (9 : Int32)]) (rest := []) hCF (k_X8_bound x2 (0 : Int32) (9 : Int32) hq2023) (va_cwS 3 hts gX8_drinks_X8_bound rfl rfl rfl dk_X8_bound ⟨Nat.le_of_ble_eq_true rfl, Nat.le_of_ble_eq_true rfl⟩) hE hAB hP hD hS [] rfl rfl rfl rfl rfl rfl hl.1 rfl (Nat.le_of_ble_eq_true rfl) dX8_drinks_16 ⟨Nat.le_refl _, Nat.le_refl _⟩ (fun H locs hP hD hS => ?_)
    exact J19_2017 q2023 _ _ _ hP hD hS (lv_sub hl [0, 1, 2] rfl) hf
  · have hf := ifT hf c2022
    refine lv_iconst (v := (-1 : Int32)) hx hb dX8_drinks_8 (by decide) ?_
    refine lv_goto (tgt := 19) hx hb dX8_drinks_9 (by decide) ?_
    exact J19_2017 (-1 : Int32) _ _ _ hP hD hS (lv_sub hl [0, 1, 2] rfl) hf
