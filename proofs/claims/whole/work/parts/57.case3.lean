set_option maxHeartbeats 1000000 in
theorem lw_chance {p : Program} {e : Env} {s : State} {m : MethodId} {below : List Frame} {meth : Method} {c : Code} (l : Launch) {b L : Nat} {xs : Nat → Int32} {G : Gx} {a a' : Nat → Nat} {i : Nat} (hL : L ≤ 2048) (hi : i + 4 ≤ L) (C0 : lw_At p s m meth c b L xs) (hE : Amb G s) (hG : G.2.1 = s.heap.size) (kk : lwI p l e s m b below meth c G a a' i 1220) : lwI p l e s m b below meth c G a a' i 978 := by
  intro S v h H locs hP hD hS ls hl
  obtain ⟨hx, hb, hr, hml, hown, hts, hX, hbl, hlocks, hgv⟩ := C0
  have htsL : ∀ w ∈ wsL_law, w.before #[Value.ref b] s = true := fun w hw => hts w (wsL_law_in w hw)
  have hbA : ¬ lwA s b := Nat.not_le.mpr hbl
  have hAB : ∀ q, lwA s q → gB G q := fun q hq => (show G.2.1 ≤ q by rw [hG]; exact hq)
  have hCF : CallFix p m c code 4 s #[Value.ref b] wsL_law RL := ⟨hx, hb, hml, hown, htsL⟩
  obtain ⟨r, S', v', e7, e8, h'⟩ := p_chance h (xs (nI i + 1).toNatClampNeg) (xs (nI i + 2).toNatClampNeg) (xs (nI i + 3).toNatClampNeg)
  refine lv_aload_n hx hb dL_law_978 rfl (lv_at hl 1 rfl) ?_
  refine lv_aload_n hx hb dL_law_979 rfl (lv_at hl 0 rfl) ?_
  refine lv_iload_n hx hb dL_law_980 rfl (lv_at hl 3 rfl) ?_
  refine lv_iconst (v := (1 : Int32)) hx hb dL_law_981 (by decide) ?_
  refine lv_iadd hx hb dL_law_982 ?_
  refine va_sld hx hb hX hbl hbA hS (lw_in 1 hL hi (by decide)) dL_law_983 ?_
  refine lv_aload_n hx hb dL_law_984 rfl (lv_at hl 0 rfl) ?_
  refine lv_iload_n hx hb dL_law_985 rfl (lv_at hl 3 rfl) ?_
  refine lv_iconst (v := (2 : Int32)) hx hb dL_law_986 (by decide) ?_
  refine lv_iadd hx hb dL_law_987 ?_
  refine va_sld hx hb hX hbl hbA hS (lw_in 2 hL hi (by decide)) dL_law_988 ?_
  refine lv_aload_n hx hb dL_law_989 rfl (lv_at hl 0 rfl) ?_
  refine lv_iload_n hx hb dL_law_990 rfl (lv_at hl 3 rfl) ?_
  refine lv_iconst (v := (3 : Int32)) hx hb dL_law_991 (by decide) ?_
  refine lv_iadd hx hb dL_law_992 ?_
  refine va_sld hx hb hX hbl hbA hS (lw_in 3 hL hi (by decide)) dL_law_993 ?_
  refine lw_c7 (r := .long r) (As := [.int (xs (nI i + 1).toNatClampNeg), .int (xs (nI i + 2).toNatClampNeg), .int (xs (nI i + 3).toNatClampNeg)]) (rest := []) hCF (k_X7_chance a S _ _ _ e7) (cwV 3 htsL gL_law_X7_chance rfl rfl rfl ⟨rfl, dk_X7_chance⟩ ⟨Nat.le_of_ble_eq_true rfl, Nat.le_of_ble_eq_true rfl⟩) hE hAB hP hD hS rfl hl.1 rfl (Nat.le_of_ble_eq_true rfl) dL_law_994 (fun H locs hP hD hS => ?_)
  refine lv_aload_n hx hb dL_law_997 rfl (lv_at hl 2 rfl) ?_
  refine lv_aload_n hx hb dL_law_998 rfl (lv_at hl 0 rfl) ?_
  refine lv_iload_n hx hb dL_law_999 rfl (lv_at hl 3 rfl) ?_
  refine lv_iconst (v := (1 : Int32)) hx hb dL_law_1000 (by decide) ?_
  refine lv_iadd hx hb dL_law_1001 ?_
  refine va_sld hx hb hX hbl hbA hS (lw_in 1 hL hi (by decide)) dL_law_1002 ?_
  refine lv_aload_n hx hb dL_law_1003 rfl (lv_at hl 0 rfl) ?_
  refine lv_iload_n hx hb dL_law_1004 rfl (lv_at hl 3 rfl) ?_
  refine lv_iconst (v := (2 : Int32)) hx hb dL_law_1005 (by decide) ?_
  refine lv_iadd hx hb dL_law_1006 ?_
  refine va_sld hx hb hX hbl hbA hS (lw_in 2 hL hi (by decide)) dL_law_1007 ?_
  refine lv_aload_n hx hb dL_law_1008 rfl (lv_at hl 0 rfl) ?_
  refine lv_iload_n hx hb dL_law_1009 rfl (lv_at hl 3 rfl) ?_
  refine lv_iconst (v := (3 : Int32)) hx hb dL_law_1010 (by decide) ?_
  refine lv_iadd hx hb dL_law_1011 ?_
  refine va_sld hx hb hX hbl hbA hS (lw_in 3 hL hi (by decide)) dL_law_1012 ?_
  refine lw_c8 (r := .long r) (As := [.int (xs (nI i + 1).toNatClampNeg), .int (xs (nI i + 2).toNatClampNeg), .int (xs (nI i + 3).toNatClampNeg)]) (rest := [.long r]) hCF (k_X8_chance a' v _ _ _ e8) (cwV 3 htsL gL_law_X8_chance rfl rfl rfl ⟨rfl, dk_X8_chance⟩ ⟨Nat.le_of_ble_eq_true rfl, Nat.le_of_ble_eq_true rfl⟩) hE hAB hP hD hS rfl hl.1 rfl (Nat.le_of_ble_eq_true rfl) dL_law_1013 (fun H locs hP hD hS => ?_)
  refine W.lcmp hx hb dL_law_1016 ?_
  refine lv_if_eq (tgt := 1220) hx hb dL_law_1017 (by decide) (fun _ => ?_) (fun q => absurd (lg_self r) q)
  exact kk S' v' h' H locs hP hD hS ls hl
set_option maxHeartbeats 1000000 in
theorem lw_mean {p : Program} {e : Env} {s : State} {m : MethodId} {below : List Frame} {meth : Method} {c : Code} (l : Launch) {b L : Nat} {xs : Nat → Int32} {G : Gx} {a a' : Nat → Nat} {i : Nat} (hL : L ≤ 2048) (hi : i + 4 ≤ L) (C0 : lw_At p s m meth c b L xs) (hE : Amb G s) (hG : G.2.1 = s.heap.size) (kk : lwI p l e s m b below meth c G a a' i 1220) : lwI p l e s m b below meth c G a a' i 1022 := by
  intro S v h H locs hP hD hS ls hl
  obtain ⟨hx, hb, hr, hml, hown, hts, hX, hbl, hlocks, hgv⟩ := C0
  have htsL : ∀ w ∈ wsL_law, w.before #[Value.ref b] s = true := fun w hw => hts w (wsL_law_in w hw)
  have hbA : ¬ lwA s b := Nat.not_le.mpr hbl
  have hAB : ∀ q, lwA s q → gB G q := fun q hq => (show G.2.1 ≤ q by rw [hG]; exact hq)
  have hCF : CallFix p m c code 4 s #[Value.ref b] wsL_law RL := ⟨hx, hb, hml, hown, htsL⟩
  obtain ⟨r, S', v', e7, e8, h'⟩ := p_mean h (xs (nI i + 1).toNatClampNeg)
  refine lv_aload_n hx hb dL_law_1022 rfl (lv_at hl 1 rfl) ?_
  refine lv_aload_n hx hb dL_law_1023 rfl (lv_at hl 0 rfl) ?_
  refine lv_iload_n hx hb dL_law_1024 rfl (lv_at hl 3 rfl) ?_
  refine lv_iconst (v := (1 : Int32)) hx hb dL_law_1025 (by decide) ?_
  refine lv_iadd hx hb dL_law_1026 ?_
  refine va_sld hx hb hX hbl hbA hS (lw_in 1 hL hi (by decide)) dL_law_1027 ?_
  refine lw_c7 (r := .long r) (As := [.int (xs (nI i + 1).toNatClampNeg)]) (rest := []) hCF (k_X7_mean a S _ e7) (cwV 1 htsL gL_law_X7_mean rfl rfl rfl ⟨rfl, dk_X7_mean⟩ ⟨Nat.le_of_ble_eq_true rfl, Nat.le_of_ble_eq_true rfl⟩) hE hAB hP hD hS rfl hl.1 rfl (Nat.le_of_ble_eq_true rfl) dL_law_1028 (fun H locs hP hD hS => ?_)
  refine lv_aload_n hx hb dL_law_1031 rfl (lv_at hl 2 rfl) ?_
  refine lv_aload_n hx hb dL_law_1032 rfl (lv_at hl 0 rfl) ?_
  refine lv_iload_n hx hb dL_law_1033 rfl (lv_at hl 3 rfl) ?_
  refine lv_iconst (v := (1 : Int32)) hx hb dL_law_1034 (by decide) ?_
  refine lv_iadd hx hb dL_law_1035 ?_
  refine va_sld hx hb hX hbl hbA hS (lw_in 1 hL hi (by decide)) dL_law_1036 ?_
  refine lw_c8 (r := .long r) (As := [.int (xs (nI i + 1).toNatClampNeg)]) (rest := [.long r]) hCF (k_X8_mean a' v _ e8) (cwV 1 htsL gL_law_X8_mean rfl rfl rfl ⟨rfl, dk_X8_mean⟩ ⟨Nat.le_of_ble_eq_true rfl, Nat.le_of_ble_eq_true rfl⟩) hE hAB hP hD hS rfl hl.1 rfl (Nat.le_of_ble_eq_true rfl) dL_law_1037 (fun H locs hP hD hS => ?_)
  refine W.lcmp hx hb dL_law_1040 ?_
  refine lv_if_eq (tgt := 1220) hx hb dL_law_1041 (by decide) (fun _ => ?_) (fun q => absurd (lg_self r) q)
  exact kk S' v' h' H locs hP hD hS ls hl
set_option maxHeartbeats 1000000 in
theorem lw_whatIs {p : Program} {e : Env} {s : State} {m : MethodId} {below : List Frame} {meth : Method} {c : Code} (l : Launch) {b L : Nat} {xs : Nat → Int32} {G : Gx} {a a' : Nat → Nat} {i : Nat} (hL : L ≤ 2048) (hi : i + 4 ≤ L) (C0 : lw_At p s m meth c b L xs) (hE : Amb G s) (hG : G.2.1 = s.heap.size) (kk : lwI p l e s m b below meth c G a a' i 1220) : lwI p l e s m b below meth c G a a' i 1046 := by
  intro S v h H locs hP hD hS ls hl
  obtain ⟨hx, hb, hr, hml, hown, hts, hX, hbl, hlocks, hgv⟩ := C0
  have htsL : ∀ w ∈ wsL_law, w.before #[Value.ref b] s = true := fun w hw => hts w (wsL_law_in w hw)
  have hbA : ¬ lwA s b := Nat.not_le.mpr hbl
  have hAB : ∀ q, lwA s q → gB G q := fun q hq => (show G.2.1 ≤ q by rw [hG]; exact hq)
  have hCF : CallFix p m c code 4 s #[Value.ref b] wsL_law RL := ⟨hx, hb, hml, hown, htsL⟩
  obtain ⟨r, S', v', e7, e8, h'⟩ := p_whatIs h (xs (nI i + 1).toNatClampNeg) (xs (nI i + 2).toNatClampNeg)
  refine lv_aload_n hx hb dL_law_1046 rfl (lv_at hl 1 rfl) ?_
  refine lv_aload_n hx hb dL_law_1047 rfl (lv_at hl 0 rfl) ?_
  refine lv_iload_n hx hb dL_law_1048 rfl (lv_at hl 3 rfl) ?_
  refine lv_iconst (v := (1 : Int32)) hx hb dL_law_1049 (by decide) ?_
  refine lv_iadd hx hb dL_law_1050 ?_
  refine va_sld hx hb hX hbl hbA hS (lw_in 1 hL hi (by decide)) dL_law_1051 ?_
  refine lv_aload_n hx hb dL_law_1052 rfl (lv_at hl 0 rfl) ?_
  refine lv_iload_n hx hb dL_law_1053 rfl (lv_at hl 3 rfl) ?_
  refine lv_iconst (v := (2 : Int32)) hx hb dL_law_1054 (by decide) ?_
  refine lv_iadd hx hb dL_law_1055 ?_
  refine va_sld hx hb hX hbl hbA hS (lw_in 2 hL hi (by decide)) dL_law_1056 ?_
  refine lw_c7 (r := .int r) (As := [.int (xs (nI i + 1).toNatClampNeg), .int (xs (nI i + 2).toNatClampNeg)]) (rest := []) hCF (k_X7_whatIs a S _ _ e7) (cwV 2 htsL gL_law_X7_whatIs rfl rfl rfl ⟨rfl, dk_X7_whatIs⟩ ⟨Nat.le_of_ble_eq_true rfl, Nat.le_of_ble_eq_true rfl⟩) hE hAB hP hD hS rfl hl.1 rfl (Nat.le_of_ble_eq_true rfl) dL_law_1057 (fun H locs hP hD hS => ?_)
  refine lv_aload_n hx hb dL_law_1060 rfl (lv_at hl 2 rfl) ?_
  refine lv_aload_n hx hb dL_law_1061 rfl (lv_at hl 0 rfl) ?_
  refine lv_iload_n hx hb dL_law_1062 rfl (lv_at hl 3 rfl) ?_
  refine lv_iconst (v := (1 : Int32)) hx hb dL_law_1063 (by decide) ?_
  refine lv_iadd hx hb dL_law_1064 ?_
  refine va_sld hx hb hX hbl hbA hS (lw_in 1 hL hi (by decide)) dL_law_1065 ?_
  refine lv_aload_n hx hb dL_law_1066 rfl (lv_at hl 0 rfl) ?_
  refine lv_iload_n hx hb dL_law_1067 rfl (lv_at hl 3 rfl) ?_
  refine lv_iconst (v := (2 : Int32)) hx hb dL_law_1068 (by decide) ?_
  refine lv_iadd hx hb dL_law_1069 ?_
  refine va_sld hx hb hX hbl hbA hS (lw_in 2 hL hi (by decide)) dL_law_1070 ?_
  refine lw_c8 (r := .int r) (As := [.int (xs (nI i + 1).toNatClampNeg), .int (xs (nI i + 2).toNatClampNeg)]) (rest := [.int r]) hCF (k_X8_whatIs a' v _ _ e8) (cwV 2 htsL gL_law_X8_whatIs rfl rfl rfl ⟨rfl, dk_X8_whatIs⟩ ⟨Nat.le_of_ble_eq_true rfl, Nat.le_of_ble_eq_true rfl⟩) hE hAB hP hD hS rfl hl.1 rfl (Nat.le_of_ble_eq_true rfl) dL_law_1071 (fun H locs hP hD hS => ?_)
  refine lv_icmp_eq (tgt := 1220) hx hb dL_law_1074 (by decide) (fun _ => ?_) (fun q => absurd rfl q)
  exact kk S' v' h' H locs hP hD hS ls hl
set_option maxHeartbeats 1000000 in
theorem lw_row {p : Program} {e : Env} {s : State} {m : MethodId} {below : List Frame} {meth : Method} {c : Code} (l : Launch) {b L : Nat} {xs : Nat → Int32} {G : Gx} {a a' : Nat → Nat} {i : Nat} (hL : L ≤ 2048) (hi : i + 4 ≤ L) (C0 : lw_At p s m meth c b L xs) (hE : Amb G s) (hG : G.2.1 = s.heap.size) (kk : lwI p l e s m b below meth c G a a' i 1220) : lwI p l e s m b below meth c G a a' i 1079 := by
  intro S v h H locs hP hD hS ls hl
  obtain ⟨hx, hb, hr, hml, hown, hts, hX, hbl, hlocks, hgv⟩ := C0
  have htsL : ∀ w ∈ wsL_law, w.before #[Value.ref b] s = true := fun w hw => hts w (wsL_law_in w hw)
  have hbA : ¬ lwA s b := Nat.not_le.mpr hbl
  have hAB : ∀ q, lwA s q → gB G q := fun q hq => (show G.2.1 ≤ q by rw [hG]; exact hq)
  have hCF : CallFix p m c code 4 s #[Value.ref b] wsL_law RL := ⟨hx, hb, hml, hown, htsL⟩
  obtain ⟨r, S', v', e7, e8, h'⟩ := p_row h (xs (nI i + 1).toNatClampNeg)
  refine lv_aload_n hx hb dL_law_1079 rfl (lv_at hl 1 rfl) ?_
  refine lv_aload_n hx hb dL_law_1080 rfl (lv_at hl 0 rfl) ?_
  refine lv_iload_n hx hb dL_law_1081 rfl (lv_at hl 3 rfl) ?_
  refine lv_iconst (v := (1 : Int32)) hx hb dL_law_1082 (by decide) ?_
  refine lv_iadd hx hb dL_law_1083 ?_
  refine va_sld hx hb hX hbl hbA hS (lw_in 1 hL hi (by decide)) dL_law_1084 ?_
  refine lw_c7 (r := .int r) (As := [.int (xs (nI i + 1).toNatClampNeg)]) (rest := []) hCF (k_X7_row a S _ e7) (cwV 1 htsL gL_law_X7_row rfl rfl rfl ⟨rfl, dk_X7_row⟩ ⟨Nat.le_of_ble_eq_true rfl, Nat.le_of_ble_eq_true rfl⟩) hE hAB hP hD hS rfl hl.1 rfl (Nat.le_of_ble_eq_true rfl) dL_law_1085 (fun H locs hP hD hS => ?_)
  refine lv_aload_n hx hb dL_law_1088 rfl (lv_at hl 2 rfl) ?_
  refine lv_aload_n hx hb dL_law_1089 rfl (lv_at hl 0 rfl) ?_
  refine lv_iload_n hx hb dL_law_1090 rfl (lv_at hl 3 rfl) ?_
  refine lv_iconst (v := (1 : Int32)) hx hb dL_law_1091 (by decide) ?_
  refine lv_iadd hx hb dL_law_1092 ?_
  refine va_sld hx hb hX hbl hbA hS (lw_in 1 hL hi (by decide)) dL_law_1093 ?_
  refine lw_c8 (r := .int r) (As := [.int (xs (nI i + 1).toNatClampNeg)]) (rest := [.int r]) hCF (k_X8_row a' v _ e8) (cwV 1 htsL gL_law_X8_row rfl rfl rfl ⟨rfl, dk_X8_row⟩ ⟨Nat.le_of_ble_eq_true rfl, Nat.le_of_ble_eq_true rfl⟩) hE hAB hP hD hS rfl hl.1 rfl (Nat.le_of_ble_eq_true rfl) dL_law_1094 (fun H locs hP hD hS => ?_)
  refine lv_icmp_eq (tgt := 1220) hx hb dL_law_1097 (by decide) (fun _ => ?_) (fun q => absurd rfl q)
  exact kk S' v' h' H locs hP hD hS ls hl
set_option maxHeartbeats 1000000 in
theorem lw_judge {p : Program} {e : Env} {s : State} {m : MethodId} {below : List Frame} {meth : Method} {c : Code} (l : Launch) {b L : Nat} {xs : Nat → Int32} {G : Gx} {a a' : Nat → Nat} {i : Nat} (hL : L ≤ 2048) (hi : i + 4 ≤ L) (C0 : lw_At p s m meth c b L xs) (hE : Amb G s) (hG : G.2.1 = s.heap.size) (kk : lwI p l e s m b below meth c G a a' i 1220) : lwI p l e s m b below meth c G a a' i 1102 := by
  intro S v h H locs hP hD hS ls hl
  obtain ⟨hx, hb, hr, hml, hown, hts, hX, hbl, hlocks, hgv⟩ := C0
  have htsL : ∀ w ∈ wsL_law, w.before #[Value.ref b] s = true := fun w hw => hts w (wsL_law_in w hw)
  have hbA : ¬ lwA s b := Nat.not_le.mpr hbl
  have hAB : ∀ q, lwA s q → gB G q := fun q hq => (show G.2.1 ≤ q by rw [hG]; exact hq)
  have hCF : CallFix p m c code 4 s #[Value.ref b] wsL_law RL := ⟨hx, hb, hml, hown, htsL⟩
  obtain ⟨r, S', v', e7, e8, h'⟩ := p_judge h
  refine lv_aload_n hx hb dL_law_1102 rfl (lv_at hl 1 rfl) ?_
  refine lw_c7 (r := .int r) (As := []) (rest := []) hCF (k_X7_judge a S e7) (cwV 0 htsL gL_law_X7_judge rfl rfl rfl ⟨rfl, dk_X7_judge⟩ ⟨Nat.le_of_ble_eq_true rfl, Nat.le_of_ble_eq_true rfl⟩) hE hAB hP hD hS rfl hl.1 rfl (Nat.le_of_ble_eq_true rfl) dL_law_1103 (fun H locs hP hD hS => ?_)
  refine lv_aload_n hx hb dL_law_1106 rfl (lv_at hl 2 rfl) ?_
  refine lw_c8 (r := .int r) (As := []) (rest := [.int r]) hCF (k_X8_judge a' v e8) (cwV 0 htsL gL_law_X8_judge rfl rfl rfl ⟨rfl, dk_X8_judge⟩ ⟨Nat.le_of_ble_eq_true rfl, Nat.le_of_ble_eq_true rfl⟩) hE hAB hP hD hS rfl hl.1 rfl (Nat.le_of_ble_eq_true rfl) dL_law_1107 (fun H locs hP hD hS => ?_)
  refine lv_icmp_eq (tgt := 1220) hx hb dL_law_1110 (by decide) (fun _ => ?_) (fun q => absurd rfl q)
  exact kk S' v' h' H locs hP hD hS ls hl
set_option maxHeartbeats 1000000 in
theorem lw_clear {p : Program} {e : Env} {s : State} {m : MethodId} {below : List Frame} {meth : Method} {c : Code} (l : Launch) {b L : Nat} {xs : Nat → Int32} {G : Gx} {a a' : Nat → Nat} {i : Nat} (hL : L ≤ 2048) (hi : i + 4 ≤ L) (C0 : lw_At p s m meth c b L xs) (hE : Amb G s) (hG : G.2.1 = s.heap.size) (kk : lwI p l e s m b below meth c G a a' i 1220) : lwI p l e s m b below meth c G a a' i 1115 := by
  intro S v h H locs hP hD hS ls hl
  obtain ⟨hx, hb, hr, hml, hown, hts, hX, hbl, hlocks, hgv⟩ := C0
  have htsL : ∀ w ∈ wsL_law, w.before #[Value.ref b] s = true := fun w hw => hts w (wsL_law_in w hw)
  have hbA : ¬ lwA s b := Nat.not_le.mpr hbl
  have hAB : ∀ q, lwA s q → gB G q := fun q hq => (show G.2.1 ≤ q by rw [hG]; exact hq)
  have hCF : CallFix p m c code 4 s #[Value.ref b] wsL_law RL := ⟨hx, hb, hml, hown, htsL⟩
  obtain ⟨r, S', v', e7, e8, h'⟩ := p_clear h
  refine lv_aload_n hx hb dL_law_1115 rfl (lv_at hl 1 rfl) ?_
  refine lw_c7 (r := .int r) (As := []) (rest := []) hCF (k_X7_clear a S e7) (cwV 0 htsL gL_law_X7_clear rfl rfl rfl ⟨rfl, dk_X7_clear⟩ ⟨Nat.le_of_ble_eq_true rfl, Nat.le_of_ble_eq_true rfl⟩) hE hAB hP hD hS rfl hl.1 rfl (Nat.le_of_ble_eq_true rfl) dL_law_1116 (fun H locs hP hD hS => ?_)
  refine lv_aload_n hx hb dL_law_1119 rfl (lv_at hl 2 rfl) ?_
  refine lw_c8 (r := .int r) (As := []) (rest := [.int r]) hCF (k_X8_clear a' v e8) (cwV 0 htsL gL_law_X8_clear rfl rfl rfl ⟨rfl, dk_X8_clear⟩ ⟨Nat.le_of_ble_eq_true rfl, Nat.le_of_ble_eq_true rfl⟩) hE hAB hP hD hS rfl hl.1 rfl (Nat.le_of_ble_eq_true rfl) dL_law_1120 (fun H locs hP hD hS => ?_)
  refine lv_icmp_eq (tgt := 1220) hx hb dL_law_1123 (by decide) (fun _ => ?_) (fun q => absurd rfl q)
  exact kk S' v' h' H locs hP hD hS ls hl
set_option maxHeartbeats 1000000 in
theorem lw_lots {p : Program} {e : Env} {s : State} {m : MethodId} {below : List Frame} {meth : Method} {c : Code} (l : Launch) {b L : Nat} {xs : Nat → Int32} {G : Gx} {a a' : Nat → Nat} {i : Nat} (hL : L ≤ 2048) (hi : i + 4 ≤ L) (C0 : lw_At p s m meth c b L xs) (hE : Amb G s) (hG : G.2.1 = s.heap.size) (kk : lwI p l e s m b below meth c G a a' i 1220) : lwI p l e s m b below meth c G a a' i 1128 := by
  intro S v h H locs hP hD hS ls hl
  obtain ⟨hx, hb, hr, hml, hown, hts, hX, hbl, hlocks, hgv⟩ := C0
  have htsL : ∀ w ∈ wsL_law, w.before #[Value.ref b] s = true := fun w hw => hts w (wsL_law_in w hw)
  have hbA : ¬ lwA s b := Nat.not_le.mpr hbl
  have hAB : ∀ q, lwA s q → gB G q := fun q hq => (show G.2.1 ≤ q by rw [hG]; exact hq)
  have hCF : CallFix p m c code 4 s #[Value.ref b] wsL_law RL := ⟨hx, hb, hml, hown, htsL⟩
  obtain ⟨r, S', v', e7, e8, h'⟩ := p_lots h (xs (nI i + 1).toNatClampNeg) (xs (nI i + 2).toNatClampNeg) (xs (nI i + 3).toNatClampNeg)
  refine lv_aload_n hx hb dL_law_1128 rfl (lv_at hl 1 rfl) ?_
  refine lv_aload_n hx hb dL_law_1129 rfl (lv_at hl 0 rfl) ?_
  refine lv_iload_n hx hb dL_law_1130 rfl (lv_at hl 3 rfl) ?_
  refine lv_iconst (v := (1 : Int32)) hx hb dL_law_1131 (by decide) ?_
  refine lv_iadd hx hb dL_law_1132 ?_
  refine va_sld hx hb hX hbl hbA hS (lw_in 1 hL hi (by decide)) dL_law_1133 ?_
  refine lv_aload_n hx hb dL_law_1134 rfl (lv_at hl 0 rfl) ?_
  refine lv_iload_n hx hb dL_law_1135 rfl (lv_at hl 3 rfl) ?_
  refine lv_iconst (v := (2 : Int32)) hx hb dL_law_1136 (by decide) ?_
  refine lv_iadd hx hb dL_law_1137 ?_
  refine va_sld hx hb hX hbl hbA hS (lw_in 2 hL hi (by decide)) dL_law_1138 ?_
  refine lv_aload_n hx hb dL_law_1139 rfl (lv_at hl 0 rfl) ?_
  refine lv_iload_n hx hb dL_law_1140 rfl (lv_at hl 3 rfl) ?_
  refine lv_iconst (v := (3 : Int32)) hx hb dL_law_1141 (by decide) ?_
  refine lv_iadd hx hb dL_law_1142 ?_
  refine va_sld hx hb hX hbl hbA hS (lw_in 3 hL hi (by decide)) dL_law_1143 ?_
  refine lw_c7 (r := .int r) (As := [.int (xs (nI i + 1).toNatClampNeg), .int (xs (nI i + 2).toNatClampNeg), .int (xs (nI i + 3).toNatClampNeg)]) (rest := []) hCF (k_X7_lots a S _ _ _ e7) (cwV 3 htsL gL_law_X7_lots rfl rfl rfl ⟨rfl, dk_X7_lots⟩ ⟨Nat.le_of_ble_eq_true rfl, Nat.le_of_ble_eq_true rfl⟩) hE hAB hP hD hS rfl hl.1 rfl (Nat.le_of_ble_eq_true rfl) dL_law_1144 (fun H locs hP hD hS => ?_)
  refine lv_aload_n hx hb dL_law_1147 rfl (lv_at hl 2 rfl) ?_
  refine lv_aload_n hx hb dL_law_1148 rfl (lv_at hl 0 rfl) ?_
  refine lv_iload_n hx hb dL_law_1149 rfl (lv_at hl 3 rfl) ?_
  refine lv_iconst (v := (1 : Int32)) hx hb dL_law_1150 (by decide) ?_
  refine lv_iadd hx hb dL_law_1151 ?_
  refine va_sld hx hb hX hbl hbA hS (lw_in 1 hL hi (by decide)) dL_law_1152 ?_
  refine lv_aload_n hx hb dL_law_1153 rfl (lv_at hl 0 rfl) ?_
  refine lv_iload_n hx hb dL_law_1154 rfl (lv_at hl 3 rfl) ?_
  refine lv_iconst (v := (2 : Int32)) hx hb dL_law_1155 (by decide) ?_
  refine lv_iadd hx hb dL_law_1156 ?_
  refine va_sld hx hb hX hbl hbA hS (lw_in 2 hL hi (by decide)) dL_law_1157 ?_
  refine lv_aload_n hx hb dL_law_1158 rfl (lv_at hl 0 rfl) ?_
  refine lv_iload_n hx hb dL_law_1159 rfl (lv_at hl 3 rfl) ?_
  refine lv_iconst (v := (3 : Int32)) hx hb dL_law_1160 (by decide) ?_
  refine lv_iadd hx hb dL_law_1161 ?_
  refine va_sld hx hb hX hbl hbA hS (lw_in 3 hL hi (by decide)) dL_law_1162 ?_
  refine lw_c8 (r := .int r) (As := [.int (xs (nI i + 1).toNatClampNeg), .int (xs (nI i + 2).toNatClampNeg), .int (xs (nI i + 3).toNatClampNeg)]) (rest := [.int r]) hCF (k_X8_lots a' v _ _ _ e8) (cwV 3 htsL gL_law_X8_lots rfl rfl rfl ⟨rfl, dk_X8_lots⟩ ⟨Nat.le_of_ble_eq_true rfl, Nat.le_of_ble_eq_true rfl⟩) hE hAB hP hD hS rfl hl.1 rfl (Nat.le_of_ble_eq_true rfl) dL_law_1163 (fun H locs hP hD hS => ?_)
  refine lv_icmp_eq (tgt := 1220) hx hb dL_law_1166 (by decide) (fun _ => ?_) (fun q => absurd rfl q)
  exact kk S' v' h' H locs hP hD hS ls hl
set_option maxHeartbeats 1000000 in
theorem lw_image {p : Program} {e : Env} {s : State} {m : MethodId} {below : List Frame} {meth : Method} {c : Code} (l : Launch) {b L : Nat} {xs : Nat → Int32} {G : Gx} {a a' : Nat → Nat} {i : Nat} (hL : L ≤ 2048) (hi : i + 4 ≤ L) (C0 : lw_At p s m meth c b L xs) (hE : Amb G s) (hG : G.2.1 = s.heap.size) (kk : lwI p l e s m b below meth c G a a' i 1220) : lwI p l e s m b below meth c G a a' i 1171 := by
  intro S v h H locs hP hD hS ls hl
  obtain ⟨hx, hb, hr, hml, hown, hts, hX, hbl, hlocks, hgv⟩ := C0
  have htsL : ∀ w ∈ wsL_law, w.before #[Value.ref b] s = true := fun w hw => hts w (wsL_law_in w hw)
  have hbA : ¬ lwA s b := Nat.not_le.mpr hbl
  have hAB : ∀ q, lwA s q → gB G q := fun q hq => (show G.2.1 ≤ q by rw [hG]; exact hq)
  have hCF : CallFix p m c code 4 s #[Value.ref b] wsL_law RL := ⟨hx, hb, hml, hown, htsL⟩
  obtain ⟨r, S', v', e7, e8, h'⟩ := p_image h
  refine lv_aload_n hx hb dL_law_1171 rfl (lv_at hl 1 rfl) ?_
  refine lw_c7 (r := .int r) (As := []) (rest := []) hCF (k_X7_image a S e7) (cwV 0 htsL gL_law_X7_image rfl rfl rfl ⟨rfl, dk_X7_image⟩ ⟨Nat.le_of_ble_eq_true rfl, Nat.le_of_ble_eq_true rfl⟩) hE hAB hP hD hS rfl hl.1 rfl (Nat.le_of_ble_eq_true rfl) dL_law_1172 (fun H locs hP hD hS => ?_)
  refine lv_aload_n hx hb dL_law_1175 rfl (lv_at hl 2 rfl) ?_
  refine lw_c8 (r := .int r) (As := []) (rest := [.int r]) hCF (k_X8_image a' v e8) (cwV 0 htsL gL_law_X8_image rfl rfl rfl ⟨rfl, dk_X8_image⟩ ⟨Nat.le_of_ble_eq_true rfl, Nat.le_of_ble_eq_true rfl⟩) hE hAB hP hD hS rfl hl.1 rfl (Nat.le_of_ble_eq_true rfl) dL_law_1176 (fun H locs hP hD hS => ?_)
  refine lv_icmp_eq (tgt := 1220) hx hb dL_law_1179 (by decide) (fun _ => ?_) (fun q => absurd rfl q)
  exact kk S' v' h' H locs hP hD hS ls hl
set_option maxHeartbeats 1000000 in
theorem lw_on {p : Program} {e : Env} {s : State} {m : MethodId} {below : List Frame} {meth : Method} {c : Code} (l : Launch) {b L : Nat} {xs : Nat → Int32} {G : Gx} {a a' : Nat → Nat} {i : Nat} (hL : L ≤ 2048) (hi : i + 4 ≤ L) (C0 : lw_At p s m meth c b L xs) (hE : Amb G s) (hG : G.2.1 = s.heap.size) (kk : lwI p l e s m b below meth c G a a' i 1220) : lwI p l e s m b below meth c G a a' i 1184 := by
  intro S v h H locs hP hD hS ls hl
  obtain ⟨hx, hb, hr, hml, hown, hts, hX, hbl, hlocks, hgv⟩ := C0
  have htsL : ∀ w ∈ wsL_law, w.before #[Value.ref b] s = true := fun w hw => hts w (wsL_law_in w hw)
  have hbA : ¬ lwA s b := Nat.not_le.mpr hbl
  have hAB : ∀ q, lwA s q → gB G q := fun q hq => (show G.2.1 ≤ q by rw [hG]; exact hq)
  have hCF : CallFix p m c code 4 s #[Value.ref b] wsL_law RL := ⟨hx, hb, hml, hown, htsL⟩
  obtain ⟨r, S', v', e7, e8, h'⟩ := p_on h
  refine lv_aload_n hx hb dL_law_1184 rfl (lv_at hl 1 rfl) ?_
  refine lw_c7 (r := .int r) (As := []) (rest := []) hCF (k_X7_on a S e7) (cwV 0 htsL gL_law_X7_on rfl rfl rfl ⟨rfl, dk_X7_on⟩ ⟨Nat.le_of_ble_eq_true rfl, Nat.le_of_ble_eq_true rfl⟩) hE hAB hP hD hS rfl hl.1 rfl (Nat.le_of_ble_eq_true rfl) dL_law_1185 (fun H locs hP hD hS => ?_)
  refine lv_aload_n hx hb dL_law_1188 rfl (lv_at hl 2 rfl) ?_
  refine lw_c8 (r := .int r) (As := []) (rest := [.int r]) hCF (k_X8_on a' v e8) (cwV 0 htsL gL_law_X8_on rfl rfl rfl ⟨rfl, dk_X8_on⟩ ⟨Nat.le_of_ble_eq_true rfl, Nat.le_of_ble_eq_true rfl⟩) hE hAB hP hD hS rfl hl.1 rfl (Nat.le_of_ble_eq_true rfl) dL_law_1189 (fun H locs hP hD hS => ?_)
  refine lv_icmp_eq (tgt := 1220) hx hb dL_law_1192 (by decide) (fun _ => ?_) (fun q => absurd rfl q)
  exact kk S' v' h' H locs hP hD hS ls hl
set_option maxHeartbeats 1000000 in
theorem lw_count {p : Program} {e : Env} {s : State} {m : MethodId} {below : List Frame} {meth : Method} {c : Code} (l : Launch) {b L : Nat} {xs : Nat → Int32} {G : Gx} {a a' : Nat → Nat} {i : Nat} (hL : L ≤ 2048) (hi : i + 4 ≤ L) (C0 : lw_At p s m meth c b L xs) (hE : Amb G s) (hG : G.2.1 = s.heap.size) (kk : lwI p l e s m b below meth c G a a' i 1220) : lwI p l e s m b below meth c G a a' i 1197 := by
  intro S v h H locs hP hD hS ls hl
  obtain ⟨hx, hb, hr, hml, hown, hts, hX, hbl, hlocks, hgv⟩ := C0
  have htsL : ∀ w ∈ wsL_law, w.before #[Value.ref b] s = true := fun w hw => hts w (wsL_law_in w hw)
  have hbA : ¬ lwA s b := Nat.not_le.mpr hbl
  have hAB : ∀ q, lwA s q → gB G q := fun q hq => (show G.2.1 ≤ q by rw [hG]; exact hq)
  have hCF : CallFix p m c code 4 s #[Value.ref b] wsL_law RL := ⟨hx, hb, hml, hown, htsL⟩
  obtain ⟨r, e7, e8⟩ := p_count h (xs (nI i + 1).toNatClampNeg)
  refine lv_aload_n hx hb dL_law_1197 rfl (lv_at hl 1 rfl) ?_
  refine lv_aload_n hx hb dL_law_1198 rfl (lv_at hl 0 rfl) ?_
  refine lv_iload_n hx hb dL_law_1199 rfl (lv_at hl 3 rfl) ?_
  refine lv_iconst (v := (1 : Int32)) hx hb dL_law_1200 (by decide) ?_
  refine lv_iadd hx hb dL_law_1201 ?_
  refine va_sld hx hb hX hbl hbA hS (lw_in 1 hL hi (by decide)) dL_law_1202 ?_
  refine lw_c7 (r := .int r) (As := [.int (xs (nI i + 1).toNatClampNeg)]) (rest := []) hCF (k_X7_count a S _ e7) (cwV 1 htsL gL_law_X7_count rfl rfl rfl ⟨rfl, dk_X7_count⟩ ⟨Nat.le_of_ble_eq_true rfl, Nat.le_of_ble_eq_true rfl⟩) hE hAB hP hD hS rfl hl.1 rfl (Nat.le_of_ble_eq_true rfl) dL_law_1203 (fun H locs hP hD hS => ?_)
  refine lv_aload_n hx hb dL_law_1206 rfl (lv_at hl 2 rfl) ?_
  refine lv_aload_n hx hb dL_law_1207 rfl (lv_at hl 0 rfl) ?_
  refine lv_iload_n hx hb dL_law_1208 rfl (lv_at hl 3 rfl) ?_
  refine lv_iconst (v := (1 : Int32)) hx hb dL_law_1209 (by decide) ?_
  refine lv_iadd hx hb dL_law_1210 ?_
  refine va_sld hx hb hX hbl hbA hS (lw_in 1 hL hi (by decide)) dL_law_1211 ?_
  refine lw_c8 (r := .int r) (As := [.int (xs (nI i + 1).toNatClampNeg)]) (rest := [.int r]) hCF (k_X8_count a' v _ e8) (cwV 1 htsL gL_law_X8_count rfl rfl rfl ⟨rfl, dk_X8_count⟩ ⟨Nat.le_of_ble_eq_true rfl, Nat.le_of_ble_eq_true rfl⟩) hE hAB hP hD hS rfl hl.1 rfl (Nat.le_of_ble_eq_true rfl) dL_law_1212 (fun H locs hP hD hS => ?_)
  refine lv_icmp_eq (tgt := 1220) hx hb dL_law_1215 (by decide) (fun _ => ?_) (fun q => absurd rfl q)
  exact kk S v h H locs hP hD hS ls hl
