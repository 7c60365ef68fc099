set_option maxHeartbeats 1000000 in
theorem lw_pairs {p : Program} {e : Env} {s : State} {m : MethodId} {below : List Frame} {meth : Method} {c : Code} (l : Launch) {b L : Nat} {xs : Nat → Int32} {G : Gx} {a a' : Nat → Nat} {i : Nat} (hL : L ≤ 2048) (hi : i + 4 ≤ L) (C0 : lw_At p s m meth c b L xs) (hE : Amb G s) (hG : G.2.1 = s.heap.size) (kk : lwI p l e s m b below meth c G a a' i 1220) : lwI p l e s m b below meth c G a a' i 768 := by
  intro S v h H locs hP hD hS ls hl
  obtain ⟨hx, hb, hr, hml, hown, hts, hX, hbl, hlocks, hgv⟩ := C0
  have htsL : ∀ w ∈ wsL_law, w.before #[Value.ref b] s = true := fun w hw => hts w (wsL_law_in w hw)
  have hbA : ¬ lwA s b := Nat.not_le.mpr hbl
  have hAB : ∀ q, lwA s q → gB G q := fun q hq => (show G.2.1 ≤ q by rw [hG]; exact hq)
  have hCF : CallFix p m c code 4 s #[Value.ref b] wsL_law RL := ⟨hx, hb, hml, hown, htsL⟩
  obtain ⟨r, S', v', e7, e8, h'⟩ := p_pairs h (xs (nI i + 1).toNatClampNeg)
  refine lv_aload_n hx hb dL_law_768 rfl (lv_at hl 1 rfl) ?_
  refine lv_aload_n hx hb dL_law_769 rfl (lv_at hl 0 rfl) ?_
  refine lv_iload_n hx hb dL_law_770 rfl (lv_at hl 3 rfl) ?_
  refine lv_iconst (v := (1 : Int32)) hx hb dL_law_771 (by decide) ?_
  refine lv_iadd hx hb dL_law_772 ?_
  refine va_sld hx hb hX hbl hbA hS (lw_in 1 hL hi (by decide)) dL_law_773 ?_
  refine lw_c7 (r := .int r) (As := [.int (xs (nI i + 1).toNatClampNeg)]) (rest := []) hCF (k_X7_pairs a S _ e7) (cwV 1 htsL gL_law_X7_pairs rfl rfl rfl ⟨rfl, dk_X7_pairs⟩ ⟨Nat.le_of_ble_eq_true rfl, Nat.le_of_ble_eq_true rfl⟩) hE hAB hP hD hS rfl hl.1 rfl (Nat.le_of_ble_eq_true rfl) dL_law_774 (fun H locs hP hD hS => ?_)
  refine lv_aload_n hx hb dL_law_777 rfl (lv_at hl 2 rfl) ?_
  refine lv_aload_n hx hb dL_law_778 rfl (lv_at hl 0 rfl) ?_
  refine lv_iload_n hx hb dL_law_779 rfl (lv_at hl 3 rfl) ?_
  refine lv_iconst (v := (1 : Int32)) hx hb dL_law_780 (by decide) ?_
  refine lv_iadd hx hb dL_law_781 ?_
  refine va_sld hx hb hX hbl hbA hS (lw_in 1 hL hi (by decide)) dL_law_782 ?_
  refine lw_c8 (r := .int r) (As := [.int (xs (nI i + 1).toNatClampNeg)]) (rest := [.int r]) hCF (k_X8_pairs a' v _ e8) (cwV 1 htsL gL_law_X8_pairs rfl rfl rfl ⟨rfl, dk_X8_pairs⟩ ⟨Nat.le_of_ble_eq_true rfl, Nat.le_of_ble_eq_true rfl⟩) hE hAB hP hD hS rfl hl.1 rfl (Nat.le_of_ble_eq_true rfl) dL_law_783 (fun H locs hP hD hS => ?_)
  refine lv_icmp_eq (tgt := 1220) hx hb dL_law_786 (by decide) (fun _ => ?_) (fun q => absurd rfl q)
  exact kk S' v' h' H locs hP hD hS ls hl
set_option maxHeartbeats 1000000 in
theorem lw_meant {p : Program} {e : Env} {s : State} {m : MethodId} {below : List Frame} {meth : Method} {c : Code} (l : Launch) {b L : Nat} {xs : Nat → Int32} {G : Gx} {a a' : Nat → Nat} {i : Nat} (hL : L ≤ 2048) (hi : i + 4 ≤ L) (C0 : lw_At p s m meth c b L xs) (hE : Amb G s) (hG : G.2.1 = s.heap.size) (kk : lwI p l e s m b below meth c G a a' i 1220) : lwI p l e s m b below meth c G a a' i 791 := by
  intro S v h H locs hP hD hS ls hl
  obtain ⟨hx, hb, hr, hml, hown, hts, hX, hbl, hlocks, hgv⟩ := C0
  have htsL : ∀ w ∈ wsL_law, w.before #[Value.ref b] s = true := fun w hw => hts w (wsL_law_in w hw)
  have hbA : ¬ lwA s b := Nat.not_le.mpr hbl
  have hAB : ∀ q, lwA s q → gB G q := fun q hq => (show G.2.1 ≤ q by rw [hG]; exact hq)
  have hCF : CallFix p m c code 4 s #[Value.ref b] wsL_law RL := ⟨hx, hb, hml, hown, htsL⟩
  obtain ⟨r, S', v', e7, e8, h'⟩ := p_meant h (xs (nI i + 1).toNatClampNeg) (xs (nI i + 2).toNatClampNeg)
  refine lv_aload_n hx hb dL_law_791 rfl (lv_at hl 1 rfl) ?_
  refine lv_aload_n hx hb dL_law_792 rfl (lv_at hl 0 rfl) ?_
  refine lv_iload_n hx hb dL_law_793 rfl (lv_at hl 3 rfl) ?_
  refine lv_iconst (v := (1 : Int32)) hx hb dL_law_794 (by decide) ?_
  refine lv_iadd hx hb dL_law_795 ?_
  refine va_sld hx hb hX hbl hbA hS (lw_in 1 hL hi (by decide)) dL_law_796 ?_
  refine lv_aload_n hx hb dL_law_797 rfl (lv_at hl 0 rfl) ?_
  refine lv_iload_n hx hb dL_law_798 rfl (lv_at hl 3 rfl) ?_
  refine lv_iconst (v := (2 : Int32)) hx hb dL_law_799 (by decide) ?_
  refine lv_iadd hx hb dL_law_800 ?_
  refine va_sld hx hb hX hbl hbA hS (lw_in 2 hL hi (by decide)) dL_law_801 ?_
  refine lw_c7 (r := .int r) (As := [.int (xs (nI i + 1).toNatClampNeg), .int (xs (nI i + 2).toNatClampNeg)]) (rest := []) hCF (k_X7_meant a S _ _ e7) (cwV 2 htsL gL_law_X7_meant rfl rfl rfl ⟨rfl, dk_X7_meant⟩ ⟨Nat.le_of_ble_eq_true rfl, Nat.le_of_ble_eq_true rfl⟩) hE hAB hP hD hS rfl hl.1 rfl (Nat.le_of_ble_eq_true rfl) dL_law_802 (fun H locs hP hD hS => ?_)
  refine lv_aload_n hx hb dL_law_805 rfl (lv_at hl 2 rfl) ?_
  refine lv_aload_n hx hb dL_law_806 rfl (lv_at hl 0 rfl) ?_
  refine lv_iload_n hx hb dL_law_807 rfl (lv_at hl 3 rfl) ?_
  refine lv_iconst (v := (1 : Int32)) hx hb dL_law_808 (by decide) ?_
  refine lv_iadd hx hb dL_law_809 ?_
  refine va_sld hx hb hX hbl hbA hS (lw_in 1 hL hi (by decide)) dL_law_810 ?_
  refine lv_aload_n hx hb dL_law_811 rfl (lv_at hl 0 rfl) ?_
  refine lv_iload_n hx hb dL_law_812 rfl (lv_at hl 3 rfl) ?_
  refine lv_iconst (v := (2 : Int32)) hx hb dL_law_813 (by decide) ?_
  refine lv_iadd hx hb dL_law_814 ?_
  refine va_sld hx hb hX hbl hbA hS (lw_in 2 hL hi (by decide)) dL_law_815 ?_
  refine lw_c8 (r := .int r) (As := [.int (xs (nI i + 1).toNatClampNeg), .int (xs (nI i + 2).toNatClampNeg)]) (rest := [.int r]) hCF (k_X8_meant a' v _ _ e8) (cwV 2 htsL gL_law_X8_meant rfl rfl rfl ⟨rfl, dk_X8_meant⟩ ⟨Nat.le_of_ble_eq_true rfl, Nat.le_of_ble_eq_true rfl⟩) hE hAB hP hD hS rfl hl.1 rfl (Nat.le_of_ble_eq_true rfl) dL_law_816 (fun H locs hP hD hS => ?_)
  refine lv_icmp_eq (tgt := 1220) hx hb dL_law_819 (by decide) (fun _ => ?_) (fun q => absurd rfl q)
  exact kk S' v' h' H locs hP hD hS ls hl
set_option maxHeartbeats 1000000 in
theorem lw_loses {p : Program} {e : Env} {s : State} {m : MethodId} {below : List Frame} {meth : Method} {c : Code} (l : Launch) {b L : Nat} {xs : Nat → Int32} {G : Gx} {a a' : Nat → Nat} {i : Nat} (hL : L ≤ 2048) (hi : i + 4 ≤ L) (C0 : lw_At p s m meth c b L xs) (hE : Amb G s) (hG : G.2.1 = s.heap.size) (kk : lwI p l e s m b below meth c G a a' i 1220) : lwI p l e s m b below meth c G a a' i 824 := by
  intro S v h H locs hP hD hS ls hl
  obtain ⟨hx, hb, hr, hml, hown, hts, hX, hbl, hlocks, hgv⟩ := C0
  have htsL : ∀ w ∈ wsL_law, w.before #[Value.ref b] s = true := fun w hw => hts w (wsL_law_in w hw)
  have hbA : ¬ lwA s b := Nat.not_le.mpr hbl
  have hAB : ∀ q, lwA s q → gB G q := fun q hq => (show G.2.1 ≤ q by rw [hG]; exact hq)
  have hCF : CallFix p m c code 4 s #[Value.ref b] wsL_law RL := ⟨hx, hb, hml, hown, htsL⟩
  obtain ⟨r, e7, e8⟩ := p_loses h
  refine lv_aload_n hx hb dL_law_824 rfl (lv_at hl 1 rfl) ?_
  refine lw_c7 (r := .int r) (As := []) (rest := []) hCF (k_X7_loses a S e7) (cwV 0 htsL gL_law_X7_loses rfl rfl rfl ⟨rfl, dk_X7_loses⟩ ⟨Nat.le_of_ble_eq_true rfl, Nat.le_of_ble_eq_true rfl⟩) hE hAB hP hD hS rfl hl.1 rfl (Nat.le_of_ble_eq_true rfl) dL_law_825 (fun H locs hP hD hS => ?_)
  refine lv_aload_n hx hb dL_law_828 rfl (lv_at hl 2 rfl) ?_
  refine lw_c8 (r := .int r) (As := []) (rest := [.int r]) hCF (k_X8_loses a' v e8) (cwV 0 htsL gL_law_X8_loses rfl rfl rfl ⟨rfl, dk_X8_loses⟩ ⟨Nat.le_of_ble_eq_true rfl, Nat.le_of_ble_eq_true rfl⟩) hE hAB hP hD hS rfl hl.1 rfl (Nat.le_of_ble_eq_true rfl) dL_law_829 (fun H locs hP hD hS => ?_)
  refine lv_icmp_eq (tgt := 1220) hx hb dL_law_832 (by decide) (fun _ => ?_) (fun q => absurd rfl q)
  exact kk S v h H locs hP hD hS ls hl
set_option maxHeartbeats 1000000 in
theorem lw_alike {p : Program} {e : Env} {s : State} {m : MethodId} {below : List Frame} {meth : Method} {c : Code} (l : Launch) {b L : Nat} {xs : Nat → Int32} {G : Gx} {a a' : Nat → Nat} {i : Nat} (hL : L ≤ 2048) (hi : i + 4 ≤ L) (C0 : lw_At p s m meth c b L xs) (hE : Amb G s) (hG : G.2.1 = s.heap.size) (kk : lwI p l e s m b below meth c G a a' i 1220) : lwI p l e s m b below meth c G a a' i 837 := by
  intro S v h H locs hP hD hS ls hl
  obtain ⟨hx, hb, hr, hml, hown, hts, hX, hbl, hlocks, hgv⟩ := C0
  have htsL : ∀ w ∈ wsL_law, w.before #[Value.ref b] s = true := fun w hw => hts w (wsL_law_in w hw)
  have hbA : ¬ lwA s b := Nat.not_le.mpr hbl
  have hAB : ∀ q, lwA s q → gB G q := fun q hq => (show G.2.1 ≤ q by rw [hG]; exact hq)
  have hCF : CallFix p m c code 4 s #[Value.ref b] wsL_law RL := ⟨hx, hb, hml, hown, htsL⟩
  obtain ⟨r, S', v', e7, e8, h'⟩ := p_alike h (xs (nI i + 1).toNatClampNeg)
  refine lv_aload_n hx hb dL_law_837 rfl (lv_at hl 1 rfl) ?_
  refine lv_aload_n hx hb dL_law_838 rfl (lv_at hl 0 rfl) ?_
  refine lv_iload_n hx hb dL_law_839 rfl (lv_at hl 3 rfl) ?_
  refine lv_iconst (v := (1 : Int32)) hx hb dL_law_840 (by decide) ?_
  refine lv_iadd hx hb dL_law_841 ?_
  refine va_sld hx hb hX hbl hbA hS (lw_in 1 hL hi (by decide)) dL_law_842 ?_
  refine lw_c7 (r := .int r) (As := [.int (xs (nI i + 1).toNatClampNeg)]) (rest := []) hCF (k_X7_alike a S _ e7) (cwV 1 htsL gL_law_X7_alike rfl rfl rfl ⟨rfl, dk_X7_alike⟩ ⟨Nat.le_of_ble_eq_true rfl, Nat.le_of_ble_eq_true rfl⟩) hE hAB hP hD hS rfl hl.1 rfl (Nat.le_of_ble_eq_true rfl) dL_law_843 (fun H locs hP hD hS => ?_)
  refine lv_aload_n hx hb dL_law_846 rfl (lv_at hl 2 rfl) ?_
  refine lv_aload_n hx hb dL_law_847 rfl (lv_at hl 0 rfl) ?_
  refine lv_iload_n hx hb dL_law_848 rfl (lv_at hl 3 rfl) ?_
  refine lv_iconst (v := (1 : Int32)) hx hb dL_law_849 (by decide) ?_
  refine lv_iadd hx hb dL_law_850 ?_
  refine va_sld hx hb hX hbl hbA hS (lw_in 1 hL hi (by decide)) dL_law_851 ?_
  refine lw_c8 (r := .int r) (As := [.int (xs (nI i + 1).toNatClampNeg)]) (rest := [.int r]) hCF (k_X8_alike a' v _ e8) (cwV 1 htsL gL_law_X8_alike rfl rfl rfl ⟨rfl, dk_X8_alike⟩ ⟨Nat.le_of_ble_eq_true rfl, Nat.le_of_ble_eq_true rfl⟩) hE hAB hP hD hS rfl hl.1 rfl (Nat.le_of_ble_eq_true rfl) dL_law_852 (fun H locs hP hD hS => ?_)
  refine lv_icmp_eq (tgt := 1220) hx hb dL_law_855 (by decide) (fun _ => ?_) (fun q => absurd rfl q)
  exact kk S' v' h' H locs hP hD hS ls hl
set_option maxHeartbeats 1000000 in
theorem lw_tells {p : Program} {e : Env} {s : State} {m : MethodId} {below : List Frame} {meth : Method} {c : Code} (l : Launch) {b L : Nat} {xs : Nat → Int32} {G : Gx} {a a' : Nat → Nat} {i : Nat} (hL : L ≤ 2048) (hi : i + 4 ≤ L) (C0 : lw_At p s m meth c b L xs) (hE : Amb G s) (hG : G.2.1 = s.heap.size) (kk : lwI p l e s m b below meth c G a a' i 1220) : lwI p l e s m b below meth c G a a' i 860 := by
  intro S v h H locs hP hD hS ls hl
  obtain ⟨hx, hb, hr, hml, hown, hts, hX, hbl, hlocks, hgv⟩ := C0
  have htsL : ∀ w ∈ wsL_law, w.before #[Value.ref b] s = true := fun w hw => hts w (wsL_law_in w hw)
  have hbA : ¬ lwA s b := Nat.not_le.mpr hbl
  have hAB : ∀ q, lwA s q → gB G q := fun q hq => (show G.2.1 ≤ q by rw [hG]; exact hq)
  have hCF : CallFix p m c code 4 s #[Value.ref b] wsL_law RL := ⟨hx, hb, hml, hown, htsL⟩
  obtain ⟨r, e7, e8⟩ := p_tells h
  refine lv_aload_n hx hb dL_law_860 rfl (lv_at hl 1 rfl) ?_
  refine lw_c7 (r := .int r) (As := []) (rest := []) hCF (k_X7_tells a S e7) (cwV 0 htsL gL_law_X7_tells rfl rfl rfl ⟨rfl, dk_X7_tells⟩ ⟨Nat.le_of_ble_eq_true rfl, Nat.le_of_ble_eq_true rfl⟩) hE hAB hP hD hS rfl hl.1 rfl (Nat.le_of_ble_eq_true rfl) dL_law_861 (fun H locs hP hD hS => ?_)
  refine lv_aload_n hx hb dL_law_864 rfl (lv_at hl 2 rfl) ?_
  refine lw_c8 (r := .int r) (As := []) (rest := [.int r]) hCF (k_X8_tells a' v e8) (cwV 0 htsL gL_law_X8_tells rfl rfl rfl ⟨rfl, dk_X8_tells⟩ ⟨Nat.le_of_ble_eq_true rfl, Nat.le_of_ble_eq_true rfl⟩) hE hAB hP hD hS rfl hl.1 rfl (Nat.le_of_ble_eq_true rfl) dL_law_865 (fun H locs hP hD hS => ?_)
  refine lv_icmp_eq (tgt := 1220) hx hb dL_law_868 (by decide) (fun _ => ?_) (fun q => absurd rfl q)
  exact kk S v h H locs hP hD hS ls hl
set_option maxHeartbeats 1000000 in
theorem lw_sees {p : Program} {e : Env} {s : State} {m : MethodId} {below : List Frame} {meth : Method} {c : Code} (l : Launch) {b L : Nat} {xs : Nat → Int32} {G : Gx} {a a' : Nat → Nat} {i : Nat} (hL : L ≤ 2048) (hi : i + 4 ≤ L) (C0 : lw_At p s m meth c b L xs) (hE : Amb G s) (hG : G.2.1 = s.heap.size) (kk : lwI p l e s m b below meth c G a a' i 1220) : lwI p l e s m b below meth c G a a' i 873 := by
  intro S v h H locs hP hD hS ls hl
  obtain ⟨hx, hb, hr, hml, hown, hts, hX, hbl, hlocks, hgv⟩ := C0
  have htsL : ∀ w ∈ wsL_law, w.before #[Value.ref b] s = true := fun w hw => hts w (wsL_law_in w hw)
  have hbA : ¬ lwA s b := Nat.not_le.mpr hbl
  have hAB : ∀ q, lwA s q → gB G q := fun q hq => (show G.2.1 ≤ q by rw [hG]; exact hq)
  have hCF : CallFix p m c code 4 s #[Value.ref b] wsL_law RL := ⟨hx, hb, hml, hown, htsL⟩
  obtain ⟨r, e7, e8⟩ := p_sees h
  refine lv_aload_n hx hb dL_law_873 rfl (lv_at hl 1 rfl) ?_
  refine lw_c7 (r := .int r) (As := []) (rest := []) hCF (k_X7_sees a S e7) (cwV 0 htsL gL_law_X7_sees rfl rfl rfl ⟨rfl, dk_X7_sees⟩ ⟨Nat.le_of_ble_eq_true rfl, Nat.le_of_ble_eq_true rfl⟩) hE hAB hP hD hS rfl hl.1 rfl (Nat.le_of_ble_eq_true rfl) dL_law_874 (fun H locs hP hD hS => ?_)
  refine lv_aload_n hx hb dL_law_877 rfl (lv_at hl 2 rfl) ?_
  refine lw_c8 (r := .int r) (As := []) (rest := [.int r]) hCF (k_X8_sees a' v e8) (cwV 0 htsL gL_law_X8_sees rfl rfl rfl ⟨rfl, dk_X8_sees⟩ ⟨Nat.le_of_ble_eq_true rfl, Nat.le_of_ble_eq_true rfl⟩) hE hAB hP hD hS rfl hl.1 rfl (Nat.le_of_ble_eq_true rfl) dL_law_878 (fun H locs hP hD hS => ?_)
  refine lv_icmp_eq (tgt := 1220) hx hb dL_law_881 (by decide) (fun _ => ?_) (fun q => absurd rfl q)
  exact kk S v h H locs hP hD hS ls hl
set_option maxHeartbeats 1000000 in
theorem lw_order {p : Program} {e : Env} {s : State} {m : MethodId} {below : List Frame} {meth : Method} {c : Code} (l : Launch) {b L : Nat} {xs : Nat → Int32} {G : Gx} {a a' : Nat → Nat} {i : Nat} (hL : L ≤ 2048) (hi : i + 4 ≤ L) (C0 : lw_At p s m meth c b L xs) (hE : Amb G s) (hG : G.2.1 = s.heap.size) (kk : lwI p l e s m b below meth c G a a' i 1220) : lwI p l e s m b below meth c G a a' i 886 := by
  intro S v h H locs hP hD hS ls hl
  obtain ⟨hx, hb, hr, hml, hown, hts, hX, hbl, hlocks, hgv⟩ := C0
  have htsL : ∀ w ∈ wsL_law, w.before #[Value.ref b] s = true := fun w hw => hts w (wsL_law_in w hw)
  have hbA : ¬ lwA s b := Nat.not_le.mpr hbl
  have hAB : ∀ q, lwA s q → gB G q := fun q hq => (show G.2.1 ≤ q by rw [hG]; exact hq)
  have hCF : CallFix p m c code 4 s #[Value.ref b] wsL_law RL := ⟨hx, hb, hml, hown, htsL⟩
  obtain ⟨r, S', v', e7, e8, h'⟩ := p_order h (xs (nI i + 1).toNatClampNeg)
  refine lv_aload_n hx hb dL_law_886 rfl (lv_at hl 1 rfl) ?_
  refine lv_aload_n hx hb dL_law_887 rfl (lv_at hl 0 rfl) ?_
  refine lv_iload_n hx hb dL_law_888 rfl (lv_at hl 3 rfl) ?_
  refine lv_iconst (v := (1 : Int32)) hx hb dL_law_889 (by decide) ?_
  refine lv_iadd hx hb dL_law_890 ?_
  refine va_sld hx hb hX hbl hbA hS (lw_in 1 hL hi (by decide)) dL_law_891 ?_
  refine lw_c7 (r := .int r) (As := [.int (xs (nI i + 1).toNatClampNeg)]) (rest := []) hCF (k_X7_order a S _ e7) (cwV 1 htsL gL_law_X7_order rfl rfl rfl ⟨rfl, dk_X7_order⟩ ⟨Nat.le_of_ble_eq_true rfl, Nat.le_of_ble_eq_true rfl⟩) hE hAB hP hD hS rfl hl.1 rfl (Nat.le_of_ble_eq_true rfl) dL_law_892 (fun H locs hP hD hS => ?_)
  refine lv_aload_n hx hb dL_law_895 rfl (lv_at hl 2 rfl) ?_
  refine lv_aload_n hx hb dL_law_896 rfl (lv_at hl 0 rfl) ?_
  refine lv_iload_n hx hb dL_law_897 rfl (lv_at hl 3 rfl) ?_
  refine lv_iconst (v := (1 : Int32)) hx hb dL_law_898 (by decide) ?_
  refine lv_iadd hx hb dL_law_899 ?_
  refine va_sld hx hb hX hbl hbA hS (lw_in 1 hL hi (by decide)) dL_law_900 ?_
  refine lw_c8 (r := .int r) (As := [.int (xs (nI i + 1).toNatClampNeg)]) (rest := [.int r]) hCF (k_X8_order a' v _ e8) (cwV 1 htsL gL_law_X8_order rfl rfl rfl ⟨rfl, dk_X8_order⟩ ⟨Nat.le_of_ble_eq_true rfl, Nat.le_of_ble_eq_true rfl⟩) hE hAB hP hD hS rfl hl.1 rfl (Nat.le_of_ble_eq_true rfl) dL_law_901 (fun H locs hP hD hS => ?_)
  refine lv_icmp_eq (tgt := 1220) hx hb dL_law_904 (by decide) (fun _ => ?_) (fun q => absurd rfl q)
  exact kk S' v' h' H locs hP hD hS ls hl
set_option maxHeartbeats 1000000 in
theorem lw_lies {p : Program} {e : Env} {s : State} {m : MethodId} {below : List Frame} {meth : Method} {c : Code} (l : Launch) {b L : Nat} {xs : Nat → Int32} {G : Gx} {a a' : Nat → Nat} {i : Nat} (hL : L ≤ 2048) (hi : i + 4 ≤ L) (C0 : lw_At p s m meth c b L xs) (hE : Amb G s) (hG : G.2.1 = s.heap.size) (kk : lwI p l e s m b below meth c G a a' i 1220) : lwI p l e s m b below meth c G a a' i 909 := by
  intro S v h H locs hP hD hS ls hl
  obtain ⟨hx, hb, hr, hml, hown, hts, hX, hbl, hlocks, hgv⟩ := C0
  have htsL : ∀ w ∈ wsL_law, w.before #[Value.ref b] s = true := fun w hw => hts w (wsL_law_in w hw)
  have hbA : ¬ lwA s b := Nat.not_le.mpr hbl
  have hAB : ∀ q, lwA s q → gB G q := fun q hq => (show G.2.1 ≤ q by rw [hG]; exact hq)
  have hCF : CallFix p m c code 4 s #[Value.ref b] wsL_law RL := ⟨hx, hb, hml, hown, htsL⟩
  obtain ⟨r, e7, e8⟩ := p_lies h
  refine lv_aload_n hx hb dL_law_909 rfl (lv_at hl 1 rfl) ?_
  refine lw_c7 (r := .int r) (As := []) (rest := []) hCF (k_X7_lies a S e7) (cwV 0 htsL gL_law_X7_lies rfl rfl rfl ⟨rfl, dk_X7_lies⟩ ⟨Nat.le_of_ble_eq_true rfl, Nat.le_of_ble_eq_true rfl⟩) hE hAB hP hD hS rfl hl.1 rfl (Nat.le_of_ble_eq_true rfl) dL_law_910 (fun H locs hP hD hS => ?_)
  refine lv_aload_n hx hb dL_law_913 rfl (lv_at hl 2 rfl) ?_
  refine lw_c8 (r := .int r) (As := []) (rest := [.int r]) hCF (k_X8_lies a' v e8) (cwV 0 htsL gL_law_X8_lies rfl rfl rfl ⟨rfl, dk_X8_lies⟩ ⟨Nat.le_of_ble_eq_true rfl, Nat.le_of_ble_eq_true rfl⟩) hE hAB hP hD hS rfl hl.1 rfl (Nat.le_of_ble_eq_true rfl) dL_law_914 (fun H locs hP hD hS => ?_)
  refine lv_icmp_eq (tgt := 1220) hx hb dL_law_917 (by decide) (fun _ => ?_) (fun q => absurd rfl q)
  exact kk S v h H locs hP hD hS ls hl
set_option maxHeartbeats 1000000 in
theorem lw_rightly {p : Program} {e : Env} {s : State} {m : MethodId} {below : List Frame} {meth : Method} {c : Code} (l : Launch) {b L : Nat} {xs : Nat → Int32} {G : Gx} {a a' : Nat → Nat} {i : Nat} (hL : L ≤ 2048) (hi : i + 4 ≤ L) (C0 : lw_At p s m meth c b L xs) (hE : Amb G s) (hG : G.2.1 = s.heap.size) (kk : lwI p l e s m b below meth c G a a' i 1220) : lwI p l e s m b below meth c G a a' i 922 := by
  intro S v h H locs hP hD hS ls hl
  obtain ⟨hx, hb, hr, hml, hown, hts, hX, hbl, hlocks, hgv⟩ := C0
  have htsL : ∀ w ∈ wsL_law, w.before #[Value.ref b] s = true := fun w hw => hts w (wsL_law_in w hw)
  have hbA : ¬ lwA s b := Nat.not_le.mpr hbl
  have hAB : ∀ q, lwA s q → gB G q := fun q hq => (show G.2.1 ≤ q by rw [hG]; exact hq)
  have hCF : CallFix p m c code 4 s #[Value.ref b] wsL_law RL := ⟨hx, hb, hml, hown, htsL⟩
  obtain ⟨r, S', v', e7, e8, h'⟩ := p_rightly h (xs (nI i + 1).toNatClampNeg)
  refine lv_aload_n hx hb dL_law_922 rfl (lv_at hl 1 rfl) ?_
  refine lv_aload_n hx hb dL_law_923 rfl (lv_at hl 0 rfl) ?_
  refine lv_iload_n hx hb dL_law_924 rfl (lv_at hl 3 rfl) ?_
  refine lv_iconst (v := (1 : Int32)) hx hb dL_law_925 (by decide) ?_
  refine lv_iadd hx hb dL_law_926 ?_
  refine va_sld hx hb hX hbl hbA hS (lw_in 1 hL hi (by decide)) dL_law_927 ?_
  refine lw_c7 (r := .int r) (As := [.int (xs (nI i + 1).toNatClampNeg)]) (rest := []) hCF (k_X7_rightly a S _ e7) (cwV 1 htsL gL_law_X7_rightly rfl rfl rfl ⟨rfl, dk_X7_rightly⟩ ⟨Nat.le_of_ble_eq_true rfl, Nat.le_of_ble_eq_true rfl⟩) hE hAB hP hD hS rfl hl.1 rfl (Nat.le_of_ble_eq_true rfl) dL_law_928 (fun H locs hP hD hS => ?_)
  refine lv_aload_n hx hb dL_law_931 rfl (lv_at hl 2 rfl) ?_
  refine lv_aload_n hx hb dL_law_932 rfl (lv_at hl 0 rfl) ?_
  refine lv_iload_n hx hb dL_law_933 rfl (lv_at hl 3 rfl) ?_
  refine lv_iconst (v := (1 : Int32)) hx hb dL_law_934 (by decide) ?_
  refine lv_iadd hx hb dL_law_935 ?_
  refine va_sld hx hb hX hbl hbA hS (lw_in 1 hL hi (by decide)) dL_law_936 ?_
  refine lw_c8 (r := .int r) (As := [.int (xs (nI i + 1).toNatClampNeg)]) (rest := [.int r]) hCF (k_X8_rightly a' v _ e8) (cwV 1 htsL gL_law_X8_rightly rfl rfl rfl ⟨rfl, dk_X8_rightly⟩ ⟨Nat.le_of_ble_eq_true rfl, Nat.le_of_ble_eq_true rfl⟩) hE hAB hP hD hS rfl hl.1 rfl (Nat.le_of_ble_eq_true rfl) dL_law_937 (fun H locs hP hD hS => ?_)
  refine lv_icmp_eq (tgt := 1220) hx hb dL_law_940 (by decide) (fun _ => ?_) (fun q => absurd rfl q)
  exact kk S' v' h' H locs hP hD hS ls hl
set_option maxHeartbeats 1000000 in
theorem lw_two {p : Program} {e : Env} {s : State} {m : MethodId} {below : List Frame} {meth : Method} {c : Code} (l : Launch) {b L : Nat} {xs : Nat → Int32} {G : Gx} {a a' : Nat → Nat} {i : Nat} (hL : L ≤ 2048) (hi : i + 4 ≤ L) (C0 : lw_At p s m meth c b L xs) (hE : Amb G s) (hG : G.2.1 = s.heap.size) (kk : lwI p l e s m b below meth c G a a' i 1220) : lwI p l e s m b below meth c G a a' i 945 := by
  intro S v h H locs hP hD hS ls hl
  obtain ⟨hx, hb, hr, hml, hown, hts, hX, hbl, hlocks, hgv⟩ := C0
  have htsL : ∀ w ∈ wsL_law, w.before #[Value.ref b] s = true := fun w hw => hts w (wsL_law_in w hw)
  have hbA : ¬ lwA s b := Nat.not_le.mpr hbl
  have hAB : ∀ q, lwA s q → gB G q := fun q hq => (show G.2.1 ≤ q by rw [hG]; exact hq)
  have hCF : CallFix p m c code 4 s #[Value.ref b] wsL_law RL := ⟨hx, hb, hml, hown, htsL⟩
  obtain ⟨r, S', v', e7, e8, h'⟩ := p_two h (xs (nI i + 1).toNatClampNeg) (xs (nI i + 2).toNatClampNeg)
  refine lv_aload_n hx hb dL_law_945 rfl (lv_at hl 1 rfl) ?_
  refine lv_aload_n hx hb dL_law_946 rfl (lv_at hl 0 rfl) ?_
  refine lv_iload_n hx hb dL_law_947 rfl (lv_at hl 3 rfl) ?_
  refine lv_iconst (v := (1 : Int32)) hx hb dL_law_948 (by decide) ?_
  refine lv_iadd hx hb dL_law_949 ?_
  refine va_sld hx hb hX hbl hbA hS (lw_in 1 hL hi (by decide)) dL_law_950 ?_
  refine lv_aload_n hx hb dL_law_951 rfl (lv_at hl 0 rfl) ?_
  refine lv_iload_n hx hb dL_law_952 rfl (lv_at hl 3 rfl) ?_
  refine lv_iconst (v := (2 : Int32)) hx hb dL_law_953 (by decide) ?_
  refine lv_iadd hx hb dL_law_954 ?_
  refine va_sld hx hb hX hbl hbA hS (lw_in 2 hL hi (by decide)) dL_law_955 ?_
  refine lw_c7 (r := .int r) (As := [.int (xs (nI i + 1).toNatClampNeg), .int (xs (nI i + 2).toNatClampNeg)]) (rest := []) hCF (k_X7_two a S _ _ e7) (cwV 2 htsL gL_law_X7_two rfl rfl rfl ⟨rfl, dk_X7_two⟩ ⟨Nat.le_of_ble_eq_true rfl, Nat.le_of_ble_eq_true rfl⟩) hE hAB hP hD hS rfl hl.1 rfl (Nat.le_of_ble_eq_true rfl) dL_law_956 (fun H locs hP hD hS => ?_)
  refine lv_aload_n hx hb dL_law_959 rfl (lv_at hl 2 rfl) ?_
  refine lv_aload_n hx hb dL_law_960 rfl (lv_at hl 0 rfl) ?_
  refine lv_iload_n hx hb dL_law_961 rfl (lv_at hl 3 rfl) ?_
  refine lv_iconst (v := (1 : Int32)) hx hb dL_law_962 (by decide) ?_
  refine lv_iadd hx hb dL_law_963 ?_
  refine va_sld hx hb hX hbl hbA hS (lw_in 1 hL hi (by decide)) dL_law_964 ?_
  refine lv_aload_n hx hb dL_law_965 rfl (lv_at hl 0 rfl) ?_
  refine lv_iload_n hx hb dL_law_966 rfl (lv_at hl 3 rfl) ?_
  refine lv_iconst (v := (2 : Int32)) hx hb dL_law_967 (by decide) ?_
  refine lv_iadd hx hb dL_law_968 ?_
  refine va_sld hx hb hX hbl hbA hS (lw_in 2 hL hi (by decide)) dL_law_969 ?_
  refine lw_c8 (r := .int r) (As := [.int (xs (nI i + 1).toNatClampNeg), .int (xs (nI i + 2).toNatClampNeg)]) (rest := [.int r]) hCF (k_X8_two a' v _ _ e8) (cwV 2 htsL gL_law_X8_two rfl rfl rfl ⟨rfl, dk_X8_two⟩ ⟨Nat.le_of_ble_eq_true rfl, Nat.le_of_ble_eq_true rfl⟩) hE hAB hP hD hS rfl hl.1 rfl (Nat.le_of_ble_eq_true rfl) dL_law_970 (fun H locs hP hD hS => ?_)
  refine lv_icmp_eq (tgt := 1220) hx hb dL_law_973 (by decide) (fun _ => ?_) (fun q => absurd rfl q)
  exact kk S' v' h' H locs hP hD hS ls hl
