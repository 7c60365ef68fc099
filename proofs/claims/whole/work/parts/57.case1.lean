set_option maxHeartbeats 1000000 in
theorem lw_years {p : Program} {e : Env} {s : State} {m : MethodId} {below : List Frame} {meth : Method} {c : Code} (l : Launch) {b L : Nat} {xs : Nat → Int32} {G : Gx} {a a' : Nat → Nat} {i : Nat} (hL : L ≤ 2048) (hi : i + 4 ≤ L) (C0 : lw_At p s m meth c b L xs) (hE : Amb G s) (hG : G.2.1 = s.heap.size) (kk : lwI p l e s m b below meth c G a a' i 1220) : lwI p l e s m b below meth c G a a' i 508 := by
  intro S v h H locs hP hD hS ls hl
  obtain ⟨hx, hb, hr, hml, hown, hts, hX, hbl, hlocks, hgv⟩ := C0
  have htsL : ∀ w ∈ wsL_law, w.before #[Value.ref b] s = true := fun w hw => hts w (wsL_law_in w hw)
  have hbA : ¬ lwA s b := Nat.not_le.mpr hbl
  have hAB : ∀ q, lwA s q → gB G q := fun q hq => (show G.2.1 ≤ q by rw [hG]; exact hq)
  have hCF : CallFix p m c code 4 s #[Value.ref b] wsL_law RL := ⟨hx, hb, hml, hown, htsL⟩
  obtain ⟨r, S', v', e7, e8, h'⟩ := p_years h (xs (nI i + 1).toNatClampNeg)
  refine lv_aload_n hx hb dL_law_508 rfl (lv_at hl 1 rfl) ?_
  refine lv_aload_n hx hb dL_law_509 rfl (lv_at hl 0 rfl) ?_
  refine lv_iload_n hx hb dL_law_510 rfl (lv_at hl 3 rfl) ?_
  refine lv_iconst (v := (1 : Int32)) hx hb dL_law_511 (by decide) ?_
  refine lv_iadd hx hb dL_law_512 ?_
  refine va_sld hx hb hX hbl hbA hS (lw_in 1 hL hi (by decide)) dL_law_513 ?_
  refine lw_c7 (r := .int r) (As := [.int (xs (nI i + 1).toNatClampNeg)]) (rest := []) hCF (k_X7_years a S _ e7) (cwV 1 htsL gL_law_X7_years rfl rfl rfl ⟨rfl, dk_X7_years⟩ ⟨Nat.le_of_ble_eq_true rfl, Nat.le_of_ble_eq_true rfl⟩) hE hAB hP hD hS rfl hl.1 rfl (Nat.le_of_ble_eq_true rfl) dL_law_514 (fun H locs hP hD hS => ?_)
  refine lv_aload_n hx hb dL_law_517 rfl (lv_at hl 2 rfl) ?_
  refine lv_aload_n hx hb dL_law_518 rfl (lv_at hl 0 rfl) ?_
  refine lv_iload_n hx hb dL_law_519 rfl (lv_at hl 3 rfl) ?_
  refine lv_iconst (v := (1 : Int32)) hx hb dL_law_520 (by decide) ?_
  refine lv_iadd hx hb dL_law_521 ?_
  refine va_sld hx hb hX hbl hbA hS (lw_in 1 hL hi (by decide)) dL_law_522 ?_
  refine lw_c8 (r := .int r) (As := [.int (xs (nI i + 1).toNatClampNeg)]) (rest := [.int r]) hCF (k_X8_years a' v _ e8) (cwV 1 htsL gL_law_X8_years rfl rfl rfl ⟨rfl, dk_X8_years⟩ ⟨Nat.le_of_ble_eq_true rfl, Nat.le_of_ble_eq_true rfl⟩) hE hAB hP hD hS rfl hl.1 rfl (Nat.le_of_ble_eq_true rfl) dL_law_523 (fun H locs hP hD hS => ?_)
  refine lv_icmp_eq (tgt := 1220) hx hb dL_law_526 (by decide) (fun _ => ?_) (fun q => absurd rfl q)
  exact kk S' v' h' H locs hP hD hS ls hl
set_option maxHeartbeats 1000000 in
theorem lw_showsThen {p : Program} {e : Env} {s : State} {m : MethodId} {below : List Frame} {meth : Method} {c : Code} (l : Launch) {b L : Nat} {xs : Nat → Int32} {G : Gx} {a a' : Nat → Nat} {i : Nat} (hL : L ≤ 2048) (hi : i + 4 ≤ L) (C0 : lw_At p s m meth c b L xs) (hE : Amb G s) (hG : G.2.1 = s.heap.size) (kk : lwI p l e s m b below meth c G a a' i 1220) : lwI p l e s m b below meth c G a a' i 531 := by
  intro S v h H locs hP hD hS ls hl
  obtain ⟨hx, hb, hr, hml, hown, hts, hX, hbl, hlocks, hgv⟩ := C0
  have htsL : ∀ w ∈ wsL_law, w.before #[Value.ref b] s = true := fun w hw => hts w (wsL_law_in w hw)
  have hbA : ¬ lwA s b := Nat.not_le.mpr hbl
  have hAB : ∀ q, lwA s q → gB G q := fun q hq => (show G.2.1 ≤ q by rw [hG]; exact hq)
  have hCF : CallFix p m c code 4 s #[Value.ref b] wsL_law RL := ⟨hx, hb, hml, hown, htsL⟩
  obtain ⟨r, S', v', e7, e8, h'⟩ := p_showsThen h (xs (nI i + 1).toNatClampNeg) (xs (nI i + 2).toNatClampNeg)
  refine lv_aload_n hx hb dL_law_531 rfl (lv_at hl 1 rfl) ?_
  refine lv_aload_n hx hb dL_law_532 rfl (lv_at hl 0 rfl) ?_
  refine lv_iload_n hx hb dL_law_533 rfl (lv_at hl 3 rfl) ?_
  refine lv_iconst (v := (1 : Int32)) hx hb dL_law_534 (by decide) ?_
  refine lv_iadd hx hb dL_law_535 ?_
  refine va_sld hx hb hX hbl hbA hS (lw_in 1 hL hi (by decide)) dL_law_536 ?_
  refine lv_aload_n hx hb dL_law_537 rfl (lv_at hl 0 rfl) ?_
  refine lv_iload_n hx hb dL_law_538 rfl (lv_at hl 3 rfl) ?_
  refine lv_iconst (v := (2 : Int32)) hx hb dL_law_539 (by decide) ?_
  refine lv_iadd hx hb dL_law_540 ?_
  refine va_sld hx hb hX hbl hbA hS (lw_in 2 hL hi (by decide)) dL_law_541 ?_
  refine lw_c7 (r := .int r) (As := [.int (xs (nI i + 1).toNatClampNeg), .int (xs (nI i + 2).toNatClampNeg)]) (rest := []) hCF (k_X7_showsThen a S _ _ e7) (cwV 2 htsL gL_law_X7_showsThen rfl rfl rfl ⟨rfl, dk_X7_showsThen⟩ ⟨Nat.le_of_ble_eq_true rfl, Nat.le_of_ble_eq_true rfl⟩) hE hAB hP hD hS rfl hl.1 rfl (Nat.le_of_ble_eq_true rfl) dL_law_542 (fun H locs hP hD hS => ?_)
  refine lv_aload_n hx hb dL_law_545 rfl (lv_at hl 2 rfl) ?_
  refine lv_aload_n hx hb dL_law_546 rfl (lv_at hl 0 rfl) ?_
  refine lv_iload_n hx hb dL_law_547 rfl (lv_at hl 3 rfl) ?_
  refine lv_iconst (v := (1 : Int32)) hx hb dL_law_548 (by decide) ?_
  refine lv_iadd hx hb dL_law_549 ?_
  refine va_sld hx hb hX hbl hbA hS (lw_in 1 hL hi (by decide)) dL_law_550 ?_
  refine lv_aload_n hx hb dL_law_551 rfl (lv_at hl 0 rfl) ?_
  refine lv_iload_n hx hb dL_law_552 rfl (lv_at hl 3 rfl) ?_
  refine lv_iconst (v := (2 : Int32)) hx hb dL_law_553 (by decide) ?_
  refine lv_iadd hx hb dL_law_554 ?_
  refine va_sld hx hb hX hbl hbA hS (lw_in 2 hL hi (by decide)) dL_law_555 ?_
  refine lw_c8 (r := .int r) (As := [.int (xs (nI i + 1).toNatClampNeg), .int (xs (nI i + 2).toNatClampNeg)]) (rest := [.int r]) hCF (k_X8_showsThen a' v _ _ e8) (cwV 2 htsL gL_law_X8_showsThen rfl rfl rfl ⟨rfl, dk_X8_showsThen⟩ ⟨Nat.le_of_ble_eq_true rfl, Nat.le_of_ble_eq_true rfl⟩) hE hAB hP hD hS rfl hl.1 rfl (Nat.le_of_ble_eq_true rfl) dL_law_556 (fun H locs hP hD hS => ?_)
  refine lv_icmp_eq (tgt := 1220) hx hb dL_law_559 (by decide) (fun _ => ?_) (fun q => absurd rfl q)
  exact kk S' v' h' H locs hP hD hS ls hl
set_option maxHeartbeats 1000000 in
theorem lw_groomThen {p : Program} {e : Env} {s : State} {m : MethodId} {below : List Frame} {meth : Method} {c : Code} (l : Launch) {b L : Nat} {xs : Nat → Int32} {G : Gx} {a a' : Nat → Nat} {i : Nat} (hL : L ≤ 2048) (hi : i + 4 ≤ L) (C0 : lw_At p s m meth c b L xs) (hE : Amb G s) (hG : G.2.1 = s.heap.size) (kk : lwI p l e s m b below meth c G a a' i 1220) : lwI p l e s m b below meth c G a a' i 564 := by
  intro S v h H locs hP hD hS ls hl
  obtain ⟨hx, hb, hr, hml, hown, hts, hX, hbl, hlocks, hgv⟩ := C0
  have htsL : ∀ w ∈ wsL_law, w.before #[Value.ref b] s = true := fun w hw => hts w (wsL_law_in w hw)
  have hbA : ¬ lwA s b := Nat.not_le.mpr hbl
  have hAB : ∀ q, lwA s q → gB G q := fun q hq => (show G.2.1 ≤ q by rw [hG]; exact hq)
  have hCF : CallFix p m c code 4 s #[Value.ref b] wsL_law RL := ⟨hx, hb, hml, hown, htsL⟩
  obtain ⟨r, S', v', e7, e8, h'⟩ := p_groomThen h (xs (nI i + 1).toNatClampNeg) (xs (nI i + 2).toNatClampNeg) (xs (nI i + 3).toNatClampNeg)
  refine lv_aload_n hx hb dL_law_564 rfl (lv_at hl 1 rfl) ?_
  refine lv_aload_n hx hb dL_law_565 rfl (lv_at hl 0 rfl) ?_
  refine lv_iload_n hx hb dL_law_566 rfl (lv_at hl 3 rfl) ?_
  refine lv_iconst (v := (1 : Int32)) hx hb dL_law_567 (by decide) ?_
  refine lv_iadd hx hb dL_law_568 ?_
  refine va_sld hx hb hX hbl hbA hS (lw_in 1 hL hi (by decide)) dL_law_569 ?_
  refine lv_aload_n hx hb dL_law_570 rfl (lv_at hl 0 rfl) ?_
  refine lv_iload_n hx hb dL_law_571 rfl (lv_at hl 3 rfl) ?_
  refine lv_iconst (v := (2 : Int32)) hx hb dL_law_572 (by decide) ?_
  refine lv_iadd hx hb dL_law_573 ?_
  refine va_sld hx hb hX hbl hbA hS (lw_in 2 hL hi (by decide)) dL_law_574 ?_
  refine lv_aload_n hx hb dL_law_575 rfl (lv_at hl 0 rfl) ?_
  refine lv_iload_n hx hb dL_law_576 rfl (lv_at hl 3 rfl) ?_
  refine lv_iconst (v := (3 : Int32)) hx hb dL_law_577 (by decide) ?_
  refine lv_iadd hx hb dL_law_578 ?_
  refine va_sld hx hb hX hbl hbA hS (lw_in 3 hL hi (by decide)) dL_law_579 ?_
  refine lw_c7 (r := .int r) (As := [.int (xs (nI i + 1).toNatClampNeg), .int (xs (nI i + 2).toNatClampNeg), .int (xs (nI i + 3).toNatClampNeg)]) (rest := []) hCF (k_X7_groomThen a S _ _ _ e7) (cwV 3 htsL gL_law_X7_groomThen rfl rfl rfl ⟨rfl, dk_X7_groomThen⟩ ⟨Nat.le_of_ble_eq_true rfl, Nat.le_of_ble_eq_true rfl⟩) hE hAB hP hD hS rfl hl.1 rfl (Nat.le_of_ble_eq_true rfl) dL_law_580 (fun H locs hP hD hS => ?_)
  refine lv_aload_n hx hb dL_law_583 rfl (lv_at hl 2 rfl) ?_
  refine lv_aload_n hx hb dL_law_584 rfl (lv_at hl 0 rfl) ?_
  refine lv_iload_n hx hb dL_law_585 rfl (lv_at hl 3 rfl) ?_
  refine lv_iconst (v := (1 : Int32)) hx hb dL_law_586 (by decide) ?_
  refine lv_iadd hx hb dL_law_587 ?_
  refine va_sld hx hb hX hbl hbA hS (lw_in 1 hL hi (by decide)) dL_law_588 ?_
  refine lv_aload_n hx hb dL_law_589 rfl (lv_at hl 0 rfl) ?_
  refine lv_iload_n hx hb dL_law_590 rfl (lv_at hl 3 rfl) ?_
  refine lv_iconst (v := (2 : Int32)) hx hb dL_law_591 (by decide) ?_
  refine lv_iadd hx hb dL_law_592 ?_
  refine va_sld hx hb hX hbl hbA hS (lw_in 2 hL hi (by decide)) dL_law_593 ?_
  refine lv_aload_n hx hb dL_law_594 rfl (lv_at hl 0 rfl) ?_
  refine lv_iload_n hx hb dL_law_595 rfl (lv_at hl 3 rfl) ?_
  refine lv_iconst (v := (3 : Int32)) hx hb dL_law_596 (by decide) ?_
  refine lv_iadd hx hb dL_law_597 ?_
  refine va_sld hx hb hX hbl hbA hS (lw_in 3 hL hi (by decide)) dL_law_598 ?_
  refine lw_c8 (r := .int r) (As := [.int (xs (nI i + 1).toNatClampNeg), .int (xs (nI i + 2).toNatClampNeg), .int (xs (nI i + 3).toNatClampNeg)]) (rest := [.int r]) hCF (k_X8_groomThen a' v _ _ _ e8) (cwV 3 htsL gL_law_X8_groomThen rfl rfl rfl ⟨rfl, dk_X8_groomThen⟩ ⟨Nat.le_of_ble_eq_true rfl, Nat.le_of_ble_eq_true rfl⟩) hE hAB hP hD hS rfl hl.1 rfl (Nat.le_of_ble_eq_true rfl) dL_law_599 (fun H locs hP hD hS => ?_)
  refine lv_icmp_eq (tgt := 1220) hx hb dL_law_602 (by decide) (fun _ => ?_) (fun q => absurd rfl q)
  exact kk S' v' h' H locs hP hD hS ls hl
set_option maxHeartbeats 1000000 in
theorem lw_known {p : Program} {e : Env} {s : State} {m : MethodId} {below : List Frame} {meth : Method} {c : Code} (l : Launch) {b L : Nat} {xs : Nat → Int32} {G : Gx} {a a' : Nat → Nat} {i : Nat} (hL : L ≤ 2048) (hi : i + 4 ≤ L) (C0 : lw_At p s m meth c b L xs) (hE : Amb G s) (hG : G.2.1 = s.heap.size) (kk : lwI p l e s m b below meth c G a a' i 1220) : lwI p l e s m b below meth c G a a' i 607 := by
  intro S v h H locs hP hD hS ls hl
  obtain ⟨hx, hb, hr, hml, hown, hts, hX, hbl, hlocks, hgv⟩ := C0
  have htsL : ∀ w ∈ wsL_law, w.before #[Value.ref b] s = true := fun w hw => hts w (wsL_law_in w hw)
  have hbA : ¬ lwA s b := Nat.not_le.mpr hbl
  have hAB : ∀ q, lwA s q → gB G q := fun q hq => (show G.2.1 ≤ q by rw [hG]; exact hq)
  have hCF : CallFix p m c code 4 s #[Value.ref b] wsL_law RL := ⟨hx, hb, hml, hown, htsL⟩
  obtain ⟨r, S', v', e7, e8, h'⟩ := p_known h (xs (nI i + 1).toNatClampNeg)
  refine lv_aload_n hx hb dL_law_607 rfl (lv_at hl 1 rfl) ?_
  refine lv_aload_n hx hb dL_law_608 rfl (lv_at hl 0 rfl) ?_
  refine lv_iload_n hx hb dL_law_609 rfl (lv_at hl 3 rfl) ?_
  refine lv_iconst (v := (1 : Int32)) hx hb dL_law_610 (by decide) ?_
  refine lv_iadd hx hb dL_law_611 ?_
  refine va_sld hx hb hX hbl hbA hS (lw_in 1 hL hi (by decide)) dL_law_612 ?_
  refine lw_c7 (r := .int r) (As := [.int (xs (nI i + 1).toNatClampNeg)]) (rest := []) hCF (k_X7_known a S _ e7) (cwV 1 htsL gL_law_X7_known rfl rfl rfl ⟨rfl, dk_X7_known⟩ ⟨Nat.le_of_ble_eq_true rfl, Nat.le_of_ble_eq_true rfl⟩) hE hAB hP hD hS rfl hl.1 rfl (Nat.le_of_ble_eq_true rfl) dL_law_613 (fun H locs hP hD hS => ?_)
  refine lv_aload_n hx hb dL_law_616 rfl (lv_at hl 2 rfl) ?_
  refine lv_aload_n hx hb dL_law_617 rfl (lv_at hl 0 rfl) ?_
  refine lv_iload_n hx hb dL_law_618 rfl (lv_at hl 3 rfl) ?_
  refine lv_iconst (v := (1 : Int32)) hx hb dL_law_619 (by decide) ?_
  refine lv_iadd hx hb dL_law_620 ?_
  refine va_sld hx hb hX hbl hbA hS (lw_in 1 hL hi (by decide)) dL_law_621 ?_
  refine lw_c8 (r := .int r) (As := [.int (xs (nI i + 1).toNatClampNeg)]) (rest := [.int r]) hCF (k_X8_known a' v _ e8) (cwV 1 htsL gL_law_X8_known rfl rfl rfl ⟨rfl, dk_X8_known⟩ ⟨Nat.le_of_ble_eq_true rfl, Nat.le_of_ble_eq_true rfl⟩) hE hAB hP hD hS rfl hl.1 rfl (Nat.le_of_ble_eq_true rfl) dL_law_622 (fun H locs hP hD hS => ?_)
  refine lv_icmp_eq (tgt := 1220) hx hb dL_law_625 (by decide) (fun _ => ?_) (fun q => absurd rfl q)
  exact kk S' v' h' H locs hP hD hS ls hl
set_option maxHeartbeats 1000000 in
theorem lw_when {p : Program} {e : Env} {s : State} {m : MethodId} {below : List Frame} {meth : Method} {c : Code} (l : Launch) {b L : Nat} {xs : Nat → Int32} {G : Gx} {a a' : Nat → Nat} {i : Nat} (hL : L ≤ 2048) (hi : i + 4 ≤ L) (C0 : lw_At p s m meth c b L xs) (hE : Amb G s) (hG : G.2.1 = s.heap.size) (kk : lwI p l e s m b below meth c G a a' i 1220) : lwI p l e s m b below meth c G a a' i 630 := by
  intro S v h H locs hP hD hS ls hl
  obtain ⟨hx, hb, hr, hml, hown, hts, hX, hbl, hlocks, hgv⟩ := C0
  have htsL : ∀ w ∈ wsL_law, w.before #[Value.ref b] s = true := fun w hw => hts w (wsL_law_in w hw)
  have hbA : ¬ lwA s b := Nat.not_le.mpr hbl
  have hAB : ∀ q, lwA s q → gB G q := fun q hq => (show G.2.1 ≤ q by rw [hG]; exact hq)
  have hCF : CallFix p m c code 4 s #[Value.ref b] wsL_law RL := ⟨hx, hb, hml, hown, htsL⟩
  obtain ⟨r, S', v', e7, e8, h'⟩ := p_when h (xs (nI i + 1).toNatClampNeg)
  refine lv_aload_n hx hb dL_law_630 rfl (lv_at hl 1 rfl) ?_
  refine lv_aload_n hx hb dL_law_631 rfl (lv_at hl 0 rfl) ?_
  refine lv_iload_n hx hb dL_law_632 rfl (lv_at hl 3 rfl) ?_
  refine lv_iconst (v := (1 : Int32)) hx hb dL_law_633 (by decide) ?_
  refine lv_iadd hx hb dL_law_634 ?_
  refine va_sld hx hb hX hbl hbA hS (lw_in 1 hL hi (by decide)) dL_law_635 ?_
  refine lw_c7 (r := .int r) (As := [.int (xs (nI i + 1).toNatClampNeg)]) (rest := []) hCF (k_X7_when a S _ e7) (cwV 1 htsL gL_law_X7_when rfl rfl rfl ⟨rfl, dk_X7_when⟩ ⟨Nat.le_of_ble_eq_true rfl, Nat.le_of_ble_eq_true rfl⟩) hE hAB hP hD hS rfl hl.1 rfl (Nat.le_of_ble_eq_true rfl) dL_law_636 (fun H locs hP hD hS => ?_)
  refine lv_aload_n hx hb dL_law_639 rfl (lv_at hl 2 rfl) ?_
  refine lv_aload_n hx hb dL_law_640 rfl (lv_at hl 0 rfl) ?_
  refine lv_iload_n hx hb dL_law_641 rfl (lv_at hl 3 rfl) ?_
  refine lv_iconst (v := (1 : Int32)) hx hb dL_law_642 (by decide) ?_
  refine lv_iadd hx hb dL_law_643 ?_
  refine va_sld hx hb hX hbl hbA hS (lw_in 1 hL hi (by decide)) dL_law_644 ?_
  refine lw_c8 (r := .int r) (As := [.int (xs (nI i + 1).toNatClampNeg)]) (rest := [.int r]) hCF (k_X8_when a' v _ e8) (cwV 1 htsL gL_law_X8_when rfl rfl rfl ⟨rfl, dk_X8_when⟩ ⟨Nat.le_of_ble_eq_true rfl, Nat.le_of_ble_eq_true rfl⟩) hE hAB hP hD hS rfl hl.1 rfl (Nat.le_of_ble_eq_true rfl) dL_law_645 (fun H locs hP hD hS => ?_)
  refine lv_icmp_eq (tgt := 1220) hx hb dL_law_648 (by decide) (fun _ => ?_) (fun q => absurd rfl q)
  exact kk S' v' h' H locs hP hD hS ls hl
set_option maxHeartbeats 1000000 in
theorem lw_takes {p : Program} {e : Env} {s : State} {m : MethodId} {below : List Frame} {meth : Method} {c : Code} (l : Launch) {b L : Nat} {xs : Nat → Int32} {G : Gx} {a a' : Nat → Nat} {i : Nat} (hL : L ≤ 2048) (hi : i + 4 ≤ L) (C0 : lw_At p s m meth c b L xs) (hE : Amb G s) (hG : G.2.1 = s.heap.size) (kk : lwI p l e s m b below meth c G a a' i 1220) : lwI p l e s m b below meth c G a a' i 653 := by
  intro S v h H locs hP hD hS ls hl
  obtain ⟨hx, hb, hr, hml, hown, hts, hX, hbl, hlocks, hgv⟩ := C0
  have htsL : ∀ w ∈ wsL_law, w.before #[Value.ref b] s = true := fun w hw => hts w (wsL_law_in w hw)
  have hbA : ¬ lwA s b := Nat.not_le.mpr hbl
  have hAB : ∀ q, lwA s q → gB G q := fun q hq => (show G.2.1 ≤ q by rw [hG]; exact hq)
  have hCF : CallFix p m c code 4 s #[Value.ref b] wsL_law RL := ⟨hx, hb, hml, hown, htsL⟩
  obtain ⟨r, S', v', e7, e8, h'⟩ := p_takes h (xs (nI i + 1).toNatClampNeg)
  refine lv_aload_n hx hb dL_law_653 rfl (lv_at hl 1 rfl) ?_
  refine lv_aload_n hx hb dL_law_654 rfl (lv_at hl 0 rfl) ?_
  refine lv_iload_n hx hb dL_law_655 rfl (lv_at hl 3 rfl) ?_
  refine lv_iconst (v := (1 : Int32)) hx hb dL_law_656 (by decide) ?_
  refine lv_iadd hx hb dL_law_657 ?_
  refine va_sld hx hb hX hbl hbA hS (lw_in 1 hL hi (by decide)) dL_law_658 ?_
  refine lw_c7 (r := .int r) (As := [.int (xs (nI i + 1).toNatClampNeg)]) (rest := []) hCF (k_X7_takes a S _ e7) (cwV 1 htsL gL_law_X7_takes rfl rfl rfl ⟨rfl, dk_X7_takes⟩ ⟨Nat.le_of_ble_eq_true rfl, Nat.le_of_ble_eq_true rfl⟩) hE hAB hP hD hS rfl hl.1 rfl (Nat.le_of_ble_eq_true rfl) dL_law_659 (fun H locs hP hD hS => ?_)
  refine lv_aload_n hx hb dL_law_662 rfl (lv_at hl 2 rfl) ?_
  refine lv_aload_n hx hb dL_law_663 rfl (lv_at hl 0 rfl) ?_
  refine lv_iload_n hx hb dL_law_664 rfl (lv_at hl 3 rfl) ?_
  refine lv_iconst (v := (1 : Int32)) hx hb dL_law_665 (by decide) ?_
  refine lv_iadd hx hb dL_law_666 ?_
  refine va_sld hx hb hX hbl hbA hS (lw_in 1 hL hi (by decide)) dL_law_667 ?_
  refine lw_c8 (r := .int r) (As := [.int (xs (nI i + 1).toNatClampNeg)]) (rest := [.int r]) hCF (k_X8_takes a' v _ e8) (cwV 1 htsL gL_law_X8_takes rfl rfl rfl ⟨rfl, dk_X8_takes⟩ ⟨Nat.le_of_ble_eq_true rfl, Nat.le_of_ble_eq_true rfl⟩) hE hAB hP hD hS rfl hl.1 rfl (Nat.le_of_ble_eq_true rfl) dL_law_668 (fun H locs hP hD hS => ?_)
  refine lv_icmp_eq (tgt := 1220) hx hb dL_law_671 (by decide) (fun _ => ?_) (fun q => absurd rfl q)
  exact kk S' v' h' H locs hP hD hS ls hl
set_option maxHeartbeats 1000000 in
theorem lw_hide {p : Program} {e : Env} {s : State} {m : MethodId} {below : List Frame} {meth : Method} {c : Code} (l : Launch) {b L : Nat} {xs : Nat → Int32} {G : Gx} {a a' : Nat → Nat} {i : Nat} (hL : L ≤ 2048) (hi : i + 4 ≤ L) (C0 : lw_At p s m meth c b L xs) (hE : Amb G s) (hG : G.2.1 = s.heap.size) (kk : lwI p l e s m b below meth c G a a' i 1220) : lwI p l e s m b below meth c G a a' i 676 := by
  intro S v h H locs hP hD hS ls hl
  obtain ⟨hx, hb, hr, hml, hown, hts, hX, hbl, hlocks, hgv⟩ := C0
  have htsL : ∀ w ∈ wsL_law, w.before #[Value.ref b] s = true := fun w hw => hts w (wsL_law_in w hw)
  have hbA : ¬ lwA s b := Nat.not_le.mpr hbl
  have hAB : ∀ q, lwA s q → gB G q := fun q hq => (show G.2.1 ≤ q by rw [hG]; exact hq)
  have hCF : CallFix p m c code 4 s #[Value.ref b] wsL_law RL := ⟨hx, hb, hml, hown, htsL⟩
  obtain ⟨r, S', v', e7, e8, h'⟩ := p_hide h (xs (nI i + 1).toNatClampNeg)
  refine lv_aload_n hx hb dL_law_676 rfl (lv_at hl 1 rfl) ?_
  refine lv_aload_n hx hb dL_law_677 rfl (lv_at hl 0 rfl) ?_
  refine lv_iload_n hx hb dL_law_678 rfl (lv_at hl 3 rfl) ?_
  refine lv_iconst (v := (1 : Int32)) hx hb dL_law_679 (by decide) ?_
  refine lv_iadd hx hb dL_law_680 ?_
  refine va_sld hx hb hX hbl hbA hS (lw_in 1 hL hi (by decide)) dL_law_681 ?_
  refine lw_c7 (r := .int r) (As := [.int (xs (nI i + 1).toNatClampNeg)]) (rest := []) hCF (k_X7_hide a S _ e7) (cwV 1 htsL gL_law_X7_hide rfl rfl rfl ⟨rfl, dk_X7_hide⟩ ⟨Nat.le_of_ble_eq_true rfl, Nat.le_of_ble_eq_true rfl⟩) hE hAB hP hD hS rfl hl.1 rfl (Nat.le_of_ble_eq_true rfl) dL_law_682 (fun H locs hP hD hS => ?_)
  refine lv_aload_n hx hb dL_law_685 rfl (lv_at hl 2 rfl) ?_
  refine lv_aload_n hx hb dL_law_686 rfl (lv_at hl 0 rfl) ?_
  refine lv_iload_n hx hb dL_law_687 rfl (lv_at hl 3 rfl) ?_
  refine lv_iconst (v := (1 : Int32)) hx hb dL_law_688 (by decide) ?_
  refine lv_iadd hx hb dL_law_689 ?_
  refine va_sld hx hb hX hbl hbA hS (lw_in 1 hL hi (by decide)) dL_law_690 ?_
  refine lw_c8 (r := .int r) (As := [.int (xs (nI i + 1).toNatClampNeg)]) (rest := [.int r]) hCF (k_X8_hide a' v _ e8) (cwV 1 htsL gL_law_X8_hide rfl rfl rfl ⟨rfl, dk_X8_hide⟩ ⟨Nat.le_of_ble_eq_true rfl, Nat.le_of_ble_eq_true rfl⟩) hE hAB hP hD hS rfl hl.1 rfl (Nat.le_of_ble_eq_true rfl) dL_law_691 (fun H locs hP hD hS => ?_)
  refine lv_icmp_eq (tgt := 1220) hx hb dL_law_694 (by decide) (fun _ => ?_) (fun q => absurd rfl q)
  exact kk S' v' h' H locs hP hD hS ls hl
set_option maxHeartbeats 1000000 in
theorem lw_forget {p : Program} {e : Env} {s : State} {m : MethodId} {below : List Frame} {meth : Method} {c : Code} (l : Launch) {b L : Nat} {xs : Nat → Int32} {G : Gx} {a a' : Nat → Nat} {i : Nat} (hL : L ≤ 2048) (hi : i + 4 ≤ L) (C0 : lw_At p s m meth c b L xs) (hE : Amb G s) (hG : G.2.1 = s.heap.size) (kk : lwI p l e s m b below meth c G a a' i 1220) : lwI p l e s m b below meth c G a a' i 699 := by
  intro S v h H locs hP hD hS ls hl
  obtain ⟨hx, hb, hr, hml, hown, hts, hX, hbl, hlocks, hgv⟩ := C0
  have htsL : ∀ w ∈ wsL_law, w.before #[Value.ref b] s = true := fun w hw => hts w (wsL_law_in w hw)
  have hbA : ¬ lwA s b := Nat.not_le.mpr hbl
  have hAB : ∀ q, lwA s q → gB G q := fun q hq => (show G.2.1 ≤ q by rw [hG]; exact hq)
  have hCF : CallFix p m c code 4 s #[Value.ref b] wsL_law RL := ⟨hx, hb, hml, hown, htsL⟩
  obtain ⟨r, S', v', e7, e8, h'⟩ := p_forget h (xs (nI i + 1).toNatClampNeg)
  refine lv_aload_n hx hb dL_law_699 rfl (lv_at hl 1 rfl) ?_
  refine lv_aload_n hx hb dL_law_700 rfl (lv_at hl 0 rfl) ?_
  refine lv_iload_n hx hb dL_law_701 rfl (lv_at hl 3 rfl) ?_
  refine lv_iconst (v := (1 : Int32)) hx hb dL_law_702 (by decide) ?_
  refine lv_iadd hx hb dL_law_703 ?_
  refine va_sld hx hb hX hbl hbA hS (lw_in 1 hL hi (by decide)) dL_law_704 ?_
  refine lw_c7 (r := .int r) (As := [.int (xs (nI i + 1).toNatClampNeg)]) (rest := []) hCF (k_X7_forget a S _ e7) (cwV 1 htsL gL_law_X7_forget rfl rfl rfl ⟨rfl, dk_X7_forget⟩ ⟨Nat.le_of_ble_eq_true rfl, Nat.le_of_ble_eq_true rfl⟩) hE hAB hP hD hS rfl hl.1 rfl (Nat.le_of_ble_eq_true rfl) dL_law_705 (fun H locs hP hD hS => ?_)
  refine lv_aload_n hx hb dL_law_708 rfl (lv_at hl 2 rfl) ?_
  refine lv_aload_n hx hb dL_law_709 rfl (lv_at hl 0 rfl) ?_
  refine lv_iload_n hx hb dL_law_710 rfl (lv_at hl 3 rfl) ?_
  refine lv_iconst (v := (1 : Int32)) hx hb dL_law_711 (by decide) ?_
  refine lv_iadd hx hb dL_law_712 ?_
  refine va_sld hx hb hX hbl hbA hS (lw_in 1 hL hi (by decide)) dL_law_713 ?_
  refine lw_c8 (r := .int r) (As := [.int (xs (nI i + 1).toNatClampNeg)]) (rest := [.int r]) hCF (k_X8_forget a' v _ e8) (cwV 1 htsL gL_law_X8_forget rfl rfl rfl ⟨rfl, dk_X8_forget⟩ ⟨Nat.le_of_ble_eq_true rfl, Nat.le_of_ble_eq_true rfl⟩) hE hAB hP hD hS rfl hl.1 rfl (Nat.le_of_ble_eq_true rfl) dL_law_714 (fun H locs hP hD hS => ?_)
  refine lv_icmp_eq (tgt := 1220) hx hb dL_law_717 (by decide) (fun _ => ?_) (fun q => absurd rfl q)
  exact kk S' v' h' H locs hP hD hS ls hl
set_option maxHeartbeats 1000000 in
theorem lw_drink {p : Program} {e : Env} {s : State} {m : MethodId} {below : List Frame} {meth : Method} {c : Code} (l : Launch) {b L : Nat} {xs : Nat → Int32} {G : Gx} {a a' : Nat → Nat} {i : Nat} (hL : L ≤ 2048) (hi : i + 4 ≤ L) (C0 : lw_At p s m meth c b L xs) (hE : Amb G s) (hG : G.2.1 = s.heap.size) (kk : lwI p l e s m b below meth c G a a' i 1220) : lwI p l e s m b below meth c G a a' i 722 := by
  intro S v h H locs hP hD hS ls hl
  obtain ⟨hx, hb, hr, hml, hown, hts, hX, hbl, hlocks, hgv⟩ := C0
  have htsL : ∀ w ∈ wsL_law, w.before #[Value.ref b] s = true := fun w hw => hts w (wsL_law_in w hw)
  have hbA : ¬ lwA s b := Nat.not_le.mpr hbl
  have hAB : ∀ q, lwA s q → gB G q := fun q hq => (show G.2.1 ≤ q by rw [hG]; exact hq)
  have hCF : CallFix p m c code 4 s #[Value.ref b] wsL_law RL := ⟨hx, hb, hml, hown, htsL⟩
  obtain ⟨r, S', v', e7, e8, h'⟩ := p_drink h (xs (nI i + 1).toNatClampNeg) (xs (nI i + 2).toNatClampNeg)
  refine lv_aload_n hx hb dL_law_722 rfl (lv_at hl 1 rfl) ?_
  refine lv_aload_n hx hb dL_law_723 rfl (lv_at hl 0 rfl) ?_
  refine lv_iload_n hx hb dL_law_724 rfl (lv_at hl 3 rfl) ?_
  refine lv_iconst (v := (1 : Int32)) hx hb dL_law_725 (by decide) ?_
  refine lv_iadd hx hb dL_law_726 ?_
  refine va_sld hx hb hX hbl hbA hS (lw_in 1 hL hi (by decide)) dL_law_727 ?_
  refine lv_aload_n hx hb dL_law_728 rfl (lv_at hl 0 rfl) ?_
  refine lv_iload_n hx hb dL_law_729 rfl (lv_at hl 3 rfl) ?_
  refine lv_iconst (v := (2 : Int32)) hx hb dL_law_730 (by decide) ?_
  refine lv_iadd hx hb dL_law_731 ?_
  refine va_sld hx hb hX hbl hbA hS (lw_in 2 hL hi (by decide)) dL_law_732 ?_
  refine lw_c7 (r := .int r) (As := [.int (xs (nI i + 1).toNatClampNeg), .int (xs (nI i + 2).toNatClampNeg)]) (rest := []) hCF (k_X7_drink a S _ _ e7) (cwV 2 htsL gL_law_X7_drink rfl rfl rfl ⟨rfl, dk_X7_drink⟩ ⟨Nat.le_of_ble_eq_true rfl, Nat.le_of_ble_eq_true rfl⟩) hE hAB hP hD hS rfl hl.1 rfl (Nat.le_of_ble_eq_true rfl) dL_law_733 (fun H locs hP hD hS => ?_)
  refine lv_aload_n hx hb dL_law_736 rfl (lv_at hl 2 rfl) ?_
  refine lv_aload_n hx hb dL_law_737 rfl (lv_at hl 0 rfl) ?_
  refine lv_iload_n hx hb dL_law_738 rfl (lv_at hl 3 rfl) ?_
  refine lv_iconst (v := (1 : Int32)) hx hb dL_law_739 (by decide) ?_
  refine lv_iadd hx hb dL_law_740 ?_
  refine va_sld hx hb hX hbl hbA hS (lw_in 1 hL hi (by decide)) dL_law_741 ?_
  refine lv_aload_n hx hb dL_law_742 rfl (lv_at hl 0 rfl) ?_
  refine lv_iload_n hx hb dL_law_743 rfl (lv_at hl 3 rfl) ?_
  refine lv_iconst (v := (2 : Int32)) hx hb dL_law_744 (by decide) ?_
  refine lv_iadd hx hb dL_law_745 ?_
  refine va_sld hx hb hX hbl hbA hS (lw_in 2 hL hi (by decide)) dL_law_746 ?_
  refine lw_c8 (r := .int r) (As := [.int (xs (nI i + 1).toNatClampNeg), .int (xs (nI i + 2).toNatClampNeg)]) (rest := [.int r]) hCF (k_X8_drink a' v _ _ e8) (cwV 2 htsL gL_law_X8_drink rfl rfl rfl ⟨rfl, dk_X8_drink⟩ ⟨Nat.le_of_ble_eq_true rfl, Nat.le_of_ble_eq_true rfl⟩) hE hAB hP hD hS rfl hl.1 rfl (Nat.le_of_ble_eq_true rfl) dL_law_747 (fun H locs hP hD hS => ?_)
  refine lv_icmp_eq (tgt := 1220) hx hb dL_law_750 (by decide) (fun _ => ?_) (fun q => absurd rfl q)
  exact kk S' v' h' H locs hP hD hS ls hl
set_option maxHeartbeats 1000000 in
theorem lw_away {p : Program} {e : Env} {s : State} {m : MethodId} {below : List Frame} {meth : Method} {c : Code} (l : Launch) {b L : Nat} {xs : Nat → Int32} {G : Gx} {a a' : Nat → Nat} {i : Nat} (hL : L ≤ 2048) (hi : i + 4 ≤ L) (C0 : lw_At p s m meth c b L xs) (hE : Amb G s) (hG : G.2.1 = s.heap.size) (kk : lwI p l e s m b below meth c G a a' i 1220) : lwI p l e s m b below meth c G a a' i 755 := by
  intro S v h H locs hP hD hS ls hl
  obtain ⟨hx, hb, hr, hml, hown, hts, hX, hbl, hlocks, hgv⟩ := C0
  have htsL : ∀ w ∈ wsL_law, w.before #[Value.ref b] s = true := fun w hw => hts w (wsL_law_in w hw)
  have hbA : ¬ lwA s b := Nat.not_le.mpr hbl
  have hAB : ∀ q, lwA s q → gB G q := fun q hq => (show G.2.1 ≤ q by rw [hG]; exact hq)
  have hCF : CallFix p m c code 4 s #[Value.ref b] wsL_law RL := ⟨hx, hb, hml, hown, htsL⟩
  obtain ⟨r, S', v', e7, e8, h'⟩ := p_away h
  refine lv_aload_n hx hb dL_law_755 rfl (lv_at hl 1 rfl) ?_
  refine lw_c7 (r := .int r) (As := []) (rest := []) hCF (k_X7_away a S e7) (cwV 0 htsL gL_law_X7_away rfl rfl rfl ⟨rfl, dk_X7_away⟩ ⟨Nat.le_of_ble_eq_true rfl, Nat.le_of_ble_eq_true rfl⟩) hE hAB hP hD hS rfl hl.1 rfl (Nat.le_of_ble_eq_true rfl) dL_law_756 (fun H locs hP hD hS => ?_)
  refine lv_aload_n hx hb dL_law_759 rfl (lv_at hl 2 rfl) ?_
  refine lw_c8 (r := .int r) (As := []) (rest := [.int r]) hCF (k_X8_away a' v e8) (cwV 0 htsL gL_law_X8_away rfl rfl rfl ⟨rfl, dk_X8_away⟩ ⟨Nat.le_of_ble_eq_true rfl, Nat.le_of_ble_eq_true rfl⟩) hE hAB hP hD hS rfl hl.1 rfl (Nat.le_of_ble_eq_true rfl) dL_law_760 (fun H locs hP hD hS => ?_)
  refine lv_icmp_eq (tgt := 1220) hx hb dL_law_763 (by decide) (fun _ => ?_) (fun q => absurd rfl q)
  exact kk S' v' h' H locs hP hD hS ls hl
