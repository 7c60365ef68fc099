theorem lw_go {i L : Nat} (hL : L ≤ 2048) (hi : i ≤ L) (q : ¬ Int32.ofNat L - 4 < nI i) : i + 4 ≤ L := by
  rcases Nat.lt_or_ge L 4 with h | h
  · exact absurd (show Int32.ofNat L - 4 < nI i from by
      rcases (show L = 0 ∨ L = 1 ∨ L = 2 ∨ L = 3 by omega) with rfl | rfl | rfl | rfl <;> rcases (show i = 0 ∨ i = 1 ∨ i = 2 ∨ i = 3 by omega) with rfl | rfl | rfl | rfl <;> first | decide | omega) q
  · have e : Int32.ofNat L - 4 = nI (L - 4) := by
      have e1 : nI (L - 4) + nI 4 = nI L := by rw [nI_add, Nat.sub_add_cancel h]
      show nI L - nI 4 = _
      rw [← e1]
      simp
    rw [e, nI_ltN (by omega) (by omega)] at q
    omega
theorem lw_63 (x : Int32) : ∃ k : Nat, k < 64 ∧ x &&& 63 = nI k := by
  refine ⟨(x &&& 63).toBitVec.toNat, ?_, ?_⟩
  · have e : (x &&& 63).toBitVec.toNat = x.toBitVec.toNat &&& 63 := by
      rw [Int32.toBitVec_and, BitVec.toNat_and]
      rfl
    rw [e]
    exact Nat.lt_of_le_of_lt Nat.and_le_right (by decide)
  · apply Int32.toBitVec_inj.mp
    show _ = BitVec.ofNat 32 _
    rw [BitVec.ofNat_toNat]
    simp
set_option maxHeartbeats 4000000 in
set_option maxRecDepth 100000 in
theorem lw_switch {p : Program} {e : Env} {s : State} {m : MethodId} {below : List Frame} {meth : Method} {c : Code} (l : Launch) {b L : Nat} {xs : Nat → Int32} {G : Gx} {a a' : Nat → Nat} {i : Nat} (hL : L ≤ 2048) (hi : i + 4 ≤ L) (C0 : lw_At p s m meth c b L xs) (hE : Amb G s) (hG : G.2.1 = s.heap.size) (kk : lwI p l e s m b below meth c G a a' i 1220) {k : Nat} (hk : k < 64) {S : Nat → St} {v : St} (h : REL S v) {H : Heap} {locs : List Loc} (hP : va_P (gD G) vwCl (cW G a S ++ mW G a' v) H) (hD : va_D (lwA s) (cW G a S ++ mW G a' v)) (hS : va_S (lwA s) s.heap H locs) {ls : Array Slot} (hl : lv_has ls 4 (lwL b a a' i)) : lwW p l e s m b below meth c H locs 32 ls [.int (nI k)] := by
  obtain ⟨hx, hb, hr, hml, hown, hts, hX, hbl, hlocks, hgv⟩ := id C0
  rcases Nat.lt_or_ge k 40 with q | q
  · rcases (show k = 0 ∨ k = 1 ∨ k = 2 ∨ k = 3 ∨ k = 4 ∨ k = 5 ∨ k = 6 ∨ k = 7 ∨ k = 8 ∨ k = 9 ∨ k = 10 ∨ k = 11 ∨ k = 12 ∨ k = 13 ∨ k = 14 ∨ k = 15 ∨ k = 16 ∨ k = 17 ∨ k = 18 ∨ k = 19 ∨ k = 20 ∨ k = 21 ∨ k = 22 ∨ k = 23 ∨ k = 24 ∨ k = 25 ∨ k = 26 ∨ k = 27 ∨ k = 28 ∨ k = 29 ∨ k = 30 ∨ k = 31 ∨ k = 32 ∨ k = 33 ∨ k = 34 ∨ k = 35 ∨ k = 36 ∨ k = 37 ∨ k = 38 ∨ k = 39 by omega) with rfl | rfl | rfl | rfl | rfl | rfl | rfl | rfl | rfl | rfl | rfl | rfl | rfl | rfl | rfl | rfl | rfl | rfl | rfl | rfl | rfl | rfl | rfl | rfl | rfl | rfl | rfl | rfl | rfl | rfl | rfl | rfl | rfl | rfl | rfl | rfl | rfl | rfl | rfl | rfl
    · refine lv_tableIn (off := 176) (tgt := 208) hx hb dL_law_32 (by decide +kernel) (by decide +kernel) (by decide +kernel) (by decide +kernel) ?_
      exact lw_letter l hL hi C0 hE hG kk S v h H locs hP hD hS ls hl
    · refine lv_tableIn (off := 199) (tgt := 231) hx hb dL_law_32 (by decide +kernel) (by decide +kernel) (by decide +kernel) (by decide +kernel) ?_
      exact lw_valley l hL hi C0 hE hG kk S v h H locs hP hD hS ls hl
    · refine lv_tableIn (off := 212) (tgt := 244) hx hb dL_law_32 (by decide +kernel) (by decide +kernel) (by decide +kernel) (by decide +kernel) ?_
      exact lw_bride l hL hi C0 hE hG kk S v h H locs hP hD hS ls hl
    · refine lv_tableIn (off := 245) (tgt := 277) hx hb dL_law_32 (by decide +kernel) (by decide +kernel) (by decide +kernel) (by decide +kernel) ?_
      exact lw_groom l hL hi C0 hE hG kk S v h H locs hP hD hS ls hl
    · refine lv_tableIn (off := 278) (tgt := 310) hx hb dL_law_32 (by decide +kernel) (by decide +kernel) (by decide +kernel) (by decide +kernel) ?_
      exact lw_wedding l hL hi C0 hE hG kk S v h H locs hP hD hS ls hl
    · refine lv_tableIn (off := 301) (tgt := 333) hx hb dL_law_32 (by decide +kernel) (by decide +kernel) (by decide +kernel) (by decide +kernel) ?_
      exact lw_changes l hL hi C0 hE hG kk S v h H locs hP hD hS ls hl
    · refine lv_tableIn (off := 334) (tgt := 366) hx hb dL_law_32 (by decide +kernel) (by decide +kernel) (by decide +kernel) (by decide +kernel) ?_
      exact lw_looks l hL hi C0 hE hG kk S v h H locs hP hD hS ls hl
    · refine lv_tableIn (off := 367) (tgt := 399) hx hb dL_law_32 (by decide +kernel) (by decide +kernel) (by decide +kernel) (by decide +kernel) ?_
      exact lw_minds l hL hi C0 hE hG kk S v h H locs hP hD hS ls hl
    · refine lv_tableIn (off := 400) (tgt := 432) hx hb dL_law_32 (by decide +kernel) (by decide +kernel) (by decide +kernel) (by decide +kernel) ?_
      exact lw_drinks l hL hi C0 hE hG kk S v h H locs hP hD hS ls hl
    · refine lv_tableIn (off := 433) (tgt := 465) hx hb dL_law_32 (by decide +kernel) (by decide +kernel) (by decide +kernel) (by decide +kernel) ?_
      exact lw_turn l hL hi C0 hE hG kk S v h H locs hP hD hS ls hl
    · refine lv_tableIn (off := 476) (tgt := 508) hx hb dL_law_32 (by decide +kernel) (by decide +kernel) (by decide +kernel) (by decide +kernel) ?_
      exact lw_years l hL hi C0 hE hG kk S v h H locs hP hD hS ls hl
    · refine lv_tableIn (off := 499) (tgt := 531) hx hb dL_law_32 (by decide +kernel) (by decide +kernel) (by decide +kernel) (by decide +kernel) ?_
      exact lw_showsThen l hL hi C0 hE hG kk S v h H locs hP hD hS ls hl
    · refine lv_tableIn (off := 532) (tgt := 564) hx hb dL_law_32 (by decide +kernel) (by decide +kernel) (by decide +kernel) (by decide +kernel) ?_
      exact lw_groomThen l hL hi C0 hE hG kk S v h H locs hP hD hS ls hl
    · refine lv_tableIn (off := 575) (tgt := 607) hx hb dL_law_32 (by decide +kernel) (by decide +kernel) (by decide +kernel) (by decide +kernel) ?_
      exact lw_known l hL hi C0 hE hG kk S v h H locs hP hD hS ls hl
    · refine lv_tableIn (off := 598) (tgt := 630) hx hb dL_law_32 (by decide +kernel) (by decide +kernel) (by decide +kernel) (by decide +kernel) ?_
      exact lw_when l hL hi C0 hE hG kk S v h H locs hP hD hS ls hl
    · refine lv_tableIn (off := 621) (tgt := 653) hx hb dL_law_32 (by decide +kernel) (by decide +kernel) (by decide +kernel) (by decide +kernel) ?_
      exact lw_takes l hL hi C0 hE hG kk S v h H locs hP hD hS ls hl
    · refine lv_tableIn (off := 644) (tgt := 676) hx hb dL_law_32 (by decide +kernel) (by decide +kernel) (by decide +kernel) (by decide +kernel) ?_
      exact lw_hide l hL hi C0 hE hG kk S v h H locs hP hD hS ls hl
    · refine lv_tableIn (off := 667) (tgt := 699) hx hb dL_law_32 (by decide +kernel) (by decide +kernel) (by decide +kernel) (by decide +kernel) ?_
      exact lw_forget l hL hi C0 hE hG kk S v h H locs hP hD hS ls hl
    · refine lv_tableIn (off := 690) (tgt := 722) hx hb dL_law_32 (by decide +kernel) (by decide +kernel) (by decide +kernel) (by decide +kernel) ?_
      exact lw_drink l hL hi C0 hE hG kk S v h H locs hP hD hS ls hl
    · refine lv_tableIn (off := 723) (tgt := 755) hx hb dL_law_32 (by decide +kernel) (by decide +kernel) (by decide +kernel) (by decide +kernel) ?_
      exact lw_away l hL hi C0 hE hG kk S v h H locs hP hD hS ls hl
    · refine lv_tableIn (off := 736) (tgt := 768) hx hb dL_law_32 (by decide +kernel) (by decide +kernel) (by decide +kernel) (by decide +kernel) ?_
      exact lw_pairs l hL hi C0 hE hG kk S v h H locs hP hD hS ls hl
    · refine lv_tableIn (off := 759) (tgt := 791) hx hb dL_law_32 (by decide +kernel) (by decide +kernel) (by decide +kernel) (by decide +kernel) ?_
      exact lw_meant l hL hi C0 hE hG kk S v h H locs hP hD hS ls hl
    · refine lv_tableIn (off := 792) (tgt := 824) hx hb dL_law_32 (by decide +kernel) (by decide +kernel) (by decide +kernel) (by decide +kernel) ?_
      exact lw_loses l hL hi C0 hE hG kk S v h H locs hP hD hS ls hl
    · refine lv_tableIn (off := 805) (tgt := 837) hx hb dL_law_32 (by decide +kernel) (by decide +kernel) (by decide +kernel) (by decide +kernel) ?_
      exact lw_alike l hL hi C0 hE hG kk S v h H locs hP hD hS ls hl
    · refine lv_tableIn (off := 828) (tgt := 860) hx hb dL_law_32 (by decide +kernel) (by decide +kernel) (by decide +kernel) (by decide +kernel) ?_
      exact lw_tells l hL hi C0 hE hG kk S v h H locs hP hD hS ls hl
    · refine lv_tableIn (off := 841) (tgt := 873) hx hb dL_law_32 (by decide +kernel) (by decide +kernel) (by decide +kernel) (by decide +kernel) ?_
      exact lw_sees l hL hi C0 hE hG kk S v h H locs hP hD hS ls hl
    · refine lv_tableIn (off := 854) (tgt := 886) hx hb dL_law_32 (by decide +kernel) (by decide +kernel) (by decide +kernel) (by decide +kernel) ?_
      exact lw_order l hL hi C0 hE hG kk S v h H locs hP hD hS ls hl
    · refine lv_tableIn (off := 877) (tgt := 909) hx hb dL_law_32 (by decide +kernel) (by decide +kernel) (by decide +kernel) (by decide +kernel) ?_
      exact lw_lies l hL hi C0 hE hG kk S v h H locs hP hD hS ls hl
    · refine lv_tableIn (off := 890) (tgt := 922) hx hb dL_law_32 (by decide +kernel) (by decide +kernel) (by decide +kernel) (by decide +kernel) ?_
      exact lw_rightly l hL hi C0 hE hG kk S v h H locs hP hD hS ls hl
    · refine lv_tableIn (off := 913) (tgt := 945) hx hb dL_law_32 (by decide +kernel) (by decide +kernel) (by decide +kernel) (by decide +kernel) ?_
      exact lw_two l hL hi C0 hE hG kk S v h H locs hP hD hS ls hl
    · refine lv_tableIn (off := 946) (tgt := 978) hx hb dL_law_32 (by decide +kernel) (by decide +kernel) (by decide +kernel) (by decide +kernel) ?_
      exact lw_chance l hL hi C0 hE hG kk S v h H locs hP hD hS ls hl
    · refine lv_tableIn (off := 990) (tgt := 1022) hx hb dL_law_32 (by decide +kernel) (by decide +kernel) (by decide +kernel) (by decide +kernel) ?_
      exact lw_mean l hL hi C0 hE hG kk S v h H locs hP hD hS ls hl
    · refine lv_tableIn (off := 1014) (tgt := 1046) hx hb dL_law_32 (by decide +kernel) (by decide +kernel) (by decide +kernel) (by decide +kernel) ?_
      exact lw_whatIs l hL hi C0 hE hG kk S v h H locs hP hD hS ls hl
    · refine lv_tableIn (off := 1047) (tgt := 1079) hx hb dL_law_32 (by decide +kernel) (by decide +kernel) (by decide +kernel) (by decide +kernel) ?_
      exact lw_row l hL hi C0 hE hG kk S v h H locs hP hD hS ls hl
    · refine lv_tableIn (off := 1070) (tgt := 1102) hx hb dL_law_32 (by decide +kernel) (by decide +kernel) (by decide +kernel) (by decide +kernel) ?_
      exact lw_judge l hL hi C0 hE hG kk S v h H locs hP hD hS ls hl
    · refine lv_tableIn (off := 1083) (tgt := 1115) hx hb dL_law_32 (by decide +kernel) (by decide +kernel) (by decide +kernel) (by decide +kernel) ?_
      exact lw_clear l hL hi C0 hE hG kk S v h H locs hP hD hS ls hl
    · refine lv_tableIn (off := 1096) (tgt := 1128) hx hb dL_law_32 (by decide +kernel) (by decide +kernel) (by decide +kernel) (by decide +kernel) ?_
      exact lw_lots l hL hi C0 hE hG kk S v h H locs hP hD hS ls hl
    · refine lv_tableIn (off := 1139) (tgt := 1171) hx hb dL_law_32 (by decide +kernel) (by decide +kernel) (by decide +kernel) (by decide +kernel) ?_
      exact lw_image l hL hi C0 hE hG kk S v h H locs hP hD hS ls hl
    · refine lv_tableIn (off := 1152) (tgt := 1184) hx hb dL_law_32 (by decide +kernel) (by decide +kernel) (by decide +kernel) (by decide +kernel) ?_
      exact lw_on l hL hi C0 hE hG kk S v h H locs hP hD hS ls hl
    · refine lv_tableIn (off := 1165) (tgt := 1197) hx hb dL_law_32 (by decide +kernel) (by decide +kernel) (by decide +kernel) (by decide +kernel) ?_
      exact lw_count l hL hi C0 hE hG kk S v h H locs hP hD hS ls hl
  · refine lv_tableOut (tgt := 1220) hx hb dL_law_32 (Or.inr (by rw [nI_toInt (by omega)]; omega)) (by decide +kernel) ?_
    exact kk S v h H locs hP hD hS ls hl
set_option maxHeartbeats 4000000 in
set_option maxRecDepth 100000 in
theorem lw_loop {p : Program} {e : Env} {s : State} {m : MethodId} {below : List Frame} {meth : Method} {c : Code} (l : Launch) {b L : Nat} {xs : Nat → Int32} {G : Gx} {a a' : Nat → Nat} (hL : L ≤ 2048) (C0 : lw_At p s m meth c b L xs) (hE : Amb G s) (hG : G.2.1 = s.heap.size) : ∀ (n i : Nat), i ≤ L → L + 4 ≤ i + 4 * n → lwI p l e s m b below meth c G a a' i 18 := by
  obtain ⟨hx, hb, hr, hml, hown, hts, hX, hbl, hlocks, hgv⟩ := id C0
  have hbA : ¬ lwA s b := Nat.not_le.mpr hbl
  intro n
  induction n with
  | zero =>
    intro i h1 h2
    exact absurd h2 (by omega)
  | succ n ih =>
    intro i hi hin S v h H locs hP hD hS ls hl
    refine lv_iload_n hx hb dL_law_18 rfl (lv_at hl 3 rfl) ?_
    refine lv_aload_n hx hb dL_law_19 rfl (lv_at hl 0 rfl) ?_
    refine va_slen hx hb hX hbl hbA hS dL_law_20 ?_
    refine lv_iconst (v := (4 : Int32)) hx hb dL_law_21 (by decide) ?_
    refine lv_isub hx hb dL_law_22 ?_
    refine lv_icmp_gt (tgt := 1226) hx hb dL_law_23 (by decide) (fun q => ?_) (fun q => ?_)
    · refine lv_iconst (v := (1 : Int32)) hx hb dL_law_1226 (by decide) ?_
      refine va_forget (fun q hq => hS.2.2 q hq) ?_
      refine W.widen (k := 600000) (n := 7302250) (Nat.le_of_ble_eq_true rfl) (Nat.le_of_ble_eq_true rfl) ?_
      exact lw_ret hx hb hr hlocks dL_law_1227
    · have hi4 : i + 4 ≤ L := lw_go hL hi q
      have kk : lwI p l e s m b below meth c G a a' i 1220 := by
        intro S v h H locs hP hD hS ls hl
        refine lv_iinc (v := nI (i + 4)) (lv' := [(3, .int (nI (i + 4))), (0, .ref b), (1, .ref (a 0)), (2, .ref (a' 0))]) hx hb dL_law_1220 hl (k := 3) rfl (show nI i + Int32.ofInt 4 = nI (i + 4) from nI_add i 4) (by decide) rfl (fun ls hl => ?_)
        refine lv_goto (tgt := 18) hx hb dL_law_1223 (by decide) ?_
        exact ih (i + 4) (by omega) (by omega) S v h H locs hP hD hS ls (lv_sub hl [1, 2, 3, 0] rfl)
      refine lv_aload_n hx hb dL_law_26 rfl (lv_at hl 0 rfl) ?_
      refine lv_iload_n hx hb dL_law_27 rfl (lv_at hl 3 rfl) ?_
      refine va_sld hx hb hX hbl hbA hS (vp_in_nI (by omega) (by omega)) dL_law_28 ?_
      refine lv_bipush (v := (63 : Int32)) hx hb dL_law_29 (by decide) ?_
      refine lv_iand hx hb dL_law_31 ?_
      obtain ⟨k, hk, ek⟩ := lw_63 (xs (nI i).toNatClampNeg)
      rw [ek]
      exact lw_switch l hL hi4 C0 hE hG kk hk h hP hD hS hl
