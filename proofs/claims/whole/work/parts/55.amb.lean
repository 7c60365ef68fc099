/-! THE LAW: what holds at its entry -/
def strIx (i : Nat) : Nat := [56, 58, 60, 62, 64, 66].getD i 0
theorem am_nest : ∀ w ∈ nestWs, w ∈ lw_tbl := mem_p _ [86, 140, 154, 168, 226, 235, 246, 394, 422, 443, 462, 483, 651, 661, 693, 703, 704, 772, 805, 806, 841, 887, 646, 783] (by decide +kernel)
theorem am_ff : ∀ j, j < 64 → Cond.eq (Term.elem (Term.static "BrideNotKnown" "FEWEST_FIRST" "[I") (Term.int (Int32.ofNat j))) (Term.int (ffT j)) ∈ flatC (Jvm.Cond.and given_1 narrow_1) := by decide +kernel
theorem am_fa : Cond.arrayOf (Term.static "BrideNotKnown" "FEWEST_FIRST" "[I") .int ∈ flatC (Jvm.Cond.and given_1 narrow_1) := by decide +kernel
theorem am_fl : Cond.eq (Term.length (Term.static "BrideNotKnown" "FEWEST_FIRST" "[I")) (Term.int (Int32.ofNat 64)) ∈ flatC (Jvm.Cond.and given_1 narrow_1) := by decide +kernel
theorem am_cs : Cond.eq (Term.static "java/lang/String" "COMPACT_STRINGS" "Z") (Term.int 1) ∈ flatC (Jvm.Cond.and given_1 narrow_1) := by decide +kernel
theorem am_sf : Cond.isRef (Term.static "jdk/internal/util/Preconditions" "SIOOBE_FORMATTER" "Ljava/util/function/BiFunction;") ∈ flatC (Jvm.Cond.and given_1 narrow_1) := by decide +kernel
theorem am_s1 : ∀ i, i < 6 → Cond.exactly (Term.string "BrideNotKnown$Text" (strIx i)) "java/lang/String" ∈ flatC (Jvm.Cond.and given_1 narrow_1) := by decide +kernel
theorem am_s2 : ∀ i, i < 6 → Cond.eq (Term.field (Term.string "BrideNotKnown$Text" (strIx i)) "java/lang/String" "coder" "B") (Term.int 0) ∈ flatC (Jvm.Cond.and given_1 narrow_1) := by decide +kernel
theorem am_s3 : ∀ i, i < 6 → Cond.arrayOf (Term.field (Term.string "BrideNotKnown$Text" (strIx i)) "java/lang/String" "value" "[B") .byte ∈ flatC (Jvm.Cond.and given_1 narrow_1) := by decide +kernel
theorem am_s4 : ∀ i, i < 6 → Cond.eq (Term.length (Term.field (Term.string "BrideNotKnown$Text" (strIx i)) "java/lang/String" "value" "[B")) (Term.int (Int32.ofNat (strLen.getD i 0))) ∈ flatC (Jvm.Cond.and given_1 narrow_1) := by decide +kernel
theorem am_s5 : ∀ i, i < 6 → ∀ j, j < strLen.getD i 0 → Cond.eq (Term.elem (Term.field (Term.string "BrideNotKnown$Text" (strIx i)) "java/lang/String" "value" "[B") (Term.int (Int32.ofNat j))) (Term.int ((strByt.getD i []).getD j 0)) ∈ flatC (Jvm.Cond.and given_1 narrow_1) := by decide +kernel
theorem am_s6 : ∀ i, i < 6 → ∀ j, j < 6 → i ≠ j → (Cond.not (Cond.eq (Term.string "BrideNotKnown$Text" (strIx i)) (Term.string "BrideNotKnown$Text" (strIx j))) ∈ flatC (Jvm.Cond.and given_1 narrow_1) ∨ Cond.not (Cond.eq (Term.string "BrideNotKnown$Text" (strIx j)) (Term.string "BrideNotKnown$Text" (strIx i))) ∈ flatC (Jvm.Cond.and given_1 narrow_1)) := by decide +kernel
set_option maxHeartbeats 4000000 in
set_option maxRecDepth 100000 in
theorem law_amb {p : Program} {s : State} {m : MethodId} {meth : Method} {c : Code} {b L : Nat} {xs : Nat → Int32} (C0 : lw_At p s m meth c b L xs) : ∃ G : Gx, G.2.1 = s.heap.size ∧ Amb G s ∧ va_AG s := by
  obtain ⟨hx, hb, hr, hml, hown, hts, hX, hbl, hlocks, hgv⟩ := C0
  have hs := flat_of_before _ hgv
  have hA : ∀ a : Nat, a < s.heap.size → ¬ (fun q : Nat => s.heap.size ≤ q) a := fun a h => Nat.not_le.mpr h
  obtain ⟨c0, iS0, hKn0⟩ := u_known (C := RX3) (T := TX3) (N := 2) (n := 2) hts inX3 (hts (.instantiable RX3 2) (List.mem_of_getElem? (i := 167) (by decide +kernel)))
  obtain ⟨c1, iS1, hKn1⟩ := u_known (C := RX4) (T := TX4) (N := 2) (n := 2) hts inX4 (hts (.instantiable RX4 2) (List.mem_of_getElem? (i := 153) (by decide +kernel)))
  obtain ⟨c2, iS2, hKn2⟩ := u_known (C := RX5) (T := TX5) (N := 2) (n := 2) hts inX5 (hts (.instantiable RX5 2) (List.mem_of_getElem? (i := 139) (by decide +kernel)))
  obtain ⟨c3, iS3, hKn3⟩ := u_known (C := RX6) (T := TX6) (N := 12) (n := 12) hts inX6 (hts (.instantiable RX6 12) (List.mem_of_getElem? (i := 85) (by decide +kernel)))
  obtain ⟨c4, iS4, hKn4⟩ := u_known (C := RX7) (T := TX7) (N := 8) (n := 8) hts inX7 (hts (.instantiable RX7 8) (List.mem_of_getElem? (i := 77) (by decide +kernel)))
  obtain ⟨c5, iS5, hKn5⟩ := u_known (C := RX8) (T := TX8) (N := 29) (n := 29) hts inX8 (hts (.instantiable RX8 29) (List.mem_of_getElem? (i := 941) (by decide +kernel)))
  obtain ⟨dC, dI, hKc⟩ : ∃ (dC : Nat → ClassId) (dI : Nat → Nat → Nat), ∀ (k : Nat) (q : vw_C), vwCl[k]? = some q → u_Kn s q.1 q.2.1 q.2.2 (dC k) (dI k) := by
    refine ⟨fun k => [c0, c1, c2, c3, c4, c5].getD k c0, fun k => [iS0, iS1, iS2, iS3, iS4, iS5].getD k iS0, ?_⟩
    intro k q hq
    match k, hq with
    | 0, hq => cases hq; exact hKn0
    | 1, hq => cases hq; exact hKn1
    | 2, hq => cases hq; exact hKn2
    | 3, hq => cases hq; exact hKn3
    | 4, hq => cases hq; exact hKn4
    | 5, hq => cases hq; exact hKn5
    | k + 6, hq => simp [vwCl] at hq
  obtain ⟨cI, kI, compI, f1, f2, f3⟩ := Cond.arrayClass_spec (hts (.arrayClass .int) (List.mem_of_getElem? (i := 137) (by decide +kernel)))
  obtain ⟨compG, cG, kG, g1, g2, g3, g4, g5⟩ := Jvm.Stand.arrayOver_specB (hts (.arrayOver (.array .int)) (List.mem_of_getElem? (i := 947) (by decide +kernel)))
  obtain ⟨t, ht, hT⟩ := va_Tof (N := 64) (ty := .int) (f := fun j => .int (ffT j)) (tm := (Term.static "BrideNotKnown" "FEWEST_FIRST" "[I")) (A := fun q : Nat => s.heap.size ≤ q) (by decide) (hs _ am_fa) (va_eqt (hs _ am_fl)) (fun j hj => va_eqt (hs _ (am_ff j hj))) hA
  have hZ1 : va_Z RX7 "FEWEST_FIRST" "[I" (.ref t) (fun q : Nat => s.heap.size ≤ q) s s.heap := va_Zref (hts (.laysStatic RX7 "FEWEST_FIRST" "[I") (List.mem_of_getElem? (i := 647) (by decide +kernel))) (hts (.initialized RX7) (List.mem_of_getElem? (i := 60) (by decide +kernel))) ht hA
  have hZ2 : va_Z "java/lang/String" "COMPACT_STRINGS" "Z" (.int 1) (fun q : Nat => s.heap.size ≤ q) s s.heap := va_Zof (hts (.laysStatic "java/lang/String" "COMPACT_STRINGS" "Z") (List.mem_of_getElem? (i := 268) (by decide +kernel))) (hts (.initialized "java/lang/String") (List.mem_of_getElem? (i := 66) (by decide +kernel))) (va_eqt (hs _ am_cs)) hA
  have hZ3 : va_Zq "jdk/internal/util/Preconditions" "SIOOBE_FORMATTER" "Ljava/util/function/BiFunction;" (fun q : Nat => s.heap.size ≤ q) s s.heap := va_Zqof (hts (.laysStatic "jdk/internal/util/Preconditions" "SIOOBE_FORMATTER" "Ljava/util/function/BiFunction;") (List.mem_of_getElem? (i := 284) (by decide +kernel))) (hts (.initialized "jdk/internal/util/Preconditions") (List.mem_of_getElem? (i := 68) (by decide +kernel))) (hs _ am_sf) hA
  obtain ⟨adK, adV, hSt, hk⟩ := vk_Sof (N := 6) (tm := fun i => Term.string "BrideNotKnown$Text" (strIx i)) (len := strLen) (byt := strByt) (A := fun q : Nat => s.heap.size ≤ q) (by decide) (fun i hi => hs _ (am_s1 i hi)) (fun i hi => hs _ (am_s2 i hi)) (fun i hi => hs _ (am_s3 i hi)) (fun i hi => hs _ (am_s4 i hi)) (fun i hi j hj => hs _ (am_s5 i hi j hj)) (fun i j hi hj hij => (am_s6 i hi j hj hij).imp (fun h => hs _ h) (fun h => hs _ h)) hA
  refine ⟨((dC, dI), s.heap.size, cI, cG, t, adK, adV), rfl, ⟨⟨hKc, fun k q h => ?_⟩, fun w hw => ?_, ⟨hZ1, hT, hZ2, hZ3, hSt⟩, fun q hq => ?_⟩, va_AG.of (hts (.arrayOver (.array .int)) (List.mem_of_getElem? (i := 947) (by decide +kernel)))⟩
  · match k, h with
    | 0, h =>
      cases h
      exact ⟨fun n z => ⟨fun k h => (by cases h), kI, f2, compI, f3⟩, f1⟩
    | 1, h =>
      cases h
      exact ⟨fun n z => ⟨fun k h => (by cases h), kG, g3, compG, g4⟩, g5⟩
    | k + 2, h => simp [tyW] at h
  · exact va_Nw.of (List.all_eq_true.mp (show nestWs.all (fun w => w.onTables) = true by decide +kernel) w hw) (hts w (am_nest w hw))
  · simp only [strWs, List.mem_cons, List.not_mem_nil, or_false] at hq
    rcases hq with rfl | rfl | rfl | rfl | rfl | rfl
    · exact vk_R.of (hts (.stringRef RX5 56 "k999;") (List.mem_of_getElem? (i := 250) (by decide +kernel))) (hk 0 (by decide))
    · exact vk_R.of (hts (.stringRef RX5 58 "9999;") (List.mem_of_getElem? (i := 251) (by decide +kernel))) (hk 1 (by decide))
    · exact vk_R.of (hts (.stringRef RX5 60 "99;") (List.mem_of_getElem? (i := 252) (by decide +kernel))) (hk 2 (by decide))
    · exact vk_R.of (hts (.stringRef RX5 62 "9;") (List.mem_of_getElem? (i := 253) (by decide +kernel))) (hk 3 (by decide))
    · exact vk_R.of (hts (.stringRef RX5 64 "") (List.mem_of_getElem? (i := 254) (by decide +kernel))) (hk 4 (by decide))
    · exact vk_R.of (hts (.stringRef RX5 66 "bsfctm") (List.mem_of_getElem? (i := 310) (by decide +kernel))) (hk 5 (by decide))
