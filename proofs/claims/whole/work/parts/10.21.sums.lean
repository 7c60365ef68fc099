/-! judge, order, lies, rightly, count -/
theorem nft : ¬ (false = true) := by decide
theorem shows_lt {A : AS} (w : WF A) {b n : Nat} (hb : b < 8) : shows_ A b n < 64 := by
  have h0 := (w.2.2.2.1 b hb).2.2.1
  have h1 := (w.2.2.2.1 (b - 1) (by omega)).2.2.1
  have hx := xor_lt h0 (pow_lt64 (k := A 1 b))
  have hi : (if (nY A + n) % 2 = 1 then A 2 b ^^^ 2 ^ (A 1 b % 6) else A 2 b) < 64 := by
    split
    · exact hx
    · exact h0
  show showsK A b (A 0 b) (A 1 b) n < 64
  unfold showsK
  split
  · exact h1
  split
  · exact hx
  split
  · exact hi
  split
  · exact xor_lt h1 h0
  split
  · exact Nat.lt_of_le_of_lt Nat.and_le_left hi
  · exact h0
/-- the class has thought, and is as before; so has the reference -/
theorem ag_th {S S' : Nat → St} {s s' : St} {A : AS} (w : WF A) (hy : nY A ≤ 999) (hv : RV (S 0) A) (hr : RR S s) (k : KI s s') (hm : RM s' A) (e0 : S' 0 = S 0) (e2 : S' 2 = S 2) (e3 : S' 3 = S 3) (e4 : S' 4 = S 4) (e6 : S' 6 = S 6) (r : Int32) : AG (some (r, S')) (some (r, s')) :=
  ⟨r, S', s', rfl, rfl, A, w, hy, by rw [e0]; exact hv, hm, hr.ki k e2 e3 e4 e6⟩
def lieS (A : AS) : Nat → Nat
  | 0 => 0
  | i + 1 => lieS A i + (if plc A i = 0 then cnt (shows_ A i 0 ^^^ A 2 i) else 0)
def rgtS (f : Nat) (c : Nat → Int32) : Nat → Nat
  | 0 => 0
  | i + 1 => rgtS f c i + (if f.testBit (c i).toNatClampNeg then 1 else 0)
def liqS (A : AS) : Nat → Nat
  | 0 => 0
  | i + 1 => liqS A i + A 7 i
theorem shl0 : ∀ i, i < 5 → (nI 0 <<< (nI i &&& 31)) = 0 := by decide
theorem has_hi : ∀ m, m < 64 → ∀ i, 6 ≤ i → m.testBit i = false := fun m hm i hi => Nat.testBit_lt_two_pow (Nat.lt_of_lt_of_le hm (Nat.pow_le_pow_right (n := 2) (by omega) hi))
section PU
variable {S : Nat → St} {s : St}
theorem p_judge (h : REL S s) : AG (f_X7_judge S) (f_X8_judge s) := by
  obtain ⟨A, w, hy, hv, hm, ht, ⟨n, hn, t2, t3, t4⟩, hf, hi⟩ := h
  have hg5 := w.2.1
  generalize hs0 : sA s 23 (upd (s 23) 9 0) = s0
  have hm0 : RM s0 A := by rw [← hs0]; exact ⟨hm.1, hm.2.1, hm.2.2.1, hm.2.2.2.1, hm.2.2.2.2⟩
  have h15 : s0 15 = s 15 := by rw [← hs0]; rfl
  have hend : ∀ r, AG (some (r, sS S 4 (sA (S 4) 1 (upd (S 4 1) 0 0)))) (some (r, s0)) := fun r => by
    rw [← hs0]
    exact ⟨_, _, _, rfl, rfl, A, w, hy, hv, ⟨hm.1, hm.2.1, hm.2.2.1, hm.2.2.2.1, hm.2.2.2.2⟩, ht, ⟨0, by omega, rfl, rfl, fun j hj => by omega⟩, hf, hi⟩
  have hC := floop (L := fun fuel i => f_X4_firstWrongGuess_2 (S 4) (S 0) fuel (nI i)) (p := fun i => decide (nG A ≤ i ∨ ¬ nI (cnt (guess A i 0)) = S 4 0 i)) (B := n) (none_ := some (-9 : Int32)) (some_ := fun i => some (nI i))
    (fun f => by show f_X4_firstWrongGuess_2 _ _ (f + 1) (nI n) = _; rw [f_X4_firstWrongGuess_2, t2, if_pos (nI_le (Nat.le_refl _) (by omega))])
    (fun f i hi hp => by
      show f_X4_firstWrongGuess_2 _ _ (f + 1) (nI i) = _
      have hp := of_decide_eq_true hp
      rw [f_X4_firstWrongGuess_2, t2, if_neg (nI_ge hi (by omega)), c_hasGroom hv w (by omega), Option.bind_some]
      by_cases hg : i < nG A
      · rw [if_pos hg, if_neg ni1, show f_X6_guesses (S 0) (nI i) 0 = _ from c_guesses hv w (n := 0) (by omega) (by omega), Option.bind_some, bc_m _ (gs_lt A _ _ _), Option.bind_some, at_in (by omega) (by omega), Option.bind_some, if_neg (hp.resolve_left (by omega)), f_X4_firstWrongGuess_43, if_pos rfl]
      · rw [if_neg hg, if_pos ni0, f_X4_firstWrongGuess_43, if_pos rfl])
    (fun f i hi hp => by
      show f_X4_firstWrongGuess_2 _ _ (f + 1) (nI i) = f_X4_firstWrongGuess_2 _ _ f (nI (i + 1))
      have hp := of_decide_eq_false hp
      have hg : i < nG A := Nat.lt_of_not_le fun z => hp (Or.inl z)
      have hq : nI (cnt (guess A i 0)) = S 4 0 i := Decidable.byContradiction fun z => hp (Or.inr z)
      rw [f_X4_firstWrongGuess_2, t2, if_neg (nI_ge hi (by omega)), c_hasGroom hv w (by omega), Option.bind_some, if_pos hg, if_neg ni1, show f_X6_guesses (S 0) (nI i) 0 = _ from c_guesses hv w (n := 0) (by omega) (by omega), Option.bind_some, bc_m _ (gs_lt A _ _ _), Option.bind_some, at_in (by omega) (by omega), Option.bind_some, if_pos hq, f_X4_firstWrongGuess_43, if_neg n10, k1, nI_add])
    n 0 2000 (by omega) (by omega)
  have hM := floop (L := fun fuel i => f_X8_judge_12 s0 (nI n) fuel (nI i)) (p := fun i => decide (nG A ≤ i ∨ ¬ nI (cnt (guess A i 0)) = S 4 0 i)) (B := n) (none_ := some ((-9 : Int32), s0)) (some_ := fun i => some (nI i, s0))
    (fun f => by show f_X8_judge_12 _ _ (f + 1) (nI n) = _; rw [f_X8_judge_12, if_pos (nI_le (Nat.le_refl _) (by omega))])
    (fun f i hi hp => by
      show f_X8_judge_12 _ _ (f + 1) (nI i) = _
      have hp := of_decide_eq_true hp
      obtain ⟨c, c1, c2, c3⟩ := t4 i hi
      rw [f_X8_judge_12, if_neg (nI_ge hi (by omega)), hm0.2.1]
      by_cases hg : i < nG A
      · rw [if_neg (nI_ge hg (by omega)), m_guesses hm0 w (by omega), Option.bind_some, bits_m _ (gs_lt A _ _ _), Option.bind_some, gd_in (by omega) (by omega), nI_clamp (by omega), h15, c3, ← c2, if_neg (hp.resolve_left (by omega))]
      · rw [if_pos (nI_le (by omega) (by omega))])
    (fun f i hi hp => by
      show f_X8_judge_12 _ _ (f + 1) (nI i) = f_X8_judge_12 _ _ f (nI (i + 1))
      have hp := of_decide_eq_false hp
      have hg : i < nG A := Nat.lt_of_not_le fun z => hp (Or.inl z)
      have hq : nI (cnt (guess A i 0)) = S 4 0 i := Decidable.byContradiction fun z => hp (Or.inr z)
      obtain ⟨c, c1, c2, c3⟩ := t4 i hi
      rw [f_X8_judge_12, if_neg (nI_ge hi (by omega)), hm0.2.1, if_neg (nI_ge hg (by omega)), m_guesses hm0 w (by omega), Option.bind_some, bits_m _ (gs_lt A _ _ _), Option.bind_some, gd_in (by omega) (by omega), nI_clamp (by omega), h15, c3, ← c2, if_pos hq, k1, nI_add])
    n 0 2000 (by omega) (by omega)
  have hC : f_X4_firstWrongGuess_2 (S 4) (S 0) 2000 0 = _ := hC
  have hM : f_X8_judge_12 s0 (nI n) 2000 0 = _ := hM
  rw [f_X7_judge, f_X8_judge, f_X4_firstWrongGuess, FUEL_v, hC, t3, hs0, hM, f_X4_empty]
  cases first (fun i => decide (nG A ≤ i ∨ ¬ nI (cnt (guess A i 0)) = S 4 0 i)) 0 n with
  | none => exact hend _
  | some j => exact hend _
theorem p_order (h : REL S s) (x : Int32) : AG (f_X7_order S x) (f_X8_order s x) := by
  have h' := h
  obtain ⟨A, w, hy, hv, hm, hr⟩ := h
  have hg5 := w.2.1
  have hle := wa_le A (nG A)
  obtain ⟨v1, e1, hv1⟩ := c_become (v := S 1) hv
  obtain ⟨s1, g1, r1, q1, n1⟩ := m_thinks hm
  obtain ⟨s2, g2, r2, q2⟩ := m_wedsAll r1 w
  obtain ⟨s3, g3, r3, q3⟩ := m_forgets (q2.enc n1)
  rw [f_X7_order, f_X8_order]
  rcases either_cases x with ⟨rfl, e5, e6⟩ | ⟨rfl, e5, e6⟩ | ⟨h0, h1, e5, e6⟩
  · obtain ⟨v2, e2, hv2⟩ := c_wedAll hv1 w 0 (by omega)
    have e2 : f_X6_wedAll v1 0 = _ := e2
    rw [e5, Option.bind_some, if_pos rfl, e1, Option.bind_some, e2, Option.bind_some, e6, Option.bind_some, if_neg n10, g1, Option.bind_some, g2, Option.bind_some, g3, Option.bind_some, if_pos rfl, if_pos rfl, k100, pk_div (by omega) (by omega) (by omega), show (100 * (wa A (nG A)).2.1 + (wa A (nG A)).2.2) / 100 = (wa A (nG A)).2.1 by omega]
    exact ag_th (S' := sS (sS S 1 v1) 1 v2) w hy hv hr ((q1.tr q2.ki).tr q3.ki) r3 rfl rfl rfl rfl rfl _
  · obtain ⟨v2, e2, hv2⟩ := c_wedAll hv1 w 1 (by omega)
    have e2 : f_X6_wedAll v1 1 = _ := e2
    rw [e5, Option.bind_some, if_pos rfl, e1, Option.bind_some, e2, Option.bind_some, e6, Option.bind_some, if_neg n10, g1, Option.bind_some, g2, Option.bind_some, g3, Option.bind_some, if_neg n10, if_neg (by omega), k100, nI_rem (by omega) (by omega) (by omega), show (100 * (wa A (nG A)).2.1 + (wa A (nG A)).2.2) % 100 = (wa A (nG A)).2.2 by omega]
    exact ag_th (S' := sS (sS S 1 v1) 1 v2) w hy hv hr ((q1.tr q2.ki).tr q3.ki) r3 rfl rfl rfl rfl rfl _
  · rw [e5, Option.bind_some, if_neg n10, e6, Option.bind_some, if_pos rfl]; exact ag_no h' 2 (by omega) (by decide)
theorem c_isHere {v : St} {A : AS} (h : RV v A) (w : WF A) {b : Nat} (hb : b < 8) : f_X6_isHere v (nI b) = some (nI (if plc A b = 0 then 1 else 0)) := by
  have := plc_le (A := A) (b := b)
  rw [f_X6_isHere, c_placeOf h w hb, Option.bind_some, ifZ (by omega)]
  split <;> rfl
theorem p_lies (h : REL S s) : ∃ r, f_X7_lies S = some r ∧ f_X8_lies s = some r := by
  obtain ⟨A, w, hy, hv, hm, hr⟩ := h
  have hb8 := w.1
  refine ⟨nI (lieS A (nB A)), ?_, ?_⟩
  · rw [f_X7_lies, FUEL_v]
    refine iloop (L := fun fuel i a => f_X7_lies_4 S fuel a (nI i)) (a := fun i => nI (lieS A i)) (B := nB A) ?_ ?_ (nB A) 0 2000 (by omega) (by omega)
    · intro f
      show f_X7_lies_4 S (f + 1) _ _ = _
      rw [f_X7_lies_4, hv.2.1, if_pos (nI_le (Nat.le_refl _) (by omega))]
    · intro f i hi
      show f_X7_lies_4 S (f + 1) _ _ = f_X7_lies_4 S f (nI (lieS A i + (if plc A i = 0 then cnt (shows_ A i 0 ^^^ A 2 i) else 0))) _
      have hx := xor_lt (shows_lt w (b := i) (n := 0) (by omega)) (w.2.2.2.1 i (by omega)).2.2.1
      rw [f_X7_lies_4, hv.2.1, if_neg (nI_ge hi (by omega)), c_isHere hv w (by omega), Option.bind_some]
      by_cases e : plc A i = 0
      · rw [if_pos e, if_pos e, if_neg ni1, show f_X6_shows (S 0) (nI i) 0 = _ from c_shows0 hv w (n := 0) (by omega) (by omega), Option.bind_some, f_X6_footOf, at_in (by omega) (by omega), (hv.2.2.2.2.2.1 i (by omega)).2.2.1, Option.bind_some, Option.bind_some, nI_xor, bc_m _ (by omega), Option.bind_some, nI_add, k1, nI_add]
      · rw [if_neg e, if_neg e, if_pos ni0, k1, nI_add] <;> rfl
  · rw [f_X8_lies, FUEL_v]
    refine iloop (L := fun fuel i a => f_X8_lies_4 s fuel a (nI i)) (a := fun i => nI (lieS A i)) (B := nB A) ?_ ?_ (nB A) 0 2000 (by omega) (by omega)
    · intro f
      show f_X8_lies_4 s (f + 1) _ _ = _
      rw [f_X8_lies_4, hm.1, if_pos (nI_le (Nat.le_refl _) (by omega))]
    · intro f i hi
      show f_X8_lies_4 s (f + 1) _ _ = f_X8_lies_4 s f (nI (lieS A i + (if plc A i = 0 then cnt (shows_ A i 0 ^^^ A 2 i) else 0))) _
      have hx := xor_lt (shows_lt w (b := i) (n := 0) (by omega)) (w.2.2.2.1 i (by omega)).2.2.1
      obtain ⟨m1, m2, m3, m4, m5⟩ := hm.2.2.2.1 i (by omega)
      have hpl := plc_le (A := A) (b := i)
      rw [f_X8_lies_4, hm.1, if_neg (nI_ge hi (by omega)), gd_in (by omega) (by omega), nI_clamp (by omega), m4, ifZ (by omega)]
      by_cases e : plc A i = 0
      · rw [if_pos e, if_pos e, m_showsOf hm w (by omega), Option.bind_some, gd_in (by omega) (by omega), m3, nI_xor, bits_m _ (by omega), Option.bind_some, nI_add, k1, nI_add]
      · rw [if_neg e, if_neg e, k0, nI_add, k1, nI_add]
theorem p_rightly (h : REL S s) (x : Int32) : AG (f_X7_rightly S x) (f_X8_rightly s x) := by
  have h' := h
  obtain ⟨A, w, hy, hv, hm, ht, ⟨n, hn, t2, t3, t4⟩, hf, hi⟩ := h
  have hb8 := w.1
  rw [f_X7_rightly, f_X8_rightly, c_hasBride hv, m_isBride hm, Option.bind_some, Option.bind_some]
  rcases br_cases (n := nB A) (by omega) x with e | ⟨b, hb, rfl, e⟩
  · rw [e, if_pos rfl, if_pos rfl]; exact ag_no h' 1 (by omega) (by decide)
  have hb : b < 8 := by omega
  have hft := (w.2.2.2.1 b hb).2.2.1
  rw [e, if_neg n10, if_neg n10, f_X6_footOf, at_in (by omega) hb, (hv.2.2.2.2.2.1 b hb).2.2.1, Option.bind_some, Option.bind_some, f_X4_howManyToesOf, FUEL_v]
  have hC := iloop (L := fun fuel i a => f_X4_howManyToesOf_4 (S 4) (nI (A 2 b)) fuel a (nI i)) (a := fun i => nI (rgtS (A 2 b) (S 4 0) i)) (B := n) (r := some (nI (rgtS (A 2 b) (S 4 0) n)))
    (fun f => by
      show f_X4_howManyToesOf_4 _ _ (f + 1) _ _ = _
      rw [f_X4_howManyToesOf_4, t2, if_pos (nI_le (Nat.le_refl _) (by omega))])
    (fun f i hi => by
      show f_X4_howManyToesOf_4 _ _ (f + 1) _ _ = f_X4_howManyToesOf_4 _ _ f (nI (rgtS (A 2 b) (S 4 0) i + (if (A 2 b).testBit (S 4 0 i).toNatClampNeg then 1 else 0))) _
      obtain ⟨c, c1, c2, c3⟩ := t4 i hi
      rw [f_X4_howManyToesOf_4, t2, if_neg (nI_ge hi (by omega)), at_in (by omega) (by omega), Option.bind_some, c2, has_m _ (by omega) c c1, Option.bind_some, nI_clamp (by omega)]
      cases (A 2 b).testBit c with
      | false => rw [if_neg nft, if_pos ni0, k1, nI_add] <;> rfl
      | true => rw [if_pos rfl, if_neg ni1, k1, nI_add, nI_add])
    n 0 2000 (by omega) (by omega)
  have hC : f_X4_howManyToesOf_4 (S 4) (nI (A 2 b)) 2000 0 0 = _ := hC
  have hM := iloop (L := fun fuel i a => f_X8_rightly_18 s (nI b) fuel a (nI i)) (a := fun i => nI (rgtS (A 2 b) (S 4 0) i)) (B := n) (r := some (nI (rgtS (A 2 b) (S 4 0) n), s))
    (fun f => by
      show f_X8_rightly_18 _ _ (f + 1) _ _ = _
      rw [f_X8_rightly_18, t3, if_pos (nI_le (Nat.le_refl _) (by omega))])
    (fun f i hi => by
      show f_X8_rightly_18 _ _ (f + 1) _ _ = f_X8_rightly_18 _ _ f (nI (rgtS (A 2 b) (S 4 0) i + (if (A 2 b).testBit (S 4 0 i).toNatClampNeg then 1 else 0))) _
      obtain ⟨c, c1, c2, c3⟩ := t4 i hi
      rw [f_X8_rightly_18, t3, if_neg (nI_ge hi (by omega)), gd_in (by omega) (by omega), nI_clamp (by omega), c3, c2, k6, ifL (by omega) (by omega), nI_clamp (n := c) (by omega)]
      by_cases h6 : 6 ≤ c
      · rw [if_pos h6, has_hi _ hft c h6, k0, nI_add, k1, nI_add, if_neg nft]
      · rw [if_neg h6, gd_in hb (by omega), gd_in (by omega) (by omega), nI_clamp (by omega), (hm.2.2.2.1 b hb).2.2.1, mhas_m _ (by omega) c (by omega), Option.bind_some]
        cases (A 2 b).testBit c with
        | false => rw [if_neg nft, if_pos ni0, k0, nI_add, k1, nI_add] <;> rfl
        | true => rw [if_pos rfl, if_neg ni1, k1, nI_add, nI_add])
    n 0 2000 (by omega) (by omega)
  have hM : f_X8_rightly_18 s (nI b) 2000 0 0 = _ := hM
  rw [hC, hM]
  exact ag_rd h' _
theorem c_allLiquor {v : St} {A : AS} (hv : RV v A) (w : WF A) : f_X6_allLiquor v = some (nI (liqS A (nG A))) := by
  have hg5 := w.2.1
  rw [f_X6_allLiquor, FUEL_v]
  refine iloop (L := fun fuel i a => f_X6_allLiquor_4 v fuel a (nI i)) (a := fun i => nI (liqS A i)) (B := nG A) ?_ ?_ (nG A) 0 2000 (by omega) (by omega)
  · intro f
    show f_X6_allLiquor_4 v (f + 1) _ _ = _
    rw [f_X6_allLiquor_4, hv.2.2.2.1, if_pos (nI_le (Nat.le_refl _) (by omega))]
  · intro f i hi
    show f_X6_allLiquor_4 v (f + 1) _ _ = f_X6_allLiquor_4 v f (nI (liqS A i + A 7 i)) _
    rw [f_X6_allLiquor_4, hv.2.2.2.1, if_neg (nI_ge hi (by omega)), f_X6_liquorOf, at_in (by omega) (by omega), (hv.2.2.2.2.2.2 i (by omega)).2.2, Option.bind_some, Option.bind_some, nI_add, k1, nI_add]
theorem m_allLiquor {A : AS} (hm : RM s A) (w : WF A) : f_X8_count_99 s 2000 0 0 = some (nI (liqS A (nG A))) := by
  have hg5 := w.2.1
  refine iloop (L := fun fuel i a => f_X8_count_99 s fuel a (nI i)) (a := fun i => nI (liqS A i)) (B := nG A) ?_ ?_ (nG A) 0 2000 (by omega) (by omega)
  · intro f
    show f_X8_count_99 s (f + 1) _ _ = _
    rw [f_X8_count_99, hm.2.1, if_pos (nI_le (Nat.le_refl _) (by omega))]
  · intro f i hi
    show f_X8_count_99 s (f + 1) _ _ = f_X8_count_99 s f (nI (liqS A i + A 7 i)) _
    rw [f_X8_count_99, hm.2.1, if_neg (nI_ge hi (by omega)), gd_in (by omega) (by omega), nI_clamp (by omega), (hm.2.2.2.2 i (by omega)).2.2.1, nI_add, k1, nI_add]
theorem m_marriedOnes {A : AS} (hm : RM s A) (w : WF A) : f_X8_marriedOnes s = some (nI (mk (fun g => A 8 g == 1) 5)) := by
  have hg5 := w.2.1
  have hmk : mk (fun g => A 8 g == 1) (nG A) = mk (fun g => A 8 g == 1) 5 := mk_ext fun i => by
    by_cases h1 : i < nG A
    · simp [h1, show i < 5 by omega]
    · by_cases h2 : i < 5
      · have := ((w.2.2.2.2 i h2).2.2.2.2 (by omega)).1
        simp [h1, this]
      · simp [h1, h2]
  rw [f_X8_marriedOnes, FUEL_v, ← hmk]
  refine iloop (L := fun fuel i a => f_X8_marriedOnes_4 s fuel a (nI i)) (a := fun i => nI (mk (fun g => A 8 g == 1) i)) (B := nG A) ?_ ?_ (nG A) 0 2000 (by omega) (by omega)
  · intro f
    show f_X8_marriedOnes_4 s (f + 1) _ _ = _
    rw [f_X8_marriedOnes_4, hm.2.1, if_pos (nI_le (Nat.le_refl _) (by omega))]
  · intro f i hi
    show f_X8_marriedOnes_4 s (f + 1) _ _ = f_X8_marriedOnes_4 s f _ _
    have h8 := (w.2.2.2.2 i (by omega)).2.2.2.1
    rw [f_X8_marriedOnes_4, hm.2.1, if_neg (nI_ge hi (by omega)), gd_in (by omega) (by omega), nI_clamp (by omega), (hm.2.2.2.2 i (by omega)).2.2.2]
    rcases (show A 8 i = 0 ∨ A 8 i = 1 by omega) with e | e
    · rw [e, shl0 i (by omega), or0, mk_n (p := fun g => A 8 g == 1) (by simp [e]), k1, nI_add]
    · have := orB (p := fun g => A 8 g == 1) (i := i) (by omega)
      rw [e, show nI 1 = (1 : Int32) from rfl, this, mk_s (p := fun g => A 8 g == 1) (by simp [e]), k1, nI_add]
theorem p_count (h : REL S s) (x : Int32) : ∃ r, f_X7_count S x = some r ∧ f_X8_count s x = some r := by
  obtain ⟨A, w, hy, hv, hm, ⟨n, hn, t2, t3, t4⟩, ⟨n', hn', u2, u3, u4⟩, hf, hi⟩ := h
  have key : ∃ r, f_X7_count_24 S x = some r ∧ (if x = (0 : Int32) then some (s 23 0) else if x = (1 : Int32) then some (s 23 1) else if x = (2 : Int32) then some (s 23 2) else if x = (3 : Int32) then (f_X8_here s).bind (fun q1969 => some q1969) else if x = (4 : Int32) then (f_X8_marriedOnes s).bind (fun q1970 => some q1970) else if x = (5 : Int32) then f_X8_count_99 s FUEL (0 : Int32) (0 : Int32) else if x = (6 : Int32) then some (s 23 9) else if x = (7 : Int32) then some (s 23 3) else some (-9 : Int32)) = some r := by
    rw [f_X7_count_24]
    by_cases y0 : x = 0
    · rw [if_pos y0, if_pos y0]; exact ⟨_, rfl, congrArg some (hm.1.trans hv.2.1.symm)⟩
    rw [if_neg y0, if_neg y0]
    by_cases y1 : x = 1
    · rw [if_pos y1, if_pos y1]; exact ⟨_, rfl, congrArg some (hm.2.1.trans hv.2.2.2.1.symm)⟩
    rw [if_neg y1, if_neg y1]
    by_cases y2 : x = 2
    · rw [if_pos y2, if_pos y2]; exact ⟨_, rfl, congrArg some (hm.2.2.1.trans hv.1.symm)⟩
    rw [if_neg y2, if_neg y2]
    by_cases y3 : x = 3
    · rw [if_pos y3, if_pos y3, show f_X6_hereThen (S 0) 0 = _ from c_hereThen hv w (n := 0) (by omega), m_here hm w]; exact ⟨_, rfl, rfl⟩
    rw [if_neg y3, if_neg y3]
    by_cases y4 : x = 4
    · rw [if_pos y4, if_pos y4, hv.2.2.2.2.1, m_marriedOnes hm w]; exact ⟨_, rfl, rfl⟩
    rw [if_neg y4, if_neg y4]
    by_cases y5 : x = 5
    · rw [if_pos y5, if_pos y5, c_allLiquor hv w, FUEL_v, m_allLiquor hm w]; exact ⟨_, rfl, rfl⟩
    rw [if_neg y5, if_neg y5]
    by_cases y6 : x = 6
    · rw [if_pos y6, if_pos y6, u2, u3]; exact ⟨_, rfl, rfl⟩
    rw [if_neg y6, if_neg y6]
    by_cases y7 : x = 7
    · rw [if_pos y7, if_pos y7, t2, t3]; exact ⟨_, rfl, rfl⟩
    rw [if_neg y7, if_neg y7]
    exact ⟨_, rfl, rfl⟩
  rw [f_X7_count, f_X8_count, f_X8_isIn]
  by_cases h1 : x < 11
  · rw [if_pos h1, if_pos h1, Option.bind_some, if_pos rfl]; exact key
  rw [if_neg h1, if_neg h1]
  by_cases h2 : (16 : Int32) < x
  · rw [if_pos h2, if_pos h2, Option.bind_some, if_pos rfl]; exact key
  rw [if_neg h2, if_neg h2, Option.bind_some, if_neg n10]
  have hj : ∃ k, k < 7 ∧ x - 10 = nI k := by
    rcases pk_ix x (n := 17) (by omega) with z | z | ⟨j, hj, rfl⟩
    · exact absurd (Int32.lt_trans z (show (0 : Int32) < 11 by decide)) h1
    · exact absurd (Int32.lt_of_lt_of_le (show (16 : Int32) < nI 17 by decide) z) h2
    · have h11 : 11 ≤ j := by
        rcases Nat.lt_or_ge j 11 with q | q
        · exact absurd (show nI j < 11 from nI_lt (b := 11) q (by omega)) h1
        · exact q
      exact ⟨j - 10, by omega, pk_sub (b := 10) (by omega)⟩
  obtain ⟨k, hk, e⟩ := hj
  rw [e, at_in (by omega) hk, gd_in hk (by omega), nI_clamp (by omega)]
  exact ⟨_, rfl, congrArg some (hf k hk).symm⟩
end PU
