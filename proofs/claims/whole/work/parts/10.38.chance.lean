/-! chance -/
theorem cnt_pos : ∀ m, m < 256 → ∀ i, i < 8 → m.testBit i = true → 0 < cnt m := by decide +kernel
/-- ways, missing, asked -/
def ch (A : AS) (b n : Nat) : Nat → Nat × Nat × Nat
  | 0 => (1, 1, 0)
  | i + 1 => if A 8 i = 1 then ch A b n i else if n ≤ (ch A b n i).2.2 then ch A b n i else ((ch A b n i).1 * max 1 (cnt (choice A i)), (ch A b n i).2.1 * (if (choice A i).testBit b then cnt (choice A i) - 1 else max 1 (cnt (choice A i))), (ch A b n i).2.2 + 1)
theorem ch_m {A : AS} {b n i : Nat} (h : A 8 i = 1) : ch A b n (i + 1) = ch A b n i := if_pos h
theorem ch_f {A : AS} {b n i : Nat} (h1 : n ≤ (ch A b n i).2.2) : ch A b n (i + 1) = ch A b n i := by
  by_cases h : A 8 i = 1
  · exact if_pos h
  · exact (if_neg h).trans (if_pos h1)
theorem ch_s {A : AS} {b n i : Nat} (h : ¬ A 8 i = 1) (h1 : ¬ n ≤ (ch A b n i).2.2) : ch A b n (i + 1) = ((ch A b n i).1 * max 1 (cnt (choice A i)), (ch A b n i).2.1 * (if (choice A i).testBit b then cnt (choice A i) - 1 else max 1 (cnt (choice A i))), (ch A b n i).2.2 + 1) := (if_neg h).trans (if_neg h1)
theorem ch_stay {A : AS} {b n i : Nat} (h1 : n ≤ (ch A b n i).2.2) : ∀ j, ch A b n (i + j) = ch A b n i
  | 0 => rfl
  | j + 1 => by
    have ih := ch_stay h1 j
    have : n ≤ (ch A b n (i + j)).2.2 := by rw [ih]; exact h1
    exact (ch_f this).trans ih
theorem max_b {A : AS} {i b : Nat} : (if (choice A i).testBit b then cnt (choice A i) - 1 else max 1 (cnt (choice A i))) ≤ max 1 (cnt (choice A i)) := by
  have h2 : cnt (choice A i) ≤ max 1 (cnt (choice A i)) := Nat.le_max_right 1 (cnt (choice A i))
  split <;> omega
theorem ch_ok {A : AS} {b n : Nat} : ∀ i, 0 < (ch A b n i).1 ∧ (ch A b n i).2.1 ≤ (ch A b n i).1 ∧ (ch A b n i).1 ≤ 8 ^ (ch A b n i).2.2 ∧ (ch A b n i).2.2 ≤ n
  | 0 => ⟨show 0 < 1 by decide, show 1 ≤ 1 by decide, show 1 ≤ 8 ^ 0 by decide, Nat.zero_le _⟩
  | i + 1 => by
    have ih := ch_ok (A := A) (b := b) (n := n) i
    by_cases h : A 8 i = 1
    · rw [ch_m h]; exact ih
    by_cases h1 : n ≤ (ch A b n i).2.2
    · rw [ch_f h1]; exact ih
    obtain ⟨q1, q2, q3, q4⟩ := ih
    have hc := cnt_le _ (choice_lt A i)
    have hm : max 1 (cnt (choice A i)) ≤ 8 := Nat.max_le.mpr ⟨by omega, hc⟩
    have hm1 : 0 < max 1 (cnt (choice A i)) := Nat.lt_of_lt_of_le (by omega) (Nat.le_max_left 1 _)
    rw [ch_s h h1]
    exact ⟨Nat.mul_pos q1 hm1, Nat.mul_le_mul q2 max_b, by rw [Nat.pow_succ]; exact Nat.mul_le_mul q3 hm, by show _ + 1 ≤ n; omega⟩
theorem ch_lt {A : AS} {b n : Nat} (hn : n ≤ 4) (i : Nat) : (ch A b n i).1 < 2 ^ 13 := by
  obtain ⟨q1, q2, q3, q4⟩ := ch_ok (A := A) (b := b) (n := n) i
  have : 8 ^ (ch A b n i).2.2 ≤ 8 ^ 4 := Nat.pow_le_pow_right (by omega) (by omega)
  omega
theorem ch_0 {A : AS} {b n : Nat} (h : here A 0 = 0) : ∀ i, (ch A b n i).1 = 1 ∧ (ch A b n i).2.1 = 1
  | 0 => ⟨rfl, rfl⟩
  | i + 1 => by
    have ih := ch_0 (A := A) (b := b) (n := n) h i
    by_cases h0 : A 8 i = 1
    · rw [ch_m h0]; exact ih
    by_cases h1 : n ≤ (ch A b n i).2.2
    · rw [ch_f h1]; exact ih
    have hc : choice A i = 0 := by
      cases hz : choice A i with
      | zero => rfl
      | succ m =>
        exfalso
        have hp : 0 < cnt (choice A i) := Nat.pos_of_ne_zero fun z => by
          have := (cnt0 _ (choice_lt A i)).mp z
          omega
        have he : (els (choice A i))[0]? = some (els (choice A i))[0] := List.getElem?_eq_getElem hp
        have h3 := choice_here (els_lt (List.mem_of_getElem? he)).2
        have h4 := (els_lt (List.mem_of_getElem? he)).1
        have h5 : (here A 0).testBit (els (choice A i))[0] = true := by
          rw [here, mk_tb, decide_eq_true h4, h3] <;> rfl
        rw [h, Nat.zero_testBit] at h5
        cases h5
    rw [ch_s h0 h1, hc, ih.1, ih.2, Nat.zero_testBit]
    exact ⟨rfl, rfl⟩
section CH
variable {v s : St} {A : AS}
theorem c_choiceOf (h : RV v A) (w : WF A) {g : Nat} (hg : g < 5) : f_X6_choiceOf v (nI g) = some (nI (choice A g)) := by
  rw [f_X6_choiceOf, show f_X6_guesses v (nI g) 0 = _ from c_guesses h w (n := 0) hg (by omega), Option.bind_some, c_choiceFrom h w, Option.bind_some]
theorem c_ways (h : RV v A) (w : WF A) {b n : Nat} (hb : b < 8) (hn : n ≤ 4) (K : Int64 → Int64 → Option Int64) : f_X2_ofTaking_12 v (nI b) (nI n) 2000 1 1 0 0 K = K (lN (ch A b n (nG A)).1) (lN (ch A b n (nG A)).2.1) := by
  have hg5 := w.2.1
  have hL := iloop (L := fun fuel i (a : Int64 × Int64 × Int32) => f_X2_ofTaking_12 v (nI b) (nI n) fuel a.1 a.2.1 a.2.2 (nI i) K) (a := fun i => (lN (ch A b n i).1, lN (ch A b n i).2.1, nI (ch A b n i).2.2)) (B := nG A) (r := K (lN (ch A b n (nG A)).1) (lN (ch A b n (nG A)).2.1))
    (fun f => by
      show f_X2_ofTaking_12 v _ _ (f + 1) _ _ _ _ K = _
      rw [f_X2_ofTaking_12, h.2.2.2.1, if_pos (nI_le (Nat.le_refl _) (by omega))])
    (fun f i hi => by
      show f_X2_ofTaking_12 v _ _ (f + 1) (lN (ch A b n i).1) (lN (ch A b n i).2.1) (nI (ch A b n i).2.2) (nI i) K = f_X2_ofTaking_12 v _ _ f (lN (ch A b n (i + 1)).1) (lN (ch A b n (i + 1)).2.1) (nI (ch A b n (i + 1)).2.2) (nI (i + 1)) K
      obtain ⟨q1, q2, q3, q4⟩ := ch_ok (A := A) (b := b) (n := n) i
      have hcl := choice_lt A i
      have hc := cnt_le _ hcl
      have hm : max 1 (cnt (choice A i)) ≤ 8 := Nat.max_le.mpr ⟨by omega, hc⟩
      rw [f_X2_ofTaking_12, h.2.2.2.1, if_neg (nI_ge hi (by omega)), c_isUnmarried h w (by omega), Option.bind_some, ifL (by omega) (by omega), nIs]
      by_cases e : A 8 i = 1
      · rw [if_pos e, if_pos ni0, ch_m e]
      rw [if_neg e, if_neg ni1]
      by_cases e1 : n ≤ (ch A b n i).2.2
      · rw [if_pos e1, ch_f e1]
      rw [if_neg e1, c_choiceOf h w (by omega), Option.bind_some, bc_m _ hcl, Option.bind_some, has_m _ hcl b (by omega), Option.bind_some, max1 (by omega), nI_l (by omega), lN_mul, lN_mul, nIs, ch_s e e1]
      cases ht : (choice A i).testBit b with
      | false => rw [if_neg nft, if_pos ni0, if_neg nft]
      | true =>
        have hp := cnt_pos _ hcl b hb ht
        rw [if_pos rfl, if_neg ni1, if_pos rfl, show nI (cnt (choice A i)) - (1 : Int32) = nI (cnt (choice A i) - 1) from pk_sub (b := 1) hp, nI_l (by omega), lN_mul])
    (nG A) 0 2000 (by omega) (by omega)
  exact hL
theorem m_ways (h : RM s A) (w : WF A) {b n : Nat} (hb : b < 8) (hn : n ≤ 4) (hne : here A 0 ≠ 0) (K : Int64 → Int64 → Option (Int64 × St)) : ∀ (k i fuel : Nat), i + k = nG A → k < fuel → f_X8_chance_73 s (nI b) fuel (lN (ch A b n i).2.1) (lN (ch A b n i).1) (nI (n - (ch A b n i).2.2)) (nI i) K = K (lN (ch A b n (nG A)).2.1) (lN (ch A b n (nG A)).1)
  | 0, i, fuel, h1, h2 => by
    have hg5 := w.2.1
    obtain ⟨f, rfl⟩ : ∃ f, fuel = f + 1 := ⟨fuel - 1, by omega⟩
    have : i = nG A := by omega
    rw [f_X8_chance_73, h.2.1, this, if_pos (nI_le (Nat.le_refl _) (by omega))]
  | k + 1, i, fuel, h1, h2 => by
    have hg5 := w.2.1
    obtain ⟨f, rfl⟩ : ∃ f, fuel = f + 1 := ⟨fuel - 1, by omega⟩
    have hi : i < nG A := by omega
    have hi5 : i < 5 := by omega
    have h8 := (w.2.2.2.2 i hi5).2.2.2.1
    obtain ⟨q1, q2, q3, q4⟩ := ch_ok (A := A) (b := b) (n := n) i
    have hcl := choice_lt A i
    have hc := cnt_le _ hcl
    have ih := m_ways h w hb hn hne K k (i + 1) f (by omega) (by omega)
    have hle : (if nI (n - (ch A b n i).2.2) ≤ 0 then K (lN (ch A b n i).2.1) (lN (ch A b n i).1) else K 0 0) = if n - (ch A b n i).2.2 ≤ 0 then K (lN (ch A b n i).2.1) (lN (ch A b n i).1) else K 0 0 := ifL (b := 0) (by omega) (by omega)
    rw [f_X8_chance_73, h.2.1, if_neg (nI_ge hi (by omega))]
    by_cases e1 : n ≤ (ch A b n i).2.2
    · have hst := ch_stay e1 (k + 1)
      rw [h1] at hst
      rw [show n - (ch A b n i).2.2 = 0 by omega, if_pos (show nI 0 ≤ 0 by decide), hst]
    have hz : ¬ nI (n - (ch A b n i).2.2) ≤ 0 := fun z => by
      have := (nI_leI (b := 0) (show n - (ch A b n i).2.2 < 2 ^ 31 by omega) (by omega)).mp z
      omega
    rw [if_neg hz, gd_in hi5 (by omega), nI_clamp (by omega), (h.2.2.2.2 i hi5).2.2.2, k1, ifE (by omega) (by omega), ← k1]
    by_cases e : A 8 i = 1
    · rw [ch_m e] at ih
      rw [if_pos e, nIs, ih]
    have h123 : ∀ B, f_X8_chance_123 (nI b) (lN (ch A b n i).2.1) (lN (ch A b n i).1) (nI (n - (ch A b n i).2.2)) (nI i) (nI (choice A i)) B = B (lN (ch A b n (i + 1)).2.1) (lN (ch A b n (i + 1)).1) (nI (n - (ch A b n (i + 1)).2.2)) (nI (i + 1)) := fun B => by
      have hc0 : 0 < cnt (choice A i) := Nat.pos_of_ne_zero fun z => by
        have hz := (cnt0 _ hcl).mp z
        unfold choice at hz
        split at hz
        · exact hne hz
        · rename_i hq; exact hq hz
      have hl : nI (n - (ch A b n i).2.2) + (-1 : Int32) = nI (n - ((ch A b n i).2.2 + 1)) := by
        have : ∀ a, a < 6 → 0 < a → nI a + (-1 : Int32) = nI (a - 1) := by decide
        rw [this _ (by omega) (by omega)]
        congr 1
      rw [f_X8_chance_123, bits_m _ hcl, Option.bind_some, mhas_m _ hcl b (by omega), Option.bind_some, f_X8_chance_146, f_X8_chance_146, bits_m _ hcl, Option.bind_some, Option.bind_some, hl, nIs, nI_l (by omega), lN_mul, ch_s e e1, Nat.max_eq_right (show 1 ≤ cnt (choice A i) by omega)]
      cases ht : (choice A i).testBit b with
      | false => rw [if_neg nft, if_pos ni0, if_neg nft, show nI (cnt (choice A i)) - (0 : Int32) = nI (cnt (choice A i)) from pk_sub (b := 0) (by omega), nI_l (by omega), lN_mul]
      | true => rw [if_pos rfl, if_neg ni1, if_pos rfl, show nI (cnt (choice A i)) - (1 : Int32) = nI (cnt (choice A i) - 1) from pk_sub (b := 1) hc0, nI_l (by omega), lN_mul]
    have hgl := gs_lt A (A 5 i) (A 6 i) 0
    rw [if_neg e, m_guesses h w hi5, Option.bind_some, Option.bind_some, ifZ (show guess A i 0 < 2 ^ 31 by show gs _ _ _ _ < _; omega), m_here h w, Option.bind_some]
    by_cases e2 : guess A i 0 = 0
    · have hch : choice A i = here A 0 := if_pos e2
      rw [if_pos e2, ← hch, h123]
      exact ih
    · have hch : choice A i = guess A i 0 := if_neg e2
      rw [if_neg e2, ← hch, h123]
      exact ih
end CH
theorem p_chance {S : Nat → St} {s : St} (h : REL S s) (x y z : Int32) : AGL (f_X7_chance S x y z) (f_X8_chance s x y z) := by
  have h' := h
  obtain ⟨A, w, hy, hv, hm, hr⟩ := h
  have hb8 := w.1
  have hlt := here_lt A 0
  rw [f_X7_chance, f_X8_chance, c_hasBride hv, m_isBride hm, Option.bind_some, Option.bind_some]
  rcases br_cases (n := nB A) (by omega) x with e | ⟨b, hbB, rfl, e⟩
  · rw [e, f_X7_refusalOf, if_pos rfl, Option.bind_some, if_neg nm1, if_pos rfl, f_X8_chance_18, if_neg nm1, f_X8_chance_38, if_neg nm1]; exact agl_no h' 1 (by omega) (by decide)
  have hb : b < 8 := by omega
  rw [e, f_X7_refusalOf, if_neg n10, if_neg n10, c_outside, m_bound, Option.bind_some, Option.bind_some, Option.bind_some, f_X8_chance_18]
  rcases out_cases (a := 0) (b := 4) (by omega) (by omega) y with ⟨e2, n, h1, h2, rfl⟩ | e2 | e2
  · have e2 : outI (nI n) 0 4 = 0 := e2
    have key : ∀ p, p < 2 → AGL ((f_X2_ofTaking (S 0) (nI b) (nI n) (nI p)).bind (fun q939 => some (q939, S))) (f_X8_chance_38 s (nI b) (nI n) (nI p) 0) := fun p hp => by
      obtain ⟨q1, q2, q3, q4⟩ := ch_ok (A := A) (b := b) (n := n) (nG A)
      have hl := ch_lt (A := A) (b := b) h2 (nG A)
      have hK : f_X8_chance_171 s (nI p) (lN (ch A b n (nG A)).2.1) (lN (ch A b n (nG A)).1) = some (lN (frc ((ch A b n (nG A)).1 - (ch A b n (nG A)).2.1) (ch A b n (nG A)).1 p), s) := by
        rw [f_X8_chance_171, lN_sub q2, m_partOf (by omega) q1 hl hp, Option.bind_some]
      rw [f_X2_ofTaking, FUEL_v, c_ways hv w hb h2, lN_sub q2, c_partOf (by omega) q1 hl hp, Option.bind_some, Option.bind_some, f_X8_chance_38, if_pos rfl, m_here hm w, Option.bind_some, ifZ (a := here A 0) (by omega), FUEL_v]
      by_cases c : here A 0 = 0
      · have e0 : f_X8_chance_73 s (nI b) 2000 1 1 0 0 (fun x5 x7 => f_X8_chance_171 s (nI p) x5 x7) = f_X8_chance_171 s (nI p) 1 1 := by
          show f_X8_chance_73 s (nI b) (1999 + 1) 1 1 0 0 (fun x5 x7 => f_X8_chance_171 s (nI p) x5 x7) = _
          rw [f_X8_chance_73]
          split
          · rfl
          · rw [if_pos (by decide)]
        have c0 := ch_0 (b := b) (n := n) c (nG A)
        rw [c0.1, c0.2] at hK
        have hK : f_X8_chance_171 s (nI p) 1 1 = _ := hK
        rw [if_pos c, e0, hK, c0.1, c0.2]
        exact agl_rd h' _
      · have e0 := m_ways hm w hb h2 c (fun x5 x7 => f_X8_chance_171 s (nI p) x5 x7) (nG A) 0 2000 (by omega) (by have := w.2.1; omega)
        have e0 : f_X8_chance_73 s (nI b) 2000 1 1 (nI n) 0 (fun x5 x7 => f_X8_chance_171 s (nI p) x5 x7) = _ := e0
        rw [if_neg c, e0]
        show AGL _ (f_X8_chance_171 s (nI p) _ _)
        rw [hK]
        exact agl_rd h' _
    rw [e2, if_pos rfl, if_pos rfl]
    rcases either_cases z with ⟨rfl, e5, e6⟩ | ⟨rfl, e5, e6⟩ | ⟨h3, h4, e5, e6⟩
    · rw [e5, Option.bind_some, if_pos rfl, e6, Option.bind_some, if_neg n10]; exact key 0 (by omega)
    · rw [e5, Option.bind_some, if_pos rfl, e6, Option.bind_some, if_neg n10]; exact key 1 (by omega)
    · rw [e5, Option.bind_some, if_neg n10, e6, Option.bind_some, if_pos rfl, f_X8_chance_38, if_neg nm2]; exact agl_no h' 2 (by omega) (by decide)
  · have e2 : outI y 0 4 = -6 := e2
    rw [e2, if_neg nm6, if_neg nm6, f_X8_chance_38, if_neg nm6]; exact agl_no h' 6 (by omega) (by decide)
  · have e2 : outI y 0 4 = -4 := e2
    rw [e2, if_neg nm4, if_neg nm4, f_X8_chance_38, if_neg nm4]; exact agl_no h' 4 (by omega) (by decide)
