/-! tells -/
def cB (p : Nat → Bool) : Nat → Nat
  | 0 => 0
  | i + 1 => cB p i + (if p i then 1 else 0)
theorem cB_le (p : Nat → Bool) : ∀ n, cB p n ≤ n
  | 0 => Nat.le_refl _
  | n + 1 => by
    have := cB_le p n
    show cB p n + (if p n then 1 else 0) ≤ n + 1
    split <;> omega
theorem cB_len (p : Nat → Bool) : ∀ n, cB p n = ((List.range n).filter p).length
  | 0 => rfl
  | n + 1 => by
    have ih := cB_len p n
    show cB p n + (if p n then 1 else 0) = _
    rw [List.range_succ, List.filter_append, List.length_append, ← ih]
    cases hp : p n <;> simp [hp]
theorem cB_ge {p : Nat → Bool} {n : Nat} (h : ∀ i, n ≤ i → p i = false) : ∀ k, cB p (n + k) = cB p n
  | 0 => rfl
  | k + 1 => by
    show cB p (n + k) + (if p (n + k) then 1 else 0) = _
    rw [h (n + k) (by omega), cB_ge h k]
    rfl
theorem cnt_mk (p : Nat → Bool) : cnt (mk p 8) = cB p 8 := by
  rw [cB_len]
  unfold cnt els
  congr 1
  apply List.filter_congr
  intro i hi
  rw [mk_tb, decide_eq_true (List.mem_range.mp hi), Bool.true_and]
theorem toe_b : ∀ x, x < 64 → ∀ t, t < 6 → (x &&& 2 ^ t == 63 &&& 2 ^ t) = x.testBit t ∧ (x &&& 2 ^ t == 0 &&& 2 ^ t) = !x.testBit t := by decide +kernel
theorem dif_up : ∀ p, p < 9 → ∀ q, q < 9 → nI p - nI q + 1 = nI (p + 1) - nI q := by decide +kernel
theorem dif_dn : ∀ p, p < 9 → ∀ q, q < 9 → nI p - nI q + (-1) = nI p - nI (q + 1) := by decide +kernel
theorem dif_abs : ∀ p, p < 9 → ∀ q, q < 9 → (if 0 ≤ nI p - nI q then nI p - nI q else 0 - (nI p - nI q)) = nI (p - q + (q - p)) ∧ (if 0 ≤ nI p - nI q then some (nI p - nI q) else some (-(nI p - nI q))) = some (nI (p - q + (q - p))) := by decide +kernel
def unev (A : AS) (t : Nat) : Nat := cB (gsB A (2 ^ t) 63 0) 8 - cB (gsB A (2 ^ t) 0 0) 8 + (cB (gsB A (2 ^ t) 0 0) 8 - cB (gsB A (2 ^ t) 63 0) 8)
theorem unev_le (A : AS) (t : Nat) : unev A t ≤ 8 := by
  have h1 := cB_le (gsB A (2 ^ t) 63 0) 8
  have h2 := cB_le (gsB A (2 ^ t) 0 0) 8
  unfold unev
  omega
def bestT (A : AS) : Nat → Nat
  | 0 => 0
  | i + 1 => if unev A (bestT A i) ≤ unev A (i + 1) then bestT A i else i + 1
theorem bestT_le (A : AS) : ∀ i, bestT A i ≤ i
  | 0 => Nat.le_refl _
  | i + 1 => by
    have := bestT_le A i
    unfold bestT
    split <;> omega
theorem c_howFar {v : St} {A : AS} (h : RV v A) (w : WF A) {t : Nat} (ht : t < 6) : f_X1_howFarApart v (nI t) = some (nI (unev A t)) := by
  have hb8 := w.1
  rw [f_X1_howFarApart, FUEL_v]
  have e1 : cB (gsB A (2 ^ t) 63 0) 8 = cB (gsB A (2 ^ t) 63 0) (nB A) := by
    have := cB_ge (p := gsB A (2 ^ t) 63 0) (n := nB A) (fun i hi => gsB_ge hi) (8 - nB A)
    rw [show nB A + (8 - nB A) = 8 by omega] at this; exact this
  have e2 : cB (gsB A (2 ^ t) 0 0) 8 = cB (gsB A (2 ^ t) 0 0) (nB A) := by
    have := cB_ge (p := gsB A (2 ^ t) 0 0) (n := nB A) (fun i hi => gsB_ge hi) (8 - nB A)
    rw [show nB A + (8 - nB A) = 8 by omega] at this; exact this
  have l1 := cB_le (gsB A (2 ^ t) 63 0) (nB A)
  have l2 := cB_le (gsB A (2 ^ t) 0 0) (nB A)
  suffices hL : f_X1_howFarApart_4 v (nI t) 2000 (nI 0 - nI 0) 0 (fun (x2_371 : Int32) => some (if 0 ≤ x2_371 then x2_371 else 0 - x2_371)) = some (nI (unev A t)) by
    rw [show nI 0 - nI 0 = (0 : Int32) by decide] at hL
    exact hL
  refine iloop (L := fun fuel i a => f_X1_howFarApart_4 v (nI t) fuel a (nI i) (fun (x2_371 : Int32) => some (if 0 ≤ x2_371 then x2_371 else 0 - x2_371))) (a := fun i => nI (cB (gsB A (2 ^ t) 63 0) i) - nI (cB (gsB A (2 ^ t) 0 0) i)) (B := nB A) ?_ ?_ (nB A) 0 2000 (by omega) (by omega)
  · intro f
    show f_X1_howFarApart_4 v (nI t) (f + 1) _ _ _ = _
    rw [f_X1_howFarApart_4, h.2.1, if_pos (nI_le (Nat.le_refl _) (by omega)), (dif_abs _ (by omega) _ (by omega)).1]
    unfold unev
    rw [e1, e2]
  · intro f i hi
    show f_X1_howFarApart_4 v (nI t) (f + 1) _ _ _ = f_X1_howFarApart_4 v (nI t) f (nI (cB (gsB A (2 ^ t) 63 0) i + (if gsB A (2 ^ t) 63 0 i then 1 else 0)) - nI (cB (gsB A (2 ^ t) 0 0) i + (if gsB A (2 ^ t) 0 0 i then 1 else 0))) _ _
    have wb := w.2.2.2.1 i (by omega)
    have hs := shows_lt w (b := i) (n := 0) (by omega)
    have c1 := cB_le (gsB A (2 ^ t) 63 0) i
    have c2 := cB_le (gsB A (2 ^ t) 0 0) i
    obtain ⟨t1, t2⟩ := toe_b _ hs t ht
    rw [f_X1_howFarApart_4, h.2.1, if_neg (nI_ge hi (by omega)), c_isHere h w (by omega), Option.bind_some]
    by_cases e : plc A i = 0
    · obtain ⟨q1, q2⟩ := (plc0 wb).mp e
      have hh : hereB A 0 i = true := by simp [hereB, hi, q1, q2]
      have g1 : gsB A (2 ^ t) 63 0 i = (shows_ A i 0).testBit t := by unfold gsB; rw [hh, t1, Bool.true_and]
      have g2 : gsB A (2 ^ t) 0 0 i = !(shows_ A i 0).testBit t := by unfold gsB; rw [hh, t2, Bool.true_and]
      rw [if_pos e, if_neg ni1, show f_X6_shows v (nI i) 0 = _ from c_shows0 h w (n := 0) (by omega) (by omega), Option.bind_some, has_m _ (by omega) t (by omega), Option.bind_some, g1, g2]
      cases (shows_ A i 0).testBit t with
      | false =>
        rw [if_neg nft, if_pos ni0, dif_dn _ (by omega) _ (by omega), k1, nI_add]
        rfl
      | true =>
        rw [if_pos rfl, if_neg ni1, dif_up _ (by omega) _ (by omega), k1, nI_add]
        rfl
    · have hh : hereB A 0 i = false := by
        cases hq : hereB A 0 i with
        | false => rfl
        | true => obtain ⟨-, q1, q2⟩ := hereB_lt hq; exact absurd ((plc0 wb).mpr ⟨q1, by omega⟩) e
      have g1 : ∀ x, gsB A (2 ^ t) x 0 i = false := fun x => by unfold gsB; rw [hh, Bool.false_and]
      rw [if_neg e, if_pos ni0, g1, g1, k1, nI_add]
      rfl
theorem m_uneven {s : St} {A : AS} (h : RM s A) (w : WF A) {t : Nat} (ht : t < 6) : f_X8_unevenBy s (nI t) = some (nI (unev A t)) := by
  have hp : 2 ^ t < 64 := Nat.lt_of_lt_of_le (Nat.pow_lt_pow_right (by omega) ht) (by decide)
  have l1 := cB_le (gsB A (2 ^ t) 63 0) 8
  have l2 := cB_le (gsB A (2 ^ t) 0 0) 8
  rw [f_X8_unevenBy, shl1 t (by omega), k63, m_guessesBy h w hp (by omega), Option.bind_some, bits_m _ (gs_lt A _ _ _), Option.bind_some, show f_X8_guessesBy s (nI (2 ^ t)) 0 = _ from m_guessesBy h w (t := 0) hp (by omega), Option.bind_some, bits_m _ (gs_lt A _ _ _), Option.bind_some]
  unfold gs
  rw [cnt_mk, cnt_mk]
  exact (dif_abs _ (by omega) _ (by omega)).2
theorem p_tells {S : Nat → St} {s : St} (h : REL S s) : ∃ r, f_X7_tells S = some r ∧ f_X8_tells s = some r := by
  obtain ⟨A, w, hy, hv, hm, hr⟩ := h
  refine ⟨nI (bestT A 5), ?_, ?_⟩
  · rw [f_X7_tells, f_X1_tellingToe, FUEL_v]
    have hL := iloop (L := fun fuel i (a : Int32 × Int32) => f_X1_tellingToe_7 (S 0) fuel a.1 a.2 (nI i)) (a := fun i => (nI (bestT A (i - 1)), nI (unev A (bestT A (i - 1))))) (B := 6) (r := some (nI (bestT A 5)))
      (fun f => by
        show f_X1_tellingToe_7 (S 0) (f + 1) _ _ (nI 6) = _
        rw [f_X1_tellingToe_7, if_pos (by decide)])
      (fun f i hi => by
        show f_X1_tellingToe_7 (S 0) (f + 1) (nI (bestT A (i - 1))) (nI (unev A (bestT A (i - 1)))) (nI i) = f_X1_tellingToe_7 (S 0) f (nI (bestT A i)) (nI (unev A (bestT A i))) (nI (i + 1))
        have u1 := unev_le A (bestT A (i - 1))
        have u2 := unev_le A i
        rw [f_X1_tellingToe_7, if_neg (show ¬ (6 : Int32) ≤ nI i from nI_ge (b := 6) hi (by omega)), c_howFar hv w hi, Option.bind_some, ifL (by omega) (by omega), k1, nI_add]
        rcases Nat.eq_zero_or_pos i with z | z
        · subst z
          rw [if_pos (show unev A (bestT A (0 - 1)) ≤ unev A 0 from Nat.le_refl _)] <;> rfl
        · obtain ⟨j, rfl⟩ : ∃ j, i = j + 1 := ⟨i - 1, by omega⟩
          show (if unev A (bestT A j) ≤ unev A (j + 1) then _ else _) = f_X1_tellingToe_7 (S 0) f (nI (if unev A (bestT A j) ≤ unev A (j + 1) then bestT A j else j + 1)) (nI (unev A (if unev A (bestT A j) ≤ unev A (j + 1) then bestT A j else j + 1))) _
          by_cases c : unev A (bestT A j) ≤ unev A (j + 1)
          · rw [if_pos c, if_pos c]; rfl
          · rw [if_neg c, if_neg c])
      5 1 1999 (by omega) (by omega)
    have hL : f_X1_tellingToe_7 (S 0) 1999 (nI 0) (nI (unev A 0)) (nI 1) = _ := hL
    have u0 := unev_le A 0
    have h1 : f_X1_tellingToe_7 (S 0) (1999 + 1) 0 9 0 = f_X1_tellingToe_7 (S 0) 1999 (nI 0) (nI (unev A 0)) (nI 1) := by
      rw [f_X1_tellingToe_7, if_neg (by decide), show f_X1_howFarApart (S 0) 0 = _ from c_howFar hv w (t := 0) (by omega), Option.bind_some, if_neg (show ¬ (9 : Int32) ≤ nI (unev A 0) from nI_ge (b := 9) (by omega) (by omega))]
      rfl
    have h1 : f_X1_tellingToe_7 (S 0) 2000 0 9 0 = _ := h1
    rw [h1, hL]
    rfl
  · rw [f_X8_tells, FUEL_v]
    have hL := iloop (L := fun fuel i a => f_X8_tells_4 s fuel a (nI i)) (a := fun i => nI (bestT A (i - 1))) (B := 6) (r := some (nI (bestT A 5)))
      (fun f => by
        show f_X8_tells_4 s (f + 1) _ (nI 6) = _
        rw [f_X8_tells_4, if_pos (by decide)])
      (fun f i hi => by
        show f_X8_tells_4 s (f + 1) (nI (bestT A (i - 1))) (nI i) = f_X8_tells_4 s f (nI (bestT A i)) (nI (i + 1))
        have u1 := unev_le A (bestT A (i - 1))
        have u2 := unev_le A i
        have b1 := bestT_le A (i - 1)
        rw [f_X8_tells_4, if_neg (show ¬ (6 : Int32) ≤ nI i from nI_ge (b := 6) hi (by omega)), m_uneven hm w hi, Option.bind_some, m_uneven hm w (by omega), Option.bind_some, ifL (by omega) (by omega), k1, nI_add]
        rcases Nat.eq_zero_or_pos i with z | z
        · subst z
          rw [if_pos (show unev A (bestT A (0 - 1)) ≤ unev A 0 from Nat.le_refl _)] <;> rfl
        · obtain ⟨j, rfl⟩ : ∃ j, i = j + 1 := ⟨i - 1, by omega⟩
          show (if unev A (bestT A j) ≤ unev A (j + 1) then _ else _) = f_X8_tells_4 s f (nI (if unev A (bestT A j) ≤ unev A (j + 1) then bestT A j else j + 1)) _
          by_cases c : unev A (bestT A j) ≤ unev A (j + 1)
          · rw [if_pos c, if_pos c]; rfl
          · rw [if_neg c, if_neg c])
      5 1 2000 (by omega) (by omega)
    exact hL
