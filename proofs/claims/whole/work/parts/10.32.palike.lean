/-! alike, both -/
theorem shr_m : ∀ m, m < 256 → ∀ k, k < 9 → nI m >>> (nI k &&& 31) = nI (m / 2 ^ k) := by decide +kernel
theorem hi_first : ∀ m, m < 256 → ∀ a, a < 8 → (if m / 2 ^ (a + 1) = 0 then none else ((els (m / 2 ^ (a + 1)))[0]?).map (fun k => a + 1 + k)) = first (fun b => m.testBit b) (a + 1) (7 - a) := by decide +kernel
theorem f2_hi {A : AS} {look a : Nat} (ha : a < nB A) (hb8 : nB A ≤ 8) (hh : hereB A 0 a = true) : f2 A look a = first (fun b => (gs A look (shows_ A a 0) 0).testBit b) (a + 1) (7 - a) := by
  unfold f2
  have h1 := first_more (p := alB A look a) (nB A - (a + 1)) (a + 1) (8 - nB A) (fun z hz => by
    show (hereB A 0 a && gsB A look (shows_ A a 0) 0 z) = false
    rw [gsB_ge (by omega), Bool.and_false])
  rw [← h1, show nB A - (a + 1) + (8 - nB A) = 7 - a by omega]
  refine first_congr _ _ fun j h2 h3 => ?_
  show (hereB A 0 a && gsB A look (shows_ A a 0) 0 j) = (mk (gsB A look (shows_ A a 0) 0) 8).testBit j
  rw [mk_tb, decide_eq_true (show j < 8 by omega), hh]
theorem f2_no {A : AS} {look a : Nat} (hh : hereB A 0 a = false) : f2 A look a = none := first_no _ _ fun z => by
  show (hereB A 0 a && gsB A look (shows_ A a 0) 0 z) = false
  rw [hh, Bool.false_and]
theorem div_le {m a : Nat} (h : m < 256) : m / 2 ^ (a + 1) < 256 := Nat.lt_of_le_of_lt (Nat.div_le_self _ _) h
theorem m_firstAlike {s : St} {A : AS} (h : RM s A) (w : WF A) : f_X8_firstAlike s = some (ftI A 63) := by
  have hb8 := w.1
  rw [f_X8_firstAlike, FUEL_v]
  generalize hK : (fun (x1_1425 : Int32) (x2_1426 : Int32) => (f_X8_lowest x2_1426).bind (fun q1427 => some (((((10 : Int32) * x1_1425) + x1_1425) + (1 : Int32)) + q1427))) = K
  have hhead : ∀ f i, i < nB A → f_X8_firstAlike_2 s (f + 1) (nI i) K = (match f2 A 63 i with | some j => some (nI (10 * i + j)) | none => f_X8_firstAlike_2 s f (nI (i + 1)) K) := by
    intro f i hi
    have hpl := plc_le (A := A) (b := i)
    have m4 := (h.2.2.2.1 i (by omega)).2.2.2.1
    have hm := gs_lt A 63 (shows_ A i 0) 0
    rw [f_X8_firstAlike_2, h.1, if_neg (nI_ge hi (by omega)), gd_in (by omega) (by omega), nI_clamp (by omega), m4, ifZ (by omega), if_iff (here_iff w hi), m_showsOf h w (by omega), Option.bind_some, m_showing h w (shows_lt w (by omega)), Option.bind_some, nIs, shr_m _ hm _ (by omega)]
    cases hh : hereB A 0 i with
    | false => rw [if_neg nft, f_X8_firstAlike_36, if_pos rfl, nIs, f2_no hh]
    | true =>
      rw [if_pos rfl, f_X8_firstAlike_36, ifZ (Nat.lt_trans (div_le hm) (by decide)), f2_hi hi hb8 hh, ← hi_first _ hm i (by omega), nIs]
      by_cases e : gs A 63 (shows_ A i 0) 0 / 2 ^ (i + 1) = 0
      · rw [if_pos e, if_pos e]
      · rw [if_neg e, if_neg e, ← hK]
        show (f_X8_lowest _).bind _ = _
        rw [lowest_m _ (div_le hm) (Nat.pos_of_ne_zero e), Option.bind_some]
        cases hz : (els (gs A 63 (shows_ A i 0) 0 / 2 ^ (i + 1)))[0]? with
        | none =>
          have h0 : cnt (gs A 63 (shows_ A i 0) 0 / 2 ^ (i + 1)) ≠ 0 := fun z => e ((cnt0 _ (div_le hm)).mp z)
          have h1 := List.getElem?_eq_none_iff.mp hz
          exact absurd (Nat.le_zero.mp h1) h0
        | some k =>
          show some ((10 : Int32) * nI i + nI i + 1 + nI k) = some (nI (10 * i + (i + 1 + k)))
          rw [k10, pk_mul, nI_add, nIs, nI_add, show 10 * i + i + 1 + k = 10 * i + (i + 1 + k) by omega]
  have hL := floop (L := fun fuel i => f_X8_firstAlike_2 s fuel (nI i) K) (p := fun a => (f2 A 63 a).isSome) (B := nB A) (none_ := some (-9 : Int32)) (some_ := fun a => some (nI (10 * a + (f2 A 63 a).getD 0)))
    (fun f => by
      show f_X8_firstAlike_2 s (f + 1) _ K = _
      rw [f_X8_firstAlike_2, h.1, if_pos (nI_le (Nat.le_refl _) (by omega))])
    (fun f i hi hp => by
      show f_X8_firstAlike_2 s (f + 1) _ K = _
      rw [hhead f i hi]
      cases hf : f2 A 63 i with
      | none => rw [hf] at hp; cases hp
      | some j => rfl)
    (fun f i hi hp => by
      show f_X8_firstAlike_2 s (f + 1) _ K = f_X8_firstAlike_2 s f (nI (i + 1)) K
      rw [hhead f i hi]
      cases hf : f2 A 63 i with
      | none => rfl
      | some j => rw [hf] at hp; cases hp)
    (nB A) 0 2000 (by omega) (by omega)
  have hL : f_X8_firstAlike_2 s 2000 0 K = _ := hL
  rw [hL]
  unfold ftI
  cases first (fun a => (f2 A 63 a).isSome) 0 (nB A) with
  | none => rfl
  | some j => rfl
theorem four_cases (x : Int32) : (∃ k, k < 4 ∧ x = nI k ∧ f_X8_isIn x 0 3 = some 1) ∨ ((∀ k, k < 4 → ¬ x = nI k) ∧ f_X8_isIn x 0 3 = some 0) := by
  rw [f_X8_isIn]
  rcases pk_ix x (n := 4) (by omega) with h | h | ⟨j, hj, rfl⟩
  · exact Or.inr ⟨fun k hk e => neg_lt (n := k) (by omega) (e ▸ h), if_pos h⟩
  · have h0 : ¬ x < 0 := fun z => neg_lt (n := 4) (by omega) (Int32.lt_of_le_of_lt h z)
    refine Or.inr ⟨fun k hk e => ?_, ?_⟩
    · rw [e] at h
      exact nI_ge hk (by omega) h
    · rw [if_neg h0, if_pos (Int32.lt_of_lt_of_le (show (3 : Int32) < nI 4 by decide) h)]
  · exact Or.inl ⟨j, hj, rfl, by rw [if_neg (neg_lt (by omega)), if_neg (show ¬ (3 : Int32) < nI j from nI_nlt (a := 3) (b := j) (by omega) (by omega))]⟩
theorem p_alike {S : Nat → St} {s : St} (h : REL S s) (x : Int32) : AG (f_X7_alike S x) (f_X8_alike s x) := by
  have h' := h
  obtain ⟨A, w, hy, hv, hm, hr⟩ := h
  have hb8 := w.1
  have e63 : f_X1_firstTwoBy (S 0) 63 = some (ftI A 63) := c_firstTwoBy hv w (look := 63) (by omega)
  rw [f_X7_alike, f_X8_alike]
  rcases four_cases x with ⟨k, hk, rfl, e⟩ | ⟨hn, e⟩
  · rw [e, Option.bind_some, if_neg n10, FUEL_v, m_alike37 (R := Nat) hm w, c_twos hv w, f_X1_firstTwo, e63, c_greatest hv w, c_greatestShown hv w, m_firstAlike hm w, tw_eq w]
    simp only [Option.bind_some]
    rcases (show k = 0 ∨ k = 1 ∨ k = 2 ∨ k = 3 by omega) with rfl | rfl | rfl | rfl
    · exact ag_rd h' _
    · exact ag_rd h' _
    · exact ag_rd h' _
    · exact ag_rd h' _
  · have h0 : ¬ x = 0 := hn 0 (by omega)
    have h1 : ¬ x = 1 := hn 1 (by omega)
    have h2 : ¬ x = 2 := hn 2 (by omega)
    have h3 : ¬ x = 3 := hn 3 (by omega)
    rw [e, Option.bind_some, if_neg h0, if_neg h1, if_neg h2, if_neg h3, if_pos rfl]
    exact ag_no h' 2 (by omega) (by decide)
