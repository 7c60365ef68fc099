/-! takes, drink, when -/
theorem first_s (p : Nat → Bool) (i k : Nat) : first p i (k + 1) = if p i then some i else first p (i + 1) k := rfl
def tkI (A : AS) (g d : Nat) : Int32 := if canW A g = true ∧ know A g 0 = none then oI (tk A g d) else -9
theorem ni1 : ¬ nI 1 = 0 := by decide
theorem ni0 : nI 0 = 0 := by decide
theorem c_takenWith {v : St} {A : AS} (h : RV v A) (w : WF A) {g d : Nat} (hg : g < 5) (hd : d < 10) : f_X6_takenWith v (nI g) (nI d) = some (tkI A g d) := by
  have hki : ∀ b, know A g 0 = some b → b < 2 ^ 31 := fun b hb => by have := (know_lt hb).1; omega
  rw [f_X6_takenWith, show f_X6_guesses v (nI g) 0 = _ from c_guesses h w (n := 0) hg (by omega), Option.bind_some, c_canWed h w hg, Option.bind_some]
  unfold tkI
  by_cases hc : canW A g = true
  · rw [if_pos hc, if_neg ni1, onlyOne_m _ (gs_lt A _ _ _), Option.bind_some]
    show (if oI (know A g 0) = (-9 : Int32) then _ else _) = _
    rw [if_iff (oI_9 hki)]
    cases hk : know A g 0 with
    | none =>
      rw [if_pos rfl, if_pos ⟨hc, rfl⟩, c_choiceFrom h w, Option.bind_some, takenOf_m _ (choice_lt A g) d hd, Option.bind_some]
      rfl
    | some b => rw [if_neg (by simp), if_neg (by simp)]
  · rw [if_neg hc, if_pos ni0, if_neg (fun z => hc z.1)]
theorem tkI_b {A : AS} {g d b : Nat} (hb : b < 8) (h : tkI A g d = nI b) : canW A g = true ∧ know A g 0 = none := by
  unfold tkI at h
  split at h
  · assumption
  · exact absurd h.symm (nI_ne9 (by omega))
section PT2
variable {S : Nat → St} {s : St}
theorem p_takes (h : REL S s) (x : Int32) : AG (f_X7_takes S x) (f_X8_takes s x) := by
  have h' := h
  obtain ⟨A, w, hy, hv, hm, hr⟩ := h
  have hg5 := w.2.1
  rw [f_X7_takes, f_X8_takes, c_hasGroomI hv, m_isGroom hm, Option.bind_some, Option.bind_some]
  rcases br_cases (n := nG A) (by omega) x with e | ⟨g, hgG, rfl, e⟩
  · rw [e, if_pos rfl, if_pos rfl]; exact ag_no h' 1 (by omega) (by decide)
  have hg : g < 5 := by omega
  have wl := (w.2.2.2.2 g hg).2.2.1
  have hki : ∀ b, know A g 0 = some b → b < 2 ^ 31 := fun b hb => by have := (know_lt hb).1; omega
  rw [e, if_neg n10, if_neg n10, f_X6_liquorOf, at_in (by omega) hg, (hv.2.2.2.2.2.2 g hg).2.2, Option.bind_some, Option.bind_some, c_takenWith hv w hg (by omega), Option.bind_some, m_canWed hm w hgG, Option.bind_some]
  unfold tkI
  by_cases hc : canW A g = true
  · rw [if_pos hc, if_neg ni1, m_knows hm w hg, Option.bind_some]
    cases hk : know A g 0 with
    | none =>
      rw [if_pos ⟨hc, rfl⟩, if_neg (by decide), gd_in hg (by omega), nI_clamp (by omega), (hm.2.2.2.2 g hg).2.2.1, m_takenBy hm w hg (by omega) (canW_s hc).2.2, Option.bind_some]
      exact ag_rd h' _
    | some b =>
      rw [if_neg (by simp), show oI (some b) = nI b from rfl, if_pos (nI_pos' (hki b hk))]
      exact ag_rd h' _
  · rw [if_neg hc, if_pos ni0, if_neg (fun z => hc z.1)]; exact ag_rd h' _
theorem p_drink (h : REL S s) (x y : Int32) : AG (f_X7_drink S x y) (f_X8_drink s x y) := by
  have h' := h
  obtain ⟨A, w, hy, hv, hm, hr⟩ := h
  have hg5 := w.2.1
  have hb8 := w.1
  rw [f_X7_drink, f_X8_drink, c_hasGroomI hv, m_isGroom hm, Option.bind_some, Option.bind_some]
  rcases br_cases (n := nG A) (by omega) x with e | ⟨g, hgG, rfl, e⟩
  · rw [e, if_pos rfl, if_pos rfl]; exact ag_no h' 1 (by omega) (by decide)
  have hg : g < 5 := by omega
  have hki : ∀ b, know A g 0 = some b → b < 2 ^ 31 := fun b hb => by have := (know_lt hb).1; omega
  rw [e, if_neg n10, if_neg n10, c_hasBride hv, m_isBride hm, Option.bind_some, Option.bind_some]
  rcases br_cases (n := nB A) (by omega) y with e2 | ⟨b, hb, rfl, e2⟩
  · rw [e2, if_pos rfl, if_pos rfl]; exact ag_no h' 1 (by omega) (by decide)
  have hb : b < 8 := by omega
  rw [e2, if_neg n10, if_neg n10, FUEL_v, m_canWed hm w hgG, Option.bind_some]
  have hC := floop (L := fun fuel i => f_X7_drink_30 S (nI g) (nI b) fuel (nI i)) (p := fun d => decide (tkI A g d = nI b)) (B := 10) (none_ := some ((-9 : Int32), S)) (some_ := fun i => some (nI i, S))
    (fun n => by show f_X7_drink_30 S _ _ (n + 1) (nI 10) = _; rw [f_X7_drink_30, if_pos (by decide)])
    (fun n i hi hp => by
      show f_X7_drink_30 S _ _ (n + 1) (nI i) = _
      rw [f_X7_drink_30, if_neg (show ¬ (9 : Int32) < nI i from nI_nlt (a := 9) (b := i) (by omega) (by omega)), c_takenWith hv w hg hi, Option.bind_some, if_pos (of_decide_eq_true hp)])
    (fun n i hi hp => by
      show f_X7_drink_30 S _ _ (n + 1) (nI i) = f_X7_drink_30 S _ _ n (nI (i + 1))
      rw [f_X7_drink_30, if_neg (show ¬ (9 : Int32) < nI i from nI_nlt (a := 9) (b := i) (by omega) (by omega)), c_takenWith hv w hg hi, Option.bind_some, if_neg (of_decide_eq_false hp), k1, nI_add])
    10 0 2000 (by omega) (by omega)
  have hC : f_X7_drink_30 S (nI g) (nI b) 2000 0 = _ := hC
  rw [hC]
  by_cases hg2 : canW A g = true ∧ know A g 0 = none
  · have ht : ∀ d, tkI A g d = oI (tk A g d) := fun d => if_pos hg2
    have hM := floop (L := fun fuel i => f_X8_drink_43 s (nI g) (nI b) fuel (nI i)) (p := fun d => decide (tkI A g d = nI b)) (B := 10) (none_ := some ((-9 : Int32), s)) (some_ := fun i => some (nI i, s))
      (fun n => by show f_X8_drink_43 s _ _ (n + 1) (nI 10) = _; rw [f_X8_drink_43, if_pos (by decide)])
      (fun n i hi hp => by
        show f_X8_drink_43 s _ _ (n + 1) (nI i) = _
        have hp := of_decide_eq_true hp
        rw [ht] at hp
        rw [f_X8_drink_43, if_neg (show ¬ (10 : Int32) ≤ nI i from nI_ge (b := 10) hi (by omega)), m_takenBy hm w hg hi (canW_s hg2.1).2.2, Option.bind_some, if_pos hp])
      (fun n i hi hp => by
        show f_X8_drink_43 s _ _ (n + 1) (nI i) = f_X8_drink_43 s _ _ n (nI (i + 1))
        have hp := of_decide_eq_false hp
        rw [ht] at hp
        rw [f_X8_drink_43, if_neg (show ¬ (10 : Int32) ≤ nI i from nI_ge (b := 10) hi (by omega)), m_takenBy hm w hg hi (canW_s hg2.1).2.2, Option.bind_some, if_neg hp, k1, nI_add])
      10 0 2000 (by omega) (by omega)
    have hM : f_X8_drink_43 s (nI g) (nI b) 2000 0 = _ := hM
    rw [if_pos hg2.1, if_neg ni1, m_knows hm w hg, Option.bind_some, hg2.2, if_pos (show oI none < 0 by decide), hM]
    cases first (fun d => decide (tkI A g d = nI b)) 0 10 with
    | none => exact ag_rd h' _
    | some j => exact ag_rd h' _
  · have hn : first (fun d => decide (tkI A g d = nI b)) 0 10 = none := by
      cases hf : first (fun d => decide (tkI A g d = nI b)) 0 10 with
      | none => rfl
      | some j => exact absurd (tkI_b hb (of_decide_eq_true (first_some _ _ _ hf).2.2.1)) hg2
    rw [hn]
    by_cases hc : canW A g = true
    · rw [if_pos hc, if_neg ni1, m_knows hm w hg, Option.bind_some]
      cases hk : know A g 0 with
      | none => exact absurd ⟨hc, hk⟩ hg2
      | some b0 =>
        rw [show oI (some b0) = nI b0 from rfl, if_neg (nI_pos (hki b0 hk))]
        exact ag_rd h' _
    · rw [if_neg hc, if_pos ni0]; exact ag_rd h' _
/-- when: the reference goes year by year -/
theorem m_when {A : AS} (w : WF A) (hy : nY A ≤ 999) {g : Nat} (hg : g < 5) {R : Type} {K : Int32 → St → Option R} {s0 : St} :
    ∀ (k i fuel : Nat) (v : St), i + k = 61 → k + 1 < fuel → RM v (pass A i) → KP s0 v → ∃ v' m, RM v' (pass A m) ∧ KP s0 v' ∧ ∀ K', f_X8_when_23 (nI g) fuel (-9 : Int32) (nI i) v K' = K' (match first (fun n => (know A g n).isSome) i k with | some j => nI j | none => -9) v'
  | 0, i, fuel, v, h1, h2, hm, kp => by
    obtain ⟨f, rfl⟩ : ∃ f, fuel = f + 1 := ⟨fuel - 1, by omega⟩
    have : i = 61 := by omega
    subst this
    exact ⟨v, 61, hm, kp, fun K' => by rw [f_X8_when_23, if_pos (by decide)]; rfl⟩
  | k + 1, i, fuel, v, h1, h2, hm, kp => by
    obtain ⟨f, rfl⟩ : ∃ f, fuel = f + 2 := ⟨fuel - 2, by omega⟩
    have wi : WF (pass A i) := pass_WF w (n := i) (by omega)
    have hki : ∀ b, know A g i = some b → b < 2 ^ 31 := fun b hb => by have := (know_lt hb).1; omega
    obtain ⟨v2, e2, m2, kp2⟩ := m_goesYear hm wi (by show nY A + i < 1100; omega)
    rw [pass_add] at m2
    have hkn : know (pass A i) g 0 = know A g i := know_pass A g i 0
    have hhead : ∀ K', f_X8_when_23 (nI g) (f + 1 + 1) (-9 : Int32) (nI i) v K' = (if oI (know A g i) < 0 then f_X8_when_23 (nI g) (f + 1) (-9 : Int32) (nI (i + 1)) v2 K' else f_X8_when_23 (nI g) (f + 1) (nI i) (nI (i + 1)) v2 K') := fun K' => by
      rw [f_X8_when_23, if_neg (show ¬ (60 : Int32) < nI i from nI_nlt (a := 60) (b := i) (by omega) (by omega)), if_neg (by decide), m_knows hm wi hg, Option.bind_some, hkn, e2, Option.bind_some, Option.bind_some, k1, nI_add]
    cases hk : know A g i with
    | none =>
      obtain ⟨v3, m, q1, q2, q3⟩ := m_when w hy hg (K := K) k (i + 1) (f + 1) v2 (by omega) (by omega) m2 (kp.tr kp2)
      refine ⟨v3, m, q1, q2, fun K' => ?_⟩
      have e : f_X8_when_23 (nI g) (f + 2) (-9 : Int32) (nI i) v K' = _ := hhead K'
      have hf : first (fun n => (know A g n).isSome) i (k + 1) = first (fun n => (know A g n).isSome) (i + 1) k := by rw [first_s, hk]; rfl
      rw [e, hk, if_pos (show oI none < 0 by decide), q3, hf]
    | some b =>
      refine ⟨v2, i + 1, m2, kp.tr kp2, fun K' => ?_⟩
      have e : f_X8_when_23 (nI g) (f + 2) (-9 : Int32) (nI i) v K' = _ := hhead K'
      rw [e, hk, show oI (some b) = nI b from rfl, if_neg (nI_pos (hki b hk)), f_X8_when_23, show first (fun n => (know A g n).isSome) i (k + 1) = some i by rw [first_s, hk]; rfl]
      by_cases h60 : (60 : Int32) < nI (i + 1)
      · rw [if_pos h60]
      · rw [if_neg h60, if_pos (nI_pos' (by omega))]
theorem p_when (h : REL S s) (x : Int32) : AG (f_X7_when S x) (f_X8_when s x) := by
  have h' := h
  obtain ⟨A, w, hy, hv, hm, hr⟩ := h
  have hg5 := w.2.1
  rw [f_X7_when, f_X8_when, c_hasGroomI hv, m_isGroom hm, Option.bind_some, Option.bind_some]
  rcases br_cases (n := nG A) (by omega) x with e | ⟨g, hgG, rfl, e⟩
  · rw [e, if_pos rfl, if_pos rfl]; exact ag_no h' 1 (by omega) (by decide)
  have hg : g < 5 := by omega
  have hki : ∀ n b, know A g n = some b → b < 2 ^ 31 := fun n b hb => by have := (know_lt hb).1; omega
  obtain ⟨s1, e1, r1, q1, n1⟩ := m_thinks hm
  obtain ⟨s2, m, r2, q2, e2⟩ := m_when (K := fun x2 v => (f_X8_forgets v).bind (fun q => some (x2, q))) (s0 := s1) w hy hg 61 0 2000 s1 (by omega) (by omega) (by rw [pass_0]; exact r1) KP.rf
  obtain ⟨s3, e3, r3, q3⟩ := m_forgets (q2.enc n1)
  have hC := floop (L := fun fuel i => f_X7_when_19 S (nI g) fuel (nI i)) (p := fun n => (know A g n).isSome) (B := 61) (none_ := some ((-9 : Int32), S)) (some_ := fun i => some (nI i, S))
    (fun n => by show f_X7_when_19 S _ (n + 1) (nI 61) = _; rw [f_X7_when_19, if_pos (by decide)])
    (fun n i hi hp => by
      show f_X7_when_19 S _ (n + 1) (nI i) = _
      rw [f_X7_when_19, if_neg (show ¬ (60 : Int32) < nI i from nI_nlt (a := 60) (b := i) (by omega) (by omega)), c_knows hv w hg (by omega), Option.bind_some, if_iff (oI_9 (hki i)), if_neg (fun z => by rw [z] at hp; cases hp)])
    (fun n i hi hp => by
      show f_X7_when_19 S _ (n + 1) (nI i) = f_X7_when_19 S _ n (nI (i + 1))
      have hz : know A g i = none := by
        cases hk : know A g i with
        | none => rfl
        | some b => rw [hk] at hp; cases hp
      rw [f_X7_when_19, if_neg (show ¬ (60 : Int32) < nI i from nI_nlt (a := 60) (b := i) (by omega) (by omega)), c_knows hv w hg (by omega), Option.bind_some, if_iff (oI_9 (hki i)), if_pos hz, k1, nI_add])
    61 0 2000 (by omega) (by omega)
  have hC : f_X7_when_19 S (nI g) 2000 0 = _ := hC
  have e2' : ∀ K', f_X8_when_23 (nI g) 2000 (-9 : Int32) 0 s1 K' = _ := e2
  rw [e, if_neg n10, if_neg n10, FUEL_v, hC, e1, Option.bind_some, e2', e3, Option.bind_some]
  cases first (fun n => (know A g n).isSome) 0 61 with
  | none => exact ag_same w hy hv hr ((q1.tr q2.ki).tr q3.ki) r3 _
  | some j => exact ag_same w hy hv hr ((q1.tr q2.ki).tr q3.ki) r3 _
end PT2
