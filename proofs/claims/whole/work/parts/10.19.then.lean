/-! image and on, years, letters and the row, what is then -/
theorem sA_ne {v : St} {k j : Nat} {f : Nat → Int32} (h : j ≠ k) : sA v k f j = v j := if_neg h
theorem c_copy {N : Nat} (hN : N ≤ 8) (f g : Nat → Int32) : ∃ g', f_X7_copy N f N g = some g' ∧ ∀ j, j < N → g' j = f j := by
  rw [f_X7_copy, FUEL_v]
  obtain ⟨g', hg, e⟩ := sloop (L := fun fuel i a => f_X7_copy_11 N f N fuel (nI i) a) (K := fun a => some a) (B := N)
    (fun i a => ∀ j, j < i → a j = f j)
    (fun n a _ => by
      show f_X7_copy_11 N f N (n + 1) _ a = _
      rw [f_X7_copy_11, nI_o, if_pos (nI_le (Nat.le_refl _) (by omega))])
    (fun n i a hi ha => by
      refine ⟨upd a i (f i), fun j hj => ?_, ?_⟩
      · unfold upd
        by_cases e : j = i
        · rw [if_pos e, e]
        · rw [if_neg e]; exact ha j (by omega)
      · show f_X7_copy_11 N f N (n + 1) _ a = f_X7_copy_11 N f N n _ _
        rw [f_X7_copy_11, nI_o, if_neg (nI_ge hi (by omega)), if_neg (nI_ge hi (by omega)), gd_in hi (by omega), gd_in hi (by omega), nI_clamp (by omega), k1, nI_add])
    N 0 2000 g (by omega) (by omega) (fun j hj => by omega)
  exact ⟨g', e, hg⟩
theorem c_become {u v : St} {A : AS} (h : RV u A) : ∃ v', f_X6_become v u = some v' ∧ RV v' A := by
  obtain ⟨g0, e0, q0⟩ := c_copy (N := 8) (by omega) (u 0) (v 0)
  obtain ⟨g1, e1, q1⟩ := c_copy (N := 8) (by omega) (u 1) (v 1)
  obtain ⟨g2, e2, q2⟩ := c_copy (N := 8) (by omega) (u 2) (v 2)
  obtain ⟨g3, e3, q3⟩ := c_copy (N := 8) (by omega) (u 3) (v 3)
  obtain ⟨g4, e4, q4⟩ := c_copy (N := 5) (by omega) (u 4) (v 4)
  obtain ⟨g5, e5, q5⟩ := c_copy (N := 5) (by omega) (u 5) (v 5)
  obtain ⟨g6, e6, q6⟩ := c_copy (N := 5) (by omega) (u 6) (v 6)
  obtain ⟨h1, h2, h3, h4, h5, h6, h7⟩ := h
  rw [f_X6_become, e0, e1, e2, e3, e4, e5, e6]
  refine ⟨_, rfl, h1, h2, h3, h4, h5, fun b hb => ?_, fun g hg => ?_⟩
  · obtain ⟨a1, a2, a3, a4⟩ := h6 b hb
    exact ⟨(q0 b hb).trans a1, (q1 b hb).trans a2, (q2 b hb).trans a3, (q3 b hb).trans a4⟩
  · obtain ⟨a1, a2, a3⟩ := h7 g hg
    exact ⟨(q4 g hg).trans a1, (q5 g hg).trans a2, (q6 g hg).trans a3⟩
theorem either_cases (x : Int32) : (x = 0 ∧ f_X7_isNotEither x = some 0 ∧ f_X8_isIn x 0 1 = some 1) ∨ (x = 1 ∧ f_X7_isNotEither x = some 0 ∧ f_X8_isIn x 0 1 = some 1) ∨ (¬ x = 0 ∧ ¬ x = 1 ∧ f_X7_isNotEither x = some 1 ∧ f_X8_isIn x 0 1 = some 0) := by
  by_cases h0 : x = 0
  · subst h0; exact Or.inl ⟨rfl, by decide, by decide⟩
  by_cases h1 : x = 1
  · subst h1; exact Or.inr (Or.inl ⟨rfl, by decide, by decide⟩)
  refine Or.inr (Or.inr ⟨h0, h1, by rw [f_X7_isNotEither, if_neg h0, if_neg h1], ?_⟩)
  rw [f_X8_isIn]
  rcases pk_ix x (n := 2) (by omega) with h | h | ⟨j, hj, rfl⟩
  · exact if_pos h
  · rw [if_pos (Int32.lt_of_lt_of_le (show (1 : Int32) < nI 2 by decide) h)]
    split <;> rfl
  · rcases (show j = 0 ∨ j = 1 by omega) with z | z
    · subst z; exact absurd rfl h0
    · subst z; exact absurd rfl h1
theorem m_then {s : St} {A : AS} (hm : RM s A) (w : WF A) {n : Nat} (hn : n ≤ 61) (hy : nY A ≤ 999) : ∃ s1 s2 s3, f_X8_thinks s = some s1 ∧ f_X8_goes s1 (nI n) = some s2 ∧ RM s2 (pass A n) ∧ WF (pass A n) ∧ f_X8_forgets s2 = some s3 ∧ RM s3 A ∧ KI s s3 := by
  obtain ⟨s1, e1, r1, q1, n1⟩ := m_thinks hm
  obtain ⟨s2, e2, r2, q2⟩ := m_goes r1 w (n := n) hn (by omega)
  obtain ⟨s3, e3, r3, q3⟩ := m_forgets (q2.enc n1)
  exact ⟨s1, s2, s3, e1, e2, r2, pass_WF w (by omega), e3, r3, (q1.tr q2.ki).tr q3.ki⟩
section PT
variable {S : Nat → St} {s : St}
theorem p_image (h : REL S s) : AG (f_X7_image S) (f_X8_image s) := by
  obtain ⟨A, w, hy, hv, hm, ht, hr, hf, hi⟩ := h
  obtain ⟨v', e1, h1⟩ := c_become (v := S 2) hv
  have hm0 : RM (sA s 23 (upd (s 23) 6 1)) A := ⟨hm.1, hm.2.1, hm.2.2.1, hm.2.2.2.1, hm.2.2.2.2⟩
  obtain ⟨s', e2, h2, hn, q0, q10, q15, -, -, -, q3, -, q6, q9, -⟩ := m_save hm0 (w := 0) (by omega)
  have e2 : f_X8_passesAll (sA s 23 (upd (s 23) 6 1)) 0 1 = some s' := e2
  rw [f_X7_image, f_X8_image, e1, e2, Option.bind_some, Option.bind_some, hv.1, h2.2.2.1]
  refine ⟨_, _, _, rfl, rfl, A, w, hy, hv, h2, ?_, ?_, ?_, Or.inr ⟨rfl, q6, A, w, hy, h1, hn⟩⟩
  · obtain ⟨n, t1, t2, t3, t4⟩ := ht
    refine ⟨n, t1, t2, q3.trans t3, fun j hj => ?_⟩
    rw [q10]; exact t4 j hj
  · obtain ⟨n, t1, t2, t3, t4⟩ := hr
    refine ⟨n, t1, t2, q9.trans t3, fun j hj => ?_⟩
    rw [q15]; exact t4 j hj
  · intro i hi
    rw [q0]; exact hf i hi
theorem p_on (h : REL S s) : AG (f_X7_on S) (f_X8_on s) := by
  have h' := h
  obtain ⟨A, w, hy, hv, hm, hr⟩ := h
  rw [f_X7_on, f_X8_on]
  rcases hr.2.2.2 with ⟨i1, i2⟩ | ⟨i1, i2, B, b1, b2, b3, b4⟩
  · rw [i1, i2, if_pos rfl, if_pos rfl]; exact ag_no h' 3 (by omega) (by decide)
  · obtain ⟨v', e1, h1⟩ := c_become (v := S 0) b3
    obtain ⟨s', e2, h2, q0, q10, q14, q15, -, -, -, q3, -, q6, q9⟩ := m_load (w := 0) (by omega) b4
    have e2 : f_X8_passesAll s 0 0 = some s' := e2
    rw [i1, i2, if_neg n10, if_neg n10, e1, e2, Option.bind_some, Option.bind_some, h1.1, h2.2.2.1]
    exact ag_new hr ⟨q0, q10, fun j _ => congrFun q14 j, q15, q3, q6, q9⟩ b1 b2 h1 h2 _
theorem p_years (h : REL S s) (x : Int32) : AG (f_X7_years S x) (f_X8_years s x) := by
  have h' := h
  obtain ⟨A, w, hy, hv, hm, hr⟩ := h
  rw [f_X7_years, f_X8_years, c_outside, m_bound, Option.bind_some, Option.bind_some]
  rcases out_cases (a := 1) (b := 60) (by omega) (by omega) x with ⟨e2, n, h1, h2, rfl⟩ | e2 | e2
  · have e2 : outI (nI n) 1 60 = 0 := e2
    rw [e2, if_pos rfl, if_pos rfl, f_X6_canPass, hv.1, hm.2.2.1, nI_add, k999, ifLt (by omega) (by omega), ifL (by omega) (by omega)]
    by_cases hc : nY A + n ≤ 999
    · obtain ⟨v', e3, h3⟩ := c_passYears hv w (n := n) (by omega)
      obtain ⟨s', e4, h4, h5⟩ := m_goes hm w (n := n) (by omega) (by omega)
      have wp := pass_WF w (n := n) (by omega)
      rw [if_neg (by omega), if_pos hc, Option.bind_some, if_neg n10, e3, Option.bind_some, show f_X6_hereThen v' 0 = _ from c_hereThen h3 wp (n := 0) (by omega), Option.bind_some, bc_m _ (here_lt _ _), Option.bind_some, f_X8_years_27, if_pos rfl, e4, Option.bind_some, m_here h4 wp, Option.bind_some, bits_m _ (here_lt _ _), Option.bind_some]
      exact ag_new hr h5.ki wp hc h3 h4 _
    · rw [if_pos (by omega), if_neg hc, Option.bind_some, if_pos rfl, f_X8_years_27, if_neg nm6]; exact ag_no h' 6 (by omega) (by decide)
  · have e2 : outI x 1 60 = -6 := e2
    rw [e2, if_neg nm6, if_neg nm6, f_X8_years_27, if_neg nm6]; exact ag_no h' 6 (by omega) (by decide)
  · have e2 : outI x 1 60 = -4 := e2
    rw [e2, if_neg nm4, if_neg nm4, f_X8_years_27, if_neg nm4]; exact ag_no h' 4 (by omega) (by decide)
theorem p_letter (h : REL S s) (x : Int32) : AG (f_X7_letter S x) (f_X8_letter s x) := by
  have h' := h
  obtain ⟨A, w, hy, hv, hm, ⟨n, t1, t2, t3, t4⟩, hr, hf, hi⟩ := h
  rw [f_X7_letter, f_X8_letter, m_bound, Option.bind_some, outI]
  by_cases h0 : 0 ≤ x
  · rw [if_pos h0, if_pos h0]
    by_cases h1 : x ≤ 255
    · have hx : ¬ (255 : Int32) < x := fun z => Int32.lt_irrefl (Int32.lt_of_lt_of_le z h1)
      have hc : ∃ c, c < 256 ∧ x = nI c := by
        rcases pk_ix x (n := 256) (by omega) with z | z | z
        · exact absurd (Int32.lt_of_le_of_lt h0 z) Int32.lt_irrefl
        · exact absurd (Int32.lt_of_lt_of_le (show (255 : Int32) < nI 256 by decide) z) hx
        · exact z
      obtain ⟨c, hc, rfl⟩ := hc
      rw [if_neg hx, if_pos h1, if_pos rfl, f_X5_isFull, f_X5_add, t2, t3]
      by_cases hn : n < 96
      · rw [if_pos (show nI n < 96 from nI_lt (b := 96) hn (by omega)), Option.bind_some, if_pos rfl, put_in (by omega) hn, Option.bind_some, Option.bind_some, if_neg (show ¬ nI n = 96 from fun z => by have := nI_inj (b := 96) (by omega) (by omega) z; omega), f_X8_letter_25, if_pos rfl, t3, gd_in hn (by omega), nI_clamp (by omega), k1, nI_add]
        refine ⟨_, _, _, rfl, rfl, A, w, hy, hv, ⟨hm.1, hm.2.1, hm.2.2.1, hm.2.2.2.1, hm.2.2.2.2⟩, ⟨n + 1, by omega, rfl, rfl, fun j hj => ?_⟩, hr, hf, hi⟩
        show ∃ c', c' < 256 ∧ upd (S 3 0) n (nI c) j = nI c' ∧ upd (s 10) n (nI c) j = nI c'
        unfold upd
        by_cases e : j = n
        · exact ⟨c, hc, if_pos e, if_pos e⟩
        · rw [if_neg e, if_neg e]; exact t4 j (by omega)
      · have : n = 96 := by omega
        subst this
        rw [if_neg (show ¬ nI 96 < 96 by decide), Option.bind_some, if_neg n10, if_pos (show nI 96 = 96 by decide), f_X8_letter_25, if_neg nm6]; exact ag_no h' 6 (by omega) (by decide)
    · have hx : (255 : Int32) < x := Int32.not_le.mp h1
      rw [if_pos hx, if_neg h1, if_neg nm6, f_X8_letter_25, if_neg nm6]; exact ag_no h' 6 (by omega) (by decide)
  · rw [if_neg h0, if_neg h0, if_neg nm4, f_X8_letter_25, if_neg nm4]; exact ag_no h' 4 (by omega) (by decide)
theorem p_row (h : REL S s) (x : Int32) : AG (f_X7_row S x) (f_X8_row s x) := by
  have h' := h
  obtain ⟨A, w, hy, hv, hm, ht, ⟨n, t1, t2, t3, t4⟩, hf, hi⟩ := h
  rw [f_X7_row, f_X8_row, c_outside, m_bound, Option.bind_some, Option.bind_some]
  rcases out_cases (a := 0) (b := 99) (by omega) (by omega) x with ⟨e2, c, h1, h2, rfl⟩ | e2 | e2
  · have e2 : outI (nI c) 0 99 = 0 := e2
    rw [e2, if_pos rfl, if_pos rfl, f_X4_isFull, f_X4_add, t2, t3]
    by_cases hn : n < 16
    · rw [if_pos (show nI n < 16 from nI_lt (b := 16) hn (by omega)), Option.bind_some, if_pos rfl, put_in (by omega) hn, Option.bind_some, Option.bind_some, if_neg (show ¬ nI n = 16 from fun z => by have := nI_inj (b := 16) (by omega) (by omega) z; omega), f_X8_row_24, if_pos rfl, t3, gd_in hn (by omega), nI_clamp (by omega), k1, nI_add]
      refine ⟨_, _, _, rfl, rfl, A, w, hy, hv, ⟨hm.1, hm.2.1, hm.2.2.1, hm.2.2.2.1, hm.2.2.2.2⟩, ht, ⟨n + 1, by omega, rfl, rfl, fun j hj => ?_⟩, hf, hi⟩
      show ∃ c', c' < 100 ∧ upd (S 4 0) n (nI c) j = nI c' ∧ upd (s 15) n (nI c) j = nI c'
      unfold upd
      by_cases e : j = n
      · exact ⟨c, by omega, if_pos e, if_pos e⟩
      · rw [if_neg e, if_neg e]; exact t4 j (by omega)
    · have : n = 16 := by omega
      subst this
      rw [if_neg (show ¬ nI 16 < 16 by decide), Option.bind_some, if_neg n10, if_pos (show nI 16 = 16 by decide), f_X8_row_24, if_neg nm6]; exact ag_no h' 6 (by omega) (by decide)
  · have e2 : outI x 0 99 = -6 := e2
    rw [e2, if_neg nm6, if_neg nm6, f_X8_row_24, if_neg nm6]; exact ag_no h' 6 (by omega) (by decide)
  · have e2 : outI x 0 99 = -4 := e2
    rw [e2, if_neg nm4, if_neg nm4, f_X8_row_24, if_neg nm4]; exact ag_no h' 4 (by omega) (by decide)
theorem p_clear (h : REL S s) : AG (f_X7_clear S) (f_X8_clear s) := by
  obtain ⟨A, w, hy, hv, hm, ht, ⟨n, t1, t2, t3, t4⟩, hf, hi⟩ := h
  rw [f_X7_clear, f_X8_clear, f_X4_empty, Option.bind_some, t2, t3]
  exact ⟨_, _, _, rfl, rfl, A, w, hy, hv, ⟨hm.1, hm.2.1, hm.2.2.1, hm.2.2.2.1, hm.2.2.2.2⟩, ht, ⟨0, by omega, rfl, rfl, fun j hj => by omega⟩, hf, hi⟩
theorem p_known (h : REL S s) (x : Int32) : AG (f_X7_known S x) (f_X8_known s x) := by
  have h' := h
  obtain ⟨A, w, hy, hv, hm, hr⟩ := h
  have e0 : f_X6_hereThen (S 0) 0 = some (nI (here A 0)) := c_hereThen hv w (n := 0) (by omega)
  rw [f_X7_known, f_X8_known]
  rcases either_cases x with ⟨rfl, e1, e2⟩ | ⟨rfl, e1, e2⟩ | ⟨h0, h1, e1, e2⟩
  · rw [e1, Option.bind_some, if_pos rfl, if_pos rfl, c_knownBits hv w, Option.bind_some, e2, Option.bind_some, if_neg n10, if_pos rfl, m_knownOnes hm w, Option.bind_some]; exact ag_rd h' _
  · rw [e1, Option.bind_some, if_pos rfl, if_neg n10, e0, Option.bind_some, c_knownBits hv w, Option.bind_some, e2, Option.bind_some, if_neg n10, if_neg n10, m_here hm w, Option.bind_some, m_knownOnes hm w, Option.bind_some]; exact ag_rd h' _
  · rw [e1, Option.bind_some, if_neg n10, e2, Option.bind_some, if_pos rfl]; exact ag_no h' 2 (by omega) (by decide)
/-- the reference has thought, and is as before -/
theorem ag_same {A : AS} (w : WF A) (hy : nY A ≤ 999) (hv : RV (S 0) A) (hr : RR S s) {s' : St} (k : KI s s') (hm : RM s' A) (r : Int32) : AG (some (r, S)) (some (r, s')) :=
  ⟨r, S, s', rfl, rfl, A, w, hy, hv, hm, hr.ki k rfl rfl rfl rfl⟩
theorem p_showsThen (h : REL S s) (x y : Int32) : AG (f_X7_showsThen S x y) (f_X8_showsThen s x y) := by
  have h' := h
  obtain ⟨A, w, hy, hv, hm, hr⟩ := h
  have hb8 := w.1
  rw [f_X7_showsThen, f_X8_showsThen, c_hasBride hv, m_isBride hm, Option.bind_some, Option.bind_some]
  rcases br_cases (n := nB A) (by omega) x with e | ⟨b, hb, rfl, e⟩
  · rw [e, f_X7_refusalOf, if_pos rfl, Option.bind_some, if_neg nm1, if_pos rfl, f_X8_showsThen_19, if_neg nm1]; exact ag_no h' 1 (by omega) (by decide)
  have hb : b < 8 := by omega
  rw [e, f_X7_refusalOf, if_neg n10, if_neg n10, c_outside, m_bound, Option.bind_some, Option.bind_some, Option.bind_some, f_X8_showsThen_19]
  rcases out_cases (a := 0) (b := 60) (by omega) (by omega) y with ⟨e2, n, h1, h2, rfl⟩ | e2 | e2
  · have e2 : outI (nI n) 0 60 = 0 := e2
    obtain ⟨s1, s2, s3, q1, q2, q3, q4, q5, q6, q7⟩ := m_then hm w (n := n) (by omega) hy
    rw [e2, if_pos rfl, if_pos rfl, c_shows0 hv w hb (by omega), q1, Option.bind_some, Option.bind_some, q2, Option.bind_some, m_showsOf q3 q4 hb, Option.bind_some, q5, Option.bind_some, shows_pass, Nat.add_zero]
    exact ag_same w hy hv hr q7 q6 _
  · have e2 : outI y 0 60 = -6 := e2
    rw [e2, if_neg nm6, if_neg nm6]; exact ag_no h' 6 (by omega) (by decide)
  · have e2 : outI y 0 60 = -4 := e2
    rw [e2, if_neg nm4, if_neg nm4]; exact ag_no h' 4 (by omega) (by decide)
theorem p_groomThen (h : REL S s) (x y z : Int32) : AG (f_X7_groomThen S x y z) (f_X8_groomThen s x y z) := by
  have h' := h
  obtain ⟨A, w, hy, hv, hm, hr⟩ := h
  have hg5 := w.2.1
  rw [f_X7_groomThen, f_X8_groomThen, c_hasGroomI hv, m_isGroom hm, Option.bind_some, Option.bind_some]
  rcases br_cases (n := nG A) (by omega) x with e | ⟨g, hg, rfl, e⟩
  · rw [e, f_X7_refusalOf, if_pos rfl, Option.bind_some, if_neg nm1, if_pos rfl, f_X8_groomThen_19, if_neg nm1, f_X8_groomThen_39, if_neg nm1]; exact ag_no h' 1 (by omega) (by decide)
  have hg : g < 5 := by omega
  rw [e, f_X7_refusalOf, if_neg n10, if_neg n10, c_outside, m_bound, Option.bind_some, Option.bind_some, Option.bind_some, f_X8_groomThen_19]
  rcases out_cases (a := 0) (b := 60) (by omega) (by omega) y with ⟨e2, n, h1, h2, rfl⟩ | e2 | e2
  · have e2 : outI (nI n) 0 60 = 0 := e2
    obtain ⟨s1, s2, s3, q1, q2, q3, q4, q5, q6, q7⟩ := m_then hm w (n := n) (by omega) hy
    have hgs : guess (pass A n) g 0 = guess A g n := gs_pass A _ _ n 0
    have hkn : know (pass A n) g 0 = know A g n := know_pass A g n 0
    rw [e2, if_pos rfl, if_pos rfl]
    rcases either_cases z with ⟨rfl, e3, e4⟩ | ⟨rfl, e3, e4⟩ | ⟨h3, h4, e3, e4⟩
    · rw [e3, e4, Option.bind_some, Option.bind_some, if_pos rfl, if_neg n10, if_pos rfl, f_X8_groomThen_39, if_pos rfl, q1, Option.bind_some, q2, Option.bind_some, if_pos rfl, c_guesses hv w hg (by omega), m_guesses q3 q4 hg, Option.bind_some, Option.bind_some, q5, Option.bind_some, hgs]
      exact ag_same w hy hv hr q7 q6 _
    · rw [e3, e4, Option.bind_some, Option.bind_some, if_pos rfl, if_neg n10, if_neg n10, f_X8_groomThen_39, if_pos rfl, q1, Option.bind_some, q2, Option.bind_some, if_neg n10, c_knows hv w hg (by omega), m_knows q3 q4 hg, Option.bind_some, Option.bind_some, q5, Option.bind_some, hkn]
      exact ag_same w hy hv hr q7 q6 _
    · rw [e3, e4, Option.bind_some, Option.bind_some, if_neg n10, if_pos rfl, f_X8_groomThen_39, if_neg nm2]; exact ag_no h' 2 (by omega) (by decide)
  · have e2 : outI y 0 60 = -6 := e2
    rw [e2, if_neg nm6, if_neg nm6, f_X8_groomThen_39, if_neg nm6]; exact ag_no h' 6 (by omega) (by decide)
  · have e2 : outI y 0 60 = -4 := e2
    rw [e2, if_neg nm4, if_neg nm4, f_X8_groomThen_39, if_neg nm4]; exact ag_no h' 4 (by omega) (by decide)
end PT
