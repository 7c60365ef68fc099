/-! what is set: looks, minds, drinks, turn, changes; the wedding of one -/
def outI (x a b : Int32) : Int32 := if a ≤ x then (if x ≤ b then 0 else -6) else -4
theorem c_outside (x a b : Int32) : f_X7_outside x a b = some (outI x a b) := by
  rw [f_X7_outside, outI]
  split
  · split <;> rfl
  · rfl
theorem m_bound (x a b : Int32) : f_X8_bound x a b = some (outI x a b) := by
  rw [f_X8_bound, outI]
  split
  · split <;> rfl
  · rfl
theorem out_cases {a b : Nat} (hab : a ≤ b) (hb : b < 2 ^ 30) (x : Int32) : (outI x (nI a) (nI b) = 0 ∧ ∃ n, a ≤ n ∧ n ≤ b ∧ x = nI n) ∨ outI x (nI a) (nI b) = -6 ∨ outI x (nI a) (nI b) = -4 := by
  unfold outI
  by_cases h1 : nI a ≤ x
  · rw [if_pos h1]
    by_cases h2 : x ≤ nI b
    · rw [if_pos h2]
      refine Or.inl ⟨rfl, ?_⟩
      rcases pk_ix x (n := b + 1) (by omega) with h | h | ⟨j, hj, rfl⟩
      · exact absurd (Int32.lt_of_le_of_lt h1 h) (neg_lt (by omega))
      · exact absurd (Int32.le_trans h h2) (nI_ge (by omega) (by omega))
      · exact ⟨j, (nI_leI (by omega) (by omega)).mp h1, by omega, rfl⟩
    · rw [if_neg h2]; exact Or.inr (Or.inl rfl)
  · rw [if_neg h1]; exact Or.inr (Or.inr rfl)
theorem six_cases (x : Int32) : (x < 0 ∧ f_X8_isIn x 0 5 = some 0) ∨ (¬ x < 0 ∧ ¬ x < 6 ∧ f_X8_isIn x 0 5 = some 0) ∨ ∃ k, k < 6 ∧ x = nI k ∧ ¬ x < 0 ∧ x < 6 ∧ f_X8_isIn x 0 5 = some 1 := by
  rw [f_X8_isIn]
  rcases pk_ix x (n := 6) (by omega) with h | h | ⟨j, hj, rfl⟩
  · exact Or.inl ⟨h, if_pos h⟩
  · have h0 : ¬ x < 0 := fun z => neg_lt (n := 6) (by omega) (Int32.lt_of_le_of_lt h z)
    have h6 : ¬ x < 6 := fun z => Int32.lt_irrefl (Int32.lt_of_lt_of_le z h)
    refine Or.inr (Or.inl ⟨h0, h6, ?_⟩)
    rw [if_neg h0, if_pos (Int32.lt_of_lt_of_le (show (5 : Int32) < nI 6 by decide) h)]
  · have h0 : ¬ nI j < 0 := neg_lt (by omega)
    refine Or.inr (Or.inr ⟨j, hj, rfl, h0, nI_lt (b := 6) hj (by omega), ?_⟩)
    rw [if_neg h0, if_neg (show ¬ (5 : Int32) < nI j from nI_nlt (a := 5) (b := j) (by omega) (by omega))]
theorem nm1 : ¬ (-1 : Int32) = 0 := by decide
theorem nm2 : ¬ (-2 : Int32) = 0 := by decide
theorem nm3 : ¬ (-3 : Int32) = 0 := by decide
theorem nm4 : ¬ (-4 : Int32) = 0 := by decide
theorem nm6 : ¬ (-6 : Int32) = 0 := by decide
theorem KI.o {s : St} {k : Nat} {f : Nat → Int32} (h0 : k ≠ 0) (h1 : k ≠ 10) (h2 : k ≠ 14) (h3 : k ≠ 15) (h4 : k ≠ 23) : KI s (sA s k f) :=
  ⟨if_neg (Ne.symm h0), if_neg (Ne.symm h1), fun j _ => congrFun (if_neg (Ne.symm h2)) j, if_neg (Ne.symm h3), congrFun (if_neg (Ne.symm h4)) 3, congrFun (if_neg (Ne.symm h4)) 6, congrFun (if_neg (Ne.symm h4)) 9⟩
section WFU
variable {A : AS}
theorem WF_5 (w : WF A) (g : Nat) {n : Nat} (hn : n < 64) : WF (setA A 5 (upN (A 5) g n)) := ⟨w.1, w.2.1, w.2.2.1, w.2.2.2.1, fun j hj => by
  obtain ⟨h1, h2⟩ := w.2.2.2.2 j hj
  refine ⟨?_, h2⟩
  show upN (A 5) g n j < 64
  unfold upN
  split
  · exact hn
  · exact h1⟩
theorem WF_6 (w : WF A) (g : Nat) {n : Nat} (hn : n < 64) : WF (setA A 6 (upN (A 6) g n)) := ⟨w.1, w.2.1, w.2.2.1, w.2.2.2.1, fun j hj => by
  obtain ⟨h1, h2, h3⟩ := w.2.2.2.2 j hj
  refine ⟨h1, ?_, h3⟩
  show upN (A 6) g n j < 64
  unfold upN
  split
  · exact hn
  · exact h2⟩
theorem WF_7 (w : WF A) {g : Nat} (hg : g < nG A) {n : Nat} (hn : n ≤ 9) : WF (setA A 7 (upN (A 7) g n)) := ⟨w.1, w.2.1, w.2.2.1, w.2.2.2.1, fun j hj => by
  obtain ⟨h1, h2, h3, h4, h5⟩ := w.2.2.2.2 j hj
  refine ⟨h1, h2, ?_, h4, fun z => ⟨(h5 z).1, ?_⟩⟩
  · show upN (A 7) g n j ≤ 9
    unfold upN
    split
    · exact hn
    · exact h3
  · have z : nG A ≤ j := z
    show upN (A 7) g n j = 0
    rw [upN_ne (by omega)]
    exact (h5 z).2⟩
theorem WF_0 (w : WF A) (b : Nat) {n : Nat} (hn : n ≤ 5) : WF (setA A 0 (upN (A 0) b n)) := ⟨w.1, w.2.1, w.2.2.1, fun j hj => by
  obtain ⟨h1, h2⟩ := w.2.2.2.1 j hj
  refine ⟨?_, h2⟩
  show upN (A 0) b n j ≤ 5
  unfold upN
  split
  · exact hn
  · exact h1, w.2.2.2.2⟩
theorem WF_1 (w : WF A) (b : Nat) {n : Nat} (hn : n ≤ 9) : WF (setA A 1 (upN (A 1) b n)) := ⟨w.1, w.2.1, w.2.2.1, fun j hj => by
  obtain ⟨h1, h2, h3⟩ := w.2.2.2.1 j hj
  refine ⟨h1, ?_, h3⟩
  show upN (A 1) b n j ≤ 9
  unfold upN
  split
  · exact hn
  · exact h2, w.2.2.2.2⟩
theorem WF_2 (w : WF A) (b : Nat) {n : Nat} (hn : n < 64) : WF (setA A 2 (upN (A 2) b n)) := ⟨w.1, w.2.1, w.2.2.1, fun j hj => by
  obtain ⟨h1, h2, h3, h4⟩ := w.2.2.2.1 j hj
  refine ⟨h1, h2, ?_, h4⟩
  show upN (A 2) b n j < 64
  unfold upN
  split
  · exact hn
  · exact h3, w.2.2.2.2⟩
end WFU
section PS
variable {S : Nat → St} {s : St}
theorem p_looks (h : REL S s) (x y : Int32) : AG (f_X7_looks S x y) (f_X8_looks s x y) := by
  have h' := h
  obtain ⟨A, w, hy, hv, hm, hr⟩ := h
  have hg5 := w.2.1
  rw [f_X7_looks, f_X8_looks, c_hasGroomI hv, m_isGroom hm, Option.bind_some, Option.bind_some]
  rcases br_cases (n := nG A) (by omega) x with e | ⟨g, hg, rfl, e⟩
  · rw [e, f_X7_refusalOf, if_pos rfl, Option.bind_some, if_neg nm1, if_pos rfl, f_X8_looks_19, if_neg nm1]; exact ag_no h' 1 (by omega) (by decide)
  have hg : g < 5 := by omega
  rw [e, f_X7_refusalOf, if_neg n10, if_neg n10, c_outside, m_bound, Option.bind_some, Option.bind_some, Option.bind_some, f_X8_looks_19]
  rcases out_cases (a := 0) (b := 63) (by omega) (by omega) y with ⟨e2, n, h1, h2, rfl⟩ | e2 | e2
  · have e2 : outI (nI n) 0 63 = 0 := e2
    rw [e2, if_pos rfl, if_pos rfl, f_X6_lookOf, at_in (by omega) hg, (hv.2.2.2.2.2.2 g hg).1, f_X6_setLook, put_in (by omega) hg, gd_in hg (by omega), gd_in hg (by omega), nI_clamp (by omega), (hm.2.2.2.2 g hg).1]
    exact ag_new hr (KI.o (by omega) (by omega) (by omega) (by omega) (by omega)) (WF_5 w g (by omega)) hy (RV_4 hv g n) (RM_6 hm g n) _
  · have e2 : outI y 0 63 = -6 := e2
    rw [e2, if_neg nm6, if_neg nm6]; exact ag_no h' 6 (by omega) (by decide)
  · have e2 : outI y 0 63 = -4 := e2
    rw [e2, if_neg nm4, if_neg nm4]; exact ag_no h' 4 (by omega) (by decide)
theorem p_minds (h : REL S s) (x y : Int32) : AG (f_X7_minds S x y) (f_X8_minds s x y) := by
  have h' := h
  obtain ⟨A, w, hy, hv, hm, hr⟩ := h
  have hg5 := w.2.1
  rw [f_X7_minds, f_X8_minds, c_hasGroomI hv, m_isGroom hm, Option.bind_some, Option.bind_some]
  rcases br_cases (n := nG A) (by omega) x with e | ⟨g, hg, rfl, e⟩
  · rw [e, f_X7_refusalOf, if_pos rfl, Option.bind_some, if_neg nm1, if_pos rfl, f_X8_minds_19, if_neg nm1]; exact ag_no h' 1 (by omega) (by decide)
  have hg : g < 5 := by omega
  rw [e, f_X7_refusalOf, if_neg n10, if_neg n10, c_outside, m_bound, Option.bind_some, Option.bind_some, Option.bind_some, f_X8_minds_19]
  rcases out_cases (a := 0) (b := 63) (by omega) (by omega) y with ⟨e2, n, h1, h2, rfl⟩ | e2 | e2
  · have e2 : outI (nI n) 0 63 = 0 := e2
    rw [e2, if_pos rfl, if_pos rfl, f_X6_mindOf, at_in (by omega) hg, (hv.2.2.2.2.2.2 g hg).2.1, f_X6_setMind, put_in (by omega) hg, gd_in hg (by omega), gd_in hg (by omega), nI_clamp (by omega), (hm.2.2.2.2 g hg).2.1]
    exact ag_new hr (KI.o (by omega) (by omega) (by omega) (by omega) (by omega)) (WF_6 w g (by omega)) hy (RV_5 hv g n) (RM_7 hm g n) _
  · have e2 : outI y 0 63 = -6 := e2
    rw [e2, if_neg nm6, if_neg nm6]; exact ag_no h' 6 (by omega) (by decide)
  · have e2 : outI y 0 63 = -4 := e2
    rw [e2, if_neg nm4, if_neg nm4]; exact ag_no h' 4 (by omega) (by decide)
theorem p_drinks (h : REL S s) (x y : Int32) : AG (f_X7_drinks S x y) (f_X8_drinks s x y) := by
  have h' := h
  obtain ⟨A, w, hy, hv, hm, hr⟩ := h
  have hg5 := w.2.1
  rw [f_X7_drinks, f_X8_drinks, c_hasGroomI hv, m_isGroom hm, Option.bind_some, Option.bind_some]
  rcases br_cases (n := nG A) (by omega) x with e | ⟨g, hgG, rfl, e⟩
  · rw [e, f_X7_refusalOf, if_pos rfl, Option.bind_some, if_neg nm1, if_pos rfl, f_X8_drinks_19, if_neg nm1]; exact ag_no h' 1 (by omega) (by decide)
  have hg : g < 5 := by omega
  rw [e, f_X7_refusalOf, if_neg n10, if_neg n10, c_outside, m_bound, Option.bind_some, Option.bind_some, Option.bind_some, f_X8_drinks_19]
  rcases out_cases (a := 0) (b := 9) (by omega) (by omega) y with ⟨e2, n, h1, h2, rfl⟩ | e2 | e2
  · have e2 : outI (nI n) 0 9 = 0 := e2
    rw [e2, if_pos rfl, if_pos rfl, f_X6_liquorOf, at_in (by omega) hg, (hv.2.2.2.2.2.2 g hg).2.2, f_X6_setLiquor, put_in (by omega) hg, gd_in hg (by omega), gd_in hg (by omega), nI_clamp (by omega), (hm.2.2.2.2 g hg).2.2.1]
    exact ag_new hr (KI.o (by omega) (by omega) (by omega) (by omega) (by omega)) (WF_7 w hgG (by omega)) hy (RV_6 hv g n) (RM_8 hm g n) _
  · have e2 : outI y 0 9 = -6 := e2
    rw [e2, if_neg nm6, if_neg nm6]; exact ag_no h' 6 (by omega) (by decide)
  · have e2 : outI y 0 9 = -4 := e2
    rw [e2, if_neg nm4, if_neg nm4]; exact ag_no h' 4 (by omega) (by decide)
theorem p_turn (h : REL S s) (x y z : Int32) : AG (f_X7_turn S x y z) (f_X8_turn s x y z) := by
  have h' := h
  obtain ⟨A, w, hy, hv, hm, hr⟩ := h
  have hb8 := w.1
  rw [f_X7_turn, f_X8_turn, c_hasBride hv, m_isBride hm, Option.bind_some, Option.bind_some]
  rcases br_cases (n := nB A) (by omega) x with e | ⟨b, hb, rfl, e⟩
  · rw [e, if_pos rfl, if_pos rfl, f_X8_turn_33, if_neg nm1]; exact ag_no h' 1 (by omega) (by decide)
  have hb : b < 8 := by omega
  rw [e, if_neg n10, if_neg n10]
  rcases six_cases y with ⟨q1, q2⟩ | ⟨q1, q2, q3⟩ | ⟨k, hk, rfl, q1, q2, q3⟩
  · rw [if_pos q1, q2, Option.bind_some, if_pos rfl, f_X8_turn_33, if_neg nm2]; exact ag_no h' 2 (by omega) (by decide)
  · rw [if_neg q1, if_neg q2, q3, Option.bind_some, if_pos rfl, f_X8_turn_33, if_neg nm2]; exact ag_no h' 2 (by omega) (by decide)
  rw [if_neg q1, if_pos q2, q3, Option.bind_some, if_neg n10, c_outside, m_bound, Option.bind_some, Option.bind_some, f_X8_turn_33]
  rcases out_cases (a := 0) (b := 9) (by omega) (by omega) z with ⟨e2, n, h1, h2, rfl⟩ | e2 | e2
  · have e2 : outI (nI n) 0 9 = 0 := e2
    obtain ⟨r1, r2, r3, r4⟩ := hv.2.2.2.2.2.1 b hb
    obtain ⟨m1, m2, m3, m4, m5⟩ := hm.2.2.2.1 b hb
    rw [e2, if_pos rfl, if_pos rfl, f_X6_kindOf, f_X6_figureOf, at_in (by omega) hb, at_in (by omega) hb, r1, r2, f_X6_setKind, put_in (by omega) hb, put_in (by omega) hb, gd_in hb (by omega), gd_in hb (by omega), gd_in hb (by omega), gd_in hb (by omega), nI_clamp (by omega), m1, m2]
    exact ag_new hr ((KI.o (k := 1) (by omega) (by omega) (by omega) (by omega) (by omega)).tr (KI.o (k := 2) (by omega) (by omega) (by omega) (by omega) (by omega))) (WF_1 (WF_0 w b (by omega)) b (by omega)) hy (RV_1 (RV_0 hv b k) b n) (RM_2 (RM_1 hm b k) b n) _
  · have e2 : outI z 0 9 = -6 := e2
    rw [e2, if_neg nm6, if_neg nm6]; exact ag_no h' 6 (by omega) (by decide)
  · have e2 : outI z 0 9 = -4 := e2
    rw [e2, if_neg nm4, if_neg nm4]; exact ag_no h' 4 (by omega) (by decide)
theorem p_changes (h : REL S s) (x y : Int32) : AG (f_X7_changes S x y) (f_X8_changes s x y) := by
  have h' := h
  obtain ⟨A, w, hy, hv, hm, hr⟩ := h
  have hb8 := w.1
  rw [f_X7_changes, f_X8_changes, c_hasBride hv, m_isBride hm, Option.bind_some, Option.bind_some]
  rcases br_cases (n := nB A) (by omega) x with e | ⟨b, hb, rfl, e⟩
  · rw [e, if_pos rfl, if_pos rfl]; exact ag_no h' 1 (by omega) (by decide)
  have hb : b < 8 := by omega
  rw [e, if_neg n10, if_neg n10]
  rcases six_cases y with ⟨q1, q2⟩ | ⟨q1, q2, q3⟩ | ⟨k, hk, rfl, q1, q2, q3⟩
  · rw [if_pos q1, q2, Option.bind_some, if_pos rfl]; exact ag_no h' 1 (by omega) (by decide)
  · rw [if_neg q1, if_neg q2, q3, Option.bind_some, if_pos rfl]; exact ag_no h' 1 (by omega) (by decide)
  obtain ⟨r1, r2, r3, r4⟩ := hv.2.2.2.2.2.1 b hb
  obtain ⟨m1, m2, m3, m4, m5⟩ := hm.2.2.2.1 b hb
  have hx : nI (A 2 b) ^^^ ((1 : Int32) <<< (nI k &&& 31)) = nI (A 2 b ^^^ 2 ^ k) := by rw [shl1 _ (by omega), nI_xor]
  have hlt : A 2 b ^^^ 2 ^ k < 64 := xor_lt (w.2.2.2.1 b hb).2.2.1 (Nat.lt_of_lt_of_le (Nat.pow_lt_pow_right (by omega) hk) (by decide))
  rw [if_neg q1, if_pos q2, q3, Option.bind_some, if_neg n10, f_X6_changeToes, f_X6_footOf, at_in (by omega) hb, r3, Option.bind_some, Option.bind_some, put_in (by omega) hb, Option.bind_some, Option.bind_some, f_X6_footOf, at_in (by omega) hb, gd_in hb (by omega), gd_in hb (by omega), gd_in hb (by omega), nI_clamp (by omega), m3, hx]
  have hu : ∀ f : Nat → Int32, upd f b (nI (A 2 b ^^^ 2 ^ k)) b = nI (A 2 b ^^^ 2 ^ k) := fun f => if_pos rfl
  show AG (some (upd (S 0 2) b (nI (A 2 b ^^^ 2 ^ k)) b, _)) (some (upd (s 3) b (nI (A 2 b ^^^ 2 ^ k)) b, _))
  rw [hu, hu]
  exact ag_new hr (KI.o (by omega) (by omega) (by omega) (by omega) (by omega)) (WF_2 w b hlt) hy (RV_2 hv b _) (RM_3 hm b _) _
theorem p_wedding (h : REL S s) (x : Int32) : AG (f_X7_wedding S x) (f_X8_wedding s x) := by
  have h' := h
  obtain ⟨A, w, hy, hv, hm, hr⟩ := h
  have hg5 := w.2.1
  rw [f_X7_wedding, f_X8_wedding, c_hasGroomI hv, m_isGroom hm, Option.bind_some, Option.bind_some]
  rcases br_cases (n := nG A) (by omega) x with e | ⟨g, hg, rfl, e⟩
  · rw [e, if_pos rfl, if_pos rfl, f_X8_wedding_26, if_neg nm1]; exact ag_no h' 1 (by omega) (by decide)
  rw [e, if_neg n10, if_neg n10, c_canWed hv w (by omega), m_canWed hm w hg, Option.bind_some, Option.bind_some]
  by_cases hc : canW A g = true
  · obtain ⟨v', e1, e2⟩ := c_wed hv w hc
    obtain ⟨s', e3, e4, e5⟩ := m_weds hm w hc
    rw [if_pos hc, if_neg (show ¬ nI 1 = 0 by decide), if_neg (show ¬ nI 1 = 0 by decide), f_X8_wedding_26, if_pos rfl, e1, e3]
    exact ag_new hr e5.ki (wed_WF w hc) (by show wedA A g 9 2 ≤ 999; rw [wedA_9]; exact hy) e2 e4 _
  · rw [if_neg hc, if_pos (show nI 0 = 0 by decide), if_pos (show nI 0 = 0 by decide), f_X8_wedding_26, if_neg nm3]; exact ag_no h' 3 (by omega) (by decide)
end PS
