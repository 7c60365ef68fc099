/-! lots, both (draft: hangs; find the row that unfolds) -/
theorem p_lots {S : Nat → St} {s : St} (h : REL S s) (x y z : Int32) : AG (f_X7_lots S x y z) (f_X8_lots s x y z) := by
  have h' := h
  obtain ⟨A, w, hy, hv, hm, hr⟩ := h
  rw [f_X7_lots, f_X8_lots, c_outside, m_bound, Option.bind_some, Option.bind_some]
  rcases out_cases (a := 1) (b := 20) (by omega) (by omega) x with ⟨e2, n, h1, h2, rfl⟩ | e2 | e2
  · have e2 : outI (nI n) 1 20 = 0 := e2
    have hm0 : RM (sA s 23 (upd (s 23) 10 y)) A := ⟨hm.1, hm.2.1, hm.2.2.1, hm.2.2.2.1, hm.2.2.2.2⟩
    have key : ∀ what, what < 2 → AG (f_X7_lots_44 (nI n) (nI what) 2000 y 0 0 S) (f_X8_lots_50 (nI n) (nI what) 2000 0 0 (sA s 23 (upd (s 23) 10 y))) := fun what hw => by
      obtain ⟨S', e3, q3⟩ := c_lots hv w y h2 hw
      obtain ⟨s', e4, r4, q4⟩ := m_lots hm0 w (x := y) rfl h2 hw
      rw [e3, e4]
      exact ag_th w hy hv hr ((show KI s (sA s 23 (upd (s 23) 10 y)) from ⟨rfl, rfl, fun _ _ => rfl, rfl, rfl, rfl, rfl⟩).tr q4) r4 (q3 0 (by decide)) (q3 2 (by decide)) (q3 3 (by decide)) (q3 4 (by decide)) (q3 6 (by decide)) _
    rw [e2, if_pos rfl, if_pos rfl]
    rcases either_cases z with ⟨rfl, e5, e6⟩ | ⟨rfl, e5, e6⟩ | ⟨h3, h4, e5, e6⟩
    · rw [e5, Option.bind_some, if_pos rfl, e6, Option.bind_some, if_neg n10, f_X8_lots_27, if_pos rfl, FUEL_v]
      have := key 0 (by omega)
      rw [show nI 0 = (0 : Int32) from rfl] at this
      exact this
    · rw [e5, Option.bind_some, if_pos rfl, e6, Option.bind_some, if_neg n10, f_X8_lots_27, if_pos rfl, FUEL_v]
      have := key 1 (by omega)
      rw [show nI 1 = (1 : Int32) from rfl] at this
      exact this
    · rw [e5, Option.bind_some, if_neg n10, e6, Option.bind_some, if_pos rfl, f_X8_lots_27, if_neg nm2]; exact ag_no h' 2 (by omega) (by decide)
  · have e2 : outI x 1 20 = -6 := e2
    rw [e2, if_neg nm6, if_neg nm6, f_X8_lots_27, if_neg nm6]; exact ag_no h' 6 (by omega) (by decide)
  · have e2 : outI x 1 20 = -4 := e2
    rw [e2, if_neg nm4, if_neg nm4, f_X8_lots_27, if_neg nm4]; exact ag_no h' 4 (by omega) (by decide)
