/-! valley, both -/
section VA
variable {c : Nat → Nat} {n : Nat} {t : St}
theorem prs_len : ∀ (f p : Nat), (prs c n f p).1.length ≤ f
  | 0, _ => Nat.le_refl _
  | f + 1, p => by
    by_cases hp : p < n
    · cases hs : (stt c n p).2 with
      | true =>
        rw [prs_t hp hs]
        have := prs_len f (stt c n p).1
        show (prs c n f (stt c n p).1).1.length + 1 ≤ f + 1
        omega
      | false => rw [prs_f hp hs]; exact Nat.zero_le _
    · rw [prs_e (by omega)]; exact Nat.zero_le _
theorem prs_q : ∀ (f p q : Nat), (∀ j, j < n → c j < 256) → (prs c n f p).2 = some q → q ≤ n
  | 0, _, q, _, h => by cases h
  | f + 1, p, q, hc, h => by
    by_cases hp : p < n
    · cases hs : (stt c n p).2 with
      | true => rw [prs_t hp hs] at h; exact prs_q f _ q hc h
      | false =>
        rw [prs_f hp hs] at h
        cases h
        exact (stt_le hp).1
    · rw [prs_e (by omega)] at h; cases h
theorem SR.hf {a b : St} {k p : Nat} (h : SR c a k p) (g : HF a b) : SR c b k p := by
  obtain ⟨g1, g2, g3, g4⟩ := g
  exact ⟨(congrFun g1 k).trans h.1, (congrFun g2 k).trans h.2.1, h.2.2.mv fun j _ => congrFun g3 _⟩
theorem x_all (ht : LT t c n) : ∀ (f p k fc fr : Nat) (u v : St) (A : AS), n - p ≤ f → f ≤ 96 → p ≤ n → (prs c n f p).2 = none → RV u A → RM v A → WF A → nY A ≤ 999 → v 23 5 = nI (k + (prs c n f p).1.length) → (∀ i, i < (prs c n f p).1.length → SR c v (k + i) ((prs c n f p).1.getD i 0)) → 3 * k ≤ p → f < fc → f < fr →
    (∃ u' v' A', f_X5_tellTo_21 t fc (nI k) (nI p) u = some (nI (k + (prs c n f p).1.length), u') ∧ (∀ K, f_X8_valley_86 fr (nI k) v K = some (nI (k + (prs c n f p).1.length), v')) ∧ RV u' A' ∧ RM v' A' ∧ WF A' ∧ nY A' ≤ 999 ∧ XF v v') ∨
    (∃ u' v' j q, f_X5_tellTo_21 t fc (nI k) (nI p) u = some ((-2000 : Int32) - nI q, u') ∧ (∀ K, f_X8_valley_86 fr (nI k) v K = K (nI j) v') ∧ j < 48 ∧ q ≤ 96 ∧ v' 12 j = nI q ∧ XF v v')
  | f, p, k, fc, fr, u, v, A, h1, hf, h2, h3, hv, hm, w, hy, h5, h6, h7, h8, h9 => by
    obtain ⟨gc, rfl⟩ : ∃ g, fc = g + 1 := ⟨fc - 1, by omega⟩
    obtain ⟨gr, rfl⟩ : ∃ g, fr = g + 1 := ⟨fr - 1, by omega⟩
    have n96 := ht.1
    have hlen := prs_len (c := c) (n := n) f p
    by_cases hp : p < n
    · obtain ⟨f, rfl⟩ : ∃ f', f = f' + 1 := ⟨f - 1, by omega⟩
      cases hs : (stt c n p).2 with
      | false => rw [prs_f hp hs] at h3; cases h3
      | true =>
        rw [prs_t hp hs] at h3 h5 h6 hlen ⊢
        have hc := (ht.2.2 p hp).1
        obtain ⟨b1, b2, b3, b4⟩ := stt_ok hc hs
        obtain ⟨l1, l2, l3⟩ := frm_L (c p) hc
        have hsl := stt_le (c := c) hp
        have hlen : (prs c n f (stt c n p).1).1.length + 1 ≤ f + 1 := hlen
        have h5 : v 23 5 = nI (k + ((prs c n f (stt c n p).1).1.length + 1)) := h5
        have hr := h6 0 (Nat.succ_pos _)
        have hr : SR c v k p := hr
        have hfL := (fL_end _ l2).2.1
        have hne : ¬ nI (k + ((prs c n f (stt c n p).1).1.length + 1)) ≤ nI k := nI_ge (by omega) (by omega)
        rcases i_all ht hv hm w hy (show k < 48 by omega) hp hs hr with ⟨u1, v1, A1, e1, e2, r1, r2, r3, r4, x1⟩ | ⟨u1, e1, e2⟩
        · have hC : f_X5_tellTo_21 t (gc + 1) (nI k) (nI p) u = f_X5_tellTo_21 t gc (nI (k + 1)) (nI (stt c n p).1) u1 := by
            rw [f_X5_tellTo_21, ht.2.1, if_neg (nI_ge hp (by omega)), e1, Option.bind_some]
            dsimp only
            rw [if_neg n10, c_at ht hp, Option.bind_some, form_m _ hc, Option.bind_some, len_m _ l2, Option.bind_some, nIs, k1, nI_add, nI_add, b3, l1, show p + (1 + (fL (fmi (c p))).length) = p + 1 + (fL (fmi (c p))).length by omega]
          have hM : ∀ K, f_X8_valley_86 (gr + 1) (nI k) v K = f_X8_valley_86 gr (nI (k + 1)) v1 K := fun K => by
            rw [f_X8_valley_86, h5, if_neg hne, e2, Option.bind_some]
            dsimp only
            rw [if_neg n10, nIs]
          have h5' : v1 23 5 = nI (k + 1 + (prs c n f (stt c n p).1).1.length) := by
            rw [x1.2.2.2.2, h5]
            congr 1
            omega
          have h6' : ∀ i, i < (prs c n f (stt c n p).1).1.length → SR c v1 (k + 1 + i) ((prs c n f (stt c n p).1).1.getD i 0) := fun i hi => by
            have := (h6 (i + 1) (Nat.succ_lt_succ hi)).hf x1.2
            rw [show k + 1 + i = k + (i + 1) by omega]
            exact this
          have hkl : k + 1 + (prs c n f (stt c n p).1).1.length = k + ((prs c n f (stt c n p).1).1.length + 1) := by omega
          rcases x_all ht f (stt c n p).1 (k + 1) gc gr u1 v1 A1 (by omega) (by omega) hsl.1 h3 r1 r2 r3 r4 h5' h6' (by omega) (by omega) (by omega) with ⟨u2, v2, A2, a1, a2, a3, a4, a5, a6, a7⟩ | ⟨u2, v2, j, q, a1, a2, a3, a4, a5, a6⟩
          · refine Or.inl ⟨u2, v2, A2, ?_, fun K => ?_, a3, a4, a5, a6, x1.tr a7⟩
            · rw [hC, a1, hkl] <;> rfl
            · rw [hM, a2, hkl] <;> rfl
          · refine Or.inr ⟨u2, v2, j, q, ?_, fun K => ?_, a3, a4, a5, x1.tr a6⟩
            · rw [hC, a1]
            · rw [hM, a2]
        · refine Or.inr ⟨u1, v, k, p, ?_, fun K => ?_, by omega, by omega, hr.2.1, XF.rf⟩
          · rw [f_X5_tellTo_21, ht.2.1, if_neg (nI_ge hp (by omega)), e1, Option.bind_some]
            exact if_pos rfl
          · rw [f_X8_valley_86, h5, if_neg hne, e2, Option.bind_some]
            exact if_pos rfl
    · rw [prs_e (by omega)] at h5 ⊢
      have h5 : v 23 5 = nI k := h5
      refine Or.inl ⟨u, v, A, ?_, fun K => ?_, hv, hm, w, hy, XF.rf⟩
      · rw [f_X5_tellTo_21, ht.2.1, if_pos (nI_le (by omega) (by omega))] <;> rfl
      · rw [f_X8_valley_86, h5, if_pos (Int32.le_refl _)] <;> rfl
end VA
theorem neg_1000 : ∀ q, q < 97 → (-1000 : Int32) - nI q < 0 := by decide +kernel
theorem neg_2000 : ∀ q, q < 97 → (-2000 : Int32) - nI q < 0 := by decide +kernel
theorem rel_v {S S' : Nat → St} {s s' : St} {A : AS} (h : RR S s) (w : WF A) (hy : nY A ≤ 999) (hv : RV (S' 0) A) (hm : RM s' A) (e2 : S' 2 = S 2) (e3 : S' 3 1 0 = 0) (e4 : S' 4 = S 4) (e6 : S' 6 = S 6) (q0 : s' 0 = s 0) (q14 : ∀ j, j < 63 → s' 14 j = s 14 j) (q15 : s' 15 = s 15) (q3 : s' 23 3 = 0) (q6 : s' 23 6 = s 23 6) (q9 : s' 23 9 = s 23 9) : REL S' s' := by
  obtain ⟨-, ⟨m, r1, r2, r3, r4⟩, f, i⟩ := h
  refine ⟨A, w, hy, hv, hm, ⟨0, by omega, e3, q3, fun j hj => by omega⟩, ?_, fun i hi => ?_, ?_⟩
  · rw [e4]
    exact ⟨m, r1, r2, q9.trans r3, fun j hj => by rw [q15]; exact r4 j hj⟩
  · rw [e6, q0]; exact f i hi
  · unfold IM
    rw [e2, e6]
    rcases i with ⟨i1, i2⟩ | ⟨i1, i2, B, b1, b2, b3, b4⟩
    · exact Or.inl ⟨i1, q6.trans i2⟩
    · refine Or.inr ⟨i1, q6.trans i2, B, b1, b2, b3, fun j hj => ?_⟩
      have := b4 j hj
      rw [show 63 * 0 + j = j by omega] at this ⊢
      exact (q14 j hj).trans this
theorem rm_mv {s s' : St} {A : AS} (h : RM s A) (e : ∀ j, 1 ≤ j → j ≤ 9 → s' j = s j) (e0 : s' 23 0 = s 23 0) (e1 : s' 23 1 = s 23 1) (e2 : s' 23 2 = s 23 2) : RM s' A := by
  refine ⟨e0.trans h.1, e1.trans h.2.1, e2.trans h.2.2.1, fun b hb => ?_, fun g hg => ?_⟩
  · rw [e 1 (by omega) (by omega), e 2 (by omega) (by omega), e 3 (by omega) (by omega), e 4 (by omega) (by omega), e 5 (by omega) (by omega)]; exact h.2.2.2.1 b hb
  · rw [e 6 (by omega) (by omega), e 7 (by omega) (by omega), e 8 (by omega) (by omega), e 9 (by omega) (by omega)]; exact h.2.2.2.2 g hg
theorem p_valley {S : Nat → St} {s : St} (h : REL S s) : AG (f_X7_valley S) (f_X8_valley s) := by
  obtain ⟨A, w, hy, hv, hm, hr⟩ := h
  obtain ⟨n, hn, t2, t3, t4⟩ := hr.1
  obtain ⟨u1, eb, rb⟩ := c_become (v := S 1) hv
  generalize hcd : (fun j => (S 3 0 j).toNatClampNeg) = c
  have hcl : ∀ j, j < n → c j < 256 ∧ S 3 0 j = nI (c j) ∧ s 10 j = nI (c j) := fun j hj => by
    obtain ⟨x, x1, x2, x3⟩ := t4 j hj
    have : c j = x := by
      rw [← hcd]
      show (S 3 0 j).toNatClampNeg = x
      rw [x2, nI_clamp (by omega)]
    rw [this]
    exact ⟨x1, x2, x3⟩
  have ht : LT (S 3) c n := ⟨hn, t2, fun j hj => ⟨(hcl j hj).1, (hcl j hj).2.1⟩⟩
  generalize hs0 : sA (sA s 23 (upd (s 23) 4 (0 : Int32))) 23 (upd (upd (s 23) 4 (0 : Int32)) 5 (0 : Int32)) = s0
  have z0 : ∀ j, j ≠ 23 → s0 j = s j := fun j hj => by rw [← hs0, sA_ne hj, sA_ne hj]
  have z23 : ∀ j, j ≠ 4 → j ≠ 5 → s0 23 j = s 23 j := fun j h4 h5 => by rw [← hs0, sA_eq, upd_ne h5, upd_ne h4]
  have z4 : s0 23 4 = nI 0 := by rw [← hs0, sA_eq, upd_ne (by decide), upd_eq] <;> rfl
  have z5 : s0 23 5 = nI 0 := by rw [← hs0, sA_eq, upd_eq] <;> rfl
  have htc : TC c n s0 := ⟨hn, (z23 3 (by decide) (by decide)).trans t3, fun j hj => ⟨(hcl j hj).1, (congrFun (z0 10 (by decide)) j).trans (hcl j hj).2.2⟩⟩
  have hneg : ∀ q (u2 : St) (s' : St), q ≤ 96 → f_X5_tellTo (S 3) u1 = some ((-1000 : Int32) - nI q, u2) → f_X8_valley s = some ((-1000 : Int32) - nI q, s') → RM s' A → s' 0 = s 0 → (∀ j, j < 63 → s' 14 j = s 14 j) → s' 15 = s 15 → s' 23 3 = 0 → s' 23 6 = s 23 6 → s' 23 9 = s 23 9 → AG (f_X7_valley S) (f_X8_valley s) := fun q u2 s' hq e1 e2 r q0 q14 q15 q3 q6 q9 => by
    rw [f_X7_valley, eb, Option.bind_some, e1, Option.bind_some, f_X5_empty, Option.bind_some, e2, if_pos (neg_1000 q (by omega))]
    exact ⟨_, _, _, rfl, rfl, rel_v hr w hy (S' := sS (sS (sS S 1 u1) 1 u2) 3 (sA (S 3) 1 (upd (S 3 1) 0 0))) hv r rfl rfl rfl rfl q0 q14 q15 q3 q6 q9⟩
  by_cases hn0 : n = 0
  · subst hn0
    have hf := c_fault ht
    rw [if_pos rfl] at hf
    have hst : f_X8_statement s0 = some (0, s0) := by
      have e0 : nx c 0 0 = -1 := rfl
      rw [f_X8_statement, m_next htc z4 (Nat.le_refl 0), Option.bind_some, e0, if_neg (by decide), if_neg (by decide), if_neg (by decide), if_neg (by decide), if_neg (by decide), if_neg (by decide)]
    have hM : f_X8_valley s = some ((-1000 : Int32) - nI 0, sA (sA s0 23 (upd (s0 23) 5 (s0 23 5 + 0))) 23 (upd (sA s0 23 (upd (s0 23) 5 (s0 23 5 + 0)) 23) 3 0)) := by
      rw [f_X8_valley, FUEL_v, hs0]
      show f_X8_valley_12 (1998 + 1 + 1) 1 s0 _ = _
      rw [f_X8_valley_12, if_neg n10, z4, htc.2.1, if_neg (show ¬ nI 0 < nI 0 by decide), z5, if_pos ni0, f_X8_valley_34, hst, Option.bind_some, if_pos rfl, f_X8_valley_12, if_pos rfl]
      dsimp only
      rw [f_X8_valley_60, if_pos rfl, sA_eq, upd_ne (show (4 : Nat) ≠ 5 by decide), z4, z5] <;> rfl
    refine hneg 0 u1 _ (by omega) ?_ hM ?_ ?_ ?_ ?_ ?_ ?_ ?_
    · rw [f_X5_tellTo, hf, Option.bind_some, if_neg (show ¬ nI 0 = -1 by decide)]
    · refine rm_mv hm (fun j h1 h2 => ?_) ?_ ?_ ?_
      · rw [sA_ne (by omega), sA_ne (by omega), z0 j (by omega)]
      · rw [sA_eq, upd_ne (by decide), sA_eq, upd_ne (by decide), z23 0 (by decide) (by decide)]
      · rw [sA_eq, upd_ne (by decide), sA_eq, upd_ne (by decide), z23 1 (by decide) (by decide)]
      · rw [sA_eq, upd_ne (by decide), sA_eq, upd_ne (by decide), z23 2 (by decide) (by decide)]
    · rw [sA_ne (by decide), sA_ne (by decide), z0 0 (by decide)]
    · intro j _
      rw [sA_ne (by decide), sA_ne (by decide), z0 14 (by decide)]
    · rw [sA_ne (by decide), sA_ne (by decide), z0 15 (by decide)]
    · rw [sA_eq, upd_eq]
    · rw [sA_eq, upd_ne (by decide), sA_eq, upd_ne (by decide), z23 6 (by decide) (by decide)]
    · rw [sA_eq, upd_ne (by decide), sA_eq, upd_ne (by decide), z23 9 (by decide) (by decide)]
  · have hf := c_fault ht
    rw [if_neg hn0] at hf
    obtain ⟨v1, a1, a2, a3, a4⟩ := m_parse (K := fun (x1_2676 : Int32) (v_2677 : St) => f_X8_valley_60 x1_2676 v_2677) n 0 0 2000 s0 (by omega) (by omega) htc z4 z5 (by omega) (by omega) (fun _ => by omega)
    generalize hv1 : sA v1 23 (upd (v1 23) 3 (0 : Int32)) = v1'
    have y0 : ∀ j, j ≠ 11 → j ≠ 12 → j ≠ 13 → j ≠ 23 → v1' j = s j := fun j h1 h2 h3 h4 => by rw [← hv1, sA_ne h4, a2.1 j h1 h2 h3 h4, z0 j h4]
    have yh : ∀ j, j ≠ 23 → v1' j = v1 j := fun j h4 => by rw [← hv1, sA_ne h4]
    have y23 : ∀ j, j ≠ 3 → j ≠ 4 → j ≠ 5 → v1' 23 j = s 23 j := fun j h3 h4 h5 => by rw [← hv1, sA_eq, upd_ne h3, a2.2.1 j h4 h5, z23 j h4 h5]
    have y3 : v1' 23 3 = 0 := by rw [← hv1, sA_eq, upd_eq]
    have yr : RM v1' A := rm_mv hm (fun j h1 h2 => y0 j (by omega) (by omega) (by omega) (by omega)) (y23 0 (by decide) (by decide) (by decide)) (y23 1 (by decide) (by decide) (by decide)) (y23 2 (by decide) (by decide) (by decide))
    have hM : f_X8_valley s = f_X8_valley_60 (nI (match (prs c n n 0).2 with | none => 1 | some _ => 0)) v1 := by
      rw [f_X8_valley, FUEL_v, hs0]
      exact a1
    cases hq : (prs c n n 0).2 with
    | some q =>
      have hq96 : q ≤ 96 := Nat.le_trans (prs_q n 0 q (fun j hj => (hcl j hj).1) hq) hn
      rw [hq] at hf hM
      refine hneg q u1 v1' hq96 ?_ ?_ yr (y0 0 (by decide) (by decide) (by decide) (by decide)) (fun j _ => congrFun (y0 14 (by decide) (by decide) (by decide) (by decide)) j) (y0 15 (by decide) (by decide) (by decide) (by decide)) y3 (y23 6 (by decide) (by decide) (by decide)) (y23 9 (by decide) (by decide) (by decide))
      · have hf : f_X5_formFault (S 3) = some (nI q) := hf
        rw [f_X5_tellTo, hf, Option.bind_some, if_neg]
        intro z
        have : ∀ q, q < 97 → ¬ nI q = (-1 : Int32) := by decide
        exact this q (by omega) z
      · rw [hM, f_X8_valley_60, a3 q hq, hv1]
        exact if_pos rfl
    | none =>
      rw [hq] at hf hM
      have hf : f_X5_formFault (S 3) = some (-1) := hf
      obtain ⟨d1, d2⟩ := a4 hq
      obtain ⟨v2, e2, r2, n2, g0, g10, g15, g11, g12, g13, g3, g5, g6, g9, g14⟩ := m_save yr (w := 1) (by omega)
      have e2 : f_X8_passesAll v1' 1 1 = some v2 := e2
      have h5 : v2 23 5 = nI (0 + (prs c n n 0).1.length) := by
        rw [g5, ← hv1, sA_eq, upd_ne (by decide)]; exact d1
      have h6 : ∀ i, i < (prs c n n 0).1.length → SR c v2 (0 + i) ((prs c n n 0).1.getD i 0) := fun i hi => by
        obtain ⟨k1, k2, k3⟩ := d2 i hi
        refine ⟨?_, ?_, k3.mv fun j _ => ?_⟩
        · rw [g11, yh 11 (by decide)]; exact k1
        · rw [g12, yh 12 (by decide)]; exact k2
        · rw [g13, yh 13 (by decide)]
      have hlen := prs_len (c := c) (n := n) n 0
      have hC : f_X5_tellTo (S 3) u1 = f_X5_tellTo_21 (S 3) 2000 0 0 u1 := by
        rw [f_X5_tellTo, hf, Option.bind_some, if_pos rfl, FUEL_v]
      have hM2 : f_X8_valley s = f_X8_valley_86 2000 0 v2 (fun (x2_2680 : Int32) (v_2681 : St) => (f_X8_passesAll v_2681 (1 : Int32) (0 : Int32)).bind (fun q2682 => gd (inB x2_2680 48) (some (((-2000 : Int32) - ((q2682 12) x2_2680.toNatClampNeg)), q2682)))) := by
        rw [hM, f_X8_valley_60, if_neg (show ¬ nI 1 = 0 by decide), hv1, e2, Option.bind_some, FUEL_v]
      rcases x_all ht n 0 0 2000 2000 u1 v2 A (by omega) hn (by omega) hq rb r2 w hy h5 h6 (by omega) (by omega) (by omega) with ⟨u3, v3, A3, b1, b2, b3, b4, b5, b6, b7⟩ | ⟨u3, v3, j, q, b1, b2, b3, b4, b5, b6⟩
      · have b1 : f_X5_tellTo_21 (S 3) 2000 0 0 u1 = some (nI (0 + (prs c n n 0).1.length), u3) := b1
        obtain ⟨u4, e4, r4⟩ := c_become (v := S 0) b3
        obtain ⟨⟨k0, k10, k14, k15, k3, k6, k9⟩, hh⟩ := b7
        rw [f_X7_valley, eb, Option.bind_some, hC, b1, Option.bind_some, f_X5_empty, Option.bind_some, if_neg (nI_pos (by omega)), e4, Option.bind_some, hM2]
        have b2 := b2 (fun (x2_2680 : Int32) (v_2681 : St) => (f_X8_passesAll v_2681 (1 : Int32) (0 : Int32)).bind (fun q2682 => gd (inB x2_2680 48) (some (((-2000 : Int32) - ((q2682 12) x2_2680.toNatClampNeg)), q2682))))
        refine ⟨_, _, _, rfl, b2, rel_v hr b5 b6 (S' := sS (sS (sS (sS S 1 u1) 1 u3) 3 (sA (S 3) 1 (upd (S 3 1) 0 0))) 0 u4) r4 b4 rfl rfl rfl rfl ?_ (fun j hj => ?_) ?_ ?_ ?_ ?_⟩
        · rw [k0, g0, y0 0 (by decide) (by decide) (by decide) (by decide)]
        · rw [k14, g14 j (by omega), y0 14 (by decide) (by decide) (by decide) (by decide)]
        · rw [k15, g15, y0 15 (by decide) (by decide) (by decide) (by decide)]
        · rw [k3, g3, y3]
        · rw [k6, g6, y23 6 (by decide) (by decide) (by decide)]
        · rw [k9, g9, y23 9 (by decide) (by decide) (by decide)]
      · have b1 : f_X5_tellTo_21 (S 3) 2000 0 0 u1 = some ((-2000 : Int32) - nI q, u3) := b1
        obtain ⟨⟨k0, k10, k14, k15, k3, k6, k9⟩, hh⟩ := b6
        have n3 : ENC v3 1 A := fun j hj => (congrFun k14 _).trans (n2 j hj)
        obtain ⟨v4, e4, r4, l0, l10, l14, l15, l11, l12, l13, l3, l5, l6, l9⟩ := m_load (w := 1) (by omega) n3
        have e4 : f_X8_passesAll v3 1 0 = some v4 := e4
        have b2 : f_X8_valley s = some ((-2000 : Int32) - nI q, v4) := by
          rw [hM2]
          refine (b2 _).trans ?_
          show (f_X8_passesAll v3 1 0).bind _ = _
          rw [e4, Option.bind_some, gd_in b3 (by omega), nI_clamp (by omega), l12, b5]
        rw [f_X7_valley, eb, Option.bind_some, hC, b1, Option.bind_some, f_X5_empty, Option.bind_some, if_pos (neg_2000 q (by omega))]
        refine ⟨_, _, _, rfl, b2, rel_v hr w hy (S' := sS (sS (sS S 1 u1) 1 u3) 3 (sA (S 3) 1 (upd (S 3 1) 0 0))) hv r4 rfl rfl rfl rfl ?_ (fun j hj => ?_) ?_ ?_ ?_ ?_⟩
        · rw [l0, k0, g0, y0 0 (by decide) (by decide) (by decide) (by decide)]
        · rw [l14, k14, g14 j (by omega), y0 14 (by decide) (by decide) (by decide) (by decide)]
        · rw [l15, k15, g15, y0 15 (by decide) (by decide) (by decide) (by decide)]
        · rw [l3, k3, g3, y3]
        · rw [l6, k6, g6, y23 6 (by decide) (by decide) (by decide)]
        · rw [l9, k9, g9, y23 9 (by decide) (by decide) (by decide)]
