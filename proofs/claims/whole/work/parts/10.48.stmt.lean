/-! the reference reads all statements -/
section ST
variable {c : Nat → Nat} {n : Nat} {v : St}
theorem bdy_x : ∀ x, x < 256 → ¬ bdy x = [] → x = 98 ∨ x = 103 ∨ x = 116 ∨ x = 108 ∨ x = 121 ∨ x = 119 := by decide +kernel
theorem m_g (h : TC c n v) {p q : Nat} (hp : v 23 4 = nI p) (hpn : p ≤ n) (hq : q + 3 ≤ 144) : ∃ v', (f_X8_readsDigits v (nI q) (2 : Int32)).bind (fun q2487 => (if q2487.1 = 0 then some ((0 : Int32), q2487.2) else (f_X8_readsDigits q2487.2 (nI q + (1 : Int32)) (2 : Int32)).bind (fun q2488 => (if q2488.1 = 0 then some ((0 : Int32), q2488.2) else some ((1 : Int32), q2488.2))))) = some (nI (if (sc c n (bdy 103) p).2 then 1 else 0), v') ∧ RA c n v v' 103 p q := by
  obtain ⟨v2, e2, pf2, r2, o2⟩ := m_rd2 h (q := q) hp hpn (by omega)
  have hbd : sc c n (bdy 103) p = sc c n ([57, 57] ++ [57, 57]) p := rfl
  unfold RA
  have l1 := sc_le (c := c) (n := n) [57, 57] p hpn
  rw [hbd, sc_app, e2, Option.bind_some, nIs]
  cases h1 : (sc c n [57, 57] p).2 with
  | false =>
    rw [if_neg nft, if_pos ni0, if_neg nft]
    exact ⟨v2, by rw [h1, if_neg nft] <;> rfl, pf2, fun z => (by rw [h1] at z; cases z), fun j hj => o2 j (by omega)⟩
  | true =>
    have l2 : (sc c n [57, 57] p).1 = p + 2 := (sc_ok _ _ h1).1
    rw [l2] at pf2
    have hp2 : p + 2 ≤ n := by omega
    obtain ⟨v3, e3, pf3, r3, o3⟩ := m_rd2 (h.pf pf2) (q := q + 1) pf2.2.2 hp2 (by omega)
    rw [if_pos rfl, if_neg ni1, if_pos rfl, l2, e3, Option.bind_some]
    cases h3 : (sc c n [57, 57] (p + 2)).2 with
    | false =>
      rw [if_neg nft, if_pos ni0]
      exact ⟨v3, rfl, pf2.tr pf3, fun z => (by cases z), fun j hj => (o3 j (by omega)).trans (o2 j (by omega))⟩
    | true =>
      rw [if_pos rfl, if_neg ni1]
      refine ⟨v3, rfl, pf2.tr pf3, fun _ => ?_, fun j hj => (o3 j (by omega)).trans (o2 j (by omega))⟩
      exact ⟨fun z => absurd z (by decide), fun _ => ⟨(o3 q (by omega)).trans (r2 h1), r3 h3⟩, fun z => absurd z (by decide), fun z => absurd z (by decide), fun z => absurd z (by decide), fun z => absurd z (by decide)⟩
theorem m_tl (h : TC c n v) {p q x : Nat} (hx : x = 116 ∨ x = 108) (hp : v 23 4 = nI p) (hpn : p ≤ n) (hq : q + 3 ≤ 144) : ∃ v', (f_X8_readsDigits v (nI q) (1 : Int32)).bind (fun q2491 => (if q2491.1 = 0 then some ((0 : Int32), q2491.2) else (f_X8_readsDigits q2491.2 (nI q + (1 : Int32)) (1 : Int32)).bind (fun q2492 => (if q2492.1 = 0 then some ((0 : Int32), q2492.2) else some ((1 : Int32), q2492.2))))) = some (nI (if (sc c n (bdy x) p).2 then 1 else 0), v') ∧ RA c n v v' x p q := by
  obtain ⟨v2, e2, pf2, r2, o2⟩ := m_rd1 h (q := q) hp hpn (by omega)
  have hbd : sc c n (bdy x) p = sc c n ([57] ++ [57]) p := by rcases hx with e | e <;> subst e <;> rfl
  unfold RA
  have l1 := sc_le (c := c) (n := n) [57] p hpn
  rw [hbd, sc_app, e2, Option.bind_some, nIs]
  cases h1 : (sc c n [57] p).2 with
  | false =>
    rw [if_neg nft, if_pos ni0, if_neg nft]
    exact ⟨v2, by rw [h1, if_neg nft] <;> rfl, pf2, fun z => (by rw [h1] at z; cases z), fun j hj => o2 j (by omega)⟩
  | true =>
    have l2 : (sc c n [57] p).1 = p + 1 := (sc_ok _ _ h1).1
    rw [l2] at pf2
    have hp2 : p + 1 ≤ n := by omega
    obtain ⟨v3, e3, pf3, r3, o3⟩ := m_rd1 (h.pf pf2) (q := q + 1) pf2.2.2 hp2 (by omega)
    rw [if_pos rfl, if_neg ni1, if_pos rfl, l2, e3, Option.bind_some]
    cases h3 : (sc c n [57] (p + 1)).2 with
    | false =>
      rw [if_neg nft, if_pos ni0]
      exact ⟨v3, rfl, pf2.tr pf3, fun z => (by cases z), fun j hj => (o3 j (by omega)).trans (o2 j (by omega))⟩
    | true =>
      have tv : v3 13 q = nI (dv c p) ∧ v3 13 (q + 1) = nI (dv c (p + 1)) := ⟨(o3 q (by omega)).trans (r2 h1), r3 h3⟩
      rw [if_pos rfl, if_neg ni1]
      refine ⟨v3, rfl, pf2.tr pf3, fun _ => ?_, fun j hj => (o3 j (by omega)).trans (o2 j (by omega))⟩
      exact ⟨fun z => (by omega), fun z => (by omega), fun z => (by omega), fun z => (by omega), fun _ => tv, fun _ => tv⟩
theorem isZ01 (b : Bool) : isZ (nI (if b then 1 else 0)) = true := by cases b <;> decide
theorem m_readsAll (h : TC c n v) {p q x : Nat} (hx : x < 256) (hb : ¬ bdy x = []) (hp : v 23 4 = nI p) (hpn : p ≤ n) (hq : q + 3 ≤ 144) : ∃ v', f_X8_readsAll v (nI x) (nI q) = some (nI (if (sc c n (bdy x) p).2 then 1 else 0), v') ∧ RA c n v v' x p q := by
  rcases bdy_x x hx hb with e | e | e | e | e | e
  · subst e
    obtain ⟨v', e1, r1⟩ := m_bride h hp hpn hq
    exact ⟨v', by rw [f_X8_readsAll, if_pos (by decide), e1, Option.bind_some, gdT (isZ01 _)], r1⟩
  · subst e
    obtain ⟨v', e1, r1⟩ := m_g h hp hpn hq
    exact ⟨v', by rw [f_X8_readsAll, if_neg (by decide), if_pos (by decide)]; exact e1, r1⟩
  · subst e
    obtain ⟨v', e1, r1⟩ := m_tl h (x := 116) (Or.inl rfl) hp hpn hq
    exact ⟨v', by rw [f_X8_readsAll, if_neg (by decide), if_neg (by decide), if_neg (by decide), if_neg (by decide)]; exact e1, r1⟩
  · subst e
    obtain ⟨v', e1, r1⟩ := m_tl h (x := 108) (Or.inr rfl) hp hpn hq
    exact ⟨v', by rw [f_X8_readsAll, if_neg (by decide), if_neg (by decide), if_neg (by decide), if_neg (by decide)]; exact e1, r1⟩
  · subst e
    obtain ⟨v2, e2, pf2, r2, o2⟩ := m_rd2 h (q := q) hp hpn (by omega)
    have hbd : sc c n (bdy 121) p = sc c n [57, 57] p := rfl
    unfold RA
    rw [hbd]
    refine ⟨v2, by rw [f_X8_readsAll, if_neg (by decide), if_neg (by decide), if_neg (by decide), if_pos (by decide), e2, Option.bind_some, gdT (isZ01 _)], pf2, fun z => ?_, fun j hj => o2 j (by omega)⟩
    exact ⟨fun z => absurd z (by decide), fun z => absurd z (by decide), fun z => absurd z (by decide), fun _ => r2 z, fun z => absurd z (by decide), fun z => absurd z (by decide)⟩
  · subst e
    obtain ⟨v2, e2, pf2, r2, o2⟩ := m_rd1 h (q := q) hp hpn (by omega)
    have hbd : sc c n (bdy 119) p = sc c n [57] p := rfl
    unfold RA
    rw [hbd]
    refine ⟨v2, by rw [f_X8_readsAll, if_neg (by decide), if_neg (by decide), if_pos (by decide), e2, Option.bind_some, gdT (isZ01 _)], pf2, fun z => ?_, fun j hj => o2 j (by omega)⟩
    exact ⟨fun z => absurd z (by decide), fun z => absurd z (by decide), fun _ => r2 z, fun z => absurd z (by decide), fun z => absurd z (by decide), fun z => absurd z (by decide)⟩
/-- a statement is kept at place k -/
def SR (c : Nat → Nat) (v : St) (k p : Nat) : Prop := v 11 k = nI (c p) ∧ v 12 k = nI p ∧ TV c (c p) (p + 1) v (3 * k)
/-- what reading leaves: all but the statements from k on, and the place -/
def SF (v v' : St) (k : Nat) : Prop := (∀ j, j ≠ 11 → j ≠ 12 → j ≠ 13 → j ≠ 23 → v' j = v j) ∧ (∀ j, j ≠ 4 → j ≠ 5 → v' 23 j = v 23 j) ∧ (∀ j, j < k → v' 11 j = v 11 j ∧ v' 12 j = v 12 j) ∧ ∀ j, j < 3 * k → v' 13 j = v 13 j
theorem SF.rf {v : St} {k : Nat} : SF v v k := ⟨fun _ _ _ _ _ => rfl, fun _ _ _ => rfl, fun _ _ => ⟨rfl, rfl⟩, fun _ _ => rfl⟩
theorem SF.tr {a b d : St} {k l : Nat} (hkl : k ≤ l) (h : SF a b k) (g : SF b d l) : SF a d k := ⟨fun j h1 h2 h3 h4 => (g.1 j h1 h2 h3 h4).trans (h.1 j h1 h2 h3 h4), fun j h1 h2 => (g.2.1 j h1 h2).trans (h.2.1 j h1 h2), fun j hj => ⟨(g.2.2.1 j (by omega)).1.trans (h.2.2.1 j hj).1, (g.2.2.1 j (by omega)).2.trans (h.2.2.1 j hj).2⟩, fun j hj => (g.2.2.2 j (by omega)).trans (h.2.2.2 j hj)⟩
theorem TV.mv {a b : St} {x p q : Nat} (h : TV c x p a q) (e : ∀ j, j < 3 → b 13 (q + j) = a 13 (q + j)) : TV c x p b q := by
  have e0 : b 13 q = a 13 q := e 0 (by omega)
  have e1 := e 1 (by omega)
  have e2 := e 2 (by omega)
  unfold TV at h ⊢
  rw [e0, e1, e2]
  exact h
theorem SR.mv {a b : St} {k l p : Nat} (h : SR c a k p) (g : SF a b l) (hk : k < l) : SR c b k p := ⟨(g.2.2.1 k hk).1.trans h.1, (g.2.2.1 k hk).2.trans h.2.1, h.2.2.mv fun j hj => g.2.2.2 _ (by omega)⟩
theorem TC.sf {a b : St} {k : Nat} (h : TC c n a) (g : SF a b k) : TC c n b := ⟨h.1, (g.2.1 3 (by decide) (by decide)).trans h.2.1, fun j hj => ⟨(h.2.2 j hj).1, (congrFun (g.1 10 (by decide) (by decide) (by decide) (by decide)) j).trans (h.2.2 j hj).2⟩⟩
theorem m_stmt43 (h : TC c n v) {p k : Nat} (hpl : p < n) (hb : ¬ bdy (c p) = []) (hp : v 23 4 = nI p) (hk : v 23 5 = nI k) (hk48 : k < 48) : ∃ v', f_X8_statement_43 v (nI (c p)) = some (nI (if (stt c n p).2 then 1 else 0), v') ∧ v' 23 4 = nI (stt c n p).1 ∧ v' 23 5 = nI k ∧ SF v v' k ∧ ((stt c n p).2 = true → SR c v' k p) := by
  have hx := (h.2.2 p hpl).1
  have hst : stt c n p = sc c n (bdy (c p) ++ [59]) (p + 1) := by
    unfold stt frm
    rw [if_neg hb, if_neg hb]
  have e3k : (3 : Int32) * nI k = nI (3 * k) := pk_mul 3 k
  rw [f_X8_statement_43, hk, gd_in hk48 (by omega), gd_in hk48 (by omega), nI_clamp (by omega), hp, nIs, e3k]
  generalize hv0 : sA (sA (sA v 11 (upd (v 11) k (nI (c p)))) 12 (upd (v 12) k (nI p))) 23 (upd (v 23) 4 (nI (p + 1))) = v0
  have a10 : ∀ j, j ≠ 11 → j ≠ 12 → j ≠ 23 → v0 j = v j := fun j h1 h2 h3 => by rw [← hv0, sA_ne h3, sA_ne h2, sA_ne h1]
  have a23 : ∀ j, j ≠ 4 → v0 23 j = v 23 j := fun j hj => by rw [← hv0, sA_eq, upd_ne hj]
  have a4 : v0 23 4 = nI (p + 1) := by rw [← hv0, sA_eq, upd_eq]
  have a11 : v0 11 = upd (v 11) k (nI (c p)) := by rw [← hv0, sA_ne (by decide), sA_ne (by decide), sA_eq]
  have a12 : v0 12 = upd (v 12) k (nI p) := by rw [← hv0, sA_ne (by decide), sA_eq]
  have h0 : TC c n v0 := ⟨h.1, (a23 3 (by decide)).trans h.2.1, fun j hj => ⟨(h.2.2 j hj).1, (congrFun (a10 10 (by decide) (by decide) (by decide)) j).trans (h.2.2 j hj).2⟩⟩
  obtain ⟨v1, e1, pf1, t1, o1⟩ := m_readsAll h0 (q := 3 * k) hx hb a4 (by omega) (by omega)
  have l1 := sc_le (c := c) (n := n) (bdy (c p)) (p + 1) (by omega)
  have f1 : ∀ w : St, (∀ j, j ≠ 23 → w j = v1 j) → (∀ j, j ≠ 4 → w 23 j = v1 23 j) → SF v w k := fun w w1 w2 => by
    refine ⟨fun j h1 h2 h3 h4 => ?_, fun j h1 h2 => ?_, fun j hj => ⟨?_, ?_⟩, fun j hj => ?_⟩
    · rw [w1 j h4, pf1.1 j h3 h4, a10 j h1 h2 h4]
    · rw [w2 j h1, pf1.2.1 j h1, a23 j h1]
    · rw [w1 11 (by decide), pf1.1 11 (by decide) (by decide), a11, upd_ne (by omega)]
    · rw [w1 12 (by decide), pf1.1 12 (by decide) (by decide), a12, upd_ne (by omega)]
    · rw [w1 13 (by decide), o1 j (by omega), a10 13 (by decide) (by decide) (by decide)]
  have f5 : v1 23 5 = nI k := ((pf1.2.1 5 (by decide)).trans (a23 5 (by decide))).trans hk
  rw [e1, Option.bind_some, hst, sc_app]
  cases h1 : (sc c n (bdy (c p)) (p + 1)).2 with
  | false =>
    rw [if_neg nft, if_pos ni0, if_neg nft]
    exact ⟨v1, by rw [h1, if_neg nft] <;> rfl, pf1.2.2, f5, f1 v1 (fun _ _ => rfl) (fun _ _ => rfl), fun z => (by rw [h1] at z; cases z)⟩
  | true =>
    rw [if_pos rfl, if_neg ni1, if_pos rfl, m_next (h0.pf pf1) pf1.2.2 l1.1, Option.bind_some]
    generalize (sc c n (bdy (c p)) (p + 1)).1 = p1 at pf1 l1
    have hnx : (nx c n p1 = 59) ↔ (decide (p1 < n) && fitB (c p1) 59) = true := by
      unfold nx
      by_cases e : p1 < n
      · have hc := (h.2.2 p1 e).1
        rw [if_pos e, decide_eq_true e, Bool.true_and]
        have : fitB (c p1) 59 = (c p1 == 59) := rfl
        rw [this, beq_iff_eq]
        exact nI_eq (b := 59) (by omega) (by omega)
      · rw [if_neg e, decide_eq_false e, Bool.false_and]
        exact ⟨fun z => absurd z (by decide), fun z => absurd z nft⟩
    cases h2 : (decide (p1 < n) && fitB (c p1) 59) with
    | true =>
      rw [sc_t h2, if_pos (hnx.mpr h2)]
      have g1 : ∀ j, j ≠ 23 → (sA v1 23 (upd (v1 23) 4 ((v1 23 4) + (1 : Int32)))) j = v1 j := fun j hj => sA_ne hj
      refine ⟨sA v1 23 (upd (v1 23) 4 ((v1 23 4) + (1 : Int32))), rfl, ?_, ?_, f1 _ g1 (fun j hj => by rw [sA_eq, upd_ne hj]), fun _ => ⟨?_, ?_, (t1 h1).mv fun j _ => congrFun (g1 13 (by decide)) _⟩⟩
      · rw [sA_eq, upd_eq, pf1.2.2, nIs] <;> rfl
      · rw [sA_eq, upd_ne (by decide), f5]
      · rw [g1 11 (by decide), pf1.1 11 (by decide) (by decide), a11, upd_eq]
      · rw [g1 12 (by decide), pf1.1 12 (by decide) (by decide), a12, upd_eq]
    | false =>
      rw [sc_f h2, if_neg (fun z => by rw [hnx.mp z] at h2; cases h2)]
      exact ⟨v1, rfl, pf1.2.2, f5, f1 v1 (fun _ _ => rfl) (fun _ _ => rfl), fun z => (by cases z)⟩
theorem six_x : ∀ x, x < 256 → (bdy x = [] → ¬ nI x = 98 ∧ ¬ nI x = 103 ∧ ¬ nI x = 116 ∧ ¬ nI x = 108 ∧ ¬ nI x = 119 ∧ ¬ nI x = 121) ∧ (¬ bdy x = [] → nI x = 98 ∨ nI x = 103 ∨ nI x = 116 ∨ nI x = 108 ∨ nI x = 119 ∨ nI x = 121) := by decide +kernel
theorem m_stmt (h : TC c n v) {p k : Nat} (hpl : p < n) (hp : v 23 4 = nI p) (hk : v 23 5 = nI k) (hk48 : k < 48) : ∃ v', f_X8_statement v = some (nI (if (stt c n p).2 then 1 else 0), v') ∧ v' 23 4 = nI (stt c n p).1 ∧ v' 23 5 = nI k ∧ SF v v' k ∧ ((stt c n p).2 = true → SR c v' k p) := by
  have hx := (h.2.2 p hpl).1
  have hnx : nx c n p = nI (c p) := if_pos hpl
  rw [f_X8_statement, m_next h hp (by omega), Option.bind_some, hnx]
  by_cases hb : bdy (c p) = []
  · obtain ⟨q1, q2, q3, q4, q5, q6⟩ := (six_x _ hx).1 hb
    have hst : stt c n p = (p, false) := if_pos hb
    rw [if_neg q1, if_neg q2, if_neg q3, if_neg q4, if_neg q5, if_neg q6, hst]
    exact ⟨v, rfl, hp, hk, SF.rf, fun z => (by cases z)⟩
  · obtain ⟨v', e1, e2, e3, e4, e5⟩ := m_stmt43 h hpl hb hp hk hk48
    refine ⟨v', ?_, e2, e3, e4, e5⟩
    rcases (six_x _ hx).2 hb with q | q | q | q | q | q
    all_goals (rw [e1]; simp [q])
/-- all statements are read -/
theorem m_parse {K : Int32 → St → Option (Int32 × St)} : ∀ (f p k fuel : Nat) (v : St), n - p ≤ f → f + 1 < fuel → TC c n v → v 23 4 = nI p → v 23 5 = nI k → p ≤ n → 3 * k ≤ p → (k = 0 → p < n) →
    ∃ v', f_X8_valley_12 fuel 1 v K = K (nI (match (prs c n f p).2 with | none => 1 | some _ => 0)) v' ∧ SF v v' k ∧ (∀ q, (prs c n f p).2 = some q → v' 23 4 = nI q) ∧ ((prs c n f p).2 = none → v' 23 5 = nI (k + (prs c n f p).1.length) ∧ ∀ i, i < (prs c n f p).1.length → SR c v' (k + i) ((prs c n f p).1.getD i 0))
  | f, p, k, fuel, v, h1, h2, h3, h4, h5, h6, h7, h8 => by
    obtain ⟨g, rfl⟩ : ∃ g, fuel = g + 2 := ⟨fuel - 2, by omega⟩
    have n96 := h3.1
    by_cases hp : p < n
    · obtain ⟨f, rfl⟩ : ∃ f', f = f' + 1 := ⟨f - 1, by omega⟩
      obtain ⟨v1, e1, e2, e3, e4, e5⟩ := m_stmt h3 hp h4 h5 (by omega)
      have hsl := stt_le (c := c) hp
      cases hs : (stt c n p).2 with
      | false =>
        rw [hs, if_neg nft] at e1
        rw [prs_f hp hs, f_X8_valley_12, if_neg n10, h4, h3.2.1, if_pos (nI_lt hp (by omega)), f_X8_valley_34, e1, Option.bind_some, if_pos ni0, f_X8_valley_12, if_pos ni0]
        have g1 : ∀ (x : Int32) j, j ≠ 5 → sA v1 23 (upd (v1 23) 5 x) 23 j = v1 23 j := fun x j hj => by rw [sA_eq, upd_ne hj]
        refine ⟨_, rfl, ⟨fun j q1 q2 q3 q4 => (sA_ne q4).trans (e4.1 j q1 q2 q3 q4), fun j q1 q2 => (g1 _ j q2).trans (e4.2.1 j q1 q2), fun j hj => ⟨(congrFun (sA_ne (by decide)) j).trans (e4.2.2.1 j hj).1, (congrFun (sA_ne (by decide)) j).trans (e4.2.2.1 j hj).2⟩, fun j hj => (congrFun (sA_ne (by decide)) j).trans (e4.2.2.2 j hj)⟩, fun q hq => ?_, fun z => (by cases z)⟩
        cases hq
        rw [g1 _ 4 (by decide)]; exact e2
      | true =>
        have hc := (h3.2.2 p hp).1
        obtain ⟨b1, b2, b3, b4⟩ := stt_ok hc hs
        rw [hs, if_pos rfl] at e1
        generalize hv2 : sA v1 23 (upd (v1 23) 5 ((v1 23 5) + (1 : Int32))) = v2
        have g0 : ∀ j, j ≠ 23 → v2 j = v1 j := fun j hj => by rw [← hv2, sA_ne hj]
        have g1 : ∀ j, j ≠ 5 → v2 23 j = v1 23 j := fun j hj => by rw [← hv2, sA_eq, upd_ne hj]
        have g2 : v2 23 5 = nI (k + 1) := by rw [← hv2, sA_eq, upd_eq, e3, nIs]
        have sf2 : SF v1 v2 (k + 1) := ⟨fun j q1 q2 q3 q4 => g0 j q4, fun j q1 q2 => g1 j q2, fun j hj => ⟨congrFun (g0 11 (by decide)) j, congrFun (g0 12 (by decide)) j⟩, fun j hj => congrFun (g0 13 (by decide)) j⟩
        obtain ⟨v3, a1, a2, a3, a4⟩ := m_parse (K := K) f (stt c n p).1 (k + 1) (g + 1) v2 (by omega) (by omega) ((h3.sf e4).sf sf2) ((g1 4 (by decide)).trans e2) g2 hsl.1 (by omega) (fun z => (by omega))
        have hhead : f_X8_valley_12 (g + 2) 1 v K = f_X8_valley_12 (g + 1) 1 v2 K := by
          rw [f_X8_valley_12, if_neg n10, h4, h3.2.1, if_pos (nI_lt hp (by omega)), f_X8_valley_34, e1, Option.bind_some, if_neg ni1, hv2]
          rfl
        rw [prs_t hp hs, hhead]
        refine ⟨v3, a1, (SF.tr (Nat.le_refl _) e4 ⟨fun j q1 q2 q3 q4 => g0 j q4, fun j q1 q2 => g1 j q2, fun j hj => ⟨congrFun (g0 11 (by decide)) j, congrFun (g0 12 (by decide)) j⟩, fun j hj => congrFun (g0 13 (by decide)) j⟩).tr (Nat.le_succ _) a2, a3, fun z => ?_⟩
        obtain ⟨d1, d2⟩ := a4 z
        refine ⟨by rw [d1]; congr 1; show k + 1 + _ = k + (_ + 1); omega, fun i hi => ?_⟩
        cases i with
        | zero => exact ((e5 hs).mv sf2 (Nat.lt_succ_self k)).mv a2 (Nat.lt_succ_self k)
        | succ i =>
          have := d2 i (by have hi : i + 1 < (prs c n f (stt c n p).1).1.length + 1 := hi; omega)
          rw [show k + 1 + i = k + (i + 1) by omega] at this
          exact this
    · have hk0 : k ≠ 0 := fun z => hp (h8 z)
      rw [prs_e (by omega), f_X8_valley_12, if_neg n10, h4, h3.2.1, if_neg (nI_nlt (by omega) (by omega)), h5, if_neg (show ¬ nI k = 0 from fun z => hk0 (nI_inj (a := k) (b := 0) (by omega) (by omega) z))]
      exact ⟨v, rfl, SF.rf, fun q z => (by cases z), fun _ => ⟨h5, fun i hi => (by cases hi)⟩⟩
end ST
