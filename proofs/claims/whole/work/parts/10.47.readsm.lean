/-! the reference reads a statement -/
def dv (c : Nat → Nat) (p : Nat) : Nat := c p - 48
def dn (c : Nat → Nat) (p : Nat) : Nat := 10 * dv c p + dv c (p + 1)
def nx (c : Nat → Nat) (n p : Nat) : Int32 := if p < n then nI (c p) else -1
/-- the reference's letters -/
def TC (c : Nat → Nat) (n : Nat) (v : St) : Prop := n ≤ 96 ∧ v 23 3 = nI n ∧ ∀ j, j < n → c j < 256 ∧ v 10 j = nI (c j)
/-- the place is another, and what was told -/
def PF (v v' : St) (p : Nat) : Prop := (∀ k, k ≠ 13 → k ≠ 23 → v' k = v k) ∧ (∀ j, j ≠ 4 → v' 23 j = v 23 j) ∧ v' 23 4 = nI p
theorem PF.tr {a b d : St} {p q : Nat} (h : PF a b p) (g : PF b d q) : PF a d q := ⟨fun k h1 h2 => (g.1 k h1 h2).trans (h.1 k h1 h2), fun j hj => (g.2.1 j hj).trans (h.2.1 j hj), g.2.2⟩
theorem PF.rf {a : St} {p : Nat} (h : a 23 4 = nI p) : PF a a p := ⟨fun _ _ _ => rfl, fun _ _ => rfl, h⟩
theorem PF.at_ (a : St) (p : Nat) : PF a (sA a 23 (upd (a 23) 4 (nI p))) p := ⟨fun k _ h2 => sA_ne h2, fun j hj => by rw [sA_eq, upd_ne hj], by rw [sA_eq, upd_eq]⟩
theorem PF.told {a b : St} {p : Nat} (h : PF a b p) (f : Nat → Int32) : PF a (sA b 13 f) p := ⟨fun k h1 h2 => (sA_ne h1).trans (h.1 k h1 h2), fun j hj => (congrFun (sA_ne (by decide)) j).trans (h.2.1 j hj), (congrFun (sA_ne (by decide)) 4).trans h.2.2⟩
theorem dig_m : ∀ x, x < 256 → f_X8_isIn (nI x) 48 57 = some (nI (if fitB x 57 then 1 else 0)) := by decide +kernel
theorem kind_m : ∀ x, x < 256 → f_X8_kindOf (nI x) = some (if fitB x 107 then nI (kd x) else -1) := by decide +kernel
theorem kd_lt : ∀ x, x < 256 → fitB x 107 = true → kd x < 6 := by decide +kernel
theorem fit57 {x : Nat} (h : fitB x 57 = true) : 48 ≤ x ∧ x ≤ 57 := by
  have : (decide (48 ≤ x) && decide (x ≤ 57)) = true := h
  obtain ⟨h1, h2⟩ := (Bool.and_eq_true _ _).mp this
  exact ⟨of_decide_eq_true h1, of_decide_eq_true h2⟩
theorem dig_1 : ∀ x, x < 58 → 48 ≤ x → (10 : Int32) * 0 + nI x - 48 = nI (x - 48) := by decide +kernel
theorem dig_2 : ∀ d, d < 10 → ∀ x, x < 58 → 48 ≤ x → (10 : Int32) * nI d + nI x - 48 = nI (10 * d + (x - 48)) := by decide +kernel
section RDS
variable {c : Nat → Nat} {n : Nat} {v : St}
theorem TC.pf {v' : St} {p : Nat} (h : TC c n v) (g : PF v v' p) : TC c n v' := ⟨h.1, (g.2.1 3 (by decide)).trans h.2.1, fun j hj => ⟨(h.2.2 j hj).1, (congrFun (g.1 10 (by decide) (by decide)) j).trans (h.2.2 j hj).2⟩⟩
theorem m_next (h : TC c n v) {p : Nat} (hp : v 23 4 = nI p) (hpn : p ≤ n) : f_X8_next v = some (nx c n p) := by
  have n96 := h.1
  rw [f_X8_next, h.2.1, hp]
  unfold nx
  by_cases e : p < n
  · rw [if_neg (nI_ge e (by omega)), gd_in (by omega) (by omega), nI_clamp (by omega), (h.2.2 p e).2, if_pos e]
  · rw [if_pos (nI_le (by omega) (by omega)), if_neg e]
theorem m_dig (h : TC c n v) {p : Nat} : f_X8_isIn (nx c n p) 48 57 = some (nI (if (decide (p < n) && fitB (c p) 57) then 1 else 0)) := by
  unfold nx
  by_cases e : p < n
  · rw [if_pos e, dig_m _ (h.2.2 p e).1, decide_eq_true e, Bool.true_and]
  · rw [if_neg e, decide_eq_false e, Bool.false_and, if_neg nft]
    decide
theorem rd_end {q d : Nat} (hq : q < 144) (f : Nat) (x3 : Int32) : f_X8_readsDigits_5 (nI q) (nI d) (f + 1) x3 (nI d) v = some (1, sA v 13 (upd (v 13) q x3)) := by
  rw [f_X8_readsDigits_5, if_pos (Int32.le_refl _), gd_in hq (by omega), nI_clamp (by omega)]
theorem rd_step (h : TC c n v) {p q d i : Nat} (hp : v 23 4 = nI p) (hpn : p ≤ n) (hi : i < d) (hd : d < 10) (f : Nat) (x3 : Int32) : f_X8_readsDigits_5 (nI q) (nI d) (f + 1) x3 (nI i) v = if (decide (p < n) && fitB (c p) 57) = true then f_X8_readsDigits_5 (nI q) (nI d) f (10 * x3 + nI (c p) - 48) (nI (i + 1)) (sA v 23 (upd (v 23) 4 (nI (p + 1)))) else some (0, v) := by
  rw [f_X8_readsDigits_5, if_neg (nI_ge hi (by omega)), m_next h hp hpn, Option.bind_some, m_dig h, Option.bind_some, Option.bind_some, hp, nIs, nIs]
  cases hb : (decide (p < n) && fitB (c p) 57) with
  | false => rw [if_neg nft, if_pos ni0, if_neg nft]
  | true =>
    have hpn := of_decide_eq_true ((Bool.and_eq_true _ _).mp hb).1
    rw [if_pos rfl, if_neg ni1, if_pos rfl]
    unfold nx
    rw [if_pos hpn]
/-- what has been read of one number -/
def RD (c : Nat → Nat) (n : Nat) (v v' : St) (ws : List Nat) (p q x : Nat) : Prop := PF v v' (sc c n ws p).1 ∧ ((sc c n ws p).2 = true → v' 13 q = nI x) ∧ ∀ j, j ≠ q → v' 13 j = v 13 j
theorem m_rd1 (h : TC c n v) {p q : Nat} (hp : v 23 4 = nI p) (hpn : p ≤ n) (hq : q < 144) : ∃ v', f_X8_readsDigits v (nI q) 1 = some (nI (if (sc c n [57] p).2 then 1 else 0), v') ∧ RD c n v v' [57] p q (dv c p) := by
  have e0 := rd_step (q := q) (d := 1) (i := 0) h hp hpn (by omega) (by omega) 1999 0
  have e0 : f_X8_readsDigits_5 (nI q) 1 2000 0 0 v = _ := e0
  rw [f_X8_readsDigits, FUEL_v, e0]
  cases hb : (decide (p < n) && fitB (c p) 57) with
  | false =>
    have hs := sc_f (ws := []) hb
    unfold RD
    rw [hs, if_neg nft]
    exact ⟨v, rfl, PF.rf hp, fun z => (by cases z), fun _ _ => rfl⟩
  | true =>
    have hs : sc c n [57] p = (p + 1, true) := sc_t hb
    obtain ⟨d1, d2⟩ := fit57 ((Bool.and_eq_true _ _).mp hb).2
    have e1 : f_X8_readsDigits_5 (nI q) (nI 1) 1999 (10 * 0 + nI (c p) - 48) (nI (0 + 1)) (sA v 23 (upd (v 23) 4 (nI (p + 1)))) = _ := rd_end (v := sA v 23 (upd (v 23) 4 (nI (p + 1)))) (q := q) (d := 1) hq 1998 (10 * 0 + nI (c p) - 48)
    unfold RD
    rw [hs, if_pos rfl, e1]
    refine ⟨_, rfl, (PF.at_ v (p + 1)).told _, fun _ => ?_, fun j hj => ?_⟩
    · rw [sA_eq, upd_eq, dig_1 _ (by omega) d1] <;> rfl
    · rw [sA_eq, upd_ne hj, sA_ne (by decide)]
theorem m_rd2 (h : TC c n v) {p q : Nat} (hp : v 23 4 = nI p) (hpn : p ≤ n) (hq : q < 144) : ∃ v', f_X8_readsDigits v (nI q) 2 = some (nI (if (sc c n [57, 57] p).2 then 1 else 0), v') ∧ RD c n v v' [57, 57] p q (dn c p) := by
  have e0 := rd_step (q := q) (d := 2) (i := 0) h hp hpn (by omega) (by omega) 1999 0
  have e0 : f_X8_readsDigits_5 (nI q) 2 2000 0 0 v = _ := e0
  rw [f_X8_readsDigits, FUEL_v, e0]
  cases hb : (decide (p < n) && fitB (c p) 57) with
  | false =>
    have hs := sc_f (ws := [57]) hb
    unfold RD
    rw [hs, if_neg nft]
    exact ⟨v, rfl, PF.rf hp, fun z => (by cases z), fun _ _ => rfl⟩
  | true =>
    have hs : sc c n [57, 57] p = sc c n [57] (p + 1) := sc_t hb
    obtain ⟨d1, d2⟩ := fit57 ((Bool.and_eq_true _ _).mp hb).2
    have hpl := of_decide_eq_true ((Bool.and_eq_true _ _).mp hb).1
    have pf1 := PF.at_ v (p + 1)
    have e1 := rd_step (v := sA v 23 (upd (v 23) 4 (nI (p + 1)))) (q := q) (d := 2) (i := 1) (h.pf pf1) pf1.2.2 (by omega) (by omega) (by omega) 1998 (10 * 0 + nI (c p) - 48)
    have e1 : f_X8_readsDigits_5 (nI q) (nI 2) 1999 (10 * 0 + nI (c p) - 48) (nI (0 + 1)) (sA v 23 (upd (v 23) 4 (nI (p + 1)))) = _ := e1
    unfold RD
    rw [hs, if_pos rfl, e1, dig_1 _ (by omega) d1]
    cases hb2 : (decide (p + 1 < n) && fitB (c (p + 1)) 57) with
    | false =>
      rw [sc_f (ws := []) hb2, if_neg nft]
      exact ⟨_, rfl, pf1, fun z => (by cases z), fun j _ => congrFun (sA_ne (by decide)) j⟩
    | true =>
      have hs2 : sc c n [57] (p + 1) = (p + 2, true) := sc_t hb2
      obtain ⟨d3, d4⟩ := fit57 ((Bool.and_eq_true _ _).mp hb2).2
      have pf2 := pf1.tr (PF.at_ (sA v 23 (upd (v 23) 4 (nI (p + 1)))) (p + 2))
      have e2 : f_X8_readsDigits_5 (nI q) (nI 2) 1998 (10 * nI (c p - 48) + nI (c (p + 1)) - 48) (nI (1 + 1)) (sA (sA v 23 (upd (v 23) 4 (nI (p + 1)))) 23 (upd (sA v 23 (upd (v 23) 4 (nI (p + 1))) 23) 4 (nI (p + 1 + 1)))) = _ := rd_end (v := sA (sA v 23 (upd (v 23) 4 (nI (p + 1)))) 23 (upd (sA v 23 (upd (v 23) 4 (nI (p + 1))) 23) 4 (nI (p + 1 + 1)))) (q := q) (d := 2) hq 1997 (10 * nI (c p - 48) + nI (c (p + 1)) - 48)
      rw [hs2, if_pos rfl, e2]
      refine ⟨_, rfl, pf2.told _, fun _ => ?_, fun j hj => ?_⟩
      · rw [sA_eq, upd_eq, dig_2 _ (by omega) _ (by omega) d3] <;> rfl
      · rw [sA_eq, upd_ne hj, sA_ne (by decide), sA_ne (by decide)]
/-- what is told by a statement whose letter is x, read from p on, kept from q on -/
def TV (c : Nat → Nat) (x p : Nat) (v : St) (q : Nat) : Prop :=
  (x = 98 → v 13 q = nI (kd (c p)) ∧ v 13 (q + 1) = nI (dv c (p + 1)) ∧ v 13 (q + 2) = nI (dn c (p + 2))) ∧
  (x = 103 → v 13 q = nI (dn c p) ∧ v 13 (q + 1) = nI (dn c (p + 2))) ∧
  (x = 119 → v 13 q = nI (dv c p)) ∧ (x = 121 → v 13 q = nI (dn c p)) ∧
  (x = 116 → v 13 q = nI (dv c p) ∧ v 13 (q + 1) = nI (dv c (p + 1))) ∧
  (x = 108 → v 13 q = nI (dv c p) ∧ v 13 (q + 1) = nI (dv c (p + 1)))
/-- all of a statement but its end has been read -/
def RA (c : Nat → Nat) (n : Nat) (v v' : St) (x p q : Nat) : Prop := PF v v' (sc c n (bdy x) p).1 ∧ ((sc c n (bdy x) p).2 = true → TV c x p v' q) ∧ ∀ j, (j < q ∨ q + 3 ≤ j) → v' 13 j = v 13 j
theorem m_bride (h : TC c n v) {p q : Nat} (hp : v 23 4 = nI p) (hpn : p ≤ n) (hq : q + 3 ≤ 144) : ∃ v', f_X8_readsBride v (nI q) = some (nI (if (sc c n (bdy 98) p).2 then 1 else 0), v') ∧ RA c n v v' 98 p q := by
  have hk : f_X8_kindOf (nx c n p) = some (if (decide (p < n) && fitB (c p) 107) then nI (kd (c p)) else -1) := by
    unfold nx
    by_cases e : p < n
    · rw [if_pos e, kind_m _ (h.2.2 p e).1, decide_eq_true e, Bool.true_and]
    · rw [if_neg e, decide_eq_false e, Bool.false_and, if_neg nft]
      decide
  have hbd : sc c n (bdy 98) p = sc c n [107, 57, 57, 57] p := rfl
  rw [f_X8_readsBride, m_next h hp hpn, Option.bind_some, hk, Option.bind_some, gd_in (by omega) (by omega), gd_in (by omega) (by omega), nI_clamp (by omega), upd_eq, hp, nIs, nIs, show nI q + (2 : Int32) = nI (q + 2) from nI_add q 2]
  cases hb : (decide (p < n) && fitB (c p) 107) with
  | false =>
    have hs := sc_f (ws := [57, 57, 57]) hb
    unfold RA
    rw [hbd, hs, if_neg nft, if_neg (by decide)]
    refine ⟨_, rfl, (PF.rf hp).told _, fun z => (by cases z), fun j hj => ?_⟩
    rw [sA_eq, upd_ne (by omega)]
  | true =>
    have hpl := of_decide_eq_true ((Bool.and_eq_true _ _).mp hb).1
    have hkd := kd_lt _ (h.2.2 p hpl).1 ((Bool.and_eq_true _ _).mp hb).2
    have hs : sc c n [107, 57, 57, 57] p = sc c n ([57] ++ [57, 57]) (p + 1) := sc_t hb
    rw [if_pos rfl, if_pos (nI_pos' (by omega))]
    generalize hv1 : sA (sA v 13 (upd (v 13) q (nI (kd (c p))))) 23 (upd (v 23) 4 (nI (p + 1))) = v1
    have pf1 : PF v v1 (p + 1) := by
      rw [← hv1]
      exact ((PF.rf hp).told (upd (v 13) q (nI (kd (c p))))).tr (PF.at_ _ (p + 1))
    have k1 : v1 13 q = nI (kd (c p)) := by
      rw [← hv1, sA_ne (by decide), sA_eq, upd_eq]
    have k2 : ∀ j, j ≠ q → v1 13 j = v 13 j := fun j hj => by
      rw [← hv1, sA_ne (by decide), sA_eq, upd_ne hj]
    obtain ⟨v2, e2, pf2, r2, o2⟩ := m_rd1 (h.pf pf1) (q := q + 1) pf1.2.2 (by omega) (by omega)
    unfold RA
    rw [hbd, hs, sc_app, e2, Option.bind_some]
    have l1 := sc_le (c := c) (n := n) [57] (p + 1) (by omega)
    cases h1 : (sc c n [57] (p + 1)).2 with
    | false =>
      rw [if_neg nft, if_pos ni0, if_neg nft]
      exact ⟨v2, by rw [h1, if_neg nft] <;> rfl, pf1.tr pf2, fun z => (by rw [h1] at z; cases z), fun j hj => (o2 j (by omega)).trans (k2 j (by omega))⟩
    | true =>
      have l2 := (sc_ok _ _ h1).1
      have l2 : (sc c n [57] (p + 1)).1 = p + 2 := l2
      rw [l2] at pf2
      obtain ⟨v3, e3, pf3, r3, o3⟩ := m_rd2 ((h.pf pf1).pf pf2) (q := q + 2) pf2.2.2 (by omega) (by omega)
      rw [if_pos rfl, if_neg ni1, if_pos rfl, l2, e3, Option.bind_some]
      cases h3 : (sc c n [57, 57] (p + 2)).2 with
      | false =>
        rw [if_neg nft, if_pos ni0]
        exact ⟨v3, rfl, (pf1.tr pf2).tr pf3, fun z => (by cases z), fun j hj => (o3 j (by omega)).trans ((o2 j (by omega)).trans (k2 j (by omega)))⟩
      | true =>
        rw [if_pos rfl, if_neg ni1]
        refine ⟨v3, rfl, (pf1.tr pf2).tr pf3, fun _ => ?_, fun j hj => (o3 j (by omega)).trans ((o2 j (by omega)).trans (k2 j (by omega)))⟩
        refine ⟨fun _ => ⟨?_, ?_, r3 h3⟩, fun z => absurd z (by decide), fun z => absurd z (by decide), fun z => absurd z (by decide), fun z => absurd z (by decide), fun z => absurd z (by decide)⟩
        · exact (o3 q (by omega)).trans ((o2 q (by omega)).trans k1)
        · exact (o3 (q + 1) (by omega)).trans (r2 h1)
end RDS
