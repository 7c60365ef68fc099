/-! two: the reference, both -/
theorem upd_ne {f : Nat → Int32} {a j : Nat} {x : Int32} (h : j ≠ a) : upd f a x j = f j := if_neg h
theorem upd_eq {f : Nat → Int32} {a : Nat} {x : Int32} : upd f a x a = x := if_pos rfl
theorem xor_xor (x y : Nat) : x ^^^ y ^^^ y = x := by rw [Nat.xor_assoc, Nat.xor_self, Nat.xor_zero]
theorem RM.o16 {s : St} {A : AS} (h : RM s A) (f : Nat → Int32) : RM (sA s 16 f) A := ⟨h.1, h.2.1, h.2.2.1, h.2.2.2.1, h.2.2.2.2⟩
section MT
variable {s : St} {A : AS} {a b : Nat}
theorem m_costs (h : RM s A) (w : WF A) (ha : a < 8) (hb : b < 8) (hab : a ≠ b) : ∃ s', f_X8_findCosts s (nI a) (nI b) = some s' ∧ RM s' A ∧ KI s s' ∧ ∀ j, j < 4 → s' 16 (2 * j) = cst A a b (j / 2) (j % 2) a ∧ s' 16 (2 * j + 1) = cst A a b (j / 2) (j % 2) b := by
  obtain ⟨s', ⟨i1, i2, i3⟩, e⟩ := sloop (L := fun fuel i v => f_X8_findCosts_2 (nI a) (nI b) fuel (nI i) v) (K := fun v => some v) (B := 4)
    (fun i v => RM v A ∧ KI s v ∧ ∀ j, j < i → v 16 (2 * j) = cst A a b (j / 2) (j % 2) a ∧ v 16 (2 * j + 1) = cst A a b (j / 2) (j % 2) b)
    (fun f v _ => by
      show f_X8_findCosts_2 _ _ (f + 1) (nI 4) v = _
      rw [f_X8_findCosts_2, if_pos (by decide)])
    (fun f i v hi hv => by
      obtain ⟨v1, v2, v3⟩ := hv
      have hd2 : i / 2 < 2 := by omega
      have hm2 : i % 2 < 2 := by omega
      have hca : v 3 a = nI (A 2 a) := (v1.2.2.2.1 a ha).2.2.1
      have hcb : v 3 b = nI (A 2 b) := (v1.2.2.2.1 b hb).2.2.1
      have r1 := RM_3 v1 a (A 2 a ^^^ (i / 2))
      generalize hF1 : upd (v 3) a (nI (A 2 a ^^^ (i / 2))) = F1 at r1
      have hF1a : F1 a = nI (A 2 a ^^^ (i / 2)) := by rw [← hF1]; exact upd_eq
      have hF1b : F1 b = nI (A 2 b) := by rw [← hF1, upd_ne (Ne.symm hab)]; exact hcb
      have r2 := RM_3 r1 b (A 2 b ^^^ (i % 2))
      have e33 : sA v 3 F1 3 = F1 := rfl
      rw [e33] at r2
      generalize hF2 : upd F1 b (nI (A 2 b ^^^ (i % 2))) = F2 at r2
      have hF2a : F2 a = nI (A 2 a ^^^ (i / 2)) := by rw [← hF2, upd_ne hab]; exact hF1a
      have hF2b : F2 b = nI (A 2 b ^^^ (i % 2)) := by rw [← hF2]; exact upd_eq
      have eA : setA (setA A 2 (upN (A 2) a (A 2 a ^^^ (i / 2)))) 2 (upN (setA A 2 (upN (A 2) a (A 2 a ^^^ (i / 2))) 2) b (A 2 b ^^^ (i % 2))) = tw2 A a b (i / 2) (i % 2) := by
        unfold tw2 hdA
        have : setA A 2 (upN (A 2) a (A 2 a ^^^ (i / 2))) 2 b = A 2 b := upN_ne (Ne.symm hab)
        rw [this]
      rw [eA] at r2
      have w2 := tw2_WF w ha hb (show i / 2 < 64 by omega) (show i % 2 < 64 by omega)
      have c1 : f_X8_costOf (sA (sA v 3 F1) 3 F2) (nI a) = some (cst A a b (i / 2) (i % 2) a) := m_costOf r2 w2 ha
      have c2 : ∀ G, f_X8_costOf (sA (sA (sA v 3 F1) 3 F2) 16 G) (nI b) = some (cst A a b (i / 2) (i % 2) b) := fun G => m_costOf (r2.o16 G) w2 hb
      have hF4 : upd (upd F2 a (nI (A 2 a))) b (nI (A 2 b)) = v 3 := by
        funext q
        by_cases qb : q = b
        · rw [qb, upd_eq, hcb]
        · rw [upd_ne qb]
          by_cases qa : q = a
          · rw [qa, upd_eq, hca]
          · rw [upd_ne qa, ← hF2, upd_ne qb, ← hF1, upd_ne qa]
      have hF3b : upd F2 a (nI (A 2 a)) b = nI (A 2 b ^^^ (i % 2)) := by rw [upd_ne (Ne.symm hab)]; exact hF2b
      refine ⟨sA (sA (sA (sA (sA (sA v 3 F1) 3 F2) 16 (upd (v 16) (2 * i) (cst A a b (i / 2) (i % 2) a))) 16 (upd (upd (v 16) (2 * i) (cst A a b (i / 2) (i % 2) a)) (2 * i + 1) (cst A a b (i / 2) (i % 2) b))) 3 (upd F2 a (nI (A 2 a)))) 3 (v 3), ⟨⟨v1.1, v1.2.1, v1.2.2.1, v1.2.2.2.1, v1.2.2.2.2⟩, v2.tr ⟨rfl, rfl, fun _ _ => rfl, rfl, rfl, rfl, rfl⟩, fun j hj => ?_⟩, ?_⟩
      · show upd (upd (v 16) (2 * i) _) (2 * i + 1) _ (2 * j) = _ ∧ upd (upd (v 16) (2 * i) _) (2 * i + 1) _ (2 * j + 1) = _
        by_cases e : j = i
        · subst e
          rw [upd_ne (show 2 * j ≠ 2 * j + 1 by omega), upd_eq, upd_eq]
          exact ⟨rfl, rfl⟩
        · rw [upd_ne (show 2 * j ≠ 2 * i + 1 by omega), upd_ne (show 2 * j ≠ 2 * i by omega), upd_ne (show 2 * j + 1 ≠ 2 * i + 1 by omega), upd_ne (show 2 * j + 1 ≠ 2 * i by omega)]
          exact v3 j (by omega)
      · show f_X8_findCosts_2 _ _ (f + 1) (nI i) v = f_X8_findCosts_2 _ _ f (nI (i + 1)) _
        have ed : nI i / (2 : Int32) = nI (i / 2) := pk_div (d := 2) (by omega) (by omega) (by omega)
        have em : nI i - nI i / (2 : Int32) * (2 : Int32) = nI (i % 2) := nI_rem (d := 2) (by omega) (by omega) (by omega)
        have e2 : (2 : Int32) * nI i = nI (2 * i) := pk_mul 2 i
        have hg8 : ∀ (n : Nat) (x : Option St), n < 8 → gd (inB (nI n) 8) x = x := fun n x hn => gd_in hn (by omega)
        rw [f_X8_findCosts_2, if_neg (show ¬ (4 : Int32) ≤ nI i from nI_ge (b := 4) hi (by omega)), em, ed, e2, nIs, hg8 a _ ha, hg8 a _ ha, hg8 b _ hb, hg8 b _ hb, nI_clamp (n := a) (by omega), nI_clamp (n := b) (by omega), nI_clamp (n := 2 * i) (by omega), hca, nI_xor, hF1, hF1b, nI_xor, hF2, c1, Option.bind_some, hg8 (2 * i) _ (by omega), c2, Option.bind_some, nIs, hg8 (2 * i + 1) _ (by omega), hg8 a _ ha, hg8 a _ ha, hg8 b _ hb, hg8 b _ hb, nI_clamp (n := 2 * i + 1) (by omega), hF2a, nI_xor, xor_xor, hF3b, nI_xor, xor_xor, hF4])
    4 0 2000 s (by omega) (by omega) ⟨h, KI.rf, fun j hj => by omega⟩
  have e : f_X8_findCosts_2 (nI a) (nI b) 2000 0 s = some s' := e
  exact ⟨s', by rw [f_X8_findCosts, FUEL_v, e], i1, i2, i3⟩
theorem k4x : ∀ k, k < 4 → (k ^^^ 2 < 4 ∧ (k ^^^ 2) / 2 = 1 - k / 2 ∧ (k ^^^ 2) % 2 = k % 2) ∧ (k ^^^ 1 < 4 ∧ (k ^^^ 1) / 2 = k / 2 ∧ (k ^^^ 1) % 2 = 1 - k % 2) := by decide
theorem m_two69 {s' : St} (hc : ∀ j, j < 4 → s' 16 (2 * j) = cst A a b (j / 2) (j % 2) a ∧ s' 16 (2 * j + 1) = cst A a b (j / 2) (j % 2) b) : f_X8_two_69 s' 2000 0 (fun (x4_2643 : Int32) => some ((((10 : Int32) * (x4_2643 / (2 : Int32))) + (x4_2643 - x4_2643 / (2 : Int32) * (2 : Int32))), s')) = some (rR A a b, s') := by
  generalize hK : (fun (x4_2643 : Int32) => some ((((10 : Int32) * (x4_2643 / (2 : Int32))) + (x4_2643 - x4_2643 / (2 : Int32) * (2 : Int32))), s')) = K
  have hhead : ∀ f k, k < 4 → f_X8_two_69 s' (f + 1) (nI k) K = if RP A a b (k / 2) (k % 2) = true then K (nI k) else f_X8_two_69 s' f (nI (k + 1)) K := fun f k hk => by
    obtain ⟨⟨x1, x2, x3⟩, y1, y2, y3⟩ := k4x k hk
    have e0 : (2 : Int32) * nI k = nI (2 * k) := pk_mul 2 k
    have e1 : (2 : Int32) * (nI k ^^^ 2) = nI (2 * (k ^^^ 2)) := by rw [show nI k ^^^ (2 : Int32) = nI (k ^^^ 2) from nI_xor k 2]; exact pk_mul 2 _
    have e2 : (2 : Int32) * (nI k ^^^ 1) = nI (2 * (k ^^^ 1)) := by rw [show nI k ^^^ (1 : Int32) = nI (k ^^^ 1) from nI_xor k 1]; exact pk_mul 2 _
    have hg8 : ∀ (n : Nat) (x : Option (Int32 × St)), n < 8 → gd (inB (nI n) 8) x = x := fun n x hn => gd_in hn (by omega)
    rw [f_X8_two_69, if_neg (show ¬ (4 : Int32) ≤ nI k from nI_ge (b := 4) hk (by omega)), e1, e2, e0, nIs, nIs, nIs, hg8 _ _ (by omega), hg8 _ _ (by omega), hg8 _ _ (by omega), hg8 _ _ (by omega), nI_clamp (n := 2 * (k ^^^ 2)) (by omega), nI_clamp (n := 2 * k) (by omega), nI_clamp (n := 2 * (k ^^^ 1) + 1) (by omega), nI_clamp (n := 2 * k + 1) (by omega), (hc _ x1).1, (hc k hk).1, (hc _ y1).2, (hc k hk).2, x2, x3, y2, y3]
    unfold RP
    by_cases c1 : cst A a b (1 - k / 2) (k % 2) a < cst A a b (k / 2) (k % 2) a
    · rw [if_pos c1, decide_eq_true c1, Bool.not_true, Bool.false_and, if_neg nft]
    · rw [if_neg c1, decide_eq_false c1, Bool.not_false, Bool.true_and]
      by_cases c2 : cst A a b (k / 2) (1 - k % 2) b < cst A a b (k / 2) (k % 2) b
      · rw [if_pos c2, decide_eq_true c2, Bool.not_true, if_neg nft]
      · rw [if_neg c2, decide_eq_false c2, Bool.not_false, if_pos rfl]
  have hL := floop (L := fun fuel k => f_X8_two_69 s' fuel (nI k) K) (p := fun k => RP A a b (k / 2) (k % 2)) (B := 4) (none_ := some (-9, s')) (some_ := fun k => K (nI k))
    (fun f => by
      show f_X8_two_69 s' (f + 1) (nI 4) K = _
      rw [f_X8_two_69, if_pos (by decide)])
    (fun f i hi hp => by
      show f_X8_two_69 s' (f + 1) (nI i) K = _
      rw [hhead f i hi, if_pos hp])
    (fun f i hi hp => by
      show f_X8_two_69 s' (f + 1) (nI i) K = f_X8_two_69 s' f (nI (i + 1)) K
      rw [hhead f i hi, hp, if_neg nft])
    4 0 2000 (by omega) (by omega)
  have hL : f_X8_two_69 s' 2000 0 K = _ := hL
  rw [hL]
  have hf : first (fun k => RP A a b (k / 2) (k % 2)) 0 4 = if RP A a b 0 0 = true then some 0 else if RP A a b 0 1 = true then some 1 else if RP A a b 1 0 = true then some 2 else if RP A a b 1 1 = true then some 3 else none := rfl
  rw [hf, ← hK]
  unfold rR
  cases RP A a b 0 0 with
  | true => rfl
  | false =>
    cases RP A a b 0 1 with
    | true => rfl
    | false =>
      cases RP A a b 1 0 with
      | true => rfl
      | false =>
        cases RP A a b 1 1 with
        | true => rfl
        | false => rfl
end MT
theorem p_two {S : Nat → St} {s : St} (h : REL S s) (x y : Int32) : AG (f_X7_two S x y) (f_X8_two s x y) := by
  have h' := h
  obtain ⟨A, w, hy, hv, hm, hr⟩ := h
  have hb8 := w.1
  rw [f_X7_two, f_X8_two, c_hasBride hv, m_isBride hm, Option.bind_some, Option.bind_some]
  rcases br_cases (n := nB A) (by omega) x with e | ⟨a, haB, rfl, e⟩
  · rw [e, if_pos rfl, if_pos rfl, f_X8_two_49, if_neg nm1]; exact ag_no h' 1 (by omega) (by decide)
  have ha : a < 8 := by omega
  rw [e, if_neg n10, if_neg n10, c_hasBride hv, m_isBride hm, Option.bind_some, Option.bind_some]
  rcases br_cases (n := nB A) (by omega) y with e2 | ⟨b, hbB, rfl, e2⟩
  · rw [e2, if_pos rfl, if_pos rfl, f_X8_two_49, if_neg nm1]; exact ag_no h' 1 (by omega) (by decide)
  have hb : b < 8 := by omega
  rw [e2, if_neg n10, if_neg n10]
  by_cases hab : a = b
  · subst hab
    rw [if_pos rfl, if_pos rfl, f_X8_two_49, if_neg nm1]; exact ag_no h' 1 (by omega) (by decide)
  have hne : ¬ nI a = nI b := fun z => hab (nI_inj (by omega) (by omega) z)
  have pa := plc_le (A := A) (b := a)
  have pb := plc_le (A := A) (b := b)
  have m4a := (hm.2.2.2.1 a ha).2.2.2.1
  have m4b := (hm.2.2.2.1 b hb).2.2.2.1
  rw [if_neg hne, if_neg hne, c_isHere hv w ha, Option.bind_some, c_isHere hv w hb, Option.bind_some, gd_in ha (by omega), gd_in hb (by omega), nI_clamp (n := a) (by omega), nI_clamp (n := b) (by omega), m4a, m4b, ifZ (a := plc A a) (by omega), ifZ (a := plc A b) (by omega)]
  by_cases c1 : plc A a = 0
  · rw [if_pos c1, if_pos c1, if_neg ni1]
    by_cases c2 : plc A b = 0
    · obtain ⟨u', e3⟩ := c_firstRest hv w ha hb (S 1)
      obtain ⟨s', e4, r4, k4, q4⟩ := m_costs hm w ha hb hab
      rw [if_pos c2, if_pos c2, if_neg ni1, e3, Option.bind_some, f_X8_two_49, if_pos rfl, e4, Option.bind_some, FUEL_v, m_two69 q4]
      exact ag_th (S' := sS S 1 u') w hy hv hr k4 r4 rfl rfl rfl rfl rfl _
    · rw [if_neg c2, if_neg c2, if_pos ni0, f_X8_two_49, if_neg nm3]; exact ag_no h' 3 (by omega) (by decide)
  · rw [if_neg c1, if_neg c1, if_pos ni0, f_X8_two_49, if_neg nm3]; exact ag_no h' 3 (by omega) (by decide)
