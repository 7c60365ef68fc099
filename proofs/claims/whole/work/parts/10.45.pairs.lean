/-! pairs, both -/
theorem mk_fun {F : Nat → Bool} (h : ∀ b, 8 ≤ b → F b = false) : (fun b => (mk F 8).testBit b) = F := by
  funext b
  show (mk F 8).testBit b = F b
  rw [mk_tb]
  by_cases hb : b < 8
  · rw [decide_eq_true hb, Bool.true_and]
  · rw [decide_eq_false hb, Bool.false_and, h b (by omega)]
theorem del_hi {F : Nat → Bool} {b : Nat} (h : ∀ j, 8 ≤ j → F j = false) : ∀ j, 8 ≤ j → del F b j = false := fun j hj => by
  show (F j && !(j == b)) = false
  rw [h j hj, Bool.false_and]
theorem pS_hi {A : AS} : ∀ g j, 8 ≤ j → (pS A g).1 j = false
  | 0, j, hj => tb256 (m := 255) (by omega) hj
  | g + 1, j, hj => by
    cases hf : fp A (nG A - g) (pS A g).1 with
    | none => rw [pS_n hf]; exact pS_hi g j hj
    | some b => rw [pS_b hf]; exact del_hi (fun j hj => pS_hi g j hj) j hj
section MQ
variable {s : St} {A : AS}
theorem m_pairedBy (h : RM s A) (w : WF A) (ht : ∀ g, g ≤ nG A → RWt s A g) {g : Nat} (hg : g < nG A) {F : Nat → Bool} (hF : ∀ b, 8 ≤ b → F b = false) : f_X8_pairedBy s (nI g) (nI (mk F 8)) = some (oI (fp A (nG A - g) F)) := by
  have hb8 := w.1
  have hg5 := w.2.1
  have hm8 := mk8_lt F
  have t1 : s (17 + g) (mk F 8) = nI (dpf (pP A) (nG A - g) F) := by
    rw [ht g (by omega) _ hm8, mk_fun hF]
  have hd := dpf_le (P := pP A) (nG A - g) F
  rw [f_X8_pairedBy, FUEL_v]
  have hhead : ∀ f b, b < nB A → f_X8_pairedBy_2 s (nI g) (nI (mk F 8)) (f + 1) (nI b) = (if pB A (nG A - g) F b = true then some (nI b) else f_X8_pairedBy_2 s (nI g) (nI (mk F 8)) f (nI (b + 1))) := fun f b hb => by
    have hd1 := dpf_le (P := pP A) (nG A - g - 1) (del F b)
    have hc := clr_lt (b := b) hm8
    have t2 : s (17 + (g + 1)) (mk F 8 &&& (255 ^^^ 2 ^ b)) = nI (dpf (pP A) (nG A - g - 1) (del F b)) := by
      rw [ht (g + 1) (by omega) _ hc, clr_mk F (by omega), mk_fun (del_hi hF), show nG A - (g + 1) = nG A - g - 1 by omega]
    have hpp : pP A (nG A - g) b = mhB A g b := by
      unfold pP
      rw [show nG A - (nG A - g) = g by omega]
    rw [f_X8_pairedBy_2, h.1, if_neg (nI_ge hb (by omega)), mhas_m _ hm8 b (by omega), Option.bind_some, mk_tb, decide_eq_true (show b < 8 by omega), Bool.true_and, nIs, nIs]
    unfold pB
    rw [hpp]
    cases hFb : F b with
    | false => rw [if_neg nft, if_pos ni0, Bool.and_false, Bool.false_and, if_neg nft]
    | true =>
      rw [if_pos rfl, if_neg ni1, m_isPair h w (by omega) hb, Option.bind_some, Bool.and_true]
      cases mhB A g b with
      | false => rw [if_neg nft, if_pos ni0, Bool.false_and, if_neg nft]
      | true =>
        rw [if_pos rfl, if_neg ni1, Bool.true_and, clr _ hm8 b (by omega), gd_in (show g + 1 < 6 by omega) (by omega), gd_in hc (by omega), gd_in (show g < 6 by omega) (by omega), gd_in hm8 (by omega), nI_clamp (n := g) (by omega), nI_clamp (n := g + 1) (by omega), nI_clamp (n := mk F 8) (by omega), nI_clamp (n := mk F 8 &&& (255 ^^^ 2 ^ b)) (by omega), t1, t2, k1, nI_add, ifE (by omega) (by omega)]
        by_cases c : 1 + dpf (pP A) (nG A - g - 1) (del F b) = dpf (pP A) (nG A - g) F
        · rw [if_pos c, if_pos (beq_iff_eq.mpr c)]
        · rw [if_neg c, if_neg (fun z => c (beq_iff_eq.mp z))]
  have hL := floop (L := fun fuel i => f_X8_pairedBy_2 s (nI g) (nI (mk F 8)) fuel (nI i)) (p := pB A (nG A - g) F) (B := nB A) (none_ := some (-9 : Int32)) (some_ := fun b => some (nI b))
    (fun f => by
      show f_X8_pairedBy_2 s _ _ (f + 1) _ = _
      rw [f_X8_pairedBy_2, h.1, if_pos (nI_le (Nat.le_refl _) (by omega))])
    (fun f i hi hp => by
      show f_X8_pairedBy_2 s _ _ (f + 1) (nI i) = _
      rw [hhead f i hi, if_pos hp])
    (fun f i hi hp => by
      show f_X8_pairedBy_2 s _ _ (f + 1) (nI i) = f_X8_pairedBy_2 s _ _ f (nI (i + 1))
      rw [hhead f i hi, hp, if_neg nft])
    (nB A) 0 2000 (by omega) (by omega)
  have hL : f_X8_pairedBy_2 s (nI g) (nI (mk F 8)) 2000 0 = _ := hL
  have hmo := first_more (p := pB A (nG A - g) F) (nB A) 0 (8 - nB A) (fun z hz => by
    unfold pB pP
    rw [mhB_ge (by omega), Bool.false_and, Bool.false_and])
  rw [show nB A + (8 - nB A) = 8 by omega] at hmo
  rw [hL]
  unfold fp
  rw [hmo]
  cases first (pB A (nG A - g) F) 0 (nB A) with
  | none => rfl
  | some b => rfl
theorem m_pairs48 (h : RM s A) (w : WF A) (ht : ∀ g, g ≤ nG A → RWt s A g) {g : Nat} (hg : g < nG A) : f_X8_pairs_48 s (nI g) 2000 255 (-9) 0 = some (oI (pS A (g + 1)).2, s) := by
  have hg5 := w.2.1
  have hL := iloop (L := fun fuel i (a : Int32 × Int32) => f_X8_pairs_48 s (nI g) fuel a.1 a.2 (nI i)) (a := fun i => (nI (mk (pS A i).1 8), oI (pS A i).2)) (B := g + 1) (r := some (oI (pS A (g + 1)).2, s))
    (fun f => by
      show f_X8_pairs_48 s _ (f + 1) _ _ (nI (g + 1)) = _
      rw [f_X8_pairs_48, if_pos (nI_lt (Nat.lt_succ_self g) (by omega))])
    (fun f i hi => by
      show f_X8_pairs_48 s (nI g) (f + 1) (nI (mk (pS A i).1 8)) (oI (pS A i).2) (nI i) = f_X8_pairs_48 s (nI g) f (nI (mk (pS A (i + 1)).1 8)) (oI (pS A (i + 1)).2) (nI (i + 1))
      have am1 : ∀ m, m < 256 → nI m &&& (-1 : Int32) = nI m := by decide +kernel
      rw [f_X8_pairs_48, if_neg (nI_nlt (a := g) (b := i) (by omega) (by omega)), m_pairedBy h w ht (by omega) (fun b hb => pS_hi i b hb), Option.bind_some, nIs, am1 _ (mk8_lt _)]
      cases hf : fp A (nG A - i) (pS A i).1 with
      | none =>
        rw [if_neg (show ¬ 0 ≤ oI none by decide), pS_n hf]
      | some b =>
        have hb := fp_lt hf
        rw [show oI (some b) = nI b from rfl, if_pos (nI_pos' (by omega)), clr _ (mk8_lt _) b hb, clr_mk _ hb, pS_b hf] <;> rfl)
    (g + 1) 0 2000 (by omega) (by omega)
  have e0 : (255 : Int32) = nI (mk (pS A 0).1 8) := by
    have : mk (pS A 0).1 8 = 255 := by
      show mk (fun b => Nat.testBit 255 b) 8 = 255
      decide
    rw [this] <;> rfl
  have hL : f_X8_pairs_48 s (nI g) 2000 (nI (mk (pS A 0).1 8)) (-9) 0 = _ := hL
  rw [← e0] at hL
  exact hL
end MQ
theorem p_pairs {S : Nat → St} {s : St} (h : REL S s) (x : Int32) : AG (f_X7_pairs S x) (f_X8_pairs s x) := by
  have h' := h
  obtain ⟨A, w, hy, hv, hm, hr⟩ := h
  have hg5 := w.2.1
  obtain ⟨t', e1, l1⟩ := c_look hv w (S 5)
  obtain ⟨s', e2, f2, t2⟩ := m_findPairs hm w
  have hth : ∀ r, AG (some (r, sS S 5 t')) (some (r, s')) := fun r => ag_th (S' := sS S 5 t') w hy hv hr f2.ki (f2.rm hm) rfl rfl rfl rfl rfl _
  rw [f_X7_pairs, f_X8_pairs, hm.2.1]
  by_cases hx : x = -1
  · subst hx
    have hlt : (-1 : Int32) < nI (nG A) := Int32.lt_of_lt_of_le (show (-1 : Int32) < 0 by decide) (nI_pos' (by omega))
    have hz : s' (17 + (0 : Int32).toNatClampNeg) (255 : Int32).toNatClampNeg = nI (dpf (pP A) (nG A) (fun b => Nat.testBit 255 b)) := by
      have := t2 0 (by omega) 255 (by omega)
      exact this
    rw [if_pos rfl, f_X7_pairs_22, e1, Option.bind_some, if_pos rfl, c_mostAll l1 hg5, Option.bind_some, if_neg (show ¬ (-1 : Int32) < -1 by decide), if_pos hlt, e2, Option.bind_some, if_neg (show ¬ (0 : Int32) ≤ -1 by decide), gdT (by decide), hz]
    exact hth _
  · rw [if_neg hx, c_hasGroomI hv, Option.bind_some]
    rcases br_cases (n := nG A) (by omega) x with e | ⟨g, hg, rfl, e⟩
    · have hno : (¬ x < -1 → ¬ x < nI (nG A)) := fun h1 h2 => by
        unfold brI at e
        by_cases h0 : x < 0
        · rcases pk_ix (x + 1) (n := 1) (by omega) with q | q | ⟨j, hj, q⟩
          · exact h1 (by
              have a1 := Int32.lt_iff_toInt_lt.mp h0
              apply Int32.lt_iff_toInt_lt.mpr
              have a2 := Int32.lt_iff_toInt_lt.mp q
              have a3 : (x + 1).toInt = x.toInt + 1 := by
                rw [Int32.toInt_add]
                have := Int32.le_toInt x
                have h01 : ((1 : Int32)).toInt = 1 := by decide
                have h00 : ((0 : Int32)).toInt = 0 := by decide
                rw [h01]
                rw [h00] at a1
                apply Int.bmod_eq_of_le <;> omega
              have h00 : ((0 : Int32)).toInt = 0 := by decide
              have hm1 : ((-1 : Int32)).toInt = -1 := by decide
              rw [a3, h00] at a2
              rw [hm1]
              omega)
          · exact h1 (by
              exfalso
              have a1 := Int32.lt_iff_toInt_lt.mp h0
              have a2 := Int32.le_iff_toInt_le.mp q
              have a3 : (x + 1).toInt = x.toInt + 1 := by
                rw [Int32.toInt_add]
                have := Int32.le_toInt x
                have h01 : ((1 : Int32)).toInt = 1 := by decide
                have h00 : ((0 : Int32)).toInt = 0 := by decide
                rw [h01]
                rw [h00] at a1
                apply Int.bmod_eq_of_le <;> omega
              have h00 : ((0 : Int32)).toInt = 0 := by decide
              have hn1 : (nI 1).toInt = 1 := by decide
              rw [a3, hn1] at a2
              rw [h00] at a1
              omega)
          · have hj0 : j = 0 := by omega
            subst hj0
            apply hx
            have a3 : x + 1 + -1 = nI 0 + -1 := by rw [q]
            rw [Int32.add_assoc] at a3
            have : x + (1 + -1) = x := by
              rw [show (1 : Int32) + -1 = 0 by decide, Int32.add_zero]
            rw [this] at a3
            exact a3
        · rw [if_neg h0] at e
          by_cases h3 : nI (nG A) ≤ x
          · exact Int32.lt_irrefl (Int32.lt_of_lt_of_le h2 h3)
          · rw [if_neg h3] at e
            exact n10 e
      rw [e, if_pos rfl]
      by_cases h1 : x < -1
      · rw [if_pos h1]; exact ag_no h' 1 (by omega) (by decide)
      · rw [if_neg h1, if_neg (hno h1)]; exact ag_no h' 1 (by omega) (by decide)
    · have hlt : nI g < nI (nG A) := nI_lt hg (by omega)
      have hn1 : ¬ nI g < (-1 : Int32) := fun z => neg_lt (n := g) (by omega) (Int32.lt_trans z (by decide))
      rw [e, if_neg n10, f_X7_pairs_22, e1, Option.bind_some, if_neg hx, c_partnerOf l1 hg5 hg, Option.bind_some, if_neg hn1, if_pos hlt, e2, Option.bind_some, if_pos (nI_pos' (by omega)), FUEL_v, m_pairs48 (f2.rm hm) w t2 hg]
      exact hth _
