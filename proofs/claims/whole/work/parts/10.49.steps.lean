/-! a statement comes, to both -/
def HF (a b : St) : Prop := b 11 = a 11 ∧ b 12 = a 12 ∧ b 13 = a 13 ∧ b 23 5 = a 23 5
theorem HF.rf {a : St} : HF a a := ⟨rfl, rfl, rfl, rfl⟩
theorem HF.tr {a b d : St} (h : HF a b) (g : HF b d) : HF a d := ⟨g.1.trans h.1, g.2.1.trans h.2.1, g.2.2.1.trans h.2.2.1, g.2.2.2.trans h.2.2.2⟩
theorem gy12_h : ∀ (n : Nat) (i : Int32) (a : St) (K : St → Option St) (r : St), f_X8_goesYear_12 n i a K = some r → ∃ b, K b = some r ∧ HF a b
  | 0, _, _, _, _, h => by cases h
  | n + 1, i, a, K, r, h => by
    rw [f_X8_goesYear_12] at h
    by_cases c1 : a 23 0 ≤ i
    · rw [if_pos c1] at h; exact ⟨a, h, HF.rf⟩
    rw [if_neg c1] at h
    have h := (gd_some h).2
    by_cases c2 : a 4 i.toNatClampNeg = 1
    · rw [if_pos c2] at h
      have h := (gd_some (gd_some (gd_some h).2).2).2
      split at h
      · have h := (gd_some h).2
        obtain ⟨b, e, f⟩ := gy12_h n _ _ K r h
        exact ⟨b, e, HF.tr ⟨rfl, rfl, rfl, rfl⟩ f⟩
      · have h := (gd_some h).2
        obtain ⟨b, e, f⟩ := gy12_h n _ _ K r h
        exact ⟨b, e, HF.tr ⟨rfl, rfl, rfl, rfl⟩ f⟩
    · rw [if_neg c2] at h
      exact gy12_h n _ _ K r h
theorem gy71_h : ∀ (n : Nat) (i : Int32) (a r : St), f_X8_goesYear_71 n i a = some r → HF a r
  | 0, _, _, _, h => by cases h
  | n + 1, i, a, r, h => by
    rw [f_X8_goesYear_71] at h
    by_cases c1 : a 23 1 ≤ i
    · rw [if_pos c1] at h; cases h; exact HF.rf
    rw [if_neg c1] at h
    have h := (gd_some (gd_some h).2).2
    split at h
    · have q := gy71_h n _ _ r (gd_some h).2
      exact HF.tr ⟨rfl, rfl, rfl, rfl⟩ q
    · have q := gy71_h n _ _ r (gd_some h).2
      exact HF.tr ⟨rfl, rfl, rfl, rfl⟩ q
theorem gy_h {a r : St} (h : f_X8_goesYear a = some r) : HF a r := by
  rw [f_X8_goesYear] at h
  obtain ⟨b, e, f⟩ := gy12_h _ _ _ _ _ h
  exact HF.tr (HF.tr ⟨rfl, rfl, rfl, rfl⟩ f) (gy71_h _ _ _ _ e)
theorem go2_h {x : Int32} : ∀ (n : Nat) (i : Int32) (a r : St), f_X8_goes_2 x n i a = some r → HF a r
  | 0, _, _, _, h => by cases h
  | n + 1, i, a, r, h => by
    rw [f_X8_goes_2] at h
    by_cases c1 : x ≤ i
    · rw [if_pos c1] at h; cases h; exact HF.rf
    rw [if_neg c1] at h
    obtain ⟨q, e, h⟩ := bndE h
    exact (gy_h e).tr (go2_h n _ _ r h)
theorem go_h {x : Int32} {a r : St} (h : f_X8_goes a x = some r) : HF a r := go2_h _ _ _ _ h
theorem wd_h {v : St} {x : Int32} {r : Int32 × St} (h : f_X8_weds v x = some r) : HF v r.2 := by
  rw [f_X8_weds] at h
  obtain ⟨q, e, h⟩ := bndE h
  by_cases c : q < 0
  · rw [if_pos c] at h
    have h := (gd_some h).2
    obtain ⟨q2, e2, h⟩ := bndE h
    have h := (gd_some (gd_some h).2).2
    cases h; exact ⟨rfl, rfl, rfl, rfl⟩
  · rw [if_neg c] at h
    have h := (gd_some h).2
    obtain ⟨q2, e2, h⟩ := bndE h
    rw [f_X8_sends] at e2
    have e2 := (gd_some (gd_some e2).2).2
    cases e2
    cases h; exact ⟨rfl, rfl, rfl, rfl⟩
def XF (a b : St) : Prop := KP a b ∧ HF a b
theorem XF.rf {a : St} : XF a a := ⟨KP.rf, HF.rf⟩
theorem XF.tr {a b d : St} (h : XF a b) (g : XF b d) : XF a d := ⟨h.1.tr g.1, h.2.tr g.2⟩
section NW
variable {v s : St} {A : AS}
theorem RV_N (h : RV v A) (x : Nat) : RV (sA v 7 (upd (v 7) 1 (nI x))) (setA A 9 (upN (A 9) 0 x)) :=
  ⟨h.1, rfl, h.2.2.1, h.2.2.2.1, h.2.2.2.2.1, h.2.2.2.2.2.1, h.2.2.2.2.2.2⟩
theorem RV_G (h : RV v A) (x : Nat) : RV (sA v 7 (upd (v 7) 3 (nI x))) (setA A 9 (upN (A 9) 1 x)) :=
  ⟨h.1, h.2.1, h.2.2.1, rfl, h.2.2.2.2.1, h.2.2.2.2.2.1, h.2.2.2.2.2.2⟩
theorem RM_N (h : RM s A) (x : Nat) : RM (sA s 23 (upd (s 23) 0 (nI x))) (setA A 9 (upN (A 9) 0 x)) :=
  ⟨rfl, h.2.1, h.2.2.1, h.2.2.2.1, h.2.2.2.2⟩
theorem RM_G (h : RM s A) (x : Nat) : RM (sA s 23 (upd (s 23) 1 (nI x))) (setA A 9 (upN (A 9) 1 x)) :=
  ⟨h.1, rfl, h.2.2.1, h.2.2.2.1, h.2.2.2.2⟩
theorem RM_45 (h : RM s A) {b : Nat} (h3 : A 3 b = 0) (h4 : A 4 b = 0) : RM (sA (sA s 4 (upd (s 4) b 0)) 5 (upd (s 5) b 0)) A := by
  refine ⟨h.1, h.2.1, h.2.2.1, fun j hj => ?_, h.2.2.2.2⟩
  obtain ⟨g1, g2, g3, g4, g5⟩ := h.2.2.2.1 j hj
  refine ⟨g1, g2, g3, ?_, ?_⟩
  · show upd (s 4) b 0 j = nI (plc A j)
    by_cases e : j = b
    · subst e
      rw [upd_eq]
      unfold plc
      rw [h4, h3] <;> rfl
    · rw [upd_ne e]; exact g4
  · show upd (s 5) b 0 j = nI (A 3 j)
    by_cases e : j = b
    · subst e
      rw [upd_eq, h3] <;> rfl
    · rw [upd_ne e]; exact g5
theorem RM_89 (h : RM s A) {g : Nat} (h7 : A 7 g = 0) (h8 : A 8 g = 0) : RM (sA (sA s 8 (upd (s 8) g 0)) 9 (upd (s 9) g 0)) A := by
  refine ⟨h.1, h.2.1, h.2.2.1, h.2.2.2.1, fun j hj => ?_⟩
  obtain ⟨g1, g2, g3, g4⟩ := h.2.2.2.2 j hj
  refine ⟨g1, g2, ?_, ?_⟩
  · show upd (s 8) g 0 j = nI (A 7 j)
    by_cases e : j = g
    · subst e
      rw [upd_eq, h7] <;> rfl
    · rw [upd_ne e]; exact g3
  · show upd (s 9) g 0 j = nI (A 8 j)
    by_cases e : j = g
    · subst e
      rw [upd_eq, h8] <;> rfl
    · rw [upd_ne e]; exact g4
def nbA (A : AS) (k fg ft : Nat) : AS := setA (setA (setA (setA A 0 (upN (A 0) (nB A) k)) 1 (upN (A 1) (nB A) fg)) 2 (upN (A 2) (nB A) ft)) 9 (upN (A 9) 0 (nB A + 1))
def ngA (A : AS) (lk md : Nat) : AS := setA (setA (setA A 5 (upN (A 5) (nG A) lk)) 6 (upN (A 6) (nG A) md)) 9 (upN (A 9) 1 (nG A + 1))
theorem nb_WF (w : WF A) {k fg ft : Nat} (hB : nB A < 8) (hk : k ≤ 5) (hf : fg ≤ 9) (ht : ft < 64) : WF (nbA A k fg ft) := by
  refine ⟨by show nB A + 1 ≤ 8; omega, w.2.1, w.2.2.1, fun j hj => ?_, w.2.2.2.2⟩
  obtain ⟨h1, h2, h3, h4, h5, h6, h7⟩ := w.2.2.2.1 j hj
  refine ⟨?_, ?_, ?_, h4, h5, h6, fun z => h7 (by have z : nB A + 1 ≤ j := z; omega)⟩
  · show upN (A 0) (nB A) k j ≤ 5
    unfold upN
    split
    · exact hk
    · exact h1
  · show upN (A 1) (nB A) fg j ≤ 9
    unfold upN
    split
    · exact hf
    · exact h2
  · show upN (A 2) (nB A) ft j < 64
    unfold upN
    split
    · exact ht
    · exact h3
theorem ng_WF (w : WF A) {lk md : Nat} (hG : nG A < 5) (h1 : lk < 64) (h2 : md < 64) : WF (ngA A lk md) := by
  refine ⟨w.1, by show nG A + 1 ≤ 5; omega, w.2.2.1, w.2.2.2.1, fun j hj => ?_⟩
  obtain ⟨g1, g2, g3, g4, g5⟩ := w.2.2.2.2 j hj
  refine ⟨?_, ?_, g3, g4, fun z => g5 (by have z : nG A + 1 ≤ j := z; omega)⟩
  · show upN (A 5) (nG A) lk j < 64
    unfold upN
    split
    · exact h1
    · exact g1
  · show upN (A 6) (nG A) md j < 64
    unfold upN
    split
    · exact h2
    · exact g2
theorem p_addBride (hv : RV v A) (hm : RM s A) (w : WF A) {k fg ft : Nat} (hk : k ≤ 5) (hf : fg ≤ 9) (ht : ft < 100) : (∃ u' s', f_X6_addBride v (nI k) (nI fg) (nI ft) = some (1, u') ∧ f_X8_comesBride s (nI k) (nI fg) (nI ft) = some (1, s') ∧ RV u' (nbA A k fg ft) ∧ RM s' (nbA A k fg ft) ∧ WF (nbA A k fg ft) ∧ XF s s') ∨ (∃ u', f_X6_addBride v (nI k) (nI fg) (nI ft) = some (0, u') ∧ f_X8_comesBride s (nI k) (nI fg) (nI ft) = some (0, s)) := by
  have hb8 := w.1
  have e63 : ((63 : Int32) < nI ft) = (63 < ft) := nI_ltN (a := 63) (by omega) (by omega)
  have l63 : (nI ft ≤ (63 : Int32)) = (ft ≤ 63) := nI_leN (b := 63) (by omega) (by omega)
  rw [f_X6_addBride, f_X8_comesBride, hv.2.1, hm.1]
  by_cases h8 : nB A = 8
  · rw [h8, if_pos (by decide)]
    right
    by_cases c : 63 < ft
    · exact ⟨v, rfl, by rw [if_pos (e63.symm ▸ c)]⟩
    · exact ⟨v, rfl, by rw [if_neg (e63.symm ▸ c), if_pos (by decide)]⟩
  have hB : nB A < 8 := by omega
  rw [if_neg (show ¬ (8 : Int32) ≤ nI (nB A) from nI_ge (b := 8) hB (by omega)), if_neg (show ¬ nI (nB A) = 8 from fun z => h8 (nI_inj (b := 8) (by omega) (by omega) z))]
  by_cases c : 63 < ft
  · right
    exact ⟨v, by rw [if_neg (by rw [l63]; omega)], by rw [if_pos (e63.symm ▸ c)]⟩
  · left
    rw [if_pos (show nI ft ≤ (63 : Int32) by rw [l63]; omega), if_neg (e63.symm ▸ c), f_X6_setKind, put_in (by omega) hB, Option.bind_some, put_in (by omega) hB, Option.bind_some, Option.bind_some]
    have e71 : sA (sA v 0 (upd (v 0) (nB A) (nI k))) 1 (upd (v 1) (nB A) (nI fg)) 7 1 = nI (nB A) := hv.2.1
    have h3 := ((w.2.2.2.1 (nB A) hB).2.2.2.2.2.2 (Nat.le_refl _)).1
    have h4 := ((w.2.2.2.1 (nB A) hB).2.2.2.2.2.2 (Nat.le_refl _)).2
    rw [e71, put_in (by omega) hB, Option.bind_some, nIs, gd_in hB (by omega), gd_in hB (by omega), gd_in hB (by omega), gd_in hB (by omega), gd_in hB (by omega), nI_clamp (by omega)]
    exact ⟨_, _, rfl, rfl, RV_N (RV_2 (RV_1 (RV_0 hv (nB A) k) (nB A) fg) (nB A) ft) (nB A + 1), RM_N (RM_45 (RM_3 (RM_2 (RM_1 hm (nB A) k) (nB A) fg) (nB A) ft) (b := nB A) h3 h4) (nB A + 1), nb_WF w hB hk hf (by omega), ⟨rfl, rfl, rfl, rfl, rfl, rfl, rfl⟩, ⟨rfl, rfl, rfl, rfl⟩⟩
theorem p_addGroom (hv : RV v A) (hm : RM s A) (w : WF A) {lk md : Nat} (h1 : lk < 100) (h2 : md < 100) : (∃ u' s', f_X6_addGroom v (nI lk) (nI md) = some (1, u') ∧ f_X8_comesGroom s (nI lk) (nI md) = some (1, s') ∧ RV u' (ngA A lk md) ∧ RM s' (ngA A lk md) ∧ WF (ngA A lk md) ∧ XF s s') ∨ (∃ u', f_X6_addGroom v (nI lk) (nI md) = some (0, u') ∧ f_X8_comesGroom s (nI lk) (nI md) = some (0, s)) := by
  have hg5 := w.2.1
  have e1 : ((63 : Int32) < nI lk) = (63 < lk) := nI_ltN (a := 63) (by omega) (by omega)
  have e2 : ((63 : Int32) < nI md) = (63 < md) := nI_ltN (a := 63) (by omega) (by omega)
  have l2 : (nI md ≤ (63 : Int32)) = (md ≤ 63) := nI_leN (b := 63) (by omega) (by omega)
  rw [f_X6_addGroom, f_X8_comesGroom, hv.2.2.2.1, hm.2.1]
  by_cases h5 : nG A = 5
  · rw [h5, if_pos (by decide)]
    right
    by_cases c : 63 < lk
    · exact ⟨v, rfl, by rw [if_pos (e1.symm ▸ c)]⟩
    · by_cases d : 63 < md
      · exact ⟨v, rfl, by rw [if_neg (e1.symm ▸ c), if_pos (e2.symm ▸ d)]⟩
      · exact ⟨v, rfl, by rw [if_neg (e1.symm ▸ c), if_neg (e2.symm ▸ d), if_pos (by decide)]⟩
  have hG : nG A < 5 := by omega
  rw [if_neg (show ¬ (5 : Int32) ≤ nI (nG A) from nI_ge (b := 5) hG (by omega)), if_neg (show ¬ nI (nG A) = 5 from fun z => h5 (nI_inj (b := 5) (by omega) (by omega) z))]
  by_cases c : 63 < lk
  · right
    have hc : (63 : Int32) < nI lk := by rw [e1]; exact c
    exact ⟨v, by rw [if_pos hc], by rw [if_pos hc]⟩
  have hc : ¬ (63 : Int32) < nI lk := by rw [e1]; exact c
  by_cases d : 63 < md
  · right
    have hd : (63 : Int32) < nI md := by rw [e2]; exact d
    have hd2 : ¬ nI md ≤ (63 : Int32) := by rw [l2]; omega
    exact ⟨v, by rw [if_neg hc, if_neg hd2], by rw [if_neg hc, if_pos hd]⟩
  · left
    have hd : ¬ (63 : Int32) < nI md := by rw [e2]; exact d
    have hd2 : nI md ≤ (63 : Int32) := by rw [l2]; omega
    rw [if_neg hc, if_neg hc, if_pos hd2, if_neg hd, f_X6_setLook, put_in (by omega) hG, Option.bind_some, Option.bind_some]
    have e73 : sA v 4 (upd (v 4) (nG A) (nI lk)) 7 3 = nI (nG A) := hv.2.2.2.1
    have h7 := ((w.2.2.2.2 (nG A) hG).2.2.2.2 (Nat.le_refl _)).2
    have h8 := ((w.2.2.2.2 (nG A) hG).2.2.2.2 (Nat.le_refl _)).1
    have e73' : sA (sA v 4 (upd (v 4) (nG A) (nI lk))) 5 (upd (sA v 4 (upd (v 4) (nG A) (nI lk)) 5) (nG A) (nI md)) 7 3 = nI (nG A) := hv.2.2.2.1
    rw [e73, f_X6_setMind, put_in (by omega) hG, Option.bind_some, Option.bind_some, e73', nIs, gd_in hG (by omega), gd_in hG (by omega), gd_in hG (by omega), gd_in hG (by omega), nI_clamp (by omega)]
    exact ⟨_, _, rfl, rfl, RV_G (RV_5 (RV_4 hv (nG A) lk) (nG A) md) (nG A + 1), RM_G (RM_89 (RM_7 (RM_6 hm (nG A) lk) (nG A) md) (g := nG A) h7 h8) (nG A + 1), ng_WF w hG (by omega) (by omega), ⟨rfl, rfl, rfl, rfl, rfl, rfl, rfl⟩, ⟨rfl, rfl, rfl, rfl⟩⟩
end NW
