/-! away -/
theorem sis_c {s s' : St} (h : ∀ k, k ≠ 5 → s' k = s k) (x : Int32) : f_X8_sisterly s' x = f_X8_sisterly s x := by
  simp only [f_X8_sisterly, h 3 (by decide)]
theorem sh39_c {s s' : St} (h : ∀ k, k ≠ 5 → s' k = s k) (x a b : Int32) : f_X8_showsOf_39 s' x a b = f_X8_showsOf_39 s x a b := by
  simp only [f_X8_showsOf_39, sis_c h, h 1 (by decide), h 3 (by decide)]
theorem sh_c {s s' : St} (h : ∀ k, k ≠ 5 → s' k = s k) (x : Int32) : f_X8_showsOf s' x = f_X8_showsOf s x := by
  simp only [f_X8_showsOf, sh39_c h, h 2 (by decide), h 3 (by decide), h 23 (by decide)]
theorem gby5_c {s s' : St} (h : ∀ k, k ≠ 5 → s' k = s k) (a t : Int32) : ∀ n x i, f_X8_guessesBy_5 s' a t n x i = f_X8_guessesBy_5 s a t n x i
  | 0, _, _ => rfl
  | n + 1, x, i => by simp only [f_X8_guessesBy_5, h 4 (by decide), h 23 (by decide), sh_c h, gby5_c h a t n]
theorem gby_c {s s' : St} (h : ∀ k, k ≠ 5 → s' k = s k) (a t : Int32) : f_X8_guessesBy s' a t = f_X8_guessesBy s a t := gby5_c h a t _ _ _
theorem gss_c {s s' : St} (h : ∀ k, k ≠ 5 → s' k = s k) (x : Int32) : f_X8_guesses s' x = f_X8_guesses s x := by
  simp only [f_X8_guesses, gby_c h, h 6 (by decide), h 7 (by decide)]
theorem kns_c {s s' : St} (h : ∀ k, k ≠ 5 → s' k = s k) (x : Int32) : f_X8_knows s' x = f_X8_knows s x := by
  simp only [f_X8_knows, gss_c h]
theorem kn4_c {s s' : St} (h : ∀ k, k ≠ 5 → s' k = s k) : ∀ n x i, f_X8_knownOnes_4 s' n x i = f_X8_knownOnes_4 s n x i
  | 0, _, _ => rfl
  | n + 1, x, i => by simp only [f_X8_knownOnes_4, h 9 (by decide), h 23 (by decide), kns_c h, kn4_c h n]
theorem kno_c {s s' : St} (h : ∀ k, k ≠ 5 → s' k = s k) : f_X8_knownOnes s' = f_X8_knownOnes s := kn4_c h _ _ _
def awA (A : AS) (b : Nat) : AS := setA A 3 (upN (A 3) b 1)
theorem aw_WF {A : AS} (w : WF A) {b : Nat} (hb : b < nB A) (h4 : A 4 b = 0) : WF (awA A b) := by
  refine ⟨w.1, w.2.1, w.2.2.1, fun j hj => ?_, w.2.2.2.2⟩
  obtain ⟨h1, h2, h3, q4, h5, h6, h7⟩ := w.2.2.2.1 j hj
  refine ⟨h1, h2, h3, ?_, h5, fun z => ?_, fun z => ⟨?_, (h7 z).2⟩⟩
  · show upN (A 3) b 1 j ≤ 9
    unfold upN
    split <;> omega
  · have z : A 4 j = 1 := z
    show upN (A 3) b 1 j = 0
    rw [upN_ne (fun e => by rw [e] at z; omega)]
    exact h6 z
  · have z : nB A ≤ j := z
    show upN (A 3) b 1 j = 0
    rw [upN_ne (by omega)]
    exact (h7 z).1
def aw (A : AS) : Nat → Int32 × Nat
  | 0 => (-9, cnt (kb A))
  | i + 1 => if plc A i = 0 ∧ cnt (kb (awA A i)) < (aw A i).2 then (nI i, cnt (kb (awA A i))) else aw A i
theorem aw_le (A : AS) : ∀ i, (aw A i).2 ≤ 8
  | 0 => cnt_le _ (kb_lt A)
  | i + 1 => by
    have ih := aw_le A i
    unfold aw
    split
    · exact cnt_le _ (kb_lt _)
    · exact ih
theorem p_away {S : Nat → St} {s : St} (h : REL S s) : AG (f_X7_away S) (f_X8_away s) := by
  have h' := h
  obtain ⟨A, w, hy, hv, hm, hr⟩ := h
  have hb8 := w.1
  have hL := aw_le A
  obtain ⟨⟨x2, x3, u'⟩, ⟨i1, i2⟩, e1⟩ := sloop (α := Int32 × Int32 × St) (L := fun fuel i a => f_X0_bestAway_14 (S 0) fuel a.1 a.2.1 (nI i) a.2.2) (K := fun a => some (a.2.1, a.2.2)) (B := nB A)
    (fun i a => a.1 = nI (aw A i).2 ∧ a.2.1 = (aw A i).1)
    (fun f a _ => by
      show f_X0_bestAway_14 (S 0) (f + 1) _ _ _ _ = _
      rw [f_X0_bestAway_14, hv.2.1, if_pos (nI_le (Nat.le_refl _) (by omega))])
    (fun f i a hi ha => by
      obtain ⟨a1, a2⟩ := ha
      have hhead : f_X0_bestAway_14 (S 0) (f + 1) a.1 a.2.1 (nI i) a.2.2 = (if nI (if plc A i = 0 then 1 else 0) = 0 then f_X0_bestAway_14 (S 0) f a.1 a.2.1 (nI (i + 1)) a.2.2 else (f_X6_become a.2.2 (S 0)).bind (fun q172 => (f_X6_sendHome q172 (nI i) 1).bind (fun q173 => (f_X6_knownBits q173).bind (fun q174 => (f_J6_bitCount_0f7a4 q174).bind (fun q175 => (if a.1 ≤ q175 then f_X0_bestAway_14 (S 0) f a.1 a.2.1 (nI (i + 1)) q173 else f_X0_bestAway_14 (S 0) f q175 (nI i) (nI (i + 1)) q173)))))) := by
        rw [f_X0_bestAway_14, hv.2.1, if_neg (nI_ge hi (by omega)), c_isHere hv w (by omega), Option.bind_some, show nI i + 1 = nI (i + 1) from (nI_succ i).symm]
      by_cases e : plc A i = 0
      · obtain ⟨u1, q1, r1⟩ := c_become (v := a.2.2) hv
        have r2 : RV (sA u1 3 (upd (u1 3) i (nI 1))) (awA A i) := RV_3 r1 i 1
        have ww := aw_WF w hi ((plc0 (w.2.2.2.1 i (by omega))).mp e).1
        have hh2 : f_X0_bestAway_14 (S 0) (f + 1) a.1 a.2.1 (nI i) a.2.2 = (if (aw A i).2 ≤ cnt (kb (awA A i)) then f_X0_bestAway_14 (S 0) f a.1 a.2.1 (nI (i + 1)) (sA u1 3 (upd (u1 3) i (nI 1))) else f_X0_bestAway_14 (S 0) f (nI (cnt (kb (awA A i)))) (nI i) (nI (i + 1)) (sA u1 3 (upd (u1 3) i (nI 1)))) := by
          have := hL i
          have := cnt_le _ (kb_lt (awA A i))
          rw [hhead, if_pos e, if_neg ni1, q1, Option.bind_some, f_X6_sendHome, put_in (by omega) (by omega), Option.bind_some, Option.bind_some, show (1 : Int32) = nI 1 from rfl, c_knownBits r2 ww, Option.bind_some, bc_m _ (kb_lt _), Option.bind_some, a1, ifL (by omega) (by omega)]
        by_cases c : (aw A i).2 ≤ cnt (kb (awA A i))
        · refine ⟨(a.1, a.2.1, sA u1 3 (upd (u1 3) i (nI 1))), ?_, hh2.trans (if_pos c)⟩
          have : aw A (i + 1) = aw A i := if_neg (fun z => by omega)
          rw [this]
          exact ⟨a1, a2⟩
        · refine ⟨(nI (cnt (kb (awA A i))), nI i, sA u1 3 (upd (u1 3) i (nI 1))), ?_, hh2.trans (if_neg c)⟩
          have : aw A (i + 1) = (nI i, cnt (kb (awA A i))) := if_pos ⟨e, by omega⟩
          rw [this]
          exact ⟨rfl, rfl⟩
      · refine ⟨a, ?_, ?_⟩
        · have : aw A (i + 1) = aw A i := if_neg (fun z => e z.1)
          rw [this]
          exact ⟨a1, a2⟩
        · show f_X0_bestAway_14 (S 0) (f + 1) a.1 a.2.1 (nI i) a.2.2 = _
          rw [hhead, if_neg e, if_pos ni0])
    (nB A) 0 2000 (nI (cnt (kb A)), -9, S 1) (by omega) (by omega) ⟨rfl, rfl⟩
  have e1 : f_X0_bestAway_14 (S 0) 2000 (nI (cnt (kb A))) (-9) 0 (S 1) = some (x3, u') := e1
  have i2 : x3 = (aw A (nB A)).1 := i2
  have e2 := iloop (L := fun fuel i (a : Int32 × Int32) => f_X8_away_13 fuel a.1 a.2 (nI i) s) (a := fun i => ((aw A i).1, nI (aw A i).2)) (B := nB A) (r := some ((aw A (nB A)).1, s))
    (fun f => by
      show f_X8_away_13 (f + 1) _ _ _ s = _
      rw [f_X8_away_13, hm.1, if_pos (nI_le (Nat.le_refl _) (by omega))])
    (fun f i hi => by
      show f_X8_away_13 (f + 1) (aw A i).1 (nI (aw A i).2) (nI i) s = f_X8_away_13 f (aw A (i + 1)).1 (nI (aw A (i + 1)).2) (nI (i + 1)) s
      have wb := w.2.2.2.1 i (by omega)
      have hpl := plc_le (A := A) (b := i)
      have m4 := (hm.2.2.2.1 i (by omega)).2.2.2.1
      have hLi := hL i
      rw [f_X8_away_13, hm.1, if_neg (nI_ge hi (by omega)), gd_in (by omega) (by omega), nI_clamp (by omega), m4, ifZ (by omega)]
      by_cases e : plc A i = 0
      · obtain ⟨q1, q2⟩ := (plc0 wb).mp e
        have ww := aw_WF w hi q1
        have r2 : RM (sA (sA s 5 (upd (s 5) i (nI 1))) 4 (upd (s 4) i (nI 1))) (awA A i) := RM_54 hm (fun j _ => ⟨rfl, rfl, rfl⟩) (fun j _ => ⟨rfl, rfl, rfl, rfl⟩) rfl (fun j _ hne => ⟨upN_ne hne, rfl⟩) (upN_same _ _ _) (by
          unfold plc
          show (if A 4 i = 1 then 2 else if 0 < upN (A 3) i 1 i then 1 else 0) = 1
          rw [if_neg (by omega), upN_same, if_pos (by omega)])
        have hk : f_X8_knownOnes (sA s 4 (upd (s 4) i 1)) = some (nI (kb (awA A i))) := (kno_c (s := sA (sA s 5 (upd (s 5) i (nI 1))) 4 (upd (s 4) i (nI 1))) (fun k hk => by
          show (if k = 4 then upd (s 4) i 1 else s k) = (if k = 4 then upd (s 4) i (nI 1) else if k = 5 then _ else s k)
          by_cases z : k = 4
          · rw [if_pos z, if_pos z]; rfl
          · rw [if_neg z, if_neg z, if_neg hk])).trans (m_knownOnes r2 ww)
        have hback : sA (sA s 4 (upd (s 4) i 1)) 4 (upd (upd (s 4) i 1) i 0) = s := by
          funext p q
          by_cases hp : p = 4
          · subst hp
            show (if q = i then 0 else if q = i then 1 else s 4 q) = s 4 q
            by_cases hq : q = i
            · rw [if_pos hq, hq, m4, e]; rfl
            · rw [if_neg hq, if_neg hq]
          · show (if p = 4 then _ else if p = 4 then _ else s p) q = _
            rw [if_neg hp, if_neg hp]
        have hc := cnt_le _ (kb_lt (awA A i))
        rw [if_pos e, gd_in (by omega) (by omega), hk, Option.bind_some, bits_m _ (kb_lt _), Option.bind_some, gd_in (by omega) (by omega), hback, ifLt (by omega) (by omega), show nI i + 1 = nI (i + 1) from (nI_succ i).symm]
        by_cases c : cnt (kb (awA A i)) < (aw A i).2
        · have : aw A (i + 1) = (nI i, cnt (kb (awA A i))) := if_pos ⟨e, c⟩
          rw [if_pos c, this]
        · have : aw A (i + 1) = aw A i := if_neg (fun z => c z.2)
          rw [if_neg c, this]
      · have : aw A (i + 1) = aw A i := if_neg (fun z => e z.1)
        rw [if_neg e, this, show nI i + 1 = nI (i + 1) from (nI_succ i).symm])
    (nB A) 0 2000 (by omega) (by omega)
  have e2 : f_X8_away_13 2000 (-9) (nI (cnt (kb A))) 0 s = _ := e2
  rw [f_X7_away, f_X8_away, f_X0_bestAway, FUEL_v, c_knownBits hv w, Option.bind_some, bc_m _ (kb_lt A), Option.bind_some, e1, Option.bind_some, m_knownOnes hm w, Option.bind_some, bits_m _ (kb_lt A), Option.bind_some, e2, i2]
  exact ag_th (S' := sS S 1 u') w hy hv hr KI.rf hm rfl rfl rfl rfl rfl _
