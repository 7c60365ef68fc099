/-! the reference keeps its valley in a row, and takes it back; its years -/
/-- the valley as a row of 63 -/
def enc (A : AS) (j : Nat) : Int32 :=
  if j < 8 then nI (A 0 j) else if j < 16 then nI (A 1 (j - 8)) else if j < 24 then nI (A 2 (j - 16)) else if j < 32 then nI (plc A (j - 24)) else if j < 40 then nI (A 3 (j - 32))
  else if j < 45 then nI (A 5 (j - 40)) else if j < 50 then nI (A 6 (j - 45)) else if j < 55 then nI (A 7 (j - 50)) else if j < 60 then nI (A 8 (j - 55))
  else if j = 60 then nI (nB A) else if j = 61 then nI (nG A) else nI (nY A)
def ENC (s : St) (w : Nat) (A : AS) : Prop := ∀ j, j < 63 → s 14 (63 * w + j) = enc A j
/-- what is kept stays: n places from c on hold e; all else is as before, but the cursor -/
def KS (s s' : St) (c n : Nat) (e : Nat → Int32) : Prop :=
  (∀ k, k ≠ 14 → k ≠ 23 → s' k = s k) ∧ (∀ j, j ≠ 8 → s' 23 j = s 23 j) ∧ s' 23 8 = nI (c + n) ∧ ∀ j, s' 14 j = if c ≤ j ∧ j < c + n then e (j - c) else s 14 j
theorem KS.tr {a b c : St} {p n m : Nat} {e f : Nat → Int32} (h : KS a b p n e) (g : KS b c (p + n) m f) : KS a c p (n + m) (fun j => if j < n then e j else f (j - n)) := by
  refine ⟨fun k h1 h2 => (g.1 k h1 h2).trans (h.1 k h1 h2), fun j hj => (g.2.1 j hj).trans (h.2.1 j hj), by rw [g.2.2.1, Nat.add_assoc], fun j => ?_⟩
  rw [g.2.2.2 j, h.2.2.2 j]
  by_cases h1 : p + n ≤ j ∧ j < p + n + m
  · rw [if_pos h1, if_pos (by omega)]
    show _ = (if j - p < n then _ else _)
    rw [if_neg (by omega)]
    congr 1
    omega
  · rw [if_neg h1]
    by_cases h2 : p ≤ j ∧ j < p + n
    · rw [if_pos h2, if_pos (by omega)]
      show _ = (if j - p < n then _ else _)
      rw [if_pos (by omega)]
    · rw [if_neg h2, if_neg (by omega)]
theorem mL_k : ∀ k, k < 10 → mLen k ≤ 8 := by decide
/-- a row is kept -/
theorem m_keep {s : St} {k c : Nat} (hk : k < 10) (h7 : s 23 7 = 1) (h8 : s 23 8 = nI c) (hc : c + mLen k ≤ 189) : ∃ s', f_X8_passes s k = some s' ∧ KS s s' c (mLen k) (s k) := by
  have hL := mL_k k hk
  rw [f_X8_passes, FUEL_v]
  obtain ⟨s', hs, e⟩ := sloop (L := fun fuel i a => f_X8_passes_2 k fuel (nI i) a) (K := fun a => some a) (B := mLen k)
    (fun i a => KS s a c i (s k))
    (fun f a ha => by
      show f_X8_passes_2 k (f + 1) _ a = _
      rw [f_X8_passes_2, nI_o, if_pos (nI_le (Nat.le_refl _) (by omega))])
    (fun f i a hi ha => by
      obtain ⟨a1, a2, a3, a4⟩ := ha
      have e7 : a 23 7 = 1 := (a2 7 (by omega)).trans h7
      have ek : a k = s k := a1 k (by omega) (by omega)
      refine ⟨sA (sA a 14 (upd (a 14) (c + i) (s k i))) 23 (upd (a 23) 8 (nI (c + i + 1))), ?_, ?_⟩
      rotate_left
      · show f_X8_passes_2 k (f + 1) _ a = f_X8_passes_2 k f _ _
        rw [f_X8_passes_2, nI_o, if_neg (nI_ge hi (by omega)), e7, if_neg (by decide), gd_in hi (by omega), a3, gd_in (by omega) (by omega), nI_clamp (by omega), nI_clamp (by omega), f_X8_passes_42]
        show f_X8_passes_2 k f (nI i + 1) (sA (sA a 14 (upd (a 14) (c + i) (a k i))) 23 (upd (a 23) 8 (a 23 8 + 1))) = _
        rw [k1, nI_add, a3, nI_add, ek]
      · refine ⟨fun p h1 h2 => ?_, fun j hj => ?_, ?_, fun j => ?_⟩
        · show (if p = 23 then _ else if p = 14 then _ else a p) = _
          rw [if_neg h2, if_neg h1]; exact a1 p h1 h2
        · show (if j = 8 then _ else a 23 j) = _
          rw [if_neg hj]; exact a2 j hj
        · show upd (a 23) 8 (nI (c + i + 1)) 8 = nI (c + i + 1)
          exact if_pos rfl
        · show (if j = c + i then s k i else a 14 j) = _
          rw [a4 j]
          by_cases h1 : j = c + i
          · rw [if_pos h1, if_pos (by omega), h1, show c + i - c = i by omega]
          · rw [if_neg h1]
            by_cases h2 : c ≤ j ∧ j < c + i
            · rw [if_pos h2, if_pos (by omega)]
            · rw [if_neg h2, if_neg (by omega)])
    (mLen k) 0 2000 s (by omega) (by omega) ⟨fun _ _ _ => rfl, fun _ _ => rfl, h8, fun j => by rw [if_neg (by omega)]⟩
  exact ⟨s', e, hs⟩
/-- a row is put back -/
theorem m_back {s : St} {k c : Nat} (hk : k < 10) (h7 : s 23 7 = 0) (h8 : s 23 8 = nI c) (hc : c + mLen k ≤ 189) : ∃ s', f_X8_passes s k = some s' ∧ (∀ p, p ≠ k → p ≠ 23 → s' p = s p) ∧ (∀ j, j ≠ 8 → s' 23 j = s 23 j) ∧ s' 23 8 = nI (c + mLen k) ∧ ∀ j, j < mLen k → s' k j = s 14 (c + j) := by
  have hL := mL_k k hk
  rw [f_X8_passes, FUEL_v]
  obtain ⟨s', hs, e⟩ := sloop (L := fun fuel i a => f_X8_passes_2 k fuel (nI i) a) (K := fun a => some a) (B := mLen k)
    (fun i a => (∀ p, p ≠ k → p ≠ 23 → a p = s p) ∧ (∀ j, j ≠ 8 → a 23 j = s 23 j) ∧ a 23 8 = nI (c + i) ∧ ∀ j, j < i → a k j = s 14 (c + j))
    (fun f a ha => by
      show f_X8_passes_2 k (f + 1) _ a = _
      rw [f_X8_passes_2, nI_o, if_pos (nI_le (Nat.le_refl _) (by omega))])
    (fun f i a hi ha => by
      obtain ⟨a1, a2, a3, a4⟩ := ha
      have e7 : a 23 7 = 0 := (a2 7 (by omega)).trans h7
      have e14 : a 14 = s 14 := a1 14 (by omega) (by omega)
      refine ⟨sA (sA a k (upd (a k) i (s 14 (c + i)))) 23 (upd (a 23) 8 (nI (c + i + 1))), ?_, ?_⟩
      rotate_left
      · show f_X8_passes_2 k (f + 1) _ a = f_X8_passes_2 k f _ _
        rw [f_X8_passes_2, nI_o, if_neg (nI_ge hi (by omega)), e7, if_pos rfl, a3, gd_in (by omega) (by omega), gd_in hi (by omega), nI_clamp (by omega), nI_clamp (by omega), f_X8_passes_42]
        have e238 : sA a k (upd (a k) i (a 14 (c + i))) 23 = a 23 := if_neg (by omega)
        rw [e238, a3, k1, nI_add, nI_add, e14]
      · refine ⟨fun p h1 h2 => ?_, fun j hj => ?_, ?_, fun j hj => ?_⟩
        · show (if p = 23 then _ else if p = k then _ else a p) = _
          rw [if_neg h2, if_neg h1]; exact a1 p h1 h2
        · show (if j = 8 then _ else a 23 j) = _
          rw [if_neg hj]; exact a2 j hj
        · show upd (a 23) 8 (nI (c + i + 1)) 8 = nI (c + i + 1)
          exact if_pos rfl
        · show (if k = 23 then upd (a 23) 8 _ else if k = k then upd (a k) i (s 14 (c + i)) else a k) j = _
          rw [if_neg (by omega), if_pos rfl]
          unfold upd
          by_cases e : j = i
          · rw [if_pos e, e]
          · rw [if_neg e]; exact a4 j (by omega))
    (mLen k) 0 2000 s (by omega) (by omega) ⟨fun _ _ _ => rfl, fun _ _ => rfl, h8, fun j hj => by omega⟩
  exact ⟨s', e, hs.1, hs.2.1, hs.2.2.1, hs.2.2.2⟩
/-- one number is kept -/
theorem m_keep1 {s : St} {c : Nat} {x : Int32} (h7 : s 23 7 = 1) (h8 : s 23 8 = nI c) (hc : c < 189) : ∃ s', f_X8_passOne s x = some (x, s') ∧ KS s s' c 1 (fun _ => x) := by
  rw [f_X8_passOne, h7, if_neg (by decide), f_X8_passOne_20, h7, if_neg (by decide), h8, gd_in hc (by omega), nI_clamp (by omega), f_X8_passOne_38]
  refine ⟨_, rfl, fun p h1 h2 => ?_, fun j hj => ?_, ?_, fun j => ?_⟩
  · show (if p = 23 then _ else if p = 14 then _ else s p) = _
    rw [if_neg h2, if_neg h1]
  · show (if j = 8 then _ else s 23 j) = _
    rw [if_neg hj]
  · show upd (s 23) 8 (s 23 8 + 1) 8 = _
    unfold upd
    rw [if_pos rfl, h8, k1, nI_add]
  · show (if j = c then x else s 14 j) = _
    by_cases e : j = c
    · rw [if_pos e, if_pos (by omega)]
    · rw [if_neg e, if_neg (by omega)]
/-- one number is taken back -/
theorem m_back1 {s : St} {c : Nat} {x : Int32} (h7 : s 23 7 = 0) (h8 : s 23 8 = nI c) (hc : c < 189) : f_X8_passOne s x = some (s 14 c, sA s 23 (upd (s 23) 8 (nI (c + 1)))) := by
  rw [f_X8_passOne, h7, if_pos rfl, h8, gd_in hc (by omega), nI_clamp (by omega), f_X8_passOne_20, h7, if_pos rfl, f_X8_passOne_38, h8, k1, nI_add]
theorem KS.c7 {a b : St} {p n : Nat} {e : Nat → Int32} {x : Int32} (h : KS a b p n e) (g : a 23 7 = x) : b 23 7 = x := (h.2.1 7 (by omega)).trans g
/-- the whole valley is kept -/
theorem m_save {s : St} {A : AS} (h : RM s A) {w : Nat} (hw : w < 3) : ∃ s', f_X8_passesAll s (nI w) 1 = some s' ∧ RM s' A ∧ ENC s' w A ∧ s' 0 = s 0 ∧ s' 10 = s 10 ∧ s' 15 = s 15 ∧ s' 11 = s 11 ∧ s' 12 = s 12 ∧ s' 13 = s 13 ∧ s' 23 3 = s 23 3 ∧ s' 23 5 = s 23 5 ∧ s' 23 6 = s 23 6 ∧ s' 23 9 = s 23 9 ∧ ∀ j, (j < 63 * w ∨ 63 * w + 63 ≤ j) → s' 14 j = s 14 j := by
  have hm : (63 : Int32) * nI w = nI (63 * w) := by rw [k63, pk_mul]
  rw [f_X8_passesAll, gdT (by decide), hm]
  generalize hs0 : sA (sA s 23 (upd (s 23) 8 (nI (63 * w)))) 23 (upd (upd (s 23) 8 (nI (63 * w))) 7 1) = s0
  have z7 : s0 23 7 = 1 := by rw [← hs0]; rfl
  have z8 : s0 23 8 = nI (63 * w) := by rw [← hs0]; rfl
  have zk : ∀ k, k ≠ 23 → s0 k = s k := fun k hk => by rw [← hs0]; exact (if_neg hk).trans (if_neg hk)
  have zj : ∀ j, j ≠ 7 → j ≠ 8 → s0 23 j = s 23 j := fun j h1 h2 => by
    rw [← hs0]
    show (if j = 7 then _ else if j = 8 then _ else s 23 j) = _
    rw [if_neg h1, if_neg h2]
  obtain ⟨s1, e1, g1⟩ := m_keep (k := 1) (by omega) z7 z8 (by show _ + 8 ≤ _; omega)
  rw [e1, Option.bind_some]
  obtain ⟨s2, e2, g2⟩ := m_keep (k := 2) (by omega) (g1.c7 z7) g1.2.2.1 (by show _ + 8 + 8 ≤ _; omega)
  rw [e2, Option.bind_some]
  have g2 := g1.tr g2
  obtain ⟨s3, e3, g3⟩ := m_keep (k := 3) (by omega) (g2.c7 z7) g2.2.2.1 (by show _ + (8 + 8) + 8 ≤ _; omega)
  rw [e3, Option.bind_some]
  have g3 := g2.tr g3
  obtain ⟨s4, e4, g4⟩ := m_keep (k := 4) (by omega) (g3.c7 z7) g3.2.2.1 (by show _ + (8 + 8 + 8) + 8 ≤ _; omega)
  rw [e4, Option.bind_some]
  have g4 := g3.tr g4
  obtain ⟨s5, e5, g5⟩ := m_keep (k := 5) (by omega) (g4.c7 z7) g4.2.2.1 (by show _ + (8 + 8 + 8 + 8) + 8 ≤ _; omega)
  rw [e5, Option.bind_some]
  have g5 := g4.tr g5
  obtain ⟨s6, e6, g6⟩ := m_keep (k := 6) (by omega) (g5.c7 z7) g5.2.2.1 (by show _ + (8 + 8 + 8 + 8 + 8) + 5 ≤ _; omega)
  rw [e6, Option.bind_some]
  have g6 := g5.tr g6
  obtain ⟨s7, e7, g7⟩ := m_keep (k := 7) (by omega) (g6.c7 z7) g6.2.2.1 (by show _ + (8 + 8 + 8 + 8 + 8 + 5) + 5 ≤ _; omega)
  rw [e7, Option.bind_some]
  have g7 := g6.tr g7
  obtain ⟨s8, e8, g8⟩ := m_keep (k := 8) (by omega) (g7.c7 z7) g7.2.2.1 (by show _ + (8 + 8 + 8 + 8 + 8 + 5 + 5) + 5 ≤ _; omega)
  rw [e8, Option.bind_some]
  have g8 := g7.tr g8
  obtain ⟨s9, e9, g9⟩ := m_keep (k := 9) (by omega) (g8.c7 z7) g8.2.2.1 (by show _ + (8 + 8 + 8 + 8 + 8 + 5 + 5 + 5) + 5 ≤ _; omega)
  rw [e9, Option.bind_some]
  have g9 := g8.tr g9
  obtain ⟨s10, e10, g10⟩ := m_keep1 (x := s9 23 0) (g9.c7 z7) g9.2.2.1 (by show _ + (8 + 8 + 8 + 8 + 8 + 5 + 5 + 5 + 5) < _; omega)
  rw [e10, Option.bind_some]
  have g10 := g9.tr g10
  have id0 : ∀ (x : St) (j : Nat), sA x 23 (upd (x 23) j (x 23 j)) = x := fun x j => by
    funext p q
    by_cases hp : p = 23
    · subst hp
      show (if q = j then x 23 j else x 23 q) = x 23 q
      by_cases hq : q = j
      · rw [if_pos hq, hq]
      · rw [if_neg hq]
    · show (if p = 23 then _ else x p) q = _
      rw [if_neg hp]
  have b0 : s9 23 0 = s10 23 0 := ((g9.2.1 0 (by omega)).trans (zj 0 (by omega) (by omega))).trans ((g10.2.1 0 (by omega)).trans (zj 0 (by omega) (by omega))).symm
  dsimp only
  rw [b0, id0 s10 0]
  obtain ⟨s11, e11, g11⟩ := m_keep1 (x := s10 23 1) (g10.c7 z7) g10.2.2.1 (by show _ + (8 + 8 + 8 + 8 + 8 + 5 + 5 + 5 + 5 + 1) < _; omega)
  rw [e11, Option.bind_some]
  have g11 := g10.tr g11
  have b1 : s10 23 1 = s11 23 1 := ((g10.2.1 1 (by omega)).trans (zj 1 (by omega) (by omega))).trans ((g11.2.1 1 (by omega)).trans (zj 1 (by omega) (by omega))).symm
  dsimp only
  rw [b1, id0 s11 1]
  obtain ⟨s12, e12, g12⟩ := m_keep1 (x := s11 23 2) (g11.c7 z7) g11.2.2.1 (by show _ + (8 + 8 + 8 + 8 + 8 + 5 + 5 + 5 + 5 + 1 + 1) < _; omega)
  rw [e12, Option.bind_some]
  have g12 := g11.tr g12
  have b2 : s11 23 2 = s12 23 2 := ((g11.2.1 2 (by omega)).trans (zj 2 (by omega) (by omega))).trans ((g12.2.1 2 (by omega)).trans (zj 2 (by omega) (by omega))).symm
  dsimp only
  rw [b2, id0 s12 2]
  have nn : 8 + 8 + 8 + 8 + 8 + 5 + 5 + 5 + 5 + 1 + 1 + 1 = 63 := rfl
  obtain ⟨t1, t2, t3, t4⟩ := g12
  have sk : ∀ k, k ≠ 14 → k ≠ 23 → s12 k = s k := fun k h1 h2 => (t1 k h1 h2).trans (zk k h2)
  have sj : ∀ j, j ≠ 7 → j ≠ 8 → s12 23 j = s 23 j := fun j h1 h2 => (t2 j h2).trans (zj j h1 h2)
  have c1 : s1 2 = s 2 := (g1.1 2 (by omega) (by omega)).trans (zk 2 (by omega))
  have c2 : s2 3 = s 3 := (g2.1 3 (by omega) (by omega)).trans (zk 3 (by omega))
  have c3 : s3 4 = s 4 := (g3.1 4 (by omega) (by omega)).trans (zk 4 (by omega))
  have c4 : s4 5 = s 5 := (g4.1 5 (by omega) (by omega)).trans (zk 5 (by omega))
  have c5 : s5 6 = s 6 := (g5.1 6 (by omega) (by omega)).trans (zk 6 (by omega))
  have c6 : s6 7 = s 7 := (g6.1 7 (by omega) (by omega)).trans (zk 7 (by omega))
  have c7 : s7 8 = s 8 := (g7.1 8 (by omega) (by omega)).trans (zk 8 (by omega))
  have c8 : s8 9 = s 9 := (g8.1 9 (by omega) (by omega)).trans (zk 9 (by omega))
  have d0 : s10 23 0 = nI (nB A) := ((g10.2.1 0 (by omega)).trans (zj 0 (by omega) (by omega))).trans h.1
  have d1 : s11 23 1 = nI (nG A) := ((g11.2.1 1 (by omega)).trans (zj 1 (by omega) (by omega))).trans h.2.1
  have d2 : s12 23 2 = nI (nY A) := ((sj 2 (by omega) (by omega))).trans h.2.2.1
  refine ⟨s12, rfl, ⟨(sj 0 (by omega) (by omega)).trans h.1, (sj 1 (by omega) (by omega)).trans h.2.1, d2, fun b hb => ?_, fun g hg => ?_⟩, fun j hj => ?_, sk 0 (by omega) (by omega), sk 10 (by omega) (by omega), sk 15 (by omega) (by omega), sk 11 (by omega) (by omega), sk 12 (by omega) (by omega), sk 13 (by omega) (by omega), sj 3 (by omega) (by omega), sj 5 (by omega) (by omega), sj 6 (by omega) (by omega), sj 9 (by omega) (by omega), fun j hj => ?_⟩
  · rw [sk 1 (by omega) (by omega), sk 2 (by omega) (by omega), sk 3 (by omega) (by omega), sk 4 (by omega) (by omega), sk 5 (by omega) (by omega)]
    exact h.2.2.2.1 b hb
  · rw [sk 6 (by omega) (by omega), sk 7 (by omega) (by omega), sk 8 (by omega) (by omega), sk 9 (by omega) (by omega)]
    exact h.2.2.2.2 g hg
  · have t4' : s12 14 (63 * w + j) = _ := (t4 (63 * w + j)).trans (if_pos ⟨by omega, by show _ < 63 * w + 63; omega⟩)
    rw [t4', show 63 * w + j - 63 * w = j by omega]
    rw [c1, c2, c3, c4, c5, c6, c7, c8, zk 1 (by omega), b0, d0, b1, d1, b2, d2]
    have hb := h.2.2.2.1
    have hg := h.2.2.2.2
    unfold enc
    show (if j < 62 then (if j < 61 then (if j < 60 then (if j < 55 then (if j < 50 then (if j < 45 then (if j < 40 then (if j < 32 then (if j < 24 then (if j < 16 then (if j < 8 then s 1 j else s 2 (j - 8)) else s 3 (j - 16)) else s 4 (j - 24)) else s 5 (j - 32)) else s 6 (j - 40)) else s 7 (j - 45)) else s 8 (j - 50)) else s 9 (j - 55)) else nI (nB A)) else nI (nG A)) else nI (nY A)) = _
    by_cases q1 : j < 8
    · rw [if_pos (by omega), if_pos (by omega), if_pos (by omega), if_pos (by omega), if_pos (by omega), if_pos (by omega), if_pos (by omega), if_pos (by omega), if_pos (by omega), if_pos (by omega), if_pos q1, if_pos q1]
      exact (hb j q1).1
    rw [if_neg q1, if_neg q1]
    by_cases q2 : j < 16
    · rw [if_pos (by omega), if_pos (by omega), if_pos (by omega), if_pos (by omega), if_pos (by omega), if_pos (by omega), if_pos (by omega), if_pos (by omega), if_pos (by omega), if_pos q2, if_pos q2]
      exact (hb (j - 8) (by omega)).2.1
    rw [if_neg q2, if_neg q2]
    by_cases q3 : j < 24
    · rw [if_pos (by omega), if_pos (by omega), if_pos (by omega), if_pos (by omega), if_pos (by omega), if_pos (by omega), if_pos (by omega), if_pos (by omega), if_pos q3, if_pos q3]
      exact (hb (j - 16) (by omega)).2.2.1
    rw [if_neg q3, if_neg q3]
    by_cases q4 : j < 32
    · rw [if_pos (by omega), if_pos (by omega), if_pos (by omega), if_pos (by omega), if_pos (by omega), if_pos (by omega), if_pos (by omega), if_pos q4, if_pos q4]
      exact (hb (j - 24) (by omega)).2.2.2.1
    rw [if_neg q4, if_neg q4]
    by_cases q5 : j < 40
    · rw [if_pos (by omega), if_pos (by omega), if_pos (by omega), if_pos (by omega), if_pos (by omega), if_pos (by omega), if_pos q5, if_pos q5]
      exact (hb (j - 32) (by omega)).2.2.2.2
    rw [if_neg q5, if_neg q5]
    by_cases q6 : j < 45
    · rw [if_pos (by omega), if_pos (by omega), if_pos (by omega), if_pos (by omega), if_pos (by omega), if_pos q6, if_pos q6]
      exact (hg (j - 40) (by omega)).1
    rw [if_neg q6, if_neg q6]
    by_cases q7 : j < 50
    · rw [if_pos (by omega), if_pos (by omega), if_pos (by omega), if_pos (by omega), if_pos q7, if_pos q7]
      exact (hg (j - 45) (by omega)).2.1
    rw [if_neg q7, if_neg q7]
    by_cases q8 : j < 55
    · rw [if_pos (by omega), if_pos (by omega), if_pos (by omega), if_pos q8, if_pos q8]
      exact (hg (j - 50) (by omega)).2.2.1
    rw [if_neg q8, if_neg q8]
    by_cases q9 : j < 60
    · rw [if_pos (by omega), if_pos (by omega), if_pos q9, if_pos q9]
      exact (hg (j - 55) (by omega)).2.2.2
    rw [if_neg q9, if_neg q9]
    by_cases q10 : j = 60
    · rw [if_pos (by omega), if_pos (by omega), if_pos q10]
    rw [if_neg q10]
    by_cases q11 : j = 61
    · rw [if_pos (by omega), if_neg (by omega), if_pos q11]
    · rw [if_neg (by omega), if_neg q11]
  · have t4' : s12 14 j = _ := (t4 j).trans (if_neg (by show ¬ (63 * w ≤ j ∧ j < 63 * w + 63); omega))
    rw [t4', zk 14 (by omega)]
/-- the whole valley is put back -/
theorem m_load {s : St} {A : AS} {w : Nat} (hw : w < 3) (h : ENC s w A) : ∃ s', f_X8_passesAll s (nI w) 0 = some s' ∧ RM s' A ∧ s' 0 = s 0 ∧ s' 10 = s 10 ∧ s' 14 = s 14 ∧ s' 15 = s 15 ∧ s' 11 = s 11 ∧ s' 12 = s 12 ∧ s' 13 = s 13 ∧ s' 23 3 = s 23 3 ∧ s' 23 5 = s 23 5 ∧ s' 23 6 = s 23 6 ∧ s' 23 9 = s 23 9 := by
  have hm : (63 : Int32) * nI w = nI (63 * w) := by rw [k63, pk_mul]
  rw [f_X8_passesAll, gdT (by decide), hm]
  generalize hs0 : sA (sA s 23 (upd (s 23) 8 (nI (63 * w)))) 23 (upd (upd (s 23) 8 (nI (63 * w))) 7 0) = s0
  have z7 : s0 23 7 = 0 := by rw [← hs0]; rfl
  have z8 : s0 23 8 = nI (63 * w) := by rw [← hs0]; rfl
  have zk : ∀ k, k ≠ 23 → s0 k = s k := fun k hk => by rw [← hs0]; exact (if_neg hk).trans (if_neg hk)
  have zj : ∀ j, j ≠ 7 → j ≠ 8 → s0 23 j = s 23 j := fun j h1 h2 => by
    rw [← hs0]
    show (if j = 7 then _ else if j = 8 then _ else s 23 j) = _
    rw [if_neg h1, if_neg h2]
  obtain ⟨s1, e1, p1, j1, c1, r1⟩ := m_back (k := 1) (by omega) z7 z8 (by show _ + 8 ≤ _; omega)
  rw [e1, Option.bind_some]
  obtain ⟨s2, e2, p2, j2, c2, r2⟩ := m_back (k := 2) (by omega) ((j1 7 (by omega)).trans z7) c1 (by show _ + 8 + 8 ≤ _; omega)
  rw [e2, Option.bind_some]
  obtain ⟨s3, e3, p3, j3, c3, r3⟩ := m_back (k := 3) (by omega) ((j2 7 (by omega)).trans ((j1 7 (by omega)).trans z7)) c2 (by show _ + 8 + 8 + 8 ≤ _; omega)
  rw [e3, Option.bind_some]
  have y3 : s3 23 7 = 0 := (j3 7 (by omega)).trans ((j2 7 (by omega)).trans ((j1 7 (by omega)).trans z7))
  obtain ⟨s4, e4, p4, j4, c4, r4⟩ := m_back (k := 4) (by omega) y3 c3 (by show _ + 8 + 8 + 8 + 8 ≤ _; omega)
  rw [e4, Option.bind_some]
  obtain ⟨s5, e5, p5, j5, c5, r5⟩ := m_back (k := 5) (by omega) ((j4 7 (by omega)).trans y3) c4 (by show _ + 8 + 8 + 8 + 8 + 8 ≤ _; omega)
  rw [e5, Option.bind_some]
  have y5 : s5 23 7 = 0 := (j5 7 (by omega)).trans ((j4 7 (by omega)).trans y3)
  obtain ⟨s6, e6, p6, j6, c6, r6⟩ := m_back (k := 6) (by omega) y5 c5 (by show _ + 8 + 8 + 8 + 8 + 8 + 5 ≤ _; omega)
  rw [e6, Option.bind_some]
  obtain ⟨s7, e7, p7, j7, c7, r7⟩ := m_back (k := 7) (by omega) ((j6 7 (by omega)).trans y5) c6 (by show _ + 8 + 8 + 8 + 8 + 8 + 5 + 5 ≤ _; omega)
  rw [e7, Option.bind_some]
  have y7 : s7 23 7 = 0 := (j7 7 (by omega)).trans ((j6 7 (by omega)).trans y5)
  obtain ⟨s8, e8, p8, j8, c8, r8⟩ := m_back (k := 8) (by omega) y7 c7 (by show _ + 8 + 8 + 8 + 8 + 8 + 5 + 5 + 5 ≤ _; omega)
  rw [e8, Option.bind_some]
  obtain ⟨s9, e9, p9, j9, c9, r9⟩ := m_back (k := 9) (by omega) ((j8 7 (by omega)).trans y7) c8 (by show _ + 8 + 8 + 8 + 8 + 8 + 5 + 5 + 5 + 5 ≤ _; omega)
  rw [e9, Option.bind_some]
  have y9 : s9 23 7 = 0 := (j9 7 (by omega)).trans ((j8 7 (by omega)).trans y7)
  have c9' : s9 23 8 = nI (63 * w + 60) := c9
  have hj9 : ∀ j, j ≠ 7 → j ≠ 8 → s9 23 j = s 23 j := fun j h1 h2 => by rw [j9 j h2, j8 j h2, j7 j h2, j6 j h2, j5 j h2, j4 j h2, j3 j h2, j2 j h2, j1 j h2, zj j h1 h2]
  have k14 : s9 14 = s 14 := by rw [p9 14 (by omega) (by omega), p8 14 (by omega) (by omega), p7 14 (by omega) (by omega), p6 14 (by omega) (by omega), p5 14 (by omega) (by omega), p4 14 (by omega) (by omega), p3 14 (by omega) (by omega), p2 14 (by omega) (by omega), p1 14 (by omega) (by omega), zk 14 (by omega)]
  have kk : ∀ k, 10 ≤ k ∨ k = 0 → k ≠ 23 → s9 k = s k := fun k h1 h2 => by rw [p9 k (by omega) h2, p8 k (by omega) h2, p7 k (by omega) h2, p6 k (by omega) h2, p5 k (by omega) h2, p4 k (by omega) h2, p3 k (by omega) h2, p2 k (by omega) h2, p1 k (by omega) h2, zk k h2]
  rw [m_back1 y9 c9' (by omega), Option.bind_some]
  dsimp only
  rw [m_back1 (c := 63 * w + 61) (by exact y9) rfl (by omega), Option.bind_some]
  dsimp only
  rw [m_back1 (c := 63 * w + 62) (by exact y9) rfl (by omega), Option.bind_some]
  have q14a : s1 14 = s 14 := (p1 14 (by omega) (by omega)).trans (zk 14 (by omega))
  have q14b : s2 14 = s 14 := (p2 14 (by omega) (by omega)).trans q14a
  have q14c : s3 14 = s 14 := (p3 14 (by omega) (by omega)).trans q14b
  have q14d : s4 14 = s 14 := (p4 14 (by omega) (by omega)).trans q14c
  have q14e : s5 14 = s 14 := (p5 14 (by omega) (by omega)).trans q14d
  have q14f : s6 14 = s 14 := (p6 14 (by omega) (by omega)).trans q14e
  have q14g : s7 14 = s 14 := (p7 14 (by omega) (by omega)).trans q14f
  have q14h : s8 14 = s 14 := (p8 14 (by omega) (by omega)).trans q14g
  refine ⟨_, rfl, ⟨?_, ?_, ?_, fun b hb => ?_, fun g hg => ?_⟩, kk 0 (by omega) (by omega), kk 10 (by omega) (by omega), k14, kk 15 (by omega) (by omega), kk 11 (by omega) (by omega), kk 12 (by omega) (by omega), kk 13 (by omega) (by omega), hj9 3 (by omega) (by omega), hj9 5 (by omega) (by omega), hj9 6 (by omega) (by omega), hj9 9 (by omega) (by omega)⟩
  · show s9 14 (63 * w + 60) = _
    rw [k14, h 60 (by omega)]
    rfl
  · show s9 14 (63 * w + 61) = _
    rw [k14, h 61 (by omega)]
    rfl
  · show s9 14 (63 * w + 62) = _
    rw [k14, h 62 (by omega)]
    rfl
  · have t1 : s9 1 b = nI (A 0 b) := by
      rw [p9 1 (by omega) (by omega), p8 1 (by omega) (by omega), p7 1 (by omega) (by omega), p6 1 (by omega) (by omega), p5 1 (by omega) (by omega), p4 1 (by omega) (by omega), p3 1 (by omega) (by omega), p2 1 (by omega) (by omega), r1 b hb, zk 14 (by omega), h b (by omega)]
      unfold enc; rw [if_pos hb]
    have t2 : s9 2 b = nI (A 1 b) := by
      rw [p9 2 (by omega) (by omega), p8 2 (by omega) (by omega), p7 2 (by omega) (by omega), p6 2 (by omega) (by omega), p5 2 (by omega) (by omega), p4 2 (by omega) (by omega), p3 2 (by omega) (by omega), r2 b hb, q14a]
      show s 14 (63 * w + 8 + b) = _
      rw [Nat.add_assoc, h (8 + b) (by omega)]
      unfold enc; rw [if_neg (by omega), if_pos (by omega), show 8 + b - 8 = b by omega]
    have t3 : s9 3 b = nI (A 2 b) := by
      rw [p9 3 (by omega) (by omega), p8 3 (by omega) (by omega), p7 3 (by omega) (by omega), p6 3 (by omega) (by omega), p5 3 (by omega) (by omega), p4 3 (by omega) (by omega), r3 b hb, q14b]
      show s 14 (63 * w + 8 + 8 + b) = _
      rw [show 63 * w + 8 + 8 + b = 63 * w + (16 + b) by omega, h (16 + b) (by omega)]
      unfold enc; rw [if_neg (by omega), if_neg (by omega), if_pos (by omega), show 16 + b - 16 = b by omega]
    have t4 : s9 4 b = nI (plc A b) := by
      rw [p9 4 (by omega) (by omega), p8 4 (by omega) (by omega), p7 4 (by omega) (by omega), p6 4 (by omega) (by omega), p5 4 (by omega) (by omega), r4 b hb, q14c]
      show s 14 (63 * w + 8 + 8 + 8 + b) = _
      rw [show 63 * w + 8 + 8 + 8 + b = 63 * w + (24 + b) by omega, h (24 + b) (by omega)]
      unfold enc; rw [if_neg (by omega), if_neg (by omega), if_neg (by omega), if_pos (by omega), show 24 + b - 24 = b by omega]
    have t5 : s9 5 b = nI (A 3 b) := by
      rw [p9 5 (by omega) (by omega), p8 5 (by omega) (by omega), p7 5 (by omega) (by omega), p6 5 (by omega) (by omega), r5 b hb, q14d]
      show s 14 (63 * w + 8 + 8 + 8 + 8 + b) = _
      rw [show 63 * w + 8 + 8 + 8 + 8 + b = 63 * w + (32 + b) by omega, h (32 + b) (by omega)]
      unfold enc; rw [if_neg (by omega), if_neg (by omega), if_neg (by omega), if_neg (by omega), if_pos (by omega), show 32 + b - 32 = b by omega]
    exact ⟨t1, t2, t3, t4, t5⟩
  · have t1 : s9 6 g = nI (A 5 g) := by
      rw [p9 6 (by omega) (by omega), p8 6 (by omega) (by omega), p7 6 (by omega) (by omega), r6 g hg, q14e]
      show s 14 (63 * w + 8 + 8 + 8 + 8 + 8 + g) = _
      rw [show 63 * w + 8 + 8 + 8 + 8 + 8 + g = 63 * w + (40 + g) by omega, h (40 + g) (by omega)]
      unfold enc; rw [if_neg (by omega), if_neg (by omega), if_neg (by omega), if_neg (by omega), if_neg (by omega), if_pos (by omega), show 40 + g - 40 = g by omega]
    have t2 : s9 7 g = nI (A 6 g) := by
      rw [p9 7 (by omega) (by omega), p8 7 (by omega) (by omega), r7 g hg, q14f]
      show s 14 (63 * w + 8 + 8 + 8 + 8 + 8 + 5 + g) = _
      rw [show 63 * w + 8 + 8 + 8 + 8 + 8 + 5 + g = 63 * w + (45 + g) by omega, h (45 + g) (by omega)]
      unfold enc; rw [if_neg (by omega), if_neg (by omega), if_neg (by omega), if_neg (by omega), if_neg (by omega), if_neg (by omega), if_pos (by omega), show 45 + g - 45 = g by omega]
    have t3 : s9 8 g = nI (A 7 g) := by
      rw [p9 8 (by omega) (by omega), r8 g hg, q14g]
      show s 14 (63 * w + 8 + 8 + 8 + 8 + 8 + 5 + 5 + g) = _
      rw [show 63 * w + 8 + 8 + 8 + 8 + 8 + 5 + 5 + g = 63 * w + (50 + g) by omega, h (50 + g) (by omega)]
      unfold enc; rw [if_neg (by omega), if_neg (by omega), if_neg (by omega), if_neg (by omega), if_neg (by omega), if_neg (by omega), if_neg (by omega), if_pos (by omega), show 50 + g - 50 = g by omega]
    have t4 : s9 9 g = nI (A 8 g) := by
      rw [r9 g hg, q14h]
      show s 14 (63 * w + 8 + 8 + 8 + 8 + 8 + 5 + 5 + 5 + g) = _
      rw [show 63 * w + 8 + 8 + 8 + 8 + 8 + 5 + 5 + 5 + g = 63 * w + (55 + g) by omega, h (55 + g) (by omega)]
      unfold enc; rw [if_neg (by omega), if_neg (by omega), if_neg (by omega), if_neg (by omega), if_neg (by omega), if_neg (by omega), if_neg (by omega), if_neg (by omega), if_pos (by omega), show 55 + g - 55 = g by omega]
    exact ⟨t1, t2, t3, t4⟩
/-- in thought: what is kept besides, the image among it -/
def KI (s s' : St) : Prop := s' 0 = s 0 ∧ s' 10 = s 10 ∧ (∀ j, j < 63 → s' 14 j = s 14 j) ∧ s' 15 = s 15 ∧ s' 23 3 = s 23 3 ∧ s' 23 6 = s 23 6 ∧ s' 23 9 = s 23 9
theorem KI.rf {s : St} : KI s s := ⟨rfl, rfl, fun _ _ => rfl, rfl, rfl, rfl, rfl⟩
theorem KI.tr {a b c : St} (h : KI a b) (g : KI b c) : KI a c := ⟨g.1.trans h.1, g.2.1.trans h.2.1, fun j hj => (g.2.2.1 j hj).trans (h.2.2.1 j hj), g.2.2.2.1.trans h.2.2.2.1, g.2.2.2.2.1.trans h.2.2.2.2.1, g.2.2.2.2.2.1.trans h.2.2.2.2.2.1, g.2.2.2.2.2.2.trans h.2.2.2.2.2.2⟩
theorem KP.ki {s s' : St} (h : KP s s') : KI s s' := ⟨h.1, h.2.1, fun j _ => congrFun h.2.2.1 j, h.2.2.2.1, h.2.2.2.2.1, h.2.2.2.2.2.1, h.2.2.2.2.2.2⟩
theorem KP.enc {s s' : St} {w : Nat} {A : AS} (h : KP s s') (e : ENC s w A) : ENC s' w A := fun j hj => (congrFun h.2.2.1 _).trans (e j hj)
theorem m_thinks {s : St} {A : AS} (h : RM s A) : ∃ s', f_X8_thinks s = some s' ∧ RM s' A ∧ KI s s' ∧ ENC s' 2 A := by
  obtain ⟨s', e, h1, h2, h3, h4, h5, -, -, -, h6, -, h7, h8, h9⟩ := m_save h (w := 2) (by omega)
  exact ⟨s', by rw [f_X8_thinks, k2, k1]; show (f_X8_passesAll s (nI 2) 1).bind _ = _; rw [e]; rfl, h1, ⟨h3, h4, fun j hj => h9 j (by omega), h5, h6, h7, h8⟩, h2⟩
theorem m_forgets {s : St} {A : AS} (h : ENC s 2 A) : ∃ s', f_X8_forgets s = some s' ∧ RM s' A ∧ KP s s' := by
  obtain ⟨s', e, h1, h2, h3, h4, h5, -, -, -, h6, -, h7, h8⟩ := m_load (w := 2) (by omega) h
  exact ⟨s', by rw [f_X8_forgets, k2]; show (f_X8_passesAll s (nI 2) 0).bind _ = _; rw [e]; rfl, h1, h2, h3, h4, h5, h6, h7, h8⟩
/-! a year goes by -/
theorem if_same0 (f : Nat → Nat) (n i : Nat) (h : f i = 0) : (fun b => if b < i then f b - n else f b) = fun b => if b < i + 1 then f b - n else f b := by
  funext q
  show (if q < i then f q - n else f q) = (if q < i + 1 then f q - n else f q)
  by_cases z : q < i
  · rw [if_pos z, if_pos (by omega)]
  · rw [if_neg z]
    by_cases z2 : q = i
    · subst z2; rw [if_pos (by omega)]; omega
    · rw [if_neg (by omega)]
theorem m_goesYear {s : St} {A : AS} (h : RM s A) (w : WF A) (hy : nY A < 1100) : ∃ s', f_X8_goesYear s = some s' ∧ RM s' (pass A 1) ∧ KP s s' := by
  have hb8 := w.1
  have hg5 := w.2.1
  rw [f_X8_goesYear, FUEL_v, h.2.2.1, k1, nI_add]
  have h0 := RM_Y h (nY A + 1)
  generalize hs0 : sA s 23 (upd (s 23) 2 (nI (nY A + 1))) = s0 at h0
  have kp0 : KP s s0 := by rw [← hs0]; exact ⟨rfl, rfl, rfl, rfl, rfl, rfl, rfl⟩
  generalize hA0 : setA A 9 (upN (A 9) 2 (nY A + 1)) = A0 at h0
  have e0 : ∀ k, k ≠ 9 → A0 k = A k := fun k hk => by rw [← hA0]; exact if_neg hk
  have eB : nB A0 = nB A := by rw [← hA0]; rfl
  have eG : nG A0 = nG A := by rw [← hA0]; rfl
  have pl : ∀ i b, plc (setA A0 3 (fun b => if b < i then A 3 b - 1 else A 3 b)) b = if A 4 b = 1 then 2 else if 0 < (if b < i then A 3 b - 1 else A 3 b) then 1 else 0 := fun i b => by
    unfold plc
    show (if A0 4 b = 1 then _ else _) = _
    rw [e0 4 (by omega)]
    rfl
  obtain ⟨s1, ⟨hv1, kp1⟩, e1⟩ := sloop (L := fun fuel i a => f_X8_goesYear_12 fuel (nI i) a (fun v_1589 => f_X8_goesYear_71 2000 (0 : Int32) v_1589)) (K := fun a => f_X8_goesYear_71 2000 (0 : Int32) a) (B := nB A)
    (fun i a => RM a (setA A0 3 (fun b => if b < i then A 3 b - 1 else A 3 b)) ∧ KP s a)
    (fun f a ha => by
      show f_X8_goesYear_12 (f + 1) _ a _ = _
      rw [f_X8_goesYear_12, ha.1.1]
      show (if nI (nB A0) ≤ _ then _ else _) = _
      rw [eB, if_pos (nI_le (Nat.le_refl _) (by omega))])
    (fun f i a hi ha => by
      obtain ⟨ha, kp⟩ := ha
      obtain ⟨g1, g2, g3, g4, g5⟩ := ha.2.2.2.1 i (by omega)
      have wb := w.2.2.2.1 i (by omega)
      have hq : setA A0 3 (fun b => if b < i then A 3 b - 1 else A 3 b) 3 i = A 3 i := by show (if i < i then _ else _) = _; rw [if_neg (Nat.lt_irrefl i)]
      rw [hq] at g5
      rw [pl, if_neg (Nat.lt_irrefl i)] at g4
      have hhead : f_X8_goesYear_12 (f + 1) (nI i) a (fun v_1589 => f_X8_goesYear_71 2000 (0 : Int32) v_1589) = (if nI (if A 4 i = 1 then 2 else if 0 < A 3 i then 1 else 0) = nI 1 then (if nI (A 3 i) - nI 1 = nI 0 then f_X8_goesYear_12 f (nI i + nI 1) (sA (sA a 5 (upd (a 5) i (nI (A 3 i) - nI 1))) 4 (upd (a 4) i (nI 0))) (fun v_1589 => f_X8_goesYear_71 2000 (0 : Int32) v_1589) else f_X8_goesYear_12 f (nI i + nI 1) (sA (sA a 5 (upd (a 5) i (nI (A 3 i) - nI 1))) 4 (upd (a 4) i (nI 1))) (fun v_1589 => f_X8_goesYear_71 2000 (0 : Int32) v_1589)) else f_X8_goesYear_12 f (nI i + nI 1) a (fun v_1589 => f_X8_goesYear_71 2000 (0 : Int32) v_1589)) := by
        rw [f_X8_goesYear_12, ha.1]
        show (if nI (nB A0) ≤ _ then _ else _) = _
        rw [eB, if_neg (nI_ge hi (by omega))]
        have c8 : i < 8 := by omega
        simp only [gd_in c8 (show 8 < 2 ^ 31 by omega), nI_clamp (show i < 2 ^ 31 by omega), g4, g5, k1, k0, upd, if_pos]
      have hrec : ∀ x, x = nI i + nI 1 → x = nI (i + 1) := fun x hx => by rw [hx]; exact nI_1 i
      rcases (show A 4 i = 0 ∨ A 4 i = 1 by have := wb.2.2.2.2.1; omega) with e4 | e4
      · by_cases e3 : A 3 i = 0
        · refine ⟨a, ⟨?_, kp⟩, ?_⟩
          · exact Eq.mp (congrArg (fun F => RM a (setA A0 3 F)) (if_same0 (A 3) 1 i e3)) ha
          · show f_X8_goesYear_12 (f + 1) _ a _ = f_X8_goesYear_12 f _ a _
            rw [hhead, if_neg (by rw [e4, e3]; decide), nI_add]
        · have hx : nI (A 3 i) - nI 1 = nI (A 3 i - 1) := pk_sub (by omega)
          have hup := fun y (hy : plc (setA A0 3 (fun b => if b < i + 1 then A 3 b - 1 else A 3 b)) i = y) => RM_54 ha (b := i) (x := A 3 i - 1) (y := y) (A' := setA A0 3 (fun b => if b < i + 1 then A 3 b - 1 else A 3 b)) (fun j _ => ⟨rfl, rfl, rfl⟩) (fun j _ => ⟨rfl, rfl, rfl, rfl⟩) rfl (fun j hj hne => ⟨by
              show (if j < i + 1 then _ else _) = (if j < i then _ else _)
              by_cases z : j < i
              · rw [if_pos z, if_pos (by omega)]
              · rw [if_neg z, if_neg (by omega)], rfl⟩) (by show (if i < i + 1 then _ else _) = _; rw [if_pos (by omega)]) hy
          by_cases e31 : A 3 i - 1 = 0
          · refine ⟨_, ⟨hup 0 (by rw [pl, e4, if_neg (by omega), if_pos (show i < i + 1 by omega), e31]; rfl), ?_⟩, ?_⟩
            · exact kp.tr ⟨rfl, rfl, rfl, rfl, rfl, rfl, rfl⟩
            · show f_X8_goesYear_12 (f + 1) _ a _ = f_X8_goesYear_12 f _ _ _
              rw [hhead, if_pos (by rw [e4, if_neg (by omega), if_pos (by omega)]), hx, if_pos (by rw [e31]), nI_add]
          · refine ⟨_, ⟨hup 1 (by rw [pl, e4, if_neg (by omega), if_pos (show i < i + 1 by omega), if_pos (by omega)]), ?_⟩, ?_⟩
            · exact kp.tr ⟨rfl, rfl, rfl, rfl, rfl, rfl, rfl⟩
            · show f_X8_goesYear_12 (f + 1) _ a _ = f_X8_goesYear_12 f _ _ _
              have := wb.2.2.2.1
              rw [hhead, if_pos (by rw [e4, if_neg (by omega), if_pos (by omega)]), hx, if_neg (by rw [nI_eqN (by omega) (by omega)]; exact e31), nI_add]
      · refine ⟨a, ⟨?_, kp⟩, ?_⟩
        · exact Eq.mp (congrArg (fun F => RM a (setA A0 3 F)) (if_same0 (A 3) 1 i (wb.2.2.2.2.2.1 e4))) ha
        · show f_X8_goesYear_12 (f + 1) _ a _ = f_X8_goesYear_12 f _ a _
          rw [hhead, if_neg (by rw [e4, if_pos rfl]; decide), nI_add])
    (nB A) 0 2000 s0 (by omega) (by omega) ⟨by
      refine Eq.mp (congrArg (RM _) ?_) h0
      funext p q
      simp only [setA]
      split
      · rename_i hp; rw [hp, e0 3 (by omega)]; simp
      · rfl, kp0⟩
  have e1' : f_X8_goesYear_12 2000 (0 : Int32) s0 (fun v_1589 => f_X8_goesYear_71 2000 (0 : Int32) v_1589) = f_X8_goesYear_71 2000 (0 : Int32) s1 := e1
  rw [e1']
  clear e1 e1'
  generalize hA1 : setA A0 3 (fun b => if b < nB A then A 3 b - 1 else A 3 b) = A1 at hv1
  have eG1 : nG A1 = nG A := by rw [← hA1]; exact eG
  have e71 : A1 7 = A 7 := by rw [← hA1]; exact e0 7 (by omega)
  obtain ⟨s2, ⟨hv2, kp2⟩, e2⟩ := sloop (L := fun fuel i a => f_X8_goesYear_71 fuel (nI i) a) (K := fun a => some a) (B := nG A)
    (fun i a => RM a (setA A1 7 (fun g => if g < i then A 7 g - 1 else A 7 g)) ∧ KP s a)
    (fun f a ha => by
      show f_X8_goesYear_71 (f + 1) _ a = _
      rw [f_X8_goesYear_71, ha.1.2.1]
      show (if nI (nG A1) ≤ _ then _ else _) = _
      rw [eG1, if_pos (nI_le (Nat.le_refl _) (by omega))])
    (fun f i a hi ha => by
      obtain ⟨ha, kp⟩ := ha
      have hs := (ha.2.2.2.2 i (by omega)).2.2.1
      have hq : setA A1 7 (fun b => if b < i then A 7 b - 1 else A 7 b) 7 i = A 7 i := by show (if i < i then _ else _) = _; rw [if_neg (Nat.lt_irrefl i)]
      rw [hq] at hs
      have hsn := (w.2.2.2.2 i (by omega)).2.2.1
      have c5 : i < 5 := by omega
      refine ⟨sA a 8 (upd (a 8) i (nI (A 7 i - 1))), ⟨?_, kp.tr ⟨rfl, rfl, rfl, rfl, rfl, rfl, rfl⟩⟩, ?_⟩
      · have := RM_8 ha i (A 7 i - 1)
        exact Eq.mp (congrArg (RM _) ((setA_set A1 7 _ _).trans (congrArg (setA A1 7) (up_if (A 7) 1 i)))) this
      · show f_X8_goesYear_71 (f + 1) _ a = f_X8_goesYear_71 f _ _
        rw [f_X8_goesYear_71, ha.2.1]
        show (if nI (nG A1) ≤ _ then _ else _) = _
        rw [eG1, if_neg (nI_ge hi (by omega))]
        simp only [gd_in c5 (show 5 < 2 ^ 31 by omega), nI_clamp (show i < 2 ^ 31 by omega), hs, k1, k0, ifL (show A 7 i < 2 ^ 31 by omega) (show 0 < 2 ^ 31 by omega)]
        by_cases z : A 7 i ≤ 0
        · rw [if_pos z, pk_sub (by omega), nI_add, show A 7 i - 0 = A 7 i - 1 by omega]
        · rw [if_neg z, pk_sub (by omega), nI_add])
    (nG A) 0 2000 s1 (by omega) (by omega) ⟨by
      refine Eq.mp (congrArg (RM _) ?_) hv1
      funext p q
      simp only [setA]
      split
      · rename_i hp; rw [hp, e71]; simp
      · rfl, kp1⟩
  refine ⟨s2, e2, ?_, kp2⟩
  subst hA1
  subst hA0
  refine ⟨hv2.1, hv2.2.1, hv2.2.2.1, fun b hb => ?_, fun g hg => ?_⟩
  · obtain ⟨a1, a2, a3, a4, a5⟩ := hv2.2.2.2.1 b hb
    have t1 : (if b < nB A then A 3 b - 1 else A 3 b) = A 3 b - 1 := by
      split
      · rfl
      · have := ((w.2.2.2.1 b hb).2.2.2.2.2.2 (by omega)).1
        omega
    refine ⟨a1, a2, a3, a4.trans (congrArg nI ?_), a5.trans (congrArg nI t1)⟩
    unfold plc
    show (if A 4 b = 1 then 2 else if 0 < (if b < nB A then A 3 b - 1 else A 3 b) then 1 else 0) = (if A 4 b = 1 then 2 else if 0 < A 3 b - 1 then 1 else 0)
    rw [t1]
  · obtain ⟨a1, a2, a3, a4⟩ := hv2.2.2.2.2 g hg
    refine ⟨a1, a2, a3.trans (congrArg nI ?_), a4⟩
    show (if g < nG A then A 7 g - 1 else A 7 g) = A 7 g - 1
    split
    · rfl
    · have := ((w.2.2.2.2 g hg).2.2.2.2 (by omega)).2
      omega
theorem m_goes {s : St} {A : AS} (h : RM s A) (w : WF A) {n : Nat} (hn : n ≤ 61) (hy : nY A + n ≤ 1100) : ∃ s', f_X8_goes s (nI n) = some s' ∧ RM s' (pass A n) ∧ KP s s' := by
  rw [f_X8_goes, FUEL_v]
  obtain ⟨s', ⟨h1, h2⟩, e⟩ := sloop (L := fun fuel i a => f_X8_goes_2 (nI n) fuel (nI i) a) (K := fun a => some a) (B := n)
    (fun i a => RM a (pass A i) ∧ KP s a)
    (fun f a ha => by
      show f_X8_goes_2 (nI n) (f + 1) _ a = _
      rw [f_X8_goes_2, if_pos (nI_le (Nat.le_refl _) (by omega))])
    (fun f i a hi ha => by
      obtain ⟨s2, q1, q2, q3⟩ := m_goesYear ha.1 (pass_WF w (n := i) (by omega)) (by show nY A + i < 1100; omega)
      rw [pass_add] at q2
      refine ⟨s2, ⟨q2, ha.2.tr q3⟩, ?_⟩
      show f_X8_goes_2 (nI n) (f + 1) _ a = f_X8_goes_2 (nI n) f _ _
      rw [f_X8_goes_2, if_neg (nI_ge hi (by omega)), q1, Option.bind_some, k1, nI_add])
    n 0 2000 s (by omega) (by omega) ⟨by rw [pass_0]; exact h, KP.rf⟩
  exact ⟨s', e, h1, h2⟩
