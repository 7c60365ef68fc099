/-! weddings -/
theorem ifZ {a : Nat} {α : Sort _} {x y : α} (ha : a < 2 ^ 31) : (if nI a = 0 then x else y) = (if a = 0 then x else y) := if_iff (nI_eq (b := 0) ha (by decide))
theorem tb20_m : ∀ m, m < 256 → 0 < m → ∀ d, d < 10 → f_X8_takenBy_20 (nI d) (nI m) = some (oI (els m)[d % cnt m]?) := by decide +kernel
def choice (A : AS) (g : Nat) : Nat := if guess A g 0 = 0 then here A 0 else guess A g 0
def tk (A : AS) (g d : Nat) : Option Nat := (els (choice A g))[d % cnt (choice A g)]?
def canW (A : AS) (g : Nat) : Bool := decide (g < nG A) && (A 8 g == 0 && !(here A 0 == 0))
def wedA (A : AS) (g : Nat) : AS := match know A g 0 with
  | some b => setA A 3 (upN (A 3) b (1 + A 7 g / 3))
  | none => match tk A g (A 7 g) with
    | some t => setA (setA A 4 (upN (A 4) t 1)) 8 (upN (A 8) g 1)
    | none => A
def wedI (A : AS) (g : Nat) : Int32 := match know A g 0 with
  | some b => nI b
  | none => match tk A g (A 7 g) with
    | some t => nI (100 + t)
    | none => -9
theorem choice_lt (A : AS) (g : Nat) : choice A g < 256 := by
  unfold choice
  split
  · exact here_lt A 0
  · exact gs_lt A _ _ _
theorem choice_here {A : AS} {g b : Nat} (h : (choice A g).testBit b = true) : hereB A 0 b = true := by
  unfold choice at h
  split at h
  · rw [here, mk_tb] at h
    simp only [Bool.and_eq_true] at h
    exact h.2
  · rw [guess, gs, mk_tb] at h
    simp only [Bool.and_eq_true, gsB] at h
    exact h.2.1
theorem tk_some {A : AS} {g d : Nat} (h : here A 0 ≠ 0) : ∃ t, tk A g d = some t ∧ t < 8 ∧ hereB A 0 t = true := by
  have hc : choice A g ≠ 0 := by
    unfold choice
    split
    · exact h
    · assumption
  have hpos : 0 < cnt (choice A g) := Nat.pos_of_ne_zero (fun z => hc ((cnt0 _ (choice_lt A g)).mp z))
  have hlt := Nat.mod_lt d hpos
  have he : (els (choice A g))[d % cnt (choice A g)]? = some (els (choice A g))[d % cnt (choice A g)] := List.getElem?_eq_getElem hlt
  obtain ⟨h1, h2⟩ := els_lt (List.mem_of_getElem? he)
  exact ⟨_, he, h1, choice_here h2⟩
theorem canW_s {A : AS} {g : Nat} (h : canW A g = true) : g < nG A ∧ A 8 g = 0 ∧ here A 0 ≠ 0 := by
  simpa [canW] using h
/-- he marries iff he knows none -/
theorem wedI_s {A : AS} {g : Nat} (hc : canW A g = true) : (know A g 0 = none ∧ ∃ t, t < 8 ∧ wedI A g = nI (100 + t)) ∨ ((∃ b, know A g 0 = some b) ∧ ∃ b, b < 8 ∧ wedI A g = nI b) := by
  obtain ⟨-, -, h3⟩ := canW_s hc
  unfold wedI
  cases hk : know A g 0 with
  | none =>
    obtain ⟨t, h1, h2, -⟩ := tk_some (g := g) (d := A 7 g) h3
    exact Or.inl ⟨rfl, t, h2, by rw [h1]⟩
  | some b => exact Or.inr ⟨⟨b, rfl⟩, b, (know_lt hk).1, rfl⟩
theorem wed_WF {A : AS} (w : WF A) {g : Nat} (hc : canW A g = true) : WF (wedA A g) := by
  obtain ⟨c1, c2, c3⟩ := canW_s hc
  have hg5 := w.2.1
  unfold wedA
  cases hk : know A g 0 with
  | some b =>
    obtain ⟨hb, hh⟩ := know_lt hk
    obtain ⟨q1, q2, q3⟩ := hereB_lt hh
    have hl := (w.2.2.2.2 g (by omega)).2.2.1
    refine ⟨w.1, w.2.1, w.2.2.1, fun j hj => ?_, w.2.2.2.2⟩
    obtain ⟨h1, h2, h3, h4, h5, h6, h7⟩ := w.2.2.2.1 j hj
    refine ⟨h1, h2, h3, ?_, h5, ?_, ?_⟩
    · show upN (A 3) b (1 + A 7 g / 3) j ≤ 9
      unfold upN
      split
      · omega
      · exact h4
    · intro z
      have z : A 4 j = 1 := z
      show upN (A 3) b (1 + A 7 g / 3) j = 0
      rw [upN_ne (fun e => by rw [e] at z; omega)]
      exact h6 z
    · intro z
      have z : nB A ≤ j := z
      refine ⟨?_, (h7 z).2⟩
      show upN (A 3) b (1 + A 7 g / 3) j = 0
      rw [upN_ne (fun e => by rw [e] at z; omega)]
      exact (h7 z).1
  | none =>
    obtain ⟨t, h1, h2, h3⟩ := tk_some (g := g) (d := A 7 g) c3
    obtain ⟨q1, q2, q3⟩ := hereB_lt h3
    rw [h1]
    refine ⟨w.1, w.2.1, w.2.2.1, fun j hj => ?_, fun j hj => ?_⟩
    · obtain ⟨h1, h2, h3, h4, h5, h6, h7⟩ := w.2.2.2.1 j hj
      refine ⟨h1, h2, h3, h4, ?_, ?_, ?_⟩
      · show upN (A 4) t 1 j ≤ 1
        unfold upN
        split
        · omega
        · exact h5
      · intro z
        have z : upN (A 4) t 1 j = 1 := z
        show A 3 j = 0
        by_cases e : j = t
        · rw [e]; omega
        · rw [upN_ne e] at z; exact h6 z
      · intro z
        have z : nB A ≤ j := z
        refine ⟨(h7 z).1, ?_⟩
        show upN (A 4) t 1 j = 0
        rw [upN_ne (fun e => by rw [e] at z; omega)]
        exact (h7 z).2
    · obtain ⟨h1, h2, h3, h4, h5⟩ := w.2.2.2.2 j hj
      refine ⟨h1, h2, h3, ?_, ?_⟩
      · show upN (A 8) g 1 j ≤ 1
        unfold upN
        split
        · omega
        · exact h4
      · intro z
        have z : nG A ≤ j := z
        refine ⟨?_, (h5 z).2⟩
        show upN (A 8) g 1 j = 0
        rw [upN_ne (fun e => by rw [e] at z; omega)]
        exact (h5 z).1
theorem orS5 {p : Nat → Bool} {b : Nat} (hb : b < 5) : nI (mk p 5) ||| ((1 : Int32) <<< (nI b &&& 31)) = nI (mk (fun x => p x || x == b) 5) := by
  rw [shl1 b (by omega), nI_or]
  congr 1
  apply tb_ext
  intro i
  rw [Nat.testBit_or, mk_tb, mk_tb, Nat.testBit_two_pow]
  by_cases e : b = i
  · subst e; simp [hb]
  · have hz : (i == b) = false := beq_eq_false_iff_ne.mpr (fun z => e z.symm)
    rw [hz]
    simp [e]
theorem mk_up1 {f : Nat → Nat} {t n : Nat} : mk (fun x => (f x == 1) || x == t) n = mk (fun b => upN f t 1 b == 1) n := mk_congr fun i _ => by
  unfold upN
  by_cases e : i = t
  · simp [e]
  · simp [e]
section CW
variable {v : St} {A : AS}
theorem c_hasGroom (h : RV v A) (w : WF A) {g : Nat} (hg : g < 2 ^ 31) : f_X6_hasGroom v (nI g) = some (nI (if g < nG A then 1 else 0)) := by
  have := w.2.1
  rw [f_X6_hasGroom, if_neg (neg_lt hg), h.2.2.2.1, ifL (by omega) hg]
  by_cases e : nG A ≤ g
  · rw [if_pos e, if_neg (by omega)]; rfl
  · rw [if_neg e, if_pos (by omega)]; rfl
theorem c_canWed (h : RV v A) (w : WF A) {g : Nat} (hg : g < 5) : f_X6_canWed v (nI g) = some (nI (if canW A g = true then 1 else 0)) := by
  have hl := here_lt A 0
  have h8 := (w.2.2.2.2 g hg).2.2.2.1
  rw [f_X6_canWed, c_hasGroom h w (by omega), Option.bind_some, c_isUnmarried h w hg, Option.bind_some, show f_X6_hereThen v 0 = some (nI (here A 0)) from c_hereThen h w (n := 0) (by omega), Option.bind_some, ifZ (a := here A 0) (by omega)]
  unfold canW
  by_cases e1 : g < nG A
  · rw [if_pos e1, if_neg (by decide)]
    rcases (show A 8 g = 0 ∨ A 8 g = 1 by omega) with e | e
    · rw [e, if_neg (by decide)]
      by_cases e2 : here A 0 = 0
      · rw [if_pos e2]; simp [e2]; rfl
      · rw [if_neg e2]; simp [e1, e2, k1]
    · rw [e, if_pos (by decide)]; simp; rfl
  · rw [if_neg e1, if_pos (by decide)]; simp [e1]; rfl
theorem c_choiceFrom (h : RV v A) (w : WF A) {g : Nat} : f_X6_choiceFrom v (nI (guess A g 0)) = some (nI (choice A g)) := by
  have := gs_lt A (A 5 g) (A 6 g) 0
  rw [f_X6_choiceFrom, k0, ifE (by show gs _ _ _ _ < _; omega) (by omega), c_hereThen h w (by omega), Option.bind_some]
  unfold choice
  split <;> rfl
theorem c_wed (h : RV v A) (w : WF A) {g : Nat} (hc : canW A g = true) : ∃ v', f_X6_wed v (nI g) = some (wedI A g, v') ∧ RV v' (wedA A g) := by
  obtain ⟨c1, c2, c3⟩ := canW_s hc
  have hg5 := w.2.1
  have hg : g < 5 := by omega
  have wg := w.2.2.2.2 g hg
  obtain ⟨r1, r2, r3⟩ := h.2.2.2.2.2.2 g hg
  have hki : ∀ b, know A g 0 = some b → b < 2 ^ 31 := fun b hb => by have := (know_lt hb).1; omega
  rw [f_X6_wed, at_in (by omega) hg, r3, Option.bind_some, at_in (by omega) hg, r1, Option.bind_some, k0, c_guessesBy h w hg wg.1 (by omega), Option.bind_some, onlyOne_m _ (gs_lt A _ _ _), Option.bind_some]
  show ∃ v', (if oI (know A g 0) = (-9 : Int32) then _ else _) = _ ∧ _
  rw [if_iff (oI_9 hki)]
  unfold wedI wedA
  cases hk : know A g 0 with
  | none =>
    obtain ⟨t, h1, h2, h3⟩ := tk_some (g := g) (d := A 7 g) c3
    have hl := wg.2.2.1
    have ht : f_X6_takenOf (nI (choice A g)) (nI (A 7 g)) = some (nI t) := by
      rw [takenOf_m _ (choice_lt A g) _ (by omega)]
      show some (oI (tk A g (A 7 g))) = _
      rw [h1]; rfl
    rw [if_pos rfl, c_choiceFrom h w, Option.bind_some, ht, Option.bind_some, if_neg (nI_ne9 (by omega)), h1, k100, nI_add]
    refine ⟨_, rfl, h.1, h.2.1, ?_, h.2.2.2.1, ?_, h.2.2.2.2.2.1, h.2.2.2.2.2.2⟩
    · show v 7 2 ||| ((1 : Int32) <<< (nI t &&& 31)) = _
      rw [h.2.2.1, orS h2, mk_up1]
      rfl
    · show v 7 4 ||| ((1 : Int32) <<< (nI g &&& 31)) = _
      rw [h.2.2.2.2.1, orS5 hg, mk_up1]
      rfl
  | some b =>
    obtain ⟨hb, hh⟩ := know_lt hk
    have hl := wg.2.2.1
    rw [if_neg (by simp), show onlyOf (gs A (A 5 g) (A 6 g) 0) = some b from hk, show oI (some b) = nI b from rfl]
    rw [k3, pk_div (by omega) (by omega) (by omega), k1, nI_add, put_in (by omega) hb, Option.bind_some]
    exact ⟨_, rfl, RV_3 h b _⟩
end CW
section MW
variable {s : St} {A : AS}
theorem m_canWed (h : RM s A) (w : WF A) {g : Nat} (hg : g < nG A) : f_X8_canWed s (nI g) = some (nI (if canW A g = true then 1 else 0)) := by
  have hg5 := w.2.1
  have hl := here_lt A 0
  have h8 := (w.2.2.2.2 g (by omega)).2.2.2.1
  rw [f_X8_canWed, gd_in (by omega) (by omega), nI_clamp (by omega), (h.2.2.2.2 g (by omega)).2.2.2, k0, ifE (by omega) (by omega), m_here h w, Option.bind_some, ifE (by omega) (by omega)]
  unfold canW
  rcases (show A 8 g = 0 ∨ A 8 g = 1 by omega) with e | e
  · rw [if_pos e]
    by_cases e2 : here A 0 = 0
    · rw [if_pos e2]; simp [e2]
    · rw [if_neg e2]; simp [hg, e, e2, k1]
  · rw [if_neg (by omega)]; simp [e]
theorem m_takenBy (h : RM s A) (w : WF A) {g d : Nat} (hg : g < 5) (hd : d < 10) (hne : here A 0 ≠ 0) : f_X8_takenBy s (nI g) (nI d) = some (oI (tk A g d)) := by
  have hl := gs_lt A (A 5 g) (A 6 g) 0
  have hc : 0 < choice A g := by
    unfold choice
    split
    · omega
    · omega
  rw [f_X8_takenBy, m_guesses h w hg, Option.bind_some, Option.bind_some, k0, ifE (by show gs _ _ _ _ < _; omega) (by omega), m_here h w, Option.bind_some]
  have := tb20_m _ (choice_lt A g) hc d hd
  unfold choice at this
  unfold tk choice
  split
  · rename_i e; simpa [e] using this
  · rename_i e; simpa [e] using this
theorem m_weds (h : RM s A) (w : WF A) {g : Nat} (hc : canW A g = true) : ∃ s', f_X8_weds s (nI g) = some (wedI A g, s') ∧ RM s' (wedA A g) ∧ KP s s' := by
  obtain ⟨c1, c2, c3⟩ := canW_s hc
  have hg5 := w.2.1
  have hg : g < 5 := by omega
  have wg := w.2.2.2.2 g hg
  obtain ⟨r1, r2, r3, r4⟩ := h.2.2.2.2 g hg
  have hl := wg.2.2.1
  have hki : ∀ b, know A g 0 = some b → b < 2 ^ 31 := fun b hb => by have := (know_lt hb).1; omega
  rw [f_X8_weds, m_knows h w hg, Option.bind_some, if_iff (oI_neg hki), gd_in hg (by omega), gd_in hg (by omega), nI_clamp (by omega), r3]
  unfold wedI wedA
  cases hk : know A g 0 with
  | none =>
    obtain ⟨t, h1, h2, h3⟩ := tk_some (g := g) (d := A 7 g) c3
    obtain ⟨q1, q2, q3⟩ := hereB_lt h3
    rw [if_pos rfl, m_takenBy h w hg (by omega) c3, Option.bind_some, h1, oI, gd_in h2 (by omega), gd_in hg (by omega), nI_clamp (by omega), k100, nI_add]
    refine ⟨_, rfl, ⟨h.1, h.2.1, h.2.2.1, fun j hj => ?_, fun j hj => ?_⟩, ⟨rfl, rfl, rfl, rfl, rfl, rfl, rfl⟩⟩
    · obtain ⟨g1, g2, g3, g4, g5⟩ := h.2.2.2.1 j hj
      refine ⟨g1, g2, g3, ?_, g5⟩
      show upd (s 4) t (nI 2) j = nI (if upN (A 4) t 1 j = 1 then 2 else if 0 < A 3 j then 1 else 0)
      unfold upd upN
      by_cases e : j = t
      · rw [if_pos e, if_pos e, if_pos rfl]
      · rw [if_neg e, if_neg e, g4]; rfl
    · obtain ⟨g1, g2, g3, g4⟩ := h.2.2.2.2 j hj
      exact ⟨g1, g2, g3, up_same (x := 1) g4⟩
  | some b =>
    obtain ⟨hb, hh⟩ := know_lt hk
    obtain ⟨q1, q2, q3⟩ := hereB_lt hh
    rw [if_neg (by simp)]
    show ∃ s', (f_X8_sends s (nI b) _).bind _ = _ ∧ _
    rw [k3, pk_div (by omega) (by omega) (by omega), k1, nI_add, f_X8_sends, gd_in hb (by omega), gd_in hb (by omega), nI_clamp (by omega), Option.bind_some]
    refine ⟨_, rfl, ⟨h.1, h.2.1, h.2.2.1, fun j hj => ?_, h.2.2.2.2⟩, ⟨rfl, rfl, rfl, rfl, rfl, rfl, rfl⟩⟩
    obtain ⟨g1, g2, g3, g4, g5⟩ := h.2.2.2.1 j hj
    refine ⟨g1, g2, g3, ?_, up_same g5⟩
    show upd (s 4) b (nI 1) j = nI (if A 4 j = 1 then 2 else if 0 < upN (A 3) b (1 + A 7 g / 3) j then 1 else 0)
    unfold upd upN
    by_cases e : j = b
    · rw [if_pos e, if_pos e, if_neg (by rw [e]; omega), if_pos (by omega)]
    · rw [if_neg e, if_neg e, g4]; rfl
end MW
/-- all weddings, by grooms below i: the valley then, how many marry, are sent home -/
def wa (A : AS) : Nat → AS × Nat × Nat
  | 0 => (A, 0, 0)
  | i + 1 => if canW (wa A i).1 i = true then (match know (wa A i).1 i 0 with | some _ => (wedA (wa A i).1 i, (wa A i).2.1, (wa A i).2.2 + 1) | none => (wedA (wa A i).1 i, (wa A i).2.1 + 1, (wa A i).2.2)) else wa A i
theorem wedA_9 (A : AS) (g : Nat) : wedA A g 9 = A 9 := by
  unfold wedA
  cases know A g 0 with
  | some b => rfl
  | none => cases tk A g (A 7 g) <;> rfl
theorem wa_9 (A : AS) : ∀ i, (wa A i).1 9 = A 9
  | 0 => rfl
  | i + 1 => by
    have ih := wa_9 A i
    unfold wa
    split
    · cases know (wa A i).1 i 0 with
      | some b => exact (wedA_9 _ _).trans ih
      | none => exact (wedA_9 _ _).trans ih
    · exact ih
theorem wa_le (A : AS) : ∀ i, (wa A i).2.1 + (wa A i).2.2 ≤ i
  | 0 => Nat.le_refl _
  | i + 1 => by
    have ih := wa_le A i
    unfold wa
    split
    · cases know (wa A i).1 i 0 with
      | some b => show (wa A i).2.1 + ((wa A i).2.2 + 1) ≤ _; omega
      | none => show (wa A i).2.1 + 1 + (wa A i).2.2 ≤ _; omega
    · omega
theorem wa_WF {A : AS} (w : WF A) : ∀ i, WF (wa A i).1
  | 0 => w
  | i + 1 => by
    have ih := wa_WF w i
    unfold wa
    split
    · rename_i hc
      cases know (wa A i).1 i 0 with
      | some b => exact wed_WF ih hc
      | none => exact wed_WF ih hc
    · exact ih
theorem c_wedAll {v : St} {A : AS} (h : RV v A) (w : WF A) (what : Nat) (hw : what < 2) : ∃ v', f_X6_wedAll v (nI what) = some (nI (if what = 0 then (wa A (nG A)).2.1 else (wa A (nG A)).2.2), v') ∧ RV v' (wa A (nG A)).1 := by
  have hg5 := w.2.1
  rw [f_X6_wedAll, FUEL_v]
  obtain ⟨⟨x, y, v'⟩, ⟨h1, h2, h3⟩, e⟩ := sloop (α := Int32 × Int32 × St) (L := fun fuel i a => f_X6_wedAll_7 fuel a.1 a.2.1 (nI i) a.2.2 (fun x2_862 x3_863 v_864 => (if nI what = 0 then some (x2_862, v_864) else some (x3_863, v_864)))) (K := fun a => (if nI what = 0 then some (a.1, a.2.2) else some (a.2.1, a.2.2))) (B := nG A)
    (fun i a => a.1 = nI (wa A i).2.1 ∧ a.2.1 = nI (wa A i).2.2 ∧ RV a.2.2 (wa A i).1)
    (fun f a ha => by
      have e9 : nG (wa A (nG A)).1 = nG A := congrFun (wa_9 A _) 1
      show f_X6_wedAll_7 (f + 1) _ _ _ _ _ = _
      rw [f_X6_wedAll_7, ha.2.2.2.2.2.1, e9, if_pos (nI_le (Nat.le_refl _) (by omega))])
    (fun f i a hi ha => by
      obtain ⟨a1, a2, a3⟩ := ha
      have e9 : nG (wa A i).1 = nG A := congrFun (wa_9 A _) 1
      have wi := wa_WF w i
      have hhead : f_X6_wedAll_7 (f + 1) a.1 a.2.1 (nI i) a.2.2 (fun x2_862 x3_863 v_864 => (if nI what = 0 then some (x2_862, v_864) else some (x3_863, v_864))) = (if nI (if canW (wa A i).1 i = true then 1 else 0) = 0 then f_X6_wedAll_7 f a.1 a.2.1 (nI i + 1) a.2.2 (fun x2_862 x3_863 v_864 => (if nI what = 0 then some (x2_862, v_864) else some (x3_863, v_864))) else (f_X6_wed a.2.2 (nI i)).bind (fun q => (if q.1 < (100 : Int32) then f_X6_wedAll_7 f a.1 (a.2.1 + 1) (nI i + 1) q.2 (fun x2_862 x3_863 v_864 => (if nI what = 0 then some (x2_862, v_864) else some (x3_863, v_864))) else f_X6_wedAll_7 f (a.1 + 1) a.2.1 (nI i + 1) q.2 (fun x2_862 x3_863 v_864 => (if nI what = 0 then some (x2_862, v_864) else some (x3_863, v_864)))))) := by
        rw [f_X6_wedAll_7, a3.2.2.2.1, e9, if_neg (nI_ge hi (by omega)), c_canWed a3 wi (by omega), Option.bind_some]
      by_cases hc : canW (wa A i).1 i = true
      · obtain ⟨v2, e2, h2⟩ := c_wed a3 wi hc
        rcases wedI_s hc with ⟨hk, t, ht, hI⟩ | ⟨⟨b0, hk⟩, b, hb, hI⟩
        · refine ⟨(a.1 + 1, a.2.1, v2), ?_, ?_⟩
          · unfold wa
            rw [if_pos hc, hk]
            exact ⟨by show a.1 + 1 = _; rw [a1, k1, nI_add], a2, h2⟩
          · show f_X6_wedAll_7 (f + 1) _ _ _ _ _ = f_X6_wedAll_7 f (a.1 + 1) a.2.1 (nI (i + 1)) v2 _
            rw [hhead, if_pos hc, if_neg (by decide), e2, Option.bind_some]
            dsimp only
            rw [hI, k100, ifLt (by omega) (by omega), if_neg (by omega), k1, nI_add]
        · refine ⟨(a.1, a.2.1 + 1, v2), ?_, ?_⟩
          · unfold wa
            rw [if_pos hc, hk]
            exact ⟨a1, by show a.2.1 + 1 = _; rw [a2, k1, nI_add], h2⟩
          · show f_X6_wedAll_7 (f + 1) _ _ _ _ _ = f_X6_wedAll_7 f a.1 (a.2.1 + 1) (nI (i + 1)) v2 _
            rw [hhead, if_pos hc, if_neg (by decide), e2, Option.bind_some]
            dsimp only
            rw [hI, k100, ifLt (by omega) (by omega), if_pos (by omega), k1, nI_add]
      · refine ⟨a, ?_, ?_⟩
        · unfold wa
          rw [if_neg hc]
          exact ⟨a1, a2, a3⟩
        · show f_X6_wedAll_7 (f + 1) _ _ _ _ _ = f_X6_wedAll_7 f a.1 a.2.1 (nI (i + 1)) a.2.2 _
          rw [hhead, if_neg hc, if_pos (show nI 0 = 0 by decide), k1, nI_add])
    (nG A) 0 2000 (0, 0, v) (by omega) (by omega) ⟨rfl, rfl, h⟩
  refine ⟨v', e.trans ?_, h3⟩
  dsimp only at h1 h2 ⊢
  rw [h1, h2, k0, ifE (by omega) (by omega)]
  split <;> rfl
theorem m_wedsAll {s : St} {A : AS} (h : RM s A) (w : WF A) : ∃ s', f_X8_wedsAll s = some (nI (100 * (wa A (nG A)).2.1 + (wa A (nG A)).2.2), s') ∧ RM s' (wa A (nG A)).1 ∧ KP s s' := by
  have hg5 := w.2.1
  rw [f_X8_wedsAll, FUEL_v]
  obtain ⟨⟨x, s'⟩, ⟨h1, h2, h3⟩, e⟩ := sloop (α := Int32 × St) (L := fun fuel i a => f_X8_wedsAll_4 fuel a.1 (nI i) a.2) (K := fun a => some (a.1, a.2)) (B := nG A)
    (fun i a => a.1 = nI (100 * (wa A i).2.1 + (wa A i).2.2) ∧ RM a.2 (wa A i).1 ∧ KP s a.2)
    (fun f a ha => by
      have e9 : nG (wa A (nG A)).1 = nG A := congrFun (wa_9 A _) 1
      show f_X8_wedsAll_4 (f + 1) _ _ _ = _
      rw [f_X8_wedsAll_4, ha.2.1.2.1, e9, if_pos (nI_le (Nat.le_refl _) (by omega))])
    (fun f i a hi ha => by
      obtain ⟨a1, a2, a3⟩ := ha
      have e9 : nG (wa A i).1 = nG A := congrFun (wa_9 A _) 1
      have wi := wa_WF w i
      have hhead : f_X8_wedsAll_4 (f + 1) a.1 (nI i) a.2 = (if nI (if canW (wa A i).1 i = true then 1 else 0) = 0 then f_X8_wedsAll_4 f a.1 (nI i + 1) a.2 else (f_X8_weds a.2 (nI i)).bind (fun q => (if q.1 < (100 : Int32) then f_X8_wedsAll_4 f (a.1 + 1) (nI i + 1) q.2 else f_X8_wedsAll_4 f (a.1 + (100 : Int32)) (nI i + 1) q.2))) := by
        rw [f_X8_wedsAll_4, a2.2.1, e9, if_neg (nI_ge hi (by omega)), m_canWed a2 wi (by omega), Option.bind_some]
      by_cases hc : canW (wa A i).1 i = true
      · obtain ⟨v2, e2, h2, h3⟩ := m_weds a2 wi hc
        rcases wedI_s hc with ⟨hk, t, ht, hI⟩ | ⟨⟨b0, hk⟩, b, hb, hI⟩
        · refine ⟨(a.1 + 100, v2), ?_, ?_⟩
          · unfold wa
            rw [if_pos hc, hk]
            exact ⟨by show a.1 + 100 = nI (100 * ((wa A i).2.1 + 1) + (wa A i).2.2); rw [a1, k100, nI_add]; congr 1; omega, h2, a3.tr h3⟩
          · show f_X8_wedsAll_4 (f + 1) _ _ _ = f_X8_wedsAll_4 f (a.1 + 100) (nI (i + 1)) v2
            rw [hhead, if_pos hc, if_neg (by decide), e2, Option.bind_some]
            dsimp only
            rw [hI, k100, ifLt (by omega) (by omega), if_neg (by omega), k1, nI_add]
        · refine ⟨(a.1 + 1, v2), ?_, ?_⟩
          · unfold wa
            rw [if_pos hc, hk]
            exact ⟨by show a.1 + 1 = nI (100 * (wa A i).2.1 + ((wa A i).2.2 + 1)); rw [a1, k1, nI_add]; rfl, h2, a3.tr h3⟩
          · show f_X8_wedsAll_4 (f + 1) _ _ _ = f_X8_wedsAll_4 f (a.1 + 1) (nI (i + 1)) v2
            rw [hhead, if_pos hc, if_neg (by decide), e2, Option.bind_some]
            dsimp only
            rw [hI, k100, ifLt (by omega) (by omega), if_pos (by omega), k1, nI_add]
      · refine ⟨a, ?_, ?_⟩
        · unfold wa
          rw [if_neg hc]
          exact ⟨a1, a2, a3⟩
        · show f_X8_wedsAll_4 (f + 1) _ _ _ = f_X8_wedsAll_4 f a.1 (nI (i + 1)) a.2
          rw [hhead, if_neg hc, if_pos (show nI 0 = 0 by decide), k1, nI_add])
    (nG A) 0 2000 (0, s) (by omega) (by omega) ⟨rfl, h, KP.rf⟩
  refine ⟨s', e.trans ?_, h2, h3⟩
  dsimp only at h1 ⊢
  rw [h1]
