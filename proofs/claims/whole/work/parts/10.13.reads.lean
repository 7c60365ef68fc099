/-! reads: the reference's, and those of both that ask for who is known -/
theorem gd_in {α : Type} {i n : Nat} {x : Option α} (hi : i < n) (hn : n < 2 ^ 31) : gd (inB (nI i) n) x = x := by
  rw [inB_nI (by omega), decide_eq_true hi, gd, if_pos rfl]
theorem gdT {α : Type} {b : Bool} {x : Option α} (h : b = true) : gd b x = x := by rw [gd, if_pos h]
theorem xaz {s t a : Nat} : (s ^^^ t) &&& a = 0 ↔ s &&& a = t &&& a := by
  rw [Nat.and_xor_distrib_right]
  constructor
  · intro h
    apply Nat.eq_of_testBit_eq
    intro i
    have := congrArg (fun z => z.testBit i) h
    simp only [Nat.testBit_xor, Nat.zero_testBit] at this
    revert this
    cases (s &&& a).testBit i <;> cases (t &&& a).testBit i <;> simp
  · intro h
    rw [h, Nat.xor_self]
theorem els_lt {m j : Nat} (h : j ∈ els m) : j < 8 ∧ m.testBit j = true := by
  simp only [els, List.mem_filter, List.mem_range] at h
  exact h
theorem onlyOf_lt {m j : Nat} (h : onlyOf m = some j) : j < 8 ∧ m.testBit j = true := by
  unfold onlyOf at h
  split at h
  · exact els_lt (List.mem_of_getElem? h)
  · cases h
theorem cnt0 : ∀ m, m < 256 → (cnt m = 0 ↔ m = 0) := by decide +kernel
theorem cnt_le : ∀ m, m < 256 → cnt m ≤ 8 := by decide +kernel
theorem know_lt {A : AS} {g n b : Nat} (h : know A g n = some b) : b < 8 ∧ hereB A n b = true := by
  have h1 := (onlyOf_lt h).1
  have h2 : (gs A (A 5 g) (A 6 g) n).testBit b = true := (onlyOf_lt h).2
  rw [gs, mk_tb] at h2
  simp only [Bool.and_eq_true, gsB] at h2
  exact ⟨h1, h2.2.1⟩
theorem hereB_lt {A : AS} {n b : Nat} (h : hereB A n b = true) : b < nB A ∧ A 4 b = 0 ∧ A 3 b ≤ n := by
  simpa [hereB] using h
theorem oI_neg {o : Option Nat} (h : ∀ b, o = some b → b < 2 ^ 31) : (oI o < 0) ↔ (o = none) := by
  cases o with
  | none => simp [oI]
  | some b =>
    have := h b rfl
    simp [oI, nI_pos this]
theorem oI_9 {o : Option Nat} (h : ∀ b, o = some b → b < 2 ^ 31) : (oI o = (-9 : Int32)) ↔ (o = none) := by
  cases o with
  | none => simp [oI]
  | some b =>
    have := h b rfl
    simp [oI, nI_ne9 this]
/-- who is known by some unmarried groom -/
def kbI (A : AS) (i b : Nat) : Bool := (List.range i).any (fun g => A 8 g == 0 && know A g 0 == some b)
def kb (A : AS) : Nat := mk (kbI A (nG A)) 8
theorem kb_lt (A : AS) : kb A < 256 := mk_le8 _ (Nat.le_refl 8)
theorem kbI_s (A : AS) (i b : Nat) : kbI A (i + 1) b = (kbI A i b || (A 8 i == 0 && know A i 0 == some b)) := by
  simp [kbI, List.range_succ]
/-- one bit more in a whole mask -/
theorem orS {p : Nat → Bool} {b : Nat} (hb : b < 8) : nI (mk p 8) ||| ((1 : Int32) <<< (nI b &&& 31)) = nI (mk (fun x => p x || x == b) 8) := by
  rw [shl1 b (by omega), nI_or]
  congr 1
  apply tb_ext
  intro i
  rw [Nat.testBit_or, mk_tb, mk_tb, Nat.testBit_two_pow]
  by_cases e : b = i
  · subst e; simp [hb]
  · have hz : (i == b) = false := beq_eq_false_iff_ne.mpr (fun z => e z.symm)
    rw [hz]
    simp [e]
theorem or0 (x : Int32) : x ||| (0 : Int32) = x := by
  apply Int32.toBitVec_inj.mp
  simp
section CV2
variable {v : St} {A : AS}
theorem c_isUnmarried (h : RV v A) (w : WF A) {g : Nat} (hg : g < 5) : f_X6_isUnmarried v (nI g) = some (nI (if A 8 g = 1 then 0 else 1)) := by
  have hm : mk (fun g => A 8 g == 1) 5 < 256 := mk_le8 _ (by omega)
  rw [f_X6_isUnmarried, h.2.2.2.2.1, has_m _ hm g (by omega), Option.bind_some, mk_tb]
  by_cases e : A 8 g = 1 <;> simp [e, hg, k0, nI_eqN, k1]
theorem c_knownBits (h : RV v A) (w : WF A) : f_X6_knownBits v = some (nI (kb A)) := by
  have hg5 := w.2.1
  have hG := h.2.2.2.1
  rw [f_X6_knownBits, FUEL_v, kb]
  refine iloop (L := fun fuel i a => f_X6_knownBits_4 v fuel a (nI i)) (a := fun i => nI (mk (kbI A i) 8)) (B := nG A) ?_ ?_ (nG A) 0 2000 (by omega) (by omega)
  · intro f
    show f_X6_knownBits_4 v (f + 1) _ _ = _
    rw [f_X6_knownBits_4, hG, if_pos (nI_le (Nat.le_refl _) (by omega))]
  · intro f i hi
    show f_X6_knownBits_4 v (f + 1) _ _ = f_X6_knownBits_4 v f _ _
    have wg := w.2.2.2.2 i (by omega)
    have hki : ∀ b, know A i 0 = some b → b < 2 ^ 31 := fun b hb => by have := (know_lt hb).1; omega
    rw [f_X6_knownBits_4, hG, if_neg (nI_ge hi (by omega)), c_isUnmarried h w (by omega), Option.bind_some]
    rcases (show A 8 i = 0 ∨ A 8 i = 1 by have := wg.2.2.2.1; omega) with e | e
    · rw [if_neg (by rw [e]; decide), k0, c_knows h w (by omega) (by omega), Option.bind_some, f_X6_knownBits_31, if_iff (oI_9 hki)]
      cases hk : know A i 0 with
      | none =>
        rw [if_pos rfl, k1, nI_add]
        have : mk (kbI A (i + 1)) 8 = mk (kbI A i) 8 := mk_congr fun b _ => by rw [kbI_s, hk]; simp
        rw [this]
      | some b =>
        rw [if_neg (by simp), oI, orS (know_lt hk).1, k1, nI_add]
        have : mk (kbI A (i + 1)) 8 = mk (fun x => kbI A i x || x == b) 8 := mk_congr fun x _ => by
          rw [kbI_s, hk, e, show (some b == some x) = (x == b) from (show (some b == some x) = (b == x) from rfl).trans BEq.comm]
          simp
        rw [this]
    · rw [if_pos (by rw [e]; decide), f_X6_knownBits_31, if_pos rfl, k1, nI_add]
      have : mk (kbI A (i + 1)) 8 = mk (kbI A i) 8 := mk_congr fun b _ => by rw [kbI_s, e]; simp
      rw [this]
end CV2
section MV
variable {s : St} {A : AS}
theorem m_sisterly (h : RM s A) {b : Nat} (hb : b < 8) : f_X8_sisterly s (nI b) = some (nI (A 2 (b - 1))) := by
  rw [f_X8_sisterly]
  by_cases h0 : b = 0
  · subst h0
    rw [if_pos (show nI 0 = 0 by decide)]
    exact congrArg some (h.2.2.2.1 0 (by omega)).2.2.1
  · rw [if_neg (by rw [k0, nI_eqN (by omega) (by omega)]; exact h0), k1, pk_sub (by omega), gd_in (by omega) (by omega), nI_clamp (by omega)]
    exact congrArg some (h.2.2.2.1 (b - 1) (by omega)).2.2.1
theorem m_showsOf (h : RM s A) (w : WF A) {b : Nat} (hb : b < 8) : f_X8_showsOf s (nI b) = some (nI (shows_ A b 0)) := by
  obtain ⟨e1, e2, e3, -⟩ := h.2.2.2.1 b hb
  have hY := h.2.2.1
  have hYb := w.2.2.1
  have wb := w.2.2.2.1 b hb
  have hown := wb.2.2.1
  have hsl := (w.2.2.2.1 (b - 1) (by omega)).2.2.1
  have hpow := pow_lt64 (k := A 1 b)
  have hxo := xor_lt hown hpow
  have hfg : nI (A 2 b) ^^^ ((1 : Int32) <<< ((nI (A 1 b) - nI (A 1 b) / (6 : Int32) * (6 : Int32)) &&& 31)) = nI (A 2 b ^^^ 2 ^ (A 1 b % 6)) := by
    have := wb.2.1
    rw [k6, nI_rem (by omega) (by omega) (by omega), shl1 _ (by have := Nat.mod_lt (A 1 b) (show 6 > 0 by omega); omega), nI_xor]
  have key : ∀ ch, ch < 64 → ch = (if (nY A + 0) % 2 = 1 then A 2 b ^^^ 2 ^ (A 1 b % 6) else A 2 b) → f_X8_showsOf_39 s (nI b) (nI (A 2 b ^^^ 2 ^ (A 1 b % 6))) (nI ch) = some (nI (shows_ A b 0)) := by
    intro ch hch hc
    have hk := wb.1
    have hc' : (if nY A % 2 = 1 then A 2 b ^^^ 2 ^ (A 1 b % 6) else A 2 b) = ch := hc.symm
    have hgd : ∀ x : Option Int32, gd (inB (nI b) 8) x = x := fun x => gd_in hb (by omega)
    have e30 : nI ch &&& (30 : Int32) = nI (ch &&& 30) := nI_and ch 30
    rw [f_X8_showsOf_39, gd_in hb (by omega), nI_clamp (by omega), e1, m_sisterly h hb, gd_in hb (by omega), e3, e30]
    simp only [k1, k2, k3, k4, k5, Option.bind_some]
    rcases (show A 0 b = 0 ∨ A 0 b = 1 ∨ A 0 b = 2 ∨ A 0 b = 3 ∨ A 0 b = 4 ∨ A 0 b = 5 by omega) with e | e | e | e | e | e <;> simp [e, nI_eqN, showsK, hc', hgd, nI_xor]
  rw [f_X8_showsOf, gd_in hb (by omega), gd_in hb (by omega), gd_in hb (by omega), nI_clamp (by omega), e2, e3, hfg, hY, k2, nI_rem (by omega) (by omega) (by omega), k1, ifE (by have := Nat.mod_lt (nY A) (show 2 > 0 by omega); omega) (by omega)]
  by_cases hp : nY A % 2 = 1
  · rw [if_pos hp]
    exact key _ hxo (by rw [Nat.add_zero, if_pos hp])
  · rw [if_neg hp]
    exact key _ hown (by rw [Nat.add_zero, if_neg hp])
theorem plc0 {A : AS} {b : Nat} (w : WB A b) : (plc A b = 0) ↔ (A 4 b = 0 ∧ A 3 b = 0) := by
  unfold plc
  have := w.2.2.2.2.1
  split
  · simp; omega
  · split <;> simp <;> omega
theorem plc_le {A : AS} {b : Nat} : plc A b ≤ 2 := by
  unfold plc
  split
  · omega
  · split <;> omega
theorem m_here (h : RM s A) (w : WF A) : f_X8_here s = some (nI (here A 0)) := by
  have hb8 := w.1
  rw [f_X8_here, FUEL_v, here, ← mk_B hb8 (fun i hi => hereB_ge hi)]
  refine iloop (L := fun fuel i a => f_X8_here_4 s fuel a (nI i)) (a := fun i => nI (mk (hereB A 0) i)) (B := nB A) ?_ ?_ (nB A) 0 2000 (by omega) (by omega)
  · intro f
    show f_X8_here_4 s (f + 1) _ _ = _
    rw [f_X8_here_4, h.1, if_pos (nI_le (Nat.le_refl _) (by omega))]
  · intro f i hi
    show f_X8_here_4 s (f + 1) _ _ = f_X8_here_4 s f _ _
    have wb := w.2.2.2.1 i (by omega)
    have hpl := plc_le (A := A) (b := i)
    rw [f_X8_here_4, h.1, if_neg (nI_ge hi (by omega)), gd_in (by omega) (by omega), nI_clamp (by omega), (h.2.2.2.1 i (by omega)).2.2.2.1, or0, k0, ifE (by omega) (by omega), if_iff (plc0 wb), k1, nI_add]
    by_cases e : A 4 i = 0 ∧ A 3 i = 0
    · have hp : hereB A 0 i = true := by simp [hereB, hi, e.1, e.2]
      have := orB (p := hereB A 0) (i := i) (by omega)
      rw [k1] at this
      rw [if_pos e, mk_s hp, this]
    · have hp : hereB A 0 i = false := by
        cases hq : hereB A 0 i with
        | false => rfl
        | true => obtain ⟨-, q1, q2⟩ := hereB_lt hq; exact absurd ⟨q1, by omega⟩ e
      rw [if_neg e, mk_n hp]
theorem m_guessesBy (h : RM s A) (w : WF A) {a t : Nat} (ha : a < 64) (ht : t < 64) : f_X8_guessesBy s (nI a) (nI t) = some (nI (gs A a t 0)) := by
  have hb8 := w.1
  rw [f_X8_guessesBy, FUEL_v, gs, ← mk_B hb8 (fun i hi => gsB_ge hi)]
  refine iloop (L := fun fuel i x => f_X8_guessesBy_5 s (nI a) (nI t) fuel x (nI i)) (a := fun i => nI (mk (gsB A a t 0) i)) (B := nB A) ?_ ?_ (nB A) 0 2000 (by omega) (by omega)
  · intro f
    show f_X8_guessesBy_5 s _ _ (f + 1) _ _ = _
    rw [f_X8_guessesBy_5, h.1, if_pos (nI_le (Nat.le_refl _) (by omega))]
  · intro f i hi
    show f_X8_guessesBy_5 s _ _ (f + 1) _ _ = f_X8_guessesBy_5 s _ _ f _ _
    have wb := w.2.2.2.1 i (by omega)
    have hpl := plc_le (A := A) (b := i)
    have hsm : (shows_ A i 0 ^^^ t) &&& a < 2 ^ 31 := Nat.lt_of_le_of_lt Nat.and_le_right (by omega)
    rw [f_X8_guessesBy_5, h.1, if_neg (nI_ge hi (by omega)), gd_in (by omega) (by omega), nI_clamp (by omega), (h.2.2.2.1 i (by omega)).2.2.2.1, or0, m_showsOf h w (by omega), Option.bind_some, nI_xor, nI_and, k0, ifE hsm (by omega), if_iff xaz, ifE (by omega) (by omega), if_iff (plc0 wb), k1, nI_add]
    by_cases e : A 4 i = 0 ∧ A 3 i = 0
    · have hh : hereB A 0 i = true := by simp [hereB, hi, e.1, e.2]
      rw [if_pos e]
      by_cases e2 : shows_ A i 0 &&& a = t &&& a
      · have hp : gsB A a t 0 i = true := by simp [gsB, hh, e2]
        have := orB (p := gsB A a t 0) (i := i) (by omega)
        rw [k1] at this
        rw [if_pos e2, mk_s hp, this]
      · have hp : gsB A a t 0 i = false := by simp [gsB, e2]
        rw [if_neg e2, mk_n hp]
    · have hp : gsB A a t 0 i = false := by
        cases hq : hereB A 0 i with
        | false => simp [gsB, hq]
        | true => obtain ⟨-, q1, q2⟩ := hereB_lt hq; exact absurd ⟨q1, by omega⟩ e
      rw [if_neg e, mk_n hp]
theorem m_guesses (h : RM s A) (w : WF A) {g : Nat} (hg : g < 5) : f_X8_guesses s (nI g) = some (nI (guess A g 0)) := by
  have wg := w.2.2.2.2 g hg
  obtain ⟨e1, e2, -⟩ := h.2.2.2.2 g hg
  rw [f_X8_guesses, gd_in hg (by omega), gd_in hg (by omega), nI_clamp (by omega), e1, e2, m_guessesBy h w wg.1 wg.2.1, Option.bind_some]
theorem m_knows (h : RM s A) (w : WF A) {g : Nat} (hg : g < 5) : f_X8_knows s (nI g) = some (oI (know A g 0)) := by
  have hlt := gs_lt A (A 5 g) (A 6 g) 0
  have hc := cnt_le _ hlt
  rw [f_X8_knows, m_guesses h w hg, Option.bind_some, bits_m _ hlt, Option.bind_some, k1, ifE (by omega) (by omega)]
  unfold know onlyOf
  by_cases e : cnt (guess A g 0) = 1
  · rw [if_pos e, if_pos e, lowest_m _ hlt (by
      rcases Nat.eq_zero_or_pos (guess A g 0) with z | z
      · rw [(cnt0 _ hlt).mpr z] at e; omega
      · exact z), Option.bind_some]
  · rw [if_neg e, if_neg e]
    rfl
theorem m_knownOnes (h : RM s A) (w : WF A) : f_X8_knownOnes s = some (nI (kb A)) := by
  have hg5 := w.2.1
  rw [f_X8_knownOnes, FUEL_v, kb]
  refine iloop (L := fun fuel i a => f_X8_knownOnes_4 s fuel a (nI i)) (a := fun i => nI (mk (kbI A i) 8)) (B := nG A) ?_ ?_ (nG A) 0 2000 (by omega) (by omega)
  · intro f
    show f_X8_knownOnes_4 s (f + 1) _ _ = _
    rw [f_X8_knownOnes_4, h.2.1, if_pos (nI_le (Nat.le_refl _) (by omega))]
  · intro f i hi
    show f_X8_knownOnes_4 s (f + 1) _ _ = f_X8_knownOnes_4 s f _ _
    have wg := w.2.2.2.2 i (by omega)
    have hm8 := wg.2.2.2.1
    have hki : ∀ b, know A i 0 = some b → b < 2 ^ 31 := fun b hb => by have := (know_lt hb).1; omega
    rw [f_X8_knownOnes_4, h.2.1, if_neg (nI_ge hi (by omega)), gd_in (by omega) (by omega), nI_clamp (by omega), (h.2.2.2.2 i (by omega)).2.2.2, k0, ifE (by omega) (by omega)]
    rcases (show A 8 i = 0 ∨ A 8 i = 1 by omega) with e | e
    · rw [if_pos e, m_knows h w (by omega), Option.bind_some, f_X8_knownOnes_31, if_iff (oI_neg hki)]
      cases hk : know A i 0 with
      | none =>
        rw [if_pos rfl, k1, nI_add, or0]
        have : mk (kbI A (i + 1)) 8 = mk (kbI A i) 8 := mk_congr fun b _ => by rw [kbI_s, hk]; simp
        rw [this]
      | some b =>
        rw [if_neg (by simp), oI, orS (know_lt hk).1, k1, nI_add]
        have : mk (kbI A (i + 1)) 8 = mk (fun x => kbI A i x || x == b) 8 := mk_congr fun x _ => by
          rw [kbI_s, hk, e, show (some b == some x) = (x == b) from (show (some b == some x) = (b == x) from rfl).trans BEq.comm]
          simp
        rw [this]
    · rw [if_neg (by omega), f_X8_knownOnes_31, if_pos (by decide), k1, nI_add, or0]
      have : mk (kbI A (i + 1)) 8 = mk (kbI A i) 8 := mk_congr fun b _ => by rw [kbI_s, e]; simp
      rw [this]
end MV
