/-! what a valley is: kinds 0, figures 1, feet 2, years sent 3, married brides 4, looks 5, minds 6, liquor 7, married grooms 8, and how many brides, grooms, the year 9 -/
abbrev AS : Type := Nat → Nat → Nat
def setA (A : AS) (k : Nat) (g : Nat → Nat) : AS := fun j => if j = k then g else A j
def upN (f : Nat → Nat) (k x : Nat) : Nat → Nat := fun j => if j = k then x else f j
abbrev nB (A : AS) : Nat := A 9 0
abbrev nG (A : AS) : Nat := A 9 1
abbrev nY (A : AS) : Nat := A 9 2
def WB (A : AS) (b : Nat) : Prop := A 0 b ≤ 5 ∧ A 1 b ≤ 9 ∧ A 2 b < 64 ∧ A 3 b ≤ 9 ∧ A 4 b ≤ 1 ∧ (A 4 b = 1 → A 3 b = 0) ∧ (nB A ≤ b → A 3 b = 0 ∧ A 4 b = 0)
def WG (A : AS) (g : Nat) : Prop := A 5 g < 64 ∧ A 6 g < 64 ∧ A 7 g ≤ 9 ∧ A 8 g ≤ 1 ∧ (nG A ≤ g → A 8 g = 0 ∧ A 7 g = 0)
def WF (A : AS) : Prop := nB A ≤ 8 ∧ nG A ≤ 5 ∧ nY A ≤ 1100 ∧ (∀ b, b < 8 → WB A b) ∧ ∀ g, g < 5 → WG A g
/-- the class's valley -/
def RV (v : St) (A : AS) : Prop :=
  v 7 0 = nI (nY A) ∧ v 7 1 = nI (nB A) ∧ v 7 2 = nI (mk (fun b => A 4 b == 1) 8) ∧ v 7 3 = nI (nG A) ∧ v 7 4 = nI (mk (fun g => A 8 g == 1) 5) ∧
  (∀ b, b < 8 → v 0 b = nI (A 0 b) ∧ v 1 b = nI (A 1 b) ∧ v 2 b = nI (A 2 b) ∧ v 3 b = nI (A 3 b)) ∧ ∀ g, g < 5 → v 4 g = nI (A 5 g) ∧ v 5 g = nI (A 6 g) ∧ v 6 g = nI (A 7 g)
/-- where a bride is: here, sent, married -/
def plc (A : AS) (b : Nat) : Nat := if A 4 b = 1 then 2 else if 0 < A 3 b then 1 else 0
/-- the reference's -/
def RM (s : St) (A : AS) : Prop :=
  s 23 0 = nI (nB A) ∧ s 23 1 = nI (nG A) ∧ s 23 2 = nI (nY A) ∧
  (∀ b, b < 8 → s 1 b = nI (A 0 b) ∧ s 2 b = nI (A 1 b) ∧ s 3 b = nI (A 2 b) ∧ s 4 b = nI (plc A b) ∧ s 5 b = nI (A 3 b)) ∧ ∀ g, g < 5 → s 6 g = nI (A 5 g) ∧ s 7 g = nI (A 6 g) ∧ s 8 g = nI (A 7 g) ∧ s 9 g = nI (A 8 g)
def showsK (A : AS) (b k fg n : Nat) : Nat :=
  if k = 1 then A 2 (b - 1) else if k = 2 then A 2 b ^^^ 2 ^ (fg % 6) else if k = 3 then (if (nY A + n) % 2 = 1 then A 2 b ^^^ 2 ^ (fg % 6) else A 2 b)
  else if k = 4 then A 2 (b - 1) ^^^ A 2 b else if k = 5 then (if (nY A + n) % 2 = 1 then A 2 b ^^^ 2 ^ (fg % 6) else A 2 b) &&& 30 else A 2 b
abbrev shows_ (A : AS) (b n : Nat) : Nat := showsK A b (A 0 b) (A 1 b) n
def hereB (A : AS) (n b : Nat) : Bool := decide (b < nB A) && (A 4 b == 0 && decide (A 3 b ≤ n))
def here (A : AS) (n : Nat) : Nat := mk (hereB A n) 8
def gsB (A : AS) (at_ toes n b : Nat) : Bool := hereB A n b && (shows_ A b n &&& at_ == toes &&& at_)
def gs (A : AS) (at_ toes n : Nat) : Nat := mk (gsB A at_ toes n) 8
abbrev guess (A : AS) (g n : Nat) : Nat := gs A (A 5 g) (A 6 g) n
def know (A : AS) (g n : Nat) : Option Nat := onlyOf (guess A g n)
theorem here_lt (A : AS) (n : Nat) : here A n < 256 := mk_le8 _ (Nat.le_refl 8)
theorem gs_lt (A : AS) (a t n : Nat) : gs A a t n < 256 := mk_le8 _ (Nat.le_refl 8)
theorem mk_B {p : Nat → Bool} {B : Nat} (hB : B ≤ 8) (h : ∀ i, B ≤ i → p i = false) : mk p B = mk p 8 := mk_ext fun i => by
  by_cases h1 : i < B
  · simp [h1, show i < 8 by omega]
  · simp [h1, h i (by omega)]
theorem hereB_ge {A : AS} {n i : Nat} (h : nB A ≤ i) : hereB A n i = false := by simp [hereB, Nat.not_lt.mpr h]
theorem gsB_ge {A : AS} {a t n i : Nat} (h : nB A ≤ i) : gsB A a t n i = false := by simp [gsB, hereB_ge h]
/-! the class reads -/
theorem at_in {N : Nat} {f : Nat → Int32} {i : Nat} (hN : N < 1000) (hi : i < N) : f_X7_at N f (nI i) = some (f i) := by
  rw [f_X7_at, if_neg (neg_lt (by omega)), nI_o, if_neg (by rw [nI_leN (by omega) (by omega)]; omega), inB_nI (by omega), decide_eq_true hi, gd, if_pos rfl, nI_clamp (by omega)]
theorem put_in {N : Nat} {f : Nat → Int32} {i : Nat} {x : Int32} (hN : N < 1000) (hi : i < N) : f_X7_put N f (nI i) x = some (upd f i x) := by
  rw [f_X7_put, if_neg (neg_lt (by omega)), nI_o, if_neg (by rw [nI_leN (by omega) (by omega)]; omega), inB_nI (by omega), decide_eq_true hi, gd, if_pos rfl, nI_clamp (by omega)]
theorem xor_lt {a b : Nat} (ha : a < 64) (hb : b < 64) : a ^^^ b < 64 := Nat.xor_lt_two_pow (n := 6) ha hb
theorem pow_lt64 {k : Nat} : 2 ^ (k % 6) < 64 := Nat.lt_of_lt_of_le (Nat.pow_lt_pow_right (by omega) (Nat.mod_lt k (by omega))) (by decide)
theorem and34 : ∀ x, x < 64 → nI x &&& (-34 : Int32) = nI (x &&& 30) := by decide +kernel
section CV
variable {v : St} {A : AS}
theorem c_showsAs (h : RV v A) (w : WF A) {b k fg n : Nat} (hb : b < 8) (hk : k ≤ 5) (hf : fg ≤ 9) (hn : n ≤ 1100) : f_X6_showsAs v (nI b) (nI k) (nI fg) (nI n) = some (nI (showsK A b k fg n)) := by
  obtain ⟨hY, -, -, -, -, hBr, -⟩ := h
  have hYb := w.2.2.1
  have own := (hBr b hb).2.2.1
  have hown := (w.2.2.2.1 b hb).2.2.1
  have hsis := (hBr (b - 1) (by omega)).2.2.1
  have hpow := pow_lt64 (k := fg)
  have hxo := xor_lt hown hpow
  have hfg : nI (A 2 b) ^^^ ((1 : Int32) <<< ((nI fg - nI fg / (6 : Int32) * (6 : Int32)) &&& 31)) = nI (A 2 b ^^^ 2 ^ (fg % 6)) := by
    rw [k6, nI_rem (by omega) (by omega) (by omega), shl1 _ (by have := Nat.mod_lt fg (show 6 > 0 by omega); omega), nI_xor]
  have key : f_X6_showsAs_29 v (nI k) (nI fg) (nI n) (nI (A 2 b)) (nI (A 2 (b - 1))) = some (nI (showsK A b k fg n)) := by
    rw [f_X6_showsAs_29, hY, hfg, nI_add, k2, nI_rem (by omega) (by omega) (by omega), k1, ifE (by have := Nat.mod_lt (nY A + n) (show 2 > 0 by omega); omega) (by omega)]
    have e34 := and34 (A 2 b) hown
    have e34x := and34 _ hxo
    by_cases hp : (nY A + n) % 2 = 1
    · rw [if_pos hp, f_X6_showsAs_62]
      simp only [k1, k2, k3, k4, k5]
      rcases (show k = 0 ∨ k = 1 ∨ k = 2 ∨ k = 3 ∨ k = 4 ∨ k = 5 by omega) with rfl | rfl | rfl | rfl | rfl | rfl <;> simp [nI_eqN, showsK, hp, nI_xor, e34x]
    · rw [if_neg hp, f_X6_showsAs_62]
      simp only [k1, k2, k3, k4, k5]
      rcases (show k = 0 ∨ k = 1 ∨ k = 2 ∨ k = 3 ∨ k = 4 ∨ k = 5 by omega) with rfl | rfl | rfl | rfl | rfl | rfl <;> simp [nI_eqN, showsK, hp, nI_xor, e34]
  rw [f_X6_showsAs, at_in (by omega) hb, own, Option.bind_some]
  by_cases h0 : b = 0
  · subst h0
    rw [if_pos (by decide)]
    exact key
  · rw [if_neg (by rw [k0, nI_leN (by omega) (by omega)]; omega), k1, pk_sub (by omega), at_in (by omega) (by omega), hsis, Option.bind_some]
    exact key
theorem c_hereThen (h : RV v A) (w : WF A) {n : Nat} (hn : n ≤ 1100) : f_X6_hereThen v (nI n) = some (nI (here A n)) := by
  obtain ⟨-, hB, hM, -, -, hBr, -⟩ := h
  have hb8 := w.1
  rw [f_X6_hereThen, FUEL_v, here, ← mk_B hb8 (fun i hi => hereB_ge hi)]
  refine iloop (L := fun fuel i a => f_X6_hereThen_4 v (nI n) fuel a (nI i)) (a := fun i => nI (mk (hereB A n) i)) (B := nB A) ?_ ?_ (nB A) 0 2000 (by omega) (by omega)
  · intro f
    show f_X6_hereThen_4 v (nI n) (f + 1) _ _ = _
    rw [f_X6_hereThen_4, hB, if_pos (nI_le (Nat.le_refl _) (by omega))]
  · intro f i hi
    show f_X6_hereThen_4 v (nI n) (f + 1) _ _ = f_X6_hereThen_4 v (nI n) f _ _
    have wb := w.2.2.2.1 i (by omega)
    rw [f_X6_hereThen_4, hB, if_neg (nI_ge hi (by omega)), hM, has_m _ (mk_le8 _ (Nat.le_refl 8)) i (by omega), Option.bind_some, mk_tb, at_in (by omega) (by omega), (hBr i (by omega)).2.2.2, Option.bind_some, k1, nI_add, ifLt (by omega) (by have := wb.2.2.2.1; omega)]
    rcases (show A 4 i = 0 ∨ A 4 i = 1 by have := wb.2.2.2.2.1; omega) with e | e
    · by_cases e3 : A 3 i ≤ n
      · have hp : hereB A n i = true := by simp [hereB, hi, e, e3]
        have := orB (p := hereB A n) (i := i) (by omega)
        rw [k1] at this
        simp [e, Nat.not_lt.mpr e3, mk_s hp, this, k0, nI_eqN]
      · have hp : hereB A n i = false := by simp [hereB, e3]
        simp [e, Nat.lt_of_not_le e3, mk_n hp, k0, nI_eqN]
    · have hp : hereB A n i = false := by simp [hereB, e]
      simp [e, show i < 8 by omega, mk_n hp, k0, nI_eqN]
theorem c_guessesBy (h : RV v A) (w : WF A) {g look n : Nat} (hg : g < 5) (hl : look < 64) (hn : n ≤ 1100) : f_X6_guessesBy v (nI g) (nI look) (nI n) = some (nI (gs A look (A 6 g) n)) := by
  have h' := h
  obtain ⟨-, hB, -, -, -, hBr, hGr⟩ := h
  have hb8 := w.1
  rw [f_X6_guessesBy, at_in (by omega) hg, (hGr g hg).2.1, Option.bind_some, c_hereThen h' w hn, Option.bind_some, nI_and, FUEL_v, gs, ← mk_B hb8 (fun i hi => gsB_ge hi)]
  refine iloop (L := fun fuel i a => f_X6_guessesBy_25 v (nI look) (nI n) (nI (A 6 g &&& look)) (nI (here A n)) fuel a (nI i)) (a := fun i => nI (mk (gsB A look (A 6 g) n) i)) (B := nB A) ?_ ?_ (nB A) 0 2000 (by omega) (by omega)
  · intro f
    show f_X6_guessesBy_25 v _ _ _ _ (f + 1) _ _ = _
    rw [f_X6_guessesBy_25, hB, if_pos (nI_le (Nat.le_refl _) (by omega))]
  · intro f i hi
    show f_X6_guessesBy_25 v _ _ _ _ (f + 1) _ _ = f_X6_guessesBy_25 v _ _ _ _ f _ _
    have wb := w.2.2.2.1 i (by omega)
    have hsh : shows_ A i n &&& look < 64 := Nat.lt_of_le_of_lt Nat.and_le_right hl
    have hmd : A 6 g &&& look < 64 := Nat.lt_of_le_of_lt Nat.and_le_right hl
    rw [f_X6_guessesBy_25, hB, if_neg (nI_ge hi (by omega)), at_in (by omega) (by omega), (hBr i (by omega)).1, Option.bind_some, at_in (by omega) (by omega), (hBr i (by omega)).2.1, Option.bind_some, c_showsAs h' w (by omega) wb.1 wb.2.1 hn, Option.bind_some, has_m _ (here_lt A n) i (by omega), Option.bind_some, here, mk_tb, k1, nI_add, nI_and, ifE (Nat.lt_trans hsh (by decide)) (Nat.lt_trans hmd (by decide))]
    have hor := orB (p := gsB A look (A 6 g) n) (i := i) (by omega)
    rw [k1] at hor
    have h8 : i < 8 := by omega
    cases hh : hereB A n i with
    | false =>
      have hp : gsB A look (A 6 g) n i = false := by simp [gsB, hh]
      simp [h8, mk_n hp, k0, nI_eqN]
    | true =>
      by_cases e : shows_ A i n &&& look = A 6 g &&& look
      · have hp : gsB A look (A 6 g) n i = true := by simp [gsB, hh, e]
        simp [h8, e, mk_s hp, hor, k0, nI_eqN]
      · have hp : gsB A look (A 6 g) n i = false := by simp [gsB, e]
        simp [h8, e, mk_n hp, k0, nI_eqN]
theorem c_guesses (h : RV v A) (w : WF A) {g n : Nat} (hg : g < 5) (hn : n ≤ 1100) : f_X6_guesses v (nI g) (nI n) = some (nI (guess A g n)) := by
  rw [f_X6_guesses, at_in (by omega) hg, (h.2.2.2.2.2.2 g hg).1, Option.bind_some, c_guessesBy h w hg (w.2.2.2.2 g hg).1 hn, Option.bind_some]
theorem c_knows (h : RV v A) (w : WF A) {g n : Nat} (hg : g < 5) (hn : n ≤ 1100) : f_X6_knows v (nI g) (nI n) = some (oI (know A g n)) := by
  rw [f_X6_knows, at_in (by omega) hg, (h.2.2.2.2.2.2 g hg).1, Option.bind_some, c_guessesBy h w hg (w.2.2.2.2 g hg).1 hn, Option.bind_some, onlyOne_m _ (gs_lt A _ _ _), Option.bind_some]
  rfl
end CV
