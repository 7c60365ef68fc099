/-! pairs: the class -/
def mhB (A : AS) (g b : Nat) : Bool := A 8 g == 0 && (hereB A 0 b && !(know A g 0 == some b))
def pP (A : AS) (l b : Nat) : Bool := mhB A (nG A - l) b
theorem mhB_ge {A : AS} {g b : Nat} (h : nB A ≤ b) : mhB A g b = false := by
  unfold mhB
  rw [hereB_ge h, Bool.false_and, Bool.and_false]
theorem clr_tb : ∀ b, b < 8 → ∀ i, i < 8 → (255 ^^^ 2 ^ b).testBit i = !(i == b) := by decide
theorem clr : ∀ m, m < 256 → ∀ b, b < 8 → nI m &&& (((1 : Int32) <<< (nI b &&& 31)) ^^^ (-1 : Int32)) = nI (m &&& (255 ^^^ 2 ^ b)) := by decide +kernel
theorem not8 : ∀ x, x < 256 → ∀ u, u < 256 → nI x &&& (nI u ^^^ (-1 : Int32)) = nI (x &&& (255 ^^^ u)) := by decide +kernel
theorem clr_lt {m b : Nat} (h : m < 256) : m &&& (255 ^^^ 2 ^ b) < 256 := Nat.lt_of_le_of_lt Nat.and_le_left h
theorem clr_fun {m b : Nat} (h : m < 256) (hb : b < 8) : (fun i => (m &&& (255 ^^^ 2 ^ b)).testBit i) = del (fun i => m.testBit i) b := by
  funext i
  show (m &&& (255 ^^^ 2 ^ b)).testBit i = (m.testBit i && !(i == b))
  rw [Nat.testBit_and]
  by_cases hi : i < 8
  · rw [clr_tb b hb i hi]
  · rw [tb256 h (by omega), Bool.false_and, Bool.false_and]
theorem mk8_lt (p : Nat → Bool) : mk p 8 < 256 := mk_le8 p (Nat.le_refl 8)
theorem clr_mk (F : Nat → Bool) {b : Nat} (hb : b < 8) : mk F 8 &&& (255 ^^^ 2 ^ b) = mk (del F b) 8 := tb_ext fun i => by
  rw [Nat.testBit_and, mk_tb, mk_tb]
  by_cases hi : i < 8
  · rw [clr_tb b hb i hi, decide_eq_true hi, Bool.true_and, Bool.true_and] <;> rfl
  · rw [decide_eq_false hi, Bool.false_and, Bool.false_and, Bool.false_and]
theorem b255 : ∀ i, i < 8 → (255 : Nat).testBit i = true := by decide
theorem not_mk (q F : Nat → Bool) : nI (mk q 8) &&& (nI (mk (fun b => !F b) 8) ^^^ (-1 : Int32)) = nI (mk (fun b => q b && F b) 8) := by
  rw [not8 _ (mk8_lt _) _ (mk8_lt _)]
  congr 1
  apply tb_ext
  intro i
  rw [Nat.testBit_and, Nat.testBit_xor, mk_tb, mk_tb, mk_tb]
  by_cases hi : i < 8
  · rw [b255 i hi, decide_eq_true hi]
    cases q i <;> cases F i <;> rfl
  · rw [decide_eq_false hi, Bool.false_and, Bool.false_and, Bool.false_and]
theorem or_mk (p q : Nat → Bool) : nI (mk p 8) ||| nI (mk q 8) = nI (mk (fun b => p b || q b) 8) := by
  rw [nI_or]
  congr 1
  apply tb_ext
  intro i
  rw [Nat.testBit_or, mk_tb, mk_tb, mk_tb]
  cases decide (i < 8) <;> rfl
theorem mk_f {p : Nat → Bool} : ∀ n, (∀ i, i < n → p i = false) → mk p n = 0
  | 0, _ => rfl
  | n + 1, h => by
    rw [mk_n (h n (by omega)), mk_f n (fun i hi => h i (by omega))]
