/-! PURE PART: small numbers, masks, loops -/
theorem nI_o (n : Nat) : Int32.ofNat n = nI n := rfl
theorem k0 : (0 : Int32) = nI 0 := rfl
theorem k1 : (1 : Int32) = nI 1 := rfl
theorem k2 : (2 : Int32) = nI 2 := rfl
theorem k3 : (3 : Int32) = nI 3 := rfl
theorem k4 : (4 : Int32) = nI 4 := rfl
theorem k5 : (5 : Int32) = nI 5 := rfl
theorem k6 : (6 : Int32) = nI 6 := rfl
theorem k7 : (7 : Int32) = nI 7 := rfl
theorem k8 : (8 : Int32) = nI 8 := rfl
theorem k9 : (9 : Int32) = nI 9 := rfl
theorem k10 : (10 : Int32) = nI 10 := rfl
theorem k32 : (32 : Int32) = nI 32 := rfl
theorem k60 : (60 : Int32) = nI 60 := rfl
theorem k63 : (63 : Int32) = nI 63 := rfl
theorem k64 : (64 : Int32) = nI 64 := rfl
theorem k99 : (99 : Int32) = nI 99 := rfl
theorem k100 : (100 : Int32) = nI 100 := rfl
theorem k999 : (999 : Int32) = nI 999 := rfl
theorem inB_nI {i n : Nat} (hi : i < 2 ^ 31) : inB (nI i) n = decide (i < n) := by
  have h := nI_toInt hi
  have h0 : decide (0 ≤ (nI i).toInt) = true := by rw [h]; exact decide_eq_true (by omega)
  unfold inB
  rw [h0, h, Bool.true_and]
  exact decide_eq_decide.mpr (by omega)
theorem nI_leN {a b : Nat} (ha : a < 2 ^ 31) (hb : b < 2 ^ 31) : (nI a ≤ nI b) = (a ≤ b) := propext (nI_leI ha hb)
theorem nI_ltN {a b : Nat} (ha : a < 2 ^ 31) (hb : b < 2 ^ 31) : (nI a < nI b) = (a < b) := propext (nI_ltI ha hb)
theorem nI_eqN {a b : Nat} (ha : a < 2 ^ 31) (hb : b < 2 ^ 31) : (nI a = nI b) = (a = b) := propext (nI_eq ha hb)
theorem if_iff {c d : Prop} [Decidable c] [Decidable d] (h : c ↔ d) {α : Sort _} {x y : α} : (if c then x else y) = (if d then x else y) := by
  by_cases hc : c
  · rw [if_pos hc, if_pos (h.mp hc)]
  · rw [if_neg hc, if_neg (fun z => hc (h.mpr z))]
theorem ifE {a b : Nat} {α : Sort _} {x y : α} (ha : a < 2 ^ 31) (hb : b < 2 ^ 31) : (if nI a = nI b then x else y) = (if a = b then x else y) := if_iff (nI_eq ha hb)
theorem ifL {a b : Nat} {α : Sort _} {x y : α} (ha : a < 2 ^ 31) (hb : b < 2 ^ 31) : (if nI a ≤ nI b then x else y) = (if a ≤ b then x else y) := if_iff (nI_leI ha hb)
theorem ifLt {a b : Nat} {α : Sort _} {x y : α} (ha : a < 2 ^ 31) (hb : b < 2 ^ 31) : (if nI a < nI b then x else y) = (if a < b then x else y) := if_iff (nI_ltI ha hb)
theorem nI_and (a b : Nat) : nI a &&& nI b = nI (a &&& b) := by
  apply Int32.toBitVec_inj.mp
  simp [nI]
theorem nI_xor (a b : Nat) : nI a ^^^ nI b = nI (a ^^^ b) := by
  apply Int32.toBitVec_inj.mp
  simp [nI]
theorem nI_or (a b : Nat) : nI a ||| nI b = nI (a ||| b) := by
  apply Int32.toBitVec_inj.mp
  simp [nI]
theorem shl1 : ∀ i, i < 31 → (1 : Int32) <<< (nI i &&& 31) = nI (2 ^ i) := by decide +kernel
theorem nI_rem {a d : Nat} (ha : a < 2 ^ 31) (h0 : 0 < d) (hd : d < 2 ^ 31) : nI a - nI a / nI d * nI d = nI (a % d) := pk_rem ha h0 hd
theorem neg_lt {n : Nat} (h : n < 2 ^ 31) : ¬ nI n < 0 := nI_pos h
theorem nI_ne9 {n : Nat} (h : n < 2 ^ 31) : ¬ nI n = (-9 : Int32) := by
  intro q
  have a := nI_toInt h
  rw [q] at a
  have : ((-9 : Int32)).toInt = -9 := by decide
  omega
theorem nI_inj {a b : Nat} (ha : a < 2 ^ 31) (hb : b < 2 ^ 31) (h : nI a = nI b) : a = b := (nI_eq ha hb).mp h
/-! masks -/
def mk (p : Nat → Bool) : Nat → Nat
  | 0 => 0
  | n + 1 => mk p n + (if p n then 2 ^ n else 0)
theorem mk_lt (p : Nat → Bool) : ∀ n, mk p n < 2 ^ n
  | 0 => by simp [mk]
  | n + 1 => by
    have h := mk_lt p n
    have e : 2 ^ (n + 1) = 2 ^ n + 2 ^ n := by rw [Nat.pow_succ]; omega
    unfold mk
    split <;> omega
theorem mk_congr {p q : Nat → Bool} : ∀ {n : Nat}, (∀ i, i < n → p i = q i) → mk p n = mk q n
  | 0, _ => rfl
  | n + 1, h => by
    unfold mk
    rw [mk_congr (fun i hi => h i (by omega)), h n (by omega)]
theorem mk_tb (p : Nat → Bool) : ∀ n i, (mk p n).testBit i = (decide (i < n) && p i)
  | 0, i => by simp [mk]
  | n + 1, i => by
    have hlt := mk_lt p n
    unfold mk
    by_cases hp : p n = true
    · rw [if_pos hp, Nat.add_comm]
      by_cases hi : i = n
      · subst hi
        rw [Nat.testBit_two_pow_add_eq, mk_tb p i i]
        simp [hp]
      · rcases Nat.lt_or_gt_of_ne hi with h | h
        · rw [Nat.testBit_two_pow_add_gt h, mk_tb p n i]
          simp [h, Nat.lt_succ_of_lt h]
        · rw [Nat.testBit_lt_two_pow]
          · have : ¬ i < n + 1 := by omega
            simp [this]
          · have e : 2 ^ (n + 1) ≤ 2 ^ i := Nat.pow_le_pow_right (by omega) h
            have e2 : 2 ^ (n + 1) = 2 ^ n + 2 ^ n := by rw [Nat.pow_succ]; omega
            omega
    · rw [if_neg hp, Nat.add_zero, mk_tb p n i]
      by_cases hi : i = n
      · subst hi; simp [hp]
      · by_cases h : i < n
        · simp [h, Nat.lt_succ_of_lt h]
        · have : ¬ i < n + 1 := by omega
          simp [h, this]
theorem mk_le8 (p : Nat → Bool) {n : Nat} (h : n ≤ 8) : mk p n < 256 := Nat.lt_of_lt_of_le (mk_lt p n) (Nat.pow_le_pow_right (by omega) h)
theorem tb_ext {a b : Nat} (h : ∀ i, a.testBit i = b.testBit i) : a = b := Nat.eq_of_testBit_eq h
theorem mk_ext {p q : Nat → Bool} {n m : Nat} (h : ∀ i, (decide (i < n) && p i) = (decide (i < m) && q i)) : mk p n = mk q m := tb_ext fun i => by rw [mk_tb, mk_tb]; exact h i
theorem tb256 {m i : Nat} (h : m < 256) (hi : 8 ≤ i) : m.testBit i = false := Nat.testBit_lt_two_pow (Nat.lt_of_lt_of_le h (Nat.pow_le_pow_right (n := 2) (by omega) hi))
theorem mk_self {m n : Nat} (h : m < 2 ^ n) : mk (fun i => m.testBit i) n = m := tb_ext fun i => by
  rw [mk_tb]
  by_cases hi : i < n
  · simp [hi]
  · have := Nat.testBit_lt_two_pow (Nat.lt_of_lt_of_le h (Nat.pow_le_pow_right (n := 2) (by omega) (Nat.le_of_not_lt hi)))
    simp [hi, this]
/-- one more bit -/
theorem orB {p : Nat → Bool} {i : Nat} (hi : i < 31) : nI (mk p i) ||| ((1 : Int32) <<< (nI i &&& 31)) = nI (mk p i + 2 ^ i) := by
  rw [shl1 i hi, nI_or]
  congr 1
  have h := mk_lt p i
  have e := Nat.two_pow_add_eq_or_of_lt h 1
  rw [Nat.mul_one] at e
  rw [Nat.or_comm, ← e, Nat.add_comm]
theorem mk_s {p : Nat → Bool} {i : Nat} (h : p i = true) : mk p (i + 1) = mk p i + 2 ^ i := by simp [mk, h]
theorem mk_n {p : Nat → Bool} {i : Nat} (h : p i = false) : mk p (i + 1) = mk p i := by simp [mk, h]
/-- the places of a mask's bits -/
def els (m : Nat) : List Nat := (List.range 8).filter (fun i => m.testBit i)
def cnt (m : Nat) : Nat := (els m).length
/-- an answer that may be nobody -/
def oI : Option Nat → Int32
  | some i => nI i
  | none => -9
def onlyOf (m : Nat) : Option Nat := if cnt m = 1 then (els m)[0]? else none
/-! loops -/
def upto {α : Type} (step : Nat → α → α) : Nat → Nat → α → α
  | _, 0, a => a
  | i, k + 1, a => upto step (i + 1) k (step i a)
/-- a counting loop without an early end: i to B -/
theorem cloop {α R : Type} {L : Nat → Nat → α → R} {K : α → R} {step : Nat → α → α} {B : Nat} {I : Nat → α → Prop}
    (hend : ∀ n a, I B a → L (n + 1) B a = K a) (hstep : ∀ n i a, i < B → I i a → L (n + 1) i a = L n (i + 1) (step i a) ∧ I (i + 1) (step i a)) :
    ∀ (k i fuel : Nat) (a : α), i + k = B → k < fuel → I i a → ∃ a', I B a' ∧ L fuel i a = K a' ∧ a' = upto step i k a
  | 0, i, fuel, a, h1, h2, hI => by
    obtain ⟨f, rfl⟩ : ∃ f, fuel = f + 1 := ⟨fuel - 1, by omega⟩
    have : i = B := by omega
    subst this
    exact ⟨a, hI, hend f a hI, rfl⟩
  | k + 1, i, fuel, a, h1, h2, hI => by
    obtain ⟨f, rfl⟩ : ∃ f, fuel = f + 1 := ⟨fuel - 1, by omega⟩
    obtain ⟨e, hI2⟩ := hstep f i a (by omega) hI
    rw [e]
    obtain ⟨a', h3, h4, h5⟩ := cloop hend hstep k (i + 1) f (step i a) (by omega) (by omega) hI2
    exact ⟨a', h3, h4, h5⟩
/-- a counting loop with an invariant that tells all: no state but what the invariant says -/
theorem iloop {α R : Type} {L : Nat → Nat → α → R} {a : Nat → α} {B : Nat} {r : R}
    (hend : ∀ n, L (n + 1) B (a B) = r) (hstep : ∀ n i, i < B → L (n + 1) i (a i) = L n (i + 1) (a (i + 1))) :
    ∀ (k i fuel : Nat), i + k = B → k < fuel → L fuel i (a i) = r
  | 0, i, fuel, h1, h2 => by
    obtain ⟨f, rfl⟩ : ∃ f, fuel = f + 1 := ⟨fuel - 1, by omega⟩
    have : i = B := by omega
    subst this
    exact hend f
  | k + 1, i, fuel, h1, h2 => by
    obtain ⟨f, rfl⟩ : ∃ f, fuel = f + 1 := ⟨fuel - 1, by omega⟩
    rw [hstep f i (by omega)]
    exact iloop hend hstep k (i + 1) f (by omega) (by omega)
/-- the first place with p, from i on, k places -/
def first (p : Nat → Bool) : Nat → Nat → Option Nat
  | _, 0 => none
  | i, k + 1 => if p i then some i else first p (i + 1) k
/-- a loop that ends at the first place with p -/
theorem floop {R : Type} {L : Nat → Nat → R} {p : Nat → Bool} {B : Nat} {none_ : R} {some_ : Nat → R}
    (hend : ∀ n, L (n + 1) B = none_) (hyes : ∀ n i, i < B → p i = true → L (n + 1) i = some_ i) (hno : ∀ n i, i < B → p i = false → L (n + 1) i = L n (i + 1)) :
    ∀ (k i fuel : Nat), i + k = B → k < fuel → L fuel i = (match first p i k with | some j => some_ j | none => none_)
  | 0, i, fuel, h1, h2 => by
    obtain ⟨f, rfl⟩ : ∃ f, fuel = f + 1 := ⟨fuel - 1, by omega⟩
    have : i = B := by omega
    subst this
    exact hend f
  | k + 1, i, fuel, h1, h2 => by
    obtain ⟨f, rfl⟩ : ∃ f, fuel = f + 1 := ⟨fuel - 1, by omega⟩
    unfold first
    cases hp : p i with
    | true => rw [hyes f i (by omega) hp]; rfl
    | false => rw [hno f i (by omega) hp, floop hend hyes hno k (i + 1) f (by omega) (by omega)]; rfl
theorem first_congr {p q : Nat → Bool} : ∀ (k i : Nat), (∀ j, i ≤ j → j < i + k → p j = q j) → first p i k = first q i k
  | 0, i, _ => rfl
  | k + 1, i, h => by
    unfold first
    rw [h i (Nat.le_refl _) (by omega), first_congr k (i + 1) (fun j h1 h2 => h j (by omega) (by omega))]
theorem first_some {p : Nat → Bool} : ∀ (k i j : Nat), first p i k = some j → i ≤ j ∧ j < i + k ∧ p j = true ∧ ∀ z, i ≤ z → z < j → p z = false
  | 0, i, j, h => by cases h
  | k + 1, i, j, h => by
    unfold first at h
    cases hp : p i with
    | true =>
      rw [hp] at h
      have : i = j := by simpa using h
      subst this
      exact ⟨Nat.le_refl _, by omega, hp, fun z h1 h2 => by omega⟩
    | false =>
      rw [hp] at h
      obtain ⟨h1, h2, h3, h4⟩ := first_some k (i + 1) j (by simpa using h)
      refine ⟨by omega, by omega, h3, fun z h5 h6 => ?_⟩
      rcases Nat.eq_or_lt_of_le h5 with e | e
      · rw [← e]; exact hp
      · exact h4 z e h6
theorem first_none {p : Nat → Bool} : ∀ (k i : Nat), first p i k = none → ∀ z, i ≤ z → z < i + k → p z = false
  | 0, i, _, z, h1, h2 => by omega
  | k + 1, i, h, z, h1, h2 => by
    unfold first at h
    cases hp : p i with
    | true => rw [hp] at h; simp at h
    | false =>
      rw [hp] at h
      rcases Nat.eq_or_lt_of_le h1 with e | e
      · rw [← e]; exact hp
      · exact first_none k (i + 1) (by simpa using h) z e (by omega)
theorem FUEL_v : FUEL = 2000 := rfl
