/-! sums and counts; loops that begin later -/
def sumN (f : Nat → Nat) : Nat → Nat
  | 0 => 0
  | i + 1 => sumN f i + f i
theorem sumN_congr {f g : Nat → Nat} : ∀ {n : Nat}, (∀ i, i < n → f i = g i) → sumN f n = sumN g n
  | 0, _ => rfl
  | n + 1, h => by
    show sumN f n + f n = sumN g n + g n
    rw [sumN_congr (fun i hi => h i (by omega)), h n (by omega)]
theorem sumN_z {f : Nat → Nat} : ∀ {n : Nat}, (∀ i, i < n → f i = 0) → sumN f n = 0
  | 0, _ => rfl
  | n + 1, h => by
    show sumN f n + f n = 0
    rw [sumN_z (fun i hi => h i (by omega)), h n (by omega)]
theorem sumN_add (f g : Nat → Nat) : ∀ n, sumN (fun i => f i + g i) n = sumN f n + sumN g n
  | 0 => rfl
  | n + 1 => by
    show sumN (fun i => f i + g i) n + (f n + g n) = sumN f n + f n + (sumN g n + g n)
    rw [sumN_add f g n]; omega
theorem sumN_at {f : Nat → Nat} {d t0 : Nat} : ∀ n, sumN (fun t => if t = t0 then f t + d else f t) n = sumN f n + (if t0 < n then d else 0)
  | 0 => by rw [if_neg (Nat.not_lt_zero _)]; rfl
  | n + 1 => by
    show sumN (fun t => if t = t0 then f t + d else f t) n + (if n = t0 then f n + d else f n) = sumN f n + f n + _
    rw [sumN_at n]
    by_cases h : n = t0
    · rw [if_pos h, if_neg (by omega), if_pos (by omega)]; omega
    · rw [if_neg h]
      by_cases h2 : t0 < n
      · rw [if_pos h2, if_pos (by omega)]; omega
      · rw [if_neg h2, if_neg (by omega)] <;> omega
theorem cB_s (p : Nat → Bool) (n : Nat) : cB p (n + 1) = cB p n + (if p n then 1 else 0) := rfl
theorem cB_sum (p : Nat → Bool) : ∀ n, cB p n = sumN (fun i => if p i then 1 else 0) n
  | 0 => rfl
  | n + 1 => by
    rw [cB_s, cB_sum p n] <;> rfl
theorem cB_congr {p q : Nat → Bool} : ∀ {n : Nat}, (∀ i, i < n → p i = q i) → cB p n = cB q n
  | 0, _ => rfl
  | n + 1, h => by
    rw [cB_s, cB_s, cB_congr (fun i hi => h i (by omega)), h n (by omega)]
theorem cB_0 {p : Nat → Bool} : ∀ n, (∀ i, i < n → p i = false) → cB p n = 0
  | 0, _ => rfl
  | n + 1, h => by
    rw [cB_s, cB_0 n (fun i hi => h i (by omega)), h n (by omega)] <;> rfl
theorem cB_shift (p : Nat → Bool) (a : Nat) : ∀ k, cB (fun b => decide (a < b) && p b) (a + 1 + k) = cB (fun j => p (a + 1 + j)) k
  | 0 => cB_0 _ fun i hi => by
    show (decide (a < i) && p i) = false
    rw [decide_eq_false (by omega), Bool.false_and]
  | k + 1 => by
    rw [show a + 1 + (k + 1) = a + 1 + k + 1 by omega, cB_s, cB_s, cB_shift p a k]
    show _ + (if (decide (a < a + 1 + k) && p (a + 1 + k)) then 1 else 0) = _
    rw [decide_eq_true (show a < a + 1 + k by omega), Bool.true_and]
theorem tri (al : Nat → Nat → Bool) : ∀ n, sumN (fun a => cB (fun b => decide (a < b) && al a b) n) n = sumN (fun b => cB (fun a => al a b) b) n
  | 0 => rfl
  | n + 1 => by
    show sumN (fun a => cB (fun b => decide (a < b) && al a b) (n + 1)) n + cB (fun b => decide (n < b) && al n b) (n + 1) = sumN (fun b => cB (fun a => al a b) b) n + cB (fun a => al a n) n
    have h1 : sumN (fun a => cB (fun b => decide (a < b) && al a b) (n + 1)) n = sumN (fun a => cB (fun b => decide (a < b) && al a b) n + (if al a n then 1 else 0)) n := sumN_congr fun a ha => by
      show cB (fun b => decide (a < b) && al a b) n + (if (decide (a < n) && al a n) then 1 else 0) = _
      rw [decide_eq_true ha, Bool.true_and]
    have h2 : cB (fun b => decide (n < b) && al n b) (n + 1) = 0 := cB_0 _ (fun i hi => by
      show (decide (n < i) && al n i) = false
      rw [decide_eq_false (by omega), Bool.false_and])
    rw [h1, h2, sumN_add, tri al n, cB_sum (fun a => al a n) n] <;> rfl
def c2 (m : Nat) : Nat := m * (m - 1) / 2
theorem c2_s : ∀ m, m < 20 → c2 (m + 1) = c2 m + m := by decide
theorem c2_I : ∀ c, c < 9 → (nI c * (nI c - (1 : Int32))) / (2 : Int32) = nI (c2 c) := by decide +kernel
def shC (sh : Nat → Nat) (hr : Nat → Bool) (n t : Nat) : Nat := cB (fun b => hr b && (sh b == t)) n
theorem shC_s (sh : Nat → Nat) (hr : Nat → Bool) (n t : Nat) : shC sh hr (n + 1) t = shC sh hr n t + (if (hr n && (sh n == t)) then 1 else 0) := rfl
theorem pairs_sum (sh : Nat → Nat) (hr : Nat → Bool) (hs : ∀ i, i < 8 → sh i < 64) : ∀ n, n ≤ 8 → sumN (fun b => cB (fun a => hr a && (hr b && (sh a == sh b))) b) n = sumN (fun t => c2 (shC sh hr n t)) 64
  | 0, _ => by
    show 0 = sumN (fun t => c2 (shC sh hr 0 t)) 64
    exact (sumN_z (f := fun t => c2 (shC sh hr 0 t)) (n := 64) (fun t _ => show c2 0 = 0 by decide)).symm
  | n + 1, h => by
    have ih := pairs_sum sh hr hs n (by omega)
    show sumN (fun b => cB (fun a => hr a && (hr b && (sh a == sh b))) b) n + cB (fun a => hr a && (hr n && (sh a == sh n))) n = _
    rw [ih]
    cases hn : hr n with
    | false =>
      have h1 : sumN (fun t => c2 (shC sh hr (n + 1) t)) 64 = sumN (fun t => c2 (shC sh hr n t)) 64 := sumN_congr fun t _ => by
        show c2 (shC sh hr (n + 1) t) = c2 (shC sh hr n t)
        rw [shC_s, hn, Bool.false_and, if_neg nft, Nat.add_zero]
      have h2 : cB (fun a => hr a && (false && (sh a == sh n))) n = 0 := cB_0 _ fun i _ => by
        show (hr i && (false && (sh i == sh n))) = false
        rw [Bool.false_and, Bool.and_false]
      rw [h1, h2, Nat.add_zero]
    | true =>
      have h1 : sumN (fun t => c2 (shC sh hr (n + 1) t)) 64 = sumN (fun t => if t = sh n then c2 (shC sh hr n t) + shC sh hr n (sh n) else c2 (shC sh hr n t)) 64 := sumN_congr fun t _ => by
        show c2 (shC sh hr (n + 1) t) = if t = sh n then c2 (shC sh hr n t) + shC sh hr n (sh n) else c2 (shC sh hr n t)
        rw [shC_s, hn, Bool.true_and]
        by_cases e : t = sh n
        · have hl : shC sh hr n t ≤ n := cB_le _ n
          rw [if_pos e, show (sh n == t) = true from beq_iff_eq.mpr e.symm, if_pos rfl, c2_s _ (by omega), ← e]
        · rw [if_neg e, show (sh n == t) = false from beq_eq_false_iff_ne.mpr (fun z => e z.symm), if_neg nft, Nat.add_zero]
      have h2 := sumN_at (f := fun t => c2 (shC sh hr n t)) (d := shC sh hr n (sh n)) (t0 := sh n) 64
      rw [if_pos (hs n (by omega))] at h2
      exact (h1.trans h2).symm
theorem iloopL {α R : Type} {L : Nat → Nat → α → R} {a : Nat → α} {lo B : Nat} {r : R}
    (hend : ∀ n, L (n + 1) B (a B) = r) (hstep : ∀ n i, lo ≤ i → i < B → L (n + 1) i (a i) = L n (i + 1) (a (i + 1))) :
    ∀ (k i fuel : Nat), lo ≤ i → i + k = B → k < fuel → L fuel i (a i) = r
  | 0, i, fuel, h0, h1, h2 => by
    obtain ⟨f, rfl⟩ : ∃ f, fuel = f + 1 := ⟨fuel - 1, by omega⟩
    have : i = B := by omega
    subst this
    exact hend f
  | k + 1, i, fuel, h0, h1, h2 => by
    obtain ⟨f, rfl⟩ : ∃ f, fuel = f + 1 := ⟨fuel - 1, by omega⟩
    rw [hstep f i h0 (by omega)]
    exact iloopL hend hstep k (i + 1) f (by omega) (by omega) (by omega)
theorem floopL {R : Type} {L : Nat → Nat → R} {p : Nat → Bool} {lo B : Nat} {none_ : R} {some_ : Nat → R}
    (hend : ∀ n, L (n + 1) B = none_) (hyes : ∀ n i, lo ≤ i → i < B → p i = true → L (n + 1) i = some_ i) (hno : ∀ n i, lo ≤ i → i < B → p i = false → L (n + 1) i = L n (i + 1)) :
    ∀ (k i fuel : Nat), lo ≤ i → i + k = B → k < fuel → L fuel i = (match first p i k with | some j => some_ j | none => none_)
  | 0, i, fuel, h0, h1, h2 => by
    obtain ⟨f, rfl⟩ : ∃ f, fuel = f + 1 := ⟨fuel - 1, by omega⟩
    have : i = B := by omega
    subst this
    exact hend f
  | k + 1, i, fuel, h0, h1, h2 => by
    obtain ⟨f, rfl⟩ : ∃ f, fuel = f + 1 := ⟨fuel - 1, by omega⟩
    unfold first
    cases hp : p i with
    | true => rw [hyes f i h0 (by omega) hp]; rfl
    | false => rw [hno f i h0 (by omega) hp, floopL hend hyes hno k (i + 1) f (by omega) (by omega) (by omega)]; rfl
theorem first_more {p : Nat → Bool} : ∀ (k i m : Nat), (∀ z, i + k ≤ z → p z = false) → first p i (k + m) = first p i k
  | 0, i, 0, _ => rfl
  | 0, i, m + 1, h => by
    show first p i (0 + m + 1) = none
    rw [first_s, h i (by omega), if_neg nft]
    exact (first_more 0 (i + 1) m (fun z hz => h z (by omega)))
  | k + 1, i, m, h => by
    rw [show k + 1 + m = k + m + 1 by omega, first_s, first_s, first_more k (i + 1) m (fun z hz => h z (by omega))]
theorem first_no {p : Nat → Bool} : ∀ (k i : Nat), (∀ z, p z = false) → first p i k = none
  | 0, _, _ => rfl
  | k + 1, i, h => by rw [first_s, h i, if_neg nft, first_no k (i + 1) h]
