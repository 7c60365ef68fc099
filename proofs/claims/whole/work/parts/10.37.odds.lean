/-! odds: fractions -/
theorem gcd_2 (a b : Nat) : Nat.gcd a b = Nat.gcd b (a % b) := by rw [Nat.gcd_comm a b, Nat.gcd_rec b a, Nat.gcd_comm]
theorem mod_half {a b k : Nat} (hb : b < 2 ^ (k + 1)) (h0 : 0 < b) (hr : 0 < a % b) : b % (a % b) < 2 ^ k := by
  have h1 := Nat.mod_lt a h0
  have h2 := Nat.mod_lt b hr
  have h3 := Nat.mod_add_div b (a % b)
  have h4 : 0 < b / (a % b) := Nat.div_pos (Nat.le_of_lt h1) hr
  have h5 : (a % b) * 1 ≤ (a % b) * (b / (a % b)) := Nat.mul_le_mul_left _ h4
  have h6 : 2 ^ (k + 1) = 2 * 2 ^ k := by rw [Nat.pow_succ, Nat.mul_comm]
  omega
theorem lg0 {a : Nat} (ha : a < 2 ^ 63) {α : Sort _} {x y : α} : (if lg_cmp (lN a) (0 : Int64) = 0 then x else y) = if a = 0 then x else y :=
  if_iff ((lg_cmp_eq _ _).trans (pk_lEQ (b := 0) ha (by omega)))
theorem nz_l {a : Nat} (ha : a < 2 ^ 63) (h0 : 0 < a) : nzL (lN a) = true := by
  unfold nzL
  have : ¬ lN a = 0 := fun z => by
    have := (pk_lEQ (b := 0) ha (by omega)).mp z
    omega
  rw [beq_eq_false_iff_ne.mpr this] <;> rfl
theorem c_gcd : ∀ (k a b n x : Nat), a < 2 ^ 63 → b < 2 ^ 63 → b < 2 ^ k → 2 * k < n → 2 * k + x < 100 → f_X2_greatestDivisor_9 n (lN a) (lN b) (nI x) = some (lN (Nat.gcd a b))
  | 0, a, b, n, x, ha, hb, hk, hn, hx => by
    obtain ⟨f, rfl⟩ : ∃ f, n = f + 1 := ⟨n - 1, by omega⟩
    have : b = 0 := by omega
    subst this
    rw [f_X2_greatestDivisor_9, if_neg (show ¬ (100 : Int32) ≤ nI x from nI_ge (b := 100) (by omega) (by omega)), lg0 (by omega), if_pos rfl, Nat.gcd_zero_right]
  | k + 1, a, b, n, x, ha, hb, hk, hn, hx => by
    obtain ⟨f, rfl⟩ : ∃ f, n = f + 1 + 1 := ⟨n - 2, by omega⟩
    rw [f_X2_greatestDivisor_9, if_neg (show ¬ (100 : Int32) ≤ nI x from nI_ge (b := 100) (by omega) (by omega)), lg0 hb]
    by_cases b0 : b = 0
    · rw [if_pos b0, b0, Nat.gcd_zero_right]
    · have hb0 : 0 < b := by omega
      have hlt := Nat.mod_lt a hb0
      rw [if_neg b0, gdT (nz_l hb hb0), pk_lRem ha hb0 hb, nIs, f_X2_greatestDivisor_9, if_neg (show ¬ (100 : Int32) ≤ nI (x + 1) from nI_ge (b := 100) (by omega) (by omega)), lg0 (by omega)]
      by_cases r0 : a % b = 0
      · rw [if_pos r0, gcd_2, r0, Nat.gcd_zero_right]
      · have hr0 : 0 < a % b := by omega
        rw [if_neg r0, gdT (nz_l (by omega) hr0), pk_lRem hb hr0 (by omega), nIs]
        have h2 := Nat.mod_lt b hr0
        rw [c_gcd k (a % b) (b % (a % b)) f (x + 1 + 1) (by omega) (by omega) (mod_half hk hb0 hr0) (by omega) (by omega), gcd_2 a b, gcd_2 b (a % b)]
theorem m_gcd : ∀ (k a b n : Nat), a < 2 ^ 63 → b < 2 ^ 63 → b < 2 ^ k → 2 * k < n → f_X8_divisor_6 n (lN a) (lN b) = some (lN (Nat.gcd a b))
  | 0, a, b, n, ha, hb, hk, hn => by
    obtain ⟨f, rfl⟩ : ∃ f, n = f + 1 := ⟨n - 1, by omega⟩
    have : b = 0 := by omega
    subst this
    rw [f_X8_divisor_6, lg0 (by omega), if_pos rfl, Nat.gcd_zero_right]
  | k + 1, a, b, n, ha, hb, hk, hn => by
    obtain ⟨f, rfl⟩ : ∃ f, n = f + 1 + 1 := ⟨n - 2, by omega⟩
    rw [f_X8_divisor_6, lg0 hb]
    by_cases b0 : b = 0
    · rw [if_pos b0, b0, Nat.gcd_zero_right]
    · have hb0 : 0 < b := by omega
      have hlt := Nat.mod_lt a hb0
      rw [if_neg b0, gdT (nz_l hb hb0), pk_lRem ha hb0 hb, f_X8_divisor_6, lg0 (by omega)]
      by_cases r0 : a % b = 0
      · rw [if_pos r0, gcd_2, r0, Nat.gcd_zero_right]
      · have hr0 : 0 < a % b := by omega
        rw [if_neg r0, gdT (nz_l (by omega) hr0), pk_lRem hb hr0 (by omega)]
        have h2 := Nat.mod_lt b hr0
        rw [m_gcd k (a % b) (b % (a % b)) f (by omega) (by omega) (mod_half hk hb0 hr0) (by omega), gcd_2 a b, gcd_2 b (a % b)]
def frc (a b p : Nat) : Nat := (if p = 0 then a else b) / Nat.gcd a b
theorem c_partOf {a b p : Nat} (ha : a < 2 ^ 13) (hb0 : 0 < b) (hb : b < 2 ^ 13) (hp : p < 2) : f_X2_partOf (lN a) (lN b) (nI p) = some (lN (frc a b p)) := by
  have hg : 0 < Nat.gcd a b := Nat.gcd_pos_of_pos_right _ hb0
  have hl : Nat.gcd a b ≤ b := Nat.gcd_le_right _ hb0
  have hG := c_gcd 13 a b 2000 0 (by omega) (by omega) (by omega) (by omega) (by omega)
  have hG : f_X2_greatestDivisor_9 2000 (lN a) (lN b) 0 = _ := hG
  rw [f_X2_partOf, f_X2_greatestDivisor, FUEL_v, hG, Option.bind_some, lg0 (by omega), if_neg (by omega), ifZ (by omega), gdT (nz_l (by omega) hg), gdT (nz_l (by omega) hg), pk_lDiv (by omega) hg (by omega), pk_lDiv (by omega) hg (by omega)]
  unfold frc
  split <;> rfl
theorem m_partOf {a b p : Nat} (ha : a < 2 ^ 13) (hb0 : 0 < b) (hb : b < 2 ^ 13) (hp : p < 2) : f_X8_partOf (lN a) (lN b) (nI p) = some (lN (frc a b p)) := by
  have hg : 0 < Nat.gcd a b := Nat.gcd_pos_of_pos_right _ hb0
  have hl : Nat.gcd a b ≤ b := Nat.gcd_le_right _ hb0
  have hG := m_gcd 13 a b 2000 (by omega) (by omega) (by omega) (by omega)
  rw [f_X8_partOf, f_X8_divisor, FUEL_v, hG, Option.bind_some, Option.bind_some, ifZ (by omega), gdT (nz_l (by omega) hg), gdT (nz_l (by omega) hg), pk_lDiv (by omega) hg (by omega), pk_lDiv (by omega) hg (by omega)]
  unfold frc
  split <;> rfl
/-- both answer a long alike -/
def AGL (a : Option (Int64 × (Nat → St))) (b : Option (Int64 × St)) : Prop := ∃ r S' s', a = some (r, S') ∧ b = some (r, s') ∧ REL S' s'
theorem agl_rd {S : Nat → St} {s : St} (h : REL S s) (r : Int64) : AGL (some (r, S)) (some (r, s)) := ⟨r, S, s, rfl, rfl, h⟩
theorem agl_no {S : Nat → St} {s : St} (h : REL S s) {x : Int32} (k : Nat) (hk : k < 7) (hx : -x = nI k) : AGL ((f_X7_refuseLong S x).bind (fun q => some (q.1, q.2))) ((f_X8_lowestOf s x).bind (fun q => some (q.1, q.2))) := by
  obtain ⟨S', s', e1, e2, e3⟩ := p_no h k hk hx
  rw [f_X8_no, hx, gd_in hk (by omega), gd_in hk (by omega)] at e2
  rw [f_X7_refuseLong, e1, Option.bind_some, f_X8_lowestOf, hx, gd_in hk (by omega), gd_in hk (by omega)]
  cases e2
  exact ⟨_, S', _, rfl, rfl, e3⟩
/-! mean -/
def fsum (A : AS) : Nat → Nat
  | 0 => 0
  | i + 1 => fsum A i + cnt (A 2 i)
theorem fsum_le {A : AS} (w : WF A) : ∀ i, i ≤ 8 → fsum A i ≤ 6 * i
  | 0, _ => Nat.le_refl _
  | i + 1, h => by
    have h1 := fsum_le w i (by omega)
    have h2 := cnt_le6 _ (w.2.2.2.1 i (by omega)).2.2.1
    show fsum A i + cnt (A 2 i) ≤ _
    omega
theorem frc_01 : ∀ p, p < 2 → frc 0 1 p = p := by decide
theorem max1 {c : Nat} (hc : c < 2 ^ 31) : (if (1 : Int32) < nI c then nI c else (1 : Int32)) = nI (max 1 c) := by
  rw [k1, ifLt (by omega) hc]
  by_cases h : 1 < c
  · rw [if_pos h, Nat.max_eq_right (by omega)]
  · rw [if_neg h, Nat.max_eq_left (by omega)]
theorem c_mean {v : St} {A : AS} (h : RV v A) (w : WF A) {p : Nat} (hp : p < 2) : f_X2_meanToes v (nI p) = some (lN (frc (fsum A (nB A)) (max 1 (nB A)) p)) := by
  have hb8 := w.1
  have hs := fsum_le w (nB A) hb8
  rw [f_X2_meanToes, FUEL_v]
  generalize hK : (fun (x2_420 : Int64) => (f_X2_partOf x2_420 ((if (1 : Int32) < (v 7 1) then (v 7 1) else (1 : Int32)).toInt64) (nI p)).bind (fun q421 => some q421)) = K
  have hL := iloop (L := fun fuel i a => f_X2_meanToes_5 v fuel a (nI i) K) (a := fun i => lN (fsum A i)) (B := nB A) (r := K (lN (fsum A (nB A))))
    (fun f => by
      show f_X2_meanToes_5 v (f + 1) _ _ K = _
      rw [f_X2_meanToes_5, h.2.1, if_pos (nI_le (Nat.le_refl _) (by omega))])
    (fun f i hi => by
      show f_X2_meanToes_5 v (f + 1) (lN (fsum A i)) (nI i) K = f_X2_meanToes_5 v f (lN (fsum A i + cnt (A 2 i))) (nI (i + 1)) K
      have hf := (w.2.2.2.1 i (by omega)).2.2.1
      have hc := cnt_le6 _ hf
      rw [f_X2_meanToes_5, h.2.1, if_neg (nI_ge hi (by omega)), f_X6_footOf, at_in (by omega) (by omega), (h.2.2.2.2.2.1 i (by omega)).2.2.1, Option.bind_some, Option.bind_some, bc_m _ (by omega), Option.bind_some, nI_l (by omega), lN_add, nIs])
    (nB A) 0 2000 (by omega) (by omega)
  have hL : f_X2_meanToes_5 v 2000 0 0 K = _ := hL
  rw [hL, ← hK, h.2.1]
  dsimp only
  rw [max1 (by omega), nI_l (by omega), c_partOf (by omega) (by omega) (by omega) hp, Option.bind_some]
theorem m_mean {s : St} {A : AS} (h : RM s A) (w : WF A) (K : Int64 → Option (Int64 × St)) : f_X8_mean_21 s 2000 0 0 K = K (lN (fsum A (nB A))) := by
  have hb8 := w.1
  have hL := iloop (L := fun fuel i a => f_X8_mean_21 s fuel a (nI i) K) (a := fun i => lN (fsum A i)) (B := nB A) (r := K (lN (fsum A (nB A))))
    (fun f => by
      show f_X8_mean_21 s (f + 1) _ _ K = _
      rw [f_X8_mean_21, h.1, if_pos (nI_le (Nat.le_refl _) (by omega))])
    (fun f i hi => by
      show f_X8_mean_21 s (f + 1) (lN (fsum A i)) (nI i) K = f_X8_mean_21 s f (lN (fsum A i + cnt (A 2 i))) (nI (i + 1)) K
      have hf := (w.2.2.2.1 i (by omega)).2.2.1
      have hc := cnt_le6 _ hf
      rw [f_X8_mean_21, h.1, if_neg (nI_ge hi (by omega)), gd_in (by omega) (by omega), nI_clamp (by omega), (h.2.2.2.1 i (by omega)).2.2.1, bits_m _ (by omega), Option.bind_some, nI_l (by omega), lN_add, nIs])
    (nB A) 0 2000 (by omega) (by omega)
  exact hL
theorem p_mean {S : Nat → St} {s : St} (h : REL S s) (x : Int32) : AGL (f_X7_mean S x) (f_X8_mean s x) := by
  have h' := h
  obtain ⟨A, w, hy, hv, hm, hr⟩ := h
  have hb8 := w.1
  have hs := fsum_le w (nB A) hb8
  have key : ∀ p, p < 2 → AGL ((f_X2_meanToes (S 0) (nI p)).bind (fun q1166 => some (q1166, S))) (f_X8_mean_21 s 2000 (0 : Int64) (0 : Int32) (fun (x2_2364 : Int64) => (if (s 23 0) = 0 then some (((nI p).toInt64), s) else (f_X8_partOf x2_2364 ((s 23 0).toInt64) (nI p)).bind (fun q2365 => some (q2365, s))))) := fun p hp => by
    rw [c_mean hv w hp, Option.bind_some, m_mean hm w, hm.1, ifZ (a := nB A) (by omega)]
    by_cases e : nB A = 0
    · rw [if_pos e, e, nI_l (by omega), show fsum A 0 = 0 from rfl, show max 1 0 = 1 from rfl, frc_01 p hp]
      exact agl_rd h' _
    · rw [if_neg e, nI_l (by omega), m_partOf (by omega) (by omega) (by omega) hp, Option.bind_some, Nat.max_eq_right (by omega)]
      exact agl_rd h' _
  rw [f_X7_mean, f_X8_mean]
  rcases either_cases x with ⟨rfl, e5, e6⟩ | ⟨rfl, e5, e6⟩ | ⟨h0, h1, e5, e6⟩
  · rw [e5, Option.bind_some, if_pos rfl, e6, Option.bind_some, if_neg n10, FUEL_v]; exact key 0 (by omega)
  · rw [e5, Option.bind_some, if_pos rfl, e6, Option.bind_some, if_neg n10, FUEL_v]; exact key 1 (by omega)
  · rw [e5, Option.bind_some, if_neg n10, e6, Option.bind_some, if_pos rfl]; exact agl_no h' 2 (by omega) (by decide)
