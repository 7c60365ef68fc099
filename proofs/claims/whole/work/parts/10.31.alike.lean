/-! who is alike -/
theorem and63 : ∀ x, x < 64 → x &&& 63 = x := by decide
def ct (A : AS) (t : Nat) : Nat := cB (gsB A 63 t 0) (nB A)
theorem ct_cnt {A : AS} (w : WF A) (t : Nat) : cnt (gs A 63 t 0) = ct A t := by
  have hb8 := w.1
  unfold gs ct
  rw [cnt_mk]
  have := cB_ge (p := gsB A 63 t 0) (n := nB A) (fun i hi => gsB_ge hi) (8 - nB A)
  rw [show nB A + (8 - nB A) = 8 by omega] at this
  exact this
theorem ct_le {A : AS} (w : WF A) (t : Nat) : ct A t ≤ 8 := by
  rw [← ct_cnt w]
  exact cnt_le _ (gs_lt A _ _ _)
theorem gs63 {A : AS} (w : WF A) {t b : Nat} (ht : t < 64) (hb : b < 8) : gsB A 63 t 0 b = (hereB A 0 b && (shows_ A b 0 == t)) := by
  unfold gsB
  rw [and63 _ (shows_lt w hb), and63 t ht]
theorem here_iff {A : AS} (w : WF A) {b : Nat} (hb : b < nB A) : (plc A b = 0) ↔ (hereB A 0 b = true) := by
  have hb8 := w.1
  rw [plc0 (w.2.2.2.1 b (by omega))]
  constructor
  · intro ⟨q1, q2⟩; simp [hereB, hb, q1, q2]
  · intro q
    obtain ⟨-, q1, q2⟩ := hereB_lt q
    exact ⟨q1, by omega⟩
def alB (A : AS) (look a b : Nat) : Bool := hereB A 0 a && gsB A look (shows_ A a 0) 0 b
def ms (A : AS) : Nat → Nat × Int32
  | 0 => (0, -9)
  | i + 1 => if ct A i ≤ (ms A i).1 then ms A i else (ct A i, nI i)
theorem ms_le {A : AS} (w : WF A) : ∀ i, (ms A i).1 ≤ 8
  | 0 => by show 0 ≤ 8; omega
  | i + 1 => by
    have h1 := ms_le w i
    have h2 := ct_le w i
    unfold ms
    split
    · exact h1
    · exact h2
def f2 (A : AS) (look a : Nat) : Option Nat := first (alB A look a) (a + 1) (nB A - (a + 1))
def ftI (A : AS) (look : Nat) : Int32 := match first (fun a => (f2 A look a).isSome) 0 (nB A) with
  | some a => nI (10 * a + (f2 A look a).getD 0)
  | none => -9
def twS (A : AS) : Nat → Nat
  | 0 => 0
  | i + 1 => twS A i + cB (fun b => decide (i < b) && alB A 63 i b) (nB A)
theorem twS_sum (A : AS) : ∀ n, twS A n = sumN (fun a => cB (fun b => decide (a < b) && alB A 63 a b) (nB A)) n
  | 0 => rfl
  | n + 1 => by
    show twS A n + _ = sumN _ n + _
    rw [twS_sum A n]
theorem tw_eq {A : AS} (w : WF A) : twS A (nB A) = sumN (fun t => c2 (ct A t)) 64 := by
  have hb8 := w.1
  have hs : ∀ i, i < 8 → shows_ A i 0 < 64 := fun i hi => shows_lt w hi
  have h := pairs_sum (fun b => shows_ A b 0) (hereB A 0) hs (nB A) hb8
  rw [twS_sum, tri (alB A 63) (nB A)]
  have h1 : sumN (fun b => cB (fun a => alB A 63 a b) b) (nB A) = sumN (fun b => cB (fun a => hereB A 0 a && (hereB A 0 b && (shows_ A a 0 == shows_ A b 0))) b) (nB A) := sumN_congr fun b hb => cB_congr fun a ha => by
    show (hereB A 0 a && gsB A 63 (shows_ A a 0) 0 b) = _
    rw [gs63 w (hs a (by omega)) (by omega), BEq.comm (a := shows_ A b 0)]
  have h2 : sumN (fun t => c2 (ct A t)) 64 = sumN (fun t => c2 (shC (fun b => shows_ A b 0) (hereB A 0) (nB A) t)) 64 := sumN_congr fun t ht => by
    show c2 (ct A t) = c2 (shC (fun b => shows_ A b 0) (hereB A 0) (nB A) t)
    have : ct A t = shC (fun b => shows_ A b 0) (hereB A 0) (nB A) t := cB_congr fun b hb => gs63 w ht (by omega)
    rw [this]
  rw [h1, h2]
  exact h
section CA
variable {v s : St} {A : AS}
theorem c_isHereB (h : RV v A) (w : WF A) {b : Nat} (hb : b < nB A) : f_X6_isHere v (nI b) = some (nI (if hereB A 0 b then 1 else 0)) := by
  have hb8 := w.1
  rw [c_isHere h w (by omega), if_iff (here_iff w hb)]
theorem c_areAlike (h : RV v A) (w : WF A) {a b look : Nat} (ha : a < nB A) (hb : b < nB A) (hl : look < 64) : f_X1_areAlike v (nI a) (nI b) (nI look) = some (nI (if alB A look a b then 1 else 0)) := by
  have hb8 := w.1
  have l1 : shows_ A a 0 &&& look < 2 ^ 31 := Nat.lt_of_le_of_lt Nat.and_le_right (by omega)
  have l2 : shows_ A b 0 &&& look < 2 ^ 31 := Nat.lt_of_le_of_lt Nat.and_le_right (by omega)
  rw [f_X1_areAlike, c_isHereB h w ha, Option.bind_some]
  unfold alB gsB
  cases h1 : hereB A 0 a with
  | false => rw [if_neg nft, if_pos ni0, Bool.false_and, if_neg nft] <;> rfl
  | true =>
    rw [if_pos rfl, if_neg ni1, c_isHereB h w hb, Option.bind_some, Bool.true_and]
    cases h2 : hereB A 0 b with
    | false => rw [if_neg nft, if_pos ni0, Bool.false_and, if_neg nft] <;> rfl
    | true =>
      rw [if_pos rfl, if_neg ni1, show f_X6_shows v (nI a) 0 = _ from c_shows0 h w (n := 0) (by omega) (by omega), Option.bind_some, show f_X6_shows v (nI b) 0 = _ from c_shows0 h w (n := 0) (by omega) (by omega), Option.bind_some, nI_and, nI_and, ifE l1 l2, Bool.true_and]
      by_cases e : shows_ A b 0 &&& look = shows_ A a 0 &&& look
      · rw [if_pos e.symm, show (shows_ A b 0 &&& look == shows_ A a 0 &&& look) = true from beq_iff_eq.mpr e, if_pos rfl] <;> rfl
      · rw [if_neg (fun z => e z.symm), show (shows_ A b 0 &&& look == shows_ A a 0 &&& look) = false from beq_eq_false_iff_ne.mpr e, if_neg nft] <;> rfl
theorem c_howMany (h : RV v A) (w : WF A) {t : Nat} (ht : t < 64) : f_X1_howManyShow v (nI t) = some (nI (ct A t)) := by
  have hb8 := w.1
  rw [f_X1_howManyShow, FUEL_v, ct]
  refine iloop (L := fun fuel i a => f_X1_howManyShow_4 v (nI t) fuel a (nI i)) (a := fun i => nI (cB (gsB A 63 t 0) i)) (B := nB A) ?_ ?_ (nB A) 0 2000 (by omega) (by omega)
  · intro f
    show f_X1_howManyShow_4 v _ (f + 1) _ _ = _
    rw [f_X1_howManyShow_4, h.2.1, if_pos (nI_le (Nat.le_refl _) (by omega))]
  · intro f i hi
    show f_X1_howManyShow_4 v _ (f + 1) _ _ = f_X1_howManyShow_4 v _ f (nI (cB (gsB A 63 t 0) i + (if gsB A 63 t 0 i then 1 else 0))) _
    have hs := shows_lt w (b := i) (n := 0) (by omega)
    rw [f_X1_howManyShow_4, h.2.1, if_neg (nI_ge hi (by omega)), c_isHereB h w hi, Option.bind_some, gs63 w ht (by omega), nIs]
    cases hh : hereB A 0 i with
    | false => rw [if_neg nft, if_pos ni0, Bool.false_and, if_neg nft] <;> rfl
    | true =>
      rw [if_pos rfl, if_neg ni1, show f_X6_shows v (nI i) 0 = _ from c_shows0 h w (n := 0) (by omega) (by omega), Option.bind_some, ifE (by omega) (by omega), Bool.true_and]
      by_cases e : shows_ A i 0 = t
      · rw [if_pos e, show (shows_ A i 0 == t) = true from beq_iff_eq.mpr e, if_pos rfl, nIs]
      · rw [if_neg e, show (shows_ A i 0 == t) = false from beq_eq_false_iff_ne.mpr e, if_neg nft] <;> rfl
theorem c_greatest (h : RV v A) (w : WF A) : f_X1_greatest v = some (nI (ms A 64).1) := by
  rw [f_X1_greatest, FUEL_v]
  have hL := iloop (L := fun fuel i a => f_X1_greatest_4 v fuel a (nI i)) (a := fun i => nI (ms A i).1) (B := 64) (r := some (nI (ms A 64).1))
    (fun f => by
      show f_X1_greatest_4 v (f + 1) _ (nI 64) = _
      rw [f_X1_greatest_4, if_pos (by decide)])
    (fun f i hi => by
      show f_X1_greatest_4 v (f + 1) (nI (ms A i).1) (nI i) = f_X1_greatest_4 v f (nI (ms A (i + 1)).1) (nI (i + 1))
      have m1 := ms_le w i
      have m2 := ct_le w i
      rw [f_X1_greatest_4, if_neg (show ¬ (63 : Int32) < nI i from nI_nlt (a := 63) (b := i) (by omega) (by omega)), c_howMany h w hi, Option.bind_some, ifLt (by omega) (by omega), nIs]
      by_cases c : ct A i ≤ (ms A i).1
      · have e : ms A (i + 1) = ms A i := if_pos c
        rw [if_neg (by omega), e]
      · have e : ms A (i + 1) = (ct A i, nI i) := if_neg c
        rw [if_pos (by omega), e])
    64 0 2000 (by omega) (by omega)
  have hL : f_X1_greatest_4 v 2000 0 0 = _ := hL
  exact hL
theorem c_greatestShown (h : RV v A) (w : WF A) : f_X1_greatestShown v = some (ms A 64).2 := by
  rw [f_X1_greatestShown, FUEL_v]
  have hL := iloop (L := fun fuel i (a : Int32 × Int32) => f_X1_greatestShown_7 v fuel a.1 a.2 (nI i)) (a := fun i => (nI (ms A i).1, (ms A i).2)) (B := 64) (r := some (ms A 64).2)
    (fun f => by
      show f_X1_greatestShown_7 v (f + 1) _ _ (nI 64) = _
      rw [f_X1_greatestShown_7, if_pos (by decide)])
    (fun f i hi => by
      show f_X1_greatestShown_7 v (f + 1) (nI (ms A i).1) (ms A i).2 (nI i) = f_X1_greatestShown_7 v f (nI (ms A (i + 1)).1) (ms A (i + 1)).2 (nI (i + 1))
      have m1 := ms_le w i
      have m2 := ct_le w i
      rw [f_X1_greatestShown_7, if_neg (show ¬ (63 : Int32) < nI i from nI_nlt (a := 63) (b := i) (by omega) (by omega)), c_howMany h w hi, Option.bind_some, ifL (by omega) (by omega), nIs]
      by_cases c : ct A i ≤ (ms A i).1
      · have e : ms A (i + 1) = ms A i := if_pos c
        rw [if_pos c, e]
      · have e : ms A (i + 1) = (ct A i, nI i) := if_neg c
        rw [if_neg c, e])
    64 0 2000 (by omega) (by omega)
  have hL : f_X1_greatestShown_7 v 2000 0 (-9) 0 = _ := hL
  exact hL
theorem c_twosIn (h : RV v A) (w : WF A) {a : Nat} (ha : a < nB A) (y : Nat) (K : Int32 → Option Int32) : f_X1_twos_16 v (nI a) 2000 (nI y) (nI (a + 1)) K = K (nI (y + cB (fun b => decide (a < b) && alB A 63 a b) (nB A))) := by
  have hb8 := w.1
  have h0 : cB (fun b => decide (a < b) && alB A 63 a b) (a + 1) = 0 := cB_0 _ (fun i hi => by
    show (decide (a < i) && alB A 63 a i) = false
    rw [decide_eq_false (by omega), Bool.false_and])
  have hL := iloopL (L := fun fuel i x => f_X1_twos_16 v (nI a) fuel x (nI i) K) (a := fun i => nI (y + cB (fun b => decide (a < b) && alB A 63 a b) i)) (lo := a + 1) (B := nB A) (r := K (nI (y + cB (fun b => decide (a < b) && alB A 63 a b) (nB A))))
    (fun f => by
      show f_X1_twos_16 v _ (f + 1) _ _ K = _
      rw [f_X1_twos_16, h.2.1, if_pos (nI_le (Nat.le_refl _) (by omega))])
    (fun f i h1 hi => by
      show f_X1_twos_16 v _ (f + 1) _ _ K = f_X1_twos_16 v _ f (nI (y + (cB (fun b => decide (a < b) && alB A 63 a b) i + (if (decide (a < i) && alB A 63 a i) then 1 else 0)))) _ K
      rw [f_X1_twos_16, h.2.1, if_neg (nI_ge hi (by omega)), show f_X1_areAlike v (nI a) (nI i) 63 = _ from c_areAlike h w (look := 63) ha hi (by omega), Option.bind_some, decide_eq_true (show a < i by omega), Bool.true_and, nIs]
      cases alB A 63 a i with
      | false => rw [if_neg nft, if_pos ni0] <;> rfl
      | true => rw [if_pos rfl, if_neg ni1, nIs] <;> rfl)
    (nB A - (a + 1)) (a + 1) 2000 (by omega) (by omega) (by omega)
  have hL : f_X1_twos_16 v (nI a) 2000 (nI (y + cB (fun b => decide (a < b) && alB A 63 a b) (a + 1))) (nI (a + 1)) K = _ := hL
  rw [h0, Nat.add_zero] at hL
  exact hL
theorem c_twos (h : RV v A) (w : WF A) : f_X1_twos v = some (nI (twS A (nB A))) := by
  have hb8 := w.1
  rw [f_X1_twos, FUEL_v]
  refine iloop (L := fun fuel i a => f_X1_twos_4 v fuel a (nI i)) (a := fun i => nI (twS A i)) (B := nB A) ?_ ?_ (nB A) 0 2000 (by omega) (by omega)
  · intro f
    show f_X1_twos_4 v (f + 1) _ _ = _
    rw [f_X1_twos_4, h.2.1, if_pos (nI_le (Nat.le_refl _) (by omega))]
  · intro f i hi
    show f_X1_twos_4 v (f + 1) _ _ = f_X1_twos_4 v f (nI (twS A i + cB (fun b => decide (i < b) && alB A 63 i b) (nB A))) _
    rw [f_X1_twos_4, h.2.1, if_neg (nI_ge hi (by omega)), FUEL_v, nIs, c_twosIn h w hi]
theorem c_firstIn (h : RV v A) (w : WF A) {a look : Nat} (ha : a < nB A) (hl : look < 64) (K : Unit → Option Int32) : f_X1_firstTwoBy_14 v (nI look) (nI a) 2000 (nI (a + 1)) K = match f2 A look a with | some j => some (nI (10 * a + j)) | none => K () := by
  have hb8 := w.1
  have hL := floopL (L := fun fuel i => f_X1_firstTwoBy_14 v (nI look) (nI a) fuel (nI i) K) (p := alB A look a) (lo := a + 1) (B := nB A) (none_ := K ()) (some_ := fun j => some (nI (10 * a + j)))
    (fun f => by
      show f_X1_firstTwoBy_14 v _ _ (f + 1) _ K = _
      rw [f_X1_firstTwoBy_14, h.2.1, if_pos (nI_le (Nat.le_refl _) (by omega))])
    (fun f i h1 hi hp => by
      show f_X1_firstTwoBy_14 v _ _ (f + 1) _ K = _
      rw [f_X1_firstTwoBy_14, h.2.1, if_neg (nI_ge hi (by omega)), c_areAlike h w ha hi hl, Option.bind_some, hp, if_pos rfl, if_neg ni1, k10, pk_mul, nI_add])
    (fun f i h1 hi hp => by
      show f_X1_firstTwoBy_14 v _ _ (f + 1) _ K = f_X1_firstTwoBy_14 v _ _ f (nI (i + 1)) K
      rw [f_X1_firstTwoBy_14, h.2.1, if_neg (nI_ge hi (by omega)), c_areAlike h w ha hi hl, Option.bind_some, hp, if_neg nft, if_pos ni0, nIs])
    (nB A - (a + 1)) (a + 1) 2000 (by omega) (by omega) (by omega)
  exact hL
theorem c_firstTwoBy (h : RV v A) (w : WF A) {look : Nat} (hl : look < 64) : f_X1_firstTwoBy v (nI look) = some (ftI A look) := by
  have hb8 := w.1
  rw [f_X1_firstTwoBy, FUEL_v]
  have hL := floop (L := fun fuel i => f_X1_firstTwoBy_2 v (nI look) fuel (nI i)) (p := fun a => (f2 A look a).isSome) (B := nB A) (none_ := some (-9 : Int32)) (some_ := fun a => some (nI (10 * a + (f2 A look a).getD 0)))
    (fun f => by
      show f_X1_firstTwoBy_2 v _ (f + 1) _ = _
      rw [f_X1_firstTwoBy_2, h.2.1, if_pos (nI_le (Nat.le_refl _) (by omega))])
    (fun f i hi hp => by
      show f_X1_firstTwoBy_2 v _ (f + 1) _ = _
      rw [f_X1_firstTwoBy_2, h.2.1, if_neg (nI_ge hi (by omega)), FUEL_v, nIs, c_firstIn h w hi hl]
      cases hf : f2 A look i with
      | none => rw [hf] at hp; cases hp
      | some j => rfl)
    (fun f i hi hp => by
      show f_X1_firstTwoBy_2 v _ (f + 1) _ = f_X1_firstTwoBy_2 v _ f (nI (i + 1))
      rw [f_X1_firstTwoBy_2, h.2.1, if_neg (nI_ge hi (by omega)), FUEL_v, nIs, c_firstIn h w hi hl]
      cases hf : f2 A look i with
      | none => rfl
      | some j => rw [hf] at hp; cases hp)
    (nB A) 0 2000 (by omega) (by omega)
  have hL : f_X1_firstTwoBy_2 v (nI look) 2000 0 = _ := hL
  rw [hL]
  unfold ftI
  cases first (fun a => (f2 A look a).isSome) 0 (nB A) with
  | none => rfl
  | some j => rfl
theorem m_showing (h : RM s A) (w : WF A) {t : Nat} (ht : t < 64) : f_X8_showing s (nI t) = some (nI (gs A 63 t 0)) := by
  rw [f_X8_showing, k63, m_guessesBy h w (by omega) ht, Option.bind_some]
theorem m_alike37 {R : Type} (h : RM s A) (w : WF A) (K : Int32 → Int32 → Int32 → Option (Int32 × St)) : f_X8_alike_37 s 2000 0 0 (-9) 0 K = K (nI (sumN (fun t => c2 (ct A t)) 64)) (nI (ms A 64).1) (ms A 64).2 := by
  have hL := iloop (L := fun fuel i (a : Int32 × Int32 × Int32) => f_X8_alike_37 s fuel a.1 a.2.1 a.2.2 (nI i) K) (a := fun i => (nI (sumN (fun t => c2 (ct A t)) i), nI (ms A i).1, (ms A i).2)) (B := 64) (r := K (nI (sumN (fun t => c2 (ct A t)) 64)) (nI (ms A 64).1) (ms A 64).2)
    (fun f => by
      show f_X8_alike_37 s (f + 1) _ _ _ (nI 64) K = _
      rw [f_X8_alike_37, if_pos (by decide)])
    (fun f i hi => by
      show f_X8_alike_37 s (f + 1) (nI (sumN (fun t => c2 (ct A t)) i)) (nI (ms A i).1) (ms A i).2 (nI i) K = f_X8_alike_37 s f (nI (sumN (fun t => c2 (ct A t)) i + c2 (ct A i))) (nI (ms A (i + 1)).1) (ms A (i + 1)).2 (nI (i + 1)) K
      have m1 := ms_le w i
      have m2 := ct_le w i
      rw [f_X8_alike_37, if_neg (show ¬ (63 : Int32) < nI i from nI_nlt (a := 63) (b := i) (by omega) (by omega)), m_showing h w hi, Option.bind_some, bits_m _ (gs_lt A _ _ _), Option.bind_some, ct_cnt w, ifLt (by omega) (by omega), c2_I _ (by omega), nI_add, nIs]
      by_cases c : ct A i ≤ (ms A i).1
      · have e : ms A (i + 1) = ms A i := if_pos c
        rw [if_neg (by omega), e]
      · have e : ms A (i + 1) = (ct A i, nI i) := if_neg c
        rw [if_pos (by omega), e])
    64 0 2000 (by omega) (by omega)
  have hL : f_X8_alike_37 s 2000 0 0 (-9) 0 K = _ := hL
  exact hL
end CA
