/-! pairs: the class looks, counts -/
theorem mk_mh1 {A : AS} {g : Nat} (h8 : A 8 g = 0) {b : Nat} (hk : know A g 0 = some b) : mk (mhB A g) 8 = mk (del (hereB A 0) b) 8 := mk_congr fun i _ => by
  unfold mhB del
  rw [h8, hk]
  have e : (some b == some i) = (i == b) := by
    cases hib : (i == b) with
    | true => rw [beq_iff_eq.mp hib]; simp
    | false =>
      have := beq_eq_false_iff_ne.mp hib
      simp [Ne.symm this]
  rw [e] <;> rfl
theorem mk_mh0 {A : AS} {g : Nat} (h8 : A 8 g = 0) (hk : know A g 0 = none) : mk (mhB A g) 8 = here A 0 := mk_congr fun i _ => by
  unfold mhB
  rw [h8, hk]
  cases hereB A 0 i <;> rfl
theorem mk_mhm {A : AS} {g : Nat} (h8 : A 8 g = 1) : mk (mhB A g) 8 = 0 := mk_f 8 fun i _ => by
  unfold mhB
  rw [h8] <;> rfl
/-- what the class's rows hold, when it has looked -/
def LK (t : St) (A : AS) : Prop := t 1 0 = nI (nG A) ∧ ∀ g, g < nG A → t 0 g = nI (mk (mhB A g) 8)
section CL
variable {v t : St} {A : AS}
theorem c_notKnown (h : RV v A) (w : WF A) {g : Nat} (hg : g < 5) (h8 : A 8 g = 0) : f_X3_notKnownTo v (nI g) = some (nI (mk (mhB A g) 8)) := by
  have hki : ∀ b, know A g 0 = some b → b < 2 ^ 31 := fun b hb => by have := (know_lt hb).1; omega
  rw [f_X3_notKnownTo, show f_X6_knows v (nI g) 0 = _ from c_knows h w (n := 0) hg (by omega), Option.bind_some, show f_X6_hereThen v 0 = _ from c_hereThen h w (n := 0) (by omega), Option.bind_some, if_iff (oI_9 hki)]
  cases hk : know A g 0 with
  | none => rw [if_pos rfl, mk_mh0 h8 hk]
  | some b =>
    have hb := (know_lt hk).1
    rw [if_neg (by intro z; cases z), show oI (some b) = nI b from rfl, clr _ (here_lt A 0) b hb, mk_mh1 h8 hk, ← clr_mk _ hb] <;> rfl
theorem c_look (h : RV v A) (w : WF A) (t : St) : ∃ t', f_X3_look t v = some t' ∧ LK t' A := by
  have hg5 := w.2.1
  obtain ⟨t', ⟨i1, i2⟩, e⟩ := sloop (L := fun fuel i a => f_X3_look_10 v fuel (nI i) a) (K := fun a => some a) (B := nG A)
    (fun i a => a 1 0 = nI (nG A) ∧ ∀ g, g < i → a 0 g = nI (mk (mhB A g) 8))
    (fun f a ha => by
      show f_X3_look_10 v (f + 1) _ a = _
      rw [f_X3_look_10, ha.1, if_pos (nI_le (Nat.le_refl _) (by omega))])
    (fun f i a hi ha => by
      obtain ⟨a1, a2⟩ := ha
      have h8 := (w.2.2.2.2 i (by omega)).2.2.2.1
      have hhead : f_X3_look_10 v (f + 1) (nI i) a = f_X3_look_10 v f (nI (i + 1)) (sA a 0 (upd (a 0) i (nI (mk (mhB A i) 8)))) := by
        rw [f_X3_look_10, a1, if_neg (nI_ge hi (by omega)), c_isUnmarried h w (by omega), Option.bind_some, nIs]
        by_cases e : A 8 i = 1
        · rw [if_pos e, if_pos ni0, put_in (by omega) (by omega), Option.bind_some, mk_mhm e] <;> rfl
        · rw [if_neg e, if_neg ni1, c_notKnown h w (by omega) (by omega), Option.bind_some, put_in (by omega) (by omega), Option.bind_some]
      refine ⟨sA a 0 (upd (a 0) i (nI (mk (mhB A i) 8))), ⟨a1, fun g hg => ?_⟩, hhead⟩
      show upd (a 0) i (nI (mk (mhB A i) 8)) g = _
      by_cases e : g = i
      · rw [e, upd_eq]
      · rw [upd_ne e]; exact a2 g (by omega))
    (nG A) 0 2000 (sA t 1 (upd (t 1) 0 (v 7 3))) (by omega) (by omega) ⟨h.2.2.2.1, fun g hg => by omega⟩
  have e : f_X3_look_10 v 2000 0 (sA t 1 (upd (t 1) 0 (v 7 3))) = some t' := e
  exact ⟨t', by rw [f_X3_look, FUEL_v, e], i1, i2⟩
def uaB (A : AS) (st g0 : Nat) : Nat → Nat → Bool
  | 0, _ => false
  | j + 1, b => uaB A st g0 j b || (st.testBit j && mhB A (g0 + j) b)
theorem uaB_iff {st g0 : Nat} : ∀ j b, uaB A st g0 j b = true ↔ ∃ i, i < j ∧ st.testBit i = true ∧ mhB A (g0 + i) b = true
  | 0, b => ⟨fun h => (by cases h), fun ⟨i, h, _⟩ => (by omega)⟩
  | j + 1, b => by
    show (uaB A st g0 j b || (st.testBit j && mhB A (g0 + j) b)) = true ↔ _
    rw [Bool.or_eq_true, Bool.and_eq_true, uaB_iff j b]
    constructor
    · rintro (⟨i, h1, h2, h3⟩ | ⟨h2, h3⟩)
      · exact ⟨i, by omega, h2, h3⟩
      · exact ⟨j, by omega, h2, h3⟩
    · rintro ⟨i, h1, h2, h3⟩
      by_cases e : i = j
      · subst e; exact Or.inr ⟨h2, h3⟩
      · exact Or.inl ⟨i, by omega, h2, h3⟩
theorem uu_iff {P : Nat → Nat → Bool} {T : Nat → Bool} : ∀ r b, uu P T r b = true ↔ ∃ l, 0 < l ∧ l ≤ r ∧ T l = true ∧ P l b = true
  | 0, b => ⟨fun h => (by cases h), fun ⟨i, h, h2, _⟩ => (by omega)⟩
  | r + 1, b => by
    show (uu P T r b || (T (r + 1) && P (r + 1) b)) = true ↔ _
    rw [Bool.or_eq_true, Bool.and_eq_true, uu_iff r b]
    constructor
    · rintro (⟨i, h0, h1, h2, h3⟩ | ⟨h2, h3⟩)
      · exact ⟨i, h0, by omega, h2, h3⟩
      · exact ⟨r + 1, by omega, by omega, h2, h3⟩
    · rintro ⟨i, h0, h1, h2, h3⟩
      by_cases e : i = r + 1
      · subst e; exact Or.inr ⟨h2, h3⟩
      · exact Or.inl ⟨i, h0, by omega, h2, h3⟩
theorem c_any (hl : LK t A) (hg5 : nG A ≤ 5) {st g0 r : Nat} (hst : st < 2 ^ r) (hr : g0 + r = nG A) : f_X3_mayHaveAny t (nI st) (nI g0) = some (nI (mk (uaB A st g0 5) 8)) := by
  have h32 : st < 2 ^ 5 := Nat.lt_of_lt_of_le hst (Nat.pow_le_pow_right (by omega) (by omega))
  rw [f_X3_mayHaveAny, FUEL_v]
  have hL := iloop (L := fun fuel i a => f_X3_mayHaveAny_5 t (nI st) (nI g0) fuel a (nI i)) (a := fun i => nI (mk (uaB A st g0 i) 8)) (B := 5) (r := some (nI (mk (uaB A st g0 5) 8)))
    (fun f => by
      show f_X3_mayHaveAny_5 t _ _ (f + 1) _ (nI 5) = _
      rw [f_X3_mayHaveAny_5, if_pos (by decide)])
    (fun f i hi => by
      show f_X3_mayHaveAny_5 t _ _ (f + 1) (nI (mk (uaB A st g0 i) 8)) (nI i) = f_X3_mayHaveAny_5 t _ _ f (nI (mk (fun b => uaB A st g0 i b || (st.testBit i && mhB A (g0 + i) b)) 8)) (nI (i + 1))
      rw [f_X3_mayHaveAny_5, if_neg (show ¬ (5 : Int32) ≤ nI i from nI_ge (b := 5) hi (by omega)), has_m _ (by omega) i (by omega), Option.bind_some, nIs]
      cases hb : st.testBit i with
      | false =>
        rw [if_neg nft, if_pos ni0]
        have : mk (fun b => uaB A st g0 i b || (false && mhB A (g0 + i) b)) 8 = mk (uaB A st g0 i) 8 := mk_congr fun b _ => by rw [Bool.false_and, Bool.or_false]
        rw [this]
      | true =>
        have hir : i < r := Nat.lt_of_not_le fun z => by
          rw [Nat.testBit_lt_two_pow (Nat.lt_of_lt_of_le hst (Nat.pow_le_pow_right (by omega) z))] at hb
          cases hb
        rw [if_pos rfl, if_neg ni1, nI_add, at_in (by omega) (by omega), hl.2 (g0 + i) (by omega), Option.bind_some, or_mk]
        rfl)
    5 0 2000 (by omega) (by omega)
  have hL : f_X3_mayHaveAny_5 t (nI st) (nI g0) 2000 0 0 = _ := hL
  exact hL
def vS (A : AS) (g0 r : Nat) (F : Nat → Bool) (st : Nat) : Nat := (r - cnt st) + cB (fun b => uaB A st g0 5 b && F b) 8
def mnl (A : AS) (g0 r : Nat) (F : Nat → Bool) : Nat → Nat
  | 0 => r
  | j + 1 => if vS A g0 r F j < mnl A g0 r F j then vS A g0 r F j else mnl A g0 r F j
theorem mnl_le {g0 r : Nat} {F : Nat → Bool} : ∀ j i, i < j → mnl A g0 r F j ≤ vS A g0 r F i
  | 0, i, h => by omega
  | j + 1, i, h => by
    show (if vS A g0 r F j < mnl A g0 r F j then vS A g0 r F j else mnl A g0 r F j) ≤ _
    by_cases e : i = j
    · subst e
      split <;> omega
    · have := mnl_le (g0 := g0) (r := r) (F := F) j i (by omega)
      split <;> omega
theorem mnl_r {g0 r : Nat} {F : Nat → Bool} : ∀ j, mnl A g0 r F j ≤ r
  | 0 => Nat.le_refl _
  | j + 1 => by
    have := mnl_r (g0 := g0) (r := r) (F := F) j
    show (if vS A g0 r F j < mnl A g0 r F j then vS A g0 r F j else mnl A g0 r F j) ≤ _
    split <;> omega
theorem mnl_or {g0 r : Nat} {F : Nat → Bool} : ∀ j, mnl A g0 r F j = r ∨ ∃ i, i < j ∧ mnl A g0 r F j = vS A g0 r F i
  | 0 => Or.inl rfl
  | j + 1 => by
    show (if vS A g0 r F j < mnl A g0 r F j then vS A g0 r F j else mnl A g0 r F j) = r ∨ ∃ i, i < j + 1 ∧ (if vS A g0 r F j < mnl A g0 r F j then vS A g0 r F j else mnl A g0 r F j) = vS A g0 r F i
    by_cases c : vS A g0 r F j < mnl A g0 r F j
    · rw [if_pos c]; exact Or.inr ⟨j, by omega, rfl⟩
    · rw [if_neg c]
      rcases mnl_or (g0 := g0) (r := r) (F := F) j with q | ⟨i, q1, q2⟩
      · exact Or.inl q
      · exact Or.inr ⟨i, by omega, q2⟩
theorem cnt_r : ∀ r, r < 6 → ∀ st, st < 2 ^ r → cnt st ≤ r := by decide +kernel
theorem cnt_tb : ∀ st, st < 32 → cnt st = cB (fun i => st.testBit i) 5 := by decide +kernel
theorem cB_head (p : Nat → Bool) : ∀ n, cB p (n + 1) = (if p 0 then 1 else 0) + cB (fun i => p (i + 1)) n
  | 0 => by
    rw [cB_s]
    show 0 + (if p 0 then 1 else 0) = (if p 0 then 1 else 0) + 0
    omega
  | n + 1 => by
    rw [cB_s, cB_head p n, cB_s]
    omega
theorem nt_rev {st r : Nat} : ∀ j, j ≤ r → nt (fun l => st.testBit (r - l)) j + cB (fun i => st.testBit (r - j + i)) j = j
  | 0, _ => rfl
  | j + 1, h => by
    have ih := nt_rev (st := st) (r := r) j (by omega)
    show nt (fun l => st.testBit (r - l)) j + (if st.testBit (r - (j + 1)) then 0 else 1) + cB (fun i => st.testBit (r - (j + 1) + i)) (j + 1) = j + 1
    rw [cB_head]
    have e : cB (fun i => st.testBit (r - (j + 1) + (i + 1))) j = cB (fun i => st.testBit (r - j + i)) j := cB_congr fun i _ => by
      show st.testBit (r - (j + 1) + (i + 1)) = st.testBit (r - j + i)
      rw [show r - (j + 1) + (i + 1) = r - j + i by omega]
    rw [e, Nat.add_zero]
    cases st.testBit (r - (j + 1)) with
    | true => rw [if_pos rfl, if_pos rfl]; omega
    | false => rw [if_neg nft, if_neg nft]; omega
theorem vS_val {g0 r st : Nat} {F : Nat → Bool} (hr5 : r ≤ 5) (hst : st < 2 ^ r) (hr : g0 + r = nG A) : vS A g0 r F st = val (pP A) (fun l => st.testBit (r - l)) F r := by
  have h32 : st < 32 := Nat.lt_of_lt_of_le hst (show 2 ^ r ≤ 2 ^ 5 from Nat.pow_le_pow_right (by omega) hr5)
  have hz : ∀ i, r ≤ i → st.testBit i = false := fun i hi => Nat.testBit_lt_two_pow (Nat.lt_of_lt_of_le hst (Nat.pow_le_pow_right (by omega) hi))
  have h1 := nt_rev (st := st) (r := r) r (Nat.le_refl _)
  have h2 : cB (fun i => st.testBit (r - r + i)) r = cB (fun i => st.testBit i) r := cB_congr fun i _ => by
    show st.testBit (r - r + i) = st.testBit i
    rw [Nat.sub_self, Nat.zero_add]
  have h3 := cB_ge (p := fun i => st.testBit i) (n := r) hz (5 - r)
  rw [show r + (5 - r) = 5 by omega] at h3
  have h4 := cnt_tb st h32
  have h5 : cB (fun b => uaB A st g0 5 b && F b) 8 = cB (fun b => uu (pP A) (fun l => st.testBit (r - l)) r b && F b) 8 := cB_congr fun b _ => by
    have : uaB A st g0 5 b = uu (pP A) (fun l => st.testBit (r - l)) r b := by
      rw [Bool.eq_iff_iff, uaB_iff, uu_iff]
      constructor
      · rintro ⟨i, i1, i2, i3⟩
        have hir : i < r := Nat.lt_of_not_le fun z => by rw [hz i z] at i2; cases i2
        refine ⟨r - i, by omega, by omega, ?_, ?_⟩
        · show st.testBit (r - (r - i)) = true
          rw [show r - (r - i) = i by omega]; exact i2
        · show mhB A (nG A - (r - i)) b = true
          rw [show nG A - (r - i) = g0 + i by omega]; exact i3
      · rintro ⟨l, l0, l1, l2, l3⟩
        refine ⟨r - l, by omega, l2, ?_⟩
        rw [show g0 + (r - l) = nG A - l by omega]
        exact l3
    show (uaB A st g0 5 b && F b) = _
    rw [this]
  unfold vS val
  rw [h5]
  omega
theorem mnl_dp {g0 r : Nat} {F : Nat → Bool} (hr5 : r ≤ 5) (hr : g0 + r = nG A) : mnl A g0 r F (2 ^ r) = dpf (pP A) r F := by
  obtain ⟨d1, T, d2⟩ := dp_val (P := pP A) r F
  have hle : mnl A g0 r F (2 ^ r) ≤ dpf (pP A) r F := by
    have h1 := mnl_le (A := A) (g0 := g0) (r := r) (F := F) (2 ^ r) (mk (fun i => T (r - i)) r) (mk_lt _ r)
    rw [vS_val hr5 (mk_lt _ r) hr, val_congr (T' := T) (fun l h0 hl => by
      show (mk (fun i => T (r - i)) r).testBit (r - l) = T l
      rw [mk_tb, decide_eq_true (show r - l < r by omega), Bool.true_and, show r - (r - l) = l by omega]), d2] at h1
    exact h1
  have hp : 0 < 2 ^ r := Nat.two_pow_pos r
  have hex : ∃ i, i < 2 ^ r ∧ mnl A g0 r F (2 ^ r) = vS A g0 r F i := by
    rcases mnl_or (A := A) (g0 := g0) (r := r) (F := F) (2 ^ r) with q | q
    · refine ⟨0, hp, ?_⟩
      have h0 : vS A g0 r F 0 = r := by
        unfold vS
        have : cB (fun b => uaB A 0 g0 5 b && F b) 8 = 0 := cB_0 8 fun b _ => by
          have : uaB A 0 g0 5 b = false := by
            cases hu : uaB A 0 g0 5 b with
            | false => rfl
            | true =>
              obtain ⟨i, i1, i2, i3⟩ := (uaB_iff 5 b).mp hu
              rw [Nat.zero_testBit] at i2
              cases i2
          show (uaB A 0 g0 5 b && F b) = false
          rw [this, Bool.false_and]
        rw [this]
        rfl
      rw [h0]; exact q
    · exact q
  obtain ⟨i, i1, i2⟩ := hex
  have := d1 (fun l => i.testBit (r - l))
  rw [← vS_val hr5 i1 hr, ← i2] at this
  omega
theorem dpf_le {P : Nat → Nat → Bool} (r : Nat) (F : Nat → Bool) : dpf P r F ≤ r := by
  have h := (dp_val (P := P) r F).1 (fun _ => false)
  have h1 : ∀ r, nt (fun _ => false) r = r := fun r => by
    induction r with
    | zero => rfl
    | succ r ih =>
      show nt (fun _ => false) r + 1 = r + 1
      rw [ih]
  have h2 : ∀ r b, uu P (fun _ => false) r b = false := fun r b => by
    cases hu : uu P (fun _ => false) r b with
    | false => rfl
    | true =>
      obtain ⟨i, i1, i2, i3, i4⟩ := (uu_iff r b).mp hu
      cases i3
  have h3 : cB (fun b => uu P (fun _ => false) r b && F b) 8 = 0 := cB_0 8 fun b _ => by
    show (uu P (fun _ => false) r b && F b) = false
    rw [h2, Bool.false_and]
  unfold val at h
  rw [h1, h3] at h
  exact h
theorem c_most (hl : LK t A) (hg5 : nG A ≤ 5) {g0 r : Nat} (hr : g0 + r = nG A) (F : Nat → Bool) : f_X3_most t (nI g0) (nI (mk (fun b => !F b) 8)) = some (nI (dpf (pP A) r F)) := by
  have hms := max_sub (a := nG A) (n := g0) (by omega) (by omega)
  have hr2 : nG A - g0 = r := by omega
  have hp32 : 2 ^ r ≤ 2 ^ 5 := Nat.pow_le_pow_right (by omega) (by omega)
  rw [f_X3_most, FUEL_v, hl.1, hms, hr2, ← mnl_dp (g0 := g0) (by omega) hr]
  have hsh : (1 : Int32) <<< (nI r &&& 31) = nI (2 ^ r) := shl1 r (by omega)
  have hL := iloop (L := fun fuel i a => f_X3_most_17 t (nI g0) (nI (mk (fun b => !F b) 8)) (nI r) fuel a (nI i)) (a := fun i => nI (mnl A g0 r F i)) (B := 2 ^ r) (r := some (nI (mnl A g0 r F (2 ^ r))))
    (fun f => by
      show f_X3_most_17 t _ _ _ (f + 1) _ _ = _
      rw [f_X3_most_17, hsh, if_pos (nI_le (Nat.le_refl _) (by omega))])
    (fun f i hi => by
      show f_X3_most_17 t _ _ _ (f + 1) (nI (mnl A g0 r F i)) (nI i) = f_X3_most_17 t _ _ _ f (nI (if vS A g0 r F i < mnl A g0 r F i then vS A g0 r F i else mnl A g0 r F i)) (nI (i + 1))
      have hc := cnt_r r (by omega) i hi
      have hc8 := cB_le (fun b => uaB A i g0 5 b && F b) 8
      have hm := mnl_r (A := A) (g0 := g0) (r := r) (F := F) i
      rw [f_X3_most_17, hsh, if_neg (nI_ge hi (by omega)), c_any hl hg5 hi hr, Option.bind_some, not_mk, bc_m _ (mk8_lt _), Option.bind_some, bc_m i (by omega), Option.bind_some, cnt_mk, pk_sub hc, nI_add, nIs]
      show f_X3_most_17 t _ _ _ f (if nI (vS A g0 r F i) < nI (mnl A g0 r F i) then nI (vS A g0 r F i) else nI (mnl A g0 r F i)) _ = _
      have hv : vS A g0 r F i < 2 ^ 31 := by unfold vS; omega
      rw [ifLt hv (by omega)]
      split <;> rfl)
    (2 ^ r) 0 2000 (by omega) (by omega)
  exact hL
end CL
