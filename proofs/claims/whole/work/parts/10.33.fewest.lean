/-! the fewest toes first -/
def ord (k : Nat) : Nat := (ffT k).toNatClampNeg
def ordI (t : Nat) : Nat := ((List.range 64).find? (fun k => ord k == t)).getD 0
theorem ffT_o : ∀ k, k < 64 → ffT k = nI (ord k) := by decide +kernel
theorem ord_lt : ∀ k, k < 64 → ord k < 64 := by decide +kernel
theorem ord_on : ∀ t, t < 64 → ordI t < 64 ∧ ord (ordI t) = t := by decide +kernel
theorem ord_mono : ∀ k, k < 64 → ∀ j, j < k → cnt (ord j) < cnt (ord k) ∨ (cnt (ord j) = cnt (ord k) ∧ ord j < ord k) := by decide +kernel
def bstep (P : Nat → Bool) (i : Nat) (o : Option Nat) : Option Nat := match o with
  | none => if P i then some i else none
  | some j => if P i && decide (cnt i < cnt j) then some i else some j
def bst (P : Nat → Bool) : Nat → Option Nat
  | 0 => none
  | i + 1 => bstep P i (bst P i)
theorem bst_s1 {P : Nat → Bool} {i : Nat} (h : bst P i = none) : bst P (i + 1) = if P i then some i else none := by
  show bstep P i (bst P i) = _
  rw [h] <;> rfl
theorem bst_s2 {P : Nat → Bool} {i j : Nat} (h : bst P i = some j) : bst P (i + 1) = if P i && decide (cnt i < cnt j) then some i else some j := by
  show bstep P i (bst P i) = _
  rw [h] <;> rfl
theorem bst_none {P : Nat → Bool} : ∀ i, bst P i = none → ∀ z, z < i → P z = false
  | 0, _, z, h => by omega
  | i + 1, h, z, hz => by
    cases hb : bst P i with
    | none =>
      have h1 := bst_none i hb
      rw [bst_s1 hb] at h
      cases hp : P i with
      | true => rw [hp, if_pos rfl] at h; cases h
      | false =>
        rcases Nat.lt_or_ge z i with c | c
        · exact h1 z c
        · have : z = i := by omega
          rw [this]; exact hp
    | some j =>
      rw [bst_s2 hb] at h
      split at h <;> cases h
theorem bst_some {P : Nat → Bool} : ∀ i j, bst P i = some j → j < i ∧ P j = true ∧ ∀ z, z < i → P z = true → cnt j < cnt z ∨ (cnt j = cnt z ∧ j ≤ z)
  | 0, j, h => by cases h
  | i + 1, j, h => by
    cases hb : bst P i with
    | none =>
      have h1 := bst_none i hb
      rw [bst_s1 hb] at h
      cases hp : P i with
      | false => rw [hp, if_neg nft] at h; cases h
      | true =>
        rw [hp, if_pos rfl] at h
        cases h
        refine ⟨Nat.lt_succ_self _, hp, fun z hz hpz => ?_⟩
        rcases Nat.lt_or_ge z i with c | c
        · rw [h1 z c] at hpz; cases hpz
        · have : z = i := by omega
          rw [this]; omega
    | some k =>
      obtain ⟨q1, q2, q3⟩ := bst_some i k hb
      rw [bst_s2 hb] at h
      cases hp : (P i && decide (cnt i < cnt k)) with
      | true =>
        rw [hp, if_pos rfl] at h
        cases h
        have hp := (Bool.and_eq_true _ _).mp hp
        have hc := of_decide_eq_true hp.2
        refine ⟨Nat.lt_succ_self _, hp.1, fun z hz hpz => ?_⟩
        rcases Nat.lt_or_ge z i with c | c
        · have := q3 z c hpz
          omega
        · have : z = i := by omega
          rw [this]; omega
      | false =>
        rw [hp, if_neg nft] at h
        cases h
        refine ⟨by omega, q2, fun z hz hpz => ?_⟩
        rcases Nat.lt_or_ge z i with c | c
        · exact q3 z c hpz
        · have e : z = i := by omega
          rw [e] at hpz ⊢
          rw [hpz, Bool.true_and] at hp
          have := of_decide_eq_false hp
          omega
theorem fst_bst (P : Nat → Bool) : (first (fun k => P (ord k)) 0 64).map ord = bst P 64 := by
  cases hf : first (fun k => P (ord k)) 0 64 with
  | none =>
    have hn := first_none 64 0 hf
    cases hb : bst P 64 with
    | none => rfl
    | some j =>
      obtain ⟨h1, h2, -⟩ := bst_some 64 j hb
      obtain ⟨o1, o2⟩ := ord_on j h1
      have := hn (ordI j) (by omega) (by omega)
      rw [o2, h2] at this
      cases this
  | some k =>
    obtain ⟨-, hk, hp, hl⟩ := first_some 64 0 k hf
    have hk : k < 64 := by omega
    cases hb : bst P 64 with
    | none =>
      have := bst_none 64 hb (ord k) (ord_lt k hk)
      rw [hp] at this
      cases this
    | some j =>
      obtain ⟨h1, h2, h3⟩ := bst_some 64 j hb
      obtain ⟨o1, o2⟩ := ord_on j h1
      have h4 := h3 (ord k) (ord_lt k hk) hp
      rcases Nat.lt_trichotomy (ordI j) k with c | c | c
      · have := hl (ordI j) (by omega) c
        rw [o2, h2] at this
        cases this
      · rw [← c]
        show some (ord (ordI j)) = some j
        rw [o2]
      · have := ord_mono (ordI j) o1 k c
        rw [o2] at this
        omega
theorem bst_lt {P : Nat → Bool} {i j : Nat} (h : bst P i = some j) : j < i := (bst_some i j h).1
/-! sees -/
def noTwo (A : AS) (look : Nat) : Bool := (first (fun a => (f2 A look a).isSome) 0 (nB A)).isNone
def toldB (A : AS) (look a : Nat) : Bool := hereB A 0 a && decide (1 < cnt (gs A look (shows_ A a 0) 0))
theorem cnt2 : ∀ m, m < 256 → ∀ b, b < 8 → ∀ a, a < b → m.testBit a = true → m.testBit b = true → 1 < cnt m := by decide +kernel
theorem two_m : ∀ m, m < 256 → 1 < cnt m → (first (fun b => m.testBit b && (first (fun c => m.testBit c) (b + 1) (7 - b)).isSome) 0 8).isSome = true := by decide +kernel
theorem gs_tb {A : AS} {a t n b : Nat} (hb : b < 8) : (gs A a t n).testBit b = gsB A a t n b := by
  unfold gs
  rw [mk_tb, decide_eq_true hb, Bool.true_and]
theorem gsB_iff {A : AS} {a t n b : Nat} : gsB A a t n b = true ↔ hereB A n b = true ∧ shows_ A b n &&& a = t &&& a := by
  unfold gsB
  rw [Bool.and_eq_true, beq_iff_eq]
theorem told_iff {A : AS} (hb8 : nB A ≤ 8) (look : Nat) : (first (toldB A look) 0 (nB A)).isNone = noTwo A look := by
  unfold noTwo
  cases h1 : first (toldB A look) 0 (nB A) with
  | none =>
    cases h2 : first (fun a => (f2 A look a).isSome) 0 (nB A) with
    | none => rfl
    | some a =>
      exfalso
      obtain ⟨-, ha, hp, -⟩ := first_some _ _ _ h2
      obtain ⟨b, hb⟩ := Option.isSome_iff_exists.mp hp
      obtain ⟨b1, b2, b3, -⟩ := first_some _ _ _ hb
      have b3 : (hereB A 0 a && gsB A look (shows_ A a 0) 0 b) = true := b3
      obtain ⟨c1, c2⟩ := (Bool.and_eq_true _ _).mp b3
      have hn := first_none _ _ h1 a (by omega) ha
      have hm := gs_lt A look (shows_ A a 0) 0
      have t1 : (gs A look (shows_ A a 0) 0).testBit a = true := by rw [gs_tb (by omega)]; exact gsB_iff.mpr ⟨c1, rfl⟩
      have t2 : (gs A look (shows_ A a 0) 0).testBit b = true := by rw [gs_tb (by omega)]; exact c2
      have := cnt2 _ hm b (by omega) a (by omega) t1 t2
      have h3 : toldB A look a = true := by
        unfold toldB
        rw [c1, decide_eq_true this] <;> rfl
      rw [h3] at hn
      cases hn
  | some a =>
    cases h2 : first (fun a => (f2 A look a).isSome) 0 (nB A) with
    | some b => rfl
    | none =>
      exfalso
      obtain ⟨-, ha, hp, -⟩ := first_some _ _ _ h1
      obtain ⟨c1, c2⟩ := (Bool.and_eq_true _ _).mp hp
      have c2 := of_decide_eq_true c2
      have hm := gs_lt A look (shows_ A a 0) 0
      obtain ⟨b, hb⟩ := Option.isSome_iff_exists.mp (two_m _ hm c2)
      obtain ⟨-, b2, b3, -⟩ := first_some _ _ _ hb
      obtain ⟨b4, b5⟩ := (Bool.and_eq_true _ _).mp b3
      obtain ⟨c, hc⟩ := Option.isSome_iff_exists.mp b5
      obtain ⟨d1, d2, d3, -⟩ := first_some _ _ _ hc
      rw [gs_tb (by omega)] at b4 d3
      obtain ⟨e1, e2⟩ := gsB_iff.mp b4
      obtain ⟨e3, e4⟩ := gsB_iff.mp d3
      have hbl := (hereB_lt e1).1
      have hcl := (hereB_lt e3).1
      have hn := first_none _ _ h2 b (by omega) (by omega)
      have hal : alB A look b c = true := by
        show (hereB A 0 b && gsB A look (shows_ A b 0) 0 c) = true
        rw [e1, Bool.true_and]
        exact gsB_iff.mpr ⟨e3, e4.trans e2.symm⟩
      cases hf : f2 A look b with
      | none =>
        have := first_none _ _ hf c (by omega) (by omega)
        rw [hal] at this
        cases this
      | some z =>
        have hn : (f2 A look b).isSome = false := hn
        rw [hf] at hn
        cases hn
theorem ftI_9 {A : AS} (hb8 : nB A ≤ 8) (look : Nat) : (ftI A look = -9) ↔ (noTwo A look = true) := by
  unfold ftI noTwo
  cases h2 : first (fun a => (f2 A look a).isSome) 0 (nB A) with
  | none => exact ⟨fun _ => rfl, fun _ => rfl⟩
  | some a =>
    obtain ⟨-, ha, hp, -⟩ := first_some _ _ _ h2
    obtain ⟨b, hb⟩ := Option.isSome_iff_exists.mp hp
    obtain ⟨b1, b2, -, -⟩ := first_some _ _ _ hb
    constructor
    · intro z
      exfalso
      have z : nI (10 * a + (f2 A look a).getD 0) = -9 := z
      rw [hb] at z
      have z : nI (10 * a + b) = -9 := z
      exact nI_ne9 (by omega) z
    · intro z
      cases z
theorem c_fewestLooks {v : St} {A : AS} (h : RV v A) (w : WF A) : f_X1_fewestLooks v = some (oI (bst (noTwo A) 64)) := by
  have hb8 := w.1
  rw [f_X1_fewestLooks, FUEL_v]
  have hhead : ∀ f i, i < 64 → f_X1_fewestLooks_9 v 64 (f + 1) (nI i) = (if noTwo A (ord i) = true then some (nI (ord i)) else f_X1_fewestLooks_9 v 64 f (nI (i + 1))) := fun f i hi => by
    rw [f_X1_fewestLooks_9, if_neg (show ¬ (64 : Int32) ≤ nI i from nI_ge (b := 64) hi (by omega)), gd_in hi (by omega), nI_clamp (by omega), ffT_o i hi, c_firstTwoBy h w (ord_lt i hi), Option.bind_some, if_iff (ftI_9 hb8 _), nIs]
  have hL := floop (L := fun fuel i => f_X1_fewestLooks_9 v 64 fuel (nI i)) (p := fun k => noTwo A (ord k)) (B := 64) (none_ := some (-9 : Int32)) (some_ := fun k => some (nI (ord k)))
    (fun f => by
      show f_X1_fewestLooks_9 v 64 (f + 1) (nI 64) = _
      rw [f_X1_fewestLooks_9, if_pos (by decide)])
    (fun f i hi hp => by
      show f_X1_fewestLooks_9 v 64 (f + 1) (nI i) = _
      rw [hhead f i hi, if_pos hp])
    (fun f i hi hp => by
      show f_X1_fewestLooks_9 v 64 (f + 1) (nI i) = f_X1_fewestLooks_9 v 64 f (nI (i + 1))
      rw [hhead f i hi, hp, if_neg nft])
    64 0 2000 (by omega) (by omega)
  have hL : f_X1_fewestLooks_9 v 64 2000 0 = _ := hL
  rw [hL, ← fst_bst]
  cases first (fun k => noTwo A (ord k)) 0 64 with
  | none => rfl
  | some k => rfl
theorem m_told {s : St} {A : AS} (h : RM s A) (w : WF A) {look : Nat} (hl : look < 64) : f_X8_areToldApart s (nI look) = some (nI (if noTwo A look then 1 else 0)) := by
  have hb8 := w.1
  rw [f_X8_areToldApart, FUEL_v, ← told_iff hb8]
  have hhead : ∀ f i, i < nB A → f_X8_areToldApart_2 s (nI look) (f + 1) (nI i) = (if toldB A look i = true then some 0 else f_X8_areToldApart_2 s (nI look) f (nI (i + 1))) := fun f i hi => by
    have hpl := plc_le (A := A) (b := i)
    have m4 := (h.2.2.2.1 i (by omega)).2.2.2.1
    have hm := gs_lt A look (shows_ A i 0) 0
    have hc := cnt_le _ hm
    rw [f_X8_areToldApart_2, h.1, if_neg (nI_ge hi (by omega)), gd_in (by omega) (by omega), nI_clamp (by omega), m4, ifZ (by omega), if_iff (here_iff w hi), m_showsOf h w (by omega), Option.bind_some, m_guessesBy h w hl (shows_lt w (by omega)), Option.bind_some, bits_m _ hm, Option.bind_some, k1, ifL (by omega) (by omega), ← k1, nIs]
    unfold toldB
    cases hereB A 0 i with
    | false => rw [if_neg nft, Bool.false_and, if_neg nft]
    | true =>
      rw [if_pos rfl, Bool.true_and]
      by_cases c : cnt (gs A look (shows_ A i 0) 0) ≤ 1
      · rw [if_pos c, if_neg (by rw [decide_eq_false (by omega)]; exact nft)]
      · rw [if_neg c, if_pos (decide_eq_true (by omega))]
  have hL := floop (L := fun fuel i => f_X8_areToldApart_2 s (nI look) fuel (nI i)) (p := toldB A look) (B := nB A) (none_ := some (1 : Int32)) (some_ := fun _ => some (0 : Int32))
    (fun f => by
      show f_X8_areToldApart_2 s _ (f + 1) _ = _
      rw [f_X8_areToldApart_2, h.1, if_pos (nI_le (Nat.le_refl _) (by omega))])
    (fun f i hi hp => by
      show f_X8_areToldApart_2 s _ (f + 1) _ = _
      rw [hhead f i hi, if_pos hp])
    (fun f i hi hp => by
      show f_X8_areToldApart_2 s _ (f + 1) _ = f_X8_areToldApart_2 s _ f (nI (i + 1))
      rw [hhead f i hi, hp, if_neg nft])
    (nB A) 0 2000 (by omega) (by omega)
  have hL : f_X8_areToldApart_2 s (nI look) 2000 0 = _ := hL
  rw [hL]
  cases first (toldB A look) 0 (nB A) with
  | none => rfl
  | some k => rfl
theorem m_sees {s : St} {A : AS} (h : RM s A) (w : WF A) : f_X8_sees s = some (oI (bst (noTwo A) 64)) := by
  rw [f_X8_sees, FUEL_v]
  have hL := iloop (L := fun fuel i a => f_X8_sees_5 s fuel a (nI i)) (a := fun i => oI (bst (noTwo A) i)) (B := 64) (r := some (oI (bst (noTwo A) 64)))
    (fun f => by
      show f_X8_sees_5 s (f + 1) _ (nI 64) = _
      rw [f_X8_sees_5, if_pos (by decide)])
    (fun f i hi => by
      show f_X8_sees_5 s (f + 1) (oI (bst (noTwo A) i)) (nI i) = f_X8_sees_5 s f (oI (bst (noTwo A) (i + 1))) (nI (i + 1))
      rw [f_X8_sees_5, if_neg (show ¬ (63 : Int32) < nI i from nI_nlt (a := 63) (b := i) (by omega) (by omega))]
      cases hb : bst (noTwo A) i with
      | none =>
        rw [if_pos (show oI none < 0 by decide), f_X8_sees_26, m_told h w hi, Option.bind_some, bst_s1 hb, nIs]
        cases noTwo A i with
        | true => rw [if_pos rfl, if_neg ni1, if_pos rfl] <;> rfl
        | false => rw [if_neg nft, if_pos ni0, if_neg nft]
      | some j =>
        have hj := bst_lt hb
        have c1 := cnt_le6 i hi
        have c2 := cnt_le6 j (by omega)
        rw [show oI (some j) = nI j from rfl, if_neg (nI_pos (by omega)), bits_m i (by omega), Option.bind_some, bits_m j (by omega), Option.bind_some, ifL (by omega) (by omega), f_X8_sees_26, m_told h w hi, Option.bind_some, bst_s2 hb, nIs]
        by_cases c : cnt j ≤ cnt i
        · rw [if_pos c, decide_eq_false (show ¬ cnt i < cnt j by omega), Bool.and_false, if_neg nft] <;> rfl
        · rw [if_neg c, decide_eq_true (show cnt i < cnt j by omega), Bool.and_true]
          cases noTwo A i with
          | true => rw [if_pos rfl, if_neg ni1, if_pos rfl] <;> rfl
          | false => rw [if_neg nft, if_pos ni0, if_neg nft] <;> rfl)
    64 0 2000 (by omega) (by omega)
  have hL : f_X8_sees_5 s 2000 (-9) 0 = _ := hL
  exact hL
theorem p_sees {S : Nat → St} {s : St} (h : REL S s) : ∃ r, f_X7_sees S = some r ∧ f_X8_sees s = some r := by
  obtain ⟨A, w, hy, hv, hm, hr⟩ := h
  exact ⟨_, by rw [f_X7_sees, c_fewestLooks hv w, Option.bind_some], m_sees hm w⟩
