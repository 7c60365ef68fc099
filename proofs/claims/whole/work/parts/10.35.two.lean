/-! two: what it costs one -/
theorem oI_eq2 {b : Nat} {o : Option Nat} (hb : b < 8) (ho : ∀ j, o = some j → j < 8) : (oI o = nI b) ↔ o = some b := by
  cases o with
  | none =>
    constructor
    · intro z; exact absurd z.symm (nI_ne9 (by omega))
    · intro z; cases z
  | some j =>
    have := ho j rfl
    constructor
    · intro z
      have z : nI j = nI b := z
      rw [nI_inj (by omega) (by omega) z]
    · intro z; cases z; rfl
def co (A : AS) (b : Nat) : Nat → Int32
  | 0 => 0
  | i + 1 => if A 8 i = 1 then co A b i else co A b i + (if know A i 0 = some b then 10 else 0) + (if (guess A i 0).testBit b = true then -1 else 0)
theorem co_m {A : AS} {b i : Nat} (h : A 8 i = 1) : co A b (i + 1) = co A b i := if_pos h
theorem co_u {A : AS} {b i : Nat} (h : ¬ A 8 i = 1) : co A b (i + 1) = co A b i + (if know A i 0 = some b then 10 else 0) + (if (guess A i 0).testBit b = true then -1 else 0) := if_neg h
theorem only_0 : f_X7_onlyOne 0 = some (-9) := by decide
theorem has_0 : ∀ b, b < 8 → f_X7_has 0 (nI b) = some 0 := by decide
section CC
variable {v s : St} {A : AS}
theorem know_8 {g n : Nat} : ∀ j, know A g n = some j → j < 8 := fun _ h => (know_lt h).1
theorem c_costOf (h : RV v A) (w : WF A) {b : Nat} (hb : b < 8) : f_X0_costOf v (nI b) = some (co A b (nG A)) := by
  have hg5 := w.2.1
  rw [f_X0_costOf, FUEL_v]
  refine iloop (L := fun fuel i a => f_X0_costOf_4 v (nI b) fuel a (nI i)) (a := fun i => co A b i) (B := nG A) ?_ ?_ (nG A) 0 2000 (by omega) (by omega)
  · intro f
    show f_X0_costOf_4 v _ (f + 1) _ _ = _
    rw [f_X0_costOf_4, h.2.2.2.1, if_pos (nI_le (Nat.le_refl _) (by omega))]
  · intro f i hi
    show f_X0_costOf_4 v _ (f + 1) _ _ = f_X0_costOf_4 v _ f (co A b (i + 1)) _
    have wg := w.2.2.2.2 i (by omega)
    rw [f_X0_costOf_4, h.2.2.2.1, if_neg (nI_ge hi (by omega)), c_isUnmarried h w (by omega), Option.bind_some]
    by_cases e : A 8 i = 1
    · rw [if_pos e, if_pos ni0, f_X0_costOf_30, only_0, Option.bind_some, if_neg (fun z => nI_ne9 (show b < 2 ^ 31 by omega) z.symm), f_X0_costOf_44, has_0 b hb, Option.bind_some, if_pos rfl, nIs, co_m e]
    · rw [if_neg e, if_neg ni1, show f_X6_guesses v (nI i) 0 = _ from c_guesses h w (n := 0) (by omega) (by omega), Option.bind_some, f_X0_costOf_30, onlyOne_m _ (gs_lt A _ _ _), Option.bind_some]
      show (if oI (know A i 0) = nI b then _ else _) = _
      rw [if_iff (oI_eq2 hb know_8), f_X0_costOf_44, f_X0_costOf_44, has_m _ (gs_lt A _ _ _) b (by omega), Option.bind_some, Option.bind_some, nIs, co_u e]
      by_cases e1 : know A i 0 = some b
      · rw [if_pos e1, if_pos e1]
        cases (guess A i 0).testBit b with
        | true => rw [if_pos rfl, if_neg ni1, if_pos rfl]
        | false => rw [if_neg nft, if_pos ni0, if_neg nft, Int32.add_zero]
      · rw [if_neg e1, if_neg e1, Int32.add_zero]
        cases (guess A i 0).testBit b with
        | true => rw [if_pos rfl, if_neg ni1, if_pos rfl]
        | false => rw [if_neg nft, if_pos ni0, if_neg nft, Int32.add_zero]
theorem m_costOf (h : RM s A) (w : WF A) {b : Nat} (hb : b < 8) : f_X8_costOf s (nI b) = some (co A b (nG A)) := by
  have hg5 := w.2.1
  rw [f_X8_costOf, FUEL_v]
  refine iloop (L := fun fuel i a => f_X8_costOf_4 s (nI b) fuel a (nI i)) (a := fun i => co A b i) (B := nG A) ?_ ?_ (nG A) 0 2000 (by omega) (by omega)
  · intro f
    show f_X8_costOf_4 s _ (f + 1) _ _ = _
    rw [f_X8_costOf_4, h.2.1, if_pos (nI_le (Nat.le_refl _) (by omega))]
  · intro f i hi
    show f_X8_costOf_4 s _ (f + 1) _ _ = f_X8_costOf_4 s _ f (co A b (i + 1)) _
    have wg := w.2.2.2.2 i (by omega)
    have h8 := wg.2.2.2.1
    rw [f_X8_costOf_4, h.2.1, if_neg (nI_ge hi (by omega)), gd_in (by omega) (by omega), nI_clamp (by omega), (h.2.2.2.2 i (by omega)).2.2.2, k1, ifE (by omega) (by omega), ← k1]
    by_cases e : A 8 i = 1
    · rw [if_pos e, nIs, co_m e]
    · rw [if_neg e, m_knows h w (by omega), Option.bind_some, if_iff (oI_eq2 hb know_8), f_X8_costOf_41, f_X8_costOf_41, m_guesses h w (by omega), Option.bind_some, Option.bind_some, mhas_m _ (gs_lt A _ _ _) b (by omega), Option.bind_some, Option.bind_some, nIs, co_u e]
      have x0 : ∀ x : Int32, x + (10 - 0) = x + 10 + 0 := fun x => by rw [Int32.add_assoc]; rfl
      have x1 : ∀ x : Int32, x + (10 - 1) = x + 10 + -1 := fun x => by rw [Int32.add_assoc]; rfl
      have x2 : ∀ x : Int32, x + (0 - 0) = x + 0 + 0 := fun x => by rw [Int32.add_assoc]; rfl
      have x3 : ∀ x : Int32, x + (0 - 1) = x + 0 + -1 := fun x => by rw [Int32.add_assoc]; rfl
      by_cases e1 : know A i 0 = some b
      · rw [if_pos e1, if_pos e1]
        cases (guess A i 0).testBit b with
        | true => rw [if_pos rfl, if_neg ni1, if_pos rfl, x1]
        | false => rw [if_neg nft, if_pos ni0, if_neg nft, x0]
      · rw [if_neg e1, if_neg e1]
        cases (guess A i 0).testBit b with
        | true => rw [if_pos rfl, if_neg ni1, if_pos rfl, x3]
        | false => rw [if_neg nft, if_pos ni0, if_neg nft, x2]
end CC
def tw2 (A : AS) (a b x y : Nat) : AS := hdA (hdA A a x) b y
theorem tw2_WF {A : AS} (w : WF A) {a b x y : Nat} (ha : a < 8) (hb : b < 8) (hx : x < 64) (hy : y < 64) : WF (tw2 A a b x y) := hd_WF (hd_WF w ha hx) hb hy
def cst (A : AS) (a b x y c : Nat) : Int32 := co (tw2 A a b x y) c (nG A)
def RP (A : AS) (a b x y : Nat) : Bool := !(decide (cst A a b (1 - x) y a < cst A a b x y a)) && !(decide (cst A a b x (1 - y) b < cst A a b x y b))
def rR (A : AS) (a b : Nat) : Int32 := if RP A a b 0 0 = true then nI 0 else if RP A a b 0 1 = true then nI 1 else if RP A a b 1 0 = true then nI 10 else if RP A a b 1 1 = true then nI 11 else -9
/-! the class -/
theorem c_chg {u : St} {A : AS} (r : RV u A) {a x : Nat} (ha : a < 8) : f_X6_changeToes u (nI a) (nI x) = some (sA u 2 (upd (u 2) a (nI (A 2 a ^^^ x)))) := by
  rw [f_X6_changeToes, f_X6_footOf, at_in (by omega) ha, (r.2.2.2.2.2.1 a ha).2.2.1, Option.bind_some, Option.bind_some, nI_xor, put_in (by omega) ha, Option.bind_some]
theorem c_change {v u : St} {A : AS} (h : RV v A) {a b x y : Nat} (ha : a < 8) (hb : b < 8) : ∃ u', f_X0_change v u (nI a) (nI x) (nI b) (nI y) = some u' ∧ RV u' (tw2 A a b x y) := by
  obtain ⟨u1, e1, r1⟩ := c_become (v := u) h
  have r2 : RV (sA u1 2 (upd (u1 2) a (nI (A 2 a ^^^ x)))) (hdA A a x) := RV_2 r1 a (A 2 a ^^^ x)
  refine ⟨_, ?_, RV_2 r2 b (hdA A a x 2 b ^^^ y)⟩
  rw [f_X0_change, e1, Option.bind_some, c_chg r1 ha, Option.bind_some, c_chg r2 hb, Option.bind_some]
section CR
variable {v : St} {A : AS} {a b : Nat}
theorem c_cst {u : St} {x y c : Nat} (w : WF A) (r : RV u (tw2 A a b x y)) (ha : a < 8) (hb : b < 8) (hx : x < 2) (hy : y < 2) (hc : c < 8) : f_X0_costOf u (nI c) = some (cst A a b x y c) := c_costOf r (tw2_WF w ha hb (by omega) (by omega)) hc
theorem c_rest12 (h : RV v A) (w : WF A) (ha : a < 8) (hb : b < 8) {x y : Nat} (hx : x < 2) (hy : y < 2) (f : Nat) (u : St) (K : St → Option (Int32 × St)) : ∃ u', f_X0_firstRest_12 v (nI a) (nI b) (nI x) (f + 1) (nI y) u K = if RP A a b x y = true then some (nI (10 * x + y), u') else f_X0_firstRest_12 v (nI a) (nI b) (nI x) f (nI (y + 1)) u' K := by
  obtain ⟨u1, e1, r1⟩ := c_change (u := u) (x := x) (y := y) h ha hb
  obtain ⟨u2, e2, r2⟩ := c_change (u := u1) (x := 1 - x) (y := y) h ha hb
  obtain ⟨u3, e3, r3⟩ := c_change (u := u2) (x := x) (y := 1 - y) h ha hb
  have hx1 : (1 : Int32) - nI x = nI (1 - x) := pk_sub (a := 1) (by omega)
  have hy1 : (1 : Int32) - nI y = nI (1 - y) := pk_sub (a := 1) (by omega)
  refine ⟨u3, ?_⟩
  rw [f_X0_firstRest_12, if_neg (show ¬ (1 : Int32) < nI y from nI_nlt (a := 1) (b := y) (by omega) (by omega)), e1, Option.bind_some, c_cst w r1 ha hb hx hy ha, Option.bind_some, c_cst w r1 ha hb hx hy hb, Option.bind_some, hx1, e2, Option.bind_some, c_cst w r2 ha hb (by omega) hy ha, Option.bind_some, f_X0_firstRest_71, f_X0_firstRest_71, hy1, e3, Option.bind_some, Option.bind_some, c_cst w r3 ha hb hx (by omega) hb, Option.bind_some, Option.bind_some]
  unfold RP
  by_cases c1 : cst A a b (1 - x) y a < cst A a b x y a
  · rw [if_pos c1, decide_eq_true c1, Bool.not_true, Bool.false_and, if_neg nft, f_X0_firstRest_101, f_X0_firstRest_101]
    by_cases c2 : cst A a b x (1 - y) b < cst A a b x y b
    · rw [if_pos c2, if_pos rfl, nIs]
    · rw [if_neg c2, if_pos rfl, nIs]
  · rw [if_neg c1, decide_eq_false c1, Bool.not_false, Bool.true_and, f_X0_firstRest_101, f_X0_firstRest_101]
    by_cases c2 : cst A a b x (1 - y) b < cst A a b x y b
    · rw [if_pos c2, if_neg n10, if_pos rfl, decide_eq_true c2, Bool.not_true, if_neg nft, nIs]
    · rw [if_neg c2, if_neg n10, if_neg n10, decide_eq_false c2, Bool.not_false, if_pos rfl, k10, pk_mul, nI_add]
theorem c_row (h : RV v A) (w : WF A) (ha : a < 8) (hb : b < 8) {x : Nat} (hx : x < 2) (f : Nat) (u : St) (K : St → Option (Int32 × St)) : ∃ u', f_X0_firstRest_12 v (nI a) (nI b) (nI x) (f + 3) (nI 0) u K = if RP A a b x 0 = true then some (nI (10 * x + 0), u') else if RP A a b x 1 = true then some (nI (10 * x + 1), u') else K u' := by
  obtain ⟨u1, e1⟩ := c_rest12 h w ha hb hx (y := 0) (by omega) (f + 2) u K
  obtain ⟨u2, e2⟩ := c_rest12 h w ha hb hx (y := 1) (by omega) (f + 1) u1 K
  have e3 : f_X0_firstRest_12 v (nI a) (nI b) (nI x) (f + 1) (nI 2) u2 K = K u2 := by rw [f_X0_firstRest_12, if_pos (by decide)]
  have e1 : f_X0_firstRest_12 v (nI a) (nI b) (nI x) (f + 3) (nI 0) u K = _ := e1
  have e2 : f_X0_firstRest_12 v (nI a) (nI b) (nI x) (f + 2) (nI (0 + 1)) u1 K = _ := e2
  rw [e1, e2]
  cases RP A a b x 0 with
  | true => exact ⟨u1, rfl⟩
  | false =>
    cases RP A a b x 1 with
    | true => exact ⟨u2, rfl⟩
    | false => exact ⟨u2, e3⟩
theorem c_firstRest (h : RV v A) (w : WF A) (ha : a < 8) (hb : b < 8) (u : St) : ∃ u', f_X0_firstRest v u (nI a) (nI b) = some (rR A a b, u') := by
  have hh : ∀ f x u, x < 2 → f_X0_firstRest_3 v (nI a) (nI b) (f + 1) (nI x) u = f_X0_firstRest_12 v (nI a) (nI b) (nI x) (1997 + 3) (nI 0) u (fun (u_279 : St) => f_X0_firstRest_3 v (nI a) (nI b) f (nI (x + 1)) u_279) := fun f x u hx => by
    rw [f_X0_firstRest_3, if_neg (show ¬ (1 : Int32) < nI x from nI_nlt (a := 1) (b := x) (by omega) (by omega)), nIs, FUEL_v] <;> rfl
  obtain ⟨u1, e1⟩ := c_row h w ha hb (x := 0) (by omega) 1997 u (fun (u_279 : St) => f_X0_firstRest_3 v (nI a) (nI b) 1999 (nI (0 + 1)) u_279)
  obtain ⟨u2, e2⟩ := c_row h w ha hb (x := 1) (by omega) 1997 u1 (fun (u_279 : St) => f_X0_firstRest_3 v (nI a) (nI b) 1998 (nI (1 + 1)) u_279)
  have e0 : f_X0_firstRest_3 v (nI a) (nI b) 2000 0 u = _ := (hh 1999 0 u (by omega)).trans e1
  have e3 : f_X0_firstRest_3 v (nI a) (nI b) 1999 (nI (0 + 1)) u1 = _ := (hh 1998 1 u1 (by omega)).trans e2
  have e4 : f_X0_firstRest_3 v (nI a) (nI b) 1998 (nI (1 + 1)) u2 = some (-9, u2) := by
    show f_X0_firstRest_3 v (nI a) (nI b) (1997 + 1) (nI 2) u2 = _
    rw [f_X0_firstRest_3, if_pos (by decide)]
  rw [f_X0_firstRest, FUEL_v, e0]
  unfold rR
  cases RP A a b 0 0 with
  | true => exact ⟨u1, rfl⟩
  | false =>
    cases RP A a b 0 1 with
    | true => exact ⟨u1, rfl⟩
    | false =>
      rw [if_neg nft, if_neg nft, if_neg nft, if_neg nft, e3]
      cases RP A a b 1 0 with
      | true => exact ⟨u2, rfl⟩
      | false =>
        cases RP A a b 1 1 with
        | true => exact ⟨u2, rfl⟩
        | false =>
          rw [if_neg nft, if_neg nft, if_neg nft, if_neg nft, e4]
          exact ⟨u2, rfl⟩
end CR
