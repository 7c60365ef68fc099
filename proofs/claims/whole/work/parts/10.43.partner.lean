/-! pairs: whom one has, the class -/
def pB (A : AS) (r : Nat) (F : Nat → Bool) (b : Nat) : Bool := (pP A r b && F b) && (1 + dpf (pP A) (r - 1) (del F b) == dpf (pP A) r F)
def fp (A : AS) (r : Nat) (F : Nat → Bool) : Option Nat := first (pB A r F) 0 8
theorem fp_lt {A : AS} {r : Nat} {F : Nat → Bool} {b : Nat} (h : fp A r F = some b) : b < 8 := by
  have := (first_some _ _ _ h).2.1
  omega
/-- after the grooms below g: who is free still, whom the last one has -/
def pS (A : AS) : Nat → (Nat → Bool) × Option Nat
  | 0 => (fun b => Nat.testBit 255 b, none)
  | g + 1 => (match fp A (nG A - g) (pS A g).1 with | none => (pS A g).1 | some b => del (pS A g).1 b, fp A (nG A - g) (pS A g).1)
theorem pS_n {A : AS} {g : Nat} (h : fp A (nG A - g) (pS A g).1 = none) : pS A (g + 1) = ((pS A g).1, none) := by
  show (match fp A (nG A - g) (pS A g).1 with | none => (pS A g).1 | some b => del (pS A g).1 b, fp A (nG A - g) (pS A g).1) = _
  rw [h]
theorem pS_b {A : AS} {g b : Nat} (h : fp A (nG A - g) (pS A g).1 = some b) : pS A (g + 1) = (del (pS A g).1 b, some b) := by
  show (match fp A (nG A - g) (pS A g).1 with | none => (pS A g).1 | some b => del (pS A g).1 b, fp A (nG A - g) (pS A g).1) = _
  rw [h]
theorem pS_2 {A : AS} {g : Nat} : (pS A (g + 1)).2 = fp A (nG A - g) (pS A g).1 := rfl
theorem ins_mk (F : Nat → Bool) {b : Nat} (hb : b < 8) : nI (mk (fun j => !F j) 8) ||| ((1 : Int32) <<< (nI b &&& 31)) = nI (mk (fun j => !(del F b) j) 8) := by
  rw [orS hb]
  congr 1
  exact mk_congr fun i _ => by
    show (!F i || i == b) = !(F i && !(i == b))
    cases F i <;> cases (i == b) <;> rfl
section CP2
variable {t : St} {A : AS}
theorem c_partner (hl : LK t A) (hg5 : nG A ≤ 5) {g : Nat} (hg : g < nG A) (F : Nat → Bool) : f_X3_firstPartner t (nI g) (nI (mk (fun b => !F b) 8)) = some (oI (fp A (nG A - g) F)) := by
  have hd := dpf_le (P := pP A) (nG A - g) F
  rw [f_X3_firstPartner, c_most hl hg5 (r := nG A - g) (by omega), Option.bind_some, FUEL_v]
  have hhead : ∀ f b, b < 8 → f_X3_firstPartner_10 t (nI g) (nI (mk (fun b => !F b) 8)) (nI (dpf (pP A) (nG A - g) F)) (f + 1) (nI b) = (if pB A (nG A - g) F b = true then some (nI b) else f_X3_firstPartner_10 t (nI g) (nI (mk (fun b => !F b) 8)) (nI (dpf (pP A) (nG A - g) F)) f (nI (b + 1))) := fun f b hb => by
    have hd1 := dpf_le (P := pP A) (nG A - g - 1) (del F b)
    have hpp : pP A (nG A - g) b = mhB A g b := by
      unfold pP
      rw [show nG A - (nG A - g) = g by omega]
    rw [f_X3_firstPartner_10, if_neg (show ¬ (8 : Int32) ≤ nI b from nI_ge (b := 8) hb (by omega)), at_in (by omega) (by omega), hl.2 g hg, Option.bind_some, not_mk, has_m _ (mk8_lt _) b (by omega), Option.bind_some, mk_tb, decide_eq_true hb, Bool.true_and, nIs, nIs, ins_mk F hb, c_most hl hg5 (g0 := g + 1) (r := nG A - g - 1) (by omega), Option.bind_some, k1, nI_add, ifE (by omega) (by omega)]
    unfold pB
    rw [hpp]
    cases (mhB A g b && F b) with
    | false => rw [if_neg nft, if_pos ni0, Bool.false_and, if_neg nft]
    | true =>
      rw [if_pos rfl, if_neg ni1, Bool.true_and]
      by_cases c : 1 + dpf (pP A) (nG A - g - 1) (del F b) = dpf (pP A) (nG A - g) F
      · rw [if_pos c, if_pos (beq_iff_eq.mpr c)]
      · rw [if_neg c, if_neg (fun z => c (beq_iff_eq.mp z))]
  have hL := floop (L := fun fuel i => f_X3_firstPartner_10 t (nI g) (nI (mk (fun b => !F b) 8)) (nI (dpf (pP A) (nG A - g) F)) fuel (nI i)) (p := pB A (nG A - g) F) (B := 8) (none_ := some (-9 : Int32)) (some_ := fun b => some (nI b))
    (fun f => by
      show f_X3_firstPartner_10 t _ _ _ (f + 1) (nI 8) = _
      rw [f_X3_firstPartner_10, if_pos (by decide)])
    (fun f i hi hp => by
      show f_X3_firstPartner_10 t _ _ _ (f + 1) (nI i) = _
      rw [hhead f i hi, if_pos hp])
    (fun f i hi hp => by
      show f_X3_firstPartner_10 t _ _ _ (f + 1) (nI i) = f_X3_firstPartner_10 t _ _ _ f (nI (i + 1))
      rw [hhead f i hi, hp, if_neg nft])
    8 0 2000 (by omega) (by omega)
  have hL : f_X3_firstPartner_10 t (nI g) (nI (mk (fun b => !F b) 8)) (nI (dpf (pP A) (nG A - g) F)) 2000 0 = _ := hL
  rw [hL]
  unfold fp
  cases first (pB A (nG A - g) F) 0 8 with
  | none => rfl
  | some b => rfl
theorem c_partnerOf (hl : LK t A) (hg5 : nG A ≤ 5) {g : Nat} (hg : g < nG A) : f_X3_partnerOf t (nI g) = some (oI (pS A (g + 1)).2) := by
  rw [f_X3_partnerOf, FUEL_v]
  have hL := iloop (L := fun fuel i (a : Int32 × Int32) => f_X3_partnerOf_8 t (nI g) fuel a.1 a.2 (nI i)) (a := fun i => (nI (mk (fun b => !(pS A i).1 b) 8), oI (pS A i).2)) (B := g + 1) (r := some (oI (pS A (g + 1)).2))
    (fun f => by
      show f_X3_partnerOf_8 t _ (f + 1) _ _ (nI (g + 1)) = _
      rw [f_X3_partnerOf_8, if_pos (nI_lt (Nat.lt_succ_self g) (by omega))])
    (fun f i hi => by
      show f_X3_partnerOf_8 t (nI g) (f + 1) (nI (mk (fun b => !(pS A i).1 b) 8)) (oI (pS A i).2) (nI i) = f_X3_partnerOf_8 t (nI g) f (nI (mk (fun b => !(pS A (i + 1)).1 b) 8)) (oI (pS A (i + 1)).2) (nI (i + 1))
      rw [f_X3_partnerOf_8, if_neg (nI_nlt (a := g) (b := i) (by omega) (by omega)), hl.1, if_neg (nI_ge (show i < nG A by omega) (by omega)), c_partner hl hg5 (by omega), Option.bind_some, nIs]
      cases hf : fp A (nG A - i) (pS A i).1 with
      | none =>
        rw [if_pos (show oI none = -9 from rfl), pS_n hf]
      | some b =>
        have hb := fp_lt hf
        rw [if_neg (show ¬ oI (some b) = -9 from nI_ne9 (by omega)), show oI (some b) = nI b from rfl, ins_mk _ hb, pS_b hf] <;> rfl)
    (g + 1) 0 2000 (by omega) (by omega)
  have e0 : (0 : Int32) = nI (mk (fun b => !(pS A 0).1 b) 8) := by
    have : mk (fun b => !(pS A 0).1 b) 8 = 0 := by
      show mk (fun b => !(Nat.testBit 255 b)) 8 = 0
      decide
    rw [this] <;> rfl
  have hL : f_X3_partnerOf_8 t (nI g) 2000 (nI (mk (fun b => !(pS A 0).1 b) 8)) (-9) 0 = _ := hL
  rw [← e0] at hL
  exact hL
theorem c_mostAll (hl : LK t A) (hg5 : nG A ≤ 5) : f_X3_most t 0 0 = some (nI (dpf (pP A) (nG A) (fun b => Nat.testBit 255 b))) := by
  have h := c_most hl hg5 (g0 := 0) (r := nG A) (by omega) (fun b => Nat.testBit 255 b)
  have e : mk (fun b => !(Nat.testBit 255 b)) 8 = 0 := by decide
  rw [e] at h
  exact h
end CP2
