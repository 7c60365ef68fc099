/-! feet and minds are drawn, by both -/
def sd (x : Int32) : Nat → Int32
  | 0 => x
  | i + 1 => lcg (sd x i)
def dF (f : Nat → Nat) (x : Int32) (i : Nat) : Nat → Nat := fun b => if b < i then toeD (sd x (b + 1)) else f b
theorem dF_0 (f : Nat → Nat) (x : Int32) : dF f x 0 = f := by
  funext b
  exact if_neg (Nat.not_lt_zero b)
theorem dF_s (f : Nat → Nat) (x : Int32) (i : Nat) : upN (dF f x i) i (toeD (lcg (sd x i))) = dF f x (i + 1) := by
  funext b
  unfold upN dF
  by_cases e : b = i
  · rw [if_pos e, if_pos (by omega), e]; rfl
  · rw [if_neg e]
    by_cases c : b < i
    · rw [if_pos c, if_pos (by omega)]
    · rw [if_neg c, if_neg (by omega)]
theorem setA_self (A : AS) (k : Nat) : setA A k (A k) = A := by
  funext j
  unfold setA
  by_cases e : j = k
  · rw [if_pos e, e]
  · rw [if_neg e]
def drawn (A : AS) (x : Int32) : AS := setA (setA A 2 (dF (A 2) x (nB A))) 6 (dF (A 6) (sd x (nB A)) (nG A))
theorem drawn_WF {A : AS} (w : WF A) (x : Int32) : WF (drawn A x) := by
  refine ⟨w.1, w.2.1, w.2.2.1, fun j hj => ?_, fun j hj => ?_⟩
  · obtain ⟨h1, h2, h3, h4⟩ := w.2.2.2.1 j hj
    refine ⟨h1, h2, ?_, h4⟩
    show dF (A 2) x (nB A) j < 64
    unfold dF
    split
    · exact toe_lt _
    · exact h3
  · obtain ⟨h1, h2, h3⟩ := w.2.2.2.2 j hj
    refine ⟨h1, ?_, h3⟩
    show dF (A 6) (sd x (nB A)) (nG A) j < 64
    unfold dF
    split
    · exact toe_lt _
    · exact h2
theorem c_draw {v : St} {A : AS} (h : RV v A) (w : WF A) (x : Int32) : ∃ v', f_X6_drawFeetAndMinds v x = some (sd (sd x (nB A)) (nG A), v') ∧ RV v' (drawn A x) := by
  have hb8 := w.1
  have hg5 := w.2.1
  rw [f_X6_drawFeetAndMinds, FUEL_v]
  obtain ⟨⟨y, v1⟩, ⟨i1, i2⟩, e1⟩ := sloop (α := Int32 × St) (L := fun fuel i a => f_X6_drawFeetAndMinds_4 fuel a.1 (nI i) a.2 (fun (x2_807 : Int32) (v_808 : St) => f_X6_drawFeetAndMinds_37 2000 x2_807 (0 : Int32) v_808)) (K := fun a => f_X6_drawFeetAndMinds_37 2000 a.1 (0 : Int32) a.2) (B := nB A)
    (fun i a => a.1 = sd x i ∧ RV a.2 (setA A 2 (dF (A 2) x i)))
    (fun f a ha => by
      show f_X6_drawFeetAndMinds_4 (f + 1) _ _ _ _ = _
      rw [f_X6_drawFeetAndMinds_4, ha.2.2.1]
      exact if_pos (nI_le (Nat.le_refl _) (show nB A < 2 ^ 31 by omega)))
    (fun f i a hi ha => by
      obtain ⟨a1, a2⟩ := ha
      refine ⟨(lcg (sd x i), sA a.2 2 (upd (a.2 2) i (nI (toeD (lcg (sd x i)))))), ⟨rfl, ?_⟩, ?_⟩
      · have := RV_2 a2 i (toeD (lcg (sd x i)))
        exact Eq.mp (congrArg (RV _) ((setA_set A 2 _ _).trans (congrArg (setA A 2) (dF_s (A 2) x i)))) this
      · show f_X6_drawFeetAndMinds_4 (f + 1) a.1 (nI i) a.2 _ = f_X6_drawFeetAndMinds_4 f (lcg (sd x i)) (nI (i + 1)) _ _
        have hB : a.2 7 1 = nI (nB A) := a2.2.1
        rw [f_X6_drawFeetAndMinds_4, hB, if_neg (nI_ge hi (by omega)), a1, c_seed, Option.bind_some, c_drawn, Option.bind_some, put_in (by omega) (by omega), Option.bind_some, show nI i + 1 = nI (i + 1) from (nI_succ i).symm])
    (nB A) 0 2000 (x, v) (by omega) (by omega) ⟨rfl, by rw [dF_0, setA_self]; exact h⟩
  have e1 : f_X6_drawFeetAndMinds_4 2000 x 0 v (fun (x2_807 : Int32) (v_808 : St) => f_X6_drawFeetAndMinds_37 2000 x2_807 (0 : Int32) v_808) = f_X6_drawFeetAndMinds_37 2000 y 0 v1 := e1
  have i1 : y = sd x (nB A) := i1
  have i2 : RV v1 (setA A 2 (dF (A 2) x (nB A))) := i2
  rw [e1]
  subst i1
  generalize hA1 : setA A 2 (dF (A 2) x (nB A)) = A1 at i2
  have eG : nG A1 = nG A := by rw [← hA1]; rfl
  have e6 : A1 6 = A 6 := by rw [← hA1]; rfl
  obtain ⟨⟨z, v2⟩, ⟨j1, j2⟩, e2⟩ := sloop (α := Int32 × St) (L := fun fuel i a => f_X6_drawFeetAndMinds_37 fuel a.1 (nI i) a.2) (K := fun a => some a) (B := nG A)
    (fun i a => a.1 = sd (sd x (nB A)) i ∧ RV a.2 (setA A1 6 (dF (A1 6) (sd x (nB A)) i)))
    (fun f a ha => by
      show f_X6_drawFeetAndMinds_37 (f + 1) _ _ _ = _
      have hG : a.2 7 3 = nI (nG A1) := ha.2.2.2.2.1
      rw [f_X6_drawFeetAndMinds_37, hG, eG, if_pos (nI_le (Nat.le_refl _) (by omega))])
    (fun f i a hi ha => by
      obtain ⟨a1, a2⟩ := ha
      refine ⟨(lcg (sd (sd x (nB A)) i), sA a.2 5 (upd (a.2 5) i (nI (toeD (lcg (sd (sd x (nB A)) i)))))), ⟨rfl, ?_⟩, ?_⟩
      · have := RV_5 a2 i (toeD (lcg (sd (sd x (nB A)) i)))
        exact Eq.mp (congrArg (RV _) ((setA_set A1 6 _ _).trans (congrArg (setA A1 6) (dF_s (A1 6) (sd x (nB A)) i)))) this
      · show f_X6_drawFeetAndMinds_37 (f + 1) a.1 (nI i) a.2 = f_X6_drawFeetAndMinds_37 f (lcg (sd (sd x (nB A)) i)) (nI (i + 1)) _
        have hG : a.2 7 3 = nI (nG A1) := a2.2.2.2.1
        rw [f_X6_drawFeetAndMinds_37, hG, eG, if_neg (nI_ge hi (by omega)), a1, c_seed, Option.bind_some, c_drawn, Option.bind_some, f_X6_setMind, put_in (by omega) (by omega), Option.bind_some, Option.bind_some, show nI i + 1 = nI (i + 1) from (nI_succ i).symm])
    (nG A) 0 2000 (sd x (nB A), v1) (by omega) (by omega) ⟨rfl, by rw [dF_0, setA_self]; exact i2⟩
  have e2 : f_X6_drawFeetAndMinds_37 2000 (sd x (nB A)) 0 v1 = some (z, v2) := e2
  have j1 : z = sd (sd x (nB A)) (nG A) := j1
  have j2 : RV v2 (setA A1 6 (dF (A1 6) (sd x (nB A)) (nG A))) := j2
  rw [e2, j1]
  refine ⟨v2, rfl, ?_⟩
  rw [e6] at j2
  unfold drawn
  rw [hA1]
  exact j2
