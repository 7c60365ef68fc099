/-! lots -/
def sq (A : AS) (x : Int32) : Nat → Int32
  | 0 => x
  | i + 1 => sd (sd (sq A x i) (nB A)) (nG A)
def rr (A : AS) (x : Int32) (what i : Nat) : Nat := if what = 0 then (wa (drawn A (sq A x i)) (nG A)).2.1 else (wa (drawn A (sq A x i)) (nG A)).2.2
def sm (A : AS) (x : Int32) (what : Nat) : Nat → Int32
  | 0 => 0
  | i + 1 => sm A x what i + nI (rr A x what i)
theorem d2_WF {A : AS} (w : WF A) (x : Int32) (i : Nat) : WF (setA A 2 (dF (A 2) x i)) := by
  refine ⟨w.1, w.2.1, w.2.2.1, fun j hj => ?_, w.2.2.2.2⟩
  obtain ⟨h1, h2, h3, h4⟩ := w.2.2.2.1 j hj
  refine ⟨h1, h2, ?_, h4⟩
  show dF (A 2) x i j < 64
  unfold dF
  split
  · exact toe_lt _
  · exact h3
theorem c_lots {S : Nat → St} {A : AS} (hv : RV (S 0) A) (w : WF A) (x : Int32) {n what : Nat} (hn : n ≤ 20) (hw : what < 2) : ∃ S', f_X7_lots_44 (nI n) (nI what) 2000 x 0 0 S = some (sm A x what n, S') ∧ ∀ k, k ≠ 1 → S' k = S k := by
  obtain ⟨⟨y, z, S'⟩, ⟨i1, i2, i3⟩, e⟩ := sloop (α := Int32 × Int32 × (Nat → St)) (L := fun fuel i a => f_X7_lots_44 (nI n) (nI what) fuel a.1 a.2.1 (nI i) a.2.2) (K := fun a => some (a.2.1, a.2.2)) (B := n)
    (fun i a => a.1 = sq A x i ∧ a.2.1 = sm A x what i ∧ ∀ k, k ≠ 1 → a.2.2 k = S k)
    (fun f a _ => by
      show f_X7_lots_44 _ _ (f + 1) _ _ _ _ = _
      rw [f_X7_lots_44, if_pos (nI_le (Nat.le_refl _) (by omega))])
    (fun f i a hi ha => by
      obtain ⟨a1, a2, a3⟩ := ha
      have hv' : RV (a.2.2 0) A := by rw [a3 0 (by decide)]; exact hv
      obtain ⟨v1, e1, r1⟩ := c_become (v := a.2.2 1) hv'
      obtain ⟨v2, e2, r2⟩ := c_draw r1 w (sq A x i)
      obtain ⟨v3, e3, r3⟩ := c_wedAll r2 (drawn_WF w _) what hw
      refine ⟨(sq A x (i + 1), sm A x what (i + 1), sS (sS (sS a.2.2 1 v1) 1 v2) 1 v3), ⟨rfl, rfl, fun k hk => ?_⟩, ?_⟩
      · show (if k = 1 then v3 else if k = 1 then v2 else if k = 1 then v1 else a.2.2 k) = S k
        rw [if_neg hk, if_neg hk, if_neg hk]
        exact a3 k hk
      · show f_X7_lots_44 _ _ (f + 1) a.1 a.2.1 (nI i) a.2.2 = f_X7_lots_44 _ _ f _ _ (nI (i + 1)) _
        rw [f_X7_lots_44, if_neg (nI_ge hi (by omega)), e1, Option.bind_some, a1, e2, Option.bind_some, e3, Option.bind_some, a2, show nI i + 1 = nI (i + 1) from (nI_succ i).symm]
        rfl)
    n 0 2000 (x, 0, S) (by omega) (by omega) ⟨rfl, rfl, fun _ _ => rfl⟩
  have e : f_X7_lots_44 (nI n) (nI what) 2000 x 0 0 S = some (z, S') := e
  have i2 : z = sm A x what n := i2
  exact ⟨S', by rw [e, i2], i3⟩
theorem m_lots {s : St} {A : AS} (hm : RM s A) (w : WF A) {x : Int32} (hx : s 23 10 = x) {n what : Nat} (hn : n ≤ 20) (hw : what < 2) : ∃ s', f_X8_lots_50 (nI n) (nI what) 2000 0 0 s = some (sm A x what n, s') ∧ RM s' A ∧ KI s s' := by
  obtain ⟨⟨z, s'⟩, ⟨i1, i2, i3, i4⟩, e⟩ := sloop (α := Int32 × St) (L := fun fuel i a => f_X8_lots_50 (nI n) (nI what) fuel a.1 (nI i) a.2) (K := fun a => some (a.1, a.2)) (B := n)
    (fun i a => a.1 = sm A x what i ∧ a.2 23 10 = sq A x i ∧ RM a.2 A ∧ KI s a.2)
    (fun f a _ => by
      show f_X8_lots_50 _ _ (f + 1) _ _ _ = _
      rw [f_X8_lots_50, if_pos (nI_le (Nat.le_refl _) (by omega))])
    (fun f i a hi ha => by
      obtain ⟨a1, a2, a3, a4⟩ := ha
      obtain ⟨s1, e1, r1, q1, n1⟩ := m_thinks a3
      have t1 := (th_10 e1).trans a2
      obtain ⟨s2, e2, t2, r2, q2⟩ := m_drawF r1 w t1 (fun (v_2320 : St) => f_X8_lots_94 FUEL (0 : Int32) v_2320 (fun (v_2322 : St) => (f_X8_wedsAll v_2322).bind (fun q2323 => (if nI what = 0 then (f_X8_forgets q2323.2).bind (fun q2325 => f_X8_lots_50 (nI n) (nI what) f (a.1 + (q2323.1 / (100 : Int32))) (nI i + (1 : Int32)) q2325 ) else (f_X8_forgets q2323.2).bind (fun q2324 => f_X8_lots_50 (nI n) (nI what) f (a.1 + (q2323.1 - q2323.1 / (100 : Int32) * (100 : Int32))) (nI i + (1 : Int32)) q2324 )))))
      obtain ⟨s3, e3, t3, r3, q3⟩ := m_drawM r2 (d2_WF w _ _) t2 (fun (v_2322 : St) => (f_X8_wedsAll v_2322).bind (fun q2323 => (if nI what = 0 then (f_X8_forgets q2323.2).bind (fun q2325 => f_X8_lots_50 (nI n) (nI what) f (a.1 + (q2323.1 / (100 : Int32))) (nI i + (1 : Int32)) q2325 ) else (f_X8_forgets q2323.2).bind (fun q2324 => f_X8_lots_50 (nI n) (nI what) f (a.1 + (q2323.1 - q2323.1 / (100 : Int32) * (100 : Int32))) (nI i + (1 : Int32)) q2324 ))))
      have r3 : RM s3 (drawn A (sq A x i)) := r3
      have wd := drawn_WF w (sq A x i)
      obtain ⟨s4, e4, r4, q4⟩ := m_wedsAll r3 wd
      obtain ⟨s5, e5, r5, q5⟩ := m_forgets (q4.enc (q3.enc (q2.enc n1)))
      have t5 : s5 23 10 = sq A x (i + 1) := ((fo_10 e5).trans (congrFun (wa_23 e4) 10)).trans t3
      have hle := wa_le (drawn A (sq A x i)) (nG A)
      have hg5 := w.2.1
      have e4 : f_X8_wedsAll s3 = some (nI (100 * (wa (drawn A (sq A x i)) (nG A)).2.1 + (wa (drawn A (sq A x i)) (nG A)).2.2), s4) := e4
      refine ⟨(sm A x what (i + 1), s5), ⟨rfl, t5, r5, ((((a4.tr q1).tr q2.ki).tr q3.ki).tr q4.ki).tr q5.ki⟩, ?_⟩
      show f_X8_lots_50 _ _ (f + 1) a.1 (nI i) a.2 = f_X8_lots_50 _ _ f (sm A x what i + nI (rr A x what i)) (nI (i + 1)) s5
      rw [f_X8_lots_50, if_neg (nI_ge hi (by omega)), e1, Option.bind_some, FUEL_v]
      refine e2.trans ?_
      refine e3.trans ?_
      show (f_X8_wedsAll s3).bind _ = _
      rw [e4, Option.bind_some, a1, show nI i + 1 = nI (i + 1) from (nI_succ i).symm]
      unfold rr
      rcases (show what = 0 ∨ what = 1 by omega) with z | z
      · subst z
        rw [if_pos ni0, if_pos rfl, e5, Option.bind_some, k100, pk_div (by omega) (by omega) (by omega), show (100 * (wa (drawn A (sq A x i)) (nG A)).2.1 + (wa (drawn A (sq A x i)) (nG A)).2.2) / 100 = (wa (drawn A (sq A x i)) (nG A)).2.1 by omega]
      · subst z
        rw [if_neg ni1, if_neg (by omega), e5, Option.bind_some, k100, nI_rem (by omega) (by omega) (by omega), show (100 * (wa (drawn A (sq A x i)) (nG A)).2.1 + (wa (drawn A (sq A x i)) (nG A)).2.2) % 100 = (wa (drawn A (sq A x i)) (nG A)).2.2 by omega])
    n 0 2000 (0, s) (by omega) (by omega) ⟨rfl, hx, hm, KI.rf⟩
  have e : f_X8_lots_50 (nI n) (nI what) 2000 0 0 s = some (z, s') := e
  have i1 : z = sm A x what n := i1
  exact ⟨s', by rw [e, i1], i3, i4⟩
