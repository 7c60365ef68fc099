/-! the reference draws -/
theorem m_drawF {s : St} {A : AS} (h : RM s A) (w : WF A) {x : Int32} (hx : s 23 10 = x) (K : St → Option (Int32 × St)) : ∃ s', f_X8_lots_63 2000 0 s K = K s' ∧ s' 23 10 = sd x (nB A) ∧ RM s' (setA A 2 (dF (A 2) x (nB A))) ∧ KP s s' := by
  have hb8 := w.1
  obtain ⟨s', ⟨i1, i2, i3⟩, e1⟩ := sloop (L := fun fuel i a => f_X8_lots_63 fuel (nI i) a K) (K := K) (B := nB A)
    (fun i a => a 23 10 = sd x i ∧ RM a (setA A 2 (dF (A 2) x i)) ∧ KP s a)
    (fun f a ha => by
      show f_X8_lots_63 (f + 1) _ _ _ = _
      have hB : a 23 0 = nI (nB A) := ha.2.1.1
      rw [f_X8_lots_63, hB, if_pos (nI_le (Nat.le_refl _) (by omega))])
    (fun f i a hi ha => by
      obtain ⟨a1, a2, a3⟩ := ha
      have hB : a 23 0 = nI (nB A) := a2.1
      have r0 : RM (sA a 23 (upd (a 23) 10 (lcg (sd x i)))) (setA A 2 (dF (A 2) x i)) := ⟨a2.1, a2.2.1, a2.2.2.1, a2.2.2.2.1, a2.2.2.2.2⟩
      refine ⟨sA (sA a 23 (upd (a 23) 10 (lcg (sd x i)))) 3 (upd (a 3) i (nI (toeD (lcg (sd x i))))), ⟨rfl, ?_, a3.tr ⟨rfl, rfl, rfl, rfl, rfl, rfl, rfl⟩⟩, ?_⟩
      · have := RM_3 r0 i (toeD (lcg (sd x i)))
        exact Eq.mp (congrArg (RM _) ((setA_set A 2 _ _).trans (congrArg (setA A 2) (dF_s (A 2) x i)))) this
      · show f_X8_lots_63 (f + 1) (nI i) a K = f_X8_lots_63 f (nI (i + 1)) _ K
        rw [f_X8_lots_63, hB, if_neg (nI_ge hi (by omega)), m_draw, a1, Option.bind_some, gd_in (by omega) (by omega), nI_clamp (by omega), show nI i + 1 = nI (i + 1) from (nI_succ i).symm]
        rfl)
    (nB A) 0 2000 s (by omega) (by omega) ⟨hx, by rw [dF_0, setA_self]; exact h, KP.rf⟩
  exact ⟨s', e1, i1, i2, i3⟩
theorem m_drawM {s : St} {A : AS} (h : RM s A) (w : WF A) {x : Int32} (hx : s 23 10 = x) (K : St → Option (Int32 × St)) : ∃ s', f_X8_lots_94 2000 0 s K = K s' ∧ s' 23 10 = sd x (nG A) ∧ RM s' (setA A 6 (dF (A 6) x (nG A))) ∧ KP s s' := by
  have hg5 := w.2.1
  obtain ⟨s', ⟨i1, i2, i3⟩, e1⟩ := sloop (L := fun fuel i a => f_X8_lots_94 fuel (nI i) a K) (K := K) (B := nG A)
    (fun i a => a 23 10 = sd x i ∧ RM a (setA A 6 (dF (A 6) x i)) ∧ KP s a)
    (fun f a ha => by
      show f_X8_lots_94 (f + 1) _ _ _ = _
      have hG : a 23 1 = nI (nG A) := ha.2.1.2.1
      rw [f_X8_lots_94, hG, if_pos (nI_le (Nat.le_refl _) (by omega))])
    (fun f i a hi ha => by
      obtain ⟨a1, a2, a3⟩ := ha
      have hG : a 23 1 = nI (nG A) := a2.2.1
      have r0 : RM (sA a 23 (upd (a 23) 10 (lcg (sd x i)))) (setA A 6 (dF (A 6) x i)) := ⟨a2.1, a2.2.1, a2.2.2.1, a2.2.2.2.1, a2.2.2.2.2⟩
      refine ⟨sA (sA a 23 (upd (a 23) 10 (lcg (sd x i)))) 7 (upd (a 7) i (nI (toeD (lcg (sd x i))))), ⟨rfl, ?_, a3.tr ⟨rfl, rfl, rfl, rfl, rfl, rfl, rfl⟩⟩, ?_⟩
      · have := RM_7 r0 i (toeD (lcg (sd x i)))
        exact Eq.mp (congrArg (RM _) ((setA_set A 6 _ _).trans (congrArg (setA A 6) (dF_s (A 6) x i)))) this
      · show f_X8_lots_94 (f + 1) (nI i) a K = f_X8_lots_94 f (nI (i + 1)) _ K
        rw [f_X8_lots_94, hG, if_neg (nI_ge hi (by omega)), m_draw, a1, Option.bind_some, gd_in (by omega) (by omega), nI_clamp (by omega), show nI i + 1 = nI (i + 1) from (nI_succ i).symm]
        rfl)
    (nG A) 0 2000 s (by omega) (by omega) ⟨hx, by rw [dF_0, setA_self]; exact h, KP.rf⟩
  exact ⟨s', e1, i1, i2, i3⟩
