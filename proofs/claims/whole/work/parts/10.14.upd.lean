/-! writes: one place of a valley, of both; years that go by -/
theorem sloop {α R : Type} {L : Nat → Nat → α → R} {K : α → R} {B : Nat} (I : Nat → α → Prop)
    (hend : ∀ n a, I B a → L (n + 1) B a = K a) (hstep : ∀ n i a, i < B → I i a → ∃ a', I (i + 1) a' ∧ L (n + 1) i a = L n (i + 1) a') :
    ∀ (k i fuel : Nat) (a : α), i + k = B → k < fuel → I i a → ∃ a', I B a' ∧ L fuel i a = K a'
  | 0, i, fuel, a, h1, h2, hI => by
    obtain ⟨f, rfl⟩ : ∃ f, fuel = f + 1 := ⟨fuel - 1, by omega⟩
    have : i = B := by omega
    subst this
    exact ⟨a, hI, hend f a hI⟩
  | k + 1, i, fuel, a, h1, h2, hI => by
    obtain ⟨f, rfl⟩ : ∃ f, fuel = f + 1 := ⟨fuel - 1, by omega⟩
    obtain ⟨a', hI2, e⟩ := hstep f i a (by omega) hI
    rw [e]
    exact sloop I hend hstep k (i + 1) f a' (by omega) (by omega) hI2
theorem up_same {f : Nat → Int32} {g : Nat → Nat} {b x j : Nat} (h : f j = nI (g j)) : upd f b (nI x) j = nI (upN g b x j) := by
  unfold upd upN
  split
  · rfl
  · exact h
theorem upN_same (f : Nat → Nat) (b x : Nat) : upN f b x b = x := if_pos rfl
theorem upN_ne {f : Nat → Nat} {b x j : Nat} (h : j ≠ b) : upN f b x j = f j := if_neg h
section UPV
variable {v : St} {A : AS}
theorem RV_0 (h : RV v A) (b x : Nat) : RV (sA v 0 (upd (v 0) b (nI x))) (setA A 0 (upN (A 0) b x)) :=
  ⟨h.1, h.2.1, h.2.2.1, h.2.2.2.1, h.2.2.2.2.1, fun j hj => ⟨up_same (h.2.2.2.2.2.1 j hj).1, (h.2.2.2.2.2.1 j hj).2⟩, h.2.2.2.2.2.2⟩
theorem RV_1 (h : RV v A) (b x : Nat) : RV (sA v 1 (upd (v 1) b (nI x))) (setA A 1 (upN (A 1) b x)) :=
  ⟨h.1, h.2.1, h.2.2.1, h.2.2.2.1, h.2.2.2.2.1, fun j hj => ⟨(h.2.2.2.2.2.1 j hj).1, up_same (h.2.2.2.2.2.1 j hj).2.1, (h.2.2.2.2.2.1 j hj).2.2⟩, h.2.2.2.2.2.2⟩
theorem RV_2 (h : RV v A) (b x : Nat) : RV (sA v 2 (upd (v 2) b (nI x))) (setA A 2 (upN (A 2) b x)) :=
  ⟨h.1, h.2.1, h.2.2.1, h.2.2.2.1, h.2.2.2.2.1, fun j hj => ⟨(h.2.2.2.2.2.1 j hj).1, (h.2.2.2.2.2.1 j hj).2.1, up_same (h.2.2.2.2.2.1 j hj).2.2.1, (h.2.2.2.2.2.1 j hj).2.2.2⟩, h.2.2.2.2.2.2⟩
theorem RV_3 (h : RV v A) (b x : Nat) : RV (sA v 3 (upd (v 3) b (nI x))) (setA A 3 (upN (A 3) b x)) :=
  ⟨h.1, h.2.1, h.2.2.1, h.2.2.2.1, h.2.2.2.2.1, fun j hj => ⟨(h.2.2.2.2.2.1 j hj).1, (h.2.2.2.2.2.1 j hj).2.1, (h.2.2.2.2.2.1 j hj).2.2.1, up_same (h.2.2.2.2.2.1 j hj).2.2.2⟩, h.2.2.2.2.2.2⟩
theorem RV_4 (h : RV v A) (b x : Nat) : RV (sA v 4 (upd (v 4) b (nI x))) (setA A 5 (upN (A 5) b x)) :=
  ⟨h.1, h.2.1, h.2.2.1, h.2.2.2.1, h.2.2.2.2.1, h.2.2.2.2.2.1, fun j hj => ⟨up_same (h.2.2.2.2.2.2 j hj).1, (h.2.2.2.2.2.2 j hj).2⟩⟩
theorem RV_5 (h : RV v A) (b x : Nat) : RV (sA v 5 (upd (v 5) b (nI x))) (setA A 6 (upN (A 6) b x)) :=
  ⟨h.1, h.2.1, h.2.2.1, h.2.2.2.1, h.2.2.2.2.1, h.2.2.2.2.2.1, fun j hj => ⟨(h.2.2.2.2.2.2 j hj).1, up_same (h.2.2.2.2.2.2 j hj).2.1, (h.2.2.2.2.2.2 j hj).2.2⟩⟩
theorem RV_6 (h : RV v A) (b x : Nat) : RV (sA v 6 (upd (v 6) b (nI x))) (setA A 7 (upN (A 7) b x)) :=
  ⟨h.1, h.2.1, h.2.2.1, h.2.2.2.1, h.2.2.2.2.1, h.2.2.2.2.2.1, fun j hj => ⟨(h.2.2.2.2.2.2 j hj).1, (h.2.2.2.2.2.2 j hj).2.1, up_same (h.2.2.2.2.2.2 j hj).2.2⟩⟩
theorem RV_Y (h : RV v A) (x : Nat) : RV (sA v 7 (upd (v 7) 0 (nI x))) (setA A 9 (upN (A 9) 2 x)) :=
  ⟨rfl, h.2.1, h.2.2.1, h.2.2.2.1, h.2.2.2.2.1, h.2.2.2.2.2.1, h.2.2.2.2.2.2⟩
end UPV
/-- what the reference keeps besides its valley -/
def KP (s s' : St) : Prop := s' 0 = s 0 ∧ s' 10 = s 10 ∧ s' 14 = s 14 ∧ s' 15 = s 15 ∧ s' 23 3 = s 23 3 ∧ s' 23 6 = s 23 6 ∧ s' 23 9 = s 23 9
theorem KP.rf {s : St} : KP s s := ⟨rfl, rfl, rfl, rfl, rfl, rfl, rfl⟩
theorem KP.tr {a b c : St} (h : KP a b) (g : KP b c) : KP a c := ⟨g.1.trans h.1, g.2.1.trans h.2.1, g.2.2.1.trans h.2.2.1, g.2.2.2.1.trans h.2.2.2.1, g.2.2.2.2.1.trans h.2.2.2.2.1, g.2.2.2.2.2.1.trans h.2.2.2.2.2.1, g.2.2.2.2.2.2.trans h.2.2.2.2.2.2⟩
section UPM
variable {s : St} {A : AS}
theorem RM_1 (h : RM s A) (b x : Nat) : RM (sA s 1 (upd (s 1) b (nI x))) (setA A 0 (upN (A 0) b x)) :=
  ⟨h.1, h.2.1, h.2.2.1, fun j hj => ⟨up_same (h.2.2.2.1 j hj).1, (h.2.2.2.1 j hj).2⟩, h.2.2.2.2⟩
theorem RM_2 (h : RM s A) (b x : Nat) : RM (sA s 2 (upd (s 2) b (nI x))) (setA A 1 (upN (A 1) b x)) :=
  ⟨h.1, h.2.1, h.2.2.1, fun j hj => ⟨(h.2.2.2.1 j hj).1, up_same (h.2.2.2.1 j hj).2.1, (h.2.2.2.1 j hj).2.2⟩, h.2.2.2.2⟩
theorem RM_3 (h : RM s A) (b x : Nat) : RM (sA s 3 (upd (s 3) b (nI x))) (setA A 2 (upN (A 2) b x)) :=
  ⟨h.1, h.2.1, h.2.2.1, fun j hj => ⟨(h.2.2.2.1 j hj).1, (h.2.2.2.1 j hj).2.1, up_same (h.2.2.2.1 j hj).2.2.1, (h.2.2.2.1 j hj).2.2.2⟩, h.2.2.2.2⟩
theorem RM_6 (h : RM s A) (b x : Nat) : RM (sA s 6 (upd (s 6) b (nI x))) (setA A 5 (upN (A 5) b x)) :=
  ⟨h.1, h.2.1, h.2.2.1, h.2.2.2.1, fun j hj => ⟨up_same (h.2.2.2.2 j hj).1, (h.2.2.2.2 j hj).2⟩⟩
theorem RM_7 (h : RM s A) (b x : Nat) : RM (sA s 7 (upd (s 7) b (nI x))) (setA A 6 (upN (A 6) b x)) :=
  ⟨h.1, h.2.1, h.2.2.1, h.2.2.2.1, fun j hj => ⟨(h.2.2.2.2 j hj).1, up_same (h.2.2.2.2 j hj).2.1, (h.2.2.2.2 j hj).2.2⟩⟩
theorem RM_8 (h : RM s A) (b x : Nat) : RM (sA s 8 (upd (s 8) b (nI x))) (setA A 7 (upN (A 7) b x)) :=
  ⟨h.1, h.2.1, h.2.2.1, h.2.2.2.1, fun j hj => ⟨(h.2.2.2.2 j hj).1, (h.2.2.2.2 j hj).2.1, up_same (h.2.2.2.2 j hj).2.2.1, (h.2.2.2.2 j hj).2.2.2⟩⟩
theorem RM_9 (h : RM s A) (b x : Nat) : RM (sA s 9 (upd (s 9) b (nI x))) (setA A 8 (upN (A 8) b x)) :=
  ⟨h.1, h.2.1, h.2.2.1, h.2.2.2.1, fun j hj => ⟨(h.2.2.2.2 j hj).1, (h.2.2.2.2 j hj).2.1, (h.2.2.2.2 j hj).2.2.1, up_same (h.2.2.2.2 j hj).2.2.2⟩⟩
theorem RM_Y (h : RM s A) (x : Nat) : RM (sA s 23 (upd (s 23) 2 (nI x))) (setA A 9 (upN (A 9) 2 x)) :=
  ⟨h.1, h.2.1, rfl, h.2.2.2.1, h.2.2.2.2⟩
/-- years sent and the place together -/
theorem RM_54 (h : RM s A) {b x y : Nat} {A' : AS} (h1 : ∀ j, j < 8 → A' 0 j = A 0 j ∧ A' 1 j = A 1 j ∧ A' 2 j = A 2 j) (h2 : ∀ j, j < 5 → A' 5 j = A 5 j ∧ A' 6 j = A 6 j ∧ A' 7 j = A 7 j ∧ A' 8 j = A 8 j) (h3 : A' 9 = A 9) (h4 : ∀ j, j < 8 → j ≠ b → A' 3 j = A 3 j ∧ A' 4 j = A 4 j) (h5 : A' 3 b = x) (h6 : plc A' b = y) :
    RM (sA (sA s 5 (upd (s 5) b (nI x))) 4 (upd (s 4) b (nI y))) A' := by
  refine ⟨?_, ?_, ?_, fun j hj => ?_, fun j hj => ?_⟩
  · show s 23 0 = nI (A' 9 0); rw [h3]; exact h.1
  · show s 23 1 = nI (A' 9 1); rw [h3]; exact h.2.1
  · show s 23 2 = nI (A' 9 2); rw [h3]; exact h.2.2.1
  · obtain ⟨e1, e2, e3⟩ := h1 j hj
    obtain ⟨g1, g2, g3, g4, g5⟩ := h.2.2.2.1 j hj
    rw [e1, e2, e3]
    refine ⟨g1, g2, g3, ?_, ?_⟩
    · show upd (s 4) b (nI y) j = nI (plc A' j)
      unfold upd
      by_cases e : j = b
      · rw [if_pos e, e, h6]
      · rw [if_neg e, g4]
        unfold plc
        rw [(h4 j hj e).1, (h4 j hj e).2]
    · show upd (s 5) b (nI x) j = nI (A' 3 j)
      unfold upd
      by_cases e : j = b
      · rw [if_pos e, e, h5]
      · rw [if_neg e, g5, (h4 j hj e).1]
  · obtain ⟨e1, e2, e3, e4⟩ := h2 j hj
    rw [e1, e2, e3, e4]
    exact h.2.2.2.2 j hj
end UPM
/-! n years on -/
def pass (A : AS) (n : Nat) : AS := setA (setA (setA A 9 (upN (A 9) 2 (nY A + n))) 3 (fun b => A 3 b - n)) 7 (fun g => A 7 g - n)
theorem pass_add (A : AS) (n k : Nat) : pass (pass A n) k = pass A (n + k) := by
  funext i j
  by_cases h7 : i = 7
  · subst h7
    show A 7 j - n - k = A 7 j - (n + k)
    omega
  by_cases h3 : i = 3
  · subst h3
    show A 3 j - n - k = A 3 j - (n + k)
    omega
  by_cases h9 : i = 9
  · subst h9
    show upN (upN (A 9) 2 (nY A + n)) 2 (nY A + n + k) j = upN (A 9) 2 (nY A + (n + k)) j
    unfold upN
    split
    · omega
    · rfl
  simp [pass, setA, h7, h3, h9]
theorem pass_0 (A : AS) : pass A 0 = A := by
  funext i j
  by_cases h7 : i = 7
  · subst h7; rfl
  by_cases h3 : i = 3
  · subst h3; rfl
  by_cases h9 : i = 9
  · subst h9
    show upN (A 9) 2 (nY A) j = A 9 j
    unfold upN
    split
    · rename_i e; rw [e]
    · rfl
  simp [pass, setA, h7, h3, h9]
theorem pass_WF {A : AS} (w : WF A) {n : Nat} (h : nY A + n ≤ 1100) : WF (pass A n) := by
  refine ⟨w.1, w.2.1, h, fun b hb => ?_, fun g hg => ?_⟩
  · obtain ⟨h1, h2, h3, h4, h5, h6, h7⟩ := w.2.2.2.1 b hb
    refine ⟨h1, h2, h3, ?_, h5, ?_, ?_⟩
    · show A 3 b - n ≤ 9; omega
    · intro q; show A 3 b - n = 0; have := h6 q; omega
    · intro q; exact ⟨by show A 3 b - n = 0; have := (h7 q).1; omega, (h7 q).2⟩
  · obtain ⟨h1, h2, h3, h4, h5⟩ := w.2.2.2.2 g hg
    refine ⟨h1, h2, ?_, h4, ?_⟩
    · show A 7 g - n ≤ 9; omega
    · intro q; exact ⟨(h5 q).1, by show A 7 g - n = 0; have := (h5 q).2; omega⟩
theorem shows_pass (A : AS) (n b k : Nat) : shows_ (pass A n) b k = shows_ A b (n + k) := by
  show showsK (pass A n) b (A 0 b) (A 1 b) k = _
  unfold showsK
  have e : nY (pass A n) + k = nY A + (n + k) := by show nY A + n + k = _; omega
  rw [e]
  rfl
theorem hereB_pass (A : AS) (n k b : Nat) : hereB (pass A n) k b = hereB A (n + k) b := by
  show (decide (b < nB A) && (A 4 b == 0 && decide (A 3 b - n ≤ k))) = _
  unfold hereB
  have : decide (A 3 b - n ≤ k) = decide (A 3 b ≤ n + k) := decide_eq_decide.mpr (by omega)
  rw [this]
theorem here_pass (A : AS) (n k : Nat) : here (pass A n) k = here A (n + k) := mk_congr fun b _ => hereB_pass A n k b
theorem gs_pass (A : AS) (a t n k : Nat) : gs (pass A n) a t k = gs A a t (n + k) := mk_congr fun b _ => by
  unfold gsB
  rw [hereB_pass, shows_pass]
theorem know_pass (A : AS) (g n k : Nat) : know (pass A n) g k = know A g (n + k) := by
  unfold know guess
  rw [gs_pass]
  rfl
theorem max_sub {a n : Nat} (ha : a < 2 ^ 30) (hn : n < 2 ^ 30) : (if (0 : Int32) < nI a - nI n then nI a - nI n else (0 : Int32)) = nI (a - n) := by
  by_cases h : n ≤ a
  · rw [pk_sub h]
    by_cases h0 : a - n = 0
    · rw [h0, if_neg (by decide)]; rfl
    · rw [if_pos]
      rw [k0, nI_ltN (by omega) (by omega)]
      omega
  · rw [if_neg (by
      have := pk_sneg (a := a) (b := n) hn (by omega)
      exact fun z => Int32.lt_irrefl (Int32.lt_trans z this)), show a - n = 0 by omega]
    rfl
theorem setA_set (A : AS) (a : Nat) (f g : Nat → Nat) : setA (setA A a f) a g = setA A a g := by
  funext p q
  simp only [setA]
  by_cases e : p = a
  · rw [if_pos e, if_pos e]
  · rw [if_neg e, if_neg e, if_neg e]
theorem up_if (f : Nat → Nat) (n i : Nat) : upN (fun b => if b < i then f b - n else f b) i (f i - n) = fun b => if b < i + 1 then f b - n else f b := by
  funext q
  unfold upN
  by_cases e : q = i
  · subst e
    rw [if_pos rfl, if_pos (Nat.lt_succ_self _)]
  · rw [if_neg e]
    show (if q < i then f q - n else f q) = _
    by_cases e2 : q < i
    · rw [if_pos e2, if_pos (by omega)]
    · rw [if_neg e2, if_neg (by omega)]
section CP
variable {v : St} {A : AS}
theorem c_passYears (h : RV v A) (w : WF A) {n : Nat} (hn : n ≤ 1000) : ∃ v', f_X6_passYears v (nI n) = some v' ∧ RV v' (pass A n) := by
  have hb8 := w.1
  have hg5 := w.2.1
  have hy := w.2.2.1
  have h0 := RV_Y h (nY A + n)
  rw [f_X6_passYears, h.1, nI_add, FUEL_v]
  generalize hA0 : setA A 9 (upN (A 9) 2 (nY A + n)) = A0 at h0
  have eB : nB A0 = nB A := by rw [← hA0]; rfl
  have eG : nG A0 = nG A := by rw [← hA0]; rfl
  have e3 : A0 3 = A 3 := by rw [← hA0]; rfl
  have e7 : A0 7 = A 7 := by rw [← hA0]; rfl
  obtain ⟨v1, hv1, e1⟩ := sloop (L := fun fuel i a => f_X6_passYears_12 (nI n) fuel (nI i) a (fun v_715 => f_X6_passYears_47 (nI n) 2000 (0 : Int32) v_715)) (K := fun a => f_X6_passYears_47 (nI n) 2000 (0 : Int32) a) (B := nB A)
    (fun i a => RV a (setA A0 3 (fun b => if b < i then A 3 b - n else A 3 b)))
    (fun f a ha => by
      show f_X6_passYears_12 (nI n) (f + 1) _ a _ = _
      rw [f_X6_passYears_12, ha.2.1]
      show (if nI (nB A0) ≤ _ then _ else _) = _
      rw [eB, if_pos (nI_le (Nat.le_refl _) (by omega))])
    (fun f i a hi ha => by
      have hs := (ha.2.2.2.2.2.1 i (by omega)).2.2.2
      have hq : setA A0 3 (fun b => if b < i then A 3 b - n else A 3 b) 3 i = A 3 i := by show (if i < i then _ else _) = _; rw [if_neg (Nat.lt_irrefl i)]
      rw [hq] at hs
      have hsn := (w.2.2.2.1 i (by omega)).2.2.2.1
      refine ⟨sA a 3 (upd (a 3) i (nI (A 3 i - n))), ?_, ?_⟩
      rotate_left
      · show f_X6_passYears_12 (nI n) (f + 1) _ a _ = f_X6_passYears_12 (nI n) f _ _ _
        rw [f_X6_passYears_12, ha.2.1]
        show (if nI (nB A0) ≤ _ then _ else _) = _
        rw [eB, if_neg (nI_ge hi (by omega)), f_X6_sentFor, at_in (by omega) (by omega), hs, Option.bind_some, Option.bind_some, max_sub (by omega) (by omega), put_in (by omega) (by omega), Option.bind_some, k1, nI_add]
      · have := RV_3 ha i (A 3 i - n)
        exact Eq.mp (congrArg (RV _) ((setA_set A0 3 _ _).trans (congrArg (setA A0 3) (up_if (A 3) n i)))) this)
    (nB A) 0 2000 _ (by omega) (by omega) (by
      refine Eq.mp (congrArg (RV _) ?_) h0
      funext p q
      simp only [setA]
      split
      · rename_i hp; rw [hp, e3]; simp
      · rfl)
  have e1' : f_X6_passYears_12 (nI n) 2000 (0 : Int32) (sA v 7 (upd (v 7) 0 (nI (nY A + n)))) (fun v_715 => f_X6_passYears_47 (nI n) 2000 (0 : Int32) v_715) = f_X6_passYears_47 (nI n) 2000 (0 : Int32) v1 := e1
  rw [e1']
  clear e1 e1'
  generalize hA1 : setA A0 3 (fun b => if b < nB A then A 3 b - n else A 3 b) = A1 at hv1
  have eG1 : nG A1 = nG A := by rw [← hA1]; exact eG
  have e71 : A1 7 = A 7 := by rw [← hA1]; exact e7
  obtain ⟨v2, hv2, e2⟩ := sloop (L := fun fuel i a => f_X6_passYears_47 (nI n) fuel (nI i) a) (K := fun a => some a) (B := nG A)
    (fun i a => RV a (setA A1 7 (fun g => if g < i then A 7 g - n else A 7 g)))
    (fun f a ha => by
      show f_X6_passYears_47 (nI n) (f + 1) _ a = _
      rw [f_X6_passYears_47, ha.2.2.2.1]
      show (if nI (nG A1) ≤ _ then _ else _) = _
      rw [eG1, if_pos (nI_le (Nat.le_refl _) (by omega))])
    (fun f i a hi ha => by
      have hs := (ha.2.2.2.2.2.2 i (by omega)).2.2
      have hq : setA A1 7 (fun b => if b < i then A 7 b - n else A 7 b) 7 i = A 7 i := by show (if i < i then _ else _) = _; rw [if_neg (Nat.lt_irrefl i)]
      rw [hq] at hs
      have hsn := (w.2.2.2.2 i (by omega)).2.2.1
      refine ⟨sA a 6 (upd (a 6) i (nI (A 7 i - n))), ?_, ?_⟩
      rotate_left
      · show f_X6_passYears_47 (nI n) (f + 1) _ a = f_X6_passYears_47 (nI n) f _ _
        rw [f_X6_passYears_47, ha.2.2.2.1]
        show (if nI (nG A1) ≤ _ then _ else _) = _
        rw [eG1, if_neg (nI_ge hi (by omega)), f_X6_liquorOf, at_in (by omega) (by omega), hs, Option.bind_some, Option.bind_some, max_sub (by omega) (by omega), f_X6_setLiquor, put_in (by omega) (by omega), Option.bind_some, Option.bind_some, k1, nI_add]
      · have := RV_6 ha i (A 7 i - n)
        exact Eq.mp (congrArg (RV _) ((setA_set A1 7 _ _).trans (congrArg (setA A1 7) (up_if (A 7) n i)))) this)
    (nG A) 0 2000 v1 (by omega) (by omega) (by
      refine Eq.mp (congrArg (RV _) ?_) hv1
      funext p q
      simp only [setA]
      split
      · rename_i hp; rw [hp, e71]; simp
      · rfl)
  refine ⟨v2, e2, ?_⟩
  obtain ⟨q1, q2, q3, q4, q5, q6, q7⟩ := hv2
  have t1 : ∀ b, b < 8 → (if b < nB A then A 3 b - n else A 3 b) = A 3 b - n := fun b hb => by
    split
    · rfl
    · have := ((w.2.2.2.1 b hb).2.2.2.2.2.2 (by omega)).1
      omega
  have t2 : ∀ g, g < 5 → (if g < nG A then A 7 g - n else A 7 g) = A 7 g - n := fun g hg => by
    split
    · rfl
    · have := ((w.2.2.2.2 g hg).2.2.2.2 (by omega)).2
      omega
  subst hA1
  subst hA0
  refine ⟨q1, q2, q3, q4, q5, fun b hb => ?_, fun g hg => ?_⟩
  · obtain ⟨a1, a2, a3, a4⟩ := q6 b hb
    exact ⟨a1, a2, a3, a4.trans (congrArg nI (t1 b hb))⟩
  · obtain ⟨a1, a2, a3⟩ := q7 g hg
    exact ⟨a1, a2, a3.trans (congrArg nI (t2 g hg))⟩
end CP
