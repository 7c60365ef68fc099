/-! what she is -/
def badP (A : AS) (c : Nat → Int32) (b k fg i : Nat) : Bool := decide (¬ nI (showsK A b k fg i) = c i)
def shwP (A : AS) (c : Nat → Int32) (n b k fg : Nat) : Bool := (first (badP A c b k fg) 0 n).isNone
section WI
variable {S : Nat → St} {v s t : St} {A : AS} {c : Nat → Int32} {n : Nat}
theorem c_isShownAs (h : RV v A) (w : WF A) (hn : n ≤ 16) (t2 : t 1 0 = nI n) {b k fg : Nat} (hb : b < 8) (hk : k ≤ 5) (hf : fg ≤ 9) : f_X4_isShownAs t v (nI b) (nI k) (nI fg) = some (nI (if shwP A (t 0) n b k fg then 1 else 0)) := by
  rw [f_X4_isShownAs, FUEL_v]
  have hhead : ∀ f i, i < n → f_X4_isShownAs_3 t v (nI b) (nI k) (nI fg) (f + 1) (nI i) = (if badP A (t 0) b k fg i = true then some 0 else f_X4_isShownAs_3 t v (nI b) (nI k) (nI fg) f (nI (i + 1))) := fun f i hi => by
    rw [f_X4_isShownAs_3, t2, if_neg (nI_ge hi (by omega)), c_showsAs h w hb hk hf (by omega), Option.bind_some, at_in (by omega) (by omega), Option.bind_some, nIs]
    unfold badP
    by_cases e : nI (showsK A b k fg i) = t 0 i
    · rw [if_pos e, decide_eq_false (fun z => z e), if_neg nft]
    · rw [if_neg e, decide_eq_true e, if_pos rfl]
  have hL := floop (L := fun fuel i => f_X4_isShownAs_3 t v (nI b) (nI k) (nI fg) fuel (nI i)) (p := badP A (t 0) b k fg) (B := n) (none_ := some (1 : Int32)) (some_ := fun _ => some (0 : Int32))
    (fun f => by
      show f_X4_isShownAs_3 t v _ _ _ (f + 1) _ = _
      rw [f_X4_isShownAs_3, t2, if_pos (nI_le (Nat.le_refl _) (by omega))])
    (fun f i hi hp => by
      show f_X4_isShownAs_3 t v _ _ _ (f + 1) _ = _
      rw [hhead f i hi, if_pos hp])
    (fun f i hi hp => by
      show f_X4_isShownAs_3 t v _ _ _ (f + 1) _ = f_X4_isShownAs_3 t v _ _ _ f (nI (i + 1))
      rw [hhead f i hi, hp, if_neg nft])
    n 0 2000 (by omega) (by omega)
  have hL : f_X4_isShownAs_3 t v (nI b) (nI k) (nI fg) 2000 0 = _ := hL
  rw [hL]
  unfold shwP
  cases first (badP A (t 0) b k fg) 0 n with
  | none => rfl
  | some j => rfl
theorem c_kindsOf (h : RV v A) (w : WF A) (hn : n ≤ 16) (t2 : t 1 0 = nI n) {b : Nat} (hb : b < 8) : f_X4_kindsOf t v (nI b) = some (nI (mk (fun k => shwP A (t 0) n b k (A 1 b)) 6)) := by
  have wb := w.2.2.2.1 b hb
  rw [f_X4_kindsOf, FUEL_v]
  have hL := iloop (L := fun fuel i a => f_X4_kindsOf_5 t v (nI b) fuel a (nI i)) (a := fun i => nI (mk (fun k => shwP A (t 0) n b k (A 1 b)) i)) (B := 6) (r := some (nI (mk (fun k => shwP A (t 0) n b k (A 1 b)) 6)))
    (fun f => by
      show f_X4_kindsOf_5 t v _ (f + 1) _ (nI 6) = _
      rw [f_X4_kindsOf_5, if_pos (by decide)])
    (fun f i hi => by
      show f_X4_kindsOf_5 t v _ (f + 1) _ _ = f_X4_kindsOf_5 t v _ f _ _
      rw [f_X4_kindsOf_5, if_neg (show ¬ (6 : Int32) ≤ nI i from nI_ge (b := 6) hi (by omega)), f_X6_figureOf, at_in (by omega) hb, (h.2.2.2.2.2.1 b hb).2.1, Option.bind_some, Option.bind_some, c_isShownAs h w hn t2 hb (by omega) wb.2.1, Option.bind_some, nIs]
      cases hp : shwP A (t 0) n b i (A 1 b) with
      | true => rw [if_pos rfl, if_neg ni1, orB (by omega), mk_s (p := fun k => shwP A (t 0) n b k (A 1 b)) hp]
      | false => rw [if_neg nft, if_pos ni0, mk_n (p := fun k => shwP A (t 0) n b k (A 1 b)) hp])
    6 0 2000 (by omega) (by omega)
  exact hL
theorem c_figuresOf (h : RV v A) (w : WF A) (hn : n ≤ 16) (t2 : t 1 0 = nI n) {b : Nat} (hb : b < 8) : f_X4_figuresOf t v (nI b) = some (nI (mk (fun k => shwP A (t 0) n b (A 0 b) k) 10)) := by
  have wb := w.2.2.2.1 b hb
  rw [f_X4_figuresOf, FUEL_v]
  have hL := iloop (L := fun fuel i a => f_X4_figuresOf_5 t v (nI b) fuel a (nI i)) (a := fun i => nI (mk (fun k => shwP A (t 0) n b (A 0 b) k) i)) (B := 10) (r := some (nI (mk (fun k => shwP A (t 0) n b (A 0 b) k) 10)))
    (fun f => by
      show f_X4_figuresOf_5 t v _ (f + 1) _ (nI 10) = _
      rw [f_X4_figuresOf_5, if_pos (by decide)])
    (fun f i hi => by
      show f_X4_figuresOf_5 t v _ (f + 1) _ _ = f_X4_figuresOf_5 t v _ f _ _
      rw [f_X4_figuresOf_5, if_neg (show ¬ (9 : Int32) < nI i from nI_nlt (a := 9) (b := i) (by omega) (by omega)), f_X6_kindOf, at_in (by omega) hb, (h.2.2.2.2.2.1 b hb).1, Option.bind_some, Option.bind_some, c_isShownAs h w hn t2 hb wb.1 (by omega), Option.bind_some, nIs]
      cases hp : shwP A (t 0) n b (A 0 b) i with
      | true => rw [if_pos rfl, if_neg ni1, orB (by omega), mk_s (p := fun k => shwP A (t 0) n b (A 0 b) k) hp]
      | false => rw [if_neg nft, if_pos ni0, mk_n (p := fun k => shwP A (t 0) n b (A 0 b) k) hp])
    10 0 2000 (by omega) (by omega)
  exact hL
theorem m_isSo8 (w : WF A) (hy : nY A ≤ 999) (hn : n ≤ 16) {b : Nat} (hb : b < 8) {s0 : St} (t2 : s0 23 9 = nI n) (t3 : ∀ j, j < n → s0 15 j = c j) :
    ∀ (k i fuel : Nat) (v : St), i + k = n → k + 1 < fuel → RM v (pass A i) → KP s0 v → ∃ v' m, RM v' (pass A m) ∧ KP s0 v' ∧ ∀ K, f_X8_isSo_8 (nI b) fuel 1 (nI i) v K = K (nI (if (first (badP A c b (A 0 b) (A 1 b)) i k).isNone then 1 else 0)) v'
  | 0, i, fuel, v, h1, h2, hm, kp => by
    obtain ⟨f, rfl⟩ : ∃ f, fuel = f + 1 := ⟨fuel - 1, by omega⟩
    have : i = n := by omega
    subst this
    have e9 : v 23 9 = nI i := kp.2.2.2.2.2.2.trans t2
    exact ⟨v, i, hm, kp, fun K => by rw [f_X8_isSo_8, e9, if_pos (nI_le (Nat.le_refl _) (by omega))] <;> rfl⟩
  | k + 1, i, fuel, v, h1, h2, hm, kp => by
    obtain ⟨f, rfl⟩ : ∃ f, fuel = f + 2 := ⟨fuel - 2, by omega⟩
    have wi : WF (pass A i) := pass_WF w (n := i) (by omega)
    have e9 : v 23 9 = nI n := kp.2.2.2.2.2.2.trans t2
    have e15 : v 15 i = c i := (congrFun kp.2.2.2.1 i).trans (t3 i (by omega))
    obtain ⟨v2, e2, m2, kp2⟩ := m_goesYear hm wi (by show nY A + i < 1100; omega)
    rw [pass_add] at m2
    have hsh : shows_ (pass A i) b 0 = showsK A b (A 0 b) (A 1 b) i := shows_pass A i b 0
    have hhead : ∀ K, f_X8_isSo_8 (nI b) (f + 2) 1 (nI i) v K = (if nI (showsK A b (A 0 b) (A 1 b) i) = c i then f_X8_isSo_8 (nI b) (f + 1) 1 (nI (i + 1)) v2 K else f_X8_isSo_8 (nI b) (f + 1) 0 (nI (i + 1)) v2 K) := fun K => by
      rw [f_X8_isSo_8, e9, if_neg (nI_ge (show i < n by omega) (by omega)), if_neg n10, m_showsOf hm wi hb, Option.bind_some, hsh, gd_in (by omega) (by omega), nI_clamp (by omega), e15, e2, Option.bind_some, Option.bind_some, nIs]
    by_cases e : nI (showsK A b (A 0 b) (A 1 b) i) = c i
    · obtain ⟨v3, m, q1, q2, q3⟩ := m_isSo8 w hy hn hb t2 t3 k (i + 1) (f + 1) v2 (by omega) (by omega) m2 (kp.tr kp2)
      refine ⟨v3, m, q1, q2, fun K => ?_⟩
      have hb0 : badP A c b (A 0 b) (A 1 b) i = false := decide_eq_false (fun z => z e)
      rw [hhead K, if_pos e, q3, first_s, hb0, if_neg nft]
    · refine ⟨v2, i + 1, m2, kp.tr kp2, fun K => ?_⟩
      have hb1 : badP A c b (A 0 b) (A 1 b) i = true := decide_eq_true e
      rw [hhead K, if_neg e, first_s, hb1, if_pos rfl, f_X8_isSo_8]
      split
      · rfl
      · rw [if_pos rfl]; rfl
theorem m_isSo (hm : RM s A) (w : WF A) (hy : nY A ≤ 999) (hn : n ≤ 16) {b : Nat} (hb : b < 8) (t2 : s 23 9 = nI n) (t3 : ∀ j, j < n → s 15 j = c j) : ∃ s', f_X8_isSo s (nI b) = some (nI (if shwP A c n b (A 0 b) (A 1 b) then 1 else 0), s') ∧ RM s' A ∧ KI s s' := by
  obtain ⟨s1, e1, r1, q1, n1⟩ := m_thinks hm
  have u2 : s1 23 9 = nI n := q1.2.2.2.2.2.2.trans t2
  have u3 : ∀ j, j < n → s1 15 j = c j := fun j hj => (congrFun q1.2.2.2.1 j).trans (t3 j hj)
  obtain ⟨s2, m, r2, q2, e2⟩ := m_isSo8 w hy hn hb u2 u3 n 0 2000 s1 (by omega) (by omega) (by rw [pass_0]; exact r1) KP.rf
  obtain ⟨s3, e3, r3, q3⟩ := m_forgets (q2.enc n1)
  have e2 : ∀ K, f_X8_isSo_8 (nI b) 2000 1 0 s1 K = _ := e2
  refine ⟨s3, ?_, r3, (q1.tr q2.ki).tr q3.ki⟩
  rw [f_X8_isSo, e1, Option.bind_some, FUEL_v, e2, e3, Option.bind_some]
  show gd (isZ (nI (if shwP A c n b (A 0 b) (A 1 b) then 1 else 0))) (some (nI (if shwP A c n b (A 0 b) (A 1 b) then 1 else 0), s3)) = _
  cases shwP A c n b (A 0 b) (A 1 b) with
  | true => rw [if_pos rfl, gdT (by decide)]
  | false => rw [if_neg nft, gdT (by decide)]
theorem RM_1' {q : Nat} (b x : Nat) (h : RM s (setA A 0 (upN (A 0) b q))) : RM (sA s 1 (upd (s 1) b (nI x))) (setA A 0 (upN (A 0) b x)) := by
  have h1 := RM_1 h b x
  rw [setA_set] at h1
  have e : upN (setA A 0 (upN (A 0) b q) 0) b x = upN (A 0) b x := up_up (A 0) b q x
  rw [e] at h1
  exact h1
theorem RM_2' {q : Nat} (b x : Nat) (h : RM s (setA A 1 (upN (A 1) b q))) : RM (sA s 2 (upd (s 2) b (nI x))) (setA A 1 (upN (A 1) b x)) := by
  have h1 := RM_2 h b x
  rw [setA_set] at h1
  have e : upN (setA A 1 (upN (A 1) b q) 1) b x = upN (A 1) b x := up_up (A 1) b q x
  rw [e] at h1
  exact h1
theorem m_kinds (h : RM s A) (w : WF A) (hy : nY A ≤ 999) (hn : n ≤ 16) {b : Nat} (hb : b < 8) (t2 : s 23 9 = nI n) (t3 : ∀ j, j < n → s 15 j = c j) : ∃ s', f_X8_bitsFor s 1 (nI b) 6 = some (nI (mk (fun k => shwP A c n b k (A 1 b)) 6), s') ∧ RM s' A ∧ KI s s' := by
  have hk0 : s 1 b = nI (A 0 b) := (h.2.2.2.1 b hb).1
  rw [f_X8_bitsFor, FUEL_v, show mLen 1 = 8 from rfl, gd_in hb (by omega), nI_clamp (by omega), hk0]
  obtain ⟨⟨x, s1⟩, ⟨i1, i2, q, i3⟩, e⟩ := sloop (α := Int32 × St) (L := fun fuel i a => f_X8_bitsFor_11 1 (nI b) 6 (nI (A 0 b)) fuel a.1 (nI i) a.2) (K := fun a => some (a.1, sA a.2 1 (upd (a.2 1) b (nI (A 0 b))))) (B := 6)
    (fun i a => a.1 = nI (mk (fun k => shwP A c n b k (A 1 b)) i) ∧ KI s a.2 ∧ ∃ q, RM a.2 (setA A 0 (upN (A 0) b q)))
    (fun f a ha => by
      show f_X8_bitsFor_11 1 _ 6 _ (f + 1) a.1 (nI 6) a.2 = _
      rw [f_X8_bitsFor_11, if_pos (by decide), show mLen 1 = 8 from rfl, gd_in hb (by omega), nI_clamp (by omega)])
    (fun f i a hi ha => by
      obtain ⟨a1, a2, q, a3⟩ := ha
      have r2 := RM_1' b i a3
      have k2 : KI s (sA a.2 1 (upd (a.2 1) b (nI i))) := a2.tr (KI.o (by omega) (by omega) (by omega) (by omega) (by omega))
      obtain ⟨s2, e2, r3, k3⟩ := m_isSo (c := c) r2 (WF_0 w b (show i ≤ 5 by omega)) hy hn hb (k2.2.2.2.2.2.2.trans t2) (fun j hj => (congrFun k2.2.2.2.1 j).trans (t3 j hj))
      have hsp : shwP (setA A 0 (upN (A 0) b i)) c n b (setA A 0 (upN (A 0) b i) 0 b) (setA A 0 (upN (A 0) b i) 1 b) = shwP A c n b i (A 1 b) := by
        show shwP (setA A 0 (upN (A 0) b i)) c n b (upN (A 0) b i b) (A 1 b) = _
        rw [upN_same]
        rfl
      rw [hsp] at e2
      refine ⟨(nI (mk (fun k => shwP A c n b k (A 1 b)) (i + 1)), s2), ⟨rfl, k2.tr k3, i, r3⟩, ?_⟩
      show f_X8_bitsFor_11 1 _ 6 _ (f + 1) a.1 (nI i) a.2 = f_X8_bitsFor_11 1 _ 6 _ f _ (nI (i + 1)) s2
      rw [f_X8_bitsFor_11, if_neg (show ¬ (6 : Int32) ≤ nI i from nI_ge (b := 6) hi (by omega)), show mLen 1 = 8 from rfl, gd_in hb (by omega), nI_clamp (by omega), e2, Option.bind_some, or0, nIs, a1]
      cases hp : shwP A c n b i (A 1 b) with
      | true =>
        rw [orB (by omega), mk_s (p := fun k => shwP A c n b k (A 1 b)) hp]
        exact if_neg ni1
      | false =>
        rw [mk_n (p := fun k => shwP A c n b k (A 1 b)) hp]
        exact if_pos ni0)
    6 0 2000 (0, s) (by omega) (by omega) ⟨rfl, KI.rf, A 0 b, by rw [up_self, setA_self]; exact h⟩
  have e : f_X8_bitsFor_11 1 (nI b) 6 (nI (A 0 b)) 2000 0 0 s = some (x, sA s1 1 (upd (s1 1) b (nI (A 0 b)))) := e
  have i1 : x = nI (mk (fun k => shwP A c n b k (A 1 b)) 6) := i1
  have i2 : KI s s1 := i2
  have i3 : RM s1 (setA A 0 (upN (A 0) b q)) := i3
  refine ⟨_, by rw [e, i1], ?_, i2.tr (KI.o (by omega) (by omega) (by omega) (by omega) (by omega))⟩
  have := RM_1' b (A 0 b) i3
  rw [up_self, setA_self] at this
  exact this
theorem m_figures (h : RM s A) (w : WF A) (hy : nY A ≤ 999) (hn : n ≤ 16) {b : Nat} (hb : b < 8) (t2 : s 23 9 = nI n) (t3 : ∀ j, j < n → s 15 j = c j) : ∃ s', f_X8_bitsFor s 2 (nI b) 10 = some (nI (mk (fun k => shwP A c n b (A 0 b) k) 10), s') ∧ RM s' A ∧ KI s s' := by
  have hk0 : s 2 b = nI (A 1 b) := (h.2.2.2.1 b hb).2.1
  rw [f_X8_bitsFor, FUEL_v, show mLen 2 = 8 from rfl, gd_in hb (by omega), nI_clamp (by omega), hk0]
  obtain ⟨⟨x, s1⟩, ⟨i1, i2, q, i3⟩, e⟩ := sloop (α := Int32 × St) (L := fun fuel i a => f_X8_bitsFor_11 2 (nI b) 10 (nI (A 1 b)) fuel a.1 (nI i) a.2) (K := fun a => some (a.1, sA a.2 2 (upd (a.2 2) b (nI (A 1 b))))) (B := 10)
    (fun i a => a.1 = nI (mk (fun k => shwP A c n b (A 0 b) k) i) ∧ KI s a.2 ∧ ∃ q, RM a.2 (setA A 1 (upN (A 1) b q)))
    (fun f a ha => by
      show f_X8_bitsFor_11 2 _ 10 _ (f + 1) a.1 (nI 10) a.2 = _
      rw [f_X8_bitsFor_11, if_pos (by decide), show mLen 2 = 8 from rfl, gd_in hb (by omega), nI_clamp (by omega)])
    (fun f i a hi ha => by
      obtain ⟨a1, a2, q, a3⟩ := ha
      have r2 := RM_2' b i a3
      have k2 : KI s (sA a.2 2 (upd (a.2 2) b (nI i))) := a2.tr (KI.o (by omega) (by omega) (by omega) (by omega) (by omega))
      obtain ⟨s2, e2, r3, k3⟩ := m_isSo (c := c) r2 (WF_1 w b (show i ≤ 9 by omega)) hy hn hb (k2.2.2.2.2.2.2.trans t2) (fun j hj => (congrFun k2.2.2.2.1 j).trans (t3 j hj))
      have hsp : shwP (setA A 1 (upN (A 1) b i)) c n b (setA A 1 (upN (A 1) b i) 0 b) (setA A 1 (upN (A 1) b i) 1 b) = shwP A c n b (A 0 b) i := by
        show shwP (setA A 1 (upN (A 1) b i)) c n b (A 0 b) (upN (A 1) b i b) = _
        rw [upN_same]
        rfl
      rw [hsp] at e2
      refine ⟨(nI (mk (fun k => shwP A c n b (A 0 b) k) (i + 1)), s2), ⟨rfl, k2.tr k3, i, r3⟩, ?_⟩
      show f_X8_bitsFor_11 2 _ 10 _ (f + 1) a.1 (nI i) a.2 = f_X8_bitsFor_11 2 _ 10 _ f _ (nI (i + 1)) s2
      rw [f_X8_bitsFor_11, if_neg (show ¬ (10 : Int32) ≤ nI i from nI_ge (b := 10) hi (by omega)), show mLen 2 = 8 from rfl, gd_in hb (by omega), nI_clamp (by omega), e2, Option.bind_some, or0, nIs, a1]
      cases hp : shwP A c n b (A 0 b) i with
      | true =>
        rw [orB (by omega), mk_s (p := fun k => shwP A c n b (A 0 b) k) hp]
        exact if_neg ni1
      | false =>
        rw [mk_n (p := fun k => shwP A c n b (A 0 b) k) hp]
        exact if_pos ni0)
    10 0 2000 (0, s) (by omega) (by omega) ⟨rfl, KI.rf, A 1 b, by rw [up_self, setA_self]; exact h⟩
  have e : f_X8_bitsFor_11 2 (nI b) 10 (nI (A 1 b)) 2000 0 0 s = some (x, sA s1 2 (upd (s1 2) b (nI (A 1 b)))) := e
  have i1 : x = nI (mk (fun k => shwP A c n b (A 0 b) k) 10) := i1
  have i2 : KI s s1 := i2
  have i3 : RM s1 (setA A 1 (upN (A 1) b q)) := i3
  refine ⟨_, by rw [e, i1], ?_, i2.tr (KI.o (by omega) (by omega) (by omega) (by omega) (by omega))⟩
  have := RM_2' b (A 1 b) i3
  rw [up_self, setA_self] at this
  exact this
end WI
theorem p_whatIs {S : Nat → St} {s : St} (h : REL S s) (x y : Int32) : AG (f_X7_whatIs S x y) (f_X8_whatIs s x y) := by
  have h' := h
  obtain ⟨A, w, hy, hv, hm, hr⟩ := h
  have hb8 := w.1
  obtain ⟨n, hn, t2, t3, t4⟩ := hr.2.1
  have u4 : ∀ j, j < n → s 15 j = S 4 0 j := fun j hj => by
    obtain ⟨c, c1, c2, c3⟩ := t4 j hj
    rw [c2, c3]
  rw [f_X7_whatIs, f_X8_whatIs, c_hasBride hv, m_isBride hm, Option.bind_some, Option.bind_some]
  rcases br_cases (n := nB A) (by omega) x with e | ⟨b, hbB, rfl, e⟩
  · rw [e, if_pos rfl, if_pos rfl, f_X8_whatIs_27, if_neg nm1]; exact ag_no h' 1 (by omega) (by decide)
  have hb : b < 8 := by omega
  rw [e, if_neg n10, if_neg n10]
  rcases either_cases y with ⟨rfl, e5, e6⟩ | ⟨rfl, e5, e6⟩ | ⟨h3, h4, e5, e6⟩
  · obtain ⟨s', e7, r7, k7⟩ := m_kinds hm w hy hn hb t3 u4
    rw [e5, Option.bind_some, if_pos rfl, if_pos rfl, c_kindsOf hv w hn t2 hb, Option.bind_some, e6, Option.bind_some, if_neg n10, f_X8_whatIs_27, if_pos rfl, if_pos rfl, e7, Option.bind_some]
    exact ag_same w hy hv hr k7 r7 _
  · obtain ⟨s', e7, r7, k7⟩ := m_figures hm w hy hn hb t3 u4
    rw [e5, Option.bind_some, if_pos rfl, if_neg n10, c_figuresOf hv w hn t2 hb, Option.bind_some, e6, Option.bind_some, if_neg n10, f_X8_whatIs_27, if_pos rfl, if_neg n10, e7, Option.bind_some]
    exact ag_same w hy hv hr k7 r7 _
  · rw [e5, Option.bind_some, if_neg n10, e6, Option.bind_some, if_pos rfl, f_X8_whatIs_27, if_neg nm2]; exact ag_no h' 2 (by omega) (by decide)
