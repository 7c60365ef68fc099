/-! hide, forget -/
theorem notm : ∀ a, a < 64 → ∀ t, t < 64 → nI a &&& (nI t ^^^ (-1 : Int32)) = nI (a &&& (63 ^^^ t)) := by decide +kernel
theorem only_none : ∀ m, m < 256 → (onlyOf m).isNone = decide (¬ cnt m = 1) := by decide +kernel
def hdA (A : AS) (b t : Nat) : AS := setA A 2 (upN (A 2) b (A 2 b ^^^ t))
def hdP (A : AS) (b t : Nat) : Bool := !(kb (hdA A b t)).testBit b
theorem hd_WF {A : AS} (w : WF A) {b t : Nat} (hb : b < 8) (ht : t < 64) : WF (hdA A b t) := WF_2 w b (xor_lt (w.2.2.2.1 b hb).2.2.1 ht)
theorem hd_has {A : AS} {b t : Nat} {α : Sort _} {x y : α} : (if nI (if (kb (hdA A b t)).testBit b then 1 else 0) = 0 then x else y) = if hdP A b t = true then x else y := by
  unfold hdP
  cases (kb (hdA A b t)).testBit b with
  | true => rw [if_pos rfl, if_neg ni1, Bool.not_true, if_neg nft]
  | false => rw [if_neg nft, if_pos ni0, Bool.not_false, if_pos rfl]
theorem c_hide {v : St} {A : AS} (h : RV v A) (w : WF A) {b : Nat} (hb : b < 8) : ∀ (k i fuel : Nat) (u : St), i + k = 64 → k < fuel → ∃ u', f_X0_fewestToes_11 v (nI b) 64 fuel (nI i) u = some ((match first (fun k => hdP A b (ord k)) i k with | some j => nI (ord j) | none => -9), u')
  | 0, i, fuel, u, h1, h2 => by
    obtain ⟨f, rfl⟩ : ∃ f, fuel = f + 1 := ⟨fuel - 1, by omega⟩
    have : i = 64 := by omega
    subst this
    exact ⟨u, by rw [f_X0_fewestToes_11, if_pos (by decide)] <;> rfl⟩
  | k + 1, i, fuel, u, h1, h2 => by
    obtain ⟨f, rfl⟩ : ∃ f, fuel = f + 1 := ⟨fuel - 1, by omega⟩
    obtain ⟨u1, e1, r1⟩ := c_become (v := u) h
    have ho := ord_lt i (by omega)
    have r2 : RV (sA u1 2 (upd (u1 2) b (nI (A 2 b ^^^ ord i)))) (hdA A b (ord i)) := RV_2 r1 b (A 2 b ^^^ ord i)
    have w2 := hd_WF w hb ho
    have hhead : f_X0_fewestToes_11 v (nI b) 64 (f + 1) (nI i) u = (if hdP A b (ord i) = true then some (nI (ord i), sA u1 2 (upd (u1 2) b (nI (A 2 b ^^^ ord i)))) else f_X0_fewestToes_11 v (nI b) 64 f (nI (i + 1)) (sA u1 2 (upd (u1 2) b (nI (A 2 b ^^^ ord i))))) := by
      rw [f_X0_fewestToes_11, if_neg (show ¬ (64 : Int32) ≤ nI i from nI_ge (b := 64) (by omega) (by omega)), gd_in (by omega) (by omega), nI_clamp (by omega), ffT_o i (by omega), e1, Option.bind_some, f_X6_changeToes, f_X6_footOf, at_in (by omega) hb, (r1.2.2.2.2.2.1 b hb).2.2.1, Option.bind_some, Option.bind_some, nI_xor, put_in (by omega) hb, Option.bind_some, Option.bind_some, c_knownBits r2 w2, Option.bind_some, has_m _ (kb_lt _) b (by omega), Option.bind_some, hd_has, nIs]
    rw [hhead, first_s]
    cases hp : hdP A b (ord i) with
    | true => exact ⟨_, by rw [if_pos rfl, if_pos rfl]⟩
    | false =>
      rw [if_neg nft, if_neg nft]
      exact c_hide h w hb k (i + 1) f _ (by omega) (by omega)
theorem up_up (f : Nat → Nat) (b x y : Nat) : upN (upN f b x) b y = upN f b y := by
  funext q
  unfold upN
  by_cases e : q = b
  · rw [if_pos e, if_pos e]
  · rw [if_neg e, if_neg e, if_neg e]
theorem up_self (f : Nat → Nat) (b : Nat) : upN f b (f b) = f := by
  funext q
  unfold upN
  by_cases e : q = b
  · rw [if_pos e, e]
  · rw [if_neg e]
theorem RM_3' {s : St} {A : AS} {q : Nat} (b x : Nat) (h : RM s (setA A 2 (upN (A 2) b q))) : RM (sA s 3 (upd (s 3) b (nI x))) (setA A 2 (upN (A 2) b x)) := by
  have h1 := RM_3 h b x
  rw [setA_set] at h1
  have e : upN (setA A 2 (upN (A 2) b q) 2) b x = upN (A 2) b x := up_up (A 2) b q x
  rw [e] at h1
  exact h1
theorem m_hide {s : St} {A : AS} (h : RM s A) (w : WF A) {b : Nat} (hb : b < 8) : ∃ s', f_X8_hide_52 (nI b) (nI (A 2 b)) 2000 (-9) 0 s = some (oI (bst (hdP A b) 64), s') ∧ RM s' A ∧ KI s s' := by
  have hft := (w.2.2.2.1 b hb).2.2.1
  obtain ⟨⟨x, s1⟩, ⟨i1, i2, q, i3⟩, e⟩ := sloop (α := Int32 × St) (L := fun fuel i a => f_X8_hide_52 (nI b) (nI (A 2 b)) fuel a.1 (nI i) a.2) (K := fun a => some (a.1, sA a.2 3 (upd (a.2 3) b (nI (A 2 b))))) (B := 64)
    (fun i a => a.1 = oI (bst (hdP A b) i) ∧ KI s a.2 ∧ ∃ q, RM a.2 (setA A 2 (upN (A 2) b q)))
    (fun f a ha => by
      show f_X8_hide_52 _ _ (f + 1) a.1 (nI 64) a.2 = _
      rw [f_X8_hide_52, if_pos (by decide), gd_in hb (by omega), nI_clamp (by omega)])
    (fun f i a hi ha => by
      obtain ⟨a1, a2, q, a3⟩ := ha
      have r2 : RM (sA a.2 3 (upd (a.2 3) b (nI (A 2 b ^^^ i)))) (hdA A b i) := RM_3' b (A 2 b ^^^ i) a3
      refine ⟨(oI (bst (hdP A b) (i + 1)), sA a.2 3 (upd (a.2 3) b (nI (A 2 b ^^^ i)))), ⟨rfl, a2.tr (KI.o (by omega) (by omega) (by omega) (by omega) (by omega)), A 2 b ^^^ i, r2⟩, ?_⟩
      show f_X8_hide_52 _ _ (f + 1) a.1 (nI i) a.2 = f_X8_hide_52 _ _ f (oI (bst (hdP A b) (i + 1))) (nI (i + 1)) _
      rw [f_X8_hide_52, if_neg (show ¬ (63 : Int32) < nI i from nI_nlt (a := 63) (b := i) (by omega) (by omega)), gd_in hb (by omega), nI_clamp (by omega), nI_xor, m_knownOnes r2 (hd_WF w hb hi), Option.bind_some, mhas_m _ (kb_lt _) b (by omega), Option.bind_some, hd_has, nIs, a1]
      cases hp : hdP A b i with
      | false =>
        rw [if_neg nft]
        cases hb2 : bst (hdP A b) i with
        | none => rw [bst_s1 hb2, hp, if_neg nft]
        | some j => rw [bst_s2 hb2, hp, Bool.false_and, if_neg nft]
      | true =>
        rw [if_pos rfl]
        cases hb2 : bst (hdP A b) i with
        | none => rw [if_pos (show oI none < 0 by decide), bst_s1 hb2, hp, if_pos rfl] <;> rfl
        | some j =>
          have hj := bst_lt hb2
          have c1 := cnt_le6 i hi
          have c2 := cnt_le6 j (by omega)
          rw [show oI (some j) = nI j from rfl, if_neg (nI_pos (by omega)), bits_m i (by omega), Option.bind_some, bits_m j (by omega), Option.bind_some, ifL (by omega) (by omega), bst_s2 hb2, hp, Bool.true_and]
          by_cases c : cnt j ≤ cnt i
          · rw [if_pos c, decide_eq_false (show ¬ cnt i < cnt j by omega), if_neg nft] <;> rfl
          · rw [if_neg c, decide_eq_true (show cnt i < cnt j by omega), if_pos rfl] <;> rfl)
    64 0 2000 (-9, s) (by omega) (by omega) ⟨rfl, KI.rf, A 2 b, by rw [up_self, setA_self]; exact h⟩
  have e : f_X8_hide_52 (nI b) (nI (A 2 b)) 2000 (-9) 0 s = some (x, sA s1 3 (upd (s1 3) b (nI (A 2 b)))) := e
  have i1 : x = oI (bst (hdP A b) 64) := i1
  have i2 : KI s s1 := i2
  have i3 : RM s1 (setA A 2 (upN (A 2) b q)) := i3
  refine ⟨_, by rw [e, i1], ?_, i2.tr (KI.o (by omega) (by omega) (by omega) (by omega) (by omega))⟩
  have := RM_3' b (A 2 b) i3
  rw [up_self, setA_self] at this
  exact this
theorem p_hide {S : Nat → St} {s : St} (h : REL S s) (x : Int32) : AG (f_X7_hide S x) (f_X8_hide s x) := by
  have h' := h
  obtain ⟨A, w, hy, hv, hm, hr⟩ := h
  have hb8 := w.1
  rw [f_X7_hide, f_X8_hide, c_hasBride hv, m_isBride hm, Option.bind_some, Option.bind_some]
  rcases br_cases (n := nB A) (by omega) x with e | ⟨b, hbB, rfl, e⟩
  · rw [e, if_pos rfl, if_pos rfl, f_X8_hide_27, if_neg nm1]; exact ag_no h' 1 (by omega) (by decide)
  have hb : b < 8 := by omega
  obtain ⟨m1, m2, m3, m4, m5⟩ := hm.2.2.2.1 b hb
  have hpl := plc_le (A := A) (b := b)
  rw [e, if_neg n10, if_neg n10, c_isHere hv w hb, Option.bind_some, gd_in hb (by omega), nI_clamp (by omega), m4, ifZ (a := plc A b) (by omega)]
  by_cases c : plc A b = 0
  · obtain ⟨u', e1⟩ := c_hide hv w hb 64 0 2000 (S 1) (by omega) (by omega)
    obtain ⟨s', e2, r2, k2⟩ := m_hide hm w hb
    have e1 : f_X0_fewestToes_11 (S 0) (nI b) 64 2000 0 (S 1) = _ := e1
    have e3 : (match first (fun k => hdP A b (ord k)) 0 64 with | some j => nI (ord j) | none => (-9 : Int32)) = oI (bst (hdP A b) 64) := by
      rw [← fst_bst]
      cases first (fun k => hdP A b (ord k)) 0 64 with
      | none => rfl
      | some k => rfl
    rw [if_pos c, if_pos c, if_neg ni1, f_X0_fewestToes, FUEL_v, e1, Option.bind_some, f_X8_hide_27, if_pos rfl, gd_in hb (by omega), nI_clamp (by omega), m3, FUEL_v, e2, e3]
    exact ag_th (S' := sS S 1 u') w hy hv hr k2 r2 rfl rfl rfl rfl rfl _
  · rw [if_neg c, if_neg c, if_pos ni0, f_X8_hide_27, if_neg nm3]; exact ag_no h' 3 (by omega) (by decide)
/-! forget -/
def fgM (A : AS) (g t : Nat) : Nat := gs A (A 5 g &&& (63 ^^^ t)) (A 6 g) 0
def fgP (A : AS) (g t : Nat) : Bool := (t &&& (63 ^^^ A 5 g) == 0) && (onlyOf (fgM A g t)).isNone
theorem c_forget {v : St} {A : AS} (h : RV v A) (w : WF A) {g : Nat} (hg : g < 5) : f_X0_fewestForgotten v (nI g) = some (oI (bst (fgP A g) 64)) := by
  have wg := w.2.2.2.2 g hg
  have hl : A 5 g < 64 := wg.1
  rw [f_X0_fewestForgotten, f_X6_lookOf, at_in (by omega) hg, (h.2.2.2.2.2.2 g hg).1, Option.bind_some, Option.bind_some, FUEL_v]
  have hhead : ∀ f i, i < 64 → f_X0_fewestForgotten_17 v (nI g) (nI (A 5 g)) 64 (f + 1) (nI i) = (if fgP A g (ord i) = true then some (nI (ord i)) else f_X0_fewestForgotten_17 v (nI g) (nI (A 5 g)) 64 f (nI (i + 1))) := fun f i hi => by
    have ho := ord_lt i hi
    have hlt : A 5 g &&& (63 ^^^ ord i) < 64 := Nat.lt_of_le_of_lt Nat.and_le_left hl
    have hz : ord i &&& (63 ^^^ A 5 g) < 2 ^ 31 := Nat.lt_of_le_of_lt Nat.and_le_left (by omega)
    rw [f_X0_fewestForgotten_17, if_neg (show ¬ (64 : Int32) ≤ nI i from nI_ge (b := 64) hi (by omega)), gd_in hi (by omega), nI_clamp (by omega), ffT_o i hi, notm _ ho _ hl, ifZ hz]
    unfold fgP
    by_cases c : ord i &&& (63 ^^^ A 5 g) = 0
    · rw [if_pos c, show (ord i &&& (63 ^^^ A 5 g) == 0) = true from beq_iff_eq.mpr c, Bool.true_and, f_X0_fewestForgotten_44, if_neg n10, notm _ hl _ ho, show f_X6_guessesBy v (nI g) (nI (A 5 g &&& (63 ^^^ ord i))) 0 = _ from c_guessesBy h w (n := 0) hg hlt (by omega), Option.bind_some, onlyOne_m _ (gs_lt A _ _ _), Option.bind_some, nIs]
      unfold fgM
      cases ho : onlyOf (gs A (A 5 g &&& (63 ^^^ ord i)) (A 6 g) 0) with
      | none => rw [if_pos (show oI none = -9 from rfl), if_pos (show (none : Option Nat).isNone = true from rfl)]
      | some b =>
        have := (onlyOf_lt ho).1
        rw [if_neg (show ¬ oI (some b) = -9 from nI_ne9 (by omega)), if_neg (show ¬ (some b).isNone = true by intro z; cases z)]
    · rw [if_neg c, show (ord i &&& (63 ^^^ A 5 g) == 0) = false from beq_eq_false_iff_ne.mpr c, Bool.false_and, if_neg nft, f_X0_fewestForgotten_44, if_pos rfl, nIs]
  have hL := floop (L := fun fuel i => f_X0_fewestForgotten_17 v (nI g) (nI (A 5 g)) 64 fuel (nI i)) (p := fun k => fgP A g (ord k)) (B := 64) (none_ := some (-9 : Int32)) (some_ := fun k => some (nI (ord k)))
    (fun f => by
      show f_X0_fewestForgotten_17 v _ _ 64 (f + 1) (nI 64) = _
      rw [f_X0_fewestForgotten_17, if_pos (by decide)])
    (fun f i hi hp => by
      show f_X0_fewestForgotten_17 v _ _ 64 (f + 1) (nI i) = _
      rw [hhead f i hi, if_pos hp])
    (fun f i hi hp => by
      show f_X0_fewestForgotten_17 v _ _ 64 (f + 1) (nI i) = f_X0_fewestForgotten_17 v _ _ 64 f (nI (i + 1))
      rw [hhead f i hi, hp, if_neg nft])
    64 0 2000 (by omega) (by omega)
  have hL : f_X0_fewestForgotten_17 v (nI g) (nI (A 5 g)) 64 2000 0 = _ := hL
  rw [hL, ← fst_bst]
  cases first (fun k => fgP A g (ord k)) 0 64 with
  | none => rfl
  | some k => rfl
theorem m_forget {s : St} {A : AS} (h : RM s A) (w : WF A) {g : Nat} (hg : g < 5) : f_X8_forget_45 s (nI g) 2000 (-9) 0 = some (oI (bst (fgP A g) 64), s) := by
  have wg := w.2.2.2.2 g hg
  have hl : A 5 g < 64 := wg.1
  obtain ⟨r1, r2, -⟩ := h.2.2.2.2 g hg
  have h85 : ∀ i x B, i < 64 → f_X8_forget_85 s (nI g) x (nI i) B = if (onlyOf (fgM A g i)).isNone = true then B (nI i) (nI (i + 1)) else B x (nI (i + 1)) := fun i x B hi => by
    have hlt : A 5 g &&& (63 ^^^ i) < 64 := Nat.lt_of_le_of_lt Nat.and_le_left hl
    have hm := gs_lt A (A 5 g &&& (63 ^^^ i)) (A 6 g) 0
    have hc := cnt_le _ hm
    rw [f_X8_forget_85, gd_in hg (by omega), gd_in hg (by omega), nI_clamp (by omega), r1, r2, notm _ hl _ hi, m_guessesBy h w hlt wg.2.1, Option.bind_some, bits_m _ hm, Option.bind_some, k1, ifE (by omega) (by omega), ← k1, nIs]
    unfold fgM
    rw [only_none _ hm]
    by_cases c : cnt (gs A (A 5 g &&& (63 ^^^ i)) (A 6 g) 0) = 1
    · rw [if_pos c, if_neg (by rw [decide_eq_false (fun z => z c)]; exact nft)]
    · rw [if_neg c, if_pos (decide_eq_true c)]
  have hL := iloop (L := fun fuel i a => f_X8_forget_45 s (nI g) fuel a (nI i)) (a := fun i => oI (bst (fgP A g) i)) (B := 64) (r := some (oI (bst (fgP A g) 64), s))
    (fun f => by
      show f_X8_forget_45 s _ (f + 1) _ (nI 64) = _
      rw [f_X8_forget_45, if_pos (by decide)])
    (fun f i hi => by
      show f_X8_forget_45 s _ (f + 1) (oI (bst (fgP A g) i)) (nI i) = f_X8_forget_45 s _ f (oI (bst (fgP A g) (i + 1))) (nI (i + 1))
      have hz : i &&& (63 ^^^ A 5 g) < 2 ^ 31 := Nat.lt_of_le_of_lt Nat.and_le_left (by omega)
      have hfg : fgP A g i = ((i &&& (63 ^^^ A 5 g) == 0) && (onlyOf (fgM A g i)).isNone) := rfl
      rw [f_X8_forget_45, if_neg (show ¬ (63 : Int32) < nI i from nI_nlt (a := 63) (b := i) (by omega) (by omega)), gd_in hg (by omega), nI_clamp (by omega), r1, notm _ hi _ hl, ifZ hz]
      by_cases c : i &&& (63 ^^^ A 5 g) = 0
      · rw [show (i &&& (63 ^^^ A 5 g) == 0) = true from beq_iff_eq.mpr c, Bool.true_and] at hfg
        rw [if_pos c]
        cases hb : bst (fgP A g) i with
        | none =>
          rw [if_pos (show oI none < 0 by decide), h85 i _ _ hi, bst_s1 hb, hfg]
          cases (onlyOf (fgM A g i)).isNone with
          | true => rw [if_pos rfl, if_pos rfl] <;> rfl
          | false => rw [if_neg nft, if_neg nft]
        | some j =>
          have hj := bst_lt hb
          have c1 := cnt_le6 i hi
          have c2 := cnt_le6 j (by omega)
          rw [show oI (some j) = nI j from rfl, if_neg (nI_pos (by omega)), bits_m i (by omega), Option.bind_some, bits_m j (by omega), Option.bind_some, ifLt (by omega) (by omega), h85 i _ _ hi, bst_s2 hb, hfg]
          by_cases c : cnt i < cnt j
          · rw [if_pos c, decide_eq_true c, Bool.and_true]
            cases (onlyOf (fgM A g i)).isNone with
            | true => rw [if_pos rfl, if_pos rfl] <;> rfl
            | false => rw [if_neg nft, if_neg nft] <;> rfl
          · rw [if_neg c, decide_eq_false c, Bool.and_false, if_neg nft, nIs] <;> rfl
      · rw [show (i &&& (63 ^^^ A 5 g) == 0) = false from beq_eq_false_iff_ne.mpr c, Bool.false_and] at hfg
        rw [if_neg c, nIs]
        cases hb : bst (fgP A g) i with
        | none => rw [bst_s1 hb, hfg, if_neg nft]
        | some j => rw [bst_s2 hb, hfg, Bool.false_and, if_neg nft])
    64 0 2000 (by omega) (by omega)
  have hL : f_X8_forget_45 s (nI g) 2000 (-9) 0 = _ := hL
  exact hL
theorem p_forget {S : Nat → St} {s : St} (h : REL S s) (x : Int32) : AG (f_X7_forget S x) (f_X8_forget s x) := by
  have h' := h
  obtain ⟨A, w, hy, hv, hm, hr⟩ := h
  have hg5 := w.2.1
  rw [f_X7_forget, f_X8_forget, c_hasGroomI hv, m_isGroom hm, Option.bind_some, Option.bind_some]
  rcases br_cases (n := nG A) (by omega) x with e | ⟨g, hgG, rfl, e⟩
  · rw [e, if_pos rfl, if_pos rfl, f_X8_forget_28, if_neg nm1]; exact ag_no h' 1 (by omega) (by decide)
  have hg : g < 5 := by omega
  obtain ⟨m1, m2, m3, m4⟩ := hm.2.2.2.2 g hg
  have h8 := (w.2.2.2.2 g hg).2.2.2.1
  rw [e, if_neg n10, if_neg n10, c_isUnmarried hv w hg, Option.bind_some, gd_in hg (by omega), nI_clamp (by omega), m4]
  rcases (show A 8 g = 0 ∨ A 8 g = 1 by omega) with e8 | e8
  · rw [e8, if_neg (show ¬ (0 : Nat) = 1 by decide), if_neg ni1, if_neg (show ¬ nI 0 = 1 by decide), c_forget hv w hg, Option.bind_some, f_X8_forget_28, if_pos rfl, FUEL_v, m_forget hm w hg]
    exact ag_rd h' _
  · rw [e8, if_pos rfl, if_pos ni0, if_pos (show nI 1 = 1 from rfl), f_X8_forget_28, if_neg nm3]; exact ag_no h' 3 (by omega) (by decide)
