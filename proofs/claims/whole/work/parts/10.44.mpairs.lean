/-! pairs: the reference's table -/
def FR (s s' : St) : Prop := ∀ k, k < 17 ∨ k = 23 → s' k = s k
theorem FR.rf {s : St} : FR s s := fun _ _ => rfl
theorem FR.tr {a b c : St} (h : FR a b) (g : FR b c) : FR a c := fun k hk => (g k hk).trans (h k hk)
theorem FR.up {s s' : St} (h : FR s s') {g : Nat} (hg : g < 6) (f : Nat → Int32) : FR s (sA s' (17 + g) f) := fun k hk => (sA_ne (by omega)).trans (h k hk)
theorem FR.rm {s s' : St} {A : AS} (f : FR s s') (h : RM s A) : RM s' A := by
  refine ⟨?_, ?_, ?_, fun b hb => ?_, fun g hg => ?_⟩
  · rw [f 23 (by omega)]; exact h.1
  · rw [f 23 (by omega)]; exact h.2.1
  · rw [f 23 (by omega)]; exact h.2.2.1
  · rw [f 1 (by omega), f 2 (by omega), f 3 (by omega), f 4 (by omega), f 5 (by omega)]; exact h.2.2.2.1 b hb
  · rw [f 6 (by omega), f 7 (by omega), f 8 (by omega), f 9 (by omega)]; exact h.2.2.2.2 g hg
theorem FR.ki {s s' : St} (f : FR s s') : KI s s' := ⟨f 0 (by omega), f 10 (by omega), fun j _ => congrFun (f 14 (by omega)) j, f 15 (by omega), congrFun (f 23 (by omega)) 3, congrFun (f 23 (by omega)) 6, congrFun (f 23 (by omega)) 9⟩
/-- only the row of one groom is another -/
def OF (g : Nat) (s s' : St) : Prop := ∀ k, k ≠ 17 + g → s' k = s k
theorem OF.rf {g : Nat} {s : St} : OF g s s := fun _ _ => rfl
theorem OF.tr {g : Nat} {a b c : St} (h : OF g a b) (k : OF g b c) : OF g a c := fun j hj => (k j hj).trans (h j hj)
theorem OF.up {g : Nat} {s s' : St} (h : OF g s s') (f : Nat → Int32) : OF g s (sA s' (17 + g) f) := fun k hk => (sA_ne hk).trans (h k hk)
theorem OF.fr {g : Nat} {s s' : St} (h : OF g s s') (hg : g < 6) : FR s s' := fun k hk => h k (by omega)
/-- the row of the groom at r from the end is right -/
def RWt (s : St) (A : AS) (g : Nat) : Prop := ∀ m, m < 256 → s (17 + g) m = nI (dpf (pP A) (nG A - g) (fun b => m.testBit b))
section MP
variable {s : St} {A : AS}
theorem m_zero (h : RM s A) (hg5 : nG A ≤ 5) (K : St → Option St) : ∃ s', f_X8_findPairs_2 2000 0 s K = K s' ∧ FR s s' ∧ RWt s' A (nG A) := by
  obtain ⟨s', ⟨i1, i2⟩, e⟩ := sloop (L := fun fuel i a => f_X8_findPairs_2 fuel (nI i) a K) (K := K) (B := 256)
    (fun i a => FR s a ∧ ∀ m, m < i → a (17 + nG A) m = 0)
    (fun f a _ => by
      show f_X8_findPairs_2 (f + 1) (nI 256) a K = _
      rw [f_X8_findPairs_2, if_pos (by decide)])
    (fun f i a hi ha => by
      obtain ⟨a1, a2⟩ := ha
      have hG : a 23 1 = nI (nG A) := (congrFun (a1 23 (by omega)) 1).trans h.2.1
      refine ⟨sA a (17 + nG A) (upd (a (17 + nG A)) i 0), ⟨a1.up (by omega) _, fun m hm => ?_⟩, ?_⟩
      · rw [sA_eq]
        by_cases e : m = i
        · rw [e, upd_eq]
        · rw [upd_ne e]; exact a2 m (by omega)
      · show f_X8_findPairs_2 (f + 1) (nI i) a K = f_X8_findPairs_2 f (nI (i + 1)) _ K
        rw [f_X8_findPairs_2, if_neg (show ¬ (256 : Int32) ≤ nI i from nI_ge (b := 256) hi (by omega)), hG, gd_in (show nG A < 6 by omega) (by omega), gd_in hi (by omega), nI_clamp (n := nG A) (by omega), nI_clamp (n := i) (by omega), nIs])
    256 0 2000 s (by omega) (by omega) ⟨FR.rf, fun m hm => by omega⟩
  have e : f_X8_findPairs_2 2000 0 s K = K s' := e
  refine ⟨s', e, i1, fun m hm => ?_⟩
  rw [i2 m hm, Nat.sub_self] <;> rfl
theorem m_copy {g : Nat} (hg : g < 5) (K : St → Option St) : ∃ s', f_X8_findPairs_40 (nI g) 2000 0 s K = K s' ∧ OF g s s' ∧ ∀ m, m < 256 → s' (17 + g) m = s (17 + (g + 1)) m := by
  obtain ⟨s', ⟨i1, i2⟩, e⟩ := sloop (L := fun fuel i a => f_X8_findPairs_40 (nI g) fuel (nI i) a K) (K := K) (B := 256)
    (fun i a => OF g s a ∧ ∀ m, m < i → a (17 + g) m = s (17 + (g + 1)) m)
    (fun f a _ => by
      show f_X8_findPairs_40 _ (f + 1) (nI 256) a K = _
      rw [f_X8_findPairs_40, if_pos (by decide)])
    (fun f i a hi ha => by
      obtain ⟨a1, a2⟩ := ha
      refine ⟨sA a (17 + g) (upd (a (17 + g)) i (s (17 + (g + 1)) i)), ⟨a1.up _, fun m hm => ?_⟩, ?_⟩
      · rw [sA_eq]
        by_cases e : m = i
        · rw [e, upd_eq]
        · rw [upd_ne e]; exact a2 m (by omega)
      · show f_X8_findPairs_40 _ (f + 1) (nI i) a K = f_X8_findPairs_40 _ f (nI (i + 1)) _ K
        rw [f_X8_findPairs_40, if_neg (show ¬ (256 : Int32) ≤ nI i from nI_ge (b := 256) hi (by omega)), nIs, nIs, gd_in (show g < 6 by omega) (by omega), gd_in (show g + 1 < 6 by omega) (by omega), gd_in hi (by omega), gd_in hi (by omega), nI_clamp (n := g) (by omega), nI_clamp (n := i) (by omega), nI_clamp (n := g + 1) (by omega), a1 (17 + (g + 1)) (by omega)])
    256 0 2000 s (by omega) (by omega) ⟨OF.rf, fun m hm => by omega⟩
  have e : f_X8_findPairs_40 (nI g) 2000 0 s K = K s' := e
  exact ⟨s', e, i1, fun m hm => i2 m hm⟩
theorem m_isPair (h : RM s A) (w : WF A) {g b : Nat} (hg : g < 5) (hb : b < nB A) : f_X8_isPair s (nI g) (nI b) = some (nI (if mhB A g b then 1 else 0)) := by
  have hb8 := w.1
  have h8 := (w.2.2.2.2 g hg).2.2.2.1
  have hpl := plc_le (A := A) (b := b)
  rw [f_X8_isPair, gd_in hg (by omega), nI_clamp (n := g) (by omega), (h.2.2.2.2 g hg).2.2.2, ifZ (by omega)]
  unfold mhB
  by_cases e : A 8 g = 0
  · rw [if_pos e, gd_in (show b < 8 by omega) (by omega), nI_clamp (n := b) (by omega), (h.2.2.2.1 b (by omega)).2.2.2.1, ifZ (by omega), if_iff (here_iff w hb), show (A 8 g == 0) = true from beq_iff_eq.mpr e, Bool.true_and]
    cases hereB A 0 b with
    | false => rw [if_neg nft, Bool.false_and, if_neg nft] <;> rfl
    | true =>
      rw [if_pos rfl, m_knows h w hg, Option.bind_some, if_iff (oI_eq2 (show b < 8 by omega) know_8), Bool.true_and]
      by_cases c : know A g 0 = some b
      · rw [if_pos c, beq_iff_eq.mpr c, Bool.not_true, if_neg nft] <;> rfl
      · rw [if_neg c, beq_eq_false_iff_ne.mpr c, Bool.not_false, if_pos rfl] <;> rfl
  · rw [if_neg e, show (A 8 g == 0) = false from beq_eq_false_iff_ne.mpr e, Bool.false_and, if_neg nft] <;> rfl
theorem m_with {g b : Nat} (hg : g < 5) (hb : b < 8) {cu nx : Nat → Nat} (h1 : ∀ m, m < 256 → s (17 + g) m = nI (cu m)) (h2 : ∀ m, m < 256 → s (17 + (g + 1)) m = nI (nx m)) (b1 : ∀ m, cu m < 100) (b2 : ∀ m, nx m < 100) :
    ∃ s', f_X8_findPairsWith s (nI g) (nI b) = some s' ∧ OF g s s' ∧ ∀ m, m < 256 → s' (17 + g) m = nI (if m.testBit b then max (cu m) (1 + nx (m &&& (255 ^^^ 2 ^ b))) else cu m) := by
  obtain ⟨s', ⟨i1, i2⟩, e⟩ := sloop (L := fun fuel i a => f_X8_findPairsWith_2 (nI g) (nI b) fuel (nI i) a) (K := fun a => some a) (B := 256)
    (fun i a => OF g s a ∧ ∀ m, m < 256 → a (17 + g) m = nI (if decide (m < i) && m.testBit b then max (cu m) (1 + nx (m &&& (255 ^^^ 2 ^ b))) else cu m))
    (fun f a _ => by
      show f_X8_findPairsWith_2 _ _ (f + 1) (nI 256) a = _
      rw [f_X8_findPairsWith_2, if_pos (by decide)])
    (fun f i a hi ha => by
      obtain ⟨a1, a2⟩ := ha
      have hai : a (17 + g) i = nI (cu i) := by
        rw [a2 i hi, decide_eq_false (Nat.lt_irrefl i), Bool.false_and, if_neg nft]
      have hc := clr_lt (b := b) hi
      have hnx : a (17 + (g + 1)) (i &&& (255 ^^^ 2 ^ b)) = nI (nx (i &&& (255 ^^^ 2 ^ b))) := (congrFun (a1 (17 + (g + 1)) (by omega)) _).trans (h2 _ hc)
      have q1 := b1 i
      have q2 := b2 (i &&& (255 ^^^ 2 ^ b))
      have hhead : f_X8_findPairsWith_2 (nI g) (nI b) (f + 1) (nI i) a = (if i.testBit b = true then f_X8_findPairsWith_2 (nI g) (nI b) f (nI (i + 1)) (sA a (17 + g) (upd (a (17 + g)) i (nI (max (cu i) (1 + nx (i &&& (255 ^^^ 2 ^ b))))))) else f_X8_findPairsWith_2 (nI g) (nI b) f (nI (i + 1)) a) := by
        rw [f_X8_findPairsWith_2, if_neg (show ¬ (256 : Int32) ≤ nI i from nI_ge (b := 256) hi (by omega)), mhas_m i hi b (by omega), Option.bind_some, nIs, nIs, clr i hi b hb]
        cases i.testBit b with
        | false => rw [if_neg nft, if_pos ni0, if_neg nft]
        | true =>
          rw [if_pos rfl, if_neg ni1, if_pos rfl, gd_in (show g + 1 < 6 by omega) (by omega), gd_in hc (by omega), gd_in (show g < 6 by omega) (by omega), gd_in (show g < 6 by omega) (by omega), gd_in hi (by omega), nI_clamp (n := g) (by omega), nI_clamp (n := i) (by omega), nI_clamp (n := g + 1) (by omega), nI_clamp (n := i &&& (255 ^^^ 2 ^ b)) (by omega), hai, hnx, k1, nI_add, ifL (by omega) (by omega)]
          by_cases c : 1 + nx (i &&& (255 ^^^ 2 ^ b)) ≤ cu i
          · rw [if_pos c, gd_in (show g < 6 by omega) (by omega), gd_in hi (by omega), gd_in hi (by omega), Nat.max_eq_left c]
          · rw [if_neg c, gd_in hi (by omega), Nat.max_eq_right (by omega)]
      cases hb2 : i.testBit b with
      | true =>
        rw [hb2, if_pos rfl] at hhead
        refine ⟨_, ⟨a1.up (upd (a (17 + g)) i (nI (max (cu i) (1 + nx (i &&& (255 ^^^ 2 ^ b)))))), fun m hm => ?_⟩, hhead⟩
        rw [sA_eq]
        by_cases e : m = i
        · rw [e, upd_eq, decide_eq_true (Nat.lt_succ_self i), hb2] <;> rfl
        · rw [upd_ne e, a2 m hm]
          have : decide (m < i + 1) = decide (m < i) := decide_eq_decide.mpr (by omega)
          rw [this]
      | false =>
        rw [hb2, if_neg nft] at hhead
        refine ⟨a, ⟨a1, fun m hm => ?_⟩, hhead⟩
        rw [a2 m hm]
        by_cases e : m = i
        · rw [e, hb2, Bool.and_false, Bool.and_false]
        · have : decide (m < i + 1) = decide (m < i) := decide_eq_decide.mpr (by omega)
          rw [this])
    256 0 2000 s (by omega) (by omega) ⟨OF.rf, fun m hm => by rw [decide_eq_false (Nat.not_lt_zero m), Bool.false_and, if_neg nft]; exact h1 m hm⟩
  have e : f_X8_findPairsWith_2 (nI g) (nI b) 2000 0 s = some s' := e
  refine ⟨s', by rw [f_X8_findPairsWith, FUEL_v, e], i1, fun m hm => ?_⟩
  rw [i2 m hm, decide_eq_true hm, Bool.true_and]
theorem mxf_more {c : Nat → Bool} {f : Nat → Nat} {z n : Nat} (h : ∀ i, n ≤ i → c i = false) : ∀ k, mxf c f z (n + k) = mxf c f z n
  | 0 => rfl
  | k + 1 => by
    rw [show n + (k + 1) = n + k + 1 by omega, mxf_f (h (n + k) (by omega)), mxf_more h k]
/-- one row more -/
theorem m_row (h : RM s A) (w : WF A) {g : Nat} (hg : g < nG A) (hn : RWt s A (g + 1)) (hcp : ∀ m, m < 256 → s (17 + g) m = s (17 + (g + 1)) m) (K : St → Option St) : ∃ s', f_X8_findPairs_73 (nI g) 2000 0 s K = K s' ∧ OF g s s' ∧ RWt s' A g := by
  have hb8 := w.1
  have hg5 := w.2.1
  have hgl : nG A - g = (nG A - (g + 1)) + 1 := by omega
  obtain ⟨s', ⟨i1, i2⟩, e⟩ := sloop (L := fun fuel i a => f_X8_findPairs_73 (nI g) fuel (nI i) a K) (K := K) (B := nB A)
    (fun i a => OF g s a ∧ ∀ m, m < 256 → a (17 + g) m = nI (mxf (fun b => pP A (nG A - g) b && m.testBit b) (fun b => 1 + dpf (pP A) (nG A - (g + 1)) (del (fun j => m.testBit j) b)) (dpf (pP A) (nG A - (g + 1)) (fun j => m.testBit j)) i))
    (fun f a ha => by
      show f_X8_findPairs_73 _ (f + 1) _ a K = _
      have hB : a 23 0 = nI (nB A) := (congrFun (ha.1 23 (by omega)) 0).trans h.1
      rw [f_X8_findPairs_73, hB, if_pos (nI_le (Nat.le_refl _) (by omega))])
    (fun f i a hi ha => by
      obtain ⟨a1, a2⟩ := ha
      have hB : a 23 0 = nI (nB A) := (congrFun (a1 23 (by omega)) 0).trans h.1
      have hra := (a1.fr (by omega)).rm h
      have hpp : pP A (nG A - g) i = mhB A g i := by
        unfold pP
        rw [show nG A - (nG A - g) = g by omega]
      have hhead : f_X8_findPairs_73 (nI g) (f + 1) (nI i) a K = (if mhB A g i = true then (f_X8_findPairsWith a (nI g) (nI i)).bind (fun q2069 => f_X8_findPairs_73 (nI g) f (nI (i + 1)) q2069 K) else f_X8_findPairs_73 (nI g) f (nI (i + 1)) a K) := by
        rw [f_X8_findPairs_73, hB, if_neg (nI_ge hi (by omega)), m_isPair hra w (by omega) hi, Option.bind_some, nIs]
        cases mhB A g i with
        | true => rw [if_pos rfl, if_neg ni1, if_pos rfl]
        | false => rw [if_neg nft, if_pos ni0, if_neg nft]
      have hbd : ∀ m : Nat, mxf (fun b => pP A (nG A - g) b && m.testBit b) (fun b => 1 + dpf (pP A) (nG A - (g + 1)) (del (fun j => m.testBit j) b)) (dpf (pP A) (nG A - (g + 1)) (fun j => m.testBit j)) i < 100 := fun m => by
        have hd := dpf_le (P := pP A) (nG A - (g + 1)) (fun j => m.testBit j)
        rcases mxf_or (c := fun b => pP A (nG A - g) b && m.testBit b) (f := fun b => 1 + dpf (pP A) (nG A - (g + 1)) (del (fun j => m.testBit j) b)) (z := dpf (pP A) (nG A - (g + 1)) (fun j => m.testBit j)) i with q | ⟨b, q1, q2, q3⟩
        · rw [q]; omega
        · rw [q3]
          have := dpf_le (P := pP A) (nG A - (g + 1)) (del (fun j => m.testBit j) b)
          show 1 + dpf (pP A) (nG A - (g + 1)) (del (fun j => m.testBit j) b) < 100
          omega
      cases hm : mhB A g i with
      | true =>
        obtain ⟨s2, e2, o2, r2⟩ := m_with (s := a) (g := g) (b := i) (by omega) (by omega) (nx := fun m => dpf (pP A) (nG A - (g + 1)) (fun j => m.testBit j)) a2 (fun m hm => (congrFun (a1 (17 + (g + 1)) (by omega)) m).trans (hn m hm)) hbd (fun m => by
          have := dpf_le (P := pP A) (nG A - (g + 1)) (fun j => m.testBit j)
          show dpf (pP A) (nG A - (g + 1)) (fun j => m.testBit j) < 100
          omega)
        refine ⟨s2, ⟨a1.tr o2, fun m hm2 => ?_⟩, ?_⟩
        · rw [r2 m hm2, clr_fun hm2 (by omega)]
          cases ht : m.testBit i with
          | true =>
            have hc : (fun b => pP A (nG A - g) b && m.testBit b) i = true := by
              show (pP A (nG A - g) i && m.testBit i) = true
              rw [hpp, hm, ht] <;> rfl
            rw [mxf_t hc, if_pos rfl]
          | false =>
            have hc : (fun b => pP A (nG A - g) b && m.testBit b) i = false := by
              show (pP A (nG A - g) i && m.testBit i) = false
              rw [ht, Bool.and_false]
            rw [mxf_f hc, if_neg nft]
        · show f_X8_findPairs_73 (nI g) (f + 1) (nI i) a K = f_X8_findPairs_73 (nI g) f (nI (i + 1)) s2 K
          rw [hhead, hm, if_pos rfl, e2, Option.bind_some]
      | false =>
        refine ⟨a, ⟨a1, fun m hm2 => ?_⟩, ?_⟩
        · have hc : (fun b => pP A (nG A - g) b && m.testBit b) i = false := by
            show (pP A (nG A - g) i && m.testBit i) = false
            rw [hpp, hm, Bool.false_and]
          rw [mxf_f hc]
          exact a2 m hm2
        · show f_X8_findPairs_73 (nI g) (f + 1) (nI i) a K = f_X8_findPairs_73 (nI g) f (nI (i + 1)) a K
          rw [hhead, hm, if_neg nft])
    (nB A) 0 2000 s (by omega) (by omega) ⟨OF.rf, fun m hm => (hcp m hm).trans (hn m hm)⟩
  have e : f_X8_findPairs_73 (nI g) 2000 0 s K = K s' := e
  refine ⟨s', e, i1, fun m hm => ?_⟩
  rw [i2 m hm, hgl]
  show _ = nI (mxf (fun b => pP A (nG A - (g + 1) + 1) b && m.testBit b) (fun b => 1 + dpf (pP A) (nG A - (g + 1)) (del (fun j => m.testBit j) b)) (dpf (pP A) (nG A - (g + 1)) (fun j => m.testBit j)) 8)
  rw [← hgl]
  have := mxf_more (c := fun b => pP A (nG A - g) b && m.testBit b) (f := fun b => 1 + dpf (pP A) (nG A - (g + 1)) (del (fun j => m.testBit j) b)) (z := dpf (pP A) (nG A - (g + 1)) (fun j => m.testBit j)) (n := nB A) (fun i hi => by
    show (pP A (nG A - g) i && m.testBit i) = false
    unfold pP
    rw [mhB_ge hi, Bool.false_and]) (8 - nB A)
  rw [show nB A + (8 - nB A) = 8 by omega] at this
  rw [this]
theorem dec1 : ∀ a, a < 6 → 0 < a → nI a + (-1 : Int32) = nI (a - 1) := by decide
theorem m_levels (w : WF A) : ∀ (d r fuel : Nat) (v : St), r + d = nG A → d < fuel → RM v A → (∀ g, nG A - r ≤ g → g ≤ nG A → RWt v A g) → ∃ v', f_X8_findPairs_34 fuel (nI (nG A - r) + (-1 : Int32)) v = some v' ∧ FR v v' ∧ ∀ g, g ≤ nG A → RWt v' A g
  | 0, r, fuel, v, h1, h2, h3, h4 => by
    obtain ⟨f, rfl⟩ : ∃ f, fuel = f + 1 := ⟨fuel - 1, by omega⟩
    refine ⟨v, ?_, FR.rf, fun g hg => h4 g (by omega) hg⟩
    rw [show nG A - r = 0 by omega, f_X8_findPairs_34, if_pos (by decide)]
  | d + 1, r, fuel, v, h1, h2, h3, h4 => by
    have hg5 := w.2.1
    obtain ⟨f, rfl⟩ : ∃ f, fuel = f + 1 := ⟨fuel - 1, by omega⟩
    generalize hgd : nG A - r - 1 = g
    have hg : g < nG A := by omega
    obtain ⟨s1, e1, o1, c1⟩ := m_copy (s := v) (g := g) (by omega) (fun (v_2067 : St) => f_X8_findPairs_73 (nI g) 2000 (0 : Int32) v_2067 (fun (v_2070 : St) => f_X8_findPairs_34 f (nI g + (-1 : Int32)) v_2070))
    have r1 := (o1.fr (by omega)).rm h3
    have n1 : RWt s1 A (g + 1) := fun m hm => (congrFun (o1 (17 + (g + 1)) (by omega)) m).trans (h4 (g + 1) (by omega) (by omega) m hm)
    obtain ⟨s2, e2, o2, c2⟩ := m_row r1 w hg n1 (fun m hm => (c1 m hm).trans (congrFun (o1 (17 + (g + 1)) (by omega)) m).symm) (fun (v_2070 : St) => f_X8_findPairs_34 f (nI g + (-1 : Int32)) v_2070)
    have o12 := o1.tr o2
    have r2 := (o12.fr (by omega)).rm h3
    have hgr : nG A - (r + 1) = g := by omega
    obtain ⟨v', e3, f3, w3⟩ := m_levels w d (r + 1) f s2 (by omega) (by omega) r2 (fun j hj hj2 => by
      by_cases e : j = g
      · rw [e]; exact c2
      · exact fun m hm => (congrFun (o12 (17 + j) (by omega)) m).trans (h4 j (by omega) hj2 m hm))
    refine ⟨v', ?_, (o12.fr (by omega)).tr f3, w3⟩
    rw [dec1 (nG A - r) (by omega) (by omega), hgd, f_X8_findPairs_34, if_neg (nI_pos (by omega)), FUEL_v, e1]
    show f_X8_findPairs_73 (nI g) 2000 (0 : Int32) s1 (fun (v_2070 : St) => f_X8_findPairs_34 f (nI g + (-1 : Int32)) v_2070) = _
    rw [e2]
    show f_X8_findPairs_34 f (nI g + (-1 : Int32)) s2 = _
    rw [← hgr]
    exact e3
theorem m_findPairs (h : RM s A) (w : WF A) : ∃ s', f_X8_findPairs s = some s' ∧ FR s s' ∧ ∀ g, g ≤ nG A → RWt s' A g := by
  have hg5 := w.2.1
  obtain ⟨s1, e1, f1, z1⟩ := m_zero h hg5 (fun (v_2066 : St) => f_X8_findPairs_34 2000 ((v_2066 23 1) - (1 : Int32)) v_2066)
  have r1 := f1.rm h
  obtain ⟨s2, e2, f2, z2⟩ := m_levels w (nG A) 0 2000 s1 (by omega) (by omega) r1 (fun g h1 h2 => by
    have : g = nG A := by omega
    rw [this]; exact z1)
  refine ⟨s2, ?_, f1.tr f2, z2⟩
  have hm1 : ∀ g, g < 6 → nI g - (1 : Int32) = nI g + (-1 : Int32) := by decide
  have hG : s1 23 1 = nI (nG A) := r1.2.1
  rw [f_X8_findPairs, FUEL_v, e1]
  show f_X8_findPairs_34 2000 ((s1 23 1) - (1 : Int32)) s1 = _
  rw [hG, hm1 _ (by omega)]
  exact e2
end MP
