/-! meant and loses -/
theorem nIs (i : Nat) : nI i + 1 = nI (i + 1) := (nI_succ i).symm
def oth (A : AS) (g b : Nat) : Nat := cnt (A 2 b ^^^ A 6 g)
def nr (A : AS) (g : Nat) : Nat → Option Nat
  | 0 => none
  | i + 1 => match nr A g i with
    | none => some i
    | some j => if oth A g j ≤ oth A g i then some j else some i
def fw (A : AS) (g i : Nat) : Nat := match nr A g i with
  | none => 7
  | some j => oth A g j
theorem cnt_le6 : ∀ m, m < 64 → cnt m ≤ 6 := by decide +kernel
theorem oth_le {A : AS} (w : WF A) {g b : Nat} (hg : g < 5) (hb : b < 8) : oth A g b ≤ 6 := cnt_le6 _ (xor_lt (w.2.2.2.1 b hb).2.2.1 (w.2.2.2.2 g hg).2.1)
theorem nr_lt {A : AS} {g : Nat} : ∀ i j, nr A g i = some j → j < i
  | 0, j, h => by simp [nr] at h
  | i + 1, j, h => by
    cases hn : nr A g i with
    | none =>
      have h : some i = some j := by simpa [nr, hn] using h
      cases h
      exact Nat.lt_succ_self _
    | some k =>
      have hk := nr_lt i k hn
      have h : (if oth A g k ≤ oth A g i then some k else some i) = some j := by simpa [nr, hn] using h
      split at h
      · cases h; omega
      · cases h; omega
theorem fw_le {A : AS} (w : WF A) {g i : Nat} (hg : g < 5) (hi : i ≤ 8) : fw A g i ≤ 7 := by
  cases hn : nr A g i with
  | none => simp [fw, hn]
  | some j =>
    have := nr_lt _ _ hn
    have := oth_le w hg (b := j) (by omega)
    have e : fw A g i = oth A g j := by simp [fw, hn]
    omega
section CM
variable {v s : St} {A : AS}
theorem c_toes (h : RV v A) (w : WF A) {g b : Nat} (hg : g < 5) (hb : b < 8) : f_X6_toesFromMind v (nI g) (nI b) = some (nI (oth A g b)) := by
  have hx := xor_lt (w.2.2.2.1 b hb).2.2.1 (w.2.2.2.2 g hg).2.1
  rw [f_X6_toesFromMind, f_X6_footOf, at_in (by omega) hb, (h.2.2.2.2.2.1 b hb).2.2.1, Option.bind_some, Option.bind_some, f_X6_mindOf, at_in (by omega) hg, (h.2.2.2.2.2.2 g hg).2.1, Option.bind_some, Option.bind_some, nI_xor, bc_m _ (by omega), Option.bind_some] <;> rfl
theorem m_oth (h : RM s A) (w : WF A) {g b : Nat} (hg : g < 5) (hb : b < 8) : f_X8_otherwise s (nI b) (nI g) = some (nI (oth A g b)) := by
  have hx := xor_lt (w.2.2.2.1 b hb).2.2.1 (w.2.2.2.2 g hg).2.1
  rw [f_X8_otherwise, gd_in hb (by omega), gd_in hg (by omega), nI_clamp (n := b) (by omega), nI_clamp (n := g) (by omega), (h.2.2.2.1 b hb).2.2.1, (h.2.2.2.2 g hg).2.1, nI_xor, bits_m _ (by omega), Option.bind_some] <;> rfl
theorem c_nearest (h : RV v A) (w : WF A) {g : Nat} (hg : g < 5) : f_X6_nearestTo v (nI g) = some (oI (nr A g (nB A))) := by
  have hb8 := w.1
  rw [f_X6_nearestTo, FUEL_v]
  have hL := iloop (L := fun fuel i (a : Int32 × Int32) => f_X6_nearestTo_9 v (nI g) fuel a.1 a.2 (nI i)) (a := fun i => (oI (nr A g i), nI (fw A g i))) (B := nB A) (r := some (oI (nr A g (nB A))))
    (fun f => by
      show f_X6_nearestTo_9 v (nI g) (f + 1) _ _ _ = _
      rw [f_X6_nearestTo_9, h.2.1, if_pos (nI_le (Nat.le_refl _) (by omega))])
    (fun f i hi => by
      show f_X6_nearestTo_9 v (nI g) (f + 1) (oI (nr A g i)) (nI (fw A g i)) (nI i) = f_X6_nearestTo_9 v (nI g) f (oI (nr A g (i + 1))) (nI (fw A g (i + 1))) (nI (i + 1))
      have ho := oth_le w hg (b := i) (by omega)
      have hf := fw_le w hg (i := i) (by omega)
      rw [f_X6_nearestTo_9, h.2.1, if_neg (nI_ge hi (by omega)), c_toes h w hg (by omega), Option.bind_some, ifL (by omega) (by omega), nIs]
      cases hn : nr A g i with
      | none =>
        have e1 : nr A g (i + 1) = some i := by simp [nr, hn]
        have e2 : fw A g i = 7 := by simp [fw, hn]
        have e3 : fw A g (i + 1) = oth A g i := by simp [fw, e1]
        rw [e2, if_neg (by omega), e1, e3] <;> rfl
      | some j =>
        have e2 : fw A g i = oth A g j := by simp [fw, hn]
        by_cases c : oth A g j ≤ oth A g i
        · have e1 : nr A g (i + 1) = some j := by simp [nr, hn, c]
          have e3 : fw A g (i + 1) = oth A g j := by simp [fw, e1]
          rw [e2, if_pos c, e1, e3] <;> rfl
        · have e1 : nr A g (i + 1) = some i := by simp [nr, hn, c]
          have e3 : fw A g (i + 1) = oth A g i := by simp [fw, e1]
          rw [e2, if_neg c, e1, e3] <;> rfl)
    (nB A) 0 2000 (by omega) (by omega)
  have hL : f_X6_nearestTo_9 v (nI g) 2000 (-9) 7 0 = _ := hL
  exact hL
theorem m_meantFor (h : RM s A) (w : WF A) {g : Nat} (hg : g < 5) : f_X8_meantFor s (nI g) = some (oI (nr A g (nB A))) := by
  have hb8 := w.1
  rw [f_X8_meantFor, FUEL_v]
  have hL := iloop (L := fun fuel i a => f_X8_meantFor_5 s (nI g) fuel a (nI i)) (a := fun i => oI (nr A g i)) (B := nB A) (r := some (oI (nr A g (nB A))))
    (fun f => by
      show f_X8_meantFor_5 s (nI g) (f + 1) _ _ = _
      rw [f_X8_meantFor_5, h.1, if_pos (nI_le (Nat.le_refl _) (by omega))])
    (fun f i hi => by
      show f_X8_meantFor_5 s (nI g) (f + 1) (oI (nr A g i)) (nI i) = f_X8_meantFor_5 s (nI g) f (oI (nr A g (i + 1))) (nI (i + 1))
      rw [f_X8_meantFor_5, h.1, if_neg (nI_ge hi (by omega)), nIs]
      cases hn : nr A g i with
      | none =>
        have e1 : nr A g (i + 1) = some i := by simp [nr, hn]
        rw [if_pos (show oI none < 0 by decide), e1] <;> rfl
      | some j =>
        have hj := nr_lt _ _ hn
        have o1 := oth_le w hg (b := i) (by omega)
        have o2 := oth_le w hg (b := j) (by omega)
        rw [show oI (some j) = nI j from rfl, if_neg (nI_pos (by omega)), m_oth h w hg (by omega), Option.bind_some, m_oth h w hg (by omega), Option.bind_some, ifL (by omega) (by omega)]
        by_cases c : oth A g j ≤ oth A g i
        · have e1 : nr A g (i + 1) = some j := by simp [nr, hn, c]
          rw [if_pos c, e1] <;> rfl
        · have e1 : nr A g (i + 1) = some i := by simp [nr, hn, c]
          rw [if_neg c, e1] <;> rfl)
    (nB A) 0 2000 (by omega) (by omega)
  have hL : f_X8_meantFor_5 s (nI g) 2000 (-9) 0 = _ := hL
  exact hL
end CM
theorem p_meant {S : Nat → St} {s : St} (h : REL S s) (x y : Int32) : AG (f_X7_meant S x y) (f_X8_meant s x y) := by
  have h' := h
  obtain ⟨A, w, hy, hv, hm, hr⟩ := h
  have hg5 := w.2.1
  have hb8 := w.1
  rw [f_X7_meant, f_X8_meant, c_hasGroomI hv, m_isGroom hm, Option.bind_some, Option.bind_some]
  rcases br_cases (n := nG A) (by omega) x with e | ⟨g, hgG, rfl, e⟩
  · rw [e, if_pos rfl, if_pos rfl, f_X8_meant_27, if_neg nm1]; exact ag_no h' 1 (by omega) (by decide)
  have hg : g < 5 := by omega
  rw [e, if_neg n10, if_neg n10]
  rcases either_cases y with ⟨rfl, e5, e6⟩ | ⟨rfl, e5, e6⟩ | ⟨h3, h4, e5, e6⟩
  · rw [e5, Option.bind_some, if_pos rfl, e6, Option.bind_some, if_neg n10, f_X8_meant_27, if_pos rfl, c_nearest hv w hg, m_meantFor hm w hg, Option.bind_some, Option.bind_some, if_pos rfl, if_pos rfl]
    exact ag_rd h' _
  · rw [e5, Option.bind_some, if_pos rfl, e6, Option.bind_some, if_neg n10, f_X8_meant_27, if_pos rfl, c_nearest hv w hg, m_meantFor hm w hg, Option.bind_some, Option.bind_some, if_neg n10, if_neg n10]
    cases hn : nr A g (nB A) with
    | none =>
      rw [show oI none = -9 from rfl, if_pos rfl, if_neg (show ¬ (0 : Int32) ≤ -9 by decide)]
      exact ag_rd h' _
    | some j =>
      have hj := nr_lt _ _ hn
      rw [show oI (some j) = nI j from rfl, if_neg (nI_ne9 (by omega)), if_pos (nI_pos' (by omega)), c_toes hv w hg (by omega), m_oth hm w hg (by omega), Option.bind_some, Option.bind_some]
      exact ag_rd h' _
  · rw [e5, Option.bind_some, if_neg n10, e6, Option.bind_some, if_pos rfl, f_X8_meant_27, if_neg nm2]; exact ag_no h' 2 (by omega) (by decide)
def loB (A : AS) (g : Nat) : Bool := (know A g 0).isSome && (nr A g (nB A) == know A g 0)
theorem oI_eq {b : Nat} {o : Option Nat} (hb : b < 8) (ho : ∀ j, o = some j → j < 8) : (nI b = oI o) ↔ (o == some b) = true := by
  cases o with
  | none => simp [oI, nI_ne9 (show b < 2 ^ 31 by omega)]
  | some j =>
    have := ho j rfl
    rw [show oI (some j) = nI j from rfl, nI_eqN (by omega) (by omega)]
    constructor
    · intro e; subst e; simp
    · intro e
      have e : j = b := by simpa using e
      exact e.symm
theorem p_loses {S : Nat → St} {s : St} (h : REL S s) : ∃ r, f_X7_loses S = some r ∧ f_X8_loses s = some r := by
  obtain ⟨A, w, hy, hv, hm, hr⟩ := h
  have hg5 := w.2.1
  have hb8 := w.1
  refine ⟨nI (mk (loB A) (nG A)), ?_, ?_⟩
  · rw [f_X7_loses, FUEL_v]
    refine iloop (L := fun fuel i a => f_X7_loses_4 S fuel a (nI i)) (a := fun i => nI (mk (loB A) i)) (B := nG A) ?_ ?_ (nG A) 0 2000 (by omega) (by omega)
    · intro f
      show f_X7_loses_4 S (f + 1) _ _ = _
      rw [f_X7_loses_4, hv.2.2.2.1, if_pos (nI_le (Nat.le_refl _) (by omega))]
    · intro f i hi
      show f_X7_loses_4 S (f + 1) _ _ = f_X7_loses_4 S f _ _
      have hki : ∀ b, know A i 0 = some b → b < 2 ^ 31 := fun b hb => by have := (know_lt hb).1; omega
      have hnr : ∀ j, nr A i (nB A) = some j → j < 8 := fun j hj => by have := nr_lt _ _ hj; omega
      rw [f_X7_loses_4, hv.2.2.2.1, if_neg (nI_ge hi (by omega)), show f_X6_knows (S 0) (nI i) 0 = _ from c_knows hv w (n := 0) (by omega) (by omega), Option.bind_some, if_iff (oI_9 hki), c_nearest hv w (by omega), Option.bind_some, nIs]
      cases hk : know A i 0 with
      | none =>
        have hp : loB A i = false := by unfold loB; rw [hk]; rfl
        rw [if_pos rfl, mk_n hp]
      | some b =>
        rw [if_neg (by simp), show oI (some b) = nI b from rfl, if_iff (oI_eq (know_lt hk).1 hnr)]
        cases e : (nr A i (nB A) == some b) with
        | true =>
          have hp : loB A i = true := by unfold loB; rw [hk]; exact e
          rw [if_pos rfl, orB (by omega), mk_s hp]
        | false =>
          have hp : loB A i = false := by unfold loB; rw [hk]; exact e
          rw [if_neg nft, mk_n hp]
  · rw [f_X8_loses, FUEL_v]
    refine iloop (L := fun fuel i a => f_X8_loses_4 s fuel a (nI i)) (a := fun i => nI (mk (loB A) i)) (B := nG A) ?_ ?_ (nG A) 0 2000 (by omega) (by omega)
    · intro f
      show f_X8_loses_4 s (f + 1) _ _ = _
      rw [f_X8_loses_4, hm.2.1, if_pos (nI_le (Nat.le_refl _) (by omega))]
    · intro f i hi
      show f_X8_loses_4 s (f + 1) _ _ = f_X8_loses_4 s f _ _
      have hki : ∀ b, know A i 0 = some b → b < 2 ^ 31 := fun b hb => by have := (know_lt hb).1; omega
      have hnr : ∀ j, nr A i (nB A) = some j → j < 8 := fun j hj => by have := nr_lt _ _ hj; omega
      rw [f_X8_loses_4, hm.2.1, if_neg (nI_ge hi (by omega)), m_knows hm w (by omega), Option.bind_some, if_iff (oI_neg hki), Option.bind_some, m_meantFor hm w (by omega), Option.bind_some, or0, nIs]
      cases hk : know A i 0 with
      | none =>
        have hp : loB A i = false := by unfold loB; rw [hk]; rfl
        rw [if_pos rfl, mk_n hp]
      | some b =>
        rw [if_neg (by simp), show oI (some b) = nI b from rfl, if_iff (oI_eq (know_lt hk).1 hnr)]
        cases e : (nr A i (nB A) == some b) with
        | true =>
          have hp : loB A i = true := by unfold loB; rw [hk]; exact e
          rw [if_pos rfl, orB (by omega), mk_s hp]
        | false =>
          have hp : loB A i = false := by unfold loB; rw [hk]; exact e
          rw [if_neg nft, mk_n hp]
