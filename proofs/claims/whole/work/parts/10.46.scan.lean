/-! letters: how a statement is told; the class looks for a fault -/
def kd (x : Nat) : Nat := if x = 98 then 0 else if x = 115 then 1 else if x = 102 then 2 else if x = 99 then 3 else if x = 116 then 4 else if x = 109 then 5 else 9
def fitB (x w : Nat) : Bool := if w = 107 then decide (kd x < 6) else if w = 57 then decide (48 ≤ x) && decide (x ≤ 57) else x == w
def bdy (x : Nat) : List Nat := if x = 98 then [107, 57, 57, 57] else if x = 103 then [57, 57, 57, 57] else if x = 116 then [57, 57] else if x = 108 then [57, 57] else if x = 121 then [57, 57] else if x = 119 then [57] else []
def frm (x : Nat) : List Nat := if bdy x = [] then [] else bdy x ++ [59]
def fmi (x : Nat) : Nat := if x = 98 then 0 else if x = 103 then 1 else if x = 116 then 2 else if x = 108 then 2 else if x = 121 then 2 else if x = 119 then 3 else 4
def fL (k : Nat) : List Nat := [[107, 57, 57, 57, 59], [57, 57, 57, 57, 59], [57, 57, 59], [57, 59], []].getD k []
theorem frm_L : ∀ x, x < 256 → frm x = fL (fmi x) ∧ fmi x < 5 ∧ (bdy x = [] ↔ fmi x = 4) := by decide +kernel
theorem form_m : ∀ x, x < 256 → f_X5_formOf (nI x) = some (fmi x) := by decide +kernel
theorem len_m : ∀ k, k < 5 → f_J0_length_8abf5 k = some (nI (fL k).length) := by decide +kernel
theorem empty_m : ∀ k, k < 5 → f_J0_isEmpty_aae02 k = some (nI (if k = 4 then 1 else 0)) := by decide +kernel
theorem chr_m : ∀ k, k < 5 → ∀ i, i < (fL k).length → f_J0_charAt_5068e k (nI i) = some (nI ((fL k).getD i 0)) := by decide +kernel
theorem fL_w : ∀ k, k < 5 → ∀ i, i < (fL k).length → ((fL k).getD i 0 = 107 ∨ (fL k).getD i 0 = 57 ∨ (fL k).getD i 0 = 59) ∧ (fL k).drop i = (fL k).getD i 0 :: (fL k).drop (i + 1) := by decide +kernel
theorem fL_end : ∀ k, k < 5 → (fL k).drop (fL k).length = [] ∧ (fL k).length ≤ 5 ∧ (fL k).drop 0 = fL k := by decide +kernel
theorem fits_k : ∀ x, x < 256 → f_X5_fits (nI x) (nI 107) = some (nI (if fitB x 107 then 1 else 0)) := by decide +kernel
theorem fits_d : ∀ x, x < 256 → f_X5_fits (nI x) (nI 57) = some (nI (if fitB x 57 then 1 else 0)) := by decide +kernel
theorem fits_s : ∀ x, x < 256 → f_X5_fits (nI x) (nI 59) = some (nI (if fitB x 59 then 1 else 0)) := by decide +kernel
theorem fits_m {x w : Nat} (hx : x < 256) (hw : w = 107 ∨ w = 57 ∨ w = 59) : f_X5_fits (nI x) (nI w) = some (nI (if fitB x w then 1 else 0)) := by
  rcases hw with e | e | e <;> subst e
  · exact fits_k x hx
  · exact fits_d x hx
  · exact fits_s x hx
def sc (c : Nat → Nat) (n : Nat) : List Nat → Nat → Nat × Bool
  | [], p => (p, true)
  | w :: ws, p => if (decide (p < n) && fitB (c p) w) = true then sc c n ws (p + 1) else (p, false)
section SC
variable {c : Nat → Nat} {n : Nat}
theorem sc_t {w p : Nat} {ws : List Nat} (h : (decide (p < n) && fitB (c p) w) = true) : sc c n (w :: ws) p = sc c n ws (p + 1) := if_pos h
theorem sc_f {w p : Nat} {ws : List Nat} (h : (decide (p < n) && fitB (c p) w) = false) : sc c n (w :: ws) p = (p, false) := if_neg (by rw [h]; exact nft)
theorem sc_app (b : List Nat) : ∀ (a : List Nat) (p : Nat), sc c n (a ++ b) p = if (sc c n a p).2 = true then sc c n b (sc c n a p).1 else sc c n a p
  | [], p => (if_pos rfl).symm
  | w :: ws, p => by
    show sc c n (w :: (ws ++ b)) p = _
    cases h : (decide (p < n) && fitB (c p) w) with
    | true => rw [sc_t h, sc_t h]; exact sc_app b ws (p + 1)
    | false => rw [sc_f h, sc_f h]; exact (if_neg nft).symm
theorem sc_le : ∀ (a : List Nat) (p : Nat), p ≤ n → (sc c n a p).1 ≤ n ∧ p ≤ (sc c n a p).1
  | [], p, h => ⟨h, Nat.le_refl _⟩
  | w :: ws, p, h => by
    cases hb : (decide (p < n) && fitB (c p) w) with
    | true =>
      have h1 := of_decide_eq_true ((Bool.and_eq_true _ _).mp hb).1
      have h2 := sc_le ws (p + 1) (by omega)
      rw [sc_t hb]
      exact ⟨h2.1, by omega⟩
    | false => rw [sc_f hb]; exact ⟨h, Nat.le_refl _⟩
theorem sc_ok : ∀ (a : List Nat) (p : Nat), (sc c n a p).2 = true → (sc c n a p).1 = p + a.length ∧ ∀ i, i < a.length → p + i < n ∧ fitB (c (p + i)) (a.getD i 0) = true
  | [], p, _ => ⟨rfl, fun i hi => by cases hi⟩
  | w :: ws, p, h => by
    cases hb : (decide (p < n) && fitB (c p) w) with
    | false => rw [sc_f hb] at h; cases h
    | true =>
      rw [sc_t hb] at h ⊢
      obtain ⟨q1, q2⟩ := sc_ok ws (p + 1) h
      obtain ⟨b1, b2⟩ := (Bool.and_eq_true _ _).mp hb
      refine ⟨by rw [q1, List.length_cons]; omega, fun i hi => ?_⟩
      cases i with
      | zero => exact ⟨of_decide_eq_true b1, b2⟩
      | succ i =>
        have := q2 i (by rw [List.length_cons] at hi; omega)
        rw [show p + 1 + i = p + (i + 1) by omega] at this
        exact this
/-- one statement: the place behind it, or of the fault -/
def stt (c : Nat → Nat) (n p : Nat) : Nat × Bool := if bdy (c p) = [] then (p, false) else sc c n (frm (c p)) (p + 1)
/-- all statements from a place on: their places; the fault -/
def prs (c : Nat → Nat) (n : Nat) : Nat → Nat → List Nat × Option Nat
  | 0, _ => ([], none)
  | f + 1, p => if n ≤ p then ([], none) else if (stt c n p).2 = true then (p :: (prs c n f (stt c n p).1).1, (prs c n f (stt c n p).1).2) else ([], some (stt c n p).1)
theorem prs_e {f p : Nat} (h : n ≤ p) : prs c n f p = ([], none) := by
  cases f with
  | zero => rfl
  | succ f => exact if_pos h
theorem prs_t {f p : Nat} (h : p < n) (h2 : (stt c n p).2 = true) : prs c n (f + 1) p = (p :: (prs c n f (stt c n p).1).1, (prs c n f (stt c n p).1).2) := (if_neg (by omega)).trans (if_pos h2)
theorem prs_f {f p : Nat} (h : p < n) (h2 : (stt c n p).2 = false) : prs c n (f + 1) p = ([], some (stt c n p).1) := (if_neg (by omega)).trans (if_neg (by rw [h2]; exact nft))
theorem frm_len : ∀ x, x < 256 → ¬ bdy x = [] → 2 ≤ (frm x).length ∧ (frm x).length ≤ 5 := by decide +kernel
theorem stt_ok {p : Nat} (hc : c p < 256) (h : (stt c n p).2 = true) : ¬ bdy (c p) = [] ∧ (sc c n (frm (c p)) (p + 1)).2 = true ∧ (stt c n p).1 = p + 1 + (frm (c p)).length ∧ p + 3 ≤ (stt c n p).1 := by
  unfold stt at h ⊢
  by_cases e : bdy (c p) = []
  · rw [if_pos e] at h; cases h
  · rw [if_neg e] at h ⊢
    have h1 := (sc_ok _ _ h).1
    have h2 := (frm_len _ hc e).1
    exact ⟨e, h, h1, by omega⟩
theorem stt_le {p : Nat} (hp : p < n) : (stt c n p).1 ≤ n ∧ p ≤ (stt c n p).1 := by
  unfold stt
  split
  · exact ⟨by show p ≤ n; omega, Nat.le_refl _⟩
  · have := sc_le (c := c) (n := n) (frm (c p)) (p + 1) (by omega)
    exact ⟨this.1, by omega⟩
/-- the class's letters -/
def LT (t : St) (c : Nat → Nat) (n : Nat) : Prop := n ≤ 96 ∧ t 1 0 = nI n ∧ ∀ j, j < n → c j < 256 ∧ t 0 j = nI (c j)
variable {t : St}
theorem c_scan (ht : LT t c n) {k : Nat} (hk : k < 5) (K : Int32 → Option Int32) : ∀ (r i p fuel : Nat), i + r = (fL k).length → r < fuel → p ≤ n → f_X5_formFault_45 t k fuel (nI p) (nI i) K = if (sc c n ((fL k).drop i) p).2 = true then K (nI (sc c n ((fL k).drop i) p).1) else some (nI (sc c n ((fL k).drop i) p).1)
  | 0, i, p, fuel, h1, h2, h3 => by
    obtain ⟨f, rfl⟩ : ∃ f, fuel = f + 1 := ⟨fuel - 1, by omega⟩
    obtain ⟨q1, q2, -⟩ := fL_end k hk
    have : i = (fL k).length := by omega
    subst this
    rw [f_X5_formFault_45, len_m k hk, Option.bind_some, if_pos (nI_le (Nat.le_refl _) (by omega)), q1]
    exact (if_pos rfl).symm
  | r + 1, i, p, fuel, h1, h2, h3 => by
    obtain ⟨f, rfl⟩ : ∃ f, fuel = f + 1 := ⟨fuel - 1, by omega⟩
    obtain ⟨q1, q2, -⟩ := fL_end k hk
    obtain ⟨n96, t1, t2⟩ := ht
    have hi : i < (fL k).length := by omega
    obtain ⟨w1, w2⟩ := fL_w k hk i hi
    rw [f_X5_formFault_45, len_m k hk, Option.bind_some, if_neg (nI_ge hi (by omega)), t1, w2]
    by_cases hp : p < n
    · obtain ⟨c1, c2⟩ := t2 p hp
      have ih := c_scan ⟨n96, t1, t2⟩ hk K r (i + 1) (p + 1) f (by omega) (by omega) (by omega)
      rw [if_neg (nI_ge hp (by omega)), at_in (by omega) (by omega), c2, Option.bind_some, chr_m k hk i hi, Option.bind_some, fits_m c1 w1, Option.bind_some, nIs, nIs, ih]
      cases hb : fitB (c p) ((fL k).getD i 0) with
      | true =>
        rw [if_pos rfl, if_neg ni1, sc_t (by rw [decide_eq_true hp, hb] <;> rfl)]
      | false =>
        rw [if_neg nft, if_pos ni0, sc_f (by rw [hb, Bool.and_false])]
        exact (if_neg nft).symm
    · rw [if_pos (nI_le (by omega) (by omega)), sc_f (by rw [decide_eq_false hp, Bool.false_and])]
      exact (if_neg nft).symm
theorem c_form (ht : LT t c n) : ∀ (f p fuel : Nat), n - p ≤ f → f < fuel → p ≤ n → f_X5_formFault_11 t fuel (nI p) = some (match (prs c n f p).2 with | none => -1 | some q => nI q)
  | 0, p, fuel, h1, h2, h3 => by
    obtain ⟨g, rfl⟩ : ∃ g, fuel = g + 1 := ⟨fuel - 1, by omega⟩
    have n96 := ht.1
    rw [f_X5_formFault_11, ht.2.1, if_pos (nI_le (by omega) (by omega))] <;> rfl
  | f + 1, p, fuel, h1, h2, h3 => by
    obtain ⟨g, rfl⟩ : ∃ g, fuel = g + 1 := ⟨fuel - 1, by omega⟩
    have n96 := ht.1
    rw [f_X5_formFault_11, ht.2.1]
    by_cases hp : p < n
    · obtain ⟨c1, c2⟩ := ht.2.2 p hp
      obtain ⟨l1, l2, l3⟩ := frm_L (c p) c1
      have hsl := stt_le (c := c) hp
      rw [if_neg (nI_ge hp (by omega)), at_in (by omega) (by omega), c2, Option.bind_some, form_m _ c1, Option.bind_some, empty_m _ l2, Option.bind_some]
      by_cases e : bdy (c p) = []
      · have hs : stt c n p = (p, false) := if_pos e
        rw [if_pos (l3.mp e), if_neg ni1, prs_f hp (by rw [hs]), hs]
      · have hs : stt c n p = sc c n (frm (c p)) (p + 1) := if_neg e
        have hsc := c_scan ht l2 (fun (x1_611 : Int32) => f_X5_formFault_11 t g x1_611) (fL (fmi (c p))).length 0 (p + 1) 2000 (by omega) (by have := (fL_end _ l2).2.1; omega) (by omega)
        rw [(fL_end _ l2).2.2, ← l1, ← hs] at hsc
        have hsc : f_X5_formFault_45 t (fmi (c p)) 2000 (nI (p + 1)) 0 (fun (x1_611 : Int32) => f_X5_formFault_11 t g x1_611) = _ := hsc
        rw [if_neg (fun z => e (l3.mpr z)), if_pos ni0, nIs, FUEL_v, hsc]
        cases h2' : (stt c n p).2 with
        | true =>
          have h4 := (stt_ok c1 h2').2.2.2
          rw [if_pos rfl, prs_t hp h2']
          exact c_form ht f (stt c n p).1 g (by omega) (by omega) (by omega)
        | false => rw [if_neg nft, prs_f hp h2']
    · rw [if_pos (nI_le (by omega) (by omega)), prs_e (by omega)]
theorem c_fault (ht : LT t c n) : f_X5_formFault t = some (if n = 0 then nI 0 else match (prs c n n 0).2 with | none => -1 | some q => nI q) := by
  have n96 := ht.1
  have h := c_form ht n 0 2000 (by omega) (by omega) (by omega)
  have h : f_X5_formFault_11 t 2000 0 = _ := h
  rw [f_X5_formFault, ht.2.1, ifZ (by omega), FUEL_v, h]
  split <;> rfl
end SC
