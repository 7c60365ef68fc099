/-! the seed of the lots stays where nothing is drawn -/
theorem bndE {α β : Type} {x : Option α} {f : α → Option β} {r : β} (h : x.bind f = some r) : ∃ q, x = some q ∧ f q = some r := by
  cases x with
  | none => cases h
  | some q => exact ⟨q, rfl, h⟩
theorem sA_eq {v : St} {k : Nat} {f : Nat → Int32} : sA v k f k = f := if_pos rfl
theorem u_ne {f : Nat → Int32} {a j : Nat} {x : Int32} (h : j ≠ a) : upd f a x j = f j := if_neg h
theorem ps2_10 {k : Nat} (hk : k < 10) : ∀ n i a a', f_X8_passes_2 k n i a = some a' → a' 23 10 = a 23 10
  | 0, _, _, _, h => by cases h
  | n + 1, i, a, a', h => by
    rw [f_X8_passes_2] at h
    by_cases c1 : Int32.ofNat (mLen k) ≤ i
    · rw [if_pos c1] at h; cases h; rfl
    rw [if_neg c1] at h
    by_cases c2 : a 23 7 = 0
    · rw [if_pos c2] at h
      have h := (gd_some (gd_some h).2).2
      rw [f_X8_passes_42] at h
      rw [ps2_10 hk n _ _ _ h]
      rw [sA_eq, u_ne (by decide), sA_ne (by omega)]
    · rw [if_neg c2] at h
      have h := (gd_some (gd_some h).2).2
      rw [f_X8_passes_42] at h
      rw [ps2_10 hk n _ _ _ h]
      rw [sA_eq, u_ne (by decide), sA_ne (by omega)]
theorem ps_10 {k : Nat} (hk : k < 10) {a a' : St} (h : f_X8_passes a k = some a') : a' 23 10 = a 23 10 := ps2_10 hk _ _ _ _ h
theorem po_10 {a : St} {x : Int32} {r : Int32 × St} (h : f_X8_passOne a x = some r) : r.2 23 10 = a 23 10 := by
  rw [f_X8_passOne] at h
  by_cases c : a 23 7 = 0
  · rw [if_pos c] at h
    have h := (gd_some h).2
    rw [f_X8_passOne_20, if_pos c, f_X8_passOne_38] at h
    cases h; rfl
  · rw [if_neg c, f_X8_passOne_20, if_neg c] at h
    have h := (gd_some h).2
    rw [f_X8_passOne_38] at h
    cases h; rfl
theorem pa_10 {s s' : St} {x y : Int32} (h : f_X8_passesAll s x y = some s') : s' 23 10 = s 23 10 := by
  rw [f_X8_passesAll] at h
  have h := (gd_some h).2
  obtain ⟨q1, e1, h⟩ := bndE h
  obtain ⟨q2, e2, h⟩ := bndE h
  obtain ⟨q3, e3, h⟩ := bndE h
  obtain ⟨q4, e4, h⟩ := bndE h
  obtain ⟨q5, e5, h⟩ := bndE h
  obtain ⟨q6, e6, h⟩ := bndE h
  obtain ⟨q7, e7, h⟩ := bndE h
  obtain ⟨q8, e8, h⟩ := bndE h
  obtain ⟨q9, e9, h⟩ := bndE h
  obtain ⟨q10, e10, h⟩ := bndE h
  obtain ⟨q11, e11, h⟩ := bndE h
  obtain ⟨q12, e12, h⟩ := bndE h
  cases h
  show q12.2 23 10 = _
  rw [po_10 e12]
  show q11.2 23 10 = _
  rw [po_10 e11]
  show q10.2 23 10 = _
  rw [po_10 e10, ps_10 (by decide) e9, ps_10 (by decide) e8, ps_10 (by decide) e7, ps_10 (by decide) e6, ps_10 (by decide) e5, ps_10 (by decide) e4, ps_10 (by decide) e3, ps_10 (by decide) e2, ps_10 (by decide) e1]
  rfl
theorem th_10 {s s' : St} (h : f_X8_thinks s = some s') : s' 23 10 = s 23 10 := by
  rw [f_X8_thinks] at h
  obtain ⟨q, e, h⟩ := bndE h
  cases h
  exact pa_10 e
theorem fo_10 {s s' : St} (h : f_X8_forgets s = some s') : s' 23 10 = s 23 10 := by
  rw [f_X8_forgets] at h
  obtain ⟨q, e, h⟩ := bndE h
  cases h
  exact pa_10 e
theorem wd_23 {v : St} {x : Int32} {r : Int32 × St} (h : f_X8_weds v x = some r) : r.2 23 = v 23 := by
  rw [f_X8_weds] at h
  obtain ⟨q, e, h⟩ := bndE h
  by_cases c : q < 0
  · rw [if_pos c] at h
    have h := (gd_some h).2
    obtain ⟨q2, e2, h⟩ := bndE h
    have h := (gd_some (gd_some h).2).2
    cases h; rfl
  · rw [if_neg c] at h
    have h := (gd_some h).2
    obtain ⟨q2, e2, h⟩ := bndE h
    rw [f_X8_sends] at e2
    have e2 := (gd_some (gd_some e2).2).2
    cases e2
    cases h; rfl
theorem wa4_23 : ∀ n x i (v : St) (r : Int32 × St), f_X8_wedsAll_4 n x i v = some r → r.2 23 = v 23
  | 0, _, _, _, _, h => by cases h
  | n + 1, x, i, v, r, h => by
    rw [f_X8_wedsAll_4] at h
    by_cases c : v 23 1 ≤ i
    · rw [if_pos c] at h; cases h; rfl
    rw [if_neg c] at h
    obtain ⟨q, e, h⟩ := bndE h
    by_cases c2 : q = 0
    · rw [if_pos c2] at h; exact wa4_23 n _ _ _ _ h
    rw [if_neg c2] at h
    obtain ⟨q2, e2, h⟩ := bndE h
    by_cases c3 : q2.1 < (100 : Int32)
    · rw [if_pos c3] at h; exact (wa4_23 n _ _ _ _ h).trans (wd_23 e2)
    · rw [if_neg c3] at h; exact (wa4_23 n _ _ _ _ h).trans (wd_23 e2)
theorem wa_23 {v : St} {r : Int32 × St} (h : f_X8_wedsAll v = some r) : r.2 23 = v 23 := wa4_23 _ _ _ _ _ h
/-- what is drawn -/
def lcg (x : Int32) : Int32 := x * (1664525 : Int32) + (1013904223 : Int32)
def toeD (x : Int32) : Nat := x.toBitVec.toNat % 2 ^ 31 / 256 % 64
theorem toe_lt (x : Int32) : toeD x < 64 := Nat.mod_lt _ (by decide)
theorem toe_e (x : Int32) : ((x &&& (2147483647 : Int32)) / (256 : Int32)) - ((x &&& (2147483647 : Int32)) / (256 : Int32)) / (64 : Int32) * (64 : Int32) = nI (toeD x) := by
  have h1 : x.toBitVec.toNat % 2 ^ 31 < 2 ^ 31 := Nat.mod_lt _ (by decide)
  have h2 : x.toBitVec.toNat % 2 ^ 31 / 256 < 2 ^ 31 := by omega
  rw [pk_and x 31 (by decide), show (256 : Int32) = nI 256 from rfl, pk_div h1 (by decide) (by decide), k64, nI_rem h2 (by decide) (by decide)]
  rfl
theorem c_drawn (x : Int32) : f_X6_drawnFoot x = some (nI (toeD x)) := by rw [f_X6_drawnFoot, toe_e]
theorem c_seed (x : Int32) : f_X6_nextSeed x = some (lcg x) := rfl
theorem m_draw (s : St) : f_X8_draw s 64 = some (nI (toeD (lcg (s 23 10))), sA s 23 (upd (s 23) 10 (lcg (s 23 10)))) := by
  rw [f_X8_draw, gdT (by decide), ← toe_e]
  rfl
