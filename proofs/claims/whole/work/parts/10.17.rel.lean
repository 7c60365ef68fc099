theorem n10 : ¬ (1 : Int32) = 0 := by decide
/-! what both objects hold together; refusals; what is asked of brides and grooms -/
def TX (t s : St) : Prop := ∃ n, n ≤ 96 ∧ t 1 0 = nI n ∧ s 23 3 = nI n ∧ ∀ j, j < n → ∃ c, c < 256 ∧ t 0 j = nI c ∧ s 10 j = nI c
def RW (t s : St) : Prop := ∃ n, n ≤ 16 ∧ t 1 0 = nI n ∧ s 23 9 = nI n ∧ ∀ j, j < n → ∃ c, c < 100 ∧ t 0 j = nI c ∧ s 15 j = nI c
def RF (t s : St) : Prop := ∀ i, i < 7 → t 0 i = s 0 i
def IM (t i s : St) : Prop := (t 1 0 = 0 ∧ s 23 6 = 0) ∨ (t 1 0 = 1 ∧ s 23 6 = 1 ∧ ∃ B, WF B ∧ nY B ≤ 999 ∧ RV i B ∧ ENC s 0 B)
def RR (S : Nat → St) (s : St) : Prop := TX (S 3) s ∧ RW (S 4) s ∧ RF (S 6) s ∧ IM (S 6) (S 2) s
def REL (S : Nat → St) (s : St) : Prop := ∃ A, WF A ∧ nY A ≤ 999 ∧ RV (S 0) A ∧ RM s A ∧ RR S s
theorem RR.ki {S S' : Nat → St} {s s' : St} (h : RR S s) (k : KI s s') (e2 : S' 2 = S 2) (e3 : S' 3 = S 3) (e4 : S' 4 = S 4) (e6 : S' 6 = S 6) : RR S' s' := by
  obtain ⟨⟨n, t1, t2, t3, t4⟩, ⟨m, r1, r2, r3, r4⟩, f, i⟩ := h
  obtain ⟨q0, q10, q14, q15, q3, q6, q9⟩ := k
  unfold RR
  rw [e2, e3, e4, e6]
  refine ⟨⟨n, t1, t2, q3.trans t3, fun j hj => ?_⟩, ⟨m, r1, r2, q9.trans r3, fun j hj => ?_⟩, fun i hi => (f i hi).trans (congrFun q0 i).symm, ?_⟩
  · rw [q10]; exact t4 j hj
  · rw [q15]; exact r4 j hj
  · rcases i with ⟨i1, i2⟩ | ⟨i1, i2, B, b1, b2, b3, b4⟩
    · exact Or.inl ⟨i1, q6.trans i2⟩
    · refine Or.inr ⟨i1, q6.trans i2, B, b1, b2, b3, fun j hj => ?_⟩
      have := b4 j hj
      rw [show 63 * 0 + j = j by omega] at this ⊢
      exact (q14 j hj).trans this
/-- both answer alike and stay together -/
def AG (a : Option (Int32 × (Nat → St))) (b : Option (Int32 × St)) : Prop := ∃ r S' s', a = some (r, S') ∧ b = some (r, s') ∧ REL S' s'
theorem ag_rd {S : Nat → St} {s : St} (h : REL S s) (r : Int32) : AG (some (r, S)) (some (r, s)) := ⟨r, S, s, rfl, rfl, h⟩
/-- the valley new, all else kept -/
theorem ag_new {S : Nat → St} {s s' v' : St} {A : AS} (h : RR S s) (k : KI s s') (w : WF A) (hy : nY A ≤ 999) (hv : RV v' A) (hm : RM s' A) (r : Int32) : AG (some (r, sS S 0 v')) (some (r, s')) :=
  ⟨r, _, _, rfl, rfl, A, w, hy, hv, hm, h.ki k rfl rfl rfl rfl⟩
theorem p_no {S : Nat → St} {s : St} (h : REL S s) {x : Int32} (k : Nat) (hk : k < 7) (hx : -x = nI k) : ∃ S' s', f_X7_refuse S x = some (x, S') ∧ f_X8_no s x = some (x, s') ∧ REL S' s' := by
  obtain ⟨A, w, hy, hv, hm, ht, hr, hf, hi⟩ := h
  rw [f_X7_refuse, f_X8_no, hx, at_in (by omega) hk, Option.bind_some, put_in (by omega) hk, Option.bind_some, gd_in hk (by omega), gd_in hk (by omega), nI_clamp (by omega)]
  refine ⟨_, _, rfl, rfl, A, w, hy, hv, ⟨hm.1, hm.2.1, hm.2.2.1, hm.2.2.2.1, hm.2.2.2.2⟩, ht, hr, fun i hi => ?_, hi⟩
  show upd (S 6 0) k (S 6 0 k + 1) i = upd (s 0) k (s 0 k + 1) i
  unfold upd
  split
  · rw [hf k hk]
  · exact hf i hi
theorem ag_no {S : Nat → St} {s : St} (h : REL S s) {x : Int32} (k : Nat) (hk : k < 7) (hx : -x = nI k) : AG ((f_X7_refuse S x).bind (fun q => some (q.1, q.2))) ((f_X8_no s x).bind (fun q => some (q.1, q.2))) := by
  obtain ⟨S', s', e1, e2, e3⟩ := p_no h k hk hx
  rw [e1, e2]
  exact ⟨x, S', s', rfl, rfl, e3⟩
def brI (n : Nat) (x : Int32) : Int32 := if x < 0 then 0 else if nI n ≤ x then 0 else 1
theorem br_cases {n : Nat} (hn : n < 2 ^ 31) (x : Int32) : brI n x = 0 ∨ ∃ j, j < n ∧ x = nI j ∧ brI n x = 1 := by
  unfold brI
  rcases pk_ix x hn with h | h | ⟨j, hj, rfl⟩
  · exact Or.inl (if_pos h)
  · by_cases h0 : x < 0
    · exact Or.inl (if_pos h0)
    · rw [if_neg h0]; exact Or.inl (if_pos h)
  · rw [if_neg (neg_lt (by omega)), if_neg (nI_ge hj (by omega))]
    exact Or.inr ⟨j, hj, rfl, rfl⟩
section RD
variable {v s : St} {A : AS}
theorem c_hasBride (h : RV v A) (x : Int32) : f_X6_hasBride v x = some (brI (nB A) x) := by
  rw [f_X6_hasBride, h.2.1, brI]
  split
  · rfl
  · split <;> rfl
theorem m_isBride (h : RM s A) (x : Int32) : f_X8_isBride s x = some (brI (nB A) x) := by
  rw [f_X8_isBride, h.1, brI]
  split
  · rfl
  · split <;> rfl
theorem c_hasGroomI (h : RV v A) (x : Int32) : f_X6_hasGroom v x = some (brI (nG A) x) := by
  rw [f_X6_hasGroom, h.2.2.2.1, brI]
  split
  · rfl
  · split <;> rfl
theorem m_isGroom (h : RM s A) (x : Int32) : f_X8_isGroom s x = some (brI (nG A) x) := by
  rw [f_X8_isGroom, h.2.1, brI]
  split
  · rfl
  · split <;> rfl
theorem c_placeOf (h : RV v A) (w : WF A) {b : Nat} (hb : b < 8) : f_X6_placeOf v (nI b) = some (nI (plc A b)) := by
  have hm : mk (fun b => A 4 b == 1) 8 < 256 := mk_le8 _ (by omega)
  have wb := w.2.2.2.1 b hb
  have h3 := wb.2.2.2.1
  rw [f_X6_placeOf, h.2.2.1, has_m _ hm b (by omega), Option.bind_some, mk_tb, at_in (by omega) hb, (h.2.2.2.2.2.1 b hb).2.2.2, Option.bind_some, k0, ifL (a := A 3 b) (by omega) (by omega)]
  unfold plc
  by_cases e : A 4 b = 1
  · rw [if_pos e, decide_eq_true hb, show (A 4 b == 1) = true by rw [e]; rfl, if_neg (by decide)]
    rfl
  · rw [if_neg e, show (A 4 b == 1) = false from beq_eq_false_iff_ne.mpr e, Bool.and_false, if_pos (by decide)]
    by_cases e3 : A 3 b ≤ 0
    · rw [if_pos e3, if_neg (by omega)]
    · rw [if_neg e3, if_pos (by omega)]
      rfl
theorem c_shows0 (h : RV v A) (w : WF A) {b n : Nat} (hb : b < 8) (hn : n ≤ 1100) : f_X6_shows v (nI b) (nI n) = some (nI (shows_ A b n)) := by
  have wb := w.2.2.2.1 b hb
  obtain ⟨r1, r2, -⟩ := h.2.2.2.2.2.1 b hb
  rw [f_X6_shows, at_in (by omega) hb, at_in (by omega) hb, r1, r2, Option.bind_some, Option.bind_some, c_showsAs h w hb wb.1 wb.2.1 hn, Option.bind_some]
end RD
section PB
variable {S : Nat → St} {s : St}
theorem p_bride (h : REL S s) (x y : Int32) : AG (f_X7_bride S x y) (f_X8_bride s x y) := by
  have h' := h
  obtain ⟨A, w, hy, hv, hm, hr⟩ := h
  have hb8 := w.1
  rw [f_X7_bride, f_X8_bride, c_hasBride hv, m_isBride hm, Option.bind_some, Option.bind_some]
  rcases br_cases (n := nB A) (by omega) x with e | ⟨b, hb, rfl, e⟩
  · rw [e, if_pos rfl, if_pos rfl]; exact ag_no h' 1 (by omega) (by decide)
  have hb : b < 8 := by omega
  obtain ⟨r1, r2, r3, r4⟩ := hv.2.2.2.2.2.1 b hb
  obtain ⟨m1, m2, m3, m4, m5⟩ := hm.2.2.2.1 b hb
  rw [e, if_neg n10, if_neg n10]
  by_cases y0 : y = 0
  · rw [if_pos y0, if_pos y0, f_X6_kindOf, at_in (by omega) hb, r1, gd_in hb (by omega), nI_clamp (by omega), m1]; exact ag_rd h' _
  rw [if_neg y0, if_neg y0]
  by_cases y1 : y = 1
  · rw [if_pos y1, if_pos y1, f_X6_figureOf, at_in (by omega) hb, r2, gd_in hb (by omega), nI_clamp (by omega), m2]; exact ag_rd h' _
  rw [if_neg y1, if_neg y1]
  by_cases y2 : y = 2
  · rw [if_pos y2, if_pos y2, f_X6_footOf, at_in (by omega) hb, r3, gd_in hb (by omega), nI_clamp (by omega), m3]; exact ag_rd h' _
  rw [if_neg y2, if_neg y2]
  by_cases y3 : y = 3
  · rw [if_pos y3, if_pos y3, show f_X6_shows (S 0) (nI b) 0 = _ from c_shows0 hv w (n := 0) hb (by omega), m_showsOf hm w hb]; exact ag_rd h' _
  rw [if_neg y3, if_neg y3]
  by_cases y4 : y = 4
  · rw [if_pos y4, if_pos y4, f_X6_sentFor, at_in (by omega) hb, r4, gd_in hb (by omega), nI_clamp (by omega), m5]; exact ag_rd h' _
  rw [if_neg y4, if_neg y4]
  by_cases y5 : y = 5
  · rw [if_pos y5, if_pos y5, c_placeOf hv w hb, gd_in hb (by omega), nI_clamp (by omega), m4]; exact ag_rd h' _
  rw [if_neg y5, if_neg y5]
  exact ag_no h' 2 (by omega) (by decide)
theorem p_groom (h : REL S s) (x y : Int32) : AG (f_X7_groom S x y) (f_X8_groom s x y) := by
  have h' := h
  obtain ⟨A, w, hy, hv, hm, hr⟩ := h
  have hg5 := w.2.1
  rw [f_X7_groom, f_X8_groom, c_hasGroomI hv, m_isGroom hm, Option.bind_some, Option.bind_some]
  rcases br_cases (n := nG A) (by omega) x with e | ⟨b, hb, rfl, e⟩
  · rw [e, if_pos rfl, if_pos rfl]; exact ag_no h' 1 (by omega) (by decide)
  have hb : b < 5 := by omega
  obtain ⟨r1, r2, r3⟩ := hv.2.2.2.2.2.2 b hb
  obtain ⟨m1, m2, m3, m4⟩ := hm.2.2.2.2 b hb
  rw [e, if_neg n10, if_neg n10]
  by_cases y0 : y = 0
  · rw [if_pos y0, if_pos y0, f_X6_lookOf, at_in (by omega) hb, r1, gd_in hb (by omega), nI_clamp (by omega), m1]; exact ag_rd h' _
  rw [if_neg y0, if_neg y0]
  by_cases y1 : y = 1
  · rw [if_pos y1, if_pos y1, f_X6_mindOf, at_in (by omega) hb, r2, gd_in hb (by omega), nI_clamp (by omega), m2]; exact ag_rd h' _
  rw [if_neg y1, if_neg y1]
  by_cases y2 : y = 2
  · rw [if_pos y2, if_pos y2, f_X6_liquorOf, at_in (by omega) hb, r3, gd_in hb (by omega), nI_clamp (by omega), m3]; exact ag_rd h' _
  rw [if_neg y2, if_neg y2]
  by_cases y3 : y = 3
  · rw [if_pos y3, if_pos y3, c_isUnmarried hv w hb, gd_in hb (by omega), nI_clamp (by omega), m4, Option.bind_some]
    have h8 := (w.2.2.2.2 b hb).2.2.2.1
    rcases (show A 8 b = 0 ∨ A 8 b = 1 by omega) with e8 | e8
    · rw [e8, if_neg (by decide)]; exact ag_rd h' _
    · rw [e8, if_pos (by decide)]; exact ag_rd h' _
  rw [if_neg y3, if_neg y3]
  by_cases y4 : y = 4
  · rw [if_pos y4, if_pos y4, show f_X6_guesses (S 0) (nI b) 0 = _ from c_guesses hv w (n := 0) hb (by omega), m_guesses hm w hb]; exact ag_rd h' _
  rw [if_neg y4, if_neg y4]
  by_cases y5 : y = 5
  · rw [if_pos y5, if_pos y5, show f_X6_knows (S 0) (nI b) 0 = _ from c_knows hv w (n := 0) hb (by omega), m_knows hm w hb]; exact ag_rd h' _
  rw [if_neg y5, if_neg y5]
  exact ag_no h' 2 (by omega) (by decide)
end PB
