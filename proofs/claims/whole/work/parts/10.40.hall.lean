/-! pairs: the most of them, told by sets of grooms (Hall, Ore) -/
def del (F : Nat → Bool) (b : Nat) : Nat → Bool := fun j => F j && !(j == b)
def nt (T : Nat → Bool) : Nat → Nat
  | 0 => 0
  | r + 1 => nt T r + (if T (r + 1) then 0 else 1)
def uu (P : Nat → Nat → Bool) (T : Nat → Bool) : Nat → Nat → Bool
  | 0, _ => false
  | r + 1, b => uu P T r b || (T (r + 1) && P (r + 1) b)
def val (P : Nat → Nat → Bool) (T F : Nat → Bool) (r : Nat) : Nat := nt T r + cB (fun b => uu P T r b && F b) 8
def mxf (c : Nat → Bool) (f : Nat → Nat) (z : Nat) : Nat → Nat
  | 0 => z
  | b + 1 => if c b then max (mxf c f z b) (f b) else mxf c f z b
def dpf (P : Nat → Nat → Bool) : Nat → (Nat → Bool) → Nat
  | 0, _ => 0
  | r + 1, F => mxf (fun b => P (r + 1) b && F b) (fun b => 1 + dpf P r (del F b)) (dpf P r F) 8
theorem mxf_t {c : Nat → Bool} {f : Nat → Nat} {z b : Nat} (h : c b = true) : mxf c f z (b + 1) = max (mxf c f z b) (f b) := if_pos h
theorem mxf_f {c : Nat → Bool} {f : Nat → Nat} {z b : Nat} (h : c b = false) : mxf c f z (b + 1) = mxf c f z b := by
  show (if c b then _ else _) = _
  rw [h, if_neg nft]
theorem mxf_0 {c : Nat → Bool} {f : Nat → Nat} {z : Nat} : ∀ n, z ≤ mxf c f z n
  | 0 => Nat.le_refl _
  | n + 1 => by
    have ih := mxf_0 (c := c) (f := f) (z := z) n
    cases hc : c n with
    | true => rw [mxf_t hc]; exact Nat.le_trans ih (Nat.le_max_left _ _)
    | false => rw [mxf_f hc]; exact ih
theorem mxf_ge {c : Nat → Bool} {f : Nat → Nat} {z : Nat} : ∀ n b, b < n → c b = true → f b ≤ mxf c f z n
  | 0, b, h, _ => by omega
  | n + 1, b, h, hb => by
    rcases Nat.lt_or_ge b n with q | q
    · have ih := mxf_ge (c := c) (f := f) (z := z) n b q hb
      cases hc : c n with
      | true => rw [mxf_t hc]; exact Nat.le_trans ih (Nat.le_max_left _ _)
      | false => rw [mxf_f hc]; exact ih
    · have : b = n := by omega
      subst this
      rw [mxf_t hb]
      exact Nat.le_max_right _ _
theorem mxf_or {c : Nat → Bool} {f : Nat → Nat} {z : Nat} : ∀ n, mxf c f z n = z ∨ ∃ b, b < n ∧ c b = true ∧ mxf c f z n = f b
  | 0 => Or.inl rfl
  | n + 1 => by
    have ih := mxf_or (c := c) (f := f) (z := z) n
    cases hc : c n with
    | false =>
      rw [mxf_f hc]
      rcases ih with e | ⟨b, h1, h2, h3⟩
      · exact Or.inl e
      · exact Or.inr ⟨b, by omega, h2, h3⟩
    | true =>
      rw [mxf_t hc]
      rcases Nat.le_total (mxf c f z n) (f n) with q | q
      · exact Or.inr ⟨n, by omega, hc, Nat.max_eq_right q⟩
      · rw [Nat.max_eq_left q]
        rcases ih with e | ⟨b, h1, h2, h3⟩
        · exact Or.inl e
        · exact Or.inr ⟨b, by omega, h2, h3⟩
theorem cB_mono {p q : Nat → Bool} : ∀ n, (∀ i, i < n → p i = true → q i = true) → cB p n ≤ cB q n
  | 0, _ => Nat.le_refl _
  | n + 1, h => by
    have ih := cB_mono n (fun i hi => h i (by omega))
    rw [cB_s, cB_s]
    cases hp : p n with
    | false => rw [if_neg nft]; omega
    | true => rw [if_pos rfl, h n (by omega) hp, if_pos rfl]; omega
theorem cB_lt {p q : Nat → Bool} {b : Nat} : ∀ n, b < n → p b = false → q b = true → (∀ i, i < n → p i = true → q i = true) → cB p n + 1 ≤ cB q n
  | 0, h, _, _, _ => by omega
  | n + 1, hb, h1, h2, h => by
    rw [cB_s, cB_s]
    by_cases e : b = n
    · subst e
      have := cB_mono b (fun i hi => h i (by omega))
      rw [h1, h2, if_neg nft, if_pos rfl]
      omega
    · have ih := cB_lt n (by omega) h1 h2 (fun i hi => h i (by omega))
      cases hp : p n with
      | false => rw [if_neg nft]; omega
      | true => rw [if_pos rfl, h n (by omega) hp, if_pos rfl]; omega
theorem cB_oa (p q : Nat → Bool) : ∀ n, cB (fun i => p i || q i) n + cB (fun i => p i && q i) n = cB p n + cB q n
  | 0 => rfl
  | n + 1 => by
    have ih := cB_oa p q n
    rw [cB_s, cB_s, cB_s, cB_s]
    cases p n <;> cases q n <;> simp <;> omega
theorem cB_del (u F : Nat → Bool) (b : Nat) : ∀ n, cB (fun j => u j && F j) n ≤ cB (fun j => u j && del F b j) n + (if b < n then 1 else 0)
  | 0 => Nat.zero_le _
  | n + 1 => by
    have ih := cB_del u F b n
    rw [cB_s, cB_s]
    by_cases e : n = b
    · subst e
      rw [if_neg (Nat.lt_irrefl n)] at ih
      rw [if_pos (Nat.lt_succ_self n)]
      have : (if (u n && F n) = true then 1 else 0) ≤ 1 := by split <;> omega
      omega
    · have e2 : (u n && del F b n) = (u n && F n) := by
        unfold del
        rw [beq_eq_false_iff_ne.mpr e, Bool.not_false, Bool.and_true]
      rw [e2]
      by_cases c : b < n
      · rw [if_pos c] at ih; rw [if_pos (show b < n + 1 by omega)]; omega
      · rw [if_neg c] at ih; rw [if_neg (show ¬ b < n + 1 by omega)]; omega
section HA
variable {P : Nat → Nat → Bool} {T T' F : Nat → Bool}
theorem uu_congr : ∀ r, (∀ l, 0 < l → l ≤ r → T l = T' l) → ∀ b, uu P T r b = uu P T' r b
  | 0, _, _ => rfl
  | r + 1, h, b => by
    show (uu P T r b || (T (r + 1) && P (r + 1) b)) = (uu P T' r b || (T' (r + 1) && P (r + 1) b))
    rw [uu_congr r (fun l h0 hl => h l h0 (by omega)) b, h (r + 1) (by omega) (Nat.le_refl _)]
theorem nt_congr : ∀ r, (∀ l, 0 < l → l ≤ r → T l = T' l) → nt T r = nt T' r
  | 0, _ => rfl
  | r + 1, h => by
    show nt T r + (if T (r + 1) then 0 else 1) = nt T' r + (if T' (r + 1) then 0 else 1)
    rw [nt_congr r (fun l h0 hl => h l h0 (by omega)), h (r + 1) (by omega) (Nat.le_refl _)]
theorem val_congr {r : Nat} (h : ∀ l, 0 < l → l ≤ r → T l = T' l) : val P T F r = val P T' F r := by
  unfold val
  rw [nt_congr r h, cB_congr (fun b _ => by show (uu P T r b && F b) = (uu P T' r b && F b); rw [uu_congr r h b])]
theorem uu_or : ∀ r b, uu P (fun l => T l || T' l) r b = (uu P T r b || uu P T' r b)
  | 0, _ => rfl
  | r + 1, b => by
    show (uu P (fun l => T l || T' l) r b || ((T (r + 1) || T' (r + 1)) && P (r + 1) b)) = ((uu P T r b || (T (r + 1) && P (r + 1) b)) || (uu P T' r b || (T' (r + 1) && P (r + 1) b)))
    rw [uu_or r b]
    cases uu P T r b <;> cases uu P T' r b <;> cases T (r + 1) <;> cases T' (r + 1) <;> cases P (r + 1) b <;> rfl
theorem uu_and : ∀ r b, uu P (fun l => T l && T' l) r b = true → (uu P T r b && uu P T' r b) = true
  | 0, _, h => by cases h
  | r + 1, b, h => by
    have h : (uu P (fun l => T l && T' l) r b || ((T (r + 1) && T' (r + 1)) && P (r + 1) b)) = true := h
    show ((uu P T r b || (T (r + 1) && P (r + 1) b)) && (uu P T' r b || (T' (r + 1) && P (r + 1) b))) = true
    rcases (Bool.or_eq_true _ _).mp h with q | q
    · have := (Bool.and_eq_true _ _).mp (uu_and r b q)
      rw [this.1, this.2] <;> rfl
    · obtain ⟨q1, q2⟩ := (Bool.and_eq_true _ _).mp q
      obtain ⟨q3, q4⟩ := (Bool.and_eq_true _ _).mp q1
      rw [q2, q3, q4]
      simp
theorem nt_oa : ∀ r, nt (fun l => T l || T' l) r + nt (fun l => T l && T' l) r = nt T r + nt T' r
  | 0 => rfl
  | r + 1 => by
    have ih := nt_oa r
    show nt (fun l => T l || T' l) r + (if (T (r + 1) || T' (r + 1)) then 0 else 1) + (nt (fun l => T l && T' l) r + (if (T (r + 1) && T' (r + 1)) then 0 else 1)) = nt T r + (if T (r + 1) then 0 else 1) + (nt T' r + (if T' (r + 1) then 0 else 1))
    cases T (r + 1) <;> cases T' (r + 1) <;> simp <;> omega
theorem val_oa (r : Nat) : val P (fun l => T l || T' l) F r + val P (fun l => T l && T' l) F r ≤ val P T F r + val P T' F r := by
  have h1 := nt_oa (T := T) (T' := T') r
  have h2 := cB_oa (fun b => uu P T r b && F b) (fun b => uu P T' r b && F b) 8
  have h3 : cB (fun b => uu P (fun l => T l || T' l) r b && F b) 8 = cB (fun b => (uu P T r b && F b) || (uu P T' r b && F b)) 8 := cB_congr fun b _ => by
    show (uu P (fun l => T l || T' l) r b && F b) = ((uu P T r b && F b) || (uu P T' r b && F b))
    rw [uu_or]
    cases uu P T r b <;> cases uu P T' r b <;> cases F b <;> rfl
  have h4 : cB (fun b => uu P (fun l => T l && T' l) r b && F b) 8 ≤ cB (fun b => (uu P T r b && F b) && (uu P T' r b && F b)) 8 := cB_mono 8 fun b _ hb => by
    obtain ⟨q1, q2⟩ := (Bool.and_eq_true _ _).mp hb
    obtain ⟨q3, q4⟩ := (Bool.and_eq_true _ _).mp (uu_and r b q1)
    show ((uu P T r b && F b) && (uu P T' r b && F b)) = true
    rw [q2, q3, q4] <;> rfl
  unfold val
  omega
theorem val_T {r : Nat} (h : T (r + 1) = true) : val P T F (r + 1) = nt T r + cB (fun b => (uu P T r b || P (r + 1) b) && F b) 8 := by
  show nt T r + (if T (r + 1) then 0 else 1) + cB (fun b => (uu P T r b || (T (r + 1) && P (r + 1) b)) && F b) 8 = _
  rw [h, if_pos rfl] <;> rfl
theorem val_F {r : Nat} (h : T (r + 1) = false) : val P T F (r + 1) = val P T F r + 1 := by
  show nt T r + (if T (r + 1) then 0 else 1) + cB (fun b => (uu P T r b || (T (r + 1) && P (r + 1) b)) && F b) 8 = _
  have : cB (fun b => (uu P T r b || (T (r + 1) && P (r + 1) b)) && F b) 8 = cB (fun b => uu P T r b && F b) 8 := cB_congr fun b _ => by
    show ((uu P T r b || (T (r + 1) && P (r + 1) b)) && F b) = (uu P T r b && F b)
    rw [h, Bool.false_and, Bool.or_false]
  rw [this, h, if_neg nft]
  unfold val
  omega
def ext (T : Nat → Bool) (r : Nat) (t : Bool) : Nat → Bool := fun l => if l = r + 1 then t else T l
theorem ext_s {r : Nat} {t : Bool} : ext T r t (r + 1) = t := if_pos rfl
theorem ext_l {r l : Nat} {t : Bool} (h : l ≤ r) : ext T r t l = T l := if_neg (by omega)
theorem dp_val : ∀ r F, (∀ T, dpf P r F ≤ val P T F r) ∧ ∃ T, val P T F r = dpf P r F
  | 0, F => ⟨fun T => Nat.zero_le _, fun _ => false, by
    show 0 + cB (fun b => false && F b) 8 = 0
    rw [cB_0 (p := fun b => false && F b) 8 (fun i _ => rfl)]⟩
  | r + 1, F => by
    have ih := dp_val r
    have hz : dpf P r F ≤ dpf P (r + 1) F := mxf_0 8
    have hb : ∀ b, b < 8 → (P (r + 1) b && F b) = true → 1 + dpf P r (del F b) ≤ dpf P (r + 1) F := fun b h1 h2 => mxf_ge (f := fun b => 1 + dpf P r (del F b)) 8 b h1 h2
    have hx : dpf P (r + 1) F = dpf P r F ∨ ∃ b, b < 8 ∧ (P (r + 1) b && F b) = true ∧ dpf P (r + 1) F = 1 + dpf P r (del F b) := mxf_or 8
    have hle : ∀ T, dpf P (r + 1) F ≤ val P T F (r + 1) := fun T => by
      rcases hx with e | ⟨b, b8, hc, e⟩
      · rw [e]
        have h1 := (ih F).1 T
        cases hT : T (r + 1) with
        | true =>
          rw [val_T hT]
          have h2 : cB (fun j => uu P T r j && F j) 8 ≤ cB (fun j => (uu P T r j || P (r + 1) j) && F j) 8 := cB_mono 8 fun i _ hi => by
            obtain ⟨q1, q2⟩ := (Bool.and_eq_true _ _).mp hi
            show ((uu P T r i || P (r + 1) i) && F i) = true
            rw [q1, q2] <;> rfl
          unfold val at h1
          omega
        | false =>
          rw [val_F hT]
          omega
      · obtain ⟨c1, c2⟩ := (Bool.and_eq_true _ _).mp hc
        have h1 := (ih (del F b)).1 T
        rw [e]
        cases hT : T (r + 1) with
        | true =>
          rw [val_T hT]
          have h2 : cB (fun j => uu P T r j && del F b j) 8 + 1 ≤ cB (fun j => (uu P T r j || P (r + 1) j) && F j) 8 := cB_lt 8 b8 (by
            show (uu P T r b && (F b && !(b == b))) = false
            simp) (by
            show ((uu P T r b || P (r + 1) b) && F b) = true
            simp [c1, c2]) (fun i _ hi => by
            obtain ⟨q1, q2⟩ := (Bool.and_eq_true _ _).mp hi
            obtain ⟨q3, q4⟩ := (Bool.and_eq_true _ _).mp q2
            show ((uu P T r i || P (r + 1) i) && F i) = true
            rw [q1, q3] <;> rfl)
          unfold val at h1
          omega
        | false =>
          rw [val_F hT]
          have h2 : cB (fun j => uu P T r j && del F b j) 8 ≤ cB (fun j => uu P T r j && F j) 8 := cB_mono 8 fun i _ hi => by
            obtain ⟨q1, q2⟩ := (Bool.and_eq_true _ _).mp hi
            obtain ⟨q3, q4⟩ := (Bool.and_eq_true _ _).mp q2
            show (uu P T r i && F i) = true
            rw [q1, q3] <;> rfl
          unfold val at h1 ⊢
          omega
    refine ⟨hle, ?_⟩
    obtain ⟨T0, e0⟩ := (ih F).2
    have hf : val P (ext T0 r false) F (r + 1) = dpf P r F + 1 := by
      rw [val_F ext_s, val_congr (T' := T0) (fun l _ hl => ext_l hl), e0]
    have h1 := hle (ext T0 r false)
    by_cases hD : dpf P (r + 1) F = dpf P r F + 1
    · exact ⟨_, by rw [hf, hD]⟩
    have hD : dpf P (r + 1) F = dpf P r F := by omega
    have key : ∀ n, n ≤ 8 → ∃ T, val P T F r = dpf P r F ∧ ∀ b, b < n → (P (r + 1) b && F b) = true → uu P T r b = true := by
      intro n
      induction n with
      | zero => intro _; exact ⟨T0, e0, fun b hb => by omega⟩
      | succ n ihn =>
        intro hn
        obtain ⟨T1, t1, t2⟩ := ihn (by omega)
        by_cases hc : (P (r + 1) n && F n) = true
        · obtain ⟨T2, t3⟩ := (ih (del F n)).2
          have h2 := hb n (by omega) hc
          have h3 := (ih F).1 T2
          have hu : uu P T2 r n = true := by
            cases hq : uu P T2 r n with
            | true => rfl
            | false =>
              exfalso
              have h4 : cB (fun j => uu P T2 r j && F j) 8 ≤ cB (fun j => uu P T2 r j && del F n j) 8 := cB_mono 8 fun i _ hi => by
                obtain ⟨q1, q2⟩ := (Bool.and_eq_true _ _).mp hi
                have hne : i ≠ n := fun e => by rw [e, hq] at q1; cases q1
                show (uu P T2 r i && (F i && !(i == n))) = true
                rw [q1, q2, beq_eq_false_iff_ne.mpr hne] <;> rfl
              unfold val at h3 t3
              omega
          have ht : val P T2 F r = dpf P r F := by
            have h4 := cB_del (uu P T2 r) F n 8
            rw [if_pos (show n < 8 by omega)] at h4
            unfold val at h3 t3 ⊢
            omega
          have hs := val_oa (P := P) (T := T1) (T' := T2) (F := F) r
          have ha := (ih F).1 (fun l => T1 l && T2 l)
          have ho := (ih F).1 (fun l => T1 l || T2 l)
          refine ⟨fun l => T1 l || T2 l, by omega, fun b hb' hcb => ?_⟩
          rw [uu_or]
          rcases Nat.lt_or_ge b n with c | c
          · rw [t2 b c hcb] <;> rfl
          · have : b = n := by omega
            rw [this, hu, Bool.or_true]
        · refine ⟨T1, t1, fun b hb' hcb => ?_⟩
          rcases Nat.lt_or_ge b n with c | c
          · exact t2 b c hcb
          · have : b = n := by omega
            rw [this] at hcb
            exact absurd hcb hc
    obtain ⟨T, t1, t2⟩ := key 8 (Nat.le_refl _)
    refine ⟨ext T r true, ?_⟩
    rw [val_T ext_s, hD, ← t1, nt_congr (T' := T) r (fun l _ hl => ext_l hl)]
    unfold val
    congr 1
    exact cB_congr fun b hb' => by
      show ((uu P (ext T r true) r b || P (r + 1) b) && F b) = (uu P T r b && F b)
      rw [uu_congr (T' := T) r (fun l _ hl => ext_l hl)]
      cases hF : F b with
      | false => simp
      | true =>
        cases hP : P (r + 1) b with
        | false => simp
        | true =>
          have := t2 b hb' (by rw [hP, hF] <;> rfl)
          rw [this] <;> rfl
end HA
