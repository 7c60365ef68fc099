/-! what one statement does, in both -/
theorem kind_c : ∀ x, x < 256 → f_J0_indexOf_0f7a4 5 (((nI x).toUInt32 % 65536).toInt32) = some (if fitB x 107 then nI (kd x) else -1) := by decide +kernel
theorem num_2 : ∀ x, x < 58 → ∀ y, y < 58 → 48 ≤ x → 48 ≤ y → (10 : Int32) * (nI x - 48) + (nI y - 48) = nI (10 * (x - 48) + (y - 48)) := by decide +kernel
def STP (t u v : St) (p k : Nat) : Prop :=
  (∃ u' v' A', f_X5_tell t u (nI p) = some (1, u') ∧ f_X8_comes v (nI k) = some (1, v') ∧ RV u' A' ∧ RM v' A' ∧ WF A' ∧ nY A' ≤ 999 ∧ XF v v') ∨ (∃ u', f_X5_tell t u (nI p) = some (0, u') ∧ f_X8_comes v (nI k) = some (0, v))
section TE
variable {c : Nat → Nat} {n : Nat} {t u v : St} {A : AS}
theorem c_at (ht : LT t c n) {j : Nat} (hj : j < n) : f_X7_at 96 (t 0) (nI j) = some (nI (c j)) := by
  have := ht.1
  rw [at_in (by omega) (by omega), (ht.2.2 j hj).2]
theorem c_digit (ht : LT t c n) {j : Nat} (hj : j < n) : f_X5_digitAt t (nI j) = some (nI (c j) - 48) := by
  rw [f_X5_digitAt, c_at ht hj, Option.bind_some]
theorem c_dig (ht : LT t c n) {j : Nat} (hj : j < n) (h : fitB (c j) 57 = true) : f_X5_digitAt t (nI j) = some (nI (dv c j)) := by
  have := (fit57 h).1
  rw [c_digit ht hj, show nI (c j) - (48 : Int32) = nI (c j - 48) from pk_sub (b := 48) this] <;> rfl
theorem c_num (ht : LT t c n) {j : Nat} (hj : j + 1 < n) (h : fitB (c j) 57 = true) (h2 : fitB (c (j + 1)) 57 = true) : f_X5_numberAt t (nI j) = some (nI (dn c j)) := by
  have a := fit57 h
  have b := fit57 h2
  rw [f_X5_numberAt, c_digit ht (by omega), Option.bind_some, nIs, c_digit ht hj, Option.bind_some, num_2 _ (by omega) _ (by omega) a.1 b.1] <;> rfl
theorem dv_le {j : Nat} (h : fitB (c j) 57 = true) : dv c j ≤ 9 := by
  have := fit57 h
  unfold dv
  omega
theorem dn_lt {j : Nat} (h : fitB (c j) 57 = true) (h2 : fitB (c (j + 1)) 57 = true) : dn c j < 100 := by
  have := dv_le h
  have := dv_le h2
  unfold dn
  omega
theorem ag_ge {α : Type} {k : Nat} (hk : k < 48) (x : Option α) : gd (inB (nI k) 48) x = x := gd_in hk (by omega)
theorem i_b (ht : LT t c n) (hv : RV u A) (hm : RM v A) (w : WF A) (hy : nY A ≤ 999) {p k : Nat} (hk : k < 48) (hx : c p = 98) (hp : p + 5 < n) (f1 : fitB (c (p + 1)) 107 = true) (f2 : fitB (c (p + 2)) 57 = true) (f3 : fitB (c (p + 3)) 57 = true) (f4 : fitB (c (p + 4)) 57 = true) (hs : SR c v k p) : STP t u v p k := by
  obtain ⟨s1, s2, s3⟩ := hs
  rw [hx] at s1 s3
  obtain ⟨v1, v2, v3⟩ := s3.1 rfl
  have hc1 := (ht.2.2 (p + 1) (by omega)).1
  have hkd := kd_lt _ hc1 f1
  have hf := dv_le f2
  have hn := dn_lt f3 f4
  have e3k : (3 : Int32) * nI k = nI (3 * k) := pk_mul 3 k
  have hcat : f_X5_kindAt t (nI (p + 1)) = some (nI (kd (c (p + 1)))) := by
    rw [f_X5_kindAt, c_at ht (by omega), Option.bind_some, kind_c _ hc1, Option.bind_some, if_pos f1]
  have hT : f_X5_tell t u (nI p) = (f_X6_addBride u (nI (kd (c (p + 1)))) (nI (dv c (p + 2))) (nI (dn c (p + 3)))).bind (fun q744 => gd (isZ q744.1) (some (q744.1, q744.2))) := by
    rw [f_X5_tell, nIs, show nI p + (2 : Int32) = nI (p + 2) from nI_add p 2, show nI p + (3 : Int32) = nI (p + 3) from nI_add p 3, c_digit ht (by omega), Option.bind_some, c_dig ht (by omega) f2, Option.bind_some, c_at ht (by omega), Option.bind_some, hx, if_pos (show nI 98 = 98 from rfl), hcat, Option.bind_some, c_num ht (by omega) f3 f4, Option.bind_some]
  have hC : f_X8_comes v (nI k) = (f_X8_comesBride v (nI (kd (c (p + 1)))) (nI (dv c (p + 2))) (nI (dn c (p + 3)))).bind (fun q1891 => gd (isZ q1891.1) (some (q1891.1, q1891.2))) := by
    rw [f_X8_comes, ag_ge hk, nI_clamp (n := k) (by omega), s1, if_pos (show nI 98 = 98 from rfl), e3k, nIs, show nI (3 * k) + (2 : Int32) = nI (3 * k + 2) from nI_add _ 2, gd_in (show 3 * k < 144 by omega) (by omega), gd_in (show 3 * k + 1 < 144 by omega) (by omega), gd_in (show 3 * k + 2 < 144 by omega) (by omega), nI_clamp (n := 3 * k) (by omega), nI_clamp (n := 3 * k + 1) (by omega), nI_clamp (n := 3 * k + 2) (by omega), v1, v2, v3]
  unfold STP
  rw [hT, hC]
  rcases p_addBride hv hm w (k := kd (c (p + 1))) (fg := dv c (p + 2)) (ft := dn c (p + 3)) (by omega) hf hn with ⟨u', s', e1, e2, r1, r2, r3, r4⟩ | ⟨u', e1, e2⟩
  · rw [e1, e2]
    exact Or.inl ⟨u', s', _, rfl, rfl, r1, r2, r3, hy, r4⟩
  · rw [e1, e2]
    exact Or.inr ⟨u', rfl, rfl⟩
theorem i_g (ht : LT t c n) (hv : RV u A) (hm : RM v A) (w : WF A) (hy : nY A ≤ 999) {p k : Nat} (hk : k < 48) (hx : c p = 103) (hp : p + 5 < n) (f1 : fitB (c (p + 1)) 57 = true) (f2 : fitB (c (p + 2)) 57 = true) (f3 : fitB (c (p + 3)) 57 = true) (f4 : fitB (c (p + 4)) 57 = true) (hs : SR c v k p) : STP t u v p k := by
  obtain ⟨s1, s2, s3⟩ := hs
  rw [hx] at s1 s3
  obtain ⟨v1, v2⟩ := s3.2.1 rfl
  have hn1 := dn_lt f1 f2
  have hn2 := dn_lt f3 f4
  have e3k : (3 : Int32) * nI k = nI (3 * k) := pk_mul 3 k
  have hT : f_X5_tell t u (nI p) = (f_X6_addGroom u (nI (dn c (p + 1))) (nI (dn c (p + 3)))).bind (fun q744 => gd (isZ q744.1) (some (q744.1, q744.2))) := by
    rw [f_X5_tell, nIs, show nI p + (2 : Int32) = nI (p + 2) from nI_add p 2, show nI p + (3 : Int32) = nI (p + 3) from nI_add p 3, c_digit ht (by omega), Option.bind_some, c_digit ht (by omega), Option.bind_some, c_at ht (by omega), Option.bind_some, hx, if_neg (show ¬ nI 103 = 98 by decide), if_pos (show nI 103 = 103 from rfl), c_num ht (by omega) f1 f2, Option.bind_some, c_num ht (by omega) f3 f4, Option.bind_some]
  have hC : f_X8_comes v (nI k) = (f_X8_comesGroom v (nI (dn c (p + 1))) (nI (dn c (p + 3)))).bind (fun q1891 => gd (isZ q1891.1) (some (q1891.1, q1891.2))) := by
    rw [f_X8_comes, ag_ge hk, nI_clamp (n := k) (by omega), s1, if_neg (show ¬ nI 103 = 98 by decide), if_pos (show nI 103 = 103 from rfl), e3k, nIs, gd_in (show 3 * k < 144 by omega) (by omega), gd_in (show 3 * k + 1 < 144 by omega) (by omega), nI_clamp (n := 3 * k) (by omega), nI_clamp (n := 3 * k + 1) (by omega), v1, v2]
  unfold STP
  rw [hT, hC]
  rcases p_addGroom hv hm w hn1 hn2 with ⟨u', s', e1, e2, r1, r2, r3, r4⟩ | ⟨u', e1, e2⟩
  · rw [e1, e2]
    exact Or.inl ⟨u', s', _, rfl, rfl, r1, r2, r3, hy, r4⟩
  · rw [e1, e2]
    exact Or.inr ⟨u', rfl, rfl⟩
theorem i_t (ht : LT t c n) (hv : RV u A) (hm : RM v A) (w : WF A) (hy : nY A ≤ 999) {p k : Nat} (hk : k < 48) (hx : c p = 116) (hp : p + 3 < n) (f1 : fitB (c (p + 1)) 57 = true) (f2 : fitB (c (p + 2)) 57 = true) (hs : SR c v k p) : STP t u v p k := by
  have hb8 := w.1
  obtain ⟨s1, s2, s3⟩ := hs
  rw [hx] at s1 s3
  obtain ⟨v1, v2⟩ := s3.2.2.2.2.1 rfl
  have d1 := dv_le f1
  have d2 := dv_le f2
  have e3k : (3 : Int32) * nI k = nI (3 * k) := pk_mul 3 k
  unfold STP
  rw [f_X5_tell, nIs, show nI p + (2 : Int32) = nI (p + 2) from nI_add p 2, c_dig ht (by omega) f1, Option.bind_some, c_dig ht (by omega) f2, Option.bind_some, c_at ht (by omega), Option.bind_some, hx, if_neg (show ¬ nI 116 = 98 by decide), if_neg (show ¬ nI 116 = 103 by decide), if_neg (show ¬ nI 116 = 108 by decide), if_pos (show nI 116 = 116 from rfl), f_X8_comes, ag_ge hk, nI_clamp (n := k) (by omega), s1, if_neg (show ¬ nI 116 = 98 by decide), if_neg (show ¬ nI 116 = 103 by decide), if_neg (show ¬ nI 116 = 108 by decide), if_pos (show nI 116 = 116 from rfl), e3k, nIs, nI_clamp (n := 3 * k) (by omega), nI_clamp (n := 3 * k + 1) (by omega), v1, v2, gd_in (show 3 * k < 144 by omega) (by omega), f_X5_tellToe, c_hasBride hv, m_isBride hm, Option.bind_some, Option.bind_some]
  generalize dv c (p + 1) = b at d1
  generalize dv c (p + 2) = y at d2
  by_cases hb : b < nB A
  · have e1 : brI (nB A) (nI b) = 1 := by
      unfold brI
      rw [if_neg (neg_lt (by omega)), if_neg (nI_ge hb (by omega))]
    have hb : b < 8 := by omega
    rw [e1, if_neg n10, if_neg n10, gd_in (show 3 * k + 1 < 144 by omega) (by omega)]
    by_cases h6 : y < 6
    · have h6' : nI y < (6 : Int32) := nI_lt (b := 6) h6 (by omega)
      have hlt : 2 ^ y < 64 := Nat.lt_of_lt_of_le (Nat.pow_lt_pow_right (by omega) h6) (by decide)
      rw [if_pos h6', if_pos h6', shl1 y (by omega), c_chg hv hb, Option.bind_some, Option.bind_some, gdT (show isZ _ = true from rfl), gd_in (show 3 * k < 144 by omega) (by omega), gd_in hb (by omega), gd_in (show 3 * k + 1 < 144 by omega) (by omega), gd_in hb (by omega), nI_clamp (n := b) (by omega), (hm.2.2.2.1 b hb).2.2.1, nI_xor]
      exact Or.inl ⟨_, _, _, rfl, rfl, RV_2 hv b (A 2 b ^^^ 2 ^ y), RM_3 hm b (A 2 b ^^^ 2 ^ y), WF_2 w b (xor_lt (w.2.2.2.1 b hb).2.2.1 hlt), hy, ⟨rfl, rfl, rfl, rfl, rfl, rfl, rfl⟩, ⟨rfl, rfl, rfl, rfl⟩⟩
    · have h6' : ¬ nI y < (6 : Int32) := nI_nlt (b := 6) (by omega) (by omega)
      rw [if_neg h6', if_neg h6', Option.bind_some, gdT (show isZ _ = true from rfl)]
      exact Or.inr ⟨_, rfl, rfl⟩
  · have e1 : brI (nB A) (nI b) = 0 := by
      unfold brI
      rw [if_neg (neg_lt (by omega)), if_pos (nI_le (by omega) (by omega))]
    rw [e1, if_pos rfl, if_pos rfl, Option.bind_some, gdT (show isZ _ = true from rfl)]
    exact Or.inr ⟨_, rfl, rfl⟩
theorem i_l (ht : LT t c n) (hv : RV u A) (hm : RM v A) (w : WF A) (hy : nY A ≤ 999) {p k : Nat} (hk : k < 48) (hx : c p = 108) (hp : p + 3 < n) (f1 : fitB (c (p + 1)) 57 = true) (f2 : fitB (c (p + 2)) 57 = true) (hs : SR c v k p) : STP t u v p k := by
  have hg5 := w.2.1
  obtain ⟨s1, s2, s3⟩ := hs
  rw [hx] at s1 s3
  obtain ⟨v1, v2⟩ := s3.2.2.2.2.2 rfl
  have d1 := dv_le f1
  have d2 := dv_le f2
  have e3k : (3 : Int32) * nI k = nI (3 * k) := pk_mul 3 k
  unfold STP
  rw [f_X5_tell, nIs, show nI p + (2 : Int32) = nI (p + 2) from nI_add p 2, c_dig ht (by omega) f1, Option.bind_some, c_dig ht (by omega) f2, Option.bind_some, c_at ht (by omega), Option.bind_some, hx, if_neg (show ¬ nI 108 = 98 by decide), if_neg (show ¬ nI 108 = 103 by decide), if_pos (show nI 108 = 108 from rfl), f_X8_comes, ag_ge hk, nI_clamp (n := k) (by omega), s1, if_neg (show ¬ nI 108 = 98 by decide), if_neg (show ¬ nI 108 = 103 by decide), if_pos (show nI 108 = 108 from rfl), e3k, nIs, nI_clamp (n := 3 * k) (by omega), nI_clamp (n := 3 * k + 1) (by omega), v1, v2, gd_in (show 3 * k < 144 by omega) (by omega), f_X5_tellLiquor, c_hasGroomI hv, m_isGroom hm, Option.bind_some, Option.bind_some]
  generalize dv c (p + 1) = g at d1
  generalize dv c (p + 2) = y at d2
  by_cases hg : g < nG A
  · have e1 : brI (nG A) (nI g) = 1 := by
      unfold brI
      rw [if_neg (neg_lt (by omega)), if_neg (nI_ge hg (by omega))]
    have hg5 : g < 5 := by omega
    rw [e1, if_neg n10, if_neg n10, f_X6_setLiquor, put_in (by omega) hg5, Option.bind_some, Option.bind_some, Option.bind_some, gdT (show isZ _ = true from rfl), gd_in (show 3 * k < 144 by omega) (by omega), gd_in (show 3 * k + 1 < 144 by omega) (by omega), gd_in hg5 (by omega), nI_clamp (n := g) (by omega)]
    exact Or.inl ⟨_, _, _, rfl, rfl, RV_6 hv g y, RM_8 hm g y, WF_7 w hg d2, hy, ⟨rfl, rfl, rfl, rfl, rfl, rfl, rfl⟩, ⟨rfl, rfl, rfl, rfl⟩⟩
  · have e1 : brI (nG A) (nI g) = 0 := by
      unfold brI
      rw [if_neg (neg_lt (by omega)), if_pos (nI_le (by omega) (by omega))]
    rw [e1, if_pos rfl, if_pos rfl, Option.bind_some, gdT (show isZ _ = true from rfl)]
    exact Or.inr ⟨_, rfl, rfl⟩
theorem i_w (ht : LT t c n) (hv : RV u A) (hm : RM v A) (w : WF A) (hy : nY A ≤ 999) {p k : Nat} (hk : k < 48) (hx : c p = 119) (hp : p + 2 < n) (f1 : fitB (c (p + 1)) 57 = true) (hs : SR c v k p) : STP t u v p k := by
  have hg5 := w.2.1
  obtain ⟨s1, s2, s3⟩ := hs
  rw [hx] at s1 s3
  have v1 := s3.2.2.1 rfl
  have d1 := dv_le f1
  have e3k : (3 : Int32) * nI k = nI (3 * k) := pk_mul 3 k
  unfold STP
  rw [f_X5_tell, nIs, show nI p + (2 : Int32) = nI (p + 2) from nI_add p 2, c_dig ht (by omega) f1, Option.bind_some, c_digit ht (by omega), Option.bind_some, c_at ht (by omega), Option.bind_some, hx, if_neg (show ¬ nI 119 = 98 by decide), if_neg (show ¬ nI 119 = 103 by decide), if_neg (show ¬ nI 119 = 108 by decide), if_neg (show ¬ nI 119 = 116 by decide), if_pos (show nI 119 = 119 from rfl), f_X8_comes, ag_ge hk, nI_clamp (n := k) (by omega), s1, if_neg (show ¬ nI 119 = 98 by decide), if_neg (show ¬ nI 119 = 103 by decide), if_neg (show ¬ nI 119 = 108 by decide), if_neg (show ¬ nI 119 = 116 by decide), if_pos (show nI 119 = 119 from rfl), e3k, nI_clamp (n := 3 * k) (by omega), v1, gd_in (show 3 * k < 144 by omega) (by omega), m_isGroom hm, Option.bind_some]
  generalize dv c (p + 1) = g at d1
  by_cases hg : g < nG A
  · have e1 : brI (nG A) (nI g) = 1 := by
      unfold brI
      rw [if_neg (neg_lt (by omega)), if_neg (nI_ge hg (by omega))]
    rw [e1, if_neg n10, c_canWed hv w (by omega), Option.bind_some, gd_in (show 3 * k < 144 by omega) (by omega), m_canWed hm w hg, Option.bind_some]
    by_cases hc : canW A g = true
    · obtain ⟨u', e2, r2⟩ := c_wed hv w hc
      obtain ⟨v', e3, r3, k3⟩ := m_weds hm w hc
      have h9 : ¬ wedI A g = -9 := by
        rcases wedI_s hc with ⟨-, q, hq, e⟩ | ⟨-, q, hq, e⟩
        · rw [e]; exact nI_ne9 (by omega)
        · rw [e]; exact nI_ne9 (by omega)
      rw [if_pos hc, if_neg ni1, if_neg ni1, e2, Option.bind_some, gd_in (show 3 * k < 144 by omega) (by omega), e3, Option.bind_some]
      dsimp only
      rw [if_neg h9]
      exact Or.inl ⟨_, _, _, rfl, rfl, r2, r3, wed_WF w hc, by show wedA A g 9 2 ≤ 999; rw [wedA_9]; exact hy, k3, wd_h e3⟩
    · rw [if_neg hc, if_pos ni0, if_pos ni0]
      exact Or.inr ⟨_, rfl, rfl⟩
  · have e1 : brI (nG A) (nI g) = 0 := by
      unfold brI
      rw [if_neg (neg_lt (by omega)), if_pos (nI_le (by omega) (by omega))]
    rw [e1, if_pos rfl, f_X6_canWed, c_hasGroomI hv, e1, Option.bind_some, if_pos rfl, Option.bind_some, if_pos rfl]
    exact Or.inr ⟨_, rfl, rfl⟩
theorem i_y (ht : LT t c n) (hv : RV u A) (hm : RM v A) (w : WF A) (hy : nY A ≤ 999) {p k : Nat} (hk : k < 48) (hx : c p = 121) (hp : p + 3 < n) (f1 : fitB (c (p + 1)) 57 = true) (f2 : fitB (c (p + 2)) 57 = true) (hs : SR c v k p) : STP t u v p k := by
  obtain ⟨s1, s2, s3⟩ := hs
  rw [hx] at s1 s3
  have v1 := s3.2.2.2.1 rfl
  have hn := dn_lt f1 f2
  have e3k : (3 : Int32) * nI k = nI (3 * k) := pk_mul 3 k
  unfold STP
  rw [f_X5_tell, nIs, show nI p + (2 : Int32) = nI (p + 2) from nI_add p 2, c_digit ht (by omega), Option.bind_some, c_digit ht (by omega), Option.bind_some, c_at ht (by omega), Option.bind_some, hx, if_neg (show ¬ nI 121 = 98 by decide), if_neg (show ¬ nI 121 = 103 by decide), if_neg (show ¬ nI 121 = 108 by decide), if_neg (show ¬ nI 121 = 116 by decide), if_neg (show ¬ nI 121 = 119 by decide), c_num ht (by omega) f1 f2, Option.bind_some, f_X8_comes, ag_ge hk, nI_clamp (n := k) (by omega), s1, if_neg (show ¬ nI 121 = 98 by decide), if_neg (show ¬ nI 121 = 103 by decide), if_neg (show ¬ nI 121 = 108 by decide), if_neg (show ¬ nI 121 = 116 by decide), if_neg (show ¬ nI 121 = 119 by decide), e3k, nI_clamp (n := 3 * k) (by omega), v1, gd_in (show 3 * k < 144 by omega) (by omega), f_X5_tellYears, f_X8_comesYears, f_X8_isIn]
  generalize dn c (p + 1) = y at hn
  by_cases h1 : y < 1
  · have h1' : nI y < (1 : Int32) := nI_lt (b := 1) h1 (by omega)
    rw [if_pos h1', if_pos h1', Option.bind_some, gdT (show isZ _ = true from rfl), Option.bind_some, if_pos rfl, Option.bind_some, gdT (show isZ _ = true from rfl)]
    exact Or.inr ⟨_, rfl, rfl⟩
  have h1' : ¬ nI y < (1 : Int32) := nI_nlt (b := 1) (by omega) (by omega)
  rw [if_neg h1', if_neg h1']
  by_cases h6 : 60 < y
  · have h6' : (60 : Int32) < nI y := nI_lt (a := 60) h6 (by omega)
    rw [if_pos h6', if_pos h6', Option.bind_some, gdT (show isZ _ = true from rfl), Option.bind_some, if_pos rfl, Option.bind_some, gdT (show isZ _ = true from rfl)]
    exact Or.inr ⟨_, rfl, rfl⟩
  have h6' : ¬ (60 : Int32) < nI y := nI_nlt (a := 60) (by omega) (by omega)
  rw [if_neg h6', if_neg h6', f_X6_canPass, hv.1, hm.2.2.1, nI_add, k999, ifLt (by omega) (by omega), Option.bind_some, if_neg n10, ifL (by omega) (by omega)]
  by_cases hc : nY A + y ≤ 999
  · obtain ⟨u', e3, r3⟩ := c_passYears hv w (n := y) (by omega)
    obtain ⟨v', e4, r4, k4⟩ := m_goes hm w (n := y) (by omega) (by omega)
    rw [if_neg (by omega), if_pos hc, Option.bind_some, if_neg n10, e3, Option.bind_some, Option.bind_some, gdT (show isZ _ = true from rfl), e4, Option.bind_some, Option.bind_some, gdT (show isZ _ = true from rfl)]
    exact Or.inl ⟨_, _, _, rfl, rfl, r3, r4, pass_WF w (by omega), hc, k4, go_h e4⟩
  · rw [if_pos (by omega), if_neg hc, Option.bind_some, if_pos rfl, Option.bind_some, gdT (show isZ _ = true from rfl), Option.bind_some, gdT (show isZ _ = true from rfl)]
    exact Or.inr ⟨_, rfl, rfl⟩
theorem i_all (ht : LT t c n) (hv : RV u A) (hm : RM v A) (w : WF A) (hy : nY A ≤ 999) {p k : Nat} (hk : k < 48) (hp : p < n) (hs : (stt c n p).2 = true) (hr : SR c v k p) : STP t u v p k := by
  have hc := (ht.2.2 p hp).1
  obtain ⟨b1, b2, b3, b4⟩ := stt_ok hc hs
  have hf := (sc_ok _ _ b2).2
  rcases bdy_x _ hc b1 with e | e | e | e | e | e
  · rw [show frm (c p) = [107, 57, 57, 57, 59] by rw [e]; rfl] at hf
    exact i_b ht hv hm w hy hk e (hf 4 (by decide)).1 (hf 0 (by decide)).2 (hf 1 (by decide)).2 (hf 2 (by decide)).2 (hf 3 (by decide)).2 hr
  · rw [show frm (c p) = [57, 57, 57, 57, 59] by rw [e]; rfl] at hf
    exact i_g ht hv hm w hy hk e (hf 4 (by decide)).1 (hf 0 (by decide)).2 (hf 1 (by decide)).2 (hf 2 (by decide)).2 (hf 3 (by decide)).2 hr
  · rw [show frm (c p) = [57, 57, 59] by rw [e]; rfl] at hf
    exact i_t ht hv hm w hy hk e (hf 2 (by decide)).1 (hf 0 (by decide)).2 (hf 1 (by decide)).2 hr
  · rw [show frm (c p) = [57, 57, 59] by rw [e]; rfl] at hf
    exact i_l ht hv hm w hy hk e (hf 2 (by decide)).1 (hf 0 (by decide)).2 (hf 1 (by decide)).2 hr
  · rw [show frm (c p) = [57, 57, 59] by rw [e]; rfl] at hf
    exact i_y ht hv hm w hy hk e (hf 2 (by decide)).1 (hf 0 (by decide)).2 (hf 1 (by decide)).2 hr
  · rw [show frm (c p) = [57, 59] by rw [e]; rfl] at hf
    exact i_w ht hv hm w hy hk e (hf 1 (by decide)).1 (hf 0 (by decide)).2 hr
end TE
