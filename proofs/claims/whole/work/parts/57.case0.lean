set_option maxHeartbeats 1000000 in
theorem lw_letter {p : Program} {e : Env} {s : State} {m : MethodId} {below : List Frame} {meth : Method} {c : Code} (l : Launch) {b L : Nat} {xs : Nat → Int32} {G : Gx} {a a' : Nat → Nat} {i : Nat} (hL : L ≤ 2048) (hi : i + 4 ≤ L) (C0 : lw_At p s m meth c b L xs) (hE : Amb G s) (hG : G.2.1 = s.heap.size) (kk : lwI p l e s m b below meth c G a a' i 1220) : lwI p l e s m b below meth c G a a' i 208 := by
  intro S v h H locs hP hD hS ls hl
  obtain ⟨hx, hb, hr, hml, hown, hts, hX, hbl, hlocks, hgv⟩ := C0
  have htsL : ∀ w ∈ wsL_law, w.before #[Value.ref b] s = true := fun w hw => hts w (wsL_law_in w hw)
  have hbA : ¬ lwA s b := Nat.not_le.mpr hbl
  have hAB : ∀ q, lwA s q → gB G q := fun q hq => (show G.2.1 ≤ q by rw [hG]; exact hq)
  have hCF : CallFix p m c code 4 s #[Value.ref b] wsL_law RL := ⟨hx, hb, hml, hown, htsL⟩
  obtain ⟨r, S', v', e7, e8, h'⟩ := p_letter h (xs (nI i + 1).toNatClampNeg)
  refine lv_aload_n hx hb dL_law_208 rfl (lv_at hl 1 rfl) ?_
  refine lv_aload_n hx hb dL_law_209 rfl (lv_at hl 0 rfl) ?_
  refine lv_iload_n hx hb dL_law_210 rfl (lv_at hl 3 rfl) ?_
  refine lv_iconst (v := (1 : Int32)) hx hb dL_law_211 (by decide) ?_
  refine lv_iadd hx hb dL_law_212 ?_
  refine va_sld hx hb hX hbl hbA hS (lw_in 1 hL hi (by decide)) dL_law_213 ?_
  refine lw_c7 (r := .int r) (As := [.int (xs (nI i + 1).toNatClampNeg)]) (rest := []) hCF (k_X7_letter a S _ e7) (cwV 1 htsL gL_law_X7_letter rfl rfl rfl ⟨rfl, dk_X7_letter⟩ ⟨Nat.le_of_ble_eq_true rfl, Nat.le_of_ble_eq_true rfl⟩) hE hAB hP hD hS rfl hl.1 rfl (Nat.le_of_ble_eq_true rfl) dL_law_214 (fun H locs hP hD hS => ?_)
  refine lv_aload_n hx hb dL_law_217 rfl (lv_at hl 2 rfl) ?_
  refine lv_aload_n hx hb dL_law_218 rfl (lv_at hl 0 rfl) ?_
  refine lv_iload_n hx hb dL_law_219 rfl (lv_at hl 3 rfl) ?_
  refine lv_iconst (v := (1 : Int32)) hx hb dL_law_220 (by decide) ?_
  refine lv_iadd hx hb dL_law_221 ?_
  refine va_sld hx hb hX hbl hbA hS (lw_in 1 hL hi (by decide)) dL_law_222 ?_
  refine lw_c8 (r := .int r) (As := [.int (xs (nI i + 1).toNatClampNeg)]) (rest := [.int r]) hCF (k_X8_letter a' v _ e8) (cwV 1 htsL gL_law_X8_letter rfl rfl rfl ⟨rfl, dk_X8_letter⟩ ⟨Nat.le_of_ble_eq_true rfl, Nat.le_of_ble_eq_true rfl⟩) hE hAB hP hD hS rfl hl.1 rfl (Nat.le_of_ble_eq_true rfl) dL_law_223 (fun H locs hP hD hS => ?_)
  refine lv_icmp_eq (tgt := 1220) hx hb dL_law_226 (by decide) (fun _ => ?_) (fun q => absurd rfl q)
  exact kk S' v' h' H locs hP hD hS ls hl
set_option maxHeartbeats 1000000 in
theorem lw_valley {p : Program} {e : Env} {s : State} {m : MethodId} {below : List Frame} {meth : Method} {c : Code} (l : Launch) {b L : Nat} {xs : Nat → Int32} {G : Gx} {a a' : Nat → Nat} {i : Nat} (hL : L ≤ 2048) (hi : i + 4 ≤ L) (C0 : lw_At p s m meth c b L xs) (hE : Amb G s) (hG : G.2.1 = s.heap.size) (kk : lwI p l e s m b below meth c G a a' i 1220) : lwI p l e s m b below meth c G a a' i 231 := by
  intro S v h H locs hP hD hS ls hl
  obtain ⟨hx, hb, hr, hml, hown, hts, hX, hbl, hlocks, hgv⟩ := C0
  have htsL : ∀ w ∈ wsL_law, w.before #[Value.ref b] s = true := fun w hw => hts w (wsL_law_in w hw)
  have hbA : ¬ lwA s b := Nat.not_le.mpr hbl
  have hAB : ∀ q, lwA s q → gB G q := fun q hq => (show G.2.1 ≤ q by rw [hG]; exact hq)
  have hCF : CallFix p m c code 4 s #[Value.ref b] wsL_law RL := ⟨hx, hb, hml, hown, htsL⟩
  obtain ⟨r, S', v', e7, e8, h'⟩ := p_valley h
  refine lv_aload_n hx hb dL_law_231 rfl (lv_at hl 1 rfl) ?_
  refine lw_c7 (r := .int r) (As := []) (rest := []) hCF (k_X7_valley a S e7) (cwV 0 htsL gL_law_X7_valley rfl rfl rfl ⟨rfl, dk_X7_valley⟩ ⟨Nat.le_of_ble_eq_true rfl, Nat.le_of_ble_eq_true rfl⟩) hE hAB hP hD hS rfl hl.1 rfl (Nat.le_of_ble_eq_true rfl) dL_law_232 (fun H locs hP hD hS => ?_)
  refine lv_aload_n hx hb dL_law_235 rfl (lv_at hl 2 rfl) ?_
  refine lw_c8 (r := .int r) (As := []) (rest := [.int r]) hCF (k_X8_valley a' v e8) (cwV 0 htsL gL_law_X8_valley rfl rfl rfl ⟨rfl, dk_X8_valley⟩ ⟨Nat.le_of_ble_eq_true rfl, Nat.le_of_ble_eq_true rfl⟩) hE hAB hP hD hS rfl hl.1 rfl (Nat.le_of_ble_eq_true rfl) dL_law_236 (fun H locs hP hD hS => ?_)
  refine lv_icmp_eq (tgt := 1220) hx hb dL_law_239 (by decide) (fun _ => ?_) (fun q => absurd rfl q)
  exact kk S' v' h' H locs hP hD hS ls hl
set_option maxHeartbeats 1000000 in
theorem lw_bride {p : Program} {e : Env} {s : State} {m : MethodId} {below : List Frame} {meth : Method} {c : Code} (l : Launch) {b L : Nat} {xs : Nat → Int32} {G : Gx} {a a' : Nat → Nat} {i : Nat} (hL : L ≤ 2048) (hi : i + 4 ≤ L) (C0 : lw_At p s m meth c b L xs) (hE : Amb G s) (hG : G.2.1 = s.heap.size) (kk : lwI p l e s m b below meth c G a a' i 1220) : lwI p l e s m b below meth c G a a' i 244 := by
  intro S v h H locs hP hD hS ls hl
  obtain ⟨hx, hb, hr, hml, hown, hts, hX, hbl, hlocks, hgv⟩ := C0
  have htsL : ∀ w ∈ wsL_law, w.before #[Value.ref b] s = true := fun w hw => hts w (wsL_law_in w hw)
  have hbA : ¬ lwA s b := Nat.not_le.mpr hbl
  have hAB : ∀ q, lwA s q → gB G q := fun q hq => (show G.2.1 ≤ q by rw [hG]; exact hq)
  have hCF : CallFix p m c code 4 s #[Value.ref b] wsL_law RL := ⟨hx, hb, hml, hown, htsL⟩
  obtain ⟨r, S', v', e7, e8, h'⟩ := p_bride h (xs (nI i + 1).toNatClampNeg) (xs (nI i + 2).toNatClampNeg)
  refine lv_aload_n hx hb dL_law_244 rfl (lv_at hl 1 rfl) ?_
  refine lv_aload_n hx hb dL_law_245 rfl (lv_at hl 0 rfl) ?_
  refine lv_iload_n hx hb dL_law_246 rfl (lv_at hl 3 rfl) ?_
  refine lv_iconst (v := (1 : Int32)) hx hb dL_law_247 (by decide) ?_
  refine lv_iadd hx hb dL_law_248 ?_
  refine va_sld hx hb hX hbl hbA hS (lw_in 1 hL hi (by decide)) dL_law_249 ?_
  refine lv_aload_n hx hb dL_law_250 rfl (lv_at hl 0 rfl) ?_
  refine lv_iload_n hx hb dL_law_251 rfl (lv_at hl 3 rfl) ?_
  refine lv_iconst (v := (2 : Int32)) hx hb dL_law_252 (by decide) ?_
  refine lv_iadd hx hb dL_law_253 ?_
  refine va_sld hx hb hX hbl hbA hS (lw_in 2 hL hi (by decide)) dL_law_254 ?_
  refine lw_c7 (r := .int r) (As := [.int (xs (nI i + 1).toNatClampNeg), .int (xs (nI i + 2).toNatClampNeg)]) (rest := []) hCF (k_X7_bride a S _ _ e7) (cwV 2 htsL gL_law_X7_bride rfl rfl rfl ⟨rfl, dk_X7_bride⟩ ⟨Nat.le_of_ble_eq_true rfl, Nat.le_of_ble_eq_true rfl⟩) hE hAB hP hD hS rfl hl.1 rfl (Nat.le_of_ble_eq_true rfl) dL_law_255 (fun H locs hP hD hS => ?_)
  refine lv_aload_n hx hb dL_law_258 rfl (lv_at hl 2 rfl) ?_
  refine lv_aload_n hx hb dL_law_259 rfl (lv_at hl 0 rfl) ?_
  refine lv_iload_n hx hb dL_law_260 rfl (lv_at hl 3 rfl) ?_
  refine lv_iconst (v := (1 : Int32)) hx hb dL_law_261 (by decide) ?_
  refine lv_iadd hx hb dL_law_262 ?_
  refine va_sld hx hb hX hbl hbA hS (lw_in 1 hL hi (by decide)) dL_law_263 ?_
  refine lv_aload_n hx hb dL_law_264 rfl (lv_at hl 0 rfl) ?_
  refine lv_iload_n hx hb dL_law_265 rfl (lv_at hl 3 rfl) ?_
  refine lv_iconst (v := (2 : Int32)) hx hb dL_law_266 (by decide) ?_
  refine lv_iadd hx hb dL_law_267 ?_
  refine va_sld hx hb hX hbl hbA hS (lw_in 2 hL hi (by decide)) dL_law_268 ?_
  refine lw_c8 (r := .int r) (As := [.int (xs (nI i + 1).toNatClampNeg), .int (xs (nI i + 2).toNatClampNeg)]) (rest := [.int r]) hCF (k_X8_bride a' v _ _ e8) (cwV 2 htsL gL_law_X8_bride rfl rfl rfl ⟨rfl, dk_X8_bride⟩ ⟨Nat.le_of_ble_eq_true rfl, Nat.le_of_ble_eq_true rfl⟩) hE hAB hP hD hS rfl hl.1 rfl (Nat.le_of_ble_eq_true rfl) dL_law_269 (fun H locs hP hD hS => ?_)
  refine lv_icmp_eq (tgt := 1220) hx hb dL_law_272 (by decide) (fun _ => ?_) (fun q => absurd rfl q)
  exact kk S' v' h' H locs hP hD hS ls hl
set_option maxHeartbeats 1000000 in
theorem lw_groom {p : Program} {e : Env} {s : State} {m : MethodId} {below : List Frame} {meth : Method} {c : Code} (l : Launch) {b L : Nat} {xs : Nat → Int32} {G : Gx} {a a' : Nat → Nat} {i : Nat} (hL : L ≤ 2048) (hi : i + 4 ≤ L) (C0 : lw_At p s m meth c b L xs) (hE : Amb G s) (hG : G.2.1 = s.heap.size) (kk : lwI p l e s m b below meth c G a a' i 1220) : lwI p l e s m b below meth c G a a' i 277 := by
  intro S v h H locs hP hD hS ls hl
  obtain ⟨hx, hb, hr, hml, hown, hts, hX, hbl, hlocks, hgv⟩ := C0
  have htsL : ∀ w ∈ wsL_law, w.before #[Value.ref b] s = true := fun w hw => hts w (wsL_law_in w hw)
  have hbA : ¬ lwA s b := Nat.not_le.mpr hbl
  have hAB : ∀ q, lwA s q → gB G q := fun q hq => (show G.2.1 ≤ q by rw [hG]; exact hq)
  have hCF : CallFix p m c code 4 s #[Value.ref b] wsL_law RL := ⟨hx, hb, hml, hown, htsL⟩
  obtain ⟨r, S', v', e7, e8, h'⟩ := p_groom h (xs (nI i + 1).toNatClampNeg) (xs (nI i + 2).toNatClampNeg)
  refine lv_aload_n hx hb dL_law_277 rfl (lv_at hl 1 rfl) ?_
  refine lv_aload_n hx hb dL_law_278 rfl (lv_at hl 0 rfl) ?_
  refine lv_iload_n hx hb dL_law_279 rfl (lv_at hl 3 rfl) ?_
  refine lv_iconst (v := (1 : Int32)) hx hb dL_law_280 (by decide) ?_
  refine lv_iadd hx hb dL_law_281 ?_
  refine va_sld hx hb hX hbl hbA hS (lw_in 1 hL hi (by decide)) dL_law_282 ?_
  refine lv_aload_n hx hb dL_law_283 rfl (lv_at hl 0 rfl) ?_
  refine lv_iload_n hx hb dL_law_284 rfl (lv_at hl 3 rfl) ?_
  refine lv_iconst (v := (2 : Int32)) hx hb dL_law_285 (by decide) ?_
  refine lv_iadd hx hb dL_law_286 ?_
  refine va_sld hx hb hX hbl hbA hS (lw_in 2 hL hi (by decide)) dL_law_287 ?_
  refine lw_c7 (r := .int r) (As := [.int (xs (nI i + 1).toNatClampNeg), .int (xs (nI i + 2).toNatClampNeg)]) (rest := []) hCF (k_X7_groom a S _ _ e7) (cwV 2 htsL gL_law_X7_groom rfl rfl rfl ⟨rfl, dk_X7_groom⟩ ⟨Nat.le_of_ble_eq_true rfl, Nat.le_of_ble_eq_true rfl⟩) hE hAB hP hD hS rfl hl.1 rfl (Nat.le_of_ble_eq_true rfl) dL_law_288 (fun H locs hP hD hS => ?_)
  refine lv_aload_n hx hb dL_law_291 rfl (lv_at hl 2 rfl) ?_
  refine lv_aload_n hx hb dL_law_292 rfl (lv_at hl 0 rfl) ?_
  refine lv_iload_n hx hb dL_law_293 rfl (lv_at hl 3 rfl) ?_
  refine lv_iconst (v := (1 : Int32)) hx hb dL_law_294 (by decide) ?_
  refine lv_iadd hx hb dL_law_295 ?_
  refine va_sld hx hb hX hbl hbA hS (lw_in 1 hL hi (by decide)) dL_law_296 ?_
  refine lv_aload_n hx hb dL_law_297 rfl (lv_at hl 0 rfl) ?_
  refine lv_iload_n hx hb dL_law_298 rfl (lv_at hl 3 rfl) ?_
  refine lv_iconst (v := (2 : Int32)) hx hb dL_law_299 (by decide) ?_
  refine lv_iadd hx hb dL_law_300 ?_
  refine va_sld hx hb hX hbl hbA hS (lw_in 2 hL hi (by decide)) dL_law_301 ?_
  refine lw_c8 (r := .int r) (As := [.int (xs (nI i + 1).toNatClampNeg), .int (xs (nI i + 2).toNatClampNeg)]) (rest := [.int r]) hCF (k_X8_groom a' v _ _ e8) (cwV 2 htsL gL_law_X8_groom rfl rfl rfl ⟨rfl, dk_X8_groom⟩ ⟨Nat.le_of_ble_eq_true rfl, Nat.le_of_ble_eq_true rfl⟩) hE hAB hP hD hS rfl hl.1 rfl (Nat.le_of_ble_eq_true rfl) dL_law_302 (fun H locs hP hD hS => ?_)
  refine lv_icmp_eq (tgt := 1220) hx hb dL_law_305 (by decide) (fun _ => ?_) (fun q => absurd rfl q)
  exact kk S' v' h' H locs hP hD hS ls hl
set_option maxHeartbeats 1000000 in
theorem lw_wedding {p : Program} {e : Env} {s : State} {m : MethodId} {below : List Frame} {meth : Method} {c : Code} (l : Launch) {b L : Nat} {xs : Nat → Int32} {G : Gx} {a a' : Nat → Nat} {i : Nat} (hL : L ≤ 2048) (hi : i + 4 ≤ L) (C0 : lw_At p s m meth c b L xs) (hE : Amb G s) (hG : G.2.1 = s.heap.size) (kk : lwI p l e s m b below meth c G a a' i 1220) : lwI p l e s m b below meth c G a a' i 310 := by
  intro S v h H locs hP hD hS ls hl
  obtain ⟨hx, hb, hr, hml, hown, hts, hX, hbl, hlocks, hgv⟩ := C0
  have htsL : ∀ w ∈ wsL_law, w.before #[Value.ref b] s = true := fun w hw => hts w (wsL_law_in w hw)
  have hbA : ¬ lwA s b := Nat.not_le.mpr hbl
  have hAB : ∀ q, lwA s q → gB G q := fun q hq => (show G.2.1 ≤ q by rw [hG]; exact hq)
  have hCF : CallFix p m c code 4 s #[Value.ref b] wsL_law RL := ⟨hx, hb, hml, hown, htsL⟩
  obtain ⟨r, S', v', e7, e8, h'⟩ := p_wedding h (xs (nI i + 1).toNatClampNeg)
  refine lv_aload_n hx hb dL_law_310 rfl (lv_at hl 1 rfl) ?_
  refine lv_aload_n hx hb dL_law_311 rfl (lv_at hl 0 rfl) ?_
  refine lv_iload_n hx hb dL_law_312 rfl (lv_at hl 3 rfl) ?_
  refine lv_iconst (v := (1 : Int32)) hx hb dL_law_313 (by decide) ?_
  refine lv_iadd hx hb dL_law_314 ?_
  refine va_sld hx hb hX hbl hbA hS (lw_in 1 hL hi (by decide)) dL_law_315 ?_
  refine lw_c7 (r := .int r) (As := [.int (xs (nI i + 1).toNatClampNeg)]) (rest := []) hCF (k_X7_wedding a S _ e7) (cwV 1 htsL gL_law_X7_wedding rfl rfl rfl ⟨rfl, dk_X7_wedding⟩ ⟨Nat.le_of_ble_eq_true rfl, Nat.le_of_ble_eq_true rfl⟩) hE hAB hP hD hS rfl hl.1 rfl (Nat.le_of_ble_eq_true rfl) dL_law_316 (fun H locs hP hD hS => ?_)
  refine lv_aload_n hx hb dL_law_319 rfl (lv_at hl 2 rfl) ?_
  refine lv_aload_n hx hb dL_law_320 rfl (lv_at hl 0 rfl) ?_
  refine lv_iload_n hx hb dL_law_321 rfl (lv_at hl 3 rfl) ?_
  refine lv_iconst (v := (1 : Int32)) hx hb dL_law_322 (by decide) ?_
  refine lv_iadd hx hb dL_law_323 ?_
  refine va_sld hx hb hX hbl hbA hS (lw_in 1 hL hi (by decide)) dL_law_324 ?_
  refine lw_c8 (r := .int r) (As := [.int (xs (nI i + 1).toNatClampNeg)]) (rest := [.int r]) hCF (k_X8_wedding a' v _ e8) (cwV 1 htsL gL_law_X8_wedding rfl rfl rfl ⟨rfl, dk_X8_wedding⟩ ⟨Nat.le_of_ble_eq_true rfl, Nat.le_of_ble_eq_true rfl⟩) hE hAB hP hD hS rfl hl.1 rfl (Nat.le_of_ble_eq_true rfl) dL_law_325 (fun H locs hP hD hS => ?_)
  refine lv_icmp_eq (tgt := 1220) hx hb dL_law_328 (by decide) (fun _ => ?_) (fun q => absurd rfl q)
  exact kk S' v' h' H locs hP hD hS ls hl
set_option maxHeartbeats 1000000 in
theorem lw_changes {p : Program} {e : Env} {s : State} {m : MethodId} {below : List Frame} {meth : Method} {c : Code} (l : Launch) {b L : Nat} {xs : Nat → Int32} {G : Gx} {a a' : Nat → Nat} {i : Nat} (hL : L ≤ 2048) (hi : i + 4 ≤ L) (C0 : lw_At p s m meth c b L xs) (hE : Amb G s) (hG : G.2.1 = s.heap.size) (kk : lwI p l e s m b below meth c G a a' i 1220) : lwI p l e s m b below meth c G a a' i 333 := by
  intro S v h H locs hP hD hS ls hl
  obtain ⟨hx, hb, hr, hml, hown, hts, hX, hbl, hlocks, hgv⟩ := C0
  have htsL : ∀ w ∈ wsL_law, w.before #[Value.ref b] s = true := fun w hw => hts w (wsL_law_in w hw)
  have hbA : ¬ lwA s b := Nat.not_le.mpr hbl
  have hAB : ∀ q, lwA s q → gB G q := fun q hq => (show G.2.1 ≤ q by rw [hG]; exact hq)
  have hCF : CallFix p m c code 4 s #[Value.ref b] wsL_law RL := ⟨hx, hb, hml, hown, htsL⟩
  obtain ⟨r, S', v', e7, e8, h'⟩ := p_changes h (xs (nI i + 1).toNatClampNeg) (xs (nI i + 2).toNatClampNeg)
  refine lv_aload_n hx hb dL_law_333 rfl (lv_at hl 1 rfl) ?_
  refine lv_aload_n hx hb dL_law_334 rfl (lv_at hl 0 rfl) ?_
  refine lv_iload_n hx hb dL_law_335 rfl (lv_at hl 3 rfl) ?_
  refine lv_iconst (v := (1 : Int32)) hx hb dL_law_336 (by decide) ?_
  refine lv_iadd hx hb dL_law_337 ?_
  refine va_sld hx hb hX hbl hbA hS (lw_in 1 hL hi (by decide)) dL_law_338 ?_
  refine lv_aload_n hx hb dL_law_339 rfl (lv_at hl 0 rfl) ?_
  refine lv_iload_n hx hb dL_law_340 rfl (lv_at hl 3 rfl) ?_
  refine lv_iconst (v := (2 : Int32)) hx hb dL_law_341 (by decide) ?_
  refine lv_iadd hx hb dL_law_342 ?_
  refine va_sld hx hb hX hbl hbA hS (lw_in 2 hL hi (by decide)) dL_law_343 ?_
  refine lw_c7 (r := .int r) (As := [.int (xs (nI i + 1).toNatClampNeg), .int (xs (nI i + 2).toNatClampNeg)]) (rest := []) hCF (k_X7_changes a S _ _ e7) (cwV 2 htsL gL_law_X7_changes rfl rfl rfl ⟨rfl, dk_X7_changes⟩ ⟨Nat.le_of_ble_eq_true rfl, Nat.le_of_ble_eq_true rfl⟩) hE hAB hP hD hS rfl hl.1 rfl (Nat.le_of_ble_eq_true rfl) dL_law_344 (fun H locs hP hD hS => ?_)
  refine lv_aload_n hx hb dL_law_347 rfl (lv_at hl 2 rfl) ?_
  refine lv_aload_n hx hb dL_law_348 rfl (lv_at hl 0 rfl) ?_
  refine lv_iload_n hx hb dL_law_349 rfl (lv_at hl 3 rfl) ?_
  refine lv_iconst (v := (1 : Int32)) hx hb dL_law_350 (by decide) ?_
  refine lv_iadd hx hb dL_law_351 ?_
  refine va_sld hx hb hX hbl hbA hS (lw_in 1 hL hi (by decide)) dL_law_352 ?_
  refine lv_aload_n hx hb dL_law_353 rfl (lv_at hl 0 rfl) ?_
  refine lv_iload_n hx hb dL_law_354 rfl (lv_at hl 3 rfl) ?_
  refine lv_iconst (v := (2 : Int32)) hx hb dL_law_355 (by decide) ?_
  refine lv_iadd hx hb dL_law_356 ?_
  refine va_sld hx hb hX hbl hbA hS (lw_in 2 hL hi (by decide)) dL_law_357 ?_
  refine lw_c8 (r := .int r) (As := [.int (xs (nI i + 1).toNatClampNeg), .int (xs (nI i + 2).toNatClampNeg)]) (rest := [.int r]) hCF (k_X8_changes a' v _ _ e8) (cwV 2 htsL gL_law_X8_changes rfl rfl rfl ⟨rfl, dk_X8_changes⟩ ⟨Nat.le_of_ble_eq_true rfl, Nat.le_of_ble_eq_true rfl⟩) hE hAB hP hD hS rfl hl.1 rfl (Nat.le_of_ble_eq_true rfl) dL_law_358 (fun H locs hP hD hS => ?_)
  refine lv_icmp_eq (tgt := 1220) hx hb dL_law_361 (by decide) (fun _ => ?_) (fun q => absurd rfl q)
  exact kk S' v' h' H locs hP hD hS ls hl
set_option maxHeartbeats 1000000 in
theorem lw_looks {p : Program} {e : Env} {s : State} {m : MethodId} {below : List Frame} {meth : Method} {c : Code} (l : Launch) {b L : Nat} {xs : Nat → Int32} {G : Gx} {a a' : Nat → Nat} {i : Nat} (hL : L ≤ 2048) (hi : i + 4 ≤ L) (C0 : lw_At p s m meth c b L xs) (hE : Amb G s) (hG : G.2.1 = s.heap.size) (kk : lwI p l e s m b below meth c G a a' i 1220) : lwI p l e s m b below meth c G a a' i 366 := by
  intro S v h H locs hP hD hS ls hl
  obtain ⟨hx, hb, hr, hml, hown, hts, hX, hbl, hlocks, hgv⟩ := C0
  have htsL : ∀ w ∈ wsL_law, w.before #[Value.ref b] s = true := fun w hw => hts w (wsL_law_in w hw)
  have hbA : ¬ lwA s b := Nat.not_le.mpr hbl
  have hAB : ∀ q, lwA s q → gB G q := fun q hq => (show G.2.1 ≤ q by rw [hG]; exact hq)
  have hCF : CallFix p m c code 4 s #[Value.ref b] wsL_law RL := ⟨hx, hb, hml, hown, htsL⟩
  obtain ⟨r, S', v', e7, e8, h'⟩ := p_looks h (xs (nI i + 1).toNatClampNeg) (xs (nI i + 2).toNatClampNeg)
  refine lv_aload_n hx hb dL_law_366 rfl (lv_at hl 1 rfl) ?_
  refine lv_aload_n hx hb dL_law_367 rfl (lv_at hl 0 rfl) ?_
  refine lv_iload_n hx hb dL_law_368 rfl (lv_at hl 3 rfl) ?_
  refine lv_iconst (v := (1 : Int32)) hx hb dL_law_369 (by decide) ?_
  refine lv_iadd hx hb dL_law_370 ?_
  refine va_sld hx hb hX hbl hbA hS (lw_in 1 hL hi (by decide)) dL_law_371 ?_
  refine lv_aload_n hx hb dL_law_372 rfl (lv_at hl 0 rfl) ?_
  refine lv_iload_n hx hb dL_law_373 rfl (lv_at hl 3 rfl) ?_
  refine lv_iconst (v := (2 : Int32)) hx hb dL_law_374 (by decide) ?_
  refine lv_iadd hx hb dL_law_375 ?_
  refine va_sld hx hb hX hbl hbA hS (lw_in 2 hL hi (by decide)) dL_law_376 ?_
  refine lw_c7 (r := .int r) (As := [.int (xs (nI i + 1).toNatClampNeg), .int (xs (nI i + 2).toNatClampNeg)]) (rest := []) hCF (k_X7_looks a S _ _ e7) (cwV 2 htsL gL_law_X7_looks rfl rfl rfl ⟨rfl, dk_X7_looks⟩ ⟨Nat.le_of_ble_eq_true rfl, Nat.le_of_ble_eq_true rfl⟩) hE hAB hP hD hS rfl hl.1 rfl (Nat.le_of_ble_eq_true rfl) dL_law_377 (fun H locs hP hD hS => ?_)
  refine lv_aload_n hx hb dL_law_380 rfl (lv_at hl 2 rfl) ?_
  refine lv_aload_n hx hb dL_law_381 rfl (lv_at hl 0 rfl) ?_
  refine lv_iload_n hx hb dL_law_382 rfl (lv_at hl 3 rfl) ?_
  refine lv_iconst (v := (1 : Int32)) hx hb dL_law_383 (by decide) ?_
  refine lv_iadd hx hb dL_law_384 ?_
  refine va_sld hx hb hX hbl hbA hS (lw_in 1 hL hi (by decide)) dL_law_385 ?_
  refine lv_aload_n hx hb dL_law_386 rfl (lv_at hl 0 rfl) ?_
  refine lv_iload_n hx hb dL_law_387 rfl (lv_at hl 3 rfl) ?_
  refine lv_iconst (v := (2 : Int32)) hx hb dL_law_388 (by decide) ?_
  refine lv_iadd hx hb dL_law_389 ?_
  refine va_sld hx hb hX hbl hbA hS (lw_in 2 hL hi (by decide)) dL_law_390 ?_
  refine lw_c8 (r := .int r) (As := [.int (xs (nI i + 1).toNatClampNeg), .int (xs (nI i + 2).toNatClampNeg)]) (rest := [.int r]) hCF (k_X8_looks a' v _ _ e8) (cwV 2 htsL gL_law_X8_looks rfl rfl rfl ⟨rfl, dk_X8_looks⟩ ⟨Nat.le_of_ble_eq_true rfl, Nat.le_of_ble_eq_true rfl⟩) hE hAB hP hD hS rfl hl.1 rfl (Nat.le_of_ble_eq_true rfl) dL_law_391 (fun H locs hP hD hS => ?_)
  refine lv_icmp_eq (tgt := 1220) hx hb dL_law_394 (by decide) (fun _ => ?_) (fun q => absurd rfl q)
  exact kk S' v' h' H locs hP hD hS ls hl
set_option maxHeartbeats 1000000 in
theorem lw_minds {p : Program} {e : Env} {s : State} {m : MethodId} {below : List Frame} {meth : Method} {c : Code} (l : Launch) {b L : Nat} {xs : Nat → Int32} {G : Gx} {a a' : Nat → Nat} {i : Nat} (hL : L ≤ 2048) (hi : i + 4 ≤ L) (C0 : lw_At p s m meth c b L xs) (hE : Amb G s) (hG : G.2.1 = s.heap.size) (kk : lwI p l e s m b below meth c G a a' i 1220) : lwI p l e s m b below meth c G a a' i 399 := by
  intro S v h H locs hP hD hS ls hl
  obtain ⟨hx, hb, hr, hml, hown, hts, hX, hbl, hlocks, hgv⟩ := C0
  have htsL : ∀ w ∈ wsL_law, w.before #[Value.ref b] s = true := fun w hw => hts w (wsL_law_in w hw)
  have hbA : ¬ lwA s b := Nat.not_le.mpr hbl
  have hAB : ∀ q, lwA s q → gB G q := fun q hq => (show G.2.1 ≤ q by rw [hG]; exact hq)
  have hCF : CallFix p m c code 4 s #[Value.ref b] wsL_law RL := ⟨hx, hb, hml, hown, htsL⟩
  obtain ⟨r, S', v', e7, e8, h'⟩ := p_minds h (xs (nI i + 1).toNatClampNeg) (xs (nI i + 2).toNatClampNeg)
  refine lv_aload_n hx hb dL_law_399 rfl (lv_at hl 1 rfl) ?_
  refine lv_aload_n hx hb dL_law_400 rfl (lv_at hl 0 rfl) ?_
  refine lv_iload_n hx hb dL_law_401 rfl (lv_at hl 3 rfl) ?_
  refine lv_iconst (v := (1 : Int32)) hx hb dL_law_402 (by decide) ?_
  refine lv_iadd hx hb dL_law_403 ?_
  refine va_sld hx hb hX hbl hbA hS (lw_in 1 hL hi (by decide)) dL_law_404 ?_
  refine lv_aload_n hx hb dL_law_405 rfl (lv_at hl 0 rfl) ?_
  refine lv_iload_n hx hb dL_law_406 rfl (lv_at hl 3 rfl) ?_
  refine lv_iconst (v := (2 : Int32)) hx hb dL_law_407 (by decide) ?_
  refine lv_iadd hx hb dL_law_408 ?_
  refine va_sld hx hb hX hbl hbA hS (lw_in 2 hL hi (by decide)) dL_law_409 ?_
  refine lw_c7 (r := .int r) (As := [.int (xs (nI i + 1).toNatClampNeg), .int (xs (nI i + 2).toNatClampNeg)]) (rest := []) hCF (k_X7_minds a S _ _ e7) (cwV 2 htsL gL_law_X7_minds rfl rfl rfl ⟨rfl, dk_X7_minds⟩ ⟨Nat.le_of_ble_eq_true rfl, Nat.le_of_ble_eq_true rfl⟩) hE hAB hP hD hS rfl hl.1 rfl (Nat.le_of_ble_eq_true rfl) dL_law_410 (fun H locs hP hD hS => ?_)
  refine lv_aload_n hx hb dL_law_413 rfl (lv_at hl 2 rfl) ?_
  refine lv_aload_n hx hb dL_law_414 rfl (lv_at hl 0 rfl) ?_
  refine lv_iload_n hx hb dL_law_415 rfl (lv_at hl 3 rfl) ?_
  refine lv_iconst (v := (1 : Int32)) hx hb dL_law_416 (by decide) ?_
  refine lv_iadd hx hb dL_law_417 ?_
  refine va_sld hx hb hX hbl hbA hS (lw_in 1 hL hi (by decide)) dL_law_418 ?_
  refine lv_aload_n hx hb dL_law_419 rfl (lv_at hl 0 rfl) ?_
  refine lv_iload_n hx hb dL_law_420 rfl (lv_at hl 3 rfl) ?_
  refine lv_iconst (v := (2 : Int32)) hx hb dL_law_421 (by decide) ?_
  refine lv_iadd hx hb dL_law_422 ?_
  refine va_sld hx hb hX hbl hbA hS (lw_in 2 hL hi (by decide)) dL_law_423 ?_
  refine lw_c8 (r := .int r) (As := [.int (xs (nI i + 1).toNatClampNeg), .int (xs (nI i + 2).toNatClampNeg)]) (rest := [.int r]) hCF (k_X8_minds a' v _ _ e8) (cwV 2 htsL gL_law_X8_minds rfl rfl rfl ⟨rfl, dk_X8_minds⟩ ⟨Nat.le_of_ble_eq_true rfl, Nat.le_of_ble_eq_true rfl⟩) hE hAB hP hD hS rfl hl.1 rfl (Nat.le_of_ble_eq_true rfl) dL_law_424 (fun H locs hP hD hS => ?_)
  refine lv_icmp_eq (tgt := 1220) hx hb dL_law_427 (by decide) (fun _ => ?_) (fun q => absurd rfl q)
  exact kk S' v' h' H locs hP hD hS ls hl
set_option maxHeartbeats 1000000 in
theorem lw_drinks {p : Program} {e : Env} {s : State} {m : MethodId} {below : List Frame} {meth : Method} {c : Code} (l : Launch) {b L : Nat} {xs : Nat → Int32} {G : Gx} {a a' : Nat → Nat} {i : Nat} (hL : L ≤ 2048) (hi : i + 4 ≤ L) (C0 : lw_At p s m meth c b L xs) (hE : Amb G s) (hG : G.2.1 = s.heap.size) (kk : lwI p l e s m b below meth c G a a' i 1220) : lwI p l e s m b below meth c G a a' i 432 := by
  intro S v h H locs hP hD hS ls hl
  obtain ⟨hx, hb, hr, hml, hown, hts, hX, hbl, hlocks, hgv⟩ := C0
  have htsL : ∀ w ∈ wsL_law, w.before #[Value.ref b] s = true := fun w hw => hts w (wsL_law_in w hw)
  have hbA : ¬ lwA s b := Nat.not_le.mpr hbl
  have hAB : ∀ q, lwA s q → gB G q := fun q hq => (show G.2.1 ≤ q by rw [hG]; exact hq)
  have hCF : CallFix p m c code 4 s #[Value.ref b] wsL_law RL := ⟨hx, hb, hml, hown, htsL⟩
  obtain ⟨r, S', v', e7, e8, h'⟩ := p_drinks h (xs (nI i + 1).toNatClampNeg) (xs (nI i + 2).toNatClampNeg)
  refine lv_aload_n hx hb dL_law_432 rfl (lv_at hl 1 rfl) ?_
  refine lv_aload_n hx hb dL_law_433 rfl (lv_at hl 0 rfl) ?_
  refine lv_iload_n hx hb dL_law_434 rfl (lv_at hl 3 rfl) ?_
  refine lv_iconst (v := (1 : Int32)) hx hb dL_law_435 (by decide) ?_
  refine lv_iadd hx hb dL_law_436 ?_
  refine va_sld hx hb hX hbl hbA hS (lw_in 1 hL hi (by decide)) dL_law_437 ?_
  refine lv_aload_n hx hb dL_law_438 rfl (lv_at hl 0 rfl) ?_
  refine lv_iload_n hx hb dL_law_439 rfl (lv_at hl 3 rfl) ?_
  refine lv_iconst (v := (2 : Int32)) hx hb dL_law_440 (by decide) ?_
  refine lv_iadd hx hb dL_law_441 ?_
  refine va_sld hx hb hX hbl hbA hS (lw_in 2 hL hi (by decide)) dL_law_442 ?_
  refine lw_c7 (r := .int r) (As := [.int (xs (nI i + 1).toNatClampNeg), .int (xs (nI i + 2).toNatClampNeg)]) (rest := []) hCF (k_X7_drinks a S _ _ e7) (cwV 2 htsL gL_law_X7_drinks rfl rfl rfl ⟨rfl, dk_X7_drinks⟩ ⟨Nat.le_of_ble_eq_true rfl, Nat.le_of_ble_eq_true rfl⟩) hE hAB hP hD hS rfl hl.1 rfl (Nat.le_of_ble_eq_true rfl) dL_law_443 (fun H locs hP hD hS => ?_)
  refine lv_aload_n hx hb dL_law_446 rfl (lv_at hl 2 rfl) ?_
  refine lv_aload_n hx hb dL_law_447 rfl (lv_at hl 0 rfl) ?_
  refine lv_iload_n hx hb dL_law_448 rfl (lv_at hl 3 rfl) ?_
  refine lv_iconst (v := (1 : Int32)) hx hb dL_law_449 (by decide) ?_
  refine lv_iadd hx hb dL_law_450 ?_
  refine va_sld hx hb hX hbl hbA hS (lw_in 1 hL hi (by decide)) dL_law_451 ?_
  refine lv_aload_n hx hb dL_law_452 rfl (lv_at hl 0 rfl) ?_
  refine lv_iload_n hx hb dL_law_453 rfl (lv_at hl 3 rfl) ?_
  refine lv_iconst (v := (2 : Int32)) hx hb dL_law_454 (by decide) ?_
  refine lv_iadd hx hb dL_law_455 ?_
  refine va_sld hx hb hX hbl hbA hS (lw_in 2 hL hi (by decide)) dL_law_456 ?_
  refine lw_c8 (r := .int r) (As := [.int (xs (nI i + 1).toNatClampNeg), .int (xs (nI i + 2).toNatClampNeg)]) (rest := [.int r]) hCF (k_X8_drinks a' v _ _ e8) (cwV 2 htsL gL_law_X8_drinks rfl rfl rfl ⟨rfl, dk_X8_drinks⟩ ⟨Nat.le_of_ble_eq_true rfl, Nat.le_of_ble_eq_true rfl⟩) hE hAB hP hD hS rfl hl.1 rfl (Nat.le_of_ble_eq_true rfl) dL_law_457 (fun H locs hP hD hS => ?_)
  refine lv_icmp_eq (tgt := 1220) hx hb dL_law_460 (by decide) (fun _ => ?_) (fun q => absurd rfl q)
  exact kk S' v' h' H locs hP hD hS ls hl
set_option maxHeartbeats 1000000 in
theorem lw_turn {p : Program} {e : Env} {s : State} {m : MethodId} {below : List Frame} {meth : Method} {c : Code} (l : Launch) {b L : Nat} {xs : Nat → Int32} {G : Gx} {a a' : Nat → Nat} {i : Nat} (hL : L ≤ 2048) (hi : i + 4 ≤ L) (C0 : lw_At p s m meth c b L xs) (hE : Amb G s) (hG : G.2.1 = s.heap.size) (kk : lwI p l e s m b below meth c G a a' i 1220) : lwI p l e s m b below meth c G a a' i 465 := by
  intro S v h H locs hP hD hS ls hl
  obtain ⟨hx, hb, hr, hml, hown, hts, hX, hbl, hlocks, hgv⟩ := C0
  have htsL : ∀ w ∈ wsL_law, w.before #[Value.ref b] s = true := fun w hw => hts w (wsL_law_in w hw)
  have hbA : ¬ lwA s b := Nat.not_le.mpr hbl
  have hAB : ∀ q, lwA s q → gB G q := fun q hq => (show G.2.1 ≤ q by rw [hG]; exact hq)
  have hCF : CallFix p m c code 4 s #[Value.ref b] wsL_law RL := ⟨hx, hb, hml, hown, htsL⟩
  obtain ⟨r, S', v', e7, e8, h'⟩ := p_turn h (xs (nI i + 1).toNatClampNeg) (xs (nI i + 2).toNatClampNeg) (xs (nI i + 3).toNatClampNeg)
  refine lv_aload_n hx hb dL_law_465 rfl (lv_at hl 1 rfl) ?_
  refine lv_aload_n hx hb dL_law_466 rfl (lv_at hl 0 rfl) ?_
  refine lv_iload_n hx hb dL_law_467 rfl (lv_at hl 3 rfl) ?_
  refine lv_iconst (v := (1 : Int32)) hx hb dL_law_468 (by decide) ?_
  refine lv_iadd hx hb dL_law_469 ?_
  refine va_sld hx hb hX hbl hbA hS (lw_in 1 hL hi (by decide)) dL_law_470 ?_
  refine lv_aload_n hx hb dL_law_471 rfl (lv_at hl 0 rfl) ?_
  refine lv_iload_n hx hb dL_law_472 rfl (lv_at hl 3 rfl) ?_
  refine lv_iconst (v := (2 : Int32)) hx hb dL_law_473 (by decide) ?_
  refine lv_iadd hx hb dL_law_474 ?_
  refine va_sld hx hb hX hbl hbA hS (lw_in 2 hL hi (by decide)) dL_law_475 ?_
  refine lv_aload_n hx hb dL_law_476 rfl (lv_at hl 0 rfl) ?_
  refine lv_iload_n hx hb dL_law_477 rfl (lv_at hl 3 rfl) ?_
  refine lv_iconst (v := (3 : Int32)) hx hb dL_law_478 (by decide) ?_
  refine lv_iadd hx hb dL_law_479 ?_
  refine va_sld hx hb hX hbl hbA hS (lw_in 3 hL hi (by decide)) dL_law_480 ?_
  refine lw_c7 (r := .int r) (As := [.int (xs (nI i + 1).toNatClampNeg), .int (xs (nI i + 2).toNatClampNeg), .int (xs (nI i + 3).toNatClampNeg)]) (rest := []) hCF (k_X7_turn a S _ _ _ e7) (cwV 3 htsL gL_law_X7_turn rfl rfl rfl ⟨rfl, dk_X7_turn⟩ ⟨Nat.le_of_ble_eq_true rfl, Nat.le_of_ble_eq_true rfl⟩) hE hAB hP hD hS rfl hl.1 rfl (Nat.le_of_ble_eq_true rfl) dL_law_481 (fun H locs hP hD hS => ?_)
  refine lv_aload_n hx hb dL_law_484 rfl (lv_at hl 2 rfl) ?_
  refine lv_aload_n hx hb dL_law_485 rfl (lv_at hl 0 rfl) ?_
  refine lv_iload_n hx hb dL_law_486 rfl (lv_at hl 3 rfl) ?_
  refine lv_iconst (v := (1 : Int32)) hx hb dL_law_487 (by decide) ?_
  refine lv_iadd hx hb dL_law_488 ?_
  refine va_sld hx hb hX hbl hbA hS (lw_in 1 hL hi (by decide)) dL_law_489 ?_
  refine lv_aload_n hx hb dL_law_490 rfl (lv_at hl 0 rfl) ?_
  refine lv_iload_n hx hb dL_law_491 rfl (lv_at hl 3 rfl) ?_
  refine lv_iconst (v := (2 : Int32)) hx hb dL_law_492 (by decide) ?_
  refine lv_iadd hx hb dL_law_493 ?_
  refine va_sld hx hb hX hbl hbA hS (lw_in 2 hL hi (by decide)) dL_law_494 ?_
  refine lv_aload_n hx hb dL_law_495 rfl (lv_at hl 0 rfl) ?_
  refine lv_iload_n hx hb dL_law_496 rfl (lv_at hl 3 rfl) ?_
  refine lv_iconst (v := (3 : Int32)) hx hb dL_law_497 (by decide) ?_
  refine lv_iadd hx hb dL_law_498 ?_
  refine va_sld hx hb hX hbl hbA hS (lw_in 3 hL hi (by decide)) dL_law_499 ?_
  refine lw_c8 (r := .int r) (As := [.int (xs (nI i + 1).toNatClampNeg), .int (xs (nI i + 2).toNatClampNeg), .int (xs (nI i + 3).toNatClampNeg)]) (rest := [.int r]) hCF (k_X8_turn a' v _ _ _ e8) (cwV 3 htsL gL_law_X8_turn rfl rfl rfl ⟨rfl, dk_X8_turn⟩ ⟨Nat.le_of_ble_eq_true rfl, Nat.le_of_ble_eq_true rfl⟩) hE hAB hP hD hS rfl hl.1 rfl (Nat.le_of_ble_eq_true rfl) dL_law_500 (fun H locs hP hD hS => ?_)
  refine lv_icmp_eq (tgt := 1220) hx hb dL_law_503 (by decide) (fun _ => ?_) (fun q => absurd rfl q)
  exact kk S' v' h' H locs hP hD hS ls hl
