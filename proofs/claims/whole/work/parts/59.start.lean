theorem rel_zero : REL (fun _ _ _ => 0) (fun _ _ => 0) :=
  ⟨fun _ _ => 0, ⟨Nat.zero_le _, Nat.zero_le _, Nat.zero_le _, fun b _ => ⟨Nat.zero_le _, Nat.zero_le _, (show 0 < 64 by decide), Nat.zero_le _, Nat.zero_le _, fun _ => rfl, fun _ => ⟨rfl, rfl⟩⟩, fun g _ => ⟨(show 0 < 64 by decide), (show 0 < 64 by decide), Nat.zero_le _, Nat.zero_le _, fun _ => ⟨rfl, rfl⟩⟩⟩, Nat.zero_le _,
    ⟨rfl, rfl, (show (0 : Int32) = nI (mk (fun _ => (0 : Nat) == 1) 8) by decide), rfl, (show (0 : Int32) = nI (mk (fun _ => (0 : Nat) == 1) 5) by decide), fun b _ => ⟨rfl, rfl, rfl, rfl⟩, fun g _ => ⟨rfl, rfl, rfl⟩⟩,
    ⟨rfl, rfl, rfl, fun b _ => ⟨rfl, rfl, rfl, rfl, rfl⟩, fun g _ => ⟨rfl, rfl, rfl, rfl⟩⟩,
    ⟨⟨0, Nat.zero_le _, rfl, rfl, fun j h => absurd h (Nat.not_lt_zero _)⟩, ⟨0, Nat.zero_le _, rfl, rfl, fun j h => absurd h (Nat.not_lt_zero _)⟩, fun i _ => rfl, Or.inl ⟨rfl, rfl⟩⟩⟩
theorem dk_X7_init : yX7_init.cls ≠ "java/lang/invoke/MethodHandle" ∧ yX7_init.cls ≠ "java/lang/invoke/VarHandle" ∧ (parseMethodDescriptor yX7_init.desc).map (fun d => d.parameters.length) = some 0 := by decide +kernel
theorem dk_X8_init : yX8_init.cls ≠ "java/lang/invoke/MethodHandle" ∧ yX8_init.cls ≠ "java/lang/invoke/VarHandle" ∧ (parseMethodDescriptor yX8_init.desc).map (fun d => d.parameters.length) = some 0 := by decide +kernel
set_option maxHeartbeats 8000000 in
set_option maxRecDepth 100000 in
theorem whole_start {p : Program} {e : Env} {s : State} {m : MethodId} {below : List Frame} {meth : Method} {c : Code} (l : Launch) (hflags : l.flags = flags0) {b L : Nat} {xs : Nat → Int32} (hL : L ≤ 2048) (C0 : lw_At p s m meth c b L xs) : W p l e room_1 s m #[Value.ref b] below meth c s.heap [] 0 0 (lw_Z below #[Value.ref b] s) (entryFrame m ([Value.ref b] : List Value).toArray 4) := by
  obtain ⟨G, hG, hE, hAO⟩ := law_amb C0
  obtain ⟨hx, hb, hr, hml, hown, hts, hX, hbl, hlocks, hgv⟩ := id C0
  have htsL : ∀ w ∈ wsL_law, w.before #[Value.ref b] s = true := fun w hw => hts w (wsL_law_in w hw)
  have hA : ∀ q : Nat, s.heap.size ≤ q → lwA s q := fun _ h => h
  have hAB : ∀ q, lwA s q → gB G q := fun q hq => (show G.2.1 ≤ q by rw [hG]; exact hq)
  have hsz0 : G.2.1 ≤ s.heap.size := Nat.le_of_eq hG
  have hCF : CallFix p m c code 4 s #[Value.ref b] wsL_law RL := ⟨hx, hb, hml, hown, htsL⟩
  have hS : va_S (lwA s) s.heap s.heap [] := va_S.rf
  have hP : va_P (gD G) vwCl [] s.heap := fun k q h => by simp at h
  have hD : va_D (lwA s) [] := ⟨fun i j p q h => by simp at h, fun k q h => by simp at h⟩
  have hl := lv_entry ([.ref b]) (n := 4) (Nat.le_of_ble_eq_true rfl)
  rw [lg_entry_eq]
  generalize (lg_sl ([.ref b]) ++ List.replicate (4 - (lg_sl ([.ref b])).length) Slot.unset).toArray = ls at hl ⊢
  have hl : lv_has ls 4 [(0, .ref b)] := hl
  refine fc_new (own := RL) (Wa := []) (ci := 4) (C := RX7) (T := TX7) (N := 8) (fs := [.null, .null, .null, .int 0, .null, .null, .null, .null]) hx hb (fun w h => hts w (inX7 w h)) tyX7 tyX7_ok hown (hts (.classLink RL 7 RX7) (List.mem_of_getElem? (i := 76) (by decide +kernel))) (hts (.instantiable RX7 8) (List.mem_of_getElem? (i := 77) (by decide +kernel))) (hts (.initialized RX7) (List.mem_of_getElem? (i := 60) (by decide +kernel))) hE hP hD hS hA rfl (by decide +kernel) (Nat.le_of_ble_eq_true rfl) (Nat.le_of_ble_eq_true rfl) dL_law_0 (fun q1 H hP hD hS => ?_)
  refine W.widen (k := 1) (n := 8) (Nat.le_of_ble_eq_true rfl) (Nat.le_of_ble_eq_true rfl) ?_
  refine lv_dup hx hb dL_law_3 rfl ?_
  refine fc_ctor (h0 := q1) (ci := 4) (fs0 := [.null, .null, .null, .int 0, .null, .null, .null, .null]) (Wr := []) (Wf := fun a => cW G a (fun _ _ _ => 0)) (va_runI (g := F0 m 4 ls [.ref q1, .ref q1]) (As := []) (rest := [.ref q1]) hCF (cc_X7_init q1 H.size (Nat.le_trans hsz0 hS.1)) (cwI 0 htsL gL_law_X7_init rfl rfl rfl (hts (.initialized RX7) (List.mem_of_getElem? (i := 60) (by decide +kernel))) (hts (.methodLink RL 9 yX7_init) (List.mem_of_getElem? (i := 78) (by decide +kernel))) (hts (.instanceMethod yX7_init) (List.mem_of_getElem? (i := 79) (by decide +kernel))) rfl dk_X7_init ⟨Nat.le_of_ble_eq_true rfl, Nat.le_of_ble_eq_true rfl⟩) ⟨CP.blind, cc_pre hE hAO hAB hP hD hS⟩ rfl rfl hl.1 rfl (lv_room (Nat.le_of_ble_eq_true rfl)) dL_law_4 ⟨Nat.le_of_ble_eq_true rfl, Nat.le_of_ble_eq_true rfl⟩) hP hD hS hA (fun a H locs ha hP1 hD1 hS1 => ?_)
  subst ha
  refine W.widen (k := 32) (n := 315) (Nat.le_of_ble_eq_true rfl) (Nat.le_of_ble_eq_true rfl) ?_
  have hP : va_P (gD G) vwCl (cW G a (fun _ _ _ => 0)) H := hP1
  have hD : va_D (lwA s) (cW G a (fun _ _ _ => 0)) := hD1
  have hS : va_S (lwA s) s.heap H locs := hS1
  refine lv_astore_n (lv' := [(1, .ref (a 0)), (0, .ref b)]) hx hb dL_law_7 rfl hl (by decide) rfl (fun ls hl => ?_)
  refine fc_new (own := RL) (Wa := cW G a (fun _ _ _ => 0)) (ci := 5) (C := RX8) (T := TX8) (N := 29) (fs := [.null, .null, .null, .null, .null, .null, .null, .null, .null, .null, .int 0, .int 0, .int 0, .null, .null, .null, .null, .int 0, .int 0, .int 0, .null, .int 0, .int 0, .int 0, .null, .null, .int 0, .null, .int 0]) hx hb (fun w h => hts w (inX8 w h)) tyX8 tyX8_ok hown (hts (.classLink RL 10 RX8) (List.mem_of_getElem? (i := 940) (by decide +kernel))) (hts (.instantiable RX8 29) (List.mem_of_getElem? (i := 941) (by decide +kernel))) (hts (.initialized RX8) (List.mem_of_getElem? (i := 65) (by decide +kernel))) hE hP hD hS hA rfl (by decide +kernel) (Nat.le_of_ble_eq_true rfl) (Nat.le_of_ble_eq_true rfl) dL_law_8 (fun q2 H hP hD hS => ?_)
  refine W.widen (k := 33) (n := 344) (Nat.le_of_ble_eq_true rfl) (Nat.le_of_ble_eq_true rfl) ?_
  refine lv_dup hx hb dL_law_11 rfl ?_
  refine fc_ctor (h0 := q2) (ci := 5) (fs0 := [.null, .null, .null, .null, .null, .null, .null, .null, .null, .null, .int 0, .int 0, .int 0, .null, .null, .null, .null, .int 0, .int 0, .int 0, .null, .int 0, .int 0, .int 0, .null, .null, .int 0, .null, .int 0]) (Wr := cW G a (fun _ _ _ => 0)) (Wf := fun a => mW G a (fun _ _ => 0)) (va_runI (g := F0 m 12 ls [.ref q2, .ref q2]) (As := []) (rest := [.ref q2]) hCF (cc_X8_init q2 H.size (Nat.le_trans hsz0 hS.1)) (cwI 0 htsL gL_law_X8_init rfl rfl rfl (hts (.initialized RX8) (List.mem_of_getElem? (i := 65) (by decide +kernel))) (hts (.methodLink RL 12 yX8_init) (List.mem_of_getElem? (i := 942) (by decide +kernel))) (hts (.instanceMethod yX8_init) (List.mem_of_getElem? (i := 943) (by decide +kernel))) rfl dk_X8_init ⟨Nat.le_of_ble_eq_true rfl, Nat.le_of_ble_eq_true rfl⟩) ⟨CP.blind, cc_pre hE hAO hAB hP hD hS⟩ rfl rfl hl.1 rfl (lv_room (Nat.le_of_ble_eq_true rfl)) dL_law_12 ⟨Nat.le_of_ble_eq_true rfl, Nat.le_of_ble_eq_true rfl⟩) hP hD hS hA (fun a' H locs ha hP1 hD1 hS1 => ?_)
  subst ha
  refine W.widen (k := 57) (n := 2502) (Nat.le_of_ble_eq_true rfl) (Nat.le_of_ble_eq_true rfl) ?_
  have hP : va_P (gD G) vwCl (cW G a (fun _ _ _ => 0) ++ mW G a' (fun _ _ => 0)) H := hP1
  have hD : va_D (lwA s) (cW G a (fun _ _ _ => 0) ++ mW G a' (fun _ _ => 0)) := hD1
  have hS : va_S (lwA s) s.heap H locs := hS1
  refine lv_astore_n (lv' := [(2, .ref (a' 0)), (1, .ref (a 0)), (0, .ref b)]) hx hb dL_law_15 rfl hl (by decide) rfl (fun ls hl => ?_)
  refine lv_iconst (v := nI 0) hx hb dL_law_16 (by decide) ?_
  refine lv_istore_n (lv' := [(3, .int (nI 0)), (2, .ref (a' 0)), (1, .ref (a 0)), (0, .ref b)]) hx hb dL_law_17 rfl hl (by decide) rfl (fun ls hl => ?_)
  exact lw_loop l hL C0 hE hG (L + 4) 0 (Nat.zero_le _) (by omega) _ _ rel_zero H locs hP hD hS ls (lv_sub hl [3, 2, 1, 0] rfl)
