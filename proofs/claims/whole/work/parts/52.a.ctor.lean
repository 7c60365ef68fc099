/-! CONSTRUCTORS: a fresh object becomes a world whose arrays hold zeros; cells come -/
def CA (h0 sz : Nat) : Nat → Prop := fun q => q = h0 ∨ sz ≤ q
def va_AG (U : State) : Prop := (Cond.arrayOver (.array .int)).before #[] U = true
theorem va_AG.of {A : Array Value} {U : State} (h : (Cond.arrayOver (.array .int)).before A U = true) : va_AG U := h
theorem va_AG.use {A : Array Value} {U : State} (h : va_AG U) : (Cond.arrayOver (.array .int)).before A U = true := h
theorem va_AG.moved {u U : State} (hvm : u.vm.Alike U.vm) (h : va_AG u) : va_AG U := by
  unfold va_AG Cond.before at *
  exact Jvm.Stand.arrayOver_alikeB hvm h
def CP (G : Gx) (h0 ci : Nat) (fs0 : List Value) (sz : Nat) : Array Value → State → Prop := va_Pc [.ref h0] (fun U => U.heap.size = sz ∧ Amb G U ∧ va_AG U ∧ va_P (gD G) vwCl [(h0, .inr (ci, fs0))] U.heap ∧ gB G h0)
def CQ (G : Gx) (A : Nat → Prop) (h0 : Nat) (Wf : (Nat → Nat) → va_W) : Array Value → State → Outcome → State → Prop := fun _ st o t => (o = .returned none ∧ ∃ a : Nat → Nat, a 0 = h0 ∧ va_P (gD G) vwCl (Wf a) t.heap ∧ va_D A (Wf a)) ∧ va_F A st t
def CC (l : Launch) (G : Gx) (y : MethodName) (ws : List Cond) (rm : Room) (ci : Nat) (fs0 : List Value) (Wf : (Nat → Nat) → va_W) (mc ms : Nat) : Prop := ∀ h0 sz : Nat, G.2.1 ≤ sz → Met l y ws rm (CP G h0 ci fs0 sz) (CQ G (CA h0 sz) h0 Wf) mc ms (CA h0 sz)
theorem CP.blind {G : Gx} {h0 ci sz : Nat} {fs0 : List Value} : FrameBlind (CP G h0 ci fs0 sz) := fun a U g mk q => ⟨q.1, q.2.1, q.2.2.1.blind a g mk, va_AG.moved (u := U) (U := U.calling g mk a) (Vm.Alike.refl U.vm) q.2.2.2.1, q.2.2.2.2.1, q.2.2.2.2.2⟩
section CTR
variable {p : Program} {l : Launch} {e : Env} {R : Room} {s : State} {m : MethodId} {args : Array Value} {below : List Frame} {meth : Method} {c : Code} {H : Heap} {locs : List Loc} {cells slots : Nat} {Q : State → Prop} {G : Gx} {A : Nat → Prop}
variable {cc bytes : ByteArray} {pc : Nat} {ls : Array Slot} {rest st0 : List Value} {Wa Wa' Wr : va_W} {a : Nat} {y : MethodName} {ws Ts : List Cond} {rm : Room} {maxL nL n index mc ms : Nat} {own C host : String}
theorem fc_newa (hx : p.tables.exec = Jvm.exec) (hb : c.code = cc) (harr : (Cond.arrayClass .int).before args s = true) (hE : Amb G s) (hP : va_P (gD G) vwCl Wa H) (hD : va_D A Wa) (hS : va_S A s.heap H locs) (hA : ∀ q, s.heap.size ≤ q → A q) {N : Nat} {k : Int32} (hn : ¬ k < 0) (hN : k.toNatClampNeg = N) (hbytes : N * 4 ≤ 536870912) (hcells : cells + 1 ≤ R.cells) (hslots : slots + N ≤ R.slots) (hdg : decode cc pc = .ok (.newarray .int, 2))
    (kk : ∀ (q : Nat) (H1 : Heap), va_P (gD G) vwCl (Wa ++ [(q, .inl (gI G, N, .inl (fun _ => 0)))]) H1 → va_D A (Wa ++ [(q, .inl (gI G, N, .inl (fun _ => 0)))]) → va_S A s.heap H1 locs → W p l e R s m args below meth c H1 locs (cells + 1) (slots + N) Q (F0 m (pc + 2) ls (.ref q :: rest))) : W p l e R s m args below meth c H locs cells slots Q (F0 m pc ls (.int k :: rest)) := by
  refine va_newa (atype := .int) (ty := .int) (a0 := (N, .inl (fun _ => 0))) hx hb harr rfl hE.1 hP hD hS hA (fun cA => rfl) hn hN hbytes hcells hslots hdg (fun q cA H1 hK hP hD hS => ?_)
  have e1 : s.vm.findClass ("[" ++ FieldType.int.toString) = some cA := (hK.2 2 (cA, .int) rfl).2
  have e2 : s.vm.findClass ("[" ++ FieldType.int.toString) = some (gI G) := (hE.1.2 0 (gI G, .int) rfl).2
  have e3 : cA = gI G := Option.some.inj (e1.symm.trans e2)
  subst e3
  exact kk q H1 hP hD hS
theorem fc_new (hx : p.tables.exec = Jvm.exec) (hb : c.code = cc) {own C : String} {T : u_T} {N ci index : Nat} (hw : ∀ w ∈ u_ws C T N, w.before args s = true) (ty0 : Nat → FieldType) (hty : ∀ k, k < N → parseFieldDescriptor (T k).2.2.1 = some (ty0 k)) (hown : s.vm.findClass own = some m.cls) (hcl : (Cond.classLink own index C).before args s = true) (hinst : (Cond.instantiable C N).before args s = true) (hini : (Cond.initialized C).before args s = true) (hE : Amb G s) (hP : va_P (gD G) vwCl Wa H) (hD : va_D A Wa) (hS : va_S A s.heap H locs) (hA : ∀ q, s.heap.size ≤ q → A q) (hc : vwCl[ci]? = some (C, T, N)) {fs : List Value} (hfs : ∀ j, j < N → defaultValue (ty0 j) = vp_V fs j) (hcells : cells + 1 ≤ R.cells) (hslots : slots + N ≤ R.slots) (hdg : decode cc pc = .ok (.new index, 3))
    (kk : ∀ (q : Nat) (H1 : Heap), va_P (gD G) vwCl (Wa ++ [(q, .inr (ci, fs))]) H1 → va_D A (Wa ++ [(q, .inr (ci, fs))]) → va_S A s.heap H1 locs → W p l e R s m args below meth c H1 locs (cells + 1) (slots + N) Q (F0 m (pc + 3) ls (.ref q :: rest))) : W p l e R s m args below meth c H locs cells slots Q (F0 m pc ls rest) :=
  va_new (Ts := u_ws C T N) hx hb hw (fun _ h => h) ty0 hty hown hcl hinst hini hE.1 hP hD hS hA hc hfs hcells hslots hdg kk
theorem fc_putF (hx : p.tables.exec = Jvm.exec) (hb : c.code = cc) {own C : String} {T : u_T} {N ci index : Nat} (hw : ∀ w ∈ u_ws C T N, w.before args s = true) (ty0 : Nat → FieldType) (hty : ∀ k, k < N → parseFieldDescriptor (T k).2.2.1 = some (ty0 k)) (hnm : ∀ a, a < N → ∀ b, b < N → a ≠ b → (T a).2.1 ≠ (T b).2.1) (hown : s.vm.findClass own = some m.cls) (hE : Amb G s) (hP : va_P (gD G) vwCl Wa H) (hD : va_D A Wa) (hS : va_S A s.heap H locs) (q0 : Nat) {fs : List Value} (he : Wa[q0]? = some (a, .inr (ci, fs))) (hc : vwCl[ci]? = some (C, T, N)) (k : Nat) (hk : k < N) (hlink : (Cond.fieldLink own index own (T k).2.1 (T k).2.2.1).before args s = true) (hfin : (T k).2.2.2 = true) (hin : meth.name = "<init>") (hdecl : (T k).1 = own) {v : Value} (hn : narrow (ty0 k) v = v) (hfit : fits (ty0 k) v = true) (hl : k < fs.length) (hdg : decode cc pc = .ok (.putfield index, 3)) (hW : Wa.set q0 (a, .inr (ci, fs.set k v)) = Wa')
    (kk : ∀ (H1 : Heap) (locs1 : List Loc), va_P (gD G) vwCl Wa' H1 → va_D A Wa' → va_S A s.heap H1 locs1 → W p l e R s m args below meth c H1 locs1 cells slots Q (F0 m (pc + 3) ls rest)) : W p l e R s m args below meth c H locs cells slots Q (F0 m pc ls (v :: .ref a :: rest)) := by
  subst hW
  exact va_putF hx hb hw (fun _ h => h) ty0 hty hnm hown hE.1 hP hD hS q0 he hc k hk hlink (fun _ h => by rw [hdecl] at h; exact h) hfin hin hdecl (hty k hk) hn hfit hl hdg kk
/-- a call of a constructor, on the cell made last -/
theorem fc_ctor {h0 ci : Nat} {fs0 : List Value} {Wf : (Nat → Nat) → va_W} (hr : va_Run p l e R s m args below meth c H locs cells slots mc ms (F0 m pc ls st0) rest (CQ G (CA h0 H.size) h0 Wf #[.ref h0]) (CA h0 H.size)) (hP : va_P (gD G) vwCl (Wr ++ [(h0, .inr (ci, fs0))]) H) (hD : va_D A (Wr ++ [(h0, .inr (ci, fs0))])) (hS : va_S A s.heap H locs) (hA : ∀ q, s.heap.size ≤ q → A q)
    (kk : ∀ (a : Nat → Nat) (H1 : Heap) (locs1 : List Loc), a 0 = h0 → va_P (gD G) vwCl (Wr ++ Wf a) H1 → va_D A (Wr ++ Wf a) → va_S A s.heap H1 locs1 → W p l e R s m args below meth c H1 locs1 (cells + mc) (slots + ms) Q (F0 m (pc + 3) ls rest)) : W p l e R s m args below meth c H locs cells slots Q (F0 m pc ls st0) := by
  have hlast : (Wr ++ [(h0, Sum.inr (ci, fs0))])[Wr.length]? = some (h0, .inr (ci, fs0)) := by simp
  have hAc : ∀ q, CA h0 H.size q → A q := fun q hq => hq.elim (fun z => by rw [z]; exact hD.2 _ _ hlast) (fun z => hA q (Nat.le_trans hS.1 z))
  intro T hT X
  obtain ⟨v, st₀, t, T', L, e0, X', hL, e1, e2, ⟨⟨hv, a, ha, hp, hd⟩, hz, hk⟩, st⟩ := hr T hT X
  cases hv
  rw [e0] at hz hk
  have hk1 : ∀ q : Nat, q < H.size → ¬ CA h0 H.size q → T'.heap[q]? = H[q]? := fun q h1 h2 => by rw [e1]; exact hk q h1 h2
  have hr0 : ∀ (k : Nat) (q : Nat × va_E), Wr[k]? = some q → q.1 < H.size ∧ ¬ CA h0 H.size q.1 := fun k q hq => by
    have hlt := (List.getElem?_eq_some_iff.mp hq).1
    have hq' : (Wr ++ [(h0, Sum.inr (ci, fs0))])[k]? = some q := by rw [List.getElem?_append_left hlt]; exact hq
    have h1 := (hP k q hq').lt
    refine ⟨h1, fun z => ?_⟩
    rcases z with z | z
    · have := hD.1 k Wr.length q (h0, .inr (ci, fs0)) hq' hlast z
      omega
    · omega
  have hP' : va_P (gD G) vwCl (Wr ++ Wf a) T'.heap := va_P.app (fun k q hq => by
    obtain ⟨g1, g2⟩ := hr0 k q hq
    have hlt := (List.getElem?_eq_some_iff.mp hq).1
    exact (hP k q (by rw [List.getElem?_append_left hlt]; exact hq)).kept (hk1 q.1 g1 g2)) (by rw [e1]; exact hp)
  have hDr : va_D A Wr := ⟨fun i j x y hi hj hxy => hD.1 i j x y (by rw [List.getElem?_append_left (List.getElem?_eq_some_iff.mp hi).1]; exact hi) (by rw [List.getElem?_append_left (List.getElem?_eq_some_iff.mp hj).1]; exact hj) hxy, fun k q hq => hD.2 k q (by rw [List.getElem?_append_left (List.getElem?_eq_some_iff.mp hq).1]; exact hq)⟩
  have hD' : va_D A (Wr ++ Wf a) := va_D.app hDr (hd.weaken (fun _ q _ h => hAc q.1 h)) (fun i j x y hx hy hxy => (hr0 i x hx).2 (by rw [hxy]; exact hd.2 j y hy))
  obtain ⟨t2, a1, b1⟩ := kk a T'.heap (locs ++ L) ha hP' hD'
    ⟨Nat.le_trans hS.1 (by rw [e1]; exact hz), fun q h1 h2 => by rw [hk1 q (Nat.lt_of_lt_of_le h1 hS.1) (fun z => h2 (hAc q z))]; exact hS.2.1 q h1 h2, fun q hq => by
      rcases List.mem_append.mp hq with h | h
      · exact hS.2.2 q h
      · exact hAc _ (hL q h)⟩ T' rfl X'
  exact ⟨t2, st t2 a1, b1⟩
theorem cc_pre {h0 ci : Nat} {fs0 : List Value} (hE : Amb G s) (hAO : va_AG s) (hAB : ∀ q, A q → gB G q) (hP : va_P (gD G) vwCl (Wr ++ [(h0, .inr (ci, fs0))]) H) (hD : va_D A (Wr ++ [(h0, .inr (ci, fs0))])) (hS : va_S A s.heap H locs) : ∀ U : State, U.heap = H → s.WarmedH U.vm → CP G h0 ci fs0 H.size #[.ref h0] U := fun U hU hWm => by
  have hlast : (Wr ++ [(h0, Sum.inr (ci, fs0))])[Wr.length]? = some (h0, .inr (ci, fs0)) := by simp
  refine ⟨rfl, by rw [hU], hE.go hAB hS hU hWm, va_AG.moved hWm.alike hAO, ?_, hAB _ (hD.2 _ _ hlast)⟩
  rw [hU]
  intro k q hk
  cases k with
  | zero => cases hk; exact hP _ _ hlast
  | succ k => simp at hk
end CTR
theorem inner0 (cA : ClassId) : Jvm.Free.Multi.innerC cA 256 (defaultValue .int) = vp_cell cA (256, .inl (fun _ => 0)) := by
  rw [vp_cell_i]
  exact arrV_new cA 256 (.int 0)
theorem grid_pl {X : va_W} {f : Nat → va_E} {e : va_E} {rr : Nat → Nat} : X ++ va_pl ([] ++ (List.range 6).map rr) (vr_up f ((List.range 6).map rr) e) = X ++ [(rr 0, e), (rr 1, e), (rr 2, e), (rr 3, e), (rr 4, e), (rr 5, e)] := by
  congr 1
  unfold va_pl
  rw [List.nil_append, List.map_congr_left (g := fun a => (a, e)) (fun a ha => by rw [vr_up_in ha])]
  rfl
theorem cc_head {l : Launch} {G : Gx} {y : MethodName} {ws ws' : List Cond} {rm : Room} {h0 ci sz : Nat} {fs0 : List Value} {Wf : (Nat → Nat) → va_W} {cc : ByteArray} {C : String} {mc ms : Nat} (hsz : G.2.1 ≤ sz)
    (hy : plainName y.cls = true) (hw : ws = Cond.code y cc 1 none :: ws') (hC : y.cls = C) (hin : y.name = "<init>")
    (body : ∀ (p : Program) (e : Env) (s : State) (m : MethodId) (below : List Frame) (meth : Method) (c : Code) (ls : Array Slot) (A : Nat → Prop), p.tables.exec = Jvm.exec → c.code = cc → meth.sig.returnType = none → c.maxLocals = 1 → s.vm.findClass C = some m.cls → (∀ w ∈ ws, w.before #[Value.ref h0] s = true) → meth.locks = false → meth.name = "<init>" → Amb G s → va_AG s → va_P (gD G) vwCl [(h0, .inr (ci, fs0))] s.heap → va_D A [(h0, .inr (ci, fs0))] → (∀ q, A q → gB G q) → (∀ q, s.heap.size ≤ q → A q) → va_S A s.heap s.heap [] → lv_has ls 1 [(0, .ref h0)] →
      W p l e (headSpec ws rm).room s m #[Value.ref h0] below meth c s.heap [] 0 0 (MQ below (CQ G A h0 Wf) #[Value.ref h0] s mc ms A) (F0 m 0 ls [])) : Met l y ws rm (CP G h0 ci fs0 sz) (CQ G (CA h0 sz) h0 Wf) mc ms (CA h0 sz) := by
  refine Met.ofW (cc := cc) (maxL := 1) (ret := none) hy hw ?_
  intro p e s m args below meth c s₁ B hml hv
  obtain ⟨rfl, hs, hE, hAO, hP, hB⟩ := hv
  rw [lg_entry_eq]
  refine body p e s m below meth c _ (CA h0 sz) B.exec B.bytes B.returns hml (hC ▸ findClass_of_methodNamed B.named) (atoms_spec (ws := ws) B.pre) B.notSynchronized (hin ▸ (name_of_methodNamed B.named B.method).1) hE hAO hP ⟨fun i j x y hi hj _ => ?_, fun k q hk => ?_⟩ (fun q hq => ?_) (fun q hq => Or.inr (by rw [← hs]; exact hq)) va_S.rf (lv_entry [.ref h0] (n := 1) (Nat.le_of_ble_eq_true rfl))
  · cases i with
    | zero => cases j with
      | zero => rfl
      | succ j => simp at hj
    | succ i => simp at hi
  · cases k with
    | zero => cases hk; exact Or.inl rfl
    | succ k => simp at hk
  · rcases hq with z | z
    · rw [z]; exact hB
    · exact Nat.le_trans hsz z
theorem cc_ret {p : Program} {l : Launch} {e : Env} {R : Room} {s : State} {m : MethodId} {args : Array Value} {below : List Frame} {meth : Method} {c : Code} {H : Heap} {locs : List Loc} {G : Gx} {A : Nat → Prop} {cc : ByteArray} {pc : Nat} {ls : Array Slot} {Wa : va_W} {h0 mc ms : Nat} {Wf : (Nat → Nat) → va_W} (a : Nat → Nat) (ha : a 0 = h0) (hx : p.tables.exec = Jvm.exec) (hb : c.code = cc) (hr : meth.sig.returnType = none) (hlocks : meth.locks = false) (hP : va_P (gD G) vwCl Wa H) (hD : va_D A Wa) (hS : va_S A s.heap H locs) (hdg : decode cc pc = .ok (.return_, 1)) (hW : Wa = Wf a) :
    W p l e R s m args below meth c H locs mc ms (MQ below (CQ G A h0 Wf) args s mc ms A) (F0 m pc ls []) := by
  subst hW
  exact W.vret hx hb hr (fun t ht hWm => ⟨⟨rfl, a, ha, by rw [ht]; exact hP, hD⟩, hS.F ht⟩) hS.2.2 hdg hlocks

theorem iu_X6_init_X6 : ∀ w ∈ u_ws RX6 TX6 12, w ∈ wsX6_init := by decide +kernel
set_option maxHeartbeats 4000000 in
set_option maxRecDepth 100000 in
theorem cc_X6_init {l : Launch} {G : Gx} : CC l G yX6_init wsX6_init ({ frames := 1, cells := 7, slots := 47, locals := 12 } : Room) 3 [.int 0, .int 0, .null, .null, .null, .null, .int 0, .int 0, .null, .null, .null, .int 0] (fun a => vW G a (fun _ _ => 0)) 7 47 := by
  intro h0 sz hsz
  refine cc_head (cc := cX6_init) (C := RX6) hsz (by decide) rfl rfl rfl ?_
  intro p e s m below meth c ls A hx hb hr hml hown hts hlocks hin hE hAO hP hD hAB hA hS hl
  have hwX6 : ∀ w ∈ u_ws RX6 TX6 12, w.before #[Value.ref h0] s = true := fun w h => hts w (iu_X6_init_X6 w h)
  refine lv_aload_n hx hb dX6_init_0 rfl (lv_at hl 0 rfl) ?_
  refine W.objInit hx hb hown (hts (.methodLink RX6 3 objectInit) (List.mem_of_getElem? (i := 1) rfl)) (hts (.instanceMethod objectInit) (List.mem_of_getElem? (i := 2) rfl)) (hts (.code objectInit ⟨#[0xb1]⟩ 1 none) (List.mem_of_getElem? (i := 3) rfl)) rfl (hl.1.trans hml.symm) rfl dX6_init_1 (Nat.le_of_ble_eq_true rfl) (Nat.le_of_ble_eq_true rfl) ?_
  refine W.eq (g2 := F0 m 4 ls []) rfl ?_
  refine lv_aload_n hx hb dX6_init_4 rfl (lv_at hl 0 rfl) ?_
  refine lv_bipush (v := (8 : Int32)) hx hb dX6_init_5 (by decide) ?_
  refine fc_newa (N := 8) hx hb (hts (.arrayClass .int) (List.mem_of_getElem? (i := 4) rfl)) hE hP hD hS hA (by decide) rfl (Nat.le_of_ble_eq_true rfl) (Nat.le_of_ble_eq_true rfl) (Nat.le_of_ble_eq_true rfl) dX6_init_7 (fun q1 H hP hD hS => ?_)
  have hP : va_P (gD G) vwCl [(h0, .inr (3, [.int 0, .int 0, .null, .null, .null, .null, .int 0, .int 0, .null, .null, .null, .int 0])), (q1, .inl (gI G, 8, .inl (fun _ => 0)))] H := hP
  have hD : va_D A [(h0, .inr (3, [.int 0, .int 0, .null, .null, .null, .null, .int 0, .int 0, .null, .null, .null, .int 0])), (q1, .inl (gI G, 8, .inl (fun _ => 0)))] := hD
  refine W.widen (k := 1) (n := 8) (Nat.le_refl _) (Nat.le_refl _) ?_
  refine fc_putF (Wa' := [(h0, .inr (3, [.int 0, .int 0, .ref q1, .null, .null, .null, .int 0, .int 0, .null, .null, .null, .int 0])), (q1, .inl (gI G, 8, .inl (fun _ => 0)))]) (ci := 3) (C := RX6) (T := TX6) (N := 12) hx hb hwX6 tyX6 tyX6_ok nmX6 hown hE hP hD hS 0 rfl rfl 2 (by decide) (hts (.fieldLink RX6 9 "BrideNotKnown$Valley" "kinds" "[I") (List.mem_of_getElem? (i := 5) rfl)) rfl hin rfl rfl rfl (Nat.le_of_ble_eq_true rfl) dX6_init_9 rfl (fun H locs hP hD hS => ?_)
  refine lv_aload_n hx hb dX6_init_12 rfl (lv_at hl 0 rfl) ?_
  refine lv_bipush (v := (8 : Int32)) hx hb dX6_init_13 (by decide) ?_
  refine fc_newa (N := 8) hx hb (hts (.arrayClass .int) (List.mem_of_getElem? (i := 4) rfl)) hE hP hD hS hA (by decide) rfl (Nat.le_of_ble_eq_true rfl) (Nat.le_of_ble_eq_true rfl) (Nat.le_of_ble_eq_true rfl) dX6_init_15 (fun q2 H hP hD hS => ?_)
  have hP : va_P (gD G) vwCl [(h0, .inr (3, [.int 0, .int 0, .ref q1, .null, .null, .null, .int 0, .int 0, .null, .null, .null, .int 0])), (q1, .inl (gI G, 8, .inl (fun _ => 0))), (q2, .inl (gI G, 8, .inl (fun _ => 0)))] H := hP
  have hD : va_D A [(h0, .inr (3, [.int 0, .int 0, .ref q1, .null, .null, .null, .int 0, .int 0, .null, .null, .null, .int 0])), (q1, .inl (gI G, 8, .inl (fun _ => 0))), (q2, .inl (gI G, 8, .inl (fun _ => 0)))] := hD
  refine W.widen (k := 2) (n := 16) (Nat.le_refl _) (Nat.le_refl _) ?_
  refine fc_putF (Wa' := [(h0, .inr (3, [.int 0, .int 0, .ref q1, .ref q2, .null, .null, .int 0, .int 0, .null, .null, .null, .int 0])), (q1, .inl (gI G, 8, .inl (fun _ => 0))), (q2, .inl (gI G, 8, .inl (fun _ => 0)))]) (ci := 3) (C := RX6) (T := TX6) (N := 12) hx hb hwX6 tyX6 tyX6_ok nmX6 hown hE hP hD hS 0 rfl rfl 3 (by decide) (hts (.fieldLink RX6 15 "BrideNotKnown$Valley" "figures" "[I") (List.mem_of_getElem? (i := 6) rfl)) rfl hin rfl rfl rfl (Nat.le_of_ble_eq_true rfl) dX6_init_17 rfl (fun H locs hP hD hS => ?_)
  refine lv_aload_n hx hb dX6_init_20 rfl (lv_at hl 0 rfl) ?_
  refine lv_bipush (v := (8 : Int32)) hx hb dX6_init_21 (by decide) ?_
  refine fc_newa (N := 8) hx hb (hts (.arrayClass .int) (List.mem_of_getElem? (i := 4) rfl)) hE hP hD hS hA (by decide) rfl (Nat.le_of_ble_eq_true rfl) (Nat.le_of_ble_eq_true rfl) (Nat.le_of_ble_eq_true rfl) dX6_init_23 (fun q3 H hP hD hS => ?_)
  have hP : va_P (gD G) vwCl [(h0, .inr (3, [.int 0, .int 0, .ref q1, .ref q2, .null, .null, .int 0, .int 0, .null, .null, .null, .int 0])), (q1, .inl (gI G, 8, .inl (fun _ => 0))), (q2, .inl (gI G, 8, .inl (fun _ => 0))), (q3, .inl (gI G, 8, .inl (fun _ => 0)))] H := hP
  have hD : va_D A [(h0, .inr (3, [.int 0, .int 0, .ref q1, .ref q2, .null, .null, .int 0, .int 0, .null, .null, .null, .int 0])), (q1, .inl (gI G, 8, .inl (fun _ => 0))), (q2, .inl (gI G, 8, .inl (fun _ => 0))), (q3, .inl (gI G, 8, .inl (fun _ => 0)))] := hD
  refine W.widen (k := 3) (n := 24) (Nat.le_refl _) (Nat.le_refl _) ?_
  refine fc_putF (Wa' := [(h0, .inr (3, [.int 0, .int 0, .ref q1, .ref q2, .ref q3, .null, .int 0, .int 0, .null, .null, .null, .int 0])), (q1, .inl (gI G, 8, .inl (fun _ => 0))), (q2, .inl (gI G, 8, .inl (fun _ => 0))), (q3, .inl (gI G, 8, .inl (fun _ => 0)))]) (ci := 3) (C := RX6) (T := TX6) (N := 12) hx hb hwX6 tyX6 tyX6_ok nmX6 hown hE hP hD hS 0 rfl rfl 4 (by decide) (hts (.fieldLink RX6 18 "BrideNotKnown$Valley" "feet" "[I") (List.mem_of_getElem? (i := 7) rfl)) rfl hin rfl rfl rfl (Nat.le_of_ble_eq_true rfl) dX6_init_25 rfl (fun H locs hP hD hS => ?_)
  refine lv_aload_n hx hb dX6_init_28 rfl (lv_at hl 0 rfl) ?_
  refine lv_bipush (v := (8 : Int32)) hx hb dX6_init_29 (by decide) ?_
  refine fc_newa (N := 8) hx hb (hts (.arrayClass .int) (List.mem_of_getElem? (i := 4) rfl)) hE hP hD hS hA (by decide) rfl (Nat.le_of_ble_eq_true rfl) (Nat.le_of_ble_eq_true rfl) (Nat.le_of_ble_eq_true rfl) dX6_init_31 (fun q4 H hP hD hS => ?_)
  have hP : va_P (gD G) vwCl [(h0, .inr (3, [.int 0, .int 0, .ref q1, .ref q2, .ref q3, .null, .int 0, .int 0, .null, .null, .null, .int 0])), (q1, .inl (gI G, 8, .inl (fun _ => 0))), (q2, .inl (gI G, 8, .inl (fun _ => 0))), (q3, .inl (gI G, 8, .inl (fun _ => 0))), (q4, .inl (gI G, 8, .inl (fun _ => 0)))] H := hP
  have hD : va_D A [(h0, .inr (3, [.int 0, .int 0, .ref q1, .ref q2, .ref q3, .null, .int 0, .int 0, .null, .null, .null, .int 0])), (q1, .inl (gI G, 8, .inl (fun _ => 0))), (q2, .inl (gI G, 8, .inl (fun _ => 0))), (q3, .inl (gI G, 8, .inl (fun _ => 0))), (q4, .inl (gI G, 8, .inl (fun _ => 0)))] := hD
  refine W.widen (k := 4) (n := 32) (Nat.le_refl _) (Nat.le_refl _) ?_
  refine fc_putF (Wa' := [(h0, .inr (3, [.int 0, .int 0, .ref q1, .ref q2, .ref q3, .ref q4, .int 0, .int 0, .null, .null, .null, .int 0])), (q1, .inl (gI G, 8, .inl (fun _ => 0))), (q2, .inl (gI G, 8, .inl (fun _ => 0))), (q3, .inl (gI G, 8, .inl (fun _ => 0))), (q4, .inl (gI G, 8, .inl (fun _ => 0)))]) (ci := 3) (C := RX6) (T := TX6) (N := 12) hx hb hwX6 tyX6 tyX6_ok nmX6 hown hE hP hD hS 0 rfl rfl 5 (by decide) (hts (.fieldLink RX6 21 "BrideNotKnown$Valley" "sentYears" "[I") (List.mem_of_getElem? (i := 8) rfl)) rfl hin rfl rfl rfl (Nat.le_of_ble_eq_true rfl) dX6_init_33 rfl (fun H locs hP hD hS => ?_)
  refine lv_aload_n hx hb dX6_init_36 rfl (lv_at hl 0 rfl) ?_
  refine lv_iconst (v := (5 : Int32)) hx hb dX6_init_37 (by decide) ?_
  refine fc_newa (N := 5) hx hb (hts (.arrayClass .int) (List.mem_of_getElem? (i := 4) rfl)) hE hP hD hS hA (by decide) rfl (Nat.le_of_ble_eq_true rfl) (Nat.le_of_ble_eq_true rfl) (Nat.le_of_ble_eq_true rfl) dX6_init_38 (fun q5 H hP hD hS => ?_)
  have hP : va_P (gD G) vwCl [(h0, .inr (3, [.int 0, .int 0, .ref q1, .ref q2, .ref q3, .ref q4, .int 0, .int 0, .null, .null, .null, .int 0])), (q1, .inl (gI G, 8, .inl (fun _ => 0))), (q2, .inl (gI G, 8, .inl (fun _ => 0))), (q3, .inl (gI G, 8, .inl (fun _ => 0))), (q4, .inl (gI G, 8, .inl (fun _ => 0))), (q5, .inl (gI G, 5, .inl (fun _ => 0)))] H := hP
  have hD : va_D A [(h0, .inr (3, [.int 0, .int 0, .ref q1, .ref q2, .ref q3, .ref q4, .int 0, .int 0, .null, .null, .null, .int 0])), (q1, .inl (gI G, 8, .inl (fun _ => 0))), (q2, .inl (gI G, 8, .inl (fun _ => 0))), (q3, .inl (gI G, 8, .inl (fun _ => 0))), (q4, .inl (gI G, 8, .inl (fun _ => 0))), (q5, .inl (gI G, 5, .inl (fun _ => 0)))] := hD
  refine W.widen (k := 5) (n := 37) (Nat.le_refl _) (Nat.le_refl _) ?_
  refine fc_putF (Wa' := [(h0, .inr (3, [.int 0, .int 0, .ref q1, .ref q2, .ref q3, .ref q4, .int 0, .int 0, .ref q5, .null, .null, .int 0])), (q1, .inl (gI G, 8, .inl (fun _ => 0))), (q2, .inl (gI G, 8, .inl (fun _ => 0))), (q3, .inl (gI G, 8, .inl (fun _ => 0))), (q4, .inl (gI G, 8, .inl (fun _ => 0))), (q5, .inl (gI G, 5, .inl (fun _ => 0)))]) (ci := 3) (C := RX6) (T := TX6) (N := 12) hx hb hwX6 tyX6 tyX6_ok nmX6 hown hE hP hD hS 0 rfl rfl 8 (by decide) (hts (.fieldLink RX6 24 "BrideNotKnown$Valley" "lookBits" "[I") (List.mem_of_getElem? (i := 9) rfl)) rfl hin rfl rfl rfl (Nat.le_of_ble_eq_true rfl) dX6_init_40 rfl (fun H locs hP hD hS => ?_)
  refine lv_aload_n hx hb dX6_init_43 rfl (lv_at hl 0 rfl) ?_
  refine lv_iconst (v := (5 : Int32)) hx hb dX6_init_44 (by decide) ?_
  refine fc_newa (N := 5) hx hb (hts (.arrayClass .int) (List.mem_of_getElem? (i := 4) rfl)) hE hP hD hS hA (by decide) rfl (Nat.le_of_ble_eq_true rfl) (Nat.le_of_ble_eq_true rfl) (Nat.le_of_ble_eq_true rfl) dX6_init_45 (fun q6 H hP hD hS => ?_)
  have hP : va_P (gD G) vwCl [(h0, .inr (3, [.int 0, .int 0, .ref q1, .ref q2, .ref q3, .ref q4, .int 0, .int 0, .ref q5, .null, .null, .int 0])), (q1, .inl (gI G, 8, .inl (fun _ => 0))), (q2, .inl (gI G, 8, .inl (fun _ => 0))), (q3, .inl (gI G, 8, .inl (fun _ => 0))), (q4, .inl (gI G, 8, .inl (fun _ => 0))), (q5, .inl (gI G, 5, .inl (fun _ => 0))), (q6, .inl (gI G, 5, .inl (fun _ => 0)))] H := hP
  have hD : va_D A [(h0, .inr (3, [.int 0, .int 0, .ref q1, .ref q2, .ref q3, .ref q4, .int 0, .int 0, .ref q5, .null, .null, .int 0])), (q1, .inl (gI G, 8, .inl (fun _ => 0))), (q2, .inl (gI G, 8, .inl (fun _ => 0))), (q3, .inl (gI G, 8, .inl (fun _ => 0))), (q4, .inl (gI G, 8, .inl (fun _ => 0))), (q5, .inl (gI G, 5, .inl (fun _ => 0))), (q6, .inl (gI G, 5, .inl (fun _ => 0)))] := hD
  refine W.widen (k := 6) (n := 42) (Nat.le_refl _) (Nat.le_refl _) ?_
  refine fc_putF (Wa' := [(h0, .inr (3, [.int 0, .int 0, .ref q1, .ref q2, .ref q3, .ref q4, .int 0, .int 0, .ref q5, .ref q6, .null, .int 0])), (q1, .inl (gI G, 8, .inl (fun _ => 0))), (q2, .inl (gI G, 8, .inl (fun _ => 0))), (q3, .inl (gI G, 8, .inl (fun _ => 0))), (q4, .inl (gI G, 8, .inl (fun _ => 0))), (q5, .inl (gI G, 5, .inl (fun _ => 0))), (q6, .inl (gI G, 5, .inl (fun _ => 0)))]) (ci := 3) (C := RX6) (T := TX6) (N := 12) hx hb hwX6 tyX6 tyX6_ok nmX6 hown hE hP hD hS 0 rfl rfl 9 (by decide) (hts (.fieldLink RX6 27 "BrideNotKnown$Valley" "mindFeet" "[I") (List.mem_of_getElem? (i := 10) rfl)) rfl hin rfl rfl rfl (Nat.le_of_ble_eq_true rfl) dX6_init_47 rfl (fun H locs hP hD hS => ?_)
  refine lv_aload_n hx hb dX6_init_50 rfl (lv_at hl 0 rfl) ?_
  refine lv_iconst (v := (5 : Int32)) hx hb dX6_init_51 (by decide) ?_
  refine fc_newa (N := 5) hx hb (hts (.arrayClass .int) (List.mem_of_getElem? (i := 4) rfl)) hE hP hD hS hA (by decide) rfl (Nat.le_of_ble_eq_true rfl) (Nat.le_of_ble_eq_true rfl) (Nat.le_of_ble_eq_true rfl) dX6_init_52 (fun q7 H hP hD hS => ?_)
  have hP : va_P (gD G) vwCl [(h0, .inr (3, [.int 0, .int 0, .ref q1, .ref q2, .ref q3, .ref q4, .int 0, .int 0, .ref q5, .ref q6, .null, .int 0])), (q1, .inl (gI G, 8, .inl (fun _ => 0))), (q2, .inl (gI G, 8, .inl (fun _ => 0))), (q3, .inl (gI G, 8, .inl (fun _ => 0))), (q4, .inl (gI G, 8, .inl (fun _ => 0))), (q5, .inl (gI G, 5, .inl (fun _ => 0))), (q6, .inl (gI G, 5, .inl (fun _ => 0))), (q7, .inl (gI G, 5, .inl (fun _ => 0)))] H := hP
  have hD : va_D A [(h0, .inr (3, [.int 0, .int 0, .ref q1, .ref q2, .ref q3, .ref q4, .int 0, .int 0, .ref q5, .ref q6, .null, .int 0])), (q1, .inl (gI G, 8, .inl (fun _ => 0))), (q2, .inl (gI G, 8, .inl (fun _ => 0))), (q3, .inl (gI G, 8, .inl (fun _ => 0))), (q4, .inl (gI G, 8, .inl (fun _ => 0))), (q5, .inl (gI G, 5, .inl (fun _ => 0))), (q6, .inl (gI G, 5, .inl (fun _ => 0))), (q7, .inl (gI G, 5, .inl (fun _ => 0)))] := hD
  refine W.widen (k := 7) (n := 47) (Nat.le_refl _) (Nat.le_refl _) ?_
  refine fc_putF (Wa' := [(h0, .inr (3, [.int 0, .int 0, .ref q1, .ref q2, .ref q3, .ref q4, .int 0, .int 0, .ref q5, .ref q6, .ref q7, .int 0])), (q1, .inl (gI G, 8, .inl (fun _ => 0))), (q2, .inl (gI G, 8, .inl (fun _ => 0))), (q3, .inl (gI G, 8, .inl (fun _ => 0))), (q4, .inl (gI G, 8, .inl (fun _ => 0))), (q5, .inl (gI G, 5, .inl (fun _ => 0))), (q6, .inl (gI G, 5, .inl (fun _ => 0))), (q7, .inl (gI G, 5, .inl (fun _ => 0)))]) (ci := 3) (C := RX6) (T := TX6) (N := 12) hx hb hwX6 tyX6 tyX6_ok nmX6 hown hE hP hD hS 0 rfl rfl 10 (by decide) (hts (.fieldLink RX6 30 "BrideNotKnown$Valley" "liquors" "[I") (List.mem_of_getElem? (i := 11) rfl)) rfl hin rfl rfl rfl (Nat.le_of_ble_eq_true rfl) dX6_init_54 rfl (fun H locs hP hD hS => ?_)
  exact cc_ret (fun j => if j = 0 then h0 else if j = 1 then q1 else if j = 2 then q2 else if j = 3 then q3 else if j = 4 then q4 else if j = 5 then q5 else if j = 6 then q6 else if j = 7 then q7 else 0) rfl hx hb hr hlocks hP hD hS dX6_init_57 rfl
theorem iu_X5_init_X5 : ∀ w ∈ u_ws RX5 TX5 2, w ∈ wsX5_init := by decide +kernel
set_option maxHeartbeats 4000000 in
set_option maxRecDepth 100000 in
theorem cc_X5_init {l : Launch} {G : Gx} : CC l G yX5_init wsX5_init ({ frames := 1, cells := 1, slots := 96, locals := 12 } : Room) 2 [.null, .int 0] (fun a => tW G a (fun _ _ => 0)) 1 96 := by
  intro h0 sz hsz
  refine cc_head (cc := cX5_init) (C := RX5) hsz (by decide) rfl rfl rfl ?_
  intro p e s m below meth c ls A hx hb hr hml hown hts hlocks hin hE hAO hP hD hAB hA hS hl
  have hwX5 : ∀ w ∈ u_ws RX5 TX5 2, w.before #[Value.ref h0] s = true := fun w h => hts w (iu_X5_init_X5 w h)
  refine lv_aload_n hx hb dX5_init_0 rfl (lv_at hl 0 rfl) ?_
  refine W.objInit hx hb hown (hts (.methodLink RX5 3 objectInit) (List.mem_of_getElem? (i := 1) rfl)) (hts (.instanceMethod objectInit) (List.mem_of_getElem? (i := 2) rfl)) (hts (.code objectInit ⟨#[0xb1]⟩ 1 none) (List.mem_of_getElem? (i := 3) rfl)) rfl (hl.1.trans hml.symm) rfl dX5_init_1 (Nat.le_of_ble_eq_true rfl) (Nat.le_of_ble_eq_true rfl) ?_
  refine W.eq (g2 := F0 m 4 ls []) rfl ?_
  refine lv_aload_n hx hb dX5_init_4 rfl (lv_at hl 0 rfl) ?_
  refine lv_bipush (v := (96 : Int32)) hx hb dX5_init_5 (by decide) ?_
  refine fc_newa (N := 96) hx hb (hts (.arrayClass .int) (List.mem_of_getElem? (i := 4) rfl)) hE hP hD hS hA (by decide) rfl (Nat.le_of_ble_eq_true rfl) (Nat.le_of_ble_eq_true rfl) (Nat.le_of_ble_eq_true rfl) dX5_init_7 (fun q1 H hP hD hS => ?_)
  have hP : va_P (gD G) vwCl [(h0, .inr (2, [.null, .int 0])), (q1, .inl (gI G, 96, .inl (fun _ => 0)))] H := hP
  have hD : va_D A [(h0, .inr (2, [.null, .int 0])), (q1, .inl (gI G, 96, .inl (fun _ => 0)))] := hD
  refine W.widen (k := 1) (n := 96) (Nat.le_refl _) (Nat.le_refl _) ?_
  refine fc_putF (Wa' := [(h0, .inr (2, [.ref q1, .int 0])), (q1, .inl (gI G, 96, .inl (fun _ => 0)))]) (ci := 2) (C := RX5) (T := TX5) (N := 2) hx hb hwX5 tyX5 tyX5_ok nmX5 hown hE hP hD hS 0 rfl rfl 0 (by decide) (hts (.fieldLink RX5 9 "BrideNotKnown$Text" "letters" "[I") (List.mem_of_getElem? (i := 5) rfl)) rfl hin rfl rfl rfl (Nat.le_of_ble_eq_true rfl) dX5_init_9 rfl (fun H locs hP hD hS => ?_)
  exact cc_ret (fun j => if j = 0 then h0 else if j = 1 then q1 else 0) rfl hx hb hr hlocks hP hD hS dX5_init_12 rfl
theorem iu_X4_init_X4 : ∀ w ∈ u_ws RX4 TX4 2, w ∈ wsX4_init := by decide +kernel
set_option maxHeartbeats 4000000 in
set_option maxRecDepth 100000 in
theorem cc_X4_init {l : Launch} {G : Gx} : CC l G yX4_init wsX4_init ({ frames := 1, cells := 1, slots := 16, locals := 12 } : Room) 1 [.null, .int 0] (fun a => rW G a (fun _ _ => 0)) 1 16 := by
  intro h0 sz hsz
  refine cc_head (cc := cX4_init) (C := RX4) hsz (by decide) rfl rfl rfl ?_
  intro p e s m below meth c ls A hx hb hr hml hown hts hlocks hin hE hAO hP hD hAB hA hS hl
  have hwX4 : ∀ w ∈ u_ws RX4 TX4 2, w.before #[Value.ref h0] s = true := fun w h => hts w (iu_X4_init_X4 w h)
  refine lv_aload_n hx hb dX4_init_0 rfl (lv_at hl 0 rfl) ?_
  refine W.objInit hx hb hown (hts (.methodLink RX4 3 objectInit) (List.mem_of_getElem? (i := 1) rfl)) (hts (.instanceMethod objectInit) (List.mem_of_getElem? (i := 2) rfl)) (hts (.code objectInit ⟨#[0xb1]⟩ 1 none) (List.mem_of_getElem? (i := 3) rfl)) rfl (hl.1.trans hml.symm) rfl dX4_init_1 (Nat.le_of_ble_eq_true rfl) (Nat.le_of_ble_eq_true rfl) ?_
  refine W.eq (g2 := F0 m 4 ls []) rfl ?_
  refine lv_aload_n hx hb dX4_init_4 rfl (lv_at hl 0 rfl) ?_
  refine lv_bipush (v := (16 : Int32)) hx hb dX4_init_5 (by decide) ?_
  refine fc_newa (N := 16) hx hb (hts (.arrayClass .int) (List.mem_of_getElem? (i := 4) rfl)) hE hP hD hS hA (by decide) rfl (Nat.le_of_ble_eq_true rfl) (Nat.le_of_ble_eq_true rfl) (Nat.le_of_ble_eq_true rfl) dX4_init_7 (fun q1 H hP hD hS => ?_)
  have hP : va_P (gD G) vwCl [(h0, .inr (1, [.null, .int 0])), (q1, .inl (gI G, 16, .inl (fun _ => 0)))] H := hP
  have hD : va_D A [(h0, .inr (1, [.null, .int 0])), (q1, .inl (gI G, 16, .inl (fun _ => 0)))] := hD
  refine W.widen (k := 1) (n := 16) (Nat.le_refl _) (Nat.le_refl _) ?_
  refine fc_putF (Wa' := [(h0, .inr (1, [.ref q1, .int 0])), (q1, .inl (gI G, 16, .inl (fun _ => 0)))]) (ci := 1) (C := RX4) (T := TX4) (N := 2) hx hb hwX4 tyX4 tyX4_ok nmX4 hown hE hP hD hS 0 rfl rfl 0 (by decide) (hts (.fieldLink RX4 9 "BrideNotKnown$Row" "told" "[I") (List.mem_of_getElem? (i := 5) rfl)) rfl hin rfl rfl rfl (Nat.le_of_ble_eq_true rfl) dX4_init_9 rfl (fun H locs hP hD hS => ?_)
  exact cc_ret (fun j => if j = 0 then h0 else if j = 1 then q1 else 0) rfl hx hb hr hlocks hP hD hS dX4_init_12 rfl
theorem iu_X3_init_X3 : ∀ w ∈ u_ws RX3 TX3 2, w ∈ wsX3_init := by decide +kernel
set_option maxHeartbeats 4000000 in
set_option maxRecDepth 100000 in
theorem cc_X3_init {l : Launch} {G : Gx} : CC l G yX3_init wsX3_init ({ frames := 1, cells := 1, slots := 5, locals := 12 } : Room) 0 [.null, .int 0] (fun a => pW G a (fun _ _ => 0)) 1 5 := by
  intro h0 sz hsz
  refine cc_head (cc := cX3_init) (C := RX3) hsz (by decide) rfl rfl rfl ?_
  intro p e s m below meth c ls A hx hb hr hml hown hts hlocks hin hE hAO hP hD hAB hA hS hl
  have hwX3 : ∀ w ∈ u_ws RX3 TX3 2, w.before #[Value.ref h0] s = true := fun w h => hts w (iu_X3_init_X3 w h)
  refine lv_aload_n hx hb dX3_init_0 rfl (lv_at hl 0 rfl) ?_
  refine W.objInit hx hb hown (hts (.methodLink RX3 3 objectInit) (List.mem_of_getElem? (i := 1) rfl)) (hts (.instanceMethod objectInit) (List.mem_of_getElem? (i := 2) rfl)) (hts (.code objectInit ⟨#[0xb1]⟩ 1 none) (List.mem_of_getElem? (i := 3) rfl)) rfl (hl.1.trans hml.symm) rfl dX3_init_1 (Nat.le_of_ble_eq_true rfl) (Nat.le_of_ble_eq_true rfl) ?_
  refine W.eq (g2 := F0 m 4 ls []) rfl ?_
  refine lv_aload_n hx hb dX3_init_4 rfl (lv_at hl 0 rfl) ?_
  refine lv_iconst (v := (5 : Int32)) hx hb dX3_init_5 (by decide) ?_
  refine fc_newa (N := 5) hx hb (hts (.arrayClass .int) (List.mem_of_getElem? (i := 4) rfl)) hE hP hD hS hA (by decide) rfl (Nat.le_of_ble_eq_true rfl) (Nat.le_of_ble_eq_true rfl) (Nat.le_of_ble_eq_true rfl) dX3_init_6 (fun q1 H hP hD hS => ?_)
  have hP : va_P (gD G) vwCl [(h0, .inr (0, [.null, .int 0])), (q1, .inl (gI G, 5, .inl (fun _ => 0)))] H := hP
  have hD : va_D A [(h0, .inr (0, [.null, .int 0])), (q1, .inl (gI G, 5, .inl (fun _ => 0)))] := hD
  refine W.widen (k := 1) (n := 5) (Nat.le_refl _) (Nat.le_refl _) ?_
  refine fc_putF (Wa' := [(h0, .inr (0, [.ref q1, .int 0])), (q1, .inl (gI G, 5, .inl (fun _ => 0)))]) (ci := 0) (C := RX3) (T := TX3) (N := 2) hx hb hwX3 tyX3 tyX3_ok nmX3 hown hE hP hD hS 0 rfl rfl 0 (by decide) (hts (.fieldLink RX3 9 "BrideNotKnown$Pairs" "mayHave" "[I") (List.mem_of_getElem? (i := 5) rfl)) rfl hin rfl rfl rfl (Nat.le_of_ble_eq_true rfl) dX3_init_8 rfl (fun H locs hP hD hS => ?_)
  exact cc_ret (fun j => if j = 0 then h0 else if j = 1 then q1 else 0) rfl hx hb hr hlocks hP hD hS dX3_init_11 rfl
