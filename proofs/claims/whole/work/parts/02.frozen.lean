/-! THE FROZEN LAYER: after the constructors nobody makes a cell: a world is a list of cells at fixed addresses; a contract says which world comes of which, and the answer. -/
/-- a state: arrays of ints by number (scalars in one of them) -/
abbrev St : Type := Nat → Nat → Int32
def sA (v : St) (k : Nat) (g : Nat → Int32) : St := fun j => if j = k then g else v j
def sI (v : St) (k i : Nat) (x : Int32) : St := sA v k (upd (v k) i x)
def sS (S : Nat → St) (k : Nat) (v : St) : Nat → St := fun j => if j = k then v else S j
abbrev sh (k : Nat) (a : Nat → Nat) : Nat → Nat := fun i => a (k + i)
/-- an index within, decided -/
def inB (i : Int32) (n : Nat) : Bool := decide (0 ≤ i.toInt) && decide (i.toInt < n)
theorem inB_in {i : Int32} {n : Nat} (h : inB i n = true) : vp_in i n := by
  simp only [inB, Bool.and_eq_true, decide_eq_true_eq] at h
  exact vp_in_iff.mpr h
def isZ (x : Int32) : Bool := x == 0 || x == 1
theorem isZ_nar {x : Int32} (h : isZ x = true) : narrow .boolean (.int x) = .int x ∧ fits .boolean (.int x) = true := by
  simp only [isZ, Bool.or_eq_true, beq_iff_eq] at h
  rcases h with h | h <;> subst h <;> exact ⟨by decide +kernel, by decide +kernel⟩
def isCh (x : Int32) : Bool := (x.toUInt32 % 65536).toInt32 == x
theorem isCh_nar {x : Int32} (h : isCh x = true) : narrow .char (.int x) = .int x := by
  simp only [isCh, beq_iff_eq] at h
  rw [← h]
  exact pk_nc x
def nzI (y : Int32) : Bool := !(y == 0)
theorem nzI_ne {y : Int32} (h : nzI y = true) : ¬ y = 0 := by simpa [nzI] using h
def nzL (y : Int64) : Bool := !(y == 0)
theorem nzL_ne {y : Int64} (h : nzL y = true) : ¬ y = 0 := by simpa [nzL] using h
def FUEL : Nat := 2000
def gd {α : Type} (b : Bool) (x : Option α) : Option α := if b = true then x else none
theorem gd_some {α : Type} {b : Bool} {x : Option α} {y : α} (h : gd b x = some y) : b = true ∧ x = some y := by
  unfold gd at h
  split at h
  · exact ⟨by assumption, h⟩
  · cases h
theorem ifT {c : Prop} [Decidable c] {α : Type} {x y z : α} (h : (if c then x else y) = z) (hc : c) : x = z := by rw [if_pos hc] at h; exact h
theorem ifF {c : Prop} [Decidable c] {α : Type} {x y z : α} (h : (if c then x else y) = z) (hc : ¬ c) : y = z := by rw [if_neg hc] at h; exact h
theorem bnd {α β : Type} {x : Option α} {g : α → Option β} {z : β} (h : x.bind g = some z) : ∃ q, x = some q ∧ g q = some z := Option.bind_eq_some_iff.mp h
theorem no_some {α : Type} {z : α} {P : Prop} (h : (none : Option α) = some z) : P := by cases h
theorem i1 {α : Type} {a b : α} (h : some a = some b) : a = b := Option.some.inj h
theorem i2a {α β : Type} {a : α} {b : β} {r : α} {v : β} (h : some (a, b) = some (r, v)) : a = r := (Prod.mk.inj (Option.some.inj h)).1
theorem i2b {α β : Type} {a : α} {b : β} {r : α} {v : β} (h : some (a, b) = some (r, v)) : b = v := (Prod.mk.inj (Option.some.inj h)).2
/-- the numbers of the fixed table, as read at the start -/
def ffL : List Int32 := [0, 1, 2, 4, 8, 16, 32, 3, 5, 6, 9, 10, 12, 17, 18, 20, 24, 33, 34, 36, 40, 48, 7, 11, 13, 14, 19, 21, 22, 25, 26, 28, 35, 37, 38, 41, 42, 44, 49, 50, 52, 56, 15, 23, 27, 29, 30, 39, 43, 45, 46, 51, 53, 54, 57, 58, 60, 31, 47, 55, 59, 61, 62, 63]
def ffT (j : Nat) : Int32 := ffL.getD j 0
def strLen : List Nat := [5, 5, 3, 2, 0, 6]
def strByt : List (List Int32) := [[107, 57, 57, 57, 59], [57, 57, 57, 57, 59], [57, 57, 59], [57, 59], [], [98, 115, 102, 99, 116, 109]]
/-- what stays for a whole run: classes' numbers, the base below which nothing is written, the class of int[], of int[][], the table, the texts -/
abbrev Gx : Type := va_G × Nat × ClassId × ClassId × Nat × (Nat → Nat) × (Nat → Nat)
abbrev gD (G : Gx) : va_G := G.1
abbrev gB (G : Gx) : Nat → Prop := fun q => G.2.1 ≤ q
abbrev gI (G : Gx) : ClassId := G.2.2.1
abbrev gG (G : Gx) : ClassId := G.2.2.2.1
abbrev gT (G : Gx) : Nat := G.2.2.2.2.1
abbrev gK (G : Gx) : Nat → Nat := G.2.2.2.2.2.1
abbrev gV (G : Gx) : Nat → Nat := G.2.2.2.2.2.2
abbrev tyW (G : Gx) : List (ClassId × FieldType) := [(gI G, .int), (gG G, .array .int)]
def nestWs : List Cond := [.methodLinkNest RX7 9 yX6_init RX7, .methodLinkNest RX7 24 yX5_init RX7, .methodLinkNest RX7 31 yX4_init RX7, .methodLinkNest RX7 38 yX3_init RX7, .methodLinkNest RX5 19 yX7_put RX7, .methodLinkNest RX6 40 yX7_copy RX7, .methodLinkNest RX5 31 yX7_at RX7, .methodLinkNest RX6 65 yX7_put RX7, .methodLinkNest RX6 53 yX7_at RX7, .methodLinkNest RX6 57 yX7_has RX7, .methodLinkNest RX6 109 yX7_onlyOne RX7, .methodLinkNest RX6 139 yX7_bitAt RX7, .methodLinkNest RX0 27 yX7_has RX7, .methodLinkNest RX0 39 yX7_onlyOne RX7, .methodLinkNest RX3 30 yX7_put RX7, .methodLinkNest RX3 58 yX7_has RX7, .methodLinkNest RX3 62 yX7_at RX7, .methodLinkNest RX1 44 yX7_has RX7, .methodLinkNest RX4 23 yX7_at RX7, .methodLinkNest RX4 27 yX7_has RX7, .methodLinkNest RX2 32 yX7_has RX7, .methodLinkNest RX4 19 yX7_put RX7, .fieldLinkNest RX0 9 RX7 "FEWEST_FIRST" "[I" RX7, .fieldLinkNest RX1 52 RX7 "FEWEST_FIRST" "[I" RX7]
def strWs : List (Nat × String × Nat) := [(56, "k999;", 0), (58, "9999;", 1), (60, "99;", 2), (62, "9;", 3), (64, "", 4), (66, "bsfctm", 5)]
def Cst (G : Gx) (A : Nat → Prop) (U : State) (H : Heap) : Prop :=
  va_Z RX7 "FEWEST_FIRST" "[I" (.ref (gT G)) A U H ∧ va_T .int (gT G) 64 (fun j => .int (ffT j)) A U H ∧
  va_Z "java/lang/String" "COMPACT_STRINGS" "Z" (.int 1) A U H ∧ va_Zq "jdk/internal/util/Preconditions" "SIOOBE_FORMATTER" "Ljava/util/function/BiFunction;" A U H ∧
  vk_S 6 strLen strByt (gK G) (gV G) A U H
def Amb (G : Gx) (U : State) : Prop := va_K (gD G) vwCl (tyW G) U ∧ (∀ w ∈ nestWs, va_Nw w U) ∧ Cst G (gB G) U U.heap ∧ ∀ q ∈ strWs, vk_R RX5 q.1 q.2.1 (gK G q.2.2) U
theorem Cst.moved {G : Gx} {A : Nat → Prop} {u U : State} {H : Heap} (hvm : u.vm.Alike U.vm) (h : Cst G A u H) : Cst G A U H :=
  ⟨va_Z.moved hvm h.1, va_T.moved hvm h.2.1, va_Z.moved hvm h.2.2.1, va_Zq.moved hvm h.2.2.2.1, vk_S.moved hvm h.2.2.2.2⟩
theorem Cst.kept {G : Gx} {A : Nat → Prop} {U : State} {H H1 : Heap} (h : Cst G A U H) (hq : ∀ a : Nat, a < H.size → ¬ A a → H1[a]? = H[a]?) : Cst G A U H1 :=
  ⟨h.1.kept hq, h.2.1.kept hq, h.2.2.1.kept hq, h.2.2.2.1.kept hq, h.2.2.2.2.kept hq⟩
theorem Cst.narrow {G : Gx} {A B : Nat → Prop} {U : State} {H : Heap} (h : Cst G A U H) (hAB : ∀ q, B q → A q) : Cst G B U H :=
  ⟨h.1.narrow hAB, h.2.1.narrow hAB, h.2.2.1.narrow hAB, h.2.2.2.1.narrow hAB, h.2.2.2.2.narrow hAB⟩
theorem nest_same {u U : State} (h : u.vm = U.vm) (hn : ∀ w ∈ nestWs, va_Nw w u) : ∀ w ∈ nestWs, va_Nw w U := by
  intro w hw
  exact va_Nw.same (List.all_eq_true.mp (show nestWs.all (fun w => w.onTables) = true by decide +kernel) w hw) h (hn w hw)
def isNestW : Cond → Bool
  | .methodLinkNest _ _ _ _ => true
  | .fieldLinkNest _ _ _ _ _ _ => true
  | _ => false
theorem nest_warm {s U : State} (hW : s.WarmedH U.vm) (hn : ∀ w ∈ nestWs, va_Nw w s) : ∀ w ∈ nestWs, va_Nw w U := by
  intro w hw
  have h1 : isNestW w = true := List.all_eq_true.mp (show nestWs.all isNestW = true by decide +kernel) w hw
  have h2 := hn w hw
  cases w <;> simp [isNestW] at h1
  · first | exact va_Nw.warmM hW h2 | exact va_Nw.warmF hW h2
  · first | exact va_Nw.warmM hW h2 | exact va_Nw.warmF hW h2
/-- the ambient facts at a callee's start, out of the caller's -/
theorem Amb.go {G : Gx} {s U : State} {H : Heap} {A : Nat → Prop} {locs : List Loc} (hE : Amb G s) (hAB : ∀ q, A q → gB G q) (hS : va_S A s.heap H locs) (hU : U.heap = H) (hW : s.WarmedH U.vm) : Amb G U := by
  obtain ⟨h1, h2, h3, h4⟩ := hE
  refine ⟨va_K.moved hW.alike h1, nest_warm hW h2, ?_, fun q hq => vk_R.warm hW (h4 q hq)⟩
  rw [hU]
  exact Cst.moved hW.alike (h3.kept (fun a ha hn => hS.2.1 a ha (fun z => hn (hAB a z))))
theorem Amb.blind {G : Gx} {U : State} (h : Amb G U) (a : Array Value) (g : JFrame) (mk : MethodId) : Amb G (U.calling g mk a) :=
  ⟨va_K.moved (u := U) (U := U.calling g mk a) (Vm.Alike.refl U.vm) h.1, nest_same (u := U) (U := U.calling g mk a) rfl h.2.1, Cst.moved (u := U) (U := U.calling g mk a) (Vm.Alike.refl U.vm) h.2.2.1, fun q hq => vk_R.same (u := U) (U := U.calling g mk a) rfl (h.2.2.2 q hq)⟩
/-- a world's addresses -/
def AW (W : va_W) : Nat → Prop := fun q => ∃ (k : Nat) (e : va_E), W[k]? = some (q, e)
def FQ (G : Gx) (A : Nat → Prop) (W : va_W) (r : Option Value) : Array Value → State → Outcome → State → Prop := fun _ st o t => (o = .returned r ∧ va_P (gD G) vwCl W t.heap) ∧ va_F A st t
def FP (G : Gx) (av : List Value) (W : va_W) : Array Value → State → Prop := va_Pc av (fun U => Amb G U ∧ va_P (gD G) vwCl W U.heap ∧ va_D (gB G) W)
/-- THE CONTRACT: from the world W with the arguments av the method answers r and leaves the world W' -/
def FC (l : Launch) (G : Gx) (y : MethodName) (ws : List Cond) (rm : Room) (av : List Value) (W W' : va_W) (r : Option Value) : Prop := Met l y ws rm (FP G av W) (FQ G (AW W) W' r) 0 0 (AW W)
theorem FP.blind {G : Gx} {av : List Value} {W : va_W} : FrameBlind (FP G av W) := fun a U g mk q => ⟨q.1, q.2.1.blind a g mk, q.2.2.1, q.2.2.2⟩
theorem fc_head {l : Launch} {G : Gx} {y : MethodName} {ws ws' : List Cond} {rm : Room} {av : List Value} {Wd W' : va_W} {r : Option Value} {cc : ByteArray} {maxL : Nat} {ret : Option FieldType} {C : String} {lv : List (Nat × Value)}
    (hy : plainName y.cls = true) (hw : ws = Cond.code y cc maxL ret :: ws') (hC : y.cls = C) (hlen : (lg_sl av).length ≤ maxL) (hlv : lv_args 0 av = lv)
    (body : ∀ (p : Program) (e : Env) (s : State) (m : MethodId) (below : List Frame) (meth : Method) (c : Code) (ls : Array Slot) (A : Nat → Prop), p.tables.exec = Jvm.exec → c.code = cc → meth.sig.returnType = ret → c.maxLocals = maxL → s.vm.findClass C = some m.cls → (∀ w ∈ ws, w.before av.toArray s = true) → meth.locks = false → Amb G s → va_P (gD G) vwCl Wd s.heap → va_D A Wd → (∀ q, A q → gB G q) → va_S A s.heap s.heap [] → lv_has ls maxL lv →
      W p l e (headSpec ws rm).room s m av.toArray below meth c s.heap [] 0 0 (MQ below (FQ G A W' r) av.toArray s 0 0 A) (F0 m 0 ls [])) : FC l G y ws rm av Wd W' r := by
  refine Met.ofW (cc := cc) (maxL := maxL) (ret := ret) hy hw ?_
  intro p e s m args below meth c s₁ B hml hv
  obtain ⟨rfl, hE, hP, hD⟩ := hv
  rw [lg_entry_eq]
  subst hlv
  exact body p e s m below meth c _ (AW Wd) B.exec B.bytes B.returns hml (hC ▸ findClass_of_methodNamed B.named) (atoms_spec (ws := ws) B.pre) B.notSynchronized hE hP ⟨hD.1, fun k q hk => ⟨k, q.2, hk⟩⟩ (fun q ⟨k, ee, hk⟩ => hD.2 k (q, ee) hk) va_S.rf (lv_entry av hlen)
section FRZ
variable {p : Program} {l : Launch} {e : Env} {R : Room} {s : State} {m : MethodId} {args : Array Value} {below : List Frame} {meth : Method} {c : Code} {H : Heap} {locs : List Loc} {cells slots : Nat} {Q : State → Prop} {G : Gx} {A : Nat → Prop}
variable {cc : ByteArray} {pc : Nat} {ls : Array Slot} {rest : List Value} {Wa Wa' : va_W} {a : Nat}
theorem fc_reti {r x : Int32} {W' : va_W} (hx : p.tables.exec = Jvm.exec) (hb : c.code = cc) (hr : meth.sig.returnType = some .int) (hlocks : meth.locks = false) (hP : va_P (gD G) vwCl Wa H) (hS : va_S A s.heap H locs) (hdg : decode cc pc = .ok (.ireturn, 1)) (hrx : x = r) (hW : Wa = W') :
    W p l e R s m args below meth c H locs 0 0 (MQ below (FQ G A W' (some (.int r))) args s 0 0 A) (F0 m pc ls [.int x]) := by
  subst hrx; subst hW
  exact W.iret hx hb hr (fun t ht hWm => ⟨⟨rfl, by rw [ht]; exact hP⟩, hS.F ht⟩) hS.2.2 hdg hlocks
theorem fc_retz {r x : Int32} {W' : va_W} {ty : FieldType} (hx : p.tables.exec = Jvm.exec) (hb : c.code = cc) (hr : meth.sig.returnType = some ty) (hlocks : meth.locks = false) (hP : va_P (gD G) vwCl Wa H) (hS : va_S A s.heap H locs) (hdg : decode cc pc = .ok (.ireturn, 1)) (hn : narrow ty (.int x) = .int x) (hrx : x = r) (hW : Wa = W') :
    W p l e R s m args below meth c H locs 0 0 (MQ below (FQ G A W' (some (.int r))) args s 0 0 A) (F0 m pc ls [.int x]) := by
  subst hrx; subst hW
  exact W.zret hx hb hr hn (fun t ht hWm => ⟨⟨rfl, by rw [ht]; exact hP⟩, hS.F ht⟩) hS.2.2 hdg hlocks
theorem fc_retl {r x : Int64} {W' : va_W} (hx : p.tables.exec = Jvm.exec) (hb : c.code = cc) (hr : meth.sig.returnType = some .long) (hlocks : meth.locks = false) (hP : va_P (gD G) vwCl Wa H) (hS : va_S A s.heap H locs) (hdg : decode cc pc = .ok (.lreturn, 1)) (hrx : x = r) (hW : Wa = W') :
    W p l e R s m args below meth c H locs 0 0 (MQ below (FQ G A W' (some (.long r))) args s 0 0 A) (F0 m pc ls [.long x]) := by
  subst hrx; subst hW
  exact W.lret hx hb hr (fun t ht hWm => ⟨⟨rfl, by rw [ht]; exact hP⟩, hS.F ht⟩) hS.2.2 hdg hlocks
theorem fc_retv {W' : va_W} (hx : p.tables.exec = Jvm.exec) (hb : c.code = cc) (hr : meth.sig.returnType = none) (hlocks : meth.locks = false) (hP : va_P (gD G) vwCl Wa H) (hS : va_S A s.heap H locs) (hdg : decode cc pc = .ok (.return_, 1)) (hW : Wa = W') :
    W p l e R s m args below meth c H locs 0 0 (MQ below (FQ G A W' none) args s 0 0 A) (F0 m pc ls []) := by
  subst hW
  exact W.vret hx hb hr (fun t ht hWm => ⟨⟨rfl, by rw [ht]; exact hP⟩, hS.F ht⟩) hS.2.2 hdg hlocks
theorem fc_reta {r x : Nat} {W' : va_W} {nm : String} (hx : p.tables.exec = Jvm.exec) (hb : c.code = cc) (hr : meth.sig.returnType = some (.object nm)) (hlocks : meth.locks = false) (hP : va_P (gD G) vwCl Wa H) (hS : va_S A s.heap H locs) (hdg : decode cc pc = .ok (.areturn, 1)) (hrx : x = r) (hW : Wa = W') :
    W p l e R s m args below meth c H locs 0 0 (MQ below (FQ G A W' (some (.ref r))) args s 0 0 A) (F0 m pc ls [.ref x]) := by
  subst hrx; subst hW
  exact W.aret hx hb hr (Or.inl ⟨_, rfl⟩) (Or.inr ⟨_, rfl⟩) (fun t ht hWm => ⟨⟨rfl, by rw [ht]; exact hP⟩, hS.F ht⟩) hS.2.2 hdg hlocks
theorem fc_get (hx : p.tables.exec = Jvm.exec) (hb : c.code = cc) {own ref C : String} {T : u_T} {N ci index : Nat} (hw : ∀ w ∈ u_ws C T N, w.before args s = true) (hown : s.vm.findClass own = some m.cls) (hE : Amb G s) (hP : va_P (gD G) vwCl Wa H) (q0 : Nat) {fs : List Value} (he : Wa[q0]? = some (a, .inr (ci, fs))) (hc : vwCl[ci]? = some (C, T, N)) (k : Nat) (hk : k < N) (hlink : (Cond.fieldLink own index ref (T k).2.1 (T k).2.2.1).before args s = true) (hsame : ∀ x, s.fieldFound? (T k).1 (T k).2.1 (T k).2.2.1 = some x → s.fieldFound? ref (T k).2.1 (T k).2.2.1 = some x) {v : Value} (hv : fs[k]? = some v) (hdg : decode cc pc = .ok (.getfield index, 3))
    (kk : W p l e R s m args below meth c H locs cells slots Q (F0 m (pc + 3) ls (v :: rest))) : W p l e R s m args below meth c H locs cells slots Q (F0 m pc ls (.ref a :: rest)) :=
  va_get hx hb hw (fun _ h => h) hown hE.1 hP q0 he hc k hk hlink hsame hv hdg kk
theorem fc_put (hx : p.tables.exec = Jvm.exec) (hb : c.code = cc) {own ref C : String} {T : u_T} {N ci index : Nat} (hw : ∀ w ∈ u_ws C T N, w.before args s = true) (ty0 : Nat → FieldType) (hty : ∀ k, k < N → parseFieldDescriptor (T k).2.2.1 = some (ty0 k)) (hnm : ∀ a, a < N → ∀ b, b < N → a ≠ b → (T a).2.1 ≠ (T b).2.1) (hown : s.vm.findClass own = some m.cls) (hE : Amb G s) (hP : va_P (gD G) vwCl Wa H) (hD : va_D A Wa) (hS : va_S A s.heap H locs) (q0 : Nat) {fs : List Value} (he : Wa[q0]? = some (a, .inr (ci, fs))) (hc : vwCl[ci]? = some (C, T, N)) (k : Nat) (hk : k < N) (hlink : (Cond.fieldLink own index ref (T k).2.1 (T k).2.2.1).before args s = true) (hsame : ∀ x, s.fieldFound? (T k).1 (T k).2.1 (T k).2.2.1 = some x → s.fieldFound? ref (T k).2.1 (T k).2.2.1 = some x) (hfin : (T k).2.2.2 = false) {v : Value} (hn : narrow (ty0 k) v = v) (hfit : fits (ty0 k) v = true) (hl : k < fs.length) (hdg : decode cc pc = .ok (.putfield index, 3)) (hW : Wa.set q0 (a, .inr (ci, fs.set k v)) = Wa')
    (kk : ∀ (H1 : Heap) (locs1 : List Loc), va_P (gD G) vwCl Wa' H1 → va_D A Wa' → va_S A s.heap H1 locs1 → W p l e R s m args below meth c H1 locs1 cells slots Q (F0 m (pc + 3) ls rest)) : W p l e R s m args below meth c H locs cells slots Q (F0 m pc ls (v :: .ref a :: rest)) := by
  subst hW
  exact va_put hx hb hw (fun _ h => h) ty0 hty hnm hown hE.1 hP hD hS q0 he hc k hk hlink hsame hfin (hty k hk) hn hfit hl hdg kk
theorem fc_iald (hx : p.tables.exec = Jvm.exec) (hb : c.code = cc) (hE : Amb G s) (hP : va_P (gD G) vwCl Wa H) (q0 : Nat) {n : Nat} {f : Nat → Int32} (ha : Wa[q0]? = some (a, .inl (gI G, n, .inl f))) {i : Int32} (hin : vp_in i n) (hdg : decode cc pc = .ok (.iaload, 1))
    (kk : W p l e R s m args below meth c H locs cells slots Q (F0 m (pc + 1) ls (.int (f i.toNatClampNeg) :: rest))) : W p l e R s m args below meth c H locs cells slots Q (F0 m pc ls (.int i :: .ref a :: rest)) :=
  va_iald hx hb hE.1 hP q0 0 ha rfl hin hdg kk
theorem fc_iast (hx : p.tables.exec = Jvm.exec) (hb : c.code = cc) (hE : Amb G s) (hP : va_P (gD G) vwCl Wa H) (hD : va_D A Wa) (hS : va_S A s.heap H locs) (q0 : Nat) {n : Nat} {f : Nat → Int32} (ha : Wa[q0]? = some (a, .inl (gI G, n, .inl f))) {i : Int32} {x : Int32} (hin : vp_in i n) (hdg : decode cc pc = .ok (.iastore, 1)) (hW : Wa.set q0 (a, .inl (gI G, n, .inl (upd f i.toNatClampNeg x))) = Wa')
    (kk : ∀ (H1 : Heap) (locs1 : List Loc), va_P (gD G) vwCl Wa' H1 → va_D A Wa' → va_S A s.heap H1 locs1 → W p l e R s m args below meth c H1 locs1 cells slots Q (F0 m (pc + 1) ls rest)) : W p l e R s m args below meth c H locs cells slots Q (F0 m pc ls (.int x :: .int i :: .ref a :: rest)) := by
  subst hW
  exact va_iast hx hb hE.1 hP hD hS q0 0 ha rfl hin hdg kk
theorem fc_alen (hx : p.tables.exec = Jvm.exec) (hb : c.code = cc) (hE : Amb G s) (hP : va_P (gD G) vwCl Wa H) (q0 : Nat) {n : Nat} {f : Nat → Int32} (ha : Wa[q0]? = some (a, .inl (gI G, n, .inl f))) (hdg : decode cc pc = .ok (.arraylength, 1))
    (kk : W p l e R s m args below meth c H locs cells slots Q (F0 m (pc + 1) ls (.int (Int32.ofNat n) :: rest))) : W p l e R s m args below meth c H locs cells slots Q (F0 m pc ls (.ref a :: rest)) :=
  va_alen hx hb hE.1 hP q0 0 ha (ty := .int) rfl rfl hdg kk
/-- a row of a grid -/
theorem fc_aald (hx : p.tables.exec = Jvm.exec) (hb : c.code = cc) (hE : Amb G s) (hP : va_P (gD G) vwCl Wa H) (q0 : Nat) {n : Nat} {f : Nat → Option Nat} (ha : Wa[q0]? = some (a, .inl (gG G, n, .inr (.inr (.inr (.inr f)))))) {i : Int32} {b : Nat} (hin : vp_in i n) (hf : f i.toNatClampNeg = some b) (hdg : decode cc pc = .ok (.aaload, 1))
    (kk : W p l e R s m args below meth c H locs cells slots Q (F0 m (pc + 1) ls (.ref b :: rest))) : W p l e R s m args below meth c H locs cells slots Q (F0 m pc ls (.int i :: .ref a :: rest)) := by
  have hlt : i.toNatClampNeg < n := Nat.not_le.mp fun q => hin (Or.inr q)
  exact W.aald (v := .ref b) (ty := .array .int) hx hb (hP q0 _ ha) ((hE.1.2 1 _ rfl).1 n (fun j => va_rf (f j))) rfl (fun q => by cases q) (by show ¬ (i < 0 ∨ (arrV _ _ _).slots.size ≤ _); rw [arrV_size]; exact hin) (by show (arrV _ _ _).slots[_]? = _; rw [arrV_read _ _ hlt, hf]; rfl) rfl rfl hdg kk
/-- the fixed table -/
theorem fc_gets (hx : p.tables.exec = Jvm.exec) (hb : c.code = cc) {own : String} {index : Nat} (hE : Amb G s) (hAB : ∀ q, A q → gB G q) (hS : va_S A s.heap H locs) (hown : s.vm.findClass own = some m.cls) (hlink : va_Nw (.fieldLinkNest own index RX7 "FEWEST_FIRST" "[I" RX7) s) (hdg : decode cc pc = .ok (.getstatic index, 3))
    (kk : W p l e R s m args below meth c H locs cells slots Q (F0 m (pc + 3) ls (.ref (gT G) :: rest))) : W p l e R s m args below meth c H locs cells slots Q (F0 m pc ls rest) :=
  va_getsN hx hb ((hE.2.2.1.narrow hAB).1) hS hown (va_Nw.use rfl hlink) (fun _ h => h) hdg kk
theorem fc_ti (hx : p.tables.exec = Jvm.exec) (hb : c.code = cc) (hE : Amb G s) (hAB : ∀ q, A q → gB G q) (hS : va_S A s.heap H locs) {i : Int32} (hin : vp_in i 64) (hdg : decode cc pc = .ok (.iaload, 1))
    (kk : W p l e R s m args below meth c H locs cells slots Q (F0 m (pc + 1) ls (.int (ffT i.toNatClampNeg) :: rest))) : W p l e R s m args below meth c H locs cells slots Q (F0 m pc ls (.int i :: .ref (gT G) :: rest)) :=
  va_ti hx hb ((hE.2.2.1.narrow hAB).2.1) hS hin rfl hdg kk
theorem fc_tlen (hx : p.tables.exec = Jvm.exec) (hb : c.code = cc) (hE : Amb G s) (hAB : ∀ q, A q → gB G q) (hS : va_S A s.heap H locs) (hdg : decode cc pc = .ok (.arraylength, 1))
    (kk : W p l e R s m args below meth c H locs cells slots Q (F0 m (pc + 1) ls (.int 64 :: rest))) : W p l e R s m args below meth c H locs cells slots Q (F0 m pc ls (.ref (gT G) :: rest)) :=
  va_tlen hx hb ((hE.2.2.1.narrow hAB).2.1) hS rfl hdg kk
end FRZ
/-! calls -/
def setAll : va_W → List Nat → va_W → va_W
  | Wa, i :: is, w :: ws => (setAll Wa is ws).set i w
  | Wa, _, _ => Wa
theorem setAll_length : ∀ (is : List Nat) (Wa W1 : va_W), (setAll Wa is W1).length = Wa.length
  | [], Wa, W1 => by cases W1 <;> rfl
  | i :: is, Wa, [] => rfl
  | i :: is, Wa, w :: ws => by simp [setAll, setAll_length is Wa ws]
/-- each place of the new world: a place of the callee's, or as before -/
theorem setAll_get : ∀ (is : List Nat) (Wa W1 : va_W) (k : Nat) (q : Nat × va_E), (setAll Wa is W1)[k]? = some q → (∃ j : Nat, is[j]? = some k ∧ W1[j]? = some q) ∨ ((∀ j : Nat, is[j]? = some k → W1.length ≤ j) ∧ Wa[k]? = some q)
  | [], Wa, W1, k, q, h => Or.inr ⟨fun j hj => by simp at hj, by cases W1 <;> exact h⟩
  | i :: is, Wa, [], k, q, h => Or.inr ⟨fun j _ => Nat.zero_le j, h⟩
  | i :: is, Wa, w :: ws, k, q, h => by
    by_cases hki : i = k
    · subst hki
      refine Or.inl ⟨0, rfl, ?_⟩
      have hl := (List.getElem?_eq_some_iff.mp h).1
      rw [setAll, List.getElem?_set_self (by simpa [setAll] using hl)] at h
      exact h
    · rw [setAll, List.getElem?_set_ne hki] at h
      rcases setAll_get is Wa ws k q h with ⟨j, h1, h2⟩ | ⟨h1, h2⟩
      · exact Or.inl ⟨j + 1, h1, h2⟩
      · refine Or.inr ⟨fun j hj => ?_, h2⟩
        cases j with
        | zero => exact absurd (Option.some.inj hj) hki
        | succ j => have := h1 j hj; simpa using this
theorem setAll_fst : ∀ (is : List Nat) (Wa Wc W1 : va_W), is.map (fun i => Wa[i]?) = Wc.map some → W1.map Prod.fst = Wc.map Prod.fst → ∀ k : Nat, ((setAll Wa is W1)[k]?).map Prod.fst = (Wa[k]?).map Prod.fst
  | [], Wa, Wc, W1, _, _, k => by cases W1 <;> rfl
  | i :: is, Wa, [], W1, h, _, k => by simp at h
  | i :: is, Wa, wc :: Wc, [], _, h2, k => by simp at h2
  | i :: is, Wa, wc :: Wc, w :: ws, h, h2, k => by
    rw [List.map_cons, List.map_cons, List.cons.injEq] at h h2
    have ih := setAll_fst is Wa Wc ws h.2 h2.2 k
    by_cases hki : i = k
    · subst hki
      have hl : i < Wa.length := (List.getElem?_eq_some_iff.mp h.1).1
      rw [setAll, List.getElem?_set_self (by rw [setAll_length]; exact hl), h.1]
      simp [h2.1]
    · rw [setAll, List.getElem?_set_ne hki]
      exact ih
theorem fc_cut {G : Gx} {A : Nat → Prop} {Wa Wc : va_W} {H : Heap} (hP : va_P (gD G) vwCl Wa H) (hD : va_D A Wa) (isC : List Nat) (hnd : va_nd isC = true) (hC : isC.map (fun i => Wa[i]?) = Wc.map some) : va_P (gD G) vwCl Wc H ∧ va_D A Wc := by
  refine ⟨fun k q hk => ?_, hD.sub isC hnd hC⟩
  have h1 : (isC.map (fun i => Wa[i]?))[k]? = some (some q) := by rw [hC, List.getElem?_map, hk]; rfl
  rw [List.getElem?_map] at h1
  cases hi : isC[k]? with
  | none => rw [hi] at h1; cases h1
  | some i => rw [hi] at h1; exact hP i q (Option.some.inj h1)
theorem fc_join {G : Gx} {A : Nat → Prop} {Wa Wc W1 : va_W} {H H1 : Heap} (hP : va_P (gD G) vwCl Wa H) (hD : va_D A Wa) (isC : List Nat) (hC : isC.map (fun i => Wa[i]?) = Wc.map some) (hn : W1.map Prod.fst = Wc.map Prod.fst) (hP1 : va_P (gD G) vwCl W1 H1) (hk : ∀ q : Nat, q < H.size → ¬ AW Wc q → H1[q]? = H[q]?) : va_P (gD G) vwCl (setAll Wa isC W1) H1 ∧ va_D A (setAll Wa isC W1) := by
  have hlen : W1.length = Wc.length := by have := congrArg List.length hn; simpa using this
  have hlen2 : isC.length = Wc.length := by have := congrArg List.length hC; simpa using this
  have hf := setAll_fst isC Wa Wc W1 hC hn
  have back : ∀ (k : Nat) (q : Nat × va_E), (setAll Wa isC W1)[k]? = some q → ∃ q0, Wa[k]? = some q0 ∧ q0.1 = q.1 := by
    intro k q hq
    have h1 := hf k
    rw [hq] at h1
    cases h2 : Wa[k]? with
    | none => rw [h2] at h1; cases h1
    | some q0 => rw [h2] at h1; exact ⟨q0, rfl, (Option.some.inj h1).symm⟩
  refine ⟨fun k q hq => ?_, fun i j x y hi hj hxy => ?_, fun k q hq => ?_⟩
  · rcases setAll_get isC Wa W1 k q hq with ⟨j, h1, h2⟩ | ⟨h1, h2⟩
    · exact hP1 j q h2
    · refine (hP k q h2).kept (hk q.1 (hP k q h2).lt ?_)
      rintro ⟨j, ee, hj⟩
      have h3 : (isC.map (fun i => Wa[i]?))[j]? = some (some (q.1, ee)) := by rw [hC, List.getElem?_map, hj]; rfl
      rw [List.getElem?_map] at h3
      cases hi : isC[j]? with
      | none => rw [hi] at h3; cases h3
      | some i =>
        rw [hi] at h3
        have e := hD.1 i k (q.1, ee) q (Option.some.inj h3) h2 rfl
        subst e
        have := h1 j hi
        have hj2 := (List.getElem?_eq_some_iff.mp hj).1
        omega
  · obtain ⟨x0, h1, h2⟩ := back i x hi
    obtain ⟨y0, h3, h4⟩ := back j y hj
    exact hD.1 i j x0 y0 h1 h3 (h2.trans (hxy.trans h4.symm))
  · obtain ⟨q0, h1, h2⟩ := back k q hq
    rw [← h2]
    exact hD.2 k q0 h1
section FRC
variable {p : Program} {l : Launch} {e : Env} {R : Room} {s : State} {m : MethodId} {args : Array Value} {below : List Frame} {meth : Method} {c : Code} {H : Heap} {locs : List Loc} {cells slots : Nat} {Q : State → Prop} {G : Gx} {A : Nat → Prop}
variable {cc bytes : ByteArray} {pc : Nat} {ls : Array Slot} {rest st0 As : List Value} {Wa Wa' Wc W1 : va_W} {b : Nat} {y : MethodName} {ws Ts : List Cond} {rm : Room} {maxL nL n index : Nat} {ret : Option FieldType} {own C host : String} {r : Option Value} {av : Array Value}
theorem fc_run (hr : va_Run p l e R s m args below meth c H locs cells slots 0 0 (F0 m pc ls st0) rest (FQ G (AW Wc) W1 r av) (AW Wc)) (hP : va_P (gD G) vwCl Wa H) (hD : va_D A Wa) (hS : va_S A s.heap H locs) (isC : List Nat) (hnd : va_nd isC = true) (hC : isC.map (fun i => Wa[i]?) = Wc.map some) (hn : W1.map Prod.fst = Wc.map Prod.fst) (hW : setAll Wa isC W1 = Wa') {st1 : List Value} (hst1 : r.toList ++ rest = st1)
    (kk : ∀ (H1 : Heap) (locs1 : List Loc), va_P (gD G) vwCl Wa' H1 → va_D A Wa' → va_S A s.heap H1 locs1 → W p l e R s m args below meth c H1 locs1 cells slots Q (F0 m (pc + 3) ls st1)) : W p l e R s m args below meth c H locs cells slots Q (F0 m pc ls st0) := by
  subst hW
  subst hst1
  have hDc := (fc_cut hP hD isC hnd hC).2
  have hAc : ∀ q, AW Wc q → A q := fun q ⟨k, ee, hk⟩ => hDc.2 k (q, ee) hk
  intro T hT X
  obtain ⟨v, st₀, t, T', L, h0, X', hL, e1, e2, ⟨⟨hv, hp⟩, hz, hk⟩, st⟩ := hr T hT X
  cases hv
  rw [h0] at hz hk
  have hk1 : ∀ q : Nat, q < H.size → ¬ AW Wc q → T'.heap[q]? = H[q]? := fun q h1 h2 => by rw [e1]; exact hk q h1 h2
  obtain ⟨hP', hD'⟩ := fc_join hP hD isC hC hn (by rw [e1]; exact hp) hk1
  obtain ⟨t2, a1, b1⟩ := kk T'.heap (locs ++ L) hP' hD'
    ⟨Nat.le_trans hS.1 (by rw [e1]; exact hz), fun q h1 h2 => by rw [hk1 q (Nat.lt_of_lt_of_le h1 hS.1) (fun z => h2 (hAc q z))]; exact hS.2.1 q h1 h2, fun q hq => by
      rcases List.mem_append.mp hq with h | h
      · exact hS.2.2 q h
      · exact hAc _ (hL q h)⟩ T' rfl X'
  exact ⟨t2, st t2 a1, b1⟩
theorem fc_pre (hE : Amb G s) (hAB : ∀ q, A q → gB G q) (hP : va_P (gD G) vwCl Wc H) (hD : va_D A Wc) (hS : va_S A s.heap H locs) (L : List Value) : ∀ U : State, U.heap = H → s.WarmedH U.vm → FP G L Wc L.toArray U := fun U hU hWm => ⟨rfl, hE.go hAB hS hU hWm, by rw [hU]; exact hP, hD.weaken (fun _ q _ h => hAB q.1 h)⟩
/-- a virtual call -/
theorem fc_callV (S : CallFix p m c cc nL s args Ts own) (hM : FC l G y ws rm (.ref b :: As) Wc W1 r) (cw : CallW R s args own C index y bytes maxL ret ws rm 0 0 n) (hE : Amb G s) (hAB : ∀ q, A q → gB G q) (hP : va_P (gD G) vwCl Wa H) (hD : va_D A Wa) (hS : va_S A s.heap H locs) (isC : List Nat) (hnd : va_nd isC = true) (hC : isC.map (fun i => Wa[i]?) = Wc.map some)
    (hrecv : ∃ cell : Cell, H[b]? = some cell ∧ cell.vm.isStatics = false ∧ s.vm.findClass C = some cell.cls) (hn : W1.map Prod.fst = Wc.map Prod.fst) (hW : setAll Wa isC W1 = Wa') {st1 : List Value} (hst1 : r.toList ++ rest = st1) (hAs : As.length = n) (hsize : ls.size = nL) (hst : st0 = As.reverse ++ .ref b :: rest) (hroom : (rest.map fun v => v.category).sum ≤ 8) (hdg : decode cc pc = .ok (.invokevirtual index, 3)) (hf : cells + 0 ≤ R.cells ∧ slots + 0 ≤ R.slots)
    (kk : ∀ (H1 : Heap) (locs1 : List Loc), va_P (gD G) vwCl Wa' H1 → va_D A Wa' → va_S A s.heap H1 locs1 → W p l e R s m args below meth c H1 locs1 cells slots Q (F0 m (pc + 3) ls st1)) : W p l e R s m args below meth c H locs cells slots Q (F0 m pc ls st0) := by
  obtain ⟨hPc, hDc⟩ := fc_cut hP hD isC hnd hC
  exact fc_run (va_runV (g := F0 m pc ls st0) (As := As) (rest := rest) S hM cw ⟨FP.blind, hrecv, fc_pre hE hAB hPc hDc hS (.ref b :: As)⟩ rfl hAs hsize hst (lv_room hroom) hdg hf) hP hD hS isC hnd hC hn hW hst1 kk
/-- a static call -/
theorem fc_callS (S : CallFix p m c cc nL s args Ts own) (hM : FC l G y ws rm As Wc W1 r) (cw : CallB R s args own index y bytes maxL ret ws rm 0 0 n ∧ (Cond.static y).before args s = true) (hE : Amb G s) (hAB : ∀ q, A q → gB G q) (hP : va_P (gD G) vwCl Wa H) (hD : va_D A Wa) (hS : va_S A s.heap H locs) (isC : List Nat) (hnd : va_nd isC = true) (hC : isC.map (fun i => Wa[i]?) = Wc.map some)
    (hn : W1.map Prod.fst = Wc.map Prod.fst) (hW : setAll Wa isC W1 = Wa') {st1 : List Value} (hst1 : r.toList ++ rest = st1) (hAs : As.length = n) (hsize : ls.size = nL) (hst : st0 = As.reverse ++ rest) (hroom : (rest.map fun v => v.category).sum ≤ 8) (hdg : decode cc pc = .ok (.invokestatic index, 3)) (hf : cells + 0 ≤ R.cells ∧ slots + 0 ≤ R.slots)
    (kk : ∀ (H1 : Heap) (locs1 : List Loc), va_P (gD G) vwCl Wa' H1 → va_D A Wa' → va_S A s.heap H1 locs1 → W p l e R s m args below meth c H1 locs1 cells slots Q (F0 m (pc + 3) ls st1)) : W p l e R s m args below meth c H locs cells slots Q (F0 m pc ls st0) := by
  obtain ⟨hPc, hDc⟩ := fc_cut hP hD isC hnd hC
  exact fc_run (va_runS (g := F0 m pc ls st0) (As := As) (rest := rest) S hM cw ⟨FP.blind, fc_pre hE hAB hPc hDc hS As⟩ rfl hAs hsize hst (lv_room hroom) hdg hf) hP hD hS isC hnd hC hn hW hst1 kk
/-- a call of a nest mate's own static method -/
theorem fc_callN (S : CallFix p m c cc nL s args Ts own) (hM : FC l G y ws rm As Wc W1 r) (cw : va_CN R s args own index y host bytes maxL ret ws rm 0 0 n ∧ (Cond.static y).before args s = true ∧ True) (hE : Amb G s) (hAB : ∀ q, A q → gB G q) (hP : va_P (gD G) vwCl Wa H) (hD : va_D A Wa) (hS : va_S A s.heap H locs) (isC : List Nat) (hnd : va_nd isC = true) (hC : isC.map (fun i => Wa[i]?) = Wc.map some)
    (hn : W1.map Prod.fst = Wc.map Prod.fst) (hW : setAll Wa isC W1 = Wa') {st1 : List Value} (hst1 : r.toList ++ rest = st1) (hAs : As.length = n) (hsize : ls.size = nL) (hst : st0 = As.reverse ++ rest) (hroom : (rest.map fun v => v.category).sum ≤ 8) (hdg : decode cc pc = .ok (.invokestatic index, 3)) (hf : cells + 0 ≤ R.cells ∧ slots + 0 ≤ R.slots)
    (kk : ∀ (H1 : Heap) (locs1 : List Loc), va_P (gD G) vwCl Wa' H1 → va_D A Wa' → va_S A s.heap H1 locs1 → W p l e R s m args below meth c H1 locs1 cells slots Q (F0 m (pc + 3) ls st1)) : W p l e R s m args below meth c H locs cells slots Q (F0 m pc ls st0) := by
  obtain ⟨hPc, hDc⟩ := fc_cut hP hD isC hnd hC
  exact fc_run (va_runSN (g := F0 m pc ls st0) (As := As) (rest := rest) S hM cw ⟨FP.blind, fc_pre hE hAB hPc hDc hS As⟩ rfl hAs hsize hst (lv_room hroom) hdg hf) hP hD hS isC hnd hC hn hW hst1 kk
end FRC

/-! worlds: a valley (8 cells), the text, the row, the pairs (2 each), the whole object (32), the reference (25), an array alone -/
def aW (G : Gx) (q N : Nat) (f : Nat → Int32) : va_W := [(q, .inl (gI G, N, .inl f))]
def vW (G : Gx) (a : Nat → Nat) (v : St) : va_W := [(a 0, .inr (3, [.int (v 7 0), .int (v 7 1), .ref (a 1), .ref (a 2), .ref (a 3), .ref (a 4), .int (v 7 2), .int (v 7 3), .ref (a 5), .ref (a 6), .ref (a 7), .int (v 7 4)])), (a 1, .inl (gI G, 8, .inl (v 0))), (a 2, .inl (gI G, 8, .inl (v 1))), (a 3, .inl (gI G, 8, .inl (v 2))), (a 4, .inl (gI G, 8, .inl (v 3))), (a 5, .inl (gI G, 5, .inl (v 4))), (a 6, .inl (gI G, 5, .inl (v 5))), (a 7, .inl (gI G, 5, .inl (v 6)))]
def pW (G : Gx) (a : Nat → Nat) (v : St) : va_W := [(a 0, .inr (0, [.ref (a 1), .int (v 1 0)])), (a 1, .inl (gI G, 5, .inl (v 0)))]
def rW (G : Gx) (a : Nat → Nat) (v : St) : va_W := [(a 0, .inr (1, [.ref (a 1), .int (v 1 0)])), (a 1, .inl (gI G, 16, .inl (v 0)))]
def tW (G : Gx) (a : Nat → Nat) (v : St) : va_W := [(a 0, .inr (2, [.ref (a 1), .int (v 1 0)])), (a 1, .inl (gI G, 96, .inl (v 0)))]
def cW (G : Gx) (a : Nat → Nat) (S : Nat → St) : va_W := (a 0, .inr (4, [.ref (a 1), .ref (a 9), .ref (a 17), .int (S 6 1 0), .ref (a 25), .ref (a 27), .ref (a 29), .ref (a 31)])) :: (vW G (sh 1 a) (S 0) ++ (vW G (sh 9 a) (S 1) ++ (vW G (sh 17 a) (S 2) ++ (tW G (sh 25 a) (S 3) ++ (rW G (sh 27 a) (S 4) ++ (pW G (sh 29 a) (S 5) ++ [(a 31, .inl (gI G, 7, .inl (S 6 0)))]))))))
def mW (G : Gx) (a : Nat → Nat) (v : St) : va_W := [(a 0, .inr (5, [.ref (a 1), .ref (a 2), .ref (a 3), .ref (a 4), .ref (a 5), .ref (a 6), .ref (a 7), .ref (a 8), .ref (a 9), .ref (a 10), .int (v 23 0), .int (v 23 1), .int (v 23 2), .ref (a 11), .ref (a 12), .ref (a 13), .ref (a 14), .int (v 23 3), .int (v 23 4), .int (v 23 5), .ref (a 15), .int (v 23 6), .int (v 23 7), .int (v 23 8), .ref (a 24), .ref (a 16), .int (v 23 9), .ref (a 17), .int (v 23 10)])),
  (a 1, .inl (gI G, 7, .inl (v 0))), (a 2, .inl (gI G, 8, .inl (v 1))), (a 3, .inl (gI G, 8, .inl (v 2))), (a 4, .inl (gI G, 8, .inl (v 3))), (a 5, .inl (gI G, 8, .inl (v 4))), (a 6, .inl (gI G, 8, .inl (v 5))), (a 7, .inl (gI G, 5, .inl (v 6))), (a 8, .inl (gI G, 5, .inl (v 7))), (a 9, .inl (gI G, 5, .inl (v 8))), (a 10, .inl (gI G, 5, .inl (v 9))), (a 11, .inl (gI G, 96, .inl (v 10))), (a 12, .inl (gI G, 48, .inl (v 11))), (a 13, .inl (gI G, 48, .inl (v 12))), (a 14, .inl (gI G, 144, .inl (v 13))), (a 15, .inl (gI G, 189, .inl (v 14))), (a 16, .inl (gI G, 16, .inl (v 15))), (a 17, .inl (gI G, 8, .inl (v 16))),
  (a 18, .inl (gI G, 256, .inl (v 17))), (a 19, .inl (gI G, 256, .inl (v 18))), (a 20, .inl (gI G, 256, .inl (v 19))), (a 21, .inl (gI G, 256, .inl (v 20))), (a 22, .inl (gI G, 256, .inl (v 21))), (a 23, .inl (gI G, 256, .inl (v 22))), (a 24, .inl (gG G, 6, .inr (.inr (.inr (.inr (fun i => if i < 6 then some (a (18 + i)) else none))))))]
/-- the lengths of the reference's arrays 0 .. 9 -/
def mLen (k : Nat) : Nat := [7, 8, 8, 8, 8, 8, 5, 5, 5, 5].getD k 0
theorem mW_at (G : Gx) (a : Nat → Nat) (v : St) {k : Nat} (h : k < 10) : (mW G a v)[1 + k]? = some (a (1 + k), .inl (gI G, mLen k, .inl (v k))) := by
  rcases (show k = 0 ∨ k = 1 ∨ k = 2 ∨ k = 3 ∨ k = 4 ∨ k = 5 ∨ k = 6 ∨ k = 7 ∨ k = 8 ∨ k = 9 by omega) with rfl | rfl | rfl | rfl | rfl | rfl | rfl | rfl | rfl | rfl <;> rfl
theorem mW_set (G : Gx) (a : Nat → Nat) (v : St) (g : Nat → Int32) {k : Nat} (h : k < 10) : (mW G a v).set (1 + k) (a (1 + k), .inl (gI G, mLen k, .inl g)) = mW G a (sA v k g) := by
  rcases (show k = 0 ∨ k = 1 ∨ k = 2 ∨ k = 3 ∨ k = 4 ∨ k = 5 ∨ k = 6 ∨ k = 7 ∨ k = 8 ∨ k = 9 by omega) with rfl | rfl | rfl | rfl | rfl | rfl | rfl | rfl | rfl | rfl <;> rfl
theorem mW_row (G : Gx) (a : Nat → Nat) (v : St) {k : Nat} (h : k < 6) : (mW G a v)[18 + k]? = some (a (18 + k), .inl (gI G, 256, .inl (v (17 + k)))) := by
  rcases (show k = 0 ∨ k = 1 ∨ k = 2 ∨ k = 3 ∨ k = 4 ∨ k = 5 by omega) with rfl | rfl | rfl | rfl | rfl | rfl <;> rfl
theorem mW_rset (G : Gx) (a : Nat → Nat) (v : St) (g : Nat → Int32) {k : Nat} (h : k < 6) : (mW G a v).set (18 + k) (a (18 + k), .inl (gI G, 256, .inl g)) = mW G a (sA v (17 + k) g) := by
  rcases (show k = 0 ∨ k = 1 ∨ k = 2 ∨ k = 3 ∨ k = 4 ∨ k = 5 by omega) with rfl | rfl | rfl | rfl | rfl | rfl <;> rfl
theorem inB_lt {i : Int32} {n : Nat} (h : inB i n = true) : i.toNatClampNeg < n := Nat.not_le.mp fun q => inB_in h (Or.inr q)
