/-! the worlds' places, once and for all -/
theorem app_c {X Y Wc : va_W} {is : List Nat} (h : is.map (fun i => X[i]?) = Wc.map some) : is.map (fun i => (X ++ Y)[i]?) = Wc.map some := by
  rw [← h]
  apply List.map_congr_left
  intro i hi
  have h1 : X[i]? ∈ Wc.map some := by rw [← h]; exact List.mem_map_of_mem hi
  obtain ⟨w, -, hw⟩ := List.mem_map.mp h1
  exact List.getElem?_append_left (List.getElem?_eq_some_iff.mp hw.symm).1
theorem app_r {X Y Wc : va_W} {is : List Nat} {n : Nat} (hX : X.length = n) (h : is.map (fun i => Y[i]?) = Wc.map some) : (is.map (fun i => n + i)).map (fun i => (X ++ Y)[i]?) = Wc.map some := by
  rw [← h, List.map_map]
  apply List.map_congr_left
  intro i hi
  show (X ++ Y)[n + i]? = _
  rw [List.getElem?_append_right (by omega), hX, Nat.add_sub_cancel_left]
theorem set_l {X Y Wc : va_W} : ∀ {is : List Nat} {W1 : va_W}, (∀ i, i ∈ is → i < X.length) → setAll (X ++ Y) is W1 = setAll X is W1 ++ Y
  | [], W1, _ => by cases W1 <;> rfl
  | i :: is, [], _ => rfl
  | i :: is, w :: ws, h => by
    have hi : i < (setAll X is ws).length := by rw [setAll_length]; exact h i List.mem_cons_self
    show (setAll (X ++ Y) is ws).set i w = (setAll X is ws).set i w ++ Y
    rw [set_l (Wc := Wc) (fun j hj => h j (List.mem_cons_of_mem _ hj)), List.set_append_left _ _ hi]
theorem set_r {X Y : va_W} {n : Nat} (hX : X.length = n) : ∀ {is : List Nat} {W1 : va_W}, setAll (X ++ Y) (is.map (fun i => n + i)) W1 = X ++ setAll Y is W1
  | [], W1 => by cases W1 <;> rfl
  | i :: is, [] => rfl
  | i :: is, w :: ws => by
    show (setAll (X ++ Y) (is.map (fun i => n + i)) ws).set (n + i) w = X ++ (setAll Y is ws).set i w
    rw [set_r hX, List.set_append_right _ _ (by omega), hX, Nat.add_sub_cancel_left]
theorem cut_cut {f : Nat → Option (Nat × va_E)} {W1 W2 : va_W} {i1 i2 : List Nat} (h1 : i1.map f = W1.map some) (h2 : i2.map f = W2.map some) : (i1 ++ i2).map f = (W1 ++ W2).map some := by
  rw [List.map_append, List.map_append, h1, h2]
theorem set_set {Wa : va_W} : ∀ {i1 : List Nat} {W1 : va_W} {i2 : List Nat} {W2 : va_W}, i1.length = W1.length → setAll Wa (i1 ++ i2) (W1 ++ W2) = setAll (setAll Wa i2 W2) i1 W1
  | [], [], i2, W2, _ => by
    show setAll Wa i2 W2 = setAll (setAll Wa i2 W2) [] []
    rfl
  | i :: i1, w :: W1, i2, W2, h => by
    show (setAll Wa (i1 ++ i2) (W1 ++ W2)).set i w = (setAll (setAll Wa i2 W2) i1 W1).set i w
    rw [set_set (by simpa using h)]
theorem fst_fst {A1 A2 B1 B2 : va_W} (h1 : A1.map Prod.fst = B1.map Prod.fst) (h2 : A2.map Prod.fst = B2.map Prod.fst) : (A1 ++ A2).map Prod.fst = (B1 ++ B2).map Prod.fst := by
  rw [List.map_append, List.map_append, h1, h2]
theorem get_l {X Y : va_W} {i : Nat} {w : Nat × va_E} (h : X[i]? = some w) : (X ++ Y)[i]? = some w := by
  rw [List.getElem?_append_left (List.getElem?_eq_some_iff.mp h).1, h]
theorem get_r {X Y : va_W} {n i : Nat} {w : Nat × va_E} (hX : X.length = n) (h : Y[i]? = some w) : (X ++ Y)[n + i]? = some w := by
  rw [List.getElem?_append_right (by omega), hX, Nat.add_sub_cancel_left, h]
theorem put_l {X Y : va_W} {i : Nat} {w w' : Nat × va_E} {X' : va_W} (h : X[i]? = some w) (e : X.set i w' = X') : (X ++ Y).set i w' = X' ++ Y := by
  rw [List.set_append_left _ _ (List.getElem?_eq_some_iff.mp h).1, e]
theorem put_r {X Y : va_W} {n i : Nat} {w' : Nat × va_E} {Y' : va_W} (hX : X.length = n) (e : Y.set i w' = Y') : (X ++ Y).set (n + i) w' = X ++ Y' := by
  rw [List.set_append_right _ _ (by omega), hX, Nat.add_sub_cancel_left, e]
theorem aW_f (G : Gx) (q N : Nat) (f g : Nat → Int32) : (aW G q N g).map Prod.fst = (aW G q N f).map Prod.fst := rfl
theorem aW_c (G : Gx) (q N : Nat) (f : Nat → Int32) : [0].map (fun i => (aW G q N f)[i]?) = (aW G q N f).map some := rfl
theorem aW_s (G : Gx) (q N : Nat) (f g : Nat → Int32) : setAll (aW G q N f) [0] (aW G q N g) = aW G q N g := rfl
theorem aW_a (G : Gx) (q N : Nat) (f : Nat → Int32) : (aW G q N f)[0]? = some (q, .inl (gI G, N, .inl f)) := rfl
theorem aW_t (G : Gx) (q N : Nat) (f g : Nat → Int32) : (aW G q N f).set 0 (q, .inl (gI G, N, .inl g)) = aW G q N g := rfl
theorem aW_n (G : Gx) (q N : Nat) (f : Nat → Int32) : (aW G q N f).length = 1 := rfl
theorem whole_s {Wa W1 : va_W} {n : Nat} (h : Wa.length = n) (h1 : W1.length = n) : setAll Wa (List.range n) W1 = W1 := by
  apply List.ext_getElem?
  intro k
  have hl := setAll_length (List.range n) Wa W1
  cases hk : (setAll Wa (List.range n) W1)[k]? with
  | none =>
    have := List.getElem?_eq_none_iff.mp hk
    exact (List.getElem?_eq_none_iff.mpr (by omega)).symm
  | some q =>
    have hlt := (List.getElem?_eq_some_iff.mp hk).1
    rcases setAll_get (List.range n) Wa W1 k q hk with ⟨j, h2, h3⟩ | ⟨h2, h3⟩
    · rw [List.getElem?_range (by have := (List.getElem?_eq_some_iff.mp h2).1; simpa using this)] at h2
      cases h2
      exact h3.symm
    · have := h2 k (List.getElem?_range (by omega))
      omega
theorem set_q {X Y Wc : va_W} {is : List Nat} {W1 : va_W} (h : is.map (fun i => X[i]?) = Wc.map some) : setAll (X ++ Y) is W1 = setAll X is W1 ++ Y := by
  refine set_l (Wc := Wc) (fun i hi => ?_)
  have h1 : X[i]? ∈ Wc.map some := by rw [← h]; exact List.mem_map_of_mem hi
  obtain ⟨w, -, hw⟩ := List.mem_map.mp h1
  exact (List.getElem?_eq_some_iff.mp hw.symm).1
def vWF (a : Nat → Nat) (v : St) : List Value := [.int (v 7 0), .int (v 7 1), .ref (a 1), .ref (a 2), .ref (a 3), .ref (a 4), .int (v 7 2), .int (v 7 3), .ref (a 5), .ref (a 6), .ref (a 7), .int (v 7 4)]
theorem vW_o (G : Gx) (a : Nat → Nat) (v : St) : (vW G a v)[0]? = some (a 0, .inr (3, vWF a v)) := rfl
theorem vW_c (G : Gx) (a : Nat → Nat) (v : St) : [0, 1, 2, 3, 4, 5, 6, 7].map (fun i => (vW G a v)[i]?) = (vW G a v).map some := rfl
theorem vW_n (G : Gx) (a : Nat → Nat) (v : St) : (vW G a v).length = 8 := rfl
theorem vW_s (G : Gx) (a : Nat → Nat) (v u : St) : setAll (vW G a v) [0, 1, 2, 3, 4, 5, 6, 7] (vW G a u) = vW G a u := whole_s (n := 8) (vW_n G a v) (vW_n G a u)
theorem vW_f (G : Gx) (a : Nat → Nat) (v u : St) : (vW G a u).map Prod.fst = (vW G a v).map Prod.fst := rfl
theorem vW_d : va_nd [0, 1, 2, 3, 4, 5, 6, 7] = true := by decide +kernel
theorem vW_p0 (G : Gx) (a : Nat → Nat) (v : St) (x : Int32) : (vW G a v).set 0 (a 0, .inr (3, (vWF a v).set 0 (.int x))) = vW G a (sA v 7 (upd (v 7) 0 x)) := rfl
theorem vW_p1 (G : Gx) (a : Nat → Nat) (v : St) (x : Int32) : (vW G a v).set 0 (a 0, .inr (3, (vWF a v).set 1 (.int x))) = vW G a (sA v 7 (upd (v 7) 1 x)) := rfl
theorem vW_p6 (G : Gx) (a : Nat → Nat) (v : St) (x : Int32) : (vW G a v).set 0 (a 0, .inr (3, (vWF a v).set 6 (.int x))) = vW G a (sA v 7 (upd (v 7) 2 x)) := rfl
theorem vW_p7 (G : Gx) (a : Nat → Nat) (v : St) (x : Int32) : (vW G a v).set 0 (a 0, .inr (3, (vWF a v).set 7 (.int x))) = vW G a (sA v 7 (upd (v 7) 3 x)) := rfl
theorem vW_p11 (G : Gx) (a : Nat → Nat) (v : St) (x : Int32) : (vW G a v).set 0 (a 0, .inr (3, (vWF a v).set 11 (.int x))) = vW G a (sA v 7 (upd (v 7) 4 x)) := rfl
theorem vW_a1 (G : Gx) (a : Nat → Nat) (v : St) : (vW G a v)[1]? = some (a 1, .inl (gI G, 8, .inl (v 0))) := rfl
theorem vW_t1 (G : Gx) (a : Nat → Nat) (v : St) (g : Nat → Int32) : (vW G a v).set 1 (a 1, .inl (gI G, 8, .inl g)) = vW G a (sA v 0 g) := rfl
theorem vW_ca1 (G : Gx) (a : Nat → Nat) (v : St) : [1].map (fun i => (vW G a v)[i]?) = (aW G (a 1) 8 (v 0)).map some := rfl
theorem vW_sa1 (G : Gx) (a : Nat → Nat) (v : St) (g : Nat → Int32) : setAll (vW G a v) [1] (aW G (a 1) 8 g) = vW G a (sA v 0 g) := rfl
theorem vW_ia1 (G : Gx) (a : Nat → Nat) (v : St) : setAll (vW G a v) [1] (aW G (a 1) 8 (v 0)) = vW G a v := rfl
theorem vW_a2 (G : Gx) (a : Nat → Nat) (v : St) : (vW G a v)[2]? = some (a 2, .inl (gI G, 8, .inl (v 1))) := rfl
theorem vW_t2 (G : Gx) (a : Nat → Nat) (v : St) (g : Nat → Int32) : (vW G a v).set 2 (a 2, .inl (gI G, 8, .inl g)) = vW G a (sA v 1 g) := rfl
theorem vW_ca2 (G : Gx) (a : Nat → Nat) (v : St) : [2].map (fun i => (vW G a v)[i]?) = (aW G (a 2) 8 (v 1)).map some := rfl
theorem vW_sa2 (G : Gx) (a : Nat → Nat) (v : St) (g : Nat → Int32) : setAll (vW G a v) [2] (aW G (a 2) 8 g) = vW G a (sA v 1 g) := rfl
theorem vW_ia2 (G : Gx) (a : Nat → Nat) (v : St) : setAll (vW G a v) [2] (aW G (a 2) 8 (v 1)) = vW G a v := rfl
theorem vW_a3 (G : Gx) (a : Nat → Nat) (v : St) : (vW G a v)[3]? = some (a 3, .inl (gI G, 8, .inl (v 2))) := rfl
theorem vW_t3 (G : Gx) (a : Nat → Nat) (v : St) (g : Nat → Int32) : (vW G a v).set 3 (a 3, .inl (gI G, 8, .inl g)) = vW G a (sA v 2 g) := rfl
theorem vW_ca3 (G : Gx) (a : Nat → Nat) (v : St) : [3].map (fun i => (vW G a v)[i]?) = (aW G (a 3) 8 (v 2)).map some := rfl
theorem vW_sa3 (G : Gx) (a : Nat → Nat) (v : St) (g : Nat → Int32) : setAll (vW G a v) [3] (aW G (a 3) 8 g) = vW G a (sA v 2 g) := rfl
theorem vW_ia3 (G : Gx) (a : Nat → Nat) (v : St) : setAll (vW G a v) [3] (aW G (a 3) 8 (v 2)) = vW G a v := rfl
theorem vW_a4 (G : Gx) (a : Nat → Nat) (v : St) : (vW G a v)[4]? = some (a 4, .inl (gI G, 8, .inl (v 3))) := rfl
theorem vW_t4 (G : Gx) (a : Nat → Nat) (v : St) (g : Nat → Int32) : (vW G a v).set 4 (a 4, .inl (gI G, 8, .inl g)) = vW G a (sA v 3 g) := rfl
theorem vW_ca4 (G : Gx) (a : Nat → Nat) (v : St) : [4].map (fun i => (vW G a v)[i]?) = (aW G (a 4) 8 (v 3)).map some := rfl
theorem vW_sa4 (G : Gx) (a : Nat → Nat) (v : St) (g : Nat → Int32) : setAll (vW G a v) [4] (aW G (a 4) 8 g) = vW G a (sA v 3 g) := rfl
theorem vW_ia4 (G : Gx) (a : Nat → Nat) (v : St) : setAll (vW G a v) [4] (aW G (a 4) 8 (v 3)) = vW G a v := rfl
theorem vW_a5 (G : Gx) (a : Nat → Nat) (v : St) : (vW G a v)[5]? = some (a 5, .inl (gI G, 5, .inl (v 4))) := rfl
theorem vW_t5 (G : Gx) (a : Nat → Nat) (v : St) (g : Nat → Int32) : (vW G a v).set 5 (a 5, .inl (gI G, 5, .inl g)) = vW G a (sA v 4 g) := rfl
theorem vW_ca5 (G : Gx) (a : Nat → Nat) (v : St) : [5].map (fun i => (vW G a v)[i]?) = (aW G (a 5) 5 (v 4)).map some := rfl
theorem vW_sa5 (G : Gx) (a : Nat → Nat) (v : St) (g : Nat → Int32) : setAll (vW G a v) [5] (aW G (a 5) 5 g) = vW G a (sA v 4 g) := rfl
theorem vW_ia5 (G : Gx) (a : Nat → Nat) (v : St) : setAll (vW G a v) [5] (aW G (a 5) 5 (v 4)) = vW G a v := rfl
theorem vW_a6 (G : Gx) (a : Nat → Nat) (v : St) : (vW G a v)[6]? = some (a 6, .inl (gI G, 5, .inl (v 5))) := rfl
theorem vW_t6 (G : Gx) (a : Nat → Nat) (v : St) (g : Nat → Int32) : (vW G a v).set 6 (a 6, .inl (gI G, 5, .inl g)) = vW G a (sA v 5 g) := rfl
theorem vW_ca6 (G : Gx) (a : Nat → Nat) (v : St) : [6].map (fun i => (vW G a v)[i]?) = (aW G (a 6) 5 (v 5)).map some := rfl
theorem vW_sa6 (G : Gx) (a : Nat → Nat) (v : St) (g : Nat → Int32) : setAll (vW G a v) [6] (aW G (a 6) 5 g) = vW G a (sA v 5 g) := rfl
theorem vW_ia6 (G : Gx) (a : Nat → Nat) (v : St) : setAll (vW G a v) [6] (aW G (a 6) 5 (v 5)) = vW G a v := rfl
theorem vW_a7 (G : Gx) (a : Nat → Nat) (v : St) : (vW G a v)[7]? = some (a 7, .inl (gI G, 5, .inl (v 6))) := rfl
theorem vW_t7 (G : Gx) (a : Nat → Nat) (v : St) (g : Nat → Int32) : (vW G a v).set 7 (a 7, .inl (gI G, 5, .inl g)) = vW G a (sA v 6 g) := rfl
theorem vW_ca7 (G : Gx) (a : Nat → Nat) (v : St) : [7].map (fun i => (vW G a v)[i]?) = (aW G (a 7) 5 (v 6)).map some := rfl
theorem vW_sa7 (G : Gx) (a : Nat → Nat) (v : St) (g : Nat → Int32) : setAll (vW G a v) [7] (aW G (a 7) 5 g) = vW G a (sA v 6 g) := rfl
theorem vW_ia7 (G : Gx) (a : Nat → Nat) (v : St) : setAll (vW G a v) [7] (aW G (a 7) 5 (v 6)) = vW G a v := rfl
def pWF (a : Nat → Nat) (v : St) : List Value := [.ref (a 1), .int (v 1 0)]
theorem pW_o (G : Gx) (a : Nat → Nat) (v : St) : (pW G a v)[0]? = some (a 0, .inr (0, pWF a v)) := rfl
theorem pW_c (G : Gx) (a : Nat → Nat) (v : St) : [0, 1].map (fun i => (pW G a v)[i]?) = (pW G a v).map some := rfl
theorem pW_n (G : Gx) (a : Nat → Nat) (v : St) : (pW G a v).length = 2 := rfl
theorem pW_s (G : Gx) (a : Nat → Nat) (v u : St) : setAll (pW G a v) [0, 1] (pW G a u) = pW G a u := whole_s (n := 2) (pW_n G a v) (pW_n G a u)
theorem pW_f (G : Gx) (a : Nat → Nat) (v u : St) : (pW G a u).map Prod.fst = (pW G a v).map Prod.fst := rfl
theorem pW_d : va_nd [0, 1] = true := by decide +kernel
theorem pW_p1 (G : Gx) (a : Nat → Nat) (v : St) (x : Int32) : (pW G a v).set 0 (a 0, .inr (0, (pWF a v).set 1 (.int x))) = pW G a (sA v 1 (upd (v 1) 0 x)) := rfl
theorem pW_a1 (G : Gx) (a : Nat → Nat) (v : St) : (pW G a v)[1]? = some (a 1, .inl (gI G, 5, .inl (v 0))) := rfl
theorem pW_t1 (G : Gx) (a : Nat → Nat) (v : St) (g : Nat → Int32) : (pW G a v).set 1 (a 1, .inl (gI G, 5, .inl g)) = pW G a (sA v 0 g) := rfl
theorem pW_ca1 (G : Gx) (a : Nat → Nat) (v : St) : [1].map (fun i => (pW G a v)[i]?) = (aW G (a 1) 5 (v 0)).map some := rfl
theorem pW_sa1 (G : Gx) (a : Nat → Nat) (v : St) (g : Nat → Int32) : setAll (pW G a v) [1] (aW G (a 1) 5 g) = pW G a (sA v 0 g) := rfl
theorem pW_ia1 (G : Gx) (a : Nat → Nat) (v : St) : setAll (pW G a v) [1] (aW G (a 1) 5 (v 0)) = pW G a v := rfl
def rWF (a : Nat → Nat) (v : St) : List Value := [.ref (a 1), .int (v 1 0)]
theorem rW_o (G : Gx) (a : Nat → Nat) (v : St) : (rW G a v)[0]? = some (a 0, .inr (1, rWF a v)) := rfl
theorem rW_c (G : Gx) (a : Nat → Nat) (v : St) : [0, 1].map (fun i => (rW G a v)[i]?) = (rW G a v).map some := rfl
theorem rW_n (G : Gx) (a : Nat → Nat) (v : St) : (rW G a v).length = 2 := rfl
theorem rW_s (G : Gx) (a : Nat → Nat) (v u : St) : setAll (rW G a v) [0, 1] (rW G a u) = rW G a u := whole_s (n := 2) (rW_n G a v) (rW_n G a u)
theorem rW_f (G : Gx) (a : Nat → Nat) (v u : St) : (rW G a u).map Prod.fst = (rW G a v).map Prod.fst := rfl
theorem rW_d : va_nd [0, 1] = true := by decide +kernel
theorem rW_p1 (G : Gx) (a : Nat → Nat) (v : St) (x : Int32) : (rW G a v).set 0 (a 0, .inr (1, (rWF a v).set 1 (.int x))) = rW G a (sA v 1 (upd (v 1) 0 x)) := rfl
theorem rW_a1 (G : Gx) (a : Nat → Nat) (v : St) : (rW G a v)[1]? = some (a 1, .inl (gI G, 16, .inl (v 0))) := rfl
theorem rW_t1 (G : Gx) (a : Nat → Nat) (v : St) (g : Nat → Int32) : (rW G a v).set 1 (a 1, .inl (gI G, 16, .inl g)) = rW G a (sA v 0 g) := rfl
theorem rW_ca1 (G : Gx) (a : Nat → Nat) (v : St) : [1].map (fun i => (rW G a v)[i]?) = (aW G (a 1) 16 (v 0)).map some := rfl
theorem rW_sa1 (G : Gx) (a : Nat → Nat) (v : St) (g : Nat → Int32) : setAll (rW G a v) [1] (aW G (a 1) 16 g) = rW G a (sA v 0 g) := rfl
theorem rW_ia1 (G : Gx) (a : Nat → Nat) (v : St) : setAll (rW G a v) [1] (aW G (a 1) 16 (v 0)) = rW G a v := rfl
def tWF (a : Nat → Nat) (v : St) : List Value := [.ref (a 1), .int (v 1 0)]
theorem tW_o (G : Gx) (a : Nat → Nat) (v : St) : (tW G a v)[0]? = some (a 0, .inr (2, tWF a v)) := rfl
theorem tW_c (G : Gx) (a : Nat → Nat) (v : St) : [0, 1].map (fun i => (tW G a v)[i]?) = (tW G a v).map some := rfl
theorem tW_n (G : Gx) (a : Nat → Nat) (v : St) : (tW G a v).length = 2 := rfl
theorem tW_s (G : Gx) (a : Nat → Nat) (v u : St) : setAll (tW G a v) [0, 1] (tW G a u) = tW G a u := whole_s (n := 2) (tW_n G a v) (tW_n G a u)
theorem tW_f (G : Gx) (a : Nat → Nat) (v u : St) : (tW G a u).map Prod.fst = (tW G a v).map Prod.fst := rfl
theorem tW_d : va_nd [0, 1] = true := by decide +kernel
theorem tW_p1 (G : Gx) (a : Nat → Nat) (v : St) (x : Int32) : (tW G a v).set 0 (a 0, .inr (2, (tWF a v).set 1 (.int x))) = tW G a (sA v 1 (upd (v 1) 0 x)) := rfl
theorem tW_a1 (G : Gx) (a : Nat → Nat) (v : St) : (tW G a v)[1]? = some (a 1, .inl (gI G, 96, .inl (v 0))) := rfl
theorem tW_t1 (G : Gx) (a : Nat → Nat) (v : St) (g : Nat → Int32) : (tW G a v).set 1 (a 1, .inl (gI G, 96, .inl g)) = tW G a (sA v 0 g) := rfl
theorem tW_ca1 (G : Gx) (a : Nat → Nat) (v : St) : [1].map (fun i => (tW G a v)[i]?) = (aW G (a 1) 96 (v 0)).map some := rfl
theorem tW_sa1 (G : Gx) (a : Nat → Nat) (v : St) (g : Nat → Int32) : setAll (tW G a v) [1] (aW G (a 1) 96 g) = tW G a (sA v 0 g) := rfl
theorem tW_ia1 (G : Gx) (a : Nat → Nat) (v : St) : setAll (tW G a v) [1] (aW G (a 1) 96 (v 0)) = tW G a v := rfl
def mWF (a : Nat → Nat) (v : St) : List Value := [.ref (a 1), .ref (a 2), .ref (a 3), .ref (a 4), .ref (a 5), .ref (a 6), .ref (a 7), .ref (a 8), .ref (a 9), .ref (a 10), .int (v 23 0), .int (v 23 1), .int (v 23 2), .ref (a 11), .ref (a 12), .ref (a 13), .ref (a 14), .int (v 23 3), .int (v 23 4), .int (v 23 5), .ref (a 15), .int (v 23 6), .int (v 23 7), .int (v 23 8), .ref (a 24), .ref (a 16), .int (v 23 9), .ref (a 17), .int (v 23 10)]
theorem mW_o (G : Gx) (a : Nat → Nat) (v : St) : (mW G a v)[0]? = some (a 0, .inr (5, mWF a v)) := rfl
theorem mW_c (G : Gx) (a : Nat → Nat) (v : St) : [0, 1, 2, 3, 4, 5, 6, 7, 8, 9, 10, 11, 12, 13, 14, 15, 16, 17, 18, 19, 20, 21, 22, 23, 24].map (fun i => (mW G a v)[i]?) = (mW G a v).map some := rfl
theorem mW_n (G : Gx) (a : Nat → Nat) (v : St) : (mW G a v).length = 25 := rfl
theorem mW_s (G : Gx) (a : Nat → Nat) (v u : St) : setAll (mW G a v) [0, 1, 2, 3, 4, 5, 6, 7, 8, 9, 10, 11, 12, 13, 14, 15, 16, 17, 18, 19, 20, 21, 22, 23, 24] (mW G a u) = mW G a u := whole_s (n := 25) (mW_n G a v) (mW_n G a u)
theorem mW_f (G : Gx) (a : Nat → Nat) (v u : St) : (mW G a u).map Prod.fst = (mW G a v).map Prod.fst := rfl
theorem mW_d : va_nd [0, 1, 2, 3, 4, 5, 6, 7, 8, 9, 10, 11, 12, 13, 14, 15, 16, 17, 18, 19, 20, 21, 22, 23, 24] = true := by decide +kernel
theorem mW_p10 (G : Gx) (a : Nat → Nat) (v : St) (x : Int32) : (mW G a v).set 0 (a 0, .inr (5, (mWF a v).set 10 (.int x))) = mW G a (sA v 23 (upd (v 23) 0 x)) := rfl
theorem mW_p11 (G : Gx) (a : Nat → Nat) (v : St) (x : Int32) : (mW G a v).set 0 (a 0, .inr (5, (mWF a v).set 11 (.int x))) = mW G a (sA v 23 (upd (v 23) 1 x)) := rfl
theorem mW_p12 (G : Gx) (a : Nat → Nat) (v : St) (x : Int32) : (mW G a v).set 0 (a 0, .inr (5, (mWF a v).set 12 (.int x))) = mW G a (sA v 23 (upd (v 23) 2 x)) := rfl
theorem mW_p17 (G : Gx) (a : Nat → Nat) (v : St) (x : Int32) : (mW G a v).set 0 (a 0, .inr (5, (mWF a v).set 17 (.int x))) = mW G a (sA v 23 (upd (v 23) 3 x)) := rfl
theorem mW_p18 (G : Gx) (a : Nat → Nat) (v : St) (x : Int32) : (mW G a v).set 0 (a 0, .inr (5, (mWF a v).set 18 (.int x))) = mW G a (sA v 23 (upd (v 23) 4 x)) := rfl
theorem mW_p19 (G : Gx) (a : Nat → Nat) (v : St) (x : Int32) : (mW G a v).set 0 (a 0, .inr (5, (mWF a v).set 19 (.int x))) = mW G a (sA v 23 (upd (v 23) 5 x)) := rfl
theorem mW_p21 (G : Gx) (a : Nat → Nat) (v : St) (x : Int32) : (mW G a v).set 0 (a 0, .inr (5, (mWF a v).set 21 (.int x))) = mW G a (sA v 23 (upd (v 23) 6 x)) := rfl
theorem mW_p22 (G : Gx) (a : Nat → Nat) (v : St) (x : Int32) : (mW G a v).set 0 (a 0, .inr (5, (mWF a v).set 22 (.int x))) = mW G a (sA v 23 (upd (v 23) 7 x)) := rfl
theorem mW_p23 (G : Gx) (a : Nat → Nat) (v : St) (x : Int32) : (mW G a v).set 0 (a 0, .inr (5, (mWF a v).set 23 (.int x))) = mW G a (sA v 23 (upd (v 23) 8 x)) := rfl
theorem mW_p26 (G : Gx) (a : Nat → Nat) (v : St) (x : Int32) : (mW G a v).set 0 (a 0, .inr (5, (mWF a v).set 26 (.int x))) = mW G a (sA v 23 (upd (v 23) 9 x)) := rfl
theorem mW_p28 (G : Gx) (a : Nat → Nat) (v : St) (x : Int32) : (mW G a v).set 0 (a 0, .inr (5, (mWF a v).set 28 (.int x))) = mW G a (sA v 23 (upd (v 23) 10 x)) := rfl
theorem mW_a1 (G : Gx) (a : Nat → Nat) (v : St) : (mW G a v)[1]? = some (a 1, .inl (gI G, 7, .inl (v 0))) := rfl
theorem mW_t1 (G : Gx) (a : Nat → Nat) (v : St) (g : Nat → Int32) : (mW G a v).set 1 (a 1, .inl (gI G, 7, .inl g)) = mW G a (sA v 0 g) := rfl
theorem mW_a2 (G : Gx) (a : Nat → Nat) (v : St) : (mW G a v)[2]? = some (a 2, .inl (gI G, 8, .inl (v 1))) := rfl
theorem mW_t2 (G : Gx) (a : Nat → Nat) (v : St) (g : Nat → Int32) : (mW G a v).set 2 (a 2, .inl (gI G, 8, .inl g)) = mW G a (sA v 1 g) := rfl
theorem mW_a3 (G : Gx) (a : Nat → Nat) (v : St) : (mW G a v)[3]? = some (a 3, .inl (gI G, 8, .inl (v 2))) := rfl
theorem mW_t3 (G : Gx) (a : Nat → Nat) (v : St) (g : Nat → Int32) : (mW G a v).set 3 (a 3, .inl (gI G, 8, .inl g)) = mW G a (sA v 2 g) := rfl
theorem mW_a4 (G : Gx) (a : Nat → Nat) (v : St) : (mW G a v)[4]? = some (a 4, .inl (gI G, 8, .inl (v 3))) := rfl
theorem mW_t4 (G : Gx) (a : Nat → Nat) (v : St) (g : Nat → Int32) : (mW G a v).set 4 (a 4, .inl (gI G, 8, .inl g)) = mW G a (sA v 3 g) := rfl
theorem mW_a5 (G : Gx) (a : Nat → Nat) (v : St) : (mW G a v)[5]? = some (a 5, .inl (gI G, 8, .inl (v 4))) := rfl
theorem mW_t5 (G : Gx) (a : Nat → Nat) (v : St) (g : Nat → Int32) : (mW G a v).set 5 (a 5, .inl (gI G, 8, .inl g)) = mW G a (sA v 4 g) := rfl
theorem mW_a6 (G : Gx) (a : Nat → Nat) (v : St) : (mW G a v)[6]? = some (a 6, .inl (gI G, 8, .inl (v 5))) := rfl
theorem mW_t6 (G : Gx) (a : Nat → Nat) (v : St) (g : Nat → Int32) : (mW G a v).set 6 (a 6, .inl (gI G, 8, .inl g)) = mW G a (sA v 5 g) := rfl
theorem mW_a7 (G : Gx) (a : Nat → Nat) (v : St) : (mW G a v)[7]? = some (a 7, .inl (gI G, 5, .inl (v 6))) := rfl
theorem mW_t7 (G : Gx) (a : Nat → Nat) (v : St) (g : Nat → Int32) : (mW G a v).set 7 (a 7, .inl (gI G, 5, .inl g)) = mW G a (sA v 6 g) := rfl
theorem mW_a8 (G : Gx) (a : Nat → Nat) (v : St) : (mW G a v)[8]? = some (a 8, .inl (gI G, 5, .inl (v 7))) := rfl
theorem mW_t8 (G : Gx) (a : Nat → Nat) (v : St) (g : Nat → Int32) : (mW G a v).set 8 (a 8, .inl (gI G, 5, .inl g)) = mW G a (sA v 7 g) := rfl
theorem mW_a9 (G : Gx) (a : Nat → Nat) (v : St) : (mW G a v)[9]? = some (a 9, .inl (gI G, 5, .inl (v 8))) := rfl
theorem mW_t9 (G : Gx) (a : Nat → Nat) (v : St) (g : Nat → Int32) : (mW G a v).set 9 (a 9, .inl (gI G, 5, .inl g)) = mW G a (sA v 8 g) := rfl
theorem mW_a10 (G : Gx) (a : Nat → Nat) (v : St) : (mW G a v)[10]? = some (a 10, .inl (gI G, 5, .inl (v 9))) := rfl
theorem mW_t10 (G : Gx) (a : Nat → Nat) (v : St) (g : Nat → Int32) : (mW G a v).set 10 (a 10, .inl (gI G, 5, .inl g)) = mW G a (sA v 9 g) := rfl
theorem mW_a11 (G : Gx) (a : Nat → Nat) (v : St) : (mW G a v)[11]? = some (a 11, .inl (gI G, 96, .inl (v 10))) := rfl
theorem mW_t11 (G : Gx) (a : Nat → Nat) (v : St) (g : Nat → Int32) : (mW G a v).set 11 (a 11, .inl (gI G, 96, .inl g)) = mW G a (sA v 10 g) := rfl
theorem mW_a12 (G : Gx) (a : Nat → Nat) (v : St) : (mW G a v)[12]? = some (a 12, .inl (gI G, 48, .inl (v 11))) := rfl
theorem mW_t12 (G : Gx) (a : Nat → Nat) (v : St) (g : Nat → Int32) : (mW G a v).set 12 (a 12, .inl (gI G, 48, .inl g)) = mW G a (sA v 11 g) := rfl
theorem mW_a13 (G : Gx) (a : Nat → Nat) (v : St) : (mW G a v)[13]? = some (a 13, .inl (gI G, 48, .inl (v 12))) := rfl
theorem mW_t13 (G : Gx) (a : Nat → Nat) (v : St) (g : Nat → Int32) : (mW G a v).set 13 (a 13, .inl (gI G, 48, .inl g)) = mW G a (sA v 12 g) := rfl
theorem mW_a14 (G : Gx) (a : Nat → Nat) (v : St) : (mW G a v)[14]? = some (a 14, .inl (gI G, 144, .inl (v 13))) := rfl
theorem mW_t14 (G : Gx) (a : Nat → Nat) (v : St) (g : Nat → Int32) : (mW G a v).set 14 (a 14, .inl (gI G, 144, .inl g)) = mW G a (sA v 13 g) := rfl
theorem mW_a15 (G : Gx) (a : Nat → Nat) (v : St) : (mW G a v)[15]? = some (a 15, .inl (gI G, 189, .inl (v 14))) := rfl
theorem mW_t15 (G : Gx) (a : Nat → Nat) (v : St) (g : Nat → Int32) : (mW G a v).set 15 (a 15, .inl (gI G, 189, .inl g)) = mW G a (sA v 14 g) := rfl
theorem mW_a16 (G : Gx) (a : Nat → Nat) (v : St) : (mW G a v)[16]? = some (a 16, .inl (gI G, 16, .inl (v 15))) := rfl
theorem mW_t16 (G : Gx) (a : Nat → Nat) (v : St) (g : Nat → Int32) : (mW G a v).set 16 (a 16, .inl (gI G, 16, .inl g)) = mW G a (sA v 15 g) := rfl
theorem mW_a17 (G : Gx) (a : Nat → Nat) (v : St) : (mW G a v)[17]? = some (a 17, .inl (gI G, 8, .inl (v 16))) := rfl
theorem mW_t17 (G : Gx) (a : Nat → Nat) (v : St) (g : Nat → Int32) : (mW G a v).set 17 (a 17, .inl (gI G, 8, .inl g)) = mW G a (sA v 16 g) := rfl
theorem mW_g (G : Gx) (a : Nat → Nat) (v : St) : (mW G a v)[24]? = some (a 24, .inl (gG G, 6, .inr (.inr (.inr (.inr (fun i => if i < 6 then some (a (18 + i)) else none)))))) := rfl
def cWF (a : Nat → Nat) (S : Nat → St) : List Value := [.ref (a 1), .ref (a 9), .ref (a 17), .int (S 6 1 0), .ref (a 25), .ref (a 27), .ref (a 29), .ref (a 31)]
theorem cW_o (G : Gx) (a : Nat → Nat) (S : Nat → St) : (cW G a S)[0]? = some (a 0, .inr (4, cWF a S)) := rfl
theorem cW_c (G : Gx) (a : Nat → Nat) (S : Nat → St) : [0, 1, 2, 3, 4, 5, 6, 7, 8, 9, 10, 11, 12, 13, 14, 15, 16, 17, 18, 19, 20, 21, 22, 23, 24, 25, 26, 27, 28, 29, 30, 31].map (fun i => (cW G a S)[i]?) = (cW G a S).map some := rfl
theorem cW_d : va_nd [0, 1, 2, 3, 4, 5, 6, 7, 8, 9, 10, 11, 12, 13, 14, 15, 16, 17, 18, 19, 20, 21, 22, 23, 24, 25, 26, 27, 28, 29, 30, 31] = true := by decide +kernel
theorem cW_n (G : Gx) (a : Nat → Nat) (S : Nat → St) : (cW G a S).length = 32 := rfl
theorem cW_s (G : Gx) (a : Nat → Nat) (S U : Nat → St) : setAll (cW G a S) [0, 1, 2, 3, 4, 5, 6, 7, 8, 9, 10, 11, 12, 13, 14, 15, 16, 17, 18, 19, 20, 21, 22, 23, 24, 25, 26, 27, 28, 29, 30, 31] (cW G a U) = cW G a U := whole_s (n := 32) (cW_n G a S) (cW_n G a U)
theorem cW_f (G : Gx) (a : Nat → Nat) (S U : Nat → St) : (cW G a U).map Prod.fst = (cW G a S).map Prod.fst := rfl
theorem cW_p3 (G : Gx) (a : Nat → Nat) (S : Nat → St) (x : Int32) : (cW G a S).set 0 (a 0, .inr (4, (cWF a S).set 3 (.int x))) = cW G a (sS S 6 (sA (S 6) 1 (upd (S 6 1) 0 x))) := rfl
theorem cW_a31 (G : Gx) (a : Nat → Nat) (S : Nat → St) : (cW G a S)[31]? = some (a 31, .inl (gI G, 7, .inl (S 6 0))) := rfl
theorem cW_ca31 (G : Gx) (a : Nat → Nat) (S : Nat → St) : [31].map (fun i => (cW G a S)[i]?) = (aW G (a 31) 7 (S 6 0)).map some := rfl
theorem cW_sa31 (G : Gx) (a : Nat → Nat) (S : Nat → St) (g : Nat → Int32) : setAll (cW G a S) [31] (aW G (a 31) 7 g) = cW G a (sS S 6 (sA (S 6) 0 g)) := rfl
theorem cW_ia31 (G : Gx) (a : Nat → Nat) (S : Nat → St) : setAll (cW G a S) [31] (aW G (a 31) 7 (S 6 0)) = cW G a S := rfl
theorem cW_o0 (G : Gx) (a : Nat → Nat) (S : Nat → St) : (cW G a S)[1]? = some (a 1, .inr (3, vWF (sh 1 a) (S 0))) := rfl
theorem cW_c0 (G : Gx) (a : Nat → Nat) (S : Nat → St) : [1, 2, 3, 4, 5, 6, 7, 8].map (fun i => (cW G a S)[i]?) = (vW G (sh 1 a) (S 0)).map some := rfl
theorem cW_s0 (G : Gx) (a : Nat → Nat) (S : Nat → St) (u : St) : setAll (cW G a S) [1, 2, 3, 4, 5, 6, 7, 8] (vW G (sh 1 a) u) = cW G a (sS S 0 u) := by
  refine (show setAll (cW G a S) [1, 2, 3, 4, 5, 6, 7, 8] (vW G (sh 1 a) u) = setAll ([(a 0, .inr (4, cWF a S))] ++ (cW G a S).tail) ([0, 1, 2, 3, 4, 5, 6, 7].map (fun i => 1 + i)) (vW G (sh 1 a) u) from rfl).trans ?_
  rw [set_r (n := 1) rfl]
  rw [show (cW G a S).tail = (vW G (sh 1 a) (S 0) ++ (vW G (sh 9 a) (S 1) ++ (vW G (sh 17 a) (S 2) ++ (tW G (sh 25 a) (S 3) ++ (rW G (sh 27 a) (S 4) ++ (pW G (sh 29 a) (S 5) ++ [(a 31, .inl (gI G, 7, .inl (S 6 0)))])))))) from rfl]
  rw [set_l (Wc := []) (fun i hi => by rw [vW_n]; have : i ∈ List.range 8 := hi; exact List.mem_range.mp this), vW_s]
  rfl
theorem cW_i0 (G : Gx) (a : Nat → Nat) (S : Nat → St) : setAll (cW G a S) [1, 2, 3, 4, 5, 6, 7, 8] (vW G (sh 1 a) (S 0)) = cW G a S := (cW_s0 G a S (S 0)).trans (congrArg (cW G a) (funext fun j => by unfold sS; split <;> simp_all))
theorem cW_d0 : va_nd [1, 2, 3, 4, 5, 6, 7, 8] = true := by decide +kernel
theorem cW_q0_0 (G : Gx) (a : Nat → Nat) (S : Nat → St) (x : Int32) : (cW G a S).set 1 (a 1, .inr (3, (vWF (sh 1 a) (S 0)).set 0 (.int x))) = cW G a (sS S 0 (sA (S 0) 7 (upd (S 0 7) 0 x))) := rfl
theorem cW_q0_1 (G : Gx) (a : Nat → Nat) (S : Nat → St) (x : Int32) : (cW G a S).set 1 (a 1, .inr (3, (vWF (sh 1 a) (S 0)).set 1 (.int x))) = cW G a (sS S 0 (sA (S 0) 7 (upd (S 0 7) 1 x))) := rfl
theorem cW_q0_6 (G : Gx) (a : Nat → Nat) (S : Nat → St) (x : Int32) : (cW G a S).set 1 (a 1, .inr (3, (vWF (sh 1 a) (S 0)).set 6 (.int x))) = cW G a (sS S 0 (sA (S 0) 7 (upd (S 0 7) 2 x))) := rfl
theorem cW_q0_7 (G : Gx) (a : Nat → Nat) (S : Nat → St) (x : Int32) : (cW G a S).set 1 (a 1, .inr (3, (vWF (sh 1 a) (S 0)).set 7 (.int x))) = cW G a (sS S 0 (sA (S 0) 7 (upd (S 0 7) 3 x))) := rfl
theorem cW_q0_11 (G : Gx) (a : Nat → Nat) (S : Nat → St) (x : Int32) : (cW G a S).set 1 (a 1, .inr (3, (vWF (sh 1 a) (S 0)).set 11 (.int x))) = cW G a (sS S 0 (sA (S 0) 7 (upd (S 0 7) 4 x))) := rfl
theorem cW_o1 (G : Gx) (a : Nat → Nat) (S : Nat → St) : (cW G a S)[9]? = some (a 9, .inr (3, vWF (sh 9 a) (S 1))) := rfl
theorem cW_c1 (G : Gx) (a : Nat → Nat) (S : Nat → St) : [9, 10, 11, 12, 13, 14, 15, 16].map (fun i => (cW G a S)[i]?) = (vW G (sh 9 a) (S 1)).map some := rfl
theorem cW_s1 (G : Gx) (a : Nat → Nat) (S : Nat → St) (u : St) : setAll (cW G a S) [9, 10, 11, 12, 13, 14, 15, 16] (vW G (sh 9 a) u) = cW G a (sS S 1 u) := by
  refine (show setAll (cW G a S) [9, 10, 11, 12, 13, 14, 15, 16] (vW G (sh 9 a) u) = setAll ([(a 0, .inr (4, cWF a S))] ++ (cW G a S).tail) (([0, 1, 2, 3, 4, 5, 6, 7].map (fun i => 8 + i)).map (fun i => 1 + i)) (vW G (sh 9 a) u) from rfl).trans ?_
  rw [set_r (n := 1) rfl]
  rw [show (cW G a S).tail = (vW G (sh 1 a) (S 0) ++ (vW G (sh 9 a) (S 1) ++ (vW G (sh 17 a) (S 2) ++ (tW G (sh 25 a) (S 3) ++ (rW G (sh 27 a) (S 4) ++ (pW G (sh 29 a) (S 5) ++ [(a 31, .inl (gI G, 7, .inl (S 6 0)))])))))) from rfl]
  rw [set_r (n := 8) (vW_n G (sh 1 a) (S 0))]
  rw [set_l (Wc := []) (fun i hi => by rw [vW_n]; have : i ∈ List.range 8 := hi; exact List.mem_range.mp this), vW_s]
  rfl
theorem cW_i1 (G : Gx) (a : Nat → Nat) (S : Nat → St) : setAll (cW G a S) [9, 10, 11, 12, 13, 14, 15, 16] (vW G (sh 9 a) (S 1)) = cW G a S := (cW_s1 G a S (S 1)).trans (congrArg (cW G a) (funext fun j => by unfold sS; split <;> simp_all))
theorem cW_d1 : va_nd [9, 10, 11, 12, 13, 14, 15, 16] = true := by decide +kernel
theorem cW_q1_0 (G : Gx) (a : Nat → Nat) (S : Nat → St) (x : Int32) : (cW G a S).set 9 (a 9, .inr (3, (vWF (sh 9 a) (S 1)).set 0 (.int x))) = cW G a (sS S 1 (sA (S 1) 7 (upd (S 1 7) 0 x))) := rfl
theorem cW_q1_1 (G : Gx) (a : Nat → Nat) (S : Nat → St) (x : Int32) : (cW G a S).set 9 (a 9, .inr (3, (vWF (sh 9 a) (S 1)).set 1 (.int x))) = cW G a (sS S 1 (sA (S 1) 7 (upd (S 1 7) 1 x))) := rfl
theorem cW_q1_6 (G : Gx) (a : Nat → Nat) (S : Nat → St) (x : Int32) : (cW G a S).set 9 (a 9, .inr (3, (vWF (sh 9 a) (S 1)).set 6 (.int x))) = cW G a (sS S 1 (sA (S 1) 7 (upd (S 1 7) 2 x))) := rfl
theorem cW_q1_7 (G : Gx) (a : Nat → Nat) (S : Nat → St) (x : Int32) : (cW G a S).set 9 (a 9, .inr (3, (vWF (sh 9 a) (S 1)).set 7 (.int x))) = cW G a (sS S 1 (sA (S 1) 7 (upd (S 1 7) 3 x))) := rfl
theorem cW_q1_11 (G : Gx) (a : Nat → Nat) (S : Nat → St) (x : Int32) : (cW G a S).set 9 (a 9, .inr (3, (vWF (sh 9 a) (S 1)).set 11 (.int x))) = cW G a (sS S 1 (sA (S 1) 7 (upd (S 1 7) 4 x))) := rfl
theorem cW_o2 (G : Gx) (a : Nat → Nat) (S : Nat → St) : (cW G a S)[17]? = some (a 17, .inr (3, vWF (sh 17 a) (S 2))) := rfl
theorem cW_c2 (G : Gx) (a : Nat → Nat) (S : Nat → St) : [17, 18, 19, 20, 21, 22, 23, 24].map (fun i => (cW G a S)[i]?) = (vW G (sh 17 a) (S 2)).map some := rfl
theorem cW_s2 (G : Gx) (a : Nat → Nat) (S : Nat → St) (u : St) : setAll (cW G a S) [17, 18, 19, 20, 21, 22, 23, 24] (vW G (sh 17 a) u) = cW G a (sS S 2 u) := by
  refine (show setAll (cW G a S) [17, 18, 19, 20, 21, 22, 23, 24] (vW G (sh 17 a) u) = setAll ([(a 0, .inr (4, cWF a S))] ++ (cW G a S).tail) ((([0, 1, 2, 3, 4, 5, 6, 7].map (fun i => 8 + i)).map (fun i => 8 + i)).map (fun i => 1 + i)) (vW G (sh 17 a) u) from rfl).trans ?_
  rw [set_r (n := 1) rfl]
  rw [show (cW G a S).tail = (vW G (sh 1 a) (S 0) ++ (vW G (sh 9 a) (S 1) ++ (vW G (sh 17 a) (S 2) ++ (tW G (sh 25 a) (S 3) ++ (rW G (sh 27 a) (S 4) ++ (pW G (sh 29 a) (S 5) ++ [(a 31, .inl (gI G, 7, .inl (S 6 0)))])))))) from rfl]
  rw [set_r (n := 8) (vW_n G (sh 1 a) (S 0))]
  rw [set_r (n := 8) (vW_n G (sh 9 a) (S 1))]
  rw [set_l (Wc := []) (fun i hi => by rw [vW_n]; have : i ∈ List.range 8 := hi; exact List.mem_range.mp this), vW_s]
  rfl
theorem cW_i2 (G : Gx) (a : Nat → Nat) (S : Nat → St) : setAll (cW G a S) [17, 18, 19, 20, 21, 22, 23, 24] (vW G (sh 17 a) (S 2)) = cW G a S := (cW_s2 G a S (S 2)).trans (congrArg (cW G a) (funext fun j => by unfold sS; split <;> simp_all))
theorem cW_d2 : va_nd [17, 18, 19, 20, 21, 22, 23, 24] = true := by decide +kernel
theorem cW_q2_0 (G : Gx) (a : Nat → Nat) (S : Nat → St) (x : Int32) : (cW G a S).set 17 (a 17, .inr (3, (vWF (sh 17 a) (S 2)).set 0 (.int x))) = cW G a (sS S 2 (sA (S 2) 7 (upd (S 2 7) 0 x))) := rfl
theorem cW_q2_1 (G : Gx) (a : Nat → Nat) (S : Nat → St) (x : Int32) : (cW G a S).set 17 (a 17, .inr (3, (vWF (sh 17 a) (S 2)).set 1 (.int x))) = cW G a (sS S 2 (sA (S 2) 7 (upd (S 2 7) 1 x))) := rfl
theorem cW_q2_6 (G : Gx) (a : Nat → Nat) (S : Nat → St) (x : Int32) : (cW G a S).set 17 (a 17, .inr (3, (vWF (sh 17 a) (S 2)).set 6 (.int x))) = cW G a (sS S 2 (sA (S 2) 7 (upd (S 2 7) 2 x))) := rfl
theorem cW_q2_7 (G : Gx) (a : Nat → Nat) (S : Nat → St) (x : Int32) : (cW G a S).set 17 (a 17, .inr (3, (vWF (sh 17 a) (S 2)).set 7 (.int x))) = cW G a (sS S 2 (sA (S 2) 7 (upd (S 2 7) 3 x))) := rfl
theorem cW_q2_11 (G : Gx) (a : Nat → Nat) (S : Nat → St) (x : Int32) : (cW G a S).set 17 (a 17, .inr (3, (vWF (sh 17 a) (S 2)).set 11 (.int x))) = cW G a (sS S 2 (sA (S 2) 7 (upd (S 2 7) 4 x))) := rfl
theorem cW_o3 (G : Gx) (a : Nat → Nat) (S : Nat → St) : (cW G a S)[25]? = some (a 25, .inr (2, tWF (sh 25 a) (S 3))) := rfl
theorem cW_c3 (G : Gx) (a : Nat → Nat) (S : Nat → St) : [25, 26].map (fun i => (cW G a S)[i]?) = (tW G (sh 25 a) (S 3)).map some := rfl
theorem cW_s3 (G : Gx) (a : Nat → Nat) (S : Nat → St) (u : St) : setAll (cW G a S) [25, 26] (tW G (sh 25 a) u) = cW G a (sS S 3 u) := by
  refine (show setAll (cW G a S) [25, 26] (tW G (sh 25 a) u) = setAll ([(a 0, .inr (4, cWF a S))] ++ (cW G a S).tail) (((([0, 1].map (fun i => 8 + i)).map (fun i => 8 + i)).map (fun i => 8 + i)).map (fun i => 1 + i)) (tW G (sh 25 a) u) from rfl).trans ?_
  rw [set_r (n := 1) rfl]
  rw [show (cW G a S).tail = (vW G (sh 1 a) (S 0) ++ (vW G (sh 9 a) (S 1) ++ (vW G (sh 17 a) (S 2) ++ (tW G (sh 25 a) (S 3) ++ (rW G (sh 27 a) (S 4) ++ (pW G (sh 29 a) (S 5) ++ [(a 31, .inl (gI G, 7, .inl (S 6 0)))])))))) from rfl]
  rw [set_r (n := 8) (vW_n G (sh 1 a) (S 0))]
  rw [set_r (n := 8) (vW_n G (sh 9 a) (S 1))]
  rw [set_r (n := 8) (vW_n G (sh 17 a) (S 2))]
  rw [set_l (Wc := []) (fun i hi => by rw [tW_n]; have : i ∈ List.range 2 := hi; exact List.mem_range.mp this), tW_s]
  rfl
theorem cW_i3 (G : Gx) (a : Nat → Nat) (S : Nat → St) : setAll (cW G a S) [25, 26] (tW G (sh 25 a) (S 3)) = cW G a S := (cW_s3 G a S (S 3)).trans (congrArg (cW G a) (funext fun j => by unfold sS; split <;> simp_all))
theorem cW_d3 : va_nd [25, 26] = true := by decide +kernel
theorem cW_q3_1 (G : Gx) (a : Nat → Nat) (S : Nat → St) (x : Int32) : (cW G a S).set 25 (a 25, .inr (2, (tWF (sh 25 a) (S 3)).set 1 (.int x))) = cW G a (sS S 3 (sA (S 3) 1 (upd (S 3 1) 0 x))) := rfl
theorem cW_o4 (G : Gx) (a : Nat → Nat) (S : Nat → St) : (cW G a S)[27]? = some (a 27, .inr (1, rWF (sh 27 a) (S 4))) := rfl
theorem cW_c4 (G : Gx) (a : Nat → Nat) (S : Nat → St) : [27, 28].map (fun i => (cW G a S)[i]?) = (rW G (sh 27 a) (S 4)).map some := rfl
theorem cW_s4 (G : Gx) (a : Nat → Nat) (S : Nat → St) (u : St) : setAll (cW G a S) [27, 28] (rW G (sh 27 a) u) = cW G a (sS S 4 u) := by
  refine (show setAll (cW G a S) [27, 28] (rW G (sh 27 a) u) = setAll ([(a 0, .inr (4, cWF a S))] ++ (cW G a S).tail) ((((([0, 1].map (fun i => 2 + i)).map (fun i => 8 + i)).map (fun i => 8 + i)).map (fun i => 8 + i)).map (fun i => 1 + i)) (rW G (sh 27 a) u) from rfl).trans ?_
  rw [set_r (n := 1) rfl]
  rw [show (cW G a S).tail = (vW G (sh 1 a) (S 0) ++ (vW G (sh 9 a) (S 1) ++ (vW G (sh 17 a) (S 2) ++ (tW G (sh 25 a) (S 3) ++ (rW G (sh 27 a) (S 4) ++ (pW G (sh 29 a) (S 5) ++ [(a 31, .inl (gI G, 7, .inl (S 6 0)))])))))) from rfl]
  rw [set_r (n := 8) (vW_n G (sh 1 a) (S 0))]
  rw [set_r (n := 8) (vW_n G (sh 9 a) (S 1))]
  rw [set_r (n := 8) (vW_n G (sh 17 a) (S 2))]
  rw [set_r (n := 2) (tW_n G (sh 25 a) (S 3))]
  rw [set_l (Wc := []) (fun i hi => by rw [rW_n]; have : i ∈ List.range 2 := hi; exact List.mem_range.mp this), rW_s]
  rfl
theorem cW_i4 (G : Gx) (a : Nat → Nat) (S : Nat → St) : setAll (cW G a S) [27, 28] (rW G (sh 27 a) (S 4)) = cW G a S := (cW_s4 G a S (S 4)).trans (congrArg (cW G a) (funext fun j => by unfold sS; split <;> simp_all))
theorem cW_d4 : va_nd [27, 28] = true := by decide +kernel
theorem cW_q4_1 (G : Gx) (a : Nat → Nat) (S : Nat → St) (x : Int32) : (cW G a S).set 27 (a 27, .inr (1, (rWF (sh 27 a) (S 4)).set 1 (.int x))) = cW G a (sS S 4 (sA (S 4) 1 (upd (S 4 1) 0 x))) := rfl
theorem cW_o5 (G : Gx) (a : Nat → Nat) (S : Nat → St) : (cW G a S)[29]? = some (a 29, .inr (0, pWF (sh 29 a) (S 5))) := rfl
theorem cW_c5 (G : Gx) (a : Nat → Nat) (S : Nat → St) : [29, 30].map (fun i => (cW G a S)[i]?) = (pW G (sh 29 a) (S 5)).map some := rfl
theorem cW_s5 (G : Gx) (a : Nat → Nat) (S : Nat → St) (u : St) : setAll (cW G a S) [29, 30] (pW G (sh 29 a) u) = cW G a (sS S 5 u) := by
  refine (show setAll (cW G a S) [29, 30] (pW G (sh 29 a) u) = setAll ([(a 0, .inr (4, cWF a S))] ++ (cW G a S).tail) (((((([0, 1].map (fun i => 2 + i)).map (fun i => 2 + i)).map (fun i => 8 + i)).map (fun i => 8 + i)).map (fun i => 8 + i)).map (fun i => 1 + i)) (pW G (sh 29 a) u) from rfl).trans ?_
  rw [set_r (n := 1) rfl]
  rw [show (cW G a S).tail = (vW G (sh 1 a) (S 0) ++ (vW G (sh 9 a) (S 1) ++ (vW G (sh 17 a) (S 2) ++ (tW G (sh 25 a) (S 3) ++ (rW G (sh 27 a) (S 4) ++ (pW G (sh 29 a) (S 5) ++ [(a 31, .inl (gI G, 7, .inl (S 6 0)))])))))) from rfl]
  rw [set_r (n := 8) (vW_n G (sh 1 a) (S 0))]
  rw [set_r (n := 8) (vW_n G (sh 9 a) (S 1))]
  rw [set_r (n := 8) (vW_n G (sh 17 a) (S 2))]
  rw [set_r (n := 2) (tW_n G (sh 25 a) (S 3))]
  rw [set_r (n := 2) (rW_n G (sh 27 a) (S 4))]
  rw [set_l (Wc := []) (fun i hi => by rw [pW_n]; have : i ∈ List.range 2 := hi; exact List.mem_range.mp this), pW_s]
  rfl
theorem cW_i5 (G : Gx) (a : Nat → Nat) (S : Nat → St) : setAll (cW G a S) [29, 30] (pW G (sh 29 a) (S 5)) = cW G a S := (cW_s5 G a S (S 5)).trans (congrArg (cW G a) (funext fun j => by unfold sS; split <;> simp_all))
theorem cW_d5 : va_nd [29, 30] = true := by decide +kernel
theorem cW_q5_1 (G : Gx) (a : Nat → Nat) (S : Nat → St) (x : Int32) : (cW G a S).set 29 (a 29, .inr (0, (pWF (sh 29 a) (S 5)).set 1 (.int x))) = cW G a (sS S 5 (sA (S 5) 1 (upd (S 5 1) 0 x))) := rfl
