def f_J6_bitCount_0f7a4 (x0 : Int32) : Option (Int32) :=
    some ((((((((x0 - (((x0.toUInt32 >>> ((1 : Int32).toUInt32 &&& Int32.toUInt32 31)).toInt32) &&& (1431655765 : Int32))) &&& (858993459 : Int32)) + ((((x0 - (((x0.toUInt32 >>> ((1 : Int32).toUInt32 &&& Int32.toUInt32 31)).toInt32) &&& (1431655765 : Int32))).toUInt32 >>> ((2 : Int32).toUInt32 &&& Int32.toUInt32 31)).toInt32) &&& (858993459 : Int32))) + (((((x0 - (((x0.toUInt32 >>> ((1 : Int32).toUInt32 &&& Int32.toUInt32 31)).toInt32) &&& (1431655765 : Int32))) &&& (858993459 : Int32)) + ((((x0 - (((x0.toUInt32 >>> ((1 : Int32).toUInt32 &&& Int32.toUInt32 31)).toInt32) &&& (1431655765 : Int32))).toUInt32 >>> ((2 : Int32).toUInt32 &&& Int32.toUInt32 31)).toInt32) &&& (858993459 : Int32))).toUInt32 >>> ((4 : Int32).toUInt32 &&& Int32.toUInt32 31)).toInt32)) &&& (252645135 : Int32)) + (((((((x0 - (((x0.toUInt32 >>> ((1 : Int32).toUInt32 &&& Int32.toUInt32 31)).toInt32) &&& (1431655765 : Int32))) &&& (858993459 : Int32)) + ((((x0 - (((x0.toUInt32 >>> ((1 : Int32).toUInt32 &&& Int32.toUInt32 31)).toInt32) &&& (1431655765 : Int32))).toUInt32 >>> ((2 : Int32).toUInt32 &&& Int32.toUInt32 31)).toInt32) &&& (858993459 : Int32))) + (((((x0 - (((x0.toUInt32 >>> ((1 : Int32).toUInt32 &&& Int32.toUInt32 31)).toInt32) &&& (1431655765 : Int32))) &&& (858993459 : Int32)) + ((((x0 - (((x0.toUInt32 >>> ((1 : Int32).toUInt32 &&& Int32.toUInt32 31)).toInt32) &&& (1431655765 : Int32))).toUInt32 >>> ((2 : Int32).toUInt32 &&& Int32.toUInt32 31)).toInt32) &&& (858993459 : Int32))).toUInt32 >>> ((4 : Int32).toUInt32 &&& Int32.toUInt32 31)).toInt32)) &&& (252645135 : Int32)).toUInt32 >>> ((8 : Int32).toUInt32 &&& Int32.toUInt32 31)).toInt32)) + ((((((((x0 - (((x0.toUInt32 >>> ((1 : Int32).toUInt32 &&& Int32.toUInt32 31)).toInt32) &&& (1431655765 : Int32))) &&& (858993459 : Int32)) + ((((x0 - (((x0.toUInt32 >>> ((1 : Int32).toUInt32 &&& Int32.toUInt32 31)).toInt32) &&& (1431655765 : Int32))).toUInt32 >>> ((2 : Int32).toUInt32 &&& Int32.toUInt32 31)).toInt32) &&& (858993459 : Int32))) + (((((x0 - (((x0.toUInt32 >>> ((1 : Int32).toUInt32 &&& Int32.toUInt32 31)).toInt32) &&& (1431655765 : Int32))) &&& (858993459 : Int32)) + ((((x0 - (((x0.toUInt32 >>> ((1 : Int32).toUInt32 &&& Int32.toUInt32 31)).toInt32) &&& (1431655765 : Int32))).toUInt32 >>> ((2 : Int32).toUInt32 &&& Int32.toUInt32 31)).toInt32) &&& (858993459 : Int32))).toUInt32 >>> ((4 : Int32).toUInt32 &&& Int32.toUInt32 31)).toInt32)) &&& (252645135 : Int32)) + (((((((x0 - (((x0.toUInt32 >>> ((1 : Int32).toUInt32 &&& Int32.toUInt32 31)).toInt32) &&& (1431655765 : Int32))) &&& (858993459 : Int32)) + ((((x0 - (((x0.toUInt32 >>> ((1 : Int32).toUInt32 &&& Int32.toUInt32 31)).toInt32) &&& (1431655765 : Int32))).toUInt32 >>> ((2 : Int32).toUInt32 &&& Int32.toUInt32 31)).toInt32) &&& (858993459 : Int32))) + (((((x0 - (((x0.toUInt32 >>> ((1 : Int32).toUInt32 &&& Int32.toUInt32 31)).toInt32) &&& (1431655765 : Int32))) &&& (858993459 : Int32)) + ((((x0 - (((x0.toUInt32 >>> ((1 : Int32).toUInt32 &&& Int32.toUInt32 31)).toInt32) &&& (1431655765 : Int32))).toUInt32 >>> ((2 : Int32).toUInt32 &&& Int32.toUInt32 31)).toInt32) &&& (858993459 : Int32))).toUInt32 >>> ((4 : Int32).toUInt32 &&& Int32.toUInt32 31)).toInt32)) &&& (252645135 : Int32)).toUInt32 >>> ((8 : Int32).toUInt32 &&& Int32.toUInt32 31)).toInt32)).toUInt32 >>> ((16 : Int32).toUInt32 &&& Int32.toUInt32 31)).toInt32)) &&& (63 : Int32))
def f_X7_has (x0 : Int32) (x1 : Int32) : Option (Int32) :=
    (if x1 < 0 then some (0 : Int32) else (if (32 : Int32) ≤ x1 then some (0 : Int32) else (if ((x0 >>> (x1 &&& 31)) &&& (1 : Int32)) = (1 : Int32) then some (1 : Int32) else some (0 : Int32))))
def f_X6_isUnmarried (v : St) (x1 : Int32) : Option (Int32) :=
    (f_X7_has (v 7 4) x1).bind (fun q4 => (if q4 = 0 then some (1 : Int32) else some (0 : Int32)))
def f_X7_at (N0 : Nat) (f : Nat → Int32) (x1 : Int32) : Option (Int32) :=
    (if x1 < 0 then some (0 : Int32) else (if (Int32.ofNat N0) ≤ x1 then some (0 : Int32) else gd (inB x1 N0) (some (f x1.toNatClampNeg))))
def f_X6_hereThen_4 (v : St) (x1 : Int32) : Nat → Int32 → Int32 → Option (Int32)
  | 0, _, _ => none
  | n + 1, x2, x3 =>
    (if (v 7 1) ≤ x3 then some x2 else (f_X7_has (v 7 2) x3).bind (fun q10 => (if q10 = 0 then (f_X7_at 8 (v 3) x3).bind (fun q11 => (if x1 < q11 then f_X6_hereThen_4 v x1 n x2 (x3 + (1 : Int32))  else f_X6_hereThen_4 v x1 n (x2 ||| ((1 : Int32) <<< (x3 &&& 31))) (x3 + (1 : Int32)) )) else f_X6_hereThen_4 v x1 n x2 (x3 + (1 : Int32)) )))
def f_X6_hereThen (v : St) (x1 : Int32) : Option (Int32) :=
    f_X6_hereThen_4 v x1 FUEL (0 : Int32) (0 : Int32)
def f_X6_showsAs_62 (x2 : Int32) (x5 : Int32) (x6 : Int32) (x7 : Int32) (s0 : Int32) : Option (Int32) :=
    (if x2 = (1 : Int32) then some x6 else if x2 = (2 : Int32) then some x7 else if x2 = (3 : Int32) then some s0 else if x2 = (4 : Int32) then some (x6 ^^^ x5) else if x2 = (5 : Int32) then some (s0 &&& (-34 : Int32)) else some x5)
def f_X6_showsAs_29 (v : St) (x2 : Int32) (x3 : Int32) (x4 : Int32) (x5 : Int32) (s0 : Int32) : Option (Int32) :=
    (if (((v 7 0) + x4) - ((v 7 0) + x4) / (2 : Int32) * (2 : Int32)) = (1 : Int32) then f_X6_showsAs_62 x2 x5 s0 (x5 ^^^ ((1 : Int32) <<< ((x3 - x3 / (6 : Int32) * (6 : Int32)) &&& 31))) (x5 ^^^ ((1 : Int32) <<< ((x3 - x3 / (6 : Int32) * (6 : Int32)) &&& 31))) else f_X6_showsAs_62 x2 x5 s0 (x5 ^^^ ((1 : Int32) <<< ((x3 - x3 / (6 : Int32) * (6 : Int32)) &&& 31))) x5)
def f_X6_showsAs (v : St) (x1 : Int32) (x2 : Int32) (x3 : Int32) (x4 : Int32) : Option (Int32) :=
    (f_X7_at 8 (v 2) x1).bind (fun q20 => (if x1 ≤ 0 then f_X6_showsAs_29 v x2 x3 x4 q20 q20 else (f_X7_at 8 (v 2) (x1 - (1 : Int32))).bind (fun q21 => f_X6_showsAs_29 v x2 x3 x4 q20 q21)))
def f_X6_guessesBy_25 (v : St) (x2 : Int32) (x3 : Int32) (x4 : Int32) (x5 : Int32) : Nat → Int32 → Int32 → Option (Int32)
  | 0, _, _ => none
  | n + 1, x6, x7 =>
    (if (v 7 1) ≤ x7 then some x6 else (f_X7_at 8 (v 0) x7).bind (fun q37 => (f_X7_at 8 (v 1) x7).bind (fun q38 => (f_X6_showsAs v x7 q37 q38 x3).bind (fun q39 => (f_X7_has x5 x7).bind (fun q40 => (if q40 = 0 then f_X6_guessesBy_25 v x2 x3 x4 x5 n x6 (x7 + (1 : Int32))  else (if (q39 &&& x2) = x4 then f_X6_guessesBy_25 v x2 x3 x4 x5 n (x6 ||| ((1 : Int32) <<< (x7 &&& 31))) (x7 + (1 : Int32))  else f_X6_guessesBy_25 v x2 x3 x4 x5 n x6 (x7 + (1 : Int32)) )))))))
def f_X6_guessesBy (v : St) (x1 : Int32) (x2 : Int32) (x3 : Int32) : Option (Int32) :=
    (f_X7_at 5 (v 5) x1).bind (fun q35 => (f_X6_hereThen v x3).bind (fun q36 => f_X6_guessesBy_25 v x2 x3 (q35 &&& x2) q36 FUEL (0 : Int32) (0 : Int32)))
def f_X7_bitAt_4 (x0 : Int32) : Nat → Int32 → Int32 → Option (Int32)
  | 0, _, _ => none
  | n + 1, x2, x3 =>
    (if (32 : Int32) ≤ x3 then some (-9 : Int32) else (f_X7_has x0 x3).bind (fun q53 => (if q53 = 0 then f_X7_bitAt_4 x0 n x2 (x3 + (1 : Int32))  else (if x2 = 0 then some x3 else f_X7_bitAt_4 x0 n (x2 + (-1 : Int32)) (x3 + (1 : Int32)) ))))
def f_X7_bitAt (x0 : Int32) (x1 : Int32) : Option (Int32) :=
    f_X7_bitAt_4 x0 FUEL x1 (0 : Int32)
def f_X7_onlyOne (x0 : Int32) : Option (Int32) :=
    (f_J6_bitCount_0f7a4 x0).bind (fun q61 => (if q61 = (1 : Int32) then (f_X7_bitAt x0 (0 : Int32)).bind (fun q62 => some q62) else some (-9 : Int32)))
def f_X6_knows (v : St) (x1 : Int32) (x2 : Int32) : Option (Int32) :=
    (f_X7_at 5 (v 4) x1).bind (fun q66 => (f_X6_guessesBy v x1 q66 x2).bind (fun q67 => (f_X7_onlyOne q67).bind (fun q68 => some q68)))
def f_X6_knownBits_31 (x1 : Int32) (x2 : Int32) (s0 : Int32) (B : (Int32 → Int32 → Option (Int32))) : Option (Int32) :=
    (if s0 = (-9 : Int32) then B x1 (x2 + (1 : Int32)) else B (x1 ||| ((1 : Int32) <<< (s0 &&& 31))) (x2 + (1 : Int32)))
def f_X6_knownBits_4 (v : St) : Nat → Int32 → Int32 → Option (Int32)
  | 0, _, _ => none
  | n + 1, x1, x2 =>
    (if (v 7 3) ≤ x2 then some x1 else (f_X6_isUnmarried v x2).bind (fun q72 => (if q72 = 0 then f_X6_knownBits_31 x1 x2 (-9 : Int32) (fun (x1_73 : Int32) (x2_74 : Int32) => f_X6_knownBits_4 v n x1_73 x2_74 ) else (f_X6_knows v x2 (0 : Int32)).bind (fun q75 => f_X6_knownBits_31 x1 x2 q75 (fun (x1_76 : Int32) (x2_77 : Int32) => f_X6_knownBits_4 v n x1_76 x2_77 )))))
def f_X6_knownBits (v : St) : Option (Int32) :=
    f_X6_knownBits_4 v FUEL (0 : Int32) (0 : Int32)
def f_X6_placeOf (v : St) (x1 : Int32) : Option (Int32) :=
    (f_X7_has (v 7 2) x1).bind (fun q90 => (if q90 = 0 then (f_X7_at 8 (v 3) x1).bind (fun q91 => (if q91 ≤ 0 then some (0 : Int32) else some (1 : Int32))) else some (2 : Int32)))
def f_X6_isHere (v : St) (x1 : Int32) : Option (Int32) :=
    (f_X6_placeOf v x1).bind (fun q96 => (if q96 = 0 then some (1 : Int32) else some (0 : Int32)))
def f_X7_copy_11 (N0 : Nat) (f : (Nat → Int32)) (N1 : Nat) : Nat → Int32 → (Nat → Int32) → Option ((Nat → Int32))
  | 0, _, _ => none
  | n + 1, x2, g =>
    (if (Int32.ofNat N0) ≤ x2 then some g else (if (Int32.ofNat N1) ≤ x2 then some g else gd (inB x2 N0) (gd (inB x2 N1) (f_X7_copy_11 N0 f N1 n (x2 + (1 : Int32)) (upd g x2.toNatClampNeg (f x2.toNatClampNeg)) ))))
def f_X7_copy (N0 : Nat) (f : Nat → Int32) (N1 : Nat) (g : Nat → Int32) : Option ((Nat → Int32)) :=
    f_X7_copy_11 N0 f N1 FUEL (0 : Int32) g
def f_X6_become (v : St) (u : St) : Option (St) :=
    (f_X7_copy 8 (u 0) 8 (v 0)).bind (fun q106 => (f_X7_copy 8 (u 1) 8 (v 1)).bind (fun q107 => (f_X7_copy 8 (u 2) 8 (v 2)).bind (fun q108 => (f_X7_copy 8 (u 3) 8 (v 3)).bind (fun q109 => (f_X7_copy 5 (u 4) 5 (v 4)).bind (fun q110 => (f_X7_copy 5 (u 5) 5 (v 5)).bind (fun q111 => (f_X7_copy 5 (u 6) 5 (v 6)).bind (fun q112 => some (sA (sA (sA (sA (sA (sA (sA (sA v 7 (upd (upd (upd (upd (upd (v 7) 0 (u 7 0)) 1 (u 7 1)) 2 (u 7 2)) 3 (u 7 3)) 4 (u 7 4))) 0 q106) 1 q107) 2 q108) 3 q109) 4 q110) 5 q111) 6 q112))))))))
def f_X7_put (N0 : Nat) (f : Nat → Int32) (x1 : Int32) (x2 : Int32) : Option ((Nat → Int32)) :=
    (if x1 < 0 then some f else (if (Int32.ofNat N0) ≤ x1 then some f else gd (inB x1 N0) (some (upd f x1.toNatClampNeg x2))))
def f_X6_sendHome (v : St) (x1 : Int32) (x2 : Int32) : Option (St) :=
    (f_X7_put 8 (v 3) x1 x2).bind (fun q123 => some (sA v 3 q123))
def f_X0_bestAway_14 (v : St) : Nat → Int32 → Int32 → Int32 → St → Option (Int32 × St)
  | 0, _, _, _, _ => none
  | n + 1, x2, x3, x4, u =>
    (if (v 7 1) ≤ x4 then some (x3, u) else (f_X6_isHere v x4).bind (fun q127 => (if q127 = 0 then f_X0_bestAway_14 v n x2 x3 (x4 + (1 : Int32)) u  else (f_X6_become u v).bind (fun q128 => (f_X6_sendHome q128 x4 (1 : Int32)).bind (fun q129 => (f_X6_knownBits q129).bind (fun q130 => (f_J6_bitCount_0f7a4 q130).bind (fun q131 => (if x2 ≤ q131 then f_X0_bestAway_14 v n x2 x3 (x4 + (1 : Int32)) q129  else f_X0_bestAway_14 v n q131 x4 (x4 + (1 : Int32)) q129 ))))))))
def f_X0_bestAway (v : St) (u : St) : Option (Int32 × St) :=
    (f_X6_knownBits v).bind (fun q125 => (f_J6_bitCount_0f7a4 q125).bind (fun q126 => f_X0_bestAway_14 v FUEL q126 (-9 : Int32) (0 : Int32) u))
def f_X6_footOf (v : St) (x1 : Int32) : Option (Int32) :=
    (f_X7_at 8 (v 2) x1).bind (fun q147 => some q147)
def f_X6_changeToes (v : St) (x1 : Int32) (x2 : Int32) : Option (St) :=
    (f_X6_footOf v x1).bind (fun q149 => (f_X7_put 8 (v 2) x1 (q149 ^^^ x2)).bind (fun q150 => some (sA v 2 q150)))
def f_X0_change (v : St) (u : St) (x2 : Int32) (x3 : Int32) (x4 : Int32) (x5 : Int32) : Option (St) :=
    (f_X6_become u v).bind (fun q153 => (f_X6_changeToes q153 x2 x3).bind (fun q154 => (f_X6_changeToes q154 x4 x5).bind (fun q155 => some q155)))
def f_X6_guesses (v : St) (x1 : Int32) (x2 : Int32) : Option (Int32) :=
    (f_X7_at 5 (v 4) x1).bind (fun q159 => (f_X6_guessesBy v x1 q159 x2).bind (fun q160 => some q160))
def f_X0_costOf_44 (x1 : Int32) (x3 : Int32) (x4 : Int32) (x2 : Int32) (B : (Int32 → Int32 → Option (Int32))) : Option (Int32) :=
    (f_X7_has x4 x1).bind (fun q165 => (if q165 = 0 then B x2 (x3 + (1 : Int32)) else B (x2 + (-1 : Int32)) (x3 + (1 : Int32))))
def f_X0_costOf_30 (x1 : Int32) (x2 : Int32) (x3 : Int32) (s0 : Int32) (B : (Int32 → Int32 → Option (Int32))) : Option (Int32) :=
    (f_X7_onlyOne s0).bind (fun q164 => (if q164 = x1 then f_X0_costOf_44 x1 x3 s0 (x2 + (10 : Int32)) B else f_X0_costOf_44 x1 x3 s0 x2 B))
def f_X0_costOf_4 (v : St) (x1 : Int32) : Nat → Int32 → Int32 → Option (Int32)
  | 0, _, _ => none
  | n + 1, x2, x3 =>
    (if (v 7 3) ≤ x3 then some x2 else (f_X6_isUnmarried v x3).bind (fun q163 => (if q163 = 0 then f_X0_costOf_30 x1 x2 x3 (0 : Int32) (fun (x2_166 : Int32) (x3_167 : Int32) => f_X0_costOf_4 v x1 n x2_166 x3_167 ) else (f_X6_guesses v x3 (0 : Int32)).bind (fun q168 => f_X0_costOf_30 x1 x2 x3 q168 (fun (x2_169 : Int32) (x3_170 : Int32) => f_X0_costOf_4 v x1 n x2_169 x3_170 )))))
def f_X0_costOf (v : St) (x1 : Int32) : Option (Int32) :=
    f_X0_costOf_4 v x1 FUEL (0 : Int32) (0 : Int32)
def f_X6_lookOf (v : St) (x1 : Int32) : Option (Int32) :=
    (f_X7_at 5 (v 4) x1).bind (fun q190 => some q190)
def f_X0_fewestForgotten_44 (v : St) (x1 : Int32) (x2 : Int32) (x5 : Int32) (x6 : Int32) (s0 : Int32) (B : (Int32 → Option (Int32))) : Option (Int32) :=
    (if s0 = 0 then B (x5 + (1 : Int32)) else (f_X6_guessesBy v x1 (x2 &&& (x6 ^^^ (-1 : Int32))) (0 : Int32)).bind (fun q193 => (f_X7_onlyOne q193).bind (fun q194 => (if q194 = (-9 : Int32) then some x6 else B (x5 + (1 : Int32))))))
def f_X0_fewestForgotten_17 (v : St) (x1 : Int32) (x2 : Int32) (x4 : Int32) : Nat → Int32 → Option (Int32)
  | 0, _ => none
  | n + 1, x5 =>
    (if x4 ≤ x5 then some (-9 : Int32) else gd (inB x5 64) ((if ((ffT x5.toNatClampNeg) &&& (x2 ^^^ (-1 : Int32))) = 0 then f_X0_fewestForgotten_44 v x1 x2 x5 (ffT x5.toNatClampNeg) (1 : Int32) (fun (x5_196 : Int32) => f_X0_fewestForgotten_17 v x1 x2 x4 n x5_196 ) else f_X0_fewestForgotten_44 v x1 x2 x5 (ffT x5.toNatClampNeg) (0 : Int32) (fun (x5_195 : Int32) => f_X0_fewestForgotten_17 v x1 x2 x4 n x5_195 ))))
def f_X0_fewestForgotten (v : St) (x1 : Int32) : Option (Int32) :=
    (f_X6_lookOf v x1).bind (fun q192 => f_X0_fewestForgotten_17 v x1 q192 (64 : Int32) FUEL (0 : Int32))
def f_X0_fewestToes_11 (v : St) (x2 : Int32) (x4 : Int32) : Nat → Int32 → St → Option (Int32 × St)
  | 0, _, _ => none
  | n + 1, x5, u =>
    (if x4 ≤ x5 then some ((-9 : Int32), u) else gd (inB x5 64) ((f_X6_become u v).bind (fun q210 => (f_X6_changeToes q210 x2 (ffT x5.toNatClampNeg)).bind (fun q211 => (f_X6_knownBits q211).bind (fun q212 => (f_X7_has q212 x2).bind (fun q213 => (if q213 = 0 then some ((ffT x5.toNatClampNeg), q211) else f_X0_fewestToes_11 v x2 x4 n (x5 + (1 : Int32)) q211 )))))))
def f_X0_fewestToes (v : St) (u : St) (x2 : Int32) : Option (Int32 × St) :=
    f_X0_fewestToes_11 v x2 (64 : Int32) FUEL (0 : Int32) u
def f_X0_firstRest_101 (u : St) (x4 : Int32) (x5 : Int32) (x8 : Int32) (s0 : Int32) (B : (Int32 → St → Option (Int32 × St))) : Option (Int32 × St) :=
    (if x8 = 0 then B (x5 + (1 : Int32)) u else (if s0 = 0 then B (x5 + (1 : Int32)) u else some ((((10 : Int32) * x4) + x5), u)))
def f_X0_firstRest_71 (v : St) (u : St) (x2 : Int32) (x3 : Int32) (x4 : Int32) (x5 : Int32) (x7 : Int32) (s0 : Int32) (B : (Int32 → St → Option (Int32 × St))) : Option (Int32 × St) :=
    (f_X0_change v u x2 x4 x3 ((1 : Int32) - x5)).bind (fun q229 => (f_X0_costOf q229 x3).bind (fun q230 => (if q230 < x7 then f_X0_firstRest_101 q229 x4 x5 s0 (0 : Int32) B else f_X0_firstRest_101 q229 x4 x5 s0 (1 : Int32) B)))
def f_X0_firstRest_12 (v : St) (x2 : Int32) (x3 : Int32) (x4 : Int32) : Nat → Int32 → St → (St → Option (Int32 × St)) → Option (Int32 × St)
  | 0, _, _, _ => none
  | n + 1, x5, u, K12_128 =>
    (if (1 : Int32) < x5 then K12_128 u else (f_X0_change v u x2 x4 x3 x5).bind (fun q224 => (f_X0_costOf q224 x2).bind (fun q225 => (f_X0_costOf q224 x3).bind (fun q226 => (f_X0_change v q224 x2 ((1 : Int32) - x4) x3 x5).bind (fun q227 => (f_X0_costOf q227 x2).bind (fun q228 => (if q228 < q225 then f_X0_firstRest_71 v q227 x2 x3 x4 x5 q226 (0 : Int32) (fun (x5_231 : Int32) (u_232 : St) => f_X0_firstRest_12 v x2 x3 x4 n x5_231 u_232 K12_128) else f_X0_firstRest_71 v q227 x2 x3 x4 x5 q226 (1 : Int32) (fun (x5_233 : Int32) (u_234 : St) => f_X0_firstRest_12 v x2 x3 x4 n x5_233 u_234 K12_128))))))))
def f_X0_firstRest_3 (v : St) (x2 : Int32) (x3 : Int32) : Nat → Int32 → St → Option (Int32 × St)
  | 0, _, _ => none
  | n + 1, x4, u =>
    (if (1 : Int32) < x4 then some ((-9 : Int32), u) else f_X0_firstRest_12 v x2 x3 x4 FUEL (0 : Int32) u (fun (u_235 : St) => f_X0_firstRest_3 v x2 x3 n (x4 + (1 : Int32)) u_235 ))
def f_X0_firstRest (v : St) (u : St) (x2 : Int32) (x3 : Int32) : Option (Int32 × St) :=
    f_X0_firstRest_3 v x2 x3 FUEL (0 : Int32) u
def f_X6_shows (v : St) (x1 : Int32) (x2 : Int32) : Option (Int32) :=
    (f_X7_at 8 (v 0) x1).bind (fun q265 => (f_X7_at 8 (v 1) x1).bind (fun q266 => (f_X6_showsAs v x1 q265 q266 x2).bind (fun q267 => some q267)))
def f_X1_areAlike (v : St) (x1 : Int32) (x2 : Int32) (x3 : Int32) : Option (Int32) :=
    (f_X6_isHere v x1).bind (fun q271 => (if q271 = 0 then some (0 : Int32) else (f_X6_isHere v x2).bind (fun q272 => (if q272 = 0 then some (0 : Int32) else (f_X6_shows v x1 (0 : Int32)).bind (fun q273 => (f_X6_shows v x2 (0 : Int32)).bind (fun q274 => (if (q273 &&& x3) = (q274 &&& x3) then some (1 : Int32) else some (0 : Int32))))))))
def f_X1_firstTwoBy_14 (v : St) (x1 : Int32) (x2 : Int32) : Nat → Int32 → (Unit → Option (Int32)) → Option (Int32)
  | 0, _, _ => none
  | n + 1, x3, K14_45 =>
    (if (v 7 1) ≤ x3 then K14_45 () else (f_X1_areAlike v x2 x3 x1).bind (fun q282 => (if q282 = 0 then f_X1_firstTwoBy_14 v x1 x2 n (x3 + (1 : Int32)) K14_45 else some (((10 : Int32) * x2) + x3))))
def f_X1_firstTwoBy_2 (v : St) (x1 : Int32) : Nat → Int32 → Option (Int32)
  | 0, _ => none
  | n + 1, x2 =>
    (if (v 7 1) ≤ x2 then some (-9 : Int32) else f_X1_firstTwoBy_14 v x1 x2 FUEL (x2 + (1 : Int32)) (fun (_ : Unit) => f_X1_firstTwoBy_2 v x1 n (x2 + (1 : Int32)) ))
def f_X1_firstTwoBy (v : St) (x1 : Int32) : Option (Int32) :=
    f_X1_firstTwoBy_2 v x1 FUEL (0 : Int32)
def f_X1_fewestLooks_9 (v : St) (x2 : Int32) : Nat → Int32 → Option (Int32)
  | 0, _ => none
  | n + 1, x3 =>
    (if x2 ≤ x3 then some (-9 : Int32) else gd (inB x3 64) ((f_X1_firstTwoBy v (ffT x3.toNatClampNeg)).bind (fun q291 => (if q291 = (-9 : Int32) then some (ffT x3.toNatClampNeg) else f_X1_fewestLooks_9 v x2 n (x3 + (1 : Int32)) ))))
def f_X1_fewestLooks (v : St) : Option (Int32) :=
    f_X1_fewestLooks_9 v (64 : Int32) FUEL (0 : Int32)
def f_X1_firstTwo (v : St) : Option (Int32) :=
    (f_X1_firstTwoBy v (63 : Int32)).bind (fun q298 => some q298)
def f_X1_howManyShow_4 (v : St) (x1 : Int32) : Nat → Int32 → Int32 → Option (Int32)
  | 0, _, _ => none
  | n + 1, x2, x3 =>
    (if (v 7 1) ≤ x3 then some x2 else (f_X6_isHere v x3).bind (fun q300 => (if q300 = 0 then f_X1_howManyShow_4 v x1 n x2 (x3 + (1 : Int32))  else (f_X6_shows v x3 (0 : Int32)).bind (fun q301 => (if q301 = x1 then f_X1_howManyShow_4 v x1 n (x2 + (1 : Int32)) (x3 + (1 : Int32))  else f_X1_howManyShow_4 v x1 n x2 (x3 + (1 : Int32)) )))))
def f_X1_howManyShow (v : St) (x1 : Int32) : Option (Int32) :=
    f_X1_howManyShow_4 v x1 FUEL (0 : Int32) (0 : Int32)
def f_X1_greatest_4 (v : St) : Nat → Int32 → Int32 → Option (Int32)
  | 0, _, _ => none
  | n + 1, x1, x2 =>
    (if (63 : Int32) < x2 then some x1 else (f_X1_howManyShow v x2).bind (fun q310 => f_X1_greatest_4 v n (if x1 < q310 then q310 else x1) (x2 + (1 : Int32)) ))
def f_X1_greatest (v : St) : Option (Int32) :=
    f_X1_greatest_4 v FUEL (0 : Int32) (0 : Int32)
def f_X1_greatestShown_7 (v : St) : Nat → Int32 → Int32 → Int32 → Option (Int32)
  | 0, _, _, _ => none
  | n + 1, x1, x2, x3 =>
    (if (63 : Int32) < x3 then some x2 else (f_X1_howManyShow v x3).bind (fun q316 => (if q316 ≤ x1 then f_X1_greatestShown_7 v n x1 x2 (x3 + (1 : Int32))  else f_X1_greatestShown_7 v n q316 x3 (x3 + (1 : Int32)) )))
def f_X1_greatestShown (v : St) : Option (Int32) :=
    f_X1_greatestShown_7 v FUEL (0 : Int32) (-9 : Int32) (0 : Int32)
def f_X1_howFarApart_4 (v : St) (x1 : Int32) : Nat → Int32 → Int32 → (Int32 → Option (Int32)) → Option (Int32)
  | 0, _, _, _ => none
  | n + 1, x2, x3, K4_47 =>
    (if (v 7 1) ≤ x3 then K4_47 x2 else (f_X6_isHere v x3).bind (fun q324 => (if q324 = 0 then f_X1_howFarApart_4 v x1 n x2 (x3 + (1 : Int32)) K4_47 else (f_X6_shows v x3 (0 : Int32)).bind (fun q325 => (f_X7_has q325 x1).bind (fun q326 => (if q326 = 0 then f_X1_howFarApart_4 v x1 n (x2 + (-1 : Int32)) (x3 + (1 : Int32)) K4_47 else f_X1_howFarApart_4 v x1 n (x2 + (1 : Int32)) (x3 + (1 : Int32)) K4_47))))))
def f_X1_howFarApart (v : St) (x1 : Int32) : Option (Int32) :=
    f_X1_howFarApart_4 v x1 FUEL (0 : Int32) (0 : Int32) (fun (x2_327 : Int32) => some (if 0 ≤ x2_327 then x2_327 else 0 - x2_327))
def f_X1_tellingToe_7 (v : St) : Nat → Int32 → Int32 → Int32 → Option (Int32)
  | 0, _, _, _ => none
  | n + 1, x1, x2, x3 =>
    (if (6 : Int32) ≤ x3 then some x1 else (f_X1_howFarApart v x3).bind (fun q339 => (if x2 ≤ q339 then f_X1_tellingToe_7 v n x1 x2 (x3 + (1 : Int32))  else f_X1_tellingToe_7 v n x3 q339 (x3 + (1 : Int32)) )))
def f_X1_tellingToe (v : St) : Option (Int32) :=
    f_X1_tellingToe_7 v FUEL (0 : Int32) (9 : Int32) (0 : Int32)
def f_X1_twos_16 (v : St) (x2 : Int32) : Nat → Int32 → Int32 → (Int32 → Option (Int32)) → Option (Int32)
  | 0, _, _, _ => none
  | n + 1, x1, x3, K16_44 =>
    (if (v 7 1) ≤ x3 then K16_44 x1 else (f_X1_areAlike v x2 x3 (63 : Int32)).bind (fun q347 => (if q347 = 0 then f_X1_twos_16 v x2 n x1 (x3 + (1 : Int32)) K16_44 else f_X1_twos_16 v x2 n (x1 + (1 : Int32)) (x3 + (1 : Int32)) K16_44)))
def f_X1_twos_4 (v : St) : Nat → Int32 → Int32 → Option (Int32)
  | 0, _, _ => none
  | n + 1, x1, x2 =>
    (if (v 7 1) ≤ x2 then some x1 else f_X1_twos_16 v x2 FUEL x1 (x2 + (1 : Int32)) (fun (x1_348 : Int32) => f_X1_twos_4 v n x1_348 (x2 + (1 : Int32)) ))
def f_X1_twos (v : St) : Option (Int32) :=
    f_X1_twos_4 v FUEL (0 : Int32) (0 : Int32)
def f_X2_greatestDivisor_9 : Nat → Int64 → Int64 → Int32 → Option (Int64)
  | 0, _, _, _ => none
  | n + 1, y4, y6, x8 =>
    (if (100 : Int32) ≤ x8 then some y4 else (if (lg_cmp y6 (0 : Int64)) = 0 then some y4 else gd (nzL y6) (f_X2_greatestDivisor_9 n y6 (y4 - y4 / y6 * y6) (x8 + (1 : Int32)) )))
def f_X2_greatestDivisor (y0 : Int64) (y2 : Int64) : Option (Int64) :=
    f_X2_greatestDivisor_9 FUEL y0 y2 (0 : Int32)
def f_X2_partOf (y0 : Int64) (y2 : Int64) (x4 : Int32) : Option (Int64) :=
    (f_X2_greatestDivisor y0 y2).bind (fun q368 => (if (lg_cmp q368 (0 : Int64)) = 0 then some (x4.toInt64) else (if x4 = 0 then gd (nzL q368) (some (y0 / q368)) else gd (nzL q368) (some (y2 / q368)))))
def f_X2_meanToes_5 (v : St) : Nat → Int64 → Int32 → (Int64 → Option (Int64)) → Option (Int64)
  | 0, _, _, _ => none
  | n + 1, y2, x4, K5_33 =>
    (if (v 7 1) ≤ x4 then K5_33 y2 else (f_X6_footOf v x4).bind (fun q374 => (f_J6_bitCount_0f7a4 q374).bind (fun q375 => f_X2_meanToes_5 v n (y2 + (q375.toInt64)) (x4 + (1 : Int32)) K5_33)))
def f_X2_meanToes (v : St) (x1 : Int32) : Option (Int64) :=
    f_X2_meanToes_5 v FUEL (0 : Int64) (0 : Int32) (fun (x2_376 : Int64) => (f_X2_partOf x2_376 ((if (1 : Int32) < (v 7 1) then (v 7 1) else (1 : Int32)).toInt64) x1).bind (fun q377 => some q377))
def f_X6_choiceFrom (v : St) (x1 : Int32) : Option (Int32) :=
    (if x1 = 0 then (f_X6_hereThen v (0 : Int32)).bind (fun q387 => some q387) else some x1)
def f_X6_choiceOf (v : St) (x1 : Int32) : Option (Int32) :=
    (f_X6_guesses v x1 (0 : Int32)).bind (fun q390 => (f_X6_choiceFrom v q390).bind (fun q391 => some q391))
def f_X2_ofTaking_12 (v : St) (x1 : Int32) (x2 : Int32) : Nat → Int64 → Int64 → Int32 → Int32 → (Int64 → Int64 → Option (Int64)) → Option (Int64)
  | 0, _, _, _, _, _ => none
  | n + 1, y4, y6, x8, x9, K12_101 =>
    (if (v 7 3) ≤ x9 then K12_101 y4 y6 else (f_X6_isUnmarried v x9).bind (fun q394 => (if q394 = 0 then f_X2_ofTaking_12 v x1 x2 n y4 y6 x8 (x9 + (1 : Int32)) K12_101 else (if x2 ≤ x8 then f_X2_ofTaking_12 v x1 x2 n y4 y6 x8 (x9 + (1 : Int32)) K12_101 else (f_X6_choiceOf v x9).bind (fun q395 => (f_J6_bitCount_0f7a4 q395).bind (fun q396 => (f_X7_has q395 x1).bind (fun q397 => (if q397 = 0 then f_X2_ofTaking_12 v x1 x2 n (y4 * ((if (1 : Int32) < q396 then q396 else (1 : Int32)).toInt64)) (y6 * ((if (1 : Int32) < q396 then q396 else (1 : Int32)).toInt64)) (x8 + (1 : Int32)) (x9 + (1 : Int32)) K12_101 else f_X2_ofTaking_12 v x1 x2 n (y4 * ((if (1 : Int32) < q396 then q396 else (1 : Int32)).toInt64)) (y6 * ((q396 - (1 : Int32)).toInt64)) (x8 + (1 : Int32)) (x9 + (1 : Int32)) K12_101))))))))
def f_X2_ofTaking (v : St) (x1 : Int32) (x2 : Int32) (x3 : Int32) : Option (Int64) :=
    f_X2_ofTaking_12 v x1 x2 FUEL (1 : Int64) (1 : Int64) (0 : Int32) (0 : Int32) (fun (x4_398 : Int64) (x6_399 : Int64) => (f_X2_partOf (x4_398 - x6_399) x4_398 x3).bind (fun q400 => some q400))
def f_X3_mayHaveAny_5 (v : St) (x1 : Int32) (x2 : Int32) : Nat → Int32 → Int32 → Option (Int32)
  | 0, _, _ => none
  | n + 1, x3, x4 =>
    (if (5 : Int32) ≤ x4 then some x3 else (f_X7_has x1 x4).bind (fun q419 => (if q419 = 0 then f_X3_mayHaveAny_5 v x1 x2 n x3 (x4 + (1 : Int32))  else (f_X7_at 5 (v 0) (x2 + x4)).bind (fun q420 => f_X3_mayHaveAny_5 v x1 x2 n (x3 ||| q420) (x4 + (1 : Int32)) ))))
def f_X3_mayHaveAny (v : St) (x1 : Int32) (x2 : Int32) : Option (Int32) :=
    f_X3_mayHaveAny_5 v x1 x2 FUEL (0 : Int32) (0 : Int32)
def f_X3_most_17 (v : St) (x1 : Int32) (x2 : Int32) (x3 : Int32) : Nat → Int32 → Int32 → Option (Int32)
  | 0, _, _ => none
  | n + 1, x4, x5 =>
    (if ((1 : Int32) <<< (x3 &&& 31)) ≤ x5 then some x4 else (f_X3_mayHaveAny v x5 x1).bind (fun q428 => (f_J6_bitCount_0f7a4 (q428 &&& (x2 ^^^ (-1 : Int32)))).bind (fun q429 => (f_J6_bitCount_0f7a4 x5).bind (fun q430 => f_X3_most_17 v x1 x2 x3 n (if ((x3 - q430) + q429) < x4 then ((x3 - q430) + q429) else x4) (x5 + (1 : Int32)) ))))
def f_X3_most (v : St) (x1 : Int32) (x2 : Int32) : Option (Int32) :=
    f_X3_most_17 v x1 x2 (if (0 : Int32) < ((v 1 0) - x1) then ((v 1 0) - x1) else (0 : Int32)) FUEL (if (0 : Int32) < ((v 1 0) - x1) then ((v 1 0) - x1) else (0 : Int32)) (0 : Int32)
def f_X3_firstPartner_10 (v : St) (x1 : Int32) (x2 : Int32) (x3 : Int32) : Nat → Int32 → Option (Int32)
  | 0, _ => none
  | n + 1, x4 =>
    (if (8 : Int32) ≤ x4 then some (-9 : Int32) else (f_X7_at 5 (v 0) x1).bind (fun q439 => (f_X7_has (q439 &&& (x2 ^^^ (-1 : Int32))) x4).bind (fun q440 => (if q440 = 0 then f_X3_firstPartner_10 v x1 x2 x3 n (x4 + (1 : Int32))  else (f_X3_most v (x1 + (1 : Int32)) (x2 ||| ((1 : Int32) <<< (x4 &&& 31)))).bind (fun q441 => (if ((1 : Int32) + q441) = x3 then some x4 else f_X3_firstPartner_10 v x1 x2 x3 n (x4 + (1 : Int32)) ))))))
def f_X3_firstPartner (v : St) (x1 : Int32) (x2 : Int32) : Option (Int32) :=
    (f_X3_most v x1 x2).bind (fun q438 => f_X3_firstPartner_10 v x1 x2 q438 FUEL (0 : Int32))
def f_X3_notKnownTo (v : St) (x1 : Int32) : Option (Int32) :=
    (f_X6_knows v x1 (0 : Int32)).bind (fun q451 => (f_X6_hereThen v (0 : Int32)).bind (fun q452 => (if q451 = (-9 : Int32) then some q452 else some (q452 &&& (((1 : Int32) <<< (q451 &&& 31)) ^^^ (-1 : Int32))))))
def f_X3_look_10 (u : St) : Nat → Int32 → St → Option (St)
  | 0, _, _ => none
  | n + 1, x2, v =>
    (if (v 1 0) ≤ x2 then some v else (f_X6_isUnmarried u x2).bind (fun q456 => (if q456 = 0 then (f_X7_put 5 (v 0) x2 (0 : Int32)).bind (fun q457 => f_X3_look_10 u n (x2 + (1 : Int32)) (sA v 0 q457) ) else (f_X3_notKnownTo u x2).bind (fun q458 => (f_X7_put 5 (v 0) x2 q458).bind (fun q459 => f_X3_look_10 u n (x2 + (1 : Int32)) (sA v 0 q459) )))))
def f_X3_look (v : St) (u : St) : Option (St) :=
    f_X3_look_10 u FUEL (0 : Int32) (sA v 1 (upd (v 1) 0 (u 7 3)))
def f_X3_partnerOf_8 (v : St) (x1 : Int32) : Nat → Int32 → Int32 → Int32 → Option (Int32)
  | 0, _, _, _ => none
  | n + 1, x2, x3, x4 =>
    (if x1 < x4 then some x3 else (if (v 1 0) ≤ x4 then some x3 else (f_X3_firstPartner v x4 x2).bind (fun q469 => (if q469 = (-9 : Int32) then f_X3_partnerOf_8 v x1 n x2 q469 (x4 + (1 : Int32))  else f_X3_partnerOf_8 v x1 n (x2 ||| ((1 : Int32) <<< (q469 &&& 31))) q469 (x4 + (1 : Int32)) ))))
def f_X3_partnerOf (v : St) (x1 : Int32) : Option (Int32) :=
    f_X3_partnerOf_8 v x1 FUEL (0 : Int32) (-9 : Int32) (0 : Int32)
def f_X4_add (v : St) (x1 : Int32) : Option (Int32 × St) :=
    (f_X7_put 16 (v 0) (v 1 0) x1).bind (fun q478 => some (((v 1 0) + (1 : Int32)), (sA (sA v 0 q478) 1 (upd (v 1) 0 ((v 1 0) + (1 : Int32))))))
def f_X4_empty (v : St) : Option (St) :=
    some (sA v 1 (upd (v 1) 0 (0 : Int32)))
def f_X6_kindOf (v : St) (x1 : Int32) : Option (Int32) :=
    (f_X7_at 8 (v 0) x1).bind (fun q480 => some q480)
def f_X4_isShownAs_3 (v : St) (u : St) (x2 : Int32) (x3 : Int32) (x4 : Int32) : Nat → Int32 → Option (Int32)
  | 0, _ => none
  | n + 1, x5 =>
    (if (v 1 0) ≤ x5 then some (1 : Int32) else (f_X6_showsAs u x2 x3 x4 x5).bind (fun q482 => (f_X7_at 16 (v 0) x5).bind (fun q483 => (if q482 = q483 then f_X4_isShownAs_3 v u x2 x3 x4 n (x5 + (1 : Int32))  else some (0 : Int32)))))
def f_X4_isShownAs (v : St) (u : St) (x2 : Int32) (x3 : Int32) (x4 : Int32) : Option (Int32) :=
    f_X4_isShownAs_3 v u x2 x3 x4 FUEL (0 : Int32)
def f_X4_figuresOf_5 (v : St) (u : St) (x2 : Int32) : Nat → Int32 → Int32 → Option (Int32)
  | 0, _, _ => none
  | n + 1, x3, x4 =>
    (if (9 : Int32) < x4 then some x3 else (f_X6_kindOf u x2).bind (fun q490 => (f_X4_isShownAs v u x2 q490 x4).bind (fun q491 => (if q491 = 0 then f_X4_figuresOf_5 v u x2 n x3 (x4 + (1 : Int32))  else f_X4_figuresOf_5 v u x2 n (x3 ||| ((1 : Int32) <<< (x4 &&& 31))) (x4 + (1 : Int32)) ))))
def f_X4_figuresOf (v : St) (u : St) (x2 : Int32) : Option (Int32) :=
    f_X4_figuresOf_5 v u x2 FUEL (0 : Int32) (0 : Int32)
def f_X6_hasGroom (v : St) (x1 : Int32) : Option (Int32) :=
    (if x1 < 0 then some (0 : Int32) else (if (v 7 3) ≤ x1 then some (0 : Int32) else some (1 : Int32)))
def f_X4_firstWrongGuess_43 (x2 : Int32) (s0 : Int32) (B : (Int32 → Option (Int32))) : Option (Int32) :=
    (if s0 = 0 then some x2 else B (x2 + (1 : Int32)))
def f_X4_firstWrongGuess_2 (v : St) (u : St) : Nat → Int32 → Option (Int32)
  | 0, _ => none
  | n + 1, x2 =>
    (if (v 1 0) ≤ x2 then some (-9 : Int32) else (f_X6_hasGroom u x2).bind (fun q501 => (if q501 = 0 then f_X4_firstWrongGuess_43 x2 (0 : Int32) (fun (x2_502 : Int32) => f_X4_firstWrongGuess_2 v u n x2_502 ) else (f_X6_guesses u x2 (0 : Int32)).bind (fun q503 => (f_J6_bitCount_0f7a4 q503).bind (fun q504 => (f_X7_at 16 (v 0) x2).bind (fun q505 => (if q504 = q505 then f_X4_firstWrongGuess_43 x2 (1 : Int32) (fun (x2_507 : Int32) => f_X4_firstWrongGuess_2 v u n x2_507 ) else f_X4_firstWrongGuess_43 x2 (0 : Int32) (fun (x2_506 : Int32) => f_X4_firstWrongGuess_2 v u n x2_506 ))))))))
def f_X4_firstWrongGuess (v : St) (u : St) : Option (Int32) :=
    f_X4_firstWrongGuess_2 v u FUEL (0 : Int32)
def f_X4_howManyToesOf_4 (v : St) (x1 : Int32) : Nat → Int32 → Int32 → Option (Int32)
  | 0, _, _ => none
  | n + 1, x2, x3 =>
    (if (v 1 0) ≤ x3 then some x2 else (f_X7_at 16 (v 0) x3).bind (fun q521 => (f_X7_has x1 q521).bind (fun q522 => (if q522 = 0 then f_X4_howManyToesOf_4 v x1 n x2 (x3 + (1 : Int32))  else f_X4_howManyToesOf_4 v x1 n (x2 + (1 : Int32)) (x3 + (1 : Int32)) ))))
def f_X4_howManyToesOf (v : St) (x1 : Int32) : Option (Int32) :=
    f_X4_howManyToesOf_4 v x1 FUEL (0 : Int32) (0 : Int32)
def f_X4_isFull (v : St) : Option (Int32) :=
    (if (v 1 0) < (16 : Int32) then some (0 : Int32) else some (1 : Int32))
def f_X6_figureOf (v : St) (x1 : Int32) : Option (Int32) :=
    (f_X7_at 8 (v 1) x1).bind (fun q531 => some q531)
def f_X4_kindsOf_5 (v : St) (u : St) (x2 : Int32) : Nat → Int32 → Int32 → Option (Int32)
  | 0, _, _ => none
  | n + 1, x3, x4 =>
    (if (6 : Int32) ≤ x4 then some x3 else (f_X6_figureOf u x2).bind (fun q533 => (f_X4_isShownAs v u x2 x4 q533).bind (fun q534 => (if q534 = 0 then f_X4_kindsOf_5 v u x2 n x3 (x4 + (1 : Int32))  else f_X4_kindsOf_5 v u x2 n (x3 ||| ((1 : Int32) <<< (x4 &&& 31))) (x4 + (1 : Int32)) ))))
def f_X4_kindsOf (v : St) (u : St) (x2 : Int32) : Option (Int32) :=
    f_X4_kindsOf_5 v u x2 FUEL (0 : Int32) (0 : Int32)
def f_X5_add (v : St) (x1 : Int32) : Option (Int32 × St) :=
    (f_X7_put 96 (v 0) (v 1 0) x1).bind (fun q542 => some (((v 1 0) + (1 : Int32)), (sA (sA v 0 q542) 1 (upd (v 1) 0 ((v 1 0) + (1 : Int32))))))
def f_X5_digitAt (v : St) (x1 : Int32) : Option (Int32) :=
    (f_X7_at 96 (v 0) x1).bind (fun q544 => some (q544 - (48 : Int32)))
def f_X5_empty (v : St) : Option (St) :=
    some (sA v 1 (upd (v 1) 0 (0 : Int32)))
def f_X5_isFull (v : St) : Option (Int32) :=
    (if (v 1 0) < (96 : Int32) then some (0 : Int32) else some (1 : Int32))
def f_X5_numberAt (v : St) (x1 : Int32) : Option (Int32) :=
    (f_X5_digitAt v x1).bind (fun q547 => (f_X5_digitAt v (x1 + (1 : Int32))).bind (fun q548 => some (((10 : Int32) * q547) + q548)))
def f_X6_setLiquor (v : St) (x1 : Int32) (x2 : Int32) : Option (St) :=
    (f_X7_put 5 (v 6) x1 x2).bind (fun q551 => some (sA v 6 q551))
def f_X5_tellLiquor (v : St) (x1 : Int32) (x2 : Int32) : Option (Int32 × St) :=
    (f_X6_hasGroom v x1).bind (fun q553 => (if q553 = 0 then some ((0 : Int32), v) else (f_X6_setLiquor v x1 x2).bind (fun q554 => some ((1 : Int32), q554))))
def f_X6_hasBride (v : St) (x1 : Int32) : Option (Int32) :=
    (if x1 < 0 then some (0 : Int32) else (if (v 7 1) ≤ x1 then some (0 : Int32) else some (1 : Int32)))
def f_X5_tellToe (v : St) (x1 : Int32) (x2 : Int32) : Option (Int32 × St) :=
    (f_X6_hasBride v x1).bind (fun q560 => (if q560 = 0 then some ((0 : Int32), v) else (if x2 < (6 : Int32) then (f_X6_changeToes v x1 ((1 : Int32) <<< (x2 &&& 31))).bind (fun q561 => some ((1 : Int32), q561)) else some ((0 : Int32), v))))
def f_X6_canPass (v : St) (x1 : Int32) : Option (Int32) :=
    (if (999 : Int32) < ((v 7 0) + x1) then some (0 : Int32) else some (1 : Int32))
def f_X6_sentFor (v : St) (x1 : Int32) : Option (Int32) :=
    (f_X7_at 8 (v 3) x1).bind (fun q567 => some q567)
def f_X6_liquorOf (v : St) (x1 : Int32) : Option (Int32) :=
    (f_X7_at 5 (v 6) x1).bind (fun q569 => some q569)
def f_X6_passYears_12 (x1 : Int32) : Nat → Int32 → St → (St → Option (St)) → Option (St)
  | 0, _, _, _ => none
  | n + 1, x2, v, K12_45 =>
    (if (v 7 1) ≤ x2 then K12_45 v else (f_X6_sentFor v x2).bind (fun q571 => (f_X7_put 8 (v 3) x2 (if (0 : Int32) < (q571 - x1) then (q571 - x1) else (0 : Int32))).bind (fun q572 => f_X6_passYears_12 x1 n (x2 + (1 : Int32)) (sA v 3 q572) K12_45)))
def f_X6_passYears_47 (x1 : Int32) : Nat → Int32 → St → Option (St)
  | 0, _, _ => none
  | n + 1, x2, v =>
    (if (v 7 3) ≤ x2 then some v else (f_X6_liquorOf v x2).bind (fun q574 => (f_X6_setLiquor v x2 (if (0 : Int32) < (q574 - x1) then (q574 - x1) else (0 : Int32))).bind (fun q575 => f_X6_passYears_47 x1 n (x2 + (1 : Int32)) q575 )))
def f_X6_passYears (v : St) (x1 : Int32) : Option (St) :=
    f_X6_passYears_12 x1 FUEL (0 : Int32) (sA v 7 (upd (v 7) 0 ((v 7 0) + x1))) (fun (v_573 : St) => f_X6_passYears_47 x1 FUEL (0 : Int32) v_573)
def f_X5_tellYears (v : St) (x1 : Int32) : Option (Int32 × St) :=
    (if x1 < (1 : Int32) then some ((0 : Int32), v) else (if (60 : Int32) < x1 then some ((0 : Int32), v) else (f_X6_canPass v x1).bind (fun q590 => (if q590 = 0 then some ((0 : Int32), v) else (f_X6_passYears v x1).bind (fun q591 => some ((1 : Int32), q591))))))
def f_X6_setKind (v : St) (x1 : Int32) (x2 : Int32) (x3 : Int32) : Option (St) :=
    (f_X7_put 8 (v 0) x1 x2).bind (fun q597 => (f_X7_put 8 (v 1) x1 x3).bind (fun q598 => some (sA (sA v 0 q597) 1 q598)))
def f_X6_addBride (v : St) (x1 : Int32) (x2 : Int32) (x3 : Int32) : Option (Int32 × St) :=
    (if (8 : Int32) ≤ (v 7 1) then some ((0 : Int32), v) else (if x3 ≤ (63 : Int32) then (f_X6_setKind v (v 7 1) x1 x2).bind (fun q601 => (f_X7_put 8 (q601 2) (q601 7 1) x3).bind (fun q602 => some ((1 : Int32), (sA (sA q601 2 q602) 7 (upd (q601 7) 1 ((q601 7 1) + (1 : Int32))))))) else some ((0 : Int32), v)))
def f_X6_setLook (v : St) (x1 : Int32) (x2 : Int32) : Option (St) :=
    (f_X7_put 5 (v 4) x1 x2).bind (fun q607 => some (sA v 4 q607))
def f_X6_setMind (v : St) (x1 : Int32) (x2 : Int32) : Option (St) :=
    (f_X7_put 5 (v 5) x1 x2).bind (fun q609 => some (sA v 5 q609))
def f_X6_addGroom (v : St) (x1 : Int32) (x2 : Int32) : Option (Int32 × St) :=
    (if (5 : Int32) ≤ (v 7 3) then some ((0 : Int32), v) else (if (63 : Int32) < x1 then some ((0 : Int32), v) else (if x2 ≤ (63 : Int32) then (f_X6_setLook v (v 7 3) x1).bind (fun q611 => (f_X6_setMind q611 (q611 7 3) x2).bind (fun q612 => some ((1 : Int32), (sA q612 7 (upd (q612 7) 3 ((q612 7 3) + (1 : Int32))))))) else some ((0 : Int32), v))))
def f_X6_allLiquor_4 (v : St) : Nat → Int32 → Int32 → Option (Int32)
  | 0, _, _ => none
  | n + 1, x1, x2 =>
    (if (v 7 3) ≤ x2 then some x1 else (f_X6_liquorOf v x2).bind (fun q618 => f_X6_allLiquor_4 v n (x1 + q618) (x2 + (1 : Int32)) ))
def f_X6_allLiquor (v : St) : Option (Int32) :=
    f_X6_allLiquor_4 v FUEL (0 : Int32) (0 : Int32)
def f_X6_canWed (v : St) (x1 : Int32) : Option (Int32) :=
    (f_X6_hasGroom v x1).bind (fun q624 => (if q624 = 0 then some (0 : Int32) else (f_X6_isUnmarried v x1).bind (fun q625 => (if q625 = 0 then some (0 : Int32) else (f_X6_hereThen v (0 : Int32)).bind (fun q626 => (if q626 = 0 then some (0 : Int32) else some (1 : Int32)))))))
def f_X6_nextSeed (x0 : Int32) : Option (Int32) :=
    some ((x0 * (1664525 : Int32)) + (1013904223 : Int32))
def f_X6_drawnFoot (x0 : Int32) : Option (Int32) :=
    some (((x0 &&& (2147483647 : Int32)) / (256 : Int32)) - ((x0 &&& (2147483647 : Int32)) / (256 : Int32)) / (64 : Int32) * (64 : Int32))
def f_X6_drawFeetAndMinds_4 : Nat → Int32 → Int32 → St → (Int32 → St → Option (Int32 × St)) → Option (Int32 × St)
  | 0, _, _, _, _ => none
  | n + 1, x2, x3, v, K4_35 =>
    (if (v 7 1) ≤ x3 then K4_35 x2 v else (f_X6_nextSeed x2).bind (fun q633 => (f_X6_drawnFoot q633).bind (fun q634 => (f_X7_put 8 (v 2) x3 q634).bind (fun q635 => f_X6_drawFeetAndMinds_4 n q633 (x3 + (1 : Int32)) (sA v 2 q635) K4_35))))
def f_X6_drawFeetAndMinds_37 : Nat → Int32 → Int32 → St → Option (Int32 × St)
  | 0, _, _, _ => none
  | n + 1, x2, x3, v =>
    (if (v 7 3) ≤ x3 then some (x2, v) else (f_X6_nextSeed x2).bind (fun q638 => (f_X6_drawnFoot q638).bind (fun q639 => (f_X6_setMind v x3 q639).bind (fun q640 => f_X6_drawFeetAndMinds_37 n q638 (x3 + (1 : Int32)) q640 ))))
def f_X6_drawFeetAndMinds (v : St) (x1 : Int32) : Option (Int32 × St) :=
    f_X6_drawFeetAndMinds_4 FUEL x1 (0 : Int32) v (fun (x2_636 : Int32) (v_637 : St) => f_X6_drawFeetAndMinds_37 FUEL x2_636 (0 : Int32) v_637)
def f_X6_mindOf (v : St) (x1 : Int32) : Option (Int32) :=
    (f_X7_at 5 (v 5) x1).bind (fun q661 => some q661)
def f_X6_toesFromMind (v : St) (x1 : Int32) (x2 : Int32) : Option (Int32) :=
    (f_X6_footOf v x2).bind (fun q663 => (f_X6_mindOf v x1).bind (fun q664 => (f_J6_bitCount_0f7a4 (q663 ^^^ q664)).bind (fun q665 => some q665)))
def f_X6_nearestTo_9 (v : St) (x1 : Int32) : Nat → Int32 → Int32 → Int32 → Option (Int32)
  | 0, _, _, _ => none
  | n + 1, x2, x3, x4 =>
    (if (v 7 1) ≤ x4 then some x2 else (f_X6_toesFromMind v x1 x4).bind (fun q669 => (if x3 ≤ q669 then f_X6_nearestTo_9 v x1 n x2 x3 (x4 + (1 : Int32))  else f_X6_nearestTo_9 v x1 n x4 q669 (x4 + (1 : Int32)) )))
def f_X6_nearestTo (v : St) (x1 : Int32) : Option (Int32) :=
    f_X6_nearestTo_9 v x1 FUEL (-9 : Int32) (7 : Int32) (0 : Int32)
def f_X6_takenOf (x0 : Int32) (x1 : Int32) : Option (Int32) :=
    (f_J6_bitCount_0f7a4 x0).bind (fun q677 => (if q677 = 0 then some (-9 : Int32) else gd (nzI q677) ((f_X7_bitAt x0 (x1 - x1 / q677 * q677)).bind (fun q678 => some q678))))
def f_X6_takenWith (v : St) (x1 : Int32) (x2 : Int32) : Option (Int32) :=
    (f_X6_guesses v x1 (0 : Int32)).bind (fun q683 => (f_X6_canWed v x1).bind (fun q684 => (if q684 = 0 then some (-9 : Int32) else (f_X7_onlyOne q683).bind (fun q685 => (if q685 = (-9 : Int32) then (f_X6_choiceFrom v q683).bind (fun q686 => (f_X6_takenOf q686 x2).bind (fun q687 => some q687)) else some (-9 : Int32))))))
def f_X6_wed (v : St) (x1 : Int32) : Option (Int32 × St) :=
    (f_X7_at 5 (v 6) x1).bind (fun q695 => (f_X7_at 5 (v 4) x1).bind (fun q696 => (f_X6_guessesBy v x1 q696 (0 : Int32)).bind (fun q697 => (f_X7_onlyOne q697).bind (fun q698 => (if q698 = (-9 : Int32) then (f_X6_choiceFrom v q697).bind (fun q699 => (f_X6_takenOf q699 q695).bind (fun q700 => (if q700 = (-9 : Int32) then some ((-9 : Int32), v) else some (((100 : Int32) + q700), (sA v 7 (upd (upd (v 7) 2 ((v 7 2) ||| ((1 : Int32) <<< (q700 &&& 31)))) 4 ((v 7 4) ||| ((1 : Int32) <<< (x1 &&& 31))))))))) else (f_X7_put 8 (v 3) q698 ((1 : Int32) + (q695 / (3 : Int32)))).bind (fun q701 => some (q698, (sA v 3 q701))))))))
def f_X6_wedAll_7 : Nat → Int32 → Int32 → Int32 → St → (Int32 → Int32 → St → Option (Int32 × St)) → Option (Int32 × St)
  | 0, _, _, _, _, _ => none
  | n + 1, x2, x3, x4, v, K7_51 =>
    (if (v 7 3) ≤ x4 then K7_51 x2 x3 v else (f_X6_canWed v x4).bind (fun q711 => (if q711 = 0 then f_X6_wedAll_7 n x2 x3 (x4 + (1 : Int32)) v K7_51 else (f_X6_wed v x4).bind (fun q712 => (if q712.1 < (100 : Int32) then f_X6_wedAll_7 n x2 (x3 + (1 : Int32)) (x4 + (1 : Int32)) q712.2 K7_51 else f_X6_wedAll_7 n (x2 + (1 : Int32)) x3 (x4 + (1 : Int32)) q712.2 K7_51)))))
def f_X6_wedAll (v : St) (x1 : Int32) : Option (Int32 × St) :=
    f_X6_wedAll_7 FUEL (0 : Int32) (0 : Int32) (0 : Int32) v (fun (x2_713 : Int32) (x3_714 : Int32) (v_715 : St) => (if x1 = 0 then some (x2_713, v_715) else some (x3_714, v_715)))
def f_X7_refuse (S : Nat → St) (x1 : Int32) : Option (Int32 × (Nat → St)) :=
    (f_X7_at 7 ((S 6) 0) (-x1)).bind (fun q733 => (f_X7_put 7 ((S 6) 0) (-x1) (q733 + (1 : Int32))).bind (fun q734 => some (x1, (sS S 6 (sA (S 6) 0 q734)))))
def f_X7_alike (S : Nat → St) (x1 : Int32) : Option (Int32 × (Nat → St)) :=
    (if x1 = (0 : Int32) then (f_X1_twos (S 0)).bind (fun q737 => some (q737, S)) else if x1 = (1 : Int32) then (f_X1_firstTwo (S 0)).bind (fun q738 => some (q738, S)) else if x1 = (2 : Int32) then (f_X1_greatest (S 0)).bind (fun q739 => some (q739, S)) else if x1 = (3 : Int32) then (f_X1_greatestShown (S 0)).bind (fun q740 => some (q740, S)) else (f_X7_refuse S (-2 : Int32)).bind (fun q741 => some (q741.1, q741.2)))
def f_X7_away (S : Nat → St) : Option (Int32 × (Nat → St)) :=
    (f_X0_bestAway (S 0) (S 1)).bind (fun q751 => some (q751.1, (sS S 1 q751.2)))
def f_X7_bride (S : Nat → St) (x1 : Int32) (x2 : Int32) : Option (Int32 × (Nat → St)) :=
    (f_X6_hasBride (S 0) x1).bind (fun q753 => (if q753 = 0 then (f_X7_refuse S (-1 : Int32)).bind (fun q761 => some (q761.1, q761.2)) else (if x2 = (0 : Int32) then (f_X6_kindOf (S 0) x1).bind (fun q754 => some (q754, S)) else if x2 = (1 : Int32) then (f_X6_figureOf (S 0) x1).bind (fun q755 => some (q755, S)) else if x2 = (2 : Int32) then (f_X6_footOf (S 0) x1).bind (fun q756 => some (q756, S)) else if x2 = (3 : Int32) then (f_X6_shows (S 0) x1 (0 : Int32)).bind (fun q757 => some (q757, S)) else if x2 = (4 : Int32) then (f_X6_sentFor (S 0) x1).bind (fun q758 => some (q758, S)) else if x2 = (5 : Int32) then (f_X6_placeOf (S 0) x1).bind (fun q759 => some (q759, S)) else (f_X7_refuse S (-2 : Int32)).bind (fun q760 => some (q760.1, q760.2)))))
def f_X7_outside (x0 : Int32) (x1 : Int32) (x2 : Int32) : Option (Int32) :=
    (if x1 ≤ x0 then (if x0 ≤ x2 then some (0 : Int32) else some (-6 : Int32)) else some (-4 : Int32))
def f_X7_refusalOf (x0 : Int32) (x1 : Int32) (x2 : Int32) (x3 : Int32) : Option (Int32) :=
    (if x0 = 0 then some (-1 : Int32) else (f_X7_outside x1 x2 x3).bind (fun q780 => some q780))
def f_X7_refuseLong (S : Nat → St) (x1 : Int32) : Option (Int64 × (Nat → St)) :=
    (f_X7_refuse S x1).bind (fun q783 => some (((4000000000000000000 : Int64) - (q783.1.toInt64)), q783.2))
def f_X7_isNotEither (x0 : Int32) : Option (Int32) :=
    (if x0 = 0 then some (0 : Int32) else (if x0 = (1 : Int32) then some (0 : Int32) else some (1 : Int32)))
def f_X7_chance (S : Nat → St) (x1 : Int32) (x2 : Int32) (x3 : Int32) : Option (Int64 × (Nat → St)) :=
    (f_X6_hasBride (S 0) x1).bind (fun q787 => (f_X7_refusalOf q787 x2 (0 : Int32) (4 : Int32)).bind (fun q788 => (if q788 = 0 then (f_X7_isNotEither x3).bind (fun q789 => (if q789 = 0 then (f_X2_ofTaking (S 0) x1 x2 x3).bind (fun q790 => some (q790, S)) else (f_X7_refuseLong S (-2 : Int32)).bind (fun q791 => some (q791.1, q791.2)))) else (f_X7_refuseLong S q788).bind (fun q792 => some (q792.1, q792.2)))))
def f_X7_changes (S : Nat → St) (x1 : Int32) (x2 : Int32) : Option (Int32 × (Nat → St)) :=
    (f_X6_hasBride (S 0) x1).bind (fun q801 => (if q801 = 0 then (f_X7_refuse S (-1 : Int32)).bind (fun q802 => some (q802.1, q802.2)) else (if x2 < 0 then (f_X7_refuse S (-1 : Int32)).bind (fun q803 => some (q803.1, q803.2)) else (if x2 < (6 : Int32) then (f_X6_changeToes (S 0) x1 ((1 : Int32) <<< (x2 &&& 31))).bind (fun q804 => (f_X6_footOf q804 x1).bind (fun q805 => some (q805, (sS S 0 q804)))) else (f_X7_refuse S (-1 : Int32)).bind (fun q806 => some (q806.1, q806.2))))))
def f_X7_clear (S : Nat → St) : Option (Int32 × (Nat → St)) :=
    (f_X4_empty (S 4)).bind (fun q816 => some (((S 4) 1 0), (sS S 4 q816)))
def f_X7_count_24 (S : (Nat → St)) (x1 : Int32) : Option (Int32) :=
    (if x1 = (0 : Int32) then some ((S 0) 7 1) else if x1 = (1 : Int32) then some ((S 0) 7 3) else if x1 = (2 : Int32) then some ((S 0) 7 0) else if x1 = (3 : Int32) then (f_X6_hereThen (S 0) (0 : Int32)).bind (fun q818 => some q818) else if x1 = (4 : Int32) then some ((S 0) 7 4) else if x1 = (5 : Int32) then (f_X6_allLiquor (S 0)).bind (fun q819 => some q819) else if x1 = (6 : Int32) then some ((S 4) 1 0) else if x1 = (7 : Int32) then some ((S 3) 1 0) else some (-9 : Int32))
def f_X7_count (S : Nat → St) (x1 : Int32) : Option (Int32) :=
    (if x1 < (11 : Int32) then f_X7_count_24 S x1 else (if (16 : Int32) < x1 then f_X7_count_24 S x1 else (f_X7_at 7 ((S 6) 0) (x1 - (10 : Int32))).bind (fun q820 => some q820)))
def f_X7_drink_30 (S : (Nat → St)) (x1 : Int32) (x2 : Int32) : Nat → Int32 → Option (Int32 × (Nat → St))
  | 0, _ => none
  | n + 1, x3 =>
    (if (9 : Int32) < x3 then some ((-9 : Int32), S) else (f_X6_takenWith (S 0) x1 x3).bind (fun q838 => (if q838 = x2 then some (x3, S) else f_X7_drink_30 S x1 x2 n (x3 + (1 : Int32)) )))
def f_X7_drink (S : Nat → St) (x1 : Int32) (x2 : Int32) : Option (Int32 × (Nat → St)) :=
    (f_X6_hasGroom (S 0) x1).bind (fun q835 => (if q835 = 0 then (f_X7_refuse S (-1 : Int32)).bind (fun q836 => some (q836.1, q836.2)) else (f_X6_hasBride (S 0) x2).bind (fun q837 => (if q837 = 0 then (f_X7_refuse S (-1 : Int32)).bind (fun q839 => some (q839.1, q839.2)) else f_X7_drink_30 S x1 x2 FUEL (0 : Int32)))))
def f_X7_drinks (S : Nat → St) (x1 : Int32) (x2 : Int32) : Option (Int32 × (Nat → St)) :=
    (f_X6_hasGroom (S 0) x1).bind (fun q851 => (f_X7_refusalOf q851 x2 (0 : Int32) (9 : Int32)).bind (fun q852 => (if q852 = 0 then (f_X6_liquorOf (S 0) x1).bind (fun q853 => (f_X6_setLiquor (S 0) x1 x2).bind (fun q854 => some (q853, (sS S 0 q854)))) else (f_X7_refuse S q852).bind (fun q855 => some (q855.1, q855.2)))))
def f_X7_forget (S : Nat → St) (x1 : Int32) : Option (Int32 × (Nat → St)) :=
    (f_X6_hasGroom (S 0) x1).bind (fun q862 => (if q862 = 0 then (f_X7_refuse S (-1 : Int32)).bind (fun q866 => some (q866.1, q866.2)) else (f_X6_isUnmarried (S 0) x1).bind (fun q863 => (if q863 = 0 then (f_X7_refuse S (-3 : Int32)).bind (fun q865 => some (q865.1, q865.2)) else (f_X0_fewestForgotten (S 0) x1).bind (fun q864 => some (q864, S))))))
def f_X7_groom (S : Nat → St) (x1 : Int32) (x2 : Int32) : Option (Int32 × (Nat → St)) :=
    (f_X6_hasGroom (S 0) x1).bind (fun q874 => (if q874 = 0 then (f_X7_refuse S (-1 : Int32)).bind (fun q882 => some (q882.1, q882.2)) else (if x2 = (0 : Int32) then (f_X6_lookOf (S 0) x1).bind (fun q875 => some (q875, S)) else if x2 = (1 : Int32) then (f_X6_mindOf (S 0) x1).bind (fun q876 => some (q876, S)) else if x2 = (2 : Int32) then (f_X6_liquorOf (S 0) x1).bind (fun q877 => some (q877, S)) else if x2 = (3 : Int32) then (f_X6_isUnmarried (S 0) x1).bind (fun q878 => (if q878 = 0 then some ((1 : Int32), S) else some ((0 : Int32), S))) else if x2 = (4 : Int32) then (f_X6_guesses (S 0) x1 (0 : Int32)).bind (fun q879 => some (q879, S)) else if x2 = (5 : Int32) then (f_X6_knows (S 0) x1 (0 : Int32)).bind (fun q880 => some (q880, S)) else (f_X7_refuse S (-2 : Int32)).bind (fun q881 => some (q881.1, q881.2)))))
def f_X7_groomThen (S : Nat → St) (x1 : Int32) (x2 : Int32) (x3 : Int32) : Option (Int32 × (Nat → St)) :=
    (f_X6_hasGroom (S 0) x1).bind (fun q900 => (f_X7_refusalOf q900 x2 (0 : Int32) (60 : Int32)).bind (fun q901 => (if q901 = 0 then (f_X7_isNotEither x3).bind (fun q902 => (if q902 = 0 then (if x3 = 0 then (f_X6_guesses (S 0) x1 x2).bind (fun q904 => some (q904, S)) else (f_X6_knows (S 0) x1 x2).bind (fun q903 => some (q903, S))) else (f_X7_refuse S (-2 : Int32)).bind (fun q905 => some (q905.1, q905.2)))) else (f_X7_refuse S q901).bind (fun q906 => some (q906.1, q906.2)))))
def f_X7_hide (S : Nat → St) (x1 : Int32) : Option (Int32 × (Nat → St)) :=
    (f_X6_hasBride (S 0) x1).bind (fun q917 => (if q917 = 0 then (f_X7_refuse S (-1 : Int32)).bind (fun q921 => some (q921.1, q921.2)) else (f_X6_isHere (S 0) x1).bind (fun q918 => (if q918 = 0 then (f_X7_refuse S (-3 : Int32)).bind (fun q920 => some (q920.1, q920.2)) else (f_X0_fewestToes (S 0) (S 1) x1).bind (fun q919 => some (q919.1, (sS S 1 q919.2)))))))
def f_X7_image (S : Nat → St) : Option (Int32 × (Nat → St)) :=
    (f_X6_become (S 2) (S 0)).bind (fun q929 => some (((S 0) 7 0), (sS (sS S 2 q929) 6 (sA (S 6) 1 (upd ((S 6) 1) 0 (1 : Int32))))))
def f_X7_judge (S : Nat → St) : Option (Int32 × (Nat → St)) :=
    (f_X4_firstWrongGuess (S 4) (S 0)).bind (fun q931 => (f_X4_empty (S 4)).bind (fun q932 => some (q931, (sS S 4 q932))))
def f_X7_known (S : Nat → St) (x1 : Int32) : Option (Int32 × (Nat → St)) :=
    (f_X7_isNotEither x1).bind (fun q935 => (if q935 = 0 then (if x1 = 0 then (f_X6_knownBits (S 0)).bind (fun q938 => some (q938, S)) else (f_X6_hereThen (S 0) (0 : Int32)).bind (fun q936 => (f_X6_knownBits (S 0)).bind (fun q937 => some ((q936 &&& (q937 ^^^ (-1 : Int32))), S)))) else (f_X7_refuse S (-2 : Int32)).bind (fun q939 => some (q939.1, q939.2))))
def f_X7_letter (S : Nat → St) (x1 : Int32) : Option (Int32 × (Nat → St)) :=
    (if 0 ≤ x1 then (if (255 : Int32) < x1 then (f_X7_refuse S (-6 : Int32)).bind (fun q947 => some (q947.1, q947.2)) else (f_X5_isFull (S 3)).bind (fun q948 => (if q948 = 0 then (f_X5_add (S 3) x1).bind (fun q949 => some (q949.1, (sS S 3 q949.2))) else (f_X7_refuse S (-6 : Int32)).bind (fun q950 => some (q950.1, q950.2))))) else (f_X7_refuse S (-4 : Int32)).bind (fun q951 => some (q951.1, q951.2)))
def f_X7_lies_4 (S : (Nat → St)) : Nat → Int32 → Int32 → Option (Int32)
  | 0, _, _ => none
  | n + 1, x1, x2 =>
    (if ((S 0) 7 1) ≤ x2 then some x1 else (f_X6_isHere (S 0) x2).bind (fun q960 => (if q960 = 0 then f_X7_lies_4 S n x1 (x2 + (1 : Int32))  else (f_X6_shows (S 0) x2 (0 : Int32)).bind (fun q961 => (f_X6_footOf (S 0) x2).bind (fun q962 => (f_J6_bitCount_0f7a4 (q961 ^^^ q962)).bind (fun q963 => f_X7_lies_4 S n (x1 + q963) (x2 + (1 : Int32)) ))))))
def f_X7_lies (S : Nat → St) : Option (Int32) :=
    f_X7_lies_4 S FUEL (0 : Int32) (0 : Int32)
def f_X7_looks (S : Nat → St) (x1 : Int32) (x2 : Int32) : Option (Int32 × (Nat → St)) :=
    (f_X6_hasGroom (S 0) x1).bind (fun q973 => (f_X7_refusalOf q973 x2 (0 : Int32) (63 : Int32)).bind (fun q974 => (if q974 = 0 then (f_X6_lookOf (S 0) x1).bind (fun q975 => (f_X6_setLook (S 0) x1 x2).bind (fun q976 => some (q975, (sS S 0 q976)))) else (f_X7_refuse S q974).bind (fun q977 => some (q977.1, q977.2)))))
def f_X7_loses_4 (S : (Nat → St)) : Nat → Int32 → Int32 → Option (Int32)
  | 0, _, _ => none
  | n + 1, x1, x2 =>
    (if ((S 0) 7 3) ≤ x2 then some x1 else (f_X6_knows (S 0) x2 (0 : Int32)).bind (fun q984 => (if q984 = (-9 : Int32) then f_X7_loses_4 S n x1 (x2 + (1 : Int32))  else (f_X6_nearestTo (S 0) x2).bind (fun q985 => (if q984 = q985 then f_X7_loses_4 S n (x1 ||| ((1 : Int32) <<< (x2 &&& 31))) (x2 + (1 : Int32))  else f_X7_loses_4 S n x1 (x2 + (1 : Int32)) )))))
def f_X7_loses (S : Nat → St) : Option (Int32) :=
    f_X7_loses_4 S FUEL (0 : Int32) (0 : Int32)
def f_X7_lots_44 (x1 : Int32) (x3 : Int32) : Nat → Int32 → Int32 → Int32 → (Nat → St) → Option (Int32 × (Nat → St))
  | 0, _, _, _, _ => none
  | n + 1, x5, x6, x7, S =>
    (if x1 ≤ x7 then some (x6, S) else (f_X6_become (S 1) (S 0)).bind (fun q996 => (f_X6_drawFeetAndMinds q996 x5).bind (fun q997 => (f_X6_wedAll q997.2 x3).bind (fun q998 => f_X7_lots_44 x1 x3 n q997.1 (x6 + q998.1) (x7 + (1 : Int32)) (sS S 1 q998.2) ))))
def f_X7_lots (S : Nat → St) (x1 : Int32) (x2 : Int32) (x3 : Int32) : Option (Int32 × (Nat → St)) :=
    (f_X7_outside x1 (1 : Int32) (20 : Int32)).bind (fun q994 => (if q994 = 0 then (f_X7_isNotEither x3).bind (fun q995 => (if q995 = 0 then f_X7_lots_44 x1 x3 FUEL x2 (0 : Int32) (0 : Int32) S else (f_X7_refuse S (-2 : Int32)).bind (fun q999 => some (q999.1, q999.2)))) else (f_X7_refuse S q994).bind (fun q1000 => some (q1000.1, q1000.2))))
def f_X7_mean (S : Nat → St) (x1 : Int32) : Option (Int64 × (Nat → St)) :=
    (f_X7_isNotEither x1).bind (fun q1016 => (if q1016 = 0 then (f_X2_meanToes (S 0) x1).bind (fun q1017 => some (q1017, S)) else (f_X7_refuseLong S (-2 : Int32)).bind (fun q1018 => some (q1018.1, q1018.2))))
def f_X7_meant (S : Nat → St) (x1 : Int32) (x2 : Int32) : Option (Int32 × (Nat → St)) :=
    (f_X6_hasGroom (S 0) x1).bind (fun q1023 => (if q1023 = 0 then (f_X7_refuse S (-1 : Int32)).bind (fun q1028 => some (q1028.1, q1028.2)) else (f_X7_isNotEither x2).bind (fun q1024 => (if q1024 = 0 then (f_X6_nearestTo (S 0) x1).bind (fun q1025 => (if x2 = 0 then some (q1025, S) else (if q1025 = (-9 : Int32) then some (q1025, S) else (f_X6_toesFromMind (S 0) x1 q1025).bind (fun q1026 => some (q1026, S))))) else (f_X7_refuse S (-2 : Int32)).bind (fun q1027 => some (q1027.1, q1027.2))))))
def f_X7_minds (S : Nat → St) (x1 : Int32) (x2 : Int32) : Option (Int32 × (Nat → St)) :=
    (f_X6_hasGroom (S 0) x1).bind (fun q1039 => (f_X7_refusalOf q1039 x2 (0 : Int32) (63 : Int32)).bind (fun q1040 => (if q1040 = 0 then (f_X6_mindOf (S 0) x1).bind (fun q1041 => (f_X6_setMind (S 0) x1 x2).bind (fun q1042 => some (q1041, (sS S 0 q1042)))) else (f_X7_refuse S q1040).bind (fun q1043 => some (q1043.1, q1043.2)))))
def f_X7_on (S : Nat → St) : Option (Int32 × (Nat → St)) :=
    (if ((S 6) 1 0) = 0 then (f_X7_refuse S (-3 : Int32)).bind (fun q1051 => some (q1051.1, q1051.2)) else (f_X6_become (S 0) (S 2)).bind (fun q1050 => some ((q1050 7 0), (sS S 0 q1050))))
def f_X7_order (S : Nat → St) (x1 : Int32) : Option (Int32 × (Nat → St)) :=
    (f_X7_isNotEither x1).bind (fun q1055 => (if q1055 = 0 then (f_X6_become (S 1) (S 0)).bind (fun q1056 => (f_X6_wedAll q1056 x1).bind (fun q1057 => some (q1057.1, (sS S 1 q1057.2)))) else (f_X7_refuse S (-2 : Int32)).bind (fun q1058 => some (q1058.1, q1058.2))))
def f_X7_pairs_22 (S : (Nat → St)) (x1 : Int32) : Option (Int32 × (Nat → St)) :=
    (f_X3_look (S 5) (S 0)).bind (fun q1064 => (if x1 = (-1 : Int32) then (f_X3_most q1064 (0 : Int32) (0 : Int32)).bind (fun q1066 => some (q1066, (sS S 5 q1064))) else (f_X3_partnerOf q1064 x1).bind (fun q1065 => some (q1065, (sS S 5 q1064)))))
def f_X7_pairs (S : Nat → St) (x1 : Int32) : Option (Int32 × (Nat → St)) :=
    (if x1 = (-1 : Int32) then f_X7_pairs_22 S x1 else (f_X6_hasGroom (S 0) x1).bind (fun q1067 => (if q1067 = 0 then (f_X7_refuse S (-1 : Int32)).bind (fun q1068 => some (q1068.1, q1068.2)) else f_X7_pairs_22 S x1)))
def f_X7_rightly (S : Nat → St) (x1 : Int32) : Option (Int32 × (Nat → St)) :=
    (f_X6_hasBride (S 0) x1).bind (fun q1078 => (if q1078 = 0 then (f_X7_refuse S (-1 : Int32)).bind (fun q1081 => some (q1081.1, q1081.2)) else (f_X6_footOf (S 0) x1).bind (fun q1079 => (f_X4_howManyToesOf (S 4) q1079).bind (fun q1080 => some (q1080, S)))))
def f_X7_row (S : Nat → St) (x1 : Int32) : Option (Int32 × (Nat → St)) :=
    (f_X7_outside x1 (0 : Int32) (99 : Int32)).bind (fun q1087 => (if q1087 = 0 then (f_X4_isFull (S 4)).bind (fun q1088 => (if q1088 = 0 then (f_X4_add (S 4) x1).bind (fun q1089 => some (q1089.1, (sS S 4 q1089.2))) else (f_X7_refuse S (-6 : Int32)).bind (fun q1090 => some (q1090.1, q1090.2)))) else (f_X7_refuse S q1087).bind (fun q1091 => some (q1091.1, q1091.2))))
def f_X7_sees (S : Nat → St) : Option (Int32) :=
    (f_X1_fewestLooks (S 0)).bind (fun q1099 => some q1099)
def f_X7_showsThen (S : Nat → St) (x1 : Int32) (x2 : Int32) : Option (Int32 × (Nat → St)) :=
    (f_X6_hasBride (S 0) x1).bind (fun q1101 => (f_X7_refusalOf q1101 x2 (0 : Int32) (60 : Int32)).bind (fun q1102 => (if q1102 = 0 then (f_X6_shows (S 0) x1 x2).bind (fun q1103 => some (q1103, S)) else (f_X7_refuse S q1102).bind (fun q1104 => some (q1104.1, q1104.2)))))
def f_X7_takes (S : Nat → St) (x1 : Int32) : Option (Int32 × (Nat → St)) :=
    (f_X6_hasGroom (S 0) x1).bind (fun q1110 => (if q1110 = 0 then (f_X7_refuse S (-1 : Int32)).bind (fun q1113 => some (q1113.1, q1113.2)) else (f_X6_liquorOf (S 0) x1).bind (fun q1111 => (f_X6_takenWith (S 0) x1 q1111).bind (fun q1112 => some (q1112, S)))))
def f_X7_tells (S : Nat → St) : Option (Int32) :=
    (f_X1_tellingToe (S 0)).bind (fun q1119 => some q1119)
def f_X7_turn (S : Nat → St) (x1 : Int32) (x2 : Int32) (x3 : Int32) : Option (Int32 × (Nat → St)) :=
    (f_X6_hasBride (S 0) x1).bind (fun q1121 => (if q1121 = 0 then (f_X7_refuse S (-1 : Int32)).bind (fun q1129 => some (q1129.1, q1129.2)) else (if x2 < 0 then (f_X7_refuse S (-2 : Int32)).bind (fun q1122 => some (q1122.1, q1122.2)) else (if x2 < (6 : Int32) then (f_X7_outside x3 (0 : Int32) (9 : Int32)).bind (fun q1123 => (if q1123 = 0 then (f_X6_kindOf (S 0) x1).bind (fun q1124 => (f_X6_figureOf (S 0) x1).bind (fun q1125 => (f_X6_setKind (S 0) x1 x2 x3).bind (fun q1126 => some ((((10 : Int32) * q1124) + q1125), (sS S 0 q1126))))) else (f_X7_refuse S q1123).bind (fun q1127 => some (q1127.1, q1127.2)))) else (f_X7_refuse S (-2 : Int32)).bind (fun q1128 => some (q1128.1, q1128.2))))))
def f_X7_two (S : Nat → St) (x1 : Int32) (x2 : Int32) : Option (Int32 × (Nat → St)) :=
    (f_X6_hasBride (S 0) x1).bind (fun q1143 => (if q1143 = 0 then (f_X7_refuse S (-1 : Int32)).bind (fun q1144 => some (q1144.1, q1144.2)) else (f_X6_hasBride (S 0) x2).bind (fun q1145 => (if q1145 = 0 then (f_X7_refuse S (-1 : Int32)).bind (fun q1146 => some (q1146.1, q1146.2)) else (if x1 = x2 then (f_X7_refuse S (-1 : Int32)).bind (fun q1152 => some (q1152.1, q1152.2)) else (f_X6_isHere (S 0) x1).bind (fun q1147 => (if q1147 = 0 then (f_X7_refuse S (-3 : Int32)).bind (fun q1148 => some (q1148.1, q1148.2)) else (f_X6_isHere (S 0) x2).bind (fun q1149 => (if q1149 = 0 then (f_X7_refuse S (-3 : Int32)).bind (fun q1151 => some (q1151.1, q1151.2)) else (f_X0_firstRest (S 0) (S 1) x1 x2).bind (fun q1150 => some (q1150.1, (sS S 1 q1150.2))))))))))))
def f_X7_wedding (S : Nat → St) (x1 : Int32) : Option (Int32 × (Nat → St)) :=
    (f_X6_hasGroom (S 0) x1).bind (fun q1168 => (if q1168 = 0 then (f_X7_refuse S (-1 : Int32)).bind (fun q1172 => some (q1172.1, q1172.2)) else (f_X6_canWed (S 0) x1).bind (fun q1169 => (if q1169 = 0 then (f_X7_refuse S (-3 : Int32)).bind (fun q1171 => some (q1171.1, q1171.2)) else (f_X6_wed (S 0) x1).bind (fun q1170 => some (q1170.1, (sS S 0 q1170.2)))))))
def f_X7_whatIs (S : Nat → St) (x1 : Int32) (x2 : Int32) : Option (Int32 × (Nat → St)) :=
    (f_X6_hasBride (S 0) x1).bind (fun q1180 => (if q1180 = 0 then (f_X7_refuse S (-1 : Int32)).bind (fun q1185 => some (q1185.1, q1185.2)) else (f_X7_isNotEither x2).bind (fun q1181 => (if q1181 = 0 then (if x2 = 0 then (f_X4_kindsOf (S 4) (S 0) x1).bind (fun q1183 => some (q1183, S)) else (f_X4_figuresOf (S 4) (S 0) x1).bind (fun q1182 => some (q1182, S))) else (f_X7_refuse S (-2 : Int32)).bind (fun q1184 => some (q1184.1, q1184.2))))))
def f_X7_when_19 (S : (Nat → St)) (x1 : Int32) : Nat → Int32 → Option (Int32 × (Nat → St))
  | 0, _ => none
  | n + 1, x2 =>
    (if (60 : Int32) < x2 then some ((-9 : Int32), S) else (f_X6_knows (S 0) x1 x2).bind (fun q1196 => (if q1196 = (-9 : Int32) then f_X7_when_19 S x1 n (x2 + (1 : Int32))  else some (x2, S))))
def f_X7_when (S : Nat → St) (x1 : Int32) : Option (Int32 × (Nat → St)) :=
    (f_X6_hasGroom (S 0) x1).bind (fun q1195 => (if q1195 = 0 then (f_X7_refuse S (-1 : Int32)).bind (fun q1197 => some (q1197.1, q1197.2)) else f_X7_when_19 S x1 FUEL (0 : Int32)))
def f_X7_years (S : Nat → St) (x1 : Int32) : Option (Int32 × (Nat → St)) :=
    (f_X7_outside x1 (1 : Int32) (60 : Int32)).bind (fun q1206 => (if q1206 = 0 then (f_X6_canPass (S 0) x1).bind (fun q1207 => (if q1207 = 0 then (f_X7_refuse S (-6 : Int32)).bind (fun q1211 => some (q1211.1, q1211.2)) else (f_X6_passYears (S 0) x1).bind (fun q1208 => (f_X6_hereThen q1208 (0 : Int32)).bind (fun q1209 => (f_J6_bitCount_0f7a4 q1209).bind (fun q1210 => some (q1210, (sS S 0 q1208))))))) else (f_X7_refuse S q1206).bind (fun q1212 => some (q1212.1, q1212.2))))
