def f_J6_bitCount_0f7a4 (x0 : Int32) : Option (Int32) :=
    some ((((((((x0 - (((x0.toUInt32 >>> ((1 : Int32).toUInt32 &&& Int32.toUInt32 31)).toInt32) &&& (1431655765 : Int32))) &&& (858993459 : Int32)) + ((((x0 - (((x0.toUInt32 >>> ((1 : Int32).toUInt32 &&& Int32.toUInt32 31)).toInt32) &&& (1431655765 : Int32))).toUInt32 >>> ((2 : Int32).toUInt32 &&& Int32.toUInt32 31)).toInt32) &&& (858993459 : Int32))) + (((((x0 - (((x0.toUInt32 >>> ((1 : Int32).toUInt32 &&& Int32.toUInt32 31)).toInt32) &&& (1431655765 : Int32))) &&& (858993459 : Int32)) + ((((x0 - (((x0.toUInt32 >>> ((1 : Int32).toUInt32 &&& Int32.toUInt32 31)).toInt32) &&& (1431655765 : Int32))).toUInt32 >>> ((2 : Int32).toUInt32 &&& Int32.toUInt32 31)).toInt32) &&& (858993459 : Int32))).toUInt32 >>> ((4 : Int32).toUInt32 &&& Int32.toUInt32 31)).toInt32)) &&& (252645135 : Int32)) + (((((((x0 - (((x0.toUInt32 >>> ((1 : Int32).toUInt32 &&& Int32.toUInt32 31)).toInt32) &&& (1431655765 : Int32))) &&& (858993459 : Int32)) + ((((x0 - (((x0.toUInt32 >>> ((1 : Int32).toUInt32 &&& Int32.toUInt32 31)).toInt32) &&& (1431655765 : Int32))).toUInt32 >>> ((2 : Int32).toUInt32 &&& Int32.toUInt32 31)).toInt32) &&& (858993459 : Int32))) + (((((x0 - (((x0.toUInt32 >>> ((1 : Int32).toUInt32 &&& Int32.toUInt32 31)).toInt32) &&& (1431655765 : Int32))) &&& (858993459 : Int32)) + ((((x0 - (((x0.toUInt32 >>> ((1 : Int32).toUInt32 &&& Int32.toUInt32 31)).toInt32) &&& (1431655765 : Int32))).toUInt32 >>> ((2 : Int32).toUInt32 &&& Int32.toUInt32 31)).toInt32) &&& (858993459 : Int32))).toUInt32 >>> ((4 : Int32).toUInt32 &&& Int32.toUInt32 31)).toInt32)) &&& (252645135 : Int32)).toUInt32 >>> ((8 : Int32).toUInt32 &&& Int32.toUInt32 31)).toInt32)) + ((((((((x0 - (((x0.toUInt32 >>> ((1 : Int32).toUInt32 &&& Int32.toUInt32 31)).toInt32) &&& (1431655765 : Int32))) &&& (858993459 : Int32)) + ((((x0 - (((x0.toUInt32 >>> ((1 : Int32).toUInt32 &&& Int32.toUInt32 31)).toInt32) &&& (1431655765 : Int32))).toUInt32 >>> ((2 : Int32).toUInt32 &&& Int32.toUInt32 31)).toInt32) &&& (858993459 : Int32))) + (((((x0 - (((x0.toUInt32 >>> ((1 : Int32).toUInt32 &&& Int32.toUInt32 31)).toInt32) &&& (1431655765 : Int32))) &&& (858993459 : Int32)) + ((((x0 - (((x0.toUInt32 >>> ((1 : Int32).toUInt32 &&& Int32.toUInt32 31)).toInt32) &&& (1431655765 : Int32))).toUInt32 >>> ((2 : Int32).toUInt32 &&& Int32.toUInt32 31)).toInt32) &&& (858993459 : Int32))).toUInt32 >>> ((4 : Int32).toUInt32 &&& Int32.toUInt32 31)).toInt32)) &&& (252645135 : Int32)) + (((((((x0 - (((x0.toUInt32 >>> ((1 : Int32).toUInt32 &&& Int32.toUInt32 31)).toInt32) &&& (1431655765 : Int32))) &&& (858993459 : Int32)) + ((((x0 - (((x0.toUInt32 >>> ((1 : Int32).toUInt32 &&& Int32.toUInt32 31)).toInt32) &&& (1431655765 : Int32))).toUInt32 >>> ((2 : Int32).toUInt32 &&& Int32.toUInt32 31)).toInt32) &&& (858993459 : Int32))) + (((((x0 - (((x0.toUInt32 >>> ((1 : Int32).toUInt32 &&& Int32.toUInt32 31)).toInt32) &&& (1431655765 : Int32))) &&& (858993459 : Int32)) + ((((x0 - (((x0.toUInt32 >>> ((1 : Int32).toUInt32 &&& Int32.toUInt32 31)).toInt32) &&& (1431655765 : Int32))).toUInt32 >>> ((2 : Int32).toUInt32 &&& Int32.toUInt32 31)).toInt32) &&& (858993459 : Int32))).toUInt32 >>> ((4 : Int32).toUInt32 &&& Int32.toUInt32 31)).toInt32)) &&& (252645135 : Int32)).toUInt32 >>> ((8 : Int32).toUInt32 &&& Int32.toUInt32 31)).toInt32)).toUInt32 >>> ((16 : Int32).toUInt32 &&& Int32.toUInt32 31)).toInt32)) &&& (63 : Int32))
def f_J0_isEmpty_aae02 (k : Nat) : Option (Int32) :=
    gd (decide (k < 6)) ((if (Int32.ofNat (strLen.getD k 0)) = 0 then some (1 : Int32) else some (0 : Int32)))
def f_J0_coder_7d493 (k : Nat) : Option (Int32) :=
    gd (decide (k < 6)) (some (0 : Int32))
def f_J0_length_8abf5 (k : Nat) : Option (Int32) :=
    gd (decide (k < 6)) ((f_J0_coder_7d493 k).bind (fun q2 => some ((Int32.ofNat (strLen.getD k 0)) >>> (q2 &&& 31))))
def f_J0_isLatin1_aae02 (k : Nat) : Option (Int32) :=
    gd (decide (k < 6)) (some (1 : Int32))
def f_J3_checkIndex_8e157 (x0 : Int32) (x1 : Int32) : Option (Int32) :=
    (if x0 < 0 then none else (if x0 < x1 then some x0 else none))
def f_J0_checkIndex_df160 (x0 : Int32) (x1 : Int32) : Option (Unit) :=
    (f_J3_checkIndex_8e157 x0 x1).bind (fun q8 => some ())
def f_J1_charAt_3b067 (k : Nat) (x1 : Int32) : Option (Int32) :=
    gd (decide (k < 6)) ((f_J0_checkIndex_df160 x1 (Int32.ofNat (strLen.getD k 0))).bind (fun q11 => gd (inB x1 (strLen.getD k 0)) (gd (isCh (((((strByt.getD k []).getD x1.toNatClampNeg 0) &&& (255 : Int32)).toUInt32 % 65536).toInt32)) (some (((((strByt.getD k []).getD x1.toNatClampNeg 0) &&& (255 : Int32)).toUInt32 % 65536).toInt32)))))
def f_J0_charAt_5068e (k : Nat) (x1 : Int32) : Option (Int32) :=
    gd (decide (k < 6)) ((f_J0_isLatin1_aae02 k).bind (fun q15 => (if q15 = 0 then none else (f_J1_charAt_3b067 k x1).bind (fun q16 => gd (isCh q16) (some q16)))))
def f_J1_canEncode_9a6ad (x0 : Int32) : Option (Int32) :=
    (if x0 < 0 then some (0 : Int32) else (if (255 : Int32) < x0 then some (0 : Int32) else some (1 : Int32)))
def f_J1_indexOfChar_4cfef_7 (k : Nat) (x3 : Int32) (x4 : Int32) : Nat → Int32 → Option (Int32)
  | 0, _ => none
  | n + 1, x5 =>
    (if x3 ≤ x5 then some (-1 : Int32) else gd (inB x5 (strLen.getD k 0)) ((if ((strByt.getD k []).getD x5.toNatClampNeg 0) = x4 then some x5 else f_J1_indexOfChar_4cfef_7 k x3 x4 n (x5 + (1 : Int32)) )))
def f_J1_indexOfChar_4cfef (k : Nat) (x1 : Int32) (x2 : Int32) (x3 : Int32) : Option (Int32) :=
    gd (decide (k < 6)) (f_J1_indexOfChar_4cfef_7 k x3 (x1.toInt8.toInt32) FUEL x2)
def f_J1_indexOf_4cfef (k : Nat) (x1 : Int32) (x2 : Int32) (x3 : Int32) : Option (Int32) :=
    gd (decide (k < 6)) ((f_J1_canEncode_9a6ad x1).bind (fun q28 => (if q28 = 0 then some (-1 : Int32) else (if (if x2 < (0 : Int32) then (0 : Int32) else x2) < (if (Int32.ofNat (strLen.getD k 0)) < x3 then (Int32.ofNat (strLen.getD k 0)) else x3) then (f_J1_indexOfChar_4cfef k x1 (if x2 < (0 : Int32) then (0 : Int32) else x2) (if (Int32.ofNat (strLen.getD k 0)) < x3 then (Int32.ofNat (strLen.getD k 0)) else x3)).bind (fun q29 => some q29) else some (-1 : Int32)))))
def f_J0_indexOf_7cf53 (k : Nat) (x1 : Int32) (x2 : Int32) : Option (Int32) :=
    gd (decide (k < 6)) ((f_J0_isLatin1_aae02 k).bind (fun q34 => (if q34 = 0 then (f_J0_length_8abf5 k).bind (fun q35 => none) else (f_J0_length_8abf5 k).bind (fun q36 => (f_J1_indexOf_4cfef k x1 x2 q36).bind (fun q37 => some q37)))))
def f_J0_indexOf_0f7a4 (k : Nat) (x1 : Int32) : Option (Int32) :=
    gd (decide (k < 6)) ((f_J0_indexOf_7cf53 k x1 (0 : Int32)).bind (fun q43 => some q43))
def f_X7_has (x0 : Int32) (x1 : Int32) : Option (Int32) :=
    (if x1 < 0 then some (0 : Int32) else (if (32 : Int32) ≤ x1 then some (0 : Int32) else (if ((x0 >>> (x1 &&& 31)) &&& (1 : Int32)) = (1 : Int32) then some (1 : Int32) else some (0 : Int32))))
def f_X6_isUnmarried (v : St) (x1 : Int32) : Option (Int32) :=
    (f_X7_has (v 7 4) x1).bind (fun q48 => (if q48 = 0 then some (1 : Int32) else some (0 : Int32)))
def f_X7_at (N0 : Nat) (f : Nat → Int32) (x1 : Int32) : Option (Int32) :=
    (if x1 < 0 then some (0 : Int32) else (if (Int32.ofNat N0) ≤ x1 then some (0 : Int32) else gd (inB x1 N0) (some (f x1.toNatClampNeg))))
def f_X6_hereThen_4 (v : St) (x1 : Int32) : Nat → Int32 → Int32 → Option (Int32)
  | 0, _, _ => none
  | n + 1, x2, x3 =>
    (if (v 7 1) ≤ x3 then some x2 else (f_X7_has (v 7 2) x3).bind (fun q54 => (if q54 = 0 then (f_X7_at 8 (v 3) x3).bind (fun q55 => (if x1 < q55 then f_X6_hereThen_4 v x1 n x2 (x3 + (1 : Int32))  else f_X6_hereThen_4 v x1 n (x2 ||| ((1 : Int32) <<< (x3 &&& 31))) (x3 + (1 : Int32)) )) else f_X6_hereThen_4 v x1 n x2 (x3 + (1 : Int32)) )))
def f_X6_hereThen (v : St) (x1 : Int32) : Option (Int32) :=
    f_X6_hereThen_4 v x1 FUEL (0 : Int32) (0 : Int32)
def f_X6_showsAs_62 (x2 : Int32) (x5 : Int32) (x6 : Int32) (x7 : Int32) (s0 : Int32) : Option (Int32) :=
    (if x2 = (1 : Int32) then some x6 else if x2 = (2 : Int32) then some x7 else if x2 = (3 : Int32) then some s0 else if x2 = (4 : Int32) then some (x6 ^^^ x5) else if x2 = (5 : Int32) then some (s0 &&& (-34 : Int32)) else some x5)
def f_X6_showsAs_29 (v : St) (x2 : Int32) (x3 : Int32) (x4 : Int32) (x5 : Int32) (s0 : Int32) : Option (Int32) :=
    (if (((v 7 0) + x4) - ((v 7 0) + x4) / (2 : Int32) * (2 : Int32)) = (1 : Int32) then f_X6_showsAs_62 x2 x5 s0 (x5 ^^^ ((1 : Int32) <<< ((x3 - x3 / (6 : Int32) * (6 : Int32)) &&& 31))) (x5 ^^^ ((1 : Int32) <<< ((x3 - x3 / (6 : Int32) * (6 : Int32)) &&& 31))) else f_X6_showsAs_62 x2 x5 s0 (x5 ^^^ ((1 : Int32) <<< ((x3 - x3 / (6 : Int32) * (6 : Int32)) &&& 31))) x5)
def f_X6_showsAs (v : St) (x1 : Int32) (x2 : Int32) (x3 : Int32) (x4 : Int32) : Option (Int32) :=
    (f_X7_at 8 (v 2) x1).bind (fun q64 => (if x1 ≤ 0 then f_X6_showsAs_29 v x2 x3 x4 q64 q64 else (f_X7_at 8 (v 2) (x1 - (1 : Int32))).bind (fun q65 => f_X6_showsAs_29 v x2 x3 x4 q64 q65)))
def f_X6_guessesBy_25 (v : St) (x2 : Int32) (x3 : Int32) (x4 : Int32) (x5 : Int32) : Nat → Int32 → Int32 → Option (Int32)
  | 0, _, _ => none
  | n + 1, x6, x7 =>
    (if (v 7 1) ≤ x7 then some x6 else (f_X7_at 8 (v 0) x7).bind (fun q81 => (f_X7_at 8 (v 1) x7).bind (fun q82 => (f_X6_showsAs v x7 q81 q82 x3).bind (fun q83 => (f_X7_has x5 x7).bind (fun q84 => (if q84 = 0 then f_X6_guessesBy_25 v x2 x3 x4 x5 n x6 (x7 + (1 : Int32))  else (if (q83 &&& x2) = x4 then f_X6_guessesBy_25 v x2 x3 x4 x5 n (x6 ||| ((1 : Int32) <<< (x7 &&& 31))) (x7 + (1 : Int32))  else f_X6_guessesBy_25 v x2 x3 x4 x5 n x6 (x7 + (1 : Int32)) )))))))
def f_X6_guessesBy (v : St) (x1 : Int32) (x2 : Int32) (x3 : Int32) : Option (Int32) :=
    (f_X7_at 5 (v 5) x1).bind (fun q79 => (f_X6_hereThen v x3).bind (fun q80 => f_X6_guessesBy_25 v x2 x3 (q79 &&& x2) q80 FUEL (0 : Int32) (0 : Int32)))
def f_X7_bitAt_4 (x0 : Int32) : Nat → Int32 → Int32 → Option (Int32)
  | 0, _, _ => none
  | n + 1, x2, x3 =>
    (if (32 : Int32) ≤ x3 then some (-9 : Int32) else (f_X7_has x0 x3).bind (fun q97 => (if q97 = 0 then f_X7_bitAt_4 x0 n x2 (x3 + (1 : Int32))  else (if x2 = 0 then some x3 else f_X7_bitAt_4 x0 n (x2 + (-1 : Int32)) (x3 + (1 : Int32)) ))))
def f_X7_bitAt (x0 : Int32) (x1 : Int32) : Option (Int32) :=
    f_X7_bitAt_4 x0 FUEL x1 (0 : Int32)
def f_X7_onlyOne (x0 : Int32) : Option (Int32) :=
    (f_J6_bitCount_0f7a4 x0).bind (fun q105 => (if q105 = (1 : Int32) then (f_X7_bitAt x0 (0 : Int32)).bind (fun q106 => some q106) else some (-9 : Int32)))
def f_X6_knows (v : St) (x1 : Int32) (x2 : Int32) : Option (Int32) :=
    (f_X7_at 5 (v 4) x1).bind (fun q110 => (f_X6_guessesBy v x1 q110 x2).bind (fun q111 => (f_X7_onlyOne q111).bind (fun q112 => some q112)))
def f_X6_knownBits_31 (x1 : Int32) (x2 : Int32) (s0 : Int32) (B : (Int32 → Int32 → Option (Int32))) : Option (Int32) :=
    (if s0 = (-9 : Int32) then B x1 (x2 + (1 : Int32)) else B (x1 ||| ((1 : Int32) <<< (s0 &&& 31))) (x2 + (1 : Int32)))
def f_X6_knownBits_4 (v : St) : Nat → Int32 → Int32 → Option (Int32)
  | 0, _, _ => none
  | n + 1, x1, x2 =>
    (if (v 7 3) ≤ x2 then some x1 else (f_X6_isUnmarried v x2).bind (fun q116 => (if q116 = 0 then f_X6_knownBits_31 x1 x2 (-9 : Int32) (fun (x1_117 : Int32) (x2_118 : Int32) => f_X6_knownBits_4 v n x1_117 x2_118 ) else (f_X6_knows v x2 (0 : Int32)).bind (fun q119 => f_X6_knownBits_31 x1 x2 q119 (fun (x1_120 : Int32) (x2_121 : Int32) => f_X6_knownBits_4 v n x1_120 x2_121 )))))
def f_X6_knownBits (v : St) : Option (Int32) :=
    f_X6_knownBits_4 v FUEL (0 : Int32) (0 : Int32)
def f_X6_placeOf (v : St) (x1 : Int32) : Option (Int32) :=
    (f_X7_has (v 7 2) x1).bind (fun q134 => (if q134 = 0 then (f_X7_at 8 (v 3) x1).bind (fun q135 => (if q135 ≤ 0 then some (0 : Int32) else some (1 : Int32))) else some (2 : Int32)))
def f_X6_isHere (v : St) (x1 : Int32) : Option (Int32) :=
    (f_X6_placeOf v x1).bind (fun q140 => (if q140 = 0 then some (1 : Int32) else some (0 : Int32)))
def f_X7_copy_11 (N0 : Nat) (f : (Nat → Int32)) (N1 : Nat) : Nat → Int32 → (Nat → Int32) → Option ((Nat → Int32))
  | 0, _, _ => none
  | n + 1, x2, g =>
    (if (Int32.ofNat N0) ≤ x2 then some g else (if (Int32.ofNat N1) ≤ x2 then some g else gd (inB x2 N0) (gd (inB x2 N1) (f_X7_copy_11 N0 f N1 n (x2 + (1 : Int32)) (upd g x2.toNatClampNeg (f x2.toNatClampNeg)) ))))
def f_X7_copy (N0 : Nat) (f : Nat → Int32) (N1 : Nat) (g : Nat → Int32) : Option ((Nat → Int32)) :=
    f_X7_copy_11 N0 f N1 FUEL (0 : Int32) g
def f_X6_become (v : St) (u : St) : Option (St) :=
    (f_X7_copy 8 (u 0) 8 (v 0)).bind (fun q150 => (f_X7_copy 8 (u 1) 8 (v 1)).bind (fun q151 => (f_X7_copy 8 (u 2) 8 (v 2)).bind (fun q152 => (f_X7_copy 8 (u 3) 8 (v 3)).bind (fun q153 => (f_X7_copy 5 (u 4) 5 (v 4)).bind (fun q154 => (f_X7_copy 5 (u 5) 5 (v 5)).bind (fun q155 => (f_X7_copy 5 (u 6) 5 (v 6)).bind (fun q156 => some (sA (sA (sA (sA (sA (sA (sA (sA (sA (sA (sA (sA v 7 (upd (v 7) 0 (u 7 0))) 7 (upd (upd (v 7) 0 (u 7 0)) 1 (u 7 1))) 0 q150) 1 q151) 2 q152) 3 q153) 7 (upd (upd (upd (v 7) 0 (u 7 0)) 1 (u 7 1)) 2 (u 7 2))) 7 (upd (upd (upd (upd (v 7) 0 (u 7 0)) 1 (u 7 1)) 2 (u 7 2)) 3 (u 7 3))) 4 q154) 5 q155) 6 q156) 7 (upd (upd (upd (upd (upd (v 7) 0 (u 7 0)) 1 (u 7 1)) 2 (u 7 2)) 3 (u 7 3)) 4 (u 7 4))))))))))
def f_X7_put (N0 : Nat) (f : Nat → Int32) (x1 : Int32) (x2 : Int32) : Option ((Nat → Int32)) :=
    (if x1 < 0 then some f else (if (Int32.ofNat N0) ≤ x1 then some f else gd (inB x1 N0) (some (upd f x1.toNatClampNeg x2))))
def f_X6_sendHome (v : St) (x1 : Int32) (x2 : Int32) : Option (St) :=
    (f_X7_put 8 (v 3) x1 x2).bind (fun q167 => some (sA v 3 q167))
def f_X0_bestAway_14 (v : St) : Nat → Int32 → Int32 → Int32 → St → Option (Int32 × St)
  | 0, _, _, _, _ => none
  | n + 1, x2, x3, x4, u =>
    (if (v 7 1) ≤ x4 then some (x3, u) else (f_X6_isHere v x4).bind (fun q171 => (if q171 = 0 then f_X0_bestAway_14 v n x2 x3 (x4 + (1 : Int32)) u  else (f_X6_become u v).bind (fun q172 => (f_X6_sendHome q172 x4 (1 : Int32)).bind (fun q173 => (f_X6_knownBits q173).bind (fun q174 => (f_J6_bitCount_0f7a4 q174).bind (fun q175 => (if x2 ≤ q175 then f_X0_bestAway_14 v n x2 x3 (x4 + (1 : Int32)) q173  else f_X0_bestAway_14 v n q175 x4 (x4 + (1 : Int32)) q173 ))))))))
def f_X0_bestAway (v : St) (u : St) : Option (Int32 × St) :=
    (f_X6_knownBits v).bind (fun q169 => (f_J6_bitCount_0f7a4 q169).bind (fun q170 => f_X0_bestAway_14 v FUEL q170 (-9 : Int32) (0 : Int32) u))
def f_X6_footOf (v : St) (x1 : Int32) : Option (Int32) :=
    (f_X7_at 8 (v 2) x1).bind (fun q191 => some q191)
def f_X6_changeToes (v : St) (x1 : Int32) (x2 : Int32) : Option (St) :=
    (f_X6_footOf v x1).bind (fun q193 => (f_X7_put 8 (v 2) x1 (q193 ^^^ x2)).bind (fun q194 => some (sA v 2 q194)))
def f_X0_change (v : St) (u : St) (x2 : Int32) (x3 : Int32) (x4 : Int32) (x5 : Int32) : Option (St) :=
    (f_X6_become u v).bind (fun q197 => (f_X6_changeToes q197 x2 x3).bind (fun q198 => (f_X6_changeToes q198 x4 x5).bind (fun q199 => some q199)))
def f_X6_guesses (v : St) (x1 : Int32) (x2 : Int32) : Option (Int32) :=
    (f_X7_at 5 (v 4) x1).bind (fun q203 => (f_X6_guessesBy v x1 q203 x2).bind (fun q204 => some q204))
def f_X0_costOf_44 (x1 : Int32) (x3 : Int32) (x4 : Int32) (x2 : Int32) (B : (Int32 → Int32 → Option (Int32))) : Option (Int32) :=
    (f_X7_has x4 x1).bind (fun q209 => (if q209 = 0 then B x2 (x3 + (1 : Int32)) else B (x2 + (-1 : Int32)) (x3 + (1 : Int32))))
def f_X0_costOf_30 (x1 : Int32) (x2 : Int32) (x3 : Int32) (s0 : Int32) (B : (Int32 → Int32 → Option (Int32))) : Option (Int32) :=
    (f_X7_onlyOne s0).bind (fun q208 => (if q208 = x1 then f_X0_costOf_44 x1 x3 s0 (x2 + (10 : Int32)) B else f_X0_costOf_44 x1 x3 s0 x2 B))
def f_X0_costOf_4 (v : St) (x1 : Int32) : Nat → Int32 → Int32 → Option (Int32)
  | 0, _, _ => none
  | n + 1, x2, x3 =>
    (if (v 7 3) ≤ x3 then some x2 else (f_X6_isUnmarried v x3).bind (fun q207 => (if q207 = 0 then f_X0_costOf_30 x1 x2 x3 (0 : Int32) (fun (x2_210 : Int32) (x3_211 : Int32) => f_X0_costOf_4 v x1 n x2_210 x3_211 ) else (f_X6_guesses v x3 (0 : Int32)).bind (fun q212 => f_X0_costOf_30 x1 x2 x3 q212 (fun (x2_213 : Int32) (x3_214 : Int32) => f_X0_costOf_4 v x1 n x2_213 x3_214 )))))
def f_X0_costOf (v : St) (x1 : Int32) : Option (Int32) :=
    f_X0_costOf_4 v x1 FUEL (0 : Int32) (0 : Int32)
def f_X6_lookOf (v : St) (x1 : Int32) : Option (Int32) :=
    (f_X7_at 5 (v 4) x1).bind (fun q234 => some q234)
def f_X0_fewestForgotten_44 (v : St) (x1 : Int32) (x2 : Int32) (x5 : Int32) (x6 : Int32) (s0 : Int32) (B : (Int32 → Option (Int32))) : Option (Int32) :=
    (if s0 = 0 then B (x5 + (1 : Int32)) else (f_X6_guessesBy v x1 (x2 &&& (x6 ^^^ (-1 : Int32))) (0 : Int32)).bind (fun q237 => (f_X7_onlyOne q237).bind (fun q238 => (if q238 = (-9 : Int32) then some x6 else B (x5 + (1 : Int32))))))
def f_X0_fewestForgotten_17 (v : St) (x1 : Int32) (x2 : Int32) (x4 : Int32) : Nat → Int32 → Option (Int32)
  | 0, _ => none
  | n + 1, x5 =>
    (if x4 ≤ x5 then some (-9 : Int32) else gd (inB x5 64) ((if ((ffT x5.toNatClampNeg) &&& (x2 ^^^ (-1 : Int32))) = 0 then f_X0_fewestForgotten_44 v x1 x2 x5 (ffT x5.toNatClampNeg) (1 : Int32) (fun (x5_240 : Int32) => f_X0_fewestForgotten_17 v x1 x2 x4 n x5_240 ) else f_X0_fewestForgotten_44 v x1 x2 x5 (ffT x5.toNatClampNeg) (0 : Int32) (fun (x5_239 : Int32) => f_X0_fewestForgotten_17 v x1 x2 x4 n x5_239 ))))
def f_X0_fewestForgotten (v : St) (x1 : Int32) : Option (Int32) :=
    (f_X6_lookOf v x1).bind (fun q236 => f_X0_fewestForgotten_17 v x1 q236 (64 : Int32) FUEL (0 : Int32))
def f_X0_fewestToes_11 (v : St) (x2 : Int32) (x4 : Int32) : Nat → Int32 → St → Option (Int32 × St)
  | 0, _, _ => none
  | n + 1, x5, u =>
    (if x4 ≤ x5 then some ((-9 : Int32), u) else gd (inB x5 64) ((f_X6_become u v).bind (fun q254 => (f_X6_changeToes q254 x2 (ffT x5.toNatClampNeg)).bind (fun q255 => (f_X6_knownBits q255).bind (fun q256 => (f_X7_has q256 x2).bind (fun q257 => (if q257 = 0 then some ((ffT x5.toNatClampNeg), q255) else f_X0_fewestToes_11 v x2 x4 n (x5 + (1 : Int32)) q255 )))))))
def f_X0_fewestToes (v : St) (u : St) (x2 : Int32) : Option (Int32 × St) :=
    f_X0_fewestToes_11 v x2 (64 : Int32) FUEL (0 : Int32) u
def f_X0_firstRest_101 (u : St) (x4 : Int32) (x5 : Int32) (x8 : Int32) (s0 : Int32) (B : (Int32 → St → Option (Int32 × St))) : Option (Int32 × St) :=
    (if x8 = 0 then B (x5 + (1 : Int32)) u else (if s0 = 0 then B (x5 + (1 : Int32)) u else some ((((10 : Int32) * x4) + x5), u)))
def f_X0_firstRest_71 (v : St) (u : St) (x2 : Int32) (x3 : Int32) (x4 : Int32) (x5 : Int32) (x7 : Int32) (s0 : Int32) (B : (Int32 → St → Option (Int32 × St))) : Option (Int32 × St) :=
    (f_X0_change v u x2 x4 x3 ((1 : Int32) - x5)).bind (fun q273 => (f_X0_costOf q273 x3).bind (fun q274 => (if q274 < x7 then f_X0_firstRest_101 q273 x4 x5 s0 (0 : Int32) B else f_X0_firstRest_101 q273 x4 x5 s0 (1 : Int32) B)))
def f_X0_firstRest_12 (v : St) (x2 : Int32) (x3 : Int32) (x4 : Int32) : Nat → Int32 → St → (St → Option (Int32 × St)) → Option (Int32 × St)
  | 0, _, _, _ => none
  | n + 1, x5, u, K12_128 =>
    (if (1 : Int32) < x5 then K12_128 u else (f_X0_change v u x2 x4 x3 x5).bind (fun q268 => (f_X0_costOf q268 x2).bind (fun q269 => (f_X0_costOf q268 x3).bind (fun q270 => (f_X0_change v q268 x2 ((1 : Int32) - x4) x3 x5).bind (fun q271 => (f_X0_costOf q271 x2).bind (fun q272 => (if q272 < q269 then f_X0_firstRest_71 v q271 x2 x3 x4 x5 q270 (0 : Int32) (fun (x5_275 : Int32) (u_276 : St) => f_X0_firstRest_12 v x2 x3 x4 n x5_275 u_276 K12_128) else f_X0_firstRest_71 v q271 x2 x3 x4 x5 q270 (1 : Int32) (fun (x5_277 : Int32) (u_278 : St) => f_X0_firstRest_12 v x2 x3 x4 n x5_277 u_278 K12_128))))))))
def f_X0_firstRest_3 (v : St) (x2 : Int32) (x3 : Int32) : Nat → Int32 → St → Option (Int32 × St)
  | 0, _, _ => none
  | n + 1, x4, u =>
    (if (1 : Int32) < x4 then some ((-9 : Int32), u) else f_X0_firstRest_12 v x2 x3 x4 FUEL (0 : Int32) u (fun (u_279 : St) => f_X0_firstRest_3 v x2 x3 n (x4 + (1 : Int32)) u_279 ))
def f_X0_firstRest (v : St) (u : St) (x2 : Int32) (x3 : Int32) : Option (Int32 × St) :=
    f_X0_firstRest_3 v x2 x3 FUEL (0 : Int32) u
def f_X6_shows (v : St) (x1 : Int32) (x2 : Int32) : Option (Int32) :=
    (f_X7_at 8 (v 0) x1).bind (fun q309 => (f_X7_at 8 (v 1) x1).bind (fun q310 => (f_X6_showsAs v x1 q309 q310 x2).bind (fun q311 => some q311)))
def f_X1_areAlike (v : St) (x1 : Int32) (x2 : Int32) (x3 : Int32) : Option (Int32) :=
    (f_X6_isHere v x1).bind (fun q315 => (if q315 = 0 then some (0 : Int32) else (f_X6_isHere v x2).bind (fun q316 => (if q316 = 0 then some (0 : Int32) else (f_X6_shows v x1 (0 : Int32)).bind (fun q317 => (f_X6_shows v x2 (0 : Int32)).bind (fun q318 => (if (q317 &&& x3) = (q318 &&& x3) then some (1 : Int32) else some (0 : Int32))))))))
def f_X1_firstTwoBy_14 (v : St) (x1 : Int32) (x2 : Int32) : Nat → Int32 → (Unit → Option (Int32)) → Option (Int32)
  | 0, _, _ => none
  | n + 1, x3, K14_45 =>
    (if (v 7 1) ≤ x3 then K14_45 () else (f_X1_areAlike v x2 x3 x1).bind (fun q326 => (if q326 = 0 then f_X1_firstTwoBy_14 v x1 x2 n (x3 + (1 : Int32)) K14_45 else some (((10 : Int32) * x2) + x3))))
def f_X1_firstTwoBy_2 (v : St) (x1 : Int32) : Nat → Int32 → Option (Int32)
  | 0, _ => none
  | n + 1, x2 =>
    (if (v 7 1) ≤ x2 then some (-9 : Int32) else f_X1_firstTwoBy_14 v x1 x2 FUEL (x2 + (1 : Int32)) (fun (_ : Unit) => f_X1_firstTwoBy_2 v x1 n (x2 + (1 : Int32)) ))
def f_X1_firstTwoBy (v : St) (x1 : Int32) : Option (Int32) :=
    f_X1_firstTwoBy_2 v x1 FUEL (0 : Int32)
def f_X1_fewestLooks_9 (v : St) (x2 : Int32) : Nat → Int32 → Option (Int32)
  | 0, _ => none
  | n + 1, x3 =>
    (if x2 ≤ x3 then some (-9 : Int32) else gd (inB x3 64) ((f_X1_firstTwoBy v (ffT x3.toNatClampNeg)).bind (fun q335 => (if q335 = (-9 : Int32) then some (ffT x3.toNatClampNeg) else f_X1_fewestLooks_9 v x2 n (x3 + (1 : Int32)) ))))
def f_X1_fewestLooks (v : St) : Option (Int32) :=
    f_X1_fewestLooks_9 v (64 : Int32) FUEL (0 : Int32)
def f_X1_firstTwo (v : St) : Option (Int32) :=
    (f_X1_firstTwoBy v (63 : Int32)).bind (fun q342 => some q342)
def f_X1_howManyShow_4 (v : St) (x1 : Int32) : Nat → Int32 → Int32 → Option (Int32)
  | 0, _, _ => none
  | n + 1, x2, x3 =>
    (if (v 7 1) ≤ x3 then some x2 else (f_X6_isHere v x3).bind (fun q344 => (if q344 = 0 then f_X1_howManyShow_4 v x1 n x2 (x3 + (1 : Int32))  else (f_X6_shows v x3 (0 : Int32)).bind (fun q345 => (if q345 = x1 then f_X1_howManyShow_4 v x1 n (x2 + (1 : Int32)) (x3 + (1 : Int32))  else f_X1_howManyShow_4 v x1 n x2 (x3 + (1 : Int32)) )))))
def f_X1_howManyShow (v : St) (x1 : Int32) : Option (Int32) :=
    f_X1_howManyShow_4 v x1 FUEL (0 : Int32) (0 : Int32)
def f_X1_greatest_4 (v : St) : Nat → Int32 → Int32 → Option (Int32)
  | 0, _, _ => none
  | n + 1, x1, x2 =>
    (if (63 : Int32) < x2 then some x1 else (f_X1_howManyShow v x2).bind (fun q354 => f_X1_greatest_4 v n (if x1 < q354 then q354 else x1) (x2 + (1 : Int32)) ))
def f_X1_greatest (v : St) : Option (Int32) :=
    f_X1_greatest_4 v FUEL (0 : Int32) (0 : Int32)
def f_X1_greatestShown_7 (v : St) : Nat → Int32 → Int32 → Int32 → Option (Int32)
  | 0, _, _, _ => none
  | n + 1, x1, x2, x3 =>
    (if (63 : Int32) < x3 then some x2 else (f_X1_howManyShow v x3).bind (fun q360 => (if q360 ≤ x1 then f_X1_greatestShown_7 v n x1 x2 (x3 + (1 : Int32))  else f_X1_greatestShown_7 v n q360 x3 (x3 + (1 : Int32)) )))
def f_X1_greatestShown (v : St) : Option (Int32) :=
    f_X1_greatestShown_7 v FUEL (0 : Int32) (-9 : Int32) (0 : Int32)
def f_X1_howFarApart_4 (v : St) (x1 : Int32) : Nat → Int32 → Int32 → (Int32 → Option (Int32)) → Option (Int32)
  | 0, _, _, _ => none
  | n + 1, x2, x3, K4_47 =>
    (if (v 7 1) ≤ x3 then K4_47 x2 else (f_X6_isHere v x3).bind (fun q368 => (if q368 = 0 then f_X1_howFarApart_4 v x1 n x2 (x3 + (1 : Int32)) K4_47 else (f_X6_shows v x3 (0 : Int32)).bind (fun q369 => (f_X7_has q369 x1).bind (fun q370 => (if q370 = 0 then f_X1_howFarApart_4 v x1 n (x2 + (-1 : Int32)) (x3 + (1 : Int32)) K4_47 else f_X1_howFarApart_4 v x1 n (x2 + (1 : Int32)) (x3 + (1 : Int32)) K4_47))))))
def f_X1_howFarApart (v : St) (x1 : Int32) : Option (Int32) :=
    f_X1_howFarApart_4 v x1 FUEL (0 : Int32) (0 : Int32) (fun (x2_371 : Int32) => some (if 0 ≤ x2_371 then x2_371 else 0 - x2_371))
def f_X1_tellingToe_7 (v : St) : Nat → Int32 → Int32 → Int32 → Option (Int32)
  | 0, _, _, _ => none
  | n + 1, x1, x2, x3 =>
    (if (6 : Int32) ≤ x3 then some x1 else (f_X1_howFarApart v x3).bind (fun q383 => (if x2 ≤ q383 then f_X1_tellingToe_7 v n x1 x2 (x3 + (1 : Int32))  else f_X1_tellingToe_7 v n x3 q383 (x3 + (1 : Int32)) )))
def f_X1_tellingToe (v : St) : Option (Int32) :=
    f_X1_tellingToe_7 v FUEL (0 : Int32) (9 : Int32) (0 : Int32)
def f_X1_twos_16 (v : St) (x2 : Int32) : Nat → Int32 → Int32 → (Int32 → Option (Int32)) → Option (Int32)
  | 0, _, _, _ => none
  | n + 1, x1, x3, K16_44 =>
    (if (v 7 1) ≤ x3 then K16_44 x1 else (f_X1_areAlike v x2 x3 (63 : Int32)).bind (fun q391 => (if q391 = 0 then f_X1_twos_16 v x2 n x1 (x3 + (1 : Int32)) K16_44 else f_X1_twos_16 v x2 n (x1 + (1 : Int32)) (x3 + (1 : Int32)) K16_44)))
def f_X1_twos_4 (v : St) : Nat → Int32 → Int32 → Option (Int32)
  | 0, _, _ => none
  | n + 1, x1, x2 =>
    (if (v 7 1) ≤ x2 then some x1 else f_X1_twos_16 v x2 FUEL x1 (x2 + (1 : Int32)) (fun (x1_392 : Int32) => f_X1_twos_4 v n x1_392 (x2 + (1 : Int32)) ))
def f_X1_twos (v : St) : Option (Int32) :=
    f_X1_twos_4 v FUEL (0 : Int32) (0 : Int32)
def f_X2_greatestDivisor_9 : Nat → Int64 → Int64 → Int32 → Option (Int64)
  | 0, _, _, _ => none
  | n + 1, y4, y6, x8 =>
    (if (100 : Int32) ≤ x8 then some y4 else (if (lg_cmp y6 (0 : Int64)) = 0 then some y4 else gd (nzL y6) (f_X2_greatestDivisor_9 n y6 (y4 - y4 / y6 * y6) (x8 + (1 : Int32)) )))
def f_X2_greatestDivisor (y0 : Int64) (y2 : Int64) : Option (Int64) :=
    f_X2_greatestDivisor_9 FUEL y0 y2 (0 : Int32)
def f_X2_partOf (y0 : Int64) (y2 : Int64) (x4 : Int32) : Option (Int64) :=
    (f_X2_greatestDivisor y0 y2).bind (fun q412 => (if (lg_cmp q412 (0 : Int64)) = 0 then some (x4.toInt64) else (if x4 = 0 then gd (nzL q412) (some (y0 / q412)) else gd (nzL q412) (some (y2 / q412)))))
def f_X2_meanToes_5 (v : St) : Nat → Int64 → Int32 → (Int64 → Option (Int64)) → Option (Int64)
  | 0, _, _, _ => none
  | n + 1, y2, x4, K5_33 =>
    (if (v 7 1) ≤ x4 then K5_33 y2 else (f_X6_footOf v x4).bind (fun q418 => (f_J6_bitCount_0f7a4 q418).bind (fun q419 => f_X2_meanToes_5 v n (y2 + (q419.toInt64)) (x4 + (1 : Int32)) K5_33)))
def f_X2_meanToes (v : St) (x1 : Int32) : Option (Int64) :=
    f_X2_meanToes_5 v FUEL (0 : Int64) (0 : Int32) (fun (x2_420 : Int64) => (f_X2_partOf x2_420 ((if (1 : Int32) < (v 7 1) then (v 7 1) else (1 : Int32)).toInt64) x1).bind (fun q421 => some q421))
def f_X6_choiceFrom (v : St) (x1 : Int32) : Option (Int32) :=
    (if x1 = 0 then (f_X6_hereThen v (0 : Int32)).bind (fun q431 => some q431) else some x1)
def f_X6_choiceOf (v : St) (x1 : Int32) : Option (Int32) :=
    (f_X6_guesses v x1 (0 : Int32)).bind (fun q434 => (f_X6_choiceFrom v q434).bind (fun q435 => some q435))
def f_X2_ofTaking_12 (v : St) (x1 : Int32) (x2 : Int32) : Nat → Int64 → Int64 → Int32 → Int32 → (Int64 → Int64 → Option (Int64)) → Option (Int64)
  | 0, _, _, _, _, _ => none
  | n + 1, y4, y6, x8, x9, K12_101 =>
    (if (v 7 3) ≤ x9 then K12_101 y4 y6 else (f_X6_isUnmarried v x9).bind (fun q438 => (if q438 = 0 then f_X2_ofTaking_12 v x1 x2 n y4 y6 x8 (x9 + (1 : Int32)) K12_101 else (if x2 ≤ x8 then f_X2_ofTaking_12 v x1 x2 n y4 y6 x8 (x9 + (1 : Int32)) K12_101 else (f_X6_choiceOf v x9).bind (fun q439 => (f_J6_bitCount_0f7a4 q439).bind (fun q440 => (f_X7_has q439 x1).bind (fun q441 => (if q441 = 0 then f_X2_ofTaking_12 v x1 x2 n (y4 * ((if (1 : Int32) < q440 then q440 else (1 : Int32)).toInt64)) (y6 * ((if (1 : Int32) < q440 then q440 else (1 : Int32)).toInt64)) (x8 + (1 : Int32)) (x9 + (1 : Int32)) K12_101 else f_X2_ofTaking_12 v x1 x2 n (y4 * ((if (1 : Int32) < q440 then q440 else (1 : Int32)).toInt64)) (y6 * ((q440 - (1 : Int32)).toInt64)) (x8 + (1 : Int32)) (x9 + (1 : Int32)) K12_101))))))))
def f_X2_ofTaking (v : St) (x1 : Int32) (x2 : Int32) (x3 : Int32) : Option (Int64) :=
    f_X2_ofTaking_12 v x1 x2 FUEL (1 : Int64) (1 : Int64) (0 : Int32) (0 : Int32) (fun (x4_442 : Int64) (x6_443 : Int64) => (f_X2_partOf (x4_442 - x6_443) x4_442 x3).bind (fun q444 => some q444))
def f_X3_mayHaveAny_5 (v : St) (x1 : Int32) (x2 : Int32) : Nat → Int32 → Int32 → Option (Int32)
  | 0, _, _ => none
  | n + 1, x3, x4 =>
    (if (5 : Int32) ≤ x4 then some x3 else (f_X7_has x1 x4).bind (fun q463 => (if q463 = 0 then f_X3_mayHaveAny_5 v x1 x2 n x3 (x4 + (1 : Int32))  else (f_X7_at 5 (v 0) (x2 + x4)).bind (fun q464 => f_X3_mayHaveAny_5 v x1 x2 n (x3 ||| q464) (x4 + (1 : Int32)) ))))
def f_X3_mayHaveAny (v : St) (x1 : Int32) (x2 : Int32) : Option (Int32) :=
    f_X3_mayHaveAny_5 v x1 x2 FUEL (0 : Int32) (0 : Int32)
def f_X3_most_17 (v : St) (x1 : Int32) (x2 : Int32) (x3 : Int32) : Nat → Int32 → Int32 → Option (Int32)
  | 0, _, _ => none
  | n + 1, x4, x5 =>
    (if ((1 : Int32) <<< (x3 &&& 31)) ≤ x5 then some x4 else (f_X3_mayHaveAny v x5 x1).bind (fun q472 => (f_J6_bitCount_0f7a4 (q472 &&& (x2 ^^^ (-1 : Int32)))).bind (fun q473 => (f_J6_bitCount_0f7a4 x5).bind (fun q474 => f_X3_most_17 v x1 x2 x3 n (if ((x3 - q474) + q473) < x4 then ((x3 - q474) + q473) else x4) (x5 + (1 : Int32)) ))))
def f_X3_most (v : St) (x1 : Int32) (x2 : Int32) : Option (Int32) :=
    f_X3_most_17 v x1 x2 (if (0 : Int32) < ((v 1 0) - x1) then ((v 1 0) - x1) else (0 : Int32)) FUEL (if (0 : Int32) < ((v 1 0) - x1) then ((v 1 0) - x1) else (0 : Int32)) (0 : Int32)
def f_X3_firstPartner_10 (v : St) (x1 : Int32) (x2 : Int32) (x3 : Int32) : Nat → Int32 → Option (Int32)
  | 0, _ => none
  | n + 1, x4 =>
    (if (8 : Int32) ≤ x4 then some (-9 : Int32) else (f_X7_at 5 (v 0) x1).bind (fun q483 => (f_X7_has (q483 &&& (x2 ^^^ (-1 : Int32))) x4).bind (fun q484 => (if q484 = 0 then f_X3_firstPartner_10 v x1 x2 x3 n (x4 + (1 : Int32))  else (f_X3_most v (x1 + (1 : Int32)) (x2 ||| ((1 : Int32) <<< (x4 &&& 31)))).bind (fun q485 => (if ((1 : Int32) + q485) = x3 then some x4 else f_X3_firstPartner_10 v x1 x2 x3 n (x4 + (1 : Int32)) ))))))
def f_X3_firstPartner (v : St) (x1 : Int32) (x2 : Int32) : Option (Int32) :=
    (f_X3_most v x1 x2).bind (fun q482 => f_X3_firstPartner_10 v x1 x2 q482 FUEL (0 : Int32))
def f_X3_notKnownTo (v : St) (x1 : Int32) : Option (Int32) :=
    (f_X6_knows v x1 (0 : Int32)).bind (fun q495 => (f_X6_hereThen v (0 : Int32)).bind (fun q496 => (if q495 = (-9 : Int32) then some q496 else some (q496 &&& (((1 : Int32) <<< (q495 &&& 31)) ^^^ (-1 : Int32))))))
def f_X3_look_10 (u : St) : Nat → Int32 → St → Option (St)
  | 0, _, _ => none
  | n + 1, x2, v =>
    (if (v 1 0) ≤ x2 then some v else (f_X6_isUnmarried u x2).bind (fun q500 => (if q500 = 0 then (f_X7_put 5 (v 0) x2 (0 : Int32)).bind (fun q501 => f_X3_look_10 u n (x2 + (1 : Int32)) (sA v 0 q501) ) else (f_X3_notKnownTo u x2).bind (fun q502 => (f_X7_put 5 (v 0) x2 q502).bind (fun q503 => f_X3_look_10 u n (x2 + (1 : Int32)) (sA v 0 q503) )))))
def f_X3_look (v : St) (u : St) : Option (St) :=
    f_X3_look_10 u FUEL (0 : Int32) (sA v 1 (upd (v 1) 0 (u 7 3)))
def f_X3_partnerOf_8 (v : St) (x1 : Int32) : Nat → Int32 → Int32 → Int32 → Option (Int32)
  | 0, _, _, _ => none
  | n + 1, x2, x3, x4 =>
    (if x1 < x4 then some x3 else (if (v 1 0) ≤ x4 then some x3 else (f_X3_firstPartner v x4 x2).bind (fun q513 => (if q513 = (-9 : Int32) then f_X3_partnerOf_8 v x1 n x2 q513 (x4 + (1 : Int32))  else f_X3_partnerOf_8 v x1 n (x2 ||| ((1 : Int32) <<< (q513 &&& 31))) q513 (x4 + (1 : Int32)) ))))
def f_X3_partnerOf (v : St) (x1 : Int32) : Option (Int32) :=
    f_X3_partnerOf_8 v x1 FUEL (0 : Int32) (-9 : Int32) (0 : Int32)
def f_X4_add (v : St) (x1 : Int32) : Option (Int32 × St) :=
    (f_X7_put 16 (v 0) (v 1 0) x1).bind (fun q522 => some (((v 1 0) + (1 : Int32)), (sA (sA v 0 q522) 1 (upd (v 1) 0 ((v 1 0) + (1 : Int32))))))
def f_X4_empty (v : St) : Option (St) :=
    some (sA v 1 (upd (v 1) 0 (0 : Int32)))
def f_X6_kindOf (v : St) (x1 : Int32) : Option (Int32) :=
    (f_X7_at 8 (v 0) x1).bind (fun q524 => some q524)
def f_X4_isShownAs_3 (v : St) (u : St) (x2 : Int32) (x3 : Int32) (x4 : Int32) : Nat → Int32 → Option (Int32)
  | 0, _ => none
  | n + 1, x5 =>
    (if (v 1 0) ≤ x5 then some (1 : Int32) else (f_X6_showsAs u x2 x3 x4 x5).bind (fun q526 => (f_X7_at 16 (v 0) x5).bind (fun q527 => (if q526 = q527 then f_X4_isShownAs_3 v u x2 x3 x4 n (x5 + (1 : Int32))  else some (0 : Int32)))))
def f_X4_isShownAs (v : St) (u : St) (x2 : Int32) (x3 : Int32) (x4 : Int32) : Option (Int32) :=
    f_X4_isShownAs_3 v u x2 x3 x4 FUEL (0 : Int32)
def f_X4_figuresOf_5 (v : St) (u : St) (x2 : Int32) : Nat → Int32 → Int32 → Option (Int32)
  | 0, _, _ => none
  | n + 1, x3, x4 =>
    (if (9 : Int32) < x4 then some x3 else (f_X6_kindOf u x2).bind (fun q534 => (f_X4_isShownAs v u x2 q534 x4).bind (fun q535 => (if q535 = 0 then f_X4_figuresOf_5 v u x2 n x3 (x4 + (1 : Int32))  else f_X4_figuresOf_5 v u x2 n (x3 ||| ((1 : Int32) <<< (x4 &&& 31))) (x4 + (1 : Int32)) ))))
def f_X4_figuresOf (v : St) (u : St) (x2 : Int32) : Option (Int32) :=
    f_X4_figuresOf_5 v u x2 FUEL (0 : Int32) (0 : Int32)
def f_X6_hasGroom (v : St) (x1 : Int32) : Option (Int32) :=
    (if x1 < 0 then some (0 : Int32) else (if (v 7 3) ≤ x1 then some (0 : Int32) else some (1 : Int32)))
def f_X4_firstWrongGuess_43 (x2 : Int32) (s0 : Int32) (B : (Int32 → Option (Int32))) : Option (Int32) :=
    (if s0 = 0 then some x2 else B (x2 + (1 : Int32)))
def f_X4_firstWrongGuess_2 (v : St) (u : St) : Nat → Int32 → Option (Int32)
  | 0, _ => none
  | n + 1, x2 =>
    (if (v 1 0) ≤ x2 then some (-9 : Int32) else (f_X6_hasGroom u x2).bind (fun q545 => (if q545 = 0 then f_X4_firstWrongGuess_43 x2 (0 : Int32) (fun (x2_546 : Int32) => f_X4_firstWrongGuess_2 v u n x2_546 ) else (f_X6_guesses u x2 (0 : Int32)).bind (fun q547 => (f_J6_bitCount_0f7a4 q547).bind (fun q548 => (f_X7_at 16 (v 0) x2).bind (fun q549 => (if q548 = q549 then f_X4_firstWrongGuess_43 x2 (1 : Int32) (fun (x2_551 : Int32) => f_X4_firstWrongGuess_2 v u n x2_551 ) else f_X4_firstWrongGuess_43 x2 (0 : Int32) (fun (x2_550 : Int32) => f_X4_firstWrongGuess_2 v u n x2_550 ))))))))
def f_X4_firstWrongGuess (v : St) (u : St) : Option (Int32) :=
    f_X4_firstWrongGuess_2 v u FUEL (0 : Int32)
def f_X4_howManyToesOf_4 (v : St) (x1 : Int32) : Nat → Int32 → Int32 → Option (Int32)
  | 0, _, _ => none
  | n + 1, x2, x3 =>
    (if (v 1 0) ≤ x3 then some x2 else (f_X7_at 16 (v 0) x3).bind (fun q565 => (f_X7_has x1 q565).bind (fun q566 => (if q566 = 0 then f_X4_howManyToesOf_4 v x1 n x2 (x3 + (1 : Int32))  else f_X4_howManyToesOf_4 v x1 n (x2 + (1 : Int32)) (x3 + (1 : Int32)) ))))
def f_X4_howManyToesOf (v : St) (x1 : Int32) : Option (Int32) :=
    f_X4_howManyToesOf_4 v x1 FUEL (0 : Int32) (0 : Int32)
def f_X4_isFull (v : St) : Option (Int32) :=
    (if (v 1 0) < (16 : Int32) then some (0 : Int32) else some (1 : Int32))
def f_X6_figureOf (v : St) (x1 : Int32) : Option (Int32) :=
    (f_X7_at 8 (v 1) x1).bind (fun q575 => some q575)
def f_X4_kindsOf_5 (v : St) (u : St) (x2 : Int32) : Nat → Int32 → Int32 → Option (Int32)
  | 0, _, _ => none
  | n + 1, x3, x4 =>
    (if (6 : Int32) ≤ x4 then some x3 else (f_X6_figureOf u x2).bind (fun q577 => (f_X4_isShownAs v u x2 x4 q577).bind (fun q578 => (if q578 = 0 then f_X4_kindsOf_5 v u x2 n x3 (x4 + (1 : Int32))  else f_X4_kindsOf_5 v u x2 n (x3 ||| ((1 : Int32) <<< (x4 &&& 31))) (x4 + (1 : Int32)) ))))
def f_X4_kindsOf (v : St) (u : St) (x2 : Int32) : Option (Int32) :=
    f_X4_kindsOf_5 v u x2 FUEL (0 : Int32) (0 : Int32)
def f_X5_add (v : St) (x1 : Int32) : Option (Int32 × St) :=
    (f_X7_put 96 (v 0) (v 1 0) x1).bind (fun q586 => some (((v 1 0) + (1 : Int32)), (sA (sA v 0 q586) 1 (upd (v 1) 0 ((v 1 0) + (1 : Int32))))))
def f_X5_digitAt (v : St) (x1 : Int32) : Option (Int32) :=
    (f_X7_at 96 (v 0) x1).bind (fun q588 => some (q588 - (48 : Int32)))
def f_X5_empty (v : St) : Option (St) :=
    some (sA v 1 (upd (v 1) 0 (0 : Int32)))
def f_X5_fits (x0 : Int32) (x1 : Int32) : Option (Int32) :=
    (if x1 = (57 : Int32) then (if x0 < (48 : Int32) then some (0 : Int32) else (if (57 : Int32) < x0 then some (0 : Int32) else some (1 : Int32))) else if x1 = (107 : Int32) then (f_J0_indexOf_0f7a4 5 ((x0.toUInt32 % 65536).toInt32)).bind (fun q590 => (if q590 < 0 then some (0 : Int32) else some (1 : Int32))) else (if x0 = x1 then some (1 : Int32) else some (0 : Int32)))
def f_X5_formOf (x0 : Int32) : Option (Nat) :=
    (if x0 = (98 : Int32) then some 0 else if x0 = (103 : Int32) then some 1 else if x0 = (108 : Int32) then some 2 else if x0 = (116 : Int32) then some 2 else if x0 = (119 : Int32) then some 3 else if x0 = (121 : Int32) then some 2 else some 4)
def f_X5_formFault_45 (v : St) (x2 : Nat) : Nat → Int32 → Int32 → (Int32 → Option (Int32)) → Option (Int32)
  | 0, _, _, _ => none
  | n + 1, x1, x3, K45_91 =>
    (f_J0_length_8abf5 x2).bind (fun q607 => (if q607 ≤ x3 then K45_91 x1 else (if (v 1 0) ≤ x1 then some x1 else (f_X7_at 96 (v 0) x1).bind (fun q608 => (f_J0_charAt_5068e x2 x3).bind (fun q609 => (f_X5_fits q608 q609).bind (fun q610 => (if q610 = 0 then some x1 else f_X5_formFault_45 v x2 n (x1 + (1 : Int32)) (x3 + (1 : Int32)) K45_91)))))))
def f_X5_formFault_11 (v : St) : Nat → Int32 → Option (Int32)
  | 0, _ => none
  | n + 1, x1 =>
    (if (v 1 0) ≤ x1 then some (-1 : Int32) else (f_X7_at 96 (v 0) x1).bind (fun q604 => (f_X5_formOf q604).bind (fun q605 => (f_J0_isEmpty_aae02 q605).bind (fun q606 => (if q606 = 0 then f_X5_formFault_45 v q605 FUEL (x1 + (1 : Int32)) (0 : Int32) (fun (x1_611 : Int32) => f_X5_formFault_11 v n x1_611 ) else some x1)))))
def f_X5_formFault (v : St) : Option (Int32) :=
    (if (v 1 0) = 0 then some (0 : Int32) else f_X5_formFault_11 v FUEL (0 : Int32))
def f_X5_isFull (v : St) : Option (Int32) :=
    (if (v 1 0) < (96 : Int32) then some (0 : Int32) else some (1 : Int32))
def f_X5_kindAt (v : St) (x1 : Int32) : Option (Int32) :=
    (f_X7_at 96 (v 0) x1).bind (fun q633 => (f_J0_indexOf_0f7a4 5 ((q633.toUInt32 % 65536).toInt32)).bind (fun q634 => some q634))
def f_X5_numberAt (v : St) (x1 : Int32) : Option (Int32) :=
    (f_X5_digitAt v x1).bind (fun q637 => (f_X5_digitAt v (x1 + (1 : Int32))).bind (fun q638 => some (((10 : Int32) * q637) + q638)))
def f_X6_setKind (v : St) (x1 : Int32) (x2 : Int32) (x3 : Int32) : Option (St) :=
    (f_X7_put 8 (v 0) x1 x2).bind (fun q641 => (f_X7_put 8 (v 1) x1 x3).bind (fun q642 => some (sA (sA v 0 q641) 1 q642)))
def f_X6_addBride (v : St) (x1 : Int32) (x2 : Int32) (x3 : Int32) : Option (Int32 × St) :=
    (if (8 : Int32) ≤ (v 7 1) then some ((0 : Int32), v) else (if x3 ≤ (63 : Int32) then (f_X6_setKind v (v 7 1) x1 x2).bind (fun q645 => (f_X7_put 8 (q645 2) (q645 7 1) x3).bind (fun q646 => some ((1 : Int32), (sA (sA q645 2 q646) 7 (upd (q645 7) 1 ((q645 7 1) + (1 : Int32))))))) else some ((0 : Int32), v)))
def f_X6_setLook (v : St) (x1 : Int32) (x2 : Int32) : Option (St) :=
    (f_X7_put 5 (v 4) x1 x2).bind (fun q651 => some (sA v 4 q651))
def f_X6_setMind (v : St) (x1 : Int32) (x2 : Int32) : Option (St) :=
    (f_X7_put 5 (v 5) x1 x2).bind (fun q653 => some (sA v 5 q653))
def f_X6_addGroom (v : St) (x1 : Int32) (x2 : Int32) : Option (Int32 × St) :=
    (if (5 : Int32) ≤ (v 7 3) then some ((0 : Int32), v) else (if (63 : Int32) < x1 then some ((0 : Int32), v) else (if x2 ≤ (63 : Int32) then (f_X6_setLook v (v 7 3) x1).bind (fun q655 => (f_X6_setMind q655 (q655 7 3) x2).bind (fun q656 => some ((1 : Int32), (sA q656 7 (upd (q656 7) 3 ((q656 7 3) + (1 : Int32))))))) else some ((0 : Int32), v))))
def f_X6_hasBride (v : St) (x1 : Int32) : Option (Int32) :=
    (if x1 < 0 then some (0 : Int32) else (if (v 7 1) ≤ x1 then some (0 : Int32) else some (1 : Int32)))
def f_X5_tellToe (v : St) (x1 : Int32) (x2 : Int32) : Option (Int32 × St) :=
    (f_X6_hasBride v x1).bind (fun q664 => (if q664 = 0 then some ((0 : Int32), v) else (if x2 < (6 : Int32) then (f_X6_changeToes v x1 ((1 : Int32) <<< (x2 &&& 31))).bind (fun q665 => some ((1 : Int32), q665)) else some ((0 : Int32), v))))
def f_X6_setLiquor (v : St) (x1 : Int32) (x2 : Int32) : Option (St) :=
    (f_X7_put 5 (v 6) x1 x2).bind (fun q670 => some (sA v 6 q670))
def f_X5_tellLiquor (v : St) (x1 : Int32) (x2 : Int32) : Option (Int32 × St) :=
    (f_X6_hasGroom v x1).bind (fun q672 => (if q672 = 0 then some ((0 : Int32), v) else (f_X6_setLiquor v x1 x2).bind (fun q673 => some ((1 : Int32), q673))))
def f_X6_canWed (v : St) (x1 : Int32) : Option (Int32) :=
    (f_X6_hasGroom v x1).bind (fun q677 => (if q677 = 0 then some (0 : Int32) else (f_X6_isUnmarried v x1).bind (fun q678 => (if q678 = 0 then some (0 : Int32) else (f_X6_hereThen v (0 : Int32)).bind (fun q679 => (if q679 = 0 then some (0 : Int32) else some (1 : Int32)))))))
def f_X6_takenOf (x0 : Int32) (x1 : Int32) : Option (Int32) :=
    (f_J6_bitCount_0f7a4 x0).bind (fun q686 => (if q686 = 0 then some (-9 : Int32) else gd (nzI q686) ((f_X7_bitAt x0 (x1 - x1 / q686 * q686)).bind (fun q687 => some q687))))
def f_X6_wed (v : St) (x1 : Int32) : Option (Int32 × St) :=
    (f_X7_at 5 (v 6) x1).bind (fun q692 => (f_X7_at 5 (v 4) x1).bind (fun q693 => (f_X6_guessesBy v x1 q693 (0 : Int32)).bind (fun q694 => (f_X7_onlyOne q694).bind (fun q695 => (if q695 = (-9 : Int32) then (f_X6_choiceFrom v q694).bind (fun q696 => (f_X6_takenOf q696 q692).bind (fun q697 => (if q697 = (-9 : Int32) then some ((-9 : Int32), v) else some (((100 : Int32) + q697), (sA (sA v 7 (upd (v 7) 2 ((v 7 2) ||| ((1 : Int32) <<< (q697 &&& 31))))) 7 (upd (upd (v 7) 2 ((v 7 2) ||| ((1 : Int32) <<< (q697 &&& 31)))) 4 ((v 7 4) ||| ((1 : Int32) <<< (x1 &&& 31))))))))) else (f_X7_put 8 (v 3) q695 ((1 : Int32) + (q692 / (3 : Int32)))).bind (fun q698 => some (q695, (sA v 3 q698))))))))
def f_X6_canPass (v : St) (x1 : Int32) : Option (Int32) :=
    (if (999 : Int32) < ((v 7 0) + x1) then some (0 : Int32) else some (1 : Int32))
def f_X6_sentFor (v : St) (x1 : Int32) : Option (Int32) :=
    (f_X7_at 8 (v 3) x1).bind (fun q709 => some q709)
def f_X6_liquorOf (v : St) (x1 : Int32) : Option (Int32) :=
    (f_X7_at 5 (v 6) x1).bind (fun q711 => some q711)
def f_X6_passYears_12 (x1 : Int32) : Nat → Int32 → St → (St → Option (St)) → Option (St)
  | 0, _, _, _ => none
  | n + 1, x2, v, K12_45 =>
    (if (v 7 1) ≤ x2 then K12_45 v else (f_X6_sentFor v x2).bind (fun q713 => (f_X7_put 8 (v 3) x2 (if (0 : Int32) < (q713 - x1) then (q713 - x1) else (0 : Int32))).bind (fun q714 => f_X6_passYears_12 x1 n (x2 + (1 : Int32)) (sA v 3 q714) K12_45)))
def f_X6_passYears_47 (x1 : Int32) : Nat → Int32 → St → Option (St)
  | 0, _, _ => none
  | n + 1, x2, v =>
    (if (v 7 3) ≤ x2 then some v else (f_X6_liquorOf v x2).bind (fun q716 => (f_X6_setLiquor v x2 (if (0 : Int32) < (q716 - x1) then (q716 - x1) else (0 : Int32))).bind (fun q717 => f_X6_passYears_47 x1 n (x2 + (1 : Int32)) q717 )))
def f_X6_passYears (v : St) (x1 : Int32) : Option (St) :=
    f_X6_passYears_12 x1 FUEL (0 : Int32) (sA v 7 (upd (v 7) 0 ((v 7 0) + x1))) (fun (v_715 : St) => f_X6_passYears_47 x1 FUEL (0 : Int32) v_715)
def f_X5_tellYears (v : St) (x1 : Int32) : Option (Int32 × St) :=
    (if x1 < (1 : Int32) then some ((0 : Int32), v) else (if (60 : Int32) < x1 then some ((0 : Int32), v) else (f_X6_canPass v x1).bind (fun q732 => (if q732 = 0 then some ((0 : Int32), v) else (f_X6_passYears v x1).bind (fun q733 => some ((1 : Int32), q733))))))
def f_X5_tell (v : St) (u : St) (x2 : Int32) : Option (Int32 × St) :=
    (f_X5_digitAt v (x2 + (1 : Int32))).bind (fun q739 => (f_X5_digitAt v (x2 + (2 : Int32))).bind (fun q740 => (f_X7_at 96 (v 0) x2).bind (fun q741 => (if q741 = (98 : Int32) then (f_X5_kindAt v (x2 + (1 : Int32))).bind (fun q742 => (f_X5_numberAt v (x2 + (3 : Int32))).bind (fun q743 => (f_X6_addBride u q742 q740 q743).bind (fun q744 => gd (isZ q744.1) (some (q744.1, q744.2))))) else if q741 = (103 : Int32) then (f_X5_numberAt v (x2 + (1 : Int32))).bind (fun q745 => (f_X5_numberAt v (x2 + (3 : Int32))).bind (fun q746 => (f_X6_addGroom u q745 q746).bind (fun q747 => gd (isZ q747.1) (some (q747.1, q747.2))))) else if q741 = (108 : Int32) then (f_X5_tellLiquor u q739 q740).bind (fun q748 => gd (isZ q748.1) (some (q748.1, q748.2))) else if q741 = (116 : Int32) then (f_X5_tellToe u q739 q740).bind (fun q749 => gd (isZ q749.1) (some (q749.1, q749.2))) else if q741 = (119 : Int32) then (f_X6_canWed u q739).bind (fun q750 => (if q750 = 0 then some ((0 : Int32), u) else (f_X6_wed u q739).bind (fun q751 => (if q751.1 = (-9 : Int32) then some ((0 : Int32), q751.2) else some ((1 : Int32), q751.2))))) else (f_X5_numberAt v (x2 + (1 : Int32))).bind (fun q752 => (f_X5_tellYears u q752).bind (fun q753 => gd (isZ q753.1) (some (q753.1, q753.2))))))))
def f_X5_tellTo_21 (v : St) : Nat → Int32 → Int32 → St → Option (Int32 × St)
  | 0, _, _, _ => none
  | n + 1, x3, x4, u =>
    (if (v 1 0) ≤ x4 then some (x3, u) else (f_X5_tell v u x4).bind (fun q782 => (if q782.1 = 0 then some (((-2000 : Int32) - x4), q782.2) else (f_X7_at 96 (v 0) x4).bind (fun q783 => (f_X5_formOf q783).bind (fun q784 => (f_J0_length_8abf5 q784).bind (fun q785 => f_X5_tellTo_21 v n (x3 + (1 : Int32)) (x4 + ((1 : Int32) + q785)) q782.2 ))))))
def f_X5_tellTo (v : St) (u : St) : Option (Int32 × St) :=
    (f_X5_formFault v).bind (fun q781 => (if q781 = (-1 : Int32) then f_X5_tellTo_21 v FUEL (0 : Int32) (0 : Int32) u else some (((-1000 : Int32) - q781), u)))
def f_X6_allLiquor_4 (v : St) : Nat → Int32 → Int32 → Option (Int32)
  | 0, _, _ => none
  | n + 1, x1, x2 =>
    (if (v 7 3) ≤ x2 then some x1 else (f_X6_liquorOf v x2).bind (fun q798 => f_X6_allLiquor_4 v n (x1 + q798) (x2 + (1 : Int32)) ))
def f_X6_allLiquor (v : St) : Option (Int32) :=
    f_X6_allLiquor_4 v FUEL (0 : Int32) (0 : Int32)
def f_X6_nextSeed (x0 : Int32) : Option (Int32) :=
    some ((x0 * (1664525 : Int32)) + (1013904223 : Int32))
def f_X6_drawnFoot (x0 : Int32) : Option (Int32) :=
    some (((x0 &&& (2147483647 : Int32)) / (256 : Int32)) - ((x0 &&& (2147483647 : Int32)) / (256 : Int32)) / (64 : Int32) * (64 : Int32))
def f_X6_drawFeetAndMinds_4 : Nat → Int32 → Int32 → St → (Int32 → St → Option (Int32 × St)) → Option (Int32 × St)
  | 0, _, _, _, _ => none
  | n + 1, x2, x3, v, K4_35 =>
    (if (v 7 1) ≤ x3 then K4_35 x2 v else (f_X6_nextSeed x2).bind (fun q804 => (f_X6_drawnFoot q804).bind (fun q805 => (f_X7_put 8 (v 2) x3 q805).bind (fun q806 => f_X6_drawFeetAndMinds_4 n q804 (x3 + (1 : Int32)) (sA v 2 q806) K4_35))))
def f_X6_drawFeetAndMinds_37 : Nat → Int32 → Int32 → St → Option (Int32 × St)
  | 0, _, _, _ => none
  | n + 1, x2, x3, v =>
    (if (v 7 3) ≤ x3 then some (x2, v) else (f_X6_nextSeed x2).bind (fun q809 => (f_X6_drawnFoot q809).bind (fun q810 => (f_X6_setMind v x3 q810).bind (fun q811 => f_X6_drawFeetAndMinds_37 n q809 (x3 + (1 : Int32)) q811 ))))
def f_X6_drawFeetAndMinds (v : St) (x1 : Int32) : Option (Int32 × St) :=
    f_X6_drawFeetAndMinds_4 FUEL x1 (0 : Int32) v (fun (x2_807 : Int32) (v_808 : St) => f_X6_drawFeetAndMinds_37 FUEL x2_807 (0 : Int32) v_808)
def f_X6_mindOf (v : St) (x1 : Int32) : Option (Int32) :=
    (f_X7_at 5 (v 5) x1).bind (fun q832 => some q832)
def f_X6_toesFromMind (v : St) (x1 : Int32) (x2 : Int32) : Option (Int32) :=
    (f_X6_footOf v x2).bind (fun q834 => (f_X6_mindOf v x1).bind (fun q835 => (f_J6_bitCount_0f7a4 (q834 ^^^ q835)).bind (fun q836 => some q836)))
def f_X6_nearestTo_9 (v : St) (x1 : Int32) : Nat → Int32 → Int32 → Int32 → Option (Int32)
  | 0, _, _, _ => none
  | n + 1, x2, x3, x4 =>
    (if (v 7 1) ≤ x4 then some x2 else (f_X6_toesFromMind v x1 x4).bind (fun q840 => (if x3 ≤ q840 then f_X6_nearestTo_9 v x1 n x2 x3 (x4 + (1 : Int32))  else f_X6_nearestTo_9 v x1 n x4 q840 (x4 + (1 : Int32)) )))
def f_X6_nearestTo (v : St) (x1 : Int32) : Option (Int32) :=
    f_X6_nearestTo_9 v x1 FUEL (-9 : Int32) (7 : Int32) (0 : Int32)
def f_X6_takenWith (v : St) (x1 : Int32) (x2 : Int32) : Option (Int32) :=
    (f_X6_guesses v x1 (0 : Int32)).bind (fun q848 => (f_X6_canWed v x1).bind (fun q849 => (if q849 = 0 then some (-9 : Int32) else (f_X7_onlyOne q848).bind (fun q850 => (if q850 = (-9 : Int32) then (f_X6_choiceFrom v q848).bind (fun q851 => (f_X6_takenOf q851 x2).bind (fun q852 => some q852)) else some (-9 : Int32))))))
def f_X6_wedAll_7 : Nat → Int32 → Int32 → Int32 → St → (Int32 → Int32 → St → Option (Int32 × St)) → Option (Int32 × St)
  | 0, _, _, _, _, _ => none
  | n + 1, x2, x3, x4, v, K7_51 =>
    (if (v 7 3) ≤ x4 then K7_51 x2 x3 v else (f_X6_canWed v x4).bind (fun q860 => (if q860 = 0 then f_X6_wedAll_7 n x2 x3 (x4 + (1 : Int32)) v K7_51 else (f_X6_wed v x4).bind (fun q861 => (if q861.1 < (100 : Int32) then f_X6_wedAll_7 n x2 (x3 + (1 : Int32)) (x4 + (1 : Int32)) q861.2 K7_51 else f_X6_wedAll_7 n (x2 + (1 : Int32)) x3 (x4 + (1 : Int32)) q861.2 K7_51)))))
def f_X6_wedAll (v : St) (x1 : Int32) : Option (Int32 × St) :=
    f_X6_wedAll_7 FUEL (0 : Int32) (0 : Int32) (0 : Int32) v (fun (x2_862 : Int32) (x3_863 : Int32) (v_864 : St) => (if x1 = 0 then some (x2_862, v_864) else some (x3_863, v_864)))
def f_X7_refuse (S : Nat → St) (x1 : Int32) : Option (Int32 × (Nat → St)) :=
    (f_X7_at 7 ((S 6) 0) (-x1)).bind (fun q882 => (f_X7_put 7 ((S 6) 0) (-x1) (q882 + (1 : Int32))).bind (fun q883 => some (x1, (sS S 6 (sA (S 6) 0 q883)))))
def f_X7_alike (S : Nat → St) (x1 : Int32) : Option (Int32 × (Nat → St)) :=
    (if x1 = (0 : Int32) then (f_X1_twos (S 0)).bind (fun q886 => some (q886, S)) else if x1 = (1 : Int32) then (f_X1_firstTwo (S 0)).bind (fun q887 => some (q887, S)) else if x1 = (2 : Int32) then (f_X1_greatest (S 0)).bind (fun q888 => some (q888, S)) else if x1 = (3 : Int32) then (f_X1_greatestShown (S 0)).bind (fun q889 => some (q889, S)) else (f_X7_refuse S (-2 : Int32)).bind (fun q890 => some (q890.1, q890.2)))
def f_X7_away (S : Nat → St) : Option (Int32 × (Nat → St)) :=
    (f_X0_bestAway (S 0) (S 1)).bind (fun q900 => some (q900.1, (sS S 1 q900.2)))
def f_X7_bride (S : Nat → St) (x1 : Int32) (x2 : Int32) : Option (Int32 × (Nat → St)) :=
    (f_X6_hasBride (S 0) x1).bind (fun q902 => (if q902 = 0 then (f_X7_refuse S (-1 : Int32)).bind (fun q910 => some (q910.1, q910.2)) else (if x2 = (0 : Int32) then (f_X6_kindOf (S 0) x1).bind (fun q903 => some (q903, S)) else if x2 = (1 : Int32) then (f_X6_figureOf (S 0) x1).bind (fun q904 => some (q904, S)) else if x2 = (2 : Int32) then (f_X6_footOf (S 0) x1).bind (fun q905 => some (q905, S)) else if x2 = (3 : Int32) then (f_X6_shows (S 0) x1 (0 : Int32)).bind (fun q906 => some (q906, S)) else if x2 = (4 : Int32) then (f_X6_sentFor (S 0) x1).bind (fun q907 => some (q907, S)) else if x2 = (5 : Int32) then (f_X6_placeOf (S 0) x1).bind (fun q908 => some (q908, S)) else (f_X7_refuse S (-2 : Int32)).bind (fun q909 => some (q909.1, q909.2)))))
def f_X7_outside (x0 : Int32) (x1 : Int32) (x2 : Int32) : Option (Int32) :=
    (if x1 ≤ x0 then (if x0 ≤ x2 then some (0 : Int32) else some (-6 : Int32)) else some (-4 : Int32))
def f_X7_refusalOf (x0 : Int32) (x1 : Int32) (x2 : Int32) (x3 : Int32) : Option (Int32) :=
    (if x0 = 0 then some (-1 : Int32) else (f_X7_outside x1 x2 x3).bind (fun q929 => some q929))
def f_X7_refuseLong (S : Nat → St) (x1 : Int32) : Option (Int64 × (Nat → St)) :=
    (f_X7_refuse S x1).bind (fun q932 => some (((4000000000000000000 : Int64) - (q932.1.toInt64)), q932.2))
def f_X7_isNotEither (x0 : Int32) : Option (Int32) :=
    (if x0 = 0 then some (0 : Int32) else (if x0 = (1 : Int32) then some (0 : Int32) else some (1 : Int32)))
def f_X7_chance (S : Nat → St) (x1 : Int32) (x2 : Int32) (x3 : Int32) : Option (Int64 × (Nat → St)) :=
    (f_X6_hasBride (S 0) x1).bind (fun q936 => (f_X7_refusalOf q936 x2 (0 : Int32) (4 : Int32)).bind (fun q937 => (if q937 = 0 then (f_X7_isNotEither x3).bind (fun q938 => (if q938 = 0 then (f_X2_ofTaking (S 0) x1 x2 x3).bind (fun q939 => some (q939, S)) else (f_X7_refuseLong S (-2 : Int32)).bind (fun q940 => some (q940.1, q940.2)))) else (f_X7_refuseLong S q937).bind (fun q941 => some (q941.1, q941.2)))))
def f_X7_changes (S : Nat → St) (x1 : Int32) (x2 : Int32) : Option (Int32 × (Nat → St)) :=
    (f_X6_hasBride (S 0) x1).bind (fun q950 => (if q950 = 0 then (f_X7_refuse S (-1 : Int32)).bind (fun q951 => some (q951.1, q951.2)) else (if x2 < 0 then (f_X7_refuse S (-1 : Int32)).bind (fun q952 => some (q952.1, q952.2)) else (if x2 < (6 : Int32) then (f_X6_changeToes (S 0) x1 ((1 : Int32) <<< (x2 &&& 31))).bind (fun q953 => (f_X6_footOf q953 x1).bind (fun q954 => some (q954, (sS S 0 q953)))) else (f_X7_refuse S (-1 : Int32)).bind (fun q955 => some (q955.1, q955.2))))))
def f_X7_clear (S : Nat → St) : Option (Int32 × (Nat → St)) :=
    (f_X4_empty (S 4)).bind (fun q965 => some (((S 4) 1 0), (sS S 4 q965)))
def f_X7_count_24 (S : (Nat → St)) (x1 : Int32) : Option (Int32) :=
    (if x1 = (0 : Int32) then some ((S 0) 7 1) else if x1 = (1 : Int32) then some ((S 0) 7 3) else if x1 = (2 : Int32) then some ((S 0) 7 0) else if x1 = (3 : Int32) then (f_X6_hereThen (S 0) (0 : Int32)).bind (fun q967 => some q967) else if x1 = (4 : Int32) then some ((S 0) 7 4) else if x1 = (5 : Int32) then (f_X6_allLiquor (S 0)).bind (fun q968 => some q968) else if x1 = (6 : Int32) then some ((S 4) 1 0) else if x1 = (7 : Int32) then some ((S 3) 1 0) else some (-9 : Int32))
def f_X7_count (S : Nat → St) (x1 : Int32) : Option (Int32) :=
    (if x1 < (11 : Int32) then f_X7_count_24 S x1 else (if (16 : Int32) < x1 then f_X7_count_24 S x1 else (f_X7_at 7 ((S 6) 0) (x1 - (10 : Int32))).bind (fun q969 => some q969)))
def f_X7_drink_30 (S : (Nat → St)) (x1 : Int32) (x2 : Int32) : Nat → Int32 → Option (Int32 × (Nat → St))
  | 0, _ => none
  | n + 1, x3 =>
    (if (9 : Int32) < x3 then some ((-9 : Int32), S) else (f_X6_takenWith (S 0) x1 x3).bind (fun q987 => (if q987 = x2 then some (x3, S) else f_X7_drink_30 S x1 x2 n (x3 + (1 : Int32)) )))
def f_X7_drink (S : Nat → St) (x1 : Int32) (x2 : Int32) : Option (Int32 × (Nat → St)) :=
    (f_X6_hasGroom (S 0) x1).bind (fun q984 => (if q984 = 0 then (f_X7_refuse S (-1 : Int32)).bind (fun q985 => some (q985.1, q985.2)) else (f_X6_hasBride (S 0) x2).bind (fun q986 => (if q986 = 0 then (f_X7_refuse S (-1 : Int32)).bind (fun q988 => some (q988.1, q988.2)) else f_X7_drink_30 S x1 x2 FUEL (0 : Int32)))))
def f_X7_drinks (S : Nat → St) (x1 : Int32) (x2 : Int32) : Option (Int32 × (Nat → St)) :=
    (f_X6_hasGroom (S 0) x1).bind (fun q1000 => (f_X7_refusalOf q1000 x2 (0 : Int32) (9 : Int32)).bind (fun q1001 => (if q1001 = 0 then (f_X6_liquorOf (S 0) x1).bind (fun q1002 => (f_X6_setLiquor (S 0) x1 x2).bind (fun q1003 => some (q1002, (sS S 0 q1003)))) else (f_X7_refuse S q1001).bind (fun q1004 => some (q1004.1, q1004.2)))))
def f_X7_forget (S : Nat → St) (x1 : Int32) : Option (Int32 × (Nat → St)) :=
    (f_X6_hasGroom (S 0) x1).bind (fun q1011 => (if q1011 = 0 then (f_X7_refuse S (-1 : Int32)).bind (fun q1015 => some (q1015.1, q1015.2)) else (f_X6_isUnmarried (S 0) x1).bind (fun q1012 => (if q1012 = 0 then (f_X7_refuse S (-3 : Int32)).bind (fun q1014 => some (q1014.1, q1014.2)) else (f_X0_fewestForgotten (S 0) x1).bind (fun q1013 => some (q1013, S))))))
def f_X7_groom (S : Nat → St) (x1 : Int32) (x2 : Int32) : Option (Int32 × (Nat → St)) :=
    (f_X6_hasGroom (S 0) x1).bind (fun q1023 => (if q1023 = 0 then (f_X7_refuse S (-1 : Int32)).bind (fun q1031 => some (q1031.1, q1031.2)) else (if x2 = (0 : Int32) then (f_X6_lookOf (S 0) x1).bind (fun q1024 => some (q1024, S)) else if x2 = (1 : Int32) then (f_X6_mindOf (S 0) x1).bind (fun q1025 => some (q1025, S)) else if x2 = (2 : Int32) then (f_X6_liquorOf (S 0) x1).bind (fun q1026 => some (q1026, S)) else if x2 = (3 : Int32) then (f_X6_isUnmarried (S 0) x1).bind (fun q1027 => (if q1027 = 0 then some ((1 : Int32), S) else some ((0 : Int32), S))) else if x2 = (4 : Int32) then (f_X6_guesses (S 0) x1 (0 : Int32)).bind (fun q1028 => some (q1028, S)) else if x2 = (5 : Int32) then (f_X6_knows (S 0) x1 (0 : Int32)).bind (fun q1029 => some (q1029, S)) else (f_X7_refuse S (-2 : Int32)).bind (fun q1030 => some (q1030.1, q1030.2)))))
def f_X7_groomThen (S : Nat → St) (x1 : Int32) (x2 : Int32) (x3 : Int32) : Option (Int32 × (Nat → St)) :=
    (f_X6_hasGroom (S 0) x1).bind (fun q1049 => (f_X7_refusalOf q1049 x2 (0 : Int32) (60 : Int32)).bind (fun q1050 => (if q1050 = 0 then (f_X7_isNotEither x3).bind (fun q1051 => (if q1051 = 0 then (if x3 = 0 then (f_X6_guesses (S 0) x1 x2).bind (fun q1053 => some (q1053, S)) else (f_X6_knows (S 0) x1 x2).bind (fun q1052 => some (q1052, S))) else (f_X7_refuse S (-2 : Int32)).bind (fun q1054 => some (q1054.1, q1054.2)))) else (f_X7_refuse S q1050).bind (fun q1055 => some (q1055.1, q1055.2)))))
def f_X7_hide (S : Nat → St) (x1 : Int32) : Option (Int32 × (Nat → St)) :=
    (f_X6_hasBride (S 0) x1).bind (fun q1066 => (if q1066 = 0 then (f_X7_refuse S (-1 : Int32)).bind (fun q1070 => some (q1070.1, q1070.2)) else (f_X6_isHere (S 0) x1).bind (fun q1067 => (if q1067 = 0 then (f_X7_refuse S (-3 : Int32)).bind (fun q1069 => some (q1069.1, q1069.2)) else (f_X0_fewestToes (S 0) (S 1) x1).bind (fun q1068 => some (q1068.1, (sS S 1 q1068.2)))))))
def f_X7_image (S : Nat → St) : Option (Int32 × (Nat → St)) :=
    (f_X6_become (S 2) (S 0)).bind (fun q1078 => some (((S 0) 7 0), (sS (sS S 2 q1078) 6 (sA (S 6) 1 (upd ((S 6) 1) 0 (1 : Int32))))))
def f_X7_judge (S : Nat → St) : Option (Int32 × (Nat → St)) :=
    (f_X4_firstWrongGuess (S 4) (S 0)).bind (fun q1080 => (f_X4_empty (S 4)).bind (fun q1081 => some (q1080, (sS S 4 q1081))))
def f_X7_known (S : Nat → St) (x1 : Int32) : Option (Int32 × (Nat → St)) :=
    (f_X7_isNotEither x1).bind (fun q1084 => (if q1084 = 0 then (if x1 = 0 then (f_X6_knownBits (S 0)).bind (fun q1087 => some (q1087, S)) else (f_X6_hereThen (S 0) (0 : Int32)).bind (fun q1085 => (f_X6_knownBits (S 0)).bind (fun q1086 => some ((q1085 &&& (q1086 ^^^ (-1 : Int32))), S)))) else (f_X7_refuse S (-2 : Int32)).bind (fun q1088 => some (q1088.1, q1088.2))))
def f_X7_letter (S : Nat → St) (x1 : Int32) : Option (Int32 × (Nat → St)) :=
    (if 0 ≤ x1 then (if (255 : Int32) < x1 then (f_X7_refuse S (-6 : Int32)).bind (fun q1096 => some (q1096.1, q1096.2)) else (f_X5_isFull (S 3)).bind (fun q1097 => (if q1097 = 0 then (f_X5_add (S 3) x1).bind (fun q1098 => some (q1098.1, (sS S 3 q1098.2))) else (f_X7_refuse S (-6 : Int32)).bind (fun q1099 => some (q1099.1, q1099.2))))) else (f_X7_refuse S (-4 : Int32)).bind (fun q1100 => some (q1100.1, q1100.2)))
def f_X7_lies_4 (S : (Nat → St)) : Nat → Int32 → Int32 → Option (Int32)
  | 0, _, _ => none
  | n + 1, x1, x2 =>
    (if ((S 0) 7 1) ≤ x2 then some x1 else (f_X6_isHere (S 0) x2).bind (fun q1109 => (if q1109 = 0 then f_X7_lies_4 S n x1 (x2 + (1 : Int32))  else (f_X6_shows (S 0) x2 (0 : Int32)).bind (fun q1110 => (f_X6_footOf (S 0) x2).bind (fun q1111 => (f_J6_bitCount_0f7a4 (q1110 ^^^ q1111)).bind (fun q1112 => f_X7_lies_4 S n (x1 + q1112) (x2 + (1 : Int32)) ))))))
def f_X7_lies (S : Nat → St) : Option (Int32) :=
    f_X7_lies_4 S FUEL (0 : Int32) (0 : Int32)
def f_X7_looks (S : Nat → St) (x1 : Int32) (x2 : Int32) : Option (Int32 × (Nat → St)) :=
    (f_X6_hasGroom (S 0) x1).bind (fun q1122 => (f_X7_refusalOf q1122 x2 (0 : Int32) (63 : Int32)).bind (fun q1123 => (if q1123 = 0 then (f_X6_lookOf (S 0) x1).bind (fun q1124 => (f_X6_setLook (S 0) x1 x2).bind (fun q1125 => some (q1124, (sS S 0 q1125)))) else (f_X7_refuse S q1123).bind (fun q1126 => some (q1126.1, q1126.2)))))
def f_X7_loses_4 (S : (Nat → St)) : Nat → Int32 → Int32 → Option (Int32)
  | 0, _, _ => none
  | n + 1, x1, x2 =>
    (if ((S 0) 7 3) ≤ x2 then some x1 else (f_X6_knows (S 0) x2 (0 : Int32)).bind (fun q1133 => (if q1133 = (-9 : Int32) then f_X7_loses_4 S n x1 (x2 + (1 : Int32))  else (f_X6_nearestTo (S 0) x2).bind (fun q1134 => (if q1133 = q1134 then f_X7_loses_4 S n (x1 ||| ((1 : Int32) <<< (x2 &&& 31))) (x2 + (1 : Int32))  else f_X7_loses_4 S n x1 (x2 + (1 : Int32)) )))))
def f_X7_loses (S : Nat → St) : Option (Int32) :=
    f_X7_loses_4 S FUEL (0 : Int32) (0 : Int32)
def f_X7_lots_44 (x1 : Int32) (x3 : Int32) : Nat → Int32 → Int32 → Int32 → (Nat → St) → Option (Int32 × (Nat → St))
  | 0, _, _, _, _ => none
  | n + 1, x5, x6, x7, S =>
    (if x1 ≤ x7 then some (x6, S) else (f_X6_become (S 1) (S 0)).bind (fun q1145 => (f_X6_drawFeetAndMinds q1145 x5).bind (fun q1146 => (f_X6_wedAll q1146.2 x3).bind (fun q1147 => f_X7_lots_44 x1 x3 n q1146.1 (x6 + q1147.1) (x7 + (1 : Int32)) (sS (sS (sS S 1 q1145) 1 q1146.2) 1 q1147.2) ))))
def f_X7_lots (S : Nat → St) (x1 : Int32) (x2 : Int32) (x3 : Int32) : Option (Int32 × (Nat → St)) :=
    (f_X7_outside x1 (1 : Int32) (20 : Int32)).bind (fun q1143 => (if q1143 = 0 then (f_X7_isNotEither x3).bind (fun q1144 => (if q1144 = 0 then f_X7_lots_44 x1 x3 FUEL x2 (0 : Int32) (0 : Int32) S else (f_X7_refuse S (-2 : Int32)).bind (fun q1148 => some (q1148.1, q1148.2)))) else (f_X7_refuse S q1143).bind (fun q1149 => some (q1149.1, q1149.2))))
def f_X7_mean (S : Nat → St) (x1 : Int32) : Option (Int64 × (Nat → St)) :=
    (f_X7_isNotEither x1).bind (fun q1165 => (if q1165 = 0 then (f_X2_meanToes (S 0) x1).bind (fun q1166 => some (q1166, S)) else (f_X7_refuseLong S (-2 : Int32)).bind (fun q1167 => some (q1167.1, q1167.2))))
def f_X7_meant (S : Nat → St) (x1 : Int32) (x2 : Int32) : Option (Int32 × (Nat → St)) :=
    (f_X6_hasGroom (S 0) x1).bind (fun q1172 => (if q1172 = 0 then (f_X7_refuse S (-1 : Int32)).bind (fun q1177 => some (q1177.1, q1177.2)) else (f_X7_isNotEither x2).bind (fun q1173 => (if q1173 = 0 then (f_X6_nearestTo (S 0) x1).bind (fun q1174 => (if x2 = 0 then some (q1174, S) else (if q1174 = (-9 : Int32) then some (q1174, S) else (f_X6_toesFromMind (S 0) x1 q1174).bind (fun q1175 => some (q1175, S))))) else (f_X7_refuse S (-2 : Int32)).bind (fun q1176 => some (q1176.1, q1176.2))))))
def f_X7_minds (S : Nat → St) (x1 : Int32) (x2 : Int32) : Option (Int32 × (Nat → St)) :=
    (f_X6_hasGroom (S 0) x1).bind (fun q1188 => (f_X7_refusalOf q1188 x2 (0 : Int32) (63 : Int32)).bind (fun q1189 => (if q1189 = 0 then (f_X6_mindOf (S 0) x1).bind (fun q1190 => (f_X6_setMind (S 0) x1 x2).bind (fun q1191 => some (q1190, (sS S 0 q1191)))) else (f_X7_refuse S q1189).bind (fun q1192 => some (q1192.1, q1192.2)))))
def f_X7_on (S : Nat → St) : Option (Int32 × (Nat → St)) :=
    (if ((S 6) 1 0) = 0 then (f_X7_refuse S (-3 : Int32)).bind (fun q1200 => some (q1200.1, q1200.2)) else (f_X6_become (S 0) (S 2)).bind (fun q1199 => some ((q1199 7 0), (sS S 0 q1199))))
def f_X7_order (S : Nat → St) (x1 : Int32) : Option (Int32 × (Nat → St)) :=
    (f_X7_isNotEither x1).bind (fun q1204 => (if q1204 = 0 then (f_X6_become (S 1) (S 0)).bind (fun q1205 => (f_X6_wedAll q1205 x1).bind (fun q1206 => some (q1206.1, (sS (sS S 1 q1205) 1 q1206.2)))) else (f_X7_refuse S (-2 : Int32)).bind (fun q1207 => some (q1207.1, q1207.2))))
def f_X7_pairs_22 (S : (Nat → St)) (x1 : Int32) : Option (Int32 × (Nat → St)) :=
    (f_X3_look (S 5) (S 0)).bind (fun q1213 => (if x1 = (-1 : Int32) then (f_X3_most q1213 (0 : Int32) (0 : Int32)).bind (fun q1215 => some (q1215, (sS S 5 q1213))) else (f_X3_partnerOf q1213 x1).bind (fun q1214 => some (q1214, (sS S 5 q1213)))))
def f_X7_pairs (S : Nat → St) (x1 : Int32) : Option (Int32 × (Nat → St)) :=
    (if x1 = (-1 : Int32) then f_X7_pairs_22 S x1 else (f_X6_hasGroom (S 0) x1).bind (fun q1216 => (if q1216 = 0 then (f_X7_refuse S (-1 : Int32)).bind (fun q1217 => some (q1217.1, q1217.2)) else f_X7_pairs_22 S x1)))
def f_X7_rightly (S : Nat → St) (x1 : Int32) : Option (Int32 × (Nat → St)) :=
    (f_X6_hasBride (S 0) x1).bind (fun q1227 => (if q1227 = 0 then (f_X7_refuse S (-1 : Int32)).bind (fun q1230 => some (q1230.1, q1230.2)) else (f_X6_footOf (S 0) x1).bind (fun q1228 => (f_X4_howManyToesOf (S 4) q1228).bind (fun q1229 => some (q1229, S)))))
def f_X7_row (S : Nat → St) (x1 : Int32) : Option (Int32 × (Nat → St)) :=
    (f_X7_outside x1 (0 : Int32) (99 : Int32)).bind (fun q1236 => (if q1236 = 0 then (f_X4_isFull (S 4)).bind (fun q1237 => (if q1237 = 0 then (f_X4_add (S 4) x1).bind (fun q1238 => some (q1238.1, (sS S 4 q1238.2))) else (f_X7_refuse S (-6 : Int32)).bind (fun q1239 => some (q1239.1, q1239.2)))) else (f_X7_refuse S q1236).bind (fun q1240 => some (q1240.1, q1240.2))))
def f_X7_sees (S : Nat → St) : Option (Int32) :=
    (f_X1_fewestLooks (S 0)).bind (fun q1248 => some q1248)
def f_X7_showsThen (S : Nat → St) (x1 : Int32) (x2 : Int32) : Option (Int32 × (Nat → St)) :=
    (f_X6_hasBride (S 0) x1).bind (fun q1250 => (f_X7_refusalOf q1250 x2 (0 : Int32) (60 : Int32)).bind (fun q1251 => (if q1251 = 0 then (f_X6_shows (S 0) x1 x2).bind (fun q1252 => some (q1252, S)) else (f_X7_refuse S q1251).bind (fun q1253 => some (q1253.1, q1253.2)))))
def f_X7_takes (S : Nat → St) (x1 : Int32) : Option (Int32 × (Nat → St)) :=
    (f_X6_hasGroom (S 0) x1).bind (fun q1259 => (if q1259 = 0 then (f_X7_refuse S (-1 : Int32)).bind (fun q1262 => some (q1262.1, q1262.2)) else (f_X6_liquorOf (S 0) x1).bind (fun q1260 => (f_X6_takenWith (S 0) x1 q1260).bind (fun q1261 => some (q1261, S)))))
def f_X7_tells (S : Nat → St) : Option (Int32) :=
    (f_X1_tellingToe (S 0)).bind (fun q1268 => some q1268)
def f_X7_turn (S : Nat → St) (x1 : Int32) (x2 : Int32) (x3 : Int32) : Option (Int32 × (Nat → St)) :=
    (f_X6_hasBride (S 0) x1).bind (fun q1270 => (if q1270 = 0 then (f_X7_refuse S (-1 : Int32)).bind (fun q1278 => some (q1278.1, q1278.2)) else (if x2 < 0 then (f_X7_refuse S (-2 : Int32)).bind (fun q1271 => some (q1271.1, q1271.2)) else (if x2 < (6 : Int32) then (f_X7_outside x3 (0 : Int32) (9 : Int32)).bind (fun q1272 => (if q1272 = 0 then (f_X6_kindOf (S 0) x1).bind (fun q1273 => (f_X6_figureOf (S 0) x1).bind (fun q1274 => (f_X6_setKind (S 0) x1 x2 x3).bind (fun q1275 => some ((((10 : Int32) * q1273) + q1274), (sS S 0 q1275))))) else (f_X7_refuse S q1272).bind (fun q1276 => some (q1276.1, q1276.2)))) else (f_X7_refuse S (-2 : Int32)).bind (fun q1277 => some (q1277.1, q1277.2))))))
def f_X7_two (S : Nat → St) (x1 : Int32) (x2 : Int32) : Option (Int32 × (Nat → St)) :=
    (f_X6_hasBride (S 0) x1).bind (fun q1292 => (if q1292 = 0 then (f_X7_refuse S (-1 : Int32)).bind (fun q1293 => some (q1293.1, q1293.2)) else (f_X6_hasBride (S 0) x2).bind (fun q1294 => (if q1294 = 0 then (f_X7_refuse S (-1 : Int32)).bind (fun q1295 => some (q1295.1, q1295.2)) else (if x1 = x2 then (f_X7_refuse S (-1 : Int32)).bind (fun q1301 => some (q1301.1, q1301.2)) else (f_X6_isHere (S 0) x1).bind (fun q1296 => (if q1296 = 0 then (f_X7_refuse S (-3 : Int32)).bind (fun q1297 => some (q1297.1, q1297.2)) else (f_X6_isHere (S 0) x2).bind (fun q1298 => (if q1298 = 0 then (f_X7_refuse S (-3 : Int32)).bind (fun q1300 => some (q1300.1, q1300.2)) else (f_X0_firstRest (S 0) (S 1) x1 x2).bind (fun q1299 => some (q1299.1, (sS S 1 q1299.2))))))))))))
def f_X7_valley (S : Nat → St) : Option (Int32 × (Nat → St)) :=
    (f_X6_become (S 1) (S 0)).bind (fun q1317 => (f_X5_tellTo (S 3) q1317).bind (fun q1318 => (f_X5_empty (S 3)).bind (fun q1319 => (if q1318.1 < 0 then some (q1318.1, (sS (sS (sS S 1 q1317) 1 q1318.2) 3 q1319)) else (f_X6_become (S 0) q1318.2).bind (fun q1320 => some (q1318.1, (sS (sS (sS (sS S 1 q1317) 1 q1318.2) 3 q1319) 0 q1320)))))))
def f_X7_wedding (S : Nat → St) (x1 : Int32) : Option (Int32 × (Nat → St)) :=
    (f_X6_hasGroom (S 0) x1).bind (fun q1326 => (if q1326 = 0 then (f_X7_refuse S (-1 : Int32)).bind (fun q1330 => some (q1330.1, q1330.2)) else (f_X6_canWed (S 0) x1).bind (fun q1327 => (if q1327 = 0 then (f_X7_refuse S (-3 : Int32)).bind (fun q1329 => some (q1329.1, q1329.2)) else (f_X6_wed (S 0) x1).bind (fun q1328 => some (q1328.1, (sS S 0 q1328.2)))))))
def f_X7_whatIs (S : Nat → St) (x1 : Int32) (x2 : Int32) : Option (Int32 × (Nat → St)) :=
    (f_X6_hasBride (S 0) x1).bind (fun q1338 => (if q1338 = 0 then (f_X7_refuse S (-1 : Int32)).bind (fun q1343 => some (q1343.1, q1343.2)) else (f_X7_isNotEither x2).bind (fun q1339 => (if q1339 = 0 then (if x2 = 0 then (f_X4_kindsOf (S 4) (S 0) x1).bind (fun q1341 => some (q1341, S)) else (f_X4_figuresOf (S 4) (S 0) x1).bind (fun q1340 => some (q1340, S))) else (f_X7_refuse S (-2 : Int32)).bind (fun q1342 => some (q1342.1, q1342.2))))))
def f_X7_when_19 (S : (Nat → St)) (x1 : Int32) : Nat → Int32 → Option (Int32 × (Nat → St))
  | 0, _ => none
  | n + 1, x2 =>
    (if (60 : Int32) < x2 then some ((-9 : Int32), S) else (f_X6_knows (S 0) x1 x2).bind (fun q1354 => (if q1354 = (-9 : Int32) then f_X7_when_19 S x1 n (x2 + (1 : Int32))  else some (x2, S))))
def f_X7_when (S : Nat → St) (x1 : Int32) : Option (Int32 × (Nat → St)) :=
    (f_X6_hasGroom (S 0) x1).bind (fun q1353 => (if q1353 = 0 then (f_X7_refuse S (-1 : Int32)).bind (fun q1355 => some (q1355.1, q1355.2)) else f_X7_when_19 S x1 FUEL (0 : Int32)))
def f_X7_years (S : Nat → St) (x1 : Int32) : Option (Int32 × (Nat → St)) :=
    (f_X7_outside x1 (1 : Int32) (60 : Int32)).bind (fun q1364 => (if q1364 = 0 then (f_X6_canPass (S 0) x1).bind (fun q1365 => (if q1365 = 0 then (f_X7_refuse S (-6 : Int32)).bind (fun q1369 => some (q1369.1, q1369.2)) else (f_X6_passYears (S 0) x1).bind (fun q1366 => (f_X6_hereThen q1366 (0 : Int32)).bind (fun q1367 => (f_J6_bitCount_0f7a4 q1367).bind (fun q1368 => some (q1368, (sS S 0 q1366))))))) else (f_X7_refuse S q1364).bind (fun q1370 => some (q1370.1, q1370.2))))
def f_X8_isIn (x0 : Int32) (x1 : Int32) (x2 : Int32) : Option (Int32) :=
    (if x0 < x1 then some (0 : Int32) else (if x2 < x0 then some (0 : Int32) else some (1 : Int32)))
def f_X8_no (v : St) (x1 : Int32) : Option (Int32 × St) :=
    gd (inB (-x1) 7) (gd (inB (-x1) 7) (some (x1, (sA v 0 (upd (v 0) (-x1).toNatClampNeg (((v 0) (-x1).toNatClampNeg) + (1 : Int32)))))))
def f_X8_sisterly (v : St) (x1 : Int32) : Option (Int32) :=
    (if x1 = 0 then some ((v 3) (0 : Int32).toNatClampNeg) else gd (inB (x1 - (1 : Int32)) 8) (some ((v 3) (x1 - (1 : Int32)).toNatClampNeg)))
def f_X8_showsOf_39 (v : St) (x1 : Int32) (x2 : Int32) (s0 : Int32) : Option (Int32) :=
    gd (inB x1 8) ((if ((v 1) x1.toNatClampNeg) = (1 : Int32) then (f_X8_sisterly v x1).bind (fun q1386 => some q1386) else if ((v 1) x1.toNatClampNeg) = (2 : Int32) then some x2 else if ((v 1) x1.toNatClampNeg) = (3 : Int32) then some s0 else if ((v 1) x1.toNatClampNeg) = (4 : Int32) then (f_X8_sisterly v x1).bind (fun q1387 => gd (inB x1 8) (some (q1387 ^^^ ((v 3) x1.toNatClampNeg)))) else if ((v 1) x1.toNatClampNeg) = (5 : Int32) then some (s0 &&& (30 : Int32)) else gd (inB x1 8) (some ((v 3) x1.toNatClampNeg))))
def f_X8_showsOf (v : St) (x1 : Int32) : Option (Int32) :=
    gd (inB x1 8) (gd (inB x1 8) ((if ((v 23 2) - (v 23 2) / (2 : Int32) * (2 : Int32)) = (1 : Int32) then f_X8_showsOf_39 v x1 (((v 3) x1.toNatClampNeg) ^^^ ((1 : Int32) <<< ((((v 2) x1.toNatClampNeg) - ((v 2) x1.toNatClampNeg) / (6 : Int32) * (6 : Int32)) &&& 31))) (((v 3) x1.toNatClampNeg) ^^^ ((1 : Int32) <<< ((((v 2) x1.toNatClampNeg) - ((v 2) x1.toNatClampNeg) / (6 : Int32) * (6 : Int32)) &&& 31))) else gd (inB x1 8) (f_X8_showsOf_39 v x1 (((v 3) x1.toNatClampNeg) ^^^ ((1 : Int32) <<< ((((v 2) x1.toNatClampNeg) - ((v 2) x1.toNatClampNeg) / (6 : Int32) * (6 : Int32)) &&& 31))) ((v 3) x1.toNatClampNeg)))))
def f_X8_guessesBy_5 (v : St) (x1 : Int32) (x2 : Int32) : Nat → Int32 → Int32 → Option (Int32)
  | 0, _, _ => none
  | n + 1, x3, x4 =>
    (if (v 23 0) ≤ x4 then some x3 else gd (inB x4 8) ((if ((v 4) x4.toNatClampNeg) = 0 then (f_X8_showsOf v x4).bind (fun q1404 => (if ((q1404 ^^^ x2) &&& x1) = 0 then f_X8_guessesBy_5 v x1 x2 n (x3 ||| ((1 : Int32) <<< (x4 &&& 31))) (x4 + (1 : Int32))  else f_X8_guessesBy_5 v x1 x2 n (x3 ||| (0 : Int32)) (x4 + (1 : Int32)) )) else f_X8_guessesBy_5 v x1 x2 n (x3 ||| (0 : Int32)) (x4 + (1 : Int32)) )))
def f_X8_guessesBy (v : St) (x1 : Int32) (x2 : Int32) : Option (Int32) :=
    f_X8_guessesBy_5 v x1 x2 FUEL (0 : Int32) (0 : Int32)
def f_X8_showing (v : St) (x1 : Int32) : Option (Int32) :=
    (f_X8_guessesBy v (63 : Int32) x1).bind (fun q1413 => some q1413)
def f_X8_has (x0 : Int32) (x1 : Int32) : Option (Int32) :=
    (if ((x0 >>> (x1 &&& 31)) &&& (1 : Int32)) = (1 : Int32) then some (1 : Int32) else some (0 : Int32))
def f_X8_lowest_2 (x0 : Int32) : Nat → Int32 → Option (Int32)
  | 0, _ => none
  | n + 1, x1 =>
    (f_X8_has x0 x1).bind (fun q1416 => (if q1416 = 0 then f_X8_lowest_2 x0 n (x1 + (1 : Int32))  else some x1))
def f_X8_lowest (x0 : Int32) : Option (Int32) :=
    f_X8_lowest_2 x0 FUEL (0 : Int32)
def f_X8_firstAlike_36 (x1 : Int32) (s0 : Int32) (B : (Int32 → Option (Int32))) (K2_41 : (Int32 → Int32 → Option (Int32))) : Option (Int32) :=
    (if s0 = 0 then B (x1 + (1 : Int32)) else K2_41 x1 s0)
def f_X8_firstAlike_2 (v : St) : Nat → Int32 → (Int32 → Int32 → Option (Int32)) → Option (Int32)
  | 0, _, _ => none
  | n + 1, x1, K2_41 =>
    (if (v 23 0) ≤ x1 then some (-9 : Int32) else gd (inB x1 8) ((if ((v 4) x1.toNatClampNeg) = 0 then (f_X8_showsOf v x1).bind (fun q1422 => (f_X8_showing v q1422).bind (fun q1423 => f_X8_firstAlike_36 x1 (q1423 >>> ((x1 + (1 : Int32)) &&& 31)) (fun (x1_1424 : Int32) => f_X8_firstAlike_2 v n x1_1424 K2_41) K2_41)) else f_X8_firstAlike_36 x1 (0 : Int32) (fun (x1_1421 : Int32) => f_X8_firstAlike_2 v n x1_1421 K2_41) K2_41)))
def f_X8_firstAlike (v : St) : Option (Int32) :=
    f_X8_firstAlike_2 v FUEL (0 : Int32) (fun (x1_1425 : Int32) (x2_1426 : Int32) => (f_X8_lowest x2_1426).bind (fun q1427 => some (((((10 : Int32) * x1_1425) + x1_1425) + (1 : Int32)) + q1427)))
def f_X8_bits_4 (x0 : Int32) : Nat → Int32 → Int32 → Option (Int32)
  | 0, _, _ => none
  | n + 1, x1, x2 =>
    (if (31 : Int32) ≤ x2 then some x1 else f_X8_bits_4 x0 n (x1 + ((x0 >>> (x2 &&& 31)) &&& (1 : Int32))) (x2 + (1 : Int32)) )
def f_X8_bits (x0 : Int32) : Option (Int32) :=
    f_X8_bits_4 x0 FUEL (0 : Int32) (0 : Int32)
def f_X8_alike_37 (v : St) : Nat → Int32 → Int32 → Int32 → Int32 → (Int32 → Int32 → Int32 → Option (Int32 × St)) → Option (Int32 × St)
  | 0, _, _, _, _, _ => none
  | n + 1, x2, x3, x4, x5, K37_89 =>
    (if (63 : Int32) < x5 then K37_89 x2 x3 x4 else (f_X8_showing v x5).bind (fun q1449 => (f_X8_bits q1449).bind (fun q1450 => (if x3 < q1450 then f_X8_alike_37 v n (x2 + ((q1450 * (q1450 - (1 : Int32))) / (2 : Int32))) q1450 x5 (x5 + (1 : Int32)) K37_89 else f_X8_alike_37 v n (x2 + ((q1450 * (q1450 - (1 : Int32))) / (2 : Int32))) x3 x4 (x5 + (1 : Int32)) K37_89))))
def f_X8_alike (v : St) (x1 : Int32) : Option (Int32 × St) :=
    (f_X8_isIn x1 (0 : Int32) (3 : Int32)).bind (fun q1448 => (if q1448 = 0 then (f_X8_no v (-2 : Int32)).bind (fun q1455 => some (q1455.1, q1455.2)) else (if x1 = (1 : Int32) then (f_X8_firstAlike v).bind (fun q1454 => some (q1454, v)) else f_X8_alike_37 v FUEL (0 : Int32) (0 : Int32) (-9 : Int32) (0 : Int32) (fun (x2_1451 : Int32) (x3_1452 : Int32) (x4_1453 : Int32) => (if x1 = 0 then some (x2_1451, v) else (if x1 = (2 : Int32) then some (x3_1452, v) else some (x4_1453, v)))))))
def f_X8_areToldApart_2 (v : St) (x1 : Int32) : Nat → Int32 → Option (Int32)
  | 0, _ => none
  | n + 1, x2 =>
    (if (v 23 0) ≤ x2 then some (1 : Int32) else gd (inB x2 8) ((if ((v 4) x2.toNatClampNeg) = 0 then (f_X8_showsOf v x2).bind (fun q1478 => (f_X8_guessesBy v x1 q1478).bind (fun q1479 => (f_X8_bits q1479).bind (fun q1480 => (if q1480 ≤ (1 : Int32) then f_X8_areToldApart_2 v x1 n (x2 + (1 : Int32))  else some (0 : Int32))))) else f_X8_areToldApart_2 v x1 n (x2 + (1 : Int32)) )))
def f_X8_areToldApart (v : St) (x1 : Int32) : Option (Int32) :=
    f_X8_areToldApart_2 v x1 FUEL (0 : Int32)
def f_X8_guesses (v : St) (x1 : Int32) : Option (Int32) :=
    gd (inB x1 5) (gd (inB x1 5) ((f_X8_guessesBy v ((v 6) x1.toNatClampNeg) ((v 7) x1.toNatClampNeg)).bind (fun q1490 => some q1490)))
def f_X8_knows (v : St) (x1 : Int32) : Option (Int32) :=
    (f_X8_guesses v x1).bind (fun q1494 => (f_X8_bits q1494).bind (fun q1495 => (if q1495 = (1 : Int32) then (f_X8_lowest q1494).bind (fun q1496 => some q1496) else some (-9 : Int32))))
def f_X8_knownOnes_31 (x1 : Int32) (x2 : Int32) (s0 : Int32) (B : (Int32 → Int32 → Option (Int32))) : Option (Int32) :=
    (if s0 < 0 then B (x1 ||| (0 : Int32)) (x2 + (1 : Int32)) else B (x1 ||| ((1 : Int32) <<< (s0 &&& 31))) (x2 + (1 : Int32)))
def f_X8_knownOnes_4 (v : St) : Nat → Int32 → Int32 → Option (Int32)
  | 0, _, _ => none
  | n + 1, x1, x2 =>
    (if (v 23 1) ≤ x2 then some x1 else gd (inB x2 5) ((if ((v 9) x2.toNatClampNeg) = 0 then (f_X8_knows v x2).bind (fun q1503 => f_X8_knownOnes_31 x1 x2 q1503 (fun (x1_1504 : Int32) (x2_1505 : Int32) => f_X8_knownOnes_4 v n x1_1504 x2_1505 )) else f_X8_knownOnes_31 x1 x2 (-9 : Int32) (fun (x1_1501 : Int32) (x2_1502 : Int32) => f_X8_knownOnes_4 v n x1_1501 x2_1502 ))))
def f_X8_knownOnes (v : St) : Option (Int32) :=
    f_X8_knownOnes_4 v FUEL (0 : Int32) (0 : Int32)
def f_X8_away_13 : Nat → Int32 → Int32 → Int32 → St → Option (Int32 × St)
  | 0, _, _, _, _ => none
  | n + 1, x1, x2, x3, v =>
    (if (v 23 0) ≤ x3 then some (x1, v) else gd (inB x3 8) ((if ((v 4) x3.toNatClampNeg) = 0 then gd (inB x3 8) ((f_X8_knownOnes (sA v 4 (upd (v 4) x3.toNatClampNeg (1 : Int32)))).bind (fun q1520 => (f_X8_bits q1520).bind (fun q1521 => gd (inB x3 8) ((if q1521 < x2 then f_X8_away_13 n x3 q1521 (x3 + (1 : Int32)) (sA (sA v 4 (upd (v 4) x3.toNatClampNeg (1 : Int32))) 4 (upd (upd (v 4) x3.toNatClampNeg (1 : Int32)) x3.toNatClampNeg (0 : Int32)))  else f_X8_away_13 n x1 x2 (x3 + (1 : Int32)) (sA (sA v 4 (upd (v 4) x3.toNatClampNeg (1 : Int32))) 4 (upd (upd (v 4) x3.toNatClampNeg (1 : Int32)) x3.toNatClampNeg (0 : Int32))) ))))) else f_X8_away_13 n x1 x2 (x3 + (1 : Int32)) v )))
def f_X8_away (v : St) : Option (Int32 × St) :=
    (f_X8_knownOnes v).bind (fun q1518 => (f_X8_bits q1518).bind (fun q1519 => f_X8_away_13 FUEL (-9 : Int32) q1519 (0 : Int32) v))
def f_X8_passes_42 (x2 : Int32) (v : St) (B : (Int32 → St → Option (St))) : Option (St) :=
    B (x2 + (1 : Int32)) (sA v 23 (upd (v 23) 8 ((v 23 8) + (1 : Int32))))
def f_X8_passes_2 (k : Nat) : Nat → Int32 → St → Option (St)
  | 0, _, _ => none
  | n + 1, x2, v =>
    (if (Int32.ofNat (mLen k)) ≤ x2 then some v else (if (v 23 7) = 0 then gd (inB (v 23 8) 189) (gd (inB x2 (mLen k)) (f_X8_passes_42 x2 (sA v k (upd (v k) x2.toNatClampNeg ((v 14) (v 23 8).toNatClampNeg))) (fun (x2_1537 : Int32) (v_1538 : St) => f_X8_passes_2 k n x2_1537 v_1538 ))) else gd (inB x2 (mLen k)) (gd (inB (v 23 8) 189) (f_X8_passes_42 x2 (sA v 14 (upd (v 14) (v 23 8).toNatClampNeg ((v k) x2.toNatClampNeg))) (fun (x2_1539 : Int32) (v_1540 : St) => f_X8_passes_2 k n x2_1539 v_1540 )))))
def f_X8_passes (v : St) (k : Nat) : Option (St) :=
    f_X8_passes_2 k FUEL (0 : Int32) v
def f_X8_passOne_38 (x2 : Int32) (v : St) : Option (Int32 × St) :=
    some (x2, (sA v 23 (upd (v 23) 8 ((v 23 8) + (1 : Int32)))))
def f_X8_passOne_20 (v : St) (x1 : Int32) (s0 : Int32) : Option (Int32 × St) :=
    (if (v 23 7) = 0 then f_X8_passOne_38 s0 v else gd (inB (v 23 8) 189) (f_X8_passOne_38 s0 (sA v 14 (upd (v 14) (v 23 8).toNatClampNeg x1))))
def f_X8_passOne (v : St) (x1 : Int32) : Option (Int32 × St) :=
    (if (v 23 7) = 0 then gd (inB (v 23 8) 189) (f_X8_passOne_20 v x1 ((v 14) (v 23 8).toNatClampNeg)) else f_X8_passOne_20 v x1 x1)
def f_X8_passesAll (v : St) (x1 : Int32) (x2 : Int32) : Option (St) :=
    gd (isZ x2) ((f_X8_passes (sA (sA v 23 (upd (v 23) 8 ((63 : Int32) * x1))) 23 (upd (upd (v 23) 8 ((63 : Int32) * x1)) 7 x2)) 1).bind (fun q1562 => (f_X8_passes q1562 2).bind (fun q1563 => (f_X8_passes q1563 3).bind (fun q1564 => (f_X8_passes q1564 4).bind (fun q1565 => (f_X8_passes q1565 5).bind (fun q1566 => (f_X8_passes q1566 6).bind (fun q1567 => (f_X8_passes q1567 7).bind (fun q1568 => (f_X8_passes q1568 8).bind (fun q1569 => (f_X8_passes q1569 9).bind (fun q1570 => (f_X8_passOne q1570 (q1570 23 0)).bind (fun q1571 => (f_X8_passOne (sA q1571.2 23 (upd (q1571.2 23) 0 q1571.1)) (q1571.2 23 1)).bind (fun q1572 => (f_X8_passOne (sA q1572.2 23 (upd (q1572.2 23) 1 q1572.1)) (q1572.2 23 2)).bind (fun q1573 => some (sA q1573.2 23 (upd (q1573.2 23) 2 q1573.1)))))))))))))))
def f_X8_thinks (v : St) : Option (St) :=
    (f_X8_passesAll v (2 : Int32) (1 : Int32)).bind (fun q1587 => some q1587)
def f_X8_goesYear_12 : Nat → Int32 → St → (St → Option (St)) → Option (St)
  | 0, _, _, _ => none
  | n + 1, x1, v, K12_69 =>
    (if (v 23 0) ≤ x1 then K12_69 v else gd (inB x1 8) ((if ((v 4) x1.toNatClampNeg) = (1 : Int32) then gd (inB x1 8) (gd (inB x1 8) (gd (inB x1 8) ((if ((upd (v 5) x1.toNatClampNeg (((v 5) x1.toNatClampNeg) - (1 : Int32))) x1.toNatClampNeg) = 0 then gd (inB x1 8) (f_X8_goesYear_12 n (x1 + (1 : Int32)) (sA (sA v 5 (upd (v 5) x1.toNatClampNeg (((v 5) x1.toNatClampNeg) - (1 : Int32)))) 4 (upd (v 4) x1.toNatClampNeg (0 : Int32))) K12_69) else gd (inB x1 8) (f_X8_goesYear_12 n (x1 + (1 : Int32)) (sA (sA v 5 (upd (v 5) x1.toNatClampNeg (((v 5) x1.toNatClampNeg) - (1 : Int32)))) 4 (upd (v 4) x1.toNatClampNeg (1 : Int32))) K12_69))))) else f_X8_goesYear_12 n (x1 + (1 : Int32)) v K12_69)))
def f_X8_goesYear_71 : Nat → Int32 → St → Option (St)
  | 0, _, _ => none
  | n + 1, x1, v =>
    (if (v 23 1) ≤ x1 then some v else gd (inB x1 5) (gd (inB x1 5) ((if ((v 8) x1.toNatClampNeg) ≤ 0 then gd (inB x1 5) (f_X8_goesYear_71 n (x1 + (1 : Int32)) (sA v 8 (upd (v 8) x1.toNatClampNeg (((v 8) x1.toNatClampNeg) - (0 : Int32)))) ) else gd (inB x1 5) (f_X8_goesYear_71 n (x1 + (1 : Int32)) (sA v 8 (upd (v 8) x1.toNatClampNeg (((v 8) x1.toNatClampNeg) - (1 : Int32)))) )))))
def f_X8_goesYear (v : St) : Option (St) :=
    f_X8_goesYear_12 FUEL (0 : Int32) (sA v 23 (upd (v 23) 2 ((v 23 2) + (1 : Int32)))) (fun (v_1589 : St) => f_X8_goesYear_71 FUEL (0 : Int32) v_1589)
def f_X8_forgets (v : St) : Option (St) :=
    (f_X8_passesAll v (2 : Int32) (0 : Int32)).bind (fun q1613 => some q1613)
def f_X8_isSo_8 (x1 : Int32) : Nat → Int32 → Int32 → St → (Int32 → St → Option (Int32 × St)) → Option (Int32 × St)
  | 0, _, _, _, _ => none
  | n + 1, x2, x3, v, K8_50 =>
    (if (v 23 9) ≤ x3 then K8_50 x2 v else (if x2 = 0 then K8_50 x2 v else (f_X8_showsOf v x1).bind (fun q1616 => gd (inB x3 16) ((if q1616 = ((v 15) x3.toNatClampNeg) then (f_X8_goesYear v).bind (fun q1618 => f_X8_isSo_8 x1 n (1 : Int32) (x3 + (1 : Int32)) q1618 K8_50) else (f_X8_goesYear v).bind (fun q1617 => f_X8_isSo_8 x1 n (0 : Int32) (x3 + (1 : Int32)) q1617 K8_50))))))
def f_X8_isSo (v : St) (x1 : Int32) : Option (Int32 × St) :=
    (f_X8_thinks v).bind (fun q1615 => f_X8_isSo_8 x1 FUEL (1 : Int32) (0 : Int32) q1615 (fun (x2_1619 : Int32) (v_1620 : St) => (f_X8_forgets v_1620).bind (fun q1621 => gd (isZ x2_1619) (some (x2_1619, q1621)))))
def f_X8_bitsFor_11 (k : Nat) (x2 : Int32) (x3 : Int32) (x4 : Int32) : Nat → Int32 → Int32 → St → Option (Int32 × St)
  | 0, _, _, _ => none
  | n + 1, x5, x6, v =>
    (if x3 ≤ x6 then gd (inB x2 (mLen k)) (some (x5, (sA v k (upd (v k) x2.toNatClampNeg x4)))) else gd (inB x2 (mLen k)) ((f_X8_isSo (sA v k (upd (v k) x2.toNatClampNeg x6)) x2).bind (fun q1640 => (if q1640.1 = 0 then f_X8_bitsFor_11 k x2 x3 x4 n (x5 ||| (0 : Int32)) (x6 + (1 : Int32)) q1640.2  else f_X8_bitsFor_11 k x2 x3 x4 n (x5 ||| ((1 : Int32) <<< (x6 &&& 31))) (x6 + (1 : Int32)) q1640.2 ))))
def f_X8_bitsFor (v : St) (k : Nat) (x2 : Int32) (x3 : Int32) : Option (Int32 × St) :=
    gd (inB x2 (mLen k)) (f_X8_bitsFor_11 k x2 x3 ((v k) x2.toNatClampNeg) FUEL (0 : Int32) (0 : Int32) v)
def f_X8_bound (x0 : Int32) (x1 : Int32) (x2 : Int32) : Option (Int32) :=
    (if x1 ≤ x0 then (if x0 ≤ x2 then some (0 : Int32) else some (-6 : Int32)) else some (-4 : Int32))
def f_X8_isBride (v : St) (x1 : Int32) : Option (Int32) :=
    (if x1 < 0 then some (0 : Int32) else (if (v 23 0) ≤ x1 then some (0 : Int32) else some (1 : Int32)))
def f_X8_bride (v : St) (x1 : Int32) (x2 : Int32) : Option (Int32 × St) :=
    (f_X8_isBride v x1).bind (fun q1655 => (if q1655 = 0 then (f_X8_no v (-1 : Int32)).bind (fun q1658 => some (q1658.1, q1658.2)) else (if x2 = (0 : Int32) then gd (inB x1 8) (some (((v 1) x1.toNatClampNeg), v)) else if x2 = (1 : Int32) then gd (inB x1 8) (some (((v 2) x1.toNatClampNeg), v)) else if x2 = (2 : Int32) then gd (inB x1 8) (some (((v 3) x1.toNatClampNeg), v)) else if x2 = (3 : Int32) then (f_X8_showsOf v x1).bind (fun q1656 => some (q1656, v)) else if x2 = (4 : Int32) then gd (inB x1 8) (some (((v 5) x1.toNatClampNeg), v)) else if x2 = (5 : Int32) then gd (inB x1 8) (some (((v 4) x1.toNatClampNeg), v)) else (f_X8_no v (-2 : Int32)).bind (fun q1657 => some (q1657.1, q1657.2)))))
def f_X8_here_4 (v : St) : Nat → Int32 → Int32 → Option (Int32)
  | 0, _, _ => none
  | n + 1, x1, x2 =>
    (if (v 23 0) ≤ x2 then some x1 else gd (inB x2 8) ((if ((v 4) x2.toNatClampNeg) = 0 then f_X8_here_4 v n (x1 ||| ((1 : Int32) <<< (x2 &&& 31))) (x2 + (1 : Int32))  else f_X8_here_4 v n (x1 ||| (0 : Int32)) (x2 + (1 : Int32)) )))
def f_X8_here (v : St) : Option (Int32) :=
    f_X8_here_4 v FUEL (0 : Int32) (0 : Int32)
def f_X8_canWed (v : St) (x1 : Int32) : Option (Int32) :=
    gd (inB x1 5) ((if ((v 9) x1.toNatClampNeg) = 0 then (f_X8_here v).bind (fun q1681 => (if q1681 = 0 then some (0 : Int32) else some (1 : Int32))) else some (0 : Int32)))
def f_X8_lowestOf (v : St) (x1 : Int32) : Option (Int64 × St) :=
    gd (inB (-x1) 7) (gd (inB (-x1) 7) (some (((4000000000000000000 : Int64) - (x1.toInt64)), (sA v 0 (upd (v 0) (-x1).toNatClampNeg (((v 0) (-x1).toNatClampNeg) + (1 : Int32)))))))
def f_X8_divisor_6 : Nat → Int64 → Int64 → Option (Int64)
  | 0, _, _ => none
  | n + 1, y4, y6 =>
    (if (lg_cmp y6 (0 : Int64)) = 0 then some y4 else gd (nzL y6) (f_X8_divisor_6 n y6 (y4 - y4 / y6 * y6) ))
def f_X8_divisor (y0 : Int64) (y2 : Int64) : Option (Int64) :=
    f_X8_divisor_6 FUEL y0 y2
def f_X8_partOf (y0 : Int64) (y2 : Int64) (x4 : Int32) : Option (Int64) :=
    (if x4 = 0 then (f_X8_divisor y0 y2).bind (fun q1694 => gd (nzL q1694) (some (y0 / q1694))) else (f_X8_divisor y0 y2).bind (fun q1693 => gd (nzL q1693) (some (y2 / q1693))))
def f_X8_chance_146 (y7 : Int64) (x9 : Int32) (x10 : Int32) (x11 : Int32) (s0 : Int32) (s1 : Int32) (s2 : Int64) (B : (Int64 → Int64 → Int32 → Int32 → Option (Int64 × St))) : Option (Int64 × St) :=
    (f_X8_bits x11).bind (fun q1707 => B (s2 * ((s1 - s0).toInt64)) (y7 * (q1707.toInt64)) (x9 + (-1 : Int32)) (x10 + (1 : Int32)))
def f_X8_chance_123 (x1 : Int32) (y5 : Int64) (y7 : Int64) (x9 : Int32) (x10 : Int32) (s0 : Int32) (B : (Int64 → Int64 → Int32 → Int32 → Option (Int64 × St))) : Option (Int64 × St) :=
    (f_X8_bits s0).bind (fun q1705 => (f_X8_has s0 x1).bind (fun q1706 => (if q1706 = 0 then f_X8_chance_146 y7 x9 x10 s0 (0 : Int32) q1705 y5 B else f_X8_chance_146 y7 x9 x10 s0 (1 : Int32) q1705 y5 B)))
def f_X8_chance_73 (v : St) (x1 : Int32) : Nat → Int64 → Int64 → Int32 → Int32 → (Int64 → Int64 → Option (Int64 × St)) → Option (Int64 × St)
  | 0, _, _, _, _, _ => none
  | n + 1, y5, y7, x9, x10, K73_171 =>
    (if (v 23 1) ≤ x10 then K73_171 y5 y7 else (if x9 ≤ 0 then K73_171 y5 y7 else gd (inB x10 5) ((if ((v 9) x10.toNatClampNeg) = (1 : Int32) then f_X8_chance_73 v x1 n y5 y7 x9 (x10 + (1 : Int32)) K73_171 else (f_X8_guesses v x10).bind (fun q1703 => (if q1703 = 0 then (f_X8_here v).bind (fun q1712 => f_X8_chance_123 x1 y5 y7 x9 x10 q1712 (fun (x5_1713 : Int64) (x7_1714 : Int64) (x9_1715 : Int32) (x10_1716 : Int32) => f_X8_chance_73 v x1 n x5_1713 x7_1714 x9_1715 x10_1716 K73_171)) else (f_X8_guesses v x10).bind (fun q1704 => f_X8_chance_123 x1 y5 y7 x9 x10 q1704 (fun (x5_1708 : Int64) (x7_1709 : Int64) (x9_1710 : Int32) (x10_1711 : Int32) => f_X8_chance_73 v x1 n x5_1708 x7_1709 x9_1710 x10_1711 K73_171))))))))
def f_X8_chance_171 (v : St) (x3 : Int32) (y5 : Int64) (y7 : Int64) : Option (Int64 × St) :=
    (f_X8_partOf (y7 - y5) y7 x3).bind (fun q1719 => some (q1719, v))
def f_X8_chance_38 (v : St) (x1 : Int32) (x2 : Int32) (x3 : Int32) (x4 : Int32) : Option (Int64 × St) :=
    (if x4 = 0 then (f_X8_here v).bind (fun q1702 => (if q1702 = 0 then f_X8_chance_73 v x1 FUEL (1 : Int64) (1 : Int64) (0 : Int32) (0 : Int32) (fun (x5_1720 : Int64) (x7_1721 : Int64) => f_X8_chance_171 v x3 x5_1720 x7_1721) else f_X8_chance_73 v x1 FUEL (1 : Int64) (1 : Int64) x2 (0 : Int32) (fun (x5_1717 : Int64) (x7_1718 : Int64) => f_X8_chance_171 v x3 x5_1717 x7_1718))) else (f_X8_lowestOf v x4).bind (fun q1722 => some (q1722.1, q1722.2)))
def f_X8_chance_18 (v : St) (x1 : Int32) (x2 : Int32) (x3 : Int32) (s0 : Int32) : Option (Int64 × St) :=
    (if s0 = 0 then (f_X8_isIn x3 (0 : Int32) (1 : Int32)).bind (fun q1723 => (if q1723 = 0 then f_X8_chance_38 v x1 x2 x3 (-2 : Int32) else f_X8_chance_38 v x1 x2 x3 s0)) else f_X8_chance_38 v x1 x2 x3 s0)
def f_X8_chance (v : St) (x1 : Int32) (x2 : Int32) (x3 : Int32) : Option (Int64 × St) :=
    (f_X8_isBride v x1).bind (fun q1700 => (if q1700 = 0 then f_X8_chance_18 v x1 x2 x3 (-1 : Int32) else (f_X8_bound x2 (0 : Int32) (4 : Int32)).bind (fun q1701 => f_X8_chance_18 v x1 x2 x3 q1701)))
def f_X8_changes (v : St) (x1 : Int32) (x2 : Int32) : Option (Int32 × St) :=
    (f_X8_isBride v x1).bind (fun q1816 => (if q1816 = 0 then (f_X8_no v (-1 : Int32)).bind (fun q1817 => some (q1817.1, q1817.2)) else (f_X8_isIn x2 (0 : Int32) (5 : Int32)).bind (fun q1818 => (if q1818 = 0 then (f_X8_no v (-1 : Int32)).bind (fun q1819 => some (q1819.1, q1819.2)) else gd (inB x1 8) (gd (inB x1 8) (gd (inB x1 8) (some (((upd (v 3) x1.toNatClampNeg (((v 3) x1.toNatClampNeg) ^^^ ((1 : Int32) <<< (x2 &&& 31)))) x1.toNatClampNeg), (sA v 3 (upd (v 3) x1.toNatClampNeg (((v 3) x1.toNatClampNeg) ^^^ ((1 : Int32) <<< (x2 &&& 31)))))))))))))
def f_X8_clear (v : St) : Option (Int32 × St) :=
    some ((v 23 9), (sA v 23 (upd (v 23) 9 (0 : Int32))))
def f_X8_comesBride (v : St) (x1 : Int32) (x2 : Int32) (x3 : Int32) : Option (Int32 × St) :=
    (if (63 : Int32) < x3 then some ((0 : Int32), v) else (if (v 23 0) = (8 : Int32) then some ((0 : Int32), v) else gd (inB (v 23 0) 8) (gd (inB (v 23 0) 8) (gd (inB (v 23 0) 8) (gd (inB (v 23 0) 8) (gd (inB (v 23 0) 8) (some ((1 : Int32), (sA (sA (sA (sA (sA (sA v 1 (upd (v 1) (v 23 0).toNatClampNeg x1)) 2 (upd (v 2) (v 23 0).toNatClampNeg x2)) 3 (upd (v 3) (v 23 0).toNatClampNeg x3)) 4 (upd (v 4) (v 23 0).toNatClampNeg (0 : Int32))) 5 (upd (v 5) (v 23 0).toNatClampNeg (0 : Int32))) 23 (upd (v 23) 0 ((v 23 0) + (1 : Int32))))))))))))
def f_X8_comesGroom (v : St) (x1 : Int32) (x2 : Int32) : Option (Int32 × St) :=
    (if (63 : Int32) < x1 then some ((0 : Int32), v) else (if (63 : Int32) < x2 then some ((0 : Int32), v) else (if (v 23 1) = (5 : Int32) then some ((0 : Int32), v) else gd (inB (v 23 1) 5) (gd (inB (v 23 1) 5) (gd (inB (v 23 1) 5) (gd (inB (v 23 1) 5) (some ((1 : Int32), (sA (sA (sA (sA (sA v 6 (upd (v 6) (v 23 1).toNatClampNeg x1)) 7 (upd (v 7) (v 23 1).toNatClampNeg x2)) 8 (upd (v 8) (v 23 1).toNatClampNeg (0 : Int32))) 9 (upd (v 9) (v 23 1).toNatClampNeg (0 : Int32))) 23 (upd (v 23) 1 ((v 23 1) + (1 : Int32))))))))))))
def f_X8_isGroom (v : St) (x1 : Int32) : Option (Int32) :=
    (if x1 < 0 then some (0 : Int32) else (if (v 23 1) ≤ x1 then some (0 : Int32) else some (1 : Int32)))
def f_X8_sends (v : St) (x1 : Int32) (x2 : Int32) : Option (St) :=
    gd (inB x1 8) (gd (inB x1 8) (some (sA (sA v 4 (upd (v 4) x1.toNatClampNeg (1 : Int32))) 5 (upd (v 5) x1.toNatClampNeg x2))))
def f_X8_takenBy_35 (x3 : Int32) : Nat → Int32 → Int32 → Option (Int32)
  | 0, _, _ => none
  | n + 1, x4, x5 =>
    (if x4 ≤ 0 then some x5 else (f_X8_has x3 (x5 + (1 : Int32))).bind (fun q1851 => (if q1851 = 0 then f_X8_takenBy_35 x3 n (x4 - (0 : Int32)) (x5 + (1 : Int32))  else f_X8_takenBy_35 x3 n (x4 - (1 : Int32)) (x5 + (1 : Int32)) )))
def f_X8_takenBy_20 (x2 : Int32) (s0 : Int32) : Option (Int32) :=
    (f_X8_bits s0).bind (fun q1849 => gd (nzI q1849) ((f_X8_lowest s0).bind (fun q1850 => f_X8_takenBy_35 s0 FUEL (x2 - x2 / q1849 * q1849) q1850)))
def f_X8_takenBy (v : St) (x1 : Int32) (x2 : Int32) : Option (Int32) :=
    (f_X8_guesses v x1).bind (fun q1847 => (if q1847 = 0 then (f_X8_here v).bind (fun q1852 => f_X8_takenBy_20 x2 q1852) else (f_X8_guesses v x1).bind (fun q1848 => f_X8_takenBy_20 x2 q1848)))
def f_X8_weds (v : St) (x1 : Int32) : Option (Int32 × St) :=
    (f_X8_knows v x1).bind (fun q1868 => (if q1868 < 0 then gd (inB x1 5) ((f_X8_takenBy v x1 ((v 8) x1.toNatClampNeg)).bind (fun q1869 => gd (inB q1869 8) (gd (inB x1 5) (some (((100 : Int32) + q1869), (sA (sA v 4 (upd (v 4) q1869.toNatClampNeg (2 : Int32))) 9 (upd (v 9) x1.toNatClampNeg (1 : Int32)))))))) else gd (inB x1 5) ((f_X8_sends v q1868 ((1 : Int32) + (((v 8) x1.toNatClampNeg) / (3 : Int32)))).bind (fun q1870 => some (q1868, q1870)))))
def f_X8_goes_2 (x1 : Int32) : Nat → Int32 → St → Option (St)
  | 0, _, _ => none
  | n + 1, x2, v =>
    (if x1 ≤ x2 then some v else (f_X8_goesYear v).bind (fun q1879 => f_X8_goes_2 x1 n (x2 + (1 : Int32)) q1879 ))
def f_X8_goes (v : St) (x1 : Int32) : Option (St) :=
    f_X8_goes_2 x1 FUEL (0 : Int32) v
def f_X8_comesYears (v : St) (x1 : Int32) : Option (Int32 × St) :=
    (f_X8_isIn x1 (1 : Int32) (60 : Int32)).bind (fun q1885 => (if q1885 = 0 then some ((0 : Int32), v) else (if ((v 23 2) + x1) ≤ (999 : Int32) then (f_X8_goes v x1).bind (fun q1886 => some ((1 : Int32), q1886)) else some ((0 : Int32), v))))
def f_X8_comes (v : St) (x1 : Int32) : Option (Int32 × St) :=
    gd (inB x1 48) ((if ((v 11) x1.toNatClampNeg) = (98 : Int32) then gd (inB ((3 : Int32) * x1) 144) (gd (inB (((3 : Int32) * x1) + (1 : Int32)) 144) (gd (inB (((3 : Int32) * x1) + (2 : Int32)) 144) ((f_X8_comesBride v ((v 13) ((3 : Int32) * x1).toNatClampNeg) ((v 13) (((3 : Int32) * x1) + (1 : Int32)).toNatClampNeg) ((v 13) (((3 : Int32) * x1) + (2 : Int32)).toNatClampNeg)).bind (fun q1891 => gd (isZ q1891.1) (some (q1891.1, q1891.2)))))) else if ((v 11) x1.toNatClampNeg) = (103 : Int32) then gd (inB ((3 : Int32) * x1) 144) (gd (inB (((3 : Int32) * x1) + (1 : Int32)) 144) ((f_X8_comesGroom v ((v 13) ((3 : Int32) * x1).toNatClampNeg) ((v 13) (((3 : Int32) * x1) + (1 : Int32)).toNatClampNeg)).bind (fun q1892 => gd (isZ q1892.1) (some (q1892.1, q1892.2))))) else if ((v 11) x1.toNatClampNeg) = (108 : Int32) then gd (inB ((3 : Int32) * x1) 144) ((f_X8_isGroom v ((v 13) ((3 : Int32) * x1).toNatClampNeg)).bind (fun q1893 => (if q1893 = 0 then some ((0 : Int32), v) else gd (inB ((3 : Int32) * x1) 144) (gd (inB (((3 : Int32) * x1) + (1 : Int32)) 144) (gd (inB ((v 13) ((3 : Int32) * x1).toNatClampNeg) 5) (some ((1 : Int32), (sA v 8 (upd (v 8) ((v 13) ((3 : Int32) * x1).toNatClampNeg).toNatClampNeg ((v 13) (((3 : Int32) * x1) + (1 : Int32)).toNatClampNeg)))))))))) else if ((v 11) x1.toNatClampNeg) = (116 : Int32) then gd (inB ((3 : Int32) * x1) 144) ((f_X8_isBride v ((v 13) ((3 : Int32) * x1).toNatClampNeg)).bind (fun q1894 => (if q1894 = 0 then some ((0 : Int32), v) else gd (inB (((3 : Int32) * x1) + (1 : Int32)) 144) ((if ((v 13) (((3 : Int32) * x1) + (1 : Int32)).toNatClampNeg) < (6 : Int32) then gd (inB ((3 : Int32) * x1) 144) (gd (inB ((v 13) ((3 : Int32) * x1).toNatClampNeg) 8) (gd (inB (((3 : Int32) * x1) + (1 : Int32)) 144) (gd (inB ((v 13) ((3 : Int32) * x1).toNatClampNeg) 8) (some ((1 : Int32), (sA v 3 (upd (v 3) ((v 13) ((3 : Int32) * x1).toNatClampNeg).toNatClampNeg (((v 3) ((v 13) ((3 : Int32) * x1).toNatClampNeg).toNatClampNeg) ^^^ ((1 : Int32) <<< (((v 13) (((3 : Int32) * x1) + (1 : Int32)).toNatClampNeg) &&& 31)))))))))) else some ((0 : Int32), v)))))) else if ((v 11) x1.toNatClampNeg) = (119 : Int32) then gd (inB ((3 : Int32) * x1) 144) ((f_X8_isGroom v ((v 13) ((3 : Int32) * x1).toNatClampNeg)).bind (fun q1895 => (if q1895 = 0 then some ((0 : Int32), v) else gd (inB ((3 : Int32) * x1) 144) ((f_X8_canWed v ((v 13) ((3 : Int32) * x1).toNatClampNeg)).bind (fun q1896 => (if q1896 = 0 then some ((0 : Int32), v) else gd (inB ((3 : Int32) * x1) 144) ((f_X8_weds v ((v 13) ((3 : Int32) * x1).toNatClampNeg)).bind (fun q1897 => some ((1 : Int32), q1897.2))))))))) else gd (inB ((3 : Int32) * x1) 144) ((f_X8_comesYears v ((v 13) ((3 : Int32) * x1).toNatClampNeg)).bind (fun q1898 => gd (isZ q1898.1) (some (q1898.1, q1898.2))))))
def f_X8_costOf_41 (v : St) (x1 : Int32) (x3 : Int32) (s0 : Int32) (s1 : Int32) (B : (Int32 → Int32 → Option (Int32))) : Option (Int32) :=
    (f_X8_guesses v x3).bind (fun q1941 => (f_X8_has q1941 x1).bind (fun q1942 => (if q1942 = 0 then B (s1 + (s0 - (0 : Int32))) (x3 + (1 : Int32)) else B (s1 + (s0 - (1 : Int32))) (x3 + (1 : Int32)))))
def f_X8_costOf_4 (v : St) (x1 : Int32) : Nat → Int32 → Int32 → Option (Int32)
  | 0, _, _ => none
  | n + 1, x2, x3 =>
    (if (v 23 1) ≤ x3 then some x2 else gd (inB x3 5) ((if ((v 9) x3.toNatClampNeg) = (1 : Int32) then f_X8_costOf_4 v x1 n x2 (x3 + (1 : Int32))  else (f_X8_knows v x3).bind (fun q1940 => (if q1940 = x1 then f_X8_costOf_41 v x1 x3 (10 : Int32) x2 (fun (x2_1945 : Int32) (x3_1946 : Int32) => f_X8_costOf_4 v x1 n x2_1945 x3_1946 ) else f_X8_costOf_41 v x1 x3 (0 : Int32) x2 (fun (x2_1943 : Int32) (x3_1944 : Int32) => f_X8_costOf_4 v x1 n x2_1943 x3_1944 ))))))
def f_X8_costOf (v : St) (x1 : Int32) : Option (Int32) :=
    f_X8_costOf_4 v x1 FUEL (0 : Int32) (0 : Int32)
def f_X8_marriedOnes_4 (v : St) : Nat → Int32 → Int32 → Option (Int32)
  | 0, _, _ => none
  | n + 1, x1, x2 =>
    (if (v 23 1) ≤ x2 then some x1 else gd (inB x2 5) (f_X8_marriedOnes_4 v n (x1 ||| (((v 9) x2.toNatClampNeg) <<< (x2 &&& 31))) (x2 + (1 : Int32)) ))
def f_X8_marriedOnes (v : St) : Option (Int32) :=
    f_X8_marriedOnes_4 v FUEL (0 : Int32) (0 : Int32)
def f_X8_count_99 (v : St) : Nat → Int32 → Int32 → Option (Int32)
  | 0, _, _ => none
  | n + 1, x2, x3 =>
    (if (v 23 1) ≤ x3 then some x2 else gd (inB x3 5) (f_X8_count_99 v n (x2 + ((v 8) x3.toNatClampNeg)) (x3 + (1 : Int32)) ))
def f_X8_count (v : St) (x1 : Int32) : Option (Int32) :=
    (f_X8_isIn x1 (11 : Int32) (16 : Int32)).bind (fun q1968 => (if q1968 = 0 then (if x1 = (0 : Int32) then some (v 23 0) else if x1 = (1 : Int32) then some (v 23 1) else if x1 = (2 : Int32) then some (v 23 2) else if x1 = (3 : Int32) then (f_X8_here v).bind (fun q1969 => some q1969) else if x1 = (4 : Int32) then (f_X8_marriedOnes v).bind (fun q1970 => some q1970) else if x1 = (5 : Int32) then f_X8_count_99 v FUEL (0 : Int32) (0 : Int32) else if x1 = (6 : Int32) then some (v 23 9) else if x1 = (7 : Int32) then some (v 23 3) else some (-9 : Int32)) else gd (inB (x1 - (10 : Int32)) 7) (some ((v 0) (x1 - (10 : Int32)).toNatClampNeg))))
def f_X8_draw (v : St) (x1 : Int32) : Option (Int32 × St) :=
    gd (nzI x1) (some (((((((v 23 10) * (1664525 : Int32)) + (1013904223 : Int32)) &&& (2147483647 : Int32)) / (256 : Int32)) - (((((v 23 10) * (1664525 : Int32)) + (1013904223 : Int32)) &&& (2147483647 : Int32)) / (256 : Int32)) / x1 * x1), (sA v 23 (upd (v 23) 10 (((v 23 10) * (1664525 : Int32)) + (1013904223 : Int32))))))
def f_X8_drink_43 (v : St) (x1 : Int32) (x2 : Int32) : Nat → Int32 → Option (Int32 × St)
  | 0, _ => none
  | n + 1, x3 =>
    (if (10 : Int32) ≤ x3 then some ((-9 : Int32), v) else (f_X8_takenBy v x1 x3).bind (fun q1995 => (if q1995 = x2 then some (x3, v) else f_X8_drink_43 v x1 x2 n (x3 + (1 : Int32)) )))
def f_X8_drink (v : St) (x1 : Int32) (x2 : Int32) : Option (Int32 × St) :=
    (f_X8_isGroom v x1).bind (fun q1990 => (if q1990 = 0 then (f_X8_no v (-1 : Int32)).bind (fun q1991 => some (q1991.1, q1991.2)) else (f_X8_isBride v x2).bind (fun q1992 => (if q1992 = 0 then (f_X8_no v (-1 : Int32)).bind (fun q1996 => some (q1996.1, q1996.2)) else (f_X8_canWed v x1).bind (fun q1993 => (if q1993 = 0 then some ((-9 : Int32), v) else (f_X8_knows v x1).bind (fun q1994 => (if q1994 < 0 then f_X8_drink_43 v x1 x2 FUEL (0 : Int32) else some ((-9 : Int32), v)))))))))
def f_X8_drinks_19 (v : St) (x1 : Int32) (x2 : Int32) (s0 : Int32) : Option (Int32 × St) :=
    (if s0 = 0 then gd (inB x1 5) (gd (inB x1 5) (some (((v 8) x1.toNatClampNeg), (sA v 8 (upd (v 8) x1.toNatClampNeg x2))))) else (f_X8_no v s0).bind (fun q2014 => some (q2014.1, q2014.2)))
def f_X8_drinks (v : St) (x1 : Int32) (x2 : Int32) : Option (Int32 × St) :=
    (f_X8_isGroom v x1).bind (fun q2012 => (if q2012 = 0 then f_X8_drinks_19 v x1 x2 (-1 : Int32) else (f_X8_bound x2 (0 : Int32) (9 : Int32)).bind (fun q2013 => f_X8_drinks_19 v x1 x2 q2013)))
def f_X8_findCosts_2 (x1 : Int32) (x2 : Int32) : Nat → Int32 → St → Option (St)
  | 0, _, _ => none
  | n + 1, x3, v =>
    (if (4 : Int32) ≤ x3 then some v else gd (inB x1 8) (gd (inB x1 8) (gd (inB x2 8) (gd (inB x2 8) ((f_X8_costOf (sA (sA v 3 (upd (v 3) x1.toNatClampNeg (((v 3) x1.toNatClampNeg) ^^^ (x3 / (2 : Int32))))) 3 (upd (upd (v 3) x1.toNatClampNeg (((v 3) x1.toNatClampNeg) ^^^ (x3 / (2 : Int32)))) x2.toNatClampNeg (((upd (v 3) x1.toNatClampNeg (((v 3) x1.toNatClampNeg) ^^^ (x3 / (2 : Int32)))) x2.toNatClampNeg) ^^^ (x3 - x3 / (2 : Int32) * (2 : Int32))))) x1).bind (fun q2024 => gd (inB ((2 : Int32) * x3) 8) ((f_X8_costOf (sA (sA (sA v 3 (upd (v 3) x1.toNatClampNeg (((v 3) x1.toNatClampNeg) ^^^ (x3 / (2 : Int32))))) 3 (upd (upd (v 3) x1.toNatClampNeg (((v 3) x1.toNatClampNeg) ^^^ (x3 / (2 : Int32)))) x2.toNatClampNeg (((upd (v 3) x1.toNatClampNeg (((v 3) x1.toNatClampNeg) ^^^ (x3 / (2 : Int32)))) x2.toNatClampNeg) ^^^ (x3 - x3 / (2 : Int32) * (2 : Int32))))) 16 (upd (v 16) ((2 : Int32) * x3).toNatClampNeg q2024)) x2).bind (fun q2025 => gd (inB (((2 : Int32) * x3) + (1 : Int32)) 8) (gd (inB x1 8) (gd (inB x1 8) (gd (inB x2 8) (gd (inB x2 8) (f_X8_findCosts_2 x1 x2 n (x3 + (1 : Int32)) (sA (sA (sA (sA (sA (sA v 3 (upd (v 3) x1.toNatClampNeg (((v 3) x1.toNatClampNeg) ^^^ (x3 / (2 : Int32))))) 3 (upd (upd (v 3) x1.toNatClampNeg (((v 3) x1.toNatClampNeg) ^^^ (x3 / (2 : Int32)))) x2.toNatClampNeg (((upd (v 3) x1.toNatClampNeg (((v 3) x1.toNatClampNeg) ^^^ (x3 / (2 : Int32)))) x2.toNatClampNeg) ^^^ (x3 - x3 / (2 : Int32) * (2 : Int32))))) 16 (upd (v 16) ((2 : Int32) * x3).toNatClampNeg q2024)) 16 (upd (upd (v 16) ((2 : Int32) * x3).toNatClampNeg q2024) (((2 : Int32) * x3) + (1 : Int32)).toNatClampNeg q2025)) 3 (upd (upd (upd (v 3) x1.toNatClampNeg (((v 3) x1.toNatClampNeg) ^^^ (x3 / (2 : Int32)))) x2.toNatClampNeg (((upd (v 3) x1.toNatClampNeg (((v 3) x1.toNatClampNeg) ^^^ (x3 / (2 : Int32)))) x2.toNatClampNeg) ^^^ (x3 - x3 / (2 : Int32) * (2 : Int32)))) x1.toNatClampNeg (((upd (upd (v 3) x1.toNatClampNeg (((v 3) x1.toNatClampNeg) ^^^ (x3 / (2 : Int32)))) x2.toNatClampNeg (((upd (v 3) x1.toNatClampNeg (((v 3) x1.toNatClampNeg) ^^^ (x3 / (2 : Int32)))) x2.toNatClampNeg) ^^^ (x3 - x3 / (2 : Int32) * (2 : Int32)))) x1.toNatClampNeg) ^^^ (x3 / (2 : Int32))))) 3 (upd (upd (upd (upd (v 3) x1.toNatClampNeg (((v 3) x1.toNatClampNeg) ^^^ (x3 / (2 : Int32)))) x2.toNatClampNeg (((upd (v 3) x1.toNatClampNeg (((v 3) x1.toNatClampNeg) ^^^ (x3 / (2 : Int32)))) x2.toNatClampNeg) ^^^ (x3 - x3 / (2 : Int32) * (2 : Int32)))) x1.toNatClampNeg (((upd (upd (v 3) x1.toNatClampNeg (((v 3) x1.toNatClampNeg) ^^^ (x3 / (2 : Int32)))) x2.toNatClampNeg (((upd (v 3) x1.toNatClampNeg (((v 3) x1.toNatClampNeg) ^^^ (x3 / (2 : Int32)))) x2.toNatClampNeg) ^^^ (x3 - x3 / (2 : Int32) * (2 : Int32)))) x1.toNatClampNeg) ^^^ (x3 / (2 : Int32)))) x2.toNatClampNeg (((upd (upd (upd (v 3) x1.toNatClampNeg (((v 3) x1.toNatClampNeg) ^^^ (x3 / (2 : Int32)))) x2.toNatClampNeg (((upd (v 3) x1.toNatClampNeg (((v 3) x1.toNatClampNeg) ^^^ (x3 / (2 : Int32)))) x2.toNatClampNeg) ^^^ (x3 - x3 / (2 : Int32) * (2 : Int32)))) x1.toNatClampNeg (((upd (upd (v 3) x1.toNatClampNeg (((v 3) x1.toNatClampNeg) ^^^ (x3 / (2 : Int32)))) x2.toNatClampNeg (((upd (v 3) x1.toNatClampNeg (((v 3) x1.toNatClampNeg) ^^^ (x3 / (2 : Int32)))) x2.toNatClampNeg) ^^^ (x3 - x3 / (2 : Int32) * (2 : Int32)))) x1.toNatClampNeg) ^^^ (x3 / (2 : Int32)))) x2.toNatClampNeg) ^^^ (x3 - x3 / (2 : Int32) * (2 : Int32))))) )))))))))))))
def f_X8_findCosts (v : St) (x1 : Int32) (x2 : Int32) : Option (St) :=
    f_X8_findCosts_2 x1 x2 FUEL (0 : Int32) v
def f_X8_isPair (v : St) (x1 : Int32) (x2 : Int32) : Option (Int32) :=
    gd (inB x1 5) ((if ((v 9) x1.toNatClampNeg) = 0 then gd (inB x2 8) ((if ((v 4) x2.toNatClampNeg) = 0 then (f_X8_knows v x1).bind (fun q2042 => (if q2042 = x2 then some (0 : Int32) else some (1 : Int32))) else some (0 : Int32))) else some (0 : Int32)))
def f_X8_findPairsWith_2 (x1 : Int32) (x2 : Int32) : Nat → Int32 → St → Option (St)
  | 0, _, _ => none
  | n + 1, x3, v =>
    (if (256 : Int32) ≤ x3 then some v else (f_X8_has x3 x2).bind (fun q2049 => (if q2049 = 0 then f_X8_findPairsWith_2 x1 x2 n (x3 + (1 : Int32)) v  else gd (inB (x1 + (1 : Int32)) 6) (gd (inB (x3 &&& (((1 : Int32) <<< (x2 &&& 31)) ^^^ (-1 : Int32))) 256) (gd (inB x1 6) (gd (inB x1 6) (gd (inB x3 256) ((if ((1 : Int32) + ((v (17 + (x1 + (1 : Int32)).toNatClampNeg)) (x3 &&& (((1 : Int32) <<< (x2 &&& 31)) ^^^ (-1 : Int32))).toNatClampNeg)) ≤ ((v (17 + x1.toNatClampNeg)) x3.toNatClampNeg) then gd (inB x1 6) (gd (inB x3 256) (gd (inB x3 256) (f_X8_findPairsWith_2 x1 x2 n (x3 + (1 : Int32)) (sA v (17 + x1.toNatClampNeg) (upd (v (17 + x1.toNatClampNeg)) x3.toNatClampNeg ((v (17 + x1.toNatClampNeg)) x3.toNatClampNeg))) ))) else gd (inB x3 256) (f_X8_findPairsWith_2 x1 x2 n (x3 + (1 : Int32)) (sA v (17 + x1.toNatClampNeg) (upd (v (17 + x1.toNatClampNeg)) x3.toNatClampNeg ((1 : Int32) + ((v (17 + (x1 + (1 : Int32)).toNatClampNeg)) (x3 &&& (((1 : Int32) <<< (x2 &&& 31)) ^^^ (-1 : Int32))).toNatClampNeg)))) ))))))))))
def f_X8_findPairsWith (v : St) (x1 : Int32) (x2 : Int32) : Option (St) :=
    f_X8_findPairsWith_2 x1 x2 FUEL (0 : Int32) v
def f_X8_findPairs_2 : Nat → Int32 → St → (St → Option (St)) → Option (St)
  | 0, _, _, _ => none
  | n + 1, x1, v, K2_27 =>
    (if (256 : Int32) ≤ x1 then K2_27 v else gd (inB (v 23 1) 6) (gd (inB x1 256) (f_X8_findPairs_2 n (x1 + (1 : Int32)) (sA v (17 + (v 23 1).toNatClampNeg) (upd (v (17 + (v 23 1).toNatClampNeg)) x1.toNatClampNeg (0 : Int32))) K2_27)))
def f_X8_findPairs_40 (x1 : Int32) : Nat → Int32 → St → (St → Option (St)) → Option (St)
  | 0, _, _, _ => none
  | n + 1, x2, v, K40_71 =>
    (if (256 : Int32) ≤ x2 then K40_71 v else gd (inB x1 6) (gd (inB (x1 + (1 : Int32)) 6) (gd (inB x2 256) (gd (inB x2 256) (f_X8_findPairs_40 x1 n (x2 + (1 : Int32)) (sA v (17 + x1.toNatClampNeg) (upd (v (17 + x1.toNatClampNeg)) x2.toNatClampNeg ((v (17 + (x1 + (1 : Int32)).toNatClampNeg)) x2.toNatClampNeg))) K40_71)))))
def f_X8_findPairs_73 (x1 : Int32) : Nat → Int32 → St → (St → Option (St)) → Option (St)
  | 0, _, _, _ => none
  | n + 1, x2, v, K73_102 =>
    (if (v 23 0) ≤ x2 then K73_102 v else (f_X8_isPair v x1 x2).bind (fun q2068 => (if q2068 = 0 then f_X8_findPairs_73 x1 n (x2 + (1 : Int32)) v K73_102 else (f_X8_findPairsWith v x1 x2).bind (fun q2069 => f_X8_findPairs_73 x1 n (x2 + (1 : Int32)) q2069 K73_102))))
def f_X8_findPairs_34 : Nat → Int32 → St → Option (St)
  | 0, _, _ => none
  | n + 1, x1, v =>
    (if x1 < 0 then some v else f_X8_findPairs_40 x1 FUEL (0 : Int32) v (fun (v_2067 : St) => f_X8_findPairs_73 x1 FUEL (0 : Int32) v_2067 (fun (v_2070 : St) => f_X8_findPairs_34 n (x1 + (-1 : Int32)) v_2070 )))
def f_X8_findPairs (v : St) : Option (St) :=
    f_X8_findPairs_2 FUEL (0 : Int32) v (fun (v_2066 : St) => f_X8_findPairs_34 FUEL ((v_2066 23 1) - (1 : Int32)) v_2066)
def f_X8_forget_85 (v : St) (x1 : Int32) (x3 : Int32) (x4 : Int32) (B : (Int32 → Int32 → Option (Int32 × St))) : Option (Int32 × St) :=
    gd (inB x1 5) (gd (inB x1 5) ((f_X8_guessesBy v (((v 6) x1.toNatClampNeg) &&& (x4 ^^^ (-1 : Int32))) ((v 7) x1.toNatClampNeg)).bind (fun q2103 => (f_X8_bits q2103).bind (fun q2104 => (if q2104 = (1 : Int32) then B x3 (x4 + (1 : Int32)) else B x4 (x4 + (1 : Int32)))))))
def f_X8_forget_45 (v : St) (x1 : Int32) : Nat → Int32 → Int32 → Option (Int32 × St)
  | 0, _, _ => none
  | n + 1, x3, x4 =>
    (if (63 : Int32) < x4 then some (x3, v) else gd (inB x1 5) ((if (x4 &&& (((v 6) x1.toNatClampNeg) ^^^ (-1 : Int32))) = 0 then (if x3 < 0 then f_X8_forget_85 v x1 x3 x4 (fun (x3_2105 : Int32) (x4_2106 : Int32) => f_X8_forget_45 v x1 n x3_2105 x4_2106 ) else (f_X8_bits x4).bind (fun q2107 => (f_X8_bits x3).bind (fun q2108 => (if q2107 < q2108 then f_X8_forget_85 v x1 x3 x4 (fun (x3_2109 : Int32) (x4_2110 : Int32) => f_X8_forget_45 v x1 n x3_2109 x4_2110 ) else f_X8_forget_45 v x1 n x3 (x4 + (1 : Int32)) )))) else f_X8_forget_45 v x1 n x3 (x4 + (1 : Int32)) )))
def f_X8_forget_28 (v : St) (x1 : Int32) (s0 : Int32) : Option (Int32 × St) :=
    (if s0 = 0 then f_X8_forget_45 v x1 FUEL (-9 : Int32) (0 : Int32) else (f_X8_no v s0).bind (fun q2111 => some (q2111.1, q2111.2)))
def f_X8_forget (v : St) (x1 : Int32) : Option (Int32 × St) :=
    (f_X8_isGroom v x1).bind (fun q2102 => (if q2102 = 0 then f_X8_forget_28 v x1 (-1 : Int32) else gd (inB x1 5) ((if ((v 9) x1.toNatClampNeg) = (1 : Int32) then f_X8_forget_28 v x1 (-3 : Int32) else f_X8_forget_28 v x1 (0 : Int32)))))
def f_X8_groom (v : St) (x1 : Int32) (x2 : Int32) : Option (Int32 × St) :=
    (f_X8_isGroom v x1).bind (fun q2138 => (if q2138 = 0 then (f_X8_no v (-1 : Int32)).bind (fun q2142 => some (q2142.1, q2142.2)) else (if x2 = (0 : Int32) then gd (inB x1 5) (some (((v 6) x1.toNatClampNeg), v)) else if x2 = (1 : Int32) then gd (inB x1 5) (some (((v 7) x1.toNatClampNeg), v)) else if x2 = (2 : Int32) then gd (inB x1 5) (some (((v 8) x1.toNatClampNeg), v)) else if x2 = (3 : Int32) then gd (inB x1 5) (some (((v 9) x1.toNatClampNeg), v)) else if x2 = (4 : Int32) then (f_X8_guesses v x1).bind (fun q2139 => some (q2139, v)) else if x2 = (5 : Int32) then (f_X8_knows v x1).bind (fun q2140 => some (q2140, v)) else (f_X8_no v (-2 : Int32)).bind (fun q2141 => some (q2141.1, q2141.2)))))
def f_X8_groomThen_39 (v : St) (x1 : Int32) (x2 : Int32) (x3 : Int32) (x4 : Int32) : Option (Int32 × St) :=
    (if x4 = 0 then (f_X8_thinks v).bind (fun q2161 => (f_X8_goes q2161 x2).bind (fun q2162 => (if x3 = 0 then (f_X8_guesses q2162 x1).bind (fun q2165 => (f_X8_forgets q2162).bind (fun q2166 => some (q2165, q2166))) else (f_X8_knows q2162 x1).bind (fun q2163 => (f_X8_forgets q2162).bind (fun q2164 => some (q2163, q2164)))))) else (f_X8_no v x4).bind (fun q2167 => some (q2167.1, q2167.2)))
def f_X8_groomThen_19 (v : St) (x1 : Int32) (x2 : Int32) (x3 : Int32) (s0 : Int32) : Option (Int32 × St) :=
    (if s0 = 0 then (f_X8_isIn x3 (0 : Int32) (1 : Int32)).bind (fun q2168 => (if q2168 = 0 then f_X8_groomThen_39 v x1 x2 x3 (-2 : Int32) else f_X8_groomThen_39 v x1 x2 x3 s0)) else f_X8_groomThen_39 v x1 x2 x3 s0)
def f_X8_groomThen (v : St) (x1 : Int32) (x2 : Int32) (x3 : Int32) : Option (Int32 × St) :=
    (f_X8_isGroom v x1).bind (fun q2159 => (if q2159 = 0 then f_X8_groomThen_19 v x1 x2 x3 (-1 : Int32) else (f_X8_bound x2 (0 : Int32) (60 : Int32)).bind (fun q2160 => f_X8_groomThen_19 v x1 x2 x3 q2160)))
def f_X8_hide_52 (x1 : Int32) (x3 : Int32) : Nat → Int32 → Int32 → St → Option (Int32 × St)
  | 0, _, _, _ => none
  | n + 1, x4, x5, v =>
    (if (63 : Int32) < x5 then gd (inB x1 8) (some (x4, (sA v 3 (upd (v 3) x1.toNatClampNeg x3)))) else gd (inB x1 8) ((f_X8_knownOnes (sA v 3 (upd (v 3) x1.toNatClampNeg (x3 ^^^ x5)))).bind (fun q2189 => (f_X8_has q2189 x1).bind (fun q2190 => (if q2190 = 0 then (if x4 < 0 then f_X8_hide_52 x1 x3 n x5 (x5 + (1 : Int32)) (sA v 3 (upd (v 3) x1.toNatClampNeg (x3 ^^^ x5)))  else (f_X8_bits x5).bind (fun q2191 => (f_X8_bits x4).bind (fun q2192 => (if q2192 ≤ q2191 then f_X8_hide_52 x1 x3 n x4 (x5 + (1 : Int32)) (sA v 3 (upd (v 3) x1.toNatClampNeg (x3 ^^^ x5)))  else f_X8_hide_52 x1 x3 n x5 (x5 + (1 : Int32)) (sA v 3 (upd (v 3) x1.toNatClampNeg (x3 ^^^ x5))) )))) else f_X8_hide_52 x1 x3 n x4 (x5 + (1 : Int32)) (sA v 3 (upd (v 3) x1.toNatClampNeg (x3 ^^^ x5))) )))))
def f_X8_hide_27 (v : St) (x1 : Int32) (s0 : Int32) : Option (Int32 × St) :=
    (if s0 = 0 then gd (inB x1 8) (f_X8_hide_52 x1 ((v 3) x1.toNatClampNeg) FUEL (-9 : Int32) (0 : Int32) v) else (f_X8_no v s0).bind (fun q2193 => some (q2193.1, q2193.2)))
def f_X8_hide (v : St) (x1 : Int32) : Option (Int32 × St) :=
    (f_X8_isBride v x1).bind (fun q2188 => (if q2188 = 0 then f_X8_hide_27 v x1 (-1 : Int32) else gd (inB x1 8) ((if ((v 4) x1.toNatClampNeg) = 0 then f_X8_hide_27 v x1 (0 : Int32) else f_X8_hide_27 v x1 (-3 : Int32)))))
def f_X8_image (v : St) : Option (Int32 × St) :=
    (f_X8_passesAll (sA v 23 (upd (v 23) 6 (1 : Int32))) (0 : Int32) (1 : Int32)).bind (fun q2217 => some ((q2217 23 2), q2217))
def f_X8_judge_12 (v : St) (x1 : Int32) : Nat → Int32 → Option (Int32 × St)
  | 0, _ => none
  | n + 1, x2 =>
    (if x1 ≤ x2 then some ((-9 : Int32), v) else (if (v 23 1) ≤ x2 then some (x2, v) else (f_X8_guesses v x2).bind (fun q2219 => (f_X8_bits q2219).bind (fun q2220 => gd (inB x2 16) ((if q2220 = ((v 15) x2.toNatClampNeg) then f_X8_judge_12 v x1 n (x2 + (1 : Int32))  else some (x2, v)))))))
def f_X8_judge (v : St) : Option (Int32 × St) :=
    f_X8_judge_12 (sA v 23 (upd (v 23) 9 (0 : Int32))) (v 23 9) FUEL (0 : Int32)
def f_X8_kindOf (x0 : Int32) : Option (Int32) :=
    (if x0 = (98 : Int32) then some (0 : Int32) else (if x0 = (115 : Int32) then some (1 : Int32) else (if x0 = (102 : Int32) then some (2 : Int32) else (if x0 = (99 : Int32) then some (3 : Int32) else (if x0 = (116 : Int32) then some (4 : Int32) else (if x0 = (109 : Int32) then some (5 : Int32) else some (-1 : Int32)))))))
def f_X8_known (v : St) (x1 : Int32) : Option (Int32 × St) :=
    (f_X8_isIn x1 (0 : Int32) (1 : Int32)).bind (fun q2235 => (if q2235 = 0 then (f_X8_no v (-2 : Int32)).bind (fun q2239 => some (q2239.1, q2239.2)) else (if x1 = 0 then (f_X8_knownOnes v).bind (fun q2238 => some (q2238, v)) else (f_X8_here v).bind (fun q2236 => (f_X8_knownOnes v).bind (fun q2237 => some ((q2236 &&& (q2237 ^^^ (-1 : Int32))), v))))))
def f_X8_letter_25 (v : St) (x1 : Int32) (x2 : Int32) : Option (Int32 × St) :=
    (if x2 = 0 then gd (inB (v 23 3) 96) (some (((v 23 3) + (1 : Int32)), (sA (sA v 10 (upd (v 10) (v 23 3).toNatClampNeg x1)) 23 (upd (v 23) 3 ((v 23 3) + (1 : Int32)))))) else (f_X8_no v x2).bind (fun q2248 => some (q2248.1, q2248.2)))
def f_X8_letter (v : St) (x1 : Int32) : Option (Int32 × St) :=
    (f_X8_bound x1 (0 : Int32) (255 : Int32)).bind (fun q2247 => (if q2247 = 0 then (if (v 23 3) = (96 : Int32) then f_X8_letter_25 v x1 (-6 : Int32) else f_X8_letter_25 v x1 q2247) else f_X8_letter_25 v x1 q2247))
def f_X8_lies_4 (v : St) : Nat → Int32 → Int32 → Option (Int32)
  | 0, _, _ => none
  | n + 1, x1, x2 =>
    (if (v 23 0) ≤ x2 then some x1 else gd (inB x2 8) ((if ((v 4) x2.toNatClampNeg) = 0 then (f_X8_showsOf v x2).bind (fun q2257 => gd (inB x2 8) ((f_X8_bits (q2257 ^^^ ((v 3) x2.toNatClampNeg))).bind (fun q2258 => f_X8_lies_4 v n (x1 + q2258) (x2 + (1 : Int32)) ))) else f_X8_lies_4 v n (x1 + (0 : Int32)) (x2 + (1 : Int32)) )))
def f_X8_lies (v : St) : Option (Int32) :=
    f_X8_lies_4 v FUEL (0 : Int32) (0 : Int32)
def f_X8_looks_19 (v : St) (x1 : Int32) (x2 : Int32) (s0 : Int32) : Option (Int32 × St) :=
    (if s0 = 0 then gd (inB x1 5) (gd (inB x1 5) (some (((v 6) x1.toNatClampNeg), (sA v 6 (upd (v 6) x1.toNatClampNeg x2))))) else (f_X8_no v s0).bind (fun q2270 => some (q2270.1, q2270.2)))
def f_X8_looks (v : St) (x1 : Int32) (x2 : Int32) : Option (Int32 × St) :=
    (f_X8_isGroom v x1).bind (fun q2268 => (if q2268 = 0 then f_X8_looks_19 v x1 x2 (-1 : Int32) else (f_X8_bound x2 (0 : Int32) (63 : Int32)).bind (fun q2269 => f_X8_looks_19 v x1 x2 q2269)))
def f_X8_otherwise (v : St) (x1 : Int32) (x2 : Int32) : Option (Int32) :=
    gd (inB x1 8) (gd (inB x2 5) ((f_X8_bits (((v 3) x1.toNatClampNeg) ^^^ ((v 7) x2.toNatClampNeg))).bind (fun q2280 => some q2280)))
def f_X8_meantFor_5 (v : St) (x1 : Int32) : Nat → Int32 → Int32 → Option (Int32)
  | 0, _, _ => none
  | n + 1, x2, x3 =>
    (if (v 23 0) ≤ x3 then some x2 else (if x2 < 0 then f_X8_meantFor_5 v x1 n x3 (x3 + (1 : Int32))  else (f_X8_otherwise v x3 x1).bind (fun q2284 => (f_X8_otherwise v x2 x1).bind (fun q2285 => (if q2285 ≤ q2284 then f_X8_meantFor_5 v x1 n x2 (x3 + (1 : Int32))  else f_X8_meantFor_5 v x1 n x3 (x3 + (1 : Int32)) )))))
def f_X8_meantFor (v : St) (x1 : Int32) : Option (Int32) :=
    f_X8_meantFor_5 v x1 FUEL (-9 : Int32) (0 : Int32)
def f_X8_loses_4 (v : St) : Nat → Int32 → Int32 → Option (Int32)
  | 0, _, _ => none
  | n + 1, x1, x2 =>
    (if (v 23 1) ≤ x2 then some x1 else (f_X8_knows v x2).bind (fun q2294 => (if q2294 < 0 then f_X8_loses_4 v n (x1 ||| (0 : Int32)) (x2 + (1 : Int32))  else (f_X8_knows v x2).bind (fun q2295 => (f_X8_meantFor v x2).bind (fun q2296 => (if q2295 = q2296 then f_X8_loses_4 v n (x1 ||| ((1 : Int32) <<< (x2 &&& 31))) (x2 + (1 : Int32))  else f_X8_loses_4 v n (x1 ||| (0 : Int32)) (x2 + (1 : Int32)) ))))))
def f_X8_loses (v : St) : Option (Int32) :=
    f_X8_loses_4 v FUEL (0 : Int32) (0 : Int32)
def f_X8_wedsAll_4 : Nat → Int32 → Int32 → St → Option (Int32 × St)
  | 0, _, _, _ => none
  | n + 1, x1, x2, v =>
    (if (v 23 1) ≤ x2 then some (x1, v) else (f_X8_canWed v x2).bind (fun q2306 => (if q2306 = 0 then f_X8_wedsAll_4 n x1 (x2 + (1 : Int32)) v  else (f_X8_weds v x2).bind (fun q2307 => (if q2307.1 < (100 : Int32) then f_X8_wedsAll_4 n (x1 + (1 : Int32)) (x2 + (1 : Int32)) q2307.2  else f_X8_wedsAll_4 n (x1 + (100 : Int32)) (x2 + (1 : Int32)) q2307.2 )))))
def f_X8_wedsAll (v : St) : Option (Int32 × St) :=
    f_X8_wedsAll_4 FUEL (0 : Int32) (0 : Int32) v
def f_X8_lots_63 : Nat → Int32 → St → (St → Option (Int32 × St)) → Option (Int32 × St)
  | 0, _, _, _ => none
  | n + 1, x7, v, K63_91 =>
    (if (v 23 0) ≤ x7 then K63_91 v else (f_X8_draw v (64 : Int32)).bind (fun q2319 => gd (inB x7 8) (f_X8_lots_63 n (x7 + (1 : Int32)) (sA q2319.2 3 (upd (q2319.2 3) x7.toNatClampNeg q2319.1)) K63_91)))
def f_X8_lots_94 : Nat → Int32 → St → (St → Option (Int32 × St)) → Option (Int32 × St)
  | 0, _, _, _ => none
  | n + 1, x7, v, K94_122 =>
    (if (v 23 1) ≤ x7 then K94_122 v else (f_X8_draw v (64 : Int32)).bind (fun q2321 => gd (inB x7 5) (f_X8_lots_94 n (x7 + (1 : Int32)) (sA q2321.2 7 (upd (q2321.2 7) x7.toNatClampNeg q2321.1)) K94_122)))
def f_X8_lots_50 (x1 : Int32) (x3 : Int32) : Nat → Int32 → Int32 → St → Option (Int32 × St)
  | 0, _, _, _ => none
  | n + 1, x5, x6, v =>
    (if x1 ≤ x6 then some (x5, v) else (f_X8_thinks v).bind (fun q2318 => f_X8_lots_63 FUEL (0 : Int32) q2318 (fun (v_2320 : St) => f_X8_lots_94 FUEL (0 : Int32) v_2320 (fun (v_2322 : St) => (f_X8_wedsAll v_2322).bind (fun q2323 => (if x3 = 0 then (f_X8_forgets q2323.2).bind (fun q2325 => f_X8_lots_50 x1 x3 n (x5 + (q2323.1 / (100 : Int32))) (x6 + (1 : Int32)) q2325 ) else (f_X8_forgets q2323.2).bind (fun q2324 => f_X8_lots_50 x1 x3 n (x5 + (q2323.1 - q2323.1 / (100 : Int32) * (100 : Int32))) (x6 + (1 : Int32)) q2324 )))))))
def f_X8_lots_27 (v : St) (x1 : Int32) (x2 : Int32) (x3 : Int32) (x4 : Int32) : Option (Int32 × St) :=
    (if x4 = 0 then f_X8_lots_50 x1 x3 FUEL (0 : Int32) (0 : Int32) (sA v 23 (upd (v 23) 10 x2)) else (f_X8_no v x4).bind (fun q2326 => some (q2326.1, q2326.2)))
def f_X8_lots (v : St) (x1 : Int32) (x2 : Int32) (x3 : Int32) : Option (Int32 × St) :=
    (f_X8_bound x1 (1 : Int32) (20 : Int32)).bind (fun q2317 => (if q2317 = 0 then (f_X8_isIn x3 (0 : Int32) (1 : Int32)).bind (fun q2327 => (if q2327 = 0 then f_X8_lots_27 v x1 x2 x3 (-2 : Int32) else f_X8_lots_27 v x1 x2 x3 q2317)) else f_X8_lots_27 v x1 x2 x3 q2317))
def f_X8_mean_21 (v : St) : Nat → Int64 → Int32 → (Int64 → Option (Int64 × St)) → Option (Int64 × St)
  | 0, _, _, _ => none
  | n + 1, y2, x4, K21_50 =>
    (if (v 23 0) ≤ x4 then K21_50 y2 else gd (inB x4 8) ((f_X8_bits ((v 3) x4.toNatClampNeg)).bind (fun q2363 => f_X8_mean_21 v n (y2 + (q2363.toInt64)) (x4 + (1 : Int32)) K21_50)))
def f_X8_mean (v : St) (x1 : Int32) : Option (Int64 × St) :=
    (f_X8_isIn x1 (0 : Int32) (1 : Int32)).bind (fun q2362 => (if q2362 = 0 then (f_X8_lowestOf v (-2 : Int32)).bind (fun q2366 => some (q2366.1, q2366.2)) else f_X8_mean_21 v FUEL (0 : Int64) (0 : Int32) (fun (x2_2364 : Int64) => (if (v 23 0) = 0 then some ((x1.toInt64), v) else (f_X8_partOf x2_2364 ((v 23 0).toInt64) x1).bind (fun q2365 => some (q2365, v))))))
def f_X8_meant_27 (v : St) (x1 : Int32) (x2 : Int32) (s0 : Int32) : Option (Int32 × St) :=
    (if s0 = 0 then (f_X8_meantFor v x1).bind (fun q2382 => (if x2 = 0 then some (q2382, v) else (if 0 ≤ q2382 then (f_X8_otherwise v q2382 x1).bind (fun q2383 => some (q2383, v)) else some (q2382, v)))) else (f_X8_no v s0).bind (fun q2384 => some (q2384.1, q2384.2)))
def f_X8_meant (v : St) (x1 : Int32) (x2 : Int32) : Option (Int32 × St) :=
    (f_X8_isGroom v x1).bind (fun q2380 => (if q2380 = 0 then f_X8_meant_27 v x1 x2 (-1 : Int32) else (f_X8_isIn x2 (0 : Int32) (1 : Int32)).bind (fun q2381 => (if q2381 = 0 then f_X8_meant_27 v x1 x2 (-2 : Int32) else f_X8_meant_27 v x1 x2 (0 : Int32)))))
def f_X8_minds_19 (v : St) (x1 : Int32) (x2 : Int32) (s0 : Int32) : Option (Int32 × St) :=
    (if s0 = 0 then gd (inB x1 5) (gd (inB x1 5) (some (((v 7) x1.toNatClampNeg), (sA v 7 (upd (v 7) x1.toNatClampNeg x2))))) else (f_X8_no v s0).bind (fun q2399 => some (q2399.1, q2399.2)))
def f_X8_minds (v : St) (x1 : Int32) (x2 : Int32) : Option (Int32 × St) :=
    (f_X8_isGroom v x1).bind (fun q2397 => (if q2397 = 0 then f_X8_minds_19 v x1 x2 (-1 : Int32) else (f_X8_bound x2 (0 : Int32) (63 : Int32)).bind (fun q2398 => f_X8_minds_19 v x1 x2 q2398)))
def f_X8_next (v : St) : Option (Int32) :=
    (if (v 23 3) ≤ (v 23 4) then some (-1 : Int32) else gd (inB (v 23 4) 96) (some ((v 10) (v 23 4).toNatClampNeg)))
def f_X8_on (v : St) : Option (Int32 × St) :=
    (if (v 23 6) = 0 then (f_X8_no v (-3 : Int32)).bind (fun q2412 => some (q2412.1, q2412.2)) else (f_X8_passesAll v (0 : Int32) (0 : Int32)).bind (fun q2411 => some ((q2411 23 2), q2411)))
def f_X8_order (v : St) (x1 : Int32) : Option (Int32 × St) :=
    (f_X8_isIn x1 (0 : Int32) (1 : Int32)).bind (fun q2416 => (if q2416 = 0 then (f_X8_no v (-2 : Int32)).bind (fun q2420 => some (q2420.1, q2420.2)) else (f_X8_thinks v).bind (fun q2417 => (f_X8_wedsAll q2417).bind (fun q2418 => (f_X8_forgets q2418.2).bind (fun q2419 => (if x1 = 0 then some ((q2418.1 / (100 : Int32)), q2419) else some ((q2418.1 - q2418.1 / (100 : Int32) * (100 : Int32)), q2419)))))))
def f_X8_pairedBy_2 (v : St) (x1 : Int32) (x2 : Int32) : Nat → Int32 → Option (Int32)
  | 0, _ => none
  | n + 1, x3 =>
    (if (v 23 0) ≤ x3 then some (-9 : Int32) else (f_X8_has x2 x3).bind (fun q2428 => (if q2428 = 0 then f_X8_pairedBy_2 v x1 x2 n (x3 + (1 : Int32))  else (f_X8_isPair v x1 x3).bind (fun q2429 => (if q2429 = 0 then f_X8_pairedBy_2 v x1 x2 n (x3 + (1 : Int32))  else gd (inB (x1 + (1 : Int32)) 6) (gd (inB (x2 &&& (((1 : Int32) <<< (x3 &&& 31)) ^^^ (-1 : Int32))) 256) (gd (inB x1 6) (gd (inB x2 256) ((if ((1 : Int32) + ((v (17 + (x1 + (1 : Int32)).toNatClampNeg)) (x2 &&& (((1 : Int32) <<< (x3 &&& 31)) ^^^ (-1 : Int32))).toNatClampNeg)) = ((v (17 + x1.toNatClampNeg)) x2.toNatClampNeg) then some x3 else f_X8_pairedBy_2 v x1 x2 n (x3 + (1 : Int32)) ))))))))))
def f_X8_pairedBy (v : St) (x1 : Int32) (x2 : Int32) : Option (Int32) :=
    f_X8_pairedBy_2 v x1 x2 FUEL (0 : Int32)
def f_X8_pairs_48 (v : St) (x1 : Int32) : Nat → Int32 → Int32 → Int32 → Option (Int32 × St)
  | 0, _, _, _ => none
  | n + 1, x2, x3, x4 =>
    (if x1 < x4 then some (x3, v) else (f_X8_pairedBy v x4 x2).bind (fun q2444 => (if 0 ≤ q2444 then f_X8_pairs_48 v x1 n (x2 &&& (((1 : Int32) <<< (q2444 &&& 31)) ^^^ (-1 : Int32))) q2444 (x4 + (1 : Int32))  else f_X8_pairs_48 v x1 n (x2 &&& (-1 : Int32)) q2444 (x4 + (1 : Int32)) )))
def f_X8_pairs (v : St) (x1 : Int32) : Option (Int32 × St) :=
    (if x1 < (-1 : Int32) then (f_X8_no v (-1 : Int32)).bind (fun q2442 => some (q2442.1, q2442.2)) else (if x1 < (v 23 1) then (f_X8_findPairs v).bind (fun q2443 => (if 0 ≤ x1 then f_X8_pairs_48 q2443 x1 FUEL (255 : Int32) (-9 : Int32) (0 : Int32) else gd (inB (0 : Int32) 6) (some (((q2443 (17 + (0 : Int32).toNatClampNeg)) (255 : Int32).toNatClampNeg), q2443)))) else (f_X8_no v (-1 : Int32)).bind (fun q2445 => some (q2445.1, q2445.2))))
def f_X8_readsDigits_5 (x1 : Int32) (x2 : Int32) : Nat → Int32 → Int32 → St → Option (Int32 × St)
  | 0, _, _, _ => none
  | n + 1, x3, x4, v =>
    (if x2 ≤ x4 then gd (inB x1 144) (some ((1 : Int32), (sA v 13 (upd (v 13) x1.toNatClampNeg x3)))) else (f_X8_next v).bind (fun q2460 => (f_X8_isIn q2460 (48 : Int32) (57 : Int32)).bind (fun q2461 => (if q2461 = 0 then some ((0 : Int32), v) else (f_X8_next v).bind (fun q2462 => f_X8_readsDigits_5 x1 x2 n ((((10 : Int32) * x3) + q2462) - (48 : Int32)) (x4 + (1 : Int32)) (sA v 23 (upd (v 23) 4 ((v 23 4) + (1 : Int32)))) )))))
def f_X8_readsDigits (v : St) (x1 : Int32) (x2 : Int32) : Option (Int32 × St) :=
    f_X8_readsDigits_5 x1 x2 FUEL (0 : Int32) (0 : Int32) v
def f_X8_readsBride (v : St) (x1 : Int32) : Option (Int32 × St) :=
    (f_X8_next v).bind (fun q2473 => (f_X8_kindOf q2473).bind (fun q2474 => gd (inB x1 144) (gd (inB x1 144) ((if 0 ≤ ((upd (v 13) x1.toNatClampNeg q2474) x1.toNatClampNeg) then (f_X8_readsDigits (sA (sA v 13 (upd (v 13) x1.toNatClampNeg q2474)) 23 (upd (v 23) 4 ((v 23 4) + (1 : Int32)))) (x1 + (1 : Int32)) (1 : Int32)).bind (fun q2475 => (if q2475.1 = 0 then some ((0 : Int32), q2475.2) else (f_X8_readsDigits q2475.2 (x1 + (2 : Int32)) (2 : Int32)).bind (fun q2476 => (if q2476.1 = 0 then some ((0 : Int32), q2476.2) else some ((1 : Int32), q2476.2))))) else some ((0 : Int32), (sA v 13 (upd (v 13) x1.toNatClampNeg q2474))))))))
def f_X8_readsAll (v : St) (x1 : Int32) (x2 : Int32) : Option (Int32 × St) :=
    (if x1 = (98 : Int32) then (f_X8_readsBride v x2).bind (fun q2486 => gd (isZ q2486.1) (some (q2486.1, q2486.2))) else if x1 = (103 : Int32) then (f_X8_readsDigits v x2 (2 : Int32)).bind (fun q2487 => (if q2487.1 = 0 then some ((0 : Int32), q2487.2) else (f_X8_readsDigits q2487.2 (x2 + (1 : Int32)) (2 : Int32)).bind (fun q2488 => (if q2488.1 = 0 then some ((0 : Int32), q2488.2) else some ((1 : Int32), q2488.2))))) else if x1 = (119 : Int32) then (f_X8_readsDigits v x2 (1 : Int32)).bind (fun q2489 => gd (isZ q2489.1) (some (q2489.1, q2489.2))) else if x1 = (121 : Int32) then (f_X8_readsDigits v x2 (2 : Int32)).bind (fun q2490 => gd (isZ q2490.1) (some (q2490.1, q2490.2))) else (f_X8_readsDigits v x2 (1 : Int32)).bind (fun q2491 => (if q2491.1 = 0 then some ((0 : Int32), q2491.2) else (f_X8_readsDigits q2491.2 (x2 + (1 : Int32)) (1 : Int32)).bind (fun q2492 => (if q2492.1 = 0 then some ((0 : Int32), q2492.2) else some ((1 : Int32), q2492.2))))))
def f_X8_rightly_18 (v : St) (x1 : Int32) : Nat → Int32 → Int32 → Option (Int32 × St)
  | 0, _, _ => none
  | n + 1, x2, x3 =>
    (if (v 23 9) ≤ x3 then some (x2, v) else gd (inB x3 16) ((if (6 : Int32) ≤ ((v 15) x3.toNatClampNeg) then f_X8_rightly_18 v x1 n (x2 + (0 : Int32)) (x3 + (1 : Int32))  else gd (inB x1 8) (gd (inB x3 16) ((f_X8_has ((v 3) x1.toNatClampNeg) ((v 15) x3.toNatClampNeg)).bind (fun q2512 => (if q2512 = 0 then f_X8_rightly_18 v x1 n (x2 + (0 : Int32)) (x3 + (1 : Int32))  else f_X8_rightly_18 v x1 n (x2 + (1 : Int32)) (x3 + (1 : Int32)) )))))))
def f_X8_rightly (v : St) (x1 : Int32) : Option (Int32 × St) :=
    (f_X8_isBride v x1).bind (fun q2511 => (if q2511 = 0 then (f_X8_no v (-1 : Int32)).bind (fun q2513 => some (q2513.1, q2513.2)) else f_X8_rightly_18 v x1 FUEL (0 : Int32) (0 : Int32)))
def f_X8_row_24 (v : St) (x1 : Int32) (x2 : Int32) : Option (Int32 × St) :=
    (if x2 = 0 then gd (inB (v 23 9) 16) (some (((v 23 9) + (1 : Int32)), (sA (sA v 15 (upd (v 15) (v 23 9).toNatClampNeg x1)) 23 (upd (v 23) 9 ((v 23 9) + (1 : Int32)))))) else (f_X8_no v x2).bind (fun q2528 => some (q2528.1, q2528.2)))
def f_X8_row (v : St) (x1 : Int32) : Option (Int32 × St) :=
    (f_X8_bound x1 (0 : Int32) (99 : Int32)).bind (fun q2527 => (if q2527 = 0 then (if (v 23 9) = (16 : Int32) then f_X8_row_24 v x1 (-6 : Int32) else f_X8_row_24 v x1 q2527) else f_X8_row_24 v x1 q2527))
def f_X8_sees_26 (v : St) (x1 : Int32) (x2 : Int32) (B : (Int32 → Int32 → Option (Int32))) : Option (Int32) :=
    (f_X8_areToldApart v x2).bind (fun q2537 => (if q2537 = 0 then B x1 (x2 + (1 : Int32)) else B x2 (x2 + (1 : Int32))))
def f_X8_sees_5 (v : St) : Nat → Int32 → Int32 → Option (Int32)
  | 0, _, _ => none
  | n + 1, x1, x2 =>
    (if (63 : Int32) < x2 then some x1 else (if x1 < 0 then f_X8_sees_26 v x1 x2 (fun (x1_2538 : Int32) (x2_2539 : Int32) => f_X8_sees_5 v n x1_2538 x2_2539 ) else (f_X8_bits x2).bind (fun q2540 => (f_X8_bits x1).bind (fun q2541 => (if q2541 ≤ q2540 then f_X8_sees_5 v n x1 (x2 + (1 : Int32))  else f_X8_sees_26 v x1 x2 (fun (x1_2542 : Int32) (x2_2543 : Int32) => f_X8_sees_5 v n x1_2542 x2_2543 ))))))
def f_X8_sees (v : St) : Option (Int32) :=
    f_X8_sees_5 v FUEL (-9 : Int32) (0 : Int32)
def f_X8_showsThen_19 (v : St) (x1 : Int32) (x2 : Int32) (s0 : Int32) : Option (Int32 × St) :=
    (if s0 = 0 then (f_X8_thinks v).bind (fun q2559 => (f_X8_goes q2559 x2).bind (fun q2560 => (f_X8_showsOf q2560 x1).bind (fun q2561 => (f_X8_forgets q2560).bind (fun q2562 => some (q2561, q2562))))) else (f_X8_no v s0).bind (fun q2563 => some (q2563.1, q2563.2)))
def f_X8_showsThen (v : St) (x1 : Int32) (x2 : Int32) : Option (Int32 × St) :=
    (f_X8_isBride v x1).bind (fun q2557 => (if q2557 = 0 then f_X8_showsThen_19 v x1 x2 (-1 : Int32) else (f_X8_bound x2 (0 : Int32) (60 : Int32)).bind (fun q2558 => f_X8_showsThen_19 v x1 x2 q2558)))
def f_X8_statement_43 (v : St) (x1 : Int32) : Option (Int32 × St) :=
    gd (inB (v 23 5) 48) (gd (inB (v 23 5) 48) ((f_X8_readsAll (sA (sA (sA v 11 (upd (v 11) (v 23 5).toNatClampNeg x1)) 12 (upd (v 12) (v 23 5).toNatClampNeg (v 23 4))) 23 (upd (v 23) 4 ((v 23 4) + (1 : Int32)))) x1 ((3 : Int32) * (v 23 5))).bind (fun q2576 => (if q2576.1 = 0 then some ((0 : Int32), q2576.2) else (f_X8_next q2576.2).bind (fun q2577 => (if q2577 = (59 : Int32) then some ((1 : Int32), (sA q2576.2 23 (upd (q2576.2 23) 4 ((q2576.2 23 4) + (1 : Int32))))) else some ((0 : Int32), q2576.2)))))))
def f_X8_statement (v : St) : Option (Int32 × St) :=
    (f_X8_next v).bind (fun q2575 => (if q2575 = (98 : Int32) then f_X8_statement_43 v q2575 else (if q2575 = (103 : Int32) then f_X8_statement_43 v q2575 else (if q2575 = (116 : Int32) then f_X8_statement_43 v q2575 else (if q2575 = (108 : Int32) then f_X8_statement_43 v q2575 else (if q2575 = (119 : Int32) then f_X8_statement_43 v q2575 else (if q2575 = (121 : Int32) then f_X8_statement_43 v q2575 else some ((0 : Int32), v))))))))
def f_X8_takes (v : St) (x1 : Int32) : Option (Int32 × St) :=
    (f_X8_isGroom v x1).bind (fun q2592 => (if q2592 = 0 then (f_X8_no v (-1 : Int32)).bind (fun q2596 => some (q2596.1, q2596.2)) else (f_X8_canWed v x1).bind (fun q2593 => (if q2593 = 0 then some ((-9 : Int32), v) else (f_X8_knows v x1).bind (fun q2594 => (if 0 ≤ q2594 then some ((-9 : Int32), v) else gd (inB x1 5) ((f_X8_takenBy v x1 ((v 8) x1.toNatClampNeg)).bind (fun q2595 => some (q2595, v)))))))))
def f_X8_unevenBy (v : St) (x1 : Int32) : Option (Int32) :=
    (f_X8_guessesBy v ((1 : Int32) <<< (x1 &&& 31)) (63 : Int32)).bind (fun q2606 => (f_X8_bits q2606).bind (fun q2607 => (f_X8_guessesBy v ((1 : Int32) <<< (x1 &&& 31)) (0 : Int32)).bind (fun q2608 => (f_X8_bits q2608).bind (fun q2609 => (if 0 ≤ (q2607 - q2609) then some (q2607 - q2609) else some (-(q2607 - q2609)))))))
def f_X8_tells_4 (v : St) : Nat → Int32 → Int32 → Option (Int32)
  | 0, _, _ => none
  | n + 1, x1, x2 =>
    (if (6 : Int32) ≤ x2 then some x1 else (f_X8_unevenBy v x2).bind (fun q2615 => (f_X8_unevenBy v x1).bind (fun q2616 => (if q2616 ≤ q2615 then f_X8_tells_4 v n x1 (x2 + (1 : Int32))  else f_X8_tells_4 v n x2 (x2 + (1 : Int32)) ))))
def f_X8_tells (v : St) : Option (Int32) :=
    f_X8_tells_4 v FUEL (0 : Int32) (1 : Int32)
def f_X8_turn_33 (v : St) (x1 : Int32) (x2 : Int32) (x3 : Int32) (s0 : Int32) : Option (Int32 × St) :=
    (if s0 = 0 then gd (inB x1 8) (gd (inB x1 8) (gd (inB x1 8) (gd (inB x1 8) (some ((((10 : Int32) * ((v 1) x1.toNatClampNeg)) + ((v 2) x1.toNatClampNeg)), (sA (sA v 1 (upd (v 1) x1.toNatClampNeg x2)) 2 (upd (v 2) x1.toNatClampNeg x3))))))) else (f_X8_no v s0).bind (fun q2627 => some (q2627.1, q2627.2)))
def f_X8_turn (v : St) (x1 : Int32) (x2 : Int32) (x3 : Int32) : Option (Int32 × St) :=
    (f_X8_isBride v x1).bind (fun q2624 => (if q2624 = 0 then f_X8_turn_33 v x1 x2 x3 (-1 : Int32) else (f_X8_isIn x2 (0 : Int32) (5 : Int32)).bind (fun q2625 => (if q2625 = 0 then f_X8_turn_33 v x1 x2 x3 (-2 : Int32) else (f_X8_bound x3 (0 : Int32) (9 : Int32)).bind (fun q2626 => f_X8_turn_33 v x1 x2 x3 q2626)))))
def f_X8_two_69 (v : St) : Nat → Int32 → (Int32 → Option (Int32 × St)) → Option (Int32 × St)
  | 0, _, _ => none
  | n + 1, x4, K69_125 =>
    (if (4 : Int32) ≤ x4 then some ((-9 : Int32), v) else gd (inB ((2 : Int32) * (x4 ^^^ (2 : Int32))) 8) (gd (inB ((2 : Int32) * x4) 8) ((if ((v 16) ((2 : Int32) * (x4 ^^^ (2 : Int32))).toNatClampNeg) < ((v 16) ((2 : Int32) * x4).toNatClampNeg) then f_X8_two_69 v n (x4 + (1 : Int32)) K69_125 else gd (inB (((2 : Int32) * (x4 ^^^ (1 : Int32))) + (1 : Int32)) 8) (gd (inB (((2 : Int32) * x4) + (1 : Int32)) 8) ((if ((v 16) (((2 : Int32) * (x4 ^^^ (1 : Int32))) + (1 : Int32)).toNatClampNeg) < ((v 16) (((2 : Int32) * x4) + (1 : Int32)).toNatClampNeg) then f_X8_two_69 v n (x4 + (1 : Int32)) K69_125 else K69_125 x4)))))))
def f_X8_two_49 (v : St) (x1 : Int32) (x2 : Int32) (s0 : Int32) : Option (Int32 × St) :=
    (if s0 = 0 then (f_X8_findCosts v x1 x2).bind (fun q2642 => f_X8_two_69 q2642 FUEL (0 : Int32) (fun (x4_2643 : Int32) => some ((((10 : Int32) * (x4_2643 / (2 : Int32))) + (x4_2643 - x4_2643 / (2 : Int32) * (2 : Int32))), q2642))) else (f_X8_no v s0).bind (fun q2644 => some (q2644.1, q2644.2)))
def f_X8_two (v : St) (x1 : Int32) (x2 : Int32) : Option (Int32 × St) :=
    (f_X8_isBride v x1).bind (fun q2641 => (if q2641 = 0 then f_X8_two_49 v x1 x2 (-1 : Int32) else (f_X8_isBride v x2).bind (fun q2645 => (if q2645 = 0 then f_X8_two_49 v x1 x2 (-1 : Int32) else (if x1 = x2 then f_X8_two_49 v x1 x2 (-1 : Int32) else gd (inB x1 8) ((if ((v 4) x1.toNatClampNeg) = 0 then gd (inB x2 8) ((if ((v 4) x2.toNatClampNeg) = 0 then f_X8_two_49 v x1 x2 (0 : Int32) else f_X8_two_49 v x1 x2 (-3 : Int32))) else f_X8_two_49 v x1 x2 (-3 : Int32))))))))
def f_X8_valley_34 (v : St) (B : (Int32 → St → Option (Int32 × St))) : Option (Int32 × St) :=
    (f_X8_statement v).bind (fun q2671 => (if q2671.1 = 0 then B q2671.1 (sA q2671.2 23 (upd (q2671.2 23) 5 ((q2671.2 23 5) + (0 : Int32)))) else B q2671.1 (sA q2671.2 23 (upd (q2671.2 23) 5 ((q2671.2 23 5) + (1 : Int32))))))
def f_X8_valley_12 : Nat → Int32 → St → (Int32 → St → Option (Int32 × St)) → Option (Int32 × St)
  | 0, _, _, _ => none
  | n + 1, x1, v, K12_60 =>
    (if x1 = 0 then K12_60 x1 v else (if (v 23 4) < (v 23 3) then f_X8_valley_34 v (fun (x1_2672 : Int32) (v_2673 : St) => f_X8_valley_12 n x1_2672 v_2673 K12_60) else (if (v 23 5) = 0 then f_X8_valley_34 v (fun (x1_2674 : Int32) (v_2675 : St) => f_X8_valley_12 n x1_2674 v_2675 K12_60) else K12_60 x1 v)))
def f_X8_valley_86 : Nat → Int32 → St → (Int32 → St → Option (Int32 × St)) → Option (Int32 × St)
  | 0, _, _, _ => none
  | n + 1, x2, v, K86_105 =>
    (if (v 23 5) ≤ x2 then some ((v 23 5), v) else (f_X8_comes v x2).bind (fun q2679 => (if q2679.1 = 0 then K86_105 x2 q2679.2 else f_X8_valley_86 n (x2 + (1 : Int32)) q2679.2 K86_105)))
def f_X8_valley_60 (x1 : Int32) (v : St) : Option (Int32 × St) :=
    (if x1 = 0 then some (((-1000 : Int32) - (v 23 4)), (sA v 23 (upd (v 23) 3 (0 : Int32)))) else (f_X8_passesAll (sA v 23 (upd (v 23) 3 (0 : Int32))) (1 : Int32) (1 : Int32)).bind (fun q2678 => f_X8_valley_86 FUEL (0 : Int32) q2678 (fun (x2_2680 : Int32) (v_2681 : St) => (f_X8_passesAll v_2681 (1 : Int32) (0 : Int32)).bind (fun q2682 => gd (inB x2_2680 48) (some (((-2000 : Int32) - ((q2682 12) x2_2680.toNatClampNeg)), q2682))))))
def f_X8_valley (v : St) : Option (Int32 × St) :=
    f_X8_valley_12 FUEL (1 : Int32) (sA (sA v 23 (upd (v 23) 4 (0 : Int32))) 23 (upd (upd (v 23) 4 (0 : Int32)) 5 (0 : Int32))) (fun (x1_2676 : Int32) (v_2677 : St) => f_X8_valley_60 x1_2676 v_2677)
def f_X8_wedding_26 (v : St) (x1 : Int32) (s0 : Int32) : Option (Int32 × St) :=
    (if s0 = 0 then (f_X8_weds v x1).bind (fun q2717 => some (q2717.1, q2717.2)) else (f_X8_no v s0).bind (fun q2718 => some (q2718.1, q2718.2)))
def f_X8_wedding (v : St) (x1 : Int32) : Option (Int32 × St) :=
    (f_X8_isGroom v x1).bind (fun q2715 => (if q2715 = 0 then f_X8_wedding_26 v x1 (-1 : Int32) else (f_X8_canWed v x1).bind (fun q2716 => (if q2716 = 0 then f_X8_wedding_26 v x1 (-3 : Int32) else f_X8_wedding_26 v x1 (0 : Int32)))))
def f_X8_whatIs_27 (v : St) (x1 : Int32) (x2 : Int32) (s0 : Int32) : Option (Int32 × St) :=
    (if s0 = 0 then (if x2 = 0 then (f_X8_bitsFor v 1 x1 (6 : Int32)).bind (fun q2731 => some (q2731.1, q2731.2)) else (f_X8_bitsFor v 2 x1 (10 : Int32)).bind (fun q2730 => some (q2730.1, q2730.2))) else (f_X8_no v s0).bind (fun q2732 => some (q2732.1, q2732.2)))
def f_X8_whatIs (v : St) (x1 : Int32) (x2 : Int32) : Option (Int32 × St) :=
    (f_X8_isBride v x1).bind (fun q2728 => (if q2728 = 0 then f_X8_whatIs_27 v x1 x2 (-1 : Int32) else (f_X8_isIn x2 (0 : Int32) (1 : Int32)).bind (fun q2729 => (if q2729 = 0 then f_X8_whatIs_27 v x1 x2 (-2 : Int32) else f_X8_whatIs_27 v x1 x2 (0 : Int32)))))
def f_X8_when_23 (x1 : Int32) : Nat → Int32 → Int32 → St → (Int32 → St → Option (Int32 × St)) → Option (Int32 × St)
  | 0, _, _, _, _ => none
  | n + 1, x2, x3, v, K23_58 =>
    (if (60 : Int32) < x3 then K23_58 x2 v else (if 0 ≤ x2 then K23_58 x2 v else (f_X8_knows v x1).bind (fun q2746 => (if q2746 < 0 then (f_X8_goesYear v).bind (fun q2747 => f_X8_when_23 x1 n (-9 : Int32) (x3 + (1 : Int32)) q2747 K23_58) else (f_X8_goesYear v).bind (fun q2748 => f_X8_when_23 x1 n x3 (x3 + (1 : Int32)) q2748 K23_58)))))
def f_X8_when (v : St) (x1 : Int32) : Option (Int32 × St) :=
    (f_X8_isGroom v x1).bind (fun q2744 => (if q2744 = 0 then (f_X8_no v (-1 : Int32)).bind (fun q2752 => some (q2752.1, q2752.2)) else (f_X8_thinks v).bind (fun q2745 => f_X8_when_23 x1 FUEL (-9 : Int32) (0 : Int32) q2745 (fun (x2_2749 : Int32) (v_2750 : St) => (f_X8_forgets v_2750).bind (fun q2751 => some (x2_2749, q2751))))))
def f_X8_years_27 (v : St) (x1 : Int32) (x2 : Int32) : Option (Int32 × St) :=
    (if x2 = 0 then (f_X8_goes v x1).bind (fun q2773 => (f_X8_here q2773).bind (fun q2774 => (f_X8_bits q2774).bind (fun q2775 => some (q2775, q2773)))) else (f_X8_no v x2).bind (fun q2776 => some (q2776.1, q2776.2)))
def f_X8_years (v : St) (x1 : Int32) : Option (Int32 × St) :=
    (f_X8_bound x1 (1 : Int32) (60 : Int32)).bind (fun q2772 => (if q2772 = 0 then (if ((v 23 2) + x1) ≤ (999 : Int32) then f_X8_years_27 v x1 q2772 else f_X8_years_27 v x1 (-6 : Int32)) else f_X8_years_27 v x1 q2772))
