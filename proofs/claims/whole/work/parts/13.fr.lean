def rm0_indexOf : Room := { frames := 1, cells := 0, slots := 0, locals := 32 }
noncomputable def f0_indexOf_3 (t : Nat) (a1 : Nat) (a2 : Int) (a3 : Int) (μ : zM) (k3 : Int → Option Int) (x4 : Int) : Option Int :=
  (if (zI μ t 1) ≤ x4 then (some (-1)) else zgd (zin x4 (zln (t + 1))) (zco (f2_isNamed ((t + 4) + 11 * (zx x4)) a1 a2 a3 μ) (fun r1 => (if (zb r1) = 0 then zgl (x4 + 1) (fun v1 => (k3 v1)) else (some x4)))))
noncomputable def f0_indexOf (t : Nat) (a1 : Nat) (a2 : Int) (a3 : Int) (μ : zM) : Option Int :=
  (zfx (f0_indexOf_3 t a1 a2 a3 μ) (fun _ => none) zFu 0)
def rm1_exchange : Room := { frames := 0, cells := 0, slots := 0, locals := 8 }
noncomputable def f1_exchange (a1 : Nat) (μ : zM) : Option (Nat × zM) :=
  zlt (zsR μ 99 3 a1) (fun m1 => (some ((zR μ 99 3), m1)))
def rm1_skipBlanks : Room := { frames := 0, cells := 0, slots := 0, locals := 8 }
noncomputable def f1_skipBlanks_35 (k5 : Int → zM → Option zM) (x1 : Int) (μ : zM) : Option zM :=
  zgl (x1 + 1) (fun v2 => zlt (zsI μ 99 2 v2) (fun m1 => zgl (x1 + 1) (fun v3 => (k5 v3 m1))))
noncomputable def f1_skipBlanks_5 (k5 : Int → zM → Option zM) (x1 : Int) (μ : zM) : Option zM :=
  (if (zI μ 99 1) ≤ x1 then (some μ) else zgd (zin x1 (zln (zR μ 99 0))) ((if (zI μ (zR μ 99 0) (zx x1)) = 32 then (f1_skipBlanks_35 k5 x1 μ) else zgd (zin x1 (zln (zR μ 99 0))) ((if (zI μ (zR μ 99 0) (zx x1)) = 10 then (f1_skipBlanks_35 k5 x1 μ) else (some μ))))))
noncomputable def f1_skipBlanks (μ : zM) : Option zM :=
  zlt ((zI μ 99 2) : Int) (fun v1 => (zfx (f1_skipBlanks_5) (fun _ _ => none) zFu v1 μ))
def rm1_endOfWord : Room := { frames := 0, cells := 0, slots := 0, locals := 8 }
noncomputable def f1_endOfWord_10 (μ : zM) (k10 : Int → Int → Option Int) (x1 : Int) (x2 : Int) : Option Int :=
  (if (zI μ 99 1) ≤ x2 then (some x1) else zgd (zin x2 (zln (zR μ 99 0))) ((if (zI μ (zR μ 99 0) (zx x2)) < 97 then (some x1) else zgd (zin x2 (zln (zR μ 99 0))) ((if (122 : Int) < (zI μ (zR μ 99 0) (zx x2)) then (some x1) else zgl (x2 + 1) (fun v3 => zgl (x2 + 1) (fun v4 => (k10 v3 v4))))))))
noncomputable def f1_endOfWord (μ : zM) : Option Int :=
  zlt ((zI μ 99 2) : Int) (fun v1 => zlt ((zI μ 99 2) : Int) (fun v2 => (zfx (f1_endOfWord_10 μ) (fun _ _ => none) zFu v1 v2)))
def rm1_isWord : Room := { frames := 6, cells := 0, slots := 0, locals := 200 }
noncomputable def f1_isWord_17 (a1 : Int) (a2 : Nat) (μ : zM) (k17 : Int → Option Bool) (x3 : Int) : Option Bool :=
  zgd (zsok a2) (zlt (zslen a2) (fun v3 => (if v3 ≤ x3 then (some true) else zgl ((zI μ 99 2) + x3) (fun v4 => zgd (zin v4 (zln (zR μ 99 0))) (zgd (zsok a2 ∧ 0 ≤ x3 ∧ x3 < zslen a2) (zlt (zsch a2 (zx x3)) (fun v5 => (if (zI μ (zR μ 99 0) (zx v4)) = v5 then zgl (x3 + 1) (fun v6 => (k17 v6)) else (some false)))))))))
noncomputable def f1_isWord (a1 : Int) (a2 : Nat) (μ : zM) : Option Bool :=
  zgl (a1 - (zI μ 99 2)) (fun v1 => zgd (zsok a2) (zlt (zslen a2) (fun v2 => (if v1 = v2 then (zfx (f1_isWord_17 a1 a2 μ) (fun _ => none) zFu 0) else (some false)))))
def rm1_fail : Room := { frames := 0, cells := 0, slots := 0, locals := 8 }
noncomputable def f1_fail (a1 : Int) (a2 : Int) (μ : zM) : Option zM :=
  zlt (zsI μ 99 6 a1) (fun m1 => zlt (zsI m1 99 7 a2) (fun m2 => (some m2)))
def rm1_isAt : Room := { frames := 0, cells := 0, slots := 0, locals := 8 }
noncomputable def f1_isAt (a1 : Int) (μ : zM) : Option Bool :=
  (if (zI μ 99 1) ≤ (zI μ 99 2) then (some false) else zgd (zin (zI μ 99 2) (zln (zR μ 99 0))) ((if (zI μ (zR μ 99 0) (zx (zI μ 99 2))) = a1 then (some true) else (some false))))
def rm1_readHead : Room := { frames := 2, cells := 0, slots := 0, locals := 56 }
noncomputable def f1_readHead_51 (a1 : Int) (μ : zM) : Option zM :=
  zcm (f1_fail 1 (zI μ 99 2) μ) (fun m6 => (some m6))
noncomputable def f1_readHead_144 (a1 : Int) (x2 : Int) (s0 : Int) (s1 : Nat) (μ : zM) : Option zM :=
  zcm (f2_clear s1 s0 μ) (fun m7 => zcm (f2_setName (zR m7 99 4) (zR m7 99 0) (zI m7 99 2) x2 m7) (fun m8 => zgl ((zI m8 99 2) + x2) (fun v3 => zlt (zsI m8 99 2 v3) (fun m9 => zcm (f1_skipBlanks m9) (fun m10 => zco (f1_isAt 123 m10) (fun r3 => (if (zb r3) = 0 then zcm (f1_fail 1 (zI m10 99 2) m10) (fun m12 => (some m12)) else zgl ((zI m10 99 2) + 1) (fun v4 => zlt (zsI m10 99 2 v4) (fun m11 => (some m11))))))))))
noncomputable def f1_readHead (a1 : Int) (μ : zM) : Option zM :=
  (if (zI μ (zR μ 99 3) 1) < 8 then zlt (zsI μ 99 2 a1) (fun m1 => zcm (f1_skipBlanks m1) (fun m2 => zco (f1_endOfWord m2) (fun r1 => zgl (r1 - (zI m2 99 2)) (fun v1 => (if v1 = 0 then (f1_readHead_51 a1 m2) else (if v1 ≤ 8 then zco (f0_indexOf (zR m2 99 3) (zR m2 99 0) (zI m2 99 2) v1 m2) (fun r2 => (if r2 = (-1) then zgl ((zI m2 (zR m2 99 3) 1) - 1) (fun v2 => zgd (zin (zI m2 (zR m2 99 3) 1) (zln ((zR m2 99 3) + 1))) (zlt (zsR m2 99 4 (((zR m2 99 3) + 4) + 11 * (zx (zI m2 (zR m2 99 3) 1)))) (fun m3 => (if (0 : Int) ≤ v2 then zgd (zin v2 (zln ((zR m3 99 3) + 1))) ((f1_readHead_144 a1 v1 (zI m3 (((zR m3 99 3) + 4) + 11 * (zx v2)) 16) (zR m3 99 4) m3)) else (f1_readHead_144 a1 v1 0 (zR m3 99 4) m3))))) else zcm (f1_fail 3 (zI m2 99 2) m2) (fun m4 => (some m4)))) else (f1_readHead_51 a1 m2))))))) else zcm (f1_fail 5 (zI μ 99 2) μ) (fun m5 => (some m5)))
def rm1_closePart : Room := { frames := 0, cells := 0, slots := 0, locals := 8 }
noncomputable def f1_closePart (μ : zM) : Option zM :=
  zgl ((zI μ 99 2) + 1) (fun v1 => zlt (zsI μ 99 2 v1) (fun m1 => (if (zI m1 99 5) = (-1) then (some m1) else zgd (zin (zI m1 99 5) (zln (zsb (zR m1 99 4) + 10))) (zlt (zsI m1 (zsb (zR m1 99 4) + 10) (zx (zI m1 99 5)) (zI m1 (zR m1 99 4) 16)) (fun m2 => zgd (zin (zI m2 99 5) (zln (zsb (zR m2 99 4) + 5))) (zlt (zsI m2 99 5 (zI m2 (zsb (zR m2 99 4) + 5) (zx (zI m2 99 5)))) (fun m3 => (some m3))))))))
def rm1_readField : Room := { frames := 1, cells := 0, slots := 0, locals := 32 }
noncomputable def f1_readField_94 (a1 : Int) (x2 : Int) (μ : zM) : Option (Int × zM) :=
  zcl2 (f2_addOccurrence (zR μ 99 4) x2 (zI μ 99 5) μ) (fun r2 m5 => (some (r2, m5)))
noncomputable def f1_readField (a1 : Int) (μ : zM) : Option (Int × zM) :=
  zgd (zin (zI μ 99 2) (zln (zR μ 99 0))) (zgl ((zI μ (zR μ 99 0) (zx (zI μ 99 2))) - 48) (fun v1 => zco (f2_wouldDependOnItself (zR μ 99 4) v1 (zI μ 99 5) μ) (fun r1 => (if (zb r1) = 0 then (if (zI μ (zR μ 99 4) 2) < 60 then zgl ((zI μ 99 2) + 1) (fun v2 => zlt (zsI μ 99 2 v2) (fun m1 => (if (zI m1 99 5) = (-1) then (f1_readField_94 a1 v1 m1) else zgd (zin (zI m1 99 5) (zln (zsb (zR m1 99 4) + 2))) (zcm (f2_addDependence (zR m1 99 4) (zI m1 (zsb (zR m1 99 4) + 2) (zx (zI m1 99 5))) v1 m1) (fun m2 => (f1_readField_94 a1 v1 m2)))))) else zcm (f1_fail 5 a1 μ) (fun m3 => (some ((-1), m3)))) else zcm (f1_fail 4 a1 μ) (fun m4 => (some ((-1), m4)))))))
def rm1_changeOf : Room := { frames := 0, cells := 0, slots := 0, locals := 8 }
noncomputable def f1_changeOf (a1 : Int) : Option Int :=
  (if a1 = 102 then (some 4) else (if a1 = 108 then (some 2) else (if a1 = 110 then (some 5) else (if a1 = 114 then (some 3) else (if a1 = 117 then (some 1) else (some 0))))))
def rm1_readChange : Room := { frames := 1, cells := 0, slots := 0, locals := 30 }
noncomputable def f1_readChange_27 (a1 : Int) (s0 : Int) (μ : zM) : Option zM :=
  (if s0 = 0 then zcm (f1_fail 1 (zI μ 99 2) μ) (fun m5 => (some m5)) else zgl ((zI μ 99 2) + 1) (fun v1 => zlt (zsI μ 99 2 v1) (fun m1 => zco (f1_isAt 125 m1) (fun r2 => (if (zb r2) = 0 then zcm (f1_fail 1 (zI m1 99 2) m1) (fun m4 => (some m4)) else zgl ((zI m1 99 2) + 1) (fun v2 => zlt (zsI m1 99 2 v2) (fun m2 => zgd (zin a1 (zln (zsb (zR m2 99 4) + 3))) (zlt (zsI m2 (zsb (zR m2 99 4) + 3) (zx a1) s0) (fun m3 => (some m3))))))))))
noncomputable def f1_readChange (a1 : Int) (μ : zM) : Option zM :=
  (if (zI μ 99 1) ≤ (zI μ 99 2) then (f1_readChange_27 a1 0 μ) else zgd (zin (zI μ 99 2) (zln (zR μ 99 0))) (zco (f1_changeOf (zI μ (zR μ 99 0) (zx (zI μ 99 2)))) (fun r1 => (f1_readChange_27 a1 r1 μ))))
def rm1_openDefault : Room := { frames := 1, cells := 0, slots := 0, locals := 30 }
noncomputable def f1_openDefault (a1 : Int) (a2 : Int) (μ : zM) : Option zM :=
  zgd (zin a1 (zln (zsb (zR μ 99 4) + 6))) ((if (zI μ (zsb (zR μ 99 4) + 6) (zx a1)) < 4 then zgl ((zI μ 99 2) + 1) (fun v1 => zlt (zsI μ 99 2 v1) (fun m1 => zgd (zin a1 (zln (zsb (zR m1 99 4) + 4)) ∧ ((1 : Int) = 0 ∨ (1 : Int) = 1)) (zlt (zsI m1 (zsb (zR m1 99 4) + 4) (zx a1) 1) (fun m2 => zlt (zsI m2 99 5 a1) (fun m3 => (some m3)))))) else zcm (f1_fail 2 a2 μ) (fun m4 => (some m4))))
def rm1_readBehindField : Room := { frames := 2, cells := 0, slots := 0, locals := 52 }
noncomputable def f1_readBehindField (a1 : Int) (a2 : Int) (μ : zM) : Option zM :=
  zco (f1_isAt 125 μ) (fun r1 => (if (zb r1) = 0 then zco (f1_isAt 47 μ) (fun r2 => (if (zb r2) = 0 then zco (f1_isAt 58 μ) (fun r3 => (if (zb r3) = 0 then zcm (f1_fail 1 (zI μ 99 2) μ) (fun m1 => (some m1)) else zcm (f1_openDefault a1 a2 μ) (fun m2 => (some m2)))) else zgl ((zI μ 99 2) + 1) (fun v1 => zlt (zsI μ 99 2 v1) (fun m3 => zcm (f1_readChange a1 m3) (fun m4 => (some m4)))))) else zgl ((zI μ 99 2) + 1) (fun v2 => zlt (zsI μ 99 2 v2) (fun m5 => (some m5)))))
def rm1_readDollar : Room := { frames := 3, cells := 0, slots := 0, locals := 74 }
noncomputable def f1_readDollar_33 (μ : zM) : Option zM :=
  zgd (zin (zI μ 99 2) (zln (zR μ 99 0))) (zcm (f2_addLiteral (zR μ 99 4) (zI μ (zR μ 99 0) (zx (zI μ 99 2))) (zI μ 99 5) μ) (fun m3 => zgl ((zI m3 99 2) + 1) (fun v4 => zlt (zsI m3 99 2 v4) (fun m4 => (some m4)))))
noncomputable def f1_readDollar_124 (μ : zM) : Option zM :=
  zcm (f1_fail 1 (zI μ 99 2) μ) (fun m7 => (some m7))
noncomputable def f1_readDollar_85 (x1 : Int) (x2 : Int) (μ : zM) : Option zM :=
  (if (zI μ 99 1) ≤ (zI μ 99 2) then (f1_readDollar_124 μ) else zgd (zin (zI μ 99 2) (zln (zR μ 99 0))) ((if (zI μ (zR μ 99 0) (zx (zI μ 99 2))) < 48 then (f1_readDollar_124 μ) else zgd (zin (zI μ 99 2) (zln (zR μ 99 0))) ((if (zI μ (zR μ 99 0) (zx (zI μ 99 2))) ≤ 57 then zcl2 (f1_readField x1 μ) (fun r4 m5 => (if x2 = 0 then (some m5) else (if r4 = (-1) then (some m5) else zcm (f1_readBehindField r4 x1 m5) (fun m6 => (some m6))))) else (f1_readDollar_124 μ))))))
noncomputable def f1_readDollar (μ : zM) : Option zM :=
  zlt ((zI μ 99 2) : Int) (fun v1 => zgl ((zI μ 99 2) + 1) (fun v2 => zlt (zsI μ 99 2 v2) (fun m1 => zco (f1_isAt 36 m1) (fun r1 => (if (zb r1) = 0 then zco (f1_isAt 125 m1) (fun r2 => (if (zb r2) = 0 then zco (f1_isAt 123 m1) (fun r3 => (if (zb r3) = 0 then (f1_readDollar_85 v1 (zb r3) m1) else zgl ((zI m1 99 2) + 1) (fun v3 => zlt (zsI m1 99 2 v3) (fun m2 => (f1_readDollar_85 v1 (zb r3) m2))))) else (f1_readDollar_33 m1))) else (f1_readDollar_33 m1))))))
def rm1_readLiteral : Room := { frames := 1, cells := 0, slots := 0, locals := 30 }
noncomputable def f1_readLiteral_28 (μ : zM) : Option zM :=
  zcm (f1_fail 1 (zI μ 99 2) μ) (fun m3 => (some m3))
noncomputable def f1_readLiteral_38 (x1 : Int) (μ : zM) : Option zM :=
  zcm (f2_addLiteral (zR μ 99 4) x1 (zI μ 99 5) μ) (fun m1 => zgl ((zI m1 99 2) + 1) (fun v2 => zlt (zsI m1 99 2 v2) (fun m2 => (some m2))))
noncomputable def f1_readLiteral (μ : zM) : Option zM :=
  zgd (zin (zI μ 99 2) (zln (zR μ 99 0))) (zlt ((zI μ (zR μ 99 0) (zx (zI μ 99 2))) : Int) (fun v1 => (if v1 = 10 then (f1_readLiteral_38 v1 μ) else (if v1 < 32 then (f1_readLiteral_28 μ) else (if v1 ≤ 126 then (f1_readLiteral_38 v1 μ) else (f1_readLiteral_28 μ))))))
def rm1_readBody : Room := { frames := 4, cells := 0, slots := 0, locals := 97 }
noncomputable def f1_readBody_78 (k9 : Int → Int → zM → Option zM) (x2 : Int) (s0 : Int) (μ : zM) : Option zM :=
  zcm (f1_closePart μ) (fun m5 => zgl (x2 + 1) (fun v4 => (k9 s0 v4 m5)))
noncomputable def f1_readBody_9 (k9 : Int → Int → zM → Option zM) (x1 : Int) (x2 : Int) (μ : zM) : Option zM :=
  (if (zI μ 99 1) < x2 then (some μ) else (if x1 = 0 then (if (zI μ 99 6) = 0 then (if (zI μ 99 2) < (zI μ 99 1) then zgd (zin (zI μ 99 2) (zln (zR μ 99 0))) ((if (zI μ (zR μ 99 0) (zx (zI μ 99 2))) = 125 then (if (zI μ 99 5) = (-1) then (f1_readBody_78 k9 x2 1 μ) else (f1_readBody_78 k9 x2 0 μ)) else zgd (zin (zI μ 99 2) (zln (zR μ 99 0))) ((if (zI μ (zR μ 99 0) (zx (zI μ 99 2))) = 36 then zcm (f1_readDollar μ) (fun m3 => zgl (x2 + 1) (fun v2 => (k9 x1 v2 m3))) else zcm (f1_readLiteral μ) (fun m2 => zgl (x2 + 1) (fun v1 => (k9 x1 v1 m2))))))) else zcm (f1_fail 1 (zI μ 99 1) μ) (fun m4 => zgl (x2 + 1) (fun v3 => (k9 x1 v3 m4)))) else (some μ)) else (some μ)))
noncomputable def f1_readBody (μ : zM) : Option zM :=
  zlt (zsI μ 99 5 (-1)) (fun m1 => (zfx (f1_readBody_9) (fun _ _ _ => none) zFu 0 0 m1))
def rm1_readOrder : Room := { frames := 7, cells := 0, slots := 0, locals := 223 }
noncomputable def f1_readOrder_46 (a1 : Int) (x2 : Int) (x3 : Int) (μ : zM) : Option zM :=
  zlt (zsI μ 99 2 x2) (fun m4 => zcm (f1_skipBlanks m4) (fun m5 => zco (f1_isAt 59 m5) (fun r4 => (if (zb r4) = 0 then zcm (f1_fail 1 (zI m5 99 2) m5) (fun m8 => (some m8)) else zgl ((zI m5 99 2) + 1) (fun v1 => zlt (zsI m5 99 2 v1) (fun m6 => zgd (x3 = 0 ∨ x3 = 1) (zlt (zsI m6 (zR m6 99 3) 2 x3) (fun m7 => (some m7)))))))))
noncomputable def f1_readOrder (a1 : Int) (μ : zM) : Option zM :=
  zlt (zsI μ 99 2 a1) (fun m1 => zcm (f1_skipBlanks m1) (fun m2 => zco (f1_endOfWord m2) (fun r1 => zco (f1_isWord r1 2 m2) (fun r2 => (if (zb r2) = 0 then zco (f1_isWord r1 3 m2) (fun r3 => (if (zb r3) = 0 then zcm (f1_fail 1 (zI m2 99 2) m2) (fun m3 => (some m3)) else (f1_readOrder_46 a1 r1 (zb r2) m2))) else (f1_readOrder_46 a1 r1 (zb r2) m2))))))
def rm1_readLibrary : Room := { frames := 8, cells := 0, slots := 0, locals := 246 }
noncomputable def f1_readLibrary_157 (a1 : Nat) (a2 : Int) (k52 : Int → zM → Option zM) (x3 : Int) (μ : zM) : Option zM :=
  zcm (f1_skipBlanks μ) (fun m14 => zgl (x3 + 1) (fun v3 => (k52 v3 m14)))
noncomputable def f1_readLibrary_52 (a1 : Nat) (a2 : Int) (k52 : Int → zM → Option zM) (x3 : Int) (μ : zM) : Option zM :=
  (if (zI μ 99 1) ≤ x3 then (some μ) else (if (zI μ 99 1) ≤ (zI μ 99 2) then (some μ) else (if (zI μ 99 6) = 0 then zco (f1_endOfWord μ) (fun r1 => zco (f1_isWord r1 0 μ) (fun r2 => (if (zb r2) = 0 then zco (f1_isWord r1 1 μ) (fun r3 => (if (zb r3) = 0 then zcm (f1_fail 1 (zI μ 99 2) μ) (fun m9 => (f1_readLibrary_157 a1 a2 k52 x3 m9)) else zcm (f1_readOrder r1 μ) (fun m10 => (f1_readLibrary_157 a1 a2 k52 x3 m10)))) else zcm (f1_readHead r1 μ) (fun m11 => (if (zI m11 99 6) = 0 then zcm (f1_readBody m11) (fun m12 => zgl ((zI m12 (zR m12 99 3) 1) + 1) (fun v2 => zlt (zsI m12 (zR m12 99 3) 1 v2) (fun m13 => (f1_readLibrary_157 a1 a2 k52 x3 m13)))) else (f1_readLibrary_157 a1 a2 k52 x3 m11)))))) else (some μ))))
noncomputable def f1_readLibrary (a1 : Nat) (a2 : Int) (μ : zM) : Option zM :=
  zlt (zsR μ 99 0 a1) (fun m1 => zlt (min a2 ((zln a1 : Nat) : Int)) (fun v1 => zlt (zsI m1 99 1 v1) (fun m2 => zlt (zsI m2 (zR m2 99 3) 1 0) (fun m3 => zgd ((0 : Int) = 0 ∨ (0 : Int) = 1) (zlt (zsI m3 (zR m3 99 3) 2 0) (fun m4 => zlt (zsI m4 99 2 0) (fun m5 => zlt (zsI m5 99 6 0) (fun m6 => zlt (zsI m6 99 7 (-1)) (fun m7 => zcm (f1_skipBlanks m7) (fun m8 => (zfx (f1_readLibrary_52 a1 a2) (fun _ _ => none) zFu 0 m8)))))))))))
