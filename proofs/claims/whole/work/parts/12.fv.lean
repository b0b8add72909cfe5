def rm4_take : Room := { frames := 1, cells := 0, slots := 0, locals := 60 }
noncomputable def f4_take_18 (a1 : Nat) (a2 : Nat) (a3 : Int) (k18 : Int → zM → Option zM) (x4 : Int) (μ : zM) : Option zM :=
  (if (10 : Int) ≤ x4 then (some μ) else zco (f3_typedLength a2 a3 x4 μ) (fun r1 => zgl (a3 * 10) (fun v1 => zgl (v1 + x4) (fun v2 => zgl (v2 * 40) (fun v3 => zgd (zin x4 (zln 201)) (zlt (zsI μ 201 (zx x4) r1) (fun m3 => zgl (x4 * 400) (fun v4 => zgd (0 ≤ v3 ∧ 0 ≤ v4 ∧ 0 ≤ r1 ∧ v3 + r1 ≤ (zln (a2 + 5) : Int) ∧ v4 + r1 ≤ (zln 207 : Int)) (zlt (zcI m3 (a2 + 5) (zx v3) 207 (zx v4) (zx r1)) (fun m4 => zgl (x4 + 1) (fun v5 => (k18 v5 m4))))))))))))
noncomputable def f4_take (a1 : Nat) (a2 : Nat) (a3 : Int) (μ : zM) : Option zM :=
  zlt (zsR μ 200 0 a1) (fun m1 => zgd (zin a3 (zln (a2 + 3))) (zlt (zsI m1 200 1 (zI m1 (a2 + 3) (zx a3))) (fun m2 => (zfx (f4_take_18 a1 a2 a3) (fun _ _ => none) zFu 0 m2))))
def rm4_takeUntouched : Room := { frames := 0, cells := 0, slots := 0, locals := 8 }
noncomputable def f4_takeUntouched (a1 : Nat) (μ : zM) : Option zM :=
  zlt (zsR μ 200 0 a1) (fun m1 => zlt (zsI m1 200 1 0) (fun m2 => (some m2)))
def rm4_supposeTyped : Room := { frames := 0, cells := 0, slots := 0, locals := 8 }
noncomputable def f4_supposeTyped (a1 : Int) (a2 : Int) (μ : zM) : Option zM :=
  zlt (zshl 1 a1) (fun v1 => zlt (zor (zI μ 200 1) v1) (fun v2 => zlt (zsI μ 200 1 v2) (fun m1 => zgd (zin a1 (zln 201)) (zlt (zsI m1 201 (zx a1) a2) (fun m2 => (some m2))))))
def rm4_supposeNotTyped : Room := { frames := 0, cells := 0, slots := 0, locals := 8 }
noncomputable def f4_supposeNotTyped (a1 : Int) (μ : zM) : Option zM :=
  zlt (zshl 1 a1) (fun v1 => zlt (zxor v1 (-1)) (fun v2 => zlt (zand (zI μ 200 1) v2) (fun v3 => zlt (zsI μ 200 1 v3) (fun m1 => (some m1)))))
def rm4_isTyped : Room := { frames := 0, cells := 0, slots := 0, locals := 8 }
noncomputable def f4_isTyped (a1 : Int) (μ : zM) : Option Bool :=
  zlt (zshr (zI μ 200 1) a1) (fun v1 => zlt (zand v1 1) (fun v2 => (if v2 = 0 then (some false) else (some true))))
def rm4_isLive : Room := { frames := 0, cells := 0, slots := 0, locals := 8 }
noncomputable def f4_isLive (a1 : Int) (μ : zM) : Option Bool :=
  zlt (zshr (zI μ 200 3) a1) (fun v1 => zlt (zand v1 1) (fun v2 => (if v2 = 0 then (some false) else (some true))))
def rm4_isDefaultShown : Room := { frames := 0, cells := 0, slots := 0, locals := 8 }
noncomputable def f4_isDefaultShown (a1 : Int) (μ : zM) : Option Bool :=
  zgd (zin a1 (zln (zsb (zR μ 200 0) + 2))) (zgd (zin (zI μ (zsb (zR μ 200 0) + 2) (zx a1)) (zln 203)) ((if (zI μ 203 (zx (zI μ (zsb (zR μ 200 0) + 2) (zx a1)))) = a1 then (some true) else (some false))))
def rm4_show : Room := { frames := 1, cells := 0, slots := 0, locals := 29 }
noncomputable def f4_show_89 (k35 : Int → zM → Option zM) (x1 : Int) (x2 : Int) (s0 : Int) (s1 : Int) (μ : zM) : Option zM :=
  zgd (zin s1 (zln 202) ∧ (s0 = 0 ∨ s0 = 1)) (zlt (zsI μ 202 (zx s1) s0) (fun m4 => zgd (zin x1 (zln 202)) ((if (zI m4 202 (zx x1)) = 0 then zgl (x1 + 1) (fun v4 => (k35 v4 m4)) else zlt (zshl 1 x2) (fun v5 => zlt (zor (zI m4 200 3) v5) (fun v6 => zlt (zsI m4 200 3 v6) (fun m5 => zgd (zin x2 (zln 204)) (zgl ((zI m5 204 (zx x2)) + 1) (fun v7 => zgd (zin x2 (zln 204)) (zlt (zsI m5 204 (zx x2) v7) (fun m6 => zgd (zin x1 (zln (zsb (zR m6 200 0) + 4))) ((if (zI m6 (zsb (zR m6 200 0) + 4) (zx x1)) = 0 then zgl (x1 + 1) (fun v8 => (k35 v8 m6)) else zco (f4_isTyped x2 m6) (fun r2 => (if (zb r2) = 0 then zgd (zin x2 (zln 203)) ((if (zI m6 203 (zx x2)) = (-1) then zgd (zin x2 (zln 203)) (zlt (zsI m6 203 (zx x2) x1) (fun m7 => zgl (x1 + 1) (fun v11 => (k35 v11 m7)))) else zgl (x1 + 1) (fun v10 => (k35 v10 m6)))) else zgl (x1 + 1) (fun v9 => (k35 v9 m6)))))))))))))))))
noncomputable def f4_show_35 (k35 : Int → zM → Option zM) (x1 : Int) (μ : zM) : Option zM :=
  (if (zI μ (zR μ 200 0) 2) ≤ x1 then (some μ) else zgd (zin x1 (zln (zsb (zR μ 200 0) + 2))) (zlt ((zI μ (zsb (zR μ 200 0) + 2) (zx x1)) : Int) (fun v2 => zgd (zin x1 (zln (zsb (zR μ 200 0) + 5))) (zlt ((zI μ (zsb (zR μ 200 0) + 5) (zx x1)) : Int) (fun v3 => (if v3 = (-1) then (f4_show_89 k35 x1 v2 1 x1 μ) else zco (f4_isDefaultShown v3 μ) (fun r1 => (if (zb r1) = 0 then (f4_show_89 k35 x1 v2 0 x1 μ) else (f4_show_89 k35 x1 v2 1 x1 μ)))))))))
noncomputable def f4_show_7 (k7 : Int → zM → Option zM) (x1 : Int) (μ : zM) : Option zM :=
  (if (10 : Int) ≤ x1 then (zfx (f4_show_35) (fun _ _ => none) zFu 0 μ) else zgd (zin x1 (zln 203)) (zlt (zsI μ 203 (zx x1) (-1)) (fun m2 => zgd (zin x1 (zln 204)) (zlt (zsI m2 204 (zx x1) 0) (fun m3 => zgl (x1 + 1) (fun v1 => (k7 v1 m3)))))))
noncomputable def f4_show (μ : zM) : Option zM :=
  zlt (zsI μ 200 3 0) (fun m1 => (zfx (f4_show_7) (fun _ _ => none) zFu 0 m1))
def rmJ_bitCount : Room := { frames := 0, cells := 0, slots := 0, locals := 8 }
noncomputable def fJ_bitCount (a1 : Int) : Option Int :=
  zlt (zushr a1 1) (fun v1 => zlt (zand v1 1431655765) (fun v2 => zgl (a1 - v2) (fun v3 => zlt (zand v3 858993459) (fun v4 => zlt (zushr v3 2) (fun v5 => zlt (zand v5 858993459) (fun v6 => zgl (v4 + v6) (fun v7 => zlt (zushr v7 4) (fun v8 => zgl (v7 + v8) (fun v9 => zlt (zand v9 252645135) (fun v10 => zlt (zushr v10 8) (fun v11 => zgl (v10 + v11) (fun v12 => zlt (zushr v12 16) (fun v13 => zgl (v12 + v13) (fun v14 => zlt (zand v14 63) (fun v15 => (some v15))))))))))))))))
def rm4_countDigits : Room := { frames := 0, cells := 0, slots := 0, locals := 8 }
noncomputable def f4_countDigits_11 (a1 : Int) (k11 : Int → Int → Int → Option Int) (x2 : Int) (x3 : Int) (x5 : Int) : Option Int :=
  (if (20 : Int) ≤ x5 then (some x2) else zlt (zcmp x3 0) (fun v1 => (if v1 ≤ 0 then (some x2) else zlt (zdivL x3 10) (fun w2 => zgl (x2 + 1) (fun v2 => zgl (x5 + 1) (fun v3 => (k11 v2 w2 v3)))))))
noncomputable def f4_countDigits (a1 : Int) : Option Int :=
  zlt (zdivL a1 10) (fun w1 => (zfx (f4_countDigits_11 a1) (fun _ _ _ => none) zFu 1 w1 0))
def rm4_changedLength : Room := { frames := 1, cells := 0, slots := 0, locals := 33 }
noncomputable def f4_changedLength (a1 : Int) (μ : zM) : Option Int :=
  zgd (zin a1 (zln (zsb (zR μ 200 0) + 2))) (zgd (zin (zI μ (zsb (zR μ 200 0) + 2) (zx a1)) (zln 205)) (zlt ((zL μ 205 (zx (zI μ (zsb (zR μ 200 0) + 2) (zx a1)))) : Int) (fun w1 => zgd (zin a1 (zln (zsb (zR μ 200 0) + 3))) (zlt ((zI μ (zsb (zR μ 200 0) + 3) (zx a1)) : Int) (fun v1 => (if v1 = 4 then zlt (min w1 1) (fun w2 => (some w2)) else (if v1 = 5 then zco (f4_countDigits w1) (fun r1 => (some r1)) else (some w1))))))))
def rm4_measurePart : Room := { frames := 2, cells := 0, slots := 0, locals := 56 }
noncomputable def f4_measurePart_16 (a1 : Int) (μ : zM) (k16 : Int → Int → Option Int) (x2 : Int) (x4 : Int) : Option Int :=
  (if (zI μ (zR μ 200 0) 2) ≤ x4 then (some x2) else zgd (zin x4 (zln (zsb (zR μ 200 0) + 5))) ((if (zI μ (zsb (zR μ 200 0) + 5) (zx x4)) = a1 then zco (f4_changedLength x4 μ) (fun r1 => zgL (x2 + r1) (fun w2 => zgl (x4 + 1) (fun v3 => (k16 w2 v3)))) else zgl (x4 + 1) (fun v2 => (k16 x2 v2)))))
noncomputable def f4_measurePart (a1 : Int) (μ : zM) : Option Int :=
  zgl (a1 + 1) (fun v1 => zgd (zin v1 (zln (zsb (zR μ 200 0) + 8))) (zlt ((zI μ (zsb (zR μ 200 0) + 8) (zx v1)) : Int) (fun w1 => (zfx (f4_measurePart_16 a1 μ) (fun _ _ => none) zFu w1 0))))
def rm4_measure : Room := { frames := 3, cells := 0, slots := 0, locals := 80 }
noncomputable def f4_measure_84 (k6 : Int → zM → Option zM) (k14 : Int → Int → zM → Option zM) (x1 : Int) (x2 : Int) (s0 : Int) (s1 : Int) (μ : zM) : Option zM :=
  zgd (zin s1 (zln 205)) (zlt (zsL μ 205 (zx s1) s0) (fun m3 => zgl (x2 + 1) (fun v4 => (k14 x1 v4 m3))))
noncomputable def f4_measure_61 (k6 : Int → zM → Option zM) (k14 : Int → Int → zM → Option zM) (x1 : Int) (x2 : Int) (x3 : Int) (s0 : Int) (μ : zM) : Option zM :=
  (if x3 = (-1) then (f4_measure_84 k6 k14 x1 x2 s0 x2 μ) else zco (f4_measurePart x3 μ) (fun r4 => (f4_measure_84 k6 k14 x1 x2 r4 x2 μ)))
noncomputable def f4_measure_14 (k6 : Int → zM → Option zM) (k14 : Int → Int → zM → Option zM) (x1 : Int) (x2 : Int) (μ : zM) : Option zM :=
  (if (10 : Int) ≤ x2 then zgl (x1 + 1) (fun v1 => (k6 v1 μ)) else zgd (zin x2 (zln (zsb (zR μ 200 0) + 7))) (zco (fJ_bitCount (zI μ (zsb (zR μ 200 0) + 7) (zx x2))) (fun r2 => (if r2 = x1 then zgd (zin x2 (zln 203)) (zlt ((zI μ 203 (zx x2)) : Int) (fun v3 => zco (f4_isTyped x2 μ) (fun r3 => (if (zb r3) = 0 then (f4_measure_61 k6 k14 x1 x2 v3 0 μ) else zgd (zin x2 (zln 201)) ((f4_measure_61 k6 k14 x1 x2 v3 (zI μ 201 (zx x2)) μ)))))) else zgl (x2 + 1) (fun v2 => (k14 x1 v2 μ))))))
noncomputable def f4_measure_6 (k6 : Int → zM → Option zM) (x1 : Int) (μ : zM) : Option zM :=
  (if (10 : Int) ≤ x1 then zco (f4_measurePart (-1) μ) (fun r1 => zlt (zsL μ 200 8 r1) (fun m2 => (some m2))) else (zfx (f4_measure_14 k6) (fun _ _ _ => none) zFu x1 0 μ))
noncomputable def f4_measure (μ : zM) : Option zM :=
  zcm (f4_show μ) (fun m1 => (zfx (f4_measure_6) (fun _ _ => none) zFu 0 m1))
def rm4_lengthAheadInPart : Room := { frames := 2, cells := 0, slots := 0, locals := 56 }
noncomputable def f4_lengthAheadInPart_22 (a1 : Int) (μ : zM) (k22 : Int → Int → Int → Option Int) (x2 : Int) (x3 : Int) (x5 : Int) : Option Int :=
  zgd (zin a1 (zln (zsb (zR μ 200 0) + 9))) ((if (zI μ (zsb (zR μ 200 0) + 9) (zx a1)) ≤ x5 then (some x3) else zgd (zin x5 (zln (zit (zR μ 200 0) + 1))) ((if (zI μ (zit (zR μ 200 0) + 1) (zx x5)) = x2 then zgd (zin x5 (zln (zit (zR μ 200 0)))) (zlt ((zI μ (zit (zR μ 200 0)) (zx x5)) : Int) (fun v3 => (if v3 < 0 then zgl (-v3) (fun v4 => zgl (v4 - 1) (fun v5 => zco (f4_changedLength v5 μ) (fun r2 => zgL (x3 + r2) (fun w1 => zgl (x5 + 1) (fun v6 => (k22 x2 w1 v6)))))) else zgL (x3 + 1) (fun w2 => zgl (x5 + 1) (fun v7 => (k22 x2 w2 v7)))))) else zgl (x5 + 1) (fun v2 => (k22 x2 x3 v2))))))
noncomputable def f4_lengthAheadInPart (a1 : Int) (μ : zM) : Option Int :=
  zgd (zin a1 (zln (zsb (zR μ 200 0) + 5))) (zlt ((zI μ (zsb (zR μ 200 0) + 5) (zx a1)) : Int) (fun v1 => zco (f2_firstItemOf (zR μ 200 0) v1 μ) (fun r1 => (zfx (f4_lengthAheadInPart_22 a1 μ) (fun _ _ _ => none) zFu v1 0 r1))))
def rm4_startOf : Room := { frames := 3, cells := 0, slots := 0, locals := 82 }
noncomputable def f4_startOf_19 (a1 : Int) (μ : zM) (k19 : Int → Int → Int → Option Int) (x2 : Int) (x4 : Int) (x5 : Int) : Option Int :=
  (if (4 : Int) < x5 then zgl (x2) (fun v1 => (some v1)) else (if x4 = (-1) then zgl (x2) (fun v2 => (some v2)) else zco (f4_lengthAheadInPart x4 μ) (fun r1 => zgL (x2 + r1) (fun w1 => zgd (zin x4 (zln (zsb (zR μ 200 0) + 5))) (zlt ((zI μ (zsb (zR μ 200 0) + 5) (zx x4)) : Int) (fun v3 => zgl (x5 + 1) (fun v4 => (k19 w1 v3 v4))))))))
noncomputable def f4_startOf (a1 : Int) (μ : zM) : Option Int :=
  zgd (zin a1 (zln 202)) ((if (zI μ 202 (zx a1)) = 0 then (some (-1)) else (zfx (f4_startOf_19 a1 μ) (fun _ _ _ => none) zFu 0 a1 0)))
def rm4_addToOrder : Room := { frames := 0, cells := 0, slots := 0, locals := 8 }
noncomputable def f4_addToOrder (a1 : Int) (μ : zM) : Option zM :=
  (if (10 : Int) ≤ (zI μ 200 10) then (some μ) else zgd (zin (zI μ 200 10) (zln 206)) (zlt (zsI μ 206 (zx (zI μ 200 10)) a1) (fun m1 => zgl ((zI m1 200 10) + 1) (fun v1 => zlt (zsI m1 200 10 v1) (fun m2 => (some m2))))))
def rm4_arrangeOrder : Room := { frames := 1, cells := 0, slots := 0, locals := 29 }
noncomputable def f4_arrangeOrder_102 (a1 : Int) (μ : zM) : Option zM :=
  zco (f4_isLive 0 μ) (fun r2 => (if (zb r2) = 0 then (some μ) else zcm (f4_addToOrder 0 μ) (fun m4 => (some m4))))
noncomputable def f4_arrangeOrder_13 (a1 : Int) (k13 : Int → Int → zM → Option zM) (x2 : Int) (x3 : Int) (μ : zM) : Option zM :=
  (if (zI μ (zR μ 200 0) 2) ≤ x3 then (f4_arrangeOrder_102 a1 μ) else zgd (zin x3 (zln (zsb (zR μ 200 0) + 2))) (zlt ((zI μ (zsb (zR μ 200 0) + 2) (zx x3)) : Int) (fun v3 => zgd (zin x3 (zln 202)) ((if (zI μ 202 (zx x3)) = 0 then zgl (x3 + 1) (fun v4 => (k13 x2 v4 μ)) else zlt (zshr x2 v3) (fun v5 => zlt (zand v5 1) (fun v6 => (if v6 = 0 then zlt (zshl 1 v3) (fun v8 => zlt (zor x2 v8) (fun v9 => zcm (f4_addToOrder v3 μ) (fun m3 => zgl (x3 + 1) (fun v10 => (k13 v9 v10 m3))))) else zgl (x3 + 1) (fun v7 => (k13 x2 v7 μ))))))))))
noncomputable def f4_arrangeOrder_77 (a1 : Int) (k77 : Int → zM → Option zM) (x3 : Int) (μ : zM) : Option zM :=
  (if (10 : Int) ≤ x3 then (f4_arrangeOrder_102 a1 μ) else zco (f4_isLive x3 μ) (fun r1 => (if (zb r1) = 0 then zgl (x3 + 1) (fun v1 => (k77 v1 μ)) else zcm (f4_addToOrder x3 μ) (fun m2 => zgl (x3 + 1) (fun v2 => (k77 v2 m2))))))
noncomputable def f4_arrangeOrder (a1 : Int) (μ : zM) : Option zM :=
  zlt (zsI μ 200 10 0) (fun m1 => (if a1 = 0 then (zfx (f4_arrangeOrder_77 a1) (fun _ _ => none) zFu 1 m1) else (zfx (f4_arrangeOrder_13 a1) (fun _ _ _ => none) zFu 1 0 m1)))
def rm4_placeOf : Room := { frames := 0, cells := 0, slots := 0, locals := 8 }
noncomputable def f4_placeOf_2 (a1 : Int) (μ : zM) (k2 : Int → Option Int) (x2 : Int) : Option Int :=
  (if (zI μ 200 10) ≤ x2 then (some (-1)) else zgd (zin x2 (zln 206)) ((if (zI μ 206 (zx x2)) = a1 then (some x2) else zgl (x2 + 1) (fun v1 => (k2 v1)))))
noncomputable def f4_placeOf (a1 : Int) (μ : zM) : Option Int :=
  (zfx (f4_placeOf_2 a1 μ) (fun _ => none) zFu 0)
def rm4_reasonNotLive : Room := { frames := 1, cells := 0, slots := 0, locals := 29 }
noncomputable def f4_reasonNotLive_30 (a1 : Int) (μ : zM) (k30 : Int → Int → Option Int) (x2 : Int) (x3 : Int) : Option Int :=
  (if (zI μ (zR μ 200 0) 2) ≤ x3 then (if x2 = 0 then (some 4) else (some 3)) else zgd (zin x3 (zln (zsb (zR μ 200 0) + 5))) (zlt ((zI μ (zsb (zR μ 200 0) + 5) (zx x3)) : Int) (fun v3 => zgd (zin x3 (zln (zsb (zR μ 200 0) + 2))) ((if (zI μ (zsb (zR μ 200 0) + 2) (zx x3)) = a1 then (if v3 = (-1) then zgl (x3 + 1) (fun v5 => (k30 x2 v5)) else zgd (zin v3 (zln 202)) ((if (zI μ 202 (zx v3)) = 0 then zgl (x3 + 1) (fun v6 => (k30 x2 v6)) else zgd (zin v3 (zln (zsb (zR μ 200 0) + 2))) (zco (f4_isTyped (zI μ (zsb (zR μ 200 0) + 2) (zx v3)) μ) (fun r2 => (if (zb r2) = 0 then zgl (x3 + 1) (fun v7 => (k30 1 v7)) else (some 2))))))) else zgl (x3 + 1) (fun v4 => (k30 x2 v4)))))))
noncomputable def f4_reasonNotLive (a1 : Int) (μ : zM) : Option Int :=
  zco (f4_isLive a1 μ) (fun r1 => (if (zb r1) = 0 then zlt (zshr (zI μ (zR μ 200 0) 3) a1) (fun v1 => zlt (zand v1 1) (fun v2 => (if v2 = 0 then (some 1) else (zfx (f4_reasonNotLive_30 a1 μ) (fun _ _ => none) zFu 0 0)))) else (some 0)))
def rm4_countYielded : Room := { frames := 1, cells := 0, slots := 0, locals := 29 }
noncomputable def f4_countYielded_4 (μ : zM) (k4 : Int → Int → Option Int) (x1 : Int) (x2 : Int) : Option Int :=
  (if (zI μ (zR μ 200 0) 2) ≤ x2 then (some x1) else zgd (zin x2 (zln 202)) ((if (zI μ 202 (zx x2)) = 0 then zgl (x2 + 1) (fun v1 => (k4 x1 v1)) else zgd (zin x2 (zln (zsb (zR μ 200 0) + 4))) ((if (zI μ (zsb (zR μ 200 0) + 4) (zx x2)) = 0 then zgl (x2 + 1) (fun v2 => (k4 x1 v2)) else zco (f4_isDefaultShown x2 μ) (fun r1 => (if (zb r1) = 0 then zgl (x1 + 1) (fun v4 => zgl (x2 + 1) (fun v5 => (k4 v4 v5))) else zgl (x2 + 1) (fun v3 => (k4 x1 v3)))))))))
noncomputable def f4_countYielded (μ : zM) : Option Int :=
  (zfx (f4_countYielded_4 μ) (fun _ _ => none) zFu 0 0)
def rm4_countMirrored : Room := { frames := 0, cells := 0, slots := 0, locals := 8 }
noncomputable def f4_countMirrored_4 (μ : zM) (k4 : Int → Int → Option Int) (x1 : Int) (x2 : Int) : Option Int :=
  (if (10 : Int) ≤ x2 then (some x1) else zgd (zin x2 (zln 204)) ((if (zI μ 204 (zx x2)) < 2 then zgl (x2 + 1) (fun v1 => (k4 x1 v1)) else zgl (x1 + 1) (fun v2 => zgl (x2 + 1) (fun v3 => (k4 v2 v3))))))
noncomputable def f4_countMirrored (μ : zM) : Option Int :=
  (zfx (f4_countMirrored_4 μ) (fun _ _ => none) zFu 0 0)
def rm4_fieldOfLongestValue : Room := { frames := 1, cells := 0, slots := 0, locals := 29 }
noncomputable def f4_fieldOfLongestValue_4 (μ : zM) (k4 : Int → Int → Option Int) (x1 : Int) (x2 : Int) : Option Int :=
  (if (10 : Int) ≤ x2 then (some x1) else zco (f4_isLive x2 μ) (fun r1 => (if (zb r1) = 0 then zgl (x2 + 1) (fun v1 => (k4 x1 v1)) else (if x1 = (-1) then zgl (x2 + 1) (fun v2 => (k4 x2 v2)) else zgd (zin x2 (zln 205)) (zgd (zin x1 (zln 205)) (zlt (zcmp (zL μ 205 (zx x2)) (zL μ 205 (zx x1))) (fun v3 => (if v3 ≤ 0 then zgl (x2 + 1) (fun v4 => (k4 x1 v4)) else zgl (x2 + 1) (fun v5 => (k4 x2 v5))))))))))
noncomputable def f4_fieldOfLongestValue (μ : zM) : Option Int :=
  (zfx (f4_fieldOfLongestValue_4 μ) (fun _ _ => none) zFu (-1) 0)
def rm4_lengthOfLiveValues : Room := { frames := 1, cells := 0, slots := 0, locals := 29 }
noncomputable def f4_lengthOfLiveValues_4 (μ : zM) (k4 : Int → Int → Option Int) (x1 : Int) (x3 : Int) : Option Int :=
  (if (10 : Int) ≤ x3 then (some x1) else zco (f4_isLive x3 μ) (fun r1 => (if (zb r1) = 0 then zgl (x3 + 1) (fun v1 => (k4 x1 v1)) else zgd (zin x3 (zln 205)) (zgL (x1 + (zL μ 205 (zx x3))) (fun w1 => zgl (x3 + 1) (fun v2 => (k4 w1 v2)))))))
noncomputable def f4_lengthOfLiveValues (μ : zM) : Option Int :=
  (zfx (f4_lengthOfLiveValues_4 μ) (fun _ _ => none) zFu 0 0)
def rm4_valueByte : Room := { frames := 0, cells := 0, slots := 0, locals := 8 }
noncomputable def f4_valueByte (a1 : Int) (a2 : Int) (μ : zM) : Option Int :=
  (if a2 < 0 then (some (-1)) else zgd (zin a1 (zln 205)) (zlt (zcmp a2 (zL μ 205 (zx a1))) (fun v1 => (if (0 : Int) ≤ v1 then (some (-1)) else (if (400 : Int) ≤ a2 then (some (-1)) else zgl (a1 * 400) (fun v2 => zgl (v2 + a2) (fun v3 => zgd (zin v3 (zln 207)) ((some (zI μ 207 (zx v3)))))))))))
def rm4_toUpper : Room := { frames := 0, cells := 0, slots := 0, locals := 8 }
noncomputable def f4_toUpper (a1 : Int) : Option Int :=
  (if a1 < 97 then (some a1) else (if (122 : Int) < a1 then (some a1) else zgl (a1 - 97) (fun v1 => zgl (v1 + 65) (fun v2 => (some v2)))))
def rm4_toLower : Room := { frames := 0, cells := 0, slots := 0, locals := 8 }
noncomputable def f4_toLower (a1 : Int) : Option Int :=
  (if a1 < 65 then (some a1) else (if (90 : Int) < a1 then (some a1) else zgl (a1 - 65) (fun v1 => zgl (v1 + 97) (fun v2 => (some v2)))))
def rm4_digitAhead : Room := { frames := 0, cells := 0, slots := 0, locals := 8 }
noncomputable def f4_digitAhead_5 (a1 : Int) (a2 : Int) (k5 : Int → Int → Option Int) (x3 : Int) (x5 : Int) : Option Int :=
  (if a2 ≤ x5 then zlt (zremL x3 10) (fun w1 => zgl (w1) (fun v1 => zgl (48 + v1) (fun v2 => (some v2)))) else zlt (zdivL x3 10) (fun w2 => zgl (x5 + 1) (fun v3 => (k5 w2 v3))))
noncomputable def f4_digitAhead (a1 : Int) (a2 : Int) : Option Int :=
  (zfx (f4_digitAhead_5 a1 a2) (fun _ _ => none) zFu a1 0)
def rm4_changedByte : Room := { frames := 1, cells := 0, slots := 0, locals := 33 }
noncomputable def f4_changedByte (a1 : Int) (a2 : Int) (a3 : Int) (μ : zM) : Option Int :=
  zgd (zin a1 (zln (zsb (zR μ 200 0) + 2))) (zlt ((zI μ (zsb (zR μ 200 0) + 2) (zx a1)) : Int) (fun v1 => zgl (v1 * 400) (fun v2 => zgd (zin a1 (zln (zsb (zR μ 200 0) + 3))) (zlt ((zI μ (zsb (zR μ 200 0) + 3) (zx a1)) : Int) (fun v3 => (if v3 = 1 then zgl (v2 + a2) (fun v4 => zgd (zin v4 (zln 207)) (zco (f4_toUpper (zI μ 207 (zx v4))) (fun r1 => (some r1)))) else (if v3 = 2 then zgl (v2 + a2) (fun v5 => zgd (zin v5 (zln 207)) (zco (f4_toLower (zI μ 207 (zx v5))) (fun r2 => (some r2)))) else (if v3 = 3 then zgl (v2 + a3) (fun v6 => zgd (zin v6 (zln 207)) ((some (zI μ 207 (zx v6))))) else (if v3 = 4 then zgl (v2 + a2) (fun v7 => zgd (zin v7 (zln 207)) ((some (zI μ 207 (zx v7))))) else (if v3 = 5 then zgd (zin v1 (zln 205)) (zco (f4_digitAhead (zL μ 205 (zx v1)) a3) (fun r3 => (some r3))) else zgl (v2 + a2) (fun v8 => zgd (zin v8 (zln 207)) ((some (zI μ 207 (zx v8)))))))))))))))
def rm4_renderPart : Room := { frames := 2, cells := 0, slots := 0, locals := 58 }
noncomputable def f4_renderPart_134 (a1 : Int) (a2 : Nat) (a3 : Int) (k20 : Int → Int → Int → zM → Option zM) (k89 : Int → Int → Int → Int → Int → Int → zM → Option zM) (x4 : Int) (x5 : Int) (x6 : Int) (x7 : Int) (x8 : Int) (x9 : Int) (s0 : Int) (s1 : Int) (s2 : Nat) (μ : zM) : Option zM :=
  zgd (zin s1 (zln s2)) (zlt (zsI μ s2 (zx s1) s0) (fun m1 => zgl (x4 + 1) (fun v13 => zgl (x9 + 1) (fun v14 => (k89 v13 x5 x6 x7 x8 v14 m1)))))
noncomputable def f4_renderPart_89 (a1 : Int) (a2 : Nat) (a3 : Int) (k20 : Int → Int → Int → zM → Option zM) (k89 : Int → Int → Int → Int → Int → Int → zM → Option zM) (x4 : Int) (x5 : Int) (x6 : Int) (x7 : Int) (x8 : Int) (x9 : Int) (μ : zM) : Option zM :=
  (if x8 ≤ x9 then zgl (x6 + 1) (fun v7 => (k20 x4 x5 v7 μ)) else (if x5 ≤ x4 then zgl (x6 + 1) (fun v8 => (k20 x4 x5 v8 μ)) else (if x7 < 0 then zgl (-x7) (fun v9 => zgl (v9 - 1) (fun v10 => zgl (x8 - 1) (fun v11 => zgl (v11 - x9) (fun v12 => zco (f4_changedByte v10 x9 v12 μ) (fun r4 => (f4_renderPart_134 a1 a2 a3 k20 k89 x4 x5 x6 x7 x8 x9 r4 x4 a2 μ)))))) else (f4_renderPart_134 a1 a2 a3 k20 k89 x4 x5 x6 x7 x8 x9 x7 x4 a2 μ))))
noncomputable def f4_renderPart_20 (a1 : Int) (a2 : Nat) (a3 : Int) (k20 : Int → Int → Int → zM → Option zM) (x4 : Int) (x5 : Int) (x6 : Int) (μ : zM) : Option zM :=
  zco (f2_endItemOf (zR μ 200 0) a1 μ) (fun r2 => (if r2 ≤ x6 then (some μ) else zgd (zin x6 (zln (zit (zR μ 200 0) + 1))) ((if (zI μ (zit (zR μ 200 0) + 1) (zx x6)) = a1 then zgd (zin x6 (zln (zit (zR μ 200 0)))) (zlt ((zI μ (zit (zR μ 200 0)) (zx x6)) : Int) (fun v3 => (if v3 < 0 then zgl (-v3) (fun v4 => zgl (v4 - 1) (fun v5 => zco (f4_changedLength v5 μ) (fun r3 => zlt (min r3 400) (fun w1 => zgl (w1) (fun v6 => (zfx (f4_renderPart_89 a1 a2 a3 k20) (fun _ _ _ _ _ _ _ => none) zFu x4 x5 x6 v3 v6 0 μ)))))) else (zfx (f4_renderPart_89 a1 a2 a3 k20) (fun _ _ _ _ _ _ _ => none) zFu x4 x5 x6 v3 1 0 μ)))) else zgl (x6 + 1) (fun v2 => (k20 x4 x5 v2 μ))))))
noncomputable def f4_renderPart (a1 : Int) (a2 : Nat) (a3 : Int) (μ : zM) : Option zM :=
  zgl (a3 + 400) (fun v1 => zco (f2_firstItemOf (zR μ 200 0) a1 μ) (fun r1 => (zfx (f4_renderPart_20 a1 a2 a3) (fun _ _ _ _ => none) zFu a3 v1 r1 μ)))
def rm4_renderValues : Room := { frames := 3, cells := 0, slots := 0, locals := 87 }
noncomputable def f4_renderValues_37 (k2 : Int → zM → Option zM) (k10 : Int → Int → zM → Option zM) (x1 : Int) (x2 : Int) (s0 : Int) (μ : zM) : Option zM :=
  (if s0 = 0 then zgl (x2 + 1) (fun v2 => (k10 x1 v2 μ)) else zgd (zin x2 (zln 203)) ((if (zI μ 203 (zx x2)) = (-1) then zgl (x2 + 1) (fun v3 => (k10 x1 v3 μ)) else zgd (zin x2 (zln 203)) (zgl (x2 * 400) (fun v4 => zcm (f4_renderPart (zI μ 203 (zx x2)) 207 v4 μ) (fun m1 => zgl (x2 + 1) (fun v5 => (k10 x1 v5 m1))))))))
noncomputable def f4_renderValues_10 (k2 : Int → zM → Option zM) (k10 : Int → Int → zM → Option zM) (x1 : Int) (x2 : Int) (μ : zM) : Option zM :=
  (if (10 : Int) ≤ x2 then zgl (x1 + 1) (fun v1 => (k2 v1 μ)) else zgd (zin x2 (zln (zsb (zR μ 200 0) + 7))) (zco (fJ_bitCount (zI μ (zsb (zR μ 200 0) + 7) (zx x2))) (fun r1 => (if r1 = x1 then (f4_renderValues_37 k2 k10 x1 x2 1 μ) else (f4_renderValues_37 k2 k10 x1 x2 0 μ)))))
noncomputable def f4_renderValues_2 (k2 : Int → zM → Option zM) (x1 : Int) (μ : zM) : Option zM :=
  (if (10 : Int) ≤ x1 then (some μ) else (zfx (f4_renderValues_10 k2) (fun _ _ _ => none) zFu x1 0 μ))
noncomputable def f4_renderValues (μ : zM) : Option zM :=
  (zfx (f4_renderValues_2) (fun _ _ => none) zFu 0 μ)
def rm4_renderText : Room := { frames := 4, cells := 0, slots := 0, locals := 110 }
noncomputable def f4_renderText (μ : zM) : Option zM :=
  zcm (f4_renderValues μ) (fun m1 => zcm (f4_renderPart (-1) 208 0 m1) (fun m2 => (some m2)))
