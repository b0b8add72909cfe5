def rm7_thrown : Room := { frames := 0, cells := 0, slots := 0, locals := 8 }
noncomputable def f7_thrown (μ : zM) : Option Int :=
  (some (zI μ 292 0))
def rm7_within : Room := { frames := 0, cells := 0, slots := 0, locals := 8 }
noncomputable def f7_within (a1 : Int) (a2 : Int) (a3 : Int) : Option Bool :=
  (if a1 < a2 then (some false) else (if a3 < a1 then (some false) else (some true)))
def rm7_has : Room := { frames := 0, cells := 0, slots := 0, locals := 8 }
noncomputable def f7_has (a1 : Int) (a2 : Int) : Option Bool :=
  zlt (zshr a1 a2) (fun v1 => zlt (zand v1 1) (fun v2 => (if v2 = 1 then (some true) else (some false))))
def rm7_bits : Room := { frames := 0, cells := 0, slots := 0, locals := 8 }
noncomputable def f7_bits_4 (a1 : Int) (k4 : Int → Int → Option Int) (x1 : Int) (x2 : Int) : Option Int :=
  (if (12 : Int) ≤ x2 then (some x1) else zlt (zshr a1 x2) (fun v1 => zlt (zand v1 1) (fun v2 => zgl (x1 + v2) (fun v3 => zgl (x2 + 1) (fun v4 => (k4 v3 v4))))))
noncomputable def f7_bits (a1 : Int) : Option Int :=
  (zfx (f7_bits_4 a1) (fun _ _ => none) zFu 0 0)
def rm7_throwsIf : Room := { frames := 0, cells := 0, slots := 0, locals := 8 }
noncomputable def f7_throwsIf_16 (a1 : Int) (a2 : Int) (μ : zM) : Option (Bool × zM) :=
  (if (zI μ 292 0) ≤ 0 then (some (false, μ)) else (some (true, μ)))
noncomputable def f7_throwsIf (a1 : Int) (a2 : Int) (μ : zM) : Option (Bool × zM) :=
  (if (zI μ 292 0) = 0 then (if a1 = 0 then (f7_throwsIf_16 a1 a2 μ) else zlt (zsI μ 292 0 a2) (fun m1 => (f7_throwsIf_16 a1 a2 m1))) else (f7_throwsIf_16 a1 a2 μ))
def rm7_copies : Room := { frames := 0, cells := 0, slots := 0, locals := 8 }
noncomputable def f7_copies_3 (a1 : Nat) (a2 : Int) (a3 : Nat) (a4 : Int) (k3 : Int → zM → Option zM) (x4 : Int) (μ : zM) : Option zM :=
  (if (2256 : Int) ≤ x4 then (some μ) else zgl (a4 + x4) (fun v1 => zgl (a2 + x4) (fun v2 => zgd (zin v2 (zln a1)) (zgd (zin v1 (zln a3)) (zlt (zsI μ a3 (zx v1) (zI μ a1 (zx v2))) (fun m1 => zgl (x4 + 1) (fun v3 => (k3 v3 m1))))))))
noncomputable def f7_copies (a1 : Nat) (a2 : Int) (a3 : Nat) (a4 : Int) (μ : zM) : Option zM :=
  (zfx (f7_copies_3 a1 a2 a3 a4) (fun _ _ => none) zFu 0 μ)
def rm7_noSnippet : Room := { frames := 1, cells := 0, slots := 0, locals := 30 }
noncomputable def f7_noSnippet_23 (a1 : Int) (s0 : Int) (μ : zM) : Option (Bool × zM) :=
  zcl2 (f7_throwsIf s0 1 μ) (fun r2 m1 => (some (r2, m1)))
noncomputable def f7_noSnippet (a1 : Int) (μ : zM) : Option (Bool × zM) :=
  zgl ((zI μ (zR μ 292 8) 0) - 1) (fun v1 => zco (f7_within a1 0 v1) (fun r1 => (if (zb r1) = 0 then (f7_noSnippet_23 a1 1 μ) else (f7_noSnippet_23 a1 0 μ))))
def rm7_isField : Room := { frames := 1, cells := 0, slots := 0, locals := 30 }
noncomputable def f7_isField (a1 : Int) : Option Bool :=
  zco (f7_within a1 0 9) (fun r1 => (some r1))
def rm7_bytesIn : Room := { frames := 0, cells := 0, slots := 0, locals := 8 }
noncomputable def f7_bytesIn_5 (a1 : Int) (k5 : Int → Int → Option Int) (x1 : Int) (x2 : Int) : Option Int :=
  (if x2 < 0 then (some x1) else zlt (zshr a1 x2) (fun v1 => zlt (zand v1 255) (fun v2 => (if v2 = 0 then zgl (x1 + 0) (fun v3 => zgl (x2 + (-8)) (fun v4 => (k5 v3 v4))) else zgl (x1 + 1) (fun v5 => zgl (x2 + (-8)) (fun v6 => (k5 v5 v6)))))))
noncomputable def f7_bytesIn (a1 : Int) : Option Int :=
  (zfx (f7_bytesIn_5 a1) (fun _ _ => none) zFu 0 24)
def rm7_puts : Room := { frames := 0, cells := 0, slots := 0, locals := 8 }
noncomputable def f7_puts_3 (a1 : Int) (k3 : Int → zM → Option zM) (x2 : Int) (μ : zM) : Option zM :=
  (if x2 < 0 then (some μ) else zlt (zshr a1 x2) (fun v1 => zlt (zand v1 255) (fun v2 => (if v2 = 0 then zgl (x2 + (-8)) (fun v3 => (k3 v3 μ)) else zlt (zshr a1 x2) (fun v4 => zlt (zand v4 255) (fun v5 => zgd (zin (zI μ 292 10) (zln 313)) (zlt (zsI μ 313 (zx (zI μ 292 10)) v5) (fun m1 => zgl ((zI m1 292 10) + 1) (fun v6 => zlt (zsI m1 292 10 v6) (fun m2 => zgl (x2 + (-8)) (fun v7 => (k3 v7 m2))))))))))))
noncomputable def f7_puts (a1 : Int) (μ : zM) : Option zM :=
  (zfx (f7_puts_3 a1) (fun _ _ => none) zFu 24 μ)
def rm7_append : Room := { frames := 1, cells := 0, slots := 0, locals := 30 }
noncomputable def f7_append_48 (a1 : Int) (a2 : Int) (a3 : Int) (a4 : Int) (a5 : Int) (s0 : Int) (μ : zM) : Option (Int × zM) :=
  zcl2 (f7_throwsIf s0 1 μ) (fun r6 m2 => (if (zb r6) = 0 then zcm (f7_puts a1 m2) (fun m3 => zcm (f7_puts a2 m3) (fun m4 => zcm (f7_puts a3 m4) (fun m5 => zcm (f7_puts a4 m5) (fun m6 => zcm (f7_puts a5 m6) (fun m7 => (some ((zI m7 292 10), m7))))))) else (some (0, m2))))
noncomputable def f7_append (a1 : Int) (a2 : Int) (a3 : Int) (a4 : Int) (a5 : Int) (μ : zM) : Option (Int × zM) :=
  zlt (zsI μ 292 0 0) (fun m1 => zco (f7_bytesIn a1) (fun r1 => zgl ((zI m1 292 10) + r1) (fun v1 => zco (f7_bytesIn a2) (fun r2 => zgl (v1 + r2) (fun v2 => zco (f7_bytesIn a3) (fun r3 => zgl (v2 + r3) (fun v3 => zco (f7_bytesIn a4) (fun r4 => zgl (v3 + r4) (fun v4 => zco (f7_bytesIn a5) (fun r5 => zgl (v4 + r5) (fun v5 => (if v5 ≤ 700 then (f7_append_48 a1 a2 a3 a4 a5 0 m1) else (f7_append_48 a1 a2 a3 a4 a5 1 m1)))))))))))))
def rm7_byteAt : Room := { frames := 0, cells := 0, slots := 0, locals := 8 }
noncomputable def f7_byteAt (a1 : Int) (μ : zM) : Option Int :=
  (if (zI μ 292 10) ≤ a1 then (some (-1)) else zgd (zin a1 (zln 313)) ((some (zI μ 313 (zx a1)))))
def rm7_fails : Room := { frames := 0, cells := 0, slots := 0, locals := 8 }
noncomputable def f7_fails (a1 : Int) (a2 : Int) (μ : zM) : Option (Bool × zM) :=
  (if (zI μ 292 11) = 0 then zlt (zsI μ 292 11 a1) (fun m1 => zlt (zsI m1 292 12 a2) (fun m2 => (some (false, m2)))) else (some (false, μ)))
def rm7_isLetter : Room := { frames := 1, cells := 0, slots := 0, locals := 30 }
noncomputable def f7_isLetter (a1 : Int) : Option Bool :=
  zco (f7_within a1 97 122) (fun r1 => (some r1))
def rm7_token : Room := { frames := 2, cells := 0, slots := 0, locals := 50 }
noncomputable def f7_token_26 (k0 : zM → Option zM) (μ : zM) : Option zM :=
  zgl ((zI μ 292 14) + 1) (fun v1 => zlt (zsI μ 292 14 v1) (fun m3 => (k0 m3)))
noncomputable def f7_token_118 (s0 : Int) (s1 : Int) (μ : zM) : Option zM :=
  zgl (s1 + s0) (fun v3 => zlt (zsI μ 292 14 v3) (fun m5 => zlt (zsI m5 292 16 (zI m5 292 14)) (fun m6 => (some m6))))
noncomputable def f7_token_62 (k62 : zM → Option zM) (μ : zM) : Option zM :=
  zco (f7_byteAt (zI μ 292 14) μ) (fun r5 => zco (f7_isLetter r5) (fun r6 => (if (zb r6) = 0 then (if (zI μ 292 17) = 0 then zco (f7_byteAt (zI μ 292 14) μ) (fun r7 => (if r7 = (-1) then (f7_token_118 0 (zI μ 292 14) μ) else (f7_token_118 1 (zI μ 292 14) μ))) else (f7_token_118 0 (zI μ 292 14) μ)) else zgl ((zI μ 292 14) + 1) (fun v2 => zlt (zsI μ 292 14 v2) (fun m4 => (k62 m4))))))
noncomputable def f7_token_0 (k0 : zM → Option zM) (μ : zM) : Option zM :=
  zco (f7_byteAt (zI μ 292 14) μ) (fun r1 => (if r1 = 32 then (f7_token_26 k0 μ) else zco (f7_byteAt (zI μ 292 14) μ) (fun r2 => (if r2 = 10 then (f7_token_26 k0 μ) else zlt (zsI μ 292 15 (zI μ 292 14)) (fun m1 => zco (f7_byteAt (zI m1 292 14) m1) (fun r3 => zco (f7_isLetter r3) (fun r4 => zgd ((zb r4) = 0 ∨ (zb r4) = 1) (zlt (zsI m1 292 17 (zb r4)) (fun m2 => (zfx (f7_token_62) (fun _ => none) zFu m2))))))))))
noncomputable def f7_token (μ : zM) : Option zM :=
  (zfx (f7_token_0) (fun _ => none) zFu μ)
def rm7_is : Room := { frames := 6, cells := 0, slots := 0, locals := 200 }
noncomputable def f7_is_31 (a1 : Nat) (μ : zM) (k31 : Int → Int → Option Bool) (x2 : Int) (x3 : Int) : Option Bool :=
  zgd (zsok a1) (zlt (zslen a1) (fun v3 => (if v3 ≤ x3 then zgd (x2 = (0 : Int) ∨ x2 = (1 : Int)) ((some (decide (x2 = (1 : Int))))) else (if x2 = 0 then zgd (x2 = (0 : Int) ∨ x2 = (1 : Int)) ((some (decide (x2 = (1 : Int))))) else zgl ((zI μ 292 15) + x3) (fun v4 => zgd (zin v4 (zln 313)) (zgd (zsok a1 ∧ 0 ≤ x3 ∧ x3 < zslen a1) (zlt (zsch a1 (zx x3)) (fun v5 => (if (zI μ 313 (zx v4)) = v5 then zgl (x3 + 1) (fun v7 => (k31 1 v7)) else zgl (x3 + 1) (fun v6 => (k31 0 v6)))))))))))
noncomputable def f7_is_27 (a1 : Nat) (μ : zM) : Option Bool :=
  (zfx (f7_is_31 a1 μ) (fun _ _ => none) zFu 0 0)
noncomputable def f7_is (a1 : Nat) (μ : zM) : Option Bool :=
  (if (zI μ 292 17) = 0 then (f7_is_27 a1 μ) else zgl ((zI μ 292 16) - (zI μ 292 15)) (fun v1 => zgd (zsok a1) (zlt (zslen a1) (fun v2 => (if v1 = v2 then (zfx (f7_is_31 a1 μ) (fun _ _ => none) zFu 1 0) else (f7_is_27 a1 μ))))))
def rm7_isSign : Room := { frames := 1, cells := 0, slots := 0, locals := 29 }
noncomputable def f7_isSign (a1 : Int) (μ : zM) : Option Bool :=
  (if (zI μ 292 17) = 0 then zco (f7_byteAt (zI μ 292 15) μ) (fun r1 => (if r1 = a1 then (some true) else (some false))) else (some false))
def rm7_isName : Room := { frames := 0, cells := 0, slots := 0, locals := 8 }
noncomputable def f7_isName_21 (a1 : Nat) (a2 : Int) (a3 : Int) (a4 : Int) (μ : zM) (k21 : Int → Int → Option Bool) (x5 : Int) (x6 : Int) : Option Bool :=
  (if a4 ≤ x6 then zgd (x5 = (0 : Int) ∨ x5 = (1 : Int)) ((some (decide (x5 = (1 : Int))))) else (if x5 = 0 then zgd (x5 = (0 : Int) ∨ x5 = (1 : Int)) ((some (decide (x5 = (1 : Int))))) else zgl (8 * a2) (fun v1 => zgl (v1 + x6) (fun v2 => zgd (zin v2 (zln (a1 + 1))) (zgl (a3 + x6) (fun v3 => zgd (zin v3 (zln 313)) ((if (zI μ (a1 + 1) (zx v2)) = (zI μ 313 (zx v3)) then zgl (x6 + 1) (fun v5 => (k21 1 v5)) else zgl (x6 + 1) (fun v4 => (k21 0 v4))))))))))
noncomputable def f7_isName (a1 : Nat) (a2 : Int) (a3 : Int) (a4 : Int) (μ : zM) : Option Bool :=
  zgd (zin a2 (zln (a1 + 2))) ((if (zI μ (a1 + 2) (zx a2)) = a4 then (zfx (f7_isName_21 a1 a2 a3 a4 μ) (fun _ _ => none) zFu 1 0) else (zfx (f7_isName_21 a1 a2 a3 a4 μ) (fun _ _ => none) zFu 0 0)))
def rm7_readName : Room := { frames := 3, cells := 0, slots := 0, locals := 70 }
noncomputable def f7_readName_27 (μ : zM) : Option (Bool × zM) :=
  zcl2 (f7_fails 1 (zI μ 292 15) μ) (fun r1 m2 => (some (r1, m2)))
noncomputable def f7_readName_101 (k101 : Int → Int → zM → Option (Bool × zM)) (x1 : Int) (x2 : Int) (μ : zM) : Option (Bool × zM) :=
  (if x1 ≤ x2 then (some (true, μ)) else zgl (8 * (zI μ (zR μ 292 13) 0)) (fun v3 => zgl (v3 + x2) (fun v4 => zgl ((zI μ 292 15) + x2) (fun v5 => zgd (zin v5 (zln 313)) (zgd (zin v4 (zln ((zR μ 292 13) + 1))) (zlt (zsI μ ((zR μ 292 13) + 1) (zx v4) (zI μ 313 (zx v5))) (fun m5 => zgl (x2 + 1) (fun v6 => (k101 x1 v6 m5)))))))))
noncomputable def f7_readName_39 (k39 : Int → Int → zM → Option (Bool × zM)) (x1 : Int) (x2 : Int) (μ : zM) : Option (Bool × zM) :=
  (if (zI μ (zR μ 292 13) 0) ≤ x2 then zgd (zin (zI μ (zR μ 292 13) 0) (zln ((zR μ 292 13) + 2))) (zlt (zsI μ ((zR μ 292 13) + 2) (zx (zI μ (zR μ 292 13) 0)) x1) (fun m3 => (zfx (f7_readName_101) (fun _ _ _ => none) zFu x1 0 m3))) else zco (f7_isName (zR μ 292 13) x2 (zI μ 292 15) x1 μ) (fun r2 => (if (zb r2) = 0 then zgl (x2 + 1) (fun v2 => (k39 x1 v2 μ)) else zcl2 (f7_fails 3 (zI μ 292 15) μ) (fun r3 m4 => (some (r3, m4))))))
noncomputable def f7_readName (μ : zM) : Option (Bool × zM) :=
  zcm (f7_token μ) (fun m1 => zgl ((zI m1 292 16) - (zI m1 292 15)) (fun v1 => (if (zI m1 292 17) = 0 then (f7_readName_27 m1) else (if v1 ≤ 8 then (zfx (f7_readName_39) (fun _ _ _ => none) zFu v1 0 m1) else (f7_readName_27 m1)))))
def rm7_item : Room := { frames := 0, cells := 0, slots := 0, locals := 8 }
noncomputable def f7_item (a1 : Int) (μ : zM) : Option zM :=
  zgd (zin (zI μ 292 20) (zln ((zR μ 292 13) + 4))) (zlt (zsI μ ((zR μ 292 13) + 4) (zx (zI μ 292 20)) a1) (fun m1 => zgl ((zI m1 292 20) + 1) (fun v1 => zlt (zsI m1 292 20 v1) (fun m2 => (some m2)))))
def rm7_turnsBack : Room := { frames := 1, cells := 0, slots := 0, locals := 29 }
noncomputable def f7_turnsBack_16 (a1 : Int) (μ : zM) (k16 : Int → Int → Int → Option Bool) (x2 : Int) (x3 : Int) (x4 : Int) : Option Bool :=
  (if (zI μ 292 19) ≤ x4 then zgd (x2 = (0 : Int) ∨ x2 = (1 : Int)) ((some (decide (x2 = (1 : Int))))) else zgl (60 * (zI μ (zR μ 292 13) 0)) (fun v2 => zgd (zin x4 (zln 328)) (zgl (v2 + (zI μ 328 (zx x4))) (fun v3 => zgd (zin v3 (zln ((zR μ 292 13) + 6))) (zlt ((zI μ ((zR μ 292 13) + 6) (zx v3)) : Int) (fun v4 => (if x2 = 0 then (if v4 = a1 then zgl (x4 + 1) (fun v6 => (k16 1 x3 v6)) else zgl (x3 + a1) (fun v7 => zgd (zin v7 (zln ((zR μ 292 13) + 13))) (zco (f7_has (zI μ ((zR μ 292 13) + 13) (zx v7)) v4) (fun r1 => (if (zb r1) = 0 then zgl (x4 + 1) (fun v8 => (k16 0 x3 v8)) else zgl (x4 + 1) (fun v9 => (k16 1 x3 v9))))))) else zgl (x4 + 1) (fun v5 => (k16 1 x3 v5)))))))))
noncomputable def f7_turnsBack (a1 : Int) (μ : zM) : Option Bool :=
  zgl (10 * (zI μ (zR μ 292 13) 0)) (fun v1 => (zfx (f7_turnsBack_16 a1 μ) (fun _ _ _ => none) zFu 0 v1 0))
def rm7_dependsOn : Room := { frames := 1, cells := 0, slots := 0, locals := 29 }
noncomputable def f7_dependsOn_121 (a1 : Int) (k13 : Int → Int → zM → Option zM) (k68 : Int → Int → Int → Int → Int → zM → Option zM) (x2 : Int) (x3 : Int) (x4 : Int) (x5 : Int) (x6 : Int) (s0 : Int) (s1 : Int) (s2 : Int) (s3 : Nat) (μ : zM) : Option zM :=
  zlt (zor s1 s0) (fun v11 => zgd (zin s2 (zln s3)) (zlt (zsI μ s3 (zx s2) v11) (fun m1 => zgl (x6 + 1) (fun v12 => (k68 x2 x3 x4 x5 v12 m1)))))
noncomputable def f7_dependsOn_68 (a1 : Int) (k13 : Int → Int → zM → Option zM) (k68 : Int → Int → Int → Int → Int → zM → Option zM) (x2 : Int) (x3 : Int) (x4 : Int) (x5 : Int) (x6 : Int) (μ : zM) : Option zM :=
  (if (10 : Int) ≤ x6 then zgl (x3 + 1) (fun v8 => (k13 x2 v8 μ)) else zgl (x2 + x6) (fun v9 => zgd (zin v9 (zln ((zR μ 292 13) + 13))) ((if x6 = x4 then (f7_dependsOn_121 a1 k13 k68 x2 x3 x4 x5 x6 x5 (zI μ ((zR μ 292 13) + 13) (zx v9)) v9 ((zR μ 292 13) + 13) μ) else zgl (x2 + x6) (fun v10 => zgd (zin v10 (zln ((zR μ 292 13) + 13))) (zco (f7_has (zI μ ((zR μ 292 13) + 13) (zx v10)) x4) (fun r1 => (if (zb r1) = 0 then (f7_dependsOn_121 a1 k13 k68 x2 x3 x4 x5 x6 0 (zI μ ((zR μ 292 13) + 13) (zx v9)) v9 ((zR μ 292 13) + 13) μ) else (f7_dependsOn_121 a1 k13 k68 x2 x3 x4 x5 x6 x5 (zI μ ((zR μ 292 13) + 13) (zx v9)) v9 ((zR μ 292 13) + 13) μ)))))))))
noncomputable def f7_dependsOn_13 (a1 : Int) (k13 : Int → Int → zM → Option zM) (x2 : Int) (x3 : Int) (μ : zM) : Option zM :=
  (if (zI μ 292 19) ≤ x3 then (some μ) else zgl (60 * (zI μ (zR μ 292 13) 0)) (fun v2 => zgd (zin x3 (zln 328)) (zgl (v2 + (zI μ 328 (zx x3))) (fun v3 => zgd (zin v3 (zln ((zR μ 292 13) + 6))) (zlt ((zI μ ((zR μ 292 13) + 6) (zx v3)) : Int) (fun v4 => zlt (zshl 1 a1) (fun v5 => zgl (x2 + a1) (fun v6 => zgd (zin v6 (zln ((zR μ 292 13) + 13))) (zlt (zor v5 (zI μ ((zR μ 292 13) + 13) (zx v6))) (fun v7 => (zfx (f7_dependsOn_68 a1 k13) (fun _ _ _ _ _ _ => none) zFu x2 x3 v4 v7 0 μ)))))))))))
noncomputable def f7_dependsOn (a1 : Int) (μ : zM) : Option zM :=
  zgl (10 * (zI μ (zR μ 292 13) 0)) (fun v1 => (zfx (f7_dependsOn_13 a1) (fun _ _ _ => none) zFu v1 0 μ))
def rm7_changeOf : Room := { frames := 0, cells := 0, slots := 0, locals := 8 }
noncomputable def f7_changeOf (a1 : Int) : Option Int :=
  (if a1 = 117 then (some 1) else (if a1 = 108 then (some 2) else (if a1 = 114 then (some 3) else (if a1 = 102 then (some 4) else (if a1 = 110 then (some 5) else (some 0))))))
def rm7_readRest : Room := { frames := 1, cells := 0, slots := 0, locals := 30 }
noncomputable def f7_readRest_153 (a1 : Int) (a2 : Int) (a3 : Int) (x4 : Int) (μ : zM) : Option (Bool × zM) :=
  (if x4 = 125 then zgl ((zI μ 292 14) + 1) (fun v5 => zlt (zsI μ 292 14 v5) (fun m10 => (some (true, m10)))) else zcl2 (f7_fails 1 (zI μ 292 14) μ) (fun r7 m11 => (some (r7, m11))))
noncomputable def f7_readRest (a1 : Int) (a2 : Int) (a3 : Int) (μ : zM) : Option (Bool × zM) :=
  zco (f7_byteAt (zI μ 292 14) μ) (fun r1 => (if r1 = 58 then (if (zI μ 292 19) = 4 then zcl2 (f7_fails 2 a1 μ) (fun r6 m9 => (some (r6, m9))) else zgd (zin a2 (zln ((zR μ 292 13) + 8)) ∧ ((1 : Int) = 0 ∨ (1 : Int) = 1)) (zlt (zsI μ ((zR μ 292 13) + 8) (zx a2) 1) (fun m5 => zgd (zin (zI m5 292 19) (zln 328)) (zlt (zsI m5 328 (zx (zI m5 292 19)) a3) (fun m6 => zgl ((zI m6 292 19) + 1) (fun v3 => zlt (zsI m6 292 19 v3) (fun m7 => zgl ((zI m7 292 14) + 1) (fun v4 => zlt (zsI m7 292 14 v4) (fun m8 => (some (true, m8))))))))))) else (if r1 = 47 then zgl ((zI μ 292 14) + 1) (fun v1 => zlt (zsI μ 292 14 v1) (fun m1 => zco (f7_byteAt (zI m1 292 14) m1) (fun r2 => zco (f7_changeOf r2) (fun r3 => zgd (zin a2 (zln ((zR m1 292 13) + 7))) (zlt (zsI m1 ((zR m1 292 13) + 7) (zx a2) r3) (fun m2 => zgd (zin a2 (zln ((zR m2 292 13) + 7))) ((if (zI m2 ((zR m2 292 13) + 7) (zx a2)) = 0 then zcl2 (f7_fails 1 (zI m2 292 14) m2) (fun r5 m4 => (some (r5, m4))) else zgl ((zI m2 292 14) + 1) (fun v2 => zlt (zsI m2 292 14 v2) (fun m3 => zco (f7_byteAt (zI m3 292 14) m3) (fun r4 => (f7_readRest_153 a1 a2 a3 r4 m3)))))))))))) else (f7_readRest_153 a1 a2 a3 r1 μ))))
def rm7_readOccurrence : Room := { frames := 2, cells := 0, slots := 0, locals := 55 }
noncomputable def f7_readOccurrence_229 (a1 : Int) (x2 : Int) (x4 : Int) (x5 : Int) (x6 : Int) (s0 : Int) (s1 : Int) (s2 : Nat) (μ : zM) : Option (Bool × zM) :=
  zgd (zin s1 (zln s2)) (zlt (zsI μ s2 (zx s1) s0) (fun m10 => zgd (zin x6 (zln ((zR m10 292 13) + 10))) (zlt (zsI m10 ((zR m10 292 13) + 10) (zx x6) (zI m10 292 20)) (fun m11 => zgd (zin x6 (zln ((zR m11 292 13) + 11))) (zlt (zsI m11 ((zR m11 292 13) + 11) (zx x6) (zI m11 292 20)) (fun m12 => zgd (zin x6 (zln ((zR m12 292 13) + 12))) (zlt (zsI m12 ((zR m12 292 13) + 12) (zx x6) (zI m12 292 19)) (fun m13 => zcm (f7_dependsOn x4 m13) (fun m14 => zgl (1000 + x5) (fun v10 => zcm (f7_item v10 m14) (fun m15 => (if x2 = 0 then (some (true, m15)) else zcl2 (f7_readRest a1 x6 x5 m15) (fun r8 m16 => (if (zb r8) = 0 then (some (false, m16)) else (some (true, m16))))))))))))))))
noncomputable def f7_readOccurrence_33 (a1 : Int) (x2 : Int) (s0 : Int) (s1 : Int) (μ : zM) : Option (Bool × zM) :=
  zgl (s1 + s0) (fun v1 => zlt (zsI μ 292 14 v1) (fun m1 => zco (f7_byteAt (zI m1 292 14) m1) (fun r2 => zco (f7_within r2 48 57) (fun r3 => (if (zb r3) = 0 then zcl2 (f7_fails 1 (zI m1 292 14) m1) (fun r7 m9 => (some (r7, m9))) else zgl ((zI m1 292 14) + 1) (fun v2 => zlt (zsI m1 292 14 v2) (fun m2 => zgl (r2 - 48) (fun v3 => zgd (zin (zI m2 (zR m2 292 13) 0) (zln ((zR m2 292 13) + 5))) (zlt ((zI m2 ((zR m2 292 13) + 5) (zx (zI m2 (zR m2 292 13) 0))) : Int) (fun v4 => zco (f7_turnsBack v3 m2) (fun r4 => (if (zb r4) = 0 then (if v4 = 60 then zcl2 (f7_fails 5 a1 m2) (fun r5 m7 => (some (r5, m7))) else zgl (60 * (zI m2 (zR m2 292 13) 0)) (fun v5 => zgl (v5 + v4) (fun v6 => zlt ((zI m2 (zR m2 292 13) 0) : Int) (fun v7 => zgd (zin v7 (zln ((zR m2 292 13) + 5))) (zgl ((zI m2 ((zR m2 292 13) + 5) (zx v7)) + 1) (fun v8 => zgd (zin v7 (zln ((zR m2 292 13) + 5))) (zlt (zsI m2 ((zR m2 292 13) + 5) (zx v7) v8) (fun m3 => zgd (zin v6 (zln ((zR m3 292 13) + 6))) (zlt (zsI m3 ((zR m3 292 13) + 6) (zx v6) v3) (fun m4 => zgd (zin v6 (zln ((zR m4 292 13) + 7))) (zlt (zsI m4 ((zR m4 292 13) + 7) (zx v6) 0) (fun m5 => zgd (zin v6 (zln ((zR m5 292 13) + 8)) ∧ ((0 : Int) = 0 ∨ (0 : Int) = 1)) (zlt (zsI m5 ((zR m5 292 13) + 8) (zx v6) 0) (fun m6 => (if (zI m6 292 19) = 0 then (f7_readOccurrence_229 a1 x2 v3 v4 v6 (-1) v6 ((zR m6 292 13) + 9) m6) else zgl ((zI m6 292 19) - 1) (fun v9 => zgd (zin v9 (zln 328)) ((f7_readOccurrence_229 a1 x2 v3 v4 v6 (zI m6 328 (zx v9)) v6 ((zR m6 292 13) + 9) m6)))))))))))))))))) else zcl2 (f7_fails 4 a1 m2) (fun r6 m8 => (some (r6, m8)))))))))))))))
noncomputable def f7_readOccurrence_18 (a1 : Int) (s0 : Int) (μ : zM) : Option (Bool × zM) :=
  (if s0 = 0 then (f7_readOccurrence_33 a1 s0 0 (zI μ 292 14) μ) else (f7_readOccurrence_33 a1 s0 1 (zI μ 292 14) μ))
noncomputable def f7_readOccurrence (a1 : Int) (μ : zM) : Option (Bool × zM) :=
  zco (f7_byteAt (zI μ 292 14) μ) (fun r1 => (if r1 = 123 then (f7_readOccurrence_18 a1 1 μ) else (f7_readOccurrence_18 a1 0 μ)))
def rm7_readBody : Room := { frames := 3, cells := 0, slots := 0, locals := 81 }
noncomputable def f7_readBody_48 (k7 : Int → zM → Option (Bool × zM)) (s0 : Int) (μ : zM) : Option (Bool × zM) :=
  (if s0 = 0 then (k7 s0 μ) else zgl ((zI μ 292 19) - 1) (fun v6 => zlt (zsI μ 292 19 v6) (fun m10 => zgl (60 * (zI m10 (zR m10 292 13) 0)) (fun v7 => zgd (zin (zI m10 292 19) (zln 328)) (zgl (v7 + (zI m10 328 (zx (zI m10 292 19)))) (fun v8 => zgd (zin v8 (zln ((zR m10 292 13) + 11))) (zlt (zsI m10 ((zR m10 292 13) + 11) (zx v8) (zI m10 292 20)) (fun m11 => zcm (f7_item 2000 m11) (fun m12 => (k7 s0 m12))))))))))
noncomputable def f7_readBody_195 (k7 : Int → zM → Option (Bool × zM)) (x1 : Int) (x2 : Int) (μ : zM) : Option (Bool × zM) :=
  zcm (f7_item x2 μ) (fun m6 => zgl ((zI m6 292 14) + 1) (fun v4 => zlt (zsI m6 292 14 v4) (fun m7 => (k7 x1 m7))))
noncomputable def f7_readBody_142 (k7 : Int → zM → Option (Bool × zM)) (x1 : Int) (x3 : Int) (μ : zM) : Option (Bool × zM) :=
  zcm (f7_item x3 μ) (fun m8 => zgl ((zI m8 292 14) + 1) (fun v5 => zlt (zsI m8 292 14 v5) (fun m9 => (k7 x1 m9))))
noncomputable def f7_readBody_7 (k7 : Int → zM → Option (Bool × zM)) (x1 : Int) (μ : zM) : Option (Bool × zM) :=
  (if x1 = 0 then (some (true, μ)) else zco (f7_byteAt (zI μ 292 14) μ) (fun r1 => (if r1 = 125 then zgl ((zI μ 292 14) + 1) (fun v3 => zlt (zsI μ 292 14 v3) (fun m5 => (if (zI m5 292 19) ≤ 0 then (f7_readBody_48 k7 0 m5) else (f7_readBody_48 k7 1 m5)))) else (if r1 = 36 then zgl ((zI μ 292 14) + 1) (fun v1 => zlt (zsI μ 292 14 v1) (fun m3 => zco (f7_byteAt (zI m3 292 14) m3) (fun r4 => (if r4 = 36 then (f7_readBody_142 k7 x1 r4 m3) else (if r4 = 125 then (f7_readBody_142 k7 x1 r4 m3) else zgl ((zI m3 292 14) - 1) (fun v2 => zcl2 (f7_readOccurrence v2 m3) (fun r5 m4 => (if (zb r5) = 0 then (some (false, m4)) else (k7 x1 m4))))))))) else (if r1 = 10 then (f7_readBody_195 k7 x1 r1 μ) else zco (f7_within r1 32 126) (fun r2 => (if (zb r2) = 0 then zcl2 (f7_fails 1 (zI μ 292 14) μ) (fun r3 m2 => (some (r3, m2))) else (f7_readBody_195 k7 x1 r1 μ))))))))
noncomputable def f7_readBody (μ : zM) : Option (Bool × zM) :=
  zlt (zsI μ 292 19 0) (fun m1 => (zfx (f7_readBody_7) (fun _ _ => none) zFu 1 m1))
def rm7_readSnippet : Room := { frames := 4, cells := 0, slots := 0, locals := 104 }
noncomputable def f7_readSnippet_72 (k72 : Int → zM → Option (Bool × zM)) (x1 : Int) (μ : zM) : Option (Bool × zM) :=
  (if (10 : Int) ≤ x1 then zgd (zin (zI μ (zR μ 292 13) 0) (zln ((zR μ 292 13) + 3))) (zlt (zsI μ ((zR μ 292 13) + 3) (zx (zI μ (zR μ 292 13) 0)) (zI μ 292 20)) (fun m6 => zcl2 (f7_readBody m6) (fun r5 m7 => (if (zb r5) = 0 then (some (false, m7)) else zgl ((zI m7 (zR m7 292 13) 0) + 1) (fun v1 => zlt (zsI m7 (zR m7 292 13) 0 v1) (fun m8 => zgd (zin (zI m8 (zR m8 292 13) 0) (zln ((zR m8 292 13) + 3))) (zlt (zsI m8 ((zR m8 292 13) + 3) (zx (zI m8 (zR m8 292 13) 0)) (zI m8 292 20)) (fun m9 => (some (true, m9)))))))))) else zgl (10 * (zI μ (zR μ 292 13) 0)) (fun v2 => zgl (v2 + x1) (fun v3 => zgd (zin v3 (zln ((zR μ 292 13) + 13))) (zlt (zsI μ ((zR μ 292 13) + 13) (zx v3) 0) (fun m10 => zgl (x1 + 1) (fun v4 => (k72 v4 m10)))))))
noncomputable def f7_readSnippet (μ : zM) : Option (Bool × zM) :=
  (if (zI μ (zR μ 292 13) 0) = 8 then zcl2 (f7_fails 5 (zI μ 292 15) μ) (fun r4 m5 => (some (r4, m5))) else zcl2 (f7_readName μ) (fun r1 m1 => (if (zb r1) = 0 then (some (false, m1)) else zcm (f7_token m1) (fun m2 => zco (f7_isSign 123 m2) (fun r2 => (if (zb r2) = 0 then zcl2 (f7_fails 1 (zI m2 292 15) m2) (fun r3 m4 => (some (r3, m4))) else zgd (zin (zI m2 (zR m2 292 13) 0) (zln ((zR m2 292 13) + 5))) (zlt (zsI m2 ((zR m2 292 13) + 5) (zx (zI m2 (zR m2 292 13) 0)) 0) (fun m3 => (zfx (f7_readSnippet_72) (fun _ _ => none) zFu 0 m3)))))))))
def rm7_readOrder : Room := { frames := 7, cells := 0, slots := 0, locals := 223 }
noncomputable def f7_readOrder_50 (s0 : Int) (s1 : Nat) (μ : zM) : Option (Bool × zM) :=
  zlt (zsI μ s1 1 s0) (fun m3 => zcm (f7_token m3) (fun m4 => zco (f7_isSign 59 m4) (fun r5 => (if (zb r5) = 0 then zcl2 (f7_fails 1 (zI m4 292 15) m4) (fun r6 m5 => (if (zb r6) = 0 then (some (false, m5)) else (some (true, m5)))) else (some (true, m4))))))
noncomputable def f7_readOrder_32 (μ : zM) : Option (Bool × zM) :=
  zco (f7_is 20 μ) (fun r4 => (if (zb r4) = 0 then (f7_readOrder_50 0 (zR μ 292 13) μ) else (f7_readOrder_50 1 (zR μ 292 13) μ)))
noncomputable def f7_readOrder (μ : zM) : Option (Bool × zM) :=
  zcm (f7_token μ) (fun m1 => zco (f7_is 19 m1) (fun r1 => (if (zb r1) = 0 then zco (f7_is 20 m1) (fun r2 => (if (zb r2) = 0 then zcl2 (f7_fails 1 (zI m1 292 15) m1) (fun r3 m2 => (some (r3, m2))) else (f7_readOrder_32 m1))) else (f7_readOrder_32 m1))))
def rm7_readAll : Room := { frames := 8, cells := 0, slots := 0, locals := 243 }
noncomputable def f7_readAll_56 (k4 : zM → Option (Bool × zM)) (s0 : Int) (μ : zM) : Option (Bool × zM) :=
  (if s0 = 0 then (some (false, μ)) else zcm (f7_token μ) (fun m5 => (k4 m5)))
noncomputable def f7_readAll_4 (k4 : zM → Option (Bool × zM)) (μ : zM) : Option (Bool × zM) :=
  (if (zI μ 292 16) ≤ (zI μ 292 15) then (some (true, μ)) else zco (f7_is 17 μ) (fun r1 => (if (zb r1) = 0 then zco (f7_is 18 μ) (fun r2 => (if (zb r2) = 0 then zcl2 (f7_fails 1 (zI μ 292 15) μ) (fun r3 m2 => (f7_readAll_56 k4 (zb r3) m2)) else zcl2 (f7_readOrder μ) (fun r4 m3 => (f7_readAll_56 k4 (zb r4) m3)))) else zcl2 (f7_readSnippet μ) (fun r5 m4 => (f7_readAll_56 k4 (zb r5) m4)))))
noncomputable def f7_readAll (μ : zM) : Option (Bool × zM) :=
  zcm (f7_token μ) (fun m1 => (zfx (f7_readAll_4) (fun _ => none) zFu m1))
def rm7_load : Room := { frames := 9, cells := 0, slots := 0, locals := 264 }
noncomputable def f7_load_77 (k77 : Int → zM → Option (Int × zM)) (x3 : Int) (μ : zM) : Option (Int × zM) :=
  (if (2256 : Int) ≤ x3 then zgd (zin 1 (zln 293)) (zlt (zsI μ 293 (zx 1) (zI μ (zR μ 292 8) 1)) (fun m12 => zlt (zsI m12 292 7 0) (fun m13 => zgd (zin 0 (zln 297) ∧ ((0 : Int) = 0 ∨ (0 : Int) = 1)) (zlt (zsI m13 297 (zx 0) 0) (fun m14 => zgd (zin 1 (zln 297) ∧ ((0 : Int) = 0 ∨ (0 : Int) = 1)) (zlt (zsI m14 297 (zx 1) 0) (fun m15 => (some ((zI m15 (zR m15 292 8) 0), m15))))))))) else zgd (zin x3 (zln 293)) (zlt (zsI μ 293 (zx x3) 0) (fun m16 => zgl (x3 + 1) (fun v1 => (k77 v1 m16)))))
noncomputable def f7_load (μ : zM) : Option (Int × zM) :=
  zlt (zsI μ 292 0 0) (fun m1 => zlt (zsI m1 292 11 0) (fun m2 => zlt (zsI m2 292 12 (-1)) (fun m3 => zlt (zsI m3 292 14 0) (fun m4 => zlt (zsI m4 292 20 0) (fun m5 => zlt (zsI m5 (zR m5 292 13) 0 0) (fun m6 => zlt (zsI m6 (zR m6 292 13) 1 0) (fun m7 => zcl2 (f7_readAll m7) (fun r1 m8 => zlt (zsI m8 292 10 0) (fun m9 => (if (zb r1) = 0 then (some ((-1), m9)) else zlt (zsR m9 292 8 (zR m9 292 13)) (fun m10 => zlt (zsR m10 292 13 (zR m9 292 8)) (fun m11 => (zfx (f7_load_77) (fun _ _ => none) zFu 0 m11)))))))))))))
def rm7_errorCode : Room := { frames := 0, cells := 0, slots := 0, locals := 8 }
noncomputable def f7_errorCode (μ : zM) : Option (Int × zM) :=
  zlt (zsI μ 292 0 0) (fun m1 => (some ((zI m1 292 11), m1)))
def rm7_errorPosition : Room := { frames := 0, cells := 0, slots := 0, locals := 8 }
noncomputable def f7_errorPosition (μ : zM) : Option (Int × zM) :=
  zlt (zsI μ 292 0 0) (fun m1 => (some ((zI m1 292 12), m1)))
def rm7_find : Room := { frames := 1, cells := 0, slots := 0, locals := 34 }
noncomputable def f7_find_58 (x1 : Int) (μ : zM) : Option (Int × zM) :=
  zlt (zsI μ 292 10 0) (fun m2 => (some (x1, m2)))
noncomputable def f7_find_9 (k9 : Int → Int → zM → Option (Int × zM)) (x1 : Int) (x2 : Int) (μ : zM) : Option (Int × zM) :=
  (if (zI μ (zR μ 292 8) 0) ≤ x2 then (f7_find_58 x1 μ) else (if (8 : Int) < (zI μ 292 10) then (f7_find_58 x1 μ) else zco (f7_isName (zR μ 292 8) x2 0 (zI μ 292 10) μ) (fun r1 => (if (zb r1) = 0 then zgl (x2 + 1) (fun v1 => (k9 x1 v1 μ)) else zgl (x2 + 1) (fun v2 => (k9 x2 v2 μ))))))
noncomputable def f7_find (μ : zM) : Option (Int × zM) :=
  zlt (zsI μ 292 0 0) (fun m1 => (zfx (f7_find_9) (fun _ _ _ => none) zFu (-1) 0 m1))
def rm7_of : Room := { frames := 0, cells := 0, slots := 0, locals := 8 }
noncomputable def f7_of (a1 : Int) (μ : zM) : Option Int :=
  zgl (60 * (zI μ 292 21)) (fun v1 => zgl (v1 + a1) (fun v2 => (some v2)))
def rm7_many : Room := { frames := 0, cells := 0, slots := 0, locals := 8 }
noncomputable def f7_many (μ : zM) : Option Int :=
  zgd (zin (zI μ 292 21) (zln ((zR μ 292 8) + 5))) ((some (zI μ ((zR μ 292 8) + 5) (zx (zI μ 292 21)))))
def rm7_isTyped : Room := { frames := 1, cells := 0, slots := 0, locals := 29 }
noncomputable def f7_isTyped (a1 : Int) (μ : zM) : Option Bool :=
  (if (zI μ 292 22) = (-1) then (some false) else zgl ((zI μ 292 22) + 2) (fun v1 => zgd (zin v1 (zln 293)) (zco (f7_has (zI μ 293 (zx v1)) a1) (fun r1 => (if (zb r1) = 0 then (some false) else (some true))))))
def rm7_shows : Room := { frames := 2, cells := 0, slots := 0, locals := 50 }
noncomputable def f7_shows_203 (k42 : Int → zM → Option zM) (x1 : Int) (s0 : Int) (s1 : Int) (μ : zM) : Option zM :=
  zlt (zor s1 s0) (fun v4 => zlt (zsI μ 292 27 v4) (fun m8 => zgl (x1 + 1) (fun v5 => (k42 v5 m8))))
noncomputable def f7_shows_181 (k42 : Int → zM → Option zM) (x1 : Int) (x3 : Int) (s0 : Int) (s1 : Int) (μ : zM) : Option zM :=
  zgd (zin s1 (zln 331)) (zlt (zsI μ 331 (zx s1) s0) (fun m7 => zgd (zin x1 (zln 329)) ((if (zI m7 329 (zx x1)) = 0 then (f7_shows_203 k42 x1 0 (zI m7 292 27) m7) else zlt (zshl 1 x3) (fun v3 => (f7_shows_203 k42 x1 v3 (zI m7 292 27) m7))))))
noncomputable def f7_shows_156 (k42 : Int → zM → Option zM) (x1 : Int) (x3 : Int) (s0 : Int) (s1 : Int) (μ : zM) : Option zM :=
  zgd (zin s1 (zln 330) ∧ (s0 = 0 ∨ s0 = 1)) (zlt (zsI μ 330 (zx s1) s0) (fun m6 => zgd (zin x1 (zln 330)) ((if (zI m6 330 (zx x1)) = 0 then zgd (zin x3 (zln 331)) ((f7_shows_181 k42 x1 x3 (zI m6 331 (zx x3)) x3 m6)) else (f7_shows_181 k42 x1 x3 x1 x3 m6)))))
noncomputable def f7_shows_155 (k42 : Int → zM → Option zM) (x1 : Int) (x3 : Int) (s0 : Int) (μ : zM) : Option zM :=
  (f7_shows_156 k42 x1 x3 0 s0 μ)
noncomputable def f7_shows_106 (k42 : Int → zM → Option zM) (x1 : Int) (x2 : Int) (x3 : Int) (s0 : Int) (s1 : Int) (μ : zM) : Option zM :=
  zgd (zin s1 (zln 329) ∧ (s0 = 0 ∨ s0 = 1)) (zlt (zsI μ 329 (zx s1) s0) (fun m5 => zgd (zin x2 (zln ((zR m5 292 8) + 8))) ((if (zI m5 ((zR m5 292 8) + 8) (zx x2)) = 0 then (f7_shows_155 k42 x1 x3 x1 m5) else zgd (zin x1 (zln 329)) ((if (zI m5 329 (zx x1)) = 0 then (f7_shows_155 k42 x1 x3 x1 m5) else zco (f7_isTyped x3 m5) (fun r3 => (if (zb r3) = 0 then zgd (zin x3 (zln 331)) ((if (zI m5 331 (zx x3)) = (-1) then (f7_shows_156 k42 x1 x3 1 x1 m5) else (f7_shows_155 k42 x1 x3 x1 m5))) else (f7_shows_155 k42 x1 x3 x1 m5)))))))))
noncomputable def f7_shows_42 (k42 : Int → zM → Option zM) (x1 : Int) (μ : zM) : Option zM :=
  zco (f7_many μ) (fun r1 => (if r1 ≤ x1 then (some μ) else zco (f7_of x1 μ) (fun r2 => zgd (zin r2 (zln ((zR μ 292 8) + 6))) (zlt ((zI μ ((zR μ 292 8) + 6) (zx r2)) : Int) (fun v2 => zgd (zin r2 (zln ((zR μ 292 8) + 9))) ((if (zI μ ((zR μ 292 8) + 9) (zx r2)) = (-1) then (f7_shows_106 k42 x1 r2 v2 1 x1 μ) else zgd (zin r2 (zln ((zR μ 292 8) + 9))) (zgd (zin (zI μ ((zR μ 292 8) + 9) (zx r2)) (zln 330)) ((if (zI μ 330 (zx (zI μ ((zR μ 292 8) + 9) (zx r2)))) = 0 then (f7_shows_106 k42 x1 r2 v2 0 x1 μ) else (f7_shows_106 k42 x1 r2 v2 1 x1 μ)))))))))))
noncomputable def f7_shows_2 (k2 : Int → zM → Option zM) (x1 : Int) (μ : zM) : Option zM :=
  (if (10 : Int) ≤ x1 then zlt (zsI μ 292 27 0) (fun m1 => (zfx (f7_shows_42) (fun _ _ => none) zFu 0 m1)) else zgd (zin x1 (zln 331)) (zlt (zsI μ 331 (zx x1) (-1)) (fun m2 => zgd (zin x1 (zln 332)) (zlt (zsI m2 332 (zx x1) (-1)) (fun m3 => zgd (zin x1 (zln 335) ∧ ((0 : Int) = 0 ∨ (0 : Int) = 1)) (zlt (zsI m3 335 (zx x1) 0) (fun m4 => zgl (x1 + 1) (fun v1 => (k2 v1 m4)))))))))
noncomputable def f7_shows (μ : zM) : Option zM :=
  (zfx (f7_shows_2) (fun _ _ => none) zFu 0 μ)
def rm7_lays : Room := { frames := 3, cells := 0, slots := 0, locals := 73 }
noncomputable def f7_lays (a1 : Int) (μ : zM) : Option zM :=
  zgl (413 * a1) (fun v1 => zgl (604 + v1) (fun v2 => zlt (zsI μ 292 22 v2) (fun m1 => zgl ((zI m1 292 22) + 0) (fun v3 => zgd (zin v3 (zln 293)) (zlt (zsI m1 292 21 (zI m1 293 (zx v3))) (fun m2 => zcm (f7_shows m2) (fun m3 => (some m3))))))))
def rm7_laysBare : Room := { frames := 3, cells := 0, slots := 0, locals := 73 }
noncomputable def f7_laysBare (a1 : Int) (μ : zM) : Option zM :=
  zlt (zsI μ 292 22 (-1)) (fun m1 => zlt (zsI m1 292 21 a1) (fun m2 => zcm (f7_shows m2) (fun m3 => (some m3))))
def rm7_sum : Room := { frames := 0, cells := 0, slots := 0, locals := 8 }
noncomputable def f7_sum (a1 : Int) (a2 : Int) : Option Int :=
  zgl (a1 + a2) (fun v1 => (if v1 ≤ 100000 then zgl (a1 + a2) (fun v2 => (some v2)) else (some 100000)))
def rm7_changed : Room := { frames := 0, cells := 0, slots := 0, locals := 8 }
noncomputable def f7_changed_26 (a1 : Int) (a2 : Int) (k26 : Int → Int → Option Int) (x2 : Int) (x3 : Int) : Option Int :=
  (if x3 ≤ 9 then (some x2) else zgl (x2 + 1) (fun v1 => zlt (zdiv x3 10) (fun v2 => (k26 v1 v2))))
noncomputable def f7_changed (a1 : Int) (a2 : Int) : Option Int :=
  (if a1 = 4 then (if a2 ≤ 0 then (some 0) else (some 1)) else (if a1 = 5 then (zfx (f7_changed_26 a1 a2) (fun _ _ => none) zFu 1 a2) else (some a2)))
def rmGA (n : Nat) : Room := { frames := 2 + n, cells := 0, slots := 0, locals := 50 + n * 26 }
noncomputable def f7_valueLength_88 (R_valueLength : (Int → zM → Option (Int × zM))) (R_lengthAt : (Int → zM → Option (Int × zM))) (R_bodyLength : (Int → Int → zM → Option (Int × zM))) (a1 : Int) (μ : zM) : Option (Int × zM) :=
  zgd (zin a1 (zln 332)) ((some ((zI μ 332 (zx a1)), μ)))
noncomputable def f7_valueLength_87 (R_valueLength : (Int → zM → Option (Int × zM))) (R_lengthAt : (Int → zM → Option (Int × zM))) (R_bodyLength : (Int → Int → zM → Option (Int × zM))) (a1 : Int) (s0 : Int) (s1 : Int) (μ : zM) : Option (Int × zM) :=
  zgd (zin s1 (zln 332)) (zlt (zsI μ 332 (zx s1) s0) (fun m2 => (f7_valueLength_88 R_valueLength R_lengthAt R_bodyLength a1 m2)))
noncomputable def f7_valueLength_o (R_valueLength : (Int → zM → Option (Int × zM))) (R_lengthAt : (Int → zM → Option (Int × zM))) (R_bodyLength : (Int → Int → zM → Option (Int × zM))) (a1 : Int) (μ : zM) : Option (Int × zM) :=
  zgd (zin a1 (zln 332)) ((if (zI μ 332 (zx a1)) = (-1) then zgd (zin a1 (zln 331)) (zlt ((zI μ 331 (zx a1)) : Int) (fun v1 => zco (f7_isTyped a1 μ) (fun r1 => (if (zb r1) = 0 then (if v1 = (-1) then (f7_valueLength_87 R_valueLength R_lengthAt R_bodyLength a1 0 a1 μ) else zco (f7_of v1 μ) (fun r2 => zgd (zin r2 (zln ((zR μ 292 8) + 10))) (zgl ((zI μ ((zR μ 292 8) + 10) (zx r2)) + 1) (fun v2 => zco (f7_of v1 μ) (fun r3 => zgd (zin r3 (zln ((zR μ 292 8) + 11))) (zcl2 (R_bodyLength v2 (zI μ ((zR μ 292 8) + 11) (zx r3)) μ) (fun r4 m1 => (f7_valueLength_87 R_valueLength R_lengthAt R_bodyLength a1 r4 a1 m1)))))))) else zgl ((zI μ 292 22) + 3) (fun v3 => zgl (v3 + a1) (fun v4 => zgd (zin v4 (zln 293)) ((f7_valueLength_87 R_valueLength R_lengthAt R_bodyLength a1 (zI μ 293 (zx v4)) a1 μ)))))))) else (f7_valueLength_88 R_valueLength R_lengthAt R_bodyLength a1 μ)))
noncomputable def f7_lengthAt_o (R_valueLength : (Int → zM → Option (Int × zM))) (R_lengthAt : (Int → zM → Option (Int × zM))) (R_bodyLength : (Int → Int → zM → Option (Int × zM))) (a1 : Int) (μ : zM) : Option (Int × zM) :=
  zco (f7_of a1 μ) (fun r1 => zgd (zin r1 (zln ((zR μ 292 8) + 7))) (zco (f7_of a1 μ) (fun r2 => zgd (zin r2 (zln ((zR μ 292 8) + 6))) (zcl2 (R_valueLength (zI μ ((zR μ 292 8) + 6) (zx r2)) μ) (fun r3 m1 => zco (f7_changed (zI μ ((zR μ 292 8) + 7) (zx r1)) r3) (fun r4 => (some (r4, m1))))))))
noncomputable def f7_bodyLength_5 (R_valueLength : (Int → zM → Option (Int × zM))) (R_lengthAt : (Int → zM → Option (Int × zM))) (R_bodyLength : (Int → Int → zM → Option (Int × zM))) (a1 : Int) (a2 : Int) (k5 : Int → Int → zM → Option (Int × zM)) (x3 : Int) (x4 : Int) (μ : zM) : Option (Int × zM) :=
  (if a2 ≤ x4 then (some (x3, μ)) else zgd (zin x4 (zln ((zR μ 292 8) + 4))) (zlt ((zI μ ((zR μ 292 8) + 4) (zx x4)) : Int) (fun v1 => (if v1 < 1000 then zco (f7_sum x3 1) (fun r1 => zgl (x4 + 1) (fun v2 => (k5 r1 v2 μ))) else zgl (v1 - 1000) (fun v3 => zcl2 (R_lengthAt v3 μ) (fun r2 m1 => zco (f7_sum x3 r2) (fun r3 => zco (f7_of v3 m1) (fun r4 => zgd (zin r4 (zln ((zR m1 292 8) + 11))) (zgl ((zI m1 ((zR m1 292 8) + 11) (zx r4)) + 1) (fun v4 => (k5 r3 v4 m1)))))))))))
noncomputable def f7_bodyLength_o (R_valueLength : (Int → zM → Option (Int × zM))) (R_lengthAt : (Int → zM → Option (Int × zM))) (R_bodyLength : (Int → Int → zM → Option (Int × zM))) (a1 : Int) (a2 : Int) (μ : zM) : Option (Int × zM) :=
  (zfx (f7_bodyLength_5 R_valueLength R_lengthAt R_bodyLength a1 a2) (fun _ _ _ => none) zFu 0 a1 μ)
noncomputable def fGA : Nat → (Int → zM → Option (Int × zM)) × (Int → zM → Option (Int × zM)) × (Int → Int → zM → Option (Int × zM))
  | 0 => ((fun _ _ => none), (fun _ _ => none), (fun _ _ _ => none))
  | n + 1 => (f7_valueLength_o (fGA n).1 (fGA n).2.1 (fGA n).2.2, f7_lengthAt_o (fGA n).1 (fGA n).2.1 (fGA n).2.2, f7_bodyLength_o (fGA n).1 (fGA n).2.1 (fGA n).2.2)
noncomputable def f7_valueLength (n : Nat) : (Int → zM → Option (Int × zM)) := (fGA n).1
noncomputable def f7_lengthAt (n : Nat) : (Int → zM → Option (Int × zM)) := (fGA n).2.1
noncomputable def f7_bodyLength (n : Nat) : (Int → Int → zM → Option (Int × zM)) := (fGA n).2.2
def rm7_textLength : Room := { frames := 43, cells := 0, slots := 0, locals := 1116 }
noncomputable def f7_textLength (μ : zM) : Option (Int × zM) :=
  zgd (zin (zI μ 292 21) (zln ((zR μ 292 8) + 3))) (zgl ((zI μ 292 21) + 1) (fun v1 => zgd (zin v1 (zln ((zR μ 292 8) + 3))) (zcl2 (f7_bodyLength 40 (zI μ ((zR μ 292 8) + 3) (zx (zI μ 292 21))) (zI μ ((zR μ 292 8) + 3) (zx v1)) μ) (fun r1 m1 => (some (r1, m1))))))
def rm7_writesNumber : Room := { frames := 0, cells := 0, slots := 0, locals := 8 }
noncomputable def f7_writesNumber_18 (a1 : Int) (k18 : Int → zM → Option zM) (x2 : Int) (μ : zM) : Option zM :=
  (if x2 ≤ 0 then (some μ) else zgd (¬ x2 = 0) (zlt (zdiv a1 x2) (fun v3 => zlt (zrem v3 10) (fun v4 => zgl (48 + v4) (fun v5 => zgd (zin (zI μ 292 29) (zln 333)) (zlt (zsI μ 333 (zx (zI μ 292 29)) v5) (fun m1 => zgl ((zI m1 292 29) + 1) (fun v6 => zlt (zsI m1 292 29 v6) (fun m2 => zlt (zdiv x2 10) (fun v7 => (k18 v7 m2)))))))))))
noncomputable def f7_writesNumber_2 (a1 : Int) (k2 : Int → zM → Option zM) (x2 : Int) (μ : zM) : Option zM :=
  zgd (¬ x2 = 0) (zlt (zdiv a1 x2) (fun v1 => (if v1 ≤ 9 then (zfx (f7_writesNumber_18 a1) (fun _ _ => none) zFu x2 μ) else zgl (x2 * 10) (fun v2 => (k2 v2 μ)))))
noncomputable def f7_writesNumber (a1 : Int) (μ : zM) : Option zM :=
  (zfx (f7_writesNumber_2 a1) (fun _ _ => none) zFu 1 μ)
def rm7_turned : Room := { frames := 1, cells := 0, slots := 0, locals := 30 }
noncomputable def f7_turned_23 (a1 : Int) (a2 : Int) : Option Int :=
  (if a2 = 2 then zco (f7_within a1 65 90) (fun r2 => (if (zb r2) = 0 then (some a1) else zgl (a1 + 32) (fun v2 => (some v2)))) else (some a1))
noncomputable def f7_turned (a1 : Int) (a2 : Int) : Option Int :=
  (if a2 = 1 then zco (f7_within a1 97 122) (fun r1 => (if (zb r1) = 0 then (f7_turned_23 a1 a2) else zgl (a1 - 32) (fun v1 => (some v1)))) else (f7_turned_23 a1 a2))
def rm7_changes : Room := { frames := 2, cells := 0, slots := 0, locals := 51 }
noncomputable def f7_changes_41 (a1 : Int) (a2 : Int) (s0 : Int) (s1 : Int) (μ : zM) : Option zM :=
  zgl (s1 + s0) (fun v12 => zlt (zsI μ 292 29 v12) (fun m6 => (some m6)))
noncomputable def f7_changes_56 (a1 : Int) (a2 : Int) (k56 : Int → Int → zM → Option zM) (x3 : Int) (x4 : Int) (μ : zM) : Option zM :=
  zlt (zdiv x3 2) (fun v3 => (if v3 ≤ x4 then (some μ) else zgl (a2 + x4) (fun v4 => zgd (zin v4 (zln 333)) (zlt ((zI μ 333 (zx v4)) : Int) (fun v5 => zgl (a2 + x4) (fun v6 => zgl ((zI μ 292 29) - 1) (fun v7 => zgl (v7 - x4) (fun v8 => zgd (zin v8 (zln 333)) (zgd (zin v6 (zln 333)) (zlt (zsI μ 333 (zx v6) (zI μ 333 (zx v8))) (fun m4 => zgl ((zI m4 292 29) - 1) (fun v9 => zgl (v9 - x4) (fun v10 => zgd (zin v10 (zln 333)) (zlt (zsI m4 333 (zx v10) v5) (fun m5 => zgl (x4 + 1) (fun v11 => (k56 x3 v11 m5)))))))))))))))))
noncomputable def f7_changes_126 (a1 : Int) (a2 : Int) (k126 : Int → zM → Option zM) (x4 : Int) (μ : zM) : Option zM :=
  (if (zI μ 292 29) ≤ x4 then (some μ) else zgd (zin x4 (zln 333)) (zco (f7_turned (zI μ 333 (zx x4)) a1) (fun r1 => zgd (zin x4 (zln 333)) (zlt (zsI μ 333 (zx x4) r1) (fun m3 => zgl (x4 + 1) (fun v2 => (k126 v2 m3)))))))
noncomputable def f7_changes (a1 : Int) (a2 : Int) (μ : zM) : Option zM :=
  zgl ((zI μ 292 29) - a2) (fun v1 => (if a1 = 5 then zlt (zsI μ 292 29 a2) (fun m1 => zcm (f7_writesNumber v1 m1) (fun m2 => (some m2))) else (if a1 = 4 then (if v1 ≤ 0 then (f7_changes_41 a1 a2 0 a2 μ) else (f7_changes_41 a1 a2 1 a2 μ)) else (if a1 = 3 then (zfx (f7_changes_56 a1 a2) (fun _ _ _ => none) zFu v1 0 μ) else (zfx (f7_changes_126 a1 a2) (fun _ _ => none) zFu a2 μ)))))
def rmGB (n : Nat) : Room := { frames := 43 + n, cells := 0, slots := 0, locals := 1112 + n * 26 }
noncomputable def f7_laysValue_143 (R_laysValue : (Int → zM → Option zM)) (R_writesValue : (Int → zM → Option zM)) (R_writesBody : (Int → Int → zM → Option zM)) (a1 : Int) (k143 : Int → Int → zM → Option zM) (x2 : Int) (x3 : Int) (μ : zM) : Option zM :=
  (if (zI μ 292 29) ≤ x3 then zlt (zsI μ 292 29 x2) (fun m3 => (some m3)) else zgl (410 * a1) (fun v3 => zgl (v3 + x3) (fun v4 => zgl (v4 - x2) (fun v5 => zgd (zin x3 (zln 333)) (zgd (zin v5 (zln 334)) (zlt (zsI μ 334 (zx v5) (zI μ 333 (zx x3))) (fun m4 => zgl (x3 + 1) (fun v6 => (k143 x2 v6 m4)))))))))
noncomputable def f7_laysValue_32 (R_laysValue : (Int → zM → Option zM)) (R_writesValue : (Int → zM → Option zM)) (R_writesBody : (Int → Int → zM → Option zM)) (a1 : Int) (k32 : Int → Int → zM → Option zM) (x2 : Int) (x3 : Int) (μ : zM) : Option zM :=
  zgl ((zI μ 292 22) + 3) (fun v7 => zgl (v7 + a1) (fun v8 => zgd (zin v8 (zln 293)) ((if (zI μ 293 (zx v8)) ≤ x3 then (zfx (f7_laysValue_143 R_laysValue R_writesValue R_writesBody a1) (fun _ _ _ => none) zFu x2 x2 μ) else zgl ((zI μ 292 22) + 13) (fun v9 => zgl (40 * a1) (fun v10 => zgl (v9 + v10) (fun v11 => zgl (v11 + x3) (fun v12 => zgd (zin v12 (zln 293)) (zgd (zin (zI μ 292 29) (zln 333)) (zlt (zsI μ 333 (zx (zI μ 292 29)) (zI μ 293 (zx v12))) (fun m5 => zgl ((zI m5 292 29) + 1) (fun v13 => zlt (zsI m5 292 29 v13) (fun m6 => zgl (x3 + 1) (fun v14 => (k32 x2 v14 m6)))))))))))))))
noncomputable def f7_laysValue_o (R_laysValue : (Int → zM → Option zM)) (R_writesValue : (Int → zM → Option zM)) (R_writesBody : (Int → Int → zM → Option zM)) (a1 : Int) (μ : zM) : Option zM :=
  zgd (zin a1 (zln 335)) ((if (zI μ 335 (zx a1)) = 0 then zgd (zin a1 (zln 335) ∧ ((1 : Int) = 0 ∨ (1 : Int) = 1)) (zlt (zsI μ 335 (zx a1) 1) (fun m1 => zlt ((zI m1 292 29) : Int) (fun v1 => zco (f7_isTyped a1 m1) (fun r1 => (if (zb r1) = 0 then zgd (zin a1 (zln 331)) ((if (zI m1 331 (zx a1)) = (-1) then (zfx (f7_laysValue_143 R_laysValue R_writesValue R_writesBody a1) (fun _ _ _ => none) zFu v1 v1 m1) else zgd (zin a1 (zln 331)) (zco (f7_of (zI m1 331 (zx a1)) m1) (fun r2 => zgd (zin r2 (zln ((zR m1 292 8) + 10))) (zgl ((zI m1 ((zR m1 292 8) + 10) (zx r2)) + 1) (fun v2 => zgd (zin r2 (zln ((zR m1 292 8) + 11))) (zcm (R_writesBody v2 (zI m1 ((zR m1 292 8) + 11) (zx r2)) m1) (fun m2 => (zfx (f7_laysValue_143 R_laysValue R_writesValue R_writesBody a1) (fun _ _ _ => none) zFu v1 v1 m2))))))))) else (zfx (f7_laysValue_32 R_laysValue R_writesValue R_writesBody a1) (fun _ _ _ => none) zFu v1 0 m1)))))) else (some μ)))
noncomputable def f7_writesValue_13 (R_laysValue : (Int → zM → Option zM)) (R_writesValue : (Int → zM → Option zM)) (R_writesBody : (Int → Int → zM → Option zM)) (a1 : Int) (k13 : Int → Int → zM → Option zM) (x2 : Int) (x3 : Int) (μ : zM) : Option zM :=
  (if x2 ≤ x3 then (some μ) else zgl (410 * a1) (fun v1 => zgl (v1 + x3) (fun v2 => zgd (zin v2 (zln 334)) (zgd (zin (zI μ 292 29) (zln 333)) (zlt (zsI μ 333 (zx (zI μ 292 29)) (zI μ 334 (zx v2))) (fun m3 => zgl ((zI m3 292 29) + 1) (fun v3 => zlt (zsI m3 292 29 v3) (fun m4 => zgl (x3 + 1) (fun v4 => (k13 x2 v4 m4))))))))))
noncomputable def f7_writesValue_o (R_laysValue : (Int → zM → Option zM)) (R_writesValue : (Int → zM → Option zM)) (R_writesBody : (Int → Int → zM → Option zM)) (a1 : Int) (μ : zM) : Option zM :=
  zcm (R_laysValue a1 μ) (fun m1 => zcl2 (f7_valueLength 40 a1 m1) (fun r1 m2 => (zfx (f7_writesValue_13 R_laysValue R_writesValue R_writesBody a1) (fun _ _ _ => none) zFu r1 0 m2)))
noncomputable def f7_writesBody_2 (R_laysValue : (Int → zM → Option zM)) (R_writesValue : (Int → zM → Option zM)) (R_writesBody : (Int → Int → zM → Option zM)) (a1 : Int) (a2 : Int) (k2 : Int → zM → Option zM) (x3 : Int) (μ : zM) : Option zM :=
  (if a2 ≤ x3 then (some μ) else zgd (zin x3 (zln ((zR μ 292 8) + 4))) (zlt ((zI μ ((zR μ 292 8) + 4) (zx x3)) : Int) (fun v1 => (if v1 < 1000 then zgd (zin (zI μ 292 29) (zln 333)) (zlt (zsI μ 333 (zx (zI μ 292 29)) v1) (fun m1 => zgl ((zI m1 292 29) + 1) (fun v2 => zlt (zsI m1 292 29 v2) (fun m2 => zgl (x3 + 1) (fun v3 => (k2 v3 m2)))))) else zgl (v1 - 1000) (fun v4 => zco (f7_of v4 μ) (fun r1 => zlt ((zI μ 292 29) : Int) (fun v5 => zgd (zin r1 (zln ((zR μ 292 8) + 6))) (zcm (R_writesValue (zI μ ((zR μ 292 8) + 6) (zx r1)) μ) (fun m3 => zgd (zin r1 (zln ((zR m3 292 8) + 7))) (zcm (f7_changes (zI m3 ((zR m3 292 8) + 7) (zx r1)) v5 m3) (fun m4 => zgd (zin r1 (zln ((zR m4 292 8) + 11))) (zgl ((zI m4 ((zR m4 292 8) + 11) (zx r1)) + 1) (fun v6 => (k2 v6 m4))))))))))))))
noncomputable def f7_writesBody_o (R_laysValue : (Int → zM → Option zM)) (R_writesValue : (Int → zM → Option zM)) (R_writesBody : (Int → Int → zM → Option zM)) (a1 : Int) (a2 : Int) (μ : zM) : Option zM :=
  (zfx (f7_writesBody_2 R_laysValue R_writesValue R_writesBody a1 a2) (fun _ _ => none) zFu a1 μ)
noncomputable def fGB : Nat → (Int → zM → Option zM) × (Int → zM → Option zM) × (Int → Int → zM → Option zM)
  | 0 => ((fun _ _ => none), (fun _ _ => none), (fun _ _ _ => none))
  | n + 1 => (f7_laysValue_o (fGB n).1 (fGB n).2.1 (fGB n).2.2, f7_writesValue_o (fGB n).1 (fGB n).2.1 (fGB n).2.2, f7_writesBody_o (fGB n).1 (fGB n).2.1 (fGB n).2.2)
noncomputable def f7_laysValue (n : Nat) : (Int → zM → Option zM) := (fGB n).1
noncomputable def f7_writesValue (n : Nat) : (Int → zM → Option zM) := (fGB n).2.1
noncomputable def f7_writesBody (n : Nat) : (Int → Int → zM → Option zM) := (fGB n).2.2
def rm7_writesText : Room := { frames := 84, cells := 0, slots := 0, locals := 2178 }
noncomputable def f7_writesText (μ : zM) : Option zM :=
  zlt (zsI μ 292 29 0) (fun m1 => zgd (zin (zI m1 292 21) (zln ((zR m1 292 8) + 3))) (zgl ((zI m1 292 21) + 1) (fun v1 => zgd (zin v1 (zln ((zR m1 292 8) + 3))) (zcm (f7_writesBody 40 (zI m1 ((zR m1 292 8) + 3) (zx (zI m1 292 21))) (zI m1 ((zR m1 292 8) + 3) (zx v1)) m1) (fun m2 => (some m2))))))
def rm7_firstShown : Room := { frames := 1, cells := 0, slots := 0, locals := 29 }
noncomputable def f7_firstShown_2 (a1 : Int) (μ : zM) (k2 : Int → Option Int) (x2 : Int) : Option Int :=
  zco (f7_many μ) (fun r1 => (if r1 ≤ x2 then (some (-1)) else zgd (zin x2 (zln 329)) ((if (zI μ 329 (zx x2)) = 0 then zgl (x2 + 1) (fun v1 => (k2 v1)) else zco (f7_of x2 μ) (fun r2 => zgd (zin r2 (zln ((zR μ 292 8) + 6))) ((if (zI μ ((zR μ 292 8) + 6) (zx r2)) = a1 then (some x2) else zgl (x2 + 1) (fun v2 => (k2 v2)))))))))
noncomputable def f7_firstShown (a1 : Int) (μ : zM) : Option Int :=
  (zfx (f7_firstShown_2 a1 μ) (fun _ => none) zFu 0)
def rm7_keyOf : Room := { frames := 2, cells := 0, slots := 0, locals := 51 }
noncomputable def f7_keyOf (a1 : Int) (μ : zM) : Option Int :=
  (if a1 = 0 then (some 1000) else zgd (zin 1 (zln 293)) ((if (zI μ 293 (zx 1)) = 1 then zco (f7_firstShown a1 μ) (fun r1 => (some r1)) else (some a1))))
def rm7_laysLeaving : Room := { frames := 3, cells := 0, slots := 0, locals := 72 }
noncomputable def f7_laysLeaving_76 (k7 : Int → zM → Option zM) (x1 : Int) (x2 : Int) (μ : zM) : Option zM :=
  zgd (zin x2 (zln 336)) (zlt (zsI μ 336 (zx x2) x1) (fun m3 => zgl ((zI m3 292 33) + 1) (fun v6 => zlt (zsI m3 292 33 v6) (fun m4 => zgl (x1 + 1) (fun v7 => (k7 v7 m4))))))
noncomputable def f7_laysLeaving_32 (k7 : Int → zM → Option zM) (k32 : Int → Int → zM → Option zM) (x1 : Int) (x2 : Int) (μ : zM) : Option zM :=
  (if x2 ≤ 0 then (f7_laysLeaving_76 k7 x1 x2 μ) else zgl (x2 - 1) (fun v3 => zgd (zin v3 (zln 336)) (zco (f7_keyOf (zI μ 336 (zx v3)) μ) (fun r2 => zco (f7_keyOf x1 μ) (fun r3 => (if r2 ≤ r3 then (f7_laysLeaving_76 k7 x1 x2 μ) else zgl (x2 - 1) (fun v4 => zgd (zin v4 (zln 336)) (zgd (zin x2 (zln 336)) (zlt (zsI μ 336 (zx x2) (zI μ 336 (zx v4))) (fun m2 => zgl (x2 + (-1)) (fun v5 => (k32 x1 v5 m2))))))))))))
noncomputable def f7_laysLeaving_7 (k7 : Int → zM → Option zM) (x1 : Int) (μ : zM) : Option zM :=
  (if (10 : Int) ≤ x1 then (some μ) else zco (f7_has (zI μ 292 27) x1) (fun r1 => (if (zb r1) = 0 then zgl (x1 + 1) (fun v2 => (k7 v2 μ)) else zlt ((zI μ 292 33) : Int) (fun v1 => (zfx (f7_laysLeaving_32 k7) (fun _ _ _ => none) zFu x1 v1 μ)))))
noncomputable def f7_laysLeaving (μ : zM) : Option zM :=
  zlt (zsI μ 292 33 0) (fun m1 => (zfx (f7_laysLeaving_7) (fun _ _ => none) zFu 0 m1))
def rm7_placeOf : Room := { frames := 0, cells := 0, slots := 0, locals := 8 }
noncomputable def f7_placeOf_2 (a1 : Int) (μ : zM) (k2 : Int → Option Int) (x2 : Int) : Option Int :=
  (if (zI μ 292 33) ≤ x2 then (some (-1)) else zgd (zin x2 (zln 336)) ((if (zI μ 336 (zx x2)) = a1 then (some x2) else zgl (x2 + 1) (fun v1 => (k2 v1)))))
noncomputable def f7_placeOf (a1 : Int) (μ : zM) : Option Int :=
  (zfx (f7_placeOf_2 a1 μ) (fun _ => none) zFu 0)
def rm7_size : Room := { frames := 1, cells := 0, slots := 0, locals := 30 }
noncomputable def f7_size_20 (a1 : Int) (s0 : Int) (μ : zM) : Option (Int × zM) :=
  zcl2 (f7_throwsIf s0 1 μ) (fun r2 m2 => (if (zb r2) = 0 then (if a1 = 0 then (some ((zI m2 (zR m2 292 8) 0), m2)) else (if a1 = 1 then zgd (zin 0 (zln 293)) ((some ((zI m2 293 (zx 0)), m2))) else (if a1 = 2 then zgd (zin 2 (zln 293)) ((some ((zI m2 293 (zx 2)), m2))) else (if a1 = 3 then zgd (zin 1 (zln 293)) ((some ((zI m2 293 (zx 1)), m2))) else (if a1 = 4 then (some ((zI m2 292 10), m2)) else (some ((zI m2 292 7), m2))))))) else (some (0, m2))))
noncomputable def f7_size (a1 : Int) (μ : zM) : Option (Int × zM) :=
  zlt (zsI μ 292 0 0) (fun m1 => zco (f7_within a1 0 5) (fun r1 => (if (zb r1) = 0 then (f7_size_20 a1 1 m1) else (f7_size_20 a1 0 m1))))
def rm7_fieldsOf : Room := { frames := 0, cells := 0, slots := 0, locals := 8 }
noncomputable def f7_fieldsOf_4 (a1 : Int) (μ : zM) (k4 : Int → Int → Option Int) (x2 : Int) (x3 : Int) : Option Int :=
  zgd (zin a1 (zln ((zR μ 292 8) + 5))) ((if (zI μ ((zR μ 292 8) + 5) (zx a1)) ≤ x3 then (some x2) else zgl (60 * a1) (fun v1 => zgl (v1 + x3) (fun v2 => zgd (zin v2 (zln ((zR μ 292 8) + 6))) (zlt (zshl 1 (zI μ ((zR μ 292 8) + 6) (zx v2))) (fun v3 => zlt (zor x2 v3) (fun v4 => zgl (x3 + 1) (fun v5 => (k4 v4 v5)))))))))
noncomputable def f7_fieldsOf (a1 : Int) (μ : zM) : Option Int :=
  (zfx (f7_fieldsOf_4 a1 μ) (fun _ _ => none) zFu 0 0)
def rm7_deepest : Room := { frames := 1, cells := 0, slots := 0, locals := 23 }
noncomputable def f7_deepest_4 (a1 : Int) (μ : zM) (k4 : Int → Int → Option Int) (x2 : Int) (x3 : Int) : Option Int :=
  zgd (zin a1 (zln ((zR μ 292 8) + 5))) ((if (zI μ ((zR μ 292 8) + 5) (zx a1)) ≤ x3 then (some x2) else zgl (60 * a1) (fun v1 => zgl (v1 + x3) (fun v2 => zgd (zin v2 (zln ((zR μ 292 8) + 12))) (zlt (max x2 (zI μ ((zR μ 292 8) + 12) (zx v2))) (fun v3 => zgl (x3 + 1) (fun v4 => (k4 v3 v4))))))))
noncomputable def f7_deepest (a1 : Int) (μ : zM) : Option Int :=
  (zfx (f7_deepest_4 a1 μ) (fun _ _ => none) zFu 0 0)
def rm7_defaults : Room := { frames := 0, cells := 0, slots := 0, locals := 8 }
noncomputable def f7_defaults_4 (a1 : Int) (μ : zM) (k4 : Int → Int → Option Int) (x2 : Int) (x3 : Int) : Option Int :=
  zgd (zin a1 (zln ((zR μ 292 8) + 5))) ((if (zI μ ((zR μ 292 8) + 5) (zx a1)) ≤ x3 then (some x2) else zgl (60 * a1) (fun v1 => zgl (v1 + x3) (fun v2 => zgd (zin v2 (zln ((zR μ 292 8) + 8))) ((if (zI μ ((zR μ 292 8) + 8) (zx v2)) = 0 then zgl (x2 + 0) (fun v3 => zgl (x3 + 1) (fun v4 => (k4 v3 v4))) else zgl (x2 + 1) (fun v5 => zgl (x3 + 1) (fun v6 => (k4 v5 v6)))))))))
noncomputable def f7_defaults (a1 : Int) (μ : zM) : Option Int :=
  (zfx (f7_defaults_4 a1 μ) (fun _ _ => none) zFu 0 0)
def rm7_snippet : Room := { frames := 2, cells := 0, slots := 0, locals := 51 }
noncomputable def f7_snippet_28 (a1 : Int) (a2 : Int) (s0 : Int) (μ : zM) : Option (Int × zM) :=
  zcl2 (f7_throwsIf s0 2 μ) (fun r3 m3 => (if (zb r3) = 0 then (if a2 = 0 then zgd (zin a1 (zln ((zR m3 292 8) + 2))) ((some ((zI m3 ((zR m3 292 8) + 2) (zx a1)), m3))) else (if a2 = 1 then zgd (zin a1 (zln ((zR m3 292 8) + 5))) ((some ((zI m3 ((zR m3 292 8) + 5) (zx a1)), m3))) else (if a2 = 2 then zco (f7_fieldsOf a1 m3) (fun r4 => (some (r4, m3))) else (if a2 = 3 then zco (f7_deepest a1 m3) (fun r5 => (some (r5, m3))) else (if a2 = 4 then zco (f7_defaults a1 m3) (fun r6 => (some (r6, m3))) else zgl (a1 + 1) (fun v1 => zgd (zin v1 (zln ((zR m3 292 8) + 3))) (zgd (zin a1 (zln ((zR m3 292 8) + 3))) (zgl ((zI m3 ((zR m3 292 8) + 3) (zx v1)) - (zI m3 ((zR m3 292 8) + 3) (zx a1))) (fun v2 => zgd (zin a1 (zln ((zR m3 292 8) + 5))) (zgl (v2 - (zI m3 ((zR m3 292 8) + 5) (zx a1))) (fun v3 => zco (f7_defaults a1 m3) (fun r7 => zgl (v3 - r7) (fun v4 => (some (v4, m3))))))))))))))) else (some (0, m3))))
noncomputable def f7_snippet (a1 : Int) (a2 : Int) (μ : zM) : Option (Int × zM) :=
  zlt (zsI μ 292 0 0) (fun m1 => zcl2 (f7_noSnippet a1 m1) (fun r1 m2 => (if (zb r1) = 0 then zco (f7_within a2 0 5) (fun r2 => (if (zb r2) = 0 then (f7_snippet_28 a1 a2 1 m2) else (f7_snippet_28 a1 a2 0 m2))) else (some (0, m2)))))
def rm7_letter : Room := { frames := 2, cells := 0, slots := 0, locals := 51 }
noncomputable def f7_letter (a1 : Int) (a2 : Int) (μ : zM) : Option (Int × zM) :=
  zlt (zsI μ 292 0 0) (fun m1 => zcl2 (f7_noSnippet a1 m1) (fun r1 m2 => (if (zb r1) = 0 then zgd (zin a1 (zln ((zR m2 292 8) + 2))) (zgl ((zI m2 ((zR m2 292 8) + 2) (zx a1)) - 1) (fun v1 => zco (f7_within a2 0 v1) (fun r2 => (if (zb r2) = 0 then (some ((-1), m2)) else zgl (8 * a1) (fun v2 => zgl (v2 + a2) (fun v3 => zgd (zin v3 (zln ((zR m2 292 8) + 1))) ((some ((zI m2 ((zR m2 292 8) + 1) (zx v3)), m2))))))))) else (some (0, m2)))))
def rm7_depends : Room := { frames := 2, cells := 0, slots := 0, locals := 51 }
noncomputable def f7_depends_26 (a1 : Int) (a2 : Int) (s0 : Int) (μ : zM) : Option (Int × zM) :=
  zcl2 (f7_throwsIf s0 1 μ) (fun r3 m3 => (if (zb r3) = 0 then zgl (10 * a1) (fun v1 => zgl (v1 + a2) (fun v2 => zgd (zin v2 (zln ((zR m3 292 8) + 13))) ((some ((zI m3 ((zR m3 292 8) + 13) (zx v2)), m3))))) else (some (0, m3))))
noncomputable def f7_depends (a1 : Int) (a2 : Int) (μ : zM) : Option (Int × zM) :=
  zlt (zsI μ 292 0 0) (fun m1 => zcl2 (f7_noSnippet a1 m1) (fun r1 m2 => (if (zb r1) = 0 then zco (f7_isField a2) (fun r2 => (if (zb r2) = 0 then (f7_depends_26 a1 a2 1 m2) else (f7_depends_26 a1 a2 0 m2))) else (some (0, m2)))))
def rm7_document : Room := { frames := 1, cells := 0, slots := 0, locals := 30 }
noncomputable def f7_document_27 (a1 : Int) (s0 : Int) (μ : zM) : Option (Int × zM) :=
  zcl2 (f7_throwsIf s0 1 μ) (fun r2 m2 => (if (zb r2) = 0 then zgl (4 + a1) (fun v2 => zgd (zin v2 (zln 293)) ((some ((zI m2 293 (zx v2)), m2)))) else (some (0, m2))))
noncomputable def f7_document (a1 : Int) (μ : zM) : Option (Int × zM) :=
  zlt (zsI μ 292 0 0) (fun m1 => zgd (zin 2 (zln 293)) (zgl ((zI m1 293 (zx 2)) - 1) (fun v1 => zco (f7_within a1 0 v1) (fun r1 => (if (zb r1) = 0 then (f7_document_27 a1 1 m1) else (f7_document_27 a1 0 m1))))))
def rm7_session : Room := { frames := 44, cells := 0, slots := 0, locals := 1136 }
noncomputable def f7_session_49 (a1 : Int) (a2 : Int) (s0 : Int) (μ : zM) : Option (Int × zM) :=
  zcl2 (f7_throwsIf s0 2 μ) (fun r4 m3 => (if (zb r4) = 0 then zcm (f7_lays a1 m3) (fun m4 => (if (3 : Int) ≤ a2 then (if a2 = 3 then zcl2 (f7_textLength m4) (fun r5 m5 => (some (r5, m5))) else (some ((zI m4 292 27), m4))) else zgl ((zI m4 292 22) + a2) (fun v2 => zgd (zin v2 (zln 293)) ((some ((zI m4 293 (zx v2)), m4)))))) else (some (0, m3))))
noncomputable def f7_session_27 (a1 : Int) (a2 : Int) (s0 : Int) (μ : zM) : Option (Int × zM) :=
  zcl2 (f7_throwsIf s0 1 μ) (fun r2 m2 => (if (zb r2) = 0 then zco (f7_within a2 0 4) (fun r3 => (if (zb r3) = 0 then (f7_session_49 a1 a2 1 m2) else (f7_session_49 a1 a2 0 m2))) else (some (0, m2))))
noncomputable def f7_session (a1 : Int) (a2 : Int) (μ : zM) : Option (Int × zM) :=
  zlt (zsI μ 292 0 0) (fun m1 => zgd (zin 0 (zln 293)) (zgl ((zI m1 293 (zx 0)) - 1) (fun v1 => zco (f7_within a1 0 v1) (fun r1 => (if (zb r1) = 0 then (f7_session_27 a1 a2 1 m1) else (f7_session_27 a1 a2 0 m1))))))
def rm7_account : Room := { frames := 1, cells := 0, slots := 0, locals := 30 }
noncomputable def f7_account_21 (a1 : Int) (s0 : Int) (μ : zM) : Option (Int × zM) :=
  zcl2 (f7_throwsIf s0 1 μ) (fun r2 m2 => (if (zb r2) = 0 then zgd (zin a1 (zln 298)) ((some ((zI m2 298 (zx a1)), m2))) else (some (0, m2))))
noncomputable def f7_account (a1 : Int) (μ : zM) : Option (Int × zM) :=
  zlt (zsI μ 292 0 0) (fun m1 => zco (f7_within a1 0 9) (fun r1 => (if (zb r1) = 0 then (f7_account_21 a1 1 m1) else (f7_account_21 a1 0 m1))))
def rm7_noSession : Room := { frames := 4, cells := 0, slots := 0, locals := 94 }
noncomputable def f7_noSession_15 (a1 : Int) (s0 : Int) (μ : zM) : Option (Bool × zM) :=
  zcl2 (f7_throwsIf s0 a1 μ) (fun r1 m1 => (if (zb r1) = 0 then zgd (zin 0 (zln 293)) (zgl ((zI m1 293 (zx 0)) - 1) (fun v1 => zcm (f7_lays v1 m1) (fun m2 => (some (false, m2))))) else (some (true, m1))))
noncomputable def f7_noSession (a1 : Int) (μ : zM) : Option (Bool × zM) :=
  zgd (zin 0 (zln 293)) ((if (zI μ 293 (zx 0)) = 0 then (f7_noSession_15 a1 1 μ) else (f7_noSession_15 a1 0 μ)))
def rm7_shownOf : Room := { frames := 1, cells := 0, slots := 0, locals := 29 }
noncomputable def f7_shownOf_43 (a1 : Int) (μ : zM) (k4 : Int → Int → Option Int) (x3 : Int) (s0 : Int) : Option Int :=
  zgl (s0 + 0) (fun v3 => zgl (x3 + 1) (fun v4 => (k4 v3 v4)))
noncomputable def f7_shownOf_4 (a1 : Int) (μ : zM) (k4 : Int → Int → Option Int) (x2 : Int) (x3 : Int) : Option Int :=
  zco (f7_many μ) (fun r1 => (if r1 ≤ x3 then (some x2) else zgd (zin x3 (zln 329)) ((if (zI μ 329 (zx x3)) = 0 then (f7_shownOf_43 a1 μ k4 x3 x2) else zco (f7_of x3 μ) (fun r2 => zgd (zin r2 (zln ((zR μ 292 8) + 6))) ((if (zI μ ((zR μ 292 8) + 6) (zx r2)) = a1 then zgl (x2 + 1) (fun v1 => zgl (x3 + 1) (fun v2 => (k4 v1 v2))) else (f7_shownOf_43 a1 μ k4 x3 x2))))))))
noncomputable def f7_shownOf (a1 : Int) (μ : zM) : Option Int :=
  (zfx (f7_shownOf_4 a1 μ) (fun _ _ => none) zFu 0 0)
def rm7_allOf : Room := { frames := 1, cells := 0, slots := 0, locals := 29 }
noncomputable def f7_allOf_4 (a1 : Int) (μ : zM) (k4 : Int → Int → Option Int) (x2 : Int) (x3 : Int) : Option Int :=
  zco (f7_many μ) (fun r1 => (if r1 ≤ x3 then (some x2) else zco (f7_of x3 μ) (fun r2 => zgd (zin r2 (zln ((zR μ 292 8) + 6))) ((if (zI μ ((zR μ 292 8) + 6) (zx r2)) = a1 then zgl (x2 + 1) (fun v3 => zgl (x3 + 1) (fun v4 => (k4 v3 v4))) else zgl (x2 + 0) (fun v1 => zgl (x3 + 1) (fun v2 => (k4 v1 v2))))))))
noncomputable def f7_allOf (a1 : Int) (μ : zM) : Option Int :=
  (zfx (f7_allOf_4 a1 μ) (fun _ _ => none) zFu 0 0)
def rm7_field : Room := { frames := 43, cells := 0, slots := 0, locals := 1112 }
noncomputable def f7_field_41 (a1 : Int) (a2 : Int) (s0 : Int) (μ : zM) : Option (Int × zM) :=
  zcl2 (f7_throwsIf s0 2 μ) (fun r4 m3 => (if (zb r4) = 0 then zcl2 (f7_noSession 3 m3) (fun r5 m4 => (if (zb r5) = 0 then zcm (f7_laysLeaving m4) (fun m5 => (if a2 = 0 then zco (f7_has (zI m5 292 27) a1) (fun r6 => (if (zb r6) = 0 then (some (0, m5)) else (some (1, m5)))) else (if a2 = 1 then zco (f7_isTyped a1 m5) (fun r7 => (if (zb r7) = 0 then (some (0, m5)) else (some (1, m5)))) else (if a2 = 2 then zco (f7_shownOf a1 m5) (fun r8 => (some (r8, m5))) else (if a2 = 3 then zgd (zin a1 (zln 331)) ((some ((zI m5 331 (zx a1)), m5))) else (if a2 = 4 then zco (f7_placeOf a1 m5) (fun r9 => (some (r9, m5))) else (if a2 = 5 then zcl2 (f7_valueLength 40 a1 m5) (fun r10 m6 => (some (r10, m6))) else zco (f7_allOf a1 m5) (fun r11 => (some (r11, m5)))))))))) else (some (0, m4)))) else (some (0, m3))))
noncomputable def f7_field_18 (a1 : Int) (a2 : Int) (s0 : Int) (μ : zM) : Option (Int × zM) :=
  zcl2 (f7_throwsIf s0 1 μ) (fun r2 m2 => (if (zb r2) = 0 then zco (f7_within a2 0 6) (fun r3 => (if (zb r3) = 0 then (f7_field_41 a1 a2 1 m2) else (f7_field_41 a1 a2 0 m2))) else (some (0, m2))))
noncomputable def f7_field (a1 : Int) (a2 : Int) (μ : zM) : Option (Int × zM) :=
  zlt (zsI μ 292 0 0) (fun m1 => zco (f7_isField a1) (fun r1 => (if (zb r1) = 0 then (f7_field_18 a1 a2 1 m1) else (f7_field_18 a1 a2 0 m1))))
def rm7_value : Room := { frames := 84, cells := 0, slots := 0, locals := 2175 }
noncomputable def f7_value_18 (a1 : Int) (a2 : Int) (s0 : Int) (μ : zM) : Option (Int × zM) :=
  zcl2 (f7_throwsIf s0 1 μ) (fun r2 m2 => (if (zb r2) = 0 then zcl2 (f7_noSession 2 m2) (fun r3 m3 => (if (zb r3) = 0 then zlt (zsI m3 292 29 0) (fun m4 => zcm (f7_writesValue 40 a1 m4) (fun m5 => zgl ((zI m5 292 29) - 1) (fun v1 => zco (f7_within a2 0 v1) (fun r4 => (if (zb r4) = 0 then (some ((-1), m5)) else zgd (zin a2 (zln 333)) ((some ((zI m5 333 (zx a2)), m5)))))))) else (some (0, m3)))) else (some (0, m2))))
noncomputable def f7_value (a1 : Int) (a2 : Int) (μ : zM) : Option (Int × zM) :=
  zlt (zsI μ 292 0 0) (fun m1 => zco (f7_isField a1) (fun r1 => (if (zb r1) = 0 then (f7_value_18 a1 a2 1 m1) else (f7_value_18 a1 a2 0 m1))))
def rmGC (n : Nat) : Room := { frames := 43 + n, cells := 0, slots := 0, locals := 1111 + n * 28 }
noncomputable def f7_laysBegins_85 (R_laysBegins : (Int → Int → Int → zM → Option (Int × zM))) (a1 : Int) (a2 : Int) (a3 : Int) (k6 : Int → Int → zM → Option (Int × zM)) (x4 : Int) (x7 : Int) (μ : zM) : Option (Int × zM) :=
  zcl2 (f7_lengthAt 40 x7 μ) (fun r3 m3 => zgl (x4 + r3) (fun v6 => zco (f7_of x7 m3) (fun r4 => zgd (zin r4 (zln ((zR m3 292 8) + 11))) (zgl ((zI m3 ((zR m3 292 8) + 11) (zx r4)) + 1) (fun v7 => (k6 v6 v7 m3))))))
noncomputable def f7_laysBegins_6 (R_laysBegins : (Int → Int → Int → zM → Option (Int × zM))) (a1 : Int) (a2 : Int) (a3 : Int) (k6 : Int → Int → zM → Option (Int × zM)) (x4 : Int) (x5 : Int) (μ : zM) : Option (Int × zM) :=
  (if a2 ≤ x5 then (some (x4, μ)) else zgd (zin x5 (zln ((zR μ 292 8) + 4))) (zlt ((zI μ ((zR μ 292 8) + 4) (zx x5)) : Int) (fun v1 => (if v1 < 1000 then zgl (x4 + 1) (fun v2 => zgl (x5 + 1) (fun v3 => (k6 v2 v3 μ))) else zgl (v1 - 1000) (fun v4 => zgd (zin v4 (zln 337)) (zlt (zsI μ 337 (zx v4) x4) (fun m1 => zgd (zin v4 (zln 330)) ((if (zI m1 330 (zx v4)) = 0 then (f7_laysBegins_85 R_laysBegins a1 a2 a3 k6 x4 v4 m1) else zgl (x5 + 1) (fun v5 => zco (f7_of v4 m1) (fun r1 => zgd (zin r1 (zln ((zR m1 292 8) + 11))) (zcl2 (R_laysBegins v5 (zI m1 ((zR m1 292 8) + 11) (zx r1)) x4 m1) (fun r2 m2 => (f7_laysBegins_85 R_laysBegins a1 a2 a3 k6 x4 v4 m2))))))))))))))
noncomputable def f7_laysBegins_o (R_laysBegins : (Int → Int → Int → zM → Option (Int × zM))) (a1 : Int) (a2 : Int) (a3 : Int) (μ : zM) : Option (Int × zM) :=
  (zfx (f7_laysBegins_6 R_laysBegins a1 a2 a3) (fun _ _ _ => none) zFu a3 a1 μ)
noncomputable def fGC : Nat → (Int → Int → Int → zM → Option (Int × zM))
  | 0 => ((fun _ _ _ _ => none))
  | n + 1 => (f7_laysBegins_o (fGC n))
noncomputable def f7_laysBegins (n : Nat) : (Int → Int → Int → zM → Option (Int × zM)) := (fGC n)
def rm7_beginOf : Room := { frames := 84, cells := 0, slots := 0, locals := 2259 }
noncomputable def f7_beginOf_2 (a1 : Int) (k2 : Int → zM → Option (Int × zM)) (x2 : Int) (μ : zM) : Option (Int × zM) :=
  zco (f7_many μ) (fun r1 => (if r1 ≤ x2 then zgd (zin (zI μ 292 21) (zln ((zR μ 292 8) + 3))) (zgl ((zI μ 292 21) + 1) (fun v1 => zgd (zin v1 (zln ((zR μ 292 8) + 3))) (zcl2 (f7_laysBegins 40 (zI μ ((zR μ 292 8) + 3) (zx (zI μ 292 21))) (zI μ ((zR μ 292 8) + 3) (zx v1)) 0 μ) (fun r2 m1 => zgd (zin a1 (zln 337)) ((some ((zI m1 337 (zx a1)), m1))))))) else zgd (zin x2 (zln 337)) (zlt (zsI μ 337 (zx x2) (-1)) (fun m2 => zgl (x2 + 1) (fun v2 => (k2 v2 m2))))))
noncomputable def f7_beginOf (a1 : Int) (μ : zM) : Option (Int × zM) :=
  (zfx (f7_beginOf_2 a1) (fun _ _ => none) zFu 0 μ)
def rm7_occurrence : Room := { frames := 85, cells := 0, slots := 0, locals := 2281 }
noncomputable def f7_occurrence_56 (a1 : Int) (a2 : Int) (s0 : Int) (μ : zM) : Option (Int × zM) :=
  zcl2 (f7_throwsIf s0 3 μ) (fun r6 m4 => (if (zb r6) = 0 then zco (f7_of a1 m4) (fun r7 => (if a2 = 0 then zgd (zin r7 (zln ((zR m4 292 8) + 6))) ((some ((zI m4 ((zR m4 292 8) + 6) (zx r7)), m4))) else (if a2 = 1 then zgd (zin r7 (zln ((zR m4 292 8) + 7))) ((some ((zI m4 ((zR m4 292 8) + 7) (zx r7)), m4))) else (if a2 = 2 then zgd (zin r7 (zln ((zR m4 292 8) + 8))) ((if (zI m4 ((zR m4 292 8) + 8) (zx r7)) = 0 then (some (0, m4)) else (some (1, m4)))) else (if a2 = 3 then zgd (zin r7 (zln ((zR m4 292 8) + 9))) ((some ((zI m4 ((zR m4 292 8) + 9) (zx r7)), m4))) else (if a2 = 4 then zgd (zin a1 (zln 329)) ((if (zI m4 329 (zx a1)) = 0 then (some (0, m4)) else (some (1, m4)))) else (if a2 = 5 then zgd (zin a1 (zln 330)) ((if (zI m4 330 (zx a1)) = 0 then (some (0, m4)) else (some (1, m4)))) else (if a2 = 6 then zcl2 (f7_lengthAt 40 a1 m4) (fun r8 m5 => (some (r8, m5))) else zcl2 (f7_beginOf a1 m4) (fun r9 m6 => (some (r9, m6))))))))))) else (some (0, m4))))
noncomputable def f7_occurrence_33 (a1 : Int) (a2 : Int) (s0 : Int) (μ : zM) : Option (Int × zM) :=
  zcl2 (f7_throwsIf s0 2 μ) (fun r4 m3 => (if (zb r4) = 0 then zco (f7_within a2 0 7) (fun r5 => (if (zb r5) = 0 then (f7_occurrence_56 a1 a2 1 m3) else (f7_occurrence_56 a1 a2 0 m3))) else (some (0, m3))))
noncomputable def f7_occurrence (a1 : Int) (a2 : Int) (μ : zM) : Option (Int × zM) :=
  zlt (zsI μ 292 0 0) (fun m1 => zcl2 (f7_noSession 1 m1) (fun r1 m2 => (if (zb r1) = 0 then zco (f7_many m2) (fun r2 => zgl (r2 - 1) (fun v1 => zco (f7_within a1 0 v1) (fun r3 => (if (zb r3) = 0 then (f7_occurrence_33 a1 a2 1 m2) else (f7_occurrence_33 a1 a2 0 m2))))) else (some (0, m2)))))
def rm7_text : Room := { frames := 85, cells := 0, slots := 0, locals := 2198 }
noncomputable def f7_text (a1 : Int) (μ : zM) : Option (Int × zM) :=
  zlt (zsI μ 292 0 0) (fun m1 => zcl2 (f7_noSession 1 m1) (fun r1 m2 => (if (zb r1) = 0 then zcm (f7_writesText m2) (fun m3 => zgl ((zI m3 292 29) - 1) (fun v1 => zco (f7_within a1 0 v1) (fun r2 => (if (zb r2) = 0 then (some ((-1), m3)) else zgd (zin a1 (zln 333)) ((some ((zI m3 333 (zx a1)), m3))))))) else (some (0, m2)))))
def rm7_orderAt : Room := { frames := 5, cells := 0, slots := 0, locals := 115 }
noncomputable def f7_orderAt (a1 : Int) (μ : zM) : Option (Int × zM) :=
  zlt (zsI μ 292 0 0) (fun m1 => zcl2 (f7_noSession 1 m1) (fun r1 m2 => (if (zb r1) = 0 then zcm (f7_laysLeaving m2) (fun m3 => zgl ((zI m3 292 33) - 1) (fun v1 => zco (f7_within a1 0 v1) (fun r2 => (if (zb r2) = 0 then (some ((-1), m3)) else zgd (zin a1 (zln 336)) ((some ((zI m3 336 (zx a1)), m3))))))) else (some (0, m2)))))
def rm7_whyOf : Room := { frames := 2, cells := 0, slots := 0, locals := 52 }
noncomputable def f7_whyOf_107 (a1 : Int) (μ : zM) (k27 : Int → Int → Option Int) (x3 : Int) (s0 : Int) (s1 : Int) : Option Int :=
  zlt (min s1 s0) (fun v4 => zgl (x3 + 1) (fun v5 => (k27 v4 v5)))
noncomputable def f7_whyOf_27 (a1 : Int) (μ : zM) (k27 : Int → Int → Option Int) (x2 : Int) (x3 : Int) : Option Int :=
  zco (f7_many μ) (fun r3 => (if r3 ≤ x3 then (some x2) else zco (f7_of x3 μ) (fun r4 => zgd (zin r4 (zln ((zR μ 292 8) + 9))) (zlt ((zI μ ((zR μ 292 8) + 9) (zx r4)) : Int) (fun v1 => zco (f7_of x3 μ) (fun r5 => zgd (zin r5 (zln ((zR μ 292 8) + 6))) ((if (zI μ ((zR μ 292 8) + 6) (zx r5)) = a1 then zgd (zin v1 (zln 329)) ((if (zI μ 329 (zx v1)) = 0 then zgl (x3 + 1) (fun v3 => (k27 x2 v3)) else zco (f7_of v1 μ) (fun r6 => zgd (zin r6 (zln ((zR μ 292 8) + 6))) (zco (f7_isTyped (zI μ ((zR μ 292 8) + 6) (zx r6)) μ) (fun r7 => (if (zb r7) = 0 then (f7_whyOf_107 a1 μ k27 x3 3 x2) else (f7_whyOf_107 a1 μ k27 x3 2 x2))))))) else zgl (x3 + 1) (fun v2 => (k27 x2 v2))))))))))
noncomputable def f7_whyOf (a1 : Int) (μ : zM) : Option Int :=
  zco (f7_has (zI μ 292 27) a1) (fun r1 => (if (zb r1) = 0 then zco (f7_allOf a1 μ) (fun r2 => (if r2 = 0 then (some 1) else (zfx (f7_whyOf_27 a1 μ) (fun _ _ => none) zFu 4 0))) else (some 0)))
def rm7_why : Room := { frames := 5, cells := 0, slots := 0, locals := 115 }
noncomputable def f7_why_18 (a1 : Int) (s0 : Int) (μ : zM) : Option (Int × zM) :=
  zcl2 (f7_throwsIf s0 1 μ) (fun r2 m2 => (if (zb r2) = 0 then zcl2 (f7_noSession 2 m2) (fun r3 m3 => (if (zb r3) = 0 then zco (f7_whyOf a1 m3) (fun r4 => (some (r4, m3))) else (some (0, m3)))) else (some (0, m2))))
noncomputable def f7_why (a1 : Int) (μ : zM) : Option (Int × zM) :=
  zlt (zsI μ 292 0 0) (fun m1 => zco (f7_isField a1) (fun r1 => (if (zb r1) = 0 then (f7_why_18 a1 1 m1) else (f7_why_18 a1 0 m1))))
def rm7_yielded : Room := { frames := 5, cells := 0, slots := 0, locals := 115 }
noncomputable def f7_yielded_66 (k19 : Int → Int → zM → Option (Int × zM)) (x2 : Int) (s0 : Int) (μ : zM) : Option (Int × zM) :=
  zgl (s0 + 0) (fun v3 => zgl (x2 + 1) (fun v4 => (k19 v3 v4 μ)))
noncomputable def f7_yielded_19 (k19 : Int → Int → zM → Option (Int × zM)) (x1 : Int) (x2 : Int) (μ : zM) : Option (Int × zM) :=
  zco (f7_many μ) (fun r2 => (if r2 ≤ x2 then (some (x1, μ)) else zgd (zin x2 (zln 329)) ((if (zI μ 329 (zx x2)) = 0 then (f7_yielded_66 k19 x2 x1 μ) else zco (f7_of x2 μ) (fun r3 => zgd (zin r3 (zln ((zR μ 292 8) + 8))) ((if (zI μ ((zR μ 292 8) + 8) (zx r3)) = 0 then (f7_yielded_66 k19 x2 x1 μ) else zgd (zin x2 (zln 330)) ((if (zI μ 330 (zx x2)) = 0 then zgl (x1 + 1) (fun v1 => zgl (x2 + 1) (fun v2 => (k19 v1 v2 μ))) else (f7_yielded_66 k19 x2 x1 μ))))))))))
noncomputable def f7_yielded (μ : zM) : Option (Int × zM) :=
  zlt (zsI μ 292 0 0) (fun m1 => zcl2 (f7_noSession 1 m1) (fun r1 m2 => (if (zb r1) = 0 then (zfx (f7_yielded_19) (fun _ _ _ => none) zFu 0 0 m2) else (some (0, m2)))))
def rm7_mirrored : Room := { frames := 5, cells := 0, slots := 0, locals := 115 }
noncomputable def f7_mirrored_19 (k19 : Int → Int → zM → Option (Int × zM)) (x1 : Int) (x2 : Int) (μ : zM) : Option (Int × zM) :=
  (if (10 : Int) ≤ x2 then (some (x1, μ)) else zco (f7_shownOf x2 μ) (fun r2 => (if r2 ≤ 1 then zgl (x1 + 0) (fun v1 => zgl (x2 + 1) (fun v2 => (k19 v1 v2 μ))) else zgl (x1 + 1) (fun v3 => zgl (x2 + 1) (fun v4 => (k19 v3 v4 μ))))))
noncomputable def f7_mirrored (μ : zM) : Option (Int × zM) :=
  zlt (zsI μ 292 0 0) (fun m1 => zcl2 (f7_noSession 1 m1) (fun r1 m2 => (if (zb r1) = 0 then (zfx (f7_mirrored_19) (fun _ _ _ => none) zFu 0 0 m2) else (some (0, m2)))))
def rm7_longest : Room := { frames := 43, cells := 0, slots := 0, locals := 1112 }
noncomputable def f7_longest_19 (k19 : Int → Int → zM → Option (Int × zM)) (x1 : Int) (x2 : Int) (μ : zM) : Option (Int × zM) :=
  (if (10 : Int) ≤ x2 then (some (x1, μ)) else zco (f7_has (zI μ 292 27) x2) (fun r2 => (if (zb r2) = 0 then zgl (x2 + 1) (fun v1 => (k19 x1 v1 μ)) else (if x1 = (-1) then zgl (x2 + 1) (fun v2 => (k19 x2 v2 μ)) else zcl2 (f7_valueLength 40 x2 μ) (fun r3 m3 => zcl2 (f7_valueLength 40 x1 m3) (fun r4 m4 => (if r3 ≤ r4 then zgl (x2 + 1) (fun v3 => (k19 x1 v3 m4)) else zgl (x2 + 1) (fun v4 => (k19 x2 v4 m4)))))))))
noncomputable def f7_longest (μ : zM) : Option (Int × zM) :=
  zlt (zsI μ 292 0 0) (fun m1 => zcl2 (f7_noSession 1 m1) (fun r1 m2 => (if (zb r1) = 0 then (zfx (f7_longest_19) (fun _ _ _ => none) zFu (-1) 0 m2) else (some (0, m2)))))
def rm7_untouched : Room := { frames := 5, cells := 0, slots := 0, locals := 115 }
noncomputable def f7_untouched (μ : zM) : Option (UInt32 × zM) :=
  zlt (zsI μ 292 0 0) (fun m1 => zcl2 (f7_noSession 1 m1) (fun r1 m2 => (if (zb r1) = 0 then zgl ((zI m2 292 22) + 2) (fun v1 => zgd (zin v1 (zln 293)) (zlt (zxor (zI m2 293 (zx v1)) (-1)) (fun v2 => zlt (zand (zI m2 292 27) v2) (fun v3 => zco (f7_bits v3) (fun r2 => zco (f7_bits (zI m2 292 27)) (fun r3 => zgd (vf_n32 (FP.fdiv (FP.i2f (zi r2)) (FP.i2f (zi r3)))) ((some ((FP.fdiv (FP.i2f (zi r2)) (FP.i2f (zi r3))), m2))))))))) else (some (0, m2)))))
def rm7_meanLength : Room := { frames := 43, cells := 0, slots := 0, locals := 1112 }
noncomputable def f7_meanLength_19 (k19 : Int → Int → zM → Option (UInt64 × zM)) (x1 : Int) (x2 : Int) (μ : zM) : Option (UInt64 × zM) :=
  (if (10 : Int) ≤ x2 then zco (f7_bits (zI μ 292 27)) (fun r2 => zgd (vf_n64 (FP.ddiv (FP.i2d (zi x1)) (FP.i2d (zi r2)))) ((some ((FP.ddiv (FP.i2d (zi x1)) (FP.i2d (zi r2))), μ)))) else zco (f7_has (zI μ 292 27) x2) (fun r3 => (if (zb r3) = 0 then zgl (x1 + 0) (fun v1 => zgl (x2 + 1) (fun v2 => (k19 v1 v2 μ))) else zcl2 (f7_valueLength 40 x2 μ) (fun r4 m3 => zgl (x1 + r4) (fun v3 => zgl (x2 + 1) (fun v4 => (k19 v3 v4 m3)))))))
noncomputable def f7_meanLength (μ : zM) : Option (UInt64 × zM) :=
  zlt (zsI μ 292 0 0) (fun m1 => zcl2 (f7_noSession 1 m1) (fun r1 m2 => (if (zb r1) = 0 then (zfx (f7_meanLength_19) (fun _ _ _ => none) zFu 0 0 m2) else (some (0, m2)))))
def rm7_back : Room := { frames := 1, cells := 0, slots := 0, locals := 32 }
noncomputable def f7_back (a1 : Int) (μ : zM) : Option (Int × zM) :=
  zcm (f7_copies 294 0 293 0 μ) (fun m1 => (some (a1, m1)))
def rm7_lengthIf : Room := { frames := 44, cells := 0, slots := 0, locals := 1136 }
noncomputable def f7_lengthIf_157 (a1 : Int) (s0 : Int) (μ : zM) : Option (Int × zM) :=
  zcl2 (f7_back s0 μ) (fun r6 m9 => (some (r6, m9)))
noncomputable def f7_lengthIf_88 (a1 : Int) (x2 : Int) (s0 : Int) (μ : zM) : Option (Int × zM) :=
  zgl (s0 + a1) (fun v5 => (if v5 ≤ 40 then zgl ((zI μ 292 22) + 2) (fun v6 => zgd (zin v6 (zln 293)) (zlt (zshl 1 x2) (fun v7 => zlt (zor (zI μ 293 (zx v6)) v7) (fun v8 => zgd (zin v6 (zln 293)) (zlt (zsI μ 293 (zx v6) v8) (fun m5 => zgl ((zI m5 292 22) + 3) (fun v9 => zgl (v9 + x2) (fun v10 => zgl (s0 + a1) (fun v11 => zgd (zin v10 (zln 293)) (zlt (zsI m5 293 (zx v10) v11) (fun m6 => zcm (f7_shows m6) (fun m7 => zcl2 (f7_textLength m7) (fun r5 m8 => (if r5 ≤ 400 then (f7_lengthIf_157 a1 r5 m8) else (f7_lengthIf_157 a1 (-1) m8))))))))))))))) else (some ((-1), μ))))
noncomputable def f7_lengthIf_21 (a1 : Int) (s0 : Int) (μ : zM) : Option (Int × zM) :=
  zcl2 (f7_throwsIf s0 1 μ) (fun r2 m2 => (if (zb r2) = 0 then zcl2 (f7_noSession 2 m2) (fun r3 m3 => (if (zb r3) = 0 then zcm (f7_copies 293 0 294 0 m3) (fun m4 => zgl ((zI m4 292 22) + 1) (fun v1 => zgd (zin v1 (zln 293)) (zlt ((zI m4 293 (zx v1)) : Int) (fun v2 => zco (f7_isTyped v2 m4) (fun r4 => (if (zb r4) = 0 then (f7_lengthIf_88 a1 v2 0 m4) else zgl ((zI m4 292 22) + 3) (fun v3 => zgl (v3 + v2) (fun v4 => zgd (zin v4 (zln 293)) ((f7_lengthIf_88 a1 v2 (zI m4 293 (zx v4)) m4)))))))))) else (some (0, m3)))) else (some (0, m2))))
noncomputable def f7_lengthIf (a1 : Int) (μ : zM) : Option (Int × zM) :=
  zlt (zsI μ 292 0 0) (fun m1 => zco (f7_within a1 1 20) (fun r1 => (if (zb r1) = 0 then (f7_lengthIf_21 a1 1 m1) else (f7_lengthIf_21 a1 0 m1))))
def rm7_wouldHide : Room := { frames := 5, cells := 0, slots := 0, locals := 115 }
noncomputable def f7_wouldHide_18 (a1 : Int) (s0 : Int) (μ : zM) : Option (Int × zM) :=
  zcl2 (f7_throwsIf s0 1 μ) (fun r2 m2 => (if (zb r2) = 0 then zcl2 (f7_noSession 2 m2) (fun r3 m3 => (if (zb r3) = 0 then zco (f7_isTyped a1 m3) (fun r4 => (if (zb r4) = 0 then zlt ((zI m3 292 27) : Int) (fun v1 => zcm (f7_copies 293 0 294 0 m3) (fun m4 => zgl ((zI m4 292 22) + 2) (fun v2 => zgd (zin v2 (zln 293)) (zlt (zshl 1 a1) (fun v3 => zlt (zor (zI m4 293 (zx v2)) v3) (fun v4 => zgd (zin v2 (zln 293)) (zlt (zsI m4 293 (zx v2) v4) (fun m5 => zcm (f7_shows m5) (fun m6 => zlt (zxor (zI m6 292 27) (-1)) (fun v5 => zlt (zand v1 v5) (fun v6 => zlt (zshl 1 a1) (fun v7 => zlt (zxor v7 (-1)) (fun v8 => zlt (zand v6 v8) (fun v9 => zcl2 (f7_back v9 m6) (fun r5 m7 => (some (r5, m7))))))))))))))))) else (some (0, m3)))) else (some (0, m3)))) else (some (0, m2))))
noncomputable def f7_wouldHide (a1 : Int) (μ : zM) : Option (Int × zM) :=
  zlt (zsI μ 292 0 0) (fun m1 => zco (f7_isField a1) (fun r1 => (if (zb r1) = 0 then (f7_wouldHide_18 a1 1 m1) else (f7_wouldHide_18 a1 0 m1))))
def rm7_lengthOf : Room := { frames := 44, cells := 0, slots := 0, locals := 1136 }
noncomputable def f7_lengthOf (a1 : Int) (μ : zM) : Option (Int × zM) :=
  zlt (zsI μ 292 0 0) (fun m1 => zcl2 (f7_noSnippet a1 m1) (fun r1 m2 => (if (zb r1) = 0 then zcm (f7_laysBare a1 m2) (fun m3 => zcl2 (f7_textLength m3) (fun r2 m4 => (some (r2, m4)))) else (some (0, m2)))))
def rm7_begins : Room := { frames := 1, cells := 0, slots := 0, locals := 32 }
noncomputable def f7_begins (μ : zM) : Option zM :=
  zcm (f7_copies 293 0 294 0 μ) (fun m1 => (some m1))
def rm7_done : Room := { frames := 1, cells := 0, slots := 0, locals := 32 }
noncomputable def f7_done_58 (a1 : Int) (μ : zM) : Option (Int × zM) :=
  zgl (2256 * (zI μ 292 7)) (fun v2 => zcm (f7_copies 294 0 295 v2 μ) (fun m2 => zgl ((zI m2 292 7) + 1) (fun v3 => zlt (zsI m2 292 7 v3) (fun m3 => zgd (zin 0 (zln 298)) (zgl ((zI m3 298 (zx 0)) + 1) (fun v4 => zgd (zin 0 (zln 298)) (zlt (zsI m3 298 (zx 0) v4) (fun m4 => (some (a1, m4))))))))))
noncomputable def f7_done_21 (a1 : Int) (k21 : Int → zM → Option (Int × zM)) (x2 : Int) (μ : zM) : Option (Int × zM) :=
  (if (zI μ 292 7) ≤ x2 then (f7_done_58 a1 μ) else zgl (x2 + 1) (fun v5 => zgl (2256 * v5) (fun v6 => zgl (2256 * x2) (fun v7 => zcm (f7_copies 295 v6 295 v7 μ) (fun m5 => zgl (x2 + 1) (fun v8 => (k21 v8 m5)))))))
noncomputable def f7_done (a1 : Int) (μ : zM) : Option (Int × zM) :=
  (if (zI μ 292 7) = 8 then zgl ((zI μ 292 7) - 1) (fun v1 => zlt (zsI μ 292 7 v1) (fun m1 => (zfx (f7_done_21 a1) (fun _ _ => none) zFu 0 m1))) else (f7_done_58 a1 μ))
def rm7_refused : Room := { frames := 1, cells := 0, slots := 0, locals := 32 }
noncomputable def f7_refused (a1 : Int) (μ : zM) : Option (Int × zM) :=
  zgd (zin a1 (zln 298)) (zgl ((zI μ 298 (zx a1)) + 1) (fun v1 => zgd (zin a1 (zln 298)) (zlt (zsI μ 298 (zx a1) v1) (fun m1 => zcm (f7_copies 294 0 293 0 m1) (fun m2 => zgl (-a1) (fun v2 => (some (v2, m2))))))))
def rm7_isTooLong : Room := { frames := 44, cells := 0, slots := 0, locals := 1136 }
noncomputable def f7_isTooLong (a1 : Int) (μ : zM) : Option (Bool × zM) :=
  zcm (f7_lays a1 μ) (fun m1 => zcl2 (f7_textLength m1) (fun r1 m2 => (if r1 ≤ 400 then (some (false, m2)) else (some (true, m2)))))
def rm7_types : Room := { frames := 1, cells := 0, slots := 0, locals := 29 }
noncomputable def f7_types_71 (a1 : Int) (a2 : Nat) (a3 : Int) (k71 : Int → Int → Int → Int → zM → Option (Bool × zM)) (x4 : Int) (x5 : Int) (x6 : Int) (x7 : Int) (μ : zM) : Option (Bool × zM) :=
  (if a3 ≤ x7 then zgl (x4 + 3) (fun v9 => zgl (v9 + x5) (fun v10 => zgl (x6 + a3) (fun v11 => zgd (zin v10 (zln 293)) (zlt (zsI μ 293 (zx v10) v11) (fun m1 => zgl (x4 + 2) (fun v12 => zgd (zin v12 (zln 293)) (zlt (zshl 1 x5) (fun v13 => zlt (zor (zI m1 293 (zx v12)) v13) (fun v14 => zgd (zin v12 (zln 293)) (zlt (zsI m1 293 (zx v12) v14) (fun m2 => (some (true, m2))))))))))))) else zgl (x4 + 13) (fun v15 => zgl (40 * x5) (fun v16 => zgl (v15 + v16) (fun v17 => zgl (v17 + x6) (fun v18 => zgl (v18 + x7) (fun v19 => zgd (zin x7 (zln a2)) (zgd (zin v19 (zln 293)) (zlt (zsI μ 293 (zx v19) (zI μ a2 (zx x7))) (fun m3 => zgl (x7 + 1) (fun v20 => (k71 x4 x5 x6 v20 m3)))))))))))
noncomputable def f7_types_55 (a1 : Int) (a2 : Nat) (a3 : Int) (x4 : Int) (x5 : Int) (s0 : Int) (μ : zM) : Option (Bool × zM) :=
  zgl (s0 + a3) (fun v8 => (if v8 ≤ 40 then (zfx (f7_types_71 a1 a2 a3) (fun _ _ _ _ _ => none) zFu x4 x5 s0 0 μ) else (some (false, μ))))
noncomputable def f7_types (a1 : Int) (a2 : Nat) (a3 : Int) (μ : zM) : Option (Bool × zM) :=
  zgl (413 * a1) (fun v1 => zgl (604 + v1) (fun v2 => zgl (v2 + 1) (fun v3 => zgd (zin v3 (zln 293)) (zlt ((zI μ 293 (zx v3)) : Int) (fun v4 => zgl (v2 + 2) (fun v5 => zgd (zin v5 (zln 293)) (zco (f7_has (zI μ 293 (zx v5)) v4) (fun r1 => (if (zb r1) = 0 then (f7_types_55 a1 a2 a3 v2 v4 0 μ) else zgl (v2 + 3) (fun v6 => zgl (v6 + v4) (fun v7 => zgd (zin v7 (zln 293)) ((f7_types_55 a1 a2 a3 v2 v4 (zI μ 293 (zx v7)) μ)))))))))))))
def rm7_ends : Room := { frames := 85, cells := 0, slots := 0, locals := 2198 }
noncomputable def f7_ends_89 (k89 : Int → zM → Option (Int × zM)) (x2 : Int) (μ : zM) : Option (Int × zM) :=
  (if (zI μ 292 29) ≤ x2 then zgd (zin 2 (zln 293)) (zgl ((zI μ 293 (zx 2)) + (zI μ 292 29)) (fun v5 => zgd (zin 2 (zln 293)) (zlt (zsI μ 293 (zx 2) v5) (fun m6 => (some (0, m6)))))) else zgd (zin 2 (zln 293)) (zgl (4 + (zI μ 293 (zx 2))) (fun v6 => zgl (v6 + x2) (fun v7 => zgd (zin x2 (zln 333)) (zgd (zin v7 (zln 293)) (zlt (zsI μ 293 (zx v7) (zI μ 333 (zx x2))) (fun m7 => zgl (x2 + 1) (fun v8 => (k89 v8 m7)))))))))
noncomputable def f7_ends (μ : zM) : Option (Int × zM) :=
  zgd (zin 0 (zln 293)) (zgl ((zI μ 293 (zx 0)) - 1) (fun v1 => zcm (f7_lays v1 μ) (fun m1 => zcm (f7_writesText m1) (fun m2 => zgd (zin 0 (zln 293)) (zlt (zsI m2 293 (zx 0) v1) (fun m3 => (if v1 ≤ 0 then zgd (zin 2 (zln 293)) (zgl ((zI m3 293 (zx 2)) + (zI m3 292 29)) (fun v2 => (if v2 ≤ 600 then (zfx (f7_ends_89) (fun _ _ => none) zFu 0 m3) else (some (9, m3))))) else zgl (v1 - 1) (fun v3 => zcl2 (f7_types v3 333 (zI m3 292 29) m3) (fun r1 m4 => (if (zb r1) = 0 then (some (4, m4)) else zgl (v1 - 1) (fun v4 => zcl2 (f7_isTooLong v4 m4) (fun r2 m5 => (if (zb r2) = 0 then (some (0, m5)) else (some (3, m5)))))))))))))))
def rm7_tells : Room := { frames := 2, cells := 0, slots := 0, locals := 54 }
noncomputable def f7_tells (a1 : Int) (a2 : Int) (μ : zM) : Option (Int × zM) :=
  (if a1 ≤ 0 then zcl2 (f7_done a2 μ) (fun r1 m1 => (some (r1, m1))) else zcl2 (f7_refused a1 μ) (fun r2 m2 => (some (r2, m2))))
def rm7_expand : Room := { frames := 86, cells := 0, slots := 0, locals := 2220 }
noncomputable def f7_expand_149 (a1 : Int) (x3 : Int) (μ : zM) : Option (Int × zM) :=
  zgd (zin 0 (zln 293)) (zcl2 (f7_tells x3 (zI μ 293 (zx 0)) μ) (fun r6 m13 => (some (r6, m13))))
noncomputable def f7_expand_52 (a1 : Int) (k52 : Int → Int → zM → Option (Int × zM)) (x2 : Int) (x3 : Int) (μ : zM) : Option (Int × zM) :=
  (if (413 : Int) ≤ x3 then zgl (x2 + 0) (fun v3 => zgd (zin v3 (zln 293)) (zlt (zsI μ 293 (zx v3) a1) (fun m5 => zgd (zin 0 (zln 293)) (zgl ((zI m5 293 (zx 0)) + 1) (fun v4 => zgd (zin 0 (zln 293)) (zlt (zsI m5 293 (zx 0) v4) (fun m6 => zgd (zin 0 (zln 293)) (zgl ((zI m6 293 (zx 0)) - 1) (fun v5 => zcl2 (f7_isTooLong v5 m6) (fun r3 m7 => (if (zb r3) = 0 then zcm (f7_laysLeaving m7) (fun m8 => (if (zI m8 292 33) = 0 then zcl2 (f7_ends m8) (fun r4 m10 => (f7_expand_149 a1 r4 m10)) else zgl (x2 + 1) (fun v6 => zgd (zin 0 (zln 336)) (zgd (zin v6 (zln 293)) (zlt (zsI m8 293 (zx v6) (zI m8 336 (zx 0))) (fun m9 => (f7_expand_149 a1 0 m9))))))) else zcl2 (f7_refused 3 m7) (fun r5 m11 => (some (r5, m11)))))))))))))) else zgl (x2 + x3) (fun v7 => zgd (zin v7 (zln 293)) (zlt (zsI μ 293 (zx v7) 0) (fun m12 => zgl (x3 + 1) (fun v8 => (k52 x2 v8 m12))))))
noncomputable def f7_expand (a1 : Int) (μ : zM) : Option (Int × zM) :=
  zlt (zsI μ 292 0 0) (fun m1 => zcl2 (f7_noSnippet a1 m1) (fun r1 m2 => (if (zb r1) = 0 then zcm (f7_begins m2) (fun m3 => zgd (zin 0 (zln 293)) ((if (zI m3 293 (zx 0)) = 4 then zcl2 (f7_refused 2 m3) (fun r2 m4 => (some (r2, m4))) else zgd (zin 0 (zln 293)) (zgl (413 * (zI m3 293 (zx 0))) (fun v1 => zgl (604 + v1) (fun v2 => (zfx (f7_expand_52 a1) (fun _ _ _ => none) zFu v2 0 m3))))))) else (some (0, m2)))))
def rm7_type : Room := { frames := 45, cells := 0, slots := 0, locals := 1157 }
noncomputable def f7_type_139 (a1 : Int) (x2 : Int) (s0 : Int) (μ : zM) : Option (Int × zM) :=
  zgl (413 * x2) (fun v3 => zgl (604 + v3) (fun v4 => zgl (v4 + 3) (fun v5 => zgl (v4 + 1) (fun v6 => zgd (zin v6 (zln 293)) (zgl (v5 + (zI μ 293 (zx v6))) (fun v7 => zgd (zin v7 (zln 293)) (zcl2 (f7_tells s0 (zI μ 293 (zx v7)) μ) (fun r7 m10 => (some (r7, m10))))))))))
noncomputable def f7_type_53 (a1 : Int) (k53 : Int → zM → Option (Int × zM)) (x2 : Int) (μ : zM) : Option (Int × zM) :=
  (if a1 ≤ x2 then zlt (zsI μ 292 10 0) (fun m4 => zcm (f7_begins m4) (fun m5 => zgd (zin 0 (zln 293)) ((if (zI m5 293 (zx 0)) = 0 then zcl2 (f7_refused 1 m5) (fun r6 m8 => (some (r6, m8))) else zgd (zin 0 (zln 293)) (zgl ((zI m5 293 (zx 0)) - 1) (fun v1 => zcl2 (f7_types v1 338 a1 m5) (fun r4 m6 => (if (zb r4) = 0 then (f7_type_139 a1 v1 4 m6) else zcl2 (f7_isTooLong v1 m6) (fun r5 m7 => (if (zb r5) = 0 then (f7_type_139 a1 v1 0 m7) else (f7_type_139 a1 v1 3 m7))))))))))) else zgd (zin x2 (zln 313)) (zgd (zin x2 (zln 338)) (zlt (zsI μ 338 (zx x2) (zI μ 313 (zx x2))) (fun m9 => zgl (x2 + 1) (fun v2 => (k53 v2 m9))))))
noncomputable def f7_type_42 (a1 : Int) (s0 : Int) (μ : zM) : Option (Int × zM) :=
  zcl2 (f7_throwsIf s0 2 μ) (fun r3 m3 => (if (zb r3) = 0 then (zfx (f7_type_53 a1) (fun _ _ => none) zFu 0 m3) else (some (0, m3))))
noncomputable def f7_type_21 (a1 : Int) (s0 : Int) (μ : zM) : Option (Int × zM) :=
  zcl2 (f7_throwsIf s0 1 μ) (fun r2 m2 => (if (zb r2) = 0 then (if a1 ≤ (zI m2 292 10) then (f7_type_42 a1 0 m2) else (f7_type_42 a1 1 m2)) else (some (0, m2))))
noncomputable def f7_type (a1 : Int) (μ : zM) : Option (Int × zM) :=
  zlt (zsI μ 292 0 0) (fun m1 => zco (f7_within a1 1 20) (fun r1 => (if (zb r1) = 0 then (f7_type_21 a1 1 m1) else (f7_type_21 a1 0 m1))))
def rm7_erase : Room := { frames := 84, cells := 0, slots := 0, locals := 2175 }
noncomputable def f7_erase_158 (x3 : Int) (s0 : Int) (μ : zM) : Option (Int × zM) :=
  zcl2 (f7_tells s0 x3 μ) (fun r5 m12 => (some (r5, m12)))
noncomputable def f7_erase_83 (k83 : Int → Int → Int → Int → zM → Option (Int × zM)) (x1 : Int) (x2 : Int) (x3 : Int) (x4 : Int) (μ : zM) : Option (Int × zM) :=
  (if x3 ≤ x4 then zgl ((zI μ 292 22) + 2) (fun v5 => zgd (zin v5 (zln 293)) (zlt (zshl 1 x2) (fun v6 => zlt (zxor v6 (-1)) (fun v7 => zlt (zand (zI μ 293 (zx v5)) v7) (fun v8 => zgd (zin v5 (zln 293)) (zlt (zsI μ 293 (zx v5) v8) (fun m8 => zcl2 (f7_types x1 338 x3 m8) (fun r3 m9 => (if (zb r3) = 0 then (f7_erase_158 x3 4 m9) else zcl2 (f7_isTooLong x1 m9) (fun r4 m10 => (if (zb r4) = 0 then (f7_erase_158 x3 0 m10) else (f7_erase_158 x3 3 m10)))))))))))) else zgd (zin x4 (zln 333)) (zgd (zin x4 (zln 338)) (zlt (zsI μ 338 (zx x4) (zI μ 333 (zx x4))) (fun m11 => zgl (x4 + 1) (fun v9 => (k83 x1 x2 x3 v9 m11))))))
noncomputable def f7_erase (μ : zM) : Option (Int × zM) :=
  zlt (zsI μ 292 0 0) (fun m1 => zcm (f7_begins m1) (fun m2 => zgd (zin 0 (zln 293)) ((if (zI m2 293 (zx 0)) = 0 then zcl2 (f7_refused 1 m2) (fun r2 m7 => (some (r2, m7))) else zgd (zin 0 (zln 293)) (zgl ((zI m2 293 (zx 0)) - 1) (fun v1 => zcm (f7_lays v1 m2) (fun m3 => zgl ((zI m3 292 22) + 1) (fun v2 => zgd (zin v2 (zln 293)) (zlt ((zI m3 293 (zx v2)) : Int) (fun v3 => zlt (zsI m3 292 29 0) (fun m4 => zcm (f7_writesValue 40 v3 m4) (fun m5 => (if (zI m5 292 29) = 0 then zcl2 (f7_refused 5 m5) (fun r1 m6 => (some (r1, m6))) else zgl ((zI m5 292 29) - 1) (fun v4 => (zfx (f7_erase_83) (fun _ _ _ _ _ => none) zFu v1 v3 v4 0 m5)))))))))))))))
def rm7_reset : Room := { frames := 45, cells := 0, slots := 0, locals := 1157 }
noncomputable def f7_reset_111 (x2 : Int) (s0 : Int) (μ : zM) : Option (Int × zM) :=
  zcl2 (f7_valueLength 40 x2 μ) (fun r5 m9 => zcl2 (f7_tells s0 r5 m9) (fun r6 m10 => (some (r6, m10))))
noncomputable def f7_reset (μ : zM) : Option (Int × zM) :=
  zlt (zsI μ 292 0 0) (fun m1 => zcm (f7_begins m1) (fun m2 => zgd (zin 0 (zln 293)) ((if (zI m2 293 (zx 0)) = 0 then zcl2 (f7_refused 1 m2) (fun r4 m8 => (some (r4, m8))) else zgd (zin 0 (zln 293)) (zgl ((zI m2 293 (zx 0)) - 1) (fun v1 => zcm (f7_lays v1 m2) (fun m3 => zgl ((zI m3 292 22) + 1) (fun v2 => zgd (zin v2 (zln 293)) (zlt ((zI m3 293 (zx v2)) : Int) (fun v3 => zco (f7_isTyped v3 m3) (fun r1 => (if (zb r1) = 0 then zcl2 (f7_refused 6 m3) (fun r3 m7 => (some (r3, m7))) else zgl ((zI m3 292 22) + 2) (fun v4 => zgd (zin v4 (zln 293)) (zlt (zshl 1 v3) (fun v5 => zlt (zxor v5 (-1)) (fun v6 => zlt (zand (zI m3 293 (zx v4)) v6) (fun v7 => zgd (zin v4 (zln 293)) (zlt (zsI m3 293 (zx v4) v7) (fun m4 => zgl ((zI m4 292 22) + 3) (fun v8 => zgl (v8 + v3) (fun v9 => zgd (zin v9 (zln 293)) (zlt (zsI m4 293 (zx v9) 0) (fun m5 => zcl2 (f7_isTooLong v1 m5) (fun r2 m6 => (if (zb r2) = 0 then (f7_reset_111 v3 0 m6) else (f7_reset_111 v3 3 m6))))))))))))))))))))))))))
def rm7_currentNow : Room := { frames := 0, cells := 0, slots := 0, locals := 8 }
noncomputable def f7_currentNow (μ : zM) : Option Int :=
  zgd (zin 0 (zln 293)) ((if (zI μ 293 (zx 0)) = 0 then (some 10) else zgd (zin 0 (zln 293)) (zgl ((zI μ 293 (zx 0)) - 1) (fun v1 => zgl (413 * v1) (fun v2 => zgl (604 + v2) (fun v3 => zgl (v3 + 1) (fun v4 => zgd (zin v4 (zln 293)) ((some (zI μ 293 (zx v4)))))))))))
def rm7_next : Room := { frames := 86, cells := 0, slots := 0, locals := 2220 }
noncomputable def f7_next_93 (x2 : Int) (μ : zM) : Option (Int × zM) :=
  zco (f7_currentNow μ) (fun r4 => zcl2 (f7_tells x2 r4 μ) (fun r5 m8 => (some (r5, m8))))
noncomputable def f7_next (μ : zM) : Option (Int × zM) :=
  zlt (zsI μ 292 0 0) (fun m1 => zcm (f7_begins m1) (fun m2 => zgd (zin 0 (zln 293)) ((if (zI m2 293 (zx 0)) = 0 then zcl2 (f7_refused 1 m2) (fun r3 m7 => (some (r3, m7))) else zgd (zin 0 (zln 293)) (zgl ((zI m2 293 (zx 0)) - 1) (fun v1 => zcm (f7_lays v1 m2) (fun m3 => zcm (f7_laysLeaving m3) (fun m4 => zgl ((zI m4 292 22) + 1) (fun v2 => zgd (zin v2 (zln 293)) (zco (f7_placeOf (zI m4 293 (zx v2)) m4) (fun r1 => zgl (r1 + 1) (fun v3 => (if (zI m4 292 33) ≤ v3 then zcl2 (f7_ends m4) (fun r2 m5 => (f7_next_93 r2 m5)) else zgl ((zI m4 292 22) + 1) (fun v4 => zgd (zin v3 (zln 336)) (zgd (zin v4 (zln 293)) (zlt (zsI m4 293 (zx v4) (zI m4 336 (zx v3))) (fun m6 => (f7_next_93 0 m6))))))))))))))))))
def rm7_previous : Room := { frames := 4, cells := 0, slots := 0, locals := 94 }
noncomputable def f7_previous (μ : zM) : Option (Int × zM) :=
  zlt (zsI μ 292 0 0) (fun m1 => zcm (f7_begins m1) (fun m2 => zgd (zin 0 (zln 293)) ((if (zI m2 293 (zx 0)) = 0 then zcl2 (f7_refused 1 m2) (fun r4 m8 => (some (r4, m8))) else zgd (zin 0 (zln 293)) (zgl ((zI m2 293 (zx 0)) - 1) (fun v1 => zcm (f7_lays v1 m2) (fun m3 => zcm (f7_laysLeaving m3) (fun m4 => zgl ((zI m4 292 22) + 1) (fun v2 => zgd (zin v2 (zln 293)) (zco (f7_placeOf (zI m4 293 (zx v2)) m4) (fun r1 => (if r1 = 0 then zcl2 (f7_refused 7 m4) (fun r3 m7 => (some (r3, m7))) else zgl ((zI m4 292 22) + 1) (fun v3 => zgl (r1 - 1) (fun v4 => zgd (zin v4 (zln 336)) (zgd (zin v3 (zln 293)) (zlt (zsI m4 293 (zx v3) (zI m4 336 (zx v4))) (fun m5 => zgl (r1 - 1) (fun v5 => zgd (zin v5 (zln 336)) (zcl2 (f7_done (zI m5 336 (zx v5)) m5) (fun r2 m6 => (some (r2, m6))))))))))))))))))))))
def rm7_go : Room := { frames := 4, cells := 0, slots := 0, locals := 94 }
noncomputable def f7_go_18 (a1 : Int) (s0 : Int) (μ : zM) : Option (Int × zM) :=
  zcl2 (f7_throwsIf s0 1 μ) (fun r2 m2 => (if (zb r2) = 0 then zcm (f7_begins m2) (fun m3 => zgd (zin 0 (zln 293)) ((if (zI m3 293 (zx 0)) = 0 then zcl2 (f7_refused 1 m3) (fun r6 m8 => (some (r6, m8))) else zgd (zin 0 (zln 293)) (zgl ((zI m3 293 (zx 0)) - 1) (fun v1 => zcm (f7_lays v1 m3) (fun m4 => zco (f7_has (zI m4 292 27) a1) (fun r3 => (if (zb r3) = 0 then zcl2 (f7_refused 8 m4) (fun r5 m7 => (some (r5, m7))) else zgl ((zI m4 292 22) + 1) (fun v2 => zgd (zin v2 (zln 293)) (zlt ((zI m4 293 (zx v2)) : Int) (fun v3 => zgl ((zI m4 292 22) + 1) (fun v4 => zgd (zin v4 (zln 293)) (zlt (zsI m4 293 (zx v4) a1) (fun m5 => zcl2 (f7_done v3 m5) (fun r4 m6 => (some (r4, m6))))))))))))))))) else (some (0, m2))))
noncomputable def f7_go (a1 : Int) (μ : zM) : Option (Int × zM) :=
  zlt (zsI μ 292 0 0) (fun m1 => zco (f7_isField a1) (fun r1 => (if (zb r1) = 0 then (f7_go_18 a1 1 m1) else (f7_go_18 a1 0 m1))))
def rm7_finish : Room := { frames := 86, cells := 0, slots := 0, locals := 2220 }
noncomputable def f7_finish (μ : zM) : Option (Int × zM) :=
  zlt (zsI μ 292 0 0) (fun m1 => zcm (f7_begins m1) (fun m2 => zgd (zin 0 (zln 293)) ((if (zI m2 293 (zx 0)) = 0 then zcl2 (f7_refused 1 m2) (fun r3 m5 => (some (r3, m5))) else zcl2 (f7_ends m2) (fun r1 m3 => zgd (zin 0 (zln 293)) (zcl2 (f7_tells r1 (zI m3 293 (zx 0)) m3) (fun r2 m4 => (some (r2, m4)))))))))
def rm7_drop : Room := { frames := 2, cells := 0, slots := 0, locals := 54 }
noncomputable def f7_drop (μ : zM) : Option (Int × zM) :=
  zlt (zsI μ 292 0 0) (fun m1 => zcm (f7_begins m1) (fun m2 => zgd (zin 0 (zln 293)) ((if (zI m2 293 (zx 0)) = 0 then zcl2 (f7_refused 1 m2) (fun r2 m5 => (some (r2, m5))) else zgd (zin 0 (zln 293)) (zgl ((zI m2 293 (zx 0)) - 1) (fun v1 => zgd (zin 0 (zln 293)) (zlt (zsI m2 293 (zx 0) v1) (fun m3 => zgd (zin 0 (zln 293)) (zcl2 (f7_done (zI m3 293 (zx 0)) m3) (fun r1 m4 => (some (r1, m4))))))))))))
def rm7_setOrder : Room := { frames := 2, cells := 0, slots := 0, locals := 54 }
noncomputable def f7_setOrder_30 (a1 : Int) (x2 : Int) (s0 : Int) (s1 : Int) (μ : zM) : Option (Int × zM) :=
  zgd (zin s1 (zln 293)) (zlt (zsI μ 293 (zx s1) s0) (fun m3 => zcl2 (f7_done x2 m3) (fun r1 m4 => (some (r1, m4)))))
noncomputable def f7_setOrder (a1 : Int) (μ : zM) : Option (Int × zM) :=
  zlt (zsI μ 292 0 0) (fun m1 => zcm (f7_begins m1) (fun m2 => zgd (zin 1 (zln 293)) (zlt ((zI m2 293 (zx 1)) : Int) (fun v1 => (if a1 = 0 then (f7_setOrder_30 a1 v1 0 1 m2) else (f7_setOrder_30 a1 v1 1 1 m2))))))
def rm7_undo : Room := { frames := 1, cells := 0, slots := 0, locals := 32 }
noncomputable def f7_undo_18 (s0 : Int) (μ : zM) : Option (Int × zM) :=
  zcl2 (f7_throwsIf s0 1 μ) (fun r1 m2 => (if (zb r1) = 0 then zgl ((zI m2 292 7) - 1) (fun v1 => zlt (zsI m2 292 7 v1) (fun m3 => zgl (2256 * (zI m3 292 7)) (fun v2 => zcm (f7_copies 295 v2 293 0 m3) (fun m4 => (some ((zI m4 292 7), m4)))))) else (some (0, m2))))
noncomputable def f7_undo (μ : zM) : Option (Int × zM) :=
  zlt (zsI μ 292 0 0) (fun m1 => (if (zI m1 292 7) = 0 then (f7_undo_18 1 m1) else (f7_undo_18 0 m1)))
def rm7_noSlot : Room := { frames := 1, cells := 0, slots := 0, locals := 30 }
noncomputable def f7_noSlot_20 (a1 : Int) (s0 : Int) (μ : zM) : Option (Bool × zM) :=
  zcl2 (f7_throwsIf s0 1 μ) (fun r2 m2 => (some (r2, m2)))
noncomputable def f7_noSlot (a1 : Int) (μ : zM) : Option (Bool × zM) :=
  zlt (zsI μ 292 0 0) (fun m1 => zco (f7_within a1 0 1) (fun r1 => (if (zb r1) = 0 then (f7_noSlot_20 a1 1 m1) else (f7_noSlot_20 a1 0 m1))))
def rm7_save : Room := { frames := 2, cells := 0, slots := 0, locals := 51 }
noncomputable def f7_save (a1 : Int) (μ : zM) : Option (Int × zM) :=
  zcl2 (f7_noSlot a1 μ) (fun r1 m1 => (if (zb r1) = 0 then zgl (2256 * a1) (fun v1 => zcm (f7_copies 293 0 296 v1 m1) (fun m2 => zgd (zin a1 (zln 297) ∧ ((1 : Int) = 0 ∨ (1 : Int) = 1)) (zlt (zsI m2 297 (zx a1) 1) (fun m3 => zgd (zin 0 (zln 293)) ((some ((zI m3 293 (zx 0)), m3))))))) else (some (0, m1))))
def rm7_restore : Room := { frames := 2, cells := 0, slots := 0, locals := 51 }
noncomputable def f7_restore_23 (a1 : Int) (s0 : Int) (μ : zM) : Option (Int × zM) :=
  zcl2 (f7_throwsIf s0 2 μ) (fun r2 m2 => (if (zb r2) = 0 then zgl (2256 * a1) (fun v1 => zcm (f7_copies 296 v1 293 0 m2) (fun m3 => zlt (zsI m3 292 7 0) (fun m4 => zgd (zin 0 (zln 293)) ((some ((zI m4 293 (zx 0)), m4)))))) else (some (0, m2))))
noncomputable def f7_restore (a1 : Int) (μ : zM) : Option (Int × zM) :=
  zcl2 (f7_noSlot a1 μ) (fun r1 m1 => (if (zb r1) = 0 then zgd (zin a1 (zln 297)) ((if (zI m1 297 (zx a1)) = 0 then (f7_restore_23 a1 1 m1) else (f7_restore_23 a1 0 m1))) else (some (0, m1))))
