def rm2_clear : Room := { frames := 0, cells := 0, slots := 0, locals := 8 }
noncomputable def f2_clear_43 (t : Nat) (a1 : Int) (k43 : Int → zM → Option zM) (x2 : Int) (μ : zM) : Option zM :=
  (if (60 : Int) < x2 then (some μ) else zgd (zin x2 (zln (zsb t + 8))) (zlt (zsI μ (zsb t + 8) (zx x2) 0) (fun m6 => zgl (x2 + 1) (fun v2 => (k43 v2 m6)))))
noncomputable def f2_clear_22 (t : Nat) (a1 : Int) (k22 : Int → zM → Option zM) (x2 : Int) (μ : zM) : Option zM :=
  (if (10 : Int) ≤ x2 then (zfx (f2_clear_43 t a1) (fun _ _ => none) zFu 0 μ) else zgd (zin x2 (zln (zsb t + 7))) (zlt (zsI μ (zsb t + 7) (zx x2) 0) (fun m5 => zgl (x2 + 1) (fun v1 => (k22 v1 m5)))))
noncomputable def f2_clear (t : Nat) (a1 : Int) (μ : zM) : Option zM :=
  zlt (zsI μ t 2 0) (fun m1 => zlt (zsI m1 t 3 0) (fun m2 => zlt (zsI m2 t 15 a1) (fun m3 => zlt (zsI m3 t 16 a1) (fun m4 => (zfx (f2_clear_22 t a1) (fun _ _ => none) zFu 0 m4)))))
def rm2_setName : Room := { frames := 1, cells := 0, slots := 0, locals := 23 }
noncomputable def f2_setName_13 (t : Nat) (a1 : Nat) (a2 : Int) (a3 : Int) (k13 : Int → zM → Option zM) (x4 : Int) (μ : zM) : Option zM :=
  (if (zI μ t 1) ≤ x4 then (some μ) else zgl (a2 + x4) (fun v2 => zgd (zin v2 (zln a1)) (zgd (zin x4 (zln (zsb t + 1))) (zlt (zsI μ (zsb t + 1) (zx x4) (zI μ a1 (zx v2))) (fun m2 => zgl (x4 + 1) (fun v3 => (k13 v3 m2)))))))
noncomputable def f2_setName (t : Nat) (a1 : Nat) (a2 : Int) (a3 : Int) (μ : zM) : Option zM :=
  zlt (min a3 8) (fun v1 => zlt (zsI μ t 1 v1) (fun m1 => (zfx (f2_setName_13 t a1 a2 a3) (fun _ _ => none) zFu 0 m1)))
def rm2_isNamed : Room := { frames := 0, cells := 0, slots := 0, locals := 8 }
noncomputable def f2_isNamed_13 (t : Nat) (a1 : Nat) (a2 : Int) (a3 : Int) (μ : zM) (k13 : Int → Option Bool) (x4 : Int) : Option Bool :=
  (if (zI μ t 1) ≤ x4 then (some true) else zgd (zin x4 (zln (zsb t + 1))) (zgl (a2 + x4) (fun v1 => zgd (zin v1 (zln a1)) ((if (zI μ (zsb t + 1) (zx x4)) = (zI μ a1 (zx v1)) then zgl (x4 + 1) (fun v2 => (k13 v2)) else (some false))))))
noncomputable def f2_isNamed (t : Nat) (a1 : Nat) (a2 : Int) (a3 : Int) (μ : zM) : Option Bool :=
  (if a3 = (zI μ t 1) then (zfx (f2_isNamed_13 t a1 a2 a3 μ) (fun _ => none) zFu 0) else (some false))
def rm2_addLiteral : Room := { frames := 0, cells := 0, slots := 0, locals := 8 }
noncomputable def f2_addLiteral (t : Nat) (a1 : Int) (a2 : Int) (μ : zM) : Option zM :=
  (if ((zln (zit t) : Nat) : Int) ≤ (zI μ t 16) then (some μ) else zgd (zin (zI μ t 16) (zln (zit t))) (zlt (zsI μ (zit t) (zx (zI μ t 16)) a1) (fun m1 => zgd (zin (zI m1 t 16) (zln (zit t + 1))) (zlt (zsI m1 (zit t + 1) (zx (zI m1 t 16)) a2) (fun m2 => zgl ((zI m2 t 16) + 1) (fun v1 => zlt (zsI m2 t 16 v1) (fun m3 => zgl (a2 + 1) (fun v2 => zgd (zin v2 (zln (zsb t + 8))) (zgl ((zI m3 (zsb t + 8) (zx v2)) + 1) (fun v3 => zgd (zin v2 (zln (zsb t + 8))) (zlt (zsI m3 (zsb t + 8) (zx v2) v3) (fun m4 => (some m4)))))))))))))
def rm2_addOccurrence : Room := { frames := 0, cells := 0, slots := 0, locals := 8 }
noncomputable def f2_addOccurrence_75 (t : Nat) (a1 : Int) (a2 : Int) (x3 : Int) (s0 : Int) (s1 : Int) (s2 : Nat) (μ : zM) : Option (Int × zM) :=
  zgd (zin s1 (zln s2)) (zlt (zsI μ s2 (zx s1) s0) (fun m5 => zgl (-x3) (fun v3 => zgl (v3 - 1) (fun v4 => zgd (zin (zI m5 t 16) (zln (zit t))) (zlt (zsI m5 (zit t) (zx (zI m5 t 16)) v4) (fun m6 => zgd (zin (zI m6 t 16) (zln (zit t + 1))) (zlt (zsI m6 (zit t + 1) (zx (zI m6 t 16)) a2) (fun m7 => zgd (zin x3 (zln (zsb t + 9))) (zlt (zsI m7 (zsb t + 9) (zx x3) (zI m7 t 16)) (fun m8 => zgl ((zI m8 t 16) + 1) (fun v5 => zlt (zsI m8 t 16 v5) (fun m9 => zgl ((zI m9 t 2) + 1) (fun v6 => zlt (zsI m9 t 2 v6) (fun m10 => zlt (zshl 1 a1) (fun v7 => zlt (zor (zI m10 t 3) v7) (fun v8 => zlt (zsI m10 t 3 v8) (fun m11 => (some (x3, m11)))))))))))))))))))
noncomputable def f2_addOccurrence (t : Nat) (a1 : Int) (a2 : Int) (μ : zM) : Option (Int × zM) :=
  zlt ((zI μ t 2) : Int) (fun v1 => (if (60 : Int) ≤ v1 then (some ((-1), μ)) else (if (zI μ t 16) < ((zln (zit t) : Nat) : Int) then zgd (zin v1 (zln (zsb t + 2))) (zlt (zsI μ (zsb t + 2) (zx v1) a1) (fun m1 => zgd (zin v1 (zln (zsb t + 3))) (zlt (zsI m1 (zsb t + 3) (zx v1) 0) (fun m2 => zgd (zin v1 (zln (zsb t + 4)) ∧ ((0 : Int) = 0 ∨ (0 : Int) = 1)) (zlt (zsI m2 (zsb t + 4) (zx v1) 0) (fun m3 => zgd (zin v1 (zln (zsb t + 5))) (zlt (zsI m3 (zsb t + 5) (zx v1) a2) (fun m4 => (if a2 = (-1) then (f2_addOccurrence_75 t a1 a2 v1 0 v1 (zsb t + 6) m4) else zgd (zin a2 (zln (zsb t + 6))) (zgl ((zI m4 (zsb t + 6) (zx a2)) + 1) (fun v2 => (f2_addOccurrence_75 t a1 a2 v1 v2 v1 (zsb t + 6) m4)))))))))))) else (some ((-1), μ)))))
def rm2_addDependence : Room := { frames := 0, cells := 0, slots := 0, locals := 8 }
noncomputable def f2_addDependence_41 (t : Nat) (a1 : Int) (a2 : Int) (k14 : Int → Int → zM → Option zM) (x3 : Int) (x4 : Int) (μ : zM) : Option zM :=
  zgd (zin x4 (zln (zsb t + 7))) (zlt (zor (zI μ (zsb t + 7) (zx x4)) x3) (fun v6 => zgd (zin x4 (zln (zsb t + 7))) (zlt (zsI μ (zsb t + 7) (zx x4) v6) (fun m1 => zgl (x4 + 1) (fun v7 => (k14 x3 v7 m1))))))
noncomputable def f2_addDependence_14 (t : Nat) (a1 : Int) (a2 : Int) (k14 : Int → Int → zM → Option zM) (x3 : Int) (x4 : Int) (μ : zM) : Option zM :=
  (if (10 : Int) ≤ x4 then (some μ) else (if x4 = a1 then (f2_addDependence_41 t a1 a2 k14 x3 x4 μ) else zgd (zin x4 (zln (zsb t + 7))) (zlt (zshr (zI μ (zsb t + 7) (zx x4)) a1) (fun v3 => zlt (zand v3 1) (fun v4 => (if v4 = 0 then zgl (x4 + 1) (fun v5 => (k14 x3 v5 μ)) else (f2_addDependence_41 t a1 a2 k14 x3 x4 μ)))))))
noncomputable def f2_addDependence (t : Nat) (a1 : Int) (a2 : Int) (μ : zM) : Option zM :=
  zgd (zin a2 (zln (zsb t + 7))) (zlt (zshl 1 a2) (fun v1 => zlt (zor (zI μ (zsb t + 7) (zx a2)) v1) (fun v2 => (zfx (f2_addDependence_14 t a1 a2) (fun _ _ _ => none) zFu v2 0 μ))))
def rm2_wouldDependOnItself : Room := { frames := 0, cells := 0, slots := 0, locals := 8 }
noncomputable def f2_wouldDependOnItself (t : Nat) (a1 : Int) (a2 : Int) (μ : zM) : Option Bool :=
  (if a2 = (-1) then (some false) else zgd (zin a2 (zln (zsb t + 2))) (zlt ((zI μ (zsb t + 2) (zx a2)) : Int) (fun v1 => (if a1 = v1 then (some true) else zgd (zin a1 (zln (zsb t + 7))) (zlt (zshr (zI μ (zsb t + 7) (zx a1)) v1) (fun v2 => zlt (zand v2 1) (fun v3 => (if v3 = 0 then (some false) else (some true)))))))))
def rm2_firstItemOf : Room := { frames := 0, cells := 0, slots := 0, locals := 8 }
noncomputable def f2_firstItemOf (t : Nat) (a1 : Int) (μ : zM) : Option Int :=
  (if a1 = (-1) then (some (zI μ t 15)) else zgd (zin a1 (zln (zsb t + 9))) (zgl ((zI μ (zsb t + 9) (zx a1)) + 1) (fun v1 => (some v1))))
def rm2_endItemOf : Room := { frames := 0, cells := 0, slots := 0, locals := 8 }
noncomputable def f2_endItemOf (t : Nat) (a1 : Int) (μ : zM) : Option Int :=
  (if a1 = (-1) then (some (zI μ t 16)) else zgd (zin a1 (zln (zsb t + 10))) ((some (zI μ (zsb t + 10) (zx a1)))))
def rm2_deepest : Room := { frames := 1, cells := 0, slots := 0, locals := 23 }
noncomputable def f2_deepest_4 (t : Nat) (μ : zM) (k4 : Int → Int → Option Int) (x1 : Int) (x2 : Int) : Option Int :=
  (if (zI μ t 2) ≤ x2 then (some x1) else zgd (zin x2 (zln (zsb t + 6))) (zlt (max x1 (zI μ (zsb t + 6) (zx x2))) (fun v1 => zgl (x2 + 1) (fun v2 => (k4 v1 v2)))))
noncomputable def f2_deepest (t : Nat) (μ : zM) : Option Int :=
  (zfx (f2_deepest_4 t μ) (fun _ _ => none) zFu 0 0)
def rm2_countDefaults : Room := { frames := 0, cells := 0, slots := 0, locals := 8 }
noncomputable def f2_countDefaults_4 (t : Nat) (μ : zM) (k4 : Int → Int → Option Int) (x1 : Int) (x2 : Int) : Option Int :=
  (if (zI μ t 2) ≤ x2 then (some x1) else zgd (zin x2 (zln (zsb t + 4))) ((if (zI μ (zsb t + 4) (zx x2)) = 0 then zgl (x2 + 1) (fun v1 => (k4 x1 v1)) else zgl (x1 + 1) (fun v2 => zgl (x2 + 1) (fun v3 => (k4 v2 v3))))))
noncomputable def f2_countDefaults (t : Nat) (μ : zM) : Option Int :=
  (zfx (f2_countDefaults_4 t μ) (fun _ _ => none) zFu 0 0)
def rm2_countLiterals : Room := { frames := 0, cells := 0, slots := 0, locals := 8 }
noncomputable def f2_countLiterals (t : Nat) (μ : zM) : Option Int :=
  zgl ((zI μ t 16) - (zI μ t 15)) (fun v1 => zgl (v1 - (zI μ t 2)) (fun v2 => (some v2)))
def rm2_countOf : Room := { frames := 0, cells := 0, slots := 0, locals := 8 }
noncomputable def f2_countOf_4 (t : Nat) (a1 : Int) (μ : zM) (k4 : Int → Int → Option Int) (x2 : Int) (x3 : Int) : Option Int :=
  (if (zI μ t 2) ≤ x3 then (some x2) else zgd (zin x3 (zln (zsb t + 2))) ((if (zI μ (zsb t + 2) (zx x3)) = a1 then zgl (x2 + 1) (fun v2 => zgl (x3 + 1) (fun v3 => (k4 v2 v3))) else zgl (x3 + 1) (fun v1 => (k4 x2 v1)))))
noncomputable def f2_countOf (t : Nat) (a1 : Int) (μ : zM) : Option Int :=
  (zfx (f2_countOf_4 t a1 μ) (fun _ _ => none) zFu 0 0)
