def rm5_countBytes : Room := { frames := 0, cells := 0, slots := 0, locals := 8 }
noncomputable def f5_countBytes_5 (a1 : Int) (k5 : Int → Int → Option Int) (x1 : Int) (x2 : Int) : Option Int :=
  (if x2 < 0 then (some x1) else zlt (zushr a1 x2) (fun v1 => zlt (zand v1 255) (fun v2 => (if v2 = 0 then zgl (x2 + (-8)) (fun v3 => (k5 x1 v3)) else zgl (x1 + 1) (fun v4 => zgl (x2 + (-8)) (fun v5 => (k5 v4 v5)))))))
noncomputable def f5_countBytes (a1 : Int) : Option Int :=
  (zfx (f5_countBytes_5 a1) (fun _ _ => none) zFu 0 24)
def rm5_bufferBytes : Room := { frames := 0, cells := 0, slots := 0, locals := 8 }
noncomputable def f5_bufferBytes_3 (a1 : Int) (k3 : Int → zM → Option zM) (x2 : Int) (μ : zM) : Option zM :=
  (if x2 < 0 then (some μ) else zlt (zushr a1 x2) (fun v1 => zlt (zand v1 255) (fun v2 => (if v2 = 0 then zgl (x2 + (-8)) (fun v3 => (k3 v3 μ)) else (if (700 : Int) ≤ (zI μ 1 1) then zgl (x2 + (-8)) (fun v4 => (k3 v4 μ)) else zgd (zin (zI μ 1 1) (zln 2)) (zlt (zsI μ 2 (zx (zI μ 1 1)) v2) (fun m1 => zgl ((zI m1 1 1) + 1) (fun v5 => zlt (zsI m1 1 1 v5) (fun m2 => zgl (x2 + (-8)) (fun v6 => (k3 v6 m2)))))))))))
noncomputable def f5_bufferBytes (a1 : Int) (μ : zM) : Option zM :=
  (zfx (f5_bufferBytes_3 a1) (fun _ _ => none) zFu 24 μ)
def rm5_append : Room := { frames := 6, cells := 1, slots := 6, locals := 90 }
noncomputable def f5_append (a1 : Int) (a2 : Int) (a3 : Int) (a4 : Int) (a5 : Int) (μ : zM) : Option ((String ⊕ Int) × zM) :=
  zco (f5_countBytes a1) (fun r1 => zco (f5_countBytes a2) (fun r2 => zgl (r1 + r2) (fun v1 => zco (f5_countBytes a3) (fun r3 => zgl (v1 + r3) (fun v2 => zco (f5_countBytes a4) (fun r4 => zgl (v2 + r4) (fun v3 => zco (f5_countBytes a5) (fun r5 => zgl (v3 + r5) (fun v4 => zgl ((zI μ 1 1) + v4) (fun v5 => (if v5 ≤ 700 then zcm (f5_bufferBytes a1 μ) (fun m1 => zcm (f5_bufferBytes a2 m1) (fun m2 => zcm (f5_bufferBytes a3 m2) (fun m3 => zcm (f5_bufferBytes a4 m3) (fun m4 => zcm (f5_bufferBytes a5 m4) (fun m5 => (some (.inr (zI m5 1 1), m5))))))) else (some (.inl "java/lang/IllegalStateException", μ)))))))))))))
def rm5_load : Room := { frames := 9, cells := 0, slots := 0, locals := 270 }
noncomputable def f5_load_87 (k87 : Int → zM → Option (Int × zM)) (x1 : Int) (μ : zM) : Option (Int × zM) :=
  (if (2 : Int) ≤ x1 then (some ((zI μ (zR μ 1 2) 1), μ)) else zgd (zin x1 (zln 6) ∧ ((0 : Int) = 0 ∨ (0 : Int) = 1)) (zlt (zsI μ 6 (zx x1) 0) (fun m9 => zgl (x1 + 1) (fun v1 => (k87 v1 m9)))))
noncomputable def f5_load (μ : zM) : Option (Int × zM) :=
  zcm (f1_readLibrary 2 (zI μ 1 1) μ) (fun m1 => zlt (zsI m1 1 1 0) (fun m2 => zlt (zsI m2 1 4 (zI m2 99 6)) (fun m3 => zlt (zsI m3 1 5 (zI m3 99 7)) (fun m4 => (if (zI m4 1 4) = 0 then zcl2 (f1_exchange (zR m4 1 2) m4) (fun r1 m5 => zlt (zsR m5 1 2 r1) (fun m6 => zcm (f3_clear 193 (zI m6 (zR m6 1 2) 2) m6) (fun m7 => zlt (zsI m7 1 10 0) (fun m8 => (zfx (f5_load_87) (fun _ _ => none) zFu 0 m8))))) else (some ((-1), m4)))))))
def rm5_errorCode : Room := { frames := 0, cells := 0, slots := 0, locals := 8 }
noncomputable def f5_errorCode (μ : zM) : Option Int :=
  (some (zI μ 1 4))
def rm5_errorPosition : Room := { frames := 0, cells := 0, slots := 0, locals := 8 }
noncomputable def f5_errorPosition (μ : zM) : Option Int :=
  (some (zI μ 1 5))
def rm5_find : Room := { frames := 2, cells := 0, slots := 0, locals := 56 }
noncomputable def f5_find (μ : zM) : Option (Int × zM) :=
  zco (f0_indexOf (zR μ 1 2) 2 0 (zI μ 1 1) μ) (fun r1 => zlt (zsI μ 1 1 0) (fun m1 => (some (r1, m1))))
def rm5_size : Room := { frames := 6, cells := 1, slots := 6, locals := 90 }
noncomputable def f5_size (a1 : Int) (μ : zM) : Option ((String ⊕ Int) × zM) :=
  (if a1 = 0 then (some (.inr (zI μ (zR μ 1 2) 1), μ)) else (if a1 = 1 then (some (.inr (zI μ 193 1), μ)) else (if a1 = 2 then (some (.inr (zI μ 193 8), μ)) else (if a1 = 3 then (if (zI μ 193 0) = 0 then (some (.inr 0, μ)) else (some (.inr 1, μ))) else (if a1 = 4 then (some (.inr (zI μ 1 1), μ)) else (if a1 = 5 then (some (.inr (zI μ 1 10), μ)) else (some (.inl "java/lang/IllegalArgumentException", μ))))))))
def rm5_requireSnippet : Room := { frames := 6, cells := 1, slots := 6, locals := 90 }
noncomputable def f5_requireSnippet_15 (a1 : Int) (μ : zM) : Option ((String ⊕ Nat) × zM) :=
  (some (.inl "java/lang/IndexOutOfBoundsException", μ))
noncomputable def f5_requireSnippet (a1 : Int) (μ : zM) : Option ((String ⊕ Nat) × zM) :=
  (if a1 < 0 then (f5_requireSnippet_15 a1 μ) else (if a1 < (zI μ (zR μ 1 2) 1) then zgd (zin a1 (zln ((zR μ 1 2) + 1))) ((some (.inr (((zR μ 1 2) + 4) + 11 * (zx a1)), μ))) else (f5_requireSnippet_15 a1 μ)))
def rm5_snippet : Room := { frames := 7, cells := 2, slots := 12, locals := 111 }
noncomputable def f5_snippet (a1 : Int) (a2 : Int) (μ : zM) : Option ((String ⊕ Int) × zM) :=
  zcx (f5_requireSnippet a1 μ) (fun r1 m1 => (if a2 = 0 then (some (.inr (zI m1 r1 1), m1)) else (if a2 = 1 then (some (.inr (zI m1 r1 2), m1)) else (if a2 = 2 then (some (.inr (zI m1 r1 3), m1)) else (if a2 = 3 then zco (f2_deepest r1 m1) (fun r2 => (some (.inr r2, m1))) else (if a2 = 4 then zco (f2_countDefaults r1 m1) (fun r3 => (some (.inr r3, m1))) else (if a2 = 5 then zco (f2_countLiterals r1 m1) (fun r4 => (some (.inr r4, m1))) else (some (.inl "java/lang/IllegalArgumentException", m1)))))))))
def rm5_letter : Room := { frames := 7, cells := 1, slots := 6, locals := 111 }
noncomputable def f5_letter (a1 : Int) (a2 : Int) (μ : zM) : Option ((String ⊕ Int) × zM) :=
  zcx (f5_requireSnippet a1 μ) (fun r1 m1 => (if a2 < 0 then (some (.inr (-1), m1)) else (if (zI m1 r1 1) ≤ a2 then (some (.inr (-1), m1)) else zgd (zin a2 (zln (zsb r1 + 1))) ((some (.inr (zI m1 (zsb r1 + 1) (zx a2)), m1))))))
def rm5_requireField : Room := { frames := 6, cells := 1, slots := 6, locals := 90 }
noncomputable def f5_requireField_10 (a1 : Int) (μ : zM) : Option ((String ⊕ Unit) × zM) :=
  (some (.inl "java/lang/IndexOutOfBoundsException", μ))
noncomputable def f5_requireField (a1 : Int) (μ : zM) : Option ((String ⊕ Unit) × zM) :=
  (if a1 < 0 then (f5_requireField_10 a1 μ) else (if a1 < 10 then (some (.inr (), μ)) else (f5_requireField_10 a1 μ)))
def rm5_depends : Room := { frames := 7, cells := 2, slots := 12, locals := 111 }
noncomputable def f5_depends (a1 : Int) (a2 : Int) (μ : zM) : Option ((String ⊕ Int) × zM) :=
  zcx (f5_requireSnippet a1 μ) (fun r1 m1 => zcx (f5_requireField a2 m1) (fun r2 m2 => zgd (zin a2 (zln (zsb r1 + 7))) ((some (.inr (zI m2 (zsb r1 + 7) (zx a2)), m2)))))
def rm5_document : Room := { frames := 6, cells := 1, slots := 6, locals := 90 }
noncomputable def f5_document_15 (a1 : Int) (μ : zM) : Option ((String ⊕ Int) × zM) :=
  (some (.inl "java/lang/IndexOutOfBoundsException", μ))
noncomputable def f5_document (a1 : Int) (μ : zM) : Option ((String ⊕ Int) × zM) :=
  (if a1 < 0 then (f5_document_15 a1 μ) else (if a1 < (zI μ 193 8) then zgd (zin a1 (zln 199)) ((some (.inr (zI μ 199 (zx a1)), μ))) else (f5_document_15 a1 μ)))
def rm5_takeSession : Room := { frames := 2, cells := 0, slots := 0, locals := 86 }
noncomputable def f5_takeSession (a1 : Int) (μ : zM) : Option zM :=
  zgd (zin a1 (zln 194)) (zgd (zin (zI μ 194 (zx a1)) (zln ((zR μ 1 2) + 1))) (zcm (f4_take (((zR μ 1 2) + 4) + 11 * (zx (zI μ 194 (zx a1)))) 193 a1 μ) (fun m1 => (some m1))))
def rm5_measuredText : Room := { frames := 4, cells := 0, slots := 0, locals := 107 }
noncomputable def f5_measuredText (a1 : Int) (μ : zM) : Option (Int × zM) :=
  zcm (f5_takeSession a1 μ) (fun m1 => zcm (f4_measure m1) (fun m2 => (some ((zL m2 200 8), m2))))
def rm5_liveFields : Room := { frames := 4, cells := 0, slots := 0, locals := 107 }
noncomputable def f5_liveFields (a1 : Int) (μ : zM) : Option (Int × zM) :=
  zcm (f5_takeSession a1 μ) (fun m1 => zcm (f4_measure m1) (fun m2 => (some ((zI m2 200 3), m2))))
def rm5_session : Room := { frames := 6, cells := 1, slots := 6, locals := 128 }
noncomputable def f5_session_15 (a1 : Int) (a2 : Int) (μ : zM) : Option ((String ⊕ Int) × zM) :=
  (some (.inl "java/lang/IndexOutOfBoundsException", μ))
noncomputable def f5_session (a1 : Int) (a2 : Int) (μ : zM) : Option ((String ⊕ Int) × zM) :=
  (if a1 < 0 then (f5_session_15 a1 a2 μ) else (if a1 < (zI μ 193 1) then (if a2 = 0 then zgd (zin a1 (zln 194)) ((some (.inr (zI μ 194 (zx a1)), μ))) else (if a2 = 1 then zgd (zin a1 (zln 195)) ((some (.inr (zI μ 195 (zx a1)), μ))) else (if a2 = 2 then zgd (zin a1 (zln 196)) ((some (.inr (zI μ 196 (zx a1)), μ))) else (if a2 = 3 then zcl2 (f5_measuredText a1 μ) (fun r1 m1 => zgl (r1) (fun v1 => (some (.inr v1, m1)))) else (if a2 = 4 then zcl2 (f5_liveFields a1 μ) (fun r2 m2 => (some (.inr r2, m2))) else (some (.inl "java/lang/IllegalArgumentException", μ))))))) else (f5_session_15 a1 a2 μ)))
def rm5_account : Room := { frames := 6, cells := 1, slots := 6, locals := 90 }
noncomputable def f5_account_10 (a1 : Int) (μ : zM) : Option ((String ⊕ Int) × zM) :=
  (some (.inl "java/lang/IllegalArgumentException", μ))
noncomputable def f5_account (a1 : Int) (μ : zM) : Option ((String ⊕ Int) × zM) :=
  (if a1 < 0 then (f5_account_10 a1 μ) else (if a1 ≤ 9 then zgd (zin a1 (zln 3)) ((some (.inr (zI μ 3 (zx a1)), μ))) else (f5_account_10 a1 μ)))
def rm5_requireSession : Room := { frames := 6, cells := 1, slots := 6, locals := 90 }
noncomputable def f5_requireSession (μ : zM) : Option ((String ⊕ Int) × zM) :=
  (if (zI μ 193 1) = 0 then (some (.inl "java/lang/IllegalStateException", μ)) else zgl ((zI μ 193 1) - 1) (fun v1 => (some (.inr v1, μ))))
def rm5_lookAt : Room := { frames := 4, cells := 0, slots := 0, locals := 107 }
noncomputable def f5_lookAt (a1 : Int) (μ : zM) : Option zM :=
  zcm (f5_takeSession a1 μ) (fun m1 => zcm (f4_measure m1) (fun m2 => zcm (f4_arrangeOrder (zI m2 193 0) m2) (fun m3 => (some m3))))
def rm5_lookAtInnermost : Room := { frames := 7, cells := 1, slots := 6, locals := 128 }
noncomputable def f5_lookAtInnermost (μ : zM) : Option ((String ⊕ Unit) × zM) :=
  zcx (f5_requireSession μ) (fun r1 m1 => zcm (f5_lookAt r1 m1) (fun m2 => (some (.inr (), m2))))
def rm5_field : Room := { frames := 8, cells := 3, slots := 18, locals := 148 }
noncomputable def f5_field_14 (a1 : Int) (a2 : Int) (μ : zM) : Option ((String ⊕ Int) × zM) :=
  (some (.inl "java/lang/IllegalArgumentException", μ))
noncomputable def f5_field (a1 : Int) (a2 : Int) (μ : zM) : Option ((String ⊕ Int) × zM) :=
  zcx (f5_requireField a1 μ) (fun r1 m1 => (if a2 < 0 then (f5_field_14 a1 a2 m1) else (if a2 ≤ 6 then zcx (f5_lookAtInnermost m1) (fun r2 m2 => (if a2 = 0 then zco (f4_isLive a1 m2) (fun r3 => (if (zb r3) = 0 then (some (.inr 0, m2)) else (some (.inr 1, m2)))) else (if a2 = 1 then zco (f4_isTyped a1 m2) (fun r4 => (if (zb r4) = 0 then (some (.inr 0, m2)) else (some (.inr 1, m2)))) else (if a2 = 2 then zgd (zin a1 (zln 204)) ((some (.inr (zI m2 204 (zx a1)), m2))) else (if a2 = 3 then zgd (zin a1 (zln 203)) ((some (.inr (zI m2 203 (zx a1)), m2))) else (if a2 = 4 then zco (f4_placeOf a1 m2) (fun r5 => (some (.inr r5, m2))) else (if a2 = 5 then zgd (zin a1 (zln 205)) (zgl ((zL m2 205 (zx a1))) (fun v1 => (some (.inr v1, m2)))) else zco (f2_countOf (zR m2 200 0) a1 m2) (fun r6 => (some (.inr r6, m2)))))))))) else (f5_field_14 a1 a2 m1))))
def rm5_value : Room := { frames := 8, cells := 2, slots := 12, locals := 148 }
noncomputable def f5_value (a1 : Int) (a2 : Int) (μ : zM) : Option ((String ⊕ Int) × zM) :=
  zcx (f5_requireField a1 μ) (fun r1 m1 => zcx (f5_lookAtInnermost m1) (fun r2 m2 => zcm (f4_renderValues m2) (fun m3 => zco (f4_valueByte a1 a2 m3) (fun r3 => (some (.inr r3, m3))))))
def rm5_occurrence : Room := { frames := 8, cells := 2, slots := 12, locals := 148 }
noncomputable def f5_occurrence_24 (a1 : Int) (a2 : Int) (μ : zM) : Option ((String ⊕ Int) × zM) :=
  (some (.inl "java/lang/IndexOutOfBoundsException", μ))
noncomputable def f5_occurrence (a1 : Int) (a2 : Int) (μ : zM) : Option ((String ⊕ Int) × zM) :=
  zcx (f5_lookAtInnermost μ) (fun r1 m1 => (if a1 < 0 then (f5_occurrence_24 a1 a2 m1) else (if a1 < (zI m1 (zR m1 200 0) 2) then (if a2 = 0 then zgd (zin a1 (zln (zsb (zR m1 200 0) + 2))) ((some (.inr (zI m1 (zsb (zR m1 200 0) + 2) (zx a1)), m1))) else (if a2 = 1 then zgd (zin a1 (zln (zsb (zR m1 200 0) + 3))) ((some (.inr (zI m1 (zsb (zR m1 200 0) + 3) (zx a1)), m1))) else (if a2 = 2 then zgd (zin a1 (zln (zsb (zR m1 200 0) + 4))) ((if (zI m1 (zsb (zR m1 200 0) + 4) (zx a1)) = 0 then (some (.inr 0, m1)) else (some (.inr 1, m1)))) else (if a2 = 3 then zgd (zin a1 (zln (zsb (zR m1 200 0) + 5))) ((some (.inr (zI m1 (zsb (zR m1 200 0) + 5) (zx a1)), m1))) else (if a2 = 4 then zgd (zin a1 (zln 202)) ((if (zI m1 202 (zx a1)) = 0 then (some (.inr 0, m1)) else (some (.inr 1, m1)))) else (if a2 = 5 then zco (f4_isDefaultShown a1 m1) (fun r2 => (if (zb r2) = 0 then (some (.inr 0, m1)) else (some (.inr 1, m1)))) else (if a2 = 6 then zco (f4_changedLength a1 m1) (fun r3 => zgl (r3) (fun v1 => (some (.inr v1, m1)))) else (if a2 = 7 then zco (f4_startOf a1 m1) (fun r4 => (some (.inr r4, m1))) else (some (.inl "java/lang/IllegalArgumentException", m1)))))))))) else (f5_occurrence_24 a1 a2 m1))))
def rm5_text : Room := { frames := 8, cells := 1, slots := 6, locals := 148 }
noncomputable def f5_text (a1 : Int) (μ : zM) : Option ((String ⊕ Int) × zM) :=
  zcx (f5_lookAtInnermost μ) (fun r1 m1 => (if a1 < 0 then (some (.inr (-1), m1)) else zlt (zcmp a1 (zL m1 200 8)) (fun v1 => (if v1 < 0 then zcm (f4_renderText m1) (fun m2 => zgd (zin a1 (zln 208)) ((some (.inr (zI m2 208 (zx a1)), m2)))) else (some (.inr (-1), m1))))))
def rm5_orderAt : Room := { frames := 8, cells := 1, slots := 6, locals := 148 }
noncomputable def f5_orderAt (a1 : Int) (μ : zM) : Option ((String ⊕ Int) × zM) :=
  zcx (f5_lookAtInnermost μ) (fun r1 m1 => (if a1 < 0 then (some (.inr (-1), m1)) else (if (zI m1 200 10) ≤ a1 then (some (.inr (-1), m1)) else zgd (zin a1 (zln 206)) ((some (.inr (zI m1 206 (zx a1)), m1))))))
def rm5_why : Room := { frames := 8, cells := 2, slots := 12, locals := 148 }
noncomputable def f5_why (a1 : Int) (μ : zM) : Option ((String ⊕ Int) × zM) :=
  zcx (f5_requireField a1 μ) (fun r1 m1 => zcx (f5_lookAtInnermost m1) (fun r2 m2 => zco (f4_reasonNotLive a1 m2) (fun r3 => (some (.inr r3, m2)))))
def rm5_yielded : Room := { frames := 8, cells := 1, slots := 6, locals := 148 }
noncomputable def f5_yielded (μ : zM) : Option ((String ⊕ Int) × zM) :=
  zcx (f5_lookAtInnermost μ) (fun r1 m1 => zco (f4_countYielded m1) (fun r2 => (some (.inr r2, m1))))
def rm5_mirrored : Room := { frames := 8, cells := 1, slots := 6, locals := 148 }
noncomputable def f5_mirrored (μ : zM) : Option ((String ⊕ Int) × zM) :=
  zcx (f5_lookAtInnermost μ) (fun r1 m1 => zco (f4_countMirrored m1) (fun r2 => (some (.inr r2, m1))))
def rm5_longest : Room := { frames := 8, cells := 1, slots := 6, locals := 148 }
noncomputable def f5_longest (μ : zM) : Option ((String ⊕ Int) × zM) :=
  zcx (f5_lookAtInnermost μ) (fun r1 m1 => zco (f4_fieldOfLongestValue m1) (fun r2 => (some (.inr r2, m1))))
def rm5_untouched : Room := { frames := 8, cells := 1, slots := 6, locals := 148 }
noncomputable def f5_untouched (μ : zM) : Option ((String ⊕ UInt32) × zM) :=
  zcx (f5_lookAtInnermost μ) (fun r1 m1 => zco (fJ_bitCount (zI m1 200 3)) (fun r2 => zlt (zxor (zI m1 200 1) (-1)) (fun v1 => zlt (zand (zI m1 200 3) v1) (fun v2 => zco (fJ_bitCount v2) (fun r3 => (if r2 = 0 then (some (.inr 0, m1)) else zgd (vf_n32 (FP.fdiv (FP.i2f (zi r3)) (FP.i2f (zi r2)))) ((some (.inr (FP.fdiv (FP.i2f (zi r3)) (FP.i2f (zi r2))), m1)))))))))
def rm5_meanLength : Room := { frames := 8, cells := 1, slots := 6, locals := 148 }
noncomputable def f5_meanLength (μ : zM) : Option ((String ⊕ UInt64) × zM) :=
  zcx (f5_lookAtInnermost μ) (fun r1 m1 => zco (fJ_bitCount (zI m1 200 3)) (fun r2 => (if r2 = 0 then (some (.inr 0, m1)) else zco (f4_lengthOfLiveValues m1) (fun r3 => zgd (vf_n64 (FP.ddiv (FP.l2d (zl r3)) (FP.i2d (zi r2)))) ((some (.inr (FP.ddiv (FP.l2d (zl r3)) (FP.i2d (zi r2))), m1)))))))
def rm5_requireBytesAtOnce : Room := { frames := 6, cells := 1, slots := 6, locals := 90 }
noncomputable def f5_requireBytesAtOnce_11 (a1 : Int) (μ : zM) : Option ((String ⊕ Unit) × zM) :=
  (some (.inl "java/lang/IllegalArgumentException", μ))
noncomputable def f5_requireBytesAtOnce (a1 : Int) (μ : zM) : Option ((String ⊕ Unit) × zM) :=
  (if a1 < 1 then (f5_requireBytesAtOnce_11 a1 μ) else (if a1 ≤ 20 then (some (.inr (), μ)) else (f5_requireBytesAtOnce_11 a1 μ)))
def rm5_textIfTyped : Room := { frames := 4, cells := 0, slots := 0, locals := 107 }
noncomputable def f5_textIfTyped (a1 : Int) (a2 : Int) (a3 : Int) (μ : zM) : Option (Int × zM) :=
  zcm (f5_takeSession a1 μ) (fun m1 => zcm (f4_supposeTyped a2 a3 m1) (fun m2 => zcm (f4_measure m2) (fun m3 => (some ((zL m3 200 8), m3)))))
def rm5_lengthIf : Room := { frames := 7, cells := 2, slots := 12, locals := 130 }
noncomputable def f5_lengthIf (a1 : Int) (μ : zM) : Option ((String ⊕ Int) × zM) :=
  zcx (f5_requireBytesAtOnce a1 μ) (fun r1 m1 => zcx (f5_requireSession m1) (fun r2 m2 => zgd (zin r2 (zln 195)) (zlt ((zI m2 195 (zx r2)) : Int) (fun v1 => zco (f3_typedLength 193 r2 v1 m2) (fun r3 => zgl (r3 + a1) (fun v2 => (if v2 ≤ 40 then zcl2 (f5_textIfTyped r2 v1 v2 m2) (fun r4 m3 => zlt (zcmp r4 400) (fun v3 => (if v3 ≤ 0 then zgl (r4) (fun v4 => (some (.inr v4, m3))) else (some (.inr (-1), m3))))) else (some (.inr (-1), m2)))))))))
def rm5_wouldHide : Room := { frames := 8, cells := 2, slots := 12, locals := 148 }
noncomputable def f5_wouldHide (a1 : Int) (μ : zM) : Option ((String ⊕ Int) × zM) :=
  zcx (f5_requireField a1 μ) (fun r1 m1 => zcx (f5_lookAtInnermost m1) (fun r2 m2 => zco (f4_isTyped a1 m2) (fun r3 => (if (zb r3) = 0 then zlt ((zI m2 200 3) : Int) (fun v1 => zcm (f4_supposeTyped a1 0 m2) (fun m3 => zcm (f4_measure m3) (fun m4 => zlt (zxor (zI m4 200 3) (-1)) (fun v2 => zlt (zand v1 v2) (fun v3 => (some (.inr v3, m4))))))) else (some (.inr 0, m2))))))
def rm5_lengthOf : Room := { frames := 7, cells := 1, slots := 6, locals := 111 }
noncomputable def f5_lengthOf (a1 : Int) (μ : zM) : Option ((String ⊕ Int) × zM) :=
  zcx (f5_requireSnippet a1 μ) (fun r1 m1 => zcm (f4_takeUntouched r1 m1) (fun m2 => zcm (f4_measure m2) (fun m3 => zlt (min (zL m3 200 8) 100000) (fun w1 => zgl (w1) (fun v1 => (some (.inr v1, m3)))))))
def rm5_refuse : Room := { frames := 0, cells := 0, slots := 0, locals := 8 }
noncomputable def f5_refuse (a1 : Int) (μ : zM) : Option (Int × zM) :=
  zgd (zin a1 (zln 3)) (zgl ((zI μ 3 (zx a1)) + 1) (fun v1 => zgd (zin a1 (zln 3)) (zlt (zsI μ 3 (zx a1) v1) (fun m1 => zgl (-a1) (fun v2 => (some (v2, m1)))))))
def rm5_reasonNotToEnd : Room := { frames := 5, cells := 0, slots := 0, locals := 130 }
noncomputable def f5_reasonNotToEnd (a1 : Int) (a2 : Int) (μ : zM) : Option (Int × zM) :=
  (if a1 = 0 then zgL ((zI μ 193 8) + a2) (fun w2 => zlt (zcmp w2 600) (fun v6 => (if v6 ≤ 0 then (some (0, μ)) else (some (9, μ))))) else zgl (a1 - 1) (fun v1 => zgd (zin v1 (zln 195)) (zlt ((zI μ 195 (zx v1)) : Int) (fun v2 => zco (f3_typedLength 193 v1 v2 μ) (fun r1 => zgL (r1 + a2) (fun w1 => zlt (zcmp w1 40) (fun v3 => (if v3 ≤ 0 then zgl (w1) (fun v4 => zcl2 (f5_textIfTyped v1 v2 v4 μ) (fun r2 m1 => zlt (zcmp r2 400) (fun v5 => (if v5 ≤ 0 then (some (0, m1)) else (some (3, m1)))))) else (some (4, μ))))))))))
def rm5_keepForUndo : Room := { frames := 2, cells := 0, slots := 0, locals := 81 }
noncomputable def f5_keepForUndo (μ : zM) : Option zM :=
  zgd (zin 0 (zln 3)) (zgl ((zI μ 3 (zx 0)) + 1) (fun v1 => zgd (zin 0 (zln 3)) (zlt (zsI μ 3 (zx 0) v1) (fun m1 => zgd (zin (zI m1 1 9) (zln 4)) (zcm (f3_copyFrom (222 + 7 * (zx (zI m1 1 9))) 193 m1) (fun m2 => zgl ((zI m2 1 9) + 1) (fun v2 => zlt (zrem v2 8) (fun v3 => zlt (zsI m2 1 9 v3) (fun m3 => zgl ((zI m3 1 10) + 1) (fun v4 => zlt (min v4 8) (fun v5 => zlt (zsI m3 1 10 v5) (fun m4 => (some m4)))))))))))))
def rm5_endSession : Room := { frames := 5, cells := 0, slots := 0, locals := 130 }
noncomputable def f5_endSession_76 (x1 : Int) (μ : zM) : Option zM :=
  zlt (zsI μ 193 1 x1) (fun m5 => (some m5))
noncomputable def f5_endSession (μ : zM) : Option zM :=
  zgl ((zI μ 193 1) - 1) (fun v1 => zcl2 (f5_measuredText v1 μ) (fun r1 m1 => zgl (r1) (fun v2 => zcm (f4_renderText m1) (fun m2 => (if v1 = 0 then zcm (f3_appendToDocument 193 208 v2 m2) (fun m4 => (f5_endSession_76 v1 m4)) else zgl (v1 - 1) (fun v3 => zgl (v1 - 1) (fun v4 => zgd (zin v4 (zln 195)) (zcm (f3_typeBehind 193 v3 (zI m2 195 (zx v4)) 208 0 v2 m2) (fun m3 => (f5_endSession_76 v1 m3))))))))))
def rm5_expand : Room := { frames := 7, cells := 1, slots := 6, locals := 157 }
noncomputable def f5_expand_157 (a1 : Int) (μ : zM) : Option ((String ⊕ Int) × zM) :=
  (some (.inr (zI μ 193 1), μ))
noncomputable def f5_expand_110 (a1 : Int) (x3 : Int) (μ : zM) : Option ((String ⊕ Int) × zM) :=
  zcm (f4_arrangeOrder (zI μ 193 0) μ) (fun m8 => zgd (zin 0 (zln 206)) (zlt ((zI m8 206 (zx 0)) : Int) (fun v2 => zcm (f5_keepForUndo m8) (fun m9 => zcm (f3_push 193 a1 v2 m9) (fun m10 => (if x3 = 0 then (f5_expand_157 a1 m10) else zcm (f5_endSession m10) (fun m11 => (f5_expand_157 a1 m11))))))))
noncomputable def f5_expand_73 (a1 : Int) (s0 : Int) (μ : zM) : Option ((String ⊕ Int) × zM) :=
  (if s0 = 0 then (f5_expand_110 a1 s0 μ) else zcl2 (f5_reasonNotToEnd (zI μ 193 1) (zL μ 200 8) μ) (fun r4 m6 => (if r4 = 0 then (f5_expand_110 a1 s0 m6) else zcl2 (f5_refuse r4 m6) (fun r5 m7 => (some (.inr r5, m7))))))
noncomputable def f5_expand (a1 : Int) (μ : zM) : Option ((String ⊕ Int) × zM) :=
  zcx (f5_requireSnippet a1 μ) (fun r1 m1 => (if (zI m1 193 1) < 4 then zcm (f4_takeUntouched r1 m1) (fun m2 => zcm (f4_measure m2) (fun m3 => zlt (zcmp (zL m3 200 8) 400) (fun v1 => (if v1 ≤ 0 then (if (zI m3 200 3) = 0 then (f5_expand_73 a1 1 m3) else (f5_expand_73 a1 0 m3)) else zcl2 (f5_refuse 3 m3) (fun r2 m4 => (some (.inr r2, m4))))))) else zcl2 (f5_refuse 2 m1) (fun r3 m5 => (some (.inr r3, m5)))))
def rm5_typeFromBuffer : Room := { frames := 5, cells := 0, slots := 0, locals := 130 }
noncomputable def f5_typeFromBuffer (a1 : Int) (μ : zM) : Option (Int × zM) :=
  (if (zI μ 193 1) = 0 then zcl2 (f5_refuse 1 μ) (fun r5 m6 => (some (r5, m6))) else zgl ((zI μ 193 1) - 1) (fun v1 => zgd (zin v1 (zln 195)) (zlt ((zI μ 195 (zx v1)) : Int) (fun v2 => zco (f3_typedLength 193 v1 v2 μ) (fun r1 => zgl (r1 + a1) (fun v3 => (if v3 ≤ 40 then zcl2 (f5_textIfTyped v1 v2 v3 μ) (fun r2 m1 => zlt (zcmp r2 400) (fun v4 => (if v4 ≤ 0 then zcm (f5_keepForUndo m1) (fun m2 => zcm (f3_typeBehind 193 v1 v2 2 0 a1 m2) (fun m3 => (some (v3, m3)))) else zcl2 (f5_refuse 3 m1) (fun r3 m4 => (some (r3, m4)))))) else zcl2 (f5_refuse 4 μ) (fun r4 m5 => (some (r4, m5))))))))))
def rm5_type : Room := { frames := 7, cells := 2, slots := 12, locals := 154 }
noncomputable def f5_type (a1 : Int) (μ : zM) : Option ((String ⊕ Int) × zM) :=
  zcx (f5_requireBytesAtOnce a1 μ) (fun r1 m1 => (if a1 ≤ (zI m1 1 1) then zcl2 (f5_typeFromBuffer a1 m1) (fun r2 m2 => zlt (zsI m2 1 1 0) (fun m3 => (some (.inr r2, m3)))) else (some (.inl "java/util/NoSuchElementException", m1))))
def rm5_erase : Room := { frames := 5, cells := 0, slots := 0, locals := 130 }
noncomputable def f5_erase (μ : zM) : Option (Int × zM) :=
  (if (zI μ 193 1) = 0 then zcl2 (f5_refuse 1 μ) (fun r5 m11 => (some (r5, m11))) else zgl ((zI μ 193 1) - 1) (fun v1 => zgd (zin v1 (zln 195)) (zlt ((zI μ 195 (zx v1)) : Int) (fun v2 => zcm (f5_lookAt v1 μ) (fun m1 => zgd (zin v2 (zln 205)) (zgl ((zL m1 205 (zx v2))) (fun v3 => zgl (v3 - 1) (fun v4 => (if (0 : Int) ≤ v4 then (if v4 ≤ 40 then zcl2 (f5_textIfTyped v1 v2 v4 m1) (fun r1 m2 => zlt (zcmp r1 400) (fun v5 => (if v5 ≤ 0 then zcm (f5_keepForUndo m2) (fun m3 => zcm (f5_lookAt v1 m3) (fun m4 => zcm (f4_renderValues m4) (fun m5 => zcm (f3_makeNotTyped 193 v1 v2 m5) (fun m6 => zgl (v2 * 400) (fun v6 => zcm (f3_typeBehind 193 v1 v2 207 v6 v4 m6) (fun m7 => (some (v4, m7)))))))) else zcl2 (f5_refuse 3 m2) (fun r2 m8 => (some (r2, m8)))))) else zcl2 (f5_refuse 4 m1) (fun r3 m9 => (some (r3, m9)))) else zcl2 (f5_refuse 5 m1) (fun r4 m10 => (some (r4, m10))))))))))))
def rm5_reset : Room := { frames := 4, cells := 0, slots := 0, locals := 107 }
noncomputable def f5_reset (μ : zM) : Option (Int × zM) :=
  (if (zI μ 193 1) = 0 then zcl2 (f5_refuse 1 μ) (fun r4 m8 => (some (r4, m8))) else zgl ((zI μ 193 1) - 1) (fun v1 => zgd (zin v1 (zln 195)) (zlt ((zI μ 195 (zx v1)) : Int) (fun v2 => zco (f3_isTyped 193 v1 v2 μ) (fun r1 => (if (zb r1) = 0 then zcl2 (f5_refuse 6 μ) (fun r3 m7 => (some (r3, m7))) else zcm (f5_takeSession v1 μ) (fun m1 => zcm (f4_supposeNotTyped v2 m1) (fun m2 => zcm (f4_measure m2) (fun m3 => zlt (zcmp (zL m3 200 8) 400) (fun v3 => (if v3 ≤ 0 then zcm (f5_keepForUndo m3) (fun m4 => zcm (f3_makeNotTyped 193 v1 v2 m4) (fun m5 => zgd (zin v2 (zln 205)) (zgl ((zL m5 205 (zx v2))) (fun v4 => (some (v4, m5)))))) else zcl2 (f5_refuse 3 m3) (fun r2 m6 => (some (r2, m6))))))))))))))
def rm5_next : Room := { frames := 6, cells := 0, slots := 0, locals := 157 }
noncomputable def f5_next (μ : zM) : Option (Int × zM) :=
  (if (zI μ 193 1) = 0 then zcl2 (f5_refuse 1 μ) (fun r4 m8 => (some (r4, m8))) else zgl ((zI μ 193 1) - 1) (fun v1 => zcm (f5_lookAt v1 μ) (fun m1 => zgd (zin v1 (zln 195)) (zco (f4_placeOf (zI m1 195 (zx v1)) m1) (fun r1 => zgl (r1 + 1) (fun v2 => (if (zI m1 200 10) ≤ v2 then zcl2 (f5_reasonNotToEnd v1 (zL m1 200 8) m1) (fun r2 m2 => (if r2 = 0 then zcm (f5_keepForUndo m2) (fun m3 => zcm (f5_endSession m3) (fun m4 => (if (zI m4 193 1) = 0 then (some (10, m4)) else zgl ((zI m4 193 1) - 1) (fun v3 => zgd (zin v3 (zln 195)) ((some ((zI m4 195 (zx v3)), m4))))))) else zcl2 (f5_refuse r2 m2) (fun r3 m5 => (some (r3, m5))))) else zcm (f5_keepForUndo m1) (fun m6 => zgd (zin v2 (zln 206)) (zgd (zin v1 (zln 195)) (zlt (zsI m6 195 (zx v1) (zI m6 206 (zx v2))) (fun m7 => zgd (zin v1 (zln 195)) ((some ((zI m7 195 (zx v1)), m7))))))))))))))
def rm5_previous : Room := { frames := 5, cells := 0, slots := 0, locals := 128 }
noncomputable def f5_previous (μ : zM) : Option (Int × zM) :=
  (if (zI μ 193 1) = 0 then zcl2 (f5_refuse 1 μ) (fun r3 m5 => (some (r3, m5))) else zgl ((zI μ 193 1) - 1) (fun v1 => zcm (f5_lookAt v1 μ) (fun m1 => zgd (zin v1 (zln 195)) (zco (f4_placeOf (zI m1 195 (zx v1)) m1) (fun r1 => zgl (r1 - 1) (fun v2 => (if (0 : Int) ≤ v2 then zcm (f5_keepForUndo m1) (fun m2 => zgd (zin v2 (zln 206)) (zgd (zin v1 (zln 195)) (zlt (zsI m2 195 (zx v1) (zI m2 206 (zx v2))) (fun m3 => zgd (zin v1 (zln 195)) ((some ((zI m3 195 (zx v1)), m3))))))) else zcl2 (f5_refuse 7 m1) (fun r2 m4 => (some (r2, m4))))))))))
def rm5_go : Room := { frames := 7, cells := 1, slots := 6, locals := 128 }
noncomputable def f5_go (a1 : Int) (μ : zM) : Option ((String ⊕ Int) × zM) :=
  zcx (f5_requireField a1 μ) (fun r1 m1 => (if (zI m1 193 1) = 0 then zcl2 (f5_refuse 1 m1) (fun r4 m6 => (some (.inr r4, m6))) else zgl ((zI m1 193 1) - 1) (fun v1 => zcm (f5_lookAt v1 m1) (fun m2 => zco (f4_isLive a1 m2) (fun r2 => (if (zb r2) = 0 then zcl2 (f5_refuse 8 m2) (fun r3 m5 => (some (.inr r3, m5))) else zgd (zin v1 (zln 195)) (zlt ((zI m2 195 (zx v1)) : Int) (fun v2 => zcm (f5_keepForUndo m2) (fun m3 => zgd (zin v1 (zln 195)) (zlt (zsI m3 195 (zx v1) a1) (fun m4 => (some (.inr v2, m4)))))))))))))
def rm5_finish : Room := { frames := 6, cells := 0, slots := 0, locals := 157 }
noncomputable def f5_finish (μ : zM) : Option (Int × zM) :=
  (if (zI μ 193 1) = 0 then zcl2 (f5_refuse 1 μ) (fun r4 m6 => (some (r4, m6))) else zgl ((zI μ 193 1) - 1) (fun v1 => zcl2 (f5_measuredText v1 μ) (fun r1 m1 => zcl2 (f5_reasonNotToEnd v1 r1 m1) (fun r2 m2 => (if r2 = 0 then zcm (f5_keepForUndo m2) (fun m3 => zcm (f5_endSession m3) (fun m4 => (some ((zI m4 193 1), m4)))) else zcl2 (f5_refuse r2 m2) (fun r3 m5 => (some (r3, m5))))))))
def rm5_drop : Room := { frames := 3, cells := 0, slots := 0, locals := 101 }
noncomputable def f5_drop (μ : zM) : Option (Int × zM) :=
  (if (zI μ 193 1) = 0 then zcl2 (f5_refuse 1 μ) (fun r1 m3 => (some (r1, m3))) else zcm (f5_keepForUndo μ) (fun m1 => zgl ((zI m1 193 1) - 1) (fun v1 => zlt (zsI m1 193 1 v1) (fun m2 => (some ((zI m2 193 1), m2))))))
def rm5_setOrder : Room := { frames := 3, cells := 0, slots := 0, locals := 101 }
noncomputable def f5_setOrder_15 (a1 : Int) (s0 : Int) (μ : zM) : Option (Int × zM) :=
  zcm (f5_keepForUndo μ) (fun m1 => zgd (a1 = 0 ∨ a1 = 1) (zlt (zsI m1 193 0 a1) (fun m2 => (some (s0, m2)))))
noncomputable def f5_setOrder (a1 : Int) (μ : zM) : Option (Int × zM) :=
  (if (zI μ 193 0) = 0 then (f5_setOrder_15 a1 0 μ) else (f5_setOrder_15 a1 1 μ))
def rm5_undo : Room := { frames := 6, cells := 1, slots := 6, locals := 90 }
noncomputable def f5_undo (μ : zM) : Option ((String ⊕ Int) × zM) :=
  (if (zI μ 1 10) = 0 then (some (.inl "java/lang/IllegalStateException", μ)) else zgl ((zI μ 1 9) + 8) (fun v1 => zgl (v1 - 1) (fun v2 => zlt (zrem v2 8) (fun v3 => zlt (zsI μ 1 9 v3) (fun m1 => zgl ((zI m1 1 10) - 1) (fun v4 => zlt (zsI m1 1 10 v4) (fun m2 => zgd (zin (zI m2 1 9) (zln 4)) (zcm (f3_copyFrom 193 (222 + 7 * (zx (zI m2 1 9))) m2) (fun m3 => (some (.inr (zI m3 1 10), m3)))))))))))
def rm5_requireSlot : Room := { frames := 6, cells := 1, slots := 6, locals := 90 }
noncomputable def f5_requireSlot_9 (a1 : Int) (μ : zM) : Option ((String ⊕ Unit) × zM) :=
  (some (.inl "java/lang/IndexOutOfBoundsException", μ))
noncomputable def f5_requireSlot (a1 : Int) (μ : zM) : Option ((String ⊕ Unit) × zM) :=
  (if a1 < 0 then (f5_requireSlot_9 a1 μ) else (if a1 < 2 then (some (.inr (), μ)) else (f5_requireSlot_9 a1 μ)))
def rm5_save : Room := { frames := 7, cells := 1, slots := 6, locals := 110 }
noncomputable def f5_save (a1 : Int) (μ : zM) : Option ((String ⊕ Int) × zM) :=
  zcx (f5_requireSlot a1 μ) (fun r1 m1 => zgd (zin a1 (zln 5)) (zcm (f3_copyFrom (278 + 7 * (zx a1)) 193 m1) (fun m2 => zgd (zin a1 (zln 6) ∧ ((1 : Int) = 0 ∨ (1 : Int) = 1)) (zlt (zsI m2 6 (zx a1) 1) (fun m3 => (some (.inr (zI m3 193 1), m3)))))))
def rm5_restore : Room := { frames := 7, cells := 2, slots := 12, locals := 110 }
noncomputable def f5_restore (a1 : Int) (μ : zM) : Option ((String ⊕ Int) × zM) :=
  zcx (f5_requireSlot a1 μ) (fun r1 m1 => zgd (zin a1 (zln 6)) ((if (zI m1 6 (zx a1)) = 0 then (some (.inl "java/lang/IllegalStateException", m1)) else zgd (zin a1 (zln 5)) (zcm (f3_copyFrom 193 (278 + 7 * (zx a1)) m1) (fun m2 => zlt (zsI m2 1 10 0) (fun m3 => (some (.inr (zI m3 193 1), m3))))))))
