/-! THE LAW'S OWN ROWS: the script, comparisons of doubles, a method with handlers, its call -/
/-- which of the exceptions is which -/
def zNc (U : State) : Prop := ∀ a ∈ [xIO, xIA, xIS, xNS], ∀ b ∈ [xIO, xIA, xIS, xNS], a ≠ b → va_Nc a b U
theorem zNc.moved {u U : State} (hvm : u.vm.Alike U.vm) (h : zNc u) : zNc U := fun a ha b hb hab => (h a ha b hb hab).moved hvm
def zCtW (l : Launch) (Z : zZ) (y : MethodName) (ws : List Cond) (rm : Room) (av : List Value) (μ : zM) (r : zRes zM) : Prop :=
  vx_Met l y ws rm (va_Pc av (fun U => zΩ Z μ U.heap ∧ zKw Z U ∧ zNc U)) (zQ Z (zΩ Z) r) (zXC Z (zΩ Z) r) rm.cells rm.slots (fun q : Nat => Z.2.2.1 < q)
theorem zblindW {Z : zZ} {av : List Value} {μ : zM} : FrameBlind (va_Pc av (fun U => zΩ Z μ U.heap ∧ zKw Z U ∧ zNc U)) := fun a U g mk q => by
  obtain ⟨q0, q1, q2, q3⟩ := q
  exact ⟨q0, q1, q2.blind, q3.moved (u := U) (U := U.calling g mk a) (Vm.Alike.refl U.vm)⟩
def zwsW (y : MethodName) (cc : ByteArray) (nL : Nat) (ret : Option FieldType) (hh : List (Nat × Nat × Nat × Nat)) : List Cond := Cond.codeWith y cc nL ret hh :: zGood
/-- a contract of a method with handlers -/
theorem zCtW.of {l : Launch} {Z : zZ} {α : Type} {y : MethodName} {cc : ByteArray} {nL : Nat} {ret : Option FieldType} {hh : List (Nat × Nat × Nat × Nat)} {rm : Room} {av : List Value} {μ : zM} {enc : α → zRes zM} {res : Option α} {a0 : α} (h0 : res = some a0) (hy : plainName y.cls = true) (hst : l.stackTraces = false) (hlen : (lg_sl av).length ≤ nL)
    (body : ∀ K : zK, zOk K Z cc y.cls nL ret rm.frames rm.locals rm.cells rm.slots → K.2.2.2.2.2.2.2.2.2.exceptionTable.toList = tableOf hh → zNc K.2.2.2.2.1 → K.2.1 = l → zG K Z (zΩ Z) (zF K Z (zΩ Z) enc) rm.cells rm.slots 0 (lv_args 0 av) [] μ res) : zCtW l Z y (zwsW y cc nL ret hh) rm av μ (enc a0) := by
  refine vx_ofWH (cc := cc) (maxL := nL) (ret := ret) (hh := hh) hy rfl (fun p e s m args below meth c s₁ B hml hv => ?_)
  obtain ⟨rfl, hΩ, hKw, hNc⟩ := hv
  have hl := lv_entry av (n := nL) hlen
  rw [lg_entry_eq]
  have hpre := atoms_spec (ws := zwsW y cc nL ret hh) B.pre
  have htab : c.exceptionTable.toList = tableOf hh := vx_table (x := y) B (hpre _ List.mem_cons_self)
  refine body (p, l, e, (headSpec (zwsW y cc nL ret hh) rm).room, s, m, av.toArray, below, meth, c) ⟨B.exec, B.bytes, hml, findClass_of_methodNamed B.named, fun w hw => hpre w (List.mem_cons_of_mem _ hw), B.notSynchronized, hKw, rfl, hst, B.returns⟩ htab hNc rfl a0 h0 s.heap [] _ 0 0 hΩ va_S.rf (by rw [← hml] at hl; rw [hml] at hl ⊢; exact hl) (by show 0 + rm.cells ≤ rm.cells; omega) (by show 0 + rm.slots ≤ rm.slots; omega)
/-- the script at the cell b -/
def zSX (K : zK) (Z : zZ) (b L : Nat) (xs : Nat → Int32) : Prop := va_X b L xs K.2.2.2.2.1 K.2.2.2.2.1.heap ∧ b < K.2.2.2.2.1.heap.size ∧ ¬ Z.2.2.1 < b ∧ L ≤ 3072
def zwn : List String → Nat → String → Option Nat
  | [], _, _ => none
  | n :: r, k, E => if n = E then some k else zwn r (k + 1) E
/-- what a wrapper answers: 0 and the answer put away, or the number of the exception -/
def zwr {β : Type} (put : β → zM → Option (Int × zM)) (names : List String) : Option ((String ⊕ β) × zM) → Option (Int × zM)
  | none => none
  | some (.inr v, m) => put v m
  | some (.inl E, m) => match zwn names 1 E with
    | none => none
    | some k => some ((k : Int), m)
theorem zwn_hit {n : String} {r : List String} {k : Nat} : zwn (n :: r) k n = some k := if_pos rfl
theorem zwn_miss {n E : String} {r : List String} {k : Nat} (h : n ≠ E) : zwn (n :: r) k E = zwn r (k + 1) E := if_neg h
theorem zwr_hit {β : Type} {put : β → zM → Option (Int × zM)} {names : List String} {E : String} {m : zM} {k : Nat} (h : zwn names 1 E = some k) : zwr put names (some (.inl E, m)) = some ((k : Int), m) := by
  show (match zwn names 1 E with | none => none | some k => some ((k : Int), m)) = _
  rw [h]
theorem zwr_miss {β : Type} {put : β → zM → Option (Int × zM)} {names : List String} {E : String} {m : zM} (h : zwn names 1 E = none) : zwr put names (some (.inl E, m)) = none := by
  show (match zwn names 1 E with | none => none | some k => some ((k : Int), m)) = _
  rw [h]
theorem zwr_inr {β : Type} {put : β → zM → Option (Int × zM)} {names : List String} {v : β} {m : zM} : zwr put names (some (.inr v, m)) = put v m := rfl
theorem zgd_true {α : Type} {c : Prop} {A : Option α} (h : c) : zgd c A = A := by unfold zgd; rw [if_pos h]
section lrow
variable {K : zK} {Z : zZ} {α : Type} {F : α → State → Prop} {cc : ByteArray} {own : String} {nL fr lo mc ms cb sb pc : Nat} {ret : Option FieldType} {lv : List (Nat × Value)} {st rest : List Value} {μ : zM} {res A : Option α} {bS L : Nat} {xs : Nat → Int32}
theorem g_sld (hK : zOk K Z cc own nL ret fr lo mc ms) (hX : zSX K Z bS L xs) {i : Int} (hd : decode cc pc = .ok (.iaload, 1)) (k : zin i L → zr ((xs (zx i)).toInt) → zG K Z (zΩ Z) F cb sb (pc + 1) lv (.int (zi ((xs (zx i)).toInt)) :: st) μ A) : zG K Z (zΩ Z) F cb sb pc lv (.int (zi i) :: .ref bS :: st) μ (zgd (zin i L) A) := by
  intro a ha H locs ls cells slots hΩ hS hl hc hs
  obtain ⟨g, ha⟩ := zgd_some ha
  have hL := hX.2.2.2
  have hr : zr i := ⟨by have := g.1; omega, by have := g.2; omega⟩
  have ex := zx_of g.1 hr
  have h := k g (zr_of _) a ha H locs ls cells slots hΩ hS hl hc hs
  rw [zi_of, ← ex] at h
  exact va_sld hK.1 hK.2.1 hX.1 hX.2.1 hX.2.2.1 hS (vp_in_iff.mpr (by rw [zi_toInt hr]; exact g)) hd h
theorem g_sxlen (hK : zOk K Z cc own nL ret fr lo mc ms) (hX : zSX K Z bS L xs) (hd : decode cc pc = .ok (.arraylength, 1)) (k : zr ((L : Nat) : Int) → zG K Z (zΩ Z) F cb sb (pc + 1) lv (.int (zi ((L : Nat) : Int)) :: st) μ res) : zG K Z (zΩ Z) F cb sb pc lv (.ref bS :: st) μ res := by
  intro a ha H locs ls cells slots hΩ hS hl hc hs
  have hL := hX.2.2.2
  exact va_slen hK.1 hK.2.1 hX.1 hX.2.1 hX.2.2.1 hS hd (k ⟨by omega, by omega⟩ a ha H locs ls cells slots hΩ hS hl hc hs)
theorem g_dceq (hK : zOk K Z cc own nL ret fr lo mc ms) {x y : UInt64} {off : Int} {tgt : Nat} (hd1 : decode cc pc = .ok (.dcmp .l, 1)) (ht : ((pc + 1 : Nat) : Int) + off = (tgt : Int)) (hd2 : decode cc (pc + 1) = .ok (.ifCond .eq off, 3)) (k : zG K Z (zΩ Z) F cb sb tgt lv st μ A) : zG K Z (zΩ Z) F cb sb pc lv (.double y :: .double x :: st) μ (zgd (Op.cmpValue (FP.dcmp x y) .l = 0) A) := by
  intro a ha H locs ls cells slots hΩ hS hl hc hs
  obtain ⟨g, ha⟩ := zgd_some ha
  refine lv_dcmp hK.1 hK.2.1 hd1 ?_
  rw [g]
  exact g_if_eq hK (A := A) (B := A) (x := 0) ⟨by decide, by decide⟩ ht hd2 (fun _ => k) (fun q => absurd rfl q) a (by rw [if_pos rfl]; exact ha) H locs ls cells slots hΩ hS hl hc hs
theorem g_catch (hK : zOk K Z cc own nL ret fr lo mc ms) {E : String} {a : α} {hh : List (Nat × Nat × Nat × Nat)} (htab : K.2.2.2.2.2.2.2.2.2.exceptionTable.toList = tableOf hh) (hNc : zNc K.2.2.2.2.1) (pre : List (Nat × Nat × Nat × Nat)) (x : Nat × Nat × Nat × Nat) (suf : List (Nat × Nat × Nat × Nat)) (hsplit : hh = pre ++ x :: suf)
    (hpass : ∀ z ∈ pre, z.2.2.2 ≠ 0 ∧ ∃ nm : String, Cond.classLink own z.2.2.2 nm ∈ zGood ∧ nm ∈ [xIO, xIA, xIS, xNS] ∧ E ≠ nm) (hE : E ∈ [xIO, xIA, xIS, xNS]) (hx : covers ⟨x.1, x.2.1, x.2.2.1, x.2.2.2⟩ pc = true) (h0 : x.2.2.2 ≠ 0) (hlink : Cond.classLink own x.2.2.2 E ∈ zGood) (hcast : Cond.castable E E ∈ zNw)
    (k : ∀ q : Nat, zG K Z (zΩ Z) F cb sb x.2.2.1 lv [.ref q] μ (some a)) : zT K Z (zΩ Z) F cb sb pc lv rest μ E a := by
  intro H locs ls cells slots q ce hΩ hS hl hc hs hcell hv hcl
  refine vx_catch (name := E) hK.2.2.2.1 (tableOf pre) ⟨x.1, x.2.1, x.2.2.1, x.2.2.2⟩ (tableOf suf) (by rw [htab, hsplit]; unfold tableOf; rw [List.map_append, List.map_cons]) (fun z hz => ?_) hx h0 (hK.2.2.2.2.1 _ hlink) (va_Nw.use rfl (hK.2.2.2.2.2.2.1.2.2.2.2.2.2.1 _ hcast)) hcell hv hcl (k q a rfl H locs ls cells slots hΩ hS hl hc hs)
  obtain ⟨z', hz', rfl⟩ := List.mem_map.mp hz
  obtain ⟨p1, nm, p2, p3, p4⟩ := hpass z' hz'
  exact Or.inr ⟨p1, nm, hK.2.2.2.2.1 _ p2, hNc E hE nm p3 p4⟩
/-- the law calls one of its wrappers -/
theorem g_callSW (hK : zOk K Z cc own nL ret fr lo mc ms) (hNc : zNc K.2.2.2.2.1) {y : MethodName} {bytes : ByteArray} {maxL index n : Nat} {rt : Option FieldType} {hh : List (Nat × Nat × Nat × Nat)} {rm : Room} {As : List Value} {e0 : Option (Int × zM)} {f : Int → zM → Option α} (hct : ∀ x, e0 = some x → zCtW K.2.1 Z y (zwsW y bytes maxL rt hh) rm As μ (ze2 mkI x)) (w1 : Cond.methodLink own index y ∈ zGood) (w2 : Cond.static y ∈ zGood) (w4 : Cond.initialized y.cls ∈ zGood) (w5 : Cond.codeWith y bytes maxL rt hh ∈ zGood) (hAs : As.length = n) (hn : (parseMethodDescriptor y.desc).map (fun d => d.parameters.length) = some n) (hy : y.cls ≠ "java/lang/invoke/MethodHandle" ∧ y.cls ≠ "java/lang/invoke/VarHandle") (hfr : rm.frames + 1 ≤ fr) (hlo : 8 + (maxL + 11) + rm.locals ≤ lo) (hcat : (rest.map fun v => v.category).sum ≤ 8) (hst : st = As.reverse ++ rest) (hd : decode cc pc = .ok (.invokestatic index, 3))
    (k : ∀ (x : Int) μ1, e0 = some (x, μ1) → zr x → zG K Z (zΩ Z) F cb sb (pc + 3) lv (.int (zi x) :: rest) μ1 (f x μ1)) : zG K Z (zΩ Z) F (cb + rm.cells) (sb + rm.slots) pc lv st μ (zcl2 e0 f) := by
  intro a ha H locs ls cells slots hΩ hS hl hc hs
  have hKw := hK.2.2.2.2.2.2.1
  have hR : K.2.2.2.1 = { frames := fr, cells := mc, slots := ms, locals := lo } := hK.2.2.2.2.2.2.2.1
  have hroom : rm.frames + 1 ≤ K.2.2.2.1.frames ∧ 8 + (maxL + 11) + rm.locals ≤ K.2.2.2.1.locals := by rw [hR]; exact ⟨hfr, hlo⟩
  cases he : e0 with
  | none => rw [he] at ha; cases ha
  | some x =>
    obtain ⟨x, μ1⟩ := x
    rw [he] at ha
    have hM := hct _ he
    have hkw : ∀ U : State, U.heap = H → K.2.2.2.2.1.WarmedH U.vm → zKw Z U := fun U hU hW => hKw.warm hW (hS.F hU)
    have hgood : GoodIn zGood (zwsW y bytes maxL rt hh) := zgood_in (fun w hw => (List.mem_cons.mp hw).elim (fun e => by rw [e]; exact w5) (fun h => h))
    have hcw : vx_CSW K.2.2.2.1 K.2.2.2.2.1 K.2.2.2.2.2.2.1 own index y bytes maxL rt hh (zwsW y bytes maxL rt hh) rm rm.cells rm.slots n := ⟨⟨rfl, rfl, hroom.1, hroom.2, pay_in hK.2.2.2.2.1 hgood, List.mem_cons_self⟩, hK.2.2.2.2.1 _ w5, hK.2.2.2.2.1 _ w4, hy, fun sig h => (by rw [h] at hn; exact (Option.some.inj hn).symm), hK.2.2.2.2.1 _ w1, hK.2.2.2.2.1 _ w2⟩
    have hrun := vx_runSX (As := As) (rest := rest) (cells := cells) (slots := slots) (locs := locs) (below := K.2.2.2.2.2.2.2.1) (e := K.2.2.1) (meth := K.2.2.2.2.2.2.2.2.1) (g := F0 K.2.2.2.2.2.1 pc ls st) ⟨hK.1, hK.2.1, hK.2.2.1, hK.2.2.2.1, hK.2.2.2.2.1⟩ hM hcw ⟨zblindW, fun U hU hW => ⟨rfl, by rw [hU]; exact hΩ, hkw U hU hW, hNc.moved hW.alike⟩⟩ rfl hAs (hl.1.trans hK.2.2.1) hst (lv_room hcat) hd ⟨by omega, by omega⟩
    intro T hT X
    rcases hrun T hT X with ⟨v, st₀, t, T', L, h0, X', hL, e1, e2, ⟨⟨v', hv1, hv2, hw, hrg⟩, hF⟩, stp⟩ | ⟨q, st₀, t, T', L, E, ce, h0, X', hL, e1, e2, ⟨hv1, hw, hF⟩, hce, hcv, hcl, stp⟩
    · cases hv2
      cases hv1
      obtain ⟨g1, g2, g3⟩ := vx_keep h0 e1 hS (fun q _ h => h) (fun q h => h) hL hF
      obtain ⟨t2, a1, b1⟩ := k x μ1 he hrg a ha T'.heap (locs ++ L) ls (cells + rm.cells) (slots + rm.slots) (by rw [e1]; exact hw) g3 hl (by omega) (by omega) T' rfl X'
      exact ⟨t2, stp t2 a1, b1⟩
    · cases hv1
end lrow
