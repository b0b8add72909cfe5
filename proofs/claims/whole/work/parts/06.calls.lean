def zeP {σ β : Type} (mk : β → Option Value × Prop) (μ : σ) (x : β) : zRes σ := (.inr (mk x).1, μ, (mk x).2)
def ze2 {σ β : Type} (mk : β → Option Value × Prop) (q : β × σ) : zRes σ := (.inr (mk q.1).1, q.2, (mk q.1).2)
def zeM {σ : Type} (μ : σ) : zRes σ := (.inr none, μ, True)
def zeX {σ β : Type} (mk : β → Option Value × Prop) (q : (String ⊕ β) × σ) : zRes σ := match q.1 with
  | .inl E => (.inl E, q.2, True)
  | .inr x => (.inr (mk x).1, q.2, (mk x).2)
def zb (b : Bool) : Int := if b = true then 1 else 0
theorem zb01 (b : Bool) : zb b = 0 ∨ zb b = 1 := by cases b <;> simp [zb]
theorem zb_r (b : Bool) : zr (zb b) := by cases b <;> exact ⟨by decide, by decide⟩
theorem zb_dec {x : Int} (h : x = 0 ∨ x = 1) : zb (decide (x = 1)) = x := by rcases h with rfl | rfl <;> rfl
def mkI (x : Int) : Option Value × Prop := (some (.int (zi x)), zr x)
def mkZ (b : Bool) : Option Value × Prop := (some (.int (zi (zb b))), True)
def mkL (x : Int) : Option Value × Prop := (some (.long (zl x)), zr64 x)
def mkF (x : UInt32) : Option Value × Prop := (some (.float x), True)
def mkD (x : UInt64) : Option Value × Prop := (some (.double x), True)
def mkR (B kd : Nat) (x : Nat) : Option Value × Prop := (some (.ref (B + x)), zkd x = kd)
def mkV (_ : Unit) : Option Value × Prop := (none, True)
/-- an exception over the frame -/
def zT (K : zK) (Z : zZ) {σ α : Type} (Ω : σ → Heap → Prop) (F : α → State → Prop) (cb sb pc : Nat) (lv : List (Nat × Value)) (rest : List Value) (μ : σ) (E : String) (a : α) : Prop :=
  ∀ (H : Heap) (locs : List Loc) (ls : Array Slot) (cells slots : Nat) (q : Addr) (ce : Cell), Ω μ H → va_S (fun q : Nat => Z.2.2.1 < q) K.2.2.2.2.1.heap H locs → lv_has ls K.2.2.2.2.2.2.2.2.2.maxLocals lv → cells + cb ≤ K.2.2.2.1.cells → slots + sb ≤ K.2.2.2.1.slots → H[q]? = some ce → ce.vm = .none → K.2.2.2.2.1.vm.findClass E = some ce.cls →
    vx_W K.1 K.2.1 K.2.2.1 K.2.2.2.1 K.2.2.2.2.1 K.2.2.2.2.2.1 K.2.2.2.2.2.2.1 K.2.2.2.2.2.2.2.1 K.2.2.2.2.2.2.2.2.1 K.2.2.2.2.2.2.2.2.2 H locs cells slots (F a) (F0 K.2.2.2.2.2.1 pc ls rest) q
theorem zgood_in {ws : List Cond} (h : ∀ w ∈ ws, w ∈ zGood) : GoodIn zGood ws := fun w hw => ⟨h w hw, good_of_word (List.mem_filter.mp (h w hw)).2⟩
theorem zws_in {w : Cond} (h : w ∈ zGood) : ∀ w' ∈ zws w, w' ∈ zGood := fun w' hw => (List.mem_cons.mp hw).elim (fun e => by rw [e]; exact h) (fun h => h)
theorem zΩ_kept {Z : zZ} {μ : zM} {H H1 : Heap} (h : zΩ Z μ H) (hq : ∀ q : Nat, q < H.size → H1[q]? = H[q]?) : zΩ Z μ H1 := ⟨h.1.kept (fun k q hk => hq q.1 (h.1 k q hk).lt), h.2.1, h.2.2⟩
theorem zblind {Z : zZ} {av : List Value} {μ : zM} : FrameBlind (va_Pc av (fun U => zΩ Z μ U.heap ∧ zKw Z U)) := fun a U g mk q => by
  obtain ⟨q0, q1, q2⟩ := q
  exact ⟨q0, q1, q2.blind⟩
/-- a contract, out of the judgement over the body (no handlers) -/
theorem zCt.of {l : Launch} {Z : zZ} {σ α : Type} {Ω : σ → Heap → Prop} {y : MethodName} {cc : ByteArray} {nL : Nat} {ret : Option FieldType} {rm : Room} {av : List Value} {μ : σ} {enc : α → zRes σ} {res : Option α} {a0 : α} (h0 : res = some a0) (hy : plainName y.cls = true) (hst : l.stackTraces = false) (hlen : (lg_sl av).length ≤ nL)
    (body : ∀ K : zK, zOk K Z cc y.cls nL ret rm.frames rm.locals rm.cells rm.slots → (∀ x ∈ K.2.2.2.2.2.2.2.2.2.exceptionTable.toList, False) → K.2.1 = l → K.2.2.2.2.2.2.2.2.1.name = y.name → zG K Z Ω (zF K Z Ω enc) rm.cells rm.slots 0 (lv_args 0 av) [] μ res) : zCt l Z Ω y (zws (.code y cc nL ret)) rm av μ (enc a0) := by
  refine vx_ofW (cc := cc) (maxL := nL) (ret := ret) hy rfl (fun p e s m args below meth c s₁ B hml hex hv => ?_)
  obtain ⟨rfl, hΩ, hKw⟩ := hv
  have hl := lv_entry av (n := nL) hlen
  rw [lg_entry_eq]
  refine body (p, l, e, (headSpec (zws (.code y cc nL ret)) rm).room, s, m, av.toArray, below, meth, c) ⟨B.exec, B.bytes, hml, findClass_of_methodNamed B.named, fun w hw => atoms_spec (ws := zws (.code y cc nL ret)) B.pre w (List.mem_cons_of_mem _ hw), B.notSynchronized, hKw, rfl, hst, B.returns⟩ hex rfl (name_of_methodNamed B.named B.method).1 a0 h0 s.heap [] _ 0 0 hΩ va_S.rf (by rw [← hml] at hl; rw [hml] at hl ⊢; exact hl) (by show 0 + rm.cells ≤ rm.cells; omega) (by show 0 + rm.slots ≤ rm.slots; omega)
section zRows6
variable {l : Launch} {K : zK} {Z : zZ} {α : Type} {F : α → State → Prop} {cc : ByteArray} {own : String} {nL fr lo mc ms cb sb pc : Nat} {ret : Option FieldType} {lv : List (Nat × Value)} {st rest : List Value} {μ : zM} {res A : Option α}
theorem g_iret (hK : zOk K Z cc own nL ret fr lo mc ms) {x : Int} {enc : α → zRes zM} {a0 : α} (hx : zr x) (he : enc a0 = (.inr (some (.int (zi x))), μ, zr x)) (hret : ret = some .int) (hd : decode cc pc = .ok (.ireturn, 1)) : zG K Z (zΩ Z) (zF K Z (zΩ Z) enc) cb sb pc lv [.int (zi x)] μ (some a0) := by
  intro a ha H locs ls cells slots hΩ hS hl hc hs
  cases ha
  exact vx_ret (W.widen (k := K.2.2.2.1.cells) (n := K.2.2.2.1.slots) (by omega) (by omega) (W.iret hK.1 hK.2.1 (hK.2.2.2.2.2.2.2.2.2.trans hret) (fun t ht hW => ⟨⟨_, by rw [he], rfl, by rw [ht, he]; exact hΩ, by rw [he]; exact hx⟩, hS.F ht⟩) hS.2.2 hd (hlocks := hK.2.2.2.2.2.1)))
theorem g_zret (hK : zOk K Z cc own nL ret fr lo mc ms) {x : Int} {enc : α → zRes zM} {a0 : α} (hx : x = 0 ∨ x = 1) (he : enc a0 = (.inr (some (.int (zi x))), μ, True)) (hret : ret = some .boolean) (hd : decode cc pc = .ok (.ireturn, 1)) : zG K Z (zΩ Z) (zF K Z (zΩ Z) enc) cb sb pc lv [.int (zi x)] μ (some a0) := by
  intro a ha H locs ls cells slots hΩ hS hl hc hs
  cases ha
  exact vx_ret (W.widen (k := K.2.2.2.1.cells) (n := K.2.2.2.1.slots) (by omega) (by omega) (W.zret hK.1 hK.2.1 (hK.2.2.2.2.2.2.2.2.2.trans hret) (by rcases hx with rfl | rfl <;> rfl) (fun t ht hW => ⟨⟨_, by rw [he], rfl, by rw [ht, he]; exact hΩ, by rw [he]; exact trivial⟩, hS.F ht⟩) hS.2.2 hd (hlocks := hK.2.2.2.2.2.1)))
theorem g_lret (hK : zOk K Z cc own nL ret fr lo mc ms) {x : Int} {enc : α → zRes zM} {a0 : α} (hx : zr64 x) (he : enc a0 = (.inr (some (.long (zl x))), μ, zr64 x)) (hret : ret = some .long) (hd : decode cc pc = .ok (.lreturn, 1)) : zG K Z (zΩ Z) (zF K Z (zΩ Z) enc) cb sb pc lv [.long (zl x)] μ (some a0) := by
  intro a ha H locs ls cells slots hΩ hS hl hc hs
  cases ha
  exact vx_ret (W.widen (k := K.2.2.2.1.cells) (n := K.2.2.2.1.slots) (by omega) (by omega) (W.lret hK.1 hK.2.1 (hK.2.2.2.2.2.2.2.2.2.trans hret) (fun t ht hW => ⟨⟨_, by rw [he], rfl, by rw [ht, he]; exact hΩ, by rw [he]; exact hx⟩, hS.F ht⟩) hS.2.2 hd (hlocks := hK.2.2.2.2.2.1)))
theorem g_fret (hK : zOk K Z cc own nL ret fr lo mc ms) {x : UInt32} {enc : α → zRes zM} {a0 : α} (he : enc a0 = (.inr (some (.float x)), μ, True)) (hret : ret = some .float) (hd : decode cc pc = .ok (.freturn, 1)) : zG K Z (zΩ Z) (zF K Z (zΩ Z) enc) cb sb pc lv [.float x] μ (some a0) := by
  intro a ha H locs ls cells slots hΩ hS hl hc hs
  cases ha
  exact vx_ret (W.widen (k := K.2.2.2.1.cells) (n := K.2.2.2.1.slots) (by omega) (by omega) (W.fret hK.1 hK.2.1 (hK.2.2.2.2.2.2.2.2.2.trans hret) (fun t ht hW => ⟨⟨_, by rw [he], rfl, by rw [ht, he]; exact hΩ, by rw [he]; exact trivial⟩, hS.F ht⟩) hS.2.2 hd (hlocks := hK.2.2.2.2.2.1)))
theorem g_dret (hK : zOk K Z cc own nL ret fr lo mc ms) {x : UInt64} {enc : α → zRes zM} {a0 : α} (he : enc a0 = (.inr (some (.double x)), μ, True)) (hret : ret = some .double) (hd : decode cc pc = .ok (.dreturn, 1)) : zG K Z (zΩ Z) (zF K Z (zΩ Z) enc) cb sb pc lv [.double x] μ (some a0) := by
  intro a ha H locs ls cells slots hΩ hS hl hc hs
  cases ha
  exact vx_ret (W.widen (k := K.2.2.2.1.cells) (n := K.2.2.2.1.slots) (by omega) (by omega) (W.dret hK.1 hK.2.1 (hK.2.2.2.2.2.2.2.2.2.trans hret) (fun t ht hW => ⟨⟨_, by rw [he], rfl, by rw [ht, he]; exact hΩ, by rw [he]; exact trivial⟩, hS.F ht⟩) hS.2.2 hd (hlocks := hK.2.2.2.2.2.1)))
theorem g_aret (hK : zOk K Z cc own nL ret fr lo mc ms) {x kd : Nat} {C : String} {enc : α → zRes zM} {a0 : α} (hx : zkd x = kd) (he : enc a0 = (.inr (some (.ref (Z.2.2.1 + x))), μ, zkd x = kd)) (hret : ret = some (.object C)) (hd : decode cc pc = .ok (.areturn, 1)) : zG K Z (zΩ Z) (zF K Z (zΩ Z) enc) cb sb pc lv [.ref (Z.2.2.1 + x)] μ (some a0) := by
  intro a ha H locs ls cells slots hΩ hS hl hc hs
  cases ha
  exact vx_ret (W.widen (k := K.2.2.2.1.cells) (n := K.2.2.2.1.slots) (by omega) (by omega) (W.aret hK.1 hK.2.1 (hK.2.2.2.2.2.2.2.2.2.trans hret) (Or.inl ⟨_, rfl⟩) (Or.inr ⟨_, rfl⟩) (fun t ht hW => ⟨⟨_, by rw [he], rfl, by rw [ht, he]; exact hΩ, by rw [he]; exact hx⟩, hS.F ht⟩) hS.2.2 hd (hlocks := hK.2.2.2.2.2.1)))
theorem g_vret (hK : zOk K Z cc own nL ret fr lo mc ms) {enc : α → zRes zM} {a0 : α} (he : enc a0 = (.inr none, μ, True)) (hret : ret = none) (hd : decode cc pc = .ok (.return_, 1)) : zG K Z (zΩ Z) (zF K Z (zΩ Z) enc) cb sb pc lv [] μ (some a0) := by
  intro a ha H locs ls cells slots hΩ hS hl hc hs
  cases ha
  exact vx_ret (W.widen (k := K.2.2.2.1.cells) (n := K.2.2.2.1.slots) (by omega) (by omega) (W.vret hK.1 hK.2.1 (hK.2.2.2.2.2.2.2.2.2.trans hret) (fun t ht hW => ⟨⟨_, by rw [he], rfl, by rw [ht, he]; exact hΩ, by rw [he]; trivial⟩, hS.F ht⟩) hS.2.2 hd (hlocks := hK.2.2.2.2.2.1)))
theorem zT_out (hK : zOk K Z cc own nL ret fr lo mc ms) {enc : α → zRes zM} {a0 : α} {E : String} (hex : ∀ x ∈ K.2.2.2.2.2.2.2.2.2.exceptionTable.toList, False) (he : enc a0 = (.inl E, μ, True)) : zT K Z (zΩ Z) (zF K Z (zΩ Z) enc) cb sb pc lv rest μ E a0 := by
  intro H locs ls cells slots q ce hΩ hS hl hc hs hcell hv hcl
  exact vx_out (fun x hx => (hex x hx).elim) hK.2.2.2.2.2.1 hcell hv hcl (fun t ht hA => ⟨by rw [he], by rw [ht, he]; exact hΩ, hS.F ht⟩) hS.2.2 (by omega) (by omega)
theorem g_throw (hK : zOk K Z cc own nL ret fr lo mc ms) {enc : α → zRes zM} {a0 : α} {E text : String} {ik is ic i9 : Nat} (hex : ∀ x ∈ K.2.2.2.2.2.2.2.2.2.exceptionTable.toList, False) (he : enc a0 = (.inl E, μ, True)) (hE : Bundle.fit E = true) (hk : Cond.classLink own ik E ∈ zGood) (hini : Cond.initialized E ∈ zGood) (hstr : zStr[i9]? = some (own, is, text)) (hat : ∀ w ∈ vx_atS own ic E ["java/lang/RuntimeException", "java/lang/Exception"], w ∈ zGood ∨ w ∈ zNw) (hg : ∀ w ∈ Cond.classLink own ik E :: Cond.initialized E :: vx_atS own ic E ["java/lang/RuntimeException", "java/lang/Exception"], vx_ot w = true)
    (d0 : decode cc pc = .ok (.new ik, 3)) (d3 : decode cc (pc + 3) = .ok (.dup, 1)) (d4 : decode cc (pc + 4) = .ok (.ldc is, 2)) (d6 : decode cc (pc + 6) = .ok (.invokespecial ic, 3)) (d9 : decode cc (pc + 9) = .ok (.athrow, 1)) (hfr : 5 < fr) (hlo : (st.map fun v => v.category).sum + 82 ≤ lo) (hcb : 1 ≤ cb) (hsb : 6 ≤ sb) : zG K Z (zΩ Z) (zF K Z (zΩ Z) enc) cb sb pc lv st μ (some a0) := by
  intro a ha H locs ls cells slots hΩ hS hl hc hs
  cases ha
  have hR : K.2.2.2.1 = _ := hK.2.2.2.2.2.2.2.1
  have hKw := hK.2.2.2.2.2.2.1
  refine vx_throwS (A := fun q : Nat => Z.2.2.1 < q) (own := own) (cls := E) (names := ["java/lang/RuntimeException", "java/lang/Exception"]) hK.1 hK.2.1 hK.2.2.2.2.2.2.2.2.1 hK.2.2.2.1 hE (by decide) (hK.2.2.2.2.1 _ hk) (hK.2.2.2.2.1 _ hini) (hKw.2.2.2.1 i9 _ hstr) (fun w hw => (hat w hw).elim (hK.2.2.2.2.1 w) (fun h => va_Nw.use (zNwk_tabs (zNw_k w h)) (hKw.2.2.2.2.2.2.1 w h))) hg hKw.2.1 hKw.2.2.1 hS hl.1 d0 d3 d4 d6 d9 (fun x hx => (hex x hx).elim) ?_ ?_ (by omega) (by omega) hK.2.2.2.2.2.1 (fun t hA hz hq => ⟨by rw [he], by rw [he]; exact zΩ_kept hΩ hq, Nat.le_trans hS.1 hz, fun q h1 h2 => (hq q (Nat.lt_of_lt_of_le h1 hS.1)).trans (hS.2.1 q h1 h2)⟩) hS.2.2 (by omega) (by omega)
  · rw [hR]; exact hfr
  · rw [hR]; exact hlo
theorem g_throwW (hK : zOk K Z cc own nL ret fr lo mc ms) {enc : α → zRes zM} {a0 : α} {E text : String} {ik is ic i9 : Nat} (hex : ∀ x ∈ K.2.2.2.2.2.2.2.2.2.exceptionTable.toList, False) (he : enc a0 = (.inl E, μ, True)) (hE : Bundle.fit E = true) (hk : Cond.classLink own ik E ∈ zGood) (hini : Cond.initialized E ∈ zGood) (hstr : zStr[i9]? = some (own, is, text)) (hat : ∀ w ∈ vx_atS own ic E ["java/lang/RuntimeException", "java/lang/Exception"], w ∈ zGood ∨ w ∈ zNw) (hg : ∀ w ∈ Cond.classLink own ik E :: Cond.initialized E :: vx_atS own ic E ["java/lang/RuntimeException", "java/lang/Exception"], vx_ot w = true)
    (d0 : decode cc pc = .ok (.new ik, 3)) (d3 : decode cc (pc + 3) = .ok (.dup, 1)) (d4 : decode cc (pc + 4) = .ok (.ldc_w is, 3)) (d6 : decode cc (pc + 7) = .ok (.invokespecial ic, 3)) (d9 : decode cc (pc + 10) = .ok (.athrow, 1)) (hfr : 5 < fr) (hlo : (st.map fun v => v.category).sum + 82 ≤ lo) (hcb : 1 ≤ cb) (hsb : 6 ≤ sb) : zG K Z (zΩ Z) (zF K Z (zΩ Z) enc) cb sb pc lv st μ (some a0) := by
  intro a ha H locs ls cells slots hΩ hS hl hc hs
  cases ha
  have hR : K.2.2.2.1 = _ := hK.2.2.2.2.2.2.2.1
  have hKw := hK.2.2.2.2.2.2.1
  refine vx_throwSW (A := fun q : Nat => Z.2.2.1 < q) (own := own) (cls := E) (names := ["java/lang/RuntimeException", "java/lang/Exception"]) hK.1 hK.2.1 hK.2.2.2.2.2.2.2.2.1 hK.2.2.2.1 hE (by decide) (hK.2.2.2.2.1 _ hk) (hK.2.2.2.2.1 _ hini) (hKw.2.2.2.1 i9 _ hstr) (fun w hw => (hat w hw).elim (hK.2.2.2.2.1 w) (fun h => va_Nw.use (zNwk_tabs (zNw_k w h)) (hKw.2.2.2.2.2.2.1 w h))) hg hKw.2.1 hKw.2.2.1 hS hl.1 d0 d3 d4 d6 d9 (fun x hx => (hex x hx).elim) ?_ ?_ (by omega) (by omega) hK.2.2.2.2.2.1 (fun t hA hz hq => ⟨by rw [he], by rw [he]; exact zΩ_kept hΩ hq, Nat.le_trans hS.1 hz, fun q h1 h2 => (hq q (Nat.lt_of_lt_of_le h1 hS.1)).trans (hS.2.1 q h1 h2)⟩) hS.2.2 (by omega) (by omega)
  · rw [hR]; exact hfr
  · rw [hR]; exact hlo
theorem g_callV0 (hK : zOk K Z cc own nL ret fr lo mc ms) {y : MethodName} {bytes : ByteArray} {maxL index n : Nat} {rt : Option FieldType} {rm : Room} {β : Type} {resC : Option β} {encC : β → zRes zM} {C : String} {TT : u_T} {nF ci b : Nat} {As : List Value} (hct : ∀ x, resC = some x → zCt K.2.1 Z (zΩ Z) y (zws (.code y bytes maxL rt)) rm (.ref (Z.2.2.1 + b) :: As) μ (encC x)) (hyC : y.cls = C) (hcl : zCl[ci]? = some (C, TT, nF)) (hci : ci < 100) (hb : zkd b = ci) (w1 : Cond.methodLink own index y ∈ zGood) (w2 : Cond.instanceMethod y ∈ zGood) (w3 : Cond.selects C y y ∈ zGood) (w4 : Cond.initialized C ∈ zGood) (w5 : Cond.code y bytes maxL rt ∈ zGood) (hAs : As.length = n) (hn : (parseMethodDescriptor y.desc).map (fun d => d.parameters.length) = some n) (hy : y.cls ≠ "java/lang/invoke/MethodHandle" ∧ y.cls ≠ "java/lang/invoke/VarHandle") (hfr : rm.frames + 1 ≤ fr) (hlo : 8 + (maxL + 11) + rm.locals ≤ lo) (hcat : (rest.map fun v => v.category).sum ≤ 8) (hst : st = As.reverse ++ .ref (Z.2.2.1 + b) :: rest) (hd : decode cc pc = .ok (.invokevirtual index, 3))
    (kk : ∀ a, res = some a → ∃ x, resC = some x ∧ (∀ v, (encC x).1 = .inr v → (encC x).2.2 → zG K Z (zΩ Z) F cb sb (pc + 3) lv (v.toList ++ rest) (encC x).2.1 (some a)) ∧ (∀ E, (encC x).1 = .inl E → zT K Z (zΩ Z) F cb sb pc lv rest (encC x).2.1 E a)) : zG K Z (zΩ Z) F (cb + rm.cells) (sb + rm.slots) pc lv st μ res := by
  intro a ha H locs ls cells slots hΩ hS hl hc hs
  have hKw := hK.2.2.2.2.2.2.1
  have hR : K.2.2.2.1 = { frames := fr, cells := mc, slots := ms, locals := lo } := hK.2.2.2.2.2.2.2.1
  have hroom : rm.frames + 1 ≤ K.2.2.2.1.frames ∧ 8 + (maxL + 11) + rm.locals ≤ K.2.2.2.1.locals := by rw [hR]; exact ⟨hfr, hlo⟩
  obtain ⟨x, hx, k1, k2⟩ := kk a ha
  have hM := hct x hx
  have hkw : ∀ U : State, U.heap = H → K.2.2.2.2.1.WarmedH U.vm → zKw Z U := fun U hU hW => hKw.warm hW (hS.F hU)
  have hgi : GoodIn zGood (wsV own index C y (zws (.code y bytes maxL rt))) := zgood_in (fun w hw => by
    unfold wsV at hw
    rcases List.mem_append.mp hw with h | h
    · simp only [List.mem_cons, List.not_mem_nil, or_false] at h
      rcases h with rfl | rfl | rfl | rfl
      · exact w1
      · exact w2
      · exact w3
      · exact w4
    · exact zws_in w5 w h)
  have hrun := vx_runV (C := C) (b := Z.2.2.1 + b) (As := As) (rest := rest) (cells := cells) (slots := slots) (locs := locs) (below := K.2.2.2.2.2.2.2.1) (e := K.2.2.1) (meth := K.2.2.2.2.2.2.2.2.1) (g := F0 K.2.2.2.2.2.1 pc ls st) ⟨hK.1, hK.2.1, hK.2.2.1, hK.2.2.2.1, hK.2.2.2.2.1⟩ hM (cwV n hK.2.2.2.2.1 hgi rfl rfl rfl ⟨hyC, hy.1, hy.2, hn⟩ hroom) ⟨zblind, va_recv hKw.1 hΩ.1 hcl (zWl_obj hb hci), fun U hU hW => ⟨rfl, by rw [hU]; exact hΩ, hkw U hU hW⟩⟩ rfl hAs (hl.1.trans hK.2.2.1) hst (lv_room hcat) hd ⟨by omega, by omega⟩
  intro T hT X
  rcases hrun T hT X with ⟨v, st₀, t, T', L, h0, X', hL, e1, e2, ⟨⟨v', hv1, hv2, hw, hrg⟩, hF⟩, stp⟩ | ⟨q, st₀, t, T', L, E, ce, h0, X', hL, e1, e2, ⟨hv1, hw, hF⟩, hce, hcv, hcl, stp⟩
  · cases hv2
    obtain ⟨g1, g2, g3⟩ := vx_keep h0 e1 hS (fun q _ h => h) (fun q h => h) hL hF
    obtain ⟨t2, a1, b1⟩ := k1 v hv1 hrg a rfl T'.heap (locs ++ L) ls (cells + rm.cells) (slots + rm.slots) (by rw [e1]; exact hw) g3 hl (by omega) (by omega) T' rfl X'
    exact ⟨t2, stp t2 a1, b1⟩
  · obtain ⟨g1, g2, g3⟩ := vx_keep h0 e1 hS (fun q _ h => h) (fun q h => h) hL hF
    obtain ⟨t2, a1, b1⟩ := k2 E hv1 T'.heap (locs ++ L) ls (cells + rm.cells) (slots + rm.slots) q ce (by rw [e1]; exact hw) g3 hl (by omega) (by omega) (by rw [e1]; exact hce) hcv hcl T' rfl X'
    exact ⟨t2, stp.trans a1, b1⟩
theorem g_callS0 (hK : zOk K Z cc own nL ret fr lo mc ms) {y : MethodName} {bytes : ByteArray} {maxL index n : Nat} {rt : Option FieldType} {rm : Room} {β : Type} {resC : Option β} {encC : β → zRes zM} {As : List Value} (hct : ∀ x, resC = some x → zCt K.2.1 Z (zΩ Z) y (zws (.code y bytes maxL rt)) rm As μ (encC x)) (w1 : Cond.methodLink own index y ∈ zGood) (w2 : Cond.static y ∈ zGood) (w4 : Cond.initialized y.cls ∈ zGood) (w5 : Cond.code y bytes maxL rt ∈ zGood) (hAs : As.length = n) (hn : (parseMethodDescriptor y.desc).map (fun d => d.parameters.length) = some n) (hy : y.cls ≠ "java/lang/invoke/MethodHandle" ∧ y.cls ≠ "java/lang/invoke/VarHandle") (hfr : rm.frames + 1 ≤ fr) (hlo : 8 + (maxL + 11) + rm.locals ≤ lo) (hcat : (rest.map fun v => v.category).sum ≤ 8) (hst : st = As.reverse ++ rest) (hd : decode cc pc = .ok (.invokestatic index, 3))
    (kk : ∀ a, res = some a → ∃ x, resC = some x ∧ (∀ v, (encC x).1 = .inr v → (encC x).2.2 → zG K Z (zΩ Z) F cb sb (pc + 3) lv (v.toList ++ rest) (encC x).2.1 (some a)) ∧ (∀ E, (encC x).1 = .inl E → zT K Z (zΩ Z) F cb sb pc lv rest (encC x).2.1 E a)) : zG K Z (zΩ Z) F (cb + rm.cells) (sb + rm.slots) pc lv st μ res := by
  intro a ha H locs ls cells slots hΩ hS hl hc hs
  have hKw := hK.2.2.2.2.2.2.1
  have hR : K.2.2.2.1 = { frames := fr, cells := mc, slots := ms, locals := lo } := hK.2.2.2.2.2.2.2.1
  have hroom : rm.frames + 1 ≤ K.2.2.2.1.frames ∧ 8 + (maxL + 11) + rm.locals ≤ K.2.2.2.1.locals := by rw [hR]; exact ⟨hfr, hlo⟩
  obtain ⟨x, hx, k1, k2⟩ := kk a ha
  have hM := hct x hx
  have hkw : ∀ U : State, U.heap = H → K.2.2.2.2.1.WarmedH U.vm → zKw Z U := fun U hU hW => hKw.warm hW (hS.F hU)
  have hcw : CallB K.2.2.2.1 K.2.2.2.2.1 K.2.2.2.2.2.2.1 own index y bytes maxL rt (zws (.code y bytes maxL rt)) rm rm.cells rm.slots n ∧ (Cond.static y).before K.2.2.2.2.2.2.1 K.2.2.2.2.1 = true := ⟨callB_of n hK.2.2.2.2.1 (zgood_in (zws_in w5)) rfl rfl rfl (hK.2.2.2.2.1 _ w4) (hK.2.2.2.2.1 _ w1) ⟨hy.1, hy.2, hn⟩ hroom, hK.2.2.2.2.1 _ w2⟩
  have hrun := vx_runS (As := As) (rest := rest) (cells := cells) (slots := slots) (locs := locs) (below := K.2.2.2.2.2.2.2.1) (e := K.2.2.1) (meth := K.2.2.2.2.2.2.2.2.1) (g := F0 K.2.2.2.2.2.1 pc ls st) ⟨hK.1, hK.2.1, hK.2.2.1, hK.2.2.2.1, hK.2.2.2.2.1⟩ hM hcw ⟨zblind, fun U hU hW => ⟨rfl, by rw [hU]; exact hΩ, hkw U hU hW⟩⟩ rfl hAs (hl.1.trans hK.2.2.1) hst (lv_room hcat) hd ⟨by omega, by omega⟩
  intro T hT X
  rcases hrun T hT X with ⟨v, st₀, t, T', L, h0, X', hL, e1, e2, ⟨⟨v', hv1, hv2, hw, hrg⟩, hF⟩, stp⟩ | ⟨q, st₀, t, T', L, E, ce, h0, X', hL, e1, e2, ⟨hv1, hw, hF⟩, hce, hcv, hcl, stp⟩
  · cases hv2
    obtain ⟨g1, g2, g3⟩ := vx_keep h0 e1 hS (fun q _ h => h) (fun q h => h) hL hF
    obtain ⟨t2, a1, b1⟩ := k1 v hv1 hrg a rfl T'.heap (locs ++ L) ls (cells + rm.cells) (slots + rm.slots) (by rw [e1]; exact hw) g3 hl (by omega) (by omega) T' rfl X'
    exact ⟨t2, stp t2 a1, b1⟩
  · obtain ⟨g1, g2, g3⟩ := vx_keep h0 e1 hS (fun q _ h => h) (fun q h => h) hL hF
    obtain ⟨t2, a1, b1⟩ := k2 E hv1 T'.heap (locs ++ L) ls (cells + rm.cells) (slots + rm.slots) q ce (by rw [e1]; exact hw) g3 hl (by omega) (by omega) (by rw [e1]; exact hce) hcv hcl T' rfl X'
    exact ⟨t2, stp.trans a1, b1⟩
theorem g_callVco (hK : zOk K Z cc own nL ret fr lo mc ms) {y : MethodName} {bytes : ByteArray} {maxL index n : Nat} {rt : Option FieldType} {rm : Room} {β : Type} {C : String} {TT : u_T} {nF ci b : Nat} {As : List Value} {mk : β → Option Value × Prop} {e0 : Option β} {f : β → Option α} (hct : ∀ x, e0 = some x → zCt K.2.1 Z (zΩ Z) y (zws (.code y bytes maxL rt)) rm (.ref (Z.2.2.1 + b) :: As) μ (zeP mk μ x)) (hyC : y.cls = C) (hcl : zCl[ci]? = some (C, TT, nF)) (hci : ci < 100) (hb : zkd b = ci) (w1 : Cond.methodLink own index y ∈ zGood) (w2 : Cond.instanceMethod y ∈ zGood) (w3 : Cond.selects C y y ∈ zGood) (w4 : Cond.initialized C ∈ zGood) (w5 : Cond.code y bytes maxL rt ∈ zGood) (hAs : As.length = n) (hn : (parseMethodDescriptor y.desc).map (fun d => d.parameters.length) = some n) (hy : y.cls ≠ "java/lang/invoke/MethodHandle" ∧ y.cls ≠ "java/lang/invoke/VarHandle") (hfr : rm.frames + 1 ≤ fr) (hlo : 8 + (maxL + 11) + rm.locals ≤ lo) (hcat : (rest.map fun v => v.category).sum ≤ 8) (hst : st = As.reverse ++ .ref (Z.2.2.1 + b) :: rest) (hd : decode cc pc = .ok (.invokevirtual index, 3))
    (k : ∀ x, e0 = some x → (mk x).2 → zG K Z (zΩ Z) F cb sb (pc + 3) lv ((mk x).1.toList ++ rest) μ (f x)) : zG K Z (zΩ Z) F (cb + rm.cells) (sb + rm.slots) pc lv st μ (zco e0 f) :=
  g_callV0 hK (resC := e0) (encC := zeP mk μ) hct hyC hcl hci hb w1 w2 w3 w4 w5 hAs hn hy hfr hlo hcat hst hd (fun a ha => by
    cases he : e0 with
    | none => rw [he] at ha; cases ha
    | some x => rw [he] at ha; exact ⟨x, rfl, fun v hv hp => (by cases hv; intro a2 h2; cases h2; exact k x he hp a ha), fun E hE => (by cases hE)⟩)
theorem g_callVcl (hK : zOk K Z cc own nL ret fr lo mc ms) {y : MethodName} {bytes : ByteArray} {maxL index n : Nat} {rt : Option FieldType} {rm : Room} {β : Type} {C : String} {TT : u_T} {nF ci b : Nat} {As : List Value} {mk : β → Option Value × Prop} {e0 : Option (β × zM)} {f : β → zM → Option α} (hct : ∀ x, e0 = some x → zCt K.2.1 Z (zΩ Z) y (zws (.code y bytes maxL rt)) rm (.ref (Z.2.2.1 + b) :: As) μ (ze2 mk x)) (hyC : y.cls = C) (hcl : zCl[ci]? = some (C, TT, nF)) (hci : ci < 100) (hb : zkd b = ci) (w1 : Cond.methodLink own index y ∈ zGood) (w2 : Cond.instanceMethod y ∈ zGood) (w3 : Cond.selects C y y ∈ zGood) (w4 : Cond.initialized C ∈ zGood) (w5 : Cond.code y bytes maxL rt ∈ zGood) (hAs : As.length = n) (hn : (parseMethodDescriptor y.desc).map (fun d => d.parameters.length) = some n) (hy : y.cls ≠ "java/lang/invoke/MethodHandle" ∧ y.cls ≠ "java/lang/invoke/VarHandle") (hfr : rm.frames + 1 ≤ fr) (hlo : 8 + (maxL + 11) + rm.locals ≤ lo) (hcat : (rest.map fun v => v.category).sum ≤ 8) (hst : st = As.reverse ++ .ref (Z.2.2.1 + b) :: rest) (hd : decode cc pc = .ok (.invokevirtual index, 3))
    (k : ∀ x μ1, e0 = some (x, μ1) → (mk x).2 → zG K Z (zΩ Z) F cb sb (pc + 3) lv ((mk x).1.toList ++ rest) μ1 (f x μ1)) : zG K Z (zΩ Z) F (cb + rm.cells) (sb + rm.slots) pc lv st μ (zcl2 e0 f) :=
  g_callV0 hK (resC := e0) (encC := ze2 mk) hct hyC hcl hci hb w1 w2 w3 w4 w5 hAs hn hy hfr hlo hcat hst hd (fun a ha => by
    cases he : e0 with
    | none => rw [he] at ha; cases ha
    | some x => obtain ⟨x, μ1⟩ := x; rw [he] at ha; exact ⟨(x, μ1), rfl, fun v hv hp => (by cases hv; intro a2 h2; cases h2; exact k x μ1 he hp a ha), fun E hE => (by cases hE)⟩)
theorem g_callVcm (hK : zOk K Z cc own nL ret fr lo mc ms) {y : MethodName} {bytes : ByteArray} {maxL index n : Nat} {rt : Option FieldType} {rm : Room} {C : String} {TT : u_T} {nF ci b : Nat} {As : List Value} {e0 : Option zM} {f : zM → Option α} (hct : ∀ x, e0 = some x → zCt K.2.1 Z (zΩ Z) y (zws (.code y bytes maxL rt)) rm (.ref (Z.2.2.1 + b) :: As) μ (zeM x)) (hyC : y.cls = C) (hcl : zCl[ci]? = some (C, TT, nF)) (hci : ci < 100) (hb : zkd b = ci) (w1 : Cond.methodLink own index y ∈ zGood) (w2 : Cond.instanceMethod y ∈ zGood) (w3 : Cond.selects C y y ∈ zGood) (w4 : Cond.initialized C ∈ zGood) (w5 : Cond.code y bytes maxL rt ∈ zGood) (hAs : As.length = n) (hn : (parseMethodDescriptor y.desc).map (fun d => d.parameters.length) = some n) (hy : y.cls ≠ "java/lang/invoke/MethodHandle" ∧ y.cls ≠ "java/lang/invoke/VarHandle") (hfr : rm.frames + 1 ≤ fr) (hlo : 8 + (maxL + 11) + rm.locals ≤ lo) (hcat : (rest.map fun v => v.category).sum ≤ 8) (hst : st = As.reverse ++ .ref (Z.2.2.1 + b) :: rest) (hd : decode cc pc = .ok (.invokevirtual index, 3))
    (k : ∀ μ1, e0 = some μ1 → zG K Z (zΩ Z) F cb sb (pc + 3) lv rest μ1 (f μ1)) : zG K Z (zΩ Z) F (cb + rm.cells) (sb + rm.slots) pc lv st μ (zcm e0 f) :=
  g_callV0 hK (resC := e0) (encC := zeM) hct hyC hcl hci hb w1 w2 w3 w4 w5 hAs hn hy hfr hlo hcat hst hd (fun a ha => by
    cases he : e0 with
    | none => rw [he] at ha; cases ha
    | some x => rw [he] at ha; exact ⟨x, rfl, fun v hv _ => (by cases hv; intro a2 h2; cases h2; exact k x he a ha), fun E hE => (by cases hE)⟩)
theorem g_callVcx {γ : Type} {mk2 : γ → Option Value × Prop} (hK : zOk K Z cc own nL ret fr lo mc ms) {y : MethodName} {bytes : ByteArray} {maxL index n : Nat} {rt : Option FieldType} {rm : Room} {β : Type} {C : String} {TT : u_T} {nF ci b : Nat} {As : List Value} {mk : β → Option Value × Prop} {e0 : Option ((String ⊕ β) × zM)} {f : β → zM → Option ((String ⊕ γ) × zM)} (hex : ∀ x ∈ K.2.2.2.2.2.2.2.2.2.exceptionTable.toList, False) (hct : ∀ x, e0 = some x → zCt K.2.1 Z (zΩ Z) y (zws (.code y bytes maxL rt)) rm (.ref (Z.2.2.1 + b) :: As) μ (zeX mk x)) (hyC : y.cls = C) (hcl : zCl[ci]? = some (C, TT, nF)) (hci : ci < 100) (hb : zkd b = ci) (w1 : Cond.methodLink own index y ∈ zGood) (w2 : Cond.instanceMethod y ∈ zGood) (w3 : Cond.selects C y y ∈ zGood) (w4 : Cond.initialized C ∈ zGood) (w5 : Cond.code y bytes maxL rt ∈ zGood) (hAs : As.length = n) (hn : (parseMethodDescriptor y.desc).map (fun d => d.parameters.length) = some n) (hy : y.cls ≠ "java/lang/invoke/MethodHandle" ∧ y.cls ≠ "java/lang/invoke/VarHandle") (hfr : rm.frames + 1 ≤ fr) (hlo : 8 + (maxL + 11) + rm.locals ≤ lo) (hcat : (rest.map fun v => v.category).sum ≤ 8) (hst : st = As.reverse ++ .ref (Z.2.2.1 + b) :: rest) (hd : decode cc pc = .ok (.invokevirtual index, 3))
    (k : ∀ x μ1, e0 = some (.inr x, μ1) → (mk x).2 → zG K Z (zΩ Z) (zF K Z (zΩ Z) (zeX mk2)) cb sb (pc + 3) lv ((mk x).1.toList ++ rest) μ1 (f x μ1)) : zG K Z (zΩ Z) (zF K Z (zΩ Z) (zeX mk2)) (cb + rm.cells) (sb + rm.slots) pc lv st μ (zcx e0 f) :=
  g_callV0 hK (resC := e0) (encC := zeX mk) hct hyC hcl hci hb w1 w2 w3 w4 w5 hAs hn hy hfr hlo hcat hst hd (fun a ha => by
    cases he : e0 with
    | none => rw [he] at ha; cases ha
    | some x =>
      obtain ⟨x, μ1⟩ := x
      rw [he] at ha
      cases x with
      | inl E => cases ha; exact ⟨(.inl E, μ1), rfl, fun v hv => (by cases hv), fun E2 hE => (by cases hE; exact zT_out hK hex rfl)⟩
      | inr x => exact ⟨(.inr x, μ1), rfl, fun v hv hp => (by cases hv; intro a2 h2; cases h2; exact k x μ1 he hp a ha), fun E hE => (by cases hE)⟩)
theorem g_callSco (hK : zOk K Z cc own nL ret fr lo mc ms) {y : MethodName} {bytes : ByteArray} {maxL index n : Nat} {rt : Option FieldType} {rm : Room} {β : Type} {As : List Value} {mk : β → Option Value × Prop} {e0 : Option β} {f : β → Option α} (hct : ∀ x, e0 = some x → zCt K.2.1 Z (zΩ Z) y (zws (.code y bytes maxL rt)) rm As μ (zeP mk μ x)) (w1 : Cond.methodLink own index y ∈ zGood) (w2 : Cond.static y ∈ zGood) (w4 : Cond.initialized y.cls ∈ zGood) (w5 : Cond.code y bytes maxL rt ∈ zGood) (hAs : As.length = n) (hn : (parseMethodDescriptor y.desc).map (fun d => d.parameters.length) = some n) (hy : y.cls ≠ "java/lang/invoke/MethodHandle" ∧ y.cls ≠ "java/lang/invoke/VarHandle") (hfr : rm.frames + 1 ≤ fr) (hlo : 8 + (maxL + 11) + rm.locals ≤ lo) (hcat : (rest.map fun v => v.category).sum ≤ 8) (hst : st = As.reverse ++ rest) (hd : decode cc pc = .ok (.invokestatic index, 3))
    (k : ∀ x, e0 = some x → (mk x).2 → zG K Z (zΩ Z) F cb sb (pc + 3) lv ((mk x).1.toList ++ rest) μ (f x)) : zG K Z (zΩ Z) F (cb + rm.cells) (sb + rm.slots) pc lv st μ (zco e0 f) :=
  g_callS0 hK (resC := e0) (encC := zeP mk μ) hct w1 w2 w4 w5 hAs hn hy hfr hlo hcat hst hd (fun a ha => by
    cases he : e0 with
    | none => rw [he] at ha; cases ha
    | some x => rw [he] at ha; exact ⟨x, rfl, fun v hv hp => (by cases hv; intro a2 h2; cases h2; exact k x he hp a ha), fun E hE => (by cases hE)⟩)
theorem g_callScl (hK : zOk K Z cc own nL ret fr lo mc ms) {y : MethodName} {bytes : ByteArray} {maxL index n : Nat} {rt : Option FieldType} {rm : Room} {β : Type} {As : List Value} {mk : β → Option Value × Prop} {e0 : Option (β × zM)} {f : β → zM → Option α} (hct : ∀ x, e0 = some x → zCt K.2.1 Z (zΩ Z) y (zws (.code y bytes maxL rt)) rm As μ (ze2 mk x)) (w1 : Cond.methodLink own index y ∈ zGood) (w2 : Cond.static y ∈ zGood) (w4 : Cond.initialized y.cls ∈ zGood) (w5 : Cond.code y bytes maxL rt ∈ zGood) (hAs : As.length = n) (hn : (parseMethodDescriptor y.desc).map (fun d => d.parameters.length) = some n) (hy : y.cls ≠ "java/lang/invoke/MethodHandle" ∧ y.cls ≠ "java/lang/invoke/VarHandle") (hfr : rm.frames + 1 ≤ fr) (hlo : 8 + (maxL + 11) + rm.locals ≤ lo) (hcat : (rest.map fun v => v.category).sum ≤ 8) (hst : st = As.reverse ++ rest) (hd : decode cc pc = .ok (.invokestatic index, 3))
    (k : ∀ x μ1, e0 = some (x, μ1) → (mk x).2 → zG K Z (zΩ Z) F cb sb (pc + 3) lv ((mk x).1.toList ++ rest) μ1 (f x μ1)) : zG K Z (zΩ Z) F (cb + rm.cells) (sb + rm.slots) pc lv st μ (zcl2 e0 f) :=
  g_callS0 hK (resC := e0) (encC := ze2 mk) hct w1 w2 w4 w5 hAs hn hy hfr hlo hcat hst hd (fun a ha => by
    cases he : e0 with
    | none => rw [he] at ha; cases ha
    | some x => obtain ⟨x, μ1⟩ := x; rw [he] at ha; exact ⟨(x, μ1), rfl, fun v hv hp => (by cases hv; intro a2 h2; cases h2; exact k x μ1 he hp a ha), fun E hE => (by cases hE)⟩)
theorem g_callScm (hK : zOk K Z cc own nL ret fr lo mc ms) {y : MethodName} {bytes : ByteArray} {maxL index n : Nat} {rt : Option FieldType} {rm : Room} {As : List Value} {e0 : Option zM} {f : zM → Option α} (hct : ∀ x, e0 = some x → zCt K.2.1 Z (zΩ Z) y (zws (.code y bytes maxL rt)) rm As μ (zeM x)) (w1 : Cond.methodLink own index y ∈ zGood) (w2 : Cond.static y ∈ zGood) (w4 : Cond.initialized y.cls ∈ zGood) (w5 : Cond.code y bytes maxL rt ∈ zGood) (hAs : As.length = n) (hn : (parseMethodDescriptor y.desc).map (fun d => d.parameters.length) = some n) (hy : y.cls ≠ "java/lang/invoke/MethodHandle" ∧ y.cls ≠ "java/lang/invoke/VarHandle") (hfr : rm.frames + 1 ≤ fr) (hlo : 8 + (maxL + 11) + rm.locals ≤ lo) (hcat : (rest.map fun v => v.category).sum ≤ 8) (hst : st = As.reverse ++ rest) (hd : decode cc pc = .ok (.invokestatic index, 3))
    (k : ∀ μ1, e0 = some μ1 → zG K Z (zΩ Z) F cb sb (pc + 3) lv rest μ1 (f μ1)) : zG K Z (zΩ Z) F (cb + rm.cells) (sb + rm.slots) pc lv st μ (zcm e0 f) :=
  g_callS0 hK (resC := e0) (encC := zeM) hct w1 w2 w4 w5 hAs hn hy hfr hlo hcat hst hd (fun a ha => by
    cases he : e0 with
    | none => rw [he] at ha; cases ha
    | some x => rw [he] at ha; exact ⟨x, rfl, fun v hv _ => (by cases hv; intro a2 h2; cases h2; exact k x he a ha), fun E hE => (by cases hE)⟩)
theorem g_callScx {γ : Type} {mk2 : γ → Option Value × Prop} (hK : zOk K Z cc own nL ret fr lo mc ms) {y : MethodName} {bytes : ByteArray} {maxL index n : Nat} {rt : Option FieldType} {rm : Room} {β : Type} {As : List Value} {mk : β → Option Value × Prop} {e0 : Option ((String ⊕ β) × zM)} {f : β → zM → Option ((String ⊕ γ) × zM)} (hex : ∀ x ∈ K.2.2.2.2.2.2.2.2.2.exceptionTable.toList, False) (hct : ∀ x, e0 = some x → zCt K.2.1 Z (zΩ Z) y (zws (.code y bytes maxL rt)) rm As μ (zeX mk x)) (w1 : Cond.methodLink own index y ∈ zGood) (w2 : Cond.static y ∈ zGood) (w4 : Cond.initialized y.cls ∈ zGood) (w5 : Cond.code y bytes maxL rt ∈ zGood) (hAs : As.length = n) (hn : (parseMethodDescriptor y.desc).map (fun d => d.parameters.length) = some n) (hy : y.cls ≠ "java/lang/invoke/MethodHandle" ∧ y.cls ≠ "java/lang/invoke/VarHandle") (hfr : rm.frames + 1 ≤ fr) (hlo : 8 + (maxL + 11) + rm.locals ≤ lo) (hcat : (rest.map fun v => v.category).sum ≤ 8) (hst : st = As.reverse ++ rest) (hd : decode cc pc = .ok (.invokestatic index, 3))
    (k : ∀ x μ1, e0 = some (.inr x, μ1) → (mk x).2 → zG K Z (zΩ Z) (zF K Z (zΩ Z) (zeX mk2)) cb sb (pc + 3) lv ((mk x).1.toList ++ rest) μ1 (f x μ1)) : zG K Z (zΩ Z) (zF K Z (zΩ Z) (zeX mk2)) (cb + rm.cells) (sb + rm.slots) pc lv st μ (zcx e0 f) :=
  g_callS0 hK (resC := e0) (encC := zeX mk) hct w1 w2 w4 w5 hAs hn hy hfr hlo hcat hst hd (fun a ha => by
    cases he : e0 with
    | none => rw [he] at ha; cases ha
    | some x =>
      obtain ⟨x, μ1⟩ := x
      rw [he] at ha
      cases x with
      | inl E => cases ha; exact ⟨(.inl E, μ1), rfl, fun v hv => (by cases hv), fun E2 hE => (by cases hE; exact zT_out hK hex rfl)⟩
      | inr x => exact ⟨(.inr x, μ1), rfl, fun v hv hp => (by cases hv; intro a2 h2; cases h2; exact k x μ1 he hp a ha), fun E hE => (by cases hE)⟩)
theorem zi_min {x y : Int} (hx : zr x) (hy : zr y) : (if zi y < zi x then zi y else zi x) = zi (min x y) := by
  have e := zi_lt hy hx
  by_cases h : y < x
  · rw [if_pos (e.mpr h), show min x y = y from by omega]
  · rw [if_neg (fun h9 => h (e.mp h9)), show min x y = x from by omega]
theorem g_mmin (hK : zOk K Z cc own nL ret fr lo mc ms) {x y : Int} {f : Int → Option α} {index : Nat} (hx : zr x) (hy : zr y) (w1 : Cond.methodLink own index Lib.Math.min.name ∈ zGood) (w2 : Cond.static Lib.Math.min.name ∈ zGood) (w3 : Cond.initialized "java/lang/Math" ∈ zGood) (w4 : Cond.code Lib.Math.min.name Lib.Math.min.code 2 (some .int) ∈ zGood) (hfr : 1 ≤ fr) (hlo : (st.map fun v => v.category).sum + 13 ≤ lo) (hd : decode cc pc = .ok (.invokestatic index, 3)) (k : ∀ v : Int, zr v → zG K Z (zΩ Z) F cb sb (pc + 3) lv (.int (zi v) :: st) μ (f v)) : zG K Z (zΩ Z) F cb sb pc lv (.int (zi y) :: .int (zi x) :: st) μ (zlt (min x y) f) := by
  intro a ha H locs ls cells slots hΩ hS hl hc hs
  have hR : K.2.2.2.1 = _ := hK.2.2.2.2.2.2.2.1
  have h := k (min x y) (by have := hx.1; have := hx.2; have := hy.1; have := hy.2; exact ⟨by omega, by omega⟩) a ha H locs ls cells slots hΩ hS hl hc hs
  rw [← zi_min hx hy] at h
  exact va_mmin hK.1 hK.2.1 hl.1.symm hK.2.2.2.1 (hK.2.2.2.2.1 _ w1) (hK.2.2.2.2.1 _ w2) (hK.2.2.2.2.1 _ w3) (hK.2.2.2.2.1 _ w4) (by rw [hR]; exact hfr) (by rw [hR]; exact hlo) (by omega) (by omega) hd h
theorem zi_max {x y : Int} (hx : zr x) (hy : zr y) : (if zi x < zi y then zi y else zi x) = zi (max x y) := by
  have e := zi_lt hx hy
  by_cases h : x < y
  · rw [if_pos (e.mpr h), show max x y = y from by omega]
  · rw [if_neg (fun h9 => h (e.mp h9)), show max x y = x from by omega]
theorem g_mmax (hK : zOk K Z cc own nL ret fr lo mc ms) {x y : Int} {f : Int → Option α} {index : Nat} (hx : zr x) (hy : zr y) (w1 : Cond.methodLink own index Lib.Math.max.name ∈ zGood) (w2 : Cond.static Lib.Math.max.name ∈ zGood) (w3 : Cond.initialized "java/lang/Math" ∈ zGood) (w4 : Cond.code Lib.Math.max.name Lib.Math.max.code 2 (some .int) ∈ zGood) (hfr : 1 ≤ fr) (hlo : (st.map fun v => v.category).sum + 13 ≤ lo) (hd : decode cc pc = .ok (.invokestatic index, 3)) (k : ∀ v : Int, zr v → zG K Z (zΩ Z) F cb sb (pc + 3) lv (.int (zi v) :: st) μ (f v)) : zG K Z (zΩ Z) F cb sb pc lv (.int (zi y) :: .int (zi x) :: st) μ (zlt (max x y) f) := by
  intro a ha H locs ls cells slots hΩ hS hl hc hs
  have hR : K.2.2.2.1 = _ := hK.2.2.2.2.2.2.2.1
  have h := k (max x y) (by have := hx.1; have := hx.2; have := hy.1; have := hy.2; exact ⟨by omega, by omega⟩) a ha H locs ls cells slots hΩ hS hl hc hs
  rw [← zi_max hx hy] at h
  exact va_mmax hK.1 hK.2.1 hl.1.symm hK.2.2.2.1 (hK.2.2.2.2.1 _ w1) (hK.2.2.2.2.1 _ w2) (hK.2.2.2.2.1 _ w3) (hK.2.2.2.2.1 _ w4) (by rw [hR]; exact hfr) (by rw [hR]; exact hlo) (by omega) (by omega) hd h
theorem zl_min {x y : Int} (hx : zr64 x) (hy : zr64 y) : (if zl y < zl x then zl y else zl x) = zl (min x y) := by
  have e := zl_lt hy hx
  by_cases h : y < x
  · rw [if_pos (e.mpr h), show min x y = y from by omega]
  · rw [if_neg (fun h9 => h (e.mp h9)), show min x y = x from by omega]
theorem g_lmin (hK : zOk K Z cc own nL ret fr lo mc ms) {x y : Int} {f : Int → Option α} {index : Nat} (hx : zr64 x) (hy : zr64 y) (w1 : Cond.methodLink own index Lib.MathLoose.min_long.x ∈ zGood) (w2 : Cond.static Lib.MathLoose.min_long.x ∈ zGood) (w3 : Cond.initialized "java/lang/Math" ∈ zGood) (w4 : Cond.code Lib.MathLoose.min_long.x Lib.MathLoose.min_long.code 4 (some .long) ∈ zGood) (hfr : 1 ≤ fr) (hlo : (st.map fun v => v.category).sum + 15 ≤ lo) (hd : decode cc pc = .ok (.invokestatic index, 3)) (k : ∀ v : Int, zr64 v → zG K Z (zΩ Z) F cb sb (pc + 3) lv (.long (zl v) :: st) μ (f v)) : zG K Z (zΩ Z) F cb sb pc lv (.long (zl y) :: .long (zl x) :: st) μ (zlt (min x y) f) := by
  intro a ha H locs ls cells slots hΩ hS hl hc hs
  have hR : K.2.2.2.1 = _ := hK.2.2.2.2.2.2.2.1
  have h := k (min x y) (by have := hx.1; have := hx.2; have := hy.1; have := hy.2; exact ⟨by omega, by omega⟩) a ha H locs ls cells slots hΩ hS hl hc hs
  rw [← zl_min hx hy] at h
  exact va_mmin_long hK.1 hK.2.1 hl.1.symm hK.2.2.2.1 (hK.2.2.2.2.1 _ w1) (hK.2.2.2.2.1 _ w2) (hK.2.2.2.2.1 _ w3) (hK.2.2.2.2.1 _ w4) (by rw [hR]; exact hfr) (by rw [hR]; exact hlo) (by omega) (by omega) hd h
theorem g_acopy (hK : zOk K Z cc own nL ret fr lo mc ms) {index a0 a1 : Nat} {sp dp n : Int} (w1 : Cond.methodLink own index arraycopyName ∈ zGood) (w2 : Cond.native arraycopyName ∈ zGood) (w3 : Cond.static arraycopyName ∈ zGood) (w4 : Cond.initialized "java/lang/System" ∈ zGood) (h0 : zkd a0 = 100) (h1 : zkd a1 = 100) (hfr : 1 ≤ fr) (hlo : (st.map fun v => v.category).sum + (nativeFrameWords "java/lang/System" "arraycopy" 5 + 11) ≤ lo) (hd : decode cc pc = .ok (.invokestatic index, 3)) (k : (0 ≤ sp ∧ 0 ≤ dp ∧ 0 ≤ n ∧ sp + n ≤ (zln a0 : Int) ∧ dp + n ≤ (zln a1 : Int)) → zG K Z (zΩ Z) F cb sb (pc + 3) lv st (zcI μ a0 (zx sp) a1 (zx dp) (zx n)) A) : zG K Z (zΩ Z) F cb sb pc lv (.int (zi n) :: .int (zi dp) :: .ref (Z.2.2.1 + a1) :: .int (zi sp) :: .ref (Z.2.2.1 + a0) :: st) μ (zgd (0 ≤ sp ∧ 0 ≤ dp ∧ 0 ≤ n ∧ sp + n ≤ (zln a0 : Int) ∧ dp + n ≤ (zln a1 : Int)) A) := by
  intro a ha H locs ls cells slots hΩ hS hl hc hs
  obtain ⟨g, ha⟩ := zgd_some ha
  have hR : K.2.2.2.1 = _ := hK.2.2.2.2.2.2.2.1
  have p0 := zkd_pos h0 (by omega)
  have p1 := zkd_pos h1 (by omega)
  have e0 := zWl_at (dA := Z.2.1) (B := Z.2.2.1) (n := zN) (μ := μ) p0.1 p0.2
  have e1 := zWl_at (dA := Z.2.1) (B := Z.2.2.1) (n := zN) (μ := μ) p1.1 p1.2
  rw [h0] at e0
  rw [h1] at e1
  obtain ⟨g1, g2, g3, g4, g5⟩ := g
  have l0 := zln_le a0
  have l1 := zln_le a1
  have z0 : zr 0 := ⟨by decide, by decide⟩
  have r1 : zr sp := ⟨by omega, by omega⟩
  have r2 : zr dp := ⟨by omega, by omega⟩
  have r3 : zr n := ⟨by omega, by omega⟩
  have t1 := zx_of g1 r1
  have t2 := zx_of g2 r2
  have t3 := zx_of g3 r3
  have nn : ∀ z : Int, 0 ≤ z → zr z → ¬ zi z < 0 := fun z hz hr h => by have := (zi_lt hr z0).mp h; omega
  refine va_copyi (D := Z.1) hK.1 hK.2.1 hl.1.symm hK.2.2.2.1 (hK.2.2.2.2.1 _ w1) (hK.2.2.2.2.1 _ w2) (hK.2.2.2.2.1 _ w3) (hK.2.2.2.2.1 _ w4) hK.2.2.2.2.2.2.1.1 hΩ.1 zWl_D hS (a0 - 1) (a1 - 1) 0 0 e0 e1 rfl rfl rfl (nn sp g1 r1) (nn dp g2 r2) (nn n g3 r3) (by rw [t1, t3]; show sp.toNat + n.toNat ≤ _; omega) (by rw [t2, t3]; show dp.toNat + n.toNat ≤ _; omega) (fun i hi => rfl) (by rw [hR]; exact hfr) (by rw [hR]; exact hlo) hd (fun H1 locs1 hP1 hD1 hS1 => ?_)
  rw [t1, t2, t3] at hP1
  have e2 := zWl_set (dA := Z.2.1) (B := Z.2.2.1) (n := zN) p1.1 (zocI Z.2.1 Z.2.2.1 μ a0 (zx sp) a1 (zx dp) (zx n))
  rw [h1] at e2
  have e3 : zCe Z.2.1 Z.2.2.1 (zcI μ a0 (zx sp) a1 (zx dp) (zx n)) a1 100 (zln a1) = _ := show (Sum.inl (Z.2.1 0, zln a1, Sum.inl (fun q => zi (zI (zcI μ a0 (zx sp) a1 (zx dp) (zx n)) a1 q))) : va_E) = Sum.inl (Z.2.1 0, zln a1, Sum.inl (va_cpy (fun q => zi (zI μ a0 q)) (fun q => zi (zI μ a1 q)) (zx sp) (zx dp) (zx n))) from by rw [show (fun q => zi (zI (zcI μ a0 (zx sp) a1 (zx dp) (zx n)) a1 q)) = va_cpy (fun q => zi (zI μ a0 q)) (fun q => zi (zI μ a1 q)) (zx sp) (zx dp) (zx n) from funext fun q => by rw [zcI_at]; unfold va_cpy; by_cases h9 : zx dp ≤ q ∧ q < zx dp + zx n; (rw [if_pos ⟨rfl, h9⟩, if_pos h9]); (rw [if_neg (fun h8 => h9 h8.2), if_neg h9])]
  rw [e3] at e2
  rw [e2] at hP1
  exact k ⟨g1, g2, g3, g4, g5⟩ a ha H1 locs1 ls cells slots ⟨hP1, hΩ.2.1, hΩ.2.2.1, zRg_cI hΩ.2.2.2⟩ hS1 hl hc hs
theorem g_ldcS (hK : zOk K Z cc own nL ret fr lo mc ms) {index i9 : Nat} {tx : String} (hstr : zStr[i9]? = some (own, index, tx)) (hd : decode cc pc = .ok (.ldc index, 2)) (k : zG K Z (zΩ Z) F cb sb (pc + 2) lv (.ref (Z.2.2.2.1 i9) :: st) μ res) : zG K Z (zΩ Z) F cb sb pc lv st μ res := by
  intro a ha H locs ls cells slots hΩ hS hl hc hs
  exact va_ldcS hK.1 hK.2.1 hK.2.2.2.1 (hK.2.2.2.2.2.2.1.2.2.2.1 i9 _ hstr) hd (k a ha H locs ls cells slots hΩ hS hl hc hs)
end zRows6
