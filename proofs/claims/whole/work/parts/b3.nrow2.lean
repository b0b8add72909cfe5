/-! THE CONSTRUCTORS: fields, rows, calls, ends -/
def zFi (K : zK) (Z : zZ) : Nat × zM → State → Prop := fun q => MQ K.2.2.2.2.2.2.2.1 (zQ Z (zΩn Z) (.inr none, q, True)) K.2.2.2.2.2.2.1 K.2.2.2.2.1 K.2.2.2.1.cells K.2.2.2.1.slots (fun x : Nat => Z.2.2.1 < x)
def zCtI (l : Launch) (Z : zZ) (y : MethodName) (ws : List Cond) (rm : Room) (av : List Value) (q q' : Nat × zM) : Prop :=
  Met l y ws rm (va_Pc av (fun U => zΩn Z q U.heap ∧ zKi Z U)) (zQ Z (zΩn Z) (.inr none, q', True)) rm.cells rm.slots (fun x : Nat => Z.2.2.1 < x)
theorem zblindI {Z : zZ} {av : List Value} {q : Nat × zM} : FrameBlind (va_Pc av (fun U => zΩn Z q U.heap ∧ zKi Z U)) := fun a U g mk h => by
  obtain ⟨q0, q1, q2⟩ := h
  exact ⟨q0, q1, q2.blind⟩
theorem zCtI.of {l : Launch} {Z : zZ} {y : MethodName} {cc : ByteArray} {nL : Nat} {rm : Room} {av : List Value} {q q' : Nat × zM} (hy : plainName y.cls = true) (hst : l.stackTraces = false) (hlen : (lg_sl av).length ≤ nL)
    (body : ∀ K : zK, zOk K Z cc y.cls nL none rm.frames rm.locals rm.cells rm.slots → zKi Z K.2.2.2.2.1 → K.2.2.2.2.2.2.2.2.1.name = y.name → K.2.1 = l → zG K Z (zΩn Z) (zFi K Z) rm.cells rm.slots 0 (lv_args 0 av) [] q (some q')) : zCtI l Z y (zws (.code y cc nL none)) rm av q q' := by
  refine Met.ofW (cc := cc) (maxL := nL) (ret := none) hy rfl (fun p e s m args below meth c s₁ B hml hv => ?_)
  obtain ⟨rfl, hΩ, hKi⟩ := hv
  have hl := lv_entry av (n := nL) hlen
  rw [lg_entry_eq]
  refine body (p, l, e, (headSpec (zws (.code y cc nL none)) rm).room, s, m, av.toArray, below, meth, c) ⟨B.exec, B.bytes, hml, findClass_of_methodNamed B.named, fun w hw => atoms_spec (ws := zws (.code y cc nL none)) B.pre w (List.mem_cons_of_mem _ hw), B.notSynchronized, hKi.1, rfl, hst, B.returns⟩ hKi (name_of_methodNamed B.named B.method).1 rfl q' rfl s.heap [] _ 0 0 hΩ va_S.rf (by rw [← hml] at hl; rw [hml] at hl ⊢; exact hl) (by show 0 + rm.cells ≤ rm.cells; omega) (by show 0 + rm.slots ≤ rm.slots; omega)
theorem zln_lt (t : Nat) : zln t < 1000000 := by
  unfold zln
  have h : ∀ q ∈ zLay, q.2 < 1000000 := by decide +kernel
  rw [List.getD_eq_getElem?_getD]
  cases e : zLay[t]? with
  | none => exact by decide
  | some q => exact h q (List.mem_of_getElem? e)
section nrow2
variable {K : zK} {Z : zZ} {σ α : Type} {Ω : σ → Heap → Prop} {F : α → State → Prop} {cc : ByteArray} {own : String} {nL fr lo mc ms cb sb pc n : Nat} {ret : Option FieldType} {lv : List (Nat × Value)} {st rest : List Value} {μ : zM} {s9 : σ} {res A : Option α}
theorem gn_entry {dA : Nat → ClassId} {B t ci : Nat} (h0 : 0 < t) (h1 : t ≤ n) (ht : zkd t = ci) (hc : ci < 100) : (zWl dA B n μ)[t - 1]? = some (B + t, .inr (ci, zFs B μ t (zTy ci))) := by
  have e := zWl_at (dA := dA) (B := B) (μ := μ) h0 h1
  rw [ht, zCe_obj hc] at e
  exact e
theorem gn_getR (hK : zOk K Z cc own nL ret fr lo mc ms) {ci : Nat} {C : String} {TT : u_T} {nF t j index r : Nat} (hf : zfin ci) (hq : zfa ci C TT nF t j 2) (htn : t ≤ n) (hr : zR μ t j = r) (hr0 : r ≠ 0) (hw : Cond.fieldLink own index (TT j).1 (TT j).2.1 (TT j).2.2.1 ∈ zGood) (hd : decode cc pc = .ok (.getfield index, 3)) (k : zG K Z (zΩn Z) F cb sb (pc + 3) lv (.ref (Z.2.2.1 + r) :: st) (n, μ) res) : zG K Z (zΩn Z) F cb sb pc lv (.ref (Z.2.2.1 + t) :: st) (n, μ) res := by
  intro a ha H locs ls cells slots hΩ hS hl hc hs
  obtain ⟨q1, q2, q3, q4, q5⟩ := hq
  have e : zFv Z.2.2.1 μ t j 2 = .ref (Z.2.2.1 + r) := by
    show zRv _ (zR μ t j) = _
    rw [hr]
    exact zRv_pos hr0
  refine va_get (D := Z.1) (ci := ci) (C := C) (T := TT) (N := nF) hK.1 hK.2.1 hK.2.2.2.2.1 (hf _ q1) hK.2.2.2.1 hK.2.2.2.2.2.2.1.1 hΩ.1 (t - 1) (gn_entry (zkd_pos q2 (by omega)).1 htn q2 q3) q1 j q5 (hK.2.2.2.2.1 _ hw) (fun _ h9 => h9) (zFs_at q4) hd ?_
  rw [e]
  exact k a ha H locs ls cells slots hΩ hS hl hc hs
theorem gn_getRN (hK : zOk K Z cc own nL ret fr lo mc ms) {ci : Nat} {C : String} {TT : u_T} {nF t j index r : Nat} (hf : zfin ci) (hq : zfa ci C TT nF t j 2) (htn : t ≤ n) (hr : zR μ t j = r) (hr0 : r ≠ 0) {host : String} (hw : Cond.fieldLinkNest own index (TT j).1 (TT j).2.1 (TT j).2.2.1 host ∈ zNw) (hd : decode cc pc = .ok (.getfield index, 3)) (k : zG K Z (zΩn Z) F cb sb (pc + 3) lv (.ref (Z.2.2.1 + r) :: st) (n, μ) res) : zG K Z (zΩn Z) F cb sb pc lv (.ref (Z.2.2.1 + t) :: st) (n, μ) res := by
  intro a ha H locs ls cells slots hΩ hS hl hc hs
  obtain ⟨q1, q2, q3, q4, q5⟩ := hq
  have e : zFv Z.2.2.1 μ t j 2 = .ref (Z.2.2.1 + r) := by
    show zRv _ (zR μ t j) = _
    rw [hr]
    exact zRv_pos hr0
  refine va_getN (D := Z.1) (ci := ci) (C := C) (T := TT) (N := nF) hK.1 hK.2.1 hK.2.2.2.2.1 (hf _ q1) hK.2.2.2.1 hK.2.2.2.2.2.2.1.1 hΩ.1 (t - 1) (gn_entry (zkd_pos q2 (by omega)).1 htn q2 q3) q1 j q5 (va_Nw.use rfl (hK.2.2.2.2.2.2.1.2.2.2.2.2.2.1 _ hw)) (fun _ h9 => h9) (zFs_at q4) hd ?_
  rw [e]
  exact k a ha H locs ls cells slots hΩ hS hl hc hs
theorem gn_aald5 (hK : zOk K Z cc own nL ret fr lo mc ms) {t i r : Nat} (ht : zkd t = 105) (htn : t ≤ n) (hi : i < zln t) (hr : zR μ t i = r) (hr0 : r ≠ 0) (hd : decode cc pc = .ok (.aaload, 1)) (k : zG K Z (zΩn Z) F cb sb (pc + 1) lv (.ref (Z.2.2.1 + r) :: st) (n, μ) res) : zG K Z (zΩn Z) F cb sb pc lv (.int (zi ((i : Nat) : Int)) :: .ref (Z.2.2.1 + t) :: st) (n, μ) res := by
  intro a ha H locs ls cells slots hΩ hS hl hc hs
  have h0 := zkd_pos ht (by omega)
  have e := zWl_at (dA := Z.2.1) (B := Z.2.2.1) (μ := μ) h0.1 htn
  rw [ht] at e
  have g9 : zin ((i : Nat) : Int) (zln t) := ⟨by omega, by omega⟩
  have ex := zx_of g9.1 (zin_r g9)
  refine va_aldq (D := Z.1) (C := RX2) hK.1 hK.2.1 hK.2.2.2.2.2.2.1.1 hΩ.1 (t - 1) 5 e rfl (zin_of g9) hd ?_
  have e1 : va_rf (zRo Z.2.2.1 (zR μ t (zi ((i : Nat) : Int)).toNatClampNeg)) = .ref (Z.2.2.1 + r) := by
    rw [ex, zx_nat, hr, zRo_rf]
    exact zRv_pos hr0
  rw [e1]
  exact k a ha H locs ls cells slots hΩ hS hl hc hs
/-- a final field of this maker's object -/
theorem gn_putF (hK : zOk K Z cc own nL ret fr lo mc ms) (hin2 : K.2.2.2.2.2.2.2.2.1.name = "<init>") {ci : Nat} {C : String} {TT : u_T} {nF t j index r : Nat} {rty : FieldType} (hf : zfin ci) (hq : zfa ci C TT nF t j 2) (htn : t ≤ n) (hr0 : r ≠ 0) (hw : Cond.fieldLink own index (TT j).1 (TT j).2.1 (TT j).2.2.1 ∈ zGood) (hrt : ∀ q : Nat, narrow rty (.ref q) = .ref q) (hrf : ∀ q : Nat, fits rty (.ref q) = true) (hfin : (TT j).2.2.2 = true) (hdecl : (TT j).1 = own) (hty : parseFieldDescriptor (TT j).2.2.1 = some rty) (tyc : Nat → FieldType) (htyc : ∀ k, k < nF → parseFieldDescriptor (TT k).2.2.1 = some (tyc k)) (hnm : ∀ a, a < nF → ∀ b, b < nF → a ≠ b → (TT a).2.1 ≠ (TT b).2.1) (hd : decode cc pc = .ok (.putfield index, 3)) (k : zG K Z (zΩn Z) F cb sb (pc + 3) lv st (n, zsR μ t j r) res) : zG K Z (zΩn Z) F cb sb pc lv (.ref (Z.2.2.1 + r) :: .ref (Z.2.2.1 + t) :: st) (n, μ) res := by
  intro a ha H locs ls cells slots hΩ hS hl hc hs
  obtain ⟨hP, hz, hfr⟩ := hΩ
  obtain ⟨q1, q2, q3, q4, q5⟩ := hq
  have ht0 := (zkd_pos q2 (by omega)).1
  have hts := hK.2.2.2.2.1
  have hin := hf _ q1
  have hown := hK.2.2.2.1
  have hKK := hK.2.2.2.2.2.2.1.1
  have he := gn_entry (dA := Z.2.1) (B := Z.2.2.1) (μ := μ) ht0 htn q2 q3
  have hap := va_apart (own := own) hts hin tyc htyc hnm hKK q1
  obtain ⟨r', h1, cell, g1, g2, g3, g4⟩ := hP (t - 1) _ he
  have hr' : r' = (C, TT, nF) := Option.some.inj (h1.symm.trans q1)
  subst hr'
  obtain ⟨hSl, hfc, kC, hkC, hkind⟩ := hKK.1 ci _ q1
  obtain ⟨cf, kf, fi, f, hi, hsl⟩ := hSl j q5
  have hlay := hts _ (hin _ (u_in_lay q5))
  unfold u_lay at hlay
  rw [if_pos hfin] at hlay
  have hst := (u_facts hfc hkC (u_lays hts hin q5) hi).1
  have hcf : K.2.2.2.2.2.1.cls = cf := by
    obtain ⟨_, _, c', _, _, _, -, -, hf', -, -, -, hown2, -⟩ := Cond.laysFinal_spec hlay
    have e1 : c' = cf := by have := hi.symm.trans hf'; simp at this; exact this.1.symm
    rw [hdecl] at hown2
    rw [← e1]; exact Option.some.inj (hown.symm.trans hown2)
  have h6 := u_fits hfc hkC hkind (Or.inr hlay) hi hty (hrt (Z.2.2.1 + r)) (hrf (Z.2.2.1 + r))
  have hlen : j < (zFs Z.2.2.1 μ t (zTy ci)).length := by rw [zFs_len]; exact (List.getElem?_eq_some_iff.mp q4).1
  refine W.putFinK hK.1 hK.2.1 hown (hts _ hw) hi hst hcf hin2 (by rw [g2]; exact h6) g1 g3 (by rw [hsl]; exact k2_hasslot (g4 j q5)) rfl rfl hd (fun H1 e1 e2 e3 => ?_)
  rw [hsl] at e1 ⊢
  have hP1 : va_P Z.1 zCl ((zWl Z.2.1 Z.2.2.1 n μ).set (t - 1) (Z.2.2.1 + t, .inr (ci, (zFs Z.2.2.1 μ t (zTy ci)).set j (.ref (Z.2.2.1 + r))))) H1 := hP.set zWl_D he ⟨_, q1, t_OB.to (V := updV (vp_V (zFs Z.2.2.1 μ t (zTy ci))) j (.ref (Z.2.2.1 + r))) ⟨_, e1, g2, g3, t_set g4 hap q5 (.ref (Z.2.2.1 + r))⟩ (fun i _ => vp_updV_set hlen (.ref (Z.2.2.1 + r)) i)⟩ e3
  have e4 : (zFs Z.2.2.1 μ t (zTy ci)).set j (.ref (Z.2.2.1 + r)) = zFs Z.2.2.1 (zsR μ t j r) t (zTy ci) := zFs_set (fun ty h9 => by rw [q4] at h9; cases h9; exact zFv_R0 hr0) (fun i ty hi => zFv_R hi)
  rw [e4] at hP1
  have e5 := zWl_set (dA := Z.2.1) (B := Z.2.2.1) (n := n) ht0 (zoR Z.2.1 Z.2.2.1 μ t j r)
  rw [q2, zCe_obj q3] at e5
  rw [e5] at hP1
  exact k a ha H1 _ ls cells slots ⟨hP1, e2.trans hz, zFr_sR hfr htn⟩ (hS.put e2 e3 (show Z.2.2.1 < Z.2.2.1 + t by omega)) hl hc hs
/-- a field that isn't final -/
theorem gn_putM (hK : zOk K Z cc own nL ret fr lo mc ms) {ci : Nat} {C : String} {TT : u_T} {nF t j index r : Nat} {rty : FieldType} (hf : zfin ci) (hq : zfa ci C TT nF t j 2) (htn : t ≤ n) (hr0 : r ≠ 0) (hw : Cond.fieldLink own index (TT j).1 (TT j).2.1 (TT j).2.2.1 ∈ zGood) (hrt : ∀ q : Nat, narrow rty (.ref q) = .ref q) (hrf : ∀ q : Nat, fits rty (.ref q) = true) (hfin : (TT j).2.2.2 = false) (hty : parseFieldDescriptor (TT j).2.2.1 = some rty) (tyc : Nat → FieldType) (htyc : ∀ k, k < nF → parseFieldDescriptor (TT k).2.2.1 = some (tyc k)) (hnm : ∀ a, a < nF → ∀ b, b < nF → a ≠ b → (TT a).2.1 ≠ (TT b).2.1) (hd : decode cc pc = .ok (.putfield index, 3)) (k : zG K Z (zΩn Z) F cb sb (pc + 3) lv st (n, zsR μ t j r) res) : zG K Z (zΩn Z) F cb sb pc lv (.ref (Z.2.2.1 + r) :: .ref (Z.2.2.1 + t) :: st) (n, μ) res := by
  intro a ha H locs ls cells slots hΩ hS hl hc hs
  obtain ⟨hP, hz, hfr⟩ := hΩ
  obtain ⟨q1, q2, q3, q4, q5⟩ := hq
  have ht0 := (zkd_pos q2 (by omega)).1
  have hts := hK.2.2.2.2.1
  have hin := hf _ q1
  have hown := hK.2.2.2.1
  have hKK := hK.2.2.2.2.2.2.1.1
  have he := gn_entry (dA := Z.2.1) (B := Z.2.2.1) (μ := μ) ht0 htn q2 q3
  have hap := va_apart (own := own) hts hin tyc htyc hnm hKK q1
  obtain ⟨r', h1, cell, g1, g2, g3, g4⟩ := hP (t - 1) _ he
  have hr' : r' = (C, TT, nF) := Option.some.inj (h1.symm.trans q1)
  subst hr'
  obtain ⟨hSl, hfc, kC, hkC, hkind⟩ := hKK.1 ci _ q1
  obtain ⟨cf, kf, fi, f, hi, hsl⟩ := hSl j q5
  have hlay := hts _ (hin _ (u_in_lay q5))
  unfold u_lay at hlay
  rw [if_neg (by rw [hfin]; decide)] at hlay
  have hst := (u_facts hfc hkC (u_lays hts hin q5) hi).1
  have h6 := u_store hfc hkC hkind hlay hi hty (hrt (Z.2.2.1 + r)) (hrf (Z.2.2.1 + r))
  have hlen : j < (zFs Z.2.2.1 μ t (zTy ci)).length := by rw [zFs_len]; exact (List.getElem?_eq_some_iff.mp q4).1
  refine W.putK hK.1 hK.2.1 (f := f) ⟨hown, hts _ hw, ⟨_, _, _, hi⟩, hst⟩ (by rw [g2]; exact h6) g1 g3 (by rw [hsl]; exact k2_hasslot (g4 j q5)) rfl rfl hd (fun H1 e1 e2 e3 => ?_)
  rw [hsl] at e1 ⊢
  have hP1 : va_P Z.1 zCl ((zWl Z.2.1 Z.2.2.1 n μ).set (t - 1) (Z.2.2.1 + t, .inr (ci, (zFs Z.2.2.1 μ t (zTy ci)).set j (.ref (Z.2.2.1 + r))))) H1 := hP.set zWl_D he ⟨_, q1, t_OB.to (V := updV (vp_V (zFs Z.2.2.1 μ t (zTy ci))) j (.ref (Z.2.2.1 + r))) ⟨_, e1, g2, g3, t_set g4 hap q5 (.ref (Z.2.2.1 + r))⟩ (fun i _ => vp_updV_set hlen (.ref (Z.2.2.1 + r)) i)⟩ e3
  have e4 : (zFs Z.2.2.1 μ t (zTy ci)).set j (.ref (Z.2.2.1 + r)) = zFs Z.2.2.1 (zsR μ t j r) t (zTy ci) := zFs_set (fun ty h9 => by rw [q4] at h9; cases h9; exact zFv_R0 hr0) (fun i ty hi => zFv_R hi)
  rw [e4] at hP1
  have e5 := zWl_set (dA := Z.2.1) (B := Z.2.2.1) (n := n) ht0 (zoR Z.2.1 Z.2.2.1 μ t j r)
  rw [q2, zCe_obj q3] at e5
  rw [e5] at hP1
  exact k a ha H1 _ ls cells slots ⟨hP1, e2.trans hz, zFr_sR hfr htn⟩ (hS.put e2 e3 (show Z.2.2.1 < Z.2.2.1 + t by omega)) hl hc hs
/-- a number's field that isn't final -/
theorem gn_putI (hK : zOk K Z cc own nL ret fr lo mc ms) {ci : Nat} {C : String} {TT : u_T} {nF t j index : Nat} {x : Int} (hf : zfin ci) (hq : zfa ci C TT nF t j 0) (htn : t ≤ n) (hw : Cond.fieldLink own index (TT j).1 (TT j).2.1 (TT j).2.2.1 ∈ zGood) (hfin : (TT j).2.2.2 = false) (hty : parseFieldDescriptor (TT j).2.2.1 = some .int) (tyc : Nat → FieldType) (htyc : ∀ k, k < nF → parseFieldDescriptor (TT k).2.2.1 = some (tyc k)) (hnm : ∀ a, a < nF → ∀ b, b < nF → a ≠ b → (TT a).2.1 ≠ (TT b).2.1) (hd : decode cc pc = .ok (.putfield index, 3)) (k : zG K Z (zΩn Z) F cb sb (pc + 3) lv st (n, zsI μ t j x) res) : zG K Z (zΩn Z) F cb sb pc lv (.int (zi x) :: .ref (Z.2.2.1 + t) :: st) (n, μ) res := by
  intro a ha H locs ls cells slots hΩ hS hl hc hs
  obtain ⟨hP, hz, hfr⟩ := hΩ
  obtain ⟨q1, q2, q3, q4, q5⟩ := hq
  have ht0 := (zkd_pos q2 (by omega)).1
  have hts := hK.2.2.2.2.1
  have hin := hf _ q1
  have hown := hK.2.2.2.1
  have hKK := hK.2.2.2.2.2.2.1.1
  have he := gn_entry (dA := Z.2.1) (B := Z.2.2.1) (μ := μ) ht0 htn q2 q3
  have hap := va_apart (own := own) hts hin tyc htyc hnm hKK q1
  obtain ⟨r', h1, cell, g1, g2, g3, g4⟩ := hP (t - 1) _ he
  have hr' : r' = (C, TT, nF) := Option.some.inj (h1.symm.trans q1)
  subst hr'
  obtain ⟨hSl, hfc, kC, hkC, hkind⟩ := hKK.1 ci _ q1
  obtain ⟨cf, kf, fi, f, hi, hsl⟩ := hSl j q5
  have hlay := hts _ (hin _ (u_in_lay q5))
  unfold u_lay at hlay
  rw [if_neg (by rw [hfin]; decide)] at hlay
  have hst := (u_facts hfc hkC (u_lays hts hin q5) hi).1
  have h6 := u_store (v := .int (zi x)) hfc hkC hkind hlay hi hty rfl rfl
  have hlen : j < (zFs Z.2.2.1 μ t (zTy ci)).length := by rw [zFs_len]; exact (List.getElem?_eq_some_iff.mp q4).1
  refine W.putK hK.1 hK.2.1 (f := f) ⟨hown, hts _ hw, ⟨_, _, _, hi⟩, hst⟩ (by rw [g2]; exact h6) g1 g3 (by rw [hsl]; exact k2_hasslot (g4 j q5)) rfl rfl hd (fun H1 e1 e2 e3 => ?_)
  rw [hsl] at e1 ⊢
  have hP1 : va_P Z.1 zCl ((zWl Z.2.1 Z.2.2.1 n μ).set (t - 1) (Z.2.2.1 + t, .inr (ci, (zFs Z.2.2.1 μ t (zTy ci)).set j (.int (zi x))))) H1 := hP.set zWl_D he ⟨_, q1, t_OB.to (V := updV (vp_V (zFs Z.2.2.1 μ t (zTy ci))) j (.int (zi x))) ⟨_, e1, g2, g3, t_set g4 hap q5 (.int (zi x))⟩ (fun i _ => vp_updV_set hlen (.int (zi x)) i)⟩ e3
  have e4 : (zFs Z.2.2.1 μ t (zTy ci)).set j (.int (zi x)) = zFs Z.2.2.1 (zsI μ t j x) t (zTy ci) := zFs_set (fun ty h9 => by rw [q4] at h9; cases h9; exact zFv_I0) (fun i ty hi => zFv_I hi)
  rw [e4] at hP1
  have e5 := zWl_set (dA := Z.2.1) (B := Z.2.2.1) (n := n) ht0 (zoI Z.2.1 Z.2.2.1 μ t j x)
  rw [q2, zCe_obj q3] at e5
  rw [e5] at hP1
  exact k a ha H1 _ ls cells slots ⟨hP1, e2.trans hz, zFr_sI hfr htn⟩ (hS.put e2 e3 (show Z.2.2.1 < Z.2.2.1 + t by omega)) hl hc hs
/-- a reference into a row of references -/
theorem gn_aast (hK : zOk K Z cc own nL ret fr lo mc ms) {kd tq ci t i r : Nat} (hq : (kd = 104 ∧ tq = 4 ∧ ci = 3) ∨ (kd = 105 ∧ tq = 5 ∧ ci = 2)) (ht : zkd t = kd) (htn : t ≤ n) (hi : i < zln t) (hr : zkd r = ci) (hrn : r ≤ n) (hd : decode cc pc = .ok (.aastore, 1)) (k : zG K Z (zΩn Z) F cb sb (pc + 1) lv st (n, zsR μ t i r) res) : zG K Z (zΩn Z) F cb sb pc lv (.ref (Z.2.2.1 + r) :: .int (zi ((i : Nat) : Int)) :: .ref (Z.2.2.1 + t) :: st) (n, μ) res := by
  intro a ha H locs ls cells slots hΩ hS hl hc hs
  obtain ⟨hP, hz, hfr⟩ := hΩ
  have ht0 : 0 < t := (zkd_pos ht (by omega)).1
  have hr0 : 0 < r := (zkd_pos hr (by omega)).1
  have hKK := hK.2.2.2.2.2.2.1.1
  have g9 : zin ((i : Nat) : Int) (zln t) := ⟨by omega, by omega⟩
  have ex : (zi ((i : Nat) : Int)).toNatClampNeg = i := (zx_of g9.1 (zin_r g9)).trans (zx_nat i)
  have he : (zWl Z.2.1 Z.2.2.1 n μ)[t - 1]? = some (Z.2.2.1 + t, .inl (Z.2.1 tq, zln t, .inr (.inr (.inr (.inr (fun i => zRo Z.2.2.1 (zR μ t i))))))) := by
    have e := zWl_at (dA := Z.2.1) (B := Z.2.2.1) (μ := μ) ht0 htn
    rw [ht] at e
    rcases hq with ⟨rfl, rfl, -⟩ | ⟨rfl, rfl, -⟩ <;> exact e
  have hv := gn_entry (dA := Z.2.1) (B := Z.2.2.1) (μ := μ) hr0 hrn hr (show ci < 100 by omega)
  obtain ⟨r0, hcl, hty⟩ : ∃ r0 : vw_C, zCl[ci]? = some r0 ∧ (zTys Z.2.1)[tq]? = some (Z.2.1 tq, .object r0.1) := by
    rcases hq with ⟨-, rfl, rfl⟩ | ⟨-, rfl, rfl⟩
    · exact ⟨_, rfl, rfl⟩
    · exact ⟨_, rfl, rfl⟩
  obtain ⟨r', hr', cellV, g1, g2, g3, -⟩ := hP (r - 1) _ hv
  have hcls := (hKK.1 ci r0 hcl).2
  obtain ⟨kA, comp, k1, k2, k3, -⟩ := (hKK.2 tq _ hty).2
  have hcomp : comp = Z.1.1 ci := Option.some.inj (k3.symm.trans hcls.1)
  subst hcomp
  obtain ⟨kC, hkC, -⟩ := hcls.2
  refine W.aast hK.1 hK.2.1 (hP (t - 1) _ he) (fun q h => by cases h) (fun h => by cases h) k1 k2 rfl hkC ⟨(zi_nat (show i < 1000000 by have := zln_lt t; omega)).2, by show _ < (arrV _ _ _).slots.size; rw [arrV_size, ex]; exact hi⟩ g1 (fun q h => by rw [g3] at h; cases h) (by rw [g2]; exact hkC) (by rw [g2]; exact va_assign hcls) rfl rfl hd (fun H1 e z oq => ?_)
  have hP1 : va_P Z.1 zCl ((zWl Z.2.1 Z.2.2.1 n μ).set (t - 1) (Z.2.2.1 + t, .inl (Z.2.1 tq, zln t, .inr (.inr (.inr (.inr (fun q => zRo Z.2.2.1 (zR (zsR μ t i r) t q)))))))) H1 := hP.set zWl_D he (by
    show H1[Z.2.2.1 + t]? = some (vp_cell _ _)
    rw [e, vp_cell_q, vp_cell_q, arrV_store, ex]
    congr 2
    funext q
    by_cases hqq : q = i
    · subst hqq
      rw [zR_eq rfl rfl, zRo_rf, zRv_pos (by omega)]
      simp [updV]
    · rw [zR_ni hqq]
      simp [updV, hqq]) oq
  have e5 := zWl_set (dA := Z.2.1) (B := Z.2.2.1) (n := n) ht0 (zoR Z.2.1 Z.2.2.1 μ t i r)
  rw [ht] at e5
  have e6 : (zWl Z.2.1 Z.2.2.1 n μ).set (t - 1) (Z.2.2.1 + t, .inl (Z.2.1 tq, zln t, .inr (.inr (.inr (.inr (fun q => zRo Z.2.2.1 (zR (zsR μ t i r) t q))))))) = zWl Z.2.1 Z.2.2.1 n (zsR μ t i r) := by
    rcases hq with ⟨rfl, rfl, -⟩ | ⟨rfl, rfl, -⟩ <;> exact e5
  rw [e6] at hP1
  exact k a ha H1 _ ls cells slots ⟨hP1, z.trans hz, zFr_sR hfr htn⟩ (hS.put z oq (show Z.2.2.1 < Z.2.2.1 + t by omega)) hl hc hs
/-- Object's maker -/
theorem gn_oi (hK : zOk K Z cc own nL ret fr lo mc ms) {x index : Nat} (w1 : Cond.methodLink own index Lib.objectInit ∈ zGood) (w2 : Cond.instanceMethod Lib.objectInit ∈ zGood) (w3 : Cond.code Lib.objectInit ⟨#[0xb1]⟩ 1 none ∈ zGood) (hfr : 1 ≤ fr) (hlo : (st.map fun v => v.category).sum + 12 ≤ lo) (hd : decode cc pc = .ok (.invokespecial index, 3)) (k : zG K Z Ω F cb sb (pc + 3) lv st s9 res) : zG K Z Ω F cb sb pc lv (.ref x :: st) s9 res := by
  intro a ha H locs ls cells slots hΩ hS hl hc hs
  have hR : K.2.2.2.1 = { frames := fr, cells := mc, slots := ms, locals := lo } := hK.2.2.2.2.2.2.2.1
  have hts := hK.2.2.2.2.1
  exact W.objInit hK.1 hK.2.1 hK.2.2.2.1 (hts _ w1) (hts _ w2) (hts _ w3) rfl hl.1 rfl hd (by rw [hR]; exact hfr) (by show 2 * 0 + (st.map fun v => v.category).sum + 12 ≤ _; rw [hR]; show 2 * 0 + _ + 12 ≤ lo; omega) (k a ha H locs ls cells slots hΩ hS hl hc hs)
theorem gn_iinc (hK : zOk K Z cc own nL ret fr lo mc ms) {i : Nat} {d x y : Int} (hxy : x + d = y) (hy : zr y) {lv2 : List (Nat × Value)} (j : Nat) (hj : lv[j]? = some (i, .int (zi x))) (ks : List Nat) (hp : lv_pick ((i, .int (zi y)) :: lv.filter (fun q => !(q.1 == i) && !(q.1 + 1 == i && q.2.category == 2))) ks = lv2) (hnl : i < nL) (hd : decode cc pc = .ok (.iinc i d, 3)) (k : zG K Z Ω F cb sb (pc + 3) lv2 st s9 res) : zG K Z Ω F cb sb pc lv st s9 res := by
  have h := g_iinc (F := F) (cb := cb) (sb := sb) (st := st) (μ := s9) hK (f := fun v => if v = y then res else none) (lv2 := fun v => lv_pick ((i, .int (zi v)) :: lv.filter (fun q => !(q.1 == i) && !(q.1 + 1 == i && q.2.category == 2))) ks) j hj ks (fun _ => rfl) hnl hd (fun v hv => by
    show zG K Z Ω F cb sb (pc + 3) (lv_pick ((i, .int (zi v)) :: lv.filter (fun q => !(q.1 == i) && !(q.1 + 1 == i && q.2.category == 2))) ks) st s9 (if v = y then res else none)
    by_cases e : v = y
    · rw [if_pos e, e, hp]; exact k
    · rw [if_neg e]; exact g_none)
  have e : zgl (x + d) (fun v => if v = y then res else none) = res := by unfold zgl; rw [hxy, if_pos hy]; exact if_pos rfl
  rw [e] at h
  exact h
theorem gn_ge0 (hK : zOk K Z cc own nL ret fr lo mc ms) {x y : Int} {off : Int} (hx : zr x) (hy : zr y) (h : ¬ y ≤ x) {tgt : Nat} (ht : (pc : Int) + off = (tgt : Int)) (hd : decode cc pc = .ok (.if_icmp .ge off, 3)) (k : zG K Z Ω F cb sb (pc + 3) lv st s9 res) : zG K Z Ω F cb sb pc lv (.int (zi y) :: .int (zi x) :: st) s9 res := by
  have h2 := g_icmp_ge (F := F) (cb := cb) (sb := sb) (lv := lv) (st := st) (μ := s9) (A := res) (B := res) hK hx hy ht hd (fun q => absurd q h) (fun _ => k)
  rw [ite_self] at h2
  exact h2
theorem gn_ge1 (hK : zOk K Z cc own nL ret fr lo mc ms) {x y : Int} {off : Int} (hx : zr x) (hy : zr y) (h : y ≤ x) {tgt : Nat} (ht : (pc : Int) + off = (tgt : Int)) (hd : decode cc pc = .ok (.if_icmp .ge off, 3)) (k : zG K Z Ω F cb sb tgt lv st s9 res) : zG K Z Ω F cb sb pc lv (.int (zi y) :: .int (zi x) :: st) s9 res := by
  have h2 := g_icmp_ge (F := F) (cb := cb) (sb := sb) (lv := lv) (st := st) (μ := s9) (A := res) (B := res) hK hx hy ht hd (fun _ => k) (fun q => absurd h q)
  rw [ite_self] at h2
  exact h2
theorem gn_ret (hK : zOk K Z cc own nL none fr lo mc ms) {q : Nat × zM} (hd : decode cc pc = .ok (.return_, 1)) : zG K Z (zΩn Z) (zFi K Z) cb sb pc lv [] q (some q) := by
  intro a ha H locs ls cells slots hΩ hS hl hc hs
  cases ha
  exact W.widen (k := K.2.2.2.1.cells) (n := K.2.2.2.1.slots) (by omega) (by omega) (W.vret hK.1 hK.2.1 hK.2.2.2.2.2.2.2.2.2 (fun t ht hW => ⟨⟨_, rfl, rfl, by rw [ht]; exact hΩ, trivial⟩, hS.F ht⟩) hS.2.2 hd (hlocks := hK.2.2.2.2.2.1))
/-- a maker is called -/
theorem gn_call (hK : zOk K Z cc own nL ret fr lo mc ms) (hKi : zKi Z K.2.2.2.2.1) {y : MethodName} {bytes : ByteArray} {maxL index nA b : Nat} {rm : Room} {As : List Value} {q q' : Nat × zM} (hct : zCtI K.2.1 Z y (zws (.code y bytes maxL none)) rm (.ref (Z.2.2.1 + b) :: As) q q') (w1 : Cond.methodLink own index y ∈ zGood) (w2 : Cond.instanceMethod y ∈ zGood) (w4 : Cond.initialized y.cls ∈ zGood) (w5 : Cond.code y bytes maxL none ∈ zGood) (hy1 : y.name = "<init>") (hAs : As.length = nA) (hn : (parseMethodDescriptor y.desc).map (fun d => d.parameters.length) = some nA) (hy : y.cls ≠ "java/lang/invoke/MethodHandle" ∧ y.cls ≠ "java/lang/invoke/VarHandle") (hfr : rm.frames + 1 ≤ fr) (hlo : 8 + (maxL + 11) + rm.locals ≤ lo) (hcat : (rest.map fun v => v.category).sum ≤ 8) (hst : st = As.reverse ++ .ref (Z.2.2.1 + b) :: rest) (hd : decode cc pc = .ok (.invokespecial index, 3))
    (k : zG K Z (zΩn Z) F cb sb (pc + 3) lv rest q' res) : zG K Z (zΩn Z) F (cb + rm.cells) (sb + rm.slots) pc lv st q res := by
  intro a ha H locs ls cells slots hΩ hS hl hc hs
  have hR : K.2.2.2.1 = { frames := fr, cells := mc, slots := ms, locals := lo } := hK.2.2.2.2.2.2.2.1
  have hroom : rm.frames + 1 ≤ K.2.2.2.1.frames ∧ 8 + (maxL + 11) + rm.locals ≤ K.2.2.2.1.locals := by rw [hR]; exact ⟨hfr, hlo⟩
  have hts := hK.2.2.2.2.1
  have hrun := va_runI (As := As) (rest := rest) (cells := cells) (slots := slots) (locs := locs) (below := K.2.2.2.2.2.2.2.1) (e := K.2.2.1) (meth := K.2.2.2.2.2.2.2.2.1) (g := F0 K.2.2.2.2.2.1 pc ls st) ⟨hK.1, hK.2.1, hK.2.2.1, hK.2.2.2.1, hts⟩ hct (cwI nA hts (zgood_in (zws_in w5)) rfl rfl rfl (hts _ w4) (hts _ w1) (hts _ w2) hy1 ⟨hy.1, hy.2, hn⟩ hroom) ⟨zblindI, fun U hU hW => ⟨rfl, by rw [hU]; exact hΩ, hKi.warm hW (hS.F hU)⟩⟩ rfl hAs (hl.1.trans hK.2.2.1) hst (lv_room hcat) hd ⟨by omega, by omega⟩
  intro T hT X
  obtain ⟨v, st₀, t, T', L, h0, X', hL, e1, e2, ⟨⟨v', hv1, hv2, hw, -⟩, hF⟩, stp⟩ := hrun T hT X
  cases hv2
  cases hv1
  obtain ⟨g1, g2, g3⟩ := vx_keep h0 e1 hS (fun q _ h => h) (fun q h => h) hL hF
  obtain ⟨t2, a1, b1⟩ := k a ha T'.heap (locs ++ L) ls (cells + rm.cells) (slots + rm.slots) (by rw [e1]; exact hw) g3 hl (by omega) (by omega) T' rfl X'
  exact ⟨t2, stp t2 a1, b1⟩
theorem gn_callN (hK : zOk K Z cc own nL ret fr lo mc ms) (hKi : zKi Z K.2.2.2.2.1) {y : MethodName} {bytes : ByteArray} {maxL index nA b : Nat} {host : String} {rm : Room} {As : List Value} {q q' : Nat × zM} (hct : zCtI K.2.1 Z y (zws (.code y bytes maxL none)) rm (.ref (Z.2.2.1 + b) :: As) q q') (w1 : Cond.methodLinkNest own index y host ∈ zNw) (w2 : Cond.instanceMethod y ∈ zGood) (w4 : Cond.initialized y.cls ∈ zGood) (w5 : Cond.code y bytes maxL none ∈ zGood) (hy1 : y.name = "<init>") (hAs : As.length = nA) (hn : (parseMethodDescriptor y.desc).map (fun d => d.parameters.length) = some nA) (hy : y.cls ≠ "java/lang/invoke/MethodHandle" ∧ y.cls ≠ "java/lang/invoke/VarHandle") (hfr : rm.frames + 1 ≤ fr) (hlo : 8 + (maxL + 11) + rm.locals ≤ lo) (hcat : (rest.map fun v => v.category).sum ≤ 8) (hst : st = As.reverse ++ .ref (Z.2.2.1 + b) :: rest) (hd : decode cc pc = .ok (.invokespecial index, 3))
    (k : zG K Z (zΩn Z) F cb sb (pc + 3) lv rest q' res) : zG K Z (zΩn Z) F (cb + rm.cells) (sb + rm.slots) pc lv st q res := by
  intro a ha H locs ls cells slots hΩ hS hl hc hs
  have hR : K.2.2.2.1 = { frames := fr, cells := mc, slots := ms, locals := lo } := hK.2.2.2.2.2.2.2.1
  have hroom : rm.frames + 1 ≤ K.2.2.2.1.frames ∧ 8 + (maxL + 11) + rm.locals ≤ K.2.2.2.1.locals := by rw [hR]; exact ⟨hfr, hlo⟩
  have hts := hK.2.2.2.2.1
  have hrun := va_runIN (As := As) (rest := rest) (cells := cells) (slots := slots) (locs := locs) (below := K.2.2.2.2.2.2.2.1) (e := K.2.2.1) (meth := K.2.2.2.2.2.2.2.2.1) (g := F0 K.2.2.2.2.2.1 pc ls st) ⟨hK.1, hK.2.1, hK.2.2.1, hK.2.2.2.1, hts⟩ hct ⟨va_cnB (host := host) nA hts (zgood_in (zws_in w5)) rfl rfl rfl (hK.2.2.2.2.2.2.1.2.2.2.2.2.2.1 _ w1) (hts _ w4) ⟨hy.1, hy.2, hn⟩ hroom, hy1, hts _ w2⟩ ⟨zblindI, fun U hU hW => ⟨rfl, by rw [hU]; exact hΩ, hKi.warm hW (hS.F hU)⟩⟩ rfl hAs (hl.1.trans hK.2.2.1) hst (lv_room hcat) hd ⟨by omega, by omega⟩
  intro T hT X
  obtain ⟨v, st₀, t, T', L, h0, X', hL, e1, e2, ⟨⟨v', hv1, hv2, hw, -⟩, hF⟩, stp⟩ := hrun T hT X
  cases hv2
  cases hv1
  obtain ⟨g1, g2, g3⟩ := vx_keep h0 e1 hS (fun q _ h => h) (fun q h => h) hL hF
  obtain ⟨t2, a1, b1⟩ := k a ha T'.heap (locs ++ L) ls (cells + rm.cells) (slots + rm.slots) (by rw [e1]; exact hw) g3 hl (by omega) (by omega) T' rfl X'
  exact ⟨t2, stp t2 a1, b1⟩
end nrow2
