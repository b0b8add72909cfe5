/-! THE CONSTRUCTORS: a world that grows -/
def zdv : Nat → Value
  | 0 => .int 0
  | 1 => .long 0
  | _ => .null
def zFr (n : Nat) (μ : zM) : Prop := ∀ k i, n < k → zI μ k i = 0 ∧ zL μ k i = 0 ∧ zR μ k i = 0 ∧ zD μ k i = 0
def zΩn (Z : zZ) (q : Nat × zM) (H : Heap) : Prop := va_P Z.1 zCl (zWl Z.2.1 Z.2.2.1 q.1 q.2) H ∧ H.size = Z.2.2.1 + q.1 + 1 ∧ zFr q.1 q.2
theorem zFv_0 {B : Nat} {μ : zM} {n k j ty : Nat} (h : zFr n μ) (hk : n < k) : zFv B μ k j ty = zdv ty := by
  obtain ⟨h1, h2, h3, -⟩ := h k j hk
  match ty with
  | 0 => show Value.int (zi (zI μ k j)) = .int 0; rw [h1]; rfl
  | 1 => show Value.long (zl (zL μ k j)) = .long 0; rw [h2]; rfl
  | (n + 2) => show zRv B (zR μ k j) = .null; rw [h3]; rfl
theorem zFr_sR {n t j r : Nat} {μ : zM} (h : zFr n μ) (ht : t ≤ n) : zFr n (zsR μ t j r) := fun k i hk => ⟨(h k i hk).1, (h k i hk).2.1, (zR_nk (by omega)).trans (h k i hk).2.2.1, (h k i hk).2.2.2⟩
theorem zFr_sI {n t j : Nat} {v : Int} {μ : zM} (h : zFr n μ) (ht : t ≤ n) : zFr n (zsI μ t j v) := fun k i hk => ⟨(zI_nk (by omega)).trans (h k i hk).1, (h k i hk).2⟩
theorem zFr_up {n : Nat} {μ : zM} (h : zFr n μ) : zFr (n + 1) μ := fun k i hk => h k i (by omega)
/-- what a maker asks beside the machine -/
def zKi (Z : zZ) (U : State) : Prop := zKw Z U ∧ va_AO RX3 U ∧ va_AO RX2 U
theorem zKi.warm {Z : zZ} {s t : State} (h : zKi Z s) (hW : s.WarmedH t.vm) (hF : va_F (fun q : Nat => Z.2.2.1 < q) s t) : zKi Z t := ⟨h.1.warm hW hF, h.2.1.moved hW.alike, h.2.2.moved hW.alike⟩
theorem zKi.blind {Z : zZ} {a : Array Value} {U : State} {g : JFrame} {mk : MethodId} (h : zKi Z U) : zKi Z (U.calling g mk a) := ⟨h.1.blind, h.2.1.moved (u := U) (U := U.calling g mk a) (Vm.Alike.refl U.vm), h.2.2.moved (u := U) (U := U.calling g mk a) (Vm.Alike.refl U.vm)⟩
section nrow
variable {K : zK} {Z : zZ} {α : Type} {F : α → State → Prop} {cc : ByteArray} {own : String} {nL fr lo mc ms cb sb pc n : Nat} {ret : Option FieldType} {lv : List (Nat × Value)} {st rest : List Value} {μ : zM} {res A : Option α}
theorem zS_new {B : Nat} {H0 H H1 : Heap} {locs : List Loc} (hS : va_S (fun q : Nat => B < q) H0 H locs) (z1 : H1.size = H.size + 1) (o1 : ∀ q : Nat, q < H.size → H1[q]? = H[q]?) : va_S (fun q : Nat => B < q) H0 H1 locs := ⟨Nat.le_trans hS.1 (by omega), fun x h1 h2 => (o1 x (Nat.lt_of_lt_of_le h1 hS.1)).trans (hS.2.1 x h1 h2), hS.2.2⟩
theorem zP_new {D : va_G} {cl : List vw_C} {ws : va_W} {x0 : Nat × va_E} {H H1 : Heap} (hP : va_P D cl ws H) (o1 : ∀ q : Nat, q < H.size → H1[q]? = H[q]?) (h0 : va_at D cl x0 H1) : va_P D cl (ws ++ [x0]) H1 := by
  refine (hP.kept (fun k x hx => o1 x.1 ((hP k x hx).lt))).app (fun k x hx => ?_)
  have hz : k < 1 := (List.getElem?_eq_some_iff.mp hx).1
  rw [show k = 0 by omega] at hx
  cases hx
  exact h0
theorem gn_new (hK : zOk K Z cc own nL ret fr lo mc ms) {ci index nF : Nat} {C : String} {TT : u_T} (tyc : Nat → FieldType) (hf : zfin ci) (hcl : zCl[ci]? = some (C, TT, nF)) (hci : ci < 100) (hkd : zkd (n + 1) = ci) (htyc : ∀ k, k < nF → parseFieldDescriptor (TT k).2.2.1 = some (tyc k)) (hdf : ∀ j, j < nF → ∃ ty, (zTy ci)[j]? = some ty ∧ defaultValue (tyc j) = zdv ty) (w1 : Cond.classLink own index C ∈ zGood) (w2 : Cond.instantiable C nF ∈ zGood) (w3 : Cond.initialized C ∈ zGood) (hd : decode cc pc = .ok (.new index, 3))
    (k : zG K Z (zΩn Z) F cb sb (pc + 3) lv (.ref (Z.2.2.1 + (n + 1)) :: st) (n + 1, μ) res) : zG K Z (zΩn Z) F (cb + 1) (sb + nF) pc lv st (n, μ) res := by
  intro a ha H locs ls cells slots hΩ hS hl hc hs
  obtain ⟨hP, hz, hfr⟩ := hΩ
  have hts := hK.2.2.2.2.1
  have hKn := hK.2.2.2.2.2.2.1.1.1 ci _ hcl
  have hz' : H.size = Z.2.2.1 + (n + 1) := hz
  refine W.newcK hK.1 hK.2.1 hK.2.2.2.1 (hts _ w1) (hts _ w2) (hts _ w3) rfl hd (by omega) (by omega) hKn.2.1 hz' (fun H1 kC hkC e1 z1 o1 => ?_)
  refine k a ha H1 locs ls (cells + 1) (slots + nF) ⟨?_, by show H1.size = Z.2.2.1 + (n + 1) + 1; omega, zFr_up hfr⟩ (zS_new hS (by omega) (fun q hq => o1 q (by omega))) hl (by omega) (by omega)
  show va_P Z.1 zCl (zWl Z.2.1 Z.2.2.1 (n + 1) μ) H1
  rw [zWl_push, hkd, zCe_obj hci]
  refine zP_new hP (fun q hq => o1 q (by omega)) ⟨_, hcl, (u_born tyc hts (hf _ hcl) hKn hkC e1 htyc).to (fun j hj => ?_)⟩
  obtain ⟨ty, h1, h2⟩ := hdf j hj
  have h3 := zFs_at (B := Z.2.2.1) (μ := μ) (t := n + 1) h1
  show defaultValue (tyc j) = (zFs Z.2.2.1 μ (n + 1) (zTy ci)).getD j .null
  rw [List.getD_eq_getElem?_getD, h3, h2, zFv_0 hfr (Nat.lt_succ_self n)]; rfl
theorem zi_nat {len : Nat} (h : len < 1000000) : (zi ((len : Nat) : Int)).toNatClampNeg = len ∧ ¬ zi ((len : Nat) : Int) < 0 := by
  have hr : zr ((len : Nat) : Int) := ⟨by omega, by omega⟩
  refine ⟨(zx_of (by omega) hr).trans (zx_nat len), fun h => ?_⟩
  rw [show (0 : Int32) = zi 0 from rfl, zi_lt hr ⟨by decide, by decide⟩] at h
  omega
theorem gn_newI (hK : zOk K Z cc own nL ret fr lo mc ms) {len : Nat} {x : Int} (hx : x = (len : Nat)) (hlen : len < 1000000) (hkd : zkd (n + 1) = 100) (hln : zln (n + 1) = len) (w : Cond.arrayClass .int ∈ zGood) (hd : decode cc pc = .ok (.newarray .int, 2)) (k : zG K Z (zΩn Z) F cb sb (pc + 2) lv (.ref (Z.2.2.1 + (n + 1)) :: st) (n + 1, μ) res) : zG K Z (zΩn Z) F (cb + 1) (sb + len) pc lv (.int (zi x) :: st) (n, μ) res := by
  intro a ha H locs ls cells slots hΩ hS hl hc hs
  obtain ⟨hP, hz, hfr⟩ := hΩ
  subst hx
  obtain ⟨i1, i2⟩ := zi_nat hlen
  have hz' : H.size = Z.2.2.1 + (n + 1) := hz
  refine va_newaK (atype := .int) hK.1 hK.2.1 (hK.2.2.2.2.1 _ w) rfl hd rfl i2 i1 (by show len * 4 ≤ 536870912; omega) (by omega) (by omega) hz' (fun H1 cA e1 z1 o1 hAr hNm => ?_)
  have hN2 : K.2.2.2.2.1.vm.findClass ("[" ++ FieldType.int.toString) = some (Z.2.1 0) := (hK.2.2.2.2.2.2.1.1.2 0 _ rfl).2
  have hcA : cA = Z.2.1 0 := Option.some.inj (hNm.symm.trans hN2)
  subst hcA
  refine k a ha H1 locs ls (cells + 1) (slots + len) ⟨?_, by show H1.size = Z.2.2.1 + (n + 1) + 1; omega, zFr_up hfr⟩ (zS_new hS (by omega) (fun q hq => o1 q (by omega))) hl (by omega) (by omega)
  show va_P Z.1 zCl (zWl Z.2.1 Z.2.2.1 (n + 1) μ) H1
  rw [zWl_push, hkd, hln]
  refine zP_new hP (fun q hq => o1 q (by omega)) ?_
  show H1[Z.2.2.1 + (n + 1)]? = some (arrV (Z.2.1 0) len (fun j => .int (zi (zI μ (n + 1) j))))
  rw [e1, show (fun j => Value.int (zi (zI μ (n + 1) j))) = fun _ => defaultValue (newarray.typeOf .int) from funext fun j => by rw [(hfr (n + 1) j (Nat.lt_succ_self n)).1]; rfl]
theorem gn_newZ (hK : zOk K Z cc own nL ret fr lo mc ms) {len : Nat} {x : Int} (hx : x = (len : Nat)) (hlen : len < 1000000) (hkd : zkd (n + 1) = 101) (hln : zln (n + 1) = len) (w : Cond.arrayClass .boolean ∈ zGood) (hd : decode cc pc = .ok (.newarray .boolean, 2)) (k : zG K Z (zΩn Z) F cb sb (pc + 2) lv (.ref (Z.2.2.1 + (n + 1)) :: st) (n + 1, μ) res) : zG K Z (zΩn Z) F (cb + 1) (sb + len) pc lv (.int (zi x) :: st) (n, μ) res := by
  intro a ha H locs ls cells slots hΩ hS hl hc hs
  obtain ⟨hP, hz, hfr⟩ := hΩ
  subst hx
  obtain ⟨i1, i2⟩ := zi_nat hlen
  have hz' : H.size = Z.2.2.1 + (n + 1) := hz
  refine va_newaK (atype := .boolean) hK.1 hK.2.1 (hK.2.2.2.2.1 _ w) rfl hd rfl i2 i1 (by show len * 1 ≤ 536870912; omega) (by omega) (by omega) hz' (fun H1 cA e1 z1 o1 hAr hNm => ?_)
  have hN2 : K.2.2.2.2.1.vm.findClass ("[" ++ FieldType.boolean.toString) = some (Z.2.1 1) := (hK.2.2.2.2.2.2.1.1.2 1 _ rfl).2
  have hcA : cA = Z.2.1 1 := Option.some.inj (hNm.symm.trans hN2)
  subst hcA
  refine k a ha H1 locs ls (cells + 1) (slots + len) ⟨?_, by show H1.size = Z.2.2.1 + (n + 1) + 1; omega, zFr_up hfr⟩ (zS_new hS (by omega) (fun q hq => o1 q (by omega))) hl (by omega) (by omega)
  show va_P Z.1 zCl (zWl Z.2.1 Z.2.2.1 (n + 1) μ) H1
  rw [zWl_push, hkd, hln]
  refine zP_new hP (fun q hq => o1 q (by omega)) ?_
  show H1[Z.2.2.1 + (n + 1)]? = some (arrV (Z.2.1 1) len (fun j => .int (zi (zI μ (n + 1) j))))
  rw [e1, show (fun j => Value.int (zi (zI μ (n + 1) j))) = fun _ => defaultValue (newarray.typeOf .boolean) from funext fun j => by rw [(hfr (n + 1) j (Nat.lt_succ_self n)).1]; rfl]
theorem gn_newL (hK : zOk K Z cc own nL ret fr lo mc ms) {len : Nat} {x : Int} (hx : x = (len : Nat)) (hlen : len < 1000000) (hkd : zkd (n + 1) = 102) (hln : zln (n + 1) = len) (w : Cond.arrayClass .long ∈ zGood) (hd : decode cc pc = .ok (.newarray .long, 2)) (k : zG K Z (zΩn Z) F cb sb (pc + 2) lv (.ref (Z.2.2.1 + (n + 1)) :: st) (n + 1, μ) res) : zG K Z (zΩn Z) F (cb + 1) (sb + len) pc lv (.int (zi x) :: st) (n, μ) res := by
  intro a ha H locs ls cells slots hΩ hS hl hc hs
  obtain ⟨hP, hz, hfr⟩ := hΩ
  subst hx
  obtain ⟨i1, i2⟩ := zi_nat hlen
  have hz' : H.size = Z.2.2.1 + (n + 1) := hz
  refine va_newaK (atype := .long) hK.1 hK.2.1 (hK.2.2.2.2.1 _ w) rfl hd rfl i2 i1 (by show len * 8 ≤ 536870912; omega) (by omega) (by omega) hz' (fun H1 cA e1 z1 o1 hAr hNm => ?_)
  have hN2 : K.2.2.2.2.1.vm.findClass ("[" ++ FieldType.long.toString) = some (Z.2.1 2) := (hK.2.2.2.2.2.2.1.1.2 2 _ rfl).2
  have hcA : cA = Z.2.1 2 := Option.some.inj (hNm.symm.trans hN2)
  subst hcA
  refine k a ha H1 locs ls (cells + 1) (slots + len) ⟨?_, by show H1.size = Z.2.2.1 + (n + 1) + 1; omega, zFr_up hfr⟩ (zS_new hS (by omega) (fun q hq => o1 q (by omega))) hl (by omega) (by omega)
  show va_P Z.1 zCl (zWl Z.2.1 Z.2.2.1 (n + 1) μ) H1
  rw [zWl_push, hkd, hln]
  refine zP_new hP (fun q hq => o1 q (by omega)) ?_
  show H1[Z.2.2.1 + (n + 1)]? = some (arrV (Z.2.1 2) len (fun j => .long (zl (zL μ (n + 1) j))))
  rw [e1, show (fun j => Value.long (zl (zL μ (n + 1) j))) = fun _ => defaultValue (newarray.typeOf .long) from funext fun j => by rw [(hfr (n + 1) j (Nat.lt_succ_self n)).2.1]; rfl]
theorem gn_newD (hK : zOk K Z cc own nL ret fr lo mc ms) {len : Nat} {x : Int} (hx : x = (len : Nat)) (hlen : len < 1000000) (hkd : zkd (n + 1) = 103) (hln : zln (n + 1) = len) (w : Cond.arrayClass .double ∈ zGood) (hd : decode cc pc = .ok (.newarray .double, 2)) (k : zG K Z (zΩn Z) F cb sb (pc + 2) lv (.ref (Z.2.2.1 + (n + 1)) :: st) (n + 1, μ) res) : zG K Z (zΩn Z) F (cb + 1) (sb + len) pc lv (.int (zi x) :: st) (n, μ) res := by
  intro a ha H locs ls cells slots hΩ hS hl hc hs
  obtain ⟨hP, hz, hfr⟩ := hΩ
  subst hx
  obtain ⟨i1, i2⟩ := zi_nat hlen
  have hz' : H.size = Z.2.2.1 + (n + 1) := hz
  refine va_newaK (atype := .double) hK.1 hK.2.1 (hK.2.2.2.2.1 _ w) rfl hd rfl i2 i1 (by show len * 8 ≤ 536870912; omega) (by omega) (by omega) hz' (fun H1 cA e1 z1 o1 hAr hNm => ?_)
  have hN2 : K.2.2.2.2.1.vm.findClass ("[" ++ FieldType.double.toString) = some (Z.2.1 3) := (hK.2.2.2.2.2.2.1.1.2 3 _ rfl).2
  have hcA : cA = Z.2.1 3 := Option.some.inj (hNm.symm.trans hN2)
  subst hcA
  refine k a ha H1 locs ls (cells + 1) (slots + len) ⟨?_, by show H1.size = Z.2.2.1 + (n + 1) + 1; omega, zFr_up hfr⟩ (zS_new hS (by omega) (fun q hq => o1 q (by omega))) hl (by omega) (by omega)
  show va_P Z.1 zCl (zWl Z.2.1 Z.2.2.1 (n + 1) μ) H1
  rw [zWl_push, hkd, hln]
  refine zP_new hP (fun q hq => o1 q (by omega)) ?_
  show H1[Z.2.2.1 + (n + 1)]? = some (arrV (Z.2.1 3) len (fun j => .double (zD μ (n + 1) j)))
  rw [e1, show (fun j => Value.double (zD μ (n + 1) j)) = fun _ => defaultValue (newarray.typeOf .double) from funext fun j => by rw [(hfr (n + 1) j (Nat.lt_succ_self n)).2.2.2]; rfl]
/-- a row of references: kind 104 of State, 105 of Snippet -/
theorem gn_newQ (hK : zOk K Z cc own nL ret fr lo mc ms) {len kd tq index : Nat} {x : Int} {C : String} (hq : (kd = 104 ∧ tq = 4 ∧ C = RX3) ∨ (kd = 105 ∧ tq = 5 ∧ C = RX2)) (hover : va_AO C K.2.2.2.2.1) (hx : x = (len : Nat)) (hlen : len < 1000000) (hkd : zkd (n + 1) = kd) (hln : zln (n + 1) = len) (w : Cond.classLink own index C ∈ zGood) (hd : decode cc pc = .ok (.anewarray index, 3)) (k : zG K Z (zΩn Z) F cb sb (pc + 3) lv (.ref (Z.2.2.1 + (n + 1)) :: st) (n + 1, μ) res) : zG K Z (zΩn Z) F (cb + 1) (sb + len) pc lv (.int (zi x) :: st) (n, μ) res := by
  intro a ha H locs ls cells slots hΩ hS hl hc hs
  obtain ⟨hP, hz, hfr⟩ := hΩ
  subst hx
  obtain ⟨i1, i2⟩ := zi_nat hlen
  have hz' : H.size = Z.2.2.1 + (n + 1) := hz
  have hty : (zTys Z.2.1)[tq]? = some (Z.2.1 tq, .object C) := by
    rcases hq with ⟨-, rfl, rfl⟩ | ⟨-, rfl, rfl⟩ <;> rfl
  obtain ⟨kA', comp', -, -, -, hN2⟩ := (hK.2.2.2.2.2.2.1.1.2 tq _ hty).2
  refine W.anew hK.1 hK.2.1 hK.2.2.2.1 (hK.2.2.2.2.1 _ w) (va_AO.use hover) rfl hd rfl i2 (by rw [i1]; omega) (by omega) (by rw [i1]; omega) (fun cA kA comp f1 f2 f3 f4 => ?_)
  have hcA : cA = Z.2.1 tq := Option.some.inj (f1.symm.trans hN2)
  subst hcA
  rw [i1]
  generalize hH1 : H.push ({ cls := Z.2.1 tq, slots := Array.replicate len .null, vm := .none } : Cell) = H1
  have z1 : H1.size = H.size + 1 := by rw [← hH1, Array.size_push]
  have e1 : H1[H.size]? = some (arrV (Z.2.1 tq) len (fun _ => .null)) := by rw [← hH1, Array.getElem?_push_size, ← arrV_new]
  have o1 : ∀ q : Nat, q < H.size → H1[q]? = H[q]? := fun q hq => by rw [← hH1, Array.getElem?_push, if_neg (Nat.ne_of_lt hq)]
  rw [hz'] at e1
  rw [show H.size = Z.2.2.1 + (n + 1) from hz']
  refine k a ha H1 locs ls (cells + 1) (slots + len) ⟨?_, by show H1.size = Z.2.2.1 + (n + 1) + 1; omega, zFr_up hfr⟩ (zS_new hS z1 o1) hl (by omega) (by omega)
  show va_P Z.1 zCl (zWl Z.2.1 Z.2.2.1 (n + 1) μ) H1
  rw [zWl_push, hkd, hln]
  refine zP_new hP o1 ?_
  have e2 : (fun j => va_rf (zRo Z.2.2.1 (zR μ (n + 1) j))) = fun _ => Value.null := funext fun j => by rw [(hfr (n + 1) j (Nat.lt_succ_self n)).2.2.1]; rfl
  rcases hq with ⟨rfl, rfl, -⟩ | ⟨rfl, rfl, -⟩
  · show H1[Z.2.2.1 + (n + 1)]? = some (arrV (Z.2.1 4) len (fun j => va_rf (zRo Z.2.2.1 (zR μ (n + 1) j))))
    rw [e1, e2]
  · show H1[Z.2.2.1 + (n + 1)]? = some (arrV (Z.2.1 5) len (fun j => va_rf (zRo Z.2.2.1 (zR μ (n + 1) j))))
    rw [e1, e2]
end nrow
