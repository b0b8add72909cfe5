/-! WHAT THE TABLES AND THE NARROWING SAY OF THE START -/
def zFl : List Cond := flatC (Jvm.Cond.and given_1 narrow_1)
def zst (i : Nat) : String × Nat × String := zStrL.getD i ("", 0, "")
def zsT (i : Nat) : Term := .string (zst i).1 (zst i).2.1
def zsV (i : Nat) : Term := .field (zsT i) "java/lang/String" "value" "[B"
theorem zs_ex : ∀ i, i < zStrL.length → Cond.exactly (zsT i) "java/lang/String" ∈ zFl := by decide +kernel
theorem zs_ref : ∀ i, i < zStrL.length → Cond.stringRef (zst i).1 (zst i).2.1 (zst i).2.2 ∈ tables_1 := by decide +kernel
theorem zs_ct : ∀ p ∈ zScL, p.1 < zStrL.length ∧ p.2.length < 2 ^ 31 ∧ Cond.eq (.field (zsT p.1) "java/lang/String" "coder" "B") (.int 0) ∈ zFl ∧ Cond.arrayOf (zsV p.1) .byte ∈ zFl ∧ Cond.eq (.length (zsV p.1)) (.int (Int32.ofNat p.2.length)) ∈ zFl := by decide +kernel
theorem zs_el : ∀ p ∈ zScL, ∀ j, j < p.2.length → Cond.eq (.elem (zsV p.1) (.int (Int32.ofNat j))) (.int (p.2.getD j 0)) ∈ zFl := by decide +kernel
theorem zNc_ok : ∀ q ∈ zNcL, Cond.not (.castable q.1 q.2) ∈ zFl := by decide +kernel
theorem zNcx_ok : ∀ a ∈ [xIO, xIA, xIS, xNS], ∀ b ∈ [xIO, xIA, xIS, xNS], a ≠ b → Cond.not (.castable a b) ∈ zFl := by decide +kernel
theorem zNw_in : tables_1.filter zNwk = zNw := by decide +kernel
section start
variable {args : Array Value} {s : State}
def zadr (args : Array Value) (s : State) (t : Term) : Nat := match t.eval args s none [] s with
  | some (.ref a) => a
  | _ => 0
theorem zadr_eq {t : Term} {a : Nat} (h : t.eval args s none [] s = some (.ref a)) : zadr args s t = a := by
  unfold zadr
  rw [h]
theorem start_ref (hfl : ∀ w ∈ zFl, w.before args s = true) (htb : ∀ w ∈ tables_1, w.before args s = true) : ∀ (i : Nat) (q : String × Nat × String), zStr[i]? = some q → vk_R q.1 q.2.1 q.2.2 (zadr args s (zsT i)) s := by
  intro i q hq
  have hi : i < zStrL.length := (List.getElem?_eq_some_iff.mp hq).1
  have e : zst i = q := by
    unfold zst
    rw [List.getD_eq_getElem?_getD, show zStrL[i]? = some q from hq]
    rfl
  obtain ⟨a, c, cA, kA, q1, -⟩ := Cond.exactly_spec (args := args) (first := s) (o := none) (s := s) (idx := []) (t := zsT i) (cls := "java/lang/String") (hfl _ (zs_ex i hi))
  rw [zadr_eq q1]
  subst e
  exact vk_R.of (htb _ (zs_ref i hi)) q1
theorem start_str {B : Nat} (hfl : ∀ w ∈ zFl, w.before args s = true) (hB : ∀ a : Nat, a < s.heap.size → ¬ B < a) : zSc B (fun i => zadr args s (zsT i)) (fun i => zadr args s (zsV i)) s s.heap := by
  intro i b hib
  obtain ⟨h1, h2, h3, h4, h5⟩ := zs_ct _ hib
  have h6 := zs_el _ hib
  obtain ⟨a, c, cA, kA, q1, q2, q3, q4, q5, q6, -⟩ := Cond.exactly_spec (args := args) (first := s) (o := none) (s := s) (idx := []) (t := zsT i) (cls := "java/lang/String") (hfl _ (zs_ex i h1))
  obtain ⟨t, ht, hT⟩ := va_Tof (f := fun j => .int (b.getD j 0)) (A := fun q : Nat => B < q) h2 (hfl _ h4) (va_eqt (hfl _ h5)) (fun j hj => va_eqt (hfl _ (h6 j hj))) hB
  show va_O "java/lang/String" (zadr args s (zsT i)) (fun q : Nat => B < q) s s.heap ∧ va_OF "java/lang/String" "coder" "B" (.int 0) (zadr args s (zsT i)) (fun q : Nat => B < q) s s.heap ∧ va_OF "java/lang/String" "value" "[B" (.ref (zadr args s (zsV i))) (zadr args s (zsT i)) (fun q : Nat => B < q) s s.heap ∧ va_T .byte (zadr args s (zsV i)) b.length (fun j => .int (b.getD j 0)) (fun q : Nat => B < q) s s.heap
  rw [zadr_eq q1, zadr_eq ht]
  exact ⟨⟨cA, q3, q5, by rw [q6]; exact q2, hB a (Array.getElem?_eq_some_iff.mp q3).1⟩, vk_OFof q1 (va_eqt (hfl _ h3)) hB, vk_OFof q1 ht hB, hT⟩
theorem zcl_in : ∀ (c : Nat) (q : vw_C), zCl[c]? = some q → Cond.instantiable q.1 q.2.2 ∈ zGood ∧ ∀ w ∈ u_ws q.1 q.2.1 q.2.2, w ∈ zGood := by
  intro c q hq
  match c, hq with
  | 0, hq => exact ⟨by cases hq; exact q_34, zfin_0 q hq⟩
  | 1, hq => exact ⟨by cases hq; exact q_144, zfin_1 q hq⟩
  | 2, hq => exact ⟨by cases hq; exact q_41, zfin_2 q hq⟩
  | 3, hq => exact ⟨by cases hq; exact q_178, zfin_3 q hq⟩
  | 4, hq => exact ⟨by cases hq; exact q_221, zfin_4 q hq⟩
  | 5, hq => exact ⟨by cases hq; exact q_24, zfin_5 q hq⟩
  | 6, hq => exact ⟨by cases hq; exact q_1133, zfin_6 q hq⟩
  | 7, hq => exact ⟨by cases hq; exact q_1127, zfin_7 q hq⟩
  | (n + 8), hq => exact absurd (List.getElem?_eq_some_iff.mp hq).1 (by show ¬ n + 8 < 8; omega)
theorem start_cls (htg : ∀ w ∈ zGood, w.before args s = true) : ∃ D : va_G, ∀ (c : Nat) (q : vw_C), zCl[c]? = some q → u_Kn s q.1 q.2.1 q.2.2 (D.1 c) (D.2 c) := by
  have h : ∀ c : Nat, ∃ p : ClassId × (Nat → Nat), ∀ q : vw_C, zCl[c]? = some q → u_Kn s q.1 q.2.1 q.2.2 p.1 p.2 := by
    intro c
    cases e : zCl[c]? with
    | none => exact ⟨((0 : Nat), fun _ => 0), fun q h => by cases h⟩
    | some q =>
      obtain ⟨h1, h2⟩ := zcl_in c q e
      obtain ⟨cC, iS, hK⟩ := u_known (T := q.2.1) (N := q.2.2) htg h2 (htg _ h1)
      exact ⟨(cC, iS), fun q' h => by cases h; exact hK⟩
  obtain ⟨f, hf⟩ := Classical.axiomOfChoice h
  exact ⟨(fun c => (f c).1, fun c => (f c).2), hf⟩
theorem arr_prim {ty : FieldType} (h : (Cond.arrayClass ty).before args s = true) : ∃ cA : ClassId, ArrOfT s cA ty ∧ s.vm.findClass ("[" ++ ty.toString) = some cA := by
  obtain ⟨cA, kA, comp, h1, h2, h3⟩ := Cond.arrayClass_spec h
  exact ⟨cA, fun n z => ⟨fun k h => (by cases h), kA, h2, comp, h3⟩, h1⟩
theorem arr_obj {C : String} (h : (Cond.arrayOver (.object C)).before args s = true) : ∃ cA : ClassId, ArrOfT s cA (.object C) ∧ va_RA s cA (.object C) := by
  obtain ⟨comp, cA, kA, hcomp, hidx, hkA, hkindA, hnameA⟩ := Cond.arrayOver_spec h
  exact ⟨cA, fun n z => ⟨fun k h => (by cases h), kA, hkA, comp, hkindA⟩, kA, comp, hkA, hkindA, hcomp, hnameA⟩
theorem start_arr (htb : ∀ w ∈ tables_1, w.before args s = true) : ∃ dA : Nat → ClassId, ∀ (k : Nat) (q : ClassId × FieldType), (zTys dA)[k]? = some q → ArrOfT s q.1 q.2 ∧ va_RA s q.1 q.2 := by
  obtain ⟨c0, a0, b0⟩ := arr_prim (htb (.arrayClass .int) (by decide +kernel))
  obtain ⟨c1, a1, b1⟩ := arr_prim (htb (.arrayClass .boolean) (by decide +kernel))
  obtain ⟨c2, a2, b2⟩ := arr_prim (htb (.arrayClass .long) (by decide +kernel))
  obtain ⟨c3, a3, b3⟩ := arr_prim (htb (.arrayClass .double) (by decide +kernel))
  obtain ⟨c4, a4, b4⟩ := arr_obj (htb (.arrayOver (.object RX3)) (by decide +kernel))
  obtain ⟨c5, a5, b5⟩ := arr_obj (htb (.arrayOver (.object RX2)) (by decide +kernel))
  refine ⟨fun k => match k with | 0 => c0 | 1 => c1 | 2 => c2 | 3 => c3 | 4 => c4 | _ => c5, fun k q hq => ?_⟩
  match k, hq with
  | 0, hq => cases hq; exact ⟨a0, b0⟩
  | 1, hq => cases hq; exact ⟨a1, b1⟩
  | 2, hq => cases hq; exact ⟨a2, b2⟩
  | 3, hq => cases hq; exact ⟨a3, b3⟩
  | 4, hq => cases hq; exact ⟨a4, b4⟩
  | 5, hq => cases hq; exact ⟨a5, b5⟩
  | (n + 6), hq => exact absurd (List.getElem?_eq_some_iff.mp hq).1 (by show ¬ n + 6 < 6; omega)
theorem start_ki (h0 : 0 < s.heap.size) (hfl : ∀ w ∈ zFl, w.before args s = true) (hts : ∀ w ∈ lw_tbl, w.before args s = true) : ∃ Z : zZ, Z.2.2.1 = s.heap.size - 1 ∧ zKi Z s := by
  have htb : ∀ w ∈ tables_1, w.before args s = true := fun w hw => hts w (List.mem_append_right _ hw)
  have htg : ∀ w ∈ zGood, w.before args s = true := fun w hw => hts w (List.mem_filter.mp hw).1
  obtain ⟨D, hD⟩ := start_cls htg
  obtain ⟨dA, hA⟩ := start_arr htb
  have hB : ∀ a : Nat, a < s.heap.size → ¬ s.heap.size - 1 < a := fun a h => by omega
  refine ⟨(D, dA, s.heap.size - 1, fun i => zadr args s (zsT i), fun i => zadr args s (zsV i)), rfl, ⟨⟨hD, hA⟩, ?_, ?_, start_ref hfl htb, start_str hfl hB, ?_, ?_, ?_, ?_, ?_⟩, va_AO.of (htb (.arrayOver (.object RX3)) (by decide +kernel)), va_AO.of (htb (.arrayOver (.object RX2)) (by decide +kernel))⟩
  · exact vx_Zqof (htb _ (by decide +kernel)) (htb _ (by decide +kernel)) (hfl _ (by decide +kernel)) hB
  · exact vx_Zqof (htb _ (by decide +kernel)) (htb _ (by decide +kernel)) (hfl _ (by decide +kernel)) hB
  · show s.heap.size - 1 < s.heap.size
    omega
  · intro w hw
    exact va_Nw.of (zNwk_tabs (zNw_k w hw)) (htb w (List.mem_filter.mp (by rw [zNw_in]; exact hw)).1)
  · exact fun q hq => va_Nc.of (hfl _ (zNc_ok q hq))
  · exact va_Zof (htb _ (by decide +kernel)) (htb _ (by decide +kernel)) (va_eqt (hfl _ (by decide +kernel))) hB
  · exact va_Zqof (htb _ (by decide +kernel)) (htb _ (by decide +kernel)) (hfl _ (by decide +kernel)) hB
theorem start_nc (hfl : ∀ w ∈ zFl, w.before args s = true) : zNc s := fun a ha b hb hab => va_Nc.of (hfl _ (zNcx_ok a ha b hb hab))
end start
