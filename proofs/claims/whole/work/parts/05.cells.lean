/-! THE WORLD AFTER THE CONSTRUCTORS: all cells stand, final references are where they belong, the others are of their kind -/
def zTop (μ : zM) : Prop := ∀ k j, ztp k j ≠ 0 → zR μ k j = ztp k j
def zWT (μ : zM) : Prop := ∀ k j, zwk k j ≠ 998 → zkd (zR μ k j) = zwk k j
def zΩ (Z : zZ) (μ : zM) (H : Heap) : Prop := va_P Z.1 zCl (zWl Z.2.1 Z.2.2.1 zN μ) H ∧ zTop μ ∧ zWT μ
abbrev zin (i : Int32) (n : Nat) : Prop := 0 ≤ i.toInt ∧ i.toInt < (n : Int)
abbrev zx (i : Int32) : Nat := i.toNatClampNeg
theorem zkd_pos {k c : Nat} (h : zkd k = c) (hc : c < 999) : 0 < k ∧ k ≤ zN := zkd_le (by rw [h]; omega)
theorem zCe_obj {dA : Nat → ClassId} {B : Nat} {μ : zM} {k ci n : Nat} (h : ci < 100) : zCe dA B μ k ci n = .inr (ci, zFs B μ k (zTy ci)) := by
  unfold zCe
  rw [if_neg (by omega), if_neg (by omega), if_neg (by omega), if_neg (by omega), if_neg (by omega), if_neg (by omega)]
theorem zWl_obj {dA : Nat → ClassId} {B : Nat} {μ : zM} {t ci : Nat} (ht : zkd t = ci) (hc : ci < 100) : (zWl dA B zN μ)[t - 1]? = some (B + t, .inr (ci, zFs B μ t (zTy ci))) := by
  have h := zkd_pos ht (by omega)
  rw [zWl_at h.1 h.2, ht, zCe_obj hc]
theorem zFs_at {B : Nat} {μ : zM} {t j ty : Nat} {tys : List Nat} (h : tys[j]? = some ty) : (zFs B μ t tys)[j]? = some (zFv B μ t j ty) := by
  unfold zFs
  rw [List.getElem?_mapIdx, h]
  rfl
theorem zFs_len {B : Nat} {μ : zM} {t : Nat} {tys : List Nat} : (zFs B μ t tys).length = tys.length := by
  unfold zFs
  simp
theorem zFs_set {B : Nat} {μ μ' : zM} {t j : Nat} {tys : List Nat} {v : Value} (h1 : ∀ ty, tys[j]? = some ty → zFv B μ' t j ty = v) (h2 : ∀ i ty, i ≠ j → zFv B μ' t i ty = zFv B μ t i ty) : (zFs B μ t tys).set j v = zFs B μ' t tys := by
  apply List.ext_getElem?
  intro i
  rw [List.getElem?_set]
  unfold zFs
  rw [List.getElem?_mapIdx, List.getElem?_mapIdx]
  by_cases hij : j = i
  · subst hij
    by_cases hl : j < tys.length
    · rw [if_pos rfl, List.getElem?_eq_getElem hl]
      simp [hl, h1 _ (List.getElem?_eq_getElem hl)]
    · rw [if_pos rfl, List.getElem?_eq_none (Nat.not_lt.mp hl)]
      simp [hl]
  · rw [if_neg hij]
    cases tys[i]? with
    | none => rfl
    | some ty => simp only [Option.map_some]; rw [h2 i ty (fun e => hij e.symm)]
/-- a write to one cell leaves the pictures of the others -/
theorem zCe_other {dA : Nat → ClassId} {B : Nat} {μ μ' : zM} {k kd n : Nat} (h1 : ∀ i, zI μ' k i = zI μ k i) (h2 : ∀ i, zL μ' k i = zL μ k i) (h3 : ∀ i, zR μ' k i = zR μ k i) (h4 : ∀ i, zD μ' k i = zD μ k i) : zCe dA B μ' k kd n = zCe dA B μ k kd n := by
  have e1 : zI μ' k = zI μ k := funext h1
  have e2 : zL μ' k = zL μ k := funext h2
  have e4 : zD μ' k = zD μ k := funext h4
  have e5 : zFs B μ' k (zTy kd) = zFs B μ k (zTy kd) := by
    unfold zFs
    congr 1
    funext j ty
    unfold zFv
    split
    · rw [h1]
    · rw [h2]
    · rw [h3]
  unfold zCe
  rw [e1, e2, e4, e5]
  simp only [h3]
theorem zsI_at (μ : zM) (k i : Nat) (v : Int32) (a b : Nat) : zI (zsI μ k i v) a b = if a = k ∧ b = i then v else zI μ a b := rfl
theorem zsL_at (μ : zM) (k i : Nat) (v : Int64) (a b : Nat) : zL (zsL μ k i v) a b = if a = k ∧ b = i then v else zL μ a b := rfl
theorem zsR_at (μ : zM) (k i : Nat) (v : Nat) (a b : Nat) : zR (zsR μ k i v) a b = if a = k ∧ b = i then v else zR μ a b := rfl
theorem zsD_at (μ : zM) (k i : Nat) (v : UInt64) (a b : Nat) : zD (zsD μ k i v) a b = if a = k ∧ b = i then v else zD μ a b := rfl
theorem zcI_at (μ : zM) (s sp d dp n : Nat) (a b : Nat) : zI (zcI μ s sp d dp n) a b = if a = d ∧ dp ≤ b ∧ b < dp + n then zI μ s (sp + (b - dp)) else zI μ a b := rfl
theorem zoI (dA : Nat → ClassId) (B : Nat) (μ : zM) (k i : Nat) (v : Int32) : ∀ j, j ≠ k → zCe dA B (zsI μ k i v) j (zkd j) (zln j) = zCe dA B μ j (zkd j) (zln j) := fun j hj => zCe_other (fun q => by rw [zsI_at, if_neg (fun h => hj h.1)]) (fun _ => rfl) (fun _ => rfl) (fun _ => rfl)
theorem zoL (dA : Nat → ClassId) (B : Nat) (μ : zM) (k i : Nat) (v : Int64) : ∀ j, j ≠ k → zCe dA B (zsL μ k i v) j (zkd j) (zln j) = zCe dA B μ j (zkd j) (zln j) := fun j hj => zCe_other (fun _ => rfl) (fun q => by rw [zsL_at, if_neg (fun h => hj h.1)]) (fun _ => rfl) (fun _ => rfl)
theorem zoR (dA : Nat → ClassId) (B : Nat) (μ : zM) (k i : Nat) (v : Nat) : ∀ j, j ≠ k → zCe dA B (zsR μ k i v) j (zkd j) (zln j) = zCe dA B μ j (zkd j) (zln j) := fun j hj => zCe_other (fun _ => rfl) (fun _ => rfl) (fun q => by rw [zsR_at, if_neg (fun h => hj h.1)]) (fun _ => rfl)
theorem zoD (dA : Nat → ClassId) (B : Nat) (μ : zM) (k i : Nat) (v : UInt64) : ∀ j, j ≠ k → zCe dA B (zsD μ k i v) j (zkd j) (zln j) = zCe dA B μ j (zkd j) (zln j) := fun j hj => zCe_other (fun _ => rfl) (fun _ => rfl) (fun _ => rfl) (fun q => by rw [zsD_at, if_neg (fun h => hj h.1)])
theorem zocI (dA : Nat → ClassId) (B : Nat) (μ : zM) (s sp d dp n : Nat) : ∀ j, j ≠ d → zCe dA B (zcI μ s sp d dp n) j (zkd j) (zln j) = zCe dA B μ j (zkd j) (zln j) := fun j hj => zCe_other (fun q => by rw [zcI_at, if_neg (fun h => hj h.1)]) (fun _ => rfl) (fun _ => rfl) (fun _ => rfl)
theorem zFv_I {B : Nat} {μ : zM} {t i j ty : Nat} {v : Int32} (h : i ≠ j) : zFv B (zsI μ t j v) t i ty = zFv B μ t i ty := by
  unfold zFv
  split
  · rw [zsI_at, if_neg (fun q => h q.2)]
  · rfl
  · rfl
theorem zFv_L {B : Nat} {μ : zM} {t i j ty : Nat} {v : Int64} (h : i ≠ j) : zFv B (zsL μ t j v) t i ty = zFv B μ t i ty := by
  unfold zFv
  split
  · rfl
  · rw [zsL_at, if_neg (fun q => h q.2)]
  · rfl
theorem zFv_R {B : Nat} {μ : zM} {t i j ty : Nat} {v : Nat} (h : i ≠ j) : zFv B (zsR μ t j v) t i ty = zFv B μ t i ty := by
  unfold zFv
  split
  · rfl
  · rfl
  · rw [zsR_at, if_neg (fun q => h q.2)]
theorem zFv_I0 {B : Nat} {μ : zM} {t j : Nat} {v : Int32} : zFv B (zsI μ t j v) t j 0 = .int v := by
  show Value.int (zI (zsI μ t j v) t j) = _
  rw [zsI_at, if_pos ⟨rfl, rfl⟩]
theorem zFv_L0 {B : Nat} {μ : zM} {t j : Nat} {v : Int64} : zFv B (zsL μ t j v) t j 1 = .long v := by
  show Value.long (zL (zsL μ t j v) t j) = _
  rw [zsL_at, if_pos ⟨rfl, rfl⟩]
theorem zFv_R0 {B : Nat} {μ : zM} {t j v : Nat} (h : v ≠ 0) : zFv B (zsR μ t j v) t j 2 = .ref (B + v) := by
  show zRv B (zR (zsR μ t j v) t j) = _
  rw [zsR_at, if_pos ⟨rfl, rfl⟩]
  exact zRv_pos h
theorem zTop_sR {μ : zM} {t j r : Nat} (h : zTop μ) (h0 : ztp t j = 0) : zTop (zsR μ t j r) := by
  intro k1 j1 h1
  rw [zsR_at, if_neg (fun h2 => by rw [h2.1, h2.2] at h1; exact h1 h0)]
  exact h k1 j1 h1
theorem zWT_sR {μ : zM} {t j r : Nat} (h : zWT μ) (h0 : zkd r = zwk t j) : zWT (zsR μ t j r) := by
  intro k1 j1 h1
  rw [zsR_at]
  by_cases h2 : k1 = t ∧ j1 = j
  · rw [if_pos h2, h2.1, h2.2]; exact h0
  · rw [if_neg h2]; exact h k1 j1 h1
/-- the words of a class's fields are among the good ones -/
def zfin (ci : Nat) : Prop := ∀ q, zCl[ci]? = some q → ∀ w ∈ u_ws q.1 q.2.1 q.2.2, w ∈ zGood
theorem zin_of {i : Int32} {n : Nat} (h : zin i n) : vp_in i n := vp_in_iff.mpr h
/-- at an object: its class, its field's place and type, the word that links it -/
abbrev zfa (ci : Nat) (C : String) (TT : u_T) (nF t j ty : Nat) : Prop := zCl[ci]? = some (C, TT, nF) ∧ zkd t = ci ∧ ci < 100 ∧ (zTy ci)[j]? = some ty ∧ j < nF
theorem zfa.mk {ci : Nat} {C : String} {TT : u_T} {nF t j ty : Nat} (ht : zkd t = ci) (h : zCl[ci]? = some (C, TT, nF) ∧ ci < 100 ∧ (zTy ci)[j]? = some ty ∧ j < nF) : zfa ci C TT nF t j ty := ⟨h.1, ht, h.2.1, h.2.2.1, h.2.2.2⟩
section zRows5
variable {K : zK} {Z : zZ} {α : Type} {F : α → State → Prop} {cc : ByteArray} {own : String} {nL fr lo mc ms cb sb pc : Nat} {ret : Option FieldType} {lv : List (Nat × Value)} {st : List Value} {μ : zM} {res A : Option α}
theorem g_getI (hK : zOk K Z cc own nL ret fr lo mc ms) {ci : Nat} {C : String} {TT : u_T} {nF t j index : Nat} (hf : zfin ci) (hq : zfa ci C TT nF t j 0) (hw : Cond.fieldLink own index (TT j).1 (TT j).2.1 (TT j).2.2.1 ∈ zGood) (hd : decode cc pc = .ok (.getfield index, 3)) (k : zG K Z (zΩ Z) F cb sb (pc + 3) lv (.int (zI μ t j) :: st) μ res) : zG K Z (zΩ Z) F cb sb pc lv (.ref (Z.2.2.1 + t) :: st) μ res := by
  intro a ha H locs ls cells slots hΩ hS hl hc hs
  obtain ⟨q1, q2, q3, q4, q5⟩ := hq
  exact va_get (D := Z.1) (ci := ci) (C := C) (T := TT) (N := nF) hK.1 hK.2.1 hK.2.2.2.2.1 (hf _ q1) hK.2.2.2.1 hK.2.2.2.2.2.2.1.1 hΩ.1 (t - 1) (zWl_obj q2 q3) q1 j q5 (hK.2.2.2.2.1 _ hw) (fun _ h9 => h9) (zFs_at q4) hd (k a ha H locs ls cells slots hΩ hS hl hc hs)
theorem g_getL (hK : zOk K Z cc own nL ret fr lo mc ms) {ci : Nat} {C : String} {TT : u_T} {nF t j index : Nat} (hf : zfin ci) (hq : zfa ci C TT nF t j 1) (hw : Cond.fieldLink own index (TT j).1 (TT j).2.1 (TT j).2.2.1 ∈ zGood) (hd : decode cc pc = .ok (.getfield index, 3)) (k : zG K Z (zΩ Z) F cb sb (pc + 3) lv (.long (zL μ t j) :: st) μ res) : zG K Z (zΩ Z) F cb sb pc lv (.ref (Z.2.2.1 + t) :: st) μ res := by
  intro a ha H locs ls cells slots hΩ hS hl hc hs
  obtain ⟨q1, q2, q3, q4, q5⟩ := hq
  exact va_get (D := Z.1) (ci := ci) (C := C) (T := TT) (N := nF) hK.1 hK.2.1 hK.2.2.2.2.1 (hf _ q1) hK.2.2.2.1 hK.2.2.2.2.2.2.1.1 hΩ.1 (t - 1) (zWl_obj q2 q3) q1 j q5 (hK.2.2.2.2.1 _ hw) (fun _ h9 => h9) (zFs_at q4) hd (k a ha H locs ls cells slots hΩ hS hl hc hs)
theorem g_getR (hK : zOk K Z cc own nL ret fr lo mc ms) {ci : Nat} {C : String} {TT : u_T} {nF t j index : Nat} (hf : zfin ci) (hq : zfa ci C TT nF t j 2) (hw : Cond.fieldLink own index (TT j).1 (TT j).2.1 (TT j).2.2.1 ∈ zGood) {r : Nat} (hr : ztp t j = r ∧ r ≠ 0) (hd : decode cc pc = .ok (.getfield index, 3)) (k : zG K Z (zΩ Z) F cb sb (pc + 3) lv (.ref (Z.2.2.1 + r) :: st) μ res) : zG K Z (zΩ Z) F cb sb pc lv (.ref (Z.2.2.1 + t) :: st) μ res := by
  intro a ha H locs ls cells slots hΩ hS hl hc hs
  obtain ⟨q1, q2, q3, q4, q5⟩ := hq
  have e : zFv Z.2.2.1 μ t j 2 = .ref (Z.2.2.1 + r) := by
    show zRv _ (zR μ t j) = _
    rw [hΩ.2.1 t j (by rw [hr.1]; exact hr.2), hr.1]
    exact zRv_pos hr.2
  refine va_get (D := Z.1) (ci := ci) (C := C) (T := TT) (N := nF) hK.1 hK.2.1 hK.2.2.2.2.1 (hf _ q1) hK.2.2.2.1 hK.2.2.2.2.2.2.1.1 hΩ.1 (t - 1) (zWl_obj q2 q3) q1 j q5 (hK.2.2.2.2.1 _ hw) (fun _ h9 => h9) (zFs_at q4) hd ?_
  rw [e]
  exact k a ha H locs ls cells slots hΩ hS hl hc hs
theorem g_getM (hK : zOk K Z cc own nL ret fr lo mc ms) {ci : Nat} {C : String} {TT : u_T} {nF t j index : Nat} (hf : zfin ci) (hq : zfa ci C TT nF t j 2) (hw : Cond.fieldLink own index (TT j).1 (TT j).2.1 (TT j).2.2.1 ∈ zGood) {w : Nat} (hr : zwk t j = w ∧ w < 998) (hd : decode cc pc = .ok (.getfield index, 3)) (k : zkd (zR μ t j) = w → zG K Z (zΩ Z) F cb sb (pc + 3) lv (.ref (Z.2.2.1 + zR μ t j) :: st) μ res) : zG K Z (zΩ Z) F cb sb pc lv (.ref (Z.2.2.1 + t) :: st) μ res := by
  intro a ha H locs ls cells slots hΩ hS hl hc hs
  obtain ⟨q1, q2, q3, q4, q5⟩ := hq
  have e0 : zkd (zR μ t j) = w := (hΩ.2.2 t j (by rw [hr.1]; omega)).trans hr.1
  have e : zFv Z.2.2.1 μ t j 2 = .ref (Z.2.2.1 + zR μ t j) := zRv_pos (by have := zkd_pos e0 (by omega); omega)
  refine va_get (D := Z.1) (ci := ci) (C := C) (T := TT) (N := nF) hK.1 hK.2.1 hK.2.2.2.2.1 (hf _ q1) hK.2.2.2.1 hK.2.2.2.2.2.2.1.1 hΩ.1 (t - 1) (zWl_obj q2 q3) q1 j q5 (hK.2.2.2.2.1 _ hw) (fun _ h9 => h9) (zFs_at q4) hd ?_
  rw [e]
  exact k e0 a ha H locs ls cells slots hΩ hS hl hc hs
theorem g_putI (hK : zOk K Z cc own nL ret fr lo mc ms) {ci : Nat} {C : String} {TT : u_T} {nF t j index : Nat} {x : Int32} (hf : zfin ci) (hq : zfa ci C TT nF t j 0) (hw : Cond.fieldLink own index (TT j).1 (TT j).2.1 (TT j).2.2.1 ∈ zGood) (hfin : (TT j).2.2.2 = false) (hty : parseFieldDescriptor (TT j).2.2.1 = some .int) (tyc : Nat → FieldType) (htyc : ∀ k, k < nF → parseFieldDescriptor (TT k).2.2.1 = some (tyc k)) (hnm : ∀ a, a < nF → ∀ b, b < nF → a ≠ b → (TT a).2.1 ≠ (TT b).2.1) (hd : decode cc pc = .ok (.putfield index, 3)) (k : zG K Z (zΩ Z) F cb sb (pc + 3) lv st (zsI μ t j x) res) : zG K Z (zΩ Z) F cb sb pc lv (.int x :: .ref (Z.2.2.1 + t) :: st) μ res := by
  intro a ha H locs ls cells slots hΩ hS hl hc hs
  obtain ⟨q1, q2, q3, q4, q5⟩ := hq
  refine va_put (D := Z.1) (ci := ci) (C := C) (T := TT) (N := nF) hK.1 hK.2.1 hK.2.2.2.2.1 (hf _ q1) tyc htyc hnm hK.2.2.2.1 hK.2.2.2.2.2.2.1.1 hΩ.1 zWl_D hS (t - 1) (zWl_obj q2 q3) q1 j q5 (hK.2.2.2.2.1 _ hw) (fun _ h9 => h9) hfin hty rfl rfl (by rw [zFs_len]; exact (List.getElem?_eq_some_iff.mp q4).1) hd (fun H1 locs1 hP1 hD1 hS1 => ?_)
  have e1 : (zFs Z.2.2.1 μ t (zTy ci)).set j (.int x) = zFs Z.2.2.1 (zsI μ t j x) t (zTy ci) := zFs_set (fun ty h9 => by rw [q4] at h9; cases h9; exact zFv_I0) (fun i ty hi => zFv_I hi)
  rw [e1] at hP1
  have e2 := zWl_set (dA := Z.2.1) (B := Z.2.2.1) (n := zN) (zkd_pos q2 (by omega)).1 (zoI Z.2.1 Z.2.2.1 μ t j x)
  rw [q2, zCe_obj q3] at e2
  rw [e2] at hP1
  exact k a ha H1 locs1 ls cells slots ⟨hP1, hΩ.2.1, hΩ.2.2⟩ hS1 hl hc hs
theorem g_putZ (hK : zOk K Z cc own nL ret fr lo mc ms) {ci : Nat} {C : String} {TT : u_T} {nF t j index : Nat} {x : Int32} (hf : zfin ci) (hq : zfa ci C TT nF t j 0) (hw : Cond.fieldLink own index (TT j).1 (TT j).2.1 (TT j).2.2.1 ∈ zGood) (hfin : (TT j).2.2.2 = false) (hty : parseFieldDescriptor (TT j).2.2.1 = some .boolean) (tyc : Nat → FieldType) (htyc : ∀ k, k < nF → parseFieldDescriptor (TT k).2.2.1 = some (tyc k)) (hnm : ∀ a, a < nF → ∀ b, b < nF → a ≠ b → (TT a).2.1 ≠ (TT b).2.1) (hd : decode cc pc = .ok (.putfield index, 3)) (k : zG K Z (zΩ Z) F cb sb (pc + 3) lv st (zsI μ t j x) A) : zG K Z (zΩ Z) F cb sb pc lv (.int x :: .ref (Z.2.2.1 + t) :: st) μ (if x = 0 ∨ x = 1 then A else none) := by
  intro a ha H locs ls cells slots hΩ hS hl hc hs
  obtain ⟨q1, q2, q3, q4, q5⟩ := hq
  by_cases g : x = 0 ∨ x = 1
  · rw [if_pos g] at ha
    refine va_put (D := Z.1) (ci := ci) (C := C) (T := TT) (N := nF) hK.1 hK.2.1 hK.2.2.2.2.1 (hf _ q1) tyc htyc hnm hK.2.2.2.1 hK.2.2.2.2.2.2.1.1 hΩ.1 zWl_D hS (t - 1) (zWl_obj q2 q3) q1 j q5 (hK.2.2.2.2.1 _ hw) (fun _ h9 => h9) hfin hty (by rcases g with rfl | rfl <;> rfl) (by rcases g with rfl | rfl <;> rfl) (by rw [zFs_len]; exact (List.getElem?_eq_some_iff.mp q4).1) hd (fun H1 locs1 hP1 hD1 hS1 => ?_)
    have e1 : (zFs Z.2.2.1 μ t (zTy ci)).set j (.int x) = zFs Z.2.2.1 (zsI μ t j x) t (zTy ci) := zFs_set (fun ty h9 => by rw [q4] at h9; cases h9; exact zFv_I0) (fun i ty hi => zFv_I hi)
    rw [e1] at hP1
    have e2 := zWl_set (dA := Z.2.1) (B := Z.2.2.1) (n := zN) (zkd_pos q2 (by omega)).1 (zoI Z.2.1 Z.2.2.1 μ t j x)
    rw [q2, zCe_obj q3] at e2
    rw [e2] at hP1
    exact k a ha H1 locs1 ls cells slots ⟨hP1, hΩ.2.1, hΩ.2.2⟩ hS1 hl hc hs
  · rw [if_neg g] at ha; cases ha
theorem g_putL (hK : zOk K Z cc own nL ret fr lo mc ms) {ci : Nat} {C : String} {TT : u_T} {nF t j index : Nat} {x : Int64} (hf : zfin ci) (hq : zfa ci C TT nF t j 1) (hw : Cond.fieldLink own index (TT j).1 (TT j).2.1 (TT j).2.2.1 ∈ zGood) (hfin : (TT j).2.2.2 = false) (hty : parseFieldDescriptor (TT j).2.2.1 = some .long) (tyc : Nat → FieldType) (htyc : ∀ k, k < nF → parseFieldDescriptor (TT k).2.2.1 = some (tyc k)) (hnm : ∀ a, a < nF → ∀ b, b < nF → a ≠ b → (TT a).2.1 ≠ (TT b).2.1) (hd : decode cc pc = .ok (.putfield index, 3)) (k : zG K Z (zΩ Z) F cb sb (pc + 3) lv st (zsL μ t j x) res) : zG K Z (zΩ Z) F cb sb pc lv (.long x :: .ref (Z.2.2.1 + t) :: st) μ res := by
  intro a ha H locs ls cells slots hΩ hS hl hc hs
  obtain ⟨q1, q2, q3, q4, q5⟩ := hq
  refine va_put (D := Z.1) (ci := ci) (C := C) (T := TT) (N := nF) hK.1 hK.2.1 hK.2.2.2.2.1 (hf _ q1) tyc htyc hnm hK.2.2.2.1 hK.2.2.2.2.2.2.1.1 hΩ.1 zWl_D hS (t - 1) (zWl_obj q2 q3) q1 j q5 (hK.2.2.2.2.1 _ hw) (fun _ h9 => h9) hfin hty rfl rfl (by rw [zFs_len]; exact (List.getElem?_eq_some_iff.mp q4).1) hd (fun H1 locs1 hP1 hD1 hS1 => ?_)
  have e1 : (zFs Z.2.2.1 μ t (zTy ci)).set j (.long x) = zFs Z.2.2.1 (zsL μ t j x) t (zTy ci) := zFs_set (fun ty h9 => by rw [q4] at h9; cases h9; exact zFv_L0) (fun i ty hi => zFv_L hi)
  rw [e1] at hP1
  have e2 := zWl_set (dA := Z.2.1) (B := Z.2.2.1) (n := zN) (zkd_pos q2 (by omega)).1 (zoL Z.2.1 Z.2.2.1 μ t j x)
  rw [q2, zCe_obj q3] at e2
  rw [e2] at hP1
  exact k a ha H1 locs1 ls cells slots ⟨hP1, hΩ.2.1, hΩ.2.2⟩ hS1 hl hc hs
theorem g_putR (hK : zOk K Z cc own nL ret fr lo mc ms) {ci : Nat} {C : String} {TT : u_T} {nF t j index : Nat} {r w : Nat} {rty : FieldType} (hf : zfin ci) (hq : zfa ci C TT nF t j 2) (hw : Cond.fieldLink own index (TT j).1 (TT j).2.1 (TT j).2.2.1 ∈ zGood) (ht0 : ztp t j = 0) (hw0 : zwk t j = w ∧ w < 998) (hv1 : zkd r = w) (hv0 : r ≠ 0) (hrt : ∀ q : Nat, narrow rty (.ref q) = .ref q) (hrf : ∀ q : Nat, fits rty (.ref q) = true) (hfin : (TT j).2.2.2 = false) (hty : parseFieldDescriptor (TT j).2.2.1 = some rty) (tyc : Nat → FieldType) (htyc : ∀ k, k < nF → parseFieldDescriptor (TT k).2.2.1 = some (tyc k)) (hnm : ∀ a, a < nF → ∀ b, b < nF → a ≠ b → (TT a).2.1 ≠ (TT b).2.1) (hd : decode cc pc = .ok (.putfield index, 3)) (k : zG K Z (zΩ Z) F cb sb (pc + 3) lv st (zsR μ t j r) res) : zG K Z (zΩ Z) F cb sb pc lv (.ref (Z.2.2.1 + r) :: .ref (Z.2.2.1 + t) :: st) μ res := by
  intro a ha H locs ls cells slots hΩ hS hl hc hs
  obtain ⟨q1, q2, q3, q4, q5⟩ := hq
  refine va_put (D := Z.1) (ci := ci) (C := C) (T := TT) (N := nF) hK.1 hK.2.1 hK.2.2.2.2.1 (hf _ q1) tyc htyc hnm hK.2.2.2.1 hK.2.2.2.2.2.2.1.1 hΩ.1 zWl_D hS (t - 1) (zWl_obj q2 q3) q1 j q5 (hK.2.2.2.2.1 _ hw) (fun _ h9 => h9) hfin hty (hrt _) (hrf _) (by rw [zFs_len]; exact (List.getElem?_eq_some_iff.mp q4).1) hd (fun H1 locs1 hP1 hD1 hS1 => ?_)
  have e1 : (zFs Z.2.2.1 μ t (zTy ci)).set j (.ref (Z.2.2.1 + r)) = zFs Z.2.2.1 (zsR μ t j r) t (zTy ci) := zFs_set (fun ty h9 => by rw [q4] at h9; cases h9; exact zFv_R0 hv0) (fun i ty hi => zFv_R hi)
  rw [e1] at hP1
  have e2 := zWl_set (dA := Z.2.1) (B := Z.2.2.1) (n := zN) (zkd_pos q2 (by omega)).1 (zoR Z.2.1 Z.2.2.1 μ t j r)
  rw [q2, zCe_obj q3] at e2
  rw [e2] at hP1
  exact k a ha H1 locs1 ls cells slots ⟨hP1, zTop_sR hΩ.2.1 ht0, zWT_sR hΩ.2.2 (hv1.trans hw0.1.symm)⟩ hS1 hl hc hs
theorem g_getIN (hK : zOk K Z cc own nL ret fr lo mc ms) {ci : Nat} {C : String} {TT : u_T} {nF t j index : Nat} (hf : zfin ci) (hq : zfa ci C TT nF t j 0) {host : String} (hw : Cond.fieldLinkNest own index (TT j).1 (TT j).2.1 (TT j).2.2.1 host ∈ zNw) (hd : decode cc pc = .ok (.getfield index, 3)) (k : zG K Z (zΩ Z) F cb sb (pc + 3) lv (.int (zI μ t j) :: st) μ res) : zG K Z (zΩ Z) F cb sb pc lv (.ref (Z.2.2.1 + t) :: st) μ res := by
  intro a ha H locs ls cells slots hΩ hS hl hc hs
  obtain ⟨q1, q2, q3, q4, q5⟩ := hq
  exact va_getN (D := Z.1) (ci := ci) (C := C) (T := TT) (N := nF) hK.1 hK.2.1 hK.2.2.2.2.1 (hf _ q1) hK.2.2.2.1 hK.2.2.2.2.2.2.1.1 hΩ.1 (t - 1) (zWl_obj q2 q3) q1 j q5 (va_Nw.use rfl (hK.2.2.2.2.2.2.1.2.2.2.2.2.2.1 _ hw)) (fun _ h9 => h9) (zFs_at q4) hd (k a ha H locs ls cells slots hΩ hS hl hc hs)
theorem g_getLN (hK : zOk K Z cc own nL ret fr lo mc ms) {ci : Nat} {C : String} {TT : u_T} {nF t j index : Nat} (hf : zfin ci) (hq : zfa ci C TT nF t j 1) {host : String} (hw : Cond.fieldLinkNest own index (TT j).1 (TT j).2.1 (TT j).2.2.1 host ∈ zNw) (hd : decode cc pc = .ok (.getfield index, 3)) (k : zG K Z (zΩ Z) F cb sb (pc + 3) lv (.long (zL μ t j) :: st) μ res) : zG K Z (zΩ Z) F cb sb pc lv (.ref (Z.2.2.1 + t) :: st) μ res := by
  intro a ha H locs ls cells slots hΩ hS hl hc hs
  obtain ⟨q1, q2, q3, q4, q5⟩ := hq
  exact va_getN (D := Z.1) (ci := ci) (C := C) (T := TT) (N := nF) hK.1 hK.2.1 hK.2.2.2.2.1 (hf _ q1) hK.2.2.2.1 hK.2.2.2.2.2.2.1.1 hΩ.1 (t - 1) (zWl_obj q2 q3) q1 j q5 (va_Nw.use rfl (hK.2.2.2.2.2.2.1.2.2.2.2.2.2.1 _ hw)) (fun _ h9 => h9) (zFs_at q4) hd (k a ha H locs ls cells slots hΩ hS hl hc hs)
theorem g_getRN (hK : zOk K Z cc own nL ret fr lo mc ms) {ci : Nat} {C : String} {TT : u_T} {nF t j index : Nat} (hf : zfin ci) (hq : zfa ci C TT nF t j 2) {host : String} (hw : Cond.fieldLinkNest own index (TT j).1 (TT j).2.1 (TT j).2.2.1 host ∈ zNw) {r : Nat} (hr : ztp t j = r ∧ r ≠ 0) (hd : decode cc pc = .ok (.getfield index, 3)) (k : zG K Z (zΩ Z) F cb sb (pc + 3) lv (.ref (Z.2.2.1 + r) :: st) μ res) : zG K Z (zΩ Z) F cb sb pc lv (.ref (Z.2.2.1 + t) :: st) μ res := by
  intro a ha H locs ls cells slots hΩ hS hl hc hs
  obtain ⟨q1, q2, q3, q4, q5⟩ := hq
  have e : zFv Z.2.2.1 μ t j 2 = .ref (Z.2.2.1 + r) := by
    show zRv _ (zR μ t j) = _
    rw [hΩ.2.1 t j (by rw [hr.1]; exact hr.2), hr.1]
    exact zRv_pos hr.2
  refine va_getN (D := Z.1) (ci := ci) (C := C) (T := TT) (N := nF) hK.1 hK.2.1 hK.2.2.2.2.1 (hf _ q1) hK.2.2.2.1 hK.2.2.2.2.2.2.1.1 hΩ.1 (t - 1) (zWl_obj q2 q3) q1 j q5 (va_Nw.use rfl (hK.2.2.2.2.2.2.1.2.2.2.2.2.2.1 _ hw)) (fun _ h9 => h9) (zFs_at q4) hd ?_
  rw [e]
  exact k a ha H locs ls cells slots hΩ hS hl hc hs
theorem g_getMN (hK : zOk K Z cc own nL ret fr lo mc ms) {ci : Nat} {C : String} {TT : u_T} {nF t j index : Nat} (hf : zfin ci) (hq : zfa ci C TT nF t j 2) {host : String} (hw : Cond.fieldLinkNest own index (TT j).1 (TT j).2.1 (TT j).2.2.1 host ∈ zNw) {w : Nat} (hr : zwk t j = w ∧ w < 998) (hd : decode cc pc = .ok (.getfield index, 3)) (k : zkd (zR μ t j) = w → zG K Z (zΩ Z) F cb sb (pc + 3) lv (.ref (Z.2.2.1 + zR μ t j) :: st) μ res) : zG K Z (zΩ Z) F cb sb pc lv (.ref (Z.2.2.1 + t) :: st) μ res := by
  intro a ha H locs ls cells slots hΩ hS hl hc hs
  obtain ⟨q1, q2, q3, q4, q5⟩ := hq
  have e0 : zkd (zR μ t j) = w := (hΩ.2.2 t j (by rw [hr.1]; omega)).trans hr.1
  have e : zFv Z.2.2.1 μ t j 2 = .ref (Z.2.2.1 + zR μ t j) := zRv_pos (by have := zkd_pos e0 (by omega); omega)
  refine va_getN (D := Z.1) (ci := ci) (C := C) (T := TT) (N := nF) hK.1 hK.2.1 hK.2.2.2.2.1 (hf _ q1) hK.2.2.2.1 hK.2.2.2.2.2.2.1.1 hΩ.1 (t - 1) (zWl_obj q2 q3) q1 j q5 (va_Nw.use rfl (hK.2.2.2.2.2.2.1.2.2.2.2.2.2.1 _ hw)) (fun _ h9 => h9) (zFs_at q4) hd ?_
  rw [e]
  exact k e0 a ha H locs ls cells slots hΩ hS hl hc hs
theorem g_putIN (hK : zOk K Z cc own nL ret fr lo mc ms) {ci : Nat} {C : String} {TT : u_T} {nF t j index : Nat} {x : Int32} (hf : zfin ci) (hq : zfa ci C TT nF t j 0) {host : String} (hw : Cond.fieldLinkNest own index (TT j).1 (TT j).2.1 (TT j).2.2.1 host ∈ zNw) (hfin : (TT j).2.2.2 = false) (hty : parseFieldDescriptor (TT j).2.2.1 = some .int) (tyc : Nat → FieldType) (htyc : ∀ k, k < nF → parseFieldDescriptor (TT k).2.2.1 = some (tyc k)) (hnm : ∀ a, a < nF → ∀ b, b < nF → a ≠ b → (TT a).2.1 ≠ (TT b).2.1) (hd : decode cc pc = .ok (.putfield index, 3)) (k : zG K Z (zΩ Z) F cb sb (pc + 3) lv st (zsI μ t j x) res) : zG K Z (zΩ Z) F cb sb pc lv (.int x :: .ref (Z.2.2.1 + t) :: st) μ res := by
  intro a ha H locs ls cells slots hΩ hS hl hc hs
  obtain ⟨q1, q2, q3, q4, q5⟩ := hq
  refine va_putN (D := Z.1) (ci := ci) (C := C) (T := TT) (N := nF) hK.1 hK.2.1 hK.2.2.2.2.1 (hf _ q1) tyc htyc hnm hK.2.2.2.1 hK.2.2.2.2.2.2.1.1 hΩ.1 zWl_D hS (t - 1) (zWl_obj q2 q3) q1 j q5 (va_Nw.use rfl (hK.2.2.2.2.2.2.1.2.2.2.2.2.2.1 _ hw)) (fun _ h9 => h9) hfin hty rfl rfl (by rw [zFs_len]; exact (List.getElem?_eq_some_iff.mp q4).1) hd (fun H1 locs1 hP1 hD1 hS1 => ?_)
  have e1 : (zFs Z.2.2.1 μ t (zTy ci)).set j (.int x) = zFs Z.2.2.1 (zsI μ t j x) t (zTy ci) := zFs_set (fun ty h9 => by rw [q4] at h9; cases h9; exact zFv_I0) (fun i ty hi => zFv_I hi)
  rw [e1] at hP1
  have e2 := zWl_set (dA := Z.2.1) (B := Z.2.2.1) (n := zN) (zkd_pos q2 (by omega)).1 (zoI Z.2.1 Z.2.2.1 μ t j x)
  rw [q2, zCe_obj q3] at e2
  rw [e2] at hP1
  exact k a ha H1 locs1 ls cells slots ⟨hP1, hΩ.2.1, hΩ.2.2⟩ hS1 hl hc hs
theorem g_putZN (hK : zOk K Z cc own nL ret fr lo mc ms) {ci : Nat} {C : String} {TT : u_T} {nF t j index : Nat} {x : Int32} (hf : zfin ci) (hq : zfa ci C TT nF t j 0) {host : String} (hw : Cond.fieldLinkNest own index (TT j).1 (TT j).2.1 (TT j).2.2.1 host ∈ zNw) (hfin : (TT j).2.2.2 = false) (hty : parseFieldDescriptor (TT j).2.2.1 = some .boolean) (tyc : Nat → FieldType) (htyc : ∀ k, k < nF → parseFieldDescriptor (TT k).2.2.1 = some (tyc k)) (hnm : ∀ a, a < nF → ∀ b, b < nF → a ≠ b → (TT a).2.1 ≠ (TT b).2.1) (hd : decode cc pc = .ok (.putfield index, 3)) (k : zG K Z (zΩ Z) F cb sb (pc + 3) lv st (zsI μ t j x) A) : zG K Z (zΩ Z) F cb sb pc lv (.int x :: .ref (Z.2.2.1 + t) :: st) μ (if x = 0 ∨ x = 1 then A else none) := by
  intro a ha H locs ls cells slots hΩ hS hl hc hs
  obtain ⟨q1, q2, q3, q4, q5⟩ := hq
  by_cases g : x = 0 ∨ x = 1
  · rw [if_pos g] at ha
    refine va_putN (D := Z.1) (ci := ci) (C := C) (T := TT) (N := nF) hK.1 hK.2.1 hK.2.2.2.2.1 (hf _ q1) tyc htyc hnm hK.2.2.2.1 hK.2.2.2.2.2.2.1.1 hΩ.1 zWl_D hS (t - 1) (zWl_obj q2 q3) q1 j q5 (va_Nw.use rfl (hK.2.2.2.2.2.2.1.2.2.2.2.2.2.1 _ hw)) (fun _ h9 => h9) hfin hty (by rcases g with rfl | rfl <;> rfl) (by rcases g with rfl | rfl <;> rfl) (by rw [zFs_len]; exact (List.getElem?_eq_some_iff.mp q4).1) hd (fun H1 locs1 hP1 hD1 hS1 => ?_)
    have e1 : (zFs Z.2.2.1 μ t (zTy ci)).set j (.int x) = zFs Z.2.2.1 (zsI μ t j x) t (zTy ci) := zFs_set (fun ty h9 => by rw [q4] at h9; cases h9; exact zFv_I0) (fun i ty hi => zFv_I hi)
    rw [e1] at hP1
    have e2 := zWl_set (dA := Z.2.1) (B := Z.2.2.1) (n := zN) (zkd_pos q2 (by omega)).1 (zoI Z.2.1 Z.2.2.1 μ t j x)
    rw [q2, zCe_obj q3] at e2
    rw [e2] at hP1
    exact k a ha H1 locs1 ls cells slots ⟨hP1, hΩ.2.1, hΩ.2.2⟩ hS1 hl hc hs
  · rw [if_neg g] at ha; cases ha
theorem g_putLN (hK : zOk K Z cc own nL ret fr lo mc ms) {ci : Nat} {C : String} {TT : u_T} {nF t j index : Nat} {x : Int64} (hf : zfin ci) (hq : zfa ci C TT nF t j 1) {host : String} (hw : Cond.fieldLinkNest own index (TT j).1 (TT j).2.1 (TT j).2.2.1 host ∈ zNw) (hfin : (TT j).2.2.2 = false) (hty : parseFieldDescriptor (TT j).2.2.1 = some .long) (tyc : Nat → FieldType) (htyc : ∀ k, k < nF → parseFieldDescriptor (TT k).2.2.1 = some (tyc k)) (hnm : ∀ a, a < nF → ∀ b, b < nF → a ≠ b → (TT a).2.1 ≠ (TT b).2.1) (hd : decode cc pc = .ok (.putfield index, 3)) (k : zG K Z (zΩ Z) F cb sb (pc + 3) lv st (zsL μ t j x) res) : zG K Z (zΩ Z) F cb sb pc lv (.long x :: .ref (Z.2.2.1 + t) :: st) μ res := by
  intro a ha H locs ls cells slots hΩ hS hl hc hs
  obtain ⟨q1, q2, q3, q4, q5⟩ := hq
  refine va_putN (D := Z.1) (ci := ci) (C := C) (T := TT) (N := nF) hK.1 hK.2.1 hK.2.2.2.2.1 (hf _ q1) tyc htyc hnm hK.2.2.2.1 hK.2.2.2.2.2.2.1.1 hΩ.1 zWl_D hS (t - 1) (zWl_obj q2 q3) q1 j q5 (va_Nw.use rfl (hK.2.2.2.2.2.2.1.2.2.2.2.2.2.1 _ hw)) (fun _ h9 => h9) hfin hty rfl rfl (by rw [zFs_len]; exact (List.getElem?_eq_some_iff.mp q4).1) hd (fun H1 locs1 hP1 hD1 hS1 => ?_)
  have e1 : (zFs Z.2.2.1 μ t (zTy ci)).set j (.long x) = zFs Z.2.2.1 (zsL μ t j x) t (zTy ci) := zFs_set (fun ty h9 => by rw [q4] at h9; cases h9; exact zFv_L0) (fun i ty hi => zFv_L hi)
  rw [e1] at hP1
  have e2 := zWl_set (dA := Z.2.1) (B := Z.2.2.1) (n := zN) (zkd_pos q2 (by omega)).1 (zoL Z.2.1 Z.2.2.1 μ t j x)
  rw [q2, zCe_obj q3] at e2
  rw [e2] at hP1
  exact k a ha H1 locs1 ls cells slots ⟨hP1, hΩ.2.1, hΩ.2.2⟩ hS1 hl hc hs
theorem g_putRN (hK : zOk K Z cc own nL ret fr lo mc ms) {ci : Nat} {C : String} {TT : u_T} {nF t j index : Nat} {r w : Nat} {rty : FieldType} (hf : zfin ci) (hq : zfa ci C TT nF t j 2) {host : String} (hw : Cond.fieldLinkNest own index (TT j).1 (TT j).2.1 (TT j).2.2.1 host ∈ zNw) (ht0 : ztp t j = 0) (hw0 : zwk t j = w ∧ w < 998) (hv1 : zkd r = w) (hv0 : r ≠ 0) (hrt : ∀ q : Nat, narrow rty (.ref q) = .ref q) (hrf : ∀ q : Nat, fits rty (.ref q) = true) (hfin : (TT j).2.2.2 = false) (hty : parseFieldDescriptor (TT j).2.2.1 = some rty) (tyc : Nat → FieldType) (htyc : ∀ k, k < nF → parseFieldDescriptor (TT k).2.2.1 = some (tyc k)) (hnm : ∀ a, a < nF → ∀ b, b < nF → a ≠ b → (TT a).2.1 ≠ (TT b).2.1) (hd : decode cc pc = .ok (.putfield index, 3)) (k : zG K Z (zΩ Z) F cb sb (pc + 3) lv st (zsR μ t j r) res) : zG K Z (zΩ Z) F cb sb pc lv (.ref (Z.2.2.1 + r) :: .ref (Z.2.2.1 + t) :: st) μ res := by
  intro a ha H locs ls cells slots hΩ hS hl hc hs
  obtain ⟨q1, q2, q3, q4, q5⟩ := hq
  refine va_putN (D := Z.1) (ci := ci) (C := C) (T := TT) (N := nF) hK.1 hK.2.1 hK.2.2.2.2.1 (hf _ q1) tyc htyc hnm hK.2.2.2.1 hK.2.2.2.2.2.2.1.1 hΩ.1 zWl_D hS (t - 1) (zWl_obj q2 q3) q1 j q5 (va_Nw.use rfl (hK.2.2.2.2.2.2.1.2.2.2.2.2.2.1 _ hw)) (fun _ h9 => h9) hfin hty (hrt _) (hrf _) (by rw [zFs_len]; exact (List.getElem?_eq_some_iff.mp q4).1) hd (fun H1 locs1 hP1 hD1 hS1 => ?_)
  have e1 : (zFs Z.2.2.1 μ t (zTy ci)).set j (.ref (Z.2.2.1 + r)) = zFs Z.2.2.1 (zsR μ t j r) t (zTy ci) := zFs_set (fun ty h9 => by rw [q4] at h9; cases h9; exact zFv_R0 hv0) (fun i ty hi => zFv_R hi)
  rw [e1] at hP1
  have e2 := zWl_set (dA := Z.2.1) (B := Z.2.2.1) (n := zN) (zkd_pos q2 (by omega)).1 (zoR Z.2.1 Z.2.2.1 μ t j r)
  rw [q2, zCe_obj q3] at e2
  rw [e2] at hP1
  exact k a ha H1 locs1 ls cells slots ⟨hP1, zTop_sR hΩ.2.1 ht0, zWT_sR hΩ.2.2 (hv1.trans hw0.1.symm)⟩ hS1 hl hc hs
theorem g_iald (hK : zOk K Z cc own nL ret fr lo mc ms) {t : Nat} {i : Int32} (ht : zkd t = 100) (hd : decode cc pc = .ok (.iaload, 1)) (k : zin i (zln t) → zG K Z (zΩ Z) F cb sb (pc + 1) lv (.int (zI μ t (zx i)) :: st) μ A) : zG K Z (zΩ Z) F cb sb pc lv (.int i :: .ref (Z.2.2.1 + t) :: st) μ (if zin i (zln t) then A else none) := by
  intro a ha H locs ls cells slots hΩ hS hl hc hs
  by_cases g : zin i (zln t)
  · rw [if_pos g] at ha
    have h0 := zkd_pos ht (by omega)
    have e := zWl_at (dA := Z.2.1) (B := Z.2.2.1) (n := zN) (μ := μ) h0.1 h0.2
    rw [ht] at e
    exact va_iald (D := Z.1) hK.1 hK.2.1 hK.2.2.2.2.2.2.1.1 hΩ.1 (t - 1) 0 e rfl (zin_of g) hd (k g a ha H locs ls cells slots hΩ hS hl hc hs)
  · rw [if_neg g] at ha; cases ha
theorem g_zald (hK : zOk K Z cc own nL ret fr lo mc ms) {t : Nat} {i : Int32} (ht : zkd t = 101) (hd : decode cc pc = .ok (.baload, 1)) (k : zin i (zln t) → zG K Z (zΩ Z) F cb sb (pc + 1) lv (.int (zI μ t (zx i)) :: st) μ A) : zG K Z (zΩ Z) F cb sb pc lv (.int i :: .ref (Z.2.2.1 + t) :: st) μ (if zin i (zln t) then A else none) := by
  intro a ha H locs ls cells slots hΩ hS hl hc hs
  by_cases g : zin i (zln t)
  · rw [if_pos g] at ha
    have h0 := zkd_pos ht (by omega)
    have e := zWl_at (dA := Z.2.1) (B := Z.2.2.1) (n := zN) (μ := μ) h0.1 h0.2
    rw [ht] at e
    exact va_zald (D := Z.1) hK.1 hK.2.1 hK.2.2.2.2.2.2.1.1 hΩ.1 (t - 1) 1 e rfl (zin_of g) hd (k g a ha H locs ls cells slots hΩ hS hl hc hs)
  · rw [if_neg g] at ha; cases ha
theorem g_lald (hK : zOk K Z cc own nL ret fr lo mc ms) {t : Nat} {i : Int32} (ht : zkd t = 102) (hd : decode cc pc = .ok (.laload, 1)) (k : zin i (zln t) → zG K Z (zΩ Z) F cb sb (pc + 1) lv (.long (zL μ t (zx i)) :: st) μ A) : zG K Z (zΩ Z) F cb sb pc lv (.int i :: .ref (Z.2.2.1 + t) :: st) μ (if zin i (zln t) then A else none) := by
  intro a ha H locs ls cells slots hΩ hS hl hc hs
  by_cases g : zin i (zln t)
  · rw [if_pos g] at ha
    have h0 := zkd_pos ht (by omega)
    have e := zWl_at (dA := Z.2.1) (B := Z.2.2.1) (n := zN) (μ := μ) h0.1 h0.2
    rw [ht] at e
    exact va_lald (D := Z.1) hK.1 hK.2.1 hK.2.2.2.2.2.2.1.1 hΩ.1 (t - 1) 2 e rfl (zin_of g) hd (k g a ha H locs ls cells slots hΩ hS hl hc hs)
  · rw [if_neg g] at ha; cases ha
theorem g_dald (hK : zOk K Z cc own nL ret fr lo mc ms) {t : Nat} {i : Int32} (ht : zkd t = 103) (hd : decode cc pc = .ok (.daload, 1)) (k : zin i (zln t) → zG K Z (zΩ Z) F cb sb (pc + 1) lv (.double (zD μ t (zx i)) :: st) μ A) : zG K Z (zΩ Z) F cb sb pc lv (.int i :: .ref (Z.2.2.1 + t) :: st) μ (if zin i (zln t) then A else none) := by
  intro a ha H locs ls cells slots hΩ hS hl hc hs
  by_cases g : zin i (zln t)
  · rw [if_pos g] at ha
    have h0 := zkd_pos ht (by omega)
    have e := zWl_at (dA := Z.2.1) (B := Z.2.2.1) (n := zN) (μ := μ) h0.1 h0.2
    rw [ht] at e
    exact va_dald (D := Z.1) hK.1 hK.2.1 hK.2.2.2.2.2.2.1.1 hΩ.1 (t - 1) 3 e rfl (zin_of g) hd (k g a ha H locs ls cells slots hΩ hS hl hc hs)
  · rw [if_neg g] at ha; cases ha
theorem g_iast (hK : zOk K Z cc own nL ret fr lo mc ms) {t : Nat} {i : Int32} {x : Int32} (ht : zkd t = 100) (hd : decode cc pc = .ok (.iastore, 1)) (k : zin i (zln t) → zG K Z (zΩ Z) F cb sb (pc + 1) lv st (zsI μ t (zx i) x) A) : zG K Z (zΩ Z) F cb sb pc lv (.int x :: .int i :: .ref (Z.2.2.1 + t) :: st) μ (if zin i (zln t) then A else none) := by
  intro a ha H locs ls cells slots hΩ hS hl hc hs
  by_cases g : zin i (zln t)
  · rw [if_pos g] at ha
    have h0 := zkd_pos ht (by omega)
    have e := zWl_at (dA := Z.2.1) (B := Z.2.2.1) (n := zN) (μ := μ) h0.1 h0.2
    rw [ht] at e
    refine va_iast (D := Z.1) hK.1 hK.2.1 hK.2.2.2.2.2.2.1.1 hΩ.1 zWl_D hS (t - 1) 0 e rfl (zin_of g) hd (fun H1 locs1 hP1 hD1 hS1 => ?_)
    have e2 := zWl_set (dA := Z.2.1) (B := Z.2.2.1) (n := zN) h0.1 (zoI Z.2.1 Z.2.2.1 μ t (zx i) x)
    rw [ht] at e2
    have e3 : zCe Z.2.1 Z.2.2.1 (zsI μ t (zx i) x) t 100 (zln t) = _ := show (Sum.inl (Z.2.1 0, zln t, Sum.inl (zI (zsI μ t (zx i) x) t)) : va_E) = Sum.inl (Z.2.1 0, zln t, Sum.inl (upd (zI μ t) (zx i) x)) from by rw [show zI (zsI μ t (zx i) x) t = upd (zI μ t) (zx i) x from funext fun q => by rw [zsI_at]; simp [upd]]
    rw [e3] at e2
    rw [e2] at hP1
    exact k g a ha H1 locs1 ls cells slots ⟨hP1, hΩ.2.1, hΩ.2.2⟩ hS1 hl hc hs
  · rw [if_neg g] at ha; cases ha
theorem g_zast (hK : zOk K Z cc own nL ret fr lo mc ms) {t : Nat} {i : Int32} {x : Int32} (ht : zkd t = 101) (hd : decode cc pc = .ok (.bastore, 1)) (k : zin i (zln t) → zG K Z (zΩ Z) F cb sb (pc + 1) lv st (zsI μ t (zx i) x) A) : zG K Z (zΩ Z) F cb sb pc lv (.int x :: .int i :: .ref (Z.2.2.1 + t) :: st) μ (if zin i (zln t) ∧ (x = 0 ∨ x = 1) then A else none) := by
  intro a ha H locs ls cells slots hΩ hS hl hc hs
  by_cases g : zin i (zln t) ∧ (x = 0 ∨ x = 1)
  · rw [if_pos g] at ha
    have h0 := zkd_pos ht (by omega)
    have e := zWl_at (dA := Z.2.1) (B := Z.2.2.1) (n := zN) (μ := μ) h0.1 h0.2
    rw [ht] at e
    refine va_zast (D := Z.1) hK.1 hK.2.1 hK.2.2.2.2.2.2.1.1 hΩ.1 zWl_D hS (t - 1) 1 e rfl (zin_of g.1) hd (fun H1 locs1 hP1 hD1 hS1 => ?_)
    have e2 := zWl_set (dA := Z.2.1) (B := Z.2.2.1) (n := zN) h0.1 (zoI Z.2.1 Z.2.2.1 μ t (zx i) x)
    rw [ht] at e2
    have e3 : zCe Z.2.1 Z.2.2.1 (zsI μ t (zx i) x) t 101 (zln t) = _ := show (Sum.inl (Z.2.1 1, zln t, Sum.inl (zI (zsI μ t (zx i) x) t)) : va_E) = Sum.inl (Z.2.1 1, zln t, Sum.inl (upd (zI μ t) (zx i) (vp_nar .boolean x))) from by rw [show zI (zsI μ t (zx i) x) t = upd (zI μ t) (zx i) (vp_nar .boolean x) from funext fun q => by rw [zsI_at, show vp_nar .boolean x = x from by rcases g.2 with rfl | rfl <;> rfl]; simp [upd]]
    rw [e3] at e2
    rw [e2] at hP1
    exact k g.1 a ha H1 locs1 ls cells slots ⟨hP1, hΩ.2.1, hΩ.2.2⟩ hS1 hl hc hs
  · rw [if_neg g] at ha; cases ha
theorem g_last (hK : zOk K Z cc own nL ret fr lo mc ms) {t : Nat} {i : Int32} {x : Int64} (ht : zkd t = 102) (hd : decode cc pc = .ok (.lastore, 1)) (k : zin i (zln t) → zG K Z (zΩ Z) F cb sb (pc + 1) lv st (zsL μ t (zx i) x) A) : zG K Z (zΩ Z) F cb sb pc lv (.long x :: .int i :: .ref (Z.2.2.1 + t) :: st) μ (if zin i (zln t) then A else none) := by
  intro a ha H locs ls cells slots hΩ hS hl hc hs
  by_cases g : zin i (zln t)
  · rw [if_pos g] at ha
    have h0 := zkd_pos ht (by omega)
    have e := zWl_at (dA := Z.2.1) (B := Z.2.2.1) (n := zN) (μ := μ) h0.1 h0.2
    rw [ht] at e
    refine va_last (D := Z.1) hK.1 hK.2.1 hK.2.2.2.2.2.2.1.1 hΩ.1 zWl_D hS (t - 1) 2 e rfl (zin_of g) hd (fun H1 locs1 hP1 hD1 hS1 => ?_)
    have e2 := zWl_set (dA := Z.2.1) (B := Z.2.2.1) (n := zN) h0.1 (zoL Z.2.1 Z.2.2.1 μ t (zx i) x)
    rw [ht] at e2
    have e3 : zCe Z.2.1 Z.2.2.1 (zsL μ t (zx i) x) t 102 (zln t) = _ := show (Sum.inl (Z.2.1 2, zln t, Sum.inr (Sum.inl (zL (zsL μ t (zx i) x) t))) : va_E) = Sum.inl (Z.2.1 2, zln t, Sum.inr (Sum.inl (vp_updL (zL μ t) (zx i) x))) from by rw [show zL (zsL μ t (zx i) x) t = vp_updL (zL μ t) (zx i) x from funext fun q => by rw [zsL_at]; simp [vp_updL]]
    rw [e3] at e2
    rw [e2] at hP1
    exact k g a ha H1 locs1 ls cells slots ⟨hP1, hΩ.2.1, hΩ.2.2⟩ hS1 hl hc hs
  · rw [if_neg g] at ha; cases ha
theorem g_dast (hK : zOk K Z cc own nL ret fr lo mc ms) {t : Nat} {i : Int32} {x : UInt64} (ht : zkd t = 103) (hd : decode cc pc = .ok (.dastore, 1)) (k : zin i (zln t) → zG K Z (zΩ Z) F cb sb (pc + 1) lv st (zsD μ t (zx i) x) A) : zG K Z (zΩ Z) F cb sb pc lv (.double x :: .int i :: .ref (Z.2.2.1 + t) :: st) μ (if zin i (zln t) then A else none) := by
  intro a ha H locs ls cells slots hΩ hS hl hc hs
  by_cases g : zin i (zln t)
  · rw [if_pos g] at ha
    have h0 := zkd_pos ht (by omega)
    have e := zWl_at (dA := Z.2.1) (B := Z.2.2.1) (n := zN) (μ := μ) h0.1 h0.2
    rw [ht] at e
    refine va_dast (D := Z.1) hK.1 hK.2.1 hK.2.2.2.2.2.2.1.1 hΩ.1 zWl_D hS (t - 1) 3 e rfl (zin_of g) hd (fun H1 locs1 hP1 hD1 hS1 => ?_)
    have e2 := zWl_set (dA := Z.2.1) (B := Z.2.2.1) (n := zN) h0.1 (zoD Z.2.1 Z.2.2.1 μ t (zx i) x)
    rw [ht] at e2
    have e3 : zCe Z.2.1 Z.2.2.1 (zsD μ t (zx i) x) t 103 (zln t) = _ := show (Sum.inl (Z.2.1 3, zln t, Sum.inr (Sum.inr (Sum.inr (Sum.inl (zD (zsD μ t (zx i) x) t))))) : va_E) = Sum.inl (Z.2.1 3, zln t, Sum.inr (Sum.inr (Sum.inr (Sum.inl (vf_upd (zD μ t) (zx i) x))))) from by rw [show zD (zsD μ t (zx i) x) t = vf_upd (zD μ t) (zx i) x from funext fun q => by rw [zsD_at]; simp [vf_upd]]
    rw [e3] at e2
    rw [e2] at hP1
    exact k g a ha H1 locs1 ls cells slots ⟨hP1, hΩ.2.1, hΩ.2.2⟩ hS1 hl hc hs
  · rw [if_neg g] at ha; cases ha
theorem g_aald104 (hK : zOk K Z cc own nL ret fr lo mc ms) {t : Nat} {i : Int32} {g : Nat → Nat} (ht : zkd t = 104) (hg : ∀ i, i < zln t → ztp t i = g i ∧ g i ≠ 0) (hd : decode cc pc = .ok (.aaload, 1)) (k : zin i (zln t) → zG K Z (zΩ Z) F cb sb (pc + 1) lv (.ref (Z.2.2.1 + g (zx i)) :: st) μ A) : zG K Z (zΩ Z) F cb sb pc lv (.int i :: .ref (Z.2.2.1 + t) :: st) μ (if zin i (zln t) then A else none) := by
  intro a ha H locs ls cells slots hΩ hS hl hc hs
  by_cases g9 : zin i (zln t)
  · rw [if_pos g9] at ha
    have h0 := zkd_pos ht (by omega)
    have e := zWl_at (dA := Z.2.1) (B := Z.2.2.1) (n := zN) (μ := μ) h0.1 h0.2
    rw [ht] at e
    refine va_aldq (D := Z.1) (C := RX3) hK.1 hK.2.1 hK.2.2.2.2.2.2.1.1 hΩ.1 (t - 1) 4 e rfl (zin_of g9) hd ?_
    have h1 := hg (zx i) (Nat.not_le.mp fun q => zin_of g9 (Or.inr q))
    have e1 : va_rf (zRo Z.2.2.1 (zR μ t (zx i))) = .ref (Z.2.2.1 + g (zx i)) := by
      rw [zRo_rf, hΩ.2.1 t (zx i) (by rw [h1.1]; exact h1.2), h1.1]
      exact zRv_pos h1.2
    rw [e1]
    exact k g9 a ha H locs ls cells slots hΩ hS hl hc hs
  · rw [if_neg g9] at ha; cases ha
theorem g_aald105 (hK : zOk K Z cc own nL ret fr lo mc ms) {t : Nat} {i : Int32} {g : Nat → Nat} (ht : zkd t = 105) (hg : ∀ i, i < zln t → ztp t i = g i ∧ g i ≠ 0) (hd : decode cc pc = .ok (.aaload, 1)) (k : zin i (zln t) → zG K Z (zΩ Z) F cb sb (pc + 1) lv (.ref (Z.2.2.1 + g (zx i)) :: st) μ A) : zG K Z (zΩ Z) F cb sb pc lv (.int i :: .ref (Z.2.2.1 + t) :: st) μ (if zin i (zln t) then A else none) := by
  intro a ha H locs ls cells slots hΩ hS hl hc hs
  by_cases g9 : zin i (zln t)
  · rw [if_pos g9] at ha
    have h0 := zkd_pos ht (by omega)
    have e := zWl_at (dA := Z.2.1) (B := Z.2.2.1) (n := zN) (μ := μ) h0.1 h0.2
    rw [ht] at e
    refine va_aldq (D := Z.1) (C := RX2) hK.1 hK.2.1 hK.2.2.2.2.2.2.1.1 hΩ.1 (t - 1) 5 e rfl (zin_of g9) hd ?_
    have h1 := hg (zx i) (Nat.not_le.mp fun q => zin_of g9 (Or.inr q))
    have e1 : va_rf (zRo Z.2.2.1 (zR μ t (zx i))) = .ref (Z.2.2.1 + g (zx i)) := by
      rw [zRo_rf, hΩ.2.1 t (zx i) (by rw [h1.1]; exact h1.2), h1.1]
      exact zRv_pos h1.2
    rw [e1]
    exact k g9 a ha H locs ls cells slots hΩ hS hl hc hs
  · rw [if_neg g9] at ha; cases ha
theorem g_alen100 (hK : zOk K Z cc own nL ret fr lo mc ms) {t : Nat} {v : Int32} (ht : zkd t = 100) (hv : Int32.ofNat (zln t) = v) (hd : decode cc pc = .ok (.arraylength, 1)) (k : zG K Z (zΩ Z) F cb sb (pc + 1) lv (.int v :: st) μ res) : zG K Z (zΩ Z) F cb sb pc lv (.ref (Z.2.2.1 + t) :: st) μ res := by
  intro a ha H locs ls cells slots hΩ hS hl hc hs
  have h0 := zkd_pos ht (by omega)
  have e := zWl_at (dA := Z.2.1) (B := Z.2.2.1) (n := zN) (μ := μ) h0.1 h0.2
  rw [ht] at e
  exact va_alen (D := Z.1) hK.1 hK.2.1 hK.2.2.2.2.2.2.1.1 hΩ.1 (t - 1) 0 e rfl hv hd (k a ha H locs ls cells slots hΩ hS hl hc hs)
theorem g_alen101 (hK : zOk K Z cc own nL ret fr lo mc ms) {t : Nat} {v : Int32} (ht : zkd t = 101) (hv : Int32.ofNat (zln t) = v) (hd : decode cc pc = .ok (.arraylength, 1)) (k : zG K Z (zΩ Z) F cb sb (pc + 1) lv (.int v :: st) μ res) : zG K Z (zΩ Z) F cb sb pc lv (.ref (Z.2.2.1 + t) :: st) μ res := by
  intro a ha H locs ls cells slots hΩ hS hl hc hs
  have h0 := zkd_pos ht (by omega)
  have e := zWl_at (dA := Z.2.1) (B := Z.2.2.1) (n := zN) (μ := μ) h0.1 h0.2
  rw [ht] at e
  exact va_alen (D := Z.1) hK.1 hK.2.1 hK.2.2.2.2.2.2.1.1 hΩ.1 (t - 1) 1 e rfl hv hd (k a ha H locs ls cells slots hΩ hS hl hc hs)
end zRows5
