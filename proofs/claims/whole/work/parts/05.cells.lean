/-! THE WORLD AFTER THE CONSTRUCTORS: all cells stand, final references are where they belong, the others are of their kind -/
def zTop (μ : zM) : Prop := ∀ k j, ztp k j ≠ 0 → zR μ k j = ztp k j
def zWT (μ : zM) : Prop := ∀ k j, zwk k j ≠ 998 → zkd (zR μ k j) = zwk k j
/-- the numbers of the memory are those of 32 and of 64 bits -/
def zRg (μ : zM) : Prop := (∀ k i, zr (zI μ k i)) ∧ ∀ k i, zr64 (zL μ k i)
def zΩ (Z : zZ) (μ : zM) (H : Heap) : Prop := va_P Z.1 zCl (zWl Z.2.1 Z.2.2.1 zN μ) H ∧ zTop μ ∧ zWT μ ∧ zRg μ
abbrev zin (i : Int) (n : Nat) : Prop := 0 ≤ i ∧ i < (n : Int)
abbrev zx (i : Int) : Nat := i.toNat
theorem zln_le (t : Nat) : zln t < 2147483648 := by
  unfold zln
  have h : ∀ q ∈ zLay, q.2 < 2147483648 := by decide +kernel
  rw [List.getD_eq_getElem?_getD]
  cases e : zLay[t]? with
  | none => decide
  | some q => exact h q (List.mem_of_getElem? e)
theorem zin_r {i : Int} {t : Nat} (h : zin i (zln t)) : zr i := ⟨by have := h.1; omega, by have := h.2; have := zln_le t; omega⟩
theorem zx_of {i : Int} (h0 : 0 ≤ i) (h : zr i) : (zi i).toNatClampNeg = zx i := by
  show (zi i).toInt.toNat = i.toNat
  rw [zi_toInt h]
theorem zkd_pos {k c : Nat} (h : zkd k = c) (hc : c < 999) : 0 < k ∧ k ≤ zN := zkd_le (by rw [h]; omega)
theorem zCe_obj {dA : Nat → ClassId} {B : Nat} {μ : zM} {k ci n : Nat} (h : ci < 100) : zCe dA B μ k ci n = .inr (ci, zFs B μ k (zTy ci)) := by
  unfold zCe
  rw [if_neg (by omega), if_neg (by omega), if_neg (by omega), if_neg (by omega), if_neg (by omega), if_neg (by omega)]
theorem zWl_obj {dA : Nat → ClassId} {B : Nat} {μ : zM} {t ci : Nat} (ht : zkd t = ci) (hc : ci < 100) : (zWl dA B zN μ)[t - 1]? = some (B + t, .inr (ci, zFs B μ t (zTy ci))) := by
  have h := zkd_pos ht (by omega)
  rw [zWl_at h.1 h.2, ht, zCe_obj hc]
theorem zFs_at {B : Nat} {μ : zM} {t j ty : Nat} {tys : List Nat} (h : tys[j]? = some ty) : (zFs B μ t tys)[j]? = some (zFv B μ t j ty) := by
  unfold zFs
  rw [List.getElem?_mapIdx, h]
  rfl
theorem zFs_len {B : Nat} {μ : zM} {t : Nat} {tys : List Nat} : (zFs B μ t tys).length = tys.length := by
  unfold zFs
  simp
theorem zFs_set {B : Nat} {μ μ' : zM} {t j : Nat} {tys : List Nat} {v : Value} (h1 : ∀ ty, tys[j]? = some ty → zFv B μ' t j ty = v) (h2 : ∀ i ty, i ≠ j → zFv B μ' t i ty = zFv B μ t i ty) : (zFs B μ t tys).set j v = zFs B μ' t tys := by
  apply List.ext_getElem?
  intro i
  rw [List.getElem?_set]
  unfold zFs
  rw [List.getElem?_mapIdx, List.getElem?_mapIdx]
  by_cases hij : j = i
  · subst hij
    by_cases hl : j < tys.length
    · rw [if_pos rfl, List.getElem?_eq_getElem hl]
      simp [hl, h1 _ (List.getElem?_eq_getElem hl)]
    · rw [if_pos rfl, List.getElem?_eq_none (Nat.not_lt.mp hl)]
      simp [hl]
  · rw [if_neg hij]
    cases tys[i]? with
    | none => rfl
    | some ty => simp only [Option.map_some]; rw [h2 i ty (fun e => hij e.symm)]
/-- a write to one cell leaves the pictures of the others -/
theorem zCe_other {dA : Nat → ClassId} {B : Nat} {μ μ' : zM} {k kd n : Nat} (h1 : ∀ i, zI μ' k i = zI μ k i) (h2 : ∀ i, zL μ' k i = zL μ k i) (h3 : ∀ i, zR μ' k i = zR μ k i) (h4 : ∀ i, zD μ' k i = zD μ k i) : zCe dA B μ' k kd n = zCe dA B μ k kd n := by
  have e1 : zI μ' k = zI μ k := funext h1
  have e2 : zL μ' k = zL μ k := funext h2
  have e4 : zD μ' k = zD μ k := funext h4
  have e5 : zFs B μ' k (zTy kd) = zFs B μ k (zTy kd) := by
    unfold zFs
    congr 1
    funext j ty
    unfold zFv
    split
    · rw [h1]
    · rw [h2]
    · rw [h3]
  unfold zCe
  rw [e1, e2, e4, e5]
  simp only [h3]
theorem zsI_at (μ : zM) (k i : Nat) (v : Int) (a b : Nat) : zI (zsI μ k i v) a b = if a = k ∧ b = i then v else zI μ a b := rfl
theorem zsL_at (μ : zM) (k i : Nat) (v : Int) (a b : Nat) : zL (zsL μ k i v) a b = if a = k ∧ b = i then v else zL μ a b := rfl
theorem zsR_at (μ : zM) (k i : Nat) (v : Nat) (a b : Nat) : zR (zsR μ k i v) a b = if a = k ∧ b = i then v else zR μ a b := rfl
theorem zsD_at (μ : zM) (k i : Nat) (v : UInt64) (a b : Nat) : zD (zsD μ k i v) a b = if a = k ∧ b = i then v else zD μ a b := rfl
theorem zcI_at (μ : zM) (s sp d dp n : Nat) (a b : Nat) : zI (zcI μ s sp d dp n) a b = if a = d ∧ dp ≤ b ∧ b < dp + n then zI μ s (sp + (b - dp)) else zI μ a b := rfl
theorem zoI (dA : Nat → ClassId) (B : Nat) (μ : zM) (k i : Nat) (v : Int) : ∀ j, j ≠ k → zCe dA B (zsI μ k i v) j (zkd j) (zln j) = zCe dA B μ j (zkd j) (zln j) := fun j hj => zCe_other (fun q => by rw [zsI_at, if_neg (fun h => hj h.1)]) (fun _ => rfl) (fun _ => rfl) (fun _ => rfl)
theorem zoL (dA : Nat → ClassId) (B : Nat) (μ : zM) (k i : Nat) (v : Int) : ∀ j, j ≠ k → zCe dA B (zsL μ k i v) j (zkd j) (zln j) = zCe dA B μ j (zkd j) (zln j) := fun j hj => zCe_other (fun _ => rfl) (fun q => by rw [zsL_at, if_neg (fun h => hj h.1)]) (fun _ => rfl) (fun _ => rfl)
theorem zoR (dA : Nat → ClassId) (B : Nat) (μ : zM) (k i : Nat) (v : Nat) : ∀ j, j ≠ k → zCe dA B (zsR μ k i v) j (zkd j) (zln j) = zCe dA B μ j (zkd j) (zln j) := fun j hj => zCe_other (fun _ => rfl) (fun _ => rfl) (fun q => by rw [zsR_at, if_neg (fun h => hj h.1)]) (fun _ => rfl)
theorem zoD (dA : Nat → ClassId) (B : Nat) (μ : zM) (k i : Nat) (v : UInt64) : ∀ j, j ≠ k → zCe dA B (zsD μ k i v) j (zkd j) (zln j) = zCe dA B μ j (zkd j) (zln j) := fun j hj => zCe_other (fun _ => rfl) (fun _ => rfl) (fun _ => rfl) (fun q => by rw [zsD_at, if_neg (fun h => hj h.1)])
theorem zocI (dA : Nat → ClassId) (B : Nat) (μ : zM) (s sp d dp n : Nat) : ∀ j, j ≠ d → zCe dA B (zcI μ s sp d dp n) j (zkd j) (zln j) = zCe dA B μ j (zkd j) (zln j) := fun j hj => zCe_other (fun q => by rw [zcI_at, if_neg (fun h => hj h.1)]) (fun _ => rfl) (fun _ => rfl) (fun _ => rfl)
theorem zFv_I {B : Nat} {μ : zM} {t i j ty : Nat} {v : Int} (h : i ≠ j) : zFv B (zsI μ t j v) t i ty = zFv B μ t i ty := by
  unfold zFv
  split
  · rw [zsI_at, if_neg (fun q => h q.2)]
  · rfl
  · rfl
theorem zFv_L {B : Nat} {μ : zM} {t i j ty : Nat} {v : Int} (h : i ≠ j) : zFv B (zsL μ t j v) t i ty = zFv B μ t i ty := by
  unfold zFv
  split
  · rfl
  · rw [zsL_at, if_neg (fun q => h q.2)]
  · rfl
theorem zFv_R {B : Nat} {μ : zM} {t i j ty : Nat} {v : Nat} (h : i ≠ j) : zFv B (zsR μ t j v) t i ty = zFv B μ t i ty := by
  unfold zFv
  split
  · rfl
  · rfl
  · rw [zsR_at, if_neg (fun q => h q.2)]
theorem zFv_I0 {B : Nat} {μ : zM} {t j : Nat} {v : Int} : zFv B (zsI μ t j v) t j 0 = .int (zi v) := by
  show Value.int (zi (zI (zsI μ t j v) t j)) = _
  rw [zsI_at, if_pos ⟨rfl, rfl⟩]
theorem zFv_L0 {B : Nat} {μ : zM} {t j : Nat} {v : Int} : zFv B (zsL μ t j v) t j 1 = .long (zl v) := by
  show Value.long (zl (zL (zsL μ t j v) t j)) = _
  rw [zsL_at, if_pos ⟨rfl, rfl⟩]
theorem zFv_R0 {B : Nat} {μ : zM} {t j v : Nat} (h : v ≠ 0) : zFv B (zsR μ t j v) t j 2 = .ref (B + v) := by
  show zRv B (zR (zsR μ t j v) t j) = _
  rw [zsR_at, if_pos ⟨rfl, rfl⟩]
  exact zRv_pos h
theorem zTop_sR {μ : zM} {t j r : Nat} (h : zTop μ) (h0 : ztp t j = 0) : zTop (zsR μ t j r) := by
  intro k1 j1 h1
  rw [zsR_at, if_neg (fun h2 => by rw [h2.1, h2.2] at h1; exact h1 h0)]
  exact h k1 j1 h1
theorem zWT_sR {μ : zM} {t j r : Nat} (h : zWT μ) (h0 : zkd r = zwk t j) : zWT (zsR μ t j r) := by
  intro k1 j1 h1
  rw [zsR_at]
  by_cases h2 : k1 = t ∧ j1 = j
  · rw [if_pos h2, h2.1, h2.2]; exact h0
  · rw [if_neg h2]; exact h k1 j1 h1
/-- the words of a class's fields are among the good ones -/
def zfin (ci : Nat) : Prop := ∀ q, zCl[ci]? = some q → ∀ w ∈ u_ws q.1 q.2.1 q.2.2, w ∈ zGood
theorem zin_of {i : Int} {t : Nat} (h : zin i (zln t)) : vp_in (zi i) (zln t) := vp_in_iff.mpr (by rw [zi_toInt (zin_r h)]; exact h)
theorem zx_lt {i : Int} {n : Nat} (h : zin i n) : zx i < n := by have h1 := h.1; have h2 := h.2; show i.toNat < n; omega
theorem zRg_sI {μ : zM} {k i : Nat} {v : Int} (h : zRg μ) (hv : zr v) : zRg (zsI μ k i v) := ⟨fun a b => by rw [zsI_at]; split; exact hv; exact h.1 a b, h.2⟩
theorem zRg_sL {μ : zM} {k i : Nat} {v : Int} (h : zRg μ) (hv : zr64 v) : zRg (zsL μ k i v) := ⟨h.1, fun a b => by rw [zsL_at]; split; exact hv; exact h.2 a b⟩
theorem zRg_sR {μ : zM} {k i v : Nat} (h : zRg μ) : zRg (zsR μ k i v) := h
theorem zRg_sD {μ : zM} {k i : Nat} {v : UInt64} (h : zRg μ) : zRg (zsD μ k i v) := h
theorem zRg_cI {μ : zM} {s sp d dp n : Nat} (h : zRg μ) : zRg (zcI μ s sp d dp n) := ⟨fun a b => by rw [zcI_at]; split; exact h.1 _ _; exact h.1 a b, h.2⟩
/-- at an object: its class, its field's place and type, the word that links it -/
abbrev zfa (ci : Nat) (C : String) (TT : u_T) (nF t j ty : Nat) : Prop := zCl[ci]? = some (C, TT, nF) ∧ zkd t = ci ∧ ci < 100 ∧ (zTy ci)[j]? = some ty ∧ j < nF
theorem zfa.mk {ci : Nat} {C : String} {TT : u_T} {nF t j ty : Nat} (ht : zkd t = ci) (h : zCl[ci]? = some (C, TT, nF) ∧ ci < 100 ∧ (zTy ci)[j]? = some ty ∧ j < nF) : zfa ci C TT nF t j ty := ⟨h.1, ht, h.2.1, h.2.2.1, h.2.2.2⟩
section zRows5
variable {K : zK} {Z : zZ} {α : Type} {F : α → State → Prop} {cc : ByteArray} {own : String} {nL fr lo mc ms cb sb pc : Nat} {ret : Option FieldType} {lv : List (Nat × Value)} {st : List Value} {μ : zM} {res A : Option α}
theorem g_getI (hK : zOk K Z cc own nL ret fr lo mc ms) {ci : Nat} {C : String} {TT : u_T} {nF t j index : Nat} (hf : zfin ci) (hq : zfa ci C TT nF t j 0) (hw : Cond.fieldLink own index (TT j).1 (TT j).2.1 (TT j).2.2.1 ∈ zGood) (hd : decode cc pc = .ok (.getfield index, 3)) (k : zr (zI μ t j) → zG K Z (zΩ Z) F cb sb (pc + 3) lv (.int (zi (zI μ t j)) :: st) μ res) : zG K Z (zΩ Z) F cb sb pc lv (.ref (Z.2.2.1 + t) :: st) μ res := by
  intro a ha H locs ls cells slots hΩ hS hl hc hs
  obtain ⟨q1, q2, q3, q4, q5⟩ := hq
  exact va_get (D := Z.1) (ci := ci) (C := C) (T := TT) (N := nF) hK.1 hK.2.1 hK.2.2.2.2.1 (hf _ q1) hK.2.2.2.1 hK.2.2.2.2.2.2.1.1 hΩ.1 (t - 1) (zWl_obj q2 q3) q1 j q5 (hK.2.2.2.2.1 _ hw) (fun _ h9 => h9) (zFs_at q4) hd (k (hΩ.2.2.2.1 t j) a ha H locs ls cells slots hΩ hS hl hc hs)
theorem g_getL (hK : zOk K Z cc own nL ret fr lo mc ms) {ci : Nat} {C : String} {TT : u_T} {nF t j index : Nat} (hf : zfin ci) (hq : zfa ci C TT nF t j 1) (hw : Cond.fieldLink own index (TT j).1 (TT j).2.1 (TT j).2.2.1 ∈ zGood) (hd : decode cc pc = .ok (.getfield index, 3)) (k : zr64 (zL μ t j) → zG K Z (zΩ Z) F cb sb (pc + 3) lv (.long (zl (zL μ t j)) :: st) μ res) : zG K Z (zΩ Z) F cb sb pc lv (.ref (Z.2.2.1 + t) :: st) μ res := by
  intro a ha H locs ls cells slots hΩ hS hl hc hs
  obtain ⟨q1, q2, q3, q4, q5⟩ := hq
  exact va_get (D := Z.1) (ci := ci) (C := C) (T := TT) (N := nF) hK.1 hK.2.1 hK.2.2.2.2.1 (hf _ q1) hK.2.2.2.1 hK.2.2.2.2.2.2.1.1 hΩ.1 (t - 1) (zWl_obj q2 q3) q1 j q5 (hK.2.2.2.2.1 _ hw) (fun _ h9 => h9) (zFs_at q4) hd (k (hΩ.2.2.2.2 t j) a ha H locs ls cells slots hΩ hS hl hc hs)
theorem g_getR (hK : zOk K Z cc own nL ret fr lo mc ms) {ci : Nat} {C : String} {TT : u_T} {nF t j index : Nat} (hf : zfin ci) (hq : zfa ci C TT nF t j 2) (hw : Cond.fieldLink own index (TT j).1 (TT j).2.1 (TT j).2.2.1 ∈ zGood) {r : Nat} (hr : ztp t j = r ∧ r ≠ 0) (hd : decode cc pc = .ok (.getfield index, 3)) (k : zG K Z (zΩ Z) F cb sb (pc + 3) lv (.ref (Z.2.2.1 + r) :: st) μ res) : zG K Z (zΩ Z) F cb sb pc lv (.ref (Z.2.2.1 + t) :: st) μ res := by
  intro a ha H locs ls cells slots hΩ hS hl hc hs
  obtain ⟨q1, q2, q3, q4, q5⟩ := hq
  have e : zFv Z.2.2.1 μ t j 2 = .ref (Z.2.2.1 + r) := by
    show zRv _ (zR μ t j) = _
    rw [hΩ.2.1 t j (by rw [hr.1]; exact hr.2), hr.1]
    exact zRv_pos hr.2
  refine va_get (D := Z.1) (ci := ci) (C := C) (T := TT) (N := nF) hK.1 hK.2.1 hK.2.2.2.2.1 (hf _ q1) hK.2.2.2.1 hK.2.2.2.2.2.2.1.1 hΩ.1 (t - 1) (zWl_obj q2 q3) q1 j q5 (hK.2.2.2.2.1 _ hw) (fun _ h9 => h9) (zFs_at q4) hd ?_
  rw [e]
  exact k a ha H locs ls cells slots hΩ hS hl hc hs
theorem g_getM (hK : zOk K Z cc own nL ret fr lo mc ms) {ci : Nat} {C : String} {TT : u_T} {nF t j index : Nat} (hf : zfin ci) (hq : zfa ci C TT nF t j 2) (hw : Cond.fieldLink own index (TT j).1 (TT j).2.1 (TT j).2.2.1 ∈ zGood) {w : Nat} (hr : zwk t j = w ∧ w < 998) (hd : decode cc pc = .ok (.getfield index, 3)) (k : zkd (zR μ t j) = w → zG K Z (zΩ Z) F cb sb (pc + 3) lv (.ref (Z.2.2.1 + zR μ t j) :: st) μ res) : zG K Z (zΩ Z) F cb sb pc lv (.ref (Z.2.2.1 + t) :: st) μ res := by
  intro a ha H locs ls cells slots hΩ hS hl hc hs
  obtain ⟨q1, q2, q3, q4, q5⟩ := hq
  have e0 : zkd (zR μ t j) = w := (hΩ.2.2.1 t j (by rw [hr.1]; omega)).trans hr.1
  have e : zFv Z.2.2.1 μ t j 2 = .ref (Z.2.2.1 + zR μ t j) := zRv_pos (by have := zkd_pos e0 (by omega); omega)
  refine va_get (D := Z.1) (ci := ci) (C := C) (T := TT) (N := nF) hK.1 hK.2.1 hK.2.2.2.2.1 (hf _ q1) hK.2.2.2.1 hK.2.2.2.2.2.2.1.1 hΩ.1 (t - 1) (zWl_obj q2 q3) q1 j q5 (hK.2.2.2.2.1 _ hw) (fun _ h9 => h9) (zFs_at q4) hd ?_
  rw [e]
  exact k e0 a ha H locs ls cells slots hΩ hS hl hc hs
theorem g_putI (hK : zOk K Z cc own nL ret fr lo mc ms) {ci : Nat} {C : String} {TT : u_T} {nF t j index : Nat} {x : Int} (hf : zfin ci) (hq : zfa ci C TT nF t j 0) (hw : Cond.fieldLink own index (TT j).1 (TT j).2.1 (TT j).2.2.1 ∈ zGood) (hx : zr x) (hfin : (TT j).2.2.2 = false) (hty : parseFieldDescriptor (TT j).2.2.1 = some .int) (tyc : Nat → FieldType) (htyc : ∀ k, k < nF → parseFieldDescriptor (TT k).2.2.1 = some (tyc k)) (hnm : ∀ a, a < nF → ∀ b, b < nF → a ≠ b → (TT a).2.1 ≠ (TT b).2.1) (hd : decode cc pc = .ok (.putfield index, 3)) (k : zG K Z (zΩ Z) F cb sb (pc + 3) lv st (zsI μ t j x) res) : zG K Z (zΩ Z) F cb sb pc lv (.int (zi x) :: .ref (Z.2.2.1 + t) :: st) μ res := by
  intro a ha H locs ls cells slots hΩ hS hl hc hs
  obtain ⟨q1, q2, q3, q4, q5⟩ := hq
  refine va_put (D := Z.1) (ci := ci) (C := C) (T := TT) (N := nF) hK.1 hK.2.1 hK.2.2.2.2.1 (hf _ q1) tyc htyc hnm hK.2.2.2.1 hK.2.2.2.2.2.2.1.1 hΩ.1 zWl_D hS (t - 1) (zWl_obj q2 q3) q1 j q5 (hK.2.2.2.2.1 _ hw) (fun _ h9 => h9) hfin hty rfl rfl (by rw [zFs_len]; exact (List.getElem?_eq_some_iff.mp q4).1) hd (fun H1 locs1 hP1 hD1 hS1 => ?_)
  have e1 : (zFs Z.2.2.1 μ t (zTy ci)).set j (.int (zi x)) = zFs Z.2.2.1 (zsI μ t j x) t (zTy ci) := zFs_set (fun ty h9 => by rw [q4] at h9; cases h9; exact zFv_I0) (fun i ty hi => zFv_I hi)
  rw [e1] at hP1
  have e2 := zWl_set (dA := Z.2.1) (B := Z.2.2.1) (n := zN) (zkd_pos q2 (by omega)).1 (zoI Z.2.1 Z.2.2.1 μ t j x)
  rw [q2, zCe_obj q3] at e2
  rw [e2] at hP1
  exact k a ha H1 locs1 ls cells slots ⟨hP1, hΩ.2.1, hΩ.2.2.1, zRg_sI hΩ.2.2.2 hx⟩ hS1 hl hc hs
theorem g_putZ (hK : zOk K Z cc own nL ret fr lo mc ms) {ci : Nat} {C : String} {TT : u_T} {nF t j index : Nat} {x : Int} (hf : zfin ci) (hq : zfa ci C TT nF t j 0) (hw : Cond.fieldLink own index (TT j).1 (TT j).2.1 (TT j).2.2.1 ∈ zGood) (hfin : (TT j).2.2.2 = false) (hty : parseFieldDescriptor (TT j).2.2.1 = some .boolean) (tyc : Nat → FieldType) (htyc : ∀ k, k < nF → parseFieldDescriptor (TT k).2.2.1 = some (tyc k)) (hnm : ∀ a, a < nF → ∀ b, b < nF → a ≠ b → (TT a).2.1 ≠ (TT b).2.1) (hd : decode cc pc = .ok (.putfield index, 3)) (k : zG K Z (zΩ Z) F cb sb (pc + 3) lv st (zsI μ t j x) A) : zG K Z (zΩ Z) F cb sb pc lv (.int (zi x) :: .ref (Z.2.2.1 + t) :: st) μ (zgd (x = 0 ∨ x = 1) A) := by
  intro a ha H locs ls cells slots hΩ hS hl hc hs
  obtain ⟨q1, q2, q3, q4, q5⟩ := hq
  obtain ⟨g, ha⟩ := zgd_some ha
  refine va_put (D := Z.1) (ci := ci) (C := C) (T := TT) (N := nF) hK.1 hK.2.1 hK.2.2.2.2.1 (hf _ q1) tyc htyc hnm hK.2.2.2.1 hK.2.2.2.2.2.2.1.1 hΩ.1 zWl_D hS (t - 1) (zWl_obj q2 q3) q1 j q5 (hK.2.2.2.2.1 _ hw) (fun _ h9 => h9) hfin hty (by rcases g with rfl | rfl <;> rfl) (by rcases g with rfl | rfl <;> rfl) (by rw [zFs_len]; exact (List.getElem?_eq_some_iff.mp q4).1) hd (fun H1 locs1 hP1 hD1 hS1 => ?_)
  have e1 : (zFs Z.2.2.1 μ t (zTy ci)).set j (.int (zi x)) = zFs Z.2.2.1 (zsI μ t j x) t (zTy ci) := zFs_set (fun ty h9 => by rw [q4] at h9; cases h9; exact zFv_I0) (fun i ty hi => zFv_I hi)
  rw [e1] at hP1
  have e2 := zWl_set (dA := Z.2.1) (B := Z.2.2.1) (n := zN) (zkd_pos q2 (by omega)).1 (zoI Z.2.1 Z.2.2.1 μ t j x)
  rw [q2, zCe_obj q3] at e2
  rw [e2] at hP1
  exact k a ha H1 locs1 ls cells slots ⟨hP1, hΩ.2.1, hΩ.2.2.1, zRg_sI hΩ.2.2.2 (by rcases g with rfl | rfl <;> exact ⟨by decide, by decide⟩)⟩ hS1 hl hc hs
theorem g_putL (hK : zOk K Z cc own nL ret fr lo mc ms) {ci : Nat} {C : String} {TT : u_T} {nF t j index : Nat} {x : Int} (hf : zfin ci) (hq : zfa ci C TT nF t j 1) (hw : Cond.fieldLink own index (TT j).1 (TT j).2.1 (TT j).2.2.1 ∈ zGood) (hx : zr64 x) (hfin : (TT j).2.2.2 = false) (hty : parseFieldDescriptor (TT j).2.2.1 = some .long) (tyc : Nat → FieldType) (htyc : ∀ k, k < nF → parseFieldDescriptor (TT k).2.2.1 = some (tyc k)) (hnm : ∀ a, a < nF → ∀ b, b < nF → a ≠ b → (TT a).2.1 ≠ (TT b).2.1) (hd : decode cc pc = .ok (.putfield index, 3)) (k : zG K Z (zΩ Z) F cb sb (pc + 3) lv st (zsL μ t j x) res) : zG K Z (zΩ Z) F cb sb pc lv (.long (zl x) :: .ref (Z.2.2.1 + t) :: st) μ res := by
  intro a ha H locs ls cells slots hΩ hS hl hc hs
  obtain ⟨q1, q2, q3, q4, q5⟩ := hq
  refine va_put (D := Z.1) (ci := ci) (C := C) (T := TT) (N := nF) hK.1 hK.2.1 hK.2.2.2.2.1 (hf _ q1) tyc htyc hnm hK.2.2.2.1 hK.2.2.2.2.2.2.1.1 hΩ.1 zWl_D hS (t - 1) (zWl_obj q2 q3) q1 j q5 (hK.2.2.2.2.1 _ hw) (fun _ h9 => h9) hfin hty rfl rfl (by rw [zFs_len]; exact (List.getElem?_eq_some_iff.mp q4).1) hd (fun H1 locs1 hP1 hD1 hS1 => ?_)
  have e1 : (zFs Z.2.2.1 μ t (zTy ci)).set j (.long (zl x)) = zFs Z.2.2.1 (zsL μ t j x) t (zTy ci) := zFs_set (fun ty h9 => by rw [q4] at h9; cases h9; exact zFv_L0) (fun i ty hi => zFv_L hi)
  rw [e1] at hP1
  have e2 := zWl_set (dA := Z.2.1) (B := Z.2.2.1) (n := zN) (zkd_pos q2 (by omega)).1 (zoL Z.2.1 Z.2.2.1 μ t j x)
  rw [q2, zCe_obj q3] at e2
  rw [e2] at hP1
  exact k a ha H1 locs1 ls cells slots ⟨hP1, hΩ.2.1, hΩ.2.2.1, zRg_sL hΩ.2.2.2 hx⟩ hS1 hl hc hs
theorem g_putR (hK : zOk K Z cc own nL ret fr lo mc ms) {ci : Nat} {C : String} {TT : u_T} {nF t j index : Nat} {r w : Nat} {rty : FieldType} (hf : zfin ci) (hq : zfa ci C TT nF t j 2) (hw : Cond.fieldLink own index (TT j).1 (TT j).2.1 (TT j).2.2.1 ∈ zGood) (ht0 : ztp t j = 0) (hw0 : zwk t j = w ∧ w < 998) (hv1 : zkd r = w) (hv0 : r ≠ 0) (hrt : ∀ q : Nat, narrow rty (.ref q) = .ref q) (hrf : ∀ q : Nat, fits rty (.ref q) = true) (hfin : (TT j).2.2.2 = false) (hty : parseFieldDescriptor (TT j).2.2.1 = some rty) (tyc : Nat → FieldType) (htyc : ∀ k, k < nF → parseFieldDescriptor (TT k).2.2.1 = some (tyc k)) (hnm : ∀ a, a < nF → ∀ b, b < nF → a ≠ b → (TT a).2.1 ≠ (TT b).2.1) (hd : decode cc pc = .ok (.putfield index, 3)) (k : zG K Z (zΩ Z) F cb sb (pc + 3) lv st (zsR μ t j r) res) : zG K Z (zΩ Z) F cb sb pc lv (.ref (Z.2.2.1 + r) :: .ref (Z.2.2.1 + t) :: st) μ res := by
  intro a ha H locs ls cells slots hΩ hS hl hc hs
  obtain ⟨q1, q2, q3, q4, q5⟩ := hq
  refine va_put (D := Z.1) (ci := ci) (C := C) (T := TT) (N := nF) hK.1 hK.2.1 hK.2.2.2.2.1 (hf _ q1) tyc htyc hnm hK.2.2.2.1 hK.2.2.2.2.2.2.1.1 hΩ.1 zWl_D hS (t - 1) (zWl_obj q2 q3) q1 j q5 (hK.2.2.2.2.1 _ hw) (fun _ h9 => h9) hfin hty (hrt _) (hrf _) (by rw [zFs_len]; exact (List.getElem?_eq_some_iff.mp q4).1) hd (fun H1 locs1 hP1 hD1 hS1 => ?_)
  have e1 : (zFs Z.2.2.1 μ t (zTy ci)).set j (.ref (Z.2.2.1 + r)) = zFs Z.2.2.1 (zsR μ t j r) t (zTy ci) := zFs_set (fun ty h9 => by rw [q4] at h9; cases h9; exact zFv_R0 hv0) (fun i ty hi => zFv_R hi)
  rw [e1] at hP1
  have e2 := zWl_set (dA := Z.2.1) (B := Z.2.2.1) (n := zN) (zkd_pos q2 (by omega)).1 (zoR Z.2.1 Z.2.2.1 μ t j r)
  rw [q2, zCe_obj q3] at e2
  rw [e2] at hP1
  exact k a ha H1 locs1 ls cells slots ⟨hP1, zTop_sR hΩ.2.1 ht0, zWT_sR hΩ.2.2.1 (hv1.trans hw0.1.symm), zRg_sR hΩ.2.2.2⟩ hS1 hl hc hs
theorem g_getIN (hK : zOk K Z cc own nL ret fr lo mc ms) {ci : Nat} {C : String} {TT : u_T} {nF t j index : Nat} (hf : zfin ci) (hq : zfa ci C TT nF t j 0) {host : String} (hw : Cond.fieldLinkNest own index (TT j).1 (TT j).2.1 (TT j).2.2.1 host ∈ zNw) (hd : decode cc pc = .ok (.getfield index, 3)) (k : zr (zI μ t j) → zG K Z (zΩ Z) F cb sb (pc + 3) lv (.int (zi (zI μ t j)) :: st) μ res) : zG K Z (zΩ Z) F cb sb pc lv (.ref (Z.2.2.1 + t) :: st) μ res := by
  intro a ha H locs ls cells slots hΩ hS hl hc hs
  obtain ⟨q1, q2, q3, q4, q5⟩ := hq
  exact va_getN (D := Z.1) (ci := ci) (C := C) (T := TT) (N := nF) hK.1 hK.2.1 hK.2.2.2.2.1 (hf _ q1) hK.2.2.2.1 hK.2.2.2.2.2.2.1.1 hΩ.1 (t - 1) (zWl_obj q2 q3) q1 j q5 (va_Nw.use rfl (hK.2.2.2.2.2.2.1.2.2.2.2.2.2.1 _ hw)) (fun _ h9 => h9) (zFs_at q4) hd (k (hΩ.2.2.2.1 t j) a ha H locs ls cells slots hΩ hS hl hc hs)
theorem g_getLN (hK : zOk K Z cc own nL ret fr lo mc ms) {ci : Nat} {C : String} {TT : u_T} {nF t j index : Nat} (hf : zfin ci) (hq : zfa ci C TT nF t j 1) {host : String} (hw : Cond.fieldLinkNest own index (TT j).1 (TT j).2.1 (TT j).2.2.1 host ∈ zNw) (hd : decode cc pc = .ok (.getfield index, 3)) (k : zr64 (zL μ t j) → zG K Z (zΩ Z) F cb sb (pc + 3) lv (.long (zl (zL μ t j)) :: st) μ res) : zG K Z (zΩ Z) F cb sb pc lv (.ref (Z.2.2.1 + t) :: st) μ res := by
  intro a ha H locs ls cells slots hΩ hS hl hc hs
  obtain ⟨q1, q2, q3, q4, q5⟩ := hq
  exact va_getN (D := Z.1) (ci := ci) (C := C) (T := TT) (N := nF) hK.1 hK.2.1 hK.2.2.2.2.1 (hf _ q1) hK.2.2.2.1 hK.2.2.2.2.2.2.1.1 hΩ.1 (t - 1) (zWl_obj q2 q3) q1 j q5 (va_Nw.use rfl (hK.2.2.2.2.2.2.1.2.2.2.2.2.2.1 _ hw)) (fun _ h9 => h9) (zFs_at q4) hd (k (hΩ.2.2.2.2 t j) a ha H locs ls cells slots hΩ hS hl hc hs)
theorem g_getRN (hK : zOk K Z cc own nL ret fr lo mc ms) {ci : Nat} {C : String} {TT : u_T} {nF t j index : Nat} (hf : zfin ci) (hq : zfa ci C TT nF t j 2) {host : String} (hw : Cond.fieldLinkNest own index (TT j).1 (TT j).2.1 (TT j).2.2.1 host ∈ zNw) {r : Nat} (hr : ztp t j = r ∧ r ≠ 0) (hd : decode cc pc = .ok (.getfield index, 3)) (k : zG K Z (zΩ Z) F cb sb (pc + 3) lv (.ref (Z.2.2.1 + r) :: st) μ res) : zG K Z (zΩ Z) F cb sb pc lv (.ref (Z.2.2.1 + t) :: st) μ res := by
  intro a ha H locs ls cells slots hΩ hS hl hc hs
  obtain ⟨q1, q2, q3, q4, q5⟩ := hq
  have e : zFv Z.2.2.1 μ t j 2 = .ref (Z.2.2.1 + r) := by
    show zRv _ (zR μ t j) = _
    rw [hΩ.2.1 t j (by rw [hr.1]; exact hr.2), hr.1]
    exact zRv_pos hr.2
  refine va_getN (D := Z.1) (ci := ci) (C := C) (T := TT) (N := nF) hK.1 hK.2.1 hK.2.2.2.2.1 (hf _ q1) hK.2.2.2.1 hK.2.2.2.2.2.2.1.1 hΩ.1 (t - 1) (zWl_obj q2 q3) q1 j q5 (va_Nw.use rfl (hK.2.2.2.2.2.2.1.2.2.2.2.2.2.1 _ hw)) (fun _ h9 => h9) (zFs_at q4) hd ?_
  rw [e]
  exact k a ha H locs ls cells slots hΩ hS hl hc hs
theorem g_getMN (hK : zOk K Z cc own nL ret fr lo mc ms) {ci : Nat} {C : String} {TT : u_T} {nF t j index : Nat} (hf : zfin ci) (hq : zfa ci C TT nF t j 2) {host : String} (hw : Cond.fieldLinkNest own index (TT j).1 (TT j).2.1 (TT j).2.2.1 host ∈ zNw) {w : Nat} (hr : zwk t j = w ∧ w < 998) (hd : decode cc pc = .ok (.getfield index, 3)) (k : zkd (zR μ t j) = w → zG K Z (zΩ Z) F cb sb (pc + 3) lv (.ref (Z.2.2.1 + zR μ t j) :: st) μ res) : zG K Z (zΩ Z) F cb sb pc lv (.ref (Z.2.2.1 + t) :: st) μ res := by
  intro a ha H locs ls cells slots hΩ hS hl hc hs
  obtain ⟨q1, q2, q3, q4, q5⟩ := hq
  have e0 : zkd (zR μ t j) = w := (hΩ.2.2.1 t j (by rw [hr.1]; omega)).trans hr.1
  have e : zFv Z.2.2.1 μ t j 2 = .ref (Z.2.2.1 + zR μ t j) := zRv_pos (by have := zkd_pos e0 (by omega); omega)
  refine va_getN (D := Z.1) (ci := ci) (C := C) (T := TT) (N := nF) hK.1 hK.2.1 hK.2.2.2.2.1 (hf _ q1) hK.2.2.2.1 hK.2.2.2.2.2.2.1.1 hΩ.1 (t - 1) (zWl_obj q2 q3) q1 j q5 (va_Nw.use rfl (hK.2.2.2.2.2.2.1.2.2.2.2.2.2.1 _ hw)) (fun _ h9 => h9) (zFs_at q4) hd ?_
  rw [e]
  exact k e0 a ha H locs ls cells slots hΩ hS hl hc hs
theorem g_putIN (hK : zOk K Z cc own nL ret fr lo mc ms) {ci : Nat} {C : String} {TT : u_T} {nF t j index : Nat} {x : Int} (hf : zfin ci) (hq : zfa ci C TT nF t j 0) {host : String} (hw : Cond.fieldLinkNest own index (TT j).1 (TT j).2.1 (TT j).2.2.1 host ∈ zNw) (hx : zr x) (hfin : (TT j).2.2.2 = false) (hty : parseFieldDescriptor (TT j).2.2.1 = some .int) (tyc : Nat → FieldType) (htyc : ∀ k, k < nF → parseFieldDescriptor (TT k).2.2.1 = some (tyc k)) (hnm : ∀ a, a < nF → ∀ b, b < nF → a ≠ b → (TT a).2.1 ≠ (TT b).2.1) (hd : decode cc pc = .ok (.putfield index, 3)) (k : zG K Z (zΩ Z) F cb sb (pc + 3) lv st (zsI μ t j x) res) : zG K Z (zΩ Z) F cb sb pc lv (.int (zi x) :: .ref (Z.2.2.1 + t) :: st) μ res := by
  intro a ha H locs ls cells slots hΩ hS hl hc hs
  obtain ⟨q1, q2, q3, q4, q5⟩ := hq
  refine va_putN (D := Z.1) (ci := ci) (C := C) (T := TT) (N := nF) hK.1 hK.2.1 hK.2.2.2.2.1 (hf _ q1) tyc htyc hnm hK.2.2.2.1 hK.2.2.2.2.2.2.1.1 hΩ.1 zWl_D hS (t - 1) (zWl_obj q2 q3) q1 j q5 (va_Nw.use rfl (hK.2.2.2.2.2.2.1.2.2.2.2.2.2.1 _ hw)) (fun _ h9 => h9) hfin hty rfl rfl (by rw [zFs_len]; exact (List.getElem?_eq_some_iff.mp q4).1) hd (fun H1 locs1 hP1 hD1 hS1 => ?_)
  have e1 : (zFs Z.2.2.1 μ t (zTy ci)).set j (.int (zi x)) = zFs Z.2.2.1 (zsI μ t j x) t (zTy ci) := zFs_set (fun ty h9 => by rw [q4] at h9; cases h9; exact zFv_I0) (fun i ty hi => zFv_I hi)
  rw [e1] at hP1
  have e2 := zWl_set (dA := Z.2.1) (B := Z.2.2.1) (n := zN) (zkd_pos q2 (by omega)).1 (zoI Z.2.1 Z.2.2.1 μ t j x)
  rw [q2, zCe_obj q3] at e2
  rw [e2] at hP1
  exact k a ha H1 locs1 ls cells slots ⟨hP1, hΩ.2.1, hΩ.2.2.1, zRg_sI hΩ.2.2.2 hx⟩ hS1 hl hc hs
theorem g_putZN (hK : zOk K Z cc own nL ret fr lo mc ms) {ci : Nat} {C : String} {TT : u_T} {nF t j index : Nat} {x : Int} (hf : zfin ci) (hq : zfa ci C TT nF t j 0) {host : String} (hw : Cond.fieldLinkNest own index (TT j).1 (TT j).2.1 (TT j).2.2.1 host ∈ zNw) (hfin : (TT j).2.2.2 = false) (hty : parseFieldDescriptor (TT j).2.2.1 = some .boolean) (tyc : Nat → FieldType) (htyc : ∀ k, k < nF → parseFieldDescriptor (TT k).2.2.1 = some (tyc k)) (hnm : ∀ a, a < nF → ∀ b, b < nF → a ≠ b → (TT a).2.1 ≠ (TT b).2.1) (hd : decode cc pc = .ok (.putfield index, 3)) (k : zG K Z (zΩ Z) F cb sb (pc + 3) lv st (zsI μ t j x) A) : zG K Z (zΩ Z) F cb sb pc lv (.int (zi x) :: .ref (Z.2.2.1 + t) :: st) μ (zgd (x = 0 ∨ x = 1) A) := by
  intro a ha H locs ls cells slots hΩ hS hl hc hs
  obtain ⟨q1, q2, q3, q4, q5⟩ := hq
  obtain ⟨g, ha⟩ := zgd_some ha
  refine va_putN (D := Z.1) (ci := ci) (C := C) (T := TT) (N := nF) hK.1 hK.2.1 hK.2.2.2.2.1 (hf _ q1) tyc htyc hnm hK.2.2.2.1 hK.2.2.2.2.2.2.1.1 hΩ.1 zWl_D hS (t - 1) (zWl_obj q2 q3) q1 j q5 (va_Nw.use rfl (hK.2.2.2.2.2.2.1.2.2.2.2.2.2.1 _ hw)) (fun _ h9 => h9) hfin hty (by rcases g with rfl | rfl <;> rfl) (by rcases g with rfl | rfl <;> rfl) (by rw [zFs_len]; exact (List.getElem?_eq_some_iff.mp q4).1) hd (fun H1 locs1 hP1 hD1 hS1 => ?_)
  have e1 : (zFs Z.2.2.1 μ t (zTy ci)).set j (.int (zi x)) = zFs Z.2.2.1 (zsI μ t j x) t (zTy ci) := zFs_set (fun ty h9 => by rw [q4] at h9; cases h9; exact zFv_I0) (fun i ty hi => zFv_I hi)
  rw [e1] at hP1
  have e2 := zWl_set (dA := Z.2.1) (B := Z.2.2.1) (n := zN) (zkd_pos q2 (by omega)).1 (zoI Z.2.1 Z.2.2.1 μ t j x)
  rw [q2, zCe_obj q3] at e2
  rw [e2] at hP1
  exact k a ha H1 locs1 ls cells slots ⟨hP1, hΩ.2.1, hΩ.2.2.1, zRg_sI hΩ.2.2.2 (by rcases g with rfl | rfl <;> exact ⟨by decide, by decide⟩)⟩ hS1 hl hc hs
theorem g_putLN (hK : zOk K Z cc own nL ret fr lo mc ms) {ci : Nat} {C : String} {TT : u_T} {nF t j index : Nat} {x : Int} (hf : zfin ci) (hq : zfa ci C TT nF t j 1) {host : String} (hw : Cond.fieldLinkNest own index (TT j).1 (TT j).2.1 (TT j).2.2.1 host ∈ zNw) (hx : zr64 x) (hfin : (TT j).2.2.2 = false) (hty : parseFieldDescriptor (TT j).2.2.1 = some .long) (tyc : Nat → FieldType) (htyc : ∀ k, k < nF → parseFieldDescriptor (TT k).2.2.1 = some (tyc k)) (hnm : ∀ a, a < nF → ∀ b, b < nF → a ≠ b → (TT a).2.1 ≠ (TT b).2.1) (hd : decode cc pc = .ok (.putfield index, 3)) (k : zG K Z (zΩ Z) F cb sb (pc + 3) lv st (zsL μ t j x) res) : zG K Z (zΩ Z) F cb sb pc lv (.long (zl x) :: .ref (Z.2.2.1 + t) :: st) μ res := by
  intro a ha H locs ls cells slots hΩ hS hl hc hs
  obtain ⟨q1, q2, q3, q4, q5⟩ := hq
  refine va_putN (D := Z.1) (ci := ci) (C := C) (T := TT) (N := nF) hK.1 hK.2.1 hK.2.2.2.2.1 (hf _ q1) tyc htyc hnm hK.2.2.2.1 hK.2.2.2.2.2.2.1.1 hΩ.1 zWl_D hS (t - 1) (zWl_obj q2 q3) q1 j q5 (va_Nw.use rfl (hK.2.2.2.2.2.2.1.2.2.2.2.2.2.1 _ hw)) (fun _ h9 => h9) hfin hty rfl rfl (by rw [zFs_len]; exact (List.getElem?_eq_some_iff.mp q4).1) hd (fun H1 locs1 hP1 hD1 hS1 => ?_)
  have e1 : (zFs Z.2.2.1 μ t (zTy ci)).set j (.long (zl x)) = zFs Z.2.2.1 (zsL μ t j x) t (zTy ci) := zFs_set (fun ty h9 => by rw [q4] at h9; cases h9; exact zFv_L0) (fun i ty hi => zFv_L hi)
  rw [e1] at hP1
  have e2 := zWl_set (dA := Z.2.1) (B := Z.2.2.1) (n := zN) (zkd_pos q2 (by omega)).1 (zoL Z.2.1 Z.2.2.1 μ t j x)
  rw [q2, zCe_obj q3] at e2
  rw [e2] at hP1
  exact k a ha H1 locs1 ls cells slots ⟨hP1, hΩ.2.1, hΩ.2.2.1, zRg_sL hΩ.2.2.2 hx⟩ hS1 hl hc hs
theorem g_putRN (hK : zOk K Z cc own nL ret fr lo mc ms) {ci : Nat} {C : String} {TT : u_T} {nF t j index : Nat} {r w : Nat} {rty : FieldType} (hf : zfin ci) (hq : zfa ci C TT nF t j 2) {host : String} (hw : Cond.fieldLinkNest own index (TT j).1 (TT j).2.1 (TT j).2.2.1 host ∈ zNw) (ht0 : ztp t j = 0) (hw0 : zwk t j = w ∧ w < 998) (hv1 : zkd r = w) (hv0 : r ≠ 0) (hrt : ∀ q : Nat, narrow rty (.ref q) = .ref q) (hrf : ∀ q : Nat, fits rty (.ref q) = true) (hfin : (TT j).2.2.2 = false) (hty : parseFieldDescriptor (TT j).2.2.1 = some rty) (tyc : Nat → FieldType) (htyc : ∀ k, k < nF → parseFieldDescriptor (TT k).2.2.1 = some (tyc k)) (hnm : ∀ a, a < nF → ∀ b, b < nF → a ≠ b → (TT a).2.1 ≠ (TT b).2.1) (hd : decode cc pc = .ok (.putfield index, 3)) (k : zG K Z (zΩ Z) F cb sb (pc + 3) lv st (zsR μ t j r) res) : zG K Z (zΩ Z) F cb sb pc lv (.ref (Z.2.2.1 + r) :: .ref (Z.2.2.1 + t) :: st) μ res := by
  intro a ha H locs ls cells slots hΩ hS hl hc hs
  obtain ⟨q1, q2, q3, q4, q5⟩ := hq
  refine va_putN (D := Z.1) (ci := ci) (C := C) (T := TT) (N := nF) hK.1 hK.2.1 hK.2.2.2.2.1 (hf _ q1) tyc htyc hnm hK.2.2.2.1 hK.2.2.2.2.2.2.1.1 hΩ.1 zWl_D hS (t - 1) (zWl_obj q2 q3) q1 j q5 (va_Nw.use rfl (hK.2.2.2.2.2.2.1.2.2.2.2.2.2.1 _ hw)) (fun _ h9 => h9) hfin hty (hrt _) (hrf _) (by rw [zFs_len]; exact (List.getElem?_eq_some_iff.mp q4).1) hd (fun H1 locs1 hP1 hD1 hS1 => ?_)
  have e1 : (zFs Z.2.2.1 μ t (zTy ci)).set j (.ref (Z.2.2.1 + r)) = zFs Z.2.2.1 (zsR μ t j r) t (zTy ci) := zFs_set (fun ty h9 => by rw [q4] at h9; cases h9; exact zFv_R0 hv0) (fun i ty hi => zFv_R hi)
  rw [e1] at hP1
  have e2 := zWl_set (dA := Z.2.1) (B := Z.2.2.1) (n := zN) (zkd_pos q2 (by omega)).1 (zoR Z.2.1 Z.2.2.1 μ t j r)
  rw [q2, zCe_obj q3] at e2
  rw [e2] at hP1
  exact k a ha H1 locs1 ls cells slots ⟨hP1, zTop_sR hΩ.2.1 ht0, zWT_sR hΩ.2.2.1 (hv1.trans hw0.1.symm), zRg_sR hΩ.2.2.2⟩ hS1 hl hc hs
theorem g_iald (hK : zOk K Z cc own nL ret fr lo mc ms) {t : Nat} {i : Int} (ht : zkd t = 100) (hd : decode cc pc = .ok (.iaload, 1)) (k : zin i (zln t) → zr (zI μ t (zx i)) → zG K Z (zΩ Z) F cb sb (pc + 1) lv (.int (zi (zI μ t (zx i))) :: st) μ A) : zG K Z (zΩ Z) F cb sb pc lv (.int (zi i) :: .ref (Z.2.2.1 + t) :: st) μ (zgd (zin i (zln t)) A) := by
  intro a ha H locs ls cells slots hΩ hS hl hc hs
  obtain ⟨g, ha⟩ := zgd_some ha
  have h0 := zkd_pos ht (by omega)
  have e := zWl_at (dA := Z.2.1) (B := Z.2.2.1) (n := zN) (μ := μ) h0.1 h0.2
  rw [ht] at e
  have ex := zx_of g.1 (zin_r g)
  have h := k g (hΩ.2.2.2.1 _ _) a ha H locs ls cells slots hΩ hS hl hc hs
  rw [← ex] at h
  exact va_iald (D := Z.1) hK.1 hK.2.1 hK.2.2.2.2.2.2.1.1 hΩ.1 (t - 1) 0 e rfl (zin_of g) hd h
theorem g_zald (hK : zOk K Z cc own nL ret fr lo mc ms) {t : Nat} {i : Int} (ht : zkd t = 101) (hd : decode cc pc = .ok (.baload, 1)) (k : zin i (zln t) → zr (zI μ t (zx i)) → zG K Z (zΩ Z) F cb sb (pc + 1) lv (.int (zi (zI μ t (zx i))) :: st) μ A) : zG K Z (zΩ Z) F cb sb pc lv (.int (zi i) :: .ref (Z.2.2.1 + t) :: st) μ (zgd (zin i (zln t)) A) := by
  intro a ha H locs ls cells slots hΩ hS hl hc hs
  obtain ⟨g, ha⟩ := zgd_some ha
  have h0 := zkd_pos ht (by omega)
  have e := zWl_at (dA := Z.2.1) (B := Z.2.2.1) (n := zN) (μ := μ) h0.1 h0.2
  rw [ht] at e
  have ex := zx_of g.1 (zin_r g)
  have h := k g (hΩ.2.2.2.1 _ _) a ha H locs ls cells slots hΩ hS hl hc hs
  rw [← ex] at h
  exact va_zald (D := Z.1) hK.1 hK.2.1 hK.2.2.2.2.2.2.1.1 hΩ.1 (t - 1) 1 e rfl (zin_of g) hd h
theorem g_lald (hK : zOk K Z cc own nL ret fr lo mc ms) {t : Nat} {i : Int} (ht : zkd t = 102) (hd : decode cc pc = .ok (.laload, 1)) (k : zin i (zln t) → zr64 (zL μ t (zx i)) → zG K Z (zΩ Z) F cb sb (pc + 1) lv (.long (zl (zL μ t (zx i))) :: st) μ A) : zG K Z (zΩ Z) F cb sb pc lv (.int (zi i) :: .ref (Z.2.2.1 + t) :: st) μ (zgd (zin i (zln t)) A) := by
  intro a ha H locs ls cells slots hΩ hS hl hc hs
  obtain ⟨g, ha⟩ := zgd_some ha
  have h0 := zkd_pos ht (by omega)
  have e := zWl_at (dA := Z.2.1) (B := Z.2.2.1) (n := zN) (μ := μ) h0.1 h0.2
  rw [ht] at e
  have ex := zx_of g.1 (zin_r g)
  have h := k g (hΩ.2.2.2.2 _ _) a ha H locs ls cells slots hΩ hS hl hc hs
  rw [← ex] at h
  exact va_lald (D := Z.1) hK.1 hK.2.1 hK.2.2.2.2.2.2.1.1 hΩ.1 (t - 1) 2 e rfl (zin_of g) hd h
theorem g_dald (hK : zOk K Z cc own nL ret fr lo mc ms) {t : Nat} {i : Int} (ht : zkd t = 103) (hd : decode cc pc = .ok (.daload, 1)) (k : zin i (zln t) → zG K Z (zΩ Z) F cb sb (pc + 1) lv (.double (zD μ t (zx i)) :: st) μ A) : zG K Z (zΩ Z) F cb sb pc lv (.int (zi i) :: .ref (Z.2.2.1 + t) :: st) μ (zgd (zin i (zln t)) A) := by
  intro a ha H locs ls cells slots hΩ hS hl hc hs
  obtain ⟨g, ha⟩ := zgd_some ha
  have h0 := zkd_pos ht (by omega)
  have e := zWl_at (dA := Z.2.1) (B := Z.2.2.1) (n := zN) (μ := μ) h0.1 h0.2
  rw [ht] at e
  have ex := zx_of g.1 (zin_r g)
  have h := k g a ha H locs ls cells slots hΩ hS hl hc hs
  rw [← ex] at h
  exact va_dald (D := Z.1) hK.1 hK.2.1 hK.2.2.2.2.2.2.1.1 hΩ.1 (t - 1) 3 e rfl (zin_of g) hd h
theorem g_iast (hK : zOk K Z cc own nL ret fr lo mc ms) {t : Nat} {i : Int} {x : Int} (hx : zr x) (ht : zkd t = 100) (hd : decode cc pc = .ok (.iastore, 1)) (k : zin i (zln t) → zG K Z (zΩ Z) F cb sb (pc + 1) lv st (zsI μ t (zx i) x) A) : zG K Z (zΩ Z) F cb sb pc lv (.int (zi x) :: .int (zi i) :: .ref (Z.2.2.1 + t) :: st) μ (zgd (zin i (zln t)) A) := by
  intro a ha H locs ls cells slots hΩ hS hl hc hs
  obtain ⟨g, ha⟩ := zgd_some ha
  have h0 := zkd_pos ht (by omega)
  have e := zWl_at (dA := Z.2.1) (B := Z.2.2.1) (n := zN) (μ := μ) h0.1 h0.2
  rw [ht] at e
  have ex := zx_of g.1 (zin_r g)
  refine va_iast (D := Z.1) hK.1 hK.2.1 hK.2.2.2.2.2.2.1.1 hΩ.1 zWl_D hS (t - 1) 0 e rfl (zin_of g) hd (fun H1 locs1 hP1 hD1 hS1 => ?_)
  have e2 := zWl_set (dA := Z.2.1) (B := Z.2.2.1) (n := zN) h0.1 (zoI Z.2.1 Z.2.2.1 μ t (zx i) x)
  rw [ht] at e2
  have e3 : zCe Z.2.1 Z.2.2.1 (zsI μ t (zx i) x) t 100 (zln t) = _ := show (Sum.inl (Z.2.1 0, zln t, Sum.inl (fun q => zi (zI (zsI μ t (zx i) x) t q))) : va_E) = Sum.inl (Z.2.1 0, zln t, Sum.inl (upd (fun q => zi (zI μ t q)) (zx i) (zi x))) from by rw [show (fun q => zi (zI (zsI μ t (zx i) x) t q)) = upd (fun q => zi (zI μ t q)) (zx i) (zi x) from funext fun q => by rw [zsI_at]; by_cases h9 : q = zx i <;> simp [upd, h9]]
  rw [ex] at hP1
  rw [e3] at e2
  rw [e2] at hP1
  exact k g a ha H1 locs1 ls cells slots ⟨hP1, hΩ.2.1, hΩ.2.2.1, zRg_sI hΩ.2.2.2 hx⟩ hS1 hl hc hs
theorem g_zast (hK : zOk K Z cc own nL ret fr lo mc ms) {t : Nat} {i : Int} {x : Int} (ht : zkd t = 101) (hd : decode cc pc = .ok (.bastore, 1)) (k : zin i (zln t) → zG K Z (zΩ Z) F cb sb (pc + 1) lv st (zsI μ t (zx i) x) A) : zG K Z (zΩ Z) F cb sb pc lv (.int (zi x) :: .int (zi i) :: .ref (Z.2.2.1 + t) :: st) μ (zgd (zin i (zln t) ∧ (x = 0 ∨ x = 1)) A) := by
  intro a ha H locs ls cells slots hΩ hS hl hc hs
  obtain ⟨g, ha⟩ := zgd_some ha
  have h0 := zkd_pos ht (by omega)
  have e := zWl_at (dA := Z.2.1) (B := Z.2.2.1) (n := zN) (μ := μ) h0.1 h0.2
  rw [ht] at e
  have ex := zx_of g.1.1 (zin_r g.1)
  refine va_zast (D := Z.1) hK.1 hK.2.1 hK.2.2.2.2.2.2.1.1 hΩ.1 zWl_D hS (t - 1) 1 e rfl (zin_of g.1) hd (fun H1 locs1 hP1 hD1 hS1 => ?_)
  have e2 := zWl_set (dA := Z.2.1) (B := Z.2.2.1) (n := zN) h0.1 (zoI Z.2.1 Z.2.2.1 μ t (zx i) x)
  rw [ht] at e2
  have e3 : zCe Z.2.1 Z.2.2.1 (zsI μ t (zx i) x) t 101 (zln t) = _ := show (Sum.inl (Z.2.1 1, zln t, Sum.inl (fun q => zi (zI (zsI μ t (zx i) x) t q))) : va_E) = Sum.inl (Z.2.1 1, zln t, Sum.inl (upd (fun q => zi (zI μ t q)) (zx i) (vp_nar .boolean (zi x)))) from by rw [show (fun q => zi (zI (zsI μ t (zx i) x) t q)) = upd (fun q => zi (zI μ t q)) (zx i) (vp_nar .boolean (zi x)) from funext fun q => by rw [zsI_at, show vp_nar .boolean (zi x) = zi x from by rcases g.2 with rfl | rfl <;> rfl]; by_cases h9 : q = zx i <;> simp [upd, h9]]
  rw [ex] at hP1
  rw [e3] at e2
  rw [e2] at hP1
  exact k g.1 a ha H1 locs1 ls cells slots ⟨hP1, hΩ.2.1, hΩ.2.2.1, zRg_sI hΩ.2.2.2 (by rcases g.2 with rfl | rfl <;> exact ⟨by decide, by decide⟩)⟩ hS1 hl hc hs
theorem g_last (hK : zOk K Z cc own nL ret fr lo mc ms) {t : Nat} {i : Int} {x : Int} (hx : zr64 x) (ht : zkd t = 102) (hd : decode cc pc = .ok (.lastore, 1)) (k : zin i (zln t) → zG K Z (zΩ Z) F cb sb (pc + 1) lv st (zsL μ t (zx i) x) A) : zG K Z (zΩ Z) F cb sb pc lv (.long (zl x) :: .int (zi i) :: .ref (Z.2.2.1 + t) :: st) μ (zgd (zin i (zln t)) A) := by
  intro a ha H locs ls cells slots hΩ hS hl hc hs
  obtain ⟨g, ha⟩ := zgd_some ha
  have h0 := zkd_pos ht (by omega)
  have e := zWl_at (dA := Z.2.1) (B := Z.2.2.1) (n := zN) (μ := μ) h0.1 h0.2
  rw [ht] at e
  have ex := zx_of g.1 (zin_r g)
  refine va_last (D := Z.1) hK.1 hK.2.1 hK.2.2.2.2.2.2.1.1 hΩ.1 zWl_D hS (t - 1) 2 e rfl (zin_of g) hd (fun H1 locs1 hP1 hD1 hS1 => ?_)
  have e2 := zWl_set (dA := Z.2.1) (B := Z.2.2.1) (n := zN) h0.1 (zoL Z.2.1 Z.2.2.1 μ t (zx i) x)
  rw [ht] at e2
  have e3 : zCe Z.2.1 Z.2.2.1 (zsL μ t (zx i) x) t 102 (zln t) = _ := show (Sum.inl (Z.2.1 2, zln t, Sum.inr (Sum.inl (fun q => zl (zL (zsL μ t (zx i) x) t q)))) : va_E) = Sum.inl (Z.2.1 2, zln t, Sum.inr (Sum.inl (vp_updL (fun q => zl (zL μ t q)) (zx i) (zl x)))) from by rw [show (fun q => zl (zL (zsL μ t (zx i) x) t q)) = vp_updL (fun q => zl (zL μ t q)) (zx i) (zl x) from funext fun q => by rw [zsL_at]; by_cases h9 : q = zx i <;> simp [vp_updL, h9]]
  rw [ex] at hP1
  rw [e3] at e2
  rw [e2] at hP1
  exact k g a ha H1 locs1 ls cells slots ⟨hP1, hΩ.2.1, hΩ.2.2.1, zRg_sL hΩ.2.2.2 hx⟩ hS1 hl hc hs
theorem g_dast (hK : zOk K Z cc own nL ret fr lo mc ms) {t : Nat} {i : Int} {x : UInt64} (ht : zkd t = 103) (hd : decode cc pc = .ok (.dastore, 1)) (k : zin i (zln t) → zG K Z (zΩ Z) F cb sb (pc + 1) lv st (zsD μ t (zx i) x) A) : zG K Z (zΩ Z) F cb sb pc lv (.double x :: .int (zi i) :: .ref (Z.2.2.1 + t) :: st) μ (zgd (zin i (zln t)) A) := by
  intro a ha H locs ls cells slots hΩ hS hl hc hs
  obtain ⟨g, ha⟩ := zgd_some ha
  have h0 := zkd_pos ht (by omega)
  have e := zWl_at (dA := Z.2.1) (B := Z.2.2.1) (n := zN) (μ := μ) h0.1 h0.2
  rw [ht] at e
  have ex := zx_of g.1 (zin_r g)
  refine va_dast (D := Z.1) hK.1 hK.2.1 hK.2.2.2.2.2.2.1.1 hΩ.1 zWl_D hS (t - 1) 3 e rfl (zin_of g) hd (fun H1 locs1 hP1 hD1 hS1 => ?_)
  have e2 := zWl_set (dA := Z.2.1) (B := Z.2.2.1) (n := zN) h0.1 (zoD Z.2.1 Z.2.2.1 μ t (zx i) x)
  rw [ht] at e2
  have e3 : zCe Z.2.1 Z.2.2.1 (zsD μ t (zx i) x) t 103 (zln t) = _ := show (Sum.inl (Z.2.1 3, zln t, Sum.inr (Sum.inr (Sum.inr (Sum.inl (zD (zsD μ t (zx i) x) t))))) : va_E) = Sum.inl (Z.2.1 3, zln t, Sum.inr (Sum.inr (Sum.inr (Sum.inl (vf_upd (zD μ t) (zx i) x))))) from by rw [show zD (zsD μ t (zx i) x) t = vf_upd (zD μ t) (zx i) x from funext fun q => by rw [zsD_at]; simp [vf_upd]]
  rw [ex] at hP1
  rw [e3] at e2
  rw [e2] at hP1
  exact k g a ha H1 locs1 ls cells slots ⟨hP1, hΩ.2.1, hΩ.2.2.1, zRg_sD hΩ.2.2.2⟩ hS1 hl hc hs
theorem g_aald104 (hK : zOk K Z cc own nL ret fr lo mc ms) {t : Nat} {i : Int} {g : Nat → Nat} (ht : zkd t = 104) (hg : ∀ i, i < zln t → ztp t i = g i ∧ g i ≠ 0) (hd : decode cc pc = .ok (.aaload, 1)) (k : zin i (zln t) → zG K Z (zΩ Z) F cb sb (pc + 1) lv (.ref (Z.2.2.1 + g (zx i)) :: st) μ A) : zG K Z (zΩ Z) F cb sb pc lv (.int (zi i) :: .ref (Z.2.2.1 + t) :: st) μ (zgd (zin i (zln t)) A) := by
  intro a ha H locs ls cells slots hΩ hS hl hc hs
  obtain ⟨g9, ha⟩ := zgd_some ha
  have h0 := zkd_pos ht (by omega)
  have e := zWl_at (dA := Z.2.1) (B := Z.2.2.1) (n := zN) (μ := μ) h0.1 h0.2
  rw [ht] at e
  have ex := zx_of g9.1 (zin_r g9)
  refine va_aldq (D := Z.1) (C := RX3) hK.1 hK.2.1 hK.2.2.2.2.2.2.1.1 hΩ.1 (t - 1) 4 e rfl (zin_of g9) hd ?_
  have h1 := hg (zx i) (zx_lt g9)
  have e1 : va_rf (zRo Z.2.2.1 (zR μ t (zi i).toNatClampNeg)) = .ref (Z.2.2.1 + g (zx i)) := by
    rw [ex, zRo_rf, hΩ.2.1 t (zx i) (by rw [h1.1]; exact h1.2), h1.1]
    exact zRv_pos h1.2
  rw [e1]
  exact k g9 a ha H locs ls cells slots hΩ hS hl hc hs
theorem g_aald105 (hK : zOk K Z cc own nL ret fr lo mc ms) {t : Nat} {i : Int} {g : Nat → Nat} (ht : zkd t = 105) (hg : ∀ i, i < zln t → ztp t i = g i ∧ g i ≠ 0) (hd : decode cc pc = .ok (.aaload, 1)) (k : zin i (zln t) → zG K Z (zΩ Z) F cb sb (pc + 1) lv (.ref (Z.2.2.1 + g (zx i)) :: st) μ A) : zG K Z (zΩ Z) F cb sb pc lv (.int (zi i) :: .ref (Z.2.2.1 + t) :: st) μ (zgd (zin i (zln t)) A) := by
  intro a ha H locs ls cells slots hΩ hS hl hc hs
  obtain ⟨g9, ha⟩ := zgd_some ha
  have h0 := zkd_pos ht (by omega)
  have e := zWl_at (dA := Z.2.1) (B := Z.2.2.1) (n := zN) (μ := μ) h0.1 h0.2
  rw [ht] at e
  have ex := zx_of g9.1 (zin_r g9)
  refine va_aldq (D := Z.1) (C := RX2) hK.1 hK.2.1 hK.2.2.2.2.2.2.1.1 hΩ.1 (t - 1) 5 e rfl (zin_of g9) hd ?_
  have h1 := hg (zx i) (zx_lt g9)
  have e1 : va_rf (zRo Z.2.2.1 (zR μ t (zi i).toNatClampNeg)) = .ref (Z.2.2.1 + g (zx i)) := by
    rw [ex, zRo_rf, hΩ.2.1 t (zx i) (by rw [h1.1]; exact h1.2), h1.1]
    exact zRv_pos h1.2
  rw [e1]
  exact k g9 a ha H locs ls cells slots hΩ hS hl hc hs
theorem zln_zi (t : Nat) : Int32.ofNat (zln t) = zi ((zln t : Nat) : Int) := rfl
theorem g_alen100 (hK : zOk K Z cc own nL ret fr lo mc ms) {t : Nat} (ht : zkd t = 100) (hd : decode cc pc = .ok (.arraylength, 1)) (k : zr ((zln t : Nat) : Int) → zG K Z (zΩ Z) F cb sb (pc + 1) lv (.int (zi ((zln t : Nat) : Int)) :: st) μ res) : zG K Z (zΩ Z) F cb sb pc lv (.ref (Z.2.2.1 + t) :: st) μ res := by
  intro a ha H locs ls cells slots hΩ hS hl hc hs
  have h0 := zkd_pos ht (by omega)
  have e := zWl_at (dA := Z.2.1) (B := Z.2.2.1) (n := zN) (μ := μ) h0.1 h0.2
  rw [ht] at e
  exact va_alen (D := Z.1) hK.1 hK.2.1 hK.2.2.2.2.2.2.1.1 hΩ.1 (t - 1) 0 e rfl (zln_zi t) hd (k ⟨by omega, by have := zln_le t; omega⟩ a ha H locs ls cells slots hΩ hS hl hc hs)
theorem g_alen101 (hK : zOk K Z cc own nL ret fr lo mc ms) {t : Nat} (ht : zkd t = 101) (hd : decode cc pc = .ok (.arraylength, 1)) (k : zr ((zln t : Nat) : Int) → zG K Z (zΩ Z) F cb sb (pc + 1) lv (.int (zi ((zln t : Nat) : Int)) :: st) μ res) : zG K Z (zΩ Z) F cb sb pc lv (.ref (Z.2.2.1 + t) :: st) μ res := by
  intro a ha H locs ls cells slots hΩ hS hl hc hs
  have h0 := zkd_pos ht (by omega)
  have e := zWl_at (dA := Z.2.1) (B := Z.2.2.1) (n := zN) (μ := μ) h0.1 h0.2
  rw [ht] at e
  exact va_alen (D := Z.1) hK.1 hK.2.1 hK.2.2.2.2.2.2.1.1 hΩ.1 (t - 1) 1 e rfl (zln_zi t) hd (k ⟨by omega, by have := zln_le t; omega⟩ a ha H locs ls cells slots hΩ hS hl hc hs)
end zRows5
