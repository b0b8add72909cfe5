/-! THE PURE SIDE'S MEMORY: cell k, slot i; ints (booleans, too), longs, references (0: null, else the cell's number), doubles -/
/-! whole numbers: the pure side counts in Int, the machine in 32 and 64 bits -/
def zi (x : Int) : Int32 := Int32.ofInt x
def zl (x : Int) : Int64 := Int64.ofInt x
abbrev zr (x : Int) : Prop := -2147483648 ≤ x ∧ x < 2147483648
abbrev zr64 (x : Int) : Prop := -9223372036854775808 ≤ x ∧ x < 9223372036854775808
theorem zi_toInt {x : Int} (h : zr x) : (zi x).toInt = x := Int32.toInt_ofInt_of_le (by show (-2147483648 : Int) ≤ x; exact h.1) (by show x < (2147483648 : Int); exact h.2)
theorem zl_toInt {x : Int} (h : zr64 x) : (zl x).toInt = x := Int64.toInt_ofInt_of_le (by show (-9223372036854775808 : Int) ≤ x; exact h.1) (by show x < (9223372036854775808 : Int); exact h.2)
theorem zi_of (y : Int32) : zi y.toInt = y := Int32.ofInt_toInt y
theorem zl_of (y : Int64) : zl y.toInt = y := Int64.ofInt_toInt y
theorem zr_of (y : Int32) : zr y.toInt := ⟨Int32.le_toInt y, Int32.toInt_lt y⟩
theorem zr64_of (y : Int64) : zr64 y.toInt := ⟨Int64.le_toInt y, Int64.toInt_lt y⟩
theorem zr_64 {x : Int} (h : zr x) : zr64 x := ⟨by have := h.1; omega, by have := h.2; omega⟩
theorem zi_add (x y : Int) : zi (x + y) = zi x + zi y := Int32.ofInt_add x y
theorem zi_sub (x y : Int) : zi (x - y) = zi x - zi y := Int32.ofInt_sub x y
theorem zi_mul (x y : Int) : zi (x * y) = zi x * zi y := Int32.ofInt_mul x y
theorem zi_neg (x : Int) : zi (-x) = -zi x := Int32.ofInt_neg x
theorem zl_add (x y : Int) : zl (x + y) = zl x + zl y := Int64.ofInt_add x y
theorem zl_sub (x y : Int) : zl (x - y) = zl x - zl y := Int64.ofInt_sub x y
theorem zl_mul (x y : Int) : zl (x * y) = zl x * zl y := Int64.ofInt_mul x y
theorem zi_lt {x y : Int} (hx : zr x) (hy : zr y) : zi x < zi y ↔ x < y := by rw [Int32.lt_iff_toInt_lt, zi_toInt hx, zi_toInt hy]
theorem zi_le {x y : Int} (hx : zr x) (hy : zr y) : zi x ≤ zi y ↔ x ≤ y := by rw [Int32.le_iff_toInt_le, zi_toInt hx, zi_toInt hy]
theorem zi_eq {x y : Int} (hx : zr x) (hy : zr y) : zi x = zi y ↔ x = y := by rw [← Int32.toInt_inj, zi_toInt hx, zi_toInt hy]
theorem zl_lt {x y : Int} (hx : zr64 x) (hy : zr64 y) : zl x < zl y ↔ x < y := by rw [Int64.lt_iff_toInt_lt, zl_toInt hx, zl_toInt hy]
theorem zl_eq {x y : Int} (hx : zr64 x) (hy : zr64 y) : zl x = zl y ↔ x = y := by rw [← Int64.toInt_inj, zl_toInt hx, zl_toInt hy]
theorem zi_i2l {x : Int} (hx : zr x) : (zi x).toInt64 = zl x := by rw [← Int64.toInt_inj, Int32.toInt_toInt64, zi_toInt hx, zl_toInt (zr_64 hx)]
theorem zl_l2i {x : Int} (hx : zr x) : (zl x).toInt32 = zi x := by rw [← zi_i2l hx, Int32.toInt32_toInt64]
def zand (x y : Int) : Int := (zi x &&& zi y).toInt
def zor (x y : Int) : Int := (zi x ||| zi y).toInt
def zxor (x y : Int) : Int := (zi x ^^^ zi y).toInt
def zshl (x y : Int) : Int := (zi x <<< (zi y &&& 31)).toInt
def zshr (x y : Int) : Int := (zi x >>> (zi y &&& 31)).toInt
def zushr (x y : Int) : Int := ((zi x).toUInt32 >>> ((zi y).toUInt32 &&& Int32.toUInt32 31)).toInt32.toInt
def zdiv (x y : Int) : Int := (zi x / zi y).toInt
def zrem (x y : Int) : Int := (zi x - zi x / zi y * zi y).toInt
def zdivL (x y : Int) : Int := (zl x / zl y).toInt
def zremL (x y : Int) : Int := (zl x - zl x / zl y * zl y).toInt
def zcmp (x y : Int) : Int := if x < y then -1 else if x = y then 0 else 1
/-- a number that must be one of 32 (64) bits goes on under a name -/
def zgl {γ : Type} (e : Int) (f : Int → Option γ) : Option γ := if zr e then f e else none
def zgL {γ : Type} (e : Int) (f : Int → Option γ) : Option γ := if zr64 e then f e else none
/-- what must hold, before it goes on -/
noncomputable def zgd {α : Type} (c : Prop) (A : Option α) : Option α := @ite _ c (Classical.propDecidable c) A none
/-- a value under a name -/
def zlt {β γ : Type} (e : β) (f : β → γ) : γ := f e
theorem zgl_some {γ : Type} {e : Int} {f : Int → Option γ} {a : γ} (h : zgl e f = some a) : zr e ∧ f e = some a := by
  unfold zgl at h
  split at h
  · rename_i g; exact ⟨g, h⟩
  · cases h
theorem zgL_some {γ : Type} {e : Int} {f : Int → Option γ} {a : γ} (h : zgL e f = some a) : zr64 e ∧ f e = some a := by
  unfold zgL at h
  split at h
  · rename_i g; exact ⟨g, h⟩
  · cases h
theorem zgd_some {γ : Type} {c : Prop} {A : Option γ} {a : γ} (h : zgd c A = some a) : c ∧ A = some a := by
  unfold zgd at h
  by_cases g : c
  · rw [if_pos g] at h; exact ⟨g, h⟩
  · rw [if_neg g] at h; cases h
abbrev zM : Type := (Nat → Nat → Int) × (Nat → Nat → Int) × (Nat → Nat → Nat) × (Nat → Nat → UInt64)
def zI (μ : zM) (k i : Nat) : Int := μ.1 k i
def zL (μ : zM) (k i : Nat) : Int := μ.2.1 k i
def zR (μ : zM) (k i : Nat) : Nat := μ.2.2.1 k i
def zD (μ : zM) (k i : Nat) : UInt64 := μ.2.2.2 k i
def zsI (μ : zM) (k i : Nat) (v : Int) : zM := (fun a b => if a = k ∧ b = i then v else μ.1 a b, μ.2.1, μ.2.2.1, μ.2.2.2)
def zsL (μ : zM) (k i : Nat) (v : Int) : zM := (μ.1, fun a b => if a = k ∧ b = i then v else μ.2.1 a b, μ.2.2.1, μ.2.2.2)
def zsR (μ : zM) (k i : Nat) (v : Nat) : zM := (μ.1, μ.2.1, fun a b => if a = k ∧ b = i then v else μ.2.2.1 a b, μ.2.2.2)
def zsD (μ : zM) (k i : Nat) (v : UInt64) : zM := (μ.1, μ.2.1, μ.2.2.1, fun a b => if a = k ∧ b = i then v else μ.2.2.2 a b)
/-- n ints of the row src from place sp on come into the row dst from place dp on -/
def zcI (μ : zM) (src sp dst dp n : Nat) : zM := (fun a b => if a = dst ∧ dp ≤ b ∧ b < dp + n then μ.1 src (sp + (b - dp)) else μ.1 a b, μ.2.1, μ.2.2.1, μ.2.2.2)
/-- a new cell holds zeros -/
def zcl (μ : zM) (k : Nat) : zM := (fun a b => if a = k then 0 else μ.1 a b, fun a b => if a = k then 0 else μ.2.1 a b, fun a b => if a = k then 0 else μ.2.2.1 a b, fun a b => if a = k then 0 else μ.2.2.2 a b)
/-! THE CELLS AS THE MACHINE HAS THEM -/
def zRv (B r : Nat) : Value := if r = 0 then .null else .ref (B + r)
def zRo (B r : Nat) : Option Nat := if r = 0 then none else some (B + r)
theorem zRo_rf (B r : Nat) : va_rf (zRo B r) = zRv B r := by
  unfold zRo zRv
  split <;> rfl
theorem zRv_pos {B r : Nat} (h : r ≠ 0) : zRv B r = .ref (B + r) := if_neg h
def zFv (B : Nat) (μ : zM) (k j ty : Nat) : Value := match ty with
  | 0 => .int (zi (zI μ k j))
  | 1 => .long (zl (zL μ k j))
  | _ => zRv B (zR μ k j)
def zFs (B : Nat) (μ : zM) (k : Nat) (tys : List Nat) : List Value := tys.mapIdx (fun j ty => zFv B μ k j ty)
def zCe (dA : Nat → ClassId) (B : Nat) (μ : zM) (k kd n : Nat) : va_E :=
  if kd = 100 then .inl (dA 0, n, .inl (fun i => zi (zI μ k i)))
  else if kd = 101 then .inl (dA 1, n, .inl (fun i => zi (zI μ k i)))
  else if kd = 102 then .inl (dA 2, n, .inr (.inl (fun i => zl (zL μ k i))))
  else if kd = 103 then .inl (dA 3, n, .inr (.inr (.inr (.inl (zD μ k)))))
  else if kd = 104 then .inl (dA 4, n, .inr (.inr (.inr (.inr (fun i => zRo B (zR μ k i))))))
  else if kd = 105 then .inl (dA 5, n, .inr (.inr (.inr (.inr (fun i => zRo B (zR μ k i))))))
  else .inr (kd, zFs B μ k (zTy kd))
def zWl (dA : Nat → ClassId) (B n : Nat) (μ : zM) : va_W := (List.range n).map (fun i => (B + (i + 1), zCe dA B μ (i + 1) (zkd (i + 1)) (zln (i + 1))))
theorem zWl_at {dA : Nat → ClassId} {B n : Nat} {μ : zM} {k : Nat} (h0 : 0 < k) (h1 : k ≤ n) : (zWl dA B n μ)[k - 1]? = some (B + k, zCe dA B μ k (zkd k) (zln k)) := by
  unfold zWl
  rw [List.getElem?_map, List.getElem?_range (by omega)]
  have e : k - 1 + 1 = k := by omega
  simp only [Option.map_some, e]
theorem zWl_set {dA : Nat → ClassId} {B n : Nat} {μ μ' : zM} {k : Nat} (h0 : 0 < k) (h : ∀ j, j ≠ k → zCe dA B μ' j (zkd j) (zln j) = zCe dA B μ j (zkd j) (zln j)) : (zWl dA B n μ).set (k - 1) (B + k, zCe dA B μ' k (zkd k) (zln k)) = zWl dA B n μ' := by
  apply List.ext_getElem?
  intro i
  unfold zWl
  rw [List.getElem?_set]
  by_cases hik : k - 1 = i
  · subst hik
    have e : k - 1 + 1 = k := by omega
    by_cases hn : k - 1 < n
    · rw [if_pos rfl, List.getElem?_map, List.getElem?_range hn]
      simp [e, hn]
    · rw [if_pos rfl, List.getElem?_map, List.getElem?_eq_none (by simpa using Nat.not_lt.mp hn)]
      simp [hn]
  · rw [if_neg hik, List.getElem?_map, List.getElem?_map]
    by_cases hn : i < n
    · rw [List.getElem?_range hn]
      simp only [Option.map_some]
      rw [h (i + 1) (by omega)]
    · rw [List.getElem?_eq_none (by simpa using Nat.not_lt.mp hn)]
      rfl
theorem zWl_push {dA : Nat → ClassId} {B n : Nat} {μ : zM} : zWl dA B (n + 1) μ = zWl dA B n μ ++ [(B + (n + 1), zCe dA B μ (n + 1) (zkd (n + 1)) (zln (n + 1)))] := by
  unfold zWl
  rw [List.range_succ, List.map_append]
  rfl
theorem zWl_eq {dA : Nat → ClassId} {B n : Nat} {μ μ' : zM} (h : ∀ j, 0 < j → j ≤ n → zCe dA B μ' j (zkd j) (zln j) = zCe dA B μ j (zkd j) (zln j)) : zWl dA B n μ = zWl dA B n μ' := by
  apply List.ext_getElem?
  intro i
  unfold zWl
  rw [List.getElem?_map, List.getElem?_map]
  by_cases hn : i < n
  · rw [List.getElem?_range hn]
    simp only [Option.map_some]
    rw [h (i + 1) (by omega) (by omega)]
  · rw [List.getElem?_eq_none (by simpa using Nat.not_lt.mp hn)]
    rfl
theorem zWl_D {dA : Nat → ClassId} {B n : Nat} {μ : zM} : va_D (fun q : Nat => B < q) (zWl dA B n μ) := by
  have key : ∀ (i : Nat) (p : Nat × va_E), (zWl dA B n μ)[i]? = some p → p.1 = B + (i + 1) := by
    intro i p h
    unfold zWl at h
    rw [List.getElem?_map] at h
    by_cases hn : i < n
    · rw [List.getElem?_range hn] at h
      simp only [Option.map_some] at h
      cases h
      rfl
    · rw [List.getElem?_eq_none (by simpa using Nat.not_lt.mp hn)] at h
      cases h
  refine ⟨fun i j p q hi hj e => ?_, fun k q hk => ?_⟩
  · have h1 := key i p hi
    have h2 := key j q hj
    omega
  · have h1 := key k q hk
    show B < q.1
    omega
theorem zkd_le {k : Nat} (h : zkd k ≠ 999) : 0 < k ∧ k ≤ zN := by
  refine ⟨?_, ?_⟩
  · rcases Nat.eq_zero_or_pos k with e | e
    · subst e; exact absurd rfl h
    · exact e
  · apply Nat.le_of_not_lt
    intro q
    apply h
    have hl : zLay.length = zN + 1 := by decide +kernel
    unfold zkd
    rw [List.getD_eq_getElem?_getD, List.getElem?_eq_none (by omega)]
    rfl
/-! WHAT THE TABLES SAY OF THE CLASSES, AND THE REST OF THE WORLD THAT NEVER CHANGES -/
abbrev zZ : Type := va_G × (Nat → ClassId) × Nat × (Nat → Nat) × (Nat → Nat)
def zTys (dA : Nat → ClassId) : List (ClassId × FieldType) := [(dA 0, .int), (dA 1, .boolean), (dA 2, .long), (dA 3, .double), (dA 4, .object RX3), (dA 5, .object RX2)]
def zStr : List (String × Nat × String) := zStrL
/-- the words that the readers look for: ordinary Strings of Latin letters, outside of the cells -/
def zSc (B : Nat) (adS adV : Nat → Nat) (U : State) (H : Heap) : Prop := ∀ (i : Nat) (b : List Int32), (i, b) ∈ zScL → va_O "java/lang/String" (adS i) (fun q : Nat => B < q) U H ∧ va_OF "java/lang/String" "coder" "B" (.int 0) (adS i) (fun q : Nat => B < q) U H ∧ va_OF "java/lang/String" "value" "[B" (.ref (adV i)) (adS i) (fun q : Nat => B < q) U H ∧ va_T .byte (adV i) b.length (fun j => .int (b.getD j 0)) (fun q : Nat => B < q) U H
theorem zSc.moved {B : Nat} {adS adV : Nat → Nat} {u U : State} {H : Heap} (hvm : u.vm.Alike U.vm) (h : zSc B adS adV u H) : zSc B adS adV U H :=
  fun i b hi => ⟨va_O.moved hvm (h i b hi).1, va_OF.moved hvm (h i b hi).2.1, va_OF.moved hvm (h i b hi).2.2.1, va_T.moved hvm (h i b hi).2.2.2⟩
theorem zSc.kept {B : Nat} {adS adV : Nat → Nat} {U : State} {H H1 : Heap} (h : zSc B adS adV U H) (hq : ∀ a : Nat, a < H.size → ¬ B < a → H1[a]? = H[a]?) : zSc B adS adV U H1 :=
  fun i b hi => ⟨(h i b hi).1.kept hq, (h i b hi).2.1.kept hq, (h i b hi).2.2.1.kept hq, (h i b hi).2.2.2.kept hq⟩
def zNwk : Cond → Bool
  | .fieldLinkNest .. | .methodLinkNest .. | .castable .. | .declares _ => true
  | _ => false
theorem zNw_k : ∀ w ∈ zNw, zNwk w = true := by decide +kernel
theorem zNwk_tabs {w : Cond} (h : zNwk w = true) : w.onTables = true := by
  cases w <;> first | rfl | (simp [zNwk] at h)
theorem zNw_warm {s U : State} (hW : s.WarmedH U.vm) (h : ∀ w ∈ zNw, va_Nw w s) : ∀ w ∈ zNw, va_Nw w U := by
  intro w hw
  have h1 := h w hw
  have h2 := zNw_k w hw
  cases w <;> first | exact va_Nw.warmF hW h1 | exact va_Nw.warmM hW h1 | exact va_Nw.warmC hW h1 | exact va_Nw.warmD hW h1 | (simp [zNwk] at h2)
def zKw (Z : zZ) (U : State) : Prop := va_K Z.1 zCl (zTys Z.2.1) U ∧ vx_Zq Bundle.tN "UNASSIGNED_STACK" Bundle.steD (fun q : Nat => Z.2.2.1 < q) U U.heap ∧ vx_Zq Bundle.tN "SUPPRESSED_SENTINEL" Bundle.listD (fun q : Nat => Z.2.2.1 < q) U U.heap ∧ (∀ (i : Nat) (q : String × Nat × String), zStr[i]? = some q → vk_R q.1 q.2.1 q.2.2 (Z.2.2.2.1 i) U) ∧ zSc Z.2.2.1 Z.2.2.2.1 Z.2.2.2.2 U U.heap ∧ Z.2.2.1 < U.heap.size ∧ (∀ w ∈ zNw, va_Nw w U) ∧ (∀ q ∈ zNcL, va_Nc q.1 q.2 U) ∧ va_Z "java/lang/String" "COMPACT_STRINGS" "Z" (.int 1) (fun q : Nat => Z.2.2.1 < q) U U.heap ∧ va_Zq "jdk/internal/util/Preconditions" "SIOOBE_FORMATTER" "Ljava/util/function/BiFunction;" (fun q : Nat => Z.2.2.1 < q) U U.heap
theorem zKw.warm {Z : zZ} {s t : State} (h : zKw Z s) (hW : s.WarmedH t.vm) (hF : va_F (fun q : Nat => Z.2.2.1 < q) s t) : zKw Z t := by
  obtain ⟨h1, h2, h3, h4, h6, h5, h7, h8, h9, h10⟩ := h
  exact ⟨va_K.moved hW.alike h1, vx_Zq.moved hW.alike (h2.kept (fun a h1 h2 => hF.2 a h1 h2)), vx_Zq.moved hW.alike (h3.kept (fun a h1 h2 => hF.2 a h1 h2)), fun i q hq => vk_R.warm hW (h4 i q hq), zSc.moved hW.alike (h6.kept (fun a h1 h2 => hF.2 a h1 h2)), Nat.lt_of_lt_of_le h5 hF.1, zNw_warm hW h7, fun q hq => (h8 q hq).moved hW.alike, va_Z.moved hW.alike (h9.kept (fun a h1 h2 => hF.2 a h1 h2)), va_Zq.moved hW.alike (h10.kept (fun a h1 h2 => hF.2 a h1 h2))⟩
theorem zKw.blind {Z : zZ} {a : Array Value} {U : State} {g : JFrame} {mk : MethodId} (h : zKw Z U) : zKw Z (U.calling g mk a) := by
  obtain ⟨h1, h2, h3, h4, h6, h5, h7, h8, h9, h10⟩ := h
  have hA : U.vm.Alike (U.calling g mk a).vm := Vm.Alike.refl U.vm
  exact ⟨va_K.moved (u := U) hA h1, vx_Zq.moved (u := U) hA h2, vx_Zq.moved (u := U) hA h3, fun i q hq => vk_R.same (u := U) rfl (h4 i q hq), zSc.moved (u := U) hA h6, h5, fun w hw => va_Nw.same (zNwk_tabs (zNw_k w hw)) (u := U) rfl (h7 w hw), fun q hq => va_Nc.moved (u := U) hA (h8 q hq), va_Z.moved (u := U) hA h9, va_Zq.moved (u := U) hA h10⟩
/-! THE JUDGEMENT: from this frame on, over this memory, the method comes to an end that F says of the answer -/
abbrev zK : Type := Program × Launch × Env × Room × State × MethodId × Array Value × List Frame × Method × Code
abbrev zRes (σ : Type) : Type := (String ⊕ Option Value) × σ × Prop
def zG (K : zK) (Z : zZ) {σ α : Type} (Ω : σ → Heap → Prop) (F : α → State → Prop) (cb sb pc : Nat) (lv : List (Nat × Value)) (st : List Value) (μ : σ) (res : Option α) : Prop :=
  ∀ a, res = some a → ∀ (H : Heap) (locs : List Loc) (ls : Array Slot) (cells slots : Nat), Ω μ H → va_S (fun q : Nat => Z.2.2.1 < q) K.2.2.2.2.1.heap H locs → lv_has ls K.2.2.2.2.2.2.2.2.2.maxLocals lv → cells + cb ≤ K.2.2.2.1.cells → slots + sb ≤ K.2.2.2.1.slots →
    W K.1 K.2.1 K.2.2.1 K.2.2.2.1 K.2.2.2.2.1 K.2.2.2.2.2.1 K.2.2.2.2.2.2.1 K.2.2.2.2.2.2.2.1 K.2.2.2.2.2.2.2.2.1 K.2.2.2.2.2.2.2.2.2 H locs cells slots (F a) (F0 K.2.2.2.2.2.1 pc ls st)
/-- a method's frame: its machine, its code, its class, its room -/
def zOk (K : zK) (Z : zZ) (cc : ByteArray) (own : String) (nL : Nat) (ret : Option FieldType) (fr lo mc ms : Nat) : Prop :=
  K.1.tables.exec = Jvm.exec ∧ K.2.2.2.2.2.2.2.2.2.code = cc ∧ K.2.2.2.2.2.2.2.2.2.maxLocals = nL ∧ K.2.2.2.2.1.vm.findClass own = some K.2.2.2.2.2.1.cls ∧ (∀ w ∈ zGood, w.before K.2.2.2.2.2.2.1 K.2.2.2.2.1 = true) ∧ K.2.2.2.2.2.2.2.2.1.locks = false ∧ zKw Z K.2.2.2.2.1 ∧ K.2.2.2.1 = { frames := fr, cells := mc, slots := ms, locals := lo } ∧ K.2.1.stackTraces = false ∧ K.2.2.2.2.2.2.2.2.1.sig.returnType = ret
/-- what a method answers -/
def zQ (Z : zZ) {σ : Type} (Ω : σ → Heap → Prop) (r : zRes σ) : Array Value → State → Outcome → State → Prop := fun _ st oc t => (∃ v, r.1 = .inr v ∧ oc = .returned v ∧ Ω r.2.1 t.heap ∧ r.2.2) ∧ va_F (fun q : Nat => Z.2.2.1 < q) st t
def zXC (Z : zZ) {σ : Type} (Ω : σ → Heap → Prop) (r : zRes σ) : String → State → State → Prop := fun E st t => r.1 = .inl E ∧ Ω r.2.1 t.heap ∧ va_F (fun q : Nat => Z.2.2.1 < q) st t
def zws (w : Cond) : List Cond := w :: zGood
def zCt (l : Launch) (Z : zZ) {σ : Type} (Ω : σ → Heap → Prop) (y : MethodName) (ws : List Cond) (rm : Room) (av : List Value) (μ : σ) (r : zRes σ) : Prop :=
  vx_Met l y ws rm (va_Pc av (fun U => Ω μ U.heap ∧ zKw Z U)) (zQ Z Ω r) (zXC Z Ω r) rm.cells rm.slots (fun q : Nat => Z.2.2.1 < q)
def zF (K : zK) (Z : zZ) {σ α : Type} (Ω : σ → Heap → Prop) (enc : α → zRes σ) : α → State → Prop := fun a =>
  vx_MQ K.2.2.2.2.2.2.2.1 (zQ Z Ω (enc a)) (zXC Z Ω (enc a)) K.2.2.2.2.2.2.1 K.2.2.2.2.1 K.2.2.2.1.cells K.2.2.2.1.slots (fun q : Nat => Z.2.2.1 < q)
