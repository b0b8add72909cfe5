/-! THE PURE SIDE'S MEMORY: cell k, slot i; ints (booleans, too), longs, references (0: null, else the cell's number), doubles -/
abbrev zM : Type := (Nat → Nat → Int32) × (Nat → Nat → Int64) × (Nat → Nat → Nat) × (Nat → Nat → UInt64)
def zI (μ : zM) (k i : Nat) : Int32 := μ.1 k i
def zL (μ : zM) (k i : Nat) : Int64 := μ.2.1 k i
def zR (μ : zM) (k i : Nat) : Nat := μ.2.2.1 k i
def zD (μ : zM) (k i : Nat) : UInt64 := μ.2.2.2 k i
def zsI (μ : zM) (k i : Nat) (v : Int32) : zM := (fun a b => if a = k ∧ b = i then v else μ.1 a b, μ.2.1, μ.2.2.1, μ.2.2.2)
def zsL (μ : zM) (k i : Nat) (v : Int64) : zM := (μ.1, fun a b => if a = k ∧ b = i then v else μ.2.1 a b, μ.2.2.1, μ.2.2.2)
def zsR (μ : zM) (k i : Nat) (v : Nat) : zM := (μ.1, μ.2.1, fun a b => if a = k ∧ b = i then v else μ.2.2.1 a b, μ.2.2.2)
def zsD (μ : zM) (k i : Nat) (v : UInt64) : zM := (μ.1, μ.2.1, μ.2.2.1, fun a b => if a = k ∧ b = i then v else μ.2.2.2 a b)
/-- n ints of the row src from place sp on come into the row dst from place dp on -/
def zcI (μ : zM) (src sp dst dp n : Nat) : zM := (fun a b => if a = dst ∧ dp ≤ b ∧ b < dp + n then μ.1 src (sp + (b - dp)) else μ.1 a b, μ.2.1, μ.2.2.1, μ.2.2.2)
/-- a new cell holds zeros -/
def zcl (μ : zM) (k : Nat) : zM := (fun a b => if a = k then 0 else μ.1 a b, fun a b => if a = k then 0 else μ.2.1 a b, fun a b => if a = k then 0 else μ.2.2.1 a b, fun a b => if a = k then 0 else μ.2.2.2 a b)
/-! THE CELLS AS THE MACHINE HAS THEM -/
def zRv (B r : Nat) : Value := if r = 0 then .null else .ref (B + r)
def zRo (B r : Nat) : Option Nat := if r = 0 then none else some (B + r)
theorem zRo_rf (B r : Nat) : va_rf (zRo B r) = zRv B r := by
  unfold zRo zRv
  split <;> rfl
theorem zRv_pos {B r : Nat} (h : r ≠ 0) : zRv B r = .ref (B + r) := if_neg h
def zFv (B : Nat) (μ : zM) (k j ty : Nat) : Value := match ty with
  | 0 => .int (zI μ k j)
  | 1 => .long (zL μ k j)
  | _ => zRv B (zR μ k j)
def zFs (B : Nat) (μ : zM) (k : Nat) (tys : List Nat) : List Value := tys.mapIdx (fun j ty => zFv B μ k j ty)
def zCe (dA : Nat → ClassId) (B : Nat) (μ : zM) (k kd n : Nat) : va_E :=
  if kd = 100 then .inl (dA 0, n, .inl (zI μ k))
  else if kd = 101 then .inl (dA 1, n, .inl (zI μ k))
  else if kd = 102 then .inl (dA 2, n, .inr (.inl (zL μ k)))
  else if kd = 103 then .inl (dA 3, n, .inr (.inr (.inr (.inl (zD μ k)))))
  else if kd = 104 then .inl (dA 4, n, .inr (.inr (.inr (.inr (fun i => zRo B (zR μ k i))))))
  else if kd = 105 then .inl (dA 5, n, .inr (.inr (.inr (.inr (fun i => zRo B (zR μ k i))))))
  else .inr (kd, zFs B μ k (zTy kd))
def zWl (dA : Nat → ClassId) (B n : Nat) (μ : zM) : va_W := (List.range n).map (fun i => (B + (i + 1), zCe dA B μ (i + 1) (zkd (i + 1)) (zln (i + 1))))
theorem zWl_at {dA : Nat → ClassId} {B n : Nat} {μ : zM} {k : Nat} (h0 : 0 < k) (h1 : k ≤ n) : (zWl dA B n μ)[k - 1]? = some (B + k, zCe dA B μ k (zkd k) (zln k)) := by
  unfold zWl
  rw [List.getElem?_map, List.getElem?_range (by omega)]
  have e : k - 1 + 1 = k := by omega
  simp only [Option.map_some, e]
theorem zWl_set {dA : Nat → ClassId} {B n : Nat} {μ μ' : zM} {k : Nat} (h0 : 0 < k) (h : ∀ j, j ≠ k → zCe dA B μ' j (zkd j) (zln j) = zCe dA B μ j (zkd j) (zln j)) : (zWl dA B n μ).set (k - 1) (B + k, zCe dA B μ' k (zkd k) (zln k)) = zWl dA B n μ' := by
  apply List.ext_getElem?
  intro i
  unfold zWl
  rw [List.getElem?_set]
  by_cases hik : k - 1 = i
  · subst hik
    have e : k - 1 + 1 = k := by omega
    by_cases hn : k - 1 < n
    · rw [if_pos rfl, List.getElem?_map, List.getElem?_range hn]
      simp [e, hn]
    · rw [if_pos rfl, List.getElem?_map, List.getElem?_eq_none (by simpa using Nat.not_lt.mp hn)]
      simp [hn]
  · rw [if_neg hik, List.getElem?_map, List.getElem?_map]
    by_cases hn : i < n
    · rw [List.getElem?_range hn]
      simp only [Option.map_some]
      rw [h (i + 1) (by omega)]
    · rw [List.getElem?_eq_none (by simpa using Nat.not_lt.mp hn)]
      rfl
theorem zWl_push {dA : Nat → ClassId} {B n : Nat} {μ : zM} : zWl dA B (n + 1) μ = zWl dA B n μ ++ [(B + (n + 1), zCe dA B μ (n + 1) (zkd (n + 1)) (zln (n + 1)))] := by
  unfold zWl
  rw [List.range_succ, List.map_append]
  rfl
theorem zWl_eq {dA : Nat → ClassId} {B n : Nat} {μ μ' : zM} (h : ∀ j, 0 < j → j ≤ n → zCe dA B μ' j (zkd j) (zln j) = zCe dA B μ j (zkd j) (zln j)) : zWl dA B n μ = zWl dA B n μ' := by
  apply List.ext_getElem?
  intro i
  unfold zWl
  rw [List.getElem?_map, List.getElem?_map]
  by_cases hn : i < n
  · rw [List.getElem?_range hn]
    simp only [Option.map_some]
    rw [h (i + 1) (by omega) (by omega)]
  · rw [List.getElem?_eq_none (by simpa using Nat.not_lt.mp hn)]
    rfl
theorem zWl_D {dA : Nat → ClassId} {B n : Nat} {μ : zM} : va_D (fun q : Nat => B < q) (zWl dA B n μ) := by
  have key : ∀ (i : Nat) (p : Nat × va_E), (zWl dA B n μ)[i]? = some p → p.1 = B + (i + 1) := by
    intro i p h
    unfold zWl at h
    rw [List.getElem?_map] at h
    by_cases hn : i < n
    · rw [List.getElem?_range hn] at h
      simp only [Option.map_some] at h
      cases h
      rfl
    · rw [List.getElem?_eq_none (by simpa using Nat.not_lt.mp hn)] at h
      cases h
  refine ⟨fun i j p q hi hj e => ?_, fun k q hk => ?_⟩
  · have h1 := key i p hi
    have h2 := key j q hj
    omega
  · have h1 := key k q hk
    show B < q.1
    omega
theorem zkd_le {k : Nat} (h : zkd k ≠ 999) : 0 < k ∧ k ≤ zN := by
  refine ⟨?_, ?_⟩
  · rcases Nat.eq_zero_or_pos k with e | e
    · subst e; exact absurd rfl h
    · exact e
  · apply Nat.le_of_not_lt
    intro q
    apply h
    have hl : zLay.length = zN + 1 := by decide +kernel
    unfold zkd
    rw [List.getD_eq_getElem?_getD, List.getElem?_eq_none (by omega)]
    rfl
/-! WHAT THE TABLES SAY OF THE CLASSES, AND THE REST OF THE WORLD THAT NEVER CHANGES -/
abbrev zZ : Type := va_G × (Nat → ClassId) × Nat × (Nat → Nat) × (Nat → Nat)
def zTys (dA : Nat → ClassId) : List (ClassId × FieldType) := [(dA 0, .int), (dA 1, .boolean), (dA 2, .long), (dA 3, .double), (dA 4, .object RX3), (dA 5, .object RX2)]
def zStr : List (String × Nat × String) := zStrL
/-- the words that the readers look for: ordinary Strings of Latin letters, outside of the cells -/
def zSc (B : Nat) (adS adV : Nat → Nat) (U : State) (H : Heap) : Prop := ∀ (i : Nat) (b : List Int32), (i, b) ∈ zScL → va_O "java/lang/String" (adS i) (fun q : Nat => B < q) U H ∧ va_OF "java/lang/String" "coder" "B" (.int 0) (adS i) (fun q : Nat => B < q) U H ∧ va_OF "java/lang/String" "value" "[B" (.ref (adV i)) (adS i) (fun q : Nat => B < q) U H ∧ va_T .byte (adV i) b.length (fun j => .int (b.getD j 0)) (fun q : Nat => B < q) U H
theorem zSc.moved {B : Nat} {adS adV : Nat → Nat} {u U : State} {H : Heap} (hvm : u.vm.Alike U.vm) (h : zSc B adS adV u H) : zSc B adS adV U H :=
  fun i b hi => ⟨va_O.moved hvm (h i b hi).1, va_OF.moved hvm (h i b hi).2.1, va_OF.moved hvm (h i b hi).2.2.1, va_T.moved hvm (h i b hi).2.2.2⟩
theorem zSc.kept {B : Nat} {adS adV : Nat → Nat} {U : State} {H H1 : Heap} (h : zSc B adS adV U H) (hq : ∀ a : Nat, a < H.size → ¬ B < a → H1[a]? = H[a]?) : zSc B adS adV U H1 :=
  fun i b hi => ⟨(h i b hi).1.kept hq, (h i b hi).2.1.kept hq, (h i b hi).2.2.1.kept hq, (h i b hi).2.2.2.kept hq⟩
def zNwk : Cond → Bool
  | .fieldLinkNest .. | .methodLinkNest .. | .castable .. | .declares _ => true
  | _ => false
theorem zNw_k : ∀ w ∈ zNw, zNwk w = true := by decide +kernel
theorem zNwk_tabs {w : Cond} (h : zNwk w = true) : w.onTables = true := by
  cases w <;> first | rfl | (simp [zNwk] at h)
theorem zNw_warm {s U : State} (hW : s.WarmedH U.vm) (h : ∀ w ∈ zNw, va_Nw w s) : ∀ w ∈ zNw, va_Nw w U := by
  intro w hw
  have h1 := h w hw
  have h2 := zNw_k w hw
  cases w <;> first | exact va_Nw.warmF hW h1 | exact va_Nw.warmM hW h1 | exact va_Nw.warmC hW h1 | exact va_Nw.warmD hW h1 | (simp [zNwk] at h2)
def zKw (Z : zZ) (U : State) : Prop := va_K Z.1 zCl (zTys Z.2.1) U ∧ vx_Zq Bundle.tN "UNASSIGNED_STACK" Bundle.steD (fun q : Nat => Z.2.2.1 < q) U U.heap ∧ vx_Zq Bundle.tN "SUPPRESSED_SENTINEL" Bundle.listD (fun q : Nat => Z.2.2.1 < q) U U.heap ∧ (∀ (i : Nat) (q : String × Nat × String), zStr[i]? = some q → vk_R q.1 q.2.1 q.2.2 (Z.2.2.2.1 i) U) ∧ zSc Z.2.2.1 Z.2.2.2.1 Z.2.2.2.2 U U.heap ∧ Z.2.2.1 < U.heap.size ∧ (∀ w ∈ zNw, va_Nw w U) ∧ ∀ q ∈ zNcL, va_Nc q.1 q.2 U
theorem zKw.warm {Z : zZ} {s t : State} (h : zKw Z s) (hW : s.WarmedH t.vm) (hF : va_F (fun q : Nat => Z.2.2.1 < q) s t) : zKw Z t := by
  obtain ⟨h1, h2, h3, h4, h6, h5, h7, h8⟩ := h
  exact ⟨va_K.moved hW.alike h1, vx_Zq.moved hW.alike (h2.kept (fun a h1 h2 => hF.2 a h1 h2)), vx_Zq.moved hW.alike (h3.kept (fun a h1 h2 => hF.2 a h1 h2)), fun i q hq => vk_R.warm hW (h4 i q hq), zSc.moved hW.alike (h6.kept (fun a h1 h2 => hF.2 a h1 h2)), Nat.lt_of_lt_of_le h5 hF.1, zNw_warm hW h7, fun q hq => (h8 q hq).moved hW.alike⟩
theorem zKw.blind {Z : zZ} {a : Array Value} {U : State} {g : JFrame} {mk : MethodId} (h : zKw Z U) : zKw Z (U.calling g mk a) := by
  obtain ⟨h1, h2, h3, h4, h6, h5, h7, h8⟩ := h
  have hA : U.vm.Alike (U.calling g mk a).vm := Vm.Alike.refl U.vm
  exact ⟨va_K.moved (u := U) hA h1, vx_Zq.moved (u := U) hA h2, vx_Zq.moved (u := U) hA h3, fun i q hq => vk_R.same (u := U) rfl (h4 i q hq), zSc.moved (u := U) hA h6, h5, fun w hw => va_Nw.same (zNwk_tabs (zNw_k w hw)) (u := U) rfl (h7 w hw), fun q hq => va_Nc.moved (u := U) hA (h8 q hq)⟩
/-! THE JUDGEMENT: from this frame on, over this memory, the method comes to an end that F says of the answer -/
abbrev zK : Type := Program × Launch × Env × Room × State × MethodId × Array Value × List Frame × Method × Code
abbrev zRes (σ : Type) : Type := (String ⊕ Option Value) × σ
def zG (K : zK) (Z : zZ) {σ α : Type} (Ω : σ → Heap → Prop) (F : α → State → Prop) (cb sb pc : Nat) (lv : List (Nat × Value)) (st : List Value) (μ : σ) (res : Option α) : Prop :=
  ∀ a, res = some a → ∀ (H : Heap) (locs : List Loc) (ls : Array Slot) (cells slots : Nat), Ω μ H → va_S (fun q : Nat => Z.2.2.1 < q) K.2.2.2.2.1.heap H locs → lv_has ls K.2.2.2.2.2.2.2.2.2.maxLocals lv → cells + cb ≤ K.2.2.2.1.cells → slots + sb ≤ K.2.2.2.1.slots →
    W K.1 K.2.1 K.2.2.1 K.2.2.2.1 K.2.2.2.2.1 K.2.2.2.2.2.1 K.2.2.2.2.2.2.1 K.2.2.2.2.2.2.2.1 K.2.2.2.2.2.2.2.2.1 K.2.2.2.2.2.2.2.2.2 H locs cells slots (F a) (F0 K.2.2.2.2.2.1 pc ls st)
/-- a method's frame: its machine, its code, its class, its room -/
def zOk (K : zK) (Z : zZ) (cc : ByteArray) (own : String) (nL : Nat) (ret : Option FieldType) (fr lo mc ms : Nat) : Prop :=
  K.1.tables.exec = Jvm.exec ∧ K.2.2.2.2.2.2.2.2.2.code = cc ∧ K.2.2.2.2.2.2.2.2.2.maxLocals = nL ∧ K.2.2.2.2.1.vm.findClass own = some K.2.2.2.2.2.1.cls ∧ (∀ w ∈ zGood, w.before K.2.2.2.2.2.2.1 K.2.2.2.2.1 = true) ∧ K.2.2.2.2.2.2.2.2.1.locks = false ∧ zKw Z K.2.2.2.2.1 ∧ K.2.2.2.1 = { frames := fr, cells := mc, slots := ms, locals := lo } ∧ K.2.1.stackTraces = false ∧ K.2.2.2.2.2.2.2.2.1.sig.returnType = ret
/-- what a method answers -/
def zQ (Z : zZ) {σ : Type} (Ω : σ → Heap → Prop) (r : zRes σ) : Array Value → State → Outcome → State → Prop := fun _ st oc t => (∃ v, r.1 = .inr v ∧ oc = .returned v ∧ Ω r.2 t.heap) ∧ va_F (fun q : Nat => Z.2.2.1 < q) st t
def zXC (Z : zZ) {σ : Type} (Ω : σ → Heap → Prop) (r : zRes σ) : String → State → State → Prop := fun E st t => r.1 = .inl E ∧ Ω r.2 t.heap ∧ va_F (fun q : Nat => Z.2.2.1 < q) st t
def zws (w : Cond) : List Cond := w :: zGood
def zCt (l : Launch) (Z : zZ) {σ : Type} (Ω : σ → Heap → Prop) (y : MethodName) (ws : List Cond) (rm : Room) (av : List Value) (μ : σ) (r : zRes σ) : Prop :=
  vx_Met l y ws rm (va_Pc av (fun U => Ω μ U.heap ∧ zKw Z U)) (zQ Z Ω r) (zXC Z Ω r) rm.cells rm.slots (fun q : Nat => Z.2.2.1 < q)
def zF (K : zK) (Z : zZ) {σ α : Type} (Ω : σ → Heap → Prop) (enc : α → zRes σ) : α → State → Prop := fun a =>
  vx_MQ K.2.2.2.2.2.2.2.1 (zQ Z Ω (enc a)) (zXC Z Ω (enc a)) K.2.2.2.2.2.2.1 K.2.2.2.2.1 K.2.2.2.1.cells K.2.2.2.1.slots (fun q : Nat => Z.2.2.1 < q)
