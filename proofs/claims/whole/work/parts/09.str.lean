def ys_len : MethodName := ⟨"java/lang/String", "length", "()I"⟩
abbrev bs_len : ByteArray := prog_20_method_54_code
def ys_cod : MethodName := ⟨"java/lang/String", "coder", "()B"⟩
abbrev bs_cod : ByteArray := prog_20_method_152_code
def ys_lat : MethodName := ⟨"java/lang/String", "isLatin1", "()Z"⟩
abbrev bs_lat : ByteArray := prog_20_method_154_code
def ys_cha : MethodName := ⟨"java/lang/String", "charAt", "(I)C"⟩
abbrev bs_cha : ByteArray := prog_20_method_56_code
def ys_lch : MethodName := ⟨"java/lang/StringLatin1", "charAt", "([BI)C"⟩
abbrev bs_lch : ByteArray := prog_21_method_2_code
def ys_chk : MethodName := ⟨"java/lang/String", "checkIndex", "(II)V"⟩
abbrev bs_chk : ByteArray := prog_20_method_155_code
def ys_pck : MethodName := ⟨"jdk/internal/util/Preconditions", "checkIndex", "(IILjava/util/function/BiFunction;)I"⟩
abbrev bs_pck : ByteArray := prog_28_method_11_code
theorem qs_len_c : Cond.code ys_len bs_len 1 (some .int) ∈ zGood := zin2 (List.mem_of_getElem? (i := 111) rfl) (by decide +kernel)
theorem qs_len_i : Cond.instanceMethod ys_len ∈ zGood := zin2 (List.mem_of_getElem? (i := 109) rfl) (by decide +kernel)
theorem qs_len_s : Cond.selects "java/lang/String" ys_len ys_len ∈ zGood := zin2 (List.mem_of_getElem? (i := 110) rfl) (by decide +kernel)
theorem qs_cod_c : Cond.code ys_cod bs_cod 1 (some .byte) ∈ zGood := zin2 (List.mem_of_getElem? (i := 115) rfl) (by decide +kernel)
theorem qs_cod_i : Cond.instanceMethod ys_cod ∈ zGood := zin2 (List.mem_of_getElem? (i := 113) rfl) (by decide +kernel)
theorem qs_cod_s : Cond.selects "java/lang/String" ys_cod ys_cod ∈ zGood := zin2 (List.mem_of_getElem? (i := 114) rfl) (by decide +kernel)
theorem qs_lat_c : Cond.code ys_lat bs_lat 1 (some .boolean) ∈ zGood := zin2 (List.mem_of_getElem? (i := 125) rfl) (by decide +kernel)
theorem qs_lat_i : Cond.instanceMethod ys_lat ∈ zGood := zin2 (List.mem_of_getElem? (i := 123) rfl) (by decide +kernel)
theorem qs_lat_s : Cond.selects "java/lang/String" ys_lat ys_lat ∈ zGood := zin2 (List.mem_of_getElem? (i := 124) rfl) (by decide +kernel)
theorem qs_cha_c : Cond.code ys_cha bs_cha 2 (some .char) ∈ zGood := zin2 (List.mem_of_getElem? (i := 121) rfl) (by decide +kernel)
theorem qs_cha_i : Cond.instanceMethod ys_cha ∈ zGood := zin2 (List.mem_of_getElem? (i := 119) rfl) (by decide +kernel)
theorem qs_cha_s : Cond.selects "java/lang/String" ys_cha ys_cha ∈ zGood := zin2 (List.mem_of_getElem? (i := 120) rfl) (by decide +kernel)
theorem qs_lch_c : Cond.code ys_lch bs_lch 2 (some .char) ∈ zGood := zin2 (List.mem_of_getElem? (i := 128) rfl) (by decide +kernel)
theorem qs_lch_i : Cond.static ys_lch ∈ zGood := zin2 (List.mem_of_getElem? (i := 127) rfl) (by decide +kernel)
theorem qs_chk_c : Cond.code ys_chk bs_chk 2 none ∈ zGood := zin2 (List.mem_of_getElem? (i := 131) rfl) (by decide +kernel)
theorem qs_chk_i : Cond.static ys_chk ∈ zGood := zin2 (List.mem_of_getElem? (i := 130) rfl) (by decide +kernel)
theorem qs_pck_c : Cond.code ys_pck bs_pck 3 (some .int) ∈ zGood := zin2 (List.mem_of_getElem? (i := 136) rfl) (by decide +kernel)
theorem qs_pck_i : Cond.static ys_pck ∈ zGood := zin2 (List.mem_of_getElem? (i := 135) rfl) (by decide +kernel)
theorem qs_l_cod : Cond.methodLink "java/lang/String" 335 ys_cod ∈ zGood := zin2 (List.mem_of_getElem? (i := 112) rfl) (by decide +kernel)
theorem qs_l_lat : Cond.methodLink "java/lang/String" 492 ys_lat ∈ zGood := zin2 (List.mem_of_getElem? (i := 122) rfl) (by decide +kernel)
theorem qs_l_lch : Cond.methodLink "java/lang/String" 495 ys_lch ∈ zGood := zin2 (List.mem_of_getElem? (i := 126) rfl) (by decide +kernel)
theorem qs_l_chk : Cond.methodLink "java/lang/StringLatin1" 9 ys_chk ∈ zGood := zin2 (List.mem_of_getElem? (i := 129) rfl) (by decide +kernel)
theorem qs_l_pck : Cond.methodLink "java/lang/String" 1059 ys_pck ∈ zGood := zin2 (List.mem_of_getElem? (i := 134) rfl) (by decide +kernel)
theorem qs_l1_len : Cond.methodLink RX1 84 ys_len ∈ zGood := zin2 (List.mem_of_getElem? (i := 108) rfl) (by decide +kernel)
theorem qs_l1_cha : Cond.methodLink RX1 88 ys_cha ∈ zGood := zin2 (List.mem_of_getElem? (i := 118) rfl) (by decide +kernel)
theorem qs_l7_len : Cond.methodLink RX7 127 ys_len ∈ zGood := zin6 (List.mem_of_getElem? (i := 152) rfl) (by decide +kernel)
theorem qs_l7_cha : Cond.methodLink RX7 132 ys_cha ∈ zGood := zin6 (List.mem_of_getElem? (i := 153) rfl) (by decide +kernel)
theorem qs_iS : Cond.initialized "java/lang/String" ∈ zGood := zin1 (List.mem_of_getElem? (i := 14) rfl) (by decide +kernel)
theorem qs_iL : Cond.initialized "java/lang/StringLatin1" ∈ zGood := zin1 (List.mem_of_getElem? (i := 15) rfl) (by decide +kernel)
theorem qs_iP : Cond.initialized "jdk/internal/util/Preconditions" ∈ zGood := zin1 (List.mem_of_getElem? (i := 16) rfl) (by decide +kernel)
theorem qs_fv : Cond.fieldLink "java/lang/String" 9 "java/lang/String" "value" "[B" ∈ zGood := zin8 (List.mem_of_getElem? (i := 76) rfl) (by decide +kernel)
theorem qs_fc : Cond.fieldLink "java/lang/String" 15 "java/lang/String" "coder" "B" ∈ zGood := zin8 (List.mem_of_getElem? (i := 77) rfl) (by decide +kernel)
theorem qs_fz : Cond.fieldLink "java/lang/String" 38 "java/lang/String" "COMPACT_STRINGS" "Z" ∈ zGood := zin2 (List.mem_of_getElem? (i := 116) rfl) (by decide +kernel)
theorem qs_fp : Cond.fieldLink "java/lang/String" 1053 "jdk/internal/util/Preconditions" "SIOOBE_FORMATTER" "Ljava/util/function/BiFunction;" ∈ zGood := zin2 (List.mem_of_getElem? (i := 132) rfl) (by decide +kernel)
def zsB (i : Nat) : List Int32 := ((zScL.find? (fun q => q.1 == i)).map (fun q => q.2)).getD []
abbrev zsok (i : Nat) : Prop := (i, zsB i) ∈ zScL
def zslen (i : Nat) : Int := ((zsB i).length : Nat)
def zsch (i k : Nat) : Int := ((zsB i).getD k 0).toInt
theorem zs_all : ∀ q ∈ zScL, q.2.length < 100 ∧ ∀ x ∈ q.2, ((x &&& (255 : Int32)).toUInt32 % 65536).toInt32 = x ∧ narrow .char (.int x) = .int x := by decide +kernel
theorem zshr0 {x : Int} (h : zr x) : zshr x 0 = x := by
  unfold zshr
  have e : zi x >>> (zi 0 &&& 31) = zi x := by
    show zi x >>> (0 : Int32) = zi x
    simp
  rw [e, zi_toInt h]
section zRows9
variable {K : zK} {Z : zZ} {α : Type} {F : α → State → Prop} {cc : ByteArray} {own : String} {nL fr lo mc ms cb sb pc : Nat} {ret : Option FieldType} {lv : List (Nat × Value)} {st rest : List Value} {μ : zM} {res A : Option α}
theorem g_sval (hK : zOk K Z cc "java/lang/String" nL ret fr lo mc ms) {i : Nat} (hi : zsok i) (hd : decode cc pc = .ok (.getfield 9, 3)) (k : zG K Z (zΩ Z) F cb sb (pc + 3) lv (.ref (Z.2.2.2.2 i) :: st) μ res) : zG K Z (zΩ Z) F cb sb pc lv (.ref (Z.2.2.2.1 i) :: st) μ res := by
  intro a ha H locs ls cells slots hΩ hS hl hc hs
  exact vk_getf hK.1 hK.2.1 (hK.2.2.2.2.2.2.1.2.2.2.2.1 i _ hi).2.2.1 hS hK.2.2.2.1 (hK.2.2.2.2.1 _ qs_fv) (fun _ h => h) hd (k a ha H locs ls cells slots hΩ hS hl hc hs)
theorem g_scod (hK : zOk K Z cc "java/lang/String" nL ret fr lo mc ms) {i : Nat} (hi : zsok i) (hd : decode cc pc = .ok (.getfield 15, 3)) (k : zG K Z (zΩ Z) F cb sb (pc + 3) lv (.int (zi 0) :: st) μ res) : zG K Z (zΩ Z) F cb sb pc lv (.ref (Z.2.2.2.1 i) :: st) μ res := by
  intro a ha H locs ls cells slots hΩ hS hl hc hs
  exact vk_getf hK.1 hK.2.1 (hK.2.2.2.2.2.2.1.2.2.2.2.1 i _ hi).2.1 hS hK.2.2.2.1 (hK.2.2.2.2.1 _ qs_fc) (fun _ h => h) hd (k a ha H locs ls cells slots hΩ hS hl hc hs)
theorem g_sarl (hK : zOk K Z cc own nL ret fr lo mc ms) {i : Nat} (hi : zsok i) (hd : decode cc pc = .ok (.arraylength, 1)) (k : zG K Z (zΩ Z) F cb sb (pc + 1) lv (.int (zi (zslen i)) :: st) μ res) : zG K Z (zΩ Z) F cb sb pc lv (.ref (Z.2.2.2.2 i) :: st) μ res := by
  intro a ha H locs ls cells slots hΩ hS hl hc hs
  exact va_tlen hK.1 hK.2.1 (hK.2.2.2.2.2.2.1.2.2.2.2.1 i _ hi).2.2.2 hS (v := zi (zslen i)) rfl hd (k a ha H locs ls cells slots hΩ hS hl hc hs)
theorem g_sbal (hK : zOk K Z cc own nL ret fr lo mc ms) {i : Nat} {k9 : Int} (hi : zsok i) (h0 : 0 ≤ k9 ∧ k9 < zslen i) (hr : zr k9) (hd : decode cc pc = .ok (.baload, 1)) (k : zG K Z (zΩ Z) F cb sb (pc + 1) lv (.int ((zsB i).getD (zx k9) 0) :: st) μ res) : zG K Z (zΩ Z) F cb sb pc lv (.int (zi k9) :: .ref (Z.2.2.2.2 i) :: st) μ res := by
  intro a ha H locs ls cells slots hΩ hS hl hc hs
  exact va_tb hK.1 hK.2.1 (hK.2.2.2.2.2.2.1.2.2.2.2.1 i _ hi).2.2.2 hS (i := zi k9) (vp_in_iff.mpr (by rw [zi_toInt hr]; exact h0)) (v := .int ((zsB i).getD (zx k9) 0)) (by rw [zx_of h0.1 hr]) hd (k a ha H locs ls cells slots hΩ hS hl hc hs)
theorem g_scmp (hK : zOk K Z cc "java/lang/String" nL ret fr lo mc ms) (hd : decode cc pc = .ok (.getstatic 38, 3)) (k : zG K Z (zΩ Z) F cb sb (pc + 3) lv (.int (zi 1) :: st) μ res) : zG K Z (zΩ Z) F cb sb pc lv st μ res := by
  intro a ha H locs ls cells slots hΩ hS hl hc hs
  exact va_gets hK.1 hK.2.1 hK.2.2.2.2.2.2.1.2.2.2.2.2.2.2.2.1 hS hK.2.2.2.1 (hK.2.2.2.2.1 _ qs_fz) (fun _ h => h) hd (k a ha H locs ls cells slots hΩ hS hl hc hs)
theorem g_sfmt (hK : zOk K Z cc "java/lang/String" nL ret fr lo mc ms) (hd : decode cc pc = .ok (.getstatic 1053, 3)) (k : ∀ v : Value, v.category = 1 → zG K Z (zΩ Z) F cb sb (pc + 3) lv (v :: st) μ res) : zG K Z (zΩ Z) F cb sb pc lv st μ res := by
  intro a ha H locs ls cells slots hΩ hS hl hc hs
  rcases hK.2.2.2.2.2.2.1.2.2.2.2.2.2.2.2.2 with h | ⟨t, h⟩
  · exact va_gets hK.1 hK.2.1 h hS hK.2.2.2.1 (hK.2.2.2.2.1 _ qs_fp) (fun _ h => h) hd (k _ rfl a ha H locs ls cells slots hΩ hS hl hc hs)
  · exact va_gets hK.1 hK.2.1 h hS hK.2.2.2.1 (hK.2.2.2.2.1 _ qs_fp) (fun _ h => h) hd (k _ rfl a ha H locs ls cells slots hΩ hS hl hc hs)
theorem g_i2c (hK : zOk K Z cc own nL ret fr lo mc ms) {x v : Int32} (hv : (x.toUInt32 % 65536).toInt32 = v) (hd : decode cc pc = .ok (.i2c, 1)) (k : zG K Z (zΩ Z) F cb sb (pc + 1) lv (.int v :: st) μ res) : zG K Z (zΩ Z) F cb sb pc lv (.int x :: st) μ res := by
  intro a ha H locs ls cells slots hΩ hS hl hc hs
  exact lv_i2c hK.1 hK.2.1 hd hv (k a ha H locs ls cells slots hΩ hS hl hc hs)
theorem g_iandR (hK : zOk K Z cc own nL ret fr lo mc ms) {x y : Int32} (hd : decode cc pc = .ok (.iand, 1)) (k : zG K Z (zΩ Z) F cb sb (pc + 1) lv (.int (x &&& y) :: st) μ res) : zG K Z (zΩ Z) F cb sb pc lv (.int y :: .int x :: st) μ res := by
  intro a ha H locs ls cells slots hΩ hS hl hc hs
  exact lv_iand hK.1 hK.2.1 hd (k a ha H locs ls cells slots hΩ hS hl hc hs)
/-- an end with a number of any small kind -/
theorem g_nret (hK : zOk K Z cc own nL ret fr lo mc ms) {x : Int32} {ty : FieldType} {p9 : Prop} {enc : α → zRes zM} {a0 : α} (hp : p9) (hn : narrow ty (.int x) = .int x) (he : enc a0 = (.inr (some (.int x)), μ, p9)) (hret : ret = some ty) (hd : decode cc pc = .ok (.ireturn, 1)) : zG K Z (zΩ Z) (zF K Z (zΩ Z) enc) cb sb pc lv [.int x] μ (some a0) := by
  intro a ha H locs ls cells slots hΩ hS hl hc hs
  cases ha
  exact vx_ret (W.widen (k := K.2.2.2.1.cells) (n := K.2.2.2.1.slots) (by omega) (by omega) (W.zret hK.1 hK.2.1 (hK.2.2.2.2.2.2.2.2.2.trans hret) hn (fun t ht hW => ⟨⟨_, by rw [he], rfl, by rw [ht, he]; exact hΩ, by rw [he]; exact hp⟩, hS.F ht⟩) hS.2.2 hd (hlocks := hK.2.2.2.2.2.1)))
theorem zslen_r {i : Nat} (hi : zsok i) : zr (zslen i) := by
  have h := (zs_all _ hi).1
  show -2147483648 ≤ (((zsB i).length : Nat) : Int) ∧ (((zsB i).length : Nat) : Int) < 2147483648
  have h2 : (zsB i).length < 100 := h
  omega
theorem zs_get {i : Nat} {k : Int} (hi : zsok i) (h0 : 0 ≤ k) (h1 : k < zslen i) : ((((zsB i).getD (zx k) 0) &&& (255 : Int32)).toUInt32 % 65536).toInt32 = (zsB i).getD (zx k) 0 ∧ narrow .char (.int ((zsB i).getD (zx k) 0)) = .int ((zsB i).getD (zx k) 0) := by
  have h2 : zx k < (zsB i).length := by
    have h3 : k < (((zsB i).length : Nat) : Int) := h1
    show k.toNat < _
    omega
  have h4 : (zsB i).getD (zx k) 0 ∈ zsB i := by
    rw [List.getD_eq_getElem?_getD, List.getElem?_eq_getElem h2]
    exact List.getElem_mem h2
  exact (zs_all _ hi).2 _ h4
theorem g_callW0 (hK : zOk K Z cc own nL ret fr lo mc ms) {y : MethodName} {bytes : ByteArray} {maxL index n : Nat} {rt : Option FieldType} {rm : Room} {β : Type} {resC : Option β} {encC : β → zRes zM} {C : String} {b : Nat} {As : List Value} (hct : ∀ x, resC = some x → zCt K.2.1 Z (zΩ Z) y (zws (.code y bytes maxL rt)) rm (.ref b :: As) μ (encC x)) (hyC : y.cls = C) (hrc : ∀ (H : Heap) (locs : List Loc), va_S (fun q : Nat => Z.2.2.1 < q) K.2.2.2.2.1.heap H locs → ∃ cell : Cell, H[b]? = some cell ∧ cell.vm.isStatics = false ∧ K.2.2.2.2.1.vm.findClass C = some cell.cls) (w1 : Cond.methodLink own index y ∈ zGood) (w2 : Cond.instanceMethod y ∈ zGood) (w3 : Cond.selects C y y ∈ zGood) (w4 : Cond.initialized C ∈ zGood) (w5 : Cond.code y bytes maxL rt ∈ zGood) (hAs : As.length = n) (hn : (parseMethodDescriptor y.desc).map (fun d => d.parameters.length) = some n) (hy : y.cls ≠ "java/lang/invoke/MethodHandle" ∧ y.cls ≠ "java/lang/invoke/VarHandle") (hfr : rm.frames + 1 ≤ fr) (hlo : 8 + (maxL + 11) + rm.locals ≤ lo) (hcat : (rest.map fun v => v.category).sum ≤ 8) (hst : st = As.reverse ++ .ref b :: rest) (hd : decode cc pc = .ok (.invokevirtual index, 3))
    (kk : ∀ a, res = some a → ∃ x, resC = some x ∧ (∀ v, (encC x).1 = .inr v → (encC x).2.2 → zG K Z (zΩ Z) F cb sb (pc + 3) lv (v.toList ++ rest) (encC x).2.1 (some a)) ∧ (∀ E, (encC x).1 = .inl E → zT K Z (zΩ Z) F cb sb pc lv rest (encC x).2.1 E a)) : zG K Z (zΩ Z) F (cb + rm.cells) (sb + rm.slots) pc lv st μ res := by
  intro a ha H locs ls cells slots hΩ hS hl hc hs
  have hKw := hK.2.2.2.2.2.2.1
  have hR : K.2.2.2.1 = { frames := fr, cells := mc, slots := ms, locals := lo } := hK.2.2.2.2.2.2.2.1
  have hroom : rm.frames + 1 ≤ K.2.2.2.1.frames ∧ 8 + (maxL + 11) + rm.locals ≤ K.2.2.2.1.locals := by rw [hR]; exact ⟨hfr, hlo⟩
  obtain ⟨x, hx, k1, k2⟩ := kk a ha
  have hM := hct x hx
  have hkw : ∀ U : State, U.heap = H → K.2.2.2.2.1.WarmedH U.vm → zKw Z U := fun U hU hW => hKw.warm hW (hS.F hU)
  have hgi : GoodIn zGood (wsV own index C y (zws (.code y bytes maxL rt))) := zgood_in (fun w hw => by
    unfold wsV at hw
    rcases List.mem_append.mp hw with h | h
    · simp only [List.mem_cons, List.not_mem_nil, or_false] at h
      rcases h with rfl | rfl | rfl | rfl
      · exact w1
      · exact w2
      · exact w3
      · exact w4
    · exact zws_in w5 w h)
  have hrun := vx_runV (C := C) (b := b) (As := As) (rest := rest) (cells := cells) (slots := slots) (locs := locs) (below := K.2.2.2.2.2.2.2.1) (e := K.2.2.1) (meth := K.2.2.2.2.2.2.2.2.1) (g := F0 K.2.2.2.2.2.1 pc ls st) ⟨hK.1, hK.2.1, hK.2.2.1, hK.2.2.2.1, hK.2.2.2.2.1⟩ hM (cwV n hK.2.2.2.2.1 hgi rfl rfl rfl ⟨hyC, hy.1, hy.2, hn⟩ hroom) ⟨zblind, hrc H locs hS, fun U hU hW => ⟨rfl, by rw [hU]; exact hΩ, hkw U hU hW⟩⟩ rfl hAs (hl.1.trans hK.2.2.1) hst (lv_room hcat) hd ⟨by omega, by omega⟩
  intro T hT X
  rcases hrun T hT X with ⟨v, st₀, t, T', L, h0, X', hL, e1, e2, ⟨⟨v', hv1, hv2, hw, hrg⟩, hF⟩, stp⟩ | ⟨q, st₀, t, T', L, E, ce, h0, X', hL, e1, e2, ⟨hv1, hw, hF⟩, hce, hcv, hcl, stp⟩
  · cases hv2
    obtain ⟨g1, g2, g3⟩ := vx_keep h0 e1 hS (fun q _ h => h) (fun q h => h) hL hF
    obtain ⟨t2, a1, b1⟩ := k1 v hv1 hrg a rfl T'.heap (locs ++ L) ls (cells + rm.cells) (slots + rm.slots) (by rw [e1]; exact hw) g3 hl (by omega) (by omega) T' rfl X'
    exact ⟨t2, stp t2 a1, b1⟩
  · obtain ⟨g1, g2, g3⟩ := vx_keep h0 e1 hS (fun q _ h => h) (fun q h => h) hL hF
    obtain ⟨t2, a1, b1⟩ := k2 E hv1 T'.heap (locs ++ L) ls (cells + rm.cells) (slots + rm.slots) q ce (by rw [e1]; exact hw) g3 hl (by omega) (by omega) (by rw [e1]; exact hce) hcv hcl T' rfl X'
    exact ⟨t2, stp.trans a1, b1⟩
theorem zs_recv (hK : zOk K Z cc own nL ret fr lo mc ms) {i : Nat} (hi : zsok i) : ∀ (H : Heap) (locs : List Loc), va_S (fun q : Nat => Z.2.2.1 < q) K.2.2.2.2.1.heap H locs → ∃ cell : Cell, H[Z.2.2.2.1 i]? = some cell ∧ cell.vm.isStatics = false ∧ K.2.2.2.2.1.vm.findClass "java/lang/String" = some cell.cls := by
  intro H locs hS
  obtain ⟨cell, h1, h2, h3, -⟩ := (hK.2.2.2.2.2.2.1.2.2.2.2.1 i _ hi).1.kept hS.2.1
  exact ⟨cell, h1, h2, h3⟩
/-- a call that answers one value, changing nothing -/
theorem g_callW1 (hK : zOk K Z cc own nL ret fr lo mc ms) {y : MethodName} {bytes : ByteArray} {maxL index n b : Nat} {rt : Option FieldType} {rm : Room} {β : Type} {mk : β → Option Value × Prop} {x0 : β} {As : List Value} (hct : zCt K.2.1 Z (zΩ Z) y (zws (.code y bytes maxL rt)) rm (.ref b :: As) μ (zeP mk μ x0)) (hyC : y.cls = "java/lang/String") (hrc : ∀ (H : Heap) (locs : List Loc), va_S (fun q : Nat => Z.2.2.1 < q) K.2.2.2.2.1.heap H locs → ∃ cell : Cell, H[b]? = some cell ∧ cell.vm.isStatics = false ∧ K.2.2.2.2.1.vm.findClass "java/lang/String" = some cell.cls) (w1 : Cond.methodLink own index y ∈ zGood) (w2 : Cond.instanceMethod y ∈ zGood) (w3 : Cond.selects "java/lang/String" y y ∈ zGood) (w4 : Cond.initialized "java/lang/String" ∈ zGood) (w5 : Cond.code y bytes maxL rt ∈ zGood) (hAs : As.length = n) (hn : (parseMethodDescriptor y.desc).map (fun d => d.parameters.length) = some n) (hy : y.cls ≠ "java/lang/invoke/MethodHandle" ∧ y.cls ≠ "java/lang/invoke/VarHandle") (hfr : rm.frames + 1 ≤ fr) (hlo : 8 + (maxL + 11) + rm.locals ≤ lo) (hcat : (rest.map fun v => v.category).sum ≤ 8) (hst : st = As.reverse ++ .ref b :: rest) (hd : decode cc pc = .ok (.invokevirtual index, 3))
    (k : (mk x0).2 → zG K Z (zΩ Z) F cb sb (pc + 3) lv ((mk x0).1.toList ++ rest) μ res) : zG K Z (zΩ Z) F (cb + rm.cells) (sb + rm.slots) pc lv st μ res :=
  g_callW0 hK (resC := some x0) (encC := zeP mk μ) (fun x hx => by cases hx; exact hct) hyC hrc w1 w2 w3 w4 w5 hAs hn hy hfr hlo hcat hst hd (fun a ha => ⟨x0, rfl, fun v hv hp => (by cases hv; intro a2 h2; cases h2; exact k hp a ha), fun E hE => (by cases hE)⟩)
theorem g_callS1 (hK : zOk K Z cc own nL ret fr lo mc ms) {y : MethodName} {bytes : ByteArray} {maxL index n : Nat} {rt : Option FieldType} {rm : Room} {β : Type} {mk : β → Option Value × Prop} {x0 : β} {As : List Value} (hct : zCt K.2.1 Z (zΩ Z) y (zws (.code y bytes maxL rt)) rm As μ (zeP mk μ x0)) (w1 : Cond.methodLink own index y ∈ zGood) (w2 : Cond.static y ∈ zGood) (w4 : Cond.initialized y.cls ∈ zGood) (w5 : Cond.code y bytes maxL rt ∈ zGood) (hAs : As.length = n) (hn : (parseMethodDescriptor y.desc).map (fun d => d.parameters.length) = some n) (hy : y.cls ≠ "java/lang/invoke/MethodHandle" ∧ y.cls ≠ "java/lang/invoke/VarHandle") (hfr : rm.frames + 1 ≤ fr) (hlo : 8 + (maxL + 11) + rm.locals ≤ lo) (hcat : (rest.map fun v => v.category).sum ≤ 8) (hst : st = As.reverse ++ rest) (hd : decode cc pc = .ok (.invokestatic index, 3))
    (k : (mk x0).2 → zG K Z (zΩ Z) F cb sb (pc + 3) lv ((mk x0).1.toList ++ rest) μ res) : zG K Z (zΩ Z) F (cb + rm.cells) (sb + rm.slots) pc lv st μ res :=
  g_callS0 hK (resC := some x0) (encC := zeP mk μ) (fun x hx => by cases hx; exact hct) w1 w2 w4 w5 hAs hn hy hfr hlo hcat hst hd (fun a ha => ⟨x0, rfl, fun v hv hp => (by cases hv; intro a2 h2; cases h2; exact k hp a ha), fun E hE => (by cases hE)⟩)
end zRows9
theorem ds_cod_0 : decode bs_cod 0 = .ok (.getstatic 38, 3) := by decide +kernel
theorem ds_cod_3 : decode bs_cod 3 = .ok (.ifCond .eq 10, 3) := by decide +kernel
theorem ds_cod_6 : decode bs_cod 6 = .ok (.aload_n 0, 1) := by decide +kernel
theorem ds_cod_7 : decode bs_cod 7 = .ok (.getfield 15, 3) := by decide +kernel
theorem ds_cod_10 : decode bs_cod 10 = .ok (.goto 4, 3) := by decide +kernel
theorem ds_cod_14 : decode bs_cod 14 = .ok (.ireturn, 1) := by decide +kernel
theorem ds_lat_0 : decode bs_lat 0 = .ok (.getstatic 38, 3) := by decide +kernel
theorem ds_lat_3 : decode bs_lat 3 = .ok (.ifCond .eq 14, 3) := by decide +kernel
theorem ds_lat_6 : decode bs_lat 6 = .ok (.aload_n 0, 1) := by decide +kernel
theorem ds_lat_7 : decode bs_lat 7 = .ok (.getfield 15, 3) := by decide +kernel
theorem ds_lat_10 : decode bs_lat 10 = .ok (.ifCond .ne 7, 3) := by decide +kernel
theorem ds_lat_13 : decode bs_lat 13 = .ok (.iconst 1, 1) := by decide +kernel
theorem ds_lat_14 : decode bs_lat 14 = .ok (.goto 4, 3) := by decide +kernel
theorem ds_lat_18 : decode bs_lat 18 = .ok (.ireturn, 1) := by decide +kernel
theorem ds_len_0 : decode bs_len 0 = .ok (.aload_n 0, 1) := by decide +kernel
theorem ds_len_1 : decode bs_len 1 = .ok (.getfield 9, 3) := by decide +kernel
theorem ds_len_4 : decode bs_len 4 = .ok (.arraylength, 1) := by decide +kernel
theorem ds_len_5 : decode bs_len 5 = .ok (.aload_n 0, 1) := by decide +kernel
theorem ds_len_6 : decode bs_len 6 = .ok (.invokevirtual 335, 3) := by decide +kernel
theorem ds_len_9 : decode bs_len 9 = .ok (.ishr, 1) := by decide +kernel
theorem ds_len_10 : decode bs_len 10 = .ok (.ireturn, 1) := by decide +kernel
theorem ds_pck_0 : decode bs_pck 0 = .ok (.iload_n 0, 1) := by decide +kernel
theorem ds_pck_1 : decode bs_pck 1 = .ok (.ifCond .lt 8, 3) := by decide +kernel
theorem ds_pck_4 : decode bs_pck 4 = .ok (.iload_n 0, 1) := by decide +kernel
theorem ds_pck_5 : decode bs_pck 5 = .ok (.iload_n 1, 1) := by decide +kernel
theorem ds_pck_6 : decode bs_pck 6 = .ok (.if_icmp .lt 10, 3) := by decide +kernel
theorem ds_pck_16 : decode bs_pck 16 = .ok (.iload_n 0, 1) := by decide +kernel
theorem ds_pck_17 : decode bs_pck 17 = .ok (.ireturn, 1) := by decide +kernel
theorem ds_chk_0 : decode bs_chk 0 = .ok (.iload_n 0, 1) := by decide +kernel
theorem ds_chk_1 : decode bs_chk 1 = .ok (.iload_n 1, 1) := by decide +kernel
theorem ds_chk_2 : decode bs_chk 2 = .ok (.getstatic 1053, 3) := by decide +kernel
theorem ds_chk_5 : decode bs_chk 5 = .ok (.invokestatic 1059, 3) := by decide +kernel
theorem ds_chk_8 : decode bs_chk 8 = .ok (.pop, 1) := by decide +kernel
theorem ds_chk_9 : decode bs_chk 9 = .ok (.return_, 1) := by decide +kernel
theorem ds_lch_0 : decode bs_lch 0 = .ok (.iload_n 1, 1) := by decide +kernel
theorem ds_lch_1 : decode bs_lch 1 = .ok (.aload_n 0, 1) := by decide +kernel
theorem ds_lch_2 : decode bs_lch 2 = .ok (.arraylength, 1) := by decide +kernel
theorem ds_lch_3 : decode bs_lch 3 = .ok (.invokestatic 9, 3) := by decide +kernel
theorem ds_lch_6 : decode bs_lch 6 = .ok (.aload_n 0, 1) := by decide +kernel
theorem ds_lch_7 : decode bs_lch 7 = .ok (.iload_n 1, 1) := by decide +kernel
theorem ds_lch_8 : decode bs_lch 8 = .ok (.baload, 1) := by decide +kernel
theorem ds_lch_9 : decode bs_lch 9 = .ok (.sipush 255, 3) := by decide +kernel
theorem ds_lch_12 : decode bs_lch 12 = .ok (.iand, 1) := by decide +kernel
theorem ds_lch_13 : decode bs_lch 13 = .ok (.i2c, 1) := by decide +kernel
theorem ds_lch_14 : decode bs_lch 14 = .ok (.ireturn, 1) := by decide +kernel
theorem ds_cha_0 : decode bs_cha 0 = .ok (.aload_n 0, 1) := by decide +kernel
theorem ds_cha_1 : decode bs_cha 1 = .ok (.invokevirtual 492, 3) := by decide +kernel
theorem ds_cha_4 : decode bs_cha 4 = .ok (.ifCond .eq 12, 3) := by decide +kernel
theorem ds_cha_7 : decode bs_cha 7 = .ok (.aload_n 0, 1) := by decide +kernel
theorem ds_cha_8 : decode bs_cha 8 = .ok (.getfield 9, 3) := by decide +kernel
theorem ds_cha_11 : decode bs_cha 11 = .ok (.iload_n 1, 1) := by decide +kernel
theorem ds_cha_12 : decode bs_cha 12 = .ok (.invokestatic 495, 3) := by decide +kernel
theorem ds_cha_15 : decode bs_cha 15 = .ok (.ireturn, 1) := by decide +kernel
def mkC (x : Int32) : Option Value × Prop := (some (.int x), True)
def rs_cod : Room := { frames := 0, cells := 0, slots := 0, locals := 8 }
def rs_lat : Room := { frames := 0, cells := 0, slots := 0, locals := 8 }
def rs_pck : Room := { frames := 0, cells := 0, slots := 0, locals := 8 }
def rs_len : Room := { frames := 1, cells := 0, slots := 0, locals := 40 }
def rs_chk : Room := { frames := 1, cells := 0, slots := 0, locals := 40 }
def rs_lch : Room := { frames := 2, cells := 0, slots := 0, locals := 80 }
def rs_cha : Room := { frames := 3, cells := 0, slots := 0, locals := 120 }
theorem cs_cod (l : Launch) (hst : l.stackTraces = false) (Z : zZ) (μ : zM) {i : Nat} (hi : zsok i) : zCt l Z (zΩ Z) ys_cod (zws (.code ys_cod bs_cod 1 (some .byte))) rs_cod [.ref (Z.2.2.2.1 i)] μ (zeP mkI μ (0 : Int)) := by
  refine zCt.of (enc := zeP mkI μ) (res := (if (1 : Int) = 0 then none else some 0)) (a0 := (0 : Int)) (rfl) (by decide) hst (Nat.le_of_ble_eq_true rfl) (fun K hK0 hex hl _ => ?_)
  subst hl
  have hK : zOk K Z bs_cod "java/lang/String" 1 (some .byte) 0 8 0 0 := hK0
  show zG K Z (zΩ Z) (zF K Z (zΩ Z) (zeP mkI μ)) 0 0 0 [(0, .ref (Z.2.2.2.1 i))] [] μ (if (1 : Int) = 0 then none else some 0)
  refine g_scmp hK ds_cod_0 ?_
  refine g_if_eq hK ⟨by decide, by decide⟩ (tgt := 13) (by decide) ds_cod_3 (fun h => absurd h (by decide)) (fun _ => ?_)
  refine g_aload_n hK 0 rfl rfl ds_cod_6 ?_
  refine g_scod hK hi ds_cod_7 ?_
  refine g_goto hK (tgt := 14) (by decide) ds_cod_10 ?_
  exact g_nret hK (show zr 0 from ⟨by decide, by decide⟩) (ty := .byte) rfl rfl rfl ds_cod_14
theorem cs_lat (l : Launch) (hst : l.stackTraces = false) (Z : zZ) (μ : zM) {i : Nat} (hi : zsok i) : zCt l Z (zΩ Z) ys_lat (zws (.code ys_lat bs_lat 1 (some .boolean))) rs_lat [.ref (Z.2.2.2.1 i)] μ (zeP mkZ μ true) := by
  refine zCt.of (enc := zeP mkZ μ) (res := (if (1 : Int) = 0 then none else (if (0 : Int) = 0 then some true else none))) (a0 := true) (rfl) (by decide) hst (Nat.le_of_ble_eq_true rfl) (fun K hK0 hex hl _ => ?_)
  subst hl
  have hK : zOk K Z bs_lat "java/lang/String" 1 (some .boolean) 0 8 0 0 := hK0
  show zG K Z (zΩ Z) (zF K Z (zΩ Z) (zeP mkZ μ)) 0 0 0 [(0, .ref (Z.2.2.2.1 i))] [] μ (if (1 : Int) = 0 then none else (if (0 : Int) = 0 then some true else none))
  refine g_scmp hK ds_lat_0 ?_
  refine g_if_eq hK ⟨by decide, by decide⟩ (tgt := 17) (by decide) ds_lat_3 (fun h => absurd h (by decide)) (fun _ => ?_)
  refine g_aload_n hK 0 rfl rfl ds_lat_6 ?_
  refine g_scod hK hi ds_lat_7 ?_
  refine g_if_ne hK ⟨by decide, by decide⟩ (tgt := 17) (by decide) ds_lat_10 (fun h => absurd rfl h) (fun _ => ?_)
  refine g_iconst hK (v := 1) ds_lat_13 rfl ?_
  refine g_goto hK (tgt := 18) (by decide) ds_lat_14 ?_
  exact g_nret hK trivial (ty := .boolean) rfl rfl rfl ds_lat_18
theorem cs_len (l : Launch) (hst : l.stackTraces = false) (Z : zZ) (μ : zM) {i : Nat} (hi : zsok i) : zCt l Z (zΩ Z) ys_len (zws (.code ys_len bs_len 1 (some .int))) rs_len [.ref (Z.2.2.2.1 i)] μ (zeP mkI μ (zslen i)) := by
  refine zCt.of (enc := zeP mkI μ) (res := (zlt (zshr (zslen i) 0) (fun v => some v))) (a0 := (zslen i)) (congrArg some (zshr0 (zslen_r hi))) (by decide) hst (Nat.le_of_ble_eq_true rfl) (fun K hK0 hex hl _ => ?_)
  subst hl
  have hK : zOk K Z bs_len "java/lang/String" 1 (some .int) 1 40 0 0 := hK0
  show zG K Z (zΩ Z) (zF K Z (zΩ Z) (zeP mkI μ)) 0 0 0 [(0, .ref (Z.2.2.2.1 i))] [] μ (zlt (zshr (zslen i) 0) (fun v => some v))
  refine g_aload_n hK 0 rfl rfl ds_len_0 ?_
  refine g_sval hK hi ds_len_1 ?_
  refine g_sarl hK hi ds_len_4 ?_
  refine g_aload_n hK 0 rfl rfl ds_len_5 ?_
  refine g_callW1 hK (mk := mkI) (rm := rs_cod) (cb := 0) (sb := 0) (n := 0) (As := []) (cs_cod K.2.1 hK.2.2.2.2.2.2.2.2.1 Z μ hi) rfl (zs_recv hK hi) qs_l_cod qs_cod_i qs_cod_s qs_iS qs_cod_c rfl (by decide +kernel) (by decide) (Nat.le_of_ble_eq_true rfl) (Nat.le_of_ble_eq_true rfl) (Nat.le_of_ble_eq_true rfl) rfl ds_len_6 (fun _ => ?_)
  refine g_ishr hK ds_len_9 (fun v hv => ?_)
  exact g_iret hK hv rfl rfl ds_len_10
theorem cs_pck (l : Launch) (hst : l.stackTraces = false) (Z : zZ) (μ : zM) (a1 a2 : Int) (v : Value) (hv : v.category = 1) (h1 : zr a1) (h2 : zr a2) (h0 : 0 ≤ a1) (h3 : a1 < a2) : zCt l Z (zΩ Z) ys_pck (zws (.code ys_pck bs_pck 3 (some .int))) rs_pck [.int (zi a1), .int (zi a2), v] μ (zeP mkI μ a1) := by
  refine zCt.of (enc := zeP mkI μ) (res := (if a1 < 0 then none else (if a1 < a2 then some a1 else none))) (a0 := a1) (by rw [if_neg (by omega), if_pos h3]) (by decide) hst (by rw [show (lg_sl [.int (zi a1), .int (zi a2), v]).length = 1 + (1 + (lg_sl [v]).length) from by simp [lg_sl, Value.category]; omega]; simp [lg_sl, hv]) (fun K hK0 hex hl _ => ?_)
  subst hl
  have hK : zOk K Z bs_pck "jdk/internal/util/Preconditions" 3 (some .int) 0 8 0 0 := hK0
  show zG K Z (zΩ Z) (zF K Z (zΩ Z) (zeP mkI μ)) 0 0 0 (lv_args 0 [.int (zi a1), .int (zi a2), v]) [] μ (if a1 < 0 then none else (if a1 < a2 then some a1 else none))
  refine g_lv (lv2 := [(0, .int (zi a1)), (1, .int (zi a2))]) [0, 1] rfl ?_
  refine g_iload_n hK 0 rfl rfl ds_pck_0 ?_
  refine g_if_lt hK h1 (tgt := 9) (by decide) ds_pck_1 (fun h => by omega) (fun _ => ?_)
  refine g_iload_n hK 0 rfl rfl ds_pck_4 ?_
  refine g_iload_n hK 1 rfl rfl ds_pck_5 ?_
  refine g_icmp_lt hK h1 h2 (tgt := 16) (by decide) ds_pck_6 (fun _ => ?_) (fun h => absurd h3 h)
  refine g_iload_n hK 0 rfl rfl ds_pck_16 ?_
  exact g_iret hK h1 rfl rfl ds_pck_17
theorem cs_chk (l : Launch) (hst : l.stackTraces = false) (Z : zZ) (μ : zM) (a1 a2 : Int) (h1 : zr a1) (h2 : zr a2) (h0 : 0 ≤ a1) (h3 : a1 < a2) : zCt l Z (zΩ Z) ys_chk (zws (.code ys_chk bs_chk 2 none)) rs_chk [.int (zi a1), .int (zi a2)] μ (zeP mkV μ ()) := by
  refine zCt.of (enc := zeP mkV μ) (res := (some ())) (a0 := ()) (rfl) (by decide) hst (Nat.le_of_ble_eq_true rfl) (fun K hK0 hex hl _ => ?_)
  subst hl
  have hK : zOk K Z bs_chk "java/lang/String" 2 none 1 40 0 0 := hK0
  show zG K Z (zΩ Z) (zF K Z (zΩ Z) (zeP mkV μ)) 0 0 0 [(0, .int (zi a1)), (1, .int (zi a2))] [] μ (some ())
  refine g_iload_n hK 0 rfl rfl ds_chk_0 ?_
  refine g_iload_n hK 1 rfl rfl ds_chk_1 ?_
  refine g_sfmt hK ds_chk_2 (fun v hv => ?_)
  refine g_callS1 hK (mk := mkI) (rm := rs_pck) (cb := 0) (sb := 0) (n := 3) (As := [.int (zi a1), .int (zi a2), v]) (cs_pck K.2.1 hK.2.2.2.2.2.2.2.2.1 Z μ a1 a2 v hv h1 h2 h0 h3) qs_l_pck qs_pck_i qs_iP qs_pck_c rfl (by decide +kernel) (by decide) (Nat.le_of_ble_eq_true rfl) (Nat.le_of_ble_eq_true rfl) (Nat.le_of_ble_eq_true rfl) rfl ds_chk_5 (fun _ => ?_)
  refine g_pop hK ds_chk_8 rfl ?_
  exact g_vret hK rfl rfl ds_chk_9
theorem cs_lch (l : Launch) (hst : l.stackTraces = false) (Z : zZ) (μ : zM) {i : Nat} (hi : zsok i) (a1 : Int) (h1 : zr a1) (h0 : 0 ≤ a1) (h3 : a1 < zslen i) : zCt l Z (zΩ Z) ys_lch (zws (.code ys_lch bs_lch 2 (some .char))) rs_lch [.ref (Z.2.2.2.2 i), .int (zi a1)] μ (zeP mkC μ ((zsB i).getD (zx a1) 0)) := by
  refine zCt.of (enc := zeP mkC μ) (res := (some ((zsB i).getD (zx a1) 0))) (a0 := ((zsB i).getD (zx a1) 0)) (rfl) (by decide) hst (Nat.le_of_ble_eq_true rfl) (fun K hK0 hex hl _ => ?_)
  subst hl
  have hK : zOk K Z bs_lch "java/lang/StringLatin1" 2 (some .char) 2 80 0 0 := hK0
  show zG K Z (zΩ Z) (zF K Z (zΩ Z) (zeP mkC μ)) 0 0 0 [(0, .ref (Z.2.2.2.2 i)), (1, .int (zi a1))] [] μ (some ((zsB i).getD (zx a1) 0))
  have hx := zs_get hi h0 h3
  refine g_iload_n hK 1 rfl rfl ds_lch_0 ?_
  refine g_aload_n hK 0 rfl rfl ds_lch_1 ?_
  refine g_sarl hK hi ds_lch_2 ?_
  refine g_callS1 hK (mk := mkV) (rm := rs_chk) (cb := 0) (sb := 0) (n := 2) (As := [.int (zi a1), .int (zi (zslen i))]) (cs_chk K.2.1 hK.2.2.2.2.2.2.2.2.1 Z μ a1 (zslen i) h1 (zslen_r hi) h0 h3) qs_l_chk qs_chk_i qs_iS qs_chk_c rfl (by decide +kernel) (by decide) (Nat.le_of_ble_eq_true rfl) (Nat.le_of_ble_eq_true rfl) (Nat.le_of_ble_eq_true rfl) rfl ds_lch_3 (fun _ => ?_)
  refine g_aload_n hK 0 rfl rfl ds_lch_6 ?_
  refine g_iload_n hK 1 rfl rfl ds_lch_7 ?_
  refine g_sbal hK hi ⟨h0, h3⟩ h1 ds_lch_8 ?_
  refine g_sipush hK (v := 255) ds_lch_9 (by decide +kernel) ?_
  refine g_iandR hK ds_lch_12 ?_
  refine g_i2c hK (show _ = (zsB i).getD (zx a1) 0 from hx.1) ds_lch_13 ?_
  exact g_nret hK trivial (ty := .char) hx.2 rfl rfl ds_lch_14
theorem cs_cha (l : Launch) (hst : l.stackTraces = false) (Z : zZ) (μ : zM) {i : Nat} (hi : zsok i) (a1 : Int) (h1 : zr a1) (h0 : 0 ≤ a1) (h3 : a1 < zslen i) : zCt l Z (zΩ Z) ys_cha (zws (.code ys_cha bs_cha 2 (some .char))) rs_cha [.ref (Z.2.2.2.1 i), .int (zi a1)] μ (zeP mkI μ (zsch i (zx a1))) := by
  refine zCt.of (enc := zeP mkI μ) (res := (if zb true = 0 then none else some (zsch i (zx a1)))) (a0 := (zsch i (zx a1))) (rfl) (by decide) hst (Nat.le_of_ble_eq_true rfl) (fun K hK0 hex hl _ => ?_)
  subst hl
  have hK : zOk K Z bs_cha "java/lang/String" 2 (some .char) 3 120 0 0 := hK0
  show zG K Z (zΩ Z) (zF K Z (zΩ Z) (zeP mkI μ)) 0 0 0 [(0, .ref (Z.2.2.2.1 i)), (1, .int (zi a1))] [] μ (if zb true = 0 then none else some (zsch i (zx a1)))
  refine g_aload_n hK 0 rfl rfl ds_cha_0 ?_
  refine g_callW1 hK (mk := mkZ) (rm := rs_lat) (cb := 0) (sb := 0) (n := 0) (As := []) (cs_lat K.2.1 hK.2.2.2.2.2.2.2.2.1 Z μ hi) rfl (zs_recv hK hi) qs_l_lat qs_lat_i qs_lat_s qs_iS qs_lat_c rfl (by decide +kernel) (by decide) (Nat.le_of_ble_eq_true rfl) (Nat.le_of_ble_eq_true rfl) (Nat.le_of_ble_eq_true rfl) rfl ds_cha_1 (fun _ => ?_)
  refine g_if_eq hK (zb_r true) (tgt := 16) (by decide) ds_cha_4 (fun h => absurd h (by decide)) (fun _ => ?_)
  refine g_aload_n hK 0 rfl rfl ds_cha_7 ?_
  refine g_sval hK hi ds_cha_8 ?_
  refine g_iload_n hK 1 rfl rfl ds_cha_11 ?_
  refine g_callS1 hK (mk := mkC) (rm := rs_lch) (cb := 0) (sb := 0) (n := 2) (As := [.ref (Z.2.2.2.2 i), .int (zi a1)]) (cs_lch K.2.1 hK.2.2.2.2.2.2.2.2.1 Z μ hi a1 h1 h0 h3) qs_l_lch qs_lch_i qs_iL qs_lch_c rfl (by decide +kernel) (by decide) (Nat.le_of_ble_eq_true rfl) (Nat.le_of_ble_eq_true rfl) (Nat.le_of_ble_eq_true rfl) rfl ds_cha_12 (fun _ => ?_)
  exact g_nret hK (show zr (zsch i (zx a1)) from zr_of _) (ty := .char) (zs_get hi h0 h3).2 (by show (_, _, _) = _; simp only [mkI, zsch, zi_of]) rfl ds_cha_15
section zRows9b
variable {K : zK} {Z : zZ} {α : Type} {F : α → State → Prop} {cc : ByteArray} {own : String} {nL fr lo mc ms pc i index : Nat} {ret : Option FieldType} {lv : List (Nat × Value)} {rest : List Value} {μ : zM}
theorem g_slen (hK : zOk K Z cc own nL ret fr lo mc ms) {f : Int → Option α} (w1 : Cond.methodLink own index ys_len ∈ zGood) (hfr : rs_len.frames + 1 ≤ fr) (hlo : 8 + (1 + 11) + rs_len.locals ≤ lo) (hcat : (rest.map fun v => v.category).sum ≤ 8) (hd : decode cc pc = .ok (.invokevirtual index, 3)) (k : zsok i → ∀ v : Int, zr v → zG K Z (zΩ Z) F 0 0 (pc + 3) lv (.int (zi v) :: rest) μ (f v)) : zG K Z (zΩ Z) F 0 0 pc lv (.ref (Z.2.2.2.1 i) :: rest) μ (zgd (zsok i) (zlt (zslen i) f)) :=
  g_gd (fun hi => g_callW1 hK (mk := mkI) (rm := rs_len) (cb := 0) (sb := 0) (n := 0) (As := []) (cs_len K.2.1 hK.2.2.2.2.2.2.2.2.1 Z μ hi) rfl (zs_recv hK hi) w1 qs_len_i qs_len_s qs_iS qs_len_c rfl (by decide +kernel) (by decide) hfr hlo hcat rfl hd (fun hp => k hi _ hp))
theorem g_schar (hK : zOk K Z cc own nL ret fr lo mc ms) {x : Int} (hx : zr x) {f : Int → Option α} (w1 : Cond.methodLink own index ys_cha ∈ zGood) (hfr : rs_cha.frames + 1 ≤ fr) (hlo : 8 + (2 + 11) + rs_cha.locals ≤ lo) (hcat : (rest.map fun v => v.category).sum ≤ 8) (hd : decode cc pc = .ok (.invokevirtual index, 3)) (k : ∀ v : Int, zr v → zG K Z (zΩ Z) F 0 0 (pc + 3) lv (.int (zi v) :: rest) μ (f v)) : zG K Z (zΩ Z) F 0 0 pc lv (.int (zi x) :: .ref (Z.2.2.2.1 i) :: rest) μ (zgd (zsok i ∧ 0 ≤ x ∧ x < zslen i) (zlt (zsch i (zx x)) f)) :=
  g_gd (fun hi => g_callW1 hK (mk := mkI) (rm := rs_cha) (cb := 0) (sb := 0) (n := 1) (As := [.int (zi x)]) (cs_cha K.2.1 hK.2.2.2.2.2.2.2.2.1 Z μ hi.1 x hx hi.2.1 hi.2.2) rfl (zs_recv hK hi.1) w1 qs_cha_i qs_cha_s qs_iS qs_cha_c rfl (by decide +kernel) (by decide) hfr hlo hcat rfl hd (fun hp => k _ hp))
end zRows9b
