section zRows
variable {K : zK} {Z : zZ} {σ α : Type} {Ω : σ → Heap → Prop} {F : α → State → Prop} {cc : ByteArray} {own : String} {nL fr lo mc ms cb sb pc : Nat} {ret : Option FieldType} {lv : List (Nat × Value)} {st : List Value} {μ : σ} {res : Option α}
theorem g_iadd (hK : zOk K Z cc own nL ret fr lo mc ms) {x y : Int} {f : Int → Option α} (hd : decode cc pc = .ok (.iadd, 1)) (k : ∀ v : Int, zr v → zG K Z Ω F cb sb (pc + 1) lv (.int (zi v) :: st) μ (f v)) : zG K Z Ω F cb sb pc lv (.int (zi y) :: .int (zi x) :: st) μ (zgl (x + y) f) := by
  intro a ha H locs ls cells slots hΩ hS hl hc hs
  obtain ⟨g, ha⟩ := zgl_some ha
  have h := k (x + y) g a ha H locs ls cells slots hΩ hS hl hc hs
  rw [zi_add] at h
  exact lv_iadd hK.1 hK.2.1 hd h
theorem g_isub (hK : zOk K Z cc own nL ret fr lo mc ms) {x y : Int} {f : Int → Option α} (hd : decode cc pc = .ok (.isub, 1)) (k : ∀ v : Int, zr v → zG K Z Ω F cb sb (pc + 1) lv (.int (zi v) :: st) μ (f v)) : zG K Z Ω F cb sb pc lv (.int (zi y) :: .int (zi x) :: st) μ (zgl (x - y) f) := by
  intro a ha H locs ls cells slots hΩ hS hl hc hs
  obtain ⟨g, ha⟩ := zgl_some ha
  have h := k (x - y) g a ha H locs ls cells slots hΩ hS hl hc hs
  rw [zi_sub] at h
  exact lv_isub hK.1 hK.2.1 hd h
theorem g_imul (hK : zOk K Z cc own nL ret fr lo mc ms) {x y : Int} {f : Int → Option α} (hd : decode cc pc = .ok (.imul, 1)) (k : ∀ v : Int, zr v → zG K Z Ω F cb sb (pc + 1) lv (.int (zi v) :: st) μ (f v)) : zG K Z Ω F cb sb pc lv (.int (zi y) :: .int (zi x) :: st) μ (zgl (x * y) f) := by
  intro a ha H locs ls cells slots hΩ hS hl hc hs
  obtain ⟨g, ha⟩ := zgl_some ha
  have h := k (x * y) g a ha H locs ls cells slots hΩ hS hl hc hs
  rw [zi_mul] at h
  exact lv_imul hK.1 hK.2.1 hd h
theorem g_ineg (hK : zOk K Z cc own nL ret fr lo mc ms) {x : Int} {f : Int → Option α} (hd : decode cc pc = .ok (.ineg, 1)) (k : ∀ v : Int, zr v → zG K Z Ω F cb sb (pc + 1) lv (.int (zi v) :: st) μ (f v)) : zG K Z Ω F cb sb pc lv (.int (zi x) :: st) μ (zgl (-x) f) := by
  intro a ha H locs ls cells slots hΩ hS hl hc hs
  obtain ⟨g, ha⟩ := zgl_some ha
  have h := k (-x) g a ha H locs ls cells slots hΩ hS hl hc hs
  rw [zi_neg] at h
  exact lv_ineg hK.1 hK.2.1 hd h
theorem g_iand (hK : zOk K Z cc own nL ret fr lo mc ms) {x y : Int} {f : Int → Option α} (hd : decode cc pc = .ok (.iand, 1)) (k : ∀ v : Int, zr v → zG K Z Ω F cb sb (pc + 1) lv (.int (zi v) :: st) μ (f v)) : zG K Z Ω F cb sb pc lv (.int (zi y) :: .int (zi x) :: st) μ (zlt (zand x y) f) := by
  intro a ha H locs ls cells slots hΩ hS hl hc hs
  have h := k (zand x y) (zr_of _) a ha H locs ls cells slots hΩ hS hl hc hs
  rw [zand, zi_of] at h
  exact lv_iand hK.1 hK.2.1 hd h
theorem g_ior (hK : zOk K Z cc own nL ret fr lo mc ms) {x y : Int} {f : Int → Option α} (hd : decode cc pc = .ok (.ior, 1)) (k : ∀ v : Int, zr v → zG K Z Ω F cb sb (pc + 1) lv (.int (zi v) :: st) μ (f v)) : zG K Z Ω F cb sb pc lv (.int (zi y) :: .int (zi x) :: st) μ (zlt (zor x y) f) := by
  intro a ha H locs ls cells slots hΩ hS hl hc hs
  have h := k (zor x y) (zr_of _) a ha H locs ls cells slots hΩ hS hl hc hs
  rw [zor, zi_of] at h
  exact lv_ior hK.1 hK.2.1 hd h
theorem g_ixor (hK : zOk K Z cc own nL ret fr lo mc ms) {x y : Int} {f : Int → Option α} (hd : decode cc pc = .ok (.ixor, 1)) (k : ∀ v : Int, zr v → zG K Z Ω F cb sb (pc + 1) lv (.int (zi v) :: st) μ (f v)) : zG K Z Ω F cb sb pc lv (.int (zi y) :: .int (zi x) :: st) μ (zlt (zxor x y) f) := by
  intro a ha H locs ls cells slots hΩ hS hl hc hs
  have h := k (zxor x y) (zr_of _) a ha H locs ls cells slots hΩ hS hl hc hs
  rw [zxor, zi_of] at h
  exact lv_ixor hK.1 hK.2.1 hd h
theorem g_ishl (hK : zOk K Z cc own nL ret fr lo mc ms) {x y : Int} {f : Int → Option α} (hd : decode cc pc = .ok (.ishl, 1)) (k : ∀ v : Int, zr v → zG K Z Ω F cb sb (pc + 1) lv (.int (zi v) :: st) μ (f v)) : zG K Z Ω F cb sb pc lv (.int (zi y) :: .int (zi x) :: st) μ (zlt (zshl x y) f) := by
  intro a ha H locs ls cells slots hΩ hS hl hc hs
  have h := k (zshl x y) (zr_of _) a ha H locs ls cells slots hΩ hS hl hc hs
  rw [zshl, zi_of] at h
  exact lv_ishl hK.1 hK.2.1 hd h
theorem g_ishr (hK : zOk K Z cc own nL ret fr lo mc ms) {x y : Int} {f : Int → Option α} (hd : decode cc pc = .ok (.ishr, 1)) (k : ∀ v : Int, zr v → zG K Z Ω F cb sb (pc + 1) lv (.int (zi v) :: st) μ (f v)) : zG K Z Ω F cb sb pc lv (.int (zi y) :: .int (zi x) :: st) μ (zlt (zshr x y) f) := by
  intro a ha H locs ls cells slots hΩ hS hl hc hs
  have h := k (zshr x y) (zr_of _) a ha H locs ls cells slots hΩ hS hl hc hs
  rw [zshr, zi_of] at h
  exact lv_ishr hK.1 hK.2.1 hd h
theorem g_iushr (hK : zOk K Z cc own nL ret fr lo mc ms) {x y : Int} {f : Int → Option α} (hd : decode cc pc = .ok (.iushr, 1)) (k : ∀ v : Int, zr v → zG K Z Ω F cb sb (pc + 1) lv (.int (zi v) :: st) μ (f v)) : zG K Z Ω F cb sb pc lv (.int (zi y) :: .int (zi x) :: st) μ (zlt (zushr x y) f) := by
  intro a ha H locs ls cells slots hΩ hS hl hc hs
  have h := k (zushr x y) (zr_of _) a ha H locs ls cells slots hΩ hS hl hc hs
  rw [zushr, zi_of] at h
  exact lv_iushr hK.1 hK.2.1 hd rfl h
theorem g_idiv (hK : zOk K Z cc own nL ret fr lo mc ms) {x y : Int} {f : Int → Option α} (hd : decode cc pc = .ok (.idiv, 1)) (hy : zr y) (hy0 : ¬ y = 0) (k : ∀ v : Int, zr v → zG K Z Ω F cb sb (pc + 1) lv (.int (zi v) :: st) μ (f v)) : zG K Z Ω F cb sb pc lv (.int (zi y) :: .int (zi x) :: st) μ (zlt (zdiv x y) f) := by
  intro a ha H locs ls cells slots hΩ hS hl hc hs
  have h := k (zdiv x y) (zr_of _) a ha H locs ls cells slots hΩ hS hl hc hs
  rw [zdiv, zi_of] at h
  exact lv_idiv hK.1 hK.2.1 hd (fun h9 => hy0 ((zi_eq hy ⟨by decide, by decide⟩).mp h9)) h
theorem g_irem (hK : zOk K Z cc own nL ret fr lo mc ms) {x y : Int} {f : Int → Option α} (hd : decode cc pc = .ok (.irem, 1)) (hy : zr y) (hy0 : ¬ y = 0) (k : ∀ v : Int, zr v → zG K Z Ω F cb sb (pc + 1) lv (.int (zi v) :: st) μ (f v)) : zG K Z Ω F cb sb pc lv (.int (zi y) :: .int (zi x) :: st) μ (zlt (zrem x y) f) := by
  intro a ha H locs ls cells slots hΩ hS hl hc hs
  have h := k (zrem x y) (zr_of _) a ha H locs ls cells slots hΩ hS hl hc hs
  rw [zrem, zi_of] at h
  exact lv_irem hK.1 hK.2.1 hd (fun h9 => hy0 ((zi_eq hy ⟨by decide, by decide⟩).mp h9)) h
theorem g_ladd (hK : zOk K Z cc own nL ret fr lo mc ms) {x y : Int} {f : Int → Option α} (hd : decode cc pc = .ok (.ladd, 1)) (k : ∀ v : Int, zr64 v → zG K Z Ω F cb sb (pc + 1) lv (.long (zl v) :: st) μ (f v)) : zG K Z Ω F cb sb pc lv (.long (zl y) :: .long (zl x) :: st) μ (zgL (x + y) f) := by
  intro a ha H locs ls cells slots hΩ hS hl hc hs
  obtain ⟨g, ha⟩ := zgL_some ha
  have h := k (x + y) g a ha H locs ls cells slots hΩ hS hl hc hs
  rw [zl_add] at h
  exact lv_ladd hK.1 hK.2.1 hd h
theorem g_lsub (hK : zOk K Z cc own nL ret fr lo mc ms) {x y : Int} {f : Int → Option α} (hd : decode cc pc = .ok (.lsub, 1)) (k : ∀ v : Int, zr64 v → zG K Z Ω F cb sb (pc + 1) lv (.long (zl v) :: st) μ (f v)) : zG K Z Ω F cb sb pc lv (.long (zl y) :: .long (zl x) :: st) μ (zgL (x - y) f) := by
  intro a ha H locs ls cells slots hΩ hS hl hc hs
  obtain ⟨g, ha⟩ := zgL_some ha
  have h := k (x - y) g a ha H locs ls cells slots hΩ hS hl hc hs
  rw [zl_sub] at h
  exact lv_lsub hK.1 hK.2.1 hd h
theorem g_lmul (hK : zOk K Z cc own nL ret fr lo mc ms) {x y : Int} {f : Int → Option α} (hd : decode cc pc = .ok (.lmul, 1)) (k : ∀ v : Int, zr64 v → zG K Z Ω F cb sb (pc + 1) lv (.long (zl v) :: st) μ (f v)) : zG K Z Ω F cb sb pc lv (.long (zl y) :: .long (zl x) :: st) μ (zgL (x * y) f) := by
  intro a ha H locs ls cells slots hΩ hS hl hc hs
  obtain ⟨g, ha⟩ := zgL_some ha
  have h := k (x * y) g a ha H locs ls cells slots hΩ hS hl hc hs
  rw [zl_mul] at h
  exact lv_lmul hK.1 hK.2.1 hd h
theorem g_ldiv (hK : zOk K Z cc own nL ret fr lo mc ms) {x y : Int} {f : Int → Option α} (hd : decode cc pc = .ok (.ldiv, 1)) (hy : zr64 y) (hy0 : ¬ y = 0) (k : ∀ v : Int, zr64 v → zG K Z Ω F cb sb (pc + 1) lv (.long (zl v) :: st) μ (f v)) : zG K Z Ω F cb sb pc lv (.long (zl y) :: .long (zl x) :: st) μ (zlt (zdivL x y) f) := by
  intro a ha H locs ls cells slots hΩ hS hl hc hs
  have h := k (zdivL x y) (zr64_of _) a ha H locs ls cells slots hΩ hS hl hc hs
  rw [zdivL, zl_of] at h
  exact lv_ldiv hK.1 hK.2.1 hd (fun h9 => hy0 ((zl_eq hy ⟨by decide, by decide⟩).mp h9)) h
theorem g_lrem (hK : zOk K Z cc own nL ret fr lo mc ms) {x y : Int} {f : Int → Option α} (hd : decode cc pc = .ok (.lrem, 1)) (hy : zr64 y) (hy0 : ¬ y = 0) (k : ∀ v : Int, zr64 v → zG K Z Ω F cb sb (pc + 1) lv (.long (zl v) :: st) μ (f v)) : zG K Z Ω F cb sb pc lv (.long (zl y) :: .long (zl x) :: st) μ (zlt (zremL x y) f) := by
  intro a ha H locs ls cells slots hΩ hS hl hc hs
  have h := k (zremL x y) (zr64_of _) a ha H locs ls cells slots hΩ hS hl hc hs
  rw [zremL, zl_of] at h
  exact lv_lrem hK.1 hK.2.1 hd (fun h9 => hy0 ((zl_eq hy ⟨by decide, by decide⟩).mp h9)) h
theorem g_i2l (hK : zOk K Z cc own nL ret fr lo mc ms) {x : Int} (hd : decode cc pc = .ok (.i2l, 1)) (hx : zr x) (k : zG K Z Ω F cb sb (pc + 1) lv (.long (zl x) :: st) μ res) : zG K Z Ω F cb sb pc lv (.int (zi x) :: st) μ res := by
  intro a ha H locs ls cells slots hΩ hS hl hc hs
  exact lv_i2l hK.1 hK.2.1 hd (zi_i2l hx) (k a ha H locs ls cells slots hΩ hS hl hc hs)
theorem g_l2i (hK : zOk K Z cc own nL ret fr lo mc ms) {x : Int} {f : Int → Option α} (hd : decode cc pc = .ok (.l2i, 1)) (k : ∀ v : Int, zr v → zG K Z Ω F cb sb (pc + 1) lv (.int (zi v) :: st) μ (f v)) : zG K Z Ω F cb sb pc lv (.long (zl x) :: st) μ (zgl (x) f) := by
  intro a ha H locs ls cells slots hΩ hS hl hc hs
  obtain ⟨g, ha⟩ := zgl_some ha
  have h := k (x) g a ha H locs ls cells slots hΩ hS hl hc hs
  exact lv_l2i hK.1 hK.2.1 hd (zl_l2i g) h
theorem zcmp_r (x y : Int) : zr (zcmp x y) := by
  unfold zcmp
  split
  · exact ⟨by decide, by decide⟩
  · split
    · exact ⟨by decide, by decide⟩
    · exact ⟨by decide, by decide⟩
theorem zcmp_lg {x y : Int} (hx : zr64 x) (hy : zr64 y) : lg_cmp (zl x) (zl y) = zi (zcmp x y) := by
  unfold lg_cmp zcmp
  have e1 := zl_lt hx hy
  have e2 := zl_lt hy hx
  have e3 := zl_eq hx hy
  by_cases h1 : x < y
  · have h2 : ¬ y < x := by omega
    have h3 : ¬ x = y := by omega
    simp [h1, h2, h3, e2, e3, zi]
  · by_cases h2 : x = y
    · subst h2; simp [zi]
    · have h3 : y < x := by omega
      simp [h1, h2, h3, e2, zi]
theorem g_lcmp (hK : zOk K Z cc own nL ret fr lo mc ms) {x y : Int} {f : Int → Option α} (hd : decode cc pc = .ok (.lcmp, 1)) (hx : zr64 x) (hy : zr64 y) (k : ∀ v : Int, zr v → zG K Z Ω F cb sb (pc + 1) lv (.int (zi v) :: st) μ (f v)) : zG K Z Ω F cb sb pc lv (.long (zl y) :: .long (zl x) :: st) μ (zlt (zcmp x y) f) := by
  intro a ha H locs ls cells slots hΩ hS hl hc hs
  have h := k (zcmp x y) (zcmp_r _ _) a ha H locs ls cells slots hΩ hS hl hc hs
  rw [← zcmp_lg hx hy] at h
  exact W.lcmp hK.1 hK.2.1 hd h
theorem g_i2f (hK : zOk K Z cc own nL ret fr lo mc ms) {x : Int} (hd : decode cc pc = .ok (.i2f, 1)) (k : zG K Z Ω F cb sb (pc + 1) lv (.float (FP.i2f (zi x)) :: st) μ res) : zG K Z Ω F cb sb pc lv (.int (zi x) :: st) μ res := by
  intro a ha H locs ls cells slots hΩ hS hl hc hs
  exact lv_i2f hK.1 hK.2.1 hd (k a ha H locs ls cells slots hΩ hS hl hc hs)
theorem g_i2d (hK : zOk K Z cc own nL ret fr lo mc ms) {x : Int} (hd : decode cc pc = .ok (.i2d, 1)) (k : zG K Z Ω F cb sb (pc + 1) lv (.double (FP.i2d (zi x)) :: st) μ res) : zG K Z Ω F cb sb pc lv (.int (zi x) :: st) μ res := by
  intro a ha H locs ls cells slots hΩ hS hl hc hs
  exact lv_i2d hK.1 hK.2.1 hd (k a ha H locs ls cells slots hΩ hS hl hc hs)
theorem g_l2d (hK : zOk K Z cc own nL ret fr lo mc ms) {x : Int} (hd : decode cc pc = .ok (.l2d, 1)) (k : zG K Z Ω F cb sb (pc + 1) lv (.double (FP.l2d (zl x)) :: st) μ res) : zG K Z Ω F cb sb pc lv (.long (zl x) :: st) μ res := by
  intro a ha H locs ls cells slots hΩ hS hl hc hs
  exact lv_l2d hK.1 hK.2.1 hd (k a ha H locs ls cells slots hΩ hS hl hc hs)
theorem g_fdiv (hK : zOk K Z cc own nL ret fr lo mc ms) {x y : UInt32} (hd : decode cc pc = .ok (.fdiv, 1)) (hne : vf_n32 (FP.fdiv x y)) (k : zG K Z Ω F cb sb (pc + 1) lv (.float (FP.fdiv x y) :: st) μ res) : zG K Z Ω F cb sb pc lv (.float y :: .float x :: st) μ res := by
  intro a ha H locs ls cells slots hΩ hS hl hc hs
  exact lv_fdiv hK.1 hK.2.1 hd hne (k a ha H locs ls cells slots hΩ hS hl hc hs)
theorem g_ddiv (hK : zOk K Z cc own nL ret fr lo mc ms) {x y : UInt64} (hd : decode cc pc = .ok (.ddiv, 1)) (hne : vf_n64 (FP.ddiv x y)) (k : zG K Z Ω F cb sb (pc + 1) lv (.double (FP.ddiv x y) :: st) μ res) : zG K Z Ω F cb sb pc lv (.double y :: .double x :: st) μ res := by
  intro a ha H locs ls cells slots hΩ hS hl hc hs
  exact lv_ddiv hK.1 hK.2.1 hd hne (k a ha H locs ls cells slots hΩ hS hl hc hs)
theorem g_f2d (hK : zOk K Z cc own nL ret fr lo mc ms) {x : UInt32} (hd : decode cc pc = .ok (.f2d, 1)) (hne : vf_n64 (FP.f2d x)) (k : zG K Z Ω F cb sb (pc + 1) lv (.double (FP.f2d x) :: st) μ res) : zG K Z Ω F cb sb pc lv (.float x :: st) μ res := by
  intro a ha H locs ls cells slots hΩ hS hl hc hs
  exact lv_f2d hK.1 hK.2.1 hd hne (k a ha H locs ls cells slots hΩ hS hl hc hs)
theorem g_fconst0 (hK : zOk K Z cc own nL ret fr lo mc ms) (hd : decode cc pc = .ok (.fconst 0, 1)) (k : zG K Z Ω F cb sb (pc + 1) lv (.float 0 :: st) μ res) : zG K Z Ω F cb sb pc lv st μ res := by
  intro a ha H locs ls cells slots hΩ hS hl hc hs
  exact lv_fconst0 hK.1 hK.2.1 hd (k a ha H locs ls cells slots hΩ hS hl hc hs)
theorem g_dconst0 (hK : zOk K Z cc own nL ret fr lo mc ms) (hd : decode cc pc = .ok (.dconst 0, 1)) (k : zG K Z Ω F cb sb (pc + 1) lv (.double 0 :: st) μ res) : zG K Z Ω F cb sb pc lv st μ res := by
  intro a ha H locs ls cells slots hΩ hS hl hc hs
  exact lv_dconst0 hK.1 hK.2.1 hd (k a ha H locs ls cells slots hΩ hS hl hc hs)
theorem g_iconst (hK : zOk K Z cc own nL ret fr lo mc ms) {n : Int} {v : Int} (hd : decode cc pc = .ok (.iconst n, 1)) (hv : Int32.ofInt n = zi v) (k : zG K Z Ω F cb sb (pc + 1) lv (.int (zi v) :: st) μ res) : zG K Z Ω F cb sb pc lv st μ res := by
  intro a ha H locs ls cells slots hΩ hS hl hc hs
  exact lv_iconst hK.1 hK.2.1 hd hv (k a ha H locs ls cells slots hΩ hS hl hc hs)
theorem g_bipush (hK : zOk K Z cc own nL ret fr lo mc ms) {n : Int} {v : Int} (hd : decode cc pc = .ok (.bipush n, 2)) (hv : (Int8.ofInt n).toInt32 = zi v) (k : zG K Z Ω F cb sb (pc + 2) lv (.int (zi v) :: st) μ res) : zG K Z Ω F cb sb pc lv st μ res := by
  intro a ha H locs ls cells slots hΩ hS hl hc hs
  exact lv_bipush hK.1 hK.2.1 hd hv (k a ha H locs ls cells slots hΩ hS hl hc hs)
theorem g_sipush (hK : zOk K Z cc own nL ret fr lo mc ms) {n : Int} {v : Int} (hd : decode cc pc = .ok (.sipush n, 3)) (hv : (Int16.ofInt n).toInt32 = zi v) (k : zG K Z Ω F cb sb (pc + 3) lv (.int (zi v) :: st) μ res) : zG K Z Ω F cb sb pc lv st μ res := by
  intro a ha H locs ls cells slots hΩ hS hl hc hs
  exact lv_sipush hK.1 hK.2.1 hd hv (k a ha H locs ls cells slots hΩ hS hl hc hs)
theorem g_lconst (hK : zOk K Z cc own nL ret fr lo mc ms) {n : Fin 2} {v : Int} (hd : decode cc pc = .ok (.lconst n, 1)) (hv : Int64.ofNat (n : Nat) = zl v) (k : zG K Z Ω F cb sb (pc + 1) lv (.long (zl v) :: st) μ res) : zG K Z Ω F cb sb pc lv st μ res := by
  intro a ha H locs ls cells slots hΩ hS hl hc hs
  exact lv_lconst hK.1 hK.2.1 hd hv (k a ha H locs ls cells slots hΩ hS hl hc hs)
theorem g_dup (hK : zOk K Z cc own nL ret fr lo mc ms) {v : Value} (hd : decode cc pc = .ok (.dup, 1)) (hv : v.category = 1) (k : zG K Z Ω F cb sb (pc + 1) lv (v :: v :: st) μ res) : zG K Z Ω F cb sb pc lv (v :: st) μ res := by
  intro a ha H locs ls cells slots hΩ hS hl hc hs
  exact lv_dup hK.1 hK.2.1 hd hv (k a ha H locs ls cells slots hΩ hS hl hc hs)
theorem g_dup_x1 (hK : zOk K Z cc own nL ret fr lo mc ms) {v w : Value} (hd : decode cc pc = .ok (.dup_x1, 1)) (hv : v.category = 1) (hw : w.category = 1) (k : zG K Z Ω F cb sb (pc + 1) lv (v :: w :: v :: st) μ res) : zG K Z Ω F cb sb pc lv (v :: w :: st) μ res := by
  intro a ha H locs ls cells slots hΩ hS hl hc hs
  exact lv_dup_x1 hK.1 hK.2.1 hd hv hw (k a ha H locs ls cells slots hΩ hS hl hc hs)
theorem g_dup_x2 (hK : zOk K Z cc own nL ret fr lo mc ms) {v w u : Value} (hd : decode cc pc = .ok (.dup_x2, 1)) (hv : v.category = 1) (hw : w.category = 1) (hu : u.category = 1) (k : zG K Z Ω F cb sb (pc + 1) lv (v :: w :: u :: v :: st) μ res) : zG K Z Ω F cb sb pc lv (v :: w :: u :: st) μ res := by
  intro a ha H locs ls cells slots hΩ hS hl hc hs
  exact lv_dup_x2 hK.1 hK.2.1 hd hv hw hu (k a ha H locs ls cells slots hΩ hS hl hc hs)
theorem g_dup2 (hK : zOk K Z cc own nL ret fr lo mc ms) {v w : Value} (hd : decode cc pc = .ok (.dup2, 1)) (hv : v.category = 1) (hw : w.category = 1) (k : zG K Z Ω F cb sb (pc + 1) lv (v :: w :: v :: w :: st) μ res) : zG K Z Ω F cb sb pc lv (v :: w :: st) μ res := by
  intro a ha H locs ls cells slots hΩ hS hl hc hs
  exact lv_dup2_11 hK.1 hK.2.1 hd hv hw (k a ha H locs ls cells slots hΩ hS hl hc hs)
theorem g_dup2_2 (hK : zOk K Z cc own nL ret fr lo mc ms) {v : Value} (hd : decode cc pc = .ok (.dup2, 1)) (hv : v.category = 2) (k : zG K Z Ω F cb sb (pc + 1) lv (v :: v :: st) μ res) : zG K Z Ω F cb sb pc lv (v :: st) μ res := by
  intro a ha H locs ls cells slots hΩ hS hl hc hs
  exact lv_dup2_2 hK.1 hK.2.1 hd hv (k a ha H locs ls cells slots hΩ hS hl hc hs)
theorem g_pop (hK : zOk K Z cc own nL ret fr lo mc ms) {v : Value} (hd : decode cc pc = .ok (.pop, 1)) (hv : v.category = 1) (k : zG K Z Ω F cb sb (pc + 1) lv st μ res) : zG K Z Ω F cb sb pc lv (v :: st) μ res := by
  intro a ha H locs ls cells slots hΩ hS hl hc hs
  exact lv_pop hK.1 hK.2.1 hd hv (k a ha H locs ls cells slots hΩ hS hl hc hs)
theorem g_pop2 (hK : zOk K Z cc own nL ret fr lo mc ms) {v : Value} (hd : decode cc pc = .ok (.pop2, 1)) (hv : v.category = 2) (k : zG K Z Ω F cb sb (pc + 1) lv st μ res) : zG K Z Ω F cb sb pc lv (v :: st) μ res := by
  intro a ha H locs ls cells slots hΩ hS hl hc hs
  exact lv_pop2_2 hK.1 hK.2.1 hd hv (k a ha H locs ls cells slots hΩ hS hl hc hs)
theorem g_ldc (hK : zOk K Z cc own nL ret fr lo mc ms) {index : Nat} {v : Int} (hw : Jvm.Cond.constant own index (zi v) ∈ zGood) (hd : decode cc pc = .ok (.ldc index, 2)) (k : zG K Z Ω F cb sb (pc + 2) lv (.int (zi v) :: st) μ res) : zG K Z Ω F cb sb pc lv st μ res := by
  intro a ha H locs ls cells slots hΩ hS hl hc hs
  exact lv_ldc hK.1 hK.2.1 hK.2.2.2.1 (hK.2.2.2.2.1 _ hw) hd (k a ha H locs ls cells slots hΩ hS hl hc hs)
theorem g_ldcw (hK : zOk K Z cc own nL ret fr lo mc ms) {index : Nat} {v : Int} (hw : Jvm.Cond.constant own index (zi v) ∈ zGood) (hd : decode cc pc = .ok (.ldc_w index, 3)) (k : zG K Z Ω F cb sb (pc + 3) lv (.int (zi v) :: st) μ res) : zG K Z Ω F cb sb pc lv st μ res := by
  intro a ha H locs ls cells slots hΩ hS hl hc hs
  exact lv_ldcw hK.1 hK.2.1 hK.2.2.2.1 (hK.2.2.2.2.1 _ hw) hd (k a ha H locs ls cells slots hΩ hS hl hc hs)
theorem g_ldc2 (hK : zOk K Z cc own nL ret fr lo mc ms) {index : Nat} {v : Int} (hw : Jvm.Cond.constantLong own index (zl v) ∈ zGood) (hd : decode cc pc = .ok (.ldc2_w index, 3)) (k : zG K Z Ω F cb sb (pc + 3) lv (.long (zl v) :: st) μ res) : zG K Z Ω F cb sb pc lv st μ res := by
  intro a ha H locs ls cells slots hΩ hS hl hc hs
  exact lv_ldc2 hK.1 hK.2.1 hK.2.2.2.1 (hK.2.2.2.2.1 _ hw) hd (k a ha H locs ls cells slots hΩ hS hl hc hs)
theorem g_iload_n (hK : zOk K Z cc own nL ret fr lo mc ms) {kk : Fin 4} {i : Nat} {x : Int32} (j : Nat) (hj : lv[j]? = some (i, .int x)) (hi : (kk : Nat) = i) (hd : decode cc pc = .ok (.iload_n kk, 1)) (k : zG K Z Ω F cb sb (pc + 1) lv (.int x :: st) μ res) : zG K Z Ω F cb sb pc lv st μ res := by
  intro a ha H locs ls cells slots hΩ hS hl hc hs
  exact lv_iload_n hK.1 hK.2.1 hd hi (lv_at hl j hj) (k a ha H locs ls cells slots hΩ hS hl hc hs)
theorem g_iload (hK : zOk K Z cc own nL ret fr lo mc ms) {i : Nat} {x : Int32} (j : Nat) (hj : lv[j]? = some (i, .int x)) (hd : decode cc pc = .ok (.iload i, 2)) (k : zG K Z Ω F cb sb (pc + 2) lv (.int x :: st) μ res) : zG K Z Ω F cb sb pc lv st μ res := by
  intro a ha H locs ls cells slots hΩ hS hl hc hs
  exact lv_iload hK.1 hK.2.1 hd (lv_at hl j hj) (k a ha H locs ls cells slots hΩ hS hl hc hs)
theorem g_lload_n (hK : zOk K Z cc own nL ret fr lo mc ms) {kk : Fin 4} {i : Nat} {x : Int64} (j : Nat) (hj : lv[j]? = some (i, .long x)) (hi : (kk : Nat) = i) (hd : decode cc pc = .ok (.lload_n kk, 1)) (k : zG K Z Ω F cb sb (pc + 1) lv (.long x :: st) μ res) : zG K Z Ω F cb sb pc lv st μ res := by
  intro a ha H locs ls cells slots hΩ hS hl hc hs
  exact lv_lload_n hK.1 hK.2.1 hd hi (lv_at hl j hj) (k a ha H locs ls cells slots hΩ hS hl hc hs)
theorem g_lload (hK : zOk K Z cc own nL ret fr lo mc ms) {i : Nat} {x : Int64} (j : Nat) (hj : lv[j]? = some (i, .long x)) (hd : decode cc pc = .ok (.lload i, 2)) (k : zG K Z Ω F cb sb (pc + 2) lv (.long x :: st) μ res) : zG K Z Ω F cb sb pc lv st μ res := by
  intro a ha H locs ls cells slots hΩ hS hl hc hs
  exact lv_lload hK.1 hK.2.1 hd (lv_at hl j hj) (k a ha H locs ls cells slots hΩ hS hl hc hs)
theorem g_fload_n (hK : zOk K Z cc own nL ret fr lo mc ms) {kk : Fin 4} {i : Nat} {x : UInt32} (j : Nat) (hj : lv[j]? = some (i, .float x)) (hi : (kk : Nat) = i) (hd : decode cc pc = .ok (.fload_n kk, 1)) (k : zG K Z Ω F cb sb (pc + 1) lv (.float x :: st) μ res) : zG K Z Ω F cb sb pc lv st μ res := by
  intro a ha H locs ls cells slots hΩ hS hl hc hs
  exact lv_fload_n hK.1 hK.2.1 hd hi (lv_at hl j hj) (k a ha H locs ls cells slots hΩ hS hl hc hs)
theorem g_fload (hK : zOk K Z cc own nL ret fr lo mc ms) {i : Nat} {x : UInt32} (j : Nat) (hj : lv[j]? = some (i, .float x)) (hd : decode cc pc = .ok (.fload i, 2)) (k : zG K Z Ω F cb sb (pc + 2) lv (.float x :: st) μ res) : zG K Z Ω F cb sb pc lv st μ res := by
  intro a ha H locs ls cells slots hΩ hS hl hc hs
  exact lv_fload hK.1 hK.2.1 hd (lv_at hl j hj) (k a ha H locs ls cells slots hΩ hS hl hc hs)
theorem g_dload_n (hK : zOk K Z cc own nL ret fr lo mc ms) {kk : Fin 4} {i : Nat} {x : UInt64} (j : Nat) (hj : lv[j]? = some (i, .double x)) (hi : (kk : Nat) = i) (hd : decode cc pc = .ok (.dload_n kk, 1)) (k : zG K Z Ω F cb sb (pc + 1) lv (.double x :: st) μ res) : zG K Z Ω F cb sb pc lv st μ res := by
  intro a ha H locs ls cells slots hΩ hS hl hc hs
  exact lv_dload_n hK.1 hK.2.1 hd hi (lv_at hl j hj) (k a ha H locs ls cells slots hΩ hS hl hc hs)
theorem g_dload (hK : zOk K Z cc own nL ret fr lo mc ms) {i : Nat} {x : UInt64} (j : Nat) (hj : lv[j]? = some (i, .double x)) (hd : decode cc pc = .ok (.dload i, 2)) (k : zG K Z Ω F cb sb (pc + 2) lv (.double x :: st) μ res) : zG K Z Ω F cb sb pc lv st μ res := by
  intro a ha H locs ls cells slots hΩ hS hl hc hs
  exact lv_dload hK.1 hK.2.1 hd (lv_at hl j hj) (k a ha H locs ls cells slots hΩ hS hl hc hs)
theorem g_aload_n (hK : zOk K Z cc own nL ret fr lo mc ms) {kk : Fin 4} {i : Nat} {x : Nat} (j : Nat) (hj : lv[j]? = some (i, .ref x)) (hi : (kk : Nat) = i) (hd : decode cc pc = .ok (.aload_n kk, 1)) (k : zG K Z Ω F cb sb (pc + 1) lv (.ref x :: st) μ res) : zG K Z Ω F cb sb pc lv st μ res := by
  intro a ha H locs ls cells slots hΩ hS hl hc hs
  exact lv_aload_n hK.1 hK.2.1 hd hi (lv_at hl j hj) (k a ha H locs ls cells slots hΩ hS hl hc hs)
theorem g_aload (hK : zOk K Z cc own nL ret fr lo mc ms) {i : Nat} {x : Nat} (j : Nat) (hj : lv[j]? = some (i, .ref x)) (hd : decode cc pc = .ok (.aload i, 2)) (k : zG K Z Ω F cb sb (pc + 2) lv (.ref x :: st) μ res) : zG K Z Ω F cb sb pc lv st μ res := by
  intro a ha H locs ls cells slots hΩ hS hl hc hs
  exact lv_aload hK.1 hK.2.1 hd (lv_at hl j hj) (k a ha H locs ls cells slots hΩ hS hl hc hs)
theorem g_istore_n (hK : zOk K Z cc own nL ret fr lo mc ms) {kk : Fin 4} {i : Nat} {x : Int32} {lv2 : List (Nat × Value)} (ks : List Nat) (hp : lv_pick ((i, .int x) :: lv.filter (fun q => !(q.1 == i) && !(q.1 + 1 == i && q.2.category == 2))) ks = lv2) (hi : (kk : Nat) = i) (hn : i < nL) (hd : decode cc pc = .ok (.istore_n kk, 1)) (k : zG K Z Ω F cb sb (pc + 1) lv2 st μ res) : zG K Z Ω F cb sb pc lv (.int x :: st) μ res := by
  intro a ha H locs ls cells slots hΩ hS hl hc hs
  exact lv_istore_n hK.1 hK.2.1 hd hi hl (by rw [hK.2.2.1]; exact hn) rfl (fun ls2 hl2 => k a ha H locs ls2 cells slots hΩ hS (lv_sub hl2 ks hp) hc hs)
theorem g_istore (hK : zOk K Z cc own nL ret fr lo mc ms) {i : Nat} {x : Int32} {lv2 : List (Nat × Value)} (ks : List Nat) (hp : lv_pick ((i, .int x) :: lv.filter (fun q => !(q.1 == i) && !(q.1 + 1 == i && q.2.category == 2))) ks = lv2) (hn : i < nL) (hd : decode cc pc = .ok (.istore i, 2)) (k : zG K Z Ω F cb sb (pc + 2) lv2 st μ res) : zG K Z Ω F cb sb pc lv (.int x :: st) μ res := by
  intro a ha H locs ls cells slots hΩ hS hl hc hs
  exact lv_istore hK.1 hK.2.1 hd hl (by rw [hK.2.2.1]; exact hn) rfl (fun ls2 hl2 => k a ha H locs ls2 cells slots hΩ hS (lv_sub hl2 ks hp) hc hs)
theorem g_astore_n (hK : zOk K Z cc own nL ret fr lo mc ms) {kk : Fin 4} {i : Nat} {x : Nat} {lv2 : List (Nat × Value)} (ks : List Nat) (hp : lv_pick ((i, .ref x) :: lv.filter (fun q => !(q.1 == i) && !(q.1 + 1 == i && q.2.category == 2))) ks = lv2) (hi : (kk : Nat) = i) (hn : i < nL) (hd : decode cc pc = .ok (.astore_n kk, 1)) (k : zG K Z Ω F cb sb (pc + 1) lv2 st μ res) : zG K Z Ω F cb sb pc lv (.ref x :: st) μ res := by
  intro a ha H locs ls cells slots hΩ hS hl hc hs
  exact lv_astore_n hK.1 hK.2.1 hd hi hl (by rw [hK.2.2.1]; exact hn) rfl (fun ls2 hl2 => k a ha H locs ls2 cells slots hΩ hS (lv_sub hl2 ks hp) hc hs)
theorem g_astore (hK : zOk K Z cc own nL ret fr lo mc ms) {i : Nat} {x : Nat} {lv2 : List (Nat × Value)} (ks : List Nat) (hp : lv_pick ((i, .ref x) :: lv.filter (fun q => !(q.1 == i) && !(q.1 + 1 == i && q.2.category == 2))) ks = lv2) (hn : i < nL) (hd : decode cc pc = .ok (.astore i, 2)) (k : zG K Z Ω F cb sb (pc + 2) lv2 st μ res) : zG K Z Ω F cb sb pc lv (.ref x :: st) μ res := by
  intro a ha H locs ls cells slots hΩ hS hl hc hs
  exact lv_astore hK.1 hK.2.1 hd hl (by rw [hK.2.2.1]; exact hn) rfl (fun ls2 hl2 => k a ha H locs ls2 cells slots hΩ hS (lv_sub hl2 ks hp) hc hs)
theorem g_lstore_n (hK : zOk K Z cc own nL ret fr lo mc ms) {kk : Fin 4} {i : Nat} {x : Int64} {lv2 : List (Nat × Value)} (ks : List Nat) (hp : lv_pick ((i, .long x) :: lv.filter (fun q => !(q.1 == i) && (!(q.1 == i + 1) && !(q.1 + 1 == i && q.2.category == 2)))) ks = lv2) (hi : (kk : Nat) = i) (hn : i + 1 < nL) (hd : decode cc pc = .ok (.lstore_n kk, 1)) (k : zG K Z Ω F cb sb (pc + 1) lv2 st μ res) : zG K Z Ω F cb sb pc lv (.long x :: st) μ res := by
  intro a ha H locs ls cells slots hΩ hS hl hc hs
  exact lv_lstore_n hK.1 hK.2.1 hd hi hl (by rw [hK.2.2.1]; exact hn) rfl (fun ls2 hl2 => k a ha H locs ls2 cells slots hΩ hS (lv_sub hl2 ks hp) hc hs)
theorem g_lstore (hK : zOk K Z cc own nL ret fr lo mc ms) {i : Nat} {x : Int64} {lv2 : List (Nat × Value)} (ks : List Nat) (hp : lv_pick ((i, .long x) :: lv.filter (fun q => !(q.1 == i) && (!(q.1 == i + 1) && !(q.1 + 1 == i && q.2.category == 2)))) ks = lv2) (hn : i + 1 < nL) (hd : decode cc pc = .ok (.lstore i, 2)) (k : zG K Z Ω F cb sb (pc + 2) lv2 st μ res) : zG K Z Ω F cb sb pc lv (.long x :: st) μ res := by
  intro a ha H locs ls cells slots hΩ hS hl hc hs
  exact lv_lstore hK.1 hK.2.1 hd hl (by rw [hK.2.2.1]; exact hn) rfl (fun ls2 hl2 => k a ha H locs ls2 cells slots hΩ hS (lv_sub hl2 ks hp) hc hs)
theorem g_fstore_n (hK : zOk K Z cc own nL ret fr lo mc ms) {kk : Fin 4} {i : Nat} {x : UInt32} {lv2 : List (Nat × Value)} (ks : List Nat) (hp : lv_pick ((i, .float x) :: lv.filter (fun q => !(q.1 == i) && !(q.1 + 1 == i && q.2.category == 2))) ks = lv2) (hi : (kk : Nat) = i) (hn : i < nL) (hd : decode cc pc = .ok (.fstore_n kk, 1)) (k : zG K Z Ω F cb sb (pc + 1) lv2 st μ res) : zG K Z Ω F cb sb pc lv (.float x :: st) μ res := by
  intro a ha H locs ls cells slots hΩ hS hl hc hs
  exact lv_fstore_n hK.1 hK.2.1 hd hi hl (by rw [hK.2.2.1]; exact hn) rfl (fun ls2 hl2 => k a ha H locs ls2 cells slots hΩ hS (lv_sub hl2 ks hp) hc hs)
theorem g_fstore (hK : zOk K Z cc own nL ret fr lo mc ms) {i : Nat} {x : UInt32} {lv2 : List (Nat × Value)} (ks : List Nat) (hp : lv_pick ((i, .float x) :: lv.filter (fun q => !(q.1 == i) && !(q.1 + 1 == i && q.2.category == 2))) ks = lv2) (hn : i < nL) (hd : decode cc pc = .ok (.fstore i, 2)) (k : zG K Z Ω F cb sb (pc + 2) lv2 st μ res) : zG K Z Ω F cb sb pc lv (.float x :: st) μ res := by
  intro a ha H locs ls cells slots hΩ hS hl hc hs
  exact lv_fstore hK.1 hK.2.1 hd hl (by rw [hK.2.2.1]; exact hn) rfl (fun ls2 hl2 => k a ha H locs ls2 cells slots hΩ hS (lv_sub hl2 ks hp) hc hs)
theorem g_dstore_n (hK : zOk K Z cc own nL ret fr lo mc ms) {kk : Fin 4} {i : Nat} {x : UInt64} {lv2 : List (Nat × Value)} (ks : List Nat) (hp : lv_pick ((i, .double x) :: lv.filter (fun q => !(q.1 == i) && (!(q.1 == i + 1) && !(q.1 + 1 == i && q.2.category == 2)))) ks = lv2) (hi : (kk : Nat) = i) (hn : i + 1 < nL) (hd : decode cc pc = .ok (.dstore_n kk, 1)) (k : zG K Z Ω F cb sb (pc + 1) lv2 st μ res) : zG K Z Ω F cb sb pc lv (.double x :: st) μ res := by
  intro a ha H locs ls cells slots hΩ hS hl hc hs
  exact lv_dstore_n hK.1 hK.2.1 hd hi hl (by rw [hK.2.2.1]; exact hn) rfl (fun ls2 hl2 => k a ha H locs ls2 cells slots hΩ hS (lv_sub hl2 ks hp) hc hs)
theorem g_dstore (hK : zOk K Z cc own nL ret fr lo mc ms) {i : Nat} {x : UInt64} {lv2 : List (Nat × Value)} (ks : List Nat) (hp : lv_pick ((i, .double x) :: lv.filter (fun q => !(q.1 == i) && (!(q.1 == i + 1) && !(q.1 + 1 == i && q.2.category == 2)))) ks = lv2) (hn : i + 1 < nL) (hd : decode cc pc = .ok (.dstore i, 2)) (k : zG K Z Ω F cb sb (pc + 2) lv2 st μ res) : zG K Z Ω F cb sb pc lv (.double x :: st) μ res := by
  intro a ha H locs ls cells slots hΩ hS hl hc hs
  exact lv_dstore hK.1 hK.2.1 hd hl (by rw [hK.2.2.1]; exact hn) rfl (fun ls2 hl2 => k a ha H locs ls2 cells slots hΩ hS (lv_sub hl2 ks hp) hc hs)
theorem g_iinc (hK : zOk K Z cc own nL ret fr lo mc ms) {i : Nat} {n : Int} {x : Int} {f : Int → Option α} {lv2 : Int → List (Nat × Value)} (j : Nat) (hj : lv[j]? = some (i, .int (zi x))) (ks : List Nat) (hp : ∀ v : Int, lv_pick ((i, .int (zi v)) :: lv.filter (fun q => !(q.1 == i) && !(q.1 + 1 == i && q.2.category == 2))) ks = lv2 v) (hn : i < nL) (hd : decode cc pc = .ok (.iinc i n, 3)) (k : ∀ v : Int, zr v → zG K Z Ω F cb sb (pc + 3) (lv2 v) st μ (f v)) : zG K Z Ω F cb sb pc lv st μ (zgl (x + n) f) := by
  intro a ha H locs ls cells slots hΩ hS hl hc hs
  obtain ⟨g, ha⟩ := zgl_some ha
  exact lv_iinc hK.1 hK.2.1 hd hl hj (zi_add x n).symm (by rw [hK.2.2.1]; exact hn) rfl (fun ls2 hl2 => k _ g a ha H locs ls2 cells slots hΩ hS (lv_sub hl2 ks (hp _)) hc hs)
theorem g_lv {lv2 : List (Nat × Value)} (ks : List Nat) (hp : lv_pick lv ks = lv2) (k : zG K Z Ω F cb sb pc lv2 st μ res) : zG K Z Ω F cb sb pc lv st μ res := fun a ha H locs ls cells slots hΩ hS hl hc hs => k a ha H locs ls cells slots hΩ hS (lv_sub hl ks hp) hc hs
theorem g_bud {cb2 sb2 : Nat} (h1 : cb2 ≤ cb) (h2 : sb2 ≤ sb) (k : zG K Z Ω F cb2 sb2 pc lv st μ res) : zG K Z Ω F cb sb pc lv st μ res := fun a ha H locs ls cells slots hΩ hS hl hc hs => k a ha H locs ls cells slots hΩ hS hl (by omega) (by omega)
theorem g_none : zG K Z Ω F cb sb pc lv st μ none := fun a ha => nomatch ha
theorem g_if_eq (hK : zOk K Z cc own nL ret fr lo mc ms) {x : Int} {off : Int} {tgt : Nat} {A B : Option α} (hx : zr x) (ht : (pc : Int) + off = (tgt : Int)) (hd : decode cc pc = .ok (.ifCond .eq off, 3)) (kt : x = 0 → zG K Z Ω F cb sb tgt lv st μ A) (kf : ¬ (x = 0) → zG K Z Ω F cb sb (pc + 3) lv st μ B) : zG K Z Ω F cb sb pc lv (.int (zi x) :: st) μ (if x = 0 then A else B) := by
  intro a ha H locs ls cells slots hΩ hS hl hc hs
  have z0 : zr 0 := ⟨by decide, by decide⟩
  have e : zi x = 0 ↔ x = 0 := zi_eq hx z0
  refine lv_if_eq hK.1 hK.2.1 hd ht (fun q => ?_) (fun q => ?_)
  · have q1 := e.mp q
    rw [if_pos q1] at ha
    exact kt q1 a ha H locs ls cells slots hΩ hS hl hc hs
  · have q1 := fun h9 => q (e.mpr h9)
    rw [if_neg q1] at ha
    exact kf q1 a ha H locs ls cells slots hΩ hS hl hc hs
theorem g_if_lt (hK : zOk K Z cc own nL ret fr lo mc ms) {x : Int} {off : Int} {tgt : Nat} {A B : Option α} (hx : zr x) (ht : (pc : Int) + off = (tgt : Int)) (hd : decode cc pc = .ok (.ifCond .lt off, 3)) (kt : x < 0 → zG K Z Ω F cb sb tgt lv st μ A) (kf : ¬ (x < 0) → zG K Z Ω F cb sb (pc + 3) lv st μ B) : zG K Z Ω F cb sb pc lv (.int (zi x) :: st) μ (if x < 0 then A else B) := by
  intro a ha H locs ls cells slots hΩ hS hl hc hs
  have z0 : zr 0 := ⟨by decide, by decide⟩
  have e : zi x < 0 ↔ x < 0 := zi_lt hx z0
  refine lv_if_lt hK.1 hK.2.1 hd ht (fun q => ?_) (fun q => ?_)
  · have q1 := e.mp q
    rw [if_pos q1] at ha
    exact kt q1 a ha H locs ls cells slots hΩ hS hl hc hs
  · have q1 := fun h9 => q (e.mpr h9)
    rw [if_neg q1] at ha
    exact kf q1 a ha H locs ls cells slots hΩ hS hl hc hs
theorem g_if_ge (hK : zOk K Z cc own nL ret fr lo mc ms) {x : Int} {off : Int} {tgt : Nat} {A B : Option α} (hx : zr x) (ht : (pc : Int) + off = (tgt : Int)) (hd : decode cc pc = .ok (.ifCond .ge off, 3)) (kt : 0 ≤ x → zG K Z Ω F cb sb tgt lv st μ A) (kf : ¬ (0 ≤ x) → zG K Z Ω F cb sb (pc + 3) lv st μ B) : zG K Z Ω F cb sb pc lv (.int (zi x) :: st) μ (if 0 ≤ x then A else B) := by
  intro a ha H locs ls cells slots hΩ hS hl hc hs
  have z0 : zr 0 := ⟨by decide, by decide⟩
  have e : 0 ≤ zi x ↔ 0 ≤ x := zi_le z0 hx
  refine lv_if_ge hK.1 hK.2.1 hd ht (fun q => ?_) (fun q => ?_)
  · have q1 := e.mp q
    rw [if_pos q1] at ha
    exact kt q1 a ha H locs ls cells slots hΩ hS hl hc hs
  · have q1 := fun h9 => q (e.mpr h9)
    rw [if_neg q1] at ha
    exact kf q1 a ha H locs ls cells slots hΩ hS hl hc hs
theorem g_if_gt (hK : zOk K Z cc own nL ret fr lo mc ms) {x : Int} {off : Int} {tgt : Nat} {A B : Option α} (hx : zr x) (ht : (pc : Int) + off = (tgt : Int)) (hd : decode cc pc = .ok (.ifCond .gt off, 3)) (kt : 0 < x → zG K Z Ω F cb sb tgt lv st μ A) (kf : ¬ (0 < x) → zG K Z Ω F cb sb (pc + 3) lv st μ B) : zG K Z Ω F cb sb pc lv (.int (zi x) :: st) μ (if 0 < x then A else B) := by
  intro a ha H locs ls cells slots hΩ hS hl hc hs
  have z0 : zr 0 := ⟨by decide, by decide⟩
  have e : 0 < zi x ↔ 0 < x := zi_lt z0 hx
  refine lv_if_gt hK.1 hK.2.1 hd ht (fun q => ?_) (fun q => ?_)
  · have q1 := e.mp q
    rw [if_pos q1] at ha
    exact kt q1 a ha H locs ls cells slots hΩ hS hl hc hs
  · have q1 := fun h9 => q (e.mpr h9)
    rw [if_neg q1] at ha
    exact kf q1 a ha H locs ls cells slots hΩ hS hl hc hs
theorem g_if_le (hK : zOk K Z cc own nL ret fr lo mc ms) {x : Int} {off : Int} {tgt : Nat} {A B : Option α} (hx : zr x) (ht : (pc : Int) + off = (tgt : Int)) (hd : decode cc pc = .ok (.ifCond .le off, 3)) (kt : x ≤ 0 → zG K Z Ω F cb sb tgt lv st μ A) (kf : ¬ (x ≤ 0) → zG K Z Ω F cb sb (pc + 3) lv st μ B) : zG K Z Ω F cb sb pc lv (.int (zi x) :: st) μ (if x ≤ 0 then A else B) := by
  intro a ha H locs ls cells slots hΩ hS hl hc hs
  have z0 : zr 0 := ⟨by decide, by decide⟩
  have e : zi x ≤ 0 ↔ x ≤ 0 := zi_le hx z0
  refine lv_if_le hK.1 hK.2.1 hd ht (fun q => ?_) (fun q => ?_)
  · have q1 := e.mp q
    rw [if_pos q1] at ha
    exact kt q1 a ha H locs ls cells slots hΩ hS hl hc hs
  · have q1 := fun h9 => q (e.mpr h9)
    rw [if_neg q1] at ha
    exact kf q1 a ha H locs ls cells slots hΩ hS hl hc hs
theorem g_icmp_eq (hK : zOk K Z cc own nL ret fr lo mc ms) {x y : Int} {off : Int} {tgt : Nat} {A B : Option α} (hx : zr x) (hy : zr y) (ht : (pc : Int) + off = (tgt : Int)) (hd : decode cc pc = .ok (.if_icmp .eq off, 3)) (kt : x = y → zG K Z Ω F cb sb tgt lv st μ A) (kf : ¬ (x = y) → zG K Z Ω F cb sb (pc + 3) lv st μ B) : zG K Z Ω F cb sb pc lv (.int (zi y) :: .int (zi x) :: st) μ (if x = y then A else B) := by
  intro a ha H locs ls cells slots hΩ hS hl hc hs
  have e : zi x = zi y ↔ x = y := zi_eq hx hy
  refine lv_icmp_eq hK.1 hK.2.1 hd ht (fun q => ?_) (fun q => ?_)
  · have q1 := e.mp q
    rw [if_pos q1] at ha
    exact kt q1 a ha H locs ls cells slots hΩ hS hl hc hs
  · have q1 := fun h9 => q (e.mpr h9)
    rw [if_neg q1] at ha
    exact kf q1 a ha H locs ls cells slots hΩ hS hl hc hs
theorem g_icmp_lt (hK : zOk K Z cc own nL ret fr lo mc ms) {x y : Int} {off : Int} {tgt : Nat} {A B : Option α} (hx : zr x) (hy : zr y) (ht : (pc : Int) + off = (tgt : Int)) (hd : decode cc pc = .ok (.if_icmp .lt off, 3)) (kt : x < y → zG K Z Ω F cb sb tgt lv st μ A) (kf : ¬ (x < y) → zG K Z Ω F cb sb (pc + 3) lv st μ B) : zG K Z Ω F cb sb pc lv (.int (zi y) :: .int (zi x) :: st) μ (if x < y then A else B) := by
  intro a ha H locs ls cells slots hΩ hS hl hc hs
  have e : zi x < zi y ↔ x < y := zi_lt hx hy
  refine lv_icmp_lt hK.1 hK.2.1 hd ht (fun q => ?_) (fun q => ?_)
  · have q1 := e.mp q
    rw [if_pos q1] at ha
    exact kt q1 a ha H locs ls cells slots hΩ hS hl hc hs
  · have q1 := fun h9 => q (e.mpr h9)
    rw [if_neg q1] at ha
    exact kf q1 a ha H locs ls cells slots hΩ hS hl hc hs
theorem g_icmp_ge (hK : zOk K Z cc own nL ret fr lo mc ms) {x y : Int} {off : Int} {tgt : Nat} {A B : Option α} (hx : zr x) (hy : zr y) (ht : (pc : Int) + off = (tgt : Int)) (hd : decode cc pc = .ok (.if_icmp .ge off, 3)) (kt : y ≤ x → zG K Z Ω F cb sb tgt lv st μ A) (kf : ¬ (y ≤ x) → zG K Z Ω F cb sb (pc + 3) lv st μ B) : zG K Z Ω F cb sb pc lv (.int (zi y) :: .int (zi x) :: st) μ (if y ≤ x then A else B) := by
  intro a ha H locs ls cells slots hΩ hS hl hc hs
  have e : zi y ≤ zi x ↔ y ≤ x := zi_le hy hx
  refine lv_icmp_ge hK.1 hK.2.1 hd ht (fun q => ?_) (fun q => ?_)
  · have q1 := e.mp q
    rw [if_pos q1] at ha
    exact kt q1 a ha H locs ls cells slots hΩ hS hl hc hs
  · have q1 := fun h9 => q (e.mpr h9)
    rw [if_neg q1] at ha
    exact kf q1 a ha H locs ls cells slots hΩ hS hl hc hs
theorem g_icmp_gt (hK : zOk K Z cc own nL ret fr lo mc ms) {x y : Int} {off : Int} {tgt : Nat} {A B : Option α} (hx : zr x) (hy : zr y) (ht : (pc : Int) + off = (tgt : Int)) (hd : decode cc pc = .ok (.if_icmp .gt off, 3)) (kt : y < x → zG K Z Ω F cb sb tgt lv st μ A) (kf : ¬ (y < x) → zG K Z Ω F cb sb (pc + 3) lv st μ B) : zG K Z Ω F cb sb pc lv (.int (zi y) :: .int (zi x) :: st) μ (if y < x then A else B) := by
  intro a ha H locs ls cells slots hΩ hS hl hc hs
  have e : zi y < zi x ↔ y < x := zi_lt hy hx
  refine lv_icmp_gt hK.1 hK.2.1 hd ht (fun q => ?_) (fun q => ?_)
  · have q1 := e.mp q
    rw [if_pos q1] at ha
    exact kt q1 a ha H locs ls cells slots hΩ hS hl hc hs
  · have q1 := fun h9 => q (e.mpr h9)
    rw [if_neg q1] at ha
    exact kf q1 a ha H locs ls cells slots hΩ hS hl hc hs
theorem g_icmp_le (hK : zOk K Z cc own nL ret fr lo mc ms) {x y : Int} {off : Int} {tgt : Nat} {A B : Option α} (hx : zr x) (hy : zr y) (ht : (pc : Int) + off = (tgt : Int)) (hd : decode cc pc = .ok (.if_icmp .le off, 3)) (kt : x ≤ y → zG K Z Ω F cb sb tgt lv st μ A) (kf : ¬ (x ≤ y) → zG K Z Ω F cb sb (pc + 3) lv st μ B) : zG K Z Ω F cb sb pc lv (.int (zi y) :: .int (zi x) :: st) μ (if x ≤ y then A else B) := by
  intro a ha H locs ls cells slots hΩ hS hl hc hs
  have e : zi x ≤ zi y ↔ x ≤ y := zi_le hx hy
  refine lv_icmp_le hK.1 hK.2.1 hd ht (fun q => ?_) (fun q => ?_)
  · have q1 := e.mp q
    rw [if_pos q1] at ha
    exact kt q1 a ha H locs ls cells slots hΩ hS hl hc hs
  · have q1 := fun h9 => q (e.mpr h9)
    rw [if_neg q1] at ha
    exact kf q1 a ha H locs ls cells slots hΩ hS hl hc hs
theorem g_if_ne (hK : zOk K Z cc own nL ret fr lo mc ms) {x : Int} {off : Int} {tgt : Nat} {A B : Option α} (hx : zr x) (ht : (pc : Int) + off = (tgt : Int)) (hd : decode cc pc = .ok (.ifCond .ne off, 3)) (kt : ¬ x = 0 → zG K Z Ω F cb sb tgt lv st μ B) (kf : x = 0 → zG K Z Ω F cb sb (pc + 3) lv st μ A) : zG K Z Ω F cb sb pc lv (.int (zi x) :: st) μ (if x = 0 then A else B) := by
  intro a ha H locs ls cells slots hΩ hS hl hc hs
  have z0 : zr 0 := ⟨by decide, by decide⟩
  have e : zi x = 0 ↔ x = 0 := zi_eq hx z0
  refine lv_if_ne hK.1 hK.2.1 hd ht (fun q => ?_) (fun q => ?_)
  · have q1 := fun h9 => q (e.mpr h9)
    rw [if_neg q1] at ha
    exact kt q1 a ha H locs ls cells slots hΩ hS hl hc hs
  · have q1 := e.mp q
    rw [if_pos q1] at ha
    exact kf q1 a ha H locs ls cells slots hΩ hS hl hc hs
theorem g_icmp_ne (hK : zOk K Z cc own nL ret fr lo mc ms) {x y : Int} {off : Int} {tgt : Nat} {A B : Option α} (hx : zr x) (hy : zr y) (ht : (pc : Int) + off = (tgt : Int)) (hd : decode cc pc = .ok (.if_icmp .ne off, 3)) (kt : ¬ x = y → zG K Z Ω F cb sb tgt lv st μ B) (kf : x = y → zG K Z Ω F cb sb (pc + 3) lv st μ A) : zG K Z Ω F cb sb pc lv (.int (zi y) :: .int (zi x) :: st) μ (if x = y then A else B) := by
  intro a ha H locs ls cells slots hΩ hS hl hc hs
  have e : zi x = zi y ↔ x = y := zi_eq hx hy
  refine lv_icmp_ne hK.1 hK.2.1 hd ht (fun q => ?_) (fun q => ?_)
  · have q1 := fun h9 => q (e.mpr h9)
    rw [if_neg q1] at ha
    exact kt q1 a ha H locs ls cells slots hΩ hS hl hc hs
  · have q1 := e.mp q
    rw [if_pos q1] at ha
    exact kf q1 a ha H locs ls cells slots hΩ hS hl hc hs
theorem g_goto (hK : zOk K Z cc own nL ret fr lo mc ms) {off : Int} {tgt : Nat} (ht : (pc : Int) + off = (tgt : Int)) (hd : decode cc pc = .ok (.goto off, 3)) (k : zG K Z Ω F cb sb tgt lv st μ res) : zG K Z Ω F cb sb pc lv st μ res := by
  intro a ha H locs ls cells slots hΩ hS hl hc hs
  exact lv_goto hK.1 hK.2.1 hd ht (k a ha H locs ls cells slots hΩ hS hl hc hs)
theorem g_case {x v : Int} {A B : Option α} (kt : x = v → zG K Z Ω F cb sb pc lv (.int (zi x) :: st) μ A) (kf : ¬ x = v → zG K Z Ω F cb sb pc lv (.int (zi x) :: st) μ B) : zG K Z Ω F cb sb pc lv (.int (zi x) :: st) μ (if x = v then A else B) := by
  intro a ha H locs ls cells slots hΩ hS hl hc hs
  by_cases q : x = v
  · rw [if_pos q] at ha; exact kt q a ha H locs ls cells slots hΩ hS hl hc hs
  · rw [if_neg q] at ha; exact kf q a ha H locs ls cells slots hΩ hS hl hc hs
theorem g_tabIn (hK : zOk K Z cc own nL ret fr lo mc ms) {dflt lo9 hi9 : Int} {offs : Array Int} {len : Nat} {x v : Int} {off : Int} {tgt : Nat} (hx : zr x) (hxv : x = v) (h1 : ¬ v < lo9) (h2 : ¬ hi9 < v) (ho : offs[(v - lo9).toNat]? = some off) (ht : (pc : Int) + off = (tgt : Int)) (hd : decode cc pc = .ok (.tableswitch dflt lo9 hi9 offs, len)) (k : zG K Z Ω F cb sb tgt lv st μ res) : zG K Z Ω F cb sb pc lv (.int (zi x) :: st) μ res := by
  intro a ha H locs ls cells slots hΩ hS hl hc hs
  subst hxv
  have e := zi_toInt hx
  exact lv_tableIn hK.1 hK.2.1 hd (by rw [e]; exact h1) (by rw [e]; exact h2) (by rw [e]; exact ho) ht (k a ha H locs ls cells slots hΩ hS hl hc hs)
theorem g_tabOut (hK : zOk K Z cc own nL ret fr lo mc ms) {dflt lo9 hi9 : Int} {offs : Array Int} {len : Nat} {x : Int} {tgt : Nat} (hx : zr x) (h : x < lo9 ∨ hi9 < x) (ht : (pc : Int) + dflt = (tgt : Int)) (hd : decode cc pc = .ok (.tableswitch dflt lo9 hi9 offs, len)) (k : zG K Z Ω F cb sb tgt lv st μ res) : zG K Z Ω F cb sb pc lv (.int (zi x) :: st) μ res := by
  intro a ha H locs ls cells slots hΩ hS hl hc hs
  exact lv_tableOut hK.1 hK.2.1 hd (by rw [zi_toInt hx]; exact h) ht (k a ha H locs ls cells slots hΩ hS hl hc hs)
theorem g_lookup (hK : zOk K Z cc own nL ret fr lo mc ms) {dflt : Int} {ps : Array (Int × Int)} {len : Nat} {x : Int} {off : Int} {tgt : Nat} (hx : zr x) (hp : (ps.toList.zip (ps.toList.drop 1)).all (fun (a, next) => a.1 < next.1) = true) (ho : Op.lookupswitch.offset ps.toList dflt x = off) (ht : (pc : Int) + off = (tgt : Int)) (hd : decode cc pc = .ok (.lookupswitch dflt ps, len)) (k : zG K Z Ω F cb sb tgt lv st μ res) : zG K Z Ω F cb sb pc lv (.int (zi x) :: st) μ res := by
  intro a ha H locs ls cells slots hΩ hS hl hc hs
  exact lv_lookup hK.1 hK.2.1 hd hp (by rw [zi_toInt hx]; exact ho) ht (k a ha H locs ls cells slots hΩ hS hl hc hs)
end zRows
/-! THE PURE SIDE'S COMBINATORS: what follows an answer -/
/-- behind a call that may fail: reads alone -/
def zco {β γ : Type} (e : Option β) (f : β → Option γ) : Option γ := match e with
  | none => none
  | some x => f x
/-- behind a call that changes the memory -/
def zcl2 {σ β γ : Type} (e : Option (β × σ)) (f : β → σ → Option γ) : Option γ := match e with
  | none => none
  | some (x, μ) => f x μ
def zcm {σ γ : Type} (e : Option σ) (f : σ → Option γ) : Option γ := match e with
  | none => none
  | some μ => f μ
/-- behind a call that may throw, in a method that doesn't catch -/
def zcx {σ β γ : Type} (e : Option ((String ⊕ β) × σ)) (f : β → σ → Option ((String ⊕ γ) × σ)) : Option ((String ⊕ γ) × σ) := match e with
  | none => none
  | some (.inl E, μ) => some (.inl E, μ)
  | some (.inr x, μ) => f x μ
section zNames
variable {K : zK} {Z : zZ} {σ α : Type} {Ω : σ → Heap → Prop} {F : α → State → Prop} {cc : ByteArray} {own : String} {nL fr lo mc ms cb sb pc : Nat} {ret : Option FieldType} {lv : List (Nat × Value)} {st : List Value} {μ : σ} {res : Option α}
theorem g_ltF {e : UInt32} {f : UInt32 → Option α} (k : ∀ x : UInt32, zG K Z Ω F cb sb pc lv (.float x :: st) μ (f x)) : zG K Z Ω F cb sb pc lv (.float e :: st) μ (zlt e f) := k e
theorem g_ltD {e : UInt64} {f : UInt64 → Option α} (k : ∀ x : UInt64, zG K Z Ω F cb sb pc lv (.double x :: st) μ (f x)) : zG K Z Ω F cb sb pc lv (.double e :: st) μ (zlt e f) := k e
theorem g_ltM {e : σ} {f : σ → Option α} (k : ∀ x : σ, zG K Z Ω F cb sb pc lv st x (f x)) : zG K Z Ω F cb sb pc lv st e (zlt e f) := k e
theorem g_gd {c : Prop} {A : Option α} (k : c → zG K Z Ω F cb sb pc lv st μ A) : zG K Z Ω F cb sb pc lv st μ (zgd c A) := fun a ha => let q := zgd_some ha; k q.1 a q.2
end zNames
