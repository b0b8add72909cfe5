section zRows
variable {K : zK} {Z : zZ} {σ α : Type} {Ω : σ → Heap → Prop} {F : α → State → Prop} {cc : ByteArray} {own : String} {nL fr lo mc ms cb sb pc : Nat} {ret : Option FieldType} {lv : List (Nat × Value)} {st : List Value} {μ : σ} {res : Option α}
theorem g_iadd (hK : zOk K Z cc own nL ret fr lo mc ms) {x y : Int32} (hd : decode cc pc = .ok (.iadd, 1)) (k : zG K Z Ω F cb sb (pc + 1) lv (.int (x + y) :: st) μ res) : zG K Z Ω F cb sb pc lv (.int y :: .int x :: st) μ res := by
  intro a ha H locs ls cells slots hΩ hS hl hc hs
  exact lv_iadd hK.1 hK.2.1 hd (k a ha H locs ls cells slots hΩ hS hl hc hs)
theorem g_isub (hK : zOk K Z cc own nL ret fr lo mc ms) {x y : Int32} (hd : decode cc pc = .ok (.isub, 1)) (k : zG K Z Ω F cb sb (pc + 1) lv (.int (x - y) :: st) μ res) : zG K Z Ω F cb sb pc lv (.int y :: .int x :: st) μ res := by
  intro a ha H locs ls cells slots hΩ hS hl hc hs
  exact lv_isub hK.1 hK.2.1 hd (k a ha H locs ls cells slots hΩ hS hl hc hs)
theorem g_imul (hK : zOk K Z cc own nL ret fr lo mc ms) {x y : Int32} (hd : decode cc pc = .ok (.imul, 1)) (k : zG K Z Ω F cb sb (pc + 1) lv (.int (x * y) :: st) μ res) : zG K Z Ω F cb sb pc lv (.int y :: .int x :: st) μ res := by
  intro a ha H locs ls cells slots hΩ hS hl hc hs
  exact lv_imul hK.1 hK.2.1 hd (k a ha H locs ls cells slots hΩ hS hl hc hs)
theorem g_iand (hK : zOk K Z cc own nL ret fr lo mc ms) {x y : Int32} (hd : decode cc pc = .ok (.iand, 1)) (k : zG K Z Ω F cb sb (pc + 1) lv (.int (x &&& y) :: st) μ res) : zG K Z Ω F cb sb pc lv (.int y :: .int x :: st) μ res := by
  intro a ha H locs ls cells slots hΩ hS hl hc hs
  exact lv_iand hK.1 hK.2.1 hd (k a ha H locs ls cells slots hΩ hS hl hc hs)
theorem g_ior (hK : zOk K Z cc own nL ret fr lo mc ms) {x y : Int32} (hd : decode cc pc = .ok (.ior, 1)) (k : zG K Z Ω F cb sb (pc + 1) lv (.int (x ||| y) :: st) μ res) : zG K Z Ω F cb sb pc lv (.int y :: .int x :: st) μ res := by
  intro a ha H locs ls cells slots hΩ hS hl hc hs
  exact lv_ior hK.1 hK.2.1 hd (k a ha H locs ls cells slots hΩ hS hl hc hs)
theorem g_ixor (hK : zOk K Z cc own nL ret fr lo mc ms) {x y : Int32} (hd : decode cc pc = .ok (.ixor, 1)) (k : zG K Z Ω F cb sb (pc + 1) lv (.int (x ^^^ y) :: st) μ res) : zG K Z Ω F cb sb pc lv (.int y :: .int x :: st) μ res := by
  intro a ha H locs ls cells slots hΩ hS hl hc hs
  exact lv_ixor hK.1 hK.2.1 hd (k a ha H locs ls cells slots hΩ hS hl hc hs)
theorem g_ishl (hK : zOk K Z cc own nL ret fr lo mc ms) {x y : Int32} (hd : decode cc pc = .ok (.ishl, 1)) (k : zG K Z Ω F cb sb (pc + 1) lv (.int (x <<< (y &&& 31)) :: st) μ res) : zG K Z Ω F cb sb pc lv (.int y :: .int x :: st) μ res := by
  intro a ha H locs ls cells slots hΩ hS hl hc hs
  exact lv_ishl hK.1 hK.2.1 hd (k a ha H locs ls cells slots hΩ hS hl hc hs)
theorem g_ishr (hK : zOk K Z cc own nL ret fr lo mc ms) {x y : Int32} (hd : decode cc pc = .ok (.ishr, 1)) (k : zG K Z Ω F cb sb (pc + 1) lv (.int (x >>> (y &&& 31)) :: st) μ res) : zG K Z Ω F cb sb pc lv (.int y :: .int x :: st) μ res := by
  intro a ha H locs ls cells slots hΩ hS hl hc hs
  exact lv_ishr hK.1 hK.2.1 hd (k a ha H locs ls cells slots hΩ hS hl hc hs)
theorem g_iushr (hK : zOk K Z cc own nL ret fr lo mc ms) {x y : Int32} (hd : decode cc pc = .ok (.iushr, 1)) (k : zG K Z Ω F cb sb (pc + 1) lv (.int ((x.toUInt32 >>> (y.toUInt32 &&& Int32.toUInt32 31)).toInt32) :: st) μ res) : zG K Z Ω F cb sb pc lv (.int y :: .int x :: st) μ res := by
  intro a ha H locs ls cells slots hΩ hS hl hc hs
  exact lv_iushr hK.1 hK.2.1 hd rfl (k a ha H locs ls cells slots hΩ hS hl hc hs)
theorem g_idiv (hK : zOk K Z cc own nL ret fr lo mc ms) {x y : Int32} (hd : decode cc pc = .ok (.idiv, 1)) (hy : ¬ y = 0) (k : zG K Z Ω F cb sb (pc + 1) lv (.int (x / y) :: st) μ res) : zG K Z Ω F cb sb pc lv (.int y :: .int x :: st) μ res := by
  intro a ha H locs ls cells slots hΩ hS hl hc hs
  exact lv_idiv hK.1 hK.2.1 hd hy (k a ha H locs ls cells slots hΩ hS hl hc hs)
theorem g_irem (hK : zOk K Z cc own nL ret fr lo mc ms) {x y : Int32} (hd : decode cc pc = .ok (.irem, 1)) (hy : ¬ y = 0) (k : zG K Z Ω F cb sb (pc + 1) lv (.int (x - x / y * y) :: st) μ res) : zG K Z Ω F cb sb pc lv (.int y :: .int x :: st) μ res := by
  intro a ha H locs ls cells slots hΩ hS hl hc hs
  exact lv_irem hK.1 hK.2.1 hd hy (k a ha H locs ls cells slots hΩ hS hl hc hs)
theorem g_ineg (hK : zOk K Z cc own nL ret fr lo mc ms) {x : Int32} (hd : decode cc pc = .ok (.ineg, 1)) (k : zG K Z Ω F cb sb (pc + 1) lv (.int (-x) :: st) μ res) : zG K Z Ω F cb sb pc lv (.int x :: st) μ res := by
  intro a ha H locs ls cells slots hΩ hS hl hc hs
  exact lv_ineg hK.1 hK.2.1 hd (k a ha H locs ls cells slots hΩ hS hl hc hs)
theorem g_ladd (hK : zOk K Z cc own nL ret fr lo mc ms) {x y : Int64} (hd : decode cc pc = .ok (.ladd, 1)) (k : zG K Z Ω F cb sb (pc + 1) lv (.long (x + y) :: st) μ res) : zG K Z Ω F cb sb pc lv (.long y :: .long x :: st) μ res := by
  intro a ha H locs ls cells slots hΩ hS hl hc hs
  exact lv_ladd hK.1 hK.2.1 hd (k a ha H locs ls cells slots hΩ hS hl hc hs)
theorem g_lsub (hK : zOk K Z cc own nL ret fr lo mc ms) {x y : Int64} (hd : decode cc pc = .ok (.lsub, 1)) (k : zG K Z Ω F cb sb (pc + 1) lv (.long (x - y) :: st) μ res) : zG K Z Ω F cb sb pc lv (.long y :: .long x :: st) μ res := by
  intro a ha H locs ls cells slots hΩ hS hl hc hs
  exact lv_lsub hK.1 hK.2.1 hd (k a ha H locs ls cells slots hΩ hS hl hc hs)
theorem g_lmul (hK : zOk K Z cc own nL ret fr lo mc ms) {x y : Int64} (hd : decode cc pc = .ok (.lmul, 1)) (k : zG K Z Ω F cb sb (pc + 1) lv (.long (x * y) :: st) μ res) : zG K Z Ω F cb sb pc lv (.long y :: .long x :: st) μ res := by
  intro a ha H locs ls cells slots hΩ hS hl hc hs
  exact lv_lmul hK.1 hK.2.1 hd (k a ha H locs ls cells slots hΩ hS hl hc hs)
theorem g_ldiv (hK : zOk K Z cc own nL ret fr lo mc ms) {x y : Int64} (hd : decode cc pc = .ok (.ldiv, 1)) (hy : ¬ y = 0) (k : zG K Z Ω F cb sb (pc + 1) lv (.long (x / y) :: st) μ res) : zG K Z Ω F cb sb pc lv (.long y :: .long x :: st) μ res := by
  intro a ha H locs ls cells slots hΩ hS hl hc hs
  exact lv_ldiv hK.1 hK.2.1 hd hy (k a ha H locs ls cells slots hΩ hS hl hc hs)
theorem g_lrem (hK : zOk K Z cc own nL ret fr lo mc ms) {x y : Int64} (hd : decode cc pc = .ok (.lrem, 1)) (hy : ¬ y = 0) (k : zG K Z Ω F cb sb (pc + 1) lv (.long (x - x / y * y) :: st) μ res) : zG K Z Ω F cb sb pc lv (.long y :: .long x :: st) μ res := by
  intro a ha H locs ls cells slots hΩ hS hl hc hs
  exact lv_lrem hK.1 hK.2.1 hd hy (k a ha H locs ls cells slots hΩ hS hl hc hs)
theorem g_i2l (hK : zOk K Z cc own nL ret fr lo mc ms) {x : Int32} (hd : decode cc pc = .ok (.i2l, 1)) (k : zG K Z Ω F cb sb (pc + 1) lv (.long x.toInt64 :: st) μ res) : zG K Z Ω F cb sb pc lv (.int x :: st) μ res := by
  intro a ha H locs ls cells slots hΩ hS hl hc hs
  exact lv_i2l hK.1 hK.2.1 hd rfl (k a ha H locs ls cells slots hΩ hS hl hc hs)
theorem g_l2i (hK : zOk K Z cc own nL ret fr lo mc ms) {x : Int64} (hd : decode cc pc = .ok (.l2i, 1)) (k : zG K Z Ω F cb sb (pc + 1) lv (.int x.toInt32 :: st) μ res) : zG K Z Ω F cb sb pc lv (.long x :: st) μ res := by
  intro a ha H locs ls cells slots hΩ hS hl hc hs
  exact lv_l2i hK.1 hK.2.1 hd rfl (k a ha H locs ls cells slots hΩ hS hl hc hs)
theorem g_lcmp (hK : zOk K Z cc own nL ret fr lo mc ms) {x y : Int64} (hd : decode cc pc = .ok (.lcmp, 1)) (k : zG K Z Ω F cb sb (pc + 1) lv (.int (lg_cmp x y) :: st) μ res) : zG K Z Ω F cb sb pc lv (.long y :: .long x :: st) μ res := by
  intro a ha H locs ls cells slots hΩ hS hl hc hs
  exact W.lcmp hK.1 hK.2.1 hd (k a ha H locs ls cells slots hΩ hS hl hc hs)
theorem g_i2f (hK : zOk K Z cc own nL ret fr lo mc ms) {x : Int32} (hd : decode cc pc = .ok (.i2f, 1)) (k : zG K Z Ω F cb sb (pc + 1) lv (.float (FP.i2f x) :: st) μ res) : zG K Z Ω F cb sb pc lv (.int x :: st) μ res := by
  intro a ha H locs ls cells slots hΩ hS hl hc hs
  exact lv_i2f hK.1 hK.2.1 hd (k a ha H locs ls cells slots hΩ hS hl hc hs)
theorem g_i2d (hK : zOk K Z cc own nL ret fr lo mc ms) {x : Int32} (hd : decode cc pc = .ok (.i2d, 1)) (k : zG K Z Ω F cb sb (pc + 1) lv (.double (FP.i2d x) :: st) μ res) : zG K Z Ω F cb sb pc lv (.int x :: st) μ res := by
  intro a ha H locs ls cells slots hΩ hS hl hc hs
  exact lv_i2d hK.1 hK.2.1 hd (k a ha H locs ls cells slots hΩ hS hl hc hs)
theorem g_l2d (hK : zOk K Z cc own nL ret fr lo mc ms) {x : Int64} (hd : decode cc pc = .ok (.l2d, 1)) (k : zG K Z Ω F cb sb (pc + 1) lv (.double (FP.l2d x) :: st) μ res) : zG K Z Ω F cb sb pc lv (.long x :: st) μ res := by
  intro a ha H locs ls cells slots hΩ hS hl hc hs
  exact lv_l2d hK.1 hK.2.1 hd (k a ha H locs ls cells slots hΩ hS hl hc hs)
theorem g_fdiv (hK : zOk K Z cc own nL ret fr lo mc ms) {x y : UInt32} (hd : decode cc pc = .ok (.fdiv, 1)) (hne : vf_n32 (FP.fdiv x y)) (k : zG K Z Ω F cb sb (pc + 1) lv (.float (FP.fdiv x y) :: st) μ res) : zG K Z Ω F cb sb pc lv (.float y :: .float x :: st) μ res := by
  intro a ha H locs ls cells slots hΩ hS hl hc hs
  exact lv_fdiv hK.1 hK.2.1 hd hne (k a ha H locs ls cells slots hΩ hS hl hc hs)
theorem g_ddiv (hK : zOk K Z cc own nL ret fr lo mc ms) {x y : UInt64} (hd : decode cc pc = .ok (.ddiv, 1)) (hne : vf_n64 (FP.ddiv x y)) (k : zG K Z Ω F cb sb (pc + 1) lv (.double (FP.ddiv x y) :: st) μ res) : zG K Z Ω F cb sb pc lv (.double y :: .double x :: st) μ res := by
  intro a ha H locs ls cells slots hΩ hS hl hc hs
  exact lv_ddiv hK.1 hK.2.1 hd hne (k a ha H locs ls cells slots hΩ hS hl hc hs)
theorem g_f2d (hK : zOk K Z cc own nL ret fr lo mc ms) {x : UInt32} (hd : decode cc pc = .ok (.f2d, 1)) (hne : vf_n64 (FP.f2d x)) (k : zG K Z Ω F cb sb (pc + 1) lv (.double (FP.f2d x) :: st) μ res) : zG K Z Ω F cb sb pc lv (.float x :: st) μ res := by
  intro a ha H locs ls cells slots hΩ hS hl hc hs
  exact lv_f2d hK.1 hK.2.1 hd hne (k a ha H locs ls cells slots hΩ hS hl hc hs)
theorem g_iconst (hK : zOk K Z cc own nL ret fr lo mc ms) {n : Int} {v : Int32} (hd : decode cc pc = .ok (.iconst n, 1)) (hv : Int32.ofInt n = v) (k : zG K Z Ω F cb sb (pc + 1) lv (.int v :: st) μ res) : zG K Z Ω F cb sb pc lv st μ res := by
  intro a ha H locs ls cells slots hΩ hS hl hc hs
  exact lv_iconst hK.1 hK.2.1 hd hv (k a ha H locs ls cells slots hΩ hS hl hc hs)
theorem g_bipush (hK : zOk K Z cc own nL ret fr lo mc ms) {n : Int} {v : Int32} (hd : decode cc pc = .ok (.bipush n, 2)) (hv : (Int8.ofInt n).toInt32 = v) (k : zG K Z Ω F cb sb (pc + 2) lv (.int v :: st) μ res) : zG K Z Ω F cb sb pc lv st μ res := by
  intro a ha H locs ls cells slots hΩ hS hl hc hs
  exact lv_bipush hK.1 hK.2.1 hd hv (k a ha H locs ls cells slots hΩ hS hl hc hs)
theorem g_sipush (hK : zOk K Z cc own nL ret fr lo mc ms) {n : Int} {v : Int32} (hd : decode cc pc = .ok (.sipush n, 3)) (hv : (Int16.ofInt n).toInt32 = v) (k : zG K Z Ω F cb sb (pc + 3) lv (.int v :: st) μ res) : zG K Z Ω F cb sb pc lv st μ res := by
  intro a ha H locs ls cells slots hΩ hS hl hc hs
  exact lv_sipush hK.1 hK.2.1 hd hv (k a ha H locs ls cells slots hΩ hS hl hc hs)
theorem g_lconst (hK : zOk K Z cc own nL ret fr lo mc ms) {n : Fin 2} {v : Int64} (hd : decode cc pc = .ok (.lconst n, 1)) (hv : Int64.ofNat (n : Nat) = v) (k : zG K Z Ω F cb sb (pc + 1) lv (.long v :: st) μ res) : zG K Z Ω F cb sb pc lv st μ res := by
  intro a ha H locs ls cells slots hΩ hS hl hc hs
  exact lv_lconst hK.1 hK.2.1 hd hv (k a ha H locs ls cells slots hΩ hS hl hc hs)
theorem g_dup (hK : zOk K Z cc own nL ret fr lo mc ms) {v : Value} (hd : decode cc pc = .ok (.dup, 1)) (hv : v.category = 1) (k : zG K Z Ω F cb sb (pc + 1) lv (v :: v :: st) μ res) : zG K Z Ω F cb sb pc lv (v :: st) μ res := by
  intro a ha H locs ls cells slots hΩ hS hl hc hs
  exact lv_dup hK.1 hK.2.1 hd hv (k a ha H locs ls cells slots hΩ hS hl hc hs)
theorem g_dup_x1 (hK : zOk K Z cc own nL ret fr lo mc ms) {v w : Value} (hd : decode cc pc = .ok (.dup_x1, 1)) (hv : v.category = 1) (hw : w.category = 1) (k : zG K Z Ω F cb sb (pc + 1) lv (v :: w :: v :: st) μ res) : zG K Z Ω F cb sb pc lv (v :: w :: st) μ res := by
  intro a ha H locs ls cells slots hΩ hS hl hc hs
  exact lv_dup_x1 hK.1 hK.2.1 hd hv hw (k a ha H locs ls cells slots hΩ hS hl hc hs)
theorem g_dup_x2 (hK : zOk K Z cc own nL ret fr lo mc ms) {v w u : Value} (hd : decode cc pc = .ok (.dup_x2, 1)) (hv : v.category = 1) (hw : w.category = 1) (hu : u.category = 1) (k : zG K Z Ω F cb sb (pc + 1) lv (v :: w :: u :: v :: st) μ res) : zG K Z Ω F cb sb pc lv (v :: w :: u :: st) μ res := by
  intro a ha H locs ls cells slots hΩ hS hl hc hs
  exact lv_dup_x2 hK.1 hK.2.1 hd hv hw hu (k a ha H locs ls cells slots hΩ hS hl hc hs)
theorem g_dup2 (hK : zOk K Z cc own nL ret fr lo mc ms) {v w : Value} (hd : decode cc pc = .ok (.dup2, 1)) (hv : v.category = 1) (hw : w.category = 1) (k : zG K Z Ω F cb sb (pc + 1) lv (v :: w :: v :: w :: st) μ res) : zG K Z Ω F cb sb pc lv (v :: w :: st) μ res := by
  intro a ha H locs ls cells slots hΩ hS hl hc hs
  exact lv_dup2_11 hK.1 hK.2.1 hd hv hw (k a ha H locs ls cells slots hΩ hS hl hc hs)
theorem g_dup2_2 (hK : zOk K Z cc own nL ret fr lo mc ms) {v : Value} (hd : decode cc pc = .ok (.dup2, 1)) (hv : v.category = 2) (k : zG K Z Ω F cb sb (pc + 1) lv (v :: v :: st) μ res) : zG K Z Ω F cb sb pc lv (v :: st) μ res := by
  intro a ha H locs ls cells slots hΩ hS hl hc hs
  exact lv_dup2_2 hK.1 hK.2.1 hd hv (k a ha H locs ls cells slots hΩ hS hl hc hs)
theorem g_pop (hK : zOk K Z cc own nL ret fr lo mc ms) {v : Value} (hd : decode cc pc = .ok (.pop, 1)) (hv : v.category = 1) (k : zG K Z Ω F cb sb (pc + 1) lv st μ res) : zG K Z Ω F cb sb pc lv (v :: st) μ res := by
  intro a ha H locs ls cells slots hΩ hS hl hc hs
  exact lv_pop hK.1 hK.2.1 hd hv (k a ha H locs ls cells slots hΩ hS hl hc hs)
theorem g_pop2 (hK : zOk K Z cc own nL ret fr lo mc ms) {v : Value} (hd : decode cc pc = .ok (.pop2, 1)) (hv : v.category = 2) (k : zG K Z Ω F cb sb (pc + 1) lv st μ res) : zG K Z Ω F cb sb pc lv (v :: st) μ res := by
  intro a ha H locs ls cells slots hΩ hS hl hc hs
  exact lv_pop2_2 hK.1 hK.2.1 hd hv (k a ha H locs ls cells slots hΩ hS hl hc hs)
theorem g_ldc (hK : zOk K Z cc own nL ret fr lo mc ms) {index : Nat} {v : Int32} (hw : Jvm.Cond.constant own index v ∈ zGood) (hd : decode cc pc = .ok (.ldc index, 2)) (k : zG K Z Ω F cb sb (pc + 2) lv (.int v :: st) μ res) : zG K Z Ω F cb sb pc lv st μ res := by
  intro a ha H locs ls cells slots hΩ hS hl hc hs
  exact lv_ldc hK.1 hK.2.1 hK.2.2.2.1 (hK.2.2.2.2.1 _ hw) hd (k a ha H locs ls cells slots hΩ hS hl hc hs)
theorem g_ldcw (hK : zOk K Z cc own nL ret fr lo mc ms) {index : Nat} {v : Int32} (hw : Jvm.Cond.constant own index v ∈ zGood) (hd : decode cc pc = .ok (.ldc_w index, 3)) (k : zG K Z Ω F cb sb (pc + 3) lv (.int v :: st) μ res) : zG K Z Ω F cb sb pc lv st μ res := by
  intro a ha H locs ls cells slots hΩ hS hl hc hs
  exact lv_ldcw hK.1 hK.2.1 hK.2.2.2.1 (hK.2.2.2.2.1 _ hw) hd (k a ha H locs ls cells slots hΩ hS hl hc hs)
theorem g_ldc2 (hK : zOk K Z cc own nL ret fr lo mc ms) {index : Nat} {v : Int64} (hw : Jvm.Cond.constantLong own index v ∈ zGood) (hd : decode cc pc = .ok (.ldc2_w index, 3)) (k : zG K Z Ω F cb sb (pc + 3) lv (.long v :: st) μ res) : zG K Z Ω F cb sb pc lv st μ res := by
  intro a ha H locs ls cells slots hΩ hS hl hc hs
  exact lv_ldc2 hK.1 hK.2.1 hK.2.2.2.1 (hK.2.2.2.2.1 _ hw) hd (k a ha H locs ls cells slots hΩ hS hl hc hs)
theorem g_iload_n (hK : zOk K Z cc own nL ret fr lo mc ms) {kk : Fin 4} {i : Nat} {x : Int32} (j : Nat) (hj : lv[j]? = some (i, .int x)) (hi : (kk : Nat) = i) (hd : decode cc pc = .ok (.iload_n kk, 1)) (k : zG K Z Ω F cb sb (pc + 1) lv (.int x :: st) μ res) : zG K Z Ω F cb sb pc lv st μ res := by
  intro a ha H locs ls cells slots hΩ hS hl hc hs
  exact lv_iload_n hK.1 hK.2.1 hd hi (lv_at hl j hj) (k a ha H locs ls cells slots hΩ hS hl hc hs)
theorem g_iload (hK : zOk K Z cc own nL ret fr lo mc ms) {i : Nat} {x : Int32} (j : Nat) (hj : lv[j]? = some (i, .int x)) (hd : decode cc pc = .ok (.iload i, 2)) (k : zG K Z Ω F cb sb (pc + 2) lv (.int x :: st) μ res) : zG K Z Ω F cb sb pc lv st μ res := by
  intro a ha H locs ls cells slots hΩ hS hl hc hs
  exact lv_iload hK.1 hK.2.1 hd (lv_at hl j hj) (k a ha H locs ls cells slots hΩ hS hl hc hs)
theorem g_lload_n (hK : zOk K Z cc own nL ret fr lo mc ms) {kk : Fin 4} {i : Nat} {x : Int64} (j : Nat) (hj : lv[j]? = some (i, .long x)) (hi : (kk : Nat) = i) (hd : decode cc pc = .ok (.lload_n kk, 1)) (k : zG K Z Ω F cb sb (pc + 1) lv (.long x :: st) μ res) : zG K Z Ω F cb sb pc lv st μ res := by
  intro a ha H locs ls cells slots hΩ hS hl hc hs
  exact lv_lload_n hK.1 hK.2.1 hd hi (lv_at hl j hj) (k a ha H locs ls cells slots hΩ hS hl hc hs)
theorem g_lload (hK : zOk K Z cc own nL ret fr lo mc ms) {i : Nat} {x : Int64} (j : Nat) (hj : lv[j]? = some (i, .long x)) (hd : decode cc pc = .ok (.lload i, 2)) (k : zG K Z Ω F cb sb (pc + 2) lv (.long x :: st) μ res) : zG K Z Ω F cb sb pc lv st μ res := by
  intro a ha H locs ls cells slots hΩ hS hl hc hs
  exact lv_lload hK.1 hK.2.1 hd (lv_at hl j hj) (k a ha H locs ls cells slots hΩ hS hl hc hs)
theorem g_fload_n (hK : zOk K Z cc own nL ret fr lo mc ms) {kk : Fin 4} {i : Nat} {x : UInt32} (j : Nat) (hj : lv[j]? = some (i, .float x)) (hi : (kk : Nat) = i) (hd : decode cc pc = .ok (.fload_n kk, 1)) (k : zG K Z Ω F cb sb (pc + 1) lv (.float x :: st) μ res) : zG K Z Ω F cb sb pc lv st μ res := by
  intro a ha H locs ls cells slots hΩ hS hl hc hs
  exact lv_fload_n hK.1 hK.2.1 hd hi (lv_at hl j hj) (k a ha H locs ls cells slots hΩ hS hl hc hs)
theorem g_fload (hK : zOk K Z cc own nL ret fr lo mc ms) {i : Nat} {x : UInt32} (j : Nat) (hj : lv[j]? = some (i, .float x)) (hd : decode cc pc = .ok (.fload i, 2)) (k : zG K Z Ω F cb sb (pc + 2) lv (.float x :: st) μ res) : zG K Z Ω F cb sb pc lv st μ res := by
  intro a ha H locs ls cells slots hΩ hS hl hc hs
  exact lv_fload hK.1 hK.2.1 hd (lv_at hl j hj) (k a ha H locs ls cells slots hΩ hS hl hc hs)
theorem g_dload_n (hK : zOk K Z cc own nL ret fr lo mc ms) {kk : Fin 4} {i : Nat} {x : UInt64} (j : Nat) (hj : lv[j]? = some (i, .double x)) (hi : (kk : Nat) = i) (hd : decode cc pc = .ok (.dload_n kk, 1)) (k : zG K Z Ω F cb sb (pc + 1) lv (.double x :: st) μ res) : zG K Z Ω F cb sb pc lv st μ res := by
  intro a ha H locs ls cells slots hΩ hS hl hc hs
  exact lv_dload_n hK.1 hK.2.1 hd hi (lv_at hl j hj) (k a ha H locs ls cells slots hΩ hS hl hc hs)
theorem g_dload (hK : zOk K Z cc own nL ret fr lo mc ms) {i : Nat} {x : UInt64} (j : Nat) (hj : lv[j]? = some (i, .double x)) (hd : decode cc pc = .ok (.dload i, 2)) (k : zG K Z Ω F cb sb (pc + 2) lv (.double x :: st) μ res) : zG K Z Ω F cb sb pc lv st μ res := by
  intro a ha H locs ls cells slots hΩ hS hl hc hs
  exact lv_dload hK.1 hK.2.1 hd (lv_at hl j hj) (k a ha H locs ls cells slots hΩ hS hl hc hs)
theorem g_aload_n (hK : zOk K Z cc own nL ret fr lo mc ms) {kk : Fin 4} {i : Nat} {x : Nat} (j : Nat) (hj : lv[j]? = some (i, .ref x)) (hi : (kk : Nat) = i) (hd : decode cc pc = .ok (.aload_n kk, 1)) (k : zG K Z Ω F cb sb (pc + 1) lv (.ref x :: st) μ res) : zG K Z Ω F cb sb pc lv st μ res := by
  intro a ha H locs ls cells slots hΩ hS hl hc hs
  exact lv_aload_n hK.1 hK.2.1 hd hi (lv_at hl j hj) (k a ha H locs ls cells slots hΩ hS hl hc hs)
theorem g_aload (hK : zOk K Z cc own nL ret fr lo mc ms) {i : Nat} {x : Nat} (j : Nat) (hj : lv[j]? = some (i, .ref x)) (hd : decode cc pc = .ok (.aload i, 2)) (k : zG K Z Ω F cb sb (pc + 2) lv (.ref x :: st) μ res) : zG K Z Ω F cb sb pc lv st μ res := by
  intro a ha H locs ls cells slots hΩ hS hl hc hs
  exact lv_aload hK.1 hK.2.1 hd (lv_at hl j hj) (k a ha H locs ls cells slots hΩ hS hl hc hs)
theorem g_istore_n (hK : zOk K Z cc own nL ret fr lo mc ms) {kk : Fin 4} {i : Nat} {x : Int32} {lv2 : List (Nat × Value)} (ks : List Nat) (hp : lv_pick ((i, .int x) :: lv.filter (fun q => !(q.1 == i) && !(q.1 + 1 == i && q.2.category == 2))) ks = lv2) (hi : (kk : Nat) = i) (hn : i < nL) (hd : decode cc pc = .ok (.istore_n kk, 1)) (k : zG K Z Ω F cb sb (pc + 1) lv2 st μ res) : zG K Z Ω F cb sb pc lv (.int x :: st) μ res := by
  intro a ha H locs ls cells slots hΩ hS hl hc hs
  exact lv_istore_n hK.1 hK.2.1 hd hi hl (by rw [hK.2.2.1]; exact hn) rfl (fun ls2 hl2 => k a ha H locs ls2 cells slots hΩ hS (lv_sub hl2 ks hp) hc hs)
theorem g_istore (hK : zOk K Z cc own nL ret fr lo mc ms) {i : Nat} {x : Int32} {lv2 : List (Nat × Value)} (ks : List Nat) (hp : lv_pick ((i, .int x) :: lv.filter (fun q => !(q.1 == i) && !(q.1 + 1 == i && q.2.category == 2))) ks = lv2) (hn : i < nL) (hd : decode cc pc = .ok (.istore i, 2)) (k : zG K Z Ω F cb sb (pc + 2) lv2 st μ res) : zG K Z Ω F cb sb pc lv (.int x :: st) μ res := by
  intro a ha H locs ls cells slots hΩ hS hl hc hs
  exact lv_istore hK.1 hK.2.1 hd hl (by rw [hK.2.2.1]; exact hn) rfl (fun ls2 hl2 => k a ha H locs ls2 cells slots hΩ hS (lv_sub hl2 ks hp) hc hs)
theorem g_astore_n (hK : zOk K Z cc own nL ret fr lo mc ms) {kk : Fin 4} {i : Nat} {x : Nat} {lv2 : List (Nat × Value)} (ks : List Nat) (hp : lv_pick ((i, .ref x) :: lv.filter (fun q => !(q.1 == i) && !(q.1 + 1 == i && q.2.category == 2))) ks = lv2) (hi : (kk : Nat) = i) (hn : i < nL) (hd : decode cc pc = .ok (.astore_n kk, 1)) (k : zG K Z Ω F cb sb (pc + 1) lv2 st μ res) : zG K Z Ω F cb sb pc lv (.ref x :: st) μ res := by
  intro a ha H locs ls cells slots hΩ hS hl hc hs
  exact lv_astore_n hK.1 hK.2.1 hd hi hl (by rw [hK.2.2.1]; exact hn) rfl (fun ls2 hl2 => k a ha H locs ls2 cells slots hΩ hS (lv_sub hl2 ks hp) hc hs)
theorem g_astore (hK : zOk K Z cc own nL ret fr lo mc ms) {i : Nat} {x : Nat} {lv2 : List (Nat × Value)} (ks : List Nat) (hp : lv_pick ((i, .ref x) :: lv.filter (fun q => !(q.1 == i) && !(q.1 + 1 == i && q.2.category == 2))) ks = lv2) (hn : i < nL) (hd : decode cc pc = .ok (.astore i, 2)) (k : zG K Z Ω F cb sb (pc + 2) lv2 st μ res) : zG K Z Ω F cb sb pc lv (.ref x :: st) μ res := by
  intro a ha H locs ls cells slots hΩ hS hl hc hs
  exact lv_astore hK.1 hK.2.1 hd hl (by rw [hK.2.2.1]; exact hn) rfl (fun ls2 hl2 => k a ha H locs ls2 cells slots hΩ hS (lv_sub hl2 ks hp) hc hs)
theorem g_lstore_n (hK : zOk K Z cc own nL ret fr lo mc ms) {kk : Fin 4} {i : Nat} {x : Int64} {lv2 : List (Nat × Value)} (ks : List Nat) (hp : lv_pick ((i, .long x) :: lv.filter (fun q => !(q.1 == i) && (!(q.1 == i + 1) && !(q.1 + 1 == i && q.2.category == 2)))) ks = lv2) (hi : (kk : Nat) = i) (hn : i + 1 < nL) (hd : decode cc pc = .ok (.lstore_n kk, 1)) (k : zG K Z Ω F cb sb (pc + 1) lv2 st μ res) : zG K Z Ω F cb sb pc lv (.long x :: st) μ res := by
  intro a ha H locs ls cells slots hΩ hS hl hc hs
  exact lv_lstore_n hK.1 hK.2.1 hd hi hl (by rw [hK.2.2.1]; exact hn) rfl (fun ls2 hl2 => k a ha H locs ls2 cells slots hΩ hS (lv_sub hl2 ks hp) hc hs)
theorem g_lstore (hK : zOk K Z cc own nL ret fr lo mc ms) {i : Nat} {x : Int64} {lv2 : List (Nat × Value)} (ks : List Nat) (hp : lv_pick ((i, .long x) :: lv.filter (fun q => !(q.1 == i) && (!(q.1 == i + 1) && !(q.1 + 1 == i && q.2.category == 2)))) ks = lv2) (hn : i + 1 < nL) (hd : decode cc pc = .ok (.lstore i, 2)) (k : zG K Z Ω F cb sb (pc + 2) lv2 st μ res) : zG K Z Ω F cb sb pc lv (.long x :: st) μ res := by
  intro a ha H locs ls cells slots hΩ hS hl hc hs
  exact lv_lstore hK.1 hK.2.1 hd hl (by rw [hK.2.2.1]; exact hn) rfl (fun ls2 hl2 => k a ha H locs ls2 cells slots hΩ hS (lv_sub hl2 ks hp) hc hs)
theorem g_fstore_n (hK : zOk K Z cc own nL ret fr lo mc ms) {kk : Fin 4} {i : Nat} {x : UInt32} {lv2 : List (Nat × Value)} (ks : List Nat) (hp : lv_pick ((i, .float x) :: lv.filter (fun q => !(q.1 == i) && !(q.1 + 1 == i && q.2.category == 2))) ks = lv2) (hi : (kk : Nat) = i) (hn : i < nL) (hd : decode cc pc = .ok (.fstore_n kk, 1)) (k : zG K Z Ω F cb sb (pc + 1) lv2 st μ res) : zG K Z Ω F cb sb pc lv (.float x :: st) μ res := by
  intro a ha H locs ls cells slots hΩ hS hl hc hs
  exact lv_fstore_n hK.1 hK.2.1 hd hi hl (by rw [hK.2.2.1]; exact hn) rfl (fun ls2 hl2 => k a ha H locs ls2 cells slots hΩ hS (lv_sub hl2 ks hp) hc hs)
theorem g_fstore (hK : zOk K Z cc own nL ret fr lo mc ms) {i : Nat} {x : UInt32} {lv2 : List (Nat × Value)} (ks : List Nat) (hp : lv_pick ((i, .float x) :: lv.filter (fun q => !(q.1 == i) && !(q.1 + 1 == i && q.2.category == 2))) ks = lv2) (hn : i < nL) (hd : decode cc pc = .ok (.fstore i, 2)) (k : zG K Z Ω F cb sb (pc + 2) lv2 st μ res) : zG K Z Ω F cb sb pc lv (.float x :: st) μ res := by
  intro a ha H locs ls cells slots hΩ hS hl hc hs
  exact lv_fstore hK.1 hK.2.1 hd hl (by rw [hK.2.2.1]; exact hn) rfl (fun ls2 hl2 => k a ha H locs ls2 cells slots hΩ hS (lv_sub hl2 ks hp) hc hs)
theorem g_dstore_n (hK : zOk K Z cc own nL ret fr lo mc ms) {kk : Fin 4} {i : Nat} {x : UInt64} {lv2 : List (Nat × Value)} (ks : List Nat) (hp : lv_pick ((i, .double x) :: lv.filter (fun q => !(q.1 == i) && (!(q.1 == i + 1) && !(q.1 + 1 == i && q.2.category == 2)))) ks = lv2) (hi : (kk : Nat) = i) (hn : i + 1 < nL) (hd : decode cc pc = .ok (.dstore_n kk, 1)) (k : zG K Z Ω F cb sb (pc + 1) lv2 st μ res) : zG K Z Ω F cb sb pc lv (.double x :: st) μ res := by
  intro a ha H locs ls cells slots hΩ hS hl hc hs
  exact lv_dstore_n hK.1 hK.2.1 hd hi hl (by rw [hK.2.2.1]; exact hn) rfl (fun ls2 hl2 => k a ha H locs ls2 cells slots hΩ hS (lv_sub hl2 ks hp) hc hs)
theorem g_dstore (hK : zOk K Z cc own nL ret fr lo mc ms) {i : Nat} {x : UInt64} {lv2 : List (Nat × Value)} (ks : List Nat) (hp : lv_pick ((i, .double x) :: lv.filter (fun q => !(q.1 == i) && (!(q.1 == i + 1) && !(q.1 + 1 == i && q.2.category == 2)))) ks = lv2) (hn : i + 1 < nL) (hd : decode cc pc = .ok (.dstore i, 2)) (k : zG K Z Ω F cb sb (pc + 2) lv2 st μ res) : zG K Z Ω F cb sb pc lv (.double x :: st) μ res := by
  intro a ha H locs ls cells slots hΩ hS hl hc hs
  exact lv_dstore hK.1 hK.2.1 hd hl (by rw [hK.2.2.1]; exact hn) rfl (fun ls2 hl2 => k a ha H locs ls2 cells slots hΩ hS (lv_sub hl2 ks hp) hc hs)
theorem g_iinc (hK : zOk K Z cc own nL ret fr lo mc ms) {i : Nat} {n : Int} {x v : Int32} {lv2 : List (Nat × Value)} (j : Nat) (hj : lv[j]? = some (i, .int x)) (hv : x + Int32.ofInt n = v) (ks : List Nat) (hp : lv_pick ((i, .int v) :: lv.filter (fun q => !(q.1 == i) && !(q.1 + 1 == i && q.2.category == 2))) ks = lv2) (hn : i < nL) (hd : decode cc pc = .ok (.iinc i n, 3)) (k : zG K Z Ω F cb sb (pc + 3) lv2 st μ res) : zG K Z Ω F cb sb pc lv st μ res := by
  intro a ha H locs ls cells slots hΩ hS hl hc hs
  exact lv_iinc hK.1 hK.2.1 hd hl hj hv (by rw [hK.2.2.1]; exact hn) rfl (fun ls2 hl2 => k a ha H locs ls2 cells slots hΩ hS (lv_sub hl2 ks hp) hc hs)
theorem g_lv {lv2 : List (Nat × Value)} (ks : List Nat) (hp : lv_pick lv ks = lv2) (k : zG K Z Ω F cb sb pc lv2 st μ res) : zG K Z Ω F cb sb pc lv st μ res := fun a ha H locs ls cells slots hΩ hS hl hc hs => k a ha H locs ls cells slots hΩ hS (lv_sub hl ks hp) hc hs
theorem g_bud {cb2 sb2 : Nat} (h1 : cb2 ≤ cb) (h2 : sb2 ≤ sb) (k : zG K Z Ω F cb2 sb2 pc lv st μ res) : zG K Z Ω F cb sb pc lv st μ res := fun a ha H locs ls cells slots hΩ hS hl hc hs => k a ha H locs ls cells slots hΩ hS hl (by omega) (by omega)
theorem g_none : zG K Z Ω F cb sb pc lv st μ none := fun a ha => nomatch ha
theorem g_if_eq (hK : zOk K Z cc own nL ret fr lo mc ms) {x : Int32} {off : Int} {tgt : Nat} {A B : Option α} (ht : (pc : Int) + off = (tgt : Int)) (hd : decode cc pc = .ok (.ifCond .eq off, 3)) (kt : x = 0 → zG K Z Ω F cb sb tgt lv st μ A) (kf : ¬ (x = 0) → zG K Z Ω F cb sb (pc + 3) lv st μ B) : zG K Z Ω F cb sb pc lv (.int x :: st) μ (if x = 0 then A else B) := by
  intro a ha H locs ls cells slots hΩ hS hl hc hs
  refine lv_if_eq hK.1 hK.2.1 hd ht (fun q => ?_) (fun q => ?_)
  · first | (rw [if_pos q] at ha; exact kt q a ha H locs ls cells slots hΩ hS hl hc hs) | (rw [if_neg q] at ha; exact kf q a ha H locs ls cells slots hΩ hS hl hc hs)
  · first | (rw [if_neg q] at ha; exact kf q a ha H locs ls cells slots hΩ hS hl hc hs) | (rw [if_pos (Classical.not_not.mp q)] at ha; exact kt (Classical.not_not.mp q) a ha H locs ls cells slots hΩ hS hl hc hs)
theorem g_if_lt (hK : zOk K Z cc own nL ret fr lo mc ms) {x : Int32} {off : Int} {tgt : Nat} {A B : Option α} (ht : (pc : Int) + off = (tgt : Int)) (hd : decode cc pc = .ok (.ifCond .lt off, 3)) (kt : x < 0 → zG K Z Ω F cb sb tgt lv st μ A) (kf : ¬ (x < 0) → zG K Z Ω F cb sb (pc + 3) lv st μ B) : zG K Z Ω F cb sb pc lv (.int x :: st) μ (if x < 0 then A else B) := by
  intro a ha H locs ls cells slots hΩ hS hl hc hs
  refine lv_if_lt hK.1 hK.2.1 hd ht (fun q => ?_) (fun q => ?_)
  · first | (rw [if_pos q] at ha; exact kt q a ha H locs ls cells slots hΩ hS hl hc hs) | (rw [if_neg q] at ha; exact kf q a ha H locs ls cells slots hΩ hS hl hc hs)
  · first | (rw [if_neg q] at ha; exact kf q a ha H locs ls cells slots hΩ hS hl hc hs) | (rw [if_pos (Classical.not_not.mp q)] at ha; exact kt (Classical.not_not.mp q) a ha H locs ls cells slots hΩ hS hl hc hs)
theorem g_if_ge (hK : zOk K Z cc own nL ret fr lo mc ms) {x : Int32} {off : Int} {tgt : Nat} {A B : Option α} (ht : (pc : Int) + off = (tgt : Int)) (hd : decode cc pc = .ok (.ifCond .ge off, 3)) (kt : 0 ≤ x → zG K Z Ω F cb sb tgt lv st μ A) (kf : ¬ (0 ≤ x) → zG K Z Ω F cb sb (pc + 3) lv st μ B) : zG K Z Ω F cb sb pc lv (.int x :: st) μ (if 0 ≤ x then A else B) := by
  intro a ha H locs ls cells slots hΩ hS hl hc hs
  refine lv_if_ge hK.1 hK.2.1 hd ht (fun q => ?_) (fun q => ?_)
  · first | (rw [if_pos q] at ha; exact kt q a ha H locs ls cells slots hΩ hS hl hc hs) | (rw [if_neg q] at ha; exact kf q a ha H locs ls cells slots hΩ hS hl hc hs)
  · first | (rw [if_neg q] at ha; exact kf q a ha H locs ls cells slots hΩ hS hl hc hs) | (rw [if_pos (Classical.not_not.mp q)] at ha; exact kt (Classical.not_not.mp q) a ha H locs ls cells slots hΩ hS hl hc hs)
theorem g_if_gt (hK : zOk K Z cc own nL ret fr lo mc ms) {x : Int32} {off : Int} {tgt : Nat} {A B : Option α} (ht : (pc : Int) + off = (tgt : Int)) (hd : decode cc pc = .ok (.ifCond .gt off, 3)) (kt : 0 < x → zG K Z Ω F cb sb tgt lv st μ A) (kf : ¬ (0 < x) → zG K Z Ω F cb sb (pc + 3) lv st μ B) : zG K Z Ω F cb sb pc lv (.int x :: st) μ (if 0 < x then A else B) := by
  intro a ha H locs ls cells slots hΩ hS hl hc hs
  refine lv_if_gt hK.1 hK.2.1 hd ht (fun q => ?_) (fun q => ?_)
  · first | (rw [if_pos q] at ha; exact kt q a ha H locs ls cells slots hΩ hS hl hc hs) | (rw [if_neg q] at ha; exact kf q a ha H locs ls cells slots hΩ hS hl hc hs)
  · first | (rw [if_neg q] at ha; exact kf q a ha H locs ls cells slots hΩ hS hl hc hs) | (rw [if_pos (Classical.not_not.mp q)] at ha; exact kt (Classical.not_not.mp q) a ha H locs ls cells slots hΩ hS hl hc hs)
theorem g_if_le (hK : zOk K Z cc own nL ret fr lo mc ms) {x : Int32} {off : Int} {tgt : Nat} {A B : Option α} (ht : (pc : Int) + off = (tgt : Int)) (hd : decode cc pc = .ok (.ifCond .le off, 3)) (kt : x ≤ 0 → zG K Z Ω F cb sb tgt lv st μ A) (kf : ¬ (x ≤ 0) → zG K Z Ω F cb sb (pc + 3) lv st μ B) : zG K Z Ω F cb sb pc lv (.int x :: st) μ (if x ≤ 0 then A else B) := by
  intro a ha H locs ls cells slots hΩ hS hl hc hs
  refine lv_if_le hK.1 hK.2.1 hd ht (fun q => ?_) (fun q => ?_)
  · first | (rw [if_pos q] at ha; exact kt q a ha H locs ls cells slots hΩ hS hl hc hs) | (rw [if_neg q] at ha; exact kf q a ha H locs ls cells slots hΩ hS hl hc hs)
  · first | (rw [if_neg q] at ha; exact kf q a ha H locs ls cells slots hΩ hS hl hc hs) | (rw [if_pos (Classical.not_not.mp q)] at ha; exact kt (Classical.not_not.mp q) a ha H locs ls cells slots hΩ hS hl hc hs)
theorem g_icmp_eq (hK : zOk K Z cc own nL ret fr lo mc ms) {x y : Int32} {off : Int} {tgt : Nat} {A B : Option α} (ht : (pc : Int) + off = (tgt : Int)) (hd : decode cc pc = .ok (.if_icmp .eq off, 3)) (kt : x = y → zG K Z Ω F cb sb tgt lv st μ A) (kf : ¬ (x = y) → zG K Z Ω F cb sb (pc + 3) lv st μ B) : zG K Z Ω F cb sb pc lv (.int y :: .int x :: st) μ (if x = y then A else B) := by
  intro a ha H locs ls cells slots hΩ hS hl hc hs
  refine lv_icmp_eq hK.1 hK.2.1 hd ht (fun q => ?_) (fun q => ?_)
  · first | (rw [if_pos q] at ha; exact kt q a ha H locs ls cells slots hΩ hS hl hc hs) | (rw [if_neg q] at ha; exact kf q a ha H locs ls cells slots hΩ hS hl hc hs)
  · first | (rw [if_neg q] at ha; exact kf q a ha H locs ls cells slots hΩ hS hl hc hs) | (rw [if_pos (Classical.not_not.mp q)] at ha; exact kt (Classical.not_not.mp q) a ha H locs ls cells slots hΩ hS hl hc hs)
theorem g_icmp_lt (hK : zOk K Z cc own nL ret fr lo mc ms) {x y : Int32} {off : Int} {tgt : Nat} {A B : Option α} (ht : (pc : Int) + off = (tgt : Int)) (hd : decode cc pc = .ok (.if_icmp .lt off, 3)) (kt : x < y → zG K Z Ω F cb sb tgt lv st μ A) (kf : ¬ (x < y) → zG K Z Ω F cb sb (pc + 3) lv st μ B) : zG K Z Ω F cb sb pc lv (.int y :: .int x :: st) μ (if x < y then A else B) := by
  intro a ha H locs ls cells slots hΩ hS hl hc hs
  refine lv_icmp_lt hK.1 hK.2.1 hd ht (fun q => ?_) (fun q => ?_)
  · first | (rw [if_pos q] at ha; exact kt q a ha H locs ls cells slots hΩ hS hl hc hs) | (rw [if_neg q] at ha; exact kf q a ha H locs ls cells slots hΩ hS hl hc hs)
  · first | (rw [if_neg q] at ha; exact kf q a ha H locs ls cells slots hΩ hS hl hc hs) | (rw [if_pos (Classical.not_not.mp q)] at ha; exact kt (Classical.not_not.mp q) a ha H locs ls cells slots hΩ hS hl hc hs)
theorem g_icmp_ge (hK : zOk K Z cc own nL ret fr lo mc ms) {x y : Int32} {off : Int} {tgt : Nat} {A B : Option α} (ht : (pc : Int) + off = (tgt : Int)) (hd : decode cc pc = .ok (.if_icmp .ge off, 3)) (kt : y ≤ x → zG K Z Ω F cb sb tgt lv st μ A) (kf : ¬ (y ≤ x) → zG K Z Ω F cb sb (pc + 3) lv st μ B) : zG K Z Ω F cb sb pc lv (.int y :: .int x :: st) μ (if y ≤ x then A else B) := by
  intro a ha H locs ls cells slots hΩ hS hl hc hs
  refine lv_icmp_ge hK.1 hK.2.1 hd ht (fun q => ?_) (fun q => ?_)
  · first | (rw [if_pos q] at ha; exact kt q a ha H locs ls cells slots hΩ hS hl hc hs) | (rw [if_neg q] at ha; exact kf q a ha H locs ls cells slots hΩ hS hl hc hs)
  · first | (rw [if_neg q] at ha; exact kf q a ha H locs ls cells slots hΩ hS hl hc hs) | (rw [if_pos (Classical.not_not.mp q)] at ha; exact kt (Classical.not_not.mp q) a ha H locs ls cells slots hΩ hS hl hc hs)
theorem g_icmp_gt (hK : zOk K Z cc own nL ret fr lo mc ms) {x y : Int32} {off : Int} {tgt : Nat} {A B : Option α} (ht : (pc : Int) + off = (tgt : Int)) (hd : decode cc pc = .ok (.if_icmp .gt off, 3)) (kt : y < x → zG K Z Ω F cb sb tgt lv st μ A) (kf : ¬ (y < x) → zG K Z Ω F cb sb (pc + 3) lv st μ B) : zG K Z Ω F cb sb pc lv (.int y :: .int x :: st) μ (if y < x then A else B) := by
  intro a ha H locs ls cells slots hΩ hS hl hc hs
  refine lv_icmp_gt hK.1 hK.2.1 hd ht (fun q => ?_) (fun q => ?_)
  · first | (rw [if_pos q] at ha; exact kt q a ha H locs ls cells slots hΩ hS hl hc hs) | (rw [if_neg q] at ha; exact kf q a ha H locs ls cells slots hΩ hS hl hc hs)
  · first | (rw [if_neg q] at ha; exact kf q a ha H locs ls cells slots hΩ hS hl hc hs) | (rw [if_pos (Classical.not_not.mp q)] at ha; exact kt (Classical.not_not.mp q) a ha H locs ls cells slots hΩ hS hl hc hs)
theorem g_icmp_le (hK : zOk K Z cc own nL ret fr lo mc ms) {x y : Int32} {off : Int} {tgt : Nat} {A B : Option α} (ht : (pc : Int) + off = (tgt : Int)) (hd : decode cc pc = .ok (.if_icmp .le off, 3)) (kt : x ≤ y → zG K Z Ω F cb sb tgt lv st μ A) (kf : ¬ (x ≤ y) → zG K Z Ω F cb sb (pc + 3) lv st μ B) : zG K Z Ω F cb sb pc lv (.int y :: .int x :: st) μ (if x ≤ y then A else B) := by
  intro a ha H locs ls cells slots hΩ hS hl hc hs
  refine lv_icmp_le hK.1 hK.2.1 hd ht (fun q => ?_) (fun q => ?_)
  · first | (rw [if_pos q] at ha; exact kt q a ha H locs ls cells slots hΩ hS hl hc hs) | (rw [if_neg q] at ha; exact kf q a ha H locs ls cells slots hΩ hS hl hc hs)
  · first | (rw [if_neg q] at ha; exact kf q a ha H locs ls cells slots hΩ hS hl hc hs) | (rw [if_pos (Classical.not_not.mp q)] at ha; exact kt (Classical.not_not.mp q) a ha H locs ls cells slots hΩ hS hl hc hs)
theorem g_if_ne (hK : zOk K Z cc own nL ret fr lo mc ms) {x : Int32} {off : Int} {tgt : Nat} {A B : Option α} (ht : (pc : Int) + off = (tgt : Int)) (hd : decode cc pc = .ok (.ifCond .ne off, 3)) (kt : ¬ x = 0 → zG K Z Ω F cb sb tgt lv st μ B) (kf : x = 0 → zG K Z Ω F cb sb (pc + 3) lv st μ A) : zG K Z Ω F cb sb pc lv (.int x :: st) μ (if x = 0 then A else B) := by
  intro a ha H locs ls cells slots hΩ hS hl hc hs
  refine lv_if_ne hK.1 hK.2.1 hd ht (fun q => ?_) (fun q => ?_)
  · rw [if_neg q] at ha; exact kt q a ha H locs ls cells slots hΩ hS hl hc hs
  · rw [if_pos q] at ha; exact kf q a ha H locs ls cells slots hΩ hS hl hc hs
theorem g_icmp_ne (hK : zOk K Z cc own nL ret fr lo mc ms) {x y : Int32} {off : Int} {tgt : Nat} {A B : Option α} (ht : (pc : Int) + off = (tgt : Int)) (hd : decode cc pc = .ok (.if_icmp .ne off, 3)) (kt : ¬ x = y → zG K Z Ω F cb sb tgt lv st μ B) (kf : x = y → zG K Z Ω F cb sb (pc + 3) lv st μ A) : zG K Z Ω F cb sb pc lv (.int y :: .int x :: st) μ (if x = y then A else B) := by
  intro a ha H locs ls cells slots hΩ hS hl hc hs
  refine lv_icmp_ne hK.1 hK.2.1 hd ht (fun q => ?_) (fun q => ?_)
  · rw [if_neg q] at ha; exact kt q a ha H locs ls cells slots hΩ hS hl hc hs
  · rw [if_pos q] at ha; exact kf q a ha H locs ls cells slots hΩ hS hl hc hs
theorem g_goto (hK : zOk K Z cc own nL ret fr lo mc ms) {off : Int} {tgt : Nat} (ht : (pc : Int) + off = (tgt : Int)) (hd : decode cc pc = .ok (.goto off, 3)) (k : zG K Z Ω F cb sb tgt lv st μ res) : zG K Z Ω F cb sb pc lv st μ res := by
  intro a ha H locs ls cells slots hΩ hS hl hc hs
  exact lv_goto hK.1 hK.2.1 hd ht (k a ha H locs ls cells slots hΩ hS hl hc hs)
theorem g_case {x v : Int32} {A B : Option α} (kt : x = v → zG K Z Ω F cb sb pc lv (.int x :: st) μ A) (kf : ¬ x = v → zG K Z Ω F cb sb pc lv (.int x :: st) μ B) : zG K Z Ω F cb sb pc lv (.int x :: st) μ (if x = v then A else B) := by
  intro a ha H locs ls cells slots hΩ hS hl hc hs
  by_cases q : x = v
  · rw [if_pos q] at ha; exact kt q a ha H locs ls cells slots hΩ hS hl hc hs
  · rw [if_neg q] at ha; exact kf q a ha H locs ls cells slots hΩ hS hl hc hs
theorem g_tabIn (hK : zOk K Z cc own nL ret fr lo mc ms) {dflt lo9 hi9 : Int} {offs : Array Int} {len : Nat} {x v : Int32} {off : Int} {tgt : Nat} (hx : x = v) (h1 : ¬ v.toInt < lo9) (h2 : ¬ hi9 < v.toInt) (ho : offs[(v.toInt - lo9).toNat]? = some off) (ht : (pc : Int) + off = (tgt : Int)) (hd : decode cc pc = .ok (.tableswitch dflt lo9 hi9 offs, len)) (k : zG K Z Ω F cb sb tgt lv st μ res) : zG K Z Ω F cb sb pc lv (.int x :: st) μ res := by
  intro a ha H locs ls cells slots hΩ hS hl hc hs
  subst hx
  exact lv_tableIn hK.1 hK.2.1 hd h1 h2 ho ht (k a ha H locs ls cells slots hΩ hS hl hc hs)
theorem g_tabOut (hK : zOk K Z cc own nL ret fr lo mc ms) {dflt lo9 hi9 : Int} {offs : Array Int} {len : Nat} {x : Int32} {tgt : Nat} (h : x.toInt < lo9 ∨ hi9 < x.toInt) (ht : (pc : Int) + dflt = (tgt : Int)) (hd : decode cc pc = .ok (.tableswitch dflt lo9 hi9 offs, len)) (k : zG K Z Ω F cb sb tgt lv st μ res) : zG K Z Ω F cb sb pc lv (.int x :: st) μ res := by
  intro a ha H locs ls cells slots hΩ hS hl hc hs
  exact lv_tableOut hK.1 hK.2.1 hd h ht (k a ha H locs ls cells slots hΩ hS hl hc hs)
theorem g_lookup (hK : zOk K Z cc own nL ret fr lo mc ms) {dflt : Int} {ps : Array (Int × Int)} {len : Nat} {x : Int32} {off : Int} {tgt : Nat} (hp : (ps.toList.zip (ps.toList.drop 1)).all (fun (a, next) => a.1 < next.1) = true) (ho : Op.lookupswitch.offset ps.toList dflt x.toInt = off) (ht : (pc : Int) + off = (tgt : Int)) (hd : decode cc pc = .ok (.lookupswitch dflt ps, len)) (k : zG K Z Ω F cb sb tgt lv st μ res) : zG K Z Ω F cb sb pc lv (.int x :: st) μ res := by
  intro a ha H locs ls cells slots hΩ hS hl hc hs
  exact lv_lookup hK.1 hK.2.1 hd hp ho ht (k a ha H locs ls cells slots hΩ hS hl hc hs)
end zRows
/-! THE PURE SIDE'S COMBINATORS: a value under a name; what follows an answer -/
def zlt {β γ : Type} (e : β) (f : β → γ) : γ := f e
/-- behind a call that may fail: reads alone -/
def zco {β γ : Type} (e : Option β) (f : β → Option γ) : Option γ := match e with
  | none => none
  | some x => f x
/-- behind a call that changes the memory -/
def zcl2 {σ β γ : Type} (e : Option (β × σ)) (f : β → σ → Option γ) : Option γ := match e with
  | none => none
  | some (x, μ) => f x μ
def zcm {σ γ : Type} (e : Option σ) (f : σ → Option γ) : Option γ := match e with
  | none => none
  | some μ => f μ
/-- behind a call that may throw, in a method that doesn't catch -/
def zcx {σ β γ : Type} (e : Option ((String ⊕ β) × σ)) (f : β → σ → Option ((String ⊕ γ) × σ)) : Option ((String ⊕ γ) × σ) := match e with
  | none => none
  | some (.inl E, μ) => some (.inl E, μ)
  | some (.inr x, μ) => f x μ
section zNames
variable {K : zK} {Z : zZ} {σ α : Type} {Ω : σ → Heap → Prop} {F : α → State → Prop} {cc : ByteArray} {own : String} {nL fr lo mc ms cb sb pc : Nat} {ret : Option FieldType} {lv : List (Nat × Value)} {st : List Value} {μ : σ} {res : Option α}
theorem g_ltI {e : Int32} {f : Int32 → Option α} (k : ∀ x : Int32, zG K Z Ω F cb sb pc lv (.int x :: st) μ (f x)) : zG K Z Ω F cb sb pc lv (.int e :: st) μ (zlt e f) := k e
theorem g_ltL {e : Int64} {f : Int64 → Option α} (k : ∀ x : Int64, zG K Z Ω F cb sb pc lv (.long x :: st) μ (f x)) : zG K Z Ω F cb sb pc lv (.long e :: st) μ (zlt e f) := k e
theorem g_ltF {e : UInt32} {f : UInt32 → Option α} (k : ∀ x : UInt32, zG K Z Ω F cb sb pc lv (.float x :: st) μ (f x)) : zG K Z Ω F cb sb pc lv (.float e :: st) μ (zlt e f) := k e
theorem g_ltD {e : UInt64} {f : UInt64 → Option α} (k : ∀ x : UInt64, zG K Z Ω F cb sb pc lv (.double x :: st) μ (f x)) : zG K Z Ω F cb sb pc lv (.double e :: st) μ (zlt e f) := k e
theorem g_ltM {e : σ} {f : σ → Option α} (k : ∀ x : σ, zG K Z Ω F cb sb pc lv st x (f x)) : zG K Z Ω F cb sb pc lv st e (zlt e f) := k e
end zNames
