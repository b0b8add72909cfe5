/-! THE CLASS'S READER: a body -/
theorem okT_5 : ∀ t, t < 193 → zkd t = 2 → (t + 10 < 99 ∨ 101 < t) ∧ zit t ≠ 99 ∧ zit t ≠ 98 := by decide +kernel
def byB (b : List Int) : Prop := b.length ≤ 700 ∧ ∀ x ∈ b, 1 ≤ x ∧ x ≤ 255
theorem bt_in {b : List Int} {p : Nat} (h : p < b.length) : bt b p = b.getD p 0 := if_pos h
theorem bt_out {b : List Int} {p : Nat} (h : b.length ≤ p) : bt b p = -1 := if_neg (by omega)
theorem bt_r {b : List Int} (hb : byB b) (p : Nat) : (bt b p = -1 ∧ b.length ≤ p) ∨ (1 ≤ bt b p ∧ bt b p ≤ 255 ∧ p < b.length) := by
  by_cases h : p < b.length
  · right
    rw [bt_in h]
    have := hb.2 (b.getD p 0) (by rw [List.getD_eq_getElem?_getD, List.getElem?_eq_getElem h]; exact List.getElem_mem h)
    exact ⟨this.1, this.2, h⟩
  · exact Or.inl ⟨bt_out (by omega), by omega⟩
/-- the bytes, and the place -/
def rdK (b : List Int) (μ : zM) (p : Nat) : Prop := zR μ 99 0 = 2 ∧ zI μ 99 1 = b.length ∧ zI μ 99 2 = p ∧ ∀ i, i < b.length → zI μ 2 i = b.getD i 0
def rdF (t n : Nat) (μ m : zM) : Prop := zSm (fun c => c ≠ 99 ∧ (c < t ∨ t + 10 < c) ∧ c ≠ zit t ∧ c ≠ zit t + 1) μ m ∧ (∀ i, zR m 99 i = zR μ 99 i) ∧ zI m 99 1 = zI μ 99 1 ∧ ∀ i, i < n → zI m (zit t) i = zI μ (zit t) i ∧ zI m (zit t + 1) i = zI μ (zit t + 1) i
def rdB (b : List Int) (t n : Nat) (μ : zM) (p : Nat) (S : zSn) (st : List Nat) : Prop := rdK b μ p ∧ zR μ 99 4 = t ∧ zI μ 99 5 = opn st ∧ (zI μ 99 6 = 0 ∧ zI μ 99 7 = -1) ∧ pC μ t S st ∧ ((n : Int) ≤ zI μ t 16 ∧ zI μ t 16 ≤ p) ∧ wBu p S st ∧ p ≤ b.length
def bEr (t n : Nat) (μ : zM) (e : zEr) (m : zM) : Prop := zI m 99 6 = e.1 ∧ zI m 99 7 = e.2 ∧ e.1 ≠ 0 ∧ (0 ≤ zI m 99 2 ∧ zI m 99 2 ≤ 1000) ∧ rdF t n μ m
def bAns (b : List Int) (t n : Nat) (μ : zM) : zEr ⊕ zBs → zM → Prop
  | .inl e, m => bEr t n μ e m
  | .inr s, m => rdB b t n m s.1 s.2.1 s.2.2 ∧ rdF t n μ m
theorem rdF.rf {t n : Nat} {μ : zM} : rdF t n μ μ := ⟨zSm.rf, fun _ => rfl, rfl, fun _ _ => ⟨rfl, rfl⟩⟩
theorem rdF.tr {t n : Nat} {μ m m' : zM} (h : rdF t n μ m) (h' : rdF t n m m') : rdF t n μ m' := ⟨h.1.tr h'.1, fun i => (h'.2.1 i).trans (h.2.1 i), h'.2.2.1.trans h.2.2.1, fun i hi => ⟨(h'.2.2.2 i hi).1.trans (h.2.2.2 i hi).1, (h'.2.2.2 i hi).2.trans (h.2.2.2 i hi).2⟩⟩
section crd
variable {b : List Int} {t n p : Nat} {μ m : zM} {S : zSn} {st : List Nat}
theorem rdF.s9 (ht : okT t) {j : Nat} (hj : j ≠ 1) (v : Int) : rdF t n μ (zsI μ 99 j v) := by
  have q := okT_5 t ht.2 ht.1
  exact ⟨zSm.rf.sI (fun h => h.1 rfl), fun _ => rfl, zI_ni hj.symm, fun i _ => ⟨zI_nk (by omega), zI_nk (by omega)⟩⟩
theorem rdF.fr (ht : okT t) (h : frT t n μ m) : rdF t n μ m := by
  have q := okT_5 t ht.2 ht.1
  exact ⟨h.1.mono (fun c hc => hc.2), fun i => (h.1 99 (by omega) i).2.2, (h.1 99 (by omega) 1).1, h.2⟩
theorem rdF.sT (ht : okT t) {c : Nat} (h1 : t < c) (h2 : c ≤ t + 10) (j : Nat) (v : Int) : rdF t n μ (zsI μ c j v) := by
  have q := okT_5 t ht.2 ht.1
  have q17 := okT_4 t ht.2 ht.1
  exact ⟨zSm.rf.sI (fun h => by have := h.2.1; omega), fun _ => rfl, zI_nk (by omega), fun i _ => ⟨zI_nk (by omega), zI_nk (by omega)⟩⟩
theorem pC.s9 (ht : okT t) {j : Nat} {v : Int} (h : pC μ t S st) : pC (zsI μ 99 j v) t S st := by
  have q := okT_5 t ht.2 ht.1
  exact h.lo (fun c h1 h2 i => zI_nk (by omega)) (fun i _ => ⟨zI_nk (by omega), zI_nk (by omega)⟩)
/-- the place goes on -/
theorem rdB.go (ht : okT t) (h : rdB b t n μ p S st) {p' : Nat} (hp : p ≤ p') (hl : p' ≤ b.length) {v : Int} (hv : v = (p' : Nat)) : rdB b t n (zsI μ 99 2 v) p' S st := by
  have q := okT_5 t ht.2 ht.1
  obtain ⟨⟨k1, k2, k3, k4⟩, h1, h2, h3, h4, h5, h6, h7⟩ := h
  have e : zI (zsI μ 99 2 v) t 16 = zI μ t 16 := zI_nk (by omega)
  exact ⟨⟨k1, (zI_ni (by decide)).trans k2, (zI_eq rfl rfl).trans hv, fun i hi => (zI_nk (by decide)).trans (k4 i hi)⟩, h1, (zI_ni (by decide)).trans h2, ⟨(zI_ni (by decide)).trans h3.1, (zI_ni (by decide)).trans h3.2⟩, h4.s9 ht, by rw [e]; omega, h6.le hp, hl⟩
theorem c_isAt (hb : byB b) (hK : rdK b μ p) {x : Int} (hx : 0 ≤ x) : zok (f1_isAt x μ) (fun r => r = decide (bt b p = x)) := by
  obtain ⟨k1, k2, k3, k4⟩ := hK
  have h7 := hb.1
  unfold f1_isAt
  rw [k1, k2, k3]
  refine zok_if (fun h => zok_some ?_) (fun h => zok_gd ⟨by omega, by rw [zln_c.1]; omega⟩ ?_)
  · rw [bt_out (by omega), decide_eq_false (by omega)]
  · rw [zx_nat, k4 p (by omega), ← bt_in (show p < b.length by omega)]
    exact zok_if (fun e => zok_some (decide_eq_true e).symm) (fun e => zok_some (decide_eq_false e).symm)
theorem c_fail (ht : okT t) (h : rdB b t n μ p S st) (hb : byB b) {k v : Int} (hk : k ≠ 0) : zok (f1_fail k v μ) (bEr t n μ (k, v)) := by
  have h7 := hb.1
  have hl := h.2.2.2.2.2.2.2
  have e : zI (zsI (zsI μ 99 6 k) 99 7 v) 99 2 = p := by rw [zI_ni (by decide), zI_ni (by decide), h.1.2.2.1]
  unfold f1_fail
  exact zok_lt (zok_lt (zok_some ⟨by rw [zI_ni (by decide), zI_eq rfl rfl], zI_eq rfl rfl, hk, by rw [e]; omega, (rdF.s9 ht (by decide) k).tr (rdF.s9 ht (by decide) v)⟩))
theorem bEr.fr {μ0 : zM} {e : zEr} (hf : rdF t n μ0 μ) (h : bEr t n μ e m) : bEr t n μ0 e m := ⟨h.1, h.2.1, h.2.2.1, h.2.2.2.1, hf.tr h.2.2.2.2⟩
/-- a literal, and the place behind it -/
theorem c_putLit (ht : okT t) (hb : byB b) (h : rdB b t n μ p S st) {v : Int} (hv : 0 ≤ v) (hv2 : v ≤ 255) (hp : p < b.length) : zok (zcm (f2_addLiteral (zR μ 99 4) v (zI μ 99 5) μ) (fun m1 => zgl ((zI m1 99 2) + 1) (fun v2 => zlt (zsI m1 99 2 v2) (fun m2 => (some m2))))) (fun m => rdB b t n m (p + 1) (adL S (opn st) v) st ∧ rdF t n μ m) := by
  have q := okT_5 t ht.2 ht.1
  obtain ⟨⟨k1, k2, k3, k4⟩, h1, h2, h3, h4, h5, h6, h7⟩ := h
  have hb7 := hb.1
  have hT := h6.2.2.2.2.2
  rw [h1, h2]
  refine zok_cm (c_addLit ht h6 h4 (by omega) hv) (fun m1 hm => ?_)
  obtain ⟨g1, g2, g3⟩ := hm
  have gF : rdF t n μ m1 := rdF.fr ht (g2.le (by omega))
  have e99 : ∀ i, zI m1 99 i = zI μ 99 i := fun i => (g2.1 99 (by omega) i).1
  have e2 : ∀ i, zI m1 2 i = zI μ 2 i := fun i => (g2.1 2 (by have := (okT.f ht); omega) i).1
  rw [e99, k3]
  refine zok_gl ⟨by omega, by omega⟩ (zok_lt (zok_some ⟨?_, gF.tr (rdF.s9 ht (by decide) _)⟩))
  have hw : wBu p (adL S (opn st) v) st ∨ True := Or.inr trivial
  have hw1 : wBu (p + 1) (adL S (opn st) v) st := h6.lit hv hv2 (Nat.le_refl _) (by omega)
  have e16 : zI (zsI m1 99 2 ((p : Int) + 1)) t 16 = zI μ t 16 + 1 := by rw [zI_nk (by omega), g3]
  exact ⟨⟨(g2.1 99 (by omega) 0).2.2.trans k1, (zI_ni (by decide)).trans ((e99 1).trans k2), zI_eq rfl rfl, fun i hi => (zI_nk (by decide)).trans ((e2 i).trans (k4 i hi))⟩, (g2.1 99 (by omega) 4).2.2.trans h1, (zI_ni (by decide)).trans ((e99 5).trans h2), ⟨(zI_ni (by decide)).trans ((e99 6).trans h3.1), (zI_ni (by decide)).trans ((e99 7).trans h3.2)⟩, g1.s9 ht, by rw [e16]; omega, hw1, by omega⟩
theorem c_readLiteral (ht : okT t) (hb : byB b) (h : rdB b t n μ p S st) (hp : p < b.length) : zok (f1_readLiteral μ) (bAns b t n μ (if bt b p = 10 ∨ (32 ≤ bt b p ∧ bt b p ≤ 126) then .inr (p + 1, adL S (opn st) (bt b p), st) else .inl (1, (p : Int)))) := by
  have h0 := h
  obtain ⟨⟨k1, k2, k3, k4⟩, h1, h2, h3, h4, h5, h6, h7⟩ := h
  have hb7 := hb.1
  have hby := bt_r hb p
  unfold f1_readLiteral
  rw [k1, k3]
  refine zok_gd ⟨by omega, by rw [zln_c.1]; omega⟩ (zok_lt ?_)
  rw [zx_nat, k4 p hp, ← bt_in hp]
  have yes : (bt b p = 10 ∨ (32 ≤ bt b p ∧ bt b p ≤ 126)) → zok (f1_readLiteral_38 (bt b p) μ) (bAns b t n μ (if bt b p = 10 ∨ (32 ≤ bt b p ∧ bt b p ≤ 126) then .inr (p + 1, adL S (opn st) (bt b p), st) else .inl (1, (p : Int)))) := fun c => by
    rw [if_pos c]
    exact c_putLit ht hb h0 (by omega) (by omega) hp
  have no : ¬ (bt b p = 10 ∨ (32 ≤ bt b p ∧ bt b p ≤ 126)) → zok (f1_readLiteral_28 μ) (bAns b t n μ (if bt b p = 10 ∨ (32 ≤ bt b p ∧ bt b p ≤ 126) then .inr (p + 1, adL S (opn st) (bt b p), st) else .inl (1, (p : Int)))) := fun c => by
    rw [if_neg c]
    unfold f1_readLiteral_28
    rw [k3]
    exact zok_cm (c_fail ht h0 hb (by decide)) (fun m hm => zok_some hm)
  exact zok_if (fun c => yes (Or.inl c)) (fun c1 => zok_if (fun c => no (by omega)) (fun c2 => zok_if (fun c => yes (Or.inr ⟨by omega, c⟩)) (fun c => no (by omega))))
theorem c_changeOf (x : Int) : zok (f1_changeOf x) (fun r => r = chgOf x) := by
  unfold f1_changeOf chgOf
  refine zok_if (fun h => zok_some ?_) (fun h1 => zok_if (fun h => zok_some ?_) (fun h2 => zok_if (fun h => zok_some ?_) (fun h3 => zok_if (fun h => zok_some ?_) (fun h4 => zok_if (fun h => zok_some ?_) (fun h5 => zok_some ?_)))))
  · subst h; rfl
  · subst h; rfl
  · subst h; rfl
  · subst h; rfl
  · subst h; rfl
  · rw [if_neg h5, if_neg h2, if_neg h4, if_neg h1, if_neg h3]
theorem chgOf_r (x : Int) : 0 ≤ chgOf x ∧ chgOf x ≤ 5 := by
  unfold chgOf
  split
  · omega
  · split
    · omega
    · split
      · omega
      · split
        · omega
        · split <;> omega
end crd
