/-! THE CLASS'S SNIPPET WHILE IT IS READ, 4: a change, a default that opens, a default that closes -/
section cb4
variable {t p : Nat} {μ m : zM} {S : zSn} {st : List Nat} {v : Int} {f : Nat}
theorem chain_lt (hW : wS S) : ∀ (st : List Nat) (q : Nat), chain S (q :: st) → ∀ x ∈ st, x < q := by
  intro st
  induction st with
  | nil => intro q _ x hx; cases hx
  | cons y r ih =>
    intro q h x hx
    have hy : y < q := by
      have e : sP S q = (y : Nat) := h.2.2.1
      rcases hW.2.2.2.2.1 q h.1 with ⟨a, -⟩ | ⟨q', a, b, -⟩ <;> omega
    rcases List.mem_cons.mp hx with e | e
    · omega
    · have := ih y h.2.2.2 x e; omega
theorem opns_mem {st : List Nat} {p : Int} : p ∈ opns st ↔ p = -1 ∨ ∃ q ∈ st, p = (q : Nat) := by
  unfold opns
  rw [List.mem_append, List.mem_map, List.mem_singleton]
  constructor
  · rintro (⟨q, h1, h2⟩ | h)
    · exact Or.inr ⟨q, h1, h2.symm⟩
    · exact Or.inl h
  · rintro (h | ⟨q, h1, h2⟩)
    · exact Or.inr h
    · exact Or.inl ⟨q, h1, h2.symm⟩
theorem pC.chg (ht : okT t) (h : pC μ t S st) {o : Nat} {y : Int} : pC (zsI μ (t + 3) o y) t (stC S o y) st := by
  have q17 := okT_4 t ht.2 ht.1
  obtain ⟨a1, a2, a3, a4, a5, a6, a7, a8, a9, a10⟩ := h
  have e : ∀ c, c ≠ t + 3 → ∀ i, zI (zsI μ (t + 3) o y) c i = zI μ c i := fun c hc i => zI_nk hc
  have e1 : ∀ p, cFirst (zsI μ (t + 3) o y) t p = cFirst μ t p := fun p => by unfold cFirst; rw [e t (by omega), e (t + 9) (by omega)]
  have e2 : ∀ p, cEndO (zsI μ (t + 3) o y) t st p = cEndO μ t st p := fun p => by unfold cEndO; rw [e t (by omega), e (t + 10) (by omega)]
  have e3 : ∀ (p : Int) (n a : Nat), pSel (zsI μ (t + 3) o y) (zit t) p a n = pSel μ (zit t) p a n := fun p n a => pSel_lo p n a (fun i _ _ => ⟨e _ (by omega) i, e _ (by omega) i⟩)
  refine ⟨(e t (by omega) 1).trans a1, fun i hi => (e (t + 1) (by omega) i).trans (a2 i hi), (e t (by omega) 2).trans a3, fun x hx => ?_, fun f hf => (e (t + 7) (by omega) f).trans (a5 f hf), by rw [e t (by omega)]; exact a6, by rw [e t (by omega), e t (by omega)]; exact a7, fun q hq => (e (t + 8) (by omega) q).trans (a8 q hq), fun p hp => ?_, fun x hx => ?_⟩
  · obtain ⟨b1, b2, b3, b4, b5⟩ := a4 x hx
    refine ⟨(e _ (by omega) x).trans b1, ?_, (e _ (by omega) x).trans b3, (e _ (by omega) x).trans b4, (e _ (by omega) x).trans b5⟩
    show _ = if x = o then y else sC S x
    by_cases c : x = o
    · rw [if_pos c, zI_eq rfl c]
    · rw [if_neg c, zI_ni c]; exact b2
  · rw [e1, e2, e3, e t (by omega)]; exact a9 p hp
  · rw [e1, e3, e t (by omega), e (t + 9) (by omega)]; exact a10 x hx
theorem pC.dft (ht : okT t) (h : pC μ t S st) {o : Nat} (ho : o < sN S) (hd : sD S o = 0) (hb : sB S (o : Nat) = []) (h9 : zI μ (t + 9) o + 1 = zI μ t 16) : pC (zsI μ (t + 4) o 1) t (stD S o) (o :: st) := by
  have q17 := okT_4 t ht.2 ht.1
  obtain ⟨a1, a2, a3, a4, a5, a6, a7, a8, a9, a10⟩ := h
  have e : ∀ c, c ≠ t + 4 → ∀ i, zI (zsI μ (t + 4) o 1) c i = zI μ c i := fun c hc i => zI_nk hc
  have e1 : ∀ p, cFirst (zsI μ (t + 4) o 1) t p = cFirst μ t p := fun p => by unfold cFirst; rw [e t (by omega), e (t + 9) (by omega)]
  have e2 : ∀ p : Int, p ≠ (o : Nat) → cEndO (zsI μ (t + 4) o 1) t (o :: st) p = cEndO μ t st p := fun p hp => by
    unfold cEndO
    rw [e t (by omega), e (t + 10) (by omega)]
    have : p ∈ opns (o :: st) ↔ p ∈ opns st := by
      show p ∈ ((o : Nat) : Int) :: opns st ↔ _
      rw [List.mem_cons]
      exact ⟨fun h => h.resolve_left hp, Or.inr⟩
    by_cases c : p ∈ opns st
    · rw [if_pos (this.mpr c), if_pos c]
    · rw [if_neg (fun h => c (this.mp h)), if_neg c]
  have e3 : ∀ (p : Int) (n a : Nat), pSel (zsI μ (t + 4) o 1) (zit t) p a n = pSel μ (zit t) p a n := fun p n a => pSel_lo p n a (fun i _ _ => ⟨e _ (by omega) i, e _ (by omega) i⟩)
  refine ⟨(e t (by omega) 1).trans a1, fun i hi => (e (t + 1) (by omega) i).trans (a2 i hi), (e t (by omega) 2).trans a3, fun x hx => ?_, fun f hf => (e (t + 7) (by omega) f).trans (a5 f hf), by rw [e t (by omega)]; exact a6, by rw [e t (by omega), e t (by omega)]; exact a7, fun q hq => (e (t + 8) (by omega) q).trans (a8 q hq), fun p hp => ?_, fun x hx => ?_⟩
  · obtain ⟨b1, b2, b3, b4, b5⟩ := a4 x hx
    refine ⟨(e _ (by omega) x).trans b1, (e _ (by omega) x).trans b2, ?_, (e _ (by omega) x).trans b4, (e _ (by omega) x).trans b5⟩
    show _ = if x = o then 1 else sD S x
    by_cases c : x = o
    · rw [if_pos c, zI_eq rfl c]
    · rw [if_neg c, zI_ni c]; exact b3
  · have eB : sB (stD S o) p = sB S p := rfl
    rw [e1, e3, e t (by omega), eB]
    by_cases c : p = (o : Nat)
    · have ef : cFirst μ t p = zI μ t 16 := by unfold cFirst; rw [if_neg (by omega), c, show ((o : Int)).toNat = o from rfl, h9]
      have ee : cEndO (zsI μ (t + 4) o 1) t (o :: st) p = zI μ t 16 := by
        unfold cEndO
        rw [if_pos (show p ∈ opns (o :: st) by rw [c]; exact List.mem_cons_self), e t (by omega)]
      rw [ef, ee, Int.sub_self]
      refine ⟨by omega, Int.le_refl _, Int.le_refl _, ?_⟩
      rw [c, hb]; rfl
    · rw [e2 p c]
      rcases (stD_part ho p).mp hp with a | a
      · exact a9 p a
      · exact absurd a c
  · rw [e1, e3, e t (by omega), e (t + 9) (by omega)]; exact a10 x hx
theorem pC.shut (ht : okT t) {q : Nat} (hw : wBu p S (q :: st)) (h : pC μ t S (q :: st)) : pC (zsI μ (t + 10) q (zI μ t 16)) t S st := by
  have q17 := okT_4 t ht.2 ht.1
  have hlt := chain_lt hw.1 st q hw.2.1
  obtain ⟨a1, a2, a3, a4, a5, a6, a7, a8, a9, a10⟩ := h
  generalize hn : zI μ t 16 = n at *
  have e : ∀ c, c ≠ t + 10 → ∀ i, zI (zsI μ (t + 10) q n) c i = zI μ c i := fun c hc i => zI_nk hc
  have e1 : ∀ p, cFirst (zsI μ (t + 10) q n) t p = cFirst μ t p := fun p => by unfold cFirst; rw [e t (by omega), e (t + 9) (by omega)]
  have e2 : ∀ p, isPart S p → cEndO (zsI μ (t + 10) q n) t st p = cEndO μ t (q :: st) p := fun p hp => by
    unfold cEndO
    have hm : p ∈ opns (q :: st) ↔ p = (q : Nat) ∨ p ∈ opns st := by
      show p ∈ ((q : Nat) : Int) :: opns st ↔ _
      rw [List.mem_cons]
    by_cases c : p = (q : Nat)
    · have hno : ¬ p ∈ opns st := fun h => by
        rcases opns_mem.mp h with a | ⟨x, a, b⟩
        · omega
        · have := hlt x a; omega
      rw [if_neg hno, if_pos (hm.mpr (Or.inl c)), zI_eq rfl (by omega), hn]
    · by_cases d : p ∈ opns st
      · rw [if_pos d, if_pos (hm.mpr (Or.inr d)), e t (by omega)]
      · rw [if_neg d, if_neg (fun h => (hm.mp h).elim c d)]
        have hp0 : p ≠ -1 := fun h => d (opns_mem.mpr (Or.inl h))
        rcases hp with a | ⟨o, a, -⟩
        · exact absurd a hp0
        · rw [zI_ni (by omega)]
  have e3 : ∀ (p : Int) (n' a : Nat), pSel (zsI μ (t + 10) q n) (zit t) p a n' = pSel μ (zit t) p a n' := fun p n' a => pSel_lo p n' a (fun i _ _ => ⟨e _ (by omega) i, e _ (by omega) i⟩)
  refine ⟨(e t (by omega) 1).trans a1, fun i hi => (e (t + 1) (by omega) i).trans (a2 i hi), (e t (by omega) 2).trans a3, fun x hx => ?_, fun f hf => (e (t + 7) (by omega) f).trans (a5 f hf), by rw [e t (by omega)]; exact a6, by rw [e t (by omega), e t (by omega), hn]; exact a7, fun q hq => (e (t + 8) (by omega) q).trans (a8 q hq), fun p hp => ?_, fun x hx => ?_⟩
  · obtain ⟨b1, b2, b3, b4, b5⟩ := a4 x hx
    exact ⟨(e _ (by omega) x).trans b1, (e _ (by omega) x).trans b2, (e _ (by omega) x).trans b3, (e _ (by omega) x).trans b4, (e _ (by omega) x).trans b5⟩
  · rw [e1, e2 p hp, e3, e t (by omega), hn]; exact a9 p hp
  · rw [e1, e3, e t (by omega), e (t + 9) (by omega), hn]; exact a10 x hx
end cb4
