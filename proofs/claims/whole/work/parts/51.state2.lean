/-! the class's State: its other methods -/
section vState2
variable {μ : zM} {c : Nat} {s : zSt}
theorem s_push (hc : okC c) (hS : pSt μ c s) (hW : wSt s) (hd : tD s < 4) (sn cur : Int) : zok (f3_push c sn cur μ) (fun m => pSt m c (stPush s sn cur) ∧ onlySt c μ m) := by
  obtain ⟨c0, c1, c2, c3, c4, c5, c6⟩ := hc.f
  obtain ⟨a1, a2, a3, a4, a5, a6⟩ := hS
  unfold f3_push
  simp only [a2]
  refine zok_t (by omega) (zok_gd ⟨by omega, by omega⟩ (zok_lt ?_))
  simp (disch := omega) only [zI_nk, a2, zx_nat]
  refine zok_gd ⟨by omega, by omega⟩ (zok_lt ?_)
  simp (disch := omega) only [zI_nk, a2, zx_nat]
  refine zok_gd ⟨by omega, by omega⟩ (zok_lt ?_)
  generalize hm3 : zsI (zsI (zsI μ (c + 1) (tD s) sn) (c + 2) (tD s) cur) (c + 3) (tD s) 0 = m3
  have g1 : onlySt c μ m3 := by rw [← hm3]; exact ((zSm.rf.sI (by omega)).sI (by omega)).sI (by omega)
  refine zok_x2 (fun (x : Int) m => ∃ j : Nat, x = j ∧ j ≤ 10 ∧ onlySt c μ m ∧ (∀ k, k ≠ c + 4 → ∀ i, zI m k i = zI m3 k i) ∧ (∀ i, i < 10 * tD s → zI m (c + 4) i = zI μ (c + 4) i) ∧ ∀ f, f < j → zI m (c + 4) (10 * tD s + f) = 0) (fun x _ => 10 - x.toNat) (fun kk x m hx ih => ?_) zFu _ _ ⟨0, rfl, by omega, g1, fun k _ i => rfl, fun i hi => by rw [← hm3, zI_nk (by omega), zI_nk (by omega), zI_nk (by omega)], fun f hf => absurd hf (Nat.not_lt_zero f)⟩ (by show 10 - 0 < 100000; omega)
  obtain ⟨j, rfl, hj, h1, h2, h3, h4⟩ := hx
  have hdm : zI m c 1 = tD s := by rw [h2 c (by omega), ← hm3, zI_nk (by omega), zI_nk (by omega), zI_nk (by omega)]; exact a2
  unfold f3_push_41
  rw [hdm]
  refine zok_if (fun h => zok_gl ⟨by omega, by omega⟩ (zok_lt (zok_some ?_))) (fun h => zok_gl ⟨by omega, by omega⟩ (zok_gl ⟨by omega, by omega⟩ (zok_gd ⟨by omega, by omega⟩ (zok_lt (zok_gl ⟨by omega, by omega⟩ (ih _ _ ?_ (by show 10 - ((j : Int) + 1).toNat < 10 - (j : Int).toNat; omega)))))))
  · have hj10 : j = 10 := by omega
    subst hj10
    have r : ∀ k, k ≠ c → k ≠ c + 4 → ∀ i, zI (zsI m c 1 ((tD s : Int) + 1)) k i = zI m3 k i := fun k hk hk4 i => by rw [zI_nk hk]; exact h2 k hk4 i
    have r3 : ∀ k, k ≠ c + 1 → k ≠ c + 2 → k ≠ c + 3 → ∀ i, zI m3 k i = zI μ k i := fun k h1 h2 h3 i => by rw [← hm3, zI_nk h3, zI_nk h2, zI_nk h1]
    refine ⟨⟨?_, ?_, ?_, fun l hl => ?_, fun l hl f hf => ?_, fun i hi => ?_⟩, h1.sI (by omega)⟩
    · rw [zI_ni (by decide), h2 c (by omega), r3 c (by omega) (by omega) (by omega)]; exact a1
    · rw [zI_eq rfl rfl]; show _ = ((tD s + 1 : Nat) : Int); omega
    · rw [zI_ni (by decide), h2 c (by omega), r3 c (by omega) (by omega) (by omega)]; exact a3
    · have hl2 : l < tD s + 1 := hl
      rw [r (c + 1) (by omega) (by omega), r (c + 2) (by omega) (by omega), r (c + 3) (by omega) (by omega), ← hm3]
      show _ = updI (tS s) (tD s) sn l ∧ _ = updI (tC s) (tD s) cur l ∧ _ = updI (tY s) (tD s) 0 l
      unfold updI
      by_cases e : l = tD s
      · rw [if_pos e, if_pos e, if_pos e]
        exact ⟨by rw [zI_nk (by omega), zI_nk (by omega), zI_eq rfl e], by rw [zI_nk (by omega), zI_eq rfl e], by rw [zI_eq rfl e]⟩
      · rw [if_neg e, if_neg e, if_neg e]
        have := a4 l (by omega)
        exact ⟨by rw [zI_nk (by omega), zI_nk (by omega), zI_ni e]; exact this.1, by rw [zI_nk (by omega), zI_ni e, zI_nk (by omega)]; exact this.2.1, by rw [zI_ni e, zI_nk (by omega), zI_nk (by omega)]; exact this.2.2⟩
    · have hl2 : l < tD s + 1 := hl
      show _ = (((if l = tD s then [] else tX s l f : List Int).length : Nat) : Int) ∧ ∀ i, i < (if l = tD s then [] else tX s l f : List Int).length → _ = (if l = tD s then [] else tX s l f : List Int).getD i 0
      by_cases e : l = tD s
      · rw [if_pos e]
        refine ⟨?_, fun i hi => absurd hi (Nat.not_lt_zero i)⟩
        rw [zI_nk (by omega), e, h4 f hf]; rfl
      · rw [if_neg e]
        have := a5 l (by omega) f hf
        refine ⟨?_, fun i hi => ?_⟩
        · rw [zI_nk (by omega), h3 _ (by omega)]; exact this.1
        · rw [r (c + 5) (by omega) (by omega), r3 (c + 5) (by omega) (by omega) (by omega)]; exact this.2 i hi
    · rw [r (c + 6) (by omega) (by omega), r3 (c + 6) (by omega) (by omega) (by omega)]; exact a6 i hi
  · have ez : zx ((tD s : Int) * 10 + j) = 10 * tD s + j := by show (_ : Int).toNat = _; omega
    rw [ez]
    refine ⟨j + 1, by omega, by omega, h1.sI (by omega), fun k hk i => (zI_nk hk).trans (h2 k hk i), fun i hi => (zI_ni (by omega)).trans (h3 i hi), fun f hf => ?_⟩
    by_cases e : f = j
    · rw [zI_eq rfl (by omega)]
    · rw [zI_ni (by omega)]; exact h4 f (by omega)
theorem s_isTyped (hc : okC c) (hS : pSt μ c s) (hW : wSt s) {l f : Nat} (hl : l < tD s) (hf : f < 10) : zok (f3_isTyped c (l : Int) (f : Int) μ) (fun b => b = mbit (tY s l) f) := by
  obtain ⟨c0, c1, c2, c3, c4, c5, c6⟩ := hc.f
  have := hW.2.1
  unfold f3_isTyped
  simp only [zx_nat, (hS.2.2.2.1 l hl).2.2]
  refine zok_gd ⟨by omega, by omega⟩ (zok_lt (zok_lt (zok_if (fun h => zok_some ?_) (fun h => zok_some ?_))))
  · exact ((mtest1 (by omega) (by omega)).mp h).symm
  · cases e : mbit (tY s l) f with
    | true => rfl
    | false => exact absurd ((mtest1 (x := tY s l) (f := (f : Int)) (by omega) (by omega)).mpr e) h
theorem s_typedLength (hc : okC c) (hS : pSt μ c s) (hW : wSt s) {l f : Nat} (hl : l < tD s) (hf : f < 10) : zok (f3_typedLength c (l : Int) (f : Int) μ) (fun r => r = (tX s l f).length) := by
  obtain ⟨c0, c1, c2, c3, c4, c5, c6⟩ := hc.f
  have := hW.2.1
  unfold f3_typedLength
  refine zok_gl ⟨by omega, by omega⟩ (zok_gl ⟨by omega, by omega⟩ (zok_gd ⟨by omega, by omega⟩ (zok_some ?_)))
  rw [show zx ((l : Int) * 10 + f) = 10 * l + f from by show (_ : Int).toNat = _; omega]
  exact (hS.2.2.2.2.1 l hl f hf).1
/-- one field's cells of a State are written anew -/
theorem pSt_field {m : zM} {l f : Nat} {y : Int} {x : List Int} (hS : pSt μ c s) (hW : wSt s) (hl : l < tD s) (hf : f < 10) (h1 : ∀ k, c ≤ k → k ≤ c + 6 → k ≠ c + 3 → k ≠ c + 4 → k ≠ c + 5 → ∀ i, zI m k i = zI μ k i) (h3 : ∀ i, zI m (c + 3) i = if i = l then y else zI μ (c + 3) i) (h4 : ∀ i, zI m (c + 4) i = if i = 10 * l + f then (x.length : Int) else zI μ (c + 4) i) (h5 : ∀ i, i < x.length → zI m (c + 5) (40 * (10 * l + f) + i) = x.getD i 0) (h6 : ∀ i, (i < 40 * (10 * l + f) ∨ 40 * (10 * l + f) + 40 ≤ i) → zI m (c + 5) i = zI μ (c + 5) i) :
    pSt m c (tO s, tD s, tS s, tC s, updI (tY s) l y, updX (tX s) l f x, tDoc s) := by
  obtain ⟨a1, a2, a3, a4, a5, a6⟩ := hS
  obtain ⟨w1, w2, w3, w4⟩ := hW
  have q : ∀ i, zI m c i = zI μ c i := h1 c (by omega) (by omega) (by omega) (by omega) (by omega)
  refine ⟨by rw [q]; exact a1, by rw [q]; exact a2, by rw [q]; exact a3, fun l2 hl2 => ?_, fun l2 hl2 f2 hf2 => ?_, fun i hi => by rw [h1 (c + 6) (by omega) (by omega) (by omega) (by omega) (by omega)]; exact a6 i hi⟩
  · rw [h1 (c + 1) (by omega) (by omega) (by omega) (by omega) (by omega), h1 (c + 2) (by omega) (by omega) (by omega) (by omega) (by omega), h3]
    refine ⟨(a4 l2 hl2).1, (a4 l2 hl2).2.1, ?_⟩
    show _ = updI (tY s) l y l2
    unfold updI
    by_cases e : l2 = l
    · rw [if_pos e, if_pos e]
    · rw [if_neg e, if_neg e]; exact (a4 l2 hl2).2.2
  · show _ = ((updX (tX s) l f x l2 f2).length : Int) ∧ ∀ i, i < (updX (tX s) l f x l2 f2).length → _ = (updX (tX s) l f x l2 f2).getD i 0
    unfold updX
    by_cases e : l2 = l ∧ f2 = f
    · rw [if_pos e, h4, if_pos (by omega), e.1, e.2]
      exact ⟨rfl, h5⟩
    · have hl2' : l2 < tD s := hl2
      have hne : 10 * l2 + f2 ≠ 10 * l + f := fun q => e ⟨by omega, by omega⟩
      have hx := ((w4 l2 hl2').2.2.2.2 f2 hf2).1
      rw [if_neg e, h4, if_neg hne]
      refine ⟨(a5 l2 hl2' f2 hf2).1, fun i hi => ?_⟩
      rw [h6 _ (by omega)]
      exact (a5 l2 hl2' f2 hf2).2 i hi
theorem s_untype (hc : okC c) (hS : pSt μ c s) (hW : wSt s) {l f : Nat} (hl : l < tD s) (hf : f < 10) : zok (f3_makeNotTyped c (l : Int) (f : Int) μ) (fun m => pSt m c (stUntype s l f) ∧ onlySt c μ m) := by
  obtain ⟨c0, c1, c2, c3, c4, c5, c6⟩ := hc.f
  have hw := hW.2.1
  unfold f3_makeNotTyped
  simp only [zx_nat, (hS.2.2.2.1 l hl).2.2]
  refine zok_gd ⟨by omega, by omega⟩ (zok_lt (zok_lt (zok_lt (zok_gd ⟨by omega, by omega⟩ (zok_lt (zok_gl ⟨by omega, by omega⟩ (zok_gl ⟨by omega, by omega⟩ (zok_gd ⟨by omega, by omega⟩ (zok_lt (zok_some ?_))))))))))
  rw [show zx ((l : Int) * 10 + f) = 10 * l + f from by show (_ : Int).toNat = _; omega]
  refine ⟨pSt_field hS hW hl hf (fun k _ _ h3 h4 h5 i => by rw [zI_nk h4, zI_nk h3]) (fun i => ?_) (fun i => ?_) (fun i hi => absurd hi (Nat.not_lt_zero i)) (fun i _ => by rw [zI_nk (by omega), zI_nk (by omega)]), (zSm.rf.sI (by omega)).sI (by omega)⟩
  · rw [zI_nk (by omega), zsI_at]
    by_cases e : i = l
    · rw [if_pos ⟨rfl, e⟩, if_pos e]
    · rw [if_neg (fun q => e q.2), if_neg e]
  · rw [zsI_at]
    by_cases e : i = 10 * l + f
    · rw [if_pos ⟨rfl, e⟩, if_pos e]; rfl
    · rw [if_neg (fun q => e q.2), if_neg e, zI_nk (by omega)]
/-- bytes of a row come behind what is typed -/
theorem s_type (hc : okC c) (hS : pSt μ c s) (hW : wSt s) {l f : Nat} (hl : l < tD s) (hf : f < 10) {r st : Nat} {x : List Int} (hr : r ≠ c + 5) (hx : (tX s l f).length + x.length ≤ 40) (hst : st + x.length ≤ zln r) (hrow : ∀ i, i < x.length → zI μ r (st + i) = x.getD i 0) : zok (f3_typeBehind c (l : Int) (f : Int) r (st : Int) (x.length : Int) μ) (fun m => pSt m c (stType s l f (tX s l f ++ x)) ∧ onlySt c μ m) := by
  obtain ⟨c0, c1, c2, c3, c4, c5, c6⟩ := hc.f
  have hw := hW.2.1
  have a := hS.2.2.2.2.1 l hl f hf
  unfold f3_typeBehind
  refine zok_gl ⟨by omega, by omega⟩ (zok_gl ⟨by omega, by omega⟩ (zok_gd ⟨by omega, by omega⟩ (zok_lt ?_)))
  have ez : zx ((l : Int) * 10 + f) = 10 * l + f := by show (_ : Int).toNat = _; omega
  rw [ez, a.1]
  refine zok_gl ⟨by omega, by omega⟩ (zok_lt ?_)
  rw [show min (x.length : Int) (40 - ((tX s l f).length : Int)) = (x.length : Int) from by omega]
  refine zok_gl ⟨by omega, by omega⟩ (zok_gl ⟨by omega, by omega⟩ (zok_gd ⟨by omega, by omega, by omega, by omega, by omega⟩ (zok_lt (zok_gl ⟨by omega, by omega⟩ (zok_gd ⟨by omega, by omega⟩ (zok_lt (zok_gd ⟨by omega, by omega⟩ (zok_lt (zok_lt (zok_gd ⟨by omega, by omega⟩ (zok_lt (zok_some ?_))))))))))))
  have e7 : zx (((l : Int) * 10 + f) * 40 + ((tX s l f).length : Int)) = 40 * (10 * l + f) + (tX s l f).length := by show (_ : Int).toNat = _; omega
  rw [e7, zx_nat, zx_nat, zx_nat, zI_nk (by omega), zcI_nk (by omega), (hS.2.2.2.1 l hl).2.2]
  refine ⟨pSt_field hS hW hl hf (fun k _ _ h3 h4 h5 i => by rw [zI_nk h3, zI_nk h4, zcI_nk h5]) (fun i => ?_) (fun i => ?_) (fun i hi => ?_) (fun i hi => ?_), ((zSm.rf.cI (by omega)).sI (by omega)).sI (by omega)⟩
  · rw [zsI_at]
    by_cases e : i = l
    · rw [if_pos ⟨rfl, e⟩, if_pos e]
    · rw [if_neg (fun q => e q.2), if_neg e, zI_nk (by omega), zcI_nk (by omega)]
  · rw [zI_nk (by omega), zsI_at]
    by_cases e : i = 10 * l + f
    · rw [if_pos ⟨rfl, e⟩, if_pos e, List.length_append]; omega
    · rw [if_neg (fun q => e q.2), if_neg e, zcI_nk (by omega)]
  · rw [List.length_append] at hi
    rw [zI_nk (by omega), zI_nk (by omega), gd_app]
    by_cases e : i < (tX s l f).length
    · rw [if_pos e, zcI_out (by omega)]; exact a.2 i e
    · rw [if_neg e, zcI_in rfl (by omega) (by omega), ← hrow _ (by omega)]
      congr 1; omega
  · rw [zI_nk (by omega), zI_nk (by omega), zcI_out (by omega)]
theorem s_append (hc : okC c) (hS : pSt μ c s) {r : Nat} {x : List Int} (hr : r ≠ c + 6) (hx : (tDoc s).length + x.length ≤ 600) (hst : x.length ≤ zln r) (hrow : ∀ i, i < x.length → zI μ r i = x.getD i 0) : zok (f3_appendToDocument c r (x.length : Int) μ) (fun m => pSt m c (stDoc s x) ∧ onlySt c μ m) := by
  obtain ⟨c0, c1, c2, c3, c4, c5, c6⟩ := hc.f
  obtain ⟨a1, a2, a3, a4, a5, a6⟩ := hS
  unfold f3_appendToDocument
  rw [a3]
  refine zok_gl ⟨by omega, by omega⟩ (zok_lt ?_)
  rw [show min (x.length : Int) (600 - ((tDoc s).length : Int)) = (x.length : Int) from by omega]
  refine zok_gd ⟨by omega, by omega, by omega, by omega, by omega⟩ (zok_lt ?_)
  rw [zcI_nk (by omega), a3, zx_nat, zx_nat, show zx 0 = 0 from rfl]
  refine zok_gl ⟨by omega, by omega⟩ (zok_lt (zok_some ?_))
  refine ⟨⟨?_, ?_, ?_, fun l hl => ?_, fun l hl f hf => ⟨?_, fun i hi => ?_⟩, fun i hi => ?_⟩, (zSm.rf.cI (by omega)).sI (by omega)⟩
  · rw [zI_ni (by decide), zcI_nk (by omega)]; exact a1
  · rw [zI_ni (by decide), zcI_nk (by omega)]; exact a2
  · rw [zI_eq rfl rfl]; show _ = ((tDoc s ++ x).length : Int); rw [List.length_append]; omega
  · rw [zI_nk (by omega), zcI_nk (by omega), zI_nk (by omega), zcI_nk (by omega), zI_nk (by omega), zcI_nk (by omega)]; exact a4 l hl
  · rw [zI_nk (by omega), zcI_nk (by omega)]; exact (a5 l hl f hf).1
  · rw [zI_nk (by omega), zcI_nk (by omega)]; exact (a5 l hl f hf).2 i hi
  · have hi2 : i < (tDoc s ++ x).length := hi
    rw [List.length_append] at hi2
    show _ = (tDoc s ++ x).getD i 0
    rw [zI_nk (by omega), gd_app]
    by_cases e : i < (tDoc s).length
    · rw [if_pos e, zcI_out (by omega)]; exact a6 i e
    · rw [if_neg e, zcI_in rfl (by omega) (by omega), Nat.zero_add, hrow _ (by omega)]
end vState2
