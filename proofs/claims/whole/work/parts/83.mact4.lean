/-! THE REFERENCE'S ACTS: type, expand -/
section mAct4
variable {A : zA} {c : Int} {μ m : zM} {s : zSt}
theorem wA.b {b : List Int} (hA : wA c A) (h1 : b.length ≤ 700) (h2 : ∀ x ∈ b, 1 ≤ x ∧ x ≤ 255) : wA c (setB A b) := ⟨hA.1, hA.2.1, hA.2.2.1, hA.2.2.2.1, ⟨h1, h2⟩, hA.2.2.2.2.2⟩
theorem wA.b0 (hA : wA c A) : wA c (setB A []) := hA.b (Nat.zero_le _) (fun x h => absurd h List.not_mem_nil)
theorem rM.b0 (hR : rM A m) : rM (setB A []) (zsI m 292 10 0) := by
  obtain ⟨h1, h2, h3, h4, h5, h6, h7⟩ := hR
  have e : ∀ c, c ≠ 292 → ∀ i, zI (zsI m 292 10 0) c i = zI m c i := fun c hc i => zI_nk hc
  have e1 : ∀ i, i ≠ 10 → zI (zsI m 292 10 0) 292 i = zI m 292 i := fun i hi => zI_ni hi
  refine ⟨rLb.keep h1 (zSm.rf.sI (by omega)) (fun _ => rfl), pMs_keep (e 293 (by decide)) h2, ⟨zI_eq rfl rfl, fun i hi => absurd hi (Nat.not_lt_zero i)⟩, ⟨(e1 11 (by decide)).trans h4.1, (e1 12 (by decide)).trans h4.2⟩, fun i hi => (e 298 (by decide) i).trans (h5 i hi), ⟨(e1 7 (by decide)).trans h6.1, fun j s hj => pMs_keep (e 295 (by decide)) (h6.2 j s hj)⟩, fun j hj => ?_⟩
  rcases h7 j hj with ⟨g1, g2⟩ | ⟨g1, s, g2, g3⟩
  · exact Or.inl ⟨(e 297 (by decide) j).trans g1, g2⟩
  · exact Or.inr ⟨(e 297 (by decide) j).trans g1, s, g2, pMs_keep (e 296 (by decide)) g3⟩
theorem b_begins2 (hs : wSt (aS A)) (hR : rM A m) (h0 : zI m 292 0 = 0) (hm : zSm (fun c => c < 292 ∨ 338 < c) μ m) : zok (f7_begins m) (fun m' => mB A μ m' ∧ pMs m' 293 0 (aS A) ∧ zSm (fun c => c ≠ 294) m m') := by
  unfold f7_begins
  refine zok_cm (m_copies (a := 293) (p := 0) (d := 294) (q := 0) (by rw [zl_m.1]; decide) (by rw [zl_m.2.1]; decide) (by rw [zl_m.1, zl_m.2.1]; decide) (Or.inl (by decide))) (fun m' h => zok_some ⟨⟨hR.x.fb (mFb.s94 h.1), ?_, ?_, ?_⟩, ?_, h.1⟩)
  · exact pMs_row hs (fun i hi => h.2.1 i hi) hR.2.1
  · rw [(h.1 292 (by decide) 0).1]; exact h0
  · exact hm.tr (h.1.mono (fun c hc => by omega))
  · exact pMs_keep (fun i => (h.1 293 (by decide) i).1) hR.2.1
theorem n_type139 (hA : wA c A) (hc : c ≤ 1000) (hq : qD A ≠ 0) {j w : Nat} {v : Int} (hw : w ≤ 9) (hB : mB A μ m) (hcur : zI m 293 (604 + 413 * (qD A - 1) + 1) = (qC A : Nat)) (hp : w = 0 → pMs m 293 0 s) (hv : w = 0 → zI m 293 (604 + 413 * (qD A - 1) + 3 + qC A) = v) : zok (f7_type_139 (j : Int) ((qD A - 1 : Nat) : Int) (w : Int) m) (nAct A μ (if w = 0 then .inr (v, s) else .inl w)) := by
  have hd : qD A ≤ 4 := hA.2.1.1.2.1
  have g4 := (q_facts hA hq).2.2.2.1
  unfold f7_type_139
  refine zok_gl ⟨by omega, by omega⟩ (zok_gl ⟨by omega, by omega⟩ (zok_gl ⟨by omega, by omega⟩ (zok_gl ⟨by omega, by omega⟩ (zok_gd ⟨by omega, by rw [zl_m.1]; omega⟩ ?_))))
  rw [show zx (604 + 413 * ((qD A - 1 : Nat) : Int) + 1) = 604 + 413 * (qD A - 1) + 1 from by show (_ : Int).toNat = _; omega, hcur]
  refine zok_gl ⟨by omega, by omega⟩ (zok_gd ⟨by omega, by rw [zl_m.1]; omega⟩ ?_)
  rw [show zx (604 + 413 * ((qD A - 1 : Nat) : Int) + 3 + (qC A : Int)) = 604 + 413 * (qD A - 1) + 3 + qC A from by show (_ : Int).toNat = _; omega]
  by_cases h0 : w = 0
  · rw [hv h0]
    exact zok_cl (b_tells hA.2.1.1 (hAcc hA hc) (hUn hA) hB hw hp v) (fun x m hx => zok_some hx)
  · have := b_tells hA.2.1.1 (hAcc hA hc) (hUn hA) hB hw hp (zI m 293 (604 + 413 * (qD A - 1) + 3 + qC A))
    rw [if_neg h0] at this ⊢
    exact zok_cl this (fun x m hx => zok_some hx)
theorem n_typeB (hA : wA c A) (hc : c ≤ 1000) {x : List Int} (hx20 : x.length ≤ 20) (hB : mB A μ m) (hp : pMs m 293 0 (aS A)) (hrow : ∀ i, i < x.length → zI m 338 i = x.getD i 0) :
    zok (if zI m 293 (zx 0) = 0 then zcl2 (f7_refused 1 m) (fun r6 m8 => some (r6, m8)) else zgd (zin 0 (zln 293)) (zgl (zI m 293 (zx 0) - 1) (fun v1 => zcl2 (f7_types v1 338 (x.length : Int) m) (fun r4 m6 => if zb r4 = 0 then f7_type_139 (x.length : Int) v1 4 m6 else zcl2 (f7_isTooLong v1 m6) (fun r5 m7 => if zb r5 = 0 then f7_type_139 (x.length : Int) v1 0 m7 else f7_type_139 (x.length : Int) v1 3 m7))))) (nAct A μ (spType A x)) := by
  have hd : qD A ≤ 4 := hA.2.1.1.2.1
  have hd' : tD (aS A) ≤ 4 := hd
  rw [p_dep hp]
  by_cases hq : qD A = 0
  · have es : spType A x = .inl 1 := by unfold spType; rw [if_pos hq]
    rw [es]
    exact zok_t (by show ((qD A : Nat) : Int) = 0; omega) (zok_cl (b_refused hA.2.1.1 (hAcc hA hc) hB (by decide) (by decide)) (fun x m hx => zok_some hx))
  · obtain ⟨g1, g2, g3, g4, g5, g6, g7, g8, g9, g10⟩ := q_facts hA hq
    have hl : qD A - 1 < tD (aS A) := by show qD A - 1 < qD A; omega
    have h40 := g2 _ g4
    have hcur : ∀ {m' : zM}, pMs m' 293 0 (aS A) → zI m' 293 (604 + 413 * (qD A - 1) + 1) = (qC A : Nat) := fun {m'} hp' => by
      have := (hp'.2.2.2.2 _ hl).2.1
      rw [Nat.zero_add] at this
      rw [this, g7]
    refine zok_f (by show ¬ ((qD A : Nat) : Int) = 0; omega) (zok_gd zin0 (zok_gl ⟨by omega, by omega⟩ ?_))
    rw [show ((tD (aS A) : Nat) : Int) - 1 = ((qD A - 1 : Nat) : Int) by show ((qD A : Nat) : Int) - 1 = _; omega]
    refine zok_cl (b_types hA.2.1.1 hl g4 g7 hp (by omega) (by decide) (by rw [zl_m2.2.2.2.2.2.2.2]; omega) hrow) (fun y m6 h6 => ?_)
    obtain ⟨k1, k2⟩ := h6
    by_cases hlen : (qX A (qC A)).length + x.length > 40
    · have h9 := k1 hlen
      have ey : y = false := congrArg Prod.fst h9
      have em : m6 = m := congrArg Prod.snd h9
      subst ey
      subst em
      have es : spType A x = .inl 4 := by unfold spType; rw [if_neg hq, if_pos hlen]
      rw [es]
      have := n_type139 (s := aS A) (w := 4) (j := x.length) (v := 0) hA hc hq (by decide) hB (hcur hp) (fun h => by cases h) (fun h => by cases h)
      rw [if_neg (by decide)] at this
      exact zok_t rfl this
    · obtain ⟨q1, q2, q3⟩ := k2 (Nat.not_lt.mp hlen)
      have ey : y = true := q1
      subst ey
      have hB6 := hB.row q2
      have q3' : pMs m6 293 0 (stTp (aS A) (qD A - 1) x) := q3
      have hw6 : wSt (stTp (aS A) (qD A - 1) x) := wSt_ty hA.2.1.1 g4 (by rw [List.length_append]; exact Nat.not_lt.mp hlen)
      have hx := hA.2.1.2 _ hl
      refine zok_f (by decide) (zok_cl (b_tooLong (s := stTp (aS A) (qD A - 1) x) hB6.1 hA.1 q3' hw6 (show qD A - 1 < tD (stTp (aS A) (qD A - 1) x) from hl) ⟨hx.1, hx.2.1⟩) (fun z m7 h7 => ?_))
      obtain ⟨y1, y2, y3⟩ := h7
      have y1' : z = decide (hTL (aL A) (stTp (aS A) (qD A - 1) x) (qD A - 1) > 400) := y1
      have hB7 := hB6.scr y2
      have hp7 : pMs m7 293 0 (stTp (aS A) (qD A - 1) x) := pMs_keep (fun i => (y2.1 293 (by omega) i).1) q3'
      have hrow7 := hp7.2.2.2.2 (qD A - 1) hl
      simp only [Nat.zero_add] at hrow7
      have hc7 : zI m7 293 (604 + 413 * (qD A - 1) + 1) = (qC A : Nat) := hrow7.2.1.trans g7
      have hv7 : zI m7 293 (604 + 413 * (qD A - 1) + 3 + qC A) = (((qX A (qC A)).length + x.length : Nat) : Int) := by
        have := (hrow7.2.2.2 (qC A) g4).1
        have eX : tX (stTp (aS A) (qD A - 1) x) (qD A - 1) (qC A) = qX A (qC A) ++ x := by show (if qD A - 1 = qD A - 1 ∧ qC A = hC (aS A) (qD A - 1) then _ else _) = _; rw [if_pos ⟨rfl, rfl⟩]; rfl
        rw [eX, List.length_append] at this
        exact this
      subst y1'
      by_cases h4 : hTL (aL A) (stTp (aS A) (qD A - 1) x) (qD A - 1) > 400
      · have es : spType A x = .inl 3 := by unfold spType; rw [if_neg hq, if_neg hlen, if_pos h4]
        rw [decide_eq_true h4, es]
        have := n_type139 (s := stTp (aS A) (qD A - 1) x) (w := 3) (j := x.length) (v := 0) hA hc hq (by decide) hB7 hc7 (fun h => by cases h) (fun h => by cases h)
        rw [if_neg (by decide)] at this
        exact zok_f (by decide) this
      · have es : spType A x = .inr (((qX A (qC A)).length + x.length : Nat), stTp (aS A) (qD A - 1) x) := by unfold spType; rw [if_neg hq, if_neg hlen, if_neg h4]
        rw [decide_eq_false h4, es]
        have := n_type139 (s := stTp (aS A) (qD A - 1) x) (w := 0) (j := x.length) hA hc hq (by decide) hB7 hc7 (fun _ => hp7) (fun _ => hv7)
        rw [if_pos rfl] at this
        exact zok_t rfl this
theorem n_type (hA : wA c A) (hc : c ≤ 1000) (hR : rM A μ) (n : Int) : zok (f7_type n μ) (fun r => (¬ (1 ≤ n ∧ n ≤ 20) ∧ rM A r.2 ∧ zI r.2 292 0 = 1 ∧ zSm (fun c => c < 292 ∨ 338 < c) μ r.2) ∨ (1 ≤ n ∧ n ≤ 20 ∧ ¬ n ≤ (aB A).length ∧ rM A r.2 ∧ zI r.2 292 0 = 2 ∧ zSm (fun c => c < 292 ∨ 338 < c) μ r.2) ∨ (1 ≤ n ∧ n ≤ 20 ∧ n ≤ (aB A).length ∧ nAct (setB A []) μ (spType A ((aB A).take n.toNat)) r)) := by
  obtain ⟨hR1, h0⟩ := z0 hR
  have hd : qD A ≤ 4 := hA.2.1.1.2.1
  have hd' : tD (aS A) ≤ 4 := hd
  unfold f7_type
  refine zok_lt ?_
  rw [win_eq, zco_s]
  by_cases hn : 1 ≤ n ∧ n ≤ 20
  · rw [decide_eq_true hn]
    refine zok_f (by decide) ?_
    unfold f7_type_21
    rw [thr0 h0, zcl_s, hR1.2.2.1.1]
    refine zok_t rfl (zok_if (fun hb => ?_) (fun hb => ?_))
    · unfold f7_type_42
      rw [thr0 h0, zcl_s]
      obtain ⟨j, rfl⟩ : ∃ j : Nat, n = j := ⟨n.toNat, by omega⟩
      rw [show ((j : Int)).toNat = j from rfl]
      have hxl : ((aB A).take j).length = j := by rw [List.length_take]; omega
      refine zok_mono (P := nAct (setB A []) μ (spType A ((aB A).take j))) ?_ (fun r hr => Or.inr (Or.inr ⟨hn.1, hn.2, hb, hr⟩))
      refine zok_t rfl ?_
      refine zok_x2 (fun (x : Int) m => ∃ i : Nat, x = i ∧ i ≤ j ∧ zSm (fun c => c ≠ 338) (zsI μ 292 0 0) m ∧ ∀ y, y < i → zI m 338 y = (aB A).getD y 0) (fun x _ => 20 - x.toNat) (fun kk x m hx ih => ?_) zFu 0 _ ⟨0, rfl, by omega, zSm.rf, fun y hy => absurd hy (Nat.not_lt_zero y)⟩ (by show 20 - 0 < 100000; omega)
      obtain ⟨i, rfl, i1, i2, i3⟩ := hx
      have hsc : mScr (zsI μ 292 0 0) m := ⟨i2.mono (fun c hc => by omega), fun i => (i2 292 (by decide) i).2.2, fun i _ => (i2 292 (by decide) i).1⟩
      have hRm := hR1.scr hsc
      unfold f7_type_53
      refine zok_if (fun h9 => ?_) (fun h9 => ?_)
      · have hi : i = j := by omega
        subst hi
        have hw := hA.b0
        have hR4 := hRm.b0
        refine zok_lt (zok_cm (b_begins2 (μ := μ) hw.2.1.1 hR4 ?_ ?_) (fun m5 h5 => zok_gd zin0 ?_))
        · rw [zI_ni (by decide), (i2 292 (by decide) 0).1]; exact h0
        · exact (((zSm.rf.sI (c := 292) (j := 0) (v := 0) (by omega)).tr (i2.mono (fun c hc => by omega))).sI (by omega))
        · obtain ⟨hB, hp, h94⟩ := h5
          have e338 : ∀ y, y < ((aB A).take i).length → zI m5 338 y = ((aB A).take i).getD y 0 := by
            intro y hy
            rw [hxl] at hy
            rw [(h94 338 (by decide) y).1, zI_nk (by decide), i3 y hy, List.getD_eq_getElem?_getD, List.getD_eq_getElem?_getD, List.getElem?_take, if_pos hy]
          have := n_typeB (μ := μ) hw hc (x := (aB A).take i) (by omega) hB hp e338
          rw [hxl] at this
          exact this
      · refine zok_gd ⟨by omega, by rw [zl_m.2.2.2.2.2.2.1]; omega⟩ (zok_gd ⟨by omega, by rw [zl_m2.2.2.2.2.2.2.2]; omega⟩ (zok_lt (zok_gl ⟨by omega, by omega⟩ (ih _ _ ⟨i + 1, by omega, by omega, i2.sI (fun q => q rfl), fun y hy => ?_⟩ (by show 20 - ((i : Int) + 1).toNat < 20 - (i : Int).toNat; omega)))))
        rw [zx_nat]
        by_cases q : y = i
        · rw [zI_eq rfl q, hRm.2.2.1.2 i (by omega), q]
        · rw [zI_ni q]; exact i3 y (by omega)
    · unfold f7_type_42
      rw [thr1 h0 (by decide), zcl_s]
      exact zok_f (by decide) (zok_some (Or.inr (Or.inl ⟨hn.1, hn.2, hb, hR1.z 2, zI_eq rfl rfl, (zSm.rf.sI (by omega)).sI (by omega)⟩)))
  · rw [decide_eq_false hn]
    refine zok_t rfl ?_
    unfold f7_type_21
    rw [thr1 h0 (by decide), zcl_s]
    exact zok_f (by decide) (zok_some (Or.inl ⟨hn, hR1.z 1, zI_eq rfl rfl, (zSm.rf.sI (by omega)).sI (by omega)⟩))
theorem pMs_eq {s1 s2 : zSt} (h : sEq s1 s2) (hp : pMs m 293 0 s1) : pMs m 293 0 s2 := by
  obtain ⟨a1, a2, a3, a4, a5⟩ := hp
  refine ⟨by rw [a1, h.2.1], a2.trans h.1, by rw [a3, h.2.2.1], by rw [← h.2.2.1]; exact a4, fun l hl => ?_⟩
  have hl1 : l < tD s1 := by rw [h.2.1]; exact hl
  obtain ⟨g1, g2, g3, g4⟩ := h.2.2.2 l hl1
  obtain ⟨b1, b2, b3, b4⟩ := a5 l hl1
  rw [← g1, ← g2, ← g3]
  exact ⟨b1, b2, b3, fun f hf => by rw [← g4 f]; exact b4 f hf⟩
theorem n_expand (hA : wA c A) (hc : c ≤ 1000) (hR : rM A μ) (k : Int) : zok (f7_expand k μ) (fun r => (¬ (0 ≤ k ∧ k < aN A) ∧ rM A r.2 ∧ zI r.2 292 0 = 1 ∧ zSm (fun c => c < 292 ∨ 338 < c) μ r.2) ∨ (0 ≤ k ∧ k < aN A ∧ nAct A μ (spExpand A k.toNat) r)) := by
  obtain ⟨hR1, h0⟩ := z0 hR
  have hd : qD A ≤ 4 := hA.2.1.1.2.1
  have hd' : tD (aS A) ≤ 4 := hd
  unfold f7_expand
  refine zok_lt ?_
  by_cases hk : 0 ≤ k ∧ k < aN A
  · rw [nsn1 hA hR1 h0 hk, zcl_s]
    obtain ⟨j, rfl⟩ : ∃ j : Nat, k = j := ⟨k.toNat, by omega⟩
    have hj : j < aN A := by omega
    rw [show ((j : Int)).toNat = j from rfl]
    refine zok_mono (P := nAct A μ (spExpand A j)) ?_ (fun r hr => Or.inr ⟨hk.1, hk.2, hr⟩)
    refine zok_t rfl (zok_cm (n_start hA hR) (fun m3 h3 => zok_gd zin0 ?_))
    obtain ⟨hB, hp⟩ := h3
    rw [p_dep hp]
    refine zok_if (fun h4 => ?_) (fun h4 => ?_)
    · have es : spExpand A j = .inl 2 := by unfold spExpand; rw [if_pos (by show tD (aS A) = 4; omega)]
      rw [es]
      exact zok_cl (b_refused hA.2.1.1 (hAcc hA hc) hB (by decide) (by decide)) (fun x m hx => zok_some hx)
    · have hq4 : qD A ≠ 4 := by show tD (aS A) ≠ 4; omega
      refine zok_gd zin0 (zok_gl ⟨by omega, by omega⟩ (zok_gl ⟨by omega, by omega⟩ ?_))
      rw [show 604 + 413 * ((tD (aS A) : Nat) : Int) = ((604 + 413 * tD (aS A) : Nat) : Int) by omega]
      refine zok_x3 (fun (x2 x3 : Int) m => x2 = ((604 + 413 * tD (aS A) : Nat) : Int) ∧ ∃ i : Nat, x3 = i ∧ i ≤ 413 ∧ zSm (fun c => c ≠ 293) m3 m ∧ (∀ y, y < i → zI m 293 (604 + 413 * tD (aS A) + y) = 0) ∧ ∀ y, (y < 604 + 413 * tD (aS A) ∨ 604 + 413 * tD (aS A) + i ≤ y) → zI m 293 y = zI m3 293 y) (fun _ x3 _ => 413 - x3.toNat) (fun kk x2 x3 m hx ih => ?_) zFu _ 0 m3 ⟨rfl, 0, rfl, by omega, zSm.rf, fun y hy => absurd hy (Nat.not_lt_zero y), fun _ _ => rfl⟩ (by show 413 - 0 < 100000; omega)
      obtain ⟨rfl, i, rfl, i1, i2, i3, i4⟩ := hx
      unfold f7_expand_52
      refine zok_if (fun h9 => ?_) (fun h9 => ?_)
      · have hi : i = 413 := by omega
        subst hi
        have e0 : zx (((604 + 413 * tD (aS A) : Nat) : Int) + 0) = 604 + 413 * tD (aS A) := by show (_ : Int).toNat = _; omega
        have e1 : zx (((604 + 413 * tD (aS A) : Nat) : Int) + 1) = 604 + 413 * tD (aS A) + 1 := by show (_ : Int).toNat = _; omega
        refine zok_gl ⟨by omega, by omega⟩ (zok_gd ⟨by omega, by rw [zl_m.1]; omega⟩ (zok_lt (zok_gd zin0 ?_)))
        have ed : zI (zsI m 293 (zx (((604 + 413 * tD (aS A) : Nat) : Int) + 0)) (j : Int)) 293 (zx 0) = (tD (aS A) : Nat) := by
          rw [e0, zI_ni (show zx 0 ≠ 604 + 413 * tD (aS A) by show 0 ≠ _; omega)]
          exact (i4 0 (by omega)).trans hp.1
        rw [ed]
        refine zok_gl ⟨by omega, by omega⟩ (zok_gd zin0 (zok_lt (zok_gd zin0 ?_)))
        rw [zI_eq rfl rfl, e0]
        refine zok_gl ⟨by omega, by omega⟩ ?_
        rw [show ((tD (aS A) : Nat) : Int) + 1 - 1 = ((tD (aS A) : Nat) : Int) by omega]
        generalize hm6 : zsI (zsI m 293 (604 + 413 * tD (aS A)) (j : Int)) 293 (zx 0) (((tD (aS A) : Nat) : Int) + 1) = m6
        have f6 : zSm (fun c => c ≠ 293) m3 m6 := by rw [← hm6]; exact (i2.sI (fun q => q rfl)).sI (fun q => q rfl)
        have r6 : ∀ y, y ≠ 0 → (y < 604 + 413 * tD (aS A) ∨ 604 + 413 * tD (aS A) + 413 ≤ y) → zI m6 293 y = zI m3 293 y := fun y y1 y2 => by rw [← hm6, zI_ni (show y ≠ zx 0 from y1), zI_ni (by omega)]; exact i4 y y2
        have z6 : ∀ y, 0 < y → y < 413 → zI m6 293 (604 + 413 * tD (aS A) + y) = 0 := fun y y1 y2 => by rw [← hm6, zI_ni (show 604 + 413 * tD (aS A) + y ≠ zx 0 by show _ ≠ 0; omega), zI_ni (by omega)]; exact i3 y y2
        have hp6 : pMs m6 293 0 (stPush (aS A) j 0) := by
          obtain ⟨a1, a2, a3, a4, a5⟩ := hp
          have hdoc := hA.2.1.1.2.2.1
          simp only [Nat.zero_add] at a1 a2 a3 a4 a5
          unfold pMs
          simp only [Nat.zero_add]
          refine ⟨?_, (r6 1 (by decide) (by omega)).trans a2, (r6 2 (by decide) (by omega)).trans a3, fun y hy => (r6 _ (by omega) (by have hy' : y < (tDoc (aS A)).length := hy; omega)).trans (a4 y hy), fun l hl => ?_⟩
          · rw [← hm6]; exact (zI_eq rfl (show (0:Nat) = zx 0 from rfl)).trans rfl
          · have hl' : l < tD (aS A) + 1 := hl
            by_cases q : l = tD (aS A)
            · subst q
              obtain ⟨p1, p2, p3, p4⟩ := push_h (aL A) (aS A) j 0
              have t1 : tS (stPush (aS A) j 0) (tD (aS A)) = (j : Int) := by show (if tD (aS A) = tD (aS A) then _ else _) = _; rw [if_pos rfl]
              have t2 : tC (stPush (aS A) j 0) (tD (aS A)) = 0 := by show (if tD (aS A) = tD (aS A) then _ else _) = _; rw [if_pos rfl]
              have t3 : tY (stPush (aS A) j 0) (tD (aS A)) = 0 := by show (if tD (aS A) = tD (aS A) then _ else _) = _; rw [if_pos rfl]
              rw [t1, t2, t3, p3]
              refine ⟨?_, z6 1 (by decide) (by decide), z6 2 (by decide) (by decide), fun f hf => ⟨?_, fun i hi => absurd hi (Nat.not_lt_zero i)⟩⟩
              · rw [← hm6, zI_ni (show 604 + 413 * tD (aS A) ≠ zx 0 by show _ ≠ 0; omega), zI_eq rfl rfl]
              · have := z6 (3 + f) (by omega) (by omega)
                rw [← Nat.add_assoc] at this
                exact this
            · obtain ⟨q1, q2, q3, q4⟩ := push_lo (aS A) j 0 (show l < tD (aS A) by omega)
              obtain ⟨b1, b2, b3, b4⟩ := a5 l (by omega)
              have hxl := (hA.2.1.1.2.2.2 l (by omega)).2.2.2.2
              rw [q1, q2, q3, q4]
              exact ⟨(r6 _ (by omega) (by omega)).trans b1, (r6 _ (by omega) (by omega)).trans b2, (r6 _ (by omega) (by omega)).trans b3, fun f hf => ⟨(r6 _ (by omega) (by omega)).trans (b4 f hf).1, fun y hy => (r6 _ (by omega) (by have := (hxl f hf).1; omega)).trans ((b4 f hf).2 y hy)⟩⟩
        have hB6 := hB.row f6
        have hPB := pushB hA hj hq4 0
        have hwP : wSt (stPush (aS A) j 0) := hPB.2.1
        have hdP : tD (aS A) < tD (stPush (aS A) j 0) := by show tD (aS A) < tD (aS A) + 1; omega
        have hkP : ∀ l, l < tD (stPush (aS A) j 0) → 0 ≤ tS (stPush (aS A) j 0) l ∧ tS (stPush (aS A) j 0) l < aN A := hPB.2.2
        obtain ⟨p1, p2, p3, p4⟩ := push_h (aL A) (aS A) j 0
        have hTl : hTL (aL A) (stPush (aS A) j 0) (tD (aS A)) = vTL (aL A j) (fun _ => false) (fun _ => 0) := by unfold hTL; rw [p1, p2, p4]
        refine zok_cl (b_tooLong hB6.1 hA.1 hp6 hwP hdP (hkP _ hdP)) (fun y m7 h7 => ?_)
        obtain ⟨y1, y2, y3⟩ := h7
        have y1' : y = decide (vTL (aL A j) (fun _ => false) (fun _ => 0) > 400) := by rw [← hTl]; exact y1
        have hB7 := hB6.scr y2
        have hp7 : pMs m7 293 0 (stPush (aS A) j 0) := pMs_keep (fun i => (y2.1 293 (by omega) i).1) hp6
        subst y1'
        by_cases h400 : vTL (aL A j) (fun _ => false) (fun _ => 0) > 400
        · have es : spExpand A j = .inl 3 := by unfold spExpand; rw [if_neg hq4, if_pos h400]
          rw [decide_eq_true h400, es]
          exact zok_f (by decide) (zok_cl (b_refused hA.2.1.1 (hAcc hA hc) hB7 (by decide) (by decide)) (fun x m hx => zok_some hx))
        · rw [decide_eq_false h400]
          obtain ⟨b', k', w1, w2, w3, w4, w5, w6⟩ := y3
          refine zok_t rfl (zok_cm (m_laysLeaving w1 w2 w6 hA.2.1.1.1) (fun m8 h8 => ?_))
          have hO : mOl (vOrd (aL A j) (fun _ => false) (tO (aS A))) m8 := by
            have := h8.1
            rw [p1, p2] at this
            exact this
          have hs8 := h8.2.scr
          have hB8 := hB7.scr hs8
          have hp8 : pMs m8 293 0 (stPush (aS A) j 0) := pMs_keep (fun i => (hs8.1 293 (by omega) i).1) hp7
          rw [hO.1]
          refine zok_if (fun hz => ?_) (fun hz => ?_)
          · have hnil : vOrd (aL A j) (fun _ => false) (tO (aS A)) = [] := List.eq_nil_of_length_eq_zero (by omega)
            have hD : tD (stPush (aS A) j 0) - 1 = tD (aS A) := push_d _ _ _
            have hCl : tD (aS A) ≠ 0 → hC (stPush (aS A) j 0) (tD (aS A) - 1) < 10 ∧ tC (stPush (aS A) j 0) (tD (aS A) - 1) = (hC (stPush (aS A) j 0) (tD (aS A) - 1) : Nat) := fun h => by
              obtain ⟨q1, q2, q3, q4⟩ := push_lo (aS A) j 0 (show tD (aS A) - 1 < tD (aS A) by omega)
              have hh := lv_C hA (show tD (aS A) - 1 < tD (aS A) by omega)
              have e1 : hC (stPush (aS A) j 0) (tD (aS A) - 1) = hC (aS A) (tD (aS A) - 1) := by unfold hC; rw [q2]
              rw [e1, q2]; exact hh
            have es : spExpand A j = if rsn (aL A) (stPush (aS A) j 0) (tD (aS A)) (hTL (aL A) (stPush (aS A) j 0) (tD (aS A))) = 0 then .inr ((tD (endS (aL A) (stPush (aS A) j 0)) : Nat), endS (aL A) (stPush (aS A) j 0)) else .inl (rsn (aL A) (stPush (aS A) j 0) (tD (aS A)) (hTL (aL A) (stPush (aS A) j 0) (tD (aS A)))) := by
              unfold spExpand
              rw [if_neg hq4, if_neg h400, if_pos hnil, spEnd_rsn _ _ (fun h => by rw [hD] at h ⊢; exact (hCl h).1), hD]
              by_cases hr : rsn (aL A) (stPush (aS A) j 0) (tD (aS A)) (hTL (aL A) (stPush (aS A) j 0) (tD (aS A))) = 0
              · rw [if_pos hr, if_pos hr]; rfl
              · rw [if_neg hr, if_neg hr]; rfl
            have hle := rsn_le (aL A) (stPush (aS A) j 0) (tD (aS A)) (hTL (aL A) (stPush (aS A) j 0) (tD (aS A)))
            have hen := b_ends hA.1 hB8 hp8 hwP hkP (by show tD (aS A) + 1 ≠ 0; omega) (fun h => by rw [hD] at h ⊢; exact hCl h) (by rw [hD, hTl]; omega)
            rw [hD] at hen
            rw [es]
            refine zok_cl hen (fun x m9 hx => ?_)
            obtain ⟨x1, x2, x3, x4⟩ := hx
            have x1' : x = (rsn (aL A) (stPush (aS A) j 0) (tD (aS A)) (hTL (aL A) (stPush (aS A) j 0) (tD (aS A))) : Nat) := x1
            subst x1'
            unfold f7_expand_149
            have e9 : zI m9 293 (zx 0) = ((tD (endS (aL A) (stPush (aS A) j 0)) : Nat) : Int) := by rw [end_D, hD]; exact x4
            rw [e9]
            exact zok_gd zin0 (zok_cl (b_tells hA.2.1.1 (hAcc hA hc) (hUn hA) x2 (by omega) x3 _) (fun x m hx => zok_some hx))
          · have hne : vOrd (aL A j) (fun _ => false) (tO (aS A)) ≠ [] := fun h => hz (by rw [h]; rfl)
            have hlen : 0 < (vOrd (aL A j) (fun _ => false) (tO (aS A))).length := List.length_pos_iff.mpr hne
            have es : spExpand A j = .inr ((qD A + 1 : Nat), stPush (aS A) j ((vOrd (aL A j) (fun _ => false) (tO (aS A))).getD 0 0 : Nat)) := by unfold spExpand; rw [if_neg hq4, if_neg h400, if_neg hne]
            refine zok_gl ⟨by omega, by omega⟩ (zok_gd ⟨by decide, by rw [zl_m2.2.2.2.2.2.1]; decide⟩ (zok_gd ⟨by omega, by rw [zl_m.1]; omega⟩ (zok_lt ?_)))
            rw [show zI m8 336 (zx 0) = (((vOrd (aL A j) (fun _ => false) (tO (aS A))).getD 0 0 : Nat) : Int) from hO.2 0 hlen, e1, es]
            have hp9 := pMs_cur (v := (((vOrd (aL A j) (fun _ => false) (tO (aS A))).getD 0 0 : Nat) : Int)) hwP hdP hp8
            have hB9 : mB A μ (zsI m8 293 (604 + 413 * tD (aS A) + 1) (((vOrd (aL A j) (fun _ => false) (tO (aS A))).getD 0 0 : Nat) : Int)) := hB8.row (zSm.rf.sI (fun q => q rfl))
            generalize (((vOrd (aL A j) (fun _ => false) (tO (aS A))).getD 0 0 : Nat) : Int) = v at *
            have hE : sEq (stCur (stPush (aS A) j 0) (tD (aS A)) v) (stPush (aS A) j v) := by
              refine ⟨rfl, rfl, rfl, fun l hl => ⟨rfl, ?_, rfl, fun f => rfl⟩⟩
              show (if l = tD (aS A) then v else (if l = tD (aS A) then 0 else tC (aS A) l)) = (if l = tD (aS A) then v else tC (aS A) l)
              by_cases q : l = tD (aS A)
              · rw [if_pos q, if_pos q]
              · rw [if_neg q, if_neg q, if_neg q]
            have hp10 := pMs_eq hE hp9
            unfold f7_expand_149
            rw [p_dep hp10, show tD (stPush (aS A) j v) = qD A + 1 from rfl]
            have := b_tells (w := 0) hA.2.1.1 (hAcc hA hc) (hUn hA) hB9 (by decide) (fun _ => hp10) ((qD A + 1 : Nat) : Int)
            rw [if_pos rfl] at this
            exact zok_gd zin0 (zok_cl this (fun x m hx => zok_some hx))
      · refine zok_gl ⟨by omega, by omega⟩ (zok_gd ⟨by omega, by rw [zl_m.1]; omega⟩ (zok_lt (zok_gl ⟨by omega, by omega⟩ ?_)))
        rw [show zx (((604 + 413 * tD (aS A) : Nat) : Int) + (i : Int)) = 604 + 413 * tD (aS A) + i from by show (_ : Int).toNat = _; omega]
        refine ih _ _ _ ⟨rfl, i + 1, by omega, by omega, i2.sI (fun q => q rfl), fun y hy => ?_, fun y hy => (zI_ni (by omega)).trans (i4 y (by omega))⟩ (by show 413 - ((i : Int) + 1).toNat < 413 - (i : Int).toNat; omega)
        by_cases q : y = i
        · rw [zI_eq rfl (by omega)]
        · rw [zI_ni (by omega)]; exact i3 y (by omega)
  · rw [nsn0 hA hR1 h0 hk, zcl_s]
    exact zok_f (by decide) (zok_some (Or.inl ⟨hk, hR1.z 1, zI_eq rfl rfl, (zSm.rf.sI (by omega)).sI (by omega)⟩))
end mAct4
