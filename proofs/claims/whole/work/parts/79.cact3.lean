/-! THE CLASS'S ACTS: type, erase, reset; what is saved -/
section cActs3
variable {A : zA} {c : Int} {μ m : zM}
theorem rC.b0 (hn : aN A ≤ 8) (hr : rC A m) : rC (setB A []) (zsI m 1 1 0) := by
  obtain ⟨⟨t, t1, t2, t3, t4, t5⟩, h2, h3, h4, h5, ⟨n, n1, n2, n3, n4⟩, h7⟩ := hr
  have e : ∀ c, c ≠ 1 → ∀ i, zI (zsI m 1 1 0) c i = zI m c i := fun c hc i => zI_nk hc
  have e1 : ∀ i, i ≠ 1 → zI (zsI m 1 1 0) 1 i = zI m 1 i := fun i hi => zI_ni hi
  refine ⟨⟨t, t1, t2, t3, (e t (by omega) 1).trans t4, fun k hk => ?_⟩, pSt_keep (fun k k1 k2 => e k (by omega)) h2, ⟨zI_eq rfl rfl, fun i hi => absurd hi (Nat.not_lt_zero i)⟩, ⟨(e1 4 (by decide)).trans h4.1, (e1 5 (by decide)).trans h4.2⟩, fun i hi => (e 3 (by decide) i).trans (h5 i hi), ⟨n, n1, (e1 9 (by decide)).trans n2, (e1 10 (by decide)).trans n3, fun j s hj => pSt_keep (fun k k1 k2 => e k (by omega)) (n4 j s hj)⟩, fun j hj => ?_⟩
  · have hk' : k < aN A := hk
    have hz := (okT_k t1 (show k < 8 by omega)).f
    exact pSc_keep (fun c c1 c2 i => e c (by omega) i) (fun i => ⟨e _ (by omega) i, e _ (by omega) i⟩) (t5 k hk)
  · rcases h7 j hj with ⟨g1, g2⟩ | ⟨g1, s, g2, g3⟩
    · exact Or.inl ⟨(e 6 (by decide) j).trans g1, g2⟩
    · exact Or.inr ⟨(e 6 (by decide) j).trans g1, s, g2, pSt_keep (fun k k1 k2 => e k (by omega)) g3⟩
theorem c_tfb (hA : wA c A) (hc : c ≤ 1000) (hR : rC A μ) {n : Nat} (hn : n ≤ (aB A).length) (hn20 : n ≤ 20) : zok (f5_typeFromBuffer (n : Int) μ) (cAct A μ (spType A ((aB A).take n))) := by
  have hxl : ((aB A).take n).length = n := by rw [List.length_take]; omega
  unfold f5_typeFromBuffer
  rw [c_dep hR]
  by_cases hq : qD A = 0
  · have es : spType A ((aB A).take n) = .inl 1 := by unfold spType; rw [if_pos hq]
    rw [es]
    exact zok_t (by omega) (zok_cl (c_refuse hA hc hR zSm.rf (by decide) (by decide)) (fun x m hx => zok_some hx))
  · obtain ⟨g1, g2, g3, g4, g5, g6, g7, g8, g9, g10⟩ := q_facts hA hq
    have hl : qD A - 1 < tD (aS A) := by show qD A - 1 < qD A; omega
    have h40 := g2 _ g4
    refine zok_f (by omega) (zok_gl ⟨by omega, by omega⟩ ?_)
    rw [show ((qD A : Nat) : Int) - 1 = ((qD A - 1 : Nat) : Int) by omega, zx_nat, show zI μ 195 (qD A - 1) = _ from (hR.2.1.2.2.2.1 _ hl).2.1, g7]
    refine zok_gd ⟨by omega, by rw [zln_c.2.2.2.2.2.2.1]; omega⟩ (zok_lt (zok_co (s_typedLength okC_all.1 hR.2.1 hA.2.1.1 hl g4) (fun r hr => ?_)))
    have hr' : r = ((qX A (qC A)).length : Int) := hr
    subst hr'
    refine zok_gl ⟨by omega, by omega⟩ (zok_if (fun h => ?_) (fun h => ?_))
    · rw [show ((qX A (qC A)).length : Int) + (n : Int) = (((qX A (qC A)).length + n : Nat) : Int) by omega]
      refine zok_cl (c_tit hA.B hR hl g4 (n := (qX A (qC A)).length + n) (by omega)) (fun x m1 hx => zok_lt ?_)
      have eT : hTL (aL A) (stTp (aS A) (qD A - 1) ((aB A).take n)) (qD A - 1) = vTL (hS (aL A) (aS A) (qD A - 1)) (onT (hT (aS A) (qD A - 1)) (qC A)) (updN (hN (aS A) (qD A - 1)) (qC A) ((qX A (qC A)).length + n)) := by
        unfold stTp
        rw [tp_h (aL A) (aS A) (qD A - 1) (f := hC (aS A) (qD A - 1)) g4, List.length_append, hxl]; rfl
      have hx1 : x = ((hTL (aL A) (stTp (aS A) (qD A - 1) ((aB A).take n)) (qD A - 1) : Nat) : Int) := by rw [eT]; exact hx.1
      rw [hx1]
      refine zok_if (fun h2 => ?_) (fun h2 => ?_)
      · have h3 := zcmp_le.mp h2
        have es : spType A ((aB A).take n) = .inr (((qX A (qC A)).length + n : Nat), stTp (aS A) (qD A - 1) ((aB A).take n)) := by unfold spType; rw [if_neg hq, hxl, if_neg (by omega), if_neg (by omega)]
        have hR1 := hR.only hA.1.1 hx.2.1
        rw [es]
        refine zok_cm (c_keep hA hc hR1) (fun m2 h4 => ?_)
        have hty := s_type (st := 0) (x := (aB A).take n) (r := 2) okC_all.1 h4.1.2.1 hA.2.1.1 hl g4 (by decide) (by rw [hxl]; show (qX A (qC A)).length + n ≤ 40; omega) (by rw [hxl, zln_c.1]; omega) (fun i hi => by
          rw [hxl] at hi
          rw [Nat.zero_add, h4.1.2.2.1.2 i (by show i < (aB A).length; omega), List.getD_eq_getElem?_getD, List.getD_eq_getElem?_getD, List.getElem?_take, if_pos hi]; rfl)
        rw [hxl] at hty
        refine zok_cm hty (fun m3 h5 => zok_some ?_)
        exact cAct.done hA.1.1 hx.2.1 h4.1 h4.2 (h5.2.mono (fun c hc => by omega)) h5.1
      · have h3 : ¬ ((hTL (aL A) (stTp (aS A) (qD A - 1) ((aB A).take n)) (qD A - 1) : Nat) : Int) ≤ 400 := fun q => h2 (zcmp_le.mpr q)
        have es : spType A ((aB A).take n) = .inl 3 := by unfold spType; rw [if_neg hq, hxl, if_neg (by omega), if_pos (by omega)]
        rw [es]
        exact zok_cl (c_refuse hA hc hR hx.2.1 (by decide) (by decide)) (fun x m hx => zok_some hx)
    · have es : spType A ((aB A).take n) = .inl 4 := by unfold spType; rw [if_neg hq, hxl, if_pos (by omega)]
      rw [es]
      exact zok_cl (c_refuse hA hc hR zSm.rf (by decide) (by decide)) (fun x m hx => zok_some hx)
theorem c_type (hA : wA c A) (hc : c ≤ 1000) (hR : rC A μ) (n : Int) : zok (f5_type n μ) (fun r => (¬ (1 ≤ n ∧ n ≤ 20) ∧ r = (.inl xIA, μ)) ∨ (1 ≤ n ∧ n ≤ 20 ∧ ¬ n ≤ (aB A).length ∧ r = (.inl xNS, μ)) ∨ (1 ≤ n ∧ n ≤ 20 ∧ n ≤ (aB A).length ∧ r.1 = .inr (actA A (spType A ((aB A).take n.toNat))).1 ∧ rC (setB (actA A (spType A ((aB A).take n.toNat))).2 []) r.2 ∧ zSm (fun c => 292 ≤ c) μ r.2)) := by
  unfold f5_type
  by_cases hn : 1 ≤ n ∧ n ≤ 20
  · rw [c_byt1 hn, zcx_r, hR.2.2.1.1]
    refine zok_if (fun h => ?_) (fun h => zok_some (Or.inr (Or.inl ⟨hn.1, hn.2, h, rfl⟩)))
    obtain ⟨j, rfl⟩ : ∃ j : Nat, n = j := ⟨n.toNat, by omega⟩
    refine zok_cl (c_tfb hA hc hR (n := j) (by omega) (by omega)) (fun x m2 hx => zok_lt (zok_some (Or.inr (Or.inr ⟨hn.1, hn.2, h, ?_, ?_, ?_⟩))))
    · have hx1 : x = (actA A (spType A ((aB A).take j))).1 := hx.1
      rw [hx1]; rfl
    · have hn8 : aN (actA A (spType A ((aB A).take j))).2 ≤ 8 := by
        cases spType A ((aB A).take j) with
        | inl r => exact hA.1.1
        | inr p => exact hA.1.1
      exact rC.b0 hn8 hx.2.1
    · exact hx.2.2.sI (by omega)
  · rw [c_byt0 hn, zcx_l]
    exact zok_some (Or.inl ⟨hn, rfl⟩)
theorem wSt_un {s : zSt} (h : wSt s) {l f : Nat} (hf : f < 10) : wSt (stUntype s l f) := by
  obtain ⟨a1, a2, a3, a4⟩ := h
  refine ⟨a1, a2, a3, fun l' hl' => ?_⟩
  obtain ⟨c1, c2, c3, c4, c5⟩ := a4 l' hl'
  have eY : tY (stUntype s l f) l' = if l' = l then zand (tY s l) (zxor (zshl 1 (f : Nat)) (-1)) else tY s l' := rfl
  have eX : ∀ g, tX (stUntype s l f) l' g = if l' = l ∧ g = f then [] else tX s l' g := fun g => rfl
  rw [eY]
  by_cases q : l' = l
  · subst q
    rw [if_pos rfl]
    refine ⟨trivial, trivial, zr_of _, fun i h1 h2 => by rw [mb_off hf, if_neg (by omega)]; exact c4 i h1 h2, fun g hg => ?_⟩
    rw [eX]
    by_cases q2 : g = f
    · rw [if_pos ⟨rfl, q2⟩]; exact ⟨Nat.zero_le _, fun _ => rfl⟩
    · rw [if_neg (fun h => q2 h.2), mb_off hf, if_neg q2]; exact c5 g hg
  · rw [if_neg q]
    refine ⟨trivial, trivial, c3, c4, fun g hg => ?_⟩
    rw [eX, if_neg (fun h => q h.1)]; exact c5 g hg
theorem er_h (hA : wA c A) (hq : qD A ≠ 0) : hTL (aL A) (stEr A) (qD A - 1) = vTL (hS (aL A) (aS A) (qD A - 1)) (onT (hT (aS A) (qD A - 1)) (qC A)) (updN (hN (aS A) (qD A - 1)) (qC A) ((vV (qS A) (qT A) (qX A) (qC A)).length - 1)) := by
  have g4 := (q_facts hA hq).2.2.2.1
  unfold stEr
  rw [tp_h (aL A) (stUntype (aS A) (qD A - 1) (qC A)) (qD A - 1) g4]
  have e1 : onT (hT (stUntype (aS A) (qD A - 1) (qC A)) (qD A - 1)) (qC A) = onT (hT (aS A) (qD A - 1)) (qC A) := by
    funext g
    have eY : hT (stUntype (aS A) (qD A - 1) (qC A)) (qD A - 1) g = mbit (zand (tY (aS A) (qD A - 1)) (zxor (zshl 1 (qC A : Nat)) (-1))) g := by show mbit (if qD A - 1 = qD A - 1 then _ else _) g = _; rw [if_pos rfl]
    show (if g = qC A then true else hT (stUntype (aS A) (qD A - 1) (qC A)) (qD A - 1) g) = (if g = qC A then true else hT (aS A) (qD A - 1) g)
    by_cases q : g = qC A
    · rw [if_pos q, if_pos q]
    · rw [if_neg q, if_neg q, eY, mb_off g4, if_neg q]; rfl
  have e2 : updN (hN (stUntype (aS A) (qD A - 1) (qC A)) (qD A - 1)) (qC A) (((vV (qS A) (qT A) (qX A) (qC A)).take ((vV (qS A) (qT A) (qX A) (qC A)).length - 1)).length) = updN (hN (aS A) (qD A - 1)) (qC A) ((vV (qS A) (qT A) (qX A) (qC A)).length - 1) := by
    funext g
    show (if g = qC A then _ else (if qD A - 1 = qD A - 1 ∧ g = qC A then [] else tX (aS A) (qD A - 1) g).length) = (if g = qC A then _ else (tX (aS A) (qD A - 1) g).length)
    by_cases q : g = qC A
    · rw [if_pos q, if_pos q, List.length_take]; omega
    · rw [if_neg q, if_neg q, if_neg (fun h => q h.2)]
  rw [e1, e2]; rfl
theorem c_erase (hA : wA c A) (hc : c ≤ 1000) (hR : rC A μ) : zok (f5_erase μ) (cAct A μ (spErase A)) := by
  unfold f5_erase
  rw [c_dep hR]
  by_cases hq : qD A = 0
  · have es : spErase A = .inl 1 := by unfold spErase; rw [if_pos hq]
    rw [es]
    exact zok_t (by omega) (zok_cl (c_refuse hA hc hR zSm.rf (by decide) (by decide)) (fun x m hx => zok_some hx))
  · obtain ⟨g1, g2, g3, g4, g5, g6, g7, g8, g9, g10⟩ := q_facts hA hq
    have hl : qD A - 1 < tD (aS A) := by show qD A - 1 < qD A; omega
    have hv4 := vV_400 g1 g2 g3 g4
    have hvl : vL (qS A) (qT A) (qN A) (qC A) = (vV (qS A) (qT A) (qX A) (qC A)).length := (vV_len (qS A) (qT A) (qX A) (qC A)).symm
    refine zok_f (by omega) (zok_gl ⟨by omega, by omega⟩ ?_)
    rw [show ((qD A : Nat) : Int) - 1 = ((qD A - 1 : Nat) : Int) by omega, zx_nat, show zI μ 195 (qD A - 1) = _ from (hR.2.1.2.2.2.1 _ hl).2.1, g7]
    refine zok_gd ⟨by omega, by rw [zln_c.2.2.2.2.2.2.1]; omega⟩ (zok_lt (zok_cm (c_look hA.B hR hl) (fun m1 h1 => ?_)))
    obtain ⟨hv, ⟨t, t1, t2, t3, t4, t5⟩, t9⟩ := h1
    have hR1 := hR.only hA.1.1 hv
    rw [zx_nat, show zL m1 205 (qC A) = _ from t4.2.1 (qC A) g4, show vL (hS (aL A) (aS A) (qD A - 1)) (hT (aS A) (qD A - 1)) (hN (aS A) (qD A - 1)) (qC A) = _ from hvl]
    refine zok_gd ⟨by omega, by rw [zl_200s.2.2.2.2.1]; omega⟩ (zok_gl ⟨by omega, by omega⟩ (zok_gl ⟨by omega, by omega⟩ (zok_if (fun h => zok_if (fun h40 => ?_) (fun h40 => ?_)) (fun h => ?_))))
    · rw [show ((vV (qS A) (qT A) (qX A) (qC A)).length : Int) - 1 = (((vV (qS A) (qT A) (qX A) (qC A)).length - 1 : Nat) : Int) by omega]
      refine zok_cl (c_tit hA.B hR1 hl g4 (n := (vV (qS A) (qT A) (qX A) (qC A)).length - 1) (by omega)) (fun x m2 hx => zok_lt ?_)
      have hx1 : x = ((hTL (aL A) (stEr A) (qD A - 1) : Nat) : Int) := by rw [er_h hA hq]; exact hx.1
      have hv2 : vOnly μ m2 := hv.tr hx.2.1
      rw [hx1]
      refine zok_if (fun h2 => ?_) (fun h2 => ?_)
      · have h3 := zcmp_le.mp h2
        have es : spErase A = .inr (((vV (qS A) (qT A) (qX A) (qC A)).length - 1 : Nat), stEr A) := by unfold spErase; rw [if_neg hq, if_neg (by omega), if_neg (by omega), if_neg (by omega)]
        rw [es]
        refine zok_cm (c_keep hA hc (hR.only hA.1.1 hv2)) (fun m3 h4 => ?_)
        refine zok_cm (c_look (A := aDone A (aS A)) hA.B h4.1 hl) (fun m4 h5 => ?_)
        obtain ⟨hv4', ⟨t', y1, y2, y3, y4, y5, y6, y7, y8⟩, -⟩ := h5
        refine zok_cm (v_values (tx := qX A) y1 y2 y3 g1 y4 g2 g3 (fun f hf _ => y7 f hf)) (fun m5 h6 => ?_)
        have h6' : ∀ f, f < 10 → vRow (vV (qS A) (qT A) (qX A)) m5 f := h6.2
        have hv5 : zSm (fun c => c < 200 ∨ 208 < c) m3 m5 := hv4'.tr (h6.1.mono (fun c hc => by omega))
        have hp5 : pSt m5 193 (aS A) := pSt_keep (fun k k1 k2 i => (hv5 k (by omega) i).1) h4.1.2.1
        refine zok_cm (s_untype okC_all.1 hp5 hA.2.1.1 hl g4) (fun m6 h7 => zok_gl ⟨by omega, by omega⟩ ?_)
        have ex0 : tX (stUntype (aS A) (qD A - 1) (qC A)) (qD A - 1) (qC A) = [] := by show (if qD A - 1 = qD A - 1 ∧ qC A = qC A then [] else _) = _; rw [if_pos ⟨rfl, rfl⟩]
        have hxl : ((vV (qS A) (qT A) (qX A) (qC A)).take ((vV (qS A) (qT A) (qX A) (qC A)).length - 1)).length = (vV (qS A) (qT A) (qX A) (qC A)).length - 1 := by rw [List.length_take]; omega
        have hty := s_type (s := stUntype (aS A) (qD A - 1) (qC A)) (st := 400 * qC A) (x := (vV (qS A) (qT A) (qX A) (qC A)).take ((vV (qS A) (qT A) (qX A) (qC A)).length - 1)) (r := 207) okC_all.1 h7.1 (wSt_un hA.2.1.1 g4) hl g4 (by decide) (by rw [ex0, hxl]; show 0 + _ ≤ 40; omega) (by rw [hxl, zl_200s.2.2.2.2.2.2.1]; omega) (fun i hi => by
          rw [hxl] at hi
          rw [(h7.2 207 (by omega) _).1, h6' _ g4 i (by omega), List.getD_eq_getElem?_getD, List.getD_eq_getElem?_getD, List.getElem?_take, if_pos hi])
        rw [hxl, ex0, List.nil_append, show ((400 * qC A : Nat) : Int) = (qC A : Int) * 400 by omega] at hty
        refine zok_cm hty (fun m7 h8 => zok_some ?_)
        exact cAct.done hA.1.1 hv2 h4.1 h4.2 (hv5.mono (fun c hc => by omega) |>.tr ((h7.2.mono (fun c hc => by omega)).tr (h8.2.mono (fun c hc => by omega)))) h8.1
      · have h3 : ¬ ((hTL (aL A) (stEr A) (qD A - 1) : Nat) : Int) ≤ 400 := fun q => h2 (zcmp_le.mpr q)
        have es : spErase A = .inl 3 := by unfold spErase; rw [if_neg hq, if_neg (by omega), if_neg (by omega), if_pos (by omega)]
        rw [es]
        exact zok_cl (c_refuse hA hc hR hv2 (by decide) (by decide)) (fun x m hx => zok_some hx)
    · have es : spErase A = .inl 4 := by unfold spErase; rw [if_neg hq, if_neg (by omega), if_pos (by omega)]
      rw [es]
      exact zok_cl (c_refuse hA hc hR hv (by decide) (by decide)) (fun x m hx => zok_some hx)
    · have es : spErase A = .inl 5 := by unfold spErase; rw [if_neg hq, if_pos (by omega)]
      rw [es]
      exact zok_cl (c_refuse hA hc hR hv (by decide) (by decide)) (fun x m hx => zok_some hx)
theorem c_reset (hA : wA c A) (hc : c ≤ 1000) (hR : rC A μ) : zok (f5_reset μ) (cAct A μ (spReset A)) := by
  unfold f5_reset
  rw [c_dep hR]
  by_cases hq : qD A = 0
  · have es : spReset A = .inl 1 := by unfold spReset; rw [if_pos hq]
    rw [es]
    exact zok_t (by omega) (zok_cl (c_refuse hA hc hR zSm.rf (by decide) (by decide)) (fun x m hx => zok_some hx))
  · obtain ⟨g1, g2, g3, g4, g5, g6, g7, g8, g9, g10⟩ := q_facts hA hq
    have hl : qD A - 1 < tD (aS A) := by show qD A - 1 < qD A; omega
    refine zok_f (by omega) (zok_gl ⟨by omega, by omega⟩ ?_)
    rw [show ((qD A : Nat) : Int) - 1 = ((qD A - 1 : Nat) : Int) by omega, zx_nat, show zI μ 195 (qD A - 1) = _ from (hR.2.1.2.2.2.1 _ hl).2.1, g7]
    refine zok_gd ⟨by omega, by rw [zln_c.2.2.2.2.2.2.1]; omega⟩ (zok_lt (zok_co (s_isTyped okC_all.1 hR.2.1 hA.2.1.1 hl g4) (fun b hb => ?_)))
    have hb' : b = qT A (qC A) := hb
    subst hb'
    cases hTT : qT A (qC A) with
    | false =>
      have es : spReset A = .inl 6 := by unfold spReset; rw [if_neg hq, if_pos hTT]
      rw [es]
      exact zok_t rfl (zok_cl (c_refuse hA hc hR zSm.rf (by decide) (by decide)) (fun x m hx => zok_some hx))
    | true =>
      refine zok_f (by decide) ?_
      obtain ⟨m1, e1, h1, t, t1, t2, t3, t4, t5, t6⟩ := c_take hA.B hR hl
      rw [e1, zcm_s]
      refine zok_cm (v_unsupp (qC A)) (fun m2 h2 => ?_)
      obtain ⟨a1, a2, a3⟩ := h2
      have eY : ∀ g, hT (stRs A) (qD A - 1) g = mbit (zand (tY (aS A) (qD A - 1)) (zxor (zshl 1 (qC A : Nat)) (-1))) g := fun g => by show mbit (if qD A - 1 = qD A - 1 then _ else _) g = _; rw [if_pos rfl]
      have eX : ∀ g, hN (stRs A) (qD A - 1) g = if g = qC A then 0 else qN A g := fun g => by
        show (if qD A - 1 = qD A - 1 ∧ g = qC A then [] else tX (aS A) (qD A - 1) g).length = if g = qC A then 0 else (tX (aS A) (qD A - 1) g).length
        by_cases q : g = qC A
        · rw [if_pos ⟨rfl, q⟩, if_pos q]; rfl
        · rw [if_neg (fun h => q h.2), if_neg q]
      have e201 : ∀ i, zI m2 201 i = zI m1 201 i := fun i => (a1 201 (by decide) i).1
      refine zok_cm (v_measure (ty := hT (stRs A) (qD A - 1)) (ln := hN (stRs A) (qD A - 1)) t1 (a2.trans t2) (pSc_v t1 a1 (fun c hc => by omega) t3) g1 (fun g hg => ?_) (fun g hg ht => ?_) (fun g hg => ?_)) (fun m3 h3 => zok_lt ?_)
      · rw [a3, t4, eY]
      · have hne : g ≠ qC A := fun q => by rw [eY, mb_off g4, if_pos q] at ht; cases ht
        rw [e201, t5 g hg, eX, if_neg hne]; rfl
      · rw [eX]
        have := g2 g hg
        have e9 : qN A g = (qX A g).length := rfl
        split <;> omega
      · have hv3 : vOnly μ m3 := h1.tr ((a1.mono (fun c hc => by omega)).tr (h3.2.1.mono (fun c hc => by unfold vC2; omega)))
        rw [show zL m3 200 8 = ((hTL (aL A) (stRs A) (qD A - 1) : Nat) : Int) from h3.1.2.2]
        refine zok_if (fun h2 => ?_) (fun h2 => ?_)
        · have h4 := zcmp_le.mp h2
          have es : spReset A = .inr ((vL (qS A) (hT (stRs A) (qD A - 1)) (hN (stRs A) (qD A - 1)) (qC A) : Nat), stRs A) := by unfold spReset; rw [if_neg hq, if_neg (by rw [hTT]; decide), if_neg (by omega)]
          rw [es]
          refine zok_cm (c_keep hA hc (hR.only hA.1.1 hv3)) (fun m4 h5 => zok_cm (s_untype okC_all.1 h5.1.2.1 hA.2.1.1 hl g4) (fun m5 h6 => ?_))
          have e205 : zL m5 205 (qC A) = ((vL (qS A) (hT (stRs A) (qD A - 1)) (hN (stRs A) (qD A - 1)) (qC A) : Nat) : Int) := ((h6.2 205 (by omega) _).2.1).trans (((h5.2 205 (by omega) _).2.1).trans (h3.1.2.1 _ g4))
          rw [zx_nat, e205]
          have hle := vL_400 (ty := hT (stRs A) (qD A - 1)) (ln := hN (stRs A) (qD A - 1)) g1 (fun g hg => by
            rw [eX]
            have := g2 g hg
            have e9 : qN A g = (qX A g).length := rfl
            split <;> omega) (show vTL (qS A) _ _ ≤ 400 by have : vTL (qS A) (hT (stRs A) (qD A - 1)) (hN (stRs A) (qD A - 1)) = hTL (aL A) (stRs A) (qD A - 1) := rfl; omega) g4
          refine zok_gd ⟨by omega, by rw [zl_200s.2.2.2.2.1]; omega⟩ (zok_gl ⟨by omega, by omega⟩ (zok_some ?_))
          exact cAct.done hA.1.1 hv3 h5.1 h5.2 (h6.2.mono (fun c hc => by omega)) h6.1
        · have h3 : ¬ ((hTL (aL A) (stRs A) (qD A - 1) : Nat) : Int) ≤ 400 := fun q => h2 (zcmp_le.mpr q)
          have es : spReset A = .inl 3 := by unfold spReset; rw [if_neg hq, if_neg (by rw [hTT]; decide), if_pos (by omega)]
          rw [es]
          exact zok_cl (c_refuse hA hc hR hv3 (by decide) (by decide)) (fun x m hx => zok_some hx)
/-! undo, save, restore -/
def aUndo (A : zA) : zA := (aN A, aL A, ((aU A)[0]?).getD (aS A), (aU A).drop 1, aV A, aB A, aE A, aC A)
def aSave (A : zA) (j : Nat) : zA := (aN A, aL A, aS A, aU A, fun i => if i = j then some (aS A) else aV A i, aB A, aE A, aC A)
def aRest (A : zA) (s : zSt) : zA := (aN A, aL A, s, [], aV A, aB A, aE A, aC A)
theorem c_undo (hA : wA c A) (hR : rC A μ) : zok (f5_undo μ) (fun r => ((aU A).length = 0 ∧ r = (.inl xIS, μ)) ∨ ((aU A).length ≠ 0 ∧ r.1 = .inr (((aU A).length - 1 : Nat) : Int) ∧ rC (aUndo A) r.2 ∧ zSm (fun c => 292 ≤ c) μ r.2)) := by
  have hu := hA.2.2.1
  have hR' := hR
  obtain ⟨⟨t, t1, t2, t3, t4, t5⟩, h2, h3, h4, h5, ⟨n, n1, n2, n3, n4⟩, h7⟩ := hR
  unfold f5_undo
  rw [n3]
  refine zok_if (fun h => zok_some (Or.inl ⟨by omega, rfl⟩)) (fun h => ?_)
  rw [n2]
  refine zok_gl ⟨by omega, by omega⟩ (zok_gl ⟨by omega, by omega⟩ (zok_lt (zok_lt ?_)))
  rw [zrem_nn (by omega) (by omega) (by decide) (by decide), show ((n : Int) + 8 - 1) % 8 = (((n + 7) % 8 : Nat) : Int) by omega, zI_ni (by decide), n3]
  refine zok_gl ⟨by omega, by omega⟩ (zok_lt ?_)
  rw [zI_ni (by decide), zI_eq rfl rfl, zx_nat]
  have h0 : (aU A)[0]? = some ((aU A)[0]'(by omega)) := List.getElem?_eq_getElem (by omega)
  have hp := n4 0 _ h0
  rw [Nat.sub_zero] at hp
  have hw := hu.2 _ (List.getElem_mem (show 0 < (aU A).length by omega))
  generalize hs0 : (aU A)[0]'(by omega) = s0 at *
  have hp2 : pSt (zsI (zsI μ 1 9 (((n + 7) % 8 : Nat) : Int)) 1 10 (((aU A).length : Nat) - 1 : Int)) (222 + 7 * ((n + 7) % 8)) s0 := pSt_keep (fun k k1 k2 i => by rw [zI_nk (by omega), zI_nk (by omega)]) hp
  refine zok_gd ⟨by omega, by rw [zln_c.2.2.1]; omega⟩ (zok_cm (s_copy okC_all.1 (okC_all.2.1 _ (by omega)) (by omega) hp2 hw.1) (fun m3 h3' => zok_some (Or.inr ⟨by omega, ?_, ?_, ?_⟩)))
  · show (Sum.inr (zI m3 1 10) : String ⊕ Int) = _
    rw [(h3'.2 1 (by omega) 10).1, zI_eq rfl rfl]
    congr 1; omega
  · have hst : aUndo A = (aN A, aL A, s0, (aU A).drop 1, aV A, aB A, aE A, aC A) := by unfold aUndo; rw [h0]; rfl
    have e : ∀ c, c ≠ 1 → (c < 193 ∨ 199 < c) → ∀ i, zI m3 c i = zI μ c i := fun c c1 c2 i => by rw [(h3'.2 c (by omega) i).1, zI_nk c1, zI_nk c1]
    have e1 : ∀ i, i ≠ 9 → i ≠ 10 → zI m3 1 i = zI μ 1 i := fun i i1 i2 => by rw [(h3'.2 1 (by omega) i).1, zI_ni i2, zI_ni i1]
    have eR : ∀ c, (c < 193 ∨ 199 < c) → ∀ i, zR m3 c i = zR μ c i := fun c c2 i => (h3'.2 c (by omega) i).2.2
    rw [hst]
    refine ⟨⟨t, t1, (eR 1 (by omega) 2).trans t2, (eR 99 (by omega) 3).trans t3, (e t (by omega) (by omega) 1).trans t4, fun k hk => ?_⟩, h3'.1, ⟨(e1 1 (by decide) (by decide)).trans h3.1, fun i hi => (e 2 (by decide) (by omega) i).trans (h3.2 i hi)⟩, ⟨(e1 4 (by decide) (by decide)).trans h4.1, (e1 5 (by decide) (by decide)).trans h4.2⟩, fun i hi => (e 3 (by decide) (by omega) i).trans (h5 i hi), ⟨(n + 7) % 8, by omega, ?_, ?_, fun j s hj => ?_⟩, fun j hj => ?_⟩
    · have hk' : k < aN A := hk
      have hz := (okT_k t1 (show k < 8 by have := hA.1.1; omega)).f
      exact pSc_keep (fun c c1 c2 i => e c (by omega) (by omega) i) (fun i => ⟨e _ (by omega) (by omega) i, e _ (by omega) (by omega) i⟩) (t5 k hk)
    · rw [(h3'.2 1 (by omega) 9).1, zI_ni (by decide), zI_eq rfl rfl]
    · rw [(h3'.2 1 (by omega) 10).1, zI_eq rfl rfl]
      show _ = (((aU A).drop 1).length : Int)
      rw [List.length_drop]; omega
    · have hj' : ((aU A).drop 1)[j]? = some s := hj
      rw [List.getElem?_drop] at hj'
      have hp := n4 (1 + j) s hj'
      have hjl : 1 + j < (aU A).length := by
        rcases Nat.lt_or_ge (1 + j) (aU A).length with h | h
        · exact h
        · rw [List.getElem?_eq_none h] at hj'; cases hj'
      rw [show ((n + 7) % 8 + 7 - j) % 8 = (n + 7 - (1 + j)) % 8 by omega]
      exact pSt_keep (fun k k1 k2 => e k (by omega) (by omega)) hp
    · rcases h7 j hj with ⟨q1, q2⟩ | ⟨q1, s, q2, q3⟩
      · exact Or.inl ⟨(e 6 (by decide) (by omega) j).trans q1, q2⟩
      · exact Or.inr ⟨(e 6 (by decide) (by omega) j).trans q1, s, q2, pSt_keep (fun k k1 k2 => e k (by omega) (by omega)) q3⟩
  · exact ((zSm.rf.sI (by omega)).sI (by omega)).tr (h3'.2.mono (fun c hc => by omega))
theorem c_slot1 {j : Int} (h : 0 ≤ j ∧ j < 2) : f5_requireSlot j μ = some (.inr (), μ) := by
  unfold f5_requireSlot
  rw [if_neg (by omega), if_pos (by omega)]
theorem c_slot0 {j : Int} (h : ¬ (0 ≤ j ∧ j < 2)) : f5_requireSlot j μ = some (.inl xIO, μ) := by
  unfold f5_requireSlot f5_requireSlot_9
  by_cases e : j < 0
  · rw [if_pos e]; rfl
  · rw [if_neg e, if_neg (by omega)]; rfl
theorem c_save (hA : wA c A) (hR : rC A μ) (j : Int) : zok (f5_save j μ) (fun r => (¬ (0 ≤ j ∧ j < 2) ∧ r = (.inl xIO, μ)) ∨ (0 ≤ j ∧ j < 2 ∧ r.1 = .inr ((qD A : Nat) : Int) ∧ rC (aSave A j.toNat) r.2 ∧ zSm (fun c => 292 ≤ c) μ r.2)) := by
  unfold f5_save
  by_cases hj : 0 ≤ j ∧ j < 2
  · obtain ⟨i, rfl⟩ : ∃ i : Nat, j = i := ⟨j.toNat, by omega⟩
    have hi : i < 2 := by omega
    rw [c_slot1 hj, zcx_r, zx_nat]
    refine zok_gd ⟨by omega, by rw [zln_c.2.2.2.1]; omega⟩ (zok_cm (s_copy (okC_all.2.2 i hi) okC_all.1 (by omega) hR.2.1 hA.2.1.1) (fun m2 h2 => zok_gd ⟨⟨by omega, by rw [zln_c.2.2.2.2.1]; omega⟩, Or.inr rfl⟩ (zok_lt (zok_some (Or.inr ⟨hj.1, hj.2, ?_, ?_, ?_⟩)))))
    · show (Sum.inr (zI (zsI m2 6 i 1) 193 1) : String ⊕ Int) = _
      rw [zI_nk (by decide), (h2.2 193 (by omega) 1).1, c_dep hR]
    · obtain ⟨⟨t, t1, t2, t3, t4, t5⟩, h2', h3, h4, h5, ⟨n, n1, n2, n3, n4⟩, h7⟩ := hR
      have e : ∀ c, c ≠ 6 → (c < 278 + 7 * i ∨ 278 + 7 * i + 6 < c) → ∀ x, zI (zsI m2 6 i 1) c x = zI μ c x := fun c c1 c2 x => by rw [zI_nk c1, (h2.2 c c2 x).1]
      have eR : ∀ c, (c < 278 + 7 * i ∨ 278 + 7 * i + 6 < c) → ∀ x, zR (zsI m2 6 i 1) c x = zR μ c x := fun c c2 x => (h2.2 c c2 x).2.2
      refine ⟨⟨t, t1, (eR 1 (by omega) 2).trans t2, (eR 99 (by omega) 3).trans t3, (e t (by omega) (by omega) 1).trans t4, fun k hk => ?_⟩, pSt_keep (fun k k1 k2 => e k (by omega) (by omega)) h2', ⟨(e 1 (by decide) (by omega) 1).trans h3.1, fun x hx => (e 2 (by decide) (by omega) x).trans (h3.2 x hx)⟩, ⟨(e 1 (by decide) (by omega) 4).trans h4.1, (e 1 (by decide) (by omega) 5).trans h4.2⟩, fun x hx => (e 3 (by decide) (by omega) x).trans (h5 x hx), ⟨n, n1, (e 1 (by decide) (by omega) 9).trans n2, (e 1 (by decide) (by omega) 10).trans n3, fun y s hy => pSt_keep (fun k k1 k2 => e k (by omega) (by omega)) (n4 y s hy)⟩, fun y hy => ?_⟩
      · have hk' : k < aN A := hk
        have hz := (okT_k t1 (show k < 8 by have := hA.1.1; omega)).f
        exact pSc_keep (fun c c1 c2 x => e c (by omega) (by omega) x) (fun x => ⟨e _ (by omega) (by omega) x, e _ (by omega) (by omega) x⟩) (t5 k hk)
      · have eV : aV (aSave A ((i : Int)).toNat) y = if y = i then some (aS A) else aV A y := rfl
        by_cases q : y = i
        · refine Or.inr ⟨by rw [zI_eq rfl q], aS A, by rw [eV, if_pos q], ?_⟩
          rw [q]
          exact pSt_keep (fun k k1 k2 x => zI_nk (by omega)) h2.1
        · rw [eV, if_neg q]
          rcases h7 y hy with ⟨q1, q2⟩ | ⟨q1, s, q2, q3⟩
          · exact Or.inl ⟨by rw [zI_ni q, (h2.2 6 (by omega) y).1]; exact q1, q2⟩
          · exact Or.inr ⟨by rw [zI_ni q, (h2.2 6 (by omega) y).1]; exact q1, s, q2, pSt_keep (fun k k1 k2 => e k (by omega) (by omega)) q3⟩
    · exact (h2.2.mono (fun c hc => by omega)).sI (by omega)
  · rw [c_slot0 hj, zcx_l]
    exact zok_some (Or.inl ⟨hj, rfl⟩)
theorem c_restore (hA : wA c A) (hR : rC A μ) (j : Int) : zok (f5_restore j μ) (fun r => (¬ (0 ≤ j ∧ j < 2) ∧ r = (.inl xIO, μ)) ∨ (0 ≤ j ∧ j < 2 ∧ aV A j.toNat = none ∧ r = (.inl xIS, μ)) ∨ (0 ≤ j ∧ j < 2 ∧ ∃ s, aV A j.toNat = some s ∧ r.1 = .inr ((tD s : Nat) : Int) ∧ rC (aRest A s) r.2 ∧ zSm (fun c => 292 ≤ c) μ r.2)) := by
  unfold f5_restore
  by_cases hj : 0 ≤ j ∧ j < 2
  · obtain ⟨i, rfl⟩ : ∃ i : Nat, j = i := ⟨j.toNat, by omega⟩
    have hi : i < 2 := by omega
    rw [c_slot1 hj, zcx_r, zx_nat]
    refine zok_gd ⟨by omega, by rw [zln_c.2.2.2.2.1]; omega⟩ ?_
    rcases hR.2.2.2.2.2.2 i hi with ⟨q1, q2⟩ | ⟨q1, s, q2, q3⟩
    · exact zok_t q1 (zok_some (Or.inr (Or.inl ⟨hj.1, hj.2, q2, rfl⟩)))
    · refine zok_f (by omega) (zok_gd ⟨by omega, by rw [zln_c.2.2.2.1]; omega⟩ (zok_cm (s_copy okC_all.1 (okC_all.2.2 i hi) (by omega) q3 (hA.2.2.2.1 i s q2).1) (fun m2 h2 => zok_lt (zok_some (Or.inr (Or.inr ⟨hj.1, hj.2, s, q2, ?_, ?_, ?_⟩))))))
      · show (Sum.inr (zI (zsI m2 1 10 0) 193 1) : String ⊕ Int) = _
        rw [zI_nk (by decide), h2.1.2.1]
      · obtain ⟨⟨t, t1, t2, t3, t4, t5⟩, h2', h3, h4, h5, ⟨n, n1, n2, n3, n4⟩, h7⟩ := hR
        have e : ∀ c, c ≠ 1 → (c < 193 ∨ 199 < c) → ∀ x, zI (zsI m2 1 10 0) c x = zI μ c x := fun c c1 c2 x => by rw [zI_nk c1, (h2.2 c (by omega) x).1]
        have e1 : ∀ x, x ≠ 10 → zI (zsI m2 1 10 0) 1 x = zI μ 1 x := fun x hx => by rw [zI_ni hx, (h2.2 1 (by omega) x).1]
        have eR : ∀ c, (c < 193 ∨ 199 < c) → ∀ x, zR (zsI m2 1 10 0) c x = zR μ c x := fun c c2 x => (h2.2 c (by omega) x).2.2
        refine ⟨⟨t, t1, (eR 1 (by omega) 2).trans t2, (eR 99 (by omega) 3).trans t3, (e t (by omega) (by omega) 1).trans t4, fun k hk => ?_⟩, pSt_keep (fun k k1 k2 x => zI_nk (by omega)) h2.1, ⟨(e1 1 (by decide)).trans h3.1, fun x hx => (e 2 (by decide) (by omega) x).trans (h3.2 x hx)⟩, ⟨(e1 4 (by decide)).trans h4.1, (e1 5 (by decide)).trans h4.2⟩, fun x hx => (e 3 (by decide) (by omega) x).trans (h5 x hx), ⟨n, n1, (e1 9 (by decide)).trans n2, zI_eq rfl rfl, fun y s hy => ?_⟩, fun y hy => ?_⟩
        · have hk' : k < aN A := hk
          have hz := (okT_k t1 (show k < 8 by have := hA.1.1; omega)).f
          exact pSc_keep (fun c c1 c2 x => e c (by omega) (by omega) x) (fun x => ⟨e _ (by omega) (by omega) x, e _ (by omega) (by omega) x⟩) (t5 k hk)
        · have hy' : ([] : List zSt)[y]? = some s := hy
          simp at hy'
        · rcases h7 y hy with ⟨q1, q2⟩ | ⟨q1, s, q2, q3⟩
          · exact Or.inl ⟨(e 6 (by decide) (by omega) y).trans q1, q2⟩
          · exact Or.inr ⟨(e 6 (by decide) (by omega) y).trans q1, s, q2, pSt_keep (fun k k1 k2 => e k (by omega) (by omega)) q3⟩
      · exact (h2.2.mono (fun c hc => by omega)).sI (by omega)
  · rw [c_slot0 hj, zcx_l]
    exact zok_some (Or.inl ⟨hj, rfl⟩)
end cActs3
