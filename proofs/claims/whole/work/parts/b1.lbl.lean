/-! THE LAW: its blocks -/
def opD {β : Type} (c : Int) (e1 : Option (Int × zM)) (e2 : zM → Option (β × zM)) (cv : β → UInt64) (G : β → Prop) : Prop := zok e1 (fun r => zok (e2 r.2) (fun q => zI q.2 292 0 = r.1 ∧ (r.1 = 0 → G q.1 ∧ zD q.2 340 0 = cv q.1) ∧ ∃ A', LI (c + 1) A' q.2))
section lbl
variable {A : zA} {c : Int} {μ : zM}
theorem op_d {β : Type} {sp : Nat ⊕ β} {put : β → zM → Option (Int × zM)} {cv : β → UInt64} {G : β → Prop} {e : Option ((String ⊕ β) × zM)} {e2 : zM → Option (β × zM)} (h : LI c A μ) (hk : ∀ k, sp = .inl k → k = 1) (hp : ∀ v m, sp = .inr v → put v m = some (0, zsD m 340 0 (cv v)) ∧ G v) (h1 : zok e (cOk A μ (cRes [xIS] sp))) (h2 : ∀ m, rM A m → zok (e2 m) (mOk A m sp)) (hz : ∀ (m : zM) (d : Nat → Nat → UInt64), m.2.2.2 = d → zdk Prod.snd d (e2 m)) : opD c (zwr put [xIS] e) e2 cv G := by
  obtain ⟨⟨a, m⟩, he, g1, g2, g3⟩ := h1
  have g3' : a = cRes [xIS] sp := g3
  subst g3'
  cases hs : sp with
  | inl k =>
    have := hk k hs
    subst this
    rw [hs] at he h2
    refine zok_mono (w_l (A := A) (μ := μ) (put := put) (names := [xIS]) (E := xIS) (k := 1) (v := 0) he zwn_hit (by decide) g1 g2) (fun r hr => zok_mono (h2 r.2 (h.2.2.2.c1 hr.2.2.2)) (fun q hq => ⟨?_, fun h0 => ?_, A, h.1.up, h.2.1, hr.2.2.1.m1 h.1.1.1 hq.2.1, hq.1⟩))
    · exact (show zI q.2 292 0 = ((1 : Nat) : Int) from hq.2.2).trans hr.1.symm
    · have := hr.1; rw [h0] at this; exact absurd this (by decide)
  | inr v =>
    obtain ⟨p1, p2⟩ := hp v m hs
    rw [hs] at he h2
    have he' : e = some (.inr v, m) := he
    have z0 : ∀ P : Nat → Prop, zSm P m (zsD m 340 0 (cv v)) := fun P k _ i => ⟨rfl, rfl, rfl⟩
    have hC : rC A (zsD m 340 0 (cv v)) := g1.keep h.1.1.1 (z0 _)
    have hM : rM A (zsD m 340 0 (cv v)) := h.2.2.2.c1 ((g2.mono (fun c hc => hc.1)).tr (z0 _))
    rw [he']
    show zok (put v m) _
    rw [p1]
    refine zok_some ?_
    obtain ⟨q, hq0, hq⟩ := h2 _ hM
    have hd := hz (zsD m 340 0 (cv v)) _ rfl q hq0
    refine ⟨q, hq0, hq.2.2.1, fun _ => ?_, A, h.1.up, h.2.1, hC.m1 h.1.1.1 hq.2.1, hq.1⟩
    have e1 : q.1 = v := hq.2.2.2
    rw [e1]
    refine ⟨p2, ?_⟩
    show q.2.2.2.2 340 0 = cv v
    rw [hd]
    show (if (340 : Nat) = 340 ∧ (0 : Nat) = 0 then cv v else m.2.2.2 340 0) = cv v
    rw [if_pos ⟨rfl, rfl⟩]
theorem o_untouched (h : LI c A μ) : opD c (fL_untouched μ) f7_untouched FP.f2d (fun v => vf_n64 (FP.f2d v)) := by
  refine op_d (sp := spUntouched A) h (fun k hk => ?_) (fun v m hv => ?_) (c_untouched h.1 h.2.2.1) (fun m hm => n_untouched h.1 hm) (fun m d hd => zd_untouched m hd)
  · unfold spUntouched at hk
    by_cases hq : qD A = 0
    · rw [if_pos hq] at hk; cases hk; rfl
    · rw [if_neg hq] at hk; cases hk
  · unfold spUntouched at hv
    by_cases hq : qD A = 0
    · rw [if_pos hq] at hv; cases hv
    · rw [if_neg hq] at hv
      obtain ⟨p1, p2, p3⟩ := nLv_pos h.1 hq
      have hn := nan_fd _ p3 _ p2 p1
      cases hv
      exact ⟨zgd_true hn, hn⟩
theorem o_mean (h : LI c A μ) : opD c (fL_meanLength μ) f7_meanLength id (fun v => vf_n64 v) := by
  refine op_d (sp := spMean A) h (fun k hk => ?_) (fun v m hv => ?_) (c_meanLength h.1 h.2.2.1) (fun m hm => n_mean h.1 hm) (fun m d hd => zd_mean m hd)
  · unfold spMean at hk
    by_cases hq : qD A = 0
    · rw [if_pos hq] at hk; cases hk; rfl
    · rw [if_neg hq] at hk; cases hk
  · unfold spMean at hv
    by_cases hq : qD A = 0
    · rw [if_pos hq] at hv; cases hv
    · rw [if_neg hq] at hv
      obtain ⟨g1, g2, g3, -⟩ := q_facts h.1 hq
      obtain ⟨p1, p2, p3⟩ := nLv_pos h.1 hq
      have hs : vSum (qS A) (qT A) (qN A) ≤ 4000 := vSum_le g1 (fun f hf => Nat.le_trans (g2 f hf) (by decide)) g3
      cases hv
      exact ⟨rfl, nan_d p2 p1 (by show vSum (qS A) (qT A) (qN A) < 4001; omega)⟩
theorem dcmp_self {x : UInt64} (h : vf_n64 x) : Op.cmpValue (FP.dcmp x x) .l = 0 := by
  have h1 : FP.Core.dIsNaN x = false := by
    unfold vf_n64 at h
    rw [UInt64.le_iff_toNat_le, UInt64.toNat_and, show (0x7fffffffffffffff : UInt64).toNat = 2 ^ 63 - 1 from by decide, show (0x7ff0000000000000 : UInt64).toNat = 9218868437227405312 from by decide, Nat.and_two_pow_sub_one_eq_mod] at h
    rw [← Bool.not_eq_true, FP.Core.isNaN_bits]; omega
  have h2 : FP.Core.val64 x ≠ .nan := fun e => by
    rw [← Bool.not_eq_true, FP.Core.dIsNaN_iff] at h1
    exact h1 e
  rw [show FP.dcmp x x = some .eq from FP.Core.dcmp_self h2]; rfl
theorem thr_s (m : zM) : f7_thrown m = some (zI m 292 0) := rfl
theorem cmp_ok {K : zM → Option (Bool × zM)} {Q : Bool × zM → Prop} {r r2 : Int} {m2 : zM} (h1 : zI m2 292 0 = r) (h2 : r = 0 → zL m2 339 0 = r2) (hk : zok (K m2) Q) : zok (zco (f7_thrown m2) (fun r3 => (if r3 = r then (if r = 0 then zgd (zin 0 (zln 339)) (zlt (zcmp (zL m2 339 (zx 0)) r2) (fun v => (if v = 0 then (K m2) else (some (false, m2))))) else (K m2)) else (some (false, m2))))) Q := by
  rw [thr_s, zco_s]
  refine zok_t h1 (zok_if (fun h0 => zok_gd (by decide +kernel) (zok_lt (zok_t ?_ hk))) (fun _ => hk))
  rw [show zx 0 = 0 from rfl, h2 h0]
  unfold zcmp
  rw [if_neg (Int.lt_irrefl _), if_pos rfl]
theorem cmp_f {K : zM → Option (Bool × zM)} {Q : Bool × zM → Prop} {r : Int} {r2 : UInt32} {m2 : zM} (h1 : zI m2 292 0 = r) (h2 : r = 0 → vf_n64 (FP.f2d r2) ∧ zD m2 340 0 = FP.f2d r2) (hk : zok (K m2) Q) : zok (zco (f7_thrown m2) (fun r3 => (if r3 = r then (if r = 0 then zgd (zin 0 (zln 340)) (zgd (vf_n64 (FP.f2d r2)) (zgd (Op.cmpValue (FP.dcmp (zD m2 340 (zx 0)) (FP.f2d r2)) .l = 0) ((K m2)))) else (K m2)) else (some (false, m2))))) Q := by
  rw [thr_s, zco_s]
  refine zok_t h1 (zok_if (fun h0 => zok_gd (by decide +kernel) (zok_gd (h2 h0).1 (zok_gd ?_ hk))) (fun _ => hk))
  rw [show zx 0 = 0 from rfl, (h2 h0).2]
  exact dcmp_self (h2 h0).1
theorem cmp_d {K : zM → Option (Bool × zM)} {Q : Bool × zM → Prop} {r : Int} {r2 : UInt64} {m2 : zM} (h1 : zI m2 292 0 = r) (h2 : r = 0 → vf_n64 r2 ∧ zD m2 340 0 = r2) (hk : zok (K m2) Q) : zok (zco (f7_thrown m2) (fun r3 => (if r3 = r then (if r = 0 then zgd (zin 0 (zln 340)) (zgd (Op.cmpValue (FP.dcmp (zD m2 340 (zx 0)) r2) .l = 0) ((K m2))) else (K m2)) else (some (false, m2))))) Q := by
  rw [thr_s, zco_s]
  refine zok_t h1 (zok_if (fun h0 => zok_gd (by decide +kernel) (zok_gd ?_ hk)) (fun _ => hk))
  rw [show zx 0 = 0 from rfl, (h2 h0).2]
  exact dcmp_self (h2 h0).1
theorem B_1272 {L : Nat} {xs : Nat → Int32} {k28 : Int → zM → Option (Bool × zM)} {x5 : Int} {Q : Bool × zM → Prop} (h : LI c A μ) (hc : c ≤ 1000) (h0 : 0 ≤ x5) (hL : x5 + 6 ≤ L) (hL3 : L ≤ 3072) (hk : ∀ A' μ', LI (c + 1) A' μ' → zok (fL_law_2058 L xs k28 x5 μ') Q) : zok (fL_law_1272 L xs k28 x5 μ) Q := by
  unfold fL_law_1272
  refine zok_cl (o_longest h) (fun r m hr => ?_)
  refine zok_cl hr (fun r2 m2 h2 => ?_)
  obtain ⟨A', hA'⟩ := h2.2.2
  exact cmp_ok (K := fun m => fL_law_2058 L xs k28 x5 m) h2.1 h2.2.1 (hk A' m2 hA')
theorem B_1671 {L : Nat} {xs : Nat → Int32} {k28 : Int → zM → Option (Bool × zM)} {x5 : Int} {Q : Bool × zM → Prop} (h : LI c A μ) (hc : c ≤ 1000) (h0 : 0 ≤ x5) (hL : x5 + 6 ≤ L) (hL3 : L ≤ 3072) (hk : ∀ A' μ', LI (c + 1) A' μ' → zok (fL_law_2058 L xs k28 x5 μ') Q) : zok (fL_law_1671 L xs k28 x5 μ) Q := by
  unfold fL_law_1671
  refine zok_gl ⟨by omega, by omega⟩ (zok_gd ⟨by omega, by omega⟩ ?_)
  refine zok_cl (o_type h hc _) (fun r m hr => ?_)
  refine zok_gl ⟨by omega, by omega⟩ (zok_gd ⟨by omega, by omega⟩ ?_)
  refine zok_cl hr (fun r2 m2 h2 => ?_)
  obtain ⟨A', hA'⟩ := h2.2.2
  exact cmp_ok (K := fun m => fL_law_2058 L xs k28 x5 m) h2.1 h2.2.1 (hk A' m2 hA')
theorem B_1559 {L : Nat} {xs : Nat → Int32} {k28 : Int → zM → Option (Bool × zM)} {x5 : Int} {Q : Bool × zM → Prop} (h : LI c A μ) (hc : c ≤ 1000) (h0 : 0 ≤ x5) (hL : x5 + 6 ≤ L) (hL3 : L ≤ 3072) (hk : ∀ A' μ', LI (c + 1) A' μ' → zok (fL_law_2058 L xs k28 x5 μ') Q) : zok (fL_law_1559 L xs k28 x5 μ) Q := by
  unfold fL_law_1559
  refine zok_gl ⟨by omega, by omega⟩ (zok_gd ⟨by omega, by omega⟩ ?_)
  refine zok_cl (o_lengthOf h _) (fun r m hr => ?_)
  refine zok_gl ⟨by omega, by omega⟩ (zok_gd ⟨by omega, by omega⟩ ?_)
  refine zok_cl hr (fun r2 m2 h2 => ?_)
  obtain ⟨A', hA'⟩ := h2.2.2
  exact cmp_ok (K := fun m => fL_law_2058 L xs k28 x5 m) h2.1 h2.2.1 (hk A' m2 hA')
theorem B_1946 {L : Nat} {xs : Nat → Int32} {k28 : Int → zM → Option (Bool × zM)} {x5 : Int} {Q : Bool × zM → Prop} (h : LI c A μ) (hc : c ≤ 1000) (h0 : 0 ≤ x5) (hL : x5 + 6 ≤ L) (hL3 : L ≤ 3072) (hk : ∀ A' μ', LI (c + 1) A' μ' → zok (fL_law_2058 L xs k28 x5 μ') Q) : zok (fL_law_1946 L xs k28 x5 μ) Q := by
  unfold fL_law_1946
  refine zok_gl ⟨by omega, by omega⟩ (zok_gd ⟨by omega, by omega⟩ ?_)
  refine zok_cl (o_save h _) (fun r m hr => ?_)
  refine zok_gl ⟨by omega, by omega⟩ (zok_gd ⟨by omega, by omega⟩ ?_)
  refine zok_cl hr (fun r2 m2 h2 => ?_)
  obtain ⟨A', hA'⟩ := h2.2.2
  exact cmp_ok (K := fun m => fL_law_2058 L xs k28 x5 m) h2.1 h2.2.1 (hk A' m2 hA')
theorem B_1184 {L : Nat} {xs : Nat → Int32} {k28 : Int → zM → Option (Bool × zM)} {x5 : Int} {Q : Bool × zM → Prop} (h : LI c A μ) (hc : c ≤ 1000) (h0 : 0 ≤ x5) (hL : x5 + 6 ≤ L) (hL3 : L ≤ 3072) (hk : ∀ A' μ', LI (c + 1) A' μ' → zok (fL_law_2058 L xs k28 x5 μ') Q) : zok (fL_law_1184 L xs k28 x5 μ) Q := by
  unfold fL_law_1184
  refine zok_cl (o_yielded h) (fun r m hr => ?_)
  refine zok_cl hr (fun r2 m2 h2 => ?_)
  obtain ⟨A', hA'⟩ := h2.2.2
  exact cmp_ok (K := fun m => fL_law_2058 L xs k28 x5 m) h2.1 h2.2.1 (hk A' m2 hA')
theorem B_1316 {L : Nat} {xs : Nat → Int32} {k28 : Int → zM → Option (Bool × zM)} {x5 : Int} {Q : Bool × zM → Prop} (h : LI c A μ) (hc : c ≤ 1000) (h0 : 0 ≤ x5) (hL : x5 + 6 ≤ L) (hL3 : L ≤ 3072) (hk : ∀ A' μ', LI (c + 1) A' μ' → zok (fL_law_2058 L xs k28 x5 μ') Q) : zok (fL_law_1316 L xs k28 x5 μ) Q := by
  unfold fL_law_1316
  refine zok_cl (o_untouched h) (fun r m hr => ?_)
  refine zok_cl hr (fun r2 m2 h2 => ?_)
  obtain ⟨A', hA'⟩ := h2.2.2
  exact cmp_f (K := fun m => fL_law_2058 L xs k28 x5 m) h2.1 h2.2.1 (hk A' m2 hA')
theorem B_1447 {L : Nat} {xs : Nat → Int32} {k28 : Int → zM → Option (Bool × zM)} {x5 : Int} {Q : Bool × zM → Prop} (h : LI c A μ) (hc : c ≤ 1000) (h0 : 0 ≤ x5) (hL : x5 + 6 ≤ L) (hL3 : L ≤ 3072) (hk : ∀ A' μ', LI (c + 1) A' μ' → zok (fL_law_2058 L xs k28 x5 μ') Q) : zok (fL_law_1447 L xs k28 x5 μ) Q := by
  unfold fL_law_1447
  refine zok_gl ⟨by omega, by omega⟩ (zok_gd ⟨by omega, by omega⟩ ?_)
  refine zok_cl (o_lengthIf h _) (fun r m hr => ?_)
  refine zok_gl ⟨by omega, by omega⟩ (zok_gd ⟨by omega, by omega⟩ ?_)
  refine zok_cl hr (fun r2 m2 h2 => ?_)
  obtain ⟨A', hA'⟩ := h2.2.2
  exact cmp_ok (K := fun m => fL_law_2058 L xs k28 x5 m) h2.1 h2.2.1 (hk A' m2 hA')
theorem B_1835 {L : Nat} {xs : Nat → Int32} {k28 : Int → zM → Option (Bool × zM)} {x5 : Int} {Q : Bool × zM → Prop} (h : LI c A μ) (hc : c ≤ 1000) (h0 : 0 ≤ x5) (hL : x5 + 6 ≤ L) (hL3 : L ≤ 3072) (hk : ∀ A' μ', LI (c + 1) A' μ' → zok (fL_law_2058 L xs k28 x5 μ') Q) : zok (fL_law_1835 L xs k28 x5 μ) Q := by
  unfold fL_law_1835
  refine zok_cl (o_finish h hc) (fun r m hr => zok_cl hr (fun r2 m2 h2 => ?_))
  obtain ⟨A', hA'⟩ := h2.2
  exact zok_t h2.1 (hk A' m2 hA')
theorem B_428 {L : Nat} {xs : Nat → Int32} {k28 : Int → zM → Option (Bool × zM)} {x5 : Int} {Q : Bool × zM → Prop} (h : LI c A μ) (hc : c ≤ 1000) (h0 : 0 ≤ x5) (hL : x5 + 6 ≤ L) (hL3 : L ≤ 3072) (hk : ∀ A' μ', LI (c + 1) A' μ' → zok (fL_law_2058 L xs k28 x5 μ') Q) : zok (fL_law_428 L xs k28 x5 μ) Q := by
  unfold fL_law_428
  refine zok_gl ⟨by omega, by omega⟩ (zok_gd ⟨by omega, by omega⟩ ?_)
  refine zok_gl ⟨by omega, by omega⟩ (zok_gd ⟨by omega, by omega⟩ ?_)
  refine zok_cl (o_snippet h _ _) (fun r m hr => ?_)
  refine zok_gl ⟨by omega, by omega⟩ (zok_gd ⟨by omega, by omega⟩ ?_)
  refine zok_gl ⟨by omega, by omega⟩ (zok_gd ⟨by omega, by omega⟩ ?_)
  refine zok_cl hr (fun r2 m2 h2 => ?_)
  obtain ⟨A', hA'⟩ := h2.2.2
  exact cmp_ok (K := fun m => fL_law_2058 L xs k28 x5 m) h2.1 h2.2.1 (hk A' m2 hA')
theorem B_812 {L : Nat} {xs : Nat → Int32} {k28 : Int → zM → Option (Bool × zM)} {x5 : Int} {Q : Bool × zM → Prop} (h : LI c A μ) (hc : c ≤ 1000) (h0 : 0 ≤ x5) (hL : x5 + 6 ≤ L) (hL3 : L ≤ 3072) (hk : ∀ A' μ', LI (c + 1) A' μ' → zok (fL_law_2058 L xs k28 x5 μ') Q) : zok (fL_law_812 L xs k28 x5 μ) Q := by
  unfold fL_law_812
  refine zok_gl ⟨by omega, by omega⟩ (zok_gd ⟨by omega, by omega⟩ ?_)
  refine zok_gl ⟨by omega, by omega⟩ (zok_gd ⟨by omega, by omega⟩ ?_)
  refine zok_cl (o_field h _ _) (fun r m hr => ?_)
  refine zok_gl ⟨by omega, by omega⟩ (zok_gd ⟨by omega, by omega⟩ ?_)
  refine zok_gl ⟨by omega, by omega⟩ (zok_gd ⟨by omega, by omega⟩ ?_)
  refine zok_cl hr (fun r2 m2 h2 => ?_)
  obtain ⟨A', hA'⟩ := h2.2.2
  exact cmp_ok (K := fun m => fL_law_2058 L xs k28 x5 m) h2.1 h2.2.1 (hk A' m2 hA')
theorem B_688 {L : Nat} {xs : Nat → Int32} {k28 : Int → zM → Option (Bool × zM)} {x5 : Int} {Q : Bool × zM → Prop} (h : LI c A μ) (hc : c ≤ 1000) (h0 : 0 ≤ x5) (hL : x5 + 6 ≤ L) (hL3 : L ≤ 3072) (hk : ∀ A' μ', LI (c + 1) A' μ' → zok (fL_law_2058 L xs k28 x5 μ') Q) : zok (fL_law_688 L xs k28 x5 μ) Q := by
  unfold fL_law_688
  refine zok_gl ⟨by omega, by omega⟩ (zok_gd ⟨by omega, by omega⟩ ?_)
  refine zok_gl ⟨by omega, by omega⟩ (zok_gd ⟨by omega, by omega⟩ ?_)
  refine zok_cl (o_session h _ _) (fun r m hr => ?_)
  refine zok_gl ⟨by omega, by omega⟩ (zok_gd ⟨by omega, by omega⟩ ?_)
  refine zok_gl ⟨by omega, by omega⟩ (zok_gd ⟨by omega, by omega⟩ ?_)
  refine zok_cl hr (fun r2 m2 h2 => ?_)
  obtain ⟨A', hA'⟩ := h2.2.2
  exact cmp_ok (K := fun m => fL_law_2058 L xs k28 x5 m) h2.1 h2.2.1 (hk A' m2 hA')
theorem B_1072 {L : Nat} {xs : Nat → Int32} {k28 : Int → zM → Option (Bool × zM)} {x5 : Int} {Q : Bool × zM → Prop} (h : LI c A μ) (hc : c ≤ 1000) (h0 : 0 ≤ x5) (hL : x5 + 6 ≤ L) (hL3 : L ≤ 3072) (hk : ∀ A' μ', LI (c + 1) A' μ' → zok (fL_law_2058 L xs k28 x5 μ') Q) : zok (fL_law_1072 L xs k28 x5 μ) Q := by
  unfold fL_law_1072
  refine zok_gl ⟨by omega, by omega⟩ (zok_gd ⟨by omega, by omega⟩ ?_)
  refine zok_cl (o_orderAt h _) (fun r m hr => ?_)
  refine zok_gl ⟨by omega, by omega⟩ (zok_gd ⟨by omega, by omega⟩ ?_)
  refine zok_cl hr (fun r2 m2 h2 => ?_)
  obtain ⟨A', hA'⟩ := h2.2.2
  exact cmp_ok (K := fun m => fL_law_2058 L xs k28 x5 m) h2.1 h2.2.1 (hk A' m2 hA')
theorem B_564 {L : Nat} {xs : Nat → Int32} {k28 : Int → zM → Option (Bool × zM)} {x5 : Int} {Q : Bool × zM → Prop} (h : LI c A μ) (hc : c ≤ 1000) (h0 : 0 ≤ x5) (hL : x5 + 6 ≤ L) (hL3 : L ≤ 3072) (hk : ∀ A' μ', LI (c + 1) A' μ' → zok (fL_law_2058 L xs k28 x5 μ') Q) : zok (fL_law_564 L xs k28 x5 μ) Q := by
  unfold fL_law_564
  refine zok_gl ⟨by omega, by omega⟩ (zok_gd ⟨by omega, by omega⟩ ?_)
  refine zok_gl ⟨by omega, by omega⟩ (zok_gd ⟨by omega, by omega⟩ ?_)
  refine zok_cl (o_depends h _ _) (fun r m hr => ?_)
  refine zok_gl ⟨by omega, by omega⟩ (zok_gd ⟨by omega, by omega⟩ ?_)
  refine zok_gl ⟨by omega, by omega⟩ (zok_gd ⟨by omega, by omega⟩ ?_)
  refine zok_cl hr (fun r2 m2 h2 => ?_)
  obtain ⟨A', hA'⟩ := h2.2.2
  exact cmp_ok (K := fun m => fL_law_2058 L xs k28 x5 m) h2.1 h2.2.1 (hk A' m2 hA')
theorem B_948 {L : Nat} {xs : Nat → Int32} {k28 : Int → zM → Option (Bool × zM)} {x5 : Int} {Q : Bool × zM → Prop} (h : LI c A μ) (hc : c ≤ 1000) (h0 : 0 ≤ x5) (hL : x5 + 6 ≤ L) (hL3 : L ≤ 3072) (hk : ∀ A' μ', LI (c + 1) A' μ' → zok (fL_law_2058 L xs k28 x5 μ') Q) : zok (fL_law_948 L xs k28 x5 μ) Q := by
  unfold fL_law_948
  refine zok_gl ⟨by omega, by omega⟩ (zok_gd ⟨by omega, by omega⟩ ?_)
  refine zok_gl ⟨by omega, by omega⟩ (zok_gd ⟨by omega, by omega⟩ ?_)
  refine zok_cl (o_occurrence h _ _) (fun r m hr => ?_)
  refine zok_gl ⟨by omega, by omega⟩ (zok_gd ⟨by omega, by omega⟩ ?_)
  refine zok_gl ⟨by omega, by omega⟩ (zok_gd ⟨by omega, by omega⟩ ?_)
  refine zok_cl hr (fun r2 m2 h2 => ?_)
  obtain ⟨A', hA'⟩ := h2.2.2
  exact cmp_ok (K := fun m => fL_law_2058 L xs k28 x5 m) h2.1 h2.2.1 (hk A' m2 hA')
theorem B_1848 {L : Nat} {xs : Nat → Int32} {k28 : Int → zM → Option (Bool × zM)} {x5 : Int} {Q : Bool × zM → Prop} (h : LI c A μ) (hc : c ≤ 1000) (h0 : 0 ≤ x5) (hL : x5 + 6 ≤ L) (hL3 : L ≤ 3072) (hk : ∀ A' μ', LI (c + 1) A' μ' → zok (fL_law_2058 L xs k28 x5 μ') Q) : zok (fL_law_1848 L xs k28 x5 μ) Q := by
  unfold fL_law_1848
  refine zok_cl (o_drop h hc) (fun r m hr => zok_cl hr (fun r2 m2 h2 => ?_))
  obtain ⟨A', hA'⟩ := h2.2
  exact zok_t h2.1 (hk A' m2 hA')
theorem B_1727 {L : Nat} {xs : Nat → Int32} {k28 : Int → zM → Option (Bool × zM)} {x5 : Int} {Q : Bool × zM → Prop} (h : LI c A μ) (hc : c ≤ 1000) (h0 : 0 ≤ x5) (hL : x5 + 6 ≤ L) (hL3 : L ≤ 3072) (hk : ∀ A' μ', LI (c + 1) A' μ' → zok (fL_law_2058 L xs k28 x5 μ') Q) : zok (fL_law_1727 L xs k28 x5 μ) Q := by
  unfold fL_law_1727
  refine zok_cl (o_erase h hc) (fun r m hr => zok_cl hr (fun r2 m2 h2 => ?_))
  obtain ⟨A', hA'⟩ := h2.2
  exact zok_t h2.1 (hk A' m2 hA')
theorem B_320 {L : Nat} {xs : Nat → Int32} {k28 : Int → zM → Option (Bool × zM)} {x5 : Int} {Q : Bool × zM → Prop} (h : LI c A μ) (hc : c ≤ 1000) (h0 : 0 ≤ x5) (hL : x5 + 6 ≤ L) (hL3 : L ≤ 3072) (hk : ∀ A' μ', LI (c + 1) A' μ' → zok (fL_law_2058 L xs k28 x5 μ') Q) : zok (fL_law_320 L xs k28 x5 μ) Q := by
  unfold fL_law_320
  refine zok_cl (o_load h) (fun r m hr => zok_cl hr (fun r2 m2 h2 => ?_))
  obtain ⟨A', hA'⟩ := h2.2
  exact zok_t h2.1 (hk A' m2 hA')
theorem B_1228 {L : Nat} {xs : Nat → Int32} {k28 : Int → zM → Option (Bool × zM)} {x5 : Int} {Q : Bool × zM → Prop} (h : LI c A μ) (hc : c ≤ 1000) (h0 : 0 ≤ x5) (hL : x5 + 6 ≤ L) (hL3 : L ≤ 3072) (hk : ∀ A' μ', LI (c + 1) A' μ' → zok (fL_law_2058 L xs k28 x5 μ') Q) : zok (fL_law_1228 L xs k28 x5 μ) Q := by
  unfold fL_law_1228
  refine zok_cl (o_mirrored h) (fun r m hr => ?_)
  refine zok_cl hr (fun r2 m2 h2 => ?_)
  obtain ⟨A', hA'⟩ := h2.2.2
  exact cmp_ok (K := fun m => fL_law_2058 L xs k28 x5 m) h2.1 h2.2.1 (hk A' m2 hA')
theorem B_333 {L : Nat} {xs : Nat → Int32} {k28 : Int → zM → Option (Bool × zM)} {x5 : Int} {Q : Bool × zM → Prop} (h : LI c A μ) (hc : c ≤ 1000) (h0 : 0 ≤ x5) (hL : x5 + 6 ≤ L) (hL3 : L ≤ 3072) (hk : ∀ A' μ', LI (c + 1) A' μ' → zok (fL_law_2058 L xs k28 x5 μ') Q) : zok (fL_law_333 L xs k28 x5 μ) Q := by
  unfold fL_law_333
  rw [(o_code h).1, zco_s]
  refine zok_cl (o_code h).2 (fun r2 m2 h2 => ?_)
  obtain ⟨A', hA'⟩ := h2.2
  exact zok_t h2.1.symm (hk A' m2 hA')
theorem B_1740 {L : Nat} {xs : Nat → Int32} {k28 : Int → zM → Option (Bool × zM)} {x5 : Int} {Q : Bool × zM → Prop} (h : LI c A μ) (hc : c ≤ 1000) (h0 : 0 ≤ x5) (hL : x5 + 6 ≤ L) (hL3 : L ≤ 3072) (hk : ∀ A' μ', LI (c + 1) A' μ' → zok (fL_law_2058 L xs k28 x5 μ') Q) : zok (fL_law_1740 L xs k28 x5 μ) Q := by
  unfold fL_law_1740
  refine zok_cl (o_reset h hc) (fun r m hr => zok_cl hr (fun r2 m2 h2 => ?_))
  obtain ⟨A', hA'⟩ := h2.2
  exact zok_t h2.1 (hk A' m2 hA')
theorem B_1615 {L : Nat} {xs : Nat → Int32} {k28 : Int → zM → Option (Bool × zM)} {x5 : Int} {Q : Bool × zM → Prop} (h : LI c A μ) (hc : c ≤ 1000) (h0 : 0 ≤ x5) (hL : x5 + 6 ≤ L) (hL3 : L ≤ 3072) (hk : ∀ A' μ', LI (c + 1) A' μ' → zok (fL_law_2058 L xs k28 x5 μ') Q) : zok (fL_law_1615 L xs k28 x5 μ) Q := by
  unfold fL_law_1615
  refine zok_gl ⟨by omega, by omega⟩ (zok_gd ⟨by omega, by omega⟩ ?_)
  refine zok_cl (o_expand h hc _) (fun r m hr => ?_)
  refine zok_gl ⟨by omega, by omega⟩ (zok_gd ⟨by omega, by omega⟩ ?_)
  refine zok_cl hr (fun r2 m2 h2 => ?_)
  obtain ⟨A', hA'⟩ := h2.2.2
  exact cmp_ok (K := fun m => fL_law_2058 L xs k28 x5 m) h2.1 h2.2.1 (hk A' m2 hA')
theorem B_2002 {L : Nat} {xs : Nat → Int32} {k28 : Int → zM → Option (Bool × zM)} {x5 : Int} {Q : Bool × zM → Prop} (h : LI c A μ) (hc : c ≤ 1000) (h0 : 0 ≤ x5) (hL : x5 + 6 ≤ L) (hL3 : L ≤ 3072) (hk : ∀ A' μ', LI (c + 1) A' μ' → zok (fL_law_2058 L xs k28 x5 μ') Q) : zok (fL_law_2002 L xs k28 x5 μ) Q := by
  unfold fL_law_2002
  refine zok_gl ⟨by omega, by omega⟩ (zok_gd ⟨by omega, by omega⟩ ?_)
  refine zok_cl (o_restore h _) (fun r m hr => ?_)
  refine zok_gl ⟨by omega, by omega⟩ (zok_gd ⟨by omega, by omega⟩ ?_)
  refine zok_cl hr (fun r2 m2 h2 => ?_)
  obtain ⟨A', hA'⟩ := h2.2.2
  exact cmp_ok (K := fun m => fL_law_2058 L xs k28 x5 m) h2.1 h2.2.1 (hk A' m2 hA')
theorem B_216 {L : Nat} {xs : Nat → Int32} {k28 : Int → zM → Option (Bool × zM)} {x5 : Int} {Q : Bool × zM → Prop} (h : LI c A μ) (hc : c ≤ 1000) (h0 : 0 ≤ x5) (hL : x5 + 6 ≤ L) (hL3 : L ≤ 3072) (hk : ∀ A' μ', LI (c + 1) A' μ' → zok (fL_law_2058 L xs k28 x5 μ') Q) : zok (fL_law_216 L xs k28 x5 μ) Q := by
  unfold fL_law_216
  refine zok_gl ⟨by omega, by omega⟩ (zok_gd ⟨by omega, by omega⟩ ?_)
  refine zok_gl ⟨by omega, by omega⟩ (zok_gd ⟨by omega, by omega⟩ ?_)
  refine zok_gl ⟨by omega, by omega⟩ (zok_gd ⟨by omega, by omega⟩ ?_)
  refine zok_gl ⟨by omega, by omega⟩ (zok_gd ⟨by omega, by omega⟩ ?_)
  refine zok_gl ⟨by omega, by omega⟩ (zok_gd ⟨by omega, by omega⟩ ?_)
  refine zok_cl (o_append h _ _ _ _ _) (fun r m hr => ?_)
  refine zok_gl ⟨by omega, by omega⟩ (zok_gd ⟨by omega, by omega⟩ ?_)
  refine zok_gl ⟨by omega, by omega⟩ (zok_gd ⟨by omega, by omega⟩ ?_)
  refine zok_gl ⟨by omega, by omega⟩ (zok_gd ⟨by omega, by omega⟩ ?_)
  refine zok_gl ⟨by omega, by omega⟩ (zok_gd ⟨by omega, by omega⟩ ?_)
  refine zok_gl ⟨by omega, by omega⟩ (zok_gd ⟨by omega, by omega⟩ ?_)
  refine zok_cl hr (fun r2 m2 h2 => ?_)
  obtain ⟨A', hA'⟩ := h2.2.2
  exact cmp_ok (K := fun m => fL_law_2058 L xs k28 x5 m) h2.1 h2.2.1 (hk A' m2 hA')
theorem B_1016 {L : Nat} {xs : Nat → Int32} {k28 : Int → zM → Option (Bool × zM)} {x5 : Int} {Q : Bool × zM → Prop} (h : LI c A μ) (hc : c ≤ 1000) (h0 : 0 ≤ x5) (hL : x5 + 6 ≤ L) (hL3 : L ≤ 3072) (hk : ∀ A' μ', LI (c + 1) A' μ' → zok (fL_law_2058 L xs k28 x5 μ') Q) : zok (fL_law_1016 L xs k28 x5 μ) Q := by
  unfold fL_law_1016
  refine zok_gl ⟨by omega, by omega⟩ (zok_gd ⟨by omega, by omega⟩ ?_)
  refine zok_cl (o_text h _) (fun r m hr => ?_)
  refine zok_gl ⟨by omega, by omega⟩ (zok_gd ⟨by omega, by omega⟩ ?_)
  refine zok_cl hr (fun r2 m2 h2 => ?_)
  obtain ⟨A', hA'⟩ := h2.2.2
  exact cmp_ok (K := fun m => fL_law_2058 L xs k28 x5 m) h2.1 h2.2.1 (hk A' m2 hA')
theorem B_346 {L : Nat} {xs : Nat → Int32} {k28 : Int → zM → Option (Bool × zM)} {x5 : Int} {Q : Bool × zM → Prop} (h : LI c A μ) (hc : c ≤ 1000) (h0 : 0 ≤ x5) (hL : x5 + 6 ≤ L) (hL3 : L ≤ 3072) (hk : ∀ A' μ', LI (c + 1) A' μ' → zok (fL_law_2058 L xs k28 x5 μ') Q) : zok (fL_law_346 L xs k28 x5 μ) Q := by
  unfold fL_law_346
  rw [(o_pos h).1, zco_s]
  refine zok_cl (o_pos h).2 (fun r2 m2 h2 => ?_)
  obtain ⟨A', hA'⟩ := h2.2
  exact zok_t h2.1.symm (hk A' m2 hA')
theorem B_1753 {L : Nat} {xs : Nat → Int32} {k28 : Int → zM → Option (Bool × zM)} {x5 : Int} {Q : Bool × zM → Prop} (h : LI c A μ) (hc : c ≤ 1000) (h0 : 0 ≤ x5) (hL : x5 + 6 ≤ L) (hL3 : L ≤ 3072) (hk : ∀ A' μ', LI (c + 1) A' μ' → zok (fL_law_2058 L xs k28 x5 μ') Q) : zok (fL_law_1753 L xs k28 x5 μ) Q := by
  unfold fL_law_1753
  refine zok_cl (o_next h hc) (fun r m hr => zok_cl hr (fun r2 m2 h2 => ?_))
  obtain ⟨A', hA'⟩ := h2.2
  exact zok_t h2.1 (hk A' m2 hA')
theorem B_1503 {L : Nat} {xs : Nat → Int32} {k28 : Int → zM → Option (Bool × zM)} {x5 : Int} {Q : Bool × zM → Prop} (h : LI c A μ) (hc : c ≤ 1000) (h0 : 0 ≤ x5) (hL : x5 + 6 ≤ L) (hL3 : L ≤ 3072) (hk : ∀ A' μ', LI (c + 1) A' μ' → zok (fL_law_2058 L xs k28 x5 μ') Q) : zok (fL_law_1503 L xs k28 x5 μ) Q := by
  unfold fL_law_1503
  refine zok_gl ⟨by omega, by omega⟩ (zok_gd ⟨by omega, by omega⟩ ?_)
  refine zok_cl (o_wouldHide h _) (fun r m hr => ?_)
  refine zok_gl ⟨by omega, by omega⟩ (zok_gd ⟨by omega, by omega⟩ ?_)
  refine zok_cl hr (fun r2 m2 h2 => ?_)
  obtain ⟨A', hA'⟩ := h2.2.2
  exact cmp_ok (K := fun m => fL_law_2058 L xs k28 x5 m) h2.1 h2.2.1 (hk A' m2 hA')
theorem B_1382 {L : Nat} {xs : Nat → Int32} {k28 : Int → zM → Option (Bool × zM)} {x5 : Int} {Q : Bool × zM → Prop} (h : LI c A μ) (hc : c ≤ 1000) (h0 : 0 ≤ x5) (hL : x5 + 6 ≤ L) (hL3 : L ≤ 3072) (hk : ∀ A' μ', LI (c + 1) A' μ' → zok (fL_law_2058 L xs k28 x5 μ') Q) : zok (fL_law_1382 L xs k28 x5 μ) Q := by
  unfold fL_law_1382
  refine zok_cl (o_mean h) (fun r m hr => ?_)
  refine zok_cl hr (fun r2 m2 h2 => ?_)
  obtain ⟨A', hA'⟩ := h2.2.2
  exact cmp_d (K := fun m => fL_law_2058 L xs k28 x5 m) h2.1 h2.2.1 (hk A' m2 hA')
theorem B_359 {L : Nat} {xs : Nat → Int32} {k28 : Int → zM → Option (Bool × zM)} {x5 : Int} {Q : Bool × zM → Prop} (h : LI c A μ) (hc : c ≤ 1000) (h0 : 0 ≤ x5) (hL : x5 + 6 ≤ L) (hL3 : L ≤ 3072) (hk : ∀ A' μ', LI (c + 1) A' μ' → zok (fL_law_2058 L xs k28 x5 μ') Q) : zok (fL_law_359 L xs k28 x5 μ) Q := by
  unfold fL_law_359
  refine zok_cl (o_find h) (fun r m hr => zok_cl hr (fun r2 m2 h2 => ?_))
  obtain ⟨A', hA'⟩ := h2.2
  exact zok_t h2.1 (hk A' m2 hA')
theorem B_1128 {L : Nat} {xs : Nat → Int32} {k28 : Int → zM → Option (Bool × zM)} {x5 : Int} {Q : Bool × zM → Prop} (h : LI c A μ) (hc : c ≤ 1000) (h0 : 0 ≤ x5) (hL : x5 + 6 ≤ L) (hL3 : L ≤ 3072) (hk : ∀ A' μ', LI (c + 1) A' μ' → zok (fL_law_2058 L xs k28 x5 μ') Q) : zok (fL_law_1128 L xs k28 x5 μ) Q := by
  unfold fL_law_1128
  refine zok_gl ⟨by omega, by omega⟩ (zok_gd ⟨by omega, by omega⟩ ?_)
  refine zok_cl (o_why h _) (fun r m hr => ?_)
  refine zok_gl ⟨by omega, by omega⟩ (zok_gd ⟨by omega, by omega⟩ ?_)
  refine zok_cl hr (fun r2 m2 h2 => ?_)
  obtain ⟨A', hA'⟩ := h2.2.2
  exact cmp_ok (K := fun m => fL_law_2058 L xs k28 x5 m) h2.1 h2.2.1 (hk A' m2 hA')
theorem B_1766 {L : Nat} {xs : Nat → Int32} {k28 : Int → zM → Option (Bool × zM)} {x5 : Int} {Q : Bool × zM → Prop} (h : LI c A μ) (hc : c ≤ 1000) (h0 : 0 ≤ x5) (hL : x5 + 6 ≤ L) (hL3 : L ≤ 3072) (hk : ∀ A' μ', LI (c + 1) A' μ' → zok (fL_law_2058 L xs k28 x5 μ') Q) : zok (fL_law_1766 L xs k28 x5 μ) Q := by
  unfold fL_law_1766
  refine zok_cl (o_previous h hc) (fun r m hr => zok_cl hr (fun r2 m2 h2 => ?_))
  obtain ⟨A', hA'⟩ := h2.2
  exact zok_t h2.1 (hk A' m2 hA')
theorem B_1902 {L : Nat} {xs : Nat → Int32} {k28 : Int → zM → Option (Bool × zM)} {x5 : Int} {Q : Bool × zM → Prop} (h : LI c A μ) (hc : c ≤ 1000) (h0 : 0 ≤ x5) (hL : x5 + 6 ≤ L) (hL3 : L ≤ 3072) (hk : ∀ A' μ', LI (c + 1) A' μ' → zok (fL_law_2058 L xs k28 x5 μ') Q) : zok (fL_law_1902 L xs k28 x5 μ) Q := by
  unfold fL_law_1902
  refine zok_cl (o_undo h) (fun r m hr => ?_)
  refine zok_cl hr (fun r2 m2 h2 => ?_)
  obtain ⟨A', hA'⟩ := h2.2.2
  exact cmp_ok (K := fun m => fL_law_2058 L xs k28 x5 m) h2.1 h2.2.1 (hk A' m2 hA')
theorem B_496 {L : Nat} {xs : Nat → Int32} {k28 : Int → zM → Option (Bool × zM)} {x5 : Int} {Q : Bool × zM → Prop} (h : LI c A μ) (hc : c ≤ 1000) (h0 : 0 ≤ x5) (hL : x5 + 6 ≤ L) (hL3 : L ≤ 3072) (hk : ∀ A' μ', LI (c + 1) A' μ' → zok (fL_law_2058 L xs k28 x5 μ') Q) : zok (fL_law_496 L xs k28 x5 μ) Q := by
  unfold fL_law_496
  refine zok_gl ⟨by omega, by omega⟩ (zok_gd ⟨by omega, by omega⟩ ?_)
  refine zok_gl ⟨by omega, by omega⟩ (zok_gd ⟨by omega, by omega⟩ ?_)
  refine zok_cl (o_letter h _ _) (fun r m hr => ?_)
  refine zok_gl ⟨by omega, by omega⟩ (zok_gd ⟨by omega, by omega⟩ ?_)
  refine zok_gl ⟨by omega, by omega⟩ (zok_gd ⟨by omega, by omega⟩ ?_)
  refine zok_cl hr (fun r2 m2 h2 => ?_)
  obtain ⟨A', hA'⟩ := h2.2.2
  exact cmp_ok (K := fun m => fL_law_2058 L xs k28 x5 m) h2.1 h2.2.1 (hk A' m2 hA')
theorem B_880 {L : Nat} {xs : Nat → Int32} {k28 : Int → zM → Option (Bool × zM)} {x5 : Int} {Q : Bool × zM → Prop} (h : LI c A μ) (hc : c ≤ 1000) (h0 : 0 ≤ x5) (hL : x5 + 6 ≤ L) (hL3 : L ≤ 3072) (hk : ∀ A' μ', LI (c + 1) A' μ' → zok (fL_law_2058 L xs k28 x5 μ') Q) : zok (fL_law_880 L xs k28 x5 μ) Q := by
  unfold fL_law_880
  refine zok_gl ⟨by omega, by omega⟩ (zok_gd ⟨by omega, by omega⟩ ?_)
  refine zok_gl ⟨by omega, by omega⟩ (zok_gd ⟨by omega, by omega⟩ ?_)
  refine zok_cl (o_value h _ _) (fun r m hr => ?_)
  refine zok_gl ⟨by omega, by omega⟩ (zok_gd ⟨by omega, by omega⟩ ?_)
  refine zok_gl ⟨by omega, by omega⟩ (zok_gd ⟨by omega, by omega⟩ ?_)
  refine zok_cl hr (fun r2 m2 h2 => ?_)
  obtain ⟨A', hA'⟩ := h2.2.2
  exact cmp_ok (K := fun m => fL_law_2058 L xs k28 x5 m) h2.1 h2.2.1 (hk A' m2 hA')
theorem B_1779 {L : Nat} {xs : Nat → Int32} {k28 : Int → zM → Option (Bool × zM)} {x5 : Int} {Q : Bool × zM → Prop} (h : LI c A μ) (hc : c ≤ 1000) (h0 : 0 ≤ x5) (hL : x5 + 6 ≤ L) (hL3 : L ≤ 3072) (hk : ∀ A' μ', LI (c + 1) A' μ' → zok (fL_law_2058 L xs k28 x5 μ') Q) : zok (fL_law_1779 L xs k28 x5 μ) Q := by
  unfold fL_law_1779
  refine zok_gl ⟨by omega, by omega⟩ (zok_gd ⟨by omega, by omega⟩ ?_)
  refine zok_cl (o_go h hc _) (fun r m hr => ?_)
  refine zok_gl ⟨by omega, by omega⟩ (zok_gd ⟨by omega, by omega⟩ ?_)
  refine zok_cl hr (fun r2 m2 h2 => ?_)
  obtain ⟨A', hA'⟩ := h2.2.2
  exact cmp_ok (K := fun m => fL_law_2058 L xs k28 x5 m) h2.1 h2.2.1 (hk A' m2 hA')
theorem B_372 {L : Nat} {xs : Nat → Int32} {k28 : Int → zM → Option (Bool × zM)} {x5 : Int} {Q : Bool × zM → Prop} (h : LI c A μ) (hc : c ≤ 1000) (h0 : 0 ≤ x5) (hL : x5 + 6 ≤ L) (hL3 : L ≤ 3072) (hk : ∀ A' μ', LI (c + 1) A' μ' → zok (fL_law_2058 L xs k28 x5 μ') Q) : zok (fL_law_372 L xs k28 x5 μ) Q := by
  unfold fL_law_372
  refine zok_gl ⟨by omega, by omega⟩ (zok_gd ⟨by omega, by omega⟩ ?_)
  refine zok_cl (o_size h _) (fun r m hr => ?_)
  refine zok_gl ⟨by omega, by omega⟩ (zok_gd ⟨by omega, by omega⟩ ?_)
  refine zok_cl hr (fun r2 m2 h2 => ?_)
  obtain ⟨A', hA'⟩ := h2.2.2
  exact cmp_ok (K := fun m => fL_law_2058 L xs k28 x5 m) h2.1 h2.2.1 (hk A' m2 hA')
theorem B_756 {L : Nat} {xs : Nat → Int32} {k28 : Int → zM → Option (Bool × zM)} {x5 : Int} {Q : Bool × zM → Prop} (h : LI c A μ) (hc : c ≤ 1000) (h0 : 0 ≤ x5) (hL : x5 + 6 ≤ L) (hL3 : L ≤ 3072) (hk : ∀ A' μ', LI (c + 1) A' μ' → zok (fL_law_2058 L xs k28 x5 μ') Q) : zok (fL_law_756 L xs k28 x5 μ) Q := by
  unfold fL_law_756
  refine zok_gl ⟨by omega, by omega⟩ (zok_gd ⟨by omega, by omega⟩ ?_)
  refine zok_cl (o_account h _) (fun r m hr => ?_)
  refine zok_gl ⟨by omega, by omega⟩ (zok_gd ⟨by omega, by omega⟩ ?_)
  refine zok_cl hr (fun r2 m2 h2 => ?_)
  obtain ⟨A', hA'⟩ := h2.2.2
  exact cmp_ok (K := fun m => fL_law_2058 L xs k28 x5 m) h2.1 h2.2.1 (hk A' m2 hA')
theorem B_632 {L : Nat} {xs : Nat → Int32} {k28 : Int → zM → Option (Bool × zM)} {x5 : Int} {Q : Bool × zM → Prop} (h : LI c A μ) (hc : c ≤ 1000) (h0 : 0 ≤ x5) (hL : x5 + 6 ≤ L) (hL3 : L ≤ 3072) (hk : ∀ A' μ', LI (c + 1) A' μ' → zok (fL_law_2058 L xs k28 x5 μ') Q) : zok (fL_law_632 L xs k28 x5 μ) Q := by
  unfold fL_law_632
  refine zok_gl ⟨by omega, by omega⟩ (zok_gd ⟨by omega, by omega⟩ ?_)
  refine zok_cl (o_document h _) (fun r m hr => ?_)
  refine zok_gl ⟨by omega, by omega⟩ (zok_gd ⟨by omega, by omega⟩ ?_)
  refine zok_cl hr (fun r2 m2 h2 => ?_)
  obtain ⟨A', hA'⟩ := h2.2.2
  exact cmp_ok (K := fun m => fL_law_2058 L xs k28 x5 m) h2.1 h2.2.1 (hk A' m2 hA')
theorem B_1876 {L : Nat} {xs : Nat → Int32} {k28 : Int → zM → Option (Bool × zM)} {x5 : Int} {Q : Bool × zM → Prop} (h : LI c A μ) (hc : c ≤ 1000) (h0 : 0 ≤ x5) (hL : x5 + 6 ≤ L) (hL3 : L ≤ 3072) (hk : ∀ A' μ', LI (c + 1) A' μ' → zok (fL_law_2058 L xs k28 x5 μ') Q) {s : Int} (hs : s = 0 ∨ s = 1) (hsx : (((xs (zx (x5 + 1))).toInt = 0) ∧ s = 0) ∨ (¬ ((xs (zx (x5 + 1))).toInt = 0) ∧ s = 1)) : zok (fL_law_1876 L xs k28 x5 s μ) Q := by
  unfold fL_law_1876
  refine zok_cl (o_order h hc hs) (fun r m hr => ?_)
  refine zok_gl ⟨by omega, by omega⟩ (zok_gd ⟨by omega, by omega⟩ ?_)
  have fin : zok (fL_law_1894 L xs k28 x5 s r m) Q := by
    unfold fL_law_1894
    refine zok_cl hr (fun r2 m2 h2 => ?_)
    obtain ⟨A', hA'⟩ := h2.2
    exact zok_t h2.1 (hk A' m2 hA')
  rcases hsx with ⟨a, rfl⟩ | ⟨a, rfl⟩
  · exact zok_t a fin
  · exact zok_f a fin
theorem B_1861 {L : Nat} {xs : Nat → Int32} {k28 : Int → zM → Option (Bool × zM)} {x5 : Int} {Q : Bool × zM → Prop} (h : LI c A μ) (hc : c ≤ 1000) (h0 : 0 ≤ x5) (hL : x5 + 6 ≤ L) (hL3 : L ≤ 3072) (hk : ∀ A' μ', LI (c + 1) A' μ' → zok (fL_law_2058 L xs k28 x5 μ') Q) : zok (fL_law_1861 L xs k28 x5 μ) Q := by
  unfold fL_law_1861
  refine zok_gl ⟨by omega, by omega⟩ (zok_gd ⟨by omega, by omega⟩ ?_)
  exact zok_if (fun a => B_1876 h hc h0 hL hL3 hk (Or.inl rfl) (Or.inl ⟨a, rfl⟩)) (fun a => B_1876 h hc h0 hL hL3 hk (Or.inr rfl) (Or.inr ⟨a, rfl⟩))
theorem LI.up (h : LI c A μ) : LI (c + 1) A μ := ⟨h.1.up, h.2⟩
theorem law_ok {L : Nat} {xs : Nat → Int32} (hL3 : L ≤ 3072) (h : LI 0 A μ) : zok (fL_law L xs μ) (fun r => r.1 = true) := by
  unfold fL_law
  refine zok_x2 (fun (x5 : Int) m => ∃ (c : Nat) (A : zA), x5 = 6 * (c : Int) ∧ c ≤ 512 ∧ LI c A m) (fun x5 _ => ((L : Int) - x5).toNat / 6) (fun kk x5 m hx ih => ?_) 600 0 μ ⟨0, A, rfl, by decide, h⟩ (by show ((L : Int) - 0).toNat / 6 < 600; omega)
  obtain ⟨c, A, rfl, c1, h⟩ := hx
  unfold fL_law_28
  refine zok_gl ⟨by omega, by omega⟩ (zok_if (fun _ => zok_some rfl) (fun c2 => zok_gd ⟨by omega, by omega⟩ (zok_lt ?_)))
  have hL6 : 6 * (c : Int) + 6 ≤ (L : Nat) := by omega
  have h0 : 0 ≤ 6 * (c : Int) := by omega
  have hc' : (c : Int) ≤ 1000 := by omega
  have hk : ∀ A' μ', LI ((c : Int) + 1) A' μ' → zok (fL_law_2058 L xs kk (6 * (c : Int)) μ') (fun r => r.1 = true) := fun A' μ' h' => by
    unfold fL_law_2058
    exact zok_gl ⟨by omega, by omega⟩ (ih _ _ ⟨c + 1, A', by omega, by omega, h'⟩ (by omega))
  exact zok_if (fun _ => B_216 h hc' h0 hL6 hL3 hk) (fun _ => zok_if (fun _ => B_320 h hc' h0 hL6 hL3 hk) (fun _ => zok_if (fun _ => B_333 h hc' h0 hL6 hL3 hk) (fun _ => zok_if (fun _ => B_346 h hc' h0 hL6 hL3 hk) (fun _ => zok_if (fun _ => B_359 h hc' h0 hL6 hL3 hk) (fun _ => zok_if (fun _ => B_372 h hc' h0 hL6 hL3 hk) (fun _ => zok_if (fun _ => B_428 h hc' h0 hL6 hL3 hk) (fun _ => zok_if (fun _ => B_496 h hc' h0 hL6 hL3 hk) (fun _ => zok_if (fun _ => B_564 h hc' h0 hL6 hL3 hk) (fun _ => zok_if (fun _ => B_632 h hc' h0 hL6 hL3 hk) (fun _ => zok_if (fun _ => B_688 h hc' h0 hL6 hL3 hk) (fun _ => zok_if (fun _ => B_756 h hc' h0 hL6 hL3 hk) (fun _ => zok_if (fun _ => B_812 h hc' h0 hL6 hL3 hk) (fun _ => zok_if (fun _ => B_880 h hc' h0 hL6 hL3 hk) (fun _ => zok_if (fun _ => B_948 h hc' h0 hL6 hL3 hk) (fun _ => zok_if (fun _ => B_1016 h hc' h0 hL6 hL3 hk) (fun _ => zok_if (fun _ => B_1072 h hc' h0 hL6 hL3 hk) (fun _ => zok_if (fun _ => B_1128 h hc' h0 hL6 hL3 hk) (fun _ => zok_if (fun _ => B_1184 h hc' h0 hL6 hL3 hk) (fun _ => zok_if (fun _ => B_1228 h hc' h0 hL6 hL3 hk) (fun _ => zok_if (fun _ => B_1272 h hc' h0 hL6 hL3 hk) (fun _ => zok_if (fun _ => B_1316 h hc' h0 hL6 hL3 hk) (fun _ => zok_if (fun _ => B_1382 h hc' h0 hL6 hL3 hk) (fun _ => zok_if (fun _ => B_1447 h hc' h0 hL6 hL3 hk) (fun _ => zok_if (fun _ => B_1503 h hc' h0 hL6 hL3 hk) (fun _ => zok_if (fun _ => B_1559 h hc' h0 hL6 hL3 hk) (fun _ => zok_if (fun _ => B_1615 h hc' h0 hL6 hL3 hk) (fun _ => zok_if (fun _ => B_1671 h hc' h0 hL6 hL3 hk) (fun _ => zok_if (fun _ => B_1727 h hc' h0 hL6 hL3 hk) (fun _ => zok_if (fun _ => B_1740 h hc' h0 hL6 hL3 hk) (fun _ => zok_if (fun _ => B_1753 h hc' h0 hL6 hL3 hk) (fun _ => zok_if (fun _ => B_1766 h hc' h0 hL6 hL3 hk) (fun _ => zok_if (fun _ => B_1779 h hc' h0 hL6 hL3 hk) (fun _ => zok_if (fun _ => B_1835 h hc' h0 hL6 hL3 hk) (fun _ => zok_if (fun _ => B_1848 h hc' h0 hL6 hL3 hk) (fun _ => zok_if (fun _ => B_1861 h hc' h0 hL6 hL3 hk) (fun _ => zok_if (fun _ => B_1902 h hc' h0 hL6 hL3 hk) (fun _ => zok_if (fun _ => B_1946 h hc' h0 hL6 hL3 hk) (fun _ => zok_if (fun _ => B_2002 h hc' h0 hL6 hL3 hk) (fun _ => hk A m h.up)))))))))))))))))))))))))))))))))))))))
end lbl
