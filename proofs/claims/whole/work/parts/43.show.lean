/-! THE CLASS'S VIEW: what is shown -/
def vC (c : Nat) : Prop := c ≠ 200 ∧ c ≠ 202 ∧ c ≠ 203 ∧ c ≠ 204
def vI (μ0 : zM) (S : zSn) (ty : Nat → Bool) (k : Nat) (m : zM) : Prop :=
  zSm vC μ0 m ∧ (∀ i, zR m 200 i = zR μ0 200 i ∧ zL m 200 i = zL μ0 200 i) ∧ (∀ i, i ≠ 3 → zI m 200 i = zI μ0 200 i) ∧
  (∀ o, o < k → zI m 202 o = zb ((vSt S ty k).1 o)) ∧ (∀ f, f < 10 → zI m 203 f = (vSt S ty k).2 f) ∧ (∀ f, f < 10 → zI m 204 f = cnt (fun o => (vSt S ty k).1 o && decide (sF S o = f)) k) ∧ zr (zI m 200 3) ∧ ∀ i, i < 32 → mbit (zI m 200 3) i = decide (∃ o, o < k ∧ (vSt S ty k).1 o = true ∧ sF S o = i)
theorem vI_next {μ0 m m' : zM} {S : zSn} {ty : Nat → Bool} {k : Nat} (hI : vI μ0 S ty k m) (hF : 0 ≤ sF S k ∧ sF S k < 10) (h1 : zSm vC m m') (h2 : ∀ i, zR m' 200 i = zR m 200 i ∧ zL m' 200 i = zL m 200 i) (h3 : ∀ i, i ≠ 3 → zI m' 200 i = zI m 200 i)
    (h202 : ∀ o, zI m' 202 o = if o = k then zb (vHere S (vSt S ty k) k) else zI m 202 o) (h203 : ∀ f, f < 10 → zI m' 203 f = if vDef S ty (vSt S ty k) k = true ∧ f = (sF S k).toNat then (k : Int) else zI m 203 f) (h204 : ∀ f, f < 10 → zI m' 204 f = zI m 204 f + if vHere S (vSt S ty k) k = true ∧ f = (sF S k).toNat then 1 else 0) (hz : zr (zI m' 200 3))
    (hb : ∀ i, i < 32 → mbit (zI m' 200 3) i = (mbit (zI m 200 3) i || (vHere S (vSt S ty k) k && decide (sF S k = i)))) : vI μ0 S ty (k + 1) m' := by
  obtain ⟨i1, i2, i3, i4, i5, i6, i7, i8⟩ := hI
  have e1 : ∀ o, (vSt S ty (k + 1)).1 o = if o = k then vHere S (vSt S ty k) k else (vSt S ty k).1 o := fun o => rfl
  have e2 : (vSt S ty (k + 1)).2 = if vDef S ty (vSt S ty k) k then updI (vSt S ty k).2 (sF S k).toNat k else (vSt S ty k).2 := rfl
  refine ⟨i1.tr h1, fun i => ⟨(h2 i).1.trans (i2 i).1, (h2 i).2.trans (i2 i).2⟩, fun i hi => (h3 i hi).trans (i3 i hi), fun o ho => ?_, fun f hf => ?_, fun f hf => ?_, hz, fun i hi => ?_⟩
  · rw [h202, e1]
    by_cases e : o = k
    · rw [if_pos e, if_pos e]
    · rw [if_neg e, if_neg e]; exact i4 o (by omega)
  · rw [h203 f hf, e2]
    by_cases e : vDef S ty (vSt S ty k) k = true
    · rw [if_pos e]
      unfold updI
      by_cases e3 : f = (sF S k).toNat
      · rw [if_pos ⟨e, e3⟩, if_pos e3]
      · rw [if_neg (fun q => e3 q.2), if_neg e3]; exact i5 f hf
    · rw [if_neg e, if_neg (fun q => e q.1)]; exact i5 f hf
  · rw [h204 f hf, i6 f hf]
    show _ = ((cnt (fun o => (vSt S ty (k + 1)).1 o && decide (sF S o = f)) k + if ((vSt S ty (k + 1)).1 k && decide (sF S k = f)) = true then 1 else 0 : Nat) : Int)
    rw [cnt_congr (P := fun o => (vSt S ty (k + 1)).1 o && decide (sF S o = f)) (Q := fun o => (vSt S ty k).1 o && decide (sF S o = f)) (fun i hi => by rw [e1, if_neg (by omega)]), e1, if_pos rfl]
    by_cases e : vHere S (vSt S ty k) k = true
    · by_cases e3 : f = (sF S k).toNat
      · rw [if_pos ⟨e, e3⟩, if_pos (by simp [e]; omega)]; omega
      · rw [if_neg (fun q => e3 q.2), if_neg (by simp [e]; omega)]; omega
    · rw [if_neg (fun q => e q.1), if_neg (by simp [e])]; omega
  · rw [hb i hi, i8 i hi]
    by_cases e : vHere S (vSt S ty k) k = true
    · by_cases e3 : sF S k = i
      · rw [decide_eq_true (p := sF S k = i) e3, e]
        simp only [Bool.and_self, Bool.or_true]
        exact (decide_eq_true ⟨k, by omega, by rw [e1, if_pos rfl]; exact e, e3⟩).symm
      · rw [decide_eq_false (p := sF S k = i) e3, Bool.and_false, Bool.or_false]
        apply decide_eq_decide.mpr
        exact ⟨fun ⟨o, q1, q2, q3⟩ => ⟨o, by omega, by rw [e1, if_neg (by omega)]; exact q2, q3⟩, fun ⟨o, q1, q2, q3⟩ => by
          by_cases e4 : o = k
          · subst e4; exact absurd q3 e3
          · rw [e1, if_neg e4] at q2; exact ⟨o, by omega, q2, q3⟩⟩
    · rw [Bool.not_eq_true] at e
      rw [e, Bool.false_and, Bool.or_false]
      apply decide_eq_decide.mpr
      exact ⟨fun ⟨o, q1, q2, q3⟩ => ⟨o, by omega, by rw [e1, if_neg (by omega)]; exact q2, q3⟩, fun ⟨o, q1, q2, q3⟩ => by
        by_cases e4 : o = k
        · subst e4; rw [e1, if_pos rfl, e] at q2; cases q2
        · rw [e1, if_neg e4] at q2; exact ⟨o, by omega, q2, q3⟩⟩
/-- the snippet's rows are the same in a memory that differs in the view's rows alone -/
theorem vC_t {t : Nat} (ht : okT t) {c : Nat} (h : c ≤ t + 10) : vC c := by
  have := ht.f
  unfold vC
  omega
section vShow
variable {μ0 m : zM} {t : Nat} {S : zSn} {ty : Nat → Bool} {Q : zM → Prop} {k35 : Int → zM → Option zM}
theorem v_isTyped (x : Int) (h0 : 0 ≤ x) (h1 : x < 10) (hT : mbit (zI m 200 1) x.toNat = ty x.toNat) : zok (f4_isTyped x m) (fun b => b = ty x.toNat) := by
  unfold f4_isTyped
  refine zok_lt (zok_lt (zok_if (fun h => zok_some ?_) (fun h => zok_some ?_)))
  · rw [← hT]; exact ((mtest1 h0 (by omega)).mp h).symm
  · rw [← hT]
    cases e : mbit (zI m 200 1) x.toNat with
    | true => rfl
    | false => exact absurd ((mtest1 h0 (by omega)).mpr e) h
theorem v_isDef (ht : okT t) (hR : zR m 200 0 = t) {o : Nat} (ho : o < 60) {f : Nat} (hf : f < 10) (hF : zI m (t + 2) o = f) : zok (f4_isDefaultShown (o : Int) m) (fun b => b = decide (zI m 203 f = o)) := by
  obtain ⟨q1, q2, q3, q4, q5, q6, q7, q8, q9, q10, q11, q12, q13, -⟩ := ht.f
  unfold f4_isDefaultShown
  rw [hR, q3, q5, zl_200s.2.2.1, zx_nat, hF, zx_nat]
  refine zok_gd ⟨by omega, by omega⟩ (zok_gd ⟨by omega, by omega⟩ (zok_if (fun h => zok_some ?_) (fun h => zok_some ?_)))
  · exact (decide_eq_true h).symm
  · exact (decide_eq_false h).symm
theorem v_89 (ht : okT t) (hR : zR μ0 200 0 = t) (hS : pSc μ0 t S) (hW : wS S) (hT : ∀ f, f < 10 → mbit (zI μ0 200 1) f = ty f) {k : Nat} (hk : k < sN S) (hI : vI μ0 S ty k m) (cont : ∀ m', vI μ0 S ty (k + 1) m' → zok (k35 ((k : Int) + 1) m') Q) :
    zok (f4_show_89 k35 (k : Int) (sF S k) (zb (vHere S (vSt S ty k) k)) (k : Int) m) Q := by
  obtain ⟨q1, q2, q3, q4, q5, q6, q7, q8, q9, q10, q11, q12, q13, -⟩ := ht.f
  obtain ⟨l1, l2, l3, l4, -⟩ := zl_200s
  have hn := hW.1
  obtain ⟨f1, f2, -, -, f5, -⟩ := hW.2.2.2.1 k hk
  have hI' := hI
  obtain ⟨i1, i2, i3, i4, i5, i6, i7, i8⟩ := hI
  have rD : ∀ m', zSm vC μ0 m' → zI m' (t + 4) k = sD S k := fun m' h => ((h _ (vC_t ht (by omega)) k).1).trans (hS.2.2.2.1 k hk).2.2.1
  have hFN : ((sF S k).toNat : Int) = sF S k := by omega
  have hFl : (sF S k).toNat < 10 := by omega
  unfold f4_show_89
  refine zok_gd ⟨⟨by omega, by rw [l2]; omega⟩, zb01 _⟩ (zok_lt (zok_gd ⟨by omega, by rw [l2]; omega⟩ ?_))
  rw [zx_nat, zI_eq rfl rfl]
  cases e : vHere S (vSt S ty k) k with
  | false =>
    refine zok_t rfl (zok_gl ⟨by omega, by omega⟩ (cont _ ?_))
    have ed : vDef S ty (vSt S ty k) k = false := by unfold vDef; rw [e]; rfl
    refine vI_next hI' ⟨f1, f2⟩ (zSm.rf.sI (fun h => h.2.1 rfl)) (fun i => ⟨rfl, rfl⟩) (fun i _ => zI_nk (by decide)) (fun o => ?_) (fun f hf => ?_) (fun f hf => ?_) ?_ (fun i hi => ?_)
    · rw [zsI_at, e]; simp
    · rw [zI_nk (by decide), ed]; simp
    · rw [zI_nk (by decide), e]; simp
    · rw [zI_nk (by decide)]; exact i7
    · rw [zI_nk (by decide), e]; simp
  | true =>
    refine zok_f (by decide) (zok_lt (zok_lt (zok_lt (zok_gd ⟨f1, by rw [l4]; omega⟩ ?_))))
    rw [zI_nk (by decide), zI_nk (by decide), zI_nk (by decide), i6 _ hFl]
    have hc := cnt_le (fun o => (vSt S ty k).1 o && decide (sF S o = (sF S k).toNat)) k
    refine zok_gl ⟨by omega, by omega⟩ (zok_gd ⟨f1, by rw [l4]; omega⟩ (zok_lt ?_))
    simp only [zR_sI, (i2 0).1, hR, q3, q7]
    refine zok_gd ⟨by omega, by omega⟩ ?_
    simp only [zI_nk (show t + 4 ≠ 204 by omega), zI_nk (show t + 4 ≠ 200 by omega), zI_nk (show t + 4 ≠ 202 by omega), zx_nat, rD m i1]
    -- what is alike in all ends
    generalize hm6 : zsI (zsI (zsI m 202 k (zb true)) 200 3 (zor (zI m 200 3) (zshl 1 (sF S k)))) 204 (zx (sF S k)) ((cnt (fun o => (vSt S ty k).1 o && decide (sF S o = ((sF S k).toNat : Nat))) k : Nat) + 1) = m6
    have g1 : zSm vC m m6 := by rw [← hm6]; exact ((zSm.rf.sI (fun h => h.2.1 rfl)).sI (fun h => h.1 rfl)).sI (fun h => h.2.2.2 rfl)
    have g2 : ∀ i, zR m6 200 i = zR m 200 i ∧ zL m6 200 i = zL m 200 i := fun i => by rw [← hm6]; exact ⟨rfl, rfl⟩
    have g3 : ∀ i, i ≠ 3 → zI m6 200 i = zI m 200 i := fun i hi => by rw [← hm6, zI_nk (by decide), zI_ni hi, zI_nk (by decide)]
    have g202 : ∀ o, zI m6 202 o = if o = k then zb (vHere S (vSt S ty k) k) else zI m 202 o := fun o => by rw [← hm6, zI_nk (by decide), zI_nk (by decide), zsI_at, e]; simp
    have g203 : ∀ f, zI m6 203 f = zI m 203 f := fun f => by rw [← hm6, zI_nk (by decide), zI_nk (by decide), zI_nk (by decide)]
    have g204 : ∀ f, f < 10 → zI m6 204 f = zI m 204 f + if vHere S (vSt S ty k) k = true ∧ f = (sF S k).toNat then 1 else 0 := fun f hf => by
      rw [← hm6, zsI_at, e]
      by_cases e3 : f = (sF S k).toNat
      · rw [if_pos ⟨rfl, e3⟩, if_pos ⟨rfl, e3⟩, e3, i6 _ hFl]
      · rw [if_neg (fun q => e3 q.2), if_neg (fun q => e3 q.2), zI_nk (by decide), zI_nk (by decide), Int.add_zero]
    have gz : zr (zI m6 200 3) := by rw [← hm6, zI_nk (by decide), zI_eq rfl rfl]; exact zr_of _
    have gb : ∀ i, i < 32 → mbit (zI m6 200 3) i = (mbit (zI m 200 3) i || (vHere S (vSt S ty k) k && decide (sF S k = i))) := fun i hi => by
      rw [← hm6, zI_nk (by decide), zI_eq rfl rfl, mbit_or, mbit_shl f1 (by omega), e, Bool.true_and]
      congr 1
      exact decide_eq_decide.mpr ⟨fun h => h.symm, fun h => h.symm⟩
    have done0 : vDef S ty (vSt S ty k) k = false → zok (zgl ((k : Int) + 1) (fun v => k35 v m6)) Q := fun hd => zok_gl ⟨by omega, by omega⟩ (cont _ (vI_next hI' ⟨f1, f2⟩ g1 g2 g3 g202 (fun f hf => by rw [g203, hd]; simp) g204 gz gb))
    by_cases eD : sD S k = 0
    · refine zok_t eD (done0 ?_)
      unfold vDef; rw [eD]; simp
    · refine zok_f eD (zok_co (v_isTyped (ty := ty) (sF S k) f1 f2 (by rw [g3 1 (by decide), i3 1 (by decide)]; exact hT _ hFl)) (fun b hb => ?_))
      subst hb
      have eD1 : sD S k = 1 := f5.resolve_left eD
      cases eT : ty (sF S k).toNat with
      | true =>
        refine zok_f (by decide) (done0 ?_)
        unfold vDef; rw [eT]; simp
      | false =>
        refine zok_t rfl (zok_gd ⟨f1, by rw [l3]; omega⟩ ?_)
        rw [show zx (sF S k) = (sF S k).toNat from rfl, g203, i5 _ hFl]
        by_cases e9 : (vSt S ty k).2 (sF S k).toNat = -1
        · have hd : vDef S ty (vSt S ty k) k = true := by unfold vDef; rw [e, eD1, eT, e9]; rfl
          refine zok_t e9 (zok_gd ⟨f1, by rw [l3]; omega⟩ (zok_lt (zok_gl ⟨by omega, by omega⟩ (cont _ ?_))))
          refine vI_next hI' ⟨f1, f2⟩ (g1.sI (fun h => h.2.2.1 rfl)) (fun i => g2 i) (fun i hi => (zI_nk (by decide)).trans (g3 i hi)) (fun o => (zI_nk (by decide)).trans (g202 o)) (fun f hf => ?_) (fun f hf => (zI_nk (by decide)).trans (g204 f hf)) (by rw [zI_nk (by decide)]; exact gz) (fun i hi => by rw [zI_nk (by decide)]; exact gb i hi)
          rw [zsI_at, hd, g203]
          by_cases e3 : f = (sF S k).toNat
          · rw [if_pos ⟨rfl, e3⟩, if_pos ⟨rfl, e3⟩]
          · rw [if_neg (fun q => e3 q.2), if_neg (fun q => e3 q.2)]
        · refine zok_f e9 (done0 ?_)
          unfold vDef
          rw [decide_eq_false (p := (vSt S ty k).2 (sF S k).toNat = -1) e9, Bool.and_false]
theorem v_35 (ht : okT t) (hR : zR μ0 200 0 = t) (hS : pSc μ0 t S) (hW : wS S) (hT : ∀ f, f < 10 → mbit (zI μ0 200 1) f = ty f) (hQ : ∀ m', vI μ0 S ty (sN S) m' → Q m') (hI : vI μ0 S ty 0 m) : zok (zfx f4_show_35 (fun _ _ => none) zFu 0 m) Q := by
  obtain ⟨q1, q2, q3, q4, q5, q6, q7, q8, q9, q10, q11, q12, q13, -⟩ := ht.f
  have hn := hW.1
  refine zok_x2 (fun (x : Int) m => ∃ k : Nat, x = k ∧ k ≤ sN S ∧ vI μ0 S ty k m) (fun x _ => 60 - x.toNat) (fun kk x m hx ih => ?_) zFu 0 m ⟨0, rfl, by omega, hI⟩ (by show 60 - 0 < 100000; omega)
  obtain ⟨k, rfl, hk, hI⟩ := hx
  have hI' := hI
  obtain ⟨i1, i2, i3, i4, i5, i6, i7, i8⟩ := hI
  have r : ∀ c, c ≤ t + 10 → ∀ i, zI m c i = zI μ0 c i := fun c hc i => (i1 c (vC_t ht hc) i).1
  unfold f4_show_35
  rw [(i2 0).1, hR, q3, q5, q8, r t (by omega), hS.2.2.1, zx_nat]
  refine zok_if (fun h => zok_some (hQ _ (by rw [show sN S = k by omega]; exact hI'))) (fun h => ?_)
  have hk2 : k < sN S := by omega
  have hx := hS.2.2.2.1 k hk2
  refine zok_gd ⟨by omega, by omega⟩ (zok_lt (zok_gd ⟨by omega, by omega⟩ (zok_lt ?_)))
  rw [r (t + 5) (by omega), hx.2.2.2.1, r (t + 2) (by omega), hx.1]
  have cont : ∀ m', vI μ0 S ty (k + 1) m' → zok (kk ((k : Int) + 1) m') Q := fun m' h => ih _ _ ⟨k + 1, by omega, by omega, h⟩ (by show 60 - ((k : Int) + 1).toNat < 60 - (k : Int).toNat; omega)
  by_cases e : sP S k = -1
  · refine zok_t e ?_
    have := v_89 (k35 := kk) (Q := Q) ht hR hS hW hT hk2 hI' cont
    rw [show vHere S (vSt S ty k) k = true from by unfold vHere; rw [e]; rfl] at this
    exact this
  · refine zok_f e ?_
    rcases hW.2.2.2.2.1 k hk2 with h9 | ⟨p, h1, h2, h3, h4⟩
    · exact absurd h9.1 e
    · obtain ⟨f1, f2, -⟩ := hW.2.2.2.1 p (by omega)
      rw [h1]
      refine zok_co (v_isDef ht (by rw [(i2 0).1, hR]) (by omega) (f := (sF S p).toNat) (by omega) (by rw [r (t + 2) (by omega), (hS.2.2.2.1 p (by omega)).1]; omega)) (fun b hb => ?_)
      have hh := v_89 (k35 := kk) (Q := Q) ht hR hS hW hT hk2 hI' cont
      have eb : vHere S (vSt S ty k) k = b := by
        rw [hb, i5 _ (by omega)]
        unfold vHere
        rw [decide_eq_false e, Bool.false_or, h1, show ((p : Int)).toNat = p from rfl]
      rw [eb] at hh
      cases b with
      | true => exact zok_f (by decide) hh
      | false => exact zok_t rfl hh
/-- what show() lays -/
def vShown (S : zSn) (ty : Nat → Bool) (μ : zM) : Prop := (∀ o, o < sN S → zI μ 202 o = zb (vSh S ty o)) ∧ (∀ f, f < 10 → zI μ 203 f = vSd S ty f) ∧ (∀ f, f < 10 → zI μ 204 f = vCn S ty f) ∧ zr (zI μ 200 3) ∧ ∀ i, i < 32 → mbit (zI μ 200 3) i = vLv S ty i
def vFr (μ μ' : zM) : Prop := zSm vC μ μ' ∧ (∀ i, zR μ' 200 i = zR μ 200 i ∧ zL μ' 200 i = zL μ 200 i) ∧ ∀ i, i ≠ 3 → zI μ' 200 i = zI μ 200 i
theorem v_show (ht : okT t) (hR : zR μ0 200 0 = t) (hS : pSc μ0 t S) (hW : wS S) (hT : ∀ f, f < 10 → mbit (zI μ0 200 1) f = ty f) : zok (f4_show μ0) (fun μ' => vShown S ty μ' ∧ vFr μ0 μ') := by
  obtain ⟨l1, l2, l3, l4, -⟩ := zl_200s
  unfold f4_show
  refine zok_lt ?_
  refine zok_x2 (fun x m => 0 ≤ x ∧ x ≤ 10 ∧ vFr μ0 m ∧ zI m 200 3 = 0 ∧ ∀ f : Nat, (f : Int) < x → zI m 203 f = -1 ∧ zI m 204 f = 0) (fun x _ => 10 - x.toNat) (fun kk x m hx ih => ?_) zFu 0 _ ⟨by omega, by omega, ⟨zSm.rf.sI (fun h => h.1 rfl), fun i => ⟨rfl, rfl⟩, fun i hi => zI_ni hi⟩, zI_eq rfl rfl, fun f hf => absurd hf (by omega)⟩ (by show 10 - 0 < 100000; omega)
  obtain ⟨h0, h1, h2, h3, h4⟩ := hx
  unfold f4_show_7
  refine zok_if (fun h => ?_) (fun h => ?_)
  · refine v_35 ht hR hS hW hT (fun m' h => ?_) ⟨h2.1, h2.2.1, h2.2.2, fun o ho => absurd ho (by omega), fun f hf => (h4 f (by omega)).1, fun f hf => by rw [(h4 f (by omega)).2]; rfl, by rw [h3]; exact ⟨by decide, by decide⟩, fun i hi => ?_⟩
    · obtain ⟨i1, i2, i3, i4, i5, i6, i7, i8⟩ := h
      exact ⟨⟨i4, i5, i6, i7, i8⟩, i1, i2, i3⟩
    · rw [h3, mbit_0]
      exact (decide_eq_false (fun ⟨o, q, _⟩ => absurd q (by omega))).symm
  · refine zok_gd ⟨h0, by rw [l3]; omega⟩ (zok_lt (zok_gd ⟨h0, by rw [l4]; omega⟩ (zok_lt (zok_gl ⟨by omega, by omega⟩ (ih _ _ ?_ (by show 10 - (x + 1).toNat < 10 - x.toNat; omega))))))
    refine ⟨by omega, by omega, ⟨(h2.1.sI (fun h => h.2.2.1 rfl)).sI (fun h => h.2.2.2 rfl), h2.2.1, fun i hi => (zI_nk (by decide)).trans ((zI_nk (by decide)).trans (h2.2.2 i hi))⟩, (zI_nk (by decide)).trans ((zI_nk (by decide)).trans h3), fun f hf => ?_⟩
    by_cases e : (f : Int) = x
    · exact ⟨(zI_nk (by decide)).trans (zI_eq rfl (by show f = x.toNat; omega)), zI_eq rfl (by show f = x.toNat; omega)⟩
    · exact ⟨(zI_nk (by decide)).trans ((zI_ni (by show f ≠ x.toNat; omega)).trans (h4 f (by omega)).1), (zI_ni (by show f ≠ x.toNat; omega)).trans ((zI_nk (by decide)).trans (h4 f (by omega)).2)⟩
end vShow
