/-! THE REFERENCE'S READER: a name, a snippet -/
def gEr (b : Nat) (μ : zM) (e : zEr) (m : zM) : Prop := zI m 292 11 = e.1 ∧ zI m 292 12 = e.2 ∧ e.1 ≠ 0 ∧ gfM b μ m
section msn
variable {b : List Int} {bb k n p q d o nn : Nat} {μ m m' : zM} {S : zSn} {st : List Nat} {v : Int} {f j c : Nat} {L : Nat → zSn} {oo : Int}
theorem gfM.s (hb : okB bb) (h1 : 11 ≤ j) (h2 : j ≤ 20) (v : Int) : gfM bb μ (zsI μ 292 j v) := (rfM.s (k := 0) (n := 0) hb h1 h2 v).g
theorem gfM.tk (hb : okB bb) (h : mTk μ m) : gfM bb μ m := (rfM.tk (k := 0) (n := 0) hb h).g
theorem gEr.fr {e : zEr} {μ0 : zM} (hf : gfM bb μ0 μ) (h : gEr bb μ e m) : gEr bb μ0 e m := ⟨h.1, h.2.1, h.2.2.1, hf.tr h.2.2.2⟩
theorem n_failG (hb : okB bb) (h : zI μ 292 11 = 0) {c : Int} (hc : c ≠ 0) (v : Int) {μ0 : zM} (hF : gfM bb μ0 μ) : zok (f7_fails c v μ) (fun r => r.1 = false ∧ gEr bb μ0 (c, v) r.2) := by
  refine zok_mono (n_fails c v h) (fun r hr => ⟨hr.1, ?_⟩)
  rw [hr.2]
  exact ⟨by rw [zI_ni (by decide), zI_eq rfl rfl], zI_eq rfl rfl, hc, (hF.tr (gfM.s hb (by decide) (by decide) c)).tr (gfM.s hb (by decide) (by decide) v)⟩
theorem fndI_ne {L : Nat → zSn} {w : List Int} {n k : Nat} (hk : k < n) (h : sNm (L k) = w) : fndI L w n ≠ -1 := by
  induction n with
  | zero => omega
  | succ n ih =>
    show (if sNm (L n) = w then ((n : Nat) : Int) else fndI L w n) ≠ -1
    by_cases c : sNm (L n) = w
    · rw [if_pos c]; omega
    · rw [if_neg c]
      exact ih (by rcases Nat.lt_or_ge k n with h2 | h2; exact h2; exact absurd (show sNm (L n) = w by rw [show n = k by omega]; exact h) c)
theorem rdLB.row (hb : okB bb) (h : rdLB b bb n L oo μ c) (hn : zI μ 292 20 = (nn : Nat)) (F : rfM bb n nn μ m) (e11 : zI m 292 11 = zI μ 292 11) (e12 : zI m 292 12 = zI μ 292 12) (e20 : zI m 292 20 = zI μ 292 20) : rdLB b bb n L oo m c := by
  obtain ⟨a1, a2, a3, a4, a5, a6, a7, a8, a9, a10⟩ := h
  exact ⟨F.kb hb a1, (F.2.1 13).trans a2, (F.2.2.2.1 0 (by decide)).trans a3, a4, (F.2.2.2.1 1 (by decide)).trans a5, a6, ⟨e11.trans a7.1, e12.trans a7.2⟩, by rw [e20]; exact a8, fun hn0 => by rw [e20, F.2.2.2.2 3 (by decide) (by decide) n (by rw [mlo_3, if_neg hn0]; omega)]; exact a9 hn0, fun k hk => (a10 k hk).lo hn (by rw [e20, hn]; exact Int.le_refl _) F.2.2.2.2 hk⟩
theorem spn_no {P : Int → Bool} (h : q < b.length → P (b.getD q 0) = false) : spn P b q = q := spn_eq (Nat.le_refl _) (fun i h1 h2 => by omega) h
theorem isLt_in (h : isLt (bt b q) = true) : q < b.length := by
  rcases Nat.lt_or_ge q b.length with h1 | h1
  · exact h1
  · rw [bt_out h1] at h; exact absurd h (by decide)
theorem lt_no (h : isLt (bt b q) = false) : spn isLt b q = q := spn_no (fun h1 => by rw [← bt_in h1]; exact h)
theorem lt_yes (hby : byB b) (h : isLt (bt b q) = true) : q < spn isLt b q ∧ tkE b q = spn isLt b q := by
  have hin := isLt_in h
  have e : tkE b q = spn isLt b q := by unfold tkE; rw [if_pos h]
  have := tkE_r hby (show q ≤ b.length by omega)
  exact ⟨by omega, e⟩
theorem n_readName (hb : okB bb) (hby : byB b) (h : rdLB b bb n L oo μ c) (hn8 : n < 8) (hp : zI μ 292 14 = (p : Nat)) (hpl : p ≤ b.length) {e : Nat} (hq : spn isBl b p = q) (he : spn isLt b q = e) : zok (f7_readName μ) (fun r => ((e = q ∨ 8 < e - q) ∧ r.1 = false ∧ gEr bb μ (1, (q : Int)) r.2) ∨ (¬ (e = q ∨ 8 < e - q) ∧ fndI L (wrd b q e) n ≠ -1 ∧ r.1 = false ∧ gEr bb μ (3, (q : Int)) r.2) ∨ (¬ (e = q ∨ 8 < e - q) ∧ fndI L (wrd b q e) n = -1 ∧ r.1 = true ∧ rdLB b bb n L oo r.2 c ∧ zI r.2 (bb + 2) n = (wrd b q e).length ∧ (∀ i, i < (wrd b q e).length → zI r.2 (bb + 1) (8 * n + i) = (wrd b q e).getD i 0) ∧ zI r.2 292 14 = (e : Nat) ∧ gfM bb μ r.2)) := by
  have h7 := hby.1
  have hql : q ≤ b.length := by rw [← hq]; exact spn_le isBl hpl
  have hel : e ≤ b.length := by rw [← he]; exact spn_le isLt hql
  have hqe : q ≤ e := by rw [← he]; exact spn_ge isLt b q
  have hr := tkE_r hby hql
  obtain ⟨z1, z2, -⟩ := okB_f hb
  unfold f7_readName
  refine zok_cm (n_token2 hb hby h hp hpl) (fun m1 hm1 => ?_)
  obtain ⟨t1, g1, x15, x17, x14, x16⟩ := hm1
  rw [hq] at x15 x17 x14 x16
  have F1 : gfM bb μ m1 := gfM.tk hb t1
  have h11 := g1.2.2.2.2.2.2.1.1
  rw [x15, x16, x17]
  refine zok_gl ⟨by omega, by omega⟩ ?_
  have bad : (e = q ∨ 8 < e - q) → zok (f7_readName_27 m1) (fun r => ((e = q ∨ 8 < e - q) ∧ r.1 = false ∧ gEr bb μ (1, (q : Int)) r.2) ∨ (¬ (e = q ∨ 8 < e - q) ∧ fndI L (wrd b q e) n ≠ -1 ∧ r.1 = false ∧ gEr bb μ (3, (q : Int)) r.2) ∨ (¬ (e = q ∨ 8 < e - q) ∧ fndI L (wrd b q e) n = -1 ∧ r.1 = true ∧ rdLB b bb n L oo r.2 c ∧ zI r.2 (bb + 2) n = (wrd b q e).length ∧ (∀ i, i < (wrd b q e).length → zI r.2 (bb + 1) (8 * n + i) = (wrd b q e).getD i 0) ∧ zI r.2 292 14 = (e : Nat) ∧ gfM bb μ r.2)) := fun c => by
    unfold f7_readName_27
    rw [x15]
    exact zok_cl (n_failG hb h11 (by decide) _ F1) (fun x m hx => zok_some (Or.inl ⟨c, hx⟩))
  cases hl : isLt (bt b q) with
  | false => exact zok_t rfl (bad (Or.inl (by rw [← he]; exact lt_no hl)))
  | true =>
    obtain ⟨y1, y2⟩ := lt_yes hby hl
    rw [he] at y1 y2
    rw [y2]
    refine zok_f (by decide) (zok_if (fun c8 => ?_) (fun c8 => bad (Or.inr (by omega))))
    have hok : ¬ (e = q ∨ 8 < e - q) := by omega
    have hwl : (wrd b q e).length = e - q := wrd_len hqe hel
    have hwg : ∀ i, i < (wrd b q e).length → (wrd b q e).getD i 0 = b.getD (q + i) 0 := fun i hi => wrd_get (by omega)
    have ev : (e : Int) - (q : Int) = (wrd b q e).length := by rw [hwl]; omega
    rw [ev]
    have hw0 : 1 ≤ (wrd b q e).length := by omega
    have hw8 : (wrd b q e).length ≤ 8 := by omega
    have hb313 : ∀ i, i < (wrd b q e).length → zI m1 313 (q + i) = (wrd b q e).getD i 0 := fun i hi => by rw [hwg i hi]; exact g1.1.2 (q + i) (by omega)
    have hqw : q + (wrd b q e).length = e := by omega
    generalize wrd b q e = w at *
    refine zok_x3 (fun (x1 x2 : Int) m => x1 = (w.length : Int) ∧ m = m1 ∧ ∃ j : Nat, x2 = j ∧ j ≤ n ∧ ∀ i, i < j → sNm (L i) ≠ w) (fun _ x2 _ => n - x2.toNat) (fun kk x1 x2 m hx ih => ?_) zFu _ 0 m1 ⟨rfl, rfl, 0, rfl, Nat.zero_le _, fun i hi => absurd hi (Nat.not_lt_zero i)⟩ (by show n - 0 < 100000; omega)
    obtain ⟨rfl, rfl, j, rfl, j1, j2⟩ := hx
    obtain ⟨g2, g3, g4, -, -, -, -, g8, -, g10⟩ := g1
    unfold f7_readName_39
    rw [g3, g4, z2, x15]
    refine zok_if (fun c9 => ?_) (fun c9 => ?_)
    · refine zok_gd ⟨by omega, by omega⟩ (zok_lt ?_)
      rw [zx_nat]
      obtain ⟨nn, hn⟩ : ∃ nn : Nat, zI m 292 20 = nn := ⟨(zI m 292 20).toNat, by omega⟩
      have hfn : fndI L w n = -1 := fndI_no (fun k hk => j2 k (by omega))
      have F2 : rfM bb n nn m (zsI m (bb + 2) n (w.length : Int)) := rfM.row hb (by decide) (by decide) (by rw [mlo_2]; omega) _
      have e2 : zI (zsI m (bb + 2) n (w.length : Int)) (bb + 2) n = w.length := zI_eq rfl rfl
      have e292 : ∀ i, zI (zsI m (bb + 2) n (w.length : Int)) 292 i = zI m 292 i := fun i => zI_nk (fun e => (b_ne hb (show 2 ≤ 13 by decide)).1 e.symm)
      have e313 : ∀ i, zI (zsI m (bb + 2) n (w.length : Int)) 313 i = zI m 313 i := fun i => zI_nk (fun e => (b_ne hb (show 2 ≤ 13 by decide)).2.1 e.symm)
      generalize zsI m (bb + 2) n (w.length : Int) = m3 at *
      refine zok_x3 (fun (x1 x2 : Int) m' => x1 = (w.length : Int) ∧ ∃ i : Nat, x2 = i ∧ i ≤ w.length ∧ rfM bb n nn m m' ∧ zSm (fun c => c ≠ bb + 1) m3 m' ∧ ∀ y, y < i → zI m' (bb + 1) (8 * n + y) = w.getD y 0) (fun _ x2 _ => 9 - x2.toNat) (fun k2 x1 x2 m' hx ih2 => ?_) zFu _ 0 m3 ⟨rfl, 0, rfl, Nat.zero_le _, F2, zSm.rf, fun y hy => absurd hy (Nat.not_lt_zero y)⟩ (by show 9 - 0 < 100000; decide)
      obtain ⟨rfl, i, rfl, i1, i2, i3, i4⟩ := hx
      have hne1 := b_ne hb (show 1 ≤ 13 by decide)
      have o292 : ∀ i, zI m' 292 i = zI m 292 i := fun i => ((i3 292 (fun e => hne1.1 e.symm) i).1).trans (e292 i)
      unfold f7_readName_101
      rw [(i2.2.1 13).trans g3, (i2.2.2.2.1 0 (by decide)).trans g4, o292, x15, z1, zl_m.2.2.2.2.2.2.1]
      refine zok_if (fun c7 => zok_some (Or.inr (Or.inr ⟨hok, hfn, rfl, ?_, ((i3 (bb + 2) (by omega) n).1).trans e2, fun y hy => i4 y (by omega), ?_, F1.tr i2.g⟩))) (fun c7 => ?_)
      · exact (h.tk hb t1).row hb hn i2 (o292 11) (o292 12) (o292 20)
      · rw [o292, x14, y2]
      · refine zok_gl ⟨by omega, by omega⟩ (zok_gl ⟨by omega, by omega⟩ (zok_gl ⟨by omega, by omega⟩ (zok_gd ⟨by omega, by omega⟩ (zok_gd ⟨by omega, by omega⟩ (zok_lt ?_)))))
        rw [show zx (8 * ((n : Nat) : Int) + ((i : Nat) : Int)) = 8 * n + i from by show (_ : Int).toNat = _; omega, show zx (((q : Nat) : Int) + ((i : Nat) : Int)) = q + i from by show (_ : Int).toNat = _; omega, (i3 313 (fun e => hne1.2.1 e.symm) _).1, e313, hb313 i (by omega)]
        refine zok_gl ⟨by omega, by omega⟩ (ih2 _ _ _ ⟨rfl, i + 1, by omega, by omega, i2.tr (rfM.row (j := 1) hb (by decide) (by decide) (by rw [mlo_1]; omega) _), i3.sI (fun h => h rfl), fun y hy => ?_⟩ (by show 9 - ((i : Int) + 1).toNat < 9 - (i : Int).toNat; omega))
        by_cases ey : y = i
        · rw [ey, zI_eq rfl rfl]
        · rw [zI_ni (by omega)]; exact i4 y (by omega)
    · have hj := g10 j (by omega)
      refine zok_co (n_isName hb (by omega) hj.1 hj.2.1 hb313 (by omega)) (fun r er => ?_)
      subst er
      by_cases cw : sNm (L j) = w
      · rw [decide_eq_true cw]
        exact zok_f (by decide) (zok_cl (n_failG hb h11 (by decide) _ F1) (fun x m hx => zok_some (Or.inr (Or.inl ⟨hok, fndI_ne (show j < n by omega) cw, hx⟩))))
      · rw [decide_eq_false cw]
        refine zok_t rfl (zok_gl ⟨by omega, by omega⟩ (ih _ _ _ ⟨rfl, rfl, j + 1, by omega, by omega, fun i hi => ?_⟩ (by show n - ((j : Int) + 1).toNat < n - (j : Int).toNat; omega)))
        by_cases ei : i = j
        · rw [ei]; exact cw
        · exact j2 i (by omega)
theorem n_readSnippet (hb : okB bb) (hby : byB b) (h : rdLB b bb n L oo μ q) (ht : rdTk b μ q) (hq : q < b.length) (hw : wrd b q (spn isLt b q) = wSnip) : zok (f7_readSnippet μ) (fun r => (∃ e, r.1 = false ∧ gEr bb μ e r.2 ∧ lRd b (q, n, L, oo) (.inl e)) ∨ (∃ p' S nm q', hdOf b q n L = .inr (q', nm) ∧ bRd b (q', nwS nm, []) (.inr (p', S)) ∧ r.1 = true ∧ rdLB b bb (n + 1) (updS L n S) oo r.2 p' ∧ zI r.2 292 14 = (p' : Nat) ∧ p' ≤ b.length ∧ gfM bb μ r.2)) := by
  have h7 := hby.1
  obtain ⟨-, -, z3, -, z5, -, -, -, -, -, -, -, z13⟩ := okB_f hb
  have bn : ∀ j, j ≤ 13 → 292 ≠ bb + j := fun j hj e => (b_ne hb hj).1 e.symm
  have hlt : isLt (bt b q) = true := by
    cases e : isLt (bt b q) with
    | true => rfl
    | false =>
      rw [lt_no e] at hw
      unfold wrd at hw
      rw [show q - q = 0 by omega, List.take_zero] at hw
      exact absurd hw (by decide)
  obtain ⟨y1, y2⟩ := lt_yes hby hlt
  have hel : spn isLt b q ≤ b.length := spn_le isLt (by omega)
  obtain ⟨x15, x17, x14, x16⟩ := ht
  rw [y2] at x14 x16
  have a3 := h.2.2.1
  have a2 := h.2.1
  have an := h.2.2.2.1
  have h11 := h.2.2.2.2.2.2.1.1
  unfold f7_readSnippet
  rw [a2, a3, x15]
  refine zok_if (fun c8 => ?_) (fun c8 => ?_)
  · have es : hdOf b q n L = .inl (5, (q : Int)) := by unfold hdOf; rw [if_pos (by omega)]
    exact zok_cl (n_failG hb h11 (by decide) _ gfM.rf) (fun x m hx => zok_some (Or.inl ⟨_, hx.1, hx.2, lRd.headE hq hw es⟩))
  · obtain ⟨e0, he0⟩ : ∃ e0, spn isLt b q = e0 := ⟨_, rfl⟩
    obtain ⟨q1, hq1⟩ : ∃ q1, spn isBl b e0 = q1 := ⟨_, rfl⟩
    obtain ⟨e1, he1⟩ : ∃ e1, spn isLt b q1 = e1 := ⟨_, rfl⟩
    rw [he0] at x14 hel y1
    have hq1l : q1 ≤ b.length := by rw [← hq1]; exact spn_le isBl hel
    have he1l : e1 ≤ b.length := by rw [← he1]; exact spn_le isLt hq1l
    have eh : hdOf b q n L = if e1 = q1 ∨ 8 < e1 - q1 then .inl (1, (q1 : Int)) else if fndI L (wrd b q1 e1) n ≠ -1 then .inl (3, (q1 : Int)) else if bt b (spn isBl b e1) = 123 then .inr (spn isBl b e1 + 1, wrd b q1 e1) else .inl (1, ((spn isBl b e1 : Nat) : Int)) := by
      unfold hdOf
      rw [if_neg (by omega), he0]
      simp only
      rw [hq1, he1]
    refine zok_cl (n_readName hb hby h (by omega) x14 hel hq1 he1) (fun x m1 hx => ?_)
    rcases hx with ⟨d1, d2, d3⟩ | ⟨d1, d2, d3, d4⟩ | ⟨d1, d2, d3, d4, d5, d6, d7, d8⟩
    · rw [if_pos d1] at eh
      have d2' : x = false := d2
      rw [d2']
      exact zok_t rfl (zok_some (Or.inl ⟨_, rfl, d3, lRd.headE hq hw eh⟩))
    · rw [if_neg d1, if_pos d2] at eh
      have d3' : x = false := d3
      rw [d3']
      exact zok_t rfl (zok_some (Or.inl ⟨_, rfl, d4, lRd.headE hq hw eh⟩))
    · rw [if_neg d1, if_neg (fun h => h d2)] at eh
      have d3' : x = true := d3
      rw [d3']
      obtain ⟨q2, hq2⟩ : ∃ q2, spn isBl b e1 = q2 := ⟨_, rfl⟩
      rw [hq2] at eh
      have hq2l : q2 ≤ b.length := by rw [← hq2]; exact spn_le isBl he1l
      have hq12 : q ≤ q2 := by
        have i1 := spn_ge isBl b e0
        have i2 := spn_ge isLt b q1
        have i3 := spn_ge isBl b e1
        omega
      refine zok_f (by decide) (zok_cm (n_token2 hb hby d4 d7 he1l) (fun m2 hm2 => ?_))
      obtain ⟨t2, g2, u15, u17, u14, u16⟩ := hm2
      rw [hq2] at u15 u17 u14 u16
      have F2 : gfM bb μ m2 := d8.tr (gfM.tk hb t2)
      refine zok_co (n_isSign hby g2.1 u15 u17 123) (fun r er => ?_)
      subst er
      by_cases cb : bt b q2 = 123
      · have hlf : isLt (bt b q2) = false := by rw [cb]; decide
        have hin : q2 < b.length := by
          rcases bt_r hby q2 with ⟨a, -⟩ | ⟨-, -, a⟩
          · omega
          · exact a
        have htk2 : tkE b q2 = q2 + 1 := by unfold tkE; rw [hlf, if_neg (by decide), if_neg (by omega)]
        rw [htk2] at u14
        rw [if_pos cb] at eh
        rw [hlf, decide_eq_true cb]
        -- the name's rows are as they were
        have hw2 : zI m2 (bb + 2) n = (wrd b q1 e1).length := ((t2.1 (bb + 2) (fun e => bn 2 (by decide) e.symm) n).1).trans d5
        have hw1 : ∀ i, i < (wrd b q1 e1).length → zI m2 (bb + 1) (8 * n + i) = (wrd b q1 e1).getD i 0 := fun i hi => ((t2.1 (bb + 1) (fun e => bn 1 (by decide) e.symm) _).1).trans (d6 i hi)
        have hwl : (wrd b q1 e1).length = e1 - q1 := wrd_len (by rw [← he1]; exact spn_ge isLt b q1) he1l
        have hwv : ∀ i, i < (wrd b q1 e1).length → 97 ≤ (wrd b q1 e1).getD i 0 ∧ (wrd b q1 e1).getD i 0 ≤ 122 := fun i hi => by rw [wrd_get (by omega)]; exact spn_all he1 (by omega)
        have hwr : 1 ≤ (wrd b q1 e1).length ∧ (wrd b q1 e1).length ≤ 8 := by
          have := spn_ge isLt b q1
          omega
        generalize wrd b q1 e1 = w at *
        obtain ⟨g21, g22, g23, g24, g25, g26, g27, g28, g29, g2a⟩ := g2
        obtain ⟨nn, hn⟩ : ∃ nn : Nat, zI m2 292 20 = nn := ⟨(zI m2 292 20).toNat, by omega⟩
        have G2 : rdLB b bb n L oo m2 q := ⟨g21, g22, g23, g24, g25, g26, g27, g28, g29, g2a⟩
        refine zok_f (by decide) ?_
        rw [g22, g23, z5]
        refine zok_gd ⟨by omega, by omega⟩ (zok_lt ?_)
        rw [zx_nat]
        have F3 : rfM bb n nn m2 (zsI m2 (bb + 5) n 0) := rfM.row (j := 5) hb (by decide) (by decide) (by rw [mlo_5]; omega) 0
        refine zok_x2 (fun (x1 : Int) m' => ∃ i : Nat, x1 = i ∧ i ≤ 10 ∧ rfM bb n nn m2 m' ∧ zSm (fun c => c ≠ bb + 13) (zsI m2 (bb + 5) n 0) m' ∧ ∀ y, y < i → zI m' (bb + 13) (10 * n + y) = 0) (fun x1 _ => 11 - x1.toNat) (fun kk x1 m' hx ih => ?_) zFu 0 _ ⟨0, rfl, Nat.zero_le _, F3, zSm.rf, fun y hy => absurd hy (Nat.not_lt_zero y)⟩ (by show 11 - 0 < 100000; decide)
        obtain ⟨i, rfl, i1, i2, i3, i4⟩ := hx
        have o3 : ∀ c, c ≠ bb + 13 → c ≠ bb + 5 → ∀ i, zI m' c i = zI m2 c i := fun c c1 c2 i => ((i3 c c1 i).1).trans (zI_nk c2)
        have o292 := o3 292 (bn 13 (by decide)) (bn 5 (by decide))
        have r13 : zR m' 292 13 = bb := (i2.2.1 13).trans g22
        have r0 : zI m' bb 0 = (n : Nat) := (i2.2.2.2.1 0 (by decide)).trans g23
        unfold f7_readSnippet_72
        rw [r13, r0, z3, z13, o292, hn]
        refine zok_if (fun c9 => ?_) (fun c9 => ?_)
        · refine zok_gd ⟨by omega, by omega⟩ (zok_lt ?_)
          rw [zx_nat]
          have e3 : ∀ c i, (c ≠ bb + 3 ∨ i ≠ n) → zI (zsI m' (bb + 3) n (nn : Nat)) c i = zI m' c i := fun c i h => zI_of h
          have e33 : zI (zsI m' (bb + 3) n (nn : Nat)) (bb + 3) n = (nn : Nat) := zI_eq rfl rfl
          have F6 : rfM bb n nn m2 (zsI m' (bb + 3) n (nn : Nat)) := by
            refine ⟨i2.1.sI (fun h => by have := h.2.2; omega), i2.2.1, fun i hi => (zI_nk (bn 3 (by decide))).trans (i2.2.2.1 i hi), fun i hi => (zI_nk (by omega)).trans (i2.2.2.2.1 i hi), fun j j1 j2 i hi => ?_⟩
            by_cases ej : j = 3
            · subst ej
              rw [mlo_3] at hi
              by_cases en : i = n
              · subst en
                have hn0 : i ≠ 0 := fun e => by rw [if_pos e] at hi; omega
                rw [e33, g29 hn0, hn]
              · rw [zI_ni en]; exact i2.2.2.2.2 3 (by decide) (by decide) i (by rw [mlo_3]; exact hi)
            · rw [zI_nk (by omega)]; exact i2.2.2.2.2 j j1 j2 i hi
          have r6 : ∀ c i, zR (zsI m' (bb + 3) n (nn : Nat)) c i = zR m' c i := fun _ _ => rfl
          generalize hm6 : zsI m' (bb + 3) n (nn : Nat) = m6 at *
          have o6 : ∀ i, zI m6 292 i = zI m2 292 i := fun i => (e3 292 i (Or.inl (bn 3 (by decide)))).trans (o292 i)
          have F7 : rfM bb n nn m2 (zsI m6 292 19 0) := F6.tr (rfM.s hb (by decide) (by decide) 0)
          have o7 : ∀ i, i ≠ 19 → zI (zsI m6 292 19 0) 292 i = zI m2 292 i := fun i hi => (zI_ni hi).trans (o6 i)
          have o7b : ∀ j, j ≤ 13 → ∀ i, zI (zsI m6 292 19 0) (bb + j) i = zI m6 (bb + j) i := fun j hj i => zI_nk (fun e => bn j hj e.symm)
          have c7 : mC (zsI m6 292 19 0) bb n (nwS w) [] := by
            refine mC.nw ?_ (fun y hy => ?_) ?_ (fun f hf => ?_) ?_ ?_ (zI_eq rfl rfl)
            · rw [o7b 2 (by decide), e3 _ _ (Or.inl (by omega)), o3 _ (by omega) (by omega)]; exact hw2
            · rw [o7b 1 (by decide), e3 _ _ (Or.inl (by omega)), o3 _ (by omega) (by omega)]; exact hw1 y hy
            · rw [o7b 5 (by decide), e3 _ _ (Or.inl (by omega)), (i3 _ (by omega) _).1, zI_eq rfl rfl]
            · rw [o7b 13 (by decide), e3 _ _ (Or.inl (by omega))]; exact i4 f (by omega)
            · rw [o7b 3 (by decide), e33, o7 20 (by decide), hn]
            · rw [o7 20 (by decide), hn]; omega
          have R7 : rdM b bb n nn (zsI m6 292 19 0) (q2 + 1) (nwS w) [] := ⟨F7.kb hb g21, (F7.2.1 13).trans g22, (o7 14 (by decide)).trans u14, (F7.2.2.2.1 0 (by decide)).trans g23, ⟨(o7 11 (by decide)).trans g27.1, (o7 12 (by decide)).trans g27.2⟩, c7, by rw [o7 20 (by decide), hn]; omega, wBu.nw hwr.1 hwr.2 hwv _, by omega⟩
          refine zok_cl (n_readBody hb (by omega) hby R7) (fun x m7 hx => ?_)
          rcases hx with ⟨e, b1, b2, b3⟩ | ⟨p', S', b1, b2, b3, b4⟩
          · have b2' : x = false := b2
            rw [b2']
            exact zok_t rfl (zok_some (Or.inl ⟨e, rfl, ⟨b3.1, b3.2.1, b3.2.2.1, F2.tr (F6.g.tr b3.2.2.2.g)⟩, lRd.bodyE hq hw eh b1⟩))
          · have b2' : x = true := b2
            rw [b2']
            obtain ⟨v1, v2, v3, v4, v5, v6, v7, v8, v9⟩ := b3
            have v7 : (nn : Int) ≤ zI m7 292 20 ∧ zI m7 292 20 ≤ p' := v7
            refine zok_f (by decide) ?_
            rw [v2, v4]
            refine zok_gl ⟨by omega, by omega⟩ (zok_lt ?_)
            have r1 : ∀ (μ : zM) (k i : Nat) (v : Int), zR (zsI μ k i v) 292 13 = zR μ 292 13 := fun _ _ _ _ => rfl
            simp only [r1, v2]
            rw [zI_eq (a := bb) (b := 0) rfl rfl, z3, zI_nk (show 292 ≠ bb from bn 0 (by decide)), show zx (((n : Nat) : Int) + 1) = n + 1 from by show (_ : Int).toNat = _; omega]
            refine zok_gd ⟨by omega, by omega⟩ (zok_lt (zok_some (Or.inr ⟨p', S', w, q2 + 1, eh, b1, rfl, ?_, ?_, v9, ?_⟩)))
            · have hfin := v6.fin (v := (n : Int) + 1) hb v8.1
              have F8 : rfM bb n nn m2 m7 := F6.tr b4
              have FR : rowF bb n nn m2 (zsI (zsI m7 bb 0 ((n : Int) + 1)) (bb + 3) (n + 1) (zI m7 292 20)) := fun j j1 j2 i hi => by
                rw [zI_of (by by_cases ej : j = 3; subst ej; rw [mlo_3] at hi; exact Or.inr (by split at hi <;> omega); exact Or.inl (by omega)), zI_nk (by omega)]
                exact F8.2.2.2.2 j j1 j2 i hi
              have e8 : ∀ i, zI (zsI (zsI m7 bb 0 ((n : Int) + 1)) (bb + 3) (n + 1) (zI m7 292 20)) 292 i = zI m7 292 i := fun i => by rw [zI_nk (bn 3 (by decide)), zI_nk (show 292 ≠ bb from bn 0 (by decide))]
              have eK : ∀ i, zI (zsI (zsI m7 bb 0 ((n : Int) + 1)) (bb + 3) (n + 1) (zI m7 292 20)) 313 i = zI m7 313 i := fun i => by rw [zI_nk (fun e => (b_ne hb (show 3 ≤ 13 by decide)).2.1 e.symm), zI_nk (show 313 ≠ bb from fun e => (b_ne hb (show 0 ≤ 13 by decide)).2.1 e.symm)]
              refine ⟨⟨(e8 10).trans v1.1, fun i hi => (eK i).trans (v1.2 i hi)⟩, v2, ?_, by omega, ?_, g26, ⟨(e8 11).trans v5.1, (e8 12).trans v5.2⟩, by rw [e8]; omega, fun _ => ?_, fun k hk => ?_⟩
              · rw [zI_nk (show bb ≠ bb + 3 by omega), zI_eq rfl rfl]; omega
              · rw [zI_nk (show bb ≠ bb + 3 by omega), zI_ni (by decide)]; exact (F8.2.2.2.1 1 (by decide)).trans g25
              · rw [zI_eq rfl rfl, e8]
              · unfold updS
                by_cases ek : k = n
                · rw [if_pos ek, ek]; exact hfin
                · rw [if_neg ek]
                  exact (g2a k (by omega)).lo hn (by rw [e8]; exact v7.1) FR (by omega)
            · rw [zI_nk (bn 3 (by decide)), zI_nk (show 292 ≠ bb from bn 0 (by decide))]; exact v3
            · refine F2.tr ((F6.tr b4).g.tr ⟨(zSm.rf.sI (fun h => by have := h.2.2; omega)).sI (fun h => by have := h.2.2; omega), fun _ => rfl, fun i _ => ?_⟩)
              rw [zI_nk (bn 3 (by decide)), zI_nk (show 292 ≠ bb from bn 0 (by decide))]
        · refine zok_gl ⟨by omega, by omega⟩ (zok_gl ⟨by omega, by omega⟩ (zok_gd ⟨by omega, by omega⟩ (zok_lt ?_)))
          rw [show zx (10 * ((n : Nat) : Int) + ((i : Nat) : Int)) = 10 * n + i from by show (_ : Int).toNat = _; omega]
          refine zok_gl ⟨by omega, by omega⟩ (ih _ _ ⟨i + 1, by omega, by omega, i2.tr (rfM.row (j := 13) hb (by decide) (by decide) (by rw [mlo_13]; omega) 0), i3.sI (fun h => h rfl), fun y hy => ?_⟩ (by show 11 - ((i : Int) + 1).toNat < 11 - (i : Int).toNat; omega))
          by_cases ey : y = i
          · rw [ey, zI_eq rfl rfl]
          · rw [zI_ni (by omega)]; exact i4 y (by omega)
      · rw [if_neg cb] at eh
        rw [decide_eq_false cb, Bool.and_false, u15]
        exact zok_t rfl (zok_cl (n_failG hb g2.2.2.2.2.2.2.1.1 (by decide) _ F2) (fun x m hx => zok_some (Or.inl ⟨_, hx.1, hx.2, lRd.headE hq hw eh⟩)))
end msn
