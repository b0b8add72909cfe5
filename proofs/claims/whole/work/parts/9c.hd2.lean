/-! THE CLASS'S READER: the head of a snippet, 2 -/
theorem zok_and {α : Type} {e : Option α} {P Q : α → Prop} (h : zok e P) (k : zok e Q) : zok e (fun a => P a ∧ Q a) := by
  obtain ⟨a, e1, p⟩ := h
  obtain ⟨a', e2, q⟩ := k
  rw [e1] at e2
  cases e2
  exact ⟨a, e1, p, q⟩
theorem lib_it : ∀ k, k < 8 → zit (7 + 4 + 11 * k) = 9 ∧ zit (101 + 4 + 11 * k) = 103 := by decide +kernel
theorem lib_f {u k : Nat} (hu : u = 7 ∨ u = 101) (hk : k < 8) : okT (u + 4 + 11 * k) ∧ zit (u + 4 + 11 * k) = u + 2 := by
  refine ⟨okT_k hu hk, ?_⟩
  rcases hu with rfl | rfl
  · exact (lib_it k hk).1
  · exact (lib_it k hk).2
/-- the snippets that are read -/
def rdN (u c n : Nat) (L : Nat → zSn) (μ : zM) : Prop := (∀ k, k < n → pC μ (u + 4 + 11 * k) (L k) [] ∧ wS (L k) ∧ zI μ (u + 4 + 11 * k) 16 ≤ c) ∧ (n = 0 → c = 0) ∧ (0 < n → zI μ (u + 4 + 11 * (n - 1)) 16 = c) ∧ ∀ i j, i < j → j < n → sNm (L i) ≠ sNm (L j)
def rdL (b : List Int) (u c n : Nat) (L : Nat → zSn) (o : Int) (μ : zM) (p : Nat) : Prop := rdK b μ p ∧ p ≤ b.length ∧ zR μ 99 3 = u ∧ zI μ u 1 = n ∧ n ≤ 8 ∧ zI μ u 2 = o ∧ (o = 0 ∨ o = 1) ∧ zI μ 99 6 = 0 ∧ zI μ 99 7 = -1 ∧ rdN u c n L μ ∧ c ≤ p
def rdG (u : Nat) (μ m : zM) : Prop := zSm (fun c => c ≠ 99 ∧ (c < u ∨ u + 91 < c)) μ m ∧ zR m 99 3 = zR μ 99 3
theorem rdG.rf {u : Nat} {μ : zM} : rdG u μ μ := ⟨zSm.rf, rfl⟩
theorem rdG.tr {u : Nat} {μ m m' : zM} (h : rdG u μ m) (h' : rdG u m m') : rdG u μ m' := ⟨h.1.tr h'.1, h'.2.trans h.2⟩
theorem rdP.g {u : Nat} {μ m : zM} (h : rdP μ m) : rdG u μ m := ⟨h.1.mono (fun c hc => hc.1), h.2.1 3⟩
def lEr (b : List Int) (u : Nat) (μ : zM) (e : zEr) (m : zM) : Prop := zI m 99 6 = e.1 ∧ zI m 99 7 = e.2 ∧ e.1 ≠ 0 ∧ (∃ q, q ≤ 1000 ∧ rdK b m q) ∧ rdG u μ m
section hd2
variable {b : List Int} {p q c n u t : Nat} {L : Nat → zSn} {o : Int} {μ m : zM}
theorem c_failL (hK : rdK b m q) (hq : q ≤ 1000) (hG : rdG u μ m) {k v : Int} (hk : k ≠ 0) : zok (f1_fail k v m) (lEr b u μ (k, v)) := by
  unfold f1_fail
  refine zok_lt (zok_lt (zok_some ⟨by rw [zI_ni (by decide), zI_eq rfl rfl], zI_eq rfl rfl, hk, ⟨q, hq, hK.1, ?_, ?_, fun i hi => ?_⟩, hG.tr ⟨(zSm.rf.sI (fun h => h.1 rfl)).sI (fun h => h.1 rfl), rfl⟩⟩))
  · rw [zI_ni (by decide), zI_ni (by decide)]; exact hK.2.1
  · rw [zI_ni (by decide), zI_ni (by decide)]; exact hK.2.2.1
  · rw [zI_nk (by decide), zI_nk (by decide)]; exact hK.2.2.2 i hi
/-- the snippets that are read stay, where only the next one and the place are written -/
theorem rdN.keep (hu : u = 7 ∨ u = 101) (hn : n ≤ 8) (h : rdN u c n L μ) (hs : zSm (fun c => c ≠ 99 ∧ (c < u + 4 + 11 * n ∨ u + 4 + 11 * n + 10 < c) ∧ c ≠ u + 2 ∧ c ≠ u + 3) μ m) (hi : ∀ i, i < c → zI m (u + 2) i = zI μ (u + 2) i ∧ zI m (u + 3) i = zI μ (u + 3) i) : rdN u c n L m := by
  obtain ⟨h1, h2, h3, h4⟩ := h
  have e : ∀ k, k < n → ∀ c, u + 4 + 11 * k ≤ c → c ≤ u + 4 + 11 * k + 10 → ∀ i, zI m c i = zI μ c i := fun k hk c c1 c2 i => (hs c (by omega) i).1
  refine ⟨fun k hk => ?_, h2, fun hn0 => ?_, h4⟩
  · obtain ⟨a1, a2, a3⟩ := h1 k hk
    have e16 := e k hk (u + 4 + 11 * k) (by omega) (by omega) 16
    refine ⟨a1.lo (fun c c1 c2 i => e k hk c c1 c2 i) (fun i hi' => ?_), a2, by rw [e16]; exact a3⟩
    have hp := a1.2.2.2.2.2.2.1
    rw [(lib_f hu (by omega)).2]
    exact hi i (by omega)
  · rw [e (n - 1) (by omega) _ (Nat.le_refl _) (by omega)]; exact h3 hn0
theorem c_144 (hu : u = 7 ∨ u = 101) (hb : byB b) (hn : n < 8) (hK : rdK b μ q) (h3 : zR μ 99 3 = u) (h4 : zR μ 99 4 = u + 4 + 11 * n) (h6 : zI μ 99 6 = 0) (hc : c ≤ p) {e : Nat} (hpq : p ≤ q) (hqe : q < e) (he8 : e - q ≤ 8) (he : e = spn isLt b q) (hel : e ≤ b.length) (a1 : Int) : zok (f1_readHead_144 a1 ((e - q : Nat) : Int) (c : Int) (u + 4 + 11 * n) μ) (fun m => zSm (fun c => c ≠ 99 ∧ (c < u + 4 + 11 * n ∨ u + 4 + 11 * n + 10 < c)) μ m ∧ zR m 99 3 = u ∧ zI m 99 1 = zI μ 99 1 ∧ ((bt b (spn isBl b e) = 123 ∧ zI m 99 7 = zI μ 99 7 ∧ rdK b m (spn isBl b e + 1) ∧ spn isBl b e + 1 ≤ b.length ∧ zR m 99 4 = u + 4 + 11 * n ∧ zI m 99 6 = 0 ∧ pC m (u + 4 + 11 * n) (nwS (wrd b q e)) [] ∧ zI m (u + 4 + 11 * n) 16 = c) ∨ (bt b (spn isBl b e) ≠ 123 ∧ lEr b u μ (1, ((spn isBl b e : Nat) : Int)) m))) := by
  obtain ⟨ht, hit⟩ := lib_f hu hn
  have h7 := hb.1
  have q5 := okT_5 _ ht.2 ht.1
  have q17 := okT_4 _ ht.2 ht.1
  obtain ⟨q1, q2, -⟩ := ht.f
  have hl := wrd_len (b := b) (p := q) (e := e) (by omega) hel
  generalize hT : u + 4 + 11 * n = t at *
  unfold f1_readHead_144
  refine zok_cm (c_clear ht ⟨by omega, by omega⟩) (fun m1 h1 => ?_)
  obtain ⟨x1, x2, x3, x4, x5, x6, x7⟩ := h1
  have e99 : ∀ i, zI m1 99 i = zI μ 99 i := fun i => (x1 99 (by omega) i).1
  have r99 : ∀ i, zR m1 99 i = zR μ 99 i := fun i => (x1 99 (by omega) i).2.2
  rw [r99, r99, h4, hK.1, e99, hK.2.2.1]
  refine zok_cm (c_setName ht (a := q) (k := e - q) he8 (by rw [zln_c.1]; omega) (by rw [zln_c.1]; decide) ⟨by omega, by omega⟩) (fun m2 h2 => ?_)
  obtain ⟨y1, y2, y3, y4⟩ := h2
  have f99 : ∀ i, zI m2 99 i = zI μ 99 i := fun i => ((y1 99 (by omega) i).1).trans (e99 i)
  have s99 : ∀ i, zR m2 99 i = zR μ 99 i := fun i => ((y1 99 (by omega) i).2.2).trans (r99 i)
  have b2 : ∀ i, zI m2 2 i = zI μ 2 i := fun i => ((y1 2 (by omega) i).1).trans (x1 2 (by omega) i).1
  rw [f99, hK.2.2.1]
  refine zok_gl ⟨by omega, by omega⟩ (zok_lt ?_)
  have K2 : rdK b m2 q := ⟨(s99 0).trans hK.1, (f99 1).trans hK.2.1, (f99 2).trans hK.2.2.1, fun i hi => (b2 i).trans (hK.2.2.2 i hi)⟩
  refine zok_cm (c_skip hb (K2.set (q := e) (v := (q : Int) + ((e - q : Nat) : Int)) (by omega)) (by omega)) (fun m3 h3' => ?_)
  obtain ⟨K3, P3⟩ := h3'
  have P3' : rdP m2 m3 := (rdP.set _).tr P3
  have hsl := spn_le isBl (b := b) (p := e) hel
  have F3 : zSm (fun c => c ≠ 99 ∧ (c < t ∨ t + 10 < c)) μ m3 := ((x1.mono (fun c hc => by omega)).tr (y1.mono (fun c hc => by omega))).tr (P3'.1.mono (fun c hc => hc.1))
  have g3 : ∀ i, i ≠ 2 → zI m3 99 i = zI μ 99 i := fun i hi => (P3'.2.2 i hi).trans (f99 i)
  have t3 : ∀ c i, c ≠ 99 → zI m3 c i = zI m2 c i := fun c i hc => (P3'.1 c hc i).1
  have R3 : ∀ i, zR m3 99 i = zR μ 99 i := fun i => (P3'.2.1 i).trans (s99 i)
  refine zok_co (c_isAt hb K3 (by decide)) (fun r er => ?_)
  subst er
  rw [K3.2.2.1]
  by_cases c1 : bt b (spn isBl b e) = 123
  · have hin := bt_r hb (spn isBl b e)
    rw [decide_eq_true c1]
    refine zok_f (by decide) (zok_gl ⟨by omega, by omega⟩ (zok_lt (zok_some ⟨F3.sI (fun q => q.1 rfl), (R3 3).trans h3, (zI_ni (by decide)).trans (g3 1 (by decide)), Or.inl ⟨c1, (zI_ni (by decide)).trans (g3 7 (by decide)), K3.set (by omega), by omega, (R3 4).trans h4, (zI_ni (by decide)).trans ((g3 6 (by decide)).trans h6), ?_, ?_⟩⟩)))
    · refine pC.s9 ht (pC_nw (nm := wrd b q e) (s := (c : Int)) (by omega) ⟨by omega, by omega⟩ ?_ (fun i hi => ?_) ?_ ?_ ?_ ?_ (fun f hf => ?_) (fun i hi => ?_))
      · rw [t3 t 1 (by omega), y3, hl]
      · rw [t3 (t + 1) i (by omega), y4 i (by omega), (x1 2 (by omega) _).1, hK.2.2.2 (q + i) (by omega), wrd_get (by omega)]
      · rw [t3 t 2 (by omega), y2 2 (by decide), x2]
      · rw [t3 t 3 (by omega), y2 3 (by decide), x3]
      · rw [t3 t 15 (by omega), y2 15 (by decide), x4]
      · rw [t3 t 16 (by omega), y2 16 (by decide), x5]
      · rw [t3 (t + 7) f (by omega), (y1 (t + 7) (by omega) f).1, x6 f hf]
      · rw [t3 (t + 8) i (by omega), (y1 (t + 8) (by omega) i).1, x7 i hi]
    · rw [zI_nk (show t ≠ 99 by omega), t3 t 16 (by omega), y2 16 (by decide), x5]
  · rw [decide_eq_false c1]
    have G3 : rdG u μ m3 := ⟨F3.mono (fun c hc => by omega), R3 3⟩
    refine zok_t rfl (zok_cm (zok_and (Q := fun m4 => zSm (fun c => c ≠ 99 ∧ (c < t ∨ t + 10 < c)) μ m4 ∧ zR m4 99 3 = u ∧ zI m4 99 1 = zI μ 99 1) (c_failL K3 (by omega) G3 (by decide)) ?_) (fun m4 h4 => zok_some ⟨h4.2.1, h4.2.2.1, h4.2.2.2, Or.inr ⟨c1, h4.1⟩⟩))
    unfold f1_fail
    exact zok_lt (zok_lt (zok_some ⟨(F3.sI (fun q => q.1 rfl)).sI (fun q => q.1 rfl), (R3 3).trans h3, by rw [zI_ni (by decide), zI_ni (by decide)]; exact g3 1 (by decide)⟩))
end hd2
