/-! THE CLASS'S LOAD -/
section cload
variable {A : zA} {c : Int} {μ m : zM} {u : Nat}
theorem c_readLibrary (hA : wA c A) (hu : u = 7 ∨ u = 101) (h3 : zR μ 99 3 = u) (hb : bfr 1 1 2 μ (aB A)) : zok (f1_readLibrary 2 (zI μ 1 1) μ) (fun m => ∃ q, lRd (aB A) (spn isBl (aB A) 0, 0, (fun _ => nwS []), 0) q ∧ rdG u μ m ∧ ((∃ e, q = .inl e ∧ zI m 99 6 = e.1 ∧ zI m 99 7 = e.2 ∧ e.1 ≠ 0) ∨ ∃ p n L o k, q = .inr (p, n, L, o) ∧ rdL (aB A) u k n L o m p)) := by
  have hbb : byB (aB A) := hA.2.2.2.2.1
  have h7 := hbb.1
  unfold f1_readLibrary
  refine zok_lt (zok_lt (zok_lt ?_))
  have r3 : zR (zsI (zsR μ 99 0 2) 99 1 (min (zI μ 1 1) ((zln 2 : Nat) : Int))) 99 3 = u := (zR_ni (by decide)).trans h3
  rw [r3]
  refine zok_lt (zok_gd (Or.inl rfl) (zok_lt (zok_lt (zok_lt (zok_lt ?_)))))
  have r4 : zR (zsI (zsI (zsR μ 99 0 2) 99 1 (min (zI μ 1 1) ((zln 2 : Nat) : Int))) u 1 0) 99 3 = u := r3
  rw [r4, hb.1, zln_c.1, show min ((aB A).length : Int) ((700 : Nat) : Int) = (aB A).length by omega]
  generalize hm7 : zsI (zsI (zsI (zsI (zsI (zsI (zsR μ 99 0 2) 99 1 ((aB A).length : Int)) u 1 0) u 2 0) 99 2 0) 99 6 0) 99 7 (-1) = m7
  have K : rdK (aB A) m7 0 := by
    rw [← hm7]
    refine ⟨zR_eq rfl rfl, ?_, ?_, fun i hi => ?_⟩
    · rw [zI_ni (by decide), zI_ni (by decide), zI_ni (by decide), zI_nk (by omega), zI_nk (by omega), zI_eq rfl rfl]
    · rw [zI_ni (by decide), zI_ni (by decide), zI_eq rfl rfl]; rfl
    · rw [zI_nk (by decide), zI_nk (by decide), zI_nk (by decide), zI_nk (by omega), zI_nk (by omega), zI_nk (by decide)]; exact hb.2 i hi
  have G : rdG u μ m7 := by
    rw [← hm7]
    exact ⟨((((((zSm.rf.sR (fun q => q.1 rfl)).sI (fun q => q.1 rfl)).sI (fun q => by omega)).sI (fun q => by omega)).sI (fun q => q.1 rfl)).sI (fun q => q.1 rfl)).sI (fun q => q.1 rfl), r3.trans h3.symm⟩
  have d1 : zI m7 u 1 = 0 := by rw [← hm7, zI_nk (by omega), zI_nk (by omega), zI_nk (by omega), zI_ni (by decide), zI_eq rfl rfl]
  have d2 : zI m7 u 2 = 0 := by rw [← hm7, zI_nk (by omega), zI_nk (by omega), zI_nk (by omega), zI_eq rfl rfl]
  have d6 : zI m7 99 6 = 0 := by rw [← hm7, zI_ni (by decide), zI_eq rfl rfl]
  have d7 : zI m7 99 7 = -1 := by rw [← hm7, zI_eq rfl rfl]
  have d3 : zR m7 99 3 = u := by rw [← hm7]; exact r3
  refine zok_cm (c_skip hbb K (by omega)) (fun m8 hm8 => ?_)
  have b2 := spn_le isBl (b := aB A) (p := 0) (Nat.zero_le _)
  have h8 : rdL (aB A) u 0 0 (fun _ => nwS []) 0 m8 (spn isBl (aB A) 0) := by
    have h0 : rdL (aB A) u 0 0 (fun _ => nwS []) 0 m7 0 := ⟨K, Nat.zero_le _, d3, d1, Nat.zero_le _, d2, Or.inl rfl, d6, d7, ⟨fun k hk => absurd hk (Nat.not_lt_zero k), fun _ => rfl, fun h => absurd h (Nat.lt_irrefl 0), fun i j _ hj => absurd hj (Nat.not_lt_zero j)⟩, Nat.le_refl _⟩
    exact h0.go hu hm8.1 hm8.2 (Nat.zero_le _) b2
  refine zok_mono (c_readLib hu hbb h8) (fun m9 hm9 => ?_)
  have G8 : rdG u μ m8 := G.tr hm8.2.g
  rcases hm9 with ⟨e, x1, x2⟩ | ⟨p, n, L, o, k, x1, x2, x3⟩
  · exact ⟨_, x1, G8.tr x2.2.2.2.2, Or.inl ⟨e, rfl, x2.1, x2.2.1, x2.2.2.1⟩⟩
  · exact ⟨_, x1, G8.tr x3, Or.inr ⟨p, n, L, o, k, rfl, x2⟩⟩
theorem c_load (hA : wA c A) (hR : rC A μ) : zok (f5_load μ) (fun r => ∃ q, lDo A q ∧ r.1 = q.1 ∧ rC q.2 r.2 ∧ zSm (fun c => 292 ≤ c) μ r.2 ∧ wA c q.2 ∧ (wNm A → wNm q.2)) := by
  have hn := hA.1.1
  obtain ⟨⟨t, t1, t2, t3, t4, t5⟩, r2, r3, r4, r5, ⟨s, s1, s2, s3, s4⟩, r7⟩ := hR
  obtain ⟨u, hu, hut⟩ : ∃ u, (u = 7 ∨ u = 101) ∧ 108 - t = u := by
    rcases t1 with rfl | rfl
    · exact ⟨101, Or.inr rfl, rfl⟩
    · exact ⟨7, Or.inl rfl, rfl⟩
  rw [hut] at t3
  have h1u : 1 < u := by omega
  have hut2 : (t < u ∧ t + 91 < u) ∨ u + 91 < t := by omega
  unfold f5_load
  refine zok_cm (c_readLibrary hA hu t3 r3) (fun m1 hm1 => zok_lt (zok_lt (zok_lt ?_)))
  obtain ⟨q, hq, G, hq2⟩ := hm1
  have hd : lDo A (lOut A q) := ⟨q, hq, rfl⟩
  rw [zI_nk (show 99 ≠ 1 by decide), zI_nk (show 99 ≠ 1 by decide), zI_nk (show 99 ≠ 1 by decide)]
  generalize hm4 : zsI (zsI (zsI m1 1 1 0) 1 4 (zI m1 99 6)) 1 5 (zI m1 99 7) = m4
  have f4 : ∀ c, c ≠ 1 → ∀ i, zI m4 c i = zI m1 c i := fun c hc i => by rw [← hm4, zI_nk hc, zI_nk hc, zI_nk hc]
  have g4 : ∀ i, i ≠ 1 → i ≠ 4 → i ≠ 5 → zI m4 1 i = zI m1 1 i := fun i h1 h2 h3 => by rw [← hm4, zI_ni h3, zI_ni h2, zI_ni h1]
  have R4 : ∀ c i, zR m4 c i = zR m1 c i := fun c i => by rw [← hm4]; rfl
  have e41 : zI m4 1 1 = 0 := by rw [← hm4, zI_ni (by decide), zI_ni (by decide), zI_eq rfl rfl]
  have e44 : zI m4 1 4 = zI m1 99 6 := by rw [← hm4, zI_ni (by decide), zI_eq rfl rfl]
  have e45 : zI m4 1 5 = zI m1 99 7 := by rw [← hm4, zI_eq rfl rfl]
  have F4 : zSm (fun c => 292 ≤ c) μ m4 := by
    rw [← hm4]
    exact (((G.1.mono (fun c hc => by omega)).sI (fun q => by omega)).sI (fun q => by omega)).sI (fun q => by omega)
  -- what the reader did not touch
  have o1 : ∀ c, c ≠ 1 → c ≠ 99 → (c < u ∨ u + 91 < c) → ∀ i, zI m4 c i = zI μ c i := fun c h1 h2 h3 i => (f4 c h1 i).trans (G.1 c ⟨h2, h3⟩ i).1
  have o2 : ∀ i, i ≠ 1 → i ≠ 4 → i ≠ 5 → zI m4 1 i = zI μ 1 i := fun i h1 h2 h3 => (g4 i h1 h2 h3).trans (G.1 1 ⟨by decide, Or.inl h1u⟩ i).1
  have oR : zR m4 1 2 = t := (R4 1 2).trans (((G.1 1 ⟨by decide, Or.inl h1u⟩ 2).2.2).trans t2)
  have oR3 : zR m4 99 3 = u := (R4 99 3).trans (G.2.trans t3)
  have o3 : ∀ i, zI m4 3 i = zI μ 3 i := o1 3 (by decide) (by decide) (by omega)
  have o6 : ∀ i, zI m4 6 i = zI μ 6 i := o1 6 (by decide) (by decide) (by omega)
  have oK : ∀ c, 193 ≤ c → ∀ i, zI m4 c i = zI μ c i := fun c h => o1 c (by omega) (by omega) (by omega)
  have ot : ∀ i, zI m4 t i = zI μ t i := o1 t (by omega) (by omega) (by omega)
  rcases hq2 with ⟨e, rfl, x1, x2, x3⟩ | ⟨p, n, L, o, k, rfl, hl⟩
  · rw [e44, x1]
    have hw : wA c (lOut A (.inl e)).2 := ⟨hA.1, hA.2.1, hA.2.2.1, hA.2.2.2.1, ⟨Nat.zero_le _, fun x hx => by cases hx⟩, hA.2.2.2.2.2⟩
    refine zok_f x3 (zok_some ⟨_, hd, rfl, ?_, F4, hw, fun h => h⟩)
    refine ⟨⟨t, t1, oR, oR3.trans hut.symm, (ot 1).trans t4, fun k hk => ?_⟩, pSt_keep (fun k k1 k2 => oK k (by omega)) r2, ⟨e41, fun i hi => absurd hi (Nat.not_lt_zero i)⟩, ⟨e44.trans x1, e45.trans x2⟩, fun i hi => (o3 i).trans (r5 i hi), ⟨s, s1, (o2 9 (by decide) (by decide) (by decide)).trans s2, (o2 10 (by decide) (by decide) (by decide)).trans s3, fun j s hj => pSt_keep (fun k k1 k2 => oK k (by omega)) (s4 j s hj)⟩, fun j hj => ?_⟩
    · have hk' : k < aN A := hk
      have hz := (okT_k t1 (show k < 8 by omega)).f
      have hit := (lib_f t1 (show k < 8 by omega)).2
      exact pSc_keep (fun c c1 c2 i => o1 c (by omega) (by omega) (by omega) i) (fun i => ⟨o1 _ (by omega) (by omega) (by omega) i, o1 _ (by omega) (by omega) (by omega) i⟩) (t5 k hk)
    · rcases r7 j hj with ⟨g1, g2⟩ | ⟨g1, s', g2, g3⟩
      · exact Or.inl ⟨(o6 j).trans g1, g2⟩
      · exact Or.inr ⟨(o6 j).trans g1, s', g2, pSt_keep (fun k k1 k2 => oK k (by omega)) g3⟩
  · obtain ⟨K, hpl, l3, l1, ln, l2, lo, l6, l7, ⟨N1, -, -, N4⟩, -⟩ := hl
    have hw : wA c (lOut A (.inr (p, n, L, o))).2 := ⟨⟨ln, fun k hk => (N1 k hk).2.1⟩, ⟨⟨lo, Nat.zero_le _, Nat.zero_le _, fun l hl => absurd hl (Nat.not_lt_zero l)⟩, fun l hl => absurd hl (Nat.not_lt_zero l)⟩, ⟨Nat.zero_le _, fun s hs => by cases hs⟩, fun j s hs => (by cases hs), ⟨Nat.zero_le _, fun x hx => by cases hx⟩, hA.2.2.2.2.2⟩
    rw [e44, l6]
    refine zok_t rfl (zok_cl (P := fun r => r = (u, zsR m4 99 3 t)) (zok_lt (zok_some ?_)) (fun x m5 hx => ?_))
    · rw [oR, oR3]
    · cases hx
      have iu : ∀ i, zI (zsR (zsR m4 99 3 t) 1 2 u) u i = zI m4 u i := fun _ => rfl
      refine zok_lt ?_
      have e12 : zR (zsR (zsR m4 99 3 t) 1 2 u) 1 2 = u := zR_eq rfl rfl
      have e93 : zR (zsR (zsR m4 99 3 t) 1 2 u) 99 3 = t := by rw [zR_nk (by decide), zR_eq rfl rfl]
      rw [e12, iu, f4 u (by omega), l2]
      have f6 : ∀ c i, zI (zsR (zsR m4 99 3 t) 1 2 u) c i = zI m4 c i := fun _ _ => rfl
      have F6 : zSm (fun c => 292 ≤ c) μ (zsR (zsR m4 99 3 t) 1 2 u) := (F4.sR (fun q => by omega)).sR (fun q => by omega)
      generalize zsR (zsR m4 99 3 t) 1 2 u = m6 at *
      refine zok_cm (s_clear lo) (fun m7 h7 => zok_lt ?_)
      obtain ⟨h71, h72⟩ := h7
      have e7 : ∀ c, (c < 193 ∨ 193 + 6 < c) → ∀ i, zI m7 c i = zI m4 c i := fun c hc i => ((h72 c hc i).1).trans (f6 c i)
      have e7R : ∀ c, (c < 193 ∨ 193 + 6 < c) → ∀ i, zR m7 c i = zR m6 c i := fun c hc i => (h72 c hc i).2.2
      refine zok_x2 (fun (x : Int) m => ∃ j : Nat, x = j ∧ j ≤ 2 ∧ zSm (fun c => c ≠ 6) (zsI m7 1 10 0) m ∧ ∀ i, i < j → zI m 6 i = 0) (fun x _ => 2 - x.toNat) (fun kk x m hx ih => ?_) zFu 0 _ ⟨0, rfl, Nat.zero_le _, zSm.rf, fun i hi => absurd hi (Nat.not_lt_zero i)⟩ (by show 2 - 0 < 100000; decide)
      obtain ⟨j, rfl, j1, j2, j3⟩ := hx
      have eR : ∀ c i, (c < 193 ∨ 193 + 6 < c) → c ≠ 6 → zR m c i = zR m6 c i := fun c i h1 h2 => ((j2 c h2 i).2.2).trans (e7R c h1 i)
      have eI : ∀ c, c ≠ 6 → c ≠ 1 → (c < 193 ∨ 193 + 6 < c) → ∀ i, zI m c i = zI m4 c i := fun c h1 h2 h3 i => ((j2 c h1 i).1).trans ((zI_nk h2).trans (e7 c h3 i))
      have e1I : ∀ i, i ≠ 10 → zI m 1 i = zI m4 1 i := fun i hi => ((j2 1 (by decide) i).1).trans ((zI_ni hi).trans (e7 1 (by decide) i))
      have e110 : zI m 1 10 = 0 := ((j2 1 (by decide) 10).1).trans (zI_eq rfl rfl)
      have er : zR m 1 2 = u := (eR 1 2 (by decide) (by decide)).trans e12
      have euI : ∀ c, u ≤ c → c ≤ u + 91 → c ≠ 99 → ∀ i, zI m c i = zI m1 c i := fun c c1 c2 c3 i => (eI c (by clear hq; omega) (by clear hq; omega) (by clear hq; omega) i).trans (f4 c (by clear hq; omega) i)
      have eun : zI m u 1 = n := (euI u (Nat.le_refl _) (Nat.le_add_right _ _) (by clear hq; omega) 1).trans l1
      unfold f5_load_87
      rw [er, eun]
      refine zok_if (fun c9 => zok_some ⟨_, hd, rfl, ?_, ?_, hw, fun _ => N4⟩) (fun c9 => zok_gd ⟨⟨by omega, by rw [zln_c.2.2.2.2.1]; omega⟩, Or.inl rfl⟩ (zok_lt (zok_gl ⟨by omega, by omega⟩ (ih _ _ ⟨j + 1, by omega, by omega, j2.sI (fun q => q rfl), fun i hi => ?_⟩ (by show 2 - ((j : Int) + 1).toNat < 2 - (j : Int).toNat; omega)))))
      · have hj2 : j = 2 := by clear hq; omega
        subst hj2
        refine ⟨⟨u, hu, er, ?_, eun, fun k hk => ?_⟩, ⟨?_, ?_, ?_, fun l hl => absurd hl (Nat.not_lt_zero l), fun l hl => absurd hl (Nat.not_lt_zero l), fun i hi => absurd hi (Nat.not_lt_zero i)⟩, ⟨(e1I 1 (by decide)).trans e41, fun i hi => absurd hi (Nat.not_lt_zero i)⟩, ⟨(e1I 4 (by decide)).trans (e44.trans l6), (e1I 5 (by decide)).trans (e45.trans l7)⟩, fun i hi => (eI 3 (by decide) (by decide) (by decide) i).trans ((o3 i).trans (r5 i hi)), ⟨s, s1, (e1I 9 (by decide)).trans ((o2 9 (by decide) (by decide) (by decide)).trans s2), e110, fun j s hj => by cases hj⟩, fun j hj => Or.inl ⟨j3 j hj, rfl⟩⟩
        · rw [eR 99 3 (by decide) (by decide), e93, ← hut]; rcases t1 with rfl | rfl <;> rfl
        · have hk' : k < n := hk
          have hz := (okT_k hu (show k < 8 by clear hq; omega)).f
          obtain ⟨ht, hit⟩ := lib_f hu (show k < 8 by clear hq; omega)
          have q5 := okT_5 _ ht.2 ht.1
          obtain ⟨y1, y2, y3⟩ := N1 k hk'
          refine pSc_keep (fun c c1 c2 i => euI c (by clear hq; omega) (by clear hq; omega) (by clear hq; omega) i) (fun i => ?_) (y1.sc y2)
          rw [hit]
          exact ⟨euI _ (by clear hq; omega) (by clear hq; omega) (by clear hq; omega) i, euI _ (by clear hq; omega) (by clear hq; omega) (by clear hq; omega) i⟩
        · exact ((j2 193 (by decide) 0).1).trans ((zI_nk (by decide)).trans h71.1)
        · exact ((j2 193 (by decide) 1).1).trans ((zI_nk (by decide)).trans h71.2.1)
        · exact ((j2 193 (by decide) 8).1).trans ((zI_nk (by decide)).trans h71.2.2.1)
      · exact F6.tr (((h72.mono (fun c hc => Or.inr (by clear hq; omega))).sI (fun q => by clear hq; omega)).tr (j2.mono (fun c hc => by clear hq; omega)))
      · rw [zx_nat]
        by_cases e : i = j
        · rw [zI_eq rfl e]
        · rw [zI_ni e]; exact j3 i (by clear hq; omega)
end cload
