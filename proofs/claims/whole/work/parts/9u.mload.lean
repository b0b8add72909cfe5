/-! THE REFERENCE'S LOAD -/
section mload
variable {A : zA} {c : Int} {μ m : zM}
theorem n_load (hA : wA c A) (hR : rM A μ) : zok (f7_load μ) (fun r => ∃ q, lDo A q ∧ r.1 = q.1 ∧ rM q.2 r.2 ∧ zI r.2 292 0 = 0 ∧ zSm (fun c => c < 292 ∨ 338 < c) μ r.2) := by
  have hby : byB (aB A) := hA.2.2.2.2.1
  have h7 := hby.1
  obtain ⟨⟨b0, b1, b2, b3, b4, b5⟩, r2, r3, r4, r5, r6, r7⟩ := hR
  obtain ⟨bb, hb, hbb⟩ : ∃ bb, okB bb ∧ 613 - b0 = bb := by
    rcases b1 with rfl | rfl
    · exact ⟨314, Or.inr rfl, rfl⟩
    · exact ⟨299, Or.inl rfl, rfl⟩
  rw [hbb] at b3
  have hdis : b0 + 13 < bb ∨ bb + 13 < b0 := by rcases b1 with rfl | rfl <;> rcases hb with rfl | rfl <;> omega
  have hb0l : 298 < b0 ∧ b0 + 13 < 328 := by rcases b1 with rfl | rfl <;> omega
  have hbbl : 298 < bb ∧ bb + 13 < 328 := by rcases hb with rfl | rfl <;> omega
  have hb13 : bb ≠ 313 ∧ bb + 13 ≠ 313 ∧ (bb + 13 < 313 ∨ 313 < bb) := by rcases hb with rfl | rfl <;> omega
  unfold f7_load
  refine zok_lt (zok_lt (zok_lt (zok_lt (zok_lt (zok_lt (zok_lt ?_))))))
  have r1 : ∀ (μ : zM) (k i : Nat) (v : Int) (j : Nat), zR (zsI μ k i v) 292 j = zR μ 292 j := fun _ _ _ _ _ => rfl
  simp only [r1, b3]
  generalize hm7 : zsI (zsI (zsI (zsI (zsI (zsI (zsI μ 292 0 0) 292 11 0) 292 12 (-1)) 292 14 0) 292 20 0) bb 0 0) bb 1 0 = m7
  have e7 : ∀ c, c ≠ 292 → c ≠ bb → ∀ i, zI m7 c i = zI μ c i := fun c h1 h2 i => by rw [← hm7, zI_nk h2, zI_nk h2, zI_nk h1, zI_nk h1, zI_nk h1, zI_nk h1, zI_nk h1]
  have f7 : ∀ i, i ≠ 0 → i ≠ 11 → i ≠ 12 → i ≠ 14 → i ≠ 20 → zI m7 292 i = zI μ 292 i := fun i h1 h2 h3 h4 h5 => by rw [← hm7, zI_nk (by omega), zI_nk (by omega), zI_ni h5, zI_ni h4, zI_ni h3, zI_ni h2, zI_ni h1]
  have g0 : zI m7 292 0 = 0 := by rw [← hm7, zI_nk (by omega), zI_nk (by omega), zI_ni (by decide), zI_ni (by decide), zI_ni (by decide), zI_ni (by decide), zI_eq rfl rfl]
  have g11 : zI m7 292 11 = 0 := by rw [← hm7, zI_nk (by omega), zI_nk (by omega), zI_ni (by decide), zI_ni (by decide), zI_ni (by decide), zI_eq rfl rfl]
  have g12 : zI m7 292 12 = -1 := by rw [← hm7, zI_nk (by omega), zI_nk (by omega), zI_ni (by decide), zI_ni (by decide), zI_eq rfl rfl]
  have g14 : zI m7 292 14 = 0 := by rw [← hm7, zI_nk (by omega), zI_nk (by omega), zI_ni (by decide), zI_eq rfl rfl]
  have g20 : zI m7 292 20 = 0 := by rw [← hm7, zI_nk (by omega), zI_nk (by omega), zI_eq rfl rfl]
  have gb0 : zI m7 bb 0 = 0 := by rw [← hm7, zI_ni (by decide), zI_eq rfl rfl]
  have gb1 : zI m7 bb 1 = 0 := by rw [← hm7, zI_eq rfl rfl]
  have R7 : ∀ i, zR m7 292 i = zR μ 292 i := fun i => by rw [← hm7]; rfl
  have Z7 : zSm (fun c => c < 292 ∨ 338 < c) μ m7 := by
    rw [← hm7]
    exact ((((((zSm.rf.sI (by omega)).sI (by omega)).sI (by omega)).sI (by omega)).sI (by omega)).sI (by omega)).sI (by omega)
  have G7 : rdLB (aB A) bb 0 (fun _ => nwS []) 0 m7 0 := ⟨⟨(f7 10 (by decide) (by decide) (by decide) (by decide) (by decide)).trans r3.1, fun i hi => (e7 313 (by decide) (by omega) i).trans (r3.2 i hi)⟩, (R7 13).trans b3, gb0, Nat.zero_le _, gb1, Or.inl rfl, ⟨g11, g12⟩, by rw [g20]; omega, fun h => absurd rfl h, fun k hk => absurd hk (Nat.not_lt_zero k)⟩
  refine zok_cl (n_readAll hb hby G7 g14) (fun x m8 hx => zok_lt ?_)
  have o8 : ∀ c, gfM bb m7 m8 → c ≠ 292 → c ≠ 328 → (c < bb ∨ bb + 13 < c) → ∀ i, zI m8 c i = zI μ c i := fun c F c1 c2 c3 i => ((F.1 c ⟨c1, c2, c3⟩ i).1).trans (e7 c c1 (by omega) i)
  have Z8 : gfM bb m7 m8 → zSm (fun c => c < 292 ∨ 338 < c) μ m8 := fun F => Z7.tr (F.1.mono (fun c hc => by omega))
  rcases hx with ⟨e, x1, x2, x3⟩ | ⟨p, n, L, o, x1, x2, x3, x4⟩
  · have x2' : x = false := x2
    rw [x2']
    have F := x3.2.2.2
    have o9 : ∀ c, c ≠ 292 → c ≠ 328 → (c < bb ∨ bb + 13 < c) → ∀ i, zI (zsI m8 292 10 0) c i = zI μ c i := fun c c1 c2 c3 i => (zI_nk c1).trans (o8 c F c1 c2 c3 i)
    have f9 : ∀ i, i ≠ 10 → zI (zsI m8 292 10 0) 292 i = zI m8 292 i := fun i hi => zI_ni hi
    refine zok_t rfl (zok_some ⟨lOut A (.inl e), ⟨_, x1, rfl⟩, rfl, ?_, (f9 0 (by decide)).trans ((F.2.2 0 (by decide)).trans g0), (Z8 F).sI (by omega)⟩)
    refine ⟨⟨b0, b1, (F.2.1 8).trans ((R7 8).trans b2), ((F.2.1 13).trans ((R7 13).trans b3)).trans hbb.symm, (o9 b0 (by omega) (by omega) (by omega) 0).trans b4, fun k hk => pSm_keep (fun c c1 c2 i => o9 c (by omega) (by omega) (by omega) i) (b5 k hk)⟩, pMs_keep (o9 293 (by decide) (by decide) (by omega)) r2, ⟨zI_eq rfl rfl, fun i hi => absurd hi (Nat.not_lt_zero i)⟩, ⟨(f9 11 (by decide)).trans x3.1, (f9 12 (by decide)).trans x3.2.1⟩, fun i hi => (o9 298 (by decide) (by decide) (by omega) i).trans (r5 i hi), ⟨(f9 7 (by decide)).trans ((F.2.2 7 (by decide)).trans ((f7 7 (by decide) (by decide) (by decide) (by decide) (by decide)).trans r6.1)), fun j s hj => pMs_keep (o9 295 (by decide) (by decide) (by omega)) (r6.2 j s hj)⟩, fun j hj => ?_⟩
    rcases r7 j hj with ⟨y1, y2⟩ | ⟨y1, s, y2, y3⟩
    · exact Or.inl ⟨(o9 297 (by decide) (by decide) (by omega) j).trans y1, y2⟩
    · exact Or.inr ⟨(o9 297 (by decide) (by decide) (by omega) j).trans y1, s, y2, pMs_keep (o9 296 (by decide) (by decide) (by omega)) y3⟩
  · have x2' : x = true := x2
    rw [x2']
    have F := x4
    obtain ⟨k1, k2, k3, k4, k5, k6, k7, k8, k9, k10⟩ := x3
    refine zok_f (by decide) (zok_lt (zok_lt ?_))
    have q13 : zR (zsI m8 292 10 0) 292 13 = bb := k2
    have q8 : zR (zsI m8 292 10 0) 292 8 = b0 := (F.2.1 8).trans ((R7 8).trans b2)
    rw [q13, q8]
    have w8 : zR (zsR (zsR (zsI m8 292 10 0) 292 8 bb) 292 13 b0) 292 8 = bb := by rw [zR_ni (by decide), zR_eq rfl rfl]
    have w13 : zR (zsR (zsR (zsI m8 292 10 0) 292 8 bb) 292 13 b0) 292 13 = b0 := zR_eq rfl rfl
    have i11 : ∀ c i, zI (zsR (zsR (zsI m8 292 10 0) 292 8 bb) 292 13 b0) c i = zI (zsI m8 292 10 0) c i := fun _ _ => rfl
    have Z11 : zSm (fun c => c < 292 ∨ 338 < c) μ (zsR (zsR (zsI m8 292 10 0) 292 8 bb) 292 13 b0) := (((Z8 F).sI (by omega)).sR (by omega)).sR (by omega)
    generalize zsR (zsR (zsI m8 292 10 0) 292 8 bb) 292 13 b0 = m11 at *
    refine zok_x2 (fun (x3 : Int) m' => ∃ i : Nat, x3 = i ∧ i ≤ 2256 ∧ zSm (fun c => c ≠ 293) m11 m' ∧ ∀ y, y < i → zI m' 293 y = 0) (fun x3 _ => 2257 - x3.toNat) (fun kk x3 m' hx ih => ?_) zFu 0 m11 ⟨0, rfl, Nat.zero_le _, zSm.rf, fun y hy => absurd hy (Nat.not_lt_zero y)⟩ (by show 2257 - 0 < 100000; decide)
    obtain ⟨i, rfl, i1, i2, i3⟩ := hx
    have a8 : zR m' 292 8 = bb := ((i2 292 (by decide) 8).2.2).trans w8
    have a13 : zR m' 292 13 = b0 := ((i2 292 (by decide) 13).2.2).trans w13
    have o12 : ∀ c, c ≠ 293 → c ≠ 292 → ∀ i, zI m' c i = zI m8 c i := fun c c1 c2 i => ((i2 c c1 i).1).trans ((i11 c i).trans (zI_nk c2))
    have f12 : ∀ i, i ≠ 10 → zI m' 292 i = zI m8 292 i := fun i hi => ((i2 292 (by decide) i).1).trans ((i11 292 i).trans (zI_ni hi))
    have f12' : zI m' 292 10 = 0 := ((i2 292 (by decide) 10).1).trans ((i11 292 10).trans (zI_eq rfl rfl))
    unfold f7_load_77
    rw [zl_m.1, zl_m.2.2.2.2.1]
    refine zok_if (fun c9 => ?_) (fun c9 => zok_gd ⟨by omega, by omega⟩ (zok_lt (zok_gl ⟨by omega, by omega⟩ (ih _ _ ⟨i + 1, by omega, by omega, i2.sI (fun h => h rfl), fun y hy => ?_⟩ (by show 2257 - ((i : Int) + 1).toNat < 2257 - (i : Int).toNat; omega)))))
    · refine zok_gd ⟨by decide, by decide⟩ (zok_lt ?_)
      rw [a8, o12 bb (by omega) (by omega), k5, show zx 1 = 1 from rfl, show zx 0 = 0 from rfl]
      refine zok_lt (zok_gd ⟨⟨by decide, by decide⟩, Or.inl rfl⟩ (zok_lt (zok_gd ⟨⟨by decide, by decide⟩, Or.inl rfl⟩ (zok_lt (zok_some ?_)))))
      generalize hmz : zsI (zsI (zsI (zsI m' 293 1 o) 292 7 0) 297 0 0) 297 1 0 = mz
      have ez : ∀ c, c ≠ 293 → c ≠ 292 → c ≠ 297 → ∀ i, zI mz c i = zI m8 c i := fun c c1 c2 c3 i => by rw [← hmz, zI_nk c3, zI_nk c3, zI_nk c2, zI_nk c1, o12 c c1 c2]
      have fz : ∀ i, i ≠ 7 → zI mz 292 i = zI m' 292 i := fun i hi => by rw [← hmz, zI_nk (by decide), zI_nk (by decide), zI_ni hi, zI_nk (by decide)]
      have fz7 : zI mz 292 7 = 0 := by rw [← hmz, zI_nk (by decide), zI_nk (by decide), zI_eq rfl rfl]
      have sz : ∀ i, zI mz 293 i = if i = 1 then o else zI m' 293 i := fun i => by
        rw [← hmz, zI_nk (by decide), zI_nk (by decide), zI_nk (by decide)]
        by_cases c : i = 1
        · rw [if_pos c, zI_eq rfl c]
        · rw [if_neg c, zI_ni c]
      have z0 : zI mz 297 0 = 0 := by rw [← hmz, zI_ni (by decide), zI_eq rfl rfl]
      have z1 : zI mz 297 1 = 0 := by rw [← hmz, zI_eq rfl rfl]
      have Rz : ∀ i, zR mz 292 i = zR m' 292 i := fun i => by rw [← hmz]; rfl
      have Zz : zSm (fun c => c < 292 ∨ 338 < c) μ mz := by
        rw [← hmz]
        exact ((((Z11.tr (i2.mono (fun c hc => by omega))).sI (by omega)).sI (by omega)).sI (by omega)).sI (by omega)
      rw [Rz, a8]
      have on : zI mz bb 0 = (n : Nat) := (ez bb (by omega) (by omega) (by omega) 0).trans k3
      refine ⟨lOut A (.inr (p, n, L, o)), ⟨_, x1, rfl⟩, on, ?_, (fz 0 (by decide)).trans ((f12 0 (by decide)).trans ((F.2.2 0 (by decide)).trans g0)), Zz⟩
      refine ⟨⟨bb, hb, (Rz 8).trans a8, ?_, on, fun k hk => ?_⟩, ⟨?_, ?_, ?_, fun i hi => absurd hi (Nat.not_lt_zero i), fun l hl => absurd hl (Nat.not_lt_zero l)⟩, ⟨(fz 10 (by decide)).trans f12', fun i hi => absurd hi (Nat.not_lt_zero i)⟩, ⟨(fz 11 (by decide)).trans ((f12 11 (by decide)).trans k7.1), (fz 12 (by decide)).trans ((f12 12 (by decide)).trans k7.2)⟩, fun i hi => (ez 298 (by decide) (by decide) (by decide) i).trans ((o8 298 F (by decide) (by decide) (by omega) i).trans (r5 i hi)), ⟨fz7, fun j s hj => by cases hj⟩, fun j hj => ?_⟩
      · rw [Rz, a13]; omega
      · exact pSm_keep (fun c c1 c2 i => ez c (by omega) (by omega) (by omega) i) (k10 k hk).1
      · rw [sz, if_neg (by decide)]; exact i3 0 (by omega)
      · rw [sz, if_pos (by decide)]; rfl
      · rw [sz, if_neg (by decide)]; exact i3 2 (by omega)
      · rcases (show j = 0 ∨ j = 1 by omega) with rfl | rfl
        · exact Or.inl ⟨z0, rfl⟩
        · exact Or.inl ⟨z1, rfl⟩
    · rw [zx_nat]
      by_cases e : y = i
      · rw [e, zI_eq rfl rfl]
      · rw [zI_ni e]; exact i3 y (by omega)
end mload
