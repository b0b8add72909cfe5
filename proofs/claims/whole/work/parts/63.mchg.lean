/-! THE REFERENCE'S OUT ROW: what is written, and changed -/
/-- the out row holds l from place q on, up to its end; what is ahead of q is as it was -/
def oW (m0 : zM) (q : Nat) (l : List Int) (m : zM) : Prop := zI m 292 29 = ((q + l.length : Nat) : Int) ∧ (∀ i, i < l.length → zI m 333 (q + i) = l.getD i 0) ∧ ∀ i, i < q → zI m 333 i = zI m0 333 i
def oF (m0 m : zM) : Prop := zSm (fun c => c ≠ 292 ∧ c ≠ 333) m0 m ∧ (∀ i, zR m 292 i = zR m0 292 i) ∧ ∀ i, i ≠ 29 → zI m 292 i = zI m0 292 i
section mChg
variable {m0 m : zM} {q : Nat} {l : List Int}
theorem oF.put (h : oF m0 m) (j : Nat) (x e : Int) : oF m0 (zsI (zsI m 333 j x) 292 29 e) :=
  ⟨(h.1.sI (fun q => q.2 rfl)).sI (fun q => q.1 rfl), fun i => h.2.1 i, fun i hi => (zI_ni hi).trans ((zI_nk (by decide)).trans (h.2.2 i hi))⟩
theorem oF.s (h : oF m0 m) (j : Nat) (x : Int) : oF m0 (zsI m 333 j x) := ⟨h.1.sI (fun q => q.2 rfl), fun i => h.2.1 i, fun i hi => (zI_nk (by decide)).trans (h.2.2 i hi)⟩
theorem oF.o (h : oF m0 m) (e : Int) : oF m0 (zsI m 292 29 e) := ⟨h.1.sI (fun q => q.1 rfl), fun i => h.2.1 i, fun i hi => (zI_ni hi).trans (h.2.2 i hi)⟩
theorem oW_put {x e : Int} (h : oW m0 q l m) (he : e = ((q + l.length + 1 : Nat) : Int)) : oW m0 q (l ++ [x]) (zsI (zsI m 333 (q + l.length) x) 292 29 e) := by
  refine ⟨by rw [zI_eq rfl rfl, he, List.length_append, List.length_singleton]; omega, fun i hi => ?_, fun i hi => ?_⟩
  · rw [List.length_append, List.length_singleton] at hi
    rw [gd_app, zI_nk (by decide)]
    by_cases e : i < l.length
    · rw [if_pos e, zI_ni (by omega)]; exact h.2.1 i e
    · rw [if_neg e, zI_eq rfl (by omega), show i - l.length = 0 by omega]; rfl
  · rw [zI_nk (by decide), zI_ni (by omega)]; exact h.2.2 i hi
def nr (n : Nat) (x : Int) : List Int := if x = 0 then [] else if x = 1 then [48 + ((n % 10 : Nat) : Int)] else if x = 10 then [48 + ((n / 10 % 10 : Nat) : Int), 48 + ((n % 10 : Nat) : Int)] else [48 + ((n / 100 % 10 : Nat) : Int), 48 + ((n / 10 % 10 : Nat) : Int), 48 + ((n % 10 : Nat) : Int)]
theorem dgs_1 {n : Nat} (h : n < 10) : nr n 1 = dgs n := by
  show _ = (if n < 10 then _ else _)
  rw [if_pos h]
  show [48 + ((n % 10 : Nat) : Int)] = _
  rw [Nat.mod_eq_of_lt h]
theorem dgL_s (m n : Nat) : dgL (m + 1) n = if n < 10 then [48 + (n : Int)] else dgL m (n / 10) ++ [48 + ((n % 10 : Nat) : Int)] := rfl
theorem dgs_10 {n : Nat} (h0 : 10 ≤ n) (h : n < 100) : nr n 10 = dgs n := by
  unfold dgs
  rw [dgL_s, if_neg (by omega), dgL_s, if_pos (by omega)]
  show [48 + ((n / 10 % 10 : Nat) : Int), 48 + ((n % 10 : Nat) : Int)] = [_, _]
  rw [Nat.mod_eq_of_lt (show n / 10 < 10 by omega)]
theorem dgs_100 {n : Nat} (h0 : 100 ≤ n) (h : n < 1000) : nr n 100 = dgs n := by
  unfold dgs
  rw [dgL_s, if_neg (by omega), dgL_s, if_neg (by omega), dgL_s, if_pos (by omega)]
  show [48 + ((n / 100 % 10 : Nat) : Int), 48 + ((n / 10 % 10 : Nat) : Int), 48 + ((n % 10 : Nat) : Int)] = [_, _, _]
  rw [Nat.div_div_eq_div_mul, Nat.mod_eq_of_lt (show n / (10 * 10) < 10 by omega)]
theorem m_num18 {n : Nat} (hn : n ≤ 400) (hq : q ≤ 5500) {x : Int} (hx : x = 1 ∨ x = 10 ∨ x = 100) (hr : nr n x = dgs n) (h : oW m0 q [] m) (hf : oF m0 m) : zok (zfx (f7_writesNumber_18 (n : Int)) (fun _ _ => none) zFu x m) (fun m' => oW m0 q (dgs n) m' ∧ oF m0 m') := by
  have hd := dgt_le n
  have hlen : (dgs n).length = dgt n := dgL_len 20 n
  refine zok_x2 (fun x2 m => (x2 = 0 ∨ x2 = 1 ∨ x2 = 10 ∨ x2 = 100) ∧ oF m0 m ∧ ∃ w, oW m0 q w m ∧ w ++ nr n x2 = dgs n) (fun x2 _ => x2.toNat) (fun kk x2 m hx ih => ?_) zFu x m ⟨by omega, hf, [], h, hr⟩ (by show x.toNat < 100000; omega)
  obtain ⟨h1, hf, w, hw, he⟩ := hx
  have hwl : w.length ≤ 21 := by
    have h9 := congrArg List.length he
    rw [List.length_append] at h9
    omega
  -- one digit
  have one : ∀ (x2 y : Int), x2 = 1 ∨ x2 = 10 ∨ x2 = 100 → y = x2 / 10 → nr n x2 = (48 + (n : Int) / x2 % 10) :: nr n y → (w ++ nr n x2 = dgs n) → y < x2 → (y = 0 ∨ y = 1 ∨ y = 10 ∨ y = 100) → (∀ m', ((y = 0 ∨ y = 1 ∨ y = 10 ∨ y = 100) ∧ oF m0 m' ∧ ∃ w, oW m0 q w m' ∧ w ++ nr n y = dgs n) → zok (kk y m') (fun m' => oW m0 q (dgs n) m' ∧ oF m0 m')) → zok (f7_writesNumber_18 (n : Int) kk x2 m) (fun m' => oW m0 q (dgs n) m' ∧ oF m0 m') := by
    intro x2 y hx2 hy hnr he hlt hy2 ih
    have hdv : 0 ≤ (n : Int) / x2 ∧ (n : Int) / x2 ≤ 400 := by rcases hx2 with rfl | rfl | rfl <;> omega
    have hmd : 0 ≤ (n : Int) / x2 % 10 ∧ (n : Int) / x2 % 10 < 10 := by omega
    unfold f7_writesNumber_18
    refine zok_f (by omega) (zok_gd (by omega) (zok_lt (zok_lt ?_)))
    rw [zdiv_nn (by omega) (by omega) (by omega) (by omega), zrem_nn (by omega) (by omega) (by decide) (by decide), hw.1, zdiv_nn (by omega) (by omega) (by decide) (by decide)]
    refine zok_gl ⟨by omega, by omega⟩ (zok_gd ⟨by omega, by rw [zl_m2.2.2.1]; omega⟩ (zok_lt ?_))
    rw [zx_nat, zI_nk (by decide), hw.1]
    refine zok_gl ⟨by omega, by omega⟩ (zok_lt (zok_lt ?_))
    rw [← hy]
    refine ih _ ⟨hy2, hf.put _ _ _, w ++ [48 + (n : Int) / x2 % 10], oW_put hw (by omega), ?_⟩
    rw [List.append_assoc, List.singleton_append, ← hnr]; exact he
  rcases h1 with rfl | rfl | rfl | rfl
  · unfold f7_writesNumber_18
    refine zok_t (by decide) (zok_some ⟨?_, hf⟩)
    have : w = dgs n := by rw [← he]; show w = w ++ []; rw [List.append_nil]
    rw [← this]; exact hw
  · exact one 1 0 (by decide) (by decide) (by rw [show (48 + (n : Int) / 1 % 10) = 48 + ((n % 10 : Nat) : Int) by omega]; rfl) he (by decide) (by decide) (fun m' h' => ih _ _ h' (by decide))
  · exact one 10 1 (by decide) (by decide) (by rw [show (48 + (n : Int) / 10 % 10) = 48 + ((n / 10 % 10 : Nat) : Int) by omega]; rfl) he (by decide) (by decide) (fun m' h' => ih _ _ h' (by decide))
  · exact one 100 10 (by decide) (by decide) (by rw [show (48 + (n : Int) / 100 % 10) = 48 + ((n / 100 % 10 : Nat) : Int) by omega]; rfl) he (by decide) (by decide) (fun m' h' => ih _ _ h' (by decide))
theorem m_number {n : Nat} (hn : n ≤ 400) (hq : q ≤ 5500) (h : oW m0 q [] m) (hf : oF m0 m) : zok (f7_writesNumber (n : Int) m) (fun m' => oW m0 q (dgs n) m' ∧ oF m0 m') := by
  unfold f7_writesNumber
  refine zok_x2 (fun x2 m => oW m0 q [] m ∧ oF m0 m ∧ (x2 = 1 ∨ (x2 = 10 ∧ 10 ≤ n) ∨ (x2 = 100 ∧ 100 ≤ n))) (fun x2 _ => (1000 - x2).toNat) (fun kk x2 m hx ih => ?_) zFu 1 m ⟨h, hf, Or.inl rfl⟩ (by decide)
  obtain ⟨h, hf, hx⟩ := hx
  unfold f7_writesNumber_2
  rcases hx with rfl | ⟨rfl, hx⟩ | ⟨rfl, hx⟩
  · refine zok_gd (by decide) (zok_lt ?_)
    rw [zdiv_nn (by omega) (by omega) (by decide) (by decide)]
    refine zok_if (fun h9 => m_num18 hn hq (by decide) (dgs_1 (by omega)) h hf) (fun h9 => zok_gl ⟨by decide, by decide⟩ (ih _ _ ⟨h, hf, Or.inr (Or.inl ⟨by decide, by omega⟩)⟩ (by decide)))
  · refine zok_gd (by decide) (zok_lt ?_)
    rw [zdiv_nn (by omega) (by omega) (by decide) (by decide)]
    refine zok_if (fun h9 => m_num18 hn hq (by decide) (dgs_10 hx (by omega)) h hf) (fun h9 => zok_gl ⟨by decide, by decide⟩ (ih _ _ ⟨h, hf, Or.inr (Or.inr ⟨by decide, by omega⟩)⟩ (by decide)))
  · refine zok_gd (by decide) (zok_lt ?_)
    rw [zdiv_nn (by omega) (by omega) (by decide) (by decide)]
    refine zok_if (fun h9 => m_num18 hn hq (by decide) (dgs_100 hx (by omega)) h hf) (fun h9 => absurd h9 (by omega))
def tf (c x : Int) : Int := if c = 1 then upc x else if c = 2 then loc x else x
theorem m_turned (x c : Int) : zok (f7_turned x c) (fun r => r = tf c x) := by
  have t23 : c ≠ 1 ∨ upc x = x → zok (f7_turned_23 x c) (fun r => r = tf c x) := by
    intro h1
    unfold f7_turned_23
    refine zok_if (fun h => zok_co (m_within _ _ _) (fun r hr => ?_)) (fun h => zok_some ?_)
    · subst hr
      have e : tf c x = loc x := by unfold tf; rw [if_neg (by omega), if_pos h]
      rw [e]
      unfold loc
      by_cases h9 : 65 ≤ x ∧ x ≤ 90
      · rw [decide_eq_true h9, if_pos h9]
        exact zok_f (by decide) (zok_gl ⟨by omega, by omega⟩ (zok_some rfl))
      · rw [decide_eq_false h9, if_neg h9]
        exact zok_t rfl (zok_some rfl)
    · unfold tf
      by_cases h9 : c = 1
      · rw [if_pos h9]
        exact (h1.resolve_left (fun q => q h9)).symm
      · rw [if_neg h9, if_neg h]
  unfold f7_turned
  refine zok_if (fun h => zok_co (m_within _ _ _) (fun r hr => ?_)) (fun h => t23 (Or.inl h))
  subst hr
  by_cases h9 : 97 ≤ x ∧ x ≤ 122
  · rw [decide_eq_true h9]
    refine zok_f (by decide) (zok_gl ⟨by omega, by omega⟩ (zok_some ?_))
    unfold tf upc; rw [if_pos h, if_pos h9]
  · rw [decide_eq_false h9]
    refine zok_t rfl (t23 (Or.inr ?_))
    unfold upc; rw [if_neg h9]
theorem m_rev (hl : l.length ≤ 400) (hq : q ≤ 5500) (h : oW m0 q l m) (hf : oF m0 m) (c : Int) : zok (zfx (f7_changes_56 c (q : Int)) (fun _ _ _ => none) zFu (l.length : Int) 0 m) (fun m' => oW m0 q l.reverse m' ∧ oF m0 m') := by
  refine zok_x3 (fun (x3 x4 : Int) m => x3 = (l.length : Int) ∧ oF m0 m ∧ ∃ j : Nat, x4 = j ∧ 2 * j ≤ l.length ∧ zI m 292 29 = ((q + l.length : Nat) : Int) ∧ (∀ i, i < q → zI m 333 i = zI m0 333 i) ∧ ∀ i, i < l.length → zI m 333 (q + i) = if i < j ∨ l.length ≤ i + j then l.getD (l.length - 1 - i) 0 else l.getD i 0) (fun _ x4 _ => 400 - x4.toNat) (fun kk x3 x4 m hx ih => ?_) zFu _ _ m ⟨rfl, hf, 0, rfl, by omega, h.1, h.2.2, fun i hi => by rw [if_neg (by omega)]; exact h.2.1 i hi⟩ (by show 400 - 0 < 100000; omega)
  obtain ⟨rfl, hf, j, rfl, g1, g2, g3, g4⟩ := hx
  unfold f7_changes_56
  refine zok_lt ?_
  rw [zdiv_nn (by omega) (by omega) (by decide) (by decide)]
  refine zok_if (fun h9 => zok_some ⟨⟨by rw [List.length_reverse]; exact g2, fun i hi => ?_, g3⟩, hf⟩) (fun h9 => ?_)
  · rw [List.length_reverse] at hi
    rw [gd_rev hi, g4 i hi]
    by_cases e : i < j ∨ l.length ≤ i + j
    · rw [if_pos e]
    · rw [if_neg e, show l.length - 1 - i = i by omega]
  · rw [g2]
    refine zok_gl ⟨by omega, by omega⟩ (zok_gd ⟨by omega, by rw [zl_m2.2.2.1]; omega⟩ (zok_lt (zok_gl ⟨by omega, by omega⟩ (zok_gl ⟨by omega, by omega⟩ (zok_gl ⟨by omega, by omega⟩ (zok_gd ⟨by omega, by rw [zl_m2.2.2.1]; omega⟩ (zok_gd ⟨by omega, by rw [zl_m2.2.2.1]; omega⟩ (zok_lt ?_))))))))
    rw [zI_nk (by decide), g2]
    refine zok_gl ⟨by omega, by omega⟩ (zok_gl ⟨by omega, by omega⟩ (zok_gd ⟨by omega, by rw [zl_m2.2.2.1]; omega⟩ (zok_lt (zok_gl ⟨by omega, by omega⟩ ?_))))
    have ea : zx ((q : Int) + (j : Int)) = q + j := by show ((q : Int) + (j : Int)).toNat = _; omega
    have eb : zx (((q + l.length : Nat) : Int) - 1 - (j : Int)) = q + (l.length - 1 - j) := by show (((q + l.length : Nat) : Int) - 1 - (j : Int)).toNat = _; omega
    rw [ea, eb, g4 j (by omega), if_neg (by omega), g4 (l.length - 1 - j) (by omega), if_neg (by omega)]
    refine ih _ _ _ ⟨rfl, (hf.s _ _).s _ _, j + 1, by omega, by omega, (zI_nk (by decide)).trans ((zI_nk (by decide)).trans g2), fun i hi => (zI_ni (by omega)).trans ((zI_ni (by omega)).trans (g3 i hi)), fun i hi => ?_⟩ (by show 400 - ((j : Int) + 1).toNat < 400 - (j : Int).toNat; omega)
    by_cases e1 : i = l.length - 1 - j
    · rw [zI_eq rfl (by omega), if_pos (by omega), show l.length - 1 - i = j by omega]
    · rw [zI_ni (by omega)]
      by_cases e2 : i = j
      · rw [zI_eq rfl (by omega), if_pos (by omega), e2]
      · rw [zI_ni (by omega), g4 i hi]
        by_cases e3 : i < j ∨ l.length ≤ i + j
        · rw [if_pos e3, if_pos (by omega)]
        · rw [if_neg e3, if_neg (by omega)]
theorem m_turn126 (hl : l.length ≤ 400) (hq : q ≤ 5500) (h : oW m0 q l m) (hf : oF m0 m) (c : Int) : zok (zfx (f7_changes_126 c (q : Int)) (fun _ _ => none) zFu (q : Int) m) (fun m' => oW m0 q (l.map (tf c)) m' ∧ oF m0 m') := by
  refine zok_x2 (fun (x4 : Int) m => oF m0 m ∧ ∃ j : Nat, x4 = ((q + j : Nat) : Int) ∧ j ≤ l.length ∧ zI m 292 29 = ((q + l.length : Nat) : Int) ∧ (∀ i, i < q → zI m 333 i = zI m0 333 i) ∧ ∀ i, i < l.length → zI m 333 (q + i) = if i < j then tf c (l.getD i 0) else l.getD i 0) (fun x4 _ => 6000 - x4.toNat) (fun kk x4 m hx ih => ?_) zFu _ m ⟨hf, 0, rfl, by omega, h.1, h.2.2, fun i hi => by rw [if_neg (by omega)]; exact h.2.1 i hi⟩ (by show 6000 - _ < 100000; omega)
  obtain ⟨hf, j, rfl, g1, g2, g3, g4⟩ := hx
  unfold f7_changes_126
  rw [g2]
  refine zok_if (fun h9 => zok_some ⟨⟨by rw [List.length_map]; exact g2, fun i hi => ?_, g3⟩, hf⟩) (fun h9 => ?_)
  · rw [List.length_map] at hi
    rw [gd_map hi, g4 i hi, if_pos (by omega)]
  · refine zok_gd ⟨by omega, by rw [zl_m2.2.2.1]; omega⟩ (zok_co (m_turned _ _) (fun r hr => ?_))
    subst hr
    rw [zx_nat, g4 j (by omega), if_neg (by omega)]
    refine zok_gd ⟨by omega, by rw [zl_m2.2.2.1]; omega⟩ (zok_lt (zok_gl ⟨by omega, by omega⟩ (ih _ _ ⟨hf.s _ _, j + 1, by omega, by omega, (zI_nk (by decide)).trans g2, fun i hi => (zI_ni (by omega)).trans (g3 i hi), fun i hi => ?_⟩ (by show 6000 - (((q + j : Nat) : Int) + 1).toNat < 6000 - ((q + j : Nat) : Int).toNat; omega))))
    by_cases e : i = j
    · rw [zI_eq rfl (by omega), if_pos (by omega), e]
    · rw [zI_ni (by omega), g4 i hi]
      by_cases e2 : i < j
      · rw [if_pos e2, if_pos (by omega)]
      · rw [if_neg e2, if_neg (by omega)]
theorem m_changes (hl : l.length ≤ 400) (hq : q ≤ 5500) (h : oW m0 q l m) (hf : oF m0 m) (c : Int) : zok (f7_changes c (q : Int) m) (fun m' => oW m0 q (chgB c l) m' ∧ oF m0 m') := by
  unfold f7_changes
  rw [h.1]
  refine zok_gl ⟨by omega, by omega⟩ ?_
  rw [show ((q + l.length : Nat) : Int) - (q : Int) = (l.length : Int) by omega]
  refine zok_if (fun h5 => zok_lt ?_) (fun h5 => zok_if (fun h4 => ?_) (fun h4 => zok_if (fun h3 => ?_) (fun h3 => ?_)))
  · have e : chgB c l = dgs l.length := by unfold chgB; rw [if_neg (by omega), if_neg (by omega), if_neg (by omega), if_neg (by omega), if_pos h5]
    rw [e]
    refine zok_cm (m_number hl hq (m0 := m0) ⟨zI_eq rfl rfl, fun i hi => absurd hi (Nat.not_lt_zero i), fun i hi => (zI_nk (by decide)).trans (h.2.2 i hi)⟩ (hf.o _)) (fun x hx => zok_some hx)
  · have e : chgB c l = l.take 1 := by unfold chgB; rw [if_neg (by omega), if_neg (by omega), if_neg (by omega), if_pos h4]
    rw [e]
    unfold f7_changes_41
    refine zok_if (fun h9 => zok_gl ⟨by omega, by omega⟩ (zok_lt (zok_some ⟨⟨?_, fun i hi => ?_, fun i hi => (zI_nk (by decide)).trans (h.2.2 i hi)⟩, hf.o _⟩))) (fun h9 => zok_gl ⟨by omega, by omega⟩ (zok_lt (zok_some ⟨⟨?_, fun i hi => ?_, fun i hi => (zI_nk (by decide)).trans (h.2.2 i hi)⟩, hf.o _⟩)))
    · rw [zI_eq rfl rfl, List.length_take]; omega
    · rw [List.length_take] at hi; omega
    · rw [zI_eq rfl rfl, List.length_take]; omega
    · rw [List.length_take] at hi
      rw [zI_nk (by decide), h.2.1 i (by omega), List.getD_eq_getElem?_getD, List.getD_eq_getElem?_getD, List.getElem?_take, if_pos (by omega)]
  · have e : chgB c l = l.reverse := by unfold chgB; rw [if_neg (by omega), if_neg (by omega), if_pos h3]
    rw [e]
    exact m_rev hl hq h hf c
  · have e : chgB c l = l.map (tf c) := by
      unfold chgB
      by_cases c1 : c = 1
      · rw [if_pos c1]; congr 1; funext x; unfold tf; rw [if_pos c1]
      · rw [if_neg c1]
        by_cases c2 : c = 2
        · rw [if_pos c2]; congr 1; funext x; unfold tf; rw [if_neg c1, if_pos c2]
        · rw [if_neg c2, if_neg h3, if_neg h4, if_neg h5]
          have e9 : tf c = id := by funext x; unfold tf; rw [if_neg c1, if_neg c2]; rfl
          rw [e9, List.map_id]
    rw [e]
    exact m_turn126 hl hq h hf c
end mChg
