/-! THE CLASS'S VIEW: rendering -/
theorem zok_x7 {A B C D E F G R : Type} {step : (A → B → C → D → E → F → G → Option R) → A → B → C → D → E → F → G → Option R} {bot : A → B → C → D → E → F → G → Option R} {Q : R → Prop} (I : A → B → C → D → E → F → G → Prop) (m : A → B → C → D → E → F → G → Nat) (hs : ∀ (k : A → B → C → D → E → F → G → Option R) (a : A) (b : B) (c : C) (d : D) (x : E) (y : F) (z : G), I a b c d x y z → (∀ a' b' c' d' x' y' z', I a' b' c' d' x' y' z' → m a' b' c' d' x' y' z' < m a b c d x y z → zok (k a' b' c' d' x' y' z') Q) → zok (step k a b c d x y z) Q) : ∀ (n : Nat) (a : A) (b : B) (c : C) (d : D) (x : E) (y : F) (z : G), I a b c d x y z → m a b c d x y z < n → zok (zfx step bot n a b c d x y z) Q := by
  intro n
  induction n with
  | zero => intro a b c d x y z _ h; omega
  | succ n ih => intro a b c d x y z hI h; exact hs _ a b c d x y z hI (fun a' b' c' d' x' y' z' hI' h' => ih a' b' c' d' x' y' z' hI' (by omega))
theorem gd_map {f : Int → Int} {l : List Int} {k : Nat} (h : k < l.length) : (l.map f).getD k 0 = f (l.getD k 0) := by
  rw [List.getD_eq_getElem?_getD, List.getD_eq_getElem?_getD, List.getElem?_map, List.getElem?_eq_getElem h]; rfl
theorem gd_rev {l : List Int} {k : Nat} (h : k < l.length) : l.reverse.getD k 0 = l.getD (l.length - 1 - k) 0 := by
  rw [List.getD_eq_getElem?_getD, List.getD_eq_getElem?_getD, List.getElem?_reverse h]
theorem gd_app (l1 l2 : List Int) (i : Nat) : (l1 ++ l2).getD i 0 = if i < l1.length then l1.getD i 0 else l2.getD (i - l1.length) 0 := by
  rw [List.getD_eq_getElem?_getD, List.getElem?_append]
  by_cases h : i < l1.length
  · rw [if_pos h, if_pos h, List.getD_eq_getElem?_getD]
  · rw [if_neg h, if_neg h, List.getD_eq_getElem?_getD]
theorem dgL_at : ∀ (m n k : Nat), k < dgF m n → (dgL m n).getD k 0 = 48 + ((n / 10 ^ (dgF m n - 1 - k) % 10 : Nat) : Int) := by
  intro m
  induction m with
  | zero =>
    intro n k hk
    have h0 : k = 0 := by have : dgF 0 n = 1 := rfl; omega
    subst h0
    show (48 : Int) + _ = 48 + ((n / 10 ^ 0 % 10 : Nat) : Int)
    rw [Nat.pow_zero, Nat.div_one]
  | succ m ih =>
    intro n k hk
    have e1 : dgF (m + 1) n = if n < 10 then 1 else dgF m (n / 10) + 1 := rfl
    have e2 : dgL (m + 1) n = if n < 10 then [48 + (n : Int)] else dgL m (n / 10) ++ [48 + ((n % 10 : Nat) : Int)] := rfl
    rw [e1] at hk ⊢
    rw [e2]
    by_cases h : n < 10
    · rw [if_pos h] at hk ⊢
      rw [if_pos h]
      have h0 : k = 0 := by omega
      subst h0
      show (48 : Int) + n = 48 + ((n / 10 ^ 0 % 10 : Nat) : Int)
      rw [Nat.pow_zero, Nat.div_one, Nat.mod_eq_of_lt h]
    · rw [if_neg h] at hk ⊢
      rw [if_neg h, gd_app, dgL_len]
      by_cases h2 : k < dgF m (n / 10)
      · rw [if_pos h2, ih _ _ h2, show dgF m (n / 10) + 1 - 1 - k = (dgF m (n / 10) - 1 - k) + 1 by omega, Nat.pow_succ, Nat.mul_comm, ← Nat.div_div_eq_div_mul]
      · rw [if_neg h2, show k - dgF m (n / 10) = 0 by omega, show dgF m (n / 10) + 1 - 1 - k = 0 by omega, Nat.pow_zero, Nat.div_one]; rfl
theorem v_digit {n j : Nat} (hn : n ≤ 1000000) (hj : j ≤ 30) : zok (f4_digitAhead (n : Int) (j : Int)) (fun r => r = 48 + ((n / 10 ^ j % 10 : Nat) : Int)) := by
  unfold f4_digitAhead
  refine zok_x2 (fun (w i : Int) => ∃ q : Nat, i = q ∧ q ≤ j ∧ w = ((n / 10 ^ q : Nat) : Int)) (fun _ i => j - i.toNat) (fun kk w i hx ih => ?_) zFu _ _ ⟨0, rfl, by omega, by rw [Nat.pow_zero, Nat.div_one]⟩ (by show j - 0 < 100000; omega)
  obtain ⟨q, rfl, hq, rfl⟩ := hx
  have hb : n / 10 ^ q ≤ n := Nat.div_le_self _ _
  unfold f4_digitAhead_5
  refine zok_if (fun h => ?_) (fun h => zok_lt ?_)
  · have e : q = j := by omega
    subst e
    refine zok_lt ?_
    generalize n / 10 ^ q = w at *
    rw [zremL_nn (by omega) (by omega)]
    exact zok_gl ⟨by omega, by omega⟩ (zok_gl ⟨by omega, by omega⟩ (zok_some (by omega)))
  · have e1 : n / 10 ^ (q + 1) = n / 10 ^ q / 10 := by rw [Nat.pow_succ, ← Nat.div_div_eq_div_mul]
    have go : ∀ w : Nat, w = n / 10 ^ q → zok (zgl ((q : Int) + 1) (fun v3 => kk ((w : Int) / 10) v3)) (fun r => r = 48 + ((n / 10 ^ j % 10 : Nat) : Int)) := fun w hw => zok_gl ⟨by omega, by omega⟩ (ih _ _ ⟨q + 1, by omega, by omega, by rw [e1, ← hw]; omega⟩ (by show j - ((q : Int) + 1).toNat < j - (q : Int).toNat; omega))
    have h2 := go _ rfl
    have h3 : (0 : Int) ≤ ((n / 10 ^ q : Nat) : Int) := Int.natCast_nonneg _
    have h4 : ((n / 10 ^ q : Nat) : Int) ≤ (n : Int) := Int.ofNat_le.mpr hb
    rw [zdivL_nn h3 (by omega)]
    exact h2
theorem v_up (x : Int) : zok (f4_toUpper x) (fun r => r = upc x) := by
  unfold f4_toUpper upc
  refine zok_if (fun h => zok_some (by rw [if_neg (by omega)])) (fun h => zok_if (fun h2 => zok_some (by rw [if_neg (by omega)])) (fun h2 => zok_gl ⟨by omega, by omega⟩ (zok_gl ⟨by omega, by omega⟩ (zok_some (by rw [if_pos (by omega)]; omega)))))
theorem v_low (x : Int) : zok (f4_toLower x) (fun r => r = loc x) := by
  unfold f4_toLower loc
  refine zok_if (fun h => zok_some (by rw [if_neg (by omega)])) (fun h => zok_if (fun h2 => zok_some (by rw [if_neg (by omega)])) (fun h2 => zok_gl ⟨by omega, by omega⟩ (zok_gl ⟨by omega, by omega⟩ (zok_some (by rw [if_pos (by omega)]; omega)))))
/-- the row of a field holds its value -/
def vRow (v : Nat → List Int) (m : zM) (f : Nat) : Prop := ∀ i, i < (v f).length → zI m 207 (400 * f + i) = (v f).getD i 0
section vRend
variable {μ0 m : zM} {t : Nat} {S : zSn} {ty : Nat → Bool} {v : Nat → List Int} {Q : zM → Prop}
theorem v_byte (ht : okT t) (hR : zR m 200 0 = t) (hS : pSc m t S) (hW : wS S) {o : Nat} (ho : o < sN S) (hr : vRow v m (sF S o).toNat) (hl : (v (sF S o).toNat).length ≤ 400) (hL : zL m 205 (sF S o).toNat = (v (sF S o).toNat).length) {k : Nat} (hk : k < (chgB (sC S o) (v (sF S o).toNat)).length) : zok (f4_changedByte (o : Int) (k : Int) (((chgB (sC S o) (v (sF S o).toNat)).length : Int) - 1 - k) m) (fun r => r = (chgB (sC S o) (v (sF S o).toNat)).getD k 0) := by
  obtain ⟨q1, q2, q3, q4, q5, q6, q7, q8, q9, q10, q11, q12, q13, -⟩ := ht.f
  obtain ⟨l1, l2, l3, l4, l5, l6, l7, l8⟩ := zl_200s
  have hn := hW.1
  have hx := hS.2.2.2.1 o ho
  obtain ⟨f1, f2, c1, c2, -⟩ := hW.2.2.2.1 o ho
  have hcl := chgB_len (sC S o) (v (sF S o).toNat)
  unfold f4_changedByte
  simp only [hR, q3, q5, q6, zx_nat, hx.1, hx.2.1]
  refine zok_gd ⟨by omega, by omega⟩ (zok_lt (zok_gl ⟨by omega, by omega⟩ (zok_gd ⟨by omega, by omega⟩ (zok_lt ?_))))
  generalize hlen : (chgB (sC S o) (v (sF S o).toNat)).length = n at *
  -- reading the row
  have rd : ∀ j : Nat, j < (v (sF S o).toNat).length → zI m 207 (zx (sF S o * 400 + j)) = (v (sF S o).toNat).getD j 0 := fun j hj => by
    rw [← hr j hj]; congr 1; show (sF S o * 400 + j).toNat = _; omega
  by_cases e1 : sC S o = 1
  · rw [e1] at hcl ⊢
    have hn2 : n = (v (sF S o).toNat).length := hcl
    refine zok_t rfl (zok_gl ⟨by omega, by omega⟩ (zok_gd ⟨by omega, by rw [l7]; omega⟩ ?_))
    rw [rd k (by omega)]
    refine zok_co (v_up _) (fun r hr => zok_some ?_)
    rw [hr]
    show _ = ((v (sF S o).toNat).map upc).getD k 0
    rw [gd_map (by omega)]
  · refine zok_f e1 ?_
    by_cases e2 : sC S o = 2
    · rw [e2] at hcl ⊢
      have hn2 : n = (v (sF S o).toNat).length := hcl
      refine zok_t rfl (zok_gl ⟨by omega, by omega⟩ (zok_gd ⟨by omega, by rw [l7]; omega⟩ ?_))
      rw [rd k (by omega)]
      refine zok_co (v_low _) (fun r hr => zok_some ?_)
      rw [hr]
      show _ = ((v (sF S o).toNat).map loc).getD k 0
      rw [gd_map (by omega)]
    · refine zok_f e2 ?_
      by_cases e3 : sC S o = 3
      · rw [e3] at hcl ⊢
        have hn2 : n = (v (sF S o).toNat).length := hcl
        refine zok_t rfl (zok_gl ⟨by omega, by omega⟩ (zok_gd ⟨by omega, by rw [l7]; omega⟩ ?_))
        rw [show sF S o * 400 + ((n : Int) - 1 - k) = sF S o * 400 + ((n - 1 - k : Nat) : Int) by omega, rd _ (by omega)]
        refine zok_some ?_
        show _ = (v (sF S o).toNat).reverse.getD k 0
        rw [gd_rev (by omega), hn2]
      · refine zok_f e3 ?_
        by_cases e4 : sC S o = 4
        · rw [e4] at hcl ⊢
          have hn2 : n = min (v (sF S o).toNat).length 1 := hcl
          refine zok_t rfl (zok_gl ⟨by omega, by omega⟩ (zok_gd ⟨by omega, by rw [l7]; omega⟩ ?_))
          rw [rd k (by omega)]
          refine zok_some ?_
          show _ = ((v (sF S o).toNat).take 1).getD k 0
          have hk0 : k = 0 := by omega
          subst hk0
          cases hv : v (sF S o).toNat with
          | nil => rfl
          | cons a l => rfl
        · refine zok_f e4 ?_
          by_cases e5 : sC S o = 5
          · rw [e5] at hcl ⊢
            have hn2 : n = dgt (v (sF S o).toNat).length := hcl
            have hd := dgt_le (v (sF S o).toNat).length
            refine zok_t rfl (zok_gd ⟨by omega, by rw [l5]; omega⟩ ?_)
            rw [show zx (sF S o) = (sF S o).toNat from rfl, hL, show ((n : Int) - 1 - k) = ((n - 1 - k : Nat) : Int) by omega]
            refine zok_co (v_digit (by omega) (by omega)) (fun r hr => zok_some ?_)
            rw [hr]
            show _ = (dgs (v (sF S o).toNat).length).getD k 0
            unfold dgs
            rw [dgL_at 20 _ k (by show k < dgt _; omega), show dgF 20 (v (sF S o).toNat).length = n from hn2.symm]
          · have e0 : sC S o = 0 := by omega
            rw [e0] at hcl ⊢
            have hn2 : n = (v (sF S o).toNat).length := hcl
            refine zok_f (by decide) (zok_gl ⟨by omega, by omega⟩ (zok_gd ⟨by omega, by rw [l7]; omega⟩ ?_))
            rw [rd k (by omega)]
            exact zok_some rfl
theorem s_first (ht : okT t) (hS : pSc m t S) (hW : wS S) {p : Int} (hp : isPart S p) : zok (f2_firstItemOf t p m) (fun r => r = cFirst m t p) := by
  obtain ⟨q1, q2, q3, q4, q5, q6, q7, q8, q9, q10, q11, q12, q13, -⟩ := ht.f
  have hn := hW.1
  have h8 := (hS.2.2.2.2.2.2.2.1 p hp).2
  unfold f2_firstItemOf
  unfold cFirst at *
  simp only [q3, q12]
  rcases hp with h | ⟨o, h1, h2, -⟩
  · exact zok_t h (zok_some (if_pos h).symm)
  · have hne : ¬ p = -1 := by omega
    rw [if_neg hne] at h8
    exact zok_f hne (zok_gd ⟨by omega, by omega⟩ (zok_gl ⟨by have := h8.2.1; show -2147483648 ≤ zI m (t + 9) p.toNat + 1; omega, by have := h8.2.1; have := h8.2.2.1; show zI m (t + 9) p.toNat + 1 < 2147483648; omega⟩ (zok_some (if_neg hne).symm)))
theorem s_end (ht : okT t) (hW : wS S) {p : Int} (hp : isPart S p) : zok (f2_endItemOf t p m) (fun r => r = cEnd m t p) := by
  obtain ⟨q1, q2, q3, q4, q5, q6, q7, q8, q9, q10, q11, q12, q13, -⟩ := ht.f
  have hn := hW.1
  unfold f2_endItemOf
  unfold cEnd
  simp only [q3, q13]
  rcases hp with h | ⟨o, h1, h2, -⟩
  · exact zok_t h (zok_some (if_pos h).symm)
  · have hne : ¬ p = -1 := by omega
    exact zok_f hne (zok_gd ⟨by omega, by omega⟩ (zok_some (if_neg hne).symm))
/-- what has been written into row c from place st on -/
def vWr (μ0 : zM) (c st : Nat) (l : List Int) (m : zM) : Prop := zSm (fun k => k ≠ c) μ0 m ∧ (∀ i, (i < st ∨ st + 400 ≤ i) → zI m c i = zI μ0 c i) ∧ (∀ i, zL m c i = zL μ0 c i ∧ zR m c i = zR μ0 c i) ∧ ∀ i, i < l.length → zI m c (st + i) = l.getD i 0
theorem vWr_put {c st : Nat} {l : List Int} {x : Int} (h : vWr μ0 c st l m) (hl : l.length < 400) : vWr μ0 c st (l ++ [x]) (zsI m c (st + l.length) x) := by
  obtain ⟨h1, h2, h3, h4⟩ := h
  refine ⟨h1.sI (fun h => h rfl), fun i hi => (zI_ni (by omega)).trans (h2 i hi), h3, fun i hi => ?_⟩
  rw [List.length_append, List.length_singleton] at hi
  rw [gd_app]
  by_cases e : i < l.length
  · rw [if_pos e, zI_ni (by omega)]; exact h4 i e
  · rw [if_neg e, zI_eq rfl (by omega), show i - l.length = 0 by omega]; rfl
theorem gd_take (l : List Int) {k : Nat} (h : k < l.length) : l.take (k + 1) = l.take k ++ [l.getD k 0] := by
  rw [List.take_succ, List.getD_eq_getElem?_getD, List.getElem?_eq_getElem h]; rfl
theorem v_rpart {c st : Nat} (hc : (c = 207 ∧ st + 400 ≤ 4000) ∨ (c = 208 ∧ st = 0)) (ht : okT t) (hR : zR μ0 200 0 = t) (hS : pSc μ0 t S) (hW : wS S) {p : Int} (hp : isPart S p) (hrow : ∀ o, o < sN S → sP S o = p → vRow v μ0 (sF S o).toNat ∧ (v (sF S o).toNat).length ≤ 400 ∧ zL μ0 205 (sF S o).toNat = (v (sF S o).toNat).length ∧ (c = 207 → 400 * (sF S o).toNat + 400 ≤ st ∨ st + 400 ≤ 400 * (sF S o).toNat)) (hlen : (tells S v (sB S p)).length ≤ 400) : zok (f4_renderPart p c (st : Int) μ0) (fun m => vWr μ0 c st (tells S v (sB S p)) m) := by
  obtain ⟨q1, q2, q3, q4, q5, q6, q7, q8, q9, q10, q11, q12, q13, q14, q15, q16⟩ := ht.f
  obtain ⟨l1, l2, l3, l4, l5, l6, l7, l8⟩ := zl_200s
  have hn := hW.1
  obtain ⟨a1, a2, a3, a4, a5⟩ := hS.2.2.2.2.2.2.2.1 p hp
  have hcl : st + 400 ≤ zln c := by rcases hc with ⟨h, h2⟩ | ⟨h, h2⟩ <;> subst h <;> omega
  unfold f4_renderPart
  refine zok_gl ⟨by omega, by omega⟩ ?_
  rw [hR]
  refine zok_co (s_first ht hS hW hp) (fun r hr => ?_)
  subst hr
  -- the snippet and the rows in a memory in which only row c has changed
  have keep : ∀ {l : List Int} {m : zM}, vWr μ0 c st l m → zR m 200 0 = t ∧ pSc m t S ∧ (∀ p, cEnd m t p = cEnd μ0 t p) ∧ ∀ o, o < sN S → sP S o = p → vRow v m (sF S o).toNat ∧ zL m 205 (sF S o).toNat = (v (sF S o).toNat).length := by
    intro l m h
    have e : ∀ k, k < 207 → ∀ i, zI m k i = zI μ0 k i := fun k hk i => (h.1 k (by omega) i).1
    refine ⟨((h.1 200 (by omega) 0).2.2).trans hR, pSc_v ht h.1 (fun k hk => by omega) hS, fun p => by unfold cEnd; rw [e t (by omega), e (t + 10) (by omega)], fun o ho hpo => ?_⟩
    obtain ⟨b1, b2, b3, b4⟩ := hrow o ho hpo
    refine ⟨fun i hi => ?_, ((h.1 205 (by omega) _).2.1).trans b3⟩
    rw [← b1 i hi]
    by_cases e7 : c = 207
    · subst e7
      have := b4 rfl
      exact h.2.1 _ (by omega)
    · exact (h.1 207 (by omega) _).1
  refine zok_x4 (fun (x4 x5 x6 : Int) m => x5 = st + 400 ∧ ∃ pre rest : List Int, sB S p = pre ++ rest ∧ x4 = st + (tells S v pre).length ∧ 0 ≤ x6 ∧ x6 ≤ cEnd μ0 t p ∧ pSel μ0 (zit t) p x6.toNat (cEnd μ0 t p - x6).toNat = rest ∧ vWr μ0 c st (tells S v pre) m) (fun _ _ x6 _ => 700 - x6.toNat) (fun kk x4 x5 x6 m hx ih => ?_) zFu _ _ _ _ ⟨rfl, [], sB S p, rfl, by show (st : Int) = st + ((0 : Nat) : Int); omega, a2, a3, a5, zSm.rf, fun i _ => rfl, fun i => ⟨rfl, rfl⟩, fun i hi => absurd hi (Nat.not_lt_zero i)⟩ (by show 700 - _ < 100000; omega)
  obtain ⟨rfl, pre, rest, hB, rfl, h0, h1, hsel, hw⟩ := hx
  obtain ⟨kR, kS, kE, kF⟩ := keep hw
  unfold f4_renderPart_20
  simp only [kR]
  refine zok_co (s_end (m := m) ht hW hp) (fun r hr => ?_)
  rw [kE] at hr
  subst hr
  refine zok_if (fun h => zok_some ?_) (fun h => ?_)
  · have e : (cEnd μ0 t p - x6).toNat = 0 := by omega
    rw [e] at hsel
    have hr0 : rest = [] := hsel.symm
    rw [hB, hr0, List.append_nil]
    exact hw
  · obtain ⟨n, hn9⟩ : ∃ n, (cEnd μ0 t p - x6).toNat = n + 1 := ⟨(cEnd μ0 t p - x6).toNat - 1, by omega⟩
    rw [hn9] at hsel
    have e6 : (x6 + 1).toNat = x6.toNat + 1 := by omega
    have en : (cEnd μ0 t p - (x6 + 1)).toNat = n := by omega
    have hsel2 : (if zI μ0 (zit t + 1) x6.toNat = p then zI μ0 (zit t) x6.toNat :: pSel μ0 (zit t) p (x6.toNat + 1) n else pSel μ0 (zit t) p (x6.toNat + 1) n) = rest := hsel
    have eI : ∀ k, k < 207 → ∀ i, zI m k i = zI μ0 k i := fun k hk i => (hw.1 k (by omega) i).1
    refine zok_gd ⟨by omega, by rw [q15]; omega⟩ ?_
    rw [show zx x6 = x6.toNat from rfl, eI (zit t + 1) (by omega), eI (zit t) (by omega)]
    refine zok_if (fun hpt => ?_) (fun hpt => ?_)
    · rw [if_pos hpt] at hsel2
      generalize hx9 : zI μ0 (zit t) x6.toNat = x at *
      refine zok_gd ⟨by omega, by rw [q14]; omega⟩ (zok_lt ?_)
      have hxm : x ∈ sB S p := by rw [hB, ← hsel2]; exact List.mem_append_right _ List.mem_cons_self
      have hxr := (hW.2.2.2.2.2.2.2.1 p hp).2.1 x hxm
      have hlenp : (tells S v pre).length + (tell1 S v x).length ≤ 400 := by
        rw [hB, ← hsel2, tells_app, List.length_append] at hlen
        have e3 : tells S v (x :: pSel μ0 (zit t) p (x6.toNat + 1) n) = tell1 S v x ++ tells S v (pSel μ0 (zit t) p (x6.toNat + 1) n) := rfl
        rw [e3, List.length_append] at hlen
        omega
      -- the inner loop, for both kinds of items
      have inner : ∀ len : Int, len = (tell1 S v x).length → zok (zfx (f4_renderPart_89 p c (st : Int) kk) (fun _ _ _ _ _ _ _ => none) zFu ((st : Int) + (tells S v pre).length) ((st : Int) + 400) x6 x len 0 m) (fun m => vWr μ0 c st (tells S v (sB S p)) m) := by
        intro len hlen9
        refine zok_x7 (fun (y4 y5 y6 y7 y8 y9 : Int) m' => y5 = st + 400 ∧ y6 = x6 ∧ y7 = x ∧ y8 = len ∧ ∃ k : Nat, y9 = k ∧ k ≤ (tell1 S v x).length ∧ y4 = st + ((tells S v pre).length + k : Nat) ∧ vWr μ0 c st (tells S v pre ++ (tell1 S v x).take k) m') (fun _ _ _ _ _ y9 _ => 500 - y9.toNat) (fun kk2 y4 y5 y6 y7 y8 y9 m' hy ih2 => ?_) zFu _ _ _ _ _ _ _ ⟨rfl, rfl, rfl, rfl, 0, rfl, by omega, by omega, by rw [List.take_zero, List.append_nil]; exact hw⟩ (by show 500 - 0 < 100000; omega)
        obtain ⟨rfl, rfl, rfl, rfl, k, rfl, hk, rfl, hw'⟩ := hy
        have hlk : (tells S v pre ++ (tell1 S v y7).take k).length = (tells S v pre).length + k := by rw [List.length_append, List.length_take]; omega
        unfold f4_renderPart_89
        refine zok_if (fun h8 => ?_) (fun h8 => ?_)
        · have hk2 : k = (tell1 S v y7).length := by omega
          rw [hk2, List.take_length] at hw'
          have e9 : tells S v (pre ++ [y7]) = tells S v pre ++ tell1 S v y7 := by rw [tells_app]; show _ ++ (tell1 S v y7 ++ []) = _; rw [List.append_nil]
          refine zok_gl ⟨by omega, by omega⟩ (ih _ _ _ _ ⟨rfl, pre ++ [y7], pSel μ0 (zit t) p (y6.toNat + 1) n, by rw [hB, ← hsel2, List.append_assoc]; rfl, by rw [e9, List.length_append, hk2], by omega, by omega, by rw [e6, en], by rw [e9]; exact hw'⟩ (by show 700 - (y6 + 1).toNat < 700 - y6.toNat; omega))
        · have hk3 : k < (tell1 S v y7).length := by omega
          refine zok_f (by omega) ?_
          have wr : ∀ b : Int, b = (tell1 S v y7).getD k 0 → zok (f4_renderPart_134 p c (st : Int) kk kk2 ((st : Int) + ((tells S v pre).length + k : Nat)) ((st : Int) + 400) y6 y7 y8 (k : Int) b ((st : Int) + ((tells S v pre).length + k : Nat)) c m') (fun m => vWr μ0 c st (tells S v (sB S p)) m) := by
            intro b hb
            unfold f4_renderPart_134
            refine zok_gd ⟨by omega, by omega⟩ (zok_lt (zok_gl ⟨by omega, by omega⟩ (zok_gl ⟨by omega, by omega⟩ (ih2 _ _ _ _ _ _ _ ⟨rfl, rfl, rfl, rfl, k + 1, by omega, by omega, by omega, ?_⟩ (by show 500 - ((k : Int) + 1).toNat < 500 - (k : Int).toNat; omega)))))
            rw [gd_take _ hk3, ← List.append_assoc, hb, show zx ((st : Int) + ((tells S v pre).length + k : Nat)) = st + (tells S v pre ++ (tell1 S v y7).take k).length from by rw [hlk]; show (_ : Int).toNat = _; omega]
            exact vWr_put hw' (by omega)
          by_cases hneg : y7 < 0
          · refine zok_t hneg (zok_gl ⟨by omega, by omega⟩ (zok_gl ⟨by omega, by omega⟩ (zok_gl ⟨by omega, by omega⟩ (zok_gl ⟨by omega, by omega⟩ ?_))))
            obtain ⟨g1, g2⟩ := body_occ hW hp hxm hneg
            obtain ⟨kR', kS', kE', kF'⟩ := keep hw'
            obtain ⟨b1, b2⟩ := kF' _ g1 g2
            obtain ⟨-, b3, -⟩ := hrow _ g1 g2
            have et : tell1 S v y7 = chgB (sC S (-y7 - 1).toNat) (v (sF S (-y7 - 1).toNat).toNat) := if_neg (by omega)
            rw [et] at hk3 hlen9
            have hh := v_byte (v := v) ht kR' kS' hW g1 b1 b3 b2 hk3
            rw [show (((-y7 - 1).toNat : Nat) : Int) = -y7 - 1 by omega, ← hlen9] at hh
            exact zok_co hh (fun r hr => wr r (by rw [hr, et]))
          · refine zok_f hneg (wr _ ?_)
            have et : tell1 S v y7 = [y7] := if_pos (by omega)
            rw [et] at hk3 ⊢
            have : k = 0 := by have : [y7].length = 1 := rfl; omega
            subst this; rfl
      by_cases hneg : x < 0
      · refine zok_t hneg (zok_gl ⟨by omega, by omega⟩ (zok_gl ⟨by omega, by omega⟩ ?_))
        obtain ⟨g1, g2⟩ := body_occ hW hp hxm hneg
        obtain ⟨b1, b2⟩ := kF _ g1 g2
        obtain ⟨-, b3, -⟩ := hrow _ g1 g2
        have hh := v_chl (v := fun f => (v f).length) ht kR kS hW g1 b2 (by omega)
        rw [show (((-x - 1).toNat : Nat) : Int) = -x - 1 by omega] at hh
        refine zok_co hh (fun r hr => zok_lt ?_)
        have et := tell1_len S v x
        rw [if_neg (by omega)] at et
        have hr2 : r = (tell1 S v x).length := by rw [hr, et]
        rw [show min r 400 = r by omega]
        exact zok_gl ⟨by omega, by omega⟩ (inner _ hr2)
      · refine zok_f hneg (inner 1 ?_)
        have et := tell1_len S v x
        rw [if_pos (by omega)] at et
        rw [et]; rfl
    · rw [if_neg hpt] at hsel2
      exact zok_gl ⟨by omega, by omega⟩ (ih _ _ _ _ ⟨rfl, pre, rest, hB, rfl, by omega, by omega, by rw [e6, en]; exact hsel2, hw⟩ (by show 700 - (x6 + 1).toNat < 700 - x6.toNat; omega))
end vRend
