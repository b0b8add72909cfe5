/-! THE CLASS'S VIEW: the order of leaving -/
theorem cnt_put {P Q : Nat → Bool} {n x : Nat} (hx : x < n) (hp : P x = false) (hq : Q x = true) (h : ∀ i, i ≠ x → Q i = P i) : cnt Q n = cnt P n + 1 := by
  induction n with
  | zero => omega
  | succ n ih =>
    show cnt Q n + _ = cnt P n + _ + 1
    by_cases e : x = n
    · subst e
      rw [hp, hq, if_pos rfl, if_neg (by decide), cnt_congr (P := Q) (Q := P) (fun i hi => h i (by omega))]
    · rw [ih (by omega), h n (by omega)]; omega
/-- a list of fields from 1 to 9, each once -/
def ordOK (l : List Nat) : Prop := l.length = cnt (fun i => decide (i ∈ l)) 10 ∧ ∀ x ∈ l, x < 10 ∧ x ≠ 0
theorem ordOK.nil : ordOK [] := ⟨(by decide), fun x h => absurd h List.not_mem_nil⟩
theorem ordOK.put {l : List Nat} {x : Nat} (h : ordOK l) (hx : x < 10) (h0 : x ≠ 0) (hn : x ∉ l) : ordOK (l ++ [x]) := by
  refine ⟨?_, fun y hy => ?_⟩
  · rw [List.length_append, h.1, cnt_put (P := fun i => decide (i ∈ l)) (Q := fun i => decide (i ∈ l ++ [x])) hx (decide_eq_false hn) (decide_eq_true (by simp)) (fun i hi => by simp [hi])]; rfl
  · rcases List.mem_append.mp hy with h1 | h1
    · exact h.2 y h1
    · rw [List.mem_singleton.mp h1]; exact ⟨hx, h0⟩
theorem ordOK.le {l : List Nat} (h : ordOK l) : l.length ≤ 9 := by
  have h1 : cnt (fun i => decide (i ∈ l)) 10 < cnt (fun _ => true) 10 := cnt_lt (j := 0) (fun _ _ _ => rfl) (by decide) rfl (decide_eq_false (fun q => (h.2 0 q).2 rfl))
  have h2 : cnt (fun _ => true) 10 = 10 := rfl
  rw [h.1]; omega
theorem ordP_ok {S : zSn} (hW : wS S) (ty : Nat → Bool) : ∀ k, k ≤ sN S → ordOK (ordP S ty k) := by
  intro k
  induction k with
  | zero => intro _; exact ordOK.nil
  | succ k ih =>
    intro hk
    show ordOK (if vSh S ty k = true ∧ sF S k ≠ 0 ∧ (sF S k).toNat ∉ ordP S ty k then _ else _)
    obtain ⟨f1, f2, -⟩ := hW.2.2.2.1 k (by omega)
    by_cases e : vSh S ty k = true ∧ sF S k ≠ 0 ∧ (sF S k).toNat ∉ ordP S ty k
    · rw [if_pos e]; exact (ih (by omega)).put (by omega) (by omega) e.2.2
    · rw [if_neg e]; exact ih (by omega)
theorem ordN_ok (S : zSn) (ty : Nat → Bool) : ∀ k, k ≤ 10 → ordOK (ordN S ty k) ∧ ∀ x ∈ ordN S ty k, x < k := by
  intro k
  induction k with
  | zero => intro _; exact ⟨ordOK.nil, fun x h => absurd h List.not_mem_nil⟩
  | succ k ih =>
    intro hk
    obtain ⟨h1, h2⟩ := ih (by omega)
    have e0 : ordN S ty (k + 1) = if k ≠ 0 ∧ vLv S ty k = true then ordN S ty k ++ [k] else ordN S ty k := rfl
    rw [e0]
    by_cases e : k ≠ 0 ∧ vLv S ty k = true
    · rw [if_pos e]
      refine ⟨h1.put (by omega) e.1 (fun q => absurd (h2 k q) (Nat.lt_irrefl k)), fun x hx => ?_⟩
      rcases List.mem_append.mp hx with h3 | h3
      · have := h2 x h3; omega
      · rw [List.mem_singleton.mp h3]; omega
    · rw [if_neg e]; exact ⟨h1, fun x hx => by have := h2 x hx; omega⟩
/-- the view's rows of the order hold this list -/
def vOl (l : List Nat) (m : zM) : Prop := zI m 200 10 = l.length ∧ ∀ i, i < l.length → zI m 206 i = (l.getD i 0 : Nat)
def vFrO (μ m : zM) : Prop := zSm (fun k => k ≠ 200 ∧ k ≠ 206) μ m ∧ (∀ i, zR m 200 i = zR μ 200 i ∧ zL m 200 i = zL μ 200 i) ∧ ∀ i, i ≠ 10 → zI m 200 i = zI μ 200 i
section vOrder
variable {μ0 μ m : zM} {t : Nat} {S : zSn} {ty : Nat → Bool} {Q : zM → Prop}
theorem v_add {l : List Nat} (h : vOl l m) (hf : vFrO μ0 m) (hl : l.length < 10) (f : Nat) : zok (f4_addToOrder (f : Int) m) (fun m' => vOl (l ++ [f]) m' ∧ vFrO μ0 m') := by
  obtain ⟨l1, l2, l3, l4, l5, l6, l7, l8⟩ := zl_200s
  unfold f4_addToOrder
  rw [h.1]
  refine zok_f (by omega) (zok_gd ⟨by omega, by omega⟩ (zok_lt ?_))
  rw [zI_nk (by decide), h.1, zx_nat]
  refine zok_gl ⟨by omega, by omega⟩ (zok_lt (zok_some ⟨⟨?_, fun i hi => ?_⟩, (hf.1.sI (fun h => h.2 rfl)).sI (fun h => h.1 rfl), hf.2.1, fun i hi => (zI_ni hi).trans ((zI_nk (by decide)).trans (hf.2.2 i hi))⟩))
  · rw [zI_eq rfl rfl, List.length_append]; rfl
  · rw [List.length_append, List.length_singleton] at hi
    rw [zI_nk (by decide), List.getD_eq_getElem?_getD, List.getElem?_append]
    by_cases e : i < l.length
    · rw [zI_ni (by omega), if_pos e, ← List.getD_eq_getElem?_getD]; exact h.2 i e
    · rw [zI_eq rfl (by omega), if_neg e, show i - l.length = 0 by omega]; rfl
theorem vFrO_V (h : vFrO μ m) (hV : vShown S ty μ) : vShown S ty m := by
  obtain ⟨a1, a2, a3, a4, a5⟩ := hV
  have e : zI m 200 3 = zI μ 200 3 := h.2.2 3 (by decide)
  exact ⟨fun o ho => by rw [(h.1 202 (by decide) o).1]; exact a1 o ho, fun f hf => by rw [(h.1 203 (by decide) f).1]; exact a2 f hf, fun f hf => by rw [(h.1 204 (by decide) f).1]; exact a3 f hf, by rw [e]; exact a4, by rw [e]; exact a5⟩
theorem v_ordEnd {l : List Nat} (hV : vShown S ty μ0) (h : vOl l m) (hf : vFrO μ0 m) (hl : l.length < 10) (o : Int) : zok (f4_arrangeOrder_102 o m) (fun m' => vOl (l ++ if vLv S ty 0 = true then [0] else []) m' ∧ vFrO μ0 m') := by
  unfold f4_arrangeOrder_102
  refine zok_co (v_isLive (vFrO_V hf hV) (show 0 < 10 by decide)) (fun b hb => ?_)
  subst hb
  cases e : vLv S ty 0 with
  | false => exact zok_t rfl (zok_some ⟨by simpa using h, hf⟩)
  | true => exact zok_f (by decide) (zok_cm (v_add h hf hl 0) (fun m4 h4 => zok_some ⟨by simpa using h4.1, h4.2⟩))
theorem v_order (ht : okT t) (hR : zR μ0 200 0 = t) (hS : pSc μ0 t S) (hW : wS S) (hV : vShown S ty μ0) {o : Int} (ho : o = 0 ∨ o = 1) : zok (f4_arrangeOrder o μ0) (fun m => vOl (vOrd S ty o) m ∧ vFrO μ0 m) := by
  obtain ⟨q1, q2, q3, q4, q5, q6, q7, q8, q9, q10, q11, q12, q13, -⟩ := ht.f
  obtain ⟨l1, l2, l3, l4, l5, l6, l7, l8⟩ := zl_200s
  have hn := hW.1
  unfold f4_arrangeOrder
  have hF0 : vFrO μ0 (zsI μ0 200 10 0) := ⟨zSm.rf.sI (fun h => h.1 rfl), fun i => ⟨rfl, rfl⟩, fun i hi => zI_ni hi⟩
  have hO0 : vOl [] (zsI μ0 200 10 0) := ⟨zI_eq rfl rfl, fun i hi => absurd hi (Nat.not_lt_zero i)⟩
  refine zok_lt (zok_if (fun h0 => ?_) (fun h0 => ?_))
  · subst h0
    refine zok_x2 (fun (x : Int) m => ∃ j : Nat, x = j ∧ 1 ≤ j ∧ j ≤ 10 ∧ vOl (ordN S ty j) m ∧ vFrO μ0 m) (fun x _ => 10 - x.toNat) (fun kk x m hx ih => ?_) zFu _ _ ⟨1, rfl, by omega, by omega, hO0, hF0⟩ (by show 10 - 1 < 100000; omega)
    obtain ⟨j, rfl, hj1, hj, h1, h2⟩ := hx
    have hlen := (ordN_ok S ty j hj).1.le
    unfold f4_arrangeOrder_77
    refine zok_if (fun h => ?_) (fun h => zok_co (v_isLive (vFrO_V h2 hV) (show j < 10 by omega)) (fun b hb => ?_))
    · have e : j = 10 := by omega
      subst e
      have := v_ordEnd hV h1 h2 (by omega) 0
      exact this
    · subst hb
      have e0 : ordN S ty (j + 1) = if j ≠ 0 ∧ vLv S ty j = true then ordN S ty j ++ [j] else ordN S ty j := rfl
      cases e : vLv S ty j with
      | false => exact zok_t rfl (zok_gl ⟨by omega, by omega⟩ (ih _ _ ⟨j + 1, by omega, by omega, by omega, by rw [e0, if_neg (fun q => by rw [e] at q; exact absurd q.2 (by decide))]; exact h1, h2⟩ (by show 10 - ((j : Int) + 1).toNat < 10 - (j : Int).toNat; omega)))
      | true => exact zok_f (by decide) (zok_cm (v_add h1 h2 (by omega) j) (fun m4 h4 => zok_gl ⟨by omega, by omega⟩ (ih _ _ ⟨j + 1, by omega, by omega, by omega, by rw [e0, if_pos ⟨by omega, e⟩]; exact h4.1, h4.2⟩ (by show 10 - ((j : Int) + 1).toNat < 10 - (j : Int).toNat; omega))))
  · have h1o : o = 1 := by omega
    subst h1o
    refine zok_x3 (fun (p x : Int) m => ∃ k : Nat, x = k ∧ k ≤ sN S ∧ vOl (ordP S ty k) m ∧ vFrO μ0 m ∧ ∀ i, i < 32 → mbit p i = decide (i = 0 ∨ i ∈ ordP S ty k)) (fun _ x _ => 60 - x.toNat) (fun kk p x m hx ih => ?_) zFu _ _ _ ⟨0, rfl, by omega, hO0, hF0, fun i hi => by rw [mbit_1 i hi]; apply decide_eq_decide.mpr; show i = 0 ↔ i = 0 ∨ i ∈ ([] : List Nat); simp⟩ (by show 60 - 0 < 100000; omega)
    obtain ⟨k, rfl, hk, h1, h2, h3⟩ := hx
    have hlen := (ordP_ok hW ty k hk).le
    have hV2 := vFrO_V h2 hV
    have hR2 : zR m 200 0 = t := ((h2.2.1 0).1).trans hR
    have hS2 : pSc m t S := pSc_v ht h2.1 (fun c hc => by show c ≠ 200 ∧ c ≠ 206; omega) hS
    unfold f4_arrangeOrder_13
    simp only [hR2, q3, q5, hS2.2.2.1, zx_nat]
    refine zok_if (fun h => ?_) (fun h => ?_)
    · have e : k = sN S := by omega
      subst e
      exact v_ordEnd hV h1 h2 (by omega) 1
    · have hk2 : k < sN S := by omega
      obtain ⟨f1, f2, -⟩ := hW.2.2.2.1 k hk2
      have e0 : ordP S ty (k + 1) = if vSh S ty k = true ∧ sF S k ≠ 0 ∧ (sF S k).toNat ∉ ordP S ty k then ordP S ty k ++ [(sF S k).toNat] else ordP S ty k := rfl
      refine zok_gd ⟨by omega, by omega⟩ (zok_lt (zok_gd ⟨by omega, by omega⟩ ?_))
      simp only [hV2.1 k hk2, (hS2.2.2.2.1 k hk2).1]
      have meas : 60 - ((k : Int) + 1).toNat < 60 - (k : Int).toNat := by omega
      cases e : vSh S ty k with
      | false => exact zok_t rfl (zok_gl ⟨by omega, by omega⟩ (ih _ _ _ ⟨k + 1, by omega, by omega, by rw [e0, if_neg (fun q => by rw [e] at q; exact absurd q.1 (by decide))]; exact h1, h2, by rw [e0, if_neg (fun q => by rw [e] at q; exact absurd q.1 (by decide))]; exact h3⟩ meas))
      | true =>
        refine zok_f (by decide) (zok_lt (zok_lt (zok_if (fun h9 => ?_) (fun h9 => ?_))))
        · have hb := (mtest1 f1 (by omega)).mp h9
          rw [h3 _ (by omega)] at hb
          have hb2 := of_decide_eq_false hb
          have hc : vSh S ty k = true ∧ sF S k ≠ 0 ∧ (sF S k).toNat ∉ ordP S ty k := ⟨e, fun q => hb2 (Or.inl (by omega)), fun q => hb2 (Or.inr q)⟩
          have ha := v_add (μ0 := μ0) h1 h2 (by omega) (sF S k).toNat
          rw [show (((sF S k).toNat : Nat) : Int) = sF S k by omega] at ha
          refine zok_lt (zok_lt (zok_cm ha (fun m4 h4 => zok_gl ⟨by omega, by omega⟩ (ih _ _ _ ⟨k + 1, by omega, by omega, by rw [e0, if_pos hc]; exact h4.1, h4.2, fun i hi => ?_⟩ meas))))
          rw [mbit_or, mbit_shl f1 (by omega), h3 i hi, e0, if_pos hc]
          rw [← Bool.decide_or]
          apply decide_eq_decide.mpr
          rw [List.mem_append, List.mem_singleton]
          constructor
          · rintro ((q | q) | q)
            · exact Or.inl q
            · exact Or.inr (Or.inl q)
            · exact Or.inr (Or.inr (by omega))
          · rintro (q | q | q)
            · exact Or.inl (Or.inl q)
            · exact Or.inl (Or.inr q)
            · exact Or.inr (by omega)
        · have hb : mbit p (sF S k).toNat = true := by
            cases e9 : mbit p (sF S k).toNat with
            | true => rfl
            | false => exact absurd ((mtest1 f1 (by omega)).mpr e9) h9
          rw [h3 _ (by omega)] at hb
          have hb2 := of_decide_eq_true hb
          have hc : ¬ (vSh S ty k = true ∧ sF S k ≠ 0 ∧ (sF S k).toNat ∉ ordP S ty k) := fun q => by
            rcases hb2 with h8 | h8
            · exact q.2.1 (by omega)
            · exact q.2.2 h8
          exact zok_gl ⟨by omega, by omega⟩ (ih _ _ _ ⟨k + 1, by omega, by omega, by rw [e0, if_neg hc]; exact h1, h2, by rw [e0, if_neg hc]; exact h3⟩ meas)
end vOrder
