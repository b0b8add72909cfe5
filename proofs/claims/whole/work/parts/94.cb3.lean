/-! THE CLASS'S SNIPPET WHILE IT IS READ, 3: an occurrence -/
theorem tw_all {P : Int → Bool} {l : List Int} {y : Int} (h : ∀ x ∈ l, P x = true) (hy : P y = false) : (l ++ [y]).takeWhile P = l := by
  induction l with
  | nil => rw [List.nil_append, List.takeWhile_cons, if_neg (by rw [hy]; decide)]
  | cons z l ih => rw [List.cons_append, List.takeWhile_cons, if_pos (h z List.mem_cons_self), ih (fun x hx => h x (List.mem_cons_of_mem z hx))]
section cb3
variable {t p : Nat} {μ m : zM} {S : zSn} {st : List Nat} {v : Int} {f : Nat}
theorem occ_no (hW : wS S) {p : Int} (hp : isPart S p) : ∀ x ∈ sB S p, x ≠ -(sN S : Int) - 1 := fun x hx e => by
  have h1 := occs_mem hx (by omega)
  rw [(hW.2.2.2.2.2.2.2.1 p hp).1, List.mem_filter] at h1
  have := List.mem_range.mp h1.1
  omega
theorem c_addOcc (ht : okT t) {E : Nat → Int} (hw : wBu p S st) (h : pC μ t (stE S E) st) (hE : sE (adO S (opn st) f) = E) (hN : sN S < 60) (hf : f < 10) (h7 : zI μ t 16 < 700) : zok (f2_addOccurrence t (f : Nat) (opn st) μ) (fun r => r.1 = (sN S : Nat) ∧ pC r.2 t (adO S (opn st) f) st ∧ frT t (zI μ t 16).toNat μ r.2 ∧ zI r.2 t 16 = zI μ t 16 + 1 ∧ zI r.2 (t + 9) (sN S) = zI μ t 16) := by
  obtain ⟨q1, q2, q3, q4, q5, q6, q7, q8, q9, q10, q11, q12, q13, q14, q15, q16⟩ := ht.f
  have q17 := okT_4 t ht.2 ht.1
  have hop := opn_rng hw.1 hw.2.1
  have hpt := chain_part hw.2.1
  have hW := hw.1
  obtain ⟨a1, a2, a3, a4, a5, a6, a7, a8, a9, a10⟩ := h
  have a3' : zI μ t 2 = (sN S : Nat) := a3
  obtain ⟨n, hn⟩ : ∃ n : Nat, zI μ t 16 = n := ⟨(zI μ t 16).toNat, by omega⟩
  have hop9 := a9 (opn st) hpt
  have eop : cEndO μ t st (opn st) = n := by unfold cEndO; rw [if_pos (opn_mem st), hn]
  rw [eop, hn] at hop9
  have hGp : ∀ q : Nat, opn st = q → q < sN S ∧ zI μ (t + 6) q = sG S q ∧ 0 ≤ sG S q ∧ sG S q ≤ 4 := fun q hq => by
    cases st with
    | nil => have e : opn [] = -1 := rfl; omega
    | cons x r =>
      have e : opn (x :: r) = (x : Nat) := rfl
      have : x = q := by omega
      subst this
      have hx := hw.2.1.1
      have := hW.2.2.2.1 x hx
      exact ⟨hx, (a4 x hx).2.2.2.2, by omega, by omega⟩
  have fin : ∀ g : Int, g = (if opn st = -1 then 0 else sG S (opn st).toNat + 1) → zr g → zok (f2_addOccurrence_75 t (f : Nat) (opn st) (sN S : Nat) g (sN S : Nat) (t + 6) (zsI (zsI (zsI (zsI μ (t + 2) (sN S) (f : Nat)) (t + 3) (sN S) 0) (t + 4) (sN S) 0) (t + 5) (sN S) (opn st))) (fun r => r.1 = (sN S : Nat) ∧ pC r.2 t (adO S (opn st) f) st ∧ frT t (zI μ t 16).toNat μ r.2 ∧ zI r.2 t 16 = zI μ t 16 + 1 ∧ zI r.2 (t + 9) (sN S) = zI μ t 16) := by
    intro g hg hzg
    unfold f2_addOccurrence_75
    rw [q3, q9, q12, q14, q15]
    refine zok_gd ⟨by omega, by omega⟩ (zok_lt (zok_gl ⟨by omega, by omega⟩ (zok_gl ⟨by omega, by omega⟩ ?_)))
    rw [show zx ((sN S : Nat) : Int) = sN S from rfl]
    have d0 : zI (zsI (zsI (zsI (zsI (zsI μ (t + 2) (sN S) (f : Nat)) (t + 3) (sN S) 0) (t + 4) (sN S) 0) (t + 5) (sN S) (opn st)) (t + 6) (sN S) g) t 16 = n := by
      rw [zI_nk (show t ≠ t + 6 by omega), zI_nk (show t ≠ t + 5 by omega), zI_nk (show t ≠ t + 4 by omega), zI_nk (show t ≠ t + 3 by omega), zI_nk (show t ≠ t + 2 by omega), hn]
    have d2 : zI (zsI (zsI (zsI (zsI (zsI μ (t + 2) (sN S) (f : Nat)) (t + 3) (sN S) 0) (t + 4) (sN S) 0) (t + 5) (sN S) (opn st)) (t + 6) (sN S) g) t 2 = (sN S : Nat) := by
      rw [zI_nk (show t ≠ t + 6 by omega), zI_nk (show t ≠ t + 5 by omega), zI_nk (show t ≠ t + 4 by omega), zI_nk (show t ≠ t + 3 by omega), zI_nk (show t ≠ t + 2 by omega), a3']
    have d3 : zI (zsI (zsI (zsI (zsI (zsI μ (t + 2) (sN S) (f : Nat)) (t + 3) (sN S) 0) (t + 4) (sN S) 0) (t + 5) (sN S) (opn st)) (t + 6) (sN S) g) t 3 = zI μ t 3 := by
      rw [zI_nk (show t ≠ t + 6 by omega), zI_nk (show t ≠ t + 5 by omega), zI_nk (show t ≠ t + 4 by omega), zI_nk (show t ≠ t + 3 by omega), zI_nk (show t ≠ t + 2 by omega)]
    generalize hm5 : zsI (zsI (zsI (zsI (zsI μ (t + 2) (sN S) (f : Nat)) (t + 3) (sN S) 0) (t + 4) (sN S) 0) (t + 5) (sN S) (opn st)) (t + 6) (sN S) g = m5 at *
    rw [d0]
    refine zok_gd ⟨by omega, by omega⟩ (zok_lt ?_)
    rw [zI_nk (show t ≠ zit t by omega), d0]
    refine zok_gd ⟨by omega, by omega⟩ (zok_lt (zok_gd ⟨by omega, by omega⟩ (zok_lt ?_)))
    rw [zI_nk (show t ≠ t + 9 by omega), zI_nk (show t ≠ zit t + 1 by omega), zI_nk (show t ≠ zit t by omega), d0]
    refine zok_gl ⟨by omega, by omega⟩ (zok_lt ?_)
    rw [show zx ((n : Nat) : Int) = n from rfl, zI_ni (show (2 : Nat) ≠ 16 by decide), zI_nk (show t ≠ t + 9 by omega), zI_nk (show t ≠ zit t + 1 by omega), zI_nk (show t ≠ zit t by omega), d2]
    refine zok_gl ⟨by omega, by omega⟩ (zok_lt (zok_lt (zok_lt ?_)))
    rw [zI_ni (show (3 : Nat) ≠ 2 by decide), zI_ni (show (3 : Nat) ≠ 16 by decide), zI_nk (show t ≠ t + 9 by omega), zI_nk (show t ≠ zit t + 1 by omega), zI_nk (show t ≠ zit t by omega), d3]
    refine zok_lt (zok_some ?_)
    generalize hm : zsI (zsI (zsI (zsI (zsI (zsI m5 (zit t) n (-((sN S : Nat) : Int) - 1)) (zit t + 1) n (opn st)) (t + 9) (sN S) (n : Nat)) t 16 ((n : Int) + 1)) t 2 (((sN S : Nat) : Int) + 1)) t 3 (zor (zI μ t 3) (zshl 1 (f : Nat))) = m
    have fz : zSm (fun c => (c < t ∨ t + 10 < c) ∧ c ≠ zit t ∧ c ≠ zit t + 1) μ m := by
      have g5 : zSm (fun c => (c < t ∨ t + 10 < c) ∧ c ≠ zit t ∧ c ≠ zit t + 1) μ m5 := by
        rw [← hm5]
        exact ((((zSm.rf.sI (fun q => by have := q.1; omega)).sI (fun q => by have := q.1; omega)).sI (fun q => by have := q.1; omega)).sI (fun q => by have := q.1; omega)).sI (fun q => by have := q.1; omega)
      rw [← hm]
      exact (((((g5.sI (fun q => q.2.1 rfl)).sI (fun q => q.2.2 rfl)).sI (fun q => by have := q.1; omega)).sI (fun q => by have := q.1; omega)).sI (fun q => by have := q.1; omega)).sI (fun q => by have := q.1; omega)
    have mT : ∀ i, zI m t i = if i = 3 then zor (zI μ t 3) (zshl 1 (f : Nat)) else if i = 2 then (sN S : Int) + 1 else if i = 16 then (n : Int) + 1 else zI μ t i := fun i => by
      rw [← hm]
      by_cases c3 : i = 3
      · rw [if_pos c3, zI_eq rfl c3]
      · rw [if_neg c3, zI_ni c3]
        by_cases c2 : i = 2
        · rw [if_pos c2, zI_eq rfl c2]
        · rw [if_neg c2, zI_ni c2]
          by_cases c16 : i = 16
          · rw [if_pos c16, zI_eq rfl c16]
          · rw [if_neg c16, zI_ni c16, zI_nk (show t ≠ t + 9 by omega), zI_nk (show t ≠ zit t + 1 by omega), zI_nk (show t ≠ zit t by omega), ← hm5, zI_nk (show t ≠ t + 6 by omega), zI_nk (show t ≠ t + 5 by omega), zI_nk (show t ≠ t + 4 by omega), zI_nk (show t ≠ t + 3 by omega), zI_nk (show t ≠ t + 2 by omega)]
    have m5c : ∀ c, t < c → c ≤ t + 10 → c ≠ t + 9 → ∀ i, zI m c i = zI m5 c i := fun c c1 c2 c3 i => by
      rw [← hm, zI_nk (show c ≠ t by omega), zI_nk (show c ≠ t by omega), zI_nk (show c ≠ t by omega), zI_nk c3, zI_nk (show c ≠ zit t + 1 by omega), zI_nk (show c ≠ zit t by omega)]
    have mO : ∀ i, i ≠ sN S → ∀ c, t < c → c ≤ t + 10 → zI m c i = zI μ c i := fun i hi c c1 c2 => by
      rw [← hm, zI_nk (show c ≠ t by omega), zI_nk (show c ≠ t by omega), zI_nk (show c ≠ t by omega), zI_ni hi, zI_nk (show c ≠ zit t + 1 by omega), zI_nk (show c ≠ zit t by omega), ← hm5, zI_ni hi, zI_ni hi, zI_ni hi, zI_ni hi, zI_ni hi]
    have mK : ∀ c, t < c → c ≤ t + 10 → c ≠ t + 2 → c ≠ t + 3 → c ≠ t + 4 → c ≠ t + 5 → c ≠ t + 6 → c ≠ t + 9 → ∀ i, zI m c i = zI μ c i := fun c c1 c2 e2 e3 e4 e5 e6 e9 i => by
      rw [m5c c c1 c2 e9, ← hm5, zI_nk e6, zI_nk e5, zI_nk e4, zI_nk e3, zI_nk e2]
    have m9 : zI m (t + 9) (sN S) = n := by
      rw [← hm, zI_nk (show t + 9 ≠ t by omega), zI_nk (show t + 9 ≠ t by omega), zI_nk (show t + 9 ≠ t by omega), zI_eq rfl rfl]
    have ei : ∀ i, zI m (zit t) i = if i = n then -(sN S : Int) - 1 else zI μ (zit t) i := fun i => by
      rw [← hm, zI_nk (show zit t ≠ t by omega), zI_nk (show zit t ≠ t by omega), zI_nk (show zit t ≠ t by omega), zI_nk (show zit t ≠ t + 9 by omega), zI_nk (show zit t ≠ zit t + 1 by omega)]
      by_cases c : i = n
      · rw [if_pos c, zI_eq rfl c]
      · rw [if_neg c, zI_ni c, ← hm5, zI_nk (show zit t ≠ t + 6 by omega), zI_nk (show zit t ≠ t + 5 by omega), zI_nk (show zit t ≠ t + 4 by omega), zI_nk (show zit t ≠ t + 3 by omega), zI_nk (show zit t ≠ t + 2 by omega)]
    have ep : ∀ i, zI m (zit t + 1) i = if i = n then opn st else zI μ (zit t + 1) i := fun i => by
      rw [← hm, zI_nk (show zit t + 1 ≠ t by omega), zI_nk (show zit t + 1 ≠ t by omega), zI_nk (show zit t + 1 ≠ t by omega), zI_nk (show zit t + 1 ≠ t + 9 by omega)]
      by_cases c : i = n
      · rw [if_pos c, zI_eq rfl c]
      · rw [if_neg c, zI_ni c, zI_nk (show zit t + 1 ≠ zit t by omega), ← hm5, zI_nk (show zit t + 1 ≠ t + 6 by omega), zI_nk (show zit t + 1 ≠ t + 5 by omega), zI_nk (show zit t + 1 ≠ t + 4 by omega), zI_nk (show zit t + 1 ≠ t + 3 by omega), zI_nk (show zit t + 1 ≠ t + 2 by omega)]
    have lo : ∀ i, i < n → zI m (zit t) i = zI μ (zit t) i ∧ zI m (zit t + 1) i = zI μ (zit t + 1) i := fun i hi => by
      rw [ei, ep, if_neg (by omega), if_neg (by omega)]; exact ⟨rfl, rfl⟩
    have e16 : zI m t 16 = (n : Int) + 1 := by rw [mT]; rfl
    have e15 : zI m t 15 = zI μ t 15 := by rw [mT]; rfl
    have eFo : ∀ p, isPart S p → cFirst m t p = cFirst μ t p := fun p hp => by
      unfold cFirst
      rcases hp with e | ⟨o, e, h1, -⟩
      · rw [if_pos e, if_pos e, e15]
      · rw [if_neg (by omega), if_neg (by omega), mO p.toNat (by omega) (t + 9) (by omega) (by omega)]
    have eO : ∀ p, isPart S p → cEndO m t st p = if p ∈ opns st then (n : Int) + 1 else cEndO μ t st p := fun p hp => by
      unfold cEndO
      by_cases c : p ∈ opns st
      · rw [if_pos c, if_pos c, e16]
      · rw [if_neg c, if_neg c, if_neg c]
        rcases hp with e | ⟨o, e, h1, -⟩
        · exact absurd (by rw [e]; unfold opns; exact List.mem_append_right _ List.mem_cons_self) c
        · rw [mO p.toNat (by omega) (t + 10) (by omega) (by omega)]
    have eB : ∀ q, sB (adO S (opn st) f) q = if q = opn st then sB S (opn st) ++ [-(sN S : Int) - 1] else sB S q := fun q => rfl
    have eNn : sN (adO S (opn st) f) = sN S + 1 := rfl
    have eP : ∀ o, sP (adO S (opn st) f) o = if o = sN S then opn st else sP S o := fun o => rfl
    have el : lits [-(sN S : Int) - 1] = 0 := by unfold lits; rw [List.filter_cons, if_neg (by rw [decide_eq_true_eq]; omega)]; rfl
    have hprt : ∀ o, o < sN S → isPart S (sP S o) := fun o ho => by
      rcases hW.2.2.2.2.1 o ho with ⟨a, -⟩ | ⟨q, a, b, d, -⟩
      · exact Or.inl a
      · exact Or.inr ⟨q, a, by omega, d⟩
    rw [hn] at a7 a10
    refine ⟨rfl, ⟨?_, fun i hi => (mK (t + 1) (by omega) (by omega) (by omega) (by omega) (by omega) (by omega) (by omega) (by omega) i).trans (a2 i hi), ?_, fun o ho => ?_, fun g hg => ?_, ?_, ?_, fun q hq => ?_, fun p hp => ?_, fun o ho => ?_⟩, ⟨fz, fun i hi => lo i (by omega)⟩, by rw [e16, hn], by rw [m9, hn]⟩
    · rw [mT]; exact a1
    · rw [mT, eNn]; show (sN S : Int) + 1 = _; omega
    · rw [eNn] at ho
      by_cases c : o = sN S
      · subst c
        have f1 : sF (adO S (opn st) f) (sN S) = (f : Nat) := by show (if sN S = sN S then (f : Int) else _) = _; rw [if_pos rfl]
        have f2 : sC (adO S (opn st) f) (sN S) = 0 := by show (if sN S = sN S then (0 : Int) else _) = _; rw [if_pos rfl]
        have f3 : sD (adO S (opn st) f) (sN S) = 0 := by show (if sN S = sN S then (0 : Int) else _) = _; rw [if_pos rfl]
        have f4 : sG (adO S (opn st) f) (sN S) = g := by show (if sN S = sN S then _ else _) = _; rw [if_pos rfl]; exact hg.symm
        rw [m5c (t + 2) (by omega) (by omega) (by omega), m5c (t + 3) (by omega) (by omega) (by omega), m5c (t + 4) (by omega) (by omega) (by omega), m5c (t + 5) (by omega) (by omega) (by omega), m5c (t + 6) (by omega) (by omega) (by omega), f1, f2, f3, f4, eP, if_pos rfl, ← hm5]
        refine ⟨?_, ?_, ?_, ?_, zI_eq rfl rfl⟩
        · rw [zI_nk (show t + 2 ≠ t + 6 by omega), zI_nk (show t + 2 ≠ t + 5 by omega), zI_nk (show t + 2 ≠ t + 4 by omega), zI_nk (show t + 2 ≠ t + 3 by omega), zI_eq rfl rfl]
        · rw [zI_nk (show t + 3 ≠ t + 6 by omega), zI_nk (show t + 3 ≠ t + 5 by omega), zI_nk (show t + 3 ≠ t + 4 by omega), zI_eq rfl rfl]
        · rw [zI_nk (show t + 4 ≠ t + 6 by omega), zI_nk (show t + 4 ≠ t + 5 by omega), zI_eq rfl rfl]
        · rw [zI_nk (show t + 5 ≠ t + 6 by omega), zI_eq rfl rfl]
      · have f1 : sF (adO S (opn st) f) o = sF S o := by show (if o = sN S then (f : Int) else _) = _; rw [if_neg c]
        have f2 : sC (adO S (opn st) f) o = sC S o := by show (if o = sN S then (0 : Int) else _) = _; rw [if_neg c]
        have f3 : sD (adO S (opn st) f) o = sD S o := by show (if o = sN S then (0 : Int) else _) = _; rw [if_neg c]
        have f4 : sG (adO S (opn st) f) o = sG S o := by show (if o = sN S then _ else _) = _; rw [if_neg c]
        rw [mO o c _ (show t < t + 2 by omega) (by omega), mO o c _ (show t < t + 3 by omega) (by omega), mO o c _ (show t < t + 4 by omega) (by omega), mO o c _ (show t < t + 5 by omega) (by omega), mO o c _ (show t < t + 6 by omega) (by omega), f1, f2, f3, f4, eP, if_neg c]
        exact a4 o (show o < sN S by omega)
    · rw [mK (t + 7) (by omega) (by omega) (by omega) (by omega) (by omega) (by omega) (by omega) (by omega), hE]; exact a5 g hg
    · rw [mT, if_pos rfl]
      refine ⟨zr_of _, fun i hi => ?_⟩
      rw [mbit_or, a6.2 i hi, mbit_shl (by omega) (by omega)]
      apply Bool.eq_iff_iff.mpr
      rw [Bool.or_eq_true, decide_eq_true_eq, decide_eq_true_eq, decide_eq_true_eq]
      constructor
      · rintro (⟨o, h1, h2⟩ | h1)
        · have h1' : o < sN S := h1
          exact ⟨o, by rw [eNn]; omega, by show (if o = sN S then (f : Int) else sF S o) = i; rw [if_neg (by omega)]; exact h2⟩
        · exact ⟨sN S, by rw [eNn]; omega, by show (if sN S = sN S then (f : Int) else _) = i; rw [if_pos rfl]; omega⟩
      · rintro ⟨o, h1, h2⟩
        rw [eNn] at h1
        have h2' : (if o = sN S then (f : Int) else sF S o) = i := h2
        by_cases c : o = sN S
        · rw [if_pos c] at h2'; exact Or.inr (by omega)
        · rw [if_neg c] at h2'; exact Or.inl ⟨o, show o < sN S by omega, h2'⟩
    · rw [e16, e15, eNn]
      have eTt : sT (adO S (opn st) f) = sT S := rfl
      have a74 : (n : Int) - zI μ t 15 - (sN S : Nat) = sT S := a7.2.2.2
      rw [eTt]; omega
    · rw [mK (t + 8) (by omega) (by omega) (by omega) (by omega) (by omega) (by omega) (by omega) (by omega), eB]
      have := a8 q hq
      by_cases c : ((q : Int) - 1) = opn st
      · rw [if_pos c, lits_app, el, ← c]; exact this
      · rw [if_neg c]; exact this
    · have hp' : isPart S p := (adO_part p).mp hp
      obtain ⟨b1, b2, b3, b4⟩ := a9 p hp'
      rw [hn] at b3
      rw [eFo p hp', eO p hp', e16, eB]
      by_cases c : p ∈ opns st
      · have ec : cEndO μ t st p = n := by unfold cEndO; rw [if_pos c, hn]
        rw [ec] at b2 b3 b4
        rw [if_pos c]
        refine ⟨b1, by omega, Int.le_refl _, ?_⟩
        rw [show ((n : Int) + 1 - cFirst μ t p).toNat = ((n : Int) - cFirst μ t p).toNat + 1 by omega, pSel_snoc, show (cFirst μ t p).toNat + ((n : Int) - cFirst μ t p).toNat = n by omega, pSel_lo p _ _ (fun i h1 h2 => lo i (by omega)), b4, ei, ep, if_pos rfl, if_pos rfl]
        by_cases c2 : p = opn st
        · rw [if_pos c2, if_pos c2.symm, c2]; rfl
        · rw [if_neg c2, if_neg (fun e => c2 e.symm), List.append_nil]; rfl
      · have c2 : p ≠ opn st := fun e => c (by rw [e]; exact opn_mem st)
        rw [if_neg c, if_neg c2]
        exact ⟨b1, b2, by omega, (pSel_lo p _ _ (fun i h1 h2 => lo i (by omega))).trans b4⟩
    · rw [eNn] at ho
      rw [eP, e16]
      by_cases c : o = sN S
      · subst c
        rw [if_pos rfl, eFo _ hpt, m9]
        refine ⟨hop9.1, hop9.2.1, by omega, ?_⟩
        rw [pSel_lo _ _ _ (fun i h1 h2 => lo i (by omega)), hop9.2.2.2]
        unfold sAhead
        rw [eP, if_pos rfl, eB, if_pos rfl, tw_all (fun x hx => decide_eq_true (occ_no hW hpt x hx)) (decide_eq_false (fun q => q rfl))]
        rfl
      · have ho' : o < sN S := by omega
        obtain ⟨b1, b2, b3, b4⟩ := a10 o ho'
        have ePs : sP (stE S E) o = sP S o := rfl
        rw [ePs] at b1 b2 b4
        rw [if_neg c, eFo _ (hprt o ho'), mO o c _ (show t < t + 9 by omega) (by omega)]
        refine ⟨b1, b2, by omega, (pSel_lo _ _ _ (fun i h1 h2 => lo i (by omega))).trans (b4.trans ?_)⟩
        unfold sAhead
        rw [eP, if_neg c, eB]
        by_cases c2 : sP S o = opn st
        · rw [if_pos c2, ← c2, tw_app ⟨_, occ_own hW ho', decide_eq_false (fun q => q rfl)⟩]; rfl
        · rw [if_neg c2]; rfl
  unfold f2_addOccurrence
  refine zok_lt ?_
  rw [a3', q3, q5, q6, q7, q8, q9, q14, hn]
  refine zok_f (by omega) (zok_t (by omega) (zok_gd ⟨by omega, by omega⟩ (zok_lt (zok_gd ⟨by omega, by omega⟩ (zok_lt (zok_gd ⟨⟨by omega, by omega⟩, Or.inl rfl⟩ (zok_lt (zok_gd ⟨by omega, by omega⟩ (zok_lt ?_)))))))))
  rw [show zx ((sN S : Nat) : Int) = sN S from rfl]
  rw [hn] at fin
  refine zok_if (fun h1 => fin 0 (by rw [if_pos h1]) ⟨by decide, by decide⟩) (fun h1 => zok_gd ⟨by omega, by omega⟩ ?_)
  obtain ⟨x, hx⟩ : ∃ x : Nat, opn st = x := ⟨(opn st).toNat, by omega⟩
  obtain ⟨x1, x2, x3, x4⟩ := hGp x hx
  rw [show zx (opn st) = x from by rw [hx]; rfl, zI_nk (show t + 6 ≠ t + 5 by omega), zI_nk (show t + 6 ≠ t + 4 by omega), zI_nk (show t + 6 ≠ t + 3 by omega), zI_nk (show t + 6 ≠ t + 2 by omega), x2]
  exact zok_gl ⟨by omega, by omega⟩ (fin _ (by rw [if_neg h1, show (opn st).toNat = x by omega]) ⟨by omega, by omega⟩)
end cb3
