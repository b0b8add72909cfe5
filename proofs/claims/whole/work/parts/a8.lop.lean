/-! THE LAW: what an operation does on both sides -/
def LI (c : Int) (A : zA) (μ : zM) : Prop := wA c A ∧ wNm A ∧ rC A μ ∧ rM A μ
def cdo {γ : Type} : Nat ⊕ γ → Int
  | .inl k => (k : Int)
  | .inr _ => 0
def vdo : Nat ⊕ Int → Int
  | .inl _ => 0
  | .inr v => v
/-- the class's side: the code of the exception or 0, the answer put away -/
def wOk (A : zA) (μ : zM) (code v : Int) (r : Int × zM) : Prop := r.1 = code ∧ (code = 0 → zL r.2 339 0 = v) ∧ rC A r.2 ∧ zSm (fun c => 292 ≤ c ∧ c ≠ 339 ∧ c ≠ 340) μ r.2
def nOk (A : zA) (μ : zM) (code v : Int) (q : Int × zM) : Prop := zI q.2 292 0 = code ∧ (code = 0 → q.1 = v) ∧ rM A q.2 ∧ zSm (fun c => c < 292 ∨ 338 < c) μ q.2
def opW (c : Int) (e1 : Option (Int × zM)) (e2 : zM → Option (Int × zM)) : Prop := zok e1 (fun r => zok (e2 r.2) (fun q => zI q.2 292 0 = r.1 ∧ (r.1 = 0 → zL q.2 339 0 = q.1) ∧ ∃ A', LI (c + 1) A' q.2))
def opU (c : Int) (e1 : Option (Int × zM)) (e2 : zM → Option (Int × zM)) : Prop := zok e1 (fun r => zok (e2 r.2) (fun q => r.1 = q.1 ∧ ∃ A', LI (c + 1) A' q.2))
section lop
variable {A A' : zA} {c : Int} {μ m : zM} {o : Nat ⊕ (Int × zSt)}
theorem wA.up (h : wA c A) : wA (c + 1) A := ⟨h.1, h.2.1, h.2.2.1, h.2.2.2.1, h.2.2.2.2.1, fun i hi => ⟨(h.2.2.2.2.2 i hi).1, by have := (h.2.2.2.2.2 i hi).2; omega⟩⟩
theorem rM.c1 (h : zSm (fun c => 292 ≤ c ∧ c ≠ 339 ∧ c ≠ 340) μ m) (hR : rM A μ) : rM A m := hR.keep (h.mono (fun c hc => by omega)) (fun i => (h 292 (by decide) i).2.2) (fun i _ => (h 292 (by decide) i).1)
theorem rC.m1 (hn : aN A ≤ 8) (h : zSm (fun c => c < 292 ∨ 338 < c) μ m) (hR : rC A μ) : rC A m := hR.keep hn (h.mono (fun c hc => by unfold cV at hc; omega))
theorem op_pair (h : rM A μ) (hw : wA (c + 1) A') (hN : wNm A') {e1 : Option (Int × zM)} {e2 : zM → Option (Int × zM)} {code v : Int} (h1 : zok e1 (wOk A' μ code v)) (h2 : ∀ m, rM A m → zok (e2 m) (nOk A' m code v)) : opW c e1 e2 := by
  refine zok_mono h1 (fun r hr => zok_mono (h2 r.2 (h.c1 hr.2.2.2)) (fun q hq => ⟨hq.1.trans hr.1.symm, fun h0 => ?_, A', hw, hN, hr.2.2.1.m1 hw.1.1 hq.2.2.2, hq.2.2.1⟩))
  have hc : code = 0 := hr.1.symm.trans h0
  rw [hq.2.1 hc, ← hr.2.1 hc]
  exact (hq.2.2.2 339 (Or.inr (by decide)) 0).2.1
theorem op_pairU (h : rM A μ) (hw : wA (c + 1) A') (hN : wNm A') {e1 : Option (Int × zM)} {e2 : zM → Option (Int × zM)} {v : Int} (h1 : zok e1 (fun r => r.1 = v ∧ rC A' r.2 ∧ zSm (fun c => 292 ≤ c) μ r.2)) (h2 : ∀ m, rM A m → zok (e2 m) (fun q => q.1 = v ∧ rM A' q.2 ∧ zSm (fun c => c < 292 ∨ 338 < c) m q.2)) : opU c e1 e2 :=
  zok_mono h1 (fun r hr => zok_mono (h2 r.2 (h.c1 (hr.2.2.mono (fun c hc => hc.1)))) (fun q hq => ⟨hr.1.trans hq.1.symm, A', hw, hN, hr.2.1.m1 hw.1.1 hq.2.2, hq.2.1⟩))
theorem zwn_at : ∀ (names : List String) (j i : Nat), names.Nodup → i < names.length → zwn names j (names.getD i "") = some (j + i) := by
  intro names
  induction names with
  | nil => intro j i _ h; exact absurd h (Nat.not_lt_zero i)
  | cons n r ih =>
    intro j i hn hi
    cases i with
    | zero => exact zwn_hit
    | succ i =>
      have hi' : i < r.length := by rw [List.length_cons] at hi; omega
      have hm : r.getD i "" ∈ r := by rw [List.getD_eq_getElem?_getD, List.getElem?_eq_getElem hi']; exact List.getElem_mem hi'
      rw [show (n :: r).getD (i + 1) "" = r.getD i "" from rfl, zwn_miss (fun e => (List.nodup_cons.mp hn).1 (by rw [e]; exact hm)), ih (j + 1) i (List.nodup_cons.mp hn).2 hi', show j + 1 + i = j + (i + 1) by omega]
theorem w_l {β : Type} {put : β → zM → Option (Int × zM)} {names : List String} {E : String} {e : Option ((String ⊕ β) × zM)} {k : Nat} {v : Int} (he : e = some (.inl E, m)) (hk : zwn names 1 E = some k) (hk0 : 1 ≤ k) (hR : rC A m) (hs : zSm (fun c => 292 ≤ c) μ m) : zok (zwr put names e) (wOk A μ (k : Int) v) := by
  rw [he, zwr_hit hk]
  exact zok_some ⟨rfl, fun h => by have h' : (k : Int) = 0 := h; omega, hR, hs.mono (fun c hc => hc.1)⟩
theorem w_r {names : List String} {e : Option ((String ⊕ Int) × zM)} {v : Int} (he : e = some (.inr v, m)) (hn : aN A ≤ 8) (hR : rC A m) (hs : zSm (fun c => 292 ≤ c) μ m) : zok (zwr (fun v m => some (0, zsL m 339 0 v)) names e) (wOk A μ 0 v) := by
  rw [he, zwr_inr]
  refine zok_some ⟨rfl, fun _ => zL_eq rfl rfl, hR.keep hn (zSm.rf.sL (by unfold cV; omega)), (hs.mono (fun c hc => hc.1)).sL (by omega)⟩
theorem w_q {sp : Nat ⊕ Int} {names : List String} {e : Option ((String ⊕ Int) × zM)} (hn : aN A ≤ 8) (hd : names.Nodup) (hk : ∀ k, sp = .inl k → 1 ≤ k ∧ k ≤ names.length) (h : zok e (cOk A μ (cRes names sp))) : zok (zwr (fun v m => some (0, zsL m 339 0 v)) names e) (wOk A μ (cdo sp) (vdo sp)) := by
  obtain ⟨⟨a, m⟩, he, h1, h2, h3⟩ := h
  have h3' : a = cRes names sp := h3
  subst h3'
  cases hs : sp with
  | inl k =>
    obtain ⟨k1, k2⟩ := hk k hs
    rw [hs] at he
    exact w_l (E := names.getD (k - 1) "") he (by rw [zwn_at names 1 (k - 1) hd (by omega), show 1 + (k - 1) = k by omega]) k1 h1 h2
  | inr v => rw [hs] at he; exact w_r he hn h1 h2
theorem n_q {sp : Nat ⊕ Int} {e : Option (Int × zM)} (hk : ∀ k, sp = .inl k → 1 ≤ k) (h : zok e (mOk A m sp)) : zok e (nOk A m (cdo sp) (vdo sp)) := by
  refine zok_mono h (fun q hq => ?_)
  obtain ⟨h1, h2, h3⟩ := hq
  cases hs : sp with
  | inl k =>
    rw [hs] at h3
    have := hk k hs
    exact ⟨h3, fun h => by have h' : (k : Int) = 0 := h; omega, h1, h2⟩
  | inr v => rw [hs] at h3; exact ⟨h3.1, fun _ => h3.2, h1, h2⟩
theorem op_q (h : LI c A μ) {sp : Nat ⊕ Int} {names : List String} {e : Option ((String ⊕ Int) × zM)} {e2 : zM → Option (Int × zM)} (hd : names.Nodup) (hk : ∀ k, sp = .inl k → 1 ≤ k ∧ k ≤ names.length) (h1 : zok e (cOk A μ (cRes names sp))) (h2 : ∀ m, rM A m → zok (e2 m) (mOk A m sp)) : opW c (zwr (fun v m => some (0, zsL m 339 0 v)) names e) e2 :=
  op_pair h.2.2.2 h.1.up h.2.1 (w_q h.1.1.1 hd hk h1) (fun m hm => n_q (fun k e => (hk k e).1) (h2 m hm))
theorem nm_act (h : wNm A) (o : Nat ⊕ (Int × zSt)) : wNm (actA A o).2 := by
  cases o with
  | inl r => exact h
  | inr p => exact h
theorem op_act (h : LI c A μ) (ho : okAct A o) {e1 : Option (Int × zM)} {e2 : zM → Option (Int × zM)} (h1 : zok e1 (cAct A μ o)) (h2 : ∀ m, rM A m → zok (e2 m) (nAct A m o)) : opU c e1 e2 :=
  op_pairU h.2.2.2 (h.1.act ho) (nm_act h.2.1 o) h1 (fun m hm => zok_mono (h2 m hm) (fun q hq => ⟨hq.1, hq.2.1, hq.2.2.2⟩))
/-- an act that a number out of range refuses: the exception on both sides, or the act -/
theorem op_pre {P : Prop} (h : LI c A μ) (ho : P → okAct A o) {E : String} {names : List String} {e : Option ((String ⊕ Int) × zM)} {e2 : zM → Option (Int × zM)} (hE : zwn names 1 E = some 1) (h1 : zok e (fun r => (¬ P ∧ r = (.inl E, μ)) ∨ (P ∧ ∃ x, r.1 = .inr x ∧ cAct A μ o (x, r.2)))) (h2 : ∀ m, rM A m → zok (e2 m) (fun r => (¬ P ∧ rM A r.2 ∧ zI r.2 292 0 = 1 ∧ zSm (fun c => c < 292 ∨ 338 < c) m r.2) ∨ (P ∧ nAct A m o r))) : opW c (zwr (fun v m => some (0, zsL m 339 0 v)) names e) e2 := by
  obtain ⟨⟨a, m1⟩, he, h1⟩ := h1
  rcases h1 with ⟨hp, h1⟩ | ⟨hp, x, h1, h3⟩
  · rw [h1] at he
    refine op_pair (v := 0) h.2.2.2 h.1.up h.2.1 (w_l he hE (by decide) h.2.2.1 zSm.rf) (fun m hm => zok_mono (h2 m hm) (fun q hq => ?_))
    rcases hq with ⟨-, q1, q2, q3⟩ | ⟨hp', -⟩
    · exact ⟨q2, fun h => absurd h (by decide), q1, q3⟩
    · exact absurd hp' hp
  · have h1' : a = .inr x := h1
    subst h1'
    have hw := h.1.act (ho hp)
    refine op_pair (v := x) h.2.2.2 hw (nm_act h.2.1 o) (w_r he hw.1.1 h3.2.1 h3.2.2) (fun m hm => zok_mono (h2 m hm) (fun q hq => ?_))
    rcases hq with ⟨hp', -⟩ | ⟨-, q1⟩
    · exact absurd hp hp'
    · exact ⟨q1.2.2.1, fun _ => q1.1.trans h3.1.symm, q1.2.1, q1.2.2.2⟩
theorem o_undo (h : LI c A μ) : opW c (zwr (fun v m => some (0, zsL m 339 0 v)) [xIS] (f5_undo μ)) f7_undo := by
  obtain ⟨⟨a, m1⟩, he, h1⟩ := c_undo h.1 h.2.2.1
  rcases h1 with ⟨hp, h1⟩ | ⟨hp, h1, h3, h4⟩
  · rw [h1] at he
    refine op_pair (v := 0) h.2.2.2 h.1.up h.2.1 (w_l (E := xIS) (k := 1) he zwn_hit (by decide) h.2.2.1 zSm.rf) (fun m hm => zok_mono (n_undo h.1 hm) (fun q hq => ?_))
    rcases hq with ⟨-, q1, q2, q3⟩ | ⟨hp', -⟩
    · exact ⟨q2, fun h => absurd h (by decide), q1, q3⟩
    · exact absurd hp hp'
  · have h1' : a = .inr (((aU A).length - 1 : Nat) : Int) := h1
    subst h1'
    refine op_pair h.2.2.2 h.1.undo.up h.2.1 (w_r he h.1.1.1 h3 h4) (fun m hm => zok_mono (n_undo h.1 hm) (fun q hq => ?_))
    rcases hq with ⟨hp', -⟩ | ⟨-, q1, q2, q3, q4⟩
    · exact absurd hp' hp
    · exact ⟨q3, fun _ => q1, q2, q4⟩
theorem o_save (h : LI c A μ) (j : Int) : opW c (zwr (fun v m => some (0, zsL m 339 0 v)) [xIO] (f5_save j μ)) (f7_save j) := by
  obtain ⟨⟨a, m1⟩, he, h1⟩ := c_save h.1 h.2.2.1 j
  rcases h1 with ⟨hp, h1⟩ | ⟨hp, hp2, h1, h3, h4⟩
  · rw [h1] at he
    refine op_pair (v := 0) h.2.2.2 h.1.up h.2.1 (w_l (E := xIO) (k := 1) he zwn_hit (by decide) h.2.2.1 zSm.rf) (fun m hm => zok_mono (n_save h.1 hm j) (fun q hq => ?_))
    rcases hq with ⟨-, q1, q2, q3⟩ | ⟨hp1, hp2, -⟩
    · exact ⟨q2, fun h => absurd h (by decide), q1, q3⟩
    · exact absurd ⟨hp1, hp2⟩ hp
  · have h1' : a = .inr ((qD A : Nat) : Int) := h1
    subst h1'
    refine op_pair h.2.2.2 (h.1.save j.toNat).up h.2.1 (w_r he h.1.1.1 h3 h4) (fun m hm => zok_mono (n_save h.1 hm j) (fun q hq => ?_))
    rcases hq with ⟨hp', -⟩ | ⟨-, -, q1, q2, q3, q4⟩
    · exact absurd ⟨hp, hp2⟩ hp'
    · exact ⟨q3, fun _ => q1, q2, q4⟩
theorem o_restore (h : LI c A μ) (j : Int) : opW c (zwr (fun v m => some (0, zsL m 339 0 v)) [xIO, xIS] (f5_restore j μ)) (f7_restore j) := by
  obtain ⟨⟨a, m1⟩, he, h1⟩ := c_restore h.1 h.2.2.1 j
  rcases h1 with ⟨hp, h1⟩ | ⟨hp, hp2, hn, h1⟩ | ⟨hp, hp2, s, hs, h1, h3, h4⟩
  · rw [h1] at he
    refine op_pair (v := 0) h.2.2.2 h.1.up h.2.1 (w_l (E := xIO) (k := 1) he zwn_hit (by decide) h.2.2.1 zSm.rf) (fun m hm => zok_mono (n_restore h.1 hm j) (fun q hq => ?_))
    rcases hq with ⟨-, q1, q2, q3⟩ | ⟨hp1, hp2, -⟩ | ⟨hp1, hp2, -⟩
    · exact ⟨q2, fun h => absurd h (by decide), q1, q3⟩
    · exact absurd ⟨hp1, hp2⟩ hp
    · exact absurd ⟨hp1, hp2⟩ hp
  · rw [h1] at he
    refine op_pair (v := 0) h.2.2.2 h.1.up h.2.1 (w_l (E := xIS) (k := 2) he (by rw [zwn_miss (by decide), zwn_hit]) (by decide) h.2.2.1 zSm.rf) (fun m hm => zok_mono (n_restore h.1 hm j) (fun q hq => ?_))
    rcases hq with ⟨hp', -⟩ | ⟨-, -, -, q1, q2, q3⟩ | ⟨-, -, s, hs, -⟩
    · exact absurd ⟨hp, hp2⟩ hp'
    · exact ⟨q2, fun h => absurd h (by decide), q1, q3⟩
    · rw [hn] at hs; cases hs
  · have h1' : a = .inr ((tD s : Nat) : Int) := h1
    subst h1'
    refine op_pair h.2.2.2 (h.1.rest hs).up h.2.1 (w_r he h.1.1.1 h3 h4) (fun m hm => zok_mono (n_restore h.1 hm j) (fun q hq => ?_))
    rcases hq with ⟨hp', -⟩ | ⟨-, -, hn, -⟩ | ⟨-, -, s', hs', q1, q2, q3, q4⟩
    · exact absurd ⟨hp, hp2⟩ hp'
    · rw [hn] at hs; cases hs
    · rw [hs] at hs'; cases hs'
      exact ⟨q3, fun _ => q1, q2, q4⟩
theorem o_append (h : LI c A μ) (a1 a2 a3 a4 a5 : Int) : opW c (zwr (fun v m => some (0, zsL m 339 0 v)) [xIS] (f5_append a1 a2 a3 a4 a5 μ)) (f7_append a1 a2 a3 a4 a5) := by
  obtain ⟨⟨a, m1⟩, he, h1⟩ := c_append h.1 h.2.2.1 a1 a2 a3 a4 a5
  rcases h1 with ⟨hp, h1⟩ | ⟨hp, h1, h3, h4⟩
  · rw [h1] at he
    refine op_pair (v := 0) h.2.2.2 h.1.up h.2.1 (w_l (E := xIS) (k := 1) he zwn_hit (by decide) h.2.2.1 zSm.rf) (fun m hm => zok_mono (n_append h.1 hm a1 a2 a3 a4 a5) (fun q hq => ?_))
    rcases hq with ⟨-, q1, q2, q3⟩ | ⟨hp', -⟩
    · exact ⟨q2, fun h => absurd h (by decide), q1, q3⟩
    · exact absurd hp' hp
  · have h1' : a = .inr (((bAll A a1 a2 a3 a4 a5).length : Nat) : Int) := h1
    subst h1'
    refine op_pair h.2.2.2 (h.1.app hp).up h.2.1 (w_r he h.1.1.1 h3 h4) (fun m hm => zok_mono (n_append h.1 hm a1 a2 a3 a4 a5) (fun q hq => ?_))
    rcases hq with ⟨hp', -⟩ | ⟨-, q1, q2, q3, q4⟩
    · exact absurd hp hp'
    · exact ⟨q3, fun _ => q1, q2, q4⟩
theorem act_b0 (A : zA) (o : Nat ⊕ (Int × zSt)) : (actA (setB A []) o).1 = (actA A o).1 ∧ (actA (setB A []) o).2 = setB (actA A o).2 [] := by
  cases o with
  | inl r => exact ⟨rfl, rfl⟩
  | inr p => exact ⟨rfl, rfl⟩
theorem o_type (h : LI c A μ) (hc : c ≤ 1000) (n : Int) : opW c (zwr (fun v m => some (0, zsL m 339 0 v)) [xIA, xNS] (f5_type n μ)) (f7_type n) := by
  obtain ⟨⟨a, m1⟩, he, h1⟩ := c_type h.1 hc h.2.2.1 n
  rcases h1 with ⟨hp, h1⟩ | ⟨hp, hp2, hn, h1⟩ | ⟨hp, hp2, hn, h1, h3, h4⟩
  · rw [h1] at he
    refine op_pair (v := 0) h.2.2.2 h.1.up h.2.1 (w_l (E := xIA) (k := 1) he zwn_hit (by decide) h.2.2.1 zSm.rf) (fun m hm => zok_mono (n_type h.1 hc hm n) (fun q hq => ?_))
    rcases hq with ⟨-, q1, q2, q3⟩ | ⟨hp1, hp2, -⟩ | ⟨hp1, hp2, -⟩
    · exact ⟨q2, fun h => absurd h (by decide), q1, q3⟩
    · exact absurd ⟨hp1, hp2⟩ hp
    · exact absurd ⟨hp1, hp2⟩ hp
  · rw [h1] at he
    refine op_pair (v := 0) h.2.2.2 h.1.up h.2.1 (w_l (E := xNS) (k := 2) he (by rw [zwn_miss (by decide), zwn_hit]) (by decide) h.2.2.1 zSm.rf) (fun m hm => zok_mono (n_type h.1 hc hm n) (fun q hq => ?_))
    rcases hq with ⟨hp', -⟩ | ⟨-, -, -, q1, q2, q3⟩ | ⟨-, -, hn', -⟩
    · exact absurd ⟨hp, hp2⟩ hp'
    · exact ⟨q2, fun h => absurd h (by decide), q1, q3⟩
    · exact absurd hn' hn
  · have h1' : a = .inr (actA A (spType A ((aB A).take n.toNat))).1 := h1
    subst h1'
    have hw : wA (c + 1) (setB (actA A (spType A ((aB A).take n.toNat))).2 []) := (h.1.act (ok_type h.1 _)).b0
    refine op_pair h.2.2.2 hw (nm_act h.2.1 _) (w_r he hw.1.1 h3 h4) (fun m hm => zok_mono (n_type h.1 hc hm n) (fun q hq => ?_))
    obtain ⟨b1, b2⟩ := act_b0 A (spType A ((aB A).take n.toNat))
    rcases hq with ⟨hp', -⟩ | ⟨-, -, hn', -⟩ | ⟨-, -, -, q1, q2, q3, q4⟩
    · exact absurd ⟨hp, hp2⟩ hp'
    · exact absurd hn hn'
    · rw [b1] at q1
      rw [b2] at q2
      exact ⟨q3, fun _ => q1, q2, q4⟩
theorem o_load (h : LI c A μ) : opU c (f5_load μ) f7_load := by
  obtain ⟨⟨a, m1⟩, he, q, h1, h2, h3, h4, h5, h6⟩ := c_load h.1 h.2.2.1
  rw [show opU c (f5_load μ) f7_load = opU c (some (a, m1)) f7_load by rw [he]]
  refine op_pairU (v := q.1) h.2.2.2 h5.up (h6 h.2.1) (zok_some ⟨h2, h3, h4⟩) (fun m hm => zok_mono (n_load h.1 hm) (fun r hr => ?_))
  obtain ⟨q', r1, r2, r3, -, r5⟩ := hr
  rw [h1.uniq r1]
  exact ⟨r2, r3, r5⟩
theorem o_find (h : LI c A μ) : opU c (f5_find μ) f7_find :=
  op_pairU h.2.2.2 h.1.b0.up h.2.1 (c_find h.1 h.2.1 h.2.2.1) (fun m hm => zok_mono (n_find h.1 h.2.1 hm) (fun q hq => ⟨hq.1, hq.2.1, hq.2.2.2⟩))
theorem o_code (h : LI c A μ) : f5_errorCode μ = some (aE A).1 ∧ zok (f7_errorCode μ) (fun q => q.1 = (aE A).1 ∧ ∃ A', LI (c + 1) A' q.2) := by
  obtain ⟨r, he, h1⟩ := c_errorCode h.2.2.1
  subst h1
  exact ⟨he, zok_mono (n_errorCode h.2.2.2) (fun q hq => ⟨hq.2.2.2, A, h.1.up, h.2.1, h.2.2.1.m1 h.1.1.1 hq.2.1, hq.1⟩)⟩
theorem o_pos (h : LI c A μ) : f5_errorPosition μ = some (aE A).2 ∧ zok (f7_errorPosition μ) (fun q => q.1 = (aE A).2 ∧ ∃ A', LI (c + 1) A' q.2) := by
  obtain ⟨r, he, h1⟩ := c_errorPosition h.2.2.1
  subst h1
  exact ⟨he, zok_mono (n_errorPosition h.2.2.2) (fun q hq => ⟨hq.2.2.2, A, h.1.up, h.2.1, h.2.2.1.m1 h.1.1.1 hq.2.1, hq.1⟩)⟩
end lop
