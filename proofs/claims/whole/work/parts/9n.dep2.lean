/-! THE REFERENCE'S READER: what turns back, and what depends -/
theorem zok_x6 {A B C D E F R : Type} {step : (A → B → C → D → E → F → Option R) → A → B → C → D → E → F → Option R} {bot : A → B → C → D → E → F → Option R} {Q : R → Prop} (I : A → B → C → D → E → F → Prop) (m : A → B → C → D → E → F → Nat) (hs : ∀ (k : A → B → C → D → E → F → Option R) (a : A) (b : B) (c : C) (d : D) (x : E) (y : F), I a b c d x y → (∀ a' b' c' d' x' y', I a' b' c' d' x' y' → m a' b' c' d' x' y' < m a b c d x y → zok (k a' b' c' d' x' y') Q) → zok (step k a b c d x y) Q) : ∀ (n : Nat) (a : A) (b : B) (c : C) (d : D) (x : E) (y : F), I a b c d x y → m a b c d x y < n → zok (zfx step bot n a b c d x y) Q := by
  intro n
  induction n with
  | zero => intro a b c d x y _ h; omega
  | succ n ih => intro a b c d x y hI h; exact hs _ a b c d x y hI (fun a' b' c' d' x' y' hI' h' => ih a' b' c' d' x' y' hI' (by omega))
section dep2
variable {μ m : zM} {b k p n : Nat} {S : zSn} {st : List Nat} {v : Int} {f : Nat}
/-- what the reader has at hand of what is open -/
def mHd (μ : zM) (b k : Nat) (S : zSn) (st : List Nat) : Prop := okB b ∧ k < 8 ∧ zR μ 292 13 = b ∧ zI μ b 0 = (k : Nat) ∧ zI μ 292 19 = st.length ∧ stR μ st ∧ (∀ o, o < sN S → zI μ (b + 6) (60 * k + o) = sF S o) ∧ (∀ g, g < 10 → zI μ (b + 13) (10 * k + g) = sE S g) ∧ wS S ∧ chain S st ∧ st.length ≤ 4
theorem n_turnsBack (h : mHd μ b k S st) (hf : f < 10) : zok (f7_turnsBack (f : Nat) μ) (fun r => r = tbk S st f) := by
  obtain ⟨hb, hk, h13, h0, h19, hs, h6, hE, hW, hc, h4⟩ := h
  obtain ⟨-, -, -, -, -, z6, -, -, -, -, -, -, z13⟩ := okB_f hb
  have z328 := zl_m.2.2.2.2.2.2.2.1
  have hN := hW.1
  unfold f7_turnsBack
  rw [h13, h0]
  refine zok_gl ⟨by omega, by omega⟩ (zok_x3 (fun (x2 x3 x4 : Int) => x3 = 10 * (k : Nat) ∧ ∃ j : Nat, x4 = j ∧ j ≤ st.length ∧ ((x2 = 1 ∧ ∃ x ∈ st, f = (sF S x).toNat ∨ mbit (sE S f) (sF S x).toNat = true) ∨ (x2 = 0 ∧ ∀ x ∈ st.drop (st.length - j), ¬ (f = (sF S x).toNat ∨ mbit (sE S f) (sF S x).toNat = true)))) (fun _ _ x4 => st.length - x4.toNat) (fun kk x2 x3 x4 hx ih => ?_) zFu 0 _ 0 ⟨rfl, 0, rfl, Nat.zero_le _, Or.inr ⟨rfl, fun x hx => ?_⟩⟩ (by show st.length - 0 < 100000; omega))
  · obtain ⟨rfl, j, rfl, j1, j2⟩ := hx
    unfold f7_turnsBack_16
    rw [h19, h13, h0, z328, z6, z13]
    refine zok_if (fun c => zok_gd (by rcases j2 with ⟨rfl, -⟩ | ⟨rfl, -⟩; exact Or.inr rfl; exact Or.inl rfl) (zok_some ?_)) (fun c => ?_)
    · rcases j2 with ⟨rfl, j2⟩ | ⟨rfl, j2⟩
      · rw [(tbk_any hW hc hf).mpr j2]; rfl
      · have : tbk S st f = false := by
          rw [Bool.eq_false_iff]
          intro e
          obtain ⟨x, hx, h⟩ := (tbk_any hW hc hf).mp e
          exact j2 x (by rw [show st.length - j = 0 by omega]; exact hx) h
        rw [this]; rfl
    · obtain ⟨x, x1, x2e⟩ := stR_get hs (show j < st.length by omega)
      have hxm : x ∈ st := List.mem_of_mem_drop (show x ∈ st.drop (st.length - (j + 1)) by rw [x2e]; exact List.mem_cons_self)
      have hxN := (chain_in hc x hxm).1
      have hF := hW.2.2.2.1 x hxN
      rw [zx_nat, x1]
      refine zok_gl ⟨by omega, by omega⟩ (zok_gd ⟨by omega, by omega⟩ (zok_gl ⟨by omega, by omega⟩ (zok_gd ⟨by omega, by omega⟩ (zok_lt ?_))))
      rw [show zx (60 * ((k : Nat) : Int) + ((x : Nat) : Int)) = 60 * k + x from by show (_ : Int).toNat = _; omega, h6 x hxN]
      have ms : st.length - ((j : Int) + 1).toNat < st.length - ((j : Nat) : Int).toNat := by omega
      rcases j2 with ⟨rfl, j2⟩ | ⟨rfl, j2⟩
      · exact zok_f (by decide) (zok_gl ⟨by omega, by omega⟩ (ih _ _ _ ⟨rfl, j + 1, by omega, by omega, Or.inl ⟨rfl, j2⟩⟩ ms))
      · refine zok_t rfl (zok_if (fun c2 => zok_gl ⟨by omega, by omega⟩ (ih _ _ _ ⟨rfl, j + 1, by omega, by omega, Or.inl ⟨rfl, x, hxm, Or.inl (by omega)⟩⟩ ms)) (fun c2 => zok_gl ⟨by omega, by omega⟩ (zok_gd ⟨by omega, by omega⟩ ?_)))
        rw [show zx (10 * ((k : Nat) : Int) + ((f : Nat) : Int)) = 10 * k + f from by show (_ : Int).toNat = _; omega, hE f hf]
        refine zok_co (m_has _ _ (by omega) (by omega)) (fun r er => ?_)
        subst er
        cases hm : mbit (sE S f) (sF S x).toNat with
        | true => exact zok_f (by decide) (zok_gl ⟨by omega, by omega⟩ (ih _ _ _ ⟨rfl, j + 1, by omega, by omega, Or.inl ⟨rfl, x, hxm, Or.inr hm⟩⟩ ms))
        | false =>
          refine zok_t rfl (zok_gl ⟨by omega, by omega⟩ (ih _ _ _ ⟨rfl, j + 1, by omega, by omega, Or.inr ⟨rfl, fun y hy => ?_⟩⟩ ms))
          rw [x2e] at hy
          rcases List.mem_cons.mp hy with e | e
          · rw [e, hm]; rintro (a | a)
            · omega
            · cases a
          · exact j2 y e
  · rw [show st.length - 0 = st.length by omega, List.drop_length] at hx; cases hx
theorem zor_0 {x : Int} (h : zr x) : zor x 0 = x := mext (zr_of _) h (fun i hi => by rw [mbit_or, mbit_0, Bool.or_false])
theorem zor_idem (x y : Int) : zor (zor x y) y = zor x y := mext (zr_of _) (zr_of _) (fun i hi => by rw [mbit_or, mbit_or, Bool.or_assoc, Bool.or_self])
theorem zor_cm (x y z : Int) : zor x (zor y z) = zor x (zor z y) := mext (zr_of _) (zr_of _) (fun i hi => by rw [mbit_or, mbit_or, mbit_or, mbit_or, Bool.or_comm (mbit y i)])
/-- what depends when the open ones st', from the outermost, are through -/
def dpM (S : zSn) (f : Nat) : Int := zor (zshl 1 (f : Nat)) (sE S f)
def dpC (S : zSn) (l : List Nat) (h : Nat) : Prop := ∃ x ∈ l, h = (sF S x).toNat ∨ mbit (sE S h) (sF S x).toNat = true
def dpR (S : zSn) (f : Nat) (l : List Nat) (h : Nat) (v : Int) : Prop := (dpC S l h → v = zor (sE S h) (dpM S f)) ∧ (¬ dpC S l h → v = sE S h)
theorem dpR.r {l : List Nat} {h : Nat} (hW : wS S) (hh : h < 10) (hd : dpR S f l h v) : zr v := by
  by_cases c : dpC S l h
  · rw [hd.1 c]; exact zr_of _
  · rw [hd.2 c]; exact (hW.2.2.2.2.2.1 h hh).1
/-- the bit of an open field is as it was -/
theorem dpR.bit {l : List Nat} {h x : Nat} (hd : dpR S f l h v) (hf : f < 10) (h1 : f ≠ (sF S x).toNat) (h2 : mbit (sE S f) (sF S x).toNat = false) : mbit v (sF S x).toNat = mbit (sE S h) (sF S x).toNat := by
  by_cases c : dpC S l h
  · rw [hd.1 c, mbit_or]
    unfold dpM
    rw [mbit_or, mbit_shl (by omega) (by omega), h2, decide_eq_false (by omega), Bool.or_false, Bool.or_false]
  · rw [hd.2 c]
theorem dpR.step {l : List Nat} {h x : Nat} {v' : Int} (hd : dpR S f l h v) (hf : f < 10) (h1 : f ≠ (sF S x).toNat) (h2 : mbit (sE S f) (sF S x).toNat = false) (hv : (h = (sF S x).toNat ∨ mbit v (sF S x).toNat = true → v' = zor v (dpM S f)) ∧ (¬ (h = (sF S x).toNat ∨ mbit v (sF S x).toNat = true) → v' = v)) : dpR S f (x :: l) h v' := by
  rw [hd.bit hf h1 h2] at hv
  by_cases c1 : h = (sF S x).toNat ∨ mbit (sE S h) (sF S x).toNat = true
  · rw [hv.1 c1]
    refine ⟨fun _ => ?_, fun q => absurd ⟨x, List.mem_cons_self, c1⟩ q⟩
    by_cases c : dpC S l h
    · rw [hd.1 c, zor_idem]
    · rw [hd.2 c]
  · rw [hv.2 c1]
    refine ⟨fun q => ?_, fun q => hd.2 (fun ⟨y, hy, h⟩ => q ⟨y, List.mem_cons_of_mem _ hy, h⟩)⟩
    obtain ⟨y, hy, q⟩ := q
    rcases List.mem_cons.mp hy with e | e
    · rw [e] at q; exact absurd q c1
    · exact hd.1 ⟨y, e, q⟩
theorem dpR.all {h : Nat} (hW : wS S) (hc : chain S st) (hh : h < 10) (hd : dpR S f st h v) : v = sE (adO S (opn st) f) h := by
  have eE : sE (adO S (opn st) f) = if opn st = -1 then sE S else adE (sE S) f (sF S (opn st).toNat).toNat := rfl
  rw [eE]
  cases st with
  | nil =>
    have e1 : opn [] = -1 := rfl
    rw [e1, if_pos rfl]
    exact hd.2 (fun ⟨x, hx, _⟩ => by cases hx)
  | cons q r =>
    have e1 : opn (q :: r) = (q : Nat) := rfl
    rw [e1, if_neg (by omega), show ((q : Nat) : Int).toNat = q from rfl]
    unfold adE
    have hiff : dpC S (q :: r) h ↔ (h = (sF S q).toNat ∨ mbit (sE S h) (sF S q).toNat = true) := by
      constructor
      · rintro ⟨x, hx, hq⟩
        rcases List.mem_cons.mp hx with e | e
        · rw [e] at hq; exact hq
        · have hd := chain_dep hW r q hc x e
          have hx' := chain_in hc x hx
          have hF := hW.2.2.2.1 x hx'.1
          rcases hq with hq | hq
          · rw [hq]; exact Or.inr hd
          · exact Or.inr ((hW.2.2.2.2.2.1 h hh).2.2.2 _ _ hq (by omega) hd)
      · exact fun hq => ⟨q, List.mem_cons_self, hq⟩
    by_cases c : h = (sF S q).toNat ∨ mbit (sE S h) (sF S q).toNat = true
    · rw [if_pos c, hd.1 (hiff.mpr c), zor_cm]; rfl
    · rw [if_neg c, hd.2 (fun w => c (hiff.mp w))]
theorem n_dependsOn (h : mHd μ b k S st) (hf : f < 10) (ht : tbk S st f = false) : zok (f7_dependsOn (f : Nat) μ) (fun m => zSm (fun c => c ≠ b + 13) μ m ∧ (∀ i, i < 10 * k → zI m (b + 13) i = zI μ (b + 13) i) ∧ ∀ g, g < 10 → zI m (b + 13) (10 * k + g) = sE (adO S (opn st) f) g) := by
  obtain ⟨hb, hk, h13, h0, h19, hs, h6, hE, hW, hc, h4⟩ := h
  obtain ⟨-, -, -, -, -, z6, -, -, -, -, -, -, z13⟩ := okB_f hb
  have z328 := zl_m.2.2.2.2.2.2.2.1
  have hN := hW.1
  have hne := b_ne hb (show 13 ≤ 13 by decide)
  have hno : ∀ x ∈ st, f ≠ (sF S x).toNat ∧ mbit (sE S f) (sF S x).toNat = false := fun x hx => by
    rw [← Bool.not_eq_true]
    refine ⟨fun e => ?_, fun e => ?_⟩
    · rw [(tbk_any hW hc hf).mpr ⟨x, hx, Or.inl e⟩] at ht; cases ht
    · rw [(tbk_any hW hc hf).mpr ⟨x, hx, Or.inr e⟩] at ht; cases ht
  unfold f7_dependsOn
  rw [h13, h0]
  refine zok_gl ⟨by omega, by omega⟩ (zok_x3 (fun (x2 x3 : Int) m => x2 = 10 * (k : Nat) ∧ ∃ j : Nat, x3 = j ∧ j ≤ st.length ∧ zSm (fun c => c ≠ b + 13) μ m ∧ (∀ i, i < 10 * k → zI m (b + 13) i = zI μ (b + 13) i) ∧ ∀ g, g < 10 → dpR S f (st.drop (st.length - j)) g (zI m (b + 13) (10 * k + g))) (fun _ x3 _ => st.length - x3.toNat) (fun kk x2 x3 m hx ih => ?_) zFu _ 0 μ ⟨rfl, 0, rfl, Nat.zero_le _, zSm.rf, fun _ _ => rfl, fun g hg => ⟨fun ⟨x, hx, _⟩ => ?_, fun _ => hE g hg⟩⟩ (by show st.length - 0 < 100000; omega))
  · obtain ⟨rfl, j, rfl, j1, j2, j3, j4⟩ := hx
    have e : ∀ c, c ≠ b + 13 → ∀ i, zI m c i = zI μ c i := fun c hc i => (j2 c hc i).1
    have g13 : zR m 292 13 = b := ((j2 292 (fun e => hne.1 e.symm) 13).2.2).trans h13
    have g0 : zI m b 0 = (k : Nat) := (e b (by omega) 0).trans h0
    unfold f7_dependsOn_13
    rw [e 292 (fun e => hne.1 e.symm), h19, g13, g0, z328, z6, z13]
    refine zok_if (fun c => zok_some ⟨j2, j3, fun g hg => ?_⟩) (fun c => ?_)
    · have := j4 g hg
      rw [show st.length - j = 0 by omega] at this
      exact this.all hW hc hg
    · obtain ⟨x, x1, x2e⟩ := stR_get hs (show j < st.length by omega)
      have hxm : x ∈ st := List.mem_of_mem_drop (show x ∈ st.drop (st.length - (j + 1)) by rw [x2e]; exact List.mem_cons_self)
      have hxN := (chain_in hc x hxm).1
      have hF := hW.2.2.2.1 x hxN
      obtain ⟨n1, n2⟩ := hno x hxm
      rw [zx_nat, e 328 (fun e => hne.2.2 e.symm), x1]
      refine zok_gl ⟨by omega, by omega⟩ (zok_gd ⟨by omega, by omega⟩ (zok_gl ⟨by omega, by omega⟩ (zok_gd ⟨by omega, by omega⟩ (zok_lt (zok_lt (zok_gl ⟨by omega, by omega⟩ (zok_gd ⟨by omega, by omega⟩ (zok_lt ?_))))))))
      rw [show zx (60 * ((k : Nat) : Int) + ((x : Nat) : Int)) = 60 * k + x from by show (_ : Int).toNat = _; omega, e (b + 6) (by omega), h6 x hxN, show zx (10 * ((k : Nat) : Int) + ((f : Nat) : Int)) = 10 * k + f from by show (_ : Int).toNat = _; omega]
      have hff : zI m (b + 13) (10 * k + f) = sE S f := by
        refine (j4 f hf).2 ?_
        rintro ⟨y, hy, q⟩
        obtain ⟨n3, n4⟩ := hno y (List.mem_of_mem_drop hy)
        rcases q with q | q
        · exact n3 q
        · rw [n4] at q; cases q
      rw [hff]
      refine zok_x6 (fun (y2 y3 y4 y5 y6 : Int) m' => y2 = 10 * (k : Nat) ∧ y3 = (j : Nat) ∧ y4 = sF S x ∧ y5 = dpM S f ∧ ∃ o : Nat, y6 = o ∧ o ≤ 10 ∧ zSm (fun c => c ≠ b + 13) m m' ∧ (∀ i, i < 10 * k → zI m' (b + 13) i = zI m (b + 13) i) ∧ ∀ g, g < 10 → (g < o → dpR S f (x :: st.drop (st.length - j)) g (zI m' (b + 13) (10 * k + g))) ∧ (o ≤ g → zI m' (b + 13) (10 * k + g) = zI m (b + 13) (10 * k + g))) (fun _ _ _ _ y6 _ => 10 - y6.toNat) (fun k2 y2 y3 y4 y5 y6 m' hy ih2 => ?_) zFu _ _ _ _ 0 m ⟨rfl, rfl, rfl, rfl, 0, rfl, Nat.zero_le _, zSm.rf, fun _ _ => rfl, fun g hg => ⟨fun q => absurd q (Nat.not_lt_zero g), fun _ => rfl⟩⟩ (by show 10 - 0 < 100000; decide)
      obtain ⟨rfl, rfl, rfl, rfl, o, rfl, o1, o2, o3, o4⟩ := hy
      have q13 : zR m' 292 13 = b := ((o2 292 (fun e => hne.1 e.symm) 13).2.2).trans g13
      unfold f7_dependsOn_68
      rw [q13, z13]
      refine zok_if (fun c9 => zok_gl ⟨by omega, by omega⟩ (ih _ _ _ ⟨rfl, j + 1, by omega, by omega, j2.tr o2, fun i hi => (o3 i hi).trans (j3 i hi), fun g hg => ?_⟩ (by show st.length - ((j : Int) + 1).toNat < st.length - (j : Int).toNat; omega))) (fun c9 => ?_)
      · rw [x2e]; exact (o4 g hg).1 (by omega)
      · have ho : o < 10 := by omega
        have hold := j4 o ho
        have heq := (o4 o ho).2 (Nat.le_refl _)
        have hrr := hold.r hW ho
        refine zok_gl ⟨by omega, by omega⟩ (zok_gd ⟨by omega, by omega⟩ ?_)
        rw [show zx (10 * ((k : Nat) : Int) + ((o : Nat) : Int)) = 10 * k + o from by show (_ : Int).toNat = _; omega, heq]
        have nx : ∀ w : Int, dpR S f (x :: st.drop (st.length - j)) o (zor (zI m (b + 13) (10 * k + o)) w) → zok (f7_dependsOn_121 (f : Nat) kk k2 (10 * (k : Nat)) (j : Nat) (sF S x) (dpM S f) (o : Nat) w (zI m (b + 13) (10 * k + o)) (10 * (k : Nat) + (o : Nat)) (b + 13) m') (fun m => zSm (fun c => c ≠ b + 13) μ m ∧ (∀ i, i < 10 * k → zI m (b + 13) i = zI μ (b + 13) i) ∧ ∀ g, g < 10 → zI m (b + 13) (10 * k + g) = sE (adO S (opn st) f) g) := fun w hw => by
          unfold f7_dependsOn_121
          rw [z13, show zx (10 * ((k : Nat) : Int) + ((o : Nat) : Int)) = 10 * k + o from by show (_ : Int).toNat = _; omega]
          refine zok_lt (zok_gd ⟨by omega, by omega⟩ (zok_lt (zok_gl ⟨by omega, by omega⟩ (ih2 _ _ _ _ _ _ ⟨rfl, rfl, rfl, rfl, o + 1, by omega, by omega, o2.sI (fun q => q rfl), fun i hi => (zI_ni (by omega)).trans (o3 i hi), fun g hg => ⟨fun q => ?_, fun q => (zI_ni (by omega)).trans ((o4 g hg).2 (by omega))⟩⟩ (by show 10 - ((o : Int) + 1).toNat < 10 - (o : Int).toNat; omega)))))
          by_cases e9 : g = o
          · rw [e9, zI_eq rfl rfl]; exact hw
          · rw [zI_ni (by omega)]; exact (o4 g hg).1 (by omega)
        refine zok_if (fun c8 => nx _ (hold.step hf n1 n2 ⟨fun _ => rfl, fun q => absurd (Or.inl (by omega)) q⟩)) (fun c8 => zok_gl ⟨by omega, by omega⟩ (zok_gd ⟨by omega, by omega⟩ ?_))
        refine zok_co (m_has _ _ (by omega) (by omega)) (fun r er => ?_)
        subst er
        rw [show zx (10 * ((k : Nat) : Int) + ((o : Nat) : Int)) = 10 * k + o from by show (_ : Int).toNat = _; omega, heq]
        cases hm : mbit (zI m (b + 13) (10 * k + o)) (sF S x).toNat with
        | true => exact zok_f (by decide) (nx _ (hold.step hf n1 n2 ⟨fun _ => rfl, fun q => absurd (Or.inr hm) q⟩))
        | false =>
          refine zok_t rfl (nx 0 ?_)
          rw [zor_0 hrr]
          refine hold.step hf n1 n2 ⟨fun q => ?_, fun _ => rfl⟩
          rw [hm] at q
          rcases q with q | q
          · omega
          · cases q
  · rw [show st.length - 0 = st.length by omega, List.drop_length] at hx; cases hx
end dep2
