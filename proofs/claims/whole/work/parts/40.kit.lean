/-! WHAT A PURE FUNCTION ANSWERS: it comes to an answer, and of it Q holds -/
def zok {α : Type} (e : Option α) (Q : α → Prop) : Prop := ∃ a, e = some a ∧ Q a
theorem zok_some {α : Type} {Q : α → Prop} {a : α} (h : Q a) : zok (some a) Q := ⟨a, rfl, h⟩
theorem zok_mono {α : Type} {e : Option α} {P Q : α → Prop} (h : zok e P) (k : ∀ a, P a → Q a) : zok e Q := let ⟨a, e1, p⟩ := h; ⟨a, e1, k a p⟩
theorem zok_lt {α β : Type} {Q : α → Prop} {e : β} {f : β → Option α} (k : zok (f e) Q) : zok (zlt e f) Q := k
theorem zok_lv {α β : Type} {Q : α → Prop} {e : β} {f : β → Option α} (k : ∀ v, v = e → zok (f v) Q) : zok (zlt e f) Q := k e rfl
theorem zok_gl {α : Type} {Q : α → Prop} {e : Int} {f : Int → Option α} (h : zr e) (k : zok (f e) Q) : zok (zgl e f) Q := by
  unfold zgl; rw [if_pos h]; exact k
theorem zok_gL {α : Type} {Q : α → Prop} {e : Int} {f : Int → Option α} (h : zr64 e) (k : zok (f e) Q) : zok (zgL e f) Q := by
  unfold zgL; rw [if_pos h]; exact k
theorem zok_gd {α : Type} {Q : α → Prop} {c : Prop} {A : Option α} (h : c) (k : zok A Q) : zok (zgd c A) Q := by
  unfold zgd; rw [if_pos h]; exact k
theorem zok_if {α : Type} {Q : α → Prop} {c : Prop} {i : Decidable c} {A B : Option α} (ht : c → zok A Q) (hf : ¬ c → zok B Q) : zok (@ite _ c i A B) Q := by
  by_cases h : c
  · rw [if_pos h]; exact ht h
  · rw [if_neg h]; exact hf h
theorem zok_t {α : Type} {Q : α → Prop} {c : Prop} {i : Decidable c} {A B : Option α} (h : c) (k : zok A Q) : zok (@ite _ c i A B) Q := by rw [if_pos h]; exact k
theorem zok_f {α : Type} {Q : α → Prop} {c : Prop} {i : Decidable c} {A B : Option α} (h : ¬ c) (k : zok B Q) : zok (@ite _ c i A B) Q := by rw [if_neg h]; exact k
theorem zok_co {α β : Type} {Q : α → Prop} {P : β → Prop} {e : Option β} {f : β → Option α} (h : zok e P) (k : ∀ x, P x → zok (f x) Q) : zok (zco e f) Q := by
  obtain ⟨a, e1, p⟩ := h; rw [e1]; exact k a p
theorem zok_cm {α σ : Type} {Q : α → Prop} {P : σ → Prop} {e : Option σ} {f : σ → Option α} (h : zok e P) (k : ∀ x, P x → zok (f x) Q) : zok (zcm e f) Q := by
  obtain ⟨a, e1, p⟩ := h; rw [e1]; exact k a p
theorem zok_cl {α β σ : Type} {Q : α → Prop} {P : β × σ → Prop} {e : Option (β × σ)} {f : β → σ → Option α} (h : zok e P) (k : ∀ x μ, P (x, μ) → zok (f x μ) Q) : zok (zcl2 e f) Q := by
  obtain ⟨⟨a, μ⟩, e1, p⟩ := h; rw [e1]; exact k a μ p
theorem zok_cx {β γ σ : Type} {Q : (String ⊕ γ) × σ → Prop} {P : (String ⊕ β) × σ → Prop} {e : Option ((String ⊕ β) × σ)} {f : β → σ → Option ((String ⊕ γ) × σ)} (h : zok e P) (kx : ∀ E μ, P (.inl E, μ) → Q (.inl E, μ)) (k : ∀ x μ, P (.inr x, μ) → zok (f x μ) Q) : zok (zcx e f) Q := by
  obtain ⟨⟨a, μ⟩, e1, p⟩ := h
  rw [e1]
  cases a with
  | inl E => exact ⟨_, rfl, kx E μ p⟩
  | inr x => exact k x μ p
/-! loops: an invariant and a measure -/
theorem zok_x1 {A R : Type} {step : (A → Option R) → A → Option R} {bot : A → Option R} {Q : R → Prop} (I : A → Prop) (m : A → Nat) (hs : ∀ (k : A → Option R) (a : A), I a → (∀ a', I a' → m a' < m a → zok (k a') Q) → zok (step k a) Q) : ∀ (n : Nat) (a : A), I a → m a < n → zok (zfx step bot n a) Q := by
  intro n
  induction n with
  | zero => intro a _ h; omega
  | succ n ih => intro a hI h; exact hs _ a hI (fun a' hI' h' => ih a' hI' (by omega))
theorem zok_x2 {A B R : Type} {step : (A → B → Option R) → A → B → Option R} {bot : A → B → Option R} {Q : R → Prop} (I : A → B → Prop) (m : A → B → Nat) (hs : ∀ (k : A → B → Option R) (a : A) (b : B), I a b → (∀ a' b', I a' b' → m a' b' < m a b → zok (k a' b') Q) → zok (step k a b) Q) : ∀ (n : Nat) (a : A) (b : B), I a b → m a b < n → zok (zfx step bot n a b) Q := by
  intro n
  induction n with
  | zero => intro a b _ h; omega
  | succ n ih => intro a b hI h; exact hs _ a b hI (fun a' b' hI' h' => ih a' b' hI' (by omega))
theorem zok_x3 {A B C R : Type} {step : (A → B → C → Option R) → A → B → C → Option R} {bot : A → B → C → Option R} {Q : R → Prop} (I : A → B → C → Prop) (m : A → B → C → Nat) (hs : ∀ (k : A → B → C → Option R) (a : A) (b : B) (c : C), I a b c → (∀ a' b' c', I a' b' c' → m a' b' c' < m a b c → zok (k a' b' c') Q) → zok (step k a b c) Q) : ∀ (n : Nat) (a : A) (b : B) (c : C), I a b c → m a b c < n → zok (zfx step bot n a b c) Q := by
  intro n
  induction n with
  | zero => intro a b c _ h; omega
  | succ n ih => intro a b c hI h; exact hs _ a b c hI (fun a' b' c' hI' h' => ih a' b' c' hI' (by omega))
theorem zok_x4 {A B C D R : Type} {step : (A → B → C → D → Option R) → A → B → C → D → Option R} {bot : A → B → C → D → Option R} {Q : R → Prop} (I : A → B → C → D → Prop) (m : A → B → C → D → Nat) (hs : ∀ (k : A → B → C → D → Option R) (a : A) (b : B) (c : C) (d : D), I a b c d → (∀ a' b' c' d', I a' b' c' d' → m a' b' c' d' < m a b c d → zok (k a' b' c' d') Q) → zok (step k a b c d) Q) : ∀ (n : Nat) (a : A) (b : B) (c : C) (d : D), I a b c d → m a b c d < n → zok (zfx step bot n a b c d) Q := by
  intro n
  induction n with
  | zero => intro a b c d _ h; omega
  | succ n ih => intro a b c d hI h; exact hs _ a b c d hI (fun a' b' c' d' hI' h' => ih a' b' c' d' hI' (by omega))
theorem zok_x5 {A B C D E R : Type} {step : (A → B → C → D → E → Option R) → A → B → C → D → E → Option R} {bot : A → B → C → D → E → Option R} {Q : R → Prop} (I : A → B → C → D → E → Prop) (m : A → B → C → D → E → Nat) (hs : ∀ (k : A → B → C → D → E → Option R) (a : A) (b : B) (c : C) (d : D) (x : E), I a b c d x → (∀ a' b' c' d' x', I a' b' c' d' x' → m a' b' c' d' x' < m a b c d x → zok (k a' b' c' d' x') Q) → zok (step k a b c d x) Q) : ∀ (n : Nat) (a : A) (b : B) (c : C) (d : D) (x : E), I a b c d x → m a b c d x < n → zok (zfx step bot n a b c d x) Q := by
  intro n
  induction n with
  | zero => intro a b c d x _ h; omega
  | succ n ih => intro a b c d x hI h; exact hs _ a b c d x hI (fun a' b' c' d' x' hI' h' => ih a' b' c' d' x' hI' (by omega))
/-! the memory read behind a write -/
theorem zI_eq {μ : zM} {k i a b : Nat} {v : Int} (h1 : a = k) (h2 : b = i) : zI (zsI μ k i v) a b = v := by rw [zsI_at, if_pos ⟨h1, h2⟩]
theorem zI_nk {μ : zM} {k i a b : Nat} {v : Int} (h : a ≠ k) : zI (zsI μ k i v) a b = zI μ a b := by rw [zsI_at, if_neg (fun q => h q.1)]
theorem zI_ni {μ : zM} {k i a b : Nat} {v : Int} (h : b ≠ i) : zI (zsI μ k i v) a b = zI μ a b := by rw [zsI_at, if_neg (fun q => h q.2)]
theorem zL_eq {μ : zM} {k i a b : Nat} {v : Int} (h1 : a = k) (h2 : b = i) : zL (zsL μ k i v) a b = v := by rw [zsL_at, if_pos ⟨h1, h2⟩]
theorem zL_nk {μ : zM} {k i a b : Nat} {v : Int} (h : a ≠ k) : zL (zsL μ k i v) a b = zL μ a b := by rw [zsL_at, if_neg (fun q => h q.1)]
theorem zL_ni {μ : zM} {k i a b : Nat} {v : Int} (h : b ≠ i) : zL (zsL μ k i v) a b = zL μ a b := by rw [zsL_at, if_neg (fun q => h q.2)]
theorem zR_eq {μ : zM} {k i a b v : Nat} (h1 : a = k) (h2 : b = i) : zR (zsR μ k i v) a b = v := by rw [zsR_at, if_pos ⟨h1, h2⟩]
theorem zR_nk {μ : zM} {k i a b v : Nat} (h : a ≠ k) : zR (zsR μ k i v) a b = zR μ a b := by rw [zsR_at, if_neg (fun q => h q.1)]
theorem zR_ni {μ : zM} {k i a b v : Nat} (h : b ≠ i) : zR (zsR μ k i v) a b = zR μ a b := by rw [zsR_at, if_neg (fun q => h q.2)]
theorem zL_sI (μ : zM) (k i : Nat) (v : Int) (a b : Nat) : zL (zsI μ k i v) a b = zL μ a b := rfl
theorem zR_sI (μ : zM) (k i : Nat) (v : Int) (a b : Nat) : zR (zsI μ k i v) a b = zR μ a b := rfl
theorem zI_sL (μ : zM) (k i : Nat) (v : Int) (a b : Nat) : zI (zsL μ k i v) a b = zI μ a b := rfl
theorem zR_sL (μ : zM) (k i : Nat) (v : Int) (a b : Nat) : zR (zsL μ k i v) a b = zR μ a b := rfl
theorem zI_sR (μ : zM) (k i v a b : Nat) : zI (zsR μ k i v) a b = zI μ a b := rfl
theorem zL_sR (μ : zM) (k i v a b : Nat) : zL (zsR μ k i v) a b = zL μ a b := rfl
theorem zL_cI (μ : zM) (s sp d dp n a b : Nat) : zL (zcI μ s sp d dp n) a b = zL μ a b := rfl
theorem zR_cI (μ : zM) (s sp d dp n a b : Nat) : zR (zcI μ s sp d dp n) a b = zR μ a b := rfl
theorem zcI_nk {μ : zM} {s sp d dp n a b : Nat} (h : a ≠ d) : zI (zcI μ s sp d dp n) a b = zI μ a b := by rw [zcI_at, if_neg (fun q => h q.1)]
theorem zcI_in {μ : zM} {s sp d dp n a b : Nat} (h : a = d) (h1 : dp ≤ b) (h2 : b < dp + n) : zI (zcI μ s sp d dp n) a b = zI μ s (sp + (b - dp)) := by rw [zcI_at, if_pos ⟨h, h1, h2⟩]
theorem zcI_out {μ : zM} {s sp d dp n a b : Nat} (h : b < dp ∨ dp + n ≤ b) : zI (zcI μ s sp d dp n) a b = zI μ a b := by rw [zcI_at, if_neg (fun q => by omega)]
/-! which cells are the same in two memories -/
def zSm (P : Nat → Prop) (μ μ' : zM) : Prop := ∀ k, P k → ∀ i, zI μ' k i = zI μ k i ∧ zL μ' k i = zL μ k i ∧ zR μ' k i = zR μ k i
theorem zSm.rf {P : Nat → Prop} {μ : zM} : zSm P μ μ := fun _ _ _ => ⟨rfl, rfl, rfl⟩
theorem zSm.tr {P : Nat → Prop} {μ μ1 μ2 : zM} (h : zSm P μ μ1) (h' : zSm P μ1 μ2) : zSm P μ μ2 := fun k hk i => ⟨(h' k hk i).1.trans (h k hk i).1, (h' k hk i).2.1.trans (h k hk i).2.1, (h' k hk i).2.2.trans (h k hk i).2.2⟩
theorem zSm.sI {P : Nat → Prop} {μ μ1 : zM} {c j : Nat} {v : Int} (h : zSm P μ μ1) (hc : ¬ P c) : zSm P μ (zsI μ1 c j v) := fun k hk i => ⟨(zI_nk (fun e : k = c => hc (by rw [← e]; exact hk))).trans (h k hk i).1, (h k hk i).2.1, (h k hk i).2.2⟩
theorem zSm.sL {P : Nat → Prop} {μ μ1 : zM} {c j : Nat} {v : Int} (h : zSm P μ μ1) (hc : ¬ P c) : zSm P μ (zsL μ1 c j v) := fun k hk i => ⟨(h k hk i).1, (zL_nk (fun e : k = c => hc (by rw [← e]; exact hk))).trans (h k hk i).2.1, (h k hk i).2.2⟩
theorem zSm.sR {P : Nat → Prop} {μ μ1 : zM} {c j v : Nat} (h : zSm P μ μ1) (hc : ¬ P c) : zSm P μ (zsR μ1 c j v) := fun k hk i => ⟨(h k hk i).1, (h k hk i).2.1, (zR_nk (fun e : k = c => hc (by rw [← e]; exact hk))).trans (h k hk i).2.2⟩
theorem zSm.cI {P : Nat → Prop} {μ μ1 : zM} {s sp d dp n : Nat} (h : zSm P μ μ1) (hc : ¬ P d) : zSm P μ (zcI μ1 s sp d dp n) := fun k hk i => ⟨(zcI_nk (fun e : k = d => hc (by rw [← e]; exact hk))).trans (h k hk i).1, (h k hk i).2.1, (h k hk i).2.2⟩
theorem zSm.mono {P P' : Nat → Prop} {μ μ1 : zM} (h : zSm P μ μ1) (k : ∀ c, P' c → P c) : zSm P' μ μ1 := fun c hc i => h c (k c hc) i
/-! the same rules, what goes on first -/
theorem zk_lt {α β : Type} {Q : α → Prop} {e : β} {f : β → Option α} (k : zok (f e) Q) : zok (zlt e f) Q := k
theorem zk_gl {α : Type} {Q : α → Prop} {e : Int} {f : Int → Option α} (k : zok (f e) Q) (h : zr e) : zok (zgl e f) Q := zok_gl h k
theorem zk_gL {α : Type} {Q : α → Prop} {e : Int} {f : Int → Option α} (k : zok (f e) Q) (h : zr64 e) : zok (zgL e f) Q := zok_gL h k
theorem zk_gd {α : Type} {Q : α → Prop} {c : Prop} {A : Option α} (k : zok A Q) (h : c) : zok (zgd c A) Q := zok_gd h k
/-! numbers of cells and places -/
theorem zx_nat (n : Nat) : zx (n : Int) = n := by show (n : Int).toNat = n; omega
theorem zx_eq {i : Int} {n : Nat} (h : i = n) : zx i = n := by subst h; exact zx_nat n
/-- a snippet's cell: its rows stand behind it -/
def okT (t : Nat) : Prop := zkd t = 2 ∧ t < 193
theorem okT_0 : ∀ t, t < 193 → zkd t = 2 → 11 ≤ t ∧ t ≤ 182 ∧ zsb t = t ∧ zln (t + 1) = 8 := by decide +kernel
theorem okT_1 : ∀ t, t < 193 → zkd t = 2 → zln (t + 2) = 60 ∧ zln (t + 3) = 60 ∧ zln (t + 4) = 60 ∧ zln (t + 5) = 60 := by decide +kernel
theorem okT_2 : ∀ t, t < 193 → zkd t = 2 → zln (t + 6) = 60 ∧ zln (t + 7) = 10 ∧ zln (t + 8) = 61 ∧ zln (t + 9) = 60 := by decide +kernel
theorem okT_3 : ∀ t, t < 193 → zkd t = 2 → zln (t + 10) = 60 ∧ zln (zit t) = 700 ∧ zln (zit t + 1) = 700 ∧ (zit t = 9 ∨ zit t = 103) := by decide +kernel
theorem okT.f {t : Nat} (h : okT t) : 11 ≤ t ∧ t ≤ 182 ∧ zsb t = t ∧ zln (t + 1) = 8 ∧ zln (t + 2) = 60 ∧ zln (t + 3) = 60 ∧ zln (t + 4) = 60 ∧ zln (t + 5) = 60 ∧ zln (t + 6) = 60 ∧ zln (t + 7) = 10 ∧ zln (t + 8) = 61 ∧ zln (t + 9) = 60 ∧ zln (t + 10) = 60 ∧ zln (zit t) = 700 ∧ zln (zit t + 1) = 700 ∧ (zit t = 9 ∨ zit t = 103) := let ⟨a00, a01, a02, a03⟩ := okT_0 t h.2 h.1; let ⟨a10, a11, a12, a13⟩ := okT_1 t h.2 h.1; let ⟨a20, a21, a22, a23⟩ := okT_2 t h.2 h.1; let ⟨a30, a31, a32, a33⟩ := okT_3 t h.2 h.1; ⟨a00, a01, a02, a03, a10, a11, a12, a13, a20, a21, a22, a23, a30, a31, a32, a33⟩
theorem zl_200s : zln 201 = 10 ∧ zln 202 = 60 ∧ zln 203 = 10 ∧ zln 204 = 10 ∧ zln 205 = 10 ∧ zln 206 = 10 ∧ zln 207 = 4000 ∧ zln 208 = 400 := by decide +kernel
theorem zcmp_le {x y : Int} : zcmp x y ≤ 0 ↔ x ≤ y := by
  unfold zcmp
  by_cases h : x < y
  · rw [if_pos h]; omega
  · rw [if_neg h]
    by_cases h2 : x = y
    · rw [if_pos h2]; omega
    · rw [if_neg h2]; omega
theorem zcmp_ge {x y : Int} : 0 ≤ zcmp x y ↔ y ≤ x := by
  unfold zcmp
  by_cases h : x < y
  · rw [if_pos h]; omega
  · rw [if_neg h]
    by_cases h2 : x = y
    · rw [if_pos h2]; omega
    · rw [if_neg h2]; omega
