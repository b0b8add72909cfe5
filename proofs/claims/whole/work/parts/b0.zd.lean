/-! WHAT LEAVES THE ROWS OF DOUBLES AS THEY ARE -/
def zdk {α : Type} (pr : α → zM) (d : Nat → Nat → UInt64) (e : Option α) : Prop := ∀ a, e = some a → (pr a).2.2.2 = d
section zdk
variable {α β : Type} {pr : α → zM} {d : Nat → Nat → UInt64}
theorem zdk_some {a : α} (h : (pr a).2.2.2 = d) : zdk pr d (some a) := fun b hb => by cases hb; exact h
theorem zdk_none : zdk pr d none := fun b hb => by cases hb
theorem zdk_gl {e : Int} {f : Int → Option α} (k : ∀ v, zdk pr d (f v)) : zdk pr d (zgl e f) := fun a ha => k e a (zgl_some ha).2
theorem zdk_gd {c : Prop} {A : Option α} (k : zdk pr d A) : zdk pr d (zgd c A) := fun a ha => k a (zgd_some ha).2
theorem zdk_lt {e : β} {f : β → Option α} (k : zdk pr d (f e)) : zdk pr d (zlt e f) := k
theorem zdk_if {c : Prop} {i : Decidable c} {A B : Option α} (h1 : zdk pr d A) (h2 : zdk pr d B) : zdk pr d (@ite _ c i A B) := by
  by_cases h : c
  · rw [if_pos h]; exact h1
  · rw [if_neg h]; exact h2
theorem zdk_co {e : Option β} {f : β → Option α} (k : ∀ x, zdk pr d (f x)) : zdk pr d (zco e f) := by
  cases e with
  | none => exact zdk_none
  | some x => exact k x
theorem zdk_cm {e : Option zM} {f : zM → Option α} (h : zdk id d e) (k : ∀ m : zM, m.2.2.2 = d → zdk pr d (f m)) : zdk pr d (zcm e f) := by
  cases he : e with
  | none => exact zdk_none
  | some x => exact k x (h x he)
theorem zdk_cl {e : Option (β × zM)} {f : β → zM → Option α} (h : zdk Prod.snd d e) (k : ∀ (x : β) (m : zM), m.2.2.2 = d → zdk pr d (f x m)) : zdk pr d (zcl2 e f) := by
  cases he : e with
  | none => exact zdk_none
  | some x => exact k x.1 x.2 (h x he)
theorem zdk_x1 {step : (Int → zM → Option α) → Int → zM → Option α} (hs : ∀ k : Int → zM → Option α, (∀ x m, m.2.2.2 = d → zdk pr d (k x m)) → ∀ (x : Int) (m : zM), m.2.2.2 = d → zdk pr d (step k x m)) : ∀ (n : Nat) (x : Int) (m : zM), m.2.2.2 = d → zdk pr d (zfx step (fun _ _ => none) n x m) := by
  intro n
  induction n with
  | zero => intro x m _; exact zdk_none
  | succ n ih => intro x m h; exact hs _ ih x m h
theorem zdk_x2 {step : (Int → Int → zM → Option α) → Int → Int → zM → Option α} (hs : ∀ k : Int → Int → zM → Option α, (∀ x y m, m.2.2.2 = d → zdk pr d (k x y m)) → ∀ (x y : Int) (m : zM), m.2.2.2 = d → zdk pr d (step k x y m)) : ∀ (n : Nat) (x y : Int) (m : zM), m.2.2.2 = d → zdk pr d (zfx step (fun _ _ _ => none) n x y m) := by
  intro n
  induction n with
  | zero => intro x y m _; exact zdk_none
  | succ n ih => intro x y m h; exact hs _ ih x y m h
end zdk
section zdks
variable {d : Nat → Nat → UInt64} {μ : zM}
theorem zd_throwsIf16 (a b : Int) (μ : zM) (hd : μ.2.2.2 = d) : zdk Prod.snd d (f7_throwsIf_16 a b μ) := by
  unfold f7_throwsIf_16
  exact zdk_if (zdk_some hd) (zdk_some hd)
theorem zd_throwsIf (a b : Int) (μ : zM) (hd : μ.2.2.2 = d) : zdk Prod.snd d (f7_throwsIf a b μ) := by
  unfold f7_throwsIf
  exact zdk_if (zdk_if (zd_throwsIf16 _ _ _ hd) (zdk_lt (zd_throwsIf16 _ _ _ hd))) (zd_throwsIf16 _ _ _ hd)
theorem zd_sh203 {k : Int → zM → Option zM} (hk : ∀ (x : Int) (m : zM), m.2.2.2 = d → zdk id d (k x m)) (x1 s0 s1 : Int) (μ : zM) (hd : μ.2.2.2 = d) : zdk id d (f7_shows_203 k x1 s0 s1 μ) := by
  unfold f7_shows_203
  exact zdk_lt (zdk_lt (zdk_gl (fun _ => hk _ _ hd)))
theorem zd_sh181 {k : Int → zM → Option zM} (hk : ∀ (x : Int) (m : zM), m.2.2.2 = d → zdk id d (k x m)) (x1 x3 s0 s1 : Int) (μ : zM) (hd : μ.2.2.2 = d) : zdk id d (f7_shows_181 k x1 x3 s0 s1 μ) := by
  unfold f7_shows_181
  exact zdk_gd (zdk_lt (zdk_gd (zdk_if (zd_sh203 hk _ _ _ _ hd) (zdk_lt (zd_sh203 hk _ _ _ _ hd)))))
theorem zd_sh156 {k : Int → zM → Option zM} (hk : ∀ (x : Int) (m : zM), m.2.2.2 = d → zdk id d (k x m)) (x1 x3 s0 s1 : Int) (μ : zM) (hd : μ.2.2.2 = d) : zdk id d (f7_shows_156 k x1 x3 s0 s1 μ) := by
  unfold f7_shows_156
  exact zdk_gd (zdk_lt (zdk_gd (zdk_if (zdk_gd (zd_sh181 hk _ _ _ _ _ hd)) (zd_sh181 hk _ _ _ _ _ hd))))
theorem zd_sh155 {k : Int → zM → Option zM} (hk : ∀ (x : Int) (m : zM), m.2.2.2 = d → zdk id d (k x m)) (x1 x3 s0 : Int) (μ : zM) (hd : μ.2.2.2 = d) : zdk id d (f7_shows_155 k x1 x3 s0 μ) := by
  unfold f7_shows_155
  exact zd_sh156 hk _ _ _ _ _ hd
theorem zd_sh106 {k : Int → zM → Option zM} (hk : ∀ (x : Int) (m : zM), m.2.2.2 = d → zdk id d (k x m)) (x1 x2 x3 s0 s1 : Int) (μ : zM) (hd : μ.2.2.2 = d) : zdk id d (f7_shows_106 k x1 x2 x3 s0 s1 μ) := by
  unfold f7_shows_106
  exact zdk_gd (zdk_lt (zdk_gd (zdk_if (zd_sh155 hk _ _ _ _ hd) (zdk_gd (zdk_if (zd_sh155 hk _ _ _ _ hd) (zdk_co (fun _ => zdk_if (zdk_gd (zdk_if (zd_sh156 hk _ _ _ _ _ hd) (zd_sh155 hk _ _ _ _ hd))) (zd_sh155 hk _ _ _ _ hd))))))))
theorem zd_sh42 {k : Int → zM → Option zM} (hk : ∀ (x : Int) (m : zM), m.2.2.2 = d → zdk id d (k x m)) (x1 : Int) (μ : zM) (hd : μ.2.2.2 = d) : zdk id d (f7_shows_42 k x1 μ) := by
  unfold f7_shows_42
  exact zdk_co (fun _ => zdk_if (zdk_some hd) (zdk_co (fun _ => zdk_gd (zdk_lt (zdk_gd (zdk_if (zd_sh106 hk _ _ _ _ _ _ hd) (zdk_gd (zdk_gd (zdk_if (zd_sh106 hk _ _ _ _ _ _ hd) (zd_sh106 hk _ _ _ _ _ _ hd))))))))))
theorem zd_sh2 {k : Int → zM → Option zM} (hk : ∀ (x : Int) (m : zM), m.2.2.2 = d → zdk id d (k x m)) (x1 : Int) (μ : zM) (hd : μ.2.2.2 = d) : zdk id d (f7_shows_2 k x1 μ) := by
  unfold f7_shows_2
  exact zdk_if (zdk_lt (zdk_x1 (fun k hk x m hd => zd_sh42 hk x m hd) zFu _ _ hd)) (zdk_gd (zdk_lt (zdk_gd (zdk_lt (zdk_gd (zdk_lt (zdk_gl (fun _ => hk _ _ hd))))))))
theorem zd_shows (μ : zM) (hd : μ.2.2.2 = d) : zdk id d (f7_shows μ) := zdk_x1 (fun k hk x m hd => zd_sh2 hk x m hd) zFu 0 μ hd
theorem zd_lays (a : Int) (μ : zM) (hd : μ.2.2.2 = d) : zdk id d (f7_lays a μ) := by
  unfold f7_lays
  exact zdk_gl (fun _ => zdk_gl (fun _ => zdk_lt (zdk_gl (fun _ => zdk_gd (zdk_lt (zdk_cm (zd_shows _ hd) (fun _ h1 => zdk_some h1)))))))
theorem zd_noS15 (a s : Int) (μ : zM) (hd : μ.2.2.2 = d) : zdk Prod.snd d (f7_noSession_15 a s μ) := by
  unfold f7_noSession_15
  exact zdk_cl (zd_throwsIf _ _ _ hd) (fun _ _ h1 => zdk_if (zdk_gd (zdk_gl (fun _ => zdk_cm (zd_lays _ _ h1) (fun _ h2 => zdk_some h2)))) (zdk_some h1))
theorem zd_noSession (a : Int) (μ : zM) (hd : μ.2.2.2 = d) : zdk Prod.snd d (f7_noSession a μ) := by
  unfold f7_noSession
  exact zdk_gd (zdk_if (zd_noS15 _ _ _ hd) (zd_noS15 _ _ _ hd))
theorem zd_untouched (μ : zM) (hd : μ.2.2.2 = d) : zdk Prod.snd d (f7_untouched μ) := by
  unfold f7_untouched
  exact zdk_lt (zdk_cl (zd_noSession _ _ hd) (fun _ _ h1 => zdk_if (zdk_gl (fun _ => zdk_gd (zdk_lt (zdk_lt (zdk_co (fun _ => zdk_co (fun _ => zdk_gd (zdk_some h1)))))))) (zdk_some h1)))
theorem zd_vl88 {R1 : Int → zM → Option (Int × zM)} {R2 : Int → zM → Option (Int × zM)} {R3 : Int → Int → zM → Option (Int × zM)} (a : Int) (μ : zM) (hd : μ.2.2.2 = d) : zdk Prod.snd d (f7_valueLength_88 R1 R2 R3 a μ) := by
  unfold f7_valueLength_88
  exact zdk_gd (zdk_some hd)
theorem zd_vl87 {R1 : Int → zM → Option (Int × zM)} {R2 : Int → zM → Option (Int × zM)} {R3 : Int → Int → zM → Option (Int × zM)} (a s0 s1 : Int) (μ : zM) (hd : μ.2.2.2 = d) : zdk Prod.snd d (f7_valueLength_87 R1 R2 R3 a s0 s1 μ) := by
  unfold f7_valueLength_87
  exact zdk_gd (zdk_lt (zd_vl88 _ _ hd))
theorem zd_vl {R1 : Int → zM → Option (Int × zM)} {R2 : Int → zM → Option (Int × zM)} {R3 : Int → Int → zM → Option (Int × zM)} (g1 : ∀ x m, m.2.2.2 = d → zdk Prod.snd d (R1 x m)) (g2 : ∀ x m, m.2.2.2 = d → zdk Prod.snd d (R2 x m)) (g3 : ∀ x y m, m.2.2.2 = d → zdk Prod.snd d (R3 x y m)) (a : Int) (μ : zM) (hd : μ.2.2.2 = d) : zdk Prod.snd d (f7_valueLength_o R1 R2 R3 a μ) := by
  unfold f7_valueLength_o
  exact zdk_gd (zdk_if (zdk_gd (zdk_lt (zdk_co (fun _ => zdk_if (zdk_if (zd_vl87 _ _ _ _ hd) (zdk_co (fun _ => zdk_gd (zdk_gl (fun _ => zdk_co (fun _ => zdk_gd (zdk_cl (g3 _ _ _ hd) (fun _ _ h1 => zd_vl87 _ _ _ _ h1)))))))) (zdk_gl (fun _ => zdk_gl (fun _ => zdk_gd (zd_vl87 _ _ _ _ hd)))))))) (zd_vl88 _ _ hd))
theorem zd_la {R1 : Int → zM → Option (Int × zM)} {R2 : Int → zM → Option (Int × zM)} {R3 : Int → Int → zM → Option (Int × zM)} (g1 : ∀ x m, m.2.2.2 = d → zdk Prod.snd d (R1 x m)) (g2 : ∀ x m, m.2.2.2 = d → zdk Prod.snd d (R2 x m)) (g3 : ∀ x y m, m.2.2.2 = d → zdk Prod.snd d (R3 x y m)) (a : Int) (μ : zM) (hd : μ.2.2.2 = d) : zdk Prod.snd d (f7_lengthAt_o R1 R2 R3 a μ) := by
  unfold f7_lengthAt_o
  exact zdk_co (fun _ => zdk_gd (zdk_co (fun _ => zdk_gd (zdk_cl (g1 _ _ hd) (fun _ _ h1 => zdk_co (fun _ => zdk_some h1))))))
theorem zd_bl {R1 : Int → zM → Option (Int × zM)} {R2 : Int → zM → Option (Int × zM)} {R3 : Int → Int → zM → Option (Int × zM)} (g1 : ∀ x m, m.2.2.2 = d → zdk Prod.snd d (R1 x m)) (g2 : ∀ x m, m.2.2.2 = d → zdk Prod.snd d (R2 x m)) (g3 : ∀ x y m, m.2.2.2 = d → zdk Prod.snd d (R3 x y m)) (a b : Int) (μ : zM) (hd : μ.2.2.2 = d) : zdk Prod.snd d (f7_bodyLength_o R1 R2 R3 a b μ) := by
  unfold f7_bodyLength_o
  refine zdk_x2 (fun k hk x y μ hd => ?_) zFu 0 a μ hd
  unfold f7_bodyLength_5
  exact zdk_if (zdk_some hd) (zdk_gd (zdk_lt (zdk_if (zdk_co (fun _ => zdk_gl (fun _ => hk _ _ _ hd))) (zdk_gl (fun _ => zdk_cl (g2 _ _ hd) (fun _ _ h1 => zdk_co (fun _ => zdk_co (fun _ => zdk_gd (zdk_gl (fun _ => hk _ _ _ h1))))))))))
theorem zd_GA : ∀ n : Nat, (∀ (x : Int) (m : zM), m.2.2.2 = d → zdk Prod.snd d ((fGA n).1 x m)) ∧ (∀ (x : Int) (m : zM), m.2.2.2 = d → zdk Prod.snd d ((fGA n).2.1 x m)) ∧ (∀ (x y : Int) (m : zM), m.2.2.2 = d → zdk Prod.snd d ((fGA n).2.2 x y m)) := by
  intro n
  induction n with
  | zero => exact ⟨fun _ _ _ => zdk_none, fun _ _ _ => zdk_none, fun _ _ _ _ => zdk_none⟩
  | succ n ih => exact ⟨fun x m hd => zd_vl ih.1 ih.2.1 ih.2.2 x m hd, fun x m hd => zd_la ih.1 ih.2.1 ih.2.2 x m hd, fun x y m hd => zd_bl ih.1 ih.2.1 ih.2.2 x y m hd⟩
theorem zd_valueLength (n : Nat) (x : Int) (m : zM) (hd : m.2.2.2 = d) : zdk Prod.snd d (f7_valueLength n x m) := (zd_GA n).1 x m hd
theorem zd_me19 {k : Int → Int → zM → Option (UInt64 × zM)} (hk : ∀ (x y : Int) (m : zM), m.2.2.2 = d → zdk Prod.snd d (k x y m)) (x1 x2 : Int) (μ : zM) (hd : μ.2.2.2 = d) : zdk Prod.snd d (f7_meanLength_19 k x1 x2 μ) := by
  unfold f7_meanLength_19
  exact zdk_if (zdk_co (fun _ => zdk_gd (zdk_some hd))) (zdk_co (fun _ => zdk_if (zdk_gl (fun _ => zdk_gl (fun _ => hk _ _ _ hd))) (zdk_cl (zd_valueLength _ _ _ hd) (fun _ _ h1 => zdk_gl (fun _ => zdk_gl (fun _ => hk _ _ _ h1))))))
theorem zd_mean (μ : zM) (hd : μ.2.2.2 = d) : zdk Prod.snd d (f7_meanLength μ) := by
  unfold f7_meanLength
  exact zdk_lt (zdk_cl (zd_noSession _ _ hd) (fun _ _ h1 => zdk_if (zdk_x2 (fun k hk x y m hd => zd_me19 hk x y m hd) zFu _ _ _ h1) (zdk_some h1)))
end zdks
