section
/-! ===== what the room means for this claim: along the run from any start that the claim speaks of, no state ahead of the end has more new cells or slots than the room ===== -/
/-- an invocation that has ended is no longer within -/
theorem rm_apart {t : State} {below : List Frame} {v : Option Value} (hE : Ended t below (Outcome.returned v)) (hW : Within t below) : False := by
  obtain ⟨above, hab, hne, _⟩ := hW
  have hlen : t.frames.length = below.length := by
    cases below with
    | nil => simp only [Ended] at hE; rw [hE.2]
    | cons g r =>
      cases g <;> simp only [Ended] at hE
      case java g => obtain ⟨c, i, len, _, _, h⟩ := hE; rw [h]; rfl
      case native g => rw [hE]; rfl
      case proc g => rw [hE]; rfl
      all_goals (rw [hE.2])
  rw [hab, List.length_append] at hlen
  cases above with
  | nil => exact hne rfl
  | cons a b => simp only [List.length_cons] at hlen; omega
/-- what every end that the claim allows says of the heap -/
theorem rm_end {s t : State} {o : Outcome} {L : List Loc} (h : Jvm.State.butDraws s t [Jvm.Choice.named "NaN.bits"] (fun t1 => Jvm.D.Framed s o t1 L 600086 7301442)) :
    (∃ v, o = Outcome.returned v) ∧ t.heap.size ≤ s.heap.size + 600086 ∧ t.slotsUsed ≤ s.slotsUsed + 7301442 := by
  obtain ⟨⟨hv, _, hN⟩, _, _⟩ := h
  refine ⟨hv, hN.2.2.1, ?_⟩
  have h4 := hN.2.2.2.1
  have h5 := hN.2.2.2.2.1
  simp only at h4 h5
  omega
/-- a start that the claim speaks of -/
def rm_start (l : Jvm.Launch) (p : Program) (e : Env) (s : State) (m : MethodId) (args : Array Value) (below : List Frame) : Prop :=
  l.flags = flags0 ∧ Jvm.D.Lists l classFile x code maxLocals ret tables_1 room_1 ∧ l.admits e ∧ FairCas e.choices ∧ FairClock e.choices ∧
    s.frames = Frame.invoking m args :: below ∧ Jvm.D.argsFit s.vm m args = true ∧ Jvm.D.heapFits s = true ∧
    (Jvm.D.headSpec (Jvm.Cond.code x code maxLocals ret :: tables_1) room_1).applies x e.platform s = true ∧
    Calls_1 p.tables e args s ∧ rest_1 p.tables e args s ∧ Pre_1 p.tables e args s
/-- the run from it has, while the law's call is still open, more new cells or more new slots than the room -/
def rm_over (p : Program) (e : Env) (s : State) (below : List Frame) : Prop :=
  ∃ k, (∀ j, j ≤ k → Within (stepsAlone p.tables e j s) below) ∧
    (s.heap.size + 600086 < (stepsAlone p.tables e k s).heap.size ∨ s.slotsUsed + 7301442 < (stepsAlone p.tables e k s).slotsUsed)
theorem rm_under {p : Program} {e : Env} {s : State} {below : List Frame} {n : Nat} {o : Outcome} {L : List Loc}
    (hE : Ended (stepsAlone p.tables e n s) below o)
    (hF : Jvm.State.butDraws s (stepsAlone p.tables e n s) [Jvm.Choice.named "NaN.bits"] (fun t1 => Jvm.D.Framed s o t1 L 600086 7301442)) : ¬ rm_over p e s below := by
  rintro ⟨k, hW, hk⟩
  obtain ⟨⟨v, rfl⟩, hc, hs⟩ := rm_end hF
  have hlt : k < n := by
    rcases Nat.lt_or_ge k n with h | h
    · exact h
    · exact (rm_apart hE (hW n h)).elim
  have hg := stepsAlone_heap_grows_add p.tables e k (n - k) s
  rw [show k + (n - k) = n by omega] at hg
  omega
/-- THE STATEMENT IS FALSE where one start that it speaks of has such a run: the first limb -/
theorem rm_false_1 {l : Jvm.Launch} {p : Program} {e : Env} {s : State} {m : MethodId} {args : Array Value} {below : List Frame}
    (h : rm_start l p e s m args below) (ho : rm_over p e s below) : ¬ Claimed_1_1 := by
  intro hC
  obtain ⟨hf, hL, he, h1, h2, hfr, ha, hh, hap, hpre⟩ := h
  obtain ⟨n, o, _, _, hE, hP⟩ := hC l hf hL trivial p e he h1 h2 s m args below hfr ha hh hap hpre
  exact rm_under hE hP.2 ho
/-- .. and the second -/
theorem rm_false_2 {l : Jvm.Launch} {p : Program} {e : Env} {s : State} {m : MethodId} {args : Array Value} {below : List Frame}
    (h : rm_start l p e s m args below) (ho : rm_over p e s below) : ¬ Claimed_1_2 := by
  intro hC
  obtain ⟨hf, hL, he, h1, h2, hfr, ha, hh, hap, hpre⟩ := h
  obtain ⟨n, o, _, _, hE, hP⟩ := hC l hf hL trivial p e he h1 h2 s m args below hfr ha hh hap hpre
  exact rm_under hE hP.2 ho
theorem i_vc : Claimed_1_1 ∧ Claimed_1_2 := sorry
end
