/-! THE LAW: each question, each act -/
theorem kk_size (A : zA) (w : Int) : ∀ k9, spSize A w = .inl k9 → 1 ≤ k9 ∧ k9 ≤ [xIA].length := by
  intro k9 h
  unfold spSize at h
  show 1 ≤ k9 ∧ k9 ≤ 1
  repeat' (split at h)
  all_goals first | (cases h; exact ⟨by decide, by decide⟩) | (cases h)
theorem kk_snippet (A : zA) (k : Int) (w : Int) : ∀ k9, spSnippet A k w = .inl k9 → 1 ≤ k9 ∧ k9 ≤ [xIO, xIA].length := by
  intro k9 h
  unfold spSnippet at h
  show 1 ≤ k9 ∧ k9 ≤ 2
  repeat' (split at h)
  all_goals first | (cases h; exact ⟨by decide, by decide⟩) | (cases h)
theorem kk_letter (A : zA) (k : Int) (i : Int) : ∀ k9, spLetter A k i = .inl k9 → 1 ≤ k9 ∧ k9 ≤ [xIO].length := by
  intro k9 h
  unfold spLetter at h
  show 1 ≤ k9 ∧ k9 ≤ 1
  repeat' (split at h)
  all_goals first | (cases h; exact ⟨by decide, by decide⟩) | (cases h)
theorem kk_depends (A : zA) (k : Int) (f : Int) : ∀ k9, spDepends A k f = .inl k9 → 1 ≤ k9 ∧ k9 ≤ [xIO].length := by
  intro k9 h
  unfold spDepends at h
  show 1 ≤ k9 ∧ k9 ≤ 1
  repeat' (split at h)
  all_goals first | (cases h; exact ⟨by decide, by decide⟩) | (cases h)
theorem kk_document (A : zA) (i : Int) : ∀ k9, spDocument A i = .inl k9 → 1 ≤ k9 ∧ k9 ≤ [xIO].length := by
  intro k9 h
  unfold spDocument at h
  show 1 ≤ k9 ∧ k9 ≤ 1
  repeat' (split at h)
  all_goals first | (cases h; exact ⟨by decide, by decide⟩) | (cases h)
theorem kk_session (A : zA) (l : Int) (w : Int) : ∀ k9, spSession A l w = .inl k9 → 1 ≤ k9 ∧ k9 ≤ [xIO, xIA].length := by
  intro k9 h
  unfold spSession at h
  show 1 ≤ k9 ∧ k9 ≤ 2
  repeat' (split at h)
  all_goals first | (cases h; exact ⟨by decide, by decide⟩) | (cases h)
theorem kk_account (A : zA) (w : Int) : ∀ k9, spAccount A w = .inl k9 → 1 ≤ k9 ∧ k9 ≤ [xIA].length := by
  intro k9 h
  unfold spAccount at h
  show 1 ≤ k9 ∧ k9 ≤ 1
  repeat' (split at h)
  all_goals first | (cases h; exact ⟨by decide, by decide⟩) | (cases h)
theorem kk_field (A : zA) (f : Int) (w : Int) : ∀ k9, spField A f w = .inl k9 → 1 ≤ k9 ∧ k9 ≤ [xIO, xIA, xIS].length := by
  intro k9 h
  unfold spField at h
  show 1 ≤ k9 ∧ k9 ≤ 3
  repeat' (split at h)
  all_goals first | (cases h; exact ⟨by decide, by decide⟩) | (cases h)
theorem kk_value (A : zA) (f : Int) (i : Int) : ∀ k9, spValue A f i = .inl k9 → 1 ≤ k9 ∧ k9 ≤ [xIO, xIS].length := by
  intro k9 h
  unfold spValue at h
  show 1 ≤ k9 ∧ k9 ≤ 2
  repeat' (split at h)
  all_goals first | (cases h; exact ⟨by decide, by decide⟩) | (cases h)
theorem kk_occurrence (A : zA) (o : Int) (w : Int) : ∀ k9, spOcc A o w = .inl k9 → 1 ≤ k9 ∧ k9 ≤ [xIS, xIO, xIA].length := by
  intro k9 h
  unfold spOcc at h
  show 1 ≤ k9 ∧ k9 ≤ 3
  repeat' (split at h)
  all_goals first | (cases h; exact ⟨by decide, by decide⟩) | (cases h)
theorem kk_text (A : zA) (i : Int) : ∀ k9, spText A i = .inl k9 → 1 ≤ k9 ∧ k9 ≤ [xIS].length := by
  intro k9 h
  unfold spText at h
  show 1 ≤ k9 ∧ k9 ≤ 1
  repeat' (split at h)
  all_goals first | (cases h; exact ⟨by decide, by decide⟩) | (cases h)
theorem kk_orderAt (A : zA) (i : Int) : ∀ k9, spOrderAt A i = .inl k9 → 1 ≤ k9 ∧ k9 ≤ [xIS].length := by
  intro k9 h
  unfold spOrderAt at h
  show 1 ≤ k9 ∧ k9 ≤ 1
  repeat' (split at h)
  all_goals first | (cases h; exact ⟨by decide, by decide⟩) | (cases h)
theorem kk_why (A : zA) (f : Int) : ∀ k9, spWhy A f = .inl k9 → 1 ≤ k9 ∧ k9 ≤ [xIO, xIS].length := by
  intro k9 h
  unfold spWhy at h
  show 1 ≤ k9 ∧ k9 ≤ 2
  repeat' (split at h)
  all_goals first | (cases h; exact ⟨by decide, by decide⟩) | (cases h)
theorem kk_yielded (A : zA)  : ∀ k9, spYielded A  = .inl k9 → 1 ≤ k9 ∧ k9 ≤ [xIS].length := by
  intro k9 h
  unfold spYielded at h
  show 1 ≤ k9 ∧ k9 ≤ 1
  repeat' (split at h)
  all_goals first | (cases h; exact ⟨by decide, by decide⟩) | (cases h)
theorem kk_mirrored (A : zA)  : ∀ k9, spMirrored A  = .inl k9 → 1 ≤ k9 ∧ k9 ≤ [xIS].length := by
  intro k9 h
  unfold spMirrored at h
  show 1 ≤ k9 ∧ k9 ≤ 1
  repeat' (split at h)
  all_goals first | (cases h; exact ⟨by decide, by decide⟩) | (cases h)
theorem kk_longest (A : zA)  : ∀ k9, spLongest A  = .inl k9 → 1 ≤ k9 ∧ k9 ≤ [xIS].length := by
  intro k9 h
  unfold spLongest at h
  show 1 ≤ k9 ∧ k9 ≤ 1
  repeat' (split at h)
  all_goals first | (cases h; exact ⟨by decide, by decide⟩) | (cases h)
theorem kk_lengthIf (A : zA) (n : Int) : ∀ k9, spLengthIf A n = .inl k9 → 1 ≤ k9 ∧ k9 ≤ [xIA, xIS].length := by
  intro k9 h
  unfold spLengthIf at h
  show 1 ≤ k9 ∧ k9 ≤ 2
  repeat' (split at h)
  all_goals first | (cases h; exact ⟨by decide, by decide⟩) | (cases h)
theorem kk_wouldHide (A : zA) (f : Int) : ∀ k9, spWouldHide A f = .inl k9 → 1 ≤ k9 ∧ k9 ≤ [xIO, xIS].length := by
  intro k9 h
  unfold spWouldHide at h
  show 1 ≤ k9 ∧ k9 ≤ 2
  repeat' (split at h)
  all_goals first | (cases h; exact ⟨by decide, by decide⟩) | (cases h)
theorem kk_lengthOf (A : zA) (k : Int) : ∀ k9, spLengthOf A k = .inl k9 → 1 ≤ k9 ∧ k9 ≤ [xIO].length := by
  intro k9 h
  unfold spLengthOf at h
  show 1 ≤ k9 ∧ k9 ≤ 1
  repeat' (split at h)
  all_goals first | (cases h; exact ⟨by decide, by decide⟩) | (cases h)
section lops
variable {A : zA} {c : Int} {μ : zM}
theorem o_size (h : LI c A μ) (w : Int) : opW c (fL_size w μ) (f7_size w) := op_q h (names := [xIA]) (by decide +kernel) (kk_size A w) (c_size h.1 h.2.2.1 w) (fun m hm => n_size hm w)
theorem o_snippet (h : LI c A μ) (k : Int) (w : Int) : opW c (fL_snippet k w μ) (f7_snippet k w) := op_q h (names := [xIO, xIA]) (by decide +kernel) (kk_snippet A k w) (c_snippet h.1 h.2.2.1 k w) (fun m hm => n_snippet h.1 hm k w)
theorem o_letter (h : LI c A μ) (k : Int) (i : Int) : opW c (fL_letter k i μ) (f7_letter k i) := op_q h (names := [xIO]) (by decide +kernel) (kk_letter A k i) (c_letter h.1 h.2.2.1 k i) (fun m hm => n_letter h.1 hm k i)
theorem o_depends (h : LI c A μ) (k : Int) (f : Int) : opW c (fL_depends k f μ) (f7_depends k f) := op_q h (names := [xIO]) (by decide +kernel) (kk_depends A k f) (c_depends h.1 h.2.2.1 k f) (fun m hm => n_depends h.1 hm k f)
theorem o_document (h : LI c A μ) (i : Int) : opW c (fL_document i μ) (f7_document i) := op_q h (names := [xIO]) (by decide +kernel) (kk_document A i) (c_document h.1 h.2.2.1 i) (fun m hm => n_document h.1 hm i)
theorem o_session (h : LI c A μ) (l : Int) (w : Int) : opW c (fL_session l w μ) (f7_session l w) := op_q h (names := [xIO, xIA]) (by decide +kernel) (kk_session A l w) (c_session h.1 h.2.2.1 l w) (fun m hm => n_session h.1 hm l w)
theorem o_account (h : LI c A μ) (w : Int) : opW c (fL_account w μ) (f7_account w) := op_q h (names := [xIA]) (by decide +kernel) (kk_account A w) (c_account h.2.2.1 w) (fun m hm => n_account hm w)
theorem o_field (h : LI c A μ) (f : Int) (w : Int) : opW c (fL_field f w μ) (f7_field f w) := op_q h (names := [xIO, xIA, xIS]) (by decide +kernel) (kk_field A f w) (c_field h.1 h.2.2.1 f w) (fun m hm => n_field h.1 hm f w)
theorem o_value (h : LI c A μ) (f : Int) (i : Int) : opW c (fL_value f i μ) (f7_value f i) := op_q h (names := [xIO, xIS]) (by decide +kernel) (kk_value A f i) (c_value h.1 h.2.2.1 f i) (fun m hm => n_value h.1 hm f i)
theorem o_occurrence (h : LI c A μ) (o : Int) (w : Int) : opW c (fL_occurrence o w μ) (f7_occurrence o w) := op_q h (names := [xIS, xIO, xIA]) (by decide +kernel) (kk_occurrence A o w) (c_occurrence h.1 h.2.2.1 o w) (fun m hm => n_occurrence h.1 hm o w)
theorem o_text (h : LI c A μ) (i : Int) : opW c (fL_text i μ) (f7_text i) := op_q h (names := [xIS]) (by decide +kernel) (kk_text A i) (c_text h.1 h.2.2.1 i) (fun m hm => n_text h.1 hm i)
theorem o_orderAt (h : LI c A μ) (i : Int) : opW c (fL_orderAt i μ) (f7_orderAt i) := op_q h (names := [xIS]) (by decide +kernel) (kk_orderAt A i) (c_orderAt h.1 h.2.2.1 i) (fun m hm => n_orderAt h.1 hm i)
theorem o_why (h : LI c A μ) (f : Int) : opW c (fL_why f μ) (f7_why f) := op_q h (names := [xIO, xIS]) (by decide +kernel) (kk_why A f) (c_why h.1 h.2.2.1 f) (fun m hm => n_why h.1 hm f)
theorem o_yielded (h : LI c A μ) : opW c (fL_yielded μ) (f7_yielded ) := op_q h (names := [xIS]) (by decide +kernel) (kk_yielded A ) (c_yielded h.1 h.2.2.1 ) (fun m hm => n_yielded h.1 hm )
theorem o_mirrored (h : LI c A μ) : opW c (fL_mirrored μ) (f7_mirrored ) := op_q h (names := [xIS]) (by decide +kernel) (kk_mirrored A ) (c_mirrored h.1 h.2.2.1 ) (fun m hm => n_mirrored h.1 hm )
theorem o_longest (h : LI c A μ) : opW c (fL_longest μ) (f7_longest ) := op_q h (names := [xIS]) (by decide +kernel) (kk_longest A ) (c_longest h.1 h.2.2.1 ) (fun m hm => n_longest h.1 hm )
theorem o_lengthIf (h : LI c A μ) (n : Int) : opW c (fL_lengthIf n μ) (f7_lengthIf n) := op_q h (names := [xIA, xIS]) (by decide +kernel) (kk_lengthIf A n) (c_lengthIf h.1 h.2.2.1 n) (fun m hm => n_lengthIf h.1 hm n)
theorem o_wouldHide (h : LI c A μ) (f : Int) : opW c (fL_wouldHide f μ) (f7_wouldHide f) := op_q h (names := [xIO, xIS]) (by decide +kernel) (kk_wouldHide A f) (c_wouldHide h.1 h.2.2.1 f) (fun m hm => n_wouldHide h.1 hm f)
theorem o_lengthOf (h : LI c A μ) (k : Int) : opW c (fL_lengthOf k μ) (f7_lengthOf k) := op_q h (names := [xIO]) (by decide +kernel) (kk_lengthOf A k) (c_lengthOf h.1 h.2.2.1 k) (fun m hm => n_lengthOf h.1 hm k)
theorem o_erase (h : LI c A μ) (hc : c ≤ 1000) : opU c (f5_erase μ) f7_erase := op_act h (ok_erase h.1) (c_erase h.1 hc h.2.2.1) (fun m hm => n_erase h.1 hc hm)
theorem o_reset (h : LI c A μ) (hc : c ≤ 1000) : opU c (f5_reset μ) f7_reset := op_act h (ok_reset h.1) (c_reset h.1 hc h.2.2.1) (fun m hm => n_reset h.1 hc hm)
theorem o_next (h : LI c A μ) (hc : c ≤ 1000) : opU c (f5_next μ) f7_next := op_act h (ok_next h.1) (c_next h.1 hc h.2.2.1) (fun m hm => n_next h.1 hc hm)
theorem o_previous (h : LI c A μ) (hc : c ≤ 1000) : opU c (f5_previous μ) f7_previous := op_act h (ok_prev h.1) (c_previous h.1 hc h.2.2.1) (fun m hm => n_previous h.1 hc hm)
theorem o_finish (h : LI c A μ) (hc : c ≤ 1000) : opU c (f5_finish μ) f7_finish := op_act h (ok_finish h.1) (c_finish h.1 hc h.2.2.1) (fun m hm => n_finish h.1 hc hm)
theorem o_drop (h : LI c A μ) (hc : c ≤ 1000) : opU c (f5_drop μ) f7_drop := op_act h (ok_drop h.1) (c_drop h.1 hc h.2.2.1) (fun m hm => n_drop h.1 hc hm)
theorem o_order (h : LI c A μ) (hc : c ≤ 1000) {s : Int} (hs : s = 0 ∨ s = 1) : opU c (f5_setOrder s μ) (f7_setOrder s) := op_act h (ok_order h.1 hs) (c_setOrder h.1 hc h.2.2.1 hs) (fun m hm => n_setOrder h.1 hc hm hs)
theorem o_go (h : LI c A μ) (hc : c ≤ 1000) (f : Int) : opW c (fL_go f μ) (f7_go f) := op_pre (P := 0 ≤ f ∧ f < 10) (E := xIO) h (fun _ => ok_go h.1 f.toNat) zwn_hit (zok_mono (c_go h.1 hc h.2.2.1 f) (fun r hr => hr.imp id (fun q => ⟨⟨q.1, q.2.1⟩, q.2.2⟩))) (fun m hm => zok_mono (n_go h.1 hc hm f) (fun r hr => hr.imp id (fun q => ⟨⟨q.1, q.2.1⟩, q.2.2⟩)))
theorem o_expand (h : LI c A μ) (hc : c ≤ 1000) (k : Int) : opW c (fL_expand k μ) (f7_expand k) := op_pre (P := 0 ≤ k ∧ k < aN A) (E := xIO) h (fun hp => ok_expand h.1 (k := k.toNat) (by have := hp.1; have := hp.2; omega)) zwn_hit (zok_mono (c_expand h.1 hc h.2.2.1 k) (fun r hr => hr.imp id (fun q => ⟨⟨q.1, q.2.1⟩, q.2.2⟩))) (fun m hm => zok_mono (n_expand h.1 hc hm k) (fun r hr => hr.imp id (fun q => ⟨⟨q.1, q.2.1⟩, q.2.2⟩)))
end lops
