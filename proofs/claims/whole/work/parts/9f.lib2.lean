/-! THE CLASS'S READER: a whole library -/
theorem zsI_idem (m : zM) (c i : Nat) (v : Int) : zsI (zsI m c i v) c i v = zsI m c i v := by
  unfold zsI
  refine Prod.ext ?_ rfl
  funext a b
  show (if a = c ∧ b = i then v else (if a = c ∧ b = i then v else m.1 a b)) = (if a = c ∧ b = i then v else m.1 a b)
  by_cases h : a = c ∧ b = i
  · rw [if_pos h]
    exact (if_pos h).symm
  · rw [if_neg h]
theorem readBody_pre (m : zM) : f1_readBody m = f1_readBody (zsI m 99 5 (-1)) := by
  have e : ∀ m, f1_readBody m = zfx f1_readBody_9 (fun _ _ _ => none) zFu 0 0 (zsI m 99 5 (-1)) := fun _ => rfl
  rw [e, e, zsI_idem]
theorem spn_le2 (P : Int → Bool) (b : List Int) (p : Nat) : spn P b p ≤ max p b.length := by
  unfold spn
  have := (List.takeWhile_sublist P (l := b.drop p)).length_le
  rw [List.length_drop] at this
  omega
theorem orOf_go {b : List Int} {p q : Nat} {o : Int} (h : orOf b p = .inr (q, o)) : p < q := by
  have es : orOf b p = (if wrd b (spn isBl b (spn isLt b p)) (spn isLt b (spn isBl b (spn isLt b p))) ≠ wPla ∧ wrd b (spn isBl b (spn isLt b p)) (spn isLt b (spn isBl b (spn isLt b p))) ≠ wNum then .inl (1, ((spn isBl b (spn isLt b p) : Nat) : Int)) else if bt b (spn isBl b (spn isLt b (spn isBl b (spn isLt b p)))) = 59 then .inr (spn isBl b (spn isLt b (spn isBl b (spn isLt b p))) + 1, if wrd b (spn isBl b (spn isLt b p)) (spn isLt b (spn isBl b (spn isLt b p))) = wPla then 1 else 0) else .inl (1, ((spn isBl b (spn isLt b (spn isBl b (spn isLt b p))) : Nat) : Int))) := rfl
  rw [es] at h
  have a1 := spn_ge isLt b p
  have a2 := spn_ge isBl b (spn isLt b p)
  have a3 := spn_ge isLt b (spn isBl b (spn isLt b p))
  have a4 := spn_ge isBl b (spn isLt b (spn isBl b (spn isLt b p)))
  split at h
  · cases h
  · split at h
    · have := congrArg Prod.fst (Sum.inr.inj h)
      have e : spn isBl b (spn isLt b (spn isBl b (spn isLt b p))) + 1 = q := this
      omega
    · cases h
theorem hdOf_go {b : List Int} {p n q : Nat} {L : Nat → zSn} {nm : List Int} (h : hdOf b p n L = .inr (q, nm)) : p < q := by
  have es : hdOf b p n L = (if n = 8 then .inl (5, (p : Int)) else if spn isLt b (spn isBl b (spn isLt b p)) = spn isBl b (spn isLt b p) ∨ 8 < spn isLt b (spn isBl b (spn isLt b p)) - spn isBl b (spn isLt b p) then .inl (1, ((spn isBl b (spn isLt b p) : Nat) : Int)) else if fndI L (wrd b (spn isBl b (spn isLt b p)) (spn isLt b (spn isBl b (spn isLt b p)))) n ≠ -1 then .inl (3, ((spn isBl b (spn isLt b p) : Nat) : Int)) else if bt b (spn isBl b (spn isLt b (spn isBl b (spn isLt b p)))) = 123 then .inr (spn isBl b (spn isLt b (spn isBl b (spn isLt b p))) + 1, wrd b (spn isBl b (spn isLt b p)) (spn isLt b (spn isBl b (spn isLt b p)))) else .inl (1, ((spn isBl b (spn isLt b (spn isBl b (spn isLt b p))) : Nat) : Int))) := rfl
  rw [es] at h
  have a1 := spn_ge isLt b p
  have a2 := spn_ge isBl b (spn isLt b p)
  have a3 := spn_ge isLt b (spn isBl b (spn isLt b p))
  have a4 := spn_ge isBl b (spn isLt b (spn isBl b (spn isLt b p)))
  split at h
  · cases h
  · split at h
    · cases h
    · split at h
      · cases h
      · split at h
        · have := congrArg Prod.fst (Sum.inr.inj h)
          have e : spn isBl b (spn isLt b (spn isBl b (spn isLt b p))) + 1 = q := this
          omega
        · cases h
theorem bDol_nm (b : List Int) (p : Nat) (S : zSn) (st : List Nat) {s : zBs} (h : bDol b p S st = .inr s) : sNm s.2.1 = sNm S := by
  unfold bDol at h
  split at h
  · rw [← Sum.inr.inj h]; rfl
  · have dig : ∀ q w, bDig b p q w S st = .inr s → sNm s.2.1 = sNm S := fun q w h => by
      unfold bDig at h
      split at h
      · cases h
      · split at h
        · cases h
        · split at h
          · cases h
          · split at h
            · rw [← Sum.inr.inj h]; rfl
            · unfold bBeh at h
              split at h
              · rw [← Sum.inr.inj h]; rfl
              · split at h
                · split at h
                  · cases h
                  · split at h
                    · rw [← Sum.inr.inj h]; rfl
                    · cases h
                · split at h
                  · split at h
                    · cases h
                    · rw [← Sum.inr.inj h]; rfl
                  · cases h
    split at h
    · exact dig _ _ h
    · exact dig _ _ h
theorem bStp_go {b : List Int} (hb : byB b) {p : Nat} {S : zSn} {st : List Nat} : (∀ s, bStp b p S st = .inr (.inr s) → sNm s.2.1 = sNm S ∧ p < s.1) ∧ ∀ s, bStp b p S st = .inr (.inl s) → sNm s.2 = sNm S ∧ p < s.1 := by
  unfold bStp
  by_cases c1 : bt b p = 125
  · rw [if_pos c1]
    cases st with
    | nil => exact ⟨fun s h => (by cases h), fun s h => by rw [← Sum.inl.inj (Sum.inr.inj h)]; exact ⟨rfl, Nat.lt_succ_self p⟩⟩
    | cons x r => exact ⟨fun s h => (by rw [← Sum.inr.inj (Sum.inr.inj h)]; exact ⟨rfl, Nat.lt_succ_self p⟩), fun s h => (by cases h)⟩
  · rw [if_neg c1]
    by_cases c2 : bt b p = 36
    · rw [if_pos c2]
      cases e : bDol b p S st with
      | inl x => exact ⟨fun s h => (by cases h), fun s h => (by cases h)⟩
      | inr x =>
        refine ⟨fun s h => ?_, fun s h => (by cases h)⟩
        have e2 : x = s := Sum.inr.inj (Sum.inr.inj h)
        subst e2
        have := bDol_go b hb p S st e
        exact ⟨bDol_nm b p S st e, by omega⟩
    · rw [if_neg c2]
      by_cases c3 : bt b p = 10 ∨ (32 ≤ bt b p ∧ bt b p ≤ 126)
      · rw [if_pos c3]
        exact ⟨fun s h => (by rw [← Sum.inr.inj (Sum.inr.inj h)]; exact ⟨rfl, Nat.lt_succ_self p⟩), fun s h => (by cases h)⟩
      · rw [if_neg c3]
        exact ⟨fun s h => (by cases h), fun s h => (by cases h)⟩
theorem bRun_go {b : List Int} (hb : byB b) : ∀ (n : Nat) (s : zBs) (r : Nat × zSn), bRun b n s = some (.inr r) → sNm r.2 = sNm s.2.1 ∧ s.1 < r.1 := by
  intro n
  induction n with
  | zero => intro s r h; cases h
  | succ n ih =>
    intro s r h
    unfold bRun at h
    obtain ⟨g1, g2⟩ := bStp_go hb (p := s.1) (S := s.2.1) (st := s.2.2)
    cases e : bStp b s.1 s.2.1 s.2.2 with
    | inl x => rw [e] at h; cases h
    | inr x =>
      rw [e] at h
      cases x with
      | inl y =>
        have e2 : y = r := Sum.inr.inj (Option.some.inj h)
        subst e2
        exact g2 y e
      | inr y =>
        obtain ⟨k1, k2⟩ := ih y r h
        obtain ⟨k3, k4⟩ := g1 y e
        exact ⟨k1.trans k3, by omega⟩
section lib2
variable {b : List Int} {p q c n u t : Nat} {L : Nat → zSn} {o : Int} {μ m : zM}
def lOutC (b : List Int) (u : Nat) (μ : zM) (s : zLs) (m : zM) : Prop := (∃ e, lRd b s (.inl e) ∧ lEr b u μ e m) ∨ ∃ p n L o c, lRd b s (.inr (p, n, L, o)) ∧ rdL b u c n L o m p ∧ rdG u μ m
theorem lEr.g {e : zEr} (hG : rdG u μ m) {m' : zM} (h : lEr b u m e m') : lEr b u μ e m' := ⟨h.1, h.2.1, h.2.2.1, h.2.2.2.1, hG.tr h.2.2.2.2⟩
theorem lEr.skip (hb : byB b) {e : zEr} (h : lEr b u μ e m) : zok (f1_skipBlanks m) (lEr b u μ e) := by
  obtain ⟨h1, h2, h3, ⟨q, h4, h5⟩, h6⟩ := h
  have h7 := hb.1
  refine zok_mono (c_skip hb h5 (by omega)) (fun m' hm => ?_)
  have := spn_le2 isBl b q
  exact ⟨(hm.2.2.2 6 (by decide)).trans h1, (hm.2.2.2 7 (by decide)).trans h2, h3, ⟨_, by omega, hm.1⟩, h6.tr hm.2.g⟩
theorem rdF_g (hu : u = 7 ∨ u = 101) (hn : n < 8) {k : Nat} (h : rdF (u + 4 + 11 * n) k μ m) : rdG u μ m := by
  have hit := (lib_f hu hn).2
  exact ⟨h.1.mono (fun c hc => by rw [hit]; omega), h.2.1 3⟩
theorem c_readLib (hu : u = 7 ∨ u = 101) (hb : byB b) {a1 : Nat} {a2 : Int} (h : rdL b u 0 0 L 0 μ p) : zok (zfx (f1_readLibrary_52 a1 a2) (fun _ _ => none) zFu 0 μ) (lOutC b u μ (p, 0, L, 0)) := by
  have h7 := hb.1
  refine zok_x2 (fun (x : Int) m => 0 ≤ x ∧ zI m 99 1 = b.length ∧ ((∃ p' n L' o c, rdL b u c n L' o m p' ∧ rdG u μ m ∧ x ≤ p' ∧ ∀ r, lRd b (p', n, L', o) r → lRd b (p, 0, L, 0) r) ∨ ∃ e, lRd b (p, 0, L, 0) (.inl e) ∧ lEr b u μ e m)) (fun x _ => 800 - x.toNat) (fun kk x m hx ih => ?_) zFu 0 μ ⟨Int.le_refl _, h.1.2.1, Or.inl ⟨p, 0, L, 0, 0, h, rdG.rf, by omega, fun r hr => hr⟩⟩ (by show 800 - 0 < 100000; decide)
  obtain ⟨y0, y1, hx⟩ := hx
  have hms : x < b.length → 800 - (x + 1).toNat < 800 - x.toNat := fun a1 => by omega
  -- behind a fault
  have erq : ∀ (e : zEr) (m' : zM), x < b.length → lRd b (p, 0, L, 0) (.inl e) → lEr b u μ e m' → zok (f1_readLibrary_157 a1 a2 kk x m') (lOutC b u μ (p, 0, L, 0)) := fun e m' hlt h1 h2 => by
    unfold f1_readLibrary_157
    refine zok_cm (h2.skip hb) (fun m2 hm2 => zok_gl ⟨by omega, by omega⟩ (ih _ _ ⟨by omega, ?_, Or.inr ⟨e, h1, hm2⟩⟩ (hms hlt)))
    obtain ⟨q, -, hq⟩ := hm2.2.2.2.1
    exact hq.2.1
  unfold f1_readLibrary_52
  rw [y1]
  rcases hx with ⟨p', n, L', o, c, z1, z2, z3, z4⟩ | ⟨e, z1, z2⟩
  · have z0 := z1
    obtain ⟨K, hpl, h3, h1, hn, h2, ho, h6, h77, hN, hcp⟩ := z1
    have fin : b.length ≤ p' → zok (some m) (lOutC b u μ (p, 0, L, 0)) := fun hp => zok_some (Or.inr ⟨p', n, L', o, c, z4 _ (lRd.fin hp), z0, z2⟩)
    rw [K.2.2.1, h6]
    refine zok_if (fun c0 => fin (by omega)) (fun c0 => zok_if (fun c1 => fin (by omega)) (fun c1 => zok_t rfl ?_))
    have hin : p' < b.length := by omega
    have a1' := spn_ge isLt b p'
    have a2' := spn_le isLt (b := b) hpl
    refine zok_co (c_endW hb K (by omega)) (fun r er => ?_)
    subst er
    refine zok_co (c_isWord hb K str0 a1' a2') (fun r er => ?_)
    subst er
    by_cases cw : wrd b p' (spn isLt b p') = wSnip
    · rw [decide_eq_true cw]
      refine zok_f (by decide) (zok_cm (c_readHead hu hb z0) (fun m1 hm1 => ?_))
      rcases hm1 with ⟨er, w1, w2⟩ | ⟨q', nm, n8, w1, ⟨w2, w3, w4, w5⟩, w6, w7, w8, w9, w10, w11, w12, w13, w14, w15⟩
      · rw [w2.1]
        exact zok_f w2.2.2.1 (erq er m1 (by omega) (z4 _ (lRd.headE hin cw w1)) (w2.g z2))
      · obtain ⟨ht, hit⟩ := lib_f hu n8
        have q5 := okT_5 _ ht.2 ht.1
        rw [w10, readBody_pre]
        refine zok_t rfl ?_
        have G1 : rdG u m m1 := ⟨w15.mono (fun c hc => by omega), w14.trans h3.symm⟩
        have e5 : ∀ i, i ≠ 5 → zI (zsI m1 99 5 (-1)) 99 i = zI m1 99 i := fun i hi => zI_ni hi
        have eO : ∀ c, c ≠ 99 → ∀ i, zI (zsI m1 99 5 (-1)) c i = zI m1 c i := fun c hc i => zI_nk hc
        have e16 : zI (zsI m1 99 5 (-1)) (u + 4 + 11 * n) 16 = c := (eO _ (by omega) 16).trans w12
        have B1 : rdB b (u + 4 + 11 * n) c (zsI m1 99 5 (-1)) q' (nwS nm) [] := ⟨⟨w6.1, (e5 1 (by decide)).trans w6.2.1, (e5 2 (by decide)).trans w6.2.2.1, fun i hi => (eO 2 (by decide) i).trans (w6.2.2.2 i hi)⟩, w9, zI_eq rfl rfl, ⟨(e5 6 (by decide)).trans w10, (e5 7 (by decide)).trans w13⟩, w11.s9 ht, by rw [e16]; omega, wBu.nw w2 w3 w4 q', w7⟩
        have G2 : rdG u m (zsI m1 99 5 (-1)) := G1.tr ⟨zSm.rf.sI (fun q => q.1 rfl), rfl⟩
        have hu1 : ∀ i, zI (zsI m1 99 5 (-1)) u i = zI m u i := fun i => (eO u (by omega) i).trans (w15 u (by omega) i).1
        have N1 : rdN u c n L' (zsI m1 99 5 (-1)) := hN.keep hu (by omega) ((w15.mono (fun c hc => by omega)).sI (fun q => q.1 rfl)) (fun i _ => ⟨(eO _ (by omega) i).trans (w15 (u + 2) (by omega) i).1, (eO _ (by omega) i).trans (w15 (u + 3) (by omega) i).1⟩)
        generalize zsI m1 99 5 (-1) = m2 at *
        refine zok_cm (c_readBody ht hb B1) (fun m3 hm3 => ?_)
        have cnt : ∀ m3 : zM, rdF (u + 4 + 11 * n) c m2 m3 → zR m3 99 3 = u ∧ (∀ i, zI m3 u i = zI m u i) := fun m3 hf => ⟨(hf.2.1 3).trans (G2.2.trans h3), fun i => ((hf.1 u (by rw [hit]; omega) i).1).trans (hu1 i)⟩
        rcases hm3 with ⟨e, v1, v2⟩ | ⟨p2, S, v1, v2, v3⟩
        · obtain ⟨c1', c2'⟩ := cnt m3 v2.2.2.2.2
          rw [c1', c2', h1]
          refine zok_gl ⟨by omega, by omega⟩ (zok_lt ?_)
          refine erq e _ (by omega) (z4 _ (lRd.bodyE hin cw w1 v1)) ?_
          obtain ⟨x1, x2, x3, x4, x5⟩ := v2
          have K3 : rdK b m3 (zI m3 99 2).toNat := ⟨(x5.2.1 0).trans B1.1.1, x5.2.2.1.trans B1.1.2.1, by omega, fun i hi => ((x5.1 2 (by rw [hit]; omega) i).1).trans (B1.1.2.2.2 i hi)⟩
          have g3 : rdG u m2 m3 := rdF_g hu n8 x5
          exact ⟨(zI_nk (by omega)).trans x1, (zI_nk (by omega)).trans x2, x3, ⟨_, by omega, K3.1, (zI_nk (by omega)).trans K3.2.1, (zI_nk (by omega)).trans K3.2.2.1, fun i hi => (zI_nk (by omega)).trans (K3.2.2.2 i hi)⟩, ((z2.tr G2).tr g3).tr ⟨zSm.rf.sI (fun q => by omega), rfl⟩⟩
        · obtain ⟨c1', c2'⟩ := cnt m3 v3
          rw [c1', c2', h1]
          refine zok_gl ⟨by omega, by omega⟩ (zok_lt ?_)
          have g3 : rdG u m2 m3 := rdF_g hu n8 v3
          have gg : rdG u μ (zsI m3 u 1 ((n : Int) + 1)) := ((z2.tr G2).tr g3).tr ⟨zSm.rf.sI (fun q => by omega), rfl⟩
          have hS := v2.2.2.2.2.2.2.1
          have cc := v2.2.2.2.2.2.1
          obtain ⟨hnm', hgo⟩ : sNm S = sNm (nwS nm) ∧ q' < p2 := by
            obtain ⟨k, hk⟩ := v1
            exact bRun_go hb k _ _ hk
          have hnm : sNm S = nm := hnm'
          have hgo2 := hdOf_go w1
          have new : rdL b u (zI m3 (u + 4 + 11 * n) 16).toNat (n + 1) (updS L' n S) o (zsI m3 u 1 ((n : Int) + 1)) p2 := by
            have N3 := (N1.keep hu (by omega) (v3.1.mono (fun c hc => by rw [hit]; omega)) (fun i hi => by have := v3.2.2.2 i hi; rw [hit] at this; exact this)).lib hu (by omega) (m := zsI m3 u 1 ((n : Int) + 1)) (fun c c1 c2 i => zI_nk (by omega))
            have hpos := v2.2.2.2.2.1.2.2.2.2.2.2.1
            have hcc := v2.2.2.2.2.2.1
            obtain ⟨j1, j2, j3, j4⟩ := N3
            refine ⟨⟨v2.1.1, (zI_nk (by omega)).trans v2.1.2.1, (zI_nk (by omega)).trans v2.1.2.2.1, fun i hi => (zI_nk (by omega)).trans (v2.1.2.2.2 i hi)⟩, v2.2.2.2.2.2.2.2, c1', (zI_eq rfl rfl).trans (by omega), by omega, (zI_ni (by decide)).trans ((c2' 2).trans h2), ho, (zI_nk (by omega)).trans v2.2.2.2.1.1, (zI_nk (by omega)).trans v2.2.2.2.1.2, ⟨fun k hk => ?_, fun h => absurd h (Nat.succ_ne_zero n), fun _ => ?_, fun i j hi hj => ?_⟩, by omega⟩
            · by_cases e : k = n
              · subst e
                have e1 : updS L' k S k = S := if_pos rfl
                rw [e1]
                refine ⟨v2.2.2.2.2.1.lo (fun c c1 c2 i => zI_nk (by omega)) (fun i _ => ⟨zI_nk (by omega), zI_nk (by omega)⟩), hS.1, ?_⟩
                rw [zI_nk (by omega)]; omega
              · have e1 : updS L' n S k = L' k := if_neg e
                rw [e1]
                obtain ⟨x1, x2, x3⟩ := j1 k (by omega)
                exact ⟨x1, x2, by omega⟩
            · rw [show n + 1 - 1 = n by omega, zI_nk (by omega)]; omega
            · have ei : updS L' n S i = L' i := if_neg (by omega)
              rw [ei]
              by_cases e : j = n
              · have ej : updS L' n S j = S := if_pos e
                rw [ej, hnm]
                intro e2
                have := fndI_at (b := nm) j4 (show i < n by omega) e2
                omega
              · have ej : updS L' n S j = L' j := if_neg e
                rw [ej]
                exact j4 i j hi (by omega)
          unfold f1_readLibrary_157
          refine zok_cm (c_skip hb new.1 (by have := new.2.1; omega)) (fun m4 hm4 => ?_)
          have hp2 := new.2.1
          have b1 := spn_ge isBl b p2
          have b2 := spn_le isBl (b := b) hp2
          refine zok_gl ⟨by omega, by omega⟩ (ih _ _ ⟨by omega, hm4.1.2.1, Or.inl ⟨_, n + 1, updS L' n S, o, _, new.go hu hm4.1 hm4.2 b1 b2, gg.tr hm4.2.g, by omega, fun r hr => z4 _ (lRd.snip hin cw w1 v1 hr)⟩⟩ (hms (by omega)))
    · rw [decide_eq_false cw]
      refine zok_t rfl (zok_co (c_isWord hb K str1 a1' a2') (fun r er => ?_))
      subst er
      by_cases co : wrd b p' (spn isLt b p') = wOrd
      · rw [decide_eq_true co]
        refine zok_f (by decide) (zok_cm (c_readOrder hu hb z0) (fun m1 hm1 => ?_))
        rcases hm1 with ⟨er, w1, w2⟩ | ⟨q', o', w1, w2, w3, w4⟩
        · exact erq er m1 (by omega) (z4 _ (lRd.ordE hin co w1)) (w2.g z2)
        · unfold f1_readLibrary_157
          have hq2 := w3.2.1
          refine zok_cm (c_skip hb w3.1 (by omega)) (fun m4 hm4 => ?_)
          have b1 := spn_ge isBl b q'
          have b2 := spn_le isBl (b := b) hq2
          have hgo : p' < q' := orOf_go w1
          refine zok_gl ⟨by omega, by omega⟩ (ih _ _ ⟨by omega, hm4.1.2.1, Or.inl ⟨_, n, L', o', c, w3.go hu hm4.1 hm4.2 b1 b2, (z2.tr w4).tr hm4.2.g, by omega, fun r hr => z4 _ (lRd.ord hin co w1 hr)⟩⟩ (hms (by omega)))
      · rw [decide_eq_false co]
        exact zok_t rfl (zok_cm (c_failL K (by omega) rdG.rf (by decide)) (fun m1 hm1 => erq _ m1 (by omega) (z4 _ (lRd.bad hin cw co)) (hm1.g z2)))
  · have out : zok (some m) (lOutC b u μ (p, 0, L, 0)) := zok_some (Or.inl ⟨e, z1, z2⟩)
    exact zok_if (fun _ => out) (fun _ => zok_if (fun _ => out) (fun _ => zok_f (by rw [z2.1]; exact z2.2.2.1) out))
end lib2
