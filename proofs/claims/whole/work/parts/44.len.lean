/-! LENGTHS -/
theorem zdivL_nn {x : Int} (h0 : 0 ≤ x) (h1 : x < 9223372036854775808) : zdivL x 10 = x / 10 := by
  unfold zdivL
  rw [Int64.toInt_div, zl_toInt ⟨by omega, h1⟩, zl_toInt ⟨by decide, by decide⟩, Int.tdiv_eq_ediv_of_nonneg h0]
  apply Int.bmod_eq_of_le_mul_two
  · show -(18446744073709551616 : Int) ≤ _; omega
  · show _ < (18446744073709551616 : Int); omega
theorem zdiv_nn {x y : Int} (h0 : 0 ≤ x) (h1 : x < 2147483648) (h2 : 0 < y) (h3 : y < 2147483648) : zdiv x y = x / y := by
  unfold zdiv
  have hq : x / y ≤ x := Int.ediv_le_self y h0
  have hq0 : 0 ≤ x / y := Int.ediv_nonneg h0 (by omega)
  rw [Int32.toInt_div, zi_toInt ⟨by omega, h1⟩, zi_toInt ⟨by omega, h3⟩, Int.tdiv_eq_ediv_of_nonneg h0]
  apply Int.bmod_eq_of_le_mul_two
  · show -(4294967296 : Int) ≤ _; omega
  · show _ < (4294967296 : Int); omega
theorem zrem_nn {x y : Int} (h0 : 0 ≤ x) (h1 : x < 2147483648) (h2 : 0 < y) (h3 : y < 2147483648) : zrem x y = x % y := by
  unfold zrem
  have e : zi x / zi y = zi (x / y) := by
    rw [← zdiv_nn h0 h1 h2 h3]; unfold zdiv; rw [zi_of]
  have hm0 := Int.emod_nonneg x (show y ≠ 0 by omega)
  have hm1 := Int.emod_lt_of_pos x h2
  rw [e, ← zi_mul, ← zi_sub, show x - x / y * y = x % y from by rw [Int.emod_def, Int.mul_comm], zi_toInt ⟨by omega, by omega⟩]
theorem zremL_nn {x : Int} (h0 : 0 ≤ x) (h1 : x < 9223372036854775808) : zremL x 10 = x % 10 := by
  unfold zremL
  have e : zl x / zl 10 = zl (x / 10) := by
    rw [← zdivL_nn h0 h1]; unfold zdivL; rw [zl_of]
  rw [e, ← zl_mul, ← zl_sub, show x - x / 10 * 10 = x % 10 from by omega, zl_toInt ⟨by omega, by omega⟩]
/-- how many decimal digits -/
def dgF : Nat → Nat → Nat
  | 0, _ => 1
  | m + 1, n => if n < 10 then 1 else dgF m (n / 10) + 1
def dgt (n : Nat) : Nat := dgF 20 n
theorem dgF_le : ∀ m n, 1 ≤ dgF m n ∧ dgF m n ≤ m + 1 := by
  intro m
  induction m with
  | zero => intro n; exact ⟨Nat.le_refl _, Nat.le_refl _⟩
  | succ m ih =>
    intro n
    have := ih (n / 10)
    show 1 ≤ (if n < 10 then 1 else dgF m (n / 10) + 1) ∧ (if n < 10 then 1 else dgF m (n / 10) + 1) ≤ _
    split <;> omega
theorem dgt_le (n : Nat) : 1 ≤ dgt n ∧ dgt n ≤ 21 := dgF_le 20 n
def chgN (c : Int) (n : Nat) : Nat := if c = 4 then min n 1 else if c = 5 then dgt n else n
theorem chgN_le (c : Int) (n : Nat) : chgN c n ≤ max n 21 := by
  unfold chgN
  have := dgt_le n
  split
  · omega
  · split <;> omega
/-- the length of a body, with the lengths v of the fields -/
def bLen (S : zSn) (v : Nat → Nat) : List Int → Nat
  | [] => 0
  | x :: l => (if 0 ≤ x then 1 else chgN (sC S (-x - 1).toNat) (v (sF S (-x - 1).toNat).toNat)) + bLen S v l
def vLN (S : zSn) (ty : Nat → Bool) (ln : Nat → Nat) : Nat → Nat → Nat
  | 0, _ => 0
  | m + 1, f => if vSd S ty f = -1 then (if ty f then ln f else 0) else bLen S (vLN S ty ln m) (sB S (vSd S ty f))
def vL (S : zSn) (ty : Nat → Bool) (ln : Nat → Nat) (f : Nat) : Nat := vLN S ty ln 11 f
def vTL (S : zSn) (ty : Nat → Bool) (ln : Nat → Nat) : Nat := bLen S (vL S ty ln) (sB S (-1))
def vRk (S : zSn) (f : Nat) : Nat := cnt (fun g => mbit (sE S f) g) 10
theorem cnt_lt {P Q : Nat → Bool} {n j : Nat} (h : ∀ i, i < n → P i = true → Q i = true) (hj : j < n) (hq : Q j = true) (hp : P j = false) : cnt P n < cnt Q n := by
  induction n with
  | zero => omega
  | succ n ih =>
    have hle : cnt P n ≤ cnt Q n := by
      clear ih hj
      induction n with
      | zero => exact Nat.le_refl _
      | succ n ih2 =>
        have h1 := ih2 (fun i hi => h i (by omega))
        have h2 := h n (by omega)
        show cnt P n + _ ≤ cnt Q n + _
        cases e : P n with
        | true => rw [if_pos rfl, if_pos (h2 e)]; omega
        | false => rw [if_neg (by decide)]; omega
    show cnt P n + _ < cnt Q n + _
    by_cases e : j = n
    · subst e; rw [hq, hp, if_neg (by decide), if_pos rfl]; omega
    · have h1 := ih (fun i hi => h i (by omega)) (by omega)
      have h2 := h n (by omega)
      cases e9 : P n with
      | true => rw [if_pos rfl, if_pos (h2 e9)]; omega
      | false => rw [if_neg (by decide)]; omega
theorem vRk_lt {S : zSn} (hW : wS S) {f g : Nat} (hf : f < 10) (hg : g < 10) (h : mbit (sE S f) g = true) : vRk S g < vRk S f := by
  have a := hW.2.2.2.2.2.1 f hf
  have b := hW.2.2.2.2.2.1 g hg
  exact cnt_lt (fun i _ hi => a.2.2.2 g i h hg hi) hg h b.2.1
theorem vRk_le {S : zSn} (hW : wS S) {f : Nat} (hf : f < 10) : vRk S f < 10 := by
  have a := hW.2.2.2.2.2.1 f hf
  have h : cnt (fun g => mbit (sE S f) g) 10 < cnt (fun _ => true) 10 := cnt_lt (fun _ _ _ => rfl) hf rfl a.2.1
  exact h
/-- what a shown default is -/
theorem vSt_sd {S : zSn} (ty : Nat → Bool) (k : Nat) (f : Nat) : (vSt S ty k).2 f = -1 ∨ ∃ o : Nat, (vSt S ty k).2 f = o ∧ o < k ∧ vHere S (vSt S ty o) o = true ∧ sD S o = 1 ∧ ty (sF S o).toNat = false ∧ (sF S o).toNat = f ∧ (vSt S ty o).2 f = -1 := by
  induction k with
  | zero => exact Or.inl rfl
  | succ k ih =>
    have e2 : (vSt S ty (k + 1)).2 = if vDef S ty (vSt S ty k) k then updI (vSt S ty k).2 (sF S k).toNat k else (vSt S ty k).2 := rfl
    by_cases e : vDef S ty (vSt S ty k) k = true
    · rw [e2, if_pos e]
      unfold updI
      by_cases e3 : f = (sF S k).toNat
      · rw [if_pos e3]
        unfold vDef at e
        simp only [Bool.and_eq_true, decide_eq_true_eq, Bool.not_eq_true'] at e
        exact Or.inr ⟨k, rfl, by omega, e.1.1.1, e.1.1.2, e.1.2, e3.symm, by rw [e3]; exact e.2⟩
      · rw [if_neg e3]
        rcases ih with h | ⟨o, h1, h2, h3⟩
        · exact Or.inl h
        · exact Or.inr ⟨o, h1, by omega, h3⟩
    · rw [e2, if_neg e]
      rcases ih with h | ⟨o, h1, h2, h3⟩
      · exact Or.inl h
      · exact Or.inr ⟨o, h1, by omega, h3⟩
theorem vSd_part {S : zSn} {ty : Nat → Bool} {f : Nat} (h : vSd S ty f ≠ -1) : ∃ o : Nat, vSd S ty f = o ∧ o < sN S ∧ vSh S ty o = true ∧ sD S o = 1 ∧ ty f = false ∧ (sF S o).toNat = f ∧ isPart S (vSd S ty f) := by
  rcases vSt_sd (S := S) ty (sN S) f with h1 | ⟨o, h1, h2, h3, h4, h5, h6, -⟩
  · exact absurd h1 h
  · exact ⟨o, h1, h2, by rw [vSh_eq S ty h2 (Nat.le_refl _), vSt_new S ty h2]; exact h3, h4, by rw [← h6]; exact h5, h6, Or.inr ⟨o, h1, h2, h4⟩⟩
theorem occs_mem {l : List Int} {x : Int} (hx : x ∈ l) (h0 : x < 0) : (-x - 1).toNat ∈ occs l := List.mem_filterMap.mpr ⟨x, hx, by rw [if_pos h0]⟩
theorem body_occ {S : zSn} (hW : wS S) {p : Int} (hp : isPart S p) {x : Int} (hx : x ∈ sB S p) (h0 : x < 0) : (-x - 1).toNat < sN S ∧ sP S (-x - 1).toNat = p := by
  have h1 := occs_mem hx h0
  rw [(hW.2.2.2.2.2.2.2.1 p hp).1] at h1
  have h2 := List.mem_filter.mp h1
  exact ⟨List.mem_range.mp h2.1, of_decide_eq_true h2.2⟩
theorem bLen_congr {S : zSn} {v w : Nat → Nat} {l : List Int} (h : ∀ x ∈ l, x < 0 → v (sF S (-x - 1).toNat).toNat = w (sF S (-x - 1).toNat).toNat) : bLen S v l = bLen S w l := by
  induction l with
  | nil => rfl
  | cons x l ih =>
    show _ + bLen S v l = _ + bLen S w l
    rw [ih (fun y hy => h y (List.mem_cons_of_mem _ hy))]
    by_cases e : 0 ≤ x
    · rw [if_pos e, if_pos e]
    · rw [if_neg e, if_neg e, h x List.mem_cons_self (by omega)]
/-- the fields that stand in a shown default come before its own -/
theorem sd_rank {S : zSn} (hW : wS S) {ty : Nat → Bool} {f : Nat} (hf : f < 10) (hd : vSd S ty f ≠ -1) {x : Int} (hx : x ∈ sB S (vSd S ty f)) (h0 : x < 0) : (sF S (-x - 1).toNat).toNat < 10 ∧ mbit (sE S f) (sF S (-x - 1).toNat).toNat = true := by
  obtain ⟨o, h1, h2, h3, h4, h5, h6, h7⟩ := vSd_part hd
  obtain ⟨g1, g2⟩ := body_occ hW h7 hx h0
  have g3 := hW.2.2.2.1 _ g1
  exact ⟨by omega, by have h9 := hW.2.2.2.2.2.2.1 _ o g1 (g2.trans h1); rw [h6] at h9; exact h9⟩
theorem vLN_stable {S : zSn} (hW : wS S) (ty : Nat → Bool) (ln : Nat → Nat) : ∀ (r f m m' : Nat), f < 10 → vRk S f < r → vRk S f < m → vRk S f < m' → vLN S ty ln m f = vLN S ty ln m' f := by
  intro r
  induction r with
  | zero => intro f m m' _ h; omega
  | succ r ih =>
    intro f m m' hf h0 h1 h2
    cases m with
    | zero => omega
    | succ m =>
      cases m' with
      | zero => omega
      | succ m' =>
        show (if vSd S ty f = -1 then _ else _) = (if vSd S ty f = -1 then _ else _)
        by_cases e : vSd S ty f = -1
        · rw [if_pos e, if_pos e]
        · rw [if_neg e, if_neg e]
          refine bLen_congr (fun x hx hx0 => ?_)
          obtain ⟨g1, g2⟩ := sd_rank hW hf e hx hx0
          have := vRk_lt hW hf g1 g2
          exact ih _ _ _ g1 (by omega) (by omega) (by omega)
theorem vL_eq {S : zSn} (hW : wS S) (ty : Nat → Bool) (ln : Nat → Nat) {f : Nat} (hf : f < 10) : vL S ty ln f = if vSd S ty f = -1 then (if ty f then ln f else 0) else bLen S (vL S ty ln) (sB S (vSd S ty f)) := by
  show (if vSd S ty f = -1 then _ else _) = _
  by_cases e : vSd S ty f = -1
  · rw [if_pos e, if_pos e]
  · rw [if_neg e, if_neg e]
    refine bLen_congr (fun x hx hx0 => ?_)
    obtain ⟨g1, g2⟩ := sd_rank hW hf e hx hx0
    have := vRk_lt hW hf g1 g2
    have := vRk_le hW hf
    exact vLN_stable hW ty ln 11 _ 10 11 g1 (by omega) (by omega) (by omega)
/-! sums over places -/
def sumN (g : Nat → Nat) : Nat → Nat
  | 0 => 0
  | n + 1 => sumN g n + g n
theorem sumN_congr {g h : Nat → Nat} {n : Nat} (e : ∀ i, i < n → g i = h i) : sumN g n = sumN h n := by
  induction n with
  | zero => rfl
  | succ n ih => show sumN g n + g n = sumN h n + h n; rw [ih (fun i hi => e i (by omega)), e n (by omega)]
theorem sumN_le {g : Nat → Nat} {n b : Nat} (h : ∀ i, i < n → g i ≤ b) : sumN g n ≤ n * b := by
  induction n with
  | zero => exact Nat.zero_le _
  | succ n ih =>
    have h1 := ih (fun i hi => h i (by omega))
    have h2 := h n (by omega)
    show sumN g n + g n ≤ (n + 1) * b
    rw [Nat.add_mul]; omega
theorem sum_filter (g : Nat → Nat) (P : Nat → Bool) (n : Nat) : (((List.range n).filter P).map g).sum = sumN (fun i => if P i then g i else 0) n := by
  induction n with
  | zero => rfl
  | succ n ih =>
    rw [List.range_succ, List.filter_append, List.map_append, List.sum_append, ih]
    show _ = sumN _ n + _
    congr 1
    cases e : P n <;> simp [e]
theorem bLen_sum (S : zSn) (v : Nat → Nat) (l : List Int) : bLen S v l = lits l + ((occs l).map (fun o => chgN (sC S o) (v (sF S o).toNat))).sum := by
  induction l with
  | nil => rfl
  | cons x l ih =>
    show _ + bLen S v l = _
    rw [ih]
    by_cases e : 0 ≤ x
    · rw [if_pos e]
      unfold lits occs
      rw [List.filter_cons, if_pos (by simpa using e), List.filterMap_cons, if_neg (by omega)]
      simp only [List.length_cons]
      omega
    · rw [if_neg e]
      unfold lits occs
      rw [List.filter_cons, if_neg (by simpa using e), List.filterMap_cons, if_pos (by omega)]
      simp only [List.map_cons, List.sum_cons]
      omega
theorem bLen_part {S : zSn} (hW : wS S) (v : Nat → Nat) {p : Int} (hp : isPart S p) : bLen S v (sB S p) = lits (sB S p) + sumN (fun o => if sP S o = p then chgN (sC S o) (v (sF S o).toNat) else 0) (sN S) := by
  rw [bLen_sum, (hW.2.2.2.2.2.2.2.1 p hp).1, sum_filter]
  congr 1
  refine sumN_congr (fun i _ => ?_)
  by_cases e : sP S i = p
  · rw [if_pos (decide_eq_true e), if_pos e]
  · rw [if_neg (by simpa using e), if_neg e]
/-! no length is beyond a long: the shown defaults have their occurrences apart -/
def prodN (a : Nat → Nat) : Nat → Nat
  | 0 => 1
  | n + 1 => prodN a n * (1 + a n)
theorem prodN_pos (a : Nat → Nat) (n : Nat) : 0 < prodN a n := by
  induction n with
  | zero => exact Nat.one_pos
  | succ n ih => exact Nat.mul_pos ih (by omega)
theorem prodN_mono {a b : Nat → Nat} {n : Nat} (h : ∀ i, i < n → a i ≤ b i) : prodN a n ≤ prodN b n := by
  induction n with
  | zero => exact Nat.le_refl _
  | succ n ih => exact Nat.mul_le_mul (ih (fun i hi => h i (by omega))) (by have := h n (by omega); omega)
theorem prodN_one {a b : Nat → Nat} {n f : Nat} (hf : f < n) (h : ∀ i, i < n → a i ≤ b i) (ha : a f = 0) : prodN a n * (1 + b f) ≤ prodN b n := by
  induction n with
  | zero => omega
  | succ n ih =>
    show prodN a n * (1 + a n) * (1 + b f) ≤ prodN b n * (1 + b n)
    by_cases e : f = n
    · subst e
      rw [ha, Nat.add_zero, Nat.mul_one]
      exact Nat.mul_le_mul (prodN_mono (fun i hi => h i (by omega))) (Nat.le_refl _)
    · have h1 := ih (by omega) (fun i hi => h i (by omega))
      rw [Nat.mul_right_comm]
      exact Nat.mul_le_mul h1 (by have := h n (by omega); omega)
theorem sq_pow (n : Nat) : (1 + n) * (1 + n) ≤ 4 * 2 ^ n := by
  induction n with
  | zero => decide
  | succ n ih =>
    rw [Nat.pow_succ]
    rcases Nat.lt_or_ge n 2 with h3 | h3
    · rcases Nat.lt_or_ge n 1 with h4 | h4
      · have : n = 0 := by omega
        subst this; decide
      · have : n = 1 := by omega
        subst this; decide
    · have e1 : (1 + (n + 1)) * (1 + (n + 1)) = n * n + 4 * n + 4 := by
        rw [Nat.add_mul, Nat.one_mul, Nat.mul_add, Nat.mul_one, Nat.add_mul, Nat.one_mul, Nat.mul_add, Nat.mul_one]; omega
      have e2 : (1 + n) * (1 + n) = n * n + 2 * n + 1 := by
        rw [Nat.add_mul, Nat.one_mul, Nat.mul_add, Nat.mul_one]; omega
      have : 2 * n ≤ n * n := Nat.mul_le_mul_right n h3
      rw [e2] at ih
      rw [e1]
      omega
theorem prodN_sq (a : Nat → Nat) (n : Nat) : prodN a n * prodN a n ≤ 4 ^ n * 2 ^ sumN a n := by
  induction n with
  | zero => show 1 * 1 ≤ 4 ^ 0 * 2 ^ 0; decide
  | succ n ih =>
    show prodN a n * (1 + a n) * (prodN a n * (1 + a n)) ≤ 4 ^ (n + 1) * 2 ^ (sumN a n + a n)
    have h := Nat.mul_le_mul ih (sq_pow (a n))
    rw [Nat.pow_succ, Nat.pow_add]
    calc prodN a n * (1 + a n) * (prodN a n * (1 + a n)) = prodN a n * prodN a n * ((1 + a n) * (1 + a n)) := by ac_rfl
      _ ≤ 4 ^ n * 2 ^ sumN a n * (4 * 2 ^ a n) := h
      _ = 4 ^ n * 4 * (2 ^ sumN a n * 2 ^ a n) := by ac_rfl
/-- the occurrences of the field's shown default -/
def vOc (S : zSn) (ty : Nat → Bool) (f : Nat) : Nat := if vSd S ty f = -1 then 0 else cnt (fun o => decide (sP S o = vSd S ty f)) (sN S)
theorem sumN_add (g h : Nat → Nat) (n : Nat) : sumN (fun i => g i + h i) n = sumN g n + sumN h n := by
  induction n with
  | zero => rfl
  | succ n ih => show sumN _ n + (g n + h n) = sumN g n + g n + (sumN h n + h n); rw [ih]; omega
theorem sumN_one {g : Nat → Nat} {n : Nat} (h1 : ∀ i, i < n → g i ≤ 1) (h2 : ∀ i j, i < n → j < n → g i = 1 → g j = 1 → i = j) : sumN g n ≤ 1 := by
  induction n with
  | zero => exact Nat.zero_le _
  | succ n ih =>
    show sumN g n + g n ≤ 1
    have h3 := h1 n (by omega)
    by_cases e : g n = 1
    · have : sumN g n ≤ n * 0 := sumN_le (fun i hi => by
        have q := h1 i (by omega)
        by_cases e2 : g i = 1
        · exact absurd (h2 i n (by omega) (by omega) e2 e) (by omega)
        · omega)
      omega
    · have := ih (fun i hi => h1 i (by omega)) (fun i j hi hj => h2 i j (by omega) (by omega))
      omega
theorem vOc_sum (S : zSn) (ty : Nat → Bool) : ∀ k, k ≤ sN S → sumN (fun f => if vSd S ty f = -1 then 0 else cnt (fun o => decide (sP S o = vSd S ty f)) k) 10 ≤ k := by
  intro k
  induction k with
  | zero => intro _; exact Nat.le_trans (sumN_le (b := 0) (fun i _ => by split <;> exact Nat.le_refl _)) (by decide)
  | succ k ih =>
    intro hk
    have h1 := ih (by omega)
    have e : sumN (fun f => if vSd S ty f = -1 then 0 else cnt (fun o => decide (sP S o = vSd S ty f)) (k + 1)) 10 = sumN (fun f => if vSd S ty f = -1 then 0 else cnt (fun o => decide (sP S o = vSd S ty f)) k) 10 + sumN (fun f => if vSd S ty f ≠ -1 ∧ sP S k = vSd S ty f then 1 else 0) 10 := by
      rw [← sumN_add]
      refine sumN_congr (fun f _ => ?_)
      by_cases e1 : vSd S ty f = -1
      · rw [if_pos e1, if_pos e1, if_neg (fun q => q.1 e1)]
      · rw [if_neg e1, if_neg e1]
        show cnt _ k + _ = _
        congr 1
        by_cases e2 : sP S k = vSd S ty f
        · rw [if_pos (decide_eq_true e2), if_pos ⟨e1, e2⟩]
        · rw [if_neg (by simpa using e2), if_neg (fun q => e2 q.2)]
    have h2 : sumN (fun f => if vSd S ty f ≠ -1 ∧ sP S k = vSd S ty f then 1 else 0) 10 ≤ 1 := by
      refine sumN_one (fun i _ => by split <;> omega) (fun i j _ _ hi hj => ?_)
      have a : vSd S ty i ≠ -1 ∧ sP S k = vSd S ty i := by
        by_cases q : vSd S ty i ≠ -1 ∧ sP S k = vSd S ty i
        · exact q
        · rw [if_neg q] at hi; omega
      have b : vSd S ty j ≠ -1 ∧ sP S k = vSd S ty j := by
        by_cases q : vSd S ty j ≠ -1 ∧ sP S k = vSd S ty j
        · exact q
        · rw [if_neg q] at hj; omega
      obtain ⟨o, p1, -, -, -, -, p6, -⟩ := vSd_part a.1
      obtain ⟨o2, r1, -, -, -, -, r6, -⟩ := vSd_part b.1
      have : o = o2 := by have := a.2; have := b.2; omega
      subst this
      omega
    rw [e]; omega
theorem sumN_cond (S : zSn) (p : Int) (c : Nat → Nat) (X : Nat) (k : Nat) (hc : ∀ o, o < k → c o ≤ X) : sumN (fun o => if sP S o = p then c o else 0) k ≤ cnt (fun o => decide (sP S o = p)) k * X := by
  induction k with
  | zero => exact Nat.zero_le _
  | succ k ih =>
    have h1 := ih (fun o ho => hc o (by omega))
    show sumN _ k + (if sP S k = p then c k else 0) ≤ (cnt _ k + (if decide (sP S k = p) = true then 1 else 0)) * X
    rw [Nat.add_mul]
    by_cases e : sP S k = p
    · rw [if_pos e, if_pos (decide_eq_true e), Nat.one_mul]; have := hc k (by omega); omega
    · rw [if_neg e, if_neg (by simpa using e), Nat.zero_mul]; omega
theorem vL_bound {S : zSn} (hW : wS S) (ty : Nat → Bool) (ln : Nat → Nat) (hl : ∀ f, f < 10 → ln f ≤ 400) : ∀ (r f : Nat), f < 10 → vRk S f < r → vL S ty ln f ≤ 721 * prodN (fun g => if vRk S g < r then vOc S ty g else 0) 10 := by
  intro r
  induction r with
  | zero => intro f _ h; omega
  | succ r ih =>
    intro f hf hr
    have hp := prodN_pos (fun g => if vRk S g < r + 1 then vOc S ty g else 0) 10
    rw [vL_eq hW ty ln hf]
    by_cases e : vSd S ty f = -1
    · rw [if_pos e]
      have := hl f hf
      split <;> omega
    · rw [if_neg e]
      obtain ⟨o, h1, h2, h3, h4, h5, h6, h7⟩ := vSd_part e
      rw [bLen_part hW _ h7]
      have hlit := (hW.2.2.2.2.2.2.2.1 _ h7).2.2
      by_cases hr2 : vRk S f < r
      · -- already there
        have hX := ih f hf hr2
        rw [vL_eq hW ty ln hf, if_neg e, bLen_part hW _ h7] at hX
        refine Nat.le_trans hX (Nat.mul_le_mul (Nat.le_refl _) (prodN_mono (fun i _ => ?_)))
        by_cases q : vRk S i < r
        · rw [if_pos q, if_pos (by omega)]; exact Nat.le_refl _
        · rw [if_neg q]; exact Nat.zero_le _
      · have hrf : vRk S f = r := by omega
        have hpos := prodN_pos (fun g => if vRk S g < r then vOc S ty g else 0) 10
        have hs : sumN (fun o => if sP S o = vSd S ty f then chgN (sC S o) (vL S ty ln (sF S o).toNat) else 0) (sN S) ≤ vOc S ty f * (721 * prodN (fun g => if vRk S g < r then vOc S ty g else 0) 10) := by
          have e3 : sumN (fun o => if sP S o = vSd S ty f then chgN (sC S o) (vL S ty ln (sF S o).toNat) else 0) (sN S) = sumN (fun o => if sP S o = vSd S ty f then (if sP S o = vSd S ty f then chgN (sC S o) (vL S ty ln (sF S o).toNat) else 0) else 0) (sN S) := sumN_congr (fun i _ => by split <;> rfl)
          rw [e3, show vOc S ty f = cnt (fun o => decide (sP S o = vSd S ty f)) (sN S) from if_neg e]
          refine sumN_cond S _ _ _ _ (fun o2 ho2 => ?_)
          by_cases q : sP S o2 = vSd S ty f
          · rw [if_pos q]
            have g3 := hW.2.2.2.1 o2 ho2
            have g9 := hW.2.2.2.2.2.2.1 o2 o ho2 (q.trans h1)
            rw [h6] at g9
            have g10 := vRk_lt hW hf (show (sF S o2).toNat < 10 by omega) g9
            have g11 := ih (sF S o2).toNat (by omega) (by omega)
            have g12 := chgN_le (sC S o2) (vL S ty ln (sF S o2).toNat)
            omega
          · rw [if_neg q]; exact Nat.zero_le _
        have h9 := prodN_one (a := fun g => if vRk S g < r then vOc S ty g else 0) (b := fun g => if vRk S g < r + 1 then vOc S ty g else 0) hf (fun i _ => by
          show (if vRk S i < r then vOc S ty i else 0) ≤ (if vRk S i < r + 1 then vOc S ty i else 0)
          by_cases q : vRk S i < r
          · rw [if_pos q, if_pos (by omega)]; exact Nat.le_refl _
          · rw [if_neg q]; exact Nat.zero_le _) (by show (if vRk S f < r then _ else 0) = 0; rw [if_neg (by omega)])
        have h10 : (if vRk S f < r + 1 then vOc S ty f else 0) = vOc S ty f := if_pos (by omega)
        rw [h10] at h9
        generalize prodN (fun g => if vRk S g < r then vOc S ty g else 0) 10 = Y at *
        generalize prodN (fun g => if vRk S g < r + 1 then vOc S ty g else 0) 10 = Y' at *
        have h11 : vOc S ty f * (721 * Y) = 721 * (Y * vOc S ty f) := by ac_rfl
        have h12 : Y * (1 + vOc S ty f) = Y + Y * vOc S ty f := by rw [Nat.mul_add, Nat.mul_one]
        omega
theorem vL_big {S : zSn} (hW : wS S) (ty : Nat → Bool) (ln : Nat → Nat) (hl : ∀ f, f < 10 → ln f ≤ 400) {f : Nat} (hf : f < 10) : vL S ty ln f ≤ 792747883626496 := by
  have h1 := vL_bound hW ty ln hl 10 f hf (vRk_le hW hf)
  have h2 : prodN (fun g => if vRk S g < 10 then vOc S ty g else 0) 10 ≤ prodN (vOc S ty) 10 := prodN_mono (fun i hi => by
    show (if vRk S i < 10 then vOc S ty i else 0) ≤ _
    rw [if_pos (vRk_le hW hi)]; exact Nat.le_refl _)
  have h3 := prodN_sq (vOc S ty) 10
  have h4 : sumN (vOc S ty) 10 ≤ 60 := Nat.le_trans (vOc_sum S ty (sN S) (Nat.le_refl _)) hW.1
  have h5 : 2 ^ sumN (vOc S ty) 10 ≤ 2 ^ 60 := Nat.pow_le_pow_right (by decide) h4
  have h6 : prodN (vOc S ty) 10 ≤ 1099511627776 := by
    apply Nat.le_of_not_lt
    intro h7
    have h8 : 1099511627777 * 1099511627777 ≤ prodN (vOc S ty) 10 * prodN (vOc S ty) 10 := Nat.mul_le_mul h7 h7
    have h9 : 4 ^ 10 * 2 ^ sumN (vOc S ty) 10 ≤ 4 ^ 10 * 2 ^ 60 := Nat.mul_le_mul (Nat.le_refl _) h5
    have h10 : (4 : Nat) ^ 10 * 2 ^ 60 < 1099511627777 * 1099511627777 := by decide +kernel
    omega
  omega
