def zFu : Nat := 100000
/-- a loop: so many turns, each out of what is done behind it -/
def zfx {Φ : Type} (step : Φ → Φ) (bot : Φ) : Nat → Φ
  | 0 => bot
  | n + 1 => step (zfx step bot n)
theorem zkd_ne0 {r c : Nat} (h : zkd r = c) (hc : c < 999) : r ≠ 0 := by have := (zkd_pos h hc).1; omega
theorem zel_4_el : ∀ i, i < zln 4 → ztp 4 i = (222 + 7 * i) ∧ (222 + 7 * i) ≠ 0 := by decide +kernel
theorem zel_4_ek : ∀ i, i < zln 4 → zkd (222 + 7 * i) = 3 := by decide +kernel
theorem zel_5_el : ∀ i, i < zln 5 → ztp 5 i = (278 + 7 * i) ∧ (278 + 7 * i) ≠ 0 := by decide +kernel
theorem zel_5_ek : ∀ i, i < zln 5 → zkd (278 + 7 * i) = 3 := by decide +kernel
theorem zlib_all : ∀ t, t < 341 → zkd t = 0 → ∀ i, i < zln (t + 1) → ztp (t + 1) i = ((t + 4) + 11 * i) ∧ ((t + 4) + 11 * i) ≠ 0 ∧ zkd ((t + 4) + 11 * i) = 2 := by decide +kernel
theorem zlib_el {t : Nat} (h : zkd t = 0) : ∀ i, i < zln (t + 1) → ztp (t + 1) i = ((t + 4) + 11 * i) ∧ ((t + 4) + 11 * i) ≠ 0 := fun i hi => let q := zlib_all t (Nat.lt_succ_of_le (zkd_pos h (by decide)).2) h i hi; ⟨q.1, q.2.1⟩
theorem zlib_ek {t : Nat} (h : zkd t = 0) : ∀ i, i < zln (t + 1) → zkd ((t + 4) + 11 * i) = 2 := fun i hi => (zlib_all t (Nat.lt_succ_of_le (zkd_pos h (by decide)).2) h i hi).2.2
section zRows7
variable {K : zK} {Z : zZ} {α : Type} {F : α → State → Prop} {cb sb pc : Nat} {lv : List (Nat × Value)} {st : List Value} {μ : zM}
theorem g_ltI {e : Int} {f : Int → Option α} (h : zr e) (k : ∀ x : Int, zr x → zG K Z (zΩ Z) F cb sb pc lv (.int (zi x) :: st) μ (f x)) : zG K Z (zΩ Z) F cb sb pc lv (.int (zi e) :: st) μ (zlt e f) := k e h
theorem g_ltL {e : Int} {f : Int → Option α} (h : zr64 e) (k : ∀ x : Int, zr64 x → zG K Z (zΩ Z) F cb sb pc lv (.long (zl x) :: st) μ (f x)) : zG K Z (zΩ Z) F cb sb pc lv (.long (zl e) :: st) μ (zlt e f) := k e h
end zRows7
theorem zfin_0 : zfin 0 := by
  intro q hq
  cases (Option.some.inj (show some (RX0, TX0, 3) = some q from hq))
  show ∀ w ∈ u_ws RX0 TX0 3, w ∈ zGood
  rw [show u_ws RX0 TX0 3 = [u_lay RX0 TX0 0, u_lay RX0 TX0 1, u_lay RX0 TX0 2] from rfl]
  exact List.forall_mem_cons.mpr ⟨q_136, List.forall_mem_cons.mpr ⟨q_138, List.forall_mem_cons.mpr ⟨q_140, (fun _ h => absurd h List.not_mem_nil)⟩⟩⟩
theorem zfin_1 : zfin 1 := by
  intro q hq
  cases (Option.some.inj (show some (RX1, TX1, 8) = some q from hq))
  show ∀ w ∈ u_ws RX1 TX1 8, w ∈ zGood
  rw [show u_ws RX1 TX1 8 = [u_lay RX1 TX1 0, u_lay RX1 TX1 1, u_lay RX1 TX1 2, u_lay RX1 TX1 3, u_lay RX1 TX1 4, u_lay RX1 TX1 5, u_lay RX1 TX1 6, u_lay RX1 TX1 7] from rfl]
  exact List.forall_mem_cons.mpr ⟨q_161, List.forall_mem_cons.mpr ⟨q_163, List.forall_mem_cons.mpr ⟨q_165, List.forall_mem_cons.mpr ⟨q_167, List.forall_mem_cons.mpr ⟨q_169, List.forall_mem_cons.mpr ⟨q_171, List.forall_mem_cons.mpr ⟨q_173, List.forall_mem_cons.mpr ⟨q_175, (fun _ h => absurd h List.not_mem_nil)⟩⟩⟩⟩⟩⟩⟩⟩
theorem zfin_2 : zfin 2 := by
  intro q hq
  cases (Option.some.inj (show some (RX2, TX2, 17) = some q from hq))
  show ∀ w ∈ u_ws RX2 TX2 17, w ∈ zGood
  rw [show u_ws RX2 TX2 17 = [u_lay RX2 TX2 0, u_lay RX2 TX2 1, u_lay RX2 TX2 2, u_lay RX2 TX2 3, u_lay RX2 TX2 4, u_lay RX2 TX2 5, u_lay RX2 TX2 6, u_lay RX2 TX2 7, u_lay RX2 TX2 8, u_lay RX2 TX2 9, u_lay RX2 TX2 10, u_lay RX2 TX2 11, u_lay RX2 TX2 12, u_lay RX2 TX2 13, u_lay RX2 TX2 14, u_lay RX2 TX2 15, u_lay RX2 TX2 16] from rfl]
  exact List.forall_mem_cons.mpr ⟨q_91, List.forall_mem_cons.mpr ⟨q_93, List.forall_mem_cons.mpr ⟨q_95, List.forall_mem_cons.mpr ⟨q_97, List.forall_mem_cons.mpr ⟨q_99, List.forall_mem_cons.mpr ⟨q_101, List.forall_mem_cons.mpr ⟨q_103, List.forall_mem_cons.mpr ⟨q_105, List.forall_mem_cons.mpr ⟨q_107, List.forall_mem_cons.mpr ⟨q_109, List.forall_mem_cons.mpr ⟨q_111, List.forall_mem_cons.mpr ⟨q_113, List.forall_mem_cons.mpr ⟨q_115, List.forall_mem_cons.mpr ⟨q_117, List.forall_mem_cons.mpr ⟨q_119, List.forall_mem_cons.mpr ⟨q_121, List.forall_mem_cons.mpr ⟨q_123, (fun _ h => absurd h List.not_mem_nil)⟩⟩⟩⟩⟩⟩⟩⟩⟩⟩⟩⟩⟩⟩⟩⟩⟩
theorem zfin_3 : zfin 3 := by
  intro q hq
  cases (Option.some.inj (show some (RX3, TX3, 9) = some q from hq))
  show ∀ w ∈ u_ws RX3 TX3 9, w ∈ zGood
  rw [show u_ws RX3 TX3 9 = [u_lay RX3 TX3 0, u_lay RX3 TX3 1, u_lay RX3 TX3 2, u_lay RX3 TX3 3, u_lay RX3 TX3 4, u_lay RX3 TX3 5, u_lay RX3 TX3 6, u_lay RX3 TX3 7, u_lay RX3 TX3 8] from rfl]
  exact List.forall_mem_cons.mpr ⟨q_201, List.forall_mem_cons.mpr ⟨q_203, List.forall_mem_cons.mpr ⟨q_205, List.forall_mem_cons.mpr ⟨q_207, List.forall_mem_cons.mpr ⟨q_209, List.forall_mem_cons.mpr ⟨q_211, List.forall_mem_cons.mpr ⟨q_213, List.forall_mem_cons.mpr ⟨q_215, List.forall_mem_cons.mpr ⟨q_217, (fun _ h => absurd h List.not_mem_nil)⟩⟩⟩⟩⟩⟩⟩⟩⟩
theorem zfin_4 : zfin 4 := by
  intro q hq
  cases (Option.some.inj (show some (RX4, TX4, 13) = some q from hq))
  show ∀ w ∈ u_ws RX4 TX4 13, w ∈ zGood
  rw [show u_ws RX4 TX4 13 = [u_lay RX4 TX4 0, u_lay RX4 TX4 1, u_lay RX4 TX4 2, u_lay RX4 TX4 3, u_lay RX4 TX4 4, u_lay RX4 TX4 5, u_lay RX4 TX4 6, u_lay RX4 TX4 7, u_lay RX4 TX4 8, u_lay RX4 TX4 9, u_lay RX4 TX4 10, u_lay RX4 TX4 11, u_lay RX4 TX4 12] from rfl]
  exact List.forall_mem_cons.mpr ⟨q_253, List.forall_mem_cons.mpr ⟨q_255, List.forall_mem_cons.mpr ⟨q_257, List.forall_mem_cons.mpr ⟨q_259, List.forall_mem_cons.mpr ⟨q_261, List.forall_mem_cons.mpr ⟨q_263, List.forall_mem_cons.mpr ⟨q_265, List.forall_mem_cons.mpr ⟨q_267, List.forall_mem_cons.mpr ⟨q_269, List.forall_mem_cons.mpr ⟨q_271, List.forall_mem_cons.mpr ⟨q_273, List.forall_mem_cons.mpr ⟨q_275, List.forall_mem_cons.mpr ⟨q_277, (fun _ h => absurd h List.not_mem_nil)⟩⟩⟩⟩⟩⟩⟩⟩⟩⟩⟩⟩⟩
theorem zfin_5 : zfin 5 := by
  intro q hq
  cases (Option.some.inj (show some (RX5, TX5, 14) = some q from hq))
  show ∀ w ∈ u_ws RX5 TX5 14, w ∈ zGood
  rw [show u_ws RX5 TX5 14 = [u_lay RX5 TX5 0, u_lay RX5 TX5 1, u_lay RX5 TX5 2, u_lay RX5 TX5 3, u_lay RX5 TX5 4, u_lay RX5 TX5 5, u_lay RX5 TX5 6, u_lay RX5 TX5 7, u_lay RX5 TX5 8, u_lay RX5 TX5 9, u_lay RX5 TX5 10, u_lay RX5 TX5 11, u_lay RX5 TX5 12, u_lay RX5 TX5 13] from rfl]
  exact List.forall_mem_cons.mpr ⟨q_295, List.forall_mem_cons.mpr ⟨q_297, List.forall_mem_cons.mpr ⟨q_299, List.forall_mem_cons.mpr ⟨q_301, List.forall_mem_cons.mpr ⟨q_303, List.forall_mem_cons.mpr ⟨q_305, List.forall_mem_cons.mpr ⟨q_307, List.forall_mem_cons.mpr ⟨q_309, List.forall_mem_cons.mpr ⟨q_311, List.forall_mem_cons.mpr ⟨q_313, List.forall_mem_cons.mpr ⟨q_315, List.forall_mem_cons.mpr ⟨q_317, List.forall_mem_cons.mpr ⟨q_319, List.forall_mem_cons.mpr ⟨q_321, (fun _ h => absurd h List.not_mem_nil)⟩⟩⟩⟩⟩⟩⟩⟩⟩⟩⟩⟩⟩⟩
theorem zfin_6 : zfin 6 := by
  intro q hq
  cases (Option.some.inj (show some (RX6, TX6, 15) = some q from hq))
  show ∀ w ∈ u_ws RX6 TX6 15, w ∈ zGood
  rw [show u_ws RX6 TX6 15 = [u_lay RX6 TX6 0, u_lay RX6 TX6 1, u_lay RX6 TX6 2, u_lay RX6 TX6 3, u_lay RX6 TX6 4, u_lay RX6 TX6 5, u_lay RX6 TX6 6, u_lay RX6 TX6 7, u_lay RX6 TX6 8, u_lay RX6 TX6 9, u_lay RX6 TX6 10, u_lay RX6 TX6 11, u_lay RX6 TX6 12, u_lay RX6 TX6 13, u_lay RX6 TX6 14] from rfl]
  exact List.forall_mem_cons.mpr ⟨q_1166, List.forall_mem_cons.mpr ⟨q_1168, List.forall_mem_cons.mpr ⟨q_1170, List.forall_mem_cons.mpr ⟨q_1172, List.forall_mem_cons.mpr ⟨q_1174, List.forall_mem_cons.mpr ⟨q_1176, List.forall_mem_cons.mpr ⟨q_1178, List.forall_mem_cons.mpr ⟨q_1180, List.forall_mem_cons.mpr ⟨q_1182, List.forall_mem_cons.mpr ⟨q_1184, List.forall_mem_cons.mpr ⟨q_1186, List.forall_mem_cons.mpr ⟨q_1188, List.forall_mem_cons.mpr ⟨q_1190, List.forall_mem_cons.mpr ⟨q_1192, List.forall_mem_cons.mpr ⟨q_1194, (fun _ h => absurd h List.not_mem_nil)⟩⟩⟩⟩⟩⟩⟩⟩⟩⟩⟩⟩⟩⟩⟩
theorem zfin_7 : zfin 7 := by
  intro q hq
  cases (Option.some.inj (show some (RX7, TX7, 36) = some q from hq))
  show ∀ w ∈ u_ws RX7 TX7 36, w ∈ zGood
  rw [show u_ws RX7 TX7 36 = [u_lay RX7 TX7 0, u_lay RX7 TX7 1, u_lay RX7 TX7 2, u_lay RX7 TX7 3, u_lay RX7 TX7 4, u_lay RX7 TX7 5, u_lay RX7 TX7 6, u_lay RX7 TX7 7, u_lay RX7 TX7 8, u_lay RX7 TX7 9, u_lay RX7 TX7 10, u_lay RX7 TX7 11, u_lay RX7 TX7 12, u_lay RX7 TX7 13, u_lay RX7 TX7 14, u_lay RX7 TX7 15, u_lay RX7 TX7 16, u_lay RX7 TX7 17, u_lay RX7 TX7 18, u_lay RX7 TX7 19, u_lay RX7 TX7 20, u_lay RX7 TX7 21, u_lay RX7 TX7 22, u_lay RX7 TX7 23, u_lay RX7 TX7 24, u_lay RX7 TX7 25, u_lay RX7 TX7 26, u_lay RX7 TX7 27, u_lay RX7 TX7 28, u_lay RX7 TX7 29, u_lay RX7 TX7 30, u_lay RX7 TX7 31, u_lay RX7 TX7 32, u_lay RX7 TX7 33, u_lay RX7 TX7 34, u_lay RX7 TX7 35] from rfl]
  exact List.forall_mem_cons.mpr ⟨q_1233, List.forall_mem_cons.mpr ⟨q_1235, List.forall_mem_cons.mpr ⟨q_1237, List.forall_mem_cons.mpr ⟨q_1239, List.forall_mem_cons.mpr ⟨q_1241, List.forall_mem_cons.mpr ⟨q_1243, List.forall_mem_cons.mpr ⟨q_1245, List.forall_mem_cons.mpr ⟨q_1247, List.forall_mem_cons.mpr ⟨q_1249, List.forall_mem_cons.mpr ⟨q_1251, List.forall_mem_cons.mpr ⟨q_1253, List.forall_mem_cons.mpr ⟨q_1255, List.forall_mem_cons.mpr ⟨q_1257, List.forall_mem_cons.mpr ⟨q_1259, List.forall_mem_cons.mpr ⟨q_1261, List.forall_mem_cons.mpr ⟨q_1263, List.forall_mem_cons.mpr ⟨q_1265, List.forall_mem_cons.mpr ⟨q_1267, List.forall_mem_cons.mpr ⟨q_1269, List.forall_mem_cons.mpr ⟨q_1271, List.forall_mem_cons.mpr ⟨q_1273, List.forall_mem_cons.mpr ⟨q_1275, List.forall_mem_cons.mpr ⟨q_1277, List.forall_mem_cons.mpr ⟨q_1279, List.forall_mem_cons.mpr ⟨q_1281, List.forall_mem_cons.mpr ⟨q_1283, List.forall_mem_cons.mpr ⟨q_1285, List.forall_mem_cons.mpr ⟨q_1287, List.forall_mem_cons.mpr ⟨q_1289, List.forall_mem_cons.mpr ⟨q_1291, List.forall_mem_cons.mpr ⟨q_1293, List.forall_mem_cons.mpr ⟨q_1295, List.forall_mem_cons.mpr ⟨q_1297, List.forall_mem_cons.mpr ⟨q_1299, List.forall_mem_cons.mpr ⟨q_1301, List.forall_mem_cons.mpr ⟨q_1303, (fun _ h => absurd h List.not_mem_nil)⟩⟩⟩⟩⟩⟩⟩⟩⟩⟩⟩⟩⟩⟩⟩⟩⟩⟩⟩⟩⟩⟩⟩⟩⟩⟩⟩⟩⟩⟩⟩⟩⟩⟩⟩⟩
theorem zc0 : zr 0 := ⟨by decide, by decide⟩
theorem zki0 : Int32.ofInt 0 = zi 0 := by decide +kernel
theorem zc10 : zr 10 := ⟨by decide, by decide⟩
theorem zkb10 : (Int8.ofInt 10).toInt32 = zi 10 := by decide +kernel
theorem zc60 : zr 60 := ⟨by decide, by decide⟩
theorem zkb60 : (Int8.ofInt 60).toInt32 = zi 60 := by decide +kernel
theorem zc8 : zr 8 := ⟨by decide, by decide⟩
theorem zkb8 : (Int8.ofInt 8).toInt32 = zi 8 := by decide +kernel
theorem zc1 : zr 1 := ⟨by decide, by decide⟩
theorem zki1 : Int32.ofInt 1 = zi 1 := by decide +kernel
theorem zcm1 : zr (-1) := ⟨by decide, by decide⟩
theorem zkim1 : Int32.ofInt (-1) = zi (-1) := by decide +kernel
theorem zc40 : zr 40 := ⟨by decide, by decide⟩
theorem zkb40 : (Int8.ofInt 40).toInt32 = zi 40 := by decide +kernel
theorem zc4 : zr 4 := ⟨by decide, by decide⟩
theorem zki4 : Int32.ofInt 4 = zi 4 := by decide +kernel
theorem zc600 : zr 600 := ⟨by decide, by decide⟩
theorem zks600 : (Int16.ofInt 600).toInt32 = zi 600 := by decide +kernel
theorem zc400 : zr 400 := ⟨by decide, by decide⟩
theorem zks400 : (Int16.ofInt 400).toInt32 = zi 400 := by decide +kernel
theorem zc1431655765 : zr 1431655765 := ⟨by decide, by decide⟩
theorem zc858993459 : zr 858993459 := ⟨by decide, by decide⟩
theorem zc2 : zr 2 := ⟨by decide, by decide⟩
theorem zki2 : Int32.ofInt 2 = zi 2 := by decide +kernel
theorem zc252645135 : zr 252645135 := ⟨by decide, by decide⟩
theorem zc16 : zr 16 := ⟨by decide, by decide⟩
theorem zkb16 : (Int8.ofInt 16).toInt32 = zi 16 := by decide +kernel
theorem zc63 : zr 63 := ⟨by decide, by decide⟩
theorem zkb63 : (Int8.ofInt 63).toInt32 = zi 63 := by decide +kernel
theorem zcL10 : zr64 10 := ⟨by decide, by decide⟩
theorem zc20 : zr 20 := ⟨by decide, by decide⟩
theorem zkb20 : (Int8.ofInt 20).toInt32 = zi 20 := by decide +kernel
theorem zcL0 : zr64 0 := ⟨by decide, by decide⟩
theorem zcL1 : zr64 1 := ⟨by decide, by decide⟩
theorem zc3 : zr 3 := ⟨by decide, by decide⟩
theorem zki3 : Int32.ofInt 3 = zi 3 := by decide +kernel
theorem zc97 : zr 97 := ⟨by decide, by decide⟩
theorem zkb97 : (Int8.ofInt 97).toInt32 = zi 97 := by decide +kernel
theorem zc122 : zr 122 := ⟨by decide, by decide⟩
theorem zkb122 : (Int8.ofInt 122).toInt32 = zi 122 := by decide +kernel
theorem zc65 : zr 65 := ⟨by decide, by decide⟩
theorem zkb65 : (Int8.ofInt 65).toInt32 = zi 65 := by decide +kernel
theorem zc90 : zr 90 := ⟨by decide, by decide⟩
theorem zkb90 : (Int8.ofInt 90).toInt32 = zi 90 := by decide +kernel
theorem zc48 : zr 48 := ⟨by decide, by decide⟩
theorem zkb48 : (Int8.ofInt 48).toInt32 = zi 48 := by decide +kernel
theorem zcL400 : zr64 400 := ⟨by decide, by decide⟩
theorem zc32 : zr 32 := ⟨by decide, by decide⟩
theorem zkb32 : (Int8.ofInt 32).toInt32 = zi 32 := by decide +kernel
theorem zc5 : zr 5 := ⟨by decide, by decide⟩
theorem zki5 : Int32.ofInt 5 = zi 5 := by decide +kernel
theorem zc123 : zr 123 := ⟨by decide, by decide⟩
theorem zkb123 : (Int8.ofInt 123).toInt32 = zi 123 := by decide +kernel
theorem zc125 : zr 125 := ⟨by decide, by decide⟩
theorem zkb125 : (Int8.ofInt 125).toInt32 = zi 125 := by decide +kernel
theorem zc47 : zr 47 := ⟨by decide, by decide⟩
theorem zkb47 : (Int8.ofInt 47).toInt32 = zi 47 := by decide +kernel
theorem zc58 : zr 58 := ⟨by decide, by decide⟩
theorem zkb58 : (Int8.ofInt 58).toInt32 = zi 58 := by decide +kernel
theorem zc36 : zr 36 := ⟨by decide, by decide⟩
theorem zkb36 : (Int8.ofInt 36).toInt32 = zi 36 := by decide +kernel
theorem zc57 : zr 57 := ⟨by decide, by decide⟩
theorem zkb57 : (Int8.ofInt 57).toInt32 = zi 57 := by decide +kernel
theorem zc126 : zr 126 := ⟨by decide, by decide⟩
theorem zkb126 : (Int8.ofInt 126).toInt32 = zi 126 := by decide +kernel
theorem zc59 : zr 59 := ⟨by decide, by decide⟩
theorem zkb59 : (Int8.ofInt 59).toInt32 = zi 59 := by decide +kernel
theorem zc24 : zr 24 := ⟨by decide, by decide⟩
theorem zkb24 : (Int8.ofInt 24).toInt32 = zi 24 := by decide +kernel
theorem zc255 : zr 255 := ⟨by decide, by decide⟩
theorem zks255 : (Int16.ofInt 255).toInt32 = zi 255 := by decide +kernel
theorem zc700 : zr 700 := ⟨by decide, by decide⟩
theorem zks700 : (Int16.ofInt 700).toInt32 = zi 700 := by decide +kernel
theorem zc9 : zr 9 := ⟨by decide, by decide⟩
theorem zkb9 : (Int8.ofInt 9).toInt32 = zi 9 := by decide +kernel
theorem zc6 : zr 6 := ⟨by decide, by decide⟩
theorem zkb6 : (Int8.ofInt 6).toInt32 = zi 6 := by decide +kernel
theorem zcL100000 : zr64 100000 := ⟨by decide, by decide⟩
theorem zcL40 : zr64 40 := ⟨by decide, by decide⟩
theorem zcL600 : zr64 600 := ⟨by decide, by decide⟩
theorem zc7 : zr 7 := ⟨by decide, by decide⟩
theorem zkb7 : (Int8.ofInt 7).toInt32 = zi 7 := by decide +kernel
theorem zc12 : zr 12 := ⟨by decide, by decide⟩
theorem zkb12 : (Int8.ofInt 12).toInt32 = zi 12 := by decide +kernel
theorem zc2256 : zr 2256 := ⟨by decide, by decide⟩
theorem zks2256 : (Int16.ofInt 2256).toInt32 = zi 2256 := by decide +kernel
theorem zc117 : zr 117 := ⟨by decide, by decide⟩
theorem zkb117 : (Int8.ofInt 117).toInt32 = zi 117 := by decide +kernel
theorem zc108 : zr 108 := ⟨by decide, by decide⟩
theorem zkb108 : (Int8.ofInt 108).toInt32 = zi 108 := by decide +kernel
theorem zc114 : zr 114 := ⟨by decide, by decide⟩
theorem zkb114 : (Int8.ofInt 114).toInt32 = zi 114 := by decide +kernel
theorem zc102 : zr 102 := ⟨by decide, by decide⟩
theorem zkb102 : (Int8.ofInt 102).toInt32 = zi 102 := by decide +kernel
theorem zc110 : zr 110 := ⟨by decide, by decide⟩
theorem zkb110 : (Int8.ofInt 110).toInt32 = zi 110 := by decide +kernel
theorem zc1000 : zr 1000 := ⟨by decide, by decide⟩
theorem zks1000 : (Int16.ofInt 1000).toInt32 = zi 1000 := by decide +kernel
theorem zc2000 : zr 2000 := ⟨by decide, by decide⟩
theorem zks2000 : (Int16.ofInt 2000).toInt32 = zi 2000 := by decide +kernel
theorem zc604 : zr 604 := ⟨by decide, by decide⟩
theorem zks604 : (Int16.ofInt 604).toInt32 = zi 604 := by decide +kernel
theorem zc413 : zr 413 := ⟨by decide, by decide⟩
theorem zks413 : (Int16.ofInt 413).toInt32 = zi 413 := by decide +kernel
theorem zc100000 : zr 100000 := ⟨by decide, by decide⟩
theorem zc410 : zr 410 := ⟨by decide, by decide⟩
theorem zks410 : (Int16.ofInt 410).toInt32 = zi 410 := by decide +kernel
theorem zc13 : zr 13 := ⟨by decide, by decide⟩
theorem zkb13 : (Int8.ofInt 13).toInt32 = zi 13 := by decide +kernel
theorem fa_2_2 {t : Nat} (h : zkd t = 2) : zfa 2 RX2 TX2 17 t 2 0 := ⟨rfl, h, by decide, rfl, by decide⟩
theorem fa_2_3 {t : Nat} (h : zkd t = 2) : zfa 2 RX2 TX2 17 t 3 0 := ⟨rfl, h, by decide, rfl, by decide⟩
theorem fa_2_15 {t : Nat} (h : zkd t = 2) : zfa 2 RX2 TX2 17 t 15 0 := ⟨rfl, h, by decide, rfl, by decide⟩
theorem fa_2_16 {t : Nat} (h : zkd t = 2) : zfa 2 RX2 TX2 17 t 16 0 := ⟨rfl, h, by decide, rfl, by decide⟩
theorem fa_2_9 {t : Nat} (h : zkd t = 2) : zfa 2 RX2 TX2 17 t 9 2 := ⟨rfl, h, by decide, rfl, by decide⟩
theorem fa_2_10 {t : Nat} (h : zkd t = 2) : zfa 2 RX2 TX2 17 t 10 2 := ⟨rfl, h, by decide, rfl, by decide⟩
theorem fa_2_1 {t : Nat} (h : zkd t = 2) : zfa 2 RX2 TX2 17 t 1 0 := ⟨rfl, h, by decide, rfl, by decide⟩
theorem fa_2_0 {t : Nat} (h : zkd t = 2) : zfa 2 RX2 TX2 17 t 0 2 := ⟨rfl, h, by decide, rfl, by decide⟩
theorem fa_2_11 {t : Nat} (h : zkd t = 2) : zfa 2 RX2 TX2 17 t 11 2 := ⟨rfl, h, by decide, rfl, by decide⟩
theorem fa_2_12 {t : Nat} (h : zkd t = 2) : zfa 2 RX2 TX2 17 t 12 2 := ⟨rfl, h, by decide, rfl, by decide⟩
theorem fa_2_4 {t : Nat} (h : zkd t = 2) : zfa 2 RX2 TX2 17 t 4 2 := ⟨rfl, h, by decide, rfl, by decide⟩
theorem fa_2_5 {t : Nat} (h : zkd t = 2) : zfa 2 RX2 TX2 17 t 5 2 := ⟨rfl, h, by decide, rfl, by decide⟩
theorem fa_2_6 {t : Nat} (h : zkd t = 2) : zfa 2 RX2 TX2 17 t 6 2 := ⟨rfl, h, by decide, rfl, by decide⟩
theorem fa_2_7 {t : Nat} (h : zkd t = 2) : zfa 2 RX2 TX2 17 t 7 2 := ⟨rfl, h, by decide, rfl, by decide⟩
theorem fa_2_8 {t : Nat} (h : zkd t = 2) : zfa 2 RX2 TX2 17 t 8 2 := ⟨rfl, h, by decide, rfl, by decide⟩
theorem fa_2_13 {t : Nat} (h : zkd t = 2) : zfa 2 RX2 TX2 17 t 13 2 := ⟨rfl, h, by decide, rfl, by decide⟩
theorem fa_2_14 {t : Nat} (h : zkd t = 2) : zfa 2 RX2 TX2 17 t 14 2 := ⟨rfl, h, by decide, rfl, by decide⟩
theorem fa_3_0 {t : Nat} (h : zkd t = 3) : zfa 3 RX3 TX3 9 t 0 0 := ⟨rfl, h, by decide, rfl, by decide⟩
theorem fa_3_1 {t : Nat} (h : zkd t = 3) : zfa 3 RX3 TX3 9 t 1 0 := ⟨rfl, h, by decide, rfl, by decide⟩
theorem fa_3_8 {t : Nat} (h : zkd t = 3) : zfa 3 RX3 TX3 9 t 8 0 := ⟨rfl, h, by decide, rfl, by decide⟩
theorem fa_3_2 {t : Nat} (h : zkd t = 3) : zfa 3 RX3 TX3 9 t 2 2 := ⟨rfl, h, by decide, rfl, by decide⟩
theorem fa_3_3 {t : Nat} (h : zkd t = 3) : zfa 3 RX3 TX3 9 t 3 2 := ⟨rfl, h, by decide, rfl, by decide⟩
theorem fa_3_4 {t : Nat} (h : zkd t = 3) : zfa 3 RX3 TX3 9 t 4 2 := ⟨rfl, h, by decide, rfl, by decide⟩
theorem fa_3_5 {t : Nat} (h : zkd t = 3) : zfa 3 RX3 TX3 9 t 5 2 := ⟨rfl, h, by decide, rfl, by decide⟩
theorem fa_3_6 {t : Nat} (h : zkd t = 3) : zfa 3 RX3 TX3 9 t 6 2 := ⟨rfl, h, by decide, rfl, by decide⟩
theorem fa_3_7 {t : Nat} (h : zkd t = 3) : zfa 3 RX3 TX3 9 t 7 2 := ⟨rfl, h, by decide, rfl, by decide⟩
theorem fa_4_0 {t : Nat} (h : zkd t = 4) : zfa 4 RX4 TX4 13 t 0 2 := ⟨rfl, h, by decide, rfl, by decide⟩
theorem fa_4_1 {t : Nat} (h : zkd t = 4) : zfa 4 RX4 TX4 13 t 1 0 := ⟨rfl, h, by decide, rfl, by decide⟩
theorem fa_4_2 {t : Nat} (h : zkd t = 4) : zfa 4 RX4 TX4 13 t 2 2 := ⟨rfl, h, by decide, rfl, by decide⟩
theorem fa_4_11 {t : Nat} (h : zkd t = 4) : zfa 4 RX4 TX4 13 t 11 2 := ⟨rfl, h, by decide, rfl, by decide⟩
theorem fa_4_3 {t : Nat} (h : zkd t = 4) : zfa 4 RX4 TX4 13 t 3 0 := ⟨rfl, h, by decide, rfl, by decide⟩
theorem fa_4_5 {t : Nat} (h : zkd t = 4) : zfa 4 RX4 TX4 13 t 5 2 := ⟨rfl, h, by decide, rfl, by decide⟩
theorem fa_4_6 {t : Nat} (h : zkd t = 4) : zfa 4 RX4 TX4 13 t 6 2 := ⟨rfl, h, by decide, rfl, by decide⟩
theorem fa_4_4 {t : Nat} (h : zkd t = 4) : zfa 4 RX4 TX4 13 t 4 2 := ⟨rfl, h, by decide, rfl, by decide⟩
theorem fa_4_7 {t : Nat} (h : zkd t = 4) : zfa 4 RX4 TX4 13 t 7 2 := ⟨rfl, h, by decide, rfl, by decide⟩
theorem fa_4_8 {t : Nat} (h : zkd t = 4) : zfa 4 RX4 TX4 13 t 8 1 := ⟨rfl, h, by decide, rfl, by decide⟩
theorem fa_4_10 {t : Nat} (h : zkd t = 4) : zfa 4 RX4 TX4 13 t 10 0 := ⟨rfl, h, by decide, rfl, by decide⟩
theorem fa_4_9 {t : Nat} (h : zkd t = 4) : zfa 4 RX4 TX4 13 t 9 2 := ⟨rfl, h, by decide, rfl, by decide⟩
theorem fa_4_12 {t : Nat} (h : zkd t = 4) : zfa 4 RX4 TX4 13 t 12 2 := ⟨rfl, h, by decide, rfl, by decide⟩
theorem fa_0_1 {t : Nat} (h : zkd t = 0) : zfa 0 RX0 TX0 3 t 1 0 := ⟨rfl, h, by decide, rfl, by decide⟩
theorem fa_0_0 {t : Nat} (h : zkd t = 0) : zfa 0 RX0 TX0 3 t 0 2 := ⟨rfl, h, by decide, rfl, by decide⟩
theorem fa_1_3 {t : Nat} (h : zkd t = 1) : zfa 1 RX1 TX1 8 t 3 2 := ⟨rfl, h, by decide, rfl, by decide⟩
theorem fa_1_2 {t : Nat} (h : zkd t = 1) : zfa 1 RX1 TX1 8 t 2 0 := ⟨rfl, h, by decide, rfl, by decide⟩
theorem fa_1_1 {t : Nat} (h : zkd t = 1) : zfa 1 RX1 TX1 8 t 1 0 := ⟨rfl, h, by decide, rfl, by decide⟩
theorem fa_1_0 {t : Nat} (h : zkd t = 1) : zfa 1 RX1 TX1 8 t 0 2 := ⟨rfl, h, by decide, rfl, by decide⟩
theorem fa_1_6 {t : Nat} (h : zkd t = 1) : zfa 1 RX1 TX1 8 t 6 0 := ⟨rfl, h, by decide, rfl, by decide⟩
theorem fa_1_7 {t : Nat} (h : zkd t = 1) : zfa 1 RX1 TX1 8 t 7 0 := ⟨rfl, h, by decide, rfl, by decide⟩
theorem fa_1_4 {t : Nat} (h : zkd t = 1) : zfa 1 RX1 TX1 8 t 4 2 := ⟨rfl, h, by decide, rfl, by decide⟩
theorem fa_1_5 {t : Nat} (h : zkd t = 1) : zfa 1 RX1 TX1 8 t 5 0 := ⟨rfl, h, by decide, rfl, by decide⟩
theorem fa_0_2 {t : Nat} (h : zkd t = 0) : zfa 0 RX0 TX0 3 t 2 0 := ⟨rfl, h, by decide, rfl, by decide⟩
theorem fa_5_1 {t : Nat} (h : zkd t = 5) : zfa 5 RX5 TX5 14 t 1 0 := ⟨rfl, h, by decide, rfl, by decide⟩
theorem fa_5_0 {t : Nat} (h : zkd t = 5) : zfa 5 RX5 TX5 14 t 0 2 := ⟨rfl, h, by decide, rfl, by decide⟩
theorem fa_5_3 {t : Nat} (h : zkd t = 5) : zfa 5 RX5 TX5 14 t 3 2 := ⟨rfl, h, by decide, rfl, by decide⟩
theorem fa_5_4 {t : Nat} (h : zkd t = 5) : zfa 5 RX5 TX5 14 t 4 0 := ⟨rfl, h, by decide, rfl, by decide⟩
theorem fa_5_5 {t : Nat} (h : zkd t = 5) : zfa 5 RX5 TX5 14 t 5 0 := ⟨rfl, h, by decide, rfl, by decide⟩
theorem fa_5_2 {t : Nat} (h : zkd t = 5) : zfa 5 RX5 TX5 14 t 2 2 := ⟨rfl, h, by decide, rfl, by decide⟩
theorem fa_5_7 {t : Nat} (h : zkd t = 5) : zfa 5 RX5 TX5 14 t 7 2 := ⟨rfl, h, by decide, rfl, by decide⟩
theorem fa_5_10 {t : Nat} (h : zkd t = 5) : zfa 5 RX5 TX5 14 t 10 0 := ⟨rfl, h, by decide, rfl, by decide⟩
theorem fa_5_12 {t : Nat} (h : zkd t = 5) : zfa 5 RX5 TX5 14 t 12 2 := ⟨rfl, h, by decide, rfl, by decide⟩
theorem fa_5_13 {t : Nat} (h : zkd t = 5) : zfa 5 RX5 TX5 14 t 13 2 := ⟨rfl, h, by decide, rfl, by decide⟩
theorem fa_5_6 {t : Nat} (h : zkd t = 5) : zfa 5 RX5 TX5 14 t 6 2 := ⟨rfl, h, by decide, rfl, by decide⟩
theorem fa_5_8 {t : Nat} (h : zkd t = 5) : zfa 5 RX5 TX5 14 t 8 2 := ⟨rfl, h, by decide, rfl, by decide⟩
theorem fa_5_9 {t : Nat} (h : zkd t = 5) : zfa 5 RX5 TX5 14 t 9 0 := ⟨rfl, h, by decide, rfl, by decide⟩
theorem fa_5_11 {t : Nat} (h : zkd t = 5) : zfa 5 RX5 TX5 14 t 11 2 := ⟨rfl, h, by decide, rfl, by decide⟩
theorem fa_7_0 {t : Nat} (h : zkd t = 7) : zfa 7 RX7 TX7 36 t 0 0 := ⟨rfl, h, by decide, rfl, by decide⟩
theorem fa_7_8 {t : Nat} (h : zkd t = 7) : zfa 7 RX7 TX7 36 t 8 2 := ⟨rfl, h, by decide, rfl, by decide⟩
theorem fa_6_0 {t : Nat} (h : zkd t = 6) : zfa 6 RX6 TX6 15 t 0 0 := ⟨rfl, h, by decide, rfl, by decide⟩
theorem fa_7_9 {t : Nat} (h : zkd t = 7) : zfa 7 RX7 TX7 36 t 9 2 := ⟨rfl, h, by decide, rfl, by decide⟩
theorem fa_7_10 {t : Nat} (h : zkd t = 7) : zfa 7 RX7 TX7 36 t 10 0 := ⟨rfl, h, by decide, rfl, by decide⟩
theorem fa_7_11 {t : Nat} (h : zkd t = 7) : zfa 7 RX7 TX7 36 t 11 0 := ⟨rfl, h, by decide, rfl, by decide⟩
theorem fa_7_12 {t : Nat} (h : zkd t = 7) : zfa 7 RX7 TX7 36 t 12 0 := ⟨rfl, h, by decide, rfl, by decide⟩
theorem fa_7_14 {t : Nat} (h : zkd t = 7) : zfa 7 RX7 TX7 36 t 14 0 := ⟨rfl, h, by decide, rfl, by decide⟩
theorem fa_7_15 {t : Nat} (h : zkd t = 7) : zfa 7 RX7 TX7 36 t 15 0 := ⟨rfl, h, by decide, rfl, by decide⟩
theorem fa_7_17 {t : Nat} (h : zkd t = 7) : zfa 7 RX7 TX7 36 t 17 0 := ⟨rfl, h, by decide, rfl, by decide⟩
theorem fa_7_16 {t : Nat} (h : zkd t = 7) : zfa 7 RX7 TX7 36 t 16 0 := ⟨rfl, h, by decide, rfl, by decide⟩
theorem fa_6_3 {t : Nat} (h : zkd t = 6) : zfa 6 RX6 TX6 15 t 3 2 := ⟨rfl, h, by decide, rfl, by decide⟩
theorem fa_6_2 {t : Nat} (h : zkd t = 6) : zfa 6 RX6 TX6 15 t 2 2 := ⟨rfl, h, by decide, rfl, by decide⟩
theorem fa_7_13 {t : Nat} (h : zkd t = 7) : zfa 7 RX7 TX7 36 t 13 2 := ⟨rfl, h, by decide, rfl, by decide⟩
theorem fa_6_5 {t : Nat} (h : zkd t = 6) : zfa 6 RX6 TX6 15 t 5 2 := ⟨rfl, h, by decide, rfl, by decide⟩
theorem fa_7_20 {t : Nat} (h : zkd t = 7) : zfa 7 RX7 TX7 36 t 20 0 := ⟨rfl, h, by decide, rfl, by decide⟩
theorem fa_7_19 {t : Nat} (h : zkd t = 7) : zfa 7 RX7 TX7 36 t 19 0 := ⟨rfl, h, by decide, rfl, by decide⟩
theorem fa_6_7 {t : Nat} (h : zkd t = 6) : zfa 6 RX6 TX6 15 t 7 2 := ⟨rfl, h, by decide, rfl, by decide⟩
theorem fa_7_18 {t : Nat} (h : zkd t = 7) : zfa 7 RX7 TX7 36 t 18 2 := ⟨rfl, h, by decide, rfl, by decide⟩
theorem fa_6_14 {t : Nat} (h : zkd t = 6) : zfa 6 RX6 TX6 15 t 14 2 := ⟨rfl, h, by decide, rfl, by decide⟩
theorem fa_6_8 {t : Nat} (h : zkd t = 6) : zfa 6 RX6 TX6 15 t 8 2 := ⟨rfl, h, by decide, rfl, by decide⟩
theorem fa_6_9 {t : Nat} (h : zkd t = 6) : zfa 6 RX6 TX6 15 t 9 2 := ⟨rfl, h, by decide, rfl, by decide⟩
theorem fa_6_6 {t : Nat} (h : zkd t = 6) : zfa 6 RX6 TX6 15 t 6 2 := ⟨rfl, h, by decide, rfl, by decide⟩
theorem fa_6_10 {t : Nat} (h : zkd t = 6) : zfa 6 RX6 TX6 15 t 10 2 := ⟨rfl, h, by decide, rfl, by decide⟩
theorem fa_6_11 {t : Nat} (h : zkd t = 6) : zfa 6 RX6 TX6 15 t 11 2 := ⟨rfl, h, by decide, rfl, by decide⟩
theorem fa_6_12 {t : Nat} (h : zkd t = 6) : zfa 6 RX6 TX6 15 t 12 2 := ⟨rfl, h, by decide, rfl, by decide⟩
theorem fa_6_13 {t : Nat} (h : zkd t = 6) : zfa 6 RX6 TX6 15 t 13 2 := ⟨rfl, h, by decide, rfl, by decide⟩
theorem fa_6_4 {t : Nat} (h : zkd t = 6) : zfa 6 RX6 TX6 15 t 4 2 := ⟨rfl, h, by decide, rfl, by decide⟩
theorem fa_6_1 {t : Nat} (h : zkd t = 6) : zfa 6 RX6 TX6 15 t 1 0 := ⟨rfl, h, by decide, rfl, by decide⟩
theorem fa_7_1 {t : Nat} (h : zkd t = 7) : zfa 7 RX7 TX7 36 t 1 2 := ⟨rfl, h, by decide, rfl, by decide⟩
theorem fa_7_7 {t : Nat} (h : zkd t = 7) : zfa 7 RX7 TX7 36 t 7 0 := ⟨rfl, h, by decide, rfl, by decide⟩
theorem fa_7_5 {t : Nat} (h : zkd t = 7) : zfa 7 RX7 TX7 36 t 5 2 := ⟨rfl, h, by decide, rfl, by decide⟩
theorem fa_7_21 {t : Nat} (h : zkd t = 7) : zfa 7 RX7 TX7 36 t 21 0 := ⟨rfl, h, by decide, rfl, by decide⟩
theorem fa_7_22 {t : Nat} (h : zkd t = 7) : zfa 7 RX7 TX7 36 t 22 0 := ⟨rfl, h, by decide, rfl, by decide⟩
theorem fa_7_27 {t : Nat} (h : zkd t = 7) : zfa 7 RX7 TX7 36 t 27 0 := ⟨rfl, h, by decide, rfl, by decide⟩
theorem fa_7_25 {t : Nat} (h : zkd t = 7) : zfa 7 RX7 TX7 36 t 25 2 := ⟨rfl, h, by decide, rfl, by decide⟩
theorem fa_7_26 {t : Nat} (h : zkd t = 7) : zfa 7 RX7 TX7 36 t 26 2 := ⟨rfl, h, by decide, rfl, by decide⟩
theorem fa_7_31 {t : Nat} (h : zkd t = 7) : zfa 7 RX7 TX7 36 t 31 2 := ⟨rfl, h, by decide, rfl, by decide⟩
theorem fa_7_23 {t : Nat} (h : zkd t = 7) : zfa 7 RX7 TX7 36 t 23 2 := ⟨rfl, h, by decide, rfl, by decide⟩
theorem fa_7_24 {t : Nat} (h : zkd t = 7) : zfa 7 RX7 TX7 36 t 24 2 := ⟨rfl, h, by decide, rfl, by decide⟩
theorem fa_7_28 {t : Nat} (h : zkd t = 7) : zfa 7 RX7 TX7 36 t 28 2 := ⟨rfl, h, by decide, rfl, by decide⟩
theorem fa_7_29 {t : Nat} (h : zkd t = 7) : zfa 7 RX7 TX7 36 t 29 0 := ⟨rfl, h, by decide, rfl, by decide⟩
theorem fa_7_30 {t : Nat} (h : zkd t = 7) : zfa 7 RX7 TX7 36 t 30 2 := ⟨rfl, h, by decide, rfl, by decide⟩
theorem fa_7_33 {t : Nat} (h : zkd t = 7) : zfa 7 RX7 TX7 36 t 33 0 := ⟨rfl, h, by decide, rfl, by decide⟩
theorem fa_7_32 {t : Nat} (h : zkd t = 7) : zfa 7 RX7 TX7 36 t 32 2 := ⟨rfl, h, by decide, rfl, by decide⟩
theorem fa_7_6 {t : Nat} (h : zkd t = 7) : zfa 7 RX7 TX7 36 t 6 2 := ⟨rfl, h, by decide, rfl, by decide⟩
theorem fa_7_34 {t : Nat} (h : zkd t = 7) : zfa 7 RX7 TX7 36 t 34 2 := ⟨rfl, h, by decide, rfl, by decide⟩
theorem fa_7_2 {t : Nat} (h : zkd t = 7) : zfa 7 RX7 TX7 36 t 2 2 := ⟨rfl, h, by decide, rfl, by decide⟩
theorem fa_7_3 {t : Nat} (h : zkd t = 7) : zfa 7 RX7 TX7 36 t 3 2 := ⟨rfl, h, by decide, rfl, by decide⟩
theorem fa_7_35 {t : Nat} (h : zkd t = 7) : zfa 7 RX7 TX7 36 t 35 2 := ⟨rfl, h, by decide, rfl, by decide⟩
theorem fa_7_4 {t : Nat} (h : zkd t = 7) : zfa 7 RX7 TX7 36 t 4 2 := ⟨rfl, h, by decide, rfl, by decide⟩
theorem kc_200 : zkd 200 = 4 := by decide +kernel
theorem kc_201 : zkd 201 = 100 := by decide +kernel
theorem kc_207 : zkd 207 = 100 := by decide +kernel
theorem kc_203 : zkd 203 = 100 := by decide +kernel
theorem kc_204 : zkd 204 = 100 := by decide +kernel
theorem kc_202 : zkd 202 = 101 := by decide +kernel
theorem kc_205 : zkd 205 = 102 := by decide +kernel
theorem kc_206 : zkd 206 = 100 := by decide +kernel
theorem kc_208 : zkd 208 = 100 := by decide +kernel
theorem kc_99 : zkd 99 = 1 := by decide +kernel
theorem kc_1 : zkd 1 = 5 := by decide +kernel
theorem kc_2 : zkd 2 = 100 := by decide +kernel
theorem kc_193 : zkd 193 = 3 := by decide +kernel
theorem kc_6 : zkd 6 = 101 := by decide +kernel
theorem kc_199 : zkd 199 = 100 := by decide +kernel
theorem kc_194 : zkd 194 = 100 := by decide +kernel
theorem kc_195 : zkd 195 = 100 := by decide +kernel
theorem kc_196 : zkd 196 = 100 := by decide +kernel
theorem kc_3 : zkd 3 = 100 := by decide +kernel
theorem kc_4 : zkd 4 = 104 := by decide +kernel
theorem kc_5 : zkd 5 = 104 := by decide +kernel
theorem kc_292 : zkd 292 = 7 := by decide +kernel
theorem kc_313 : zkd 313 = 100 := by decide +kernel
theorem kc_328 : zkd 328 = 100 := by decide +kernel
theorem kc_293 : zkd 293 = 100 := by decide +kernel
theorem kc_297 : zkd 297 = 101 := by decide +kernel
theorem kc_331 : zkd 331 = 100 := by decide +kernel
theorem kc_332 : zkd 332 = 100 := by decide +kernel
theorem kc_335 : zkd 335 = 101 := by decide +kernel
theorem kc_329 : zkd 329 = 101 := by decide +kernel
theorem kc_330 : zkd 330 = 101 := by decide +kernel
theorem kc_333 : zkd 333 = 100 := by decide +kernel
theorem kc_334 : zkd 334 = 100 := by decide +kernel
theorem kc_336 : zkd 336 = 100 := by decide +kernel
theorem kc_298 : zkd 298 = 100 := by decide +kernel
theorem kc_337 : zkd 337 = 100 := by decide +kernel
theorem kc_294 : zkd 294 = 100 := by decide +kernel
theorem kc_295 : zkd 295 = 100 := by decide +kernel
theorem kc_338 : zkd 338 = 100 := by decide +kernel
theorem kc_296 : zkd 296 = 100 := by decide +kernel
theorem pt_2_dependsOn_all : ∀ t, t < 341 → zkd t = 2 → ztp t 9 = (zsb t + 7) ∧ (zsb t + 7) ≠ 0 ∧ zkd (zsb t + 7) = 100 ∧ zln (zsb t + 7) = 10 := by decide +kernel
theorem pt_2_dependsOn {t : Nat} (h : zkd t = 2) : ztp t 9 = (zsb t + 7) ∧ (zsb t + 7) ≠ 0 := let q := pt_2_dependsOn_all t (Nat.lt_succ_of_le (zkd_pos h (by decide)).2) h; ⟨q.1, q.2.1⟩
theorem pt_2_dependsOn_k {t : Nat} (h : zkd t = 2) : zkd (zsb t + 7) = 100 := (pt_2_dependsOn_all t (Nat.lt_succ_of_le (zkd_pos h (by decide)).2) h).2.2.1
theorem pt_2_dependsOn_n {t : Nat} (h : zkd t = 2) : zln (zsb t + 7) = 10 := (pt_2_dependsOn_all t (Nat.lt_succ_of_le (zkd_pos h (by decide)).2) h).2.2.2
theorem pt_2_literalsOfParts_all : ∀ t, t < 341 → zkd t = 2 → ztp t 10 = (zsb t + 8) ∧ (zsb t + 8) ≠ 0 ∧ zkd (zsb t + 8) = 100 ∧ zln (zsb t + 8) = 61 := by decide +kernel
theorem pt_2_literalsOfParts {t : Nat} (h : zkd t = 2) : ztp t 10 = (zsb t + 8) ∧ (zsb t + 8) ≠ 0 := let q := pt_2_literalsOfParts_all t (Nat.lt_succ_of_le (zkd_pos h (by decide)).2) h; ⟨q.1, q.2.1⟩
theorem pt_2_literalsOfParts_k {t : Nat} (h : zkd t = 2) : zkd (zsb t + 8) = 100 := (pt_2_literalsOfParts_all t (Nat.lt_succ_of_le (zkd_pos h (by decide)).2) h).2.2.1
theorem pt_2_literalsOfParts_n {t : Nat} (h : zkd t = 2) : zln (zsb t + 8) = 61 := (pt_2_literalsOfParts_all t (Nat.lt_succ_of_le (zkd_pos h (by decide)).2) h).2.2.2
theorem pt_2_name_all : ∀ t, t < 341 → zkd t = 2 → ztp t 0 = (zsb t + 1) ∧ (zsb t + 1) ≠ 0 ∧ zkd (zsb t + 1) = 100 ∧ zln (zsb t + 1) = 8 := by decide +kernel
theorem pt_2_name {t : Nat} (h : zkd t = 2) : ztp t 0 = (zsb t + 1) ∧ (zsb t + 1) ≠ 0 := let q := pt_2_name_all t (Nat.lt_succ_of_le (zkd_pos h (by decide)).2) h; ⟨q.1, q.2.1⟩
theorem pt_2_name_k {t : Nat} (h : zkd t = 2) : zkd (zsb t + 1) = 100 := (pt_2_name_all t (Nat.lt_succ_of_le (zkd_pos h (by decide)).2) h).2.2.1
theorem pt_2_name_n {t : Nat} (h : zkd t = 2) : zln (zsb t + 1) = 8 := (pt_2_name_all t (Nat.lt_succ_of_le (zkd_pos h (by decide)).2) h).2.2.2
theorem pt_2_items_all : ∀ t, t < 341 → zkd t = 2 → ztp t 11 = (zit t) ∧ (zit t) ≠ 0 ∧ zkd (zit t) = 100 := by decide +kernel
theorem pt_2_items {t : Nat} (h : zkd t = 2) : ztp t 11 = (zit t) ∧ (zit t) ≠ 0 := let q := pt_2_items_all t (Nat.lt_succ_of_le (zkd_pos h (by decide)).2) h; ⟨q.1, q.2.1⟩
theorem pt_2_items_k {t : Nat} (h : zkd t = 2) : zkd (zit t) = 100 := (pt_2_items_all t (Nat.lt_succ_of_le (zkd_pos h (by decide)).2) h).2.2
theorem pt_2_partOfItem_all : ∀ t, t < 341 → zkd t = 2 → ztp t 12 = (zit t + 1) ∧ (zit t + 1) ≠ 0 ∧ zkd (zit t + 1) = 100 := by decide +kernel
theorem pt_2_partOfItem {t : Nat} (h : zkd t = 2) : ztp t 12 = (zit t + 1) ∧ (zit t + 1) ≠ 0 := let q := pt_2_partOfItem_all t (Nat.lt_succ_of_le (zkd_pos h (by decide)).2) h; ⟨q.1, q.2.1⟩
theorem pt_2_partOfItem_k {t : Nat} (h : zkd t = 2) : zkd (zit t + 1) = 100 := (pt_2_partOfItem_all t (Nat.lt_succ_of_le (zkd_pos h (by decide)).2) h).2.2
theorem pt_2_fields_all : ∀ t, t < 341 → zkd t = 2 → ztp t 4 = (zsb t + 2) ∧ (zsb t + 2) ≠ 0 ∧ zkd (zsb t + 2) = 100 ∧ zln (zsb t + 2) = 60 := by decide +kernel
theorem pt_2_fields {t : Nat} (h : zkd t = 2) : ztp t 4 = (zsb t + 2) ∧ (zsb t + 2) ≠ 0 := let q := pt_2_fields_all t (Nat.lt_succ_of_le (zkd_pos h (by decide)).2) h; ⟨q.1, q.2.1⟩
theorem pt_2_fields_k {t : Nat} (h : zkd t = 2) : zkd (zsb t + 2) = 100 := (pt_2_fields_all t (Nat.lt_succ_of_le (zkd_pos h (by decide)).2) h).2.2.1
theorem pt_2_fields_n {t : Nat} (h : zkd t = 2) : zln (zsb t + 2) = 60 := (pt_2_fields_all t (Nat.lt_succ_of_le (zkd_pos h (by decide)).2) h).2.2.2
theorem pt_2_changes_all : ∀ t, t < 341 → zkd t = 2 → ztp t 5 = (zsb t + 3) ∧ (zsb t + 3) ≠ 0 ∧ zkd (zsb t + 3) = 100 ∧ zln (zsb t + 3) = 60 := by decide +kernel
theorem pt_2_changes {t : Nat} (h : zkd t = 2) : ztp t 5 = (zsb t + 3) ∧ (zsb t + 3) ≠ 0 := let q := pt_2_changes_all t (Nat.lt_succ_of_le (zkd_pos h (by decide)).2) h; ⟨q.1, q.2.1⟩
theorem pt_2_changes_k {t : Nat} (h : zkd t = 2) : zkd (zsb t + 3) = 100 := (pt_2_changes_all t (Nat.lt_succ_of_le (zkd_pos h (by decide)).2) h).2.2.1
theorem pt_2_changes_n {t : Nat} (h : zkd t = 2) : zln (zsb t + 3) = 60 := (pt_2_changes_all t (Nat.lt_succ_of_le (zkd_pos h (by decide)).2) h).2.2.2
theorem pt_2_hasDefault_all : ∀ t, t < 341 → zkd t = 2 → ztp t 6 = (zsb t + 4) ∧ (zsb t + 4) ≠ 0 ∧ zkd (zsb t + 4) = 101 ∧ zln (zsb t + 4) = 60 := by decide +kernel
theorem pt_2_hasDefault {t : Nat} (h : zkd t = 2) : ztp t 6 = (zsb t + 4) ∧ (zsb t + 4) ≠ 0 := let q := pt_2_hasDefault_all t (Nat.lt_succ_of_le (zkd_pos h (by decide)).2) h; ⟨q.1, q.2.1⟩
theorem pt_2_hasDefault_k {t : Nat} (h : zkd t = 2) : zkd (zsb t + 4) = 101 := (pt_2_hasDefault_all t (Nat.lt_succ_of_le (zkd_pos h (by decide)).2) h).2.2.1
theorem pt_2_hasDefault_n {t : Nat} (h : zkd t = 2) : zln (zsb t + 4) = 60 := (pt_2_hasDefault_all t (Nat.lt_succ_of_le (zkd_pos h (by decide)).2) h).2.2.2
theorem pt_2_parents_all : ∀ t, t < 341 → zkd t = 2 → ztp t 7 = (zsb t + 5) ∧ (zsb t + 5) ≠ 0 ∧ zkd (zsb t + 5) = 100 ∧ zln (zsb t + 5) = 60 := by decide +kernel
theorem pt_2_parents {t : Nat} (h : zkd t = 2) : ztp t 7 = (zsb t + 5) ∧ (zsb t + 5) ≠ 0 := let q := pt_2_parents_all t (Nat.lt_succ_of_le (zkd_pos h (by decide)).2) h; ⟨q.1, q.2.1⟩
theorem pt_2_parents_k {t : Nat} (h : zkd t = 2) : zkd (zsb t + 5) = 100 := (pt_2_parents_all t (Nat.lt_succ_of_le (zkd_pos h (by decide)).2) h).2.2.1
theorem pt_2_parents_n {t : Nat} (h : zkd t = 2) : zln (zsb t + 5) = 60 := (pt_2_parents_all t (Nat.lt_succ_of_le (zkd_pos h (by decide)).2) h).2.2.2
theorem pt_2_nestings_all : ∀ t, t < 341 → zkd t = 2 → ztp t 8 = (zsb t + 6) ∧ (zsb t + 6) ≠ 0 ∧ zkd (zsb t + 6) = 100 ∧ zln (zsb t + 6) = 60 := by decide +kernel
theorem pt_2_nestings {t : Nat} (h : zkd t = 2) : ztp t 8 = (zsb t + 6) ∧ (zsb t + 6) ≠ 0 := let q := pt_2_nestings_all t (Nat.lt_succ_of_le (zkd_pos h (by decide)).2) h; ⟨q.1, q.2.1⟩
theorem pt_2_nestings_k {t : Nat} (h : zkd t = 2) : zkd (zsb t + 6) = 100 := (pt_2_nestings_all t (Nat.lt_succ_of_le (zkd_pos h (by decide)).2) h).2.2.1
theorem pt_2_nestings_n {t : Nat} (h : zkd t = 2) : zln (zsb t + 6) = 60 := (pt_2_nestings_all t (Nat.lt_succ_of_le (zkd_pos h (by decide)).2) h).2.2.2
theorem pt_2_itemOfOccurrence_all : ∀ t, t < 341 → zkd t = 2 → ztp t 13 = (zsb t + 9) ∧ (zsb t + 9) ≠ 0 ∧ zkd (zsb t + 9) = 100 ∧ zln (zsb t + 9) = 60 := by decide +kernel
theorem pt_2_itemOfOccurrence {t : Nat} (h : zkd t = 2) : ztp t 13 = (zsb t + 9) ∧ (zsb t + 9) ≠ 0 := let q := pt_2_itemOfOccurrence_all t (Nat.lt_succ_of_le (zkd_pos h (by decide)).2) h; ⟨q.1, q.2.1⟩
theorem pt_2_itemOfOccurrence_k {t : Nat} (h : zkd t = 2) : zkd (zsb t + 9) = 100 := (pt_2_itemOfOccurrence_all t (Nat.lt_succ_of_le (zkd_pos h (by decide)).2) h).2.2.1
theorem pt_2_itemOfOccurrence_n {t : Nat} (h : zkd t = 2) : zln (zsb t + 9) = 60 := (pt_2_itemOfOccurrence_all t (Nat.lt_succ_of_le (zkd_pos h (by decide)).2) h).2.2.2
theorem pt_2_endOfDefault_all : ∀ t, t < 341 → zkd t = 2 → ztp t 14 = (zsb t + 10) ∧ (zsb t + 10) ≠ 0 ∧ zkd (zsb t + 10) = 100 ∧ zln (zsb t + 10) = 60 := by decide +kernel
theorem pt_2_endOfDefault {t : Nat} (h : zkd t = 2) : ztp t 14 = (zsb t + 10) ∧ (zsb t + 10) ≠ 0 := let q := pt_2_endOfDefault_all t (Nat.lt_succ_of_le (zkd_pos h (by decide)).2) h; ⟨q.1, q.2.1⟩
theorem pt_2_endOfDefault_k {t : Nat} (h : zkd t = 2) : zkd (zsb t + 10) = 100 := (pt_2_endOfDefault_all t (Nat.lt_succ_of_le (zkd_pos h (by decide)).2) h).2.2.1
theorem pt_2_endOfDefault_n {t : Nat} (h : zkd t = 2) : zln (zsb t + 10) = 60 := (pt_2_endOfDefault_all t (Nat.lt_succ_of_le (zkd_pos h (by decide)).2) h).2.2.2
theorem pt_3_snippets_all : ∀ t, t < 341 → zkd t = 3 → ztp t 2 = (t + 1) ∧ (t + 1) ≠ 0 ∧ zkd (t + 1) = 100 ∧ zln (t + 1) = 4 := by decide +kernel
theorem pt_3_snippets {t : Nat} (h : zkd t = 3) : ztp t 2 = (t + 1) ∧ (t + 1) ≠ 0 := let q := pt_3_snippets_all t (Nat.lt_succ_of_le (zkd_pos h (by decide)).2) h; ⟨q.1, q.2.1⟩
theorem pt_3_snippets_k {t : Nat} (h : zkd t = 3) : zkd (t + 1) = 100 := (pt_3_snippets_all t (Nat.lt_succ_of_le (zkd_pos h (by decide)).2) h).2.2.1
theorem pt_3_snippets_n {t : Nat} (h : zkd t = 3) : zln (t + 1) = 4 := (pt_3_snippets_all t (Nat.lt_succ_of_le (zkd_pos h (by decide)).2) h).2.2.2
theorem pt_3_currents_all : ∀ t, t < 341 → zkd t = 3 → ztp t 3 = (t + 2) ∧ (t + 2) ≠ 0 ∧ zkd (t + 2) = 100 ∧ zln (t + 2) = 4 := by decide +kernel
theorem pt_3_currents {t : Nat} (h : zkd t = 3) : ztp t 3 = (t + 2) ∧ (t + 2) ≠ 0 := let q := pt_3_currents_all t (Nat.lt_succ_of_le (zkd_pos h (by decide)).2) h; ⟨q.1, q.2.1⟩
theorem pt_3_currents_k {t : Nat} (h : zkd t = 3) : zkd (t + 2) = 100 := (pt_3_currents_all t (Nat.lt_succ_of_le (zkd_pos h (by decide)).2) h).2.2.1
theorem pt_3_currents_n {t : Nat} (h : zkd t = 3) : zln (t + 2) = 4 := (pt_3_currents_all t (Nat.lt_succ_of_le (zkd_pos h (by decide)).2) h).2.2.2
theorem pt_3_typedSets_all : ∀ t, t < 341 → zkd t = 3 → ztp t 4 = (t + 3) ∧ (t + 3) ≠ 0 ∧ zkd (t + 3) = 100 ∧ zln (t + 3) = 4 := by decide +kernel
theorem pt_3_typedSets {t : Nat} (h : zkd t = 3) : ztp t 4 = (t + 3) ∧ (t + 3) ≠ 0 := let q := pt_3_typedSets_all t (Nat.lt_succ_of_le (zkd_pos h (by decide)).2) h; ⟨q.1, q.2.1⟩
theorem pt_3_typedSets_k {t : Nat} (h : zkd t = 3) : zkd (t + 3) = 100 := (pt_3_typedSets_all t (Nat.lt_succ_of_le (zkd_pos h (by decide)).2) h).2.2.1
theorem pt_3_typedSets_n {t : Nat} (h : zkd t = 3) : zln (t + 3) = 4 := (pt_3_typedSets_all t (Nat.lt_succ_of_le (zkd_pos h (by decide)).2) h).2.2.2
theorem pt_3_typedLengths_all : ∀ t, t < 341 → zkd t = 3 → ztp t 5 = (t + 4) ∧ (t + 4) ≠ 0 ∧ zkd (t + 4) = 100 ∧ zln (t + 4) = 40 := by decide +kernel
theorem pt_3_typedLengths {t : Nat} (h : zkd t = 3) : ztp t 5 = (t + 4) ∧ (t + 4) ≠ 0 := let q := pt_3_typedLengths_all t (Nat.lt_succ_of_le (zkd_pos h (by decide)).2) h; ⟨q.1, q.2.1⟩
theorem pt_3_typedLengths_k {t : Nat} (h : zkd t = 3) : zkd (t + 4) = 100 := (pt_3_typedLengths_all t (Nat.lt_succ_of_le (zkd_pos h (by decide)).2) h).2.2.1
theorem pt_3_typedLengths_n {t : Nat} (h : zkd t = 3) : zln (t + 4) = 40 := (pt_3_typedLengths_all t (Nat.lt_succ_of_le (zkd_pos h (by decide)).2) h).2.2.2
theorem pt_3_typedTexts_all : ∀ t, t < 341 → zkd t = 3 → ztp t 6 = (t + 5) ∧ (t + 5) ≠ 0 ∧ zkd (t + 5) = 100 ∧ zln (t + 5) = 1600 := by decide +kernel
theorem pt_3_typedTexts {t : Nat} (h : zkd t = 3) : ztp t 6 = (t + 5) ∧ (t + 5) ≠ 0 := let q := pt_3_typedTexts_all t (Nat.lt_succ_of_le (zkd_pos h (by decide)).2) h; ⟨q.1, q.2.1⟩
theorem pt_3_typedTexts_k {t : Nat} (h : zkd t = 3) : zkd (t + 5) = 100 := (pt_3_typedTexts_all t (Nat.lt_succ_of_le (zkd_pos h (by decide)).2) h).2.2.1
theorem pt_3_typedTexts_n {t : Nat} (h : zkd t = 3) : zln (t + 5) = 1600 := (pt_3_typedTexts_all t (Nat.lt_succ_of_le (zkd_pos h (by decide)).2) h).2.2.2
theorem pt_3_document_all : ∀ t, t < 341 → zkd t = 3 → ztp t 7 = (t + 6) ∧ (t + 6) ≠ 0 ∧ zkd (t + 6) = 100 ∧ zln (t + 6) = 600 := by decide +kernel
theorem pt_3_document {t : Nat} (h : zkd t = 3) : ztp t 7 = (t + 6) ∧ (t + 6) ≠ 0 := let q := pt_3_document_all t (Nat.lt_succ_of_le (zkd_pos h (by decide)).2) h; ⟨q.1, q.2.1⟩
theorem pt_3_document_k {t : Nat} (h : zkd t = 3) : zkd (t + 6) = 100 := (pt_3_document_all t (Nat.lt_succ_of_le (zkd_pos h (by decide)).2) h).2.2.1
theorem pt_3_document_n {t : Nat} (h : zkd t = 3) : zln (t + 6) = 600 := (pt_3_document_all t (Nat.lt_succ_of_le (zkd_pos h (by decide)).2) h).2.2.2
theorem pt_0_snippets_all : ∀ t, t < 341 → zkd t = 0 → ztp t 0 = (t + 1) ∧ (t + 1) ≠ 0 ∧ zkd (t + 1) = 105 ∧ zln (t + 1) = 8 := by decide +kernel
theorem pt_0_snippets {t : Nat} (h : zkd t = 0) : ztp t 0 = (t + 1) ∧ (t + 1) ≠ 0 := let q := pt_0_snippets_all t (Nat.lt_succ_of_le (zkd_pos h (by decide)).2) h; ⟨q.1, q.2.1⟩
theorem pt_0_snippets_k {t : Nat} (h : zkd t = 0) : zkd (t + 1) = 105 := (pt_0_snippets_all t (Nat.lt_succ_of_le (zkd_pos h (by decide)).2) h).2.2.1
theorem pt_0_snippets_n {t : Nat} (h : zkd t = 0) : zln (t + 1) = 8 := (pt_0_snippets_all t (Nat.lt_succ_of_le (zkd_pos h (by decide)).2) h).2.2.2
theorem pt_6_lettersOf_all : ∀ t, t < 341 → zkd t = 6 → ztp t 3 = (t + 2) ∧ (t + 2) ≠ 0 ∧ zkd (t + 2) = 100 ∧ zln (t + 2) = 8 := by decide +kernel
theorem pt_6_lettersOf {t : Nat} (h : zkd t = 6) : ztp t 3 = (t + 2) ∧ (t + 2) ≠ 0 := let q := pt_6_lettersOf_all t (Nat.lt_succ_of_le (zkd_pos h (by decide)).2) h; ⟨q.1, q.2.1⟩
theorem pt_6_lettersOf_k {t : Nat} (h : zkd t = 6) : zkd (t + 2) = 100 := (pt_6_lettersOf_all t (Nat.lt_succ_of_le (zkd_pos h (by decide)).2) h).2.2.1
theorem pt_6_lettersOf_n {t : Nat} (h : zkd t = 6) : zln (t + 2) = 8 := (pt_6_lettersOf_all t (Nat.lt_succ_of_le (zkd_pos h (by decide)).2) h).2.2.2
theorem pt_6_names_all : ∀ t, t < 341 → zkd t = 6 → ztp t 2 = (t + 1) ∧ (t + 1) ≠ 0 ∧ zkd (t + 1) = 100 ∧ zln (t + 1) = 64 := by decide +kernel
theorem pt_6_names {t : Nat} (h : zkd t = 6) : ztp t 2 = (t + 1) ∧ (t + 1) ≠ 0 := let q := pt_6_names_all t (Nat.lt_succ_of_le (zkd_pos h (by decide)).2) h; ⟨q.1, q.2.1⟩
theorem pt_6_names_k {t : Nat} (h : zkd t = 6) : zkd (t + 1) = 100 := (pt_6_names_all t (Nat.lt_succ_of_le (zkd_pos h (by decide)).2) h).2.2.1
theorem pt_6_names_n {t : Nat} (h : zkd t = 6) : zln (t + 1) = 64 := (pt_6_names_all t (Nat.lt_succ_of_le (zkd_pos h (by decide)).2) h).2.2.2
theorem pt_6_items_all : ∀ t, t < 341 → zkd t = 6 → ztp t 5 = (t + 4) ∧ (t + 4) ≠ 0 ∧ zkd (t + 4) = 100 ∧ zln (t + 4) = 700 := by decide +kernel
theorem pt_6_items {t : Nat} (h : zkd t = 6) : ztp t 5 = (t + 4) ∧ (t + 4) ≠ 0 := let q := pt_6_items_all t (Nat.lt_succ_of_le (zkd_pos h (by decide)).2) h; ⟨q.1, q.2.1⟩
theorem pt_6_items_k {t : Nat} (h : zkd t = 6) : zkd (t + 4) = 100 := (pt_6_items_all t (Nat.lt_succ_of_le (zkd_pos h (by decide)).2) h).2.2.1
theorem pt_6_items_n {t : Nat} (h : zkd t = 6) : zln (t + 4) = 700 := (pt_6_items_all t (Nat.lt_succ_of_le (zkd_pos h (by decide)).2) h).2.2.2
theorem pt_6_field_all : ∀ t, t < 341 → zkd t = 6 → ztp t 7 = (t + 6) ∧ (t + 6) ≠ 0 ∧ zkd (t + 6) = 100 ∧ zln (t + 6) = 480 := by decide +kernel
theorem pt_6_field {t : Nat} (h : zkd t = 6) : ztp t 7 = (t + 6) ∧ (t + 6) ≠ 0 := let q := pt_6_field_all t (Nat.lt_succ_of_le (zkd_pos h (by decide)).2) h; ⟨q.1, q.2.1⟩
theorem pt_6_field_k {t : Nat} (h : zkd t = 6) : zkd (t + 6) = 100 := (pt_6_field_all t (Nat.lt_succ_of_le (zkd_pos h (by decide)).2) h).2.2.1
theorem pt_6_field_n {t : Nat} (h : zkd t = 6) : zln (t + 6) = 480 := (pt_6_field_all t (Nat.lt_succ_of_le (zkd_pos h (by decide)).2) h).2.2.2
theorem pt_6_depends_all : ∀ t, t < 341 → zkd t = 6 → ztp t 14 = (t + 13) ∧ (t + 13) ≠ 0 ∧ zkd (t + 13) = 100 ∧ zln (t + 13) = 80 := by decide +kernel
theorem pt_6_depends {t : Nat} (h : zkd t = 6) : ztp t 14 = (t + 13) ∧ (t + 13) ≠ 0 := let q := pt_6_depends_all t (Nat.lt_succ_of_le (zkd_pos h (by decide)).2) h; ⟨q.1, q.2.1⟩
theorem pt_6_depends_k {t : Nat} (h : zkd t = 6) : zkd (t + 13) = 100 := (pt_6_depends_all t (Nat.lt_succ_of_le (zkd_pos h (by decide)).2) h).2.2.1
theorem pt_6_depends_n {t : Nat} (h : zkd t = 6) : zln (t + 13) = 80 := (pt_6_depends_all t (Nat.lt_succ_of_le (zkd_pos h (by decide)).2) h).2.2.2
theorem pt_6_change_all : ∀ t, t < 341 → zkd t = 6 → ztp t 8 = (t + 7) ∧ (t + 7) ≠ 0 ∧ zkd (t + 7) = 100 ∧ zln (t + 7) = 480 := by decide +kernel
theorem pt_6_change {t : Nat} (h : zkd t = 6) : ztp t 8 = (t + 7) ∧ (t + 7) ≠ 0 := let q := pt_6_change_all t (Nat.lt_succ_of_le (zkd_pos h (by decide)).2) h; ⟨q.1, q.2.1⟩
theorem pt_6_change_k {t : Nat} (h : zkd t = 6) : zkd (t + 7) = 100 := (pt_6_change_all t (Nat.lt_succ_of_le (zkd_pos h (by decide)).2) h).2.2.1
theorem pt_6_change_n {t : Nat} (h : zkd t = 6) : zln (t + 7) = 480 := (pt_6_change_all t (Nat.lt_succ_of_le (zkd_pos h (by decide)).2) h).2.2.2
theorem pt_6_hasDefault_all : ∀ t, t < 341 → zkd t = 6 → ztp t 9 = (t + 8) ∧ (t + 8) ≠ 0 ∧ zkd (t + 8) = 101 ∧ zln (t + 8) = 480 := by decide +kernel
theorem pt_6_hasDefault {t : Nat} (h : zkd t = 6) : ztp t 9 = (t + 8) ∧ (t + 8) ≠ 0 := let q := pt_6_hasDefault_all t (Nat.lt_succ_of_le (zkd_pos h (by decide)).2) h; ⟨q.1, q.2.1⟩
theorem pt_6_hasDefault_k {t : Nat} (h : zkd t = 6) : zkd (t + 8) = 101 := (pt_6_hasDefault_all t (Nat.lt_succ_of_le (zkd_pos h (by decide)).2) h).2.2.1
theorem pt_6_hasDefault_n {t : Nat} (h : zkd t = 6) : zln (t + 8) = 480 := (pt_6_hasDefault_all t (Nat.lt_succ_of_le (zkd_pos h (by decide)).2) h).2.2.2
theorem pt_6_occurrences_all : ∀ t, t < 341 → zkd t = 6 → ztp t 6 = (t + 5) ∧ (t + 5) ≠ 0 ∧ zkd (t + 5) = 100 ∧ zln (t + 5) = 8 := by decide +kernel
theorem pt_6_occurrences {t : Nat} (h : zkd t = 6) : ztp t 6 = (t + 5) ∧ (t + 5) ≠ 0 := let q := pt_6_occurrences_all t (Nat.lt_succ_of_le (zkd_pos h (by decide)).2) h; ⟨q.1, q.2.1⟩
theorem pt_6_occurrences_k {t : Nat} (h : zkd t = 6) : zkd (t + 5) = 100 := (pt_6_occurrences_all t (Nat.lt_succ_of_le (zkd_pos h (by decide)).2) h).2.2.1
theorem pt_6_occurrences_n {t : Nat} (h : zkd t = 6) : zln (t + 5) = 8 := (pt_6_occurrences_all t (Nat.lt_succ_of_le (zkd_pos h (by decide)).2) h).2.2.2
theorem pt_6_parent_all : ∀ t, t < 341 → zkd t = 6 → ztp t 10 = (t + 9) ∧ (t + 9) ≠ 0 ∧ zkd (t + 9) = 100 ∧ zln (t + 9) = 480 := by decide +kernel
theorem pt_6_parent {t : Nat} (h : zkd t = 6) : ztp t 10 = (t + 9) ∧ (t + 9) ≠ 0 := let q := pt_6_parent_all t (Nat.lt_succ_of_le (zkd_pos h (by decide)).2) h; ⟨q.1, q.2.1⟩
theorem pt_6_parent_k {t : Nat} (h : zkd t = 6) : zkd (t + 9) = 100 := (pt_6_parent_all t (Nat.lt_succ_of_le (zkd_pos h (by decide)).2) h).2.2.1
theorem pt_6_parent_n {t : Nat} (h : zkd t = 6) : zln (t + 9) = 480 := (pt_6_parent_all t (Nat.lt_succ_of_le (zkd_pos h (by decide)).2) h).2.2.2
theorem pt_6_at_all : ∀ t, t < 341 → zkd t = 6 → ztp t 11 = (t + 10) ∧ (t + 10) ≠ 0 ∧ zkd (t + 10) = 100 ∧ zln (t + 10) = 480 := by decide +kernel
theorem pt_6_at {t : Nat} (h : zkd t = 6) : ztp t 11 = (t + 10) ∧ (t + 10) ≠ 0 := let q := pt_6_at_all t (Nat.lt_succ_of_le (zkd_pos h (by decide)).2) h; ⟨q.1, q.2.1⟩
theorem pt_6_at_k {t : Nat} (h : zkd t = 6) : zkd (t + 10) = 100 := (pt_6_at_all t (Nat.lt_succ_of_le (zkd_pos h (by decide)).2) h).2.2.1
theorem pt_6_at_n {t : Nat} (h : zkd t = 6) : zln (t + 10) = 480 := (pt_6_at_all t (Nat.lt_succ_of_le (zkd_pos h (by decide)).2) h).2.2.2
theorem pt_6_to_all : ∀ t, t < 341 → zkd t = 6 → ztp t 12 = (t + 11) ∧ (t + 11) ≠ 0 ∧ zkd (t + 11) = 100 ∧ zln (t + 11) = 480 := by decide +kernel
theorem pt_6_to {t : Nat} (h : zkd t = 6) : ztp t 12 = (t + 11) ∧ (t + 11) ≠ 0 := let q := pt_6_to_all t (Nat.lt_succ_of_le (zkd_pos h (by decide)).2) h; ⟨q.1, q.2.1⟩
theorem pt_6_to_k {t : Nat} (h : zkd t = 6) : zkd (t + 11) = 100 := (pt_6_to_all t (Nat.lt_succ_of_le (zkd_pos h (by decide)).2) h).2.2.1
theorem pt_6_to_n {t : Nat} (h : zkd t = 6) : zln (t + 11) = 480 := (pt_6_to_all t (Nat.lt_succ_of_le (zkd_pos h (by decide)).2) h).2.2.2
theorem pt_6_deep_all : ∀ t, t < 341 → zkd t = 6 → ztp t 13 = (t + 12) ∧ (t + 12) ≠ 0 ∧ zkd (t + 12) = 100 ∧ zln (t + 12) = 480 := by decide +kernel
theorem pt_6_deep {t : Nat} (h : zkd t = 6) : ztp t 13 = (t + 12) ∧ (t + 12) ≠ 0 := let q := pt_6_deep_all t (Nat.lt_succ_of_le (zkd_pos h (by decide)).2) h; ⟨q.1, q.2.1⟩
theorem pt_6_deep_k {t : Nat} (h : zkd t = 6) : zkd (t + 12) = 100 := (pt_6_deep_all t (Nat.lt_succ_of_le (zkd_pos h (by decide)).2) h).2.2.1
theorem pt_6_deep_n {t : Nat} (h : zkd t = 6) : zln (t + 12) = 480 := (pt_6_deep_all t (Nat.lt_succ_of_le (zkd_pos h (by decide)).2) h).2.2.2
theorem pt_6_from_all : ∀ t, t < 341 → zkd t = 6 → ztp t 4 = (t + 3) ∧ (t + 3) ≠ 0 ∧ zkd (t + 3) = 100 ∧ zln (t + 3) = 9 := by decide +kernel
theorem pt_6_from {t : Nat} (h : zkd t = 6) : ztp t 4 = (t + 3) ∧ (t + 3) ≠ 0 := let q := pt_6_from_all t (Nat.lt_succ_of_le (zkd_pos h (by decide)).2) h; ⟨q.1, q.2.1⟩
theorem pt_6_from_k {t : Nat} (h : zkd t = 6) : zkd (t + 3) = 100 := (pt_6_from_all t (Nat.lt_succ_of_le (zkd_pos h (by decide)).2) h).2.2.1
theorem pt_6_from_n {t : Nat} (h : zkd t = 6) : zln (t + 3) = 9 := (pt_6_from_all t (Nat.lt_succ_of_le (zkd_pos h (by decide)).2) h).2.2.2
set_option maxRecDepth 10000 in
theorem th_5_70_a : ∀ w ∈ Bundle.ownAtoms RX5 70 "java/lang/IllegalStateException" ["java/lang/RuntimeException", "java/lang/Exception"], vx_no w = true → w ∈ zGood ∨ w ∈ zNw := List.forall_mem_cons.mpr ⟨fun _ => Or.inl q_9, List.forall_mem_cons.mpr ⟨fun _ => Or.inl q_732, List.forall_mem_cons.mpr ⟨fun _ => Or.inl q_741, List.forall_mem_cons.mpr ⟨fun _ => Or.inl q_746, List.forall_mem_cons.mpr ⟨fun _ => Or.inl q_749, List.forall_mem_cons.mpr ⟨fun _ => Or.inl q_751, List.forall_mem_cons.mpr ⟨fun _ => Or.inl q_733, List.forall_mem_cons.mpr ⟨fun _ => Or.inl q_734, List.forall_mem_cons.mpr ⟨fun _ => Or.inl q_29, List.forall_mem_cons.mpr ⟨fun _ => Or.inl q_30, List.forall_mem_cons.mpr ⟨fun _ => Or.inl q_735, List.forall_mem_cons.mpr ⟨fun _ => Or.inl q_740, List.forall_mem_cons.mpr ⟨fun _ => Or.inl q_747, List.forall_mem_cons.mpr ⟨fun _ => Or.inl q_767, List.forall_mem_cons.mpr ⟨fun _ => Or.inl q_722, List.forall_mem_cons.mpr ⟨fun _ => Or.inl q_768, List.forall_mem_cons.mpr ⟨fun _ => Or.inl q_724, List.forall_mem_cons.mpr ⟨fun _ => Or.inl q_769, List.forall_mem_cons.mpr ⟨fun _ => Or.inl q_726, List.forall_mem_cons.mpr ⟨fun _ => Or.inl q_736, List.forall_mem_cons.mpr ⟨fun h => absurd h (by decide +kernel), List.forall_mem_cons.mpr ⟨fun _ => Or.inl q_738, List.forall_mem_cons.mpr ⟨fun h => absurd h (by decide +kernel), List.forall_mem_cons.mpr ⟨fun _ => Or.inl q_728, List.forall_mem_cons.mpr ⟨fun _ => Or.inl q_763, List.forall_mem_cons.mpr ⟨fun _ => Or.inl q_764, List.forall_mem_cons.mpr ⟨fun _ => Or.inl q_766, List.forall_mem_cons.mpr ⟨fun _ => Or.inl q_728, List.forall_mem_cons.mpr ⟨fun _ => Or.inl q_754, List.forall_mem_cons.mpr ⟨fun _ => Or.inl q_755, List.forall_mem_cons.mpr ⟨fun _ => Or.inl q_756, List.forall_mem_cons.mpr ⟨fun _ => Or.inl q_757, List.forall_mem_cons.mpr ⟨fun _ => Or.inr qn_714, List.forall_mem_cons.mpr ⟨fun _ => Or.inl q_757, List.forall_mem_cons.mpr ⟨fun _ => Or.inl q_758, List.forall_mem_cons.mpr ⟨fun _ => Or.inl q_759, List.forall_mem_cons.mpr ⟨fun _ => Or.inl q_760, List.forall_mem_cons.mpr ⟨fun _ => Or.inr qn_716, List.forall_mem_cons.mpr ⟨fun _ => Or.inl q_760, List.forall_mem_cons.mpr ⟨fun _ => Or.inl q_761, List.forall_mem_cons.mpr ⟨fun _ => Or.inl q_762, List.forall_mem_cons.mpr ⟨fun _ => Or.inl q_763, List.forall_mem_cons.mpr ⟨fun _ => Or.inr qn_718, List.forall_mem_cons.mpr ⟨fun _ => Or.inl q_753, List.forall_mem_cons.mpr ⟨fun _ => Or.inl q_711, List.forall_mem_cons.mpr ⟨fun _ => Or.inr qn_712, List.forall_mem_cons.mpr ⟨fun _ => Or.inl q_719, List.forall_mem_cons.mpr ⟨fun _ => Or.inl q_720, List.forall_mem_cons.mpr ⟨fun _ => Or.inl q_721, List.forall_mem_cons.mpr ⟨fun _ => Or.inl q_723, List.forall_mem_cons.mpr ⟨fun _ => Or.inl q_725, List.forall_mem_cons.mpr ⟨fun _ => Or.inl q_727, List.forall_mem_cons.mpr ⟨fun h => absurd h (by decide +kernel), List.forall_mem_cons.mpr ⟨fun h => absurd h (by decide +kernel), List.forall_mem_cons.mpr ⟨fun _ => Or.inl q_731, List.forall_mem_cons.mpr ⟨fun _ => Or.inl q_730, List.forall_mem_cons.mpr ⟨fun _ => Or.inl q_729, fun _ h => absurd h List.not_mem_nil⟩⟩⟩⟩⟩⟩⟩⟩⟩⟩⟩⟩⟩⟩⟩⟩⟩⟩⟩⟩⟩⟩⟩⟩⟩⟩⟩⟩⟩⟩⟩⟩⟩⟩⟩⟩⟩⟩⟩⟩⟩⟩⟩⟩⟩⟩⟩⟩⟩⟩⟩⟩⟩⟩⟩⟩⟩
set_option maxRecDepth 10000 in
theorem th_5_70 : ∀ w ∈ vx_atS RX5 70 "java/lang/IllegalStateException" ["java/lang/RuntimeException", "java/lang/Exception"], w ∈ zGood ∨ w ∈ zNw := fun w hw => let q := List.mem_filter.mp hw; th_5_70_a w q.1 q.2
set_option maxRecDepth 10000 in
theorem th_5_123_a : ∀ w ∈ Bundle.ownAtoms RX5 123 "java/lang/IllegalArgumentException" ["java/lang/RuntimeException", "java/lang/Exception"], vx_no w = true → w ∈ zGood ∨ w ∈ zNw := List.forall_mem_cons.mpr ⟨fun _ => Or.inl q_9, List.forall_mem_cons.mpr ⟨fun _ => Or.inl q_732, List.forall_mem_cons.mpr ⟨fun _ => Or.inl q_741, List.forall_mem_cons.mpr ⟨fun _ => Or.inl q_746, List.forall_mem_cons.mpr ⟨fun _ => Or.inl q_749, List.forall_mem_cons.mpr ⟨fun _ => Or.inl q_751, List.forall_mem_cons.mpr ⟨fun _ => Or.inl q_733, List.forall_mem_cons.mpr ⟨fun _ => Or.inl q_734, List.forall_mem_cons.mpr ⟨fun _ => Or.inl q_29, List.forall_mem_cons.mpr ⟨fun _ => Or.inl q_30, List.forall_mem_cons.mpr ⟨fun _ => Or.inl q_735, List.forall_mem_cons.mpr ⟨fun _ => Or.inl q_740, List.forall_mem_cons.mpr ⟨fun _ => Or.inl q_747, List.forall_mem_cons.mpr ⟨fun _ => Or.inl q_767, List.forall_mem_cons.mpr ⟨fun _ => Or.inl q_722, List.forall_mem_cons.mpr ⟨fun _ => Or.inl q_768, List.forall_mem_cons.mpr ⟨fun _ => Or.inl q_724, List.forall_mem_cons.mpr ⟨fun _ => Or.inl q_769, List.forall_mem_cons.mpr ⟨fun _ => Or.inl q_726, List.forall_mem_cons.mpr ⟨fun _ => Or.inl q_736, List.forall_mem_cons.mpr ⟨fun h => absurd h (by decide +kernel), List.forall_mem_cons.mpr ⟨fun _ => Or.inl q_738, List.forall_mem_cons.mpr ⟨fun h => absurd h (by decide +kernel), List.forall_mem_cons.mpr ⟨fun _ => Or.inl q_728, List.forall_mem_cons.mpr ⟨fun _ => Or.inl q_763, List.forall_mem_cons.mpr ⟨fun _ => Or.inl q_764, List.forall_mem_cons.mpr ⟨fun _ => Or.inl q_766, List.forall_mem_cons.mpr ⟨fun _ => Or.inl q_728, List.forall_mem_cons.mpr ⟨fun _ => Or.inl q_801, List.forall_mem_cons.mpr ⟨fun _ => Or.inl q_802, List.forall_mem_cons.mpr ⟨fun _ => Or.inl q_803, List.forall_mem_cons.mpr ⟨fun _ => Or.inl q_757, List.forall_mem_cons.mpr ⟨fun _ => Or.inr qn_714, List.forall_mem_cons.mpr ⟨fun _ => Or.inl q_757, List.forall_mem_cons.mpr ⟨fun _ => Or.inl q_758, List.forall_mem_cons.mpr ⟨fun _ => Or.inl q_759, List.forall_mem_cons.mpr ⟨fun _ => Or.inl q_760, List.forall_mem_cons.mpr ⟨fun _ => Or.inr qn_716, List.forall_mem_cons.mpr ⟨fun _ => Or.inl q_760, List.forall_mem_cons.mpr ⟨fun _ => Or.inl q_761, List.forall_mem_cons.mpr ⟨fun _ => Or.inl q_762, List.forall_mem_cons.mpr ⟨fun _ => Or.inl q_763, List.forall_mem_cons.mpr ⟨fun _ => Or.inr qn_718, List.forall_mem_cons.mpr ⟨fun _ => Or.inl q_800, List.forall_mem_cons.mpr ⟨fun _ => Or.inl q_791, List.forall_mem_cons.mpr ⟨fun _ => Or.inr qn_792, List.forall_mem_cons.mpr ⟨fun _ => Or.inl q_793, List.forall_mem_cons.mpr ⟨fun _ => Or.inl q_743, List.forall_mem_cons.mpr ⟨fun _ => Or.inl q_794, List.forall_mem_cons.mpr ⟨fun _ => Or.inl q_795, List.forall_mem_cons.mpr ⟨fun _ => Or.inl q_796, List.forall_mem_cons.mpr ⟨fun _ => Or.inl q_797, List.forall_mem_cons.mpr ⟨fun h => absurd h (by decide +kernel), List.forall_mem_cons.mpr ⟨fun h => absurd h (by decide +kernel), List.forall_mem_cons.mpr ⟨fun _ => Or.inl q_731, List.forall_mem_cons.mpr ⟨fun _ => Or.inl q_730, List.forall_mem_cons.mpr ⟨fun _ => Or.inl q_798, fun _ h => absurd h List.not_mem_nil⟩⟩⟩⟩⟩⟩⟩⟩⟩⟩⟩⟩⟩⟩⟩⟩⟩⟩⟩⟩⟩⟩⟩⟩⟩⟩⟩⟩⟩⟩⟩⟩⟩⟩⟩⟩⟩⟩⟩⟩⟩⟩⟩⟩⟩⟩⟩⟩⟩⟩⟩⟩⟩⟩⟩⟩⟩
set_option maxRecDepth 10000 in
theorem th_5_123 : ∀ w ∈ vx_atS RX5 123 "java/lang/IllegalArgumentException" ["java/lang/RuntimeException", "java/lang/Exception"], w ∈ zGood ∨ w ∈ zNw := fun w hw => let q := List.mem_filter.mp hw; th_5_123_a w q.1 q.2
set_option maxRecDepth 10000 in
theorem th_5_162_a : ∀ w ∈ Bundle.ownAtoms RX5 162 "java/lang/IndexOutOfBoundsException" ["java/lang/RuntimeException", "java/lang/Exception"], vx_no w = true → w ∈ zGood ∨ w ∈ zNw := List.forall_mem_cons.mpr ⟨fun _ => Or.inl q_9, List.forall_mem_cons.mpr ⟨fun _ => Or.inl q_732, List.forall_mem_cons.mpr ⟨fun _ => Or.inl q_741, List.forall_mem_cons.mpr ⟨fun _ => Or.inl q_746, List.forall_mem_cons.mpr ⟨fun _ => Or.inl q_749, List.forall_mem_cons.mpr ⟨fun _ => Or.inl q_751, List.forall_mem_cons.mpr ⟨fun _ => Or.inl q_733, List.forall_mem_cons.mpr ⟨fun _ => Or.inl q_734, List.forall_mem_cons.mpr ⟨fun _ => Or.inl q_29, List.forall_mem_cons.mpr ⟨fun _ => Or.inl q_30, List.forall_mem_cons.mpr ⟨fun _ => Or.inl q_735, List.forall_mem_cons.mpr ⟨fun _ => Or.inl q_740, List.forall_mem_cons.mpr ⟨fun _ => Or.inl q_747, List.forall_mem_cons.mpr ⟨fun _ => Or.inl q_767, List.forall_mem_cons.mpr ⟨fun _ => Or.inl q_722, List.forall_mem_cons.mpr ⟨fun _ => Or.inl q_768, List.forall_mem_cons.mpr ⟨fun _ => Or.inl q_724, List.forall_mem_cons.mpr ⟨fun _ => Or.inl q_769, List.forall_mem_cons.mpr ⟨fun _ => Or.inl q_726, List.forall_mem_cons.mpr ⟨fun _ => Or.inl q_736, List.forall_mem_cons.mpr ⟨fun h => absurd h (by decide +kernel), List.forall_mem_cons.mpr ⟨fun _ => Or.inl q_738, List.forall_mem_cons.mpr ⟨fun h => absurd h (by decide +kernel), List.forall_mem_cons.mpr ⟨fun _ => Or.inl q_728, List.forall_mem_cons.mpr ⟨fun _ => Or.inl q_763, List.forall_mem_cons.mpr ⟨fun _ => Or.inl q_764, List.forall_mem_cons.mpr ⟨fun _ => Or.inl q_766, List.forall_mem_cons.mpr ⟨fun _ => Or.inl q_728, List.forall_mem_cons.mpr ⟨fun _ => Or.inl q_829, List.forall_mem_cons.mpr ⟨fun _ => Or.inl q_830, List.forall_mem_cons.mpr ⟨fun _ => Or.inl q_831, List.forall_mem_cons.mpr ⟨fun _ => Or.inl q_757, List.forall_mem_cons.mpr ⟨fun _ => Or.inr qn_714, List.forall_mem_cons.mpr ⟨fun _ => Or.inl q_757, List.forall_mem_cons.mpr ⟨fun _ => Or.inl q_758, List.forall_mem_cons.mpr ⟨fun _ => Or.inl q_759, List.forall_mem_cons.mpr ⟨fun _ => Or.inl q_760, List.forall_mem_cons.mpr ⟨fun _ => Or.inr qn_716, List.forall_mem_cons.mpr ⟨fun _ => Or.inl q_760, List.forall_mem_cons.mpr ⟨fun _ => Or.inl q_761, List.forall_mem_cons.mpr ⟨fun _ => Or.inl q_762, List.forall_mem_cons.mpr ⟨fun _ => Or.inl q_763, List.forall_mem_cons.mpr ⟨fun _ => Or.inr qn_718, List.forall_mem_cons.mpr ⟨fun _ => Or.inl q_828, List.forall_mem_cons.mpr ⟨fun _ => Or.inl q_819, List.forall_mem_cons.mpr ⟨fun _ => Or.inr qn_820, List.forall_mem_cons.mpr ⟨fun _ => Or.inl q_821, List.forall_mem_cons.mpr ⟨fun _ => Or.inl q_744, List.forall_mem_cons.mpr ⟨fun _ => Or.inl q_822, List.forall_mem_cons.mpr ⟨fun _ => Or.inl q_823, List.forall_mem_cons.mpr ⟨fun _ => Or.inl q_824, List.forall_mem_cons.mpr ⟨fun _ => Or.inl q_825, List.forall_mem_cons.mpr ⟨fun h => absurd h (by decide +kernel), List.forall_mem_cons.mpr ⟨fun h => absurd h (by decide +kernel), List.forall_mem_cons.mpr ⟨fun _ => Or.inl q_731, List.forall_mem_cons.mpr ⟨fun _ => Or.inl q_730, List.forall_mem_cons.mpr ⟨fun _ => Or.inl q_826, fun _ h => absurd h List.not_mem_nil⟩⟩⟩⟩⟩⟩⟩⟩⟩⟩⟩⟩⟩⟩⟩⟩⟩⟩⟩⟩⟩⟩⟩⟩⟩⟩⟩⟩⟩⟩⟩⟩⟩⟩⟩⟩⟩⟩⟩⟩⟩⟩⟩⟩⟩⟩⟩⟩⟩⟩⟩⟩⟩⟩⟩⟩⟩
set_option maxRecDepth 10000 in
theorem th_5_162 : ∀ w ∈ vx_atS RX5 162 "java/lang/IndexOutOfBoundsException" ["java/lang/RuntimeException", "java/lang/Exception"], w ∈ zGood ∨ w ∈ zNw := fun w hw => let q := List.mem_filter.mp hw; th_5_162_a w q.1 q.2
set_option maxRecDepth 10000 in
theorem th_5_70_g66 : ∀ w ∈ Cond.classLink RX5 66 "java/lang/IllegalStateException" :: Cond.initialized "java/lang/IllegalStateException" :: vx_atS RX5 70 "java/lang/IllegalStateException" ["java/lang/RuntimeException", "java/lang/Exception"], vx_ot w = true := by decide +kernel
set_option maxRecDepth 10000 in
theorem th_5_123_g119 : ∀ w ∈ Cond.classLink RX5 119 "java/lang/IllegalArgumentException" :: Cond.initialized "java/lang/IllegalArgumentException" :: vx_atS RX5 123 "java/lang/IllegalArgumentException" ["java/lang/RuntimeException", "java/lang/Exception"], vx_ot w = true := by decide +kernel
set_option maxRecDepth 10000 in
theorem th_5_162_g158 : ∀ w ∈ Cond.classLink RX5 158 "java/lang/IndexOutOfBoundsException" :: Cond.initialized "java/lang/IndexOutOfBoundsException" :: vx_atS RX5 162 "java/lang/IndexOutOfBoundsException" ["java/lang/RuntimeException", "java/lang/Exception"], vx_ot w = true := by decide +kernel
