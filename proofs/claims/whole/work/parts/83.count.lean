section CNT
variable {C M C' M' : zM} {vc dc d v p o t i : Nat} {x : Int32}
theorem c_atl (P : PC C) (hd : d < 30) (hp : p = 1 ∨ p = 2) (hv : v < 10) (ht : t < 10) (c3 : C (53 + 3 * d) 3 = nI (53 + 3 * d + p)) (g0 : C (53 + 3 * d + p) 0 = nI (43 + v)) : fX2_isAtLeastAt 167 C (nI (53 + 3 * d)) (nI (43 + t)) = some (if nI v < nI t then 0 else 1, C) := by
  rw [fX2_isAtLeastAt, zd_t (zo_dev hd), zg_n (by omega), c3, zd_t (zo_slp hd hp), c_vn P (zo_slp hd hp) (by omega) hv g0, zca_some, zd_t (zo_ver ht), zg_n (by omega), P.vn ht]
  by_cases h : nI v < nI t
  · rw [if_pos h, if_pos h]
  · rw [if_neg h, if_neg h]
theorem alive2 (R : R2 vc dc C M) (hd : d < dc) : ∃ z : Int32, (z = 0 ∨ z = 1) ∧ fX2_isAlive 167 C (nI (53 + 3 * d)) = some (z, C) ∧ fX8_isAlive 167 M (nI 143) (nI d) = some (z, M) := by
  obtain ⟨P, Q, -, -, ⟨hvc, cv, mv, vs⟩, -, -, ⟨hdc, cd, md, d1, -⟩, -⟩ := id R
  obtain ⟨p, o, k, v, f, hp, ho, hk, hv, hf, a3, a4, a5, b5, a6, b6, a7, a1, b1, hh, a9, a10, a8, b8, s0, t0, s1, sp, sq⟩ := d1 d hd
  obtain ⟨bl, fl, -, -, -, vb1, vb2, -⟩ := vs v hv
  refine ⟨if C (53 + 3 * d + p) 1 = C (43 + v) 1 then (if nI v < C (53 + 3 * d) 8 then 0 else 1) else 0, ?_, c_alive P (zo_dev (by omega)) (by omega) (zo_slp (by omega) hp) (by omega) a3 (by omega) s0, ?_⟩
  · by_cases c1 : C (53 + 3 * d + p) 1 = C (43 + v) 1
    · rw [if_pos c1]
      by_cases c2 : nI v < C (53 + 3 * d) 8
      · rw [if_pos c2]; exact Or.inl rfl
      · rw [if_neg c2]; exact Or.inr rfl
    · rw [if_neg c1]; exact Or.inl rfl
  · rw [m_alive Q (by omega) ho b5 (by omega) t0, s1, vb1, vb2, a8, b8]
theorem ge30 {n k : Nat} (h : n ≤ k) (hk : k < 100) : nI n ≤ nI k := nI_le h (by omega)
theorem runs_loop (R : R2 vc dc C M) (ht : t < vc) (mt : M 143 26 = nI t) : ∀ (r i fu fu' : Nat) (c : Int32), i + r = dc → r < fu → r < fu' → ∃ s : Int32, fX7_devicesAtLeastAt_4 167 fu C (nI 0) (nI (43 + t)) c (nI i) = some (s, C) ∧ fX8_runs_39 167 fu' M (nI 143) c (nI i) = some (s, M)
  | r, i, 0, _, c, _, h, _ => absurd h (Nat.not_lt_zero _)
  | r, i, _ + 1, 0, c, _, _, h => absurd h (Nat.not_lt_zero _)
  | 0, i, fu + 1, fu' + 1, c, hi, _, _ => by
    obtain ⟨P, Q, -, -, ⟨hvc, cv, mv, vs⟩, -, -, ⟨hdc, cd, md, d1, -⟩, -⟩ := id R
    obtain rfl : i = dc := hi
    refine ⟨c, ?_, ?_⟩
    · rw [fX7_devicesAtLeastAt_4, zd_t zo_0, zg_n (by decide), cd, if_pos (Int32.le_refl _)]
    · rw [fX8_runs_39, zd_t zo_143, zg_n (by decide), md, if_pos (Int32.le_refl _)]
  | r + 1, i, fu + 1, fu' + 1, c, hi, hf, hf' => by
    obtain ⟨P, Q, -, -, ⟨hvc, cv, mv, vs⟩, -, -, ⟨hdc, cd, md, d1, -⟩, -⟩ := id R
    obtain ⟨p, o, k, v, f, hp, ho, hk, hv, hf2, a3, a4, a5, b5, a6, b6, a7, a1, b1, hh, a9, a10, a8, b8, s0, t0, s1, sp, sq⟩ := d1 i (by omega)
    have eC : fX7_devicesAtLeastAt_4 167 (fu + 1) C (nI 0) (nI (43 + t)) c (nI i) = fX7_devicesAtLeastAt_4 167 fu C (nI 0) (nI (43 + t)) (if nI v < nI t then c else c + 1) (nI (i + 1)) := by
      rw [fX7_devicesAtLeastAt_4, zd_t zo_0, zg_n (by decide), cd, if_neg (nI_ge (by omega) (by omega)), zd_t (c_za18 P (by omega)), c_devp P (by omega), zd_t (zo_dev (by omega)), c_atl P (by omega) hp (by omega) (by omega) a3 s0, zca_some]
      by_cases h : nI v < nI t
      · rw [if_pos h, if_pos h, if_pos rfl, fX7_devicesAtLeastAt_28, zbd_e, nI_1]
      · rw [if_neg h, if_neg h, if_neg ne10, zbd_e, fX7_devicesAtLeastAt_28, zbd_e, nI_1]
    have eM : fX8_runs_39 167 (fu' + 1) M (nI 143) c (nI i) = fX8_runs_39 167 fu' M (nI 143) (if nI v < nI t then c else c + 1) (nI (i + 1)) := by
      rw [fX8_runs_39, zd_t zo_143, zg_n (by decide), md, if_neg (nI_ge (by omega) (by omega)), m_on Q (by omega) ho b5 t0, zca_some, zg_n (by decide), mt]
      by_cases h : nI v < nI t
      · rw [if_pos h, if_pos h, fX8_runs_65, zbd_e, zbd_e, nI_1, Int32.add_zero]
      · rw [if_neg h, if_neg h, fX8_runs_65, zbd_e, zbd_e, nI_1]
    rw [eC, eM]
    exact runs_loop R ht mt r (i + 1) fu fu' _ (by omega) (by omega) (by omega)
theorem ok_runs (R : R2 vc dc C M) (x : Int32) : Same (fX7_runs 167 C (nI 0) x) (fX8_runs 167 M (nI 143) x) C M := by
  have P := R.1
  have RR := R.thrown 0
  have rc := RR.2.2.2.2.2.2.2.2.1
  have hvc : vc ≤ 10 := R.2.2.2.2.1.1
  by_cases h1 : zin x 6
  · obtain ⟨g1, g2⟩ := zin_le (b := 5) (by decide) h1
    obtain ⟨n, hn, rfl⟩ := zin_ex (by omega) h1
    have n1 := in_i (n := 167) (S := zup M 143 0 0) (a := (nI n).toInt64) (lo := 0) (hi := 5) (by rw [z64]; exact h1.1) (by rw [z64]; exact Int.lt_add_one_iff.mp h1.2)
    rcases rc with ⟨c0, m0⟩ | ⟨m0, t, w, k, st, ht, hw1, hw6, hk, hst, c0, mt, c2, m27, c3, c5, m30, c6, c7, c8, m33, c9, -⟩
    · refine bad_same R (r := -1000002) ?_ ?_
      · rw [fX7_runs, if_neg g1, if_pos g2, zd_t zo_0, show zg C (nI 0) 7 = nI 22 from P.c07, zd_t zo_22, zg_n (by omega), c0, if_pos (by decide)]
      · rw [fX8_runs, zd_t zo_143, zbd_e, zp_n (by decide), n1, zca_some, if_neg ne10, zg_n (by decide), m0, if_pos rfl]
    · have eC : fX7_runs 167 C (nI 0) (nI n) = if nI n = 0 then some (C 22 5, C) else if nI n = 1 then some (C 22 6, C) else if nI n = 2 then some (C 22 7, C) else if nI n = 3 then some (C 22 8, C) else if nI n = 4 then some (C 22 9, C) else zca (fX7_devicesAtLeastAt 167 C (nI 0) (nI (43 + t))) fun r11 S12 => some (r11, S12) := by
        rw [fX7_runs, if_neg g1, if_pos g2, zd_t zo_0, show zg C (nI 0) 7 = nI 22 from P.c07, zd_t zo_22, show zg C (nI 22) 0 = nI (43 + t) from (zg_n (by omega)).trans c0, if_neg (nI_pos (by omega)), zg_n (by omega), zg_n (by omega), zg_n (by omega), zg_n (by omega), zg_n (by omega)]
      have eM : fX8_runs 167 M (nI 143) (nI n) = if nI n = 5 then fX8_runs_39 167 1000 (zup M 143 0 0) (nI 143) 0 0 else if nI n = 0 then some (zup M 143 0 0 143 30, zup M 143 0 0) else if nI n = 1 then some (zup M 143 0 0 143 31, zup M 143 0 0) else if nI n = 2 then some (zup M 143 0 0 143 32, zup M 143 0 0) else if nI n = 3 then some (zup M 143 0 0 143 33, zup M 143 0 0) else some (zup M 143 0 0 143 34, zup M 143 0 0) := by
        rw [fX8_runs, zd_t zo_143, zbd_e, zp_n (by decide), n1, zca_some, if_neg ne10, show zg (zup M 143 0 0) (nI 143) 25 = 1 from (zg_n (by decide)).trans m0, if_neg ne10, zbd_e, zbd_e, zg_n (by decide), zg_n (by decide), zg_n (by decide), zg_n (by decide), zg_n (by decide)]
      rcases (show n = 0 ∨ n = 1 ∨ n = 2 ∨ n = 3 ∨ n = 4 ∨ n = 5 by omega) with rfl | rfl | rfl | rfl | rfl | rfl
      · refine bad_same R (r := nI k) ?_ ?_
        · rw [eC, if_pos (show nI 0 = 0 from rfl), c5]
        · rw [eM, if_neg (by decide), if_pos (show nI 0 = 0 from rfl), m30]
      · refine bad_same R (r := C 22 6) ?_ ?_
        · rw [eC, if_neg (by decide), if_pos (show nI 1 = 1 from rfl)]
        · rw [eM, if_neg (by decide), if_neg (by decide), if_pos (show nI 1 = 1 from rfl), c6]
      · refine bad_same R (r := C 22 7) ?_ ?_
        · rw [eC, if_neg (by decide), if_neg (by decide), if_pos (show nI 2 = 2 from rfl)]
        · rw [eM, if_neg (by decide), if_neg (by decide), if_neg (by decide), if_pos (show nI 2 = 2 from rfl), c7]
      · refine bad_same R (r := nI st) ?_ ?_
        · rw [eC, if_neg (by decide), if_neg (by decide), if_neg (by decide), if_pos (show nI 3 = 3 from rfl), c8]
        · rw [eM, if_neg (by decide), if_neg (by decide), if_neg (by decide), if_neg (by decide), if_pos (show nI 3 = 3 from rfl), m33]
      · refine bad_same R (r := C 22 9) ?_ ?_
        · rw [eC, if_neg (by decide), if_neg (by decide), if_neg (by decide), if_neg (by decide), if_pos (show nI 4 = 4 from rfl)]
        · rw [eM, if_neg (by decide), if_neg (by decide), if_neg (by decide), if_neg (by decide), if_neg (by decide), c9]
      · obtain ⟨s, e1, e2⟩ := runs_loop RR ht mt dc 0 1000 1000 0 (by omega) (by have := RR.2.2.2.2.2.2.2.1.1; omega) (by have := RR.2.2.2.2.2.2.2.1.1; omega)
        refine bad_same R (r := s) ?_ ?_
        · rw [eC, if_neg (by decide), if_neg (by decide), if_neg (by decide), if_neg (by decide), if_neg (by decide), fX7_devicesAtLeastAt, zbd_e, zbd_e]
          have e1' : fX7_devicesAtLeastAt_4 167 1000 C (nI 0) (nI (43 + t)) 0 0 = some (s, C) := e1
          rw [e1', zca_some]
        · rw [eM, if_pos (show nI 5 = 5 from rfl)]
          exact e2
  · refine bad_same R (r := -1000001) ?_ ?_
    · rw [fX7_runs]
      by_cases w : x < 0
      · rw [if_pos w]
      · rw [if_neg w, if_neg (by rw [ile]; rw [zlt0] at w; unfold zin at h1; show ¬ x.toInt ≤ 5; omega)]
    · rw [fX8_runs, zd_t zo_143, zbd_e, zp_n (by decide), in_o (by rw [z64]; show x.toInt < 0 ∨ 5 < x.toInt; unfold zin at h1; omega), zca_some, if_pos rfl]
theorem sheets_loop (P : PC C) (Q : PM M) (hS : RSh C M) : ∀ (r i fu fu' : Nat) (c : Int32), i + r = 8 → r < fu → r < fu' → ∃ s : Int32, fX7_sheetsThere_4 167 fu C (nI 0) c (nI i) = some (s, C) ∧ fX8_count_54 167 fu' M (nI 143) c (nI i) = some (s, M)
  | r, i, 0, _, c, _, h, _ => absurd h (Nat.not_lt_zero _)
  | r, i, _ + 1, 0, c, _, _, h => absurd h (Nat.not_lt_zero _)
  | 0, i, fu + 1, fu' + 1, c, hi, _, _ => by
    obtain rfl : i = 8 := hi
    refine ⟨c, ?_, ?_⟩
    · rw [fX7_sheetsThere_4, if_pos (by exact Int32.le_refl _)]
    · rw [fX8_count_54, if_pos (by exact Int32.le_refl _)]
  | r + 1, i, fu + 1, fu' + 1, c, hi, hf, hf' => by
    have h8 : ¬ (8 : Int32) ≤ nI i := nI_ge (b := 8) (by omega) (by decide)
    have eC : ∀ x, C (27 + 2 * i) 1 = x → fX7_sheetsThere_4 167 (fu + 1) C (nI 0) c (nI i) = fX7_sheetsThere_4 167 fu C (nI 0) (if x = 0 then c + 1 else c) (nI (i + 1)) := fun x hx => by
      rw [fX7_sheetsThere_4, if_neg h8, zd_t zo_0, show zg C (nI 0) 0 = nI 1 from P.c00, zd_t (za_1 (by omega)), show ze C (nI 1) (nI i) = nI (27 + 2 * i) from (ze_n (by decide) (by omega)).trans (P.s (by omega)), zd_t (zo_sheet (by omega)), zg_n (by omega), hx]
      by_cases h : x = 0
      · rw [if_pos h, if_pos h, zbd_e, fX7_sheetsThere_25, zbd_e, nI_1]
      · rw [if_neg h, if_neg h, fX7_sheetsThere_25, zbd_e, nI_1]
    have eM : ∀ y, M 144 i = y → fX8_count_54 167 (fu' + 1) M (nI 143) c (nI i) = fX8_count_54 167 fu' M (nI 143) (if y < 0 then c else c + 1) (nI (i + 1)) := fun y hy => by
      rw [fX8_count_54, if_neg h8, zd_t zo_143, show zg M (nI 143) 2 = nI 144 from Q.m2, zd_t (za_144 (by omega)), show ze M (nI 144) (nI i) = y from (ze_n (by decide) (by omega)).trans hy]
      by_cases h : y < 0
      · rw [if_pos h, if_pos h, fX8_count_75, zbd_e, zbd_e, nI_1, Int32.add_zero]
      · rw [if_neg h, if_neg h, fX8_count_75, zbd_e, zbd_e, nI_1]
    rcases (hS i (by omega)).1 with ⟨c1, m1⟩ | ⟨c1, l, hl, -, m1⟩
    · rw [eC _ c1, eM _ m1, if_neg ne10, if_pos (by decide)]
      exact sheets_loop P Q hS r (i + 1) fu fu' _ (by omega) (by omega) (by omega)
    · rw [eC _ c1, eM _ m1, if_pos rfl, if_neg (nI_pos (by omega))]
      exact sheets_loop P Q hS r (i + 1) fu fu' _ (by omega) (by omega) (by omega)
theorem add_sh (a b c : Int32) : a + b + c = a + (b + c) := Int32.add_assoc a b c
theorem dev_loop (R : R2 vc dc C M) : ∀ (r i fu : Nat), i + r = dc → r < fu → ∃ r1 r2 r3 ra : Int32, (∀ a, fX7_devicesTold_4 167 fu C (nI 0) 1 a (nI i) = some (a + r1, C)) ∧ (∀ a, fX7_devicesTold_4 167 fu C (nI 0) 2 a (nI i) = some (a + r2, C)) ∧ (∀ a, fX7_devicesTold_4 167 fu C (nI 0) 3 a (nI i) = some (a + r3, C)) ∧ (∀ a, fX7_devicesAlive_4 167 fu C (nI 0) a (nI i) = some (a + ra, C)) ∧ (∀ a, fX8_count_97 167 fu M (nI 143) 3 a (nI i) = some (a + ra, M)) ∧ (∀ a, fX8_count_97 167 fu M (nI 143) 4 a (nI i) = some (a + (r1 + r2), M)) ∧ ∀ a, fX8_count_97 167 fu M (nI 143) 5 a (nI i) = some (a + r3, M)
  | r, i, 0, _, h => absurd h (Nat.not_lt_zero _)
  | 0, i, fu + 1, hi, _ => by
    obtain ⟨P, Q, -, -, ⟨hvc, cv, mv, vs⟩, -, -, ⟨hdc, cd, md, d1, -⟩, -⟩ := id R
    obtain rfl : i = dc := hi
    have h1 : ∀ x a, fX7_devicesTold_4 167 (fu + 1) C (nI 0) x a (nI i) = some (a + 0, C) := fun x a => by rw [fX7_devicesTold_4, zd_t zo_0, zg_n (by decide), cd, if_pos (Int32.le_refl _), Int32.add_zero]
    have h2 : ∀ x a, fX8_count_97 167 (fu + 1) M (nI 143) x a (nI i) = some (a + 0, M) := fun x a => by rw [fX8_count_97, zd_t zo_143, zg_n (by decide), md, if_pos (Int32.le_refl _), Int32.add_zero]
    refine ⟨0, 0, 0, 0, h1 1, h1 2, h1 3, fun a => ?_, h2 3, h2 4, h2 5⟩
    rw [fX7_devicesAlive_4, zd_t zo_0, zg_n (by decide), cd, if_pos (Int32.le_refl _), Int32.add_zero]
  | r + 1, i, fu + 1, hi, hf => by
    obtain ⟨P, Q, -, -, ⟨hvc, cv, mv, vs⟩, -, -, ⟨hdc, cd, md, d1, -⟩, -⟩ := id R
    obtain ⟨z, hz, k1, k2⟩ := kinds P Q (by omega) hvc cv mv (d1 i (by omega))
    obtain ⟨l, hl, l1, l2⟩ := alive2 R (d := i) (by omega)
    obtain ⟨r1, r2, r3, ra, t1, t2, t3, t4, t5, t6, t7⟩ := dev_loop R r (i + 1) fu (by omega) (by omega)
    have hT : ∀ x a, fX7_devicesTold_4 167 (fu + 1) C (nI 0) x a (nI i) = fX7_devicesTold_4 167 fu C (nI 0) x (a + if z = x then 1 else 0) (nI (i + 1)) := fun x a => by
      rw [fX7_devicesTold_4, zd_t zo_0, zg_n (by decide), cd, if_neg (nI_ge (by omega) (by omega)), zd_t (c_za18 P (by omega)), c_devp P (by omega), k1, zca_some]
      by_cases h : z = x
      · rw [if_pos h, if_pos h, zbd_e, fX7_devicesTold_29, zbd_e, nI_1]
      · rw [if_neg h, if_neg h, fX7_devicesTold_29, zbd_e, nI_1, Int32.add_zero]
    have hA : ∀ a, fX7_devicesAlive_4 167 (fu + 1) C (nI 0) a (nI i) = fX7_devicesAlive_4 167 fu C (nI 0) (a + l) (nI (i + 1)) := fun a => by
      rw [fX7_devicesAlive_4, zd_t zo_0, zg_n (by decide), cd, if_neg (nI_ge (by omega) (by omega)), zd_t (c_za18 P (by omega)), c_devp P (by omega), zd_t (zo_dev (by omega)), l1, zca_some]
      rcases hl with rfl | rfl
      · rw [if_pos rfl, fX7_devicesAlive_27, zbd_e, nI_1, Int32.add_zero]
      · rw [if_neg ne10, zbd_e, fX7_devicesAlive_27, zbd_e, nI_1]
    have hM : ∀ x a, fX8_count_97 167 (fu + 1) M (nI 143) x a (nI i) = if x = 3 then fX8_count_97 167 fu M (nI 143) x (a + l) (nI (i + 1)) else if x = 4 then fX8_count_97 167 fu M (nI 143) x (a + if z = 1 ∨ z = 2 then 1 else 0) (nI (i + 1)) else fX8_count_97 167 fu M (nI 143) x (a + if z = 3 then 1 else 0) (nI (i + 1)) := fun x a => by
      rw [fX8_count_97, zd_t zo_143, zg_n (by decide), md, if_neg (nI_ge (by omega) (by omega)), k2, zca_some, zbd_e]
      by_cases h3 : x = 3
      · rw [if_pos h3, if_pos h3, l2, zca_some]
        rcases hl with rfl | rfl
        · rw [if_pos rfl, fX8_count_170, zbd_e, zbd_e, nI_1]
        · rw [if_neg ne10, fX8_count_170, zbd_e, zbd_e, nI_1]
      · rw [if_neg h3, if_neg h3]
        by_cases h4 : x = 4
        · rw [if_pos h4, if_pos h4]
          by_cases g1 : z = 1
          · rw [if_pos g1, if_pos (Or.inl g1), fX8_count_151, fX8_count_170, zbd_e, zbd_e, nI_1]
          · rw [if_neg g1]
            by_cases g2 : z = 2
            · rw [if_pos g2, if_pos (Or.inr g2), fX8_count_151, fX8_count_170, zbd_e, zbd_e, nI_1]
            · rw [if_neg g2, if_neg (fun q => q.elim g1 g2), fX8_count_170, zbd_e, zbd_e, nI_1]
        · rw [if_neg h4, if_neg h4]
          by_cases g3 : z = 3
          · rw [if_pos g3, if_pos g3, fX8_count_170, zbd_e, zbd_e, nI_1]
          · rw [if_neg g3, if_neg g3, fX8_count_170, zbd_e, zbd_e, nI_1]
    refine ⟨(if z = 1 then 1 else 0) + r1, (if z = 2 then 1 else 0) + r2, (if z = 3 then 1 else 0) + r3, l + ra, fun a => by rw [hT, t1, add_sh], fun a => by rw [hT, t2, add_sh], fun a => by rw [hT, t3, add_sh], fun a => by rw [hA, t4, add_sh], fun a => by rw [hM, if_pos rfl, t5, add_sh], fun a => ?_, fun a => by rw [hM, if_neg (by decide), if_neg (by decide), t7, add_sh]⟩
    rw [hM, if_neg (by decide), if_pos rfl, t6, add_sh]
    have e : ∀ p q : Int32, (if z = 1 ∨ z = 2 then (1 : Int32) else 0) + (p + q) = (if z = 1 then 1 else 0) + p + ((if z = 2 then 1 else 0) + q) := fun p q => by
      rcases hz with rfl | rfl | rfl | rfl
      · rw [if_neg (by decide), if_neg (by decide), if_neg (by decide), Int32.zero_add, Int32.zero_add, Int32.zero_add]
      · rw [if_pos (Or.inl rfl), if_pos rfl, if_neg (by decide), Int32.zero_add, Int32.add_assoc]
      · rw [if_pos (Or.inr rfl), if_neg (by decide), if_pos rfl, Int32.zero_add, ← Int32.add_assoc, ← Int32.add_assoc, Int32.add_comm 1 p]
      · rw [if_neg (by decide), if_neg (by decide), if_neg (by decide), Int32.zero_add, Int32.zero_add, Int32.zero_add]
    rw [e]
theorem step_loop (Q : PM M) (hb : ∀ j, j < 100 → ∃ q, q ≤ 1000 ∧ M 150 j = nI q) : ∀ (r i fu : Nat), i + r = 100 → r < fu → fX8_count_182 167 fu M (nI 143) (nI (zcnt (M 150) i)) (nI i) = some (nI (zcnt (M 150) 100), M)
  | r, i, 0, _, h => absurd h (Nat.not_lt_zero _)
  | 0, i, fu + 1, hi, _ => by
    obtain rfl : i = 100 := hi
    rw [fX8_count_182, if_pos (by exact Int32.le_refl _)]
  | r + 1, i, fu + 1, hi, hf => by
    obtain ⟨q, hq, mq⟩ := hb i (by omega)
    have ih := step_loop Q hb r (i + 1) fu (by omega) (by omega)
    have e : zcnt (M 150) (i + 1) = zcnt (M 150) i + (if M 150 i = 0 then 0 else 1) := rfl
    rw [fX8_count_182, if_neg (show ¬ (100 : Int32) ≤ nI i from nI_ge (b := 100) (by omega) (by decide)), zd_t zo_143, show zg M (nI 143) 9 = nI 150 from Q.m9, zd_t (za_150 (by omega)), ze_n (by decide) (by omega), mq]
    rw [e, mq] at ih
    by_cases h : q = 0
    · subst h
      rw [if_pos (show nI 0 = 0 from rfl), Nat.add_zero] at ih
      rw [if_pos (by decide), fX8_count_203, zbd_e, zbd_e, nI_1, Int32.add_zero]
      exact ih
    · rw [if_neg (nI_ne0 (by omega) (by omega))] at ih
      rw [if_neg (nI_nle (by omega) (by omega)), fX8_count_203, zbd_e, zbd_e, nI_1, nI_1]
      exact ih
theorem ok_count (R : R2 vc dc C M) (x : Int32) : Same (fX7_count 167 C (nI 0) x) (fX8_count 167 M (nI 143) x) C M := by
  have P := R.1
  have RR := R.thrown 0
  obtain ⟨-, Q, -, hS, ⟨hvc, cv, mv, vs⟩, ⟨hb, hk⟩, -, ⟨hdc, cd, md, d1, -⟩, -⟩ := id RR
  obtain ⟨r1, r2, r3, ra, t1, t2, t3, t4, t5, t6, t7⟩ := dev_loop RR dc 0 1000 (by omega) (by omega)
  have eM : fX8_count 167 M (nI 143) x = if x = 0 then fX8_count_54 167 1000 (zup M 143 0 0) (nI 143) 0 0 else if x = 1 then some (nI vc, zup M 143 0 0) else if x = 2 then some (nI dc, zup M 143 0 0) else if x = 3 then fX8_count_97 167 1000 (zup M 143 0 0) (nI 143) x 0 0 else if x = 4 then fX8_count_97 167 1000 (zup M 143 0 0) (nI 143) x 0 0 else if x = 5 then fX8_count_97 167 1000 (zup M 143 0 0) (nI 143) x 0 0 else if x = 6 then fX8_count_182 167 1000 (zup M 143 0 0) (nI 143) 0 0 else some (-1000001, zup M 143 0 0) := by
    rw [fX8_count, zd_t zo_143, zbd_e, zp_n (by decide), zbd_e, zbd_e, show zg (zup M 143 0 0) (nI 143) 5 = nI vc from (zg_n (by decide)).trans mv, show zg (zup M 143 0 0) (nI 143) 13 = nI dc from (zg_n (by decide)).trans md]
    rfl
  by_cases h0 : x = 0
  · obtain ⟨s, e1, e2⟩ := sheets_loop P Q hS 8 0 1000 1000 0 (by omega) (by omega) (by omega)
    refine bad_same R (r := s) ?_ ?_
    · have e1' : fX7_sheetsThere_4 167 1000 C (nI 0) 0 0 = some (s, C) := e1
      rw [fX7_count, if_pos h0, zd_t zo_0, fX7_sheetsThere, zbd_e, zbd_e, e1', zca_some]
    · rw [eM, if_pos h0]
      exact e2
  by_cases h1 : x = 1
  · refine bad_same R (r := nI vc) ?_ ?_
    · rw [fX7_count, if_neg h0, if_pos h1, zd_t zo_0, zg_n (by decide), cv]
    · rw [eM, if_neg h0, if_pos h1]
  by_cases h2 : x = 2
  · refine bad_same R (r := nI dc) ?_ ?_
    · rw [fX7_count, if_neg h0, if_neg h1, if_pos h2, zd_t zo_0, zg_n (by decide), cd]
    · rw [eM, if_neg h0, if_neg h1, if_pos h2]
  by_cases h3 : x = 3
  · refine bad_same R (r := 0 + ra) ?_ ?_
    · have e1' : fX7_devicesAlive_4 167 1000 C (nI 0) 0 0 = some (0 + ra, C) := t4 0
      rw [fX7_count, if_neg h0, if_neg h1, if_neg h2, if_pos h3, zd_t zo_0, fX7_devicesAlive, zbd_e, zbd_e, e1', zca_some]
    · rw [eM, if_neg h0, if_neg h1, if_neg h2, if_pos h3, h3]
      exact t5 0
  by_cases h4 : x = 4
  · refine bad_same R (r := 0 + (r1 + r2)) ?_ ?_
    · have e1' : fX7_devicesTold_4 167 1000 C (nI 0) 1 0 0 = some (0 + r1, C) := t1 0
      have e2' : fX7_devicesTold_4 167 1000 C (nI 0) 2 0 0 = some (0 + r2, C) := t2 0
      rw [fX7_count, if_neg h0, if_neg h1, if_neg h2, if_neg h3, if_pos h4, zd_t zo_0, fX7_devicesTold, zbd_e, zbd_e, e1', zca_some, fX7_devicesTold, zbd_e, zbd_e, e2', zca_some, Int32.zero_add, Int32.zero_add, Int32.zero_add]
    · rw [eM, if_neg h0, if_neg h1, if_neg h2, if_neg h3, if_pos h4, h4]
      exact t6 0
  by_cases h5 : x = 5
  · refine bad_same R (r := 0 + r3) ?_ ?_
    · have e1' : fX7_devicesTold_4 167 1000 C (nI 0) 3 0 0 = some (0 + r3, C) := t3 0
      rw [fX7_count, if_neg h0, if_neg h1, if_neg h2, if_neg h3, if_neg h4, if_pos h5, zd_t zo_0, fX7_devicesTold, zbd_e, zbd_e, e1', zca_some]
    · rw [eM, if_neg h0, if_neg h1, if_neg h2, if_neg h3, if_neg h4, if_pos h5, h5]
      exact t7 0
  by_cases h6 : x = 6
  · refine bad_same R (r := nI (zcnt (zup M 143 0 0 150) 100)) ?_ ?_
    · rw [fX7_count, if_neg h0, if_neg h1, if_neg h2, if_neg h3, if_neg h4, if_neg h5, if_pos h6, zd_t zo_0, show zg C (nI 0) 3 = nI 3 from P.c03, zd_t zo_3, zg_n (by decide), hk]
    · rw [eM, if_neg h0, if_neg h1, if_neg h2, if_neg h3, if_neg h4, if_neg h5, if_pos h6]
      exact step_loop Q (fun j hj => by
        obtain ⟨q, q1, -, q3⟩ := hb (j / 10) (by omega) (j % 10) (by omega)
        exact ⟨q, q1, by rw [show j = 10 * (j / 10) + j % 10 by omega]; exact q3⟩) 100 0 1000 (by omega) (by omega)
  · refine bad_same R (r := -1000001) ?_ ?_
    · rw [fX7_count, if_neg h0, if_neg h1, if_neg h2, if_neg h3, if_neg h4, if_neg h5, if_neg h6]
    · rw [eM, if_neg h0, if_neg h1, if_neg h2, if_neg h3, if_neg h4, if_neg h5, if_neg h6]
end CNT
