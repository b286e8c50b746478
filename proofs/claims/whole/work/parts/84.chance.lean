def rz (x : Int32) : Nat → Int64 → Int64
  | 0, p => p
  | k + 1, p => rz x k (p * x.toInt64)
def cz (m : Nat) : Nat → Int64
  | 0 => 1
  | h + 1 => cz m h * (nI m - nI h).toInt64 / (nI h + 1).toInt64
def cc (x y : Int32) : Nat → Nat → Int64 → Int64
  | 0, _, p => p
  | r + 1, k, p => cc x y r (k + 1) ((p * (x - y + nI k).toInt64) / (nI k).toInt64)
theorem cc_cz : ∀ m, m < 13 → ∀ h, h < 13 → h ≤ m → cc (nI m) (nI h) h 1 1 = cz m h := by decide +kernel
theorem nIl0 {k : Nat} (h0 : 0 < k) (h : k < 1000) : decide (¬ (nI k).toInt64 = 0) = true := by
  rw [decide_eq_true_eq]
  intro q
  have := congrArg Int64.toInt q
  rw [z64, nIt (by omega), show (0 : Int64).toInt = 0 from by decide] at this
  omega
def SameL (f g : Option (Int64 × zM)) (C M : zM) : Prop := ∃ (r : Int64) (C' M' : zM) (vc dc : Nat), f = some (r, C') ∧ g = some (r, M') ∧ R2 vc dc C' M' ∧ FC C C' ∧ FM M M'
section CHA
variable {C M C' M' S : zM} {vc dc n k m h : Nat} {x y z : Int32}
theorem raised_v (hk : k < 1000) : ∀ (r i fu : Nat) (p : Int64), i + r = k → r < fu → fX7_raised_5 n fu S x (nI k) p (nI i) = some (rz x r p, S)
  | r, i, 0, p, _, h => absurd h (Nat.not_lt_zero _)
  | 0, i, fu + 1, p, hi, _ => by
    obtain rfl : i = k := hi
    rw [fX7_raised_5, if_pos (Int32.le_refl _)]
    rfl
  | r + 1, i, fu + 1, p, hi, hf => by
    rw [fX7_raised_5, if_neg (nI_ge (by omega) (by omega)), zbd_e, zbd_e, nI_1, raised_v hk r (i + 1) fu _ (by omega) (by omega)]
    rfl
theorem power_v (hk : k < 1000) : ∀ (r i fu : Nat) (p : Int64), i + r = k → r < fu → fX8_power__5 n fu S x (nI k) p (nI i) = some (rz x r p, S)
  | r, i, 0, p, _, h => absurd h (Nat.not_lt_zero _)
  | 0, i, fu + 1, p, hi, _ => by
    obtain rfl : i = k := hi
    rw [fX8_power__5, if_pos (Int32.le_refl _)]
    rfl
  | r + 1, i, fu + 1, p, hi, hf => by
    rw [fX8_power__5, if_neg (nI_ge (by omega) (by omega)), zbd_e, zbd_e, nI_1, power_v hk r (i + 1) fu _ (by omega) (by omega)]
    rfl
theorem c_raised (hk : k < 900) : fX7_raised n S x (nI k) = some (rz x k 1, S) := by
  rw [fX7_raised, zbd_e, zbd_e]
  exact raised_v (by omega) k 0 1000 1 (by omega) (by omega)
theorem m_power (hk : k < 900) : fX8_power_ n S x (nI k) = some (rz x k 1, S) := by
  rw [fX8_power_, zbd_e, zbd_e]
  exact power_v (by omega) k 0 1000 1 (by omega) (by omega)
theorem choices_v (hk : k < 900) : ∀ (r i fu : Nat) (p : Int64), i + r = k + 1 → 0 < i → r < fu → fX7_choices_5 n fu S x (nI k) p (nI i) = some (cc x (nI k) r i p, S)
  | r, i, 0, p, _, _, h => absurd h (Nat.not_lt_zero _)
  | 0, i, fu + 1, p, hi, _, _ => by
    rw [fX7_choices_5, if_pos (nI_lt (by omega) (by omega))]
    rfl
  | r + 1, i, fu + 1, p, hi, h0, hf => by
    rw [fX7_choices_5, if_neg (nI_nlt (by omega) (by omega)), zd_t (nIl0 h0 (by omega)), zbd_e, zbd_e, nI_1, choices_v hk r (i + 1) fu _ (by omega) (by omega) (by omega)]
    rfl
theorem c_choices (hm : m < 13) (hh : h ≤ m) : fX7_choices n S (nI m) (nI h) = some (cz m h, S) := by
  rw [fX7_choices, zbd_e, zbd_e]
  have := choices_v (n := n) (S := S) (x := nI m) (k := h) (by omega) h 1 1000 1 (by omega) (by omega) (by omega)
  rw [cc_cz m hm h (by omega) hh] at this
  exact this
theorem chance_loop (hm : m < 13) : ∀ (r h fu fu' : Nat) (acc : Int64), h + r = m + 1 → r < fu → r < fu' → ∃ s, fX7_chance_41 167 fu C (nI m) x y acc (nI h) = some (s, C) ∧ fX8_chance_54 167 fu' M (nI m) x y acc (cz m h) (nI h) = some (s, M)
  | r, i, 0, _, c, _, h, _ => absurd h (Nat.not_lt_zero _)
  | r, i, _ + 1, 0, c, _, _, h => absurd h (Nat.not_lt_zero _)
  | 0, h, fu + 1, fu' + 1, acc, hi, _, _ => by
    refine ⟨acc, ?_, ?_⟩
    · rw [fX7_chance_41, if_pos (nI_lt (by omega) (by omega))]
    · rw [fX8_chance_54, if_pos (nI_lt (by omega) (by omega))]
  | r + 1, h, fu + 1, fu' + 1, acc, hi, hf, hf' => by
    have n1 : ¬ nI m < nI h := nI_nlt (by omega) (by omega)
    have e98 : ∀ a b, fX8_chance_98 167 (fX8_chance_54 167 fu') M (nI m) x y (cz m h) (nI h) a b = fX8_chance_54 167 fu' M (nI m) x y (b + a) (cz m (h + 1)) (nI (h + 1)) := fun a b => by
      rw [fX8_chance_98, zbd_e, nI_1, zd_t (nIl0 (by omega) (by omega)), zbd_e, zbd_e, show cz m (h + 1) = cz m h * (nI m - nI h).toInt64 / (nI (h + 1)).toInt64 from by rw [← nI_1]; rfl]
    by_cases g : 10 * nI h ≤ y * nI m
    · obtain ⟨s, e1, e2⟩ := chance_loop hm r (h + 1) fu fu' (acc + cz m h * rz x h 1 * rz (10 - x) (m - h) 1) (by omega) (by omega) (by omega)
      refine ⟨s, ?_, ?_⟩
      · rw [fX7_chance_41, if_neg n1, fX7_isHalting, if_pos (by rw [Int32.mul_comm]; exact g), zca_some, if_pos rfl, c_choices hm (by omega), zca_some, c_raised (by omega), zca_some, pk_sub (by omega), c_raised (by omega), zca_some, zbd_e, fX7_chance_87, zbd_e, nI_1, e1]
      · rw [fX8_chance_54, if_neg n1, if_pos g, m_power (by omega), zca_some, pk_sub (by omega), m_power (by omega), zca_some, e98, e2]
    · obtain ⟨s, e1, e2⟩ := chance_loop hm r (h + 1) fu fu' acc (by omega) (by omega) (by omega)
      refine ⟨s, ?_, ?_⟩
      · rw [fX7_chance_41, if_neg n1, fX7_isHalting, if_neg (by rw [Int32.mul_comm]; exact g), zca_some, if_neg ne10, fX7_chance_87, zbd_e, nI_1, e1]
      · rw [fX8_chance_54, if_neg n1, if_neg g, e98, Int64.add_zero, e2]
theorem ok_chance (R : R2 vc dc C M) (x y z : Int32) : SameL (fX7_chance 167 C (nI 0) x y z) (fX8_chance 167 M (nI 143) x y z) C M := by
  have fin : ∀ {r : Int64}, fX7_chance 167 C (nI 0) x y z = some (r, C) → fX8_chance 167 M (nI 143) x y z = some (r, zup M 143 0 0) → SameL (fX7_chance 167 C (nI 0) x y z) (fX8_chance 167 M (nI 143) x y z) C M := fun {r} e1 e2 => ⟨r, C, _, vc, dc, e1, e2, R.thrown 0, FC.rf, FM.rf.up (by decide)⟩
  by_cases h1 : 1 ≤ x.toInt ∧ x.toInt ≤ 12
  · have g1 : ¬ x < 1 := by rw [ilt]; show ¬ x.toInt < 1; omega
    have g2 : ¬ 12 < x := by rw [ilt]; show ¬ 12 < x.toInt; omega
    have n1 : ∀ S, fX8_in 167 S x.toInt64 1 12 = some (1, S) := fun S => in_i (by rw [z64]; exact h1.1) (by rw [z64]; exact h1.2)
    by_cases h2 : zin y 11
    · have g3 : ¬ y < 0 := by rw [zlt0]; unfold zin at h2; omega
      have g4 : ¬ 10 < y := by rw [ilt]; exact Int.not_lt.mpr (Int.lt_add_one_iff.mp h2.2)
      have n2 : ∀ S, fX8_in 167 S y.toInt64 0 10 = some (1, S) := fun S => in_i (by rw [z64]; exact h2.1) (by rw [z64]; exact Int.lt_add_one_iff.mp h2.2)
      by_cases h3 : zin z 11
      · obtain ⟨g5, g6⟩ := zin_le (b := 10) (by decide) h3
        obtain ⟨m, hm, rfl⟩ := zin_ex (x := x) (k := 13) (by omega) ⟨by omega, by omega⟩
        obtain ⟨s, e1, e2⟩ := chance_loop (C := C) (M := zup M 143 0 0) (x := y) (y := z) (m := m) (by omega) (m + 1) 0 1000 1000 0 (by omega) (by omega) (by omega)
        refine fin (r := s) ?_ ?_
        · rw [fX7_chance, if_neg g1, if_neg g2, if_neg g3, if_neg g4, if_neg g5, if_pos g6, zbd_e, zbd_e]
          exact e1
        · rw [fX8_chance, zd_t zo_143, zbd_e, zp_n (by decide), n1, zca_some, if_neg ne10, n2, zca_some, if_neg ne10, in_i (by rw [z64]; exact h3.1) (by rw [z64]; exact Int.lt_add_one_iff.mp h3.2), zca_some, if_neg ne10, zbd_e, zbd_e, zbd_e]
          exact e2
      · refine fin (r := -1000001) ?_ ?_
        · rw [fX7_chance, if_neg g1, if_neg g2, if_neg g3, if_neg g4]
          by_cases w : z < 0
          · rw [if_pos w]
          · rw [if_neg w, if_neg (by rw [ile]; rw [zlt0] at w; unfold zin at h3; show ¬ z.toInt ≤ 10; omega)]
        · rw [fX8_chance, zd_t zo_143, zbd_e, zp_n (by decide), n1, zca_some, if_neg ne10, n2, zca_some, if_neg ne10, in_o (by rw [z64]; show z.toInt < 0 ∨ 10 < z.toInt; unfold zin at h3; omega), zca_some, if_pos rfl]
    · refine fin (r := -1000001) ?_ ?_
      · rw [fX7_chance, if_neg g1, if_neg g2]
        by_cases w : y < 0
        · rw [if_pos w]
        · rw [if_neg w, if_pos (by rw [ilt]; rw [zlt0] at w; unfold zin at h2; show 10 < y.toInt; omega)]
      · rw [fX8_chance, zd_t zo_143, zbd_e, zp_n (by decide), n1, zca_some, if_neg ne10, in_o (by rw [z64]; show y.toInt < 0 ∨ 10 < y.toInt; unfold zin at h2; omega), zca_some, if_pos rfl]
  · refine fin (r := -1000001) ?_ ?_
    · rw [fX7_chance]
      by_cases w : x < 1
      · rw [if_pos w]
      · rw [if_neg w, if_pos (by rw [ilt]; rw [ilt] at w; have w2 : ¬ x.toInt < 1 := w; show 12 < x.toInt; omega)]
    · rw [fX8_chance, zd_t zo_143, zbd_e, zp_n (by decide), in_o (by rw [z64]; show x.toInt < 1 ∨ 12 < x.toInt; omega), zca_some, if_pos rfl]
end CHA
