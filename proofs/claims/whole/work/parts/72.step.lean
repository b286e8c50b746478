theorem zcnt_le (f : Nat → Int32) : ∀ q, zcnt f q ≤ q
  | 0 => Nat.le_refl _
  | q + 1 => by
    have := zcnt_le f q
    show zcnt f q + (if f q = 0 then 0 else 1) ≤ q + 1
    by_cases h : f q = 0
    · rw [if_pos h]; omega
    · rw [if_neg h]; omega
theorem zcnt_up (f : Nat → Int32) (t : Nat) (x : Int32) (hx : ¬ x = 0) : ∀ q, zcnt (fun j => if j = t then x else f j) q = zcnt f q + (if t < q ∧ f t = 0 then 1 else 0)
  | 0 => by
    rw [if_neg (by omega)]
    rfl
  | q + 1 => by
    show zcnt (fun j => if j = t then x else f j) q + (if (if q = t then x else f q) = 0 then 0 else 1) = zcnt f q + (if f q = 0 then 0 else 1) + _
    rw [zcnt_up f t x hx q]
    by_cases e : q = t
    · subst e
      rw [if_pos (show q = q from rfl), if_neg hx, if_neg (show ¬ (q < q ∧ f q = 0) by omega)]
      by_cases h : f q = 0
      · rw [if_pos h, if_pos ⟨by omega, h⟩]
      · rw [if_neg h, if_neg (fun w => h w.2)]
    · rw [if_neg e]
      by_cases h : t < q ∧ f t = 0
      · rw [if_pos h, if_pos (show t < q + 1 ∧ f t = 0 from ⟨by omega, h.2⟩)]
        omega
      · rw [if_neg h, if_neg (show ¬ (t < q + 1 ∧ f t = 0) from fun w => h ⟨by omega, w.2⟩)]
        omega
theorem ix10 (a b : Nat) : (10 : Int32) * nI a + nI b = nI (10 * a + b) := by
  rw [show (10 : Int32) = nI 10 from rfl, pk_mul, nI_add]
section STE
variable {C M C0 M0 M' : zM} {vc dc d : Nat} {x y : Int32}
theorem c_rise_i (cv : C 0 2 = nI vc) (hvc : vc ≤ 10) (h : zin x vc ∧ zin y vc ∧ x.toInt < y.toInt) : fX7_isRise 167 C (nI 0) x y = some (1, C) := by
  rw [fX7_isRise, zd_t zo_0, cVe_i cv hvc h.1, zca_some, if_neg ne10, cVe_i cv hvc h.2.1, zca_some, if_neg ne10, if_neg (by rw [ile]; omega)]
theorem c_rise_o (cv : C 0 2 = nI vc) (hvc : vc ≤ 10) (h : ¬ (zin x vc ∧ zin y vc ∧ x.toInt < y.toInt)) : fX7_isRise 167 C (nI 0) x y = some (0, C) := by
  rw [fX7_isRise, zd_t zo_0]
  by_cases h1 : zin x vc
  · rw [cVe_i cv hvc h1, zca_some, if_neg ne10]
    by_cases h2 : zin y vc
    · rw [cVe_i cv hvc h2, zca_some, if_neg ne10, if_pos (by rw [ile]; exact Int.not_lt.mp fun w => h ⟨h1, h2, w⟩)]
    · rw [cVe_o cv hvc h2, zca_some, if_pos rfl]
  · rw [cVe_o cv hvc h1, zca_some, if_pos rfl]
theorem m_rise_i (mv : M 143 5 = nI vc) (hvc : vc ≤ 10) (h : zin x vc ∧ zin y vc ∧ x.toInt < y.toInt) : fX8_areSteps 167 M (nI 143) x y = some (1, M) := by
  rw [fX8_areSteps, zd_t zo_143, mVe_i mv hvc h.1, zca_some, if_neg ne10, mVe_i mv hvc h.2.1, zca_some, if_neg ne10, if_neg (by rw [ile]; omega)]
theorem m_rise_o (mv : M 143 5 = nI vc) (hvc : vc ≤ 10) (h : ¬ (zin x vc ∧ zin y vc ∧ x.toInt < y.toInt)) : fX8_areSteps 167 M (nI 143) x y = some (0, M) := by
  rw [fX8_areSteps, zd_t zo_143]
  by_cases h1 : zin x vc
  · rw [mVe_i mv hvc h1, zca_some, if_neg ne10]
    by_cases h2 : zin y vc
    · rw [mVe_i mv hvc h2, zca_some, if_neg ne10, if_pos (by rw [ile]; exact Int.not_lt.mp fun w => h ⟨h1, h2, w⟩)]
    · rw [mVe_o mv hvc h2, zca_some, if_pos rfl]
  · rw [mVe_o mv hvc h1, zca_some, if_pos rfl]
theorem rise_ex (hvc : vc ≤ 10) (h : zin x vc ∧ zin y vc ∧ x.toInt < y.toInt) : ∃ a b, a < b ∧ b < vc ∧ x = nI a ∧ y = nI b := by
  obtain ⟨a, ha, rfl⟩ := zin_ex (by omega) h.1
  obtain ⟨b, hb, rfl⟩ := zin_ex (by omega) h.2.1
  have := h.2.2
  rw [nIt (by omega), nIt (by omega)] at this
  exact ⟨a, b, by omega, hb, rfl, rfl⟩
theorem rstep_set (h : RStep C M) {C' M' : zM} {a b t : Nat} (ha : a < 10) (hb : b < 10) (ht : 0 < t) (ht2 : t ≤ 1000) (e1 : ∀ v u, v < 10 → u < 10 → ¬ (v = a ∧ u = b) → C' (5 + v) u = C (5 + v) u) (e2 : C' (5 + a) b = nI t) (e3 : M' 150 = fun j => if j = 10 * a + b then nI t else M 150 j) (e4 : C' 3 4 = if C (5 + a) b = 0 then C 3 4 + 1 else C 3 4) : RStep C' M' := by
  obtain ⟨h1, h2⟩ := h
  refine ⟨fun v hv u hu => ?_, ?_⟩
  · by_cases w : v = a ∧ u = b
    · obtain ⟨rfl, rfl⟩ := w
      refine ⟨t, ht2, e2, ?_⟩
      rw [e3]
      exact if_pos rfl
    · rw [e1 v u hv hu w, e3]
      obtain ⟨k, q1, q2, q3⟩ := h1 v hv u hu
      refine ⟨k, q1, q2, ?_⟩
      rw [← q3]
      exact if_neg (by omega)
  · rw [e4, e3, zcnt_up _ _ _ (nI_ne0 ht (by omega)), h2]
    obtain ⟨k, q1, q2, q3⟩ := h1 a ha b hb
    rw [q2, q3]
    by_cases w : nI k = 0
    · rw [if_pos w, if_pos ⟨by omega, w⟩, nI_1]
    · rw [if_neg w, if_neg (fun q => w q.2), Nat.add_zero]
theorem ok_step (R : R2 vc dc C M) (x y z : Int32) : Same (fX7_step 167 C (nI 0) x y z) (fX8_step 167 M (nI 143) x y z) C M := by
  have P := R.1
  obtain ⟨-, Q, -, -, ⟨hvc, cv, mv, -⟩, -⟩ := R.thrown 0
  by_cases h1 : zin x vc ∧ zin y vc ∧ x.toInt < y.toInt
  · by_cases h2 : 1 ≤ z.toInt ∧ z.toInt ≤ 1000
    · obtain ⟨a, b, hab, hb, rfl, rfl⟩ := rise_ex hvc h1
      obtain ⟨t, ht, rfl⟩ := zin_ex (x := z) (k := 1001) (by omega) ⟨by omega, by omega⟩
      rw [nIt (k := t) (by omega)] at h2
      obtain ⟨k, hk, c1, m1⟩ := R.2.2.2.2.2.1.1 a (by omega) b (by omega)
      have eM : fX8_step 167 M (nI 143) (nI a) (nI b) (nI t) = some (nI k, zup (zup M 143 0 0) 150 (10 * a + b) (nI t)) := by
        rw [fX8_step, zd_t zo_143, zbd_e, zp_n (by decide), m_rise_i mv hvc h1, zca_some, if_neg ne10, in_i (by rw [z64, nIt (by omega)]; show (1 : Int) ≤ t; omega) (by rw [z64, nIt (by omega)]; show (t : Int) ≤ 1000; omega), zca_some, if_neg ne10, show zg (zup M 143 0 0) (nI 143) 9 = nI 150 from Q.m9, ix10, zd_t (za_150 (by omega)), zbd_e, ze_n (by decide) (by omega), zup_off (by omega), m1, zbd_e, zq_n (by decide) (by omega)]
      have eC : fX7_step 167 C (nI 0) (nI a) (nI b) (nI t) = some (nI k, zup (if nI k = 0 then zup C 3 4 (C 3 4 + 1) else C) (5 + a) b (nI t)) := by
        rw [fX7_step, zd_t zo_0, c_rise_i cv hvc h1, zca_some, if_neg ne10, if_neg (show ¬ nI t < 1 from nI_nlt (a := t) (b := 1) (by omega) (by omega)), if_pos (show nI t ≤ 1000 from nI_le (b := 1000) (by omega) (by decide)), show zg C (nI 0) 3 = nI 3 from P.c03, zd_t zo_3, fX5_exchange, zd_t zo_3, show zg C (nI 3) 0 = nI 4 from P.c30, zd_t (za_4 (by omega)), ze_n (by decide) (by omega), P.b (by omega), zd_t (za_5 (by omega) (by omega)), ze_n (by omega) (by omega), c1, zbd_e]
        have fin : ∀ S : zM, PC S → fX5_exchange_25 167 S (nI 3) (nI a) (nI b) (nI t) (nI k) = some (nI k, zup S (5 + a) b (nI t)) := fun S P => by
          rw [fX5_exchange_25, zd_t zo_3, show zg S (nI 3) 0 = nI 4 from P.c30, zd_t (za_4 (by omega)), ze_n (by decide) (by omega), P.b (by omega), zd_t (za_5 (by omega) (by omega)), zbd_e, zq_n (by omega) (by omega)]
        by_cases w : nI k = 0
        · rw [if_pos w, if_pos w, zbd_e, zp_n (by decide), zg_n (by decide), fin _ (P.up rfl), zca_some]
        · rw [if_neg w, if_neg w, fin _ P, zca_some]
      have eS : ∀ p q, ¬ (p = 3 ∧ q = 4) → ¬ (p = 5 + a ∧ q = b) → (zup (if nI k = 0 then zup C 3 4 (C 3 4 + 1) else C) (5 + a) b (nI t)) p q = C p q := fun p q w1 w2 => by
        rw [zup_off w2]
        by_cases w : nI k = 0
        · rw [if_pos w, zup_off w1]
        · rw [if_neg w]
      obtain ⟨r1, r2, r3, r4, r5, r6, r7, r8, r9, r10⟩ := R.thrown 0
      refine ⟨_, _, _, vc, dc, eC, eM, ⟨P.of (fun p q w => eS p q (fun e => by obtain ⟨rfl, rfl⟩ := e; exact w rfl) (fun e => by obtain ⟨rfl, rfl⟩ := e; exact w (by unfold zp0; rw [if_neg (by omega), if_neg (by omega), if_neg (by omega), if_neg (by omega), if_neg (by omega), if_neg (by omega), if_neg (by omega), if_neg (by omega), if_neg (by omega), if_neg (by omega), if_neg (by omega)]))), r2.up (fun q => by omega), r3.fr ?_ ?_ ?_ ?_, r4.fr ?_ ?_, r5.fr ?_ ?_ ?_ ?_, rstep_set r6 (a := a) (b := b) (t := t) (by omega) (by omega) (by omega) (by omega) (fun v u hv hu w => eS _ _ (by omega) (by omega)) (by rw [zup_s]) (by rw [zup_row]) ?st, r7.fr ?_ ?_, r8.fr ?_ ?_ ?_ ?_, r9.fr ?_ ?_ ?_, r10.fr ?_ ?_ ?_⟩, fun p hp => funext fun q => eS p q (by omega) (by omega), (FM.rf.up (by omega)).up (by omega)⟩
      case st =>
        rw [c1, zup_off (by omega)]
        by_cases w : nI k = 0
        · rw [if_pos w, if_pos w, zup_s]
        · rw [if_neg w, if_neg w]
      all_goals first | (intros; exact eS _ _ (by omega) (by omega)) | (intros; rw [zup_off (by omega)]; done)
    · refine bad_same R (r := -1000001) ?_ ?_
      · rw [fX7_step, zd_t zo_0, c_rise_i cv hvc h1, zca_some, if_neg ne10]
        by_cases w : z < 1
        · rw [if_pos w]
        · rw [if_neg w, if_neg (by rw [ile]; rw [ilt] at w; have w2 : ¬ z.toInt < 1 := w; show ¬ z.toInt ≤ 1000; omega)]
      · rw [fX8_step, zd_t zo_143, zbd_e, zp_n (by decide), m_rise_i mv hvc h1, zca_some, if_neg ne10, in_o (by rw [z64]; show z.toInt < 1 ∨ 1000 < z.toInt; omega), zca_some, if_pos rfl]
  · refine bad_same R (r := -1000001) ?_ ?_
    · rw [fX7_step, zd_t zo_0, c_rise_o cv hvc h1, zca_some, if_pos rfl]
    · rw [fX8_step, zd_t zo_143, zbd_e, zp_n (by decide), m_rise_o mv hvc h1, zca_some, if_pos rfl]
end STE
