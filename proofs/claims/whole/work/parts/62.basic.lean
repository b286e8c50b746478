theorem zlt0 {x : Int32} : x < 0 ↔ x.toInt < 0 := by
  rw [Int32.lt_iff_toInt_lt]
  exact Iff.rfl
theorem zle0 {x : Int32} : 0 ≤ x ↔ 0 ≤ x.toInt := by
  rw [Int32.le_iff_toInt_le]
  exact Iff.rfl
theorem lgc_lt {x y : Int64} : lg_cmp x y < 0 ↔ x.toInt < y.toInt := by
  unfold lg_cmp
  simp only [gt_iff_lt, Int64.lt_iff_toInt_lt, ← Int64.toInt_inj]
  by_cases h : y.toInt < x.toInt
  · rw [if_pos h]
    exact iff_of_false (by decide) (by omega)
  · rw [if_neg h]
    by_cases h2 : x.toInt = y.toInt
    · rw [if_pos h2]
      exact iff_of_false (by decide) (by omega)
    · rw [if_neg h2]
      exact iff_of_true (by decide) (by omega)
theorem lgc_gt {x y : Int64} : 0 < lg_cmp x y ↔ y.toInt < x.toInt := by
  unfold lg_cmp
  simp only [gt_iff_lt, Int64.lt_iff_toInt_lt, ← Int64.toInt_inj]
  by_cases h : y.toInt < x.toInt
  · rw [if_pos h]
    exact iff_of_true (by decide) h
  · rw [if_neg h]
    by_cases h2 : x.toInt = y.toInt
    · rw [if_pos h2]
      exact iff_of_false (by decide) (by omega)
    · rw [if_neg h2]
      exact iff_of_false (by decide) (by omega)
theorem z64 (x : Int32) : x.toInt64.toInt = x.toInt := Int32.toInt_toInt64 x
theorem in_i {n : Nat} {S : zM} {a lo hi : Int64} (h1 : lo.toInt ≤ a.toInt) (h2 : a.toInt ≤ hi.toInt) : fX8_in n S a lo hi = some (1, S) := by
  unfold fX8_in
  rw [if_neg (by rw [lgc_lt]; omega), if_neg (by rw [lgc_gt]; omega)]
theorem in_o {n : Nat} {S : zM} {a lo hi : Int64} (h : a.toInt < lo.toInt ∨ hi.toInt < a.toInt) : fX8_in n S a lo hi = some (0, S) := by
  unfold fX8_in
  by_cases q : a.toInt < lo.toInt
  · rw [if_pos (by rw [lgc_lt]; exact q)]
  · rw [if_neg (by rw [lgc_lt]; exact q), if_pos (by rw [lgc_gt]; omega)]
theorem nIt {k : Nat} (h : k < 1000000) : (nI k).toInt = (k : Int) := nI_toInt (by omega)
theorem nIs {k : Nat} (h : k < 1000000) : (nI k - 1).toInt = (k : Int) - 1 := by
  have := pk_sub_toInt (a := k) (b := 1) (by omega) (by decide)
  exact this
/-- x stands between 0 and k, k apart -/
def zin (x : Int32) (k : Nat) : Prop := 0 ≤ x.toInt ∧ x.toInt < (k : Int)
theorem zin_ex {x : Int32} {k : Nat} (hk : k < 1000000) (h : zin x k) : ∃ j, j < k ∧ x = nI j := by
  obtain ⟨h1, h2⟩ := h
  refine ⟨x.toInt.toNat, by omega, ?_⟩
  apply Int32.toInt_inj.mp
  rw [nIt (by omega)]
  omega
theorem zin_nI {j k : Nat} (hk : j < 1000000) (h : j < k) : zin (nI j) k := by
  unfold zin
  rw [nIt hk]
  omega
theorem bit1 : zbit 1 = true := rfl
theorem bit0 : zbit 0 = true := rfl
theorem ne10 : ¬ (1 : Int32) = 0 := by decide
theorem idn {o : Nat} (h : o < 1000000) : (nI o).toNatClampNeg = o := nI_clamp (by omega)
theorem zg_n {S : zM} {o k : Nat} (h : o < 1000000) : zg S (nI o) k = S o k := by
  show S (nI o).toNatClampNeg k = _
  rw [idn h]
theorem ze_n {S : zM} {o k : Nat} (h : o < 1000000) (h2 : k < 1000000) : ze S (nI o) (nI k) = S o k := by
  show S (nI o).toNatClampNeg (nI k).toNatClampNeg = _
  rw [idn h, idn h2]
theorem zp_n {S : zM} {o k : Nat} {v : Int32} (h : o < 1000000) : zp S (nI o) k v = zup S o k v := by
  show zup S (nI o).toNatClampNeg k v = _
  rw [idn h]
theorem zq_n {S : zM} {o k : Nat} {v : Int32} (h : o < 1000000) (h2 : k < 1000000) : zq S (nI o) (nI k) v = zup S o k v := by
  show zup S (nI o).toNatClampNeg (nI k).toNatClampNeg v = _
  rw [idn h, idn h2]
section BAS
variable {C M : zM} {vc dc : Nat} {x : Int32} {n : Nat}
theorem cSh_i (h : zin x 8) : fX7_isSheet n C x = some (1, C) := by
  obtain ⟨h1, h2⟩ := h
  unfold fX7_isSheet
  rw [if_neg (by rw [zlt0]; omega), if_neg (by rw [Int32.le_iff_toInt_le]; exact Int.not_le.mpr h2)]
theorem cSh_o (h : ¬ zin x 8) : fX7_isSheet n C x = some (0, C) := by
  unfold fX7_isSheet
  by_cases q : x < 0
  · rw [if_pos q]
  · rw [if_neg q, if_pos (by rw [Int32.le_iff_toInt_le]; rw [zlt0] at q; exact Int.not_lt.mp fun w => h ⟨by omega, w⟩)]
theorem mSh_i (h : zin x 8) : fX8_isSheet n M x = some (1, M) := by
  obtain ⟨h1, h2⟩ := h
  unfold fX8_isSheet
  rw [in_i (by rw [z64]; exact h1) (by rw [z64]; exact Int.lt_add_one_iff.mp h2)]
  rfl
theorem mSh_o (h : ¬ zin x 8) : fX8_isSheet n M x = some (0, M) := by
  unfold fX8_isSheet
  rw [in_o (by rw [z64]; show x.toInt < 0 ∨ 7 < x.toInt; unfold zin at h; omega)]
  rfl
theorem cVe_i (hv : C 0 2 = nI vc) (hc : vc ≤ 10) (h : zin x vc) : fX7_isVersion 167 C (nI 0) x = some (1, C) := by
  obtain ⟨h1, h2⟩ := h
  unfold fX7_isVersion
  rw [if_neg (by rw [zlt0]; omega), zd_t zo_0]
  show (if C 0 2 ≤ x then _ else _) = _
  rw [hv, if_neg (by rw [Int32.le_iff_toInt_le, nIt (by omega)]; omega)]
theorem cVe_o (hv : C 0 2 = nI vc) (hc : vc ≤ 10) (h : ¬ zin x vc) : fX7_isVersion 167 C (nI 0) x = some (0, C) := by
  unfold fX7_isVersion
  by_cases q : x < 0
  · rw [if_pos q]
  · rw [if_neg q, zd_t zo_0]
    show (if C 0 2 ≤ x then _ else _) = _
    rw [hv, if_pos (by rw [Int32.le_iff_toInt_le, nIt (by omega)]; rw [zlt0] at q; unfold zin at h; omega)]
theorem mVe_i (hv : M 143 5 = nI vc) (hc : vc ≤ 10) (h : zin x vc) : fX8_isVersion 167 M (nI 143) x = some (1, M) := by
  obtain ⟨h1, h2⟩ := h
  unfold fX8_isVersion
  rw [zd_t zo_143]
  show zca (fX8_in 167 M x.toInt64 0 (M 143 5 - 1).toInt64) _ = _
  rw [hv, in_i (by rw [z64]; exact h1) (by rw [z64, z64, nIs (by omega)]; omega)]
  rfl
theorem mVe_o (hv : M 143 5 = nI vc) (hc : vc ≤ 10) (h : ¬ zin x vc) : fX8_isVersion 167 M (nI 143) x = some (0, M) := by
  unfold fX8_isVersion
  rw [zd_t zo_143]
  show zca (fX8_in 167 M x.toInt64 0 (M 143 5 - 1).toInt64) _ = _
  rw [hv, in_o (by rw [z64, z64, nIs (by omega)]; show x.toInt < 0 ∨ _; unfold zin at h; omega)]
  rfl
theorem cDe_i (hv : C 0 5 = nI dc) (hc : dc ≤ 30) (h : zin x dc) : fX7_isDevice 167 C (nI 0) x = some (1, C) := by
  obtain ⟨h1, h2⟩ := h
  unfold fX7_isDevice
  rw [if_neg (by rw [zlt0]; omega), zd_t zo_0]
  show (if C 0 5 ≤ x then _ else _) = _
  rw [hv, if_neg (by rw [Int32.le_iff_toInt_le, nIt (by omega)]; omega)]
theorem cDe_o (hv : C 0 5 = nI dc) (hc : dc ≤ 30) (h : ¬ zin x dc) : fX7_isDevice 167 C (nI 0) x = some (0, C) := by
  unfold fX7_isDevice
  by_cases q : x < 0
  · rw [if_pos q]
  · rw [if_neg q, zd_t zo_0]
    show (if C 0 5 ≤ x then _ else _) = _
    rw [hv, if_pos (by rw [Int32.le_iff_toInt_le, nIt (by omega)]; rw [zlt0] at q; unfold zin at h; omega)]
theorem mDe_i (hv : M 143 13 = nI dc) (hc : dc ≤ 30) (h : zin x dc) : fX8_isDevice 167 M (nI 143) x = some (1, M) := by
  obtain ⟨h1, h2⟩ := h
  unfold fX8_isDevice
  rw [zd_t zo_143]
  show zca (fX8_in 167 M x.toInt64 0 (M 143 13 - 1).toInt64) _ = _
  rw [hv, in_i (by rw [z64]; exact h1) (by rw [z64, z64, nIs (by omega)]; omega)]
  rfl
theorem mDe_o (hv : M 143 13 = nI dc) (hc : dc ≤ 30) (h : ¬ zin x dc) : fX8_isDevice 167 M (nI 143) x = some (0, M) := by
  unfold fX8_isDevice
  rw [zd_t zo_143]
  show zca (fX8_in 167 M x.toInt64 0 (M 143 13 - 1).toInt64) _ = _
  rw [hv, in_o (by rw [z64, z64, nIs (by omega)]; show x.toInt < 0 ∨ _; unfold zin at h; omega)]
  rfl
theorem cFound : fX7_found 167 C (nI 0) x = some ((-1000010) - x, zup C 0 10 x) := rfl
theorem cPassed : fX7_passed 167 C (nI 0) x = some (x, zup C 0 10 0) := rfl
theorem mFound : fX8_found 167 M (nI 143) x = some ((-1000010) - x, zup M 143 1 x) := rfl
/-- the last finding, and cells that nobody looks at -/
theorem R2.mis (R : R2 vc dc C M) (y : Int32) : R2 vc dc (zup C 0 10 y) (zup M 143 1 y) := by
  obtain ⟨r1, r2, ⟨r3, r3'⟩, r4, r5, r6, r7, r8, r9, r10⟩ := R
  refine ⟨r1.up rfl, r2.up (fun _ => rfl), ⟨by rw [zup_s, zup_s], by rw [zup_off (by omega), zup_off (by omega)]; exact r3'⟩, r4.fr ?_ ?_, r5.fr ?_ ?_ ?_ ?_, r6.fr ?_ ?_ ?_, r7.fr ?_ ?_, r8.fr ?_ ?_ ?_ ?_, r9.fr ?_ ?_ ?_, r10.fr ?_ ?_ ?_⟩ <;> intros <;> exact zup_off (by omega)
theorem R2.thrown (R : R2 vc dc C M) (y : Int32) : R2 vc dc C (zup M 143 0 y) := by
  obtain ⟨r1, r2, r3, r4, r5, r6, r7, r8, r9, r10⟩ := R
  refine ⟨r1, r2.up (fun _ => rfl), r3.fr rfl rfl ?_ ?_, r4.fr (fun _ _ _ _ => rfl) ?_, r5.fr rfl (fun _ _ _ _ => rfl) ?_ ?_, r6.fr rfl (fun _ _ _ _ => rfl) ?_, r7, r8.fr rfl (fun _ _ _ _ => rfl) ?_ ?_, r9.fr (fun _ _ _ _ => rfl) ?_ ?_, r10.fr (fun _ _ _ _ => rfl) ?_ ?_⟩ <;> intros <;> exact zup_off (by omega)
theorem ok_seed (R : R2 vc dc C M) (z : Int32) : Same (fX7_seed 167 C (nI 0) z) (fX8_seed 167 M (nI 143) z) C M := by
  refine ⟨1, zup C 0 8 z, zup (zup M 143 0 0) 143 24 z, vc, dc, rfl, rfl, ?_, FC.rf.up (by decide), (FM.rf.up (by decide)).up (by decide)⟩
  obtain ⟨r1, r2, ⟨r3, r3'⟩, r4, r5, r6, r7, r8, r9, r10⟩ := R.thrown 0
  refine ⟨r1.up rfl, r2.up (fun _ => rfl), ⟨by rw [zup_off (by omega), zup_off (by omega)]; exact r3, by rw [zup_s, zup_s]⟩, r4.fr ?_ ?_, r5.fr ?_ ?_ ?_ ?_, r6.fr ?_ ?_ ?_, r7.fr ?_ ?_, r8.fr ?_ ?_ ?_ ?_, r9.fr ?_ ?_ ?_, r10.fr ?_ ?_ ?_⟩ <;> intros <;> exact zup_off (by omega)
theorem ok_status (R : R2 vc dc C M) : Same (fX7_status 167 C (nI 0)) (fX8_status 167 M (nI 143)) C M :=
  ⟨C 0 10, C, zup M 143 0 0, vc, dc, rfl, by rw [R.2.2.1.1]; rfl, R.thrown 0, FC.rf, FM.rf.up (by decide)⟩
end BAS
