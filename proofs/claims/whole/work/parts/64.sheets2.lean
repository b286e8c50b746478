theorem m1_up {M : zM} (Q : PM M) : PM (zup (zup M 143 0 0) 143 1 0) := (Q.up (fun _ => rfl)).up (fun _ => rfl)
section SH2
variable {C M : zM} {vc dc : Nat}
theorem m_found (y : Int32) : fX8_found 167 (zup (zup M 143 0 0) 143 1 0) (nI 143) y = some ((-1000010) - y, zup (zup M 143 0 0) 143 1 y) := by
  rw [mFound, zup_zup]
theorem rsh_off {C' M' : zM} {i : Nat} (h : RSh C M) (hC : ∀ q j, q < 8 → q ≠ i → C' (27 + 2 * q) j = C (27 + 2 * q) j ∧ C' (28 + 2 * q) j = C (28 + 2 * q) j) (hM : ∀ q, q < 8 → q ≠ i → M' 144 q = M 144 q ∧ M' 145 q = M 145 q ∧ ∀ j, j < 60 → M' 146 (60 * q + j) = M 146 (60 * q + j)) (hi : ((C' (27 + 2 * i) 1 = 1 ∧ M' 144 i = -1) ∨ (C' (27 + 2 * i) 1 = 0 ∧ ∃ l, l < 3 ∧ C' (27 + 2 * i) 2 = nI l ∧ M' 144 i = nI l)) ∧ (∃ m, m ≤ 60 ∧ C' (27 + 2 * i) 3 = nI m ∧ M' 145 i = nI m) ∧ ∀ j, j < 60 → C' (28 + 2 * i) j = M' 146 (60 * i + j)) : RSh C' M' := by
  intro q hq
  by_cases e : q = i
  · subst e
    exact hi
  · obtain ⟨a1, a2, a3⟩ := hM q hq e
    rw [(hC q 1 hq e).1, (hC q 2 hq e).1, (hC q 3 hq e).1, a1, a2]
    refine ⟨(h q hq).1, (h q hq).2.1, fun j hj => ?_⟩
    rw [(hC q j hq e).2, a3 j hj]
    exact (h q hq).2.2 j hj
theorem ok_drop (R : R2 vc dc C M) (s : Int32) : Same (fX7_drop 167 C (nI 0) s) (fX8_drop 167 M (nI 143) s) C M := by
  have P := R.1
  have Q := R.2.1
  by_cases h1 : zin s 8
  · obtain ⟨i, hi, rfl⟩ := zin_ex (by decide) h1
    have hsp := c_sheetp P hi
    have Q1 := m1_up Q
    have rs := R.2.2.2.1 i hi
    have eC : fX7_drop 167 C (nI 0) (nI i) = if C (27 + 2 * i) 1 = 0 then zca (fX7_passed 167 (zup C (27 + 2 * i) 1 1) (nI 0) (zup C (27 + 2 * i) 1 1 (27 + 2 * i) 3)) fun r13 S14 => some (r13, S14) else zca (fX7_found 167 C (nI 0) 1) fun r16 S17 => some (r16, S17) := by
      rw [fX7_drop, cSh_i h1, zca_some, if_neg ne10, zd_t zo_0, zd_t (by rw [show zg C (nI 0) 0 = nI 1 from P.c00]; exact za_1 hi), hsp, zbd_e, zd_t (zo_sheet hi)]
      rw [zg_n (by omega), zbd_e, zp_n (by omega), zg_n (by omega)]
    have eM : fX8_drop 167 M (nI 143) (nI i) = if 0 ≤ M 144 i then zbd (zup (zup (zup M 143 0 0) 143 1 0) 144 i (-1)) fun S12 => zd (za 167 0 (zg S12 (nI 143) 3) (nI i)) <| some (ze S12 (zg S12 (nI 143) 3) (nI i), S12) else zca (fX8_found 167 (zup (zup M 143 0 0) 143 1 0) (nI 143) 1) fun r15 S16 => some (r15, S16) := by
      rw [fX8_drop, zd_t zo_143, zbd_e, mSh_i h1, zca_some, if_neg ne10, zbd_e]
      simp only [zp]
      rw [idn (by decide), show zg (zup (zup M 143 0 0) 143 1 0) (nI 143) 2 = nI 144 from Q1.m2, zd_t (za_144 hi)]
      simp only [ze, zq]
      rw [idn (by decide), idn (by omega), zup_off (by omega), zup_off (by omega)]
    rcases rs.1 with ⟨a1, a2⟩ | ⟨a1, l, hl, a2, a3⟩
    · refine found_same R (r := -1000010 - 1) (y := 1) ?_ ?_
      · rw [eC, a1, if_neg ne10]
        rfl
      · rw [eM, a2, if_neg (by decide), m_found]
        rfl
    · obtain ⟨m, hm, b1, b2⟩ := rs.2.1
      have Q2 : PM (zup (zup (zup M 143 0 0) 143 1 0) 144 i (-1)) := Q1.up (fun q => by omega)
      refine ⟨nI m, zup (zup C (27 + 2 * i) 1 1) 0 10 0, zup (zup (zup M 143 0 0) 143 1 0) 144 i (-1), vc, dc, ?_, ?_, R.shs ?_ ?_ ?_ ?_, (FC.rf.up (by omega)).up (by decide), ((FM.rf.up (by decide)).up (by decide)).up (by decide)⟩
      · rw [eC, a1, if_pos rfl, zup_off (by omega), b1]
        rfl
      · rw [eM, a3, if_pos (nI_pos' (by omega)), zbd_e, show zg (zup (zup (zup M 143 0 0) 143 1 0) 144 i (-1)) (nI 143) 3 = nI 145 from Q2.m3, zd_t (za_145 hi)]
        simp only [ze]
        rw [idn (by decide), idn (by omega), zup_off (by omega), zup_off (by omega), zup_off (by omega), b2]
      · intro a j h
        unfold gSh at h
        rw [zup_off (by omega), zup_off (by omega)]
      · intro a j h
        unfold gShM at h
        rw [zup_off (by omega), zup_off (by omega), zup_off (by omega)]
      · rw [zup_s, zup_off (by omega), zup_s]
      · refine rsh_off (i := i) R.2.2.2.1 (fun q j hq hne => ⟨?_, ?_⟩) (fun q hq hne => ⟨?_, ?_, fun j hj => ?_⟩) ⟨Or.inl ⟨?_, ?_⟩, ⟨m, hm, ?_, ?_⟩, fun j hj => ?_⟩
        · rw [zup_off (by omega), zup_off (by omega)]
        · rw [zup_off (by omega), zup_off (by omega)]
        · rw [zup_off (by omega), zup_off (by omega), zup_off (by omega)]
        · rw [zup_off (by omega), zup_off (by omega), zup_off (by omega)]
        · rw [zup_off (by omega), zup_off (by omega), zup_off (by omega)]
        · rw [zup_off (by omega), zup_s]
        · rw [zup_s]
        · rw [zup_off (by omega), zup_off (by omega)]
          exact b1
        · rw [zup_off (by omega), zup_off (by omega), zup_off (by omega)]
          exact b2
        · rw [zup_off (by omega), zup_off (by omega), zup_off (by omega), zup_off (by omega), zup_off (by omega)]
          exact rs.2.2 j hj
  · refine bad_same R (r := -1000001) ?_ ?_
    · rw [fX7_drop, cSh_o h1, zca_some, if_pos rfl]
    · rw [fX8_drop, zd_t zo_143, zbd_e, mSh_o h1, zca_some, if_pos rfl]
      all_goals rfl
theorem c_has {s : Nat} (hs : s < 8) {m : Nat} (hm : m ≤ 60) (e : C (27 + 2 * s) 3 = nI m) (i k : Int32) : fX3_hasPlaces 167 C (nI (27 + 2 * s)) i k = some (if 0 ≤ i.toInt ∧ 0 ≤ k.toInt ∧ i.toInt + k.toInt ≤ (m : Int) then 1 else 0, C) := by
  unfold fX3_hasPlaces
  by_cases h1 : i < 0
  · rw [if_pos h1, if_neg (by rw [zlt0] at h1; omega)]
  · rw [if_neg h1]
    by_cases h2 : k < 0
    · rw [if_pos h2, if_neg (by rw [zlt0] at h2; omega)]
    · rw [if_neg h2, zd_t (zo_sheet hs)]
      rw [zg_n (by omega), e]
      rw [zlt0] at h1 h2
      have hk : k.toInt < 2147483648 := by have := Int32.toInt_lt k; omega
      have hsub : (nI m - k).toInt = (m : Int) - k.toInt := by
        rw [Int32.toInt_sub, nIt (by omega), Int.bmod_eq_of_le] <;> omega
      by_cases h3 : nI m - k < i
      · rw [if_pos h3]
        rw [Int32.lt_iff_toInt_lt, hsub] at h3
        rw [if_neg (by omega)]
      · rw [if_neg h3]
        rw [Int32.lt_iff_toInt_lt, hsub] at h3
        rw [if_pos (by omega)]
theorem c_has_i {s : Nat} (hs : s < 8) {m : Nat} (hm : m ≤ 60) (e : C (27 + 2 * s) 3 = nI m) {i k : Int32} (h : 0 ≤ i.toInt ∧ 0 ≤ k.toInt ∧ i.toInt + k.toInt ≤ (m : Int)) : fX3_hasPlaces 167 C (nI (27 + 2 * s)) i k = some (1, C) := by
  rw [c_has hs hm e, if_pos h]
theorem c_has_o {s : Nat} (hs : s < 8) {m : Nat} (hm : m ≤ 60) (e : C (27 + 2 * s) 3 = nI m) {i k : Int32} (h : ¬ (0 ≤ i.toInt ∧ 0 ≤ k.toInt ∧ i.toInt + k.toInt ≤ (m : Int))) : fX3_hasPlaces 167 C (nI (27 + 2 * s)) i k = some (0, C) := by
  rw [c_has hs hm e, if_neg h]
end SH2
