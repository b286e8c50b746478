theorem ix2 (d o : Nat) : (2 : Int32) * nI d + nI o = nI (2 * d + o) := by
  rw [show (2 : Int32) = nI 2 from rfl, pk_mul, nI_add]
theorem ix2b {d o : Nat} (h : o ≤ 1) : (2 : Int32) * nI d + 1 - nI o = nI (2 * d + (1 - o)) := by
  rw [show (2 : Int32) = nI 2 from rfl, pk_mul, nI_1, pk_sub (by omega)]
  congr 1
  omega
theorem zo_slp {d p : Nat} (hd : d < 30) (hp : p = 1 ∨ p = 2) : zo 167 14 (nI (53 + 3 * d + p)) = true := by
  rcases hp with rfl | rfl
  · rw [show 53 + 3 * d + 1 = 54 + 3 * d by omega]
    exact zo_sl1 hd
  · rw [show 53 + 3 * d + 2 = 55 + 3 * d by omega]
    exact zo_sl2 hd
theorem zo_slq {d p : Nat} (hd : d < 30) (hp : p = 1 ∨ p = 2) : zo 167 14 (nI (53 + 3 * d + (3 - p))) = true := zo_slp hd (by omega)
theorem zshr (v : Int64) : ((v.toUInt64 >>> ((16 : Int32).toInt64.toUInt64 &&& Int64.toUInt64 63)).toInt64 &&& 65535 : Int64) = (v >>> ((16 : Int32).toInt64 &&& 63)) &&& 65535 := by
  apply Int64.toBitVec_inj.mp
  have e1 : ((16 : Int32).toInt64.toUInt64 &&& Int64.toUInt64 63) = 16 := by decide
  have e2 : ((16 : Int32).toInt64 &&& 63) = 16 := by decide
  rw [e1, e2]
  apply BitVec.eq_of_getLsbD_eq
  intro i hi
  have e3 : (65535 : Int64).toBitVec = BitVec.ofNat 64 (2 ^ 16 - 1) := by decide
  simp only [Int64.toBitVec_and, BitVec.getLsbD_and, e3]
  by_cases h : i < 16
  · have e4 : (v.toUInt64 >>> 16).toInt64.toBitVec = v.toBitVec >>> 16 := by
      show (v.toUInt64 >>> 16).toBitVec = _
      rw [UInt64.toBitVec_shiftRight]
      rfl
    have e5 : (v >>> 16).toBitVec = v.toBitVec.sshiftRight 16 := by
      rw [Int64.toBitVec_shiftRight]
      rfl
    rw [e4, e5, BitVec.getLsbD_ushiftRight, BitVec.getLsbD_sshiftRight]
    congr 1
    have : ¬ 64 ≤ i := by omega
    simp [this, show 16 + i < 64 by omega]
  · have e6 : (BitVec.ofNat 64 (2 ^ 16 - 1)).getLsbD i = false := by
      rw [BitVec.getLsbD_ofNat, Nat.testBit_two_pow_sub_one]
      simp [h]
    rw [e6, Bool.and_false, Bool.and_false]
def zkind (vc v : Nat) (f g : Int32) : Int32 := if nI v = nI vc - 1 then (if f = 0 then 2 else 1) else (if g < 2 then 0 else 3)
theorem zkind_in {vc v : Nat} {f g : Int32} : zkind vc v f g = 0 ∨ zkind vc v f g = 1 ∨ zkind vc v f g = 2 ∨ zkind vc v f g = 3 := by
  unfold zkind
  by_cases h1 : nI v = nI vc - 1
  · rw [if_pos h1]
    by_cases h2 : f = 0
    · rw [if_pos h2]; exact Or.inr (Or.inr (Or.inl rfl))
    · rw [if_neg h2]; exact Or.inr (Or.inl rfl)
  · rw [if_neg h1]
    by_cases h2 : g < 2
    · rw [if_pos h2]; exact Or.inl rfl
    · rw [if_neg h2]; exact Or.inr (Or.inr (Or.inr rfl))
section DEV
variable {C M : zM} {vc dc : Nat}
theorem c_vn {A v : Nat} (P : PC C) (hA : zo 167 14 (nI A) = true) (hl : A < 1000) (hv : v < 10) (e : C A 0 = nI (43 + v)) : fX4_versionNumber 167 C (nI A) = some (nI v, C) := by
  rw [fX4_versionNumber, zd_t hA, zg_n (by omega), e, if_neg (nI_pos (by omega)), zd_t (zo_ver hv), zg_n (by omega), P.vn hv]
theorem c_vn0 {A : Nat} (hA : zo 167 14 (nI A) = true) (hl : A < 1000) (e : C A 0 = -1) : fX4_versionNumber 167 C (nI A) = some (-1000000, C) := by
  rw [fX4_versionNumber, zd_t hA, zg_n (by omega), e, if_pos (by decide)]
theorem m_on {d o v : Nat} (Q : PM M) (hd : d < 30) (ho : o = 0 ∨ o = 1) (e1 : M 156 d = nI o) (e2 : M 157 (2 * d + o) = nI v) : fX8_runsOn 167 M (nI 143) (nI d) = some (nI v, M) := by
  rw [fX8_runsOn, zd_t zo_143, show zg M (nI 143) 16 = nI 156 from Q.m16, zd_t (za_156 hd), show zg M (nI 143) 17 = nI 157 from Q.m17, ze_n (by decide) (by omega), e1, ix2, zd_t (za_157 (by omega)), ze_n (by decide) (by omega), e2]
theorem m_oth {d o : Nat} (Q : PM M) (hd : d < 30) (ho : o = 0 ∨ o = 1) (e1 : M 156 d = nI o) : fX8_other 167 M (nI 143) (nI d) = some (nI (2 * d + (1 - o)), M) := by
  rw [fX8_other, zd_t zo_143, show zg M (nI 143) 16 = nI 156 from Q.m16, zd_t (za_156 hd), ze_n (by decide) (by omega), e1, ix2b (by omega)]
theorem c_fresh {D p v : Nat} (P : PC C) (hD : zo 167 12 (nI D) = true) (hDl : D < 500) (hA : zo 167 14 (nI (D + p)) = true) (hp : p ≤ 2) (e3 : C D 3 = nI (D + p)) (hv : v < 10) (e : C (D + p) 0 = nI (43 + v)) (cv : C 0 2 = nI vc) : fX7_isFresh 167 C (nI 0) (nI D) = some (if nI v = nI vc - 1 then 1 else 0, C) := by
  rw [fX7_isFresh, zd_t hD, zg_n (by omega), e3, zd_t hA, c_vn P hA (by omega) hv e, zca_some, zd_t zo_0, zg_n (by omega), cv]
  by_cases h : nI v = nI vc - 1
  · rw [if_pos h, if_pos h]
  · rw [if_neg h, if_neg h]
theorem c_kind {D p v : Nat} (P : PC C) (hD : zo 167 12 (nI D) = true) (hDl : D < 500) (hA : zo 167 14 (nI (D + p)) = true) (hp : p ≤ 2) (e3 : C D 3 = nI (D + p)) (hv : v < 10) (e : C (D + p) 0 = nI (43 + v)) (cv : C 0 2 = nI vc) : fX7_kindOf 167 C (nI 0) (nI D) = some (zkind vc v (C D 9) (C D 10), C) := by
  rw [fX7_kindOf, zd_t zo_0, c_fresh P hD hDl hA hp e3 hv e cv, zca_some, zd_t hD, zd_t hD, zg_n (by omega), zg_n (by omega)]
  unfold zkind
  by_cases h : nI v = nI vc - 1
  · rw [if_pos h, if_neg ne10, if_pos h]
    by_cases h2 : C D 9 = 0
    · rw [if_pos h2, if_pos h2]
    · rw [if_neg h2, if_neg h2]
  · rw [if_neg h, if_pos rfl, if_neg h]
    by_cases h2 : C D 10 < 2
    · rw [if_pos h2, if_pos h2]
    · rw [if_neg h2, if_neg h2]
theorem m_kind {d o v : Nat} (Q : PM M) (hd : d < 30) (ho : o = 0 ∨ o = 1) (e1 : M 156 d = nI o) (e2 : M 157 (2 * d + o) = nI v) (mv : M 143 5 = nI vc) : fX8_kindOf 167 M (nI 143) (nI d) = some (zkind vc v (M 162 d) (M 163 d), M) := by
  rw [fX8_kindOf, zd_t zo_143, m_on Q hd ho e1 e2, zca_some, zg_n (by omega), mv]
  have h0 : fX8_kindOf_19 167 M (nI 143) (nI d) 0 = some (if M 163 d < 2 then 0 else 3, M) := by
    rw [fX8_kindOf_19, zbd_e, if_pos rfl, zd_t zo_143, show zg M (nI 143) 23 = nI 163 from Q.m23, zd_t (za_163 hd), ze_n (by decide) (by omega)]
    by_cases h : M 163 d < 2
    · rw [if_pos h, if_pos h]
    · rw [if_neg h, if_neg h]
  have h1 : fX8_kindOf_19 167 M (nI 143) (nI d) 1 = some (if M 162 d = 0 then 2 else 1, M) := by
    rw [fX8_kindOf_19, zbd_e, if_neg ne10, zd_t zo_143, show zg M (nI 143) 22 = nI 162 from Q.m22, zd_t (za_162 hd), ze_n (by decide) (by omega)]
    by_cases h : M 162 d = 0
    · rw [if_pos h, if_pos h]
    · rw [if_neg h, if_neg h]
  rw [h0, h1]
  unfold zkind
  by_cases h : nI v = nI vc - 1
  · rw [if_pos h, if_pos h]
  · rw [if_neg h, if_neg h]
/-- both tell the same kind -/
theorem kinds {d : Nat} (P : PC C) (Q : PM M) (hd : d < 30) (hvc : vc ≤ 10) (cv : C 0 2 = nI vc) (mv : M 143 5 = nI vc) (h : RD1 vc C M d) : ∃ z : Int32, (z = 0 ∨ z = 1 ∨ z = 2 ∨ z = 3) ∧ fX7_kindOf 167 C (nI 0) (nI (53 + 3 * d)) = some (z, C) ∧ fX8_kindOf 167 M (nI 143) (nI d) = some (z, M) := by
  obtain ⟨p, o, k, v, f, hp, ho, hk, hv, hf, a3, a4, a5, b5, a6, b6, a7, a1, b1, hh, a9, a10, a8, b8, s0, t0, s1, sp, sq⟩ := h
  refine ⟨zkind vc v (M 162 d) (M 163 d), zkind_in, ?_, m_kind Q hd ho b5 t0 mv⟩
  rw [c_kind P (zo_dev hd) (by omega) (zo_slp hd hp) (by omega) a3 (by omega) s0 cv, a9, a10]
theorem c_devp (P : PC C) {d : Nat} (hd : d < 30) : ze C (zg C (nI 0) 4) (nI d) = nI (53 + 3 * d) := by
  rw [show zg C (nI 0) 4 = nI 18 from P.c04, ze_n (by decide) (by omega), P.d hd]
theorem c_za18 (P : PC C) {d : Nat} (hd : d < 30) : za 167 4 (zg C (nI 0) 4) (nI d) = true := by
  rw [show zg C (nI 0) 4 = nI 18 from P.c04]
  exact za_18 hd
theorem ok_kind (R : R2 vc dc C M) (x : Int32) : Same (fX7_kind 167 C (nI 0) x) (fX8_kind 167 M (nI 143) x) C M := by
  have T := R.thrown 0
  obtain ⟨P, Q, -, -, ⟨hvc, cv, mv, -⟩, -, -, ⟨hdc, cd, md, hd1, -⟩, -⟩ := T
  have cvd := R.2.2.2.2.2.2.2.1
  by_cases h1 : zin x dc
  · obtain ⟨d, hd, rfl⟩ := zin_ex (by omega) h1
    obtain ⟨z, -, k1, k2⟩ := kinds P Q (by omega) hvc cv mv (hd1 d hd)
    refine bad_same R (r := z) ?_ ?_
    · rw [fX7_kind, zd_t zo_0, cDe_i cd hdc h1, zca_some, if_neg ne10, zd_t (c_za18 P (by omega)), c_devp P (by omega), k1, zca_some]
    · rw [fX8_kind, zd_t zo_143, zbd_e, zp_n (by decide), mDe_i md hdc h1, zca_some, if_neg ne10, k2, zca_some]
  · refine bad_same R (r := -1000001) ?_ ?_
    · rw [fX7_kind, zd_t zo_0, cDe_o cd hdc h1, zca_some, if_pos rfl]
    · rw [fX8_kind, zd_t zo_143, zbd_e, zp_n (by decide), mDe_o md hdc h1, zca_some, if_pos rfl]
theorem ok_trace (R : R2 vc dc C M) (x : Int32) : Same (fX7_trace 167 C (nI 0) x) (fX8_trace 167 M (nI 143) x) C M := by
  have T := R.thrown 0
  obtain ⟨P, Q, -, -, -, -, -, -, -, k, hk, a1, a2, a3⟩ := T
  have eC : fX7_trace 167 C (nI 0) x = zca (fX0_tracedAt 167 C (nI 25) x) fun r3 S4 => some (r3, S4) := by
    rw [fX7_trace, zd_t zo_0, show zg C (nI 0) 9 = nI 25 from P.c09, zd_t zo_25]
  by_cases h1 : zin x k
  · obtain ⟨j, hj, rfl⟩ := zin_ex (by omega) h1
    refine bad_same R (r := C 26 j) ?_ ?_
    · rw [eC, fX0_tracedAt, if_neg (nI_pos (by omega)), zd_t zo_25, zg_n (by decide), a1, if_neg (nI_ge hj (by omega)), show zg C (nI 25) 0 = nI 26 from P.c250, zd_t (za_26 (by omega)), ze_n (by decide) (by omega), zca_some]
    · rw [fX8_trace, zd_t zo_143, zbd_e, zp_n (by decide), zg_n (by decide), a2, in_i (by rw [z64]; exact h1.1) (by rw [z64, z64, nIs (by omega)]; have := h1.2; omega), zca_some, if_neg ne10, show zg (zup M 143 0 0) (nI 143) 36 = nI 166 from Q.m36, zd_t (za_166 (by omega)), ze_n (by decide) (by omega), ← a3 j (by omega)]
  · refine bad_same R (r := -1000000) ?_ ?_
    · rw [eC, fX0_tracedAt]
      by_cases w : x < 0
      · rw [if_pos w, zca_some]
      · rw [if_neg w, zd_t zo_25, zg_n (by decide), a1, if_pos (by rw [Int32.le_iff_toInt_le, nIt (by omega)]; rw [zlt0] at w; unfold zin at h1; omega), zca_some]
    · rw [fX8_trace, zd_t zo_143, zbd_e, zp_n (by decide), zg_n (by decide), a2, in_o (by rw [z64, z64, nIs (by omega)]; show x.toInt < 0 ∨ _; unfold zin at h1; omega), zca_some, if_pos rfl]
end DEV
