theorem zdraw_e (d : Nat) (hd : d < 1000) : nI d + 1 = nI (d + 1) := nI_1 d
def zdraw (d : Nat) (s : Int32) : Int32 := (((((((nI d + 1 : Int32).toInt64) * 2654435761) + s.toInt64) >>> ((16 : Int32).toInt64 &&& 63)) &&& 65535 : Int64).toInt32) - (((((((nI d + 1 : Int32).toInt64) * 2654435761) + s.toInt64) >>> ((16 : Int32).toInt64 &&& 63)) &&& 65535 : Int64).toInt32) / 100 * 100
theorem zbool {p q : Prop} [Decidable p] [Decidable q] (S : zM) (hd : (if p then (if q then (0 : Int32) else 1) else 0) = if p then (if q then (0 : Int32) else 1) else 0) : (if (if p then (if q then (0 : Int32) else 1) else 0) = 0 then some ((0 : Int32), S) else some (1, S)) = some (if p then (if q then (0 : Int32) else 1) else 0, S) := by
  by_cases h1 : p
  · rw [if_pos h1]
    by_cases h2 : q
    · rw [if_pos h2]; rfl
    · rw [if_neg h2]; rfl
  · rw [if_neg h1]; rfl
section TOL
variable {C M : zM} {vc dc : Nat}
theorem c_draw (P : PC C) {d : Nat} (hd : d < 30) : fX7_drawOf 167 C (nI 0) (nI (53 + 3 * d)) = some (zdraw d (C 0 8), C) := by
  rw [fX7_drawOf, zd_t (zo_dev hd), zd_t zo_0, zbd_e, zd_t (by decide), zg_n (by omega), P.dn hd, zg_n (by omega), zshr]
  rfl
theorem m_draw {d : Nat} (hd : d < 30) : fX8_draw 167 M (nI 143) (nI d) = some (zdraw d (M 143 24), M) := by
  rw [fX8_draw, zd_t zo_143, zbd_e, zd_t (by decide), zg_n (by omega)]
  rfl
theorem zo_D {d : Nat} (hd : d < 30) : zo 167 12 (nI (53 + 3 * d)) = true := zo_dev hd
theorem c_alive {D p v : Nat} (P : PC C) (hD : zo 167 12 (nI D) = true) (hDl : D < 500) (hA : zo 167 14 (nI (D + p)) = true) (hp : p ≤ 2) (e3 : C D 3 = nI (D + p)) (hv : v < 10) (e : C (D + p) 0 = nI (43 + v)) : fX2_isAlive 167 C (nI D) = some (if C (D + p) 1 = C (43 + v) 1 then (if nI v < C D 8 then 0 else 1) else 0, C) := by
  rw [fX2_isAlive, zd_t hD, zg_n (by omega), e3, zd_t hA, fX4_isWholeNotBelow, zd_t hA, zg_n (by omega), e, if_neg (nI_pos (by omega)), zd_t (zo_ver hv), zg_n (by omega), zg_n (by omega), zg_n (by omega), zg_n (by omega), P.vn hv]
  by_cases h1 : C (D + p) 1 = C (43 + v) 1
  · rw [if_pos h1, if_pos h1]
    by_cases h2 : nI v < C D 8
    · rw [if_pos h2, if_pos h2]
      rfl
    · rw [if_neg h2, if_neg h2]
      rfl
  · rw [if_neg h1, if_neg h1]
    rfl
theorem m_alive {d o v : Nat} (Q : PM M) (hd : d < 30) (ho : o = 0 ∨ o = 1) (e1 : M 156 d = nI o) (hv : v < 10) (e2 : M 157 (2 * d + o) = nI v) : fX8_isAlive 167 M (nI 143) (nI d) = some (if M 158 (2 * d + o) = M 147 v then (if nI v < M 161 d then 0 else 1) else 0, M) := by
  have hne : ¬ nI v = -1000000 := by
    intro q
    have := congrArg Int32.toInt q
    rw [nIt (by omega), show (-1000000 : Int32).toInt = -1000000 from by decide] at this
    omega
  rw [fX8_isAlive, zd_t zo_143, show zg M (nI 143) 16 = nI 156 from Q.m16, zd_t (za_156 hd), zbd_e, show zg M (nI 143) 17 = nI 157 from Q.m17, show zg M (nI 143) 18 = nI 158 from Q.m18, show zg M (nI 143) 6 = nI 147 from Q.m6, show zg M (nI 143) 21 = nI 161 from Q.m21, ze_n (by decide) (by omega), e1, ix2, zd_t (za_157 (by omega)), ze_n (by decide) (by omega), e2, if_neg hne, zd_t (za_158 (by omega)), zd_t (za_147 hv), zd_t (za_161 hd), ze_n (by decide) (by omega), ze_n (by decide) (by omega), ze_n (by decide) (by omega)]
  by_cases h1 : M 158 (2 * d + o) = M 147 v
  · rw [if_pos h1, if_pos h1]
    by_cases h2 : nI v < M 161 d
    · rw [if_pos h2, if_pos h2]
    · rw [if_neg h2, if_neg h2]
  · rw [if_neg h1, if_neg h1]
theorem ok_told (R : R2 vc dc C M) (x y : Int32) : Same (fX7_told 167 C (nI 0) x y) (fX8_told 167 M (nI 143) x y) C M := by
  obtain ⟨P, Q, ⟨-, sd⟩, -, ⟨hvc, cv, mv, vs⟩, -, -, ⟨hdc, cd, md, hd1, -⟩, -⟩ := R.thrown 0
  by_cases h1 : zin x dc
  · by_cases h2 : zin y 9
    · obtain ⟨d, hd, rfl⟩ := zin_ex (by omega) h1
      obtain ⟨j, hj, rfl⟩ := zin_ex (by omega) h2
      obtain ⟨p, o, k, v, f, hp, ho, hk, hv, hf, a3, a4, a5, b5, a6, b6, a7, a1, b1, hh, a9, a10, a8, b8, s0, t0, s1, sp, sq⟩ := hd1 d hd
      obtain ⟨bl, fl, -, -, -, vb1, vb2, -⟩ := vs v hv
      have hd30 : d < 30 := by omega
      have mI := in_i (n := 167) (S := zup M 143 0 0) (a := (nI j).toInt64) (lo := 0) (hi := 8) (by rw [z64]; exact h2.1) (by rw [z64]; exact Int.lt_add_one_iff.mp h2.2)
      have hr : ∃ r : Int32, fX7_told 167 C (nI 0) (nI d) (nI j) = some (r, C) ∧ fX8_told 167 M (nI 143) (nI d) (nI j) = some (r, zup M 143 0 0) := by
        rw [fX7_told, zd_t zo_0, cDe_i cd hdc h1, zca_some, if_neg ne10, zd_t (c_za18 P hd30), c_devp P hd30, zbd_e, fX8_told, zd_t zo_143, zbd_e, zp_n (by decide), mDe_i md hdc h1, zca_some, if_neg ne10, mI, zca_some, if_neg ne10]
        rcases (show j = 0 ∨ j = 1 ∨ j = 2 ∨ j = 3 ∨ j = 4 ∨ j = 5 ∨ j = 6 ∨ j = 7 ∨ j = 8 by omega) with rfl | rfl | rfl | rfl | rfl | rfl | rfl | rfl | rfl
        · refine ⟨nI v, ?_, ?_⟩
          · rw [if_pos (by decide), zd_t (zo_dev hd30), zg_n (by omega), a3, zd_t (zo_slp hd30 hp), c_vn P (zo_slp hd30 hp) (by omega) (by omega) s0, zca_some]
          · rw [if_pos (by decide), m_on Q hd30 ho b5 t0, zca_some]
        · refine ⟨nI o, ?_, ?_⟩
          · rw [if_neg (by decide), if_pos (by decide), zd_t (zo_dev hd30), zg_n (by omega), a5]
          · rw [if_neg (by decide), if_pos (by decide), show zg (zup M 143 0 0) (nI 143) 16 = nI 156 from Q.m16, zd_t (za_156 hd30), ze_n (by decide) (by omega), b5]
        · refine ⟨zup M 143 0 0 157 (2 * d + (1 - o)), ?_, ?_⟩
          · rw [if_neg (by decide), if_neg (by decide), if_pos (by decide), zd_t (zo_dev hd30), zg_n (by omega), a4, zd_t (zo_slq hd30 hp)]
            rcases sp with ⟨q1, q2⟩ | ⟨w, hw, q1, q2⟩
            · rw [c_vn0 (zo_slq hd30 hp) (by omega) q1, zca_some, q2]
            · rw [c_vn P (zo_slq hd30 hp) (by omega) (by omega) q1, zca_some, q2]
          · rw [if_neg (by decide), if_neg (by decide), if_pos (by decide), m_oth Q hd30 ho b5, zca_some, show zg (zup M 143 0 0) (nI 143) 17 = nI 157 from Q.m17, zd_t (za_157 (by omega)), ze_n (by decide) (by omega)]
        · refine ⟨zup M 143 0 0 158 (2 * d + (1 - o)), ?_, ?_⟩
          · rw [if_neg (by decide), if_neg (by decide), if_neg (by decide), if_pos (by decide), zd_t (zo_dev hd30), zg_n (by omega), a4, zd_t (zo_slq hd30 hp), zg_n (by omega), sq]
          · rw [if_neg (by decide), if_neg (by decide), if_neg (by decide), if_pos (by decide), m_oth Q hd30 ho b5, zca_some, show zg (zup M 143 0 0) (nI 143) 18 = nI 158 from Q.m18, zd_t (za_158 (by omega)), ze_n (by decide) (by omega)]
        · refine ⟨0, ?_, ?_⟩
          · rw [if_neg (by decide), if_neg (by decide), if_neg (by decide), if_neg (by decide), if_pos (by decide), zd_t (zo_dev hd30), zg_n (by omega), a7]
          · rw [if_neg (by decide), if_neg (by decide), if_neg (by decide), if_neg (by decide), if_pos (by decide), show zg (zup M 143 0 0) (nI 143) 19 = nI 159 from Q.m19, zd_t (za_159 hd30), ze_n (by decide) (by omega), b6, if_pos rfl]
        · refine ⟨nI f, ?_, ?_⟩
          · rw [if_neg (by decide), if_neg (by decide), if_neg (by decide), if_neg (by decide), if_neg (by decide), if_pos (by decide), zd_t (zo_dev hd30), zg_n (by omega), a8]
          · rw [if_neg (by decide), if_neg (by decide), if_neg (by decide), if_neg (by decide), if_neg (by decide), if_pos (by decide), show zg (zup M 143 0 0) (nI 143) 21 = nI 161 from Q.m21, zd_t (za_161 hd30), ze_n (by decide) (by omega), b8]
        · refine ⟨zup M 143 0 0 162 d, ?_, ?_⟩
          · rw [if_neg (by decide), if_neg (by decide), if_neg (by decide), if_neg (by decide), if_neg (by decide), if_neg (by decide), if_pos (by decide), zd_t (zo_dev hd30), zg_n (by omega), a9]
          · rw [if_neg (by decide), if_neg (by decide), if_neg (by decide), if_neg (by decide), if_neg (by decide), if_neg (by decide), if_pos (by decide), show zg (zup M 143 0 0) (nI 143) 22 = nI 162 from Q.m22, zd_t (za_162 hd30), ze_n (by decide) (by omega)]
        · refine ⟨zdraw d (C 0 8), ?_, ?_⟩
          · rw [if_neg (by decide), if_neg (by decide), if_neg (by decide), if_neg (by decide), if_neg (by decide), if_neg (by decide), if_neg (by decide), if_pos (by decide), c_draw P hd30, zca_some]
          · rw [if_neg (by decide), if_neg (by decide), if_neg (by decide), if_neg (by decide), if_neg (by decide), if_neg (by decide), if_neg (by decide), if_pos (by decide), m_draw hd30, zca_some, ← sd]
        · refine ⟨if C (53 + 3 * d + p) 1 = C (43 + v) 1 then (if nI v < C (53 + 3 * d) 8 then 0 else 1) else 0, ?_, ?_⟩
          · rw [if_neg (by decide), if_neg (by decide), if_neg (by decide), if_neg (by decide), if_neg (by decide), if_neg (by decide), if_neg (by decide), if_neg (by decide), if_pos (by decide), zd_t (zo_dev hd30), c_alive P (zo_dev hd30) (by omega) (zo_slp hd30 hp) (by omega) a3 (by omega) s0, zca_some]
            exact zbool _ rfl
          · rw [if_neg (by decide), if_neg (by decide), if_neg (by decide), if_neg (by decide), if_neg (by decide), if_neg (by decide), if_neg (by decide), if_neg (by decide), m_alive Q hd30 ho b5 (by omega) t0, zca_some, ← s1, vb1, ← vb2, a8, ← b8]
            exact zbool _ rfl
      obtain ⟨r, q1, q2⟩ := hr
      exact bad_same R (r := r) q1 q2
    · obtain ⟨d, hd, rfl⟩ := zin_ex (by omega) h1
      refine bad_same R (r := -1000001) ?_ ?_
      · have ne : ∀ j : Nat, j < 9 → ¬ y = nI j := fun j hj q => h2 (by rw [q]; exact zin_nI (by omega) hj)
        rw [fX7_told, zd_t zo_0, cDe_i cd hdc h1, zca_some, if_neg ne10, zd_t (c_za18 P (by omega)), c_devp P (by omega), zbd_e, if_neg (show ¬ y = 0 from ne 0 (by decide)), if_neg (show ¬ y = 1 from ne 1 (by decide)), if_neg (show ¬ y = 2 from ne 2 (by decide)), if_neg (show ¬ y = 3 from ne 3 (by decide)), if_neg (show ¬ y = 4 from ne 4 (by decide)), if_neg (show ¬ y = 5 from ne 5 (by decide)), if_neg (show ¬ y = 6 from ne 6 (by decide)), if_neg (show ¬ y = 7 from ne 7 (by decide)), if_neg (show ¬ y = 8 from ne 8 (by decide))]
      · rw [fX8_told, zd_t zo_143, zbd_e, zp_n (by decide), mDe_i md hdc h1, zca_some, if_neg ne10, in_o (by rw [z64]; show y.toInt < 0 ∨ 8 < y.toInt; unfold zin at h2; omega), zca_some, if_pos rfl]
  · refine bad_same R (r := -1000001) ?_ ?_
    · rw [fX7_told, zd_t zo_0, cDe_o cd hdc h1, zca_some, if_pos rfl]
    · rw [fX8_told, zd_t zo_143, zbd_e, zp_n (by decide), mDe_o md hdc h1, zca_some, if_pos rfl]
end TOL
