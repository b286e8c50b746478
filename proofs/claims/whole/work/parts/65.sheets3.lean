theorem zt1 : (1 : Int32).toInt = 1 := by decide
/-- what a lane keeps of an int -/
def zlane (l : Nat) (v : Int32) : Int32 := if l = 0 then v.toInt8.toInt32 else if l = 1 then v.toInt16.toInt32 else v
section SH3
variable {C M : zM} {vc dc : Nat}
theorem c_put31 (P : PC C) {i t : Nat} (hi : i < 8) (ht : t < 60) (w : Int32) : fX3_put_31 167 C (nI (27 + 2 * i)) (nI t) w (nI t) (nI (28 + 2 * i)) = some (w, zup C (28 + 2 * i) t w) := by
  have P1 : PC (zup C (28 + 2 * i) t w) := P.up (zp0_sh (by unfold gSh; omega))
  rw [fX3_put_31, zd_t (za_items hi ht), zbd_e, zq_n (by omega) (by omega), zd_t (zo_sheet hi), zg_n (by omega), P1.si hi, zd_t (za_items hi ht), ze_n (by omega) (by omega), zup_s]
theorem c_put (P : PC C) {i t l : Nat} (hi : i < 8) (ht : t < 60) (hl : l < 3) (e : C (27 + 2 * i) 2 = nI l) (v : Int32) : fX3_put 167 C (nI (27 + 2 * i)) (nI t) v = some (zlane l v, zup C (28 + 2 * i) t (zlane l v)) := by
  rw [fX3_put, zd_t (zo_sheet hi), zg_n (by omega), zg_n (by omega), e, P.si hi]
  rcases (show l = 0 ∨ l = 1 ∨ l = 2 by omega) with rfl | rfl | rfl
  · rw [if_pos (show nI 0 = 0 from rfl), c_put31 P hi ht]
    rfl
  · rw [if_neg (by decide), if_pos (show nI 1 = 1 from rfl), c_put31 P hi ht]
    rfl
  · rw [if_neg (by decide), if_neg (by decide), c_put31 P hi ht]
    rfl
theorem m_put99 (Q : PM M) {i t : Nat} (hi : i < 8) (ht : t < 60) (w y : Int32) : fX8_set_99 167 M (nI 143) (nI i) (nI t) w (nI (60 * i + t)) (nI 146) = some (w, zup M 146 (60 * i + t) w) := by
  have Q1 : PM (zup M 146 (60 * i + t) w) := Q.up (fun q => by omega)
  rw [fX8_set_99, zd_t (za_146 (by omega)), zbd_e, zq_n (by omega) (by omega), zd_t zo_143, zg_n (by omega), Q1.m4, ix60, zd_t (za_146 (by omega)), ze_n (by omega) (by omega), zup_s]
theorem ok_set (R : R2 vc dc C M) (s j v : Int32) : Same (fX7_set 167 C (nI 0) s j v) (fX8_set 167 M (nI 143) s j v) C M := by
  have P := R.1
  have Q := R.2.1
  by_cases h1 : zin s 8
  · obtain ⟨i, hi, rfl⟩ := zin_ex (by decide) h1
    have hsp := c_sheetp P hi
    have Q1 := m1_up Q
    have rs := R.2.2.2.1 i hi
    obtain ⟨m, hm, b1, b2⟩ := rs.2.1
    have eC : fX7_set 167 C (nI 0) (nI i) j v = if C (27 + 2 * i) 1 = 0 then zca (fX3_hasPlaces 167 C (nI (27 + 2 * i)) j 1) fun r11 S12 => if r11 = 0 then zca (fX7_found 167 S12 (nI 0) 2) fun r21 S22 => some (r21, S22) else zca (fX3_put 167 S12 (nI (27 + 2 * i)) j v) fun r15 S16 => zca (fX7_passed 167 S16 (nI 0) r15) fun r18 S19 => some (r18, S19) else zca (fX7_found 167 C (nI 0) 1) fun r16 S17 => some (r16, S17) := by
      rw [fX7_set, cSh_i h1, zca_some, if_neg ne10, zd_t zo_0, zd_t (by rw [show zg C (nI 0) 0 = nI 1 from P.c00]; exact za_1 hi), hsp, zbd_e, zd_t (zo_sheet hi), zg_n (by omega)]
    have eM : fX8_set 167 M (nI 143) (nI i) j v = if 0 ≤ M 144 i then zca (fX8_in 167 (zup (zup M 143 0 0) 143 1 0) j.toInt64 0 (M 145 i - 1).toInt64) fun r13 S14 => if r13 = 0 then zca (fX8_found 167 S14 (nI 143) 2) fun r20 S21 => some (r20, S21) else zd (za 167 0 (zg S14 (nI 143) 2) (nI i)) <| if ze S14 (zg S14 (nI 143) 2) (nI i) = 0 then fX8_set_99 167 S14 (nI 143) (nI i) j v.toInt8.toInt32 (60 * nI i + j) (zg S14 (nI 143) 4) else if ze S14 (zg S14 (nI 143) 2) (nI i) = 1 then fX8_set_99 167 S14 (nI 143) (nI i) j v.toInt16.toInt32 (60 * nI i + j) (zg S14 (nI 143) 4) else fX8_set_99 167 S14 (nI 143) (nI i) j v (60 * nI i + j) (zg S14 (nI 143) 4) else zca (fX8_found 167 (zup (zup M 143 0 0) 143 1 0) (nI 143) 1) fun r15 S16 => some (r15, S16) := by
      rw [fX8_set, zd_t zo_143, zbd_e, mSh_i h1, zca_some, if_neg ne10, zbd_e, zp_n (by decide), zp_n (by decide), show zg (zup (zup M 143 0 0) 143 1 0) (nI 143) 2 = nI 144 from Q1.m2, zd_t (za_144 hi), ze_n (by decide) (by omega), zup_off (by omega), zup_off (by omega), show zg (zup (zup M 143 0 0) 143 1 0) (nI 143) 3 = nI 145 from Q1.m3, zd_t (za_145 hi), ze_n (by decide) (by omega), zup_off (by omega), zup_off (by omega)]
    rcases rs.1 with ⟨a1, a2⟩ | ⟨a1, l, hl, a2, a3⟩
    · refine found_same R (r := -1000010 - 1) (y := 1) ?_ ?_
      · rw [eC, a1, if_neg ne10]
        rfl
      · rw [eM, a2, if_neg (by decide), m_found]
        rfl
    · rw [a1, if_pos rfl] at eC
      rw [a3, if_pos (nI_pos' (by omega)), b2] at eM
      by_cases hj : zin j m
      · obtain ⟨t, ht, rfl⟩ := zin_ex (by omega) hj
        obtain ⟨j1, j2⟩ := hj
        rw [c_has_i hi hm b1 ⟨j1, by decide, by rw [nIt (by omega)]; show (t : Int) + 1 ≤ m; omega⟩, zca_some, if_neg ne10, c_put P hi (by omega) hl a2, zca_some, cPassed, zca_some] at eC
        rw [in_i (by rw [z64]; exact j1) (by rw [z64, z64, nIs (by omega)]; omega), zca_some, if_neg ne10, show zg (zup (zup M 143 0 0) 143 1 0) (nI 143) 2 = nI 144 from Q1.m2, zd_t (za_144 hi), ze_n (by decide) (by omega), zup_off (by omega), zup_off (by omega), a3, show zg (zup (zup M 143 0 0) 143 1 0) (nI 143) 4 = nI 146 from Q1.m4, ix60, m_put99 Q1 hi (by omega) _ 0, m_put99 Q1 hi (by omega) _ 0, m_put99 Q1 hi (by omega) _ 0] at eM
        have eM2 : fX8_set 167 M (nI 143) (nI i) (nI t) v = some (zlane l v, zup (zup (zup M 143 0 0) 143 1 0) 146 (60 * i + t) (zlane l v)) := by
          rw [eM]
          rcases (show l = 0 ∨ l = 1 ∨ l = 2 by omega) with rfl | rfl | rfl <;> rfl
        refine ⟨_, _, _, vc, dc, eC, eM2, R.shs ?_ ?_ ?_ ?_, (FC.rf.up (by omega)).up (by decide), ((FM.rf.up (by decide)).up (by decide)).up (by decide)⟩
        · intro a j h
          unfold gSh at h
          rw [zup_off (by omega), zup_off (by omega)]
        · intro a j h
          unfold gShM at h
          rw [zup_off (by omega), zup_off (by omega), zup_off (by omega)]
        · rw [zup_s, zup_off (by omega), zup_s]
        · refine rsh_off (i := i) R.2.2.2.1 (fun q j hq hne => ⟨?_, ?_⟩) (fun q hq hne => ⟨?_, ?_, fun j hj => ?_⟩) ⟨Or.inr ⟨?_, l, hl, ?_, ?_⟩, ⟨m, hm, ?_, ?_⟩, fun j hj => ?_⟩
          · rw [zup_off (by omega), zup_off (by omega)]
          · rw [zup_off (by omega), zup_off (by omega)]
          · rw [zup_off (by omega), zup_off (by omega), zup_off (by omega)]
          · rw [zup_off (by omega), zup_off (by omega), zup_off (by omega)]
          · rw [zup_off (by omega), zup_off (by omega), zup_off (by omega)]
          · rw [zup_off (by omega), zup_off (by omega)]
            exact a1
          · rw [zup_off (by omega), zup_off (by omega)]
            exact a2
          · rw [zup_off (by omega), zup_off (by omega), zup_off (by omega)]
            exact a3
          · rw [zup_off (by omega), zup_off (by omega)]
            exact b1
          · rw [zup_off (by omega), zup_off (by omega), zup_off (by omega)]
            exact b2
          · by_cases e : j = t
            · subst e
              rw [zup_off (by omega), zup_s, zup_s]
            · rw [zup_off (by omega), zup_off (by omega), zup_off (by omega), zup_off (by omega), zup_off (by omega)]
              exact rs.2.2 j hj
      · refine found_same R (r := -1000010 - 2) (y := 2) ?_ ?_
        · rw [eC, c_has_o hi hm b1 (fun q => hj ⟨q.1, by have h9 := q.2.2; rw [zt1] at h9; omega⟩), zca_some, if_pos rfl]
          rfl
        · rw [eM, in_o (by rw [z64, z64, nIs (by omega)]; show j.toInt < 0 ∨ _; unfold zin at hj; omega), zca_some, if_pos rfl, m_found]
          rfl
  · refine bad_same R (r := -1000001) ?_ ?_
    · rw [fX7_set, cSh_o h1, zca_some, if_pos rfl]
    · rw [fX8_set, zd_t zo_143, zbd_e, mSh_o h1, zca_some, if_pos rfl]
      all_goals rfl
end SH3
def mcp (M : zM) (p q lo hi : Nat) : zM := fun a t => if a = 146 ∧ q + lo ≤ t ∧ t < q + hi then M 146 (p + (t - q)) else M a t
theorem mcp_0 {M : zM} {p q lo : Nat} : mcp M p q lo lo = M := by
  funext a t
  exact if_neg (by omega)
theorem mcp_up {M : zM} {p q k : Nat} (h : q ≤ p ∨ p + (k + 1) ≤ q) : zup (mcp M p q 0 k) 146 (q + k) (mcp M p q 0 k 146 (p + k)) = mcp M p q 0 (k + 1) := by
  have e : mcp M p q 0 k 146 (p + k) = M 146 (p + k) := if_neg (by omega)
  rw [e]
  funext a t
  unfold zup mcp
  by_cases h1 : a = 146 ∧ t = q + k
  · obtain ⟨rfl, rfl⟩ := h1
    rw [if_pos ⟨rfl, rfl⟩, if_pos (by omega), show q + k - q = k by omega]
  · rw [if_neg h1]
    by_cases h2 : a = 146 ∧ q + 0 ≤ t ∧ t < q + k
    · rw [if_pos h2, if_pos (by omega)]
    · rw [if_neg h2, if_neg (by omega)]
theorem mcp_dn {M : zM} {p q k n : Nat} (hk : k < n) (h : p ≤ q ∨ q + n ≤ p) : zup (mcp M p q (n - k) n) 146 (q + (n - 1 - k)) (mcp M p q (n - k) n 146 (p + (n - 1 - k))) = mcp M p q (n - (k + 1)) n := by
  have e : mcp M p q (n - k) n 146 (p + (n - 1 - k)) = M 146 (p + (n - 1 - k)) := if_neg (by omega)
  rw [e]
  funext a t
  unfold zup mcp
  by_cases h1 : a = 146 ∧ t = q + (n - 1 - k)
  · obtain ⟨rfl, rfl⟩ := h1
    rw [if_pos ⟨rfl, rfl⟩, if_pos (by omega), show q + (n - 1 - k) - q = n - 1 - k by omega]
  · rw [if_neg h1]
    by_cases h2 : a = 146 ∧ q + (n - k) ≤ t ∧ t < q + n
    · rw [if_pos h2, if_pos (by omega)]
    · rw [if_neg h2, if_neg (by omega)]
theorem mcp_pm {M : zM} {p q lo hi : Nat} (Q : PM M) : PM (mcp M p q lo hi) := fun j v h => (if_neg (by omega)).trans (Q j v h)
theorem ix60b (a i k : Nat) : (60 : Int32) * nI a + nI i + nI k = nI (60 * a + i + k) := by rw [ix60, nI_add]
theorem cp_up {a i b j n : Nat} (ha : a < 8) (hb : b < 8) (hi : i + n ≤ 60) (hj : j + n ≤ 60) (h : 60 * b + j ≤ 60 * a + i ∨ 60 * a + i + n ≤ 60 * b + j) (M : zM) (Q : PM M) : ∀ (r k fu : Nat), k + r = n → r < fu → fX8_copy_143 167 fu (mcp M (60 * a + i) (60 * b + j) 0 k) (nI 143) (nI a) (nI i) (nI b) (nI j) (nI n) 1 (nI k) = some (nI n, mcp M (60 * a + i) (60 * b + j) 0 n)
  | _, _, 0, _, hf => absurd hf (Nat.not_lt_zero _)
  | 0, k, fu + 1, hk, _ => by
    have e : k = n := by omega
    subst e
    rw [fX8_copy_143, if_pos (by exact Int32.le_refl _)]
  | r + 1, k, fu + 1, hk, hf => by
    have Q1 : PM (mcp M (60 * a + i) (60 * b + j) 0 k) := mcp_pm Q
    rw [fX8_copy_143, if_neg (nI_ge (by omega) (by omega)), if_neg (by decide), fX8_copy_167, zbd_e, zd_t zo_143, show zg (mcp M (60 * a + i) (60 * b + j) 0 k) (nI 143) 4 = nI 146 from Q1.m4, ix60b, ix60b, zd_t (za_146 (by omega)), zd_t (za_146 (by omega)), zbd_e, ze_n (by decide) (by omega), zq_n (by decide) (by omega), zbd_e, nI_1, mcp_up (by omega)]
    exact cp_up ha hb hi hj h M Q r (k + 1) fu (by omega) (by omega)
theorem cp_dn {a i b j n : Nat} (ha : a < 8) (hb : b < 8) (hi : i + n ≤ 60) (hj : j + n ≤ 60) (h : 60 * a + i ≤ 60 * b + j ∨ 60 * b + j + n ≤ 60 * a + i) (M : zM) (Q : PM M) : ∀ (r k fu : Nat), k + r = n → r < fu → fX8_copy_143 167 fu (mcp M (60 * a + i) (60 * b + j) (n - k) n) (nI 143) (nI a) (nI i) (nI b) (nI j) (nI n) 0 (nI k) = some (nI n, mcp M (60 * a + i) (60 * b + j) 0 n)
  | _, _, 0, _, hf => absurd hf (Nat.not_lt_zero _)
  | 0, k, fu + 1, hk, _ => by
    have e : k = n := by omega
    subst e
    rw [fX8_copy_143, if_pos (by exact Int32.le_refl _), Nat.sub_self]
  | r + 1, k, fu + 1, hk, hf => by
    have Q1 : PM (mcp M (60 * a + i) (60 * b + j) (n - k) n) := mcp_pm Q
    have e1 : nI n - 1 - nI k = nI (n - 1 - k) := by
      rw [show (1 : Int32) = nI 1 from rfl, pk_sub (by omega), pk_sub (by omega)]
    rw [fX8_copy_143, if_neg (nI_ge (by omega) (by omega)), if_pos rfl, e1, fX8_copy_167, zbd_e, zd_t zo_143, show zg (mcp M (60 * a + i) (60 * b + j) (n - k) n) (nI 143) 4 = nI 146 from Q1.m4, ix60b, ix60b, zd_t (za_146 (by omega)), zd_t (za_146 (by omega)), zbd_e, ze_n (by decide) (by omega), zq_n (by decide) (by omega), zbd_e, nI_1, mcp_dn (by omega) (by omega)]
    exact cp_dn ha hb hi hj h M Q r (k + 1) fu (by omega) (by omega)
