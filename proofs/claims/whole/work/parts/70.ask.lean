theorem PC.of {C0 C : zM} (h : PC C0) (e : ∀ a j, zp0 a j ≠ none → C a j = C0 a j) : PC C := fun a j v hv => by
  rw [e a j (by rw [hv]; exact nofun)]
  exact h a j v hv
theorem PM.of {M0 M : zM} (h : PM M0) (e : ∀ j, zp1 j ≠ none → M 143 j = M0 143 j) : PM M := fun j v hv => by
  rw [e j (by rw [hv]; exact nofun)]
  exact h j v hv
section ASK
variable {C M C0 M0 M' : zM} {vc dc d : Nat} {z y : Int32}
theorem kindsB (P : PC C) (Q : PM M') (hd : d < 30) (hvc : vc ≤ 10) (cv : C 0 2 = nI vc) (mv : M' 143 5 = nI vc) (hM : ∀ a j, 154 ≤ a → a ≤ 163 → M' a j = M a j) (h : RD1 vc C M d) : ∃ z : Int32, (z = 0 ∨ z = 1 ∨ z = 2 ∨ z = 3) ∧ fX7_kindOf 167 C (nI 0) (nI (53 + 3 * d)) = some (z, C) ∧ fX8_kindOf 167 M' (nI 143) (nI d) = some (z, M') := by
  obtain ⟨p, o, k, v, f, hp, ho, hk, hv, hf, a3, a4, a5, b5, a6, b6, a7, a1, b1, hh, a9, a10, a8, b8, s0, t0, s1, sp, sq⟩ := h
  refine ⟨zkind vc v (M 162 d) (M 163 d), zkind_in, ?_, ?_⟩
  · rw [c_kind P (zo_dev hd) (by omega) (zo_slp hd hp) (by omega) a3 (by omega) s0 cv, a9, a10]
  · rw [m_kind Q hd ho (by rw [hM _ _ (by omega) (by omega)]; exact b5) (by rw [hM _ _ (by omega) (by omega)]; exact t0) mv, hM _ _ (by omega) (by omega), hM _ _ (by omega) (by omega)]
theorem kindM (P : PC C) (Q : PM M') (hd : d < 30) (hvc : vc ≤ 10) (cv : C 0 2 = nI vc) (mv : M' 143 5 = nI vc) (hM : ∀ a j, 154 ≤ a → a ≤ 163 → M' a j = M a j) (h : RD1 vc C M d) (hk : fX7_kindOf 167 C (nI 0) (nI (53 + 3 * d)) = some (z, C)) : fX8_kindOf 167 M' (nI 143) (nI d) = some (z, M') := by
  obtain ⟨z', -, k1, k2⟩ := kindsB P Q hd hvc cv mv hM h
  rw [k1] at hk
  cases hk
  exact k2
theorem c_ofk {D : Int32} (k1 : fX7_kindOf 167 C (nI 0) D = some (z, C)) : fX7_isOfKind 167 C (nI 0) D y = some (if y = 0 ∨ y = z ∨ (y = 1 ∧ z = 2) then 1 else 0, C) := by
  rw [fX7_isOfKind, zd_t zo_0, k1, zca_some, zbd_e]
  by_cases h1 : y = 0
  · rw [if_pos h1, if_pos (Or.inl h1)]
  · rw [if_neg h1]
    by_cases h2 : y = z
    · rw [if_pos h2, if_pos (Or.inr (Or.inl h2))]
    · rw [if_neg h2]
      by_cases h3 : y = 1
      · rw [if_pos h3]
        by_cases h4 : z = 2
        · rw [if_pos h4, if_pos (Or.inr (Or.inr ⟨h3, h4⟩))]
        · rw [if_neg h4, if_neg (fun q => q.elim h1 fun q => q.elim h2 fun q => h4 q.2)]
      · rw [if_neg h3, if_neg (fun q => q.elim h1 fun q => q.elim h2 fun q => h3 q.1)]
theorem m_ofk {α : Type} {A B : α} : (if y = 0 then A else if z = y then A else if y = 1 then if z = 2 then A else B else B) = if y = 0 ∨ y = z ∨ (y = 1 ∧ z = 2) then A else B := by
  by_cases h1 : y = 0
  · rw [if_pos h1, if_pos (Or.inl h1)]
  · rw [if_neg h1]
    by_cases h2 : z = y
    · rw [if_pos h2, if_pos (Or.inr (Or.inl h2.symm))]
    · rw [if_neg h2]
      by_cases h3 : y = 1
      · rw [if_pos h3]
        by_cases h4 : z = 2
        · rw [if_pos h4, if_pos (Or.inr (Or.inr ⟨h3, h4⟩))]
        · rw [if_neg h4, if_neg (fun q => q.elim h1 fun q => q.elim (fun q => h2 q.symm) fun q => h4 q.2)]
      · rw [if_neg h3, if_neg (fun q => q.elim h1 fun q => q.elim (fun q => h2 q.symm) fun q => h3 q.1)]
theorem zin_le {k : Nat} {x b : Int32} (hb : b.toInt + 1 = k) (h : zin x k) : ¬ x < 0 ∧ x ≤ b := by
  obtain ⟨h1, h2⟩ := h
  exact ⟨by rw [zlt0]; omega, by rw [Int32.le_iff_toInt_le]; omega⟩
theorem ok_as (R : R2 vc dc C M) (x y : Int32) : Same (fX7_as 167 C (nI 0) x y) (fX8_as 167 M (nI 143) x y) C M := by
  obtain ⟨P, Q, -, -, ⟨hvc, cv, mv, -⟩, -, -, ⟨hdc, cd, md, hd1, -⟩, -⟩ := R.thrown 0
  by_cases h1 : zin x dc
  · by_cases h2 : zin y 4
    · obtain ⟨d, hd, rfl⟩ := zin_ex (by omega) h1
      have hd30 : d < 30 := by omega
      have Q1 := m1_up R.2.1
      obtain ⟨z, -, k1, k2⟩ := kindsB (M' := zup (zup M 143 0 0) 143 1 0) P Q1 hd30 hvc cv (by exact mv) (fun a j _ _ => by rw [zup_off (by omega)]) (hd1 d hd)
      obtain ⟨q1, q2⟩ := zin_le (b := 3) (by decide) h2
      obtain ⟨p, o, k, v, f, hp, ho, hk, hv, hf, a3, a4, a5, b5, a6, b6, a7, a1, b1, -⟩ := hd1 d hd
      have eC : fX7_as 167 C (nI 0) (nI d) y = if y = 0 ∨ y = z ∨ (y = 1 ∧ z = 2) then some (nI k, zup C 0 10 0) else some (-1000010 - 3, zup C 0 10 3) := by
        rw [fX7_as, zd_t zo_0, cDe_i cd hdc h1, zca_some, if_neg ne10, if_neg q1, if_pos q2, zd_t (c_za18 P hd30), c_devp P hd30, zbd_e, c_ofk k1, zca_some]
        by_cases w : y = 0 ∨ y = z ∨ (y = 1 ∧ z = 2)
        · rw [if_pos w, if_pos w, if_neg ne10, zd_t (zo_dev hd30), cPassed, zca_some, zg_n (by omega), a1]
        · rw [if_neg w, if_neg w, if_pos rfl, cFound, zca_some]
      have eM : fX8_as 167 M (nI 143) (nI d) y = if y = 0 ∨ y = z ∨ (y = 1 ∧ z = 2) then some (nI k, zup (zup M 143 0 0) 143 1 0) else some (-1000010 - 3, zup (zup M 143 0 0) 143 1 3) := by
        rw [fX8_as, zd_t zo_143, zbd_e, zp_n (by decide), mDe_i md hdc h1, zca_some, if_neg ne10, in_i (by rw [z64]; exact h2.1) (by rw [z64]; exact Int.lt_add_one_iff.mp h2.2), zca_some, if_neg ne10, zbd_e, zp_n (by decide), k2, zca_some, zbd_e, m_ofk]
        congr 1
        · rw [fX8_as_58, zd_t zo_143, show zg (zup (zup M 143 0 0) 143 1 0) (nI 143) 14 = nI 154 from Q1.m14, zd_t (za_154 hd30), ze_n (by decide) (by omega), zup_off (by omega)]
          exact congrArg (fun w => some (w, zup (zup M 143 0 0) 143 1 0)) b1
        · rw [fX8_as_67, zd_t zo_143, m_found, zca_some]
      rw [eC, eM]
      by_cases w : y = 0 ∨ y = z ∨ (y = 1 ∧ z = 2)
      · rw [if_pos w, if_pos w]
        exact found_same R (y := 0) rfl rfl
      · rw [if_neg w, if_neg w]
        exact found_same R (y := 3) rfl rfl
    · obtain ⟨d, hd, rfl⟩ := zin_ex (by omega) h1
      refine bad_same R (r := -1000001) ?_ ?_
      · rw [fX7_as, zd_t zo_0, cDe_i cd hdc h1, zca_some, if_neg ne10]
        by_cases w : y < 0
        · rw [if_pos w]
        · rw [if_neg w, if_neg (by rw [Int32.le_iff_toInt_le]; rw [zlt0] at w; unfold zin at h2; show ¬ y.toInt ≤ 3; omega)]
      · rw [fX8_as, zd_t zo_143, zbd_e, zp_n (by decide), mDe_i md hdc h1, zca_some, if_neg ne10, in_o (by rw [z64]; show y.toInt < 0 ∨ 3 < y.toInt; unfold zin at h2; omega), zca_some, if_pos rfl]
  · refine bad_same R (r := -1000001) ?_ ?_
    · rw [fX7_as, zd_t zo_0, cDe_o cd hdc h1, zca_some, if_pos rfl]
    · rw [fX8_as, zd_t zo_143, zbd_e, zp_n (by decide), mDe_o md hdc h1, zca_some, if_pos rfl]
-- the trace
def AS (C0 M0 C M : zM) : Prop := RAsk C M ∧ (∀ a j, ¬ (a = 25 ∧ j = 1) → a ≠ 26 → C a j = C0 a j) ∧ ∀ a j, a ≠ 166 → ¬ (a = 143 ∧ j = 37) → M a j = M0 a j
theorem zp0_25 {j : Nat} (h : j ≠ 0) : zp0 25 j = none := by
  unfold zp0
  simp
  try (split <;> first | rfl | exact absurd rfl h)
theorem zp0_26 {j : Nat} : zp0 26 j = none := by
  unfold zp0
  simp
theorem AS.pc (h : AS C0 M0 C M) (P : PC C0) : PC C := P.of fun a j q => h.2.1 a j (fun w => by obtain ⟨rfl, rfl⟩ := w; exact q rfl) (fun w => by subst w; exact q zp0_26)
theorem AS.pm (h : AS C0 M0 C M) (Q : PM M0) : PM M := Q.of fun j q => h.2.2 143 j (by decide) (fun w => by obtain ⟨-, rfl⟩ := w; exact q rfl)
theorem AS.leave (h : AS C0 M0 C M) (P0 : PC C0) (Q0 : PM M0) (x : Int32) : ∃ C' M', fX0_leave 167 C (nI 25) x = some (0, C') ∧ fX8_began 167 M (nI 143) x = some (0, M') ∧ AS C0 M0 C' M' := by
  have P := h.pc P0
  have Q := h.pm Q0
  obtain ⟨⟨k, hk, c1, m1, r⟩, fc, fm⟩ := h
  have eC : fX0_leave 167 C (nI 25) x = if 16 ≤ nI k then some (0, C) else zd (za 167 0 (nI 26) (nI k)) <| zbd (zq C (nI 26) (nI k) x) fun S4 => zbd (zp S4 (nI 25) 1 (zg S4 (nI 25) 1 + 1)) fun S6 => some (0, S6) := by
    rw [fX0_leave, zd_t zo_25, zg_n (by decide), c1, show zg C (nI 25) 0 = nI 26 from P.c250]
  have eM : fX8_began 167 M (nI 143) x = if 16 ≤ nI k then some (0, M) else zd (za 167 0 (nI 166) (nI k)) <| zbd (zq M (nI 166) (nI k) x) fun S4 => zbd (zp S4 (nI 143) 37 (zg S4 (nI 143) 37 + 1)) fun S6 => some (0, S6) := by
    rw [fX8_began, zd_t zo_143, zg_n (by decide), m1, show zg M (nI 143) 36 = nI 166 from Q.m36]
  by_cases w : k = 16
  · subst w
    rw [if_pos (by exact Int32.le_refl _)] at eC eM
    exact ⟨C, M, eC, eM, ⟨16, hk, c1, m1, r⟩, fc, fm⟩
  · have hk2 : k < 16 := by omega
    rw [if_neg (show ¬ (16 : Int32) ≤ nI k from nI_ge (b := 16) hk2 (by decide)), zd_t (za_26 hk2), zbd_e, zq_n (by decide) (by omega), zbd_e, zp_n (by decide), zg_n (by decide), zup_off (by omega), c1, nI_1] at eC
    rw [if_neg (show ¬ (16 : Int32) ≤ nI k from nI_ge (b := 16) hk2 (by decide)), zd_t (za_166 hk2), zbd_e, zq_n (by decide) (by omega), zbd_e, zp_n (by decide), zg_n (by decide), zup_off (by omega), m1, nI_1] at eM
    refine ⟨_, _, eC, eM, ⟨k + 1, by omega, by rw [zup_s], by rw [zup_s], fun j hj => ?_⟩, fun a j q1 q2 => ?_, fun a j q1 q2 => ?_⟩
    · by_cases e : j = k
      · subst e
        rw [zup_off (by omega), zup_s, zup_off (by omega), zup_s]
      · rw [zup_off (by omega), zup_off (by omega), zup_off (by omega), zup_off (by omega)]
        exact r j hj
    · rw [zup_off (by omega), zup_off (by omega)]
      exact fc a j q1 q2
    · rw [zup_off (by omega), zup_off (by omega)]
      exact fm a j q1 q2
theorem AS.any (h : AS C0 M0 C M) (P0 : PC C0) (Q0 : PM M0) (hvc : vc ≤ 10) (hd : d < 30) {p o v : Nat} (hp : p = 1 ∨ p = 2) (ho : o = 0 ∨ o = 1) (hv : v < vc) (a3 : C0 (53 + 3 * d) 3 = nI (53 + 3 * d + p)) (b5 : M0 156 d = nI o) (s0 : C0 (53 + 3 * d + p) 0 = nI (43 + v)) (t0 : M0 157 (2 * d + o) = nI v) : ∃ C' M', fX0_worthOfAny 167 C (nI 25) (nI (53 + 3 * d)) = some (nI v, C') ∧ fX8_began 167 M (nI 143) 10 = some (0, M') ∧ fX8_runsOn 167 M' (nI 143) (nI d) = some (nI v, M') ∧ AS C0 M0 C' M' := by
  obtain ⟨C1, M1, e1, e2, h1⟩ := h.leave P0 Q0 10
  have P1 := h1.pc P0
  have Q1 := h1.pm Q0
  refine ⟨C1, M1, ?_, e2, m_on Q1 hd ho (by rw [h1.2.2 _ _ (by omega) (by omega)]; exact b5) (by rw [h1.2.2 _ _ (by omega) (by omega)]; exact t0), h1⟩
  rw [fX0_worthOfAny, zd_t zo_25, e1, zca_some, zd_t (zo_dev hd), zg_n (by omega), h1.2.1 _ _ (by omega) (by omega), a3, zd_t (zo_slp hd hp), c_vn (v := v) P1 (zo_slp hd hp) (by omega) (by omega) (by rw [h1.2.1 _ _ (by omega) (by omega)]; exact s0), zca_some]
theorem AS.worth (h : AS C0 M0 C M) (P0 : PC C0) (Q0 : PM M0) (hvc : vc ≤ 10) (hd : d < 30) (cv : C0 0 2 = nI vc) (mv : M0 143 5 = nI vc) (hD : RD1 vc C0 M0 d) (hz : z = 0 ∨ z = 1 ∨ z = 2 ∨ z = 3) (hk : fX7_kindOf 167 C0 (nI 0) (nI (53 + 3 * d)) = some (z, C0)) : ∃ r C' M', fX0_worthOf 167 C (nI 25) (nI (53 + 3 * d)) z = some (r, C') ∧ fX8_worth 167 M (nI 143) (nI d) = some (r, M') ∧ AS C0 M0 C' M' := by
  have k2 := kindM (M' := M) P0 (h.pm Q0) hd hvc cv (by rw [h.2.2 _ _ (by omega) (by omega)]; exact mv) (fun a j _ _ => h.2.2 a j (by omega) (by omega)) hD hk
  obtain ⟨p, o, k, v, f, hp, ho, -, hv, hf, a3, a4, a5, b5, a6, b6, a7, a1, b1, hh, a9, a10, a8, b8, s0, t0, s1, sp, sq⟩ := hD
  have eW : fX8_worth 167 M (nI 143) (nI d) = if z = 1 then fX8_worth_16 167 M (nI 143) (nI d) z else if z = 2 then fX8_worth_16 167 M (nI 143) (nI d) z else fX8_worth_21 167 M (nI 143) (nI d) z 0 := by
    rw [fX8_worth, zd_t zo_143, k2, zca_some, zbd_e]
  have any : ∀ {C M}, AS C0 M0 C M → ∃ C' M', fX0_worthOfAny 167 C (nI 25) (nI (53 + 3 * d)) = some (nI v, C') ∧ fX8_began 167 M (nI 143) 10 = some (0, M') ∧ fX8_runsOn 167 M' (nI 143) (nI d) = some (nI v, M') ∧ AS C0 M0 C' M' := fun h => h.any P0 Q0 hvc hd hp ho hv a3 b5 s0 t0
  rcases hz with rfl | rfl | rfl | rfl
  · obtain ⟨C1, M1, e1, e2, e3, h1⟩ := any h
    refine ⟨nI v, C1, M1, ?_, ?_, h1⟩
    · rw [fX0_worthOf, if_neg (by decide), if_neg (by decide), if_neg (by decide), zd_t zo_25, e1, zca_some]
    · rw [eW, if_neg (by decide), if_neg (by decide), fX8_worth_21, zbd_e, if_neg (by decide), fX8_worth_33, if_neg (by decide), fX8_worth_44, if_pos rfl, fX8_worth_54, zd_t zo_143, e2, zca_some, e3, zca_some, zbd_e, if_neg (by decide), if_neg (by decide), if_pos rfl]
  · obtain ⟨C1, M1, e1, e2, h1⟩ := h.leave P0 Q0 11
    obtain ⟨C2, M2, e3, e4, e5, h2⟩ := any h1
    refine ⟨nI v + 100, C2, M2, ?_, ?_, h2⟩
    · rw [fX0_worthOf, if_pos rfl, zd_t zo_25, fX0_worthOfFresh, zd_t zo_25, e1, zca_some, e3, zca_some, zca_some]
    · rw [eW, if_pos rfl, fX8_worth_16, fX8_worth_21, zbd_e, if_neg (by decide), fX8_worth_33, if_neg (by decide), fX8_worth_44, if_neg ne10, zd_t zo_143, e2, zca_some, fX8_worth_54, zd_t zo_143, e4, zca_some, e5, zca_some, zbd_e, if_neg (by decide), if_neg (by decide), if_neg ne10]
  · obtain ⟨C1, M1, e1, e2, h1⟩ := h.leave P0 Q0 12
    obtain ⟨C2, M2, e3, e4, h2⟩ := h1.leave P0 Q0 11
    obtain ⟨C3, M3, e5, e6, e7, h3⟩ := any h2
    refine ⟨2 * (nI v + 100), C3, M3, ?_, ?_, h3⟩
    · rw [fX0_worthOf, if_neg (by decide), if_pos rfl, zd_t zo_25, fX0_worthOfSettled, zd_t zo_25, e1, zca_some, fX0_worthOfFresh, zd_t zo_25, e3, zca_some, e5, zca_some, zca_some, zca_some]
    · rw [eW, if_neg (by decide), if_pos rfl, fX8_worth_16, fX8_worth_21, zbd_e, if_neg (by decide), fX8_worth_33, if_pos rfl, zd_t zo_143, e2, zca_some, fX8_worth_44, if_neg ne10, zd_t zo_143, e4, zca_some, fX8_worth_54, zd_t zo_143, e6, zca_some, e7, zca_some, zbd_e, if_neg (by decide), if_pos rfl]
  · obtain ⟨C1, M1, e1, e2, h1⟩ := h.leave P0 Q0 13
    obtain ⟨C2, M2, e3, e4, e5, h2⟩ := any h1
    refine ⟨nI v - M0 162 d, C2, M2, ?_, ?_, h2⟩
    · rw [fX0_worthOf, if_neg (by decide), if_neg (by decide), if_pos rfl, zd_t zo_25, fX0_worthOfStuck, zd_t zo_25, e1, zca_some, e3, zca_some, zd_t (zo_dev hd), zca_some, zg_n (by omega), h2.2.1 _ _ (by omega) (by omega), a9]
    · rw [eW, if_neg (by decide), if_neg (by decide), fX8_worth_21, zbd_e, if_pos rfl, zd_t zo_143, e2, zca_some, fX8_worth_33, if_neg (by decide), fX8_worth_44, if_pos rfl, fX8_worth_54, zd_t zo_143, e4, zca_some, e5, zca_some, zbd_e, if_pos rfl, show zg M2 (nI 143) 22 = nI 162 from (h2.pm Q0).m22, zd_t (za_162 hd), ze_n (by decide) (by omega), h2.2.2 _ _ (by omega) (by omega)]
theorem AS.marked (h : AS C0 M0 C M) (P0 : PC C0) (Q0 : PM M0) (hvc : vc ≤ 10) (hd : d < 30) (cv : C0 0 2 = nI vc) (mv : M0 143 5 = nI vc) (hD : RD1 vc C0 M0 d) (hz : z = 0 ∨ z = 1 ∨ z = 2 ∨ z = 3) (hk : fX7_kindOf 167 C0 (nI 0) (nI (53 + 3 * d)) = some (z, C0)) : ∃ r C' M', fX0_markOf 167 C (nI 25) (nI (53 + 3 * d)) z = some (r, C') ∧ fX8_marked 167 M (nI 143) (nI d) = some (r, M') ∧ AS C0 M0 C' M' := by
  have k2 := kindM (M' := M) P0 (h.pm Q0) hd hvc cv (by rw [h.2.2 _ _ (by omega) (by omega)]; exact mv) (fun a j _ _ => h.2.2 a j (by omega) (by omega)) hD hk
  have hD0 := hD
  obtain ⟨p, o, k, v, f, hp, ho, -, hv, hf, a3, a4, a5, b5, a6, b6, a7, a1, b1, hh, a9, a10, a8, b8, s0, t0, s1, sp, sq⟩ := hD
  have eW : fX8_marked 167 M (nI 143) (nI d) = if z = 1 then fX8_marked_16 167 M (nI 143) (nI d) z else if z = 2 then fX8_marked_16 167 M (nI 143) (nI d) z else fX8_marked_21 167 M (nI 143) (nI d) z 0 := by
    rw [fX8_marked, zd_t zo_143, k2, zca_some, zbd_e]
  have any : ∀ {C M}, AS C0 M0 C M → ∃ C' M', fX0_markOfAny 167 C (nI 25) (nI (53 + 3 * d)) = some (nI k, C') ∧ fX8_began 167 M (nI 143) 20 = some (0, M') ∧ zg M' (nI 143) 14 = nI 154 ∧ M' 154 d = nI k ∧ AS C0 M0 C' M' := fun h => by
    obtain ⟨C1, M1, e1, e2, h1⟩ := h.leave P0 Q0 20
    refine ⟨C1, M1, ?_, e2, (h1.pm Q0).m14, by rw [h1.2.2 _ _ (by omega) (by omega)]; exact b1, h1⟩
    rw [fX0_markOfAny, zd_t zo_25, e1, zca_some, zd_t (zo_dev hd), zg_n (by omega), h1.2.1 _ _ (by omega) (by omega), a1]
  have fr : ∀ {C M}, AS C0 M0 C M → (z = 1 ∨ z = 2) → ∃ r C' M', fX0_markOfFresh 167 C (nI 25) (nI (53 + 3 * d)) z = some (r, C') ∧ fX8_marked_16 167 M (nI 143) (nI d) z = some (r, M') ∧ AS C0 M0 C' M' := fun h w => by
    obtain ⟨C1, M1, e1, e2, h1⟩ := h.leave P0 Q0 21
    obtain ⟨C2, M2, e3, e4, e5, e6, h2⟩ := any h1
    obtain ⟨r, C3, M3, e7, e8, h3⟩ := h2.worth P0 Q0 hvc hd cv mv hD0 hz hk
    refine ⟨nI k + r, C3, M3, ?_, ?_, h3⟩
    · rw [fX0_markOfFresh, zd_t zo_25, e1, zca_some, e3, zca_some, e7, zca_some]
    · rw [fX8_marked_16, fX8_marked_21, zbd_e, if_neg (by rcases w with rfl | rfl <;> decide), fX8_marked_33, if_neg ne10, zd_t zo_143, e2, zca_some, fX8_marked_43, zd_t zo_143, e4, zca_some, e5, zd_t (za_154 hd), if_neg (by rcases w with rfl | rfl <;> decide), if_neg ne10, e8, zca_some, ze_n (by decide) (by omega), e6]
  rcases hz with rfl | rfl | rfl | rfl
  · obtain ⟨C1, M1, e1, e2, e3, e4, h1⟩ := any h
    refine ⟨nI k, C1, M1, ?_, ?_, h1⟩
    · rw [fX0_markOf, if_neg (by decide), if_neg (by decide), if_neg (by decide), zd_t zo_25, e1, zca_some]
    · rw [eW, if_neg (by decide), if_neg (by decide), fX8_marked_21, zbd_e, if_neg (by decide), fX8_marked_33, if_pos rfl, fX8_marked_43, zd_t zo_143, e2, zca_some, e3, zd_t (za_154 hd), if_neg (by decide), if_pos rfl, ze_n (by decide) (by omega), e4, Int32.add_zero]
  · obtain ⟨r, C1, M1, e1, e2, h1⟩ := fr h (Or.inl rfl)
    refine ⟨r, C1, M1, ?_, ?_, h1⟩
    · rw [fX0_markOf, if_pos rfl, zd_t zo_25, e1, zca_some]
    · rw [eW, if_pos rfl, e2]
  · obtain ⟨r, C1, M1, e1, e2, h1⟩ := fr h (Or.inr rfl)
    refine ⟨r, C1, M1, ?_, ?_, h1⟩
    · rw [fX0_markOf, if_neg (by decide), if_pos rfl, zd_t zo_25, e1, zca_some]
    · rw [eW, if_neg (by decide), if_pos rfl, e2]
  · obtain ⟨C1, M1, e1, e2, h1⟩ := h.leave P0 Q0 22
    obtain ⟨C2, M2, e3, e4, e5, e6, h2⟩ := any h1
    refine ⟨nI k + nI f, C2, M2, ?_, ?_, h2⟩
    · rw [fX0_markOf, if_neg (by decide), if_neg (by decide), if_pos rfl, zd_t zo_25, fX0_markOfStuck, zd_t zo_25, e1, zca_some, e3, zca_some, zd_t (zo_dev hd), zca_some, zg_n (by omega), h2.2.1 _ _ (by omega) (by omega), a8]
    · rw [eW, if_neg (by decide), if_neg (by decide), fX8_marked_21, zbd_e, if_pos rfl, zd_t zo_143, e2, zca_some, fX8_marked_33, if_pos rfl, fX8_marked_43, zd_t zo_143, e4, zca_some, e5, zd_t (za_154 hd), if_pos rfl, show zg M2 (nI 143) 21 = nI 161 from (h2.pm Q0).m21, zd_t (za_161 hd), ze_n (by decide) (by omega), ze_n (by decide) (by omega), e6, h2.2.2 _ _ (by omega) (by omega), b8]
theorem AS.r2 (h : AS C0 M0 C M) (R : R2 vc dc C0 M0) : R2 vc dc C M := by
  have P := h.pc R.1
  have Q := h.pm R.2.1
  obtain ⟨r, fc, fm⟩ := h
  obtain ⟨r1, r2, r3, r4, r5, r6, r7, r8, r9, r10⟩ := R
  refine ⟨P, Q, r3.fr ?_ ?_ ?_ ?_, r4.fr ?_ ?_, r5.fr ?_ ?_ ?_ ?_, r6.fr ?_ ?_ ?_, r7.fr ?_ ?_, r8.fr ?_ ?_ ?_ ?_, r9.fr ?_ ?_ ?_, r⟩
  all_goals first | (intros; exact fc _ _ (by omega) (by omega)) | (intros; exact fm _ _ (by omega) (by omega))
theorem ok_ask (R : R2 vc dc C M) (x y : Int32) : Same (fX7_ask 167 C (nI 0) x y) (fX8_ask 167 M (nI 143) x y) C M := by
  have R0 := R.thrown 0
  obtain ⟨P, Q, -, -, ⟨hvc, cv, mv, -⟩, -, -, ⟨hdc, cd, md, hd1, -⟩, -⟩ := R0
  by_cases h1 : zin x dc
  · by_cases h2 : zin y 2
    · obtain ⟨d, hd, rfl⟩ := zin_ex (by omega) h1
      have hd30 : d < 30 := by omega
      obtain ⟨z, hz, k1, k2⟩ := kinds P Q hd30 hvc cv mv (hd1 d hd)
      obtain ⟨q1, q2⟩ := zin_le (b := 1) (by decide) h2
      have h0 : AS C (zup M 143 0 0) (zup C 25 1 0) (zup (zup M 143 0 0) 143 37 0) := by
        refine ⟨?_, fun a j w1 w2 => zup_off w1, fun a j w1 w2 => zup_off w2⟩
        obtain ⟨k, -, -, -, r⟩ := (R.thrown 0).2.2.2.2.2.2.2.2.2
        exact ⟨0, by omega, by rw [zup_s]; rfl, by rw [zup_s]; rfl, fun j hj => by rw [zup_off (by omega), zup_off (by omega)]; exact r j hj⟩
      have P1 := h0.pc P
      have eC : fX7_ask 167 C (nI 0) (nI d) y = if y = 0 then zca (fX0_worthOf 167 (zup C 25 1 0) (nI 25) (nI (53 + 3 * d)) z) fun r S => some (r, S) else zca (fX0_markOf 167 (zup C 25 1 0) (nI 25) (nI (53 + 3 * d)) z) fun r S => some (r, S) := by
        rw [fX7_ask, zd_t zo_0, cDe_i cd hdc h1, zca_some, if_neg ne10, if_neg q1, if_pos q2, zd_t (c_za18 P hd30), c_devp P hd30, zbd_e, k1, zca_some, zbd_e, show zg C (nI 0) 9 = nI 25 from P.c09, zd_t zo_25, fX0_forget, zd_t zo_25, zbd_e, zp_n (by decide), zca_some, show zg (zup C 25 1 0) (nI 0) 9 = nI 25 from P1.c09, zd_t zo_25, zd_t zo_25]
      have eM : fX8_ask 167 M (nI 143) (nI d) y = if y = 0 then zca (fX8_worth 167 (zup (zup M 143 0 0) 143 37 0) (nI 143) (nI d)) fun r S => some (r, S) else zca (fX8_marked 167 (zup (zup M 143 0 0) 143 37 0) (nI 143) (nI d)) fun r S => some (r, S) := by
        rw [fX8_ask, zd_t zo_143, zbd_e, zp_n (by decide), mDe_i md hdc h1, zca_some, if_neg ne10, in_i (by rw [z64]; exact h2.1) (by rw [z64]; exact Int.lt_add_one_iff.mp h2.2), zca_some, if_neg ne10, zbd_e, zp_n (by decide)]
      have fin : ∀ {r : Int32} {C' M' : zM} {f g : Option (Int32 × zM)}, f = some (r, C') → g = some (r, M') → AS C (zup M 143 0 0) C' M' → Same f g C M := fun {r C' M' f g} e1 e2 h => ⟨r, C', M', vc, dc, e1, e2, h.r2 (R.thrown 0), fun a ha => funext fun j => h.2.1 a j (by omega) (by omega), fun a ha => funext fun j => (h.2.2 a j (by omega) (by omega)).trans (zup_off (by omega))⟩
      by_cases w : y = 0
      · rw [if_pos w] at eC eM
        obtain ⟨r, C1, M1, e1, e2, hh⟩ := h0.worth P Q hvc hd30 cv mv (hd1 d hd) hz k1
        rw [e1, zca_some] at eC
        rw [e2, zca_some] at eM
        exact fin eC eM hh
      · rw [if_neg w] at eC eM
        obtain ⟨r, C1, M1, e1, e2, hh⟩ := h0.marked P Q hvc hd30 cv mv (hd1 d hd) hz k1
        rw [e1, zca_some] at eC
        rw [e2, zca_some] at eM
        exact fin eC eM hh
    · obtain ⟨d, hd, rfl⟩ := zin_ex (by omega) h1
      refine bad_same R (r := -1000001) ?_ ?_
      · rw [fX7_ask, zd_t zo_0, cDe_i cd hdc h1, zca_some, if_neg ne10]
        by_cases w : y < 0
        · rw [if_pos w]
        · rw [if_neg w, if_neg (by rw [Int32.le_iff_toInt_le]; rw [zlt0] at w; unfold zin at h2; show ¬ y.toInt ≤ 1; omega)]
      · rw [fX8_ask, zd_t zo_143, zbd_e, zp_n (by decide), mDe_i md hdc h1, zca_some, if_neg ne10, in_o (by rw [z64]; show y.toInt < 0 ∨ 1 < y.toInt; unfold zin at h2; omega), zca_some, if_pos rfl]
  · refine bad_same R (r := -1000001) ?_ ?_
    · rw [fX7_ask, zd_t zo_0, cDe_o cd hdc h1, zca_some, if_pos rfl]
    · rw [fX8_ask, zd_t zo_143, zbd_e, zp_n (by decide), mDe_o md hdc h1, zca_some, if_pos rfl]
end ASK
