section UP2
variable {C M C' M' E : zM} {vc dc d v D p k o f t y s w bl fl o0 v0 f0 i p' N : Nat} {a b A a0 : Int32}
theorem c_above (P : PC C) (hd : d < 30) (hp : p = 1 ∨ p = 2) (hv : v < 10) (c3 : C (53 + 3 * d) 3 = nI (53 + 3 * d + p)) (g0 : C (53 + 3 * d + p) 0 = nI (43 + v)) : fX7_isAbove 167 C (nI w) (nI (53 + 3 * d)) = some (if nI w ≤ nI v then 0 else 1, C) := by
  rw [fX7_isAbove, zd_t (zo_dev hd), zg_n (by omega), c3, zd_t (zo_slp hd hp), c_vn P (zo_slp hd hp) (by omega) hv g0, zca_some]
  by_cases h : nI w ≤ nI v
  · rw [if_pos h, if_pos h]
  · rw [if_neg h, if_neg h]
theorem c_ver (P : PC C) (hw : w < 10) : ze C (zg C (nI 0) 1) (nI w) = nI (43 + w) := by
  rw [show zg C (nI 0) 1 = nI 2 from P.c01, ze_n (by decide) (by omega), P.v hw]
theorem c_za2 (P : PC C) (hw : w < 10) : za 167 3 (zg C (nI 0) 1) (nI w) = true := by
  rw [show zg C (nI 0) 1 = nI 2 from P.c01]
  exact za_2 hw
/-- what stands on a device that both know -/
theorem R2.on (R : R2 vc dc C M) (hd : d < dc) : ∃ v p o, v < vc ∧ (p = 1 ∨ p = 2) ∧ o ≤ 1 ∧ C (53 + 3 * d) 3 = nI (53 + 3 * d + p) ∧ C (53 + 3 * d + p) 0 = nI (43 + v) ∧ M 156 d = nI o ∧ M 157 (2 * d + o) = nI v ∧ ∀ o' v', o' ≤ 1 → v' < vc → M 156 d = nI o' → M 157 (2 * d + o') = nI v' → v' = v := by
  obtain ⟨-, -, -, -, ⟨hvc, -⟩, -, -, ⟨hdc, -, -, d1, -⟩, -⟩ := R
  obtain ⟨p, o, k, v, f, hp, ho, hk, hv, hf, a3, a4, a5, b5, a6, b6, a7, a1, b1, hh, a9, a10, a8, b8, s0, t0, s1, sp, sq⟩ := d1 d hd
  refine ⟨v, p, o, hv, hp, by omega, a3, s0, b5, t0, fun o' v' ho' hv' e1 e2 => ?_⟩
  rw [b5] at e1
  have h1 := (nI_eq (by omega) (by omega)).mp e1
  subst h1
  rw [t0] at e2
  exact ((nI_eq (by omega) (by omega)).mp e2).symm
theorem GM.th (h : GM d (zup M 143 0 0) M') : FM M M' := (FM.rf.up (by decide)).tr h.fm
theorem ok_update (R : R2 vc dc C M) (x y : Int32) : Same (fX7_update 167 C (nI 0) x y) (fX8_update 167 M (nI 143) x y) C M := by
  have P := R.1
  have RR := R.thrown 0
  obtain ⟨-, Q, -, -, ⟨hvc, cv, mv, -⟩, -, -, ⟨hdc, cd, md, -⟩, -⟩ := id RR
  by_cases h1 : zin x dc
  · by_cases h2 : zin y vc
    · obtain ⟨d, hd, rfl⟩ := zin_ex (by omega) h1
      obtain ⟨w, hw, rfl⟩ := zin_ex (by omega) h2
      have hd30 : d < 30 := by omega
      obtain ⟨v, p, o, hv, hp, ho, a3, s0, b5, t0, hu⟩ := RR.on hd
      have eC : fX7_update 167 C (nI 0) (nI d) (nI w) = if nI w ≤ nI v then some (-1000002, C) else zca (fX7_updateWhole 167 C (nI 0) (nI (53 + 3 * d)) (nI (43 + w))) fun r17 S18 => if r17 = 0 then some (0, S18) else some (1, S18) := by
        rw [fX7_update, zd_t zo_0, cDe_i cd hdc h1, zca_some, if_neg ne10, cVe_i cv hvc h2, zca_some, if_neg ne10, zd_t (c_za18 P hd30), c_devp P hd30, c_above P hd30 hp (by omega) a3 s0, zca_some, zd_t (c_za18 P hd30), zd_t (c_za2 P (by omega)), c_devp P hd30, c_ver P (by omega)]
        by_cases c : nI w ≤ nI v
        · rw [if_pos c, if_pos c, if_pos rfl]
        · rw [if_neg c, if_neg c, if_neg ne10]
      have eM : fX8_update 167 M (nI 143) (nI d) (nI w) = if nI v < nI w then zca (fX8_actsOf 167 (zup M 143 0 0) (nI 143) (nI d) (nI w)) fun r16 S17 => zca (fX8_go 167 S17 (nI 143) (nI d) (nI w) r16 0) fun r19 S20 => zca (fX8_ends 167 S20 (nI 143) (nI d) (nI w)) fun r22 S23 => some (r22, S23) else some (-1000002, zup M 143 0 0) := by
        rw [fX8_update, zd_t zo_143, zbd_e, zp_n (by decide), mDe_i md hdc h1, zca_some, if_neg ne10, mVe_i mv hvc h2, zca_some, if_neg ne10, m_on Q hd30 (by omega) b5 t0, zca_some]
      by_cases c : w ≤ v
      · refine bad_same R (r := -1000002) ?_ ?_
        · rw [eC, if_pos (nI_le c (by omega))]
        · rw [eM, if_neg (nI_nlt c (by omega))]
      · obtain ⟨r, C', M1, M', N, e1, e2, e3, e4, hr, R', gc, g1, g2⟩ := zupd RR hd hw (fun o' v' q1 q2 q3 q4 => by have := hu o' v' q1 q2 q3 q4; omega)
        refine ⟨r, C', M', vc, dc, ?_, ?_, R', gc.fc hd30, (g1.tr g2).th⟩
        · rw [eC, if_neg (nI_ge (by omega) (by omega)), e1, zca_some]
          rcases hr with rfl | rfl
          · rw [if_pos rfl]
          · rw [if_neg ne10]
        · rw [eM, if_pos (nI_lt (by omega) (by omega)), e2, zca_some, e3, zca_some, e4, zca_some]
    · obtain ⟨d, hd, rfl⟩ := zin_ex (by omega) h1
      refine bad_same R (r := -1000001) ?_ ?_
      · rw [fX7_update, zd_t zo_0, cDe_i cd hdc h1, zca_some, if_neg ne10, cVe_o cv hvc h2, zca_some, if_pos rfl]
      · rw [fX8_update, zd_t zo_143, zbd_e, zp_n (by decide), mDe_i md hdc h1, zca_some, if_neg ne10, mVe_o mv hvc h2, zca_some, if_pos rfl]
  · refine bad_same R (r := -1000001) ?_ ?_
    · rw [fX7_update, zd_t zo_0, cDe_o cd hdc h1, zca_some, if_pos rfl]
    · rw [fX8_update, zd_t zo_143, zbd_e, zp_n (by decide), mDe_o md hdc h1, zca_some, if_pos rfl]
/-- one device takes over what another one is -/
theorem c_become (hD : OD D) {e : Nat} (hE : OD e) (hne : e + 2 < D ∨ D + 2 < e) (hp : p = 1 ∨ p = 2) (hp' : p' = 1 ∨ p' = 2) (ht : t ≤ 1) (q3 : C e 3 = nI (e + p')) (q4 : C e 4 = nI (e + (3 - p'))) (h : CX C D p k o v f t y s b a) : ∃ C', fX2_become 167 C (nI e) (nI D) = some (0, C') ∧ CX C' e p' k o v f t y s b a ∧ ∀ a j, (¬ (e ≤ a ∧ a ≤ e + 2) ∨ (a = e ∧ (j = 0 ∨ j = 2 ∨ 8 < j))) → C' a j = C a j := by
  have hl := hD.1
  have hl' := hE.1
  obtain ⟨h1, h3, h4, h5, h6, h7, h8, g0, g1, g2, g3⟩ := h
  refine ⟨zup (zup (zup (zup (zup (zup (zup (zup (zup C e 1 (nI k)) (e + p') 0 (nI (43 + v))) (e + p') 1 a) (e + (3 - p')) 0 (C (D + (3 - p)) 0)) (e + (3 - p')) 1 b) e 5 (nI o)) e 6 (nI t)) e 7 (nI y)) e 8 (nI f), ?_, ⟨?_, ?_, ?_, ?_, ?_, ?_, zup_s, ?_, ?_, ?_, ?_⟩, fun a j q => by rw [zup_off (by omega), zup_off (by omega), zup_off (by omega), zup_off (by omega), zup_off (by omega), zup_off (by omega), zup_off (by omega), zup_off (by omega), zup_off (by omega)]⟩
  · have z1 : zo 167 14 (nI (D + p)) = true := hD.2.2.2.1 _ hp
    have z2 : zo 167 14 (nI (D + (3 - p))) = true := hD.2.2.2.1 _ (by omega)
    have z3 : zo 167 14 (nI (e + p')) = true := hE.2.2.2.1 _ hp'
    have z4 : zo 167 14 (nI (e + (3 - p'))) = true := hE.2.2.2.1 _ (by omega)
    rw [fX2_become, zd_t hD.2.2.1, zd_t hE.2.2.1, show zg C (nI D) 1 = nI k from (zg_n (by omega)).trans h1, zp_n (by omega), zbd_e, show zg (zup C e 1 (nI k)) (nI D) 3 = nI (D + p) from (zg_n (by omega)).trans ((zup_off (by omega)).trans h3), zd_t z1, show zg (zup C e 1 (nI k)) (nI e) 3 = nI (e + p') from (zg_n (by omega)).trans ((zup_off (by omega)).trans q3), zd_t z3, show zg (zup C e 1 (nI k)) (nI (D + p)) 0 = nI (43 + v) from (zg_n (by omega)).trans ((zup_off (by omega)).trans g0), show zg (zup C e 1 (nI k)) (nI (D + p)) 1 = a from (zg_n (by omega)).trans ((zup_off (by omega)).trans g1), fX4_fill, zd_t z3, zp_n (by omega), zbd_e, zp_n (by omega), zbd_e, zca_some]
    rw [show zg (zup (zup (zup C e 1 (nI k)) (e + p') 0 (nI (43 + v))) (e + p') 1 a) (nI D) 4 = nI (D + (3 - p)) from (zg_n (by omega)).trans ((by rw [zup_off (by omega), zup_off (by omega), zup_off (by omega)]; exact h4)), zd_t z2, show zg (zup (zup (zup C e 1 (nI k)) (e + p') 0 (nI (43 + v))) (e + p') 1 a) (nI e) 4 = nI (e + (3 - p')) from (zg_n (by omega)).trans ((by rw [zup_off (by omega), zup_off (by omega), zup_off (by omega)]; exact q4)), zd_t z4, show zg (zup (zup (zup C e 1 (nI k)) (e + p') 0 (nI (43 + v))) (e + p') 1 a) (nI (D + (3 - p))) 0 = C (D + (3 - p)) 0 from (zg_n (by omega)).trans ((by rw [zup_off (by omega), zup_off (by omega), zup_off (by omega)])), show zg (zup (zup (zup C e 1 (nI k)) (e + p') 0 (nI (43 + v))) (e + p') 1 a) (nI (D + (3 - p))) 1 = b from (zg_n (by omega)).trans ((by rw [zup_off (by omega), zup_off (by omega), zup_off (by omega)]; exact g3)), fX4_fill, zd_t z4, zp_n (by omega), zbd_e, zp_n (by omega), zbd_e, zca_some, zg_n (by omega), zup_off (by omega), zup_off (by omega), zup_off (by omega), zup_off (by omega), zup_off (by omega), h5, zp_n (by omega), zbd_e, zg_n (by omega), zup_off (by omega), zup_off (by omega), zup_off (by omega), zup_off (by omega), zup_off (by omega), zup_off (by omega), h6, zd_t (by rcases (show t = 0 ∨ t = 1 by omega) with rfl | rfl <;> rfl), zp_n (by omega), zbd_e, zg_n (by omega), zup_off (by omega), zup_off (by omega), zup_off (by omega), zup_off (by omega), zup_off (by omega), zup_off (by omega), zup_off (by omega), h7, zp_n (by omega), zbd_e, zg_n (by omega), zup_off (by omega), zup_off (by omega), zup_off (by omega), zup_off (by omega), zup_off (by omega), zup_off (by omega), zup_off (by omega), zup_off (by omega), h8, zp_n (by omega), zbd_e]
  · rw [zup_off (by omega), zup_off (by omega), zup_off (by omega), zup_off (by omega), zup_off (by omega), zup_off (by omega), zup_off (by omega), zup_off (by omega), zup_s]
  · rw [zup_off (by omega), zup_off (by omega), zup_off (by omega), zup_off (by omega), zup_off (by omega), zup_off (by omega), zup_off (by omega), zup_off (by omega), zup_off (by omega)]
    exact q3
  · rw [zup_off (by omega), zup_off (by omega), zup_off (by omega), zup_off (by omega), zup_off (by omega), zup_off (by omega), zup_off (by omega), zup_off (by omega), zup_off (by omega)]
    exact q4
  · rw [zup_off (by omega), zup_off (by omega), zup_off (by omega), zup_s]
  · rw [zup_off (by omega), zup_off (by omega), zup_s]
  · rw [zup_off (by omega), zup_s]
  · rw [zup_off (by omega), zup_off (by omega), zup_off (by omega), zup_off (by omega), zup_off (by omega), zup_off (by omega), zup_off (by omega), zup_s]
  · rw [zup_off (by omega), zup_off (by omega), zup_off (by omega), zup_off (by omega), zup_off (by omega), zup_off (by omega), zup_s]
  · rw [zup_off (by omega), zup_off (by omega), zup_off (by omega), zup_off (by omega), zup_off (by omega), zup_s]
    exact g2
  · rw [zup_off (by omega), zup_off (by omega), zup_off (by omega), zup_off (by omega), zup_s]
theorem JX.become {e : Nat} (hD : OD D) (hE : OD e) (hne : e + 2 < D ∨ D + 2 < e) (hp' : p' = 1 ∨ p' = 2) (q3 : C e 3 = nI (e + p')) (q4 : C e 4 = nI (e + (3 - p'))) (h : JX vc D d k w bl fl A o0 v0 f0 a0 i C M) : ∃ C', fX2_become 167 C (nI e) (nI D) = some (0, C') ∧ JX vc e d k w bl fl A o0 v0 f0 a0 i C' M ∧ ∀ a j, (¬ (e ≤ a ∧ a ≤ e + 2) ∨ (a = e ∧ (j = 0 ∨ j = 2 ∨ 8 < j))) → C' a j = C a j := by
  obtain ⟨p, o, v, f, t, y, s, b, a, hp, ho, hv, hf, hs2, hC, hM, h⟩ := h
  have ht : t ≤ 1 := by
    rcases h with ⟨-, -, -, -, -, rfl, -⟩ | ⟨q, -, -, -, -, -, -, -, rfl, -⟩ | ⟨-, -, -, -, -, -, rfl, -⟩ | ⟨-, -, -, -, -, -, rfl, -⟩ <;> omega
  obtain ⟨C', e1, x1, f1⟩ := c_become hD hE hne hp hp' ht q3 q4 hC
  exact ⟨C', e1, ⟨p', o, v, f, t, y, s, b, a, hp', ho, hv, hf, hs2, x1, hM, h⟩, f1⟩
end UP2
