section TIC
variable {C M C' M' E M0 : zM} {vc dc d v p o t i n s k w : Nat} {x g : Int32}
/-- an update, where the reference has already counted it -/
theorem zupd2 (R : R2 vc dc C M) (hM : ∀ a j, a ≠ 143 → a ≠ 165 → M0 a j = M a j) (Q0 : PM M0) (m5 : M0 143 5 = M 143 5) (hd : d < dc) (hw : w < vc) (hv : ∀ o v, o ≤ 1 → v < vc → M 156 d = nI o → M 157 (2 * d + o) = nI v → v < w) : ∃ r C' M1 M' N, fX7_updateWhole 167 C (nI 0) (nI (53 + 3 * d)) (nI (43 + w)) = some (r, C') ∧ fX8_actsOf 167 M0 (nI 143) (nI d) (nI w) = some (nI N, M0) ∧ fX8_go 167 M0 (nI 143) (nI d) (nI w) (nI N) 0 = some (0, M1) ∧ fX8_ends 167 M1 (nI 143) (nI d) (nI w) = some (r, M') ∧ (r = 0 ∨ r = 1) ∧ RD1 vc C' M' d ∧ RSI C' ∧ GC d C C' ∧ GM d M0 M1 ∧ GM d M1 M' := by
  obtain ⟨P, -, -, -, ⟨hvc, cv, mv, vs⟩, -, hs, ⟨hdc, cd, md, d1, -⟩, -⟩ := id R
  have hd30 : d < 30 := by omega
  obtain ⟨bl, fl, hb1, hb2, hfl, c1, m1, c2, m2, c3⟩ := vs w hw
  have hD1 : RD1 vc C M0 d := (d1 d hd).fr (fun _ => rfl) (fun _ => rfl) (fun _ => rfl) (fun a q1 q2 q3 => Or.inl (hM a d (by omega) (by omega))) (fun a o q1 q2 => hM a _ (by omega) (by omega))
  obtain ⟨k, o0, v0, f0, a0, hk, ho0, hv0, hf0, k1, k2, k3, k4, k5, k6, -, hJ⟩ := rd_jx hd30 hD1
  have hlt := hv o0 v0 ho0 hv0 (by rw [← hM _ _ (by omega) (by omega)]; exact k2) (by rw [← hM _ _ (by omega) (by omega)]; exact k3)
  have hA := zA_le (bl := bl) (A := M 149 w) (k := k)
  have w1 : M0 147 w = nI bl := by rw [hM _ _ (by omega) (by omega)]; exact m1
  have w2 : M0 148 w = nI fl := by rw [hM _ _ (by omega) (by omega)]; exact m2
  have w3 : M0 149 w = M 149 w := hM _ _ (by omega) (by omega)
  have hV : WV C M0 w bl fl (M 149 w) := ⟨c1, c2, c3, w1, w2, w3⟩
  obtain ⟨C1, M1, e1, e2, h1, f1, f2⟩ := JX.inst (OD_dev hd30) hd30 hw hvc hf0 hlt hfl hb1 (by omega) (N := zA bl (M 149 w) k) (most := 14) (st := 0) (Nat.le_refl _) (Or.inr ⟨rfl, by omega⟩) (by omega) (zA bl (M 149 w) k) 0 1000 1000 C M0 (by omega) (by omega) (by omega) P Q0 hV (hJ w bl fl (M 149 w))
  have P1 := f1.pc (OD_dev hd30) P
  have Q1 := f2.pm Q0
  obtain ⟨p, o, kk, v, f, -, -, -, -, -, -, -, -, -, -, -, -, -, -, hh, h9, h10, -⟩ := hD1
  obtain ⟨r, C2, M2, e3, e4, hr, h2, h92, h102, f3, f4⟩ := h1.ends P1 Q1 hd30 hw hvc (by rw [f1 _ _ (Or.inl (by omega))]; exact cv) (by rw [f2 _ _ (Or.inl (by omega)), m5]; exact mv) (Or.inr rfl) (by rw [f1 _ _ (Or.inr ⟨rfl, by omega⟩), f2 _ _ (Or.inl (by omega))]; exact h9) (by rw [f1 _ _ (Or.inr ⟨rfl, by omega⟩), f2 _ _ (Or.inl (by omega))]; exact h10)
  have g3 : GC d C1 C2 := fun a j _ q => f3 a j (by omega)
  have g4 : GM d M1 M2 := fun a j q => f4 a j (by omega)
  have gc := f1.gc.tr g3
  have gm := f2.gm.tr g4
  refine ⟨r, C2, M1, M2, _, ?_, m_actsOf Q0 hd30 (by omega) w1 w3 k1, ?_, e4, hr, jx_rd hk (Or.inr rfl) h2 (by rw [gc _ _ (by omega) (by omega), gm _ _ (by omega)]; exact hh) h92 h102, hs.gc (by rw [f3 _ _ (by omega), f1 _ _ (Or.inl (by omega))]) (by rw [f3 _ _ (by omega), f1 _ _ (Or.inl (by omega))]), gc, f2.gm, g4⟩
  · rw [fX7_updateWhole, zd_t (zo_dev hd30), fX2_install, zbd_e]
    have e1' : fX2_install_2 167 1000 C (nI (53 + 3 * d)) (nI (43 + w)) 14 0 = some (nI (zA bl (M 149 w) k), C1) := e1
    rw [e1', zca_some, zd_t zo_0, e3, zca_some, zd_t (by rcases hr with rfl | rfl <;> rfl)]
  · rw [fX8_go, zbd_e]
    have e2' : fX8_go_3 167 1000 M0 (nI 143) (nI d) (nI w) (nI (zA bl (M 149 w) k)) 0 0 = fX8_go_26 167 1000 M1 (nI 143) (nI d) (nI 0) 0 := e2
    rw [e2', m_go0]
/-- the campaign that runs: its version t, w waves, wave k of them -/
def CP (t w k : Nat) (C M : zM) : Prop := 1 ≤ w ∧ w ≤ 6 ∧ k < w ∧ C 22 0 = nI (43 + t) ∧ M 143 25 = 1 ∧ M 143 26 = nI t ∧ C 22 2 = nI w ∧ M 143 27 = nI w ∧ C 22 3 = M 143 29 ∧ C 22 5 = nI k ∧ M 143 30 = nI k ∧ C 22 6 = M 143 31 ∧ C 22 7 = M 143 32 ∧ C 22 8 = 0 ∧ M 143 33 = 0 ∧ C 22 9 = M 143 34 ∧ (∀ j, j < w → C 23 j = M 164 j) ∧ ∀ j, j < 30 → C 24 j = M 165 j
theorem CP.rc (h : CP t w k C M) (ht : t < vc) : RCamp vc C M := by
  obtain ⟨h1, h2, h3, c0, m25, mt, c2, m27, c3, c5, m30, c6, c7, c8, m33, c9, hs, ha⟩ := h
  exact Or.inr ⟨m25, t, w, k, 0, ht, h1, h2, h3, by omega, c0, mt, c2, m27, c3, c5, m30, c6, c7, c8, m33, c9, hs, ha⟩
theorem CP.fr (h : CP t w k C M) (fc : ∀ a j, 22 ≤ a → a ≤ 24 → C' a j = C a j) (fm : ∀ a j, a = 143 ∨ a = 164 ∨ a = 165 → M' a j = M a j) : CP t w k C' M' := by
  unfold CP
  rw [fc 22 0 (by omega) (by omega), fc 22 2 (by omega) (by omega), fc 22 3 (by omega) (by omega), fc 22 5 (by omega) (by omega), fc 22 6 (by omega) (by omega), fc 22 7 (by omega) (by omega), fc 22 8 (by omega) (by omega), fc 22 9 (by omega) (by omega), fm 143 25 (by omega), fm 143 26 (by omega), fm 143 27 (by omega), fm 143 29 (by omega), fm 143 30 (by omega), fm 143 31 (by omega), fm 143 32 (by omega), fm 143 33 (by omega), fm 143 34 (by omega)]
  obtain ⟨h1, h2, h3, c0, m25, mt, c2, m27, c3, c5, m30, c6, c7, c8, m33, c9, hs, ha⟩ := h
  exact ⟨h1, h2, h3, c0, m25, mt, c2, m27, c3, c5, m30, c6, c7, c8, m33, c9, fun j hj => by rw [fc 23 j (by omega) (by omega), fm 164 j (by omega)]; exact hs j hj, fun j hj => by rw [fc 24 j (by omega) (by omega), fm 165 j (by omega)]; exact ha j hj⟩
/-- whether a device's turn has come -/
theorem due (R : R2 vc dc C M) (h : CP t w k C M) (ht : t < vc) (hd : d < dc) : ∃ z : Int32, (z = 0 ∨ (z = 1 ∧ ∀ o' v', o' ≤ 1 → v' < vc → M 156 d = nI o' → M 157 (2 * d + o') = nI v' → v' < t)) ∧ fX7_isDue 167 C (nI 0) (nI (53 + 3 * d)) = some (z, C) ∧ fX8_isNext 167 M (nI 143) (nI d) = some (z, M) := by
  obtain ⟨P, Q, ⟨-, sd⟩, -, ⟨hvc, cv, mv, vs⟩, -, hs, ⟨hdc, cd, md, d1, -⟩, -⟩ := id R
  have hd30 : d < 30 := by omega
  obtain ⟨v, p, o, hv, hp, ho, a3, s0, b5, t0, hu⟩ := R.on hd
  obtain ⟨-, -, -, -, -, -, -, -, -, -, -, -, -, -, -, -, -, -, -, hh, -⟩ := d1 d hd
  obtain ⟨-, hw6, hk, c0, m25, mt, c2, m27, c3, c5, m30, c6, c7, c8, m33, c9, hsh, has⟩ := h
  have h23 : M 164 k = C 23 k := (hsh k hk).symm
  have h24 : M 165 d = C 24 d := (has d hd30).symm
  have eC : fX7_isDue 167 C (nI 0) (nI (53 + 3 * d)) = if nI v < nI t then (if C 24 d = 0 then (if C 23 k ≤ zdraw d (C 0 8) then some (0, C) else if C (53 + 3 * d) 2 < 0 then some (1, C) else zd (zo 167 12 (C (53 + 3 * d) 2)) <| zca (fX2_isAtLeastAt 167 C (C (53 + 3 * d) 2) (nI (43 + t))) fun r18 S19 => if r18 = 0 then some (0, S19) else some (1, S19)) else some (0, C)) else some (0, C) := by
    rw [fX7_isDue, zd_t zo_0, show zg C (nI 0) 7 = nI 22 from P.c07, zd_t zo_22, zd_t (zo_dev hd30), show zg C (nI 22) 0 = nI (43 + t) from (zg_n (by omega)).trans c0, c_atl P hd30 hp (by omega) (by omega) a3 s0, zca_some, show zg C (nI 0) 7 = nI 22 from P.c07, zd_t zo_22, show zg C (nI 22) 4 = nI 24 from P.c224, show zg C (nI (53 + 3 * d)) 0 = nI d from (zg_n (by omega)).trans (P.dn hd30), zd_t (za_24 hd30), ze_n (by decide) (by omega), c_member P hd30 (by omega) c5]
    by_cases g1 : nI v < nI t
    · rw [if_pos g1, if_pos g1, if_pos rfl]
      by_cases g2 : C 24 d = 0
      · rw [if_pos g2, if_pos g2, zca_some]
        by_cases g3 : C 23 k ≤ zdraw d (C 0 8)
        · rw [if_pos g3, if_pos g3, if_pos rfl]
        · rw [if_neg g3, if_neg g3, if_neg ne10, zg_n (by omega), show zg C (nI 0) 7 = nI 22 from P.c07, zd_t zo_22, show zg C (nI 22) 0 = nI (43 + t) from (zg_n (by omega)).trans c0]
      · rw [if_neg g2, if_neg g2]
    · rw [if_neg g1, if_neg g1, if_neg ne10]
  have eM : fX8_isNext 167 M (nI 143) (nI d) = if C 23 k ≤ zdraw d (C 0 8) then some (0, M) else if nI t ≤ nI v then some (0, M) else if C 24 d = 0 then (if M 155 d = -1000000 then some (1, M) else zca (fX8_runsOn 167 M (nI 143) (M 155 d)) fun r15 S16 => if r15 < zg S16 (nI 143) 26 then some (0, S16) else some (1, S16)) else some (0, M) := by
    rw [fX8_isNext, zd_t zo_143, m_draw hd30, zca_some, show zg M (nI 143) 28 = nI 164 from Q.m28, show zg M (nI 143) 30 = nI k from (zg_n (by decide)).trans m30, zd_t (za_164 (by omega)), ze_n (by decide) (by omega), h23, ← sd, m_on Q hd30 (by omega) b5 t0, zca_some, show zg M (nI 143) 26 = nI t from (zg_n (by decide)).trans mt, show zg M (nI 143) 35 = nI 165 from Q.m35, zd_t (za_165 hd30), ze_n (by decide) (by omega), h24, show zg M (nI 143) 15 = nI 155 from Q.m15, zd_t (za_155 hd30), ze_n (by decide) (by omega)]
  by_cases g1 : v < t
  · rw [if_pos (nI_lt g1 (by omega))] at eC
    rw [if_neg (nI_ge g1 (by omega))] at eM
    by_cases g2 : C 24 d = 0
    · rw [if_pos g2] at eC eM
      by_cases g3 : C 23 k ≤ zdraw d (C 0 8)
      · rw [if_pos g3] at eC eM
        exact ⟨0, Or.inl rfl, eC, eM⟩
      · rw [if_neg g3] at eC eM
        have one : (1 : Int32) = 0 ∨ ((1 : Int32) = 1 ∧ ∀ o' v', o' ≤ 1 → v' < vc → M 156 d = nI o' → M 157 (2 * d + o') = nI v' → v' < t) := Or.inr ⟨rfl, fun o' v' q1 q2 q3 q4 => by have := hu o' v' q1 q2 q3 q4; omega⟩
        rcases hh with ⟨k1, k2⟩ | ⟨h, hh, k1, k2⟩
        · rw [k1, if_pos (by decide)] at eC
          rw [k2, if_pos rfl] at eM
          exact ⟨1, one, eC, eM⟩
        · obtain ⟨vh, ph, oh, hvh, hph, hoh, u3, us0, ub5, ut0, -⟩ := R.on (d := h) (by omega)
          rw [k1, if_neg (nI_pos (by omega)), zd_t (zo_dev (by omega)), c_atl P (by omega) hph (by omega) (by omega) u3 us0, zca_some] at eC
          rw [k2, if_neg (nne6 (by omega)), m_on Q (by omega) (by omega) ub5 ut0, zca_some, show zg M (nI 143) 26 = nI t from (zg_n (by decide)).trans mt] at eM
          by_cases g4 : nI vh < nI t
          · rw [if_pos g4, if_pos rfl] at eC
            rw [if_pos g4] at eM
            exact ⟨0, Or.inl rfl, eC, eM⟩
          · rw [if_neg g4, if_neg ne10] at eC
            rw [if_neg g4] at eM
            exact ⟨1, one, eC, eM⟩
    · rw [if_neg g2] at eC eM
      refine ⟨0, Or.inl rfl, eC, ?_⟩
      rw [eM]
      by_cases g3 : C 23 k ≤ zdraw d (C 0 8)
      · rw [if_pos g3]
      · rw [if_neg g3]
  · rw [if_neg (nI_nlt (by omega) (by omega))] at eC
    rw [if_pos (nI_le (by omega) (by omega))] at eM
    refine ⟨0, Or.inl rfl, eC, ?_⟩
    rw [eM]
    by_cases g3 : C 23 k ≤ zdraw d (C 0 8)
    · rw [if_pos g3]
    · rw [if_neg g3]
/-- what an update costs -/
theorem cost (R : R2 vc dc C M) (ht : t < vc) (hd : d < dc) (hv : ∀ o' v', o' ≤ 1 → v' < vc → M 156 d = nI o' → M 157 (2 * d + o') = nI v' → v' < t) : ∃ c C1 M1 v, v < t ∧ fX7_bytesTo 167 C (nI 0) (nI (53 + 3 * d)) (nI (43 + t)) = some (c, C1) ∧ fX8_findWays 167 M (nI 143) (nI t) = some (0, M1) ∧ fX8_runsOn 167 M1 (nI 143) (nI d) = some (nI v, M1) ∧ FW3 C C1 ∧ GW3 M M1 ∧ c = if M1 151 v = -1000000 then 100 * M1 147 t else M1 151 v := by
  obtain ⟨P, Q, -, -, ⟨hvc, cv, mv, vs⟩, hst, hs, ⟨hdc, cd, md, d1, -⟩, -⟩ := id R
  have hd30 : d < 30 := by omega
  obtain ⟨v, p, o, hvv, hp, ho, a3, s0, b5, t0, hu⟩ := R.on hd
  have hvt := hv o v ho hvv b5 t0
  obtain ⟨bl, fl, -, -, -, vb1, vb2, -⟩ := vs t ht
  obtain ⟨C1, M1, e1, e2, hw, fc, fm⟩ := ways hvt (by omega) P Q hst.1
  have P1 := fc.pc P
  have Q1 := fm.pm Q
  have hri : zin (nI v) vc ∧ zin (nI t) vc ∧ (nI v).toInt < (nI t).toInt := ⟨zin_nI (by omega) hvv, zin_nI (by omega) ht, by rw [nIt (by omega), nIt (by omega)]; omega⟩
  have eC : fX7_bytesTo 167 C (nI 0) (nI (53 + 3 * d)) (nI (43 + t)) = if C1 15 v = -1 then some (C1 (43 + t) 1 * 100, C1) else some (C1 15 v, C1) := by
    rw [fX7_bytesTo, zd_t (zo_dev hd30), zg_n (by omega), a3, zd_t (zo_slp hd30 hp), c_vn P (zo_slp hd30 hp) (by omega) (by omega) s0, zca_some, zbd_e, zd_t (zo_ver (by omega)), zd_t zo_0, show zg C (nI (43 + t)) 0 = nI t from (zg_n (by omega)).trans (P.vn (by omega)), c_rise_i cv hvc hri, zca_some, if_neg ne10, show zg C (nI 0) 3 = nI 3 from P.c03, zd_t zo_3, show zg C (nI (43 + t)) 0 = nI t from (zg_n (by omega)).trans (P.vn (by omega)), e1, zca_some, show zg C1 (nI 0) 3 = nI 3 from P1.c03, zd_t zo_3, show zg C1 (nI 3) 1 = nI 15 from P1.c31, zd_t (za_15 (by omega)), ze_n (by decide) (by omega), zg_n (by omega)]
    by_cases w : C1 15 v = -1
    · rw [if_pos w, if_pos w, if_pos rfl]
    · rw [if_neg w, if_neg w, if_neg ne10]
  have eR := m_on Q1 hd30 (show o = 0 ∨ o = 1 by omega) (by rw [fm _ _ (by omega)]; exact b5) (by rw [fm _ _ (by omega)]; exact t0)
  rcases hw v (by omega) (by omega) with ⟨c1, m1⟩ | ⟨s, k, hs, -, c1, m1, -⟩
  · rw [c1, if_pos rfl, fc _ _ (by omega), vb1] at eC
    refine ⟨_, C1, M1, v, hvt, eC, e2, eR, fc, fm, ?_⟩
    rw [m1, if_pos rfl, fm _ _ (by omega), vb2, Int32.mul_comm]
  · rw [c1, if_neg (nne (by omega))] at eC
    refine ⟨_, C1, M1, v, hvt, eC, e2, eR, fc, fm, ?_⟩
    rw [m1, if_neg (nne6 (by omega))]
end TIC
