section POW
variable {C M C' M' E M0 : zM} {vc dc d v D p k o f t y s w bl fl o0 v0 f0 i p' N : Nat} {a b A a0 : Int32} {x z u : Int32}
theorem zin15 (h : ¬ zin z 15) : z.toInt < 0 ∨ 14 < z.toInt := by
  unfold zin at h
  omega
theorem c_cut_o (cv : C 0 2 = nI vc) (hvc : vc ≤ 10) (cd : C 0 5 = nI dc) (hdc : dc ≤ 30) (h : ¬ (zin x dc ∧ zin u vc ∧ zin z 15)) : fX7_cutStandIn 167 C (nI 0) x u z = some (-1000001, C) := by
  rw [fX7_cutStandIn, zd_t zo_0]
  by_cases h1 : zin x dc
  · rw [cDe_i cd hdc h1, zca_some, if_neg ne10]
    by_cases h2 : zin u vc
    · have h3 := zin15 fun q => h ⟨h1, h2, q⟩
      rw [cVe_i cv hvc h2, zca_some, if_neg ne10]
      by_cases w : z < 0
      · rw [if_pos w]
      · rw [if_neg w, if_neg (by rw [ile]; rw [zlt0] at w; show ¬ z.toInt ≤ 14; omega)]
    · rw [cVe_o cv hvc h2, zca_some, if_pos rfl]
  · rw [cDe_o cd hdc h1, zca_some, if_pos rfl]
theorem c_cut_i (P : PC C) (cv : C 0 2 = nI vc) (hvc : vc ≤ 10) (cd : C 0 5 = nI dc) (hdc : dc ≤ 30) (hd : d < dc) (hw : w < vc) (hN : N ≤ 14) (hv : v < 10) (hp : p = 1 ∨ p = 2) (c3 : C (53 + 3 * d) 3 = nI (53 + 3 * d + p)) (g0 : C (53 + 3 * d + p) 0 = nI (43 + v)) : fX7_cutStandIn 167 C (nI 0) (nI d) (nI w) (nI N) = if nI w ≤ nI v then some (-1000002, C) else zca (fX2_become 167 C (nI 19) (nI (53 + 3 * d))) fun r19 S20 => zd (za 167 3 (zg S20 (nI 0) 1) (nI w)) <| zd (zo 167 12 (zg S20 (nI 0) 6)) <| zca (fX2_install 167 S20 (zg S20 (nI 0) 6) (ze S20 (zg S20 (nI 0) 1) (nI w)) (nI N)) fun r24 S25 => if nI N ≤ r24 then zbd 0 fun v28 => fX7_cutStandIn_82 167 1000 S25 (nI 0) v28 else some (-1000001, S25) := by
  rw [fX7_cutStandIn, zd_t zo_0, cDe_i cd hdc (zin_nI (by omega) hd), zca_some, if_neg ne10, cVe_i cv hvc (zin_nI (by omega) hw), zca_some, if_neg ne10, if_neg (nI_pos (by omega)), if_pos (show nI N ≤ 14 from nI_le (b := 14) hN (by decide)), zd_t (c_za18 P (by omega)), c_devp P (by omega), c_above P (by omega) hp hv c3 g0, zca_some, zd_t (c_za18 P (by omega)), c_06 P, zd_t zo_19, c_devp P (by omega)]
  by_cases c : nI w ≤ nI v
  · rw [if_pos c, if_pos c, if_pos rfl]
  · rw [if_neg c, if_neg c, if_neg ne10]
theorem GC.of19 (h : F19 C C') : GC d C C' := fun a j q _ => h a j q
theorem RD1.sk (h : RD1 vc C M d) (hk : k < 1000) (e : M 154 d = nI k) : C (53 + 3 * d) 1 = nI k := by
  obtain ⟨p, o, k', v, f, hp, ho, hk', hv, hf, a3, a4, a5, b5, a6, b6, a7, a1, b1, -⟩ := h
  rw [b1] at e
  have := (nI_eq (by omega) (by omega)).mp e
  subst this
  exact a1
theorem ok_power (R : R2 vc dc C M) (x u z : Int32) : Same (fX7_power 167 C (nI 0) x u z) (fX8_power 167 M (nI 143) x u z) C M := by
  have P := R.1
  have RR := R.thrown 0
  obtain ⟨-, Q, -, -, ⟨hvc, cv, mv, -⟩, -, -, ⟨hdc, cd, md, d1, -⟩, -⟩ := id RR
  have mP : fX8_power 167 M (nI 143) x u z = zca (fX8_isDevice 167 (zup M 143 0 0) (nI 143) x) fun r4 S5 => if r4 = 0 then some (-1000001, S5) else zca (fX8_isVersion 167 S5 (nI 143) u) fun r8 S9 => if r8 = 0 then some (-1000001, S9) else zca (fX8_in 167 S9 z.toInt64 0 14) fun r12 S13 => if r12 = 0 then some (-1000001, S13) else zca (fX8_runsOn 167 S13 (nI 143) x) fun r16 S17 => if r16 < u then zca (fX8_actsOf 167 S17 (nI 143) x u) fun r20 S21 => if z ≤ r20 then zca (fX8_go 167 S21 (nI 143) x u z 4) fun r24 S25 => zca (fX8_ends 167 S25 (nI 143) x u) fun r27 S28 => some (r27, S28) else some (-1000001, S21) else some (-1000002, S17) := by
    rw [fX8_power, zd_t zo_143, zbd_e, zp_n (by decide)]
  by_cases h : zin x dc ∧ zin u vc ∧ zin z 15
  · obtain ⟨h1, h2, h3⟩ := h
    obtain ⟨d, hd, rfl⟩ := zin_ex (by omega) h1
    obtain ⟨w, hw, rfl⟩ := zin_ex (by omega) h2
    obtain ⟨N, hN, rfl⟩ := zin_ex (by omega) h3
    have hd30 : d < 30 := by omega
    obtain ⟨v, p, o, hv, hp, ho, a3, s0, b5, t0, hu⟩ := RR.on hd
    rw [mDe_i md hdc h1, zca_some, if_neg ne10, mVe_i mv hvc h2, zca_some, if_neg ne10, in_i (by rw [z64]; exact h3.1) (by rw [z64]; exact Int.lt_add_one_iff.mp h3.2), zca_some, if_neg ne10, m_on Q hd30 (by omega) b5 t0, zca_some] at mP
    have eC := c_cut_i P cv hvc cd hdc hd hw (show N ≤ 14 by omega) (by omega) hp a3 s0
    by_cases c : w ≤ v
    · rw [if_pos (nI_le c (by omega))] at eC
      rw [if_neg (nI_nlt c (by omega))] at mP
      refine bad_same R (r := -1000002) ?_ mP
      rw [fX7_power, zd_t zo_0, eC, zca_some, zbd_e, if_neg (by decide)]
    · obtain ⟨C1, C2, r, e1, P1, e2, g2, hs2, A', ea, hA', hr, hx⟩ := RR.cut hd hw (show N ≤ 14 by omega) (show v < w by omega) hu
      rw [if_neg (nI_ge (by omega) (by omega)), e1, zca_some, zd_t (c_za2 P1 (by omega)), c_06 P1, zd_t zo_19, c_ver P1 (by omega), e2, zca_some] at eC
      rw [if_pos (nI_lt (by omega) (by omega)), ea, zca_some] at mP
      rcases hx with ⟨n1, n2⟩ | ⟨n1, n2, C3, M3, k, bl, fl, A, o0, f0, a0, i', e3, e4, hk, ho0, hf0, k1, k2, k3, k4, k5, k6, h3, hi, g3, g4, p', hp', x3, x4⟩
      · rw [if_neg (nI_ge n2 (by omega))] at eC
        rw [if_neg (nI_ge n1 (by omega))] at mP
        refine ⟨_, C2, _, vc, dc, ?_, mP, RR.side g2 hs2 (fun _ _ _ => rfl), g2.fc, FM.rf.up (by decide)⟩
        rw [fX7_power, zd_t zo_0, eC, zca_some, zbd_e, if_neg (by decide)]
      · rw [if_pos (nI_le n2 (by omega)), zbd_e, e3] at eC
        rw [if_pos (nI_le n1 (by omega)), e4, zca_some] at mP
        have P3 := g3.pc P
        have Q3 := g4.pm Q
        obtain ⟨C4, e5, h4, f4⟩ := h3.become OD_19 (OD_dev hd30) (Or.inr (by omega)) hp' (by rw [g3 _ _ (by omega)]; exact x3) (by rw [g3 _ _ (by omega)]; exact x4)
        have ck : C (53 + 3 * d) 1 = nI k := (d1 d hd).sk (by omega) k1
        have ck4 : C4 (53 + 3 * d) 1 = nI k := by
          obtain ⟨_, _, _, _, _, _, _, _, _, _, _, _, _, _, hC, -⟩ := h4
          exact hC.1
        have gc4 : GC d C C4 := fun a j q1 q2 => by
          by_cases q : a = 53 + 3 * d ∧ j = 1
          · obtain ⟨rfl, rfl⟩ := q
            rw [ck, ck4]
          · rw [f4 a j (by omega), g3 a j q1]
        obtain ⟨p2, o2, kk, v2, f2, -, -, -, -, -, -, -, -, -, -, -, -, -, -, hh, h9, h10, -⟩ := d1 d hd
        have q9 : C4 (53 + 3 * d) 9 = M3 162 d := by
          rw [f4 _ _ (Or.inr ⟨rfl, by omega⟩), g3 _ _ (by omega), g4 _ _ (Or.inl (by omega))]
          exact h9
        have q10 : C4 (53 + 3 * d) 10 = M3 163 d := by
          rw [f4 _ _ (Or.inr ⟨rfl, by omega⟩), g3 _ _ (by omega), g4 _ _ (Or.inl (by omega))]
          exact h10
        have P4 := gc4.pc hd30 P
        obtain ⟨r5, C5, M5, e6, e7, hr5, h5, h95, h105, f5, f6⟩ := h4.ends P4 Q3 hd30 hw hvc (by rw [gc4 _ _ (by omega) (by omega)]; exact cv) (by rw [g4 _ _ (Or.inl (by omega))]; exact mv) hi q9 q10
        rw [e7, zca_some] at mP
        have gc : GC d C C5 := gc4.tr (fun a j _ q => f5 a j (by omega))
        have gm : GM d (zup M 143 0 0) M5 := g4.gm.tr (fun a j q => f6 a j (by omega))
        refine ⟨r5, C5, M5, vc, dc, ?_, mP, RR.run hd gc gm (h3.rsi.gc (by rw [f5 _ _ (by omega), f4 _ _ (by omega)]) (by rw [f5 _ _ (by omega), f4 _ _ (by omega)])) (jx_rd hk hi h5 (by rw [gc _ _ (by omega) (by omega), gm _ _ (by omega)]; exact hh) h95 h105), gc.fc hd30, gm.th⟩
        rw [fX7_power, zd_t zo_0, eC, zca_some, zbd_e, if_pos rfl, zd_t (c_za18 P3 hd30), c_devp P3 hd30, zbd_e, zd_t (zo_dev hd30), c_06 P3, e5, zca_some, zd_t (c_za2 P4 (by omega)), c_ver P4 (by omega), e6, zca_some]
        rcases hr5 with rfl | rfl
        · rw [if_pos rfl]
        · rw [if_neg ne10]
  · refine bad_same R (r := -1000001) ?_ ?_
    · rw [fX7_power, zd_t zo_0, c_cut_o cv hvc cd hdc h, zca_some, zbd_e, if_neg (by decide)]
    · rw [mP]
      by_cases h1 : zin x dc
      · rw [mDe_i md hdc h1, zca_some, if_neg ne10]
        by_cases h2 : zin u vc
        · have h3 := zin15 fun q => h ⟨h1, h2, q⟩
          rw [mVe_i mv hvc h2, zca_some, if_neg ne10, in_o (by rw [z64]; exact h3), zca_some, if_pos rfl]
        · rw [mVe_o mv hvc h2, zca_some, if_pos rfl]
      · rw [mDe_o md hdc h1, zca_some, if_pos rfl]
theorem JX.keep (ho0 : o0 ≤ 1) (h : JX vc D d k w bl fl A o0 v0 f0 a0 i C M) : M 157 (2 * d + o0) = nI v0 ∧ M 158 (2 * d + o0) = a0 := by
  obtain ⟨p, o, v, f, t, y, s, b, a, hp, ho, hv, hf, hs2, hC, ⟨m1, m2, m3, m4, m5, m6, m7, m8, m9⟩, h⟩ := h
  rcases h with ⟨-, rfl, rfl, -, rfl, -⟩ | ⟨q, -, -, -, rfl, rfl, -, rfl, -⟩ | ⟨-, -, rfl, rfl, -, rfl, -⟩ | ⟨-, -, rfl, rfl, -, rfl, -, -, rfl, rfl⟩
  · exact ⟨m3, m4⟩
  · exact ⟨m3, m4⟩
  · exact ⟨m3, m4⟩
  · rw [show 1 - (1 - o0) = o0 by omega] at m5 m6
    rw [if_neg (by omega), show v0 + 1 - 1 = v0 by omega] at m5
    exact ⟨m5, m6⟩
theorem m_back (Q : PM M') (hd : d < 30) (ho : o ≤ 1) (k2 : M 156 d = nI o) (k5 : M 161 d = nI f) (k6 : M 159 d = 0) (kp : M' 157 (2 * d + o) = M 157 (2 * d + o)) (kq : M' 158 (2 * d + o) = M 158 (2 * d + o)) (g : FMd d M M') (u : Int32) : ∃ M2, fX8_cut_189 167 M' (nI 143) (nI d) (nI o) (nI f) (M 157 (2 * d + (1 - o))) (M 158 (2 * d + (1 - o))) (nI (2 * d + (1 - o))) u = some (u, M2) ∧ ∀ a j, a ≠ 160 → M2 a j = M a j := by
  have Q1 : PM (zup M' 156 d (nI o)) := Q.up (fun q => by omega)
  have Q2 : PM (zup (zup M' 156 d (nI o)) 161 d (nI f)) := Q1.up (fun q => by omega)
  have Q3 : PM (zup (zup (zup M' 156 d (nI o)) 161 d (nI f)) 157 (2 * d + (1 - o)) (M 157 (2 * d + (1 - o)))) := Q2.up (fun q => by omega)
  have Q4 : PM (zup (zup (zup (zup M' 156 d (nI o)) 161 d (nI f)) 157 (2 * d + (1 - o)) (M 157 (2 * d + (1 - o)))) 158 (2 * d + (1 - o)) (M 158 (2 * d + (1 - o)))) := Q3.up (fun q => by omega)
  refine ⟨zup (zup (zup (zup (zup M' 156 d (nI o)) 161 d (nI f)) 157 (2 * d + (1 - o)) (M 157 (2 * d + (1 - o)))) 158 (2 * d + (1 - o)) (M 158 (2 * d + (1 - o)))) 159 d 0, ?_, fun a j hne => ?_⟩
  · rw [fX8_cut_189, zbd_e, zd_t zo_143, show zg M' (nI 143) 16 = nI 156 from Q.m16, zd_t (za_156 hd), zq_n (by decide) (by omega), zbd_e, show zg (zup M' 156 d (nI o)) (nI 143) 21 = nI 161 from Q1.m21, zd_t (za_161 hd), zq_n (by decide) (by omega), zbd_e, show zg (zup (zup M' 156 d (nI o)) 161 d (nI f)) (nI 143) 17 = nI 157 from Q2.m17, zd_t (za_157 (by omega)), zq_n (by decide) (by omega), zbd_e, show zg (zup (zup (zup M' 156 d (nI o)) 161 d (nI f)) 157 (2 * d + (1 - o)) (M 157 (2 * d + (1 - o)))) (nI 143) 18 = nI 158 from Q3.m18, zd_t (za_158 (by omega)), zq_n (by decide) (by omega), zbd_e, show zg (zup (zup (zup (zup M' 156 d (nI o)) 161 d (nI f)) 157 (2 * d + (1 - o)) (M 157 (2 * d + (1 - o)))) 158 (2 * d + (1 - o)) (M 158 (2 * d + (1 - o)))) (nI 143) 19 = nI 159 from Q4.m19, zd_t (za_159 hd), zq_n (by decide) (by omega), zbd_e]
  · by_cases q1 : a = 159 ∧ j = d
    · obtain ⟨rfl, rfl⟩ := q1
      rw [zup_s, k6]
    · rw [zup_off q1]
      by_cases q2 : a = 158 ∧ j = 2 * d + (1 - o)
      · obtain ⟨rfl, rfl⟩ := q2
        rw [zup_s]
      · rw [zup_off q2]
        by_cases q3 : a = 157 ∧ j = 2 * d + (1 - o)
        · obtain ⟨rfl, rfl⟩ := q3
          rw [zup_s]
        · rw [zup_off q3]
          by_cases q4 : a = 161 ∧ j = d
          · obtain ⟨rfl, rfl⟩ := q4
            rw [zup_s, k5]
          · rw [zup_off q4]
            by_cases q5 : a = 156 ∧ j = d
            · obtain ⟨rfl, rfl⟩ := q5
              rw [zup_s, k2]
            · rw [zup_off q5]
              by_cases q6 : a = 157 ∧ j = 2 * d + o
              · obtain ⟨rfl, rfl⟩ := q6
                exact kp
              · by_cases q7 : a = 158 ∧ j = 2 * d + o
                · obtain ⟨rfl, rfl⟩ := q7
                  exact kq
                · exact g a j (by omega)
theorem ok_cut (R : R2 vc dc C M) (x u z q : Int32) : Same (fX7_cut 167 C (nI 0) x u z q) (fX8_cut 167 M (nI 143) x u z q) C M := by
  have P := R.1
  have RR := R.thrown 0
  obtain ⟨-, Q, -, -, ⟨hvc, cv, mv, vs⟩, -, -, ⟨hdc, cd, md, d1, -⟩, -⟩ := id RR
  by_cases h : (zin x dc ∧ zin u vc ∧ zin z 15) ∧ zin q 4
  · obtain ⟨⟨h1, h2, h3⟩, h4⟩ := h
    obtain ⟨g1, g2⟩ := zin_le (b := 3) (by decide) h4
    obtain ⟨d, hd, rfl⟩ := zin_ex (by omega) h1
    obtain ⟨w, hw, rfl⟩ := zin_ex (by omega) h2
    obtain ⟨N, hN, rfl⟩ := zin_ex (by omega) h3
    obtain ⟨n, hn, rfl⟩ := zin_ex (by omega) h4
    have hd30 : d < 30 := by omega
    obtain ⟨v, p, o, hv, hp, ho, a3, s0, b5, t0, hu⟩ := RR.on hd
    have eC := c_cut_i P cv hvc cd hdc hd hw (show N ≤ 14 by omega) (by omega) hp a3 s0
    by_cases c : w ≤ v
    · rw [if_pos (nI_le c (by omega))] at eC
      refine bad_same R (r := -1000002) ?_ ?_
      · rw [fX7_cut, if_neg g1, if_pos g2, zd_t zo_0, eC, zca_some, zbd_e, if_neg (by decide)]
      · rw [fX8_cut, zd_t zo_143, zbd_e, zp_n (by decide), mDe_i md hdc h1, zca_some, if_neg ne10, mVe_i mv hvc h2, zca_some, if_neg ne10, in_i (by rw [z64]; exact h3.1) (by rw [z64]; exact Int.lt_add_one_iff.mp h3.2), zca_some, if_neg ne10, in_i (by rw [z64]; exact h4.1) (by rw [z64]; exact Int.lt_add_one_iff.mp h4.2), zca_some, if_neg ne10, m_on Q hd30 (by omega) b5 t0, zca_some, if_neg (nI_nlt c (by omega))]
    · obtain ⟨C1, C2, r, e1, P1, e2, k19, hs2, A', ea, hA', hr, hx⟩ := RR.cut hd hw (show N ≤ 14 by omega) (show v < w by omega) hu
      rw [if_neg (nI_ge (by omega) (by omega)), e1, zca_some, zd_t (c_za2 P1 (by omega)), c_06 P1, zd_t zo_19, c_ver P1 (by omega), e2, zca_some] at eC
      rcases hx with ⟨n1, n2⟩ | ⟨n1, n2, C3, M3, k, bl, fl, A, o0, f0, a0, i', e3, e4, hk, ho0, hf0, k1, k2, k3, k4, k5, k6, h33, hi, g3, g4, p', hp', x3, x4⟩
      · rw [if_neg (nI_ge n2 (by omega))] at eC
        refine ⟨-1000001, C2, zup M 143 0 0, vc, dc, ?_, ?_, RR.side k19 hs2 (fun _ _ _ => rfl), k19.fc, FM.rf.up (by decide)⟩
        · rw [fX7_cut, if_neg g1, if_pos g2, zd_t zo_0, eC, zca_some, zbd_e, if_neg (by decide)]
        · rw [fX8_cut, zd_t zo_143, zbd_e, zp_n (by decide), mDe_i md hdc h1, zca_some, if_neg ne10, mVe_i mv hvc h2, zca_some, if_neg ne10, in_i (by rw [z64]; exact h3.1) (by rw [z64]; exact Int.lt_add_one_iff.mp h3.2), zca_some, if_neg ne10, in_i (by rw [z64]; exact h4.1) (by rw [z64]; exact Int.lt_add_one_iff.mp h4.2), zca_some, if_neg ne10, m_on Q hd30 (by omega) b5 t0, zca_some, if_pos (nI_lt (by omega) (by omega)), ea, zca_some, if_neg (nI_ge n1 (by omega))]
      · rw [if_pos (nI_le n2 (by omega)), zbd_e, e3] at eC
        have P3 := g3.pc P
        have Q3 := g4.pm Q
        obtain ⟨kp, kq⟩ := h33.keep ho0
        have back := m_back (o := o0) (f := f0) Q3 hd30 ho0 k2 k5 k6 (kp.trans k3.symm) (kq.trans k4.symm) g4
        have eM : fX8_cut 167 M (nI 143) (nI d) (nI w) (nI N) (nI n) = if nI n = 0 then zca (fX8_isAlive 167 M3 (nI 143) (nI d)) fun r65 S66 => if r65 = 0 then fX8_cut_189 167 S66 (nI 143) (nI d) (nI o0) (nI f0) (zup M 143 0 0 157 (2 * d + (1 - o0))) (zup M 143 0 0 158 (2 * d + (1 - o0))) (nI (2 * d + (1 - o0))) 0 else fX8_cut_189 167 S66 (nI 143) (nI d) (nI o0) (nI f0) (zup M 143 0 0 157 (2 * d + (1 - o0))) (zup M 143 0 0 158 (2 * d + (1 - o0))) (nI (2 * d + (1 - o0))) 1 else if nI n = 1 then zca (fX8_runsOn 167 M3 (nI 143) (nI d)) fun r62 S63 => fX8_cut_189 167 S63 (nI 143) (nI d) (nI o0) (nI f0) (zup M 143 0 0 157 (2 * d + (1 - o0))) (zup M 143 0 0 158 (2 * d + (1 - o0))) (nI (2 * d + (1 - o0))) r62 else if nI n = 2 then zca (fX8_other 167 M3 (nI 143) (nI d)) fun r58 S59 => zd (za 167 0 (nI 158) r58) <| fX8_cut_189 167 S59 (nI 143) (nI d) (nI o0) (nI f0) (zup M 143 0 0 157 (2 * d + (1 - o0))) (zup M 143 0 0 158 (2 * d + (1 - o0))) (nI (2 * d + (1 - o0))) (ze S59 (nI 158) r58) else zd (za 167 0 (nI 161) (nI d)) <| fX8_cut_189 167 M3 (nI 143) (nI d) (nI o0) (nI f0) (zup M 143 0 0 157 (2 * d + (1 - o0))) (zup M 143 0 0 158 (2 * d + (1 - o0))) (nI (2 * d + (1 - o0))) (M3 161 d) := by
          have eo := m_oth Q hd30 (show o0 = 0 ∨ o0 = 1 by omega) k2
          rw [fX8_cut, zd_t zo_143, zbd_e, zp_n (by decide), mDe_i md hdc h1, zca_some, if_neg ne10, mVe_i mv hvc h2, zca_some, if_neg ne10, in_i (by rw [z64]; exact h3.1) (by rw [z64]; exact Int.lt_add_one_iff.mp h3.2), zca_some, if_neg ne10, in_i (by rw [z64]; exact h4.1) (by rw [z64]; exact Int.lt_add_one_iff.mp h4.2), zca_some, if_neg ne10, m_on Q hd30 (by omega) b5 t0, zca_some, if_pos (nI_lt (by omega) (by omega)), ea, zca_some, if_pos (nI_le n1 (by omega)), show zg (zup M 143 0 0) (nI 143) 16 = nI 156 from Q.m16, zd_t (za_156 hd30), show ze (zup M 143 0 0) (nI 156) (nI d) = nI o0 from (ze_n (by decide) (by omega)).trans k2, zbd_e, show zg (zup M 143 0 0) (nI 143) 21 = nI 161 from Q.m21, zd_t (za_161 hd30), show ze (zup M 143 0 0) (nI 161) (nI d) = nI f0 from (ze_n (by decide) (by omega)).trans k5, zbd_e, eo, zca_some, show zg (zup M 143 0 0) (nI 143) 17 = nI 157 from Q.m17, zd_t (za_157 (by omega)), ze_n (by decide) (by omega), zbd_e, eo, zca_some, show zg (zup M 143 0 0) (nI 143) 18 = nI 158 from Q.m18, zd_t (za_158 (by omega)), ze_n (by decide) (by omega), zbd_e, eo, zca_some, zbd_e, e4, zca_some, show zg M3 (nI 143) 18 = nI 158 from Q3.m18, show zg M3 (nI 143) 21 = nI 161 from Q3.m21, show ze M3 (nI 161) (nI d) = M3 161 d from ze_n (by decide) (by omega)]
        obtain ⟨pp, oo, vv, ff, ss, bb, aa, hpp, hoo, hvv, hff, hss, ⟨y1, y3, y4, y5, y6, y7, y8, i0, i1, i2, i3⟩, ⟨w1, w2, w3, w4, w5, w6, w7, w8, -⟩, -⟩ := h33.t0 hi
        have z19 : ∀ p, p = 1 ∨ p = 2 → zo 167 14 (nI (19 + p)) = true := OD_19.2.2.2.1
        have eC2 : fX7_cut 167 C (nI 0) (nI d) (nI w) (nI N) (nI n) = if nI n = 0 then zca (fX2_isAlive 167 C3 (nI 19)) fun r12 S13 => if r12 = 0 then some (0, S13) else some (1, S13) else if nI n = 1 then zca (fX4_versionNumber 167 C3 (nI (19 + pp))) fun r19 S20 => some (r19, S20) else if nI n = 2 then some (C3 (19 + (3 - pp)) 1, C3) else some (C3 19 8, C3) := by
          rw [fX7_cut, if_neg g1, if_pos g2, zd_t zo_0, eC, zca_some, zbd_e, if_pos rfl, c_06 P3, zd_t zo_19, zd_t zo_19, zd_t zo_19, zd_t zo_19, show zg C3 (nI 19) 3 = nI (19 + pp) from (zg_n (by omega)).trans y3, show zg C3 (nI 19) 4 = nI (19 + (3 - pp)) from (zg_n (by omega)).trans y4, zd_t (z19 _ hpp), zd_t (z19 _ (by omega)), zg_n (by omega), zg_n (by omega)]
        have fin : ∀ {r : Int32}, fX7_cut 167 C (nI 0) (nI d) (nI w) (nI N) (nI n) = some (r, C3) → fX8_cut 167 M (nI 143) (nI d) (nI w) (nI N) (nI n) = fX8_cut_189 167 M3 (nI 143) (nI d) (nI o0) (nI f0) (zup M 143 0 0 157 (2 * d + (1 - o0))) (zup M 143 0 0 158 (2 * d + (1 - o0))) (nI (2 * d + (1 - o0))) r → Same (fX7_cut 167 C (nI 0) (nI d) (nI w) (nI N) (nI n)) (fX8_cut 167 M (nI 143) (nI d) (nI w) (nI N) (nI n)) C M := fun {r} q1 q2 => by
          obtain ⟨M4, b1, b2⟩ := back r
          exact ⟨r, C3, M4, vc, dc, q1, q2.trans b1, RR.side g3 h33.rsi b2, g3.fc, fun a ha => funext fun j => (b2 a j (by omega)).trans (zup_off (by omega))⟩
        obtain ⟨bl2, fl2, -, -, -, vb1, vb2, -⟩ := vs vv hvv
        rcases (show n = 0 ∨ n = 1 ∨ n = 2 ∨ n = 3 by omega) with rfl | rfl | rfl | rfl
        · refine fin (r := if C3 (19 + pp) 1 = C3 (43 + vv) 1 then (if nI vv < C3 19 8 then 0 else 1) else 0) ?_ ?_
          · rw [eC2, if_pos (show nI 0 = 0 from rfl), c_alive P3 zo_19 (by omega) (z19 _ hpp) (by omega) y3 (by omega) i0, zca_some]
            exact zbool _ rfl
          · rw [eM, if_pos (show nI 0 = 0 from rfl), m_alive Q3 hd30 (by omega) w2 (by omega) w3, zca_some, i1, ← w4, y8, ← w7, g3 _ _ (by omega), vb1, ← vb2, ← g4 147 vv (Or.inl (by omega))]
            by_cases c1 : M3 158 (2 * d + oo) = M3 147 vv
            · rw [if_pos c1]
              by_cases c2 : nI vv < M3 161 d
              · rw [if_pos c2, if_pos rfl]
              · rw [if_neg c2, if_neg ne10]
            · rw [if_neg c1, if_pos rfl]
        · refine fin (r := nI vv) ?_ ?_
          · rw [eC2, if_neg (by decide), if_pos (show nI 1 = 1 from rfl), c_vn P3 (z19 _ hpp) (by omega) (by omega) i0, zca_some]
          · rw [eM, if_neg (by decide), if_pos (show nI 1 = 1 from rfl), m_on Q3 hd30 (by omega) w2 w3, zca_some]
        · refine fin (r := C3 (19 + (3 - pp)) 1) ?_ ?_
          · rw [eC2, if_neg (by decide), if_neg (by decide), if_pos (show nI 2 = 2 from rfl)]
          · rw [eM, if_neg (by decide), if_neg (by decide), if_pos (show nI 2 = 2 from rfl), m_oth Q3 hd30 (by omega) w2, zca_some, zd_t (za_158 (by omega)), ze_n (by decide) (by omega), w6, i3]
        · refine fin (r := C3 19 8) ?_ ?_
          · rw [eC2, if_neg (by decide), if_neg (by decide), if_neg (by decide)]
          · rw [eM, if_neg (by decide), if_neg (by decide), if_neg (by decide), zd_t (za_161 hd30), w7, y8]
  · refine bad_same R (r := -1000001) ?_ ?_
    · rw [fX7_cut]
      by_cases c1 : q < 0
      · rw [if_pos c1]
      · rw [if_neg c1]
        by_cases c2 : q ≤ 3
        · rw [if_pos c2, zd_t zo_0, c_cut_o cv hvc cd hdc (fun hh => h ⟨hh, ?_⟩), zca_some, zbd_e, if_neg (by decide)]
          rw [zlt0] at c1
          rw [ile] at c2
          have c3 : q.toInt ≤ 3 := c2
          exact ⟨by omega, by omega⟩
        · rw [if_neg c2]
    · rw [fX8_cut, zd_t zo_143, zbd_e, zp_n (by decide)]
      by_cases h1 : zin x dc
      · rw [mDe_i md hdc h1, zca_some, if_neg ne10]
        by_cases h2 : zin u vc
        · rw [mVe_i mv hvc h2, zca_some, if_neg ne10]
          by_cases h3 : zin z 15
          · have h4 : ¬ zin q 4 := fun w => h ⟨⟨h1, h2, h3⟩, w⟩
            rw [in_i (by rw [z64]; exact h3.1) (by rw [z64]; exact Int.lt_add_one_iff.mp h3.2), zca_some, if_neg ne10, in_o (by rw [z64]; show q.toInt < 0 ∨ 3 < q.toInt; unfold zin at h4; omega), zca_some, if_pos rfl]
          · rw [in_o (by rw [z64]; exact zin15 h3), zca_some, if_pos rfl]
        · rw [mVe_o mv hvc h2, zca_some, if_pos rfl]
      · rw [mDe_o md hdc h1, zca_some, if_pos rfl]
end POW
