section CUT
variable {C M C' M' E : zM} {vc dc d v D p k o f t y s w bl fl o0 v0 f0 i p' N : Nat} {a b A a0 : Int32}
theorem c_06 (P : PC C) : zg C (nI 0) 6 = nI 19 := P.c06
/-- all that an update of device d to version w wants -/
theorem R2.jx (R : R2 vc dc C M) (hd : d < dc) (hw : w < vc) (hvw : v < w) (hu : ∀ o' v', o' ≤ 1 → v' < vc → M 156 d = nI o' → M 157 (2 * d + o') = nI v' → v' = v) : ∃ k bl fl A o0 f0 a0, k < 8 ∧ o0 ≤ 1 ∧ f0 ≤ v ∧ 0 < bl ∧ bl < 9 ∧ fl ≤ w ∧ WV C M w bl fl A ∧ JX vc (53 + 3 * d) d k w bl fl A o0 v f0 a0 0 C M ∧ M 154 d = nI k ∧ M 156 d = nI o0 ∧ M 157 (2 * d + o0) = nI v ∧ M 158 (2 * d + o0) = a0 ∧ M 161 d = nI f0 ∧ M 159 d = 0 ∧ ∃ p, (p = 1 ∨ p = 2) ∧ C (53 + 3 * d) 3 = nI (53 + 3 * d + p) ∧ C (53 + 3 * d) 4 = nI (53 + 3 * d + (3 - p)) := by
  obtain ⟨P, Q, -, -, ⟨hvc, cv, mv, vs⟩, -, hs, ⟨hdc, cd, md, d1, -⟩, -⟩ := id R
  obtain ⟨bl, fl, hb1, hb2, hfl, c1, m1, c2, m2, c3⟩ := vs w hw
  obtain ⟨k, o0, v0, f0, a0, hk, ho0, hv0, hf0, k1, k2, k3, k4, k5, k6, ⟨p, hp, x3, x4, -⟩, hJ⟩ := rd_jx (by omega) (d1 d hd)
  have := hu o0 v0 ho0 hv0 k2 k3
  subst this
  exact ⟨k, bl, fl, M 149 w, o0, f0, a0, hk, ho0, hf0, hb1, by omega, hfl, ⟨c1, c2, c3, m1, m2, rfl⟩, hJ w bl fl (M 149 w), k1, k2, k3, k4, k5, k6, p, hp, x3, x4⟩
def F19 (C C' : zM) : Prop := ∀ a j, ¬ (19 ≤ a ∧ a ≤ 21) → C' a j = C a j
theorem FD.f19 (h : FD 19 C C') : F19 C C' := fun a j q => h a j (Or.inl q)
theorem F19.tr (h : F19 C C') (h2 : F19 C' E) : F19 C E := fun a j q => (h2 a j q).trans (h a j q)
theorem F19.fc (h : F19 C C') : FC C C' := fun a ha => funext fun j => h a j (by omega)
theorem F19.pc (h : F19 C C') (P : PC C) : PC C' := P.of fun a j q => h a j (fun w => q (zp0_19 w.1 w.2))
theorem JX.rsi (h : JX vc 19 d k w bl fl A o0 v0 f0 a0 i C M) : RSI C := by
  obtain ⟨p, o, v, f, t, y, s, b, a, hp, ho, hv, hf, hs2, hC, hM, h⟩ := h
  exact ⟨p, hp, hC.2.1, hC.2.2.1⟩
/-- the one that stands in goes through N acts -/
theorem R2.stand (R : R2 vc dc C M) (hd : d < dc) (hw : w < vc) (hvc : vc ≤ 10) (hf0 : f0 ≤ v) (hvw : v < w) (hbl0 : 0 < bl) (hbl : bl < 9) (hfl : fl ≤ w) (hV : WV C M w bl fl A) (hJ : JX vc (53 + 3 * d) d k w bl fl A o0 v f0 a0 0 C M) {most st : Nat} (hN : N ≤ zA bl A k) (hm : N = most ∨ (N = zA bl A k ∧ N ≤ most)) (hm2 : most < 100) : ∃ C1 C2 M2, fX2_become 167 C (nI 19) (nI (53 + 3 * d)) = some (0, C1) ∧ F19 C C1 ∧ fX2_install 167 C1 (nI 19) (nI (43 + w)) (nI most) = some (nI N, C2) ∧ fX8_go 167 M (nI 143) (nI d) (nI w) (nI N) (nI st) = fX8_go_26 167 1000 M2 (nI 143) (nI d) (nI st) 0 ∧ JX vc 19 d k w bl fl A o0 v f0 a0 N C2 M2 ∧ F19 C C2 ∧ FMd d M M2 ∧ WV C2 M2 w bl fl A := by
  obtain ⟨P, Q, -, -, -, -, ⟨p', hp', q3, q4⟩, ⟨hdc, -⟩, -⟩ := id R
  have hd30 : d < 30 := by omega
  obtain ⟨C1, e1, h1, f1⟩ := hJ.become (OD_dev hd30) OD_19 (Or.inl (by omega)) hp' q3 q4
  have g1 : F19 C C1 := fun a j q => f1 a j (Or.inl q)
  have hV1 : WV C1 M w bl fl A := by
    obtain ⟨w1, w2, w3, m1, m2, m3⟩ := hV
    exact ⟨by rw [g1 _ _ (by omega)]; exact w1, by rw [g1 _ _ (by omega)]; exact w2, by rw [g1 _ _ (by omega)]; exact w3, m1, m2, m3⟩
  obtain ⟨C2, M2, e2, e3, h2, f2, f3⟩ := JX.inst OD_19 hd30 hw hvc hf0 hvw hfl hbl0 (by omega) (st := st) hN hm hm2 N 0 1000 1000 C1 M (by omega) (by have := zA_le (bl := bl) (A := A) (k := k); omega) (by have := zA_le (bl := bl) (A := A) (k := k); omega) (g1.pc P) Q hV1 h1
  refine ⟨C1, C2, M2, e1, g1, ?_, ?_, h2, g1.tr f2.f19, f3, hV1.fr (by omega) OD_19 f2 f3⟩
  · rw [fX2_install, zbd_e]
    exact e2
  · rw [fX8_go, zbd_e]
    exact e3
theorem ok_acts (R : R2 vc dc C M) (x y : Int32) : Same (fX7_acts 167 C (nI 0) x y) (fX8_acts 167 M (nI 143) x y) C M := by
  have P := R.1
  have RR := R.thrown 0
  obtain ⟨-, Q, -, -, ⟨hvc, cv, mv, -⟩, -, -, ⟨hdc, cd, md, -⟩, -⟩ := id RR
  by_cases h1 : zin x dc
  · by_cases h2 : zin y vc
    · obtain ⟨d, hd, rfl⟩ := zin_ex (by omega) h1
      obtain ⟨w, hw, rfl⟩ := zin_ex (by omega) h2
      have hd30 : d < 30 := by omega
      obtain ⟨v, p, o, hv, hp, ho, a3, s0, b5, t0, hu⟩ := RR.on hd
      have eC : fX7_acts 167 C (nI 0) (nI d) (nI w) = if nI w ≤ nI v then some (-1000002, C) else zca (fX2_become 167 C (nI 19) (nI (53 + 3 * d))) fun r17 S18 => zd (za 167 3 (zg S18 (nI 0) 1) (nI w)) <| zd (zo 167 12 (zg S18 (nI 0) 6)) <| zca (fX2_install 167 S18 (zg S18 (nI 0) 6) (ze S18 (zg S18 (nI 0) 1) (nI w)) 14) fun r22 S23 => some (r22, S23) := by
        rw [fX7_acts, zd_t zo_0, cDe_i cd hdc h1, zca_some, if_neg ne10, cVe_i cv hvc h2, zca_some, if_neg ne10, zd_t (c_za18 P hd30), c_devp P hd30, c_above P hd30 hp (by omega) a3 s0, zca_some, zd_t (c_za18 P hd30), c_06 P, zd_t zo_19, c_devp P hd30]
        by_cases c : nI w ≤ nI v
        · rw [if_pos c, if_pos c, if_pos rfl]
        · rw [if_neg c, if_neg c, if_neg ne10]
      have eM : fX8_acts 167 M (nI 143) (nI d) (nI w) = if nI v < nI w then zca (fX8_actsOf 167 (zup M 143 0 0) (nI 143) (nI d) (nI w)) fun r16 S17 => some (r16, S17) else some (-1000002, zup M 143 0 0) := by
        rw [fX8_acts, zd_t zo_143, zbd_e, zp_n (by decide), mDe_i md hdc h1, zca_some, if_neg ne10, mVe_i mv hvc h2, zca_some, if_neg ne10, m_on Q hd30 (by omega) b5 t0, zca_some]
      by_cases c : w ≤ v
      · refine bad_same R (r := -1000002) ?_ ?_
        · rw [eC, if_pos (nI_le c (by omega))]
        · rw [eM, if_neg (nI_nlt c (by omega))]
      · obtain ⟨k, bl, fl, A, o0, f0, a0, hk, ho0, hf0, hb1, hb2, hfl, hV, hJ, k1, k2, k3, k4, k5, k6, p0, hp0, x3, x4⟩ := RR.jx hd hw (by omega) hu
        have hA := zA_le (bl := bl) (A := A) (k := k)
        obtain ⟨C1, C2, M2, e1, g1, e2, -, h2, g2, -, -⟩ := RR.stand hd hw hvc hf0 (by omega) hb1 hb2 hfl hV hJ (N := zA bl A k) (most := 14) (st := 0) (Nat.le_refl _) (Or.inr ⟨rfl, by omega⟩) (by omega)
        have P1 := g1.pc P
        refine ⟨nI (zA bl A k), C2, zup M 143 0 0, vc, dc, ?_, ?_, RR.side g2 h2.rsi (fun _ _ _ => rfl), g2.fc, FM.rf.up (by decide)⟩
        · rw [eC, if_neg (nI_ge (by omega) (by omega)), e1, zca_some, zd_t (c_za2 P1 (by omega)), c_06 P1, zd_t zo_19, c_ver P1 (by omega)]
          have e2' : fX2_install 167 C1 (nI 19) (nI (43 + w)) 14 = some (nI (zA bl A k), C2) := e2
          rw [e2', zca_some]
        · rw [eM, if_pos (nI_lt (by omega) (by omega)), m_actsOf Q hd30 (by omega) hV.2.2.2.1 hV.2.2.2.2.2 k1, zca_some]
    · obtain ⟨d, hd, rfl⟩ := zin_ex (by omega) h1
      refine bad_same R (r := -1000001) ?_ ?_
      · rw [fX7_acts, zd_t zo_0, cDe_i cd hdc h1, zca_some, if_neg ne10, cVe_o cv hvc h2, zca_some, if_pos rfl]
      · rw [fX8_acts, zd_t zo_143, zbd_e, zp_n (by decide), mDe_i md hdc h1, zca_some, if_neg ne10, mVe_o mv hvc h2, zca_some, if_pos rfl]
  · refine bad_same R (r := -1000001) ?_ ?_
    · rw [fX7_acts, zd_t zo_0, cDe_o cd hdc h1, zca_some, if_pos rfl]
    · rw [fX8_acts, zd_t zo_143, zbd_e, zp_n (by decide), mDe_o md hdc h1, zca_some, if_pos rfl]
/-- four starts, of both -/
theorem JX.four (hd : d < 30) (hw : w < vc) (hvc : vc ≤ 10) (h0 : f0 ≤ v0) (h0w : v0 < w) (hfl : fl ≤ w) (hbl : bl < 20) : ∀ (r x i fu fu' : Nat) (C M : zM), x + r = 4 → r < fu → r < fu' → i ≤ zA bl A k → (i ≤ bl + 1 ∨ zA bl A k ≤ i + r) → PC C → PM M → WV C M w bl fl A → JX vc 19 d k w bl fl A o0 v0 f0 a0 i C M → ∃ C' M' i', fX7_cutStandIn_82 167 fu C (nI 0) (nI x) = some (0, C') ∧ fX8_go_26 167 fu' M (nI 143) (nI d) (nI 4) (nI x) = some (0, M') ∧ JX vc 19 d k w bl fl A o0 v0 f0 a0 i' C' M' ∧ (i' ≤ bl + 1 ∨ i' = zA bl A k) ∧ F19 C C' ∧ FMd d M M'
  | r, x, i, 0, _, C, M, _, hf, _, _, _, _, _, _, _ => absurd hf (Nat.not_lt_zero _)
  | r, x, i, _ + 1, 0, C, M, _, _, hf, _, _, _, _, _, _ => absurd hf (Nat.not_lt_zero _)
  | 0, x, i, fu + 1, fu' + 1, C, M, hx, _, _, hi, hi2, P, Q, hV, h => by
    obtain rfl : x = 4 := hx
    refine ⟨C, M, i, ?_, ?_, h, by omega, fun _ _ _ => rfl, FMd.rf⟩
    · rw [fX7_cutStandIn_82, if_pos (by exact Int32.le_refl _)]
    · rw [fX8_go_26, if_pos (Int32.le_refl _)]
  | r + 1, x, i, fu + 1, fu' + 1, C, M, hx, hf, hf', hi, hi2, P, Q, hV, h => by
    obtain ⟨C1, M1, i1, e1, e2, h1, f1, f2, hc⟩ := h.start P Q OD_19 hd hw hvc h0 h0w hfl hbl hV
    obtain ⟨C2, M2, i2, e3, e4, h2, hc2, f3, f4⟩ := JX.four hd hw hvc h0 h0w hfl hbl r (x + 1) i1 fu fu' C1 M1 (by omega) (by omega) (by omega) (by omega) (by omega) (f1.pc OD_19 P) (f2.pm Q) (hV.fr (by omega) OD_19 f1 f2) h1
    refine ⟨C2, M2, i2, ?_, ?_, h2, hc2, f1.f19.tr f3, f2.tr f4⟩
    · rw [fX7_cutStandIn_82, if_neg (show ¬ (4 : Int32) ≤ nI x from nI_ge (b := 4) (by omega) (by decide)), zd_t zo_0, c_06 P, zd_t zo_19, e1, zca_some, zbd_e, nI_1, e3]
    · rw [fX8_go_26, if_neg (nI_ge (by omega) (by omega)), zd_t zo_143, e2, zca_some, zbd_e, nI_1, e4]
/-- what both come to behind a cut at N acts, or why not -/
theorem R2.cut (R : R2 vc dc C M) (hd : d < dc) (hw : w < vc) (hN : N ≤ 14) (hvw : v < w) (hu : ∀ o' v', o' ≤ 1 → v' < vc → M 156 d = nI o' → M 157 (2 * d + o') = nI v' → v' = v) : ∃ C1 C2 r, fX2_become 167 C (nI 19) (nI (53 + 3 * d)) = some (0, C1) ∧ PC C1 ∧ fX2_install 167 C1 (nI 19) (nI (43 + w)) (nI N) = some (nI r, C2) ∧ F19 C C2 ∧ RSI C2 ∧ ∃ A', fX8_actsOf 167 M (nI 143) (nI d) (nI w) = some (nI A', M) ∧ A' < 100 ∧ r < 100 ∧ ((A' < N ∧ r < N) ∨ (N ≤ A' ∧ N ≤ r ∧ ∃ C' M' k bl fl A o0 f0 a0 i', fX7_cutStandIn_82 167 1000 C2 (nI 0) 0 = some (0, C') ∧ fX8_go 167 M (nI 143) (nI d) (nI w) (nI N) 4 = some (0, M') ∧ k < 8 ∧ o0 ≤ 1 ∧ f0 ≤ v ∧ M 154 d = nI k ∧ M 156 d = nI o0 ∧ M 157 (2 * d + o0) = nI v ∧ M 158 (2 * d + o0) = a0 ∧ M 161 d = nI f0 ∧ M 159 d = 0 ∧ JX vc 19 d k w bl fl A o0 v f0 a0 i' C' M' ∧ (i' ≤ bl + 1 ∨ i' = zA bl A k) ∧ F19 C C' ∧ FMd d M M' ∧ ∃ p, (p = 1 ∨ p = 2) ∧ C (53 + 3 * d) 3 = nI (53 + 3 * d + p) ∧ C (53 + 3 * d) 4 = nI (53 + 3 * d + (3 - p)))) := by
  have hvc : vc ≤ 10 := R.2.2.2.2.1.1
  have hdc : dc ≤ 30 := R.2.2.2.2.2.2.2.1.1
  obtain ⟨k, bl, fl, A, o0, f0, a0, hk, ho0, hf0, hb1, hb2, hfl, hV, hJ, k1, k2, k3, k4, k5, k6, hp⟩ := R.jx hd hw hvw hu
  have hA := zA_le (bl := bl) (A := A) (k := k)
  have ea := m_actsOf R.2.1 (show d < 30 by omega) (show w < 10 by omega) hV.2.2.2.1 hV.2.2.2.2.2 k1
  by_cases c : N ≤ zA bl A k
  · obtain ⟨C1, C2, M2, e1, g1, e2, e3, h2, g2, g3, hV2⟩ := R.stand hd hw hvc hf0 hvw hb1 hb2 hfl hV hJ (N := N) (most := N) (st := 4) c (Or.inl rfl) (by omega)
    obtain ⟨C3, M3, i', e4, e5, h3, hi, g4, g5⟩ := JX.four (show d < 30 by omega) hw hvc hf0 hvw hfl (by omega) 4 0 N 1000 1000 C2 M2 (by omega) (by omega) (by omega) c (by omega) (g2.pc R.1) (g3.pm R.2.1) hV2 h2
    exact ⟨C1, C2, N, e1, g1.pc R.1, e2, g2, h2.rsi, _, ea, by omega, by omega, Or.inr ⟨c, Nat.le_refl _, C3, M3, k, bl, fl, A, o0, f0, a0, i', e4, e3.trans e5, hk, ho0, hf0, k1, k2, k3, k4, k5, k6, h3, hi, g2.tr g4, g3.tr g5, hp⟩⟩
  · obtain ⟨C1, C2, M2, e1, g1, e2, e3, h2, g2, g3, -⟩ := R.stand hd hw hvc hf0 hvw hb1 hb2 hfl hV hJ (N := zA bl A k) (most := N) (st := 4) (Nat.le_refl _) (Or.inr ⟨rfl, by omega⟩) (by omega)
    exact ⟨C1, C2, _, e1, g1.pc R.1, e2, g2, h2.rsi, _, ea, by omega, by omega, Or.inl ⟨by omega, by omega⟩⟩
end CUT
