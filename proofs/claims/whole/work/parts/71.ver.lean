theorem zp0_big {a j : Nat} (h : 27 ≤ a) (hj : j ≠ 0) : zp0 a j = none := by
  unfold zp0
  rw [if_neg (by omega), if_neg (by omega), if_neg (by omega), if_neg (by omega), if_neg (by omega), if_neg (by omega), if_neg (by omega), if_neg (by omega), if_neg (by omega), if_neg (by omega), if_neg (by omega)]
section VER
variable {C M C0 M0 M' : zM} {vc dc d : Nat}
theorem RD1.mono (h : RD1 vc C M d) : RD1 (vc + 1) C M d := by
  obtain ⟨p, o, k, v, f, hp, ho, hk, hv, hf, a3, a4, a5, b5, a6, b6, a7, a1, b1, hh, a9, a10, a8, b8, s0, t0, s1, sp, sq⟩ := h
  refine ⟨p, o, k, v, f, hp, ho, hk, by omega, hf, a3, a4, a5, b5, a6, b6, a7, a1, b1, hh, a9, a10, a8, b8, s0, t0, s1, ?_, sq⟩
  rcases sp with q | ⟨w, hw, q⟩
  · exact Or.inl q
  · exact Or.inr ⟨w, by omega, q⟩
theorem RDev.mono (h : RDev vc dc C M) : RDev (vc + 1) dc C M := by
  obtain ⟨a1, a2, a3, a4, a5⟩ := h
  exact ⟨a1, a2, a3, fun d hd => (a4 d hd).mono, a5⟩
theorem RCamp.mono (h : RCamp vc C M) : RCamp (vc + 1) C M := by
  rcases h with q | ⟨q1, t, w, k, st, a1, rest⟩
  · exact Or.inl q
  · exact Or.inr ⟨q1, t, w, k, st, by omega, rest⟩
theorem RVer.least (h : RVer vc C M) (P : PC C) (Q : PM M) : ∃ L : Nat, L ≤ vc ∧ fX7_leastFloor 167 C (nI 0) = some (nI L, C) ∧ ∀ a b f, fX8_version 167 M (nI 143) b f a = fX8_version_27 167 (zup M 143 0 0) (nI 143) b f a (nI L) := by
  obtain ⟨hvc, cv, mv, vs⟩ := h
  have Q1 : PM (zup M 143 0 0) := Q.up (fun _ => rfl)
  by_cases h0 : vc = 0
  · subst h0
    refine ⟨0, by omega, ?_, fun a b f => ?_⟩
    · rw [fX7_leastFloor, zd_t zo_0, zg_n (by decide), cv, if_pos (by decide)]
      rfl
    · rw [fX8_version, zd_t zo_143, zbd_e, zp_n (by decide), zg_n (by decide), zup_off (by omega), mv, if_pos (by decide)]
      rfl
  · obtain ⟨i, rfl⟩ : ∃ i, vc = i + 1 := ⟨vc - 1, by omega⟩
    obtain ⟨bl, L, -, -, hL, -, -, c2, m2, -⟩ := vs i (by omega)
    refine ⟨L, by omega, ?_, fun a b f => ?_⟩
    · rw [fX7_leastFloor, zd_t zo_0, zg_n (by decide), cv, if_neg (nI_ne0 (by omega) (by omega)), nI_pred, show zg C (nI 0) 1 = nI 2 from P.c01, zd_t (za_2 (by omega)), ze_n (by decide) (by omega), P.v (by omega), zd_t (zo_ver (by omega)), zg_n (by omega), c2]
    · rw [fX8_version, zd_t zo_143, zbd_e, zp_n (by decide), zg_n (by decide), zup_off (by omega), mv, if_neg (nI_ne0 (by omega) (by omega)), nI_pred, show zg (zup M 143 0 0) (nI 143) 7 = nI 148 from Q1.m7, zd_t (za_148 (by omega)), ze_n (by decide) (by omega), zup_off (by omega), m2]
theorem ilt (x y : Int32) : x < y ↔ x.toInt < y.toInt := Int32.lt_iff_toInt_lt
theorem ile (x y : Int32) : x ≤ y ↔ x.toInt ≤ y.toInt := Int32.le_iff_toInt_le
theorem ok_version (R : R2 vc dc C M) (b f a : Int32) : Same (fX7_version 167 C (nI 0) b f a) (fX8_version 167 M (nI 143) b f a) C M := by
  have P := R.1
  have Q := R.2.1
  obtain ⟨L, hL, eL, eM⟩ := R.2.2.2.2.1.least P Q
  obtain ⟨hvc, cv, mv, vs⟩ := R.2.2.2.2.1
  have Q1 : PM (zup M 143 0 0) := Q.up (fun _ => rfl)
  rw [eM]
  by_cases h1 : 1 ≤ b.toInt ∧ b.toInt ≤ 8
  · have g1 : ¬ b < 1 := by rw [ilt]; show ¬ b.toInt < 1; omega
    have g2 : ¬ 8 < b := by rw [ilt]; show ¬ 8 < b.toInt; omega
    have n1 : fX8_in 167 (zup M 143 0 0) b.toInt64 1 8 = some (1, zup M 143 0 0) := in_i (by rw [z64]; exact h1.1) (by rw [z64]; exact h1.2)
    by_cases h2 : zin a 256
    · have g3 : ¬ a < 0 := by rw [zlt0]; unfold zin at h2; omega
      have g4 : a < 256 := by rw [ilt]; exact h2.2
      have n2 : ∀ S, fX8_in 167 S a.toInt64 0 255 = some (1, S) := fun S => in_i (by rw [z64]; exact h2.1) (by rw [z64]; exact Int.lt_add_one_iff.mp h2.2)
      have eC : fX7_version 167 C (nI 0) b f a = if f < nI L then some (-1000001, C) else if f ≤ nI vc then if nI vc < 10 then zd (za 167 3 (nI 2) (nI vc)) <| zd (zo 167 16 (ze C (nI 2) (nI vc))) <| zca (fX6_fill 167 C (ze C (nI 2) (nI vc)) b f a) fun r14 S15 => zbd (zp S15 (nI 0) 2 ((zg S15 (nI 0) 2) + 1)) fun S17 => some ((zg S17 (nI 0) 2) - 1, S17) else some (-1000003, C) else some (-1000001, C) := by
        rw [fX7_version, if_neg g1, if_neg g2, if_neg g3, if_pos g4, zd_t zo_0, eL, zca_some, zg_n (by decide), cv, show zg C (nI 0) 1 = nI 2 from P.c01]
      by_cases h3 : (L : Int) ≤ f.toInt ∧ f.toInt ≤ (vc : Int)
      · obtain ⟨fl, hfl, rfl⟩ := zin_ex (x := f) (k := vc + 1) (by omega) ⟨by omega, by omega⟩
        obtain ⟨bl, hbl, rfl⟩ := zin_ex (x := b) (k := 9) (by omega) ⟨by omega, by omega⟩
        rw [nIt (k := bl) (by omega)] at h1
        rw [nIt (k := fl) (by omega)] at h3
        rw [if_neg (show ¬ nI fl < nI L from nI_nlt (by omega) (by omega)), if_pos (show nI fl ≤ nI vc from nI_le (by omega) (by omega))] at eC
        have n3 : ∀ S, fX8_in 167 S (nI fl).toInt64 (nI L).toInt64 (nI vc).toInt64 = some (1, S) := fun S => in_i (by rw [z64, z64, nIt (k := L) (by omega), nIt (k := fl) (by omega)]; exact h3.1) (by rw [z64, z64, nIt (k := vc) (by omega), nIt (k := fl) (by omega)]; exact h3.2)
        by_cases h4 : vc = 10
        · subst h4
          refine bad_same R (r := -1000003) ?_ ?_
          · rw [eC, if_neg (by decide)]
          · rw [fX8_version_27, zbd_e, n1, zca_some, if_neg ne10, zd_t zo_143, zg_n (by decide), zup_off (by omega), mv, n3, zca_some, if_neg ne10, n2, zca_some, if_neg ne10, zg_n (by decide), zup_off (by omega), mv, if_pos (show nI 10 = 10 from rfl)]
        · have h10 : vc < 10 := by omega
          rw [if_pos (show nI vc < 10 from nI_lt (b := 10) h10 (by decide)), zd_t (za_2 h10), ze_n (by decide) (by omega), P.v h10, zd_t (zo_ver h10), fX6_fill, zd_t (zo_ver h10), zbd_e, zbd_e, zbd_e, zp_n (by omega), zp_n (by omega), zp_n (by omega), zca_some, zbd_e, zp_n (by decide), zg_n (by decide), zg_n (by decide), zup_s, zup_off (by omega), zup_off (by omega), zup_off (by omega), cv, nI_1, nI_pred] at eC
          have eM2 : fX8_version_27 167 (zup M 143 0 0) (nI 143) (nI bl) (nI fl) a (nI L) = some (nI vc, zup (zup (zup (zup (zup M 143 0 0) 147 vc (nI bl)) 148 vc (nI fl)) 149 vc a) 143 5 (nI (vc + 1))) := by
            have Q2 : PM (zup (zup M 143 0 0) 147 vc (nI bl)) := Q1.up (fun q => by omega)
            have Q3 : PM (zup (zup (zup M 143 0 0) 147 vc (nI bl)) 148 vc (nI fl)) := Q2.up (fun q => by omega)
            rw [fX8_version_27, zbd_e, n1, zca_some, if_neg ne10, zd_t zo_143, zg_n (by decide), zup_off (by omega), mv, n3, zca_some, if_neg ne10, n2, zca_some, if_neg ne10, zg_n (by decide), zup_off (by omega), mv, if_neg (show ¬ nI vc = 10 from fun q => h4 ((nI_eq (by omega) (by decide)).mp (q : nI vc = nI 10))), show zg (zup M 143 0 0) (nI 143) 6 = nI 147 from Q1.m6, zd_t (za_147 h10), zbd_e, zq_n (by decide) (by omega), show zg (zup (zup M 143 0 0) 147 vc (nI bl)) (nI 143) 7 = nI 148 from Q2.m7, zg_n (by decide), zup_off (by omega), zup_off (by omega), mv, zd_t (za_148 h10), zbd_e, zq_n (by decide) (by omega), show zg (zup (zup (zup M 143 0 0) 147 vc (nI bl)) 148 vc (nI fl)) (nI 143) 8 = nI 149 from Q3.m8, zg_n (by decide), zup_off (by omega), zup_off (by omega), zup_off (by omega), mv, zd_t (za_149 h10), zbd_e, zq_n (by decide) (by omega), zbd_e, zp_n (by decide), zg_n (by decide), zg_n (by decide), zup_s, zup_off (by omega), zup_off (by omega), zup_off (by omega), zup_off (by omega), mv, nI_1, nI_pred]
          obtain ⟨r1, r2, r3, r4, r5, r6, r7, r8, r9, r10⟩ := R
          refine ⟨_, _, _, vc + 1, dc, eC, eM2, ⟨((((r1.up ?_).up ?_).up ?_).up rfl), ((((r2.up (fun _ => rfl)).up (fun q => by omega)).up (fun q => by omega)).up (fun q => by omega)).up (fun _ => rfl), r3.fr ?_ ?_ ?_ ?_, r4.fr ?_ ?_, ⟨by omega, by rw [zup_s], by rw [zup_s], fun i hi => ?ver⟩, r6.fr ?_ ?_ ?_, r7.fr ?_ ?_, (r8.fr ?_ ?_ ?_ ?_).mono, (r9.fr ?_ ?_ ?_).mono, r10.fr ?_ ?_ ?_⟩, (((FC.rf.up (by omega)).up (by omega)).up (by omega)).up (by omega), ((((FM.rf.up (by omega)).up (by omega)).up (by omega)).up (by omega)).up (by omega)⟩
          case ver =>
            by_cases e : i = vc
            · subst e
              refine ⟨bl, fl, by omega, by omega, by omega, ?_, ?_, ?_, ?_, ?_⟩
              · rw [zup_off (by omega), zup_off (by omega), zup_off (by omega), zup_s]
              · rw [zup_off (by omega), zup_off (by omega), zup_off (by omega), zup_s]
              · rw [zup_off (by omega), zup_off (by omega), zup_s]
              · rw [zup_off (by omega), zup_off (by omega), zup_s]
              · rw [zup_off (by omega), zup_s, zup_off (by omega), zup_s]
            · obtain ⟨b1, f1, w1, w2, w3, w4, w5, w6, w7, w8⟩ := vs i (by omega)
              refine ⟨b1, f1, w1, w2, w3, ?_, ?_, ?_, ?_, ?_⟩
              · rw [zup_off (by omega), zup_off (by omega), zup_off (by omega), zup_off (by omega)]
                exact w4
              · rw [zup_off (by omega), zup_off (by omega), zup_off (by omega), zup_off (by omega), zup_off (by omega)]
                exact w5
              · rw [zup_off (by omega), zup_off (by omega), zup_off (by omega), zup_off (by omega)]
                exact w6
              · rw [zup_off (by omega), zup_off (by omega), zup_off (by omega), zup_off (by omega), zup_off (by omega)]
                exact w7
              · rw [zup_off (by omega), zup_off (by omega), zup_off (by omega), zup_off (by omega), zup_off (by omega), zup_off (by omega), zup_off (by omega), zup_off (by omega), zup_off (by omega)]
                exact w8
          all_goals first | (intros; rw [zup_off (by omega), zup_off (by omega), zup_off (by omega), zup_off (by omega)]; done) | (intros; rw [zup_off (by omega), zup_off (by omega), zup_off (by omega), zup_off (by omega), zup_off (by omega)]; done) | exact zp0_big (by omega) (by omega)
      · refine bad_same R (r := -1000001) ?_ ?_
        · rw [eC]
          by_cases w : f < nI L
          · rw [if_pos w]
          · rw [if_neg w, if_neg (by rw [ile, nIt (by omega)]; rw [ilt, nIt (by omega)] at w; omega)]
        · rw [fX8_version_27, zbd_e, n1, zca_some, if_neg ne10, zd_t zo_143, zg_n (by decide), zup_off (by omega), mv, in_o (by rw [z64, z64, z64, nIt (by omega), nIt (by omega)]; omega), zca_some, if_pos rfl]
    · refine bad_same R (r := -1000001) ?_ ?_
      · rw [fX7_version, if_neg g1, if_neg g2]
        by_cases w : a < 0
        · rw [if_pos w]
        · rw [if_neg w, if_neg (by rw [ilt]; rw [zlt0] at w; unfold zin at h2; show ¬ a.toInt < 256; omega)]
      · rw [fX8_version_27, zbd_e, n1, zca_some, if_neg ne10, zd_t zo_143]
        by_cases w : (nI L).toInt64.toInt ≤ f.toInt64.toInt ∧ f.toInt64.toInt ≤ (zg (zup M 143 0 0) (nI 143) 5).toInt64.toInt
        · rw [in_i w.1 w.2, zca_some, if_neg ne10, in_o (by rw [z64]; show a.toInt < 0 ∨ 255 < a.toInt; unfold zin at h2; omega), zca_some, if_pos rfl]
        · rw [in_o (by omega), zca_some, if_pos rfl]
  · refine bad_same R (r := -1000001) ?_ ?_
    · rw [fX7_version]
      by_cases w : b < 1
      · rw [if_pos w]
      · rw [if_neg w, if_pos (by rw [ilt]; rw [ilt] at w; have w2 : ¬ b.toInt < 1 := w; show 8 < b.toInt; omega)]
    · rw [fX8_version_27, zbd_e, in_o (by rw [z64]; show b.toInt < 1 ∨ 8 < b.toInt; omega), zca_some, if_pos rfl]
end VER
