theorem z64a (x y : Int32) : (x.toInt64 + y.toInt64).toInt = x.toInt + y.toInt := by
  have h1 := Int32.toInt_lt x
  have h2 := Int32.toInt_lt y
  have h3 := Int32.le_toInt x
  have h4 := Int32.le_toInt y
  rw [Int64.toInt_add, z64, z64, Int.bmod_eq_of_le] <;> omega
section CPY
variable {C M : zM} {vc dc : Nat}
theorem ok_copy (R : R2 vc dc C M) (a i b j n : Int32) : Same (fX7_copy 167 C (nI 0) a i b j n) (fX8_copy 167 M (nI 143) a i b j n) C M := by
  have P := R.1
  have Q := R.2.1
  have Q1 := m1_up Q
  by_cases h1 : zin a 8
  · by_cases h2 : zin b 8
    · obtain ⟨x, hx, rfl⟩ := zin_ex (by decide) h1
      obtain ⟨y, hy, rfl⟩ := zin_ex (by decide) h2
      have rx := R.2.2.2.1 x hx
      have ry := R.2.2.2.1 y hy
      obtain ⟨mx, hmx, bx1, bx2⟩ := rx.2.1
      obtain ⟨my, hmy, by1, by2⟩ := ry.2.1
      have eC : fX7_copy 167 C (nI 0) (nI x) i (nI y) j n = if C (27 + 2 * x) 1 = 0 then (if C (27 + 2 * y) 1 = 0 then (if C (27 + 2 * x) 2 = C (27 + 2 * y) 2 then zca (fX3_hasPlaces 167 C (nI (27 + 2 * x)) i n) fun r21 S22 => if r21 = 0 then fX7_copy_97 167 S22 (nI 0) else zca (fX3_hasPlaces 167 S22 (nI (27 + 2 * y)) j n) fun r25 S26 => if r25 = 0 then fX7_copy_97 167 S26 (nI 0) else zd (zo 167 0 (zg S26 (nI (27 + 2 * x)) 0)) <| zd (zo 167 0 (zg S26 (nI (27 + 2 * y)) 0)) <| zd (zcg (zg S26 (nI (27 + 2 * x)) 0) (zg S26 (nI (27 + 2 * y)) 0) i j n) <| zbd (zcy S26 (zg S26 (nI (27 + 2 * x)) 0) (zg S26 (nI (27 + 2 * y)) 0) i j n) fun S32 => zca (fX7_passed 167 S32 (nI 0) n) fun r34 S35 => some (r34, S35) else zca (fX7_found 167 C (nI 0) 5) fun r37 S38 => some (r37, S38)) else fX7_copy_49 167 C (nI 0)) else fX7_copy_49 167 C (nI 0) := by
        have h0 : zg C (nI 0) 0 = nI 1 := P.c00
        have hp := c_sheetp P hx
        have hq := c_sheetp P hy
        rw [h0] at hp hq
        rw [fX7_copy, cSh_i h1, zca_some, if_neg ne10, cSh_i h2, zca_some, if_neg ne10, zd_t zo_0, h0, zd_t (za_1 hx), hp, zbd_e, zd_t (za_1 hy), hq, zbd_e, zd_t (zo_sheet hx), zg_n (by omega), zd_t (zo_sheet hy), zg_n (by omega), zg_n (by omega), zg_n (by omega)]
      have eM : fX8_copy 167 M (nI 143) (nI x) i (nI y) j n = if M 144 x < 0 then fX8_copy_45 167 (zup (zup M 143 0 0) 143 1 0) (nI 143) else (if 0 ≤ M 144 y then (if M 144 x = M 144 y then (if i < 0 then fX8_copy_121 167 (zup (zup M 143 0 0) 143 1 0) (nI 143) else (if j < 0 then fX8_copy_121 167 (zup (zup M 143 0 0) 143 1 0) (nI 143) else (if n < 0 then fX8_copy_121 167 (zup (zup M 143 0 0) 143 1 0) (nI 143) else (if 0 < lg_cmp (i.toInt64 + n.toInt64) (M 145 x).toInt64 then fX8_copy_121 167 (zup (zup M 143 0 0) 143 1 0) (nI 143) else (if lg_cmp (j.toInt64 + n.toInt64) (M 145 y).toInt64 ≤ 0 then (if i < j then fX8_copy_138 167 (zup (zup M 143 0 0) 143 1 0) (nI 143) (nI x) i (nI y) j n 0 else fX8_copy_138 167 (zup (zup M 143 0 0) 143 1 0) (nI 143) (nI x) i (nI y) j n 1) else fX8_copy_121 167 (zup (zup M 143 0 0) 143 1 0) (nI 143)))))) else zca (fX8_found 167 (zup (zup M 143 0 0) 143 1 0) (nI 143) 5) fun r27 S28 => some (r27, S28)) else fX8_copy_45 167 (zup (zup M 143 0 0) 143 1 0) (nI 143)) := by
        rw [fX8_copy, zd_t zo_143, zbd_e, mSh_i h1, zca_some, if_neg ne10, mSh_i h2, zca_some, if_neg ne10, zbd_e, zp_n (by decide), zp_n (by decide), show zg (zup (zup M 143 0 0) 143 1 0) (nI 143) 2 = nI 144 from Q1.m2, show zg (zup (zup M 143 0 0) 143 1 0) (nI 143) 3 = nI 145 from Q1.m3, zd_t (za_144 hx), zd_t (za_144 hy), zd_t (za_145 hx), zd_t (za_145 hy), ze_n (by decide) (by omega), ze_n (by decide) (by omega), ze_n (by decide) (by omega), ze_n (by decide) (by omega), zup_off (by omega), zup_off (by omega), zup_off (by omega), zup_off (by omega), zup_off (by omega), zup_off (by omega), zup_off (by omega), zup_off (by omega)]
      have e45 : fX8_copy_45 167 (zup (zup M 143 0 0) 143 1 0) (nI 143) = some (-1000010 - 1, zup (zup M 143 0 0) 143 1 1) := by
        rw [fX8_copy_45, zd_t zo_143, m_found, zca_some]
      have e121 : fX8_copy_121 167 (zup (zup M 143 0 0) 143 1 0) (nI 143) = some (-1000010 - 2, zup (zup M 143 0 0) 143 1 2) := by
        rw [fX8_copy_121, zd_t zo_143, m_found, zca_some]
      rcases rx.1 with ⟨a1, a2⟩ | ⟨a1, lx, hlx, a2, a3⟩
      · exact found_same R (r := -1000010 - 1) (y := 1) (by rw [eC, a1, if_neg ne10]; rfl) (by rw [eM, a2, if_pos (by decide), e45])
      · rw [a1, if_pos rfl] at eC
        rw [a3, if_neg (nI_pos (by omega))] at eM
        rcases ry.1 with ⟨c1, c2⟩ | ⟨c1, ly, hly, c2, c3⟩
        · exact found_same R (r := -1000010 - 1) (y := 1) (by rw [eC, c1, if_neg ne10]; rfl) (by rw [eM, c2, if_neg (by decide), e45])
        · rw [c1, if_pos rfl, a2, c2] at eC
          rw [c3, if_pos (nI_pos' (by omega))] at eM
          by_cases hl : nI lx = nI ly
          · rw [if_pos hl] at eC eM
            by_cases g1 : 0 ≤ i.toInt ∧ 0 ≤ n.toInt ∧ i.toInt + n.toInt ≤ (mx : Int)
            · by_cases g2 : 0 ≤ j.toInt ∧ 0 ≤ n.toInt ∧ j.toInt + n.toInt ≤ (my : Int)
              · obtain ⟨p, hp, rfl⟩ := zin_ex (k := 61) (by decide) ⟨g1.1, by omega⟩
                obtain ⟨q, hq, rfl⟩ := zin_ex (k := 61) (by decide) ⟨g2.1, by omega⟩
                obtain ⟨k, hk, rfl⟩ := zin_ex (k := 61) (by decide) ⟨g1.2.1, by omega⟩
                rw [nIt (by omega), nIt (by omega)] at g1 g2
                obtain ⟨-, -, g1⟩ := g1
                obtain ⟨-, -, g2⟩ := g2
                rw [c_has_i hx hmx bx1 (by rw [nIt (by omega), nIt (by omega)]; omega), zca_some, if_neg ne10, c_has_i hy hmy by1 (by rw [nIt (by omega), nIt (by omega)]; omega), zca_some, if_neg ne10, zg_n (by omega), zg_n (by omega), P.si hx, P.si hy, zd_t (zo_items hx), zd_t (zo_items hy), zd_t (by
                  unfold zcg
                  rw [idn (by omega), idn (by omega), idn (by omega), idn (by omega), idn (by omega), (zK_fam.1 x hx).2, (zK_fam.1 y hy).2]
                  simp only [Bool.and_eq_true, decide_eq_true_eq]
                  exact ⟨nI_pos (by omega), nI_pos (by omega), nI_pos (by omega), by show p + k ≤ 60; omega, by show q + k ≤ 60; omega⟩), zbd_e, cPassed, zca_some] at eC
                rw [if_neg (nI_pos (by omega)), if_neg (nI_pos (by omega)), if_neg (nI_pos (by omega)), bx2, by2, if_neg (by rw [lgc_gt, z64a, z64, nIt (by omega), nIt (by omega), nIt (by omega)]; omega), if_pos (by
                  rw [← Int32.not_lt, lgc_gt, z64a, z64, nIt (by omega), nIt (by omega), nIt (by omega)]; omega)] at eM
                have eM2 : fX8_copy 167 M (nI 143) (nI x) (nI p) (nI y) (nI q) (nI k) = some (nI k, mcp (zup (zup M 143 0 0) 143 1 0) (60 * x + p) (60 * y + q) 0 k) := by
                  rw [eM]
                  by_cases hpq : nI p < nI q
                  · have hpq2 : p < q := (nI_ltI (by omega) (by omega)).mp hpq
                    rw [if_pos hpq, fX8_copy_138, zbd_e, zbd_e]
                    have h9 := cp_dn hx hy (i := p) (j := q) (n := k) (by omega) (by omega) (by omega) _ Q1 k 0 1000 (by omega) (by omega)
                    rw [Nat.sub_zero, mcp_0] at h9
                    exact h9
                  · have hpq2 : ¬ p < q := fun w => hpq ((nI_ltI (by omega) (by omega)).mpr w)
                    rw [if_neg hpq, fX8_copy_138, zbd_e, zbd_e]
                    have h9 := cp_up hx hy (i := p) (j := q) (n := k) (by omega) (by omega) (by omega) _ Q1 k 0 1000 (by omega) (by omega)
                    rw [mcp_0] at h9
                    exact h9
                have eZ : ∀ o t, o ≠ 28 + 2 * y → zcy C (nI (28 + 2 * x)) (nI (28 + 2 * y)) (nI p) (nI q) (nI k) o t = C o t := fun o t h => by
                  unfold zcy
                  rw [idn (by omega), if_neg h]
                have eZ2 : ∀ t, zcy C (nI (28 + 2 * x)) (nI (28 + 2 * y)) (nI p) (nI q) (nI k) (28 + 2 * y) t = if q ≤ t ∧ t < q + k then C (28 + 2 * x) (p + (t - q)) else C (28 + 2 * y) t := fun t => by
                  unfold zcy
                  rw [idn (by omega), idn (by omega), idn (by omega), idn (by omega), idn (by omega), if_pos rfl]
                  rfl
                have eW : ∀ o t, (o ≠ 146 ∨ t < 60 * y ∨ 60 * y + 60 ≤ t) → mcp (zup (zup M 143 0 0) 143 1 0) (60 * x + p) (60 * y + q) 0 k o t = zup (zup M 143 0 0) 143 1 0 o t := fun o t h => if_neg (by omega)
                refine ⟨_, _, _, vc, dc, eC, eM2, R.shs ?_ ?_ ?_ ?_, fun o ho => ?_, fun o ho => ?_⟩
                · intro o t h
                  unfold gSh at h
                  rw [zup_off (by omega), eZ o t (by omega)]
                · intro o t h
                  unfold gShM at h
                  rw [eW o t (by omega), zup_off (by omega), zup_off (by omega)]
                · rw [zup_s, eW _ _ (by omega), zup_s]
                · refine rsh_off (i := y) R.2.2.2.1 (fun t u ht hne => ⟨?_, ?_⟩) (fun t ht hne => ⟨?_, ?_, fun u hu => ?_⟩) ⟨Or.inr ⟨?_, ly, hly, ?_, ?_⟩, ⟨my, hmy, ?_, ?_⟩, fun u hu => ?_⟩
                  · rw [zup_off (by omega), eZ _ _ (by omega)]
                  · rw [zup_off (by omega), eZ _ _ (by omega)]
                  · rw [eW _ _ (by omega), zup_off (by omega), zup_off (by omega)]
                  · rw [eW _ _ (by omega), zup_off (by omega), zup_off (by omega)]
                  · rw [eW _ _ (by omega), zup_off (by omega), zup_off (by omega)]
                  · rw [zup_off (by omega), eZ _ _ (by omega)]
                    exact c1
                  · rw [zup_off (by omega), eZ _ _ (by omega)]
                    exact c2
                  · rw [eW _ _ (by omega), zup_off (by omega), zup_off (by omega)]
                    exact c3
                  · rw [zup_off (by omega), eZ _ _ (by omega)]
                    exact by1
                  · rw [eW _ _ (by omega), zup_off (by omega), zup_off (by omega)]
                    exact by2
                  · rw [zup_off (by omega), eZ2]
                    by_cases w : q ≤ u ∧ u < q + k
                    · rw [if_pos w]
                      refine (rx.2.2 (p + (u - q)) (by omega)).trans ?_
                      refine Eq.symm ((if_pos (by omega)).trans ?_)
                      rw [zup_off (by omega), zup_off (by omega)]
                      congr 1
                      omega
                    · rw [if_neg w]
                      refine (ry.2.2 u hu).trans ?_
                      refine Eq.symm ((if_neg (by omega)).trans ?_)
                      rw [zup_off (by omega), zup_off (by omega)]
                · funext t
                  rw [zup_off (by omega), eZ _ _ (by omega)]
                · funext t
                  rw [eW _ _ (by omega), zup_off (by omega), zup_off (by omega)]
              · refine found_same R (r := -1000010 - 2) (y := 2) ?_ ?_
                · rw [eC, c_has_i hx hmx bx1 g1, zca_some, if_neg ne10, c_has_o hy hmy by1 g2, zca_some, if_pos rfl]
                  rfl
                · rw [eM, if_neg (by rw [zlt0]; omega)]
                  by_cases w : j < 0
                  · rw [if_pos w, e121]
                  · rw [if_neg w, if_neg (by rw [zlt0]; omega), bx2, if_neg (by rw [lgc_gt, z64a, z64, nIt (by omega)]; omega), by2, if_neg (by
                      rw [← Int32.not_lt, lgc_gt, z64a, z64, nIt (by omega)]; rw [zlt0] at w; omega), e121]
            · refine found_same R (r := -1000010 - 2) (y := 2) ?_ ?_
              · rw [eC, c_has_o hx hmx bx1 g1, zca_some, if_pos rfl]
                rfl
              · rw [eM]
                by_cases w1 : i < 0
                · rw [if_pos w1, e121]
                · rw [if_neg w1]
                  by_cases w2 : j < 0
                  · rw [if_pos w2, e121]
                  · rw [if_neg w2]
                    by_cases w3 : n < 0
                    · rw [if_pos w3, e121]
                    · rw [zlt0] at w1 w3
                      rw [if_neg (by rw [zlt0]; exact w3), bx2, if_pos (by rw [lgc_gt, z64a, z64, nIt (by omega)]; omega), e121]
          · rw [if_neg hl] at eC eM
            exact found_same R (r := -1000010 - 5) (y := 5) (by rw [eC]; rfl) (by rw [eM, m_found]; rfl)
    · refine bad_same R (r := -1000001) ?_ ?_
      · rw [fX7_copy, cSh_i h1, zca_some, if_neg ne10, cSh_o h2, zca_some, if_pos rfl]
      · rw [fX8_copy, zd_t zo_143, zbd_e, mSh_i h1, zca_some, if_neg ne10, mSh_o h2, zca_some, if_pos rfl]
        all_goals rfl
  · refine bad_same R (r := -1000001) ?_ ?_
    · rw [fX7_copy, cSh_o h1, zca_some, if_pos rfl]
    · rw [fX8_copy, zd_t zo_143, zbd_e, mSh_o h1, zca_some, if_pos rfl]
      all_goals rfl
end CPY
