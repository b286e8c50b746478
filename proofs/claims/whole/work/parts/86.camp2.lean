section CA2
variable {C M C' M' E : zM} {vc dc d v p o t i n s k w : Nat} {x g : Int32}
def msh (M : zM) (q k n : Nat) : zM := fun a j => if a = 164 ∧ k ≤ j ∧ j < n then M 146 (q + j) else M a j
theorem msh_end : msh M k n n = M := by
  funext a j
  exact if_neg (by omega)
theorem msh_step (h : k < n) : msh (zup M 164 k (M 146 (w + k))) w (k + 1) n = msh M w k n := by
  funext a j
  unfold msh
  by_cases h1 : a = 164 ∧ k ≤ j ∧ j < n
  · rw [if_pos h1]
    by_cases e : j = k
    · subst e
      rw [if_neg (by omega)]
      obtain ⟨rfl, -⟩ := h1
      rw [zup_s]
    · rw [if_pos (by omega), zup_off (by omega)]
  · rw [if_neg h1, if_neg (by omega), zup_off (by omega)]
theorem m_205 (hs : s < 8) (hi : i + n ≤ 60) (hn : n ≤ 6) : ∀ (r k fu : Nat) (M : zM), PM M → k + r = n → r < fu → fX8_campaign_205 167 fu M (nI 143) (nI s) (nI i) (nI n) (nI k) = fX8_campaign_250 167 1000 (zfl (zup (zup (zup (msh M (60 * s + i) k n) 143 30 0) 143 31 0) 143 32 0) 165 0 30) (nI 143) 0 0
  | r, i, 0, M, _, _, h => absurd h (Nat.not_lt_zero _)
  | 0, k, fu + 1, M, Q, hk, _ => by
    obtain rfl : k = n := hk
    rw [fX8_campaign_205, if_pos (Int32.le_refl _), zd_t zo_143, m_bw Q, zca_some, zbd_e, zbd_e, msh_end]
  | r + 1, k, fu + 1, M, Q, hk, hf => by
    rw [fX8_campaign_205, if_neg (nI_ge (by omega) (by omega)), zd_t zo_143, show zg M (nI 143) 4 = nI 146 from Q.m4, ix60, nI_add, zd_t (za_146 (by omega)), show zg M (nI 143) 28 = nI 164 from Q.m28, zd_t (za_164 (by omega)), ze_n (by decide) (by omega), zq_n (by decide) (by omega), zbd_e, zbd_e, nI_1, m_205 hs hi hn r (k + 1) fu _ (Q.up (fun q => by omega)) (by omega) (by omega), msh_step (by omega)]
/-- what the reference does when the shares are good -/
def cpT (M : zM) (t s i n : Nat) (g : Int32) : Option (Int32 × zM) := fX8_campaign_205 167 1000 (zup (zup (zup (zup (zup (zup (zup M 143 1 0) 143 25 1) 143 26 (nI t)) 143 27 (nI n)) 143 29 g) 143 33 0) 143 34 0) (nI 143) (nI s) (nI i) (nI n) 0
theorem rising (P : PC C) (Q : PM M) (hs : s < 8) (hi : i + n ≤ 60) (hn : n ≤ 6) (hI : ∀ j, j < 60 → C (28 + 2 * s) j = M 146 (60 * s + j)) : ∀ (r k fu fu' : Nat) (a : Int32), k + r = n → r < fu → r < fu' → ((k = 0 ∧ a = 0) ∨ ∃ k', k = k' + 1 ∧ a = C (28 + 2 * s) (i + k') ∧ 1 ≤ a.toInt) → (fX3_holdsRisingShares_5 167 fu C (nI (27 + 2 * s)) (nI i) (nI n) a (nI (i + k)) = some (0, C) ∧ fX8_campaign_94 167 fu' M (nI 143) (nI t) (nI s) (nI i) (nI n) g (nI k) = some (-1000001, M)) ∨ (fX3_holdsRisingShares_5 167 fu C (nI (27 + 2 * s)) (nI i) (nI n) a (nI (i + k)) = some (1, C) ∧ fX8_campaign_94 167 fu' M (nI 143) (nI t) (nI s) (nI i) (nI n) g (nI k) = cpT M t s i n g)
  | r, k, 0, _, a, _, h, _, _ => absurd h (Nat.not_lt_zero _)
  | r, k, _ + 1, 0, a, _, _, h, _ => absurd h (Nat.not_lt_zero _)
  | 0, k, fu + 1, fu' + 1, a, hk, _, _, ha => by
    obtain rfl : k = n := hk
    refine Or.inr ⟨?_, ?_⟩
    · rw [fX3_holdsRisingShares_5, nI_add, if_pos (Int32.le_refl _)]
    · rw [fX8_campaign_94, if_pos (Int32.le_refl _), zd_t zo_143, zp_n (by decide), zbd_e, zp_n (by decide), zbd_e, zp_n (by decide), zbd_e, zp_n (by decide), zbd_e, zp_n (by decide), zbd_e, zp_n (by decide), zbd_e, zp_n (by decide), zbd_e, zbd_e]
      rfl
  | r + 1, k, fu + 1, fu' + 1, a, hk, hf, hf', ha => by
    have hI' := hI (i + k) (by omega)
    have eC : fX3_holdsRisingShares_5 167 (fu + 1) C (nI (27 + 2 * s)) (nI i) (nI n) a (nI (i + k)) = if C (28 + 2 * s) (i + k) ≤ a then some (0, C) else if C (28 + 2 * s) (i + k) ≤ 100 then fX3_holdsRisingShares_5 167 fu C (nI (27 + 2 * s)) (nI i) (nI n) (C (28 + 2 * s) (i + k)) (nI (i + (k + 1))) else some (0, C) := by
      rw [fX3_holdsRisingShares_5, nI_add, if_neg (nI_ge (by omega) (by omega)), zd_t (zo_sheet hs), show zg C (nI (27 + 2 * s)) 0 = nI (28 + 2 * s) from (zg_n (by omega)).trans (P.si hs), zd_t (za_items hs (by omega)), ze_n (by omega) (by omega), zbd_e, zbd_e, nI_1, show i + (k + 1) = i + k + 1 by omega]
    have eM : fX8_campaign_94 167 (fu' + 1) M (nI 143) (nI t) (nI s) (nI i) (nI n) g (nI k) = zca (fX8_in 167 M (C (28 + 2 * s) (i + k)).toInt64 1 100) fun r23 S24 => if r23 = 0 then some (-1000001, S24) else if nI k ≤ 0 then fX8_campaign_94 167 fu' S24 (nI 143) (nI t) (nI s) (nI i) (nI n) g (nI (k + 1)) else zd (za 167 0 (zg S24 (nI 143) 4) (nI (60 * s + i + k) - 1)) <| if ze S24 (zg S24 (nI 143) 4) (nI (60 * s + i + k) - 1) < C (28 + 2 * s) (i + k) then fX8_campaign_94 167 fu' S24 (nI 143) (nI t) (nI s) (nI i) (nI n) g (nI (k + 1)) else some (-1000001, S24) := by
      rw [fX8_campaign_94, if_neg (nI_ge (by omega) (by omega)), zd_t zo_143, show zg M (nI 143) 4 = nI 146 from Q.m4, ix60, nI_add, zd_t (za_146 (by omega)), show ze M (nI 146) (nI (60 * s + i + k)) = C (28 + 2 * s) (i + k) from (ze_n (by decide) (by omega)).trans (by rw [hI', show 60 * s + i + k = 60 * s + (i + k) by omega]), zbd_e]
      have e159 : ∀ S, fX8_campaign_159 167 (fX8_campaign_94 167 fu') S (nI 143) (nI t) (nI s) (nI i) (nI n) g (nI k) = fX8_campaign_94 167 fu' S (nI 143) (nI t) (nI s) (nI i) (nI n) g (nI (k + 1)) := fun S => by
        rw [fX8_campaign_159, zbd_e, nI_1]
      congr 1
      funext r23 S24
      rw [e159]
    have bad : ¬ (1 ≤ (C (28 + 2 * s) (i + k)).toInt ∧ (C (28 + 2 * s) (i + k)).toInt ≤ 100) → fX8_campaign_94 167 (fu' + 1) M (nI 143) (nI t) (nI s) (nI i) (nI n) g (nI k) = some (-1000001, M) := fun h => by
      rw [eM, in_o (by rw [z64]; show _ < 1 ∨ 100 < _; omega), zca_some, if_pos rfl]
    by_cases h1 : 1 ≤ (C (28 + 2 * s) (i + k)).toInt ∧ (C (28 + 2 * s) (i + k)).toInt ≤ 100
    · rw [in_i (by rw [z64]; exact h1.1) (by rw [z64]; exact h1.2), zca_some, if_neg ne10] at eM
      rcases ha with ⟨rfl, rfl⟩ | ⟨k', rfl, rfl, ha⟩
      · rw [if_neg (by rw [ile]; show ¬ _ ≤ (0 : Int); omega), if_pos (by rw [ile]; exact h1.2)] at eC
        rw [if_pos (by decide)] at eM
        rw [eC, eM]
        exact rising P Q hs hi hn hI r (0 + 1) fu fu' _ (by omega) (by omega) (by omega) (Or.inr ⟨0, rfl, rfl, h1.1⟩)
      · rw [if_neg (nI_nle (by omega) (by omega)), show zg M (nI 143) 4 = nI 146 from Q.m4, show 60 * s + i + (k' + 1) = 60 * s + (i + k') + 1 by omega, nI_pred, zd_t (za_146 (by omega)), ze_n (by decide) (by omega), ← hI (i + k') (by omega)] at eM
        by_cases h2 : C (28 + 2 * s) (i + k') < C (28 + 2 * s) (i + (k' + 1))
        · rw [if_neg (by rw [← Int32.not_lt, Classical.not_not]; exact h2), if_pos (by rw [ile]; exact h1.2)] at eC
          rw [if_pos h2] at eM
          rw [eC, eM]
          exact rising P Q hs hi hn hI r (k' + 1 + 1) fu fu' _ (by omega) (by omega) (by omega) (Or.inr ⟨k' + 1, rfl, rfl, h1.1⟩)
        · rw [if_pos (Int32.not_lt.mp h2)] at eC
          rw [if_neg h2] at eM
          exact Or.inl ⟨eC, eM⟩
    · refine Or.inl ⟨?_, bad h1⟩
      rw [eC]
      by_cases h2 : C (28 + 2 * s) (i + k) ≤ a
      · rw [if_pos h2]
      · rw [if_neg h2, if_neg (by
          rw [ile] at h2 ⊢
          show ¬ _ ≤ (100 : Int)
          rcases ha with ⟨rfl, rfl⟩ | ⟨k', rfl, rfl, ha⟩
          · have h3 : ¬ (C (28 + 2 * s) (i + 0)).toInt ≤ 0 := h2
            omega
          · omega)]
theorem ok_campaign (R : R2 vc dc C M) (y s i n g : Int32) : Same (fX7_campaign 167 C (nI 0) y s i n g) (fX8_campaign 167 M (nI 143) y s i n g) C M := by
  have P := R.1
  have RR := R.thrown 0
  obtain ⟨-, Q, ⟨-, sd⟩, hS, ⟨hvc, cv, mv, vs⟩, -, -, ⟨hdc, cd, md, d1, -⟩, -⟩ := id RR
  by_cases h1 : zin y vc
  · by_cases h2 : zin s 8
    · by_cases h3 : 1 ≤ n.toInt ∧ n.toInt ≤ 6
      · have g1 : ¬ n < 1 := by rw [ilt]; show ¬ n.toInt < 1; omega
        have g2 : ¬ 6 < n := by rw [ilt]; show ¬ 6 < n.toInt; omega
        have n3 : ∀ S, fX8_in 167 S n.toInt64 1 6 = some (1, S) := fun S => in_i (by rw [z64]; exact h3.1) (by rw [z64]; exact h3.2)
        by_cases h4 : zin g 11
        · obtain ⟨g3, g4⟩ := zin_le (b := 10) (by decide) h4
          have n4 : ∀ S, fX8_in 167 S g.toInt64 0 10 = some (1, S) := fun S => in_i (by rw [z64]; exact h4.1) (by rw [z64]; exact Int.lt_add_one_iff.mp h4.2)
          obtain ⟨t, ht, rfl⟩ := zin_ex (by omega) h1
          obtain ⟨q, hq, rfl⟩ := zin_ex (by omega) h2
          obtain ⟨k, hk, rfl⟩ := zin_ex (x := n) (k := 7) (by omega) ⟨by omega, by omega⟩
          rw [nIt (k := k) (by omega)] at h3
          have hsp := c_sheetp P hq
          have h00 : zg C (nI 0) 0 = nI 1 := P.c00
          have eC : fX7_campaign 167 C (nI 0) (nI t) (nI q) i (nI k) g = if C (27 + 2 * q) 1 = 0 then zca (fX3_hasPlaces 167 C (nI (27 + 2 * q)) i (nI k)) fun r19 S20 => if r19 = 0 then zca (fX7_found 167 S20 (nI 0) 2) fun r38 S39 => some (r38, S39) else zca (fX3_holdsRisingShares 167 S20 (nI (27 + 2 * q)) i (nI k)) fun r23 S24 => if r23 = 0 then some (-1000001, S24) else zd (za 167 3 (zg S24 (nI 0) 1) (nI t)) <| zd (zo 167 11 (zg S24 (nI 0) 7)) <| zca (fX1_begin 167 S24 (zg S24 (nI 0) 7) (ze S24 (zg S24 (nI 0) 1) (nI t)) (nI (27 + 2 * q)) i (nI k) g) fun r29 S30 => zca (fX7_membersOfWave 167 S30 (nI 0)) fun r32 S33 => zca (fX7_passed 167 S33 (nI 0) r32) fun r35 S36 => some (r35, S36) else zca (fX7_found 167 C (nI 0) 1) fun r41 S42 => some (r41, S42) := by
            rw [fX7_campaign, zd_t zo_0, cVe_i cv hvc h1, zca_some, if_neg ne10, cSh_i h2, zca_some, if_neg ne10, if_neg g1, if_neg g2, if_neg g3, if_pos g4, h00, zd_t (za_1 hq), show ze C (nI 1) (nI q) = nI (27 + 2 * q) from (ze_n (by decide) (by omega)).trans (P.s hq), zbd_e, zd_t (zo_sheet hq), zg_n (by omega)]
          have eM : fX8_campaign 167 M (nI 143) (nI t) (nI q) i (nI k) g = if 0 ≤ zup M 143 0 0 144 q then (if i < 0 then fX8_campaign_85 167 (zup M 143 0 0) (nI 143) else if lg_cmp (i.toInt64 + (nI k).toInt64) (zup M 143 0 0 145 q).toInt64 ≤ 0 then fX8_campaign_94 167 1000 (zup M 143 0 0) (nI 143) (nI t) (nI q) i (nI k) g 0 else fX8_campaign_85 167 (zup M 143 0 0) (nI 143)) else zca (fX8_found 167 (zup M 143 0 0) (nI 143) 1) fun r27 S28 => some (r27, S28) := by
            rw [fX8_campaign, zd_t zo_143, zbd_e, zp_n (by decide), mVe_i mv hvc h1, zca_some, if_neg ne10, mSh_i h2, zca_some, if_neg ne10, n3, zca_some, if_neg ne10, n4, zca_some, if_neg ne10, show zg (zup M 143 0 0) (nI 143) 2 = nI 144 from Q.m2, zd_t (za_144 hq), show zg (zup M 143 0 0) (nI 143) 3 = nI 145 from Q.m3, zd_t (za_145 hq), ze_n (by decide) (by omega), ze_n (by decide) (by omega), zbd_e]
          have e85 : fX8_campaign_85 167 (zup M 143 0 0) (nI 143) = some (-1000010 - 2, zup (zup M 143 0 0) 143 1 2) := by
            rw [fX8_campaign_85, zd_t zo_143, mFound, zca_some]
          obtain ⟨hl, ⟨m, hm, b1, b2⟩, hI⟩ := hS q hq
          rcases hl with ⟨a1, a2⟩ | ⟨a1, l, hl, a2, a3⟩
          · refine found_same R (r := -1000010 - 1) (y := 1) ?_ ?_
            · rw [eC, a1, if_neg ne10, cFound, zca_some]
            · rw [eM, a2, if_neg (by decide), mFound, zca_some]
          · rw [a1, if_pos rfl] at eC
            rw [a3, if_pos (nI_pos' (by omega)), b2] at eM
            by_cases h5 : 0 ≤ i.toInt ∧ i.toInt + k ≤ (m : Int)
            · obtain ⟨j, hj, rfl⟩ := zin_ex (x := i) (k := 61) (by omega) ⟨h5.1, by omega⟩
              rw [nIt (k := j) (by omega)] at h5
              rw [c_has_i hq hm b1 (by rw [nIt (by omega), nIt (by omega)]; omega), zca_some, if_neg ne10] at eC
              rw [if_neg (nI_pos (by omega)), if_pos (by rw [← Int32.not_lt, lgc_gt, z64a, z64, nIt (by omega), nIt (by omega), nIt (by omega)]; omega)] at eM
              have e0 : fX3_holdsRisingShares 167 C (nI (27 + 2 * q)) (nI j) (nI k) = fX3_holdsRisingShares_5 167 1000 C (nI (27 + 2 * q)) (nI j) (nI k) 0 (nI (j + 0)) := by
                rw [fX3_holdsRisingShares, zbd_e, zbd_e]
                rfl
              rcases rising (t := t) (g := g) P Q hq (show j + k ≤ 60 by omega) (by omega) hI k 0 1000 1000 0 (by omega) (by omega) (by omega) (Or.inl ⟨rfl, rfl⟩) with ⟨f1, f2⟩ | ⟨f1, f2⟩
              · refine bad_same R (r := -1000001) ?_ ?_
                · rw [eC, e0, f1, zca_some, if_pos rfl]
                · rw [eM]
                  exact f2
              · obtain ⟨C1, e1, x0, x2, x3, x5, x6, x7, x8, x9, x23, x24, fC⟩ := c_begin (x := nI (43 + t)) (g := g) P hq (show j + k ≤ 60 by omega) (by omega)
                have m7 : PM (zup (zup (zup (zup (zup (zup (zup (zup M 143 0 0) 143 1 0) 143 25 1) 143 26 (nI t)) 143 27 (nI k)) 143 29 g) 143 33 0) 143 34 0) := ((((((Q.up (fun _ => rfl)).up (fun _ => rfl)).up (fun _ => rfl)).up (fun _ => rfl)).up (fun _ => rfl)).up (fun _ => rfl)).up (fun _ => rfl)
                have f3 := m_205 hq (show j + k ≤ 60 by omega) (show k ≤ 6 by omega) k 0 1000 _ m7 (by omega) (by omega)
                have eM2 := eM.trans (f2.trans f3)
                generalize hM1 : zfl (zup (zup (zup (msh (zup (zup (zup (zup (zup (zup (zup (zup M 143 0 0) 143 1 0) 143 25 1) 143 26 (nI t)) 143 27 (nI k)) 143 29 g) 143 33 0) 143 34 0) (60 * q + j) 0 k) 143 30 0) 143 31 0) 143 32 0) 165 0 30 = M1 at eM2
                have y1 : ∀ a j, ¬ (a = 164 ∨ a = 165) → ¬ (a = 143 ∧ (j = 1 ∨ (25 ≤ j ∧ j ≤ 34 ∧ j ≠ 28))) → M1 a j = zup M 143 0 0 a j := fun a j q1 q2 => by
                  rw [← hM1, zfl_out (by omega), zup_off (by omega), zup_off (by omega), zup_off (by omega)]
                  unfold msh
                  rw [if_neg (by omega), zup_off (by omega), zup_off (by omega), zup_off (by omega), zup_off (by omega), zup_off (by omega), zup_off (by omega), zup_off (by omega)]
                have mm : ∀ j, j < 30 → j ≠ 31 → j ≠ 32 → M1 143 j = zup (zup (zup (zup (zup (zup (zup (zup M 143 0 0) 143 1 0) 143 25 1) 143 26 (nI t)) 143 27 (nI k)) 143 29 g) 143 33 0) 143 34 0 143 j := fun j q1 q2 q3 => by
                  rw [← hM1, zfl_out (by omega), zup_off (by omega), zup_off (by omega), zup_off (by omega)]
                  unfold msh
                  rw [if_neg (by omega)]
                have mh : ∀ j, j = 33 ∨ j = 34 → M1 143 j = 0 := fun j q1 => by
                  rw [← hM1, zfl_out (by omega), zup_off (by omega), zup_off (by omega), zup_off (by omega)]
                  unfold msh
                  rw [if_neg (by omega)]
                  rcases q1 with rfl | rfl
                  · rw [zup_off (by omega), zup_s]
                  · rw [zup_s]
                have z30 : M1 143 30 = 0 := by rw [← hM1, zfl_out (by omega), zup_off (by omega), zup_off (by omega), zup_s]
                have z31 : M1 143 31 = 0 := by rw [← hM1, zfl_out (by omega), zup_off (by omega), zup_s]
                have z32 : M1 143 32 = 0 := by rw [← hM1, zfl_out (by omega), zup_s]
                have z165 : ∀ j, j < 30 → M1 165 j = 0 := fun j hj => by rw [← hM1, zfl_in (by omega)]
                have z164 : ∀ u, u < k → M1 164 u = zup M 143 0 0 146 (60 * q + j + u) := fun u hu => by
                  rw [← hM1, zfl_out (by omega), zup_off (by omega), zup_off (by omega), zup_off (by omega)]
                  unfold msh
                  rw [if_pos (by omega), zup_off (by omega), zup_off (by omega), zup_off (by omega), zup_off (by omega), zup_off (by omega), zup_off (by omega), zup_off (by omega)]
                have q1 : M1 143 1 = 0 := by rw [mm 1 (by omega) (by omega) (by omega), zup_off (by omega), zup_off (by omega), zup_off (by omega), zup_off (by omega), zup_off (by omega), zup_off (by omega), zup_s]
                have q25 : M1 143 25 = 1 := by rw [mm 25 (by omega) (by omega) (by omega), zup_off (by omega), zup_off (by omega), zup_off (by omega), zup_off (by omega), zup_off (by omega), zup_s]
                have q26 : M1 143 26 = nI t := by rw [mm 26 (by omega) (by omega) (by omega), zup_off (by omega), zup_off (by omega), zup_off (by omega), zup_off (by omega), zup_s]
                have q27 : M1 143 27 = nI k := by rw [mm 27 (by omega) (by omega) (by omega), zup_off (by omega), zup_off (by omega), zup_off (by omega), zup_s]
                have q29 : M1 143 29 = g := by rw [mm 29 (by omega) (by omega) (by omega), zup_off (by omega), zup_off (by omega), zup_s]
                have s23 : ∀ u, u < k → C1 23 u = M1 164 u := fun u hu => by
                  rw [x23 u hu, z164 u hu, hI (j + u) (by omega), show 60 * q + j + u = 60 * q + (j + u) by omega]
                have fk : FKC C (zup C1 0 10 0) := fun a u w1 w2 => by rw [zup_off w2, fC a u w1]
                have P1 : PC C1 := P.of fun a u w => fC a u (fun e => w (zp0_22 e.1 e.2.1 e.2.2))
                have QM : PM M1 := FKM.pm (M := zup M 143 0 0) y1 Q
                obtain ⟨z, w1, w2⟩ := mem_loop P1 QM hdc (by rw [fC _ _ (by omega)]; exact cd) (by rw [y1 _ _ (by omega) (by omega)]; exact md) x5 (by rw [fC _ _ (by omega), y1 _ _ (by omega) (by omega)]; exact sd) (s23 0 (by omega)) dc 0 1000 1000 0 (by omega) (by omega) (by omega)
                refine ⟨z, zup C1 0 10 0, M1, vc, dc, ?_, eM2.trans w2, RR.camp fk y1 (by rw [zup_s, q1]) (Or.inr ⟨q25, t, k, 0, 0, ht, by omega, by omega, by omega, by omega, ?_, q26, ?_, q27, ?_, ?_, z30, ?_, ?_, ?_, mh 33 (Or.inl rfl), ?_, fun u hu => ?_, fun u hu => ?_⟩), fk.fc, (FM.rf.up (by decide)).tr (FKM.fm y1)⟩
                · have w1' : fX7_membersOfWave_4 167 1000 C1 (nI 0) 0 0 = some (z, C1) := w1
                  rw [eC, e0, f1, zca_some, if_neg ne10, zd_t (c_za2 P (by omega)), show zg C (nI 0) 7 = nI 22 from P.c07, zd_t zo_22, c_ver P (by omega), e1, zca_some, fX7_membersOfWave, zbd_e, zbd_e, w1', zca_some, cPassed, zca_some]
                · rw [zup_off (by omega), x0]
                · rw [zup_off (by omega), x2]
                · rw [zup_off (by omega), x3, q29]
                · rw [zup_off (by omega), x5]
                · rw [zup_off (by omega), x6, z31]
                · rw [zup_off (by omega), x7, z32]
                · rw [zup_off (by omega), x8]
                  rfl
                · rw [zup_off (by omega), x9, mh 34 (Or.inr rfl)]
                · rw [zup_off (by omega), s23 u hu]
                · rw [zup_off (by omega), x24 u hu, z165 u hu]
            · refine found_same R (r := -1000010 - 2) (y := 2) ?_ ?_
              · rw [eC, c_has_o hq hm b1 (fun w => h5 ⟨w.1, by have := w.2.2; rw [nIt (by omega)] at this; exact this⟩), zca_some, if_pos rfl, cFound, zca_some]
              · rw [eM, e85]
                by_cases w : i < 0
                · rw [if_pos w]
                · rw [if_neg w, if_neg (by rw [← Int32.not_lt, Classical.not_not, lgc_gt, z64a, z64, nIt (by omega), nIt (by omega)]; rw [zlt0] at w; omega)]
        · refine bad_same R (r := -1000001) ?_ ?_
          · rw [fX7_campaign, zd_t zo_0, cVe_i cv hvc h1, zca_some, if_neg ne10, cSh_i h2, zca_some, if_neg ne10, if_neg g1, if_neg g2]
            by_cases w : g < 0
            · rw [if_pos w]
            · rw [if_neg w, if_neg (by rw [ile]; rw [zlt0] at w; unfold zin at h4; show ¬ g.toInt ≤ 10; omega)]
          · rw [fX8_campaign, zd_t zo_143, zbd_e, zp_n (by decide), mVe_i mv hvc h1, zca_some, if_neg ne10, mSh_i h2, zca_some, if_neg ne10, n3, zca_some, if_neg ne10, in_o (by rw [z64]; show g.toInt < 0 ∨ 10 < g.toInt; unfold zin at h4; omega), zca_some, if_pos rfl]
      · refine bad_same R (r := -1000001) ?_ ?_
        · rw [fX7_campaign, zd_t zo_0, cVe_i cv hvc h1, zca_some, if_neg ne10, cSh_i h2, zca_some, if_neg ne10]
          by_cases w : n < 1
          · rw [if_pos w]
          · rw [if_neg w, if_pos (by rw [ilt]; rw [ilt] at w; have w2 : ¬ n.toInt < 1 := w; show 6 < n.toInt; omega)]
        · rw [fX8_campaign, zd_t zo_143, zbd_e, zp_n (by decide), mVe_i mv hvc h1, zca_some, if_neg ne10, mSh_i h2, zca_some, if_neg ne10, in_o (by rw [z64]; show n.toInt < 1 ∨ 6 < n.toInt; omega), zca_some, if_pos rfl]
    · refine bad_same R (r := -1000001) ?_ ?_
      · rw [fX7_campaign, zd_t zo_0, cVe_i cv hvc h1, zca_some, if_neg ne10, cSh_o h2, zca_some, if_pos rfl]
      · rw [fX8_campaign, zd_t zo_143, zbd_e, zp_n (by decide), mVe_i mv hvc h1, zca_some, if_neg ne10, mSh_o h2, zca_some, if_pos rfl]
  · refine bad_same R (r := -1000001) ?_ ?_
    · rw [fX7_campaign, zd_t zo_0, cVe_o cv hvc h1, zca_some, if_pos rfl]
    · rw [fX8_campaign, zd_t zo_143, zbd_e, zp_n (by decide), mVe_o mv hvc h1, zca_some, if_pos rfl]
end CA2
