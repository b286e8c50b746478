theorem nne {k : Nat} (h : k < 1000000) : ¬ nI k = -1 := fun q => by
  have := congrArg Int32.toInt q
  rw [nIt h, show (-1 : Int32).toInt = -1 from by decide] at this
  omega
theorem nne6 {k : Nat} (h : k < 1000000) : ¬ nI k = -1000000 := fun q => by
  have := congrArg Int32.toInt q
  rw [nIt h, show (-1000000 : Int32).toInt = -1000000 from by decide] at this
  omega
theorem zp0_15 {a j : Nat} (h : 15 ≤ a) (h2 : a ≤ 17) : zp0 a j = none := by
  unfold zp0
  rw [if_neg (by omega), if_neg (by omega), if_neg (by omega), if_neg (by omega), if_neg (by omega), if_neg (by omega), if_neg (by omega), if_neg (by omega), if_neg (by omega), if_neg (by omega), if_neg (by omega)]
/-- what both know of version w on its way to version t -/
def RW (C M : zM) (t w : Nat) : Prop := (C 15 w = -1 ∧ M 151 w = -1000000) ∨ ∃ s k : Nat, s ≤ 1000 * (t - w) ∧ k ≤ t - w ∧ C 15 w = nI s ∧ M 151 w = nI s ∧ C 16 w = nI k ∧ M 152 w = nI k ∧ ((w = t ∧ k = 0) ∨ ∃ x k' : Nat, w < x ∧ x ≤ t ∧ k = k' + 1 ∧ C 17 w = nI x ∧ M 153 w = nI x ∧ ¬ C 15 x = -1 ∧ C 16 x = nI k')
def FW (v : Nat) (C C' : zM) : Prop := ∀ a j, ¬ (15 ≤ a ∧ a ≤ 17 ∧ j = v) → C' a j = C a j
def GW (v : Nat) (M M' : zM) : Prop := ∀ a j, ¬ (151 ≤ a ∧ a ≤ 153 ∧ j = v) → M' a j = M a j
section WAY
variable {C M C' M' : zM} {t v w q : Nat}
theorem RW.fr (h : RW C M t w) (hv : v < w) (fc : FW v C C') (fm : GW v M M') : RW C' M' t w := by
  unfold RW
  rw [fc 15 w (by omega), fc 16 w (by omega), fc 17 w (by omega), fm 151 w (by omega), fm 152 w (by omega), fm 153 w (by omega)]
  rcases h with h | ⟨s, k, a1, a2, a3, a4, a5, a6, h⟩
  · exact Or.inl h
  · refine Or.inr ⟨s, k, a1, a2, a3, a4, a5, a6, ?_⟩
    rcases h with h | ⟨x, k', b1, b2, b3, b4, b5, b6, b7⟩
    · exact Or.inl h
    · refine Or.inr ⟨x, k', b1, b2, b3, b4, b5, ?_, ?_⟩
      · rw [fc 15 x (by omega)]
        exact b6
      · rw [fc 16 x (by omega)]
        exact b7
theorem FW.pc (h : FW v C C') (P : PC C) : PC C' := P.of fun a j e => h a j fun q => e (zp0_15 q.1 q.2.1)
theorem GW.pm (h : GW v M M') (Q : PM M) : PM M' := Q.of fun j _ => h 143 j (by omega)
theorem way_step (hv : v < w) (hw : w ≤ t) (ht : t < 10) (P : PC C) (Q : PM M) (hq : q ≤ 1000) (cq : C (5 + v) w = nI q) (mq : M 150 (10 * v + w) = nI q) (hV : RW C M t v) (hW : RW C M t w) : ∃ C1 M1, (∀ fu, fX5_chooseNext_11 167 (fu + 1) C (nI 3) (nI v) (nI t) (nI w) = fX5_chooseNext_11 167 fu C1 (nI 3) (nI v) (nI t) (nI (w + 1))) ∧ (∀ kk fu, fX8_findWays_50 167 kk (fu + 1) M (nI 143) (nI t) (nI v) (nI w) = fX8_findWays_50 167 kk fu M1 (nI 143) (nI t) (nI v) (nI (w + 1))) ∧ RW C1 M1 t v ∧ FW v C C1 ∧ GW v M M1 := by
  have z1 : ∀ j, j < 10 → ze C (nI 15) (nI j) = C 15 j := fun j hj => ze_n (by decide) (by omega)
  have z2 : ∀ j, j < 10 → ze C (nI 16) (nI j) = C 16 j := fun j hj => ze_n (by decide) (by omega)
  have y1 : ∀ j, j < 10 → ze M (nI 151) (nI j) = M 151 j := fun j hj => ze_n (by decide) (by omega)
  have y2 : ∀ j, j < 10 → ze M (nI 152) (nI j) = M 152 j := fun j hj => ze_n (by decide) (by omega)
  have P1 : ∀ a, PC (zup C 15 v a) := fun a => P.up (zp0_15 (by omega) (by omega))
  have P2 : ∀ a b, PC (zup (zup C 15 v a) 16 v b) := fun a b => (P1 a).up (zp0_15 (by omega) (by omega))
  have Q1 : ∀ a, PM (zup M 151 v a) := fun a => Q.up (fun q => by omega)
  have Q2 : ∀ a b, PM (zup (zup M 151 v a) 152 v b) := fun a b => (Q1 a).up (fun q => by omega)
  have same : ∀ {C1 M1 : zM}, C1 = C → M1 = M → RW C1 M1 t v ∧ FW v C C1 ∧ GW v M M1 := fun h1 h2 => by
    subst h1
    subst h2
    exact ⟨hV, fun _ _ _ => rfl, fun _ _ _ => rfl⟩
  by_cases h0 : nI q = 0
  · refine ⟨C, M, fun fu => ?_, fun kk fu => ?_, same rfl rfl⟩
    · rw [fX5_chooseNext_11, if_neg (show ¬ nI t < nI w from nI_nlt hw (by omega)), zd_t zo_3, show zg C (nI 3) 0 = nI 4 from P.c30, zd_t (za_4 (by omega)), ze_n (by decide) (by omega), P.b (by omega), zd_t (za_5 (by omega) (by omega)), ze_n (by omega) (by omega), cq, if_pos h0, fX5_chooseNext_133, zbd_e, nI_1]
    · rw [fX8_findWays_50, if_neg (show ¬ nI t < nI w from nI_nlt hw (by omega)), zd_t zo_143, show zg M (nI 143) 9 = nI 150 from Q.m9, ix10, zd_t (za_150 (by omega)), zbd_e, ze_n (by decide) (by omega), mq, if_pos (show nI q ≤ 0 by rw [h0]; exact Int32.le_refl _), fX8_findWays_174, zbd_e, nI_1]
  · have hq0 : 0 < q := Nat.pos_of_ne_zero fun e => h0 (by rw [e]; rfl)
    rcases id hW with ⟨c1, m1⟩ | ⟨s, k, hs, hk, c1, m1, c2, m2, -⟩
    · refine ⟨C, M, fun fu => ?_, fun kk fu => ?_, same rfl rfl⟩
      · rw [fX5_chooseNext_11, if_neg (show ¬ nI t < nI w from nI_nlt hw (by omega)), zd_t zo_3, show zg C (nI 3) 0 = nI 4 from P.c30, zd_t (za_4 (by omega)), ze_n (by decide) (by omega), P.b (by omega), zd_t (za_5 (by omega) (by omega)), ze_n (by omega) (by omega), cq, if_neg h0, show zg C (nI 3) 1 = nI 15 from P.c31, zd_t (za_15 (by omega)), z1 w (by omega), c1, if_pos rfl, fX5_chooseNext_133, zbd_e, nI_1]
      · rw [fX8_findWays_50, if_neg (show ¬ nI t < nI w from nI_nlt hw (by omega)), zd_t zo_143, show zg M (nI 143) 9 = nI 150 from Q.m9, ix10, zd_t (za_150 (by omega)), zbd_e, ze_n (by decide) (by omega), mq, if_neg (nI_nle (by omega) (by omega)), show zg M (nI 143) 10 = nI 151 from Q.m10, zd_t (za_151 (by omega)), y1 w (by omega), m1, if_pos rfl, fX8_findWays_174, zbd_e, nI_1]
    · have tk : RW (zup (zup (zup C 15 v (nI (q + s))) 16 v (nI (1 + k))) 17 v (nI w)) (zup (zup (zup M 151 v (nI (q + s))) 152 v (nI (k + 1))) 153 v (nI w)) t v ∧ FW v C (zup (zup (zup C 15 v (nI (q + s))) 16 v (nI (1 + k))) 17 v (nI w)) ∧ GW v M (zup (zup (zup M 151 v (nI (q + s))) 152 v (nI (k + 1))) 153 v (nI w)) := by
        refine ⟨Or.inr ⟨q + s, 1 + k, by omega, by omega, ?_, ?_, ?_, ?_, Or.inr ⟨w, k, hv, hw, by omega, ?_, ?_, ?_, ?_⟩⟩, fun a j e => ?_, fun a j e => ?_⟩
        · rw [zup_off (by omega), zup_off (by omega), zup_s]
        · rw [zup_off (by omega), zup_off (by omega), zup_s]
        · rw [zup_off (by omega), zup_s]
        · rw [zup_off (by omega), zup_s, Nat.add_comm]
        · rw [zup_s]
        · rw [zup_s]
        · rw [zup_off (by omega), zup_off (by omega), zup_off (by omega), c1]
          exact nne (by omega)
        · rw [zup_off (by omega), zup_off (by omega), zup_off (by omega), c2]
        · rw [zup_off (by omega), zup_off (by omega), zup_off (by omega)]
        · rw [zup_off (by omega), zup_off (by omega), zup_off (by omega)]
      rcases id hV with ⟨d1, n1⟩ | ⟨s2, k2, hs2, hk2, d1, n1, d2, n2, -⟩
      · refine ⟨_, _, fun fu => ?_, fun kk fu => ?_, tk⟩
        · rw [fX5_chooseNext_11, if_neg (show ¬ nI t < nI w from nI_nlt hw (by omega)), zd_t zo_3, show zg C (nI 3) 0 = nI 4 from P.c30, zd_t (za_4 (by omega)), ze_n (by decide) (by omega), P.b (by omega), zd_t (za_5 (by omega) (by omega)), ze_n (by omega) (by omega), cq, if_neg h0, show zg C (nI 3) 1 = nI 15 from P.c31, zd_t (za_15 (by omega)), z1 w (by omega), c1, if_neg (nne (by omega)), zbd_e, nI_add, show zg C (nI 3) 2 = nI 16 from P.c32, zd_t (za_16 (by omega)), z2 w (by omega), c2, zbd_e, show (1 : Int32) + nI k = nI (1 + k) from nI_add 1 k, zd_t (za_15 (by omega)), z1 v (by omega), d1, if_pos rfl, fX5_chooseNext_110, zd_t zo_3, show zg C (nI 3) 1 = nI 15 from P.c31, zd_t (za_15 (by omega)), zbd_e, zq_n (by decide) (by omega), show ∀ a, zg (zup C 15 v a) (nI 3) 2 = nI 16 from fun a => (P1 a).c32, zd_t (za_16 (by omega)), zbd_e, zq_n (by decide) (by omega), show ∀ a b, zg (zup (zup C 15 v a) 16 v b) (nI 3) 3 = nI 17 from fun a b => (P2 a b).c33, zd_t (za_17 (by omega)), zbd_e, zq_n (by decide) (by omega), fX5_chooseNext_133, zbd_e, nI_1]
        · rw [fX8_findWays_50, if_neg (show ¬ nI t < nI w from nI_nlt hw (by omega)), zd_t zo_143, show zg M (nI 143) 9 = nI 150 from Q.m9, ix10, zd_t (za_150 (by omega)), zbd_e, ze_n (by decide) (by omega), mq, if_neg (nI_nle (by omega) (by omega)), show zg M (nI 143) 10 = nI 151 from Q.m10, zd_t (za_151 (by omega)), y1 w (by omega), m1, if_neg (nne6 (by omega)), zbd_e, nI_add, zd_t (za_151 (by omega)), y1 v (by omega), n1, if_pos rfl, fX8_findWays_145, zd_t zo_143, show zg M (nI 143) 10 = nI 151 from Q.m10, zd_t (za_151 (by omega)), zbd_e, zq_n (by decide) (by omega), show ∀ a, zg (zup M 151 v a) (nI 143) 11 = nI 152 from fun a => (Q1 a).m11, zd_t (za_152 (by omega)), zd_t (za_152 (by omega)), ze_n (by decide) (by omega), zup_off (by omega), m2, nI_1, zbd_e, zq_n (by decide) (by omega), show ∀ a b, zg (zup (zup M 151 v a) 152 v b) (nI 143) 12 = nI 153 from fun a b => (Q2 a b).m12, zd_t (za_153 (by omega)), zbd_e, zq_n (by decide) (by omega), fX8_findWays_174, zbd_e, nI_1]
      · by_cases g1 : nI (q + s) < nI s2
        · refine ⟨_, _, fun fu => ?_, fun kk fu => ?_, tk⟩
          · rw [fX5_chooseNext_11, if_neg (show ¬ nI t < nI w from nI_nlt hw (by omega)), zd_t zo_3, show zg C (nI 3) 0 = nI 4 from P.c30, zd_t (za_4 (by omega)), ze_n (by decide) (by omega), P.b (by omega), zd_t (za_5 (by omega) (by omega)), ze_n (by omega) (by omega), cq, if_neg h0, show zg C (nI 3) 1 = nI 15 from P.c31, zd_t (za_15 (by omega)), z1 w (by omega), c1, if_neg (nne (by omega)), zbd_e, nI_add, show zg C (nI 3) 2 = nI 16 from P.c32, zd_t (za_16 (by omega)), z2 w (by omega), c2, zbd_e, show (1 : Int32) + nI k = nI (1 + k) from nI_add 1 k, zd_t (za_15 (by omega)), z1 v (by omega), d1, if_neg (nne (by omega)), if_pos g1, fX5_chooseNext_110, zd_t zo_3, show zg C (nI 3) 1 = nI 15 from P.c31, zd_t (za_15 (by omega)), zbd_e, zq_n (by decide) (by omega), show ∀ a, zg (zup C 15 v a) (nI 3) 2 = nI 16 from fun a => (P1 a).c32, zd_t (za_16 (by omega)), zbd_e, zq_n (by decide) (by omega), show ∀ a b, zg (zup (zup C 15 v a) 16 v b) (nI 3) 3 = nI 17 from fun a b => (P2 a b).c33, zd_t (za_17 (by omega)), zbd_e, zq_n (by decide) (by omega), fX5_chooseNext_133, zbd_e, nI_1]
          · rw [fX8_findWays_50, if_neg (show ¬ nI t < nI w from nI_nlt hw (by omega)), zd_t zo_143, show zg M (nI 143) 9 = nI 150 from Q.m9, ix10, zd_t (za_150 (by omega)), zbd_e, ze_n (by decide) (by omega), mq, if_neg (nI_nle (by omega) (by omega)), show zg M (nI 143) 10 = nI 151 from Q.m10, zd_t (za_151 (by omega)), y1 w (by omega), m1, if_neg (nne6 (by omega)), zbd_e, nI_add, zd_t (za_151 (by omega)), y1 v (by omega), n1, if_neg (nne6 (by omega)), if_pos g1, fX8_findWays_145, zd_t zo_143, show zg M (nI 143) 10 = nI 151 from Q.m10, zd_t (za_151 (by omega)), zbd_e, zq_n (by decide) (by omega), show ∀ a, zg (zup M 151 v a) (nI 143) 11 = nI 152 from fun a => (Q1 a).m11, zd_t (za_152 (by omega)), zd_t (za_152 (by omega)), ze_n (by decide) (by omega), zup_off (by omega), m2, nI_1, zbd_e, zq_n (by decide) (by omega), show ∀ a b, zg (zup (zup M 151 v a) 152 v b) (nI 143) 12 = nI 153 from fun a b => (Q2 a b).m12, zd_t (za_153 (by omega)), zbd_e, zq_n (by decide) (by omega), fX8_findWays_174, zbd_e, nI_1]
        · by_cases g2 : nI (q + s) = nI s2
          · by_cases g3 : k2 ≤ k + 1
            · refine ⟨C, M, fun fu => ?_, fun kk fu => ?_, same rfl rfl⟩
              · rw [fX5_chooseNext_11, if_neg (show ¬ nI t < nI w from nI_nlt hw (by omega)), zd_t zo_3, show zg C (nI 3) 0 = nI 4 from P.c30, zd_t (za_4 (by omega)), ze_n (by decide) (by omega), P.b (by omega), zd_t (za_5 (by omega) (by omega)), ze_n (by omega) (by omega), cq, if_neg h0, show zg C (nI 3) 1 = nI 15 from P.c31, zd_t (za_15 (by omega)), z1 w (by omega), c1, if_neg (nne (by omega)), zbd_e, nI_add, show zg C (nI 3) 2 = nI 16 from P.c32, zd_t (za_16 (by omega)), z2 w (by omega), c2, zbd_e, show (1 : Int32) + nI k = nI (1 + k) from nI_add 1 k, zd_t (za_15 (by omega)), z1 v (by omega), d1, if_neg (nne (by omega)), if_neg g1, if_pos g2, zd_t (za_16 (by omega)), z2 v (by omega), d2, if_pos (show nI k2 ≤ nI (1 + k) from nI_le (by omega) (by omega)), fX5_chooseNext_133, zbd_e, nI_1]
              · rw [fX8_findWays_50, if_neg (show ¬ nI t < nI w from nI_nlt hw (by omega)), zd_t zo_143, show zg M (nI 143) 9 = nI 150 from Q.m9, ix10, zd_t (za_150 (by omega)), zbd_e, ze_n (by decide) (by omega), mq, if_neg (nI_nle (by omega) (by omega)), show zg M (nI 143) 10 = nI 151 from Q.m10, zd_t (za_151 (by omega)), y1 w (by omega), m1, if_neg (nne6 (by omega)), zbd_e, nI_add, zd_t (za_151 (by omega)), y1 v (by omega), n1, if_neg (nne6 (by omega)), if_neg g1, if_pos g2, show zg M (nI 143) 11 = nI 152 from Q.m11, zd_t (za_152 (by omega)), zd_t (za_152 (by omega)), y2 v (by omega), n2, y2 w (by omega), m2, nI_1 k, if_pos (show nI k2 ≤ nI (k + 1) from nI_le (by omega) (by omega)), fX8_findWays_174, zbd_e, nI_1]
            · refine ⟨_, _, fun fu => ?_, fun kk fu => ?_, tk⟩
              · rw [fX5_chooseNext_11, if_neg (show ¬ nI t < nI w from nI_nlt hw (by omega)), zd_t zo_3, show zg C (nI 3) 0 = nI 4 from P.c30, zd_t (za_4 (by omega)), ze_n (by decide) (by omega), P.b (by omega), zd_t (za_5 (by omega) (by omega)), ze_n (by omega) (by omega), cq, if_neg h0, show zg C (nI 3) 1 = nI 15 from P.c31, zd_t (za_15 (by omega)), z1 w (by omega), c1, if_neg (nne (by omega)), zbd_e, nI_add, show zg C (nI 3) 2 = nI 16 from P.c32, zd_t (za_16 (by omega)), z2 w (by omega), c2, zbd_e, show (1 : Int32) + nI k = nI (1 + k) from nI_add 1 k, zd_t (za_15 (by omega)), z1 v (by omega), d1, if_neg (nne (by omega)), if_neg g1, if_pos g2, zd_t (za_16 (by omega)), z2 v (by omega), d2, if_neg (show ¬ nI k2 ≤ nI (1 + k) from nI_ge (by omega) (by omega)), fX5_chooseNext_110, zd_t zo_3, show zg C (nI 3) 1 = nI 15 from P.c31, zd_t (za_15 (by omega)), zbd_e, zq_n (by decide) (by omega), show ∀ a, zg (zup C 15 v a) (nI 3) 2 = nI 16 from fun a => (P1 a).c32, zd_t (za_16 (by omega)), zbd_e, zq_n (by decide) (by omega), show ∀ a b, zg (zup (zup C 15 v a) 16 v b) (nI 3) 3 = nI 17 from fun a b => (P2 a b).c33, zd_t (za_17 (by omega)), zbd_e, zq_n (by decide) (by omega), fX5_chooseNext_133, zbd_e, nI_1]
              · rw [fX8_findWays_50, if_neg (show ¬ nI t < nI w from nI_nlt hw (by omega)), zd_t zo_143, show zg M (nI 143) 9 = nI 150 from Q.m9, ix10, zd_t (za_150 (by omega)), zbd_e, ze_n (by decide) (by omega), mq, if_neg (nI_nle (by omega) (by omega)), show zg M (nI 143) 10 = nI 151 from Q.m10, zd_t (za_151 (by omega)), y1 w (by omega), m1, if_neg (nne6 (by omega)), zbd_e, nI_add, zd_t (za_151 (by omega)), y1 v (by omega), n1, if_neg (nne6 (by omega)), if_neg g1, if_pos g2, show zg M (nI 143) 11 = nI 152 from Q.m11, zd_t (za_152 (by omega)), zd_t (za_152 (by omega)), y2 v (by omega), n2, y2 w (by omega), m2, nI_1 k, if_neg (show ¬ nI k2 ≤ nI (k + 1) from nI_ge (by omega) (by omega)), fX8_findWays_145, zd_t zo_143, show zg M (nI 143) 10 = nI 151 from Q.m10, zd_t (za_151 (by omega)), zbd_e, zq_n (by decide) (by omega), show ∀ a, zg (zup M 151 v a) (nI 143) 11 = nI 152 from fun a => (Q1 a).m11, zd_t (za_152 (by omega)), zd_t (za_152 (by omega)), ze_n (by decide) (by omega), zup_off (by omega), m2, nI_1, zbd_e, zq_n (by decide) (by omega), show ∀ a b, zg (zup (zup M 151 v a) 152 v b) (nI 143) 12 = nI 153 from fun a b => (Q2 a b).m12, zd_t (za_153 (by omega)), zbd_e, zq_n (by decide) (by omega), fX8_findWays_174, zbd_e, nI_1]
          · refine ⟨C, M, fun fu => ?_, fun kk fu => ?_, same rfl rfl⟩
            · rw [fX5_chooseNext_11, if_neg (show ¬ nI t < nI w from nI_nlt hw (by omega)), zd_t zo_3, show zg C (nI 3) 0 = nI 4 from P.c30, zd_t (za_4 (by omega)), ze_n (by decide) (by omega), P.b (by omega), zd_t (za_5 (by omega) (by omega)), ze_n (by omega) (by omega), cq, if_neg h0, show zg C (nI 3) 1 = nI 15 from P.c31, zd_t (za_15 (by omega)), z1 w (by omega), c1, if_neg (nne (by omega)), zbd_e, nI_add, show zg C (nI 3) 2 = nI 16 from P.c32, zd_t (za_16 (by omega)), z2 w (by omega), c2, zbd_e, show (1 : Int32) + nI k = nI (1 + k) from nI_add 1 k, zd_t (za_15 (by omega)), z1 v (by omega), d1, if_neg (nne (by omega)), if_neg g1, if_neg g2, fX5_chooseNext_133, zbd_e, nI_1]
            · rw [fX8_findWays_50, if_neg (show ¬ nI t < nI w from nI_nlt hw (by omega)), zd_t zo_143, show zg M (nI 143) 9 = nI 150 from Q.m9, ix10, zd_t (za_150 (by omega)), zbd_e, ze_n (by decide) (by omega), mq, if_neg (nI_nle (by omega) (by omega)), show zg M (nI 143) 10 = nI 151 from Q.m10, zd_t (za_151 (by omega)), y1 w (by omega), m1, if_neg (nne6 (by omega)), zbd_e, nI_add, zd_t (za_151 (by omega)), y1 v (by omega), n1, if_neg (nne6 (by omega)), if_neg g1, if_neg g2, fX8_findWays_174, zbd_e, nI_1]
theorem way_in (hv : v < t) (ht : t < 10) : ∀ (k w fu fu' : Nat) (C M : zM), w + k = t + 1 → v < w → k < fu → k < fu' → PC C → PM M → (∀ u, u < 10 → ∃ q, q ≤ 1000 ∧ C (5 + v) u = nI q ∧ M 150 (10 * v + u) = nI q) → (∀ u, v ≤ u → u ≤ t → RW C M t u) → ∃ C' M', fX5_chooseNext_11 167 fu C (nI 3) (nI v) (nI t) (nI w) = some (0, C') ∧ (∀ kk, fX8_findWays_50 167 kk fu' M (nI 143) (nI t) (nI v) (nI w) = kk M' (nI 143) (nI t) (nI v + (-1))) ∧ (∀ u, v ≤ u → u ≤ t → RW C' M' t u) ∧ FW v C C' ∧ GW v M M'
  | k, w, 0, _, C, M, _, _, hf, _, _, _, _, _ => absurd hf (Nat.not_lt_zero _)
  | k, w, _ + 1, 0, C, M, _, _, _, hf, _, _, _, _ => absurd hf (Nat.not_lt_zero _)
  | 0, w, fu + 1, fu' + 1, C, M, h, hw, _, _, P, Q, _, hR => by
    have hlt : nI t < nI w := nI_lt (by omega) (by omega)
    refine ⟨C, M, ?_, fun kk => ?_, hR, fun _ _ _ => rfl, fun _ _ _ => rfl⟩
    · rw [fX5_chooseNext_11, if_pos hlt]
    · rw [fX8_findWays_50, if_pos hlt, zbd_e]
  | k + 1, w, fu + 1, fu' + 1, C, M, h, hw, hf, hf', P, Q, hb, hR => by
    obtain ⟨q, hq, cq, mq⟩ := hb w (by omega)
    obtain ⟨C1, M1, e1, e2, hV, fc, fm⟩ := way_step hw (by omega) ht P Q hq cq mq (hR v (by omega) (by omega)) (hR w (by omega) (by omega))
    obtain ⟨C2, M2, e3, e4, h2, fc2, fm2⟩ := way_in hv ht k (w + 1) fu fu' C1 M1 (by omega) (by omega) (by omega) (by omega) (fc.pc P) (fm.pm Q) (fun u hu => by
      obtain ⟨q, w1, w2, w3⟩ := hb u hu
      exact ⟨q, w1, by rw [fc _ _ (by omega)]; exact w2, by rw [fm _ _ (by omega)]; exact w3⟩) (fun u w1 w2 => by
      by_cases e : u = v
      · subst e
        exact hV
      · exact (hR u w1 w2).fr (by omega) fc fm)
    refine ⟨C2, M2, by rw [e1, e3], fun kk => by rw [e2, e4], h2, fun a j e => by rw [fc2 a j e, fc a j e], fun a j e => by rw [fm2 a j e, fm a j e]⟩
end WAY
