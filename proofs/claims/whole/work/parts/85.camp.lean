def FKC (C C' : zM) : Prop := ∀ a j, ¬ (22 ≤ a ∧ a ≤ 24 ∧ ¬ (a = 22 ∧ (j = 1 ∨ j = 4))) → ¬ (a = 0 ∧ j = 10) → C' a j = C a j
def FKM (M M' : zM) : Prop := ∀ a j, ¬ (a = 164 ∨ a = 165) → ¬ (a = 143 ∧ (j = 1 ∨ (25 ≤ j ∧ j ≤ 34 ∧ j ≠ 28))) → M' a j = M a j
theorem zp0_22 {a j : Nat} (h : 22 ≤ a) (h2 : a ≤ 24) (h3 : ¬ (a = 22 ∧ (j = 1 ∨ j = 4))) : zp0 a j = none := by
  rcases (show a = 22 ∨ a = 23 ∨ a = 24 by omega) with rfl | rfl | rfl
  · unfold zp0
    simp
    split
    · omega
    · omega
    · rfl
  · unfold zp0
    simp
  · unfold zp0
    simp
theorem zp1_k {j : Nat} (h : j = 1 ∨ (25 ≤ j ∧ j ≤ 34 ∧ j ≠ 28)) : zp1 j = none := by
  rcases h with rfl | ⟨h1, h2, h3⟩
  · rfl
  · rcases (show j = 25 ∨ j = 26 ∨ j = 27 ∨ j = 29 ∨ j = 30 ∨ j = 31 ∨ j = 32 ∨ j = 33 ∨ j = 34 by omega) with rfl | rfl | rfl | rfl | rfl | rfl | rfl | rfl | rfl <;> rfl
section CAM
variable {C M C' M' E : zM} {vc dc d v p o t i n s k w : Nat} {x g : Int32}
theorem FKC.pc (h : FKC C C') (P : PC C) : PC C' := P.of fun a j q => h a j (fun w => q (zp0_22 w.1 w.2.1 w.2.2)) (fun w => by obtain ⟨rfl, rfl⟩ := w; exact q rfl)
theorem FKM.pm (h : FKM M M') (Q : PM M) : PM M' := Q.of fun j q => h 143 j (by decide) (fun w => q (zp1_k w.2))
theorem FKC.tr (h : FKC C C') (h2 : FKC C' E) : FKC C E := fun a j q r => (h2 a j q r).trans (h a j q r)
theorem FKM.tr (h : FKM M M') (h2 : FKM M' E) : FKM M E := fun a j q r => (h2 a j q r).trans (h a j q r)
theorem FKC.fc (h : FKC C C') : FC C C' := fun a ha => funext fun j => h a j (by omega) (by omega)
theorem FKM.fm (h : FKM M M') : FM M M' := fun a ha => funext fun j => h a j (by omega) (by omega)
theorem R2.camp (R : R2 vc dc C M) (fc : FKC C C') (fm : FKM M M') (h1 : C' 0 10 = M' 143 1) (hc : RCamp vc C' M') : R2 vc dc C' M' := by
  obtain ⟨P, Q, ⟨-, r3⟩, r4, r5, r6, r7, r8, r9, r10⟩ := R
  refine ⟨fc.pc P, fm.pm Q, ⟨h1, by rw [fc 0 8 (by omega) (by omega), fm 143 24 (by omega) (by omega)]; exact r3⟩, r4.fr ?_ ?_, r5.fr ?_ ?_ ?_ ?_, r6.fr ?_ ?_ ?_, r7.fr ?_ ?_, r8.fr ?_ ?_ ?_ ?_, hc, r10.fr ?_ ?_ ?_⟩
  all_goals first | (intros; exact fc _ _ (by omega) (by omega)) | (intros; exact fm _ _ (by omega) (by omega))
-- a wave begins
theorem zfl_in {C : zM} {o i e a j : Nat} (h : a = o ∧ i ≤ j ∧ j < e) : zfl C o i e a j = 0 := if_pos h
theorem zfl_out {C : zM} {o i e a j : Nat} (h : ¬ (a = o ∧ i ≤ j ∧ j < e)) : zfl C o i e a j = C a j := if_neg h
theorem c_bw_l : ∀ (r i fu : Nat) (C : zM), PC C → i + r = 30 → r < fu → fX1_beginWave_17 167 fu C (nI 22) (nI i) = some (0, zfl C 24 i 30)
  | r, i, 0, C, _, _, h => absurd h (Nat.not_lt_zero _)
  | 0, i, fu + 1, C, P, hi, _ => by
    obtain rfl : i = 30 := hi
    rw [fX1_beginWave_17, if_pos (by exact Int32.le_refl _), zfl_end]
  | r + 1, i, fu + 1, C, P, hi, hf => by
    rw [fX1_beginWave_17, if_neg (show ¬ (30 : Int32) ≤ nI i from nI_ge (b := 30) (by omega) (by decide)), zd_t zo_22, show zg C (nI 22) 4 = nI 24 from P.c224, zd_t (za_24 (by omega)), zq_n (by decide) (by omega), zbd_e, zbd_e, nI_1, c_bw_l r (i + 1) fu _ (P.up (zp0_22 (by omega) (by omega) (by omega))) (by omega) (by omega), zfl_step (by omega)]
theorem c_bw (P : PC C) : fX1_beginWave 167 C (nI 22) x = some (0, zfl (zup (zup (zup C 22 5 x) 22 6 0) 22 7 0) 24 0 30) := by
  have P1 : ∀ x, PC (zup (zup (zup C 22 5 x) 22 6 0) 22 7 0) := fun x => ((P.up (zp0_22 (by omega) (by omega) (by omega))).up (zp0_22 (by omega) (by omega) (by omega))).up (zp0_22 (by omega) (by omega) (by omega))
  rw [fX1_beginWave, zd_t zo_22, zp_n (by decide), zbd_e, zp_n (by decide), zbd_e, zp_n (by decide), zbd_e, zbd_e]
  exact c_bw_l 30 0 1000 _ (P1 x) (by omega) (by omega)
theorem m_bw_l : ∀ (r i fu : Nat) (M : zM), PM M → i + r = 30 → r < fu → fX8_beginWave_17 167 fu M (nI 143) (nI i) = some (0, zfl M 165 i 30)
  | r, i, 0, M, _, _, h => absurd h (Nat.not_lt_zero _)
  | 0, i, fu + 1, M, P, hi, _ => by
    obtain rfl : i = 30 := hi
    rw [fX8_beginWave_17, if_pos (by exact Int32.le_refl _), zfl_end]
  | r + 1, i, fu + 1, M, P, hi, hf => by
    rw [fX8_beginWave_17, if_neg (show ¬ (30 : Int32) ≤ nI i from nI_ge (b := 30) (by omega) (by decide)), zd_t zo_143, show zg M (nI 143) 35 = nI 165 from P.m35, zd_t (za_165 (by omega)), zq_n (by decide) (by omega), zbd_e, zbd_e, nI_1, m_bw_l r (i + 1) fu _ (P.up (fun q => by omega)) (by omega) (by omega), zfl_step (by omega)]
theorem m_bw (P : PM M) : fX8_beginWave 167 M (nI 143) x = some (0, zfl (zup (zup (zup M 143 30 x) 143 31 0) 143 32 0) 165 0 30) := by
  rw [fX8_beginWave, zd_t zo_143, zp_n (by decide), zbd_e, zp_n (by decide), zbd_e, zp_n (by decide), zbd_e, zbd_e]
  exact m_bw_l 30 0 1000 _ (((P.up (fun _ => rfl)).up (fun _ => rfl)).up (fun _ => rfl)) (by omega) (by omega)
theorem c_begin (P : PC C) (hs : s < 8) (hi : i + n ≤ 60) (hn : n ≤ 6) : ∃ C', fX1_begin 167 C (nI 22) x (nI (27 + 2 * s)) (nI i) (nI n) g = some (0, C') ∧ C' 22 0 = x ∧ C' 22 2 = nI n ∧ C' 22 3 = g ∧ C' 22 5 = nI 0 ∧ C' 22 6 = 0 ∧ C' 22 7 = 0 ∧ C' 22 8 = 0 ∧ C' 22 9 = 0 ∧ (∀ j, j < n → C' 23 j = C (28 + 2 * s) (i + j)) ∧ (∀ j, j < 30 → C' 24 j = 0) ∧ ∀ a j, ¬ (22 ≤ a ∧ a ≤ 24 ∧ ¬ (a = 22 ∧ (j = 1 ∨ j = 4))) → C' a j = C a j := by
  have P1 : PC (zup C 22 0 x) := P.up (zp0_22 (by omega) (by omega) (by omega))
  have eZ : ∀ a j, a ≠ 23 → zcy (zup C 22 0 x) (nI (28 + 2 * s)) (nI 23) (nI i) 0 (nI n) a j = zup C 22 0 x a j := fun a j h => by
    unfold zcy
    rw [idn (by omega), if_neg h]
  have eZ2 : ∀ j, j < n → zcy (zup C 22 0 x) (nI (28 + 2 * s)) (nI 23) (nI i) 0 (nI n) 23 j = C (28 + 2 * s) (i + j) := fun j h => by
    unfold zcy
    rw [idn (by omega), idn (by omega), idn (by omega), show (0 : Int32).toNatClampNeg = 0 from rfl, idn (by omega), if_pos rfl, pk_cpy_in (by omega) (by omega), Nat.sub_zero, zup_off (by omega)]
  have P2 : PC (zcy (zup C 22 0 x) (nI (28 + 2 * s)) (nI 23) (nI i) 0 (nI n)) := P1.of fun a j q => eZ a j (fun w => by subst w; exact q (zp0_22 (by omega) (by omega) (by omega)))
  have P3 := (((P2.up (v := nI n) (zp0_22 (a := 22) (j := 2) (by omega) (by omega) (by omega))).up (v := g) (zp0_22 (a := 22) (j := 3) (by omega) (by omega) (by omega))).up (v := 0) (zp0_22 (a := 22) (j := 8) (by omega) (by omega) (by omega))).up (v := 0) (zp0_22 (a := 22) (j := 9) (by omega) (by omega) (by omega))
  have e : fX1_begin 167 C (nI 22) x (nI (27 + 2 * s)) (nI i) (nI n) g = some (0, zfl (zup (zup (zup (zup (zup (zup (zup (zcy (zup C 22 0 x) (nI (28 + 2 * s)) (nI 23) (nI i) 0 (nI n)) 22 2 (nI n)) 22 3 g) 22 8 0) 22 9 0) 22 5 0) 22 6 0) 22 7 0) 24 0 30) := by
    rw [fX1_begin, zd_t zo_22, zp_n (by decide), zbd_e, zd_t (zo_sheet hs), show zg (zup C 22 0 x) (nI (27 + 2 * s)) 0 = nI (28 + 2 * s) from (zg_n (by omega)).trans (P1.si hs), zd_t (zo_items hs), show zg (zup C 22 0 x) (nI 22) 1 = nI 23 from P1.c221, zd_t zo_23, zd_t (by
      unfold zcg
      rw [idn (by omega), idn (by omega), idn (by omega), show (0 : Int32).toNatClampNeg = 0 from rfl, idn (by omega), (zK_fam.1 s hs).2]
      simp only [Bool.and_eq_true, decide_eq_true_eq]
      exact ⟨nI_pos (by omega), by decide, nI_pos (by omega), by show i + n ≤ 60; omega, by show 0 + n ≤ 6; omega⟩), zbd_e, zp_n (by decide), zbd_e, zp_n (by decide), zbd_e, zp_n (by decide), zbd_e, zp_n (by decide), zbd_e, c_bw P3, zca_some]
  refine ⟨_, e, ?_, ?_, ?_, ?_, ?_, ?_, ?_, ?_, fun j hj => ?_, fun j hj => ?_, fun a j hf => ?_⟩
  · rw [zfl_out (by omega), zup_off (by omega), zup_off (by omega), zup_off (by omega), zup_off (by omega), zup_off (by omega), zup_off (by omega), zup_off (by omega), eZ _ _ (by omega), zup_s]
  · rw [zfl_out (by omega), zup_off (by omega), zup_off (by omega), zup_off (by omega), zup_off (by omega), zup_off (by omega), zup_off (by omega), zup_s]
  · rw [zfl_out (by omega), zup_off (by omega), zup_off (by omega), zup_off (by omega), zup_off (by omega), zup_off (by omega), zup_s]
  · rw [zfl_out (by omega), zup_off (by omega), zup_off (by omega), zup_s]
    rfl
  · rw [zfl_out (by omega), zup_off (by omega), zup_s]
  · rw [zfl_out (by omega), zup_s]
  · rw [zfl_out (by omega), zup_off (by omega), zup_off (by omega), zup_off (by omega), zup_off (by omega), zup_s]
  · rw [zfl_out (by omega), zup_off (by omega), zup_off (by omega), zup_off (by omega), zup_s]
  · rw [zfl_out (by omega), zup_off (by omega), zup_off (by omega), zup_off (by omega), zup_off (by omega), zup_off (by omega), zup_off (by omega), zup_off (by omega), eZ2 j hj]
  · rw [zfl_in (by omega)]
  · rw [zfl_out (by omega), zup_off (by omega), zup_off (by omega), zup_off (by omega), zup_off (by omega), zup_off (by omega), zup_off (by omega), zup_off (by omega), eZ _ _ (by omega), zup_off (by omega)]
-- who is in it
theorem c_member (P : PC C) (hd : d < 30) (hk : k < 6) (h5 : C 22 5 = nI k) : fX7_isMember 167 C (nI 0) (nI (53 + 3 * d)) = some (if C 23 k ≤ zdraw d (C 0 8) then 0 else 1, C) := by
  rw [fX7_isMember, zd_t zo_0, c_draw P hd, zca_some, show zg C (nI 0) 7 = nI 22 from P.c07, zd_t zo_22, fX1_shareOfWave, zd_t zo_22, show zg C (nI 22) 1 = nI 23 from P.c221, show zg C (nI 22) 5 = nI k from (zg_n (by decide)).trans h5, zd_t (za_23 hk), ze_n (by decide) (by omega), zca_some]
  by_cases h : C 23 k ≤ zdraw d (C 0 8)
  · rw [if_pos h, if_pos h]
  · rw [if_neg h, if_neg h]
theorem mem_loop (P : PC C) (Q : PM M) (hdc : dc ≤ 30) (cd : C 0 5 = nI dc) (md : M 143 13 = nI dc) (h5 : C 22 5 = nI 0) (sd : C 0 8 = M 143 24) (sh : C 23 0 = M 164 0) : ∀ (r i fu fu' : Nat) (c : Int32), i + r = dc → r < fu → r < fu' → ∃ z : Int32, fX7_membersOfWave_4 167 fu C (nI 0) c (nI i) = some (z, C) ∧ fX8_campaign_250 167 fu' M (nI 143) c (nI i) = some (z, M)
  | r, i, 0, _, c, _, h, _ => absurd h (Nat.not_lt_zero _)
  | r, i, _ + 1, 0, c, _, _, h => absurd h (Nat.not_lt_zero _)
  | 0, i, fu + 1, fu' + 1, c, hi, _, _ => by
    obtain rfl : i = dc := hi
    refine ⟨c, ?_, ?_⟩
    · rw [fX7_membersOfWave_4, zd_t zo_0, zg_n (by decide), cd, if_pos (Int32.le_refl _)]
    · rw [fX8_campaign_250, zd_t zo_143, zg_n (by decide), md, if_pos (Int32.le_refl _)]
  | r + 1, i, fu + 1, fu' + 1, c, hi, hf, hf' => by
    have e1 : fX7_membersOfWave_4 167 (fu + 1) C (nI 0) c (nI i) = fX7_membersOfWave_4 167 fu C (nI 0) (if C 23 0 ≤ zdraw i (C 0 8) then c else c + 1) (nI (i + 1)) := by
      rw [fX7_membersOfWave_4, zd_t zo_0, zg_n (by decide), cd, if_neg (nI_ge (by omega) (by omega)), zd_t (c_za18 P (by omega)), c_devp P (by omega), c_member P (by omega) (by omega) h5, zca_some]
      by_cases h : C 23 0 ≤ zdraw i (C 0 8)
      · rw [if_pos h, if_pos h, if_pos rfl, fX7_membersOfWave_28, zbd_e, nI_1]
      · rw [if_neg h, if_neg h, if_neg ne10, zbd_e, fX7_membersOfWave_28, zbd_e, nI_1]
    have e2 : fX8_campaign_250 167 (fu' + 1) M (nI 143) c (nI i) = fX8_campaign_250 167 fu' M (nI 143) (if C 23 0 ≤ zdraw i (C 0 8) then c else c + 1) (nI (i + 1)) := by
      rw [fX8_campaign_250, zd_t zo_143, zg_n (by decide), md, if_neg (nI_ge (by omega) (by omega)), m_draw (by omega), zca_some, show zg M (nI 143) 28 = nI 164 from Q.m28, show (0 : Int32) = nI 0 from rfl, zd_t (za_164 (by omega)), ze_n (by decide) (by omega), ← sh, ← sd]
      by_cases h : C 23 0 ≤ zdraw i (C 0 8)
      · rw [if_pos h, if_pos h, fX8_campaign_281, zbd_e, zbd_e, nI_1, show nI 0 = (0 : Int32) from rfl, Int32.add_zero]
      · rw [if_neg h, if_neg h, fX8_campaign_281, zbd_e, zbd_e, nI_1]
    rw [e1, e2]
    exact mem_loop P Q hdc cd md h5 sd sh r (i + 1) fu fu' _ (by omega) (by omega) (by omega)
end CAM
