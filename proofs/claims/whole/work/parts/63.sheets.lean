theorem zup_zup {S : zM} {o k : Nat} {v w : Int32} : zup (zup S o k w) o k v = zup S o k v := by
  funext a j
  unfold zup
  by_cases h : a = o ∧ j = k
  · rw [if_pos h, if_pos h]
  · rw [if_neg h, if_neg h, if_neg h]
/-- the class's sheets and the last finding; the reference's likewise -/
def gSh (a j : Nat) : Prop := (27 ≤ a ∧ a < 43 ∧ (j = 0 → a % 2 = 0)) ∨ (a = 0 ∧ j = 10)
def gShM (a j : Nat) : Prop := (144 ≤ a ∧ a ≤ 146) ∨ (a = 143 ∧ (j = 0 ∨ j = 1))
theorem zp0_sh {a j : Nat} (h : gSh a j) : zp0 a j = none := by
  rcases h with ⟨h1, h2, h3⟩ | ⟨rfl, rfl⟩
  · unfold zp0
    rw [if_neg (by omega), if_neg (by omega), if_neg (by omega), if_neg (by omega), if_neg (by omega), if_neg (by omega), if_neg (by omega), if_neg (by omega), if_neg (by omega), if_neg (by omega), if_neg (by omega)]
  · rfl
theorem R2.shs {C M C' M' : zM} {vc dc : Nat} (R : R2 vc dc C M) (hC : ∀ a j, ¬ gSh a j → C' a j = C a j) (hM : ∀ a j, ¬ gShM a j → M' a j = M a j) (h1 : C' 0 10 = M' 143 1) (h2 : RSh C' M') : R2 vc dc C' M' := by
  obtain ⟨r1, r2, ⟨r3, r3'⟩, r4, r5, r6, r7, r8, r9, r10⟩ := R
  refine ⟨fun a j v hv => ?_, fun j v hv => ?_, ⟨h1, ?_⟩, h2, r5.fr ?_ ?_ ?_ ?_, r6.fr ?_ ?_ ?_, r7.fr ?_ ?_, r8.fr ?_ ?_ ?_ ?_, r9.fr ?_ ?_ ?_, r10.fr ?_ ?_ ?_⟩
  · rw [hC a j (fun q => by rw [zp0_sh q] at hv; cases hv)]
    exact r1 a j v hv
  · rw [hM 143 j (fun q => by
      rcases q with q | ⟨-, rfl | rfl⟩
      · omega
      · cases hv
      · cases hv)]
    exact r2 j v hv
  · rw [hC 0 8 (by unfold gSh; omega), hM 143 24 (by unfold gShM; omega)]
    exact r3'
  all_goals first | (intros; exact hC _ _ (by unfold gSh; omega)) | (intros; exact hM _ _ (by unfold gShM; omega))
def zfl (C : zM) (o i e : Nat) : zM := fun a j => if a = o ∧ i ≤ j ∧ j < e then 0 else C a j
theorem zfl_end {C : zM} {o e : Nat} : zfl C o e e = C := by
  funext a j
  exact if_neg (by omega)
theorem zfl_step {C : zM} {o i e : Nat} (h : i < e) : zfl (zup C o i 0) o (i + 1) e = zfl C o i e := by
  funext a j
  unfold zfl zup
  by_cases h1 : a = o ∧ i ≤ j ∧ j < e
  · rw [if_pos h1]
    by_cases h2 : a = o ∧ i + 1 ≤ j ∧ j < e
    · rw [if_pos h2]
    · rw [if_neg h2, if_pos (by omega)]
  · rw [if_neg h1, if_neg (by omega), if_neg (by omega)]
theorem ix60 (s k : Nat) : (60 : Int32) * nI s + nI k = nI (60 * s + k) := by
  rw [show (60 : Int32) = nI 60 from rfl, pk_mul, nI_add]
theorem lay_c {s : Nat} (hs : s < 8) (l m : Int32) : ∀ (k i fu : Nat) (C : zM), PC C → i + k = 60 → k < fu → fX3_lay_2 167 fu C (nI (27 + 2 * s)) l m (nI i) = some (0, zup (zup (zup (zfl C (28 + 2 * s) i 60) (27 + 2 * s) 1 0) (27 + 2 * s) 2 l) (27 + 2 * s) 3 m)
  | 0, i, 0, C, P, hi, hf => absurd hf (Nat.not_lt_zero _)
  | 0, i, fu + 1, C, P, hi, hf => by
    have h60 : i = 60 := by omega
    subst h60
    rw [fX3_lay_2, if_pos (by exact Int32.le_refl _), zd_t (zo_sheet hs), zfl_end]
    simp only [zbd_e, zp]
    rw [idn (by omega)]
  | k + 1, i, 0, C, P, hi, hf => absurd hf (Nat.not_lt_zero _)
  | k + 1, i, fu + 1, C, P, hi, hf => by
    have hp : zg C (nI (27 + 2 * s)) 0 = nI (28 + 2 * s) := by
      show C (nI (27 + 2 * s)).toNatClampNeg 0 = _
      rw [idn (by omega), P.si hs]
    rw [fX3_lay_2, if_neg (show ¬ (60 : Int32) ≤ nI i from nI_ge (a := i) (b := 60) (by omega) (by decide)), zd_t (zo_sheet hs), hp, zd_t (za_items hs (by omega))]
    simp only [zbd_e, zq]
    rw [idn (by omega), idn (by omega), nI_1, lay_c hs l m k (i + 1) fu _ (P.up (zp0_sh (by unfold gSh; omega))) (by omega) (by omega), zfl_step (by omega)]
theorem lay_m {s : Nat} (hs : s < 8) (m : Int32) : ∀ (k i fu : Nat) (M : zM), PM M → i + k = 60 → k < fu → fX8_sheet_65 167 fu M (nI 143) (nI s) m (nI i) = some (m, zfl M 146 (60 * s + i) (60 * s + 60))
  | 0, i, 0, M, P, hi, hf => absurd hf (Nat.not_lt_zero _)
  | 0, i, fu + 1, M, P, hi, hf => by
    have h60 : i = 60 := by omega
    subst h60
    rw [fX8_sheet_65, if_pos (by exact Int32.le_refl _), zfl_end]
  | k + 1, i, 0, M, P, hi, hf => absurd hf (Nat.not_lt_zero _)
  | k + 1, i, fu + 1, M, P, hi, hf => by
    have hp : zg M (nI 143) 4 = nI 146 := P.m4
    rw [fX8_sheet_65, if_neg (show ¬ (60 : Int32) ≤ nI i from nI_ge (a := i) (b := 60) (by omega) (by decide)), zd_t zo_143, hp, ix60, zd_t (za_146 (by omega))]
    simp only [zbd_e, zq]
    rw [idn (by omega), idn (by omega), nI_1, lay_m hs m k (i + 1) fu _ (P.up (fun q => by omega)) (by omega) (by omega)]
    rw [show 60 * s + (i + 1) = 60 * s + i + 1 by omega, zfl_step (by omega)]
section SHM
variable {C M : zM} {vc dc : Nat}
theorem bad_same (R : R2 vc dc C M) {f g : Option (Int32 × zM)} {r : Int32} (hf : f = some (r, C)) (hg : g = some (r, zup M 143 0 0)) : Same f g C M :=
  ⟨r, C, _, vc, dc, hf, hg, R.thrown 0, FC.rf, FM.rf.up (by decide)⟩
theorem found_same (R : R2 vc dc C M) {f g : Option (Int32 × zM)} {r y : Int32} (hf : f = some (r, zup C 0 10 y)) (hg : g = some (r, zup (zup M 143 0 0) 143 1 y)) : Same f g C M :=
  ⟨r, _, _, vc, dc, hf, hg, (R.thrown 0).mis y, FC.rf.up (by decide), (FM.rf.up (by decide)).up (by decide)⟩
theorem c_sheetp (P : PC C) {s : Nat} (hs : s < 8) : ze C (zg C (nI 0) 0) (nI s) = nI (27 + 2 * s) := by
  have h0 : zg C (nI 0) 0 = nI 1 := P.c00
  rw [h0]
  show C 1 (nI s).toNatClampNeg = _
  rw [idn (by omega), P.s hs]
theorem ok_sheet (R : R2 vc dc C M) (s l n : Int32) : Same (fX7_sheet 167 C (nI 0) s l n) (fX8_sheet 167 M (nI 143) s l n) C M := by
  have P := R.1
  have Q := R.2.1
  by_cases h1 : zin s 8
  · by_cases h2 : zin l 3
    · obtain ⟨l1, l2⟩ := id h2
      by_cases h3 : n ≤ 60
      · by_cases h4 : 0 ≤ n
        · obtain ⟨i, hi, rfl⟩ := zin_ex (by decide) h1
          obtain ⟨li, hli, rfl⟩ := zin_ex (by decide) h2
          have hn : zin n 61 := by
            rw [Int32.le_iff_toInt_le] at h3
            rw [zle0] at h4
            exact ⟨h4, Int.lt_add_one_iff.mpr h3⟩
          obtain ⟨m, hm, rfl⟩ := zin_ex (by decide) hn
          refine ⟨nI m, zup (zup (zup (zup (zfl C (28 + 2 * i) 0 60) (27 + 2 * i) 1 0) (27 + 2 * i) 2 (nI li)) (27 + 2 * i) 3 (nI m)) 0 10 0, zfl (zup (zup (zup (zup M 143 0 0) 143 1 0) 144 i (nI li)) 145 i (nI m)) 146 (60 * i + 0) (60 * i + 60), vc, dc, ?_, ?_, R.shs ?_ ?_ ?_ ?_, fun a ha => ?_, fun a ha => ?_⟩
          · rw [fX7_sheet, cSh_i h1, zca_some, if_neg ne10, if_neg (by rw [zlt0]; omega), if_neg (by rw [Int32.lt_iff_toInt_lt]; exact Int.not_lt.mpr (Int.lt_add_one_iff.mp l2)), if_pos h3, if_pos h4, zd_t zo_0, show zg C (nI 0) 0 = nI 1 from P.c00, zd_t (za_1 hi)]
            have hsp := c_sheetp P hi
            rw [show zg C (nI 0) 0 = nI 1 from P.c00] at hsp
            rw [hsp, zd_t (zo_sheet hi)]
            unfold fX3_lay
            rw [zbd_e, show (0 : Int32) = nI 0 from rfl, lay_c hi (nI li) (nI m) 60 0 1000 C P (by omega) (by omega), zca_some]
            rfl
          · rw [fX8_sheet, zd_t zo_143, zbd_e, mSh_i h1, zca_some, if_neg ne10, in_i (by rw [z64]; exact l1) (by rw [z64]; exact Int.lt_add_one_iff.mp l2), zca_some, if_neg ne10, if_pos h3, zbd_e, if_pos h4]
            have P2 : PM (zp (zp M (nI 143) 0 0) (nI 143) 1 0) := (Q.up (o := 143) (fun _ => rfl)).up (o := 143) (fun _ => rfl)
            rw [show zg (zp (zp M (nI 143) 0 0) (nI 143) 1 0) (nI 143) 2 = nI 144 from P2.m2, zd_t (za_144 hi), zbd_e]
            simp only [zq]
            rw [idn (by decide), idn (by omega)]
            have P3 : PM (zup (zp (zp M (nI 143) 0 0) (nI 143) 1 0) 144 i (nI li)) := P2.up (fun q => by omega)
            rw [show zg (zup (zp (zp M (nI 143) 0 0) (nI 143) 1 0) 144 i (nI li)) (nI 143) 3 = nI 145 from P3.m3, zd_t (za_145 hi), zbd_e, zbd_e, idn (by decide)]
            exact lay_m hi (nI m) 60 0 1000 _ (P3.up (fun q => by omega)) (by omega) (by omega)
          · intro a j h
            unfold gSh at h
            rw [zup_off (by omega), zup_off (by omega), zup_off (by omega), zup_off (by omega)]
            exact if_neg (by omega)
          · intro a j h
            unfold gShM at h
            refine (if_neg (by omega)).trans ?_
            rw [zup_off (by omega), zup_off (by omega), zup_off (by omega), zup_off (by omega)]
          · rw [zup_s]
            refine ((if_neg (by omega)).trans ?_).symm
            rw [zup_off (by omega), zup_off (by omega), zup_s]
          · intro q hq
            by_cases e : q = i
            · subst e
              refine ⟨Or.inr ⟨?_, li, hli, ?_, ?_⟩, ⟨m, by omega, ?_, ?_⟩, fun j hj => ?_⟩
              · rw [zup_off (by omega), zup_off (by omega), zup_off (by omega), zup_s]
              · rw [zup_off (by omega), zup_off (by omega), zup_s]
              · refine (if_neg (by omega)).trans ?_
                rw [zup_off (by omega), zup_s]
              · rw [zup_off (by omega), zup_s]
              · refine (if_neg (by omega)).trans ?_
                rw [zup_s]
              · rw [zup_off (by omega), zup_off (by omega), zup_off (by omega), zup_off (by omega)]
                refine (if_pos (by omega)).trans (if_pos (by omega)).symm
            · have r4 := R.2.2.2.1 q hq
              have eC : ∀ j, zup (zup (zup (zup (zfl C (28 + 2 * i) 0 60) (27 + 2 * i) 1 0) (27 + 2 * i) 2 (nI li)) (27 + 2 * i) 3 (nI m)) 0 10 0 (27 + 2 * q) j = C (27 + 2 * q) j := fun j => by
                rw [zup_off (by omega), zup_off (by omega), zup_off (by omega), zup_off (by omega)]
                exact if_neg (by omega)
              have eM : ∀ a, 144 ≤ a → a ≤ 145 → zfl (zup (zup (zup (zup M 143 0 0) 143 1 0) 144 i (nI li)) 145 i (nI m)) 146 (60 * i + 0) (60 * i + 60) a q = M a q := fun a _ _ => by
                refine (if_neg (by omega)).trans ?_
                rw [zup_off (by omega), zup_off (by omega), zup_off (by omega), zup_off (by omega)]
              rw [eC, eC, eC, eM 144 (by omega) (by omega), eM 145 (by omega) (by omega)]
              refine ⟨r4.1, r4.2.1, fun j hj => ?_⟩
              rw [zup_off (by omega), zup_off (by omega), zup_off (by omega), zup_off (by omega)]
              refine (if_neg (by omega)).trans ((r4.2.2 j hj).trans ?_)
              refine ((if_neg (by omega)).trans ?_).symm
              rw [zup_off (by omega), zup_off (by omega), zup_off (by omega), zup_off (by omega)]
          · funext j
            rw [zup_off (by omega), zup_off (by omega), zup_off (by omega), zup_off (by omega)]
            exact if_neg (by omega)
          · funext j
            refine (if_neg (by omega)).trans ?_
            rw [zup_off (by omega), zup_off (by omega), zup_off (by omega), zup_off (by omega)]
        · refine found_same R (r := -1000010 - 4) (y := 4) ?_ ?_
          · rw [fX7_sheet, cSh_i h1, zca_some, if_neg ne10, if_neg (by rw [zlt0]; omega), if_neg (by rw [Int32.lt_iff_toInt_lt]; exact Int.not_lt.mpr (Int.lt_add_one_iff.mp l2)), if_pos h3, if_neg h4, zd_t zo_0, cFound]
            rfl
          · rw [fX8_sheet, zd_t zo_143, zbd_e, mSh_i h1, zca_some, if_neg ne10, in_i (by rw [z64]; exact l1) (by rw [z64]; exact Int.lt_add_one_iff.mp l2), zca_some, if_neg ne10, if_pos h3, zbd_e, if_neg h4, mFound]
            rw [zca_some]
            show some (_, zup (zup (zup M 143 0 0) 143 1 0) 143 1 4) = _
            rw [zup_zup]
            all_goals rfl
      · refine bad_same R (r := -1000001) ?_ ?_
        · rw [fX7_sheet, cSh_i h1, zca_some, if_neg ne10, if_neg (by rw [zlt0]; omega), if_neg (by rw [Int32.lt_iff_toInt_lt]; exact Int.not_lt.mpr (Int.lt_add_one_iff.mp l2)), if_neg h3]
        · rw [fX8_sheet, zd_t zo_143, zbd_e, mSh_i h1, zca_some, if_neg ne10, in_i (by rw [z64]; exact l1) (by rw [z64]; exact Int.lt_add_one_iff.mp l2), zca_some, if_neg ne10, if_neg h3]
          rfl
    · refine bad_same R (r := -1000001) ?_ ?_
      · rw [fX7_sheet, cSh_i h1, zca_some, if_neg ne10]
        by_cases q : l < 0
        · rw [if_pos q]
        · rw [if_neg q, if_pos (by rw [Int32.lt_iff_toInt_lt]; rw [zlt0] at q; show 2 < l.toInt; unfold zin at h2; omega)]
      · rw [fX8_sheet, zd_t zo_143, zbd_e, mSh_i h1, zca_some, if_neg ne10, in_o (by rw [z64]; show l.toInt < 0 ∨ 2 < l.toInt; unfold zin at h2; omega), zca_some, if_pos rfl]
        rfl
  · refine bad_same R (r := -1000001) ?_ ?_
    · rw [fX7_sheet, cSh_o h1, zca_some, if_pos rfl]
    · rw [fX8_sheet, zd_t zo_143, zbd_e, mSh_o h1, zca_some, if_pos rfl]
      rfl
end SHM
