theorem add_m1 (x : Int32) : x + (-1) = x - 1 := by rw [Int32.sub_eq_add_neg]
def HB (C M : zM) : Prop := ∀ v, v < 10 → ∀ u, u < 10 → ∃ q, q ≤ 1000 ∧ C (5 + v) u = nI q ∧ M 150 (10 * v + u) = nI q
def FW3 (C C' : zM) : Prop := ∀ a j, ¬ (15 ≤ a ∧ a ≤ 17) → C' a j = C a j
def GW3 (M M' : zM) : Prop := ∀ a j, ¬ (151 ≤ a ∧ a ≤ 153) → M' a j = M a j
section PAT
variable {C M C' M' : zM} {t v w q f vc dc : Nat}
theorem FW3.pc (h : FW3 C C') (P : PC C) : PC C' := P.of fun a j e => h a j fun q => e (zp0_15 q.1 q.2)
theorem GW3.pm (h : GW3 M M') (Q : PM M) : PM M' := Q.of fun j _ => h 143 j (by omega)
theorem FW.w3 (h : FW v C C') : FW3 C C' := fun a j e => h a j fun q => e ⟨q.1, q.2.1⟩
theorem GW.w3 (h : GW v M M') : GW3 M M' := fun a j e => h a j fun q => e ⟨q.1, q.2.1⟩
theorem HB.fr (h : HB C M) (fc : FW3 C C') (fm : GW3 M M') : HB C' M' := fun v hv u hu => by
  rw [fc _ _ (by omega), fm _ _ (by omega)]
  exact h v hv u hu
theorem way_row (hv : v < t) (ht : t < 10) (P : PC C) (Q : PM M) (hb : HB C M) (h0 : M 151 v = -1000000) (hR : ∀ u, v + 1 ≤ u → u ≤ t → RW C M t u) : ∃ C' M', fX5_chooseNext 167 C (nI 3) (nI v) (nI t) = some (0, C') ∧ (∀ kk, fX8_findWays_50 167 kk 1000 M (nI 143) (nI t) (nI v) (nI (v + 1)) = kk M' (nI 143) (nI t) (nI v - 1)) ∧ (∀ u, v ≤ u → u ≤ t → RW C' M' t u) ∧ FW v C C' ∧ GW v M M' := by
  have f0 : FW v C (zup C 15 v (-1)) := fun a j e => zup_off (by omega)
  obtain ⟨C2, M2, e3, e4, h2, fc2, fm2⟩ := way_in (v := v) hv ht (t - v) (v + 1) 1000 1000 (zup C 15 v (-1)) M (by omega) (by omega) (by omega) (by omega) (f0.pc P) Q (fun u hu => by
    obtain ⟨q, w1, w2, w3⟩ := hb v (by omega) u hu
    exact ⟨q, w1, by rw [f0 _ _ (by omega)]; exact w2, w3⟩) (fun u w1 w2 => by
    by_cases e : u = v
    · subst e
      exact Or.inl ⟨zup_s, h0⟩
    · exact (hR u (by omega) w2).fr (by omega) f0 (fun _ _ _ => rfl))
  refine ⟨C2, M2, ?_, fun kk => by rw [e4, add_m1], h2, fun a j e => by rw [fc2 a j e, f0 a j e], fm2⟩
  rw [fX5_chooseNext, zd_t zo_3, show zg C (nI 3) 1 = nI 15 from P.c31, zd_t (za_15 (by omega)), zbd_e, zq_n (by decide) (by omega), zbd_e, nI_1, e3]
theorem way_m (ht : t < 10) : ∀ (m fu : Nat) (C M : zM), m ≤ t → m < fu → PC C → PM M → HB C M → (∀ u, u < m → M 151 u = -1000000) → (∀ u, m ≤ u → u ≤ t → RW C M t u) → ∃ M', fX8_findWays_42 167 fu M (nI 143) (nI t) (nI m - 1) = some (0, M') ∧ ∀ a j, ¬ (151 ≤ a ∧ a ≤ 153 ∧ j < m) → M' a j = M a j
  | m, 0, C, M, _, hf, _, _, _, _, _ => absurd hf (Nat.not_lt_zero _)
  | 0, fu + 1, C, M, hm, hf, P, Q, hb, h0, hR => by
    refine ⟨M, ?_, fun _ _ _ => rfl⟩
    rw [fX8_findWays_42, if_pos (by decide)]
  | m + 1, fu + 1, C, M, hm, hf, P, Q, hb, h0, hR => by
    obtain ⟨C1, M1, -, e2, h1, fc, fm⟩ := way_row (v := m) (by omega) ht P Q hb (h0 m (by omega)) hR
    obtain ⟨M2, e3, f3⟩ := way_m ht m fu C1 M1 (by omega) (by omega) (fc.pc P) (fm.pm Q) (hb.fr fc.w3 fm.w3) (fun u hu => by rw [fm _ _ (by omega)]; exact h0 u (by omega)) h1
    refine ⟨M2, ?_, fun a j e => by rw [f3 a j (by omega), fm a j (by omega)]⟩
    rw [fX8_findWays_42, nI_pred, if_neg (nI_pos (by omega)), zbd_e, nI_1, e2, e3]
theorem way_c (ht : t < 10) : ∀ (r m fu fu' : Nat) (C M : zM), m = f + r → m ≤ t → r < fu → m < fu' → PC C → PM M → HB C M → (∀ u, u < m → M 151 u = -1000000) → (∀ u, m ≤ u → u ≤ t → RW C M t u) → ∃ C' M', fX5_search_18 167 fu C (nI 3) (nI f) (nI t) (nI m - 1) = some (if C' 15 f = -1 then 0 else 1, C') ∧ fX8_findWays_42 167 fu' M (nI 143) (nI t) (nI m - 1) = some (0, M') ∧ (∀ u, f ≤ u → u ≤ t → RW C' M' t u) ∧ FW3 C C' ∧ GW3 M M'
  | r, m, 0, _, C, M, _, _, hf, _, _, _, _, _, _ => absurd hf (Nat.not_lt_zero _)
  | r, m, _ + 1, 0, C, M, _, _, _, hf, _, _, _, _, _ => absurd hf (Nat.not_lt_zero _)
  | 0, m, fu + 1, fu' + 1, C, M, he, hm, hf, hf', P, Q, hb, h0, hR => by
    obtain rfl : m = f := he
    obtain ⟨M', e1, f1⟩ := way_m ht m (fu' + 1) C M hm hf' P Q hb h0 hR
    refine ⟨C, M', ?_, e1, fun u w1 w2 => ?_, fun _ _ _ => rfl, fun a j e => f1 a j (by omega)⟩
    · rw [fX5_search_18, if_pos (by rw [ilt, nIs (by omega), nIt (by omega)]; omega), zd_t zo_3, show zg C (nI 3) 1 = nI 15 from P.c31, zd_t (za_15 (by omega)), ze_n (by decide) (by omega)]
      by_cases w : C 15 m = -1
      · rw [if_pos w, if_pos w]
      · rw [if_neg w, if_neg w]
    · have e2 : ∀ a x, u ≤ x → M' a x = M a x := fun a x hx => f1 a x (by omega)
      have h := hR u w1 w2
      unfold RW at h ⊢
      rw [e2 151 u (by omega), e2 152 u (by omega), e2 153 u (by omega)]
      exact h
  | r + 1, 0, fu + 1, fu' + 1, C, M, he, hm, hf, hf', P, Q, hb, h0, hR => by omega
  | r + 1, m + 1, fu + 1, fu' + 1, C, M, he, hm, hf, hf', P, Q, hb, h0, hR => by
    obtain ⟨C1, M1, e1, e2, h1, fc, fm⟩ := way_row (v := m) (by omega) ht P Q hb (h0 m (by omega)) hR
    obtain ⟨C2, M2, e3, e4, h2, fc2, fm2⟩ := way_c ht r m fu fu' C1 M1 (by omega) (by omega) (by omega) (by omega) (fc.pc P) (fm.pm Q) (hb.fr fc.w3 fm.w3) (fun u hu => by rw [fm _ _ (by omega)]; exact h0 u (by omega)) h1
    refine ⟨C2, M2, ?_, ?_, h2, fun a j e => by rw [fc2 a j e, fc.w3 a j e], fun a j e => by rw [fm2 a j e, fm.w3 a j e]⟩
    · rw [fX5_search_18, nI_pred, if_neg (nI_nlt (by omega) (by omega)), zd_t zo_3, e1, zca_some, zbd_e, add_m1, e3]
    · rw [fX8_findWays_42, nI_pred, if_neg (nI_pos (by omega)), zbd_e, nI_1, e2, e4]
def wini (M : zM) (t i : Nat) : zM := fun a j => if a = 151 ∧ i ≤ j ∧ j < 10 then (if j = t then 0 else -1000000) else if a = 152 ∧ i ≤ j ∧ j < 10 then 0 else M a j
theorem wini_end : wini M t 10 = M := by
  funext a j
  unfold wini
  rw [if_neg (by omega), if_neg (by omega)]
theorem wini_step {i : Nat} {y : Int32} (hi : i < 10) (hy : y = if i = t then 0 else -1000000) : wini (zup (zup M 151 i y) 152 i 0) t (i + 1) = wini M t i := by
  funext a j
  unfold wini
  by_cases h1 : a = 151 ∧ i ≤ j ∧ j < 10
  · rw [if_pos h1]
    by_cases e : j = i
    · subst e
      rw [if_neg (by omega), if_neg (by omega), zup_off (by omega), hy]
      obtain ⟨rfl, -⟩ := h1
      rw [zup_s]
    · rw [if_pos (by omega)]
  · rw [if_neg h1, if_neg (by omega)]
    by_cases h2 : a = 152 ∧ i ≤ j ∧ j < 10
    · rw [if_pos h2]
      by_cases e : j = i
      · subst e
        rw [if_neg (by omega)]
        obtain ⟨rfl, -⟩ := h2
        rw [zup_s]
      · rw [if_pos (by omega)]
    · rw [if_neg h2, if_neg (by omega), zup_off (by omega), zup_off (by omega)]
theorem way_ini (ht : t < 10) : ∀ (k i fu : Nat) (M : zM), i + k = 10 → k < fu → PM M → fX8_findWays_2 167 fu M (nI 143) (nI t) (nI i) = fX8_findWays_42 167 1000 (wini M t i) (nI 143) (nI t) (nI t - 1)
  | k, i, 0, M, _, hf, _ => absurd hf (Nat.not_lt_zero _)
  | 0, i, fu + 1, M, hi, hf, Q => by
    obtain rfl : i = 10 := hi
    rw [fX8_findWays_2, if_pos (by exact Int32.le_refl _), zbd_e, wini_end]
  | k + 1, i, fu + 1, M, hi, hf, Q => by
    have Q1 : ∀ y, PM (zup M 151 i y) := fun y => Q.up (fun q => by omega)
    have e24 : ∀ y, fX8_findWays_24 167 (fX8_findWays_2 167 fu) M (nI 143) (nI t) (nI i) y (nI i) (nI 151) = fX8_findWays_2 167 fu (zup (zup M 151 i y) 152 i 0) (nI 143) (nI t) (nI (i + 1)) := fun y => by
      rw [fX8_findWays_24, zd_t (za_151 (by omega)), zbd_e, zq_n (by decide) (by omega), zd_t zo_143, show zg (zup M 151 i y) (nI 143) 11 = nI 152 from (Q1 y).m11, zd_t (za_152 (by omega)), zbd_e, zq_n (by decide) (by omega), zbd_e, nI_1]
    rw [fX8_findWays_2, if_neg (show ¬ (10 : Int32) ≤ nI i from nI_ge (b := 10) (by omega) (by decide)), zd_t zo_143, show zg M (nI 143) 10 = nI 151 from Q.m10]
    by_cases h : i = t
    · rw [if_pos (show nI i = nI t by rw [h]), e24, way_ini ht k (i + 1) fu _ (by omega) (by omega) ((Q1 _).up (fun q => by omega)), wini_step (by omega) (by rw [if_pos h])]
    · rw [if_neg (show ¬ nI i = nI t from fun q => h ((nI_eq (by omega) (by omega)).mp q)), e24, way_ini ht k (i + 1) fu _ (by omega) (by omega) ((Q1 _).up (fun q => by omega)), wini_step (by omega) (by rw [if_neg h])]
theorem ways (hft : f < t) (ht : t < 10) (P : PC C) (Q : PM M) (hb : HB C M) : ∃ C' M', fX5_search 167 C (nI 3) (nI f) (nI t) = some (if C' 15 f = -1 then 0 else 1, C') ∧ fX8_findWays 167 M (nI 143) (nI t) = some (0, M') ∧ (∀ u, f ≤ u → u ≤ t → RW C' M' t u) ∧ FW3 C C' ∧ GW3 M M' := by
  have fc : FW3 C (zup (zup C 15 t 0) 16 t 0) := fun a j e => by rw [zup_off (by omega), zup_off (by omega)]
  have fm : GW3 M (wini M t 0) := fun a j e => by
    unfold wini
    rw [if_neg (by omega), if_neg (by omega)]
  have P1 : PC (zup C 15 t 0) := P.up (zp0_15 (by omega) (by omega))
  obtain ⟨C2, M2, e3, e4, h2, fc2, fm2⟩ := way_c (f := f) ht (t - f) t 1000 1000 (zup (zup C 15 t 0) 16 t 0) (wini M t 0) (by omega) (by omega) (by omega) (by omega) (fc.pc P) (fm.pm Q) (hb.fr fc fm) (fun u hu => by
    unfold wini
    rw [if_pos (by omega), if_neg (by omega)]) (fun u w1 w2 => by
    obtain rfl : u = t := by omega
    refine Or.inr ⟨0, 0, by omega, by omega, ?_, ?_, ?_, ?_, Or.inl ⟨rfl, rfl⟩⟩
    · rw [zup_off (by omega), zup_s]
      rfl
    · unfold wini
      rw [if_pos (by omega), if_pos rfl]
      rfl
    · rw [zup_s]
      rfl
    · unfold wini
      rw [if_neg (by omega), if_pos (by omega)]
      rfl)
  refine ⟨C2, M2, ?_, ?_, h2, fun a j e => by rw [fc2 a j e, fc a j e], fun a j e => by rw [fm2 a j e, fm a j e]⟩
  · rw [fX5_search, zd_t zo_3, show zg C (nI 3) 1 = nI 15 from P.c31, zd_t (za_15 (by omega)), zbd_e, zq_n (by decide) (by omega), show zg (zup C 15 t 0) (nI 3) 2 = nI 16 from P1.c32, zd_t (za_16 (by omega)), zbd_e, zq_n (by decide) (by omega), zbd_e, e3]
  · rw [fX8_findWays, zbd_e, show (0 : Int32) = nI 0 from rfl, way_ini ht 10 0 1000 M (by omega) (by omega) Q]
    exact e4
theorem R2.ways (R : R2 vc dc C M) (fc : FW3 C C') (fm : GW3 M M') : R2 vc dc C' M' := by
  obtain ⟨r1, r2, r3, r4, r5, r6, r7, r8, r9, r10⟩ := R
  refine ⟨fc.pc r1, fm.pm r2, r3.fr ?_ ?_ ?_ ?_, r4.fr ?_ ?_, r5.fr ?_ ?_ ?_ ?_, r6.fr ?_ ?_ ?_, r7.fr ?_ ?_, r8.fr ?_ ?_ ?_ ?_, r9.fr ?_ ?_ ?_, r10.fr ?_ ?_ ?_⟩
  all_goals first | (intros; exact fc _ _ (by omega)) | (intros; exact fm _ _ (by omega))
theorem FW3.fc (h : FW3 C C') : FC C C' := fun a ha => funext fun j => h a j (by omega)
theorem GW3.fm (h : GW3 M M') : FM M M' := fun a ha => funext fun j => h a j (by omega)
theorem ways_same (R : R2 vc dc C M) (fc : FW3 C C') (fm : GW3 (zup M 143 0 0) M') {g h : Option (Int32 × zM)} {r : Int32} (e1 : g = some (r, C')) (e2 : h = some (r, M')) : Same g h C M :=
  ⟨r, C', M', vc, dc, e1, e2, (R.thrown 0).ways fc fm, fc.fc, (FM.rf.up (by decide)).tr fm.fm⟩
theorem ok_path (R : R2 vc dc C M) (x y z : Int32) : Same (fX7_path 167 C (nI 0) x y z) (fX8_path 167 M (nI 143) x y z) C M := by
  have P := R.1
  obtain ⟨-, Q, -, -, ⟨hvc, cv, mv, -⟩, hs, -⟩ := R.thrown 0
  by_cases h1 : zin x vc ∧ zin y vc ∧ x.toInt < y.toInt
  · by_cases h2 : zin z 2
    · obtain ⟨a, b, hab, hb, rfl, rfl⟩ := rise_ex hvc h1
      obtain ⟨q1, q2⟩ := zin_le (b := 1) (by decide) h2
      obtain ⟨C', M', e1, e2, hw, fc, fm⟩ := ways hab (by omega) P Q hs.1
      have P1 := fc.pc P
      have Q1 := fm.pm Q
      have eC : fX7_path 167 C (nI 0) (nI a) (nI b) z = if C' 15 a = -1 then some (-1000000, C') else if z = 0 then some (C' 15 a, C') else some (C' 16 a, C') := by
        rw [fX7_path, zd_t zo_0, c_rise_i cv hvc h1, zca_some, if_neg ne10, if_neg q1, if_pos q2, show zg C (nI 0) 3 = nI 3 from P.c03, zd_t zo_3, e1, zca_some, show zg C' (nI 0) 3 = nI 3 from P1.c03, zd_t zo_3, zd_t zo_3, show zg C' (nI 3) 1 = nI 15 from P1.c31, show zg C' (nI 3) 2 = nI 16 from P1.c32, zd_t (za_15 (by omega)), zd_t (za_16 (by omega)), ze_n (by decide) (by omega), ze_n (by decide) (by omega)]
        by_cases w : C' 15 a = -1
        · rw [if_pos w, if_pos w, if_pos rfl]
        · rw [if_neg w, if_neg w, if_neg ne10]
      have eM : fX8_path 167 M (nI 143) (nI a) (nI b) z = if M' 151 a = -1000000 then some (-1000000, M') else if z = 0 then some (M' 151 a, M') else some (M' 152 a, M') := by
        rw [fX8_path, zd_t zo_143, zbd_e, zp_n (by decide), m_rise_i mv hvc h1, zca_some, if_neg ne10, in_i (by rw [z64]; exact h2.1) (by rw [z64]; exact Int.lt_add_one_iff.mp h2.2), zca_some, if_neg ne10, e2, zca_some, show zg M' (nI 143) 10 = nI 151 from Q1.m10, show zg M' (nI 143) 11 = nI 152 from Q1.m11, zd_t (za_151 (by omega)), zd_t (za_152 (by omega)), ze_n (by decide) (by omega), ze_n (by decide) (by omega)]
      rcases hw a (by omega) (by omega) with ⟨c1, m1⟩ | ⟨s, k, hs, hk, c1, m1, c2, m2, -⟩
      · rw [c1, if_pos rfl] at eC
        rw [m1, if_pos rfl] at eM
        exact ways_same R fc fm eC eM
      · rw [c1, if_neg (nne (by omega)), c2] at eC
        rw [m1, if_neg (nne6 (by omega)), m2] at eM
        by_cases w : z = 0
        · rw [if_pos w] at eC eM
          exact ways_same R fc fm eC eM
        · rw [if_neg w] at eC eM
          exact ways_same R fc fm eC eM
    · refine bad_same R (r := -1000001) ?_ ?_
      · rw [fX7_path, zd_t zo_0, c_rise_i cv hvc h1, zca_some, if_neg ne10]
        by_cases w : z < 0
        · rw [if_pos w]
        · rw [if_neg w, if_neg (by rw [ile]; rw [zlt0] at w; unfold zin at h2; show ¬ z.toInt ≤ 1; omega)]
      · rw [fX8_path, zd_t zo_143, zbd_e, zp_n (by decide), m_rise_i mv hvc h1, zca_some, if_neg ne10, in_o (by rw [z64]; show z.toInt < 0 ∨ 1 < z.toInt; unfold zin at h2; omega), zca_some, if_pos rfl]
  · refine bad_same R (r := -1000001) ?_ ?_
    · rw [fX7_path, zd_t zo_0, c_rise_o cv hvc h1, zca_some, if_pos rfl]
    · rw [fX8_path, zd_t zo_143, zbd_e, zp_n (by decide), m_rise_o mv hvc h1, zca_some, if_pos rfl]
theorem fol (ht : t < 10) (P : PC C) (Q : PM M) (hR : ∀ u, f ≤ u → u ≤ t → RW C M t u) : ∀ (r at_ x i k fu fu' : Nat), x + r = i → i < 100 → r < fu → r < fu' → f ≤ at_ → at_ ≤ t → ¬ C 15 at_ = -1 → C 16 at_ = nI k → k < 100 → r ≤ k → ∃ s : Int32, fX5_follow_22 167 fu C (nI 3) (nI i) (nI at_) (nI x) = some (s, C) ∧ fX8_on_58 167 fu' M (nI 143) (nI i) (nI at_) (nI x) = some (s, M)
  | r, at_, x, i, k, 0, _, _, _, hf, _, _, _, _, _, _, _ => absurd hf (Nat.not_lt_zero _)
  | r, at_, x, i, k, _ + 1, 0, _, _, _, hf, _, _, _, _, _, _ => absurd hf (Nat.not_lt_zero _)
  | 0, at_, x, i, k, fu + 1, fu' + 1, hx, hi, _, _, _, _, _, _, _, _ => by
    obtain rfl : x = i := hx
    exact ⟨nI at_, by rw [fX5_follow_22, if_pos (Int32.le_refl _)], by rw [fX8_on_58, if_pos (Int32.le_refl _)]⟩
  | r + 1, at_, x, i, k, fu + 1, fu' + 1, hx, hi, hf, hf', h1, h2, h3, h4, hk, h5 => by
    rcases hR at_ h1 h2 with ⟨c1, -⟩ | ⟨s, k1, -, hk1, c1, m1, c2, m2, ⟨-, rfl⟩ | ⟨y, k', b1, b2, b3, b4, b5, b6, b7⟩⟩
    · exact absurd c1 h3
    · rw [h4] at c2
      have := (nI_eq (by omega) (by omega)).mp c2
      omega
    · rw [h4] at c2
      have := (nI_eq (by omega) (by omega)).mp c2
      obtain ⟨s, e1, e2⟩ := fol ht P Q hR r y (x + 1) i k' fu fu' (by omega) hi (by omega) (by omega) (by omega) b2 b6 b7 (by omega) (by omega)
      refine ⟨s, ?_, ?_⟩
      · rw [fX5_follow_22, if_neg (nI_ge (by omega) (by omega)), zd_t zo_3, show zg C (nI 3) 3 = nI 17 from P.c33, zd_t (za_17 (by omega)), zbd_e, ze_n (by decide) (by omega), b4, zbd_e, nI_1, e1]
      · rw [fX8_on_58, if_neg (nI_ge (by omega) (by omega)), zd_t zo_143, show zg M (nI 143) 12 = nI 153 from Q.m12, zd_t (za_153 (by omega)), zbd_e, ze_n (by decide) (by omega), b5, zbd_e, nI_1, e2]
theorem ok_on (R : R2 vc dc C M) (x y z : Int32) : Same (fX7_on 167 C (nI 0) x y z) (fX8_on 167 M (nI 143) x y z) C M := by
  have P := R.1
  obtain ⟨-, Q, -, -, ⟨hvc, cv, mv, -⟩, hs, -⟩ := R.thrown 0
  by_cases h1 : zin x vc ∧ zin y vc ∧ x.toInt < y.toInt
  · obtain ⟨a, b, hab, hb, rfl, rfl⟩ := rise_ex hvc h1
    obtain ⟨C', M', e1, e2, hw, fc, fm⟩ := ways hab (by omega) P Q hs.1
    have P1 := fc.pc P
    have Q1 := fm.pm Q
    have eC : fX7_on 167 C (nI 0) (nI a) (nI b) z = if C' 15 a = -1 then some (-1000000, C') else zca (fX5_follow 167 C' (nI 3) (nI a) z) fun r12 S13 => some (r12, S13) := by
      rw [fX7_on, zd_t zo_0, c_rise_i cv hvc h1, zca_some, if_neg ne10, show zg C (nI 0) 3 = nI 3 from P.c03, zd_t zo_3, e1, zca_some, show zg C' (nI 0) 3 = nI 3 from P1.c03, zd_t zo_3]
      by_cases w : C' 15 a = -1
      · rw [if_pos w, if_pos w, if_pos rfl]
      · rw [if_neg w, if_neg w, if_neg ne10]
    have eM : fX8_on 167 M (nI 143) (nI a) (nI b) z = if M' 151 a = -1000000 then some (-1000000, M') else zca (fX8_in 167 M' z.toInt64 0 (M' 152 a).toInt64) fun r14 S15 => if r14 = 0 then some (-1000000, S15) else zbd (nI a) fun v18 => zbd 0 fun v20 => fX8_on_58 167 1000 S15 (nI 143) z v18 v20 := by
      rw [fX8_on, zd_t zo_143, zbd_e, zp_n (by decide), m_rise_i mv hvc h1, zca_some, if_neg ne10, e2, zca_some, show zg M' (nI 143) 10 = nI 151 from Q1.m10, show zg M' (nI 143) 11 = nI 152 from Q1.m11, zd_t (za_151 (by omega)), zd_t (za_152 (by omega)), ze_n (by decide) (by omega), ze_n (by decide) (by omega)]
    rcases id (hw a (by omega) (by omega)) with ⟨c1, m1⟩ | ⟨s, k, hs, hk, c1, m1, c2, m2, -⟩
    · rw [c1, if_pos rfl] at eC
      rw [m1, if_pos rfl] at eM
      exact ways_same R fc fm eC eM
    · rw [c1, if_neg (nne (by omega))] at eC
      rw [m1, if_neg (nne6 (by omega)), m2] at eM
      by_cases hz : zin z (k + 1)
      · obtain ⟨i, hi, rfl⟩ := zin_ex (by omega) hz
        obtain ⟨r, g1, g2⟩ := fol (by omega) P1 Q1 hw i a 0 i k 1000 1000 (by omega) (by omega) (by omega) (by omega) (by omega) (by omega) (by rw [c1]; exact nne (by omega)) c2 (by omega) (by omega)
        rw [fX5_follow, if_neg (nI_pos (by omega)), zd_t zo_3, show zg C' (nI 3) 2 = nI 16 from P1.c32, zd_t (za_16 (by omega)), ze_n (by decide) (by omega), c2, if_pos (nI_le (by omega) (by omega)), zbd_e, zbd_e, show (0 : Int32) = nI 0 from rfl, g1, zca_some] at eC
        rw [in_i (by rw [z64]; exact hz.1) (by rw [z64, z64, nIt (by omega), nIt (by omega)]; omega), zca_some, if_neg ne10, zbd_e, zbd_e, show (0 : Int32) = nI 0 from rfl, g2] at eM
        exact ways_same R fc fm eC eM
      · rw [in_o (by rw [z64, z64, nIt (by omega)]; show z.toInt < 0 ∨ _; unfold zin at hz; omega), zca_some, if_pos rfl] at eM
        refine ways_same R fc fm (eC.trans ?_) eM
        rw [fX5_follow]
        by_cases w : z < 0
        · rw [if_pos w, zca_some]
        · rw [if_neg w, zd_t zo_3, show zg C' (nI 3) 2 = nI 16 from P1.c32, zd_t (za_16 (by omega)), ze_n (by decide) (by omega), c2, if_neg (by rw [ile, nIt (by omega)]; rw [zlt0] at w; unfold zin at hz; omega), zca_some]
  · refine bad_same R (r := -1000001) ?_ ?_
    · rw [fX7_on, zd_t zo_0, c_rise_o cv hvc h1, zca_some, if_pos rfl]
    · rw [fX8_on, zd_t zo_143, zbd_e, zp_n (by decide), m_rise_o mv hvc h1, zca_some, if_pos rfl]
end PAT
