def ini1 : Option (Nat × zM) := fX7_init 1 (znw (fun _ _ => 0) 0) (nI 0)
def ini2 : Option (Nat × zM) := ini1.bind fun q => fX8_init (q.1 + 1) (znw q.2 q.1) (nI q.1)
def iniS : zM := (ini2.getD (0, fun _ _ => 0)).2
theorem ini1_n : ini1.map (fun q => q.1) = some 143 := by decide +kernel
theorem ini2_n : ini2.map (fun q => q.1) = some 167 := by decide +kernel
theorem zp0_bd {a j v : Nat} (h : zp0 a j = some v) : a < 143 ∧ j < 30 := by
  unfold zp0 at h
  (repeat' split at h) <;> first | omega | (cases h; omega) | cases h
theorem zp1_bd {j v : Nat} (h : zp1 j = some v) : j < 37 := by
  unfold zp1 at h
  split at h <;> first | omega | cases h
theorem ini_pc : ∀ a, a < 143 → ∀ j, j < 30 → (match zp0 a j with | some v => iniS a j == nI v | none => true) = true := by decide +kernel
theorem ini_pm : ∀ j, j < 37 → (match zp1 j with | some v => iniS 143 j == nI v | none => true) = true := by decide +kernel
theorem ini_sh : ∀ i, i < 8 → iniS (27 + 2 * i) 1 = 1 ∧ iniS 144 i = -1 ∧ iniS (27 + 2 * i) 3 = nI 0 ∧ iniS 145 i = nI 0 ∧ ∀ j, j < 60 → iniS (28 + 2 * i) j = iniS 146 (60 * i + j) := by decide +kernel
theorem ini_st : (∀ v, v < 10 → ∀ u, u < 10 → iniS (5 + v) u = nI 0 ∧ iniS 150 (10 * v + u) = nI 0) ∧ iniS 3 4 = nI (zcnt (iniS 150) 100) := by decide +kernel
theorem ini_dv : ∀ d, d < 30 → RD0 iniS iniS d := by
  unfold RD0
  decide +kernel
theorem ini_ms : iniS 0 10 = iniS 143 1 ∧ iniS 0 8 = iniS 143 24 ∧ iniS 0 2 = nI 0 ∧ iniS 143 5 = nI 0 ∧ iniS 19 3 = nI 20 ∧ iniS 19 4 = nI 21 ∧ iniS 0 5 = nI 0 ∧ iniS 143 13 = nI 0 ∧ iniS 22 0 = -1 ∧ iniS 143 25 = 0 ∧ iniS 25 1 = nI 0 ∧ iniS 143 37 = nI 0 ∧ ∀ j, j < 16 → iniS 26 j = iniS 166 j := by decide +kernel
theorem ini_R : R2 0 0 iniS iniS := by
  obtain ⟨a1, a2, a3, a4, a5, a6, a7, a8, a9, a10, a11, a12, a13⟩ := ini_ms
  refine ⟨fun a j v h => ?_, fun j v h => ?_, ⟨a1, a2⟩, fun i hi => ?_, ⟨by omega, a3, a4, fun i hi => absurd hi (Nat.not_lt_zero _)⟩, ⟨fun v hv u hu => ⟨0, by omega, (ini_st.1 v hv u hu).1, (ini_st.1 v hv u hu).2⟩, ini_st.2⟩, ⟨1, Or.inl rfl, a5, a6⟩, ⟨by omega, a7, a8, fun d hd => absurd hd (Nat.not_lt_zero _), fun d _ hd => ini_dv d hd⟩, Or.inl ⟨a9, a10⟩, ⟨0, by omega, a11, a12, a13⟩⟩
  · have := ini_pc a (zp0_bd h).1 j (zp0_bd h).2
    rw [h] at this
    exact eq_of_beq this
  · have := ini_pm j (zp1_bd h)
    rw [h] at this
    exact eq_of_beq this
  · obtain ⟨b1, b2, b3, b4, b5⟩ := ini_sh i hi
    exact ⟨Or.inl ⟨b1, b2⟩, ⟨0, by omega, b3, b4⟩, b5⟩
section LOO
variable {C M C' M' S : zM} {vc dc : Nat}
theorem R2.m (R : R2 vc dc C M) (e : ∀ a, 143 ≤ a → M' a = M a) : R2 vc dc C M' := by
  have f : ∀ a j, 143 ≤ a → M' a j = M a j := fun a j h => by rw [e a h]
  obtain ⟨r1, r2, r3, r4, r5, r6, r7, r8, r9, r10⟩ := R
  refine ⟨r1, r2.of fun j _ => f 143 j (by omega), r3.fr rfl rfl ?_ ?_, r4.fr (fun _ _ _ _ => rfl) ?_, r5.fr rfl (fun _ _ _ _ => rfl) ?_ ?_, r6.fr rfl (fun _ _ _ _ => rfl) ?_, r7, r8.fr rfl (fun _ _ _ _ => rfl) ?_ ?_, r9.fr (fun _ _ _ _ => rfl) ?_ ?_, r10.fr (fun _ _ _ _ => rfl) ?_ ?_⟩ <;> intros <;> exact f _ _ (by omega)
theorem R2.c (R : R2 vc dc C M) (e : ∀ a, a < 143 → C' a = C a) : R2 vc dc C' M := by
  have f : ∀ a j, a < 143 → C' a j = C a j := fun a j h => by rw [e a h]
  obtain ⟨r1, r2, r3, r4, r5, r6, r7, r8, r9, r10⟩ := R
  refine ⟨r1.of fun a j q => ?_, r2, r3.fr ?_ ?_ rfl rfl, r4.fr ?_ (fun _ _ _ _ => rfl), r5.fr ?_ ?_ rfl (fun _ _ _ _ => rfl), r6.fr ?_ ?_ (fun _ => rfl), r7.fr ?_ ?_, r8.fr ?_ ?_ rfl (fun _ _ _ _ _ => rfl), r9.fr ?_ (fun _ _ _ => rfl) (fun _ _ _ _ => rfl), r10.fr ?_ rfl (fun _ => rfl)⟩
  · cases h : zp0 a j with
    | none => exact absurd h q
    | some v => exact f a j (zp0_bd h).1
  all_goals (intros; exact f _ _ (by omega))
theorem two {f g : zM → Option (Int32 × zM)} (ok : ∀ C M, R2 vc dc C M → Same (f C) (g M) C M) (R : R2 vc dc S S) : ∃ r S1 S2 vc' dc', f S = some (r, S1) ∧ g S1 = some (r, S2) ∧ R2 vc' dc' S2 S2 := by
  obtain ⟨r, S1, -, -, -, e1, -, -, h1, -⟩ := ok S S R
  obtain ⟨r', C', M', vc', dc', e2, e3, R', -, h4⟩ := ok S S1 (R.m h1)
  rw [e1] at e2
  cases e2
  exact ⟨r, S1, M', vc', dc', e1, e3, R'.c h4⟩
theorem twoL {f g : zM → Option (Int64 × zM)} (ok : ∀ C M, R2 vc dc C M → SameL (f C) (g M) C M) (R : R2 vc dc S S) : ∃ r S1 S2 vc' dc', f S = some (r, S1) ∧ g S1 = some (r, S2) ∧ R2 vc' dc' S2 S2 := by
  obtain ⟨r, S1, -, -, -, e1, -, -, h1, -⟩ := ok S S R
  obtain ⟨r', C', M', vc', dc', e2, e3, R', -, h4⟩ := ok S S1 (R.m h1)
  rw [e1] at e2
  cases e2
  exact ⟨r, S1, M', vc', dc', e1, e3, R'.c h4⟩
theorem lgc_rf (x : Int64) : lg_cmp x x = 0 := by
  unfold lg_cmp
  rw [if_neg (by rw [gt_iff_lt, Int64.lt_iff_toInt_lt]; omega), if_pos rfl]
theorem zsl_n {L i : Nat} (h : i < L) (hL : L ≤ 3072) : zsl L (nI i) = true := by
  unfold zsl
  rw [idn (by omega)]
  simp [h, nI_pos (show i < 2 ^ 31 by omega)]
theorem law_loop (xs : Nat → Int32) {L : Nat} (hL : L ≤ 3072) : ∀ (fu i : Nat) (S : zM) (vc dc : Nat), i ≤ L → L + 1 ≤ i + fu → R2 vc dc S S → ∃ S', fL_18 xs L 167 fu S (nI 0) (nI 143) (nI i) = some (1, S')
  | 0, i, S, vc, dc, h1, h2, _ => absurd h2 (by omega)
  | fu + 1, i, S, vc, dc, h1, h2, R => by
    by_cases hc : L < i + 6
    · refine ⟨S, ?_⟩
      rw [fL_18, if_pos (by rw [ilt, show (6 : Int32) = nI 6 from rfl, pk_sub_toInt (by omega) (by omega), nIt (by omega)]; omega)]
    · have hi : i + 6 ≤ L := by omega
      have g : ¬ nI L - 6 < nI i := by
        rw [ilt, show (6 : Int32) = nI 6 from rfl, pk_sub_toInt (by omega) (by omega), nIt (by omega)]
        omega
      have a1 : nI i + 1 = nI (i + 1) := nI_1 i
      have a2 : nI i + 2 = nI (i + 2) := nI_add i 2
      have a3 : nI i + 3 = nI (i + 3) := nI_add i 3
      have a4 : nI i + 4 = nI (i + 4) := nI_add i 4
      have a5 : nI i + 5 = nI (i + 5) := nI_add i 5
      have a6 : nI i + 6 = nI (i + 6) := nI_add i 6
      have z0 : zsl L (nI i) = true := zsl_n (by omega) hL
      have z1 : zsl L (nI (i + 1)) = true := zsl_n (by omega) hL
      have z2 : zsl L (nI (i + 2)) = true := zsl_n (by omega) hL
      have z3 : zsl L (nI (i + 3)) = true := zsl_n (by omega) hL
      have z4 : zsl L (nI (i + 4)) = true := zsl_n (by omega) hL
      have z5 : zsl L (nI (i + 5)) = true := zsl_n (by omega) hL
      have ih : ∀ {S' : zM} {vc' dc' : Nat}, R2 vc' dc' S' S' → ∃ S'', fL_18 xs L 167 fu S' (nI 0) (nI 143) (nI (i + 6)) = some (1, S'') := fun {S' vc' dc'} R' => law_loop xs hL fu (i + 6) S' vc' dc' hi (by omega) R'
      rw [fL_18, if_neg g, zd_t z0, a1, a2, a3, a4, a5, a6]
      generalize xs (nI i).toNatClampNeg &&& 31 = op
      generalize xs (nI (i + 1)).toNatClampNeg = y1
      generalize xs (nI (i + 2)).toNatClampNeg = y2
      generalize xs (nI (i + 3)).toNatClampNeg = y3
      generalize xs (nI (i + 4)).toNatClampNeg = y4
      generalize xs (nI (i + 5)).toNatClampNeg = y5
      by_cases h0 : op = 0
      · obtain ⟨r, S1, S2, vc', dc', e1, e2, R'⟩ := two (fun C M R => ok_sheet R y1 y2 y3) R
        rw [if_pos h0, zd_t z1, zd_t z2, zd_t z3, zd_t zo_0, e1, zca_some, zd_t zo_143, e2, zca_some, if_pos rfl, zbd_e]
        exact ih R'
      rw [if_neg h0]
      by_cases h1 : op = 1
      · obtain ⟨r, S1, S2, vc', dc', e1, e2, R'⟩ := two (fun C M R => ok_set R y1 y2 y3) R
        rw [if_pos h1, zd_t z1, zd_t z2, zd_t z3, zd_t zo_0, e1, zca_some, zd_t zo_143, e2, zca_some, if_pos rfl, zbd_e]
        exact ih R'
      rw [if_neg h1]
      by_cases h2 : op = 2
      · obtain ⟨r, S1, S2, vc', dc', e1, e2, R'⟩ := two (fun C M R => ok_copy R y1 y2 y3 y4 y5) R
        rw [if_pos h2, zd_t z1, zd_t z2, zd_t z3, zd_t z4, zd_t z5, zd_t zo_0, e1, zca_some, zd_t zo_143, e2, zca_some, if_pos rfl, zbd_e]
        exact ih R'
      rw [if_neg h2]
      by_cases h3 : op = 3
      · obtain ⟨r, S1, S2, vc', dc', e1, e2, R'⟩ := two (fun C M R => ok_drop R y1) R
        rw [if_pos h3, zd_t z1, zd_t zo_0, e1, zca_some, zd_t zo_143, e2, zca_some, if_pos rfl, zbd_e]
        exact ih R'
      rw [if_neg h3]
      by_cases h4 : op = 4
      · obtain ⟨r, S1, S2, vc', dc', e1, e2, R'⟩ := two (fun C M R => ok_version R y1 y2 y3) R
        rw [if_pos h4, zd_t z1, zd_t z2, zd_t z3, zd_t zo_0, e1, zca_some, zd_t zo_143, e2, zca_some, if_pos rfl, zbd_e]
        exact ih R'
      rw [if_neg h4]
      by_cases h5 : op = 5
      · obtain ⟨r, S1, S2, vc', dc', e1, e2, R'⟩ := two (fun C M R => ok_step R y1 y2 y3) R
        rw [if_pos h5, zd_t z1, zd_t z2, zd_t z3, zd_t zo_0, e1, zca_some, zd_t zo_143, e2, zca_some, if_pos rfl, zbd_e]
        exact ih R'
      rw [if_neg h5]
      by_cases h6 : op = 6
      · obtain ⟨r, S1, S2, vc', dc', e1, e2, R'⟩ := two (fun C M R => ok_path R y1 y2 y3) R
        rw [if_pos h6, zd_t z1, zd_t z2, zd_t z3, zd_t zo_0, e1, zca_some, zd_t zo_143, e2, zca_some, if_pos rfl, zbd_e]
        exact ih R'
      rw [if_neg h6]
      by_cases h7 : op = 7
      · obtain ⟨r, S1, S2, vc', dc', e1, e2, R'⟩ := two (fun C M R => ok_on R y1 y2 y3) R
        rw [if_pos h7, zd_t z1, zd_t z2, zd_t z3, zd_t zo_0, e1, zca_some, zd_t zo_143, e2, zca_some, if_pos rfl, zbd_e]
        exact ih R'
      rw [if_neg h7]
      by_cases h8 : op = 8
      · obtain ⟨r, S1, S2, vc', dc', e1, e2, R'⟩ := two (fun C M R => ok_device R y1 y2 y3) R
        rw [if_pos h8, zd_t z1, zd_t z2, zd_t z3, zd_t zo_0, e1, zca_some, zd_t zo_143, e2, zca_some, if_pos rfl, zbd_e]
        exact ih R'
      rw [if_neg h8]
      by_cases h9 : op = 9
      · obtain ⟨r, S1, S2, vc', dc', e1, e2, R'⟩ := two (fun C M R => ok_told R y1 y2) R
        rw [if_pos h9, zd_t z1, zd_t z2, zd_t zo_0, e1, zca_some, zd_t zo_143, e2, zca_some, if_pos rfl, zbd_e]
        exact ih R'
      rw [if_neg h9]
      by_cases h10 : op = 10
      · obtain ⟨r, S1, S2, vc', dc', e1, e2, R'⟩ := two (fun C M R => ok_update R y1 y2) R
        rw [if_pos h10, zd_t z1, zd_t z2, zd_t zo_0, e1, zca_some, zd_t zo_143, e2, zca_some, if_pos rfl, zbd_e]
        exact ih R'
      rw [if_neg h10]
      by_cases h11 : op = 11
      · obtain ⟨r, S1, S2, vc', dc', e1, e2, R'⟩ := two (fun C M R => ok_acts R y1 y2) R
        rw [if_pos h11, zd_t z1, zd_t z2, zd_t zo_0, e1, zca_some, zd_t zo_143, e2, zca_some, if_pos rfl, zbd_e]
        exact ih R'
      rw [if_neg h11]
      by_cases h12 : op = 12
      · obtain ⟨r, S1, S2, vc', dc', e1, e2, R'⟩ := two (fun C M R => ok_power R y1 y2 y3) R
        rw [if_pos h12, zd_t z1, zd_t z2, zd_t z3, zd_t zo_0, e1, zca_some, zd_t zo_143, e2, zca_some, if_pos rfl, zbd_e]
        exact ih R'
      rw [if_neg h12]
      by_cases h13 : op = 13
      · obtain ⟨r, S1, S2, vc', dc', e1, e2, R'⟩ := two (fun C M R => ok_cut R y1 y2 y3 y4) R
        rw [if_pos h13, zd_t z1, zd_t z2, zd_t z3, zd_t z4, zd_t zo_0, e1, zca_some, zd_t zo_143, e2, zca_some, if_pos rfl, zbd_e]
        exact ih R'
      rw [if_neg h13]
      by_cases h14 : op = 14
      · obtain ⟨r, S1, S2, vc', dc', e1, e2, R'⟩ := two (fun C M R => ok_seed R y1) R
        rw [if_pos h14, zd_t z1, zd_t zo_0, e1, zca_some, zd_t zo_143, e2, zca_some, if_pos rfl, zbd_e]
        exact ih R'
      rw [if_neg h14]
      by_cases h15 : op = 15
      · obtain ⟨r, S1, S2, vc', dc', e1, e2, R'⟩ := two (fun C M R => ok_campaign R y1 y2 y3 y4 y5) R
        rw [if_pos h15, zd_t z1, zd_t z2, zd_t z3, zd_t z4, zd_t z5, zd_t zo_0, e1, zca_some, zd_t zo_143, e2, zca_some, if_pos rfl, zbd_e]
        exact ih R'
      rw [if_neg h15]
      by_cases h16 : op = 16
      · obtain ⟨r, S1, S2, vc', dc', e1, e2, R'⟩ := two (fun C M R => ok_tick R y1) R
        rw [if_pos h16, zd_t z1, zd_t zo_0, e1, zca_some, zd_t zo_143, e2, zca_some, if_pos rfl, zbd_e]
        exact ih R'
      rw [if_neg h16]
      by_cases h17 : op = 17
      · obtain ⟨r, S1, S2, vc', dc', e1, e2, R'⟩ := two (fun C M R => ok_runs R y1) R
        rw [if_pos h17, zd_t z1, zd_t zo_0, e1, zca_some, zd_t zo_143, e2, zca_some, if_pos rfl, zbd_e]
        exact ih R'
      rw [if_neg h17]
      by_cases h18 : op = 18
      · obtain ⟨r, S1, S2, vc', dc', e1, e2, R'⟩ := twoL (fun C M R => ok_chance R y1 y2 y3) R
        rw [if_pos h18, zd_t z1, zd_t z2, zd_t z3, zd_t zo_0, e1, zca_some, zd_t zo_143, e2, zca_some, lgc_rf, if_pos rfl, zbd_e]
        exact ih R'
      rw [if_neg h18]
      by_cases h19 : op = 19
      · obtain ⟨r, S1, S2, vc', dc', e1, e2, R'⟩ := two (fun C M R => ok_kind R y1) R
        rw [if_pos h19, zd_t z1, zd_t zo_0, e1, zca_some, zd_t zo_143, e2, zca_some, if_pos rfl, zbd_e]
        exact ih R'
      rw [if_neg h19]
      by_cases h20 : op = 20
      · obtain ⟨r, S1, S2, vc', dc', e1, e2, R'⟩ := two (fun C M R => ok_as R y1 y2) R
        rw [if_pos h20, zd_t z1, zd_t z2, zd_t zo_0, e1, zca_some, zd_t zo_143, e2, zca_some, if_pos rfl, zbd_e]
        exact ih R'
      rw [if_neg h20]
      by_cases h21 : op = 21
      · obtain ⟨r, S1, S2, vc', dc', e1, e2, R'⟩ := two (fun C M R => ok_ask R y1 y2) R
        rw [if_pos h21, zd_t z1, zd_t z2, zd_t zo_0, e1, zca_some, zd_t zo_143, e2, zca_some, if_pos rfl, zbd_e]
        exact ih R'
      rw [if_neg h21]
      by_cases h22 : op = 22
      · obtain ⟨r, S1, S2, vc', dc', e1, e2, R'⟩ := two (fun C M R => ok_trace R y1) R
        rw [if_pos h22, zd_t z1, zd_t zo_0, e1, zca_some, zd_t zo_143, e2, zca_some, if_pos rfl, zbd_e]
        exact ih R'
      rw [if_neg h22]
      by_cases h23 : op = 23
      · obtain ⟨r, S1, S2, vc', dc', e1, e2, R'⟩ := two (fun C M R => ok_count R y1) R
        rw [if_pos h23, zd_t z1, zd_t zo_0, e1, zca_some, zd_t zo_143, e2, zca_some, if_pos rfl, zbd_e]
        exact ih R'
      rw [if_neg h23]
      by_cases h24 : op = 24
      · obtain ⟨r, S1, S2, vc', dc', e1, e2, R'⟩ := two (fun C M R => ok_status R) R
        rw [if_pos h24, zd_t zo_0, e1, zca_some, zd_t zo_143, e2, zca_some, if_pos rfl, zbd_e]
        exact ih R'
      rw [if_neg h24]
      rw [zbd_e]
      exact ih R
end LOO
theorem fL_true (xs : Nat → Int32) (L : Nat) (hL : L ≤ 3072) : ∃ S' : zM, fL xs L (fun _ _ => 0) = some (1, S') := by
  obtain ⟨q1, h1, h1n⟩ : ∃ q, ini1 = some q ∧ q.1 = 143 := by
    have := ini1_n
    cases h : ini1 with
    | none => rw [h] at this; cases this
    | some q => rw [h] at this; exact ⟨q, rfl, Option.some.inj this⟩
  obtain ⟨n1, S1⟩ := q1
  obtain rfl : n1 = 143 := h1n
  obtain ⟨q2, h2, h2n⟩ : ∃ q, ini2 = some q ∧ q.1 = 167 := by
    have := ini2_n
    cases h : ini2 with
    | none => rw [h] at this; cases this
    | some q => rw [h] at this; exact ⟨q, rfl, Option.some.inj this⟩
  obtain ⟨n2, S2⟩ := q2
  obtain rfl : n2 = 167 := h2n
  have h3 : fX8_init (143 + 1) (znw S1 143) (nI 143) = some (167, S2) := by
    have e : ini2 = fX8_init (143 + 1) (znw S1 143) (nI 143) := by
      unfold ini2
      rw [h1, Option.bind_some]
    rw [← e, h2]
  have hS : iniS = S2 := by
    unfold iniS
    rw [h2]
    rfl
  have R := ini_R
  rw [hS] at R
  obtain ⟨S', hh⟩ := law_loop xs hL (L + 1) 0 S2 0 0 (by omega) (by omega) R
  refine ⟨S', ?_⟩
  have h1' : fX7_init (0 + 1) (znw (fun _ _ => 0) 0) (nI 0) = some (143, S1) := h1
  rw [fL, zd_t (by decide +kernel), zbd_e, zbd_e, zd_t (by decide), h1', zca_some, zbd_e, zd_t (by decide +kernel), zbd_e, zbd_e, zd_t (by decide), h3, zca_some, zbd_e, zbd_e]
  exact hh
