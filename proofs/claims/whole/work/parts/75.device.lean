/-- version's row of ails holds this sort -/
abbrev zai (y x : Int32) : Prop := ((y >>> (x &&& 31)) &&& 1 : Int32) = 1
theorem and1 (y : Int32) : y &&& 1 = 0 ∨ y &&& 1 = 1 := by
  obtain ⟨j, hj, e⟩ := pk_andE y (m := 1) 1 (by decide)
  rcases (show j = 0 ∨ j = 1 by omega) with rfl | rfl
  · exact Or.inl e
  · exact Or.inr e
section DVC
variable {C M C' M' : zM} {vc dc d v : Nat} {x y : Int32}
theorem c_ails (hv : v < 10) : fX6_ailsOn 167 C (nI (43 + v)) x = some (if zai (C (43 + v) 3) x then 1 else 0, C) := by
  rw [fX6_ailsOn, zd_t (zo_ver hv), zg_n (by omega)]
  by_cases h : zai (C (43 + v) 3) x
  · rw [if_pos h, if_neg (by rw [show _ = _ from h]; decide)]
  · rw [if_neg h, if_pos ((and1 _).resolve_right h)]
theorem m_ails (Q : PM M) (hv : v < 10) : fX8_isAiling 167 M (nI 143) (nI v) x = some (if zai (M 149 v) x then 1 else 0, M) := by
  rw [fX8_isAiling, zd_t zo_143, show zg M (nI 143) 8 = nI 149 from Q.m8, zd_t (za_149 hv), ze_n (by decide) (by omega)]
  by_cases h : zai (M 149 v) x
  · rw [if_pos h, if_pos h]
  · rw [if_neg h, if_neg h]
def nwC (C : zM) (d k v bl f : Nat) (h' : Int32) : zM := zup (zup (zup (zup (zup (zup C (53 + 3 * d) 1 (nI k)) (53 + 3 * d) 2 h') (53 + 3 * d + 1) 0 (nI (43 + v))) (53 + 3 * d + 1) 1 (nI bl)) (53 + 3 * d) 8 (nI f)) 0 5 (nI (d + 1))
def nwM (M : zM) (d k v bl f : Nat) (h : Int32) : zM := zup (zup (zup (zup (zup (zup (zup (zup (zup M 154 d (nI k)) 155 d h) 156 d 0) 157 (2 * d) (nI v)) 158 (2 * d) (nI bl)) 157 (2 * d + 1) (-1000000)) 158 (2 * d + 1) 0) 161 d (nI f)) 143 13 (nI (d + 1))
theorem nwC_off {k bl f a j : Nat} {h : Int32} (q : ¬ (a = 0 ∧ j = 5) ∧ ¬ (a = 53 + 3 * d ∧ (j = 1 ∨ j = 2 ∨ j = 8)) ∧ ¬ (a = 53 + 3 * d + 1 ∧ j ≤ 1)) : nwC C d k v bl f h a j = C a j := by
  unfold nwC
  rw [zup_off (by omega), zup_off (by omega), zup_off (by omega), zup_off (by omega), zup_off (by omega), zup_off (by omega)]
theorem nwM_off {k bl f a j : Nat} {h : Int32} (q : ¬ (a = 143 ∧ j = 13) ∧ ¬ ((a = 154 ∨ a = 155 ∨ a = 156 ∨ a = 161) ∧ j = d) ∧ ¬ ((a = 157 ∨ a = 158) ∧ (j = 2 * d ∨ j = 2 * d + 1))) : nwM M d k v bl f h a j = M a j := by
  unfold nwM
  rw [zup_off (by omega), zup_off (by omega), zup_off (by omega), zup_off (by omega), zup_off (by omega), zup_off (by omega), zup_off (by omega), zup_off (by omega), zup_off (by omega)]
theorem c_new (P : PC C) (hd : d < 30) (hv : v < 10) {k bl f : Nat} {h : Int32} (h3 : C (53 + 3 * d) 3 = nI (53 + 3 * d + 1)) (cd : C 0 5 = nI d) (c1 : C (43 + v) 1 = nI bl) (c2 : C (43 + v) 2 = nI f) : fX7_device_95 167 C (nI 0) h (nI (43 + v)) (nI k) (nI (53 + 3 * d)) = some (nI d, nwC C d k v bl f h) := by
  unfold nwC
  have hz : zo 167 14 (nI (53 + 3 * d + 1)) = true := zo_slp hd (Or.inl rfl)
  rw [fX7_device_95, zd_t (zo_dev hd), fX2_arrive, zd_t (zo_dev hd), zbd_e, zp_n (by omega), zbd_e, zp_n (by omega), zd_t (zo_ver hv), zg_n (by omega), zup_off (by omega), zup_off (by omega), h3, zd_t hz, zg_n (by omega), zup_off (by omega), zup_off (by omega), c1, fX4_fill, zd_t hz, zbd_e, zp_n (by omega), zbd_e, zp_n (by omega), zca_some, zbd_e, zg_n (by omega), zup_off (by omega), zup_off (by omega), zup_off (by omega), zup_off (by omega), c2, zp_n (by omega), zca_some, zd_t zo_0, zbd_e, zp_n (by decide), zg_n (by decide), zg_n (by decide), zup_s, zup_off (by omega), zup_off (by omega), zup_off (by omega), zup_off (by omega), zup_off (by omega), cd, nI_1, nI_pred]
theorem m_new (Q : PM M) (hd : d < 30) (hv : v < 10) {k bl f : Nat} {h : Int32} (md : M 143 13 = nI d) (m1 : M 147 v = nI bl) (m2 : M 148 v = nI f) (na : ¬ zai (M 149 v) (nI k)) : fX8_device_42 167 M (nI 143) (nI k) (nI v) h = some (nI d, nwM M d k v bl f h) := by
  have q1 : ∀ y, PM (zup M 154 d y) := fun y => Q.up (fun q => by omega)
  have q2 : ∀ y z, PM (zup (zup M 154 d y) 155 d z) := fun y z => (q1 y).up (fun q => by omega)
  have q3 : ∀ y z w, PM (zup (zup (zup M 154 d y) 155 d z) 156 d w) := fun y z w => (q2 y z).up (fun q => by omega)
  have q4 : ∀ y z w a, PM (zup (zup (zup (zup M 154 d y) 155 d z) 156 d w) 157 (2 * d) a) := fun y z w a => (q3 y z w).up (fun q => by omega)
  have q5 : ∀ y z w a b, PM (zup (zup (zup (zup (zup M 154 d y) 155 d z) 156 d w) 157 (2 * d) a) 158 (2 * d) b) := fun y z w a b => (q4 y z w a).up (fun q => by omega)
  have q6 : ∀ y z w a b c, PM (zup (zup (zup (zup (zup (zup M 154 d y) 155 d z) 156 d w) 157 (2 * d) a) 158 (2 * d) b) 157 (2 * d + 1) c) := fun y z w a b c => (q5 y z w a b).up (fun q => by omega)
  have q7 : ∀ y z w a b c e, PM (zup (zup (zup (zup (zup (zup (zup M 154 d y) 155 d z) 156 d w) 157 (2 * d) a) 158 (2 * d) b) 157 (2 * d + 1) c) 158 (2 * d + 1) e) := fun y z w a b c e => (q6 y z w a b c).up (fun q => by omega)
  have two : (2 : Int32) * nI d = nI (2 * d) := by rw [show (2 : Int32) = nI 2 from rfl, pk_mul]
  unfold nwM
  rw [fX8_device_42, zd_t zo_143, m_ails Q hv, if_neg na, zca_some, if_pos rfl, zg_n (by decide), md, if_neg (show ¬ nI d = 30 from fun q => by have := (nI_eq (a := d) (b := 30) (by omega) (by decide)).mp q; omega), zbd_e, show zg M (nI 143) 14 = nI 154 from Q.m14, zd_t (za_154 hd), zbd_e, zq_n (by decide) (by omega),
    show zg (zup M 154 d (nI k)) (nI 143) 15 = nI 155 from (q1 _).m15, zd_t (za_155 hd), zbd_e, zq_n (by decide) (by omega),
    show zg (zup (zup M 154 d (nI k)) 155 d h) (nI 143) 16 = nI 156 from (q2 _ _).m16, zd_t (za_156 hd), zbd_e, zq_n (by decide) (by omega),
    show zg (zup (zup (zup M 154 d (nI k)) 155 d h) 156 d 0) (nI 143) 17 = nI 157 from (q3 _ _ _).m17, two, zd_t (za_157 (by omega)), zbd_e, zq_n (by decide) (by omega),
    show zg (zup (zup (zup (zup M 154 d (nI k)) 155 d h) 156 d 0) 157 (2 * d) (nI v)) (nI 143) 6 = nI 147 from (q4 _ _ _ _).m6, zd_t (za_147 hv),
    show zg (zup (zup (zup (zup M 154 d (nI k)) 155 d h) 156 d 0) 157 (2 * d) (nI v)) (nI 143) 18 = nI 158 from (q4 _ _ _ _).m18, zd_t (za_158 (by omega)), zbd_e, ze_n (by decide) (by omega), zup_off (by omega), zup_off (by omega), zup_off (by omega), zup_off (by omega), m1, zq_n (by decide) (by omega),
    show zg (zup (zup (zup (zup (zup M 154 d (nI k)) 155 d h) 156 d 0) 157 (2 * d) (nI v)) 158 (2 * d) (nI bl)) (nI 143) 17 = nI 157 from (q5 _ _ _ _ _).m17, nI_1, zd_t (za_157 (by omega)), zbd_e, zq_n (by decide) (by omega),
    show zg (zup (zup (zup (zup (zup (zup M 154 d (nI k)) 155 d h) 156 d 0) 157 (2 * d) (nI v)) 158 (2 * d) (nI bl)) 157 (2 * d + 1) (-1000000)) (nI 143) 18 = nI 158 from (q6 _ _ _ _ _ _).m18, zd_t (za_158 (by omega)), zbd_e, zq_n (by decide) (by omega),
    show zg (zup (zup (zup (zup (zup (zup (zup M 154 d (nI k)) 155 d h) 156 d 0) 157 (2 * d) (nI v)) 158 (2 * d) (nI bl)) 157 (2 * d + 1) (-1000000)) 158 (2 * d + 1) 0) (nI 143) 7 = nI 148 from (q7 _ _ _ _ _ _ _).m7, zd_t (za_148 hv),
    show zg (zup (zup (zup (zup (zup (zup (zup M 154 d (nI k)) 155 d h) 156 d 0) 157 (2 * d) (nI v)) 158 (2 * d) (nI bl)) 157 (2 * d + 1) (-1000000)) 158 (2 * d + 1) 0) (nI 143) 21 = nI 161 from (q7 _ _ _ _ _ _ _).m21, zd_t (za_161 hd), zbd_e, ze_n (by decide) (by omega), zup_off (by omega), zup_off (by omega), zup_off (by omega), zup_off (by omega), zup_off (by omega), zup_off (by omega), zup_off (by omega), m2, zq_n (by decide) (by omega), zbd_e, zp_n (by decide), zg_n (by decide), zup_off (by omega), zup_off (by omega), zup_off (by omega), zup_off (by omega), zup_off (by omega), zup_off (by omega), zup_off (by omega), zup_off (by omega), md, nI_1]
theorem R2.dev (R : R2 vc dc C M) (hd : dc < 30) (hv : v < vc) {k bl f : Nat} {h' h : Int32} (hk : k < 8) (hf : f ≤ v) (hh : (h' = -1 ∧ h = -1000000) ∨ ∃ i, i < dc ∧ h' = nI (53 + 3 * i) ∧ h = nI i) : R2 vc (dc + 1) (nwC C dc k v bl f h') (nwM M dc k v bl f h) := by
  obtain ⟨P, Q, r3, r4, r5, r6, r7, ⟨hdc, cd, md, d1, d0⟩, r9, r10⟩ := R
  have fc : ∀ {a j}, ¬ (a = 0 ∧ j = 5) ∧ ¬ (a = 53 + 3 * dc ∧ (j = 1 ∨ j = 2 ∨ j = 8)) ∧ ¬ (a = 53 + 3 * dc + 1 ∧ j ≤ 1) → nwC C dc k v bl f h' a j = C a j := nwC_off
  have fm : ∀ {a j}, ¬ (a = 143 ∧ j = 13) ∧ ¬ ((a = 154 ∨ a = 155 ∨ a = 156 ∨ a = 161) ∧ j = dc) ∧ ¬ ((a = 157 ∨ a = 158) ∧ (j = 2 * dc ∨ j = 2 * dc + 1)) → nwM M dc k v bl f h a j = M a j := nwM_off
  have z1 : ∀ j, j ≠ 0 → zp0 (53 + 3 * dc) j = none := fun j hj => zp0_big (by omega) hj
  have z2 : ∀ j, zp0 (53 + 3 * dc + 1) j = none := fun j => by
    unfold zp0
    rw [if_neg (by omega), if_neg (by omega), if_neg (by omega), if_neg (by omega), if_neg (by omega), if_neg (by omega), if_neg (by omega), if_neg (by omega), if_neg (by omega), if_neg (by omega), if_neg (by omega)]
  have PP : PC (nwC C dc k v bl f h') := (((((P.up (z1 1 (by decide))).up (z1 2 (by decide))).up (z2 0)).up (z2 1)).up (z1 8 (by decide))).up rfl
  have QQ : PM (nwM M dc k v bl f h) := Q.of fun j hj => fm ⟨fun q => hj (by rw [q.2]; rfl), by omega, by omega⟩
  refine ⟨PP, QQ, r3.fr (fc (by omega)) (fc (by omega)) (fm (by omega)) (fm (by omega)), r4.fr (fun _ _ _ _ => fc (by omega)) (fun _ _ _ _ => fm (by omega)), r5.fr (fc (by omega)) (fun _ _ _ _ => fc (by omega)) (fm (by omega)) (fun _ _ _ _ => fm (by omega)), r6.fr (fc (by omega)) (fun _ _ _ _ => fc (by omega)) (fun _ => fm (by omega)), r7.fr (fc (by omega)) (fc (by omega)), ⟨by omega, ?_, ?_, fun d hdd => ?_, fun d hd1 hd2 => (d0 d (by omega) hd2).fr (fun j => fc (by omega)) (fun j => fc (by omega)) (fm (by omega)) (fm (by omega)) (fm (by omega))⟩, r9.fr (fun _ _ _ _ => fc (by omega)) (fun _ _ _ => fm (by omega)) (fun _ _ _ _ => fm (by omega)), r10.fr (fun _ _ _ _ => fc (by omega)) (fm (by omega)) (fun _ => fm (by omega))⟩
  · unfold nwC
    rw [zup_s]
  · unfold nwM
    rw [zup_s]
  · by_cases e : d = dc
    · subst e
      obtain ⟨g3, g4, g5, g6, g7, g9, g10, g20, g21, m9, m12, m13⟩ := d0 d (by omega) hd
      refine ⟨1, 0, k, v, f, Or.inl rfl, Or.inl rfl, hk, hv, hf, ?_, ?_, ?_, ?_, ?_, ?_, ?_, ?_, ?_, ?_, ?_, ?_, ?_, ?_, ?_, ?_, ?_, Or.inl ⟨?_, ?_⟩, ?_⟩
      · rw [fc (by omega), g3]
      · rw [fc (by omega), g4]
      · rw [fc (by omega), g5]
        rfl
      · unfold nwM
        rw [zup_off (by omega), zup_off (by omega), zup_off (by omega), zup_off (by omega), zup_off (by omega), zup_off (by omega), zup_s]
        rfl
      · rw [fc (by omega), g6]
      · rw [fm (by omega), m9]
      · rw [fc (by omega), g7]
      · unfold nwC
        rw [zup_off (by omega), zup_off (by omega), zup_off (by omega), zup_off (by omega), zup_off (by omega), zup_s]
      · unfold nwM
        rw [zup_off (by omega), zup_off (by omega), zup_off (by omega), zup_off (by omega), zup_off (by omega), zup_off (by omega), zup_off (by omega), zup_off (by omega), zup_s]
      · unfold nwM nwC
        rw [zup_off (by omega), zup_off (by omega), zup_off (by omega), zup_off (by omega), zup_s, zup_off (by omega), zup_off (by omega), zup_off (by omega), zup_off (by omega), zup_off (by omega), zup_off (by omega), zup_off (by omega), zup_s]
        exact hh
      · rw [fc (by omega), g9, fm (by omega), m12]
      · rw [fc (by omega), g10, fm (by omega), m13]
      · unfold nwC
        rw [zup_off (by omega), zup_s]
      · unfold nwM
        rw [zup_off (by omega), zup_s]
      · unfold nwC
        rw [zup_off (by omega), zup_off (by omega), zup_off (by omega), zup_s]
      · unfold nwM
        rw [zup_off (by omega), zup_off (by omega), zup_off (by omega), zup_off (by omega), zup_off (by omega), Nat.add_zero, zup_s]
      · unfold nwM nwC
        rw [zup_off (by omega), zup_off (by omega), zup_s, zup_off (by omega), zup_off (by omega), zup_off (by omega), zup_off (by omega)]
        exact zup_s.symm
      · rw [fc (by omega)]
        exact g20
      · unfold nwM
        rw [zup_off (by omega), zup_off (by omega), zup_off (by omega), zup_s]
      · rw [fc (by omega)]
        refine g21.trans ?_
        unfold nwM
        rw [zup_off (by omega), zup_off (by omega), zup_s]
    · exact (d1 d (by omega)).fr (fun j => fc (by omega)) (fun j => fc (by omega)) (fun j => fc (by omega)) (fun a q1 q2 q3 => by
        by_cases w : a = 157 ∨ a = 158
        · exact Or.inr w
        · exact Or.inl (fm (by omega))) (fun a o q1 q2 => fm (by omega))
theorem nwC_fc {k bl f : Nat} {h : Int32} (hd : d < 30) : FC C (nwC C d k v bl f h) := fun a ha => funext fun j => nwC_off (by omega)
theorem nwM_fm {k bl f : Nat} {h : Int32} : FM M (nwM M d k v bl f h) := fun a ha => funext fun j => nwM_off (by omega)
theorem ok_device (R : R2 vc dc C M) (s x h : Int32) : Same (fX7_device 167 C (nI 0) s x h) (fX8_device 167 M (nI 143) s x h) C M := by
  have P := R.1
  have RR := R.thrown 0
  obtain ⟨-, Q, -, -, ⟨hvc, cv, mv, vs⟩, -, -, ⟨hdc, cd, md, -, d0⟩, -, -⟩ := R.thrown 0
  by_cases h1 : zin s 8
  · have g1 : ¬ s < 0 := by rw [zlt0]; unfold zin at h1; omega
    have g2 : ¬ 8 ≤ s := by rw [ile]; exact Int.not_le.mpr h1.2
    have n1 : ∀ S, fX8_in 167 S s.toInt64 0 7 = some (1, S) := fun S => in_i (by rw [z64]; exact h1.1) (by rw [z64]; exact Int.lt_add_one_iff.mp h1.2)
    by_cases h2 : zin x vc
    · -- what comes after the checks
      have eC : fX7_device 167 C (nI 0) s x h = if h = -1000000 then fX7_device_35 167 C (nI 0) s x h else zca (fX7_isDevice 167 C (nI 0) h) fun r9 S10 => if r9 = 0 then some (-1000001, S10) else fX7_device_35 167 S10 (nI 0) s x h := by
        rw [fX7_device, if_neg g1, if_neg g2, zd_t zo_0, cVe_i cv hvc h2, zca_some, if_neg ne10]
      have eM : fX8_device 167 M (nI 143) s x h = if h = -1000000 then fX8_device_42 167 (zup M 143 0 0) (nI 143) s x h else zca (fX8_isDevice 167 (zup M 143 0 0) (nI 143) h) fun r13 S14 => if r13 = 0 then some (-1000001, S14) else fX8_device_42 167 S14 (nI 143) s x h := by
        rw [fX8_device, zd_t zo_143, zbd_e, zp_n (by decide), n1, zca_some, if_neg ne10, mVe_i mv hvc h2, zca_some, if_neg ne10]
      obtain ⟨v, hv, rfl⟩ := zin_ex (by omega) h2
      obtain ⟨k, hk, rfl⟩ := zin_ex (by omega) h1
      obtain ⟨bl, f, hb1, hb2, hf, c1, m1, c2, m2, c3⟩ := vs v hv
      have main : ((h = -1000000) ∨ ∃ i, i < dc ∧ h = nI i) → Same (fX7_device_35 167 C (nI 0) (nI k) (nI v) h) (fX8_device_42 167 (zup M 143 0 0) (nI 143) (nI k) (nI v) h) C M := fun hh => by
        have e35 : fX7_device_35 167 C (nI 0) (nI k) (nI v) h = if zai (C (43 + v) 3) (nI k) then some (-1000002, C) else if nI dc < 30 then zd (za 167 4 (nI 18) (nI dc)) <| zd (za 167 3 (nI 2) (nI v)) <| if h = -1000000 then fX7_device_95 167 C (nI 0) (-1) (nI (43 + v)) (nI k) (ze C (nI 18) (nI dc)) else (zd (za 167 4 (nI 18) h) <| fX7_device_95 167 C (nI 0) (ze C (nI 18) h) (nI (43 + v)) (nI k) (ze C (nI 18) (nI dc))) else some (-1000003, C) := by
          rw [fX7_device_35, zd_t zo_0, show zg C (nI 0) 1 = nI 2 from P.c01, zd_t (za_2 (by omega)), ze_n (by decide) (by omega), P.v (by omega), zd_t (zo_ver (by omega)), c_ails (by omega), zca_some, zg_n (by decide), cd, show zg C (nI 0) 4 = nI 18 from P.c04]
          by_cases w : zai (C (43 + v) 3) (nI k)
          · rw [if_pos w, if_pos w, if_neg ne10]
          · rw [if_neg w, if_neg w, if_pos rfl, show zg C (nI 0) 1 = nI 2 from P.c01, show ze C (nI 2) (nI v) = nI (43 + v) from (ze_n (by decide) (by omega)).trans (P.v (by omega))]
        rw [e35]
        by_cases w : zai (C (43 + v) 3) (nI k)
        · refine bad_same R (r := -1000002) (by rw [if_pos w]) ?_
          rw [c3] at w
          rw [fX8_device_42, zd_t zo_143, m_ails Q (by omega), if_pos w, zca_some, if_neg ne10]
        · rw [if_neg w]
          by_cases w2 : dc = 30
          · subst w2
            refine bad_same R (r := -1000003) (by rw [if_neg (by decide)]) ?_
            rw [c3] at w
            rw [fX8_device_42, zd_t zo_143, m_ails Q (by omega), if_neg w, zca_some, if_pos rfl, zg_n (by decide), md, if_pos (show nI 30 = 30 from rfl)]
          · have hd30 : dc < 30 := by omega
            obtain ⟨g3, -⟩ := d0 dc (by omega) hd30
            rw [if_pos (show nI dc < 30 from nI_lt (b := 30) hd30 (by decide)), zd_t (za_18 hd30), zd_t (za_2 (by omega)), ze_n (by decide) (by omega), P.d hd30]
            have eM2 := m_new (k := k) (h := h) Q hd30 (by omega) md m1 m2 (by rw [← c3]; exact w)
            rcases hh with hh | ⟨i, hi, hh⟩
            · refine ⟨_, _, _, vc, dc + 1, ?_, eM2, RR.dev hd30 hv hk hf (Or.inl ⟨rfl, hh⟩), nwC_fc hd30, (FM.rf.up (by decide)).tr nwM_fm⟩
              rw [if_pos hh, c_new P hd30 (by omega) g3 cd c1 c2]
            · refine ⟨_, _, _, vc, dc + 1, ?_, eM2, RR.dev hd30 hv hk hf (Or.inr ⟨i, hi, rfl, hh⟩), nwC_fc hd30, (FM.rf.up (by decide)).tr nwM_fm⟩
              rw [hh, if_neg (nne6 (by omega)), zd_t (za_18 (by omega)), ze_n (by decide) (by omega), P.d (by omega), c_new P hd30 (by omega) g3 cd c1 c2]
      by_cases w : h = -1000000
      · rw [eC, eM, if_pos w, if_pos w]
        exact main (Or.inl w)
      · rw [eC, eM, if_neg w, if_neg w]
        by_cases w2 : zin h dc
        · rw [cDe_i cd hdc w2, zca_some, if_neg ne10, mDe_i md hdc w2, zca_some, if_neg ne10]
          exact main (Or.inr (zin_ex (by omega) w2))
        · refine bad_same R (r := -1000001) ?_ ?_
          · rw [cDe_o cd hdc w2, zca_some, if_pos rfl]
          · rw [mDe_o md hdc w2, zca_some, if_pos rfl]
    · refine bad_same R (r := -1000001) ?_ ?_
      · rw [fX7_device, if_neg g1, if_neg g2, zd_t zo_0, cVe_o cv hvc h2, zca_some, if_pos rfl]
      · rw [fX8_device, zd_t zo_143, zbd_e, zp_n (by decide), n1, zca_some, if_neg ne10, mVe_o mv hvc h2, zca_some, if_pos rfl]
  · refine bad_same R (r := -1000001) ?_ ?_
    · rw [fX7_device]
      by_cases w : s < 0
      · rw [if_pos w]
      · rw [if_neg w, if_pos (by rw [ile]; rw [zlt0] at w; unfold zin at h1; show 8 ≤ s.toInt; omega)]
    · rw [fX8_device, zd_t zo_143, zbd_e, zp_n (by decide), in_o (by rw [z64]; show s.toInt < 0 ∨ 7 < s.toInt; unfold zin at h1; omega), zca_some, if_pos rfl]
end DVC
