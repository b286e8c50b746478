theorem zp0_19 {a j : Nat} (h : 19 ≤ a) (h2 : a ≤ 21) : zp0 a j = none := by
  unfold zp0
  rw [if_neg (by omega), if_neg (by omega), if_neg (by omega), if_neg (by omega), if_neg (by omega), if_neg (by omega), if_neg (by omega), if_neg (by omega), if_neg (by omega), if_neg (by omega), if_neg (by omega)]
def GM (d : Nat) (M M' : zM) : Prop := ∀ a j, ((a < 156 ∨ 163 < a) ∨ ((a = 157 ∨ a = 158) ∧ j ≠ 2 * d ∧ j ≠ 2 * d + 1) ∨ (a ≠ 157 ∧ a ≠ 158 ∧ j ≠ d)) → M' a j = M a j
def GC (d : Nat) (C C' : zM) : Prop := ∀ a j, ¬ (19 ≤ a ∧ a ≤ 21) → (¬ (53 + 3 * d ≤ a ∧ a ≤ 53 + 3 * d + 2) ∨ (a = 53 + 3 * d ∧ j < 3)) → C' a j = C a j
section UPD
variable {C M C' M' E : zM} {vc dc d v D p k o f t y s w bl fl o0 v0 f0 i p' N : Nat} {a b A a0 : Int32}
theorem FD.gc (h : FD (53 + 3 * d) C C') : GC d C C' := fun a j _ q => h a j (by omega)
theorem FMd.gm (h : FMd d M M') : GM d M M' := fun a j q => h a j (by omega)
theorem GC.tr (h : GC d C C') (h2 : GC d C' E) : GC d C E := fun a j q r => (h2 a j q r).trans (h a j q r)
theorem GM.tr (h : GM d M M') (h2 : GM d M' E) : GM d M E := fun a j q => (h2 a j q).trans (h a j q)
theorem GC.fc (h : GC d C C') (hd : d < 30) : FC C C' := fun a ha => funext fun j => h a j (by omega) (by omega)
theorem GM.fm (h : GM d M M') : FM M M' := fun a ha => funext fun j => h a j (by omega)
theorem GC.pc (h : GC d C C') (hd : d < 30) (P : PC C) : PC C' := P.of fun a j q => h a j (fun w => q (zp0_19 w.1 w.2)) (by
  by_cases w : 53 + 3 * d ≤ a ∧ a ≤ 53 + 3 * d + 2
  · by_cases w2 : a = 53 + 3 * d ∧ j < 3
    · exact Or.inr w2
    · exact absurd ((OD_dev hd).2.2.2.2 a j w.1 w.2 w2) q
  · exact Or.inl w)
theorem GM.pm (h : GM d M M') (Q : PM M) : PM M' := Q.of fun j _ => h 143 j (Or.inl (Or.inl (by omega)))
theorem R2.run (R : R2 vc dc C M) (hd : d < dc) (fc : GC d C C') (fm : GM d M M') (hs : RSI C') (h : RD1 vc C' M' d) : R2 vc dc C' M' := by
  obtain ⟨P, Q, r3, r4, r5, r6, r7, ⟨hdc, cd, md, d1, d0⟩, r9, r10⟩ := R
  refine ⟨fc.pc (by omega) P, fm.pm Q, r3.fr (fc _ _ (by omega) (by omega)) (fc _ _ (by omega) (by omega)) (fm _ _ (by omega)) (fm _ _ (by omega)), r4.fr (fun _ _ _ _ => fc _ _ (by omega) (by omega)) (fun _ _ _ _ => fm _ _ (by omega)), r5.fr (fc _ _ (by omega) (by omega)) (fun _ _ _ _ => fc _ _ (by omega) (by omega)) (fm _ _ (by omega)) (fun _ _ _ _ => fm _ _ (by omega)), r6.fr (fc _ _ (by omega) (by omega)) (fun _ _ _ _ => fc _ _ (by omega) (by omega)) (fun _ => fm _ _ (by omega)), hs, ⟨hdc, ?_, ?_, fun i hi => ?_, fun i hi1 hi2 => (d0 i hi1 hi2).fr (fun j => fc _ _ (by omega) (by omega)) (fun j => fc _ _ (by omega) (by omega)) (fm _ _ (by omega)) (fm _ _ (by omega)) (fm _ _ (by omega))⟩, r9.fr (fun _ _ _ _ => fc _ _ (by omega) (by omega)) (fun _ _ _ => fm _ _ (by omega)) (fun _ _ _ _ => fm _ _ (by omega)), r10.fr (fun _ _ _ _ => fc _ _ (by omega) (by omega)) (fm _ _ (by omega)) (fun _ => fm _ _ (by omega))⟩
  · rw [fc _ _ (by omega) (by omega)]; exact cd
  · rw [fm _ _ (by omega)]; exact md
  · by_cases e : i = d
    · subst e
      exact h
    · exact (d1 i hi).fr (fun j => fc _ _ (by omega) (by omega)) (fun j => fc _ _ (by omega) (by omega)) (fun j => fc _ _ (by omega) (by omega)) (fun a q1 q2 q3 => by
        by_cases w : a = 157 ∨ a = 158
        · exact Or.inr w
        · exact Or.inl (fm _ _ (by omega))) (fun a o q1 q2 => fm _ _ (by omega))
/-- the one that stands in, and the tries of one that is not tried -/
theorem R2.side (R : R2 vc dc C M) (fc : ∀ a j, ¬ (19 ≤ a ∧ a ≤ 21) → C' a j = C a j) (hs : RSI C') (fm : ∀ a j, a ≠ 160 → M' a j = M a j) : R2 vc dc C' M' := by
  obtain ⟨P, Q, r3, r4, r5, r6, r7, r8, r9, r10⟩ := R
  refine ⟨P.of fun a j q => fc a j (fun w => ?_), Q.of fun j _ => fm 143 j (by decide), r3.fr ?_ ?_ ?_ ?_, r4.fr ?_ ?_, r5.fr ?_ ?_ ?_ ?_, r6.fr ?_ ?_ ?_, hs, r8.fr ?_ ?_ ?_ ?_, r9.fr ?_ ?_ ?_, r10.fr ?_ ?_ ?_⟩
  · exact q (zp0_19 w.1 w.2)
  all_goals first | (intros; exact fc _ _ (by omega)) | (intros; exact fm _ _ (by omega))
theorem rd_jx (hd : d < 30) (h : RD1 vc C M d) : ∃ k o0 v0 f0 a0, k < 8 ∧ o0 ≤ 1 ∧ v0 < vc ∧ f0 ≤ v0 ∧ M 154 d = nI k ∧ M 156 d = nI o0 ∧ M 157 (2 * d + o0) = nI v0 ∧ M 158 (2 * d + o0) = a0 ∧ M 161 d = nI f0 ∧ M 159 d = 0 ∧ (∃ p, (p = 1 ∨ p = 2) ∧ C (53 + 3 * d) 3 = nI (53 + 3 * d + p) ∧ C (53 + 3 * d) 4 = nI (53 + 3 * d + (3 - p)) ∧ C (53 + 3 * d + p) 0 = nI (43 + v0)) ∧ ∀ w bl fl A, JX vc (53 + 3 * d) d k w bl fl A o0 v0 f0 a0 0 C M := by
  obtain ⟨p, o, k, v, f, hp, ho, hk, hv, hf, a3, a4, a5, b5, a6, b6, a7, a1, b1, hh, a9, a10, a8, b8, s0, t0, s1, sp, sq⟩ := h
  refine ⟨k, o, v, f, M 158 (2 * d + o), hk, by omega, hv, hf, b1, b5, t0, rfl, b8, b6, ⟨p, hp, a3, a4, s0⟩, fun w bl fl A => ?_⟩
  rcases sp with ⟨e1, e2⟩ | ⟨u, hu, e1, e2⟩
  · exact ⟨p, o, v, f, 0, 0, 0, _, _, hp, by omega, hv, hf, by omega, ⟨a1, a3, a4, a5, a6, a7, a8, s0, s1, by rw [e1, if_pos rfl], sq⟩, ⟨b1, b5, t0, rfl, by rw [e2, if_pos rfl], rfl, b8, b6, fun q => by omega⟩, Or.inl ⟨by omega, rfl, rfl, rfl, rfl, rfl, rfl, fun q => by omega⟩⟩
  · exact ⟨p, o, v, f, 0, 0, u + 1, _, _, hp, by omega, hv, hf, by omega, ⟨a1, a3, a4, a5, a6, a7, a8, s0, s1, by rw [e1, if_neg (by omega), show 42 + (u + 1) = 43 + u by omega], sq⟩, ⟨b1, b5, t0, rfl, by rw [e2, if_neg (by omega), show u + 1 - 1 = u by omega], rfl, b8, b6, fun q => by omega⟩, Or.inl ⟨by omega, rfl, rfl, rfl, rfl, rfl, rfl, fun q => by omega⟩⟩
theorem JX.t0 (hi : i ≤ bl + 1 ∨ i = zA bl A k) (h : JX vc D d k w bl fl A o0 v0 f0 a0 i C M) : ∃ p o v f s : Nat, ∃ b a : Int32, (p = 1 ∨ p = 2) ∧ o ≤ 1 ∧ v < vc ∧ f ≤ v ∧ s ≤ vc ∧ CX C D p k o v f 0 0 s b a ∧ MX M d k o v f 0 0 s b a ∧ (v = w ∨ v = v0) := by
  obtain ⟨p, o, v, f, t, y, s, b, a, hp, ho, hv, hf, hs2, hC, hM, h⟩ := h
  unfold zA at hi
  rcases h with ⟨-, -, e, -, -, rfl, rfl, -⟩ | ⟨q, hq, hi2, hqa, -⟩ | ⟨-, -, -, e, -, -, rfl, rfl, -⟩ | ⟨-, -, -, e, -, -, rfl, rfl, -⟩
  · exact ⟨p, o, v, f, s, b, a, hp, ho, hv, hf, hs2, hC, hM, Or.inr e⟩
  · exfalso
    by_cases ha : zai A (nI k)
    · rw [if_pos ha] at hi; omega
    · rw [if_neg ha] at hi
      have := hqa.resolve_right ha
      omega
  · exact ⟨p, o, v, f, s, b, a, hp, ho, hv, hf, hs2, hC, hM, Or.inr e⟩
  · exact ⟨p, o, v, f, s, b, a, hp, ho, hv, hf, hs2, hC, hM, Or.inl e⟩
theorem jx_rd (hk : k < 8) (hi : i ≤ bl + 1 ∨ i = zA bl A k) (h : JX vc (53 + 3 * d) d k w bl fl A o0 v0 f0 a0 i C M) (hh : (C (53 + 3 * d) 2 = -1 ∧ M 155 d = -1000000) ∨ ∃ h, h < d ∧ C (53 + 3 * d) 2 = nI (53 + 3 * h) ∧ M 155 d = nI h) (h9 : C (53 + 3 * d) 9 = M 162 d) (h10 : C (53 + 3 * d) 10 = M 163 d) : RD1 vc C M d := by
  obtain ⟨p, o, v, f, s, b, a, hp, ho, hv, hf, hs, ⟨c1, c3, c4, c5, c6, c7, c8, g0, g1, g2, g3⟩, ⟨m1, m2, m3, m4, m5, m6, m7, m8, -⟩, -⟩ := h.t0 hi
  refine ⟨p, o, k, v, f, hp, by omega, hk, hv, hf, c3, c4, c5, m2, c6, m8, c7, c1, m1, hh, h9, h10, c8, m7, g0, m3, by rw [g1, m4], ?_, by rw [g3, m6]⟩
  by_cases e : s = 0
  · rw [if_pos e] at g2 m5
    exact Or.inl ⟨g2, m5⟩
  · rw [if_neg e] at g2 m5
    exact Or.inr ⟨s - 1, by omega, by rw [g2, show 42 + s = 43 + (s - 1) by omega], m5⟩
theorem CX.fr (h : CX C D p k o v f t y s b a) (hp : p = 1 ∨ p = 2) (fc : ∀ a j, (a = D → 0 < j ∧ j < 9 ∧ j ≠ 2) → D ≤ a → a ≤ D + 2 → C' a j = C a j) : CX C' D p k o v f t y s b a := by
  unfold CX
  rw [fc D 1 (by omega) (by omega) (by omega), fc D 3 (by omega) (by omega) (by omega), fc D 4 (by omega) (by omega) (by omega), fc D 5 (by omega) (by omega) (by omega), fc D 6 (by omega) (by omega) (by omega), fc D 7 (by omega) (by omega) (by omega), fc D 8 (by omega) (by omega) (by omega), fc (D + p) 0 (by omega) (by omega) (by omega), fc (D + p) 1 (by omega) (by omega) (by omega), fc (D + (3 - p)) 0 (by omega) (by omega) (by omega), fc (D + (3 - p)) 1 (by omega) (by omega) (by omega)]
  exact h
theorem MX.fr (h : MX M d k o v f t y s b a) (fm : ∀ a j, 154 ≤ a → a ≤ 161 → M' a j = M a j) : MX M' d k o v f t y s b a := by
  unfold MX
  rw [fm 154 _ (by omega) (by omega), fm 156 _ (by omega) (by omega), fm 157 _ (by omega) (by omega), fm 158 _ (by omega) (by omega), fm 157 _ (by omega) (by omega), fm 158 _ (by omega) (by omega), fm 161 _ (by omega) (by omega), fm 159 _ (by omega) (by omega), fm 160 _ (by omega) (by omega)]
  exact h
theorem JX.fr (h : JX vc D d k w bl fl A o0 v0 f0 a0 i C M) (fc : ∀ a j, (a = D → 0 < j ∧ j < 9 ∧ j ≠ 2) → D ≤ a → a ≤ D + 2 → C' a j = C a j) (fm : ∀ a j, 154 ≤ a → a ≤ 161 → M' a j = M a j) : JX vc D d k w bl fl A o0 v0 f0 a0 i C' M' := by
  obtain ⟨p, o, v, f, t, y, s, b, a, hp, ho, hv, hf, hs2, hC, hM, h⟩ := h
  exact ⟨p, o, v, f, t, y, s, b, a, hp, ho, hv, hf, hs2, hC.fr hp fc, hM.fr fm, h⟩
/-- how an update ends, and what is counted then -/
theorem JX.ends (P : PC C) (Q : PM M) (hd : d < 30) (hw : w < vc) (hvc : vc ≤ 10) (cv : C 0 2 = nI vc) (mv : M 143 5 = nI vc) (hi : i ≤ bl + 1 ∨ i = zA bl A k) (h9 : C (53 + 3 * d) 9 = M 162 d) (h10 : C (53 + 3 * d) 10 = M 163 d) (h : JX vc (53 + 3 * d) d k w bl fl A o0 v0 f0 a0 i C M) : ∃ r C' M', fX7_noteEnd 167 C (nI 0) (nI (53 + 3 * d)) (nI (43 + w)) = some (r, C') ∧ fX8_ends 167 M (nI 143) (nI d) (nI w) = some (r, M') ∧ (r = 0 ∨ r = 1) ∧ JX vc (53 + 3 * d) d k w bl fl A o0 v0 f0 a0 i C' M' ∧ C' (53 + 3 * d) 9 = M' 162 d ∧ C' (53 + 3 * d) 10 = M' 163 d ∧ (∀ a j, ¬ (a = 53 + 3 * d ∧ (j = 9 ∨ j = 10)) → C' a j = C a j) ∧ ∀ a j, ¬ ((a = 162 ∨ a = 163) ∧ j = d) → M' a j = M a j := by
  obtain ⟨p, o, v, f, s, b, a, hp, ho, hv, hf, hs, ⟨c1, c3, c4, c5, c6, c7, c8, g0, g1, g2, g3⟩, ⟨m1, m2, m3, m4, m5, m6, m7, m8, -⟩, -⟩ := h.t0 hi
  have go : ∀ {r C' M'}, fX7_noteEnd 167 C (nI 0) (nI (53 + 3 * d)) (nI (43 + w)) = some (r, C') → fX8_ends 167 M (nI 143) (nI d) (nI w) = some (r, M') → (r = 0 ∨ r = 1) → C' (53 + 3 * d) 9 = M' 162 d → C' (53 + 3 * d) 10 = M' 163 d → (∀ a j, ¬ (a = 53 + 3 * d ∧ (j = 9 ∨ j = 10)) → C' a j = C a j) → (∀ a j, ¬ ((a = 162 ∨ a = 163) ∧ j = d) → M' a j = M a j) → ∃ r C' M', fX7_noteEnd 167 C (nI 0) (nI (53 + 3 * d)) (nI (43 + w)) = some (r, C') ∧ fX8_ends 167 M (nI 143) (nI d) (nI w) = some (r, M') ∧ (r = 0 ∨ r = 1) ∧ JX vc (53 + 3 * d) d k w bl fl A o0 v0 f0 a0 i C' M' ∧ C' (53 + 3 * d) 9 = M' 162 d ∧ C' (53 + 3 * d) 10 = M' 163 d ∧ (∀ a j, ¬ (a = 53 + 3 * d ∧ (j = 9 ∨ j = 10)) → C' a j = C a j) ∧ ∀ a j, ¬ ((a = 162 ∨ a = 163) ∧ j = d) → M' a j = M a j :=
    fun {r C' M'} e1 e2 hr q9 q10 fc fm => ⟨r, C', M', e1, e2, hr, h.fr (fun a j q1 q2 q3 => fc a j (by omega)) (fun a j q1 q2 => fm a j (by omega)), q9, q10, fc, fm⟩
  have eC : fX7_noteEnd 167 C (nI 0) (nI (53 + 3 * d)) (nI (43 + w)) = if nI v = nI w then fX7_noteEnd_19 167 C (nI 0) (nI (53 + 3 * d)) 1 else fX7_noteEnd_19 167 C (nI 0) (nI (53 + 3 * d)) 0 := by
    rw [fX7_noteEnd, zd_t (zo_dev hd), zg_n (by omega), c3, zd_t (zo_slp hd hp), c_vn P (zo_slp hd hp) (by omega) (by omega) g0, zca_some, zd_t (zo_ver (by omega)), zg_n (by omega), P.vn (by omega)]
  have eM : fX8_ends 167 M (nI 143) (nI d) (nI w) = if nI v = nI w then (if nI w = nI vc - 1 then zd (za 167 0 (nI 163) (nI d)) <| zbd (zup M 163 d 0) fun S11 => some (1, S11) else zd (za 167 0 (nI 163) (nI d)) <| zbd (zup M 163 d (M 163 d)) fun S8 => some (1, S8)) else zd (za 167 0 (nI 162) (nI d)) <| zbd (zup M 162 d (M 162 d + 1)) fun S14 => zd (za 167 0 (zg S14 (nI 143) 23) (nI d)) <| zbd (zq S14 (zg S14 (nI 143) 23) (nI d) ((ze S14 (zg S14 (nI 143) 23) (nI d)) + 1)) fun S17 => some (0, S17) := by
    rw [fX8_ends, zd_t zo_143, m_on Q hd (by omega) m2 m3, zca_some, zg_n (by decide), mv, show zg M (nI 143) 23 = nI 163 from Q.m23, show zg M (nI 143) 22 = nI 162 from Q.m22, zq_n (by decide) (by omega), zq_n (by decide) (by omega), zq_n (by decide) (by omega), ze_n (by decide) (by omega), ze_n (by decide) (by omega)]
  by_cases c : nI v = nI w
  · rw [if_pos c] at eC eM
    have hvw : v = w := (nI_eq (by omega) (by omega)).mp c
    subst hvw
    rw [fX7_noteEnd_19, zbd_e, if_neg ne10, zd_t zo_0, c_fresh (p := p) P (zo_dev hd) (by omega) (zo_slp hd hp) (by omega) c3 (by omega) g0 cv, zca_some] at eC
    by_cases c2 : nI v = nI vc - 1
    · rw [if_pos c2, if_neg ne10, zd_t (zo_dev hd), zp_n (by omega), zbd_e, zd_t bit1] at eC
      rw [if_pos c2, zd_t (za_163 hd), zbd_e] at eM
      refine go eC eM (Or.inr rfl) ?_ ?_ (fun a j q => zup_off (by omega)) (fun a j q => zup_off (by omega))
      · rw [zup_off (by omega), zup_off (by omega)]
        exact h9
      · rw [zup_s, zup_s]
    · rw [if_neg c2, if_pos rfl, zd_t bit1] at eC
      rw [if_neg c2, zd_t (za_163 hd), zbd_e] at eM
      refine go eC eM (Or.inr rfl) ?_ ?_ (fun a j q => rfl) (fun a j q => zup_off (by omega))
      · rw [zup_off (by omega)]
        exact h9
      · rw [zup_s]
        exact h10
  · rw [if_neg c] at eC eM
    have Q1 : PM (zup M 162 d (M 162 d + 1)) := Q.up (fun q => by omega)
    rw [fX7_noteEnd_19, zbd_e, if_pos rfl, zd_t (zo_dev hd), zg_n (by omega), zp_n (by omega), zbd_e, zg_n (by omega), zup_off (by omega), zp_n (by omega), zbd_e, zd_t bit0] at eC
    rw [zd_t (za_162 hd), zbd_e, show zg (zup M 162 d (M 162 d + 1)) (nI 143) 23 = nI 163 from Q1.m23, zd_t (za_163 hd), ze_n (by decide) (by omega), zup_off (by omega), zq_n (by decide) (by omega), zbd_e] at eM
    refine go eC eM (Or.inl rfl) ?_ ?_ (fun a j q => by rw [zup_off (by omega), zup_off (by omega)]) (fun a j q => by rw [zup_off (by omega), zup_off (by omega)])
    · rw [zup_off (by omega), zup_s, zup_off (by omega), zup_s, h9]
    · rw [zup_s, zup_s, h10]
theorem m_actsOf (Q : PM M) (hd : d < 30) (hw : w < 10) (hb : M 147 w = nI bl) (hA : M 149 w = A) (hk : M 154 d = nI k) : fX8_actsOf 167 M (nI 143) (nI d) (nI w) = some (nI (zA bl A k), M) := by
  rw [fX8_actsOf, zd_t zo_143, show zg M (nI 143) 6 = nI 147 from Q.m6, zd_t (za_147 hw), show zg M (nI 143) 14 = nI 154 from Q.m14, zd_t (za_154 hd), show ze M (nI 154) (nI d) = nI k from (ze_n (by decide) (by omega)).trans hk, m_ails Q hw, hA, zca_some, show ze M (nI 147) (nI w) = nI bl from (ze_n (by decide) (by omega)).trans hb]
  unfold zA
  by_cases ha : zai A (nI k)
  · rw [if_pos ha, if_pos ha, if_neg ne10, show nI bl + 2 = nI (bl + 2) from nI_add bl 2, show nI (bl + 2) + 4 = nI (bl + 2 + 4) from nI_add (bl + 2) 4]
  · rw [if_neg ha, if_neg ha, if_pos rfl, show nI bl + 2 = nI (bl + 2) from nI_add bl 2, show nI (bl + 2) + 1 = nI (bl + 2 + 1) from nI_add (bl + 2) 1]
theorem m_go0 : fX8_go_26 167 1000 M (nI 143) (nI d) (nI 0) 0 = some (0, M) := by
  rw [fX8_go_26, if_pos (by decide)]
theorem RSI.gc (h : RSI C) (h3 : C' 19 3 = C 19 3) (h4 : C' 19 4 = C 19 4) : RSI C' := h.fr h3 h4
theorem zupd (R : R2 vc dc C M) (hd : d < dc) (hw : w < vc) (hv : ∀ o v, o ≤ 1 → v < vc → M 156 d = nI o → M 157 (2 * d + o) = nI v → v < w) : ∃ r C' M1 M' N, fX7_updateWhole 167 C (nI 0) (nI (53 + 3 * d)) (nI (43 + w)) = some (r, C') ∧ fX8_actsOf 167 M (nI 143) (nI d) (nI w) = some (nI N, M) ∧ fX8_go 167 M (nI 143) (nI d) (nI w) (nI N) 0 = some (0, M1) ∧ fX8_ends 167 M1 (nI 143) (nI d) (nI w) = some (r, M') ∧ (r = 0 ∨ r = 1) ∧ R2 vc dc C' M' ∧ GC d C C' ∧ GM d M M1 ∧ GM d M1 M' := by
  obtain ⟨P, Q, -, -, ⟨hvc, cv, mv, vs⟩, -, hs, ⟨hdc, cd, md, d1, -⟩, -⟩ := id R
  have hd30 : d < 30 := by omega
  obtain ⟨bl, fl, hb1, hb2, hfl, c1, m1, c2, m2, c3⟩ := vs w hw
  have hD1 := d1 d hd
  obtain ⟨k, o0, v0, f0, a0, hk, ho0, hv0, hf0, k1, k2, k3, k4, k5, k6, -, hJ⟩ := rd_jx hd30 hD1
  have hlt := hv o0 v0 ho0 hv0 k2 k3
  have hA := zA_le (bl := bl) (A := M 149 w) (k := k)
  have hV : WV C M w bl fl (M 149 w) := ⟨c1, c2, c3, m1, m2, rfl⟩
  obtain ⟨C1, M1, e1, e2, h1, f1, f2⟩ := JX.inst (OD_dev hd30) hd30 hw hvc hf0 hlt hfl hb1 (by omega) (N := zA bl (M 149 w) k) (most := 14) (st := 0) (Nat.le_refl _) (Or.inr ⟨rfl, by omega⟩) (by omega) (zA bl (M 149 w) k) 0 1000 1000 C M (by omega) (by omega) (by omega) P Q hV (hJ w bl fl (M 149 w))
  have P1 := f1.pc (OD_dev hd30) P
  have Q1 := f2.pm Q
  obtain ⟨p, o, kk, v, f, -, -, -, -, -, -, -, -, -, -, -, -, -, -, hh, h9, h10, -⟩ := hD1
  obtain ⟨r, C2, M2, e3, e4, hr, h2, h92, h102, f3, f4⟩ := h1.ends P1 Q1 hd30 hw hvc (by rw [f1 _ _ (Or.inl (by omega))]; exact cv) (by rw [f2 _ _ (Or.inl (by omega))]; exact mv) (Or.inr rfl) (by rw [f1 _ _ (Or.inr ⟨rfl, by omega⟩), f2 _ _ (Or.inl (by omega))]; exact h9) (by rw [f1 _ _ (Or.inr ⟨rfl, by omega⟩), f2 _ _ (Or.inl (by omega))]; exact h10)
  have g3 : GC d C1 C2 := fun a j _ q => f3 a j (by omega)
  have g4 : GM d M1 M2 := fun a j q => f4 a j (by omega)
  have gc := f1.gc.tr g3
  have gm := f2.gm.tr g4
  refine ⟨r, C2, M1, M2, _, ?_, m_actsOf Q hd30 (by omega) m1 rfl k1, ?_, e4, hr, R.run hd gc gm (hs.gc (by rw [f3 _ _ (by omega), f1 _ _ (Or.inl (by omega))]) (by rw [f3 _ _ (by omega), f1 _ _ (Or.inl (by omega))])) (jx_rd hk (Or.inr rfl) h2 (by rw [gc _ _ (by omega) (by omega), gm _ _ (by omega)]; exact hh) h92 h102), gc, f2.gm, g4⟩
  · rw [fX7_updateWhole, zd_t (zo_dev hd30), fX2_install, zbd_e]
    have e1' : fX2_install_2 167 1000 C (nI (53 + 3 * d)) (nI (43 + w)) 14 0 = some (nI (zA bl (M 149 w) k), C1) := e1
    rw [e1', zca_some, zd_t zo_0, e3, zca_some, zd_t (by rcases hr with rfl | rfl <;> rfl)]
  · rw [fX8_go, zbd_e]
    have e2' : fX8_go_3 167 1000 M (nI 143) (nI d) (nI w) (nI (zA bl (M 149 w) k)) 0 0 = fX8_go_26 167 1000 M1 (nI 143) (nI d) (nI 0) 0 := e2
    rw [e2', m_go0]
end UPD
