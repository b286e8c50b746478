def CX (C : zM) (D p k o v f t y s : Nat) (b a : Int32) : Prop := C D 1 = nI k ∧ C D 3 = nI (D + p) ∧ C D 4 = nI (D + (3 - p)) ∧ C D 5 = nI o ∧ C D 6 = nI t ∧ C D 7 = nI y ∧ C D 8 = nI f ∧ C (D + p) 0 = nI (43 + v) ∧ C (D + p) 1 = a ∧ C (D + (3 - p)) 0 = (if s = 0 then -1 else nI (42 + s)) ∧ C (D + (3 - p)) 1 = b
def MX (M : zM) (d k o v f t y s : Nat) (b a : Int32) : Prop := M 154 d = nI k ∧ M 156 d = nI o ∧ M 157 (2 * d + o) = nI v ∧ M 158 (2 * d + o) = a ∧ M 157 (2 * d + (1 - o)) = (if s = 0 then -1000000 else nI (s - 1)) ∧ M 158 (2 * d + (1 - o)) = b ∧ M 161 d = nI f ∧ M 159 d = nI t ∧ (t = 1 → M 160 d = nI y)
def FD (D : Nat) (C C' : zM) : Prop := ∀ a j, (¬ (D ≤ a ∧ a ≤ D + 2) ∨ (a = D ∧ (j < 3 ∨ 8 < j))) → C' a j = C a j
def FMd (d : Nat) (M M' : zM) : Prop := ∀ a j, ((a < 156 ∨ 161 < a) ∨ ((a = 157 ∨ a = 158) ∧ j ≠ 2 * d ∧ j ≠ 2 * d + 1) ∨ (a ≠ 157 ∧ a ≠ 158 ∧ j ≠ d)) → M' a j = M a j
/-- D is the number of a device, or of the one that stands in -/
def OD (D : Nat) : Prop := D < 200 ∧ (D + 2 < 43 ∨ 53 ≤ D) ∧ zo 167 12 (nI D) = true ∧ (∀ p, p = 1 ∨ p = 2 → zo 167 14 (nI (D + p)) = true) ∧ ∀ a j, D ≤ a → a ≤ D + 2 → ¬ (a = D ∧ j < 3) → zp0 a j = none
/-- what version w is -/
def WV (C M : zM) (w bl fl : Nat) (A : Int32) : Prop := C (43 + w) 1 = nI bl ∧ C (43 + w) 2 = nI fl ∧ C (43 + w) 3 = A ∧ M 147 w = nI bl ∧ M 148 w = nI fl ∧ M 149 w = A
section RUN
variable {C M C' M' : zM} {vc dc d v D p k o f t y s w bl fl : Nat} {a b A : Int32}
theorem OD_dev (hd : d < 30) : OD (53 + 3 * d) := by
  refine ⟨by omega, Or.inr (by omega), zo_dev hd, fun p hp => zo_slp hd hp, fun a j h1 h2 h3 => ?_⟩
  by_cases e : j = 0
  · subst e
    unfold zp0
    rw [if_neg (by omega), if_neg (by omega), if_neg (by omega), if_neg (by omega), if_neg (by omega), if_neg (by omega), if_neg (by omega), if_neg (by omega), if_neg (by omega), if_neg (by omega), if_neg (by omega)]
  · exact zp0_big (by omega) e
theorem OD_19 : OD 19 := by
  refine ⟨by omega, Or.inl (by omega), zo_19, fun p hp => ?_, fun a j h1 h2 h3 => ?_⟩
  · rcases hp with rfl | rfl
    · exact zo_20
    · exact zo_21
  · unfold zp0
    rw [if_neg (by omega), if_neg (by omega), if_neg (by omega), if_neg (by omega), if_neg (by omega), if_neg (by omega), if_neg (by omega), if_neg (by omega), if_neg (by omega), if_neg (by omega), if_neg (by omega)]
theorem FD.rf : FD D C C := fun _ _ _ => rfl
theorem FMd.rf : FMd d M M := fun _ _ _ => rfl
theorem FD.tr {E : zM} (h : FD D C C') (h2 : FD D C' E) : FD D C E := fun a j q => (h2 a j q).trans (h a j q)
theorem FMd.tr {E : zM} (h : FMd d M M') (h2 : FMd d M' E) : FMd d M E := fun a j q => (h2 a j q).trans (h a j q)
theorem FD.pc (h : FD D C C') (hD : OD D) (P : PC C) : PC C' := P.of fun a j q => h a j (by
  by_cases w : D ≤ a ∧ a ≤ D + 2
  · by_cases w2 : a = D ∧ j < 3
    · exact Or.inr ⟨w2.1, Or.inl w2.2⟩
    · exact absurd (hD.2.2.2.2 a j w.1 w.2 w2) q
  · exact Or.inl w)
theorem FMd.pm (h : FMd d M M') (Q : PM M) : PM M' := Q.of fun j _ => h 143 j (Or.inl (Or.inl (by omega)))
theorem WV.fr (h : WV C M w bl fl A) (hw : w < 10) (hD : OD D) (fc : FD D C C') (fm : FMd d M M') : WV C' M' w bl fl A := by
  have hh := hD.2.1
  unfold WV
  rw [fc _ 1 (Or.inl (by omega)), fc _ 2 (Or.inl (by omega)), fc _ 3 (Or.inl (by omega)), fm _ _ (Or.inl (Or.inl (by omega))), fm _ _ (Or.inl (Or.inl (by omega))), fm _ _ (Or.inl (Or.inl (by omega)))]
  exact h
-- the class's start
theorem c_endT (hD : OD D) : fX2_endTrial 167 C (nI D) = some (0, zup (zup C D 6 0) D 7 0) := by
  rw [fX2_endTrial, zd_t hD.2.2.1, zbd_e, zp_n (by have := hD.1; omega), zbd_e, zp_n (by have := hD.1; omega)]
theorem c_st0 (hD : OD D) (h : CX C D p k o v f 0 y s b a) : fX2_start 167 C (nI D) = some (0, C) := by
  obtain ⟨-, -, -, -, h6, -⟩ := h
  rw [fX2_start, zd_t hD.2.2.1, zg_n (by have := hD.1; omega), h6, if_pos (show nI 0 = 0 from rfl)]
theorem c_st (hD : OD D) (hp : p = 1 ∨ p = 2) (hw : w < 10) (h : CX C D p k o v f 1 y (w + 1) b a) : fX2_start 167 C (nI D) = if nI y = 0 then fX2_start_41 167 C (nI D) else zca (fX4_isWholeNotBelow 167 C (nI (D + (3 - p))) (nI f)) fun r8 S9 => if r8 = 0 then fX2_start_41 167 S9 (nI D) else zbd (zp S9 (nI D) 7 ((zg S9 (nI D) 7) - 1)) fun S12 => zd (zo 167 16 (nI (43 + w))) <| zca (fX6_ailsOn 167 S12 (nI (43 + w)) (zg S12 (nI D) 1)) fun r15 S16 => if r15 = 0 then zca (fX2_take 167 S16 (nI D) (nI (43 + w))) fun r19 S20 => some (0, S20) else some (0, S16) := by
  have hl := hD.1
  obtain ⟨h1, h3, h4, h5, h6, h7, h8, hp0, hp1, hs0, hs1⟩ := h
  rw [if_neg (by omega), show 42 + (w + 1) = 43 + w by omega] at hs0
  rw [fX2_start, zd_t hD.2.2.1, zg_n (by omega), h6, if_neg (by decide), zg_n (by omega), h4, zd_t (hD.2.2.2.1 _ (by omega)), zbd_e, zg_n (by omega), hs0, if_neg (nI_pos (by omega)), zg_n (by omega), h7, zg_n (by omega), h8]
theorem c_st1 (hD : OD D) (hp : p = 1 ∨ p = 2) (hw : w < 10) (h : CX C D p k o v f 1 0 (w + 1) b a) : ∃ C', fX2_start 167 C (nI D) = some (0, C') ∧ CX C' D p k o v f 0 0 (w + 1) b a ∧ FD D C C' := by
  refine ⟨zup (zup C D 6 0) D 7 0, ?_, ?_, fun a j q => by rw [zup_off (by omega), zup_off (by omega)]⟩
  · rw [c_st hD hp hw h, if_pos (show nI 0 = 0 from rfl), fX2_start_41, zd_t hD.2.2.1, c_endT hD, zca_some]
  · obtain ⟨h1, h3, h4, h5, h6, h7, h8, hp0, hp1, hs0, hs1⟩ := h
    unfold CX
    rw [zup_s]
    refine ⟨?_, ?_, ?_, ?_, ?_, rfl, ?_, ?_, ?_, ?_, ?_⟩
    · rw [zup_off (by omega), zup_off (by omega)]; exact h1
    · rw [zup_off (by omega), zup_off (by omega)]; exact h3
    · rw [zup_off (by omega), zup_off (by omega)]; exact h4
    · rw [zup_off (by omega), zup_off (by omega)]; exact h5
    · rw [zup_off (by omega), zup_s]; rfl
    · rw [zup_off (by omega), zup_off (by omega)]; exact h8
    · rw [zup_off (by omega), zup_off (by omega)]; exact hp0
    · rw [zup_off (by omega), zup_off (by omega)]; exact hp1
    · rw [zup_off (by omega), zup_off (by omega)]; exact hs0
    · rw [zup_off (by omega), zup_off (by omega)]; exact hs1
theorem c_whole (P : PC C) (hD : OD D) (hp : p = 1 ∨ p = 2) (hw : w < 10) (hf : f ≤ w) (hb : C (43 + w) 1 = nI bl) (h : CX C D p k o v f 1 y (w + 1) (nI bl) a) : fX4_isWholeNotBelow 167 C (nI (D + (3 - p))) (nI f) = some (1, C) := by
  have hl := hD.1
  obtain ⟨h1, h3, h4, h5, h6, h7, h8, hp0, hp1, hs0, hs1⟩ := h
  rw [if_neg (by omega), show 42 + (w + 1) = 43 + w by omega] at hs0
  rw [fX4_isWholeNotBelow, zd_t (hD.2.2.2.1 _ (by omega)), zg_n (by omega), hs0, if_neg (nI_pos (by omega)), zd_t (zo_ver hw), zg_n (by omega), hs1, zg_n (by omega), hb, if_pos rfl, zg_n (by omega), P.vn hw, if_neg (nI_nlt (by omega) (by omega))]
theorem c_st2 (P : PC C) (hD : OD D) (hp : p = 1 ∨ p = 2) (hw : w < 10) (hy : y < 10) (hf : f ≤ w) (hb : C (43 + w) 1 = nI bl) (ha : zai (C (43 + w) 3) (nI k)) (h : CX C D p k o v f 1 (y + 1) (w + 1) (nI bl) a) : ∃ C', fX2_start 167 C (nI D) = some (0, C') ∧ CX C' D p k o v f 1 y (w + 1) (nI bl) a ∧ FD D C C' := by
  have hl := hD.1
  have hh := hD.2.1
  have e := c_st hD hp hw h
  rw [if_neg (nI_ne0 (by omega) (by omega)), c_whole P hD hp hw hf hb h, zca_some, if_neg ne10, zbd_e, zp_n (by omega), zg_n (by omega)] at e
  obtain ⟨h1, h3, h4, h5, h6, h7, h8, hp0, hp1, hs0, hs1⟩ := h
  rw [h7, nI_pred, zd_t (zo_ver hw), c_ails hw, zup_off (by omega), zg_n (by omega), zup_off (by omega), h1, if_pos ha, zca_some, if_neg ne10] at e
  refine ⟨_, e, ?_, fun a j q => zup_off (by omega)⟩
  unfold CX
  rw [zup_s]
  refine ⟨?_, ?_, ?_, ?_, ?_, rfl, ?_, ?_, ?_, ?_, ?_⟩ <;> rw [zup_off (by omega)] <;> assumption
theorem zmx (f g : Nat) (hf : f < 1000) (hg : g < 1000) : (if nI f < nI g then nI g else nI f) = nI (Nat.max f g) := by
  by_cases h : f < g
  · rw [if_pos (nI_lt h (by omega)), show Nat.max f g = g from Nat.max_eq_right (by omega)]
  · rw [if_neg (nI_nlt (by omega) (by omega)), show Nat.max f g = f from Nat.max_eq_left (by omega)]
theorem c_take (hD : OD D) (hw : w < 10) {T : zM} {x z : Int32} (hf : f < 1000) (hfl : fl < 1000) (h3 : T D 3 = x) (h4 : T D 4 = z) (h5 : T D 5 = nI o) (h8 : T D 8 = nI f) (hc : T (43 + w) 2 = nI fl) : fX2_take 167 T (nI D) (nI (43 + w)) = some (0, zup (zup (zup (zup (zup (zup T D 3 z) D 4 x) D 5 (1 - nI o)) D 8 (nI (Nat.max f fl))) D 6 0) D 7 0) := by
  have hl := hD.1
  have hh := hD.2.1
  have e1 : zg T (nI D) 3 = x := (zg_n (by omega)).trans h3
  have e2 : zg T (nI D) 4 = z := (zg_n (by omega)).trans h4
  rw [fX2_take, zd_t hD.2.2.1, zbd_e, e1, e2, zp_n (by omega), zbd_e, zp_n (by omega), zbd_e, zg_n (by omega), zup_off (by omega), zup_off (by omega), h5, zp_n (by omega), zbd_e, zd_t (zo_ver hw), zg_n (by omega), zup_off (by omega), zup_off (by omega), zup_off (by omega), h8, zg_n (by omega), zup_off (by omega), zup_off (by omega), zup_off (by omega), hc, zmx f fl hf hfl, zp_n (by omega), zbd_e, c_endT hD, zca_some]
theorem c_st3 (P : PC C) (hD : OD D) (hp : p = 1 ∨ p = 2) (hw : w < 10) (hy : y < 10) (ho : o ≤ 1) (hf : f ≤ w) (hfl : fl < 100) (hb : C (43 + w) 1 = nI bl) (hc : C (43 + w) 2 = nI fl) (ha : ¬ zai (C (43 + w) 3) (nI k)) (h : CX C D p k o v f 1 (y + 1) (w + 1) (nI bl) a) : ∃ C', fX2_start 167 C (nI D) = some (0, C') ∧ CX C' D (3 - p) k (1 - o) w (Nat.max f fl) 0 0 (v + 1) a (nI bl) ∧ FD D C C' := by
  have hl := hD.1
  have hh := hD.2.1
  have e := c_st hD hp hw h
  rw [if_neg (nI_ne0 (by omega) (by omega)), c_whole P hD hp hw hf hb h, zca_some, if_neg ne10, zbd_e, zp_n (by omega), zg_n (by omega)] at e
  obtain ⟨h1, h3, h4, h5, h6, h7, h8, hp0, hp1, hs0, hs1⟩ := h
  rw [h7, nI_pred, zd_t (zo_ver hw), c_ails hw, zup_off (by omega), zg_n (by omega), zup_off (by omega), h1, if_neg ha, zca_some, if_pos rfl, c_take hD hw (o := o) (f := f) (fl := fl) (by omega) (by omega) (zup_off (by omega)) (zup_off (by omega)) ((zup_off (by omega)).trans h5) ((zup_off (by omega)).trans h8) ((zup_off (by omega)).trans hc), h3, h4, zca_some] at e
  have one : (1 : Int32) - nI o = nI (1 - o) := pk_sub (a := 1) ho
  rw [one] at e
  refine ⟨_, e, ?_, fun a j q => by rw [zup_off (by omega), zup_off (by omega), zup_off (by omega), zup_off (by omega), zup_off (by omega), zup_off (by omega), zup_off (by omega)]⟩
  unfold CX
  rw [zup_s]
  have hp3 : 3 - (3 - p) = p := by omega
  rw [hp3]
  refine ⟨?_, ?_, ?_, ?_, ?_, rfl, ?_, ?_, ?_, ?_, ?_⟩
  · rw [zup_off (by omega), zup_off (by omega), zup_off (by omega), zup_off (by omega), zup_off (by omega), zup_off (by omega), zup_off (by omega)]; exact h1
  · rw [zup_off (by omega), zup_off (by omega), zup_off (by omega), zup_off (by omega), zup_off (by omega), zup_s]
  · rw [zup_off (by omega), zup_off (by omega), zup_off (by omega), zup_off (by omega), zup_s]
  · rw [zup_off (by omega), zup_off (by omega), zup_off (by omega), zup_s]
  · rw [zup_off (by omega), zup_s]; rfl
  · rw [zup_off (by omega), zup_off (by omega), zup_s]
  · rw [zup_off (by omega), zup_off (by omega), zup_off (by omega), zup_off (by omega), zup_off (by omega), zup_off (by omega), zup_off (by omega), hs0, if_neg (by omega), show 42 + (w + 1) = 43 + w by omega]
  · rw [zup_off (by omega), zup_off (by omega), zup_off (by omega), zup_off (by omega), zup_off (by omega), zup_off (by omega), zup_off (by omega), hs1]
  · rw [zup_off (by omega), zup_off (by omega), zup_off (by omega), zup_off (by omega), zup_off (by omega), zup_off (by omega), zup_off (by omega), hp0, if_neg (by omega), show 42 + (v + 1) = 43 + v by omega]
  · rw [zup_off (by omega), zup_off (by omega), zup_off (by omega), zup_off (by omega), zup_off (by omega), zup_off (by omega), zup_off (by omega), hp1]
-- the reference's start
theorem m_st0 (Q : PM M) (hd : d < 30) (h : MX M d k o v f 0 y s b a) : fX8_start 167 M (nI 143) (nI d) = some (0, M) := by
  obtain ⟨-, -, -, -, -, -, -, h8, -⟩ := h
  rw [fX8_start, zd_t zo_143, show zg M (nI 143) 19 = nI 159 from Q.m19, zd_t (za_159 hd), ze_n (by decide) (by omega), h8, if_pos (show nI 0 = 0 from rfl)]
theorem m_st1 (Q : PM M) (hd : d < 30) (hw : w < 10) (ho : o ≤ 1) (hf : f ≤ w) (hbl : bl < 100) (hb : M 147 w = nI bl) (h : MX M d k o v f 1 0 (w + 1) (nI bl) a) : ∃ M', fX8_start 167 M (nI 143) (nI d) = some (0, M') ∧ MX M' d k o v f 0 0 (w + 1) (nI bl) a ∧ FMd d M M' := by
  obtain ⟨h1, h2, h3, h4, h5, h6, h7, h8, h9⟩ := h
  have h5' := h5
  rw [if_neg (by omega), show w + 1 - 1 = w by omega] at h5
  refine ⟨zup M 159 d 0, ?_, ⟨?_, ?_, ?_, ?_, ?_, ?_, ?_, zup_s, fun q => by omega⟩, fun a j q => zup_off (by omega)⟩
  · rw [fX8_start, zd_t zo_143, show zg M (nI 143) 19 = nI 159 from Q.m19, zd_t (za_159 hd), ze_n (by decide) (by omega), h8, if_neg (by decide), m_oth Q hd (by omega) h2, zca_some, zbd_e, show zg M (nI 143) 17 = nI 157 from Q.m17, zd_t (za_157 (by omega)), zbd_e, ze_n (by decide) (by omega), h5, if_neg (nne6 (by omega)), show zg M (nI 143) 18 = nI 158 from Q.m18, zd_t (za_158 (by omega)), ze_n (by decide) (by omega), h6, show zg M (nI 143) 6 = nI 147 from Q.m6, zd_t (za_147 hw), ze_n (by decide) (by omega), hb, if_neg (nI_nlt (Nat.le_refl _) (by omega)), show zg M (nI 143) 21 = nI 161 from Q.m21, zd_t (za_161 hd), ze_n (by decide) (by omega), h7, if_neg (nI_nlt hf (by omega)), show zg M (nI 143) 20 = nI 160 from Q.m20, zd_t (za_160 hd), ze_n (by decide) (by omega), h9 rfl, if_pos (show nI 0 = 0 from rfl), fX8_start_63, zd_t zo_143, show zg M (nI 143) 19 = nI 159 from Q.m19, zd_t (za_159 hd), zbd_e, zq_n (by decide) (by omega)]
  all_goals (rw [zup_off (by omega)]; assumption)
theorem m_st2 (Q : PM M) (hd : d < 30) (hw : w < 10) (ho : o ≤ 1) (hf : f ≤ w) (hbl : bl < 100) (hb : M 147 w = nI bl) (hy : y < 10) (ha : zai (M 149 w) (nI k)) (h : MX M d k o v f 1 (y + 1) (w + 1) (nI bl) a) : ∃ M', fX8_start 167 M (nI 143) (nI d) = some (0, M') ∧ MX M' d k o v f 1 y (w + 1) (nI bl) a ∧ FMd d M M' := by
  obtain ⟨h1, h2, h3, h4, h5, h6, h7, h8, h9⟩ := h
  have h5' := h5
  rw [if_neg (by omega), show w + 1 - 1 = w by omega] at h5
  have Q1 : PM (zup M 160 d (nI y)) := Q.up (fun q => by omega)
  refine ⟨zup M 160 d (nI y), ?_, ⟨?_, ?_, ?_, ?_, ?_, ?_, ?_, ?_, fun _ => zup_s⟩, fun a j q => zup_off (by omega)⟩
  · rw [fX8_start, zd_t zo_143, show zg M (nI 143) 19 = nI 159 from Q.m19, zd_t (za_159 hd), ze_n (by decide) (by omega), h8, if_neg (by decide), m_oth Q hd (by omega) h2, zca_some, zbd_e, show zg M (nI 143) 17 = nI 157 from Q.m17, zd_t (za_157 (by omega)), zbd_e, ze_n (by decide) (by omega), h5, if_neg (nne6 (by omega)), show zg M (nI 143) 18 = nI 158 from Q.m18, zd_t (za_158 (by omega)), ze_n (by decide) (by omega), h6, show zg M (nI 143) 6 = nI 147 from Q.m6, zd_t (za_147 hw), ze_n (by decide) (by omega), hb, if_neg (nI_nlt (Nat.le_refl _) (by omega)), show zg M (nI 143) 21 = nI 161 from Q.m21, zd_t (za_161 hd), ze_n (by decide) (by omega), h7, if_neg (nI_nlt hf (by omega)), show zg M (nI 143) 20 = nI 160 from Q.m20, zd_t (za_160 hd), ze_n (by decide) (by omega), h9 rfl, if_neg (nI_ne0 (by omega) (by omega)), nI_pred, zq_n (by decide) (by omega), zbd_e, show zg (zup M 160 d (nI y)) (nI 143) 14 = nI 154 from Q1.m14, zd_t (za_154 hd), ze_n (by decide) (by omega), zup_off (by omega), h1, m_ails Q1 hw, zup_off (by omega), if_pos ha, zca_some, if_neg ne10]
  all_goals (rw [zup_off (by omega)]; assumption)
theorem m_st3 (Q : PM M) (hd : d < 30) (hw : w < 10) (ho : o ≤ 1) (hf : f ≤ w) (hbl : bl < 100) (hb : M 147 w = nI bl) (hfl : fl < 100) (hc : M 148 w = nI fl) (hy : y < 10) (ha : ¬ zai (M 149 w) (nI k)) (h : MX M d k o v f 1 (y + 1) (w + 1) (nI bl) a) : ∃ M', fX8_start 167 M (nI 143) (nI d) = some (0, M') ∧ MX M' d k (1 - o) w (Nat.max f fl) 0 0 (v + 1) a (nI bl) ∧ FMd d M M' := by
  obtain ⟨h1, h2, h3, h4, h5, h6, h7, h8, h9⟩ := h
  rw [if_neg (by omega), show w + 1 - 1 = w by omega] at h5
  have Q1 : PM (zup M 160 d (nI y)) := Q.up (fun q => by omega)
  have Q2 : PM (zup (zup M 160 d (nI y)) 156 d (nI (1 - o))) := Q1.up (fun q => by omega)
  have Q3 : PM (zup (zup (zup M 160 d (nI y)) 156 d (nI (1 - o))) 159 d 0) := Q2.up (fun q => by omega)
  have one : (1 : Int32) - nI o = nI (1 - o) := pk_sub (a := 1) ho
  have oo : 1 - (1 - o) = o := by omega
  refine ⟨zup (zup (zup (zup M 160 d (nI y)) 156 d (nI (1 - o))) 159 d 0) 161 d (nI (Nat.max f fl)), ?_, ⟨?_, ?_, ?_, ?_, ?_, ?_, zup_s, ?_, fun q => by omega⟩, fun a j q => by rw [zup_off (by omega), zup_off (by omega), zup_off (by omega), zup_off (by omega)]⟩
  · rw [fX8_start, zd_t zo_143, show zg M (nI 143) 19 = nI 159 from Q.m19, zd_t (za_159 hd), ze_n (by decide) (by omega), h8, if_neg (by decide), m_oth Q hd (by omega) h2, zca_some, zbd_e, show zg M (nI 143) 17 = nI 157 from Q.m17, zd_t (za_157 (by omega)), zbd_e, ze_n (by decide) (by omega), h5, if_neg (nne6 (by omega)), show zg M (nI 143) 18 = nI 158 from Q.m18, zd_t (za_158 (by omega)), ze_n (by decide) (by omega), h6, show zg M (nI 143) 6 = nI 147 from Q.m6, zd_t (za_147 hw), ze_n (by decide) (by omega), hb, if_neg (nI_nlt (Nat.le_refl _) (by omega)), show zg M (nI 143) 21 = nI 161 from Q.m21, zd_t (za_161 hd), ze_n (by decide) (by omega), h7, if_neg (nI_nlt hf (by omega)), show zg M (nI 143) 20 = nI 160 from Q.m20, zd_t (za_160 hd), ze_n (by decide) (by omega), h9 rfl, if_neg (nI_ne0 (by omega) (by omega)), nI_pred, zq_n (by decide) (by omega), zbd_e, show zg (zup M 160 d (nI y)) (nI 143) 14 = nI 154 from Q1.m14, zd_t (za_154 hd), ze_n (by decide) (by omega), zup_off (by omega), h1, m_ails Q1 hw, zup_off (by omega), if_neg ha, zca_some, if_pos rfl, show zg (zup M 160 d (nI y)) (nI 143) 16 = nI 156 from Q1.m16, zd_t (za_156 hd), ze_n (by decide) (by omega), zup_off (by omega), h2, one, zq_n (by decide) (by omega), zbd_e, show zg (zup (zup M 160 d (nI y)) 156 d (nI (1 - o))) (nI 143) 19 = nI 159 from Q2.m19, zd_t (za_159 hd), zq_n (by decide) (by omega), zbd_e, show zg (zup (zup (zup M 160 d (nI y)) 156 d (nI (1 - o))) 159 d 0) (nI 143) 7 = nI 148 from Q3.m7, zd_t (za_148 hw), show zg (zup (zup (zup M 160 d (nI y)) 156 d (nI (1 - o))) 159 d 0) (nI 143) 21 = nI 161 from Q3.m21, zd_t (za_161 hd), show ze (zup (zup (zup M 160 d (nI y)) 156 d (nI (1 - o))) 159 d 0) (nI 148) (nI w) = nI fl from (ze_n (by decide) (by omega)).trans ((zup_off (by omega)).trans ((zup_off (by omega)).trans ((zup_off (by omega)).trans hc))), show ze (zup (zup (zup M 160 d (nI y)) 156 d (nI (1 - o))) 159 d 0) (nI 161) (nI d) = nI f from (ze_n (by decide) (by omega)).trans ((zup_off (by omega)).trans ((zup_off (by omega)).trans ((zup_off (by omega)).trans h7))), zq_n (by decide) (by omega), zq_n (by decide) (by omega), zbd_e, zbd_e]
    by_cases g : fl ≤ f
    · rw [if_pos (nI_le g (by omega)), show Nat.max f fl = f from Nat.max_eq_left g]
    · rw [if_neg (nI_ge (by omega) (by omega)), show Nat.max f fl = fl from Nat.max_eq_right (by omega)]
  · rw [zup_off (by omega), zup_off (by omega), zup_off (by omega), zup_off (by omega)]; exact h1
  · rw [zup_off (by omega), zup_off (by omega), zup_s]
  · rw [zup_off (by omega), zup_off (by omega), zup_off (by omega), zup_off (by omega)]; exact h5
  · rw [zup_off (by omega), zup_off (by omega), zup_off (by omega), zup_off (by omega)]; exact h6
  · rw [zup_off (by omega), zup_off (by omega), zup_off (by omega), zup_off (by omega), oo, h3, if_neg (by omega), show v + 1 - 1 = v by omega]
  · rw [zup_off (by omega), zup_off (by omega), zup_off (by omega), zup_off (by omega), oo]; exact h4
  · rw [zup_off (by omega), zup_s]; rfl
end RUN
