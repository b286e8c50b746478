/-- where an update to version w stands behind i acts, at the class's device D and the reference's d -/
def JX (vc D d k w bl fl : Nat) (A : Int32) (o0 v0 f0 : Nat) (a0 : Int32) (i : Nat) (C M : zM) : Prop :=
  ∃ p o v f t y s : Nat, ∃ b a : Int32, (p = 1 ∨ p = 2) ∧ o ≤ 1 ∧ v < vc ∧ f ≤ v ∧ s ≤ vc ∧ CX C D p k o v f t y s b a ∧ MX M d k o v f t y s b a ∧
  ((i ≤ bl + 1 ∧ o = o0 ∧ v = v0 ∧ f = f0 ∧ a = a0 ∧ t = 0 ∧ y = 0 ∧ (i = bl + 1 → s = w + 1 ∧ b = nI bl)) ∨
   (∃ q, q ≤ 3 ∧ i = bl + 2 + q ∧ (q = 0 ∨ zai A (nI k)) ∧ o = o0 ∧ v = v0 ∧ f = f0 ∧ a = a0 ∧ t = 1 ∧ y = 3 - q ∧ s = w + 1 ∧ b = nI bl) ∨
   (zai A (nI k) ∧ i = bl + 6 ∧ o = o0 ∧ v = v0 ∧ f = f0 ∧ a = a0 ∧ t = 0 ∧ y = 0 ∧ s = w + 1 ∧ b = nI bl) ∨
   (¬ zai A (nI k) ∧ i = bl + 3 ∧ o = 1 - o0 ∧ v = w ∧ f = Nat.max f0 fl ∧ a = nI bl ∧ t = 0 ∧ y = 0 ∧ s = v0 + 1 ∧ b = a0))
/-- how many acts there are -/
def zA (bl : Nat) (A : Int32) (k : Nat) : Nat := if zai A (nI k) then bl + 6 else bl + 3
section ACT
variable {C M C' M' : zM} {vc dc d v D p k o f t y s w bl fl o0 v0 f0 i : Nat} {a b A a0 : Int32}
theorem c_act0 (hD : OD D) (hp : p = 1 ∨ p = 2) (h : CX C D p k o v f t y s b a) : ∃ C', fX2_doAct 167 C (nI D) (nI (43 + w)) (nI 0) = some (0, C') ∧ CX C' D p k o v f t y 0 0 a ∧ FD D C C' := by
  have hl := hD.1
  obtain ⟨h1, h3, h4, h5, h6, h7, h8, hp0, hp1, hs0, hs1⟩ := h
  refine ⟨zup (zup C (D + (3 - p)) 0 (-1)) (D + (3 - p)) 1 0, ?_, ⟨?_, ?_, ?_, ?_, ?_, ?_, ?_, ?_, ?_, ?_, zup_s⟩, fun a j q => by rw [zup_off (by omega), zup_off (by omega)]⟩
  · rw [fX2_doAct, if_pos (show nI 0 = 0 from rfl), zd_t hD.2.2.1, zg_n (by omega), h4, zd_t (hD.2.2.2.1 _ (by omega)), fX4_fill, zd_t (hD.2.2.2.1 _ (by omega)), zp_n (by omega), zbd_e, zp_n (by omega), zbd_e, zca_some]
  case refine_11 => rw [zup_off (by omega), zup_s, if_pos rfl]
  all_goals (rw [zup_off (by omega), zup_off (by omega)]; assumption)
theorem c_actk (hD : OD D) (hp : p = 1 ∨ p = 2) (hw : w < 10) (hb : C (43 + w) 1 = nI bl) (hbl : bl < 100) (h0 : 0 < i) (hi : i ≤ bl) (h : CX C D p k o v f t y s b a) : ∃ C', fX2_doAct 167 C (nI D) (nI (43 + w)) (nI i) = some (0, C') ∧ CX C' D p k o v f t y (w + 1) (nI i) a ∧ FD D C C' := by
  have hl := hD.1
  obtain ⟨h1, h3, h4, h5, h6, h7, h8, hp0, hp1, hs0, hs1⟩ := h
  refine ⟨zup (zup C (D + (3 - p)) 0 (nI (43 + w))) (D + (3 - p)) 1 (nI i), ?_, ⟨?_, ?_, ?_, ?_, ?_, ?_, ?_, ?_, ?_, ?_, zup_s⟩, fun a j q => by rw [zup_off (by omega), zup_off (by omega)]⟩
  · rw [fX2_doAct, if_neg (nI_ne0 h0 (by omega)), zd_t (zo_ver hw), zg_n (by omega), hb, if_neg (nI_nlt hi (by omega)), zd_t hD.2.2.1, zg_n (by omega), h4, zd_t (hD.2.2.2.1 _ (by omega)), fX4_fill, zd_t (hD.2.2.2.1 _ (by omega)), zp_n (by omega), zbd_e, zp_n (by omega), zbd_e, zca_some]
  case refine_11 => rw [zup_off (by omega), zup_s, if_neg (by omega), show 42 + (w + 1) = 43 + w by omega]
  all_goals (rw [zup_off (by omega), zup_off (by omega)]; assumption)
theorem c_actt (hD : OD D) (hp : p = 1 ∨ p = 2) (hw : w < 10) (hb : C (43 + w) 1 = nI bl) (hbl : bl < 100) (h : CX C D p k o v f t y s b a) : ∃ C', fX2_doAct 167 C (nI D) (nI (43 + w)) (nI (bl + 1)) = some (0, C') ∧ CX C' D p k o v f 1 3 s b a ∧ FD D C C' := by
  have hl := hD.1
  obtain ⟨h1, h3, h4, h5, h6, h7, h8, hp0, hp1, hs0, hs1⟩ := h
  refine ⟨zup (zup C D 6 1) D 7 3, ?_, ⟨?_, ?_, ?_, ?_, ?_, zup_s, ?_, ?_, ?_, ?_, ?_⟩, fun a j q => by rw [zup_off (by omega), zup_off (by omega)]⟩
  · rw [fX2_doAct, if_neg (nI_ne0 (by omega) (by omega)), zd_t (zo_ver hw), zg_n (by omega), hb, if_pos (nI_lt (by omega) (by omega)), nI_1, if_pos rfl, zd_t hD.2.2.1, zp_n (by omega), zbd_e, zp_n (by omega), zbd_e]
  case refine_6 => rw [zup_off (by omega), zup_s]; rfl
  all_goals (rw [zup_off (by omega), zup_off (by omega)]; assumption)
theorem c_acts (hD : OD D) (hw : w < 10) (hb : C (43 + w) 1 = nI bl) (hbl : bl < 100) (hi : bl + 1 < i) (hi2 : i < 200) (e : fX2_start 167 C (nI D) = some (0, C')) : fX2_doAct 167 C (nI D) (nI (43 + w)) (nI i) = some (0, C') := by
  rw [fX2_doAct, if_neg (nI_ne0 (by omega) (by omega)), zd_t (zo_ver hw), zg_n (by omega), hb, if_pos (nI_lt (by omega) (by omega)), nI_1, if_neg (fun q => by have := (nI_eq (by omega) (by omega)).mp q; omega), zd_t hD.2.2.1, e, zca_some]
theorem m_act0 (Q : PM M) (hd : d < 30) (ho : o ≤ 1) (h : MX M d k o v f 0 y s b a) : ∃ M', fX8_act 167 M (nI 143) (nI d) (nI w) (nI 0) = some (0, M') ∧ MX M' d k o v f 0 y 0 0 a ∧ FMd d M M' := by
  obtain ⟨h1, h2, h3, h4, h5, h6, h7, h8, h9⟩ := h
  have Q1 : PM (zup M 157 (2 * d + (1 - o)) (-1000000)) := Q.up (fun q => by omega)
  have e1 := m_oth Q hd (show o = 0 ∨ o = 1 by omega) h2
  have e2 := m_oth Q1 hd (show o = 0 ∨ o = 1 by omega) ((zup_off (by omega)).trans h2)
  refine ⟨zup (zup M 157 (2 * d + (1 - o)) (-1000000)) 158 (2 * d + (1 - o)) 0, ?_, ⟨?_, ?_, ?_, ?_, ?_, zup_s, ?_, ?_, fun q => by omega⟩, fun a j q => by rw [zup_off (by omega), zup_off (by omega)]⟩
  · rw [fX8_act, if_pos (show nI 0 = 0 from rfl), zd_t zo_143, e1, zca_some, show zg M (nI 143) 17 = nI 157 from Q.m17, zd_t (za_157 (by omega)), zq_n (by decide) (by omega), zbd_e, e2, zca_some, show zg (zup M 157 (2 * d + (1 - o)) (-1000000)) (nI 143) 18 = nI 158 from Q1.m18, zd_t (za_158 (by omega)), zq_n (by decide) (by omega), zbd_e]
  case refine_6 => rw [zup_off (by omega), zup_s, if_pos rfl]
  all_goals (rw [zup_off (by omega), zup_off (by omega)]; assumption)
theorem m_actk (Q : PM M) (hd : d < 30) (ho : o ≤ 1) (hw : w < 10) (hb : M 147 w = nI bl) (hbl : bl < 100) (h0 : 0 < i) (hi : i ≤ bl) (h : MX M d k o v f 0 y s b a) : ∃ M', fX8_act 167 M (nI 143) (nI d) (nI w) (nI i) = some (0, M') ∧ MX M' d k o v f 0 y (w + 1) (nI i) a ∧ FMd d M M' := by
  obtain ⟨h1, h2, h3, h4, h5, h6, h7, h8, h9⟩ := h
  have Q1 : PM (zup M 157 (2 * d + (1 - o)) (nI w)) := Q.up (fun q => by omega)
  have e1 := m_oth Q hd (show o = 0 ∨ o = 1 by omega) h2
  have e2 := m_oth Q1 hd (show o = 0 ∨ o = 1 by omega) ((zup_off (by omega)).trans h2)
  refine ⟨zup (zup M 157 (2 * d + (1 - o)) (nI w)) 158 (2 * d + (1 - o)) (nI i), ?_, ⟨?_, ?_, ?_, ?_, ?_, zup_s, ?_, ?_, fun q => by omega⟩, fun a j q => by rw [zup_off (by omega), zup_off (by omega)]⟩
  · rw [fX8_act, if_neg (nI_ne0 h0 (by omega)), zd_t zo_143, show zg M (nI 143) 6 = nI 147 from Q.m6, zd_t (za_147 hw), ze_n (by decide) (by omega), hb, if_neg (nI_nlt hi (by omega)), e1, zca_some, show zg M (nI 143) 17 = nI 157 from Q.m17, zd_t (za_157 (by omega)), zq_n (by decide) (by omega), zbd_e, e2, zca_some, show zg (zup M 157 (2 * d + (1 - o)) (nI w)) (nI 143) 18 = nI 158 from Q1.m18, zd_t (za_158 (by omega)), zq_n (by decide) (by omega), zbd_e]
  case refine_6 => rw [zup_off (by omega), zup_s, if_neg (by omega), show w + 1 - 1 = w by omega]
  all_goals (rw [zup_off (by omega), zup_off (by omega)]; assumption)
theorem m_actt (Q : PM M) (hd : d < 30) (hw : w < 10) (hb : M 147 w = nI bl) (hbl : bl < 100) (h : MX M d k o v f 0 y s b a) : ∃ M', fX8_act 167 M (nI 143) (nI d) (nI w) (nI (bl + 1)) = some (0, M') ∧ MX M' d k o v f 1 3 s b a ∧ FMd d M M' := by
  obtain ⟨h1, h2, h3, h4, h5, h6, h7, h8, h9⟩ := h
  have Q1 : PM (zup M 159 d 1) := Q.up (fun q => by omega)
  refine ⟨zup (zup M 159 d 1) 160 d 3, ?_, ⟨?_, ?_, ?_, ?_, ?_, ?_, ?_, ?_, fun q => zup_s⟩, fun a j q => by rw [zup_off (by omega), zup_off (by omega)]⟩
  · rw [fX8_act, if_neg (nI_ne0 (by omega) (by omega)), zd_t zo_143, show zg M (nI 143) 6 = nI 147 from Q.m6, zd_t (za_147 hw), ze_n (by decide) (by omega), hb, if_pos (nI_lt (by omega) (by omega)), nI_1, if_pos rfl, show zg M (nI 143) 19 = nI 159 from Q.m19, zd_t (za_159 hd), zq_n (by decide) (by omega), zbd_e, show zg (zup M 159 d 1) (nI 143) 20 = nI 160 from Q1.m20, zd_t (za_160 hd), zq_n (by decide) (by omega), zbd_e]
  case refine_9 => rw [zup_off (by omega), zup_s]; rfl
  all_goals (rw [zup_off (by omega), zup_off (by omega)]; assumption)
theorem m_acts (Q : PM M) (hw : w < 10) (hb : M 147 w = nI bl) (hbl : bl < 100) (hi : bl + 1 < i) (hi2 : i < 200) (e : fX8_start 167 M (nI 143) (nI d) = some (0, M')) : fX8_act 167 M (nI 143) (nI d) (nI w) (nI i) = some (0, M') := by
  rw [fX8_act, if_neg (nI_ne0 (by omega) (by omega)), zd_t zo_143, show zg M (nI 143) 6 = nI 147 from Q.m6, zd_t (za_147 hw), ze_n (by decide) (by omega), hb, if_pos (nI_lt (by omega) (by omega)), nI_1, if_neg (fun q => by have := (nI_eq (by omega) (by omega)).mp q; omega), e, zca_some]
/-- one start, of both -/
theorem JX.start (P : PC C) (Q : PM M) (hD : OD D) (hd : d < 30) (hw : w < vc) (hvc : vc ≤ 10) (h0 : f0 ≤ v0) (h0w : v0 < w) (hfl : fl ≤ w) (hbl : bl < 20) (hV : WV C M w bl fl A) (h : JX vc D d k w bl fl A o0 v0 f0 a0 i C M) : ∃ C' M' i', fX2_start 167 C (nI D) = some (0, C') ∧ fX8_start 167 M (nI 143) (nI d) = some (0, M') ∧ JX vc D d k w bl fl A o0 v0 f0 a0 i' C' M' ∧ FD D C C' ∧ FMd d M M' ∧ ((i' = i ∧ (i ≤ bl + 1 ∨ i = zA bl A k)) ∨ (i' = i + 1 ∧ bl + 2 ≤ i ∧ i < zA bl A k)) := by
  obtain ⟨w1, w2, w3, m1, m2, m3⟩ := hV
  have h00 := h
  obtain ⟨p, o, v, f, t, y, s, b, a, hp, ho, hv, hf, hs, hC, hM, h⟩ := h
  unfold zA
  rcases h with ⟨hi, rfl, rfl, rfl, rfl, rfl, rfl, hs⟩ | ⟨q, hq, hi, hqa, rfl, rfl, rfl, rfl, rfl, rfl, rfl, rfl⟩ | ⟨ha, hi, rfl, rfl, rfl, rfl, rfl, rfl, rfl, rfl⟩ | ⟨ha, hi, rfl, rfl, rfl, rfl, rfl, rfl, rfl, rfl⟩
  · exact ⟨C, M, i, c_st0 hD hC, m_st0 Q hd hM, h00, FD.rf, FMd.rf, Or.inl ⟨rfl, Or.inl hi⟩⟩
  · by_cases hz : q = 3
    · subst hz
      have ha : zai A (nI k) := hqa.resolve_left (by decide)
      obtain ⟨C', e1, x1, f1⟩ := c_st1 hD hp (by omega) hC
      obtain ⟨M', e2, x2, f2⟩ := m_st1 Q hd (by omega) ho (by omega) (by omega) m1 hM
      refine ⟨C', M', i + 1, e1, e2, ⟨p, o, v, f, 0, 0, w + 1, _, a, hp, ho, hv, hf, hs, x1, x2, Or.inr (Or.inr (Or.inl ⟨ha, by omega, rfl, rfl, rfl, rfl, rfl, rfl, rfl, rfl⟩))⟩, f1, f2, Or.inr ⟨rfl, by omega, ?_⟩⟩
      rw [if_pos ha]
      omega
    · by_cases ha : zai A (nI k)
      · rw [show 3 - q = (2 - q) + 1 by omega] at hC hM
        obtain ⟨C', e1, x1, f1⟩ := c_st2 P hD hp (by omega) (by omega) (by omega) w1 (by rw [w3]; exact ha) hC
        obtain ⟨M', e2, x2, f2⟩ := m_st2 Q hd (by omega) ho (by omega) (by omega) m1 (by omega) (by rw [m3]; exact ha) hM
        refine ⟨C', M', i + 1, e1, e2, ⟨p, o, v, f, 1, 2 - q, w + 1, _, a, hp, ho, hv, hf, hs, x1, x2, Or.inr (Or.inl ⟨q + 1, by omega, by omega, Or.inr ha, rfl, rfl, rfl, rfl, rfl, by omega, rfl, rfl⟩)⟩, f1, f2, Or.inr ⟨rfl, by omega, ?_⟩⟩
        rw [if_pos ha]
        omega
      · have hq0 : q = 0 := hqa.resolve_right ha
        subst hq0
        rw [show 3 - 0 = 2 + 1 by omega] at hC hM
        obtain ⟨C', e1, x1, f1⟩ := c_st3 P hD hp (by omega) (by omega) ho (by omega) (by omega) w1 w2 (by rw [w3]; exact ha) hC
        obtain ⟨M', e2, x2, f2⟩ := m_st3 Q hd (by omega) ho (by omega) (by omega) m1 (by omega) m2 (by omega) (by rw [m3]; exact ha) hM
        have hmx : Nat.max f fl ≤ w := Nat.max_le.mpr ⟨by omega, hfl⟩
        refine ⟨C', M', i + 1, e1, e2, ⟨3 - p, 1 - o, w, Nat.max f fl, 0, 0, v + 1, a, _, by omega, by omega, hw, hmx, by omega, x1, x2, Or.inr (Or.inr (Or.inr ⟨ha, by omega, rfl, rfl, rfl, rfl, rfl, rfl, rfl, rfl⟩))⟩, f1, f2, Or.inr ⟨rfl, by omega, ?_⟩⟩
        rw [if_neg ha]
        omega
  · exact ⟨C, M, i, c_st0 hD hC, m_st0 Q hd hM, h00, FD.rf, FMd.rf, Or.inl ⟨rfl, Or.inr (by rw [if_pos ha]; exact hi)⟩⟩
  · exact ⟨C, M, i, c_st0 hD hC, m_st0 Q hd hM, h00, FD.rf, FMd.rf, Or.inl ⟨rfl, Or.inr (by rw [if_neg ha]; exact hi)⟩⟩
/-- one act, of both -/
theorem JX.act (P : PC C) (Q : PM M) (hD : OD D) (hd : d < 30) (hw : w < vc) (hvc : vc ≤ 10) (h0 : f0 ≤ v0) (h0w : v0 < w) (hfl : fl ≤ w) (hbl0 : 0 < bl) (hbl : bl < 20) (hV : WV C M w bl fl A) (hi : i < zA bl A k) (h : JX vc D d k w bl fl A o0 v0 f0 a0 i C M) : ∃ C' M', fX2_doAct 167 C (nI D) (nI (43 + w)) (nI i) = some (0, C') ∧ fX8_act 167 M (nI 143) (nI d) (nI w) (nI i) = some (0, M') ∧ JX vc D d k w bl fl A o0 v0 f0 a0 (i + 1) C' M' ∧ FD D C C' ∧ FMd d M M' := by
  have hA : zA bl A k ≤ bl + 6 := by
    unfold zA
    by_cases ha : zai A (nI k)
    · rw [if_pos ha]; omega
    · rw [if_neg ha]; omega
  by_cases hs : bl + 1 < i
  · obtain ⟨C', M', i', e1, e2, hJ, f1, f2, hx⟩ := h.start P Q hD hd hw hvc h0 h0w hfl hbl hV
    rcases hx with ⟨-, hx⟩ | ⟨rfl, -, -⟩
    · exfalso
      omega
    · exact ⟨C', M', c_acts hD (by omega) hV.1 (by omega) hs (by omega) e1, m_acts Q (by omega) hV.2.2.2.1 (by omega) hs (by omega) e2, hJ, f1, f2⟩
  · obtain ⟨p, o, v, f, t, y, s, b, a, hp, ho, hv, hf, hs2, hC, hM, h⟩ := h
    rcases h with ⟨hi2, rfl, rfl, rfl, rfl, rfl, rfl, hs3⟩ | ⟨q, hq, hi2, -⟩ | ⟨-, hi2, -⟩ | ⟨-, hi2, -⟩
    · by_cases c0 : i = 0
      · subst c0
        obtain ⟨C', e1, x1, f1⟩ := c_act0 (w := w) hD hp hC
        obtain ⟨M', e2, x2, f2⟩ := m_act0 (w := w) Q hd ho hM
        exact ⟨C', M', e1, e2, ⟨p, o, v, f, 0, 0, 0, 0, a, hp, ho, hv, hf, by omega, x1, x2, Or.inl ⟨by omega, rfl, rfl, rfl, rfl, rfl, rfl, fun q => by omega⟩⟩, f1, f2⟩
      · by_cases c1 : i ≤ bl
        · obtain ⟨C', e1, x1, f1⟩ := c_actk (i := i) hD hp (by omega) hV.1 (by omega) (by omega) c1 hC
          obtain ⟨M', e2, x2, f2⟩ := m_actk (i := i) Q hd ho (by omega) hV.2.2.2.1 (by omega) (by omega) c1 hM
          exact ⟨C', M', e1, e2, ⟨p, o, v, f, 0, 0, w + 1, nI i, a, hp, ho, hv, hf, by omega, x1, x2, Or.inl ⟨by omega, rfl, rfl, rfl, rfl, rfl, rfl, fun q => ⟨rfl, by rw [show i = bl by omega]⟩⟩⟩, f1, f2⟩
        · have c2 : i = bl + 1 := by omega
          subst c2
          obtain ⟨rfl, rfl⟩ := hs3 rfl
          obtain ⟨C', e1, x1, f1⟩ := c_actt hD hp (by omega) hV.1 (by omega) hC
          obtain ⟨M', e2, x2, f2⟩ := m_actt Q hd (by omega) hV.2.2.2.1 (by omega) hM
          exact ⟨C', M', e1, e2, ⟨p, o, v, f, 1, 3, w + 1, nI bl, a, hp, ho, hv, hf, by omega, x1, x2, Or.inr (Or.inl ⟨0, by omega, by omega, Or.inl rfl, rfl, rfl, rfl, rfl, rfl, rfl, rfl, rfl⟩)⟩, f1, f2⟩
    · exfalso; omega
    · exfalso; omega
    · exfalso; omega
theorem zA_le : bl + 3 ≤ zA bl A k ∧ zA bl A k ≤ bl + 6 := by
  unfold zA
  by_cases ha : zai A (nI k)
  · rw [if_pos ha]; omega
  · rw [if_neg ha]; omega
/-- whether a device goes on -/
theorem JX.tz (hi : i = zA bl A k) (h : JX vc D d k w bl fl A o0 v0 f0 a0 i C M) : C D 6 = 0 := by
  obtain ⟨p, o, v, f, t, y, s, b, a, hp, ho, hv, hf, hs2, hC, hM, h⟩ := h
  have h6 := hC.2.2.2.2.1
  unfold zA at hi
  rcases h with ⟨-, -, -, -, -, rfl, -⟩ | ⟨q, hq, hi2, hqa, -⟩ | ⟨-, -, -, -, -, -, rfl, -⟩ | ⟨-, -, -, -, -, -, rfl, -⟩
  · exact h6
  · exfalso
    by_cases ha : zai A (nI k)
    · rw [if_pos ha] at hi; omega
    · rw [if_neg ha] at hi
      have := hqa.resolve_right ha
      omega
  · exact h6
  · exact h6
theorem JX.t1 (hi2 : bl + 2 < i) (hi : i < zA bl A k) (h : JX vc D d k w bl fl A o0 v0 f0 a0 i C M) : C D 6 = 1 := by
  obtain ⟨p, o, v, f, t, y, s, b, a, hp, ho, hv, hf, hs2, hC, hM, h⟩ := h
  have h6 := hC.2.2.2.2.1
  unfold zA at hi
  rcases h with ⟨h7, -⟩ | ⟨q, hq, -, -, -, -, -, -, rfl, -⟩ | ⟨ha, h7, -⟩ | ⟨ha, h7, -⟩
  · omega
  · exact h6
  · rw [if_pos ha] at hi; omega
  · rw [if_neg ha] at hi; omega
theorem c_over (hD : OD D) (hw : w < 10) (hbl : bl < 20) (hb : C (43 + w) 1 = nI bl) (hi : i ≤ zA bl A k) (h : JX vc D d k w bl fl A o0 v0 f0 a0 i C M) : fX2_isOver 167 C (nI D) (nI (43 + w)) (nI i) = some (if i = zA bl A k then 1 else 0, C) := by
  have hA := zA_le (bl := bl) (A := A) (k := k)
  have hl := hD.1
  rw [fX2_isOver, zd_t (zo_ver hw), zg_n (by omega), hb, show nI bl + 2 = nI (bl + 2) from nI_add bl 2]
  by_cases h1 : i ≤ bl + 2
  · rw [if_pos (nI_le h1 (by omega)), if_neg (by omega)]
  · rw [if_neg (nI_ge (by omega) (by omega)), zd_t hD.2.2.1, zg_n (by omega)]
    by_cases h2 : i = zA bl A k
    · rw [h.tz h2, if_pos rfl, if_pos h2]
    · rw [h.t1 (by omega) (by omega), if_neg ne10, if_neg h2]
theorem JX.inst (hD : OD D) (hd : d < 30) (hw : w < vc) (hvc : vc ≤ 10) (h0 : f0 ≤ v0) (h0w : v0 < w) (hfl : fl ≤ w) (hbl0 : 0 < bl) (hbl : bl < 20) {N most st : Nat} (hN : N ≤ zA bl A k) (hm : N = most ∨ (N = zA bl A k ∧ N ≤ most)) (hm2 : most < 100) : ∀ (r i fu fu' : Nat) (C M : zM), i + r = N → r < fu → r < fu' → PC C → PM M → WV C M w bl fl A → JX vc D d k w bl fl A o0 v0 f0 a0 i C M → ∃ C' M', fX2_install_2 167 fu C (nI D) (nI (43 + w)) (nI most) (nI i) = some (nI N, C') ∧ fX8_go_3 167 fu' M (nI 143) (nI d) (nI w) (nI N) (nI st) (nI i) = fX8_go_26 167 1000 M' (nI 143) (nI d) (nI st) 0 ∧ JX vc D d k w bl fl A o0 v0 f0 a0 N C' M' ∧ FD D C C' ∧ FMd d M M'
  | r, i, 0, _, C, M, _, hf, _, _, _, _, _ => absurd hf (Nat.not_lt_zero _)
  | r, i, _ + 1, 0, C, M, _, _, hf, _, _, _, _ => absurd hf (Nat.not_lt_zero _)
  | 0, i, fu + 1, fu' + 1, C, M, hi, _, _, P, Q, hV, h => by
    obtain rfl : i = N := hi
    refine ⟨C, M, ?_, ?_, h, FD.rf, FMd.rf⟩
    · rw [fX2_install_2]
      by_cases c : most ≤ i
      · rw [if_pos (nI_le c (by omega))]
      · have e : i = zA bl A k := by omega
        rw [if_neg (nI_ge (by omega) (by omega)), zd_t hD.2.2.1, c_over hD (by omega) hbl hV.1 hN h, if_pos e, zca_some, if_neg ne10]
    · rw [fX8_go_3, if_pos (Int32.le_refl _), zbd_e]
  | r + 1, i, fu + 1, fu' + 1, C, M, hi, hf, hf', P, Q, hV, h => by
    obtain ⟨C1, M1, e1, e2, h1, f1, f2⟩ := h.act P Q hD hd hw hvc h0 h0w hfl hbl0 hbl hV (by omega)
    obtain ⟨C2, M2, e3, e4, h2, f3, f4⟩ := JX.inst hD hd hw hvc h0 h0w hfl hbl0 hbl hN hm hm2 r (i + 1) fu fu' C1 M1 (by omega) (by omega) (by omega) (f1.pc hD P) (f2.pm Q) (hV.fr (by omega) hD f1 f2) h1
    refine ⟨C2, M2, ?_, ?_, h2, f1.tr f3, f2.tr f4⟩
    · rw [fX2_install_2, if_neg (nI_ge (by omega) (by omega)), zd_t hD.2.2.1, c_over hD (by omega) hbl hV.1 (by omega) h, if_neg (by omega), zca_some, if_pos rfl, e1, zca_some, zbd_e, nI_1, e3]
    · rw [fX8_go_3, if_neg (nI_ge (by omega) (by omega)), zd_t zo_143, e2, zca_some, zbd_e, nI_1, e4]
end ACT
