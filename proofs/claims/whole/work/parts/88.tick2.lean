section TI2
variable {C M C' M' E M0 : zM} {vc dc d v p o t i n s k w : Nat} {x g : Int32}
theorem tick_end (R : R2 vc dc C M) (h : CP t w k C M) (ht : t < vc) : ∃ C' M', fX1_endWave 167 C (nI 22) = some (0, C') ∧ (if 10 * M 143 32 ≤ M 143 29 * M 143 31 then (if M 143 30 + 1 = M 143 27 then some ((0 : Int32), zup M 143 33 2) else zca (fX8_beginWave 167 M (nI 143) (M 143 30 + 1)) fun r6 S7 => some (0, S7)) else some (0, zup M 143 33 1)) = some (0, M') ∧ R2 vc dc C' M' ∧ FC C C' ∧ FM M M' := by
  have P := R.1
  have Q := R.2.1
  have r10 : C 0 10 = M 143 1 := R.2.2.1.1
  obtain ⟨h1, h2, h3, c0, m25, mt, c2, m27, c3, c5, m30, c6, c7, c8, m33, c9, hs, ha⟩ := h
  have eC : fX1_endWave 167 C (nI 22) = if 10 * M 143 32 ≤ M 143 29 * M 143 31 then (if k + 1 = w then some (0, zup C 22 8 2) else some (0, zfl (zup (zup (zup C 22 5 (nI (k + 1))) 22 6 0) 22 7 0) 24 0 30)) else some (0, zup C 22 8 1) := by
    rw [fX1_endWave, zd_t zo_22, show zg C (nI 22) 7 = M 143 32 from (zg_n (by decide)).trans c7, show zg C (nI 22) 6 = M 143 31 from (zg_n (by decide)).trans c6, show zg C (nI 22) 3 = M 143 29 from (zg_n (by decide)).trans c3, fX7_isHalting, Int32.mul_comm (M 143 32)]
    by_cases g : 10 * M 143 32 ≤ M 143 29 * M 143 31
    · rw [if_pos g, if_pos g, zca_some, if_pos rfl, show zg C (nI 22) 5 = nI k from (zg_n (by decide)).trans c5, show zg C (nI 22) 2 = nI w from (zg_n (by decide)).trans c2, nI_1, c_bw P, zca_some, zp_n (by decide), zbd_e]
      obtain ⟨w', rfl⟩ : ∃ w', w = w' + 1 := ⟨w - 1, by omega⟩
      rw [nI_pred]
      by_cases e : k + 1 = w' + 1
      · rw [if_pos e, if_pos (show nI k = nI w' by rw [show k = w' by omega])]
      · rw [if_neg e, if_neg (fun q => e (by rw [(nI_eq (by omega) (by omega)).mp q]))]
    · rw [if_neg g, if_neg g, zca_some, if_neg ne10, zp_n (by decide), zbd_e]
  have eM : (if M 143 30 + 1 = M 143 27 then some ((0 : Int32), zup M 143 33 2) else zca (fX8_beginWave 167 M (nI 143) (M 143 30 + 1)) fun r6 S7 => some (0, S7)) = if k + 1 = w then some (0, zup M 143 33 2) else some (0, zfl (zup (zup (zup M 143 30 (nI (k + 1))) 143 31 0) 143 32 0) 165 0 30) := by
    rw [m30, m27, nI_1, m_bw Q, zca_some]
    by_cases e : k + 1 = w
    · rw [if_pos e, if_pos (by rw [e])]
    · rw [if_neg e, if_neg (fun q => e ((nI_eq (by omega) (by omega)).mp q))]
  rw [eC, eM]
  have one : ∀ st : Nat, st < 3 → ∀ y : Int32, y = nI st → R2 vc dc (zup C 22 8 y) (zup M 143 33 y) ∧ FC C (zup C 22 8 y) ∧ FM M (zup M 143 33 y) := fun st hst y hy => by
    have f1 : FKC C (zup C 22 8 y) := fun a j q1 q2 => zup_off (by omega)
    have f2 : FKM M (zup M 143 33 y) := fun a j q1 q2 => zup_off (by omega)
    refine ⟨R.camp f1 f2 (by rw [zup_off (by omega), zup_off (by omega)]; exact r10) (Or.inr ⟨?_, t, w, k, st, ht, h1, h2, h3, hst, ?_, ?_, ?_, ?_, ?_, ?_, ?_, ?_, ?_, ?_, ?_, ?_, fun j hj => ?_, fun j hj => ?_⟩), f1.fc, f2.fm⟩
    · rw [zup_off (by omega)]; exact m25
    · rw [zup_off (by omega)]; exact c0
    · rw [zup_off (by omega)]; exact mt
    · rw [zup_off (by omega)]; exact c2
    · rw [zup_off (by omega)]; exact m27
    · rw [zup_off (by omega), zup_off (by omega)]; exact c3
    · rw [zup_off (by omega)]; exact c5
    · rw [zup_off (by omega)]; exact m30
    · rw [zup_off (by omega), zup_off (by omega)]; exact c6
    · rw [zup_off (by omega), zup_off (by omega)]; exact c7
    · rw [zup_s]; exact hy
    · rw [zup_s]; exact hy
    · rw [zup_off (by omega), zup_off (by omega)]; exact c9
    · rw [zup_off (by omega), zup_off (by omega)]; exact hs j hj
    · rw [zup_off (by omega), zup_off (by omega)]; exact ha j hj
  by_cases g : 10 * M 143 32 ≤ M 143 29 * M 143 31
  · rw [if_pos g, if_pos g]
    by_cases e : k + 1 = w
    · rw [if_pos e, if_pos e]
      exact ⟨_, _, rfl, rfl, one 2 (by decide) 2 rfl⟩
    · rw [if_neg e, if_neg e]
      have f1 : FKC C (zfl (zup (zup (zup C 22 5 (nI (k + 1))) 22 6 0) 22 7 0) 24 0 30) := fun a j q1 q2 => by rw [zfl_out (by omega), zup_off (by omega), zup_off (by omega), zup_off (by omega)]
      have f2 : FKM M (zfl (zup (zup (zup M 143 30 (nI (k + 1))) 143 31 0) 143 32 0) 165 0 30) := fun a j q1 q2 => by rw [zfl_out (by omega), zup_off (by omega), zup_off (by omega), zup_off (by omega)]
      have kC : ∀ a j, a ≠ 24 → ¬ (a = 22 ∧ (j = 5 ∨ j = 6 ∨ j = 7)) → zfl (zup (zup (zup C 22 5 (nI (k + 1))) 22 6 0) 22 7 0) 24 0 30 a j = C a j := fun a j q1 q2 => by rw [zfl_out (by omega), zup_off (by omega), zup_off (by omega), zup_off (by omega)]
      have kM : ∀ a j, a ≠ 165 → ¬ (a = 143 ∧ (j = 30 ∨ j = 31 ∨ j = 32)) → zfl (zup (zup (zup M 143 30 (nI (k + 1))) 143 31 0) 143 32 0) 165 0 30 a j = M a j := fun a j q1 q2 => by rw [zfl_out (by omega), zup_off (by omega), zup_off (by omega), zup_off (by omega)]
      refine ⟨_, _, rfl, rfl, R.camp f1 f2 (by rw [kC _ _ (by omega) (by omega), kM _ _ (by omega) (by omega)]; exact r10) (Or.inr ⟨?_, t, w, k + 1, 0, ht, h1, h2, by omega, by omega, ?_, ?_, ?_, ?_, ?_, ?_, ?_, ?_, ?_, ?_, ?_, ?_, fun j hj => ?_, fun j hj => ?_⟩), f1.fc, f2.fm⟩
      · rw [kM _ _ (by omega) (by omega)]; exact m25
      · rw [kC _ _ (by omega) (by omega)]; exact c0
      · rw [kM _ _ (by omega) (by omega)]; exact mt
      · rw [kC _ _ (by omega) (by omega)]; exact c2
      · rw [kM _ _ (by omega) (by omega)]; exact m27
      · rw [kC _ _ (by omega) (by omega), kM _ _ (by omega) (by omega)]; exact c3
      · rw [zfl_out (by omega), zup_off (by omega), zup_off (by omega), zup_s]
      · rw [zfl_out (by omega), zup_off (by omega), zup_off (by omega), zup_s]
      · rw [zfl_out (by omega), zup_off (by omega), zup_s, zfl_out (by omega), zup_off (by omega), zup_s]
      · rw [zfl_out (by omega), zup_s, zfl_out (by omega), zup_s]
      · rw [kC _ _ (by omega) (by omega)]; exact c8
      · rw [kM _ _ (by omega) (by omega)]; exact m33
      · rw [kC _ _ (by omega) (by omega), kM _ _ (by omega) (by omega)]; exact c9
      · rw [kC _ _ (by omega) (by omega), kM _ _ (by omega) (by omega)]; exact hs j hj
      · rw [zfl_in (by omega), zfl_in (by omega)]
  · rw [if_neg g, if_neg g]
    exact ⟨_, _, rfl, rfl, one 1 (by decide) 1 rfl⟩
/-- one device is asked -/
theorem tick_ask (R : R2 vc dc C M) (h : CP t w k C M) (ht : t < vc) (hd : d < dc) (hv : ∀ o' v', o' ≤ 1 → v' < vc → M 156 d = nI o' → M 157 (2 * d + o') = nI v' → v' < t) (c : Int32) : ∃ r C2 C' M0 M1 M2 N, fX7_updateWhole 167 C (nI 0) (nI (53 + 3 * d)) (nI (43 + t)) = some (r, C2) ∧ fX1_note 167 C2 (nI 22) (nI d) c r = some (0, C') ∧ M0 = zup (zup (zup M 143 34 (M 143 34 + c)) 165 d 1) 143 31 (M 143 31 + 1) ∧ fX8_actsOf 167 M0 (nI 143) (nI d) (nI t) = some (nI N, M0) ∧ fX8_go 167 M0 (nI 143) (nI d) (nI t) (nI N) 0 = some (0, M1) ∧ M1 143 26 = nI t ∧ M1 143 32 = M 143 32 ∧ fX8_ends 167 M1 (nI 143) (nI d) (nI t) = some (r, M2) ∧ (r = 0 ∨ r = 1) ∧ R2 vc dc C' (zup M2 143 32 (M 143 32 + if r = 0 then 1 else 0)) ∧ CP t w k C' (zup M2 143 32 (M 143 32 + if r = 0 then 1 else 0)) ∧ FC C C' ∧ FM M (zup M2 143 32 (M 143 32 + if r = 0 then 1 else 0)) := by
  have Q := R.2.1
  have hd30 : d < 30 := by have := R.2.2.2.2.2.2.2.1.1; omega
  have r10 : C 0 10 = M 143 1 := R.2.2.1.1
  generalize hM0 : zup (zup (zup M 143 34 (M 143 34 + c)) 165 d 1) 143 31 (M 143 31 + 1) = M0
  have k0 : ∀ a j, ¬ (a = 143 ∧ (j = 34 ∨ j = 31)) → ¬ (a = 165 ∧ j = d) → M0 a j = M a j := fun a j q1 q2 => by rw [← hM0, zup_off (by omega), zup_off (by omega), zup_off (by omega)]
  have Q0 : PM M0 := Q.of fun j q => k0 143 j (fun w => q (zp1_k (by omega))) (by omega)
  obtain ⟨r, C2, M1, M2, N, e1, e2, e3, e4, hr, hRD, hRSI, gc, g1, g2⟩ := zupd2 R (fun a j q1 q2 => k0 a j (by omega) (by omega)) Q0 (k0 _ _ (by omega) (by omega)) hd ht hv
  have P2 := gc.pc hd30 R.1
  have gm := g1.tr g2
  have n1 : fX1_note 167 C2 (nI 22) (nI d) c r = some (0, (if r = 0 then zup (zup (zup (zup C2 24 d 1) 22 9 (C2 22 9 + c)) 22 6 (C2 22 6 + 1)) 22 7 (C2 22 7 + 1) else zup (zup (zup C2 24 d 1) 22 9 (C2 22 9 + c)) 22 6 (C2 22 6 + 1))) := by
    rw [fX1_note, zd_t zo_22, show zg C2 (nI 22) 4 = nI 24 from P2.c224, zd_t (za_24 hd30), zq_n (by decide) (by omega), zbd_e, zg_n (by decide), zup_off (by omega), zp_n (by decide), zbd_e, zg_n (by decide), zup_off (by omega), zup_off (by omega), zp_n (by decide), zbd_e, zg_n (by decide), zup_off (by omega), zup_off (by omega), zup_off (by omega), zp_n (by decide), zbd_e]
    by_cases q : r = 0
    · rw [if_pos q, if_pos q]
    · rw [if_neg q, if_neg q]
  generalize hC' : (if r = 0 then zup (zup (zup (zup C2 24 d 1) 22 9 (C2 22 9 + c)) 22 6 (C2 22 6 + 1)) 22 7 (C2 22 7 + 1) else zup (zup (zup C2 24 d 1) 22 9 (C2 22 9 + c)) 22 6 (C2 22 6 + 1)) = C' at n1
  have kc : ∀ a j, ¬ (a = 24 ∧ j = d) → ¬ (a = 22 ∧ (j = 9 ∨ j = 6 ∨ j = 7)) → C' a j = C2 a j := fun a j q1 q2 => by
    rw [← hC']
    by_cases q : r = 0
    · rw [if_pos q, zup_off (by omega), zup_off (by omega), zup_off (by omega), zup_off (by omega)]
    · rw [if_neg q, zup_off (by omega), zup_off (by omega), zup_off (by omega)]
  have c9' : C' 22 9 = C2 22 9 + c := by
    rw [← hC']
    by_cases q : r = 0
    · rw [if_pos q, zup_off (by omega), zup_off (by omega), zup_s]
    · rw [if_neg q, zup_off (by omega), zup_s]
  have c6' : C' 22 6 = C2 22 6 + 1 := by
    rw [← hC']
    by_cases q : r = 0
    · rw [if_pos q, zup_off (by omega), zup_s]
    · rw [if_neg q, zup_s]
  have c7' : C' 22 7 = C2 22 7 + if r = 0 then 1 else 0 := by
    rw [← hC']
    by_cases q : r = 0
    · rw [if_pos q, if_pos q, zup_s]
    · rw [if_neg q, if_neg q, zup_off (by omega), zup_off (by omega), zup_off (by omega), Int32.add_zero]
  have c24' : ∀ j, C' 24 j = if j = d then 1 else C2 24 j := fun j => by
    by_cases e : j = d
    · subst e
      rw [if_pos rfl, ← hC']
      by_cases q : r = 0
      · rw [if_pos q, zup_off (by omega), zup_off (by omega), zup_off (by omega), zup_s]
      · rw [if_neg q, zup_off (by omega), zup_off (by omega), zup_s]
    · rw [if_neg e, kc _ _ (by omega) (by omega)]
  -- the reference's, but for the campaign
  have gG : GM d M (fun a j => if a = 165 ∨ a = 143 then M a j else M2 a j) := fun a j q => by
    by_cases e : a = 165 ∨ a = 143
    · exact if_pos e
    · refine (if_neg e).trans ?_
      rw [gm a j q, k0 a j (by omega) (by omega)]
  have rG : RD1 vc C2 (fun a j => if a = 165 ∨ a = 143 then M a j else M2 a j) d := hRD.fr (fun _ => rfl) (fun _ => rfl) (fun _ => rfl) (fun a q1 q2 q3 => Or.inl (if_neg (by omega))) (fun a o q1 q2 => if_neg (by omega))
  have RG := R.run hd gc gG hRSI rG
  have f1 : FKC C2 C' := fun a j q1 q2 => kc a j (by omega) (by omega)
  have km : ∀ a j, a ≠ 165 → ¬ (a = 143 ∧ (j = 34 ∨ j = 31 ∨ j = 32)) → (a < 156 ∨ 163 < a) → zup M2 143 32 (M 143 32 + if r = 0 then 1 else 0) a j = M a j := fun a j q1 q2 q3 => by
    rw [zup_off (by omega), gm a j (Or.inl q3), k0 a j (by omega) (by omega)]
  have f2 : FKM (fun a j => if a = 165 ∨ a = 143 then M a j else M2 a j) (zup M2 143 32 (M 143 32 + if r = 0 then 1 else 0)) := fun a j q1 q2 => by
    by_cases e : a = 165 ∨ a = 143
    · refine Eq.trans ?_ (if_pos e).symm
      exact km a j (by omega) (by omega) (by omega)
    · refine Eq.trans ?_ (if_neg e).symm
      exact zup_off (by omega)
  have hCP : CP t w k C' (zup M2 143 32 (M 143 32 + if r = 0 then 1 else 0)) := by
    obtain ⟨h1, h2, h3, c0, m25, mt, c2, m27, c3, c5, m30, c6, c7, c8, m33, c9, hs, ha⟩ := h
    have gcc : ∀ a j, 22 ≤ a → a ≤ 24 → C2 a j = C a j := fun a j q1 q2 => gc a j (by omega) (by omega)
    refine ⟨h1, h2, h3, ?_, ?_, ?_, ?_, ?_, ?_, ?_, ?_, ?_, ?_, ?_, ?_, ?_, fun j hj => ?_, fun j hj => ?_⟩
    · rw [kc _ _ (by omega) (by omega), gcc _ _ (by omega) (by omega)]; exact c0
    · rw [km _ _ (by omega) (by omega) (by omega)]; exact m25
    · rw [km _ _ (by omega) (by omega) (by omega)]; exact mt
    · rw [kc _ _ (by omega) (by omega), gcc _ _ (by omega) (by omega)]; exact c2
    · rw [km _ _ (by omega) (by omega) (by omega)]; exact m27
    · rw [kc _ _ (by omega) (by omega), gcc _ _ (by omega) (by omega), km _ _ (by omega) (by omega) (by omega)]; exact c3
    · rw [kc _ _ (by omega) (by omega), gcc _ _ (by omega) (by omega)]; exact c5
    · rw [km _ _ (by omega) (by omega) (by omega)]; exact m30
    · rw [c6', gcc _ _ (by omega) (by omega), zup_off (by omega), gm _ _ (Or.inl (by omega)), ← hM0, zup_s, c6]
    · rw [c7', gcc _ _ (by omega) (by omega), zup_s, c7]
    · rw [kc _ _ (by omega) (by omega), gcc _ _ (by omega) (by omega)]; exact c8
    · rw [km _ _ (by omega) (by omega) (by omega)]; exact m33
    · rw [c9', gcc _ _ (by omega) (by omega), zup_off (by omega), gm _ _ (Or.inl (by omega)), ← hM0, zup_off (by omega), zup_off (by omega), zup_s, c9]
    · rw [kc _ _ (by omega) (by omega), gcc _ _ (by omega) (by omega), km _ _ (by omega) (by omega) (by omega)]; exact hs j hj
    · rw [c24', gcc _ _ (by omega) (by omega), zup_off (by omega), gm _ _ (Or.inl (by omega)), ← hM0, zup_off (by omega)]
      by_cases e : j = d
      · subst e
        rw [if_pos rfl, zup_s]
      · rw [if_neg e, zup_off (by omega), zup_off (by omega)]
        exact ha j hj
  refine ⟨r, C2, C', M0, M1, M2, N, e1, n1, rfl, e2, e3, ?_, ?_, e4, hr, RG.camp f1 f2 ?_ (hCP.rc ht), hCP, (gc.fc hd30).tr f1.fc, fun a ha => funext fun j => (zup_off (by omega)).trans ((gm a j (Or.inl (by omega))).trans (k0 a j (by omega) (by omega)))⟩
  · rw [g1 _ _ (Or.inl (by omega)), k0 _ _ (by omega) (by omega)]
    exact h.2.2.2.2.2.1
  · rw [g1 _ _ (Or.inl (by omega)), k0 _ _ (by omega) (by omega)]
  · rw [kc _ _ (by omega) (by omega), gc _ _ (by omega) (by omega), km _ _ (by omega) (by omega) (by omega)]
    exact r10
theorem tick_loop (ht : t < vc) : ∀ (r i aN fu fu' : Nat) (left : Int32) (C M : zM), i + r = dc → aN ≤ i → r < fu → r < fu' → R2 vc dc C M → CP t w k C M → ∃ s C' M', fX7_tick_33 167 fu C (nI 0) left (nI aN) (nI i) = some (s, C') ∧ fX8_tick_44 167 fu' M (nI 143) left (nI aN) (nI i) = some (s, M') ∧ R2 vc dc C' M' ∧ FC C C' ∧ FM M M'
  | r, i, aN, 0, _, l, C, M, _, _, h, _, _, _ => absurd h (Nat.not_lt_zero _)
  | r, i, aN, _ + 1, 0, l, C, M, _, _, _, h, _, _ => absurd h (Nat.not_lt_zero _)
  | 0, i, aN, fu + 1, fu' + 1, l, C, M, hi, ha, _, _, R, h => by
    obtain ⟨P, Q, -, -, ⟨hvc, -⟩, -, -, ⟨hdc, cd, md, -⟩, -⟩ := id R
    obtain rfl : i = dc := hi
    have eC : fX7_tick_33 167 (fu + 1) C (nI 0) l (nI aN) (nI i) = if nI aN = 0 then zca (fX1_endWave 167 C (nI 22)) fun r5 S6 => some (nI aN, S6) else some (nI aN, C) := by
      rw [fX7_tick_33, zd_t zo_0, zg_n (by decide), cd, if_pos (Int32.le_refl _), show zg C (nI 0) 7 = nI 22 from P.c07, zd_t zo_22]
    have eM : fX8_tick_44 167 (fu' + 1) M (nI 143) l (nI aN) (nI i) = if nI aN ≤ 0 then (if 10 * M 143 32 ≤ M 143 29 * M 143 31 then (if M 143 30 + 1 = M 143 27 then some ((0 : Int32), zup M 143 33 2) else zca (fX8_beginWave 167 M (nI 143) (M 143 30 + 1)) fun r6 S7 => some (0, S7)) else some (0, zup M 143 33 1)) else some (nI aN, M) := by
      rw [fX8_tick_44, zd_t zo_143, show zg M (nI 143) 13 = nI i from (zg_n (by decide)).trans md, if_pos (Int32.le_refl _), show zg M (nI 143) 32 = M 143 32 from zg_n (by decide), show zg M (nI 143) 29 = M 143 29 from zg_n (by decide), show zg M (nI 143) 31 = M 143 31 from zg_n (by decide), show zg M (nI 143) 30 = M 143 30 from zg_n (by decide), show zg M (nI 143) 27 = M 143 27 from zg_n (by decide), zp_n (by decide), zp_n (by decide), zbd_e, zbd_e]
    by_cases e : aN = 0
    · subst e
      obtain ⟨C', M', e1, e2, R', f1, f2⟩ := tick_end R h ht
      refine ⟨0, C', M', ?_, ?_, R', f1, f2⟩
      · rw [eC, if_pos (show nI 0 = 0 from rfl), e1, zca_some]
        rfl
      · rw [eM, if_pos (by decide), e2]
    · refine ⟨nI aN, C, M, ?_, ?_, R, FC.rf, FM.rf⟩
      · rw [eC, if_neg (nI_ne0 (by omega) (by omega))]
      · rw [eM, if_neg (nI_nle (by omega) (by omega))]
  | r + 1, i, aN, fu + 1, fu' + 1, l, C, M, hi, ha, hf, hf', R, h => by
    obtain ⟨P, Q, -, -, ⟨hvc, -⟩, -, -, ⟨hdc, cd, md, -⟩, -⟩ := id R
    obtain ⟨z, hz, d1, d2⟩ := due R h ht (d := i) (by omega)
    have eC : fX7_tick_33 167 (fu + 1) C (nI 0) l (nI aN) (nI i) = if z = 0 then fX7_tick_33 167 fu C (nI 0) l (nI aN) (nI (i + 1)) else zca (fX7_bytesTo 167 C (nI 0) (nI (53 + 3 * i)) (nI (43 + t))) fun r16 S17 => zbd r16 fun v19 => if v19 ≤ l then zbd (l - v19) fun v22 => zd (zo 167 11 (zg S17 (nI 0) 7)) <| zca (fX7_updateWhole 167 S17 (nI 0) (nI (53 + 3 * i)) (zg S17 (zg S17 (nI 0) 7) 0)) fun r25 S26 => zca (fX1_note 167 S26 (zg S17 (nI 0) 7) (nI i) v19 r25) fun r28 S29 => zbd (nI aN + 1) fun v31 => fX7_tick_118 167 (fX7_tick_33 167 fu) S29 (nI 0) v22 v31 (nI i) else some (nI aN, S17) := by
      rw [fX7_tick_33, zd_t zo_0, zg_n (by decide), cd, if_neg (nI_ge (by omega) (by omega)), zd_t (c_za18 P (by omega)), c_devp P (by omega), zbd_e, d1, zca_some, show zg C (nI 0) 7 = nI 22 from P.c07, zd_t zo_22, show zg C (nI 22) 0 = nI (43 + t) from (zg_n (by decide)).trans h.2.2.2.1, fX7_tick_118, zbd_e, nI_1]
    have eM : fX8_tick_44 167 (fu' + 1) M (nI 143) l (nI aN) (nI i) = if z = 0 then fX8_tick_44 167 fu' M (nI 143) l (nI aN) (nI (i + 1)) else zca (fX8_findWays 167 M (nI 143) (nI t)) fun r17 S18 => zca (fX8_runsOn 167 S18 (nI 143) (nI i)) fun r20 S21 => zd (za 167 0 (zg S18 (nI 143) 10) r20) <| if ze S21 (zg S18 (nI 143) 10) r20 = -1000000 then zd (za 167 0 (zg S21 (nI 143) 6) (zg S21 (nI 143) 26)) <| fX8_tick_112 167 (fX8_tick_44 167 fu') S21 (nI 143) l (nI aN) (nI i) (100 * (ze S21 (zg S21 (nI 143) 6) (zg S21 (nI 143) 26))) else zca (fX8_runsOn 167 S21 (nI 143) (nI i)) fun r25 S26 => zd (za 167 0 (zg S21 (nI 143) 10) r25) <| fX8_tick_112 167 (fX8_tick_44 167 fu') S26 (nI 143) l (nI aN) (nI i) (ze S26 (zg S21 (nI 143) 10) r25) := by
      rw [fX8_tick_44, zd_t zo_143, show zg M (nI 143) 13 = nI dc from (zg_n (by decide)).trans md, if_neg (nI_ge (by omega) (by omega)), d2, zca_some, show zg M (nI 143) 26 = nI t from (zg_n (by decide)).trans h.2.2.2.2.2.1, fX8_tick_207, zbd_e, nI_1]
    rcases hz with rfl | ⟨rfl, hv⟩
    · rw [eC, eM, if_pos rfl, if_pos rfl]
      exact tick_loop ht r (i + 1) aN fu fu' l C M (by omega) (by omega) (by omega) (by omega) R h
    · rw [if_neg ne10] at eC eM
      obtain ⟨c, C1, M1, v, hvt, b1, b2, b3, fc, fm, hc⟩ := cost R ht (d := i) (by omega) hv
      have P1 := fc.pc P
      have Q1 := fm.pm Q
      have R1 := R.ways fc fm
      have h1 : CP t w k C1 M1 := h.fr (fun a j q1 q2 => fc a j (by omega)) (fun a j q => fm a j (by omega))
      have hv1 : ∀ o' v', o' ≤ 1 → v' < vc → M1 156 i = nI o' → M1 157 (2 * i + o') = nI v' → v' < t := fun o' v' q1 q2 q3 q4 => hv o' v' q1 q2 (by rw [← fm _ _ (by omega)]; exact q3) (by rw [← fm _ _ (by omega)]; exact q4)
      have eM2 : fX8_tick_44 167 (fu' + 1) M (nI 143) l (nI aN) (nI i) = fX8_tick_112 167 (fX8_tick_44 167 fu') M1 (nI 143) l (nI aN) (nI i) c := by
        rw [eM, b2, zca_some, b3, zca_some, show zg M1 (nI 143) 10 = nI 151 from Q1.m10, zd_t (za_151 (by omega)), ze_n (by decide) (by omega), show zg M1 (nI 143) 6 = nI 147 from Q1.m6, show zg M1 (nI 143) 26 = nI t from (zg_n (by decide)).trans h1.2.2.2.2.2.1, zd_t (za_147 (by omega)), ze_n (by decide) (by omega), b3, zca_some, zd_t (za_151 (by omega)), ze_n (by decide) (by omega), hc]
        by_cases q : M1 151 v = -1000000
        · rw [if_pos q, if_pos q]
        · rw [if_neg q, if_neg q]
      rw [b1, zca_some, zbd_e] at eC
      rw [fX8_tick_112, zbd_e] at eM2
      by_cases g : c ≤ l
      · obtain ⟨s, C2, C3, M0, M3, M4, N, u1, u2, u3, u4, u5, u6, u7, u8, hs, R3, h3, f3, f4⟩ := tick_ask R1 h1 ht (d := i) (by omega) hv1 c
        have Q0 : PM M0 := Q1.of fun j q => by rw [u3, zup_off (fun w => q (zp1_k (by omega))), zup_off (by omega), zup_off (fun w => q (zp1_k (by omega)))]
        obtain ⟨s', C', M', t1, t2, R', f5, f6⟩ := tick_loop ht r (i + 1) (aN + 1) fu fu' (l - c) C3 _ (by omega) (by omega) (by omega) (by omega) R3 h3
        refine ⟨s', C', M', ?_, ?_, R', (fc.fc.tr f3).tr f5, (fm.fm.tr f4).tr f6⟩
        · rw [eC, if_pos g, zbd_e, show zg C1 (nI 0) 7 = nI 22 from P1.c07, zd_t zo_22, show zg C1 (nI 22) 0 = nI (43 + t) from (zg_n (by decide)).trans h1.2.2.2.1, u1, zca_some, u2, zca_some, zbd_e, nI_1, fX7_tick_118, zbd_e, nI_1, t1]
        · have QA : PM (zup M1 143 34 (M1 143 34 + c)) := Q1.up (fun _ => rfl)
          rw [eM2, if_pos g, zbd_e, zd_t zo_143, zg_n (by decide), zp_n (by decide), zbd_e, show zg (zup M1 143 34 (M1 143 34 + c)) (nI 143) 35 = nI 165 from QA.m35, zd_t (za_165 (by omega)), zq_n (by decide) (by omega), zbd_e, show zg (zup (zup M1 143 34 (M1 143 34 + c)) 165 i 1) (nI 143) 31 = M1 143 31 from (zg_n (by decide)).trans ((zup_off (by omega)).trans (zup_off (by omega))), zp_n (by decide), zbd_e, ← u3, zbd_e, nI_1, show zg M0 (nI 143) 26 = nI t from (zg_n (by decide)).trans (by rw [u3, zup_off (by omega), zup_off (by omega), zup_off (by omega)]; exact h1.2.2.2.2.2.1), u4, zca_some, u5, zca_some, show zg M3 (nI 143) 26 = nI t from (zg_n (by decide)).trans u6, u8, zca_some, show zg M3 (nI 143) 32 = M1 143 32 from (zg_n (by decide)).trans u7]
          rcases hs with rfl | rfl
          · rw [if_pos rfl, fX8_tick_203, zd_t zo_143, zp_n (by decide), zbd_e, fX8_tick_207, zbd_e, nI_1]
            exact t2
          · rw [if_neg ne10, fX8_tick_203, zd_t zo_143, zp_n (by decide), zbd_e, fX8_tick_207, zbd_e, nI_1]
            exact t2
      · rw [if_neg g] at eC eM2
        exact ⟨nI aN, C1, M1, eC, eM2, R1, fc.fc, fm.fm⟩
theorem ok_tick (R : R2 vc dc C M) (x : Int32) : Same (fX7_tick 167 C (nI 0) x) (fX8_tick 167 M (nI 143) x) C M := by
  have P := R.1
  have RR := R.thrown 0
  have rc := RR.2.2.2.2.2.2.2.2.1
  have hvc : vc ≤ 10 := R.2.2.2.2.1.1
  have hdc : dc ≤ 30 := R.2.2.2.2.2.2.2.1.1
  by_cases h1 : zin x 100001
  · obtain ⟨g1, g2⟩ := zin_le (b := 100000) (by decide) h1
    have n1 := in_i (n := 167) (S := zup M 143 0 0) (a := x.toInt64) (lo := 0) (hi := 100000) (by rw [z64]; exact h1.1) (by rw [z64]; exact Int.lt_add_one_iff.mp h1.2)
    rcases rc with ⟨c0, m0⟩ | ⟨m0, t, w, k, st, ht, hw1, hw6, hk, hst, c0, mt, c2, m27, c3, c5, m30, c6, c7, c8, m33, c9, hs, ha⟩
    · refine bad_same R (r := -1000002) ?_ ?_
      · rw [fX7_tick, if_neg g1, if_pos g2, zd_t zo_0, show zg C (nI 0) 7 = nI 22 from P.c07, zd_t zo_22, fX1_isRunning, zd_t zo_22, zg_n (by omega), c0, if_pos (by decide), zca_some, if_pos rfl]
      · rw [fX8_tick, zd_t zo_143, zbd_e, zp_n (by decide), n1, zca_some, if_neg ne10, zg_n (by decide), m0, if_pos rfl]
    · have eC : fX7_tick 167 C (nI 0) x = if nI st = 0 then fX7_tick_33 167 1000 C (nI 0) x 0 0 else some (-1000002, C) := by
        rw [fX7_tick, if_neg g1, if_pos g2, zd_t zo_0, show zg C (nI 0) 7 = nI 22 from P.c07, zd_t zo_22, fX1_isRunning, zd_t zo_22, show zg C (nI 22) 0 = nI (43 + t) from (zg_n (by omega)).trans c0, if_neg (nI_pos (by omega)), show zg C (nI 22) 8 = nI st from (zg_n (by omega)).trans c8]
        by_cases e : nI st = 0
        · rw [if_pos e, if_pos e, zca_some, if_neg ne10, zbd_e, zbd_e, zbd_e]
        · rw [if_neg e, if_neg e, zca_some, if_pos rfl]
      have eM : fX8_tick 167 M (nI 143) x = if nI st ≤ 0 then fX8_tick_44 167 1000 (zup M 143 0 0) (nI 143) x 0 0 else some (-1000002, zup M 143 0 0) := by
        rw [fX8_tick, zd_t zo_143, zbd_e, zp_n (by decide), n1, zca_some, if_neg ne10, show zg (zup M 143 0 0) (nI 143) 25 = 1 from (zg_n (by decide)).trans m0, if_neg ne10, show zg (zup M 143 0 0) (nI 143) 33 = nI st from (zg_n (by decide)).trans m33, zbd_e, zbd_e, zbd_e]
      by_cases e : st = 0
      · subst e
        obtain ⟨s, C', M', e1, e2, R', f1, f2⟩ := tick_loop (t := t) (w := w) (k := k) ht dc 0 0 1000 1000 x C (zup M 143 0 0) (by omega) (by omega) (by omega) (by omega) RR ⟨hw1, hw6, hk, c0, m0, mt, c2, m27, c3, c5, m30, c6, c7, c8, m33, c9, hs, ha⟩
        refine ⟨s, C', M', vc, dc, ?_, ?_, R', f1, (FM.rf.up (by decide)).tr f2⟩
        · rw [eC, if_pos (show nI 0 = 0 from rfl)]
          exact e1
        · rw [eM, if_pos (by decide)]
          exact e2
      · refine bad_same R (r := -1000002) ?_ ?_
        · rw [eC, if_neg (nI_ne0 (by omega) (by omega))]
        · rw [eM, if_neg (nI_nle (by omega) (by omega))]
  · refine bad_same R (r := -1000001) ?_ ?_
    · rw [fX7_tick]
      by_cases w : x < 0
      · rw [if_pos w]
      · rw [if_neg w, if_neg (by rw [ile]; rw [zlt0] at w; unfold zin at h1; show ¬ x.toInt ≤ 100000; omega)]
    · rw [fX8_tick, zd_t zo_143, zbd_e, zp_n (by decide), in_o (by rw [z64]; show x.toInt < 0 ∨ 100000 < x.toInt; unfold zin at h1; omega), zca_some, if_pos rfl]
end TI2
