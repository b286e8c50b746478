def fX2_doAct (n : Nat) (S : zM) (a0 : Int32) (a1 : Int32) (a2 : Int32) : Option (Int32 × zM) := if (a2 : Int32) = 0 then (zd (zo n 12 a0) <| zd (zo n 14 (zg S a0 4)) <| zca (fX4_fill n S (zg S a0 4) (-1) 0) fun r21 S22 => some (0, S22)) else (zd (zo n 16 a1) <| if (zg S a1 1 : Int32) < (a2 : Int32) then (if (a2 : Int32) = ((zg S a1 1) + 1 : Int32) then (zd (zo n 12 a0) <| zbd (zp S a0 6 1) fun S10 => zbd (zp S10 a0 7 3) fun S12 => some (0, S12)) else (zd (zo n 12 a0) <| zca (fX2_start n S a0) fun r6 S7 => some (0, S7))) else (zd (zo n 12 a0) <| zd (zo n 14 (zg S a0 4)) <| zca (fX4_fill n S (zg S a0 4) a1 a2) fun r16 S17 => some (0, S17)))
theorem tX2_doAct (l : Launch) (D : va_G) (tc : Nat → ClassId) (b n : Nat) {S S' : zM} {a0 : Int32} {a1 : Int32} {a2 : Int32} {r : Int32} (h : fX2_doAct n S a0 a1 a2 = some (r, S')) : zMv l D tc b n yX2_doAct cX2_doAct 3 3 [zr a0, zr a1, zi a2] S S' := by
  refine zMv_of zyX2_doAct (Nat.le_of_ble_eq_true rfl) (fun p e s m args below meth c H C hr hk ls hl I => ?_)
  have hl : zL b ls 3 [(0, zr a0), (1, zr a1), (2, zi a2)] := hl
  rw [fX2_doAct] at h
  refine z_iload_n C hl 2 rfl dX2_doAct_0 rfl ?_
  refine z_if_ne C 16 dX2_doAct_1 (by decide) (fun c1 => ?_) (fun c1 => ?_)
  · have h := zif c1 h
    refine z_iload_n C hl 2 rfl dX2_doAct_16 rfl ?_
    refine z_aload_n C hl 1 rfl dX2_doAct_17 rfl ?_
    obtain ⟨g2, h⟩ := zd_some h
    refine z_get C I 6 1 zc6 g2 (by decide) zq_212 (v := zi (zg S a1 1)) rfl dX2_doAct_18 ?_
    refine z_icmp_gt C 36 dX2_doAct_21 (by decide) (fun c3 => ?_) (fun c3 => ?_)
    · have h := zit c3 h
      refine z_iload_n C hl 2 rfl dX2_doAct_36 rfl ?_
      refine z_aload_n C hl 1 rfl dX2_doAct_37 rfl ?_
      refine z_get C I 6 1 zc6 g2 (by decide) zq_212 (v := zi (zg S a1 1)) rfl dX2_doAct_38 ?_
      refine z_iconst C (v := 1) dX2_doAct_41 (by decide) ?_
      refine z_iadd C dX2_doAct_42 ?_
      refine z_icmp_ne C 59 dX2_doAct_43 (by decide) (fun c4 => ?_) (fun c4 => ?_)
      · have h := zif c4 h
        refine z_aload_n C hl 0 rfl dX2_doAct_59 rfl ?_
        obtain ⟨g5, h⟩ := zd_some h
        obtain ⟨r6, S7, h8, h⟩ := zcs h
        refine z_callVv C I (tX2_start l D tc b n h8) zyX2_start zyvX2_start zc2 g5 zq_424 (st := []) rfl rfl (by decide) (by decide) hl.1 (Nat.le_of_ble_eq_true rfl) dX2_doAct_60 (fun H locs I => ?_)
        exact z_vret C I hr hk h dX2_doAct_63
      · have h := zit c4 h
        refine z_aload_n C hl 0 rfl dX2_doAct_46 rfl ?_
        refine z_iconst C (v := 1) dX2_doAct_47 (by decide) ?_
        obtain ⟨g9, h⟩ := zd_some h
        refine z_put C I 2 6 zc2 g9 (by decide) rfl zq_89 rfl (v := zi 1) rfl dX2_doAct_48 (fun S10 e11 H locs I => ?_)
        have h := znb e11 h
        refine z_aload_n C hl 0 rfl dX2_doAct_51 rfl ?_
        refine z_iconst C (v := 3) dX2_doAct_52 (by decide) ?_
        refine z_put C I 2 7 zc2 g9 (by decide) rfl zq_90 rfl (v := zi 3) rfl dX2_doAct_53 (fun S12 e13 H locs I => ?_)
        have h := znb e13 h
        refine z_goto C 63 dX2_doAct_56 (by decide) ?_
        exact z_vret C I hr hk h dX2_doAct_63
    · have h := zif c3 h
      refine z_aload_n C hl 0 rfl dX2_doAct_24 rfl ?_
      obtain ⟨g14, h⟩ := zd_some h
      refine z_get C I 2 4 zc2 g14 (by decide) zq_85 (v := zr (zg S a0 4)) rfl dX2_doAct_25 ?_
      refine z_aload_n C hl 1 rfl dX2_doAct_28 rfl ?_
      refine z_iload_n C hl 2 rfl dX2_doAct_29 rfl ?_
      obtain ⟨g15, h⟩ := zd_some h
      obtain ⟨r16, S17, h18, h⟩ := zcs h
      refine z_callVv C I (tX4_fill l D tc b n h18) zyX4_fill zyvX4_fill zc4 g15 zq_374 (st := []) rfl rfl (by decide) (by decide) hl.1 (Nat.le_of_ble_eq_true rfl) dX2_doAct_30 (fun H locs I => ?_)
      refine z_goto C 63 dX2_doAct_33 (by decide) ?_
      exact z_vret C I hr hk h dX2_doAct_63
  · have h := zit c1 h
    refine z_aload_n C hl 0 rfl dX2_doAct_4 rfl ?_
    obtain ⟨g19, h⟩ := zd_some h
    refine z_get C I 2 4 zc2 g19 (by decide) zq_85 (v := zr (zg S a0 4)) rfl dX2_doAct_5 ?_
    refine z_null C dX2_doAct_8 ?_
    refine z_iconst C (v := 0) dX2_doAct_9 (by decide) ?_
    obtain ⟨g20, h⟩ := zd_some h
    obtain ⟨r21, S22, h23, h⟩ := zcs h
    refine z_callVv C I (tX4_fill l D tc b n h23) zyX4_fill zyvX4_fill zc4 g20 zq_374 (st := []) rfl rfl (by decide) (by decide) hl.1 (Nat.le_of_ble_eq_true rfl) dX2_doAct_10 (fun H locs I => ?_)
    refine z_goto C 63 dX2_doAct_13 (by decide) ?_
    exact z_vret C I hr hk h dX2_doAct_63

def fX2_install_2 (n : Nat) : Nat → zM → Int32 → Int32 → Int32 → Int32 → Option (Int32 × zM)
  | 0, _, _, _, _, _ => none
  | fu + 1, S, x0, x1, x2, x3 => if (x2 : Int32) ≤ (x3 : Int32) then (some (x3, S)) else (zd (zo n 12 x0) <| zca (fX2_isOver n S x0 x1 x3) fun r3 S4 => if (r3 : Int32) = 0 then (zca (fX2_doAct n S4 x0 x1 x3) fun r7 S8 => zbd (x3 + 1) fun v10 => fX2_install_2 n fu S8 x0 x1 x2 v10) else (some (x3, S4)))
theorem bX2_install_2 {p : Program} {l : Launch} {e : Env} {s : State} {m : MethodId} {args : Array Value} {below : List Frame} {meth : Method} {c : Code} {D : va_G} {tc : Nat → ClassId} {b n : Nat} {S' : zM} {r : Int32} (C : zC p m c cX2_install 4 s args yX2_install.cls D tc) (hr : meth.sig.returnType = some .int) (hk : meth.locks = false) : ∀ (fu : Nat) (S : zM) (x0 : Int32) (x1 : Int32) (x2 : Int32) (x3 : Int32) (H : Heap) (locs : List Loc) (ls : Array Slot), fX2_install_2 n fu S x0 x1 x2 x3 = some (r, S') → zI D tc b n S s H locs → zL b ls 4 [(0, zr x0), (1, zr x1), (2, zi x2), (3, zi x3)] → W p l e (zR 4) s m args below meth c H locs 0 0 (zQi D tc b n S' r below args s) (zG b m 2 ls []) := by
  intro fu
  induction fu with
  | zero => intro S x0 x1 x2 x3 H locs ls h _ _; rw [fX2_install_2] at h; cases h
  | succ fu ih =>
    intro S x0 x1 x2 x3 H locs ls h I hl
    rw [fX2_install_2] at h
    refine z_iload_n C hl 3 rfl dX2_install_2 rfl ?_
    refine z_iload_n C hl 2 rfl dX2_install_3 rfl ?_
    refine z_icmp_ge C 28 dX2_install_4 (by decide) (fun c1 => ?_) (fun c1 => ?_)
    · have h := zit c1 h
      refine z_iload_n C hl 3 rfl dX2_install_28 rfl ?_
      exact z_iret C I hr hk h dX2_install_29
    · have h := zif c1 h
      refine z_aload_n C hl 0 rfl dX2_install_7 rfl ?_
      refine z_aload_n C hl 1 rfl dX2_install_8 rfl ?_
      refine z_iload_n C hl 3 rfl dX2_install_9 rfl ?_
      obtain ⟨g2, h⟩ := zd_some h
      obtain ⟨r3, S4, h5, h⟩ := zcs h
      refine z_callVi C I (tX2_isOver l D tc b n h5) zyX2_isOver zyvX2_isOver zc2 g2 zq_416 (st := []) rfl rfl (by decide) (by decide) hl.1 (Nat.le_of_ble_eq_true rfl) dX2_install_10 (fun H locs I => ?_)
      refine z_if_ne C 28 dX2_install_13 (by decide) (fun c6 => ?_) (fun c6 => ?_)
      · have h := zif c6 h
        refine z_iload_n C hl 3 rfl dX2_install_28 rfl ?_
        exact z_iret C I hr hk h dX2_install_29
      · have h := zit c6 h
        refine z_aload_n C hl 0 rfl dX2_install_16 rfl ?_
        refine z_aload_n C hl 1 rfl dX2_install_17 rfl ?_
        refine z_iload_n C hl 3 rfl dX2_install_18 rfl ?_
        obtain ⟨r7, S8, h9, h⟩ := zcs h
        refine z_callVv C I (tX2_doAct l D tc b n h9) zyX2_doAct zyvX2_doAct zc2 g2 zq_420 (st := []) rfl rfl (by decide) (by decide) hl.1 (Nat.le_of_ble_eq_true rfl) dX2_install_19 (fun H locs I => ?_)
        refine z_iinc C hl 3 (v := x3 + 1) rfl dX2_install_22 rfl (by decide) (fun v10 => [(3, zi v10), (0, zr x0), (1, zr x1), (2, zi x2)]) (fun _ => rfl) (fun v10 e11 ls hl => ?_)
        have h := znb e11 h
        refine z_goto C 2 dX2_install_25 (by decide) ?_
        exact ih _ _ _ _ _ _ _ _ h I (zL_sub hl [1, 2, 3, 0] rfl)

def fX2_install (n : Nat) (S : zM) (a0 : Int32) (a1 : Int32) (a2 : Int32) : Option (Int32 × zM) := zbd (0) fun v1 => fX2_install_2 n 1000 S a0 a1 a2 v1
theorem tX2_install (l : Launch) (D : va_G) (tc : Nat → ClassId) (b n : Nat) {S S' : zM} {a0 : Int32} {a1 : Int32} {a2 : Int32} {r : Int32} (h : fX2_install n S a0 a1 a2 = some (r, S')) : zMi l D tc b n yX2_install cX2_install 4 .int 4 [zr a0, zr a1, zi a2] S S' r := by
  refine zMi_of zyX2_install (Nat.le_of_ble_eq_true rfl) (fun p e s m args below meth c H C hr hk ls hl I => ?_)
  have hl : zL b ls 4 [(0, zr a0), (1, zr a1), (2, zi a2)] := hl
  rw [fX2_install] at h
  refine z_iconst C (v := 0) dX2_install_0 (by decide) ?_
  refine z_istore_n C hl dX2_install_1 rfl (by decide) (fun v1 => [(3, zi v1), (0, zr a0), (1, zr a1), (2, zi a2)]) (fun _ => rfl) (fun v1 e2 ls hl => ?_)
  have h := znb e2 h
  exact bX2_install_2 C hr hk 1000 _ _ _ _ _ _ _ _ h I (zL_sub hl [1, 2, 3, 0] rfl)

def fX2_become (n : Nat) (S : zM) (a0 : Int32) (a1 : Int32) : Option (Int32 × zM) := zd (zo n 12 a1) <| zd (zo n 12 a0) <| zbd (zp S a0 1 (zg S a1 1)) fun S3 => zd (zo n 14 (zg S3 a1 3)) <| zd (zo n 14 (zg S3 a0 3)) <| zca (fX4_fill n S3 (zg S3 a0 3) (zg S3 (zg S3 a1 3) 0) (zg S3 (zg S3 a1 3) 1)) fun r7 S8 => zd (zo n 14 (zg S8 a1 4)) <| zd (zo n 14 (zg S8 a0 4)) <| zca (fX4_fill n S8 (zg S8 a0 4) (zg S8 (zg S8 a1 4) 0) (zg S8 (zg S8 a1 4) 1)) fun r12 S13 => zbd (zp S13 a0 5 (zg S13 a1 5)) fun S15 => zd (zbit (zg S15 a1 6)) <| zbd (zp S15 a0 6 (zg S15 a1 6)) fun S18 => zbd (zp S18 a0 7 (zg S18 a1 7)) fun S20 => zbd (zp S20 a0 8 (zg S20 a1 8)) fun S22 => some (0, S22)
theorem tX2_become (l : Launch) (D : va_G) (tc : Nat → ClassId) (b n : Nat) {S S' : zM} {a0 : Int32} {a1 : Int32} {r : Int32} (h : fX2_become n S a0 a1 = some (r, S')) : zMv l D tc b n yX2_become cX2_become 2 1 [zr a0, zr a1] S S' := by
  refine zMv_of zyX2_become (Nat.le_of_ble_eq_true rfl) (fun p e s m args below meth c H C hr hk ls hl I => ?_)
  have hl : zL b ls 2 [(0, zr a0), (1, zr a1)] := hl
  rw [fX2_become] at h
  refine z_aload_n C hl 0 rfl dX2_become_0 rfl ?_
  refine z_aload_n C hl 1 rfl dX2_become_1 rfl ?_
  obtain ⟨g1, h⟩ := zd_some h
  refine z_get C I 2 1 zc2 g1 (by decide) zq_77 (v := zi (zg S a1 1)) rfl dX2_become_2 ?_
  obtain ⟨g2, h⟩ := zd_some h
  refine z_put C I 2 1 zc2 g2 (by decide) rfl zq_77 rfl (v := zi (zg S a1 1)) rfl dX2_become_5 (fun S3 e4 H locs I => ?_)
  have h := znb e4 h
  refine z_aload_n C hl 0 rfl dX2_become_8 rfl ?_
  refine z_get C I 2 3 zc2 g2 (by decide) zq_82 (v := zr (zg S3 a0 3)) rfl dX2_become_9 ?_
  refine z_aload_n C hl 1 rfl dX2_become_12 rfl ?_
  refine z_get C I 2 3 zc2 g1 (by decide) zq_82 (v := zr (zg S3 a1 3)) rfl dX2_become_13 ?_
  obtain ⟨g5, h⟩ := zd_some h
  refine z_get C I 4 0 zc4 g5 (by decide) zq_66 (v := zr (zg S3 (zg S3 a1 3) 0)) rfl dX2_become_16 ?_
  refine z_aload_n C hl 1 rfl dX2_become_19 rfl ?_
  refine z_get C I 2 3 zc2 g1 (by decide) zq_82 (v := zr (zg S3 a1 3)) rfl dX2_become_20 ?_
  refine z_get C I 4 1 zc4 g5 (by decide) zq_68 (v := zi (zg S3 (zg S3 a1 3) 1)) rfl dX2_become_23 ?_
  obtain ⟨g6, h⟩ := zd_some h
  obtain ⟨r7, S8, h9, h⟩ := zcs h
  refine z_callVv C I (tX4_fill l D tc b n h9) zyX4_fill zyvX4_fill zc4 g6 zq_374 (st := []) rfl rfl (by decide) (by decide) hl.1 (Nat.le_of_ble_eq_true rfl) dX2_become_26 (fun H locs I => ?_)
  refine z_aload_n C hl 0 rfl dX2_become_29 rfl ?_
  refine z_get C I 2 4 zc2 g2 (by decide) zq_85 (v := zr (zg S8 a0 4)) rfl dX2_become_30 ?_
  refine z_aload_n C hl 1 rfl dX2_become_33 rfl ?_
  refine z_get C I 2 4 zc2 g1 (by decide) zq_85 (v := zr (zg S8 a1 4)) rfl dX2_become_34 ?_
  obtain ⟨g10, h⟩ := zd_some h
  refine z_get C I 4 0 zc4 g10 (by decide) zq_66 (v := zr (zg S8 (zg S8 a1 4) 0)) rfl dX2_become_37 ?_
  refine z_aload_n C hl 1 rfl dX2_become_40 rfl ?_
  refine z_get C I 2 4 zc2 g1 (by decide) zq_85 (v := zr (zg S8 a1 4)) rfl dX2_become_41 ?_
  refine z_get C I 4 1 zc4 g10 (by decide) zq_68 (v := zi (zg S8 (zg S8 a1 4) 1)) rfl dX2_become_44 ?_
  obtain ⟨g11, h⟩ := zd_some h
  obtain ⟨r12, S13, h14, h⟩ := zcs h
  refine z_callVv C I (tX4_fill l D tc b n h14) zyX4_fill zyvX4_fill zc4 g11 zq_374 (st := []) rfl rfl (by decide) (by decide) hl.1 (Nat.le_of_ble_eq_true rfl) dX2_become_47 (fun H locs I => ?_)
  refine z_aload_n C hl 0 rfl dX2_become_50 rfl ?_
  refine z_aload_n C hl 1 rfl dX2_become_51 rfl ?_
  refine z_get C I 2 5 zc2 g1 (by decide) zq_87 (v := zi (zg S13 a1 5)) rfl dX2_become_52 ?_
  refine z_put C I 2 5 zc2 g2 (by decide) rfl zq_87 rfl (v := zi (zg S13 a1 5)) rfl dX2_become_55 (fun S15 e16 H locs I => ?_)
  have h := znb e16 h
  refine z_aload_n C hl 0 rfl dX2_become_58 rfl ?_
  refine z_aload_n C hl 1 rfl dX2_become_59 rfl ?_
  refine z_get C I 2 6 zc2 g1 (by decide) zq_89 (v := zi (zg S15 a1 6)) rfl dX2_become_60 ?_
  obtain ⟨g17, h⟩ := zd_some h
  refine z_put C I 2 6 zc2 g2 (by decide) rfl zq_89 g17 (v := zi (zg S15 a1 6)) rfl dX2_become_63 (fun S18 e19 H locs I => ?_)
  have h := znb e19 h
  refine z_aload_n C hl 0 rfl dX2_become_66 rfl ?_
  refine z_aload_n C hl 1 rfl dX2_become_67 rfl ?_
  refine z_get C I 2 7 zc2 g1 (by decide) zq_90 (v := zi (zg S18 a1 7)) rfl dX2_become_68 ?_
  refine z_put C I 2 7 zc2 g2 (by decide) rfl zq_90 rfl (v := zi (zg S18 a1 7)) rfl dX2_become_71 (fun S20 e21 H locs I => ?_)
  have h := znb e21 h
  refine z_aload_n C hl 0 rfl dX2_become_74 rfl ?_
  refine z_aload_n C hl 1 rfl dX2_become_75 rfl ?_
  refine z_get C I 2 8 zc2 g1 (by decide) zq_92 (v := zi (zg S20 a1 8)) rfl dX2_become_76 ?_
  refine z_put C I 2 8 zc2 g2 (by decide) rfl zq_92 rfl (v := zi (zg S20 a1 8)) rfl dX2_become_79 (fun S22 e23 H locs I => ?_)
  have h := znb e23 h
  exact z_vret C I hr hk h dX2_become_82

def fX2_isAtLeastAt (n : Nat) (S : zM) (a0 : Int32) (a1 : Int32) : Option (Int32 × zM) := zd (zo n 12 a0) <| zd (zo n 14 (zg S a0 3)) <| zca (fX4_versionNumber n S (zg S a0 3)) fun r3 S4 => zd (zo n 16 a1) <| if (r3 : Int32) < (zg S4 a1 0 : Int32) then (some (0, S4)) else (some (1, S4))
theorem tX2_isAtLeastAt (l : Launch) (D : va_G) (tc : Nat → ClassId) (b n : Nat) {S S' : zM} {a0 : Int32} {a1 : Int32} {r : Int32} (h : fX2_isAtLeastAt n S a0 a1 = some (r, S')) : zMi l D tc b n yX2_isAtLeastAt cX2_isAtLeastAt 2 .boolean 1 [zr a0, zr a1] S S' r := by
  refine zMi_of zyX2_isAtLeastAt (Nat.le_of_ble_eq_true rfl) (fun p e s m args below meth c H C hr hk ls hl I => ?_)
  have hl : zL b ls 2 [(0, zr a0), (1, zr a1)] := hl
  rw [fX2_isAtLeastAt] at h
  refine z_aload_n C hl 0 rfl dX2_isAtLeastAt_0 rfl ?_
  obtain ⟨g1, h⟩ := zd_some h
  refine z_get C I 2 3 zc2 g1 (by decide) zq_82 (v := zr (zg S a0 3)) rfl dX2_isAtLeastAt_1 ?_
  obtain ⟨g2, h⟩ := zd_some h
  obtain ⟨r3, S4, h5, h⟩ := zcs h
  refine z_callVi C I (tX4_versionNumber l D tc b n h5) zyX4_versionNumber zyvX4_versionNumber zc4 g2 zq_519 (st := []) rfl rfl (by decide) (by decide) hl.1 (Nat.le_of_ble_eq_true rfl) dX2_isAtLeastAt_4 (fun H locs I => ?_)
  refine z_aload_n C hl 1 rfl dX2_isAtLeastAt_7 rfl ?_
  obtain ⟨g6, h⟩ := zd_some h
  refine z_get C I 6 0 zc6 g6 (by decide) zq_209 (v := zi (zg S4 a1 0)) rfl dX2_isAtLeastAt_8 ?_
  refine z_icmp_lt C 18 dX2_isAtLeastAt_11 (by decide) (fun c7 => ?_) (fun c7 => ?_)
  · have h := zit c7 h
    refine z_iconst C (v := 0) dX2_isAtLeastAt_18 (by decide) ?_
    exact z_zret C I hr hk rfl h dX2_isAtLeastAt_19
  · have h := zif c7 h
    refine z_iconst C (v := 1) dX2_isAtLeastAt_14 (by decide) ?_
    refine z_goto C 19 dX2_isAtLeastAt_15 (by decide) ?_
    exact z_zret C I hr hk rfl h dX2_isAtLeastAt_19

def fX3_lay_2 (n : Nat) : Nat → zM → Int32 → Int32 → Int32 → Int32 → Option (Int32 × zM)
  | 0, _, _, _, _, _ => none
  | fu + 1, S, x0, x1, x2, x3 => if (60 : Int32) ≤ (x3 : Int32) then (zd (zo n 13 x0) <| zbd (zp S x0 1 0) fun S3 => zbd (zp S3 x0 2 x1) fun S5 => zbd (zp S5 x0 3 x2) fun S7 => some (0, S7)) else (zd (zo n 13 x0) <| zd (za n 0 (zg S x0 0) x3) <| zbd (zq S (zg S x0 0) x3 0) fun S11 => zbd (x3 + 1) fun v13 => fX3_lay_2 n fu S11 x0 x1 x2 v13)
theorem bX3_lay_2 {p : Program} {l : Launch} {e : Env} {s : State} {m : MethodId} {args : Array Value} {below : List Frame} {meth : Method} {c : Code} {D : va_G} {tc : Nat → ClassId} {b n : Nat} {S' : zM} {r : Int32} (C : zC p m c cX3_lay 4 s args yX3_lay.cls D tc) (hr : meth.sig.returnType = none) (hk : meth.locks = false) : ∀ (fu : Nat) (S : zM) (x0 : Int32) (x1 : Int32) (x2 : Int32) (x3 : Int32) (H : Heap) (locs : List Loc) (ls : Array Slot), fX3_lay_2 n fu S x0 x1 x2 x3 = some (r, S') → zI D tc b n S s H locs → zL b ls 4 [(0, zr x0), (1, zi x1), (2, zi x2), (3, zi x3)] → W p l e (zR 0) s m args below meth c H locs 0 0 (zQv D tc b n S' below args s) (zG b m 2 ls []) := by
  intro fu
  induction fu with
  | zero => intro S x0 x1 x2 x3 H locs ls h _ _; rw [fX3_lay_2] at h; cases h
  | succ fu ih =>
    intro S x0 x1 x2 x3 H locs ls h I hl
    rw [fX3_lay_2] at h
    refine z_iload_n C hl 3 rfl dX3_lay_2 rfl ?_
    refine z_bipush C (v := 60) dX3_lay_3 (by decide) ?_
    refine z_icmp_ge C 21 dX3_lay_5 (by decide) (fun c1 => ?_) (fun c1 => ?_)
    · have h := zit c1 h
      refine z_aload_n C hl 0 rfl dX3_lay_21 rfl ?_
      refine z_iconst C (v := 0) dX3_lay_22 (by decide) ?_
      obtain ⟨g2, h⟩ := zd_some h
      refine z_put C I 3 1 zc3 g2 (by decide) rfl zq_187 rfl (v := zi 0) rfl dX3_lay_23 (fun S3 e4 H locs I => ?_)
      have h := znb e4 h
      refine z_aload_n C hl 0 rfl dX3_lay_26 rfl ?_
      refine z_iload_n C hl 1 rfl dX3_lay_27 rfl ?_
      refine z_put C I 3 2 zc3 g2 (by decide) rfl zq_189 rfl (v := zi x1) rfl dX3_lay_28 (fun S5 e6 H locs I => ?_)
      have h := znb e6 h
      refine z_aload_n C hl 0 rfl dX3_lay_31 rfl ?_
      refine z_iload_n C hl 2 rfl dX3_lay_32 rfl ?_
      refine z_put C I 3 3 zc3 g2 (by decide) rfl zq_191 rfl (v := zi x2) rfl dX3_lay_33 (fun S7 e8 H locs I => ?_)
      have h := znb e8 h
      exact z_vret C I hr hk h dX3_lay_36
    · have h := zif c1 h
      refine z_aload_n C hl 0 rfl dX3_lay_8 rfl ?_
      obtain ⟨g9, h⟩ := zd_some h
      refine z_get C I 3 0 zc3 g9 (by decide) zq_184 (v := zr (zg S x0 0)) rfl dX3_lay_9 ?_
      refine z_iload_n C hl 3 rfl dX3_lay_12 rfl ?_
      refine z_iconst C (v := 0) dX3_lay_13 (by decide) ?_
      obtain ⟨g10, h⟩ := zd_some h
      refine z_iast C I g10 dX3_lay_14 (fun S11 e12 H locs I => ?_)
      have h := znb e12 h
      refine z_iinc C hl 3 (v := x3 + 1) rfl dX3_lay_15 rfl (by decide) (fun v13 => [(3, zi v13), (0, zr x0), (1, zi x1), (2, zi x2)]) (fun _ => rfl) (fun v13 e14 ls hl => ?_)
      have h := znb e14 h
      refine z_goto C 2 dX3_lay_18 (by decide) ?_
      exact ih _ _ _ _ _ _ _ _ h I (zL_sub hl [1, 2, 3, 0] rfl)

def fX3_lay (n : Nat) (S : zM) (a0 : Int32) (a1 : Int32) (a2 : Int32) : Option (Int32 × zM) := zbd (0) fun v1 => fX3_lay_2 n 1000 S a0 a1 a2 v1
theorem tX3_lay (l : Launch) (D : va_G) (tc : Nat → ClassId) (b n : Nat) {S S' : zM} {a0 : Int32} {a1 : Int32} {a2 : Int32} {r : Int32} (h : fX3_lay n S a0 a1 a2 = some (r, S')) : zMv l D tc b n yX3_lay cX3_lay 4 0 [zr a0, zi a1, zi a2] S S' := by
  refine zMv_of zyX3_lay (Nat.le_of_ble_eq_true rfl) (fun p e s m args below meth c H C hr hk ls hl I => ?_)
  have hl : zL b ls 4 [(0, zr a0), (1, zi a1), (2, zi a2)] := hl
  rw [fX3_lay] at h
  refine z_iconst C (v := 0) dX3_lay_0 (by decide) ?_
  refine z_istore_n C hl dX3_lay_1 rfl (by decide) (fun v1 => [(3, zi v1), (0, zr a0), (1, zi a1), (2, zi a2)]) (fun _ => rfl) (fun v1 e2 ls hl => ?_)
  have h := znb e2 h
  exact bX3_lay_2 C hr hk 1000 _ _ _ _ _ _ _ _ h I (zL_sub hl [1, 2, 3, 0] rfl)

def fX3_hasPlaces (n : Nat) (S : zM) (a0 : Int32) (a1 : Int32) (a2 : Int32) : Option (Int32 × zM) := if (a1 : Int32) < 0 then (some (0, S)) else (if (a2 : Int32) < 0 then (some (0, S)) else (zd (zo n 13 a0) <| if ((zg S a0 3) - a2 : Int32) < (a1 : Int32) then (some (0, S)) else (some (1, S))))
theorem tX3_hasPlaces (l : Launch) (D : va_G) (tc : Nat → ClassId) (b n : Nat) {S S' : zM} {a0 : Int32} {a1 : Int32} {a2 : Int32} {r : Int32} (h : fX3_hasPlaces n S a0 a1 a2 = some (r, S')) : zMi l D tc b n yX3_hasPlaces cX3_hasPlaces 3 .boolean 0 [zr a0, zi a1, zi a2] S S' r := by
  refine zMi_of zyX3_hasPlaces (Nat.le_of_ble_eq_true rfl) (fun p e s m args below meth c H C hr hk ls hl I => ?_)
  have hl : zL b ls 3 [(0, zr a0), (1, zi a1), (2, zi a2)] := hl
  rw [fX3_hasPlaces] at h
  refine z_iload_n C hl 1 rfl dX3_hasPlaces_0 rfl ?_
  refine z_if_lt C 22 dX3_hasPlaces_1 (by decide) (fun c1 => ?_) (fun c1 => ?_)
  · have h := zit c1 h
    refine z_iconst C (v := 0) dX3_hasPlaces_22 (by decide) ?_
    exact z_zret C I hr hk rfl h dX3_hasPlaces_23
  · have h := zif c1 h
    refine z_iload_n C hl 2 rfl dX3_hasPlaces_4 rfl ?_
    refine z_if_lt C 22 dX3_hasPlaces_5 (by decide) (fun c2 => ?_) (fun c2 => ?_)
    · have h := zit c2 h
      refine z_iconst C (v := 0) dX3_hasPlaces_22 (by decide) ?_
      exact z_zret C I hr hk rfl h dX3_hasPlaces_23
    · have h := zif c2 h
      refine z_iload_n C hl 1 rfl dX3_hasPlaces_8 rfl ?_
      refine z_aload_n C hl 0 rfl dX3_hasPlaces_9 rfl ?_
      obtain ⟨g3, h⟩ := zd_some h
      refine z_get C I 3 3 zc3 g3 (by decide) zq_191 (v := zi (zg S a0 3)) rfl dX3_hasPlaces_10 ?_
      refine z_iload_n C hl 2 rfl dX3_hasPlaces_13 rfl ?_
      refine z_isub C dX3_hasPlaces_14 ?_
      refine z_icmp_gt C 22 dX3_hasPlaces_15 (by decide) (fun c4 => ?_) (fun c4 => ?_)
      · have h := zit c4 h
        refine z_iconst C (v := 0) dX3_hasPlaces_22 (by decide) ?_
        exact z_zret C I hr hk rfl h dX3_hasPlaces_23
      · have h := zif c4 h
        refine z_iconst C (v := 1) dX3_hasPlaces_18 (by decide) ?_
        refine z_goto C 23 dX3_hasPlaces_19 (by decide) ?_
        exact z_zret C I hr hk rfl h dX3_hasPlaces_23

def fX3_put_31 (n : Nat) (S : zM) (x0 : Int32) (x1 : Int32) (y0 : Int32) (y1 : Int32) (y2 : Int32) : Option (Int32 × zM) := zd (za n 0 y2 y1) <| zbd (zq S y2 y1 y0) fun S2 => zd (zo n 13 x0) <| zd (za n 0 (zg S2 x0 0) x1) <| some (ze S2 (zg S2 x0 0) x1, S2)
theorem bX3_put_31 {p : Program} {l : Launch} {e : Env} {s : State} {m : MethodId} {args : Array Value} {below : List Frame} {meth : Method} {c : Code} {D : va_G} {tc : Nat → ClassId} {b n : Nat} {S' : zM} {r : Int32} (C : zC p m c cX3_put 3 s args yX3_put.cls D tc) (hr : meth.sig.returnType = some .int) (hk : meth.locks = false) : ∀ (S : zM) (x0 : Int32) (x1 : Int32) (y0 : Int32) (y1 : Int32) (y2 : Int32) (H : Heap) (locs : List Loc) (ls : Array Slot), fX3_put_31 n S x0 x1 y0 y1 y2 = some (r, S') → zI D tc b n S s H locs → zL b ls 3 [(0, zr x0), (1, zi x1)] → W p l e (zR 0) s m args below meth c H locs 0 0 (zQi D tc b n S' r below args s) (zG b m 31 ls [zi y0, zi y1, zr y2]) := by
  intro S x0 x1 y0 y1 y2 H locs ls h I hl
  rw [fX3_put_31] at h
  obtain ⟨g1, h⟩ := zd_some h
  refine z_iast C I g1 dX3_put_31 (fun S2 e3 H locs I => ?_)
  have h := znb e3 h
  refine z_aload_n C hl 0 rfl dX3_put_32 rfl ?_
  obtain ⟨g4, h⟩ := zd_some h
  refine z_get C I 3 0 zc3 g4 (by decide) zq_184 (v := zr (zg S2 x0 0)) rfl dX3_put_33 ?_
  refine z_iload_n C hl 1 rfl dX3_put_36 rfl ?_
  obtain ⟨g5, h⟩ := zd_some h
  refine z_iald C I g5 dX3_put_37 ?_
  exact z_iret C I hr hk h dX3_put_38

def fX3_put (n : Nat) (S : zM) (a0 : Int32) (a1 : Int32) (a2 : Int32) : Option (Int32 × zM) := zd (zo n 13 a0) <| if (zg S a0 2 : Int32) = 0 then (fX3_put_31 n S a0 a1 ((a2 : Int32).toInt8.toInt32) a1 (zg S a0 0)) else (if (zg S a0 2 : Int32) = (1 : Int32) then (fX3_put_31 n S a0 a1 ((a2 : Int32).toInt16.toInt32) a1 (zg S a0 0)) else (fX3_put_31 n S a0 a1 a2 a1 (zg S a0 0)))
theorem tX3_put (l : Launch) (D : va_G) (tc : Nat → ClassId) (b n : Nat) {S S' : zM} {a0 : Int32} {a1 : Int32} {a2 : Int32} {r : Int32} (h : fX3_put n S a0 a1 a2 = some (r, S')) : zMi l D tc b n yX3_put cX3_put 3 .int 0 [zr a0, zi a1, zi a2] S S' r := by
  refine zMi_of zyX3_put (Nat.le_of_ble_eq_true rfl) (fun p e s m args below meth c H C hr hk ls hl I => ?_)
  have hl : zL b ls 3 [(0, zr a0), (1, zi a1), (2, zi a2)] := hl
  rw [fX3_put] at h
  refine z_aload_n C hl 0 rfl dX3_put_0 rfl ?_
  obtain ⟨g1, h⟩ := zd_some h
  refine z_get C I 3 0 zc3 g1 (by decide) zq_184 (v := zr (zg S a0 0)) rfl dX3_put_1 ?_
  refine z_iload_n C hl 1 rfl dX3_put_4 rfl ?_
  refine z_aload_n C hl 0 rfl dX3_put_5 rfl ?_
  refine z_get C I 3 2 zc3 g1 (by decide) zq_189 (v := zi (zg S a0 2)) rfl dX3_put_6 ?_
  refine z_if_ne C 17 dX3_put_9 (by decide) (fun c2 => ?_) (fun c2 => ?_)
  · have h := zif c2 h
    refine z_aload_n C hl 0 rfl dX3_put_17 rfl ?_
    refine z_get C I 3 2 zc3 g1 (by decide) zq_189 (v := zi (zg S a0 2)) rfl dX3_put_18 ?_
    refine z_iconst C (v := 1) dX3_put_21 (by decide) ?_
    refine z_icmp_ne C 30 dX3_put_22 (by decide) (fun c3 => ?_) (fun c3 => ?_)
    · have h := zif c3 h
      refine z_iload_n C hl 2 rfl dX3_put_30 rfl ?_
      exact bX3_put_31 C hr hk _ _ _ _ _ _ _ _ _ h I (zL_sub hl [0, 1] rfl)
    · have h := zit c3 h
      refine z_iload_n C hl 2 rfl dX3_put_25 rfl ?_
      refine z_i2s C dX3_put_26 ?_
      refine z_goto C 31 dX3_put_27 (by decide) ?_
      exact bX3_put_31 C hr hk _ _ _ _ _ _ _ _ _ h I (zL_sub hl [0, 1] rfl)
  · have h := zit c2 h
    refine z_iload_n C hl 2 rfl dX3_put_12 rfl ?_
    refine z_i2b C dX3_put_13 ?_
    refine z_goto C 31 dX3_put_14 (by decide) ?_
    exact bX3_put_31 C hr hk _ _ _ _ _ _ _ _ _ h I (zL_sub hl [0, 1] rfl)

def fX3_holdsRisingShares_5 (n : Nat) : Nat → zM → Int32 → Int32 → Int32 → Int32 → Int32 → Option (Int32 × zM)
  | 0, _, _, _, _, _, _ => none
  | fu + 1, S, x0, x1, x2, x3, x4 => if (x1 + x2 : Int32) ≤ (x4 : Int32) then (some (1, S)) else (zd (zo n 13 x0) <| zd (za n 0 (zg S x0 0) x4) <| if (ze S (zg S x0 0) x4 : Int32) ≤ (x3 : Int32) then (some (0, S)) else (if (ze S (zg S x0 0) x4 : Int32) ≤ (100 : Int32) then (zbd (ze S (zg S x0 0) x4) fun v6 => zbd (x4 + 1) fun v8 => fX3_holdsRisingShares_5 n fu S x0 x1 x2 v6 v8) else (some (0, S))))
theorem bX3_holdsRisingShares_5 {p : Program} {l : Launch} {e : Env} {s : State} {m : MethodId} {args : Array Value} {below : List Frame} {meth : Method} {c : Code} {D : va_G} {tc : Nat → ClassId} {b n : Nat} {S' : zM} {r : Int32} (C : zC p m c cX3_holdsRisingShares 5 s args yX3_holdsRisingShares.cls D tc) (hr : meth.sig.returnType = some .boolean) (hk : meth.locks = false) : ∀ (fu : Nat) (S : zM) (x0 : Int32) (x1 : Int32) (x2 : Int32) (x3 : Int32) (x4 : Int32) (H : Heap) (locs : List Loc) (ls : Array Slot), fX3_holdsRisingShares_5 n fu S x0 x1 x2 x3 x4 = some (r, S') → zI D tc b n S s H locs → zL b ls 5 [(0, zr x0), (1, zi x1), (2, zi x2), (3, zi x3), (4, zi x4)] → W p l e (zR 0) s m args below meth c H locs 0 0 (zQi D tc b n S' r below args s) (zG b m 5 ls []) := by
  intro fu
  induction fu with
  | zero => intro S x0 x1 x2 x3 x4 H locs ls h _ _; rw [fX3_holdsRisingShares_5] at h; cases h
  | succ fu ih =>
    intro S x0 x1 x2 x3 x4 H locs ls h I hl
    rw [fX3_holdsRisingShares_5] at h
    refine z_iload C hl 4 rfl dX3_holdsRisingShares_5 ?_
    refine z_iload_n C hl 1 rfl dX3_holdsRisingShares_7 rfl ?_
    refine z_iload_n C hl 2 rfl dX3_holdsRisingShares_8 rfl ?_
    refine z_iadd C dX3_holdsRisingShares_9 ?_
    refine z_icmp_ge C 52 dX3_holdsRisingShares_10 (by decide) (fun c1 => ?_) (fun c1 => ?_)
    · have h := zit c1 h
      refine z_iconst C (v := 1) dX3_holdsRisingShares_52 (by decide) ?_
      exact z_zret C I hr hk rfl h dX3_holdsRisingShares_53
    · have h := zif c1 h
      refine z_aload_n C hl 0 rfl dX3_holdsRisingShares_13 rfl ?_
      obtain ⟨g2, h⟩ := zd_some h
      refine z_get C I 3 0 zc3 g2 (by decide) zq_184 (v := zr (zg S x0 0)) rfl dX3_holdsRisingShares_14 ?_
      refine z_iload C hl 4 rfl dX3_holdsRisingShares_17 ?_
      obtain ⟨g3, h⟩ := zd_some h
      refine z_iald C I g3 dX3_holdsRisingShares_19 ?_
      refine z_iload_n C hl 3 rfl dX3_holdsRisingShares_20 rfl ?_
      refine z_icmp_le C 36 dX3_holdsRisingShares_21 (by decide) (fun c4 => ?_) (fun c4 => ?_)
      · have h := zit c4 h
        refine z_iconst C (v := 0) dX3_holdsRisingShares_36 (by decide) ?_
        exact z_zret C I hr hk rfl h dX3_holdsRisingShares_37
      · have h := zif c4 h
        refine z_aload_n C hl 0 rfl dX3_holdsRisingShares_24 rfl ?_
        refine z_get C I 3 0 zc3 g2 (by decide) zq_184 (v := zr (zg S x0 0)) rfl dX3_holdsRisingShares_25 ?_
        refine z_iload C hl 4 rfl dX3_holdsRisingShares_28 ?_
        refine z_iald C I g3 dX3_holdsRisingShares_30 ?_
        refine z_bipush C (v := 100) dX3_holdsRisingShares_31 (by decide) ?_
        refine z_icmp_le C 38 dX3_holdsRisingShares_33 (by decide) (fun c5 => ?_) (fun c5 => ?_)
        · have h := zit c5 h
          refine z_aload_n C hl 0 rfl dX3_holdsRisingShares_38 rfl ?_
          refine z_get C I 3 0 zc3 g2 (by decide) zq_184 (v := zr (zg S x0 0)) rfl dX3_holdsRisingShares_39 ?_
          refine z_iload C hl 4 rfl dX3_holdsRisingShares_42 ?_
          refine z_iald C I g3 dX3_holdsRisingShares_44 ?_
          refine z_istore_n C hl dX3_holdsRisingShares_45 rfl (by decide) (fun v6 => [(3, zi v6), (0, zr x0), (1, zi x1), (2, zi x2), (4, zi x4)]) (fun _ => rfl) (fun v6 e7 ls hl => ?_)
          have h := znb e7 h
          refine z_iinc C hl 4 (v := x4 + 1) rfl dX3_holdsRisingShares_46 rfl (by decide) (fun v8 => [(4, zi v8), (3, zi v6), (0, zr x0), (1, zi x1), (2, zi x2)]) (fun _ => rfl) (fun v8 e9 ls hl => ?_)
          have h := znb e9 h
          refine z_goto C 5 dX3_holdsRisingShares_49 (by decide) ?_
          exact ih _ _ _ _ _ _ _ _ _ h I (zL_sub hl [2, 3, 4, 1, 0] rfl)
        · have h := zif c5 h
          refine z_iconst C (v := 0) dX3_holdsRisingShares_36 (by decide) ?_
          exact z_zret C I hr hk rfl h dX3_holdsRisingShares_37

def fX3_holdsRisingShares (n : Nat) (S : zM) (a0 : Int32) (a1 : Int32) (a2 : Int32) : Option (Int32 × zM) := zbd (0) fun v1 => zbd (a1) fun v3 => fX3_holdsRisingShares_5 n 1000 S a0 a1 a2 v1 v3
theorem tX3_holdsRisingShares (l : Launch) (D : va_G) (tc : Nat → ClassId) (b n : Nat) {S S' : zM} {a0 : Int32} {a1 : Int32} {a2 : Int32} {r : Int32} (h : fX3_holdsRisingShares n S a0 a1 a2 = some (r, S')) : zMi l D tc b n yX3_holdsRisingShares cX3_holdsRisingShares 5 .boolean 0 [zr a0, zi a1, zi a2] S S' r := by
  refine zMi_of zyX3_holdsRisingShares (Nat.le_of_ble_eq_true rfl) (fun p e s m args below meth c H C hr hk ls hl I => ?_)
  have hl : zL b ls 5 [(0, zr a0), (1, zi a1), (2, zi a2)] := hl
  rw [fX3_holdsRisingShares] at h
  refine z_iconst C (v := 0) dX3_holdsRisingShares_0 (by decide) ?_
  refine z_istore_n C hl dX3_holdsRisingShares_1 rfl (by decide) (fun v1 => [(3, zi v1), (0, zr a0), (1, zi a1), (2, zi a2)]) (fun _ => rfl) (fun v1 e2 ls hl => ?_)
  have h := znb e2 h
  refine z_iload_n C hl 2 rfl dX3_holdsRisingShares_2 rfl ?_
  refine z_istore C hl dX3_holdsRisingShares_3 (by decide) (fun v3 => [(4, zi v3), (3, zi v1), (0, zr a0), (1, zi a1), (2, zi a2)]) (fun _ => rfl) (fun v3 e4 ls hl => ?_)
  have h := znb e4 h
  exact bX3_holdsRisingShares_5 C hr hk 1000 _ _ _ _ _ _ _ _ _ h I (zL_sub hl [2, 3, 4, 1, 0] rfl)

def fX5_exchange_25 (n : Nat) (S : zM) (x0 : Int32) (x1 : Int32) (x2 : Int32) (x3 : Int32) (x4 : Int32) : Option (Int32 × zM) := zd (zo n 15 x0) <| zd (za n 5 (zg S x0 0) x1) <| zd (za n 0 (ze S (zg S x0 0) x1) x2) <| zbd (zq S (ze S (zg S x0 0) x1) x2 x3) fun S4 => some (x4, S4)
theorem bX5_exchange_25 {p : Program} {l : Launch} {e : Env} {s : State} {m : MethodId} {args : Array Value} {below : List Frame} {meth : Method} {c : Code} {D : va_G} {tc : Nat → ClassId} {b n : Nat} {S' : zM} {r : Int32} (C : zC p m c cX5_exchange 5 s args yX5_exchange.cls D tc) (hr : meth.sig.returnType = some .int) (hk : meth.locks = false) : ∀ (S : zM) (x0 : Int32) (x1 : Int32) (x2 : Int32) (x3 : Int32) (x4 : Int32) (H : Heap) (locs : List Loc) (ls : Array Slot), fX5_exchange_25 n S x0 x1 x2 x3 x4 = some (r, S') → zI D tc b n S s H locs → zL b ls 5 [(0, zr x0), (1, zi x1), (2, zi x2), (3, zi x3), (4, zi x4)] → W p l e (zR 0) s m args below meth c H locs 0 0 (zQi D tc b n S' r below args s) (zG b m 25 ls []) := by
  intro S x0 x1 x2 x3 x4 H locs ls h I hl
  rw [fX5_exchange_25] at h
  refine z_aload_n C hl 0 rfl dX5_exchange_25 rfl ?_
  obtain ⟨g1, h⟩ := zd_some h
  refine z_get C I 5 0 zc5 g1 (by decide) zq_32 (v := zr (zg S x0 0)) rfl dX5_exchange_26 ?_
  refine z_iload_n C hl 1 rfl dX5_exchange_29 rfl ?_
  obtain ⟨g2, h⟩ := zd_some h
  refine z_aald C I 5 (by decide) g2 dX5_exchange_30 ?_
  refine z_iload_n C hl 2 rfl dX5_exchange_31 rfl ?_
  refine z_iload_n C hl 3 rfl dX5_exchange_32 rfl ?_
  obtain ⟨g3, h⟩ := zd_some h
  refine z_iast C I g3 dX5_exchange_33 (fun S4 e5 H locs I => ?_)
  have h := znb e5 h
  refine z_iload C hl 4 rfl dX5_exchange_34 ?_
  exact z_iret C I hr hk h dX5_exchange_36

def fX5_exchange (n : Nat) (S : zM) (a0 : Int32) (a1 : Int32) (a2 : Int32) (a3 : Int32) : Option (Int32 × zM) := zd (zo n 15 a0) <| zd (za n 5 (zg S a0 0) a1) <| zd (za n 0 (ze S (zg S a0 0) a1) a2) <| zbd (ze S (ze S (zg S a0 0) a1) a2) fun v4 => if (v4 : Int32) = 0 then (zbd (zp S a0 4 ((zg S a0 4) + 1)) fun S7 => fX5_exchange_25 n S7 a0 a1 a2 a3 v4) else (fX5_exchange_25 n S a0 a1 a2 a3 v4)
theorem tX5_exchange (l : Launch) (D : va_G) (tc : Nat → ClassId) (b n : Nat) {S S' : zM} {a0 : Int32} {a1 : Int32} {a2 : Int32} {a3 : Int32} {r : Int32} (h : fX5_exchange n S a0 a1 a2 a3 = some (r, S')) : zMi l D tc b n yX5_exchange cX5_exchange 5 .int 0 [zr a0, zi a1, zi a2, zi a3] S S' r := by
  refine zMi_of zyX5_exchange (Nat.le_of_ble_eq_true rfl) (fun p e s m args below meth c H C hr hk ls hl I => ?_)
  have hl : zL b ls 5 [(0, zr a0), (1, zi a1), (2, zi a2), (3, zi a3)] := hl
  rw [fX5_exchange] at h
  refine z_aload_n C hl 0 rfl dX5_exchange_0 rfl ?_
  obtain ⟨g1, h⟩ := zd_some h
  refine z_get C I 5 0 zc5 g1 (by decide) zq_32 (v := zr (zg S a0 0)) rfl dX5_exchange_1 ?_
  refine z_iload_n C hl 1 rfl dX5_exchange_4 rfl ?_
  obtain ⟨g2, h⟩ := zd_some h
  refine z_aald C I 5 (by decide) g2 dX5_exchange_5 ?_
  refine z_iload_n C hl 2 rfl dX5_exchange_6 rfl ?_
  obtain ⟨g3, h⟩ := zd_some h
  refine z_iald C I g3 dX5_exchange_7 ?_
  refine z_istore C hl dX5_exchange_8 (by decide) (fun v4 => [(4, zi v4), (0, zr a0), (1, zi a1), (2, zi a2), (3, zi a3)]) (fun _ => rfl) (fun v4 e5 ls hl => ?_)
  have h := znb e5 h
  refine z_iload C hl 0 rfl dX5_exchange_10 ?_
  refine z_if_ne C 25 dX5_exchange_12 (by decide) (fun c6 => ?_) (fun c6 => ?_)
  · have h := zif c6 h
    exact bX5_exchange_25 C hr hk _ _ _ _ _ _ _ _ _ h I (zL_sub hl [1, 2, 3, 4, 0] rfl)
  · have h := zit c6 h
    refine z_aload_n C hl 1 rfl dX5_exchange_15 rfl ?_
    refine z_dup C dX5_exchange_16 rfl ?_
    refine z_get C I 5 4 zc5 g1 (by decide) zq_38 (v := zi (zg S a0 4)) rfl dX5_exchange_17 ?_
    refine z_iconst C (v := 1) dX5_exchange_20 (by decide) ?_
    refine z_iadd C dX5_exchange_21 ?_
    refine z_put C I 5 4 zc5 g1 (by decide) rfl zq_38 rfl (v := zi ((zg S a0 4) + 1)) rfl dX5_exchange_22 (fun S7 e8 H locs I => ?_)
    have h := znb e8 h
    exact bX5_exchange_25 C hr hk _ _ _ _ _ _ _ _ _ h I (zL_sub hl [1, 2, 3, 4, 0] rfl)

def fX5_chooseNext_133 (n : Nat) (k11 : zM → Int32 → Int32 → Int32 → Int32 → Option (Int32 × zM)) (S : zM) (x0 : Int32) (x1 : Int32) (x2 : Int32) (x3 : Int32) : Option (Int32 × zM) := zbd (x3 + 1) fun v1 => k11 S x0 x1 x2 v1
theorem bX5_chooseNext_133 {p : Program} {l : Launch} {e : Env} {s : State} {m : MethodId} {args : Array Value} {below : List Frame} {meth : Method} {c : Code} {D : va_G} {tc : Nat → ClassId} {b n : Nat} {S' : zM} {r : Int32} (C : zC p m c cX5_chooseNext 6 s args yX5_chooseNext.cls D tc) (hr : meth.sig.returnType = none) (hk : meth.locks = false) {k11 : zM → Int32 → Int32 → Int32 → Int32 → Option (Int32 × zM)} (K11 : ∀ (S : zM) (x0 : Int32) (x1 : Int32) (x2 : Int32) (x3 : Int32) (H : Heap) (locs : List Loc) (ls : Array Slot), k11 S x0 x1 x2 x3 = some (r, S') → zI D tc b n S s H locs → zL b ls 6 [(0, zr x0), (1, zi x1), (2, zi x2), (3, zi x3)] → W p l e (zR 0) s m args below meth c H locs 0 0 (zQv D tc b n S' below args s) (zG b m 11 ls [])) : ∀ (S : zM) (x0 : Int32) (x1 : Int32) (x2 : Int32) (x3 : Int32) (H : Heap) (locs : List Loc) (ls : Array Slot), fX5_chooseNext_133 n k11 S x0 x1 x2 x3 = some (r, S') → zI D tc b n S s H locs → zL b ls 6 [(0, zr x0), (1, zi x1), (2, zi x2), (3, zi x3)] → W p l e (zR 0) s m args below meth c H locs 0 0 (zQv D tc b n S' below args s) (zG b m 133 ls []) := by
  intro S x0 x1 x2 x3 H locs ls h I hl
  rw [fX5_chooseNext_133] at h
  refine z_iinc C hl 3 (v := x3 + 1) rfl dX5_chooseNext_133 rfl (by decide) (fun v1 => [(3, zi v1), (0, zr x0), (1, zi x1), (2, zi x2)]) (fun _ => rfl) (fun v1 e2 ls hl => ?_)
  have h := znb e2 h
  refine z_goto C 11 dX5_chooseNext_136 (by decide) ?_
  exact K11 _ _ _ _ _ _ _ _ h I (zL_sub hl [1, 2, 3, 0] rfl)

def fX5_chooseNext_110 (n : Nat) (k11 : zM → Int32 → Int32 → Int32 → Int32 → Option (Int32 × zM)) (S : zM) (x0 : Int32) (x1 : Int32) (x2 : Int32) (x3 : Int32) (x4 : Int32) (x5 : Int32) : Option (Int32 × zM) := zd (zo n 15 x0) <| zd (za n 0 (zg S x0 1) x1) <| zbd (zq S (zg S x0 1) x1 x4) fun S3 => zd (za n 0 (zg S3 x0 2) x1) <| zbd (zq S3 (zg S3 x0 2) x1 x5) fun S6 => zd (za n 0 (zg S6 x0 3) x1) <| zbd (zq S6 (zg S6 x0 3) x1 x3) fun S9 => fX5_chooseNext_133 n k11 S9 x0 x1 x2 x3
theorem bX5_chooseNext_110 {p : Program} {l : Launch} {e : Env} {s : State} {m : MethodId} {args : Array Value} {below : List Frame} {meth : Method} {c : Code} {D : va_G} {tc : Nat → ClassId} {b n : Nat} {S' : zM} {r : Int32} (C : zC p m c cX5_chooseNext 6 s args yX5_chooseNext.cls D tc) (hr : meth.sig.returnType = none) (hk : meth.locks = false) {k11 : zM → Int32 → Int32 → Int32 → Int32 → Option (Int32 × zM)} (K11 : ∀ (S : zM) (x0 : Int32) (x1 : Int32) (x2 : Int32) (x3 : Int32) (H : Heap) (locs : List Loc) (ls : Array Slot), k11 S x0 x1 x2 x3 = some (r, S') → zI D tc b n S s H locs → zL b ls 6 [(0, zr x0), (1, zi x1), (2, zi x2), (3, zi x3)] → W p l e (zR 0) s m args below meth c H locs 0 0 (zQv D tc b n S' below args s) (zG b m 11 ls [])) : ∀ (S : zM) (x0 : Int32) (x1 : Int32) (x2 : Int32) (x3 : Int32) (x4 : Int32) (x5 : Int32) (H : Heap) (locs : List Loc) (ls : Array Slot), fX5_chooseNext_110 n k11 S x0 x1 x2 x3 x4 x5 = some (r, S') → zI D tc b n S s H locs → zL b ls 6 [(0, zr x0), (1, zi x1), (2, zi x2), (3, zi x3), (4, zi x4), (5, zi x5)] → W p l e (zR 0) s m args below meth c H locs 0 0 (zQv D tc b n S' below args s) (zG b m 110 ls []) := by
  intro S x0 x1 x2 x3 x4 x5 H locs ls h I hl
  rw [fX5_chooseNext_110] at h
  refine z_aload_n C hl 0 rfl dX5_chooseNext_110 rfl ?_
  obtain ⟨g1, h⟩ := zd_some h
  refine z_get C I 5 1 zc5 g1 (by decide) zq_33 (v := zr (zg S x0 1)) rfl dX5_chooseNext_111 ?_
  refine z_iload_n C hl 1 rfl dX5_chooseNext_114 rfl ?_
  refine z_iload C hl 4 rfl dX5_chooseNext_115 ?_
  obtain ⟨g2, h⟩ := zd_some h
  refine z_iast C I g2 dX5_chooseNext_117 (fun S3 e4 H locs I => ?_)
  have h := znb e4 h
  refine z_aload_n C hl 0 rfl dX5_chooseNext_118 rfl ?_
  refine z_get C I 5 2 zc5 g1 (by decide) zq_35 (v := zr (zg S3 x0 2)) rfl dX5_chooseNext_119 ?_
  refine z_iload_n C hl 1 rfl dX5_chooseNext_122 rfl ?_
  refine z_iload C hl 5 rfl dX5_chooseNext_123 ?_
  obtain ⟨g5, h⟩ := zd_some h
  refine z_iast C I g5 dX5_chooseNext_125 (fun S6 e7 H locs I => ?_)
  have h := znb e7 h
  refine z_aload_n C hl 0 rfl dX5_chooseNext_126 rfl ?_
  refine z_get C I 5 3 zc5 g1 (by decide) zq_37 (v := zr (zg S6 x0 3)) rfl dX5_chooseNext_127 ?_
  refine z_iload_n C hl 1 rfl dX5_chooseNext_130 rfl ?_
  refine z_iload_n C hl 3 rfl dX5_chooseNext_131 rfl ?_
  obtain ⟨g8, h⟩ := zd_some h
  refine z_iast C I g8 dX5_chooseNext_132 (fun S9 e10 H locs I => ?_)
  have h := znb e10 h
  exact bX5_chooseNext_133 C hr hk K11 _ _ _ _ _ _ _ _ h I (zL_sub hl [0, 1, 2, 3] rfl)

def fX5_chooseNext_11 (n : Nat) : Nat → zM → Int32 → Int32 → Int32 → Int32 → Option (Int32 × zM)
  | 0, _, _, _, _, _ => none
  | fu + 1, S, x0, x1, x2, x3 => if (x2 : Int32) < (x3 : Int32) then (some (0, S)) else (zd (zo n 15 x0) <| zd (za n 5 (zg S x0 0) x1) <| zd (za n 0 (ze S (zg S x0 0) x1) x3) <| if (ze S (ze S (zg S x0 0) x1) x3 : Int32) = 0 then (fX5_chooseNext_133 n (fX5_chooseNext_11 n fu) S x0 x1 x2 x3) else (zd (za n 0 (zg S x0 1) x3) <| if (ze S (zg S x0 1) x3 : Int32) = ((-1) : Int32) then (fX5_chooseNext_133 n (fX5_chooseNext_11 n fu) S x0 x1 x2 x3) else (zbd ((ze S (ze S (zg S x0 0) x1) x3) + (ze S (zg S x0 1) x3)) fun v8 => zd (za n 0 (zg S x0 2) x3) <| zbd (1 + (ze S (zg S x0 2) x3)) fun v11 => zd (za n 0 (zg S x0 1) x1) <| if (ze S (zg S x0 1) x1 : Int32) = ((-1) : Int32) then (fX5_chooseNext_110 n (fX5_chooseNext_11 n fu) S x0 x1 x2 x3 v8 v11) else (if (v8 : Int32) < (ze S (zg S x0 1) x1 : Int32) then (fX5_chooseNext_110 n (fX5_chooseNext_11 n fu) S x0 x1 x2 x3 v8 v11) else (if (v8 : Int32) = (ze S (zg S x0 1) x1 : Int32) then (zd (za n 0 (zg S x0 2) x1) <| if (ze S (zg S x0 2) x1 : Int32) ≤ (v11 : Int32) then (fX5_chooseNext_133 n (fX5_chooseNext_11 n fu) S x0 x1 x2 x3) else (fX5_chooseNext_110 n (fX5_chooseNext_11 n fu) S x0 x1 x2 x3 v8 v11)) else (fX5_chooseNext_133 n (fX5_chooseNext_11 n fu) S x0 x1 x2 x3))))))
theorem bX5_chooseNext_11 {p : Program} {l : Launch} {e : Env} {s : State} {m : MethodId} {args : Array Value} {below : List Frame} {meth : Method} {c : Code} {D : va_G} {tc : Nat → ClassId} {b n : Nat} {S' : zM} {r : Int32} (C : zC p m c cX5_chooseNext 6 s args yX5_chooseNext.cls D tc) (hr : meth.sig.returnType = none) (hk : meth.locks = false) : ∀ (fu : Nat) (S : zM) (x0 : Int32) (x1 : Int32) (x2 : Int32) (x3 : Int32) (H : Heap) (locs : List Loc) (ls : Array Slot), fX5_chooseNext_11 n fu S x0 x1 x2 x3 = some (r, S') → zI D tc b n S s H locs → zL b ls 6 [(0, zr x0), (1, zi x1), (2, zi x2), (3, zi x3)] → W p l e (zR 0) s m args below meth c H locs 0 0 (zQv D tc b n S' below args s) (zG b m 11 ls []) := by
  intro fu
  induction fu with
  | zero => intro S x0 x1 x2 x3 H locs ls h _ _; rw [fX5_chooseNext_11] at h; cases h
  | succ fu ih =>
    intro S x0 x1 x2 x3 H locs ls h I hl
    rw [fX5_chooseNext_11] at h
    refine z_iload_n C hl 3 rfl dX5_chooseNext_11 rfl ?_
    refine z_iload_n C hl 2 rfl dX5_chooseNext_12 rfl ?_
    refine z_icmp_gt C 139 dX5_chooseNext_13 (by decide) (fun c1 => ?_) (fun c1 => ?_)
    · have h := zit c1 h
      exact z_vret C I hr hk h dX5_chooseNext_139
    · have h := zif c1 h
      refine z_aload_n C hl 0 rfl dX5_chooseNext_16 rfl ?_
      obtain ⟨g2, h⟩ := zd_some h
      refine z_get C I 5 0 zc5 g2 (by decide) zq_32 (v := zr (zg S x0 0)) rfl dX5_chooseNext_17 ?_
      refine z_iload_n C hl 1 rfl dX5_chooseNext_20 rfl ?_
      obtain ⟨g3, h⟩ := zd_some h
      refine z_aald C I 5 (by decide) g3 dX5_chooseNext_21 ?_
      refine z_iload_n C hl 3 rfl dX5_chooseNext_22 rfl ?_
      obtain ⟨g4, h⟩ := zd_some h
      refine z_iald C I g4 dX5_chooseNext_23 ?_
      refine z_if_eq C 133 dX5_chooseNext_24 (by decide) (fun c5 => ?_) (fun c5 => ?_)
      · have h := zit c5 h
        exact bX5_chooseNext_133 C hr hk ih _ _ _ _ _ _ _ _ h I (zL_sub hl [0, 1, 2, 3] rfl)
      · have h := zif c5 h
        refine z_aload_n C hl 0 rfl dX5_chooseNext_27 rfl ?_
        refine z_get C I 5 1 zc5 g2 (by decide) zq_33 (v := zr (zg S x0 1)) rfl dX5_chooseNext_28 ?_
        refine z_iload_n C hl 3 rfl dX5_chooseNext_31 rfl ?_
        obtain ⟨g6, h⟩ := zd_some h
        refine z_iald C I g6 dX5_chooseNext_32 ?_
        refine z_iconst C (v := (-1)) dX5_chooseNext_33 (by decide) ?_
        refine z_icmp_ne C 40 dX5_chooseNext_34 (by decide) (fun c7 => ?_) (fun c7 => ?_)
        · have h := zif c7 h
          refine z_aload_n C hl 0 rfl dX5_chooseNext_40 rfl ?_
          refine z_get C I 5 0 zc5 g2 (by decide) zq_32 (v := zr (zg S x0 0)) rfl dX5_chooseNext_41 ?_
          refine z_iload_n C hl 1 rfl dX5_chooseNext_44 rfl ?_
          refine z_aald C I 5 (by decide) g3 dX5_chooseNext_45 ?_
          refine z_iload_n C hl 3 rfl dX5_chooseNext_46 rfl ?_
          refine z_iald C I g4 dX5_chooseNext_47 ?_
          refine z_aload_n C hl 0 rfl dX5_chooseNext_48 rfl ?_
          refine z_get C I 5 1 zc5 g2 (by decide) zq_33 (v := zr (zg S x0 1)) rfl dX5_chooseNext_49 ?_
          refine z_iload_n C hl 3 rfl dX5_chooseNext_52 rfl ?_
          refine z_iald C I g6 dX5_chooseNext_53 ?_
          refine z_iadd C dX5_chooseNext_54 ?_
          refine z_istore C hl dX5_chooseNext_55 (by decide) (fun v8 => [(4, zi v8), (0, zr x0), (1, zi x1), (2, zi x2), (3, zi x3)]) (fun _ => rfl) (fun v8 e9 ls hl => ?_)
          have h := znb e9 h
          refine z_iconst C (v := 1) dX5_chooseNext_57 (by decide) ?_
          refine z_aload_n C hl 1 rfl dX5_chooseNext_58 rfl ?_
          refine z_get C I 5 2 zc5 g2 (by decide) zq_35 (v := zr (zg S x0 2)) rfl dX5_chooseNext_59 ?_
          refine z_iload_n C hl 4 rfl dX5_chooseNext_62 rfl ?_
          obtain ⟨g10, h⟩ := zd_some h
          refine z_iald C I g10 dX5_chooseNext_63 ?_
          refine z_iadd C dX5_chooseNext_64 ?_
          refine z_istore C hl dX5_chooseNext_65 (by decide) (fun v11 => [(5, zi v11), (4, zi v8), (0, zr x0), (1, zi x1), (2, zi x2), (3, zi x3)]) (fun _ => rfl) (fun v11 e12 ls hl => ?_)
          have h := znb e12 h
          refine z_aload_n C hl 2 rfl dX5_chooseNext_67 rfl ?_
          refine z_get C I 5 1 zc5 g2 (by decide) zq_33 (v := zr (zg S x0 1)) rfl dX5_chooseNext_68 ?_
          refine z_iload_n C hl 3 rfl dX5_chooseNext_71 rfl ?_
          obtain ⟨g13, h⟩ := zd_some h
          refine z_iald C I g13 dX5_chooseNext_72 ?_
          refine z_iconst C (v := (-1)) dX5_chooseNext_73 (by decide) ?_
          refine z_icmp_eq C 110 dX5_chooseNext_74 (by decide) (fun c14 => ?_) (fun c14 => ?_)
          · have h := zit c14 h
            exact bX5_chooseNext_110 C hr hk ih _ _ _ _ _ _ _ _ _ _ h I (zL_sub hl [2, 3, 4, 5, 1, 0] rfl)
          · have h := zif c14 h
            refine z_iload C hl 1 rfl dX5_chooseNext_77 ?_
            refine z_aload_n C hl 2 rfl dX5_chooseNext_79 rfl ?_
            refine z_get C I 5 1 zc5 g2 (by decide) zq_33 (v := zr (zg S x0 1)) rfl dX5_chooseNext_80 ?_
            refine z_iload_n C hl 3 rfl dX5_chooseNext_83 rfl ?_
            refine z_iald C I g13 dX5_chooseNext_84 ?_
            refine z_icmp_lt C 110 dX5_chooseNext_85 (by decide) (fun c15 => ?_) (fun c15 => ?_)
            · have h := zit c15 h
              exact bX5_chooseNext_110 C hr hk ih _ _ _ _ _ _ _ _ _ _ h I (zL_sub hl [2, 3, 4, 5, 1, 0] rfl)
            · have h := zif c15 h
              refine z_iload C hl 1 rfl dX5_chooseNext_88 ?_
              refine z_aload_n C hl 2 rfl dX5_chooseNext_90 rfl ?_
              refine z_get C I 5 1 zc5 g2 (by decide) zq_33 (v := zr (zg S x0 1)) rfl dX5_chooseNext_91 ?_
              refine z_iload_n C hl 3 rfl dX5_chooseNext_94 rfl ?_
              refine z_iald C I g13 dX5_chooseNext_95 ?_
              refine z_icmp_ne C 133 dX5_chooseNext_96 (by decide) (fun c16 => ?_) (fun c16 => ?_)
              · have h := zif c16 h
                exact bX5_chooseNext_133 C hr hk ih _ _ _ _ _ _ _ _ h I (zL_sub hl [2, 3, 4, 5] rfl)
              · have h := zit c16 h
                refine z_iload C hl 0 rfl dX5_chooseNext_99 ?_
                refine z_aload_n C hl 2 rfl dX5_chooseNext_101 rfl ?_
                refine z_get C I 5 2 zc5 g2 (by decide) zq_35 (v := zr (zg S x0 2)) rfl dX5_chooseNext_102 ?_
                refine z_iload_n C hl 3 rfl dX5_chooseNext_105 rfl ?_
                obtain ⟨g17, h⟩ := zd_some h
                refine z_iald C I g17 dX5_chooseNext_106 ?_
                refine z_icmp_ge C 133 dX5_chooseNext_107 (by decide) (fun c18 => ?_) (fun c18 => ?_)
                · have h := zit c18 h
                  exact bX5_chooseNext_133 C hr hk ih _ _ _ _ _ _ _ _ h I (zL_sub hl [2, 3, 4, 5] rfl)
                · have h := zif c18 h
                  exact bX5_chooseNext_110 C hr hk ih _ _ _ _ _ _ _ _ _ _ h I (zL_sub hl [2, 3, 4, 5, 1, 0] rfl)
        · have h := zit c7 h
          refine z_goto C 133 dX5_chooseNext_37 (by decide) ?_
          exact bX5_chooseNext_133 C hr hk ih _ _ _ _ _ _ _ _ h I (zL_sub hl [0, 1, 2, 3] rfl)

def fX5_chooseNext (n : Nat) (S : zM) (a0 : Int32) (a1 : Int32) (a2 : Int32) : Option (Int32 × zM) := zd (zo n 15 a0) <| zd (za n 0 (zg S a0 1) a1) <| zbd (zq S (zg S a0 1) a1 (-1)) fun S3 => zbd (a1 + 1) fun v5 => fX5_chooseNext_11 n 1000 S3 a0 a1 a2 v5
theorem tX5_chooseNext (l : Launch) (D : va_G) (tc : Nat → ClassId) (b n : Nat) {S S' : zM} {a0 : Int32} {a1 : Int32} {a2 : Int32} {r : Int32} (h : fX5_chooseNext n S a0 a1 a2 = some (r, S')) : zMv l D tc b n yX5_chooseNext cX5_chooseNext 6 0 [zr a0, zi a1, zi a2] S S' := by
  refine zMv_of zyX5_chooseNext (Nat.le_of_ble_eq_true rfl) (fun p e s m args below meth c H C hr hk ls hl I => ?_)
  have hl : zL b ls 6 [(0, zr a0), (1, zi a1), (2, zi a2)] := hl
  rw [fX5_chooseNext] at h
  refine z_aload_n C hl 0 rfl dX5_chooseNext_0 rfl ?_
  obtain ⟨g1, h⟩ := zd_some h
  refine z_get C I 5 1 zc5 g1 (by decide) zq_33 (v := zr (zg S a0 1)) rfl dX5_chooseNext_1 ?_
  refine z_iload_n C hl 1 rfl dX5_chooseNext_4 rfl ?_
  refine z_iconst C (v := (-1)) dX5_chooseNext_5 (by decide) ?_
  obtain ⟨g2, h⟩ := zd_some h
  refine z_iast C I g2 dX5_chooseNext_6 (fun S3 e4 H locs I => ?_)
  have h := znb e4 h
  refine z_iload_n C hl 1 rfl dX5_chooseNext_7 rfl ?_
  refine z_iconst C (v := 1) dX5_chooseNext_8 (by decide) ?_
  refine z_iadd C dX5_chooseNext_9 ?_
  refine z_istore_n C hl dX5_chooseNext_10 rfl (by decide) (fun v5 => [(3, zi v5), (0, zr a0), (1, zi a1), (2, zi a2)]) (fun _ => rfl) (fun v5 e6 ls hl => ?_)
  have h := znb e6 h
  exact bX5_chooseNext_11 C hr hk 1000 _ _ _ _ _ _ _ _ h I (zL_sub hl [1, 2, 3, 0] rfl)

def fX5_search_18 (n : Nat) : Nat → zM → Int32 → Int32 → Int32 → Int32 → Option (Int32 × zM)
  | 0, _, _, _, _, _ => none
  | fu + 1, S, x0, x1, x2, x3 => if (x3 : Int32) < (x1 : Int32) then (zd (zo n 15 x0) <| zd (za n 0 (zg S x0 1) x1) <| if (ze S (zg S x0 1) x1 : Int32) = ((-1) : Int32) then (some (0, S)) else (some (1, S))) else (zd (zo n 15 x0) <| zca (fX5_chooseNext n S x0 x3 x2) fun r6 S7 => zbd (x3 + (-1)) fun v9 => fX5_search_18 n fu S7 x0 x1 x2 v9)
theorem bX5_search_18 {p : Program} {l : Launch} {e : Env} {s : State} {m : MethodId} {args : Array Value} {below : List Frame} {meth : Method} {c : Code} {D : va_G} {tc : Nat → ClassId} {b n : Nat} {S' : zM} {r : Int32} (C : zC p m c cX5_search 4 s args yX5_search.cls D tc) (hr : meth.sig.returnType = some .boolean) (hk : meth.locks = false) : ∀ (fu : Nat) (S : zM) (x0 : Int32) (x1 : Int32) (x2 : Int32) (x3 : Int32) (H : Heap) (locs : List Loc) (ls : Array Slot), fX5_search_18 n fu S x0 x1 x2 x3 = some (r, S') → zI D tc b n S s H locs → zL b ls 4 [(0, zr x0), (1, zi x1), (2, zi x2), (3, zi x3)] → W p l e (zR 1) s m args below meth c H locs 0 0 (zQi D tc b n S' r below args s) (zG b m 18 ls []) := by
  intro fu
  induction fu with
  | zero => intro S x0 x1 x2 x3 H locs ls h _ _; rw [fX5_search_18] at h; cases h
  | succ fu ih =>
    intro S x0 x1 x2 x3 H locs ls h I hl
    rw [fX5_search_18] at h
    refine z_iload_n C hl 3 rfl dX5_search_18 rfl ?_
    refine z_iload_n C hl 1 rfl dX5_search_19 rfl ?_
    refine z_icmp_lt C 35 dX5_search_20 (by decide) (fun c1 => ?_) (fun c1 => ?_)
    · have h := zit c1 h
      refine z_aload_n C hl 0 rfl dX5_search_35 rfl ?_
      obtain ⟨g2, h⟩ := zd_some h
      refine z_get C I 5 1 zc5 g2 (by decide) zq_33 (v := zr (zg S x0 1)) rfl dX5_search_36 ?_
      refine z_iload_n C hl 1 rfl dX5_search_39 rfl ?_
      obtain ⟨g3, h⟩ := zd_some h
      refine z_iald C I g3 dX5_search_40 ?_
      refine z_iconst C (v := (-1)) dX5_search_41 (by decide) ?_
      refine z_icmp_eq C 49 dX5_search_42 (by decide) (fun c4 => ?_) (fun c4 => ?_)
      · have h := zit c4 h
        refine z_iconst C (v := 0) dX5_search_49 (by decide) ?_
        exact z_zret C I hr hk rfl h dX5_search_50
      · have h := zif c4 h
        refine z_iconst C (v := 1) dX5_search_45 (by decide) ?_
        refine z_goto C 50 dX5_search_46 (by decide) ?_
        exact z_zret C I hr hk rfl h dX5_search_50
    · have h := zif c1 h
      refine z_aload_n C hl 0 rfl dX5_search_23 rfl ?_
      refine z_iload_n C hl 3 rfl dX5_search_24 rfl ?_
      refine z_iload_n C hl 2 rfl dX5_search_25 rfl ?_
      obtain ⟨g5, h⟩ := zd_some h
      obtain ⟨r6, S7, h8, h⟩ := zcs h
      refine z_callVv C I (tX5_chooseNext l D tc b n h8) zyX5_chooseNext zyvX5_chooseNext zc5 g5 zq_343 (st := []) rfl rfl (by decide) (by decide) hl.1 (Nat.le_of_ble_eq_true rfl) dX5_search_26 (fun H locs I => ?_)
      refine z_iinc C hl 3 (v := x3 + (-1)) rfl dX5_search_29 rfl (by decide) (fun v9 => [(3, zi v9), (0, zr x0), (1, zi x1), (2, zi x2)]) (fun _ => rfl) (fun v9 e10 ls hl => ?_)
      have h := znb e10 h
      refine z_goto C 18 dX5_search_32 (by decide) ?_
      exact ih _ _ _ _ _ _ _ _ h I (zL_sub hl [1, 2, 3, 0] rfl)

def fX5_search (n : Nat) (S : zM) (a0 : Int32) (a1 : Int32) (a2 : Int32) : Option (Int32 × zM) := zd (zo n 15 a0) <| zd (za n 0 (zg S a0 1) a2) <| zbd (zq S (zg S a0 1) a2 0) fun S3 => zd (za n 0 (zg S3 a0 2) a2) <| zbd (zq S3 (zg S3 a0 2) a2 0) fun S6 => zbd (a2 - 1) fun v8 => fX5_search_18 n 1000 S6 a0 a1 a2 v8
theorem tX5_search (l : Launch) (D : va_G) (tc : Nat → ClassId) (b n : Nat) {S S' : zM} {a0 : Int32} {a1 : Int32} {a2 : Int32} {r : Int32} (h : fX5_search n S a0 a1 a2 = some (r, S')) : zMi l D tc b n yX5_search cX5_search 4 .boolean 1 [zr a0, zi a1, zi a2] S S' r := by
  refine zMi_of zyX5_search (Nat.le_of_ble_eq_true rfl) (fun p e s m args below meth c H C hr hk ls hl I => ?_)
  have hl : zL b ls 4 [(0, zr a0), (1, zi a1), (2, zi a2)] := hl
  rw [fX5_search] at h
  refine z_aload_n C hl 0 rfl dX5_search_0 rfl ?_
  obtain ⟨g1, h⟩ := zd_some h
  refine z_get C I 5 1 zc5 g1 (by decide) zq_33 (v := zr (zg S a0 1)) rfl dX5_search_1 ?_
  refine z_iload_n C hl 2 rfl dX5_search_4 rfl ?_
  refine z_iconst C (v := 0) dX5_search_5 (by decide) ?_
  obtain ⟨g2, h⟩ := zd_some h
  refine z_iast C I g2 dX5_search_6 (fun S3 e4 H locs I => ?_)
  have h := znb e4 h
  refine z_aload_n C hl 0 rfl dX5_search_7 rfl ?_
  refine z_get C I 5 2 zc5 g1 (by decide) zq_35 (v := zr (zg S3 a0 2)) rfl dX5_search_8 ?_
  refine z_iload_n C hl 2 rfl dX5_search_11 rfl ?_
  refine z_iconst C (v := 0) dX5_search_12 (by decide) ?_
  obtain ⟨g5, h⟩ := zd_some h
  refine z_iast C I g5 dX5_search_13 (fun S6 e7 H locs I => ?_)
  have h := znb e7 h
  refine z_iload_n C hl 2 rfl dX5_search_14 rfl ?_
  refine z_iconst C (v := 1) dX5_search_15 (by decide) ?_
  refine z_isub C dX5_search_16 ?_
  refine z_istore_n C hl dX5_search_17 rfl (by decide) (fun v8 => [(3, zi v8), (0, zr a0), (1, zi a1), (2, zi a2)]) (fun _ => rfl) (fun v8 e9 ls hl => ?_)
  have h := znb e9 h
  exact bX5_search_18 C hr hk 1000 _ _ _ _ _ _ _ _ h I (zL_sub hl [1, 2, 3, 0] rfl)

def fX5_follow_22 (n : Nat) : Nat → zM → Int32 → Int32 → Int32 → Int32 → Option (Int32 × zM)
  | 0, _, _, _, _, _ => none
  | fu + 1, S, x0, x2, x3, x4 => if (x2 : Int32) ≤ (x4 : Int32) then (some (x3, S)) else (zd (zo n 15 x0) <| zd (za n 0 (zg S x0 3) x3) <| zbd (ze S (zg S x0 3) x3) fun v4 => zbd (x4 + 1) fun v6 => fX5_follow_22 n fu S x0 x2 v4 v6)
theorem bX5_follow_22 {p : Program} {l : Launch} {e : Env} {s : State} {m : MethodId} {args : Array Value} {below : List Frame} {meth : Method} {c : Code} {D : va_G} {tc : Nat → ClassId} {b n : Nat} {S' : zM} {r : Int32} (C : zC p m c cX5_follow 5 s args yX5_follow.cls D tc) (hr : meth.sig.returnType = some .int) (hk : meth.locks = false) : ∀ (fu : Nat) (S : zM) (x0 : Int32) (x2 : Int32) (x3 : Int32) (x4 : Int32) (H : Heap) (locs : List Loc) (ls : Array Slot), fX5_follow_22 n fu S x0 x2 x3 x4 = some (r, S') → zI D tc b n S s H locs → zL b ls 5 [(0, zr x0), (2, zi x2), (3, zi x3), (4, zi x4)] → W p l e (zR 0) s m args below meth c H locs 0 0 (zQi D tc b n S' r below args s) (zG b m 22 ls []) := by
  intro fu
  induction fu with
  | zero => intro S x0 x2 x3 x4 H locs ls h _ _; rw [fX5_follow_22] at h; cases h
  | succ fu ih =>
    intro S x0 x2 x3 x4 H locs ls h I hl
    rw [fX5_follow_22] at h
    refine z_iload C hl 3 rfl dX5_follow_22 ?_
    refine z_iload_n C hl 1 rfl dX5_follow_24 rfl ?_
    refine z_icmp_ge C 41 dX5_follow_25 (by decide) (fun c1 => ?_) (fun c1 => ?_)
    · have h := zit c1 h
      refine z_iload_n C hl 2 rfl dX5_follow_41 rfl ?_
      exact z_iret C I hr hk h dX5_follow_42
    · have h := zif c1 h
      refine z_aload_n C hl 0 rfl dX5_follow_28 rfl ?_
      obtain ⟨g2, h⟩ := zd_some h
      refine z_get C I 5 3 zc5 g2 (by decide) zq_37 (v := zr (zg S x0 3)) rfl dX5_follow_29 ?_
      refine z_iload_n C hl 2 rfl dX5_follow_32 rfl ?_
      obtain ⟨g3, h⟩ := zd_some h
      refine z_iald C I g3 dX5_follow_33 ?_
      refine z_istore_n C hl dX5_follow_34 rfl (by decide) (fun v4 => [(3, zi v4), (0, zr x0), (2, zi x2), (4, zi x4)]) (fun _ => rfl) (fun v4 e5 ls hl => ?_)
      have h := znb e5 h
      refine z_iinc C hl 3 (v := x4 + 1) rfl dX5_follow_35 rfl (by decide) (fun v6 => [(4, zi v6), (3, zi v4), (0, zr x0), (2, zi x2)]) (fun _ => rfl) (fun v6 e7 ls hl => ?_)
      have h := znb e7 h
      refine z_goto C 22 dX5_follow_38 (by decide) ?_
      exact ih _ _ _ _ _ _ _ _ h I (zL_sub hl [2, 3, 1, 0] rfl)

def fX5_follow (n : Nat) (S : zM) (a0 : Int32) (a1 : Int32) (a2 : Int32) : Option (Int32 × zM) := if (a2 : Int32) < 0 then (some ((-1000000), S)) else (zd (zo n 15 a0) <| zd (za n 0 (zg S a0 2) a1) <| if (a2 : Int32) ≤ (ze S (zg S a0 2) a1 : Int32) then (zbd (a1) fun v5 => zbd (0) fun v7 => fX5_follow_22 n 1000 S a0 a2 v5 v7) else (some ((-1000000), S)))
theorem tX5_follow (l : Launch) (D : va_G) (tc : Nat → ClassId) (b n : Nat) {S S' : zM} {a0 : Int32} {a1 : Int32} {a2 : Int32} {r : Int32} (h : fX5_follow n S a0 a1 a2 = some (r, S')) : zMi l D tc b n yX5_follow cX5_follow 5 .int 0 [zr a0, zi a1, zi a2] S S' r := by
  refine zMi_of zyX5_follow (Nat.le_of_ble_eq_true rfl) (fun p e s m args below meth c H C hr hk ls hl I => ?_)
  have hl : zL b ls 5 [(0, zr a0), (1, zi a1), (2, zi a2)] := hl
  rw [fX5_follow] at h
  refine z_iload_n C hl 2 rfl dX5_follow_0 rfl ?_
  refine z_if_lt C 14 dX5_follow_1 (by decide) (fun c1 => ?_) (fun c1 => ?_)
  · have h := zit c1 h
    refine z_ldc C zq_356 dX5_follow_14 ?_
    exact z_iret C I hr hk h dX5_follow_16
  · have h := zif c1 h
    refine z_iload_n C hl 2 rfl dX5_follow_4 rfl ?_
    refine z_aload_n C hl 0 rfl dX5_follow_5 rfl ?_
    obtain ⟨g2, h⟩ := zd_some h
    refine z_get C I 5 2 zc5 g2 (by decide) zq_35 (v := zr (zg S a0 2)) rfl dX5_follow_6 ?_
    refine z_iload_n C hl 1 rfl dX5_follow_9 rfl ?_
    obtain ⟨g3, h⟩ := zd_some h
    refine z_iald C I g3 dX5_follow_10 ?_
    refine z_icmp_le C 17 dX5_follow_11 (by decide) (fun c4 => ?_) (fun c4 => ?_)
    · have h := zit c4 h
      refine z_iload_n C hl 1 rfl dX5_follow_17 rfl ?_
      refine z_istore_n C hl dX5_follow_18 rfl (by decide) (fun v5 => [(3, zi v5), (0, zr a0), (1, zi a1), (2, zi a2)]) (fun _ => rfl) (fun v5 e6 ls hl => ?_)
      have h := znb e6 h
      refine z_iconst C (v := 0) dX5_follow_19 (by decide) ?_
      refine z_istore C hl dX5_follow_20 (by decide) (fun v7 => [(4, zi v7), (3, zi v5), (0, zr a0), (1, zi a1), (2, zi a2)]) (fun _ => rfl) (fun v7 e8 ls hl => ?_)
      have h := znb e8 h
      exact bX5_follow_22 C hr hk 1000 _ _ _ _ _ _ _ _ h I (zL_sub hl [2, 4, 1, 0] rfl)
    · have h := zif c4 h
      refine z_ldc C zq_356 dX5_follow_14 ?_
      exact z_iret C I hr hk h dX5_follow_16

def fX6_fill (n : Nat) (S : zM) (a0 : Int32) (a1 : Int32) (a2 : Int32) (a3 : Int32) : Option (Int32 × zM) := zd (zo n 16 a0) <| zbd (zp S a0 1 a1) fun S2 => zbd (zp S2 a0 2 a2) fun S4 => zbd (zp S4 a0 3 a3) fun S6 => some (0, S6)
theorem tX6_fill (l : Launch) (D : va_G) (tc : Nat → ClassId) (b n : Nat) {S S' : zM} {a0 : Int32} {a1 : Int32} {a2 : Int32} {a3 : Int32} {r : Int32} (h : fX6_fill n S a0 a1 a2 a3 = some (r, S')) : zMv l D tc b n yX6_fill cX6_fill 4 0 [zr a0, zi a1, zi a2, zi a3] S S' := by
  refine zMv_of zyX6_fill (Nat.le_of_ble_eq_true rfl) (fun p e s m args below meth c H C hr hk ls hl I => ?_)
  have hl : zL b ls 4 [(0, zr a0), (1, zi a1), (2, zi a2), (3, zi a3)] := hl
  rw [fX6_fill] at h
  refine z_aload_n C hl 0 rfl dX6_fill_0 rfl ?_
  refine z_iload_n C hl 1 rfl dX6_fill_1 rfl ?_
  obtain ⟨g1, h⟩ := zd_some h
  refine z_put C I 6 1 zc6 g1 (by decide) rfl zq_211 rfl (v := zi a1) rfl dX6_fill_2 (fun S2 e3 H locs I => ?_)
  have h := znb e3 h
  refine z_aload_n C hl 0 rfl dX6_fill_5 rfl ?_
  refine z_iload_n C hl 2 rfl dX6_fill_6 rfl ?_
  refine z_put C I 6 2 zc6 g1 (by decide) rfl zq_215 rfl (v := zi a2) rfl dX6_fill_7 (fun S4 e5 H locs I => ?_)
  have h := znb e5 h
  refine z_aload_n C hl 0 rfl dX6_fill_10 rfl ?_
  refine z_iload_n C hl 3 rfl dX6_fill_11 rfl ?_
  refine z_put C I 6 3 zc6 g1 (by decide) rfl zq_218 rfl (v := zi a3) rfl dX6_fill_12 (fun S6 e7 H locs I => ?_)
  have h := znb e7 h
  exact z_vret C I hr hk h dX6_fill_15

