def fX7_drawOf (n : Nat) (S : zM) (a0 : Int32) (a1 : Int32) : Option (Int32 × zM) := zd (zo n 12 a1) <| zd (zo n 17 a0) <| zbd (((((zg S a1 0) + 1 : Int32).toInt64) * 2654435761) + ((zg S a0 8 : Int32).toInt64)) fun v3 => zd (decide (¬ (100 : Int32) = 0)) <| some (((((v3.toUInt64 >>> ((16 : Int32).toInt64.toUInt64 &&& Int64.toUInt64 63)).toInt64) &&& 65535 : Int64).toInt32) - ((((v3.toUInt64 >>> ((16 : Int32).toInt64.toUInt64 &&& Int64.toUInt64 63)).toInt64) &&& 65535 : Int64).toInt32) / 100 * 100, S)
theorem tX7_drawOf (l : Launch) (D : va_G) (tc : Nat → ClassId) (b n : Nat) {S S' : zM} {a0 : Int32} {a1 : Int32} {r : Int32} (h : fX7_drawOf n S a0 a1 = some (r, S')) : zMi l D tc b n yX7_drawOf cX7_drawOf 4 .int 0 [zr a0, zr a1] S S' r := by
  refine zMi_of zyX7_drawOf (Nat.le_of_ble_eq_true rfl) (fun p e s m args below meth c H C hr hk ls hl I => ?_)
  have hl : zL b ls 4 [(0, zr a0), (1, zr a1)] := hl
  rw [fX7_drawOf] at h
  refine z_aload_n C hl 1 rfl dX7_drawOf_0 rfl ?_
  obtain ⟨g1, h⟩ := zd_some h
  refine z_get C I 2 0 zc2 g1 (by decide) zq_76 (v := zi (zg S a1 0)) rfl dX7_drawOf_1 ?_
  refine z_iconst C (v := 1) dX7_drawOf_4 (by decide) ?_
  refine z_iadd C dX7_drawOf_5 ?_
  refine z_i2l C dX7_drawOf_6 ?_
  refine z_ldc2 C zq_391 dX7_drawOf_7 ?_
  refine z_lmul C dX7_drawOf_10 ?_
  refine z_aload_n C hl 0 rfl dX7_drawOf_11 rfl ?_
  obtain ⟨g2, h⟩ := zd_some h
  refine z_get C I 7 8 zc7 g2 (by decide) zq_236 (v := zi (zg S a0 8)) rfl dX7_drawOf_12 ?_
  refine z_i2l C dX7_drawOf_15 ?_
  refine z_ladd C dX7_drawOf_16 ?_
  refine z_lstore_n C hl dX7_drawOf_17 rfl (by decide) (fun v3 => [(2, zl v3), (0, zr a0), (1, zr a1)]) (fun _ => rfl) (fun v3 e4 ls hl => ?_)
  have h := znb e4 h
  refine z_lload_n C hl 0 rfl dX7_drawOf_18 rfl ?_
  refine z_bipush C (v := 16) dX7_drawOf_19 (by decide) ?_
  refine z_lushr C dX7_drawOf_21 ?_
  refine z_ldc2 C zq_392 dX7_drawOf_22 ?_
  refine z_land C dX7_drawOf_25 ?_
  refine z_l2i C dX7_drawOf_26 ?_
  refine z_bipush C (v := 100) dX7_drawOf_27 (by decide) ?_
  obtain ⟨g5, h⟩ := zd_some h
  refine z_irem C g5 dX7_drawOf_29 ?_
  exact z_iret C I hr hk h dX7_drawOf_30

def fX7_told (n : Nat) (S : zM) (a0 : Int32) (a1 : Int32) (a2 : Int32) : Option (Int32 × zM) := zd (zo n 17 a0) <| zca (fX7_isDevice n S a0 a1) fun r2 S3 => if (r2 : Int32) = 0 then (some ((-1000001), S3)) else (zd (za n 4 (zg S3 a0 4) a1) <| zbd (ze S3 (zg S3 a0 4) a1) fun v7 => if (a2 : Int32) = 0 then (zd (zo n 12 v7) <| zd (zo n 14 (zg S3 v7 3)) <| zca (fX4_versionNumber n S3 (zg S3 v7 3)) fun r12 S13 => some (r12, S13)) else if (a2 : Int32) = 1 then (zd (zo n 12 v7) <| some (zg S3 v7 5, S3)) else if (a2 : Int32) = 2 then (zd (zo n 12 v7) <| zd (zo n 14 (zg S3 v7 4)) <| zca (fX4_versionNumber n S3 (zg S3 v7 4)) fun r20 S21 => some (r20, S21)) else if (a2 : Int32) = 3 then (zd (zo n 12 v7) <| zd (zo n 14 (zg S3 v7 4)) <| some (zg S3 (zg S3 v7 4) 1, S3)) else if (a2 : Int32) = 4 then (zd (zo n 12 v7) <| some (zg S3 v7 7, S3)) else if (a2 : Int32) = 5 then (zd (zo n 12 v7) <| some (zg S3 v7 8, S3)) else if (a2 : Int32) = 6 then (zd (zo n 12 v7) <| some (zg S3 v7 9, S3)) else if (a2 : Int32) = 7 then (zca (fX7_drawOf n S3 a0 v7) fun r33 S34 => some (r33, S34)) else if (a2 : Int32) = 8 then (zd (zo n 12 v7) <| zca (fX2_isAlive n S3 v7) fun r38 S39 => if (r38 : Int32) = 0 then (some (0, S39)) else (some (1, S39))) else (some ((-1000001), S3)))
theorem tX7_told (l : Launch) (D : va_G) (tc : Nat → ClassId) (b n : Nat) {S S' : zM} {a0 : Int32} {a1 : Int32} {a2 : Int32} {r : Int32} (h : fX7_told n S a0 a1 a2 = some (r, S')) : zMi l D tc b n yX7_told cX7_told 4 .int 2 [zr a0, zi a1, zi a2] S S' r := by
  refine zMi_of zyX7_told (Nat.le_of_ble_eq_true rfl) (fun p e s m args below meth c H C hr hk ls hl I => ?_)
  have hl : zL b ls 4 [(0, zr a0), (1, zi a1), (2, zi a2)] := hl
  rw [fX7_told] at h
  refine z_aload_n C hl 0 rfl dX7_told_0 rfl ?_
  refine z_iload_n C hl 1 rfl dX7_told_1 rfl ?_
  obtain ⟨g1, h⟩ := zd_some h
  obtain ⟨r2, S3, h4, h⟩ := zcs h
  refine z_callVi C I (tX7_isDevice l D tc b n h4) zyX7_isDevice zyvX7_isDevice zc7 g1 zq_361 (st := []) rfl rfl (by decide) (by decide) hl.1 (Nat.le_of_ble_eq_true rfl) dX7_told_2 (fun H locs I => ?_)
  refine z_if_ne C 11 dX7_told_5 (by decide) (fun c5 => ?_) (fun c5 => ?_)
  · have h := zif c5 h
    refine z_aload_n C hl 0 rfl dX7_told_11 rfl ?_
    refine z_get C I 7 4 zc7 g1 (by decide) zq_232 (v := zr (zg S3 a0 4)) rfl dX7_told_12 ?_
    refine z_iload_n C hl 1 rfl dX7_told_15 rfl ?_
    obtain ⟨g6, h⟩ := zd_some h
    refine z_aald C I 4 (by decide) g6 dX7_told_16 ?_
    refine z_astore_n C hl dX7_told_17 rfl (by decide) (fun v7 => [(3, zr v7), (0, zr a0), (1, zi a1), (2, zi a2)]) (fun _ => rfl) (fun v7 e8 ls hl => ?_)
    have h := znb e8 h
    refine z_iload_n C hl 3 rfl dX7_told_18 rfl ?_
    by_cases c9 : (a2 : Int32) = 0
    · have h := zit c9 h
      refine z_tsIn C (off := 49) 68 c9 dX7_told_19 (by decide) (by decide) (by decide) (by decide) ?_
      refine z_aload_n C hl 0 rfl dX7_told_68 rfl ?_
      obtain ⟨g10, h⟩ := zd_some h
      refine z_get C I 2 3 zc2 g10 (by decide) zq_84 (v := zr (zg S3 v7 3)) rfl dX7_told_69 ?_
      obtain ⟨g11, h⟩ := zd_some h
      obtain ⟨r12, S13, h14, h⟩ := zcs h
      refine z_callVi C I (tX4_versionNumber l D tc b n h14) zyX4_versionNumber zyvX4_versionNumber zc4 g11 zq_382 (st := []) rfl rfl (by decide) (by decide) hl.1 (Nat.le_of_ble_eq_true rfl) dX7_told_72 (fun H locs I => ?_)
      exact z_iret C I hr hk h dX7_told_75
    have h := zif c9 h
    by_cases c15 : (a2 : Int32) = 1
    · have h := zit c15 h
      refine z_tsIn C (off := 57) 76 c15 dX7_told_19 (by decide) (by decide) (by decide) (by decide) ?_
      refine z_aload_n C hl 0 rfl dX7_told_76 rfl ?_
      obtain ⟨g16, h⟩ := zd_some h
      refine z_get C I 2 5 zc2 g16 (by decide) zq_88 (v := zi (zg S3 v7 5)) rfl dX7_told_77 ?_
      exact z_iret C I hr hk h dX7_told_80
    have h := zif c15 h
    by_cases c17 : (a2 : Int32) = 2
    · have h := zit c17 h
      refine z_tsIn C (off := 62) 81 c17 dX7_told_19 (by decide) (by decide) (by decide) (by decide) ?_
      refine z_aload_n C hl 0 rfl dX7_told_81 rfl ?_
      obtain ⟨g18, h⟩ := zd_some h
      refine z_get C I 2 4 zc2 g18 (by decide) zq_86 (v := zr (zg S3 v7 4)) rfl dX7_told_82 ?_
      obtain ⟨g19, h⟩ := zd_some h
      obtain ⟨r20, S21, h22, h⟩ := zcs h
      refine z_callVi C I (tX4_versionNumber l D tc b n h22) zyX4_versionNumber zyvX4_versionNumber zc4 g19 zq_382 (st := []) rfl rfl (by decide) (by decide) hl.1 (Nat.le_of_ble_eq_true rfl) dX7_told_85 (fun H locs I => ?_)
      exact z_iret C I hr hk h dX7_told_88
    have h := zif c17 h
    by_cases c23 : (a2 : Int32) = 3
    · have h := zit c23 h
      refine z_tsIn C (off := 70) 89 c23 dX7_told_19 (by decide) (by decide) (by decide) (by decide) ?_
      refine z_aload_n C hl 0 rfl dX7_told_89 rfl ?_
      obtain ⟨g24, h⟩ := zd_some h
      refine z_get C I 2 4 zc2 g24 (by decide) zq_86 (v := zr (zg S3 v7 4)) rfl dX7_told_90 ?_
      obtain ⟨g25, h⟩ := zd_some h
      refine z_get C I 4 1 zc4 g25 (by decide) zq_69 (v := zi (zg S3 (zg S3 v7 4) 1)) rfl dX7_told_93 ?_
      exact z_iret C I hr hk h dX7_told_96
    have h := zif c23 h
    by_cases c26 : (a2 : Int32) = 4
    · have h := zit c26 h
      refine z_tsIn C (off := 78) 97 c26 dX7_told_19 (by decide) (by decide) (by decide) (by decide) ?_
      refine z_aload_n C hl 0 rfl dX7_told_97 rfl ?_
      obtain ⟨g27, h⟩ := zd_some h
      refine z_get C I 2 7 zc2 g27 (by decide) zq_91 (v := zi (zg S3 v7 7)) rfl dX7_told_98 ?_
      exact z_iret C I hr hk h dX7_told_101
    have h := zif c26 h
    by_cases c28 : (a2 : Int32) = 5
    · have h := zit c28 h
      refine z_tsIn C (off := 83) 102 c28 dX7_told_19 (by decide) (by decide) (by decide) (by decide) ?_
      refine z_aload_n C hl 0 rfl dX7_told_102 rfl ?_
      obtain ⟨g29, h⟩ := zd_some h
      refine z_get C I 2 8 zc2 g29 (by decide) zq_93 (v := zi (zg S3 v7 8)) rfl dX7_told_103 ?_
      exact z_iret C I hr hk h dX7_told_106
    have h := zif c28 h
    by_cases c30 : (a2 : Int32) = 6
    · have h := zit c30 h
      refine z_tsIn C (off := 88) 107 c30 dX7_told_19 (by decide) (by decide) (by decide) (by decide) ?_
      refine z_aload_n C hl 0 rfl dX7_told_107 rfl ?_
      obtain ⟨g31, h⟩ := zd_some h
      refine z_get C I 2 9 zc2 g31 (by decide) zq_96 (v := zi (zg S3 v7 9)) rfl dX7_told_108 ?_
      exact z_iret C I hr hk h dX7_told_111
    have h := zif c30 h
    by_cases c32 : (a2 : Int32) = 7
    · have h := zit c32 h
      refine z_tsIn C (off := 93) 112 c32 dX7_told_19 (by decide) (by decide) (by decide) (by decide) ?_
      refine z_aload_n C hl 1 rfl dX7_told_112 rfl ?_
      refine z_aload_n C hl 0 rfl dX7_told_113 rfl ?_
      obtain ⟨r33, S34, h35, h⟩ := zcs h
      refine z_callVi C I (tX7_drawOf l D tc b n h35) zyX7_drawOf zyvX7_drawOf zc7 g1 zq_387 (st := []) rfl rfl (by decide) (by decide) hl.1 (Nat.le_of_ble_eq_true rfl) dX7_told_114 (fun H locs I => ?_)
      exact z_iret C I hr hk h dX7_told_117
    have h := zif c32 h
    by_cases c36 : (a2 : Int32) = 8
    · have h := zit c36 h
      refine z_tsIn C (off := 99) 118 c36 dX7_told_19 (by decide) (by decide) (by decide) (by decide) ?_
      refine z_aload_n C hl 0 rfl dX7_told_118 rfl ?_
      obtain ⟨g37, h⟩ := zd_some h
      obtain ⟨r38, S39, h40, h⟩ := zcs h
      refine z_callVi C I (tX2_isAlive l D tc b n h40) zyX2_isAlive zyvX2_isAlive zc2 g37 zq_393 (st := []) rfl rfl (by decide) (by decide) hl.1 (Nat.le_of_ble_eq_true rfl) dX7_told_119 (fun H locs I => ?_)
      refine z_if_eq C 129 dX7_told_122 (by decide) (fun c41 => ?_) (fun c41 => ?_)
      · have h := zit c41 h
        refine z_iconst C (v := 0) dX7_told_129 (by decide) ?_
        exact z_iret C I hr hk h dX7_told_130
      · have h := zif c41 h
        refine z_iconst C (v := 1) dX7_told_125 (by decide) ?_
        refine z_goto C 130 dX7_told_126 (by decide) ?_
        exact z_iret C I hr hk h dX7_told_130
    have h := zif c36 h
    refine z_tsOut C 131 dX7_told_19 (by have t_c9 : ((a2 : Int32)).toInt ≠ 0 := fun q => c9 (Int32.toInt_inj.mp (q.trans (by decide))); have t_c15 : ((a2 : Int32)).toInt ≠ 1 := fun q => c15 (Int32.toInt_inj.mp (q.trans (by decide))); have t_c17 : ((a2 : Int32)).toInt ≠ 2 := fun q => c17 (Int32.toInt_inj.mp (q.trans (by decide))); have t_c23 : ((a2 : Int32)).toInt ≠ 3 := fun q => c23 (Int32.toInt_inj.mp (q.trans (by decide))); have t_c26 : ((a2 : Int32)).toInt ≠ 4 := fun q => c26 (Int32.toInt_inj.mp (q.trans (by decide))); have t_c28 : ((a2 : Int32)).toInt ≠ 5 := fun q => c28 (Int32.toInt_inj.mp (q.trans (by decide))); have t_c30 : ((a2 : Int32)).toInt ≠ 6 := fun q => c30 (Int32.toInt_inj.mp (q.trans (by decide))); have t_c32 : ((a2 : Int32)).toInt ≠ 7 := fun q => c32 (Int32.toInt_inj.mp (q.trans (by decide))); have t_c36 : ((a2 : Int32)).toInt ≠ 8 := fun q => c36 (Int32.toInt_inj.mp (q.trans (by decide))); omega) (by decide) ?_
    refine z_ldc C zq_269 dX7_told_131 ?_
    exact z_iret C I hr hk h dX7_told_133
  · have h := zit c5 h
    refine z_ldc C zq_269 dX7_told_8 ?_
    exact z_iret C I hr hk h dX7_told_10

def fX7_isAbove (n : Nat) (S : zM) (a0 : Int32) (a1 : Int32) : Option (Int32 × zM) := zd (zo n 12 a1) <| zd (zo n 14 (zg S a1 3)) <| zca (fX4_versionNumber n S (zg S a1 3)) fun r3 S4 => if (a0 : Int32) ≤ (r3 : Int32) then (some (0, S4)) else (some (1, S4))
theorem tX7_isAbove (l : Launch) (D : va_G) (tc : Nat → ClassId) (b n : Nat) {S S' : zM} {a0 : Int32} {a1 : Int32} {r : Int32} (h : fX7_isAbove n S a0 a1 = some (r, S')) : zMi l D tc b n yX7_isAbove cX7_isAbove 2 .boolean 1 [zi a0, zr a1] S S' r := by
  refine zMi_of zyX7_isAbove (Nat.le_of_ble_eq_true rfl) (fun p e s m args below meth c H C hr hk ls hl I => ?_)
  have hl : zL b ls 2 [(0, zi a0), (1, zr a1)] := hl
  rw [fX7_isAbove] at h
  refine z_iload_n C hl 0 rfl dX7_isAbove_0 rfl ?_
  refine z_aload_n C hl 1 rfl dX7_isAbove_1 rfl ?_
  obtain ⟨g1, h⟩ := zd_some h
  refine z_get C I 2 3 zc2 g1 (by decide) zq_84 (v := zr (zg S a1 3)) rfl dX7_isAbove_2 ?_
  obtain ⟨g2, h⟩ := zd_some h
  obtain ⟨r3, S4, h5, h⟩ := zcs h
  refine z_callVi C I (tX4_versionNumber l D tc b n h5) zyX4_versionNumber zyvX4_versionNumber zc4 g2 zq_382 (st := [zi a0]) rfl rfl (by decide) (by decide) hl.1 (Nat.le_of_ble_eq_true rfl) dX7_isAbove_5 (fun H locs I => ?_)
  refine z_icmp_le C 15 dX7_isAbove_8 (by decide) (fun c6 => ?_) (fun c6 => ?_)
  · have h := zit c6 h
    refine z_iconst C (v := 0) dX7_isAbove_15 (by decide) ?_
    exact z_zret C I hr hk rfl h dX7_isAbove_16
  · have h := zif c6 h
    refine z_iconst C (v := 1) dX7_isAbove_11 (by decide) ?_
    refine z_goto C 16 dX7_isAbove_12 (by decide) ?_
    exact z_zret C I hr hk rfl h dX7_isAbove_16

def fX7_isFresh (n : Nat) (S : zM) (a0 : Int32) (a1 : Int32) : Option (Int32 × zM) := zd (zo n 12 a1) <| zd (zo n 14 (zg S a1 3)) <| zca (fX4_versionNumber n S (zg S a1 3)) fun r3 S4 => zd (zo n 17 a0) <| if (r3 : Int32) = ((zg S4 a0 2) - 1 : Int32) then (some (1, S4)) else (some (0, S4))
theorem tX7_isFresh (l : Launch) (D : va_G) (tc : Nat → ClassId) (b n : Nat) {S S' : zM} {a0 : Int32} {a1 : Int32} {r : Int32} (h : fX7_isFresh n S a0 a1 = some (r, S')) : zMi l D tc b n yX7_isFresh cX7_isFresh 2 .boolean 1 [zr a0, zr a1] S S' r := by
  refine zMi_of zyX7_isFresh (Nat.le_of_ble_eq_true rfl) (fun p e s m args below meth c H C hr hk ls hl I => ?_)
  have hl : zL b ls 2 [(0, zr a0), (1, zr a1)] := hl
  rw [fX7_isFresh] at h
  refine z_aload_n C hl 1 rfl dX7_isFresh_0 rfl ?_
  obtain ⟨g1, h⟩ := zd_some h
  refine z_get C I 2 3 zc2 g1 (by decide) zq_84 (v := zr (zg S a1 3)) rfl dX7_isFresh_1 ?_
  obtain ⟨g2, h⟩ := zd_some h
  obtain ⟨r3, S4, h5, h⟩ := zcs h
  refine z_callVi C I (tX4_versionNumber l D tc b n h5) zyX4_versionNumber zyvX4_versionNumber zc4 g2 zq_382 (st := []) rfl rfl (by decide) (by decide) hl.1 (Nat.le_of_ble_eq_true rfl) dX7_isFresh_4 (fun H locs I => ?_)
  refine z_aload_n C hl 0 rfl dX7_isFresh_7 rfl ?_
  obtain ⟨g6, h⟩ := zd_some h
  refine z_get C I 7 2 zc7 g6 (by decide) zq_230 (v := zi (zg S4 a0 2)) rfl dX7_isFresh_8 ?_
  refine z_iconst C (v := 1) dX7_isFresh_11 (by decide) ?_
  refine z_isub C dX7_isFresh_12 ?_
  refine z_icmp_ne C 20 dX7_isFresh_13 (by decide) (fun c7 => ?_) (fun c7 => ?_)
  · have h := zif c7 h
    refine z_iconst C (v := 0) dX7_isFresh_20 (by decide) ?_
    exact z_zret C I hr hk rfl h dX7_isFresh_21
  · have h := zit c7 h
    refine z_iconst C (v := 1) dX7_isFresh_16 (by decide) ?_
    refine z_goto C 21 dX7_isFresh_17 (by decide) ?_
    exact z_zret C I hr hk rfl h dX7_isFresh_21

def fX7_noteEnd_19 (n : Nat) (S : zM) (x0 : Int32) (x1 : Int32) (y0 : Int32) : Option (Int32 × zM) := zbd (y0) fun v1 => if (v1 : Int32) = 0 then (zd (zo n 12 x1) <| zbd (zp S x1 9 ((zg S x1 9) + 1)) fun S15 => zbd (zp S15 x1 10 ((zg S15 x1 10) + 1)) fun S17 => zd (zbit v1) <| some (v1, S17)) else (zd (zo n 17 x0) <| zca (fX7_isFresh n S x0 x1) fun r5 S6 => if (r5 : Int32) = 0 then (zd (zbit v1) <| some (v1, S6)) else (zd (zo n 12 x1) <| zbd (zp S6 x1 10 0) fun S11 => zd (zbit v1) <| some (v1, S11)))
theorem bX7_noteEnd_19 {p : Program} {l : Launch} {e : Env} {s : State} {m : MethodId} {args : Array Value} {below : List Frame} {meth : Method} {c : Code} {D : va_G} {tc : Nat → ClassId} {b n : Nat} {S' : zM} {r : Int32} (C : zC p m c cX7_noteEnd 4 s args yX7_noteEnd.cls D tc) (hr : meth.sig.returnType = some .boolean) (hk : meth.locks = false) : ∀ (S : zM) (x0 : Int32) (x1 : Int32) (y0 : Int32) (H : Heap) (locs : List Loc) (ls : Array Slot), fX7_noteEnd_19 n S x0 x1 y0 = some (r, S') → zI D tc b n S s H locs → zL b ls 4 [(0, zr x0), (1, zr x1)] → W p l e (zR 2) s m args below meth c H locs 0 0 (zQi D tc b n S' r below args s) (zG b m 19 ls [zi y0]) := by
  intro S x0 x1 y0 H locs ls h I hl
  rw [fX7_noteEnd_19] at h
  refine z_istore_n C hl dX7_noteEnd_19 rfl (by decide) (fun v1 => [(3, zi v1), (0, zr x0), (1, zr x1)]) (fun _ => rfl) (fun v1 e2 ls hl => ?_)
  have h := znb e2 h
  refine z_iload_n C hl 0 rfl dX7_noteEnd_20 rfl ?_
  refine z_if_ne C 47 dX7_noteEnd_21 (by decide) (fun c3 => ?_) (fun c3 => ?_)
  · have h := zif c3 h
    refine z_aload_n C hl 1 rfl dX7_noteEnd_47 rfl ?_
    refine z_aload_n C hl 2 rfl dX7_noteEnd_48 rfl ?_
    obtain ⟨g4, h⟩ := zd_some h
    obtain ⟨r5, S6, h7, h⟩ := zcs h
    refine z_callVi C I (tX7_isFresh l D tc b n h7) zyX7_isFresh zyvX7_isFresh zc7 g4 zq_444 (st := []) rfl rfl (by decide) (by decide) hl.1 (Nat.le_of_ble_eq_true rfl) dX7_noteEnd_49 (fun H locs I => ?_)
    refine z_if_eq C 60 dX7_noteEnd_52 (by decide) (fun c8 => ?_) (fun c8 => ?_)
    · have h := zit c8 h
      refine z_iload_n C hl 0 rfl dX7_noteEnd_60 rfl ?_
      obtain ⟨g9, h⟩ := zd_some h
      exact z_zret C I hr hk g9 h dX7_noteEnd_61
    · have h := zif c8 h
      refine z_aload_n C hl 2 rfl dX7_noteEnd_55 rfl ?_
      refine z_iconst C (v := 0) dX7_noteEnd_56 (by decide) ?_
      obtain ⟨g10, h⟩ := zd_some h
      refine z_put C I 2 10 zc2 g10 (by decide) rfl zq_97 rfl (v := zi 0) rfl dX7_noteEnd_57 (fun S11 e12 H locs I => ?_)
      have h := znb e12 h
      refine z_iload_n C hl 0 rfl dX7_noteEnd_60 rfl ?_
      obtain ⟨g13, h⟩ := zd_some h
      exact z_zret C I hr hk g13 h dX7_noteEnd_61
  · have h := zit c3 h
    refine z_aload_n C hl 2 rfl dX7_noteEnd_24 rfl ?_
    refine z_dup C dX7_noteEnd_25 rfl ?_
    obtain ⟨g14, h⟩ := zd_some h
    refine z_get C I 2 9 zc2 g14 (by decide) zq_96 (v := zi (zg S x1 9)) rfl dX7_noteEnd_26 ?_
    refine z_iconst C (v := 1) dX7_noteEnd_29 (by decide) ?_
    refine z_iadd C dX7_noteEnd_30 ?_
    refine z_put C I 2 9 zc2 g14 (by decide) rfl zq_96 rfl (v := zi ((zg S x1 9) + 1)) rfl dX7_noteEnd_31 (fun S15 e16 H locs I => ?_)
    have h := znb e16 h
    refine z_aload_n C hl 2 rfl dX7_noteEnd_34 rfl ?_
    refine z_dup C dX7_noteEnd_35 rfl ?_
    refine z_get C I 2 10 zc2 g14 (by decide) zq_97 (v := zi (zg S15 x1 10)) rfl dX7_noteEnd_36 ?_
    refine z_iconst C (v := 1) dX7_noteEnd_39 (by decide) ?_
    refine z_iadd C dX7_noteEnd_40 ?_
    refine z_put C I 2 10 zc2 g14 (by decide) rfl zq_97 rfl (v := zi ((zg S15 x1 10) + 1)) rfl dX7_noteEnd_41 (fun S17 e18 H locs I => ?_)
    have h := znb e18 h
    refine z_goto C 60 dX7_noteEnd_44 (by decide) ?_
    refine z_iload_n C hl 0 rfl dX7_noteEnd_60 rfl ?_
    obtain ⟨g19, h⟩ := zd_some h
    exact z_zret C I hr hk g19 h dX7_noteEnd_61

def fX7_noteEnd (n : Nat) (S : zM) (a0 : Int32) (a1 : Int32) (a2 : Int32) : Option (Int32 × zM) := zd (zo n 12 a1) <| zd (zo n 14 (zg S a1 3)) <| zca (fX4_versionNumber n S (zg S a1 3)) fun r3 S4 => zd (zo n 16 a2) <| if (r3 : Int32) = (zg S4 a2 0 : Int32) then (fX7_noteEnd_19 n S4 a0 a1 1) else (fX7_noteEnd_19 n S4 a0 a1 0)
theorem tX7_noteEnd (l : Launch) (D : va_G) (tc : Nat → ClassId) (b n : Nat) {S S' : zM} {a0 : Int32} {a1 : Int32} {a2 : Int32} {r : Int32} (h : fX7_noteEnd n S a0 a1 a2 = some (r, S')) : zMi l D tc b n yX7_noteEnd cX7_noteEnd 4 .boolean 2 [zr a0, zr a1, zr a2] S S' r := by
  refine zMi_of zyX7_noteEnd (Nat.le_of_ble_eq_true rfl) (fun p e s m args below meth c H C hr hk ls hl I => ?_)
  have hl : zL b ls 4 [(0, zr a0), (1, zr a1), (2, zr a2)] := hl
  rw [fX7_noteEnd] at h
  refine z_aload_n C hl 1 rfl dX7_noteEnd_0 rfl ?_
  obtain ⟨g1, h⟩ := zd_some h
  refine z_get C I 2 3 zc2 g1 (by decide) zq_84 (v := zr (zg S a1 3)) rfl dX7_noteEnd_1 ?_
  obtain ⟨g2, h⟩ := zd_some h
  obtain ⟨r3, S4, h5, h⟩ := zcs h
  refine z_callVi C I (tX4_versionNumber l D tc b n h5) zyX4_versionNumber zyvX4_versionNumber zc4 g2 zq_382 (st := []) rfl rfl (by decide) (by decide) hl.1 (Nat.le_of_ble_eq_true rfl) dX7_noteEnd_4 (fun H locs I => ?_)
  refine z_aload_n C hl 2 rfl dX7_noteEnd_7 rfl ?_
  obtain ⟨g6, h⟩ := zd_some h
  refine z_get C I 6 0 zc6 g6 (by decide) zq_210 (v := zi (zg S4 a2 0)) rfl dX7_noteEnd_8 ?_
  refine z_icmp_ne C 18 dX7_noteEnd_11 (by decide) (fun c7 => ?_) (fun c7 => ?_)
  · have h := zif c7 h
    refine z_iconst C (v := 0) dX7_noteEnd_18 (by decide) ?_
    exact bX7_noteEnd_19 C hr hk _ _ _ _ _ _ _ h I (zL_sub hl [0, 1] rfl)
  · have h := zit c7 h
    refine z_iconst C (v := 1) dX7_noteEnd_14 (by decide) ?_
    refine z_goto C 19 dX7_noteEnd_15 (by decide) ?_
    exact bX7_noteEnd_19 C hr hk _ _ _ _ _ _ _ h I (zL_sub hl [0, 1] rfl)

def fX7_updateWhole (n : Nat) (S : zM) (a0 : Int32) (a1 : Int32) (a2 : Int32) : Option (Int32 × zM) := zd (zo n 12 a1) <| zca (fX2_install n S a1 a2 14) fun r2 S3 => zd (zo n 17 a0) <| zca (fX7_noteEnd n S3 a0 a1 a2) fun r6 S7 => zd (zbit r6) <| some (r6, S7)
theorem tX7_updateWhole (l : Launch) (D : va_G) (tc : Nat → ClassId) (b n : Nat) {S S' : zM} {a0 : Int32} {a1 : Int32} {a2 : Int32} {r : Int32} (h : fX7_updateWhole n S a0 a1 a2 = some (r, S')) : zMi l D tc b n yX7_updateWhole cX7_updateWhole 3 .boolean 5 [zr a0, zr a1, zr a2] S S' r := by
  refine zMi_of zyX7_updateWhole (Nat.le_of_ble_eq_true rfl) (fun p e s m args below meth c H C hr hk ls hl I => ?_)
  have hl : zL b ls 3 [(0, zr a0), (1, zr a1), (2, zr a2)] := hl
  rw [fX7_updateWhole] at h
  refine z_aload_n C hl 1 rfl dX7_updateWhole_0 rfl ?_
  refine z_aload_n C hl 2 rfl dX7_updateWhole_1 rfl ?_
  refine z_bipush C (v := 14) dX7_updateWhole_2 (by decide) ?_
  obtain ⟨g1, h⟩ := zd_some h
  obtain ⟨r2, S3, h4, h⟩ := zcs h
  refine z_callVi C I (tX2_install l D tc b n h4) zyX2_install zyvX2_install zc2 g1 zq_412 (st := []) rfl rfl (by decide) (by decide) hl.1 (Nat.le_of_ble_eq_true rfl) dX7_updateWhole_4 (fun H locs I => ?_)
  refine z_pop C dX7_updateWhole_7 rfl ?_
  refine z_aload_n C hl 0 rfl dX7_updateWhole_8 rfl ?_
  refine z_aload_n C hl 1 rfl dX7_updateWhole_9 rfl ?_
  refine z_aload_n C hl 2 rfl dX7_updateWhole_10 rfl ?_
  obtain ⟨g5, h⟩ := zd_some h
  obtain ⟨r6, S7, h8, h⟩ := zcs h
  refine z_callVi C I (tX7_noteEnd l D tc b n h8) zyX7_noteEnd zyvX7_noteEnd zc7 g5 zq_440 (st := []) rfl rfl (by decide) (by decide) hl.1 (Nat.le_of_ble_eq_true rfl) dX7_updateWhole_11 (fun H locs I => ?_)
  obtain ⟨g9, h⟩ := zd_some h
  exact z_zret C I hr hk g9 h dX7_updateWhole_14

def fX7_update (n : Nat) (S : zM) (a0 : Int32) (a1 : Int32) (a2 : Int32) : Option (Int32 × zM) := zd (zo n 17 a0) <| zca (fX7_isDevice n S a0 a1) fun r2 S3 => if (r2 : Int32) = 0 then (some ((-1000001), S3)) else (zca (fX7_isVersion n S3 a0 a2) fun r6 S7 => if (r6 : Int32) = 0 then (some ((-1000001), S7)) else (zd (za n 4 (zg S7 a0 4) a1) <| zca (fX7_isAbove n S7 a2 (ze S7 (zg S7 a0 4) a1)) fun r11 S12 => if (r11 : Int32) = 0 then (some ((-1000002), S12)) else (zd (za n 4 (zg S12 a0 4) a1) <| zd (za n 3 (zg S12 a0 1) a2) <| zca (fX7_updateWhole n S12 a0 (ze S12 (zg S12 a0 4) a1) (ze S12 (zg S12 a0 1) a2)) fun r17 S18 => if (r17 : Int32) = 0 then (some (0, S18)) else (some (1, S18)))))
theorem tX7_update (l : Launch) (D : va_G) (tc : Nat → ClassId) (b n : Nat) {S S' : zM} {a0 : Int32} {a1 : Int32} {a2 : Int32} {r : Int32} (h : fX7_update n S a0 a1 a2 = some (r, S')) : zMi l D tc b n yX7_update cX7_update 3 .int 6 [zr a0, zi a1, zi a2] S S' r := by
  refine zMi_of zyX7_update (Nat.le_of_ble_eq_true rfl) (fun p e s m args below meth c H C hr hk ls hl I => ?_)
  have hl : zL b ls 3 [(0, zr a0), (1, zi a1), (2, zi a2)] := hl
  rw [fX7_update] at h
  refine z_aload_n C hl 0 rfl dX7_update_0 rfl ?_
  refine z_iload_n C hl 1 rfl dX7_update_1 rfl ?_
  obtain ⟨g1, h⟩ := zd_some h
  obtain ⟨r2, S3, h4, h⟩ := zcs h
  refine z_callVi C I (tX7_isDevice l D tc b n h4) zyX7_isDevice zyvX7_isDevice zc7 g1 zq_361 (st := []) rfl rfl (by decide) (by decide) hl.1 (Nat.le_of_ble_eq_true rfl) dX7_update_2 (fun H locs I => ?_)
  refine z_if_eq C 16 dX7_update_5 (by decide) (fun c5 => ?_) (fun c5 => ?_)
  · have h := zit c5 h
    refine z_ldc C zq_269 dX7_update_16 ?_
    exact z_iret C I hr hk h dX7_update_18
  · have h := zif c5 h
    refine z_aload_n C hl 0 rfl dX7_update_8 rfl ?_
    refine z_iload_n C hl 2 rfl dX7_update_9 rfl ?_
    obtain ⟨r6, S7, h8, h⟩ := zcs h
    refine z_callVi C I (tX7_isVersion l D tc b n h8) zyX7_isVersion zyvX7_isVersion zc7 g1 zq_327 (st := []) rfl rfl (by decide) (by decide) hl.1 (Nat.le_of_ble_eq_true rfl) dX7_update_10 (fun H locs I => ?_)
    refine z_if_ne C 19 dX7_update_13 (by decide) (fun c9 => ?_) (fun c9 => ?_)
    · have h := zif c9 h
      refine z_iload_n C hl 2 rfl dX7_update_19 rfl ?_
      refine z_aload_n C hl 0 rfl dX7_update_20 rfl ?_
      refine z_get C I 7 4 zc7 g1 (by decide) zq_232 (v := zr (zg S7 a0 4)) rfl dX7_update_21 ?_
      refine z_iload_n C hl 1 rfl dX7_update_24 rfl ?_
      obtain ⟨g10, h⟩ := zd_some h
      refine z_aald C I 4 (by decide) g10 dX7_update_25 ?_
      obtain ⟨r11, S12, h13, h⟩ := zcs h
      refine z_callSi C I (tX7_isAbove l D tc b n h13) zyX7_isAbove zq_406 zq_405 (st := []) rfl rfl (by decide) (by decide) hl.1 (Nat.le_of_ble_eq_true rfl) dX7_update_26 (fun H locs I => ?_)
      refine z_if_ne C 35 dX7_update_29 (by decide) (fun c14 => ?_) (fun c14 => ?_)
      · have h := zif c14 h
        refine z_aload_n C hl 0 rfl dX7_update_35 rfl ?_
        refine z_aload_n C hl 0 rfl dX7_update_36 rfl ?_
        refine z_get C I 7 4 zc7 g1 (by decide) zq_232 (v := zr (zg S12 a0 4)) rfl dX7_update_37 ?_
        refine z_iload_n C hl 1 rfl dX7_update_40 rfl ?_
        obtain ⟨g15, h⟩ := zd_some h
        refine z_aald C I 4 (by decide) g15 dX7_update_41 ?_
        refine z_aload_n C hl 0 rfl dX7_update_42 rfl ?_
        refine z_get C I 7 1 zc7 g1 (by decide) zq_229 (v := zr (zg S12 a0 1)) rfl dX7_update_43 ?_
        refine z_iload_n C hl 2 rfl dX7_update_46 rfl ?_
        obtain ⟨g16, h⟩ := zd_some h
        refine z_aald C I 3 (by decide) g16 dX7_update_47 ?_
        obtain ⟨r17, S18, h19, h⟩ := zcs h
        refine z_callVi C I (tX7_updateWhole l D tc b n h19) zyX7_updateWhole zyvX7_updateWhole zc7 g1 zq_408 (st := []) rfl rfl (by decide) (by decide) hl.1 (Nat.le_of_ble_eq_true rfl) dX7_update_48 (fun H locs I => ?_)
        refine z_if_eq C 58 dX7_update_51 (by decide) (fun c20 => ?_) (fun c20 => ?_)
        · have h := zit c20 h
          refine z_iconst C (v := 0) dX7_update_58 (by decide) ?_
          exact z_iret C I hr hk h dX7_update_59
        · have h := zif c20 h
          refine z_iconst C (v := 1) dX7_update_54 (by decide) ?_
          refine z_goto C 59 dX7_update_55 (by decide) ?_
          exact z_iret C I hr hk h dX7_update_59
      · have h := zit c14 h
        refine z_ldc C zq_369 dX7_update_32 ?_
        exact z_iret C I hr hk h dX7_update_34
    · have h := zit c9 h
      refine z_ldc C zq_269 dX7_update_16 ?_
      exact z_iret C I hr hk h dX7_update_18

def fX7_acts (n : Nat) (S : zM) (a0 : Int32) (a1 : Int32) (a2 : Int32) : Option (Int32 × zM) := zd (zo n 17 a0) <| zca (fX7_isDevice n S a0 a1) fun r2 S3 => if (r2 : Int32) = 0 then (some ((-1000001), S3)) else (zca (fX7_isVersion n S3 a0 a2) fun r6 S7 => if (r6 : Int32) = 0 then (some ((-1000001), S7)) else (zd (za n 4 (zg S7 a0 4) a1) <| zca (fX7_isAbove n S7 a2 (ze S7 (zg S7 a0 4) a1)) fun r11 S12 => if (r11 : Int32) = 0 then (some ((-1000002), S12)) else (zd (za n 4 (zg S12 a0 4) a1) <| zd (zo n 12 (zg S12 a0 6)) <| zca (fX2_become n S12 (zg S12 a0 6) (ze S12 (zg S12 a0 4) a1)) fun r17 S18 => zd (za n 3 (zg S18 a0 1) a2) <| zd (zo n 12 (zg S18 a0 6)) <| zca (fX2_install n S18 (zg S18 a0 6) (ze S18 (zg S18 a0 1) a2) 14) fun r22 S23 => some (r22, S23))))
theorem tX7_acts (l : Launch) (D : va_G) (tc : Nat → ClassId) (b n : Nat) {S S' : zM} {a0 : Int32} {a1 : Int32} {a2 : Int32} {r : Int32} (h : fX7_acts n S a0 a1 a2 = some (r, S')) : zMi l D tc b n yX7_acts cX7_acts 3 .int 5 [zr a0, zi a1, zi a2] S S' r := by
  refine zMi_of zyX7_acts (Nat.le_of_ble_eq_true rfl) (fun p e s m args below meth c H C hr hk ls hl I => ?_)
  have hl : zL b ls 3 [(0, zr a0), (1, zi a1), (2, zi a2)] := hl
  rw [fX7_acts] at h
  refine z_aload_n C hl 0 rfl dX7_acts_0 rfl ?_
  refine z_iload_n C hl 1 rfl dX7_acts_1 rfl ?_
  obtain ⟨g1, h⟩ := zd_some h
  obtain ⟨r2, S3, h4, h⟩ := zcs h
  refine z_callVi C I (tX7_isDevice l D tc b n h4) zyX7_isDevice zyvX7_isDevice zc7 g1 zq_361 (st := []) rfl rfl (by decide) (by decide) hl.1 (Nat.le_of_ble_eq_true rfl) dX7_acts_2 (fun H locs I => ?_)
  refine z_if_eq C 16 dX7_acts_5 (by decide) (fun c5 => ?_) (fun c5 => ?_)
  · have h := zit c5 h
    refine z_ldc C zq_269 dX7_acts_16 ?_
    exact z_iret C I hr hk h dX7_acts_18
  · have h := zif c5 h
    refine z_aload_n C hl 0 rfl dX7_acts_8 rfl ?_
    refine z_iload_n C hl 2 rfl dX7_acts_9 rfl ?_
    obtain ⟨r6, S7, h8, h⟩ := zcs h
    refine z_callVi C I (tX7_isVersion l D tc b n h8) zyX7_isVersion zyvX7_isVersion zc7 g1 zq_327 (st := []) rfl rfl (by decide) (by decide) hl.1 (Nat.le_of_ble_eq_true rfl) dX7_acts_10 (fun H locs I => ?_)
    refine z_if_ne C 19 dX7_acts_13 (by decide) (fun c9 => ?_) (fun c9 => ?_)
    · have h := zif c9 h
      refine z_iload_n C hl 2 rfl dX7_acts_19 rfl ?_
      refine z_aload_n C hl 0 rfl dX7_acts_20 rfl ?_
      refine z_get C I 7 4 zc7 g1 (by decide) zq_232 (v := zr (zg S7 a0 4)) rfl dX7_acts_21 ?_
      refine z_iload_n C hl 1 rfl dX7_acts_24 rfl ?_
      obtain ⟨g10, h⟩ := zd_some h
      refine z_aald C I 4 (by decide) g10 dX7_acts_25 ?_
      obtain ⟨r11, S12, h13, h⟩ := zcs h
      refine z_callSi C I (tX7_isAbove l D tc b n h13) zyX7_isAbove zq_406 zq_405 (st := []) rfl rfl (by decide) (by decide) hl.1 (Nat.le_of_ble_eq_true rfl) dX7_acts_26 (fun H locs I => ?_)
      refine z_if_ne C 35 dX7_acts_29 (by decide) (fun c14 => ?_) (fun c14 => ?_)
      · have h := zif c14 h
        refine z_aload_n C hl 0 rfl dX7_acts_35 rfl ?_
        refine z_get C I 7 6 zc7 g1 (by decide) zq_234 (v := zr (zg S12 a0 6)) rfl dX7_acts_36 ?_
        refine z_aload_n C hl 0 rfl dX7_acts_39 rfl ?_
        refine z_get C I 7 4 zc7 g1 (by decide) zq_232 (v := zr (zg S12 a0 4)) rfl dX7_acts_40 ?_
        refine z_iload_n C hl 1 rfl dX7_acts_43 rfl ?_
        obtain ⟨g15, h⟩ := zd_some h
        refine z_aald C I 4 (by decide) g15 dX7_acts_44 ?_
        obtain ⟨g16, h⟩ := zd_some h
        obtain ⟨r17, S18, h19, h⟩ := zcs h
        refine z_callVv C I (tX2_become l D tc b n h19) zyX2_become zyvX2_become zc2 g16 zq_452 (st := []) rfl rfl (by decide) (by decide) hl.1 (Nat.le_of_ble_eq_true rfl) dX7_acts_45 (fun H locs I => ?_)
        refine z_aload_n C hl 0 rfl dX7_acts_48 rfl ?_
        refine z_get C I 7 6 zc7 g1 (by decide) zq_234 (v := zr (zg S18 a0 6)) rfl dX7_acts_49 ?_
        refine z_aload_n C hl 0 rfl dX7_acts_52 rfl ?_
        refine z_get C I 7 1 zc7 g1 (by decide) zq_229 (v := zr (zg S18 a0 1)) rfl dX7_acts_53 ?_
        refine z_iload_n C hl 2 rfl dX7_acts_56 rfl ?_
        obtain ⟨g20, h⟩ := zd_some h
        refine z_aald C I 3 (by decide) g20 dX7_acts_57 ?_
        refine z_bipush C (v := 14) dX7_acts_58 (by decide) ?_
        obtain ⟨g21, h⟩ := zd_some h
        obtain ⟨r22, S23, h24, h⟩ := zcs h
        refine z_callVi C I (tX2_install l D tc b n h24) zyX2_install zyvX2_install zc2 g21 zq_412 (st := []) rfl rfl (by decide) (by decide) hl.1 (Nat.le_of_ble_eq_true rfl) dX7_acts_60 (fun H locs I => ?_)
        exact z_iret C I hr hk h dX7_acts_63
      · have h := zit c14 h
        refine z_ldc C zq_369 dX7_acts_32 ?_
        exact z_iret C I hr hk h dX7_acts_34
    · have h := zit c9 h
      refine z_ldc C zq_269 dX7_acts_16 ?_
      exact z_iret C I hr hk h dX7_acts_18

def fX7_cutStandIn_82 (n : Nat) : Nat → zM → Int32 → Int32 → Option (Int32 × zM)
  | 0, _, _, _ => none
  | fu + 1, S, x0, x4 => if (4 : Int32) ≤ (x4 : Int32) then (some (0, S)) else (zd (zo n 17 x0) <| zd (zo n 12 (zg S x0 6)) <| zca (fX2_start n S (zg S x0 6)) fun r4 S5 => zbd (x4 + 1) fun v7 => fX7_cutStandIn_82 n fu S5 x0 v7)
theorem bX7_cutStandIn_82 {p : Program} {l : Launch} {e : Env} {s : State} {m : MethodId} {args : Array Value} {below : List Frame} {meth : Method} {c : Code} {D : va_G} {tc : Nat → ClassId} {b n : Nat} {S' : zM} {r : Int32} (C : zC p m c cX7_cutStandIn 5 s args yX7_cutStandIn.cls D tc) (hr : meth.sig.returnType = some .int) (hk : meth.locks = false) : ∀ (fu : Nat) (S : zM) (x0 : Int32) (x4 : Int32) (H : Heap) (locs : List Loc) (ls : Array Slot), fX7_cutStandIn_82 n fu S x0 x4 = some (r, S') → zI D tc b n S s H locs → zL b ls 5 [(0, zr x0), (4, zi x4)] → W p l e (zR 5) s m args below meth c H locs 0 0 (zQi D tc b n S' r below args s) (zG b m 82 ls []) := by
  intro fu
  induction fu with
  | zero => intro S x0 x4 H locs ls h _ _; rw [fX7_cutStandIn_82] at h; cases h
  | succ fu ih =>
    intro S x0 x4 H locs ls h I hl
    rw [fX7_cutStandIn_82] at h
    refine z_iload C hl 1 rfl dX7_cutStandIn_82 ?_
    refine z_iconst C (v := 4) dX7_cutStandIn_84 (by decide) ?_
    refine z_icmp_ge C 101 dX7_cutStandIn_85 (by decide) (fun c1 => ?_) (fun c1 => ?_)
    · have h := zit c1 h
      refine z_iconst C (v := 0) dX7_cutStandIn_101 (by decide) ?_
      exact z_iret C I hr hk h dX7_cutStandIn_102
    · have h := zif c1 h
      refine z_aload_n C hl 0 rfl dX7_cutStandIn_88 rfl ?_
      obtain ⟨g2, h⟩ := zd_some h
      refine z_get C I 7 6 zc7 g2 (by decide) zq_234 (v := zr (zg S x0 6)) rfl dX7_cutStandIn_89 ?_
      obtain ⟨g3, h⟩ := zd_some h
      obtain ⟨r4, S5, h6, h⟩ := zcs h
      refine z_callVv C I (tX2_start l D tc b n h6) zyX2_start zyvX2_start zc2 g3 zq_464 (st := []) rfl rfl (by decide) (by decide) hl.1 (Nat.le_of_ble_eq_true rfl) dX7_cutStandIn_92 (fun H locs I => ?_)
      refine z_iinc C hl 1 (v := x4 + 1) rfl dX7_cutStandIn_95 rfl (by decide) (fun v7 => [(4, zi v7), (0, zr x0)]) (fun _ => rfl) (fun v7 e8 ls hl => ?_)
      have h := znb e8 h
      refine z_goto C 82 dX7_cutStandIn_98 (by decide) ?_
      exact ih _ _ _ _ _ _ h I (zL_sub hl [1, 0] rfl)

def fX7_cutStandIn (n : Nat) (S : zM) (a0 : Int32) (a1 : Int32) (a2 : Int32) (a3 : Int32) : Option (Int32 × zM) := zd (zo n 17 a0) <| zca (fX7_isDevice n S a0 a1) fun r2 S3 => if (r2 : Int32) = 0 then (some ((-1000001), S3)) else (zca (fX7_isVersion n S3 a0 a2) fun r6 S7 => if (r6 : Int32) = 0 then (some ((-1000001), S7)) else (if (a3 : Int32) < 0 then (some ((-1000001), S7)) else (if (a3 : Int32) ≤ (14 : Int32) then (zd (za n 4 (zg S7 a0 4) a1) <| zca (fX7_isAbove n S7 a2 (ze S7 (zg S7 a0 4) a1)) fun r13 S14 => if (r13 : Int32) = 0 then (some ((-1000002), S14)) else (zd (za n 4 (zg S14 a0 4) a1) <| zd (zo n 12 (zg S14 a0 6)) <| zca (fX2_become n S14 (zg S14 a0 6) (ze S14 (zg S14 a0 4) a1)) fun r19 S20 => zd (za n 3 (zg S20 a0 1) a2) <| zd (zo n 12 (zg S20 a0 6)) <| zca (fX2_install n S20 (zg S20 a0 6) (ze S20 (zg S20 a0 1) a2) a3) fun r24 S25 => if (a3 : Int32) ≤ (r24 : Int32) then (zbd (0) fun v28 => fX7_cutStandIn_82 n 1000 S25 a0 v28) else (some ((-1000001), S25)))) else (some ((-1000001), S7)))))
theorem tX7_cutStandIn (l : Launch) (D : va_G) (tc : Nat → ClassId) (b n : Nat) {S S' : zM} {a0 : Int32} {a1 : Int32} {a2 : Int32} {a3 : Int32} {r : Int32} (h : fX7_cutStandIn n S a0 a1 a2 a3 = some (r, S')) : zMi l D tc b n yX7_cutStandIn cX7_cutStandIn 5 .int 5 [zr a0, zi a1, zi a2, zi a3] S S' r := by
  refine zMi_of zyX7_cutStandIn (Nat.le_of_ble_eq_true rfl) (fun p e s m args below meth c H C hr hk ls hl I => ?_)
  have hl : zL b ls 5 [(0, zr a0), (1, zi a1), (2, zi a2), (3, zi a3)] := hl
  rw [fX7_cutStandIn] at h
  refine z_aload_n C hl 0 rfl dX7_cutStandIn_0 rfl ?_
  refine z_iload_n C hl 1 rfl dX7_cutStandIn_1 rfl ?_
  obtain ⟨g1, h⟩ := zd_some h
  obtain ⟨r2, S3, h4, h⟩ := zcs h
  refine z_callVi C I (tX7_isDevice l D tc b n h4) zyX7_isDevice zyvX7_isDevice zc7 g1 zq_361 (st := []) rfl rfl (by decide) (by decide) hl.1 (Nat.le_of_ble_eq_true rfl) dX7_cutStandIn_2 (fun H locs I => ?_)
  refine z_if_eq C 26 dX7_cutStandIn_5 (by decide) (fun c5 => ?_) (fun c5 => ?_)
  · have h := zit c5 h
    refine z_ldc C zq_269 dX7_cutStandIn_26 ?_
    exact z_iret C I hr hk h dX7_cutStandIn_28
  · have h := zif c5 h
    refine z_aload_n C hl 0 rfl dX7_cutStandIn_8 rfl ?_
    refine z_iload_n C hl 2 rfl dX7_cutStandIn_9 rfl ?_
    obtain ⟨r6, S7, h8, h⟩ := zcs h
    refine z_callVi C I (tX7_isVersion l D tc b n h8) zyX7_isVersion zyvX7_isVersion zc7 g1 zq_327 (st := []) rfl rfl (by decide) (by decide) hl.1 (Nat.le_of_ble_eq_true rfl) dX7_cutStandIn_10 (fun H locs I => ?_)
    refine z_if_eq C 26 dX7_cutStandIn_13 (by decide) (fun c9 => ?_) (fun c9 => ?_)
    · have h := zit c9 h
      refine z_ldc C zq_269 dX7_cutStandIn_26 ?_
      exact z_iret C I hr hk h dX7_cutStandIn_28
    · have h := zif c9 h
      refine z_iload_n C hl 3 rfl dX7_cutStandIn_16 rfl ?_
      refine z_if_lt C 26 dX7_cutStandIn_17 (by decide) (fun c10 => ?_) (fun c10 => ?_)
      · have h := zit c10 h
        refine z_ldc C zq_269 dX7_cutStandIn_26 ?_
        exact z_iret C I hr hk h dX7_cutStandIn_28
      · have h := zif c10 h
        refine z_iload_n C hl 3 rfl dX7_cutStandIn_20 rfl ?_
        refine z_bipush C (v := 14) dX7_cutStandIn_21 (by decide) ?_
        refine z_icmp_le C 29 dX7_cutStandIn_23 (by decide) (fun c11 => ?_) (fun c11 => ?_)
        · have h := zit c11 h
          refine z_iload_n C hl 2 rfl dX7_cutStandIn_29 rfl ?_
          refine z_aload_n C hl 0 rfl dX7_cutStandIn_30 rfl ?_
          refine z_get C I 7 4 zc7 g1 (by decide) zq_232 (v := zr (zg S7 a0 4)) rfl dX7_cutStandIn_31 ?_
          refine z_iload_n C hl 1 rfl dX7_cutStandIn_34 rfl ?_
          obtain ⟨g12, h⟩ := zd_some h
          refine z_aald C I 4 (by decide) g12 dX7_cutStandIn_35 ?_
          obtain ⟨r13, S14, h15, h⟩ := zcs h
          refine z_callSi C I (tX7_isAbove l D tc b n h15) zyX7_isAbove zq_406 zq_405 (st := []) rfl rfl (by decide) (by decide) hl.1 (Nat.le_of_ble_eq_true rfl) dX7_cutStandIn_36 (fun H locs I => ?_)
          refine z_if_ne C 45 dX7_cutStandIn_39 (by decide) (fun c16 => ?_) (fun c16 => ?_)
          · have h := zif c16 h
            refine z_aload_n C hl 0 rfl dX7_cutStandIn_45 rfl ?_
            refine z_get C I 7 6 zc7 g1 (by decide) zq_234 (v := zr (zg S14 a0 6)) rfl dX7_cutStandIn_46 ?_
            refine z_aload_n C hl 0 rfl dX7_cutStandIn_49 rfl ?_
            refine z_get C I 7 4 zc7 g1 (by decide) zq_232 (v := zr (zg S14 a0 4)) rfl dX7_cutStandIn_50 ?_
            refine z_iload_n C hl 1 rfl dX7_cutStandIn_53 rfl ?_
            obtain ⟨g17, h⟩ := zd_some h
            refine z_aald C I 4 (by decide) g17 dX7_cutStandIn_54 ?_
            obtain ⟨g18, h⟩ := zd_some h
            obtain ⟨r19, S20, h21, h⟩ := zcs h
            refine z_callVv C I (tX2_become l D tc b n h21) zyX2_become zyvX2_become zc2 g18 zq_452 (st := []) rfl rfl (by decide) (by decide) hl.1 (Nat.le_of_ble_eq_true rfl) dX7_cutStandIn_55 (fun H locs I => ?_)
            refine z_aload_n C hl 0 rfl dX7_cutStandIn_58 rfl ?_
            refine z_get C I 7 6 zc7 g1 (by decide) zq_234 (v := zr (zg S20 a0 6)) rfl dX7_cutStandIn_59 ?_
            refine z_aload_n C hl 0 rfl dX7_cutStandIn_62 rfl ?_
            refine z_get C I 7 1 zc7 g1 (by decide) zq_229 (v := zr (zg S20 a0 1)) rfl dX7_cutStandIn_63 ?_
            refine z_iload_n C hl 2 rfl dX7_cutStandIn_66 rfl ?_
            obtain ⟨g22, h⟩ := zd_some h
            refine z_aald C I 3 (by decide) g22 dX7_cutStandIn_67 ?_
            refine z_iload_n C hl 3 rfl dX7_cutStandIn_68 rfl ?_
            obtain ⟨g23, h⟩ := zd_some h
            obtain ⟨r24, S25, h26, h⟩ := zcs h
            refine z_callVi C I (tX2_install l D tc b n h26) zyX2_install zyvX2_install zc2 g23 zq_412 (st := []) rfl rfl (by decide) (by decide) hl.1 (Nat.le_of_ble_eq_true rfl) dX7_cutStandIn_69 (fun H locs I => ?_)
            refine z_iload_n C hl 3 rfl dX7_cutStandIn_72 rfl ?_
            refine z_icmp_ge C 79 dX7_cutStandIn_73 (by decide) (fun c27 => ?_) (fun c27 => ?_)
            · have h := zit c27 h
              refine z_iconst C (v := 0) dX7_cutStandIn_79 (by decide) ?_
              refine z_istore C hl dX7_cutStandIn_80 (by decide) (fun v28 => [(4, zi v28), (0, zr a0), (1, zi a1), (2, zi a2), (3, zi a3)]) (fun _ => rfl) (fun v28 e29 ls hl => ?_)
              have h := znb e29 h
              exact bX7_cutStandIn_82 C hr hk 1000 _ _ _ _ _ _ h I (zL_sub hl [1, 0] rfl)
            · have h := zif c27 h
              refine z_ldc C zq_269 dX7_cutStandIn_76 ?_
              exact z_iret C I hr hk h dX7_cutStandIn_78
          · have h := zit c16 h
            refine z_ldc C zq_369 dX7_cutStandIn_42 ?_
            exact z_iret C I hr hk h dX7_cutStandIn_44
        · have h := zif c11 h
          refine z_ldc C zq_269 dX7_cutStandIn_26 ?_
          exact z_iret C I hr hk h dX7_cutStandIn_28

def fX7_power (n : Nat) (S : zM) (a0 : Int32) (a1 : Int32) (a2 : Int32) (a3 : Int32) : Option (Int32 × zM) := zd (zo n 17 a0) <| zca (fX7_cutStandIn n S a0 a1 a2 a3) fun r2 S3 => zbd (r2) fun v5 => if (v5 : Int32) = 0 then (zd (za n 4 (zg S3 a0 4) a1) <| zbd (ze S3 (zg S3 a0 4) a1) fun v9 => zd (zo n 12 v9) <| zca (fX2_become n S3 v9 (zg S3 a0 6)) fun r12 S13 => zd (za n 3 (zg S13 a0 1) a2) <| zca (fX7_noteEnd n S13 a0 v9 (ze S13 (zg S13 a0 1) a2)) fun r16 S17 => if (r16 : Int32) = 0 then (some (0, S17)) else (some (1, S17))) else (some (v5, S3))
theorem tX7_power (l : Launch) (D : va_G) (tc : Nat → ClassId) (b n : Nat) {S S' : zM} {a0 : Int32} {a1 : Int32} {a2 : Int32} {a3 : Int32} {r : Int32} (h : fX7_power n S a0 a1 a2 a3 = some (r, S')) : zMi l D tc b n yX7_power cX7_power 6 .int 6 [zr a0, zi a1, zi a2, zi a3] S S' r := by
  refine zMi_of zyX7_power (Nat.le_of_ble_eq_true rfl) (fun p e s m args below meth c H C hr hk ls hl I => ?_)
  have hl : zL b ls 6 [(0, zr a0), (1, zi a1), (2, zi a2), (3, zi a3)] := hl
  rw [fX7_power] at h
  refine z_aload_n C hl 0 rfl dX7_power_0 rfl ?_
  refine z_iload_n C hl 1 rfl dX7_power_1 rfl ?_
  refine z_iload_n C hl 2 rfl dX7_power_2 rfl ?_
  refine z_iload_n C hl 3 rfl dX7_power_3 rfl ?_
  obtain ⟨g1, h⟩ := zd_some h
  obtain ⟨r2, S3, h4, h⟩ := zcs h
  refine z_callVi C I (tX7_cutStandIn l D tc b n h4) zyX7_cutStandIn zyvX7_cutStandIn zc7 g1 zq_460 (st := []) rfl rfl (by decide) (by decide) hl.1 (Nat.le_of_ble_eq_true rfl) dX7_power_4 (fun H locs I => ?_)
  refine z_istore C hl dX7_power_7 (by decide) (fun v5 => [(4, zi v5), (0, zr a0), (1, zi a1), (2, zi a2), (3, zi a3)]) (fun _ => rfl) (fun v5 e6 ls hl => ?_)
  have h := znb e6 h
  refine z_iload C hl 0 rfl dX7_power_9 ?_
  refine z_if_eq C 17 dX7_power_11 (by decide) (fun c7 => ?_) (fun c7 => ?_)
  · have h := zit c7 h
    refine z_aload_n C hl 1 rfl dX7_power_17 rfl ?_
    refine z_get C I 7 4 zc7 g1 (by decide) zq_232 (v := zr (zg S3 a0 4)) rfl dX7_power_18 ?_
    refine z_iload_n C hl 2 rfl dX7_power_21 rfl ?_
    obtain ⟨g8, h⟩ := zd_some h
    refine z_aald C I 4 (by decide) g8 dX7_power_22 ?_
    refine z_astore C hl dX7_power_23 (by decide) (fun v9 => [(5, zr v9), (4, zi v5), (0, zr a0), (1, zi a1), (2, zi a2), (3, zi a3)]) (fun _ => rfl) (fun v9 e10 ls hl => ?_)
    have h := znb e10 h
    refine z_aload C hl 0 rfl dX7_power_25 ?_
    refine z_aload_n C hl 2 rfl dX7_power_27 rfl ?_
    refine z_get C I 7 6 zc7 g1 (by decide) zq_234 (v := zr (zg S3 a0 6)) rfl dX7_power_28 ?_
    obtain ⟨g11, h⟩ := zd_some h
    obtain ⟨r12, S13, h14, h⟩ := zcs h
    refine z_callVv C I (tX2_become l D tc b n h14) zyX2_become zyvX2_become zc2 g11 zq_452 (st := []) rfl rfl (by decide) (by decide) hl.1 (Nat.le_of_ble_eq_true rfl) dX7_power_31 (fun H locs I => ?_)
    refine z_aload_n C hl 2 rfl dX7_power_34 rfl ?_
    refine z_aload C hl 0 rfl dX7_power_35 ?_
    refine z_aload_n C hl 2 rfl dX7_power_37 rfl ?_
    refine z_get C I 7 1 zc7 g1 (by decide) zq_229 (v := zr (zg S13 a0 1)) rfl dX7_power_38 ?_
    refine z_iload_n C hl 4 rfl dX7_power_41 rfl ?_
    obtain ⟨g15, h⟩ := zd_some h
    refine z_aald C I 3 (by decide) g15 dX7_power_42 ?_
    obtain ⟨r16, S17, h18, h⟩ := zcs h
    refine z_callVi C I (tX7_noteEnd l D tc b n h18) zyX7_noteEnd zyvX7_noteEnd zc7 g1 zq_440 (st := []) rfl rfl (by decide) (by decide) hl.1 (Nat.le_of_ble_eq_true rfl) dX7_power_43 (fun H locs I => ?_)
    refine z_if_eq C 53 dX7_power_46 (by decide) (fun c19 => ?_) (fun c19 => ?_)
    · have h := zit c19 h
      refine z_iconst C (v := 0) dX7_power_53 (by decide) ?_
      exact z_iret C I hr hk h dX7_power_54
    · have h := zif c19 h
      refine z_iconst C (v := 1) dX7_power_49 (by decide) ?_
      refine z_goto C 54 dX7_power_50 (by decide) ?_
      exact z_iret C I hr hk h dX7_power_54
  · have h := zif c7 h
    refine z_iload C hl 0 rfl dX7_power_14 ?_
    exact z_iret C I hr hk h dX7_power_16

def fX7_cut (n : Nat) (S : zM) (a0 : Int32) (a1 : Int32) (a2 : Int32) (a3 : Int32) (a4 : Int32) : Option (Int32 × zM) := if (a4 : Int32) < 0 then (some ((-1000001), S)) else (if (a4 : Int32) ≤ (3 : Int32) then (zd (zo n 17 a0) <| zca (fX7_cutStandIn n S a0 a1 a2 a3) fun r4 S5 => zbd (r4) fun v7 => if (v7 : Int32) = 0 then (if (a4 : Int32) = 0 then (zd (zo n 12 (zg S5 a0 6)) <| zca (fX2_isAlive n S5 (zg S5 a0 6)) fun r12 S13 => if (r12 : Int32) = 0 then (some (0, S13)) else (some (1, S13))) else if (a4 : Int32) = 1 then (zd (zo n 12 (zg S5 a0 6)) <| zd (zo n 14 (zg S5 (zg S5 a0 6) 3)) <| zca (fX4_versionNumber n S5 (zg S5 (zg S5 a0 6) 3)) fun r19 S20 => some (r19, S20)) else if (a4 : Int32) = 2 then (zd (zo n 12 (zg S5 a0 6)) <| zd (zo n 14 (zg S5 (zg S5 a0 6) 4)) <| some (zg S5 (zg S5 (zg S5 a0 6) 4) 1, S5)) else (zd (zo n 12 (zg S5 a0 6)) <| some (zg S5 (zg S5 a0 6) 8, S5))) else (some (v7, S5))) else (some ((-1000001), S)))
theorem tX7_cut (l : Launch) (D : va_G) (tc : Nat → ClassId) (b n : Nat) {S S' : zM} {a0 : Int32} {a1 : Int32} {a2 : Int32} {a3 : Int32} {a4 : Int32} {r : Int32} (h : fX7_cut n S a0 a1 a2 a3 a4 = some (r, S')) : zMi l D tc b n yX7_cut cX7_cut 6 .int 6 [zr a0, zi a1, zi a2, zi a3, zi a4] S S' r := by
  refine zMi_of zyX7_cut (Nat.le_of_ble_eq_true rfl) (fun p e s m args below meth c H C hr hk ls hl I => ?_)
  have hl : zL b ls 6 [(0, zr a0), (1, zi a1), (2, zi a2), (3, zi a3), (4, zi a4)] := hl
  rw [fX7_cut] at h
  refine z_iload C hl 4 rfl dX7_cut_0 ?_
  refine z_if_lt C 11 dX7_cut_2 (by decide) (fun c1 => ?_) (fun c1 => ?_)
  · have h := zit c1 h
    refine z_ldc C zq_269 dX7_cut_11 ?_
    exact z_iret C I hr hk h dX7_cut_13
  · have h := zif c1 h
    refine z_iload C hl 4 rfl dX7_cut_5 ?_
    refine z_iconst C (v := 3) dX7_cut_7 (by decide) ?_
    refine z_icmp_le C 14 dX7_cut_8 (by decide) (fun c2 => ?_) (fun c2 => ?_)
    · have h := zit c2 h
      refine z_aload_n C hl 0 rfl dX7_cut_14 rfl ?_
      refine z_iload_n C hl 1 rfl dX7_cut_15 rfl ?_
      refine z_iload_n C hl 2 rfl dX7_cut_16 rfl ?_
      refine z_iload_n C hl 3 rfl dX7_cut_17 rfl ?_
      obtain ⟨g3, h⟩ := zd_some h
      obtain ⟨r4, S5, h6, h⟩ := zcs h
      refine z_callVi C I (tX7_cutStandIn l D tc b n h6) zyX7_cutStandIn zyvX7_cutStandIn zc7 g3 zq_460 (st := []) rfl rfl (by decide) (by decide) hl.1 (Nat.le_of_ble_eq_true rfl) dX7_cut_18 (fun H locs I => ?_)
      refine z_istore C hl dX7_cut_21 (by decide) (fun v7 => [(5, zi v7), (0, zr a0), (1, zi a1), (2, zi a2), (3, zi a3), (4, zi a4)]) (fun _ => rfl) (fun v7 e8 ls hl => ?_)
      have h := znb e8 h
      refine z_iload C hl 0 rfl dX7_cut_23 ?_
      refine z_if_eq C 31 dX7_cut_25 (by decide) (fun c9 => ?_) (fun c9 => ?_)
      · have h := zit c9 h
        refine z_iload C hl 5 rfl dX7_cut_31 ?_
        by_cases c10 : (a4 : Int32) = 0
        · have h := zit c10 h
          refine z_tsIn C (off := 27) 60 c10 dX7_cut_33 (by decide) (by decide) (by decide) (by decide) ?_
          refine z_aload_n C hl 1 rfl dX7_cut_60 rfl ?_
          refine z_get C I 7 6 zc7 g3 (by decide) zq_234 (v := zr (zg S5 a0 6)) rfl dX7_cut_61 ?_
          obtain ⟨g11, h⟩ := zd_some h
          obtain ⟨r12, S13, h14, h⟩ := zcs h
          refine z_callVi C I (tX2_isAlive l D tc b n h14) zyX2_isAlive zyvX2_isAlive zc2 g11 zq_393 (st := []) rfl rfl (by decide) (by decide) hl.1 (Nat.le_of_ble_eq_true rfl) dX7_cut_64 (fun H locs I => ?_)
          refine z_if_eq C 74 dX7_cut_67 (by decide) (fun c15 => ?_) (fun c15 => ?_)
          · have h := zit c15 h
            refine z_iconst C (v := 0) dX7_cut_74 (by decide) ?_
            exact z_iret C I hr hk h dX7_cut_75
          · have h := zif c15 h
            refine z_iconst C (v := 1) dX7_cut_70 (by decide) ?_
            refine z_goto C 75 dX7_cut_71 (by decide) ?_
            exact z_iret C I hr hk h dX7_cut_75
        have h := zif c10 h
        by_cases c16 : (a4 : Int32) = 1
        · have h := zit c16 h
          refine z_tsIn C (off := 43) 76 c16 dX7_cut_33 (by decide) (by decide) (by decide) (by decide) ?_
          refine z_aload_n C hl 1 rfl dX7_cut_76 rfl ?_
          refine z_get C I 7 6 zc7 g3 (by decide) zq_234 (v := zr (zg S5 a0 6)) rfl dX7_cut_77 ?_
          obtain ⟨g17, h⟩ := zd_some h
          refine z_get C I 2 3 zc2 g17 (by decide) zq_84 (v := zr (zg S5 (zg S5 a0 6) 3)) rfl dX7_cut_80 ?_
          obtain ⟨g18, h⟩ := zd_some h
          obtain ⟨r19, S20, h21, h⟩ := zcs h
          refine z_callVi C I (tX4_versionNumber l D tc b n h21) zyX4_versionNumber zyvX4_versionNumber zc4 g18 zq_382 (st := []) rfl rfl (by decide) (by decide) hl.1 (Nat.le_of_ble_eq_true rfl) dX7_cut_83 (fun H locs I => ?_)
          exact z_iret C I hr hk h dX7_cut_86
        have h := zif c16 h
        by_cases c22 : (a4 : Int32) = 2
        · have h := zit c22 h
          refine z_tsIn C (off := 54) 87 c22 dX7_cut_33 (by decide) (by decide) (by decide) (by decide) ?_
          refine z_aload_n C hl 1 rfl dX7_cut_87 rfl ?_
          refine z_get C I 7 6 zc7 g3 (by decide) zq_234 (v := zr (zg S5 a0 6)) rfl dX7_cut_88 ?_
          obtain ⟨g23, h⟩ := zd_some h
          refine z_get C I 2 4 zc2 g23 (by decide) zq_86 (v := zr (zg S5 (zg S5 a0 6) 4)) rfl dX7_cut_91 ?_
          obtain ⟨g24, h⟩ := zd_some h
          refine z_get C I 4 1 zc4 g24 (by decide) zq_69 (v := zi (zg S5 (zg S5 (zg S5 a0 6) 4) 1)) rfl dX7_cut_94 ?_
          exact z_iret C I hr hk h dX7_cut_97
        have h := zif c22 h
        refine z_tsOut C 98 dX7_cut_33 (by have t_c10 : ((a4 : Int32)).toInt ≠ 0 := fun q => c10 (Int32.toInt_inj.mp (q.trans (by decide))); have t_c16 : ((a4 : Int32)).toInt ≠ 1 := fun q => c16 (Int32.toInt_inj.mp (q.trans (by decide))); have t_c22 : ((a4 : Int32)).toInt ≠ 2 := fun q => c22 (Int32.toInt_inj.mp (q.trans (by decide))); omega) (by decide) ?_
        refine z_aload_n C hl 1 rfl dX7_cut_98 rfl ?_
        refine z_get C I 7 6 zc7 g3 (by decide) zq_234 (v := zr (zg S5 a0 6)) rfl dX7_cut_99 ?_
        obtain ⟨g25, h⟩ := zd_some h
        refine z_get C I 2 8 zc2 g25 (by decide) zq_93 (v := zi (zg S5 (zg S5 a0 6) 8)) rfl dX7_cut_102 ?_
        exact z_iret C I hr hk h dX7_cut_105
      · have h := zif c9 h
        refine z_iload C hl 0 rfl dX7_cut_28 ?_
        exact z_iret C I hr hk h dX7_cut_30
    · have h := zif c2 h
      refine z_ldc C zq_269 dX7_cut_11 ?_
      exact z_iret C I hr hk h dX7_cut_13

def fX7_seed (n : Nat) (S : zM) (a0 : Int32) (a1 : Int32) : Option (Int32 × zM) := zd (zo n 17 a0) <| zbd (zp S a0 8 a1) fun S2 => some (1, S2)
theorem tX7_seed (l : Launch) (D : va_G) (tc : Nat → ClassId) (b n : Nat) {S S' : zM} {a0 : Int32} {a1 : Int32} {r : Int32} (h : fX7_seed n S a0 a1 = some (r, S')) : zMi l D tc b n yX7_seed cX7_seed 2 .int 0 [zr a0, zi a1] S S' r := by
  refine zMi_of zyX7_seed (Nat.le_of_ble_eq_true rfl) (fun p e s m args below meth c H C hr hk ls hl I => ?_)
  have hl : zL b ls 2 [(0, zr a0), (1, zi a1)] := hl
  rw [fX7_seed] at h
  refine z_aload_n C hl 0 rfl dX7_seed_0 rfl ?_
  refine z_iload_n C hl 1 rfl dX7_seed_1 rfl ?_
  obtain ⟨g1, h⟩ := zd_some h
  refine z_put C I 7 8 zc7 g1 (by decide) rfl zq_236 rfl (v := zi a1) rfl dX7_seed_2 (fun S2 e3 H locs I => ?_)
  have h := znb e3 h
  refine z_iconst C (v := 1) dX7_seed_5 (by decide) ?_
  exact z_iret C I hr hk h dX7_seed_6

def fX7_isMember (n : Nat) (S : zM) (a0 : Int32) (a1 : Int32) : Option (Int32 × zM) := zd (zo n 17 a0) <| zca (fX7_drawOf n S a0 a1) fun r2 S3 => zd (zo n 11 (zg S3 a0 7)) <| zca (fX1_shareOfWave n S3 (zg S3 a0 7)) fun r6 S7 => if (r6 : Int32) ≤ (r2 : Int32) then (some (0, S7)) else (some (1, S7))
theorem tX7_isMember (l : Launch) (D : va_G) (tc : Nat → ClassId) (b n : Nat) {S S' : zM} {a0 : Int32} {a1 : Int32} {r : Int32} (h : fX7_isMember n S a0 a1 = some (r, S')) : zMi l D tc b n yX7_isMember cX7_isMember 2 .boolean 1 [zr a0, zr a1] S S' r := by
  refine zMi_of zyX7_isMember (Nat.le_of_ble_eq_true rfl) (fun p e s m args below meth c H C hr hk ls hl I => ?_)
  have hl : zL b ls 2 [(0, zr a0), (1, zr a1)] := hl
  rw [fX7_isMember] at h
  refine z_aload_n C hl 0 rfl dX7_isMember_0 rfl ?_
  refine z_aload_n C hl 1 rfl dX7_isMember_1 rfl ?_
  obtain ⟨g1, h⟩ := zd_some h
  obtain ⟨r2, S3, h4, h⟩ := zcs h
  refine z_callVi C I (tX7_drawOf l D tc b n h4) zyX7_drawOf zyvX7_drawOf zc7 g1 zq_387 (st := []) rfl rfl (by decide) (by decide) hl.1 (Nat.le_of_ble_eq_true rfl) dX7_isMember_2 (fun H locs I => ?_)
  refine z_aload_n C hl 0 rfl dX7_isMember_5 rfl ?_
  refine z_get C I 7 7 zc7 g1 (by decide) zq_235 (v := zr (zg S3 a0 7)) rfl dX7_isMember_6 ?_
  obtain ⟨g5, h⟩ := zd_some h
  obtain ⟨r6, S7, h8, h⟩ := zcs h
  refine z_callVi C I (tX1_shareOfWave l D tc b n h8) zyX1_shareOfWave zyvX1_shareOfWave zc1 g5 zq_498 (st := [zi r2]) rfl rfl (by decide) (by decide) hl.1 (Nat.le_of_ble_eq_true rfl) dX7_isMember_9 (fun H locs I => ?_)
  refine z_icmp_ge C 19 dX7_isMember_12 (by decide) (fun c9 => ?_) (fun c9 => ?_)
  · have h := zit c9 h
    refine z_iconst C (v := 0) dX7_isMember_19 (by decide) ?_
    exact z_zret C I hr hk rfl h dX7_isMember_20
  · have h := zif c9 h
    refine z_iconst C (v := 1) dX7_isMember_15 (by decide) ?_
    refine z_goto C 20 dX7_isMember_16 (by decide) ?_
    exact z_zret C I hr hk rfl h dX7_isMember_20

def fX7_membersOfWave_28 (n : Nat) (k4 : zM → Int32 → Int32 → Int32 → Option (Int32 × zM)) (S : zM) (x0 : Int32) (x1 : Int32) (x2 : Int32) : Option (Int32 × zM) := zbd (x2 + 1) fun v1 => k4 S x0 x1 v1
theorem bX7_membersOfWave_28 {p : Program} {l : Launch} {e : Env} {s : State} {m : MethodId} {args : Array Value} {below : List Frame} {meth : Method} {c : Code} {D : va_G} {tc : Nat → ClassId} {b n : Nat} {S' : zM} {r : Int32} (C : zC p m c cX7_membersOfWave 3 s args yX7_membersOfWave.cls D tc) (hr : meth.sig.returnType = some .int) (hk : meth.locks = false) {k4 : zM → Int32 → Int32 → Int32 → Option (Int32 × zM)} (K4 : ∀ (S : zM) (x0 : Int32) (x1 : Int32) (x2 : Int32) (H : Heap) (locs : List Loc) (ls : Array Slot), k4 S x0 x1 x2 = some (r, S') → zI D tc b n S s H locs → zL b ls 3 [(0, zr x0), (1, zi x1), (2, zi x2)] → W p l e (zR 2) s m args below meth c H locs 0 0 (zQi D tc b n S' r below args s) (zG b m 4 ls [])) : ∀ (S : zM) (x0 : Int32) (x1 : Int32) (x2 : Int32) (H : Heap) (locs : List Loc) (ls : Array Slot), fX7_membersOfWave_28 n k4 S x0 x1 x2 = some (r, S') → zI D tc b n S s H locs → zL b ls 3 [(0, zr x0), (1, zi x1), (2, zi x2)] → W p l e (zR 2) s m args below meth c H locs 0 0 (zQi D tc b n S' r below args s) (zG b m 28 ls []) := by
  intro S x0 x1 x2 H locs ls h I hl
  rw [fX7_membersOfWave_28] at h
  refine z_iinc C hl 2 (v := x2 + 1) rfl dX7_membersOfWave_28 rfl (by decide) (fun v1 => [(2, zi v1), (0, zr x0), (1, zi x1)]) (fun _ => rfl) (fun v1 e2 ls hl => ?_)
  have h := znb e2 h
  refine z_goto C 4 dX7_membersOfWave_31 (by decide) ?_
  exact K4 _ _ _ _ _ _ _ h I (zL_sub hl [1, 2, 0] rfl)

def fX7_membersOfWave_4 (n : Nat) : Nat → zM → Int32 → Int32 → Int32 → Option (Int32 × zM)
  | 0, _, _, _, _ => none
  | fu + 1, S, x0, x1, x2 => zd (zo n 17 x0) <| if (zg S x0 5 : Int32) ≤ (x2 : Int32) then (some (x1, S)) else (zd (za n 4 (zg S x0 4) x2) <| zca (fX7_isMember n S x0 (ze S (zg S x0 4) x2)) fun r4 S5 => if (r4 : Int32) = 0 then (fX7_membersOfWave_28 n (fX7_membersOfWave_4 n fu) S5 x0 x1 x2) else (zbd (x1 + 1) fun v8 => fX7_membersOfWave_28 n (fX7_membersOfWave_4 n fu) S5 x0 v8 x2))
theorem bX7_membersOfWave_4 {p : Program} {l : Launch} {e : Env} {s : State} {m : MethodId} {args : Array Value} {below : List Frame} {meth : Method} {c : Code} {D : va_G} {tc : Nat → ClassId} {b n : Nat} {S' : zM} {r : Int32} (C : zC p m c cX7_membersOfWave 3 s args yX7_membersOfWave.cls D tc) (hr : meth.sig.returnType = some .int) (hk : meth.locks = false) : ∀ (fu : Nat) (S : zM) (x0 : Int32) (x1 : Int32) (x2 : Int32) (H : Heap) (locs : List Loc) (ls : Array Slot), fX7_membersOfWave_4 n fu S x0 x1 x2 = some (r, S') → zI D tc b n S s H locs → zL b ls 3 [(0, zr x0), (1, zi x1), (2, zi x2)] → W p l e (zR 2) s m args below meth c H locs 0 0 (zQi D tc b n S' r below args s) (zG b m 4 ls []) := by
  intro fu
  induction fu with
  | zero => intro S x0 x1 x2 H locs ls h _ _; rw [fX7_membersOfWave_4] at h; cases h
  | succ fu ih =>
    intro S x0 x1 x2 H locs ls h I hl
    rw [fX7_membersOfWave_4] at h
    refine z_iload_n C hl 2 rfl dX7_membersOfWave_4 rfl ?_
    refine z_aload_n C hl 0 rfl dX7_membersOfWave_5 rfl ?_
    obtain ⟨g1, h⟩ := zd_some h
    refine z_get C I 7 5 zc7 g1 (by decide) zq_233 (v := zi (zg S x0 5)) rfl dX7_membersOfWave_6 ?_
    refine z_icmp_ge C 34 dX7_membersOfWave_9 (by decide) (fun c2 => ?_) (fun c2 => ?_)
    · have h := zit c2 h
      refine z_iload_n C hl 1 rfl dX7_membersOfWave_34 rfl ?_
      exact z_iret C I hr hk h dX7_membersOfWave_35
    · have h := zif c2 h
      refine z_aload_n C hl 0 rfl dX7_membersOfWave_12 rfl ?_
      refine z_aload_n C hl 0 rfl dX7_membersOfWave_13 rfl ?_
      refine z_get C I 7 4 zc7 g1 (by decide) zq_232 (v := zr (zg S x0 4)) rfl dX7_membersOfWave_14 ?_
      refine z_iload_n C hl 2 rfl dX7_membersOfWave_17 rfl ?_
      obtain ⟨g3, h⟩ := zd_some h
      refine z_aald C I 4 (by decide) g3 dX7_membersOfWave_18 ?_
      obtain ⟨r4, S5, h6, h⟩ := zcs h
      refine z_callVi C I (tX7_isMember l D tc b n h6) zyX7_isMember zyvX7_isMember zc7 g1 zq_494 (st := []) rfl rfl (by decide) (by decide) hl.1 (Nat.le_of_ble_eq_true rfl) dX7_membersOfWave_19 (fun H locs I => ?_)
      refine z_if_eq C 28 dX7_membersOfWave_22 (by decide) (fun c7 => ?_) (fun c7 => ?_)
      · have h := zit c7 h
        exact bX7_membersOfWave_28 C hr hk ih _ _ _ _ _ _ _ h I (zL_sub hl [0, 1, 2] rfl)
      · have h := zif c7 h
        refine z_iinc C hl 1 (v := x1 + 1) rfl dX7_membersOfWave_25 rfl (by decide) (fun v8 => [(1, zi v8), (0, zr x0), (2, zi x2)]) (fun _ => rfl) (fun v8 e9 ls hl => ?_)
        have h := znb e9 h
        exact bX7_membersOfWave_28 C hr hk ih _ _ _ _ _ _ _ h I (zL_sub hl [1, 0, 2] rfl)

def fX7_membersOfWave (n : Nat) (S : zM) (a0 : Int32) : Option (Int32 × zM) := zbd (0) fun v1 => zbd (0) fun v3 => fX7_membersOfWave_4 n 1000 S a0 v1 v3
theorem tX7_membersOfWave (l : Launch) (D : va_G) (tc : Nat → ClassId) (b n : Nat) {S S' : zM} {a0 : Int32} {r : Int32} (h : fX7_membersOfWave n S a0 = some (r, S')) : zMi l D tc b n yX7_membersOfWave cX7_membersOfWave 3 .int 2 [zr a0] S S' r := by
  refine zMi_of zyX7_membersOfWave (Nat.le_of_ble_eq_true rfl) (fun p e s m args below meth c H C hr hk ls hl I => ?_)
  have hl : zL b ls 3 [(0, zr a0)] := hl
  rw [fX7_membersOfWave] at h
  refine z_iconst C (v := 0) dX7_membersOfWave_0 (by decide) ?_
  refine z_istore_n C hl dX7_membersOfWave_1 rfl (by decide) (fun v1 => [(1, zi v1), (0, zr a0)]) (fun _ => rfl) (fun v1 e2 ls hl => ?_)
  have h := znb e2 h
  refine z_iconst C (v := 0) dX7_membersOfWave_2 (by decide) ?_
  refine z_istore_n C hl dX7_membersOfWave_3 rfl (by decide) (fun v3 => [(2, zi v3), (1, zi v1), (0, zr a0)]) (fun _ => rfl) (fun v3 e4 ls hl => ?_)
  have h := znb e4 h
  exact bX7_membersOfWave_4 C hr hk 1000 _ _ _ _ _ _ _ h I (zL_sub hl [2, 1, 0] rfl)

def fX7_campaign (n : Nat) (S : zM) (a0 : Int32) (a1 : Int32) (a2 : Int32) (a3 : Int32) (a4 : Int32) (a5 : Int32) : Option (Int32 × zM) := zd (zo n 17 a0) <| zca (fX7_isVersion n S a0 a1) fun r2 S3 => if (r2 : Int32) = 0 then (some ((-1000001), S3)) else (zca (fX7_isSheet n S3 a2) fun r6 S7 => if (r6 : Int32) = 0 then (some ((-1000001), S7)) else (if (a4 : Int32) < (1 : Int32) then (some ((-1000001), S7)) else (if (6 : Int32) < (a4 : Int32) then (some ((-1000001), S7)) else (if (a5 : Int32) < 0 then (some ((-1000001), S7)) else (if (a5 : Int32) ≤ (10 : Int32) then (zd (za n 2 (zg S7 a0 0) a2) <| zbd (ze S7 (zg S7 a0 0) a2) fun v15 => zd (zo n 13 v15) <| if (zg S7 v15 1 : Int32) = 0 then (zca (fX3_hasPlaces n S7 v15 a3 a4) fun r19 S20 => if (r19 : Int32) = 0 then (zca (fX7_found n S20 a0 2) fun r38 S39 => some (r38, S39)) else (zca (fX3_holdsRisingShares n S20 v15 a3 a4) fun r23 S24 => if (r23 : Int32) = 0 then (some ((-1000001), S24)) else (zd (za n 3 (zg S24 a0 1) a1) <| zd (zo n 11 (zg S24 a0 7)) <| zca (fX1_begin n S24 (zg S24 a0 7) (ze S24 (zg S24 a0 1) a1) v15 a3 a4 a5) fun r29 S30 => zca (fX7_membersOfWave n S30 a0) fun r32 S33 => zca (fX7_passed n S33 a0 r32) fun r35 S36 => some (r35, S36)))) else (zca (fX7_found n S7 a0 1) fun r41 S42 => some (r41, S42))) else (some ((-1000001), S7)))))))
theorem tX7_campaign (l : Launch) (D : va_G) (tc : Nat → ClassId) (b n : Nat) {S S' : zM} {a0 : Int32} {a1 : Int32} {a2 : Int32} {a3 : Int32} {a4 : Int32} {a5 : Int32} {r : Int32} (h : fX7_campaign n S a0 a1 a2 a3 a4 a5 = some (r, S')) : zMi l D tc b n yX7_campaign cX7_campaign 7 .int 3 [zr a0, zi a1, zi a2, zi a3, zi a4, zi a5] S S' r := by
  refine zMi_of zyX7_campaign (Nat.le_of_ble_eq_true rfl) (fun p e s m args below meth c H C hr hk ls hl I => ?_)
  have hl : zL b ls 7 [(0, zr a0), (1, zi a1), (2, zi a2), (3, zi a3), (4, zi a4), (5, zi a5)] := hl
  rw [fX7_campaign] at h
  refine z_aload_n C hl 0 rfl dX7_campaign_0 rfl ?_
  refine z_iload_n C hl 1 rfl dX7_campaign_1 rfl ?_
  obtain ⟨g1, h⟩ := zd_some h
  obtain ⟨r2, S3, h4, h⟩ := zcs h
  refine z_callVi C I (tX7_isVersion l D tc b n h4) zyX7_isVersion zyvX7_isVersion zc7 g1 zq_327 (st := []) rfl rfl (by decide) (by decide) hl.1 (Nat.le_of_ble_eq_true rfl) dX7_campaign_2 (fun H locs I => ?_)
  refine z_if_eq C 40 dX7_campaign_5 (by decide) (fun c5 => ?_) (fun c5 => ?_)
  · have h := zit c5 h
    refine z_ldc C zq_269 dX7_campaign_40 ?_
    exact z_iret C I hr hk h dX7_campaign_42
  · have h := zif c5 h
    refine z_iload_n C hl 2 rfl dX7_campaign_8 rfl ?_
    obtain ⟨r6, S7, h8, h⟩ := zcs h
    refine z_callSi C I (tX7_isSheet l D tc b n h8) zyX7_isSheet zq_267 zq_266 (st := []) rfl rfl (by decide) (by decide) hl.1 (Nat.le_of_ble_eq_true rfl) dX7_campaign_9 (fun H locs I => ?_)
    refine z_if_eq C 40 dX7_campaign_12 (by decide) (fun c9 => ?_) (fun c9 => ?_)
    · have h := zit c9 h
      refine z_ldc C zq_269 dX7_campaign_40 ?_
      exact z_iret C I hr hk h dX7_campaign_42
    · have h := zif c9 h
      refine z_iload C hl 4 rfl dX7_campaign_15 ?_
      refine z_iconst C (v := 1) dX7_campaign_17 (by decide) ?_
      refine z_icmp_lt C 40 dX7_campaign_18 (by decide) (fun c10 => ?_) (fun c10 => ?_)
      · have h := zit c10 h
        refine z_ldc C zq_269 dX7_campaign_40 ?_
        exact z_iret C I hr hk h dX7_campaign_42
      · have h := zif c10 h
        refine z_iload C hl 4 rfl dX7_campaign_21 ?_
        refine z_bipush C (v := 6) dX7_campaign_23 (by decide) ?_
        refine z_icmp_gt C 40 dX7_campaign_25 (by decide) (fun c11 => ?_) (fun c11 => ?_)
        · have h := zit c11 h
          refine z_ldc C zq_269 dX7_campaign_40 ?_
          exact z_iret C I hr hk h dX7_campaign_42
        · have h := zif c11 h
          refine z_iload C hl 5 rfl dX7_campaign_28 ?_
          refine z_if_lt C 40 dX7_campaign_30 (by decide) (fun c12 => ?_) (fun c12 => ?_)
          · have h := zit c12 h
            refine z_ldc C zq_269 dX7_campaign_40 ?_
            exact z_iret C I hr hk h dX7_campaign_42
          · have h := zif c12 h
            refine z_iload C hl 5 rfl dX7_campaign_33 ?_
            refine z_bipush C (v := 10) dX7_campaign_35 (by decide) ?_
            refine z_icmp_le C 43 dX7_campaign_37 (by decide) (fun c13 => ?_) (fun c13 => ?_)
            · have h := zit c13 h
              refine z_aload_n C hl 0 rfl dX7_campaign_43 rfl ?_
              refine z_get C I 7 0 zc7 g1 (by decide) zq_228 (v := zr (zg S7 a0 0)) rfl dX7_campaign_44 ?_
              refine z_iload_n C hl 2 rfl dX7_campaign_47 rfl ?_
              obtain ⟨g14, h⟩ := zd_some h
              refine z_aald C I 2 (by decide) g14 dX7_campaign_48 ?_
              refine z_astore C hl dX7_campaign_49 (by decide) (fun v15 => [(6, zr v15), (0, zr a0), (1, zi a1), (2, zi a2), (3, zi a3), (4, zi a4), (5, zi a5)]) (fun _ => rfl) (fun v15 e16 ls hl => ?_)
              have h := znb e16 h
              refine z_aload C hl 0 rfl dX7_campaign_51 ?_
              obtain ⟨g17, h⟩ := zd_some h
              refine z_get C I 3 1 zc3 g17 (by decide) zq_188 (v := zi (zg S7 v15 1)) rfl dX7_campaign_53 ?_
              refine z_if_eq C 65 dX7_campaign_56 (by decide) (fun c18 => ?_) (fun c18 => ?_)
              · have h := zit c18 h
                refine z_aload C hl 0 rfl dX7_campaign_65 ?_
                refine z_iload_n C hl 4 rfl dX7_campaign_67 rfl ?_
                refine z_iload C hl 5 rfl dX7_campaign_68 ?_
                obtain ⟨r19, S20, h21, h⟩ := zcs h
                refine z_callVi C I (tX3_hasPlaces l D tc b n h21) zyX3_hasPlaces zyvX3_hasPlaces zc3 g17 zq_287 (st := []) rfl rfl (by decide) (by decide) hl.1 (Nat.le_of_ble_eq_true rfl) dX7_campaign_70 (fun H locs I => ?_)
                refine z_if_ne C 82 dX7_campaign_73 (by decide) (fun c22 => ?_) (fun c22 => ?_)
                · have h := zif c22 h
                  refine z_aload C hl 0 rfl dX7_campaign_82 ?_
                  refine z_iload_n C hl 4 rfl dX7_campaign_84 rfl ?_
                  refine z_iload C hl 5 rfl dX7_campaign_85 ?_
                  obtain ⟨r23, S24, h25, h⟩ := zcs h
                  refine z_callVi C I (tX3_holdsRisingShares l D tc b n h25) zyX3_holdsRisingShares zyvX3_holdsRisingShares zc3 g17 zq_477 (st := []) rfl rfl (by decide) (by decide) hl.1 (Nat.le_of_ble_eq_true rfl) dX7_campaign_87 (fun H locs I => ?_)
                  refine z_if_ne C 96 dX7_campaign_90 (by decide) (fun c26 => ?_) (fun c26 => ?_)
                  · have h := zif c26 h
                    refine z_aload_n C hl 1 rfl dX7_campaign_96 rfl ?_
                    refine z_get C I 7 7 zc7 g1 (by decide) zq_235 (v := zr (zg S24 a0 7)) rfl dX7_campaign_97 ?_
                    refine z_aload_n C hl 1 rfl dX7_campaign_100 rfl ?_
                    refine z_get C I 7 1 zc7 g1 (by decide) zq_229 (v := zr (zg S24 a0 1)) rfl dX7_campaign_101 ?_
                    refine z_iload_n C hl 2 rfl dX7_campaign_104 rfl ?_
                    obtain ⟨g27, h⟩ := zd_some h
                    refine z_aald C I 3 (by decide) g27 dX7_campaign_105 ?_
                    refine z_aload C hl 0 rfl dX7_campaign_106 ?_
                    refine z_iload_n C hl 4 rfl dX7_campaign_108 rfl ?_
                    refine z_iload C hl 5 rfl dX7_campaign_109 ?_
                    refine z_iload C hl 6 rfl dX7_campaign_111 ?_
                    obtain ⟨g28, h⟩ := zd_some h
                    obtain ⟨r29, S30, h31, h⟩ := zcs h
                    refine z_callVv C I (tX1_begin l D tc b n h31) zyX1_begin zyvX1_begin zc1 g28 zq_481 (st := []) rfl rfl (by decide) (by decide) hl.1 (Nat.le_of_ble_eq_true rfl) dX7_campaign_113 (fun H locs I => ?_)
                    refine z_aload_n C hl 1 rfl dX7_campaign_116 rfl ?_
                    refine z_aload_n C hl 1 rfl dX7_campaign_117 rfl ?_
                    obtain ⟨r32, S33, h34, h⟩ := zcs h
                    refine z_callVi C I (tX7_membersOfWave l D tc b n h34) zyX7_membersOfWave zyvX7_membersOfWave zc7 g1 zq_490 (st := [zr a0]) rfl rfl (by decide) (by decide) hl.1 (Nat.le_of_ble_eq_true rfl) dX7_campaign_118 (fun H locs I => ?_)
                    obtain ⟨r35, S36, h37, h⟩ := zcs h
                    refine z_callVi C I (tX7_passed l D tc b n h37) zyX7_passed zyvX7_passed zc7 g1 zq_279 (st := []) rfl rfl (by decide) (by decide) hl.1 (Nat.le_of_ble_eq_true rfl) dX7_campaign_121 (fun H locs I => ?_)
                    exact z_iret C I hr hk h dX7_campaign_124
                  · have h := zit c26 h
                    refine z_ldc C zq_269 dX7_campaign_93 ?_
                    exact z_iret C I hr hk h dX7_campaign_95
                · have h := zit c22 h
                  refine z_aload_n C hl 1 rfl dX7_campaign_76 rfl ?_
                  refine z_iconst C (v := 2) dX7_campaign_77 (by decide) ?_
                  obtain ⟨r38, S39, h40, h⟩ := zcs h
                  refine z_callVi C I (tX7_found l D tc b n h40) zyX7_found zyvX7_found zc7 g1 zq_270 (st := []) rfl rfl (by decide) (by decide) hl.1 (Nat.le_of_ble_eq_true rfl) dX7_campaign_78 (fun H locs I => ?_)
                  exact z_iret C I hr hk h dX7_campaign_81
              · have h := zif c18 h
                refine z_aload_n C hl 1 rfl dX7_campaign_59 rfl ?_
                refine z_iconst C (v := 1) dX7_campaign_60 (by decide) ?_
                obtain ⟨r41, S42, h43, h⟩ := zcs h
                refine z_callVi C I (tX7_found l D tc b n h43) zyX7_found zyvX7_found zc7 g1 zq_270 (st := []) rfl rfl (by decide) (by decide) hl.1 (Nat.le_of_ble_eq_true rfl) dX7_campaign_61 (fun H locs I => ?_)
                exact z_iret C I hr hk h dX7_campaign_64
            · have h := zif c13 h
              refine z_ldc C zq_269 dX7_campaign_40 ?_
              exact z_iret C I hr hk h dX7_campaign_42

