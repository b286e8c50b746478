def fX0_forget (n : Nat) (S : zM) (a0 : Int32) : Option (Int32 × zM) := zd (zo n 10 a0) <| zbd (zp S a0 1 0) fun S2 => some (0, S2)
theorem tX0_forget (l : Launch) (D : va_G) (tc : Nat → ClassId) (b n : Nat) {S S' : zM} {a0 : Int32} {r : Int32} (h : fX0_forget n S a0 = some (r, S')) : zMv l D tc b n yX0_forget cX0_forget 1 0 [zr a0] S S' := by
  refine zMv_of zyX0_forget (Nat.le_of_ble_eq_true rfl) (fun p e s m args below meth c H C hr hk ls hl I => ?_)
  have hl : zL b ls 1 [(0, zr a0)] := hl
  rw [fX0_forget] at h
  refine z_aload_n C hl 0 rfl dX0_forget_0 rfl ?_
  refine z_iconst C (v := 0) dX0_forget_1 (by decide) ?_
  obtain ⟨g1, h⟩ := zd_some h
  refine z_put C I 0 1 zc0 g1 (by decide) rfl zq_173 rfl (v := zi 0) rfl dX0_forget_2 (fun S2 e3 H locs I => ?_)
  have h := znb e3 h
  exact z_vret C I hr hk h dX0_forget_5

def fX0_leave (n : Nat) (S : zM) (a0 : Int32) (a1 : Int32) : Option (Int32 × zM) := zd (zo n 10 a0) <| if (16 : Int32) ≤ (zg S a0 1 : Int32) then (some (0, S)) else (zd (za n 0 (zg S a0 0) (zg S a0 1)) <| zbd (zq S (zg S a0 0) (zg S a0 1) a1) fun S4 => zbd (zp S4 a0 1 ((zg S4 a0 1) + 1)) fun S6 => some (0, S6))
theorem tX0_leave (l : Launch) (D : va_G) (tc : Nat → ClassId) (b n : Nat) {S S' : zM} {a0 : Int32} {a1 : Int32} {r : Int32} (h : fX0_leave n S a0 a1 = some (r, S')) : zMv l D tc b n yX0_leave cX0_leave 2 0 [zr a0, zi a1] S S' := by
  refine zMv_of zyX0_leave (Nat.le_of_ble_eq_true rfl) (fun p e s m args below meth c H C hr hk ls hl I => ?_)
  have hl : zL b ls 2 [(0, zr a0), (1, zi a1)] := hl
  rw [fX0_leave] at h
  refine z_aload_n C hl 0 rfl dX0_leave_0 rfl ?_
  obtain ⟨g1, h⟩ := zd_some h
  refine z_get C I 0 1 zc0 g1 (by decide) zq_173 (v := zi (zg S a0 1)) rfl dX0_leave_1 ?_
  refine z_bipush C (v := 16) dX0_leave_4 (by decide) ?_
  refine z_icmp_ge C 29 dX0_leave_6 (by decide) (fun c2 => ?_) (fun c2 => ?_)
  · have h := zit c2 h
    exact z_vret C I hr hk h dX0_leave_29
  · have h := zif c2 h
    refine z_aload_n C hl 0 rfl dX0_leave_9 rfl ?_
    refine z_get C I 0 0 zc0 g1 (by decide) zq_172 (v := zr (zg S a0 0)) rfl dX0_leave_10 ?_
    refine z_aload_n C hl 0 rfl dX0_leave_13 rfl ?_
    refine z_get C I 0 1 zc0 g1 (by decide) zq_173 (v := zi (zg S a0 1)) rfl dX0_leave_14 ?_
    refine z_iload_n C hl 1 rfl dX0_leave_17 rfl ?_
    obtain ⟨g3, h⟩ := zd_some h
    refine z_iast C I g3 dX0_leave_18 (fun S4 e5 H locs I => ?_)
    have h := znb e5 h
    refine z_aload_n C hl 0 rfl dX0_leave_19 rfl ?_
    refine z_dup C dX0_leave_20 rfl ?_
    refine z_get C I 0 1 zc0 g1 (by decide) zq_173 (v := zi (zg S4 a0 1)) rfl dX0_leave_21 ?_
    refine z_iconst C (v := 1) dX0_leave_24 (by decide) ?_
    refine z_iadd C dX0_leave_25 ?_
    refine z_put C I 0 1 zc0 g1 (by decide) rfl zq_173 rfl (v := zi ((zg S4 a0 1) + 1)) rfl dX0_leave_26 (fun S6 e7 H locs I => ?_)
    have h := znb e7 h
    exact z_vret C I hr hk h dX0_leave_29

def fX4_versionNumber (n : Nat) (S : zM) (a0 : Int32) : Option (Int32 × zM) := zd (zo n 14 a0) <| if (zg S a0 0 : Int32) < 0 then (some ((-1000000), S)) else (zd (zo n 16 (zg S a0 0)) <| some (zg S (zg S a0 0) 0, S))
theorem tX4_versionNumber (l : Launch) (D : va_G) (tc : Nat → ClassId) (b n : Nat) {S S' : zM} {a0 : Int32} {r : Int32} (h : fX4_versionNumber n S a0 = some (r, S')) : zMi l D tc b n yX4_versionNumber cX4_versionNumber 1 .int 0 [zr a0] S S' r := by
  refine zMi_of zyX4_versionNumber (Nat.le_of_ble_eq_true rfl) (fun p e s m args below meth c H C hr hk ls hl I => ?_)
  have hl : zL b ls 1 [(0, zr a0)] := hl
  rw [fX4_versionNumber] at h
  refine z_aload_n C hl 0 rfl dX4_versionNumber_0 rfl ?_
  obtain ⟨g1, h⟩ := zd_some h
  refine z_get C I 4 0 zc4 g1 (by decide) zq_65 (v := zr (zg S a0 0)) rfl dX4_versionNumber_1 ?_
  refine z_ifnonnull C 12 dX4_versionNumber_4 (by decide) (fun c2 => ?_) (fun c2 => ?_)
  · have h := zif c2 h
    refine z_aload_n C hl 0 rfl dX4_versionNumber_12 rfl ?_
    refine z_get C I 4 0 zc4 g1 (by decide) zq_65 (v := zr (zg S a0 0)) rfl dX4_versionNumber_13 ?_
    obtain ⟨g3, h⟩ := zd_some h
    refine z_get C I 6 0 zc6 g3 (by decide) zq_208 (v := zi (zg S (zg S a0 0) 0)) rfl dX4_versionNumber_16 ?_
    exact z_iret C I hr hk h dX4_versionNumber_19
  · have h := zit c2 h
    refine z_ldc C zq_386 dX4_versionNumber_7 ?_
    refine z_goto C 19 dX4_versionNumber_9 (by decide) ?_
    exact z_iret C I hr hk h dX4_versionNumber_19

def fX0_worthOfAny (n : Nat) (S : zM) (a0 : Int32) (a1 : Int32) : Option (Int32 × zM) := zd (zo n 10 a0) <| zca (fX0_leave n S a0 10) fun r2 S3 => zd (zo n 12 a1) <| zd (zo n 14 (zg S3 a1 3)) <| zca (fX4_versionNumber n S3 (zg S3 a1 3)) fun r7 S8 => some (r7, S8)
theorem tX0_worthOfAny (l : Launch) (D : va_G) (tc : Nat → ClassId) (b n : Nat) {S S' : zM} {a0 : Int32} {a1 : Int32} {r : Int32} (h : fX0_worthOfAny n S a0 a1 = some (r, S')) : zMi l D tc b n yX0_worthOfAny cX0_worthOfAny 2 .int 1 [zr a0, zr a1] S S' r := by
  refine zMi_of zyX0_worthOfAny (Nat.le_of_ble_eq_true rfl) (fun p e s m args below meth c H C hr hk ls hl I => ?_)
  have hl : zL b ls 2 [(0, zr a0), (1, zr a1)] := hl
  rw [fX0_worthOfAny] at h
  refine z_aload_n C hl 0 rfl dX0_worthOfAny_0 rfl ?_
  refine z_bipush C (v := 10) dX0_worthOfAny_1 (by decide) ?_
  obtain ⟨g1, h⟩ := zd_some h
  obtain ⟨r2, S3, h4, h⟩ := zcs h
  refine z_callVv C I (tX0_leave l D tc b n h4) zyX0_leave zyvX0_leave zc0 g1 zq_587 (st := []) rfl rfl (by decide) (by decide) hl.1 (Nat.le_of_ble_eq_true rfl) dX0_worthOfAny_3 (fun H locs I => ?_)
  refine z_aload_n C hl 1 rfl dX0_worthOfAny_6 rfl ?_
  obtain ⟨g5, h⟩ := zd_some h
  refine z_get C I 2 3 zc2 g5 (by decide) zq_83 (v := zr (zg S3 a1 3)) rfl dX0_worthOfAny_7 ?_
  obtain ⟨g6, h⟩ := zd_some h
  obtain ⟨r7, S8, h9, h⟩ := zcs h
  refine z_callVi C I (tX4_versionNumber l D tc b n h9) zyX4_versionNumber zyvX4_versionNumber zc4 g6 zq_595 (st := []) rfl rfl (by decide) (by decide) hl.1 (Nat.le_of_ble_eq_true rfl) dX0_worthOfAny_10 (fun H locs I => ?_)
  exact z_iret C I hr hk h dX0_worthOfAny_13

def fX0_worthOfFresh (n : Nat) (S : zM) (a0 : Int32) (a1 : Int32) : Option (Int32 × zM) := zd (zo n 10 a0) <| zca (fX0_leave n S a0 11) fun r2 S3 => zca (fX0_worthOfAny n S3 a0 a1) fun r5 S6 => some (r5 + 100, S6)
theorem tX0_worthOfFresh (l : Launch) (D : va_G) (tc : Nat → ClassId) (b n : Nat) {S S' : zM} {a0 : Int32} {a1 : Int32} {r : Int32} (h : fX0_worthOfFresh n S a0 a1 = some (r, S')) : zMi l D tc b n yX0_worthOfFresh cX0_worthOfFresh 2 .int 2 [zr a0, zr a1] S S' r := by
  refine zMi_of zyX0_worthOfFresh (Nat.le_of_ble_eq_true rfl) (fun p e s m args below meth c H C hr hk ls hl I => ?_)
  have hl : zL b ls 2 [(0, zr a0), (1, zr a1)] := hl
  rw [fX0_worthOfFresh] at h
  refine z_aload_n C hl 0 rfl dX0_worthOfFresh_0 rfl ?_
  refine z_bipush C (v := 11) dX0_worthOfFresh_1 (by decide) ?_
  obtain ⟨g1, h⟩ := zd_some h
  obtain ⟨r2, S3, h4, h⟩ := zcs h
  refine z_callVv C I (tX0_leave l D tc b n h4) zyX0_leave zyvX0_leave zc0 g1 zq_587 (st := []) rfl rfl (by decide) (by decide) hl.1 (Nat.le_of_ble_eq_true rfl) dX0_worthOfFresh_3 (fun H locs I => ?_)
  refine z_aload_n C hl 0 rfl dX0_worthOfFresh_6 rfl ?_
  refine z_aload_n C hl 1 rfl dX0_worthOfFresh_7 rfl ?_
  obtain ⟨r5, S6, h7, h⟩ := zcs h
  refine z_callVi C I (tX0_worthOfAny l D tc b n h7) zyX0_worthOfAny zyvX0_worthOfAny zc0 g1 zq_591 (st := []) rfl rfl (by decide) (by decide) hl.1 (Nat.le_of_ble_eq_true rfl) dX0_worthOfFresh_8 (fun H locs I => ?_)
  refine z_bipush C (v := 100) dX0_worthOfFresh_11 (by decide) ?_
  refine z_iadd C dX0_worthOfFresh_13 ?_
  exact z_iret C I hr hk h dX0_worthOfFresh_14

def fX0_worthOfSettled (n : Nat) (S : zM) (a0 : Int32) (a1 : Int32) : Option (Int32 × zM) := zd (zo n 10 a0) <| zca (fX0_leave n S a0 12) fun r2 S3 => zca (fX0_worthOfFresh n S3 a0 a1) fun r5 S6 => some (2 * r5, S6)
theorem tX0_worthOfSettled (l : Launch) (D : va_G) (tc : Nat → ClassId) (b n : Nat) {S S' : zM} {a0 : Int32} {a1 : Int32} {r : Int32} (h : fX0_worthOfSettled n S a0 a1 = some (r, S')) : zMi l D tc b n yX0_worthOfSettled cX0_worthOfSettled 2 .int 3 [zr a0, zr a1] S S' r := by
  refine zMi_of zyX0_worthOfSettled (Nat.le_of_ble_eq_true rfl) (fun p e s m args below meth c H C hr hk ls hl I => ?_)
  have hl : zL b ls 2 [(0, zr a0), (1, zr a1)] := hl
  rw [fX0_worthOfSettled] at h
  refine z_aload_n C hl 0 rfl dX0_worthOfSettled_0 rfl ?_
  refine z_bipush C (v := 12) dX0_worthOfSettled_1 (by decide) ?_
  obtain ⟨g1, h⟩ := zd_some h
  obtain ⟨r2, S3, h4, h⟩ := zcs h
  refine z_callVv C I (tX0_leave l D tc b n h4) zyX0_leave zyvX0_leave zc0 g1 zq_587 (st := []) rfl rfl (by decide) (by decide) hl.1 (Nat.le_of_ble_eq_true rfl) dX0_worthOfSettled_3 (fun H locs I => ?_)
  refine z_iconst C (v := 2) dX0_worthOfSettled_6 (by decide) ?_
  refine z_aload_n C hl 0 rfl dX0_worthOfSettled_7 rfl ?_
  refine z_aload_n C hl 1 rfl dX0_worthOfSettled_8 rfl ?_
  obtain ⟨r5, S6, h7, h⟩ := zcs h
  refine z_callVi C I (tX0_worthOfFresh l D tc b n h7) zyX0_worthOfFresh zyvX0_worthOfFresh zc0 g1 zq_583 (st := [zi 2]) rfl rfl (by decide) (by decide) hl.1 (Nat.le_of_ble_eq_true rfl) dX0_worthOfSettled_9 (fun H locs I => ?_)
  refine z_imul C dX0_worthOfSettled_12 ?_
  exact z_iret C I hr hk h dX0_worthOfSettled_13

def fX0_worthOfStuck (n : Nat) (S : zM) (a0 : Int32) (a1 : Int32) : Option (Int32 × zM) := zd (zo n 10 a0) <| zca (fX0_leave n S a0 13) fun r2 S3 => zca (fX0_worthOfAny n S3 a0 a1) fun r5 S6 => zd (zo n 12 a1) <| some (r5 - (zg S6 a1 9), S6)
theorem tX0_worthOfStuck (l : Launch) (D : va_G) (tc : Nat → ClassId) (b n : Nat) {S S' : zM} {a0 : Int32} {a1 : Int32} {r : Int32} (h : fX0_worthOfStuck n S a0 a1 = some (r, S')) : zMi l D tc b n yX0_worthOfStuck cX0_worthOfStuck 2 .int 2 [zr a0, zr a1] S S' r := by
  refine zMi_of zyX0_worthOfStuck (Nat.le_of_ble_eq_true rfl) (fun p e s m args below meth c H C hr hk ls hl I => ?_)
  have hl : zL b ls 2 [(0, zr a0), (1, zr a1)] := hl
  rw [fX0_worthOfStuck] at h
  refine z_aload_n C hl 0 rfl dX0_worthOfStuck_0 rfl ?_
  refine z_bipush C (v := 13) dX0_worthOfStuck_1 (by decide) ?_
  obtain ⟨g1, h⟩ := zd_some h
  obtain ⟨r2, S3, h4, h⟩ := zcs h
  refine z_callVv C I (tX0_leave l D tc b n h4) zyX0_leave zyvX0_leave zc0 g1 zq_587 (st := []) rfl rfl (by decide) (by decide) hl.1 (Nat.le_of_ble_eq_true rfl) dX0_worthOfStuck_3 (fun H locs I => ?_)
  refine z_aload_n C hl 0 rfl dX0_worthOfStuck_6 rfl ?_
  refine z_aload_n C hl 1 rfl dX0_worthOfStuck_7 rfl ?_
  obtain ⟨r5, S6, h7, h⟩ := zcs h
  refine z_callVi C I (tX0_worthOfAny l D tc b n h7) zyX0_worthOfAny zyvX0_worthOfAny zc0 g1 zq_591 (st := []) rfl rfl (by decide) (by decide) hl.1 (Nat.le_of_ble_eq_true rfl) dX0_worthOfStuck_8 (fun H locs I => ?_)
  refine z_aload_n C hl 1 rfl dX0_worthOfStuck_11 rfl ?_
  obtain ⟨g8, h⟩ := zd_some h
  refine z_get C I 2 9 zc2 g8 (by decide) zq_95 (v := zi (zg S6 a1 9)) rfl dX0_worthOfStuck_12 ?_
  refine z_isub C dX0_worthOfStuck_15 ?_
  exact z_iret C I hr hk h dX0_worthOfStuck_16

def fX0_worthOf (n : Nat) (S : zM) (a0 : Int32) (a1 : Int32) (a2 : Int32) : Option (Int32 × zM) := if (a2 : Int32) = 1 then (zd (zo n 10 a0) <| zca (fX0_worthOfFresh n S a0 a1) fun r3 S4 => some (r3, S4)) else if (a2 : Int32) = 2 then (zd (zo n 10 a0) <| zca (fX0_worthOfSettled n S a0 a1) fun r8 S9 => some (r8, S9)) else if (a2 : Int32) = 3 then (zd (zo n 10 a0) <| zca (fX0_worthOfStuck n S a0 a1) fun r13 S14 => some (r13, S14)) else (zd (zo n 10 a0) <| zca (fX0_worthOfAny n S a0 a1) fun r17 S18 => some (r17, S18))
theorem tX0_worthOf (l : Launch) (D : va_G) (tc : Nat → ClassId) (b n : Nat) {S S' : zM} {a0 : Int32} {a1 : Int32} {a2 : Int32} {r : Int32} (h : fX0_worthOf n S a0 a1 a2 = some (r, S')) : zMi l D tc b n yX0_worthOf cX0_worthOf 3 .int 4 [zr a0, zr a1, zi a2] S S' r := by
  refine zMi_of zyX0_worthOf (Nat.le_of_ble_eq_true rfl) (fun p e s m args below meth c H C hr hk ls hl I => ?_)
  have hl : zL b ls 3 [(0, zr a0), (1, zr a1), (2, zi a2)] := hl
  rw [fX0_worthOf] at h
  refine z_iload_n C hl 2 rfl dX0_worthOf_0 rfl ?_
  by_cases c1 : (a2 : Int32) = 1
  · have h := zit c1 h
    refine z_tsIn C (off := 27) 28 c1 dX0_worthOf_1 (by decide) (by decide) (by decide) (by decide) ?_
    refine z_aload_n C hl 0 rfl dX0_worthOf_28 rfl ?_
    refine z_aload_n C hl 1 rfl dX0_worthOf_29 rfl ?_
    obtain ⟨g2, h⟩ := zd_some h
    obtain ⟨r3, S4, h5, h⟩ := zcs h
    refine z_callVi C I (tX0_worthOfFresh l D tc b n h5) zyX0_worthOfFresh zyvX0_worthOfFresh zc0 g2 zq_583 (st := []) rfl rfl (by decide) (by decide) hl.1 (Nat.le_of_ble_eq_true rfl) dX0_worthOf_30 (fun H locs I => ?_)
    exact z_iret C I hr hk h dX0_worthOf_33
  have h := zif c1 h
  by_cases c6 : (a2 : Int32) = 2
  · have h := zit c6 h
    refine z_tsIn C (off := 33) 34 c6 dX0_worthOf_1 (by decide) (by decide) (by decide) (by decide) ?_
    refine z_aload_n C hl 0 rfl dX0_worthOf_34 rfl ?_
    refine z_aload_n C hl 1 rfl dX0_worthOf_35 rfl ?_
    obtain ⟨g7, h⟩ := zd_some h
    obtain ⟨r8, S9, h10, h⟩ := zcs h
    refine z_callVi C I (tX0_worthOfSettled l D tc b n h10) zyX0_worthOfSettled zyvX0_worthOfSettled zc0 g7 zq_596 (st := []) rfl rfl (by decide) (by decide) hl.1 (Nat.le_of_ble_eq_true rfl) dX0_worthOf_36 (fun H locs I => ?_)
    exact z_iret C I hr hk h dX0_worthOf_39
  have h := zif c6 h
  by_cases c11 : (a2 : Int32) = 3
  · have h := zit c11 h
    refine z_tsIn C (off := 39) 40 c11 dX0_worthOf_1 (by decide) (by decide) (by decide) (by decide) ?_
    refine z_aload_n C hl 0 rfl dX0_worthOf_40 rfl ?_
    refine z_aload_n C hl 1 rfl dX0_worthOf_41 rfl ?_
    obtain ⟨g12, h⟩ := zd_some h
    obtain ⟨r13, S14, h15, h⟩ := zcs h
    refine z_callVi C I (tX0_worthOfStuck l D tc b n h15) zyX0_worthOfStuck zyvX0_worthOfStuck zc0 g12 zq_600 (st := []) rfl rfl (by decide) (by decide) hl.1 (Nat.le_of_ble_eq_true rfl) dX0_worthOf_42 (fun H locs I => ?_)
    exact z_iret C I hr hk h dX0_worthOf_45
  have h := zif c11 h
  refine z_tsOut C 46 dX0_worthOf_1 (by have t_c1 : ((a2 : Int32)).toInt ≠ 1 := fun q => c1 (Int32.toInt_inj.mp (q.trans (by decide))); have t_c6 : ((a2 : Int32)).toInt ≠ 2 := fun q => c6 (Int32.toInt_inj.mp (q.trans (by decide))); have t_c11 : ((a2 : Int32)).toInt ≠ 3 := fun q => c11 (Int32.toInt_inj.mp (q.trans (by decide))); omega) (by decide) ?_
  refine z_aload_n C hl 0 rfl dX0_worthOf_46 rfl ?_
  refine z_aload_n C hl 1 rfl dX0_worthOf_47 rfl ?_
  obtain ⟨g16, h⟩ := zd_some h
  obtain ⟨r17, S18, h19, h⟩ := zcs h
  refine z_callVi C I (tX0_worthOfAny l D tc b n h19) zyX0_worthOfAny zyvX0_worthOfAny zc0 g16 zq_591 (st := []) rfl rfl (by decide) (by decide) hl.1 (Nat.le_of_ble_eq_true rfl) dX0_worthOf_48 (fun H locs I => ?_)
  exact z_iret C I hr hk h dX0_worthOf_51

def fX0_markOfAny (n : Nat) (S : zM) (a0 : Int32) (a1 : Int32) : Option (Int32 × zM) := zd (zo n 10 a0) <| zca (fX0_leave n S a0 20) fun r2 S3 => zd (zo n 12 a1) <| some (zg S3 a1 1, S3)
theorem tX0_markOfAny (l : Launch) (D : va_G) (tc : Nat → ClassId) (b n : Nat) {S S' : zM} {a0 : Int32} {a1 : Int32} {r : Int32} (h : fX0_markOfAny n S a0 a1 = some (r, S')) : zMi l D tc b n yX0_markOfAny cX0_markOfAny 2 .int 1 [zr a0, zr a1] S S' r := by
  refine zMi_of zyX0_markOfAny (Nat.le_of_ble_eq_true rfl) (fun p e s m args below meth c H C hr hk ls hl I => ?_)
  have hl : zL b ls 2 [(0, zr a0), (1, zr a1)] := hl
  rw [fX0_markOfAny] at h
  refine z_aload_n C hl 0 rfl dX0_markOfAny_0 rfl ?_
  refine z_bipush C (v := 20) dX0_markOfAny_1 (by decide) ?_
  obtain ⟨g1, h⟩ := zd_some h
  obtain ⟨r2, S3, h4, h⟩ := zcs h
  refine z_callVv C I (tX0_leave l D tc b n h4) zyX0_leave zyvX0_leave zc0 g1 zq_587 (st := []) rfl rfl (by decide) (by decide) hl.1 (Nat.le_of_ble_eq_true rfl) dX0_markOfAny_3 (fun H locs I => ?_)
  refine z_aload_n C hl 1 rfl dX0_markOfAny_6 rfl ?_
  obtain ⟨g5, h⟩ := zd_some h
  refine z_get C I 2 1 zc2 g5 (by decide) zq_78 (v := zi (zg S3 a1 1)) rfl dX0_markOfAny_7 ?_
  exact z_iret C I hr hk h dX0_markOfAny_10

def fX0_markOfFresh (n : Nat) (S : zM) (a0 : Int32) (a1 : Int32) (a2 : Int32) : Option (Int32 × zM) := zd (zo n 10 a0) <| zca (fX0_leave n S a0 21) fun r2 S3 => zca (fX0_markOfAny n S3 a0 a1) fun r5 S6 => zca (fX0_worthOf n S6 a0 a1 a2) fun r8 S9 => some (r5 + r8, S9)
theorem tX0_markOfFresh (l : Launch) (D : va_G) (tc : Nat → ClassId) (b n : Nat) {S S' : zM} {a0 : Int32} {a1 : Int32} {a2 : Int32} {r : Int32} (h : fX0_markOfFresh n S a0 a1 a2 = some (r, S')) : zMi l D tc b n yX0_markOfFresh cX0_markOfFresh 3 .int 5 [zr a0, zr a1, zi a2] S S' r := by
  refine zMi_of zyX0_markOfFresh (Nat.le_of_ble_eq_true rfl) (fun p e s m args below meth c H C hr hk ls hl I => ?_)
  have hl : zL b ls 3 [(0, zr a0), (1, zr a1), (2, zi a2)] := hl
  rw [fX0_markOfFresh] at h
  refine z_aload_n C hl 0 rfl dX0_markOfFresh_0 rfl ?_
  refine z_bipush C (v := 21) dX0_markOfFresh_1 (by decide) ?_
  obtain ⟨g1, h⟩ := zd_some h
  obtain ⟨r2, S3, h4, h⟩ := zcs h
  refine z_callVv C I (tX0_leave l D tc b n h4) zyX0_leave zyvX0_leave zc0 g1 zq_587 (st := []) rfl rfl (by decide) (by decide) hl.1 (Nat.le_of_ble_eq_true rfl) dX0_markOfFresh_3 (fun H locs I => ?_)
  refine z_aload_n C hl 0 rfl dX0_markOfFresh_6 rfl ?_
  refine z_aload_n C hl 1 rfl dX0_markOfFresh_7 rfl ?_
  obtain ⟨r5, S6, h7, h⟩ := zcs h
  refine z_callVi C I (tX0_markOfAny l D tc b n h7) zyX0_markOfAny zyvX0_markOfAny zc0 g1 zq_612 (st := []) rfl rfl (by decide) (by decide) hl.1 (Nat.le_of_ble_eq_true rfl) dX0_markOfFresh_8 (fun H locs I => ?_)
  refine z_aload_n C hl 0 rfl dX0_markOfFresh_11 rfl ?_
  refine z_aload_n C hl 1 rfl dX0_markOfFresh_12 rfl ?_
  refine z_iload_n C hl 2 rfl dX0_markOfFresh_13 rfl ?_
  obtain ⟨r8, S9, h10, h⟩ := zcs h
  refine z_callVi C I (tX0_worthOf l D tc b n h10) zyX0_worthOf zyvX0_worthOf zc0 g1 zq_616 (st := [zi r5]) rfl rfl (by decide) (by decide) hl.1 (Nat.le_of_ble_eq_true rfl) dX0_markOfFresh_14 (fun H locs I => ?_)
  refine z_iadd C dX0_markOfFresh_17 ?_
  exact z_iret C I hr hk h dX0_markOfFresh_18

def fX0_markOfStuck (n : Nat) (S : zM) (a0 : Int32) (a1 : Int32) : Option (Int32 × zM) := zd (zo n 10 a0) <| zca (fX0_leave n S a0 22) fun r2 S3 => zca (fX0_markOfAny n S3 a0 a1) fun r5 S6 => zd (zo n 12 a1) <| some (r5 + (zg S6 a1 8), S6)
theorem tX0_markOfStuck (l : Launch) (D : va_G) (tc : Nat → ClassId) (b n : Nat) {S S' : zM} {a0 : Int32} {a1 : Int32} {r : Int32} (h : fX0_markOfStuck n S a0 a1 = some (r, S')) : zMi l D tc b n yX0_markOfStuck cX0_markOfStuck 2 .int 2 [zr a0, zr a1] S S' r := by
  refine zMi_of zyX0_markOfStuck (Nat.le_of_ble_eq_true rfl) (fun p e s m args below meth c H C hr hk ls hl I => ?_)
  have hl : zL b ls 2 [(0, zr a0), (1, zr a1)] := hl
  rw [fX0_markOfStuck] at h
  refine z_aload_n C hl 0 rfl dX0_markOfStuck_0 rfl ?_
  refine z_bipush C (v := 22) dX0_markOfStuck_1 (by decide) ?_
  obtain ⟨g1, h⟩ := zd_some h
  obtain ⟨r2, S3, h4, h⟩ := zcs h
  refine z_callVv C I (tX0_leave l D tc b n h4) zyX0_leave zyvX0_leave zc0 g1 zq_587 (st := []) rfl rfl (by decide) (by decide) hl.1 (Nat.le_of_ble_eq_true rfl) dX0_markOfStuck_3 (fun H locs I => ?_)
  refine z_aload_n C hl 0 rfl dX0_markOfStuck_6 rfl ?_
  refine z_aload_n C hl 1 rfl dX0_markOfStuck_7 rfl ?_
  obtain ⟨r5, S6, h7, h⟩ := zcs h
  refine z_callVi C I (tX0_markOfAny l D tc b n h7) zyX0_markOfAny zyvX0_markOfAny zc0 g1 zq_612 (st := []) rfl rfl (by decide) (by decide) hl.1 (Nat.le_of_ble_eq_true rfl) dX0_markOfStuck_8 (fun H locs I => ?_)
  refine z_aload_n C hl 1 rfl dX0_markOfStuck_11 rfl ?_
  obtain ⟨g8, h⟩ := zd_some h
  refine z_get C I 2 8 zc2 g8 (by decide) zq_94 (v := zi (zg S6 a1 8)) rfl dX0_markOfStuck_12 ?_
  refine z_iadd C dX0_markOfStuck_15 ?_
  exact z_iret C I hr hk h dX0_markOfStuck_16

def fX0_markOf (n : Nat) (S : zM) (a0 : Int32) (a1 : Int32) (a2 : Int32) : Option (Int32 × zM) := if (a2 : Int32) = 1 then (zd (zo n 10 a0) <| zca (fX0_markOfFresh n S a0 a1 a2) fun r3 S4 => some (r3, S4)) else if (a2 : Int32) = 2 then (zd (zo n 10 a0) <| zca (fX0_markOfFresh n S a0 a1 a2) fun r8 S9 => some (r8, S9)) else if (a2 : Int32) = 3 then (zd (zo n 10 a0) <| zca (fX0_markOfStuck n S a0 a1) fun r13 S14 => some (r13, S14)) else (zd (zo n 10 a0) <| zca (fX0_markOfAny n S a0 a1) fun r17 S18 => some (r17, S18))
theorem tX0_markOf (l : Launch) (D : va_G) (tc : Nat → ClassId) (b n : Nat) {S S' : zM} {a0 : Int32} {a1 : Int32} {a2 : Int32} {r : Int32} (h : fX0_markOf n S a0 a1 a2 = some (r, S')) : zMi l D tc b n yX0_markOf cX0_markOf 3 .int 6 [zr a0, zr a1, zi a2] S S' r := by
  refine zMi_of zyX0_markOf (Nat.le_of_ble_eq_true rfl) (fun p e s m args below meth c H C hr hk ls hl I => ?_)
  have hl : zL b ls 3 [(0, zr a0), (1, zr a1), (2, zi a2)] := hl
  rw [fX0_markOf] at h
  refine z_iload_n C hl 2 rfl dX0_markOf_0 rfl ?_
  by_cases c1 : (a2 : Int32) = 1
  · have h := zit c1 h
    refine z_tsIn C (off := 27) 28 c1 dX0_markOf_1 (by decide) (by decide) (by decide) (by decide) ?_
    refine z_aload_n C hl 0 rfl dX0_markOf_28 rfl ?_
    refine z_aload_n C hl 1 rfl dX0_markOf_29 rfl ?_
    refine z_iload_n C hl 2 rfl dX0_markOf_30 rfl ?_
    obtain ⟨g2, h⟩ := zd_some h
    obtain ⟨r3, S4, h5, h⟩ := zcs h
    refine z_callVi C I (tX0_markOfFresh l D tc b n h5) zyX0_markOfFresh zyvX0_markOfFresh zc0 g2 zq_608 (st := []) rfl rfl (by decide) (by decide) hl.1 (Nat.le_of_ble_eq_true rfl) dX0_markOf_31 (fun H locs I => ?_)
    exact z_iret C I hr hk h dX0_markOf_34
  have h := zif c1 h
  by_cases c6 : (a2 : Int32) = 2
  · have h := zit c6 h
    refine z_tsIn C (off := 27) 28 c6 dX0_markOf_1 (by decide) (by decide) (by decide) (by decide) ?_
    refine z_aload_n C hl 0 rfl dX0_markOf_28 rfl ?_
    refine z_aload_n C hl 1 rfl dX0_markOf_29 rfl ?_
    refine z_iload_n C hl 2 rfl dX0_markOf_30 rfl ?_
    obtain ⟨g7, h⟩ := zd_some h
    obtain ⟨r8, S9, h10, h⟩ := zcs h
    refine z_callVi C I (tX0_markOfFresh l D tc b n h10) zyX0_markOfFresh zyvX0_markOfFresh zc0 g7 zq_608 (st := []) rfl rfl (by decide) (by decide) hl.1 (Nat.le_of_ble_eq_true rfl) dX0_markOf_31 (fun H locs I => ?_)
    exact z_iret C I hr hk h dX0_markOf_34
  have h := zif c6 h
  by_cases c11 : (a2 : Int32) = 3
  · have h := zit c11 h
    refine z_tsIn C (off := 34) 35 c11 dX0_markOf_1 (by decide) (by decide) (by decide) (by decide) ?_
    refine z_aload_n C hl 0 rfl dX0_markOf_35 rfl ?_
    refine z_aload_n C hl 1 rfl dX0_markOf_36 rfl ?_
    obtain ⟨g12, h⟩ := zd_some h
    obtain ⟨r13, S14, h15, h⟩ := zcs h
    refine z_callVi C I (tX0_markOfStuck l D tc b n h15) zyX0_markOfStuck zyvX0_markOfStuck zc0 g12 zq_617 (st := []) rfl rfl (by decide) (by decide) hl.1 (Nat.le_of_ble_eq_true rfl) dX0_markOf_37 (fun H locs I => ?_)
    exact z_iret C I hr hk h dX0_markOf_40
  have h := zif c11 h
  refine z_tsOut C 41 dX0_markOf_1 (by have t_c1 : ((a2 : Int32)).toInt ≠ 1 := fun q => c1 (Int32.toInt_inj.mp (q.trans (by decide))); have t_c6 : ((a2 : Int32)).toInt ≠ 2 := fun q => c6 (Int32.toInt_inj.mp (q.trans (by decide))); have t_c11 : ((a2 : Int32)).toInt ≠ 3 := fun q => c11 (Int32.toInt_inj.mp (q.trans (by decide))); omega) (by decide) ?_
  refine z_aload_n C hl 0 rfl dX0_markOf_41 rfl ?_
  refine z_aload_n C hl 1 rfl dX0_markOf_42 rfl ?_
  obtain ⟨g16, h⟩ := zd_some h
  obtain ⟨r17, S18, h19, h⟩ := zcs h
  refine z_callVi C I (tX0_markOfAny l D tc b n h19) zyX0_markOfAny zyvX0_markOfAny zc0 g16 zq_612 (st := []) rfl rfl (by decide) (by decide) hl.1 (Nat.le_of_ble_eq_true rfl) dX0_markOf_43 (fun H locs I => ?_)
  exact z_iret C I hr hk h dX0_markOf_46

def fX0_tracedAt (n : Nat) (S : zM) (a0 : Int32) (a1 : Int32) : Option (Int32 × zM) := if (a1 : Int32) < 0 then (some ((-1000000), S)) else (zd (zo n 10 a0) <| if (zg S a0 1 : Int32) ≤ (a1 : Int32) then (some ((-1000000), S)) else (zd (za n 0 (zg S a0 0) a1) <| some (ze S (zg S a0 0) a1, S)))
theorem tX0_tracedAt (l : Launch) (D : va_G) (tc : Nat → ClassId) (b n : Nat) {S S' : zM} {a0 : Int32} {a1 : Int32} {r : Int32} (h : fX0_tracedAt n S a0 a1 = some (r, S')) : zMi l D tc b n yX0_tracedAt cX0_tracedAt 2 .int 0 [zr a0, zi a1] S S' r := by
  refine zMi_of zyX0_tracedAt (Nat.le_of_ble_eq_true rfl) (fun p e s m args below meth c H C hr hk ls hl I => ?_)
  have hl : zL b ls 2 [(0, zr a0), (1, zi a1)] := hl
  rw [fX0_tracedAt] at h
  refine z_iload_n C hl 1 rfl dX0_tracedAt_0 rfl ?_
  refine z_if_lt C 21 dX0_tracedAt_1 (by decide) (fun c1 => ?_) (fun c1 => ?_)
  · have h := zit c1 h
    refine z_ldc C zq_629 dX0_tracedAt_21 ?_
    exact z_iret C I hr hk h dX0_tracedAt_23
  · have h := zif c1 h
    refine z_iload_n C hl 1 rfl dX0_tracedAt_4 rfl ?_
    refine z_aload_n C hl 0 rfl dX0_tracedAt_5 rfl ?_
    obtain ⟨g2, h⟩ := zd_some h
    refine z_get C I 0 1 zc0 g2 (by decide) zq_173 (v := zi (zg S a0 1)) rfl dX0_tracedAt_6 ?_
    refine z_icmp_ge C 21 dX0_tracedAt_9 (by decide) (fun c3 => ?_) (fun c3 => ?_)
    · have h := zit c3 h
      refine z_ldc C zq_629 dX0_tracedAt_21 ?_
      exact z_iret C I hr hk h dX0_tracedAt_23
    · have h := zif c3 h
      refine z_aload_n C hl 0 rfl dX0_tracedAt_12 rfl ?_
      refine z_get C I 0 0 zc0 g2 (by decide) zq_172 (v := zr (zg S a0 0)) rfl dX0_tracedAt_13 ?_
      refine z_iload_n C hl 1 rfl dX0_tracedAt_16 rfl ?_
      obtain ⟨g4, h⟩ := zd_some h
      refine z_iald C I g4 dX0_tracedAt_17 ?_
      refine z_goto C 23 dX0_tracedAt_18 (by decide) ?_
      exact z_iret C I hr hk h dX0_tracedAt_23

def fX1_beginWave_17 (n : Nat) : Nat → zM → Int32 → Int32 → Option (Int32 × zM)
  | 0, _, _, _ => none
  | fu + 1, S, x0, x2 => if (30 : Int32) ≤ (x2 : Int32) then (some (0, S)) else (zd (zo n 11 x0) <| zd (za n 1 (zg S x0 4) x2) <| zbd (zq S (zg S x0 4) x2 0) fun S4 => zbd (x2 + 1) fun v6 => fX1_beginWave_17 n fu S4 x0 v6)
theorem bX1_beginWave_17 {p : Program} {l : Launch} {e : Env} {s : State} {m : MethodId} {args : Array Value} {below : List Frame} {meth : Method} {c : Code} {D : va_G} {tc : Nat → ClassId} {b n : Nat} {S' : zM} {r : Int32} (C : zC p m c cX1_beginWave 3 s args yX1_beginWave.cls D tc) (hr : meth.sig.returnType = none) (hk : meth.locks = false) : ∀ (fu : Nat) (S : zM) (x0 : Int32) (x2 : Int32) (H : Heap) (locs : List Loc) (ls : Array Slot), fX1_beginWave_17 n fu S x0 x2 = some (r, S') → zI D tc b n S s H locs → zL b ls 3 [(0, zr x0), (2, zi x2)] → W p l e (zR 0) s m args below meth c H locs 0 0 (zQv D tc b n S' below args s) (zG b m 17 ls []) := by
  intro fu
  induction fu with
  | zero => intro S x0 x2 H locs ls h _ _; rw [fX1_beginWave_17] at h; cases h
  | succ fu ih =>
    intro S x0 x2 H locs ls h I hl
    rw [fX1_beginWave_17] at h
    refine z_iload_n C hl 1 rfl dX1_beginWave_17 rfl ?_
    refine z_bipush C (v := 30) dX1_beginWave_18 (by decide) ?_
    refine z_icmp_ge C 36 dX1_beginWave_20 (by decide) (fun c1 => ?_) (fun c1 => ?_)
    · have h := zit c1 h
      exact z_vret C I hr hk h dX1_beginWave_36
    · have h := zif c1 h
      refine z_aload_n C hl 0 rfl dX1_beginWave_23 rfl ?_
      obtain ⟨g2, h⟩ := zd_some h
      refine z_get C I 1 4 zc1 g2 (by decide) zq_132 (v := zr (zg S x0 4)) rfl dX1_beginWave_24 ?_
      refine z_iload_n C hl 1 rfl dX1_beginWave_27 rfl ?_
      refine z_iconst C (v := 0) dX1_beginWave_28 (by decide) ?_
      obtain ⟨g3, h⟩ := zd_some h
      refine z_zast C I g3 rfl dX1_beginWave_29 (fun S4 e5 H locs I => ?_)
      have h := znb e5 h
      refine z_iinc C hl 1 (v := x2 + 1) rfl dX1_beginWave_30 rfl (by decide) (fun v6 => [(2, zi v6), (0, zr x0)]) (fun _ => rfl) (fun v6 e7 ls hl => ?_)
      have h := znb e7 h
      refine z_goto C 17 dX1_beginWave_33 (by decide) ?_
      exact ih _ _ _ _ _ _ h I (zL_sub hl [1, 0] rfl)

def fX1_beginWave (n : Nat) (S : zM) (a0 : Int32) (a1 : Int32) : Option (Int32 × zM) := zd (zo n 11 a0) <| zbd (zp S a0 5 a1) fun S2 => zbd (zp S2 a0 6 0) fun S4 => zbd (zp S4 a0 7 0) fun S6 => zbd (0) fun v8 => fX1_beginWave_17 n 1000 S6 a0 v8
theorem tX1_beginWave (l : Launch) (D : va_G) (tc : Nat → ClassId) (b n : Nat) {S S' : zM} {a0 : Int32} {a1 : Int32} {r : Int32} (h : fX1_beginWave n S a0 a1 = some (r, S')) : zMv l D tc b n yX1_beginWave cX1_beginWave 3 0 [zr a0, zi a1] S S' := by
  refine zMv_of zyX1_beginWave (Nat.le_of_ble_eq_true rfl) (fun p e s m args below meth c H C hr hk ls hl I => ?_)
  have hl : zL b ls 3 [(0, zr a0), (1, zi a1)] := hl
  rw [fX1_beginWave] at h
  refine z_aload_n C hl 0 rfl dX1_beginWave_0 rfl ?_
  refine z_iload_n C hl 1 rfl dX1_beginWave_1 rfl ?_
  obtain ⟨g1, h⟩ := zd_some h
  refine z_put C I 1 5 zc1 g1 (by decide) rfl zq_134 rfl (v := zi a1) rfl dX1_beginWave_2 (fun S2 e3 H locs I => ?_)
  have h := znb e3 h
  refine z_aload_n C hl 0 rfl dX1_beginWave_5 rfl ?_
  refine z_iconst C (v := 0) dX1_beginWave_6 (by decide) ?_
  refine z_put C I 1 6 zc1 g1 (by decide) rfl zq_136 rfl (v := zi 0) rfl dX1_beginWave_7 (fun S4 e5 H locs I => ?_)
  have h := znb e5 h
  refine z_aload_n C hl 0 rfl dX1_beginWave_10 rfl ?_
  refine z_iconst C (v := 0) dX1_beginWave_11 (by decide) ?_
  refine z_put C I 1 7 zc1 g1 (by decide) rfl zq_138 rfl (v := zi 0) rfl dX1_beginWave_12 (fun S6 e7 H locs I => ?_)
  have h := znb e7 h
  refine z_iconst C (v := 0) dX1_beginWave_15 (by decide) ?_
  refine z_istore_n C hl dX1_beginWave_16 rfl (by decide) (fun v8 => [(2, zi v8), (0, zr a0), (1, zi a1)]) (fun _ => rfl) (fun v8 e9 ls hl => ?_)
  have h := znb e9 h
  exact bX1_beginWave_17 C hr hk 1000 _ _ _ _ _ _ h I (zL_sub hl [1, 0] rfl)

def fX1_begin (n : Nat) (S : zM) (a0 : Int32) (a1 : Int32) (a2 : Int32) (a3 : Int32) (a4 : Int32) (a5 : Int32) : Option (Int32 × zM) := zd (zo n 11 a0) <| zbd (zp S a0 0 a1) fun S2 => zd (zo n 13 a2) <| zd (zo n 0 (zg S2 a2 0)) <| zd (zo n 0 (zg S2 a0 1)) <| zd (zcg (zg S2 a2 0) (zg S2 a0 1) a3 0 a4) <| zbd (zcy S2 (zg S2 a2 0) (zg S2 a0 1) a3 0 a4) fun S8 => zbd (zp S8 a0 2 a4) fun S10 => zbd (zp S10 a0 3 a5) fun S12 => zbd (zp S12 a0 8 0) fun S14 => zbd (zp S14 a0 9 0) fun S16 => zca (fX1_beginWave n S16 a0 0) fun r18 S19 => some (0, S19)
theorem tX1_begin (l : Launch) (D : va_G) (tc : Nat → ClassId) (b n : Nat) {S S' : zM} {a0 : Int32} {a1 : Int32} {a2 : Int32} {a3 : Int32} {a4 : Int32} {a5 : Int32} {r : Int32} (h : fX1_begin n S a0 a1 a2 a3 a4 a5 = some (r, S')) : zMv l D tc b n yX1_begin cX1_begin 6 1 [zr a0, zr a1, zr a2, zi a3, zi a4, zi a5] S S' := by
  refine zMv_of zyX1_begin (Nat.le_of_ble_eq_true rfl) (fun p e s m args below meth c H C hr hk ls hl I => ?_)
  have hl : zL b ls 6 [(0, zr a0), (1, zr a1), (2, zr a2), (3, zi a3), (4, zi a4), (5, zi a5)] := hl
  rw [fX1_begin] at h
  refine z_aload_n C hl 0 rfl dX1_begin_0 rfl ?_
  refine z_aload_n C hl 1 rfl dX1_begin_1 rfl ?_
  obtain ⟨g1, h⟩ := zd_some h
  refine z_put C I 1 0 zc1 g1 (by decide) rfl zq_127 rfl (v := zr a1) rfl dX1_begin_2 (fun S2 e3 H locs I => ?_)
  have h := znb e3 h
  refine z_aload_n C hl 2 rfl dX1_begin_5 rfl ?_
  obtain ⟨g4, h⟩ := zd_some h
  refine z_get C I 3 0 zc3 g4 (by decide) zq_185 (v := zr (zg S2 a2 0)) rfl dX1_begin_6 ?_
  refine z_iload_n C hl 3 rfl dX1_begin_9 rfl ?_
  refine z_aload_n C hl 0 rfl dX1_begin_10 rfl ?_
  refine z_get C I 1 1 zc1 g1 (by decide) zq_129 (v := zr (zg S2 a0 1)) rfl dX1_begin_11 ?_
  refine z_iconst C (v := 0) dX1_begin_14 (by decide) ?_
  refine z_iload C hl 4 rfl dX1_begin_15 ?_
  obtain ⟨g5, h⟩ := zd_some h
  obtain ⟨g6, h⟩ := zd_some h
  obtain ⟨g7, h⟩ := zd_some h
  refine z_copyi C I g5 g6 g7 zq_485 zq_301 zq_300 zq_10 hl.1 (by decide) (Nat.le_of_ble_eq_true rfl) dX1_begin_17 (fun S8 e9 H locs I => ?_)
  have h := znb e9 h
  refine z_aload_n C hl 0 rfl dX1_begin_20 rfl ?_
  refine z_iload C hl 4 rfl dX1_begin_21 ?_
  refine z_put C I 1 2 zc1 g1 (by decide) rfl zq_130 rfl (v := zi a4) rfl dX1_begin_23 (fun S10 e11 H locs I => ?_)
  have h := znb e11 h
  refine z_aload_n C hl 0 rfl dX1_begin_26 rfl ?_
  refine z_iload C hl 5 rfl dX1_begin_27 ?_
  refine z_put C I 1 3 zc1 g1 (by decide) rfl zq_131 rfl (v := zi a5) rfl dX1_begin_29 (fun S12 e13 H locs I => ?_)
  have h := znb e13 h
  refine z_aload_n C hl 0 rfl dX1_begin_32 rfl ?_
  refine z_iconst C (v := 0) dX1_begin_33 (by decide) ?_
  refine z_put C I 1 8 zc1 g1 (by decide) rfl zq_140 rfl (v := zi 0) rfl dX1_begin_34 (fun S14 e15 H locs I => ?_)
  have h := znb e15 h
  refine z_aload_n C hl 0 rfl dX1_begin_37 rfl ?_
  refine z_iconst C (v := 0) dX1_begin_38 (by decide) ?_
  refine z_put C I 1 9 zc1 g1 (by decide) rfl zq_142 rfl (v := zi 0) rfl dX1_begin_39 (fun S16 e17 H locs I => ?_)
  have h := znb e17 h
  refine z_aload_n C hl 0 rfl dX1_begin_42 rfl ?_
  refine z_iconst C (v := 0) dX1_begin_43 (by decide) ?_
  obtain ⟨r18, S19, h20, h⟩ := zcs h
  refine z_callVv C I (tX1_beginWave l D tc b n h20) zyX1_beginWave zyvX1_beginWave zc1 g1 zq_486 (st := []) rfl rfl (by decide) (by decide) hl.1 (Nat.le_of_ble_eq_true rfl) dX1_begin_44 (fun H locs I => ?_)
  exact z_vret C I hr hk h dX1_begin_47

def fX1_shareOfWave (n : Nat) (S : zM) (a0 : Int32) : Option (Int32 × zM) := zd (zo n 11 a0) <| zd (za n 0 (zg S a0 1) (zg S a0 5)) <| some (ze S (zg S a0 1) (zg S a0 5), S)
theorem tX1_shareOfWave (l : Launch) (D : va_G) (tc : Nat → ClassId) (b n : Nat) {S S' : zM} {a0 : Int32} {r : Int32} (h : fX1_shareOfWave n S a0 = some (r, S')) : zMi l D tc b n yX1_shareOfWave cX1_shareOfWave 1 .int 0 [zr a0] S S' r := by
  refine zMi_of zyX1_shareOfWave (Nat.le_of_ble_eq_true rfl) (fun p e s m args below meth c H C hr hk ls hl I => ?_)
  have hl : zL b ls 1 [(0, zr a0)] := hl
  rw [fX1_shareOfWave] at h
  refine z_aload_n C hl 0 rfl dX1_shareOfWave_0 rfl ?_
  obtain ⟨g1, h⟩ := zd_some h
  refine z_get C I 1 1 zc1 g1 (by decide) zq_129 (v := zr (zg S a0 1)) rfl dX1_shareOfWave_1 ?_
  refine z_aload_n C hl 0 rfl dX1_shareOfWave_4 rfl ?_
  refine z_get C I 1 5 zc1 g1 (by decide) zq_134 (v := zi (zg S a0 5)) rfl dX1_shareOfWave_5 ?_
  obtain ⟨g2, h⟩ := zd_some h
  refine z_iald C I g2 dX1_shareOfWave_8 ?_
  exact z_iret C I hr hk h dX1_shareOfWave_9

def fX1_isRunning (n : Nat) (S : zM) (a0 : Int32) : Option (Int32 × zM) := zd (zo n 11 a0) <| if (zg S a0 0 : Int32) < 0 then (some (0, S)) else (if (zg S a0 8 : Int32) = 0 then (some (1, S)) else (some (0, S)))
theorem tX1_isRunning (l : Launch) (D : va_G) (tc : Nat → ClassId) (b n : Nat) {S S' : zM} {a0 : Int32} {r : Int32} (h : fX1_isRunning n S a0 = some (r, S')) : zMi l D tc b n yX1_isRunning cX1_isRunning 1 .boolean 0 [zr a0] S S' r := by
  refine zMi_of zyX1_isRunning (Nat.le_of_ble_eq_true rfl) (fun p e s m args below meth c H C hr hk ls hl I => ?_)
  have hl : zL b ls 1 [(0, zr a0)] := hl
  rw [fX1_isRunning] at h
  refine z_aload_n C hl 0 rfl dX1_isRunning_0 rfl ?_
  obtain ⟨g1, h⟩ := zd_some h
  refine z_get C I 1 0 zc1 g1 (by decide) zq_127 (v := zr (zg S a0 0)) rfl dX1_isRunning_1 ?_
  refine z_ifnull C 18 dX1_isRunning_4 (by decide) (fun c2 => ?_) (fun c2 => ?_)
  · have h := zit c2 h
    refine z_iconst C (v := 0) dX1_isRunning_18 (by decide) ?_
    exact z_zret C I hr hk rfl h dX1_isRunning_19
  · have h := zif c2 h
    refine z_aload_n C hl 0 rfl dX1_isRunning_7 rfl ?_
    refine z_get C I 1 8 zc1 g1 (by decide) zq_140 (v := zi (zg S a0 8)) rfl dX1_isRunning_8 ?_
    refine z_if_ne C 18 dX1_isRunning_11 (by decide) (fun c3 => ?_) (fun c3 => ?_)
    · have h := zif c3 h
      refine z_iconst C (v := 0) dX1_isRunning_18 (by decide) ?_
      exact z_zret C I hr hk rfl h dX1_isRunning_19
    · have h := zit c3 h
      refine z_iconst C (v := 1) dX1_isRunning_14 (by decide) ?_
      refine z_goto C 19 dX1_isRunning_15 (by decide) ?_
      exact z_zret C I hr hk rfl h dX1_isRunning_19

def fX1_note (n : Nat) (S : zM) (a0 : Int32) (a1 : Int32) (a2 : Int32) (a3 : Int32) : Option (Int32 × zM) := zd (zo n 11 a0) <| zd (za n 1 (zg S a0 4) a1) <| zbd (zq S (zg S a0 4) a1 1) fun S3 => zbd (zp S3 a0 9 ((zg S3 a0 9) + a2)) fun S5 => zbd (zp S5 a0 6 ((zg S5 a0 6) + 1)) fun S7 => if (a3 : Int32) = 0 then (zbd (zp S7 a0 7 ((zg S7 a0 7) + 1)) fun S10 => some (0, S10)) else (some (0, S7))
theorem tX1_note (l : Launch) (D : va_G) (tc : Nat → ClassId) (b n : Nat) {S S' : zM} {a0 : Int32} {a1 : Int32} {a2 : Int32} {a3 : Int32} {r : Int32} (h : fX1_note n S a0 a1 a2 a3 = some (r, S')) : zMv l D tc b n yX1_note cX1_note 4 0 [zr a0, zi a1, zi a2, zi a3] S S' := by
  refine zMv_of zyX1_note (Nat.le_of_ble_eq_true rfl) (fun p e s m args below meth c H C hr hk ls hl I => ?_)
  have hl : zL b ls 4 [(0, zr a0), (1, zi a1), (2, zi a2), (3, zi a3)] := hl
  rw [fX1_note] at h
  refine z_aload_n C hl 0 rfl dX1_note_0 rfl ?_
  obtain ⟨g1, h⟩ := zd_some h
  refine z_get C I 1 4 zc1 g1 (by decide) zq_132 (v := zr (zg S a0 4)) rfl dX1_note_1 ?_
  refine z_iload_n C hl 1 rfl dX1_note_4 rfl ?_
  refine z_iconst C (v := 1) dX1_note_5 (by decide) ?_
  obtain ⟨g2, h⟩ := zd_some h
  refine z_zast C I g2 rfl dX1_note_6 (fun S3 e4 H locs I => ?_)
  have h := znb e4 h
  refine z_aload_n C hl 0 rfl dX1_note_7 rfl ?_
  refine z_dup C dX1_note_8 rfl ?_
  refine z_get C I 1 9 zc1 g1 (by decide) zq_142 (v := zi (zg S3 a0 9)) rfl dX1_note_9 ?_
  refine z_iload_n C hl 2 rfl dX1_note_12 rfl ?_
  refine z_iadd C dX1_note_13 ?_
  refine z_put C I 1 9 zc1 g1 (by decide) rfl zq_142 rfl (v := zi ((zg S3 a0 9) + a2)) rfl dX1_note_14 (fun S5 e6 H locs I => ?_)
  have h := znb e6 h
  refine z_aload_n C hl 0 rfl dX1_note_17 rfl ?_
  refine z_dup C dX1_note_18 rfl ?_
  refine z_get C I 1 6 zc1 g1 (by decide) zq_136 (v := zi (zg S5 a0 6)) rfl dX1_note_19 ?_
  refine z_iconst C (v := 1) dX1_note_22 (by decide) ?_
  refine z_iadd C dX1_note_23 ?_
  refine z_put C I 1 6 zc1 g1 (by decide) rfl zq_136 rfl (v := zi ((zg S5 a0 6) + 1)) rfl dX1_note_24 (fun S7 e8 H locs I => ?_)
  have h := znb e8 h
  refine z_iload_n C hl 3 rfl dX1_note_27 rfl ?_
  refine z_if_ne C 41 dX1_note_28 (by decide) (fun c9 => ?_) (fun c9 => ?_)
  · have h := zif c9 h
    exact z_vret C I hr hk h dX1_note_41
  · have h := zit c9 h
    refine z_aload_n C hl 0 rfl dX1_note_31 rfl ?_
    refine z_dup C dX1_note_32 rfl ?_
    refine z_get C I 1 7 zc1 g1 (by decide) zq_138 (v := zi (zg S7 a0 7)) rfl dX1_note_33 ?_
    refine z_iconst C (v := 1) dX1_note_36 (by decide) ?_
    refine z_iadd C dX1_note_37 ?_
    refine z_put C I 1 7 zc1 g1 (by decide) rfl zq_138 rfl (v := zi ((zg S7 a0 7) + 1)) rfl dX1_note_38 (fun S10 e11 H locs I => ?_)
    have h := znb e11 h
    exact z_vret C I hr hk h dX1_note_41

def fX7_isHalting (n : Nat) (S : zM) (a0 : Int32) (a1 : Int32) (a2 : Int32) : Option (Int32 × zM) := if (a0 * 10 : Int32) ≤ (a2 * a1 : Int32) then (some (0, S)) else (some (1, S))
theorem tX7_isHalting (l : Launch) (D : va_G) (tc : Nat → ClassId) (b n : Nat) {S S' : zM} {a0 : Int32} {a1 : Int32} {a2 : Int32} {r : Int32} (h : fX7_isHalting n S a0 a1 a2 = some (r, S')) : zMi l D tc b n yX7_isHalting cX7_isHalting 3 .boolean 0 [zi a0, zi a1, zi a2] S S' r := by
  refine zMi_of zyX7_isHalting (Nat.le_of_ble_eq_true rfl) (fun p e s m args below meth c H C hr hk ls hl I => ?_)
  have hl : zL b ls 3 [(0, zi a0), (1, zi a1), (2, zi a2)] := hl
  rw [fX7_isHalting] at h
  refine z_iload_n C hl 0 rfl dX7_isHalting_0 rfl ?_
  refine z_bipush C (v := 10) dX7_isHalting_1 (by decide) ?_
  refine z_imul C dX7_isHalting_3 ?_
  refine z_iload_n C hl 2 rfl dX7_isHalting_4 rfl ?_
  refine z_iload_n C hl 1 rfl dX7_isHalting_5 rfl ?_
  refine z_imul C dX7_isHalting_6 ?_
  refine z_icmp_le C 14 dX7_isHalting_7 (by decide) (fun c1 => ?_) (fun c1 => ?_)
  · have h := zit c1 h
    refine z_iconst C (v := 0) dX7_isHalting_14 (by decide) ?_
    exact z_zret C I hr hk rfl h dX7_isHalting_15
  · have h := zif c1 h
    refine z_iconst C (v := 1) dX7_isHalting_10 (by decide) ?_
    refine z_goto C 15 dX7_isHalting_11 (by decide) ?_
    exact z_zret C I hr hk rfl h dX7_isHalting_15

def fX1_endWave (n : Nat) (S : zM) (a0 : Int32) : Option (Int32 × zM) := zd (zo n 11 a0) <| zca (fX7_isHalting n S (zg S a0 7) (zg S a0 6) (zg S a0 3)) fun r2 S3 => if (r2 : Int32) = 0 then (if (zg S3 a0 5 : Int32) = ((zg S3 a0 2) - 1 : Int32) then (zbd (zp S3 a0 8 2) fun S10 => some (0, S10)) else (zca (fX1_beginWave n S3 a0 ((zg S3 a0 5) + 1)) fun r7 S8 => some (0, S8))) else (zbd (zp S3 a0 8 1) fun S12 => some (0, S12))
theorem tX1_endWave (l : Launch) (D : va_G) (tc : Nat → ClassId) (b n : Nat) {S S' : zM} {a0 : Int32} {r : Int32} (h : fX1_endWave n S a0 = some (r, S')) : zMv l D tc b n yX1_endWave cX1_endWave 1 1 [zr a0] S S' := by
  refine zMv_of zyX1_endWave (Nat.le_of_ble_eq_true rfl) (fun p e s m args below meth c H C hr hk ls hl I => ?_)
  have hl : zL b ls 1 [(0, zr a0)] := hl
  rw [fX1_endWave] at h
  refine z_aload_n C hl 0 rfl dX1_endWave_0 rfl ?_
  obtain ⟨g1, h⟩ := zd_some h
  refine z_get C I 1 7 zc1 g1 (by decide) zq_138 (v := zi (zg S a0 7)) rfl dX1_endWave_1 ?_
  refine z_aload_n C hl 0 rfl dX1_endWave_4 rfl ?_
  refine z_get C I 1 6 zc1 g1 (by decide) zq_136 (v := zi (zg S a0 6)) rfl dX1_endWave_5 ?_
  refine z_aload_n C hl 0 rfl dX1_endWave_8 rfl ?_
  refine z_get C I 1 3 zc1 g1 (by decide) zq_131 (v := zi (zg S a0 3)) rfl dX1_endWave_9 ?_
  obtain ⟨r2, S3, h4, h⟩ := zcs h
  refine z_callSNi C I (tX7_isHalting l D tc b n h4) zyX7_isHalting zq_533 C.2.2.1 (st := []) rfl rfl (by decide) (by decide) hl.1 (Nat.le_of_ble_eq_true rfl) dX1_endWave_12 (fun H locs I => ?_)
  refine z_if_eq C 26 dX1_endWave_15 (by decide) (fun c5 => ?_) (fun c5 => ?_)
  · have h := zit c5 h
    refine z_aload_n C hl 0 rfl dX1_endWave_26 rfl ?_
    refine z_get C I 1 5 zc1 g1 (by decide) zq_134 (v := zi (zg S3 a0 5)) rfl dX1_endWave_27 ?_
    refine z_aload_n C hl 0 rfl dX1_endWave_30 rfl ?_
    refine z_get C I 1 2 zc1 g1 (by decide) zq_130 (v := zi (zg S3 a0 2)) rfl dX1_endWave_31 ?_
    refine z_iconst C (v := 1) dX1_endWave_34 (by decide) ?_
    refine z_isub C dX1_endWave_35 ?_
    refine z_icmp_ne C 47 dX1_endWave_36 (by decide) (fun c6 => ?_) (fun c6 => ?_)
    · have h := zif c6 h
      refine z_aload_n C hl 0 rfl dX1_endWave_47 rfl ?_
      refine z_aload_n C hl 0 rfl dX1_endWave_48 rfl ?_
      refine z_get C I 1 5 zc1 g1 (by decide) zq_134 (v := zi (zg S3 a0 5)) rfl dX1_endWave_49 ?_
      refine z_iconst C (v := 1) dX1_endWave_52 (by decide) ?_
      refine z_iadd C dX1_endWave_53 ?_
      obtain ⟨r7, S8, h9, h⟩ := zcs h
      refine z_callVv C I (tX1_beginWave l D tc b n h9) zyX1_beginWave zyvX1_beginWave zc1 g1 zq_486 (st := []) rfl rfl (by decide) (by decide) hl.1 (Nat.le_of_ble_eq_true rfl) dX1_endWave_54 (fun H locs I => ?_)
      exact z_vret C I hr hk h dX1_endWave_57
    · have h := zit c6 h
      refine z_aload_n C hl 0 rfl dX1_endWave_39 rfl ?_
      refine z_iconst C (v := 2) dX1_endWave_40 (by decide) ?_
      refine z_put C I 1 8 zc1 g1 (by decide) rfl zq_140 rfl (v := zi 2) rfl dX1_endWave_41 (fun S10 e11 H locs I => ?_)
      have h := znb e11 h
      refine z_goto C 57 dX1_endWave_44 (by decide) ?_
      exact z_vret C I hr hk h dX1_endWave_57
  · have h := zif c5 h
    refine z_aload_n C hl 0 rfl dX1_endWave_18 rfl ?_
    refine z_iconst C (v := 1) dX1_endWave_19 (by decide) ?_
    refine z_put C I 1 8 zc1 g1 (by decide) rfl zq_140 rfl (v := zi 1) rfl dX1_endWave_20 (fun S12 e13 H locs I => ?_)
    have h := znb e13 h
    refine z_goto C 57 dX1_endWave_23 (by decide) ?_
    exact z_vret C I hr hk h dX1_endWave_57

def fX4_fill (n : Nat) (S : zM) (a0 : Int32) (a1 : Int32) (a2 : Int32) : Option (Int32 × zM) := zd (zo n 14 a0) <| zbd (zp S a0 0 a1) fun S2 => zbd (zp S2 a0 1 a2) fun S4 => some (0, S4)
theorem tX4_fill (l : Launch) (D : va_G) (tc : Nat → ClassId) (b n : Nat) {S S' : zM} {a0 : Int32} {a1 : Int32} {a2 : Int32} {r : Int32} (h : fX4_fill n S a0 a1 a2 = some (r, S')) : zMv l D tc b n yX4_fill cX4_fill 3 0 [zr a0, zr a1, zi a2] S S' := by
  refine zMv_of zyX4_fill (Nat.le_of_ble_eq_true rfl) (fun p e s m args below meth c H C hr hk ls hl I => ?_)
  have hl : zL b ls 3 [(0, zr a0), (1, zr a1), (2, zi a2)] := hl
  rw [fX4_fill] at h
  refine z_aload_n C hl 0 rfl dX4_fill_0 rfl ?_
  refine z_aload_n C hl 1 rfl dX4_fill_1 rfl ?_
  obtain ⟨g1, h⟩ := zd_some h
  refine z_put C I 4 0 zc4 g1 (by decide) rfl zq_65 rfl (v := zr a1) rfl dX4_fill_2 (fun S2 e3 H locs I => ?_)
  have h := znb e3 h
  refine z_aload_n C hl 0 rfl dX4_fill_5 rfl ?_
  refine z_iload_n C hl 2 rfl dX4_fill_6 rfl ?_
  refine z_put C I 4 1 zc4 g1 (by decide) rfl zq_67 rfl (v := zi a2) rfl dX4_fill_7 (fun S4 e5 H locs I => ?_)
  have h := znb e5 h
  exact z_vret C I hr hk h dX4_fill_10

def fX2_arrive (n : Nat) (S : zM) (a0 : Int32) (a1 : Int32) (a2 : Int32) (a3 : Int32) : Option (Int32 × zM) := zd (zo n 12 a0) <| zbd (zp S a0 1 a1) fun S2 => zbd (zp S2 a0 2 a3) fun S4 => zd (zo n 16 a2) <| zd (zo n 14 (zg S4 a0 3)) <| zca (fX4_fill n S4 (zg S4 a0 3) a2 (zg S4 a2 1)) fun r8 S9 => zbd (zp S9 a0 8 (zg S9 a2 2)) fun S11 => some (0, S11)
theorem tX2_arrive (l : Launch) (D : va_G) (tc : Nat → ClassId) (b n : Nat) {S S' : zM} {a0 : Int32} {a1 : Int32} {a2 : Int32} {a3 : Int32} {r : Int32} (h : fX2_arrive n S a0 a1 a2 a3 = some (r, S')) : zMv l D tc b n yX2_arrive cX2_arrive 4 1 [zr a0, zi a1, zr a2, zr a3] S S' := by
  refine zMv_of zyX2_arrive (Nat.le_of_ble_eq_true rfl) (fun p e s m args below meth c H C hr hk ls hl I => ?_)
  have hl : zL b ls 4 [(0, zr a0), (1, zi a1), (2, zr a2), (3, zr a3)] := hl
  rw [fX2_arrive] at h
  refine z_aload_n C hl 0 rfl dX2_arrive_0 rfl ?_
  refine z_iload_n C hl 1 rfl dX2_arrive_1 rfl ?_
  obtain ⟨g1, h⟩ := zd_some h
  refine z_put C I 2 1 zc2 g1 (by decide) rfl zq_77 rfl (v := zi a1) rfl dX2_arrive_2 (fun S2 e3 H locs I => ?_)
  have h := znb e3 h
  refine z_aload_n C hl 0 rfl dX2_arrive_5 rfl ?_
  refine z_aload_n C hl 3 rfl dX2_arrive_6 rfl ?_
  refine z_put C I 2 2 zc2 g1 (by decide) rfl zq_80 rfl (v := zr a3) rfl dX2_arrive_7 (fun S4 e5 H locs I => ?_)
  have h := znb e5 h
  refine z_aload_n C hl 0 rfl dX2_arrive_10 rfl ?_
  refine z_get C I 2 3 zc2 g1 (by decide) zq_82 (v := zr (zg S4 a0 3)) rfl dX2_arrive_11 ?_
  refine z_aload_n C hl 2 rfl dX2_arrive_14 rfl ?_
  refine z_aload_n C hl 2 rfl dX2_arrive_15 rfl ?_
  obtain ⟨g6, h⟩ := zd_some h
  refine z_get C I 6 1 zc6 g6 (by decide) zq_212 (v := zi (zg S4 a2 1)) rfl dX2_arrive_16 ?_
  obtain ⟨g7, h⟩ := zd_some h
  obtain ⟨r8, S9, h10, h⟩ := zcs h
  refine z_callVv C I (tX4_fill l D tc b n h10) zyX4_fill zyvX4_fill zc4 g7 zq_374 (st := []) rfl rfl (by decide) (by decide) hl.1 (Nat.le_of_ble_eq_true rfl) dX2_arrive_19 (fun H locs I => ?_)
  refine z_aload_n C hl 0 rfl dX2_arrive_22 rfl ?_
  refine z_aload_n C hl 2 rfl dX2_arrive_23 rfl ?_
  refine z_get C I 6 2 zc6 g6 (by decide) zq_216 (v := zi (zg S9 a2 2)) rfl dX2_arrive_24 ?_
  refine z_put C I 2 8 zc2 g1 (by decide) rfl zq_92 rfl (v := zi (zg S9 a2 2)) rfl dX2_arrive_27 (fun S11 e12 H locs I => ?_)
  have h := znb e12 h
  exact z_vret C I hr hk h dX2_arrive_30

def fX4_isWholeNotBelow (n : Nat) (S : zM) (a0 : Int32) (a1 : Int32) : Option (Int32 × zM) := zd (zo n 14 a0) <| if (zg S a0 0 : Int32) < 0 then (some (0, S)) else (zd (zo n 16 (zg S a0 0)) <| if (zg S a0 1 : Int32) = (zg S (zg S a0 0) 1 : Int32) then (if (zg S (zg S a0 0) 0 : Int32) < (a1 : Int32) then (some (0, S)) else (some (1, S))) else (some (0, S)))
theorem tX4_isWholeNotBelow (l : Launch) (D : va_G) (tc : Nat → ClassId) (b n : Nat) {S S' : zM} {a0 : Int32} {a1 : Int32} {r : Int32} (h : fX4_isWholeNotBelow n S a0 a1 = some (r, S')) : zMi l D tc b n yX4_isWholeNotBelow cX4_isWholeNotBelow 2 .boolean 0 [zr a0, zi a1] S S' r := by
  refine zMi_of zyX4_isWholeNotBelow (Nat.le_of_ble_eq_true rfl) (fun p e s m args below meth c H C hr hk ls hl I => ?_)
  have hl : zL b ls 2 [(0, zr a0), (1, zi a1)] := hl
  rw [fX4_isWholeNotBelow] at h
  refine z_aload_n C hl 0 rfl dX4_isWholeNotBelow_0 rfl ?_
  obtain ⟨g1, h⟩ := zd_some h
  refine z_get C I 4 0 zc4 g1 (by decide) zq_65 (v := zr (zg S a0 0)) rfl dX4_isWholeNotBelow_1 ?_
  refine z_ifnull C 36 dX4_isWholeNotBelow_4 (by decide) (fun c2 => ?_) (fun c2 => ?_)
  · have h := zit c2 h
    refine z_iconst C (v := 0) dX4_isWholeNotBelow_36 (by decide) ?_
    exact z_zret C I hr hk rfl h dX4_isWholeNotBelow_37
  · have h := zif c2 h
    refine z_aload_n C hl 0 rfl dX4_isWholeNotBelow_7 rfl ?_
    refine z_get C I 4 1 zc4 g1 (by decide) zq_67 (v := zi (zg S a0 1)) rfl dX4_isWholeNotBelow_8 ?_
    refine z_aload_n C hl 0 rfl dX4_isWholeNotBelow_11 rfl ?_
    refine z_get C I 4 0 zc4 g1 (by decide) zq_65 (v := zr (zg S a0 0)) rfl dX4_isWholeNotBelow_12 ?_
    obtain ⟨g3, h⟩ := zd_some h
    refine z_get C I 6 1 zc6 g3 (by decide) zq_213 (v := zi (zg S (zg S a0 0) 1)) rfl dX4_isWholeNotBelow_15 ?_
    refine z_icmp_ne C 36 dX4_isWholeNotBelow_18 (by decide) (fun c4 => ?_) (fun c4 => ?_)
    · have h := zif c4 h
      refine z_iconst C (v := 0) dX4_isWholeNotBelow_36 (by decide) ?_
      exact z_zret C I hr hk rfl h dX4_isWholeNotBelow_37
    · have h := zit c4 h
      refine z_aload_n C hl 0 rfl dX4_isWholeNotBelow_21 rfl ?_
      refine z_get C I 4 0 zc4 g1 (by decide) zq_65 (v := zr (zg S a0 0)) rfl dX4_isWholeNotBelow_22 ?_
      refine z_get C I 6 0 zc6 g3 (by decide) zq_208 (v := zi (zg S (zg S a0 0) 0)) rfl dX4_isWholeNotBelow_25 ?_
      refine z_iload_n C hl 1 rfl dX4_isWholeNotBelow_28 rfl ?_
      refine z_icmp_lt C 36 dX4_isWholeNotBelow_29 (by decide) (fun c5 => ?_) (fun c5 => ?_)
      · have h := zit c5 h
        refine z_iconst C (v := 0) dX4_isWholeNotBelow_36 (by decide) ?_
        exact z_zret C I hr hk rfl h dX4_isWholeNotBelow_37
      · have h := zif c5 h
        refine z_iconst C (v := 1) dX4_isWholeNotBelow_32 (by decide) ?_
        refine z_goto C 37 dX4_isWholeNotBelow_33 (by decide) ?_
        exact z_zret C I hr hk rfl h dX4_isWholeNotBelow_37

def fX2_isAlive (n : Nat) (S : zM) (a0 : Int32) : Option (Int32 × zM) := zd (zo n 12 a0) <| zd (zo n 14 (zg S a0 3)) <| zca (fX4_isWholeNotBelow n S (zg S a0 3) (zg S a0 8)) fun r3 S4 => zd (zbit r3) <| some (r3, S4)
theorem tX2_isAlive (l : Launch) (D : va_G) (tc : Nat → ClassId) (b n : Nat) {S S' : zM} {a0 : Int32} {r : Int32} (h : fX2_isAlive n S a0 = some (r, S')) : zMi l D tc b n yX2_isAlive cX2_isAlive 1 .boolean 1 [zr a0] S S' r := by
  refine zMi_of zyX2_isAlive (Nat.le_of_ble_eq_true rfl) (fun p e s m args below meth c H C hr hk ls hl I => ?_)
  have hl : zL b ls 1 [(0, zr a0)] := hl
  rw [fX2_isAlive] at h
  refine z_aload_n C hl 0 rfl dX2_isAlive_0 rfl ?_
  obtain ⟨g1, h⟩ := zd_some h
  refine z_get C I 2 3 zc2 g1 (by decide) zq_82 (v := zr (zg S a0 3)) rfl dX2_isAlive_1 ?_
  refine z_aload_n C hl 0 rfl dX2_isAlive_4 rfl ?_
  refine z_get C I 2 8 zc2 g1 (by decide) zq_92 (v := zi (zg S a0 8)) rfl dX2_isAlive_5 ?_
  obtain ⟨g2, h⟩ := zd_some h
  obtain ⟨r3, S4, h5, h⟩ := zcs h
  refine z_callVi C I (tX4_isWholeNotBelow l D tc b n h5) zyX4_isWholeNotBelow zyvX4_isWholeNotBelow zc4 g2 zq_397 (st := []) rfl rfl (by decide) (by decide) hl.1 (Nat.le_of_ble_eq_true rfl) dX2_isAlive_8 (fun H locs I => ?_)
  obtain ⟨g6, h⟩ := zd_some h
  exact z_zret C I hr hk g6 h dX2_isAlive_11

def fX2_isOver (n : Nat) (S : zM) (a0 : Int32) (a1 : Int32) (a2 : Int32) : Option (Int32 × zM) := zd (zo n 16 a1) <| if (a2 : Int32) ≤ ((zg S a1 1) + 2 : Int32) then (some (0, S)) else (zd (zo n 12 a0) <| if (zg S a0 6 : Int32) = 0 then (some (1, S)) else (some (0, S)))
theorem tX2_isOver (l : Launch) (D : va_G) (tc : Nat → ClassId) (b n : Nat) {S S' : zM} {a0 : Int32} {a1 : Int32} {a2 : Int32} {r : Int32} (h : fX2_isOver n S a0 a1 a2 = some (r, S')) : zMi l D tc b n yX2_isOver cX2_isOver 3 .boolean 0 [zr a0, zr a1, zi a2] S S' r := by
  refine zMi_of zyX2_isOver (Nat.le_of_ble_eq_true rfl) (fun p e s m args below meth c H C hr hk ls hl I => ?_)
  have hl : zL b ls 3 [(0, zr a0), (1, zr a1), (2, zi a2)] := hl
  rw [fX2_isOver] at h
  refine z_iload_n C hl 2 rfl dX2_isOver_0 rfl ?_
  refine z_aload_n C hl 1 rfl dX2_isOver_1 rfl ?_
  obtain ⟨g1, h⟩ := zd_some h
  refine z_get C I 6 1 zc6 g1 (by decide) zq_212 (v := zi (zg S a1 1)) rfl dX2_isOver_2 ?_
  refine z_iconst C (v := 2) dX2_isOver_5 (by decide) ?_
  refine z_iadd C dX2_isOver_6 ?_
  refine z_icmp_le C 21 dX2_isOver_7 (by decide) (fun c2 => ?_) (fun c2 => ?_)
  · have h := zit c2 h
    refine z_iconst C (v := 0) dX2_isOver_21 (by decide) ?_
    exact z_zret C I hr hk rfl h dX2_isOver_22
  · have h := zif c2 h
    refine z_aload_n C hl 0 rfl dX2_isOver_10 rfl ?_
    obtain ⟨g3, h⟩ := zd_some h
    refine z_get C I 2 6 zc2 g3 (by decide) zq_89 (v := zi (zg S a0 6)) rfl dX2_isOver_11 ?_
    refine z_if_ne C 21 dX2_isOver_14 (by decide) (fun c4 => ?_) (fun c4 => ?_)
    · have h := zif c4 h
      refine z_iconst C (v := 0) dX2_isOver_21 (by decide) ?_
      exact z_zret C I hr hk rfl h dX2_isOver_22
    · have h := zit c4 h
      refine z_iconst C (v := 1) dX2_isOver_17 (by decide) ?_
      refine z_goto C 22 dX2_isOver_18 (by decide) ?_
      exact z_zret C I hr hk rfl h dX2_isOver_22

def fX2_endTrial (n : Nat) (S : zM) (a0 : Int32) : Option (Int32 × zM) := zd (zo n 12 a0) <| zbd (zp S a0 6 0) fun S2 => zbd (zp S2 a0 7 0) fun S4 => some (0, S4)
theorem tX2_endTrial (l : Launch) (D : va_G) (tc : Nat → ClassId) (b n : Nat) {S S' : zM} {a0 : Int32} {r : Int32} (h : fX2_endTrial n S a0 = some (r, S')) : zMv l D tc b n yX2_endTrial cX2_endTrial 1 0 [zr a0] S S' := by
  refine zMv_of zyX2_endTrial (Nat.le_of_ble_eq_true rfl) (fun p e s m args below meth c H C hr hk ls hl I => ?_)
  have hl : zL b ls 1 [(0, zr a0)] := hl
  rw [fX2_endTrial] at h
  refine z_aload_n C hl 0 rfl dX2_endTrial_0 rfl ?_
  refine z_iconst C (v := 0) dX2_endTrial_1 (by decide) ?_
  obtain ⟨g1, h⟩ := zd_some h
  refine z_put C I 2 6 zc2 g1 (by decide) rfl zq_89 rfl (v := zi 0) rfl dX2_endTrial_2 (fun S2 e3 H locs I => ?_)
  have h := znb e3 h
  refine z_aload_n C hl 0 rfl dX2_endTrial_5 rfl ?_
  refine z_iconst C (v := 0) dX2_endTrial_6 (by decide) ?_
  refine z_put C I 2 7 zc2 g1 (by decide) rfl zq_90 rfl (v := zi 0) rfl dX2_endTrial_7 (fun S4 e5 H locs I => ?_)
  have h := znb e5 h
  exact z_vret C I hr hk h dX2_endTrial_10

def fX6_ailsOn (n : Nat) (S : zM) (a0 : Int32) (a1 : Int32) : Option (Int32 × zM) := zd (zo n 16 a0) <| if (((zg S a0 3) >>> (a1 &&& 31)) &&& 1 : Int32) = 0 then (some (0, S)) else (some (1, S))
theorem tX6_ailsOn (l : Launch) (D : va_G) (tc : Nat → ClassId) (b n : Nat) {S S' : zM} {a0 : Int32} {a1 : Int32} {r : Int32} (h : fX6_ailsOn n S a0 a1 = some (r, S')) : zMi l D tc b n yX6_ailsOn cX6_ailsOn 2 .boolean 0 [zr a0, zi a1] S S' r := by
  refine zMi_of zyX6_ailsOn (Nat.le_of_ble_eq_true rfl) (fun p e s m args below meth c H C hr hk ls hl I => ?_)
  have hl : zL b ls 2 [(0, zr a0), (1, zi a1)] := hl
  rw [fX6_ailsOn] at h
  refine z_aload_n C hl 0 rfl dX6_ailsOn_0 rfl ?_
  obtain ⟨g1, h⟩ := zd_some h
  refine z_get C I 6 3 zc6 g1 (by decide) zq_218 (v := zi (zg S a0 3)) rfl dX6_ailsOn_1 ?_
  refine z_iload_n C hl 1 rfl dX6_ailsOn_4 rfl ?_
  refine z_ishr C dX6_ailsOn_5 ?_
  refine z_iconst C (v := 1) dX6_ailsOn_6 (by decide) ?_
  refine z_iand C dX6_ailsOn_7 ?_
  refine z_if_eq C 15 dX6_ailsOn_8 (by decide) (fun c2 => ?_) (fun c2 => ?_)
  · have h := zit c2 h
    refine z_iconst C (v := 0) dX6_ailsOn_15 (by decide) ?_
    exact z_zret C I hr hk rfl h dX6_ailsOn_16
  · have h := zif c2 h
    refine z_iconst C (v := 1) dX6_ailsOn_11 (by decide) ?_
    refine z_goto C 16 dX6_ailsOn_12 (by decide) ?_
    exact z_zret C I hr hk rfl h dX6_ailsOn_16

def fX2_take (n : Nat) (S : zM) (a0 : Int32) (a1 : Int32) : Option (Int32 × zM) := zd (zo n 12 a0) <| zbd (zg S a0 3) fun v2 => zbd (zp S a0 3 (zg S a0 4)) fun S4 => zbd (zp S4 a0 4 v2) fun S6 => zbd (zp S6 a0 5 (1 - (zg S6 a0 5))) fun S8 => zd (zo n 16 a1) <| zbd (zp S8 a0 8 (if (zg S8 a0 8) < (zg S8 a1 2) then (zg S8 a1 2) else (zg S8 a0 8))) fun S11 => zca (fX2_endTrial n S11 a0) fun r13 S14 => some (0, S14)
theorem tX2_take (l : Launch) (D : va_G) (tc : Nat → ClassId) (b n : Nat) {S S' : zM} {a0 : Int32} {a1 : Int32} {r : Int32} (h : fX2_take n S a0 a1 = some (r, S')) : zMv l D tc b n yX2_take cX2_take 3 1 [zr a0, zr a1] S S' := by
  refine zMv_of zyX2_take (Nat.le_of_ble_eq_true rfl) (fun p e s m args below meth c H C hr hk ls hl I => ?_)
  have hl : zL b ls 3 [(0, zr a0), (1, zr a1)] := hl
  rw [fX2_take] at h
  refine z_aload_n C hl 0 rfl dX2_take_0 rfl ?_
  obtain ⟨g1, h⟩ := zd_some h
  refine z_get C I 2 3 zc2 g1 (by decide) zq_82 (v := zr (zg S a0 3)) rfl dX2_take_1 ?_
  refine z_astore_n C hl dX2_take_4 rfl (by decide) (fun v2 => [(2, zr v2), (0, zr a0), (1, zr a1)]) (fun _ => rfl) (fun v2 e3 ls hl => ?_)
  have h := znb e3 h
  refine z_aload_n C hl 1 rfl dX2_take_5 rfl ?_
  refine z_aload_n C hl 1 rfl dX2_take_6 rfl ?_
  refine z_get C I 2 4 zc2 g1 (by decide) zq_85 (v := zr (zg S a0 4)) rfl dX2_take_7 ?_
  refine z_put C I 2 3 zc2 g1 (by decide) rfl zq_82 rfl (v := zr (zg S a0 4)) rfl dX2_take_10 (fun S4 e5 H locs I => ?_)
  have h := znb e5 h
  refine z_aload_n C hl 1 rfl dX2_take_13 rfl ?_
  refine z_aload_n C hl 0 rfl dX2_take_14 rfl ?_
  refine z_put C I 2 4 zc2 g1 (by decide) rfl zq_85 rfl (v := zr v2) rfl dX2_take_15 (fun S6 e7 H locs I => ?_)
  have h := znb e7 h
  refine z_aload_n C hl 1 rfl dX2_take_18 rfl ?_
  refine z_iconst C (v := 1) dX2_take_19 (by decide) ?_
  refine z_aload_n C hl 1 rfl dX2_take_20 rfl ?_
  refine z_get C I 2 5 zc2 g1 (by decide) zq_87 (v := zi (zg S6 a0 5)) rfl dX2_take_21 ?_
  refine z_isub C dX2_take_24 ?_
  refine z_put C I 2 5 zc2 g1 (by decide) rfl zq_87 rfl (v := zi (1 - (zg S6 a0 5))) rfl dX2_take_25 (fun S8 e9 H locs I => ?_)
  have h := znb e9 h
  refine z_aload_n C hl 1 rfl dX2_take_28 rfl ?_
  refine z_aload_n C hl 1 rfl dX2_take_29 rfl ?_
  refine z_get C I 2 8 zc2 g1 (by decide) zq_92 (v := zi (zg S8 a0 8)) rfl dX2_take_30 ?_
  refine z_aload_n C hl 2 rfl dX2_take_33 rfl ?_
  obtain ⟨g10, h⟩ := zd_some h
  refine z_get C I 6 2 zc6 g10 (by decide) zq_216 (v := zi (zg S8 a1 2)) rfl dX2_take_34 ?_
  refine z_mmax C zq_437 zq_438 zq_11 zq_439 hl.1 (by decide) (Nat.le_of_ble_eq_true rfl) (by decide) dX2_take_37 ?_
  refine z_put C I 2 8 zc2 g1 (by decide) rfl zq_92 rfl (v := zi (if (zg S8 a0 8) < (zg S8 a1 2) then (zg S8 a1 2) else (zg S8 a0 8))) rfl dX2_take_40 (fun S11 e12 H locs I => ?_)
  have h := znb e12 h
  refine z_aload_n C hl 1 rfl dX2_take_43 rfl ?_
  obtain ⟨r13, S14, h15, h⟩ := zcs h
  refine z_callVv C I (tX2_endTrial l D tc b n h15) zyX2_endTrial zyvX2_endTrial zc2 g1 zq_428 (st := []) rfl rfl (by decide) (by decide) hl.1 (Nat.le_of_ble_eq_true rfl) dX2_take_44 (fun H locs I => ?_)
  exact z_vret C I hr hk h dX2_take_47

def fX2_start_41 (n : Nat) (S : zM) (x0 : Int32) : Option (Int32 × zM) := zd (zo n 12 x0) <| zca (fX2_endTrial n S x0) fun r2 S3 => some (0, S3)
theorem bX2_start_41 {p : Program} {l : Launch} {e : Env} {s : State} {m : MethodId} {args : Array Value} {below : List Frame} {meth : Method} {c : Code} {D : va_G} {tc : Nat → ClassId} {b n : Nat} {S' : zM} {r : Int32} (C : zC p m c cX2_start 2 s args yX2_start.cls D tc) (hr : meth.sig.returnType = none) (hk : meth.locks = false) : ∀ (S : zM) (x0 : Int32) (H : Heap) (locs : List Loc) (ls : Array Slot), fX2_start_41 n S x0 = some (r, S') → zI D tc b n S s H locs → zL b ls 2 [(0, zr x0)] → W p l e (zR 2) s m args below meth c H locs 0 0 (zQv D tc b n S' below args s) (zG b m 41 ls []) := by
  intro S x0 H locs ls h I hl
  rw [fX2_start_41] at h
  refine z_aload_n C hl 0 rfl dX2_start_41 rfl ?_
  obtain ⟨g1, h⟩ := zd_some h
  obtain ⟨r2, S3, h4, h⟩ := zcs h
  refine z_callVv C I (tX2_endTrial l D tc b n h4) zyX2_endTrial zyvX2_endTrial zc2 g1 zq_428 (st := []) rfl rfl (by decide) (by decide) hl.1 (Nat.le_of_ble_eq_true rfl) dX2_start_42 (fun H locs I => ?_)
  exact z_vret C I hr hk h dX2_start_45

def fX2_start (n : Nat) (S : zM) (a0 : Int32) : Option (Int32 × zM) := zd (zo n 12 a0) <| if (zg S a0 6 : Int32) = 0 then (some (0, S)) else (zd (zo n 14 (zg S a0 4)) <| zbd (zg S (zg S a0 4) 0) fun v4 => if (v4 : Int32) < 0 then (fX2_start_41 n S a0) else (if (zg S a0 7 : Int32) = 0 then (fX2_start_41 n S a0) else (zca (fX4_isWholeNotBelow n S (zg S a0 4) (zg S a0 8)) fun r8 S9 => if (r8 : Int32) = 0 then (fX2_start_41 n S9 a0) else (zbd (zp S9 a0 7 ((zg S9 a0 7) - 1)) fun S12 => zd (zo n 16 v4) <| zca (fX6_ailsOn n S12 v4 (zg S12 a0 1)) fun r15 S16 => if (r15 : Int32) = 0 then (zca (fX2_take n S16 a0 v4) fun r19 S20 => some (0, S20)) else (some (0, S16))))))
theorem tX2_start (l : Launch) (D : va_G) (tc : Nat → ClassId) (b n : Nat) {S S' : zM} {a0 : Int32} {r : Int32} (h : fX2_start n S a0 = some (r, S')) : zMv l D tc b n yX2_start cX2_start 2 2 [zr a0] S S' := by
  refine zMv_of zyX2_start (Nat.le_of_ble_eq_true rfl) (fun p e s m args below meth c H C hr hk ls hl I => ?_)
  have hl : zL b ls 2 [(0, zr a0)] := hl
  rw [fX2_start] at h
  refine z_aload_n C hl 0 rfl dX2_start_0 rfl ?_
  obtain ⟨g1, h⟩ := zd_some h
  refine z_get C I 2 6 zc2 g1 (by decide) zq_89 (v := zi (zg S a0 6)) rfl dX2_start_1 ?_
  refine z_if_ne C 8 dX2_start_4 (by decide) (fun c2 => ?_) (fun c2 => ?_)
  · have h := zif c2 h
    refine z_aload_n C hl 0 rfl dX2_start_8 rfl ?_
    refine z_get C I 2 4 zc2 g1 (by decide) zq_85 (v := zr (zg S a0 4)) rfl dX2_start_9 ?_
    obtain ⟨g3, h⟩ := zd_some h
    refine z_get C I 4 0 zc4 g3 (by decide) zq_66 (v := zr (zg S (zg S a0 4) 0)) rfl dX2_start_12 ?_
    refine z_astore_n C hl dX2_start_15 rfl (by decide) (fun v4 => [(1, zr v4), (0, zr a0)]) (fun _ => rfl) (fun v4 e5 ls hl => ?_)
    have h := znb e5 h
    refine z_aload_n C hl 0 rfl dX2_start_16 rfl ?_
    refine z_ifnull C 41 dX2_start_17 (by decide) (fun c6 => ?_) (fun c6 => ?_)
    · have h := zit c6 h
      exact bX2_start_41 C hr hk _ _ _ _ _ h I (zL_sub hl [1] rfl)
    · have h := zif c6 h
      refine z_aload_n C hl 1 rfl dX2_start_20 rfl ?_
      refine z_get C I 2 7 zc2 g1 (by decide) zq_90 (v := zi (zg S a0 7)) rfl dX2_start_21 ?_
      refine z_if_eq C 41 dX2_start_24 (by decide) (fun c7 => ?_) (fun c7 => ?_)
      · have h := zit c7 h
        exact bX2_start_41 C hr hk _ _ _ _ _ h I (zL_sub hl [1] rfl)
      · have h := zif c7 h
        refine z_aload_n C hl 1 rfl dX2_start_27 rfl ?_
        refine z_get C I 2 4 zc2 g1 (by decide) zq_85 (v := zr (zg S a0 4)) rfl dX2_start_28 ?_
        refine z_aload_n C hl 1 rfl dX2_start_31 rfl ?_
        refine z_get C I 2 8 zc2 g1 (by decide) zq_92 (v := zi (zg S a0 8)) rfl dX2_start_32 ?_
        obtain ⟨r8, S9, h10, h⟩ := zcs h
        refine z_callVi C I (tX4_isWholeNotBelow l D tc b n h10) zyX4_isWholeNotBelow zyvX4_isWholeNotBelow zc4 g3 zq_397 (st := []) rfl rfl (by decide) (by decide) hl.1 (Nat.le_of_ble_eq_true rfl) dX2_start_35 (fun H locs I => ?_)
        refine z_if_ne C 46 dX2_start_38 (by decide) (fun c11 => ?_) (fun c11 => ?_)
        · have h := zif c11 h
          refine z_aload_n C hl 1 rfl dX2_start_46 rfl ?_
          refine z_dup C dX2_start_47 rfl ?_
          refine z_get C I 2 7 zc2 g1 (by decide) zq_90 (v := zi (zg S9 a0 7)) rfl dX2_start_48 ?_
          refine z_iconst C (v := 1) dX2_start_51 (by decide) ?_
          refine z_isub C dX2_start_52 ?_
          refine z_put C I 2 7 zc2 g1 (by decide) rfl zq_90 rfl (v := zi ((zg S9 a0 7) - 1)) rfl dX2_start_53 (fun S12 e13 H locs I => ?_)
          have h := znb e13 h
          refine z_aload_n C hl 0 rfl dX2_start_56 rfl ?_
          refine z_aload_n C hl 1 rfl dX2_start_57 rfl ?_
          refine z_get C I 2 1 zc2 g1 (by decide) zq_77 (v := zi (zg S12 a0 1)) rfl dX2_start_58 ?_
          obtain ⟨g14, h⟩ := zd_some h
          obtain ⟨r15, S16, h17, h⟩ := zcs h
          refine z_callVi C I (tX6_ailsOn l D tc b n h17) zyX6_ailsOn zyvX6_ailsOn zc6 g14 zq_432 (st := []) rfl rfl (by decide) (by decide) hl.1 (Nat.le_of_ble_eq_true rfl) dX2_start_61 (fun H locs I => ?_)
          refine z_if_ne C 72 dX2_start_64 (by decide) (fun c18 => ?_) (fun c18 => ?_)
          · have h := zif c18 h
            exact z_vret C I hr hk h dX2_start_72
          · have h := zit c18 h
            refine z_aload_n C hl 1 rfl dX2_start_67 rfl ?_
            refine z_aload_n C hl 0 rfl dX2_start_68 rfl ?_
            obtain ⟨r19, S20, h21, h⟩ := zcs h
            refine z_callVv C I (tX2_take l D tc b n h21) zyX2_take zyvX2_take zc2 g1 zq_433 (st := []) rfl rfl (by decide) (by decide) hl.1 (Nat.le_of_ble_eq_true rfl) dX2_start_69 (fun H locs I => ?_)
            exact z_vret C I hr hk h dX2_start_72
        · have h := zit c11 h
          exact bX2_start_41 C hr hk _ _ _ _ _ h I (zL_sub hl [1] rfl)
  · have h := zit c2 h
    exact z_vret C I hr hk h dX2_start_7

