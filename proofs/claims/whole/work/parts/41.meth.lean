def fX8_path (n : Nat) (S : zM) (a0 : Int32) (a1 : Int32) (a2 : Int32) (a3 : Int32) : Option (Int32 × zM) := zd (zo n 18 a0) <| zbd (zp S a0 0 0) fun S2 => zca (fX8_areSteps n S2 a0 a1 a2) fun r4 S5 => if (r4 : Int32) = 0 then (some ((-1000001), S5)) else (zca (fX8_in n S5 ((a3 : Int32).toInt64) 0 1) fun r8 S9 => if (r8 : Int32) = 0 then (some ((-1000001), S9)) else (zca (fX8_findWays n S9 a0 a2) fun r12 S13 => zd (za n 0 (zg S13 a0 10) a1) <| if (ze S13 (zg S13 a0 10) a1 : Int32) = ((-1000000) : Int32) then (some ((-1000000), S13)) else (if (a3 : Int32) = 0 then (some (ze S13 (zg S13 a0 10) a1, S13)) else (zd (za n 0 (zg S13 a0 11) a1) <| some (ze S13 (zg S13 a0 11) a1, S13)))))
theorem tX8_path (l : Launch) (D : va_G) (tc : Nat → ClassId) (b n : Nat) {S S' : zM} {a0 : Int32} {a1 : Int32} {a2 : Int32} {a3 : Int32} {r : Int32} (h : fX8_path n S a0 a1 a2 a3 = some (r, S')) : zMi l D tc b n yX8_path cX8_path 4 .int 3 [zr a0, zi a1, zi a2, zi a3] S S' r := by
  refine zMi_of zyX8_path (Nat.le_of_ble_eq_true rfl) (fun p e s m args below meth c H C hr hk ls hl I => ?_)
  have hl : zL b ls 4 [(0, zr a0), (1, zi a1), (2, zi a2), (3, zi a3)] := hl
  rw [fX8_path] at h
  refine z_aload_n C hl 0 rfl dX8_path_0 rfl ?_
  refine z_iconst C (v := 0) dX8_path_1 (by decide) ?_
  obtain ⟨g1, h⟩ := zd_some h
  refine z_put C I 8 0 zc8 g1 (by decide) rfl zq_656 rfl (v := zi 0) rfl dX8_path_2 (fun S2 e3 H locs I => ?_)
  have h := znb e3 h
  refine z_aload_n C hl 0 rfl dX8_path_5 rfl ?_
  refine z_iload_n C hl 1 rfl dX8_path_6 rfl ?_
  refine z_iload_n C hl 2 rfl dX8_path_7 rfl ?_
  obtain ⟨r4, S5, h6, h⟩ := zcs h
  refine z_callVi C I (tX8_areSteps l D tc b n h6) zyX8_areSteps zyvX8_areSteps zc8 g1 zq_812 (st := []) rfl rfl (by decide) (by decide) hl.1 (Nat.le_of_ble_eq_true rfl) dX8_path_8 (fun H locs I => ?_)
  refine z_if_eq C 24 dX8_path_11 (by decide) (fun c7 => ?_) (fun c7 => ?_)
  · have h := zit c7 h
    refine z_ldc C zq_783 dX8_path_24 ?_
    exact z_iret C I hr hk h dX8_path_26
  · have h := zif c7 h
    refine z_iload_n C hl 3 rfl dX8_path_14 rfl ?_
    refine z_i2l C dX8_path_15 ?_
    refine z_lconst C (v := 0) dX8_path_16 (by decide) ?_
    refine z_lconst C (v := 1) dX8_path_17 (by decide) ?_
    obtain ⟨r8, S9, h10, h⟩ := zcs h
    refine z_callSi C I (tX8_in l D tc b n h10) zyX8_in zq_780 zq_779 (st := []) rfl rfl (by decide) (by decide) hl.1 (Nat.le_of_ble_eq_true rfl) dX8_path_18 (fun H locs I => ?_)
    refine z_if_ne C 27 dX8_path_21 (by decide) (fun c11 => ?_) (fun c11 => ?_)
    · have h := zif c11 h
      refine z_aload_n C hl 0 rfl dX8_path_27 rfl ?_
      refine z_iload_n C hl 2 rfl dX8_path_28 rfl ?_
      obtain ⟨r12, S13, h14, h⟩ := zcs h
      refine z_callVv C I (tX8_findWays l D tc b n h14) zyX8_findWays zyvX8_findWays zc8 g1 zq_825 (st := []) rfl rfl (by decide) (by decide) hl.1 (Nat.le_of_ble_eq_true rfl) dX8_path_29 (fun H locs I => ?_)
      refine z_aload_n C hl 0 rfl dX8_path_32 rfl ?_
      refine z_get C I 8 10 zc8 g1 (by decide) zq_666 (v := zr (zg S13 a0 10)) rfl dX8_path_33 ?_
      refine z_iload_n C hl 1 rfl dX8_path_36 rfl ?_
      obtain ⟨g15, h⟩ := zd_some h
      refine z_iald C I g15 dX8_path_37 ?_
      refine z_ldc C zq_829 dX8_path_38 ?_
      refine z_icmp_ne C 48 dX8_path_40 (by decide) (fun c16 => ?_) (fun c16 => ?_)
      · have h := zif c16 h
        refine z_iload_n C hl 3 rfl dX8_path_48 rfl ?_
        refine z_if_ne C 61 dX8_path_49 (by decide) (fun c17 => ?_) (fun c17 => ?_)
        · have h := zif c17 h
          refine z_aload_n C hl 0 rfl dX8_path_61 rfl ?_
          refine z_get C I 8 11 zc8 g1 (by decide) zq_667 (v := zr (zg S13 a0 11)) rfl dX8_path_62 ?_
          refine z_iload_n C hl 1 rfl dX8_path_65 rfl ?_
          obtain ⟨g18, h⟩ := zd_some h
          refine z_iald C I g18 dX8_path_66 ?_
          exact z_iret C I hr hk h dX8_path_67
        · have h := zit c17 h
          refine z_aload_n C hl 0 rfl dX8_path_52 rfl ?_
          refine z_get C I 8 10 zc8 g1 (by decide) zq_666 (v := zr (zg S13 a0 10)) rfl dX8_path_53 ?_
          refine z_iload_n C hl 1 rfl dX8_path_56 rfl ?_
          refine z_iald C I g15 dX8_path_57 ?_
          refine z_goto C 67 dX8_path_58 (by decide) ?_
          exact z_iret C I hr hk h dX8_path_67
      · have h := zit c16 h
        refine z_ldc C zq_829 dX8_path_43 ?_
        refine z_goto C 67 dX8_path_45 (by decide) ?_
        exact z_iret C I hr hk h dX8_path_67
    · have h := zit c11 h
      refine z_ldc C zq_783 dX8_path_24 ?_
      exact z_iret C I hr hk h dX8_path_26

def fX8_on_58 (n : Nat) : Nat → zM → Int32 → Int32 → Int32 → Int32 → Option (Int32 × zM)
  | 0, _, _, _, _, _ => none
  | fu + 1, S, x0, x3, x4, x5 => if (x3 : Int32) ≤ (x5 : Int32) then (some (x4, S)) else (zd (zo n 18 x0) <| zd (za n 0 (zg S x0 12) x4) <| zbd (ze S (zg S x0 12) x4) fun v4 => zbd (x5 + 1) fun v6 => fX8_on_58 n fu S x0 x3 v4 v6)
theorem bX8_on_58 {p : Program} {l : Launch} {e : Env} {s : State} {m : MethodId} {args : Array Value} {below : List Frame} {meth : Method} {c : Code} {D : va_G} {tc : Nat → ClassId} {b n : Nat} {S' : zM} {r : Int32} (C : zC p m c cX8_on 6 s args yX8_on.cls D tc) (hr : meth.sig.returnType = some .int) (hk : meth.locks = false) : ∀ (fu : Nat) (S : zM) (x0 : Int32) (x3 : Int32) (x4 : Int32) (x5 : Int32) (H : Heap) (locs : List Loc) (ls : Array Slot), fX8_on_58 n fu S x0 x3 x4 x5 = some (r, S') → zI D tc b n S s H locs → zL b ls 6 [(0, zr x0), (3, zi x3), (4, zi x4), (5, zi x5)] → W p l e (zR 3) s m args below meth c H locs 0 0 (zQi D tc b n S' r below args s) (zG b m 58 ls []) := by
  intro fu
  induction fu with
  | zero => intro S x0 x3 x4 x5 H locs ls h _ _; rw [fX8_on_58] at h; cases h
  | succ fu ih =>
    intro S x0 x3 x4 x5 H locs ls h I hl
    rw [fX8_on_58] at h
    refine z_iload C hl 3 rfl dX8_on_58 ?_
    refine z_iload_n C hl 1 rfl dX8_on_60 rfl ?_
    refine z_icmp_ge C 79 dX8_on_61 (by decide) (fun c1 => ?_) (fun c1 => ?_)
    · have h := zit c1 h
      refine z_iload C hl 2 rfl dX8_on_79 ?_
      exact z_iret C I hr hk h dX8_on_81
    · have h := zif c1 h
      refine z_aload_n C hl 0 rfl dX8_on_64 rfl ?_
      obtain ⟨g2, h⟩ := zd_some h
      refine z_get C I 8 12 zc8 g2 (by decide) zq_668 (v := zr (zg S x0 12)) rfl dX8_on_65 ?_
      refine z_iload C hl 2 rfl dX8_on_68 ?_
      obtain ⟨g3, h⟩ := zd_some h
      refine z_iald C I g3 dX8_on_70 ?_
      refine z_istore C hl dX8_on_71 (by decide) (fun v4 => [(4, zi v4), (0, zr x0), (3, zi x3), (5, zi x5)]) (fun _ => rfl) (fun v4 e5 ls hl => ?_)
      have h := znb e5 h
      refine z_iinc C hl 3 (v := x5 + 1) rfl dX8_on_73 rfl (by decide) (fun v6 => [(5, zi v6), (4, zi v4), (0, zr x0), (3, zi x3)]) (fun _ => rfl) (fun v6 e7 ls hl => ?_)
      have h := znb e7 h
      refine z_goto C 58 dX8_on_76 (by decide) ?_
      exact ih _ _ _ _ _ _ _ _ h I (zL_sub hl [2, 3, 1, 0] rfl)

def fX8_on (n : Nat) (S : zM) (a0 : Int32) (a1 : Int32) (a2 : Int32) (a3 : Int32) : Option (Int32 × zM) := zd (zo n 18 a0) <| zbd (zp S a0 0 0) fun S2 => zca (fX8_areSteps n S2 a0 a1 a2) fun r4 S5 => if (r4 : Int32) = 0 then (some ((-1000001), S5)) else (zca (fX8_findWays n S5 a0 a2) fun r8 S9 => zd (za n 0 (zg S9 a0 10) a1) <| if (ze S9 (zg S9 a0 10) a1 : Int32) = ((-1000000) : Int32) then (some ((-1000000), S9)) else (zd (za n 0 (zg S9 a0 11) a1) <| zca (fX8_in n S9 ((a3 : Int32).toInt64) 0 ((ze S9 (zg S9 a0 11) a1 : Int32).toInt64)) fun r14 S15 => if (r14 : Int32) = 0 then (some ((-1000000), S15)) else (zbd (a1) fun v18 => zbd (0) fun v20 => fX8_on_58 n 1000 S15 a0 a3 v18 v20)))
theorem tX8_on (l : Launch) (D : va_G) (tc : Nat → ClassId) (b n : Nat) {S S' : zM} {a0 : Int32} {a1 : Int32} {a2 : Int32} {a3 : Int32} {r : Int32} (h : fX8_on n S a0 a1 a2 a3 = some (r, S')) : zMi l D tc b n yX8_on cX8_on 6 .int 3 [zr a0, zi a1, zi a2, zi a3] S S' r := by
  refine zMi_of zyX8_on (Nat.le_of_ble_eq_true rfl) (fun p e s m args below meth c H C hr hk ls hl I => ?_)
  have hl : zL b ls 6 [(0, zr a0), (1, zi a1), (2, zi a2), (3, zi a3)] := hl
  rw [fX8_on] at h
  refine z_aload_n C hl 0 rfl dX8_on_0 rfl ?_
  refine z_iconst C (v := 0) dX8_on_1 (by decide) ?_
  obtain ⟨g1, h⟩ := zd_some h
  refine z_put C I 8 0 zc8 g1 (by decide) rfl zq_656 rfl (v := zi 0) rfl dX8_on_2 (fun S2 e3 H locs I => ?_)
  have h := znb e3 h
  refine z_aload_n C hl 0 rfl dX8_on_5 rfl ?_
  refine z_iload_n C hl 1 rfl dX8_on_6 rfl ?_
  refine z_iload_n C hl 2 rfl dX8_on_7 rfl ?_
  obtain ⟨r4, S5, h6, h⟩ := zcs h
  refine z_callVi C I (tX8_areSteps l D tc b n h6) zyX8_areSteps zyvX8_areSteps zc8 g1 zq_812 (st := []) rfl rfl (by decide) (by decide) hl.1 (Nat.le_of_ble_eq_true rfl) dX8_on_8 (fun H locs I => ?_)
  refine z_if_ne C 17 dX8_on_11 (by decide) (fun c7 => ?_) (fun c7 => ?_)
  · have h := zif c7 h
    refine z_aload_n C hl 0 rfl dX8_on_17 rfl ?_
    refine z_iload_n C hl 2 rfl dX8_on_18 rfl ?_
    obtain ⟨r8, S9, h10, h⟩ := zcs h
    refine z_callVv C I (tX8_findWays l D tc b n h10) zyX8_findWays zyvX8_findWays zc8 g1 zq_825 (st := []) rfl rfl (by decide) (by decide) hl.1 (Nat.le_of_ble_eq_true rfl) dX8_on_19 (fun H locs I => ?_)
    refine z_aload_n C hl 0 rfl dX8_on_22 rfl ?_
    refine z_get C I 8 10 zc8 g1 (by decide) zq_666 (v := zr (zg S9 a0 10)) rfl dX8_on_23 ?_
    refine z_iload_n C hl 1 rfl dX8_on_26 rfl ?_
    obtain ⟨g11, h⟩ := zd_some h
    refine z_iald C I g11 dX8_on_27 ?_
    refine z_ldc C zq_829 dX8_on_28 ?_
    refine z_icmp_eq C 49 dX8_on_30 (by decide) (fun c12 => ?_) (fun c12 => ?_)
    · have h := zit c12 h
      refine z_ldc C zq_829 dX8_on_49 ?_
      exact z_iret C I hr hk h dX8_on_51
    · have h := zif c12 h
      refine z_iload_n C hl 3 rfl dX8_on_33 rfl ?_
      refine z_i2l C dX8_on_34 ?_
      refine z_lconst C (v := 0) dX8_on_35 (by decide) ?_
      refine z_aload_n C hl 0 rfl dX8_on_36 rfl ?_
      refine z_get C I 8 11 zc8 g1 (by decide) zq_667 (v := zr (zg S9 a0 11)) rfl dX8_on_37 ?_
      refine z_iload_n C hl 1 rfl dX8_on_40 rfl ?_
      obtain ⟨g13, h⟩ := zd_some h
      refine z_iald C I g13 dX8_on_41 ?_
      refine z_i2l C dX8_on_42 ?_
      obtain ⟨r14, S15, h16, h⟩ := zcs h
      refine z_callSi C I (tX8_in l D tc b n h16) zyX8_in zq_780 zq_779 (st := []) rfl rfl (by decide) (by decide) hl.1 (Nat.le_of_ble_eq_true rfl) dX8_on_43 (fun H locs I => ?_)
      refine z_if_ne C 52 dX8_on_46 (by decide) (fun c17 => ?_) (fun c17 => ?_)
      · have h := zif c17 h
        refine z_iload_n C hl 1 rfl dX8_on_52 rfl ?_
        refine z_istore C hl dX8_on_53 (by decide) (fun v18 => [(4, zi v18), (0, zr a0), (1, zi a1), (2, zi a2), (3, zi a3)]) (fun _ => rfl) (fun v18 e19 ls hl => ?_)
        have h := znb e19 h
        refine z_iconst C (v := 0) dX8_on_55 (by decide) ?_
        refine z_istore C hl dX8_on_56 (by decide) (fun v20 => [(5, zi v20), (4, zi v18), (0, zr a0), (1, zi a1), (2, zi a2), (3, zi a3)]) (fun _ => rfl) (fun v20 e21 ls hl => ?_)
        have h := znb e21 h
        exact bX8_on_58 C hr hk 1000 _ _ _ _ _ _ _ _ h I (zL_sub hl [2, 5, 1, 0] rfl)
      · have h := zit c17 h
        refine z_ldc C zq_829 dX8_on_49 ?_
        exact z_iret C I hr hk h dX8_on_51
  · have h := zit c7 h
    refine z_ldc C zq_783 dX8_on_14 ?_
    exact z_iret C I hr hk h dX8_on_16

def fX8_isDevice (n : Nat) (S : zM) (a0 : Int32) (a1 : Int32) : Option (Int32 × zM) := zd (zo n 18 a0) <| zca (fX8_in n S ((a1 : Int32).toInt64) 0 (((zg S a0 13) - 1 : Int32).toInt64)) fun r2 S3 => zd (zbit r2) <| some (r2, S3)
theorem tX8_isDevice (l : Launch) (D : va_G) (tc : Nat → ClassId) (b n : Nat) {S S' : zM} {a0 : Int32} {a1 : Int32} {r : Int32} (h : fX8_isDevice n S a0 a1 = some (r, S')) : zMi l D tc b n yX8_isDevice cX8_isDevice 2 .boolean 1 [zr a0, zi a1] S S' r := by
  refine zMi_of zyX8_isDevice (Nat.le_of_ble_eq_true rfl) (fun p e s m args below meth c H C hr hk ls hl I => ?_)
  have hl : zL b ls 2 [(0, zr a0), (1, zi a1)] := hl
  rw [fX8_isDevice] at h
  refine z_iload_n C hl 1 rfl dX8_isDevice_0 rfl ?_
  refine z_i2l C dX8_isDevice_1 ?_
  refine z_lconst C (v := 0) dX8_isDevice_2 (by decide) ?_
  refine z_aload_n C hl 0 rfl dX8_isDevice_3 rfl ?_
  obtain ⟨g1, h⟩ := zd_some h
  refine z_get C I 8 13 zc8 g1 (by decide) zq_669 (v := zi (zg S a0 13)) rfl dX8_isDevice_4 ?_
  refine z_iconst C (v := 1) dX8_isDevice_7 (by decide) ?_
  refine z_isub C dX8_isDevice_8 ?_
  refine z_i2l C dX8_isDevice_9 ?_
  obtain ⟨r2, S3, h4, h⟩ := zcs h
  refine z_callSi C I (tX8_in l D tc b n h4) zyX8_in zq_780 zq_779 (st := []) rfl rfl (by decide) (by decide) hl.1 (Nat.le_of_ble_eq_true rfl) dX8_isDevice_10 (fun H locs I => ?_)
  obtain ⟨g5, h⟩ := zd_some h
  exact z_zret C I hr hk g5 h dX8_isDevice_13

def fX8_isAiling (n : Nat) (S : zM) (a0 : Int32) (a1 : Int32) (a2 : Int32) : Option (Int32 × zM) := zd (zo n 18 a0) <| zd (za n 0 (zg S a0 8) a1) <| if (((ze S (zg S a0 8) a1) >>> (a2 &&& 31)) &&& 1 : Int32) = (1 : Int32) then (some (1, S)) else (some (0, S))
theorem tX8_isAiling (l : Launch) (D : va_G) (tc : Nat → ClassId) (b n : Nat) {S S' : zM} {a0 : Int32} {a1 : Int32} {a2 : Int32} {r : Int32} (h : fX8_isAiling n S a0 a1 a2 = some (r, S')) : zMi l D tc b n yX8_isAiling cX8_isAiling 3 .boolean 0 [zr a0, zi a1, zi a2] S S' r := by
  refine zMi_of zyX8_isAiling (Nat.le_of_ble_eq_true rfl) (fun p e s m args below meth c H C hr hk ls hl I => ?_)
  have hl : zL b ls 3 [(0, zr a0), (1, zi a1), (2, zi a2)] := hl
  rw [fX8_isAiling] at h
  refine z_aload_n C hl 0 rfl dX8_isAiling_0 rfl ?_
  obtain ⟨g1, h⟩ := zd_some h
  refine z_get C I 8 8 zc8 g1 (by decide) zq_664 (v := zr (zg S a0 8)) rfl dX8_isAiling_1 ?_
  refine z_iload_n C hl 1 rfl dX8_isAiling_4 rfl ?_
  obtain ⟨g2, h⟩ := zd_some h
  refine z_iald C I g2 dX8_isAiling_5 ?_
  refine z_iload_n C hl 2 rfl dX8_isAiling_6 rfl ?_
  refine z_ishr C dX8_isAiling_7 ?_
  refine z_iconst C (v := 1) dX8_isAiling_8 (by decide) ?_
  refine z_iand C dX8_isAiling_9 ?_
  refine z_iconst C (v := 1) dX8_isAiling_10 (by decide) ?_
  refine z_icmp_ne C 18 dX8_isAiling_11 (by decide) (fun c3 => ?_) (fun c3 => ?_)
  · have h := zif c3 h
    refine z_iconst C (v := 0) dX8_isAiling_18 (by decide) ?_
    exact z_zret C I hr hk rfl h dX8_isAiling_19
  · have h := zit c3 h
    refine z_iconst C (v := 1) dX8_isAiling_14 (by decide) ?_
    refine z_goto C 19 dX8_isAiling_15 (by decide) ?_
    exact z_zret C I hr hk rfl h dX8_isAiling_19

def fX8_device_42 (n : Nat) (S : zM) (x0 : Int32) (x1 : Int32) (x2 : Int32) (x3 : Int32) : Option (Int32 × zM) := zd (zo n 18 x0) <| zca (fX8_isAiling n S x0 x2 x1) fun r2 S3 => if (r2 : Int32) = 0 then (if (zg S3 x0 13 : Int32) = (30 : Int32) then (some ((-1000003), S3)) else (zbd (zg S3 x0 13) fun v7 => zd (za n 0 (zg S3 x0 14) v7) <| zbd (zq S3 (zg S3 x0 14) v7 x1) fun S10 => zd (za n 0 (zg S10 x0 15) v7) <| zbd (zq S10 (zg S10 x0 15) v7 x3) fun S13 => zd (za n 0 (zg S13 x0 16) v7) <| zbd (zq S13 (zg S13 x0 16) v7 0) fun S16 => zd (za n 0 (zg S16 x0 17) (2 * v7)) <| zbd (zq S16 (zg S16 x0 17) (2 * v7) x2) fun S19 => zd (za n 0 (zg S19 x0 6) x2) <| zd (za n 0 (zg S19 x0 18) (2 * v7)) <| zbd (zq S19 (zg S19 x0 18) (2 * v7) (ze S19 (zg S19 x0 6) x2)) fun S23 => zd (za n 0 (zg S23 x0 17) ((2 * v7) + 1)) <| zbd (zq S23 (zg S23 x0 17) ((2 * v7) + 1) (-1000000)) fun S26 => zd (za n 0 (zg S26 x0 18) ((2 * v7) + 1)) <| zbd (zq S26 (zg S26 x0 18) ((2 * v7) + 1) 0) fun S29 => zd (za n 0 (zg S29 x0 7) x2) <| zd (za n 0 (zg S29 x0 21) v7) <| zbd (zq S29 (zg S29 x0 21) v7 (ze S29 (zg S29 x0 7) x2)) fun S33 => zbd (zp S33 x0 13 ((zg S33 x0 13) + 1)) fun S35 => some (v7, S35))) else (some ((-1000002), S3))
theorem bX8_device_42 {p : Program} {l : Launch} {e : Env} {s : State} {m : MethodId} {args : Array Value} {below : List Frame} {meth : Method} {c : Code} {D : va_G} {tc : Nat → ClassId} {b n : Nat} {S' : zM} {r : Int32} (C : zC p m c cX8_device 5 s args yX8_device.cls D tc) (hr : meth.sig.returnType = some .int) (hk : meth.locks = false) : ∀ (S : zM) (x0 : Int32) (x1 : Int32) (x2 : Int32) (x3 : Int32) (H : Heap) (locs : List Loc) (ls : Array Slot), fX8_device_42 n S x0 x1 x2 x3 = some (r, S') → zI D tc b n S s H locs → zL b ls 5 [(0, zr x0), (1, zi x1), (2, zi x2), (3, zi x3)] → W p l e (zR 2) s m args below meth c H locs 0 0 (zQi D tc b n S' r below args s) (zG b m 42 ls []) := by
  intro S x0 x1 x2 x3 H locs ls h I hl
  rw [fX8_device_42] at h
  refine z_aload_n C hl 0 rfl dX8_device_42 rfl ?_
  refine z_iload_n C hl 2 rfl dX8_device_43 rfl ?_
  refine z_iload_n C hl 1 rfl dX8_device_44 rfl ?_
  obtain ⟨g1, h⟩ := zd_some h
  obtain ⟨r2, S3, h4, h⟩ := zcs h
  refine z_callVi C I (tX8_isAiling l D tc b n h4) zyX8_isAiling zyvX8_isAiling zc8 g1 zq_842 (st := []) rfl rfl (by decide) (by decide) hl.1 (Nat.le_of_ble_eq_true rfl) dX8_device_45 (fun H locs I => ?_)
  refine z_if_eq C 54 dX8_device_48 (by decide) (fun c5 => ?_) (fun c5 => ?_)
  · have h := zit c5 h
    refine z_aload_n C hl 0 rfl dX8_device_54 rfl ?_
    refine z_get C I 8 13 zc8 g1 (by decide) zq_669 (v := zi (zg S3 x0 13)) rfl dX8_device_55 ?_
    refine z_bipush C (v := 30) dX8_device_58 (by decide) ?_
    refine z_icmp_ne C 66 dX8_device_60 (by decide) (fun c6 => ?_) (fun c6 => ?_)
    · have h := zif c6 h
      refine z_aload_n C hl 0 rfl dX8_device_66 rfl ?_
      refine z_get C I 8 13 zc8 g1 (by decide) zq_669 (v := zi (zg S3 x0 13)) rfl dX8_device_67 ?_
      refine z_istore C hl dX8_device_70 (by decide) (fun v7 => [(4, zi v7), (0, zr x0), (1, zi x1), (2, zi x2), (3, zi x3)]) (fun _ => rfl) (fun v7 e8 ls hl => ?_)
      have h := znb e8 h
      refine z_aload_n C hl 1 rfl dX8_device_72 rfl ?_
      refine z_get C I 8 14 zc8 g1 (by decide) zq_670 (v := zr (zg S3 x0 14)) rfl dX8_device_73 ?_
      refine z_iload C hl 0 rfl dX8_device_76 ?_
      refine z_iload_n C hl 2 rfl dX8_device_78 rfl ?_
      obtain ⟨g9, h⟩ := zd_some h
      refine z_iast C I g9 dX8_device_79 (fun S10 e11 H locs I => ?_)
      have h := znb e11 h
      refine z_aload_n C hl 1 rfl dX8_device_80 rfl ?_
      refine z_get C I 8 15 zc8 g1 (by decide) zq_671 (v := zr (zg S10 x0 15)) rfl dX8_device_81 ?_
      refine z_iload C hl 0 rfl dX8_device_84 ?_
      refine z_iload_n C hl 4 rfl dX8_device_86 rfl ?_
      obtain ⟨g12, h⟩ := zd_some h
      refine z_iast C I g12 dX8_device_87 (fun S13 e14 H locs I => ?_)
      have h := znb e14 h
      refine z_aload_n C hl 1 rfl dX8_device_88 rfl ?_
      refine z_get C I 8 16 zc8 g1 (by decide) zq_672 (v := zr (zg S13 x0 16)) rfl dX8_device_89 ?_
      refine z_iload C hl 0 rfl dX8_device_92 ?_
      refine z_iconst C (v := 0) dX8_device_94 (by decide) ?_
      obtain ⟨g15, h⟩ := zd_some h
      refine z_iast C I g15 dX8_device_95 (fun S16 e17 H locs I => ?_)
      have h := znb e17 h
      refine z_aload_n C hl 1 rfl dX8_device_96 rfl ?_
      refine z_get C I 8 17 zc8 g1 (by decide) zq_673 (v := zr (zg S16 x0 17)) rfl dX8_device_97 ?_
      refine z_iconst C (v := 2) dX8_device_100 (by decide) ?_
      refine z_iload C hl 0 rfl dX8_device_101 ?_
      refine z_imul C dX8_device_103 ?_
      refine z_iload_n C hl 3 rfl dX8_device_104 rfl ?_
      obtain ⟨g18, h⟩ := zd_some h
      refine z_iast C I g18 dX8_device_105 (fun S19 e20 H locs I => ?_)
      have h := znb e20 h
      refine z_aload_n C hl 1 rfl dX8_device_106 rfl ?_
      refine z_get C I 8 18 zc8 g1 (by decide) zq_674 (v := zr (zg S19 x0 18)) rfl dX8_device_107 ?_
      refine z_iconst C (v := 2) dX8_device_110 (by decide) ?_
      refine z_iload C hl 0 rfl dX8_device_111 ?_
      refine z_imul C dX8_device_113 ?_
      refine z_aload_n C hl 1 rfl dX8_device_114 rfl ?_
      refine z_get C I 8 6 zc8 g1 (by decide) zq_662 (v := zr (zg S19 x0 6)) rfl dX8_device_115 ?_
      refine z_iload_n C hl 3 rfl dX8_device_118 rfl ?_
      obtain ⟨g21, h⟩ := zd_some h
      refine z_iald C I g21 dX8_device_119 ?_
      obtain ⟨g22, h⟩ := zd_some h
      refine z_iast C I g22 dX8_device_120 (fun S23 e24 H locs I => ?_)
      have h := znb e24 h
      refine z_aload_n C hl 1 rfl dX8_device_121 rfl ?_
      refine z_get C I 8 17 zc8 g1 (by decide) zq_673 (v := zr (zg S23 x0 17)) rfl dX8_device_122 ?_
      refine z_iconst C (v := 2) dX8_device_125 (by decide) ?_
      refine z_iload C hl 0 rfl dX8_device_126 ?_
      refine z_imul C dX8_device_128 ?_
      refine z_iconst C (v := 1) dX8_device_129 (by decide) ?_
      refine z_iadd C dX8_device_130 ?_
      refine z_ldc C zq_829 dX8_device_131 ?_
      obtain ⟨g25, h⟩ := zd_some h
      refine z_iast C I g25 dX8_device_133 (fun S26 e27 H locs I => ?_)
      have h := znb e27 h
      refine z_aload_n C hl 1 rfl dX8_device_134 rfl ?_
      refine z_get C I 8 18 zc8 g1 (by decide) zq_674 (v := zr (zg S26 x0 18)) rfl dX8_device_135 ?_
      refine z_iconst C (v := 2) dX8_device_138 (by decide) ?_
      refine z_iload C hl 0 rfl dX8_device_139 ?_
      refine z_imul C dX8_device_141 ?_
      refine z_iconst C (v := 1) dX8_device_142 (by decide) ?_
      refine z_iadd C dX8_device_143 ?_
      refine z_iconst C (v := 0) dX8_device_144 (by decide) ?_
      obtain ⟨g28, h⟩ := zd_some h
      refine z_iast C I g28 dX8_device_145 (fun S29 e30 H locs I => ?_)
      have h := znb e30 h
      refine z_aload_n C hl 1 rfl dX8_device_146 rfl ?_
      refine z_get C I 8 21 zc8 g1 (by decide) zq_677 (v := zr (zg S29 x0 21)) rfl dX8_device_147 ?_
      refine z_iload C hl 0 rfl dX8_device_150 ?_
      refine z_aload_n C hl 1 rfl dX8_device_152 rfl ?_
      refine z_get C I 8 7 zc8 g1 (by decide) zq_663 (v := zr (zg S29 x0 7)) rfl dX8_device_153 ?_
      refine z_iload_n C hl 3 rfl dX8_device_156 rfl ?_
      obtain ⟨g31, h⟩ := zd_some h
      refine z_iald C I g31 dX8_device_157 ?_
      obtain ⟨g32, h⟩ := zd_some h
      refine z_iast C I g32 dX8_device_158 (fun S33 e34 H locs I => ?_)
      have h := znb e34 h
      refine z_aload_n C hl 1 rfl dX8_device_159 rfl ?_
      refine z_dup C dX8_device_160 rfl ?_
      refine z_get C I 8 13 zc8 g1 (by decide) zq_669 (v := zi (zg S33 x0 13)) rfl dX8_device_161 ?_
      refine z_iconst C (v := 1) dX8_device_164 (by decide) ?_
      refine z_iadd C dX8_device_165 ?_
      refine z_put C I 8 13 zc8 g1 (by decide) rfl zq_669 rfl (v := zi ((zg S33 x0 13) + 1)) rfl dX8_device_166 (fun S35 e36 H locs I => ?_)
      have h := znb e36 h
      refine z_iload C hl 0 rfl dX8_device_169 ?_
      exact z_iret C I hr hk h dX8_device_171
    · have h := zit c6 h
      refine z_ldc C zq_807 dX8_device_63 ?_
      exact z_iret C I hr hk h dX8_device_65
  · have h := zif c5 h
    refine z_ldc C zq_846 dX8_device_51 ?_
    exact z_iret C I hr hk h dX8_device_53

def fX8_device (n : Nat) (S : zM) (a0 : Int32) (a1 : Int32) (a2 : Int32) (a3 : Int32) : Option (Int32 × zM) := zd (zo n 18 a0) <| zbd (zp S a0 0 0) fun S2 => zca (fX8_in n S2 ((a1 : Int32).toInt64) 0 7) fun r4 S5 => if (r4 : Int32) = 0 then (some ((-1000001), S5)) else (zca (fX8_isVersion n S5 a0 a2) fun r8 S9 => if (r8 : Int32) = 0 then (some ((-1000001), S9)) else (if (a3 : Int32) = ((-1000000) : Int32) then (fX8_device_42 n S9 a0 a1 a2 a3) else (zca (fX8_isDevice n S9 a0 a3) fun r13 S14 => if (r13 : Int32) = 0 then (some ((-1000001), S14)) else (fX8_device_42 n S14 a0 a1 a2 a3))))
theorem tX8_device (l : Launch) (D : va_G) (tc : Nat → ClassId) (b n : Nat) {S S' : zM} {a0 : Int32} {a1 : Int32} {a2 : Int32} {a3 : Int32} {r : Int32} (h : fX8_device n S a0 a1 a2 a3 = some (r, S')) : zMi l D tc b n yX8_device cX8_device 5 .int 2 [zr a0, zi a1, zi a2, zi a3] S S' r := by
  refine zMi_of zyX8_device (Nat.le_of_ble_eq_true rfl) (fun p e s m args below meth c H C hr hk ls hl I => ?_)
  have hl : zL b ls 5 [(0, zr a0), (1, zi a1), (2, zi a2), (3, zi a3)] := hl
  rw [fX8_device] at h
  refine z_aload_n C hl 0 rfl dX8_device_0 rfl ?_
  refine z_iconst C (v := 0) dX8_device_1 (by decide) ?_
  obtain ⟨g1, h⟩ := zd_some h
  refine z_put C I 8 0 zc8 g1 (by decide) rfl zq_656 rfl (v := zi 0) rfl dX8_device_2 (fun S2 e3 H locs I => ?_)
  have h := znb e3 h
  refine z_iload_n C hl 1 rfl dX8_device_5 rfl ?_
  refine z_i2l C dX8_device_6 ?_
  refine z_lconst C (v := 0) dX8_device_7 (by decide) ?_
  refine z_ldc2 C zq_778 dX8_device_8 ?_
  obtain ⟨r4, S5, h6, h⟩ := zcs h
  refine z_callSi C I (tX8_in l D tc b n h6) zyX8_in zq_780 zq_779 (st := []) rfl rfl (by decide) (by decide) hl.1 (Nat.le_of_ble_eq_true rfl) dX8_device_11 (fun H locs I => ?_)
  refine z_if_eq C 39 dX8_device_14 (by decide) (fun c7 => ?_) (fun c7 => ?_)
  · have h := zit c7 h
    refine z_ldc C zq_783 dX8_device_39 ?_
    exact z_iret C I hr hk h dX8_device_41
  · have h := zif c7 h
    refine z_aload_n C hl 0 rfl dX8_device_17 rfl ?_
    refine z_iload_n C hl 2 rfl dX8_device_18 rfl ?_
    obtain ⟨r8, S9, h10, h⟩ := zcs h
    refine z_callVi C I (tX8_isVersion l D tc b n h10) zyX8_isVersion zyvX8_isVersion zc8 g1 zq_816 (st := []) rfl rfl (by decide) (by decide) hl.1 (Nat.le_of_ble_eq_true rfl) dX8_device_19 (fun H locs I => ?_)
    refine z_if_eq C 39 dX8_device_22 (by decide) (fun c11 => ?_) (fun c11 => ?_)
    · have h := zit c11 h
      refine z_ldc C zq_783 dX8_device_39 ?_
      exact z_iret C I hr hk h dX8_device_41
    · have h := zif c11 h
      refine z_iload_n C hl 3 rfl dX8_device_25 rfl ?_
      refine z_ldc C zq_829 dX8_device_26 ?_
      refine z_icmp_eq C 42 dX8_device_28 (by decide) (fun c12 => ?_) (fun c12 => ?_)
      · have h := zit c12 h
        exact bX8_device_42 C hr hk _ _ _ _ _ _ _ _ h I (zL_sub hl [0, 1, 2, 3] rfl)
      · have h := zif c12 h
        refine z_aload_n C hl 0 rfl dX8_device_31 rfl ?_
        refine z_iload_n C hl 3 rfl dX8_device_32 rfl ?_
        obtain ⟨r13, S14, h15, h⟩ := zcs h
        refine z_callVi C I (tX8_isDevice l D tc b n h15) zyX8_isDevice zyvX8_isDevice zc8 g1 zq_838 (st := []) rfl rfl (by decide) (by decide) hl.1 (Nat.le_of_ble_eq_true rfl) dX8_device_33 (fun H locs I => ?_)
        refine z_if_ne C 42 dX8_device_36 (by decide) (fun c16 => ?_) (fun c16 => ?_)
        · have h := zif c16 h
          exact bX8_device_42 C hr hk _ _ _ _ _ _ _ _ h I (zL_sub hl [0, 1, 2, 3] rfl)
        · have h := zit c16 h
          refine z_ldc C zq_783 dX8_device_39 ?_
          exact z_iret C I hr hk h dX8_device_41

def fX8_runsOn (n : Nat) (S : zM) (a0 : Int32) (a1 : Int32) : Option (Int32 × zM) := zd (zo n 18 a0) <| zd (za n 0 (zg S a0 16) a1) <| zd (za n 0 (zg S a0 17) ((2 * a1) + (ze S (zg S a0 16) a1))) <| some (ze S (zg S a0 17) ((2 * a1) + (ze S (zg S a0 16) a1)), S)
theorem tX8_runsOn (l : Launch) (D : va_G) (tc : Nat → ClassId) (b n : Nat) {S S' : zM} {a0 : Int32} {a1 : Int32} {r : Int32} (h : fX8_runsOn n S a0 a1 = some (r, S')) : zMi l D tc b n yX8_runsOn cX8_runsOn 2 .int 0 [zr a0, zi a1] S S' r := by
  refine zMi_of zyX8_runsOn (Nat.le_of_ble_eq_true rfl) (fun p e s m args below meth c H C hr hk ls hl I => ?_)
  have hl : zL b ls 2 [(0, zr a0), (1, zi a1)] := hl
  rw [fX8_runsOn] at h
  refine z_aload_n C hl 0 rfl dX8_runsOn_0 rfl ?_
  obtain ⟨g1, h⟩ := zd_some h
  refine z_get C I 8 17 zc8 g1 (by decide) zq_673 (v := zr (zg S a0 17)) rfl dX8_runsOn_1 ?_
  refine z_iconst C (v := 2) dX8_runsOn_4 (by decide) ?_
  refine z_iload_n C hl 1 rfl dX8_runsOn_5 rfl ?_
  refine z_imul C dX8_runsOn_6 ?_
  refine z_aload_n C hl 0 rfl dX8_runsOn_7 rfl ?_
  refine z_get C I 8 16 zc8 g1 (by decide) zq_672 (v := zr (zg S a0 16)) rfl dX8_runsOn_8 ?_
  refine z_iload_n C hl 1 rfl dX8_runsOn_11 rfl ?_
  obtain ⟨g2, h⟩ := zd_some h
  refine z_iald C I g2 dX8_runsOn_12 ?_
  refine z_iadd C dX8_runsOn_13 ?_
  obtain ⟨g3, h⟩ := zd_some h
  refine z_iald C I g3 dX8_runsOn_14 ?_
  exact z_iret C I hr hk h dX8_runsOn_15

def fX8_other (n : Nat) (S : zM) (a0 : Int32) (a1 : Int32) : Option (Int32 × zM) := zd (zo n 18 a0) <| zd (za n 0 (zg S a0 16) a1) <| some (((2 * a1) + 1) - (ze S (zg S a0 16) a1), S)
theorem tX8_other (l : Launch) (D : va_G) (tc : Nat → ClassId) (b n : Nat) {S S' : zM} {a0 : Int32} {a1 : Int32} {r : Int32} (h : fX8_other n S a0 a1 = some (r, S')) : zMi l D tc b n yX8_other cX8_other 2 .int 0 [zr a0, zi a1] S S' r := by
  refine zMi_of zyX8_other (Nat.le_of_ble_eq_true rfl) (fun p e s m args below meth c H C hr hk ls hl I => ?_)
  have hl : zL b ls 2 [(0, zr a0), (1, zi a1)] := hl
  rw [fX8_other] at h
  refine z_iconst C (v := 2) dX8_other_0 (by decide) ?_
  refine z_iload_n C hl 1 rfl dX8_other_1 rfl ?_
  refine z_imul C dX8_other_2 ?_
  refine z_iconst C (v := 1) dX8_other_3 (by decide) ?_
  refine z_iadd C dX8_other_4 ?_
  refine z_aload_n C hl 0 rfl dX8_other_5 rfl ?_
  obtain ⟨g1, h⟩ := zd_some h
  refine z_get C I 8 16 zc8 g1 (by decide) zq_672 (v := zr (zg S a0 16)) rfl dX8_other_6 ?_
  refine z_iload_n C hl 1 rfl dX8_other_9 rfl ?_
  obtain ⟨g2, h⟩ := zd_some h
  refine z_iald C I g2 dX8_other_10 ?_
  refine z_isub C dX8_other_11 ?_
  exact z_iret C I hr hk h dX8_other_12

def fX8_draw (n : Nat) (S : zM) (a0 : Int32) (a1 : Int32) : Option (Int32 × zM) := zd (zo n 18 a0) <| zbd ((((a1 + 1 : Int32).toInt64) * 2654435761) + ((zg S a0 24 : Int32).toInt64)) fun v2 => zd (decide (¬ (100 : Int32) = 0)) <| some ((((v2 >>> ((16 : Int32).toInt64 &&& 63)) &&& 65535 : Int64).toInt32) - (((v2 >>> ((16 : Int32).toInt64 &&& 63)) &&& 65535 : Int64).toInt32) / 100 * 100, S)
theorem tX8_draw (l : Launch) (D : va_G) (tc : Nat → ClassId) (b n : Nat) {S S' : zM} {a0 : Int32} {a1 : Int32} {r : Int32} (h : fX8_draw n S a0 a1 = some (r, S')) : zMi l D tc b n yX8_draw cX8_draw 4 .int 0 [zr a0, zi a1] S S' r := by
  refine zMi_of zyX8_draw (Nat.le_of_ble_eq_true rfl) (fun p e s m args below meth c H C hr hk ls hl I => ?_)
  have hl : zL b ls 4 [(0, zr a0), (1, zi a1)] := hl
  rw [fX8_draw] at h
  refine z_iload_n C hl 1 rfl dX8_draw_0 rfl ?_
  refine z_iconst C (v := 1) dX8_draw_1 (by decide) ?_
  refine z_iadd C dX8_draw_2 ?_
  refine z_i2l C dX8_draw_3 ?_
  refine z_ldc2 C zq_863 dX8_draw_4 ?_
  refine z_lmul C dX8_draw_7 ?_
  refine z_aload_n C hl 0 rfl dX8_draw_8 rfl ?_
  obtain ⟨g1, h⟩ := zd_some h
  refine z_get C I 8 24 zc8 g1 (by decide) zq_680 (v := zi (zg S a0 24)) rfl dX8_draw_9 ?_
  refine z_i2l C dX8_draw_12 ?_
  refine z_ladd C dX8_draw_13 ?_
  refine z_lstore_n C hl dX8_draw_14 rfl (by decide) (fun v2 => [(2, zl v2), (0, zr a0), (1, zi a1)]) (fun _ => rfl) (fun v2 e3 ls hl => ?_)
  have h := znb e3 h
  refine z_lload_n C hl 0 rfl dX8_draw_15 rfl ?_
  refine z_bipush C (v := 16) dX8_draw_16 (by decide) ?_
  refine z_lshr C dX8_draw_18 ?_
  refine z_ldc2 C zq_864 dX8_draw_19 ?_
  refine z_land C dX8_draw_22 ?_
  refine z_l2i C dX8_draw_23 ?_
  refine z_bipush C (v := 100) dX8_draw_24 (by decide) ?_
  obtain ⟨g4, h⟩ := zd_some h
  refine z_irem C g4 dX8_draw_26 ?_
  exact z_iret C I hr hk h dX8_draw_27

def fX8_isAlive (n : Nat) (S : zM) (a0 : Int32) (a1 : Int32) : Option (Int32 × zM) := zd (zo n 18 a0) <| zd (za n 0 (zg S a0 16) a1) <| zbd ((2 * a1) + (ze S (zg S a0 16) a1)) fun v3 => zd (za n 0 (zg S a0 17) v3) <| if (ze S (zg S a0 17) v3 : Int32) = ((-1000000) : Int32) then (some (0, S)) else (zd (za n 0 (zg S a0 18) v3) <| zd (za n 0 (zg S a0 6) (ze S (zg S a0 17) v3)) <| if (ze S (zg S a0 18) v3 : Int32) = (ze S (zg S a0 6) (ze S (zg S a0 17) v3) : Int32) then (zd (za n 0 (zg S a0 21) a1) <| if (ze S (zg S a0 17) v3 : Int32) < (ze S (zg S a0 21) a1 : Int32) then (some (0, S)) else (some (1, S))) else (some (0, S)))
theorem tX8_isAlive (l : Launch) (D : va_G) (tc : Nat → ClassId) (b n : Nat) {S S' : zM} {a0 : Int32} {a1 : Int32} {r : Int32} (h : fX8_isAlive n S a0 a1 = some (r, S')) : zMi l D tc b n yX8_isAlive cX8_isAlive 3 .boolean 0 [zr a0, zi a1] S S' r := by
  refine zMi_of zyX8_isAlive (Nat.le_of_ble_eq_true rfl) (fun p e s m args below meth c H C hr hk ls hl I => ?_)
  have hl : zL b ls 3 [(0, zr a0), (1, zi a1)] := hl
  rw [fX8_isAlive] at h
  refine z_iconst C (v := 2) dX8_isAlive_0 (by decide) ?_
  refine z_iload_n C hl 1 rfl dX8_isAlive_1 rfl ?_
  refine z_imul C dX8_isAlive_2 ?_
  refine z_aload_n C hl 0 rfl dX8_isAlive_3 rfl ?_
  obtain ⟨g1, h⟩ := zd_some h
  refine z_get C I 8 16 zc8 g1 (by decide) zq_672 (v := zr (zg S a0 16)) rfl dX8_isAlive_4 ?_
  refine z_iload_n C hl 1 rfl dX8_isAlive_7 rfl ?_
  obtain ⟨g2, h⟩ := zd_some h
  refine z_iald C I g2 dX8_isAlive_8 ?_
  refine z_iadd C dX8_isAlive_9 ?_
  refine z_istore_n C hl dX8_isAlive_10 rfl (by decide) (fun v3 => [(2, zi v3), (0, zr a0), (1, zi a1)]) (fun _ => rfl) (fun v3 e4 ls hl => ?_)
  have h := znb e4 h
  refine z_aload_n C hl 1 rfl dX8_isAlive_11 rfl ?_
  refine z_get C I 8 17 zc8 g1 (by decide) zq_673 (v := zr (zg S a0 17)) rfl dX8_isAlive_12 ?_
  refine z_iload_n C hl 0 rfl dX8_isAlive_15 rfl ?_
  obtain ⟨g5, h⟩ := zd_some h
  refine z_iald C I g5 dX8_isAlive_16 ?_
  refine z_ldc C zq_829 dX8_isAlive_17 ?_
  refine z_icmp_eq C 61 dX8_isAlive_19 (by decide) (fun c6 => ?_) (fun c6 => ?_)
  · have h := zit c6 h
    refine z_iconst C (v := 0) dX8_isAlive_61 (by decide) ?_
    exact z_zret C I hr hk rfl h dX8_isAlive_62
  · have h := zif c6 h
    refine z_aload_n C hl 1 rfl dX8_isAlive_22 rfl ?_
    refine z_get C I 8 18 zc8 g1 (by decide) zq_674 (v := zr (zg S a0 18)) rfl dX8_isAlive_23 ?_
    refine z_iload_n C hl 0 rfl dX8_isAlive_26 rfl ?_
    obtain ⟨g7, h⟩ := zd_some h
    refine z_iald C I g7 dX8_isAlive_27 ?_
    refine z_aload_n C hl 1 rfl dX8_isAlive_28 rfl ?_
    refine z_get C I 8 6 zc8 g1 (by decide) zq_662 (v := zr (zg S a0 6)) rfl dX8_isAlive_29 ?_
    refine z_aload_n C hl 1 rfl dX8_isAlive_32 rfl ?_
    refine z_get C I 8 17 zc8 g1 (by decide) zq_673 (v := zr (zg S a0 17)) rfl dX8_isAlive_33 ?_
    refine z_iload_n C hl 0 rfl dX8_isAlive_36 rfl ?_
    refine z_iald C I g5 dX8_isAlive_37 ?_
    obtain ⟨g8, h⟩ := zd_some h
    refine z_iald C I g8 dX8_isAlive_38 ?_
    refine z_icmp_ne C 61 dX8_isAlive_39 (by decide) (fun c9 => ?_) (fun c9 => ?_)
    · have h := zif c9 h
      refine z_iconst C (v := 0) dX8_isAlive_61 (by decide) ?_
      exact z_zret C I hr hk rfl h dX8_isAlive_62
    · have h := zit c9 h
      refine z_aload_n C hl 1 rfl dX8_isAlive_42 rfl ?_
      refine z_get C I 8 17 zc8 g1 (by decide) zq_673 (v := zr (zg S a0 17)) rfl dX8_isAlive_43 ?_
      refine z_iload_n C hl 0 rfl dX8_isAlive_46 rfl ?_
      refine z_iald C I g5 dX8_isAlive_47 ?_
      refine z_aload_n C hl 1 rfl dX8_isAlive_48 rfl ?_
      refine z_get C I 8 21 zc8 g1 (by decide) zq_677 (v := zr (zg S a0 21)) rfl dX8_isAlive_49 ?_
      refine z_iload_n C hl 2 rfl dX8_isAlive_52 rfl ?_
      obtain ⟨g10, h⟩ := zd_some h
      refine z_iald C I g10 dX8_isAlive_53 ?_
      refine z_icmp_lt C 61 dX8_isAlive_54 (by decide) (fun c11 => ?_) (fun c11 => ?_)
      · have h := zit c11 h
        refine z_iconst C (v := 0) dX8_isAlive_61 (by decide) ?_
        exact z_zret C I hr hk rfl h dX8_isAlive_62
      · have h := zif c11 h
        refine z_iconst C (v := 1) dX8_isAlive_57 (by decide) ?_
        refine z_goto C 62 dX8_isAlive_58 (by decide) ?_
        exact z_zret C I hr hk rfl h dX8_isAlive_62

def fX8_told (n : Nat) (S : zM) (a0 : Int32) (a1 : Int32) (a2 : Int32) : Option (Int32 × zM) := zd (zo n 18 a0) <| zbd (zp S a0 0 0) fun S2 => zca (fX8_isDevice n S2 a0 a1) fun r4 S5 => if (r4 : Int32) = 0 then (some ((-1000001), S5)) else (zca (fX8_in n S5 ((a2 : Int32).toInt64) 0 8) fun r8 S9 => if (r8 : Int32) = 0 then (some ((-1000001), S9)) else (if (a2 : Int32) = 0 then (zca (fX8_runsOn n S9 a0 a1) fun r13 S14 => some (r13, S14)) else if (a2 : Int32) = 1 then (zd (za n 0 (zg S9 a0 16) a1) <| some (ze S9 (zg S9 a0 16) a1, S9)) else if (a2 : Int32) = 2 then (zca (fX8_other n S9 a0 a1) fun r19 S20 => zd (za n 0 (zg S9 a0 17) r19) <| some (ze S20 (zg S9 a0 17) r19, S20)) else if (a2 : Int32) = 3 then (zca (fX8_other n S9 a0 a1) fun r24 S25 => zd (za n 0 (zg S9 a0 18) r24) <| some (ze S25 (zg S9 a0 18) r24, S25)) else if (a2 : Int32) = 4 then (zd (za n 1 (zg S9 a0 19) a1) <| if (ze S9 (zg S9 a0 19) a1 : Int32) = 0 then (some (0, S9)) else (zd (za n 0 (zg S9 a0 20) a1) <| some (ze S9 (zg S9 a0 20) a1, S9))) else if (a2 : Int32) = 5 then (zd (za n 0 (zg S9 a0 21) a1) <| some (ze S9 (zg S9 a0 21) a1, S9)) else if (a2 : Int32) = 6 then (zd (za n 0 (zg S9 a0 22) a1) <| some (ze S9 (zg S9 a0 22) a1, S9)) else if (a2 : Int32) = 7 then (zca (fX8_draw n S9 a0 a1) fun r37 S38 => some (r37, S38)) else (zca (fX8_isAlive n S9 a0 a1) fun r40 S41 => if (r40 : Int32) = 0 then (some (0, S41)) else (some (1, S41)))))
theorem tX8_told (l : Launch) (D : va_G) (tc : Nat → ClassId) (b n : Nat) {S S' : zM} {a0 : Int32} {a1 : Int32} {a2 : Int32} {r : Int32} (h : fX8_told n S a0 a1 a2 = some (r, S')) : zMi l D tc b n yX8_told cX8_told 3 .int 2 [zr a0, zi a1, zi a2] S S' r := by
  refine zMi_of zyX8_told (Nat.le_of_ble_eq_true rfl) (fun p e s m args below meth c H C hr hk ls hl I => ?_)
  have hl : zL b ls 3 [(0, zr a0), (1, zi a1), (2, zi a2)] := hl
  rw [fX8_told] at h
  refine z_aload_n C hl 0 rfl dX8_told_0 rfl ?_
  refine z_iconst C (v := 0) dX8_told_1 (by decide) ?_
  obtain ⟨g1, h⟩ := zd_some h
  refine z_put C I 8 0 zc8 g1 (by decide) rfl zq_656 rfl (v := zi 0) rfl dX8_told_2 (fun S2 e3 H locs I => ?_)
  have h := znb e3 h
  refine z_aload_n C hl 0 rfl dX8_told_5 rfl ?_
  refine z_iload_n C hl 1 rfl dX8_told_6 rfl ?_
  obtain ⟨r4, S5, h6, h⟩ := zcs h
  refine z_callVi C I (tX8_isDevice l D tc b n h6) zyX8_isDevice zyvX8_isDevice zc8 g1 zq_838 (st := []) rfl rfl (by decide) (by decide) hl.1 (Nat.le_of_ble_eq_true rfl) dX8_told_7 (fun H locs I => ?_)
  refine z_if_eq C 25 dX8_told_10 (by decide) (fun c7 => ?_) (fun c7 => ?_)
  · have h := zit c7 h
    refine z_ldc C zq_783 dX8_told_25 ?_
    exact z_iret C I hr hk h dX8_told_27
  · have h := zif c7 h
    refine z_iload_n C hl 2 rfl dX8_told_13 rfl ?_
    refine z_i2l C dX8_told_14 ?_
    refine z_lconst C (v := 0) dX8_told_15 (by decide) ?_
    refine z_ldc2 C zq_805 dX8_told_16 ?_
    obtain ⟨r8, S9, h10, h⟩ := zcs h
    refine z_callSi C I (tX8_in l D tc b n h10) zyX8_in zq_780 zq_779 (st := []) rfl rfl (by decide) (by decide) hl.1 (Nat.le_of_ble_eq_true rfl) dX8_told_19 (fun H locs I => ?_)
    refine z_if_ne C 28 dX8_told_22 (by decide) (fun c11 => ?_) (fun c11 => ?_)
    · have h := zif c11 h
      refine z_iload_n C hl 2 rfl dX8_told_28 rfl ?_
      by_cases c12 : (a2 : Int32) = 0
      · have h := zit c12 h
        refine z_tsIn C (off := 47) 76 c12 dX8_told_29 (by decide) (by decide) (by decide) (by decide) ?_
        refine z_aload_n C hl 0 rfl dX8_told_76 rfl ?_
        refine z_iload_n C hl 1 rfl dX8_told_77 rfl ?_
        obtain ⟨r13, S14, h15, h⟩ := zcs h
        refine z_callVi C I (tX8_runsOn l D tc b n h15) zyX8_runsOn zyvX8_runsOn zc8 g1 zq_851 (st := []) rfl rfl (by decide) (by decide) hl.1 (Nat.le_of_ble_eq_true rfl) dX8_told_78 (fun H locs I => ?_)
        exact z_iret C I hr hk h dX8_told_81
      have h := zif c12 h
      by_cases c16 : (a2 : Int32) = 1
      · have h := zit c16 h
        refine z_tsIn C (off := 53) 82 c16 dX8_told_29 (by decide) (by decide) (by decide) (by decide) ?_
        refine z_aload_n C hl 0 rfl dX8_told_82 rfl ?_
        refine z_get C I 8 16 zc8 g1 (by decide) zq_672 (v := zr (zg S9 a0 16)) rfl dX8_told_83 ?_
        refine z_iload_n C hl 1 rfl dX8_told_86 rfl ?_
        obtain ⟨g17, h⟩ := zd_some h
        refine z_iald C I g17 dX8_told_87 ?_
        exact z_iret C I hr hk h dX8_told_88
      have h := zif c16 h
      by_cases c18 : (a2 : Int32) = 2
      · have h := zit c18 h
        refine z_tsIn C (off := 60) 89 c18 dX8_told_29 (by decide) (by decide) (by decide) (by decide) ?_
        refine z_aload_n C hl 0 rfl dX8_told_89 rfl ?_
        refine z_get C I 8 17 zc8 g1 (by decide) zq_673 (v := zr (zg S9 a0 17)) rfl dX8_told_90 ?_
        refine z_aload_n C hl 0 rfl dX8_told_93 rfl ?_
        refine z_iload_n C hl 1 rfl dX8_told_94 rfl ?_
        obtain ⟨r19, S20, h21, h⟩ := zcs h
        refine z_callVi C I (tX8_other l D tc b n h21) zyX8_other zyvX8_other zc8 g1 zq_855 (st := [zr (zg S9 a0 17)]) rfl rfl (by decide) (by decide) hl.1 (Nat.le_of_ble_eq_true rfl) dX8_told_95 (fun H locs I => ?_)
        obtain ⟨g22, h⟩ := zd_some h
        refine z_iald C I g22 dX8_told_98 ?_
        exact z_iret C I hr hk h dX8_told_99
      have h := zif c18 h
      by_cases c23 : (a2 : Int32) = 3
      · have h := zit c23 h
        refine z_tsIn C (off := 71) 100 c23 dX8_told_29 (by decide) (by decide) (by decide) (by decide) ?_
        refine z_aload_n C hl 0 rfl dX8_told_100 rfl ?_
        refine z_get C I 8 18 zc8 g1 (by decide) zq_674 (v := zr (zg S9 a0 18)) rfl dX8_told_101 ?_
        refine z_aload_n C hl 0 rfl dX8_told_104 rfl ?_
        refine z_iload_n C hl 1 rfl dX8_told_105 rfl ?_
        obtain ⟨r24, S25, h26, h⟩ := zcs h
        refine z_callVi C I (tX8_other l D tc b n h26) zyX8_other zyvX8_other zc8 g1 zq_855 (st := [zr (zg S9 a0 18)]) rfl rfl (by decide) (by decide) hl.1 (Nat.le_of_ble_eq_true rfl) dX8_told_106 (fun H locs I => ?_)
        obtain ⟨g27, h⟩ := zd_some h
        refine z_iald C I g27 dX8_told_109 ?_
        exact z_iret C I hr hk h dX8_told_110
      have h := zif c23 h
      by_cases c28 : (a2 : Int32) = 4
      · have h := zit c28 h
        refine z_tsIn C (off := 82) 111 c28 dX8_told_29 (by decide) (by decide) (by decide) (by decide) ?_
        refine z_aload_n C hl 0 rfl dX8_told_111 rfl ?_
        refine z_get C I 8 19 zc8 g1 (by decide) zq_675 (v := zr (zg S9 a0 19)) rfl dX8_told_112 ?_
        refine z_iload_n C hl 1 rfl dX8_told_115 rfl ?_
        obtain ⟨g29, h⟩ := zd_some h
        refine z_zald C I g29 dX8_told_116 ?_
        refine z_if_eq C 129 dX8_told_117 (by decide) (fun c30 => ?_) (fun c30 => ?_)
        · have h := zit c30 h
          refine z_iconst C (v := 0) dX8_told_129 (by decide) ?_
          exact z_iret C I hr hk h dX8_told_130
        · have h := zif c30 h
          refine z_aload_n C hl 0 rfl dX8_told_120 rfl ?_
          refine z_get C I 8 20 zc8 g1 (by decide) zq_676 (v := zr (zg S9 a0 20)) rfl dX8_told_121 ?_
          refine z_iload_n C hl 1 rfl dX8_told_124 rfl ?_
          obtain ⟨g31, h⟩ := zd_some h
          refine z_iald C I g31 dX8_told_125 ?_
          refine z_goto C 130 dX8_told_126 (by decide) ?_
          exact z_iret C I hr hk h dX8_told_130
      have h := zif c28 h
      by_cases c32 : (a2 : Int32) = 5
      · have h := zit c32 h
        refine z_tsIn C (off := 102) 131 c32 dX8_told_29 (by decide) (by decide) (by decide) (by decide) ?_
        refine z_aload_n C hl 0 rfl dX8_told_131 rfl ?_
        refine z_get C I 8 21 zc8 g1 (by decide) zq_677 (v := zr (zg S9 a0 21)) rfl dX8_told_132 ?_
        refine z_iload_n C hl 1 rfl dX8_told_135 rfl ?_
        obtain ⟨g33, h⟩ := zd_some h
        refine z_iald C I g33 dX8_told_136 ?_
        exact z_iret C I hr hk h dX8_told_137
      have h := zif c32 h
      by_cases c34 : (a2 : Int32) = 6
      · have h := zit c34 h
        refine z_tsIn C (off := 109) 138 c34 dX8_told_29 (by decide) (by decide) (by decide) (by decide) ?_
        refine z_aload_n C hl 0 rfl dX8_told_138 rfl ?_
        refine z_get C I 8 22 zc8 g1 (by decide) zq_678 (v := zr (zg S9 a0 22)) rfl dX8_told_139 ?_
        refine z_iload_n C hl 1 rfl dX8_told_142 rfl ?_
        obtain ⟨g35, h⟩ := zd_some h
        refine z_iald C I g35 dX8_told_143 ?_
        exact z_iret C I hr hk h dX8_told_144
      have h := zif c34 h
      by_cases c36 : (a2 : Int32) = 7
      · have h := zit c36 h
        refine z_tsIn C (off := 116) 145 c36 dX8_told_29 (by decide) (by decide) (by decide) (by decide) ?_
        refine z_aload_n C hl 0 rfl dX8_told_145 rfl ?_
        refine z_iload_n C hl 1 rfl dX8_told_146 rfl ?_
        obtain ⟨r37, S38, h39, h⟩ := zcs h
        refine z_callVi C I (tX8_draw l D tc b n h39) zyX8_draw zyvX8_draw zc8 g1 zq_859 (st := []) rfl rfl (by decide) (by decide) hl.1 (Nat.le_of_ble_eq_true rfl) dX8_told_147 (fun H locs I => ?_)
        exact z_iret C I hr hk h dX8_told_150
      have h := zif c36 h
      refine z_tsOut C 151 dX8_told_29 (by have t_c12 : ((a2 : Int32)).toInt ≠ 0 := fun q => c12 (Int32.toInt_inj.mp (q.trans (by decide))); have t_c16 : ((a2 : Int32)).toInt ≠ 1 := fun q => c16 (Int32.toInt_inj.mp (q.trans (by decide))); have t_c18 : ((a2 : Int32)).toInt ≠ 2 := fun q => c18 (Int32.toInt_inj.mp (q.trans (by decide))); have t_c23 : ((a2 : Int32)).toInt ≠ 3 := fun q => c23 (Int32.toInt_inj.mp (q.trans (by decide))); have t_c28 : ((a2 : Int32)).toInt ≠ 4 := fun q => c28 (Int32.toInt_inj.mp (q.trans (by decide))); have t_c32 : ((a2 : Int32)).toInt ≠ 5 := fun q => c32 (Int32.toInt_inj.mp (q.trans (by decide))); have t_c34 : ((a2 : Int32)).toInt ≠ 6 := fun q => c34 (Int32.toInt_inj.mp (q.trans (by decide))); have t_c36 : ((a2 : Int32)).toInt ≠ 7 := fun q => c36 (Int32.toInt_inj.mp (q.trans (by decide))); omega) (by decide) ?_
      refine z_aload_n C hl 0 rfl dX8_told_151 rfl ?_
      refine z_iload_n C hl 1 rfl dX8_told_152 rfl ?_
      obtain ⟨r40, S41, h42, h⟩ := zcs h
      refine z_callVi C I (tX8_isAlive l D tc b n h42) zyX8_isAlive zyvX8_isAlive zc8 g1 zq_865 (st := []) rfl rfl (by decide) (by decide) hl.1 (Nat.le_of_ble_eq_true rfl) dX8_told_153 (fun H locs I => ?_)
      refine z_if_eq C 163 dX8_told_156 (by decide) (fun c43 => ?_) (fun c43 => ?_)
      · have h := zit c43 h
        refine z_iconst C (v := 0) dX8_told_163 (by decide) ?_
        exact z_iret C I hr hk h dX8_told_164
      · have h := zif c43 h
        refine z_iconst C (v := 1) dX8_told_159 (by decide) ?_
        refine z_goto C 164 dX8_told_160 (by decide) ?_
        exact z_iret C I hr hk h dX8_told_164
    · have h := zit c11 h
      refine z_ldc C zq_783 dX8_told_25 ?_
      exact z_iret C I hr hk h dX8_told_27

def fX8_actsOf (n : Nat) (S : zM) (a0 : Int32) (a1 : Int32) (a2 : Int32) : Option (Int32 × zM) := zd (zo n 18 a0) <| zd (za n 0 (zg S a0 6) a2) <| zd (za n 0 (zg S a0 14) a1) <| zca (fX8_isAiling n S a0 a2 (ze S (zg S a0 14) a1)) fun r4 S5 => if (r4 : Int32) = 0 then (some (((ze S (zg S a0 6) a2) + 2) + 1, S5)) else (some (((ze S (zg S a0 6) a2) + 2) + 4, S5))
theorem tX8_actsOf (l : Launch) (D : va_G) (tc : Nat → ClassId) (b n : Nat) {S S' : zM} {a0 : Int32} {a1 : Int32} {a2 : Int32} {r : Int32} (h : fX8_actsOf n S a0 a1 a2 = some (r, S')) : zMi l D tc b n yX8_actsOf cX8_actsOf 3 .int 1 [zr a0, zi a1, zi a2] S S' r := by
  refine zMi_of zyX8_actsOf (Nat.le_of_ble_eq_true rfl) (fun p e s m args below meth c H C hr hk ls hl I => ?_)
  have hl : zL b ls 3 [(0, zr a0), (1, zi a1), (2, zi a2)] := hl
  rw [fX8_actsOf] at h
  refine z_aload_n C hl 0 rfl dX8_actsOf_0 rfl ?_
  obtain ⟨g1, h⟩ := zd_some h
  refine z_get C I 8 6 zc8 g1 (by decide) zq_662 (v := zr (zg S a0 6)) rfl dX8_actsOf_1 ?_
  refine z_iload_n C hl 2 rfl dX8_actsOf_4 rfl ?_
  obtain ⟨g2, h⟩ := zd_some h
  refine z_iald C I g2 dX8_actsOf_5 ?_
  refine z_iconst C (v := 2) dX8_actsOf_6 (by decide) ?_
  refine z_iadd C dX8_actsOf_7 ?_
  refine z_aload_n C hl 0 rfl dX8_actsOf_8 rfl ?_
  refine z_iload_n C hl 2 rfl dX8_actsOf_9 rfl ?_
  refine z_aload_n C hl 0 rfl dX8_actsOf_10 rfl ?_
  refine z_get C I 8 14 zc8 g1 (by decide) zq_670 (v := zr (zg S a0 14)) rfl dX8_actsOf_11 ?_
  refine z_iload_n C hl 1 rfl dX8_actsOf_14 rfl ?_
  obtain ⟨g3, h⟩ := zd_some h
  refine z_iald C I g3 dX8_actsOf_15 ?_
  obtain ⟨r4, S5, h6, h⟩ := zcs h
  refine z_callVi C I (tX8_isAiling l D tc b n h6) zyX8_isAiling zyvX8_isAiling zc8 g1 zq_842 (st := [zi ((ze S (zg S a0 6) a2) + 2)]) rfl rfl (by decide) (by decide) hl.1 (Nat.le_of_ble_eq_true rfl) dX8_actsOf_16 (fun H locs I => ?_)
  refine z_if_eq C 26 dX8_actsOf_19 (by decide) (fun c7 => ?_) (fun c7 => ?_)
  · have h := zit c7 h
    refine z_iconst C (v := 1) dX8_actsOf_26 (by decide) ?_
    refine z_iadd C dX8_actsOf_27 ?_
    exact z_iret C I hr hk h dX8_actsOf_28
  · have h := zif c7 h
    refine z_iconst C (v := 4) dX8_actsOf_22 (by decide) ?_
    refine z_goto C 27 dX8_actsOf_23 (by decide) ?_
    refine z_iadd C dX8_actsOf_27 ?_
    exact z_iret C I hr hk h dX8_actsOf_28

def fX8_start_63 (n : Nat) (S : zM) (x0 : Int32) (x1 : Int32) : Option (Int32 × zM) := zd (zo n 18 x0) <| zd (za n 1 (zg S x0 19) x1) <| zbd (zq S (zg S x0 19) x1 0) fun S3 => some (0, S3)
theorem bX8_start_63 {p : Program} {l : Launch} {e : Env} {s : State} {m : MethodId} {args : Array Value} {below : List Frame} {meth : Method} {c : Code} {D : va_G} {tc : Nat → ClassId} {b n : Nat} {S' : zM} {r : Int32} (C : zC p m c cX8_start 4 s args yX8_start.cls D tc) (hr : meth.sig.returnType = none) (hk : meth.locks = false) : ∀ (S : zM) (x0 : Int32) (x1 : Int32) (H : Heap) (locs : List Loc) (ls : Array Slot), fX8_start_63 n S x0 x1 = some (r, S') → zI D tc b n S s H locs → zL b ls 4 [(0, zr x0), (1, zi x1)] → W p l e (zR 1) s m args below meth c H locs 0 0 (zQv D tc b n S' below args s) (zG b m 63 ls []) := by
  intro S x0 x1 H locs ls h I hl
  rw [fX8_start_63] at h
  refine z_aload_n C hl 0 rfl dX8_start_63 rfl ?_
  obtain ⟨g1, h⟩ := zd_some h
  refine z_get C I 8 19 zc8 g1 (by decide) zq_675 (v := zr (zg S x0 19)) rfl dX8_start_64 ?_
  refine z_iload_n C hl 1 rfl dX8_start_67 rfl ?_
  refine z_iconst C (v := 0) dX8_start_68 (by decide) ?_
  obtain ⟨g2, h⟩ := zd_some h
  refine z_zast C I g2 rfl dX8_start_69 (fun S3 e4 H locs I => ?_)
  have h := znb e4 h
  exact z_vret C I hr hk h dX8_start_70

def fX8_start (n : Nat) (S : zM) (a0 : Int32) (a1 : Int32) : Option (Int32 × zM) := zd (zo n 18 a0) <| zd (za n 1 (zg S a0 19) a1) <| if (ze S (zg S a0 19) a1 : Int32) = 0 then (some (0, S)) else (zca (fX8_other n S a0 a1) fun r4 S5 => zbd (r4) fun v7 => zd (za n 0 (zg S5 a0 17) v7) <| zbd (ze S5 (zg S5 a0 17) v7) fun v10 => if (v10 : Int32) = ((-1000000) : Int32) then (fX8_start_63 n S5 a0 a1) else (zd (za n 0 (zg S5 a0 18) v7) <| zd (za n 0 (zg S5 a0 6) v10) <| if (ze S5 (zg S5 a0 18) v7 : Int32) < (ze S5 (zg S5 a0 6) v10 : Int32) then (fX8_start_63 n S5 a0 a1) else (zd (za n 0 (zg S5 a0 21) a1) <| if (v10 : Int32) < (ze S5 (zg S5 a0 21) a1 : Int32) then (fX8_start_63 n S5 a0 a1) else (zd (za n 0 (zg S5 a0 20) a1) <| if (ze S5 (zg S5 a0 20) a1 : Int32) = 0 then (fX8_start_63 n S5 a0 a1) else (zbd (zq S5 (zg S5 a0 20) a1 ((ze S5 (zg S5 a0 20) a1) - 1)) fun S20 => zd (za n 0 (zg S20 a0 14) a1) <| zca (fX8_isAiling n S20 a0 v10 (ze S20 (zg S20 a0 14) a1)) fun r23 S24 => if (r23 : Int32) = 0 then (zd (za n 0 (zg S24 a0 16) a1) <| zbd (zq S24 (zg S24 a0 16) a1 (1 - (ze S24 (zg S24 a0 16) a1))) fun S28 => zd (za n 1 (zg S28 a0 19) a1) <| zbd (zq S28 (zg S28 a0 19) a1 0) fun S31 => zd (za n 0 (zg S31 a0 7) v10) <| zd (za n 0 (zg S31 a0 21) a1) <| if (ze S31 (zg S31 a0 7) v10 : Int32) ≤ (ze S31 (zg S31 a0 21) a1 : Int32) then (zbd (zq S31 (zg S31 a0 21) a1 (ze S31 (zg S31 a0 21) a1)) fun S36 => some (0, S36)) else (zbd (zq S31 (zg S31 a0 21) a1 (ze S31 (zg S31 a0 7) v10)) fun S38 => some (0, S38))) else (some (0, S24)))))))
theorem tX8_start (l : Launch) (D : va_G) (tc : Nat → ClassId) (b n : Nat) {S S' : zM} {a0 : Int32} {a1 : Int32} {r : Int32} (h : fX8_start n S a0 a1 = some (r, S')) : zMv l D tc b n yX8_start cX8_start 4 1 [zr a0, zi a1] S S' := by
  refine zMv_of zyX8_start (Nat.le_of_ble_eq_true rfl) (fun p e s m args below meth c H C hr hk ls hl I => ?_)
  have hl : zL b ls 4 [(0, zr a0), (1, zi a1)] := hl
  rw [fX8_start] at h
  refine z_aload_n C hl 0 rfl dX8_start_0 rfl ?_
  obtain ⟨g1, h⟩ := zd_some h
  refine z_get C I 8 19 zc8 g1 (by decide) zq_675 (v := zr (zg S a0 19)) rfl dX8_start_1 ?_
  refine z_iload_n C hl 1 rfl dX8_start_4 rfl ?_
  obtain ⟨g2, h⟩ := zd_some h
  refine z_zald C I g2 dX8_start_5 ?_
  refine z_if_ne C 10 dX8_start_6 (by decide) (fun c3 => ?_) (fun c3 => ?_)
  · have h := zif c3 h
    refine z_aload_n C hl 0 rfl dX8_start_10 rfl ?_
    refine z_iload_n C hl 1 rfl dX8_start_11 rfl ?_
    obtain ⟨r4, S5, h6, h⟩ := zcs h
    refine z_callVi C I (tX8_other l D tc b n h6) zyX8_other zyvX8_other zc8 g1 zq_855 (st := []) rfl rfl (by decide) (by decide) hl.1 (Nat.le_of_ble_eq_true rfl) dX8_start_12 (fun H locs I => ?_)
    refine z_istore_n C hl dX8_start_15 rfl (by decide) (fun v7 => [(2, zi v7), (0, zr a0), (1, zi a1)]) (fun _ => rfl) (fun v7 e8 ls hl => ?_)
    have h := znb e8 h
    refine z_aload_n C hl 1 rfl dX8_start_16 rfl ?_
    refine z_get C I 8 17 zc8 g1 (by decide) zq_673 (v := zr (zg S5 a0 17)) rfl dX8_start_17 ?_
    refine z_iload_n C hl 0 rfl dX8_start_20 rfl ?_
    obtain ⟨g9, h⟩ := zd_some h
    refine z_iald C I g9 dX8_start_21 ?_
    refine z_istore_n C hl dX8_start_22 rfl (by decide) (fun v10 => [(3, zi v10), (2, zi v7), (0, zr a0), (1, zi a1)]) (fun _ => rfl) (fun v10 e11 ls hl => ?_)
    have h := znb e11 h
    refine z_iload_n C hl 0 rfl dX8_start_23 rfl ?_
    refine z_ldc C zq_829 dX8_start_24 ?_
    refine z_icmp_eq C 63 dX8_start_26 (by decide) (fun c12 => ?_) (fun c12 => ?_)
    · have h := zit c12 h
      exact bX8_start_63 C hr hk _ _ _ _ _ _ h I (zL_sub hl [2, 3] rfl)
    · have h := zif c12 h
      refine z_aload_n C hl 2 rfl dX8_start_29 rfl ?_
      refine z_get C I 8 18 zc8 g1 (by decide) zq_674 (v := zr (zg S5 a0 18)) rfl dX8_start_30 ?_
      refine z_iload_n C hl 1 rfl dX8_start_33 rfl ?_
      obtain ⟨g13, h⟩ := zd_some h
      refine z_iald C I g13 dX8_start_34 ?_
      refine z_aload_n C hl 2 rfl dX8_start_35 rfl ?_
      refine z_get C I 8 6 zc8 g1 (by decide) zq_662 (v := zr (zg S5 a0 6)) rfl dX8_start_36 ?_
      refine z_iload_n C hl 0 rfl dX8_start_39 rfl ?_
      obtain ⟨g14, h⟩ := zd_some h
      refine z_iald C I g14 dX8_start_40 ?_
      refine z_icmp_lt C 63 dX8_start_41 (by decide) (fun c15 => ?_) (fun c15 => ?_)
      · have h := zit c15 h
        exact bX8_start_63 C hr hk _ _ _ _ _ _ h I (zL_sub hl [2, 3] rfl)
      · have h := zif c15 h
        refine z_iload_n C hl 0 rfl dX8_start_44 rfl ?_
        refine z_aload_n C hl 2 rfl dX8_start_45 rfl ?_
        refine z_get C I 8 21 zc8 g1 (by decide) zq_677 (v := zr (zg S5 a0 21)) rfl dX8_start_46 ?_
        refine z_iload_n C hl 3 rfl dX8_start_49 rfl ?_
        obtain ⟨g16, h⟩ := zd_some h
        refine z_iald C I g16 dX8_start_50 ?_
        refine z_icmp_lt C 63 dX8_start_51 (by decide) (fun c17 => ?_) (fun c17 => ?_)
        · have h := zit c17 h
          exact bX8_start_63 C hr hk _ _ _ _ _ _ h I (zL_sub hl [2, 3] rfl)
        · have h := zif c17 h
          refine z_aload_n C hl 2 rfl dX8_start_54 rfl ?_
          refine z_get C I 8 20 zc8 g1 (by decide) zq_676 (v := zr (zg S5 a0 20)) rfl dX8_start_55 ?_
          refine z_iload_n C hl 3 rfl dX8_start_58 rfl ?_
          obtain ⟨g18, h⟩ := zd_some h
          refine z_iald C I g18 dX8_start_59 ?_
          refine z_if_ne C 71 dX8_start_60 (by decide) (fun c19 => ?_) (fun c19 => ?_)
          · have h := zif c19 h
            refine z_aload_n C hl 2 rfl dX8_start_71 rfl ?_
            refine z_get C I 8 20 zc8 g1 (by decide) zq_676 (v := zr (zg S5 a0 20)) rfl dX8_start_72 ?_
            refine z_iload_n C hl 3 rfl dX8_start_75 rfl ?_
            refine z_dup2 C dX8_start_76 rfl rfl ?_
            refine z_iald C I g18 dX8_start_77 ?_
            refine z_iconst C (v := 1) dX8_start_78 (by decide) ?_
            refine z_isub C dX8_start_79 ?_
            refine z_iast C I g18 dX8_start_80 (fun S20 e21 H locs I => ?_)
            have h := znb e21 h
            refine z_aload_n C hl 2 rfl dX8_start_81 rfl ?_
            refine z_iload_n C hl 0 rfl dX8_start_82 rfl ?_
            refine z_aload_n C hl 2 rfl dX8_start_83 rfl ?_
            refine z_get C I 8 14 zc8 g1 (by decide) zq_670 (v := zr (zg S20 a0 14)) rfl dX8_start_84 ?_
            refine z_iload_n C hl 3 rfl dX8_start_87 rfl ?_
            obtain ⟨g22, h⟩ := zd_some h
            refine z_iald C I g22 dX8_start_88 ?_
            obtain ⟨r23, S24, h25, h⟩ := zcs h
            refine z_callVi C I (tX8_isAiling l D tc b n h25) zyX8_isAiling zyvX8_isAiling zc8 g1 zq_842 (st := []) rfl rfl (by decide) (by decide) hl.1 (Nat.le_of_ble_eq_true rfl) dX8_start_89 (fun H locs I => ?_)
            refine z_if_ne C 152 dX8_start_92 (by decide) (fun c26 => ?_) (fun c26 => ?_)
            · have h := zif c26 h
              exact z_vret C I hr hk h dX8_start_152
            · have h := zit c26 h
              refine z_aload_n C hl 2 rfl dX8_start_95 rfl ?_
              refine z_get C I 8 16 zc8 g1 (by decide) zq_672 (v := zr (zg S24 a0 16)) rfl dX8_start_96 ?_
              refine z_iload_n C hl 3 rfl dX8_start_99 rfl ?_
              refine z_iconst C (v := 1) dX8_start_100 (by decide) ?_
              refine z_aload_n C hl 2 rfl dX8_start_101 rfl ?_
              refine z_get C I 8 16 zc8 g1 (by decide) zq_672 (v := zr (zg S24 a0 16)) rfl dX8_start_102 ?_
              refine z_iload_n C hl 3 rfl dX8_start_105 rfl ?_
              obtain ⟨g27, h⟩ := zd_some h
              refine z_iald C I g27 dX8_start_106 ?_
              refine z_isub C dX8_start_107 ?_
              refine z_iast C I g27 dX8_start_108 (fun S28 e29 H locs I => ?_)
              have h := znb e29 h
              refine z_aload_n C hl 2 rfl dX8_start_109 rfl ?_
              refine z_get C I 8 19 zc8 g1 (by decide) zq_675 (v := zr (zg S28 a0 19)) rfl dX8_start_110 ?_
              refine z_iload_n C hl 3 rfl dX8_start_113 rfl ?_
              refine z_iconst C (v := 0) dX8_start_114 (by decide) ?_
              obtain ⟨g30, h⟩ := zd_some h
              refine z_zast C I g30 rfl dX8_start_115 (fun S31 e32 H locs I => ?_)
              have h := znb e32 h
              refine z_aload_n C hl 2 rfl dX8_start_116 rfl ?_
              refine z_get C I 8 21 zc8 g1 (by decide) zq_677 (v := zr (zg S31 a0 21)) rfl dX8_start_117 ?_
              refine z_iload_n C hl 3 rfl dX8_start_120 rfl ?_
              refine z_aload_n C hl 2 rfl dX8_start_121 rfl ?_
              refine z_get C I 8 7 zc8 g1 (by decide) zq_663 (v := zr (zg S31 a0 7)) rfl dX8_start_122 ?_
              refine z_iload_n C hl 0 rfl dX8_start_125 rfl ?_
              obtain ⟨g33, h⟩ := zd_some h
              refine z_iald C I g33 dX8_start_126 ?_
              refine z_aload_n C hl 2 rfl dX8_start_127 rfl ?_
              refine z_get C I 8 21 zc8 g1 (by decide) zq_677 (v := zr (zg S31 a0 21)) rfl dX8_start_128 ?_
              refine z_iload_n C hl 3 rfl dX8_start_131 rfl ?_
              obtain ⟨g34, h⟩ := zd_some h
              refine z_iald C I g34 dX8_start_132 ?_
              refine z_icmp_le C 145 dX8_start_133 (by decide) (fun c35 => ?_) (fun c35 => ?_)
              · have h := zit c35 h
                refine z_aload_n C hl 2 rfl dX8_start_145 rfl ?_
                refine z_get C I 8 21 zc8 g1 (by decide) zq_677 (v := zr (zg S31 a0 21)) rfl dX8_start_146 ?_
                refine z_iload_n C hl 3 rfl dX8_start_149 rfl ?_
                refine z_iald C I g34 dX8_start_150 ?_
                refine z_iast C I g34 dX8_start_151 (fun S36 e37 H locs I => ?_)
                have h := znb e37 h
                exact z_vret C I hr hk h dX8_start_152
              · have h := zif c35 h
                refine z_aload_n C hl 2 rfl dX8_start_136 rfl ?_
                refine z_get C I 8 7 zc8 g1 (by decide) zq_663 (v := zr (zg S31 a0 7)) rfl dX8_start_137 ?_
                refine z_iload_n C hl 0 rfl dX8_start_140 rfl ?_
                refine z_iald C I g33 dX8_start_141 ?_
                refine z_goto C 151 dX8_start_142 (by decide) ?_
                refine z_iast C I g34 dX8_start_151 (fun S38 e39 H locs I => ?_)
                have h := znb e39 h
                exact z_vret C I hr hk h dX8_start_152
          · have h := zit c19 h
            exact bX8_start_63 C hr hk _ _ _ _ _ _ h I (zL_sub hl [2, 3] rfl)
  · have h := zit c3 h
    exact z_vret C I hr hk h dX8_start_9

def fX8_act (n : Nat) (S : zM) (a0 : Int32) (a1 : Int32) (a2 : Int32) (a3 : Int32) : Option (Int32 × zM) := if (a3 : Int32) = 0 then (zd (zo n 18 a0) <| zca (fX8_other n S a0 a1) fun r28 S29 => zd (za n 0 (zg S a0 17) r28) <| zbd (zq S29 (zg S a0 17) r28 (-1000000)) fun S32 => zca (fX8_other n S32 a0 a1) fun r34 S35 => zd (za n 0 (zg S32 a0 18) r34) <| zbd (zq S35 (zg S32 a0 18) r34 0) fun S38 => some (0, S38)) else (zd (zo n 18 a0) <| zd (za n 0 (zg S a0 6) a2) <| if (ze S (zg S a0 6) a2 : Int32) < (a3 : Int32) then (if (a3 : Int32) = ((ze S (zg S a0 6) a2) + 1 : Int32) then (zd (za n 1 (zg S a0 19) a1) <| zbd (zq S (zg S a0 19) a1 1) fun S10 => zd (za n 0 (zg S10 a0 20) a1) <| zbd (zq S10 (zg S10 a0 20) a1 3) fun S13 => some (0, S13)) else (zca (fX8_start n S a0 a1) fun r6 S7 => some (0, S7))) else (zca (fX8_other n S a0 a1) fun r15 S16 => zd (za n 0 (zg S a0 17) r15) <| zbd (zq S16 (zg S a0 17) r15 a2) fun S19 => zca (fX8_other n S19 a0 a1) fun r21 S22 => zd (za n 0 (zg S19 a0 18) r21) <| zbd (zq S22 (zg S19 a0 18) r21 a3) fun S25 => some (0, S25)))
theorem tX8_act (l : Launch) (D : va_G) (tc : Nat → ClassId) (b n : Nat) {S S' : zM} {a0 : Int32} {a1 : Int32} {a2 : Int32} {a3 : Int32} {r : Int32} (h : fX8_act n S a0 a1 a2 a3 = some (r, S')) : zMv l D tc b n yX8_act cX8_act 4 2 [zr a0, zi a1, zi a2, zi a3] S S' := by
  refine zMv_of zyX8_act (Nat.le_of_ble_eq_true rfl) (fun p e s m args below meth c H C hr hk ls hl I => ?_)
  have hl : zL b ls 4 [(0, zr a0), (1, zi a1), (2, zi a2), (3, zi a3)] := hl
  rw [fX8_act] at h
  refine z_iload_n C hl 3 rfl dX8_act_0 rfl ?_
  refine z_if_ne C 30 dX8_act_1 (by decide) (fun c1 => ?_) (fun c1 => ?_)
  · have h := zif c1 h
    refine z_iload_n C hl 3 rfl dX8_act_30 rfl ?_
    refine z_aload_n C hl 0 rfl dX8_act_31 rfl ?_
    obtain ⟨g2, h⟩ := zd_some h
    refine z_get C I 8 6 zc8 g2 (by decide) zq_662 (v := zr (zg S a0 6)) rfl dX8_act_32 ?_
    refine z_iload_n C hl 2 rfl dX8_act_35 rfl ?_
    obtain ⟨g3, h⟩ := zd_some h
    refine z_iald C I g3 dX8_act_36 ?_
    refine z_icmp_gt C 65 dX8_act_37 (by decide) (fun c4 => ?_) (fun c4 => ?_)
    · have h := zit c4 h
      refine z_iload_n C hl 3 rfl dX8_act_65 rfl ?_
      refine z_aload_n C hl 0 rfl dX8_act_66 rfl ?_
      refine z_get C I 8 6 zc8 g2 (by decide) zq_662 (v := zr (zg S a0 6)) rfl dX8_act_67 ?_
      refine z_iload_n C hl 2 rfl dX8_act_70 rfl ?_
      refine z_iald C I g3 dX8_act_71 ?_
      refine z_iconst C (v := 1) dX8_act_72 (by decide) ?_
      refine z_iadd C dX8_act_73 ?_
      refine z_icmp_ne C 94 dX8_act_74 (by decide) (fun c5 => ?_) (fun c5 => ?_)
      · have h := zif c5 h
        refine z_aload_n C hl 0 rfl dX8_act_94 rfl ?_
        refine z_iload_n C hl 1 rfl dX8_act_95 rfl ?_
        obtain ⟨r6, S7, h8, h⟩ := zcs h
        refine z_callVv C I (tX8_start l D tc b n h8) zyX8_start zyvX8_start zc8 g2 zq_885 (st := []) rfl rfl (by decide) (by decide) hl.1 (Nat.le_of_ble_eq_true rfl) dX8_act_96 (fun H locs I => ?_)
        exact z_vret C I hr hk h dX8_act_99
      · have h := zit c5 h
        refine z_aload_n C hl 0 rfl dX8_act_77 rfl ?_
        refine z_get C I 8 19 zc8 g2 (by decide) zq_675 (v := zr (zg S a0 19)) rfl dX8_act_78 ?_
        refine z_iload_n C hl 1 rfl dX8_act_81 rfl ?_
        refine z_iconst C (v := 1) dX8_act_82 (by decide) ?_
        obtain ⟨g9, h⟩ := zd_some h
        refine z_zast C I g9 rfl dX8_act_83 (fun S10 e11 H locs I => ?_)
        have h := znb e11 h
        refine z_aload_n C hl 0 rfl dX8_act_84 rfl ?_
        refine z_get C I 8 20 zc8 g2 (by decide) zq_676 (v := zr (zg S10 a0 20)) rfl dX8_act_85 ?_
        refine z_iload_n C hl 1 rfl dX8_act_88 rfl ?_
        refine z_iconst C (v := 3) dX8_act_89 (by decide) ?_
        obtain ⟨g12, h⟩ := zd_some h
        refine z_iast C I g12 dX8_act_90 (fun S13 e14 H locs I => ?_)
        have h := znb e14 h
        refine z_goto C 99 dX8_act_91 (by decide) ?_
        exact z_vret C I hr hk h dX8_act_99
    · have h := zif c4 h
      refine z_aload_n C hl 0 rfl dX8_act_40 rfl ?_
      refine z_get C I 8 17 zc8 g2 (by decide) zq_673 (v := zr (zg S a0 17)) rfl dX8_act_41 ?_
      refine z_aload_n C hl 0 rfl dX8_act_44 rfl ?_
      refine z_iload_n C hl 1 rfl dX8_act_45 rfl ?_
      obtain ⟨r15, S16, h17, h⟩ := zcs h
      refine z_callVi C I (tX8_other l D tc b n h17) zyX8_other zyvX8_other zc8 g2 zq_855 (st := [zr (zg S a0 17)]) rfl rfl (by decide) (by decide) hl.1 (Nat.le_of_ble_eq_true rfl) dX8_act_46 (fun H locs I => ?_)
      refine z_iload_n C hl 2 rfl dX8_act_49 rfl ?_
      obtain ⟨g18, h⟩ := zd_some h
      refine z_iast C I g18 dX8_act_50 (fun S19 e20 H locs I => ?_)
      have h := znb e20 h
      refine z_aload_n C hl 0 rfl dX8_act_51 rfl ?_
      refine z_get C I 8 18 zc8 g2 (by decide) zq_674 (v := zr (zg S19 a0 18)) rfl dX8_act_52 ?_
      refine z_aload_n C hl 0 rfl dX8_act_55 rfl ?_
      refine z_iload_n C hl 1 rfl dX8_act_56 rfl ?_
      obtain ⟨r21, S22, h23, h⟩ := zcs h
      refine z_callVi C I (tX8_other l D tc b n h23) zyX8_other zyvX8_other zc8 g2 zq_855 (st := [zr (zg S19 a0 18)]) rfl rfl (by decide) (by decide) hl.1 (Nat.le_of_ble_eq_true rfl) dX8_act_57 (fun H locs I => ?_)
      refine z_iload_n C hl 3 rfl dX8_act_60 rfl ?_
      obtain ⟨g24, h⟩ := zd_some h
      refine z_iast C I g24 dX8_act_61 (fun S25 e26 H locs I => ?_)
      have h := znb e26 h
      refine z_goto C 99 dX8_act_62 (by decide) ?_
      exact z_vret C I hr hk h dX8_act_99
  · have h := zit c1 h
    refine z_aload_n C hl 0 rfl dX8_act_4 rfl ?_
    obtain ⟨g27, h⟩ := zd_some h
    refine z_get C I 8 17 zc8 g27 (by decide) zq_673 (v := zr (zg S a0 17)) rfl dX8_act_5 ?_
    refine z_aload_n C hl 0 rfl dX8_act_8 rfl ?_
    refine z_iload_n C hl 1 rfl dX8_act_9 rfl ?_
    obtain ⟨r28, S29, h30, h⟩ := zcs h
    refine z_callVi C I (tX8_other l D tc b n h30) zyX8_other zyvX8_other zc8 g27 zq_855 (st := [zr (zg S a0 17)]) rfl rfl (by decide) (by decide) hl.1 (Nat.le_of_ble_eq_true rfl) dX8_act_10 (fun H locs I => ?_)
    refine z_ldc C zq_829 dX8_act_13 ?_
    obtain ⟨g31, h⟩ := zd_some h
    refine z_iast C I g31 dX8_act_15 (fun S32 e33 H locs I => ?_)
    have h := znb e33 h
    refine z_aload_n C hl 0 rfl dX8_act_16 rfl ?_
    refine z_get C I 8 18 zc8 g27 (by decide) zq_674 (v := zr (zg S32 a0 18)) rfl dX8_act_17 ?_
    refine z_aload_n C hl 0 rfl dX8_act_20 rfl ?_
    refine z_iload_n C hl 1 rfl dX8_act_21 rfl ?_
    obtain ⟨r34, S35, h36, h⟩ := zcs h
    refine z_callVi C I (tX8_other l D tc b n h36) zyX8_other zyvX8_other zc8 g27 zq_855 (st := [zr (zg S32 a0 18)]) rfl rfl (by decide) (by decide) hl.1 (Nat.le_of_ble_eq_true rfl) dX8_act_22 (fun H locs I => ?_)
    refine z_iconst C (v := 0) dX8_act_25 (by decide) ?_
    obtain ⟨g37, h⟩ := zd_some h
    refine z_iast C I g37 dX8_act_26 (fun S38 e39 H locs I => ?_)
    have h := znb e39 h
    refine z_goto C 99 dX8_act_27 (by decide) ?_
    exact z_vret C I hr hk h dX8_act_99

