def fX7_isSheet (n : Nat) (S : zM) (a0 : Int32) : Option (Int32 × zM) := if (a0 : Int32) < 0 then (some (0, S)) else (if (8 : Int32) ≤ (a0 : Int32) then (some (0, S)) else (some (1, S)))
theorem tX7_isSheet (l : Launch) (D : va_G) (tc : Nat → ClassId) (b n : Nat) {S S' : zM} {a0 : Int32} {r : Int32} (h : fX7_isSheet n S a0 = some (r, S')) : zMi l D tc b n yX7_isSheet cX7_isSheet 1 .boolean 0 [zi a0] S S' r := by
  refine zMi_of zyX7_isSheet (Nat.le_of_ble_eq_true rfl) (fun p e s m args below meth c H C hr hk ls hl I => ?_)
  have hl : zL b ls 1 [(0, zi a0)] := hl
  rw [fX7_isSheet] at h
  refine z_iload_n C hl 0 rfl dX7_isSheet_0 rfl ?_
  refine z_if_lt C 14 dX7_isSheet_1 (by decide) (fun c1 => ?_) (fun c1 => ?_)
  · have h := zit c1 h
    refine z_iconst C (v := 0) dX7_isSheet_14 (by decide) ?_
    exact z_zret C I hr hk rfl h dX7_isSheet_15
  · have h := zif c1 h
    refine z_iload_n C hl 0 rfl dX7_isSheet_4 rfl ?_
    refine z_bipush C (v := 8) dX7_isSheet_5 (by decide) ?_
    refine z_icmp_ge C 14 dX7_isSheet_7 (by decide) (fun c2 => ?_) (fun c2 => ?_)
    · have h := zit c2 h
      refine z_iconst C (v := 0) dX7_isSheet_14 (by decide) ?_
      exact z_zret C I hr hk rfl h dX7_isSheet_15
    · have h := zif c2 h
      refine z_iconst C (v := 1) dX7_isSheet_10 (by decide) ?_
      refine z_goto C 15 dX7_isSheet_11 (by decide) ?_
      exact z_zret C I hr hk rfl h dX7_isSheet_15

def fX7_found (n : Nat) (S : zM) (a0 : Int32) (a1 : Int32) : Option (Int32 × zM) := zd (zo n 17 a0) <| zbd (zp S a0 10 a1) fun S2 => some ((-1000010) - a1, S2)
theorem tX7_found (l : Launch) (D : va_G) (tc : Nat → ClassId) (b n : Nat) {S S' : zM} {a0 : Int32} {a1 : Int32} {r : Int32} (h : fX7_found n S a0 a1 = some (r, S')) : zMi l D tc b n yX7_found cX7_found 2 .int 0 [zr a0, zi a1] S S' r := by
  refine zMi_of zyX7_found (Nat.le_of_ble_eq_true rfl) (fun p e s m args below meth c H C hr hk ls hl I => ?_)
  have hl : zL b ls 2 [(0, zr a0), (1, zi a1)] := hl
  rw [fX7_found] at h
  refine z_aload_n C hl 0 rfl dX7_found_0 rfl ?_
  refine z_iload_n C hl 1 rfl dX7_found_1 rfl ?_
  obtain ⟨g1, h⟩ := zd_some h
  refine z_put C I 7 10 zc7 g1 (by decide) rfl zq_238 rfl (v := zi a1) rfl dX7_found_2 (fun S2 e3 H locs I => ?_)
  have h := znb e3 h
  refine z_ldcw C zq_274 dX7_found_5 ?_
  refine z_iload_n C hl 1 rfl dX7_found_8 rfl ?_
  refine z_isub C dX7_found_9 ?_
  exact z_iret C I hr hk h dX7_found_10

def fX7_passed (n : Nat) (S : zM) (a0 : Int32) (a1 : Int32) : Option (Int32 × zM) := zd (zo n 17 a0) <| zbd (zp S a0 10 0) fun S2 => some (a1, S2)
theorem tX7_passed (l : Launch) (D : va_G) (tc : Nat → ClassId) (b n : Nat) {S S' : zM} {a0 : Int32} {a1 : Int32} {r : Int32} (h : fX7_passed n S a0 a1 = some (r, S')) : zMi l D tc b n yX7_passed cX7_passed 2 .int 0 [zr a0, zi a1] S S' r := by
  refine zMi_of zyX7_passed (Nat.le_of_ble_eq_true rfl) (fun p e s m args below meth c H C hr hk ls hl I => ?_)
  have hl : zL b ls 2 [(0, zr a0), (1, zi a1)] := hl
  rw [fX7_passed] at h
  refine z_aload_n C hl 0 rfl dX7_passed_0 rfl ?_
  refine z_iconst C (v := 0) dX7_passed_1 (by decide) ?_
  obtain ⟨g1, h⟩ := zd_some h
  refine z_put C I 7 10 zc7 g1 (by decide) rfl zq_238 rfl (v := zi 0) rfl dX7_passed_2 (fun S2 e3 H locs I => ?_)
  have h := znb e3 h
  refine z_iload_n C hl 1 rfl dX7_passed_5 rfl ?_
  exact z_iret C I hr hk h dX7_passed_6

def fX7_sheet (n : Nat) (S : zM) (a0 : Int32) (a1 : Int32) (a2 : Int32) (a3 : Int32) : Option (Int32 × zM) := zca (fX7_isSheet n S a1) fun r1 S2 => if (r1 : Int32) = 0 then (some ((-1000001), S2)) else (if (a2 : Int32) < 0 then (some ((-1000001), S2)) else (if (2 : Int32) < (a2 : Int32) then (some ((-1000001), S2)) else (if (a3 : Int32) ≤ (60 : Int32) then (if 0 ≤ (a3 : Int32) then (zd (zo n 17 a0) <| zd (za n 2 (zg S2 a0 0) a1) <| zd (zo n 13 (ze S2 (zg S2 a0 0) a1)) <| zca (fX3_lay n S2 (ze S2 (zg S2 a0 0) a1) a2 a3) fun r12 S13 => zca (fX7_passed n S13 a0 a3) fun r15 S16 => some (r15, S16)) else (zd (zo n 17 a0) <| zca (fX7_found n S2 a0 4) fun r19 S20 => some (r19, S20))) else (some ((-1000001), S2)))))
theorem tX7_sheet (l : Launch) (D : va_G) (tc : Nat → ClassId) (b n : Nat) {S S' : zM} {a0 : Int32} {a1 : Int32} {a2 : Int32} {a3 : Int32} {r : Int32} (h : fX7_sheet n S a0 a1 a2 a3 = some (r, S')) : zMi l D tc b n yX7_sheet cX7_sheet 4 .int 1 [zr a0, zi a1, zi a2, zi a3] S S' r := by
  refine zMi_of zyX7_sheet (Nat.le_of_ble_eq_true rfl) (fun p e s m args below meth c H C hr hk ls hl I => ?_)
  have hl : zL b ls 4 [(0, zr a0), (1, zi a1), (2, zi a2), (3, zi a3)] := hl
  rw [fX7_sheet] at h
  refine z_iload_n C hl 1 rfl dX7_sheet_0 rfl ?_
  obtain ⟨r1, S2, h3, h⟩ := zcs h
  refine z_callSi C I (tX7_isSheet l D tc b n h3) zyX7_isSheet zq_267 zq_266 (st := []) rfl rfl (by decide) (by decide) hl.1 (Nat.le_of_ble_eq_true rfl) dX7_sheet_1 (fun H locs I => ?_)
  refine z_if_eq C 22 dX7_sheet_4 (by decide) (fun c4 => ?_) (fun c4 => ?_)
  · have h := zit c4 h
    refine z_ldc C zq_269 dX7_sheet_22 ?_
    exact z_iret C I hr hk h dX7_sheet_24
  · have h := zif c4 h
    refine z_iload_n C hl 2 rfl dX7_sheet_7 rfl ?_
    refine z_if_lt C 22 dX7_sheet_8 (by decide) (fun c5 => ?_) (fun c5 => ?_)
    · have h := zit c5 h
      refine z_ldc C zq_269 dX7_sheet_22 ?_
      exact z_iret C I hr hk h dX7_sheet_24
    · have h := zif c5 h
      refine z_iload_n C hl 2 rfl dX7_sheet_11 rfl ?_
      refine z_iconst C (v := 2) dX7_sheet_12 (by decide) ?_
      refine z_icmp_gt C 22 dX7_sheet_13 (by decide) (fun c6 => ?_) (fun c6 => ?_)
      · have h := zit c6 h
        refine z_ldc C zq_269 dX7_sheet_22 ?_
        exact z_iret C I hr hk h dX7_sheet_24
      · have h := zif c6 h
        refine z_iload_n C hl 3 rfl dX7_sheet_16 rfl ?_
        refine z_bipush C (v := 60) dX7_sheet_17 (by decide) ?_
        refine z_icmp_le C 25 dX7_sheet_19 (by decide) (fun c7 => ?_) (fun c7 => ?_)
        · have h := zit c7 h
          refine z_iload_n C hl 3 rfl dX7_sheet_25 rfl ?_
          refine z_if_ge C 35 dX7_sheet_26 (by decide) (fun c8 => ?_) (fun c8 => ?_)
          · have h := zit c8 h
            refine z_aload_n C hl 0 rfl dX7_sheet_35 rfl ?_
            obtain ⟨g9, h⟩ := zd_some h
            refine z_get C I 7 0 zc7 g9 (by decide) zq_228 (v := zr (zg S2 a0 0)) rfl dX7_sheet_36 ?_
            refine z_iload_n C hl 1 rfl dX7_sheet_39 rfl ?_
            obtain ⟨g10, h⟩ := zd_some h
            refine z_aald C I 2 (by decide) g10 dX7_sheet_40 ?_
            refine z_iload_n C hl 2 rfl dX7_sheet_41 rfl ?_
            refine z_iload_n C hl 3 rfl dX7_sheet_42 rfl ?_
            obtain ⟨g11, h⟩ := zd_some h
            obtain ⟨r12, S13, h14, h⟩ := zcs h
            refine z_callVv C I (tX3_lay l D tc b n h14) zyX3_lay zyvX3_lay zc3 g11 zq_275 (st := []) rfl rfl (by decide) (by decide) hl.1 (Nat.le_of_ble_eq_true rfl) dX7_sheet_43 (fun H locs I => ?_)
            refine z_aload_n C hl 0 rfl dX7_sheet_46 rfl ?_
            refine z_iload_n C hl 3 rfl dX7_sheet_47 rfl ?_
            obtain ⟨r15, S16, h17, h⟩ := zcs h
            refine z_callVi C I (tX7_passed l D tc b n h17) zyX7_passed zyvX7_passed zc7 g9 zq_279 (st := []) rfl rfl (by decide) (by decide) hl.1 (Nat.le_of_ble_eq_true rfl) dX7_sheet_48 (fun H locs I => ?_)
            exact z_iret C I hr hk h dX7_sheet_51
          · have h := zif c8 h
            refine z_aload_n C hl 0 rfl dX7_sheet_29 rfl ?_
            refine z_iconst C (v := 4) dX7_sheet_30 (by decide) ?_
            obtain ⟨g18, h⟩ := zd_some h
            obtain ⟨r19, S20, h21, h⟩ := zcs h
            refine z_callVi C I (tX7_found l D tc b n h21) zyX7_found zyvX7_found zc7 g18 zq_270 (st := []) rfl rfl (by decide) (by decide) hl.1 (Nat.le_of_ble_eq_true rfl) dX7_sheet_31 (fun H locs I => ?_)
            exact z_iret C I hr hk h dX7_sheet_34
        · have h := zif c7 h
          refine z_ldc C zq_269 dX7_sheet_22 ?_
          exact z_iret C I hr hk h dX7_sheet_24

def fX7_set (n : Nat) (S : zM) (a0 : Int32) (a1 : Int32) (a2 : Int32) (a3 : Int32) : Option (Int32 × zM) := zca (fX7_isSheet n S a1) fun r1 S2 => if (r1 : Int32) = 0 then (some ((-1000001), S2)) else (zd (zo n 17 a0) <| zd (za n 2 (zg S2 a0 0) a1) <| zbd (ze S2 (zg S2 a0 0) a1) fun v7 => zd (zo n 13 v7) <| if (zg S2 v7 1 : Int32) = 0 then (zca (fX3_hasPlaces n S2 v7 a2 1) fun r11 S12 => if (r11 : Int32) = 0 then (zca (fX7_found n S12 a0 2) fun r21 S22 => some (r21, S22)) else (zca (fX3_put n S12 v7 a2 a3) fun r15 S16 => zca (fX7_passed n S16 a0 r15) fun r18 S19 => some (r18, S19))) else (zca (fX7_found n S2 a0 1) fun r24 S25 => some (r24, S25)))
theorem tX7_set (l : Launch) (D : va_G) (tc : Nat → ClassId) (b n : Nat) {S S' : zM} {a0 : Int32} {a1 : Int32} {a2 : Int32} {a3 : Int32} {r : Int32} (h : fX7_set n S a0 a1 a2 a3 = some (r, S')) : zMi l D tc b n yX7_set cX7_set 5 .int 1 [zr a0, zi a1, zi a2, zi a3] S S' r := by
  refine zMi_of zyX7_set (Nat.le_of_ble_eq_true rfl) (fun p e s m args below meth c H C hr hk ls hl I => ?_)
  have hl : zL b ls 5 [(0, zr a0), (1, zi a1), (2, zi a2), (3, zi a3)] := hl
  rw [fX7_set] at h
  refine z_iload_n C hl 1 rfl dX7_set_0 rfl ?_
  obtain ⟨r1, S2, h3, h⟩ := zcs h
  refine z_callSi C I (tX7_isSheet l D tc b n h3) zyX7_isSheet zq_267 zq_266 (st := []) rfl rfl (by decide) (by decide) hl.1 (Nat.le_of_ble_eq_true rfl) dX7_set_1 (fun H locs I => ?_)
  refine z_if_ne C 10 dX7_set_4 (by decide) (fun c4 => ?_) (fun c4 => ?_)
  · have h := zif c4 h
    refine z_aload_n C hl 0 rfl dX7_set_10 rfl ?_
    obtain ⟨g5, h⟩ := zd_some h
    refine z_get C I 7 0 zc7 g5 (by decide) zq_228 (v := zr (zg S2 a0 0)) rfl dX7_set_11 ?_
    refine z_iload_n C hl 1 rfl dX7_set_14 rfl ?_
    obtain ⟨g6, h⟩ := zd_some h
    refine z_aald C I 2 (by decide) g6 dX7_set_15 ?_
    refine z_astore C hl dX7_set_16 (by decide) (fun v7 => [(4, zr v7), (0, zr a0), (1, zi a1), (2, zi a2), (3, zi a3)]) (fun _ => rfl) (fun v7 e8 ls hl => ?_)
    have h := znb e8 h
    refine z_aload C hl 0 rfl dX7_set_18 ?_
    obtain ⟨g9, h⟩ := zd_some h
    refine z_get C I 3 1 zc3 g9 (by decide) zq_188 (v := zi (zg S2 v7 1)) rfl dX7_set_20 ?_
    refine z_if_eq C 32 dX7_set_23 (by decide) (fun c10 => ?_) (fun c10 => ?_)
    · have h := zit c10 h
      refine z_aload C hl 0 rfl dX7_set_32 ?_
      refine z_iload_n C hl 3 rfl dX7_set_34 rfl ?_
      refine z_iconst C (v := 1) dX7_set_35 (by decide) ?_
      obtain ⟨r11, S12, h13, h⟩ := zcs h
      refine z_callVi C I (tX3_hasPlaces l D tc b n h13) zyX3_hasPlaces zyvX3_hasPlaces zc3 g9 zq_287 (st := []) rfl rfl (by decide) (by decide) hl.1 (Nat.le_of_ble_eq_true rfl) dX7_set_36 (fun H locs I => ?_)
      refine z_if_ne C 48 dX7_set_39 (by decide) (fun c14 => ?_) (fun c14 => ?_)
      · have h := zif c14 h
        refine z_aload_n C hl 1 rfl dX7_set_48 rfl ?_
        refine z_aload C hl 0 rfl dX7_set_49 ?_
        refine z_iload_n C hl 3 rfl dX7_set_51 rfl ?_
        refine z_iload_n C hl 4 rfl dX7_set_52 rfl ?_
        obtain ⟨r15, S16, h17, h⟩ := zcs h
        refine z_callVi C I (tX3_put l D tc b n h17) zyX3_put zyvX3_put zc3 g9 zq_291 (st := [zr a0]) rfl rfl (by decide) (by decide) hl.1 (Nat.le_of_ble_eq_true rfl) dX7_set_53 (fun H locs I => ?_)
        obtain ⟨r18, S19, h20, h⟩ := zcs h
        refine z_callVi C I (tX7_passed l D tc b n h20) zyX7_passed zyvX7_passed zc7 g5 zq_279 (st := []) rfl rfl (by decide) (by decide) hl.1 (Nat.le_of_ble_eq_true rfl) dX7_set_56 (fun H locs I => ?_)
        exact z_iret C I hr hk h dX7_set_59
      · have h := zit c14 h
        refine z_aload_n C hl 1 rfl dX7_set_42 rfl ?_
        refine z_iconst C (v := 2) dX7_set_43 (by decide) ?_
        obtain ⟨r21, S22, h23, h⟩ := zcs h
        refine z_callVi C I (tX7_found l D tc b n h23) zyX7_found zyvX7_found zc7 g5 zq_270 (st := []) rfl rfl (by decide) (by decide) hl.1 (Nat.le_of_ble_eq_true rfl) dX7_set_44 (fun H locs I => ?_)
        exact z_iret C I hr hk h dX7_set_47
    · have h := zif c10 h
      refine z_aload_n C hl 1 rfl dX7_set_26 rfl ?_
      refine z_iconst C (v := 1) dX7_set_27 (by decide) ?_
      obtain ⟨r24, S25, h26, h⟩ := zcs h
      refine z_callVi C I (tX7_found l D tc b n h26) zyX7_found zyvX7_found zc7 g5 zq_270 (st := []) rfl rfl (by decide) (by decide) hl.1 (Nat.le_of_ble_eq_true rfl) dX7_set_28 (fun H locs I => ?_)
      exact z_iret C I hr hk h dX7_set_31
  · have h := zit c4 h
    refine z_ldc C zq_269 dX7_set_7 ?_
    exact z_iret C I hr hk h dX7_set_9

def fX7_copy_49 (n : Nat) (S : zM) (x0 : Int32) : Option (Int32 × zM) := zd (zo n 17 x0) <| zca (fX7_found n S x0 1) fun r2 S3 => some (r2, S3)
theorem bX7_copy_49 {p : Program} {l : Launch} {e : Env} {s : State} {m : MethodId} {args : Array Value} {below : List Frame} {meth : Method} {c : Code} {D : va_G} {tc : Nat → ClassId} {b n : Nat} {S' : zM} {r : Int32} (C : zC p m c cX7_copy 8 s args yX7_copy.cls D tc) (hr : meth.sig.returnType = some .int) (hk : meth.locks = false) : ∀ (S : zM) (x0 : Int32) (H : Heap) (locs : List Loc) (ls : Array Slot), fX7_copy_49 n S x0 = some (r, S') → zI D tc b n S s H locs → zL b ls 8 [(0, zr x0)] → W p l e (zR 1) s m args below meth c H locs 0 0 (zQi D tc b n S' r below args s) (zG b m 49 ls []) := by
  intro S x0 H locs ls h I hl
  rw [fX7_copy_49] at h
  refine z_aload_n C hl 0 rfl dX7_copy_49 rfl ?_
  refine z_iconst C (v := 1) dX7_copy_50 (by decide) ?_
  obtain ⟨g1, h⟩ := zd_some h
  obtain ⟨r2, S3, h4, h⟩ := zcs h
  refine z_callVi C I (tX7_found l D tc b n h4) zyX7_found zyvX7_found zc7 g1 zq_270 (st := []) rfl rfl (by decide) (by decide) hl.1 (Nat.le_of_ble_eq_true rfl) dX7_copy_51 (fun H locs I => ?_)
  exact z_iret C I hr hk h dX7_copy_54

def fX7_copy_97 (n : Nat) (S : zM) (x0 : Int32) : Option (Int32 × zM) := zd (zo n 17 x0) <| zca (fX7_found n S x0 2) fun r2 S3 => some (r2, S3)
theorem bX7_copy_97 {p : Program} {l : Launch} {e : Env} {s : State} {m : MethodId} {args : Array Value} {below : List Frame} {meth : Method} {c : Code} {D : va_G} {tc : Nat → ClassId} {b n : Nat} {S' : zM} {r : Int32} (C : zC p m c cX7_copy 8 s args yX7_copy.cls D tc) (hr : meth.sig.returnType = some .int) (hk : meth.locks = false) : ∀ (S : zM) (x0 : Int32) (H : Heap) (locs : List Loc) (ls : Array Slot), fX7_copy_97 n S x0 = some (r, S') → zI D tc b n S s H locs → zL b ls 8 [(0, zr x0)] → W p l e (zR 1) s m args below meth c H locs 0 0 (zQi D tc b n S' r below args s) (zG b m 97 ls []) := by
  intro S x0 H locs ls h I hl
  rw [fX7_copy_97] at h
  refine z_aload_n C hl 0 rfl dX7_copy_97 rfl ?_
  refine z_iconst C (v := 2) dX7_copy_98 (by decide) ?_
  obtain ⟨g1, h⟩ := zd_some h
  obtain ⟨r2, S3, h4, h⟩ := zcs h
  refine z_callVi C I (tX7_found l D tc b n h4) zyX7_found zyvX7_found zc7 g1 zq_270 (st := []) rfl rfl (by decide) (by decide) hl.1 (Nat.le_of_ble_eq_true rfl) dX7_copy_99 (fun H locs I => ?_)
  exact z_iret C I hr hk h dX7_copy_102

def fX7_copy (n : Nat) (S : zM) (a0 : Int32) (a1 : Int32) (a2 : Int32) (a3 : Int32) (a4 : Int32) (a5 : Int32) : Option (Int32 × zM) := zca (fX7_isSheet n S a1) fun r1 S2 => if (r1 : Int32) = 0 then (some ((-1000001), S2)) else (zca (fX7_isSheet n S2 a3) fun r5 S6 => if (r5 : Int32) = 0 then (some ((-1000001), S6)) else (zd (zo n 17 a0) <| zd (za n 2 (zg S6 a0 0) a1) <| zbd (ze S6 (zg S6 a0 0) a1) fun v11 => zd (za n 2 (zg S6 a0 0) a3) <| zbd (ze S6 (zg S6 a0 0) a3) fun v14 => zd (zo n 13 v11) <| if (zg S6 v11 1 : Int32) = 0 then (zd (zo n 13 v14) <| if (zg S6 v14 1 : Int32) = 0 then (if (zg S6 v11 2 : Int32) = (zg S6 v14 2 : Int32) then (zca (fX3_hasPlaces n S6 v11 a2 a5) fun r21 S22 => if (r21 : Int32) = 0 then (fX7_copy_97 n S22 a0) else (zca (fX3_hasPlaces n S22 v14 a4 a5) fun r25 S26 => if (r25 : Int32) = 0 then (fX7_copy_97 n S26 a0) else (zd (zo n 0 (zg S26 v11 0)) <| zd (zo n 0 (zg S26 v14 0)) <| zd (zcg (zg S26 v11 0) (zg S26 v14 0) a2 a4 a5) <| zbd (zcy S26 (zg S26 v11 0) (zg S26 v14 0) a2 a4 a5) fun S32 => zca (fX7_passed n S32 a0 a5) fun r34 S35 => some (r34, S35)))) else (zca (fX7_found n S6 a0 5) fun r37 S38 => some (r37, S38))) else (fX7_copy_49 n S6 a0)) else (fX7_copy_49 n S6 a0)))
theorem tX7_copy (l : Launch) (D : va_G) (tc : Nat → ClassId) (b n : Nat) {S S' : zM} {a0 : Int32} {a1 : Int32} {a2 : Int32} {a3 : Int32} {a4 : Int32} {a5 : Int32} {r : Int32} (h : fX7_copy n S a0 a1 a2 a3 a4 a5 = some (r, S')) : zMi l D tc b n yX7_copy cX7_copy 8 .int 1 [zr a0, zi a1, zi a2, zi a3, zi a4, zi a5] S S' r := by
  refine zMi_of zyX7_copy (Nat.le_of_ble_eq_true rfl) (fun p e s m args below meth c H C hr hk ls hl I => ?_)
  have hl : zL b ls 8 [(0, zr a0), (1, zi a1), (2, zi a2), (3, zi a3), (4, zi a4), (5, zi a5)] := hl
  rw [fX7_copy] at h
  refine z_iload_n C hl 1 rfl dX7_copy_0 rfl ?_
  obtain ⟨r1, S2, h3, h⟩ := zcs h
  refine z_callSi C I (tX7_isSheet l D tc b n h3) zyX7_isSheet zq_267 zq_266 (st := []) rfl rfl (by decide) (by decide) hl.1 (Nat.le_of_ble_eq_true rfl) dX7_copy_1 (fun H locs I => ?_)
  refine z_if_eq C 14 dX7_copy_4 (by decide) (fun c4 => ?_) (fun c4 => ?_)
  · have h := zit c4 h
    refine z_ldc C zq_269 dX7_copy_14 ?_
    exact z_iret C I hr hk h dX7_copy_16
  · have h := zif c4 h
    refine z_iload_n C hl 3 rfl dX7_copy_7 rfl ?_
    obtain ⟨r5, S6, h7, h⟩ := zcs h
    refine z_callSi C I (tX7_isSheet l D tc b n h7) zyX7_isSheet zq_267 zq_266 (st := []) rfl rfl (by decide) (by decide) hl.1 (Nat.le_of_ble_eq_true rfl) dX7_copy_8 (fun H locs I => ?_)
    refine z_if_ne C 17 dX7_copy_11 (by decide) (fun c8 => ?_) (fun c8 => ?_)
    · have h := zif c8 h
      refine z_aload_n C hl 0 rfl dX7_copy_17 rfl ?_
      obtain ⟨g9, h⟩ := zd_some h
      refine z_get C I 7 0 zc7 g9 (by decide) zq_228 (v := zr (zg S6 a0 0)) rfl dX7_copy_18 ?_
      refine z_iload_n C hl 1 rfl dX7_copy_21 rfl ?_
      obtain ⟨g10, h⟩ := zd_some h
      refine z_aald C I 2 (by decide) g10 dX7_copy_22 ?_
      refine z_astore C hl dX7_copy_23 (by decide) (fun v11 => [(6, zr v11), (0, zr a0), (1, zi a1), (2, zi a2), (3, zi a3), (4, zi a4), (5, zi a5)]) (fun _ => rfl) (fun v11 e12 ls hl => ?_)
      have h := znb e12 h
      refine z_aload_n C hl 1 rfl dX7_copy_25 rfl ?_
      refine z_get C I 7 0 zc7 g9 (by decide) zq_228 (v := zr (zg S6 a0 0)) rfl dX7_copy_26 ?_
      refine z_iload_n C hl 4 rfl dX7_copy_29 rfl ?_
      obtain ⟨g13, h⟩ := zd_some h
      refine z_aald C I 2 (by decide) g13 dX7_copy_30 ?_
      refine z_astore C hl dX7_copy_31 (by decide) (fun v14 => [(7, zr v14), (6, zr v11), (0, zr a0), (1, zi a1), (2, zi a2), (3, zi a3), (4, zi a4), (5, zi a5)]) (fun _ => rfl) (fun v14 e15 ls hl => ?_)
      have h := znb e15 h
      refine z_aload C hl 1 rfl dX7_copy_33 ?_
      obtain ⟨g16, h⟩ := zd_some h
      refine z_get C I 3 1 zc3 g16 (by decide) zq_188 (v := zi (zg S6 v11 1)) rfl dX7_copy_35 ?_
      refine z_if_ne C 49 dX7_copy_38 (by decide) (fun c17 => ?_) (fun c17 => ?_)
      · have h := zif c17 h
        exact bX7_copy_49 C hr hk _ _ _ _ _ h I (zL_sub hl [2] rfl)
      · have h := zit c17 h
        refine z_aload C hl 0 rfl dX7_copy_41 ?_
        obtain ⟨g18, h⟩ := zd_some h
        refine z_get C I 3 1 zc3 g18 (by decide) zq_188 (v := zi (zg S6 v14 1)) rfl dX7_copy_43 ?_
        refine z_if_eq C 55 dX7_copy_46 (by decide) (fun c19 => ?_) (fun c19 => ?_)
        · have h := zit c19 h
          refine z_aload C hl 1 rfl dX7_copy_55 ?_
          refine z_get C I 3 2 zc3 g16 (by decide) zq_190 (v := zi (zg S6 v11 2)) rfl dX7_copy_57 ?_
          refine z_aload C hl 0 rfl dX7_copy_60 ?_
          refine z_get C I 3 2 zc3 g18 (by decide) zq_190 (v := zi (zg S6 v14 2)) rfl dX7_copy_62 ?_
          refine z_icmp_eq C 74 dX7_copy_65 (by decide) (fun c20 => ?_) (fun c20 => ?_)
          · have h := zit c20 h
            refine z_aload C hl 1 rfl dX7_copy_74 ?_
            refine z_iload_n C hl 4 rfl dX7_copy_76 rfl ?_
            refine z_iload C hl 7 rfl dX7_copy_77 ?_
            obtain ⟨r21, S22, h23, h⟩ := zcs h
            refine z_callVi C I (tX3_hasPlaces l D tc b n h23) zyX3_hasPlaces zyvX3_hasPlaces zc3 g16 zq_287 (st := []) rfl rfl (by decide) (by decide) hl.1 (Nat.le_of_ble_eq_true rfl) dX7_copy_79 (fun H locs I => ?_)
            refine z_if_eq C 97 dX7_copy_82 (by decide) (fun c24 => ?_) (fun c24 => ?_)
            · have h := zit c24 h
              exact bX7_copy_97 C hr hk _ _ _ _ _ h I (zL_sub hl [2] rfl)
            · have h := zif c24 h
              refine z_aload C hl 0 rfl dX7_copy_85 ?_
              refine z_iload C hl 6 rfl dX7_copy_87 ?_
              refine z_iload C hl 7 rfl dX7_copy_89 ?_
              obtain ⟨r25, S26, h27, h⟩ := zcs h
              refine z_callVi C I (tX3_hasPlaces l D tc b n h27) zyX3_hasPlaces zyvX3_hasPlaces zc3 g18 zq_287 (st := []) rfl rfl (by decide) (by decide) hl.1 (Nat.le_of_ble_eq_true rfl) dX7_copy_91 (fun H locs I => ?_)
              refine z_if_ne C 103 dX7_copy_94 (by decide) (fun c28 => ?_) (fun c28 => ?_)
              · have h := zif c28 h
                refine z_aload C hl 1 rfl dX7_copy_103 ?_
                refine z_get C I 3 0 zc3 g16 (by decide) zq_186 (v := zr (zg S26 v11 0)) rfl dX7_copy_105 ?_
                refine z_iload_n C hl 4 rfl dX7_copy_108 rfl ?_
                refine z_aload C hl 0 rfl dX7_copy_109 ?_
                refine z_get C I 3 0 zc3 g18 (by decide) zq_186 (v := zr (zg S26 v14 0)) rfl dX7_copy_111 ?_
                refine z_iload C hl 6 rfl dX7_copy_114 ?_
                refine z_iload C hl 7 rfl dX7_copy_116 ?_
                obtain ⟨g29, h⟩ := zd_some h
                obtain ⟨g30, h⟩ := zd_some h
                obtain ⟨g31, h⟩ := zd_some h
                refine z_copyi C I g29 g30 g31 zq_299 zq_301 zq_300 zq_10 hl.1 (by decide) (Nat.le_of_ble_eq_true rfl) dX7_copy_118 (fun S32 e33 H locs I => ?_)
                have h := znb e33 h
                refine z_aload_n C hl 2 rfl dX7_copy_121 rfl ?_
                refine z_iload C hl 7 rfl dX7_copy_122 ?_
                obtain ⟨r34, S35, h36, h⟩ := zcs h
                refine z_callVi C I (tX7_passed l D tc b n h36) zyX7_passed zyvX7_passed zc7 g9 zq_279 (st := []) rfl rfl (by decide) (by decide) hl.1 (Nat.le_of_ble_eq_true rfl) dX7_copy_124 (fun H locs I => ?_)
                exact z_iret C I hr hk h dX7_copy_127
              · have h := zit c28 h
                exact bX7_copy_97 C hr hk _ _ _ _ _ h I (zL_sub hl [2] rfl)
          · have h := zif c20 h
            refine z_aload_n C hl 2 rfl dX7_copy_68 rfl ?_
            refine z_iconst C (v := 5) dX7_copy_69 (by decide) ?_
            obtain ⟨r37, S38, h39, h⟩ := zcs h
            refine z_callVi C I (tX7_found l D tc b n h39) zyX7_found zyvX7_found zc7 g9 zq_270 (st := []) rfl rfl (by decide) (by decide) hl.1 (Nat.le_of_ble_eq_true rfl) dX7_copy_70 (fun H locs I => ?_)
            exact z_iret C I hr hk h dX7_copy_73
        · have h := zif c19 h
          exact bX7_copy_49 C hr hk _ _ _ _ _ h I (zL_sub hl [2] rfl)
    · have h := zit c8 h
      refine z_ldc C zq_269 dX7_copy_14 ?_
      exact z_iret C I hr hk h dX7_copy_16

def fX7_drop (n : Nat) (S : zM) (a0 : Int32) (a1 : Int32) : Option (Int32 × zM) := zca (fX7_isSheet n S a1) fun r1 S2 => if (r1 : Int32) = 0 then (some ((-1000001), S2)) else (zd (zo n 17 a0) <| zd (za n 2 (zg S2 a0 0) a1) <| zbd (ze S2 (zg S2 a0 0) a1) fun v7 => zd (zo n 13 v7) <| if (zg S2 v7 1 : Int32) = 0 then (zbd (zp S2 v7 1 1) fun S11 => zca (fX7_passed n S11 a0 (zg S11 v7 3)) fun r13 S14 => some (r13, S14)) else (zca (fX7_found n S2 a0 1) fun r16 S17 => some (r16, S17)))
theorem tX7_drop (l : Launch) (D : va_G) (tc : Nat → ClassId) (b n : Nat) {S S' : zM} {a0 : Int32} {a1 : Int32} {r : Int32} (h : fX7_drop n S a0 a1 = some (r, S')) : zMi l D tc b n yX7_drop cX7_drop 3 .int 1 [zr a0, zi a1] S S' r := by
  refine zMi_of zyX7_drop (Nat.le_of_ble_eq_true rfl) (fun p e s m args below meth c H C hr hk ls hl I => ?_)
  have hl : zL b ls 3 [(0, zr a0), (1, zi a1)] := hl
  rw [fX7_drop] at h
  refine z_iload_n C hl 1 rfl dX7_drop_0 rfl ?_
  obtain ⟨r1, S2, h3, h⟩ := zcs h
  refine z_callSi C I (tX7_isSheet l D tc b n h3) zyX7_isSheet zq_267 zq_266 (st := []) rfl rfl (by decide) (by decide) hl.1 (Nat.le_of_ble_eq_true rfl) dX7_drop_1 (fun H locs I => ?_)
  refine z_if_ne C 10 dX7_drop_4 (by decide) (fun c4 => ?_) (fun c4 => ?_)
  · have h := zif c4 h
    refine z_aload_n C hl 0 rfl dX7_drop_10 rfl ?_
    obtain ⟨g5, h⟩ := zd_some h
    refine z_get C I 7 0 zc7 g5 (by decide) zq_228 (v := zr (zg S2 a0 0)) rfl dX7_drop_11 ?_
    refine z_iload_n C hl 1 rfl dX7_drop_14 rfl ?_
    obtain ⟨g6, h⟩ := zd_some h
    refine z_aald C I 2 (by decide) g6 dX7_drop_15 ?_
    refine z_astore_n C hl dX7_drop_16 rfl (by decide) (fun v7 => [(2, zr v7), (0, zr a0), (1, zi a1)]) (fun _ => rfl) (fun v7 e8 ls hl => ?_)
    have h := znb e8 h
    refine z_aload_n C hl 0 rfl dX7_drop_17 rfl ?_
    obtain ⟨g9, h⟩ := zd_some h
    refine z_get C I 3 1 zc3 g9 (by decide) zq_188 (v := zi (zg S2 v7 1)) rfl dX7_drop_18 ?_
    refine z_if_eq C 30 dX7_drop_21 (by decide) (fun c10 => ?_) (fun c10 => ?_)
    · have h := zit c10 h
      refine z_aload_n C hl 0 rfl dX7_drop_30 rfl ?_
      refine z_iconst C (v := 1) dX7_drop_31 (by decide) ?_
      refine z_put C I 3 1 zc3 g9 (by decide) rfl zq_188 rfl (v := zi 1) rfl dX7_drop_32 (fun S11 e12 H locs I => ?_)
      have h := znb e12 h
      refine z_aload_n C hl 1 rfl dX7_drop_35 rfl ?_
      refine z_aload_n C hl 0 rfl dX7_drop_36 rfl ?_
      refine z_get C I 3 3 zc3 g9 (by decide) zq_192 (v := zi (zg S11 v7 3)) rfl dX7_drop_37 ?_
      obtain ⟨r13, S14, h15, h⟩ := zcs h
      refine z_callVi C I (tX7_passed l D tc b n h15) zyX7_passed zyvX7_passed zc7 g5 zq_279 (st := []) rfl rfl (by decide) (by decide) hl.1 (Nat.le_of_ble_eq_true rfl) dX7_drop_40 (fun H locs I => ?_)
      exact z_iret C I hr hk h dX7_drop_43
    · have h := zif c10 h
      refine z_aload_n C hl 1 rfl dX7_drop_24 rfl ?_
      refine z_iconst C (v := 1) dX7_drop_25 (by decide) ?_
      obtain ⟨r16, S17, h18, h⟩ := zcs h
      refine z_callVi C I (tX7_found l D tc b n h18) zyX7_found zyvX7_found zc7 g5 zq_270 (st := []) rfl rfl (by decide) (by decide) hl.1 (Nat.le_of_ble_eq_true rfl) dX7_drop_26 (fun H locs I => ?_)
      exact z_iret C I hr hk h dX7_drop_29
  · have h := zit c4 h
    refine z_ldc C zq_269 dX7_drop_7 ?_
    exact z_iret C I hr hk h dX7_drop_9

def fX7_leastFloor (n : Nat) (S : zM) (a0 : Int32) : Option (Int32 × zM) := zd (zo n 17 a0) <| if (zg S a0 2 : Int32) = 0 then (some (0, S)) else (zd (za n 3 (zg S a0 1) ((zg S a0 2) - 1)) <| zd (zo n 16 (ze S (zg S a0 1) ((zg S a0 2) - 1))) <| some (zg S (ze S (zg S a0 1) ((zg S a0 2) - 1)) 2, S))
theorem tX7_leastFloor (l : Launch) (D : va_G) (tc : Nat → ClassId) (b n : Nat) {S S' : zM} {a0 : Int32} {r : Int32} (h : fX7_leastFloor n S a0 = some (r, S')) : zMi l D tc b n yX7_leastFloor cX7_leastFloor 1 .int 0 [zr a0] S S' r := by
  refine zMi_of zyX7_leastFloor (Nat.le_of_ble_eq_true rfl) (fun p e s m args below meth c H C hr hk ls hl I => ?_)
  have hl : zL b ls 1 [(0, zr a0)] := hl
  rw [fX7_leastFloor] at h
  refine z_aload_n C hl 0 rfl dX7_leastFloor_0 rfl ?_
  obtain ⟨g1, h⟩ := zd_some h
  refine z_get C I 7 2 zc7 g1 (by decide) zq_230 (v := zi (zg S a0 2)) rfl dX7_leastFloor_1 ?_
  refine z_if_ne C 11 dX7_leastFloor_4 (by decide) (fun c2 => ?_) (fun c2 => ?_)
  · have h := zif c2 h
    refine z_aload_n C hl 0 rfl dX7_leastFloor_11 rfl ?_
    refine z_get C I 7 1 zc7 g1 (by decide) zq_229 (v := zr (zg S a0 1)) rfl dX7_leastFloor_12 ?_
    refine z_aload_n C hl 0 rfl dX7_leastFloor_15 rfl ?_
    refine z_get C I 7 2 zc7 g1 (by decide) zq_230 (v := zi (zg S a0 2)) rfl dX7_leastFloor_16 ?_
    refine z_iconst C (v := 1) dX7_leastFloor_19 (by decide) ?_
    refine z_isub C dX7_leastFloor_20 ?_
    obtain ⟨g3, h⟩ := zd_some h
    refine z_aald C I 3 (by decide) g3 dX7_leastFloor_21 ?_
    obtain ⟨g4, h⟩ := zd_some h
    refine z_get C I 6 2 zc6 g4 (by decide) zq_217 (v := zi (zg S (ze S (zg S a0 1) ((zg S a0 2) - 1)) 2)) rfl dX7_leastFloor_22 ?_
    exact z_iret C I hr hk h dX7_leastFloor_25
  · have h := zit c2 h
    refine z_iconst C (v := 0) dX7_leastFloor_7 (by decide) ?_
    refine z_goto C 25 dX7_leastFloor_8 (by decide) ?_
    exact z_iret C I hr hk h dX7_leastFloor_25

def fX7_version (n : Nat) (S : zM) (a0 : Int32) (a1 : Int32) (a2 : Int32) (a3 : Int32) : Option (Int32 × zM) := if (a1 : Int32) < (1 : Int32) then (some ((-1000001), S)) else (if (8 : Int32) < (a1 : Int32) then (some ((-1000001), S)) else (if (a3 : Int32) < 0 then (some ((-1000001), S)) else (if (a3 : Int32) < (256 : Int32) then (zd (zo n 17 a0) <| zca (fX7_leastFloor n S a0) fun r6 S7 => if (a2 : Int32) < (r6 : Int32) then (some ((-1000001), S7)) else (if (a2 : Int32) ≤ (zg S7 a0 2 : Int32) then (if (zg S7 a0 2 : Int32) < (10 : Int32) then (zd (za n 3 (zg S7 a0 1) (zg S7 a0 2)) <| zd (zo n 16 (ze S7 (zg S7 a0 1) (zg S7 a0 2))) <| zca (fX6_fill n S7 (ze S7 (zg S7 a0 1) (zg S7 a0 2)) a1 a2 a3) fun r14 S15 => zbd (zp S15 a0 2 ((zg S15 a0 2) + 1)) fun S17 => some ((zg S17 a0 2) - 1, S17)) else (some ((-1000003), S7))) else (some ((-1000001), S7)))) else (some ((-1000001), S)))))
theorem tX7_version (l : Launch) (D : va_G) (tc : Nat → ClassId) (b n : Nat) {S S' : zM} {a0 : Int32} {a1 : Int32} {a2 : Int32} {a3 : Int32} {r : Int32} (h : fX7_version n S a0 a1 a2 a3 = some (r, S')) : zMi l D tc b n yX7_version cX7_version 4 .int 1 [zr a0, zi a1, zi a2, zi a3] S S' r := by
  refine zMi_of zyX7_version (Nat.le_of_ble_eq_true rfl) (fun p e s m args below meth c H C hr hk ls hl I => ?_)
  have hl : zL b ls 4 [(0, zr a0), (1, zi a1), (2, zi a2), (3, zi a3)] := hl
  rw [fX7_version] at h
  refine z_iload_n C hl 1 rfl dX7_version_0 rfl ?_
  refine z_iconst C (v := 1) dX7_version_1 (by decide) ?_
  refine z_icmp_lt C 22 dX7_version_2 (by decide) (fun c1 => ?_) (fun c1 => ?_)
  · have h := zit c1 h
    refine z_ldc C zq_269 dX7_version_22 ?_
    exact z_iret C I hr hk h dX7_version_24
  · have h := zif c1 h
    refine z_iload_n C hl 1 rfl dX7_version_5 rfl ?_
    refine z_bipush C (v := 8) dX7_version_6 (by decide) ?_
    refine z_icmp_gt C 22 dX7_version_8 (by decide) (fun c2 => ?_) (fun c2 => ?_)
    · have h := zit c2 h
      refine z_ldc C zq_269 dX7_version_22 ?_
      exact z_iret C I hr hk h dX7_version_24
    · have h := zif c2 h
      refine z_iload_n C hl 3 rfl dX7_version_11 rfl ?_
      refine z_if_lt C 22 dX7_version_12 (by decide) (fun c3 => ?_) (fun c3 => ?_)
      · have h := zit c3 h
        refine z_ldc C zq_269 dX7_version_22 ?_
        exact z_iret C I hr hk h dX7_version_24
      · have h := zif c3 h
        refine z_iload_n C hl 3 rfl dX7_version_15 rfl ?_
        refine z_sipush C (v := 256) dX7_version_16 (by decide) ?_
        refine z_icmp_lt C 25 dX7_version_19 (by decide) (fun c4 => ?_) (fun c4 => ?_)
        · have h := zit c4 h
          refine z_iload_n C hl 2 rfl dX7_version_25 rfl ?_
          refine z_aload_n C hl 0 rfl dX7_version_26 rfl ?_
          obtain ⟨g5, h⟩ := zd_some h
          obtain ⟨r6, S7, h8, h⟩ := zcs h
          refine z_callVi C I (tX7_leastFloor l D tc b n h8) zyX7_leastFloor zyvX7_leastFloor zc7 g5 zq_310 (st := [zi a2]) rfl rfl (by decide) (by decide) hl.1 (Nat.le_of_ble_eq_true rfl) dX7_version_27 (fun H locs I => ?_)
          refine z_icmp_lt C 41 dX7_version_30 (by decide) (fun c9 => ?_) (fun c9 => ?_)
          · have h := zit c9 h
            refine z_ldc C zq_269 dX7_version_41 ?_
            exact z_iret C I hr hk h dX7_version_43
          · have h := zif c9 h
            refine z_iload_n C hl 2 rfl dX7_version_33 rfl ?_
            refine z_aload_n C hl 0 rfl dX7_version_34 rfl ?_
            refine z_get C I 7 2 zc7 g5 (by decide) zq_230 (v := zi (zg S7 a0 2)) rfl dX7_version_35 ?_
            refine z_icmp_le C 44 dX7_version_38 (by decide) (fun c10 => ?_) (fun c10 => ?_)
            · have h := zit c10 h
              refine z_aload_n C hl 0 rfl dX7_version_44 rfl ?_
              refine z_get C I 7 2 zc7 g5 (by decide) zq_230 (v := zi (zg S7 a0 2)) rfl dX7_version_45 ?_
              refine z_bipush C (v := 10) dX7_version_48 (by decide) ?_
              refine z_icmp_lt C 56 dX7_version_50 (by decide) (fun c11 => ?_) (fun c11 => ?_)
              · have h := zit c11 h
                refine z_aload_n C hl 0 rfl dX7_version_56 rfl ?_
                refine z_get C I 7 1 zc7 g5 (by decide) zq_229 (v := zr (zg S7 a0 1)) rfl dX7_version_57 ?_
                refine z_aload_n C hl 0 rfl dX7_version_60 rfl ?_
                refine z_get C I 7 2 zc7 g5 (by decide) zq_230 (v := zi (zg S7 a0 2)) rfl dX7_version_61 ?_
                obtain ⟨g12, h⟩ := zd_some h
                refine z_aald C I 3 (by decide) g12 dX7_version_64 ?_
                refine z_iload_n C hl 1 rfl dX7_version_65 rfl ?_
                refine z_iload_n C hl 2 rfl dX7_version_66 rfl ?_
                refine z_iload_n C hl 3 rfl dX7_version_67 rfl ?_
                obtain ⟨g13, h⟩ := zd_some h
                obtain ⟨r14, S15, h16, h⟩ := zcs h
                refine z_callVv C I (tX6_fill l D tc b n h16) zyX6_fill zyvX6_fill zc6 g13 zq_315 (st := []) rfl rfl (by decide) (by decide) hl.1 (Nat.le_of_ble_eq_true rfl) dX7_version_68 (fun H locs I => ?_)
                refine z_aload_n C hl 0 rfl dX7_version_71 rfl ?_
                refine z_dup C dX7_version_72 rfl ?_
                refine z_get C I 7 2 zc7 g5 (by decide) zq_230 (v := zi (zg S15 a0 2)) rfl dX7_version_73 ?_
                refine z_iconst C (v := 1) dX7_version_76 (by decide) ?_
                refine z_iadd C dX7_version_77 ?_
                refine z_put C I 7 2 zc7 g5 (by decide) rfl zq_230 rfl (v := zi ((zg S15 a0 2) + 1)) rfl dX7_version_78 (fun S17 e18 H locs I => ?_)
                have h := znb e18 h
                refine z_aload_n C hl 0 rfl dX7_version_81 rfl ?_
                refine z_get C I 7 2 zc7 g5 (by decide) zq_230 (v := zi (zg S17 a0 2)) rfl dX7_version_82 ?_
                refine z_iconst C (v := 1) dX7_version_85 (by decide) ?_
                refine z_isub C dX7_version_86 ?_
                exact z_iret C I hr hk h dX7_version_87
              · have h := zif c11 h
                refine z_ldc C zq_314 dX7_version_53 ?_
                exact z_iret C I hr hk h dX7_version_55
            · have h := zif c10 h
              refine z_ldc C zq_269 dX7_version_41 ?_
              exact z_iret C I hr hk h dX7_version_43
        · have h := zif c4 h
          refine z_ldc C zq_269 dX7_version_22 ?_
          exact z_iret C I hr hk h dX7_version_24

def fX7_isVersion (n : Nat) (S : zM) (a0 : Int32) (a1 : Int32) : Option (Int32 × zM) := if (a1 : Int32) < 0 then (some (0, S)) else (zd (zo n 17 a0) <| if (zg S a0 2 : Int32) ≤ (a1 : Int32) then (some (0, S)) else (some (1, S)))
theorem tX7_isVersion (l : Launch) (D : va_G) (tc : Nat → ClassId) (b n : Nat) {S S' : zM} {a0 : Int32} {a1 : Int32} {r : Int32} (h : fX7_isVersion n S a0 a1 = some (r, S')) : zMi l D tc b n yX7_isVersion cX7_isVersion 2 .boolean 0 [zr a0, zi a1] S S' r := by
  refine zMi_of zyX7_isVersion (Nat.le_of_ble_eq_true rfl) (fun p e s m args below meth c H C hr hk ls hl I => ?_)
  have hl : zL b ls 2 [(0, zr a0), (1, zi a1)] := hl
  rw [fX7_isVersion] at h
  refine z_iload_n C hl 1 rfl dX7_isVersion_0 rfl ?_
  refine z_if_lt C 16 dX7_isVersion_1 (by decide) (fun c1 => ?_) (fun c1 => ?_)
  · have h := zit c1 h
    refine z_iconst C (v := 0) dX7_isVersion_16 (by decide) ?_
    exact z_zret C I hr hk rfl h dX7_isVersion_17
  · have h := zif c1 h
    refine z_iload_n C hl 1 rfl dX7_isVersion_4 rfl ?_
    refine z_aload_n C hl 0 rfl dX7_isVersion_5 rfl ?_
    obtain ⟨g2, h⟩ := zd_some h
    refine z_get C I 7 2 zc7 g2 (by decide) zq_230 (v := zi (zg S a0 2)) rfl dX7_isVersion_6 ?_
    refine z_icmp_ge C 16 dX7_isVersion_9 (by decide) (fun c3 => ?_) (fun c3 => ?_)
    · have h := zit c3 h
      refine z_iconst C (v := 0) dX7_isVersion_16 (by decide) ?_
      exact z_zret C I hr hk rfl h dX7_isVersion_17
    · have h := zif c3 h
      refine z_iconst C (v := 1) dX7_isVersion_12 (by decide) ?_
      refine z_goto C 17 dX7_isVersion_13 (by decide) ?_
      exact z_zret C I hr hk rfl h dX7_isVersion_17

def fX7_isRise (n : Nat) (S : zM) (a0 : Int32) (a1 : Int32) (a2 : Int32) : Option (Int32 × zM) := zd (zo n 17 a0) <| zca (fX7_isVersion n S a0 a1) fun r2 S3 => if (r2 : Int32) = 0 then (some (0, S3)) else (zca (fX7_isVersion n S3 a0 a2) fun r6 S7 => if (r6 : Int32) = 0 then (some (0, S7)) else (if (a2 : Int32) ≤ (a1 : Int32) then (some (0, S7)) else (some (1, S7))))
theorem tX7_isRise (l : Launch) (D : va_G) (tc : Nat → ClassId) (b n : Nat) {S S' : zM} {a0 : Int32} {a1 : Int32} {a2 : Int32} {r : Int32} (h : fX7_isRise n S a0 a1 a2 = some (r, S')) : zMi l D tc b n yX7_isRise cX7_isRise 3 .boolean 1 [zr a0, zi a1, zi a2] S S' r := by
  refine zMi_of zyX7_isRise (Nat.le_of_ble_eq_true rfl) (fun p e s m args below meth c H C hr hk ls hl I => ?_)
  have hl : zL b ls 3 [(0, zr a0), (1, zi a1), (2, zi a2)] := hl
  rw [fX7_isRise] at h
  refine z_aload_n C hl 0 rfl dX7_isRise_0 rfl ?_
  refine z_iload_n C hl 1 rfl dX7_isRise_1 rfl ?_
  obtain ⟨g1, h⟩ := zd_some h
  obtain ⟨r2, S3, h4, h⟩ := zcs h
  refine z_callVi C I (tX7_isVersion l D tc b n h4) zyX7_isVersion zyvX7_isVersion zc7 g1 zq_327 (st := []) rfl rfl (by decide) (by decide) hl.1 (Nat.le_of_ble_eq_true rfl) dX7_isRise_2 (fun H locs I => ?_)
  refine z_if_eq C 25 dX7_isRise_5 (by decide) (fun c5 => ?_) (fun c5 => ?_)
  · have h := zit c5 h
    refine z_iconst C (v := 0) dX7_isRise_25 (by decide) ?_
    exact z_zret C I hr hk rfl h dX7_isRise_26
  · have h := zif c5 h
    refine z_aload_n C hl 0 rfl dX7_isRise_8 rfl ?_
    refine z_iload_n C hl 2 rfl dX7_isRise_9 rfl ?_
    obtain ⟨r6, S7, h8, h⟩ := zcs h
    refine z_callVi C I (tX7_isVersion l D tc b n h8) zyX7_isVersion zyvX7_isVersion zc7 g1 zq_327 (st := []) rfl rfl (by decide) (by decide) hl.1 (Nat.le_of_ble_eq_true rfl) dX7_isRise_10 (fun H locs I => ?_)
    refine z_if_eq C 25 dX7_isRise_13 (by decide) (fun c9 => ?_) (fun c9 => ?_)
    · have h := zit c9 h
      refine z_iconst C (v := 0) dX7_isRise_25 (by decide) ?_
      exact z_zret C I hr hk rfl h dX7_isRise_26
    · have h := zif c9 h
      refine z_iload_n C hl 1 rfl dX7_isRise_16 rfl ?_
      refine z_iload_n C hl 2 rfl dX7_isRise_17 rfl ?_
      refine z_icmp_ge C 25 dX7_isRise_18 (by decide) (fun c10 => ?_) (fun c10 => ?_)
      · have h := zit c10 h
        refine z_iconst C (v := 0) dX7_isRise_25 (by decide) ?_
        exact z_zret C I hr hk rfl h dX7_isRise_26
      · have h := zif c10 h
        refine z_iconst C (v := 1) dX7_isRise_21 (by decide) ?_
        refine z_goto C 26 dX7_isRise_22 (by decide) ?_
        exact z_zret C I hr hk rfl h dX7_isRise_26

def fX7_step (n : Nat) (S : zM) (a0 : Int32) (a1 : Int32) (a2 : Int32) (a3 : Int32) : Option (Int32 × zM) := zd (zo n 17 a0) <| zca (fX7_isRise n S a0 a1 a2) fun r2 S3 => if (r2 : Int32) = 0 then (some ((-1000001), S3)) else (if (a3 : Int32) < (1 : Int32) then (some ((-1000001), S3)) else (if (a3 : Int32) ≤ (1000 : Int32) then (zd (zo n 15 (zg S3 a0 3)) <| zca (fX5_exchange n S3 (zg S3 a0 3) a1 a2 a3) fun r9 S10 => some (r9, S10)) else (some ((-1000001), S3))))
theorem tX7_step (l : Launch) (D : va_G) (tc : Nat → ClassId) (b n : Nat) {S S' : zM} {a0 : Int32} {a1 : Int32} {a2 : Int32} {a3 : Int32} {r : Int32} (h : fX7_step n S a0 a1 a2 a3 = some (r, S')) : zMi l D tc b n yX7_step cX7_step 4 .int 2 [zr a0, zi a1, zi a2, zi a3] S S' r := by
  refine zMi_of zyX7_step (Nat.le_of_ble_eq_true rfl) (fun p e s m args below meth c H C hr hk ls hl I => ?_)
  have hl : zL b ls 4 [(0, zr a0), (1, zi a1), (2, zi a2), (3, zi a3)] := hl
  rw [fX7_step] at h
  refine z_aload_n C hl 0 rfl dX7_step_0 rfl ?_
  refine z_iload_n C hl 1 rfl dX7_step_1 rfl ?_
  refine z_iload_n C hl 2 rfl dX7_step_2 rfl ?_
  obtain ⟨g1, h⟩ := zd_some h
  obtain ⟨r2, S3, h4, h⟩ := zcs h
  refine z_callVi C I (tX7_isRise l D tc b n h4) zyX7_isRise zyvX7_isRise zc7 g1 zq_323 (st := []) rfl rfl (by decide) (by decide) hl.1 (Nat.le_of_ble_eq_true rfl) dX7_step_3 (fun H locs I => ?_)
  refine z_if_eq C 21 dX7_step_6 (by decide) (fun c5 => ?_) (fun c5 => ?_)
  · have h := zit c5 h
    refine z_ldc C zq_269 dX7_step_21 ?_
    exact z_iret C I hr hk h dX7_step_23
  · have h := zif c5 h
    refine z_iload_n C hl 3 rfl dX7_step_9 rfl ?_
    refine z_iconst C (v := 1) dX7_step_10 (by decide) ?_
    refine z_icmp_lt C 21 dX7_step_11 (by decide) (fun c6 => ?_) (fun c6 => ?_)
    · have h := zit c6 h
      refine z_ldc C zq_269 dX7_step_21 ?_
      exact z_iret C I hr hk h dX7_step_23
    · have h := zif c6 h
      refine z_iload_n C hl 3 rfl dX7_step_14 rfl ?_
      refine z_sipush C (v := 1000) dX7_step_15 (by decide) ?_
      refine z_icmp_le C 24 dX7_step_18 (by decide) (fun c7 => ?_) (fun c7 => ?_)
      · have h := zit c7 h
        refine z_aload_n C hl 0 rfl dX7_step_24 rfl ?_
        refine z_get C I 7 3 zc7 g1 (by decide) zq_231 (v := zr (zg S3 a0 3)) rfl dX7_step_25 ?_
        refine z_iload_n C hl 1 rfl dX7_step_28 rfl ?_
        refine z_iload_n C hl 2 rfl dX7_step_29 rfl ?_
        refine z_iload_n C hl 3 rfl dX7_step_30 rfl ?_
        obtain ⟨g8, h⟩ := zd_some h
        obtain ⟨r9, S10, h11, h⟩ := zcs h
        refine z_callVi C I (tX5_exchange l D tc b n h11) zyX5_exchange zyvX5_exchange zc5 g8 zq_331 (st := []) rfl rfl (by decide) (by decide) hl.1 (Nat.le_of_ble_eq_true rfl) dX7_step_31 (fun H locs I => ?_)
        exact z_iret C I hr hk h dX7_step_34
      · have h := zif c7 h
        refine z_ldc C zq_269 dX7_step_21 ?_
        exact z_iret C I hr hk h dX7_step_23

def fX7_path (n : Nat) (S : zM) (a0 : Int32) (a1 : Int32) (a2 : Int32) (a3 : Int32) : Option (Int32 × zM) := zd (zo n 17 a0) <| zca (fX7_isRise n S a0 a1 a2) fun r2 S3 => if (r2 : Int32) = 0 then (some ((-1000001), S3)) else (if (a3 : Int32) < 0 then (some ((-1000001), S3)) else (if (a3 : Int32) ≤ (1 : Int32) then (zd (zo n 15 (zg S3 a0 3)) <| zca (fX5_search n S3 (zg S3 a0 3) a1 a2) fun r9 S10 => if (r9 : Int32) = 0 then (some ((-1000000), S10)) else (if (a3 : Int32) = 0 then (zd (zo n 15 (zg S10 a0 3)) <| zd (za n 0 (zg S10 (zg S10 a0 3) 1) a1) <| some (ze S10 (zg S10 (zg S10 a0 3) 1) a1, S10)) else (zd (zo n 15 (zg S10 a0 3)) <| zd (za n 0 (zg S10 (zg S10 a0 3) 2) a1) <| some (ze S10 (zg S10 (zg S10 a0 3) 2) a1, S10)))) else (some ((-1000001), S3))))
theorem tX7_path (l : Launch) (D : va_G) (tc : Nat → ClassId) (b n : Nat) {S S' : zM} {a0 : Int32} {a1 : Int32} {a2 : Int32} {a3 : Int32} {r : Int32} (h : fX7_path n S a0 a1 a2 a3 = some (r, S')) : zMi l D tc b n yX7_path cX7_path 4 .int 2 [zr a0, zi a1, zi a2, zi a3] S S' r := by
  refine zMi_of zyX7_path (Nat.le_of_ble_eq_true rfl) (fun p e s m args below meth c H C hr hk ls hl I => ?_)
  have hl : zL b ls 4 [(0, zr a0), (1, zi a1), (2, zi a2), (3, zi a3)] := hl
  rw [fX7_path] at h
  refine z_aload_n C hl 0 rfl dX7_path_0 rfl ?_
  refine z_iload_n C hl 1 rfl dX7_path_1 rfl ?_
  refine z_iload_n C hl 2 rfl dX7_path_2 rfl ?_
  obtain ⟨g1, h⟩ := zd_some h
  obtain ⟨r2, S3, h4, h⟩ := zcs h
  refine z_callVi C I (tX7_isRise l D tc b n h4) zyX7_isRise zyvX7_isRise zc7 g1 zq_323 (st := []) rfl rfl (by decide) (by decide) hl.1 (Nat.le_of_ble_eq_true rfl) dX7_path_3 (fun H locs I => ?_)
  refine z_if_eq C 18 dX7_path_6 (by decide) (fun c5 => ?_) (fun c5 => ?_)
  · have h := zit c5 h
    refine z_ldc C zq_269 dX7_path_18 ?_
    exact z_iret C I hr hk h dX7_path_20
  · have h := zif c5 h
    refine z_iload_n C hl 3 rfl dX7_path_9 rfl ?_
    refine z_if_lt C 18 dX7_path_10 (by decide) (fun c6 => ?_) (fun c6 => ?_)
    · have h := zit c6 h
      refine z_ldc C zq_269 dX7_path_18 ?_
      exact z_iret C I hr hk h dX7_path_20
    · have h := zif c6 h
      refine z_iload_n C hl 3 rfl dX7_path_13 rfl ?_
      refine z_iconst C (v := 1) dX7_path_14 (by decide) ?_
      refine z_icmp_le C 21 dX7_path_15 (by decide) (fun c7 => ?_) (fun c7 => ?_)
      · have h := zit c7 h
        refine z_aload_n C hl 0 rfl dX7_path_21 rfl ?_
        refine z_get C I 7 3 zc7 g1 (by decide) zq_231 (v := zr (zg S3 a0 3)) rfl dX7_path_22 ?_
        refine z_iload_n C hl 1 rfl dX7_path_25 rfl ?_
        refine z_iload_n C hl 2 rfl dX7_path_26 rfl ?_
        obtain ⟨g8, h⟩ := zd_some h
        obtain ⟨r9, S10, h11, h⟩ := zcs h
        refine z_callVi C I (tX5_search l D tc b n h11) zyX5_search zyvX5_search zc5 g8 zq_339 (st := []) rfl rfl (by decide) (by decide) hl.1 (Nat.le_of_ble_eq_true rfl) dX7_path_27 (fun H locs I => ?_)
        refine z_if_ne C 36 dX7_path_30 (by decide) (fun c12 => ?_) (fun c12 => ?_)
        · have h := zif c12 h
          refine z_iload_n C hl 3 rfl dX7_path_36 rfl ?_
          refine z_if_ne C 52 dX7_path_37 (by decide) (fun c13 => ?_) (fun c13 => ?_)
          · have h := zif c13 h
            refine z_aload_n C hl 0 rfl dX7_path_52 rfl ?_
            refine z_get C I 7 3 zc7 g1 (by decide) zq_231 (v := zr (zg S10 a0 3)) rfl dX7_path_53 ?_
            obtain ⟨g14, h⟩ := zd_some h
            refine z_get C I 5 2 zc5 g14 (by decide) zq_36 (v := zr (zg S10 (zg S10 a0 3) 2)) rfl dX7_path_56 ?_
            refine z_iload_n C hl 1 rfl dX7_path_59 rfl ?_
            obtain ⟨g15, h⟩ := zd_some h
            refine z_iald C I g15 dX7_path_60 ?_
            exact z_iret C I hr hk h dX7_path_61
          · have h := zit c13 h
            refine z_aload_n C hl 0 rfl dX7_path_40 rfl ?_
            refine z_get C I 7 3 zc7 g1 (by decide) zq_231 (v := zr (zg S10 a0 3)) rfl dX7_path_41 ?_
            obtain ⟨g16, h⟩ := zd_some h
            refine z_get C I 5 1 zc5 g16 (by decide) zq_34 (v := zr (zg S10 (zg S10 a0 3) 1)) rfl dX7_path_44 ?_
            refine z_iload_n C hl 1 rfl dX7_path_47 rfl ?_
            obtain ⟨g17, h⟩ := zd_some h
            refine z_iald C I g17 dX7_path_48 ?_
            refine z_goto C 61 dX7_path_49 (by decide) ?_
            exact z_iret C I hr hk h dX7_path_61
        · have h := zit c12 h
          refine z_ldc C zq_347 dX7_path_33 ?_
          exact z_iret C I hr hk h dX7_path_35
      · have h := zif c7 h
        refine z_ldc C zq_269 dX7_path_18 ?_
        exact z_iret C I hr hk h dX7_path_20

def fX7_on (n : Nat) (S : zM) (a0 : Int32) (a1 : Int32) (a2 : Int32) (a3 : Int32) : Option (Int32 × zM) := zd (zo n 17 a0) <| zca (fX7_isRise n S a0 a1 a2) fun r2 S3 => if (r2 : Int32) = 0 then (some ((-1000001), S3)) else (zd (zo n 15 (zg S3 a0 3)) <| zca (fX5_search n S3 (zg S3 a0 3) a1 a2) fun r7 S8 => if (r7 : Int32) = 0 then (some ((-1000000), S8)) else (zd (zo n 15 (zg S8 a0 3)) <| zca (fX5_follow n S8 (zg S8 a0 3) a1 a3) fun r12 S13 => some (r12, S13)))
theorem tX7_on (l : Launch) (D : va_G) (tc : Nat → ClassId) (b n : Nat) {S S' : zM} {a0 : Int32} {a1 : Int32} {a2 : Int32} {a3 : Int32} {r : Int32} (h : fX7_on n S a0 a1 a2 a3 = some (r, S')) : zMi l D tc b n yX7_on cX7_on 4 .int 2 [zr a0, zi a1, zi a2, zi a3] S S' r := by
  refine zMi_of zyX7_on (Nat.le_of_ble_eq_true rfl) (fun p e s m args below meth c H C hr hk ls hl I => ?_)
  have hl : zL b ls 4 [(0, zr a0), (1, zi a1), (2, zi a2), (3, zi a3)] := hl
  rw [fX7_on] at h
  refine z_aload_n C hl 0 rfl dX7_on_0 rfl ?_
  refine z_iload_n C hl 1 rfl dX7_on_1 rfl ?_
  refine z_iload_n C hl 2 rfl dX7_on_2 rfl ?_
  obtain ⟨g1, h⟩ := zd_some h
  obtain ⟨r2, S3, h4, h⟩ := zcs h
  refine z_callVi C I (tX7_isRise l D tc b n h4) zyX7_isRise zyvX7_isRise zc7 g1 zq_323 (st := []) rfl rfl (by decide) (by decide) hl.1 (Nat.le_of_ble_eq_true rfl) dX7_on_3 (fun H locs I => ?_)
  refine z_if_ne C 12 dX7_on_6 (by decide) (fun c5 => ?_) (fun c5 => ?_)
  · have h := zif c5 h
    refine z_aload_n C hl 0 rfl dX7_on_12 rfl ?_
    refine z_get C I 7 3 zc7 g1 (by decide) zq_231 (v := zr (zg S3 a0 3)) rfl dX7_on_13 ?_
    refine z_iload_n C hl 1 rfl dX7_on_16 rfl ?_
    refine z_iload_n C hl 2 rfl dX7_on_17 rfl ?_
    obtain ⟨g6, h⟩ := zd_some h
    obtain ⟨r7, S8, h9, h⟩ := zcs h
    refine z_callVi C I (tX5_search l D tc b n h9) zyX5_search zyvX5_search zc5 g6 zq_339 (st := []) rfl rfl (by decide) (by decide) hl.1 (Nat.le_of_ble_eq_true rfl) dX7_on_18 (fun H locs I => ?_)
    refine z_if_ne C 27 dX7_on_21 (by decide) (fun c10 => ?_) (fun c10 => ?_)
    · have h := zif c10 h
      refine z_aload_n C hl 0 rfl dX7_on_27 rfl ?_
      refine z_get C I 7 3 zc7 g1 (by decide) zq_231 (v := zr (zg S8 a0 3)) rfl dX7_on_28 ?_
      refine z_iload_n C hl 1 rfl dX7_on_31 rfl ?_
      refine z_iload_n C hl 3 rfl dX7_on_32 rfl ?_
      obtain ⟨g11, h⟩ := zd_some h
      obtain ⟨r12, S13, h14, h⟩ := zcs h
      refine z_callVi C I (tX5_follow l D tc b n h14) zyX5_follow zyvX5_follow zc5 g11 zq_352 (st := []) rfl rfl (by decide) (by decide) hl.1 (Nat.le_of_ble_eq_true rfl) dX7_on_33 (fun H locs I => ?_)
      exact z_iret C I hr hk h dX7_on_36
    · have h := zit c10 h
      refine z_ldc C zq_347 dX7_on_24 ?_
      exact z_iret C I hr hk h dX7_on_26
  · have h := zit c5 h
    refine z_ldc C zq_269 dX7_on_9 ?_
    exact z_iret C I hr hk h dX7_on_11

def fX7_isDevice (n : Nat) (S : zM) (a0 : Int32) (a1 : Int32) : Option (Int32 × zM) := if (a1 : Int32) < 0 then (some (0, S)) else (zd (zo n 17 a0) <| if (zg S a0 5 : Int32) ≤ (a1 : Int32) then (some (0, S)) else (some (1, S)))
theorem tX7_isDevice (l : Launch) (D : va_G) (tc : Nat → ClassId) (b n : Nat) {S S' : zM} {a0 : Int32} {a1 : Int32} {r : Int32} (h : fX7_isDevice n S a0 a1 = some (r, S')) : zMi l D tc b n yX7_isDevice cX7_isDevice 2 .boolean 0 [zr a0, zi a1] S S' r := by
  refine zMi_of zyX7_isDevice (Nat.le_of_ble_eq_true rfl) (fun p e s m args below meth c H C hr hk ls hl I => ?_)
  have hl : zL b ls 2 [(0, zr a0), (1, zi a1)] := hl
  rw [fX7_isDevice] at h
  refine z_iload_n C hl 1 rfl dX7_isDevice_0 rfl ?_
  refine z_if_lt C 16 dX7_isDevice_1 (by decide) (fun c1 => ?_) (fun c1 => ?_)
  · have h := zit c1 h
    refine z_iconst C (v := 0) dX7_isDevice_16 (by decide) ?_
    exact z_zret C I hr hk rfl h dX7_isDevice_17
  · have h := zif c1 h
    refine z_iload_n C hl 1 rfl dX7_isDevice_4 rfl ?_
    refine z_aload_n C hl 0 rfl dX7_isDevice_5 rfl ?_
    obtain ⟨g2, h⟩ := zd_some h
    refine z_get C I 7 5 zc7 g2 (by decide) zq_233 (v := zi (zg S a0 5)) rfl dX7_isDevice_6 ?_
    refine z_icmp_ge C 16 dX7_isDevice_9 (by decide) (fun c3 => ?_) (fun c3 => ?_)
    · have h := zit c3 h
      refine z_iconst C (v := 0) dX7_isDevice_16 (by decide) ?_
      exact z_zret C I hr hk rfl h dX7_isDevice_17
    · have h := zif c3 h
      refine z_iconst C (v := 1) dX7_isDevice_12 (by decide) ?_
      refine z_goto C 17 dX7_isDevice_13 (by decide) ?_
      exact z_zret C I hr hk rfl h dX7_isDevice_17

def fX7_device_95 (n : Nat) (S : zM) (x0 : Int32) (y0 : Int32) (y1 : Int32) (y2 : Int32) (y3 : Int32) : Option (Int32 × zM) := zd (zo n 12 y3) <| zca (fX2_arrive n S y3 y2 y1 y0) fun r2 S3 => zd (zo n 17 x0) <| zbd (zp S3 x0 5 ((zg S3 x0 5) + 1)) fun S6 => some ((zg S6 x0 5) - 1, S6)
theorem bX7_device_95 {p : Program} {l : Launch} {e : Env} {s : State} {m : MethodId} {args : Array Value} {below : List Frame} {meth : Method} {c : Code} {D : va_G} {tc : Nat → ClassId} {b n : Nat} {S' : zM} {r : Int32} (C : zC p m c cX7_device 4 s args yX7_device.cls D tc) (hr : meth.sig.returnType = some .int) (hk : meth.locks = false) : ∀ (S : zM) (x0 : Int32) (y0 : Int32) (y1 : Int32) (y2 : Int32) (y3 : Int32) (H : Heap) (locs : List Loc) (ls : Array Slot), fX7_device_95 n S x0 y0 y1 y2 y3 = some (r, S') → zI D tc b n S s H locs → zL b ls 4 [(0, zr x0)] → W p l e (zR 2) s m args below meth c H locs 0 0 (zQi D tc b n S' r below args s) (zG b m 95 ls [zr y0, zr y1, zi y2, zr y3]) := by
  intro S x0 y0 y1 y2 y3 H locs ls h I hl
  rw [fX7_device_95] at h
  obtain ⟨g1, h⟩ := zd_some h
  obtain ⟨r2, S3, h4, h⟩ := zcs h
  refine z_callVv C I (tX2_arrive l D tc b n h4) zyX2_arrive zyvX2_arrive zc2 g1 zq_370 (st := []) rfl rfl (by decide) (by decide) hl.1 (Nat.le_of_ble_eq_true rfl) dX7_device_95 (fun H locs I => ?_)
  refine z_aload_n C hl 0 rfl dX7_device_98 rfl ?_
  refine z_dup C dX7_device_99 rfl ?_
  obtain ⟨g5, h⟩ := zd_some h
  refine z_get C I 7 5 zc7 g5 (by decide) zq_233 (v := zi (zg S3 x0 5)) rfl dX7_device_100 ?_
  refine z_iconst C (v := 1) dX7_device_103 (by decide) ?_
  refine z_iadd C dX7_device_104 ?_
  refine z_put C I 7 5 zc7 g5 (by decide) rfl zq_233 rfl (v := zi ((zg S3 x0 5) + 1)) rfl dX7_device_105 (fun S6 e7 H locs I => ?_)
  have h := znb e7 h
  refine z_aload_n C hl 0 rfl dX7_device_108 rfl ?_
  refine z_get C I 7 5 zc7 g5 (by decide) zq_233 (v := zi (zg S6 x0 5)) rfl dX7_device_109 ?_
  refine z_iconst C (v := 1) dX7_device_112 (by decide) ?_
  refine z_isub C dX7_device_113 ?_
  exact z_iret C I hr hk h dX7_device_114

def fX7_device_35 (n : Nat) (S : zM) (x0 : Int32) (x1 : Int32) (x2 : Int32) (x3 : Int32) : Option (Int32 × zM) := zd (zo n 17 x0) <| zd (za n 3 (zg S x0 1) x2) <| zd (zo n 16 (ze S (zg S x0 1) x2)) <| zca (fX6_ailsOn n S (ze S (zg S x0 1) x2) x1) fun r4 S5 => if (r4 : Int32) = 0 then (if (zg S5 x0 5 : Int32) < (30 : Int32) then (zd (za n 4 (zg S5 x0 4) (zg S5 x0 5)) <| zd (za n 3 (zg S5 x0 1) x2) <| if (x3 : Int32) = ((-1000000) : Int32) then (fX7_device_95 n S5 x0 (-1) (ze S5 (zg S5 x0 1) x2) x1 (ze S5 (zg S5 x0 4) (zg S5 x0 5))) else (zd (za n 4 (zg S5 x0 4) x3) <| fX7_device_95 n S5 x0 (ze S5 (zg S5 x0 4) x3) (ze S5 (zg S5 x0 1) x2) x1 (ze S5 (zg S5 x0 4) (zg S5 x0 5)))) else (some ((-1000003), S5))) else (some ((-1000002), S5))
theorem bX7_device_35 {p : Program} {l : Launch} {e : Env} {s : State} {m : MethodId} {args : Array Value} {below : List Frame} {meth : Method} {c : Code} {D : va_G} {tc : Nat → ClassId} {b n : Nat} {S' : zM} {r : Int32} (C : zC p m c cX7_device 4 s args yX7_device.cls D tc) (hr : meth.sig.returnType = some .int) (hk : meth.locks = false) : ∀ (S : zM) (x0 : Int32) (x1 : Int32) (x2 : Int32) (x3 : Int32) (H : Heap) (locs : List Loc) (ls : Array Slot), fX7_device_35 n S x0 x1 x2 x3 = some (r, S') → zI D tc b n S s H locs → zL b ls 4 [(0, zr x0), (1, zi x1), (2, zi x2), (3, zi x3)] → W p l e (zR 2) s m args below meth c H locs 0 0 (zQi D tc b n S' r below args s) (zG b m 35 ls []) := by
  intro S x0 x1 x2 x3 H locs ls h I hl
  rw [fX7_device_35] at h
  refine z_aload_n C hl 0 rfl dX7_device_35 rfl ?_
  obtain ⟨g1, h⟩ := zd_some h
  refine z_get C I 7 1 zc7 g1 (by decide) zq_229 (v := zr (zg S x0 1)) rfl dX7_device_36 ?_
  refine z_iload_n C hl 2 rfl dX7_device_39 rfl ?_
  obtain ⟨g2, h⟩ := zd_some h
  refine z_aald C I 3 (by decide) g2 dX7_device_40 ?_
  refine z_iload_n C hl 1 rfl dX7_device_41 rfl ?_
  obtain ⟨g3, h⟩ := zd_some h
  obtain ⟨r4, S5, h6, h⟩ := zcs h
  refine z_callVi C I (tX6_ailsOn l D tc b n h6) zyX6_ailsOn zyvX6_ailsOn zc6 g3 zq_365 (st := []) rfl rfl (by decide) (by decide) hl.1 (Nat.le_of_ble_eq_true rfl) dX7_device_42 (fun H locs I => ?_)
  refine z_if_eq C 51 dX7_device_45 (by decide) (fun c7 => ?_) (fun c7 => ?_)
  · have h := zit c7 h
    refine z_aload_n C hl 0 rfl dX7_device_51 rfl ?_
    refine z_get C I 7 5 zc7 g1 (by decide) zq_233 (v := zi (zg S5 x0 5)) rfl dX7_device_52 ?_
    refine z_bipush C (v := 30) dX7_device_55 (by decide) ?_
    refine z_icmp_lt C 63 dX7_device_57 (by decide) (fun c8 => ?_) (fun c8 => ?_)
    · have h := zit c8 h
      refine z_aload_n C hl 0 rfl dX7_device_63 rfl ?_
      refine z_get C I 7 4 zc7 g1 (by decide) zq_232 (v := zr (zg S5 x0 4)) rfl dX7_device_64 ?_
      refine z_aload_n C hl 0 rfl dX7_device_67 rfl ?_
      refine z_get C I 7 5 zc7 g1 (by decide) zq_233 (v := zi (zg S5 x0 5)) rfl dX7_device_68 ?_
      obtain ⟨g9, h⟩ := zd_some h
      refine z_aald C I 4 (by decide) g9 dX7_device_71 ?_
      refine z_iload_n C hl 1 rfl dX7_device_72 rfl ?_
      refine z_aload_n C hl 0 rfl dX7_device_73 rfl ?_
      refine z_get C I 7 1 zc7 g1 (by decide) zq_229 (v := zr (zg S5 x0 1)) rfl dX7_device_74 ?_
      refine z_iload_n C hl 2 rfl dX7_device_77 rfl ?_
      obtain ⟨g10, h⟩ := zd_some h
      refine z_aald C I 3 (by decide) g10 dX7_device_78 ?_
      refine z_iload_n C hl 3 rfl dX7_device_79 rfl ?_
      refine z_ldc C zq_347 dX7_device_80 ?_
      refine z_icmp_ne C 89 dX7_device_82 (by decide) (fun c11 => ?_) (fun c11 => ?_)
      · have h := zif c11 h
        refine z_aload_n C hl 0 rfl dX7_device_89 rfl ?_
        refine z_get C I 7 4 zc7 g1 (by decide) zq_232 (v := zr (zg S5 x0 4)) rfl dX7_device_90 ?_
        refine z_iload_n C hl 3 rfl dX7_device_93 rfl ?_
        obtain ⟨g12, h⟩ := zd_some h
        refine z_aald C I 4 (by decide) g12 dX7_device_94 ?_
        exact bX7_device_95 C hr hk _ _ _ _ _ _ _ _ _ h I (zL_sub hl [0] rfl)
      · have h := zit c11 h
        refine z_null C dX7_device_85 ?_
        refine z_goto C 95 dX7_device_86 (by decide) ?_
        exact bX7_device_95 C hr hk _ _ _ _ _ _ _ _ _ h I (zL_sub hl [0] rfl)
    · have h := zif c8 h
      refine z_ldc C zq_314 dX7_device_60 ?_
      exact z_iret C I hr hk h dX7_device_62
  · have h := zif c7 h
    refine z_ldc C zq_369 dX7_device_48 ?_
    exact z_iret C I hr hk h dX7_device_50

def fX7_device (n : Nat) (S : zM) (a0 : Int32) (a1 : Int32) (a2 : Int32) (a3 : Int32) : Option (Int32 × zM) := if (a1 : Int32) < 0 then (some ((-1000001), S)) else (if (8 : Int32) ≤ (a1 : Int32) then (some ((-1000001), S)) else (zd (zo n 17 a0) <| zca (fX7_isVersion n S a0 a2) fun r4 S5 => if (r4 : Int32) = 0 then (some ((-1000001), S5)) else (if (a3 : Int32) = ((-1000000) : Int32) then (fX7_device_35 n S5 a0 a1 a2 a3) else (zca (fX7_isDevice n S5 a0 a3) fun r9 S10 => if (r9 : Int32) = 0 then (some ((-1000001), S10)) else (fX7_device_35 n S10 a0 a1 a2 a3)))))
theorem tX7_device (l : Launch) (D : va_G) (tc : Nat → ClassId) (b n : Nat) {S S' : zM} {a0 : Int32} {a1 : Int32} {a2 : Int32} {a3 : Int32} {r : Int32} (h : fX7_device n S a0 a1 a2 a3 = some (r, S')) : zMi l D tc b n yX7_device cX7_device 4 .int 2 [zr a0, zi a1, zi a2, zi a3] S S' r := by
  refine zMi_of zyX7_device (Nat.le_of_ble_eq_true rfl) (fun p e s m args below meth c H C hr hk ls hl I => ?_)
  have hl : zL b ls 4 [(0, zr a0), (1, zi a1), (2, zi a2), (3, zi a3)] := hl
  rw [fX7_device] at h
  refine z_iload_n C hl 1 rfl dX7_device_0 rfl ?_
  refine z_if_lt C 32 dX7_device_1 (by decide) (fun c1 => ?_) (fun c1 => ?_)
  · have h := zit c1 h
    refine z_ldc C zq_269 dX7_device_32 ?_
    exact z_iret C I hr hk h dX7_device_34
  · have h := zif c1 h
    refine z_iload_n C hl 1 rfl dX7_device_4 rfl ?_
    refine z_bipush C (v := 8) dX7_device_5 (by decide) ?_
    refine z_icmp_ge C 32 dX7_device_7 (by decide) (fun c2 => ?_) (fun c2 => ?_)
    · have h := zit c2 h
      refine z_ldc C zq_269 dX7_device_32 ?_
      exact z_iret C I hr hk h dX7_device_34
    · have h := zif c2 h
      refine z_aload_n C hl 0 rfl dX7_device_10 rfl ?_
      refine z_iload_n C hl 2 rfl dX7_device_11 rfl ?_
      obtain ⟨g3, h⟩ := zd_some h
      obtain ⟨r4, S5, h6, h⟩ := zcs h
      refine z_callVi C I (tX7_isVersion l D tc b n h6) zyX7_isVersion zyvX7_isVersion zc7 g3 zq_327 (st := []) rfl rfl (by decide) (by decide) hl.1 (Nat.le_of_ble_eq_true rfl) dX7_device_12 (fun H locs I => ?_)
      refine z_if_eq C 32 dX7_device_15 (by decide) (fun c7 => ?_) (fun c7 => ?_)
      · have h := zit c7 h
        refine z_ldc C zq_269 dX7_device_32 ?_
        exact z_iret C I hr hk h dX7_device_34
      · have h := zif c7 h
        refine z_iload_n C hl 3 rfl dX7_device_18 rfl ?_
        refine z_ldc C zq_347 dX7_device_19 ?_
        refine z_icmp_eq C 35 dX7_device_21 (by decide) (fun c8 => ?_) (fun c8 => ?_)
        · have h := zit c8 h
          exact bX7_device_35 C hr hk _ _ _ _ _ _ _ _ h I (zL_sub hl [0, 1, 2, 3] rfl)
        · have h := zif c8 h
          refine z_aload_n C hl 0 rfl dX7_device_24 rfl ?_
          refine z_iload_n C hl 3 rfl dX7_device_25 rfl ?_
          obtain ⟨r9, S10, h11, h⟩ := zcs h
          refine z_callVi C I (tX7_isDevice l D tc b n h11) zyX7_isDevice zyvX7_isDevice zc7 g3 zq_361 (st := []) rfl rfl (by decide) (by decide) hl.1 (Nat.le_of_ble_eq_true rfl) dX7_device_26 (fun H locs I => ?_)
          refine z_if_ne C 35 dX7_device_29 (by decide) (fun c12 => ?_) (fun c12 => ?_)
          · have h := zif c12 h
            exact bX7_device_35 C hr hk _ _ _ _ _ _ _ _ h I (zL_sub hl [0, 1, 2, 3] rfl)
          · have h := zit c12 h
            refine z_ldc C zq_269 dX7_device_32 ?_
            exact z_iret C I hr hk h dX7_device_34

