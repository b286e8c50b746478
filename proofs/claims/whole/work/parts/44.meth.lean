def fX8_began (n : Nat) (S : zM) (a0 : Int32) (a1 : Int32) : Option (Int32 × zM) := zd (zo n 18 a0) <| if (16 : Int32) ≤ (zg S a0 37 : Int32) then (some (0, S)) else (zd (za n 0 (zg S a0 36) (zg S a0 37)) <| zbd (zq S (zg S a0 36) (zg S a0 37) a1) fun S4 => zbd (zp S4 a0 37 ((zg S4 a0 37) + 1)) fun S6 => some (0, S6))
theorem tX8_began (l : Launch) (D : va_G) (tc : Nat → ClassId) (b n : Nat) {S S' : zM} {a0 : Int32} {a1 : Int32} {r : Int32} (h : fX8_began n S a0 a1 = some (r, S')) : zMv l D tc b n yX8_began cX8_began 2 0 [zr a0, zi a1] S S' := by
  refine zMv_of zyX8_began (Nat.le_of_ble_eq_true rfl) (fun p e s m args below meth c H C hr hk ls hl I => ?_)
  have hl : zL b ls 2 [(0, zr a0), (1, zi a1)] := hl
  rw [fX8_began] at h
  refine z_aload_n C hl 0 rfl dX8_began_0 rfl ?_
  obtain ⟨g1, h⟩ := zd_some h
  refine z_get C I 8 37 zc8 g1 (by decide) zq_693 (v := zi (zg S a0 37)) rfl dX8_began_1 ?_
  refine z_bipush C (v := 16) dX8_began_4 (by decide) ?_
  refine z_icmp_ge C 29 dX8_began_6 (by decide) (fun c2 => ?_) (fun c2 => ?_)
  · have h := zit c2 h
    exact z_vret C I hr hk h dX8_began_29
  · have h := zif c2 h
    refine z_aload_n C hl 0 rfl dX8_began_9 rfl ?_
    refine z_get C I 8 36 zc8 g1 (by decide) zq_692 (v := zr (zg S a0 36)) rfl dX8_began_10 ?_
    refine z_aload_n C hl 0 rfl dX8_began_13 rfl ?_
    refine z_get C I 8 37 zc8 g1 (by decide) zq_693 (v := zi (zg S a0 37)) rfl dX8_began_14 ?_
    refine z_iload_n C hl 1 rfl dX8_began_17 rfl ?_
    obtain ⟨g3, h⟩ := zd_some h
    refine z_iast C I g3 dX8_began_18 (fun S4 e5 H locs I => ?_)
    have h := znb e5 h
    refine z_aload_n C hl 0 rfl dX8_began_19 rfl ?_
    refine z_dup C dX8_began_20 rfl ?_
    refine z_get C I 8 37 zc8 g1 (by decide) zq_693 (v := zi (zg S4 a0 37)) rfl dX8_began_21 ?_
    refine z_iconst C (v := 1) dX8_began_24 (by decide) ?_
    refine z_iadd C dX8_began_25 ?_
    refine z_put C I 8 37 zc8 g1 (by decide) rfl zq_693 rfl (v := zi ((zg S4 a0 37) + 1)) rfl dX8_began_26 (fun S6 e7 H locs I => ?_)
    have h := znb e7 h
    exact z_vret C I hr hk h dX8_began_29

def fX8_worth_54 (n : Nat) (S : zM) (x0 : Int32) (x1 : Int32) (x2 : Int32) (x3 : Int32) : Option (Int32 × zM) := zd (zo n 18 x0) <| zca (fX8_began n S x0 10) fun r2 S3 => zca (fX8_runsOn n S3 x0 x1) fun r5 S6 => zbd (r5) fun v8 => if (x2 : Int32) = (3 : Int32) then (zd (za n 0 (zg S6 x0 22) x1) <| some (v8 - (ze S6 (zg S6 x0 22) x1), S6)) else (if (x2 : Int32) = (2 : Int32) then (some (2 * (v8 + 100), S6)) else (if (x3 : Int32) = 0 then (some (v8, S6)) else (some (v8 + 100, S6))))
theorem bX8_worth_54 {p : Program} {l : Launch} {e : Env} {s : State} {m : MethodId} {args : Array Value} {below : List Frame} {meth : Method} {c : Code} {D : va_G} {tc : Nat → ClassId} {b n : Nat} {S' : zM} {r : Int32} (C : zC p m c cX8_worth 5 s args yX8_worth.cls D tc) (hr : meth.sig.returnType = some .int) (hk : meth.locks = false) : ∀ (S : zM) (x0 : Int32) (x1 : Int32) (x2 : Int32) (x3 : Int32) (H : Heap) (locs : List Loc) (ls : Array Slot), fX8_worth_54 n S x0 x1 x2 x3 = some (r, S') → zI D tc b n S s H locs → zL b ls 5 [(0, zr x0), (1, zi x1), (2, zi x2), (3, zi x3)] → W p l e (zR 2) s m args below meth c H locs 0 0 (zQi D tc b n S' r below args s) (zG b m 54 ls []) := by
  intro S x0 x1 x2 x3 H locs ls h I hl
  rw [fX8_worth_54] at h
  refine z_aload_n C hl 0 rfl dX8_worth_54 rfl ?_
  refine z_bipush C (v := 10) dX8_worth_55 (by decide) ?_
  obtain ⟨g1, h⟩ := zd_some h
  obtain ⟨r2, S3, h4, h⟩ := zcs h
  refine z_callVv C I (tX8_began l D tc b n h4) zyX8_began zyvX8_began zc8 g1 zq_965 (st := []) rfl rfl (by decide) (by decide) hl.1 (Nat.le_of_ble_eq_true rfl) dX8_worth_57 (fun H locs I => ?_)
  refine z_aload_n C hl 0 rfl dX8_worth_60 rfl ?_
  refine z_iload_n C hl 1 rfl dX8_worth_61 rfl ?_
  obtain ⟨r5, S6, h7, h⟩ := zcs h
  refine z_callVi C I (tX8_runsOn l D tc b n h7) zyX8_runsOn zyvX8_runsOn zc8 g1 zq_851 (st := []) rfl rfl (by decide) (by decide) hl.1 (Nat.le_of_ble_eq_true rfl) dX8_worth_62 (fun H locs I => ?_)
  refine z_istore C hl dX8_worth_65 (by decide) (fun v8 => [(4, zi v8), (0, zr x0), (1, zi x1), (2, zi x2), (3, zi x3)]) (fun _ => rfl) (fun v8 e9 ls hl => ?_)
  have h := znb e9 h
  refine z_iload_n C hl 3 rfl dX8_worth_67 rfl ?_
  refine z_iconst C (v := 3) dX8_worth_68 (by decide) ?_
  refine z_icmp_ne C 84 dX8_worth_69 (by decide) (fun c10 => ?_) (fun c10 => ?_)
  · have h := zif c10 h
    refine z_iload_n C hl 3 rfl dX8_worth_84 rfl ?_
    refine z_iconst C (v := 2) dX8_worth_85 (by decide) ?_
    refine z_icmp_ne C 99 dX8_worth_86 (by decide) (fun c11 => ?_) (fun c11 => ?_)
    · have h := zif c11 h
      refine z_iload_n C hl 4 rfl dX8_worth_99 rfl ?_
      refine z_if_eq C 111 dX8_worth_100 (by decide) (fun c12 => ?_) (fun c12 => ?_)
      · have h := zit c12 h
        refine z_iload C hl 0 rfl dX8_worth_111 ?_
        exact z_iret C I hr hk h dX8_worth_113
      · have h := zif c12 h
        refine z_iload C hl 0 rfl dX8_worth_103 ?_
        refine z_bipush C (v := 100) dX8_worth_105 (by decide) ?_
        refine z_iadd C dX8_worth_107 ?_
        refine z_goto C 113 dX8_worth_108 (by decide) ?_
        exact z_iret C I hr hk h dX8_worth_113
    · have h := zit c11 h
      refine z_iconst C (v := 2) dX8_worth_89 (by decide) ?_
      refine z_iload C hl 0 rfl dX8_worth_90 ?_
      refine z_bipush C (v := 100) dX8_worth_92 (by decide) ?_
      refine z_iadd C dX8_worth_94 ?_
      refine z_imul C dX8_worth_95 ?_
      refine z_goto C 113 dX8_worth_96 (by decide) ?_
      exact z_iret C I hr hk h dX8_worth_113
  · have h := zit c10 h
    refine z_iload C hl 0 rfl dX8_worth_72 ?_
    refine z_aload_n C hl 1 rfl dX8_worth_74 rfl ?_
    refine z_get C I 8 22 zc8 g1 (by decide) zq_678 (v := zr (zg S6 x0 22)) rfl dX8_worth_75 ?_
    refine z_iload_n C hl 2 rfl dX8_worth_78 rfl ?_
    obtain ⟨g13, h⟩ := zd_some h
    refine z_iald C I g13 dX8_worth_79 ?_
    refine z_isub C dX8_worth_80 ?_
    refine z_goto C 113 dX8_worth_81 (by decide) ?_
    exact z_iret C I hr hk h dX8_worth_113

def fX8_worth_44 (n : Nat) (S : zM) (x0 : Int32) (x1 : Int32) (x2 : Int32) (x3 : Int32) : Option (Int32 × zM) := if (x3 : Int32) = 0 then (fX8_worth_54 n S x0 x1 x2 x3) else (zd (zo n 18 x0) <| zca (fX8_began n S x0 11) fun r3 S4 => fX8_worth_54 n S4 x0 x1 x2 x3)
theorem bX8_worth_44 {p : Program} {l : Launch} {e : Env} {s : State} {m : MethodId} {args : Array Value} {below : List Frame} {meth : Method} {c : Code} {D : va_G} {tc : Nat → ClassId} {b n : Nat} {S' : zM} {r : Int32} (C : zC p m c cX8_worth 5 s args yX8_worth.cls D tc) (hr : meth.sig.returnType = some .int) (hk : meth.locks = false) : ∀ (S : zM) (x0 : Int32) (x1 : Int32) (x2 : Int32) (x3 : Int32) (H : Heap) (locs : List Loc) (ls : Array Slot), fX8_worth_44 n S x0 x1 x2 x3 = some (r, S') → zI D tc b n S s H locs → zL b ls 5 [(0, zr x0), (1, zi x1), (2, zi x2), (3, zi x3)] → W p l e (zR 2) s m args below meth c H locs 0 0 (zQi D tc b n S' r below args s) (zG b m 44 ls []) := by
  intro S x0 x1 x2 x3 H locs ls h I hl
  rw [fX8_worth_44] at h
  refine z_iload_n C hl 3 rfl dX8_worth_44 rfl ?_
  refine z_if_eq C 54 dX8_worth_45 (by decide) (fun c1 => ?_) (fun c1 => ?_)
  · have h := zit c1 h
    exact bX8_worth_54 C hr hk _ _ _ _ _ _ _ _ h I (zL_sub hl [0, 1, 2, 3] rfl)
  · have h := zif c1 h
    refine z_aload_n C hl 0 rfl dX8_worth_48 rfl ?_
    refine z_bipush C (v := 11) dX8_worth_49 (by decide) ?_
    obtain ⟨g2, h⟩ := zd_some h
    obtain ⟨r3, S4, h5, h⟩ := zcs h
    refine z_callVv C I (tX8_began l D tc b n h5) zyX8_began zyvX8_began zc8 g2 zq_965 (st := []) rfl rfl (by decide) (by decide) hl.1 (Nat.le_of_ble_eq_true rfl) dX8_worth_51 (fun H locs I => ?_)
    exact bX8_worth_54 C hr hk _ _ _ _ _ _ _ _ h I (zL_sub hl [0, 1, 2, 3] rfl)

def fX8_worth_33 (n : Nat) (S : zM) (x0 : Int32) (x1 : Int32) (x2 : Int32) (x3 : Int32) : Option (Int32 × zM) := if (x2 : Int32) = (2 : Int32) then (zd (zo n 18 x0) <| zca (fX8_began n S x0 12) fun r3 S4 => fX8_worth_44 n S4 x0 x1 x2 x3) else (fX8_worth_44 n S x0 x1 x2 x3)
theorem bX8_worth_33 {p : Program} {l : Launch} {e : Env} {s : State} {m : MethodId} {args : Array Value} {below : List Frame} {meth : Method} {c : Code} {D : va_G} {tc : Nat → ClassId} {b n : Nat} {S' : zM} {r : Int32} (C : zC p m c cX8_worth 5 s args yX8_worth.cls D tc) (hr : meth.sig.returnType = some .int) (hk : meth.locks = false) : ∀ (S : zM) (x0 : Int32) (x1 : Int32) (x2 : Int32) (x3 : Int32) (H : Heap) (locs : List Loc) (ls : Array Slot), fX8_worth_33 n S x0 x1 x2 x3 = some (r, S') → zI D tc b n S s H locs → zL b ls 5 [(0, zr x0), (1, zi x1), (2, zi x2), (3, zi x3)] → W p l e (zR 2) s m args below meth c H locs 0 0 (zQi D tc b n S' r below args s) (zG b m 33 ls []) := by
  intro S x0 x1 x2 x3 H locs ls h I hl
  rw [fX8_worth_33] at h
  refine z_iload_n C hl 2 rfl dX8_worth_33 rfl ?_
  refine z_iconst C (v := 2) dX8_worth_34 (by decide) ?_
  refine z_icmp_ne C 44 dX8_worth_35 (by decide) (fun c1 => ?_) (fun c1 => ?_)
  · have h := zif c1 h
    exact bX8_worth_44 C hr hk _ _ _ _ _ _ _ _ h I (zL_sub hl [0, 1, 2, 3] rfl)
  · have h := zit c1 h
    refine z_aload_n C hl 0 rfl dX8_worth_38 rfl ?_
    refine z_bipush C (v := 12) dX8_worth_39 (by decide) ?_
    obtain ⟨g2, h⟩ := zd_some h
    obtain ⟨r3, S4, h5, h⟩ := zcs h
    refine z_callVv C I (tX8_began l D tc b n h5) zyX8_began zyvX8_began zc8 g2 zq_965 (st := []) rfl rfl (by decide) (by decide) hl.1 (Nat.le_of_ble_eq_true rfl) dX8_worth_41 (fun H locs I => ?_)
    exact bX8_worth_44 C hr hk _ _ _ _ _ _ _ _ h I (zL_sub hl [0, 1, 2, 3] rfl)

def fX8_worth_21 (n : Nat) (S : zM) (x0 : Int32) (x1 : Int32) (x2 : Int32) (y0 : Int32) : Option (Int32 × zM) := zbd (y0) fun v1 => if (x2 : Int32) = (3 : Int32) then (zd (zo n 18 x0) <| zca (fX8_began n S x0 13) fun r5 S6 => fX8_worth_33 n S6 x0 x1 x2 v1) else (fX8_worth_33 n S x0 x1 x2 v1)
theorem bX8_worth_21 {p : Program} {l : Launch} {e : Env} {s : State} {m : MethodId} {args : Array Value} {below : List Frame} {meth : Method} {c : Code} {D : va_G} {tc : Nat → ClassId} {b n : Nat} {S' : zM} {r : Int32} (C : zC p m c cX8_worth 5 s args yX8_worth.cls D tc) (hr : meth.sig.returnType = some .int) (hk : meth.locks = false) : ∀ (S : zM) (x0 : Int32) (x1 : Int32) (x2 : Int32) (y0 : Int32) (H : Heap) (locs : List Loc) (ls : Array Slot), fX8_worth_21 n S x0 x1 x2 y0 = some (r, S') → zI D tc b n S s H locs → zL b ls 5 [(0, zr x0), (1, zi x1), (2, zi x2)] → W p l e (zR 2) s m args below meth c H locs 0 0 (zQi D tc b n S' r below args s) (zG b m 21 ls [zi y0]) := by
  intro S x0 x1 x2 y0 H locs ls h I hl
  rw [fX8_worth_21] at h
  refine z_istore_n C hl dX8_worth_21 rfl (by decide) (fun v1 => [(3, zi v1), (0, zr x0), (1, zi x1), (2, zi x2)]) (fun _ => rfl) (fun v1 e2 ls hl => ?_)
  have h := znb e2 h
  refine z_iload_n C hl 3 rfl dX8_worth_22 rfl ?_
  refine z_iconst C (v := 3) dX8_worth_23 (by decide) ?_
  refine z_icmp_ne C 33 dX8_worth_24 (by decide) (fun c3 => ?_) (fun c3 => ?_)
  · have h := zif c3 h
    exact bX8_worth_33 C hr hk _ _ _ _ _ _ _ _ h I (zL_sub hl [1, 2, 3, 0] rfl)
  · have h := zit c3 h
    refine z_aload_n C hl 1 rfl dX8_worth_27 rfl ?_
    refine z_bipush C (v := 13) dX8_worth_28 (by decide) ?_
    obtain ⟨g4, h⟩ := zd_some h
    obtain ⟨r5, S6, h7, h⟩ := zcs h
    refine z_callVv C I (tX8_began l D tc b n h7) zyX8_began zyvX8_began zc8 g4 zq_965 (st := []) rfl rfl (by decide) (by decide) hl.1 (Nat.le_of_ble_eq_true rfl) dX8_worth_30 (fun H locs I => ?_)
    exact bX8_worth_33 C hr hk _ _ _ _ _ _ _ _ h I (zL_sub hl [1, 2, 3, 0] rfl)

def fX8_worth_16 (n : Nat) (S : zM) (x0 : Int32) (x1 : Int32) (x2 : Int32) : Option (Int32 × zM) := fX8_worth_21 n S x0 x1 x2 1
theorem bX8_worth_16 {p : Program} {l : Launch} {e : Env} {s : State} {m : MethodId} {args : Array Value} {below : List Frame} {meth : Method} {c : Code} {D : va_G} {tc : Nat → ClassId} {b n : Nat} {S' : zM} {r : Int32} (C : zC p m c cX8_worth 5 s args yX8_worth.cls D tc) (hr : meth.sig.returnType = some .int) (hk : meth.locks = false) : ∀ (S : zM) (x0 : Int32) (x1 : Int32) (x2 : Int32) (H : Heap) (locs : List Loc) (ls : Array Slot), fX8_worth_16 n S x0 x1 x2 = some (r, S') → zI D tc b n S s H locs → zL b ls 5 [(0, zr x0), (1, zi x1), (2, zi x2)] → W p l e (zR 2) s m args below meth c H locs 0 0 (zQi D tc b n S' r below args s) (zG b m 16 ls []) := by
  intro S x0 x1 x2 H locs ls h I hl
  rw [fX8_worth_16] at h
  refine z_iconst C (v := 1) dX8_worth_16 (by decide) ?_
  refine z_goto C 21 dX8_worth_17 (by decide) ?_
  exact bX8_worth_21 C hr hk _ _ _ _ _ _ _ _ h I (zL_sub hl [0, 1, 2] rfl)

def fX8_worth (n : Nat) (S : zM) (a0 : Int32) (a1 : Int32) : Option (Int32 × zM) := zd (zo n 18 a0) <| zca (fX8_kindOf n S a0 a1) fun r2 S3 => zbd (r2) fun v5 => if (v5 : Int32) = (1 : Int32) then (fX8_worth_16 n S3 a0 a1 v5) else (if (v5 : Int32) = (2 : Int32) then (fX8_worth_16 n S3 a0 a1 v5) else (fX8_worth_21 n S3 a0 a1 v5 0))
theorem tX8_worth (l : Launch) (D : va_G) (tc : Nat → ClassId) (b n : Nat) {S S' : zM} {a0 : Int32} {a1 : Int32} {r : Int32} (h : fX8_worth n S a0 a1 = some (r, S')) : zMi l D tc b n yX8_worth cX8_worth 5 .int 2 [zr a0, zi a1] S S' r := by
  refine zMi_of zyX8_worth (Nat.le_of_ble_eq_true rfl) (fun p e s m args below meth c H C hr hk ls hl I => ?_)
  have hl : zL b ls 5 [(0, zr a0), (1, zi a1)] := hl
  rw [fX8_worth] at h
  refine z_aload_n C hl 0 rfl dX8_worth_0 rfl ?_
  refine z_iload_n C hl 1 rfl dX8_worth_1 rfl ?_
  obtain ⟨g1, h⟩ := zd_some h
  obtain ⟨r2, S3, h4, h⟩ := zcs h
  refine z_callVi C I (tX8_kindOf l D tc b n h4) zyX8_kindOf zyvX8_kindOf zc8 g1 zq_949 (st := []) rfl rfl (by decide) (by decide) hl.1 (Nat.le_of_ble_eq_true rfl) dX8_worth_2 (fun H locs I => ?_)
  refine z_istore_n C hl dX8_worth_5 rfl (by decide) (fun v5 => [(2, zi v5), (0, zr a0), (1, zi a1)]) (fun _ => rfl) (fun v5 e6 ls hl => ?_)
  have h := znb e6 h
  refine z_iload_n C hl 0 rfl dX8_worth_6 rfl ?_
  refine z_iconst C (v := 1) dX8_worth_7 (by decide) ?_
  refine z_icmp_eq C 16 dX8_worth_8 (by decide) (fun c7 => ?_) (fun c7 => ?_)
  · have h := zit c7 h
    exact bX8_worth_16 C hr hk _ _ _ _ _ _ _ h I (zL_sub hl [1, 2, 0] rfl)
  · have h := zif c7 h
    refine z_iload_n C hl 0 rfl dX8_worth_11 rfl ?_
    refine z_iconst C (v := 2) dX8_worth_12 (by decide) ?_
    refine z_icmp_ne C 20 dX8_worth_13 (by decide) (fun c8 => ?_) (fun c8 => ?_)
    · have h := zif c8 h
      refine z_iconst C (v := 0) dX8_worth_20 (by decide) ?_
      exact bX8_worth_21 C hr hk _ _ _ _ _ _ _ _ h I (zL_sub hl [1, 2, 0] rfl)
    · have h := zit c8 h
      exact bX8_worth_16 C hr hk _ _ _ _ _ _ _ h I (zL_sub hl [1, 2, 0] rfl)

def fX8_marked_43 (n : Nat) (S : zM) (x0 : Int32) (x1 : Int32) (x2 : Int32) (x3 : Int32) : Option (Int32 × zM) := zd (zo n 18 x0) <| zca (fX8_began n S x0 20) fun r2 S3 => zd (za n 0 (zg S3 x0 14) x1) <| if (x2 : Int32) = (3 : Int32) then (zd (za n 0 (zg S3 x0 21) x1) <| some ((ze S3 (zg S3 x0 14) x1) + (ze S3 (zg S3 x0 21) x1), S3)) else (if (x3 : Int32) = 0 then (some ((ze S3 (zg S3 x0 14) x1) + 0, S3)) else (zca (fX8_worth n S3 x0 x1) fun r8 S9 => some ((ze S3 (zg S3 x0 14) x1) + r8, S9)))
theorem bX8_marked_43 {p : Program} {l : Launch} {e : Env} {s : State} {m : MethodId} {args : Array Value} {below : List Frame} {meth : Method} {c : Code} {D : va_G} {tc : Nat → ClassId} {b n : Nat} {S' : zM} {r : Int32} (C : zC p m c cX8_marked 4 s args yX8_marked.cls D tc) (hr : meth.sig.returnType = some .int) (hk : meth.locks = false) : ∀ (S : zM) (x0 : Int32) (x1 : Int32) (x2 : Int32) (x3 : Int32) (H : Heap) (locs : List Loc) (ls : Array Slot), fX8_marked_43 n S x0 x1 x2 x3 = some (r, S') → zI D tc b n S s H locs → zL b ls 4 [(0, zr x0), (1, zi x1), (2, zi x2), (3, zi x3)] → W p l e (zR 3) s m args below meth c H locs 0 0 (zQi D tc b n S' r below args s) (zG b m 43 ls []) := by
  intro S x0 x1 x2 x3 H locs ls h I hl
  rw [fX8_marked_43] at h
  refine z_aload_n C hl 0 rfl dX8_marked_43 rfl ?_
  refine z_bipush C (v := 20) dX8_marked_44 (by decide) ?_
  obtain ⟨g1, h⟩ := zd_some h
  obtain ⟨r2, S3, h4, h⟩ := zcs h
  refine z_callVv C I (tX8_began l D tc b n h4) zyX8_began zyvX8_began zc8 g1 zq_965 (st := []) rfl rfl (by decide) (by decide) hl.1 (Nat.le_of_ble_eq_true rfl) dX8_marked_46 (fun H locs I => ?_)
  refine z_aload_n C hl 0 rfl dX8_marked_49 rfl ?_
  refine z_get C I 8 14 zc8 g1 (by decide) zq_670 (v := zr (zg S3 x0 14)) rfl dX8_marked_50 ?_
  refine z_iload_n C hl 1 rfl dX8_marked_53 rfl ?_
  obtain ⟨g5, h⟩ := zd_some h
  refine z_iald C I g5 dX8_marked_54 ?_
  refine z_iload_n C hl 2 rfl dX8_marked_55 rfl ?_
  refine z_iconst C (v := 3) dX8_marked_56 (by decide) ?_
  refine z_icmp_ne C 69 dX8_marked_57 (by decide) (fun c6 => ?_) (fun c6 => ?_)
  · have h := zif c6 h
    refine z_iload_n C hl 3 rfl dX8_marked_69 rfl ?_
    refine z_if_eq C 81 dX8_marked_70 (by decide) (fun c7 => ?_) (fun c7 => ?_)
    · have h := zit c7 h
      refine z_iconst C (v := 0) dX8_marked_81 (by decide) ?_
      refine z_iadd C dX8_marked_82 ?_
      exact z_iret C I hr hk h dX8_marked_83
    · have h := zif c7 h
      refine z_aload_n C hl 0 rfl dX8_marked_73 rfl ?_
      refine z_iload_n C hl 1 rfl dX8_marked_74 rfl ?_
      obtain ⟨r8, S9, h10, h⟩ := zcs h
      refine z_callVi C I (tX8_worth l D tc b n h10) zyX8_worth zyvX8_worth zc8 g1 zq_961 (st := [zi (ze S3 (zg S3 x0 14) x1)]) rfl rfl (by decide) (by decide) hl.1 (Nat.le_of_ble_eq_true rfl) dX8_marked_75 (fun H locs I => ?_)
      refine z_goto C 82 dX8_marked_78 (by decide) ?_
      refine z_iadd C dX8_marked_82 ?_
      exact z_iret C I hr hk h dX8_marked_83
  · have h := zit c6 h
    refine z_aload_n C hl 0 rfl dX8_marked_60 rfl ?_
    refine z_get C I 8 21 zc8 g1 (by decide) zq_677 (v := zr (zg S3 x0 21)) rfl dX8_marked_61 ?_
    refine z_iload_n C hl 1 rfl dX8_marked_64 rfl ?_
    obtain ⟨g11, h⟩ := zd_some h
    refine z_iald C I g11 dX8_marked_65 ?_
    refine z_goto C 82 dX8_marked_66 (by decide) ?_
    refine z_iadd C dX8_marked_82 ?_
    exact z_iret C I hr hk h dX8_marked_83

def fX8_marked_33 (n : Nat) (S : zM) (x0 : Int32) (x1 : Int32) (x2 : Int32) (x3 : Int32) : Option (Int32 × zM) := if (x3 : Int32) = 0 then (fX8_marked_43 n S x0 x1 x2 x3) else (zd (zo n 18 x0) <| zca (fX8_began n S x0 21) fun r3 S4 => fX8_marked_43 n S4 x0 x1 x2 x3)
theorem bX8_marked_33 {p : Program} {l : Launch} {e : Env} {s : State} {m : MethodId} {args : Array Value} {below : List Frame} {meth : Method} {c : Code} {D : va_G} {tc : Nat → ClassId} {b n : Nat} {S' : zM} {r : Int32} (C : zC p m c cX8_marked 4 s args yX8_marked.cls D tc) (hr : meth.sig.returnType = some .int) (hk : meth.locks = false) : ∀ (S : zM) (x0 : Int32) (x1 : Int32) (x2 : Int32) (x3 : Int32) (H : Heap) (locs : List Loc) (ls : Array Slot), fX8_marked_33 n S x0 x1 x2 x3 = some (r, S') → zI D tc b n S s H locs → zL b ls 4 [(0, zr x0), (1, zi x1), (2, zi x2), (3, zi x3)] → W p l e (zR 3) s m args below meth c H locs 0 0 (zQi D tc b n S' r below args s) (zG b m 33 ls []) := by
  intro S x0 x1 x2 x3 H locs ls h I hl
  rw [fX8_marked_33] at h
  refine z_iload_n C hl 3 rfl dX8_marked_33 rfl ?_
  refine z_if_eq C 43 dX8_marked_34 (by decide) (fun c1 => ?_) (fun c1 => ?_)
  · have h := zit c1 h
    exact bX8_marked_43 C hr hk _ _ _ _ _ _ _ _ h I (zL_sub hl [0, 1, 2, 3] rfl)
  · have h := zif c1 h
    refine z_aload_n C hl 0 rfl dX8_marked_37 rfl ?_
    refine z_bipush C (v := 21) dX8_marked_38 (by decide) ?_
    obtain ⟨g2, h⟩ := zd_some h
    obtain ⟨r3, S4, h5, h⟩ := zcs h
    refine z_callVv C I (tX8_began l D tc b n h5) zyX8_began zyvX8_began zc8 g2 zq_965 (st := []) rfl rfl (by decide) (by decide) hl.1 (Nat.le_of_ble_eq_true rfl) dX8_marked_40 (fun H locs I => ?_)
    exact bX8_marked_43 C hr hk _ _ _ _ _ _ _ _ h I (zL_sub hl [0, 1, 2, 3] rfl)

def fX8_marked_21 (n : Nat) (S : zM) (x0 : Int32) (x1 : Int32) (x2 : Int32) (y0 : Int32) : Option (Int32 × zM) := zbd (y0) fun v1 => if (x2 : Int32) = (3 : Int32) then (zd (zo n 18 x0) <| zca (fX8_began n S x0 22) fun r5 S6 => fX8_marked_33 n S6 x0 x1 x2 v1) else (fX8_marked_33 n S x0 x1 x2 v1)
theorem bX8_marked_21 {p : Program} {l : Launch} {e : Env} {s : State} {m : MethodId} {args : Array Value} {below : List Frame} {meth : Method} {c : Code} {D : va_G} {tc : Nat → ClassId} {b n : Nat} {S' : zM} {r : Int32} (C : zC p m c cX8_marked 4 s args yX8_marked.cls D tc) (hr : meth.sig.returnType = some .int) (hk : meth.locks = false) : ∀ (S : zM) (x0 : Int32) (x1 : Int32) (x2 : Int32) (y0 : Int32) (H : Heap) (locs : List Loc) (ls : Array Slot), fX8_marked_21 n S x0 x1 x2 y0 = some (r, S') → zI D tc b n S s H locs → zL b ls 4 [(0, zr x0), (1, zi x1), (2, zi x2)] → W p l e (zR 3) s m args below meth c H locs 0 0 (zQi D tc b n S' r below args s) (zG b m 21 ls [zi y0]) := by
  intro S x0 x1 x2 y0 H locs ls h I hl
  rw [fX8_marked_21] at h
  refine z_istore_n C hl dX8_marked_21 rfl (by decide) (fun v1 => [(3, zi v1), (0, zr x0), (1, zi x1), (2, zi x2)]) (fun _ => rfl) (fun v1 e2 ls hl => ?_)
  have h := znb e2 h
  refine z_iload_n C hl 3 rfl dX8_marked_22 rfl ?_
  refine z_iconst C (v := 3) dX8_marked_23 (by decide) ?_
  refine z_icmp_ne C 33 dX8_marked_24 (by decide) (fun c3 => ?_) (fun c3 => ?_)
  · have h := zif c3 h
    exact bX8_marked_33 C hr hk _ _ _ _ _ _ _ _ h I (zL_sub hl [1, 2, 3, 0] rfl)
  · have h := zit c3 h
    refine z_aload_n C hl 1 rfl dX8_marked_27 rfl ?_
    refine z_bipush C (v := 22) dX8_marked_28 (by decide) ?_
    obtain ⟨g4, h⟩ := zd_some h
    obtain ⟨r5, S6, h7, h⟩ := zcs h
    refine z_callVv C I (tX8_began l D tc b n h7) zyX8_began zyvX8_began zc8 g4 zq_965 (st := []) rfl rfl (by decide) (by decide) hl.1 (Nat.le_of_ble_eq_true rfl) dX8_marked_30 (fun H locs I => ?_)
    exact bX8_marked_33 C hr hk _ _ _ _ _ _ _ _ h I (zL_sub hl [1, 2, 3, 0] rfl)

def fX8_marked_16 (n : Nat) (S : zM) (x0 : Int32) (x1 : Int32) (x2 : Int32) : Option (Int32 × zM) := fX8_marked_21 n S x0 x1 x2 1
theorem bX8_marked_16 {p : Program} {l : Launch} {e : Env} {s : State} {m : MethodId} {args : Array Value} {below : List Frame} {meth : Method} {c : Code} {D : va_G} {tc : Nat → ClassId} {b n : Nat} {S' : zM} {r : Int32} (C : zC p m c cX8_marked 4 s args yX8_marked.cls D tc) (hr : meth.sig.returnType = some .int) (hk : meth.locks = false) : ∀ (S : zM) (x0 : Int32) (x1 : Int32) (x2 : Int32) (H : Heap) (locs : List Loc) (ls : Array Slot), fX8_marked_16 n S x0 x1 x2 = some (r, S') → zI D tc b n S s H locs → zL b ls 4 [(0, zr x0), (1, zi x1), (2, zi x2)] → W p l e (zR 3) s m args below meth c H locs 0 0 (zQi D tc b n S' r below args s) (zG b m 16 ls []) := by
  intro S x0 x1 x2 H locs ls h I hl
  rw [fX8_marked_16] at h
  refine z_iconst C (v := 1) dX8_marked_16 (by decide) ?_
  refine z_goto C 21 dX8_marked_17 (by decide) ?_
  exact bX8_marked_21 C hr hk _ _ _ _ _ _ _ _ h I (zL_sub hl [0, 1, 2] rfl)

def fX8_marked (n : Nat) (S : zM) (a0 : Int32) (a1 : Int32) : Option (Int32 × zM) := zd (zo n 18 a0) <| zca (fX8_kindOf n S a0 a1) fun r2 S3 => zbd (r2) fun v5 => if (v5 : Int32) = (1 : Int32) then (fX8_marked_16 n S3 a0 a1 v5) else (if (v5 : Int32) = (2 : Int32) then (fX8_marked_16 n S3 a0 a1 v5) else (fX8_marked_21 n S3 a0 a1 v5 0))
theorem tX8_marked (l : Launch) (D : va_G) (tc : Nat → ClassId) (b n : Nat) {S S' : zM} {a0 : Int32} {a1 : Int32} {r : Int32} (h : fX8_marked n S a0 a1 = some (r, S')) : zMi l D tc b n yX8_marked cX8_marked 4 .int 3 [zr a0, zi a1] S S' r := by
  refine zMi_of zyX8_marked (Nat.le_of_ble_eq_true rfl) (fun p e s m args below meth c H C hr hk ls hl I => ?_)
  have hl : zL b ls 4 [(0, zr a0), (1, zi a1)] := hl
  rw [fX8_marked] at h
  refine z_aload_n C hl 0 rfl dX8_marked_0 rfl ?_
  refine z_iload_n C hl 1 rfl dX8_marked_1 rfl ?_
  obtain ⟨g1, h⟩ := zd_some h
  obtain ⟨r2, S3, h4, h⟩ := zcs h
  refine z_callVi C I (tX8_kindOf l D tc b n h4) zyX8_kindOf zyvX8_kindOf zc8 g1 zq_949 (st := []) rfl rfl (by decide) (by decide) hl.1 (Nat.le_of_ble_eq_true rfl) dX8_marked_2 (fun H locs I => ?_)
  refine z_istore_n C hl dX8_marked_5 rfl (by decide) (fun v5 => [(2, zi v5), (0, zr a0), (1, zi a1)]) (fun _ => rfl) (fun v5 e6 ls hl => ?_)
  have h := znb e6 h
  refine z_iload_n C hl 0 rfl dX8_marked_6 rfl ?_
  refine z_iconst C (v := 1) dX8_marked_7 (by decide) ?_
  refine z_icmp_eq C 16 dX8_marked_8 (by decide) (fun c7 => ?_) (fun c7 => ?_)
  · have h := zit c7 h
    exact bX8_marked_16 C hr hk _ _ _ _ _ _ _ h I (zL_sub hl [1, 2, 0] rfl)
  · have h := zif c7 h
    refine z_iload_n C hl 0 rfl dX8_marked_11 rfl ?_
    refine z_iconst C (v := 2) dX8_marked_12 (by decide) ?_
    refine z_icmp_ne C 20 dX8_marked_13 (by decide) (fun c8 => ?_) (fun c8 => ?_)
    · have h := zif c8 h
      refine z_iconst C (v := 0) dX8_marked_20 (by decide) ?_
      exact bX8_marked_21 C hr hk _ _ _ _ _ _ _ _ h I (zL_sub hl [1, 2, 0] rfl)
    · have h := zit c8 h
      exact bX8_marked_16 C hr hk _ _ _ _ _ _ _ h I (zL_sub hl [1, 2, 0] rfl)

def fX8_ask (n : Nat) (S : zM) (a0 : Int32) (a1 : Int32) (a2 : Int32) : Option (Int32 × zM) := zd (zo n 18 a0) <| zbd (zp S a0 0 0) fun S2 => zca (fX8_isDevice n S2 a0 a1) fun r4 S5 => if (r4 : Int32) = 0 then (some ((-1000001), S5)) else (zca (fX8_in n S5 ((a2 : Int32).toInt64) 0 1) fun r8 S9 => if (r8 : Int32) = 0 then (some ((-1000001), S9)) else (zbd (zp S9 a0 37 0) fun S12 => if (a2 : Int32) = 0 then (zca (fX8_worth n S12 a0 a1) fun r18 S19 => some (r18, S19)) else (zca (fX8_marked n S12 a0 a1) fun r15 S16 => some (r15, S16))))
theorem tX8_ask (l : Launch) (D : va_G) (tc : Nat → ClassId) (b n : Nat) {S S' : zM} {a0 : Int32} {a1 : Int32} {a2 : Int32} {r : Int32} (h : fX8_ask n S a0 a1 a2 = some (r, S')) : zMi l D tc b n yX8_ask cX8_ask 3 .int 4 [zr a0, zi a1, zi a2] S S' r := by
  refine zMi_of zyX8_ask (Nat.le_of_ble_eq_true rfl) (fun p e s m args below meth c H C hr hk ls hl I => ?_)
  have hl : zL b ls 3 [(0, zr a0), (1, zi a1), (2, zi a2)] := hl
  rw [fX8_ask] at h
  refine z_aload_n C hl 0 rfl dX8_ask_0 rfl ?_
  refine z_iconst C (v := 0) dX8_ask_1 (by decide) ?_
  obtain ⟨g1, h⟩ := zd_some h
  refine z_put C I 8 0 zc8 g1 (by decide) rfl zq_656 rfl (v := zi 0) rfl dX8_ask_2 (fun S2 e3 H locs I => ?_)
  have h := znb e3 h
  refine z_aload_n C hl 0 rfl dX8_ask_5 rfl ?_
  refine z_iload_n C hl 1 rfl dX8_ask_6 rfl ?_
  obtain ⟨r4, S5, h6, h⟩ := zcs h
  refine z_callVi C I (tX8_isDevice l D tc b n h6) zyX8_isDevice zyvX8_isDevice zc8 g1 zq_838 (st := []) rfl rfl (by decide) (by decide) hl.1 (Nat.le_of_ble_eq_true rfl) dX8_ask_7 (fun H locs I => ?_)
  refine z_if_eq C 23 dX8_ask_10 (by decide) (fun c7 => ?_) (fun c7 => ?_)
  · have h := zit c7 h
    refine z_ldc C zq_783 dX8_ask_23 ?_
    exact z_iret C I hr hk h dX8_ask_25
  · have h := zif c7 h
    refine z_iload_n C hl 2 rfl dX8_ask_13 rfl ?_
    refine z_i2l C dX8_ask_14 ?_
    refine z_lconst C (v := 0) dX8_ask_15 (by decide) ?_
    refine z_lconst C (v := 1) dX8_ask_16 (by decide) ?_
    obtain ⟨r8, S9, h10, h⟩ := zcs h
    refine z_callSi C I (tX8_in l D tc b n h10) zyX8_in zq_780 zq_779 (st := []) rfl rfl (by decide) (by decide) hl.1 (Nat.le_of_ble_eq_true rfl) dX8_ask_17 (fun H locs I => ?_)
    refine z_if_ne C 26 dX8_ask_20 (by decide) (fun c11 => ?_) (fun c11 => ?_)
    · have h := zif c11 h
      refine z_aload_n C hl 0 rfl dX8_ask_26 rfl ?_
      refine z_iconst C (v := 0) dX8_ask_27 (by decide) ?_
      refine z_put C I 8 37 zc8 g1 (by decide) rfl zq_693 rfl (v := zi 0) rfl dX8_ask_28 (fun S12 e13 H locs I => ?_)
      have h := znb e13 h
      refine z_iload_n C hl 2 rfl dX8_ask_31 rfl ?_
      refine z_if_ne C 43 dX8_ask_32 (by decide) (fun c14 => ?_) (fun c14 => ?_)
      · have h := zif c14 h
        refine z_aload_n C hl 0 rfl dX8_ask_43 rfl ?_
        refine z_iload_n C hl 1 rfl dX8_ask_44 rfl ?_
        obtain ⟨r15, S16, h17, h⟩ := zcs h
        refine z_callVi C I (tX8_marked l D tc b n h17) zyX8_marked zyvX8_marked zc8 g1 zq_969 (st := []) rfl rfl (by decide) (by decide) hl.1 (Nat.le_of_ble_eq_true rfl) dX8_ask_45 (fun H locs I => ?_)
        exact z_iret C I hr hk h dX8_ask_48
      · have h := zit c14 h
        refine z_aload_n C hl 0 rfl dX8_ask_35 rfl ?_
        refine z_iload_n C hl 1 rfl dX8_ask_36 rfl ?_
        obtain ⟨r18, S19, h20, h⟩ := zcs h
        refine z_callVi C I (tX8_worth l D tc b n h20) zyX8_worth zyvX8_worth zc8 g1 zq_961 (st := []) rfl rfl (by decide) (by decide) hl.1 (Nat.le_of_ble_eq_true rfl) dX8_ask_37 (fun H locs I => ?_)
        refine z_goto C 48 dX8_ask_40 (by decide) ?_
        exact z_iret C I hr hk h dX8_ask_48
    · have h := zit c11 h
      refine z_ldc C zq_783 dX8_ask_23 ?_
      exact z_iret C I hr hk h dX8_ask_25

def fX8_trace (n : Nat) (S : zM) (a0 : Int32) (a1 : Int32) : Option (Int32 × zM) := zd (zo n 18 a0) <| zbd (zp S a0 0 0) fun S2 => zca (fX8_in n S2 ((a1 : Int32).toInt64) 0 (((zg S2 a0 37) - 1 : Int32).toInt64)) fun r4 S5 => if (r4 : Int32) = 0 then (some ((-1000000), S5)) else (zd (za n 0 (zg S5 a0 36) a1) <| some (ze S5 (zg S5 a0 36) a1, S5))
theorem tX8_trace (l : Launch) (D : va_G) (tc : Nat → ClassId) (b n : Nat) {S S' : zM} {a0 : Int32} {a1 : Int32} {r : Int32} (h : fX8_trace n S a0 a1 = some (r, S')) : zMi l D tc b n yX8_trace cX8_trace 2 .int 1 [zr a0, zi a1] S S' r := by
  refine zMi_of zyX8_trace (Nat.le_of_ble_eq_true rfl) (fun p e s m args below meth c H C hr hk ls hl I => ?_)
  have hl : zL b ls 2 [(0, zr a0), (1, zi a1)] := hl
  rw [fX8_trace] at h
  refine z_aload_n C hl 0 rfl dX8_trace_0 rfl ?_
  refine z_iconst C (v := 0) dX8_trace_1 (by decide) ?_
  obtain ⟨g1, h⟩ := zd_some h
  refine z_put C I 8 0 zc8 g1 (by decide) rfl zq_656 rfl (v := zi 0) rfl dX8_trace_2 (fun S2 e3 H locs I => ?_)
  have h := znb e3 h
  refine z_iload_n C hl 1 rfl dX8_trace_5 rfl ?_
  refine z_i2l C dX8_trace_6 ?_
  refine z_lconst C (v := 0) dX8_trace_7 (by decide) ?_
  refine z_aload_n C hl 0 rfl dX8_trace_8 rfl ?_
  refine z_get C I 8 37 zc8 g1 (by decide) zq_693 (v := zi (zg S2 a0 37)) rfl dX8_trace_9 ?_
  refine z_iconst C (v := 1) dX8_trace_12 (by decide) ?_
  refine z_isub C dX8_trace_13 ?_
  refine z_i2l C dX8_trace_14 ?_
  obtain ⟨r4, S5, h6, h⟩ := zcs h
  refine z_callSi C I (tX8_in l D tc b n h6) zyX8_in zq_780 zq_779 (st := []) rfl rfl (by decide) (by decide) hl.1 (Nat.le_of_ble_eq_true rfl) dX8_trace_15 (fun H locs I => ?_)
  refine z_if_eq C 30 dX8_trace_18 (by decide) (fun c7 => ?_) (fun c7 => ?_)
  · have h := zit c7 h
    refine z_ldc C zq_829 dX8_trace_30 ?_
    exact z_iret C I hr hk h dX8_trace_32
  · have h := zif c7 h
    refine z_aload_n C hl 0 rfl dX8_trace_21 rfl ?_
    refine z_get C I 8 36 zc8 g1 (by decide) zq_692 (v := zr (zg S5 a0 36)) rfl dX8_trace_22 ?_
    refine z_iload_n C hl 1 rfl dX8_trace_25 rfl ?_
    obtain ⟨g8, h⟩ := zd_some h
    refine z_iald C I g8 dX8_trace_26 ?_
    refine z_goto C 32 dX8_trace_27 (by decide) ?_
    exact z_iret C I hr hk h dX8_trace_32

def fX8_count_75 (n : Nat) (k54 : zM → Int32 → Int32 → Int32 → Option (Int32 × zM)) (S : zM) (x0 : Int32) (x3 : Int32) (y0 : Int32) (y1 : Int32) : Option (Int32 × zM) := zbd (y1 + y0) fun v1 => zbd (x3 + 1) fun v3 => k54 S x0 v1 v3
theorem bX8_count_75 {p : Program} {l : Launch} {e : Env} {s : State} {m : MethodId} {args : Array Value} {below : List Frame} {meth : Method} {c : Code} {D : va_G} {tc : Nat → ClassId} {b n : Nat} {S' : zM} {r : Int32} (C : zC p m c cX8_count 5 s args yX8_count.cls D tc) (hr : meth.sig.returnType = some .int) (hk : meth.locks = false) {k54 : zM → Int32 → Int32 → Int32 → Option (Int32 × zM)} (K54 : ∀ (S : zM) (x0 : Int32) (x2 : Int32) (x3 : Int32) (H : Heap) (locs : List Loc) (ls : Array Slot), k54 S x0 x2 x3 = some (r, S') → zI D tc b n S s H locs → zL b ls 5 [(0, zr x0), (2, zi x2), (3, zi x3)] → W p l e (zR 2) s m args below meth c H locs 0 0 (zQi D tc b n S' r below args s) (zG b m 54 ls [])) : ∀ (S : zM) (x0 : Int32) (x3 : Int32) (y0 : Int32) (y1 : Int32) (H : Heap) (locs : List Loc) (ls : Array Slot), fX8_count_75 n k54 S x0 x3 y0 y1 = some (r, S') → zI D tc b n S s H locs → zL b ls 5 [(0, zr x0), (3, zi x3)] → W p l e (zR 2) s m args below meth c H locs 0 0 (zQi D tc b n S' r below args s) (zG b m 75 ls [zi y0, zi y1]) := by
  intro S x0 x3 y0 y1 H locs ls h I hl
  rw [fX8_count_75] at h
  refine z_iadd C dX8_count_75 ?_
  refine z_istore_n C hl dX8_count_76 rfl (by decide) (fun v1 => [(2, zi v1), (0, zr x0), (3, zi x3)]) (fun _ => rfl) (fun v1 e2 ls hl => ?_)
  have h := znb e2 h
  refine z_iinc C hl 2 (v := x3 + 1) rfl dX8_count_77 rfl (by decide) (fun v3 => [(3, zi v3), (2, zi v1), (0, zr x0)]) (fun _ => rfl) (fun v3 e4 ls hl => ?_)
  have h := znb e4 h
  refine z_goto C 54 dX8_count_80 (by decide) ?_
  exact K54 _ _ _ _ _ _ _ h I (zL_sub hl [2, 1, 0] rfl)

def fX8_count_54 (n : Nat) : Nat → zM → Int32 → Int32 → Int32 → Option (Int32 × zM)
  | 0, _, _, _, _ => none
  | fu + 1, S, x0, x2, x3 => if (8 : Int32) ≤ (x3 : Int32) then (some (x2, S)) else (zd (zo n 18 x0) <| zd (za n 0 (zg S x0 2) x3) <| if (ze S (zg S x0 2) x3 : Int32) < 0 then (fX8_count_75 n (fX8_count_54 n fu) S x0 x3 0 x2) else (fX8_count_75 n (fX8_count_54 n fu) S x0 x3 1 x2))
theorem bX8_count_54 {p : Program} {l : Launch} {e : Env} {s : State} {m : MethodId} {args : Array Value} {below : List Frame} {meth : Method} {c : Code} {D : va_G} {tc : Nat → ClassId} {b n : Nat} {S' : zM} {r : Int32} (C : zC p m c cX8_count 5 s args yX8_count.cls D tc) (hr : meth.sig.returnType = some .int) (hk : meth.locks = false) : ∀ (fu : Nat) (S : zM) (x0 : Int32) (x2 : Int32) (x3 : Int32) (H : Heap) (locs : List Loc) (ls : Array Slot), fX8_count_54 n fu S x0 x2 x3 = some (r, S') → zI D tc b n S s H locs → zL b ls 5 [(0, zr x0), (2, zi x2), (3, zi x3)] → W p l e (zR 2) s m args below meth c H locs 0 0 (zQi D tc b n S' r below args s) (zG b m 54 ls []) := by
  intro fu
  induction fu with
  | zero => intro S x0 x2 x3 H locs ls h _ _; rw [fX8_count_54] at h; cases h
  | succ fu ih =>
    intro S x0 x2 x3 H locs ls h I hl
    rw [fX8_count_54] at h
    refine z_iload_n C hl 2 rfl dX8_count_54 rfl ?_
    refine z_bipush C (v := 8) dX8_count_55 (by decide) ?_
    refine z_icmp_ge C 83 dX8_count_57 (by decide) (fun c1 => ?_) (fun c1 => ?_)
    · have h := zit c1 h
      refine z_iload_n C hl 1 rfl dX8_count_83 rfl ?_
      exact z_iret C I hr hk h dX8_count_84
    · have h := zif c1 h
      refine z_iload_n C hl 1 rfl dX8_count_60 rfl ?_
      refine z_aload_n C hl 0 rfl dX8_count_61 rfl ?_
      obtain ⟨g2, h⟩ := zd_some h
      refine z_get C I 8 2 zc8 g2 (by decide) zq_658 (v := zr (zg S x0 2)) rfl dX8_count_62 ?_
      refine z_iload_n C hl 2 rfl dX8_count_65 rfl ?_
      obtain ⟨g3, h⟩ := zd_some h
      refine z_iald C I g3 dX8_count_66 ?_
      refine z_if_lt C 74 dX8_count_67 (by decide) (fun c4 => ?_) (fun c4 => ?_)
      · have h := zit c4 h
        refine z_iconst C (v := 0) dX8_count_74 (by decide) ?_
        exact bX8_count_75 C hr hk ih _ _ _ _ _ _ _ _ h I (zL_sub hl [0, 2] rfl)
      · have h := zif c4 h
        refine z_iconst C (v := 1) dX8_count_70 (by decide) ?_
        refine z_goto C 75 dX8_count_71 (by decide) ?_
        exact bX8_count_75 C hr hk ih _ _ _ _ _ _ _ _ h I (zL_sub hl [0, 2] rfl)

def fX8_count_170 (n : Nat) (k97 : zM → Int32 → Int32 → Int32 → Int32 → Option (Int32 × zM)) (S : zM) (x0 : Int32) (x1 : Int32) (x3 : Int32) (y0 : Int32) (y1 : Int32) : Option (Int32 × zM) := zbd (y1 + y0) fun v1 => zbd (x3 + 1) fun v3 => k97 S x0 x1 v1 v3
theorem bX8_count_170 {p : Program} {l : Launch} {e : Env} {s : State} {m : MethodId} {args : Array Value} {below : List Frame} {meth : Method} {c : Code} {D : va_G} {tc : Nat → ClassId} {b n : Nat} {S' : zM} {r : Int32} (C : zC p m c cX8_count 5 s args yX8_count.cls D tc) (hr : meth.sig.returnType = some .int) (hk : meth.locks = false) {k97 : zM → Int32 → Int32 → Int32 → Int32 → Option (Int32 × zM)} (K97 : ∀ (S : zM) (x0 : Int32) (x1 : Int32) (x2 : Int32) (x3 : Int32) (H : Heap) (locs : List Loc) (ls : Array Slot), k97 S x0 x1 x2 x3 = some (r, S') → zI D tc b n S s H locs → zL b ls 5 [(0, zr x0), (1, zi x1), (2, zi x2), (3, zi x3)] → W p l e (zR 2) s m args below meth c H locs 0 0 (zQi D tc b n S' r below args s) (zG b m 97 ls [])) : ∀ (S : zM) (x0 : Int32) (x1 : Int32) (x3 : Int32) (y0 : Int32) (y1 : Int32) (H : Heap) (locs : List Loc) (ls : Array Slot), fX8_count_170 n k97 S x0 x1 x3 y0 y1 = some (r, S') → zI D tc b n S s H locs → zL b ls 5 [(0, zr x0), (1, zi x1), (3, zi x3)] → W p l e (zR 2) s m args below meth c H locs 0 0 (zQi D tc b n S' r below args s) (zG b m 170 ls [zi y0, zi y1]) := by
  intro S x0 x1 x3 y0 y1 H locs ls h I hl
  rw [fX8_count_170] at h
  refine z_iadd C dX8_count_170 ?_
  refine z_istore_n C hl dX8_count_171 rfl (by decide) (fun v1 => [(2, zi v1), (0, zr x0), (1, zi x1), (3, zi x3)]) (fun _ => rfl) (fun v1 e2 ls hl => ?_)
  have h := znb e2 h
  refine z_iinc C hl 3 (v := x3 + 1) rfl dX8_count_172 rfl (by decide) (fun v3 => [(3, zi v3), (2, zi v1), (0, zr x0), (1, zi x1)]) (fun _ => rfl) (fun v3 e4 ls hl => ?_)
  have h := znb e4 h
  refine z_goto C 97 dX8_count_175 (by decide) ?_
  exact K97 _ _ _ _ _ _ _ _ h I (zL_sub hl [2, 3, 1, 0] rfl)

def fX8_count_151 (n : Nat) (k97 : zM → Int32 → Int32 → Int32 → Int32 → Option (Int32 × zM)) (S : zM) (x0 : Int32) (x1 : Int32) (x3 : Int32) (y0 : Int32) : Option (Int32 × zM) := fX8_count_170 n k97 S x0 x1 x3 1 y0
theorem bX8_count_151 {p : Program} {l : Launch} {e : Env} {s : State} {m : MethodId} {args : Array Value} {below : List Frame} {meth : Method} {c : Code} {D : va_G} {tc : Nat → ClassId} {b n : Nat} {S' : zM} {r : Int32} (C : zC p m c cX8_count 5 s args yX8_count.cls D tc) (hr : meth.sig.returnType = some .int) (hk : meth.locks = false) {k97 : zM → Int32 → Int32 → Int32 → Int32 → Option (Int32 × zM)} (K97 : ∀ (S : zM) (x0 : Int32) (x1 : Int32) (x2 : Int32) (x3 : Int32) (H : Heap) (locs : List Loc) (ls : Array Slot), k97 S x0 x1 x2 x3 = some (r, S') → zI D tc b n S s H locs → zL b ls 5 [(0, zr x0), (1, zi x1), (2, zi x2), (3, zi x3)] → W p l e (zR 2) s m args below meth c H locs 0 0 (zQi D tc b n S' r below args s) (zG b m 97 ls [])) : ∀ (S : zM) (x0 : Int32) (x1 : Int32) (x3 : Int32) (y0 : Int32) (H : Heap) (locs : List Loc) (ls : Array Slot), fX8_count_151 n k97 S x0 x1 x3 y0 = some (r, S') → zI D tc b n S s H locs → zL b ls 5 [(0, zr x0), (1, zi x1), (3, zi x3)] → W p l e (zR 2) s m args below meth c H locs 0 0 (zQi D tc b n S' r below args s) (zG b m 151 ls [zi y0]) := by
  intro S x0 x1 x3 y0 H locs ls h I hl
  rw [fX8_count_151] at h
  refine z_iconst C (v := 1) dX8_count_151 (by decide) ?_
  refine z_goto C 170 dX8_count_152 (by decide) ?_
  exact bX8_count_170 C hr hk K97 _ _ _ _ _ _ _ _ _ h I (zL_sub hl [0, 1, 2] rfl)

def fX8_count_97 (n : Nat) : Nat → zM → Int32 → Int32 → Int32 → Int32 → Option (Int32 × zM)
  | 0, _, _, _, _, _ => none
  | fu + 1, S, x0, x1, x2, x3 => zd (zo n 18 x0) <| if (zg S x0 13 : Int32) ≤ (x3 : Int32) then (some (x2, S)) else (zca (fX8_kindOf n S x0 x3) fun r3 S4 => zbd (r3) fun v6 => if (x1 : Int32) = (3 : Int32) then (zca (fX8_isAlive n S4 x0 x3) fun r13 S14 => if (r13 : Int32) = 0 then (fX8_count_170 n (fX8_count_97 n fu) S14 x0 x1 x3 0 x2) else (fX8_count_170 n (fX8_count_97 n fu) S14 x0 x1 x3 1 x2)) else (if (x1 : Int32) = (4 : Int32) then (if (v6 : Int32) = (1 : Int32) then (fX8_count_151 n (fX8_count_97 n fu) S4 x0 x1 x3 x2) else (if (v6 : Int32) = (2 : Int32) then (fX8_count_151 n (fX8_count_97 n fu) S4 x0 x1 x3 x2) else (fX8_count_170 n (fX8_count_97 n fu) S4 x0 x1 x3 0 x2))) else (if (v6 : Int32) = (3 : Int32) then (fX8_count_170 n (fX8_count_97 n fu) S4 x0 x1 x3 1 x2) else (fX8_count_170 n (fX8_count_97 n fu) S4 x0 x1 x3 0 x2))))
theorem bX8_count_97 {p : Program} {l : Launch} {e : Env} {s : State} {m : MethodId} {args : Array Value} {below : List Frame} {meth : Method} {c : Code} {D : va_G} {tc : Nat → ClassId} {b n : Nat} {S' : zM} {r : Int32} (C : zC p m c cX8_count 5 s args yX8_count.cls D tc) (hr : meth.sig.returnType = some .int) (hk : meth.locks = false) : ∀ (fu : Nat) (S : zM) (x0 : Int32) (x1 : Int32) (x2 : Int32) (x3 : Int32) (H : Heap) (locs : List Loc) (ls : Array Slot), fX8_count_97 n fu S x0 x1 x2 x3 = some (r, S') → zI D tc b n S s H locs → zL b ls 5 [(0, zr x0), (1, zi x1), (2, zi x2), (3, zi x3)] → W p l e (zR 2) s m args below meth c H locs 0 0 (zQi D tc b n S' r below args s) (zG b m 97 ls []) := by
  intro fu
  induction fu with
  | zero => intro S x0 x1 x2 x3 H locs ls h _ _; rw [fX8_count_97] at h; cases h
  | succ fu ih =>
    intro S x0 x1 x2 x3 H locs ls h I hl
    rw [fX8_count_97] at h
    refine z_iload_n C hl 3 rfl dX8_count_97 rfl ?_
    refine z_aload_n C hl 0 rfl dX8_count_98 rfl ?_
    obtain ⟨g1, h⟩ := zd_some h
    refine z_get C I 8 13 zc8 g1 (by decide) zq_669 (v := zi (zg S x0 13)) rfl dX8_count_99 ?_
    refine z_icmp_ge C 178 dX8_count_102 (by decide) (fun c2 => ?_) (fun c2 => ?_)
    · have h := zit c2 h
      refine z_iload_n C hl 2 rfl dX8_count_178 rfl ?_
      exact z_iret C I hr hk h dX8_count_179
    · have h := zif c2 h
      refine z_aload_n C hl 0 rfl dX8_count_105 rfl ?_
      refine z_iload_n C hl 3 rfl dX8_count_106 rfl ?_
      obtain ⟨r3, S4, h5, h⟩ := zcs h
      refine z_callVi C I (tX8_kindOf l D tc b n h5) zyX8_kindOf zyvX8_kindOf zc8 g1 zq_949 (st := []) rfl rfl (by decide) (by decide) hl.1 (Nat.le_of_ble_eq_true rfl) dX8_count_107 (fun H locs I => ?_)
      refine z_istore C hl dX8_count_110 (by decide) (fun v6 => [(4, zi v6), (0, zr x0), (1, zi x1), (2, zi x2), (3, zi x3)]) (fun _ => rfl) (fun v6 e7 ls hl => ?_)
      have h := znb e7 h
      refine z_iload_n C hl 3 rfl dX8_count_112 rfl ?_
      refine z_iload_n C hl 2 rfl dX8_count_113 rfl ?_
      refine z_iconst C (v := 3) dX8_count_114 (by decide) ?_
      refine z_icmp_ne C 134 dX8_count_115 (by decide) (fun c8 => ?_) (fun c8 => ?_)
      · have h := zif c8 h
        refine z_iload_n C hl 2 rfl dX8_count_134 rfl ?_
        refine z_iconst C (v := 4) dX8_count_135 (by decide) ?_
        refine z_icmp_ne C 159 dX8_count_136 (by decide) (fun c9 => ?_) (fun c9 => ?_)
        · have h := zif c9 h
          refine z_iload C hl 0 rfl dX8_count_159 ?_
          refine z_iconst C (v := 3) dX8_count_161 (by decide) ?_
          refine z_icmp_ne C 169 dX8_count_162 (by decide) (fun c10 => ?_) (fun c10 => ?_)
          · have h := zif c10 h
            refine z_iconst C (v := 0) dX8_count_169 (by decide) ?_
            exact bX8_count_170 C hr hk ih _ _ _ _ _ _ _ _ _ h I (zL_sub hl [1, 2, 4] rfl)
          · have h := zit c10 h
            refine z_iconst C (v := 1) dX8_count_165 (by decide) ?_
            refine z_goto C 170 dX8_count_166 (by decide) ?_
            exact bX8_count_170 C hr hk ih _ _ _ _ _ _ _ _ _ h I (zL_sub hl [1, 2, 4] rfl)
        · have h := zit c9 h
          refine z_iload C hl 0 rfl dX8_count_139 ?_
          refine z_iconst C (v := 1) dX8_count_141 (by decide) ?_
          refine z_icmp_eq C 151 dX8_count_142 (by decide) (fun c11 => ?_) (fun c11 => ?_)
          · have h := zit c11 h
            exact bX8_count_151 C hr hk ih _ _ _ _ _ _ _ _ h I (zL_sub hl [1, 2, 4] rfl)
          · have h := zif c11 h
            refine z_iload C hl 0 rfl dX8_count_145 ?_
            refine z_iconst C (v := 2) dX8_count_147 (by decide) ?_
            refine z_icmp_ne C 155 dX8_count_148 (by decide) (fun c12 => ?_) (fun c12 => ?_)
            · have h := zif c12 h
              refine z_iconst C (v := 0) dX8_count_155 (by decide) ?_
              refine z_goto C 170 dX8_count_156 (by decide) ?_
              exact bX8_count_170 C hr hk ih _ _ _ _ _ _ _ _ _ h I (zL_sub hl [1, 2, 4] rfl)
            · have h := zit c12 h
              exact bX8_count_151 C hr hk ih _ _ _ _ _ _ _ _ h I (zL_sub hl [1, 2, 4] rfl)
      · have h := zit c8 h
        refine z_aload_n C hl 1 rfl dX8_count_118 rfl ?_
        refine z_iload_n C hl 4 rfl dX8_count_119 rfl ?_
        obtain ⟨r13, S14, h15, h⟩ := zcs h
        refine z_callVi C I (tX8_isAlive l D tc b n h15) zyX8_isAlive zyvX8_isAlive zc8 g1 zq_865 (st := [zi x2]) rfl rfl (by decide) (by decide) hl.1 (Nat.le_of_ble_eq_true rfl) dX8_count_120 (fun H locs I => ?_)
        refine z_if_eq C 130 dX8_count_123 (by decide) (fun c16 => ?_) (fun c16 => ?_)
        · have h := zit c16 h
          refine z_iconst C (v := 0) dX8_count_130 (by decide) ?_
          refine z_goto C 170 dX8_count_131 (by decide) ?_
          exact bX8_count_170 C hr hk ih _ _ _ _ _ _ _ _ _ h I (zL_sub hl [1, 2, 4] rfl)
        · have h := zif c16 h
          refine z_iconst C (v := 1) dX8_count_126 (by decide) ?_
          refine z_goto C 170 dX8_count_127 (by decide) ?_
          exact bX8_count_170 C hr hk ih _ _ _ _ _ _ _ _ _ h I (zL_sub hl [1, 2, 4] rfl)

def fX8_count_203 (n : Nat) (k182 : zM → Int32 → Int32 → Int32 → Option (Int32 × zM)) (S : zM) (x0 : Int32) (x3 : Int32) (y0 : Int32) (y1 : Int32) : Option (Int32 × zM) := zbd (y1 + y0) fun v1 => zbd (x3 + 1) fun v3 => k182 S x0 v1 v3
theorem bX8_count_203 {p : Program} {l : Launch} {e : Env} {s : State} {m : MethodId} {args : Array Value} {below : List Frame} {meth : Method} {c : Code} {D : va_G} {tc : Nat → ClassId} {b n : Nat} {S' : zM} {r : Int32} (C : zC p m c cX8_count 5 s args yX8_count.cls D tc) (hr : meth.sig.returnType = some .int) (hk : meth.locks = false) {k182 : zM → Int32 → Int32 → Int32 → Option (Int32 × zM)} (K182 : ∀ (S : zM) (x0 : Int32) (x2 : Int32) (x3 : Int32) (H : Heap) (locs : List Loc) (ls : Array Slot), k182 S x0 x2 x3 = some (r, S') → zI D tc b n S s H locs → zL b ls 5 [(0, zr x0), (2, zi x2), (3, zi x3)] → W p l e (zR 2) s m args below meth c H locs 0 0 (zQi D tc b n S' r below args s) (zG b m 182 ls [])) : ∀ (S : zM) (x0 : Int32) (x3 : Int32) (y0 : Int32) (y1 : Int32) (H : Heap) (locs : List Loc) (ls : Array Slot), fX8_count_203 n k182 S x0 x3 y0 y1 = some (r, S') → zI D tc b n S s H locs → zL b ls 5 [(0, zr x0), (3, zi x3)] → W p l e (zR 2) s m args below meth c H locs 0 0 (zQi D tc b n S' r below args s) (zG b m 203 ls [zi y0, zi y1]) := by
  intro S x0 x3 y0 y1 H locs ls h I hl
  rw [fX8_count_203] at h
  refine z_iadd C dX8_count_203 ?_
  refine z_istore_n C hl dX8_count_204 rfl (by decide) (fun v1 => [(2, zi v1), (0, zr x0), (3, zi x3)]) (fun _ => rfl) (fun v1 e2 ls hl => ?_)
  have h := znb e2 h
  refine z_iinc C hl 2 (v := x3 + 1) rfl dX8_count_205 rfl (by decide) (fun v3 => [(3, zi v3), (2, zi v1), (0, zr x0)]) (fun _ => rfl) (fun v3 e4 ls hl => ?_)
  have h := znb e4 h
  refine z_goto C 182 dX8_count_208 (by decide) ?_
  exact K182 _ _ _ _ _ _ _ h I (zL_sub hl [2, 1, 0] rfl)

def fX8_count_182 (n : Nat) : Nat → zM → Int32 → Int32 → Int32 → Option (Int32 × zM)
  | 0, _, _, _, _ => none
  | fu + 1, S, x0, x2, x3 => if (100 : Int32) ≤ (x3 : Int32) then (some (x2, S)) else (zd (zo n 18 x0) <| zd (za n 0 (zg S x0 9) x3) <| if (ze S (zg S x0 9) x3 : Int32) ≤ 0 then (fX8_count_203 n (fX8_count_182 n fu) S x0 x3 0 x2) else (fX8_count_203 n (fX8_count_182 n fu) S x0 x3 1 x2))
theorem bX8_count_182 {p : Program} {l : Launch} {e : Env} {s : State} {m : MethodId} {args : Array Value} {below : List Frame} {meth : Method} {c : Code} {D : va_G} {tc : Nat → ClassId} {b n : Nat} {S' : zM} {r : Int32} (C : zC p m c cX8_count 5 s args yX8_count.cls D tc) (hr : meth.sig.returnType = some .int) (hk : meth.locks = false) : ∀ (fu : Nat) (S : zM) (x0 : Int32) (x2 : Int32) (x3 : Int32) (H : Heap) (locs : List Loc) (ls : Array Slot), fX8_count_182 n fu S x0 x2 x3 = some (r, S') → zI D tc b n S s H locs → zL b ls 5 [(0, zr x0), (2, zi x2), (3, zi x3)] → W p l e (zR 2) s m args below meth c H locs 0 0 (zQi D tc b n S' r below args s) (zG b m 182 ls []) := by
  intro fu
  induction fu with
  | zero => intro S x0 x2 x3 H locs ls h _ _; rw [fX8_count_182] at h; cases h
  | succ fu ih =>
    intro S x0 x2 x3 H locs ls h I hl
    rw [fX8_count_182] at h
    refine z_iload_n C hl 2 rfl dX8_count_182 rfl ?_
    refine z_bipush C (v := 100) dX8_count_183 (by decide) ?_
    refine z_icmp_ge C 211 dX8_count_185 (by decide) (fun c1 => ?_) (fun c1 => ?_)
    · have h := zit c1 h
      refine z_iload_n C hl 1 rfl dX8_count_211 rfl ?_
      exact z_iret C I hr hk h dX8_count_212
    · have h := zif c1 h
      refine z_iload_n C hl 1 rfl dX8_count_188 rfl ?_
      refine z_aload_n C hl 0 rfl dX8_count_189 rfl ?_
      obtain ⟨g2, h⟩ := zd_some h
      refine z_get C I 8 9 zc8 g2 (by decide) zq_665 (v := zr (zg S x0 9)) rfl dX8_count_190 ?_
      refine z_iload_n C hl 2 rfl dX8_count_193 rfl ?_
      obtain ⟨g3, h⟩ := zd_some h
      refine z_iald C I g3 dX8_count_194 ?_
      refine z_if_le C 202 dX8_count_195 (by decide) (fun c4 => ?_) (fun c4 => ?_)
      · have h := zit c4 h
        refine z_iconst C (v := 0) dX8_count_202 (by decide) ?_
        exact bX8_count_203 C hr hk ih _ _ _ _ _ _ _ _ h I (zL_sub hl [0, 2] rfl)
      · have h := zif c4 h
        refine z_iconst C (v := 1) dX8_count_198 (by decide) ?_
        refine z_goto C 203 dX8_count_199 (by decide) ?_
        exact bX8_count_203 C hr hk ih _ _ _ _ _ _ _ _ h I (zL_sub hl [0, 2] rfl)

def fX8_count (n : Nat) (S : zM) (a0 : Int32) (a1 : Int32) : Option (Int32 × zM) := zd (zo n 18 a0) <| zbd (zp S a0 0 0) fun S2 => zbd (0) fun v4 => if (a1 : Int32) = 0 then (zbd (0) fun v7 => fX8_count_54 n 1000 S2 a0 v4 v7) else if (a1 : Int32) = 1 then (some (zg S2 a0 5, S2)) else if (a1 : Int32) = 2 then (some (zg S2 a0 13, S2)) else if (a1 : Int32) = 3 then (zbd (0) fun v12 => fX8_count_97 n 1000 S2 a0 a1 v4 v12) else if (a1 : Int32) = 4 then (zbd (0) fun v15 => fX8_count_97 n 1000 S2 a0 a1 v4 v15) else if (a1 : Int32) = 5 then (zbd (0) fun v18 => fX8_count_97 n 1000 S2 a0 a1 v4 v18) else if (a1 : Int32) = 6 then (zbd (0) fun v21 => fX8_count_182 n 1000 S2 a0 v4 v21) else (some ((-1000001), S2))
theorem tX8_count (l : Launch) (D : va_G) (tc : Nat → ClassId) (b n : Nat) {S S' : zM} {a0 : Int32} {a1 : Int32} {r : Int32} (h : fX8_count n S a0 a1 = some (r, S')) : zMi l D tc b n yX8_count cX8_count 5 .int 2 [zr a0, zi a1] S S' r := by
  refine zMi_of zyX8_count (Nat.le_of_ble_eq_true rfl) (fun p e s m args below meth c H C hr hk ls hl I => ?_)
  have hl : zL b ls 5 [(0, zr a0), (1, zi a1)] := hl
  rw [fX8_count] at h
  refine z_aload_n C hl 0 rfl dX8_count_0 rfl ?_
  refine z_iconst C (v := 0) dX8_count_1 (by decide) ?_
  obtain ⟨g1, h⟩ := zd_some h
  refine z_put C I 8 0 zc8 g1 (by decide) rfl zq_656 rfl (v := zi 0) rfl dX8_count_2 (fun S2 e3 H locs I => ?_)
  have h := znb e3 h
  refine z_iconst C (v := 0) dX8_count_5 (by decide) ?_
  refine z_istore_n C hl dX8_count_6 rfl (by decide) (fun v4 => [(2, zi v4), (0, zr a0), (1, zi a1)]) (fun _ => rfl) (fun v4 e5 ls hl => ?_)
  have h := znb e5 h
  refine z_iload_n C hl 2 rfl dX8_count_7 rfl ?_
  by_cases c6 : (a1 : Int32) = 0
  · have h := zit c6 h
    refine z_tsIn C (off := 44) 52 c6 dX8_count_8 (by decide) (by decide) (by decide) (by decide) ?_
    refine z_iconst C (v := 0) dX8_count_52 (by decide) ?_
    refine z_istore_n C hl dX8_count_53 rfl (by decide) (fun v7 => [(3, zi v7), (2, zi v4), (0, zr a0), (1, zi a1)]) (fun _ => rfl) (fun v7 e8 ls hl => ?_)
    have h := znb e8 h
    exact bX8_count_54 C hr hk 1000 _ _ _ _ _ _ _ h I (zL_sub hl [2, 1, 0] rfl)
  have h := zif c6 h
  by_cases c9 : (a1 : Int32) = 1
  · have h := zit c9 h
    refine z_tsIn C (off := 77) 85 c9 dX8_count_8 (by decide) (by decide) (by decide) (by decide) ?_
    refine z_aload_n C hl 1 rfl dX8_count_85 rfl ?_
    refine z_get C I 8 5 zc8 g1 (by decide) zq_661 (v := zi (zg S2 a0 5)) rfl dX8_count_86 ?_
    exact z_iret C I hr hk h dX8_count_89
  have h := zif c9 h
  by_cases c10 : (a1 : Int32) = 2
  · have h := zit c10 h
    refine z_tsIn C (off := 82) 90 c10 dX8_count_8 (by decide) (by decide) (by decide) (by decide) ?_
    refine z_aload_n C hl 1 rfl dX8_count_90 rfl ?_
    refine z_get C I 8 13 zc8 g1 (by decide) zq_669 (v := zi (zg S2 a0 13)) rfl dX8_count_91 ?_
    exact z_iret C I hr hk h dX8_count_94
  have h := zif c10 h
  by_cases c11 : (a1 : Int32) = 3
  · have h := zit c11 h
    refine z_tsIn C (off := 87) 95 c11 dX8_count_8 (by decide) (by decide) (by decide) (by decide) ?_
    refine z_iconst C (v := 0) dX8_count_95 (by decide) ?_
    refine z_istore_n C hl dX8_count_96 rfl (by decide) (fun v12 => [(3, zi v12), (2, zi v4), (0, zr a0), (1, zi a1)]) (fun _ => rfl) (fun v12 e13 ls hl => ?_)
    have h := znb e13 h
    exact bX8_count_97 C hr hk 1000 _ _ _ _ _ _ _ _ h I (zL_sub hl [2, 3, 1, 0] rfl)
  have h := zif c11 h
  by_cases c14 : (a1 : Int32) = 4
  · have h := zit c14 h
    refine z_tsIn C (off := 87) 95 c14 dX8_count_8 (by decide) (by decide) (by decide) (by decide) ?_
    refine z_iconst C (v := 0) dX8_count_95 (by decide) ?_
    refine z_istore_n C hl dX8_count_96 rfl (by decide) (fun v15 => [(3, zi v15), (2, zi v4), (0, zr a0), (1, zi a1)]) (fun _ => rfl) (fun v15 e16 ls hl => ?_)
    have h := znb e16 h
    exact bX8_count_97 C hr hk 1000 _ _ _ _ _ _ _ _ h I (zL_sub hl [2, 3, 1, 0] rfl)
  have h := zif c14 h
  by_cases c17 : (a1 : Int32) = 5
  · have h := zit c17 h
    refine z_tsIn C (off := 87) 95 c17 dX8_count_8 (by decide) (by decide) (by decide) (by decide) ?_
    refine z_iconst C (v := 0) dX8_count_95 (by decide) ?_
    refine z_istore_n C hl dX8_count_96 rfl (by decide) (fun v18 => [(3, zi v18), (2, zi v4), (0, zr a0), (1, zi a1)]) (fun _ => rfl) (fun v18 e19 ls hl => ?_)
    have h := znb e19 h
    exact bX8_count_97 C hr hk 1000 _ _ _ _ _ _ _ _ h I (zL_sub hl [2, 3, 1, 0] rfl)
  have h := zif c17 h
  by_cases c20 : (a1 : Int32) = 6
  · have h := zit c20 h
    refine z_tsIn C (off := 172) 180 c20 dX8_count_8 (by decide) (by decide) (by decide) (by decide) ?_
    refine z_iconst C (v := 0) dX8_count_180 (by decide) ?_
    refine z_istore_n C hl dX8_count_181 rfl (by decide) (fun v21 => [(3, zi v21), (2, zi v4), (0, zr a0), (1, zi a1)]) (fun _ => rfl) (fun v21 e22 ls hl => ?_)
    have h := znb e22 h
    exact bX8_count_182 C hr hk 1000 _ _ _ _ _ _ _ h I (zL_sub hl [2, 1, 0] rfl)
  have h := zif c20 h
  refine z_tsOut C 213 dX8_count_8 (by have t_c6 : ((a1 : Int32)).toInt ≠ 0 := fun q => c6 (Int32.toInt_inj.mp (q.trans (by decide))); have t_c9 : ((a1 : Int32)).toInt ≠ 1 := fun q => c9 (Int32.toInt_inj.mp (q.trans (by decide))); have t_c10 : ((a1 : Int32)).toInt ≠ 2 := fun q => c10 (Int32.toInt_inj.mp (q.trans (by decide))); have t_c11 : ((a1 : Int32)).toInt ≠ 3 := fun q => c11 (Int32.toInt_inj.mp (q.trans (by decide))); have t_c14 : ((a1 : Int32)).toInt ≠ 4 := fun q => c14 (Int32.toInt_inj.mp (q.trans (by decide))); have t_c17 : ((a1 : Int32)).toInt ≠ 5 := fun q => c17 (Int32.toInt_inj.mp (q.trans (by decide))); have t_c20 : ((a1 : Int32)).toInt ≠ 6 := fun q => c20 (Int32.toInt_inj.mp (q.trans (by decide))); omega) (by decide) ?_
  refine z_ldc C zq_783 dX8_count_213 ?_
  exact z_iret C I hr hk h dX8_count_215

def fX8_status (n : Nat) (S : zM) (a0 : Int32) : Option (Int32 × zM) := zd (zo n 18 a0) <| zbd (zp S a0 0 0) fun S2 => some (zg S2 a0 1, S2)
theorem tX8_status (l : Launch) (D : va_G) (tc : Nat → ClassId) (b n : Nat) {S S' : zM} {a0 : Int32} {r : Int32} (h : fX8_status n S a0 = some (r, S')) : zMi l D tc b n yX8_status cX8_status 1 .int 0 [zr a0] S S' r := by
  refine zMi_of zyX8_status (Nat.le_of_ble_eq_true rfl) (fun p e s m args below meth c H C hr hk ls hl I => ?_)
  have hl : zL b ls 1 [(0, zr a0)] := hl
  rw [fX8_status] at h
  refine z_aload_n C hl 0 rfl dX8_status_0 rfl ?_
  refine z_iconst C (v := 0) dX8_status_1 (by decide) ?_
  obtain ⟨g1, h⟩ := zd_some h
  refine z_put C I 8 0 zc8 g1 (by decide) rfl zq_656 rfl (v := zi 0) rfl dX8_status_2 (fun S2 e3 H locs I => ?_)
  have h := znb e3 h
  refine z_aload_n C hl 0 rfl dX8_status_5 rfl ?_
  refine z_get C I 8 1 zc8 g1 (by decide) zq_657 (v := zi (zg S2 a0 1)) rfl dX8_status_6 ?_
  exact z_iret C I hr hk h dX8_status_9

