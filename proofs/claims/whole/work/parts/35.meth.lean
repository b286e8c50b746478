def fX7_ask (n : Nat) (S : zM) (a0 : Int32) (a1 : Int32) (a2 : Int32) : Option (Int32 × zM) := zd (zo n 17 a0) <| zca (fX7_isDevice n S a0 a1) fun r2 S3 => if (r2 : Int32) = 0 then (some ((-1000001), S3)) else (if (a2 : Int32) < 0 then (some ((-1000001), S3)) else (if (a2 : Int32) ≤ (1 : Int32) then (zd (za n 4 (zg S3 a0 4) a1) <| zbd (ze S3 (zg S3 a0 4) a1) fun v9 => zca (fX7_kindOf n S3 a0 v9) fun r11 S12 => zbd (r11) fun v14 => zd (zo n 10 (zg S12 a0 9)) <| zca (fX0_forget n S12 (zg S12 a0 9)) fun r17 S18 => if (a2 : Int32) = 0 then (zd (zo n 10 (zg S18 a0 9)) <| zca (fX0_worthOf n S18 (zg S18 a0 9) v9 v14) fun r26 S27 => some (r26, S27)) else (zd (zo n 10 (zg S18 a0 9)) <| zca (fX0_markOf n S18 (zg S18 a0 9) v9 v14) fun r22 S23 => some (r22, S23))) else (some ((-1000001), S3))))
theorem tX7_ask (l : Launch) (D : va_G) (tc : Nat → ClassId) (b n : Nat) {S S' : zM} {a0 : Int32} {a1 : Int32} {a2 : Int32} {r : Int32} (h : fX7_ask n S a0 a1 a2 = some (r, S')) : zMi l D tc b n yX7_ask cX7_ask 5 .int 7 [zr a0, zi a1, zi a2] S S' r := by
  refine zMi_of zyX7_ask (Nat.le_of_ble_eq_true rfl) (fun p e s m args below meth c H C hr hk ls hl I => ?_)
  have hl : zL b ls 5 [(0, zr a0), (1, zi a1), (2, zi a2)] := hl
  rw [fX7_ask] at h
  refine z_aload_n C hl 0 rfl dX7_ask_0 rfl ?_
  refine z_iload_n C hl 1 rfl dX7_ask_1 rfl ?_
  obtain ⟨g1, h⟩ := zd_some h
  obtain ⟨r2, S3, h4, h⟩ := zcs h
  refine z_callVi C I (tX7_isDevice l D tc b n h4) zyX7_isDevice zyvX7_isDevice zc7 g1 zq_361 (st := []) rfl rfl (by decide) (by decide) hl.1 (Nat.le_of_ble_eq_true rfl) dX7_ask_2 (fun H locs I => ?_)
  refine z_if_eq C 17 dX7_ask_5 (by decide) (fun c5 => ?_) (fun c5 => ?_)
  · have h := zit c5 h
    refine z_ldc C zq_269 dX7_ask_17 ?_
    exact z_iret C I hr hk h dX7_ask_19
  · have h := zif c5 h
    refine z_iload_n C hl 2 rfl dX7_ask_8 rfl ?_
    refine z_if_lt C 17 dX7_ask_9 (by decide) (fun c6 => ?_) (fun c6 => ?_)
    · have h := zit c6 h
      refine z_ldc C zq_269 dX7_ask_17 ?_
      exact z_iret C I hr hk h dX7_ask_19
    · have h := zif c6 h
      refine z_iload_n C hl 2 rfl dX7_ask_12 rfl ?_
      refine z_iconst C (v := 1) dX7_ask_13 (by decide) ?_
      refine z_icmp_le C 20 dX7_ask_14 (by decide) (fun c7 => ?_) (fun c7 => ?_)
      · have h := zit c7 h
        refine z_aload_n C hl 0 rfl dX7_ask_20 rfl ?_
        refine z_get C I 7 4 zc7 g1 (by decide) zq_232 (v := zr (zg S3 a0 4)) rfl dX7_ask_21 ?_
        refine z_iload_n C hl 1 rfl dX7_ask_24 rfl ?_
        obtain ⟨g8, h⟩ := zd_some h
        refine z_aald C I 4 (by decide) g8 dX7_ask_25 ?_
        refine z_astore_n C hl dX7_ask_26 rfl (by decide) (fun v9 => [(3, zr v9), (0, zr a0), (1, zi a1), (2, zi a2)]) (fun _ => rfl) (fun v9 e10 ls hl => ?_)
        have h := znb e10 h
        refine z_aload_n C hl 1 rfl dX7_ask_27 rfl ?_
        refine z_aload_n C hl 0 rfl dX7_ask_28 rfl ?_
        obtain ⟨r11, S12, h13, h⟩ := zcs h
        refine z_callVi C I (tX7_kindOf l D tc b n h13) zyX7_kindOf zyvX7_kindOf zc7 g1 zq_559 (st := []) rfl rfl (by decide) (by decide) hl.1 (Nat.le_of_ble_eq_true rfl) dX7_ask_29 (fun H locs I => ?_)
        refine z_istore C hl dX7_ask_32 (by decide) (fun v14 => [(4, zi v14), (3, zr v9), (0, zr a0), (1, zi a1), (2, zi a2)]) (fun _ => rfl) (fun v14 e15 ls hl => ?_)
        have h := znb e15 h
        refine z_aload_n C hl 2 rfl dX7_ask_34 rfl ?_
        refine z_get C I 7 9 zc7 g1 (by decide) zq_237 (v := zr (zg S12 a0 9)) rfl dX7_ask_35 ?_
        obtain ⟨g16, h⟩ := zd_some h
        obtain ⟨r17, S18, h19, h⟩ := zcs h
        refine z_callVv C I (tX0_forget l D tc b n h19) zyX0_forget zyvX0_forget zc0 g16 zq_575 (st := []) rfl rfl (by decide) (by decide) hl.1 (Nat.le_of_ble_eq_true rfl) dX7_ask_38 (fun H locs I => ?_)
        refine z_iload_n C hl 4 rfl dX7_ask_41 rfl ?_
        refine z_if_ne C 58 dX7_ask_42 (by decide) (fun c20 => ?_) (fun c20 => ?_)
        · have h := zif c20 h
          refine z_aload_n C hl 2 rfl dX7_ask_58 rfl ?_
          refine z_get C I 7 9 zc7 g1 (by decide) zq_237 (v := zr (zg S18 a0 9)) rfl dX7_ask_59 ?_
          refine z_aload_n C hl 1 rfl dX7_ask_62 rfl ?_
          refine z_iload C hl 0 rfl dX7_ask_63 ?_
          obtain ⟨g21, h⟩ := zd_some h
          obtain ⟨r22, S23, h24, h⟩ := zcs h
          refine z_callVi C I (tX0_markOf l D tc b n h24) zyX0_markOf zyvX0_markOf zc0 g21 zq_604 (st := []) rfl rfl (by decide) (by decide) hl.1 (Nat.le_of_ble_eq_true rfl) dX7_ask_65 (fun H locs I => ?_)
          exact z_iret C I hr hk h dX7_ask_68
        · have h := zit c20 h
          refine z_aload_n C hl 2 rfl dX7_ask_45 rfl ?_
          refine z_get C I 7 9 zc7 g1 (by decide) zq_237 (v := zr (zg S18 a0 9)) rfl dX7_ask_46 ?_
          refine z_aload_n C hl 1 rfl dX7_ask_49 rfl ?_
          refine z_iload C hl 0 rfl dX7_ask_50 ?_
          obtain ⟨g25, h⟩ := zd_some h
          obtain ⟨r26, S27, h28, h⟩ := zcs h
          refine z_callVi C I (tX0_worthOf l D tc b n h28) zyX0_worthOf zyvX0_worthOf zc0 g25 zq_579 (st := []) rfl rfl (by decide) (by decide) hl.1 (Nat.le_of_ble_eq_true rfl) dX7_ask_52 (fun H locs I => ?_)
          refine z_goto C 68 dX7_ask_55 (by decide) ?_
          exact z_iret C I hr hk h dX7_ask_68
      · have h := zif c7 h
        refine z_ldc C zq_269 dX7_ask_17 ?_
        exact z_iret C I hr hk h dX7_ask_19

def fX7_trace (n : Nat) (S : zM) (a0 : Int32) (a1 : Int32) : Option (Int32 × zM) := zd (zo n 17 a0) <| zd (zo n 10 (zg S a0 9)) <| zca (fX0_tracedAt n S (zg S a0 9) a1) fun r3 S4 => some (r3, S4)
theorem tX7_trace (l : Launch) (D : va_G) (tc : Nat → ClassId) (b n : Nat) {S S' : zM} {a0 : Int32} {a1 : Int32} {r : Int32} (h : fX7_trace n S a0 a1 = some (r, S')) : zMi l D tc b n yX7_trace cX7_trace 2 .int 1 [zr a0, zi a1] S S' r := by
  refine zMi_of zyX7_trace (Nat.le_of_ble_eq_true rfl) (fun p e s m args below meth c H C hr hk ls hl I => ?_)
  have hl : zL b ls 2 [(0, zr a0), (1, zi a1)] := hl
  rw [fX7_trace] at h
  refine z_aload_n C hl 0 rfl dX7_trace_0 rfl ?_
  obtain ⟨g1, h⟩ := zd_some h
  refine z_get C I 7 9 zc7 g1 (by decide) zq_237 (v := zr (zg S a0 9)) rfl dX7_trace_1 ?_
  refine z_iload_n C hl 1 rfl dX7_trace_4 rfl ?_
  obtain ⟨g2, h⟩ := zd_some h
  obtain ⟨r3, S4, h5, h⟩ := zcs h
  refine z_callVi C I (tX0_tracedAt l D tc b n h5) zyX0_tracedAt zyvX0_tracedAt zc0 g2 zq_625 (st := []) rfl rfl (by decide) (by decide) hl.1 (Nat.le_of_ble_eq_true rfl) dX7_trace_5 (fun H locs I => ?_)
  exact z_iret C I hr hk h dX7_trace_8

def fX7_sheetsThere_25 (n : Nat) (k4 : zM → Int32 → Int32 → Int32 → Option (Int32 × zM)) (S : zM) (x0 : Int32) (x1 : Int32) (x2 : Int32) : Option (Int32 × zM) := zbd (x2 + 1) fun v1 => k4 S x0 x1 v1
theorem bX7_sheetsThere_25 {p : Program} {l : Launch} {e : Env} {s : State} {m : MethodId} {args : Array Value} {below : List Frame} {meth : Method} {c : Code} {D : va_G} {tc : Nat → ClassId} {b n : Nat} {S' : zM} {r : Int32} (C : zC p m c cX7_sheetsThere 3 s args yX7_sheetsThere.cls D tc) (hr : meth.sig.returnType = some .int) (hk : meth.locks = false) {k4 : zM → Int32 → Int32 → Int32 → Option (Int32 × zM)} (K4 : ∀ (S : zM) (x0 : Int32) (x1 : Int32) (x2 : Int32) (H : Heap) (locs : List Loc) (ls : Array Slot), k4 S x0 x1 x2 = some (r, S') → zI D tc b n S s H locs → zL b ls 3 [(0, zr x0), (1, zi x1), (2, zi x2)] → W p l e (zR 0) s m args below meth c H locs 0 0 (zQi D tc b n S' r below args s) (zG b m 4 ls [])) : ∀ (S : zM) (x0 : Int32) (x1 : Int32) (x2 : Int32) (H : Heap) (locs : List Loc) (ls : Array Slot), fX7_sheetsThere_25 n k4 S x0 x1 x2 = some (r, S') → zI D tc b n S s H locs → zL b ls 3 [(0, zr x0), (1, zi x1), (2, zi x2)] → W p l e (zR 0) s m args below meth c H locs 0 0 (zQi D tc b n S' r below args s) (zG b m 25 ls []) := by
  intro S x0 x1 x2 H locs ls h I hl
  rw [fX7_sheetsThere_25] at h
  refine z_iinc C hl 2 (v := x2 + 1) rfl dX7_sheetsThere_25 rfl (by decide) (fun v1 => [(2, zi v1), (0, zr x0), (1, zi x1)]) (fun _ => rfl) (fun v1 e2 ls hl => ?_)
  have h := znb e2 h
  refine z_goto C 4 dX7_sheetsThere_28 (by decide) ?_
  exact K4 _ _ _ _ _ _ _ h I (zL_sub hl [1, 2, 0] rfl)

def fX7_sheetsThere_4 (n : Nat) : Nat → zM → Int32 → Int32 → Int32 → Option (Int32 × zM)
  | 0, _, _, _, _ => none
  | fu + 1, S, x0, x1, x2 => if (8 : Int32) ≤ (x2 : Int32) then (some (x1, S)) else (zd (zo n 17 x0) <| zd (za n 2 (zg S x0 0) x2) <| zd (zo n 13 (ze S (zg S x0 0) x2)) <| if (zg S (ze S (zg S x0 0) x2) 1 : Int32) = 0 then (zbd (x1 + 1) fun v6 => fX7_sheetsThere_25 n (fX7_sheetsThere_4 n fu) S x0 v6 x2) else (fX7_sheetsThere_25 n (fX7_sheetsThere_4 n fu) S x0 x1 x2))
theorem bX7_sheetsThere_4 {p : Program} {l : Launch} {e : Env} {s : State} {m : MethodId} {args : Array Value} {below : List Frame} {meth : Method} {c : Code} {D : va_G} {tc : Nat → ClassId} {b n : Nat} {S' : zM} {r : Int32} (C : zC p m c cX7_sheetsThere 3 s args yX7_sheetsThere.cls D tc) (hr : meth.sig.returnType = some .int) (hk : meth.locks = false) : ∀ (fu : Nat) (S : zM) (x0 : Int32) (x1 : Int32) (x2 : Int32) (H : Heap) (locs : List Loc) (ls : Array Slot), fX7_sheetsThere_4 n fu S x0 x1 x2 = some (r, S') → zI D tc b n S s H locs → zL b ls 3 [(0, zr x0), (1, zi x1), (2, zi x2)] → W p l e (zR 0) s m args below meth c H locs 0 0 (zQi D tc b n S' r below args s) (zG b m 4 ls []) := by
  intro fu
  induction fu with
  | zero => intro S x0 x1 x2 H locs ls h _ _; rw [fX7_sheetsThere_4] at h; cases h
  | succ fu ih =>
    intro S x0 x1 x2 H locs ls h I hl
    rw [fX7_sheetsThere_4] at h
    refine z_iload_n C hl 2 rfl dX7_sheetsThere_4 rfl ?_
    refine z_bipush C (v := 8) dX7_sheetsThere_5 (by decide) ?_
    refine z_icmp_ge C 31 dX7_sheetsThere_7 (by decide) (fun c1 => ?_) (fun c1 => ?_)
    · have h := zit c1 h
      refine z_iload_n C hl 1 rfl dX7_sheetsThere_31 rfl ?_
      exact z_iret C I hr hk h dX7_sheetsThere_32
    · have h := zif c1 h
      refine z_aload_n C hl 0 rfl dX7_sheetsThere_10 rfl ?_
      obtain ⟨g2, h⟩ := zd_some h
      refine z_get C I 7 0 zc7 g2 (by decide) zq_228 (v := zr (zg S x0 0)) rfl dX7_sheetsThere_11 ?_
      refine z_iload_n C hl 2 rfl dX7_sheetsThere_14 rfl ?_
      obtain ⟨g3, h⟩ := zd_some h
      refine z_aald C I 2 (by decide) g3 dX7_sheetsThere_15 ?_
      obtain ⟨g4, h⟩ := zd_some h
      refine z_get C I 3 1 zc3 g4 (by decide) zq_188 (v := zi (zg S (ze S (zg S x0 0) x2) 1)) rfl dX7_sheetsThere_16 ?_
      refine z_if_ne C 25 dX7_sheetsThere_19 (by decide) (fun c5 => ?_) (fun c5 => ?_)
      · have h := zif c5 h
        exact bX7_sheetsThere_25 C hr hk ih _ _ _ _ _ _ _ h I (zL_sub hl [0, 1, 2] rfl)
      · have h := zit c5 h
        refine z_iinc C hl 1 (v := x1 + 1) rfl dX7_sheetsThere_22 rfl (by decide) (fun v6 => [(1, zi v6), (0, zr x0), (2, zi x2)]) (fun _ => rfl) (fun v6 e7 ls hl => ?_)
        have h := znb e7 h
        exact bX7_sheetsThere_25 C hr hk ih _ _ _ _ _ _ _ h I (zL_sub hl [1, 0, 2] rfl)

def fX7_sheetsThere (n : Nat) (S : zM) (a0 : Int32) : Option (Int32 × zM) := zbd (0) fun v1 => zbd (0) fun v3 => fX7_sheetsThere_4 n 1000 S a0 v1 v3
theorem tX7_sheetsThere (l : Launch) (D : va_G) (tc : Nat → ClassId) (b n : Nat) {S S' : zM} {a0 : Int32} {r : Int32} (h : fX7_sheetsThere n S a0 = some (r, S')) : zMi l D tc b n yX7_sheetsThere cX7_sheetsThere 3 .int 0 [zr a0] S S' r := by
  refine zMi_of zyX7_sheetsThere (Nat.le_of_ble_eq_true rfl) (fun p e s m args below meth c H C hr hk ls hl I => ?_)
  have hl : zL b ls 3 [(0, zr a0)] := hl
  rw [fX7_sheetsThere] at h
  refine z_iconst C (v := 0) dX7_sheetsThere_0 (by decide) ?_
  refine z_istore_n C hl dX7_sheetsThere_1 rfl (by decide) (fun v1 => [(1, zi v1), (0, zr a0)]) (fun _ => rfl) (fun v1 e2 ls hl => ?_)
  have h := znb e2 h
  refine z_iconst C (v := 0) dX7_sheetsThere_2 (by decide) ?_
  refine z_istore_n C hl dX7_sheetsThere_3 rfl (by decide) (fun v3 => [(2, zi v3), (1, zi v1), (0, zr a0)]) (fun _ => rfl) (fun v3 e4 ls hl => ?_)
  have h := znb e4 h
  exact bX7_sheetsThere_4 C hr hk 1000 _ _ _ _ _ _ _ h I (zL_sub hl [2, 1, 0] rfl)

def fX7_devicesAlive_27 (n : Nat) (k4 : zM → Int32 → Int32 → Int32 → Option (Int32 × zM)) (S : zM) (x0 : Int32) (x1 : Int32) (x2 : Int32) : Option (Int32 × zM) := zbd (x2 + 1) fun v1 => k4 S x0 x1 v1
theorem bX7_devicesAlive_27 {p : Program} {l : Launch} {e : Env} {s : State} {m : MethodId} {args : Array Value} {below : List Frame} {meth : Method} {c : Code} {D : va_G} {tc : Nat → ClassId} {b n : Nat} {S' : zM} {r : Int32} (C : zC p m c cX7_devicesAlive 3 s args yX7_devicesAlive.cls D tc) (hr : meth.sig.returnType = some .int) (hk : meth.locks = false) {k4 : zM → Int32 → Int32 → Int32 → Option (Int32 × zM)} (K4 : ∀ (S : zM) (x0 : Int32) (x1 : Int32) (x2 : Int32) (H : Heap) (locs : List Loc) (ls : Array Slot), k4 S x0 x1 x2 = some (r, S') → zI D tc b n S s H locs → zL b ls 3 [(0, zr x0), (1, zi x1), (2, zi x2)] → W p l e (zR 2) s m args below meth c H locs 0 0 (zQi D tc b n S' r below args s) (zG b m 4 ls [])) : ∀ (S : zM) (x0 : Int32) (x1 : Int32) (x2 : Int32) (H : Heap) (locs : List Loc) (ls : Array Slot), fX7_devicesAlive_27 n k4 S x0 x1 x2 = some (r, S') → zI D tc b n S s H locs → zL b ls 3 [(0, zr x0), (1, zi x1), (2, zi x2)] → W p l e (zR 2) s m args below meth c H locs 0 0 (zQi D tc b n S' r below args s) (zG b m 27 ls []) := by
  intro S x0 x1 x2 H locs ls h I hl
  rw [fX7_devicesAlive_27] at h
  refine z_iinc C hl 2 (v := x2 + 1) rfl dX7_devicesAlive_27 rfl (by decide) (fun v1 => [(2, zi v1), (0, zr x0), (1, zi x1)]) (fun _ => rfl) (fun v1 e2 ls hl => ?_)
  have h := znb e2 h
  refine z_goto C 4 dX7_devicesAlive_30 (by decide) ?_
  exact K4 _ _ _ _ _ _ _ h I (zL_sub hl [1, 2, 0] rfl)

def fX7_devicesAlive_4 (n : Nat) : Nat → zM → Int32 → Int32 → Int32 → Option (Int32 × zM)
  | 0, _, _, _, _ => none
  | fu + 1, S, x0, x1, x2 => zd (zo n 17 x0) <| if (zg S x0 5 : Int32) ≤ (x2 : Int32) then (some (x1, S)) else (zd (za n 4 (zg S x0 4) x2) <| zd (zo n 12 (ze S (zg S x0 4) x2)) <| zca (fX2_isAlive n S (ze S (zg S x0 4) x2)) fun r5 S6 => if (r5 : Int32) = 0 then (fX7_devicesAlive_27 n (fX7_devicesAlive_4 n fu) S6 x0 x1 x2) else (zbd (x1 + 1) fun v9 => fX7_devicesAlive_27 n (fX7_devicesAlive_4 n fu) S6 x0 v9 x2))
theorem bX7_devicesAlive_4 {p : Program} {l : Launch} {e : Env} {s : State} {m : MethodId} {args : Array Value} {below : List Frame} {meth : Method} {c : Code} {D : va_G} {tc : Nat → ClassId} {b n : Nat} {S' : zM} {r : Int32} (C : zC p m c cX7_devicesAlive 3 s args yX7_devicesAlive.cls D tc) (hr : meth.sig.returnType = some .int) (hk : meth.locks = false) : ∀ (fu : Nat) (S : zM) (x0 : Int32) (x1 : Int32) (x2 : Int32) (H : Heap) (locs : List Loc) (ls : Array Slot), fX7_devicesAlive_4 n fu S x0 x1 x2 = some (r, S') → zI D tc b n S s H locs → zL b ls 3 [(0, zr x0), (1, zi x1), (2, zi x2)] → W p l e (zR 2) s m args below meth c H locs 0 0 (zQi D tc b n S' r below args s) (zG b m 4 ls []) := by
  intro fu
  induction fu with
  | zero => intro S x0 x1 x2 H locs ls h _ _; rw [fX7_devicesAlive_4] at h; cases h
  | succ fu ih =>
    intro S x0 x1 x2 H locs ls h I hl
    rw [fX7_devicesAlive_4] at h
    refine z_iload_n C hl 2 rfl dX7_devicesAlive_4 rfl ?_
    refine z_aload_n C hl 0 rfl dX7_devicesAlive_5 rfl ?_
    obtain ⟨g1, h⟩ := zd_some h
    refine z_get C I 7 5 zc7 g1 (by decide) zq_233 (v := zi (zg S x0 5)) rfl dX7_devicesAlive_6 ?_
    refine z_icmp_ge C 33 dX7_devicesAlive_9 (by decide) (fun c2 => ?_) (fun c2 => ?_)
    · have h := zit c2 h
      refine z_iload_n C hl 1 rfl dX7_devicesAlive_33 rfl ?_
      exact z_iret C I hr hk h dX7_devicesAlive_34
    · have h := zif c2 h
      refine z_aload_n C hl 0 rfl dX7_devicesAlive_12 rfl ?_
      refine z_get C I 7 4 zc7 g1 (by decide) zq_232 (v := zr (zg S x0 4)) rfl dX7_devicesAlive_13 ?_
      refine z_iload_n C hl 2 rfl dX7_devicesAlive_16 rfl ?_
      obtain ⟨g3, h⟩ := zd_some h
      refine z_aald C I 4 (by decide) g3 dX7_devicesAlive_17 ?_
      obtain ⟨g4, h⟩ := zd_some h
      obtain ⟨r5, S6, h7, h⟩ := zcs h
      refine z_callVi C I (tX2_isAlive l D tc b n h7) zyX2_isAlive zyvX2_isAlive zc2 g4 zq_393 (st := []) rfl rfl (by decide) (by decide) hl.1 (Nat.le_of_ble_eq_true rfl) dX7_devicesAlive_18 (fun H locs I => ?_)
      refine z_if_eq C 27 dX7_devicesAlive_21 (by decide) (fun c8 => ?_) (fun c8 => ?_)
      · have h := zit c8 h
        exact bX7_devicesAlive_27 C hr hk ih _ _ _ _ _ _ _ h I (zL_sub hl [0, 1, 2] rfl)
      · have h := zif c8 h
        refine z_iinc C hl 1 (v := x1 + 1) rfl dX7_devicesAlive_24 rfl (by decide) (fun v9 => [(1, zi v9), (0, zr x0), (2, zi x2)]) (fun _ => rfl) (fun v9 e10 ls hl => ?_)
        have h := znb e10 h
        exact bX7_devicesAlive_27 C hr hk ih _ _ _ _ _ _ _ h I (zL_sub hl [1, 0, 2] rfl)

def fX7_devicesAlive (n : Nat) (S : zM) (a0 : Int32) : Option (Int32 × zM) := zbd (0) fun v1 => zbd (0) fun v3 => fX7_devicesAlive_4 n 1000 S a0 v1 v3
theorem tX7_devicesAlive (l : Launch) (D : va_G) (tc : Nat → ClassId) (b n : Nat) {S S' : zM} {a0 : Int32} {r : Int32} (h : fX7_devicesAlive n S a0 = some (r, S')) : zMi l D tc b n yX7_devicesAlive cX7_devicesAlive 3 .int 2 [zr a0] S S' r := by
  refine zMi_of zyX7_devicesAlive (Nat.le_of_ble_eq_true rfl) (fun p e s m args below meth c H C hr hk ls hl I => ?_)
  have hl : zL b ls 3 [(0, zr a0)] := hl
  rw [fX7_devicesAlive] at h
  refine z_iconst C (v := 0) dX7_devicesAlive_0 (by decide) ?_
  refine z_istore_n C hl dX7_devicesAlive_1 rfl (by decide) (fun v1 => [(1, zi v1), (0, zr a0)]) (fun _ => rfl) (fun v1 e2 ls hl => ?_)
  have h := znb e2 h
  refine z_iconst C (v := 0) dX7_devicesAlive_2 (by decide) ?_
  refine z_istore_n C hl dX7_devicesAlive_3 rfl (by decide) (fun v3 => [(2, zi v3), (1, zi v1), (0, zr a0)]) (fun _ => rfl) (fun v3 e4 ls hl => ?_)
  have h := znb e4 h
  exact bX7_devicesAlive_4 C hr hk 1000 _ _ _ _ _ _ _ h I (zL_sub hl [2, 1, 0] rfl)

def fX7_devicesTold_29 (n : Nat) (k4 : zM → Int32 → Int32 → Int32 → Int32 → Option (Int32 × zM)) (S : zM) (x0 : Int32) (x1 : Int32) (x2 : Int32) (x3 : Int32) : Option (Int32 × zM) := zbd (x3 + 1) fun v1 => k4 S x0 x1 x2 v1
theorem bX7_devicesTold_29 {p : Program} {l : Launch} {e : Env} {s : State} {m : MethodId} {args : Array Value} {below : List Frame} {meth : Method} {c : Code} {D : va_G} {tc : Nat → ClassId} {b n : Nat} {S' : zM} {r : Int32} (C : zC p m c cX7_devicesTold 4 s args yX7_devicesTold.cls D tc) (hr : meth.sig.returnType = some .int) (hk : meth.locks = false) {k4 : zM → Int32 → Int32 → Int32 → Int32 → Option (Int32 × zM)} (K4 : ∀ (S : zM) (x0 : Int32) (x1 : Int32) (x2 : Int32) (x3 : Int32) (H : Heap) (locs : List Loc) (ls : Array Slot), k4 S x0 x1 x2 x3 = some (r, S') → zI D tc b n S s H locs → zL b ls 4 [(0, zr x0), (1, zi x1), (2, zi x2), (3, zi x3)] → W p l e (zR 3) s m args below meth c H locs 0 0 (zQi D tc b n S' r below args s) (zG b m 4 ls [])) : ∀ (S : zM) (x0 : Int32) (x1 : Int32) (x2 : Int32) (x3 : Int32) (H : Heap) (locs : List Loc) (ls : Array Slot), fX7_devicesTold_29 n k4 S x0 x1 x2 x3 = some (r, S') → zI D tc b n S s H locs → zL b ls 4 [(0, zr x0), (1, zi x1), (2, zi x2), (3, zi x3)] → W p l e (zR 3) s m args below meth c H locs 0 0 (zQi D tc b n S' r below args s) (zG b m 29 ls []) := by
  intro S x0 x1 x2 x3 H locs ls h I hl
  rw [fX7_devicesTold_29] at h
  refine z_iinc C hl 3 (v := x3 + 1) rfl dX7_devicesTold_29 rfl (by decide) (fun v1 => [(3, zi v1), (0, zr x0), (1, zi x1), (2, zi x2)]) (fun _ => rfl) (fun v1 e2 ls hl => ?_)
  have h := znb e2 h
  refine z_goto C 4 dX7_devicesTold_32 (by decide) ?_
  exact K4 _ _ _ _ _ _ _ _ h I (zL_sub hl [1, 2, 3, 0] rfl)

def fX7_devicesTold_4 (n : Nat) : Nat → zM → Int32 → Int32 → Int32 → Int32 → Option (Int32 × zM)
  | 0, _, _, _, _, _ => none
  | fu + 1, S, x0, x1, x2, x3 => zd (zo n 17 x0) <| if (zg S x0 5 : Int32) ≤ (x3 : Int32) then (some (x2, S)) else (zd (za n 4 (zg S x0 4) x3) <| zca (fX7_kindOf n S x0 (ze S (zg S x0 4) x3)) fun r4 S5 => if (r4 : Int32) = (x1 : Int32) then (zbd (x2 + 1) fun v8 => fX7_devicesTold_29 n (fX7_devicesTold_4 n fu) S5 x0 x1 v8 x3) else (fX7_devicesTold_29 n (fX7_devicesTold_4 n fu) S5 x0 x1 x2 x3))
theorem bX7_devicesTold_4 {p : Program} {l : Launch} {e : Env} {s : State} {m : MethodId} {args : Array Value} {below : List Frame} {meth : Method} {c : Code} {D : va_G} {tc : Nat → ClassId} {b n : Nat} {S' : zM} {r : Int32} (C : zC p m c cX7_devicesTold 4 s args yX7_devicesTold.cls D tc) (hr : meth.sig.returnType = some .int) (hk : meth.locks = false) : ∀ (fu : Nat) (S : zM) (x0 : Int32) (x1 : Int32) (x2 : Int32) (x3 : Int32) (H : Heap) (locs : List Loc) (ls : Array Slot), fX7_devicesTold_4 n fu S x0 x1 x2 x3 = some (r, S') → zI D tc b n S s H locs → zL b ls 4 [(0, zr x0), (1, zi x1), (2, zi x2), (3, zi x3)] → W p l e (zR 3) s m args below meth c H locs 0 0 (zQi D tc b n S' r below args s) (zG b m 4 ls []) := by
  intro fu
  induction fu with
  | zero => intro S x0 x1 x2 x3 H locs ls h _ _; rw [fX7_devicesTold_4] at h; cases h
  | succ fu ih =>
    intro S x0 x1 x2 x3 H locs ls h I hl
    rw [fX7_devicesTold_4] at h
    refine z_iload_n C hl 3 rfl dX7_devicesTold_4 rfl ?_
    refine z_aload_n C hl 0 rfl dX7_devicesTold_5 rfl ?_
    obtain ⟨g1, h⟩ := zd_some h
    refine z_get C I 7 5 zc7 g1 (by decide) zq_233 (v := zi (zg S x0 5)) rfl dX7_devicesTold_6 ?_
    refine z_icmp_ge C 35 dX7_devicesTold_9 (by decide) (fun c2 => ?_) (fun c2 => ?_)
    · have h := zit c2 h
      refine z_iload_n C hl 2 rfl dX7_devicesTold_35 rfl ?_
      exact z_iret C I hr hk h dX7_devicesTold_36
    · have h := zif c2 h
      refine z_aload_n C hl 0 rfl dX7_devicesTold_12 rfl ?_
      refine z_aload_n C hl 0 rfl dX7_devicesTold_13 rfl ?_
      refine z_get C I 7 4 zc7 g1 (by decide) zq_232 (v := zr (zg S x0 4)) rfl dX7_devicesTold_14 ?_
      refine z_iload_n C hl 3 rfl dX7_devicesTold_17 rfl ?_
      obtain ⟨g3, h⟩ := zd_some h
      refine z_aald C I 4 (by decide) g3 dX7_devicesTold_18 ?_
      obtain ⟨r4, S5, h6, h⟩ := zcs h
      refine z_callVi C I (tX7_kindOf l D tc b n h6) zyX7_kindOf zyvX7_kindOf zc7 g1 zq_559 (st := []) rfl rfl (by decide) (by decide) hl.1 (Nat.le_of_ble_eq_true rfl) dX7_devicesTold_19 (fun H locs I => ?_)
      refine z_iload_n C hl 1 rfl dX7_devicesTold_22 rfl ?_
      refine z_icmp_ne C 29 dX7_devicesTold_23 (by decide) (fun c7 => ?_) (fun c7 => ?_)
      · have h := zif c7 h
        exact bX7_devicesTold_29 C hr hk ih _ _ _ _ _ _ _ _ h I (zL_sub hl [0, 1, 2, 3] rfl)
      · have h := zit c7 h
        refine z_iinc C hl 2 (v := x2 + 1) rfl dX7_devicesTold_26 rfl (by decide) (fun v8 => [(2, zi v8), (0, zr x0), (1, zi x1), (3, zi x3)]) (fun _ => rfl) (fun v8 e9 ls hl => ?_)
        have h := znb e9 h
        exact bX7_devicesTold_29 C hr hk ih _ _ _ _ _ _ _ _ h I (zL_sub hl [1, 2, 0, 3] rfl)

def fX7_devicesTold (n : Nat) (S : zM) (a0 : Int32) (a1 : Int32) : Option (Int32 × zM) := zbd (0) fun v1 => zbd (0) fun v3 => fX7_devicesTold_4 n 1000 S a0 a1 v1 v3
theorem tX7_devicesTold (l : Launch) (D : va_G) (tc : Nat → ClassId) (b n : Nat) {S S' : zM} {a0 : Int32} {a1 : Int32} {r : Int32} (h : fX7_devicesTold n S a0 a1 = some (r, S')) : zMi l D tc b n yX7_devicesTold cX7_devicesTold 4 .int 3 [zr a0, zi a1] S S' r := by
  refine zMi_of zyX7_devicesTold (Nat.le_of_ble_eq_true rfl) (fun p e s m args below meth c H C hr hk ls hl I => ?_)
  have hl : zL b ls 4 [(0, zr a0), (1, zi a1)] := hl
  rw [fX7_devicesTold] at h
  refine z_iconst C (v := 0) dX7_devicesTold_0 (by decide) ?_
  refine z_istore_n C hl dX7_devicesTold_1 rfl (by decide) (fun v1 => [(2, zi v1), (0, zr a0), (1, zi a1)]) (fun _ => rfl) (fun v1 e2 ls hl => ?_)
  have h := znb e2 h
  refine z_iconst C (v := 0) dX7_devicesTold_2 (by decide) ?_
  refine z_istore_n C hl dX7_devicesTold_3 rfl (by decide) (fun v3 => [(3, zi v3), (2, zi v1), (0, zr a0), (1, zi a1)]) (fun _ => rfl) (fun v3 e4 ls hl => ?_)
  have h := znb e4 h
  exact bX7_devicesTold_4 C hr hk 1000 _ _ _ _ _ _ _ _ h I (zL_sub hl [2, 3, 1, 0] rfl)

def fX7_count (n : Nat) (S : zM) (a0 : Int32) (a1 : Int32) : Option (Int32 × zM) := if (a1 : Int32) = 0 then (zd (zo n 17 a0) <| zca (fX7_sheetsThere n S a0) fun r3 S4 => some (r3, S4)) else if (a1 : Int32) = 1 then (zd (zo n 17 a0) <| some (zg S a0 2, S)) else if (a1 : Int32) = 2 then (zd (zo n 17 a0) <| some (zg S a0 5, S)) else if (a1 : Int32) = 3 then (zd (zo n 17 a0) <| zca (fX7_devicesAlive n S a0) fun r12 S13 => some (r12, S13)) else if (a1 : Int32) = 4 then (zd (zo n 17 a0) <| zca (fX7_devicesTold n S a0 1) fun r17 S18 => zca (fX7_devicesTold n S18 a0 2) fun r20 S21 => some (r17 + r20, S21)) else if (a1 : Int32) = 5 then (zd (zo n 17 a0) <| zca (fX7_devicesTold n S a0 3) fun r25 S26 => some (r25, S26)) else if (a1 : Int32) = 6 then (zd (zo n 17 a0) <| zd (zo n 15 (zg S a0 3)) <| some (zg S (zg S a0 3) 4, S)) else (some ((-1000001), S))
theorem tX7_count (l : Launch) (D : va_G) (tc : Nat → ClassId) (b n : Nat) {S S' : zM} {a0 : Int32} {a1 : Int32} {r : Int32} (h : fX7_count n S a0 a1 = some (r, S')) : zMi l D tc b n yX7_count cX7_count 2 .int 4 [zr a0, zi a1] S S' r := by
  refine zMi_of zyX7_count (Nat.le_of_ble_eq_true rfl) (fun p e s m args below meth c H C hr hk ls hl I => ?_)
  have hl : zL b ls 2 [(0, zr a0), (1, zi a1)] := hl
  rw [fX7_count] at h
  refine z_iload_n C hl 1 rfl dX7_count_0 rfl ?_
  by_cases c1 : (a1 : Int32) = 0
  · have h := zit c1 h
    refine z_tsIn C (off := 43) 44 c1 dX7_count_1 (by decide) (by decide) (by decide) (by decide) ?_
    refine z_aload_n C hl 0 rfl dX7_count_44 rfl ?_
    obtain ⟨g2, h⟩ := zd_some h
    obtain ⟨r3, S4, h5, h⟩ := zcs h
    refine z_callVi C I (tX7_sheetsThere l D tc b n h5) zyX7_sheetsThere zyvX7_sheetsThere zc7 g2 zq_634 (st := []) rfl rfl (by decide) (by decide) hl.1 (Nat.le_of_ble_eq_true rfl) dX7_count_45 (fun H locs I => ?_)
    exact z_iret C I hr hk h dX7_count_48
  have h := zif c1 h
  by_cases c6 : (a1 : Int32) = 1
  · have h := zit c6 h
    refine z_tsIn C (off := 48) 49 c6 dX7_count_1 (by decide) (by decide) (by decide) (by decide) ?_
    refine z_aload_n C hl 0 rfl dX7_count_49 rfl ?_
    obtain ⟨g7, h⟩ := zd_some h
    refine z_get C I 7 2 zc7 g7 (by decide) zq_230 (v := zi (zg S a0 2)) rfl dX7_count_50 ?_
    exact z_iret C I hr hk h dX7_count_53
  have h := zif c6 h
  by_cases c8 : (a1 : Int32) = 2
  · have h := zit c8 h
    refine z_tsIn C (off := 53) 54 c8 dX7_count_1 (by decide) (by decide) (by decide) (by decide) ?_
    refine z_aload_n C hl 0 rfl dX7_count_54 rfl ?_
    obtain ⟨g9, h⟩ := zd_some h
    refine z_get C I 7 5 zc7 g9 (by decide) zq_233 (v := zi (zg S a0 5)) rfl dX7_count_55 ?_
    exact z_iret C I hr hk h dX7_count_58
  have h := zif c8 h
  by_cases c10 : (a1 : Int32) = 3
  · have h := zit c10 h
    refine z_tsIn C (off := 58) 59 c10 dX7_count_1 (by decide) (by decide) (by decide) (by decide) ?_
    refine z_aload_n C hl 0 rfl dX7_count_59 rfl ?_
    obtain ⟨g11, h⟩ := zd_some h
    obtain ⟨r12, S13, h14, h⟩ := zcs h
    refine z_callVi C I (tX7_devicesAlive l D tc b n h14) zyX7_devicesAlive zyvX7_devicesAlive zc7 g11 zq_638 (st := []) rfl rfl (by decide) (by decide) hl.1 (Nat.le_of_ble_eq_true rfl) dX7_count_60 (fun H locs I => ?_)
    exact z_iret C I hr hk h dX7_count_63
  have h := zif c10 h
  by_cases c15 : (a1 : Int32) = 4
  · have h := zit c15 h
    refine z_tsIn C (off := 63) 64 c15 dX7_count_1 (by decide) (by decide) (by decide) (by decide) ?_
    refine z_aload_n C hl 0 rfl dX7_count_64 rfl ?_
    refine z_iconst C (v := 1) dX7_count_65 (by decide) ?_
    obtain ⟨g16, h⟩ := zd_some h
    obtain ⟨r17, S18, h19, h⟩ := zcs h
    refine z_callVi C I (tX7_devicesTold l D tc b n h19) zyX7_devicesTold zyvX7_devicesTold zc7 g16 zq_642 (st := []) rfl rfl (by decide) (by decide) hl.1 (Nat.le_of_ble_eq_true rfl) dX7_count_66 (fun H locs I => ?_)
    refine z_aload_n C hl 0 rfl dX7_count_69 rfl ?_
    refine z_iconst C (v := 2) dX7_count_70 (by decide) ?_
    obtain ⟨r20, S21, h22, h⟩ := zcs h
    refine z_callVi C I (tX7_devicesTold l D tc b n h22) zyX7_devicesTold zyvX7_devicesTold zc7 g16 zq_642 (st := [zi r17]) rfl rfl (by decide) (by decide) hl.1 (Nat.le_of_ble_eq_true rfl) dX7_count_71 (fun H locs I => ?_)
    refine z_iadd C dX7_count_74 ?_
    exact z_iret C I hr hk h dX7_count_75
  have h := zif c15 h
  by_cases c23 : (a1 : Int32) = 5
  · have h := zit c23 h
    refine z_tsIn C (off := 75) 76 c23 dX7_count_1 (by decide) (by decide) (by decide) (by decide) ?_
    refine z_aload_n C hl 0 rfl dX7_count_76 rfl ?_
    refine z_iconst C (v := 3) dX7_count_77 (by decide) ?_
    obtain ⟨g24, h⟩ := zd_some h
    obtain ⟨r25, S26, h27, h⟩ := zcs h
    refine z_callVi C I (tX7_devicesTold l D tc b n h27) zyX7_devicesTold zyvX7_devicesTold zc7 g24 zq_642 (st := []) rfl rfl (by decide) (by decide) hl.1 (Nat.le_of_ble_eq_true rfl) dX7_count_78 (fun H locs I => ?_)
    exact z_iret C I hr hk h dX7_count_81
  have h := zif c23 h
  by_cases c28 : (a1 : Int32) = 6
  · have h := zit c28 h
    refine z_tsIn C (off := 81) 82 c28 dX7_count_1 (by decide) (by decide) (by decide) (by decide) ?_
    refine z_aload_n C hl 0 rfl dX7_count_82 rfl ?_
    obtain ⟨g29, h⟩ := zd_some h
    refine z_get C I 7 3 zc7 g29 (by decide) zq_231 (v := zr (zg S a0 3)) rfl dX7_count_83 ?_
    obtain ⟨g30, h⟩ := zd_some h
    refine z_get C I 5 4 zc5 g30 (by decide) zq_39 (v := zi (zg S (zg S a0 3) 4)) rfl dX7_count_86 ?_
    exact z_iret C I hr hk h dX7_count_89
  have h := zif c28 h
  refine z_tsOut C 90 dX7_count_1 (by have t_c1 : ((a1 : Int32)).toInt ≠ 0 := fun q => c1 (Int32.toInt_inj.mp (q.trans (by decide))); have t_c6 : ((a1 : Int32)).toInt ≠ 1 := fun q => c6 (Int32.toInt_inj.mp (q.trans (by decide))); have t_c8 : ((a1 : Int32)).toInt ≠ 2 := fun q => c8 (Int32.toInt_inj.mp (q.trans (by decide))); have t_c10 : ((a1 : Int32)).toInt ≠ 3 := fun q => c10 (Int32.toInt_inj.mp (q.trans (by decide))); have t_c15 : ((a1 : Int32)).toInt ≠ 4 := fun q => c15 (Int32.toInt_inj.mp (q.trans (by decide))); have t_c23 : ((a1 : Int32)).toInt ≠ 5 := fun q => c23 (Int32.toInt_inj.mp (q.trans (by decide))); have t_c28 : ((a1 : Int32)).toInt ≠ 6 := fun q => c28 (Int32.toInt_inj.mp (q.trans (by decide))); omega) (by decide) ?_
  refine z_ldc C zq_269 dX7_count_90 ?_
  exact z_iret C I hr hk h dX7_count_92

def fX7_status (n : Nat) (S : zM) (a0 : Int32) : Option (Int32 × zM) := zd (zo n 17 a0) <| some (zg S a0 10, S)
theorem tX7_status (l : Launch) (D : va_G) (tc : Nat → ClassId) (b n : Nat) {S S' : zM} {a0 : Int32} {r : Int32} (h : fX7_status n S a0 = some (r, S')) : zMi l D tc b n yX7_status cX7_status 1 .int 0 [zr a0] S S' r := by
  refine zMi_of zyX7_status (Nat.le_of_ble_eq_true rfl) (fun p e s m args below meth c H C hr hk ls hl I => ?_)
  have hl : zL b ls 1 [(0, zr a0)] := hl
  rw [fX7_status] at h
  refine z_aload_n C hl 0 rfl dX7_status_0 rfl ?_
  obtain ⟨g1, h⟩ := zd_some h
  refine z_get C I 7 10 zc7 g1 (by decide) zq_238 (v := zi (zg S a0 10)) rfl dX7_status_1 ?_
  exact z_iret C I hr hk h dX7_status_4

