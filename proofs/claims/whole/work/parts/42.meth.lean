def fX8_go_26 (n : Nat) : Nat → zM → Int32 → Int32 → Int32 → Int32 → Option (Int32 × zM)
  | 0, _, _, _, _, _ => none
  | fu + 1, S, x0, x1, x4, x5 => if (x4 : Int32) ≤ (x5 : Int32) then (some (0, S)) else (zd (zo n 18 x0) <| zca (fX8_start n S x0 x1) fun r3 S4 => zbd (x5 + 1) fun v6 => fX8_go_26 n fu S4 x0 x1 x4 v6)
theorem bX8_go_26 {p : Program} {l : Launch} {e : Env} {s : State} {m : MethodId} {args : Array Value} {below : List Frame} {meth : Method} {c : Code} {D : va_G} {tc : Nat → ClassId} {b n : Nat} {S' : zM} {r : Int32} (C : zC p m c cX8_go 6 s args yX8_go.cls D tc) (hr : meth.sig.returnType = none) (hk : meth.locks = false) : ∀ (fu : Nat) (S : zM) (x0 : Int32) (x1 : Int32) (x4 : Int32) (x5 : Int32) (H : Heap) (locs : List Loc) (ls : Array Slot), fX8_go_26 n fu S x0 x1 x4 x5 = some (r, S') → zI D tc b n S s H locs → zL b ls 6 [(0, zr x0), (1, zi x1), (4, zi x4), (5, zi x5)] → W p l e (zR 3) s m args below meth c H locs 0 0 (zQv D tc b n S' below args s) (zG b m 26 ls []) := by
  intro fu
  induction fu with
  | zero => intro S x0 x1 x4 x5 H locs ls h _ _; rw [fX8_go_26] at h; cases h
  | succ fu ih =>
    intro S x0 x1 x4 x5 H locs ls h I hl
    rw [fX8_go_26] at h
    refine z_iload C hl 3 rfl dX8_go_26 ?_
    refine z_iload C hl 2 rfl dX8_go_28 ?_
    refine z_icmp_ge C 44 dX8_go_30 (by decide) (fun c1 => ?_) (fun c1 => ?_)
    · have h := zit c1 h
      exact z_vret C I hr hk h dX8_go_44
    · have h := zif c1 h
      refine z_aload_n C hl 0 rfl dX8_go_33 rfl ?_
      refine z_iload_n C hl 1 rfl dX8_go_34 rfl ?_
      obtain ⟨g2, h⟩ := zd_some h
      obtain ⟨r3, S4, h5, h⟩ := zcs h
      refine z_callVv C I (tX8_start l D tc b n h5) zyX8_start zyvX8_start zc8 g2 zq_885 (st := []) rfl rfl (by decide) (by decide) hl.1 (Nat.le_of_ble_eq_true rfl) dX8_go_35 (fun H locs I => ?_)
      refine z_iinc C hl 3 (v := x5 + 1) rfl dX8_go_38 rfl (by decide) (fun v6 => [(5, zi v6), (0, zr x0), (1, zi x1), (4, zi x4)]) (fun _ => rfl) (fun v6 e7 ls hl => ?_)
      have h := znb e7 h
      refine z_goto C 26 dX8_go_41 (by decide) ?_
      exact ih _ _ _ _ _ _ _ _ h I (zL_sub hl [1, 2, 3, 0] rfl)

def fX8_go_3 (n : Nat) : Nat → zM → Int32 → Int32 → Int32 → Int32 → Int32 → Int32 → Option (Int32 × zM)
  | 0, _, _, _, _, _, _, _ => none
  | fu + 1, S, x0, x1, x2, x3, x4, x5 => if (x3 : Int32) ≤ (x5 : Int32) then (zbd (0) fun v2 => fX8_go_26 n 1000 S x0 x1 x4 v2) else (zd (zo n 18 x0) <| zca (fX8_act n S x0 x1 x2 x5) fun r5 S6 => zbd (x5 + 1) fun v8 => fX8_go_3 n fu S6 x0 x1 x2 x3 x4 v8)
theorem bX8_go_3 {p : Program} {l : Launch} {e : Env} {s : State} {m : MethodId} {args : Array Value} {below : List Frame} {meth : Method} {c : Code} {D : va_G} {tc : Nat → ClassId} {b n : Nat} {S' : zM} {r : Int32} (C : zC p m c cX8_go 6 s args yX8_go.cls D tc) (hr : meth.sig.returnType = none) (hk : meth.locks = false) : ∀ (fu : Nat) (S : zM) (x0 : Int32) (x1 : Int32) (x2 : Int32) (x3 : Int32) (x4 : Int32) (x5 : Int32) (H : Heap) (locs : List Loc) (ls : Array Slot), fX8_go_3 n fu S x0 x1 x2 x3 x4 x5 = some (r, S') → zI D tc b n S s H locs → zL b ls 6 [(0, zr x0), (1, zi x1), (2, zi x2), (3, zi x3), (4, zi x4), (5, zi x5)] → W p l e (zR 3) s m args below meth c H locs 0 0 (zQv D tc b n S' below args s) (zG b m 3 ls []) := by
  intro fu
  induction fu with
  | zero => intro S x0 x1 x2 x3 x4 x5 H locs ls h _ _; rw [fX8_go_3] at h; cases h
  | succ fu ih =>
    intro S x0 x1 x2 x3 x4 x5 H locs ls h I hl
    rw [fX8_go_3] at h
    refine z_iload C hl 5 rfl dX8_go_3 ?_
    refine z_iload_n C hl 3 rfl dX8_go_5 rfl ?_
    refine z_icmp_ge C 23 dX8_go_6 (by decide) (fun c1 => ?_) (fun c1 => ?_)
    · have h := zit c1 h
      refine z_iconst C (v := 0) dX8_go_23 (by decide) ?_
      refine z_istore C hl dX8_go_24 (by decide) (fun v2 => [(5, zi v2), (0, zr x0), (1, zi x1), (2, zi x2), (3, zi x3), (4, zi x4)]) (fun _ => rfl) (fun v2 e3 ls hl => ?_)
      have h := znb e3 h
      exact bX8_go_26 C hr hk 1000 _ _ _ _ _ _ _ _ h I (zL_sub hl [1, 2, 5, 0] rfl)
    · have h := zif c1 h
      refine z_aload_n C hl 0 rfl dX8_go_9 rfl ?_
      refine z_iload_n C hl 1 rfl dX8_go_10 rfl ?_
      refine z_iload_n C hl 2 rfl dX8_go_11 rfl ?_
      refine z_iload C hl 5 rfl dX8_go_12 ?_
      obtain ⟨g4, h⟩ := zd_some h
      obtain ⟨r5, S6, h7, h⟩ := zcs h
      refine z_callVv C I (tX8_act l D tc b n h7) zyX8_act zyvX8_act zc8 g4 zq_881 (st := []) rfl rfl (by decide) (by decide) hl.1 (Nat.le_of_ble_eq_true rfl) dX8_go_14 (fun H locs I => ?_)
      refine z_iinc C hl 5 (v := x5 + 1) rfl dX8_go_17 rfl (by decide) (fun v8 => [(5, zi v8), (0, zr x0), (1, zi x1), (2, zi x2), (3, zi x3), (4, zi x4)]) (fun _ => rfl) (fun v8 e9 ls hl => ?_)
      have h := znb e9 h
      refine z_goto C 3 dX8_go_20 (by decide) ?_
      exact ih _ _ _ _ _ _ _ _ _ _ h I (zL_sub hl [1, 2, 3, 4, 5, 0] rfl)

def fX8_go (n : Nat) (S : zM) (a0 : Int32) (a1 : Int32) (a2 : Int32) (a3 : Int32) (a4 : Int32) : Option (Int32 × zM) := zbd (0) fun v1 => fX8_go_3 n 1000 S a0 a1 a2 a3 a4 v1
theorem tX8_go (l : Launch) (D : va_G) (tc : Nat → ClassId) (b n : Nat) {S S' : zM} {a0 : Int32} {a1 : Int32} {a2 : Int32} {a3 : Int32} {a4 : Int32} {r : Int32} (h : fX8_go n S a0 a1 a2 a3 a4 = some (r, S')) : zMv l D tc b n yX8_go cX8_go 6 3 [zr a0, zi a1, zi a2, zi a3, zi a4] S S' := by
  refine zMv_of zyX8_go (Nat.le_of_ble_eq_true rfl) (fun p e s m args below meth c H C hr hk ls hl I => ?_)
  have hl : zL b ls 6 [(0, zr a0), (1, zi a1), (2, zi a2), (3, zi a3), (4, zi a4)] := hl
  rw [fX8_go] at h
  refine z_iconst C (v := 0) dX8_go_0 (by decide) ?_
  refine z_istore C hl dX8_go_1 (by decide) (fun v1 => [(5, zi v1), (0, zr a0), (1, zi a1), (2, zi a2), (3, zi a3), (4, zi a4)]) (fun _ => rfl) (fun v1 e2 ls hl => ?_)
  have h := znb e2 h
  exact bX8_go_3 C hr hk 1000 _ _ _ _ _ _ _ _ _ _ h I (zL_sub hl [1, 2, 3, 4, 5, 0] rfl)

def fX8_ends (n : Nat) (S : zM) (a0 : Int32) (a1 : Int32) (a2 : Int32) : Option (Int32 × zM) := zd (zo n 18 a0) <| zca (fX8_runsOn n S a0 a1) fun r2 S3 => if (r2 : Int32) = (a2 : Int32) then (if (a2 : Int32) = ((zg S3 a0 5) - 1 : Int32) then (zd (za n 0 (zg S3 a0 23) a1) <| zbd (zq S3 (zg S3 a0 23) a1 0) fun S11 => some (1, S11)) else (zd (za n 0 (zg S3 a0 23) a1) <| zbd (zq S3 (zg S3 a0 23) a1 (ze S3 (zg S3 a0 23) a1)) fun S8 => some (1, S8))) else (zd (za n 0 (zg S3 a0 22) a1) <| zbd (zq S3 (zg S3 a0 22) a1 ((ze S3 (zg S3 a0 22) a1) + 1)) fun S14 => zd (za n 0 (zg S14 a0 23) a1) <| zbd (zq S14 (zg S14 a0 23) a1 ((ze S14 (zg S14 a0 23) a1) + 1)) fun S17 => some (0, S17))
theorem tX8_ends (l : Launch) (D : va_G) (tc : Nat → ClassId) (b n : Nat) {S S' : zM} {a0 : Int32} {a1 : Int32} {a2 : Int32} {r : Int32} (h : fX8_ends n S a0 a1 a2 = some (r, S')) : zMi l D tc b n yX8_ends cX8_ends 3 .int 1 [zr a0, zi a1, zi a2] S S' r := by
  refine zMi_of zyX8_ends (Nat.le_of_ble_eq_true rfl) (fun p e s m args below meth c H C hr hk ls hl I => ?_)
  have hl : zL b ls 3 [(0, zr a0), (1, zi a1), (2, zi a2)] := hl
  rw [fX8_ends] at h
  refine z_aload_n C hl 0 rfl dX8_ends_0 rfl ?_
  refine z_iload_n C hl 1 rfl dX8_ends_1 rfl ?_
  obtain ⟨g1, h⟩ := zd_some h
  obtain ⟨r2, S3, h4, h⟩ := zcs h
  refine z_callVi C I (tX8_runsOn l D tc b n h4) zyX8_runsOn zyvX8_runsOn zc8 g1 zq_851 (st := []) rfl rfl (by decide) (by decide) hl.1 (Nat.le_of_ble_eq_true rfl) dX8_ends_2 (fun H locs I => ?_)
  refine z_iload_n C hl 2 rfl dX8_ends_5 rfl ?_
  refine z_icmp_eq C 31 dX8_ends_6 (by decide) (fun c5 => ?_) (fun c5 => ?_)
  · have h := zit c5 h
    refine z_aload_n C hl 0 rfl dX8_ends_31 rfl ?_
    refine z_get C I 8 23 zc8 g1 (by decide) zq_679 (v := zr (zg S3 a0 23)) rfl dX8_ends_32 ?_
    refine z_iload_n C hl 1 rfl dX8_ends_35 rfl ?_
    refine z_iload_n C hl 2 rfl dX8_ends_36 rfl ?_
    refine z_aload_n C hl 0 rfl dX8_ends_37 rfl ?_
    refine z_get C I 8 5 zc8 g1 (by decide) zq_661 (v := zi (zg S3 a0 5)) rfl dX8_ends_38 ?_
    refine z_iconst C (v := 1) dX8_ends_41 (by decide) ?_
    refine z_isub C dX8_ends_42 ?_
    refine z_icmp_ne C 50 dX8_ends_43 (by decide) (fun c6 => ?_) (fun c6 => ?_)
    · have h := zif c6 h
      refine z_aload_n C hl 0 rfl dX8_ends_50 rfl ?_
      refine z_get C I 8 23 zc8 g1 (by decide) zq_679 (v := zr (zg S3 a0 23)) rfl dX8_ends_51 ?_
      refine z_iload_n C hl 1 rfl dX8_ends_54 rfl ?_
      obtain ⟨g7, h⟩ := zd_some h
      refine z_iald C I g7 dX8_ends_55 ?_
      refine z_iast C I g7 dX8_ends_56 (fun S8 e9 H locs I => ?_)
      have h := znb e9 h
      refine z_iconst C (v := 1) dX8_ends_57 (by decide) ?_
      exact z_iret C I hr hk h dX8_ends_58
    · have h := zit c6 h
      refine z_iconst C (v := 0) dX8_ends_46 (by decide) ?_
      refine z_goto C 56 dX8_ends_47 (by decide) ?_
      obtain ⟨g10, h⟩ := zd_some h
      refine z_iast C I g10 dX8_ends_56 (fun S11 e12 H locs I => ?_)
      have h := znb e12 h
      refine z_iconst C (v := 1) dX8_ends_57 (by decide) ?_
      exact z_iret C I hr hk h dX8_ends_58
  · have h := zif c5 h
    refine z_aload_n C hl 0 rfl dX8_ends_9 rfl ?_
    refine z_get C I 8 22 zc8 g1 (by decide) zq_678 (v := zr (zg S3 a0 22)) rfl dX8_ends_10 ?_
    refine z_iload_n C hl 1 rfl dX8_ends_13 rfl ?_
    refine z_dup2 C dX8_ends_14 rfl rfl ?_
    obtain ⟨g13, h⟩ := zd_some h
    refine z_iald C I g13 dX8_ends_15 ?_
    refine z_iconst C (v := 1) dX8_ends_16 (by decide) ?_
    refine z_iadd C dX8_ends_17 ?_
    refine z_iast C I g13 dX8_ends_18 (fun S14 e15 H locs I => ?_)
    have h := znb e15 h
    refine z_aload_n C hl 0 rfl dX8_ends_19 rfl ?_
    refine z_get C I 8 23 zc8 g1 (by decide) zq_679 (v := zr (zg S14 a0 23)) rfl dX8_ends_20 ?_
    refine z_iload_n C hl 1 rfl dX8_ends_23 rfl ?_
    refine z_dup2 C dX8_ends_24 rfl rfl ?_
    obtain ⟨g16, h⟩ := zd_some h
    refine z_iald C I g16 dX8_ends_25 ?_
    refine z_iconst C (v := 1) dX8_ends_26 (by decide) ?_
    refine z_iadd C dX8_ends_27 ?_
    refine z_iast C I g16 dX8_ends_28 (fun S17 e18 H locs I => ?_)
    have h := znb e18 h
    refine z_iconst C (v := 0) dX8_ends_29 (by decide) ?_
    exact z_iret C I hr hk h dX8_ends_30

def fX8_update (n : Nat) (S : zM) (a0 : Int32) (a1 : Int32) (a2 : Int32) : Option (Int32 × zM) := zd (zo n 18 a0) <| zbd (zp S a0 0 0) fun S2 => zca (fX8_isDevice n S2 a0 a1) fun r4 S5 => if (r4 : Int32) = 0 then (some ((-1000001), S5)) else (zca (fX8_isVersion n S5 a0 a2) fun r8 S9 => if (r8 : Int32) = 0 then (some ((-1000001), S9)) else (zca (fX8_runsOn n S9 a0 a1) fun r12 S13 => if (r12 : Int32) < (a2 : Int32) then (zca (fX8_actsOf n S13 a0 a1 a2) fun r16 S17 => zca (fX8_go n S17 a0 a1 a2 r16 0) fun r19 S20 => zca (fX8_ends n S20 a0 a1 a2) fun r22 S23 => some (r22, S23)) else (some ((-1000002), S13))))
theorem tX8_update (l : Launch) (D : va_G) (tc : Nat → ClassId) (b n : Nat) {S S' : zM} {a0 : Int32} {a1 : Int32} {a2 : Int32} {r : Int32} (h : fX8_update n S a0 a1 a2 = some (r, S')) : zMi l D tc b n yX8_update cX8_update 3 .int 4 [zr a0, zi a1, zi a2] S S' r := by
  refine zMi_of zyX8_update (Nat.le_of_ble_eq_true rfl) (fun p e s m args below meth c H C hr hk ls hl I => ?_)
  have hl : zL b ls 3 [(0, zr a0), (1, zi a1), (2, zi a2)] := hl
  rw [fX8_update] at h
  refine z_aload_n C hl 0 rfl dX8_update_0 rfl ?_
  refine z_iconst C (v := 0) dX8_update_1 (by decide) ?_
  obtain ⟨g1, h⟩ := zd_some h
  refine z_put C I 8 0 zc8 g1 (by decide) rfl zq_656 rfl (v := zi 0) rfl dX8_update_2 (fun S2 e3 H locs I => ?_)
  have h := znb e3 h
  refine z_aload_n C hl 0 rfl dX8_update_5 rfl ?_
  refine z_iload_n C hl 1 rfl dX8_update_6 rfl ?_
  obtain ⟨r4, S5, h6, h⟩ := zcs h
  refine z_callVi C I (tX8_isDevice l D tc b n h6) zyX8_isDevice zyvX8_isDevice zc8 g1 zq_838 (st := []) rfl rfl (by decide) (by decide) hl.1 (Nat.le_of_ble_eq_true rfl) dX8_update_7 (fun H locs I => ?_)
  refine z_if_eq C 21 dX8_update_10 (by decide) (fun c7 => ?_) (fun c7 => ?_)
  · have h := zit c7 h
    refine z_ldc C zq_783 dX8_update_21 ?_
    exact z_iret C I hr hk h dX8_update_23
  · have h := zif c7 h
    refine z_aload_n C hl 0 rfl dX8_update_13 rfl ?_
    refine z_iload_n C hl 2 rfl dX8_update_14 rfl ?_
    obtain ⟨r8, S9, h10, h⟩ := zcs h
    refine z_callVi C I (tX8_isVersion l D tc b n h10) zyX8_isVersion zyvX8_isVersion zc8 g1 zq_816 (st := []) rfl rfl (by decide) (by decide) hl.1 (Nat.le_of_ble_eq_true rfl) dX8_update_15 (fun H locs I => ?_)
    refine z_if_ne C 24 dX8_update_18 (by decide) (fun c11 => ?_) (fun c11 => ?_)
    · have h := zif c11 h
      refine z_iload_n C hl 2 rfl dX8_update_24 rfl ?_
      refine z_aload_n C hl 0 rfl dX8_update_25 rfl ?_
      refine z_iload_n C hl 1 rfl dX8_update_26 rfl ?_
      obtain ⟨r12, S13, h14, h⟩ := zcs h
      refine z_callVi C I (tX8_runsOn l D tc b n h14) zyX8_runsOn zyvX8_runsOn zc8 g1 zq_851 (st := [zi a2]) rfl rfl (by decide) (by decide) hl.1 (Nat.le_of_ble_eq_true rfl) dX8_update_27 (fun H locs I => ?_)
      refine z_icmp_gt C 36 dX8_update_30 (by decide) (fun c15 => ?_) (fun c15 => ?_)
      · have h := zit c15 h
        refine z_aload_n C hl 0 rfl dX8_update_36 rfl ?_
        refine z_iload_n C hl 1 rfl dX8_update_37 rfl ?_
        refine z_iload_n C hl 2 rfl dX8_update_38 rfl ?_
        refine z_aload_n C hl 0 rfl dX8_update_39 rfl ?_
        refine z_iload_n C hl 1 rfl dX8_update_40 rfl ?_
        refine z_iload_n C hl 2 rfl dX8_update_41 rfl ?_
        obtain ⟨r16, S17, h18, h⟩ := zcs h
        refine z_callVi C I (tX8_actsOf l D tc b n h18) zyX8_actsOf zyvX8_actsOf zc8 g1 zq_873 (st := [zi a2, zi a1, zr a0]) rfl rfl (by decide) (by decide) hl.1 (Nat.le_of_ble_eq_true rfl) dX8_update_42 (fun H locs I => ?_)
        refine z_iconst C (v := 0) dX8_update_45 (by decide) ?_
        obtain ⟨r19, S20, h21, h⟩ := zcs h
        refine z_callVv C I (tX8_go l D tc b n h21) zyX8_go zyvX8_go zc8 g1 zq_877 (st := []) rfl rfl (by decide) (by decide) hl.1 (Nat.le_of_ble_eq_true rfl) dX8_update_46 (fun H locs I => ?_)
        refine z_aload_n C hl 0 rfl dX8_update_49 rfl ?_
        refine z_iload_n C hl 1 rfl dX8_update_50 rfl ?_
        refine z_iload_n C hl 2 rfl dX8_update_51 rfl ?_
        obtain ⟨r22, S23, h24, h⟩ := zcs h
        refine z_callVi C I (tX8_ends l D tc b n h24) zyX8_ends zyvX8_ends zc8 g1 zq_889 (st := []) rfl rfl (by decide) (by decide) hl.1 (Nat.le_of_ble_eq_true rfl) dX8_update_52 (fun H locs I => ?_)
        exact z_iret C I hr hk h dX8_update_55
      · have h := zif c15 h
        refine z_ldc C zq_846 dX8_update_33 ?_
        exact z_iret C I hr hk h dX8_update_35
    · have h := zit c11 h
      refine z_ldc C zq_783 dX8_update_21 ?_
      exact z_iret C I hr hk h dX8_update_23

def fX8_acts (n : Nat) (S : zM) (a0 : Int32) (a1 : Int32) (a2 : Int32) : Option (Int32 × zM) := zd (zo n 18 a0) <| zbd (zp S a0 0 0) fun S2 => zca (fX8_isDevice n S2 a0 a1) fun r4 S5 => if (r4 : Int32) = 0 then (some ((-1000001), S5)) else (zca (fX8_isVersion n S5 a0 a2) fun r8 S9 => if (r8 : Int32) = 0 then (some ((-1000001), S9)) else (zca (fX8_runsOn n S9 a0 a1) fun r12 S13 => if (r12 : Int32) < (a2 : Int32) then (zca (fX8_actsOf n S13 a0 a1 a2) fun r16 S17 => some (r16, S17)) else (some ((-1000002), S13))))
theorem tX8_acts (l : Launch) (D : va_G) (tc : Nat → ClassId) (b n : Nat) {S S' : zM} {a0 : Int32} {a1 : Int32} {a2 : Int32} {r : Int32} (h : fX8_acts n S a0 a1 a2 = some (r, S')) : zMi l D tc b n yX8_acts cX8_acts 3 .int 2 [zr a0, zi a1, zi a2] S S' r := by
  refine zMi_of zyX8_acts (Nat.le_of_ble_eq_true rfl) (fun p e s m args below meth c H C hr hk ls hl I => ?_)
  have hl : zL b ls 3 [(0, zr a0), (1, zi a1), (2, zi a2)] := hl
  rw [fX8_acts] at h
  refine z_aload_n C hl 0 rfl dX8_acts_0 rfl ?_
  refine z_iconst C (v := 0) dX8_acts_1 (by decide) ?_
  obtain ⟨g1, h⟩ := zd_some h
  refine z_put C I 8 0 zc8 g1 (by decide) rfl zq_656 rfl (v := zi 0) rfl dX8_acts_2 (fun S2 e3 H locs I => ?_)
  have h := znb e3 h
  refine z_aload_n C hl 0 rfl dX8_acts_5 rfl ?_
  refine z_iload_n C hl 1 rfl dX8_acts_6 rfl ?_
  obtain ⟨r4, S5, h6, h⟩ := zcs h
  refine z_callVi C I (tX8_isDevice l D tc b n h6) zyX8_isDevice zyvX8_isDevice zc8 g1 zq_838 (st := []) rfl rfl (by decide) (by decide) hl.1 (Nat.le_of_ble_eq_true rfl) dX8_acts_7 (fun H locs I => ?_)
  refine z_if_eq C 21 dX8_acts_10 (by decide) (fun c7 => ?_) (fun c7 => ?_)
  · have h := zit c7 h
    refine z_ldc C zq_783 dX8_acts_21 ?_
    refine z_goto C 46 dX8_acts_23 (by decide) ?_
    exact z_iret C I hr hk h dX8_acts_46
  · have h := zif c7 h
    refine z_aload_n C hl 0 rfl dX8_acts_13 rfl ?_
    refine z_iload_n C hl 2 rfl dX8_acts_14 rfl ?_
    obtain ⟨r8, S9, h10, h⟩ := zcs h
    refine z_callVi C I (tX8_isVersion l D tc b n h10) zyX8_isVersion zyvX8_isVersion zc8 g1 zq_816 (st := []) rfl rfl (by decide) (by decide) hl.1 (Nat.le_of_ble_eq_true rfl) dX8_acts_15 (fun H locs I => ?_)
    refine z_if_ne C 26 dX8_acts_18 (by decide) (fun c11 => ?_) (fun c11 => ?_)
    · have h := zif c11 h
      refine z_iload_n C hl 2 rfl dX8_acts_26 rfl ?_
      refine z_aload_n C hl 0 rfl dX8_acts_27 rfl ?_
      refine z_iload_n C hl 1 rfl dX8_acts_28 rfl ?_
      obtain ⟨r12, S13, h14, h⟩ := zcs h
      refine z_callVi C I (tX8_runsOn l D tc b n h14) zyX8_runsOn zyvX8_runsOn zc8 g1 zq_851 (st := [zi a2]) rfl rfl (by decide) (by decide) hl.1 (Nat.le_of_ble_eq_true rfl) dX8_acts_29 (fun H locs I => ?_)
      refine z_icmp_gt C 40 dX8_acts_32 (by decide) (fun c15 => ?_) (fun c15 => ?_)
      · have h := zit c15 h
        refine z_aload_n C hl 0 rfl dX8_acts_40 rfl ?_
        refine z_iload_n C hl 1 rfl dX8_acts_41 rfl ?_
        refine z_iload_n C hl 2 rfl dX8_acts_42 rfl ?_
        obtain ⟨r16, S17, h18, h⟩ := zcs h
        refine z_callVi C I (tX8_actsOf l D tc b n h18) zyX8_actsOf zyvX8_actsOf zc8 g1 zq_873 (st := []) rfl rfl (by decide) (by decide) hl.1 (Nat.le_of_ble_eq_true rfl) dX8_acts_43 (fun H locs I => ?_)
        exact z_iret C I hr hk h dX8_acts_46
      · have h := zif c15 h
        refine z_ldc C zq_846 dX8_acts_35 ?_
        refine z_goto C 46 dX8_acts_37 (by decide) ?_
        exact z_iret C I hr hk h dX8_acts_46
    · have h := zit c11 h
      refine z_ldc C zq_783 dX8_acts_21 ?_
      refine z_goto C 46 dX8_acts_23 (by decide) ?_
      exact z_iret C I hr hk h dX8_acts_46

def fX8_power (n : Nat) (S : zM) (a0 : Int32) (a1 : Int32) (a2 : Int32) (a3 : Int32) : Option (Int32 × zM) := zd (zo n 18 a0) <| zbd (zp S a0 0 0) fun S2 => zca (fX8_isDevice n S2 a0 a1) fun r4 S5 => if (r4 : Int32) = 0 then (some ((-1000001), S5)) else (zca (fX8_isVersion n S5 a0 a2) fun r8 S9 => if (r8 : Int32) = 0 then (some ((-1000001), S9)) else (zca (fX8_in n S9 ((a3 : Int32).toInt64) 0 14) fun r12 S13 => if (r12 : Int32) = 0 then (some ((-1000001), S13)) else (zca (fX8_runsOn n S13 a0 a1) fun r16 S17 => if (r16 : Int32) < (a2 : Int32) then (zca (fX8_actsOf n S17 a0 a1 a2) fun r20 S21 => if (a3 : Int32) ≤ (r20 : Int32) then (zca (fX8_go n S21 a0 a1 a2 a3 4) fun r24 S25 => zca (fX8_ends n S25 a0 a1 a2) fun r27 S28 => some (r27, S28)) else (some ((-1000001), S21))) else (some ((-1000002), S17)))))
theorem tX8_power (l : Launch) (D : va_G) (tc : Nat → ClassId) (b n : Nat) {S S' : zM} {a0 : Int32} {a1 : Int32} {a2 : Int32} {a3 : Int32} {r : Int32} (h : fX8_power n S a0 a1 a2 a3 = some (r, S')) : zMi l D tc b n yX8_power cX8_power 4 .int 4 [zr a0, zi a1, zi a2, zi a3] S S' r := by
  refine zMi_of zyX8_power (Nat.le_of_ble_eq_true rfl) (fun p e s m args below meth c H C hr hk ls hl I => ?_)
  have hl : zL b ls 4 [(0, zr a0), (1, zi a1), (2, zi a2), (3, zi a3)] := hl
  rw [fX8_power] at h
  refine z_aload_n C hl 0 rfl dX8_power_0 rfl ?_
  refine z_iconst C (v := 0) dX8_power_1 (by decide) ?_
  obtain ⟨g1, h⟩ := zd_some h
  refine z_put C I 8 0 zc8 g1 (by decide) rfl zq_656 rfl (v := zi 0) rfl dX8_power_2 (fun S2 e3 H locs I => ?_)
  have h := znb e3 h
  refine z_aload_n C hl 0 rfl dX8_power_5 rfl ?_
  refine z_iload_n C hl 1 rfl dX8_power_6 rfl ?_
  obtain ⟨r4, S5, h6, h⟩ := zcs h
  refine z_callVi C I (tX8_isDevice l D tc b n h6) zyX8_isDevice zyvX8_isDevice zc8 g1 zq_838 (st := []) rfl rfl (by decide) (by decide) hl.1 (Nat.le_of_ble_eq_true rfl) dX8_power_7 (fun H locs I => ?_)
  refine z_if_eq C 33 dX8_power_10 (by decide) (fun c7 => ?_) (fun c7 => ?_)
  · have h := zit c7 h
    refine z_ldc C zq_783 dX8_power_33 ?_
    exact z_iret C I hr hk h dX8_power_35
  · have h := zif c7 h
    refine z_aload_n C hl 0 rfl dX8_power_13 rfl ?_
    refine z_iload_n C hl 2 rfl dX8_power_14 rfl ?_
    obtain ⟨r8, S9, h10, h⟩ := zcs h
    refine z_callVi C I (tX8_isVersion l D tc b n h10) zyX8_isVersion zyvX8_isVersion zc8 g1 zq_816 (st := []) rfl rfl (by decide) (by decide) hl.1 (Nat.le_of_ble_eq_true rfl) dX8_power_15 (fun H locs I => ?_)
    refine z_if_eq C 33 dX8_power_18 (by decide) (fun c11 => ?_) (fun c11 => ?_)
    · have h := zit c11 h
      refine z_ldc C zq_783 dX8_power_33 ?_
      exact z_iret C I hr hk h dX8_power_35
    · have h := zif c11 h
      refine z_iload_n C hl 3 rfl dX8_power_21 rfl ?_
      refine z_i2l C dX8_power_22 ?_
      refine z_lconst C (v := 0) dX8_power_23 (by decide) ?_
      refine z_ldc2 C zq_901 dX8_power_24 ?_
      obtain ⟨r12, S13, h14, h⟩ := zcs h
      refine z_callSi C I (tX8_in l D tc b n h14) zyX8_in zq_780 zq_779 (st := []) rfl rfl (by decide) (by decide) hl.1 (Nat.le_of_ble_eq_true rfl) dX8_power_27 (fun H locs I => ?_)
      refine z_if_ne C 36 dX8_power_30 (by decide) (fun c15 => ?_) (fun c15 => ?_)
      · have h := zif c15 h
        refine z_iload_n C hl 2 rfl dX8_power_36 rfl ?_
        refine z_aload_n C hl 0 rfl dX8_power_37 rfl ?_
        refine z_iload_n C hl 1 rfl dX8_power_38 rfl ?_
        obtain ⟨r16, S17, h18, h⟩ := zcs h
        refine z_callVi C I (tX8_runsOn l D tc b n h18) zyX8_runsOn zyvX8_runsOn zc8 g1 zq_851 (st := [zi a2]) rfl rfl (by decide) (by decide) hl.1 (Nat.le_of_ble_eq_true rfl) dX8_power_39 (fun H locs I => ?_)
        refine z_icmp_gt C 48 dX8_power_42 (by decide) (fun c19 => ?_) (fun c19 => ?_)
        · have h := zit c19 h
          refine z_iload_n C hl 3 rfl dX8_power_48 rfl ?_
          refine z_aload_n C hl 0 rfl dX8_power_49 rfl ?_
          refine z_iload_n C hl 1 rfl dX8_power_50 rfl ?_
          refine z_iload_n C hl 2 rfl dX8_power_51 rfl ?_
          obtain ⟨r20, S21, h22, h⟩ := zcs h
          refine z_callVi C I (tX8_actsOf l D tc b n h22) zyX8_actsOf zyvX8_actsOf zc8 g1 zq_873 (st := [zi a3]) rfl rfl (by decide) (by decide) hl.1 (Nat.le_of_ble_eq_true rfl) dX8_power_52 (fun H locs I => ?_)
          refine z_icmp_le C 61 dX8_power_55 (by decide) (fun c23 => ?_) (fun c23 => ?_)
          · have h := zit c23 h
            refine z_aload_n C hl 0 rfl dX8_power_61 rfl ?_
            refine z_iload_n C hl 1 rfl dX8_power_62 rfl ?_
            refine z_iload_n C hl 2 rfl dX8_power_63 rfl ?_
            refine z_iload_n C hl 3 rfl dX8_power_64 rfl ?_
            refine z_iconst C (v := 4) dX8_power_65 (by decide) ?_
            obtain ⟨r24, S25, h26, h⟩ := zcs h
            refine z_callVv C I (tX8_go l D tc b n h26) zyX8_go zyvX8_go zc8 g1 zq_877 (st := []) rfl rfl (by decide) (by decide) hl.1 (Nat.le_of_ble_eq_true rfl) dX8_power_66 (fun H locs I => ?_)
            refine z_aload_n C hl 0 rfl dX8_power_69 rfl ?_
            refine z_iload_n C hl 1 rfl dX8_power_70 rfl ?_
            refine z_iload_n C hl 2 rfl dX8_power_71 rfl ?_
            obtain ⟨r27, S28, h29, h⟩ := zcs h
            refine z_callVi C I (tX8_ends l D tc b n h29) zyX8_ends zyvX8_ends zc8 g1 zq_889 (st := []) rfl rfl (by decide) (by decide) hl.1 (Nat.le_of_ble_eq_true rfl) dX8_power_72 (fun H locs I => ?_)
            exact z_iret C I hr hk h dX8_power_75
          · have h := zif c23 h
            refine z_ldc C zq_783 dX8_power_58 ?_
            exact z_iret C I hr hk h dX8_power_60
        · have h := zif c19 h
          refine z_ldc C zq_846 dX8_power_45 ?_
          exact z_iret C I hr hk h dX8_power_47
      · have h := zit c15 h
        refine z_ldc C zq_783 dX8_power_33 ?_
        exact z_iret C I hr hk h dX8_power_35

def fX8_cut_189 (n : Nat) (S : zM) (x0 : Int32) (x1 : Int32) (x5 : Int32) (x6 : Int32) (x7 : Int32) (x8 : Int32) (x9 : Int32) (y0 : Int32) : Option (Int32 × zM) := zbd (y0) fun v1 => zd (zo n 18 x0) <| zd (za n 0 (zg S x0 16) x1) <| zbd (zq S (zg S x0 16) x1 x5) fun S5 => zd (za n 0 (zg S5 x0 21) x1) <| zbd (zq S5 (zg S5 x0 21) x1 x6) fun S8 => zd (za n 0 (zg S8 x0 17) x9) <| zbd (zq S8 (zg S8 x0 17) x9 x7) fun S11 => zd (za n 0 (zg S11 x0 18) x9) <| zbd (zq S11 (zg S11 x0 18) x9 x8) fun S14 => zd (za n 1 (zg S14 x0 19) x1) <| zbd (zq S14 (zg S14 x0 19) x1 0) fun S17 => some (v1, S17)
theorem bX8_cut_189 {p : Program} {l : Launch} {e : Env} {s : State} {m : MethodId} {args : Array Value} {below : List Frame} {meth : Method} {c : Code} {D : va_G} {tc : Nat → ClassId} {b n : Nat} {S' : zM} {r : Int32} (C : zC p m c cX8_cut 11 s args yX8_cut.cls D tc) (hr : meth.sig.returnType = some .int) (hk : meth.locks = false) : ∀ (S : zM) (x0 : Int32) (x1 : Int32) (x5 : Int32) (x6 : Int32) (x7 : Int32) (x8 : Int32) (x9 : Int32) (y0 : Int32) (H : Heap) (locs : List Loc) (ls : Array Slot), fX8_cut_189 n S x0 x1 x5 x6 x7 x8 x9 y0 = some (r, S') → zI D tc b n S s H locs → zL b ls 11 [(0, zr x0), (1, zi x1), (5, zi x5), (6, zi x6), (7, zi x7), (8, zi x8), (9, zi x9)] → W p l e (zR 4) s m args below meth c H locs 0 0 (zQi D tc b n S' r below args s) (zG b m 189 ls [zi y0]) := by
  intro S x0 x1 x5 x6 x7 x8 x9 y0 H locs ls h I hl
  rw [fX8_cut_189] at h
  refine z_istore C hl dX8_cut_189 (by decide) (fun v1 => [(10, zi v1), (0, zr x0), (1, zi x1), (5, zi x5), (6, zi x6), (7, zi x7), (8, zi x8), (9, zi x9)]) (fun _ => rfl) (fun v1 e2 ls hl => ?_)
  have h := znb e2 h
  refine z_aload_n C hl 1 rfl dX8_cut_191 rfl ?_
  obtain ⟨g3, h⟩ := zd_some h
  refine z_get C I 8 16 zc8 g3 (by decide) zq_672 (v := zr (zg S x0 16)) rfl dX8_cut_192 ?_
  refine z_iload_n C hl 2 rfl dX8_cut_195 rfl ?_
  refine z_iload C hl 3 rfl dX8_cut_196 ?_
  obtain ⟨g4, h⟩ := zd_some h
  refine z_iast C I g4 dX8_cut_198 (fun S5 e6 H locs I => ?_)
  have h := znb e6 h
  refine z_aload_n C hl 1 rfl dX8_cut_199 rfl ?_
  refine z_get C I 8 21 zc8 g3 (by decide) zq_677 (v := zr (zg S5 x0 21)) rfl dX8_cut_200 ?_
  refine z_iload_n C hl 2 rfl dX8_cut_203 rfl ?_
  refine z_iload C hl 4 rfl dX8_cut_204 ?_
  obtain ⟨g7, h⟩ := zd_some h
  refine z_iast C I g7 dX8_cut_206 (fun S8 e9 H locs I => ?_)
  have h := znb e9 h
  refine z_aload_n C hl 1 rfl dX8_cut_207 rfl ?_
  refine z_get C I 8 17 zc8 g3 (by decide) zq_673 (v := zr (zg S8 x0 17)) rfl dX8_cut_208 ?_
  refine z_iload C hl 7 rfl dX8_cut_211 ?_
  refine z_iload C hl 5 rfl dX8_cut_213 ?_
  obtain ⟨g10, h⟩ := zd_some h
  refine z_iast C I g10 dX8_cut_215 (fun S11 e12 H locs I => ?_)
  have h := znb e12 h
  refine z_aload_n C hl 1 rfl dX8_cut_216 rfl ?_
  refine z_get C I 8 18 zc8 g3 (by decide) zq_674 (v := zr (zg S11 x0 18)) rfl dX8_cut_217 ?_
  refine z_iload C hl 7 rfl dX8_cut_220 ?_
  refine z_iload C hl 6 rfl dX8_cut_222 ?_
  obtain ⟨g13, h⟩ := zd_some h
  refine z_iast C I g13 dX8_cut_224 (fun S14 e15 H locs I => ?_)
  have h := znb e15 h
  refine z_aload_n C hl 1 rfl dX8_cut_225 rfl ?_
  refine z_get C I 8 19 zc8 g3 (by decide) zq_675 (v := zr (zg S14 x0 19)) rfl dX8_cut_226 ?_
  refine z_iload_n C hl 2 rfl dX8_cut_229 rfl ?_
  refine z_iconst C (v := 0) dX8_cut_230 (by decide) ?_
  obtain ⟨g16, h⟩ := zd_some h
  refine z_zast C I g16 rfl dX8_cut_231 (fun S17 e18 H locs I => ?_)
  have h := znb e18 h
  refine z_iload C hl 0 rfl dX8_cut_232 ?_
  exact z_iret C I hr hk h dX8_cut_234

def fX8_cut (n : Nat) (S : zM) (a0 : Int32) (a1 : Int32) (a2 : Int32) (a3 : Int32) (a4 : Int32) : Option (Int32 × zM) := zd (zo n 18 a0) <| zbd (zp S a0 0 0) fun S2 => zca (fX8_isDevice n S2 a0 a1) fun r4 S5 => if (r4 : Int32) = 0 then (some ((-1000001), S5)) else (zca (fX8_isVersion n S5 a0 a2) fun r8 S9 => if (r8 : Int32) = 0 then (some ((-1000001), S9)) else (zca (fX8_in n S9 ((a3 : Int32).toInt64) 0 14) fun r12 S13 => if (r12 : Int32) = 0 then (some ((-1000001), S13)) else (zca (fX8_in n S13 ((a4 : Int32).toInt64) 0 3) fun r16 S17 => if (r16 : Int32) = 0 then (some ((-1000001), S17)) else (zca (fX8_runsOn n S17 a0 a1) fun r20 S21 => if (r20 : Int32) < (a2 : Int32) then (zca (fX8_actsOf n S21 a0 a1 a2) fun r24 S25 => if (a3 : Int32) ≤ (r24 : Int32) then (zd (za n 0 (zg S25 a0 16) a1) <| zbd (ze S25 (zg S25 a0 16) a1) fun v29 => zd (za n 0 (zg S25 a0 21) a1) <| zbd (ze S25 (zg S25 a0 21) a1) fun v32 => zca (fX8_other n S25 a0 a1) fun r34 S35 => zd (za n 0 (zg S25 a0 17) r34) <| zbd (ze S35 (zg S25 a0 17) r34) fun v38 => zca (fX8_other n S35 a0 a1) fun r40 S41 => zd (za n 0 (zg S35 a0 18) r40) <| zbd (ze S41 (zg S35 a0 18) r40) fun v44 => zca (fX8_other n S41 a0 a1) fun r46 S47 => zbd (r46) fun v49 => zca (fX8_go n S47 a0 a1 a2 a3 4) fun r51 S52 => if (a4 : Int32) = 0 then (zca (fX8_isAlive n S52 a0 a1) fun r65 S66 => if (r65 : Int32) = 0 then (fX8_cut_189 n S66 a0 a1 v29 v32 v38 v44 v49 0) else (fX8_cut_189 n S66 a0 a1 v29 v32 v38 v44 v49 1)) else (if (a4 : Int32) = (1 : Int32) then (zca (fX8_runsOn n S52 a0 a1) fun r62 S63 => fX8_cut_189 n S63 a0 a1 v29 v32 v38 v44 v49 r62) else (if (a4 : Int32) = (2 : Int32) then (zca (fX8_other n S52 a0 a1) fun r58 S59 => zd (za n 0 (zg S52 a0 18) r58) <| fX8_cut_189 n S59 a0 a1 v29 v32 v38 v44 v49 (ze S59 (zg S52 a0 18) r58)) else (zd (za n 0 (zg S52 a0 21) a1) <| fX8_cut_189 n S52 a0 a1 v29 v32 v38 v44 v49 (ze S52 (zg S52 a0 21) a1))))) else (some ((-1000001), S25))) else (some ((-1000002), S21))))))
theorem tX8_cut (l : Launch) (D : va_G) (tc : Nat → ClassId) (b n : Nat) {S S' : zM} {a0 : Int32} {a1 : Int32} {a2 : Int32} {a3 : Int32} {a4 : Int32} {r : Int32} (h : fX8_cut n S a0 a1 a2 a3 a4 = some (r, S')) : zMi l D tc b n yX8_cut cX8_cut 11 .int 4 [zr a0, zi a1, zi a2, zi a3, zi a4] S S' r := by
  refine zMi_of zyX8_cut (Nat.le_of_ble_eq_true rfl) (fun p e s m args below meth c H C hr hk ls hl I => ?_)
  have hl : zL b ls 11 [(0, zr a0), (1, zi a1), (2, zi a2), (3, zi a3), (4, zi a4)] := hl
  rw [fX8_cut] at h
  refine z_aload_n C hl 0 rfl dX8_cut_0 rfl ?_
  refine z_iconst C (v := 0) dX8_cut_1 (by decide) ?_
  obtain ⟨g1, h⟩ := zd_some h
  refine z_put C I 8 0 zc8 g1 (by decide) rfl zq_656 rfl (v := zi 0) rfl dX8_cut_2 (fun S2 e3 H locs I => ?_)
  have h := znb e3 h
  refine z_aload_n C hl 0 rfl dX8_cut_5 rfl ?_
  refine z_iload_n C hl 1 rfl dX8_cut_6 rfl ?_
  obtain ⟨r4, S5, h6, h⟩ := zcs h
  refine z_callVi C I (tX8_isDevice l D tc b n h6) zyX8_isDevice zyvX8_isDevice zc8 g1 zq_838 (st := []) rfl rfl (by decide) (by decide) hl.1 (Nat.le_of_ble_eq_true rfl) dX8_cut_7 (fun H locs I => ?_)
  refine z_if_eq C 46 dX8_cut_10 (by decide) (fun c7 => ?_) (fun c7 => ?_)
  · have h := zit c7 h
    refine z_ldc C zq_783 dX8_cut_46 ?_
    exact z_iret C I hr hk h dX8_cut_48
  · have h := zif c7 h
    refine z_aload_n C hl 0 rfl dX8_cut_13 rfl ?_
    refine z_iload_n C hl 2 rfl dX8_cut_14 rfl ?_
    obtain ⟨r8, S9, h10, h⟩ := zcs h
    refine z_callVi C I (tX8_isVersion l D tc b n h10) zyX8_isVersion zyvX8_isVersion zc8 g1 zq_816 (st := []) rfl rfl (by decide) (by decide) hl.1 (Nat.le_of_ble_eq_true rfl) dX8_cut_15 (fun H locs I => ?_)
    refine z_if_eq C 46 dX8_cut_18 (by decide) (fun c11 => ?_) (fun c11 => ?_)
    · have h := zit c11 h
      refine z_ldc C zq_783 dX8_cut_46 ?_
      exact z_iret C I hr hk h dX8_cut_48
    · have h := zif c11 h
      refine z_iload_n C hl 3 rfl dX8_cut_21 rfl ?_
      refine z_i2l C dX8_cut_22 ?_
      refine z_lconst C (v := 0) dX8_cut_23 (by decide) ?_
      refine z_ldc2 C zq_901 dX8_cut_24 ?_
      obtain ⟨r12, S13, h14, h⟩ := zcs h
      refine z_callSi C I (tX8_in l D tc b n h14) zyX8_in zq_780 zq_779 (st := []) rfl rfl (by decide) (by decide) hl.1 (Nat.le_of_ble_eq_true rfl) dX8_cut_27 (fun H locs I => ?_)
      refine z_if_eq C 46 dX8_cut_30 (by decide) (fun c15 => ?_) (fun c15 => ?_)
      · have h := zit c15 h
        refine z_ldc C zq_783 dX8_cut_46 ?_
        exact z_iret C I hr hk h dX8_cut_48
      · have h := zif c15 h
        refine z_iload C hl 4 rfl dX8_cut_33 ?_
        refine z_i2l C dX8_cut_35 ?_
        refine z_lconst C (v := 0) dX8_cut_36 (by decide) ?_
        refine z_ldc2 C zq_906 dX8_cut_37 ?_
        obtain ⟨r16, S17, h18, h⟩ := zcs h
        refine z_callSi C I (tX8_in l D tc b n h18) zyX8_in zq_780 zq_779 (st := []) rfl rfl (by decide) (by decide) hl.1 (Nat.le_of_ble_eq_true rfl) dX8_cut_40 (fun H locs I => ?_)
        refine z_if_ne C 49 dX8_cut_43 (by decide) (fun c19 => ?_) (fun c19 => ?_)
        · have h := zif c19 h
          refine z_iload_n C hl 2 rfl dX8_cut_49 rfl ?_
          refine z_aload_n C hl 0 rfl dX8_cut_50 rfl ?_
          refine z_iload_n C hl 1 rfl dX8_cut_51 rfl ?_
          obtain ⟨r20, S21, h22, h⟩ := zcs h
          refine z_callVi C I (tX8_runsOn l D tc b n h22) zyX8_runsOn zyvX8_runsOn zc8 g1 zq_851 (st := [zi a2]) rfl rfl (by decide) (by decide) hl.1 (Nat.le_of_ble_eq_true rfl) dX8_cut_52 (fun H locs I => ?_)
          refine z_icmp_gt C 61 dX8_cut_55 (by decide) (fun c23 => ?_) (fun c23 => ?_)
          · have h := zit c23 h
            refine z_iload_n C hl 3 rfl dX8_cut_61 rfl ?_
            refine z_aload_n C hl 0 rfl dX8_cut_62 rfl ?_
            refine z_iload_n C hl 1 rfl dX8_cut_63 rfl ?_
            refine z_iload_n C hl 2 rfl dX8_cut_64 rfl ?_
            obtain ⟨r24, S25, h26, h⟩ := zcs h
            refine z_callVi C I (tX8_actsOf l D tc b n h26) zyX8_actsOf zyvX8_actsOf zc8 g1 zq_873 (st := [zi a3]) rfl rfl (by decide) (by decide) hl.1 (Nat.le_of_ble_eq_true rfl) dX8_cut_65 (fun H locs I => ?_)
            refine z_icmp_le C 74 dX8_cut_68 (by decide) (fun c27 => ?_) (fun c27 => ?_)
            · have h := zit c27 h
              refine z_aload_n C hl 0 rfl dX8_cut_74 rfl ?_
              refine z_get C I 8 16 zc8 g1 (by decide) zq_672 (v := zr (zg S25 a0 16)) rfl dX8_cut_75 ?_
              refine z_iload_n C hl 1 rfl dX8_cut_78 rfl ?_
              obtain ⟨g28, h⟩ := zd_some h
              refine z_iald C I g28 dX8_cut_79 ?_
              refine z_istore C hl dX8_cut_80 (by decide) (fun v29 => [(5, zi v29), (0, zr a0), (1, zi a1), (2, zi a2), (3, zi a3), (4, zi a4)]) (fun _ => rfl) (fun v29 e30 ls hl => ?_)
              have h := znb e30 h
              refine z_aload_n C hl 1 rfl dX8_cut_82 rfl ?_
              refine z_get C I 8 21 zc8 g1 (by decide) zq_677 (v := zr (zg S25 a0 21)) rfl dX8_cut_83 ?_
              refine z_iload_n C hl 2 rfl dX8_cut_86 rfl ?_
              obtain ⟨g31, h⟩ := zd_some h
              refine z_iald C I g31 dX8_cut_87 ?_
              refine z_istore C hl dX8_cut_88 (by decide) (fun v32 => [(6, zi v32), (5, zi v29), (0, zr a0), (1, zi a1), (2, zi a2), (3, zi a3), (4, zi a4)]) (fun _ => rfl) (fun v32 e33 ls hl => ?_)
              have h := znb e33 h
              refine z_aload_n C hl 2 rfl dX8_cut_90 rfl ?_
              refine z_get C I 8 17 zc8 g1 (by decide) zq_673 (v := zr (zg S25 a0 17)) rfl dX8_cut_91 ?_
              refine z_aload_n C hl 2 rfl dX8_cut_94 rfl ?_
              refine z_iload_n C hl 3 rfl dX8_cut_95 rfl ?_
              obtain ⟨r34, S35, h36, h⟩ := zcs h
              refine z_callVi C I (tX8_other l D tc b n h36) zyX8_other zyvX8_other zc8 g1 zq_855 (st := [zr (zg S25 a0 17)]) rfl rfl (by decide) (by decide) hl.1 (Nat.le_of_ble_eq_true rfl) dX8_cut_96 (fun H locs I => ?_)
              obtain ⟨g37, h⟩ := zd_some h
              refine z_iald C I g37 dX8_cut_99 ?_
              refine z_istore C hl dX8_cut_100 (by decide) (fun v38 => [(7, zi v38), (6, zi v32), (5, zi v29), (0, zr a0), (1, zi a1), (2, zi a2), (3, zi a3), (4, zi a4)]) (fun _ => rfl) (fun v38 e39 ls hl => ?_)
              have h := znb e39 h
              refine z_aload_n C hl 3 rfl dX8_cut_102 rfl ?_
              refine z_get C I 8 18 zc8 g1 (by decide) zq_674 (v := zr (zg S35 a0 18)) rfl dX8_cut_103 ?_
              refine z_aload_n C hl 3 rfl dX8_cut_106 rfl ?_
              refine z_iload_n C hl 4 rfl dX8_cut_107 rfl ?_
              obtain ⟨r40, S41, h42, h⟩ := zcs h
              refine z_callVi C I (tX8_other l D tc b n h42) zyX8_other zyvX8_other zc8 g1 zq_855 (st := [zr (zg S35 a0 18)]) rfl rfl (by decide) (by decide) hl.1 (Nat.le_of_ble_eq_true rfl) dX8_cut_108 (fun H locs I => ?_)
              obtain ⟨g43, h⟩ := zd_some h
              refine z_iald C I g43 dX8_cut_111 ?_
              refine z_istore C hl dX8_cut_112 (by decide) (fun v44 => [(8, zi v44), (7, zi v38), (6, zi v32), (5, zi v29), (0, zr a0), (1, zi a1), (2, zi a2), (3, zi a3), (4, zi a4)]) (fun _ => rfl) (fun v44 e45 ls hl => ?_)
              have h := znb e45 h
              refine z_aload_n C hl 4 rfl dX8_cut_114 rfl ?_
              refine z_iload_n C hl 5 rfl dX8_cut_115 rfl ?_
              obtain ⟨r46, S47, h48, h⟩ := zcs h
              refine z_callVi C I (tX8_other l D tc b n h48) zyX8_other zyvX8_other zc8 g1 zq_855 (st := []) rfl rfl (by decide) (by decide) hl.1 (Nat.le_of_ble_eq_true rfl) dX8_cut_116 (fun H locs I => ?_)
              refine z_istore C hl dX8_cut_119 (by decide) (fun v49 => [(9, zi v49), (8, zi v44), (7, zi v38), (6, zi v32), (5, zi v29), (0, zr a0), (1, zi a1), (2, zi a2), (3, zi a3), (4, zi a4)]) (fun _ => rfl) (fun v49 e50 ls hl => ?_)
              have h := znb e50 h
              refine z_aload_n C hl 5 rfl dX8_cut_121 rfl ?_
              refine z_iload_n C hl 6 rfl dX8_cut_122 rfl ?_
              refine z_iload_n C hl 7 rfl dX8_cut_123 rfl ?_
              refine z_iload_n C hl 8 rfl dX8_cut_124 rfl ?_
              refine z_iconst C (v := 4) dX8_cut_125 (by decide) ?_
              obtain ⟨r51, S52, h53, h⟩ := zcs h
              refine z_callVv C I (tX8_go l D tc b n h53) zyX8_go zyvX8_go zc8 g1 zq_877 (st := []) rfl rfl (by decide) (by decide) hl.1 (Nat.le_of_ble_eq_true rfl) dX8_cut_126 (fun H locs I => ?_)
              refine z_iload C hl 9 rfl dX8_cut_129 ?_
              refine z_if_ne C 150 dX8_cut_131 (by decide) (fun c54 => ?_) (fun c54 => ?_)
              · have h := zif c54 h
                refine z_iload C hl 9 rfl dX8_cut_150 ?_
                refine z_iconst C (v := 1) dX8_cut_152 (by decide) ?_
                refine z_icmp_ne C 164 dX8_cut_153 (by decide) (fun c55 => ?_) (fun c55 => ?_)
                · have h := zif c55 h
                  refine z_iload C hl 9 rfl dX8_cut_164 ?_
                  refine z_iconst C (v := 2) dX8_cut_166 (by decide) ?_
                  refine z_icmp_ne C 183 dX8_cut_167 (by decide) (fun c56 => ?_) (fun c56 => ?_)
                  · have h := zif c56 h
                    refine z_aload_n C hl 5 rfl dX8_cut_183 rfl ?_
                    refine z_get C I 8 21 zc8 g1 (by decide) zq_677 (v := zr (zg S52 a0 21)) rfl dX8_cut_184 ?_
                    refine z_iload_n C hl 6 rfl dX8_cut_187 rfl ?_
                    obtain ⟨g57, h⟩ := zd_some h
                    refine z_iald C I g57 dX8_cut_188 ?_
                    exact bX8_cut_189 C hr hk _ _ _ _ _ _ _ _ _ _ _ _ h I (zL_sub hl [5, 6, 4, 3, 2, 1, 0] rfl)
                  · have h := zit c56 h
                    refine z_aload_n C hl 5 rfl dX8_cut_170 rfl ?_
                    refine z_get C I 8 18 zc8 g1 (by decide) zq_674 (v := zr (zg S52 a0 18)) rfl dX8_cut_171 ?_
                    refine z_aload_n C hl 5 rfl dX8_cut_174 rfl ?_
                    refine z_iload_n C hl 6 rfl dX8_cut_175 rfl ?_
                    obtain ⟨r58, S59, h60, h⟩ := zcs h
                    refine z_callVi C I (tX8_other l D tc b n h60) zyX8_other zyvX8_other zc8 g1 zq_855 (st := [zr (zg S52 a0 18)]) rfl rfl (by decide) (by decide) hl.1 (Nat.le_of_ble_eq_true rfl) dX8_cut_176 (fun H locs I => ?_)
                    obtain ⟨g61, h⟩ := zd_some h
                    refine z_iald C I g61 dX8_cut_179 ?_
                    refine z_goto C 189 dX8_cut_180 (by decide) ?_
                    exact bX8_cut_189 C hr hk _ _ _ _ _ _ _ _ _ _ _ _ h I (zL_sub hl [5, 6, 4, 3, 2, 1, 0] rfl)
                · have h := zit c55 h
                  refine z_aload_n C hl 5 rfl dX8_cut_156 rfl ?_
                  refine z_iload_n C hl 6 rfl dX8_cut_157 rfl ?_
                  obtain ⟨r62, S63, h64, h⟩ := zcs h
                  refine z_callVi C I (tX8_runsOn l D tc b n h64) zyX8_runsOn zyvX8_runsOn zc8 g1 zq_851 (st := []) rfl rfl (by decide) (by decide) hl.1 (Nat.le_of_ble_eq_true rfl) dX8_cut_158 (fun H locs I => ?_)
                  refine z_goto C 189 dX8_cut_161 (by decide) ?_
                  exact bX8_cut_189 C hr hk _ _ _ _ _ _ _ _ _ _ _ _ h I (zL_sub hl [5, 6, 4, 3, 2, 1, 0] rfl)
              · have h := zit c54 h
                refine z_aload_n C hl 5 rfl dX8_cut_134 rfl ?_
                refine z_iload_n C hl 6 rfl dX8_cut_135 rfl ?_
                obtain ⟨r65, S66, h67, h⟩ := zcs h
                refine z_callVi C I (tX8_isAlive l D tc b n h67) zyX8_isAlive zyvX8_isAlive zc8 g1 zq_865 (st := []) rfl rfl (by decide) (by decide) hl.1 (Nat.le_of_ble_eq_true rfl) dX8_cut_136 (fun H locs I => ?_)
                refine z_if_eq C 146 dX8_cut_139 (by decide) (fun c68 => ?_) (fun c68 => ?_)
                · have h := zit c68 h
                  refine z_iconst C (v := 0) dX8_cut_146 (by decide) ?_
                  refine z_goto C 189 dX8_cut_147 (by decide) ?_
                  exact bX8_cut_189 C hr hk _ _ _ _ _ _ _ _ _ _ _ _ h I (zL_sub hl [5, 6, 4, 3, 2, 1, 0] rfl)
                · have h := zif c68 h
                  refine z_iconst C (v := 1) dX8_cut_142 (by decide) ?_
                  refine z_goto C 189 dX8_cut_143 (by decide) ?_
                  exact bX8_cut_189 C hr hk _ _ _ _ _ _ _ _ _ _ _ _ h I (zL_sub hl [5, 6, 4, 3, 2, 1, 0] rfl)
            · have h := zif c27 h
              refine z_ldc C zq_783 dX8_cut_71 ?_
              exact z_iret C I hr hk h dX8_cut_73
          · have h := zif c23 h
            refine z_ldc C zq_846 dX8_cut_58 ?_
            exact z_iret C I hr hk h dX8_cut_60
        · have h := zit c19 h
          refine z_ldc C zq_783 dX8_cut_46 ?_
          exact z_iret C I hr hk h dX8_cut_48

def fX8_seed (n : Nat) (S : zM) (a0 : Int32) (a1 : Int32) : Option (Int32 × zM) := zd (zo n 18 a0) <| zbd (zp S a0 0 0) fun S2 => zbd (zp S2 a0 24 a1) fun S4 => some (1, S4)
theorem tX8_seed (l : Launch) (D : va_G) (tc : Nat → ClassId) (b n : Nat) {S S' : zM} {a0 : Int32} {a1 : Int32} {r : Int32} (h : fX8_seed n S a0 a1 = some (r, S')) : zMi l D tc b n yX8_seed cX8_seed 2 .int 0 [zr a0, zi a1] S S' r := by
  refine zMi_of zyX8_seed (Nat.le_of_ble_eq_true rfl) (fun p e s m args below meth c H C hr hk ls hl I => ?_)
  have hl : zL b ls 2 [(0, zr a0), (1, zi a1)] := hl
  rw [fX8_seed] at h
  refine z_aload_n C hl 0 rfl dX8_seed_0 rfl ?_
  refine z_iconst C (v := 0) dX8_seed_1 (by decide) ?_
  obtain ⟨g1, h⟩ := zd_some h
  refine z_put C I 8 0 zc8 g1 (by decide) rfl zq_656 rfl (v := zi 0) rfl dX8_seed_2 (fun S2 e3 H locs I => ?_)
  have h := znb e3 h
  refine z_aload_n C hl 0 rfl dX8_seed_5 rfl ?_
  refine z_iload_n C hl 1 rfl dX8_seed_6 rfl ?_
  refine z_put C I 8 24 zc8 g1 (by decide) rfl zq_680 rfl (v := zi a1) rfl dX8_seed_7 (fun S4 e5 H locs I => ?_)
  have h := znb e5 h
  refine z_iconst C (v := 1) dX8_seed_10 (by decide) ?_
  exact z_iret C I hr hk h dX8_seed_11

def fX8_beginWave_17 (n : Nat) : Nat → zM → Int32 → Int32 → Option (Int32 × zM)
  | 0, _, _, _ => none
  | fu + 1, S, x0, x2 => if (30 : Int32) ≤ (x2 : Int32) then (some (0, S)) else (zd (zo n 18 x0) <| zd (za n 1 (zg S x0 35) x2) <| zbd (zq S (zg S x0 35) x2 0) fun S4 => zbd (x2 + 1) fun v6 => fX8_beginWave_17 n fu S4 x0 v6)
theorem bX8_beginWave_17 {p : Program} {l : Launch} {e : Env} {s : State} {m : MethodId} {args : Array Value} {below : List Frame} {meth : Method} {c : Code} {D : va_G} {tc : Nat → ClassId} {b n : Nat} {S' : zM} {r : Int32} (C : zC p m c cX8_beginWave 3 s args yX8_beginWave.cls D tc) (hr : meth.sig.returnType = none) (hk : meth.locks = false) : ∀ (fu : Nat) (S : zM) (x0 : Int32) (x2 : Int32) (H : Heap) (locs : List Loc) (ls : Array Slot), fX8_beginWave_17 n fu S x0 x2 = some (r, S') → zI D tc b n S s H locs → zL b ls 3 [(0, zr x0), (2, zi x2)] → W p l e (zR 0) s m args below meth c H locs 0 0 (zQv D tc b n S' below args s) (zG b m 17 ls []) := by
  intro fu
  induction fu with
  | zero => intro S x0 x2 H locs ls h _ _; rw [fX8_beginWave_17] at h; cases h
  | succ fu ih =>
    intro S x0 x2 H locs ls h I hl
    rw [fX8_beginWave_17] at h
    refine z_iload_n C hl 1 rfl dX8_beginWave_17 rfl ?_
    refine z_bipush C (v := 30) dX8_beginWave_18 (by decide) ?_
    refine z_icmp_ge C 36 dX8_beginWave_20 (by decide) (fun c1 => ?_) (fun c1 => ?_)
    · have h := zit c1 h
      exact z_vret C I hr hk h dX8_beginWave_36
    · have h := zif c1 h
      refine z_aload_n C hl 0 rfl dX8_beginWave_23 rfl ?_
      obtain ⟨g2, h⟩ := zd_some h
      refine z_get C I 8 35 zc8 g2 (by decide) zq_691 (v := zr (zg S x0 35)) rfl dX8_beginWave_24 ?_
      refine z_iload_n C hl 1 rfl dX8_beginWave_27 rfl ?_
      refine z_iconst C (v := 0) dX8_beginWave_28 (by decide) ?_
      obtain ⟨g3, h⟩ := zd_some h
      refine z_zast C I g3 rfl dX8_beginWave_29 (fun S4 e5 H locs I => ?_)
      have h := znb e5 h
      refine z_iinc C hl 1 (v := x2 + 1) rfl dX8_beginWave_30 rfl (by decide) (fun v6 => [(2, zi v6), (0, zr x0)]) (fun _ => rfl) (fun v6 e7 ls hl => ?_)
      have h := znb e7 h
      refine z_goto C 17 dX8_beginWave_33 (by decide) ?_
      exact ih _ _ _ _ _ _ h I (zL_sub hl [1, 0] rfl)

def fX8_beginWave (n : Nat) (S : zM) (a0 : Int32) (a1 : Int32) : Option (Int32 × zM) := zd (zo n 18 a0) <| zbd (zp S a0 30 a1) fun S2 => zbd (zp S2 a0 31 0) fun S4 => zbd (zp S4 a0 32 0) fun S6 => zbd (0) fun v8 => fX8_beginWave_17 n 1000 S6 a0 v8
theorem tX8_beginWave (l : Launch) (D : va_G) (tc : Nat → ClassId) (b n : Nat) {S S' : zM} {a0 : Int32} {a1 : Int32} {r : Int32} (h : fX8_beginWave n S a0 a1 = some (r, S')) : zMv l D tc b n yX8_beginWave cX8_beginWave 3 0 [zr a0, zi a1] S S' := by
  refine zMv_of zyX8_beginWave (Nat.le_of_ble_eq_true rfl) (fun p e s m args below meth c H C hr hk ls hl I => ?_)
  have hl : zL b ls 3 [(0, zr a0), (1, zi a1)] := hl
  rw [fX8_beginWave] at h
  refine z_aload_n C hl 0 rfl dX8_beginWave_0 rfl ?_
  refine z_iload_n C hl 1 rfl dX8_beginWave_1 rfl ?_
  obtain ⟨g1, h⟩ := zd_some h
  refine z_put C I 8 30 zc8 g1 (by decide) rfl zq_686 rfl (v := zi a1) rfl dX8_beginWave_2 (fun S2 e3 H locs I => ?_)
  have h := znb e3 h
  refine z_aload_n C hl 0 rfl dX8_beginWave_5 rfl ?_
  refine z_iconst C (v := 0) dX8_beginWave_6 (by decide) ?_
  refine z_put C I 8 31 zc8 g1 (by decide) rfl zq_687 rfl (v := zi 0) rfl dX8_beginWave_7 (fun S4 e5 H locs I => ?_)
  have h := znb e5 h
  refine z_aload_n C hl 0 rfl dX8_beginWave_10 rfl ?_
  refine z_iconst C (v := 0) dX8_beginWave_11 (by decide) ?_
  refine z_put C I 8 32 zc8 g1 (by decide) rfl zq_688 rfl (v := zi 0) rfl dX8_beginWave_12 (fun S6 e7 H locs I => ?_)
  have h := znb e7 h
  refine z_iconst C (v := 0) dX8_beginWave_15 (by decide) ?_
  refine z_istore_n C hl dX8_beginWave_16 rfl (by decide) (fun v8 => [(2, zi v8), (0, zr a0), (1, zi a1)]) (fun _ => rfl) (fun v8 e9 ls hl => ?_)
  have h := znb e9 h
  exact bX8_beginWave_17 C hr hk 1000 _ _ _ _ _ _ h I (zL_sub hl [1, 0] rfl)

def fX8_campaign_85 (n : Nat) (S : zM) (x0 : Int32) : Option (Int32 × zM) := zd (zo n 18 x0) <| zca (fX8_found n S x0 2) fun r2 S3 => some (r2, S3)
theorem bX8_campaign_85 {p : Program} {l : Launch} {e : Env} {s : State} {m : MethodId} {args : Array Value} {below : List Frame} {meth : Method} {c : Code} {D : va_G} {tc : Nat → ClassId} {b n : Nat} {S' : zM} {r : Int32} (C : zC p m c cX8_campaign 8 s args yX8_campaign.cls D tc) (hr : meth.sig.returnType = some .int) (hk : meth.locks = false) : ∀ (S : zM) (x0 : Int32) (H : Heap) (locs : List Loc) (ls : Array Slot), fX8_campaign_85 n S x0 = some (r, S') → zI D tc b n S s H locs → zL b ls 8 [(0, zr x0)] → W p l e (zR 2) s m args below meth c H locs 0 0 (zQi D tc b n S' r below args s) (zG b m 85 ls []) := by
  intro S x0 H locs ls h I hl
  rw [fX8_campaign_85] at h
  refine z_aload_n C hl 0 rfl dX8_campaign_85 rfl ?_
  refine z_iconst C (v := 2) dX8_campaign_86 (by decide) ?_
  obtain ⟨g1, h⟩ := zd_some h
  obtain ⟨r2, S3, h4, h⟩ := zcs h
  refine z_callVi C I (tX8_found l D tc b n h4) zyX8_found zyvX8_found zc8 g1 zq_784 (st := []) rfl rfl (by decide) (by decide) hl.1 (Nat.le_of_ble_eq_true rfl) dX8_campaign_87 (fun H locs I => ?_)
  exact z_iret C I hr hk h dX8_campaign_90

def fX8_campaign_281 (n : Nat) (k250 : zM → Int32 → Int32 → Int32 → Option (Int32 × zM)) (S : zM) (x0 : Int32) (x7 : Int32) (y0 : Int32) (y1 : Int32) : Option (Int32 × zM) := zbd (y1 + y0) fun v1 => zbd (x7 + 1) fun v3 => k250 S x0 v1 v3
theorem bX8_campaign_281 {p : Program} {l : Launch} {e : Env} {s : State} {m : MethodId} {args : Array Value} {below : List Frame} {meth : Method} {c : Code} {D : va_G} {tc : Nat → ClassId} {b n : Nat} {S' : zM} {r : Int32} (C : zC p m c cX8_campaign 8 s args yX8_campaign.cls D tc) (hr : meth.sig.returnType = some .int) (hk : meth.locks = false) {k250 : zM → Int32 → Int32 → Int32 → Option (Int32 × zM)} (K250 : ∀ (S : zM) (x0 : Int32) (x6 : Int32) (x7 : Int32) (H : Heap) (locs : List Loc) (ls : Array Slot), k250 S x0 x6 x7 = some (r, S') → zI D tc b n S s H locs → zL b ls 8 [(0, zr x0), (6, zi x6), (7, zi x7)] → W p l e (zR 2) s m args below meth c H locs 0 0 (zQi D tc b n S' r below args s) (zG b m 250 ls [])) : ∀ (S : zM) (x0 : Int32) (x7 : Int32) (y0 : Int32) (y1 : Int32) (H : Heap) (locs : List Loc) (ls : Array Slot), fX8_campaign_281 n k250 S x0 x7 y0 y1 = some (r, S') → zI D tc b n S s H locs → zL b ls 8 [(0, zr x0), (7, zi x7)] → W p l e (zR 2) s m args below meth c H locs 0 0 (zQi D tc b n S' r below args s) (zG b m 281 ls [zi y0, zi y1]) := by
  intro S x0 x7 y0 y1 H locs ls h I hl
  rw [fX8_campaign_281] at h
  refine z_iadd C dX8_campaign_281 ?_
  refine z_istore C hl dX8_campaign_282 (by decide) (fun v1 => [(6, zi v1), (0, zr x0), (7, zi x7)]) (fun _ => rfl) (fun v1 e2 ls hl => ?_)
  have h := znb e2 h
  refine z_iinc C hl 2 (v := x7 + 1) rfl dX8_campaign_284 rfl (by decide) (fun v3 => [(7, zi v3), (6, zi v1), (0, zr x0)]) (fun _ => rfl) (fun v3 e4 ls hl => ?_)
  have h := znb e4 h
  refine z_goto C 250 dX8_campaign_287 (by decide) ?_
  exact K250 _ _ _ _ _ _ _ h I (zL_sub hl [2, 1, 0] rfl)

def fX8_campaign_250 (n : Nat) : Nat → zM → Int32 → Int32 → Int32 → Option (Int32 × zM)
  | 0, _, _, _, _ => none
  | fu + 1, S, x0, x6, x7 => zd (zo n 18 x0) <| if (zg S x0 13 : Int32) ≤ (x7 : Int32) then (some (x6, S)) else (zca (fX8_draw n S x0 x7) fun r3 S4 => zd (za n 0 (zg S4 x0 28) 0) <| if (ze S4 (zg S4 x0 28) 0 : Int32) ≤ (r3 : Int32) then (fX8_campaign_281 n (fX8_campaign_250 n fu) S4 x0 x7 0 x6) else (fX8_campaign_281 n (fX8_campaign_250 n fu) S4 x0 x7 1 x6))
theorem bX8_campaign_250 {p : Program} {l : Launch} {e : Env} {s : State} {m : MethodId} {args : Array Value} {below : List Frame} {meth : Method} {c : Code} {D : va_G} {tc : Nat → ClassId} {b n : Nat} {S' : zM} {r : Int32} (C : zC p m c cX8_campaign 8 s args yX8_campaign.cls D tc) (hr : meth.sig.returnType = some .int) (hk : meth.locks = false) : ∀ (fu : Nat) (S : zM) (x0 : Int32) (x6 : Int32) (x7 : Int32) (H : Heap) (locs : List Loc) (ls : Array Slot), fX8_campaign_250 n fu S x0 x6 x7 = some (r, S') → zI D tc b n S s H locs → zL b ls 8 [(0, zr x0), (6, zi x6), (7, zi x7)] → W p l e (zR 2) s m args below meth c H locs 0 0 (zQi D tc b n S' r below args s) (zG b m 250 ls []) := by
  intro fu
  induction fu with
  | zero => intro S x0 x6 x7 H locs ls h _ _; rw [fX8_campaign_250] at h; cases h
  | succ fu ih =>
    intro S x0 x6 x7 H locs ls h I hl
    rw [fX8_campaign_250] at h
    refine z_iload C hl 2 rfl dX8_campaign_250 ?_
    refine z_aload_n C hl 0 rfl dX8_campaign_252 rfl ?_
    obtain ⟨g1, h⟩ := zd_some h
    refine z_get C I 8 13 zc8 g1 (by decide) zq_669 (v := zi (zg S x0 13)) rfl dX8_campaign_253 ?_
    refine z_icmp_ge C 290 dX8_campaign_256 (by decide) (fun c2 => ?_) (fun c2 => ?_)
    · have h := zit c2 h
      refine z_iload C hl 1 rfl dX8_campaign_290 ?_
      exact z_iret C I hr hk h dX8_campaign_292
    · have h := zif c2 h
      refine z_iload C hl 1 rfl dX8_campaign_259 ?_
      refine z_aload_n C hl 0 rfl dX8_campaign_261 rfl ?_
      refine z_iload C hl 2 rfl dX8_campaign_262 ?_
      obtain ⟨r3, S4, h5, h⟩ := zcs h
      refine z_callVi C I (tX8_draw l D tc b n h5) zyX8_draw zyvX8_draw zc8 g1 zq_859 (st := [zi x6]) rfl rfl (by decide) (by decide) hl.1 (Nat.le_of_ble_eq_true rfl) dX8_campaign_264 (fun H locs I => ?_)
      refine z_aload_n C hl 0 rfl dX8_campaign_267 rfl ?_
      refine z_get C I 8 28 zc8 g1 (by decide) zq_684 (v := zr (zg S4 x0 28)) rfl dX8_campaign_268 ?_
      refine z_iconst C (v := 0) dX8_campaign_271 (by decide) ?_
      obtain ⟨g6, h⟩ := zd_some h
      refine z_iald C I g6 dX8_campaign_272 ?_
      refine z_icmp_ge C 280 dX8_campaign_273 (by decide) (fun c7 => ?_) (fun c7 => ?_)
      · have h := zit c7 h
        refine z_iconst C (v := 0) dX8_campaign_280 (by decide) ?_
        exact bX8_campaign_281 C hr hk ih _ _ _ _ _ _ _ _ h I (zL_sub hl [0, 2] rfl)
      · have h := zif c7 h
        refine z_iconst C (v := 1) dX8_campaign_276 (by decide) ?_
        refine z_goto C 281 dX8_campaign_277 (by decide) ?_
        exact bX8_campaign_281 C hr hk ih _ _ _ _ _ _ _ _ h I (zL_sub hl [0, 2] rfl)

def fX8_campaign_205 (n : Nat) : Nat → zM → Int32 → Int32 → Int32 → Int32 → Int32 → Option (Int32 × zM)
  | 0, _, _, _, _, _, _ => none
  | fu + 1, S, x0, x2, x3, x4, x6 => if (x4 : Int32) ≤ (x6 : Int32) then (zd (zo n 18 x0) <| zca (fX8_beginWave n S x0 0) fun r3 S4 => zbd (0) fun v6 => zbd (0) fun v8 => fX8_campaign_250 n 1000 S4 x0 v6 v8) else (zd (zo n 18 x0) <| zd (za n 0 (zg S x0 4) (((60 * x2) + x3) + x6)) <| zd (za n 0 (zg S x0 28) x6) <| zbd (zq S (zg S x0 28) x6 (ze S (zg S x0 4) (((60 * x2) + x3) + x6))) fun S13 => zbd (x6 + 1) fun v15 => fX8_campaign_205 n fu S13 x0 x2 x3 x4 v15)
theorem bX8_campaign_205 {p : Program} {l : Launch} {e : Env} {s : State} {m : MethodId} {args : Array Value} {below : List Frame} {meth : Method} {c : Code} {D : va_G} {tc : Nat → ClassId} {b n : Nat} {S' : zM} {r : Int32} (C : zC p m c cX8_campaign 8 s args yX8_campaign.cls D tc) (hr : meth.sig.returnType = some .int) (hk : meth.locks = false) : ∀ (fu : Nat) (S : zM) (x0 : Int32) (x2 : Int32) (x3 : Int32) (x4 : Int32) (x6 : Int32) (H : Heap) (locs : List Loc) (ls : Array Slot), fX8_campaign_205 n fu S x0 x2 x3 x4 x6 = some (r, S') → zI D tc b n S s H locs → zL b ls 8 [(0, zr x0), (2, zi x2), (3, zi x3), (4, zi x4), (6, zi x6)] → W p l e (zR 2) s m args below meth c H locs 0 0 (zQi D tc b n S' r below args s) (zG b m 205 ls []) := by
  intro fu
  induction fu with
  | zero => intro S x0 x2 x3 x4 x6 H locs ls h _ _; rw [fX8_campaign_205] at h; cases h
  | succ fu ih =>
    intro S x0 x2 x3 x4 x6 H locs ls h I hl
    rw [fX8_campaign_205] at h
    refine z_iload C hl 4 rfl dX8_campaign_205 ?_
    refine z_iload C hl 3 rfl dX8_campaign_207 ?_
    refine z_icmp_ge C 239 dX8_campaign_209 (by decide) (fun c1 => ?_) (fun c1 => ?_)
    · have h := zit c1 h
      refine z_aload_n C hl 0 rfl dX8_campaign_239 rfl ?_
      refine z_iconst C (v := 0) dX8_campaign_240 (by decide) ?_
      obtain ⟨g2, h⟩ := zd_some h
      obtain ⟨r3, S4, h5, h⟩ := zcs h
      refine z_callVv C I (tX8_beginWave l D tc b n h5) zyX8_beginWave zyvX8_beginWave zc8 g2 zq_918 (st := []) rfl rfl (by decide) (by decide) hl.1 (Nat.le_of_ble_eq_true rfl) dX8_campaign_241 (fun H locs I => ?_)
      refine z_iconst C (v := 0) dX8_campaign_244 (by decide) ?_
      refine z_istore C hl dX8_campaign_245 (by decide) (fun v6 => [(6, zi v6), (0, zr x0), (2, zi x2), (3, zi x3), (4, zi x4)]) (fun _ => rfl) (fun v6 e7 ls hl => ?_)
      have h := znb e7 h
      refine z_iconst C (v := 0) dX8_campaign_247 (by decide) ?_
      refine z_istore C hl dX8_campaign_248 (by decide) (fun v8 => [(7, zi v8), (6, zi v6), (0, zr x0), (2, zi x2), (3, zi x3), (4, zi x4)]) (fun _ => rfl) (fun v8 e9 ls hl => ?_)
      have h := znb e9 h
      exact bX8_campaign_250 C hr hk 1000 _ _ _ _ _ _ _ h I (zL_sub hl [2, 1, 0] rfl)
    · have h := zif c1 h
      refine z_aload_n C hl 0 rfl dX8_campaign_212 rfl ?_
      obtain ⟨g10, h⟩ := zd_some h
      refine z_get C I 8 28 zc8 g10 (by decide) zq_684 (v := zr (zg S x0 28)) rfl dX8_campaign_213 ?_
      refine z_iload C hl 4 rfl dX8_campaign_216 ?_
      refine z_aload_n C hl 0 rfl dX8_campaign_218 rfl ?_
      refine z_get C I 8 4 zc8 g10 (by decide) zq_660 (v := zr (zg S x0 4)) rfl dX8_campaign_219 ?_
      refine z_bipush C (v := 60) dX8_campaign_222 (by decide) ?_
      refine z_iload_n C hl 1 rfl dX8_campaign_224 rfl ?_
      refine z_imul C dX8_campaign_225 ?_
      refine z_iload_n C hl 2 rfl dX8_campaign_226 rfl ?_
      refine z_iadd C dX8_campaign_227 ?_
      refine z_iload C hl 4 rfl dX8_campaign_228 ?_
      refine z_iadd C dX8_campaign_230 ?_
      obtain ⟨g11, h⟩ := zd_some h
      refine z_iald C I g11 dX8_campaign_231 ?_
      obtain ⟨g12, h⟩ := zd_some h
      refine z_iast C I g12 dX8_campaign_232 (fun S13 e14 H locs I => ?_)
      have h := znb e14 h
      refine z_iinc C hl 4 (v := x6 + 1) rfl dX8_campaign_233 rfl (by decide) (fun v15 => [(6, zi v15), (0, zr x0), (2, zi x2), (3, zi x3), (4, zi x4)]) (fun _ => rfl) (fun v15 e16 ls hl => ?_)
      have h := znb e16 h
      refine z_goto C 205 dX8_campaign_236 (by decide) ?_
      exact ih _ _ _ _ _ _ _ _ _ h I (zL_sub hl [1, 2, 3, 4, 0] rfl)

def fX8_campaign_159 (n : Nat) (k94 : zM → Int32 → Int32 → Int32 → Int32 → Int32 → Int32 → Int32 → Option (Int32 × zM)) (S : zM) (x0 : Int32) (x1 : Int32) (x2 : Int32) (x3 : Int32) (x4 : Int32) (x5 : Int32) (x6 : Int32) : Option (Int32 × zM) := zbd (x6 + 1) fun v1 => k94 S x0 x1 x2 x3 x4 x5 v1
theorem bX8_campaign_159 {p : Program} {l : Launch} {e : Env} {s : State} {m : MethodId} {args : Array Value} {below : List Frame} {meth : Method} {c : Code} {D : va_G} {tc : Nat → ClassId} {b n : Nat} {S' : zM} {r : Int32} (C : zC p m c cX8_campaign 8 s args yX8_campaign.cls D tc) (hr : meth.sig.returnType = some .int) (hk : meth.locks = false) {k94 : zM → Int32 → Int32 → Int32 → Int32 → Int32 → Int32 → Int32 → Option (Int32 × zM)} (K94 : ∀ (S : zM) (x0 : Int32) (x1 : Int32) (x2 : Int32) (x3 : Int32) (x4 : Int32) (x5 : Int32) (x6 : Int32) (H : Heap) (locs : List Loc) (ls : Array Slot), k94 S x0 x1 x2 x3 x4 x5 x6 = some (r, S') → zI D tc b n S s H locs → zL b ls 8 [(0, zr x0), (1, zi x1), (2, zi x2), (3, zi x3), (4, zi x4), (5, zi x5), (6, zi x6)] → W p l e (zR 2) s m args below meth c H locs 0 0 (zQi D tc b n S' r below args s) (zG b m 94 ls [])) : ∀ (S : zM) (x0 : Int32) (x1 : Int32) (x2 : Int32) (x3 : Int32) (x4 : Int32) (x5 : Int32) (x6 : Int32) (H : Heap) (locs : List Loc) (ls : Array Slot), fX8_campaign_159 n k94 S x0 x1 x2 x3 x4 x5 x6 = some (r, S') → zI D tc b n S s H locs → zL b ls 8 [(0, zr x0), (1, zi x1), (2, zi x2), (3, zi x3), (4, zi x4), (5, zi x5), (6, zi x6)] → W p l e (zR 2) s m args below meth c H locs 0 0 (zQi D tc b n S' r below args s) (zG b m 159 ls []) := by
  intro S x0 x1 x2 x3 x4 x5 x6 H locs ls h I hl
  rw [fX8_campaign_159] at h
  refine z_iinc C hl 6 (v := x6 + 1) rfl dX8_campaign_159 rfl (by decide) (fun v1 => [(6, zi v1), (0, zr x0), (1, zi x1), (2, zi x2), (3, zi x3), (4, zi x4), (5, zi x5)]) (fun _ => rfl) (fun v1 e2 ls hl => ?_)
  have h := znb e2 h
  refine z_goto C 94 dX8_campaign_162 (by decide) ?_
  exact K94 _ _ _ _ _ _ _ _ _ _ _ h I (zL_sub hl [1, 2, 3, 4, 5, 6, 0] rfl)

def fX8_campaign_94 (n : Nat) : Nat → zM → Int32 → Int32 → Int32 → Int32 → Int32 → Int32 → Int32 → Option (Int32 × zM)
  | 0, _, _, _, _, _, _, _, _ => none
  | fu + 1, S, x0, x1, x2, x3, x4, x5, x6 => if (x4 : Int32) ≤ (x6 : Int32) then (zd (zo n 18 x0) <| zbd (zp S x0 1 0) fun S3 => zbd (zp S3 x0 25 1) fun S5 => zbd (zp S5 x0 26 x1) fun S7 => zbd (zp S7 x0 27 x4) fun S9 => zbd (zp S9 x0 29 x5) fun S11 => zbd (zp S11 x0 33 0) fun S13 => zbd (zp S13 x0 34 0) fun S15 => zbd (0) fun v17 => fX8_campaign_205 n 1000 S15 x0 x2 x3 x4 v17) else (zd (zo n 18 x0) <| zd (za n 0 (zg S x0 4) (((60 * x2) + x3) + x6)) <| zbd (ze S (zg S x0 4) (((60 * x2) + x3) + x6)) fun v21 => zca (fX8_in n S ((v21 : Int32).toInt64) 1 100) fun r23 S24 => if (r23 : Int32) = 0 then (some ((-1000001), S24)) else (if (x6 : Int32) ≤ 0 then (fX8_campaign_159 n (fX8_campaign_94 n fu) S24 x0 x1 x2 x3 x4 x5 x6) else (zd (za n 0 (zg S24 x0 4) ((((60 * x2) + x3) + x6) - 1)) <| if (ze S24 (zg S24 x0 4) ((((60 * x2) + x3) + x6) - 1) : Int32) < (v21 : Int32) then (fX8_campaign_159 n (fX8_campaign_94 n fu) S24 x0 x1 x2 x3 x4 x5 x6) else (some ((-1000001), S24)))))
theorem bX8_campaign_94 {p : Program} {l : Launch} {e : Env} {s : State} {m : MethodId} {args : Array Value} {below : List Frame} {meth : Method} {c : Code} {D : va_G} {tc : Nat → ClassId} {b n : Nat} {S' : zM} {r : Int32} (C : zC p m c cX8_campaign 8 s args yX8_campaign.cls D tc) (hr : meth.sig.returnType = some .int) (hk : meth.locks = false) : ∀ (fu : Nat) (S : zM) (x0 : Int32) (x1 : Int32) (x2 : Int32) (x3 : Int32) (x4 : Int32) (x5 : Int32) (x6 : Int32) (H : Heap) (locs : List Loc) (ls : Array Slot), fX8_campaign_94 n fu S x0 x1 x2 x3 x4 x5 x6 = some (r, S') → zI D tc b n S s H locs → zL b ls 8 [(0, zr x0), (1, zi x1), (2, zi x2), (3, zi x3), (4, zi x4), (5, zi x5), (6, zi x6)] → W p l e (zR 2) s m args below meth c H locs 0 0 (zQi D tc b n S' r below args s) (zG b m 94 ls []) := by
  intro fu
  induction fu with
  | zero => intro S x0 x1 x2 x3 x4 x5 x6 H locs ls h _ _; rw [fX8_campaign_94] at h; cases h
  | succ fu ih =>
    intro S x0 x1 x2 x3 x4 x5 x6 H locs ls h I hl
    rw [fX8_campaign_94] at h
    refine z_iload C hl 6 rfl dX8_campaign_94 ?_
    refine z_iload C hl 4 rfl dX8_campaign_96 ?_
    refine z_icmp_ge C 165 dX8_campaign_98 (by decide) (fun c1 => ?_) (fun c1 => ?_)
    · have h := zit c1 h
      refine z_aload_n C hl 0 rfl dX8_campaign_165 rfl ?_
      refine z_iconst C (v := 0) dX8_campaign_166 (by decide) ?_
      obtain ⟨g2, h⟩ := zd_some h
      refine z_put C I 8 1 zc8 g2 (by decide) rfl zq_657 rfl (v := zi 0) rfl dX8_campaign_167 (fun S3 e4 H locs I => ?_)
      have h := znb e4 h
      refine z_aload_n C hl 0 rfl dX8_campaign_170 rfl ?_
      refine z_iconst C (v := 1) dX8_campaign_171 (by decide) ?_
      refine z_put C I 8 25 zc8 g2 (by decide) rfl zq_681 rfl (v := zi 1) rfl dX8_campaign_172 (fun S5 e6 H locs I => ?_)
      have h := znb e6 h
      refine z_aload_n C hl 0 rfl dX8_campaign_175 rfl ?_
      refine z_iload_n C hl 1 rfl dX8_campaign_176 rfl ?_
      refine z_put C I 8 26 zc8 g2 (by decide) rfl zq_682 rfl (v := zi x1) rfl dX8_campaign_177 (fun S7 e8 H locs I => ?_)
      have h := znb e8 h
      refine z_aload_n C hl 0 rfl dX8_campaign_180 rfl ?_
      refine z_iload C hl 4 rfl dX8_campaign_181 ?_
      refine z_put C I 8 27 zc8 g2 (by decide) rfl zq_683 rfl (v := zi x4) rfl dX8_campaign_183 (fun S9 e10 H locs I => ?_)
      have h := znb e10 h
      refine z_aload_n C hl 0 rfl dX8_campaign_186 rfl ?_
      refine z_iload C hl 5 rfl dX8_campaign_187 ?_
      refine z_put C I 8 29 zc8 g2 (by decide) rfl zq_685 rfl (v := zi x5) rfl dX8_campaign_189 (fun S11 e12 H locs I => ?_)
      have h := znb e12 h
      refine z_aload_n C hl 0 rfl dX8_campaign_192 rfl ?_
      refine z_iconst C (v := 0) dX8_campaign_193 (by decide) ?_
      refine z_put C I 8 33 zc8 g2 (by decide) rfl zq_689 rfl (v := zi 0) rfl dX8_campaign_194 (fun S13 e14 H locs I => ?_)
      have h := znb e14 h
      refine z_aload_n C hl 0 rfl dX8_campaign_197 rfl ?_
      refine z_iconst C (v := 0) dX8_campaign_198 (by decide) ?_
      refine z_put C I 8 34 zc8 g2 (by decide) rfl zq_690 rfl (v := zi 0) rfl dX8_campaign_199 (fun S15 e16 H locs I => ?_)
      have h := znb e16 h
      refine z_iconst C (v := 0) dX8_campaign_202 (by decide) ?_
      refine z_istore C hl dX8_campaign_203 (by decide) (fun v17 => [(6, zi v17), (0, zr x0), (1, zi x1), (2, zi x2), (3, zi x3), (4, zi x4), (5, zi x5)]) (fun _ => rfl) (fun v17 e18 ls hl => ?_)
      have h := znb e18 h
      exact bX8_campaign_205 C hr hk 1000 _ _ _ _ _ _ _ _ _ h I (zL_sub hl [1, 3, 4, 5, 0] rfl)
    · have h := zif c1 h
      refine z_aload_n C hl 0 rfl dX8_campaign_101 rfl ?_
      obtain ⟨g19, h⟩ := zd_some h
      refine z_get C I 8 4 zc8 g19 (by decide) zq_660 (v := zr (zg S x0 4)) rfl dX8_campaign_102 ?_
      refine z_bipush C (v := 60) dX8_campaign_105 (by decide) ?_
      refine z_iload_n C hl 2 rfl dX8_campaign_107 rfl ?_
      refine z_imul C dX8_campaign_108 ?_
      refine z_iload_n C hl 3 rfl dX8_campaign_109 rfl ?_
      refine z_iadd C dX8_campaign_110 ?_
      refine z_iload C hl 6 rfl dX8_campaign_111 ?_
      refine z_iadd C dX8_campaign_113 ?_
      obtain ⟨g20, h⟩ := zd_some h
      refine z_iald C I g20 dX8_campaign_114 ?_
      refine z_istore C hl dX8_campaign_115 (by decide) (fun v21 => [(7, zi v21), (0, zr x0), (1, zi x1), (2, zi x2), (3, zi x3), (4, zi x4), (5, zi x5), (6, zi x6)]) (fun _ => rfl) (fun v21 e22 ls hl => ?_)
      have h := znb e22 h
      refine z_iload C hl 0 rfl dX8_campaign_117 ?_
      refine z_i2l C dX8_campaign_119 ?_
      refine z_lconst C (v := 1) dX8_campaign_120 (by decide) ?_
      refine z_ldc2 C zq_917 dX8_campaign_121 ?_
      obtain ⟨r23, S24, h25, h⟩ := zcs h
      refine z_callSi C I (tX8_in l D tc b n h25) zyX8_in zq_780 zq_779 (st := []) rfl rfl (by decide) (by decide) hl.1 (Nat.le_of_ble_eq_true rfl) dX8_campaign_124 (fun H locs I => ?_)
      refine z_if_eq C 156 dX8_campaign_127 (by decide) (fun c26 => ?_) (fun c26 => ?_)
      · have h := zit c26 h
        refine z_ldc C zq_783 dX8_campaign_156 ?_
        exact z_iret C I hr hk h dX8_campaign_158
      · have h := zif c26 h
        refine z_iload C hl 7 rfl dX8_campaign_130 ?_
        refine z_if_le C 159 dX8_campaign_132 (by decide) (fun c27 => ?_) (fun c27 => ?_)
        · have h := zit c27 h
          exact bX8_campaign_159 C hr hk ih _ _ _ _ _ _ _ _ _ _ _ h I (zL_sub hl [1, 2, 3, 4, 5, 6, 7] rfl)
        · have h := zif c27 h
          refine z_iload C hl 0 rfl dX8_campaign_135 ?_
          refine z_aload_n C hl 1 rfl dX8_campaign_137 rfl ?_
          refine z_get C I 8 4 zc8 g19 (by decide) zq_660 (v := zr (zg S24 x0 4)) rfl dX8_campaign_138 ?_
          refine z_bipush C (v := 60) dX8_campaign_141 (by decide) ?_
          refine z_iload_n C hl 3 rfl dX8_campaign_143 rfl ?_
          refine z_imul C dX8_campaign_144 ?_
          refine z_iload_n C hl 4 rfl dX8_campaign_145 rfl ?_
          refine z_iadd C dX8_campaign_146 ?_
          refine z_iload C hl 7 rfl dX8_campaign_147 ?_
          refine z_iadd C dX8_campaign_149 ?_
          refine z_iconst C (v := 1) dX8_campaign_150 (by decide) ?_
          refine z_isub C dX8_campaign_151 ?_
          obtain ⟨g28, h⟩ := zd_some h
          refine z_iald C I g28 dX8_campaign_152 ?_
          refine z_icmp_gt C 159 dX8_campaign_153 (by decide) (fun c29 => ?_) (fun c29 => ?_)
          · have h := zit c29 h
            exact bX8_campaign_159 C hr hk ih _ _ _ _ _ _ _ _ _ _ _ h I (zL_sub hl [1, 2, 3, 4, 5, 6, 7] rfl)
          · have h := zif c29 h
            refine z_ldc C zq_783 dX8_campaign_156 ?_
            exact z_iret C I hr hk h dX8_campaign_158

def fX8_campaign (n : Nat) (S : zM) (a0 : Int32) (a1 : Int32) (a2 : Int32) (a3 : Int32) (a4 : Int32) (a5 : Int32) : Option (Int32 × zM) := zd (zo n 18 a0) <| zbd (zp S a0 0 0) fun S2 => zca (fX8_isVersion n S2 a0 a1) fun r4 S5 => if (r4 : Int32) = 0 then (some ((-1000001), S5)) else (zca (fX8_isSheet n S5 a2) fun r8 S9 => if (r8 : Int32) = 0 then (some ((-1000001), S9)) else (zca (fX8_in n S9 ((a4 : Int32).toInt64) 1 6) fun r12 S13 => if (r12 : Int32) = 0 then (some ((-1000001), S13)) else (zca (fX8_in n S13 ((a5 : Int32).toInt64) 0 10) fun r16 S17 => if (r16 : Int32) = 0 then (some ((-1000001), S17)) else (zd (za n 0 (zg S17 a0 2) a2) <| if 0 ≤ (ze S17 (zg S17 a0 2) a2 : Int32) then (if (a3 : Int32) < 0 then (fX8_campaign_85 n S17 a0) else (zd (za n 0 (zg S17 a0 3) a2) <| if (lg_cmp (((a3 : Int32).toInt64) + ((a4 : Int32).toInt64)) ((ze S17 (zg S17 a0 3) a2 : Int32).toInt64) : Int32) ≤ 0 then (zbd (0) fun v25 => fX8_campaign_94 n 1000 S17 a0 a1 a2 a3 a4 a5 v25) else (fX8_campaign_85 n S17 a0))) else (zca (fX8_found n S17 a0 1) fun r27 S28 => some (r27, S28))))))
theorem tX8_campaign (l : Launch) (D : va_G) (tc : Nat → ClassId) (b n : Nat) {S S' : zM} {a0 : Int32} {a1 : Int32} {a2 : Int32} {a3 : Int32} {a4 : Int32} {a5 : Int32} {r : Int32} (h : fX8_campaign n S a0 a1 a2 a3 a4 a5 = some (r, S')) : zMi l D tc b n yX8_campaign cX8_campaign 8 .int 2 [zr a0, zi a1, zi a2, zi a3, zi a4, zi a5] S S' r := by
  refine zMi_of zyX8_campaign (Nat.le_of_ble_eq_true rfl) (fun p e s m args below meth c H C hr hk ls hl I => ?_)
  have hl : zL b ls 8 [(0, zr a0), (1, zi a1), (2, zi a2), (3, zi a3), (4, zi a4), (5, zi a5)] := hl
  rw [fX8_campaign] at h
  refine z_aload_n C hl 0 rfl dX8_campaign_0 rfl ?_
  refine z_iconst C (v := 0) dX8_campaign_1 (by decide) ?_
  obtain ⟨g1, h⟩ := zd_some h
  refine z_put C I 8 0 zc8 g1 (by decide) rfl zq_656 rfl (v := zi 0) rfl dX8_campaign_2 (fun S2 e3 H locs I => ?_)
  have h := znb e3 h
  refine z_aload_n C hl 0 rfl dX8_campaign_5 rfl ?_
  refine z_iload_n C hl 1 rfl dX8_campaign_6 rfl ?_
  obtain ⟨r4, S5, h6, h⟩ := zcs h
  refine z_callVi C I (tX8_isVersion l D tc b n h6) zyX8_isVersion zyvX8_isVersion zc8 g1 zq_816 (st := []) rfl rfl (by decide) (by decide) hl.1 (Nat.le_of_ble_eq_true rfl) dX8_campaign_7 (fun H locs I => ?_)
  refine z_if_eq C 46 dX8_campaign_10 (by decide) (fun c7 => ?_) (fun c7 => ?_)
  · have h := zit c7 h
    refine z_ldc C zq_783 dX8_campaign_46 ?_
    exact z_iret C I hr hk h dX8_campaign_48
  · have h := zif c7 h
    refine z_iload_n C hl 2 rfl dX8_campaign_13 rfl ?_
    obtain ⟨r8, S9, h10, h⟩ := zcs h
    refine z_callSi C I (tX8_isSheet l D tc b n h10) zyX8_isSheet zq_776 zq_775 (st := []) rfl rfl (by decide) (by decide) hl.1 (Nat.le_of_ble_eq_true rfl) dX8_campaign_14 (fun H locs I => ?_)
    refine z_if_eq C 46 dX8_campaign_17 (by decide) (fun c11 => ?_) (fun c11 => ?_)
    · have h := zit c11 h
      refine z_ldc C zq_783 dX8_campaign_46 ?_
      exact z_iret C I hr hk h dX8_campaign_48
    · have h := zif c11 h
      refine z_iload C hl 4 rfl dX8_campaign_20 ?_
      refine z_i2l C dX8_campaign_22 ?_
      refine z_lconst C (v := 1) dX8_campaign_23 (by decide) ?_
      refine z_ldc2 C zq_915 dX8_campaign_24 ?_
      obtain ⟨r12, S13, h14, h⟩ := zcs h
      refine z_callSi C I (tX8_in l D tc b n h14) zyX8_in zq_780 zq_779 (st := []) rfl rfl (by decide) (by decide) hl.1 (Nat.le_of_ble_eq_true rfl) dX8_campaign_27 (fun H locs I => ?_)
      refine z_if_eq C 46 dX8_campaign_30 (by decide) (fun c15 => ?_) (fun c15 => ?_)
      · have h := zit c15 h
        refine z_ldc C zq_783 dX8_campaign_46 ?_
        exact z_iret C I hr hk h dX8_campaign_48
      · have h := zif c15 h
        refine z_iload C hl 5 rfl dX8_campaign_33 ?_
        refine z_i2l C dX8_campaign_35 ?_
        refine z_lconst C (v := 0) dX8_campaign_36 (by decide) ?_
        refine z_ldc2 C zq_916 dX8_campaign_37 ?_
        obtain ⟨r16, S17, h18, h⟩ := zcs h
        refine z_callSi C I (tX8_in l D tc b n h18) zyX8_in zq_780 zq_779 (st := []) rfl rfl (by decide) (by decide) hl.1 (Nat.le_of_ble_eq_true rfl) dX8_campaign_40 (fun H locs I => ?_)
        refine z_if_ne C 49 dX8_campaign_43 (by decide) (fun c19 => ?_) (fun c19 => ?_)
        · have h := zif c19 h
          refine z_aload_n C hl 0 rfl dX8_campaign_49 rfl ?_
          refine z_get C I 8 2 zc8 g1 (by decide) zq_658 (v := zr (zg S17 a0 2)) rfl dX8_campaign_50 ?_
          refine z_iload_n C hl 2 rfl dX8_campaign_53 rfl ?_
          obtain ⟨g20, h⟩ := zd_some h
          refine z_iald C I g20 dX8_campaign_54 ?_
          refine z_if_ge C 64 dX8_campaign_55 (by decide) (fun c21 => ?_) (fun c21 => ?_)
          · have h := zit c21 h
            refine z_iload_n C hl 3 rfl dX8_campaign_64 rfl ?_
            refine z_if_lt C 85 dX8_campaign_65 (by decide) (fun c22 => ?_) (fun c22 => ?_)
            · have h := zit c22 h
              exact bX8_campaign_85 C hr hk _ _ _ _ _ h I (zL_sub hl [0] rfl)
            · have h := zif c22 h
              refine z_iload_n C hl 3 rfl dX8_campaign_68 rfl ?_
              refine z_i2l C dX8_campaign_69 ?_
              refine z_iload C hl 4 rfl dX8_campaign_70 ?_
              refine z_i2l C dX8_campaign_72 ?_
              refine z_ladd C dX8_campaign_73 ?_
              refine z_aload_n C hl 0 rfl dX8_campaign_74 rfl ?_
              refine z_get C I 8 3 zc8 g1 (by decide) zq_659 (v := zr (zg S17 a0 3)) rfl dX8_campaign_75 ?_
              refine z_iload_n C hl 2 rfl dX8_campaign_78 rfl ?_
              obtain ⟨g23, h⟩ := zd_some h
              refine z_iald C I g23 dX8_campaign_79 ?_
              refine z_i2l C dX8_campaign_80 ?_
              refine z_lcmp C dX8_campaign_81 ?_
              refine z_if_le C 91 dX8_campaign_82 (by decide) (fun c24 => ?_) (fun c24 => ?_)
              · have h := zit c24 h
                refine z_iconst C (v := 0) dX8_campaign_91 (by decide) ?_
                refine z_istore C hl dX8_campaign_92 (by decide) (fun v25 => [(6, zi v25), (0, zr a0), (1, zi a1), (2, zi a2), (3, zi a3), (4, zi a4), (5, zi a5)]) (fun _ => rfl) (fun v25 e26 ls hl => ?_)
                have h := znb e26 h
                exact bX8_campaign_94 C hr hk 1000 _ _ _ _ _ _ _ _ _ _ _ h I (zL_sub hl [1, 2, 3, 4, 5, 6, 0] rfl)
              · have h := zif c24 h
                exact bX8_campaign_85 C hr hk _ _ _ _ _ h I (zL_sub hl [0] rfl)
          · have h := zif c21 h
            refine z_aload_n C hl 0 rfl dX8_campaign_58 rfl ?_
            refine z_iconst C (v := 1) dX8_campaign_59 (by decide) ?_
            obtain ⟨r27, S28, h29, h⟩ := zcs h
            refine z_callVi C I (tX8_found l D tc b n h29) zyX8_found zyvX8_found zc8 g1 zq_784 (st := []) rfl rfl (by decide) (by decide) hl.1 (Nat.le_of_ble_eq_true rfl) dX8_campaign_60 (fun H locs I => ?_)
            exact z_iret C I hr hk h dX8_campaign_63
        · have h := zit c19 h
          refine z_ldc C zq_783 dX8_campaign_46 ?_
          exact z_iret C I hr hk h dX8_campaign_48

