def fX8_isNext (n : Nat) (S : zM) (a0 : Int32) (a1 : Int32) : Option (Int32 × zM) := zd (zo n 18 a0) <| zca (fX8_draw n S a0 a1) fun r2 S3 => zd (za n 0 (zg S3 a0 28) (zg S3 a0 30)) <| if (ze S3 (zg S3 a0 28) (zg S3 a0 30) : Int32) ≤ (r2 : Int32) then (some (0, S3)) else (zca (fX8_runsOn n S3 a0 a1) fun r7 S8 => if (zg S8 a0 26 : Int32) ≤ (r7 : Int32) then (some (0, S8)) else (zd (za n 1 (zg S8 a0 35) a1) <| if (ze S8 (zg S8 a0 35) a1 : Int32) = 0 then (zd (za n 0 (zg S8 a0 15) a1) <| if (ze S8 (zg S8 a0 15) a1 : Int32) = ((-1000000) : Int32) then (some (1, S8)) else (zca (fX8_runsOn n S8 a0 (ze S8 (zg S8 a0 15) a1)) fun r15 S16 => if (r15 : Int32) < (zg S16 a0 26 : Int32) then (some (0, S16)) else (some (1, S16)))) else (some (0, S8))))
theorem tX8_isNext (l : Launch) (D : va_G) (tc : Nat → ClassId) (b n : Nat) {S S' : zM} {a0 : Int32} {a1 : Int32} {r : Int32} (h : fX8_isNext n S a0 a1 = some (r, S')) : zMi l D tc b n yX8_isNext cX8_isNext 2 .boolean 1 [zr a0, zi a1] S S' r := by
  refine zMi_of zyX8_isNext (Nat.le_of_ble_eq_true rfl) (fun p e s m args below meth c H C hr hk ls hl I => ?_)
  have hl : zL b ls 2 [(0, zr a0), (1, zi a1)] := hl
  rw [fX8_isNext] at h
  refine z_aload_n C hl 0 rfl dX8_isNext_0 rfl ?_
  refine z_iload_n C hl 1 rfl dX8_isNext_1 rfl ?_
  obtain ⟨g1, h⟩ := zd_some h
  obtain ⟨r2, S3, h4, h⟩ := zcs h
  refine z_callVi C I (tX8_draw l D tc b n h4) zyX8_draw zyvX8_draw zc8 g1 zq_859 (st := []) rfl rfl (by decide) (by decide) hl.1 (Nat.le_of_ble_eq_true rfl) dX8_isNext_2 (fun H locs I => ?_)
  refine z_aload_n C hl 0 rfl dX8_isNext_5 rfl ?_
  refine z_get C I 8 28 zc8 g1 (by decide) zq_684 (v := zr (zg S3 a0 28)) rfl dX8_isNext_6 ?_
  refine z_aload_n C hl 0 rfl dX8_isNext_9 rfl ?_
  refine z_get C I 8 30 zc8 g1 (by decide) zq_686 (v := zi (zg S3 a0 30)) rfl dX8_isNext_10 ?_
  obtain ⟨g5, h⟩ := zd_some h
  refine z_iald C I g5 dX8_isNext_13 ?_
  refine z_icmp_ge C 70 dX8_isNext_14 (by decide) (fun c6 => ?_) (fun c6 => ?_)
  · have h := zit c6 h
    refine z_iconst C (v := 0) dX8_isNext_70 (by decide) ?_
    exact z_zret C I hr hk rfl h dX8_isNext_71
  · have h := zif c6 h
    refine z_aload_n C hl 0 rfl dX8_isNext_17 rfl ?_
    refine z_iload_n C hl 1 rfl dX8_isNext_18 rfl ?_
    obtain ⟨r7, S8, h9, h⟩ := zcs h
    refine z_callVi C I (tX8_runsOn l D tc b n h9) zyX8_runsOn zyvX8_runsOn zc8 g1 zq_851 (st := []) rfl rfl (by decide) (by decide) hl.1 (Nat.le_of_ble_eq_true rfl) dX8_isNext_19 (fun H locs I => ?_)
    refine z_aload_n C hl 0 rfl dX8_isNext_22 rfl ?_
    refine z_get C I 8 26 zc8 g1 (by decide) zq_682 (v := zi (zg S8 a0 26)) rfl dX8_isNext_23 ?_
    refine z_icmp_ge C 70 dX8_isNext_26 (by decide) (fun c10 => ?_) (fun c10 => ?_)
    · have h := zit c10 h
      refine z_iconst C (v := 0) dX8_isNext_70 (by decide) ?_
      exact z_zret C I hr hk rfl h dX8_isNext_71
    · have h := zif c10 h
      refine z_aload_n C hl 0 rfl dX8_isNext_29 rfl ?_
      refine z_get C I 8 35 zc8 g1 (by decide) zq_691 (v := zr (zg S8 a0 35)) rfl dX8_isNext_30 ?_
      refine z_iload_n C hl 1 rfl dX8_isNext_33 rfl ?_
      obtain ⟨g11, h⟩ := zd_some h
      refine z_zald C I g11 dX8_isNext_34 ?_
      refine z_if_ne C 70 dX8_isNext_35 (by decide) (fun c12 => ?_) (fun c12 => ?_)
      · have h := zif c12 h
        refine z_iconst C (v := 0) dX8_isNext_70 (by decide) ?_
        exact z_zret C I hr hk rfl h dX8_isNext_71
      · have h := zit c12 h
        refine z_aload_n C hl 0 rfl dX8_isNext_38 rfl ?_
        refine z_get C I 8 15 zc8 g1 (by decide) zq_671 (v := zr (zg S8 a0 15)) rfl dX8_isNext_39 ?_
        refine z_iload_n C hl 1 rfl dX8_isNext_42 rfl ?_
        obtain ⟨g13, h⟩ := zd_some h
        refine z_iald C I g13 dX8_isNext_43 ?_
        refine z_ldc C zq_829 dX8_isNext_44 ?_
        refine z_icmp_eq C 66 dX8_isNext_46 (by decide) (fun c14 => ?_) (fun c14 => ?_)
        · have h := zit c14 h
          refine z_iconst C (v := 1) dX8_isNext_66 (by decide) ?_
          refine z_goto C 71 dX8_isNext_67 (by decide) ?_
          exact z_zret C I hr hk rfl h dX8_isNext_71
        · have h := zif c14 h
          refine z_aload_n C hl 0 rfl dX8_isNext_49 rfl ?_
          refine z_aload_n C hl 0 rfl dX8_isNext_50 rfl ?_
          refine z_get C I 8 15 zc8 g1 (by decide) zq_671 (v := zr (zg S8 a0 15)) rfl dX8_isNext_51 ?_
          refine z_iload_n C hl 1 rfl dX8_isNext_54 rfl ?_
          refine z_iald C I g13 dX8_isNext_55 ?_
          obtain ⟨r15, S16, h17, h⟩ := zcs h
          refine z_callVi C I (tX8_runsOn l D tc b n h17) zyX8_runsOn zyvX8_runsOn zc8 g1 zq_851 (st := []) rfl rfl (by decide) (by decide) hl.1 (Nat.le_of_ble_eq_true rfl) dX8_isNext_56 (fun H locs I => ?_)
          refine z_aload_n C hl 0 rfl dX8_isNext_59 rfl ?_
          refine z_get C I 8 26 zc8 g1 (by decide) zq_682 (v := zi (zg S16 a0 26)) rfl dX8_isNext_60 ?_
          refine z_icmp_lt C 70 dX8_isNext_63 (by decide) (fun c18 => ?_) (fun c18 => ?_)
          · have h := zit c18 h
            refine z_iconst C (v := 0) dX8_isNext_70 (by decide) ?_
            exact z_zret C I hr hk rfl h dX8_isNext_71
          · have h := zif c18 h
            refine z_iconst C (v := 1) dX8_isNext_66 (by decide) ?_
            refine z_goto C 71 dX8_isNext_67 (by decide) ?_
            exact z_zret C I hr hk rfl h dX8_isNext_71

def fX8_tick_207 (n : Nat) (k44 : zM → Int32 → Int32 → Int32 → Int32 → Option (Int32 × zM)) (S : zM) (x0 : Int32) (x2 : Int32) (x3 : Int32) (x4 : Int32) : Option (Int32 × zM) := zbd (x4 + 1) fun v1 => k44 S x0 x2 x3 v1
theorem bX8_tick_207 {p : Program} {l : Launch} {e : Env} {s : State} {m : MethodId} {args : Array Value} {below : List Frame} {meth : Method} {c : Code} {D : va_G} {tc : Nat → ClassId} {b n : Nat} {S' : zM} {r : Int32} (C : zC p m c cX8_tick 6 s args yX8_tick.cls D tc) (hr : meth.sig.returnType = some .int) (hk : meth.locks = false) {k44 : zM → Int32 → Int32 → Int32 → Int32 → Option (Int32 × zM)} (K44 : ∀ (S : zM) (x0 : Int32) (x2 : Int32) (x3 : Int32) (x4 : Int32) (H : Heap) (locs : List Loc) (ls : Array Slot), k44 S x0 x2 x3 x4 = some (r, S') → zI D tc b n S s H locs → zL b ls 6 [(0, zr x0), (2, zi x2), (3, zi x3), (4, zi x4)] → W p l e (zR 4) s m args below meth c H locs 0 0 (zQi D tc b n S' r below args s) (zG b m 44 ls [])) : ∀ (S : zM) (x0 : Int32) (x2 : Int32) (x3 : Int32) (x4 : Int32) (H : Heap) (locs : List Loc) (ls : Array Slot), fX8_tick_207 n k44 S x0 x2 x3 x4 = some (r, S') → zI D tc b n S s H locs → zL b ls 6 [(0, zr x0), (2, zi x2), (3, zi x3), (4, zi x4)] → W p l e (zR 4) s m args below meth c H locs 0 0 (zQi D tc b n S' r below args s) (zG b m 207 ls []) := by
  intro S x0 x2 x3 x4 H locs ls h I hl
  rw [fX8_tick_207] at h
  refine z_iinc C hl 3 (v := x4 + 1) rfl dX8_tick_207 rfl (by decide) (fun v1 => [(4, zi v1), (0, zr x0), (2, zi x2), (3, zi x3)]) (fun _ => rfl) (fun v1 e2 ls hl => ?_)
  have h := znb e2 h
  refine z_goto C 44 dX8_tick_210 (by decide) ?_
  exact K44 _ _ _ _ _ _ _ _ h I (zL_sub hl [1, 2, 3, 0] rfl)

def fX8_tick_203 (n : Nat) (k44 : zM → Int32 → Int32 → Int32 → Int32 → Option (Int32 × zM)) (S : zM) (x0 : Int32) (x2 : Int32) (x3 : Int32) (x4 : Int32) (y0 : Int32) (y1 : Int32) (y2 : Int32) : Option (Int32 × zM) := zd (zo n 18 y2) <| zbd (zp S y2 32 (y1 + y0)) fun S2 => fX8_tick_207 n k44 S2 x0 x2 x3 x4
theorem bX8_tick_203 {p : Program} {l : Launch} {e : Env} {s : State} {m : MethodId} {args : Array Value} {below : List Frame} {meth : Method} {c : Code} {D : va_G} {tc : Nat → ClassId} {b n : Nat} {S' : zM} {r : Int32} (C : zC p m c cX8_tick 6 s args yX8_tick.cls D tc) (hr : meth.sig.returnType = some .int) (hk : meth.locks = false) {k44 : zM → Int32 → Int32 → Int32 → Int32 → Option (Int32 × zM)} (K44 : ∀ (S : zM) (x0 : Int32) (x2 : Int32) (x3 : Int32) (x4 : Int32) (H : Heap) (locs : List Loc) (ls : Array Slot), k44 S x0 x2 x3 x4 = some (r, S') → zI D tc b n S s H locs → zL b ls 6 [(0, zr x0), (2, zi x2), (3, zi x3), (4, zi x4)] → W p l e (zR 4) s m args below meth c H locs 0 0 (zQi D tc b n S' r below args s) (zG b m 44 ls [])) : ∀ (S : zM) (x0 : Int32) (x2 : Int32) (x3 : Int32) (x4 : Int32) (y0 : Int32) (y1 : Int32) (y2 : Int32) (H : Heap) (locs : List Loc) (ls : Array Slot), fX8_tick_203 n k44 S x0 x2 x3 x4 y0 y1 y2 = some (r, S') → zI D tc b n S s H locs → zL b ls 6 [(0, zr x0), (2, zi x2), (3, zi x3), (4, zi x4)] → W p l e (zR 4) s m args below meth c H locs 0 0 (zQi D tc b n S' r below args s) (zG b m 203 ls [zi y0, zi y1, zr y2]) := by
  intro S x0 x2 x3 x4 y0 y1 y2 H locs ls h I hl
  rw [fX8_tick_203] at h
  refine z_iadd C dX8_tick_203 ?_
  obtain ⟨g1, h⟩ := zd_some h
  refine z_put C I 8 32 zc8 g1 (by decide) rfl zq_688 rfl (v := zi (y1 + y0)) rfl dX8_tick_204 (fun S2 e3 H locs I => ?_)
  have h := znb e3 h
  exact bX8_tick_207 C hr hk K44 _ _ _ _ _ _ _ _ h I (zL_sub hl [0, 1, 2, 3] rfl)

def fX8_tick_112 (n : Nat) (k44 : zM → Int32 → Int32 → Int32 → Int32 → Option (Int32 × zM)) (S : zM) (x0 : Int32) (x2 : Int32) (x3 : Int32) (x4 : Int32) (y0 : Int32) : Option (Int32 × zM) := zbd (y0) fun v1 => if (v1 : Int32) ≤ (x2 : Int32) then (zbd (x2 - v1) fun v4 => zd (zo n 18 x0) <| zbd (zp S x0 34 ((zg S x0 34) + v1)) fun S7 => zd (za n 1 (zg S7 x0 35) x4) <| zbd (zq S7 (zg S7 x0 35) x4 1) fun S10 => zbd (zp S10 x0 31 ((zg S10 x0 31) + 1)) fun S12 => zbd (x3 + 1) fun v14 => zca (fX8_actsOf n S12 x0 x4 (zg S12 x0 26)) fun r16 S17 => zca (fX8_go n S17 x0 x4 (zg S12 x0 26) r16 0) fun r19 S20 => zca (fX8_ends n S20 x0 x4 (zg S20 x0 26)) fun r22 S23 => if (r22 : Int32) = 0 then (fX8_tick_203 n k44 S23 x0 v4 v14 x4 1 (zg S20 x0 32) x0) else (fX8_tick_203 n k44 S23 x0 v4 v14 x4 0 (zg S20 x0 32) x0)) else (some (x3, S))
theorem bX8_tick_112 {p : Program} {l : Launch} {e : Env} {s : State} {m : MethodId} {args : Array Value} {below : List Frame} {meth : Method} {c : Code} {D : va_G} {tc : Nat → ClassId} {b n : Nat} {S' : zM} {r : Int32} (C : zC p m c cX8_tick 6 s args yX8_tick.cls D tc) (hr : meth.sig.returnType = some .int) (hk : meth.locks = false) {k44 : zM → Int32 → Int32 → Int32 → Int32 → Option (Int32 × zM)} (K44 : ∀ (S : zM) (x0 : Int32) (x2 : Int32) (x3 : Int32) (x4 : Int32) (H : Heap) (locs : List Loc) (ls : Array Slot), k44 S x0 x2 x3 x4 = some (r, S') → zI D tc b n S s H locs → zL b ls 6 [(0, zr x0), (2, zi x2), (3, zi x3), (4, zi x4)] → W p l e (zR 4) s m args below meth c H locs 0 0 (zQi D tc b n S' r below args s) (zG b m 44 ls [])) : ∀ (S : zM) (x0 : Int32) (x2 : Int32) (x3 : Int32) (x4 : Int32) (y0 : Int32) (H : Heap) (locs : List Loc) (ls : Array Slot), fX8_tick_112 n k44 S x0 x2 x3 x4 y0 = some (r, S') → zI D tc b n S s H locs → zL b ls 6 [(0, zr x0), (2, zi x2), (3, zi x3), (4, zi x4)] → W p l e (zR 4) s m args below meth c H locs 0 0 (zQi D tc b n S' r below args s) (zG b m 112 ls [zi y0]) := by
  intro S x0 x2 x3 x4 y0 H locs ls h I hl
  rw [fX8_tick_112] at h
  refine z_istore C hl dX8_tick_112 (by decide) (fun v1 => [(5, zi v1), (0, zr x0), (2, zi x2), (3, zi x3), (4, zi x4)]) (fun _ => rfl) (fun v1 e2 ls hl => ?_)
  have h := znb e2 h
  refine z_iload C hl 0 rfl dX8_tick_114 ?_
  refine z_iload_n C hl 2 rfl dX8_tick_116 rfl ?_
  refine z_icmp_le C 122 dX8_tick_117 (by decide) (fun c3 => ?_) (fun c3 => ?_)
  · have h := zit c3 h
    refine z_iload_n C hl 2 rfl dX8_tick_122 rfl ?_
    refine z_iload C hl 0 rfl dX8_tick_123 ?_
    refine z_isub C dX8_tick_125 ?_
    refine z_istore_n C hl dX8_tick_126 rfl (by decide) (fun v4 => [(2, zi v4), (5, zi v1), (0, zr x0), (3, zi x3), (4, zi x4)]) (fun _ => rfl) (fun v4 e5 ls hl => ?_)
    have h := znb e5 h
    refine z_aload_n C hl 2 rfl dX8_tick_127 rfl ?_
    refine z_dup C dX8_tick_128 rfl ?_
    obtain ⟨g6, h⟩ := zd_some h
    refine z_get C I 8 34 zc8 g6 (by decide) zq_690 (v := zi (zg S x0 34)) rfl dX8_tick_129 ?_
    refine z_iload C hl 1 rfl dX8_tick_132 ?_
    refine z_iadd C dX8_tick_134 ?_
    refine z_put C I 8 34 zc8 g6 (by decide) rfl zq_690 rfl (v := zi ((zg S x0 34) + v1)) rfl dX8_tick_135 (fun S7 e8 H locs I => ?_)
    have h := znb e8 h
    refine z_aload_n C hl 2 rfl dX8_tick_138 rfl ?_
    refine z_get C I 8 35 zc8 g6 (by decide) zq_691 (v := zr (zg S7 x0 35)) rfl dX8_tick_139 ?_
    refine z_iload C hl 4 rfl dX8_tick_142 ?_
    refine z_iconst C (v := 1) dX8_tick_144 (by decide) ?_
    obtain ⟨g9, h⟩ := zd_some h
    refine z_zast C I g9 rfl dX8_tick_145 (fun S10 e11 H locs I => ?_)
    have h := znb e11 h
    refine z_aload_n C hl 2 rfl dX8_tick_146 rfl ?_
    refine z_dup C dX8_tick_147 rfl ?_
    refine z_get C I 8 31 zc8 g6 (by decide) zq_687 (v := zi (zg S10 x0 31)) rfl dX8_tick_148 ?_
    refine z_iconst C (v := 1) dX8_tick_151 (by decide) ?_
    refine z_iadd C dX8_tick_152 ?_
    refine z_put C I 8 31 zc8 g6 (by decide) rfl zq_687 rfl (v := zi ((zg S10 x0 31) + 1)) rfl dX8_tick_153 (fun S12 e13 H locs I => ?_)
    have h := znb e13 h
    refine z_iinc C hl 3 (v := x3 + 1) rfl dX8_tick_156 rfl (by decide) (fun v14 => [(3, zi v14), (2, zi v4), (5, zi v1), (0, zr x0), (4, zi x4)]) (fun _ => rfl) (fun v14 e15 ls hl => ?_)
    have h := znb e15 h
    refine z_aload_n C hl 3 rfl dX8_tick_159 rfl ?_
    refine z_iload C hl 4 rfl dX8_tick_160 ?_
    refine z_aload_n C hl 3 rfl dX8_tick_162 rfl ?_
    refine z_get C I 8 26 zc8 g6 (by decide) zq_682 (v := zi (zg S12 x0 26)) rfl dX8_tick_163 ?_
    refine z_aload_n C hl 3 rfl dX8_tick_166 rfl ?_
    refine z_iload C hl 4 rfl dX8_tick_167 ?_
    refine z_aload_n C hl 3 rfl dX8_tick_169 rfl ?_
    refine z_get C I 8 26 zc8 g6 (by decide) zq_682 (v := zi (zg S12 x0 26)) rfl dX8_tick_170 ?_
    obtain ⟨r16, S17, h18, h⟩ := zcs h
    refine z_callVi C I (tX8_actsOf l D tc b n h18) zyX8_actsOf zyvX8_actsOf zc8 g6 zq_873 (st := [zi (zg S12 x0 26), zi x4, zr x0]) rfl rfl (by decide) (by decide) hl.1 (Nat.le_of_ble_eq_true rfl) dX8_tick_173 (fun H locs I => ?_)
    refine z_iconst C (v := 0) dX8_tick_176 (by decide) ?_
    obtain ⟨r19, S20, h21, h⟩ := zcs h
    refine z_callVv C I (tX8_go l D tc b n h21) zyX8_go zyvX8_go zc8 g6 zq_877 (st := []) rfl rfl (by decide) (by decide) hl.1 (Nat.le_of_ble_eq_true rfl) dX8_tick_177 (fun H locs I => ?_)
    refine z_aload_n C hl 3 rfl dX8_tick_180 rfl ?_
    refine z_dup C dX8_tick_181 rfl ?_
    refine z_get C I 8 32 zc8 g6 (by decide) zq_688 (v := zi (zg S20 x0 32)) rfl dX8_tick_182 ?_
    refine z_aload_n C hl 3 rfl dX8_tick_185 rfl ?_
    refine z_iload C hl 4 rfl dX8_tick_186 ?_
    refine z_aload_n C hl 3 rfl dX8_tick_188 rfl ?_
    refine z_get C I 8 26 zc8 g6 (by decide) zq_682 (v := zi (zg S20 x0 26)) rfl dX8_tick_189 ?_
    obtain ⟨r22, S23, h24, h⟩ := zcs h
    refine z_callVi C I (tX8_ends l D tc b n h24) zyX8_ends zyvX8_ends zc8 g6 zq_889 (st := [zi (zg S20 x0 32), zr x0]) rfl rfl (by decide) (by decide) hl.1 (Nat.le_of_ble_eq_true rfl) dX8_tick_192 (fun H locs I => ?_)
    refine z_if_ne C 202 dX8_tick_195 (by decide) (fun c25 => ?_) (fun c25 => ?_)
    · have h := zif c25 h
      refine z_iconst C (v := 0) dX8_tick_202 (by decide) ?_
      exact bX8_tick_203 C hr hk K44 _ _ _ _ _ _ _ _ _ _ _ h I (zL_sub hl [3, 1, 0, 4] rfl)
    · have h := zit c25 h
      refine z_iconst C (v := 1) dX8_tick_198 (by decide) ?_
      refine z_goto C 203 dX8_tick_199 (by decide) ?_
      exact bX8_tick_203 C hr hk K44 _ _ _ _ _ _ _ _ _ _ _ h I (zL_sub hl [3, 1, 0, 4] rfl)
  · have h := zif c3 h
    refine z_iload_n C hl 3 rfl dX8_tick_120 rfl ?_
    exact z_iret C I hr hk h dX8_tick_121

def fX8_tick_44 (n : Nat) : Nat → zM → Int32 → Int32 → Int32 → Int32 → Option (Int32 × zM)
  | 0, _, _, _, _, _ => none
  | fu + 1, S, x0, x2, x3, x4 => zd (zo n 18 x0) <| if (zg S x0 13 : Int32) ≤ (x4 : Int32) then (if (x3 : Int32) ≤ 0 then (if (10 * (zg S x0 32) : Int32) ≤ ((zg S x0 29) * (zg S x0 31) : Int32) then (if ((zg S x0 30) + 1 : Int32) = (zg S x0 27 : Int32) then (zbd (zp S x0 33 2) fun S9 => some (0, S9)) else (zca (fX8_beginWave n S x0 ((zg S x0 30) + 1)) fun r6 S7 => some (0, S7))) else (zbd (zp S x0 33 1) fun S11 => some (0, S11))) else (some (x3, S))) else (zca (fX8_isNext n S x0 x4) fun r13 S14 => if (r13 : Int32) = 0 then (fX8_tick_207 n (fX8_tick_44 n fu) S14 x0 x2 x3 x4) else (zca (fX8_findWays n S14 x0 (zg S14 x0 26)) fun r17 S18 => zca (fX8_runsOn n S18 x0 x4) fun r20 S21 => zd (za n 0 (zg S18 x0 10) r20) <| if (ze S21 (zg S18 x0 10) r20 : Int32) = ((-1000000) : Int32) then (zd (za n 0 (zg S21 x0 6) (zg S21 x0 26)) <| fX8_tick_112 n (fX8_tick_44 n fu) S21 x0 x2 x3 x4 (100 * (ze S21 (zg S21 x0 6) (zg S21 x0 26)))) else (zca (fX8_runsOn n S21 x0 x4) fun r25 S26 => zd (za n 0 (zg S21 x0 10) r25) <| fX8_tick_112 n (fX8_tick_44 n fu) S26 x0 x2 x3 x4 (ze S26 (zg S21 x0 10) r25))))
theorem bX8_tick_44 {p : Program} {l : Launch} {e : Env} {s : State} {m : MethodId} {args : Array Value} {below : List Frame} {meth : Method} {c : Code} {D : va_G} {tc : Nat → ClassId} {b n : Nat} {S' : zM} {r : Int32} (C : zC p m c cX8_tick 6 s args yX8_tick.cls D tc) (hr : meth.sig.returnType = some .int) (hk : meth.locks = false) : ∀ (fu : Nat) (S : zM) (x0 : Int32) (x2 : Int32) (x3 : Int32) (x4 : Int32) (H : Heap) (locs : List Loc) (ls : Array Slot), fX8_tick_44 n fu S x0 x2 x3 x4 = some (r, S') → zI D tc b n S s H locs → zL b ls 6 [(0, zr x0), (2, zi x2), (3, zi x3), (4, zi x4)] → W p l e (zR 4) s m args below meth c H locs 0 0 (zQi D tc b n S' r below args s) (zG b m 44 ls []) := by
  intro fu
  induction fu with
  | zero => intro S x0 x2 x3 x4 H locs ls h _ _; rw [fX8_tick_44] at h; cases h
  | succ fu ih =>
    intro S x0 x2 x3 x4 H locs ls h I hl
    rw [fX8_tick_44] at h
    refine z_iload C hl 3 rfl dX8_tick_44 ?_
    refine z_aload_n C hl 0 rfl dX8_tick_46 rfl ?_
    obtain ⟨g1, h⟩ := zd_some h
    refine z_get C I 8 13 zc8 g1 (by decide) zq_669 (v := zi (zg S x0 13)) rfl dX8_tick_47 ?_
    refine z_icmp_ge C 213 dX8_tick_50 (by decide) (fun c2 => ?_) (fun c2 => ?_)
    · have h := zit c2 h
      refine z_iload_n C hl 2 rfl dX8_tick_213 rfl ?_
      refine z_if_le C 219 dX8_tick_214 (by decide) (fun c3 => ?_) (fun c3 => ?_)
      · have h := zit c3 h
        refine z_bipush C (v := 10) dX8_tick_219 (by decide) ?_
        refine z_aload_n C hl 0 rfl dX8_tick_221 rfl ?_
        refine z_get C I 8 32 zc8 g1 (by decide) zq_688 (v := zi (zg S x0 32)) rfl dX8_tick_222 ?_
        refine z_imul C dX8_tick_225 ?_
        refine z_aload_n C hl 0 rfl dX8_tick_226 rfl ?_
        refine z_get C I 8 29 zc8 g1 (by decide) zq_685 (v := zi (zg S x0 29)) rfl dX8_tick_227 ?_
        refine z_aload_n C hl 0 rfl dX8_tick_230 rfl ?_
        refine z_get C I 8 31 zc8 g1 (by decide) zq_687 (v := zi (zg S x0 31)) rfl dX8_tick_231 ?_
        refine z_imul C dX8_tick_234 ?_
        refine z_icmp_le C 246 dX8_tick_235 (by decide) (fun c4 => ?_) (fun c4 => ?_)
        · have h := zit c4 h
          refine z_aload_n C hl 0 rfl dX8_tick_246 rfl ?_
          refine z_get C I 8 30 zc8 g1 (by decide) zq_686 (v := zi (zg S x0 30)) rfl dX8_tick_247 ?_
          refine z_iconst C (v := 1) dX8_tick_250 (by decide) ?_
          refine z_iadd C dX8_tick_251 ?_
          refine z_aload_n C hl 0 rfl dX8_tick_252 rfl ?_
          refine z_get C I 8 27 zc8 g1 (by decide) zq_683 (v := zi (zg S x0 27)) rfl dX8_tick_253 ?_
          refine z_icmp_ne C 267 dX8_tick_256 (by decide) (fun c5 => ?_) (fun c5 => ?_)
          · have h := zif c5 h
            refine z_aload_n C hl 0 rfl dX8_tick_267 rfl ?_
            refine z_aload_n C hl 0 rfl dX8_tick_268 rfl ?_
            refine z_get C I 8 30 zc8 g1 (by decide) zq_686 (v := zi (zg S x0 30)) rfl dX8_tick_269 ?_
            refine z_iconst C (v := 1) dX8_tick_272 (by decide) ?_
            refine z_iadd C dX8_tick_273 ?_
            obtain ⟨r6, S7, h8, h⟩ := zcs h
            refine z_callVv C I (tX8_beginWave l D tc b n h8) zyX8_beginWave zyvX8_beginWave zc8 g1 zq_918 (st := []) rfl rfl (by decide) (by decide) hl.1 (Nat.le_of_ble_eq_true rfl) dX8_tick_274 (fun H locs I => ?_)
            refine z_iconst C (v := 0) dX8_tick_277 (by decide) ?_
            exact z_iret C I hr hk h dX8_tick_278
          · have h := zit c5 h
            refine z_aload_n C hl 0 rfl dX8_tick_259 rfl ?_
            refine z_iconst C (v := 2) dX8_tick_260 (by decide) ?_
            refine z_put C I 8 33 zc8 g1 (by decide) rfl zq_689 rfl (v := zi 2) rfl dX8_tick_261 (fun S9 e10 H locs I => ?_)
            have h := znb e10 h
            refine z_goto C 277 dX8_tick_264 (by decide) ?_
            refine z_iconst C (v := 0) dX8_tick_277 (by decide) ?_
            exact z_iret C I hr hk h dX8_tick_278
        · have h := zif c4 h
          refine z_aload_n C hl 0 rfl dX8_tick_238 rfl ?_
          refine z_iconst C (v := 1) dX8_tick_239 (by decide) ?_
          refine z_put C I 8 33 zc8 g1 (by decide) rfl zq_689 rfl (v := zi 1) rfl dX8_tick_240 (fun S11 e12 H locs I => ?_)
          have h := znb e12 h
          refine z_goto C 277 dX8_tick_243 (by decide) ?_
          refine z_iconst C (v := 0) dX8_tick_277 (by decide) ?_
          exact z_iret C I hr hk h dX8_tick_278
      · have h := zif c3 h
        refine z_iload_n C hl 2 rfl dX8_tick_217 rfl ?_
        exact z_iret C I hr hk h dX8_tick_218
    · have h := zif c2 h
      refine z_aload_n C hl 0 rfl dX8_tick_53 rfl ?_
      refine z_iload C hl 3 rfl dX8_tick_54 ?_
      obtain ⟨r13, S14, h15, h⟩ := zcs h
      refine z_callVi C I (tX8_isNext l D tc b n h15) zyX8_isNext zyvX8_isNext zc8 g1 zq_927 (st := []) rfl rfl (by decide) (by decide) hl.1 (Nat.le_of_ble_eq_true rfl) dX8_tick_56 (fun H locs I => ?_)
      refine z_if_eq C 207 dX8_tick_59 (by decide) (fun c16 => ?_) (fun c16 => ?_)
      · have h := zit c16 h
        exact bX8_tick_207 C hr hk ih _ _ _ _ _ _ _ _ h I (zL_sub hl [0, 1, 2, 3] rfl)
      · have h := zif c16 h
        refine z_aload_n C hl 0 rfl dX8_tick_62 rfl ?_
        refine z_aload_n C hl 0 rfl dX8_tick_63 rfl ?_
        refine z_get C I 8 26 zc8 g1 (by decide) zq_682 (v := zi (zg S14 x0 26)) rfl dX8_tick_64 ?_
        obtain ⟨r17, S18, h19, h⟩ := zcs h
        refine z_callVv C I (tX8_findWays l D tc b n h19) zyX8_findWays zyvX8_findWays zc8 g1 zq_825 (st := []) rfl rfl (by decide) (by decide) hl.1 (Nat.le_of_ble_eq_true rfl) dX8_tick_67 (fun H locs I => ?_)
        refine z_aload_n C hl 0 rfl dX8_tick_70 rfl ?_
        refine z_get C I 8 10 zc8 g1 (by decide) zq_666 (v := zr (zg S18 x0 10)) rfl dX8_tick_71 ?_
        refine z_aload_n C hl 0 rfl dX8_tick_74 rfl ?_
        refine z_iload C hl 3 rfl dX8_tick_75 ?_
        obtain ⟨r20, S21, h22, h⟩ := zcs h
        refine z_callVi C I (tX8_runsOn l D tc b n h22) zyX8_runsOn zyvX8_runsOn zc8 g1 zq_851 (st := [zr (zg S18 x0 10)]) rfl rfl (by decide) (by decide) hl.1 (Nat.le_of_ble_eq_true rfl) dX8_tick_77 (fun H locs I => ?_)
        obtain ⟨g23, h⟩ := zd_some h
        refine z_iald C I g23 dX8_tick_80 ?_
        refine z_ldc C zq_829 dX8_tick_81 ?_
        refine z_icmp_ne C 101 dX8_tick_83 (by decide) (fun c24 => ?_) (fun c24 => ?_)
        · have h := zif c24 h
          refine z_aload_n C hl 0 rfl dX8_tick_101 rfl ?_
          refine z_get C I 8 10 zc8 g1 (by decide) zq_666 (v := zr (zg S21 x0 10)) rfl dX8_tick_102 ?_
          refine z_aload_n C hl 0 rfl dX8_tick_105 rfl ?_
          refine z_iload C hl 3 rfl dX8_tick_106 ?_
          obtain ⟨r25, S26, h27, h⟩ := zcs h
          refine z_callVi C I (tX8_runsOn l D tc b n h27) zyX8_runsOn zyvX8_runsOn zc8 g1 zq_851 (st := [zr (zg S21 x0 10)]) rfl rfl (by decide) (by decide) hl.1 (Nat.le_of_ble_eq_true rfl) dX8_tick_108 (fun H locs I => ?_)
          obtain ⟨g28, h⟩ := zd_some h
          refine z_iald C I g28 dX8_tick_111 ?_
          exact bX8_tick_112 C hr hk ih _ _ _ _ _ _ _ _ _ h I (zL_sub hl [0, 1, 2, 3] rfl)
        · have h := zit c24 h
          refine z_bipush C (v := 100) dX8_tick_86 (by decide) ?_
          refine z_aload_n C hl 0 rfl dX8_tick_88 rfl ?_
          refine z_get C I 8 6 zc8 g1 (by decide) zq_662 (v := zr (zg S21 x0 6)) rfl dX8_tick_89 ?_
          refine z_aload_n C hl 0 rfl dX8_tick_92 rfl ?_
          refine z_get C I 8 26 zc8 g1 (by decide) zq_682 (v := zi (zg S21 x0 26)) rfl dX8_tick_93 ?_
          obtain ⟨g29, h⟩ := zd_some h
          refine z_iald C I g29 dX8_tick_96 ?_
          refine z_imul C dX8_tick_97 ?_
          refine z_goto C 112 dX8_tick_98 (by decide) ?_
          exact bX8_tick_112 C hr hk ih _ _ _ _ _ _ _ _ _ h I (zL_sub hl [0, 1, 2, 3] rfl)

def fX8_tick (n : Nat) (S : zM) (a0 : Int32) (a1 : Int32) : Option (Int32 × zM) := zd (zo n 18 a0) <| zbd (zp S a0 0 0) fun S2 => zca (fX8_in n S2 ((a1 : Int32).toInt64) 0 100000) fun r4 S5 => if (r4 : Int32) = 0 then (some ((-1000001), S5)) else (if (zg S5 a0 25 : Int32) = 0 then (some ((-1000002), S5)) else (if (zg S5 a0 33 : Int32) ≤ 0 then (zbd (a1) fun v10 => zbd (0) fun v12 => zbd (0) fun v14 => fX8_tick_44 n 1000 S5 a0 v10 v12 v14) else (some ((-1000002), S5))))
theorem tX8_tick (l : Launch) (D : va_G) (tc : Nat → ClassId) (b n : Nat) {S S' : zM} {a0 : Int32} {a1 : Int32} {r : Int32} (h : fX8_tick n S a0 a1 = some (r, S')) : zMi l D tc b n yX8_tick cX8_tick 6 .int 4 [zr a0, zi a1] S S' r := by
  refine zMi_of zyX8_tick (Nat.le_of_ble_eq_true rfl) (fun p e s m args below meth c H C hr hk ls hl I => ?_)
  have hl : zL b ls 6 [(0, zr a0), (1, zi a1)] := hl
  rw [fX8_tick] at h
  refine z_aload_n C hl 0 rfl dX8_tick_0 rfl ?_
  refine z_iconst C (v := 0) dX8_tick_1 (by decide) ?_
  obtain ⟨g1, h⟩ := zd_some h
  refine z_put C I 8 0 zc8 g1 (by decide) rfl zq_656 rfl (v := zi 0) rfl dX8_tick_2 (fun S2 e3 H locs I => ?_)
  have h := znb e3 h
  refine z_iload_n C hl 1 rfl dX8_tick_5 rfl ?_
  refine z_i2l C dX8_tick_6 ?_
  refine z_lconst C (v := 0) dX8_tick_7 (by decide) ?_
  refine z_ldc2 C zq_926 dX8_tick_8 ?_
  obtain ⟨r4, S5, h6, h⟩ := zcs h
  refine z_callSi C I (tX8_in l D tc b n h6) zyX8_in zq_780 zq_779 (st := []) rfl rfl (by decide) (by decide) hl.1 (Nat.le_of_ble_eq_true rfl) dX8_tick_11 (fun H locs I => ?_)
  refine z_if_ne C 20 dX8_tick_14 (by decide) (fun c7 => ?_) (fun c7 => ?_)
  · have h := zif c7 h
    refine z_aload_n C hl 0 rfl dX8_tick_20 rfl ?_
    refine z_get C I 8 25 zc8 g1 (by decide) zq_681 (v := zi (zg S5 a0 25)) rfl dX8_tick_21 ?_
    refine z_if_eq C 34 dX8_tick_24 (by decide) (fun c8 => ?_) (fun c8 => ?_)
    · have h := zit c8 h
      refine z_ldc C zq_846 dX8_tick_34 ?_
      exact z_iret C I hr hk h dX8_tick_36
    · have h := zif c8 h
      refine z_aload_n C hl 0 rfl dX8_tick_27 rfl ?_
      refine z_get C I 8 33 zc8 g1 (by decide) zq_689 (v := zi (zg S5 a0 33)) rfl dX8_tick_28 ?_
      refine z_if_le C 37 dX8_tick_31 (by decide) (fun c9 => ?_) (fun c9 => ?_)
      · have h := zit c9 h
        refine z_iload_n C hl 1 rfl dX8_tick_37 rfl ?_
        refine z_istore_n C hl dX8_tick_38 rfl (by decide) (fun v10 => [(2, zi v10), (0, zr a0), (1, zi a1)]) (fun _ => rfl) (fun v10 e11 ls hl => ?_)
        have h := znb e11 h
        refine z_iconst C (v := 0) dX8_tick_39 (by decide) ?_
        refine z_istore_n C hl dX8_tick_40 rfl (by decide) (fun v12 => [(3, zi v12), (2, zi v10), (0, zr a0), (1, zi a1)]) (fun _ => rfl) (fun v12 e13 ls hl => ?_)
        have h := znb e13 h
        refine z_iconst C (v := 0) dX8_tick_41 (by decide) ?_
        refine z_istore C hl dX8_tick_42 (by decide) (fun v14 => [(4, zi v14), (3, zi v12), (2, zi v10), (0, zr a0), (1, zi a1)]) (fun _ => rfl) (fun v14 e15 ls hl => ?_)
        have h := znb e15 h
        exact bX8_tick_44 C hr hk 1000 _ _ _ _ _ _ _ _ h I (zL_sub hl [3, 2, 1, 0] rfl)
      · have h := zif c9 h
        refine z_ldc C zq_846 dX8_tick_34 ?_
        exact z_iret C I hr hk h dX8_tick_36
  · have h := zit c7 h
    refine z_ldc C zq_783 dX8_tick_17 ?_
    exact z_iret C I hr hk h dX8_tick_19

def fX8_runs_65 (n : Nat) (k39 : zM → Int32 → Int32 → Int32 → Option (Int32 × zM)) (S : zM) (x0 : Int32) (x3 : Int32) (y0 : Int32) (y1 : Int32) : Option (Int32 × zM) := zbd (y1 + y0) fun v1 => zbd (x3 + 1) fun v3 => k39 S x0 v1 v3
theorem bX8_runs_65 {p : Program} {l : Launch} {e : Env} {s : State} {m : MethodId} {args : Array Value} {below : List Frame} {meth : Method} {c : Code} {D : va_G} {tc : Nat → ClassId} {b n : Nat} {S' : zM} {r : Int32} (C : zC p m c cX8_runs 4 s args yX8_runs.cls D tc) (hr : meth.sig.returnType = some .int) (hk : meth.locks = false) {k39 : zM → Int32 → Int32 → Int32 → Option (Int32 × zM)} (K39 : ∀ (S : zM) (x0 : Int32) (x2 : Int32) (x3 : Int32) (H : Heap) (locs : List Loc) (ls : Array Slot), k39 S x0 x2 x3 = some (r, S') → zI D tc b n S s H locs → zL b ls 4 [(0, zr x0), (2, zi x2), (3, zi x3)] → W p l e (zR 1) s m args below meth c H locs 0 0 (zQi D tc b n S' r below args s) (zG b m 39 ls [])) : ∀ (S : zM) (x0 : Int32) (x3 : Int32) (y0 : Int32) (y1 : Int32) (H : Heap) (locs : List Loc) (ls : Array Slot), fX8_runs_65 n k39 S x0 x3 y0 y1 = some (r, S') → zI D tc b n S s H locs → zL b ls 4 [(0, zr x0), (3, zi x3)] → W p l e (zR 1) s m args below meth c H locs 0 0 (zQi D tc b n S' r below args s) (zG b m 65 ls [zi y0, zi y1]) := by
  intro S x0 x3 y0 y1 H locs ls h I hl
  rw [fX8_runs_65] at h
  refine z_iadd C dX8_runs_65 ?_
  refine z_istore_n C hl dX8_runs_66 rfl (by decide) (fun v1 => [(2, zi v1), (0, zr x0), (3, zi x3)]) (fun _ => rfl) (fun v1 e2 ls hl => ?_)
  have h := znb e2 h
  refine z_iinc C hl 2 (v := x3 + 1) rfl dX8_runs_67 rfl (by decide) (fun v3 => [(3, zi v3), (2, zi v1), (0, zr x0)]) (fun _ => rfl) (fun v3 e4 ls hl => ?_)
  have h := znb e4 h
  refine z_goto C 39 dX8_runs_70 (by decide) ?_
  exact K39 _ _ _ _ _ _ _ h I (zL_sub hl [2, 1, 0] rfl)

def fX8_runs_39 (n : Nat) : Nat → zM → Int32 → Int32 → Int32 → Option (Int32 × zM)
  | 0, _, _, _, _ => none
  | fu + 1, S, x0, x2, x3 => zd (zo n 18 x0) <| if (zg S x0 13 : Int32) ≤ (x3 : Int32) then (some (x2, S)) else (zca (fX8_runsOn n S x0 x3) fun r3 S4 => if (r3 : Int32) < (zg S4 x0 26 : Int32) then (fX8_runs_65 n (fX8_runs_39 n fu) S4 x0 x3 0 x2) else (fX8_runs_65 n (fX8_runs_39 n fu) S4 x0 x3 1 x2))
theorem bX8_runs_39 {p : Program} {l : Launch} {e : Env} {s : State} {m : MethodId} {args : Array Value} {below : List Frame} {meth : Method} {c : Code} {D : va_G} {tc : Nat → ClassId} {b n : Nat} {S' : zM} {r : Int32} (C : zC p m c cX8_runs 4 s args yX8_runs.cls D tc) (hr : meth.sig.returnType = some .int) (hk : meth.locks = false) : ∀ (fu : Nat) (S : zM) (x0 : Int32) (x2 : Int32) (x3 : Int32) (H : Heap) (locs : List Loc) (ls : Array Slot), fX8_runs_39 n fu S x0 x2 x3 = some (r, S') → zI D tc b n S s H locs → zL b ls 4 [(0, zr x0), (2, zi x2), (3, zi x3)] → W p l e (zR 1) s m args below meth c H locs 0 0 (zQi D tc b n S' r below args s) (zG b m 39 ls []) := by
  intro fu
  induction fu with
  | zero => intro S x0 x2 x3 H locs ls h _ _; rw [fX8_runs_39] at h; cases h
  | succ fu ih =>
    intro S x0 x2 x3 H locs ls h I hl
    rw [fX8_runs_39] at h
    refine z_iload_n C hl 2 rfl dX8_runs_39 rfl ?_
    refine z_aload_n C hl 0 rfl dX8_runs_40 rfl ?_
    obtain ⟨g1, h⟩ := zd_some h
    refine z_get C I 8 13 zc8 g1 (by decide) zq_669 (v := zi (zg S x0 13)) rfl dX8_runs_41 ?_
    refine z_icmp_ge C 73 dX8_runs_44 (by decide) (fun c2 => ?_) (fun c2 => ?_)
    · have h := zit c2 h
      refine z_iload_n C hl 1 rfl dX8_runs_73 rfl ?_
      exact z_iret C I hr hk h dX8_runs_74
    · have h := zif c2 h
      refine z_iload_n C hl 1 rfl dX8_runs_47 rfl ?_
      refine z_aload_n C hl 0 rfl dX8_runs_48 rfl ?_
      refine z_iload_n C hl 2 rfl dX8_runs_49 rfl ?_
      obtain ⟨r3, S4, h5, h⟩ := zcs h
      refine z_callVi C I (tX8_runsOn l D tc b n h5) zyX8_runsOn zyvX8_runsOn zc8 g1 zq_851 (st := [zi x2]) rfl rfl (by decide) (by decide) hl.1 (Nat.le_of_ble_eq_true rfl) dX8_runs_50 (fun H locs I => ?_)
      refine z_aload_n C hl 0 rfl dX8_runs_53 rfl ?_
      refine z_get C I 8 26 zc8 g1 (by decide) zq_682 (v := zi (zg S4 x0 26)) rfl dX8_runs_54 ?_
      refine z_icmp_lt C 64 dX8_runs_57 (by decide) (fun c6 => ?_) (fun c6 => ?_)
      · have h := zit c6 h
        refine z_iconst C (v := 0) dX8_runs_64 (by decide) ?_
        exact bX8_runs_65 C hr hk ih _ _ _ _ _ _ _ _ h I (zL_sub hl [0, 2] rfl)
      · have h := zif c6 h
        refine z_iconst C (v := 1) dX8_runs_60 (by decide) ?_
        refine z_goto C 65 dX8_runs_61 (by decide) ?_
        exact bX8_runs_65 C hr hk ih _ _ _ _ _ _ _ _ h I (zL_sub hl [0, 2] rfl)

def fX8_runs (n : Nat) (S : zM) (a0 : Int32) (a1 : Int32) : Option (Int32 × zM) := zd (zo n 18 a0) <| zbd (zp S a0 0 0) fun S2 => zca (fX8_in n S2 ((a1 : Int32).toInt64) 0 5) fun r4 S5 => if (r4 : Int32) = 0 then (some ((-1000001), S5)) else (if (zg S5 a0 25 : Int32) = 0 then (some ((-1000002), S5)) else (if (a1 : Int32) = (5 : Int32) then (zbd (0) fun v14 => zbd (0) fun v16 => fX8_runs_39 n 1000 S5 a0 v14 v16) else (if (a1 : Int32) = 0 then (some (zg S5 a0 30, S5)) else (if (a1 : Int32) = (1 : Int32) then (some (zg S5 a0 31, S5)) else (if (a1 : Int32) = (2 : Int32) then (some (zg S5 a0 32, S5)) else (if (a1 : Int32) = (3 : Int32) then (some (zg S5 a0 33, S5)) else (some (zg S5 a0 34, S5))))))))
theorem tX8_runs (l : Launch) (D : va_G) (tc : Nat → ClassId) (b n : Nat) {S S' : zM} {a0 : Int32} {a1 : Int32} {r : Int32} (h : fX8_runs n S a0 a1 = some (r, S')) : zMi l D tc b n yX8_runs cX8_runs 4 .int 1 [zr a0, zi a1] S S' r := by
  refine zMi_of zyX8_runs (Nat.le_of_ble_eq_true rfl) (fun p e s m args below meth c H C hr hk ls hl I => ?_)
  have hl : zL b ls 4 [(0, zr a0), (1, zi a1)] := hl
  rw [fX8_runs] at h
  refine z_aload_n C hl 0 rfl dX8_runs_0 rfl ?_
  refine z_iconst C (v := 0) dX8_runs_1 (by decide) ?_
  obtain ⟨g1, h⟩ := zd_some h
  refine z_put C I 8 0 zc8 g1 (by decide) rfl zq_656 rfl (v := zi 0) rfl dX8_runs_2 (fun S2 e3 H locs I => ?_)
  have h := znb e3 h
  refine z_iload_n C hl 1 rfl dX8_runs_5 rfl ?_
  refine z_i2l C dX8_runs_6 ?_
  refine z_lconst C (v := 0) dX8_runs_7 (by decide) ?_
  refine z_ldc2 C zq_935 dX8_runs_8 ?_
  obtain ⟨r4, S5, h6, h⟩ := zcs h
  refine z_callSi C I (tX8_in l D tc b n h6) zyX8_in zq_780 zq_779 (st := []) rfl rfl (by decide) (by decide) hl.1 (Nat.le_of_ble_eq_true rfl) dX8_runs_11 (fun H locs I => ?_)
  refine z_if_ne C 20 dX8_runs_14 (by decide) (fun c7 => ?_) (fun c7 => ?_)
  · have h := zif c7 h
    refine z_aload_n C hl 0 rfl dX8_runs_20 rfl ?_
    refine z_get C I 8 25 zc8 g1 (by decide) zq_681 (v := zi (zg S5 a0 25)) rfl dX8_runs_21 ?_
    refine z_if_ne C 30 dX8_runs_24 (by decide) (fun c8 => ?_) (fun c8 => ?_)
    · have h := zif c8 h
      refine z_iload_n C hl 1 rfl dX8_runs_30 rfl ?_
      refine z_iconst C (v := 5) dX8_runs_31 (by decide) ?_
      refine z_icmp_ne C 75 dX8_runs_32 (by decide) (fun c9 => ?_) (fun c9 => ?_)
      · have h := zif c9 h
        refine z_iload_n C hl 1 rfl dX8_runs_75 rfl ?_
        refine z_if_ne C 86 dX8_runs_76 (by decide) (fun c10 => ?_) (fun c10 => ?_)
        · have h := zif c10 h
          refine z_iload_n C hl 1 rfl dX8_runs_86 rfl ?_
          refine z_iconst C (v := 1) dX8_runs_87 (by decide) ?_
          refine z_icmp_ne C 98 dX8_runs_88 (by decide) (fun c11 => ?_) (fun c11 => ?_)
          · have h := zif c11 h
            refine z_iload_n C hl 1 rfl dX8_runs_98 rfl ?_
            refine z_iconst C (v := 2) dX8_runs_99 (by decide) ?_
            refine z_icmp_ne C 110 dX8_runs_100 (by decide) (fun c12 => ?_) (fun c12 => ?_)
            · have h := zif c12 h
              refine z_iload_n C hl 1 rfl dX8_runs_110 rfl ?_
              refine z_iconst C (v := 3) dX8_runs_111 (by decide) ?_
              refine z_icmp_ne C 122 dX8_runs_112 (by decide) (fun c13 => ?_) (fun c13 => ?_)
              · have h := zif c13 h
                refine z_aload_n C hl 0 rfl dX8_runs_122 rfl ?_
                refine z_get C I 8 34 zc8 g1 (by decide) zq_690 (v := zi (zg S5 a0 34)) rfl dX8_runs_123 ?_
                exact z_iret C I hr hk h dX8_runs_126
              · have h := zit c13 h
                refine z_aload_n C hl 0 rfl dX8_runs_115 rfl ?_
                refine z_get C I 8 33 zc8 g1 (by decide) zq_689 (v := zi (zg S5 a0 33)) rfl dX8_runs_116 ?_
                refine z_goto C 126 dX8_runs_119 (by decide) ?_
                exact z_iret C I hr hk h dX8_runs_126
            · have h := zit c12 h
              refine z_aload_n C hl 0 rfl dX8_runs_103 rfl ?_
              refine z_get C I 8 32 zc8 g1 (by decide) zq_688 (v := zi (zg S5 a0 32)) rfl dX8_runs_104 ?_
              refine z_goto C 126 dX8_runs_107 (by decide) ?_
              exact z_iret C I hr hk h dX8_runs_126
          · have h := zit c11 h
            refine z_aload_n C hl 0 rfl dX8_runs_91 rfl ?_
            refine z_get C I 8 31 zc8 g1 (by decide) zq_687 (v := zi (zg S5 a0 31)) rfl dX8_runs_92 ?_
            refine z_goto C 126 dX8_runs_95 (by decide) ?_
            exact z_iret C I hr hk h dX8_runs_126
        · have h := zit c10 h
          refine z_aload_n C hl 0 rfl dX8_runs_79 rfl ?_
          refine z_get C I 8 30 zc8 g1 (by decide) zq_686 (v := zi (zg S5 a0 30)) rfl dX8_runs_80 ?_
          refine z_goto C 126 dX8_runs_83 (by decide) ?_
          exact z_iret C I hr hk h dX8_runs_126
      · have h := zit c9 h
        refine z_iconst C (v := 0) dX8_runs_35 (by decide) ?_
        refine z_istore_n C hl dX8_runs_36 rfl (by decide) (fun v14 => [(2, zi v14), (0, zr a0), (1, zi a1)]) (fun _ => rfl) (fun v14 e15 ls hl => ?_)
        have h := znb e15 h
        refine z_iconst C (v := 0) dX8_runs_37 (by decide) ?_
        refine z_istore_n C hl dX8_runs_38 rfl (by decide) (fun v16 => [(3, zi v16), (2, zi v14), (0, zr a0), (1, zi a1)]) (fun _ => rfl) (fun v16 e17 ls hl => ?_)
        have h := znb e17 h
        exact bX8_runs_39 C hr hk 1000 _ _ _ _ _ _ _ h I (zL_sub hl [2, 1, 0] rfl)
    · have h := zit c8 h
      refine z_ldc C zq_846 dX8_runs_27 ?_
      exact z_iret C I hr hk h dX8_runs_29
  · have h := zit c7 h
    refine z_ldc C zq_783 dX8_runs_17 ?_
    exact z_iret C I hr hk h dX8_runs_19

def fX8_power__5 (n : Nat) : Nat → zM → Int32 → Int32 → Int64 → Int32 → Option (Int64 × zM)
  | 0, _, _, _, _, _ => none
  | fu + 1, S, x0, x1, x2, x4 => if (x1 : Int32) ≤ (x4 : Int32) then (some (x2, S)) else (zbd (x2 * ((x0 : Int32).toInt64)) fun v2 => zbd (x4 + 1) fun v4 => fX8_power__5 n fu S x0 x1 v2 v4)
theorem bX8_power__5 {p : Program} {l : Launch} {e : Env} {s : State} {m : MethodId} {args : Array Value} {below : List Frame} {meth : Method} {c : Code} {D : va_G} {tc : Nat → ClassId} {b n : Nat} {S' : zM} {r : Int64} (C : zC p m c cX8_power_ 5 s args yX8_power_.cls D tc) (hr : meth.sig.returnType = some .long) (hk : meth.locks = false) : ∀ (fu : Nat) (S : zM) (x0 : Int32) (x1 : Int32) (x2 : Int64) (x4 : Int32) (H : Heap) (locs : List Loc) (ls : Array Slot), fX8_power__5 n fu S x0 x1 x2 x4 = some (r, S') → zI D tc b n S s H locs → zL b ls 5 [(0, zi x0), (1, zi x1), (2, zl x2), (4, zi x4)] → W p l e (zR 0) s m args below meth c H locs 0 0 (zQl D tc b n S' r below args s) (zG b m 5 ls []) := by
  intro fu
  induction fu with
  | zero => intro S x0 x1 x2 x4 H locs ls h _ _; rw [fX8_power__5] at h; cases h
  | succ fu ih =>
    intro S x0 x1 x2 x4 H locs ls h I hl
    rw [fX8_power__5] at h
    refine z_iload C hl 3 rfl dX8_power__5 ?_
    refine z_iload_n C hl 1 rfl dX8_power__7 rfl ?_
    refine z_icmp_ge C 22 dX8_power__8 (by decide) (fun c1 => ?_) (fun c1 => ?_)
    · have h := zit c1 h
      refine z_lload_n C hl 2 rfl dX8_power__22 rfl ?_
      exact z_lret C I hr hk h dX8_power__23
    · have h := zif c1 h
      refine z_lload_n C hl 2 rfl dX8_power__11 rfl ?_
      refine z_iload_n C hl 0 rfl dX8_power__12 rfl ?_
      refine z_i2l C dX8_power__13 ?_
      refine z_lmul C dX8_power__14 ?_
      refine z_lstore_n C hl dX8_power__15 rfl (by decide) (fun v2 => [(2, zl v2), (0, zi x0), (1, zi x1), (4, zi x4)]) (fun _ => rfl) (fun v2 e3 ls hl => ?_)
      have h := znb e3 h
      refine z_iinc C hl 3 (v := x4 + 1) rfl dX8_power__16 rfl (by decide) (fun v4 => [(4, zi v4), (2, zl v2), (0, zi x0), (1, zi x1)]) (fun _ => rfl) (fun v4 e5 ls hl => ?_)
      have h := znb e5 h
      refine z_goto C 5 dX8_power__19 (by decide) ?_
      exact ih _ _ _ _ _ _ _ _ h I (zL_sub hl [2, 3, 1, 0] rfl)

def fX8_power_ (n : Nat) (S : zM) (a0 : Int32) (a1 : Int32) : Option (Int64 × zM) := zbd (1) fun v1 => zbd (0) fun v3 => fX8_power__5 n 1000 S a0 a1 v1 v3
theorem tX8_power_ (l : Launch) (D : va_G) (tc : Nat → ClassId) (b n : Nat) {S S' : zM} {a0 : Int32} {a1 : Int32} {r : Int64} (h : fX8_power_ n S a0 a1 = some (r, S')) : zMl l D tc b n yX8_power_ cX8_power_ 5 .long 0 [zi a0, zi a1] S S' r := by
  refine zMl_of zyX8_power_ (Nat.le_of_ble_eq_true rfl) (fun p e s m args below meth c H C hr hk ls hl I => ?_)
  have hl : zL b ls 5 [(0, zi a0), (1, zi a1)] := hl
  rw [fX8_power_] at h
  refine z_lconst C (v := 1) dX8_power__0 (by decide) ?_
  refine z_lstore_n C hl dX8_power__1 rfl (by decide) (fun v1 => [(2, zl v1), (0, zi a0), (1, zi a1)]) (fun _ => rfl) (fun v1 e2 ls hl => ?_)
  have h := znb e2 h
  refine z_iconst C (v := 0) dX8_power__2 (by decide) ?_
  refine z_istore C hl dX8_power__3 (by decide) (fun v3 => [(4, zi v3), (2, zl v1), (0, zi a0), (1, zi a1)]) (fun _ => rfl) (fun v3 e4 ls hl => ?_)
  have h := znb e4 h
  exact bX8_power__5 C hr hk 1000 _ _ _ _ _ _ _ _ h I (zL_sub hl [2, 3, 1, 0] rfl)

def fX8_chance_98 (n : Nat) (k54 : zM → Int32 → Int32 → Int32 → Int64 → Int64 → Int32 → Option (Int64 × zM)) (S : zM) (x1 : Int32) (x2 : Int32) (x3 : Int32) (x6 : Int64) (x8 : Int32) (y0 : Int64) (y1 : Int64) : Option (Int64 × zM) := zbd (y1 + y0) fun v1 => zd (decide (¬ ((x8 + 1 : Int32).toInt64 : Int64) = 0)) <| zbd ((x6 * ((x1 - x8 : Int32).toInt64)) / ((x8 + 1 : Int32).toInt64)) fun v4 => zbd (x8 + 1) fun v6 => k54 S x1 x2 x3 v1 v4 v6
theorem bX8_chance_98 {p : Program} {l : Launch} {e : Env} {s : State} {m : MethodId} {args : Array Value} {below : List Frame} {meth : Method} {c : Code} {D : va_G} {tc : Nat → ClassId} {b n : Nat} {S' : zM} {r : Int64} (C : zC p m c cX8_chance 9 s args yX8_chance.cls D tc) (hr : meth.sig.returnType = some .long) (hk : meth.locks = false) {k54 : zM → Int32 → Int32 → Int32 → Int64 → Int64 → Int32 → Option (Int64 × zM)} (K54 : ∀ (S : zM) (x1 : Int32) (x2 : Int32) (x3 : Int32) (x4 : Int64) (x6 : Int64) (x8 : Int32) (H : Heap) (locs : List Loc) (ls : Array Slot), k54 S x1 x2 x3 x4 x6 x8 = some (r, S') → zI D tc b n S s H locs → zL b ls 9 [(1, zi x1), (2, zi x2), (3, zi x3), (4, zl x4), (6, zl x6), (8, zi x8)] → W p l e (zR 1) s m args below meth c H locs 0 0 (zQl D tc b n S' r below args s) (zG b m 54 ls [])) : ∀ (S : zM) (x1 : Int32) (x2 : Int32) (x3 : Int32) (x6 : Int64) (x8 : Int32) (y0 : Int64) (y1 : Int64) (H : Heap) (locs : List Loc) (ls : Array Slot), fX8_chance_98 n k54 S x1 x2 x3 x6 x8 y0 y1 = some (r, S') → zI D tc b n S s H locs → zL b ls 9 [(1, zi x1), (2, zi x2), (3, zi x3), (6, zl x6), (8, zi x8)] → W p l e (zR 1) s m args below meth c H locs 0 0 (zQl D tc b n S' r below args s) (zG b m 98 ls [zl y0, zl y1]) := by
  intro S x1 x2 x3 x6 x8 y0 y1 H locs ls h I hl
  rw [fX8_chance_98] at h
  refine z_ladd C dX8_chance_98 ?_
  refine z_lstore C hl dX8_chance_99 (by decide) (fun v1 => [(4, zl v1), (1, zi x1), (2, zi x2), (3, zi x3), (6, zl x6), (8, zi x8)]) (fun _ => rfl) (fun v1 e2 ls hl => ?_)
  have h := znb e2 h
  refine z_lload C hl 4 rfl dX8_chance_101 ?_
  refine z_iload_n C hl 1 rfl dX8_chance_103 rfl ?_
  refine z_iload C hl 5 rfl dX8_chance_104 ?_
  refine z_isub C dX8_chance_106 ?_
  refine z_i2l C dX8_chance_107 ?_
  refine z_lmul C dX8_chance_108 ?_
  refine z_iload C hl 5 rfl dX8_chance_109 ?_
  refine z_iconst C (v := 1) dX8_chance_111 (by decide) ?_
  refine z_iadd C dX8_chance_112 ?_
  refine z_i2l C dX8_chance_113 ?_
  obtain ⟨g3, h⟩ := zd_some h
  refine z_ldiv C g3 dX8_chance_114 ?_
  refine z_lstore C hl dX8_chance_115 (by decide) (fun v4 => [(6, zl v4), (4, zl v1), (1, zi x1), (2, zi x2), (3, zi x3), (8, zi x8)]) (fun _ => rfl) (fun v4 e5 ls hl => ?_)
  have h := znb e5 h
  refine z_iinc C hl 5 (v := x8 + 1) rfl dX8_chance_117 rfl (by decide) (fun v6 => [(8, zi v6), (6, zl v4), (4, zl v1), (1, zi x1), (2, zi x2), (3, zi x3)]) (fun _ => rfl) (fun v6 e7 ls hl => ?_)
  have h := znb e7 h
  refine z_goto C 54 dX8_chance_120 (by decide) ?_
  exact K54 _ _ _ _ _ _ _ _ _ _ h I (zL_sub hl [3, 4, 5, 2, 1, 0] rfl)

def fX8_chance_54 (n : Nat) : Nat → zM → Int32 → Int32 → Int32 → Int64 → Int64 → Int32 → Option (Int64 × zM)
  | 0, _, _, _, _, _, _, _ => none
  | fu + 1, S, x1, x2, x3, x4, x6, x8 => if (x1 : Int32) < (x8 : Int32) then (some (x4, S)) else (if (10 * x8 : Int32) ≤ (x3 * x1 : Int32) then (zca (fX8_power_ n S x2 x8) fun r3 S4 => zca (fX8_power_ n S4 (10 - x2) (x1 - x8)) fun r6 S7 => fX8_chance_98 n (fX8_chance_54 n fu) S7 x1 x2 x3 x6 x8 ((x6 * r3) * r6) x4) else (fX8_chance_98 n (fX8_chance_54 n fu) S x1 x2 x3 x6 x8 0 x4))
theorem bX8_chance_54 {p : Program} {l : Launch} {e : Env} {s : State} {m : MethodId} {args : Array Value} {below : List Frame} {meth : Method} {c : Code} {D : va_G} {tc : Nat → ClassId} {b n : Nat} {S' : zM} {r : Int64} (C : zC p m c cX8_chance 9 s args yX8_chance.cls D tc) (hr : meth.sig.returnType = some .long) (hk : meth.locks = false) : ∀ (fu : Nat) (S : zM) (x1 : Int32) (x2 : Int32) (x3 : Int32) (x4 : Int64) (x6 : Int64) (x8 : Int32) (H : Heap) (locs : List Loc) (ls : Array Slot), fX8_chance_54 n fu S x1 x2 x3 x4 x6 x8 = some (r, S') → zI D tc b n S s H locs → zL b ls 9 [(1, zi x1), (2, zi x2), (3, zi x3), (4, zl x4), (6, zl x6), (8, zi x8)] → W p l e (zR 1) s m args below meth c H locs 0 0 (zQl D tc b n S' r below args s) (zG b m 54 ls []) := by
  intro fu
  induction fu with
  | zero => intro S x1 x2 x3 x4 x6 x8 H locs ls h _ _; rw [fX8_chance_54] at h; cases h
  | succ fu ih =>
    intro S x1 x2 x3 x4 x6 x8 H locs ls h I hl
    rw [fX8_chance_54] at h
    refine z_iload C hl 5 rfl dX8_chance_54 ?_
    refine z_iload_n C hl 0 rfl dX8_chance_56 rfl ?_
    refine z_icmp_gt C 123 dX8_chance_57 (by decide) (fun c1 => ?_) (fun c1 => ?_)
    · have h := zit c1 h
      refine z_lload C hl 3 rfl dX8_chance_123 ?_
      exact z_lret C I hr hk h dX8_chance_125
    · have h := zif c1 h
      refine z_lload C hl 3 rfl dX8_chance_60 ?_
      refine z_bipush C (v := 10) dX8_chance_62 (by decide) ?_
      refine z_iload C hl 5 rfl dX8_chance_64 ?_
      refine z_imul C dX8_chance_66 ?_
      refine z_iload_n C hl 2 rfl dX8_chance_67 rfl ?_
      refine z_iload_n C hl 0 rfl dX8_chance_68 rfl ?_
      refine z_imul C dX8_chance_69 ?_
      refine z_icmp_le C 77 dX8_chance_70 (by decide) (fun c2 => ?_) (fun c2 => ?_)
      · have h := zit c2 h
        refine z_lload C hl 4 rfl dX8_chance_77 ?_
        refine z_iload_n C hl 1 rfl dX8_chance_79 rfl ?_
        refine z_iload C hl 5 rfl dX8_chance_80 ?_
        obtain ⟨r3, S4, h5, h⟩ := zcs h
        refine z_callSl C I (tX8_power_ l D tc b n h5) zyX8_power_ zq_943 zq_942 (st := [zl x6, zl x4]) rfl rfl (by decide) (by decide) hl.1 (Nat.le_of_ble_eq_true rfl) dX8_chance_82 (fun H locs I => ?_)
        refine z_lmul C dX8_chance_85 ?_
        refine z_bipush C (v := 10) dX8_chance_86 (by decide) ?_
        refine z_iload_n C hl 1 rfl dX8_chance_88 rfl ?_
        refine z_isub C dX8_chance_89 ?_
        refine z_iload_n C hl 0 rfl dX8_chance_90 rfl ?_
        refine z_iload C hl 5 rfl dX8_chance_91 ?_
        refine z_isub C dX8_chance_93 ?_
        obtain ⟨r6, S7, h8, h⟩ := zcs h
        refine z_callSl C I (tX8_power_ l D tc b n h8) zyX8_power_ zq_943 zq_942 (st := [zl (x6 * r3), zl x4]) rfl rfl (by decide) (by decide) hl.1 (Nat.le_of_ble_eq_true rfl) dX8_chance_94 (fun H locs I => ?_)
        refine z_lmul C dX8_chance_97 ?_
        exact bX8_chance_98 C hr hk ih _ _ _ _ _ _ _ _ _ _ _ h I (zL_sub hl [0, 1, 2, 4, 5] rfl)
      · have h := zif c2 h
        refine z_lconst C (v := 0) dX8_chance_73 (by decide) ?_
        refine z_goto C 98 dX8_chance_74 (by decide) ?_
        exact bX8_chance_98 C hr hk ih _ _ _ _ _ _ _ _ _ _ _ h I (zL_sub hl [0, 1, 2, 4, 5] rfl)

def fX8_chance (n : Nat) (S : zM) (a0 : Int32) (a1 : Int32) (a2 : Int32) (a3 : Int32) : Option (Int64 × zM) := zd (zo n 18 a0) <| zbd (zp S a0 0 0) fun S2 => zca (fX8_in n S2 ((a1 : Int32).toInt64) 1 12) fun r4 S5 => if (r4 : Int32) = 0 then (some ((-1000001), S5)) else (zca (fX8_in n S5 ((a2 : Int32).toInt64) 0 10) fun r8 S9 => if (r8 : Int32) = 0 then (some ((-1000001), S9)) else (zca (fX8_in n S9 ((a3 : Int32).toInt64) 0 10) fun r12 S13 => if (r12 : Int32) = 0 then (some ((-1000001), S13)) else (zbd (0) fun v16 => zbd (1) fun v18 => zbd (0) fun v20 => fX8_chance_54 n 1000 S13 a1 a2 a3 v16 v18 v20)))
theorem tX8_chance (l : Launch) (D : va_G) (tc : Nat → ClassId) (b n : Nat) {S S' : zM} {a0 : Int32} {a1 : Int32} {a2 : Int32} {a3 : Int32} {r : Int64} (h : fX8_chance n S a0 a1 a2 a3 = some (r, S')) : zMl l D tc b n yX8_chance cX8_chance 9 .long 1 [zr a0, zi a1, zi a2, zi a3] S S' r := by
  refine zMl_of zyX8_chance (Nat.le_of_ble_eq_true rfl) (fun p e s m args below meth c H C hr hk ls hl I => ?_)
  have hl : zL b ls 9 [(0, zr a0), (1, zi a1), (2, zi a2), (3, zi a3)] := hl
  rw [fX8_chance] at h
  refine z_aload_n C hl 0 rfl dX8_chance_0 rfl ?_
  refine z_iconst C (v := 0) dX8_chance_1 (by decide) ?_
  obtain ⟨g1, h⟩ := zd_some h
  refine z_put C I 8 0 zc8 g1 (by decide) rfl zq_656 rfl (v := zi 0) rfl dX8_chance_2 (fun S2 e3 H locs I => ?_)
  have h := znb e3 h
  refine z_iload_n C hl 1 rfl dX8_chance_5 rfl ?_
  refine z_i2l C dX8_chance_6 ?_
  refine z_lconst C (v := 1) dX8_chance_7 (by decide) ?_
  refine z_ldc2 C zq_940 dX8_chance_8 ?_
  obtain ⟨r4, S5, h6, h⟩ := zcs h
  refine z_callSi C I (tX8_in l D tc b n h6) zyX8_in zq_780 zq_779 (st := []) rfl rfl (by decide) (by decide) hl.1 (Nat.le_of_ble_eq_true rfl) dX8_chance_11 (fun H locs I => ?_)
  refine z_if_eq C 41 dX8_chance_14 (by decide) (fun c7 => ?_) (fun c7 => ?_)
  · have h := zit c7 h
    refine z_ldc2 C zq_941 dX8_chance_41 ?_
    exact z_lret C I hr hk h dX8_chance_44
  · have h := zif c7 h
    refine z_iload_n C hl 2 rfl dX8_chance_17 rfl ?_
    refine z_i2l C dX8_chance_18 ?_
    refine z_lconst C (v := 0) dX8_chance_19 (by decide) ?_
    refine z_ldc2 C zq_916 dX8_chance_20 ?_
    obtain ⟨r8, S9, h10, h⟩ := zcs h
    refine z_callSi C I (tX8_in l D tc b n h10) zyX8_in zq_780 zq_779 (st := []) rfl rfl (by decide) (by decide) hl.1 (Nat.le_of_ble_eq_true rfl) dX8_chance_23 (fun H locs I => ?_)
    refine z_if_eq C 41 dX8_chance_26 (by decide) (fun c11 => ?_) (fun c11 => ?_)
    · have h := zit c11 h
      refine z_ldc2 C zq_941 dX8_chance_41 ?_
      exact z_lret C I hr hk h dX8_chance_44
    · have h := zif c11 h
      refine z_iload_n C hl 3 rfl dX8_chance_29 rfl ?_
      refine z_i2l C dX8_chance_30 ?_
      refine z_lconst C (v := 0) dX8_chance_31 (by decide) ?_
      refine z_ldc2 C zq_916 dX8_chance_32 ?_
      obtain ⟨r12, S13, h14, h⟩ := zcs h
      refine z_callSi C I (tX8_in l D tc b n h14) zyX8_in zq_780 zq_779 (st := []) rfl rfl (by decide) (by decide) hl.1 (Nat.le_of_ble_eq_true rfl) dX8_chance_35 (fun H locs I => ?_)
      refine z_if_ne C 45 dX8_chance_38 (by decide) (fun c15 => ?_) (fun c15 => ?_)
      · have h := zif c15 h
        refine z_lconst C (v := 0) dX8_chance_45 (by decide) ?_
        refine z_lstore C hl dX8_chance_46 (by decide) (fun v16 => [(4, zl v16), (0, zr a0), (1, zi a1), (2, zi a2), (3, zi a3)]) (fun _ => rfl) (fun v16 e17 ls hl => ?_)
        have h := znb e17 h
        refine z_lconst C (v := 1) dX8_chance_48 (by decide) ?_
        refine z_lstore C hl dX8_chance_49 (by decide) (fun v18 => [(6, zl v18), (4, zl v16), (0, zr a0), (1, zi a1), (2, zi a2), (3, zi a3)]) (fun _ => rfl) (fun v18 e19 ls hl => ?_)
        have h := znb e19 h
        refine z_iconst C (v := 0) dX8_chance_51 (by decide) ?_
        refine z_istore C hl dX8_chance_52 (by decide) (fun v20 => [(8, zi v20), (6, zl v18), (4, zl v16), (0, zr a0), (1, zi a1), (2, zi a2), (3, zi a3)]) (fun _ => rfl) (fun v20 e21 ls hl => ?_)
        have h := znb e21 h
        exact bX8_chance_54 C hr hk 1000 _ _ _ _ _ _ _ _ _ _ h I (zL_sub hl [4, 5, 6, 2, 1, 0] rfl)
      · have h := zit c15 h
        refine z_ldc2 C zq_941 dX8_chance_41 ?_
        exact z_lret C I hr hk h dX8_chance_44

def fX8_kindOf_19 (n : Nat) (S : zM) (x0 : Int32) (x1 : Int32) (y0 : Int32) : Option (Int32 × zM) := zbd (y0) fun v1 => if (v1 : Int32) = 0 then (zd (zo n 18 x0) <| zd (za n 0 (zg S x0 23) x1) <| if (ze S (zg S x0 23) x1 : Int32) < (2 : Int32) then (some (0, S)) else (some (3, S))) else (zd (zo n 18 x0) <| zd (za n 0 (zg S x0 22) x1) <| if (ze S (zg S x0 22) x1 : Int32) = 0 then (some (2, S)) else (some (1, S)))
theorem bX8_kindOf_19 {p : Program} {l : Launch} {e : Env} {s : State} {m : MethodId} {args : Array Value} {below : List Frame} {meth : Method} {c : Code} {D : va_G} {tc : Nat → ClassId} {b n : Nat} {S' : zM} {r : Int32} (C : zC p m c cX8_kindOf 3 s args yX8_kindOf.cls D tc) (hr : meth.sig.returnType = some .int) (hk : meth.locks = false) : ∀ (S : zM) (x0 : Int32) (x1 : Int32) (y0 : Int32) (H : Heap) (locs : List Loc) (ls : Array Slot), fX8_kindOf_19 n S x0 x1 y0 = some (r, S') → zI D tc b n S s H locs → zL b ls 3 [(0, zr x0), (1, zi x1)] → W p l e (zR 1) s m args below meth c H locs 0 0 (zQi D tc b n S' r below args s) (zG b m 19 ls [zi y0]) := by
  intro S x0 x1 y0 H locs ls h I hl
  rw [fX8_kindOf_19] at h
  refine z_istore_n C hl dX8_kindOf_19 rfl (by decide) (fun v1 => [(2, zi v1), (0, zr x0), (1, zi x1)]) (fun _ => rfl) (fun v1 e2 ls hl => ?_)
  have h := znb e2 h
  refine z_iload_n C hl 0 rfl dX8_kindOf_20 rfl ?_
  refine z_if_eq C 41 dX8_kindOf_21 (by decide) (fun c3 => ?_) (fun c3 => ?_)
  · have h := zit c3 h
    refine z_aload_n C hl 1 rfl dX8_kindOf_41 rfl ?_
    obtain ⟨g4, h⟩ := zd_some h
    refine z_get C I 8 23 zc8 g4 (by decide) zq_679 (v := zr (zg S x0 23)) rfl dX8_kindOf_42 ?_
    refine z_iload_n C hl 2 rfl dX8_kindOf_45 rfl ?_
    obtain ⟨g5, h⟩ := zd_some h
    refine z_iald C I g5 dX8_kindOf_46 ?_
    refine z_iconst C (v := 2) dX8_kindOf_47 (by decide) ?_
    refine z_icmp_lt C 55 dX8_kindOf_48 (by decide) (fun c6 => ?_) (fun c6 => ?_)
    · have h := zit c6 h
      refine z_iconst C (v := 0) dX8_kindOf_55 (by decide) ?_
      exact z_iret C I hr hk h dX8_kindOf_56
    · have h := zif c6 h
      refine z_iconst C (v := 3) dX8_kindOf_51 (by decide) ?_
      refine z_goto C 56 dX8_kindOf_52 (by decide) ?_
      exact z_iret C I hr hk h dX8_kindOf_56
  · have h := zif c3 h
    refine z_aload_n C hl 1 rfl dX8_kindOf_24 rfl ?_
    obtain ⟨g7, h⟩ := zd_some h
    refine z_get C I 8 22 zc8 g7 (by decide) zq_678 (v := zr (zg S x0 22)) rfl dX8_kindOf_25 ?_
    refine z_iload_n C hl 2 rfl dX8_kindOf_28 rfl ?_
    obtain ⟨g8, h⟩ := zd_some h
    refine z_iald C I g8 dX8_kindOf_29 ?_
    refine z_if_ne C 37 dX8_kindOf_30 (by decide) (fun c9 => ?_) (fun c9 => ?_)
    · have h := zif c9 h
      refine z_iconst C (v := 1) dX8_kindOf_37 (by decide) ?_
      refine z_goto C 56 dX8_kindOf_38 (by decide) ?_
      exact z_iret C I hr hk h dX8_kindOf_56
    · have h := zit c9 h
      refine z_iconst C (v := 2) dX8_kindOf_33 (by decide) ?_
      refine z_goto C 56 dX8_kindOf_34 (by decide) ?_
      exact z_iret C I hr hk h dX8_kindOf_56

def fX8_kindOf (n : Nat) (S : zM) (a0 : Int32) (a1 : Int32) : Option (Int32 × zM) := zd (zo n 18 a0) <| zca (fX8_runsOn n S a0 a1) fun r2 S3 => if (r2 : Int32) = ((zg S3 a0 5) - 1 : Int32) then (fX8_kindOf_19 n S3 a0 a1 1) else (fX8_kindOf_19 n S3 a0 a1 0)
theorem tX8_kindOf (l : Launch) (D : va_G) (tc : Nat → ClassId) (b n : Nat) {S S' : zM} {a0 : Int32} {a1 : Int32} {r : Int32} (h : fX8_kindOf n S a0 a1 = some (r, S')) : zMi l D tc b n yX8_kindOf cX8_kindOf 3 .int 1 [zr a0, zi a1] S S' r := by
  refine zMi_of zyX8_kindOf (Nat.le_of_ble_eq_true rfl) (fun p e s m args below meth c H C hr hk ls hl I => ?_)
  have hl : zL b ls 3 [(0, zr a0), (1, zi a1)] := hl
  rw [fX8_kindOf] at h
  refine z_aload_n C hl 0 rfl dX8_kindOf_0 rfl ?_
  refine z_iload_n C hl 1 rfl dX8_kindOf_1 rfl ?_
  obtain ⟨g1, h⟩ := zd_some h
  obtain ⟨r2, S3, h4, h⟩ := zcs h
  refine z_callVi C I (tX8_runsOn l D tc b n h4) zyX8_runsOn zyvX8_runsOn zc8 g1 zq_851 (st := []) rfl rfl (by decide) (by decide) hl.1 (Nat.le_of_ble_eq_true rfl) dX8_kindOf_2 (fun H locs I => ?_)
  refine z_aload_n C hl 0 rfl dX8_kindOf_5 rfl ?_
  refine z_get C I 8 5 zc8 g1 (by decide) zq_661 (v := zi (zg S3 a0 5)) rfl dX8_kindOf_6 ?_
  refine z_iconst C (v := 1) dX8_kindOf_9 (by decide) ?_
  refine z_isub C dX8_kindOf_10 ?_
  refine z_icmp_ne C 18 dX8_kindOf_11 (by decide) (fun c5 => ?_) (fun c5 => ?_)
  · have h := zif c5 h
    refine z_iconst C (v := 0) dX8_kindOf_18 (by decide) ?_
    exact bX8_kindOf_19 C hr hk _ _ _ _ _ _ _ h I (zL_sub hl [0, 1] rfl)
  · have h := zit c5 h
    refine z_iconst C (v := 1) dX8_kindOf_14 (by decide) ?_
    refine z_goto C 19 dX8_kindOf_15 (by decide) ?_
    exact bX8_kindOf_19 C hr hk _ _ _ _ _ _ _ h I (zL_sub hl [0, 1] rfl)

def fX8_kind (n : Nat) (S : zM) (a0 : Int32) (a1 : Int32) : Option (Int32 × zM) := zd (zo n 18 a0) <| zbd (zp S a0 0 0) fun S2 => zca (fX8_isDevice n S2 a0 a1) fun r4 S5 => if (r4 : Int32) = 0 then (some ((-1000001), S5)) else (zca (fX8_kindOf n S5 a0 a1) fun r8 S9 => some (r8, S9))
theorem tX8_kind (l : Launch) (D : va_G) (tc : Nat → ClassId) (b n : Nat) {S S' : zM} {a0 : Int32} {a1 : Int32} {r : Int32} (h : fX8_kind n S a0 a1 = some (r, S')) : zMi l D tc b n yX8_kind cX8_kind 2 .int 2 [zr a0, zi a1] S S' r := by
  refine zMi_of zyX8_kind (Nat.le_of_ble_eq_true rfl) (fun p e s m args below meth c H C hr hk ls hl I => ?_)
  have hl : zL b ls 2 [(0, zr a0), (1, zi a1)] := hl
  rw [fX8_kind] at h
  refine z_aload_n C hl 0 rfl dX8_kind_0 rfl ?_
  refine z_iconst C (v := 0) dX8_kind_1 (by decide) ?_
  obtain ⟨g1, h⟩ := zd_some h
  refine z_put C I 8 0 zc8 g1 (by decide) rfl zq_656 rfl (v := zi 0) rfl dX8_kind_2 (fun S2 e3 H locs I => ?_)
  have h := znb e3 h
  refine z_aload_n C hl 0 rfl dX8_kind_5 rfl ?_
  refine z_iload_n C hl 1 rfl dX8_kind_6 rfl ?_
  obtain ⟨r4, S5, h6, h⟩ := zcs h
  refine z_callVi C I (tX8_isDevice l D tc b n h6) zyX8_isDevice zyvX8_isDevice zc8 g1 zq_838 (st := []) rfl rfl (by decide) (by decide) hl.1 (Nat.le_of_ble_eq_true rfl) dX8_kind_7 (fun H locs I => ?_)
  refine z_if_eq C 21 dX8_kind_10 (by decide) (fun c7 => ?_) (fun c7 => ?_)
  · have h := zit c7 h
    refine z_ldc C zq_783 dX8_kind_21 ?_
    exact z_iret C I hr hk h dX8_kind_23
  · have h := zif c7 h
    refine z_aload_n C hl 0 rfl dX8_kind_13 rfl ?_
    refine z_iload_n C hl 1 rfl dX8_kind_14 rfl ?_
    obtain ⟨r8, S9, h10, h⟩ := zcs h
    refine z_callVi C I (tX8_kindOf l D tc b n h10) zyX8_kindOf zyvX8_kindOf zc8 g1 zq_949 (st := []) rfl rfl (by decide) (by decide) hl.1 (Nat.le_of_ble_eq_true rfl) dX8_kind_15 (fun H locs I => ?_)
    refine z_goto C 23 dX8_kind_18 (by decide) ?_
    exact z_iret C I hr hk h dX8_kind_23

def fX8_as_58 (n : Nat) (S : zM) (x0 : Int32) (x1 : Int32) : Option (Int32 × zM) := zd (zo n 18 x0) <| zd (za n 0 (zg S x0 14) x1) <| some (ze S (zg S x0 14) x1, S)
theorem bX8_as_58 {p : Program} {l : Launch} {e : Env} {s : State} {m : MethodId} {args : Array Value} {below : List Frame} {meth : Method} {c : Code} {D : va_G} {tc : Nat → ClassId} {b n : Nat} {S' : zM} {r : Int32} (C : zC p m c cX8_as 4 s args yX8_as.cls D tc) (hr : meth.sig.returnType = some .int) (hk : meth.locks = false) : ∀ (S : zM) (x0 : Int32) (x1 : Int32) (H : Heap) (locs : List Loc) (ls : Array Slot), fX8_as_58 n S x0 x1 = some (r, S') → zI D tc b n S s H locs → zL b ls 4 [(0, zr x0), (1, zi x1)] → W p l e (zR 2) s m args below meth c H locs 0 0 (zQi D tc b n S' r below args s) (zG b m 58 ls []) := by
  intro S x0 x1 H locs ls h I hl
  rw [fX8_as_58] at h
  refine z_aload_n C hl 0 rfl dX8_as_58 rfl ?_
  obtain ⟨g1, h⟩ := zd_some h
  refine z_get C I 8 14 zc8 g1 (by decide) zq_670 (v := zr (zg S x0 14)) rfl dX8_as_59 ?_
  refine z_iload_n C hl 1 rfl dX8_as_62 rfl ?_
  obtain ⟨g2, h⟩ := zd_some h
  refine z_iald C I g2 dX8_as_63 ?_
  refine z_goto C 72 dX8_as_64 (by decide) ?_
  exact z_iret C I hr hk h dX8_as_72

def fX8_as_67 (n : Nat) (S : zM) (x0 : Int32) : Option (Int32 × zM) := zd (zo n 18 x0) <| zca (fX8_found n S x0 3) fun r2 S3 => some (r2, S3)
theorem bX8_as_67 {p : Program} {l : Launch} {e : Env} {s : State} {m : MethodId} {args : Array Value} {below : List Frame} {meth : Method} {c : Code} {D : va_G} {tc : Nat → ClassId} {b n : Nat} {S' : zM} {r : Int32} (C : zC p m c cX8_as 4 s args yX8_as.cls D tc) (hr : meth.sig.returnType = some .int) (hk : meth.locks = false) : ∀ (S : zM) (x0 : Int32) (H : Heap) (locs : List Loc) (ls : Array Slot), fX8_as_67 n S x0 = some (r, S') → zI D tc b n S s H locs → zL b ls 4 [(0, zr x0)] → W p l e (zR 2) s m args below meth c H locs 0 0 (zQi D tc b n S' r below args s) (zG b m 67 ls []) := by
  intro S x0 H locs ls h I hl
  rw [fX8_as_67] at h
  refine z_aload_n C hl 0 rfl dX8_as_67 rfl ?_
  refine z_iconst C (v := 3) dX8_as_68 (by decide) ?_
  obtain ⟨g1, h⟩ := zd_some h
  obtain ⟨r2, S3, h4, h⟩ := zcs h
  refine z_callVi C I (tX8_found l D tc b n h4) zyX8_found zyvX8_found zc8 g1 zq_784 (st := []) rfl rfl (by decide) (by decide) hl.1 (Nat.le_of_ble_eq_true rfl) dX8_as_69 (fun H locs I => ?_)
  exact z_iret C I hr hk h dX8_as_72

def fX8_as (n : Nat) (S : zM) (a0 : Int32) (a1 : Int32) (a2 : Int32) : Option (Int32 × zM) := zd (zo n 18 a0) <| zbd (zp S a0 0 0) fun S2 => zca (fX8_isDevice n S2 a0 a1) fun r4 S5 => if (r4 : Int32) = 0 then (some ((-1000001), S5)) else (zca (fX8_in n S5 ((a2 : Int32).toInt64) 0 3) fun r8 S9 => if (r8 : Int32) = 0 then (some ((-1000001), S9)) else (zbd (zp S9 a0 1 0) fun S12 => zca (fX8_kindOf n S12 a0 a1) fun r14 S15 => zbd (r14) fun v17 => if (a2 : Int32) = 0 then (fX8_as_58 n S15 a0 a1) else (if (v17 : Int32) = (a2 : Int32) then (fX8_as_58 n S15 a0 a1) else (if (a2 : Int32) = (1 : Int32) then (if (v17 : Int32) = (2 : Int32) then (fX8_as_58 n S15 a0 a1) else (fX8_as_67 n S15 a0)) else (fX8_as_67 n S15 a0)))))
theorem tX8_as (l : Launch) (D : va_G) (tc : Nat → ClassId) (b n : Nat) {S S' : zM} {a0 : Int32} {a1 : Int32} {a2 : Int32} {r : Int32} (h : fX8_as n S a0 a1 a2 = some (r, S')) : zMi l D tc b n yX8_as cX8_as 4 .int 2 [zr a0, zi a1, zi a2] S S' r := by
  refine zMi_of zyX8_as (Nat.le_of_ble_eq_true rfl) (fun p e s m args below meth c H C hr hk ls hl I => ?_)
  have hl : zL b ls 4 [(0, zr a0), (1, zi a1), (2, zi a2)] := hl
  rw [fX8_as] at h
  refine z_aload_n C hl 0 rfl dX8_as_0 rfl ?_
  refine z_iconst C (v := 0) dX8_as_1 (by decide) ?_
  obtain ⟨g1, h⟩ := zd_some h
  refine z_put C I 8 0 zc8 g1 (by decide) rfl zq_656 rfl (v := zi 0) rfl dX8_as_2 (fun S2 e3 H locs I => ?_)
  have h := znb e3 h
  refine z_aload_n C hl 0 rfl dX8_as_5 rfl ?_
  refine z_iload_n C hl 1 rfl dX8_as_6 rfl ?_
  obtain ⟨r4, S5, h6, h⟩ := zcs h
  refine z_callVi C I (tX8_isDevice l D tc b n h6) zyX8_isDevice zyvX8_isDevice zc8 g1 zq_838 (st := []) rfl rfl (by decide) (by decide) hl.1 (Nat.le_of_ble_eq_true rfl) dX8_as_7 (fun H locs I => ?_)
  refine z_if_eq C 25 dX8_as_10 (by decide) (fun c7 => ?_) (fun c7 => ?_)
  · have h := zit c7 h
    refine z_ldc C zq_783 dX8_as_25 ?_
    exact z_iret C I hr hk h dX8_as_27
  · have h := zif c7 h
    refine z_iload_n C hl 2 rfl dX8_as_13 rfl ?_
    refine z_i2l C dX8_as_14 ?_
    refine z_lconst C (v := 0) dX8_as_15 (by decide) ?_
    refine z_ldc2 C zq_906 dX8_as_16 ?_
    obtain ⟨r8, S9, h10, h⟩ := zcs h
    refine z_callSi C I (tX8_in l D tc b n h10) zyX8_in zq_780 zq_779 (st := []) rfl rfl (by decide) (by decide) hl.1 (Nat.le_of_ble_eq_true rfl) dX8_as_19 (fun H locs I => ?_)
    refine z_if_ne C 28 dX8_as_22 (by decide) (fun c11 => ?_) (fun c11 => ?_)
    · have h := zif c11 h
      refine z_aload_n C hl 0 rfl dX8_as_28 rfl ?_
      refine z_iconst C (v := 0) dX8_as_29 (by decide) ?_
      refine z_put C I 8 1 zc8 g1 (by decide) rfl zq_657 rfl (v := zi 0) rfl dX8_as_30 (fun S12 e13 H locs I => ?_)
      have h := znb e13 h
      refine z_aload_n C hl 0 rfl dX8_as_33 rfl ?_
      refine z_iload_n C hl 1 rfl dX8_as_34 rfl ?_
      obtain ⟨r14, S15, h16, h⟩ := zcs h
      refine z_callVi C I (tX8_kindOf l D tc b n h16) zyX8_kindOf zyvX8_kindOf zc8 g1 zq_949 (st := []) rfl rfl (by decide) (by decide) hl.1 (Nat.le_of_ble_eq_true rfl) dX8_as_35 (fun H locs I => ?_)
      refine z_istore_n C hl dX8_as_38 rfl (by decide) (fun v17 => [(3, zi v17), (0, zr a0), (1, zi a1), (2, zi a2)]) (fun _ => rfl) (fun v17 e18 ls hl => ?_)
      have h := znb e18 h
      refine z_iload_n C hl 3 rfl dX8_as_39 rfl ?_
      refine z_if_eq C 58 dX8_as_40 (by decide) (fun c19 => ?_) (fun c19 => ?_)
      · have h := zit c19 h
        exact bX8_as_58 C hr hk _ _ _ _ _ _ h I (zL_sub hl [1, 2] rfl)
      · have h := zif c19 h
        refine z_iload_n C hl 0 rfl dX8_as_43 rfl ?_
        refine z_iload_n C hl 3 rfl dX8_as_44 rfl ?_
        refine z_icmp_eq C 58 dX8_as_45 (by decide) (fun c20 => ?_) (fun c20 => ?_)
        · have h := zit c20 h
          exact bX8_as_58 C hr hk _ _ _ _ _ _ h I (zL_sub hl [1, 2] rfl)
        · have h := zif c20 h
          refine z_iload_n C hl 3 rfl dX8_as_48 rfl ?_
          refine z_iconst C (v := 1) dX8_as_49 (by decide) ?_
          refine z_icmp_ne C 67 dX8_as_50 (by decide) (fun c21 => ?_) (fun c21 => ?_)
          · have h := zif c21 h
            exact bX8_as_67 C hr hk _ _ _ _ _ h I (zL_sub hl [1] rfl)
          · have h := zit c21 h
            refine z_iload_n C hl 0 rfl dX8_as_53 rfl ?_
            refine z_iconst C (v := 2) dX8_as_54 (by decide) ?_
            refine z_icmp_ne C 67 dX8_as_55 (by decide) (fun c22 => ?_) (fun c22 => ?_)
            · have h := zif c22 h
              exact bX8_as_67 C hr hk _ _ _ _ _ h I (zL_sub hl [1] rfl)
            · have h := zit c22 h
              exact bX8_as_58 C hr hk _ _ _ _ _ _ h I (zL_sub hl [1, 2] rfl)
    · have h := zit c11 h
      refine z_ldc C zq_783 dX8_as_25 ?_
      exact z_iret C I hr hk h dX8_as_27

