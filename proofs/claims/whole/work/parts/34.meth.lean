def fX7_isDue (n : Nat) (S : zM) (a0 : Int32) (a1 : Int32) : Option (Int32 × zM) := zd (zo n 17 a0) <| zd (zo n 11 (zg S a0 7)) <| zd (zo n 12 a1) <| zca (fX2_isAtLeastAt n S a1 (zg S (zg S a0 7) 0)) fun r4 S5 => if (r4 : Int32) = 0 then (zd (zo n 11 (zg S5 a0 7)) <| zd (za n 1 (zg S5 (zg S5 a0 7) 4) (zg S5 a1 0)) <| if (ze S5 (zg S5 (zg S5 a0 7) 4) (zg S5 a1 0) : Int32) = 0 then (zca (fX7_isMember n S5 a0 a1) fun r11 S12 => if (r11 : Int32) = 0 then (some (0, S12)) else (if (zg S12 a1 2 : Int32) < 0 then (some (1, S12)) else (zd (zo n 11 (zg S12 a0 7)) <| zd (zo n 12 (zg S12 a1 2)) <| zca (fX2_isAtLeastAt n S12 (zg S12 a1 2) (zg S12 (zg S12 a0 7) 0)) fun r18 S19 => if (r18 : Int32) = 0 then (some (0, S19)) else (some (1, S19))))) else (some (0, S5))) else (some (0, S5))
theorem tX7_isDue (l : Launch) (D : va_G) (tc : Nat → ClassId) (b n : Nat) {S S' : zM} {a0 : Int32} {a1 : Int32} {r : Int32} (h : fX7_isDue n S a0 a1 = some (r, S')) : zMi l D tc b n yX7_isDue cX7_isDue 2 .boolean 2 [zr a0, zr a1] S S' r := by
  refine zMi_of zyX7_isDue (Nat.le_of_ble_eq_true rfl) (fun p e s m args below meth c H C hr hk ls hl I => ?_)
  have hl : zL b ls 2 [(0, zr a0), (1, zr a1)] := hl
  rw [fX7_isDue] at h
  refine z_aload_n C hl 1 rfl dX7_isDue_0 rfl ?_
  refine z_aload_n C hl 0 rfl dX7_isDue_1 rfl ?_
  obtain ⟨g1, h⟩ := zd_some h
  refine z_get C I 7 7 zc7 g1 (by decide) zq_235 (v := zr (zg S a0 7)) rfl dX7_isDue_2 ?_
  obtain ⟨g2, h⟩ := zd_some h
  refine z_get C I 1 0 zc1 g2 (by decide) zq_128 (v := zr (zg S (zg S a0 7) 0)) rfl dX7_isDue_5 ?_
  obtain ⟨g3, h⟩ := zd_some h
  obtain ⟨r4, S5, h6, h⟩ := zcs h
  refine z_callVi C I (tX2_isAtLeastAt l D tc b n h6) zyX2_isAtLeastAt zyvX2_isAtLeastAt zc2 g3 zq_515 (st := []) rfl rfl (by decide) (by decide) hl.1 (Nat.le_of_ble_eq_true rfl) dX7_isDue_8 (fun H locs I => ?_)
  refine z_if_ne C 37 dX7_isDue_11 (by decide) (fun c7 => ?_) (fun c7 => ?_)
  · have h := zif c7 h
    refine z_iconst C (v := 0) dX7_isDue_37 (by decide) ?_
    exact z_zret C I hr hk rfl h dX7_isDue_38
  · have h := zit c7 h
    refine z_aload_n C hl 0 rfl dX7_isDue_14 rfl ?_
    refine z_get C I 7 7 zc7 g1 (by decide) zq_235 (v := zr (zg S5 a0 7)) rfl dX7_isDue_15 ?_
    obtain ⟨g8, h⟩ := zd_some h
    refine z_get C I 1 4 zc1 g8 (by decide) zq_133 (v := zr (zg S5 (zg S5 a0 7) 4)) rfl dX7_isDue_18 ?_
    refine z_aload_n C hl 1 rfl dX7_isDue_21 rfl ?_
    refine z_get C I 2 0 zc2 g3 (by decide) zq_76 (v := zi (zg S5 a1 0)) rfl dX7_isDue_22 ?_
    obtain ⟨g9, h⟩ := zd_some h
    refine z_zald C I g9 dX7_isDue_25 ?_
    refine z_if_ne C 37 dX7_isDue_26 (by decide) (fun c10 => ?_) (fun c10 => ?_)
    · have h := zif c10 h
      refine z_iconst C (v := 0) dX7_isDue_37 (by decide) ?_
      exact z_zret C I hr hk rfl h dX7_isDue_38
    · have h := zit c10 h
      refine z_aload_n C hl 0 rfl dX7_isDue_29 rfl ?_
      refine z_aload_n C hl 1 rfl dX7_isDue_30 rfl ?_
      obtain ⟨r11, S12, h13, h⟩ := zcs h
      refine z_callVi C I (tX7_isMember l D tc b n h13) zyX7_isMember zyvX7_isMember zc7 g1 zq_494 (st := []) rfl rfl (by decide) (by decide) hl.1 (Nat.le_of_ble_eq_true rfl) dX7_isDue_31 (fun H locs I => ?_)
      refine z_if_ne C 39 dX7_isDue_34 (by decide) (fun c14 => ?_) (fun c14 => ?_)
      · have h := zif c14 h
        refine z_aload_n C hl 1 rfl dX7_isDue_39 rfl ?_
        refine z_get C I 2 2 zc2 g3 (by decide) zq_81 (v := zr (zg S12 a1 2)) rfl dX7_isDue_40 ?_
        refine z_ifnull C 63 dX7_isDue_43 (by decide) (fun c15 => ?_) (fun c15 => ?_)
        · have h := zit c15 h
          refine z_iconst C (v := 1) dX7_isDue_63 (by decide) ?_
          refine z_goto C 68 dX7_isDue_64 (by decide) ?_
          exact z_zret C I hr hk rfl h dX7_isDue_68
        · have h := zif c15 h
          refine z_aload_n C hl 1 rfl dX7_isDue_46 rfl ?_
          refine z_get C I 2 2 zc2 g3 (by decide) zq_81 (v := zr (zg S12 a1 2)) rfl dX7_isDue_47 ?_
          refine z_aload_n C hl 0 rfl dX7_isDue_50 rfl ?_
          refine z_get C I 7 7 zc7 g1 (by decide) zq_235 (v := zr (zg S12 a0 7)) rfl dX7_isDue_51 ?_
          obtain ⟨g16, h⟩ := zd_some h
          refine z_get C I 1 0 zc1 g16 (by decide) zq_128 (v := zr (zg S12 (zg S12 a0 7) 0)) rfl dX7_isDue_54 ?_
          obtain ⟨g17, h⟩ := zd_some h
          obtain ⟨r18, S19, h20, h⟩ := zcs h
          refine z_callVi C I (tX2_isAtLeastAt l D tc b n h20) zyX2_isAtLeastAt zyvX2_isAtLeastAt zc2 g17 zq_515 (st := []) rfl rfl (by decide) (by decide) hl.1 (Nat.le_of_ble_eq_true rfl) dX7_isDue_57 (fun H locs I => ?_)
          refine z_if_eq C 67 dX7_isDue_60 (by decide) (fun c21 => ?_) (fun c21 => ?_)
          · have h := zit c21 h
            refine z_iconst C (v := 0) dX7_isDue_67 (by decide) ?_
            exact z_zret C I hr hk rfl h dX7_isDue_68
          · have h := zif c21 h
            refine z_iconst C (v := 1) dX7_isDue_63 (by decide) ?_
            refine z_goto C 68 dX7_isDue_64 (by decide) ?_
            exact z_zret C I hr hk rfl h dX7_isDue_68
      · have h := zit c14 h
        refine z_iconst C (v := 0) dX7_isDue_37 (by decide) ?_
        exact z_zret C I hr hk rfl h dX7_isDue_38

def fX7_bytesTo (n : Nat) (S : zM) (a0 : Int32) (a1 : Int32) (a2 : Int32) : Option (Int32 × zM) := zd (zo n 12 a1) <| zd (zo n 14 (zg S a1 3)) <| zca (fX4_versionNumber n S (zg S a1 3)) fun r3 S4 => zbd (r3) fun v6 => zd (zo n 16 a2) <| zd (zo n 17 a0) <| zca (fX7_isRise n S4 a0 v6 (zg S4 a2 0)) fun r10 S11 => if (r10 : Int32) = 0 then (some ((zg S11 a2 1) * 100, S11)) else (zd (zo n 15 (zg S11 a0 3)) <| zca (fX5_search n S11 (zg S11 a0 3) v6 (zg S11 a2 0)) fun r15 S16 => if (r15 : Int32) = 0 then (some ((zg S16 a2 1) * 100, S16)) else (zd (zo n 15 (zg S16 a0 3)) <| zd (za n 0 (zg S16 (zg S16 a0 3) 1) v6) <| some (ze S16 (zg S16 (zg S16 a0 3) 1) v6, S16)))
theorem tX7_bytesTo (l : Launch) (D : va_G) (tc : Nat → ClassId) (b n : Nat) {S S' : zM} {a0 : Int32} {a1 : Int32} {a2 : Int32} {r : Int32} (h : fX7_bytesTo n S a0 a1 a2 = some (r, S')) : zMi l D tc b n yX7_bytesTo cX7_bytesTo 4 .int 2 [zr a0, zr a1, zr a2] S S' r := by
  refine zMi_of zyX7_bytesTo (Nat.le_of_ble_eq_true rfl) (fun p e s m args below meth c H C hr hk ls hl I => ?_)
  have hl : zL b ls 4 [(0, zr a0), (1, zr a1), (2, zr a2)] := hl
  rw [fX7_bytesTo] at h
  refine z_aload_n C hl 1 rfl dX7_bytesTo_0 rfl ?_
  obtain ⟨g1, h⟩ := zd_some h
  refine z_get C I 2 3 zc2 g1 (by decide) zq_84 (v := zr (zg S a1 3)) rfl dX7_bytesTo_1 ?_
  obtain ⟨g2, h⟩ := zd_some h
  obtain ⟨r3, S4, h5, h⟩ := zcs h
  refine z_callVi C I (tX4_versionNumber l D tc b n h5) zyX4_versionNumber zyvX4_versionNumber zc4 g2 zq_382 (st := []) rfl rfl (by decide) (by decide) hl.1 (Nat.le_of_ble_eq_true rfl) dX7_bytesTo_4 (fun H locs I => ?_)
  refine z_istore_n C hl dX7_bytesTo_7 rfl (by decide) (fun v6 => [(3, zi v6), (0, zr a0), (1, zr a1), (2, zr a2)]) (fun _ => rfl) (fun v6 e7 ls hl => ?_)
  have h := znb e7 h
  refine z_aload_n C hl 1 rfl dX7_bytesTo_8 rfl ?_
  refine z_iload_n C hl 0 rfl dX7_bytesTo_9 rfl ?_
  refine z_aload_n C hl 3 rfl dX7_bytesTo_10 rfl ?_
  obtain ⟨g8, h⟩ := zd_some h
  refine z_get C I 6 0 zc6 g8 (by decide) zq_210 (v := zi (zg S4 a2 0)) rfl dX7_bytesTo_11 ?_
  obtain ⟨g9, h⟩ := zd_some h
  obtain ⟨r10, S11, h12, h⟩ := zcs h
  refine z_callVi C I (tX7_isRise l D tc b n h12) zyX7_isRise zyvX7_isRise zc7 g9 zq_323 (st := []) rfl rfl (by decide) (by decide) hl.1 (Nat.le_of_ble_eq_true rfl) dX7_bytesTo_14 (fun H locs I => ?_)
  refine z_if_eq C 45 dX7_bytesTo_17 (by decide) (fun c13 => ?_) (fun c13 => ?_)
  · have h := zit c13 h
    refine z_aload_n C hl 3 rfl dX7_bytesTo_45 rfl ?_
    refine z_get C I 6 1 zc6 g8 (by decide) zq_214 (v := zi (zg S11 a2 1)) rfl dX7_bytesTo_46 ?_
    refine z_bipush C (v := 100) dX7_bytesTo_49 (by decide) ?_
    refine z_imul C dX7_bytesTo_51 ?_
    exact z_iret C I hr hk h dX7_bytesTo_52
  · have h := zif c13 h
    refine z_aload_n C hl 1 rfl dX7_bytesTo_20 rfl ?_
    refine z_get C I 7 3 zc7 g9 (by decide) zq_231 (v := zr (zg S11 a0 3)) rfl dX7_bytesTo_21 ?_
    refine z_iload_n C hl 0 rfl dX7_bytesTo_24 rfl ?_
    refine z_aload_n C hl 3 rfl dX7_bytesTo_25 rfl ?_
    refine z_get C I 6 0 zc6 g8 (by decide) zq_210 (v := zi (zg S11 a2 0)) rfl dX7_bytesTo_26 ?_
    obtain ⟨g14, h⟩ := zd_some h
    obtain ⟨r15, S16, h17, h⟩ := zcs h
    refine z_callVi C I (tX5_search l D tc b n h17) zyX5_search zyvX5_search zc5 g14 zq_339 (st := []) rfl rfl (by decide) (by decide) hl.1 (Nat.le_of_ble_eq_true rfl) dX7_bytesTo_29 (fun H locs I => ?_)
    refine z_if_eq C 45 dX7_bytesTo_32 (by decide) (fun c18 => ?_) (fun c18 => ?_)
    · have h := zit c18 h
      refine z_aload_n C hl 3 rfl dX7_bytesTo_45 rfl ?_
      refine z_get C I 6 1 zc6 g8 (by decide) zq_214 (v := zi (zg S16 a2 1)) rfl dX7_bytesTo_46 ?_
      refine z_bipush C (v := 100) dX7_bytesTo_49 (by decide) ?_
      refine z_imul C dX7_bytesTo_51 ?_
      exact z_iret C I hr hk h dX7_bytesTo_52
    · have h := zif c18 h
      refine z_aload_n C hl 1 rfl dX7_bytesTo_35 rfl ?_
      refine z_get C I 7 3 zc7 g9 (by decide) zq_231 (v := zr (zg S16 a0 3)) rfl dX7_bytesTo_36 ?_
      obtain ⟨g19, h⟩ := zd_some h
      refine z_get C I 5 1 zc5 g19 (by decide) zq_34 (v := zr (zg S16 (zg S16 a0 3) 1)) rfl dX7_bytesTo_39 ?_
      refine z_iload_n C hl 0 rfl dX7_bytesTo_42 rfl ?_
      obtain ⟨g20, h⟩ := zd_some h
      refine z_iald C I g20 dX7_bytesTo_43 ?_
      exact z_iret C I hr hk h dX7_bytesTo_44

def fX7_tick_118 (n : Nat) (k33 : zM → Int32 → Int32 → Int32 → Int32 → Option (Int32 × zM)) (S : zM) (x0 : Int32) (x2 : Int32) (x3 : Int32) (x4 : Int32) : Option (Int32 × zM) := zbd (x4 + 1) fun v1 => k33 S x0 x2 x3 v1
theorem bX7_tick_118 {p : Program} {l : Launch} {e : Env} {s : State} {m : MethodId} {args : Array Value} {below : List Frame} {meth : Method} {c : Code} {D : va_G} {tc : Nat → ClassId} {b n : Nat} {S' : zM} {r : Int32} (C : zC p m c cX7_tick 7 s args yX7_tick.cls D tc) (hr : meth.sig.returnType = some .int) (hk : meth.locks = false) {k33 : zM → Int32 → Int32 → Int32 → Int32 → Option (Int32 × zM)} (K33 : ∀ (S : zM) (x0 : Int32) (x2 : Int32) (x3 : Int32) (x4 : Int32) (H : Heap) (locs : List Loc) (ls : Array Slot), k33 S x0 x2 x3 x4 = some (r, S') → zI D tc b n S s H locs → zL b ls 7 [(0, zr x0), (2, zi x2), (3, zi x3), (4, zi x4)] → W p l e (zR 6) s m args below meth c H locs 0 0 (zQi D tc b n S' r below args s) (zG b m 33 ls [])) : ∀ (S : zM) (x0 : Int32) (x2 : Int32) (x3 : Int32) (x4 : Int32) (H : Heap) (locs : List Loc) (ls : Array Slot), fX7_tick_118 n k33 S x0 x2 x3 x4 = some (r, S') → zI D tc b n S s H locs → zL b ls 7 [(0, zr x0), (2, zi x2), (3, zi x3), (4, zi x4)] → W p l e (zR 6) s m args below meth c H locs 0 0 (zQi D tc b n S' r below args s) (zG b m 118 ls []) := by
  intro S x0 x2 x3 x4 H locs ls h I hl
  rw [fX7_tick_118] at h
  refine z_iinc C hl 3 (v := x4 + 1) rfl dX7_tick_118 rfl (by decide) (fun v1 => [(4, zi v1), (0, zr x0), (2, zi x2), (3, zi x3)]) (fun _ => rfl) (fun v1 e2 ls hl => ?_)
  have h := znb e2 h
  refine z_goto C 33 dX7_tick_121 (by decide) ?_
  exact K33 _ _ _ _ _ _ _ _ h I (zL_sub hl [1, 2, 3, 0] rfl)

def fX7_tick_33 (n : Nat) : Nat → zM → Int32 → Int32 → Int32 → Int32 → Option (Int32 × zM)
  | 0, _, _, _, _, _ => none
  | fu + 1, S, x0, x2, x3, x4 => zd (zo n 17 x0) <| if (zg S x0 5 : Int32) ≤ (x4 : Int32) then (if (x3 : Int32) = 0 then (zd (zo n 11 (zg S x0 7)) <| zca (fX1_endWave n S (zg S x0 7)) fun r5 S6 => some (x3, S6)) else (some (x3, S))) else (zd (za n 4 (zg S x0 4) x4) <| zbd (ze S (zg S x0 4) x4) fun v9 => zca (fX7_isDue n S x0 v9) fun r11 S12 => if (r11 : Int32) = 0 then (fX7_tick_118 n (fX7_tick_33 n fu) S12 x0 x2 x3 x4) else (zd (zo n 11 (zg S12 x0 7)) <| zca (fX7_bytesTo n S12 x0 v9 (zg S12 (zg S12 x0 7) 0)) fun r16 S17 => zbd (r16) fun v19 => if (v19 : Int32) ≤ (x2 : Int32) then (zbd (x2 - v19) fun v22 => zd (zo n 11 (zg S17 x0 7)) <| zca (fX7_updateWhole n S17 x0 v9 (zg S17 (zg S17 x0 7) 0)) fun r25 S26 => zca (fX1_note n S26 (zg S17 x0 7) x4 v19 r25) fun r28 S29 => zbd (x3 + 1) fun v31 => fX7_tick_118 n (fX7_tick_33 n fu) S29 x0 v22 v31 x4) else (some (x3, S17))))
theorem bX7_tick_33 {p : Program} {l : Launch} {e : Env} {s : State} {m : MethodId} {args : Array Value} {below : List Frame} {meth : Method} {c : Code} {D : va_G} {tc : Nat → ClassId} {b n : Nat} {S' : zM} {r : Int32} (C : zC p m c cX7_tick 7 s args yX7_tick.cls D tc) (hr : meth.sig.returnType = some .int) (hk : meth.locks = false) : ∀ (fu : Nat) (S : zM) (x0 : Int32) (x2 : Int32) (x3 : Int32) (x4 : Int32) (H : Heap) (locs : List Loc) (ls : Array Slot), fX7_tick_33 n fu S x0 x2 x3 x4 = some (r, S') → zI D tc b n S s H locs → zL b ls 7 [(0, zr x0), (2, zi x2), (3, zi x3), (4, zi x4)] → W p l e (zR 6) s m args below meth c H locs 0 0 (zQi D tc b n S' r below args s) (zG b m 33 ls []) := by
  intro fu
  induction fu with
  | zero => intro S x0 x2 x3 x4 H locs ls h _ _; rw [fX7_tick_33] at h; cases h
  | succ fu ih =>
    intro S x0 x2 x3 x4 H locs ls h I hl
    rw [fX7_tick_33] at h
    refine z_iload C hl 3 rfl dX7_tick_33 ?_
    refine z_aload_n C hl 0 rfl dX7_tick_35 rfl ?_
    obtain ⟨g1, h⟩ := zd_some h
    refine z_get C I 7 5 zc7 g1 (by decide) zq_233 (v := zi (zg S x0 5)) rfl dX7_tick_36 ?_
    refine z_icmp_ge C 124 dX7_tick_39 (by decide) (fun c2 => ?_) (fun c2 => ?_)
    · have h := zit c2 h
      refine z_iload_n C hl 2 rfl dX7_tick_124 rfl ?_
      refine z_if_ne C 135 dX7_tick_125 (by decide) (fun c3 => ?_) (fun c3 => ?_)
      · have h := zif c3 h
        refine z_iload_n C hl 2 rfl dX7_tick_135 rfl ?_
        exact z_iret C I hr hk h dX7_tick_136
      · have h := zit c3 h
        refine z_aload_n C hl 0 rfl dX7_tick_128 rfl ?_
        refine z_get C I 7 7 zc7 g1 (by decide) zq_235 (v := zr (zg S x0 7)) rfl dX7_tick_129 ?_
        obtain ⟨g4, h⟩ := zd_some h
        obtain ⟨r5, S6, h7, h⟩ := zcs h
        refine z_callVv C I (tX1_endWave l D tc b n h7) zyX1_endWave zyvX1_endWave zc1 g4 zq_528 (st := []) rfl rfl (by decide) (by decide) hl.1 (Nat.le_of_ble_eq_true rfl) dX7_tick_132 (fun H locs I => ?_)
        refine z_iload_n C hl 2 rfl dX7_tick_135 rfl ?_
        exact z_iret C I hr hk h dX7_tick_136
    · have h := zif c2 h
      refine z_aload_n C hl 0 rfl dX7_tick_42 rfl ?_
      refine z_get C I 7 4 zc7 g1 (by decide) zq_232 (v := zr (zg S x0 4)) rfl dX7_tick_43 ?_
      refine z_iload C hl 3 rfl dX7_tick_46 ?_
      obtain ⟨g8, h⟩ := zd_some h
      refine z_aald C I 4 (by decide) g8 dX7_tick_48 ?_
      refine z_astore C hl dX7_tick_49 (by decide) (fun v9 => [(5, zr v9), (0, zr x0), (2, zi x2), (3, zi x3), (4, zi x4)]) (fun _ => rfl) (fun v9 e10 ls hl => ?_)
      have h := znb e10 h
      refine z_aload_n C hl 1 rfl dX7_tick_51 rfl ?_
      refine z_aload C hl 0 rfl dX7_tick_52 ?_
      obtain ⟨r11, S12, h13, h⟩ := zcs h
      refine z_callVi C I (tX7_isDue l D tc b n h13) zyX7_isDue zyvX7_isDue zc7 g1 zq_511 (st := []) rfl rfl (by decide) (by decide) hl.1 (Nat.le_of_ble_eq_true rfl) dX7_tick_54 (fun H locs I => ?_)
      refine z_if_ne C 63 dX7_tick_57 (by decide) (fun c14 => ?_) (fun c14 => ?_)
      · have h := zif c14 h
        refine z_aload_n C hl 1 rfl dX7_tick_63 rfl ?_
        refine z_aload C hl 0 rfl dX7_tick_64 ?_
        refine z_aload_n C hl 1 rfl dX7_tick_66 rfl ?_
        refine z_get C I 7 7 zc7 g1 (by decide) zq_235 (v := zr (zg S12 x0 7)) rfl dX7_tick_67 ?_
        obtain ⟨g15, h⟩ := zd_some h
        refine z_get C I 1 0 zc1 g15 (by decide) zq_128 (v := zr (zg S12 (zg S12 x0 7) 0)) rfl dX7_tick_70 ?_
        obtain ⟨r16, S17, h18, h⟩ := zcs h
        refine z_callVi C I (tX7_bytesTo l D tc b n h18) zyX7_bytesTo zyvX7_bytesTo zc7 g1 zq_520 (st := []) rfl rfl (by decide) (by decide) hl.1 (Nat.le_of_ble_eq_true rfl) dX7_tick_73 (fun H locs I => ?_)
        refine z_istore C hl dX7_tick_76 (by decide) (fun v19 => [(6, zi v19), (5, zr v9), (0, zr x0), (2, zi x2), (3, zi x3), (4, zi x4)]) (fun _ => rfl) (fun v19 e20 ls hl => ?_)
        have h := znb e20 h
        refine z_iload C hl 0 rfl dX7_tick_78 ?_
        refine z_iload_n C hl 3 rfl dX7_tick_80 rfl ?_
        refine z_icmp_le C 86 dX7_tick_81 (by decide) (fun c21 => ?_) (fun c21 => ?_)
        · have h := zit c21 h
          refine z_iload_n C hl 3 rfl dX7_tick_86 rfl ?_
          refine z_iload C hl 0 rfl dX7_tick_87 ?_
          refine z_isub C dX7_tick_89 ?_
          refine z_istore_n C hl dX7_tick_90 rfl (by decide) (fun v22 => [(2, zi v22), (6, zi v19), (5, zr v9), (0, zr x0), (3, zi x3), (4, zi x4)]) (fun _ => rfl) (fun v22 e23 ls hl => ?_)
          have h := znb e23 h
          refine z_aload_n C hl 3 rfl dX7_tick_91 rfl ?_
          refine z_get C I 7 7 zc7 g1 (by decide) zq_235 (v := zr (zg S17 x0 7)) rfl dX7_tick_92 ?_
          refine z_iload C hl 5 rfl dX7_tick_95 ?_
          refine z_iload C hl 1 rfl dX7_tick_97 ?_
          refine z_aload_n C hl 3 rfl dX7_tick_99 rfl ?_
          refine z_aload C hl 2 rfl dX7_tick_100 ?_
          refine z_aload_n C hl 3 rfl dX7_tick_102 rfl ?_
          refine z_get C I 7 7 zc7 g1 (by decide) zq_235 (v := zr (zg S17 x0 7)) rfl dX7_tick_103 ?_
          obtain ⟨g24, h⟩ := zd_some h
          refine z_get C I 1 0 zc1 g24 (by decide) zq_128 (v := zr (zg S17 (zg S17 x0 7) 0)) rfl dX7_tick_106 ?_
          obtain ⟨r25, S26, h27, h⟩ := zcs h
          refine z_callVi C I (tX7_updateWhole l D tc b n h27) zyX7_updateWhole zyvX7_updateWhole zc7 g1 zq_408 (st := [zi v19, zi x4, zr (zg S17 x0 7)]) rfl rfl (by decide) (by decide) hl.1 (Nat.le_of_ble_eq_true rfl) dX7_tick_109 (fun H locs I => ?_)
          obtain ⟨r28, S29, h30, h⟩ := zcs h
          refine z_callVv C I (tX1_note l D tc b n h30) zyX1_note zyvX1_note zc1 g24 zq_524 (st := []) rfl rfl (by decide) (by decide) hl.1 (Nat.le_of_ble_eq_true rfl) dX7_tick_112 (fun H locs I => ?_)
          refine z_iinc C hl 4 (v := x3 + 1) rfl dX7_tick_115 rfl (by decide) (fun v31 => [(3, zi v31), (2, zi v22), (6, zi v19), (5, zr v9), (0, zr x0), (4, zi x4)]) (fun _ => rfl) (fun v31 e32 ls hl => ?_)
          have h := znb e32 h
          exact bX7_tick_118 C hr hk ih _ _ _ _ _ _ _ _ h I (zL_sub hl [4, 1, 0, 5] rfl)
        · have h := zif c21 h
          refine z_iload_n C hl 4 rfl dX7_tick_84 rfl ?_
          exact z_iret C I hr hk h dX7_tick_85
      · have h := zit c14 h
        refine z_goto C 118 dX7_tick_60 (by decide) ?_
        exact bX7_tick_118 C hr hk ih _ _ _ _ _ _ _ _ h I (zL_sub hl [1, 2, 3, 4] rfl)

def fX7_tick (n : Nat) (S : zM) (a0 : Int32) (a1 : Int32) : Option (Int32 × zM) := if (a1 : Int32) < 0 then (some ((-1000001), S)) else (if (a1 : Int32) ≤ (100000 : Int32) then (zd (zo n 17 a0) <| zd (zo n 11 (zg S a0 7)) <| zca (fX1_isRunning n S (zg S a0 7)) fun r5 S6 => if (r5 : Int32) = 0 then (some ((-1000002), S6)) else (zbd (a1) fun v9 => zbd (0) fun v11 => zbd (0) fun v13 => fX7_tick_33 n 1000 S6 a0 v9 v11 v13)) else (some ((-1000001), S)))
theorem tX7_tick (l : Launch) (D : va_G) (tc : Nat → ClassId) (b n : Nat) {S S' : zM} {a0 : Int32} {a1 : Int32} {r : Int32} (h : fX7_tick n S a0 a1 = some (r, S')) : zMi l D tc b n yX7_tick cX7_tick 7 .int 6 [zr a0, zi a1] S S' r := by
  refine zMi_of zyX7_tick (Nat.le_of_ble_eq_true rfl) (fun p e s m args below meth c H C hr hk ls hl I => ?_)
  have hl : zL b ls 7 [(0, zr a0), (1, zi a1)] := hl
  rw [fX7_tick] at h
  refine z_iload_n C hl 1 rfl dX7_tick_0 rfl ?_
  refine z_if_lt C 10 dX7_tick_1 (by decide) (fun c1 => ?_) (fun c1 => ?_)
  · have h := zit c1 h
    refine z_ldc C zq_269 dX7_tick_10 ?_
    exact z_iret C I hr hk h dX7_tick_12
  · have h := zif c1 h
    refine z_iload_n C hl 1 rfl dX7_tick_4 rfl ?_
    refine z_ldc C zq_506 dX7_tick_5 ?_
    refine z_icmp_le C 13 dX7_tick_7 (by decide) (fun c2 => ?_) (fun c2 => ?_)
    · have h := zit c2 h
      refine z_aload_n C hl 0 rfl dX7_tick_13 rfl ?_
      obtain ⟨g3, h⟩ := zd_some h
      refine z_get C I 7 7 zc7 g3 (by decide) zq_235 (v := zr (zg S a0 7)) rfl dX7_tick_14 ?_
      obtain ⟨g4, h⟩ := zd_some h
      obtain ⟨r5, S6, h7, h⟩ := zcs h
      refine z_callVi C I (tX1_isRunning l D tc b n h7) zyX1_isRunning zyvX1_isRunning zc1 g4 zq_507 (st := []) rfl rfl (by decide) (by decide) hl.1 (Nat.le_of_ble_eq_true rfl) dX7_tick_17 (fun H locs I => ?_)
      refine z_if_ne C 26 dX7_tick_20 (by decide) (fun c8 => ?_) (fun c8 => ?_)
      · have h := zif c8 h
        refine z_iload_n C hl 1 rfl dX7_tick_26 rfl ?_
        refine z_istore_n C hl dX7_tick_27 rfl (by decide) (fun v9 => [(2, zi v9), (0, zr a0), (1, zi a1)]) (fun _ => rfl) (fun v9 e10 ls hl => ?_)
        have h := znb e10 h
        refine z_iconst C (v := 0) dX7_tick_28 (by decide) ?_
        refine z_istore_n C hl dX7_tick_29 rfl (by decide) (fun v11 => [(3, zi v11), (2, zi v9), (0, zr a0), (1, zi a1)]) (fun _ => rfl) (fun v11 e12 ls hl => ?_)
        have h := znb e12 h
        refine z_iconst C (v := 0) dX7_tick_30 (by decide) ?_
        refine z_istore C hl dX7_tick_31 (by decide) (fun v13 => [(4, zi v13), (3, zi v11), (2, zi v9), (0, zr a0), (1, zi a1)]) (fun _ => rfl) (fun v13 e14 ls hl => ?_)
        have h := znb e14 h
        exact bX7_tick_33 C hr hk 1000 _ _ _ _ _ _ _ _ h I (zL_sub hl [3, 2, 1, 0] rfl)
      · have h := zit c8 h
        refine z_ldc C zq_369 dX7_tick_23 ?_
        exact z_iret C I hr hk h dX7_tick_25
    · have h := zif c2 h
      refine z_ldc C zq_269 dX7_tick_10 ?_
      exact z_iret C I hr hk h dX7_tick_12

def fX7_devicesAtLeastAt_28 (n : Nat) (k4 : zM → Int32 → Int32 → Int32 → Int32 → Option (Int32 × zM)) (S : zM) (x0 : Int32) (x1 : Int32) (x2 : Int32) (x3 : Int32) : Option (Int32 × zM) := zbd (x3 + 1) fun v1 => k4 S x0 x1 x2 v1
theorem bX7_devicesAtLeastAt_28 {p : Program} {l : Launch} {e : Env} {s : State} {m : MethodId} {args : Array Value} {below : List Frame} {meth : Method} {c : Code} {D : va_G} {tc : Nat → ClassId} {b n : Nat} {S' : zM} {r : Int32} (C : zC p m c cX7_devicesAtLeastAt 4 s args yX7_devicesAtLeastAt.cls D tc) (hr : meth.sig.returnType = some .int) (hk : meth.locks = false) {k4 : zM → Int32 → Int32 → Int32 → Int32 → Option (Int32 × zM)} (K4 : ∀ (S : zM) (x0 : Int32) (x1 : Int32) (x2 : Int32) (x3 : Int32) (H : Heap) (locs : List Loc) (ls : Array Slot), k4 S x0 x1 x2 x3 = some (r, S') → zI D tc b n S s H locs → zL b ls 4 [(0, zr x0), (1, zr x1), (2, zi x2), (3, zi x3)] → W p l e (zR 2) s m args below meth c H locs 0 0 (zQi D tc b n S' r below args s) (zG b m 4 ls [])) : ∀ (S : zM) (x0 : Int32) (x1 : Int32) (x2 : Int32) (x3 : Int32) (H : Heap) (locs : List Loc) (ls : Array Slot), fX7_devicesAtLeastAt_28 n k4 S x0 x1 x2 x3 = some (r, S') → zI D tc b n S s H locs → zL b ls 4 [(0, zr x0), (1, zr x1), (2, zi x2), (3, zi x3)] → W p l e (zR 2) s m args below meth c H locs 0 0 (zQi D tc b n S' r below args s) (zG b m 28 ls []) := by
  intro S x0 x1 x2 x3 H locs ls h I hl
  rw [fX7_devicesAtLeastAt_28] at h
  refine z_iinc C hl 3 (v := x3 + 1) rfl dX7_devicesAtLeastAt_28 rfl (by decide) (fun v1 => [(3, zi v1), (0, zr x0), (1, zr x1), (2, zi x2)]) (fun _ => rfl) (fun v1 e2 ls hl => ?_)
  have h := znb e2 h
  refine z_goto C 4 dX7_devicesAtLeastAt_31 (by decide) ?_
  exact K4 _ _ _ _ _ _ _ _ h I (zL_sub hl [1, 2, 3, 0] rfl)

def fX7_devicesAtLeastAt_4 (n : Nat) : Nat → zM → Int32 → Int32 → Int32 → Int32 → Option (Int32 × zM)
  | 0, _, _, _, _, _ => none
  | fu + 1, S, x0, x1, x2, x3 => zd (zo n 17 x0) <| if (zg S x0 5 : Int32) ≤ (x3 : Int32) then (some (x2, S)) else (zd (za n 4 (zg S x0 4) x3) <| zd (zo n 12 (ze S (zg S x0 4) x3)) <| zca (fX2_isAtLeastAt n S (ze S (zg S x0 4) x3) x1) fun r5 S6 => if (r5 : Int32) = 0 then (fX7_devicesAtLeastAt_28 n (fX7_devicesAtLeastAt_4 n fu) S6 x0 x1 x2 x3) else (zbd (x2 + 1) fun v9 => fX7_devicesAtLeastAt_28 n (fX7_devicesAtLeastAt_4 n fu) S6 x0 x1 v9 x3))
theorem bX7_devicesAtLeastAt_4 {p : Program} {l : Launch} {e : Env} {s : State} {m : MethodId} {args : Array Value} {below : List Frame} {meth : Method} {c : Code} {D : va_G} {tc : Nat → ClassId} {b n : Nat} {S' : zM} {r : Int32} (C : zC p m c cX7_devicesAtLeastAt 4 s args yX7_devicesAtLeastAt.cls D tc) (hr : meth.sig.returnType = some .int) (hk : meth.locks = false) : ∀ (fu : Nat) (S : zM) (x0 : Int32) (x1 : Int32) (x2 : Int32) (x3 : Int32) (H : Heap) (locs : List Loc) (ls : Array Slot), fX7_devicesAtLeastAt_4 n fu S x0 x1 x2 x3 = some (r, S') → zI D tc b n S s H locs → zL b ls 4 [(0, zr x0), (1, zr x1), (2, zi x2), (3, zi x3)] → W p l e (zR 2) s m args below meth c H locs 0 0 (zQi D tc b n S' r below args s) (zG b m 4 ls []) := by
  intro fu
  induction fu with
  | zero => intro S x0 x1 x2 x3 H locs ls h _ _; rw [fX7_devicesAtLeastAt_4] at h; cases h
  | succ fu ih =>
    intro S x0 x1 x2 x3 H locs ls h I hl
    rw [fX7_devicesAtLeastAt_4] at h
    refine z_iload_n C hl 3 rfl dX7_devicesAtLeastAt_4 rfl ?_
    refine z_aload_n C hl 0 rfl dX7_devicesAtLeastAt_5 rfl ?_
    obtain ⟨g1, h⟩ := zd_some h
    refine z_get C I 7 5 zc7 g1 (by decide) zq_233 (v := zi (zg S x0 5)) rfl dX7_devicesAtLeastAt_6 ?_
    refine z_icmp_ge C 34 dX7_devicesAtLeastAt_9 (by decide) (fun c2 => ?_) (fun c2 => ?_)
    · have h := zit c2 h
      refine z_iload_n C hl 2 rfl dX7_devicesAtLeastAt_34 rfl ?_
      exact z_iret C I hr hk h dX7_devicesAtLeastAt_35
    · have h := zif c2 h
      refine z_aload_n C hl 0 rfl dX7_devicesAtLeastAt_12 rfl ?_
      refine z_get C I 7 4 zc7 g1 (by decide) zq_232 (v := zr (zg S x0 4)) rfl dX7_devicesAtLeastAt_13 ?_
      refine z_iload_n C hl 3 rfl dX7_devicesAtLeastAt_16 rfl ?_
      obtain ⟨g3, h⟩ := zd_some h
      refine z_aald C I 4 (by decide) g3 dX7_devicesAtLeastAt_17 ?_
      refine z_aload_n C hl 1 rfl dX7_devicesAtLeastAt_18 rfl ?_
      obtain ⟨g4, h⟩ := zd_some h
      obtain ⟨r5, S6, h7, h⟩ := zcs h
      refine z_callVi C I (tX2_isAtLeastAt l D tc b n h7) zyX2_isAtLeastAt zyvX2_isAtLeastAt zc2 g4 zq_515 (st := []) rfl rfl (by decide) (by decide) hl.1 (Nat.le_of_ble_eq_true rfl) dX7_devicesAtLeastAt_19 (fun H locs I => ?_)
      refine z_if_eq C 28 dX7_devicesAtLeastAt_22 (by decide) (fun c8 => ?_) (fun c8 => ?_)
      · have h := zit c8 h
        exact bX7_devicesAtLeastAt_28 C hr hk ih _ _ _ _ _ _ _ _ h I (zL_sub hl [0, 1, 2, 3] rfl)
      · have h := zif c8 h
        refine z_iinc C hl 2 (v := x2 + 1) rfl dX7_devicesAtLeastAt_25 rfl (by decide) (fun v9 => [(2, zi v9), (0, zr x0), (1, zr x1), (3, zi x3)]) (fun _ => rfl) (fun v9 e10 ls hl => ?_)
        have h := znb e10 h
        exact bX7_devicesAtLeastAt_28 C hr hk ih _ _ _ _ _ _ _ _ h I (zL_sub hl [1, 2, 0, 3] rfl)

def fX7_devicesAtLeastAt (n : Nat) (S : zM) (a0 : Int32) (a1 : Int32) : Option (Int32 × zM) := zbd (0) fun v1 => zbd (0) fun v3 => fX7_devicesAtLeastAt_4 n 1000 S a0 a1 v1 v3
theorem tX7_devicesAtLeastAt (l : Launch) (D : va_G) (tc : Nat → ClassId) (b n : Nat) {S S' : zM} {a0 : Int32} {a1 : Int32} {r : Int32} (h : fX7_devicesAtLeastAt n S a0 a1 = some (r, S')) : zMi l D tc b n yX7_devicesAtLeastAt cX7_devicesAtLeastAt 4 .int 2 [zr a0, zr a1] S S' r := by
  refine zMi_of zyX7_devicesAtLeastAt (Nat.le_of_ble_eq_true rfl) (fun p e s m args below meth c H C hr hk ls hl I => ?_)
  have hl : zL b ls 4 [(0, zr a0), (1, zr a1)] := hl
  rw [fX7_devicesAtLeastAt] at h
  refine z_iconst C (v := 0) dX7_devicesAtLeastAt_0 (by decide) ?_
  refine z_istore_n C hl dX7_devicesAtLeastAt_1 rfl (by decide) (fun v1 => [(2, zi v1), (0, zr a0), (1, zr a1)]) (fun _ => rfl) (fun v1 e2 ls hl => ?_)
  have h := znb e2 h
  refine z_iconst C (v := 0) dX7_devicesAtLeastAt_2 (by decide) ?_
  refine z_istore_n C hl dX7_devicesAtLeastAt_3 rfl (by decide) (fun v3 => [(3, zi v3), (2, zi v1), (0, zr a0), (1, zr a1)]) (fun _ => rfl) (fun v3 e4 ls hl => ?_)
  have h := znb e4 h
  exact bX7_devicesAtLeastAt_4 C hr hk 1000 _ _ _ _ _ _ _ _ h I (zL_sub hl [2, 3, 1, 0] rfl)

def fX7_runs (n : Nat) (S : zM) (a0 : Int32) (a1 : Int32) : Option (Int32 × zM) := if (a1 : Int32) < 0 then (some ((-1000001), S)) else (if (a1 : Int32) ≤ (5 : Int32) then (zd (zo n 17 a0) <| zd (zo n 11 (zg S a0 7)) <| if (zg S (zg S a0 7) 0 : Int32) < 0 then (some ((-1000002), S)) else (if (a1 : Int32) = 0 then (some (zg S (zg S a0 7) 5, S)) else if (a1 : Int32) = 1 then (some (zg S (zg S a0 7) 6, S)) else if (a1 : Int32) = 2 then (some (zg S (zg S a0 7) 7, S)) else if (a1 : Int32) = 3 then (some (zg S (zg S a0 7) 8, S)) else if (a1 : Int32) = 4 then (some (zg S (zg S a0 7) 9, S)) else (zca (fX7_devicesAtLeastAt n S a0 (zg S (zg S a0 7) 0)) fun r11 S12 => some (r11, S12)))) else (some ((-1000001), S)))
theorem tX7_runs (l : Launch) (D : va_G) (tc : Nat → ClassId) (b n : Nat) {S S' : zM} {a0 : Int32} {a1 : Int32} {r : Int32} (h : fX7_runs n S a0 a1 = some (r, S')) : zMi l D tc b n yX7_runs cX7_runs 2 .int 3 [zr a0, zi a1] S S' r := by
  refine zMi_of zyX7_runs (Nat.le_of_ble_eq_true rfl) (fun p e s m args below meth c H C hr hk ls hl I => ?_)
  have hl : zL b ls 2 [(0, zr a0), (1, zi a1)] := hl
  rw [fX7_runs] at h
  refine z_iload_n C hl 1 rfl dX7_runs_0 rfl ?_
  refine z_if_lt C 9 dX7_runs_1 (by decide) (fun c1 => ?_) (fun c1 => ?_)
  · have h := zit c1 h
    refine z_ldc C zq_269 dX7_runs_9 ?_
    exact z_iret C I hr hk h dX7_runs_11
  · have h := zif c1 h
    refine z_iload_n C hl 1 rfl dX7_runs_4 rfl ?_
    refine z_iconst C (v := 5) dX7_runs_5 (by decide) ?_
    refine z_icmp_le C 12 dX7_runs_6 (by decide) (fun c2 => ?_) (fun c2 => ?_)
    · have h := zit c2 h
      refine z_aload_n C hl 0 rfl dX7_runs_12 rfl ?_
      obtain ⟨g3, h⟩ := zd_some h
      refine z_get C I 7 7 zc7 g3 (by decide) zq_235 (v := zr (zg S a0 7)) rfl dX7_runs_13 ?_
      obtain ⟨g4, h⟩ := zd_some h
      refine z_get C I 1 0 zc1 g4 (by decide) zq_128 (v := zr (zg S (zg S a0 7) 0)) rfl dX7_runs_16 ?_
      refine z_ifnonnull C 25 dX7_runs_19 (by decide) (fun c5 => ?_) (fun c5 => ?_)
      · have h := zif c5 h
        refine z_iload_n C hl 1 rfl dX7_runs_25 rfl ?_
        by_cases c6 : (a1 : Int32) = 0
        · have h := zit c6 h
          refine z_tsIn C (off := 34) 60 c6 dX7_runs_26 (by decide) (by decide) (by decide) (by decide) ?_
          refine z_aload_n C hl 0 rfl dX7_runs_60 rfl ?_
          refine z_get C I 7 7 zc7 g3 (by decide) zq_235 (v := zr (zg S a0 7)) rfl dX7_runs_61 ?_
          refine z_get C I 1 5 zc1 g4 (by decide) zq_135 (v := zi (zg S (zg S a0 7) 5)) rfl dX7_runs_64 ?_
          exact z_iret C I hr hk h dX7_runs_67
        have h := zif c6 h
        by_cases c7 : (a1 : Int32) = 1
        · have h := zit c7 h
          refine z_tsIn C (off := 42) 68 c7 dX7_runs_26 (by decide) (by decide) (by decide) (by decide) ?_
          refine z_aload_n C hl 0 rfl dX7_runs_68 rfl ?_
          refine z_get C I 7 7 zc7 g3 (by decide) zq_235 (v := zr (zg S a0 7)) rfl dX7_runs_69 ?_
          refine z_get C I 1 6 zc1 g4 (by decide) zq_137 (v := zi (zg S (zg S a0 7) 6)) rfl dX7_runs_72 ?_
          exact z_iret C I hr hk h dX7_runs_75
        have h := zif c7 h
        by_cases c8 : (a1 : Int32) = 2
        · have h := zit c8 h
          refine z_tsIn C (off := 50) 76 c8 dX7_runs_26 (by decide) (by decide) (by decide) (by decide) ?_
          refine z_aload_n C hl 0 rfl dX7_runs_76 rfl ?_
          refine z_get C I 7 7 zc7 g3 (by decide) zq_235 (v := zr (zg S a0 7)) rfl dX7_runs_77 ?_
          refine z_get C I 1 7 zc1 g4 (by decide) zq_139 (v := zi (zg S (zg S a0 7) 7)) rfl dX7_runs_80 ?_
          exact z_iret C I hr hk h dX7_runs_83
        have h := zif c8 h
        by_cases c9 : (a1 : Int32) = 3
        · have h := zit c9 h
          refine z_tsIn C (off := 58) 84 c9 dX7_runs_26 (by decide) (by decide) (by decide) (by decide) ?_
          refine z_aload_n C hl 0 rfl dX7_runs_84 rfl ?_
          refine z_get C I 7 7 zc7 g3 (by decide) zq_235 (v := zr (zg S a0 7)) rfl dX7_runs_85 ?_
          refine z_get C I 1 8 zc1 g4 (by decide) zq_141 (v := zi (zg S (zg S a0 7) 8)) rfl dX7_runs_88 ?_
          exact z_iret C I hr hk h dX7_runs_91
        have h := zif c9 h
        by_cases c10 : (a1 : Int32) = 4
        · have h := zit c10 h
          refine z_tsIn C (off := 66) 92 c10 dX7_runs_26 (by decide) (by decide) (by decide) (by decide) ?_
          refine z_aload_n C hl 0 rfl dX7_runs_92 rfl ?_
          refine z_get C I 7 7 zc7 g3 (by decide) zq_235 (v := zr (zg S a0 7)) rfl dX7_runs_93 ?_
          refine z_get C I 1 9 zc1 g4 (by decide) zq_143 (v := zi (zg S (zg S a0 7) 9)) rfl dX7_runs_96 ?_
          exact z_iret C I hr hk h dX7_runs_99
        have h := zif c10 h
        refine z_tsOut C 100 dX7_runs_26 (by have t_c6 : ((a1 : Int32)).toInt ≠ 0 := fun q => c6 (Int32.toInt_inj.mp (q.trans (by decide))); have t_c7 : ((a1 : Int32)).toInt ≠ 1 := fun q => c7 (Int32.toInt_inj.mp (q.trans (by decide))); have t_c8 : ((a1 : Int32)).toInt ≠ 2 := fun q => c8 (Int32.toInt_inj.mp (q.trans (by decide))); have t_c9 : ((a1 : Int32)).toInt ≠ 3 := fun q => c9 (Int32.toInt_inj.mp (q.trans (by decide))); have t_c10 : ((a1 : Int32)).toInt ≠ 4 := fun q => c10 (Int32.toInt_inj.mp (q.trans (by decide))); omega) (by decide) ?_
        refine z_aload_n C hl 0 rfl dX7_runs_100 rfl ?_
        refine z_aload_n C hl 0 rfl dX7_runs_101 rfl ?_
        refine z_get C I 7 7 zc7 g3 (by decide) zq_235 (v := zr (zg S a0 7)) rfl dX7_runs_102 ?_
        refine z_get C I 1 0 zc1 g4 (by decide) zq_128 (v := zr (zg S (zg S a0 7) 0)) rfl dX7_runs_105 ?_
        obtain ⟨r11, S12, h13, h⟩ := zcs h
        refine z_callVi C I (tX7_devicesAtLeastAt l D tc b n h13) zyX7_devicesAtLeastAt zyvX7_devicesAtLeastAt zc7 g3 zq_539 (st := []) rfl rfl (by decide) (by decide) hl.1 (Nat.le_of_ble_eq_true rfl) dX7_runs_108 (fun H locs I => ?_)
        exact z_iret C I hr hk h dX7_runs_111
      · have h := zit c5 h
        refine z_ldc C zq_369 dX7_runs_22 ?_
        exact z_iret C I hr hk h dX7_runs_24
    · have h := zif c2 h
      refine z_ldc C zq_269 dX7_runs_9 ?_
      exact z_iret C I hr hk h dX7_runs_11

def fX7_choices_5 (n : Nat) : Nat → zM → Int32 → Int32 → Int64 → Int32 → Option (Int64 × zM)
  | 0, _, _, _, _, _ => none
  | fu + 1, S, x0, x1, x2, x4 => if (x1 : Int32) < (x4 : Int32) then (some (x2, S)) else (zd (decide (¬ ((x4 : Int32).toInt64 : Int64) = 0)) <| zbd ((x2 * (((x0 - x1) + x4 : Int32).toInt64)) / ((x4 : Int32).toInt64)) fun v3 => zbd (x4 + 1) fun v5 => fX7_choices_5 n fu S x0 x1 v3 v5)
theorem bX7_choices_5 {p : Program} {l : Launch} {e : Env} {s : State} {m : MethodId} {args : Array Value} {below : List Frame} {meth : Method} {c : Code} {D : va_G} {tc : Nat → ClassId} {b n : Nat} {S' : zM} {r : Int64} (C : zC p m c cX7_choices 5 s args yX7_choices.cls D tc) (hr : meth.sig.returnType = some .long) (hk : meth.locks = false) : ∀ (fu : Nat) (S : zM) (x0 : Int32) (x1 : Int32) (x2 : Int64) (x4 : Int32) (H : Heap) (locs : List Loc) (ls : Array Slot), fX7_choices_5 n fu S x0 x1 x2 x4 = some (r, S') → zI D tc b n S s H locs → zL b ls 5 [(0, zi x0), (1, zi x1), (2, zl x2), (4, zi x4)] → W p l e (zR 0) s m args below meth c H locs 0 0 (zQl D tc b n S' r below args s) (zG b m 5 ls []) := by
  intro fu
  induction fu with
  | zero => intro S x0 x1 x2 x4 H locs ls h _ _; rw [fX7_choices_5] at h; cases h
  | succ fu ih =>
    intro S x0 x1 x2 x4 H locs ls h I hl
    rw [fX7_choices_5] at h
    refine z_iload C hl 3 rfl dX7_choices_5 ?_
    refine z_iload_n C hl 1 rfl dX7_choices_7 rfl ?_
    refine z_icmp_gt C 31 dX7_choices_8 (by decide) (fun c1 => ?_) (fun c1 => ?_)
    · have h := zit c1 h
      refine z_lload_n C hl 2 rfl dX7_choices_31 rfl ?_
      exact z_lret C I hr hk h dX7_choices_32
    · have h := zif c1 h
      refine z_lload_n C hl 2 rfl dX7_choices_11 rfl ?_
      refine z_iload_n C hl 0 rfl dX7_choices_12 rfl ?_
      refine z_iload_n C hl 1 rfl dX7_choices_13 rfl ?_
      refine z_isub C dX7_choices_14 ?_
      refine z_iload C hl 3 rfl dX7_choices_15 ?_
      refine z_iadd C dX7_choices_17 ?_
      refine z_i2l C dX7_choices_18 ?_
      refine z_lmul C dX7_choices_19 ?_
      refine z_iload C hl 3 rfl dX7_choices_20 ?_
      refine z_i2l C dX7_choices_22 ?_
      obtain ⟨g2, h⟩ := zd_some h
      refine z_ldiv C g2 dX7_choices_23 ?_
      refine z_lstore_n C hl dX7_choices_24 rfl (by decide) (fun v3 => [(2, zl v3), (0, zi x0), (1, zi x1), (4, zi x4)]) (fun _ => rfl) (fun v3 e4 ls hl => ?_)
      have h := znb e4 h
      refine z_iinc C hl 3 (v := x4 + 1) rfl dX7_choices_25 rfl (by decide) (fun v5 => [(4, zi v5), (2, zl v3), (0, zi x0), (1, zi x1)]) (fun _ => rfl) (fun v5 e6 ls hl => ?_)
      have h := znb e6 h
      refine z_goto C 5 dX7_choices_28 (by decide) ?_
      exact ih _ _ _ _ _ _ _ _ h I (zL_sub hl [2, 3, 1, 0] rfl)

def fX7_choices (n : Nat) (S : zM) (a0 : Int32) (a1 : Int32) : Option (Int64 × zM) := zbd (1) fun v1 => zbd (1) fun v3 => fX7_choices_5 n 1000 S a0 a1 v1 v3
theorem tX7_choices (l : Launch) (D : va_G) (tc : Nat → ClassId) (b n : Nat) {S S' : zM} {a0 : Int32} {a1 : Int32} {r : Int64} (h : fX7_choices n S a0 a1 = some (r, S')) : zMl l D tc b n yX7_choices cX7_choices 5 .long 0 [zi a0, zi a1] S S' r := by
  refine zMl_of zyX7_choices (Nat.le_of_ble_eq_true rfl) (fun p e s m args below meth c H C hr hk ls hl I => ?_)
  have hl : zL b ls 5 [(0, zi a0), (1, zi a1)] := hl
  rw [fX7_choices] at h
  refine z_lconst C (v := 1) dX7_choices_0 (by decide) ?_
  refine z_lstore_n C hl dX7_choices_1 rfl (by decide) (fun v1 => [(2, zl v1), (0, zi a0), (1, zi a1)]) (fun _ => rfl) (fun v1 e2 ls hl => ?_)
  have h := znb e2 h
  refine z_iconst C (v := 1) dX7_choices_2 (by decide) ?_
  refine z_istore C hl dX7_choices_3 (by decide) (fun v3 => [(4, zi v3), (2, zl v1), (0, zi a0), (1, zi a1)]) (fun _ => rfl) (fun v3 e4 ls hl => ?_)
  have h := znb e4 h
  exact bX7_choices_5 C hr hk 1000 _ _ _ _ _ _ _ _ h I (zL_sub hl [2, 3, 1, 0] rfl)

def fX7_raised_5 (n : Nat) : Nat → zM → Int32 → Int32 → Int64 → Int32 → Option (Int64 × zM)
  | 0, _, _, _, _, _ => none
  | fu + 1, S, x0, x1, x2, x4 => if (x1 : Int32) ≤ (x4 : Int32) then (some (x2, S)) else (zbd (x2 * ((x0 : Int32).toInt64)) fun v2 => zbd (x4 + 1) fun v4 => fX7_raised_5 n fu S x0 x1 v2 v4)
theorem bX7_raised_5 {p : Program} {l : Launch} {e : Env} {s : State} {m : MethodId} {args : Array Value} {below : List Frame} {meth : Method} {c : Code} {D : va_G} {tc : Nat → ClassId} {b n : Nat} {S' : zM} {r : Int64} (C : zC p m c cX7_raised 5 s args yX7_raised.cls D tc) (hr : meth.sig.returnType = some .long) (hk : meth.locks = false) : ∀ (fu : Nat) (S : zM) (x0 : Int32) (x1 : Int32) (x2 : Int64) (x4 : Int32) (H : Heap) (locs : List Loc) (ls : Array Slot), fX7_raised_5 n fu S x0 x1 x2 x4 = some (r, S') → zI D tc b n S s H locs → zL b ls 5 [(0, zi x0), (1, zi x1), (2, zl x2), (4, zi x4)] → W p l e (zR 0) s m args below meth c H locs 0 0 (zQl D tc b n S' r below args s) (zG b m 5 ls []) := by
  intro fu
  induction fu with
  | zero => intro S x0 x1 x2 x4 H locs ls h _ _; rw [fX7_raised_5] at h; cases h
  | succ fu ih =>
    intro S x0 x1 x2 x4 H locs ls h I hl
    rw [fX7_raised_5] at h
    refine z_iload C hl 3 rfl dX7_raised_5 ?_
    refine z_iload_n C hl 1 rfl dX7_raised_7 rfl ?_
    refine z_icmp_ge C 22 dX7_raised_8 (by decide) (fun c1 => ?_) (fun c1 => ?_)
    · have h := zit c1 h
      refine z_lload_n C hl 2 rfl dX7_raised_22 rfl ?_
      exact z_lret C I hr hk h dX7_raised_23
    · have h := zif c1 h
      refine z_lload_n C hl 2 rfl dX7_raised_11 rfl ?_
      refine z_iload_n C hl 0 rfl dX7_raised_12 rfl ?_
      refine z_i2l C dX7_raised_13 ?_
      refine z_lmul C dX7_raised_14 ?_
      refine z_lstore_n C hl dX7_raised_15 rfl (by decide) (fun v2 => [(2, zl v2), (0, zi x0), (1, zi x1), (4, zi x4)]) (fun _ => rfl) (fun v2 e3 ls hl => ?_)
      have h := znb e3 h
      refine z_iinc C hl 3 (v := x4 + 1) rfl dX7_raised_16 rfl (by decide) (fun v4 => [(4, zi v4), (2, zl v2), (0, zi x0), (1, zi x1)]) (fun _ => rfl) (fun v4 e5 ls hl => ?_)
      have h := znb e5 h
      refine z_goto C 5 dX7_raised_19 (by decide) ?_
      exact ih _ _ _ _ _ _ _ _ h I (zL_sub hl [2, 3, 1, 0] rfl)

def fX7_raised (n : Nat) (S : zM) (a0 : Int32) (a1 : Int32) : Option (Int64 × zM) := zbd (1) fun v1 => zbd (0) fun v3 => fX7_raised_5 n 1000 S a0 a1 v1 v3
theorem tX7_raised (l : Launch) (D : va_G) (tc : Nat → ClassId) (b n : Nat) {S S' : zM} {a0 : Int32} {a1 : Int32} {r : Int64} (h : fX7_raised n S a0 a1 = some (r, S')) : zMl l D tc b n yX7_raised cX7_raised 5 .long 0 [zi a0, zi a1] S S' r := by
  refine zMl_of zyX7_raised (Nat.le_of_ble_eq_true rfl) (fun p e s m args below meth c H C hr hk ls hl I => ?_)
  have hl : zL b ls 5 [(0, zi a0), (1, zi a1)] := hl
  rw [fX7_raised] at h
  refine z_lconst C (v := 1) dX7_raised_0 (by decide) ?_
  refine z_lstore_n C hl dX7_raised_1 rfl (by decide) (fun v1 => [(2, zl v1), (0, zi a0), (1, zi a1)]) (fun _ => rfl) (fun v1 e2 ls hl => ?_)
  have h := znb e2 h
  refine z_iconst C (v := 0) dX7_raised_2 (by decide) ?_
  refine z_istore C hl dX7_raised_3 (by decide) (fun v3 => [(4, zi v3), (2, zl v1), (0, zi a0), (1, zi a1)]) (fun _ => rfl) (fun v3 e4 ls hl => ?_)
  have h := znb e4 h
  exact bX7_raised_5 C hr hk 1000 _ _ _ _ _ _ _ _ h I (zL_sub hl [2, 3, 1, 0] rfl)

def fX7_chance_87 (n : Nat) (k41 : zM → Int32 → Int32 → Int32 → Int64 → Int32 → Option (Int64 × zM)) (S : zM) (x1 : Int32) (x2 : Int32) (x3 : Int32) (x4 : Int64) (x6 : Int32) : Option (Int64 × zM) := zbd (x6 + 1) fun v1 => k41 S x1 x2 x3 x4 v1
theorem bX7_chance_87 {p : Program} {l : Launch} {e : Env} {s : State} {m : MethodId} {args : Array Value} {below : List Frame} {meth : Method} {c : Code} {D : va_G} {tc : Nat → ClassId} {b n : Nat} {S' : zM} {r : Int64} (C : zC p m c cX7_chance 7 s args yX7_chance.cls D tc) (hr : meth.sig.returnType = some .long) (hk : meth.locks = false) {k41 : zM → Int32 → Int32 → Int32 → Int64 → Int32 → Option (Int64 × zM)} (K41 : ∀ (S : zM) (x1 : Int32) (x2 : Int32) (x3 : Int32) (x4 : Int64) (x6 : Int32) (H : Heap) (locs : List Loc) (ls : Array Slot), k41 S x1 x2 x3 x4 x6 = some (r, S') → zI D tc b n S s H locs → zL b ls 7 [(1, zi x1), (2, zi x2), (3, zi x3), (4, zl x4), (6, zi x6)] → W p l e (zR 1) s m args below meth c H locs 0 0 (zQl D tc b n S' r below args s) (zG b m 41 ls [])) : ∀ (S : zM) (x1 : Int32) (x2 : Int32) (x3 : Int32) (x4 : Int64) (x6 : Int32) (H : Heap) (locs : List Loc) (ls : Array Slot), fX7_chance_87 n k41 S x1 x2 x3 x4 x6 = some (r, S') → zI D tc b n S s H locs → zL b ls 7 [(1, zi x1), (2, zi x2), (3, zi x3), (4, zl x4), (6, zi x6)] → W p l e (zR 1) s m args below meth c H locs 0 0 (zQl D tc b n S' r below args s) (zG b m 87 ls []) := by
  intro S x1 x2 x3 x4 x6 H locs ls h I hl
  rw [fX7_chance_87] at h
  refine z_iinc C hl 4 (v := x6 + 1) rfl dX7_chance_87 rfl (by decide) (fun v1 => [(6, zi v1), (1, zi x1), (2, zi x2), (3, zi x3), (4, zl x4)]) (fun _ => rfl) (fun v1 e2 ls hl => ?_)
  have h := znb e2 h
  refine z_goto C 41 dX7_chance_90 (by decide) ?_
  exact K41 _ _ _ _ _ _ _ _ _ h I (zL_sub hl [1, 2, 3, 4, 0] rfl)

def fX7_chance_41 (n : Nat) : Nat → zM → Int32 → Int32 → Int32 → Int64 → Int32 → Option (Int64 × zM)
  | 0, _, _, _, _, _, _ => none
  | fu + 1, S, x1, x2, x3, x4, x6 => if (x1 : Int32) < (x6 : Int32) then (some (x4, S)) else (zca (fX7_isHalting n S x6 x1 x3) fun r2 S3 => if (r2 : Int32) = 0 then (zca (fX7_choices n S3 x1 x6) fun r6 S7 => zca (fX7_raised n S7 x2 x6) fun r9 S10 => zca (fX7_raised n S10 (10 - x2) (x1 - x6)) fun r12 S13 => zbd (x4 + ((r6 * r9) * r12)) fun v15 => fX7_chance_87 n (fX7_chance_41 n fu) S13 x1 x2 x3 v15 x6) else (fX7_chance_87 n (fX7_chance_41 n fu) S3 x1 x2 x3 x4 x6))
theorem bX7_chance_41 {p : Program} {l : Launch} {e : Env} {s : State} {m : MethodId} {args : Array Value} {below : List Frame} {meth : Method} {c : Code} {D : va_G} {tc : Nat → ClassId} {b n : Nat} {S' : zM} {r : Int64} (C : zC p m c cX7_chance 7 s args yX7_chance.cls D tc) (hr : meth.sig.returnType = some .long) (hk : meth.locks = false) : ∀ (fu : Nat) (S : zM) (x1 : Int32) (x2 : Int32) (x3 : Int32) (x4 : Int64) (x6 : Int32) (H : Heap) (locs : List Loc) (ls : Array Slot), fX7_chance_41 n fu S x1 x2 x3 x4 x6 = some (r, S') → zI D tc b n S s H locs → zL b ls 7 [(1, zi x1), (2, zi x2), (3, zi x3), (4, zl x4), (6, zi x6)] → W p l e (zR 1) s m args below meth c H locs 0 0 (zQl D tc b n S' r below args s) (zG b m 41 ls []) := by
  intro fu
  induction fu with
  | zero => intro S x1 x2 x3 x4 x6 H locs ls h _ _; rw [fX7_chance_41] at h; cases h
  | succ fu ih =>
    intro S x1 x2 x3 x4 x6 H locs ls h I hl
    rw [fX7_chance_41] at h
    refine z_iload C hl 4 rfl dX7_chance_41 ?_
    refine z_iload_n C hl 0 rfl dX7_chance_43 rfl ?_
    refine z_icmp_gt C 93 dX7_chance_44 (by decide) (fun c1 => ?_) (fun c1 => ?_)
    · have h := zit c1 h
      refine z_lload C hl 3 rfl dX7_chance_93 ?_
      exact z_lret C I hr hk h dX7_chance_95
    · have h := zif c1 h
      refine z_iload C hl 4 rfl dX7_chance_47 ?_
      refine z_iload_n C hl 0 rfl dX7_chance_49 rfl ?_
      refine z_iload_n C hl 2 rfl dX7_chance_50 rfl ?_
      obtain ⟨r2, S3, h4, h⟩ := zcs h
      refine z_callSi C I (tX7_isHalting l D tc b n h4) zyX7_isHalting zq_533 zq_548 (st := []) rfl rfl (by decide) (by decide) hl.1 (Nat.le_of_ble_eq_true rfl) dX7_chance_51 (fun H locs I => ?_)
      refine z_if_ne C 87 dX7_chance_54 (by decide) (fun c5 => ?_) (fun c5 => ?_)
      · have h := zif c5 h
        exact bX7_chance_87 C hr hk ih _ _ _ _ _ _ _ _ _ h I (zL_sub hl [0, 1, 2, 3, 4] rfl)
      · have h := zit c5 h
        refine z_lload C hl 3 rfl dX7_chance_57 ?_
        refine z_iload_n C hl 0 rfl dX7_chance_59 rfl ?_
        refine z_iload C hl 4 rfl dX7_chance_60 ?_
        obtain ⟨r6, S7, h8, h⟩ := zcs h
        refine z_callSl C I (tX7_choices l D tc b n h8) zyX7_choices zq_550 zq_549 (st := [zl x4]) rfl rfl (by decide) (by decide) hl.1 (Nat.le_of_ble_eq_true rfl) dX7_chance_62 (fun H locs I => ?_)
        refine z_iload_n C hl 1 rfl dX7_chance_65 rfl ?_
        refine z_iload C hl 4 rfl dX7_chance_66 ?_
        obtain ⟨r9, S10, h11, h⟩ := zcs h
        refine z_callSl C I (tX7_raised l D tc b n h11) zyX7_raised zq_553 zq_552 (st := [zl r6, zl x4]) rfl rfl (by decide) (by decide) hl.1 (Nat.le_of_ble_eq_true rfl) dX7_chance_68 (fun H locs I => ?_)
        refine z_lmul C dX7_chance_71 ?_
        refine z_bipush C (v := 10) dX7_chance_72 (by decide) ?_
        refine z_iload_n C hl 1 rfl dX7_chance_74 rfl ?_
        refine z_isub C dX7_chance_75 ?_
        refine z_iload_n C hl 0 rfl dX7_chance_76 rfl ?_
        refine z_iload C hl 4 rfl dX7_chance_77 ?_
        refine z_isub C dX7_chance_79 ?_
        obtain ⟨r12, S13, h14, h⟩ := zcs h
        refine z_callSl C I (tX7_raised l D tc b n h14) zyX7_raised zq_553 zq_552 (st := [zl (r6 * r9), zl x4]) rfl rfl (by decide) (by decide) hl.1 (Nat.le_of_ble_eq_true rfl) dX7_chance_80 (fun H locs I => ?_)
        refine z_lmul C dX7_chance_83 ?_
        refine z_ladd C dX7_chance_84 ?_
        refine z_lstore C hl dX7_chance_85 (by decide) (fun v15 => [(4, zl v15), (1, zi x1), (2, zi x2), (3, zi x3), (6, zi x6)]) (fun _ => rfl) (fun v15 e16 ls hl => ?_)
        have h := znb e16 h
        exact bX7_chance_87 C hr hk ih _ _ _ _ _ _ _ _ _ h I (zL_sub hl [1, 2, 3, 0, 4] rfl)

def fX7_chance (n : Nat) (S : zM) (a0 : Int32) (a1 : Int32) (a2 : Int32) (a3 : Int32) : Option (Int64 × zM) := if (a1 : Int32) < (1 : Int32) then (some ((-1000001), S)) else (if (12 : Int32) < (a1 : Int32) then (some ((-1000001), S)) else (if (a2 : Int32) < 0 then (some ((-1000001), S)) else (if (10 : Int32) < (a2 : Int32) then (some ((-1000001), S)) else (if (a3 : Int32) < 0 then (some ((-1000001), S)) else (if (a3 : Int32) ≤ (10 : Int32) then (zbd (0) fun v7 => zbd (0) fun v9 => fX7_chance_41 n 1000 S a1 a2 a3 v7 v9) else (some ((-1000001), S)))))))
theorem tX7_chance (l : Launch) (D : va_G) (tc : Nat → ClassId) (b n : Nat) {S S' : zM} {a0 : Int32} {a1 : Int32} {a2 : Int32} {a3 : Int32} {r : Int64} (h : fX7_chance n S a0 a1 a2 a3 = some (r, S')) : zMl l D tc b n yX7_chance cX7_chance 7 .long 1 [zr a0, zi a1, zi a2, zi a3] S S' r := by
  refine zMl_of zyX7_chance (Nat.le_of_ble_eq_true rfl) (fun p e s m args below meth c H C hr hk ls hl I => ?_)
  have hl : zL b ls 7 [(0, zr a0), (1, zi a1), (2, zi a2), (3, zi a3)] := hl
  rw [fX7_chance] at h
  refine z_iload_n C hl 1 rfl dX7_chance_0 rfl ?_
  refine z_iconst C (v := 1) dX7_chance_1 (by decide) ?_
  refine z_icmp_lt C 31 dX7_chance_2 (by decide) (fun c1 => ?_) (fun c1 => ?_)
  · have h := zit c1 h
    refine z_ldc2 C zq_547 dX7_chance_31 ?_
    exact z_lret C I hr hk h dX7_chance_34
  · have h := zif c1 h
    refine z_iload_n C hl 1 rfl dX7_chance_5 rfl ?_
    refine z_bipush C (v := 12) dX7_chance_6 (by decide) ?_
    refine z_icmp_gt C 31 dX7_chance_8 (by decide) (fun c2 => ?_) (fun c2 => ?_)
    · have h := zit c2 h
      refine z_ldc2 C zq_547 dX7_chance_31 ?_
      exact z_lret C I hr hk h dX7_chance_34
    · have h := zif c2 h
      refine z_iload_n C hl 2 rfl dX7_chance_11 rfl ?_
      refine z_if_lt C 31 dX7_chance_12 (by decide) (fun c3 => ?_) (fun c3 => ?_)
      · have h := zit c3 h
        refine z_ldc2 C zq_547 dX7_chance_31 ?_
        exact z_lret C I hr hk h dX7_chance_34
      · have h := zif c3 h
        refine z_iload_n C hl 2 rfl dX7_chance_15 rfl ?_
        refine z_bipush C (v := 10) dX7_chance_16 (by decide) ?_
        refine z_icmp_gt C 31 dX7_chance_18 (by decide) (fun c4 => ?_) (fun c4 => ?_)
        · have h := zit c4 h
          refine z_ldc2 C zq_547 dX7_chance_31 ?_
          exact z_lret C I hr hk h dX7_chance_34
        · have h := zif c4 h
          refine z_iload_n C hl 3 rfl dX7_chance_21 rfl ?_
          refine z_if_lt C 31 dX7_chance_22 (by decide) (fun c5 => ?_) (fun c5 => ?_)
          · have h := zit c5 h
            refine z_ldc2 C zq_547 dX7_chance_31 ?_
            exact z_lret C I hr hk h dX7_chance_34
          · have h := zif c5 h
            refine z_iload_n C hl 3 rfl dX7_chance_25 rfl ?_
            refine z_bipush C (v := 10) dX7_chance_26 (by decide) ?_
            refine z_icmp_le C 35 dX7_chance_28 (by decide) (fun c6 => ?_) (fun c6 => ?_)
            · have h := zit c6 h
              refine z_lconst C (v := 0) dX7_chance_35 (by decide) ?_
              refine z_lstore C hl dX7_chance_36 (by decide) (fun v7 => [(4, zl v7), (0, zr a0), (1, zi a1), (2, zi a2), (3, zi a3)]) (fun _ => rfl) (fun v7 e8 ls hl => ?_)
              have h := znb e8 h
              refine z_iconst C (v := 0) dX7_chance_38 (by decide) ?_
              refine z_istore C hl dX7_chance_39 (by decide) (fun v9 => [(6, zi v9), (4, zl v7), (0, zr a0), (1, zi a1), (2, zi a2), (3, zi a3)]) (fun _ => rfl) (fun v9 e10 ls hl => ?_)
              have h := znb e10 h
              exact bX7_chance_41 C hr hk 1000 _ _ _ _ _ _ _ _ _ h I (zL_sub hl [3, 4, 5, 1, 0] rfl)
            · have h := zif c6 h
              refine z_ldc2 C zq_547 dX7_chance_31 ?_
              exact z_lret C I hr hk h dX7_chance_34

def fX7_kindOf (n : Nat) (S : zM) (a0 : Int32) (a1 : Int32) : Option (Int32 × zM) := zd (zo n 17 a0) <| zca (fX7_isFresh n S a0 a1) fun r2 S3 => if (r2 : Int32) = 0 then (zd (zo n 12 a1) <| if (zg S3 a1 10 : Int32) < (2 : Int32) then (some (0, S3)) else (some (3, S3))) else (zd (zo n 12 a1) <| if (zg S3 a1 9 : Int32) = 0 then (some (2, S3)) else (some (1, S3)))
theorem tX7_kindOf (l : Launch) (D : va_G) (tc : Nat → ClassId) (b n : Nat) {S S' : zM} {a0 : Int32} {a1 : Int32} {r : Int32} (h : fX7_kindOf n S a0 a1 = some (r, S')) : zMi l D tc b n yX7_kindOf cX7_kindOf 2 .int 2 [zr a0, zr a1] S S' r := by
  refine zMi_of zyX7_kindOf (Nat.le_of_ble_eq_true rfl) (fun p e s m args below meth c H C hr hk ls hl I => ?_)
  have hl : zL b ls 2 [(0, zr a0), (1, zr a1)] := hl
  rw [fX7_kindOf] at h
  refine z_aload_n C hl 0 rfl dX7_kindOf_0 rfl ?_
  refine z_aload_n C hl 1 rfl dX7_kindOf_1 rfl ?_
  obtain ⟨g1, h⟩ := zd_some h
  obtain ⟨r2, S3, h4, h⟩ := zcs h
  refine z_callVi C I (tX7_isFresh l D tc b n h4) zyX7_isFresh zyvX7_isFresh zc7 g1 zq_444 (st := []) rfl rfl (by decide) (by decide) hl.1 (Nat.le_of_ble_eq_true rfl) dX7_kindOf_2 (fun H locs I => ?_)
  refine z_if_eq C 21 dX7_kindOf_5 (by decide) (fun c5 => ?_) (fun c5 => ?_)
  · have h := zit c5 h
    refine z_aload_n C hl 1 rfl dX7_kindOf_21 rfl ?_
    obtain ⟨g6, h⟩ := zd_some h
    refine z_get C I 2 10 zc2 g6 (by decide) zq_97 (v := zi (zg S3 a1 10)) rfl dX7_kindOf_22 ?_
    refine z_iconst C (v := 2) dX7_kindOf_25 (by decide) ?_
    refine z_icmp_lt C 33 dX7_kindOf_26 (by decide) (fun c7 => ?_) (fun c7 => ?_)
    · have h := zit c7 h
      refine z_iconst C (v := 0) dX7_kindOf_33 (by decide) ?_
      exact z_iret C I hr hk h dX7_kindOf_34
    · have h := zif c7 h
      refine z_iconst C (v := 3) dX7_kindOf_29 (by decide) ?_
      refine z_goto C 34 dX7_kindOf_30 (by decide) ?_
      exact z_iret C I hr hk h dX7_kindOf_34
  · have h := zif c5 h
    refine z_aload_n C hl 1 rfl dX7_kindOf_8 rfl ?_
    obtain ⟨g8, h⟩ := zd_some h
    refine z_get C I 2 9 zc2 g8 (by decide) zq_96 (v := zi (zg S3 a1 9)) rfl dX7_kindOf_9 ?_
    refine z_if_ne C 19 dX7_kindOf_12 (by decide) (fun c9 => ?_) (fun c9 => ?_)
    · have h := zif c9 h
      refine z_iconst C (v := 1) dX7_kindOf_19 (by decide) ?_
      exact z_iret C I hr hk h dX7_kindOf_20
    · have h := zit c9 h
      refine z_iconst C (v := 2) dX7_kindOf_15 (by decide) ?_
      refine z_goto C 20 dX7_kindOf_16 (by decide) ?_
      exact z_iret C I hr hk h dX7_kindOf_20

def fX7_kind (n : Nat) (S : zM) (a0 : Int32) (a1 : Int32) : Option (Int32 × zM) := zd (zo n 17 a0) <| zca (fX7_isDevice n S a0 a1) fun r2 S3 => if (r2 : Int32) = 0 then (some ((-1000001), S3)) else (zd (za n 4 (zg S3 a0 4) a1) <| zca (fX7_kindOf n S3 a0 (ze S3 (zg S3 a0 4) a1)) fun r7 S8 => some (r7, S8))
theorem tX7_kind (l : Launch) (D : va_G) (tc : Nat → ClassId) (b n : Nat) {S S' : zM} {a0 : Int32} {a1 : Int32} {r : Int32} (h : fX7_kind n S a0 a1 = some (r, S')) : zMi l D tc b n yX7_kind cX7_kind 2 .int 3 [zr a0, zi a1] S S' r := by
  refine zMi_of zyX7_kind (Nat.le_of_ble_eq_true rfl) (fun p e s m args below meth c H C hr hk ls hl I => ?_)
  have hl : zL b ls 2 [(0, zr a0), (1, zi a1)] := hl
  rw [fX7_kind] at h
  refine z_aload_n C hl 0 rfl dX7_kind_0 rfl ?_
  refine z_iload_n C hl 1 rfl dX7_kind_1 rfl ?_
  obtain ⟨g1, h⟩ := zd_some h
  obtain ⟨r2, S3, h4, h⟩ := zcs h
  refine z_callVi C I (tX7_isDevice l D tc b n h4) zyX7_isDevice zyvX7_isDevice zc7 g1 zq_361 (st := []) rfl rfl (by decide) (by decide) hl.1 (Nat.le_of_ble_eq_true rfl) dX7_kind_2 (fun H locs I => ?_)
  refine z_if_ne C 11 dX7_kind_5 (by decide) (fun c5 => ?_) (fun c5 => ?_)
  · have h := zif c5 h
    refine z_aload_n C hl 0 rfl dX7_kind_11 rfl ?_
    refine z_aload_n C hl 0 rfl dX7_kind_12 rfl ?_
    refine z_get C I 7 4 zc7 g1 (by decide) zq_232 (v := zr (zg S3 a0 4)) rfl dX7_kind_13 ?_
    refine z_iload_n C hl 1 rfl dX7_kind_16 rfl ?_
    obtain ⟨g6, h⟩ := zd_some h
    refine z_aald C I 4 (by decide) g6 dX7_kind_17 ?_
    obtain ⟨r7, S8, h9, h⟩ := zcs h
    refine z_callVi C I (tX7_kindOf l D tc b n h9) zyX7_kindOf zyvX7_kindOf zc7 g1 zq_559 (st := []) rfl rfl (by decide) (by decide) hl.1 (Nat.le_of_ble_eq_true rfl) dX7_kind_18 (fun H locs I => ?_)
    exact z_iret C I hr hk h dX7_kind_21
  · have h := zit c5 h
    refine z_ldc C zq_269 dX7_kind_8 ?_
    exact z_iret C I hr hk h dX7_kind_10

def fX7_isOfKind (n : Nat) (S : zM) (a0 : Int32) (a1 : Int32) (a2 : Int32) : Option (Int32 × zM) := zd (zo n 17 a0) <| zca (fX7_kindOf n S a0 a1) fun r2 S3 => zbd (r2) fun v5 => if (a2 : Int32) = 0 then (some (1, S3)) else (if (a2 : Int32) = (v5 : Int32) then (some (1, S3)) else (if (a2 : Int32) = (1 : Int32) then (if (v5 : Int32) = (2 : Int32) then (some (1, S3)) else (some (0, S3))) else (some (0, S3))))
theorem tX7_isOfKind (l : Launch) (D : va_G) (tc : Nat → ClassId) (b n : Nat) {S S' : zM} {a0 : Int32} {a1 : Int32} {a2 : Int32} {r : Int32} (h : fX7_isOfKind n S a0 a1 a2 = some (r, S')) : zMi l D tc b n yX7_isOfKind cX7_isOfKind 4 .boolean 3 [zr a0, zr a1, zi a2] S S' r := by
  refine zMi_of zyX7_isOfKind (Nat.le_of_ble_eq_true rfl) (fun p e s m args below meth c H C hr hk ls hl I => ?_)
  have hl : zL b ls 4 [(0, zr a0), (1, zr a1), (2, zi a2)] := hl
  rw [fX7_isOfKind] at h
  refine z_aload_n C hl 0 rfl dX7_isOfKind_0 rfl ?_
  refine z_aload_n C hl 1 rfl dX7_isOfKind_1 rfl ?_
  obtain ⟨g1, h⟩ := zd_some h
  obtain ⟨r2, S3, h4, h⟩ := zcs h
  refine z_callVi C I (tX7_kindOf l D tc b n h4) zyX7_kindOf zyvX7_kindOf zc7 g1 zq_559 (st := []) rfl rfl (by decide) (by decide) hl.1 (Nat.le_of_ble_eq_true rfl) dX7_isOfKind_2 (fun H locs I => ?_)
  refine z_istore_n C hl dX7_isOfKind_5 rfl (by decide) (fun v5 => [(3, zi v5), (0, zr a0), (1, zr a1), (2, zi a2)]) (fun _ => rfl) (fun v5 e6 ls hl => ?_)
  have h := znb e6 h
  refine z_iload_n C hl 3 rfl dX7_isOfKind_6 rfl ?_
  refine z_if_eq C 25 dX7_isOfKind_7 (by decide) (fun c7 => ?_) (fun c7 => ?_)
  · have h := zit c7 h
    refine z_iconst C (v := 1) dX7_isOfKind_25 (by decide) ?_
    refine z_goto C 30 dX7_isOfKind_26 (by decide) ?_
    exact z_zret C I hr hk rfl h dX7_isOfKind_30
  · have h := zif c7 h
    refine z_iload_n C hl 3 rfl dX7_isOfKind_10 rfl ?_
    refine z_iload_n C hl 0 rfl dX7_isOfKind_11 rfl ?_
    refine z_icmp_eq C 25 dX7_isOfKind_12 (by decide) (fun c8 => ?_) (fun c8 => ?_)
    · have h := zit c8 h
      refine z_iconst C (v := 1) dX7_isOfKind_25 (by decide) ?_
      refine z_goto C 30 dX7_isOfKind_26 (by decide) ?_
      exact z_zret C I hr hk rfl h dX7_isOfKind_30
    · have h := zif c8 h
      refine z_iload_n C hl 3 rfl dX7_isOfKind_15 rfl ?_
      refine z_iconst C (v := 1) dX7_isOfKind_16 (by decide) ?_
      refine z_icmp_ne C 29 dX7_isOfKind_17 (by decide) (fun c9 => ?_) (fun c9 => ?_)
      · have h := zif c9 h
        refine z_iconst C (v := 0) dX7_isOfKind_29 (by decide) ?_
        exact z_zret C I hr hk rfl h dX7_isOfKind_30
      · have h := zit c9 h
        refine z_iload_n C hl 0 rfl dX7_isOfKind_20 rfl ?_
        refine z_iconst C (v := 2) dX7_isOfKind_21 (by decide) ?_
        refine z_icmp_ne C 29 dX7_isOfKind_22 (by decide) (fun c10 => ?_) (fun c10 => ?_)
        · have h := zif c10 h
          refine z_iconst C (v := 0) dX7_isOfKind_29 (by decide) ?_
          exact z_zret C I hr hk rfl h dX7_isOfKind_30
        · have h := zit c10 h
          refine z_iconst C (v := 1) dX7_isOfKind_25 (by decide) ?_
          refine z_goto C 30 dX7_isOfKind_26 (by decide) ?_
          exact z_zret C I hr hk rfl h dX7_isOfKind_30

def fX7_as (n : Nat) (S : zM) (a0 : Int32) (a1 : Int32) (a2 : Int32) : Option (Int32 × zM) := zd (zo n 17 a0) <| zca (fX7_isDevice n S a0 a1) fun r2 S3 => if (r2 : Int32) = 0 then (some ((-1000001), S3)) else (if (a2 : Int32) < 0 then (some ((-1000001), S3)) else (if (a2 : Int32) ≤ (3 : Int32) then (zd (za n 4 (zg S3 a0 4) a1) <| zbd (ze S3 (zg S3 a0 4) a1) fun v9 => zca (fX7_isOfKind n S3 a0 v9 a2) fun r11 S12 => if (r11 : Int32) = 0 then (zca (fX7_found n S12 a0 3) fun r19 S20 => some (r19, S20)) else (zd (zo n 12 v9) <| zca (fX7_passed n S12 a0 (zg S12 v9 1)) fun r16 S17 => some (r16, S17))) else (some ((-1000001), S3))))
theorem tX7_as (l : Launch) (D : va_G) (tc : Nat → ClassId) (b n : Nat) {S S' : zM} {a0 : Int32} {a1 : Int32} {a2 : Int32} {r : Int32} (h : fX7_as n S a0 a1 a2 = some (r, S')) : zMi l D tc b n yX7_as cX7_as 4 .int 4 [zr a0, zi a1, zi a2] S S' r := by
  refine zMi_of zyX7_as (Nat.le_of_ble_eq_true rfl) (fun p e s m args below meth c H C hr hk ls hl I => ?_)
  have hl : zL b ls 4 [(0, zr a0), (1, zi a1), (2, zi a2)] := hl
  rw [fX7_as] at h
  refine z_aload_n C hl 0 rfl dX7_as_0 rfl ?_
  refine z_iload_n C hl 1 rfl dX7_as_1 rfl ?_
  obtain ⟨g1, h⟩ := zd_some h
  obtain ⟨r2, S3, h4, h⟩ := zcs h
  refine z_callVi C I (tX7_isDevice l D tc b n h4) zyX7_isDevice zyvX7_isDevice zc7 g1 zq_361 (st := []) rfl rfl (by decide) (by decide) hl.1 (Nat.le_of_ble_eq_true rfl) dX7_as_2 (fun H locs I => ?_)
  refine z_if_eq C 17 dX7_as_5 (by decide) (fun c5 => ?_) (fun c5 => ?_)
  · have h := zit c5 h
    refine z_ldc C zq_269 dX7_as_17 ?_
    exact z_iret C I hr hk h dX7_as_19
  · have h := zif c5 h
    refine z_iload_n C hl 2 rfl dX7_as_8 rfl ?_
    refine z_if_lt C 17 dX7_as_9 (by decide) (fun c6 => ?_) (fun c6 => ?_)
    · have h := zit c6 h
      refine z_ldc C zq_269 dX7_as_17 ?_
      exact z_iret C I hr hk h dX7_as_19
    · have h := zif c6 h
      refine z_iload_n C hl 2 rfl dX7_as_12 rfl ?_
      refine z_iconst C (v := 3) dX7_as_13 (by decide) ?_
      refine z_icmp_le C 20 dX7_as_14 (by decide) (fun c7 => ?_) (fun c7 => ?_)
      · have h := zit c7 h
        refine z_aload_n C hl 0 rfl dX7_as_20 rfl ?_
        refine z_get C I 7 4 zc7 g1 (by decide) zq_232 (v := zr (zg S3 a0 4)) rfl dX7_as_21 ?_
        refine z_iload_n C hl 1 rfl dX7_as_24 rfl ?_
        obtain ⟨g8, h⟩ := zd_some h
        refine z_aald C I 4 (by decide) g8 dX7_as_25 ?_
        refine z_astore_n C hl dX7_as_26 rfl (by decide) (fun v9 => [(3, zr v9), (0, zr a0), (1, zi a1), (2, zi a2)]) (fun _ => rfl) (fun v9 e10 ls hl => ?_)
        have h := znb e10 h
        refine z_aload_n C hl 1 rfl dX7_as_27 rfl ?_
        refine z_aload_n C hl 0 rfl dX7_as_28 rfl ?_
        refine z_iload_n C hl 3 rfl dX7_as_29 rfl ?_
        obtain ⟨r11, S12, h13, h⟩ := zcs h
        refine z_callVi C I (tX7_isOfKind l D tc b n h13) zyX7_isOfKind zyvX7_isOfKind zc7 g1 zq_567 (st := []) rfl rfl (by decide) (by decide) hl.1 (Nat.le_of_ble_eq_true rfl) dX7_as_30 (fun H locs I => ?_)
        refine z_if_ne C 42 dX7_as_33 (by decide) (fun c14 => ?_) (fun c14 => ?_)
        · have h := zif c14 h
          refine z_aload_n C hl 1 rfl dX7_as_42 rfl ?_
          refine z_aload_n C hl 0 rfl dX7_as_43 rfl ?_
          obtain ⟨g15, h⟩ := zd_some h
          refine z_get C I 2 1 zc2 g15 (by decide) zq_79 (v := zi (zg S12 v9 1)) rfl dX7_as_44 ?_
          obtain ⟨r16, S17, h18, h⟩ := zcs h
          refine z_callVi C I (tX7_passed l D tc b n h18) zyX7_passed zyvX7_passed zc7 g1 zq_279 (st := []) rfl rfl (by decide) (by decide) hl.1 (Nat.le_of_ble_eq_true rfl) dX7_as_47 (fun H locs I => ?_)
          exact z_iret C I hr hk h dX7_as_50
        · have h := zit c14 h
          refine z_aload_n C hl 1 rfl dX7_as_36 rfl ?_
          refine z_iconst C (v := 3) dX7_as_37 (by decide) ?_
          obtain ⟨r19, S20, h21, h⟩ := zcs h
          refine z_callVi C I (tX7_found l D tc b n h21) zyX7_found zyvX7_found zc7 g1 zq_270 (st := []) rfl rfl (by decide) (by decide) hl.1 (Nat.le_of_ble_eq_true rfl) dX7_as_38 (fun H locs I => ?_)
          exact z_iret C I hr hk h dX7_as_41
      · have h := zif c7 h
        refine z_ldc C zq_269 dX7_as_17 ?_
        exact z_iret C I hr hk h dX7_as_19

