def fX8_in (n : Nat) (S : zM) (a0 : Int64) (a1 : Int64) (a2 : Int64) : Option (Int32 × zM) := if (lg_cmp a0 a1 : Int32) < 0 then (some (0, S)) else (if 0 < (lg_cmp a0 a2 : Int32) then (some (0, S)) else (some (1, S)))
theorem tX8_in (l : Launch) (D : va_G) (tc : Nat → ClassId) (b n : Nat) {S S' : zM} {a0 : Int64} {a1 : Int64} {a2 : Int64} {r : Int32} (h : fX8_in n S a0 a1 a2 = some (r, S')) : zMi l D tc b n yX8_in cX8_in 6 .boolean 0 [zl a0, zl a1, zl a2] S S' r := by
  refine zMi_of zyX8_in (Nat.le_of_ble_eq_true rfl) (fun p e s m args below meth c H C hr hk ls hl I => ?_)
  have hl : zL b ls 6 [(0, zl a0), (2, zl a1), (4, zl a2)] := hl
  rw [fX8_in] at h
  refine z_lload_n C hl 0 rfl dX8_in_0 rfl ?_
  refine z_lload_n C hl 1 rfl dX8_in_1 rfl ?_
  refine z_lcmp C dX8_in_2 ?_
  refine z_if_lt C 17 dX8_in_3 (by decide) (fun c1 => ?_) (fun c1 => ?_)
  · have h := zit c1 h
    refine z_iconst C (v := 0) dX8_in_17 (by decide) ?_
    exact z_zret C I hr hk rfl h dX8_in_18
  · have h := zif c1 h
    refine z_lload_n C hl 0 rfl dX8_in_6 rfl ?_
    refine z_lload C hl 2 rfl dX8_in_7 ?_
    refine z_lcmp C dX8_in_9 ?_
    refine z_if_gt C 17 dX8_in_10 (by decide) (fun c2 => ?_) (fun c2 => ?_)
    · have h := zit c2 h
      refine z_iconst C (v := 0) dX8_in_17 (by decide) ?_
      exact z_zret C I hr hk rfl h dX8_in_18
    · have h := zif c2 h
      refine z_iconst C (v := 1) dX8_in_13 (by decide) ?_
      refine z_goto C 18 dX8_in_14 (by decide) ?_
      exact z_zret C I hr hk rfl h dX8_in_18

def fX8_isSheet (n : Nat) (S : zM) (a0 : Int32) : Option (Int32 × zM) := zca (fX8_in n S ((a0 : Int32).toInt64) 0 7) fun r1 S2 => zd (zbit r1) <| some (r1, S2)
theorem tX8_isSheet (l : Launch) (D : va_G) (tc : Nat → ClassId) (b n : Nat) {S S' : zM} {a0 : Int32} {r : Int32} (h : fX8_isSheet n S a0 = some (r, S')) : zMi l D tc b n yX8_isSheet cX8_isSheet 1 .boolean 1 [zi a0] S S' r := by
  refine zMi_of zyX8_isSheet (Nat.le_of_ble_eq_true rfl) (fun p e s m args below meth c H C hr hk ls hl I => ?_)
  have hl : zL b ls 1 [(0, zi a0)] := hl
  rw [fX8_isSheet] at h
  refine z_iload_n C hl 0 rfl dX8_isSheet_0 rfl ?_
  refine z_i2l C dX8_isSheet_1 ?_
  refine z_lconst C (v := 0) dX8_isSheet_2 (by decide) ?_
  refine z_ldc2 C zq_778 dX8_isSheet_3 ?_
  obtain ⟨r1, S2, h3, h⟩ := zcs h
  refine z_callSi C I (tX8_in l D tc b n h3) zyX8_in zq_780 zq_779 (st := []) rfl rfl (by decide) (by decide) hl.1 (Nat.le_of_ble_eq_true rfl) dX8_isSheet_6 (fun H locs I => ?_)
  obtain ⟨g4, h⟩ := zd_some h
  exact z_zret C I hr hk g4 h dX8_isSheet_9

def fX8_found (n : Nat) (S : zM) (a0 : Int32) (a1 : Int32) : Option (Int32 × zM) := zd (zo n 18 a0) <| zbd (zp S a0 1 a1) fun S2 => some ((-1000010) - a1, S2)
theorem tX8_found (l : Launch) (D : va_G) (tc : Nat → ClassId) (b n : Nat) {S S' : zM} {a0 : Int32} {a1 : Int32} {r : Int32} (h : fX8_found n S a0 a1 = some (r, S')) : zMi l D tc b n yX8_found cX8_found 2 .int 0 [zr a0, zi a1] S S' r := by
  refine zMi_of zyX8_found (Nat.le_of_ble_eq_true rfl) (fun p e s m args below meth c H C hr hk ls hl I => ?_)
  have hl : zL b ls 2 [(0, zr a0), (1, zi a1)] := hl
  rw [fX8_found] at h
  refine z_aload_n C hl 0 rfl dX8_found_0 rfl ?_
  refine z_iload_n C hl 1 rfl dX8_found_1 rfl ?_
  obtain ⟨g1, h⟩ := zd_some h
  refine z_put C I 8 1 zc8 g1 (by decide) rfl zq_657 rfl (v := zi a1) rfl dX8_found_2 (fun S2 e3 H locs I => ?_)
  have h := znb e3 h
  refine z_ldc C zq_788 dX8_found_5 ?_
  refine z_iload_n C hl 1 rfl dX8_found_7 rfl ?_
  refine z_isub C dX8_found_8 ?_
  exact z_iret C I hr hk h dX8_found_9

def fX8_sheet_65 (n : Nat) : Nat → zM → Int32 → Int32 → Int32 → Int32 → Option (Int32 × zM)
  | 0, _, _, _, _, _ => none
  | fu + 1, S, x0, x1, x3, x4 => if (60 : Int32) ≤ (x4 : Int32) then (some (x3, S)) else (zd (zo n 18 x0) <| zd (za n 0 (zg S x0 4) ((60 * x1) + x4)) <| zbd (zq S (zg S x0 4) ((60 * x1) + x4) 0) fun S4 => zbd (x4 + 1) fun v6 => fX8_sheet_65 n fu S4 x0 x1 x3 v6)
theorem bX8_sheet_65 {p : Program} {l : Launch} {e : Env} {s : State} {m : MethodId} {args : Array Value} {below : List Frame} {meth : Method} {c : Code} {D : va_G} {tc : Nat → ClassId} {b n : Nat} {S' : zM} {r : Int32} (C : zC p m c cX8_sheet 5 s args yX8_sheet.cls D tc) (hr : meth.sig.returnType = some .int) (hk : meth.locks = false) : ∀ (fu : Nat) (S : zM) (x0 : Int32) (x1 : Int32) (x3 : Int32) (x4 : Int32) (H : Heap) (locs : List Loc) (ls : Array Slot), fX8_sheet_65 n fu S x0 x1 x3 x4 = some (r, S') → zI D tc b n S s H locs → zL b ls 5 [(0, zr x0), (1, zi x1), (3, zi x3), (4, zi x4)] → W p l e (zR 2) s m args below meth c H locs 0 0 (zQi D tc b n S' r below args s) (zG b m 65 ls []) := by
  intro fu
  induction fu with
  | zero => intro S x0 x1 x3 x4 H locs ls h _ _; rw [fX8_sheet_65] at h; cases h
  | succ fu ih =>
    intro S x0 x1 x3 x4 H locs ls h I hl
    rw [fX8_sheet_65] at h
    refine z_iload C hl 3 rfl dX8_sheet_65 ?_
    refine z_bipush C (v := 60) dX8_sheet_67 (by decide) ?_
    refine z_icmp_ge C 91 dX8_sheet_69 (by decide) (fun c1 => ?_) (fun c1 => ?_)
    · have h := zit c1 h
      refine z_iload_n C hl 2 rfl dX8_sheet_91 rfl ?_
      exact z_iret C I hr hk h dX8_sheet_92
    · have h := zif c1 h
      refine z_aload_n C hl 0 rfl dX8_sheet_72 rfl ?_
      obtain ⟨g2, h⟩ := zd_some h
      refine z_get C I 8 4 zc8 g2 (by decide) zq_660 (v := zr (zg S x0 4)) rfl dX8_sheet_73 ?_
      refine z_bipush C (v := 60) dX8_sheet_76 (by decide) ?_
      refine z_iload_n C hl 1 rfl dX8_sheet_78 rfl ?_
      refine z_imul C dX8_sheet_79 ?_
      refine z_iload C hl 3 rfl dX8_sheet_80 ?_
      refine z_iadd C dX8_sheet_82 ?_
      refine z_iconst C (v := 0) dX8_sheet_83 (by decide) ?_
      obtain ⟨g3, h⟩ := zd_some h
      refine z_iast C I g3 dX8_sheet_84 (fun S4 e5 H locs I => ?_)
      have h := znb e5 h
      refine z_iinc C hl 3 (v := x4 + 1) rfl dX8_sheet_85 rfl (by decide) (fun v6 => [(4, zi v6), (0, zr x0), (1, zi x1), (3, zi x3)]) (fun _ => rfl) (fun v6 e7 ls hl => ?_)
      have h := znb e7 h
      refine z_goto C 65 dX8_sheet_88 (by decide) ?_
      exact ih _ _ _ _ _ _ _ _ h I (zL_sub hl [1, 2, 3, 0] rfl)

def fX8_sheet (n : Nat) (S : zM) (a0 : Int32) (a1 : Int32) (a2 : Int32) (a3 : Int32) : Option (Int32 × zM) := zd (zo n 18 a0) <| zbd (zp S a0 0 0) fun S2 => zca (fX8_isSheet n S2 a1) fun r4 S5 => if (r4 : Int32) = 0 then (some ((-1000001), S5)) else (zca (fX8_in n S5 ((a2 : Int32).toInt64) 0 2) fun r8 S9 => if (r8 : Int32) = 0 then (some ((-1000001), S9)) else (if (a3 : Int32) ≤ (60 : Int32) then (zbd (zp S9 a0 1 0) fun S13 => if 0 ≤ (a3 : Int32) then (zd (za n 0 (zg S13 a0 2) a1) <| zbd (zq S13 (zg S13 a0 2) a1 a2) fun S17 => zd (za n 0 (zg S17 a0 3) a1) <| zbd (zq S17 (zg S17 a0 3) a1 a3) fun S20 => zbd (0) fun v22 => fX8_sheet_65 n 1000 S20 a0 a1 a3 v22) else (zca (fX8_found n S13 a0 4) fun r24 S25 => some (r24, S25))) else (some ((-1000001), S9))))
theorem tX8_sheet (l : Launch) (D : va_G) (tc : Nat → ClassId) (b n : Nat) {S S' : zM} {a0 : Int32} {a1 : Int32} {a2 : Int32} {a3 : Int32} {r : Int32} (h : fX8_sheet n S a0 a1 a2 a3 = some (r, S')) : zMi l D tc b n yX8_sheet cX8_sheet 5 .int 2 [zr a0, zi a1, zi a2, zi a3] S S' r := by
  refine zMi_of zyX8_sheet (Nat.le_of_ble_eq_true rfl) (fun p e s m args below meth c H C hr hk ls hl I => ?_)
  have hl : zL b ls 5 [(0, zr a0), (1, zi a1), (2, zi a2), (3, zi a3)] := hl
  rw [fX8_sheet] at h
  refine z_aload_n C hl 0 rfl dX8_sheet_0 rfl ?_
  refine z_iconst C (v := 0) dX8_sheet_1 (by decide) ?_
  obtain ⟨g1, h⟩ := zd_some h
  refine z_put C I 8 0 zc8 g1 (by decide) rfl zq_656 rfl (v := zi 0) rfl dX8_sheet_2 (fun S2 e3 H locs I => ?_)
  have h := znb e3 h
  refine z_iload_n C hl 1 rfl dX8_sheet_5 rfl ?_
  obtain ⟨r4, S5, h6, h⟩ := zcs h
  refine z_callSi C I (tX8_isSheet l D tc b n h6) zyX8_isSheet zq_776 zq_775 (st := []) rfl rfl (by decide) (by decide) hl.1 (Nat.le_of_ble_eq_true rfl) dX8_sheet_6 (fun H locs I => ?_)
  refine z_if_eq C 30 dX8_sheet_9 (by decide) (fun c7 => ?_) (fun c7 => ?_)
  · have h := zit c7 h
    refine z_ldc C zq_783 dX8_sheet_30 ?_
    exact z_iret C I hr hk h dX8_sheet_32
  · have h := zif c7 h
    refine z_iload_n C hl 2 rfl dX8_sheet_12 rfl ?_
    refine z_i2l C dX8_sheet_13 ?_
    refine z_lconst C (v := 0) dX8_sheet_14 (by decide) ?_
    refine z_ldc2 C zq_782 dX8_sheet_15 ?_
    obtain ⟨r8, S9, h10, h⟩ := zcs h
    refine z_callSi C I (tX8_in l D tc b n h10) zyX8_in zq_780 zq_779 (st := []) rfl rfl (by decide) (by decide) hl.1 (Nat.le_of_ble_eq_true rfl) dX8_sheet_18 (fun H locs I => ?_)
    refine z_if_eq C 30 dX8_sheet_21 (by decide) (fun c11 => ?_) (fun c11 => ?_)
    · have h := zit c11 h
      refine z_ldc C zq_783 dX8_sheet_30 ?_
      exact z_iret C I hr hk h dX8_sheet_32
    · have h := zif c11 h
      refine z_iload_n C hl 3 rfl dX8_sheet_24 rfl ?_
      refine z_bipush C (v := 60) dX8_sheet_25 (by decide) ?_
      refine z_icmp_le C 33 dX8_sheet_27 (by decide) (fun c12 => ?_) (fun c12 => ?_)
      · have h := zit c12 h
        refine z_aload_n C hl 0 rfl dX8_sheet_33 rfl ?_
        refine z_iconst C (v := 0) dX8_sheet_34 (by decide) ?_
        refine z_put C I 8 1 zc8 g1 (by decide) rfl zq_657 rfl (v := zi 0) rfl dX8_sheet_35 (fun S13 e14 H locs I => ?_)
        have h := znb e14 h
        refine z_iload_n C hl 3 rfl dX8_sheet_38 rfl ?_
        refine z_if_ge C 48 dX8_sheet_39 (by decide) (fun c15 => ?_) (fun c15 => ?_)
        · have h := zit c15 h
          refine z_aload_n C hl 0 rfl dX8_sheet_48 rfl ?_
          refine z_get C I 8 2 zc8 g1 (by decide) zq_658 (v := zr (zg S13 a0 2)) rfl dX8_sheet_49 ?_
          refine z_iload_n C hl 1 rfl dX8_sheet_52 rfl ?_
          refine z_iload_n C hl 2 rfl dX8_sheet_53 rfl ?_
          obtain ⟨g16, h⟩ := zd_some h
          refine z_iast C I g16 dX8_sheet_54 (fun S17 e18 H locs I => ?_)
          have h := znb e18 h
          refine z_aload_n C hl 0 rfl dX8_sheet_55 rfl ?_
          refine z_get C I 8 3 zc8 g1 (by decide) zq_659 (v := zr (zg S17 a0 3)) rfl dX8_sheet_56 ?_
          refine z_iload_n C hl 1 rfl dX8_sheet_59 rfl ?_
          refine z_iload_n C hl 3 rfl dX8_sheet_60 rfl ?_
          obtain ⟨g19, h⟩ := zd_some h
          refine z_iast C I g19 dX8_sheet_61 (fun S20 e21 H locs I => ?_)
          have h := znb e21 h
          refine z_iconst C (v := 0) dX8_sheet_62 (by decide) ?_
          refine z_istore C hl dX8_sheet_63 (by decide) (fun v22 => [(4, zi v22), (0, zr a0), (1, zi a1), (2, zi a2), (3, zi a3)]) (fun _ => rfl) (fun v22 e23 ls hl => ?_)
          have h := znb e23 h
          exact bX8_sheet_65 C hr hk 1000 _ _ _ _ _ _ _ _ h I (zL_sub hl [1, 2, 4, 0] rfl)
        · have h := zif c15 h
          refine z_aload_n C hl 0 rfl dX8_sheet_42 rfl ?_
          refine z_iconst C (v := 4) dX8_sheet_43 (by decide) ?_
          obtain ⟨r24, S25, h26, h⟩ := zcs h
          refine z_callVi C I (tX8_found l D tc b n h26) zyX8_found zyvX8_found zc8 g1 zq_784 (st := []) rfl rfl (by decide) (by decide) hl.1 (Nat.le_of_ble_eq_true rfl) dX8_sheet_44 (fun H locs I => ?_)
          exact z_iret C I hr hk h dX8_sheet_47
      · have h := zif c12 h
        refine z_ldc C zq_783 dX8_sheet_30 ?_
        exact z_iret C I hr hk h dX8_sheet_32

def fX8_set_99 (n : Nat) (S : zM) (x0 : Int32) (x1 : Int32) (x2 : Int32) (y0 : Int32) (y1 : Int32) (y2 : Int32) : Option (Int32 × zM) := zd (za n 0 y2 y1) <| zbd (zq S y2 y1 y0) fun S2 => zd (zo n 18 x0) <| zd (za n 0 (zg S2 x0 4) ((60 * x1) + x2)) <| some (ze S2 (zg S2 x0 4) ((60 * x1) + x2), S2)
theorem bX8_set_99 {p : Program} {l : Launch} {e : Env} {s : State} {m : MethodId} {args : Array Value} {below : List Frame} {meth : Method} {c : Code} {D : va_G} {tc : Nat → ClassId} {b n : Nat} {S' : zM} {r : Int32} (C : zC p m c cX8_set 4 s args yX8_set.cls D tc) (hr : meth.sig.returnType = some .int) (hk : meth.locks = false) : ∀ (S : zM) (x0 : Int32) (x1 : Int32) (x2 : Int32) (y0 : Int32) (y1 : Int32) (y2 : Int32) (H : Heap) (locs : List Loc) (ls : Array Slot), fX8_set_99 n S x0 x1 x2 y0 y1 y2 = some (r, S') → zI D tc b n S s H locs → zL b ls 4 [(0, zr x0), (1, zi x1), (2, zi x2)] → W p l e (zR 2) s m args below meth c H locs 0 0 (zQi D tc b n S' r below args s) (zG b m 99 ls [zi y0, zi y1, zr y2]) := by
  intro S x0 x1 x2 y0 y1 y2 H locs ls h I hl
  rw [fX8_set_99] at h
  obtain ⟨g1, h⟩ := zd_some h
  refine z_iast C I g1 dX8_set_99 (fun S2 e3 H locs I => ?_)
  have h := znb e3 h
  refine z_aload_n C hl 0 rfl dX8_set_100 rfl ?_
  obtain ⟨g4, h⟩ := zd_some h
  refine z_get C I 8 4 zc8 g4 (by decide) zq_660 (v := zr (zg S2 x0 4)) rfl dX8_set_101 ?_
  refine z_bipush C (v := 60) dX8_set_104 (by decide) ?_
  refine z_iload_n C hl 1 rfl dX8_set_106 rfl ?_
  refine z_imul C dX8_set_107 ?_
  refine z_iload_n C hl 2 rfl dX8_set_108 rfl ?_
  refine z_iadd C dX8_set_109 ?_
  obtain ⟨g5, h⟩ := zd_some h
  refine z_iald C I g5 dX8_set_110 ?_
  exact z_iret C I hr hk h dX8_set_111

def fX8_set (n : Nat) (S : zM) (a0 : Int32) (a1 : Int32) (a2 : Int32) (a3 : Int32) : Option (Int32 × zM) := zd (zo n 18 a0) <| zbd (zp S a0 0 0) fun S2 => zca (fX8_isSheet n S2 a1) fun r4 S5 => if (r4 : Int32) = 0 then (some ((-1000001), S5)) else (zbd (zp S5 a0 1 0) fun S8 => zd (za n 0 (zg S8 a0 2) a1) <| if 0 ≤ (ze S8 (zg S8 a0 2) a1 : Int32) then (zd (za n 0 (zg S8 a0 3) a1) <| zca (fX8_in n S8 ((a2 : Int32).toInt64) 0 (((ze S8 (zg S8 a0 3) a1) - 1 : Int32).toInt64)) fun r13 S14 => if (r13 : Int32) = 0 then (zca (fX8_found n S14 a0 2) fun r20 S21 => some (r20, S21)) else (zd (za n 0 (zg S14 a0 2) a1) <| if (ze S14 (zg S14 a0 2) a1 : Int32) = 0 then (fX8_set_99 n S14 a0 a1 a2 ((a3 : Int32).toInt8.toInt32) ((60 * a1) + a2) (zg S14 a0 4)) else (if (ze S14 (zg S14 a0 2) a1 : Int32) = (1 : Int32) then (fX8_set_99 n S14 a0 a1 a2 ((a3 : Int32).toInt16.toInt32) ((60 * a1) + a2) (zg S14 a0 4)) else (fX8_set_99 n S14 a0 a1 a2 a3 ((60 * a1) + a2) (zg S14 a0 4))))) else (zca (fX8_found n S8 a0 1) fun r23 S24 => some (r23, S24)))
theorem tX8_set (l : Launch) (D : va_G) (tc : Nat → ClassId) (b n : Nat) {S S' : zM} {a0 : Int32} {a1 : Int32} {a2 : Int32} {a3 : Int32} {r : Int32} (h : fX8_set n S a0 a1 a2 a3 = some (r, S')) : zMi l D tc b n yX8_set cX8_set 4 .int 2 [zr a0, zi a1, zi a2, zi a3] S S' r := by
  refine zMi_of zyX8_set (Nat.le_of_ble_eq_true rfl) (fun p e s m args below meth c H C hr hk ls hl I => ?_)
  have hl : zL b ls 4 [(0, zr a0), (1, zi a1), (2, zi a2), (3, zi a3)] := hl
  rw [fX8_set] at h
  refine z_aload_n C hl 0 rfl dX8_set_0 rfl ?_
  refine z_iconst C (v := 0) dX8_set_1 (by decide) ?_
  obtain ⟨g1, h⟩ := zd_some h
  refine z_put C I 8 0 zc8 g1 (by decide) rfl zq_656 rfl (v := zi 0) rfl dX8_set_2 (fun S2 e3 H locs I => ?_)
  have h := znb e3 h
  refine z_iload_n C hl 1 rfl dX8_set_5 rfl ?_
  obtain ⟨r4, S5, h6, h⟩ := zcs h
  refine z_callSi C I (tX8_isSheet l D tc b n h6) zyX8_isSheet zq_776 zq_775 (st := []) rfl rfl (by decide) (by decide) hl.1 (Nat.le_of_ble_eq_true rfl) dX8_set_6 (fun H locs I => ?_)
  refine z_if_ne C 15 dX8_set_9 (by decide) (fun c7 => ?_) (fun c7 => ?_)
  · have h := zif c7 h
    refine z_aload_n C hl 0 rfl dX8_set_15 rfl ?_
    refine z_iconst C (v := 0) dX8_set_16 (by decide) ?_
    refine z_put C I 8 1 zc8 g1 (by decide) rfl zq_657 rfl (v := zi 0) rfl dX8_set_17 (fun S8 e9 H locs I => ?_)
    have h := znb e9 h
    refine z_aload_n C hl 0 rfl dX8_set_20 rfl ?_
    refine z_get C I 8 2 zc8 g1 (by decide) zq_658 (v := zr (zg S8 a0 2)) rfl dX8_set_21 ?_
    refine z_iload_n C hl 1 rfl dX8_set_24 rfl ?_
    obtain ⟨g10, h⟩ := zd_some h
    refine z_iald C I g10 dX8_set_25 ?_
    refine z_if_ge C 35 dX8_set_26 (by decide) (fun c11 => ?_) (fun c11 => ?_)
    · have h := zit c11 h
      refine z_iload_n C hl 2 rfl dX8_set_35 rfl ?_
      refine z_i2l C dX8_set_36 ?_
      refine z_lconst C (v := 0) dX8_set_37 (by decide) ?_
      refine z_aload_n C hl 0 rfl dX8_set_38 rfl ?_
      refine z_get C I 8 3 zc8 g1 (by decide) zq_659 (v := zr (zg S8 a0 3)) rfl dX8_set_39 ?_
      refine z_iload_n C hl 1 rfl dX8_set_42 rfl ?_
      obtain ⟨g12, h⟩ := zd_some h
      refine z_iald C I g12 dX8_set_43 ?_
      refine z_iconst C (v := 1) dX8_set_44 (by decide) ?_
      refine z_isub C dX8_set_45 ?_
      refine z_i2l C dX8_set_46 ?_
      obtain ⟨r13, S14, h15, h⟩ := zcs h
      refine z_callSi C I (tX8_in l D tc b n h15) zyX8_in zq_780 zq_779 (st := []) rfl rfl (by decide) (by decide) hl.1 (Nat.le_of_ble_eq_true rfl) dX8_set_47 (fun H locs I => ?_)
      refine z_if_ne C 59 dX8_set_50 (by decide) (fun c16 => ?_) (fun c16 => ?_)
      · have h := zif c16 h
        refine z_aload_n C hl 0 rfl dX8_set_59 rfl ?_
        refine z_get C I 8 4 zc8 g1 (by decide) zq_660 (v := zr (zg S14 a0 4)) rfl dX8_set_60 ?_
        refine z_bipush C (v := 60) dX8_set_63 (by decide) ?_
        refine z_iload_n C hl 1 rfl dX8_set_65 rfl ?_
        refine z_imul C dX8_set_66 ?_
        refine z_iload_n C hl 2 rfl dX8_set_67 rfl ?_
        refine z_iadd C dX8_set_68 ?_
        refine z_aload_n C hl 0 rfl dX8_set_69 rfl ?_
        refine z_get C I 8 2 zc8 g1 (by decide) zq_658 (v := zr (zg S14 a0 2)) rfl dX8_set_70 ?_
        refine z_iload_n C hl 1 rfl dX8_set_73 rfl ?_
        obtain ⟨g17, h⟩ := zd_some h
        refine z_iald C I g17 dX8_set_74 ?_
        refine z_if_ne C 83 dX8_set_75 (by decide) (fun c18 => ?_) (fun c18 => ?_)
        · have h := zif c18 h
          refine z_aload_n C hl 0 rfl dX8_set_83 rfl ?_
          refine z_get C I 8 2 zc8 g1 (by decide) zq_658 (v := zr (zg S14 a0 2)) rfl dX8_set_84 ?_
          refine z_iload_n C hl 1 rfl dX8_set_87 rfl ?_
          refine z_iald C I g17 dX8_set_88 ?_
          refine z_iconst C (v := 1) dX8_set_89 (by decide) ?_
          refine z_icmp_ne C 98 dX8_set_90 (by decide) (fun c19 => ?_) (fun c19 => ?_)
          · have h := zif c19 h
            refine z_iload_n C hl 3 rfl dX8_set_98 rfl ?_
            exact bX8_set_99 C hr hk _ _ _ _ _ _ _ _ _ _ h I (zL_sub hl [0, 1, 2] rfl)
          · have h := zit c19 h
            refine z_iload_n C hl 3 rfl dX8_set_93 rfl ?_
            refine z_i2s C dX8_set_94 ?_
            refine z_goto C 99 dX8_set_95 (by decide) ?_
            exact bX8_set_99 C hr hk _ _ _ _ _ _ _ _ _ _ h I (zL_sub hl [0, 1, 2] rfl)
        · have h := zit c18 h
          refine z_iload_n C hl 3 rfl dX8_set_78 rfl ?_
          refine z_i2b C dX8_set_79 ?_
          refine z_goto C 99 dX8_set_80 (by decide) ?_
          exact bX8_set_99 C hr hk _ _ _ _ _ _ _ _ _ _ h I (zL_sub hl [0, 1, 2] rfl)
      · have h := zit c16 h
        refine z_aload_n C hl 0 rfl dX8_set_53 rfl ?_
        refine z_iconst C (v := 2) dX8_set_54 (by decide) ?_
        obtain ⟨r20, S21, h22, h⟩ := zcs h
        refine z_callVi C I (tX8_found l D tc b n h22) zyX8_found zyvX8_found zc8 g1 zq_784 (st := []) rfl rfl (by decide) (by decide) hl.1 (Nat.le_of_ble_eq_true rfl) dX8_set_55 (fun H locs I => ?_)
        exact z_iret C I hr hk h dX8_set_58
    · have h := zif c11 h
      refine z_aload_n C hl 0 rfl dX8_set_29 rfl ?_
      refine z_iconst C (v := 1) dX8_set_30 (by decide) ?_
      obtain ⟨r23, S24, h25, h⟩ := zcs h
      refine z_callVi C I (tX8_found l D tc b n h25) zyX8_found zyvX8_found zc8 g1 zq_784 (st := []) rfl rfl (by decide) (by decide) hl.1 (Nat.le_of_ble_eq_true rfl) dX8_set_31 (fun H locs I => ?_)
      exact z_iret C I hr hk h dX8_set_34
  · have h := zit c7 h
    refine z_ldc C zq_783 dX8_set_12 ?_
    exact z_iret C I hr hk h dX8_set_14

def fX8_copy_45 (n : Nat) (S : zM) (x0 : Int32) : Option (Int32 × zM) := zd (zo n 18 x0) <| zca (fX8_found n S x0 1) fun r2 S3 => some (r2, S3)
theorem bX8_copy_45 {p : Program} {l : Launch} {e : Env} {s : State} {m : MethodId} {args : Array Value} {below : List Frame} {meth : Method} {c : Code} {D : va_G} {tc : Nat → ClassId} {b n : Nat} {S' : zM} {r : Int32} (C : zC p m c cX8_copy 9 s args yX8_copy.cls D tc) (hr : meth.sig.returnType = some .int) (hk : meth.locks = false) : ∀ (S : zM) (x0 : Int32) (H : Heap) (locs : List Loc) (ls : Array Slot), fX8_copy_45 n S x0 = some (r, S') → zI D tc b n S s H locs → zL b ls 9 [(0, zr x0)] → W p l e (zR 2) s m args below meth c H locs 0 0 (zQi D tc b n S' r below args s) (zG b m 45 ls []) := by
  intro S x0 H locs ls h I hl
  rw [fX8_copy_45] at h
  refine z_aload_n C hl 0 rfl dX8_copy_45 rfl ?_
  refine z_iconst C (v := 1) dX8_copy_46 (by decide) ?_
  obtain ⟨g1, h⟩ := zd_some h
  obtain ⟨r2, S3, h4, h⟩ := zcs h
  refine z_callVi C I (tX8_found l D tc b n h4) zyX8_found zyvX8_found zc8 g1 zq_784 (st := []) rfl rfl (by decide) (by decide) hl.1 (Nat.le_of_ble_eq_true rfl) dX8_copy_47 (fun H locs I => ?_)
  exact z_iret C I hr hk h dX8_copy_50

def fX8_copy_121 (n : Nat) (S : zM) (x0 : Int32) : Option (Int32 × zM) := zd (zo n 18 x0) <| zca (fX8_found n S x0 2) fun r2 S3 => some (r2, S3)
theorem bX8_copy_121 {p : Program} {l : Launch} {e : Env} {s : State} {m : MethodId} {args : Array Value} {below : List Frame} {meth : Method} {c : Code} {D : va_G} {tc : Nat → ClassId} {b n : Nat} {S' : zM} {r : Int32} (C : zC p m c cX8_copy 9 s args yX8_copy.cls D tc) (hr : meth.sig.returnType = some .int) (hk : meth.locks = false) : ∀ (S : zM) (x0 : Int32) (H : Heap) (locs : List Loc) (ls : Array Slot), fX8_copy_121 n S x0 = some (r, S') → zI D tc b n S s H locs → zL b ls 9 [(0, zr x0)] → W p l e (zR 2) s m args below meth c H locs 0 0 (zQi D tc b n S' r below args s) (zG b m 121 ls []) := by
  intro S x0 H locs ls h I hl
  rw [fX8_copy_121] at h
  refine z_aload_n C hl 0 rfl dX8_copy_121 rfl ?_
  refine z_iconst C (v := 2) dX8_copy_122 (by decide) ?_
  obtain ⟨g1, h⟩ := zd_some h
  obtain ⟨r2, S3, h4, h⟩ := zcs h
  refine z_callVi C I (tX8_found l D tc b n h4) zyX8_found zyvX8_found zc8 g1 zq_784 (st := []) rfl rfl (by decide) (by decide) hl.1 (Nat.le_of_ble_eq_true rfl) dX8_copy_123 (fun H locs I => ?_)
  exact z_iret C I hr hk h dX8_copy_126

def fX8_copy_167 (n : Nat) (k143 : zM → Int32 → Int32 → Int32 → Int32 → Int32 → Int32 → Int32 → Int32 → Option (Int32 × zM)) (S : zM) (x0 : Int32) (x1 : Int32) (x2 : Int32) (x3 : Int32) (x4 : Int32) (x5 : Int32) (x6 : Int32) (x7 : Int32) (y0 : Int32) : Option (Int32 × zM) := zbd (y0) fun v1 => zd (zo n 18 x0) <| zd (za n 0 (zg S x0 4) (((60 * x1) + x2) + v1)) <| zd (za n 0 (zg S x0 4) (((60 * x3) + x4) + v1)) <| zbd (zq S (zg S x0 4) (((60 * x3) + x4) + v1) (ze S (zg S x0 4) (((60 * x1) + x2) + v1))) fun S6 => zbd (x7 + 1) fun v8 => k143 S6 x0 x1 x2 x3 x4 x5 x6 v8
theorem bX8_copy_167 {p : Program} {l : Launch} {e : Env} {s : State} {m : MethodId} {args : Array Value} {below : List Frame} {meth : Method} {c : Code} {D : va_G} {tc : Nat → ClassId} {b n : Nat} {S' : zM} {r : Int32} (C : zC p m c cX8_copy 9 s args yX8_copy.cls D tc) (hr : meth.sig.returnType = some .int) (hk : meth.locks = false) {k143 : zM → Int32 → Int32 → Int32 → Int32 → Int32 → Int32 → Int32 → Int32 → Option (Int32 × zM)} (K143 : ∀ (S : zM) (x0 : Int32) (x1 : Int32) (x2 : Int32) (x3 : Int32) (x4 : Int32) (x5 : Int32) (x6 : Int32) (x7 : Int32) (H : Heap) (locs : List Loc) (ls : Array Slot), k143 S x0 x1 x2 x3 x4 x5 x6 x7 = some (r, S') → zI D tc b n S s H locs → zL b ls 9 [(0, zr x0), (1, zi x1), (2, zi x2), (3, zi x3), (4, zi x4), (5, zi x5), (6, zi x6), (7, zi x7)] → W p l e (zR 2) s m args below meth c H locs 0 0 (zQi D tc b n S' r below args s) (zG b m 143 ls [])) : ∀ (S : zM) (x0 : Int32) (x1 : Int32) (x2 : Int32) (x3 : Int32) (x4 : Int32) (x5 : Int32) (x6 : Int32) (x7 : Int32) (y0 : Int32) (H : Heap) (locs : List Loc) (ls : Array Slot), fX8_copy_167 n k143 S x0 x1 x2 x3 x4 x5 x6 x7 y0 = some (r, S') → zI D tc b n S s H locs → zL b ls 9 [(0, zr x0), (1, zi x1), (2, zi x2), (3, zi x3), (4, zi x4), (5, zi x5), (6, zi x6), (7, zi x7)] → W p l e (zR 2) s m args below meth c H locs 0 0 (zQi D tc b n S' r below args s) (zG b m 167 ls [zi y0]) := by
  intro S x0 x1 x2 x3 x4 x5 x6 x7 y0 H locs ls h I hl
  rw [fX8_copy_167] at h
  refine z_istore C hl dX8_copy_167 (by decide) (fun v1 => [(8, zi v1), (0, zr x0), (1, zi x1), (2, zi x2), (3, zi x3), (4, zi x4), (5, zi x5), (6, zi x6), (7, zi x7)]) (fun _ => rfl) (fun v1 e2 ls hl => ?_)
  have h := znb e2 h
  refine z_aload_n C hl 1 rfl dX8_copy_169 rfl ?_
  obtain ⟨g3, h⟩ := zd_some h
  refine z_get C I 8 4 zc8 g3 (by decide) zq_660 (v := zr (zg S x0 4)) rfl dX8_copy_170 ?_
  refine z_bipush C (v := 60) dX8_copy_173 (by decide) ?_
  refine z_iload_n C hl 4 rfl dX8_copy_175 rfl ?_
  refine z_imul C dX8_copy_176 ?_
  refine z_iload C hl 5 rfl dX8_copy_177 ?_
  refine z_iadd C dX8_copy_179 ?_
  refine z_iload C hl 0 rfl dX8_copy_180 ?_
  refine z_iadd C dX8_copy_182 ?_
  refine z_aload_n C hl 1 rfl dX8_copy_183 rfl ?_
  refine z_get C I 8 4 zc8 g3 (by decide) zq_660 (v := zr (zg S x0 4)) rfl dX8_copy_184 ?_
  refine z_bipush C (v := 60) dX8_copy_187 (by decide) ?_
  refine z_iload_n C hl 2 rfl dX8_copy_189 rfl ?_
  refine z_imul C dX8_copy_190 ?_
  refine z_iload_n C hl 3 rfl dX8_copy_191 rfl ?_
  refine z_iadd C dX8_copy_192 ?_
  refine z_iload C hl 0 rfl dX8_copy_193 ?_
  refine z_iadd C dX8_copy_195 ?_
  obtain ⟨g4, h⟩ := zd_some h
  refine z_iald C I g4 dX8_copy_196 ?_
  obtain ⟨g5, h⟩ := zd_some h
  refine z_iast C I g5 dX8_copy_197 (fun S6 e7 H locs I => ?_)
  have h := znb e7 h
  refine z_iinc C hl 8 (v := x7 + 1) rfl dX8_copy_198 rfl (by decide) (fun v8 => [(7, zi v8), (8, zi v1), (0, zr x0), (1, zi x1), (2, zi x2), (3, zi x3), (4, zi x4), (5, zi x5), (6, zi x6)]) (fun _ => rfl) (fun v8 e9 ls hl => ?_)
  have h := znb e9 h
  refine z_goto C 143 dX8_copy_201 (by decide) ?_
  exact K143 _ _ _ _ _ _ _ _ _ _ _ _ h I (zL_sub hl [2, 3, 4, 5, 6, 7, 8, 0] rfl)

def fX8_copy_143 (n : Nat) : Nat → zM → Int32 → Int32 → Int32 → Int32 → Int32 → Int32 → Int32 → Int32 → Option (Int32 × zM)
  | 0, _, _, _, _, _, _, _, _, _ => none
  | fu + 1, S, x0, x1, x2, x3, x4, x5, x6, x7 => if (x5 : Int32) ≤ (x7 : Int32) then (some (x5, S)) else (if (x6 : Int32) = 0 then (fX8_copy_167 n (fX8_copy_143 n fu) S x0 x1 x2 x3 x4 x5 x6 x7 ((x5 - 1) - x7)) else (fX8_copy_167 n (fX8_copy_143 n fu) S x0 x1 x2 x3 x4 x5 x6 x7 x7))
theorem bX8_copy_143 {p : Program} {l : Launch} {e : Env} {s : State} {m : MethodId} {args : Array Value} {below : List Frame} {meth : Method} {c : Code} {D : va_G} {tc : Nat → ClassId} {b n : Nat} {S' : zM} {r : Int32} (C : zC p m c cX8_copy 9 s args yX8_copy.cls D tc) (hr : meth.sig.returnType = some .int) (hk : meth.locks = false) : ∀ (fu : Nat) (S : zM) (x0 : Int32) (x1 : Int32) (x2 : Int32) (x3 : Int32) (x4 : Int32) (x5 : Int32) (x6 : Int32) (x7 : Int32) (H : Heap) (locs : List Loc) (ls : Array Slot), fX8_copy_143 n fu S x0 x1 x2 x3 x4 x5 x6 x7 = some (r, S') → zI D tc b n S s H locs → zL b ls 9 [(0, zr x0), (1, zi x1), (2, zi x2), (3, zi x3), (4, zi x4), (5, zi x5), (6, zi x6), (7, zi x7)] → W p l e (zR 2) s m args below meth c H locs 0 0 (zQi D tc b n S' r below args s) (zG b m 143 ls []) := by
  intro fu
  induction fu with
  | zero => intro S x0 x1 x2 x3 x4 x5 x6 x7 H locs ls h _ _; rw [fX8_copy_143] at h; cases h
  | succ fu ih =>
    intro S x0 x1 x2 x3 x4 x5 x6 x7 H locs ls h I hl
    rw [fX8_copy_143] at h
    refine z_iload C hl 7 rfl dX8_copy_143 ?_
    refine z_iload C hl 5 rfl dX8_copy_145 ?_
    refine z_icmp_ge C 204 dX8_copy_147 (by decide) (fun c1 => ?_) (fun c1 => ?_)
    · have h := zit c1 h
      refine z_iload C hl 5 rfl dX8_copy_204 ?_
      exact z_iret C I hr hk h dX8_copy_206
    · have h := zif c1 h
      refine z_iload C hl 6 rfl dX8_copy_150 ?_
      refine z_if_eq C 160 dX8_copy_152 (by decide) (fun c2 => ?_) (fun c2 => ?_)
      · have h := zit c2 h
        refine z_iload C hl 5 rfl dX8_copy_160 ?_
        refine z_iconst C (v := 1) dX8_copy_162 (by decide) ?_
        refine z_isub C dX8_copy_163 ?_
        refine z_iload C hl 7 rfl dX8_copy_164 ?_
        refine z_isub C dX8_copy_166 ?_
        exact bX8_copy_167 C hr hk ih _ _ _ _ _ _ _ _ _ _ _ _ _ h I (zL_sub hl [0, 1, 2, 3, 4, 5, 6, 7] rfl)
      · have h := zif c2 h
        refine z_iload C hl 7 rfl dX8_copy_155 ?_
        refine z_goto C 167 dX8_copy_157 (by decide) ?_
        exact bX8_copy_167 C hr hk ih _ _ _ _ _ _ _ _ _ _ _ _ _ h I (zL_sub hl [0, 1, 2, 3, 4, 5, 6, 7] rfl)

def fX8_copy_138 (n : Nat) (S : zM) (x0 : Int32) (x1 : Int32) (x2 : Int32) (x3 : Int32) (x4 : Int32) (x5 : Int32) (y0 : Int32) : Option (Int32 × zM) := zbd (y0) fun v1 => zbd (0) fun v3 => fX8_copy_143 n 1000 S x0 x1 x2 x3 x4 x5 v1 v3
theorem bX8_copy_138 {p : Program} {l : Launch} {e : Env} {s : State} {m : MethodId} {args : Array Value} {below : List Frame} {meth : Method} {c : Code} {D : va_G} {tc : Nat → ClassId} {b n : Nat} {S' : zM} {r : Int32} (C : zC p m c cX8_copy 9 s args yX8_copy.cls D tc) (hr : meth.sig.returnType = some .int) (hk : meth.locks = false) : ∀ (S : zM) (x0 : Int32) (x1 : Int32) (x2 : Int32) (x3 : Int32) (x4 : Int32) (x5 : Int32) (y0 : Int32) (H : Heap) (locs : List Loc) (ls : Array Slot), fX8_copy_138 n S x0 x1 x2 x3 x4 x5 y0 = some (r, S') → zI D tc b n S s H locs → zL b ls 9 [(0, zr x0), (1, zi x1), (2, zi x2), (3, zi x3), (4, zi x4), (5, zi x5)] → W p l e (zR 2) s m args below meth c H locs 0 0 (zQi D tc b n S' r below args s) (zG b m 138 ls [zi y0]) := by
  intro S x0 x1 x2 x3 x4 x5 y0 H locs ls h I hl
  rw [fX8_copy_138] at h
  refine z_istore C hl dX8_copy_138 (by decide) (fun v1 => [(6, zi v1), (0, zr x0), (1, zi x1), (2, zi x2), (3, zi x3), (4, zi x4), (5, zi x5)]) (fun _ => rfl) (fun v1 e2 ls hl => ?_)
  have h := znb e2 h
  refine z_iconst C (v := 0) dX8_copy_140 (by decide) ?_
  refine z_istore C hl dX8_copy_141 (by decide) (fun v3 => [(7, zi v3), (6, zi v1), (0, zr x0), (1, zi x1), (2, zi x2), (3, zi x3), (4, zi x4), (5, zi x5)]) (fun _ => rfl) (fun v3 e4 ls hl => ?_)
  have h := znb e4 h
  exact bX8_copy_143 C hr hk 1000 _ _ _ _ _ _ _ _ _ _ _ _ h I (zL_sub hl [2, 3, 4, 5, 6, 7, 1, 0] rfl)

def fX8_copy (n : Nat) (S : zM) (a0 : Int32) (a1 : Int32) (a2 : Int32) (a3 : Int32) (a4 : Int32) (a5 : Int32) : Option (Int32 × zM) := zd (zo n 18 a0) <| zbd (zp S a0 0 0) fun S2 => zca (fX8_isSheet n S2 a1) fun r4 S5 => if (r4 : Int32) = 0 then (some ((-1000001), S5)) else (zca (fX8_isSheet n S5 a3) fun r8 S9 => if (r8 : Int32) = 0 then (some ((-1000001), S9)) else (zbd (zp S9 a0 1 0) fun S12 => zd (za n 0 (zg S12 a0 2) a1) <| if (ze S12 (zg S12 a0 2) a1 : Int32) < 0 then (fX8_copy_45 n S12 a0) else (zd (za n 0 (zg S12 a0 2) a3) <| if 0 ≤ (ze S12 (zg S12 a0 2) a3 : Int32) then (if (ze S12 (zg S12 a0 2) a1 : Int32) = (ze S12 (zg S12 a0 2) a3 : Int32) then (if (a2 : Int32) < 0 then (fX8_copy_121 n S12 a0) else (if (a4 : Int32) < 0 then (fX8_copy_121 n S12 a0) else (if (a5 : Int32) < 0 then (fX8_copy_121 n S12 a0) else (zd (za n 0 (zg S12 a0 3) a1) <| if 0 < (lg_cmp (((a2 : Int32).toInt64) + ((a5 : Int32).toInt64)) ((ze S12 (zg S12 a0 3) a1 : Int32).toInt64) : Int32) then (fX8_copy_121 n S12 a0) else (zd (za n 0 (zg S12 a0 3) a3) <| if (lg_cmp (((a4 : Int32).toInt64) + ((a5 : Int32).toInt64)) ((ze S12 (zg S12 a0 3) a3 : Int32).toInt64) : Int32) ≤ 0 then (if (a2 : Int32) < (a4 : Int32) then (fX8_copy_138 n S12 a0 a1 a2 a3 a4 a5 0) else (fX8_copy_138 n S12 a0 a1 a2 a3 a4 a5 1)) else (fX8_copy_121 n S12 a0)))))) else (zca (fX8_found n S12 a0 5) fun r27 S28 => some (r27, S28))) else (fX8_copy_45 n S12 a0))))
theorem tX8_copy (l : Launch) (D : va_G) (tc : Nat → ClassId) (b n : Nat) {S S' : zM} {a0 : Int32} {a1 : Int32} {a2 : Int32} {a3 : Int32} {a4 : Int32} {a5 : Int32} {r : Int32} (h : fX8_copy n S a0 a1 a2 a3 a4 a5 = some (r, S')) : zMi l D tc b n yX8_copy cX8_copy 9 .int 2 [zr a0, zi a1, zi a2, zi a3, zi a4, zi a5] S S' r := by
  refine zMi_of zyX8_copy (Nat.le_of_ble_eq_true rfl) (fun p e s m args below meth c H C hr hk ls hl I => ?_)
  have hl : zL b ls 9 [(0, zr a0), (1, zi a1), (2, zi a2), (3, zi a3), (4, zi a4), (5, zi a5)] := hl
  rw [fX8_copy] at h
  refine z_aload_n C hl 0 rfl dX8_copy_0 rfl ?_
  refine z_iconst C (v := 0) dX8_copy_1 (by decide) ?_
  obtain ⟨g1, h⟩ := zd_some h
  refine z_put C I 8 0 zc8 g1 (by decide) rfl zq_656 rfl (v := zi 0) rfl dX8_copy_2 (fun S2 e3 H locs I => ?_)
  have h := znb e3 h
  refine z_iload_n C hl 1 rfl dX8_copy_5 rfl ?_
  obtain ⟨r4, S5, h6, h⟩ := zcs h
  refine z_callSi C I (tX8_isSheet l D tc b n h6) zyX8_isSheet zq_776 zq_775 (st := []) rfl rfl (by decide) (by decide) hl.1 (Nat.le_of_ble_eq_true rfl) dX8_copy_6 (fun H locs I => ?_)
  refine z_if_eq C 19 dX8_copy_9 (by decide) (fun c7 => ?_) (fun c7 => ?_)
  · have h := zit c7 h
    refine z_ldc C zq_783 dX8_copy_19 ?_
    exact z_iret C I hr hk h dX8_copy_21
  · have h := zif c7 h
    refine z_iload_n C hl 3 rfl dX8_copy_12 rfl ?_
    obtain ⟨r8, S9, h10, h⟩ := zcs h
    refine z_callSi C I (tX8_isSheet l D tc b n h10) zyX8_isSheet zq_776 zq_775 (st := []) rfl rfl (by decide) (by decide) hl.1 (Nat.le_of_ble_eq_true rfl) dX8_copy_13 (fun H locs I => ?_)
    refine z_if_ne C 22 dX8_copy_16 (by decide) (fun c11 => ?_) (fun c11 => ?_)
    · have h := zif c11 h
      refine z_aload_n C hl 0 rfl dX8_copy_22 rfl ?_
      refine z_iconst C (v := 0) dX8_copy_23 (by decide) ?_
      refine z_put C I 8 1 zc8 g1 (by decide) rfl zq_657 rfl (v := zi 0) rfl dX8_copy_24 (fun S12 e13 H locs I => ?_)
      have h := znb e13 h
      refine z_aload_n C hl 0 rfl dX8_copy_27 rfl ?_
      refine z_get C I 8 2 zc8 g1 (by decide) zq_658 (v := zr (zg S12 a0 2)) rfl dX8_copy_28 ?_
      refine z_iload_n C hl 1 rfl dX8_copy_31 rfl ?_
      obtain ⟨g14, h⟩ := zd_some h
      refine z_iald C I g14 dX8_copy_32 ?_
      refine z_if_lt C 45 dX8_copy_33 (by decide) (fun c15 => ?_) (fun c15 => ?_)
      · have h := zit c15 h
        exact bX8_copy_45 C hr hk _ _ _ _ _ h I (zL_sub hl [0] rfl)
      · have h := zif c15 h
        refine z_aload_n C hl 0 rfl dX8_copy_36 rfl ?_
        refine z_get C I 8 2 zc8 g1 (by decide) zq_658 (v := zr (zg S12 a0 2)) rfl dX8_copy_37 ?_
        refine z_iload_n C hl 3 rfl dX8_copy_40 rfl ?_
        obtain ⟨g16, h⟩ := zd_some h
        refine z_iald C I g16 dX8_copy_41 ?_
        refine z_if_ge C 51 dX8_copy_42 (by decide) (fun c17 => ?_) (fun c17 => ?_)
        · have h := zit c17 h
          refine z_aload_n C hl 0 rfl dX8_copy_51 rfl ?_
          refine z_get C I 8 2 zc8 g1 (by decide) zq_658 (v := zr (zg S12 a0 2)) rfl dX8_copy_52 ?_
          refine z_iload_n C hl 1 rfl dX8_copy_55 rfl ?_
          refine z_iald C I g14 dX8_copy_56 ?_
          refine z_aload_n C hl 0 rfl dX8_copy_57 rfl ?_
          refine z_get C I 8 2 zc8 g1 (by decide) zq_658 (v := zr (zg S12 a0 2)) rfl dX8_copy_58 ?_
          refine z_iload_n C hl 3 rfl dX8_copy_61 rfl ?_
          refine z_iald C I g16 dX8_copy_62 ?_
          refine z_icmp_eq C 72 dX8_copy_63 (by decide) (fun c18 => ?_) (fun c18 => ?_)
          · have h := zit c18 h
            refine z_iload_n C hl 2 rfl dX8_copy_72 rfl ?_
            refine z_if_lt C 121 dX8_copy_73 (by decide) (fun c19 => ?_) (fun c19 => ?_)
            · have h := zit c19 h
              exact bX8_copy_121 C hr hk _ _ _ _ _ h I (zL_sub hl [0] rfl)
            · have h := zif c19 h
              refine z_iload C hl 4 rfl dX8_copy_76 ?_
              refine z_if_lt C 121 dX8_copy_78 (by decide) (fun c20 => ?_) (fun c20 => ?_)
              · have h := zit c20 h
                exact bX8_copy_121 C hr hk _ _ _ _ _ h I (zL_sub hl [0] rfl)
              · have h := zif c20 h
                refine z_iload C hl 5 rfl dX8_copy_81 ?_
                refine z_if_lt C 121 dX8_copy_83 (by decide) (fun c21 => ?_) (fun c21 => ?_)
                · have h := zit c21 h
                  exact bX8_copy_121 C hr hk _ _ _ _ _ h I (zL_sub hl [0] rfl)
                · have h := zif c21 h
                  refine z_iload_n C hl 2 rfl dX8_copy_86 rfl ?_
                  refine z_i2l C dX8_copy_87 ?_
                  refine z_iload C hl 5 rfl dX8_copy_88 ?_
                  refine z_i2l C dX8_copy_90 ?_
                  refine z_ladd C dX8_copy_91 ?_
                  refine z_aload_n C hl 0 rfl dX8_copy_92 rfl ?_
                  refine z_get C I 8 3 zc8 g1 (by decide) zq_659 (v := zr (zg S12 a0 3)) rfl dX8_copy_93 ?_
                  refine z_iload_n C hl 1 rfl dX8_copy_96 rfl ?_
                  obtain ⟨g22, h⟩ := zd_some h
                  refine z_iald C I g22 dX8_copy_97 ?_
                  refine z_i2l C dX8_copy_98 ?_
                  refine z_lcmp C dX8_copy_99 ?_
                  refine z_if_gt C 121 dX8_copy_100 (by decide) (fun c23 => ?_) (fun c23 => ?_)
                  · have h := zit c23 h
                    exact bX8_copy_121 C hr hk _ _ _ _ _ h I (zL_sub hl [0] rfl)
                  · have h := zif c23 h
                    refine z_iload C hl 4 rfl dX8_copy_103 ?_
                    refine z_i2l C dX8_copy_105 ?_
                    refine z_iload C hl 5 rfl dX8_copy_106 ?_
                    refine z_i2l C dX8_copy_108 ?_
                    refine z_ladd C dX8_copy_109 ?_
                    refine z_aload_n C hl 0 rfl dX8_copy_110 rfl ?_
                    refine z_get C I 8 3 zc8 g1 (by decide) zq_659 (v := zr (zg S12 a0 3)) rfl dX8_copy_111 ?_
                    refine z_iload_n C hl 3 rfl dX8_copy_114 rfl ?_
                    obtain ⟨g24, h⟩ := zd_some h
                    refine z_iald C I g24 dX8_copy_115 ?_
                    refine z_i2l C dX8_copy_116 ?_
                    refine z_lcmp C dX8_copy_117 ?_
                    refine z_if_le C 127 dX8_copy_118 (by decide) (fun c25 => ?_) (fun c25 => ?_)
                    · have h := zit c25 h
                      refine z_iload_n C hl 2 rfl dX8_copy_127 rfl ?_
                      refine z_iload C hl 4 rfl dX8_copy_128 ?_
                      refine z_icmp_lt C 137 dX8_copy_130 (by decide) (fun c26 => ?_) (fun c26 => ?_)
                      · have h := zit c26 h
                        refine z_iconst C (v := 0) dX8_copy_137 (by decide) ?_
                        exact bX8_copy_138 C hr hk _ _ _ _ _ _ _ _ _ _ _ h I (zL_sub hl [0, 1, 2, 3, 4, 5] rfl)
                      · have h := zif c26 h
                        refine z_iconst C (v := 1) dX8_copy_133 (by decide) ?_
                        refine z_goto C 138 dX8_copy_134 (by decide) ?_
                        exact bX8_copy_138 C hr hk _ _ _ _ _ _ _ _ _ _ _ h I (zL_sub hl [0, 1, 2, 3, 4, 5] rfl)
                    · have h := zif c25 h
                      exact bX8_copy_121 C hr hk _ _ _ _ _ h I (zL_sub hl [0] rfl)
          · have h := zif c18 h
            refine z_aload_n C hl 0 rfl dX8_copy_66 rfl ?_
            refine z_iconst C (v := 5) dX8_copy_67 (by decide) ?_
            obtain ⟨r27, S28, h29, h⟩ := zcs h
            refine z_callVi C I (tX8_found l D tc b n h29) zyX8_found zyvX8_found zc8 g1 zq_784 (st := []) rfl rfl (by decide) (by decide) hl.1 (Nat.le_of_ble_eq_true rfl) dX8_copy_68 (fun H locs I => ?_)
            exact z_iret C I hr hk h dX8_copy_71
        · have h := zif c17 h
          exact bX8_copy_45 C hr hk _ _ _ _ _ h I (zL_sub hl [0] rfl)
    · have h := zit c11 h
      refine z_ldc C zq_783 dX8_copy_19 ?_
      exact z_iret C I hr hk h dX8_copy_21

def fX8_drop (n : Nat) (S : zM) (a0 : Int32) (a1 : Int32) : Option (Int32 × zM) := zd (zo n 18 a0) <| zbd (zp S a0 0 0) fun S2 => zca (fX8_isSheet n S2 a1) fun r4 S5 => if (r4 : Int32) = 0 then (some ((-1000001), S5)) else (zbd (zp S5 a0 1 0) fun S8 => zd (za n 0 (zg S8 a0 2) a1) <| if 0 ≤ (ze S8 (zg S8 a0 2) a1 : Int32) then (zbd (zq S8 (zg S8 a0 2) a1 (-1)) fun S12 => zd (za n 0 (zg S12 a0 3) a1) <| some (ze S12 (zg S12 a0 3) a1, S12)) else (zca (fX8_found n S8 a0 1) fun r15 S16 => some (r15, S16)))
theorem tX8_drop (l : Launch) (D : va_G) (tc : Nat → ClassId) (b n : Nat) {S S' : zM} {a0 : Int32} {a1 : Int32} {r : Int32} (h : fX8_drop n S a0 a1 = some (r, S')) : zMi l D tc b n yX8_drop cX8_drop 2 .int 2 [zr a0, zi a1] S S' r := by
  refine zMi_of zyX8_drop (Nat.le_of_ble_eq_true rfl) (fun p e s m args below meth c H C hr hk ls hl I => ?_)
  have hl : zL b ls 2 [(0, zr a0), (1, zi a1)] := hl
  rw [fX8_drop] at h
  refine z_aload_n C hl 0 rfl dX8_drop_0 rfl ?_
  refine z_iconst C (v := 0) dX8_drop_1 (by decide) ?_
  obtain ⟨g1, h⟩ := zd_some h
  refine z_put C I 8 0 zc8 g1 (by decide) rfl zq_656 rfl (v := zi 0) rfl dX8_drop_2 (fun S2 e3 H locs I => ?_)
  have h := znb e3 h
  refine z_iload_n C hl 1 rfl dX8_drop_5 rfl ?_
  obtain ⟨r4, S5, h6, h⟩ := zcs h
  refine z_callSi C I (tX8_isSheet l D tc b n h6) zyX8_isSheet zq_776 zq_775 (st := []) rfl rfl (by decide) (by decide) hl.1 (Nat.le_of_ble_eq_true rfl) dX8_drop_6 (fun H locs I => ?_)
  refine z_if_ne C 15 dX8_drop_9 (by decide) (fun c7 => ?_) (fun c7 => ?_)
  · have h := zif c7 h
    refine z_aload_n C hl 0 rfl dX8_drop_15 rfl ?_
    refine z_iconst C (v := 0) dX8_drop_16 (by decide) ?_
    refine z_put C I 8 1 zc8 g1 (by decide) rfl zq_657 rfl (v := zi 0) rfl dX8_drop_17 (fun S8 e9 H locs I => ?_)
    have h := znb e9 h
    refine z_aload_n C hl 0 rfl dX8_drop_20 rfl ?_
    refine z_get C I 8 2 zc8 g1 (by decide) zq_658 (v := zr (zg S8 a0 2)) rfl dX8_drop_21 ?_
    refine z_iload_n C hl 1 rfl dX8_drop_24 rfl ?_
    obtain ⟨g10, h⟩ := zd_some h
    refine z_iald C I g10 dX8_drop_25 ?_
    refine z_if_ge C 35 dX8_drop_26 (by decide) (fun c11 => ?_) (fun c11 => ?_)
    · have h := zit c11 h
      refine z_aload_n C hl 0 rfl dX8_drop_35 rfl ?_
      refine z_get C I 8 2 zc8 g1 (by decide) zq_658 (v := zr (zg S8 a0 2)) rfl dX8_drop_36 ?_
      refine z_iload_n C hl 1 rfl dX8_drop_39 rfl ?_
      refine z_iconst C (v := (-1)) dX8_drop_40 (by decide) ?_
      refine z_iast C I g10 dX8_drop_41 (fun S12 e13 H locs I => ?_)
      have h := znb e13 h
      refine z_aload_n C hl 0 rfl dX8_drop_42 rfl ?_
      refine z_get C I 8 3 zc8 g1 (by decide) zq_659 (v := zr (zg S12 a0 3)) rfl dX8_drop_43 ?_
      refine z_iload_n C hl 1 rfl dX8_drop_46 rfl ?_
      obtain ⟨g14, h⟩ := zd_some h
      refine z_iald C I g14 dX8_drop_47 ?_
      exact z_iret C I hr hk h dX8_drop_48
    · have h := zif c11 h
      refine z_aload_n C hl 0 rfl dX8_drop_29 rfl ?_
      refine z_iconst C (v := 1) dX8_drop_30 (by decide) ?_
      obtain ⟨r15, S16, h17, h⟩ := zcs h
      refine z_callVi C I (tX8_found l D tc b n h17) zyX8_found zyvX8_found zc8 g1 zq_784 (st := []) rfl rfl (by decide) (by decide) hl.1 (Nat.le_of_ble_eq_true rfl) dX8_drop_31 (fun H locs I => ?_)
      exact z_iret C I hr hk h dX8_drop_34
  · have h := zit c7 h
    refine z_ldc C zq_783 dX8_drop_12 ?_
    exact z_iret C I hr hk h dX8_drop_14

def fX8_version_27 (n : Nat) (S : zM) (x0 : Int32) (x1 : Int32) (x2 : Int32) (x3 : Int32) (y0 : Int32) : Option (Int32 × zM) := zbd (y0) fun v1 => zca (fX8_in n S ((x1 : Int32).toInt64) 1 8) fun r3 S4 => if (r3 : Int32) = 0 then (some ((-1000001), S4)) else (zd (zo n 18 x0) <| zca (fX8_in n S4 ((x2 : Int32).toInt64) ((v1 : Int32).toInt64) ((zg S4 x0 5 : Int32).toInt64)) fun r8 S9 => if (r8 : Int32) = 0 then (some ((-1000001), S9)) else (zca (fX8_in n S9 ((x3 : Int32).toInt64) 0 255) fun r12 S13 => if (r12 : Int32) = 0 then (some ((-1000001), S13)) else (if (zg S13 x0 5 : Int32) = (10 : Int32) then (some ((-1000003), S13)) else (zd (za n 0 (zg S13 x0 6) (zg S13 x0 5)) <| zbd (zq S13 (zg S13 x0 6) (zg S13 x0 5) x1) fun S18 => zd (za n 0 (zg S18 x0 7) (zg S18 x0 5)) <| zbd (zq S18 (zg S18 x0 7) (zg S18 x0 5) x2) fun S21 => zd (za n 0 (zg S21 x0 8) (zg S21 x0 5)) <| zbd (zq S21 (zg S21 x0 8) (zg S21 x0 5) x3) fun S24 => zbd (zp S24 x0 5 ((zg S24 x0 5) + 1)) fun S26 => some ((zg S26 x0 5) - 1, S26)))))
theorem bX8_version_27 {p : Program} {l : Launch} {e : Env} {s : State} {m : MethodId} {args : Array Value} {below : List Frame} {meth : Method} {c : Code} {D : va_G} {tc : Nat → ClassId} {b n : Nat} {S' : zM} {r : Int32} (C : zC p m c cX8_version 5 s args yX8_version.cls D tc) (hr : meth.sig.returnType = some .int) (hk : meth.locks = false) : ∀ (S : zM) (x0 : Int32) (x1 : Int32) (x2 : Int32) (x3 : Int32) (y0 : Int32) (H : Heap) (locs : List Loc) (ls : Array Slot), fX8_version_27 n S x0 x1 x2 x3 y0 = some (r, S') → zI D tc b n S s H locs → zL b ls 5 [(0, zr x0), (1, zi x1), (2, zi x2), (3, zi x3)] → W p l e (zR 1) s m args below meth c H locs 0 0 (zQi D tc b n S' r below args s) (zG b m 27 ls [zi y0]) := by
  intro S x0 x1 x2 x3 y0 H locs ls h I hl
  rw [fX8_version_27] at h
  refine z_istore C hl dX8_version_27 (by decide) (fun v1 => [(4, zi v1), (0, zr x0), (1, zi x1), (2, zi x2), (3, zi x3)]) (fun _ => rfl) (fun v1 e2 ls hl => ?_)
  have h := znb e2 h
  refine z_iload_n C hl 2 rfl dX8_version_29 rfl ?_
  refine z_i2l C dX8_version_30 ?_
  refine z_lconst C (v := 1) dX8_version_31 (by decide) ?_
  refine z_ldc2 C zq_805 dX8_version_32 ?_
  obtain ⟨r3, S4, h5, h⟩ := zcs h
  refine z_callSi C I (tX8_in l D tc b n h5) zyX8_in zq_780 zq_779 (st := []) rfl rfl (by decide) (by decide) hl.1 (Nat.le_of_ble_eq_true rfl) dX8_version_35 (fun H locs I => ?_)
  refine z_if_eq C 69 dX8_version_38 (by decide) (fun c6 => ?_) (fun c6 => ?_)
  · have h := zit c6 h
    refine z_ldc C zq_783 dX8_version_69 ?_
    exact z_iret C I hr hk h dX8_version_71
  · have h := zif c6 h
    refine z_iload_n C hl 3 rfl dX8_version_41 rfl ?_
    refine z_i2l C dX8_version_42 ?_
    refine z_iload C hl 0 rfl dX8_version_43 ?_
    refine z_i2l C dX8_version_45 ?_
    refine z_aload_n C hl 1 rfl dX8_version_46 rfl ?_
    obtain ⟨g7, h⟩ := zd_some h
    refine z_get C I 8 5 zc8 g7 (by decide) zq_661 (v := zi (zg S4 x0 5)) rfl dX8_version_47 ?_
    refine z_i2l C dX8_version_50 ?_
    obtain ⟨r8, S9, h10, h⟩ := zcs h
    refine z_callSi C I (tX8_in l D tc b n h10) zyX8_in zq_780 zq_779 (st := []) rfl rfl (by decide) (by decide) hl.1 (Nat.le_of_ble_eq_true rfl) dX8_version_51 (fun H locs I => ?_)
    refine z_if_eq C 69 dX8_version_54 (by decide) (fun c11 => ?_) (fun c11 => ?_)
    · have h := zit c11 h
      refine z_ldc C zq_783 dX8_version_69 ?_
      exact z_iret C I hr hk h dX8_version_71
    · have h := zif c11 h
      refine z_iload_n C hl 4 rfl dX8_version_57 rfl ?_
      refine z_i2l C dX8_version_58 ?_
      refine z_lconst C (v := 0) dX8_version_59 (by decide) ?_
      refine z_ldc2 C zq_806 dX8_version_60 ?_
      obtain ⟨r12, S13, h14, h⟩ := zcs h
      refine z_callSi C I (tX8_in l D tc b n h14) zyX8_in zq_780 zq_779 (st := []) rfl rfl (by decide) (by decide) hl.1 (Nat.le_of_ble_eq_true rfl) dX8_version_63 (fun H locs I => ?_)
      refine z_if_ne C 72 dX8_version_66 (by decide) (fun c15 => ?_) (fun c15 => ?_)
      · have h := zif c15 h
        refine z_aload_n C hl 1 rfl dX8_version_72 rfl ?_
        refine z_get C I 8 5 zc8 g7 (by decide) zq_661 (v := zi (zg S13 x0 5)) rfl dX8_version_73 ?_
        refine z_bipush C (v := 10) dX8_version_76 (by decide) ?_
        refine z_icmp_ne C 84 dX8_version_78 (by decide) (fun c16 => ?_) (fun c16 => ?_)
        · have h := zif c16 h
          refine z_aload_n C hl 1 rfl dX8_version_84 rfl ?_
          refine z_get C I 8 6 zc8 g7 (by decide) zq_662 (v := zr (zg S13 x0 6)) rfl dX8_version_85 ?_
          refine z_aload_n C hl 1 rfl dX8_version_88 rfl ?_
          refine z_get C I 8 5 zc8 g7 (by decide) zq_661 (v := zi (zg S13 x0 5)) rfl dX8_version_89 ?_
          refine z_iload_n C hl 2 rfl dX8_version_92 rfl ?_
          obtain ⟨g17, h⟩ := zd_some h
          refine z_iast C I g17 dX8_version_93 (fun S18 e19 H locs I => ?_)
          have h := znb e19 h
          refine z_aload_n C hl 1 rfl dX8_version_94 rfl ?_
          refine z_get C I 8 7 zc8 g7 (by decide) zq_663 (v := zr (zg S18 x0 7)) rfl dX8_version_95 ?_
          refine z_aload_n C hl 1 rfl dX8_version_98 rfl ?_
          refine z_get C I 8 5 zc8 g7 (by decide) zq_661 (v := zi (zg S18 x0 5)) rfl dX8_version_99 ?_
          refine z_iload_n C hl 3 rfl dX8_version_102 rfl ?_
          obtain ⟨g20, h⟩ := zd_some h
          refine z_iast C I g20 dX8_version_103 (fun S21 e22 H locs I => ?_)
          have h := znb e22 h
          refine z_aload_n C hl 1 rfl dX8_version_104 rfl ?_
          refine z_get C I 8 8 zc8 g7 (by decide) zq_664 (v := zr (zg S21 x0 8)) rfl dX8_version_105 ?_
          refine z_aload_n C hl 1 rfl dX8_version_108 rfl ?_
          refine z_get C I 8 5 zc8 g7 (by decide) zq_661 (v := zi (zg S21 x0 5)) rfl dX8_version_109 ?_
          refine z_iload_n C hl 4 rfl dX8_version_112 rfl ?_
          obtain ⟨g23, h⟩ := zd_some h
          refine z_iast C I g23 dX8_version_113 (fun S24 e25 H locs I => ?_)
          have h := znb e25 h
          refine z_aload_n C hl 1 rfl dX8_version_114 rfl ?_
          refine z_dup C dX8_version_115 rfl ?_
          refine z_get C I 8 5 zc8 g7 (by decide) zq_661 (v := zi (zg S24 x0 5)) rfl dX8_version_116 ?_
          refine z_iconst C (v := 1) dX8_version_119 (by decide) ?_
          refine z_iadd C dX8_version_120 ?_
          refine z_put C I 8 5 zc8 g7 (by decide) rfl zq_661 rfl (v := zi ((zg S24 x0 5) + 1)) rfl dX8_version_121 (fun S26 e27 H locs I => ?_)
          have h := znb e27 h
          refine z_aload_n C hl 1 rfl dX8_version_124 rfl ?_
          refine z_get C I 8 5 zc8 g7 (by decide) zq_661 (v := zi (zg S26 x0 5)) rfl dX8_version_125 ?_
          refine z_iconst C (v := 1) dX8_version_128 (by decide) ?_
          refine z_isub C dX8_version_129 ?_
          exact z_iret C I hr hk h dX8_version_130
        · have h := zit c16 h
          refine z_ldc C zq_807 dX8_version_81 ?_
          exact z_iret C I hr hk h dX8_version_83
      · have h := zit c15 h
        refine z_ldc C zq_783 dX8_version_69 ?_
        exact z_iret C I hr hk h dX8_version_71

def fX8_version (n : Nat) (S : zM) (a0 : Int32) (a1 : Int32) (a2 : Int32) (a3 : Int32) : Option (Int32 × zM) := zd (zo n 18 a0) <| zbd (zp S a0 0 0) fun S2 => if (zg S2 a0 5 : Int32) = 0 then (fX8_version_27 n S2 a0 a1 a2 a3 0) else (zd (za n 0 (zg S2 a0 7) ((zg S2 a0 5) - 1)) <| fX8_version_27 n S2 a0 a1 a2 a3 (ze S2 (zg S2 a0 7) ((zg S2 a0 5) - 1)))
theorem tX8_version (l : Launch) (D : va_G) (tc : Nat → ClassId) (b n : Nat) {S S' : zM} {a0 : Int32} {a1 : Int32} {a2 : Int32} {a3 : Int32} {r : Int32} (h : fX8_version n S a0 a1 a2 a3 = some (r, S')) : zMi l D tc b n yX8_version cX8_version 5 .int 1 [zr a0, zi a1, zi a2, zi a3] S S' r := by
  refine zMi_of zyX8_version (Nat.le_of_ble_eq_true rfl) (fun p e s m args below meth c H C hr hk ls hl I => ?_)
  have hl : zL b ls 5 [(0, zr a0), (1, zi a1), (2, zi a2), (3, zi a3)] := hl
  rw [fX8_version] at h
  refine z_aload_n C hl 0 rfl dX8_version_0 rfl ?_
  refine z_iconst C (v := 0) dX8_version_1 (by decide) ?_
  obtain ⟨g1, h⟩ := zd_some h
  refine z_put C I 8 0 zc8 g1 (by decide) rfl zq_656 rfl (v := zi 0) rfl dX8_version_2 (fun S2 e3 H locs I => ?_)
  have h := znb e3 h
  refine z_aload_n C hl 0 rfl dX8_version_5 rfl ?_
  refine z_get C I 8 5 zc8 g1 (by decide) zq_661 (v := zi (zg S2 a0 5)) rfl dX8_version_6 ?_
  refine z_if_ne C 16 dX8_version_9 (by decide) (fun c4 => ?_) (fun c4 => ?_)
  · have h := zif c4 h
    refine z_aload_n C hl 0 rfl dX8_version_16 rfl ?_
    refine z_get C I 8 7 zc8 g1 (by decide) zq_663 (v := zr (zg S2 a0 7)) rfl dX8_version_17 ?_
    refine z_aload_n C hl 0 rfl dX8_version_20 rfl ?_
    refine z_get C I 8 5 zc8 g1 (by decide) zq_661 (v := zi (zg S2 a0 5)) rfl dX8_version_21 ?_
    refine z_iconst C (v := 1) dX8_version_24 (by decide) ?_
    refine z_isub C dX8_version_25 ?_
    obtain ⟨g5, h⟩ := zd_some h
    refine z_iald C I g5 dX8_version_26 ?_
    exact bX8_version_27 C hr hk _ _ _ _ _ _ _ _ _ h I (zL_sub hl [0, 1, 2, 3] rfl)
  · have h := zit c4 h
    refine z_iconst C (v := 0) dX8_version_12 (by decide) ?_
    refine z_goto C 27 dX8_version_13 (by decide) ?_
    exact bX8_version_27 C hr hk _ _ _ _ _ _ _ _ _ h I (zL_sub hl [0, 1, 2, 3] rfl)

def fX8_isVersion (n : Nat) (S : zM) (a0 : Int32) (a1 : Int32) : Option (Int32 × zM) := zd (zo n 18 a0) <| zca (fX8_in n S ((a1 : Int32).toInt64) 0 (((zg S a0 5) - 1 : Int32).toInt64)) fun r2 S3 => zd (zbit r2) <| some (r2, S3)
theorem tX8_isVersion (l : Launch) (D : va_G) (tc : Nat → ClassId) (b n : Nat) {S S' : zM} {a0 : Int32} {a1 : Int32} {r : Int32} (h : fX8_isVersion n S a0 a1 = some (r, S')) : zMi l D tc b n yX8_isVersion cX8_isVersion 2 .boolean 1 [zr a0, zi a1] S S' r := by
  refine zMi_of zyX8_isVersion (Nat.le_of_ble_eq_true rfl) (fun p e s m args below meth c H C hr hk ls hl I => ?_)
  have hl : zL b ls 2 [(0, zr a0), (1, zi a1)] := hl
  rw [fX8_isVersion] at h
  refine z_iload_n C hl 1 rfl dX8_isVersion_0 rfl ?_
  refine z_i2l C dX8_isVersion_1 ?_
  refine z_lconst C (v := 0) dX8_isVersion_2 (by decide) ?_
  refine z_aload_n C hl 0 rfl dX8_isVersion_3 rfl ?_
  obtain ⟨g1, h⟩ := zd_some h
  refine z_get C I 8 5 zc8 g1 (by decide) zq_661 (v := zi (zg S a0 5)) rfl dX8_isVersion_4 ?_
  refine z_iconst C (v := 1) dX8_isVersion_7 (by decide) ?_
  refine z_isub C dX8_isVersion_8 ?_
  refine z_i2l C dX8_isVersion_9 ?_
  obtain ⟨r2, S3, h4, h⟩ := zcs h
  refine z_callSi C I (tX8_in l D tc b n h4) zyX8_in zq_780 zq_779 (st := []) rfl rfl (by decide) (by decide) hl.1 (Nat.le_of_ble_eq_true rfl) dX8_isVersion_10 (fun H locs I => ?_)
  obtain ⟨g5, h⟩ := zd_some h
  exact z_zret C I hr hk g5 h dX8_isVersion_13

def fX8_areSteps (n : Nat) (S : zM) (a0 : Int32) (a1 : Int32) (a2 : Int32) : Option (Int32 × zM) := zd (zo n 18 a0) <| zca (fX8_isVersion n S a0 a1) fun r2 S3 => if (r2 : Int32) = 0 then (some (0, S3)) else (zca (fX8_isVersion n S3 a0 a2) fun r6 S7 => if (r6 : Int32) = 0 then (some (0, S7)) else (if (a2 : Int32) ≤ (a1 : Int32) then (some (0, S7)) else (some (1, S7))))
theorem tX8_areSteps (l : Launch) (D : va_G) (tc : Nat → ClassId) (b n : Nat) {S S' : zM} {a0 : Int32} {a1 : Int32} {a2 : Int32} {r : Int32} (h : fX8_areSteps n S a0 a1 a2 = some (r, S')) : zMi l D tc b n yX8_areSteps cX8_areSteps 3 .boolean 2 [zr a0, zi a1, zi a2] S S' r := by
  refine zMi_of zyX8_areSteps (Nat.le_of_ble_eq_true rfl) (fun p e s m args below meth c H C hr hk ls hl I => ?_)
  have hl : zL b ls 3 [(0, zr a0), (1, zi a1), (2, zi a2)] := hl
  rw [fX8_areSteps] at h
  refine z_aload_n C hl 0 rfl dX8_areSteps_0 rfl ?_
  refine z_iload_n C hl 1 rfl dX8_areSteps_1 rfl ?_
  obtain ⟨g1, h⟩ := zd_some h
  obtain ⟨r2, S3, h4, h⟩ := zcs h
  refine z_callVi C I (tX8_isVersion l D tc b n h4) zyX8_isVersion zyvX8_isVersion zc8 g1 zq_816 (st := []) rfl rfl (by decide) (by decide) hl.1 (Nat.le_of_ble_eq_true rfl) dX8_areSteps_2 (fun H locs I => ?_)
  refine z_if_eq C 25 dX8_areSteps_5 (by decide) (fun c5 => ?_) (fun c5 => ?_)
  · have h := zit c5 h
    refine z_iconst C (v := 0) dX8_areSteps_25 (by decide) ?_
    exact z_zret C I hr hk rfl h dX8_areSteps_26
  · have h := zif c5 h
    refine z_aload_n C hl 0 rfl dX8_areSteps_8 rfl ?_
    refine z_iload_n C hl 2 rfl dX8_areSteps_9 rfl ?_
    obtain ⟨r6, S7, h8, h⟩ := zcs h
    refine z_callVi C I (tX8_isVersion l D tc b n h8) zyX8_isVersion zyvX8_isVersion zc8 g1 zq_816 (st := []) rfl rfl (by decide) (by decide) hl.1 (Nat.le_of_ble_eq_true rfl) dX8_areSteps_10 (fun H locs I => ?_)
    refine z_if_eq C 25 dX8_areSteps_13 (by decide) (fun c9 => ?_) (fun c9 => ?_)
    · have h := zit c9 h
      refine z_iconst C (v := 0) dX8_areSteps_25 (by decide) ?_
      exact z_zret C I hr hk rfl h dX8_areSteps_26
    · have h := zif c9 h
      refine z_iload_n C hl 1 rfl dX8_areSteps_16 rfl ?_
      refine z_iload_n C hl 2 rfl dX8_areSteps_17 rfl ?_
      refine z_icmp_ge C 25 dX8_areSteps_18 (by decide) (fun c10 => ?_) (fun c10 => ?_)
      · have h := zit c10 h
        refine z_iconst C (v := 0) dX8_areSteps_25 (by decide) ?_
        exact z_zret C I hr hk rfl h dX8_areSteps_26
      · have h := zif c10 h
        refine z_iconst C (v := 1) dX8_areSteps_21 (by decide) ?_
        refine z_goto C 26 dX8_areSteps_22 (by decide) ?_
        exact z_zret C I hr hk rfl h dX8_areSteps_26

def fX8_step (n : Nat) (S : zM) (a0 : Int32) (a1 : Int32) (a2 : Int32) (a3 : Int32) : Option (Int32 × zM) := zd (zo n 18 a0) <| zbd (zp S a0 0 0) fun S2 => zca (fX8_areSteps n S2 a0 a1 a2) fun r4 S5 => if (r4 : Int32) = 0 then (some ((-1000001), S5)) else (zca (fX8_in n S5 ((a3 : Int32).toInt64) 1 1000) fun r8 S9 => if (r8 : Int32) = 0 then (some ((-1000001), S9)) else (zd (za n 0 (zg S9 a0 9) ((10 * a1) + a2)) <| zbd (ze S9 (zg S9 a0 9) ((10 * a1) + a2)) fun v13 => zbd (zq S9 (zg S9 a0 9) ((10 * a1) + a2) a3) fun S15 => some (v13, S15)))
theorem tX8_step (l : Launch) (D : va_G) (tc : Nat → ClassId) (b n : Nat) {S S' : zM} {a0 : Int32} {a1 : Int32} {a2 : Int32} {a3 : Int32} {r : Int32} (h : fX8_step n S a0 a1 a2 a3 = some (r, S')) : zMi l D tc b n yX8_step cX8_step 5 .int 3 [zr a0, zi a1, zi a2, zi a3] S S' r := by
  refine zMi_of zyX8_step (Nat.le_of_ble_eq_true rfl) (fun p e s m args below meth c H C hr hk ls hl I => ?_)
  have hl : zL b ls 5 [(0, zr a0), (1, zi a1), (2, zi a2), (3, zi a3)] := hl
  rw [fX8_step] at h
  refine z_aload_n C hl 0 rfl dX8_step_0 rfl ?_
  refine z_iconst C (v := 0) dX8_step_1 (by decide) ?_
  obtain ⟨g1, h⟩ := zd_some h
  refine z_put C I 8 0 zc8 g1 (by decide) rfl zq_656 rfl (v := zi 0) rfl dX8_step_2 (fun S2 e3 H locs I => ?_)
  have h := znb e3 h
  refine z_aload_n C hl 0 rfl dX8_step_5 rfl ?_
  refine z_iload_n C hl 1 rfl dX8_step_6 rfl ?_
  refine z_iload_n C hl 2 rfl dX8_step_7 rfl ?_
  obtain ⟨r4, S5, h6, h⟩ := zcs h
  refine z_callVi C I (tX8_areSteps l D tc b n h6) zyX8_areSteps zyvX8_areSteps zc8 g1 zq_812 (st := []) rfl rfl (by decide) (by decide) hl.1 (Nat.le_of_ble_eq_true rfl) dX8_step_8 (fun H locs I => ?_)
  refine z_if_eq C 26 dX8_step_11 (by decide) (fun c7 => ?_) (fun c7 => ?_)
  · have h := zit c7 h
    refine z_ldc C zq_783 dX8_step_26 ?_
    exact z_iret C I hr hk h dX8_step_28
  · have h := zif c7 h
    refine z_iload_n C hl 3 rfl dX8_step_14 rfl ?_
    refine z_i2l C dX8_step_15 ?_
    refine z_lconst C (v := 1) dX8_step_16 (by decide) ?_
    refine z_ldc2 C zq_820 dX8_step_17 ?_
    obtain ⟨r8, S9, h10, h⟩ := zcs h
    refine z_callSi C I (tX8_in l D tc b n h10) zyX8_in zq_780 zq_779 (st := []) rfl rfl (by decide) (by decide) hl.1 (Nat.le_of_ble_eq_true rfl) dX8_step_20 (fun H locs I => ?_)
    refine z_if_ne C 29 dX8_step_23 (by decide) (fun c11 => ?_) (fun c11 => ?_)
    · have h := zif c11 h
      refine z_aload_n C hl 0 rfl dX8_step_29 rfl ?_
      refine z_get C I 8 9 zc8 g1 (by decide) zq_665 (v := zr (zg S9 a0 9)) rfl dX8_step_30 ?_
      refine z_bipush C (v := 10) dX8_step_33 (by decide) ?_
      refine z_iload_n C hl 1 rfl dX8_step_35 rfl ?_
      refine z_imul C dX8_step_36 ?_
      refine z_iload_n C hl 2 rfl dX8_step_37 rfl ?_
      refine z_iadd C dX8_step_38 ?_
      obtain ⟨g12, h⟩ := zd_some h
      refine z_iald C I g12 dX8_step_39 ?_
      refine z_istore C hl dX8_step_40 (by decide) (fun v13 => [(4, zi v13), (0, zr a0), (1, zi a1), (2, zi a2), (3, zi a3)]) (fun _ => rfl) (fun v13 e14 ls hl => ?_)
      have h := znb e14 h
      refine z_aload_n C hl 1 rfl dX8_step_42 rfl ?_
      refine z_get C I 8 9 zc8 g1 (by decide) zq_665 (v := zr (zg S9 a0 9)) rfl dX8_step_43 ?_
      refine z_bipush C (v := 10) dX8_step_46 (by decide) ?_
      refine z_iload_n C hl 2 rfl dX8_step_48 rfl ?_
      refine z_imul C dX8_step_49 ?_
      refine z_iload_n C hl 3 rfl dX8_step_50 rfl ?_
      refine z_iadd C dX8_step_51 ?_
      refine z_iload_n C hl 4 rfl dX8_step_52 rfl ?_
      refine z_iast C I g12 dX8_step_53 (fun S15 e16 H locs I => ?_)
      have h := znb e16 h
      refine z_iload C hl 0 rfl dX8_step_54 ?_
      exact z_iret C I hr hk h dX8_step_56
    · have h := zit c11 h
      refine z_ldc C zq_783 dX8_step_26 ?_
      exact z_iret C I hr hk h dX8_step_28

def fX8_findWays_174 (n : Nat) (k50 : zM → Int32 → Int32 → Int32 → Int32 → Option (Int32 × zM)) (S : zM) (x0 : Int32) (x1 : Int32) (x2 : Int32) (x3 : Int32) : Option (Int32 × zM) := zbd (x3 + 1) fun v1 => k50 S x0 x1 x2 v1
theorem bX8_findWays_174 {p : Program} {l : Launch} {e : Env} {s : State} {m : MethodId} {args : Array Value} {below : List Frame} {meth : Method} {c : Code} {D : va_G} {tc : Nat → ClassId} {b n : Nat} {S' : zM} {r : Int32} (C : zC p m c cX8_findWays 6 s args yX8_findWays.cls D tc) (hr : meth.sig.returnType = none) (hk : meth.locks = false) {k50 : zM → Int32 → Int32 → Int32 → Int32 → Option (Int32 × zM)} (K50 : ∀ (S : zM) (x0 : Int32) (x1 : Int32) (x2 : Int32) (x3 : Int32) (H : Heap) (locs : List Loc) (ls : Array Slot), k50 S x0 x1 x2 x3 = some (r, S') → zI D tc b n S s H locs → zL b ls 6 [(0, zr x0), (1, zi x1), (2, zi x2), (3, zi x3)] → W p l e (zR 0) s m args below meth c H locs 0 0 (zQv D tc b n S' below args s) (zG b m 50 ls [])) : ∀ (S : zM) (x0 : Int32) (x1 : Int32) (x2 : Int32) (x3 : Int32) (H : Heap) (locs : List Loc) (ls : Array Slot), fX8_findWays_174 n k50 S x0 x1 x2 x3 = some (r, S') → zI D tc b n S s H locs → zL b ls 6 [(0, zr x0), (1, zi x1), (2, zi x2), (3, zi x3)] → W p l e (zR 0) s m args below meth c H locs 0 0 (zQv D tc b n S' below args s) (zG b m 174 ls []) := by
  intro S x0 x1 x2 x3 H locs ls h I hl
  rw [fX8_findWays_174] at h
  refine z_iinc C hl 3 (v := x3 + 1) rfl dX8_findWays_174 rfl (by decide) (fun v1 => [(3, zi v1), (0, zr x0), (1, zi x1), (2, zi x2)]) (fun _ => rfl) (fun v1 e2 ls hl => ?_)
  have h := znb e2 h
  refine z_goto C 50 dX8_findWays_177 (by decide) ?_
  exact K50 _ _ _ _ _ _ _ _ h I (zL_sub hl [1, 2, 3, 0] rfl)

def fX8_findWays_145 (n : Nat) (k50 : zM → Int32 → Int32 → Int32 → Int32 → Option (Int32 × zM)) (S : zM) (x0 : Int32) (x1 : Int32) (x2 : Int32) (x3 : Int32) (x5 : Int32) : Option (Int32 × zM) := zd (zo n 18 x0) <| zd (za n 0 (zg S x0 10) x2) <| zbd (zq S (zg S x0 10) x2 x5) fun S3 => zd (za n 0 (zg S3 x0 11) x3) <| zd (za n 0 (zg S3 x0 11) x2) <| zbd (zq S3 (zg S3 x0 11) x2 ((ze S3 (zg S3 x0 11) x3) + 1)) fun S7 => zd (za n 0 (zg S7 x0 12) x2) <| zbd (zq S7 (zg S7 x0 12) x2 x3) fun S10 => fX8_findWays_174 n k50 S10 x0 x1 x2 x3
theorem bX8_findWays_145 {p : Program} {l : Launch} {e : Env} {s : State} {m : MethodId} {args : Array Value} {below : List Frame} {meth : Method} {c : Code} {D : va_G} {tc : Nat → ClassId} {b n : Nat} {S' : zM} {r : Int32} (C : zC p m c cX8_findWays 6 s args yX8_findWays.cls D tc) (hr : meth.sig.returnType = none) (hk : meth.locks = false) {k50 : zM → Int32 → Int32 → Int32 → Int32 → Option (Int32 × zM)} (K50 : ∀ (S : zM) (x0 : Int32) (x1 : Int32) (x2 : Int32) (x3 : Int32) (H : Heap) (locs : List Loc) (ls : Array Slot), k50 S x0 x1 x2 x3 = some (r, S') → zI D tc b n S s H locs → zL b ls 6 [(0, zr x0), (1, zi x1), (2, zi x2), (3, zi x3)] → W p l e (zR 0) s m args below meth c H locs 0 0 (zQv D tc b n S' below args s) (zG b m 50 ls [])) : ∀ (S : zM) (x0 : Int32) (x1 : Int32) (x2 : Int32) (x3 : Int32) (x5 : Int32) (H : Heap) (locs : List Loc) (ls : Array Slot), fX8_findWays_145 n k50 S x0 x1 x2 x3 x5 = some (r, S') → zI D tc b n S s H locs → zL b ls 6 [(0, zr x0), (1, zi x1), (2, zi x2), (3, zi x3), (5, zi x5)] → W p l e (zR 0) s m args below meth c H locs 0 0 (zQv D tc b n S' below args s) (zG b m 145 ls []) := by
  intro S x0 x1 x2 x3 x5 H locs ls h I hl
  rw [fX8_findWays_145] at h
  refine z_aload_n C hl 0 rfl dX8_findWays_145 rfl ?_
  obtain ⟨g1, h⟩ := zd_some h
  refine z_get C I 8 10 zc8 g1 (by decide) zq_666 (v := zr (zg S x0 10)) rfl dX8_findWays_146 ?_
  refine z_iload_n C hl 2 rfl dX8_findWays_149 rfl ?_
  refine z_iload C hl 4 rfl dX8_findWays_150 ?_
  obtain ⟨g2, h⟩ := zd_some h
  refine z_iast C I g2 dX8_findWays_152 (fun S3 e4 H locs I => ?_)
  have h := znb e4 h
  refine z_aload_n C hl 0 rfl dX8_findWays_153 rfl ?_
  refine z_get C I 8 11 zc8 g1 (by decide) zq_667 (v := zr (zg S3 x0 11)) rfl dX8_findWays_154 ?_
  refine z_iload_n C hl 2 rfl dX8_findWays_157 rfl ?_
  refine z_aload_n C hl 0 rfl dX8_findWays_158 rfl ?_
  refine z_get C I 8 11 zc8 g1 (by decide) zq_667 (v := zr (zg S3 x0 11)) rfl dX8_findWays_159 ?_
  refine z_iload_n C hl 3 rfl dX8_findWays_162 rfl ?_
  obtain ⟨g5, h⟩ := zd_some h
  refine z_iald C I g5 dX8_findWays_163 ?_
  refine z_iconst C (v := 1) dX8_findWays_164 (by decide) ?_
  refine z_iadd C dX8_findWays_165 ?_
  obtain ⟨g6, h⟩ := zd_some h
  refine z_iast C I g6 dX8_findWays_166 (fun S7 e8 H locs I => ?_)
  have h := znb e8 h
  refine z_aload_n C hl 0 rfl dX8_findWays_167 rfl ?_
  refine z_get C I 8 12 zc8 g1 (by decide) zq_668 (v := zr (zg S7 x0 12)) rfl dX8_findWays_168 ?_
  refine z_iload_n C hl 2 rfl dX8_findWays_171 rfl ?_
  refine z_iload_n C hl 3 rfl dX8_findWays_172 rfl ?_
  obtain ⟨g9, h⟩ := zd_some h
  refine z_iast C I g9 dX8_findWays_173 (fun S10 e11 H locs I => ?_)
  have h := znb e11 h
  exact bX8_findWays_174 C hr hk K50 _ _ _ _ _ _ _ _ h I (zL_sub hl [0, 1, 2, 3] rfl)

def fX8_findWays_50 (n : Nat) (k42 : zM → Int32 → Int32 → Int32 → Option (Int32 × zM)) : Nat → zM → Int32 → Int32 → Int32 → Int32 → Option (Int32 × zM)
  | 0, _, _, _, _, _ => none
  | fu + 1, S, x0, x1, x2, x3 => if (x1 : Int32) < (x3 : Int32) then (zbd (x2 + (-1)) fun v2 => k42 S x0 x1 v2) else (zd (zo n 18 x0) <| zd (za n 0 (zg S x0 9) ((10 * x2) + x3)) <| zbd (ze S (zg S x0 9) ((10 * x2) + x3)) fun v6 => if (v6 : Int32) ≤ 0 then (fX8_findWays_174 n (fX8_findWays_50 n k42 fu) S x0 x1 x2 x3) else (zd (za n 0 (zg S x0 10) x3) <| if (ze S (zg S x0 10) x3 : Int32) = ((-1000000) : Int32) then (fX8_findWays_174 n (fX8_findWays_50 n k42 fu) S x0 x1 x2 x3) else (zbd (v6 + (ze S (zg S x0 10) x3)) fun v11 => zd (za n 0 (zg S x0 10) x2) <| if (ze S (zg S x0 10) x2 : Int32) = ((-1000000) : Int32) then (fX8_findWays_145 n (fX8_findWays_50 n k42 fu) S x0 x1 x2 x3 v11) else (if (v11 : Int32) < (ze S (zg S x0 10) x2 : Int32) then (fX8_findWays_145 n (fX8_findWays_50 n k42 fu) S x0 x1 x2 x3 v11) else (if (v11 : Int32) = (ze S (zg S x0 10) x2 : Int32) then (zd (za n 0 (zg S x0 11) x3) <| zd (za n 0 (zg S x0 11) x2) <| if (ze S (zg S x0 11) x2 : Int32) ≤ ((ze S (zg S x0 11) x3) + 1 : Int32) then (fX8_findWays_174 n (fX8_findWays_50 n k42 fu) S x0 x1 x2 x3) else (fX8_findWays_145 n (fX8_findWays_50 n k42 fu) S x0 x1 x2 x3 v11)) else (fX8_findWays_174 n (fX8_findWays_50 n k42 fu) S x0 x1 x2 x3))))))
theorem bX8_findWays_50 {p : Program} {l : Launch} {e : Env} {s : State} {m : MethodId} {args : Array Value} {below : List Frame} {meth : Method} {c : Code} {D : va_G} {tc : Nat → ClassId} {b n : Nat} {S' : zM} {r : Int32} (C : zC p m c cX8_findWays 6 s args yX8_findWays.cls D tc) (hr : meth.sig.returnType = none) (hk : meth.locks = false) {k42 : zM → Int32 → Int32 → Int32 → Option (Int32 × zM)} (K42 : ∀ (S : zM) (x0 : Int32) (x1 : Int32) (x2 : Int32) (H : Heap) (locs : List Loc) (ls : Array Slot), k42 S x0 x1 x2 = some (r, S') → zI D tc b n S s H locs → zL b ls 6 [(0, zr x0), (1, zi x1), (2, zi x2)] → W p l e (zR 0) s m args below meth c H locs 0 0 (zQv D tc b n S' below args s) (zG b m 42 ls [])) : ∀ (fu : Nat) (S : zM) (x0 : Int32) (x1 : Int32) (x2 : Int32) (x3 : Int32) (H : Heap) (locs : List Loc) (ls : Array Slot), fX8_findWays_50 n k42 fu S x0 x1 x2 x3 = some (r, S') → zI D tc b n S s H locs → zL b ls 6 [(0, zr x0), (1, zi x1), (2, zi x2), (3, zi x3)] → W p l e (zR 0) s m args below meth c H locs 0 0 (zQv D tc b n S' below args s) (zG b m 50 ls []) := by
  intro fu
  induction fu with
  | zero => intro S x0 x1 x2 x3 H locs ls h _ _; rw [fX8_findWays_50] at h; cases h
  | succ fu ih =>
    intro S x0 x1 x2 x3 H locs ls h I hl
    rw [fX8_findWays_50] at h
    refine z_iload_n C hl 3 rfl dX8_findWays_50 rfl ?_
    refine z_iload_n C hl 1 rfl dX8_findWays_51 rfl ?_
    refine z_icmp_gt C 180 dX8_findWays_52 (by decide) (fun c1 => ?_) (fun c1 => ?_)
    · have h := zit c1 h
      refine z_iinc C hl 2 (v := x2 + (-1)) rfl dX8_findWays_180 rfl (by decide) (fun v2 => [(2, zi v2), (0, zr x0), (1, zi x1), (3, zi x3)]) (fun _ => rfl) (fun v2 e3 ls hl => ?_)
      have h := znb e3 h
      refine z_goto C 42 dX8_findWays_183 (by decide) ?_
      exact K42 _ _ _ _ _ _ _ h I (zL_sub hl [1, 2, 0] rfl)
    · have h := zif c1 h
      refine z_aload_n C hl 0 rfl dX8_findWays_55 rfl ?_
      obtain ⟨g4, h⟩ := zd_some h
      refine z_get C I 8 9 zc8 g4 (by decide) zq_665 (v := zr (zg S x0 9)) rfl dX8_findWays_56 ?_
      refine z_bipush C (v := 10) dX8_findWays_59 (by decide) ?_
      refine z_iload_n C hl 2 rfl dX8_findWays_61 rfl ?_
      refine z_imul C dX8_findWays_62 ?_
      refine z_iload_n C hl 3 rfl dX8_findWays_63 rfl ?_
      refine z_iadd C dX8_findWays_64 ?_
      obtain ⟨g5, h⟩ := zd_some h
      refine z_iald C I g5 dX8_findWays_65 ?_
      refine z_istore C hl dX8_findWays_66 (by decide) (fun v6 => [(4, zi v6), (0, zr x0), (1, zi x1), (2, zi x2), (3, zi x3)]) (fun _ => rfl) (fun v6 e7 ls hl => ?_)
      have h := znb e7 h
      refine z_iload C hl 0 rfl dX8_findWays_68 ?_
      refine z_if_le C 174 dX8_findWays_70 (by decide) (fun c8 => ?_) (fun c8 => ?_)
      · have h := zit c8 h
        exact bX8_findWays_174 C hr hk ih _ _ _ _ _ _ _ _ h I (zL_sub hl [1, 2, 3, 4] rfl)
      · have h := zif c8 h
        refine z_aload_n C hl 1 rfl dX8_findWays_73 rfl ?_
        refine z_get C I 8 10 zc8 g4 (by decide) zq_666 (v := zr (zg S x0 10)) rfl dX8_findWays_74 ?_
        refine z_iload_n C hl 4 rfl dX8_findWays_77 rfl ?_
        obtain ⟨g9, h⟩ := zd_some h
        refine z_iald C I g9 dX8_findWays_78 ?_
        refine z_ldc C zq_829 dX8_findWays_79 ?_
        refine z_icmp_eq C 174 dX8_findWays_81 (by decide) (fun c10 => ?_) (fun c10 => ?_)
        · have h := zit c10 h
          exact bX8_findWays_174 C hr hk ih _ _ _ _ _ _ _ _ h I (zL_sub hl [1, 2, 3, 4] rfl)
        · have h := zif c10 h
          refine z_iload C hl 0 rfl dX8_findWays_84 ?_
          refine z_aload_n C hl 1 rfl dX8_findWays_86 rfl ?_
          refine z_get C I 8 10 zc8 g4 (by decide) zq_666 (v := zr (zg S x0 10)) rfl dX8_findWays_87 ?_
          refine z_iload_n C hl 4 rfl dX8_findWays_90 rfl ?_
          refine z_iald C I g9 dX8_findWays_91 ?_
          refine z_iadd C dX8_findWays_92 ?_
          refine z_istore C hl dX8_findWays_93 (by decide) (fun v11 => [(5, zi v11), (4, zi v6), (0, zr x0), (1, zi x1), (2, zi x2), (3, zi x3)]) (fun _ => rfl) (fun v11 e12 ls hl => ?_)
          have h := znb e12 h
          refine z_aload_n C hl 2 rfl dX8_findWays_95 rfl ?_
          refine z_get C I 8 10 zc8 g4 (by decide) zq_666 (v := zr (zg S x0 10)) rfl dX8_findWays_96 ?_
          refine z_iload_n C hl 4 rfl dX8_findWays_99 rfl ?_
          obtain ⟨g13, h⟩ := zd_some h
          refine z_iald C I g13 dX8_findWays_100 ?_
          refine z_ldc C zq_829 dX8_findWays_101 ?_
          refine z_icmp_eq C 145 dX8_findWays_103 (by decide) (fun c14 => ?_) (fun c14 => ?_)
          · have h := zit c14 h
            exact bX8_findWays_145 C hr hk ih _ _ _ _ _ _ _ _ _ h I (zL_sub hl [2, 3, 4, 5, 0] rfl)
          · have h := zif c14 h
            refine z_iload C hl 0 rfl dX8_findWays_106 ?_
            refine z_aload_n C hl 2 rfl dX8_findWays_108 rfl ?_
            refine z_get C I 8 10 zc8 g4 (by decide) zq_666 (v := zr (zg S x0 10)) rfl dX8_findWays_109 ?_
            refine z_iload_n C hl 4 rfl dX8_findWays_112 rfl ?_
            refine z_iald C I g13 dX8_findWays_113 ?_
            refine z_icmp_lt C 145 dX8_findWays_114 (by decide) (fun c15 => ?_) (fun c15 => ?_)
            · have h := zit c15 h
              exact bX8_findWays_145 C hr hk ih _ _ _ _ _ _ _ _ _ h I (zL_sub hl [2, 3, 4, 5, 0] rfl)
            · have h := zif c15 h
              refine z_iload C hl 0 rfl dX8_findWays_117 ?_
              refine z_aload_n C hl 2 rfl dX8_findWays_119 rfl ?_
              refine z_get C I 8 10 zc8 g4 (by decide) zq_666 (v := zr (zg S x0 10)) rfl dX8_findWays_120 ?_
              refine z_iload_n C hl 4 rfl dX8_findWays_123 rfl ?_
              refine z_iald C I g13 dX8_findWays_124 ?_
              refine z_icmp_ne C 174 dX8_findWays_125 (by decide) (fun c16 => ?_) (fun c16 => ?_)
              · have h := zif c16 h
                exact bX8_findWays_174 C hr hk ih _ _ _ _ _ _ _ _ h I (zL_sub hl [2, 3, 4, 5] rfl)
              · have h := zit c16 h
                refine z_aload_n C hl 2 rfl dX8_findWays_128 rfl ?_
                refine z_get C I 8 11 zc8 g4 (by decide) zq_667 (v := zr (zg S x0 11)) rfl dX8_findWays_129 ?_
                refine z_iload_n C hl 5 rfl dX8_findWays_132 rfl ?_
                obtain ⟨g17, h⟩ := zd_some h
                refine z_iald C I g17 dX8_findWays_133 ?_
                refine z_iconst C (v := 1) dX8_findWays_134 (by decide) ?_
                refine z_iadd C dX8_findWays_135 ?_
                refine z_aload_n C hl 2 rfl dX8_findWays_136 rfl ?_
                refine z_get C I 8 11 zc8 g4 (by decide) zq_667 (v := zr (zg S x0 11)) rfl dX8_findWays_137 ?_
                refine z_iload_n C hl 4 rfl dX8_findWays_140 rfl ?_
                obtain ⟨g18, h⟩ := zd_some h
                refine z_iald C I g18 dX8_findWays_141 ?_
                refine z_icmp_ge C 174 dX8_findWays_142 (by decide) (fun c19 => ?_) (fun c19 => ?_)
                · have h := zit c19 h
                  exact bX8_findWays_174 C hr hk ih _ _ _ _ _ _ _ _ h I (zL_sub hl [2, 3, 4, 5] rfl)
                · have h := zif c19 h
                  exact bX8_findWays_145 C hr hk ih _ _ _ _ _ _ _ _ _ h I (zL_sub hl [2, 3, 4, 5, 0] rfl)

def fX8_findWays_42 (n : Nat) : Nat → zM → Int32 → Int32 → Int32 → Option (Int32 × zM)
  | 0, _, _, _, _ => none
  | fu + 1, S, x0, x1, x2 => if (x2 : Int32) < 0 then (some (0, S)) else (zbd (x2 + 1) fun v2 => fX8_findWays_50 n (fX8_findWays_42 n fu) 1000 S x0 x1 x2 v2)
theorem bX8_findWays_42 {p : Program} {l : Launch} {e : Env} {s : State} {m : MethodId} {args : Array Value} {below : List Frame} {meth : Method} {c : Code} {D : va_G} {tc : Nat → ClassId} {b n : Nat} {S' : zM} {r : Int32} (C : zC p m c cX8_findWays 6 s args yX8_findWays.cls D tc) (hr : meth.sig.returnType = none) (hk : meth.locks = false) : ∀ (fu : Nat) (S : zM) (x0 : Int32) (x1 : Int32) (x2 : Int32) (H : Heap) (locs : List Loc) (ls : Array Slot), fX8_findWays_42 n fu S x0 x1 x2 = some (r, S') → zI D tc b n S s H locs → zL b ls 6 [(0, zr x0), (1, zi x1), (2, zi x2)] → W p l e (zR 0) s m args below meth c H locs 0 0 (zQv D tc b n S' below args s) (zG b m 42 ls []) := by
  intro fu
  induction fu with
  | zero => intro S x0 x1 x2 H locs ls h _ _; rw [fX8_findWays_42] at h; cases h
  | succ fu ih =>
    intro S x0 x1 x2 H locs ls h I hl
    rw [fX8_findWays_42] at h
    refine z_iload_n C hl 2 rfl dX8_findWays_42 rfl ?_
    refine z_if_lt C 186 dX8_findWays_43 (by decide) (fun c1 => ?_) (fun c1 => ?_)
    · have h := zit c1 h
      exact z_vret C I hr hk h dX8_findWays_186
    · have h := zif c1 h
      refine z_iload_n C hl 2 rfl dX8_findWays_46 rfl ?_
      refine z_iconst C (v := 1) dX8_findWays_47 (by decide) ?_
      refine z_iadd C dX8_findWays_48 ?_
      refine z_istore_n C hl dX8_findWays_49 rfl (by decide) (fun v2 => [(3, zi v2), (0, zr x0), (1, zi x1), (2, zi x2)]) (fun _ => rfl) (fun v2 e3 ls hl => ?_)
      have h := znb e3 h
      exact bX8_findWays_50 C hr hk ih 1000 _ _ _ _ _ _ _ _ h I (zL_sub hl [1, 2, 3, 0] rfl)

def fX8_findWays_24 (n : Nat) (k2 : zM → Int32 → Int32 → Int32 → Option (Int32 × zM)) (S : zM) (x0 : Int32) (x1 : Int32) (x2 : Int32) (y0 : Int32) (y1 : Int32) (y2 : Int32) : Option (Int32 × zM) := zd (za n 0 y2 y1) <| zbd (zq S y2 y1 y0) fun S2 => zd (zo n 18 x0) <| zd (za n 0 (zg S2 x0 11) x2) <| zbd (zq S2 (zg S2 x0 11) x2 0) fun S6 => zbd (x2 + 1) fun v8 => k2 S6 x0 x1 v8
theorem bX8_findWays_24 {p : Program} {l : Launch} {e : Env} {s : State} {m : MethodId} {args : Array Value} {below : List Frame} {meth : Method} {c : Code} {D : va_G} {tc : Nat → ClassId} {b n : Nat} {S' : zM} {r : Int32} (C : zC p m c cX8_findWays 6 s args yX8_findWays.cls D tc) (hr : meth.sig.returnType = none) (hk : meth.locks = false) {k2 : zM → Int32 → Int32 → Int32 → Option (Int32 × zM)} (K2 : ∀ (S : zM) (x0 : Int32) (x1 : Int32) (x2 : Int32) (H : Heap) (locs : List Loc) (ls : Array Slot), k2 S x0 x1 x2 = some (r, S') → zI D tc b n S s H locs → zL b ls 6 [(0, zr x0), (1, zi x1), (2, zi x2)] → W p l e (zR 0) s m args below meth c H locs 0 0 (zQv D tc b n S' below args s) (zG b m 2 ls [])) : ∀ (S : zM) (x0 : Int32) (x1 : Int32) (x2 : Int32) (y0 : Int32) (y1 : Int32) (y2 : Int32) (H : Heap) (locs : List Loc) (ls : Array Slot), fX8_findWays_24 n k2 S x0 x1 x2 y0 y1 y2 = some (r, S') → zI D tc b n S s H locs → zL b ls 6 [(0, zr x0), (1, zi x1), (2, zi x2)] → W p l e (zR 0) s m args below meth c H locs 0 0 (zQv D tc b n S' below args s) (zG b m 24 ls [zi y0, zi y1, zr y2]) := by
  intro S x0 x1 x2 y0 y1 y2 H locs ls h I hl
  rw [fX8_findWays_24] at h
  obtain ⟨g1, h⟩ := zd_some h
  refine z_iast C I g1 dX8_findWays_24 (fun S2 e3 H locs I => ?_)
  have h := znb e3 h
  refine z_aload_n C hl 0 rfl dX8_findWays_25 rfl ?_
  obtain ⟨g4, h⟩ := zd_some h
  refine z_get C I 8 11 zc8 g4 (by decide) zq_667 (v := zr (zg S2 x0 11)) rfl dX8_findWays_26 ?_
  refine z_iload_n C hl 2 rfl dX8_findWays_29 rfl ?_
  refine z_iconst C (v := 0) dX8_findWays_30 (by decide) ?_
  obtain ⟨g5, h⟩ := zd_some h
  refine z_iast C I g5 dX8_findWays_31 (fun S6 e7 H locs I => ?_)
  have h := znb e7 h
  refine z_iinc C hl 2 (v := x2 + 1) rfl dX8_findWays_32 rfl (by decide) (fun v8 => [(2, zi v8), (0, zr x0), (1, zi x1)]) (fun _ => rfl) (fun v8 e9 ls hl => ?_)
  have h := znb e9 h
  refine z_goto C 2 dX8_findWays_35 (by decide) ?_
  exact K2 _ _ _ _ _ _ _ h I (zL_sub hl [1, 2, 0] rfl)

def fX8_findWays_2 (n : Nat) : Nat → zM → Int32 → Int32 → Int32 → Option (Int32 × zM)
  | 0, _, _, _, _ => none
  | fu + 1, S, x0, x1, x2 => if (10 : Int32) ≤ (x2 : Int32) then (zbd (x1 - 1) fun v2 => fX8_findWays_42 n 1000 S x0 x1 v2) else (zd (zo n 18 x0) <| if (x2 : Int32) = (x1 : Int32) then (fX8_findWays_24 n (fX8_findWays_2 n fu) S x0 x1 x2 0 x2 (zg S x0 10)) else (fX8_findWays_24 n (fX8_findWays_2 n fu) S x0 x1 x2 (-1000000) x2 (zg S x0 10)))
theorem bX8_findWays_2 {p : Program} {l : Launch} {e : Env} {s : State} {m : MethodId} {args : Array Value} {below : List Frame} {meth : Method} {c : Code} {D : va_G} {tc : Nat → ClassId} {b n : Nat} {S' : zM} {r : Int32} (C : zC p m c cX8_findWays 6 s args yX8_findWays.cls D tc) (hr : meth.sig.returnType = none) (hk : meth.locks = false) : ∀ (fu : Nat) (S : zM) (x0 : Int32) (x1 : Int32) (x2 : Int32) (H : Heap) (locs : List Loc) (ls : Array Slot), fX8_findWays_2 n fu S x0 x1 x2 = some (r, S') → zI D tc b n S s H locs → zL b ls 6 [(0, zr x0), (1, zi x1), (2, zi x2)] → W p l e (zR 0) s m args below meth c H locs 0 0 (zQv D tc b n S' below args s) (zG b m 2 ls []) := by
  intro fu
  induction fu with
  | zero => intro S x0 x1 x2 H locs ls h _ _; rw [fX8_findWays_2] at h; cases h
  | succ fu ih =>
    intro S x0 x1 x2 H locs ls h I hl
    rw [fX8_findWays_2] at h
    refine z_iload_n C hl 2 rfl dX8_findWays_2 rfl ?_
    refine z_bipush C (v := 10) dX8_findWays_3 (by decide) ?_
    refine z_icmp_ge C 38 dX8_findWays_5 (by decide) (fun c1 => ?_) (fun c1 => ?_)
    · have h := zit c1 h
      refine z_iload_n C hl 1 rfl dX8_findWays_38 rfl ?_
      refine z_iconst C (v := 1) dX8_findWays_39 (by decide) ?_
      refine z_isub C dX8_findWays_40 ?_
      refine z_istore_n C hl dX8_findWays_41 rfl (by decide) (fun v2 => [(2, zi v2), (0, zr x0), (1, zi x1)]) (fun _ => rfl) (fun v2 e3 ls hl => ?_)
      have h := znb e3 h
      exact bX8_findWays_42 C hr hk 1000 _ _ _ _ _ _ _ h I (zL_sub hl [1, 2, 0] rfl)
    · have h := zif c1 h
      refine z_aload_n C hl 0 rfl dX8_findWays_8 rfl ?_
      obtain ⟨g4, h⟩ := zd_some h
      refine z_get C I 8 10 zc8 g4 (by decide) zq_666 (v := zr (zg S x0 10)) rfl dX8_findWays_9 ?_
      refine z_iload_n C hl 2 rfl dX8_findWays_12 rfl ?_
      refine z_iload_n C hl 2 rfl dX8_findWays_13 rfl ?_
      refine z_iload_n C hl 1 rfl dX8_findWays_14 rfl ?_
      refine z_icmp_ne C 22 dX8_findWays_15 (by decide) (fun c5 => ?_) (fun c5 => ?_)
      · have h := zif c5 h
        refine z_ldc C zq_829 dX8_findWays_22 ?_
        exact bX8_findWays_24 C hr hk ih _ _ _ _ _ _ _ _ _ _ h I (zL_sub hl [0, 1, 2] rfl)
      · have h := zit c5 h
        refine z_iconst C (v := 0) dX8_findWays_18 (by decide) ?_
        refine z_goto C 24 dX8_findWays_19 (by decide) ?_
        exact bX8_findWays_24 C hr hk ih _ _ _ _ _ _ _ _ _ _ h I (zL_sub hl [0, 1, 2] rfl)

def fX8_findWays (n : Nat) (S : zM) (a0 : Int32) (a1 : Int32) : Option (Int32 × zM) := zbd (0) fun v1 => fX8_findWays_2 n 1000 S a0 a1 v1
theorem tX8_findWays (l : Launch) (D : va_G) (tc : Nat → ClassId) (b n : Nat) {S S' : zM} {a0 : Int32} {a1 : Int32} {r : Int32} (h : fX8_findWays n S a0 a1 = some (r, S')) : zMv l D tc b n yX8_findWays cX8_findWays 6 0 [zr a0, zi a1] S S' := by
  refine zMv_of zyX8_findWays (Nat.le_of_ble_eq_true rfl) (fun p e s m args below meth c H C hr hk ls hl I => ?_)
  have hl : zL b ls 6 [(0, zr a0), (1, zi a1)] := hl
  rw [fX8_findWays] at h
  refine z_iconst C (v := 0) dX8_findWays_0 (by decide) ?_
  refine z_istore_n C hl dX8_findWays_1 rfl (by decide) (fun v1 => [(2, zi v1), (0, zr a0), (1, zi a1)]) (fun _ => rfl) (fun v1 e2 ls hl => ?_)
  have h := znb e2 h
  exact bX8_findWays_2 C hr hk 1000 _ _ _ _ _ _ _ h I (zL_sub hl [1, 2, 0] rfl)

