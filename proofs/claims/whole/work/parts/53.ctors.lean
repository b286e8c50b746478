theorem zh0 : ∀ k, k < 2 → z4 (zty 0 k) = true := by decide
theorem zhd0 : ∀ k, k < 2 → znd (10 + 0) k = zdt (zty 0 k) := fun _ _ => rfl
theorem zh1 : ∀ k, k < 10 → z4 (zty 1 k) = true := by decide
theorem zhd1 : ∀ k, k < 10 → znd (10 + 1) k = zdt (zty 1 k) := fun _ _ => rfl
theorem zh2 : ∀ k, k < 11 → z4 (zty 2 k) = true := by decide
theorem zhd2 : ∀ k, k < 11 → znd (10 + 2) k = zdt (zty 2 k) := fun _ _ => rfl
theorem zh3 : ∀ k, k < 4 → z4 (zty 3 k) = true := by decide
theorem zhd3 : ∀ k, k < 4 → znd (10 + 3) k = zdt (zty 3 k) := fun _ _ => rfl
theorem zh4 : ∀ k, k < 2 → z4 (zty 4 k) = true := by decide
theorem zhd4 : ∀ k, k < 2 → znd (10 + 4) k = zdt (zty 4 k) := fun _ _ => rfl
theorem zh5 : ∀ k, k < 5 → z4 (zty 5 k) = true := by decide
theorem zhd5 : ∀ k, k < 5 → znd (10 + 5) k = zdt (zty 5 k) := fun _ _ => rfl
theorem zh6 : ∀ k, k < 4 → z4 (zty 6 k) = true := by decide
theorem zhd6 : ∀ k, k < 4 → znd (10 + 6) k = zdt (zty 6 k) := fun _ _ => rfl
theorem zh7 : ∀ k, k < 11 → z4 (zty 7 k) = true := by decide
theorem zhd7 : ∀ k, k < 11 → znd (10 + 7) k = zdt (zty 7 k) := fun _ _ => rfl
theorem zh8 : ∀ k, k < 38 → z4 (zty 8 k) = true := by decide
theorem zhd8 : ∀ k, k < 38 → znd (10 + 8) k = zdt (zty 8 k) := fun _ _ => rfl
def fX4_init (n : Nat) (S : zM) (a0 : Int32) : Option (Nat × zM) := zd (decide (¬ a0 < 0)) <| some (n, S)
theorem tX4_init (l : Launch) (D : va_G) (tc : Nat → ClassId) (b n : Nat) {S S' : zM} {a0 : Int32} {n' : Nat} (h : fX4_init n S a0 = some (n', S')) : zMc l D tc b n yX4_init cX4_init 1 1 0 0 [zr a0] S n' S' := by
  refine zMc_of zyX4_init (Nat.le_of_ble_eq_true rfl) (fun p e s m args below meth c H C hr hk hname ls hl I => ?_)
  have hl : zL b ls 1 [(0, zr a0)] := hl
  have hname : meth.name = "<init>" := hname
  rw [fX4_init] at h
  refine z_aload_n C hl 0 rfl dX4_init_0 rfl ?_
  obtain ⟨g1, h⟩ := zd_some h
  refine z_objInit C g1 zq_64 zq_18 zq_19 hl.1 (by decide) (Nat.le_of_ble_eq_true rfl) dX4_init_1 ?_
  exact z_cret C I hr hk h (by first | decide | omega) (by first | decide | omega) dX4_init_4

def fX6_init (n : Nat) (S : zM) (a0 : Int32) (a1 : Int32) : Option (Nat × zM) := zd (decide (¬ a0 < 0)) <| zd (zo n 16 a0) <| zbd (zp S a0 0 a1) fun S3 => some (n, S3)
theorem tX6_init (l : Launch) (D : va_G) (tc : Nat → ClassId) (b n : Nat) {S S' : zM} {a0 : Int32} {a1 : Int32} {n' : Nat} (h : fX6_init n S a0 a1 = some (n', S')) : zMc l D tc b n yX6_init cX6_init 2 1 0 0 [zr a0, zi a1] S n' S' := by
  refine zMc_of zyX6_init (Nat.le_of_ble_eq_true rfl) (fun p e s m args below meth c H C hr hk hname ls hl I => ?_)
  have hl : zL b ls 2 [(0, zr a0), (1, zi a1)] := hl
  have hname : meth.name = "<init>" := hname
  rw [fX6_init] at h
  refine z_aload_n C hl 0 rfl dX6_init_0 rfl ?_
  obtain ⟨g1, h⟩ := zd_some h
  refine z_objInit C g1 zq_206 zq_18 zq_19 hl.1 (by decide) (Nat.le_of_ble_eq_true rfl) dX6_init_1 ?_
  refine z_aload_n C hl 0 rfl dX6_init_4 rfl ?_
  refine z_iload_n C hl 1 rfl dX6_init_5 rfl ?_
  obtain ⟨g2, h⟩ := zd_some h
  refine z_putF C I 6 0 zc6 g2 (by decide) rfl hname rfl zq_207 rfl (v := zi a1) rfl dX6_init_6 (fun S3 e4 H locs I => ?_)
  have h := znb e4 h
  exact z_cret C I hr hk h (by first | decide | omega) (by first | decide | omega) dX6_init_9

def fX2_init (n : Nat) (S : zM) (a0 : Int32) (a1 : Int32) : Option (Nat × zM) := zd (decide (¬ a0 < 0)) <| zd (znk n 14 0) <| zbd (znw S n) fun S3 => zbd (n + 1) fun n5 => zd (decide (¬ (nI n) < 0)) <| zca (fX4_init n5 S3 (nI n)) fun n8 S9 => zd (zo n8 12 a0) <| zbd (zp S9 a0 3 (nI n)) fun S12 => zd (znk n8 14 0) <| zbd (znw S12 n8) fun S15 => zbd (n8 + 1) fun n17 => zd (decide (¬ (nI n8) < 0)) <| zca (fX4_init n17 S15 (nI n8)) fun n20 S21 => zd (zo n20 12 a0) <| zbd (zp S21 a0 4 (nI n8)) fun S24 => zbd (zp S24 a0 0 a1) fun S26 => some (n20, S26)
theorem tX2_init (l : Launch) (D : va_G) (tc : Nat → ClassId) (b n : Nat) {S S' : zM} {a0 : Int32} {a1 : Int32} {n' : Nat} (h : fX2_init n S a0 a1 = some (n', S')) : zMc l D tc b n yX2_init cX2_init 2 2 2 4 [zr a0, zi a1] S n' S' := by
  refine zMc_of zyX2_init (Nat.le_of_ble_eq_true rfl) (fun p e s m args below meth c H C hr hk hname ls hl I => ?_)
  have hl : zL b ls 2 [(0, zr a0), (1, zi a1)] := hl
  have hname : meth.name = "<init>" := hname
  rw [fX2_init] at h
  refine z_aload_n C hl 0 rfl dX2_init_0 rfl ?_
  obtain ⟨g1, h⟩ := zd_some h
  refine z_objInit C g1 zq_58 zq_18 zq_19 hl.1 (by decide) (Nat.le_of_ble_eq_true rfl) dX2_init_1 ?_
  refine z_aload_n C hl 0 rfl dX2_init_4 rfl ?_
  obtain ⟨g2, h⟩ := zd_some h
  refine z_new C I 4 zc4 g2 zh4 zhd4 zq_59 zq_60 zq_4 (by first | decide | (show _ ≤ 2; omega)) (by first | decide | (show _ ≤ 4; omega)) dX2_init_5 (fun S3 e4 H I => ?_)
  have h := znb e4 h
  obtain ⟨n5, e6⟩ : ∃ y, y = n + 1 := ⟨_, rfl⟩
  have h := znb e6 h
  rw [← e6] at I
  refine z_dup C dX2_init_8 rfl ?_
  obtain ⟨g7, h⟩ := zd_some h
  obtain ⟨n8, S9, h10, h⟩ := zcs h
  refine z_callCN C I (tX4_init _ D tc b _ h10) zyX4_init zq_62 rfl g7 C.2.2.2.2.1 (st := [zr (nI n), zr a0]) rfl rfl (by decide) ⟨(by first | decide | (show _ ≤ 2; omega)), (by first | decide | (show _ ≤ 4; omega))⟩ hl.1 (Nat.le_of_ble_eq_true rfl) dX2_init_9 (fun H locs I => ?_)
  obtain ⟨g11, h⟩ := zd_some h
  refine z_put C I 2 3 zc2 g11 (by decide) rfl zq_82 rfl (v := zr (nI n)) rfl dX2_init_12 (fun S12 e13 H locs I => ?_)
  have h := znb e13 h
  refine z_aload_n C hl 0 rfl dX2_init_15 rfl ?_
  obtain ⟨g14, h⟩ := zd_some h
  refine z_new C I 4 zc4 g14 zh4 zhd4 zq_59 zq_60 zq_4 (by first | decide | (show _ ≤ 2; omega)) (by first | decide | (show _ ≤ 4; omega)) dX2_init_16 (fun S15 e16 H I => ?_)
  have h := znb e16 h
  obtain ⟨n17, e18⟩ : ∃ y, y = n8 + 1 := ⟨_, rfl⟩
  have h := znb e18 h
  rw [← e18] at I
  refine z_dup C dX2_init_19 rfl ?_
  obtain ⟨g19, h⟩ := zd_some h
  obtain ⟨n20, S21, h22, h⟩ := zcs h
  refine z_callCN C I (tX4_init _ D tc b _ h22) zyX4_init zq_62 rfl g19 C.2.2.2.2.1 (st := [zr (nI n8), zr a0]) rfl rfl (by decide) ⟨(by first | decide | (show _ ≤ 2; omega)), (by first | decide | (show _ ≤ 4; omega))⟩ hl.1 (Nat.le_of_ble_eq_true rfl) dX2_init_20 (fun H locs I => ?_)
  obtain ⟨g23, h⟩ := zd_some h
  refine z_put C I 2 4 zc2 g23 (by decide) rfl zq_85 rfl (v := zr (nI n8)) rfl dX2_init_23 (fun S24 e25 H locs I => ?_)
  have h := znb e25 h
  refine z_aload_n C hl 0 rfl dX2_init_26 rfl ?_
  refine z_iload_n C hl 1 rfl dX2_init_27 rfl ?_
  refine z_putF C I 2 0 zc2 g23 (by decide) rfl hname rfl zq_75 rfl (v := zi a1) rfl dX2_init_28 (fun S26 e27 H locs I => ?_)
  have h := znb e27 h
  exact z_cret C I hr hk h (by first | decide | omega) (by first | decide | omega) dX2_init_31

def fX3_init (n : Nat) (S : zM) (a0 : Int32) : Option (Nat × zM) := zd (decide (¬ a0 < 0)) <| zd (znk n 0 60) <| zbd (znw S n) fun S3 => zbd (n + 1) fun n5 => zd (zo n5 13 a0) <| zbd (zp S3 a0 0 (nI n)) fun S8 => zbd (zp S8 a0 1 1) fun S10 => some (n5, S10)
theorem tX3_init (l : Launch) (D : va_G) (tc : Nat → ClassId) (b n : Nat) {S S' : zM} {a0 : Int32} {n' : Nat} (h : fX3_init n S a0 = some (n', S')) : zMc l D tc b n yX3_init cX3_init 1 1 1 60 [zr a0] S n' S' := by
  refine zMc_of zyX3_init (Nat.le_of_ble_eq_true rfl) (fun p e s m args below meth c H C hr hk hname ls hl I => ?_)
  have hl : zL b ls 1 [(0, zr a0)] := hl
  have hname : meth.name = "<init>" := hname
  rw [fX3_init] at h
  refine z_aload_n C hl 0 rfl dX3_init_0 rfl ?_
  obtain ⟨g1, h⟩ := zd_some h
  refine z_objInit C g1 zq_183 zq_18 zq_19 hl.1 (by decide) (Nat.le_of_ble_eq_true rfl) dX3_init_1 ?_
  refine z_aload_n C hl 0 rfl dX3_init_4 rfl ?_
  refine z_bipush C (v := 60) dX3_init_5 (by decide) ?_
  obtain ⟨g2, h⟩ := zd_some h
  refine z_newa C I 0 (Or.inl ⟨rfl, rfl⟩) g2 (by decide) (by decide) (by decide) zq_51 (by first | decide | (show _ ≤ 1; omega)) (by first | decide | (show _ ≤ 60; omega)) dX3_init_7 (fun S3 e4 H I => ?_)
  have h := znb e4 h
  obtain ⟨n5, e6⟩ : ∃ y, y = n + 1 := ⟨_, rfl⟩
  have h := znb e6 h
  rw [← e6] at I
  obtain ⟨g7, h⟩ := zd_some h
  refine z_putF C I 3 0 zc3 g7 (by decide) rfl hname rfl zq_184 rfl (v := zr (nI n)) rfl dX3_init_9 (fun S8 e9 H locs I => ?_)
  have h := znb e9 h
  refine z_aload_n C hl 0 rfl dX3_init_12 rfl ?_
  refine z_iconst C (v := 1) dX3_init_13 (by decide) ?_
  refine z_put C I 3 1 zc3 g7 (by decide) rfl zq_187 rfl (v := zi 1) rfl dX3_init_14 (fun S10 e11 H locs I => ?_)
  have h := znb e11 h
  exact z_cret C I hr hk h (by first | decide | omega) (by first | decide | omega) dX3_init_17

def fX5_init (n : Nat) (S : zM) (a0 : Int32) : Option (Nat × zM) := zd (decide (¬ a0 < 0)) <| zd (decide (n = 4)) <| zbd (zmn S n) fun S3 => zbd (n + 11) fun n5 => zd (zo n5 15 a0) <| zbd (zp S3 a0 0 (nI n)) fun S8 => zd (znk n5 0 10) <| zbd (znw S8 n5) fun S11 => zbd (n5 + 1) fun n13 => zd (zo n13 15 a0) <| zbd (zp S11 a0 1 (nI n5)) fun S16 => zd (znk n13 0 10) <| zbd (znw S16 n13) fun S19 => zbd (n13 + 1) fun n21 => zd (zo n21 15 a0) <| zbd (zp S19 a0 2 (nI n13)) fun S24 => zd (znk n21 0 10) <| zbd (znw S24 n21) fun S27 => zbd (n21 + 1) fun n29 => zd (zo n29 15 a0) <| zbd (zp S27 a0 3 (nI n21)) fun S32 => some (n29, S32)
theorem tX5_init (l : Launch) (D : va_G) (tc : Nat → ClassId) (b n : Nat) {S S' : zM} {a0 : Int32} {n' : Nat} (h : fX5_init n S a0 = some (n', S')) : zMc l D tc b n yX5_init cX5_init 1 1 14 140 [zr a0] S n' S' := by
  refine zMc_of zyX5_init (Nat.le_of_ble_eq_true rfl) (fun p e s m args below meth c H C hr hk hname ls hl I => ?_)
  have hl : zL b ls 1 [(0, zr a0)] := hl
  have hname : meth.name = "<init>" := hname
  rw [fX5_init] at h
  refine z_aload_n C hl 0 rfl dX5_init_0 rfl ?_
  obtain ⟨g1, h⟩ := zd_some h
  refine z_objInit C g1 zq_29 zq_18 zq_19 hl.1 (by decide) (Nat.le_of_ble_eq_true rfl) dX5_init_1 ?_
  refine z_aload_n C hl 0 rfl dX5_init_4 rfl ?_
  refine z_bipush C (v := 10) dX5_init_5 (by decide) ?_
  refine z_bipush C (v := 10) dX5_init_7 (by decide) ?_
  obtain ⟨g2, h⟩ := zd_some h
  refine z_mna C I g2 zq_30 zq_51 (by first | decide | (show _ ≤ 14; omega)) (by first | decide | (show _ ≤ 140; omega)) dX5_init_9 (fun S3 e4 H I => ?_)
  have h := znb e4 h
  obtain ⟨n5, e6⟩ : ∃ y, y = n + 11 := ⟨_, rfl⟩
  have h := znb e6 h
  rw [← e6] at I
  obtain ⟨g7, h⟩ := zd_some h
  refine z_putF C I 5 0 zc5 g7 (by decide) rfl hname rfl zq_32 rfl (v := zr (nI n)) rfl dX5_init_13 (fun S8 e9 H locs I => ?_)
  have h := znb e9 h
  refine z_aload_n C hl 0 rfl dX5_init_16 rfl ?_
  refine z_bipush C (v := 10) dX5_init_17 (by decide) ?_
  obtain ⟨g10, h⟩ := zd_some h
  refine z_newa C I 0 (Or.inl ⟨rfl, rfl⟩) g10 (by decide) (by decide) (by decide) zq_51 (by first | decide | (show _ ≤ 14; omega)) (by first | decide | (show _ ≤ 140; omega)) dX5_init_19 (fun S11 e12 H I => ?_)
  have h := znb e12 h
  obtain ⟨n13, e14⟩ : ∃ y, y = n5 + 1 := ⟨_, rfl⟩
  have h := znb e14 h
  rw [← e14] at I
  obtain ⟨g15, h⟩ := zd_some h
  refine z_putF C I 5 1 zc5 g15 (by decide) rfl hname rfl zq_33 rfl (v := zr (nI n5)) rfl dX5_init_21 (fun S16 e17 H locs I => ?_)
  have h := znb e17 h
  refine z_aload_n C hl 0 rfl dX5_init_24 rfl ?_
  refine z_bipush C (v := 10) dX5_init_25 (by decide) ?_
  obtain ⟨g18, h⟩ := zd_some h
  refine z_newa C I 0 (Or.inl ⟨rfl, rfl⟩) g18 (by decide) (by decide) (by decide) zq_51 (by first | decide | (show _ ≤ 14; omega)) (by first | decide | (show _ ≤ 140; omega)) dX5_init_27 (fun S19 e20 H I => ?_)
  have h := znb e20 h
  obtain ⟨n21, e22⟩ : ∃ y, y = n13 + 1 := ⟨_, rfl⟩
  have h := znb e22 h
  rw [← e22] at I
  obtain ⟨g23, h⟩ := zd_some h
  refine z_putF C I 5 2 zc5 g23 (by decide) rfl hname rfl zq_35 rfl (v := zr (nI n13)) rfl dX5_init_29 (fun S24 e25 H locs I => ?_)
  have h := znb e25 h
  refine z_aload_n C hl 0 rfl dX5_init_32 rfl ?_
  refine z_bipush C (v := 10) dX5_init_33 (by decide) ?_
  obtain ⟨g26, h⟩ := zd_some h
  refine z_newa C I 0 (Or.inl ⟨rfl, rfl⟩) g26 (by decide) (by decide) (by decide) zq_51 (by first | decide | (show _ ≤ 14; omega)) (by first | decide | (show _ ≤ 140; omega)) dX5_init_35 (fun S27 e28 H I => ?_)
  have h := znb e28 h
  obtain ⟨n29, e30⟩ : ∃ y, y = n21 + 1 := ⟨_, rfl⟩
  have h := znb e30 h
  rw [← e30] at I
  obtain ⟨g31, h⟩ := zd_some h
  refine z_putF C I 5 3 zc5 g31 (by decide) rfl hname rfl zq_37 rfl (v := zr (nI n21)) rfl dX5_init_37 (fun S32 e33 H locs I => ?_)
  have h := znb e33 h
  exact z_cret C I hr hk h (by first | decide | omega) (by first | decide | omega) dX5_init_40

def fX1_init (n : Nat) (S : zM) (a0 : Int32) : Option (Nat × zM) := zd (decide (¬ a0 < 0)) <| zd (znk n 0 6) <| zbd (znw S n) fun S3 => zbd (n + 1) fun n5 => zd (zo n5 11 a0) <| zbd (zp S3 a0 1 (nI n)) fun S8 => zd (znk n5 1 30) <| zbd (znw S8 n5) fun S11 => zbd (n5 + 1) fun n13 => zd (zo n13 11 a0) <| zbd (zp S11 a0 4 (nI n5)) fun S16 => some (n13, S16)
theorem tX1_init (l : Launch) (D : va_G) (tc : Nat → ClassId) (b n : Nat) {S S' : zM} {a0 : Int32} {n' : Nat} (h : fX1_init n S a0 = some (n', S')) : zMc l D tc b n yX1_init cX1_init 1 1 2 36 [zr a0] S n' S' := by
  refine zMc_of zyX1_init (Nat.le_of_ble_eq_true rfl) (fun p e s m args below meth c H C hr hk hname ls hl I => ?_)
  have hl : zL b ls 1 [(0, zr a0)] := hl
  have hname : meth.name = "<init>" := hname
  rw [fX1_init] at h
  refine z_aload_n C hl 0 rfl dX1_init_0 rfl ?_
  obtain ⟨g1, h⟩ := zd_some h
  refine z_objInit C g1 zq_126 zq_18 zq_19 hl.1 (by decide) (Nat.le_of_ble_eq_true rfl) dX1_init_1 ?_
  refine z_aload_n C hl 0 rfl dX1_init_4 rfl ?_
  refine z_bipush C (v := 6) dX1_init_5 (by decide) ?_
  obtain ⟨g2, h⟩ := zd_some h
  refine z_newa C I 0 (Or.inl ⟨rfl, rfl⟩) g2 (by decide) (by decide) (by decide) zq_51 (by first | decide | (show _ ≤ 2; omega)) (by first | decide | (show _ ≤ 36; omega)) dX1_init_7 (fun S3 e4 H I => ?_)
  have h := znb e4 h
  obtain ⟨n5, e6⟩ : ∃ y, y = n + 1 := ⟨_, rfl⟩
  have h := znb e6 h
  rw [← e6] at I
  obtain ⟨g7, h⟩ := zd_some h
  refine z_putF C I 1 1 zc1 g7 (by decide) rfl hname rfl zq_129 rfl (v := zr (nI n)) rfl dX1_init_9 (fun S8 e9 H locs I => ?_)
  have h := znb e9 h
  refine z_aload_n C hl 0 rfl dX1_init_12 rfl ?_
  refine z_bipush C (v := 30) dX1_init_13 (by decide) ?_
  obtain ⟨g10, h⟩ := zd_some h
  refine z_newa C I 1 (Or.inr ⟨rfl, rfl⟩) g10 (by decide) (by decide) (by decide) zq_165 (by first | decide | (show _ ≤ 2; omega)) (by first | decide | (show _ ≤ 36; omega)) dX1_init_15 (fun S11 e12 H I => ?_)
  have h := znb e12 h
  obtain ⟨n13, e14⟩ : ∃ y, y = n5 + 1 := ⟨_, rfl⟩
  have h := znb e14 h
  rw [← e14] at I
  obtain ⟨g15, h⟩ := zd_some h
  refine z_putF C I 1 4 zc1 g15 (by decide) rfl hname rfl zq_132 rfl (v := zr (nI n5)) rfl dX1_init_17 (fun S16 e17 H locs I => ?_)
  have h := znb e17 h
  exact z_cret C I hr hk h (by first | decide | omega) (by first | decide | omega) dX1_init_20

def fX0_init (n : Nat) (S : zM) (a0 : Int32) : Option (Nat × zM) := zd (decide (¬ a0 < 0)) <| zd (znk n 0 16) <| zbd (znw S n) fun S3 => zbd (n + 1) fun n5 => zd (zo n5 10 a0) <| zbd (zp S3 a0 0 (nI n)) fun S8 => some (n5, S8)
theorem tX0_init (l : Launch) (D : va_G) (tc : Nat → ClassId) (b n : Nat) {S S' : zM} {a0 : Int32} {n' : Nat} (h : fX0_init n S a0 = some (n', S')) : zMc l D tc b n yX0_init cX0_init 1 1 1 16 [zr a0] S n' S' := by
  refine zMc_of zyX0_init (Nat.le_of_ble_eq_true rfl) (fun p e s m args below meth c H C hr hk hname ls hl I => ?_)
  have hl : zL b ls 1 [(0, zr a0)] := hl
  have hname : meth.name = "<init>" := hname
  rw [fX0_init] at h
  refine z_aload_n C hl 0 rfl dX0_init_0 rfl ?_
  obtain ⟨g1, h⟩ := zd_some h
  refine z_objInit C g1 zq_171 zq_18 zq_19 hl.1 (by decide) (Nat.le_of_ble_eq_true rfl) dX0_init_1 ?_
  refine z_aload_n C hl 0 rfl dX0_init_4 rfl ?_
  refine z_bipush C (v := 16) dX0_init_5 (by decide) ?_
  obtain ⟨g2, h⟩ := zd_some h
  refine z_newa C I 0 (Or.inl ⟨rfl, rfl⟩) g2 (by decide) (by decide) (by decide) zq_51 (by first | decide | (show _ ≤ 1; omega)) (by first | decide | (show _ ≤ 16; omega)) dX0_init_7 (fun S3 e4 H I => ?_)
  have h := znb e4 h
  obtain ⟨n5, e6⟩ : ∃ y, y = n + 1 := ⟨_, rfl⟩
  have h := znb e6 h
  rw [← e6] at I
  obtain ⟨g7, h⟩ := zd_some h
  refine z_putF C I 0 0 zc0 g7 (by decide) rfl hname rfl zq_172 rfl (v := zr (nI n)) rfl dX0_init_9 (fun S8 e9 H locs I => ?_)
  have h := znb e9 h
  exact z_cret C I hr hk h (by first | decide | omega) (by first | decide | omega) dX0_init_12

def fX7_init_138 : Nat → Nat → zM → Int32 → Int32 → Option (Nat × zM)
  | 0, _, _, _, _ => none
  | fu + 1, n, S, x0, x1 => if (30 : Int32) ≤ (x1 : Int32) then (some (n, S)) else (zd (zo n 17 x0) <| zd (znk n 12 0) <| zbd (znw S n) fun S4 => zbd (n + 1) fun n6 => zd (decide (¬ (nI n) < 0)) <| zca (fX2_init n6 S4 (nI n) x1) fun n9 S10 => zd (za n9 4 (zg S x0 4) x1) <| zd (zo n9 12 (nI n)) <| zbd (zq S10 (zg S x0 4) x1 (nI n)) fun S14 => zbd (x1 + 1) fun v16 => fX7_init_138 fu n9 S14 x0 v16)
theorem bX7_init_138 {p : Program} {l : Launch} {e : Env} {s : State} {m : MethodId} {args : Array Value} {below : List Frame} {meth : Method} {c : Code} {D : va_G} {tc : Nat → ClassId} {b : Nat} {S' : zM} {n' : Nat} (C : zC p m c cX7_init 2 s args yX7_init.cls D tc) (hr : meth.sig.returnType = none) (hk : meth.locks = false) (hname : meth.name = "<init>") : ∀ (fu n : Nat) (S : zM) (x0 : Int32) (x1 : Int32) (H : Heap) (locs : List Loc) (ls : Array Slot) (cells slots : Nat), fX7_init_138 fu n S x0 x1 = some (n', S') → zI D tc b n S s H locs → zL b ls 2 [(0, zr x0), (1, zi x1)] → cells + 3 * fu ≤ 164 → slots + 15 * fu ≤ 1357 → W p l e (zRc 3 164 1357) s m args below meth c H locs cells slots (zQc D tc b n' S' 164 1357 below args s) (zG b m 138 ls []) := by
  intro fu
  induction fu with
  | zero => intro n S x0 x1 H locs ls cells slots h _ _ _ _; rw [fX7_init_138] at h; cases h
  | succ fu ih =>
    intro n S x0 x1 H locs ls cells slots h I hl hc hs
    rw [fX7_init_138] at h
    refine z_iload_n C hl 1 rfl dX7_init_138 rfl ?_
    refine z_bipush C (v := 30) dX7_init_139 (by decide) ?_
    refine z_icmp_ge C 164 dX7_init_141 (by decide) (fun c1 => ?_) (fun c1 => ?_)
    · have h := zit c1 h
      exact z_cret C I hr hk h (by first | decide | omega) (by first | decide | omega) dX7_init_164
    · have h := zif c1 h
      refine z_aload_n C hl 0 rfl dX7_init_144 rfl ?_
      obtain ⟨g2, h⟩ := zd_some h
      refine z_get C I 7 4 zc7 g2 (by decide) zq_232 (v := zr (zg S x0 4)) rfl dX7_init_145 ?_
      refine z_iload_n C hl 1 rfl dX7_init_148 rfl ?_
      obtain ⟨g3, h⟩ := zd_some h
      refine z_new C I 2 zc2 g3 zh2 zhd2 zq_52 zq_54 zq_3 (by first | decide | (show _ ≤ 164; omega)) (by first | decide | (show _ ≤ 1357; omega)) dX7_init_149 (fun S4 e5 H I => ?_)
      have h := znb e5 h
      obtain ⟨n6, e7⟩ : ∃ y, y = n + 1 := ⟨_, rfl⟩
      have h := znb e7 h
      rw [← e7] at I
      refine z_dup C dX7_init_152 rfl ?_
      refine z_iload_n C hl 1 rfl dX7_init_153 rfl ?_
      obtain ⟨g8, h⟩ := zd_some h
      obtain ⟨n9, S10, h11, h⟩ := zcs h
      refine z_callC C I (tX2_init _ D tc b _ h11) zyX2_init zq_56 rfl g8 zq_55 (st := [zr (nI n), zi x1, zr (zg S x0 4)]) rfl rfl (by decide) ⟨(by first | decide | (show _ ≤ 164; omega)), (by first | decide | (show _ ≤ 1357; omega))⟩ hl.1 (Nat.le_of_ble_eq_true rfl) dX7_init_154 (fun H locs I => ?_)
      obtain ⟨g12, h⟩ := zd_some h
      obtain ⟨g13, h⟩ := zd_some h
      refine z_aast C I 4 2 zc2 (Or.inr (Or.inr ⟨rfl, rfl⟩)) g12 g13 dX7_init_157 (fun S14 e15 H locs I => ?_)
      have h := znb e15 h
      refine z_iinc C hl 1 (v := x1 + 1) rfl dX7_init_158 rfl (by decide) (fun v16 => [(1, zi v16), (0, zr x0)]) (fun _ => rfl) (fun v16 e17 ls hl => ?_)
      have h := znb e17 h
      refine z_goto C 138 dX7_init_161 (by decide) ?_
      exact ih _ _ _ _ _ _ _ _ _ h I (zL_sub hl [1, 0] rfl) (by first | decide | omega) (by first | decide | omega)

def fX7_init_110 : Nat → Nat → zM → Int32 → Int32 → Option (Nat × zM)
  | 0, _, _, _, _ => none
  | fu + 1, n, S, x0, x1 => if (10 : Int32) ≤ (x1 : Int32) then (zbd (0) fun v2 => fX7_init_138 31 n S x0 v2) else (zd (zo n 17 x0) <| zd (znk n 16 0) <| zbd (znw S n) fun S6 => zbd (n + 1) fun n8 => zd (decide (¬ (nI n) < 0)) <| zca (fX6_init n8 S6 (nI n) x1) fun n11 S12 => zd (za n11 3 (zg S x0 1) x1) <| zd (zo n11 16 (nI n)) <| zbd (zq S12 (zg S x0 1) x1 (nI n)) fun S16 => zbd (x1 + 1) fun v18 => fX7_init_110 fu n11 S16 x0 v18)
theorem bX7_init_110 {p : Program} {l : Launch} {e : Env} {s : State} {m : MethodId} {args : Array Value} {below : List Frame} {meth : Method} {c : Code} {D : va_G} {tc : Nat → ClassId} {b : Nat} {S' : zM} {n' : Nat} (C : zC p m c cX7_init 2 s args yX7_init.cls D tc) (hr : meth.sig.returnType = none) (hk : meth.locks = false) (hname : meth.name = "<init>") : ∀ (fu n : Nat) (S : zM) (x0 : Int32) (x1 : Int32) (H : Heap) (locs : List Loc) (ls : Array Slot) (cells slots : Nat), fX7_init_110 fu n S x0 x1 = some (n', S') → zI D tc b n S s H locs → zL b ls 2 [(0, zr x0), (1, zi x1)] → cells + 1 * fu ≤ 71 → slots + 4 * fu ≤ 892 → W p l e (zRc 3 164 1357) s m args below meth c H locs cells slots (zQc D tc b n' S' 164 1357 below args s) (zG b m 110 ls []) := by
  intro fu
  induction fu with
  | zero => intro n S x0 x1 H locs ls cells slots h _ _ _ _; rw [fX7_init_110] at h; cases h
  | succ fu ih =>
    intro n S x0 x1 H locs ls cells slots h I hl hc hs
    rw [fX7_init_110] at h
    refine z_iload_n C hl 1 rfl dX7_init_110 rfl ?_
    refine z_bipush C (v := 10) dX7_init_111 (by decide) ?_
    refine z_icmp_ge C 136 dX7_init_113 (by decide) (fun c1 => ?_) (fun c1 => ?_)
    · have h := zit c1 h
      refine z_iconst C (v := 0) dX7_init_136 (by decide) ?_
      refine z_istore_n C hl dX7_init_137 rfl (by decide) (fun v2 => [(1, zi v2), (0, zr x0)]) (fun _ => rfl) (fun v2 e3 ls hl => ?_)
      have h := znb e3 h
      exact bX7_init_138 C hr hk hname 31 _ _ _ _ _ _ _ _ _ h I (zL_sub hl [1, 0] rfl) (by first | decide | omega) (by first | decide | omega)
    · have h := zif c1 h
      refine z_aload_n C hl 0 rfl dX7_init_116 rfl ?_
      obtain ⟨g4, h⟩ := zd_some h
      refine z_get C I 7 1 zc7 g4 (by decide) zq_229 (v := zr (zg S x0 1)) rfl dX7_init_117 ?_
      refine z_iload_n C hl 1 rfl dX7_init_120 rfl ?_
      obtain ⟨g5, h⟩ := zd_some h
      refine z_new C I 6 zc6 g5 zh6 zhd6 zq_22 zq_202 zq_8 (by first | decide | (show _ ≤ 164; omega)) (by first | decide | (show _ ≤ 1357; omega)) dX7_init_121 (fun S6 e7 H I => ?_)
      have h := znb e7 h
      obtain ⟨n8, e9⟩ : ∃ y, y = n + 1 := ⟨_, rfl⟩
      have h := znb e9 h
      rw [← e9] at I
      refine z_dup C dX7_init_124 rfl ?_
      refine z_iload_n C hl 1 rfl dX7_init_125 rfl ?_
      obtain ⟨g10, h⟩ := zd_some h
      obtain ⟨n11, S12, h13, h⟩ := zcs h
      refine z_callC C I (tX6_init _ D tc b _ h13) zyX6_init zq_204 rfl g10 zq_203 (st := [zr (nI n), zi x1, zr (zg S x0 1)]) rfl rfl (by decide) ⟨(by first | decide | (show _ ≤ 164; omega)), (by first | decide | (show _ ≤ 1357; omega))⟩ hl.1 (Nat.le_of_ble_eq_true rfl) dX7_init_126 (fun H locs I => ?_)
      obtain ⟨g14, h⟩ := zd_some h
      obtain ⟨g15, h⟩ := zd_some h
      refine z_aast C I 3 6 zc6 (Or.inr (Or.inl ⟨rfl, rfl⟩)) g14 g15 dX7_init_129 (fun S16 e17 H locs I => ?_)
      have h := znb e17 h
      refine z_iinc C hl 1 (v := x1 + 1) rfl dX7_init_130 rfl (by decide) (fun v18 => [(1, zi v18), (0, zr x0)]) (fun _ => rfl) (fun v18 e19 ls hl => ?_)
      have h := znb e19 h
      refine z_goto C 110 dX7_init_133 (by decide) ?_
      exact ih _ _ _ _ _ _ _ _ _ h I (zL_sub hl [1, 0] rfl) (by first | decide | omega) (by first | decide | omega)

def fX7_init_83 : Nat → Nat → zM → Int32 → Int32 → Option (Nat × zM)
  | 0, _, _, _, _ => none
  | fu + 1, n, S, x0, x1 => if (8 : Int32) ≤ (x1 : Int32) then (zbd (0) fun v2 => fX7_init_110 11 n S x0 v2) else (zd (zo n 17 x0) <| zd (znk n 13 0) <| zbd (znw S n) fun S6 => zbd (n + 1) fun n8 => zd (decide (¬ (nI n) < 0)) <| zca (fX3_init n8 S6 (nI n)) fun n11 S12 => zd (za n11 2 (zg S x0 0) x1) <| zd (zo n11 13 (nI n)) <| zbd (zq S12 (zg S x0 0) x1 (nI n)) fun S16 => zbd (x1 + 1) fun v18 => fX7_init_83 fu n11 S16 x0 v18)
theorem bX7_init_83 {p : Program} {l : Launch} {e : Env} {s : State} {m : MethodId} {args : Array Value} {below : List Frame} {meth : Method} {c : Code} {D : va_G} {tc : Nat → ClassId} {b : Nat} {S' : zM} {n' : Nat} (C : zC p m c cX7_init 2 s args yX7_init.cls D tc) (hr : meth.sig.returnType = none) (hk : meth.locks = false) (hname : meth.name = "<init>") : ∀ (fu n : Nat) (S : zM) (x0 : Int32) (x1 : Int32) (H : Heap) (locs : List Loc) (ls : Array Slot) (cells slots : Nat), fX7_init_83 fu n S x0 x1 = some (n', S') → zI D tc b n S s H locs → zL b ls 2 [(0, zr x0), (1, zi x1)] → cells + 2 * fu ≤ 60 → slots + 64 * fu ≤ 848 → W p l e (zRc 3 164 1357) s m args below meth c H locs cells slots (zQc D tc b n' S' 164 1357 below args s) (zG b m 83 ls []) := by
  intro fu
  induction fu with
  | zero => intro n S x0 x1 H locs ls cells slots h _ _ _ _; rw [fX7_init_83] at h; cases h
  | succ fu ih =>
    intro n S x0 x1 H locs ls cells slots h I hl hc hs
    rw [fX7_init_83] at h
    refine z_iload_n C hl 1 rfl dX7_init_83 rfl ?_
    refine z_bipush C (v := 8) dX7_init_84 (by decide) ?_
    refine z_icmp_ge C 108 dX7_init_86 (by decide) (fun c1 => ?_) (fun c1 => ?_)
    · have h := zit c1 h
      refine z_iconst C (v := 0) dX7_init_108 (by decide) ?_
      refine z_istore_n C hl dX7_init_109 rfl (by decide) (fun v2 => [(1, zi v2), (0, zr x0)]) (fun _ => rfl) (fun v2 e3 ls hl => ?_)
      have h := znb e3 h
      exact bX7_init_110 C hr hk hname 11 _ _ _ _ _ _ _ _ _ h I (zL_sub hl [1, 0] rfl) (by first | decide | omega) (by first | decide | omega)
    · have h := zif c1 h
      refine z_aload_n C hl 0 rfl dX7_init_89 rfl ?_
      obtain ⟨g4, h⟩ := zd_some h
      refine z_get C I 7 0 zc7 g4 (by decide) zq_228 (v := zr (zg S x0 0)) rfl dX7_init_90 ?_
      refine z_iload_n C hl 1 rfl dX7_init_93 rfl ?_
      obtain ⟨g5, h⟩ := zd_some h
      refine z_new C I 3 zc3 g5 zh3 zhd3 zq_20 zq_179 zq_7 (by first | decide | (show _ ≤ 164; omega)) (by first | decide | (show _ ≤ 1357; omega)) dX7_init_94 (fun S6 e7 H I => ?_)
      have h := znb e7 h
      obtain ⟨n8, e9⟩ : ∃ y, y = n + 1 := ⟨_, rfl⟩
      have h := znb e9 h
      rw [← e9] at I
      refine z_dup C dX7_init_97 rfl ?_
      obtain ⟨g10, h⟩ := zd_some h
      obtain ⟨n11, S12, h13, h⟩ := zcs h
      refine z_callCN C I (tX3_init _ D tc b _ h13) zyX3_init zq_181 rfl g10 C.2.2.2.2.2.2.2.1 (st := [zr (nI n), zi x1, zr (zg S x0 0)]) rfl rfl (by decide) ⟨(by first | decide | (show _ ≤ 164; omega)), (by first | decide | (show _ ≤ 1357; omega))⟩ hl.1 (Nat.le_of_ble_eq_true rfl) dX7_init_98 (fun H locs I => ?_)
      obtain ⟨g14, h⟩ := zd_some h
      obtain ⟨g15, h⟩ := zd_some h
      refine z_aast C I 2 3 zc3 (Or.inl ⟨rfl, rfl⟩) g14 g15 dX7_init_101 (fun S16 e17 H locs I => ?_)
      have h := znb e17 h
      refine z_iinc C hl 1 (v := x1 + 1) rfl dX7_init_102 rfl (by decide) (fun v18 => [(1, zi v18), (0, zr x0)]) (fun _ => rfl) (fun v18 e19 ls hl => ?_)
      have h := znb e19 h
      refine z_goto C 83 dX7_init_105 (by decide) ?_
      exact ih _ _ _ _ _ _ _ _ _ h I (zL_sub hl [1, 0] rfl) (by first | decide | omega) (by first | decide | omega)

def fX7_init (n : Nat) (S : zM) (a0 : Int32) : Option (Nat × zM) := zd (decide (¬ a0 < 0)) <| zd (znk n 2 8) <| zbd (znw S n) fun S3 => zbd (n + 1) fun n5 => zd (zo n5 17 a0) <| zbd (zp S3 a0 0 (nI n)) fun S8 => zd (znk n5 3 10) <| zbd (znw S8 n5) fun S11 => zbd (n5 + 1) fun n13 => zd (zo n13 17 a0) <| zbd (zp S11 a0 1 (nI n5)) fun S16 => zd (znk n13 15 0) <| zbd (znw S16 n13) fun S19 => zbd (n13 + 1) fun n21 => zd (decide (¬ (nI n13) < 0)) <| zca (fX5_init n21 S19 (nI n13)) fun n24 S25 => zd (zo n24 17 a0) <| zbd (zp S25 a0 3 (nI n13)) fun S28 => zd (znk n24 4 30) <| zbd (znw S28 n24) fun S31 => zbd (n24 + 1) fun n33 => zd (zo n33 17 a0) <| zbd (zp S31 a0 4 (nI n24)) fun S36 => zd (znk n33 12 0) <| zbd (znw S36 n33) fun S39 => zbd (n33 + 1) fun n41 => zd (decide (¬ (nI n33) < 0)) <| zca (fX2_init n41 S39 (nI n33) 0) fun n44 S45 => zd (zo n44 17 a0) <| zbd (zp S45 a0 6 (nI n33)) fun S48 => zd (znk n44 11 0) <| zbd (znw S48 n44) fun S51 => zbd (n44 + 1) fun n53 => zd (decide (¬ (nI n44) < 0)) <| zca (fX1_init n53 S51 (nI n44)) fun n56 S57 => zd (zo n56 17 a0) <| zbd (zp S57 a0 7 (nI n44)) fun S60 => zd (znk n56 10 0) <| zbd (znw S60 n56) fun S63 => zbd (n56 + 1) fun n65 => zd (decide (¬ (nI n56) < 0)) <| zca (fX0_init n65 S63 (nI n56)) fun n68 S69 => zd (zo n68 17 a0) <| zbd (zp S69 a0 9 (nI n56)) fun S72 => zbd (zp S72 a0 10 0) fun S74 => zbd (0) fun v76 => fX7_init_83 9 n68 S74 a0 v76
theorem tX7_init (l : Launch) (D : va_G) (tc : Nat → ClassId) (b n : Nat) {S S' : zM} {a0 : Int32} {n' : Nat} (h : fX7_init n S a0 = some (n', S')) : zMc l D tc b n yX7_init cX7_init 2 3 164 1357 [zr a0] S n' S' := by
  refine zMc_of zyX7_init (Nat.le_of_ble_eq_true rfl) (fun p e s m args below meth c H C hr hk hname ls hl I => ?_)
  have hl : zL b ls 2 [(0, zr a0)] := hl
  have hname : meth.name = "<init>" := hname
  rw [fX7_init] at h
  refine z_aload_n C hl 0 rfl dX7_init_0 rfl ?_
  obtain ⟨g1, h⟩ := zd_some h
  refine z_objInit C g1 zq_17 zq_18 zq_19 hl.1 (by decide) (Nat.le_of_ble_eq_true rfl) dX7_init_1 ?_
  refine z_aload_n C hl 0 rfl dX7_init_4 rfl ?_
  refine z_bipush C (v := 8) dX7_init_5 (by decide) ?_
  obtain ⟨g2, h⟩ := zd_some h
  refine z_newq C I 2 (Or.inl ⟨rfl, rfl⟩) g2 (by decide) (by decide) (by decide) zq_20 C.2.2.2.2.2.2.2.2.1 (by first | decide | (show _ ≤ 164; omega)) (by first | decide | (show _ ≤ 1357; omega)) dX7_init_7 (fun S3 e4 H I => ?_)
  have h := znb e4 h
  obtain ⟨n5, e6⟩ : ∃ y, y = n + 1 := ⟨_, rfl⟩
  have h := znb e6 h
  rw [← e6] at I
  obtain ⟨g7, h⟩ := zd_some h
  refine z_putF C I 7 0 zc7 g7 (by decide) rfl hname rfl zq_228 rfl (v := zr (nI n)) rfl dX7_init_10 (fun S8 e9 H locs I => ?_)
  have h := znb e9 h
  refine z_aload_n C hl 0 rfl dX7_init_13 rfl ?_
  refine z_bipush C (v := 10) dX7_init_14 (by decide) ?_
  obtain ⟨g10, h⟩ := zd_some h
  refine z_newq C I 3 (Or.inr (Or.inl ⟨rfl, rfl⟩)) g10 (by decide) (by decide) (by decide) zq_22 C.2.2.2.2.2.2.2.2.2.1 (by first | decide | (show _ ≤ 164; omega)) (by first | decide | (show _ ≤ 1357; omega)) dX7_init_16 (fun S11 e12 H I => ?_)
  have h := znb e12 h
  obtain ⟨n13, e14⟩ : ∃ y, y = n5 + 1 := ⟨_, rfl⟩
  have h := znb e14 h
  rw [← e14] at I
  obtain ⟨g15, h⟩ := zd_some h
  refine z_putF C I 7 1 zc7 g15 (by decide) rfl hname rfl zq_229 rfl (v := zr (nI n5)) rfl dX7_init_19 (fun S16 e17 H locs I => ?_)
  have h := znb e17 h
  refine z_aload_n C hl 0 rfl dX7_init_22 rfl ?_
  obtain ⟨g18, h⟩ := zd_some h
  refine z_new C I 5 zc5 g18 zh5 zhd5 zq_24 zq_25 zq_2 (by first | decide | (show _ ≤ 164; omega)) (by first | decide | (show _ ≤ 1357; omega)) dX7_init_23 (fun S19 e20 H I => ?_)
  have h := znb e20 h
  obtain ⟨n21, e22⟩ : ∃ y, y = n13 + 1 := ⟨_, rfl⟩
  have h := znb e22 h
  rw [← e22] at I
  refine z_dup C dX7_init_26 rfl ?_
  obtain ⟨g23, h⟩ := zd_some h
  obtain ⟨n24, S25, h26, h⟩ := zcs h
  refine z_callCN C I (tX5_init _ D tc b _ h26) zyX5_init zq_27 rfl g23 C.2.2.2.1 (st := [zr (nI n13), zr a0]) rfl rfl (by decide) ⟨(by first | decide | (show _ ≤ 164; omega)), (by first | decide | (show _ ≤ 1357; omega))⟩ hl.1 (Nat.le_of_ble_eq_true rfl) dX7_init_27 (fun H locs I => ?_)
  obtain ⟨g27, h⟩ := zd_some h
  refine z_putF C I 7 3 zc7 g27 (by decide) rfl hname rfl zq_231 rfl (v := zr (nI n13)) rfl dX7_init_30 (fun S28 e29 H locs I => ?_)
  have h := znb e29 h
  refine z_aload_n C hl 0 rfl dX7_init_33 rfl ?_
  refine z_bipush C (v := 30) dX7_init_34 (by decide) ?_
  obtain ⟨g30, h⟩ := zd_some h
  refine z_newq C I 4 (Or.inr (Or.inr ⟨rfl, rfl⟩)) g30 (by decide) (by decide) (by decide) zq_52 C.2.2.2.2.2.2.2.2.2.2.1 (by first | decide | (show _ ≤ 164; omega)) (by first | decide | (show _ ≤ 1357; omega)) dX7_init_36 (fun S31 e32 H I => ?_)
  have h := znb e32 h
  obtain ⟨n33, e34⟩ : ∃ y, y = n24 + 1 := ⟨_, rfl⟩
  have h := znb e34 h
  rw [← e34] at I
  obtain ⟨g35, h⟩ := zd_some h
  refine z_putF C I 7 4 zc7 g35 (by decide) rfl hname rfl zq_232 rfl (v := zr (nI n24)) rfl dX7_init_39 (fun S36 e37 H locs I => ?_)
  have h := znb e37 h
  refine z_aload_n C hl 0 rfl dX7_init_42 rfl ?_
  obtain ⟨g38, h⟩ := zd_some h
  refine z_new C I 2 zc2 g38 zh2 zhd2 zq_52 zq_54 zq_3 (by first | decide | (show _ ≤ 164; omega)) (by first | decide | (show _ ≤ 1357; omega)) dX7_init_43 (fun S39 e40 H I => ?_)
  have h := znb e40 h
  obtain ⟨n41, e42⟩ : ∃ y, y = n33 + 1 := ⟨_, rfl⟩
  have h := znb e42 h
  rw [← e42] at I
  refine z_dup C dX7_init_46 rfl ?_
  refine z_iconst C (v := 0) dX7_init_47 (by decide) ?_
  obtain ⟨g43, h⟩ := zd_some h
  obtain ⟨n44, S45, h46, h⟩ := zcs h
  refine z_callC C I (tX2_init _ D tc b _ h46) zyX2_init zq_56 rfl g43 zq_55 (st := [zr (nI n33), zr a0]) rfl rfl (by decide) ⟨(by first | decide | (show _ ≤ 164; omega)), (by first | decide | (show _ ≤ 1357; omega))⟩ hl.1 (Nat.le_of_ble_eq_true rfl) dX7_init_48 (fun H locs I => ?_)
  obtain ⟨g47, h⟩ := zd_some h
  refine z_putF C I 7 6 zc7 g47 (by decide) rfl hname rfl zq_234 rfl (v := zr (nI n33)) rfl dX7_init_51 (fun S48 e49 H locs I => ?_)
  have h := znb e49 h
  refine z_aload_n C hl 0 rfl dX7_init_54 rfl ?_
  obtain ⟨g50, h⟩ := zd_some h
  refine z_new C I 1 zc1 g50 zh1 zhd1 zq_121 zq_122 zq_5 (by first | decide | (show _ ≤ 164; omega)) (by first | decide | (show _ ≤ 1357; omega)) dX7_init_55 (fun S51 e52 H I => ?_)
  have h := znb e52 h
  obtain ⟨n53, e54⟩ : ∃ y, y = n44 + 1 := ⟨_, rfl⟩
  have h := znb e54 h
  rw [← e54] at I
  refine z_dup C dX7_init_58 rfl ?_
  obtain ⟨g55, h⟩ := zd_some h
  obtain ⟨n56, S57, h58, h⟩ := zcs h
  refine z_callCN C I (tX1_init _ D tc b _ h58) zyX1_init zq_124 rfl g55 C.2.2.2.2.2.1 (st := [zr (nI n44), zr a0]) rfl rfl (by decide) ⟨(by first | decide | (show _ ≤ 164; omega)), (by first | decide | (show _ ≤ 1357; omega))⟩ hl.1 (Nat.le_of_ble_eq_true rfl) dX7_init_59 (fun H locs I => ?_)
  obtain ⟨g59, h⟩ := zd_some h
  refine z_putF C I 7 7 zc7 g59 (by decide) rfl hname rfl zq_235 rfl (v := zr (nI n44)) rfl dX7_init_62 (fun S60 e61 H locs I => ?_)
  have h := znb e61 h
  refine z_aload_n C hl 0 rfl dX7_init_65 rfl ?_
  obtain ⟨g62, h⟩ := zd_some h
  refine z_new C I 0 zc0 g62 zh0 zhd0 zq_166 zq_167 zq_6 (by first | decide | (show _ ≤ 164; omega)) (by first | decide | (show _ ≤ 1357; omega)) dX7_init_66 (fun S63 e64 H I => ?_)
  have h := znb e64 h
  obtain ⟨n65, e66⟩ : ∃ y, y = n56 + 1 := ⟨_, rfl⟩
  have h := znb e66 h
  rw [← e66] at I
  refine z_dup C dX7_init_69 rfl ?_
  obtain ⟨g67, h⟩ := zd_some h
  obtain ⟨n68, S69, h70, h⟩ := zcs h
  refine z_callCN C I (tX0_init _ D tc b _ h70) zyX0_init zq_169 rfl g67 C.2.2.2.2.2.2.1 (st := [zr (nI n56), zr a0]) rfl rfl (by decide) ⟨(by first | decide | (show _ ≤ 164; omega)), (by first | decide | (show _ ≤ 1357; omega))⟩ hl.1 (Nat.le_of_ble_eq_true rfl) dX7_init_70 (fun H locs I => ?_)
  obtain ⟨g71, h⟩ := zd_some h
  refine z_putF C I 7 9 zc7 g71 (by decide) rfl hname rfl zq_237 rfl (v := zr (nI n56)) rfl dX7_init_73 (fun S72 e73 H locs I => ?_)
  have h := znb e73 h
  refine z_aload_n C hl 0 rfl dX7_init_76 rfl ?_
  refine z_iconst C (v := 0) dX7_init_77 (by decide) ?_
  refine z_put C I 7 10 zc7 g71 (by decide) rfl zq_238 rfl (v := zi 0) rfl dX7_init_78 (fun S74 e75 H locs I => ?_)
  have h := znb e75 h
  refine z_iconst C (v := 0) dX7_init_81 (by decide) ?_
  refine z_istore_n C hl dX7_init_82 rfl (by decide) (fun v76 => [(1, zi v76), (0, zr a0)]) (fun _ => rfl) (fun v76 e77 ls hl => ?_)
  have h := znb e77 h
  exact bX7_init_83 C hr hk hname 9 _ _ _ _ _ _ _ _ _ h I (zL_sub hl [1, 0] rfl) (by first | decide | omega) (by first | decide | omega)

def fX8_init (n : Nat) (S : zM) (a0 : Int32) : Option (Nat × zM) := zd (decide (¬ a0 < 0)) <| zd (znk n 0 8) <| zbd (znw S n) fun S3 => zbd (n + 1) fun n5 => zd (za n5 0 (nI n) 0) <| zbd (zq S3 (nI n) 0 (-1)) fun S8 => zd (za n5 0 (nI n) 1) <| zbd (zq S8 (nI n) 1 (-1)) fun S11 => zd (za n5 0 (nI n) 2) <| zbd (zq S11 (nI n) 2 (-1)) fun S14 => zd (za n5 0 (nI n) 3) <| zbd (zq S14 (nI n) 3 (-1)) fun S17 => zd (za n5 0 (nI n) 4) <| zbd (zq S17 (nI n) 4 (-1)) fun S20 => zd (za n5 0 (nI n) 5) <| zbd (zq S20 (nI n) 5 (-1)) fun S23 => zd (za n5 0 (nI n) 6) <| zbd (zq S23 (nI n) 6 (-1)) fun S26 => zd (za n5 0 (nI n) 7) <| zbd (zq S26 (nI n) 7 (-1)) fun S29 => zd (zo n5 18 a0) <| zbd (zp S29 a0 2 (nI n)) fun S32 => zd (znk n5 0 8) <| zbd (znw S32 n5) fun S35 => zbd (n5 + 1) fun n37 => zd (zo n37 18 a0) <| zbd (zp S35 a0 3 (nI n5)) fun S40 => zd (znk n37 0 480) <| zbd (znw S40 n37) fun S43 => zbd (n37 + 1) fun n45 => zd (zo n45 18 a0) <| zbd (zp S43 a0 4 (nI n37)) fun S48 => zd (znk n45 0 10) <| zbd (znw S48 n45) fun S51 => zbd (n45 + 1) fun n53 => zd (zo n53 18 a0) <| zbd (zp S51 a0 6 (nI n45)) fun S56 => zd (znk n53 0 10) <| zbd (znw S56 n53) fun S59 => zbd (n53 + 1) fun n61 => zd (zo n61 18 a0) <| zbd (zp S59 a0 7 (nI n53)) fun S64 => zd (znk n61 0 10) <| zbd (znw S64 n61) fun S67 => zbd (n61 + 1) fun n69 => zd (zo n69 18 a0) <| zbd (zp S67 a0 8 (nI n61)) fun S72 => zd (znk n69 0 100) <| zbd (znw S72 n69) fun S75 => zbd (n69 + 1) fun n77 => zd (zo n77 18 a0) <| zbd (zp S75 a0 9 (nI n69)) fun S80 => zd (znk n77 0 10) <| zbd (znw S80 n77) fun S83 => zbd (n77 + 1) fun n85 => zd (zo n85 18 a0) <| zbd (zp S83 a0 10 (nI n77)) fun S88 => zd (znk n85 0 10) <| zbd (znw S88 n85) fun S91 => zbd (n85 + 1) fun n93 => zd (zo n93 18 a0) <| zbd (zp S91 a0 11 (nI n85)) fun S96 => zd (znk n93 0 10) <| zbd (znw S96 n93) fun S99 => zbd (n93 + 1) fun n101 => zd (zo n101 18 a0) <| zbd (zp S99 a0 12 (nI n93)) fun S104 => zd (znk n101 0 30) <| zbd (znw S104 n101) fun S107 => zbd (n101 + 1) fun n109 => zd (zo n109 18 a0) <| zbd (zp S107 a0 14 (nI n101)) fun S112 => zd (znk n109 0 30) <| zbd (znw S112 n109) fun S115 => zbd (n109 + 1) fun n117 => zd (zo n117 18 a0) <| zbd (zp S115 a0 15 (nI n109)) fun S120 => zd (znk n117 0 30) <| zbd (znw S120 n117) fun S123 => zbd (n117 + 1) fun n125 => zd (zo n125 18 a0) <| zbd (zp S123 a0 16 (nI n117)) fun S128 => zd (znk n125 0 60) <| zbd (znw S128 n125) fun S131 => zbd (n125 + 1) fun n133 => zd (zo n133 18 a0) <| zbd (zp S131 a0 17 (nI n125)) fun S136 => zd (znk n133 0 60) <| zbd (znw S136 n133) fun S139 => zbd (n133 + 1) fun n141 => zd (zo n141 18 a0) <| zbd (zp S139 a0 18 (nI n133)) fun S144 => zd (znk n141 1 30) <| zbd (znw S144 n141) fun S147 => zbd (n141 + 1) fun n149 => zd (zo n149 18 a0) <| zbd (zp S147 a0 19 (nI n141)) fun S152 => zd (znk n149 0 30) <| zbd (znw S152 n149) fun S155 => zbd (n149 + 1) fun n157 => zd (zo n157 18 a0) <| zbd (zp S155 a0 20 (nI n149)) fun S160 => zd (znk n157 0 30) <| zbd (znw S160 n157) fun S163 => zbd (n157 + 1) fun n165 => zd (zo n165 18 a0) <| zbd (zp S163 a0 21 (nI n157)) fun S168 => zd (znk n165 0 30) <| zbd (znw S168 n165) fun S171 => zbd (n165 + 1) fun n173 => zd (zo n173 18 a0) <| zbd (zp S171 a0 22 (nI n165)) fun S176 => zd (znk n173 0 30) <| zbd (znw S176 n173) fun S179 => zbd (n173 + 1) fun n181 => zd (zo n181 18 a0) <| zbd (zp S179 a0 23 (nI n173)) fun S184 => zd (znk n181 0 6) <| zbd (znw S184 n181) fun S187 => zbd (n181 + 1) fun n189 => zd (zo n189 18 a0) <| zbd (zp S187 a0 28 (nI n181)) fun S192 => zd (znk n189 1 30) <| zbd (znw S192 n189) fun S195 => zbd (n189 + 1) fun n197 => zd (zo n197 18 a0) <| zbd (zp S195 a0 35 (nI n189)) fun S200 => zd (znk n197 0 16) <| zbd (znw S200 n197) fun S203 => zbd (n197 + 1) fun n205 => zd (zo n205 18 a0) <| zbd (zp S203 a0 36 (nI n197)) fun S208 => some (n205, S208)
theorem tX8_init (l : Launch) (D : va_G) (tc : Nat → ClassId) (b n : Nat) {S S' : zM} {a0 : Int32} {n' : Nat} (h : fX8_init n S a0 = some (n', S')) : zMc l D tc b n yX8_init cX8_init 1 1 23 1166 [zr a0] S n' S' := by
  refine zMc_of zyX8_init (Nat.le_of_ble_eq_true rfl) (fun p e s m args below meth c H C hr hk hname ls hl I => ?_)
  have hl : zL b ls 1 [(0, zr a0)] := hl
  have hname : meth.name = "<init>" := hname
  rw [fX8_init] at h
  refine z_aload_n C hl 0 rfl dX8_init_0 rfl ?_
  obtain ⟨g1, h⟩ := zd_some h
  refine z_objInit C g1 zq_655 zq_18 zq_19 hl.1 (by decide) (Nat.le_of_ble_eq_true rfl) dX8_init_1 ?_
  refine z_aload_n C hl 0 rfl dX8_init_4 rfl ?_
  refine z_bipush C (v := 8) dX8_init_5 (by decide) ?_
  obtain ⟨g2, h⟩ := zd_some h
  refine z_newa C I 0 (Or.inl ⟨rfl, rfl⟩) g2 (by decide) (by decide) (by decide) zq_51 (by first | decide | (show _ ≤ 23; omega)) (by first | decide | (show _ ≤ 1166; omega)) dX8_init_7 (fun S3 e4 H I => ?_)
  have h := znb e4 h
  obtain ⟨n5, e6⟩ : ∃ y, y = n + 1 := ⟨_, rfl⟩
  have h := znb e6 h
  rw [← e6] at I
  refine z_dup C dX8_init_9 rfl ?_
  refine z_iconst C (v := 0) dX8_init_10 (by decide) ?_
  refine z_iconst C (v := (-1)) dX8_init_11 (by decide) ?_
  obtain ⟨g7, h⟩ := zd_some h
  refine z_iast C I g7 dX8_init_12 (fun S8 e9 H locs I => ?_)
  have h := znb e9 h
  refine z_dup C dX8_init_13 rfl ?_
  refine z_iconst C (v := 1) dX8_init_14 (by decide) ?_
  refine z_iconst C (v := (-1)) dX8_init_15 (by decide) ?_
  obtain ⟨g10, h⟩ := zd_some h
  refine z_iast C I g10 dX8_init_16 (fun S11 e12 H locs I => ?_)
  have h := znb e12 h
  refine z_dup C dX8_init_17 rfl ?_
  refine z_iconst C (v := 2) dX8_init_18 (by decide) ?_
  refine z_iconst C (v := (-1)) dX8_init_19 (by decide) ?_
  obtain ⟨g13, h⟩ := zd_some h
  refine z_iast C I g13 dX8_init_20 (fun S14 e15 H locs I => ?_)
  have h := znb e15 h
  refine z_dup C dX8_init_21 rfl ?_
  refine z_iconst C (v := 3) dX8_init_22 (by decide) ?_
  refine z_iconst C (v := (-1)) dX8_init_23 (by decide) ?_
  obtain ⟨g16, h⟩ := zd_some h
  refine z_iast C I g16 dX8_init_24 (fun S17 e18 H locs I => ?_)
  have h := znb e18 h
  refine z_dup C dX8_init_25 rfl ?_
  refine z_iconst C (v := 4) dX8_init_26 (by decide) ?_
  refine z_iconst C (v := (-1)) dX8_init_27 (by decide) ?_
  obtain ⟨g19, h⟩ := zd_some h
  refine z_iast C I g19 dX8_init_28 (fun S20 e21 H locs I => ?_)
  have h := znb e21 h
  refine z_dup C dX8_init_29 rfl ?_
  refine z_iconst C (v := 5) dX8_init_30 (by decide) ?_
  refine z_iconst C (v := (-1)) dX8_init_31 (by decide) ?_
  obtain ⟨g22, h⟩ := zd_some h
  refine z_iast C I g22 dX8_init_32 (fun S23 e24 H locs I => ?_)
  have h := znb e24 h
  refine z_dup C dX8_init_33 rfl ?_
  refine z_bipush C (v := 6) dX8_init_34 (by decide) ?_
  refine z_iconst C (v := (-1)) dX8_init_36 (by decide) ?_
  obtain ⟨g25, h⟩ := zd_some h
  refine z_iast C I g25 dX8_init_37 (fun S26 e27 H locs I => ?_)
  have h := znb e27 h
  refine z_dup C dX8_init_38 rfl ?_
  refine z_bipush C (v := 7) dX8_init_39 (by decide) ?_
  refine z_iconst C (v := (-1)) dX8_init_41 (by decide) ?_
  obtain ⟨g28, h⟩ := zd_some h
  refine z_iast C I g28 dX8_init_42 (fun S29 e30 H locs I => ?_)
  have h := znb e30 h
  obtain ⟨g31, h⟩ := zd_some h
  refine z_putF C I 8 2 zc8 g31 (by decide) rfl hname rfl zq_658 rfl (v := zr (nI n)) rfl dX8_init_43 (fun S32 e33 H locs I => ?_)
  have h := znb e33 h
  refine z_aload_n C hl 0 rfl dX8_init_46 rfl ?_
  refine z_bipush C (v := 8) dX8_init_47 (by decide) ?_
  obtain ⟨g34, h⟩ := zd_some h
  refine z_newa C I 0 (Or.inl ⟨rfl, rfl⟩) g34 (by decide) (by decide) (by decide) zq_51 (by first | decide | (show _ ≤ 23; omega)) (by first | decide | (show _ ≤ 1166; omega)) dX8_init_49 (fun S35 e36 H I => ?_)
  have h := znb e36 h
  obtain ⟨n37, e38⟩ : ∃ y, y = n5 + 1 := ⟨_, rfl⟩
  have h := znb e38 h
  rw [← e38] at I
  obtain ⟨g39, h⟩ := zd_some h
  refine z_putF C I 8 3 zc8 g39 (by decide) rfl hname rfl zq_659 rfl (v := zr (nI n5)) rfl dX8_init_51 (fun S40 e41 H locs I => ?_)
  have h := znb e41 h
  refine z_aload_n C hl 0 rfl dX8_init_54 rfl ?_
  refine z_sipush C (v := 480) dX8_init_55 (by decide) ?_
  obtain ⟨g42, h⟩ := zd_some h
  refine z_newa C I 0 (Or.inl ⟨rfl, rfl⟩) g42 (by decide) (by decide) (by decide) zq_51 (by first | decide | (show _ ≤ 23; omega)) (by first | decide | (show _ ≤ 1166; omega)) dX8_init_58 (fun S43 e44 H I => ?_)
  have h := znb e44 h
  obtain ⟨n45, e46⟩ : ∃ y, y = n37 + 1 := ⟨_, rfl⟩
  have h := znb e46 h
  rw [← e46] at I
  obtain ⟨g47, h⟩ := zd_some h
  refine z_putF C I 8 4 zc8 g47 (by decide) rfl hname rfl zq_660 rfl (v := zr (nI n37)) rfl dX8_init_60 (fun S48 e49 H locs I => ?_)
  have h := znb e49 h
  refine z_aload_n C hl 0 rfl dX8_init_63 rfl ?_
  refine z_bipush C (v := 10) dX8_init_64 (by decide) ?_
  obtain ⟨g50, h⟩ := zd_some h
  refine z_newa C I 0 (Or.inl ⟨rfl, rfl⟩) g50 (by decide) (by decide) (by decide) zq_51 (by first | decide | (show _ ≤ 23; omega)) (by first | decide | (show _ ≤ 1166; omega)) dX8_init_66 (fun S51 e52 H I => ?_)
  have h := znb e52 h
  obtain ⟨n53, e54⟩ : ∃ y, y = n45 + 1 := ⟨_, rfl⟩
  have h := znb e54 h
  rw [← e54] at I
  obtain ⟨g55, h⟩ := zd_some h
  refine z_putF C I 8 6 zc8 g55 (by decide) rfl hname rfl zq_662 rfl (v := zr (nI n45)) rfl dX8_init_68 (fun S56 e57 H locs I => ?_)
  have h := znb e57 h
  refine z_aload_n C hl 0 rfl dX8_init_71 rfl ?_
  refine z_bipush C (v := 10) dX8_init_72 (by decide) ?_
  obtain ⟨g58, h⟩ := zd_some h
  refine z_newa C I 0 (Or.inl ⟨rfl, rfl⟩) g58 (by decide) (by decide) (by decide) zq_51 (by first | decide | (show _ ≤ 23; omega)) (by first | decide | (show _ ≤ 1166; omega)) dX8_init_74 (fun S59 e60 H I => ?_)
  have h := znb e60 h
  obtain ⟨n61, e62⟩ : ∃ y, y = n53 + 1 := ⟨_, rfl⟩
  have h := znb e62 h
  rw [← e62] at I
  obtain ⟨g63, h⟩ := zd_some h
  refine z_putF C I 8 7 zc8 g63 (by decide) rfl hname rfl zq_663 rfl (v := zr (nI n53)) rfl dX8_init_76 (fun S64 e65 H locs I => ?_)
  have h := znb e65 h
  refine z_aload_n C hl 0 rfl dX8_init_79 rfl ?_
  refine z_bipush C (v := 10) dX8_init_80 (by decide) ?_
  obtain ⟨g66, h⟩ := zd_some h
  refine z_newa C I 0 (Or.inl ⟨rfl, rfl⟩) g66 (by decide) (by decide) (by decide) zq_51 (by first | decide | (show _ ≤ 23; omega)) (by first | decide | (show _ ≤ 1166; omega)) dX8_init_82 (fun S67 e68 H I => ?_)
  have h := znb e68 h
  obtain ⟨n69, e70⟩ : ∃ y, y = n61 + 1 := ⟨_, rfl⟩
  have h := znb e70 h
  rw [← e70] at I
  obtain ⟨g71, h⟩ := zd_some h
  refine z_putF C I 8 8 zc8 g71 (by decide) rfl hname rfl zq_664 rfl (v := zr (nI n61)) rfl dX8_init_84 (fun S72 e73 H locs I => ?_)
  have h := znb e73 h
  refine z_aload_n C hl 0 rfl dX8_init_87 rfl ?_
  refine z_bipush C (v := 100) dX8_init_88 (by decide) ?_
  obtain ⟨g74, h⟩ := zd_some h
  refine z_newa C I 0 (Or.inl ⟨rfl, rfl⟩) g74 (by decide) (by decide) (by decide) zq_51 (by first | decide | (show _ ≤ 23; omega)) (by first | decide | (show _ ≤ 1166; omega)) dX8_init_90 (fun S75 e76 H I => ?_)
  have h := znb e76 h
  obtain ⟨n77, e78⟩ : ∃ y, y = n69 + 1 := ⟨_, rfl⟩
  have h := znb e78 h
  rw [← e78] at I
  obtain ⟨g79, h⟩ := zd_some h
  refine z_putF C I 8 9 zc8 g79 (by decide) rfl hname rfl zq_665 rfl (v := zr (nI n69)) rfl dX8_init_92 (fun S80 e81 H locs I => ?_)
  have h := znb e81 h
  refine z_aload_n C hl 0 rfl dX8_init_95 rfl ?_
  refine z_bipush C (v := 10) dX8_init_96 (by decide) ?_
  obtain ⟨g82, h⟩ := zd_some h
  refine z_newa C I 0 (Or.inl ⟨rfl, rfl⟩) g82 (by decide) (by decide) (by decide) zq_51 (by first | decide | (show _ ≤ 23; omega)) (by first | decide | (show _ ≤ 1166; omega)) dX8_init_98 (fun S83 e84 H I => ?_)
  have h := znb e84 h
  obtain ⟨n85, e86⟩ : ∃ y, y = n77 + 1 := ⟨_, rfl⟩
  have h := znb e86 h
  rw [← e86] at I
  obtain ⟨g87, h⟩ := zd_some h
  refine z_putF C I 8 10 zc8 g87 (by decide) rfl hname rfl zq_666 rfl (v := zr (nI n77)) rfl dX8_init_100 (fun S88 e89 H locs I => ?_)
  have h := znb e89 h
  refine z_aload_n C hl 0 rfl dX8_init_103 rfl ?_
  refine z_bipush C (v := 10) dX8_init_104 (by decide) ?_
  obtain ⟨g90, h⟩ := zd_some h
  refine z_newa C I 0 (Or.inl ⟨rfl, rfl⟩) g90 (by decide) (by decide) (by decide) zq_51 (by first | decide | (show _ ≤ 23; omega)) (by first | decide | (show _ ≤ 1166; omega)) dX8_init_106 (fun S91 e92 H I => ?_)
  have h := znb e92 h
  obtain ⟨n93, e94⟩ : ∃ y, y = n85 + 1 := ⟨_, rfl⟩
  have h := znb e94 h
  rw [← e94] at I
  obtain ⟨g95, h⟩ := zd_some h
  refine z_putF C I 8 11 zc8 g95 (by decide) rfl hname rfl zq_667 rfl (v := zr (nI n85)) rfl dX8_init_108 (fun S96 e97 H locs I => ?_)
  have h := znb e97 h
  refine z_aload_n C hl 0 rfl dX8_init_111 rfl ?_
  refine z_bipush C (v := 10) dX8_init_112 (by decide) ?_
  obtain ⟨g98, h⟩ := zd_some h
  refine z_newa C I 0 (Or.inl ⟨rfl, rfl⟩) g98 (by decide) (by decide) (by decide) zq_51 (by first | decide | (show _ ≤ 23; omega)) (by first | decide | (show _ ≤ 1166; omega)) dX8_init_114 (fun S99 e100 H I => ?_)
  have h := znb e100 h
  obtain ⟨n101, e102⟩ : ∃ y, y = n93 + 1 := ⟨_, rfl⟩
  have h := znb e102 h
  rw [← e102] at I
  obtain ⟨g103, h⟩ := zd_some h
  refine z_putF C I 8 12 zc8 g103 (by decide) rfl hname rfl zq_668 rfl (v := zr (nI n93)) rfl dX8_init_116 (fun S104 e105 H locs I => ?_)
  have h := znb e105 h
  refine z_aload_n C hl 0 rfl dX8_init_119 rfl ?_
  refine z_bipush C (v := 30) dX8_init_120 (by decide) ?_
  obtain ⟨g106, h⟩ := zd_some h
  refine z_newa C I 0 (Or.inl ⟨rfl, rfl⟩) g106 (by decide) (by decide) (by decide) zq_51 (by first | decide | (show _ ≤ 23; omega)) (by first | decide | (show _ ≤ 1166; omega)) dX8_init_122 (fun S107 e108 H I => ?_)
  have h := znb e108 h
  obtain ⟨n109, e110⟩ : ∃ y, y = n101 + 1 := ⟨_, rfl⟩
  have h := znb e110 h
  rw [← e110] at I
  obtain ⟨g111, h⟩ := zd_some h
  refine z_putF C I 8 14 zc8 g111 (by decide) rfl hname rfl zq_670 rfl (v := zr (nI n101)) rfl dX8_init_124 (fun S112 e113 H locs I => ?_)
  have h := znb e113 h
  refine z_aload_n C hl 0 rfl dX8_init_127 rfl ?_
  refine z_bipush C (v := 30) dX8_init_128 (by decide) ?_
  obtain ⟨g114, h⟩ := zd_some h
  refine z_newa C I 0 (Or.inl ⟨rfl, rfl⟩) g114 (by decide) (by decide) (by decide) zq_51 (by first | decide | (show _ ≤ 23; omega)) (by first | decide | (show _ ≤ 1166; omega)) dX8_init_130 (fun S115 e116 H I => ?_)
  have h := znb e116 h
  obtain ⟨n117, e118⟩ : ∃ y, y = n109 + 1 := ⟨_, rfl⟩
  have h := znb e118 h
  rw [← e118] at I
  obtain ⟨g119, h⟩ := zd_some h
  refine z_putF C I 8 15 zc8 g119 (by decide) rfl hname rfl zq_671 rfl (v := zr (nI n109)) rfl dX8_init_132 (fun S120 e121 H locs I => ?_)
  have h := znb e121 h
  refine z_aload_n C hl 0 rfl dX8_init_135 rfl ?_
  refine z_bipush C (v := 30) dX8_init_136 (by decide) ?_
  obtain ⟨g122, h⟩ := zd_some h
  refine z_newa C I 0 (Or.inl ⟨rfl, rfl⟩) g122 (by decide) (by decide) (by decide) zq_51 (by first | decide | (show _ ≤ 23; omega)) (by first | decide | (show _ ≤ 1166; omega)) dX8_init_138 (fun S123 e124 H I => ?_)
  have h := znb e124 h
  obtain ⟨n125, e126⟩ : ∃ y, y = n117 + 1 := ⟨_, rfl⟩
  have h := znb e126 h
  rw [← e126] at I
  obtain ⟨g127, h⟩ := zd_some h
  refine z_putF C I 8 16 zc8 g127 (by decide) rfl hname rfl zq_672 rfl (v := zr (nI n117)) rfl dX8_init_140 (fun S128 e129 H locs I => ?_)
  have h := znb e129 h
  refine z_aload_n C hl 0 rfl dX8_init_143 rfl ?_
  refine z_bipush C (v := 60) dX8_init_144 (by decide) ?_
  obtain ⟨g130, h⟩ := zd_some h
  refine z_newa C I 0 (Or.inl ⟨rfl, rfl⟩) g130 (by decide) (by decide) (by decide) zq_51 (by first | decide | (show _ ≤ 23; omega)) (by first | decide | (show _ ≤ 1166; omega)) dX8_init_146 (fun S131 e132 H I => ?_)
  have h := znb e132 h
  obtain ⟨n133, e134⟩ : ∃ y, y = n125 + 1 := ⟨_, rfl⟩
  have h := znb e134 h
  rw [← e134] at I
  obtain ⟨g135, h⟩ := zd_some h
  refine z_putF C I 8 17 zc8 g135 (by decide) rfl hname rfl zq_673 rfl (v := zr (nI n125)) rfl dX8_init_148 (fun S136 e137 H locs I => ?_)
  have h := znb e137 h
  refine z_aload_n C hl 0 rfl dX8_init_151 rfl ?_
  refine z_bipush C (v := 60) dX8_init_152 (by decide) ?_
  obtain ⟨g138, h⟩ := zd_some h
  refine z_newa C I 0 (Or.inl ⟨rfl, rfl⟩) g138 (by decide) (by decide) (by decide) zq_51 (by first | decide | (show _ ≤ 23; omega)) (by first | decide | (show _ ≤ 1166; omega)) dX8_init_154 (fun S139 e140 H I => ?_)
  have h := znb e140 h
  obtain ⟨n141, e142⟩ : ∃ y, y = n133 + 1 := ⟨_, rfl⟩
  have h := znb e142 h
  rw [← e142] at I
  obtain ⟨g143, h⟩ := zd_some h
  refine z_putF C I 8 18 zc8 g143 (by decide) rfl hname rfl zq_674 rfl (v := zr (nI n133)) rfl dX8_init_156 (fun S144 e145 H locs I => ?_)
  have h := znb e145 h
  refine z_aload_n C hl 0 rfl dX8_init_159 rfl ?_
  refine z_bipush C (v := 30) dX8_init_160 (by decide) ?_
  obtain ⟨g146, h⟩ := zd_some h
  refine z_newa C I 1 (Or.inr ⟨rfl, rfl⟩) g146 (by decide) (by decide) (by decide) zq_165 (by first | decide | (show _ ≤ 23; omega)) (by first | decide | (show _ ≤ 1166; omega)) dX8_init_162 (fun S147 e148 H I => ?_)
  have h := znb e148 h
  obtain ⟨n149, e150⟩ : ∃ y, y = n141 + 1 := ⟨_, rfl⟩
  have h := znb e150 h
  rw [← e150] at I
  obtain ⟨g151, h⟩ := zd_some h
  refine z_putF C I 8 19 zc8 g151 (by decide) rfl hname rfl zq_675 rfl (v := zr (nI n141)) rfl dX8_init_164 (fun S152 e153 H locs I => ?_)
  have h := znb e153 h
  refine z_aload_n C hl 0 rfl dX8_init_167 rfl ?_
  refine z_bipush C (v := 30) dX8_init_168 (by decide) ?_
  obtain ⟨g154, h⟩ := zd_some h
  refine z_newa C I 0 (Or.inl ⟨rfl, rfl⟩) g154 (by decide) (by decide) (by decide) zq_51 (by first | decide | (show _ ≤ 23; omega)) (by first | decide | (show _ ≤ 1166; omega)) dX8_init_170 (fun S155 e156 H I => ?_)
  have h := znb e156 h
  obtain ⟨n157, e158⟩ : ∃ y, y = n149 + 1 := ⟨_, rfl⟩
  have h := znb e158 h
  rw [← e158] at I
  obtain ⟨g159, h⟩ := zd_some h
  refine z_putF C I 8 20 zc8 g159 (by decide) rfl hname rfl zq_676 rfl (v := zr (nI n149)) rfl dX8_init_172 (fun S160 e161 H locs I => ?_)
  have h := znb e161 h
  refine z_aload_n C hl 0 rfl dX8_init_175 rfl ?_
  refine z_bipush C (v := 30) dX8_init_176 (by decide) ?_
  obtain ⟨g162, h⟩ := zd_some h
  refine z_newa C I 0 (Or.inl ⟨rfl, rfl⟩) g162 (by decide) (by decide) (by decide) zq_51 (by first | decide | (show _ ≤ 23; omega)) (by first | decide | (show _ ≤ 1166; omega)) dX8_init_178 (fun S163 e164 H I => ?_)
  have h := znb e164 h
  obtain ⟨n165, e166⟩ : ∃ y, y = n157 + 1 := ⟨_, rfl⟩
  have h := znb e166 h
  rw [← e166] at I
  obtain ⟨g167, h⟩ := zd_some h
  refine z_putF C I 8 21 zc8 g167 (by decide) rfl hname rfl zq_677 rfl (v := zr (nI n157)) rfl dX8_init_180 (fun S168 e169 H locs I => ?_)
  have h := znb e169 h
  refine z_aload_n C hl 0 rfl dX8_init_183 rfl ?_
  refine z_bipush C (v := 30) dX8_init_184 (by decide) ?_
  obtain ⟨g170, h⟩ := zd_some h
  refine z_newa C I 0 (Or.inl ⟨rfl, rfl⟩) g170 (by decide) (by decide) (by decide) zq_51 (by first | decide | (show _ ≤ 23; omega)) (by first | decide | (show _ ≤ 1166; omega)) dX8_init_186 (fun S171 e172 H I => ?_)
  have h := znb e172 h
  obtain ⟨n173, e174⟩ : ∃ y, y = n165 + 1 := ⟨_, rfl⟩
  have h := znb e174 h
  rw [← e174] at I
  obtain ⟨g175, h⟩ := zd_some h
  refine z_putF C I 8 22 zc8 g175 (by decide) rfl hname rfl zq_678 rfl (v := zr (nI n165)) rfl dX8_init_188 (fun S176 e177 H locs I => ?_)
  have h := znb e177 h
  refine z_aload_n C hl 0 rfl dX8_init_191 rfl ?_
  refine z_bipush C (v := 30) dX8_init_192 (by decide) ?_
  obtain ⟨g178, h⟩ := zd_some h
  refine z_newa C I 0 (Or.inl ⟨rfl, rfl⟩) g178 (by decide) (by decide) (by decide) zq_51 (by first | decide | (show _ ≤ 23; omega)) (by first | decide | (show _ ≤ 1166; omega)) dX8_init_194 (fun S179 e180 H I => ?_)
  have h := znb e180 h
  obtain ⟨n181, e182⟩ : ∃ y, y = n173 + 1 := ⟨_, rfl⟩
  have h := znb e182 h
  rw [← e182] at I
  obtain ⟨g183, h⟩ := zd_some h
  refine z_putF C I 8 23 zc8 g183 (by decide) rfl hname rfl zq_679 rfl (v := zr (nI n173)) rfl dX8_init_196 (fun S184 e185 H locs I => ?_)
  have h := znb e185 h
  refine z_aload_n C hl 0 rfl dX8_init_199 rfl ?_
  refine z_bipush C (v := 6) dX8_init_200 (by decide) ?_
  obtain ⟨g186, h⟩ := zd_some h
  refine z_newa C I 0 (Or.inl ⟨rfl, rfl⟩) g186 (by decide) (by decide) (by decide) zq_51 (by first | decide | (show _ ≤ 23; omega)) (by first | decide | (show _ ≤ 1166; omega)) dX8_init_202 (fun S187 e188 H I => ?_)
  have h := znb e188 h
  obtain ⟨n189, e190⟩ : ∃ y, y = n181 + 1 := ⟨_, rfl⟩
  have h := znb e190 h
  rw [← e190] at I
  obtain ⟨g191, h⟩ := zd_some h
  refine z_putF C I 8 28 zc8 g191 (by decide) rfl hname rfl zq_684 rfl (v := zr (nI n181)) rfl dX8_init_204 (fun S192 e193 H locs I => ?_)
  have h := znb e193 h
  refine z_aload_n C hl 0 rfl dX8_init_207 rfl ?_
  refine z_bipush C (v := 30) dX8_init_208 (by decide) ?_
  obtain ⟨g194, h⟩ := zd_some h
  refine z_newa C I 1 (Or.inr ⟨rfl, rfl⟩) g194 (by decide) (by decide) (by decide) zq_165 (by first | decide | (show _ ≤ 23; omega)) (by first | decide | (show _ ≤ 1166; omega)) dX8_init_210 (fun S195 e196 H I => ?_)
  have h := znb e196 h
  obtain ⟨n197, e198⟩ : ∃ y, y = n189 + 1 := ⟨_, rfl⟩
  have h := znb e198 h
  rw [← e198] at I
  obtain ⟨g199, h⟩ := zd_some h
  refine z_putF C I 8 35 zc8 g199 (by decide) rfl hname rfl zq_691 rfl (v := zr (nI n189)) rfl dX8_init_212 (fun S200 e201 H locs I => ?_)
  have h := znb e201 h
  refine z_aload_n C hl 0 rfl dX8_init_215 rfl ?_
  refine z_bipush C (v := 16) dX8_init_216 (by decide) ?_
  obtain ⟨g202, h⟩ := zd_some h
  refine z_newa C I 0 (Or.inl ⟨rfl, rfl⟩) g202 (by decide) (by decide) (by decide) zq_51 (by first | decide | (show _ ≤ 23; omega)) (by first | decide | (show _ ≤ 1166; omega)) dX8_init_218 (fun S203 e204 H I => ?_)
  have h := znb e204 h
  obtain ⟨n205, e206⟩ : ∃ y, y = n197 + 1 := ⟨_, rfl⟩
  have h := znb e206 h
  rw [← e206] at I
  obtain ⟨g207, h⟩ := zd_some h
  refine z_putF C I 8 36 zc8 g207 (by decide) rfl hname rfl zq_692 rfl (v := zr (nI n197)) rfl dX8_init_220 (fun S208 e209 H locs I => ?_)
  have h := znb e209 h
  exact z_cret C I hr hk h (by first | decide | omega) (by first | decide | omega) dX8_init_223

