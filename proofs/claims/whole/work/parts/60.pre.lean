/-! The pure part: the functions of the class and of the reference, held against each other. C is a memory of which the class's rows count, M one of which the reference's count. -/
theorem zup_s {S : zM} {o k : Nat} {v : Int32} : zup S o k v o k = v := if_pos ⟨rfl, rfl⟩
theorem zup_o {S : zM} {o k a j : Nat} {v : Int32} (h : a ≠ o) : zup S o k v a j = S a j := if_neg (fun q => h q.1)
theorem zup_k {S : zM} {o k a j : Nat} {v : Int32} (h : j ≠ k) : zup S o k v a j = S a j := if_neg (fun q => h q.2)
theorem zup_a {S : zM} {o k a : Nat} {v : Int32} (h : a ≠ o) : zup S o k v a = S a := zup_ne h
theorem zd_t {α : Type} {x : Option α} {c : Bool} (h : c = true) : zd c x = x := by
  subst h
  rfl
theorem zbd_e {α β : Type} (x : α) (f : α → β) : zbd x f = f x := rfl
theorem z_it {α : Type} {c : Prop} [Decidable c] {x y : α} (h : c) : (if c then x else y) = x := if_pos h
theorem z_if {α : Type} {c : Prop} [Decidable c] {x y : α} (h : ¬ c) : (if c then x else y) = y := if_neg h
theorem zo_c {o kd : Nat} (h : o < 167) (hk : (zK o).1 = kd) : zo 167 kd (nI o) = true := by
  simp [zo, nI_pos (show o < 2 ^ 31 by omega), nI_clamp (show o < 2 ^ 31 by omega), h, hk]
theorem za_c {o kd len i : Nat} (h : o < 167) (hk : zK o = (kd, len)) (hi : i < len) (hl : len < 2 ^ 31) : za 167 kd (nI o) (nI i) = true := by
  have h1 := zo_c (o := o) (kd := kd) h (by rw [hk])
  simp [za, h1, nI_pos (show i < 2 ^ 31 by omega), nI_clamp (show i < 2 ^ 31 by omega), nI_clamp (show o < 2 ^ 31 by omega), hk, hi]
theorem zK_fam : (∀ i, i < 8 → zK (27 + 2 * i) = (13, 0) ∧ zK (28 + 2 * i) = (0, 60)) ∧ (∀ i, i < 10 → zK (43 + i) = (16, 0) ∧ zK (5 + i) = (0, 10)) ∧ (∀ i, i < 30 → zK (53 + 3 * i) = (12, 0) ∧ zK (54 + 3 * i) = (14, 0) ∧ zK (55 + 3 * i) = (14, 0)) := by
  refine ⟨?_, ?_, ?_⟩ <;> decide +kernel
theorem zo_sheet {i : Nat} (h : i < 8) : zo 167 13 (nI (27 + 2 * i)) = true := zo_c (by omega) (by rw [(zK_fam.1 i h).1])
theorem zo_items {i : Nat} (h : i < 8) : zo 167 0 (nI (28 + 2 * i)) = true := zo_c (by omega) (by rw [(zK_fam.1 i h).2])
theorem zo_ver {i : Nat} (h : i < 10) : zo 167 16 (nI (43 + i)) = true := zo_c (by omega) (by rw [(zK_fam.2.1 i h).1])
theorem zo_dev {i : Nat} (h : i < 30) : zo 167 12 (nI (53 + 3 * i)) = true := zo_c (by omega) (by rw [(zK_fam.2.2 i h).1])
theorem zo_sl1 {i : Nat} (h : i < 30) : zo 167 14 (nI (54 + 3 * i)) = true := zo_c (by omega) (by rw [(zK_fam.2.2 i h).2.1])
theorem zo_sl2 {i : Nat} (h : i < 30) : zo 167 14 (nI (55 + 3 * i)) = true := zo_c (by omega) (by rw [(zK_fam.2.2 i h).2.2])
theorem zo_0 : zo 167 17 (nI 0) = true := zo_c (by decide) rfl
theorem zo_3 : zo 167 15 (nI 3) = true := zo_c (by decide) rfl
theorem zo_19 : zo 167 12 (nI 19) = true := zo_c (by decide) rfl
theorem zo_20 : zo 167 14 (nI 20) = true := zo_c (by decide) rfl
theorem zo_21 : zo 167 14 (nI 21) = true := zo_c (by decide) rfl
theorem zo_22 : zo 167 11 (nI 22) = true := zo_c (by decide) rfl
theorem zo_23 : zo 167 0 (nI 23) = true := zo_c (by decide) rfl
theorem zo_25 : zo 167 10 (nI 25) = true := zo_c (by decide) rfl
theorem zo_143 : zo 167 18 (nI 143) = true := zo_c (by decide) rfl
theorem za_1 {i : Nat} (h : i < 8) : za 167 2 (nI 1) (nI i) = true := za_c (by decide) rfl h (by decide)
theorem za_2 {i : Nat} (h : i < 10) : za 167 3 (nI 2) (nI i) = true := za_c (by decide) rfl h (by decide)
theorem za_18 {i : Nat} (h : i < 30) : za 167 4 (nI 18) (nI i) = true := za_c (by decide) rfl h (by decide)
theorem za_4 {i : Nat} (h : i < 10) : za 167 5 (nI 4) (nI i) = true := za_c (by decide) rfl h (by decide)
theorem za_5 {v i : Nat} (hv : v < 10) (h : i < 10) : za 167 0 (nI (5 + v)) (nI i) = true := za_c (by omega) (zK_fam.2.1 v hv).2 h (by decide)
theorem za_items {s i : Nat} (hs : s < 8) (h : i < 60) : za 167 0 (nI (28 + 2 * s)) (nI i) = true := za_c (by omega) (zK_fam.1 s hs).2 h (by decide)
theorem za_15 {i : Nat} (h : i < 10) : za 167 0 (nI 15) (nI i) = true := za_c (by decide) rfl h (by decide)
theorem za_16 {i : Nat} (h : i < 10) : za 167 0 (nI 16) (nI i) = true := za_c (by decide) rfl h (by decide)
theorem za_17 {i : Nat} (h : i < 10) : za 167 0 (nI 17) (nI i) = true := za_c (by decide) rfl h (by decide)
theorem za_23 {i : Nat} (h : i < 6) : za 167 0 (nI 23) (nI i) = true := za_c (by decide) rfl h (by decide)
theorem za_24 {i : Nat} (h : i < 30) : za 167 1 (nI 24) (nI i) = true := za_c (by decide) rfl h (by decide)
theorem za_26 {i : Nat} (h : i < 16) : za 167 0 (nI 26) (nI i) = true := za_c (by decide) rfl h (by decide)
theorem za_144 {i : Nat} (h : i < 8) : za 167 0 (nI 144) (nI i) = true := za_c (by decide) rfl h (by decide)
theorem za_145 {i : Nat} (h : i < 8) : za 167 0 (nI 145) (nI i) = true := za_c (by decide) rfl h (by decide)
theorem za_146 {i : Nat} (h : i < 480) : za 167 0 (nI 146) (nI i) = true := za_c (by decide) rfl h (by decide)
theorem za_147 {i : Nat} (h : i < 10) : za 167 0 (nI 147) (nI i) = true := za_c (by decide) rfl h (by decide)
theorem za_148 {i : Nat} (h : i < 10) : za 167 0 (nI 148) (nI i) = true := za_c (by decide) rfl h (by decide)
theorem za_149 {i : Nat} (h : i < 10) : za 167 0 (nI 149) (nI i) = true := za_c (by decide) rfl h (by decide)
theorem za_150 {i : Nat} (h : i < 100) : za 167 0 (nI 150) (nI i) = true := za_c (by decide) rfl h (by decide)
theorem za_151 {i : Nat} (h : i < 10) : za 167 0 (nI 151) (nI i) = true := za_c (by decide) rfl h (by decide)
theorem za_152 {i : Nat} (h : i < 10) : za 167 0 (nI 152) (nI i) = true := za_c (by decide) rfl h (by decide)
theorem za_153 {i : Nat} (h : i < 10) : za 167 0 (nI 153) (nI i) = true := za_c (by decide) rfl h (by decide)
theorem za_154 {i : Nat} (h : i < 30) : za 167 0 (nI 154) (nI i) = true := za_c (by decide) rfl h (by decide)
theorem za_155 {i : Nat} (h : i < 30) : za 167 0 (nI 155) (nI i) = true := za_c (by decide) rfl h (by decide)
theorem za_156 {i : Nat} (h : i < 30) : za 167 0 (nI 156) (nI i) = true := za_c (by decide) rfl h (by decide)
theorem za_157 {i : Nat} (h : i < 60) : za 167 0 (nI 157) (nI i) = true := za_c (by decide) rfl h (by decide)
theorem za_158 {i : Nat} (h : i < 60) : za 167 0 (nI 158) (nI i) = true := za_c (by decide) rfl h (by decide)
theorem za_159 {i : Nat} (h : i < 30) : za 167 1 (nI 159) (nI i) = true := za_c (by decide) rfl h (by decide)
theorem za_160 {i : Nat} (h : i < 30) : za 167 0 (nI 160) (nI i) = true := za_c (by decide) rfl h (by decide)
theorem za_161 {i : Nat} (h : i < 30) : za 167 0 (nI 161) (nI i) = true := za_c (by decide) rfl h (by decide)
theorem za_162 {i : Nat} (h : i < 30) : za 167 0 (nI 162) (nI i) = true := za_c (by decide) rfl h (by decide)
theorem za_163 {i : Nat} (h : i < 30) : za 167 0 (nI 163) (nI i) = true := za_c (by decide) rfl h (by decide)
theorem za_164 {i : Nat} (h : i < 6) : za 167 0 (nI 164) (nI i) = true := za_c (by decide) rfl h (by decide)
theorem za_165 {i : Nat} (h : i < 30) : za 167 1 (nI 165) (nI i) = true := za_c (by decide) rfl h (by decide)
theorem za_166 {i : Nat} (h : i < 16) : za 167 0 (nI 166) (nI i) = true := za_c (by decide) rfl h (by decide)
/-- the references that are laid once: where they stand, and what they are -/
def zp0 (a j : Nat) : Option Nat :=
  if a = 0 then (match j with | 0 => some 1 | 1 => some 2 | 3 => some 3 | 4 => some 18 | 6 => some 19 | 7 => some 22 | 9 => some 25 | _ => none)
  else if a = 1 then (if j < 8 then some (27 + 2 * j) else none)
  else if a = 2 then (if j < 10 then some (43 + j) else none)
  else if a = 3 then (match j with | 0 => some 4 | 1 => some 15 | 2 => some 16 | 3 => some 17 | _ => none)
  else if a = 4 then (if j < 10 then some (5 + j) else none)
  else if a = 18 then (if j < 30 then some (53 + 3 * j) else none)
  else if a = 22 then (match j with | 1 => some 23 | 4 => some 24 | _ => none)
  else if a = 25 then (match j with | 0 => some 26 | _ => none)
  else if j = 0 ∧ 27 ≤ a ∧ a < 43 ∧ a % 2 = 1 then some (a + 1)
  else if j = 0 ∧ 43 ≤ a ∧ a < 53 then some (a - 43)
  else if j = 0 ∧ 53 ≤ a ∧ a < 143 ∧ a % 3 = 2 then some ((a - 53) / 3)
  else none
def zp1 (j : Nat) : Option Nat := match j with
  | 2 => some 144 | 3 => some 145 | 4 => some 146 | 6 => some 147 | 7 => some 148 | 8 => some 149 | 9 => some 150 | 10 => some 151 | 11 => some 152 | 12 => some 153
  | 14 => some 154 | 15 => some 155 | 16 => some 156 | 17 => some 157 | 18 => some 158 | 19 => some 159 | 20 => some 160 | 21 => some 161 | 22 => some 162 | 23 => some 163
  | 28 => some 164 | 35 => some 165 | 36 => some 166 | _ => none
def PC (C : zM) : Prop := ∀ a j v, zp0 a j = some v → C a j = nI v
def PM (M : zM) : Prop := ∀ j v, zp1 j = some v → M 143 j = nI v
theorem PC.up {C : zM} {o k : Nat} {v : Int32} (h : PC C) (q : zp0 o k = none) : PC (zup C o k v) := by
  intro a j w hw
  by_cases e : a = o ∧ j = k
  · obtain ⟨rfl, rfl⟩ := e
    rw [q] at hw
    cases hw
  · show (if a = o ∧ j = k then v else C a j) = nI w
    rw [if_neg e]
    exact h a j w hw
theorem PM.up {M : zM} {o k : Nat} {v : Int32} (h : PM M) (q : o = 143 → zp1 k = none) : PM (zup M o k v) := by
  intro j w hw
  by_cases e : 143 = o ∧ j = k
  · obtain ⟨rfl, rfl⟩ := e
    rw [q rfl] at hw
    cases hw
  · show (if 143 = o ∧ j = k then v else M 143 j) = nI w
    rw [if_neg e]
    exact h j w hw
theorem PC.s {C : zM} (h : PC C) {i : Nat} (hi : i < 8) : C 1 i = nI (27 + 2 * i) := h 1 i _ (by unfold zp0; rw [if_neg (by decide), if_pos rfl, if_pos hi])
theorem PC.si {C : zM} (h : PC C) {i : Nat} (hi : i < 8) : C (27 + 2 * i) 0 = nI (28 + 2 * i) := h _ 0 _ (by unfold zp0; rw [if_neg (by omega), if_neg (by omega), if_neg (by omega), if_neg (by omega), if_neg (by omega), if_neg (by omega), if_neg (by omega), if_neg (by omega), if_pos (by omega)]; exact congrArg some (by omega))
theorem PC.v {C : zM} (h : PC C) {i : Nat} (hi : i < 10) : C 2 i = nI (43 + i) := h 2 i _ (by unfold zp0; rw [if_neg (by decide), if_neg (by decide), if_pos rfl, if_pos hi])
theorem PC.vn {C : zM} (h : PC C) {i : Nat} (hi : i < 10) : C (43 + i) 0 = nI i := h _ 0 _ (by unfold zp0; rw [if_neg (by omega), if_neg (by omega), if_neg (by omega), if_neg (by omega), if_neg (by omega), if_neg (by omega), if_neg (by omega), if_neg (by omega), if_neg (by omega), if_pos (by omega)]; exact congrArg some (by omega))
theorem PC.b {C : zM} (h : PC C) {i : Nat} (hi : i < 10) : C 4 i = nI (5 + i) := h 4 i _ (by unfold zp0; rw [if_neg (by decide), if_neg (by decide), if_neg (by decide), if_neg (by decide), if_pos rfl, if_pos hi])
theorem PC.d {C : zM} (h : PC C) {i : Nat} (hi : i < 30) : C 18 i = nI (53 + 3 * i) := h 18 i _ (by unfold zp0; rw [if_neg (by decide), if_neg (by decide), if_neg (by decide), if_neg (by decide), if_neg (by decide), if_pos rfl, if_pos hi])
theorem PC.dn {C : zM} (h : PC C) {i : Nat} (hi : i < 30) : C (53 + 3 * i) 0 = nI i := h _ 0 _ (by unfold zp0; rw [if_neg (by omega), if_neg (by omega), if_neg (by omega), if_neg (by omega), if_neg (by omega), if_neg (by omega), if_neg (by omega), if_neg (by omega), if_neg (by omega), if_neg (by omega), if_pos (by omega)]; exact congrArg some (by omega))
theorem PC.c00 {C : zM} (h : PC C) : C 0 0 = nI 1 := h 0 0 _ rfl
theorem PC.c01 {C : zM} (h : PC C) : C 0 1 = nI 2 := h 0 1 _ rfl
theorem PC.c03 {C : zM} (h : PC C) : C 0 3 = nI 3 := h 0 3 _ rfl
theorem PC.c04 {C : zM} (h : PC C) : C 0 4 = nI 18 := h 0 4 _ rfl
theorem PC.c06 {C : zM} (h : PC C) : C 0 6 = nI 19 := h 0 6 _ rfl
theorem PC.c07 {C : zM} (h : PC C) : C 0 7 = nI 22 := h 0 7 _ rfl
theorem PC.c09 {C : zM} (h : PC C) : C 0 9 = nI 25 := h 0 9 _ rfl
theorem PC.c30 {C : zM} (h : PC C) : C 3 0 = nI 4 := h 3 0 _ rfl
theorem PC.c31 {C : zM} (h : PC C) : C 3 1 = nI 15 := h 3 1 _ rfl
theorem PC.c32 {C : zM} (h : PC C) : C 3 2 = nI 16 := h 3 2 _ rfl
theorem PC.c33 {C : zM} (h : PC C) : C 3 3 = nI 17 := h 3 3 _ rfl
theorem PC.c221 {C : zM} (h : PC C) : C 22 1 = nI 23 := h 22 1 _ rfl
theorem PC.c224 {C : zM} (h : PC C) : C 22 4 = nI 24 := h 22 4 _ rfl
theorem PC.c250 {C : zM} (h : PC C) : C 25 0 = nI 26 := h 25 0 _ rfl
theorem PM.m2 {M : zM} (h : PM M) : M 143 2 = nI 144 := h 2 _ rfl
theorem PM.m3 {M : zM} (h : PM M) : M 143 3 = nI 145 := h 3 _ rfl
theorem PM.m4 {M : zM} (h : PM M) : M 143 4 = nI 146 := h 4 _ rfl
theorem PM.m6 {M : zM} (h : PM M) : M 143 6 = nI 147 := h 6 _ rfl
theorem PM.m7 {M : zM} (h : PM M) : M 143 7 = nI 148 := h 7 _ rfl
theorem PM.m8 {M : zM} (h : PM M) : M 143 8 = nI 149 := h 8 _ rfl
theorem PM.m9 {M : zM} (h : PM M) : M 143 9 = nI 150 := h 9 _ rfl
theorem PM.m10 {M : zM} (h : PM M) : M 143 10 = nI 151 := h 10 _ rfl
theorem PM.m11 {M : zM} (h : PM M) : M 143 11 = nI 152 := h 11 _ rfl
theorem PM.m12 {M : zM} (h : PM M) : M 143 12 = nI 153 := h 12 _ rfl
theorem PM.m14 {M : zM} (h : PM M) : M 143 14 = nI 154 := h 14 _ rfl
theorem PM.m15 {M : zM} (h : PM M) : M 143 15 = nI 155 := h 15 _ rfl
theorem PM.m16 {M : zM} (h : PM M) : M 143 16 = nI 156 := h 16 _ rfl
theorem PM.m17 {M : zM} (h : PM M) : M 143 17 = nI 157 := h 17 _ rfl
theorem PM.m18 {M : zM} (h : PM M) : M 143 18 = nI 158 := h 18 _ rfl
theorem PM.m19 {M : zM} (h : PM M) : M 143 19 = nI 159 := h 19 _ rfl
theorem PM.m20 {M : zM} (h : PM M) : M 143 20 = nI 160 := h 20 _ rfl
theorem PM.m21 {M : zM} (h : PM M) : M 143 21 = nI 161 := h 21 _ rfl
theorem PM.m22 {M : zM} (h : PM M) : M 143 22 = nI 162 := h 22 _ rfl
theorem PM.m23 {M : zM} (h : PM M) : M 143 23 = nI 163 := h 23 _ rfl
theorem PM.m28 {M : zM} (h : PM M) : M 143 28 = nI 164 := h 28 _ rfl
theorem PM.m35 {M : zM} (h : PM M) : M 143 35 = nI 165 := h 35 _ rfl
theorem PM.m36 {M : zM} (h : PM M) : M 143 36 = nI 166 := h 36 _ rfl
theorem nI_id {o : Nat} (h : o < 1000) : (nI o).toNatClampNeg = o := nI_clamp (by omega)
theorem z_ix (x : Int32) (k : Nat) (hk : k < 1000) : (x < 0 ∨ nI k ≤ x) ∨ ∃ j : Nat, j < k ∧ x = nI j := by
  rcases pk_ix x (n := k) (by omega) with h | h | h
  · exact Or.inl (Or.inl h)
  · exact Or.inl (Or.inr h)
  · exact Or.inr h
