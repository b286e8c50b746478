def RSh (C M : zM) : Prop := ∀ i, i < 8 → ((C (27 + 2 * i) 1 = 1 ∧ M 144 i = -1) ∨ (C (27 + 2 * i) 1 = 0 ∧ ∃ l, l < 3 ∧ C (27 + 2 * i) 2 = nI l ∧ M 144 i = nI l)) ∧ (∃ m, m ≤ 60 ∧ C (27 + 2 * i) 3 = nI m ∧ M 145 i = nI m) ∧ ∀ j, j < 60 → C (28 + 2 * i) j = M 146 (60 * i + j)
def RVer (vc : Nat) (C M : zM) : Prop := vc ≤ 10 ∧ C 0 2 = nI vc ∧ M 143 5 = nI vc ∧ ∀ i, i < vc → ∃ bl f, 1 ≤ bl ∧ bl ≤ 8 ∧ f ≤ i ∧ C (43 + i) 1 = nI bl ∧ M 147 i = nI bl ∧ C (43 + i) 2 = nI f ∧ M 148 i = nI f ∧ C (43 + i) 3 = M 149 i
def zcnt (f : Nat → Int32) : Nat → Nat
  | 0 => 0
  | q + 1 => zcnt f q + (if f q = 0 then 0 else 1)
def RStep (C M : zM) : Prop := (∀ v, v < 10 → ∀ u, u < 10 → ∃ k, k ≤ 1000 ∧ C (5 + v) u = nI k ∧ M 150 (10 * v + u) = nI k) ∧ C 3 4 = nI (zcnt (M 150) 100)
/-- a device that is there, of number d -/
def RD1 (vc : Nat) (C M : zM) (d : Nat) : Prop := ∃ p o k v f : Nat, (p = 1 ∨ p = 2) ∧ (o = 0 ∨ o = 1) ∧ k < 8 ∧ v < vc ∧ f ≤ v ∧
  C (53 + 3 * d) 3 = nI (53 + 3 * d + p) ∧ C (53 + 3 * d) 4 = nI (53 + 3 * d + (3 - p)) ∧ C (53 + 3 * d) 5 = nI o ∧ M 156 d = nI o ∧ C (53 + 3 * d) 6 = 0 ∧ M 159 d = 0 ∧ C (53 + 3 * d) 7 = 0 ∧
  C (53 + 3 * d) 1 = nI k ∧ M 154 d = nI k ∧ ((C (53 + 3 * d) 2 = -1 ∧ M 155 d = -1000000) ∨ ∃ h, h < d ∧ C (53 + 3 * d) 2 = nI (53 + 3 * h) ∧ M 155 d = nI h) ∧
  C (53 + 3 * d) 9 = M 162 d ∧ C (53 + 3 * d) 10 = M 163 d ∧ C (53 + 3 * d) 8 = nI f ∧ M 161 d = nI f ∧
  C (53 + 3 * d + p) 0 = nI (43 + v) ∧ M 157 (2 * d + o) = nI v ∧ C (53 + 3 * d + p) 1 = M 158 (2 * d + o) ∧
  ((C (53 + 3 * d + (3 - p)) 0 = -1 ∧ M 157 (2 * d + (1 - o)) = -1000000) ∨ ∃ w, w < vc ∧ C (53 + 3 * d + (3 - p)) 0 = nI (43 + w) ∧ M 157 (2 * d + (1 - o)) = nI w) ∧ C (53 + 3 * d + (3 - p)) 1 = M 158 (2 * d + (1 - o))
/-- one that is still to come -/
def RD0 (C M : zM) (d : Nat) : Prop := C (53 + 3 * d) 3 = nI (53 + 3 * d + 1) ∧ C (53 + 3 * d) 4 = nI (53 + 3 * d + 2) ∧ C (53 + 3 * d) 5 = 0 ∧ C (53 + 3 * d) 6 = 0 ∧ C (53 + 3 * d) 7 = 0 ∧ C (53 + 3 * d) 9 = 0 ∧ C (53 + 3 * d) 10 = 0 ∧ C (53 + 3 * d + 2) 0 = -1 ∧ C (53 + 3 * d + 2) 1 = 0 ∧ M 159 d = 0 ∧ M 162 d = 0 ∧ M 163 d = 0
def RSI (C : zM) : Prop := ∃ p, (p = 1 ∨ p = 2) ∧ C 19 3 = nI (19 + p) ∧ C 19 4 = nI (19 + (3 - p))
def RDev (vc dc : Nat) (C M : zM) : Prop := dc ≤ 30 ∧ C 0 5 = nI dc ∧ M 143 13 = nI dc ∧ (∀ d, d < dc → RD1 vc C M d) ∧ (∀ d, dc ≤ d → d < 30 → RD0 C M d)
def RCamp (vc : Nat) (C M : zM) : Prop := (C 22 0 = -1 ∧ M 143 25 = 0) ∨ (M 143 25 = 1 ∧ ∃ t w k st : Nat, t < vc ∧ 1 ≤ w ∧ w ≤ 6 ∧ k < w ∧ st < 3 ∧ C 22 0 = nI (43 + t) ∧ M 143 26 = nI t ∧ C 22 2 = nI w ∧ M 143 27 = nI w ∧ C 22 3 = M 143 29 ∧ C 22 5 = nI k ∧ M 143 30 = nI k ∧ C 22 6 = M 143 31 ∧ C 22 7 = M 143 32 ∧ C 22 8 = nI st ∧ M 143 33 = nI st ∧ C 22 9 = M 143 34 ∧ (∀ j, j < w → C 23 j = M 164 j) ∧ ∀ j, j < 30 → C 24 j = M 165 j)
def RAsk (C M : zM) : Prop := ∃ k, k ≤ 16 ∧ C 25 1 = nI k ∧ M 143 37 = nI k ∧ ∀ j, j < 16 → C 26 j = M 166 j
def RMis (C M : zM) : Prop := C 0 10 = M 143 1 ∧ C 0 8 = M 143 24
def R2 (vc dc : Nat) (C M : zM) : Prop := PC C ∧ PM M ∧ RMis C M ∧ RSh C M ∧ RVer vc C M ∧ RStep C M ∧ RSI C ∧ RDev vc dc C M ∧ RCamp vc C M ∧ RAsk C M
-- frames of each
section FR
variable {C C' M M' : zM} {vc dc : Nat}
theorem RSh.fr (h : RSh C M) (hC : ∀ a j, 27 ≤ a → a < 43 → C' a j = C a j) (hM : ∀ a j, 144 ≤ a → a ≤ 146 → M' a j = M a j) : RSh C' M' := by
  intro i hi
  rw [hC _ 1 (by omega) (by omega), hC _ 2 (by omega) (by omega), hC (27 + 2 * i) 3 (by omega) (by omega), hM 144 i (by omega) (by omega), hM 145 i (by omega) (by omega)]
  refine ⟨(h i hi).1, (h i hi).2.1, fun j hj => ?_⟩
  rw [hC _ j (by omega) (by omega), hM 146 _ (by omega) (by omega)]
  exact (h i hi).2.2 j hj
theorem RVer.fr (h : RVer vc C M) (h0 : C' 0 2 = C 0 2) (hC : ∀ a j, 43 ≤ a → a < 53 → C' a j = C a j) (h1 : M' 143 5 = M 143 5) (hM : ∀ a j, 147 ≤ a → a ≤ 149 → M' a j = M a j) : RVer vc C' M' := by
  obtain ⟨a1, a2, a3, a4⟩ := h
  refine ⟨a1, by rw [h0]; exact a2, by rw [h1]; exact a3, fun i hi => ?_⟩
  rw [hC _ 1 (by omega) (by omega), hC _ 2 (by omega) (by omega), hC _ 3 (by omega) (by omega), hM 147 i (by omega) (by omega), hM 148 i (by omega) (by omega), hM 149 i (by omega) (by omega)]
  exact a4 i hi
theorem RStep.fr (h : RStep C M) (h0 : C' 3 4 = C 3 4) (hC : ∀ a j, 5 ≤ a → a < 15 → C' a j = C a j) (hM : ∀ j, M' 150 j = M 150 j) : RStep C' M' := by
  refine ⟨fun v hv u hu => ?_, ?_⟩
  · rw [hC _ u (by omega) (by omega), hM]
    exact h.1 v hv u hu
  · rw [h0, show M' 150 = M 150 from funext hM]
    exact h.2
theorem RSI.fr (h : RSI C) (h3 : C' 19 3 = C 19 3) (h4 : C' 19 4 = C 19 4) : RSI C' := by
  unfold RSI
  rw [h3, h4]
  exact h
theorem RD1.fr {d : Nat} (h : RD1 vc C M d) (hC : ∀ j, C' (53 + 3 * d) j = C (53 + 3 * d) j) (hC1 : ∀ j, C' (53 + 3 * d + 1) j = C (53 + 3 * d + 1) j) (hC2 : ∀ j, C' (53 + 3 * d + 2) j = C (53 + 3 * d + 2) j) (hM : ∀ a, 154 ≤ a → a ≤ 163 → a ≠ 160 → M' a d = M a d ∨ a = 157 ∨ a = 158) (hM2 : ∀ a o, (a = 157 ∨ a = 158) → o ≤ 1 → M' a (2 * d + o) = M a (2 * d + o)) : RD1 vc C' M' d := by
  have m : ∀ a, 154 ≤ a → a ≤ 163 → a ≠ 160 → a ≠ 157 → a ≠ 158 → M' a d = M a d := fun a q1 q2 q3 q4 q5 => by
    rcases hM a q1 q2 q3 with w | w | w
    · exact w
    · exact absurd w q4
    · exact absurd w q5
  obtain ⟨p, o, k, v, f, hp, ho, hk, hv, hf, rest⟩ := h
  refine ⟨p, o, k, v, f, hp, ho, hk, hv, hf, ?_⟩
  have e1 : ∀ j, C' (53 + 3 * d + p) j = C (53 + 3 * d + p) j := by
    rcases hp with rfl | rfl
    · exact hC1
    · exact hC2
  have e2 : ∀ j, C' (53 + 3 * d + (3 - p)) j = C (53 + 3 * d + (3 - p)) j := by
    rcases hp with rfl | rfl
    · exact hC2
    · exact hC1
  rw [hC, hC, hC, hC, hC, hC, hC, hC, hC, hC, e1, e1, e2, e2, m 156 (by omega) (by omega) (by omega) (by omega) (by omega), m 159 (by omega) (by omega) (by omega) (by omega) (by omega), m 154 (by omega) (by omega) (by omega) (by omega) (by omega), m 155 (by omega) (by omega) (by omega) (by omega) (by omega), m 162 (by omega) (by omega) (by omega) (by omega) (by omega), m 163 (by omega) (by omega) (by omega) (by omega) (by omega), m 161 (by omega) (by omega) (by omega) (by omega) (by omega), hM2 157 o (Or.inl rfl) (by omega), hM2 158 o (Or.inr rfl) (by omega), hM2 157 (1 - o) (Or.inl rfl) (by omega), hM2 158 (1 - o) (Or.inr rfl) (by omega)]
  exact rest
theorem RD0.fr {d : Nat} (h : RD0 C M d) (hC : ∀ j, C' (53 + 3 * d) j = C (53 + 3 * d) j) (hC2 : ∀ j, C' (53 + 3 * d + 2) j = C (53 + 3 * d + 2) j) (h9 : M' 159 d = M 159 d) (h12 : M' 162 d = M 162 d) (h13 : M' 163 d = M 163 d) : RD0 C' M' d := by
  unfold RD0
  rw [hC, hC, hC, hC, hC, hC, hC, hC2, hC2, h9, h12, h13]
  exact h
theorem RDev.fr (h : RDev vc dc C M) (h0 : C' 0 5 = C 0 5) (hC : ∀ a j, 53 ≤ a → a < 143 → C' a j = C a j) (h1 : M' 143 13 = M 143 13) (hM : ∀ a j, 154 ≤ a → a ≤ 163 → a ≠ 160 → M' a j = M a j) : RDev vc dc C' M' := by
  obtain ⟨a1, a2, a3, a4, a5⟩ := h
  refine ⟨a1, by rw [h0]; exact a2, by rw [h1]; exact a3, fun d hd => (a4 d hd).fr (fun j => hC _ j (by omega) (by omega)) (fun j => hC _ j (by omega) (by omega)) (fun j => hC _ j (by omega) (by omega)) (fun a q1 q2 q3 => Or.inl (hM a d q1 q2 q3)) (fun a o q _ => hM a _ (by omega) (by omega) (by omega)), fun d h1 h2 => (a5 d h1 h2).fr (fun j => hC _ j (by omega) (by omega)) (fun j => hC _ j (by omega) (by omega)) (hM _ d (by omega) (by omega) (by omega)) (hM _ d (by omega) (by omega) (by omega)) (hM _ d (by omega) (by omega) (by omega))⟩
theorem RCamp.fr (h : RCamp vc C M) (hC : ∀ a j, 22 ≤ a → a ≤ 24 → C' a j = C a j) (h1 : ∀ j, 25 ≤ j → j ≤ 34 → M' 143 j = M 143 j) (hM : ∀ a j, 164 ≤ a → a ≤ 165 → M' a j = M a j) : RCamp vc C' M' := by
  rcases h with ⟨q1, q2⟩ | ⟨q1, t, w, k, st, a1, a2, a3, a4, a5, a6, a7, a8, a9, a10, a11, a12, a13, a14, a15, a16, a17, a18, a19⟩
  · exact Or.inl ⟨by rw [hC _ _ (by omega) (by omega)]; exact q1, by rw [h1 _ (by omega) (by omega)]; exact q2⟩
  · refine Or.inr ⟨by rw [h1 _ (by omega) (by omega)]; exact q1, t, w, k, st, a1, a2, a3, a4, a5, ?_⟩
    rw [hC 22 0 (by omega) (by omega), hC 22 2 (by omega) (by omega), hC 22 3 (by omega) (by omega), hC 22 5 (by omega) (by omega), hC 22 6 (by omega) (by omega), hC 22 7 (by omega) (by omega), hC 22 8 (by omega) (by omega), hC 22 9 (by omega) (by omega), h1 26 (by omega) (by omega), h1 27 (by omega) (by omega), h1 29 (by omega) (by omega), h1 30 (by omega) (by omega), h1 31 (by omega) (by omega), h1 32 (by omega) (by omega), h1 33 (by omega) (by omega), h1 34 (by omega) (by omega)]
    refine ⟨a6, a7, a8, a9, a10, a11, a12, a13, a14, a15, a16, a17, fun j hj => ?_, fun j hj => ?_⟩
    · rw [hC 23 j (by omega) (by omega), hM 164 j (by omega) (by omega)]
      exact a18 j hj
    · rw [hC 24 j (by omega) (by omega), hM 165 j (by omega) (by omega)]
      exact a19 j hj
theorem RAsk.fr (h : RAsk C M) (hC : ∀ a j, 25 ≤ a → a ≤ 26 → C' a j = C a j) (h1 : M' 143 37 = M 143 37) (hM : ∀ j, M' 166 j = M 166 j) : RAsk C' M' := by
  obtain ⟨k, a1, a2, a3, a4⟩ := h
  refine ⟨k, a1, by rw [hC _ _ (by omega) (by omega)]; exact a2, by rw [h1]; exact a3, fun j hj => ?_⟩
  rw [hC 26 j (by omega) (by omega), hM]
  exact a4 j hj
theorem RMis.fr (h : RMis C M) (h1 : C' 0 10 = C 0 10) (h2 : C' 0 8 = C 0 8) (h3 : M' 143 1 = M 143 1) (h4 : M' 143 24 = M 143 24) : RMis C' M' := by
  unfold RMis
  rw [h1, h2, h3, h4]
  exact h
end FR
def FC (C C' : zM) : Prop := ∀ a, 143 ≤ a → C' a = C a
def FM (M M' : zM) : Prop := ∀ a, a < 143 → M' a = M a
/-- both answer the same, and go on alike -/
def Same (f g : Option (Int32 × zM)) (C M : zM) : Prop := ∃ (r : Int32) (C' M' : zM) (vc dc : Nat), f = some (r, C') ∧ g = some (r, M') ∧ R2 vc dc C' M' ∧ FC C C' ∧ FM M M'
theorem FC.rf {C : zM} : FC C C := fun _ _ => rfl
theorem FM.rf {M : zM} : FM M M := fun _ _ => rfl
theorem FC.up {C C' : zM} {o k : Nat} {v : Int32} (h : FC C C') (ho : o < 143) : FC C (zup C' o k v) := fun a ha => (zup_a (by omega)).trans (h a ha)
theorem FM.up {M M' : zM} {o k : Nat} {v : Int32} (h : FM M M') (ho : 143 ≤ o) : FM M (zup M' o k v) := fun a ha => (zup_a (by omega)).trans (h a ha)
theorem FC.tr {A B C : zM} (h : FC A B) (h2 : FC B C) : FC A C := fun a ha => (h2 a ha).trans (h a ha)
theorem FM.tr {A B C : zM} (h : FM A B) (h2 : FM B C) : FM A C := fun a ha => (h2 a ha).trans (h a ha)
theorem zup_off {S : zM} {o k a j : Nat} {v : Int32} (h : ¬ (a = o ∧ j = k)) : zup S o k v a j = S a j := if_neg h
