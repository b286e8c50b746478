theorem zpick {s : State} {args : Array Value} (hts : ∀ w ∈ zT, w.before args s = true) : ∀ k : Nat, ∃ q : ClassId × (Nat → Nat), ∀ r : vw_C, zcl[k]? = some r → u_Kn s r.1 r.2.1 r.2.2 q.1 q.2 := by
  intro k
  match k with
  | 0 =>
    obtain ⟨a, f, h⟩ := u_known (C := RX0) (T := TX0) (N := 2) (n := 2) hts zin0 (hts _ zq_167)
    exact ⟨(a, f), fun r hr => by cases hr; exact h⟩
  | 1 =>
    obtain ⟨a, f, h⟩ := u_known (C := RX1) (T := TX1) (N := 10) (n := 10) hts zin1 (hts _ zq_122)
    exact ⟨(a, f), fun r hr => by cases hr; exact h⟩
  | 2 =>
    obtain ⟨a, f, h⟩ := u_known (C := RX2) (T := TX2) (N := 11) (n := 11) hts zin2 (hts _ zq_54)
    exact ⟨(a, f), fun r hr => by cases hr; exact h⟩
  | 3 =>
    obtain ⟨a, f, h⟩ := u_known (C := RX3) (T := TX3) (N := 4) (n := 4) hts zin3 (hts _ zq_179)
    exact ⟨(a, f), fun r hr => by cases hr; exact h⟩
  | 4 =>
    obtain ⟨a, f, h⟩ := u_known (C := RX4) (T := TX4) (N := 2) (n := 2) hts zin4 (hts _ zq_60)
    exact ⟨(a, f), fun r hr => by cases hr; exact h⟩
  | 5 =>
    obtain ⟨a, f, h⟩ := u_known (C := RX5) (T := TX5) (N := 5) (n := 5) hts zin5 (hts _ zq_25)
    exact ⟨(a, f), fun r hr => by cases hr; exact h⟩
  | 6 =>
    obtain ⟨a, f, h⟩ := u_known (C := RX6) (T := TX6) (N := 4) (n := 4) hts zin6 (hts _ zq_202)
    exact ⟨(a, f), fun r hr => by cases hr; exact h⟩
  | 7 =>
    obtain ⟨a, f, h⟩ := u_known (C := RX7) (T := TX7) (N := 11) (n := 11) hts zin7 (hts _ zq_13)
    exact ⟨(a, f), fun r hr => by cases hr; exact h⟩
  | 8 =>
    obtain ⟨a, f, h⟩ := u_known (C := RX8) (T := TX8) (N := 38) (n := 38) hts zin8 (hts _ zq_651)
    exact ⟨(a, f), fun r hr => by cases hr; exact h⟩
  | k + 9 => exact ⟨(0, fun _ => 0), fun r hr => by simp [zcl] at hr⟩
theorem zarrI {s : State} {args : Array Value} {ty : FieldType} (h : (Cond.arrayClass ty).before args s = true) : ∃ cA : ClassId, ArrOfT s cA ty ∧ s.vm.findClass ("[" ++ ty.toString) = some cA := by
  obtain ⟨c, k, comp, h1, h2, h3⟩ := Cond.arrayClass_spec h
  exact ⟨c, fun _ _ => ⟨fun _ q => (by cases q), k, h2, comp, h3⟩, h1⟩
theorem zarrO {s : State} {args : Array Value} {n : String} (h : (Cond.arrayOver (.object n)).before args s = true) : ∃ cA : ClassId, ArrOfT s cA (.object n) ∧ va_RA s cA (.object n) := by
  obtain ⟨comp, c, k, h1, h2, h3, h4, h5⟩ := Cond.arrayOver_spec h
  exact ⟨c, fun _ _ => ⟨fun _ q => (by cases q), k, h3, comp, h4⟩, k, comp, h3, h4, h1, h5⟩
theorem zarrA {s : State} {args : Array Value} {t : FieldType} (h : (Cond.arrayOver (.array t)).before args s = true) : ∃ cA : ClassId, ArrOfT s cA (.array t) ∧ s.vm.findClass ("[" ++ (FieldType.array t).toString) = some cA := by
  obtain ⟨comp, c, k, h1, h2, h3, h4, h5⟩ := arrayOverA_spec h
  exact ⟨c, fun _ _ => ⟨fun _ q => (by cases q), k, h3, comp, h4⟩, h5⟩
theorem zlw {i : Nat} {w : Cond} (h : tables_1[i]? = some w) : w ∈ lw_tbl := List.mem_append_right _ (List.mem_of_getElem? h)
set_option maxRecDepth 20000 in
theorem zX_of {s : State} {args : Array Value} (hts : ∀ w ∈ lw_tbl, w.before args s = true) : zX s :=
  ⟨va_Nw.of rfl (hts _ (zlw (i := 532) rfl)), va_Nw.of rfl (hts _ (zlw (i := 26) rfl)), va_Nw.of rfl (hts _ (zlw (i := 61) rfl)), va_Nw.of rfl (hts _ (zlw (i := 123) rfl)), va_Nw.of rfl (hts _ (zlw (i := 168) rfl)), va_Nw.of rfl (hts _ (zlw (i := 180) rfl)), va_AO.of (hts _ (zlw (i := 21) rfl)), va_AO.of (hts _ (zlw (i := 23) rfl)), va_AO.of (hts _ (zlw (i := 53) rfl)), over_moved (Vm.Alike.refl _) (hts _ (zlw (i := 31) rfl))⟩
theorem zKK_of {s : State} {args : Array Value} (hts : ∀ w ∈ lw_tbl, w.before args s = true) : ∃ (D : va_G) (tc : Nat → ClassId), zKK D tc s := by
  have htz : ∀ w ∈ zT, w.before args s = true := fun w hw => hts w (List.mem_filter.mp hw).1
  obtain ⟨t0, a0, b0⟩ := zarrI (hts _ (zlw (i := 51) rfl))
  obtain ⟨t1, a1, b1⟩ := zarrI (hts _ (zlw (i := 165) rfl))
  obtain ⟨t2, a2, b2⟩ := zarrO (hts _ (zlw (i := 21) rfl))
  obtain ⟨t3, a3, b3⟩ := zarrO (hts _ (zlw (i := 23) rfl))
  obtain ⟨t4, a4, b4⟩ := zarrO (hts _ (zlw (i := 53) rfl))
  obtain ⟨t5, a5, b5⟩ := zarrA (hts _ (zlw (i := 31) rfl))
  refine ⟨(fun k => (Classical.choose (zpick htz k)).1, fun k => (Classical.choose (zpick htz k)).2), fun k => match k with | 0 => t0 | 1 => t1 | 2 => t2 | 3 => t3 | 4 => t4 | _ => t5, ⟨fun k q hq => Classical.choose_spec (zpick htz k) q hq, fun k q hq => ?_⟩, zX_of hts⟩
  match k with
  | 0 => cases hq; exact ⟨a0, b0⟩
  | 1 => cases hq; exact ⟨a1, b1⟩
  | 2 => cases hq; exact ⟨a2, b2⟩
  | 3 => cases hq; exact ⟨a3, b3⟩
  | 4 => cases hq; exact ⟨a4, b4⟩
  | 5 => cases hq; exact ⟨a5, b5⟩
  | k + 6 => simp [zTys] at hq
