def zCl (ci : Nat) (CN : String) (T : u_T) (N : Nat) : Prop := zcl[ci]? = some (CN, T, N) ∧ (∀ w ∈ u_ws CN T N, w ∈ zT) ∧ zN ci = N ∧ (∀ k, k < N → parseFieldDescriptor (T k).2.2.1 = some (zty ci k)) ∧ (∀ a, a < N → ∀ b, b < N → a ≠ b → (T a).2.1 ≠ (T b).2.1)
theorem zI.put {D : va_G} {tc : Nat → ClassId} {b n : Nat} {S : zM} {s : State} {H H1 : Heap} {locs : List Loc} (I : zI D tc b n S s H locs) {o k : Nat} {y : Int32} (z : H1.size = H.size) (oq : ∀ q : Nat, q ≠ b + o → H1[q]? = H[q]?) (hc : zcell D tc b o (zup S o k y o) H1) (j : Nat) : zI D tc b n (zup S o k y) s H1 (locs ++ [⟨b + o, j⟩]) := by
  refine ⟨⟨z.trans I.1.1, fun a ha => ?_⟩, I.2.put z oq (Nat.le_add_right b o)⟩
  by_cases e : a = o
  · subst e
    exact hc
  · rw [zup_ne e]
    exact (I.1.2 a ha).kept (oq (b + a) (by omega))
section ZH
variable {p : Program} {l : Launch} {e : Env} {R : Room} {s : State} {m : MethodId} {args : Array Value} {below : List Frame} {meth : Method} {c : Code} {H : Heap} {locs : List Loc} {cells slots : Nat} {Q : State → Prop}
variable {cc : ByteArray} {nL : Nat} {own : String} {D : va_G} {tc : Nat → ClassId} {b n : Nat} {S : zM} {pc : Nat} {ls : Array Slot} {st : List zV}
theorem z_get (C : zC p m c cc nL s args own D tc) (I : zI D tc b n S s H locs) {x : Int32} (ci k : Nat) {CN : String} {T : u_T} {N ix : Nat} (Y : zCl ci CN T N) (hg : zo n (10 + ci) x = true) (hk : k < N) (hlink : Cond.fieldLink own ix (T k).1 (T k).2.1 (T k).2.2.1 ∈ zT) {v : zV} (hv : zfv (zty ci k) (zg S x k) = v) (hdg : decode cc pc = .ok (.getfield ix, 3)) (kk : W p l e R s m args below meth c H locs cells slots Q (zG b m (pc + 3) ls (v :: st))) : W p l e R s m args below meth c H locs cells slots Q (zG b m pc ls (zr x :: st)) := by
  obtain ⟨g1, g2, g3⟩ := zo_spec hg
  obtain ⟨Y1, Y2, Y3, Y4, Y5⟩ := Y
  obtain ⟨cell, q1, q2, q3, q4⟩ := (I.1.2 _ g2).2 ci g3
  obtain ⟨hS, hfc, kC, hkC, hkind⟩ := C.2.1.1 ci _ Y1
  obtain ⟨cf, kf, fi, f, hi, hsl⟩ := hS k hk
  subst hv
  show W p l e R s m args below meth c H locs cells slots Q (F0 m pc ls (zw b x :: st.map (zv b)))
  rw [zw_ref g1]
  refine W.getf C.1.1 C.1.2.1 C.1.2.2.2.1 (C.1.2.2.2.2 _ hlink) hi (u_facts hfc hkC (u_lays C.1.2.2.2.2 Y2 hk) hi).1 q1 (by rw [q3]; exact fun h => by cases h) (v := zv b (zfv (zty ci k) (zg S x k))) ?_ rfl rfl hdg kk
  rw [hsl, q4 k (by rw [Y3]; exact hk)]
theorem z_put (C : zC p m c cc nL s args own D tc) (I : zI D tc b n S s H locs) {x y : Int32} (ci k : Nat) {CN : String} {T : u_T} {N ix : Nat} (Y : zCl ci CN T N) (hg : zo n (10 + ci) x = true) (hk : k < N) (hfin : (T k).2.2.2 = false) (hlink : Cond.fieldLink own ix (T k).1 (T k).2.1 (T k).2.2.1 ∈ zT) (hok : ztok (zty ci k) y = true) {v : zV} (hv : zfv (zty ci k) y = v) (hdg : decode cc pc = .ok (.putfield ix, 3)) (kk : ∀ S1 : zM, S1 = zp S x k y → ∀ (H : Heap) (locs : List Loc), zI D tc b n S1 s H locs → W p l e R s m args below meth c H locs cells slots Q (zG b m (pc + 3) ls st)) : W p l e R s m args below meth c H locs cells slots Q (zG b m pc ls (v :: zr x :: st)) := by
  obtain ⟨g1, g2, g3⟩ := zo_spec hg
  obtain ⟨Y1, Y2, Y3, Y4, Y5⟩ := Y
  obtain ⟨cell, q1, q2, q3, q4⟩ := (I.1.2 _ g2).2 ci g3
  have hap := va_apart (own := own) C.1.2.2.2.2 Y2 (zty ci) Y4 Y5 C.2.1 Y1
  obtain ⟨hS, hfc, kC, hkC, hkind⟩ := C.2.1.1 ci _ Y1
  obtain ⟨cf, kf, fi, f, hi, hsl⟩ := hS k hk
  have hlay := C.1.2.2.2.2 _ (Y2 _ (u_in_lay hk))
  unfold u_lay at hlay
  rw [if_neg (by rw [hfin]; decide)] at hlay
  have hst := (u_facts hfc hkC (u_lays C.1.2.2.2.2 Y2 hk) hi).1
  obtain ⟨hn, hfit⟩ := ztok_spec b hok
  have h6 := u_store hfc hkC hkind hlay hi (Y4 k hk) hn hfit
  subst hv
  show W p l e R s m args below meth c H locs cells slots Q (F0 m pc ls (zv b (zfv (zty ci k) y) :: zw b x :: st.map (zv b)))
  rw [zw_ref g1]
  have hN : ∀ k, k < zN ci → k < N := fun k h => by rw [← Y3]; exact h
  refine W.putK C.1.1 C.1.2.1 (f := f) ⟨C.1.2.2.2.1, C.1.2.2.2.2 _ hlink, ⟨_, _, _, hi⟩, hst⟩ (by rw [q2]; exact h6) q1 q3 (by rw [hsl]; exact k2_hasslot (q4 k (by rw [Y3]; exact hk))) rfl rfl hdg fun H' e1 e2 e3 => ?_
  rw [hsl] at e1 ⊢
  refine kk _ rfl H' _ (I.put e2 e3 ⟨fun h => absurd h (by rw [g3]; omega), fun ci' h => ?_⟩ _)
  have hci : ci' = ci := by omega
  subst hci
  refine t_OB.to (V := updV (fun j => zv b (zfv (zty ci' j) (S x.toNatClampNeg j))) k (zv b (zfv (zty ci' k) y))) ⟨_, e1, q2, q3, t_set q4 (fun i j hi hj hne => hap i j (hN i hi) (hN j hj) hne) (by rw [Y3]; exact hk) _⟩ (fun j _ => ?_)
  by_cases hj : j = k
  · subst hj
    simp [updV, zup]
  · simp [updV, zup, hj]
theorem z_iald (C : zC p m c cc nL s args own D tc) (I : zI D tc b n S s H locs) {x i : Int32} (hg : za n 0 x i = true) (hdg : decode cc pc = .ok (.iaload, 1)) (kk : W p l e R s m args below meth c H locs cells slots Q (zG b m (pc + 1) ls (zi (ze S x i) :: st))) : W p l e R s m args below meth c H locs cells slots Q (zG b m pc ls (zi i :: zr x :: st)) := by
  obtain ⟨g0, g4, g5⟩ := za_spec hg
  obtain ⟨g1, g2, g3⟩ := zo_spec g0
  have hc := (I.1.2 _ g2).1 (by rw [g3]; decide)
  rw [g3] at hc
  show W p l e R s m args below meth c H locs cells slots Q (F0 m pc ls (.int i :: zw b x :: st.map (zv b)))
  rw [zw_ref g1]
  exact W.iald (v := .int (ze S x i)) C.1.1 C.1.2.1 hc ((C.2.ty (kd := 0) (by decide)).1 _ _) (fun q => by cases q) (by rw [arrV_size]; exact fun q => q.elim g4 (fun h => absurd g5 (Nat.not_lt.mpr h))) (by rw [arrV_read _ _ g5]; rfl) rfl rfl hdg kk
theorem z_zald (C : zC p m c cc nL s args own D tc) (I : zI D tc b n S s H locs) {x i : Int32} (hg : za n 1 x i = true) (hdg : decode cc pc = .ok (.baload, 1)) (kk : W p l e R s m args below meth c H locs cells slots Q (zG b m (pc + 1) ls (zi (ze S x i) :: st))) : W p l e R s m args below meth c H locs cells slots Q (zG b m pc ls (zi i :: zr x :: st)) := by
  obtain ⟨g0, g4, g5⟩ := za_spec hg
  obtain ⟨g1, g2, g3⟩ := zo_spec g0
  have hc := (I.1.2 _ g2).1 (by rw [g3]; decide)
  rw [g3] at hc
  show W p l e R s m args below meth c H locs cells slots Q (F0 m pc ls (.int i :: zw b x :: st.map (zv b)))
  rw [zw_ref g1]
  exact W.zald (v := .int (ze S x i)) C.1.1 C.1.2.1 hc ((C.2.ty (kd := 1) (by decide)).1 _ _) (fun q => by cases q) (by rw [arrV_size]; exact fun q => q.elim g4 (fun h => absurd g5 (Nat.not_lt.mpr h))) (by rw [arrV_read _ _ g5]; rfl) rfl rfl hdg kk
theorem z_aald (C : zC p m c cc nL s args own D tc) (I : zI D tc b n S s H locs) {x i : Int32} (kd : Nat) (h2 : kd = 2 ∨ kd = 3 ∨ kd = 4 ∨ kd = 5) (hg : za n kd x i = true) (hdg : decode cc pc = .ok (.aaload, 1)) (kk : W p l e R s m args below meth c H locs cells slots Q (zG b m (pc + 1) ls (zr (ze S x i) :: st))) : W p l e R s m args below meth c H locs cells slots Q (zG b m pc ls (zi i :: zr x :: st)) := by
  obtain ⟨g0, g4, g5⟩ := za_spec hg
  obtain ⟨g1, g2, g3⟩ := zo_spec g0
  have hc := (I.1.2 _ g2).1 (by rw [g3]; omega)
  rw [g3] at hc
  show W p l e R s m args below meth c H locs cells slots Q (F0 m pc ls (.int i :: zw b x :: st.map (zv b)))
  rw [zw_ref g1]
  refine W.aald (v := zv b (zr (ze S x i))) (ty := zae kd) C.1.1 C.1.2.1 hc ((C.2.ty (kd := kd) (by omega)).1 _ _) ?_ (fun q => by cases q) (by rw [arrV_size]; exact fun q => q.elim g4 (fun h => absurd g5 (Nat.not_lt.mpr h))) ?_ rfl rfl hdg kk
  · rcases h2 with rfl | rfl | rfl | rfl <;> rfl
  · rw [arrV_read _ _ g5]
    rcases h2 with rfl | rfl | rfl | rfl <;> rfl
theorem z_iast (C : zC p m c cc nL s args own D tc) (I : zI D tc b n S s H locs) {x i y : Int32} (hg : za n 0 x i = true) (hdg : decode cc pc = .ok (.iastore, 1)) (kk : ∀ S1 : zM, S1 = zq S x i y → ∀ (H : Heap) (locs : List Loc), zI D tc b n S1 s H locs → W p l e R s m args below meth c H locs cells slots Q (zG b m (pc + 1) ls st)) : W p l e R s m args below meth c H locs cells slots Q (zG b m pc ls (zi y :: zi i :: zr x :: st)) := by
  obtain ⟨g0, g4, g5⟩ := za_spec hg
  obtain ⟨g1, g2, g3⟩ := zo_spec g0
  have hc := (I.1.2 _ g2).1 (by rw [g3]; decide)
  rw [g3] at hc
  show W p l e R s m args below meth c H locs cells slots Q (F0 m pc ls (.int y :: .int i :: zw b x :: st.map (zv b)))
  rw [zw_ref g1]
  refine W.iast C.1.1 C.1.2.1 hc ((C.2.ty (kd := 0) (by decide)).1 _ _) (fun q => by cases q) (by rw [arrV_size]; exact fun q => q.elim g4 (fun h => absurd g5 (Nat.not_lt.mpr h))) rfl rfl hdg fun H' e1 e2 e3 => ?_
  refine kk _ rfl H' _ (I.put e2 e3 ⟨fun _ => ?_, fun ci h => absurd h (by rw [g3]; omega)⟩ _)
  rw [e1, arrV_store, g3]
  refine congrArg some (congrArg (arrV _ _) (funext fun j => ?_))
  by_cases hj : j = i.toNatClampNeg
  · subst hj
    simp [updV, zup, zav, zv]
  · simp [updV, zup, zav, hj]
theorem z_zast (C : zC p m c cc nL s args own D tc) (I : zI D tc b n S s H locs) {x i y : Int32} (hg : za n 1 x i = true) (hy : zbit y = true) (hdg : decode cc pc = .ok (.bastore, 1)) (kk : ∀ S1 : zM, S1 = zq S x i y → ∀ (H : Heap) (locs : List Loc), zI D tc b n S1 s H locs → W p l e R s m args below meth c H locs cells slots Q (zG b m (pc + 1) ls st)) : W p l e R s m args below meth c H locs cells slots Q (zG b m pc ls (zi y :: zi i :: zr x :: st)) := by
  obtain ⟨g0, g4, g5⟩ := za_spec hg
  obtain ⟨g1, g2, g3⟩ := zo_spec g0
  have hc := (I.1.2 _ g2).1 (by rw [g3]; decide)
  rw [g3] at hc
  show W p l e R s m args below meth c H locs cells slots Q (F0 m pc ls (.int y :: .int i :: zw b x :: st.map (zv b)))
  rw [zw_ref g1]
  refine W.zast C.1.1 C.1.2.1 hc ((C.2.ty (kd := 1) (by decide)).1 _ _) (fun q => by cases q) (by rw [arrV_size]; exact fun q => q.elim g4 (fun h => absurd g5 (Nat.not_lt.mpr h))) rfl rfl hdg fun H' e1 e2 e3 => ?_
  rw [(zbit_narrow hy).1] at e1
  refine kk _ rfl H' _ (I.put e2 e3 ⟨fun _ => ?_, fun ci h => absurd h (by rw [g3]; omega)⟩ _)
  rw [e1, arrV_store, g3]
  refine congrArg some (congrArg (arrV _ _) (funext fun j => ?_))
  by_cases hj : j = i.toNatClampNeg
  · subst hj
    simp [updV, zup, zav, zv]
  · simp [updV, zup, zav, hj]
theorem z_mmax (C : zC p m c cc nL s args own D tc) {ix : Nat} (hlink : Cond.methodLink own ix Lib.Math.max.name ∈ zT) (hstat : Cond.static Lib.Math.max.name ∈ zT) (hini : Cond.initialized "java/lang/Math" ∈ zT) (hcode : Cond.code Lib.Math.max.name Lib.Math.max.code 2 (some .int) ∈ zT) (hsz : ls.size = nL) (hframes : 1 ≤ R.frames) (hlocals : zsum st + 13 ≤ R.locals) (hcs : cells ≤ R.cells ∧ slots ≤ R.slots) {x y : Int32} (hdg : decode cc pc = .ok (.invokestatic ix, 3)) (kk : W p l e R s m args below meth c H locs cells slots Q (zG b m (pc + 3) ls (zi (if x < y then y else x) :: st))) : W p l e R s m args below meth c H locs cells slots Q (zG b m pc ls (zi y :: zi x :: st)) :=
  va_mmax C.1.1 C.1.2.1 (C.1.2.2.1.trans hsz.symm) C.1.2.2.2.1 (C.1.2.2.2.2 _ hlink) (C.1.2.2.2.2 _ hstat) (C.1.2.2.2.2 _ hini) (C.1.2.2.2.2 _ hcode) hframes (by rw [zsum_eq]; exact hlocals) hcs.1 hcs.2 hdg kk
end ZH
