/-- the room of a method of depth d -/
def zR (d : Nat) : Room := { frames := d, cells := 0, slots := 0, locals := 32 * d }
def zB (D : va_G) (tc : Nat → ClassId) (b n : Nat) (S : zM) (U : State) : Prop := zW D tc b n S U.heap ∧ zKK D tc U
theorem zB.blind {D : va_G} {tc : Nat → ClassId} {b n : Nat} {S : zM} {av : List Value} : FrameBlind (va_Pc av (zB D tc b n S)) := fun a U g mk q => ⟨q.1, q.2.1, va_K.moved (u := U) (U := U.calling g mk a) (Vm.Alike.refl U.vm) q.2.2.1, zX.same (u := U) (U := U.calling g mk a) rfl q.2.2.2⟩
/-- what the tables say of a method -/
def zY (y : MethodName) (bytes : ByteArray) (maxL : Nat) (ret : Option FieldType) (nargs : Nat) : Prop := Cond.code y bytes maxL ret ∈ zT ∧ Cond.initialized y.cls ∈ zT ∧ (y.cls ≠ "java/lang/invoke/MethodHandle" ∧ y.cls ≠ "java/lang/invoke/VarHandle" ∧ (parseMethodDescriptor y.desc).map (fun d => d.parameters.length) = some nargs) ∧ plainName y.cls = true
/-- and of one that is called on an object -/
def zYv (y : MethodName) : Prop := Cond.instanceMethod y ∈ zT ∧ Cond.selects y.cls y y ∈ zT
/-- contracts: an int (or boolean), a long, nothing -/
def zMi (l : Launch) (D : va_G) (tc : Nat → ClassId) (b n : Nat) (y : MethodName) (bytes : ByteArray) (maxL : Nat) (ty : FieldType) (d : Nat) (av : List zV) (S S' : zM) (r : Int32) : Prop := Met l y (Cond.code y bytes maxL (some ty) :: zT) (zR d) (va_Pc (av.map (zv b)) (zB D tc b n S)) (va_Qi (fun r' (_ : Unit) => r' = r) (fun _ t => zW D tc b n S' t.heap) (zF b)) 0 0 (zF b)
def zMl (l : Launch) (D : va_G) (tc : Nat → ClassId) (b n : Nat) (y : MethodName) (bytes : ByteArray) (maxL : Nat) (ty : FieldType) (d : Nat) (av : List zV) (S S' : zM) (r : Int64) : Prop := Met l y (Cond.code y bytes maxL (some ty) :: zT) (zR d) (va_Pc (av.map (zv b)) (zB D tc b n S)) (va_Ql (fun r' (_ : Unit) => r' = r) (fun _ t => zW D tc b n S' t.heap) (zF b)) 0 0 (zF b)
def zMv (l : Launch) (D : va_G) (tc : Nat → ClassId) (b n : Nat) (y : MethodName) (bytes : ByteArray) (maxL : Nat) (d : Nat) (av : List zV) (S S' : zM) : Prop := Met l y (Cond.code y bytes maxL none :: zT) (zR d) (va_Pc (av.map (zv b)) (zB D tc b n S)) (va_Qv (fun (_ : Unit) => True) (fun _ t => zW D tc b n S' t.heap) (zF b)) 0 0 (zF b)
def zQi (D : va_G) (tc : Nat → ClassId) (b n : Nat) (S' : zM) (r : Int32) (below : List Frame) (args : Array Value) (s : State) : State → Prop := MQ below (va_Qi (fun r' (_ : Unit) => r' = r) (fun _ t => zW D tc b n S' t.heap) (zF b)) args s 0 0 (zF b)
def zQl (D : va_G) (tc : Nat → ClassId) (b n : Nat) (S' : zM) (r : Int64) (below : List Frame) (args : Array Value) (s : State) : State → Prop := MQ below (va_Ql (fun r' (_ : Unit) => r' = r) (fun _ t => zW D tc b n S' t.heap) (zF b)) args s 0 0 (zF b)
def zQv (D : va_G) (tc : Nat → ClassId) (b n : Nat) (S' : zM) (below : List Frame) (args : Array Value) (s : State) : State → Prop := MQ below (va_Qv (fun (_ : Unit) => True) (fun _ t => zW D tc b n S' t.heap) (zF b)) args s 0 0 (zF b)
section ZS
variable {l : Launch} {D : va_G} {tc : Nat → ClassId} {b n : Nat} {y : MethodName} {bytes : ByteArray} {maxL d nargs : Nat} {av : List zV} {S S' : zM}
theorem zMi_of {ty : FieldType} {r : Int32} (Y : zY y bytes maxL (some ty) nargs) (hlen : zlen av ≤ maxL) (body : ∀ (p : Program) (e : Env) (s : State) (m : MethodId) (args : Array Value) (below : List Frame) (meth : Method) (c : Code) (H : Heap), zC p m c bytes maxL s args y.cls D tc → meth.sig.returnType = some ty → meth.locks = false → ∀ ls : Array Slot, zL b ls maxL (zargs 0 av) → zI D tc b n S s H [] → W p l e (zR d) s m args below meth c H [] 0 0 (zQi D tc b n S' r below args s) (zG b m 0 ls [])) : zMi l D tc b n y bytes maxL ty d av S S' r := by
  refine Met.ofW (cc := bytes) (maxL := maxL) (ret := some ty) Y.2.2.2 rfl ?_
  intro p e s m args below meth c s₁ B hml hv
  obtain ⟨rfl, hW, hK⟩ := hv
  have hts := atoms_spec (ws := Cond.code y bytes maxL (some ty) :: zT) B.pre
  have hl := lv_entry (av.map (zv b)) (n := maxL) (by rw [zlen_eq]; exact hlen)
  rw [lg_entry_eq]
  rw [zargs_eq] at hl
  exact body p e s m _ below meth c s.heap ⟨⟨B.exec, B.bytes, hml, findClass_of_methodNamed B.named, fun w hw => hts w (List.mem_cons_of_mem _ hw)⟩, hK⟩ B.returns B.notSynchronized _ hl ⟨hW, va_S.rf⟩
theorem zMl_of {ty : FieldType} {r : Int64} (Y : zY y bytes maxL (some ty) nargs) (hlen : zlen av ≤ maxL) (body : ∀ (p : Program) (e : Env) (s : State) (m : MethodId) (args : Array Value) (below : List Frame) (meth : Method) (c : Code) (H : Heap), zC p m c bytes maxL s args y.cls D tc → meth.sig.returnType = some ty → meth.locks = false → ∀ ls : Array Slot, zL b ls maxL (zargs 0 av) → zI D tc b n S s H [] → W p l e (zR d) s m args below meth c H [] 0 0 (zQl D tc b n S' r below args s) (zG b m 0 ls [])) : zMl l D tc b n y bytes maxL ty d av S S' r := by
  refine Met.ofW (cc := bytes) (maxL := maxL) (ret := some ty) Y.2.2.2 rfl ?_
  intro p e s m args below meth c s₁ B hml hv
  obtain ⟨rfl, hW, hK⟩ := hv
  have hts := atoms_spec (ws := Cond.code y bytes maxL (some ty) :: zT) B.pre
  have hl := lv_entry (av.map (zv b)) (n := maxL) (by rw [zlen_eq]; exact hlen)
  rw [lg_entry_eq]
  rw [zargs_eq] at hl
  exact body p e s m _ below meth c s.heap ⟨⟨B.exec, B.bytes, hml, findClass_of_methodNamed B.named, fun w hw => hts w (List.mem_cons_of_mem _ hw)⟩, hK⟩ B.returns B.notSynchronized _ hl ⟨hW, va_S.rf⟩
theorem zMv_of (Y : zY y bytes maxL none nargs) (hlen : zlen av ≤ maxL) (body : ∀ (p : Program) (e : Env) (s : State) (m : MethodId) (args : Array Value) (below : List Frame) (meth : Method) (c : Code) (H : Heap), zC p m c bytes maxL s args y.cls D tc → meth.sig.returnType = none → meth.locks = false → ∀ ls : Array Slot, zL b ls maxL (zargs 0 av) → zI D tc b n S s H [] → W p l e (zR d) s m args below meth c H [] 0 0 (zQv D tc b n S' below args s) (zG b m 0 ls [])) : zMv l D tc b n y bytes maxL d av S S' := by
  refine Met.ofW (cc := bytes) (maxL := maxL) (ret := none) Y.2.2.2 rfl ?_
  intro p e s m args below meth c s₁ B hml hv
  obtain ⟨rfl, hW, hK⟩ := hv
  have hts := atoms_spec (ws := Cond.code y bytes maxL none :: zT) B.pre
  have hl := lv_entry (av.map (zv b)) (n := maxL) (by rw [zlen_eq]; exact hlen)
  rw [lg_entry_eq]
  rw [zargs_eq] at hl
  exact body p e s m _ below meth c s.heap ⟨⟨B.exec, B.bytes, hml, findClass_of_methodNamed B.named, fun w hw => hts w (List.mem_cons_of_mem _ hw)⟩, hK⟩ B.returns B.notSynchronized _ hl ⟨hW, va_S.rf⟩
end ZS
section ZE
variable {p : Program} {l : Launch} {e : Env} {R : Room} {s : State} {m : MethodId} {args : Array Value} {below : List Frame} {meth : Method} {c : Code} {H : Heap} {locs : List Loc}
variable {cc : ByteArray} {nL : Nat} {own : String} {D : va_G} {tc : Nat → ClassId} {b n : Nat} {S S' : zM} {pc : Nat} {ls : Array Slot}
theorem z_iret {x r : Int32} (C : zC p m c cc nL s args own D tc) (I : zI D tc b n S s H locs) (hr : meth.sig.returnType = some .int) (hk : meth.locks = false) (h : some (x, S) = some (r, S')) (hdg : decode cc pc = .ok (.ireturn, 1)) : W p l e R s m args below meth c H locs 0 0 (zQi D tc b n S' r below args s) (zG b m pc ls [zi x]) := by
  cases h
  exact W.iret (v := x) C.1.1 C.1.2.1 hr (fun t ht hW => ⟨⟨x, (), rfl, rfl, by show zW D tc b n S t.heap; rw [ht]; exact I.1⟩, I.2.F ht⟩) I.2.2.2 hdg hk
theorem z_zret {x r : Int32} (C : zC p m c cc nL s args own D tc) (I : zI D tc b n S s H locs) (hr : meth.sig.returnType = some .boolean) (hk : meth.locks = false) (hb : zbit x = true) (h : some (x, S) = some (r, S')) (hdg : decode cc pc = .ok (.ireturn, 1)) : W p l e R s m args below meth c H locs 0 0 (zQi D tc b n S' r below args s) (zG b m pc ls [zi x]) := by
  cases h
  exact W.zret (v := x) C.1.1 C.1.2.1 hr (zbit_narrow hb).1 (fun t ht hW => ⟨⟨x, (), rfl, rfl, by show zW D tc b n S t.heap; rw [ht]; exact I.1⟩, I.2.F ht⟩) I.2.2.2 hdg hk
theorem z_lret {x r : Int64} (C : zC p m c cc nL s args own D tc) (I : zI D tc b n S s H locs) (hr : meth.sig.returnType = some .long) (hk : meth.locks = false) (h : some (x, S) = some (r, S')) (hdg : decode cc pc = .ok (.lreturn, 1)) : W p l e R s m args below meth c H locs 0 0 (zQl D tc b n S' r below args s) (zG b m pc ls [zl x]) := by
  cases h
  exact W.lret (v := x) C.1.1 C.1.2.1 hr (fun t ht hW => ⟨⟨x, (), rfl, rfl, by show zW D tc b n S t.heap; rw [ht]; exact I.1⟩, I.2.F ht⟩) I.2.2.2 hdg hk
theorem z_vret {a : Int32} {r : Int32} (C : zC p m c cc nL s args own D tc) (I : zI D tc b n S s H locs) (hr : meth.sig.returnType = none) (hk : meth.locks = false) (h : some (a, S) = some (r, S')) (hdg : decode cc pc = .ok (.return_, 1)) : W p l e R s m args below meth c H locs 0 0 (zQv D tc b n S' below args s) (zG b m pc ls []) := by
  cases h
  exact W.vret C.1.1 C.1.2.1 hr (fun t ht hW => ⟨⟨(), rfl, trivial, by show zW D tc b n S t.heap; rw [ht]; exact I.1⟩, I.2.F ht⟩) I.2.2.2 hdg hk
variable {cells slots : Nat} {Q : State → Prop} {y : MethodName} {bytes : ByteArray} {maxL d nargs ix : Nat} {st0 st As : List zV} {S1 : zM}
theorem zcB {ret : Option FieldType} (C : zC p m c cc nL s args own D tc) (Y : zY y bytes maxL ret nargs) (hlink : Cond.methodLink own ix y ∈ zT) (hR : d + 1 ≤ R.frames ∧ 19 + maxL + 32 * d ≤ R.locals) : CallB R s args own ix y bytes maxL ret (Cond.code y bytes maxL ret :: zT) (zR d) 0 0 nargs :=
  callB_of nargs C.1.2.2.2.2 (zT_good (ws := Cond.code y bytes maxL ret :: zT) (fun w hw => (List.mem_cons.mp hw).elim (fun q => q ▸ Y.1) (fun h => h))) rfl rfl rfl (C.1.2.2.2.2 _ Y.2.1) (C.1.2.2.2.2 _ hlink) Y.2.2.1 ⟨hR.1, by show 8 + (maxL + 11) + 32 * d ≤ R.locals; omega⟩
theorem zrecv (C : zC p m c cc nL s args own D tc) (I : zI D tc b n S s H locs) {x : Int32} {ci N : Nat} {T : u_T} (K : zCl ci y.cls T N) (hg : zo n (10 + ci) x = true) : ∃ cell : Cell, H[b + x.toNatClampNeg]? = some cell ∧ cell.vm.isStatics = false ∧ s.vm.findClass y.cls = some cell.cls := by
  obtain ⟨g1, g2, g3⟩ := zo_spec hg
  obtain ⟨cell, q1, q2, q3, -⟩ := (I.1.2 _ g2).2 ci g3
  exact ⟨cell, q1, by rw [q3]; rfl, by rw [q2]; exact (C.2.1.1 ci _ K.1).2.1⟩
theorem zstk {x : Int32} (g1 : ¬ x < 0) (h : st0 = As.reverse ++ zr x :: st) : st0.map (zv b) = (As.map (zv b)).reverse ++ .ref (b + x.toNatClampNeg) :: st.map (zv b) := by
  subst h
  rw [List.map_append, List.map_reverse, List.map_cons]
  show _ ++ zw b x :: _ = _
  rw [zw_ref g1]
theorem zpre {x : Int32} (C : zC p m c cc nL s args own D tc) (I : zI D tc b n S s H locs) (g1 : ¬ x < 0) (U : State) (hU : U.heap = H) (hW : s.WarmedH U.vm) : va_Pc ((zr x :: As).map (zv b)) (zB D tc b n S) (Value.ref (b + x.toNatClampNeg) :: As.map (zv b)).toArray U := by
  refine ⟨?_, by rw [hU]; exact I.1, zKK.moved hW C.2⟩
  rw [List.map_cons]
  show _ = (zw b x :: _).toArray
  rw [zw_ref g1]
theorem z_callVi {ty : FieldType} {r : Int32} {x : Int32} {ci N : Nat} {T : u_T} (C : zC p m c cc nL s args own D tc) (I : zI D tc b n S s H locs) (hM : zMi l D tc b n y bytes maxL ty d (zr x :: As) S S1 r) (Y : zY y bytes maxL (some ty) nargs) (V : zYv y) (K : zCl ci y.cls T N) (hg : zo n (10 + ci) x = true) (hlink : Cond.methodLink own ix y ∈ zT) (hst : st0 = As.reverse ++ zr x :: st) (hn : As.length = nargs) (hR : d + 1 ≤ R.frames ∧ 19 + maxL + 32 * d ≤ R.locals) (hcs : cells ≤ R.cells ∧ slots ≤ R.slots) (hsz : ls.size = nL) (hsum : zsum st ≤ 8) (hdg : decode cc pc = .ok (.invokevirtual ix, 3)) (kk : ∀ (H : Heap) (locs : List Loc), zI D tc b n S1 s H locs → W p l e R s m args below meth c H locs cells slots Q (zG b m (pc + 3) ls (zi r :: st))) : W p l e R s m args below meth c H locs cells slots Q (zG b m pc ls st0) := by
  have g := zo_spec hg
  refine va_calli (va_runV (As := As.map (zv b)) (rest := st.map (zv b)) C.1 hM ⟨zcB C Y hlink hR, C.1.2.2.2.2 _ V.1, C.1.2.2.2.2 _ V.2⟩ ⟨zB.blind, zrecv C I K hg, fun U hU hW => zpre C I g.1 U hU hW⟩ rfl (by rw [List.length_map]; exact hn) hsz (zstk g.1 hst) (lv_room (by rw [zsum_eq]; exact hsum)) hdg hcs) I.2 (fun _ _ h => h) (fun _ h => h) (fun r' u t H1 locs1 ht hvm hp hB _ _ hS => ?_)
  cases hp
  exact kk H1 locs1 ⟨ht ▸ hB, hS⟩
theorem z_callVl {ty : FieldType} {r : Int64} {x : Int32} {ci N : Nat} {T : u_T} (C : zC p m c cc nL s args own D tc) (I : zI D tc b n S s H locs) (hM : zMl l D tc b n y bytes maxL ty d (zr x :: As) S S1 r) (Y : zY y bytes maxL (some ty) nargs) (V : zYv y) (K : zCl ci y.cls T N) (hg : zo n (10 + ci) x = true) (hlink : Cond.methodLink own ix y ∈ zT) (hst : st0 = As.reverse ++ zr x :: st) (hn : As.length = nargs) (hR : d + 1 ≤ R.frames ∧ 19 + maxL + 32 * d ≤ R.locals) (hcs : cells ≤ R.cells ∧ slots ≤ R.slots) (hsz : ls.size = nL) (hsum : zsum st ≤ 8) (hdg : decode cc pc = .ok (.invokevirtual ix, 3)) (kk : ∀ (H : Heap) (locs : List Loc), zI D tc b n S1 s H locs → W p l e R s m args below meth c H locs cells slots Q (zG b m (pc + 3) ls (zl r :: st))) : W p l e R s m args below meth c H locs cells slots Q (zG b m pc ls st0) := by
  have g := zo_spec hg
  refine va_calll (va_runV (As := As.map (zv b)) (rest := st.map (zv b)) C.1 hM ⟨zcB C Y hlink hR, C.1.2.2.2.2 _ V.1, C.1.2.2.2.2 _ V.2⟩ ⟨zB.blind, zrecv C I K hg, fun U hU hW => zpre C I g.1 U hU hW⟩ rfl (by rw [List.length_map]; exact hn) hsz (zstk g.1 hst) (lv_room (by rw [zsum_eq]; exact hsum)) hdg hcs) I.2 (fun _ _ h => h) (fun _ h => h) (fun r' u t H1 locs1 ht hvm hp hB _ _ hS => ?_)
  cases hp
  exact kk H1 locs1 ⟨ht ▸ hB, hS⟩
theorem z_callVv {x : Int32} {ci N : Nat} {T : u_T} (C : zC p m c cc nL s args own D tc) (I : zI D tc b n S s H locs) (hM : zMv l D tc b n y bytes maxL d (zr x :: As) S S1) (Y : zY y bytes maxL none nargs) (V : zYv y) (K : zCl ci y.cls T N) (hg : zo n (10 + ci) x = true) (hlink : Cond.methodLink own ix y ∈ zT) (hst : st0 = As.reverse ++ zr x :: st) (hn : As.length = nargs) (hR : d + 1 ≤ R.frames ∧ 19 + maxL + 32 * d ≤ R.locals) (hcs : cells ≤ R.cells ∧ slots ≤ R.slots) (hsz : ls.size = nL) (hsum : zsum st ≤ 8) (hdg : decode cc pc = .ok (.invokevirtual ix, 3)) (kk : ∀ (H : Heap) (locs : List Loc), zI D tc b n S1 s H locs → W p l e R s m args below meth c H locs cells slots Q (zG b m (pc + 3) ls st)) : W p l e R s m args below meth c H locs cells slots Q (zG b m pc ls st0) := by
  have g := zo_spec hg
  refine va_callv (va_runV (As := As.map (zv b)) (rest := st.map (zv b)) C.1 hM ⟨zcB C Y hlink hR, C.1.2.2.2.2 _ V.1, C.1.2.2.2.2 _ V.2⟩ ⟨zB.blind, zrecv C I K hg, fun U hU hW => zpre C I g.1 U hU hW⟩ rfl (by rw [List.length_map]; exact hn) hsz (zstk g.1 hst) (lv_room (by rw [zsum_eq]; exact hsum)) hdg hcs) I.2 (fun _ _ h => h) (fun _ h => h) (fun u t H1 locs1 ht hvm hp hB _ _ hS => ?_)
  exact kk H1 locs1 ⟨ht ▸ hB, hS⟩
theorem zstkS (h : st0 = As.reverse ++ st) : st0.map (zv b) = (As.map (zv b)).reverse ++ st.map (zv b) := by
  subst h
  rw [List.map_append, List.map_reverse]
theorem zpreS (C : zC p m c cc nL s args own D tc) (I : zI D tc b n S s H locs) (U : State) (hU : U.heap = H) (hW : s.WarmedH U.vm) : va_Pc (As.map (zv b)) (zB D tc b n S) (As.map (zv b)).toArray U := ⟨rfl, by rw [hU]; exact I.1, zKK.moved hW C.2⟩
theorem z_callSi {ty : FieldType} {r : Int32} (C : zC p m c cc nL s args own D tc) (I : zI D tc b n S s H locs) (hM : zMi l D tc b n y bytes maxL ty d As S S1 r) (Y : zY y bytes maxL (some ty) nargs) (V : Cond.static y ∈ zT) (hlink : Cond.methodLink own ix y ∈ zT) (hst : st0 = As.reverse ++ st) (hn : As.length = nargs) (hR : d + 1 ≤ R.frames ∧ 19 + maxL + 32 * d ≤ R.locals) (hcs : cells ≤ R.cells ∧ slots ≤ R.slots) (hsz : ls.size = nL) (hsum : zsum st ≤ 8) (hdg : decode cc pc = .ok (.invokestatic ix, 3)) (kk : ∀ (H : Heap) (locs : List Loc), zI D tc b n S1 s H locs → W p l e R s m args below meth c H locs cells slots Q (zG b m (pc + 3) ls (zi r :: st))) : W p l e R s m args below meth c H locs cells slots Q (zG b m pc ls st0) := by
  refine va_calli (va_runS (As := As.map (zv b)) (rest := st.map (zv b)) C.1 hM ⟨zcB C Y hlink hR, C.1.2.2.2.2 _ V⟩ ⟨zB.blind, fun U hU hW => zpreS C I U hU hW⟩ rfl (by rw [List.length_map]; exact hn) hsz (zstkS hst) (lv_room (by rw [zsum_eq]; exact hsum)) hdg hcs) I.2 (fun _ _ h => h) (fun _ h => h) (fun r' u t H1 locs1 ht hvm hp hB _ _ hS => ?_)
  cases hp
  exact kk H1 locs1 ⟨ht ▸ hB, hS⟩
/-- a call of a private method of the host -/
theorem z_callSNi {ty : FieldType} {r : Int32} {host : String} (C : zC p m c cc nL s args own D tc) (I : zI D tc b n S s H locs) (hM : zMi l D tc b n y bytes maxL ty d As S S1 r) (Y : zY y bytes maxL (some ty) nargs) (V : Cond.static y ∈ zT) (hlink : va_Nw (.methodLinkNest own ix y host) s) (hst : st0 = As.reverse ++ st) (hn : As.length = nargs) (hR : d + 1 ≤ R.frames ∧ 19 + maxL + 32 * d ≤ R.locals) (hcs : cells ≤ R.cells ∧ slots ≤ R.slots) (hsz : ls.size = nL) (hsum : zsum st ≤ 8) (hdg : decode cc pc = .ok (.invokestatic ix, 3)) (kk : ∀ (H : Heap) (locs : List Loc), zI D tc b n S1 s H locs → W p l e R s m args below meth c H locs cells slots Q (zG b m (pc + 3) ls (zi r :: st))) : W p l e R s m args below meth c H locs cells slots Q (zG b m pc ls st0) := by
  have cw : va_CN R s args own ix y host bytes maxL (some ty) (Cond.code y bytes maxL (some ty) :: zT) (zR d) 0 0 nargs := va_cnB nargs C.1.2.2.2.2 (zT_good (ws := Cond.code y bytes maxL (some ty) :: zT) (fun w hw => (List.mem_cons.mp hw).elim (fun q => q ▸ Y.1) (fun h => h))) rfl rfl rfl hlink (C.1.2.2.2.2 _ Y.2.1) Y.2.2.1 ⟨hR.1, by show 8 + (maxL + 11) + 32 * d ≤ R.locals; omega⟩
  refine va_calli (va_runSN (As := As.map (zv b)) (rest := st.map (zv b)) C.1 hM ⟨cw, C.1.2.2.2.2 _ V, trivial⟩ ⟨zB.blind, fun U hU hW => zpreS C I U hU hW⟩ rfl (by rw [List.length_map]; exact hn) hsz (zstkS hst) (lv_room (by rw [zsum_eq]; exact hsum)) hdg hcs) I.2 (fun _ _ h => h) (fun _ h => h) (fun r' u t H1 locs1 ht hvm hp hB _ _ hS => ?_)
  cases hp
  exact kk H1 locs1 ⟨ht ▸ hB, hS⟩
theorem z_callSl {ty : FieldType} {r : Int64} (C : zC p m c cc nL s args own D tc) (I : zI D tc b n S s H locs) (hM : zMl l D tc b n y bytes maxL ty d As S S1 r) (Y : zY y bytes maxL (some ty) nargs) (V : Cond.static y ∈ zT) (hlink : Cond.methodLink own ix y ∈ zT) (hst : st0 = As.reverse ++ st) (hn : As.length = nargs) (hR : d + 1 ≤ R.frames ∧ 19 + maxL + 32 * d ≤ R.locals) (hcs : cells ≤ R.cells ∧ slots ≤ R.slots) (hsz : ls.size = nL) (hsum : zsum st ≤ 8) (hdg : decode cc pc = .ok (.invokestatic ix, 3)) (kk : ∀ (H : Heap) (locs : List Loc), zI D tc b n S1 s H locs → W p l e R s m args below meth c H locs cells slots Q (zG b m (pc + 3) ls (zl r :: st))) : W p l e R s m args below meth c H locs cells slots Q (zG b m pc ls st0) := by
  refine va_calll (va_runS (As := As.map (zv b)) (rest := st.map (zv b)) C.1 hM ⟨zcB C Y hlink hR, C.1.2.2.2.2 _ V⟩ ⟨zB.blind, fun U hU hW => zpreS C I U hU hW⟩ rfl (by rw [List.length_map]; exact hn) hsz (zstkS hst) (lv_room (by rw [zsum_eq]; exact hsum)) hdg hcs) I.2 (fun _ _ h => h) (fun _ h => h) (fun r' u t H1 locs1 ht hvm hp hB _ _ hS => ?_)
  cases hp
  exact kk H1 locs1 ⟨ht ▸ hB, hS⟩
end ZE
