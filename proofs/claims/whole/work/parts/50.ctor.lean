/-! What makes objects: constructors, and the arrays that they lay. -/
def zdt (t : FieldType) : Int32 := match t with
  | .int => 0
  | .boolean => 0
  | _ => -1
def znd (kd j : Nat) : Int32 := match kd with
  | 0 => 0
  | 1 => 0
  | 2 => -1
  | 3 => -1
  | 4 => -1
  | 5 => -1
  | k => zdt (zty (k - 10) j)
def znw (S : zM) (o : Nat) : zM := fun a j => if a = o then znd (zK o).1 j else S a j
theorem znw_row {S : zM} {o : Nat} : znw S o o = fun j => znd (zK o).1 j := by
  funext j
  simp [znw]
theorem znw_ne {S : zM} {o a : Nat} (h : a ≠ o) : znw S o a = S a := by
  funext j
  simp [znw, h]
def znk (n kd len : Nat) : Bool := decide (n < 1000) && decide (zK n = (kd, len))
theorem znk_spec {n kd len : Nat} (h : znk n kd len = true) : n < 1000 ∧ zK n = (kd, len) := by
  simp only [znk, Bool.and_eq_true, decide_eq_true_eq] at h
  exact h
def z4 (t : FieldType) : Bool := match t with
  | .int => true
  | .boolean => true
  | .object _ => true
  | .array _ => true
  | _ => false
theorem z4_spec {t : FieldType} (b : Nat) (h : z4 t = true) : defaultValue t = zv b (zfv t (zdt t)) := by
  cases t <;> first | rfl | cases h
theorem zdn (t : Nat) : ¬ nI t < 0 ∨ 2147483648 ≤ t := by
  by_cases h : t < 2 ^ 31
  · exact Or.inl (nI_pos h)
  · exact Or.inr (by omega)
theorem zw_nI (b : Nat) {n : Nat} (h : n < 1000) : zw b (nI n) = .ref (b + n) := by
  rw [zw_ref (nI_pos (by omega)), nI_clamp (by omega)]
theorem zI.push {D : va_G} {tc : Nat → ClassId} {b n : Nat} {S : zM} {s : State} {H H1 : Heap} {locs : List Loc} (I : zI D tc b n S s H locs) (z : H1.size = H.size + 1) (oq : ∀ q : Nat, q < H.size → H1[q]? = H[q]?) (hc : zcell D tc b n (znw S n n) H1) : zI D tc b (n + 1) (znw S n) s H1 locs := by
  have hsz := I.1.1
  refine ⟨⟨by omega, fun a ha => ?_⟩, ⟨by have := I.2.1; omega, fun q h1 h2 => (oq q (Nat.lt_of_lt_of_le h1 I.2.1)).trans (I.2.2.1 q h1 h2), I.2.2.2⟩⟩
  by_cases e : a = n
  · subst e
    exact hc
  · rw [znw_ne e]
    exact (I.1.2 a (by omega)).kept (oq _ (by omega))
def zRc (d mc ms : Nat) : Room := { frames := d, cells := mc, slots := ms, locals := 32 * d }
def zMc (l : Launch) (D : va_G) (tc : Nat → ClassId) (b n : Nat) (y : MethodName) (bytes : ByteArray) (maxL d mc ms : Nat) (av : List zV) (S : zM) (n' : Nat) (S' : zM) : Prop := Met l y (Cond.code y bytes maxL none :: zT) (zRc d mc ms) (va_Pc (av.map (zv b)) (zB D tc b n S)) (va_Qv (fun (_ : Unit) => True) (fun _ t => zW D tc b n' S' t.heap) (zF b)) mc ms (zF b)
def zQc (D : va_G) (tc : Nat → ClassId) (b n' : Nat) (S' : zM) (mc ms : Nat) (below : List Frame) (args : Array Value) (s : State) : State → Prop := MQ below (va_Qv (fun (_ : Unit) => True) (fun _ t => zW D tc b n' S' t.heap) (zF b)) args s mc ms (zF b)
theorem zMc_of {l : Launch} {D : va_G} {tc : Nat → ClassId} {b n : Nat} {y : MethodName} {bytes : ByteArray} {maxL d nargs mc ms : Nat} {av : List zV} {S S' : zM} {n' : Nat} (Y : zY y bytes maxL none nargs) (hlen : zlen av ≤ maxL) (body : ∀ (p : Program) (e : Env) (s : State) (m : MethodId) (args : Array Value) (below : List Frame) (meth : Method) (c : Code) (H : Heap), zC p m c bytes maxL s args y.cls D tc → meth.sig.returnType = none → meth.locks = false → meth.name = y.name → ∀ ls : Array Slot, zL b ls maxL (zargs 0 av) → zI D tc b n S s H [] → W p l e (zRc d mc ms) s m args below meth c H [] 0 0 (zQc D tc b n' S' mc ms below args s) (zG b m 0 ls [])) : zMc l D tc b n y bytes maxL d mc ms av S n' S' := by
  refine Met.ofW (cc := bytes) (maxL := maxL) (ret := none) Y.2.2.2 rfl ?_
  intro p e s m args below meth c s₁ B hml hv
  obtain ⟨rfl, hW, hK⟩ := hv
  have hts := atoms_spec (ws := Cond.code y bytes maxL none :: zT) B.pre
  have hl := lv_entry (av.map (zv b)) (n := maxL) (by rw [zlen_eq]; exact hlen)
  rw [lg_entry_eq]
  rw [zargs_eq] at hl
  exact body p e s m _ below meth c s.heap ⟨⟨B.exec, B.bytes, hml, findClass_of_methodNamed B.named, fun w hw => hts w (List.mem_cons_of_mem _ hw)⟩, hK⟩ B.returns B.notSynchronized (name_of_methodNamed B.named B.method).1 _ hl ⟨hW, va_S.rf⟩
section ZK
variable {p : Program} {l : Launch} {e : Env} {R : Room} {s : State} {m : MethodId} {args : Array Value} {below : List Frame} {meth : Method} {c : Code} {H : Heap} {locs : List Loc} {cells slots : Nat} {Q : State → Prop}
variable {cc : ByteArray} {nL : Nat} {own : String} {D : va_G} {tc : Nat → ClassId} {b n : Nat} {S : zM} {pc : Nat} {ls : Array Slot} {st : List zV}
theorem z_cret {n' : Nat} {S' : zM} {mc ms : Nat} (C : zC p m c cc nL s args own D tc) (I : zI D tc b n S s H locs) (hr : meth.sig.returnType = none) (hk : meth.locks = false) (h : some (n, S) = some (n', S')) (hc : cells ≤ mc) (hs : slots ≤ ms) (hdg : decode cc pc = .ok (.return_, 1)) : W p l e R s m args below meth c H locs cells slots (zQc D tc b n' S' mc ms below args s) (zG b m pc ls []) := by
  cases h
  refine W.widen hc hs ?_
  exact W.vret C.1.1 C.1.2.1 hr (fun t ht hW => ⟨⟨(), rfl, trivial, by show zW D tc b n S t.heap; rw [ht]; exact I.1⟩, I.2.F ht⟩) I.2.2.2 hdg hk
theorem z_objInit (C : zC p m c cc nL s args own D tc) {x : Int32} {ix : Nat} (hx : decide (¬ x < 0) = true) (hlink : Cond.methodLink own ix objectInit ∈ zT) (hinst : Cond.instanceMethod objectInit ∈ zT) (hcode : Cond.code objectInit ⟨#[0xb1]⟩ 1 none ∈ zT) (hsz : ls.size = nL) (hfr : 1 ≤ R.frames) (hlo : zsum st + 12 ≤ R.locals) (hdg : decode cc pc = .ok (.invokespecial ix, 3)) (kk : W p l e R s m args below meth c H locs cells slots Q (zG b m (pc + 3) ls st)) : W p l e R s m args below meth c H locs cells slots Q (zG b m pc ls (zr x :: st)) := by
  show W p l e R s m args below meth c H locs cells slots Q (F0 m pc ls (zw b x :: st.map (zv b)))
  rw [zw_ref (of_decide_eq_true hx)]
  exact W.objInit C.1.1 C.1.2.1 C.1.2.2.2.1 (C.1.2.2.2.2 _ hlink) (C.1.2.2.2.2 _ hinst) (C.1.2.2.2.2 _ hcode) rfl (hsz.trans C.1.2.2.1.symm) rfl hdg hfr (by rw [zsum_eq]; show 2 * 0 + _ + 12 ≤ _; omega) kk
theorem z_new (C : zC p m c cc nL s args own D tc) (I : zI D tc b n S s H locs) (ci : Nat) {CN : String} {T : u_T} {N ix : Nat} (Y : zCl ci CN T N) (hg : znk n (10 + ci) 0 = true) (h4 : ∀ k, k < N → z4 (zty ci k) = true) (hnd : ∀ k, k < N → znd (10 + ci) k = zdt (zty ci k)) (hlink : Cond.classLink own ix CN ∈ zT) (hinst : Cond.instantiable CN N ∈ zT) (hini : Cond.initialized CN ∈ zT) (hcells : cells + 1 ≤ R.cells) (hslots : slots + N ≤ R.slots) (hdg : decode cc pc = .ok (.new ix, 3)) (kk : ∀ S1 : zM, S1 = znw S n → ∀ H : Heap, zI D tc b (n + 1) S1 s H locs → W p l e R s m args below meth c H locs (cells + 1) (slots + N) Q (zG b m (pc + 3) ls (zr (nI n) :: st))) : W p l e R s m args below meth c H locs cells slots Q (zG b m pc ls st) := by
  obtain ⟨g1, g2⟩ := znk_spec hg
  obtain ⟨Y1, Y2, Y3, Y4, Y5⟩ := Y
  have hKn := C.2.1.1 ci _ Y1
  have hsz := I.1.1
  refine W.newcK C.1.1 C.1.2.1 C.1.2.2.2.1 (C.1.2.2.2.2 _ hlink) (C.1.2.2.2.2 _ hinst) (C.1.2.2.2.2 _ hini) rfl hdg hcells hslots hKn.2.1 hsz fun H1 kC hkC e1 z1 o1 => ?_
  have hz1 : H1.size = H.size + 1 := by rw [z1, hsz]
  have I1 := I.push (H1 := H1) hz1 (fun q hq => o1 q (by rw [← hsz]; exact hq)) ⟨fun h => absurd h (by rw [g2]; show ¬ 10 + ci < 10; omega), fun ci' h => by
    have e2 : ci' = ci := by
      rw [g2] at h
      have h' : 10 + ci = 10 + ci' := h
      omega
    subst e2
    have hb := u_born (zty ci') C.1.2.2.2.2 Y2 hKn hkC e1 Y4
    rw [Y3]
    refine hb.to (fun j hj => ?_)
    rw [znw_row, g2]
    show _ = zv b (zfv (zty ci' j) (znd (10 + ci') j))
    rw [hnd j hj]
    exact z4_spec b (h4 j hj)⟩
  have k1 := kk _ rfl H1 I1
  have e3 : (zG b m (pc + 3) ls (zr (nI n) :: st)) = F0 m (pc + 3) ls (.ref (b + n) :: st.map (zv b)) := by
    show F0 m (pc + 3) ls (zw b (nI n) :: st.map (zv b)) = _
    rw [zw_nI b g1]
  rw [e3] at k1
  exact k1
theorem z_newa (C : zC p m c cc nL s args own D tc) (I : zI D tc b n S s H locs) (kd : Nat) {atype : ArrayType} {len : Nat} {x : Int32} (hkd : (kd = 0 ∧ atype = .int) ∨ (kd = 1 ∧ atype = .boolean)) (hg : znk n kd len = true) (hx : ¬ x < 0) (hlen : x.toNatClampNeg = len) (hsm : len ≤ 1000) (harr : Cond.arrayClass (newarray.typeOf atype) ∈ zT) (hcells : cells + 1 ≤ R.cells) (hslots : slots + len ≤ R.slots) (hdg : decode cc pc = .ok (.newarray atype, 2)) (kk : ∀ S1 : zM, S1 = znw S n → ∀ H : Heap, zI D tc b (n + 1) S1 s H locs → W p l e R s m args below meth c H locs (cells + 1) (slots + len) Q (zG b m (pc + 2) ls (zr (nI n) :: st))) : W p l e R s m args below meth c H locs cells slots Q (zG b m pc ls (zi x :: st)) := by
  obtain ⟨g1, g2⟩ := znk_spec hg
  have hsz := I.1.1
  have hcb : componentBytes (newarray.typeOf atype) ≤ 4 := by
    rcases hkd with ⟨-, rfl⟩ | ⟨-, rfl⟩ <;> decide +kernel
  refine va_newaK C.1.1 C.1.2.1 (C.1.2.2.2.2 _ harr) rfl hdg rfl hx hlen (Nat.le_trans (Nat.mul_le_mul hsm hcb) (by decide)) hcells hslots hsz fun H1 cA e1 z1 o1 hAr hNm => ?_
  have ecA : cA = tc kd := by
    rcases hkd with ⟨rfl, rfl⟩ | ⟨rfl, rfl⟩
    · exact Option.some.inj (hNm.symm.trans (C.2.ty (kd := 0) (by decide)).2)
    · exact Option.some.inj (hNm.symm.trans (C.2.ty (kd := 1) (by decide)).2)
  have hz1 : H1.size = H.size + 1 := by rw [z1, hsz]
  have hlt : kd < 10 := by omega
  have I1 := I.push (H1 := H1) hz1 (fun q hq => o1 q (by rw [← hsz]; exact hq)) ⟨fun _ => by
    rw [e1, ecA, znw_row, g2]
    refine congrArg some (congrArg (arrV _ _) (funext fun j => ?_))
    rcases hkd with ⟨rfl, rfl⟩ | ⟨rfl, rfl⟩ <;> rfl, fun ci h => absurd h (by rw [g2]; show ¬ kd = 10 + ci; omega)⟩
  have k1 := kk _ rfl H1 I1
  have e3 : (zG b m (pc + 2) ls (zr (nI n) :: st)) = F0 m (pc + 2) ls (.ref (b + n) :: st.map (zv b)) := by
    show F0 m (pc + 2) ls (zw b (nI n) :: st.map (zv b)) = _
    rw [zw_nI b g1]
  rw [e3] at k1
  exact k1
theorem z_newq (C : zC p m c cc nL s args own D tc) (I : zI D tc b n S s H locs) (kd : Nat) {CN : String} {len ix : Nat} {x : Int32} (hkd : (kd = 2 ∧ CN = RX3) ∨ (kd = 3 ∧ CN = RX6) ∨ (kd = 4 ∧ CN = RX2)) (hg : znk n kd len = true) (hx : ¬ x < 0) (hlen : x.toNatClampNeg = len) (hsm : len ≤ 1000) (hlink : Cond.classLink own ix CN ∈ zT) (hover : va_AO CN s) (hcells : cells + 1 ≤ R.cells) (hslots : slots + len ≤ R.slots) (hdg : decode cc pc = .ok (.anewarray ix, 3)) (kk : ∀ S1 : zM, S1 = znw S n → ∀ H : Heap, zI D tc b (n + 1) S1 s H locs → W p l e R s m args below meth c H locs (cells + 1) (slots + len) Q (zG b m (pc + 3) ls (zr (nI n) :: st))) : W p l e R s m args below meth c H locs cells slots Q (zG b m pc ls (zi x :: st)) := by
  subst hlen
  obtain ⟨g1, g2⟩ := znk_spec hg
  have hsz := I.1.1
  refine W.anew C.1.1 C.1.2.1 C.1.2.2.2.1 (C.1.2.2.2.2 _ hlink) (va_AO.use hover) rfl hdg rfl hx (by omega) hcells hslots fun cA kA comp f1 f2 f3 f4 => ?_
  have hae : zae kd = .object CN := by
    rcases hkd with ⟨rfl, rfl⟩ | ⟨rfl, rfl⟩ | ⟨rfl, rfl⟩ <;> rfl
  have ecA : cA = tc kd := by
    have h2 := (C.2.ty (kd := kd) (by omega)).2
    rw [hae] at h2
    obtain ⟨kA', comp', -, -, -, q4⟩ := h2
    exact Option.some.inj (f1.symm.trans q4)
  have I1 := I.push (H1 := H.push ({ cls := cA, slots := Array.replicate x.toNatClampNeg .null, vm := .none } : Cell)) (Array.size_push ..) (fun q hq => by rw [Array.getElem?_push, if_neg (Nat.ne_of_lt hq)]) ⟨fun _ => by
    rw [← hsz, Array.getElem?_push_size, arrV_new, ecA, znw_row, g2]
    refine congrArg some (congrArg (arrV _ _) (funext fun j => ?_))
    rcases hkd with ⟨rfl, rfl⟩ | ⟨rfl, rfl⟩ | ⟨rfl, rfl⟩ <;> rfl, fun ci h => absurd h (by rw [g2]; show ¬ kd = 10 + ci; omega)⟩
  have k1 := kk _ rfl _ I1
  have e3 : (zG b m (pc + 3) ls (zr (nI n) :: st)) = F0 m (pc + 3) ls (.ref H.size :: st.map (zv b)) := by
    show F0 m (pc + 3) ls (zw b (nI n) :: st.map (zv b)) = _
    rw [zw_nI b g1, hsz]
  rw [e3] at k1
  exact k1
theorem z_putF (C : zC p m c cc nL s args own D tc) (I : zI D tc b n S s H locs) {x y : Int32} (ci k : Nat) {CN : String} {T : u_T} {N ix : Nat} (Y : zCl ci CN T N) (hg : zo n (10 + ci) x = true) (hk : k < N) (hfin : (T k).2.2.2 = true) (hin2 : meth.name = "<init>") (hdecl : (T k).1 = own) (hlink : Cond.fieldLink own ix (T k).1 (T k).2.1 (T k).2.2.1 ∈ zT) (hok : ztok (zty ci k) y = true) {v : zV} (hv : zfv (zty ci k) y = v) (hdg : decode cc pc = .ok (.putfield ix, 3)) (kk : ∀ S1 : zM, S1 = zp S x k y → ∀ (H : Heap) (locs : List Loc), zI D tc b n S1 s H locs → W p l e R s m args below meth c H locs cells slots Q (zG b m (pc + 3) ls st)) : W p l e R s m args below meth c H locs cells slots Q (zG b m pc ls (v :: zr x :: st)) := by
  obtain ⟨g1, g2, g3⟩ := zo_spec hg
  obtain ⟨Y1, Y2, Y3, Y4, Y5⟩ := Y
  obtain ⟨cell, q1, q2, q3, q4⟩ := (I.1.2 _ g2).2 ci g3
  have hap := va_apart (own := own) C.1.2.2.2.2 Y2 (zty ci) Y4 Y5 C.2.1 Y1
  obtain ⟨hS, hfc, kC, hkC, hkind⟩ := C.2.1.1 ci _ Y1
  obtain ⟨cf, kf, fi, f, hi, hsl⟩ := hS k hk
  have hlay := C.1.2.2.2.2 _ (Y2 _ (u_in_lay hk))
  unfold u_lay at hlay
  rw [if_pos hfin] at hlay
  have hst := (u_facts hfc hkC (u_lays C.1.2.2.2.2 Y2 hk) hi).1
  have hcf : m.cls = cf := by
    obtain ⟨_, _, c', _, _, _, -, -, hf', -, -, -, hown2, -⟩ := Cond.laysFinal_spec hlay
    have w1 : c' = cf := by
      have h9 := hi.symm.trans hf'
      simp at h9
      exact h9.1.symm
    rw [hdecl] at hown2
    rw [← w1]
    exact Option.some.inj (C.1.2.2.2.1.symm.trans hown2)
  obtain ⟨hn, hfit⟩ := ztok_spec b hok
  have h6 := u_fits hfc hkC hkind (Or.inr hlay) hi (Y4 k hk) hn hfit
  subst hv
  show W p l e R s m args below meth c H locs cells slots Q (F0 m pc ls (zv b (zfv (zty ci k) y) :: zw b x :: st.map (zv b)))
  rw [zw_ref g1]
  have hN : ∀ k, k < zN ci → k < N := fun k h => by rw [← Y3]; exact h
  refine W.putFinK C.1.1 C.1.2.1 C.1.2.2.2.1 (C.1.2.2.2.2 _ hlink) hi hst hcf hin2 (by rw [q2]; exact h6) q1 q3 (by rw [hsl]; exact k2_hasslot (q4 k (by rw [Y3]; exact hk))) rfl rfl hdg fun H' e1 e2 e3 => ?_
  rw [hsl] at e1 ⊢
  refine kk _ rfl H' _ (I.put e2 e3 ⟨fun h => absurd h (by rw [g3]; omega), fun ci' h => ?_⟩ _)
  have hci : ci' = ci := by omega
  subst hci
  refine t_OB.to (V := updV (fun j => zv b (zfv (zty ci' j) (S x.toNatClampNeg j))) k (zv b (zfv (zty ci' k) y))) ⟨_, e1, q2, q3, t_set q4 (fun i j hi hj hne => hap i j (hN i hi) (hN j hj) hne) (by rw [Y3]; exact hk) _⟩ (fun j _ => ?_)
  by_cases hj : j = k
  · subst hj
    simp [updV, zup]
  · simp [updV, zup, hj]
theorem z_aast (C : zC p m c cc nL s args own D tc) (I : zI D tc b n S s H locs) {x i y : Int32} (kd ci : Nat) {CN : String} {T : u_T} {N : Nat} (Y : zCl ci CN T N) (hkd : (kd = 2 ∧ CN = RX3) ∨ (kd = 3 ∧ CN = RX6) ∨ (kd = 4 ∧ CN = RX2)) (hg : za n kd x i = true) (hy : zo n (10 + ci) y = true) (hdg : decode cc pc = .ok (.aastore, 1)) (kk : ∀ S1 : zM, S1 = zq S x i y → ∀ (H : Heap) (locs : List Loc), zI D tc b n S1 s H locs → W p l e R s m args below meth c H locs cells slots Q (zG b m (pc + 1) ls st)) : W p l e R s m args below meth c H locs cells slots Q (zG b m pc ls (zr y :: zi i :: zr x :: st)) := by
  obtain ⟨g0, g4, g5⟩ := za_spec hg
  obtain ⟨g1, g2, g3⟩ := zo_spec g0
  obtain ⟨y1, y2, y3⟩ := zo_spec hy
  have hc := (I.1.2 _ g2).1 (by rw [g3]; omega)
  rw [g3] at hc
  obtain ⟨cellV, q1, q2, q3, -⟩ := (I.1.2 _ y2).2 ci y3
  have hcls := (C.2.1.1 ci _ Y.1).2
  have hae : zae kd = .object CN := by
    rcases hkd with ⟨rfl, rfl⟩ | ⟨rfl, rfl⟩ | ⟨rfl, rfl⟩ <;> rfl
  have h2 := (C.2.ty (kd := kd) (by omega)).2
  rw [hae] at h2
  obtain ⟨kA, comp, k1, k2, k3, -⟩ := h2
  have hcomp : comp = D.1 ci := Option.some.inj (k3.symm.trans hcls.1)
  subst hcomp
  obtain ⟨kC, hkC, -⟩ := hcls.2
  show W p l e R s m args below meth c H locs cells slots Q (F0 m pc ls (zw b y :: .int i :: zw b x :: st.map (zv b)))
  rw [zw_ref g1, zw_ref y1]
  refine W.aast C.1.1 C.1.2.1 hc (fun q h => by cases h) (fun h => by cases h) k1 k2 rfl hkC ⟨g4, by rw [arrV_size]; exact g5⟩ q1 (fun q h => by rw [q3] at h; cases h) (by rw [q2]; exact hkC) (by rw [q2]; exact va_assign hcls) rfl rfl hdg fun H' e1 e2 e3 => ?_
  refine kk _ rfl H' _ (I.put e2 e3 ⟨fun _ => ?_, fun ci' h => absurd h (by rw [g3]; omega)⟩ _)
  rw [e1, arrV_store, g3]
  have hav : ∀ z : Int32, zv b (zav kd z) = zw b z := by
    intro z
    rcases hkd with ⟨rfl, -⟩ | ⟨rfl, -⟩ | ⟨rfl, -⟩ <;> rfl
  refine congrArg some (congrArg (arrV _ _) (funext fun j => ?_))
  by_cases hj : j = i.toNatClampNeg
  · subst hj
    simp [updV, zup, hav, zw_ref y1]
  · simp [updV, zup, hj]
variable {y : MethodName} {bytes : ByteArray} {maxL d nargs ix mc ms n1 : Nat} {st0 As : List zV} {S1 : zM}
theorem z_callC {x : Int32} (C : zC p m c cc nL s args own D tc) (I : zI D tc b n S s H locs) (hM : zMc l D tc b n y bytes maxL d mc ms (zr x :: As) S n1 S1) (Y : zY y bytes maxL none nargs) (V : Cond.instanceMethod y ∈ zT) (hname : y.name = "<init>") (hx : decide (¬ x < 0) = true) (hlink : Cond.methodLink own ix y ∈ zT) (hst : st0 = As.reverse ++ zr x :: st) (hn : As.length = nargs) (hR : d + 1 ≤ R.frames ∧ 19 + maxL + 32 * d ≤ R.locals) (hcs : cells + mc ≤ R.cells ∧ slots + ms ≤ R.slots) (hsz : ls.size = nL) (hsum : zsum st ≤ 8) (hdg : decode cc pc = .ok (.invokespecial ix, 3)) (kk : ∀ (H : Heap) (locs : List Loc), zI D tc b n1 S1 s H locs → W p l e R s m args below meth c H locs (cells + mc) (slots + ms) Q (zG b m (pc + 3) ls st)) : W p l e R s m args below meth c H locs cells slots Q (zG b m pc ls st0) := by
  have g := of_decide_eq_true hx
  have cb : CallB R s args own ix y bytes maxL none (Cond.code y bytes maxL none :: zT) (zRc d mc ms) mc ms nargs := callB_of nargs C.1.2.2.2.2 (zT_good (ws := Cond.code y bytes maxL none :: zT) (fun w hw => (List.mem_cons.mp hw).elim (fun q => q ▸ Y.1) (fun h => h))) rfl rfl rfl (C.1.2.2.2.2 _ Y.2.1) (C.1.2.2.2.2 _ hlink) Y.2.2.1 ⟨hR.1, by show 8 + (maxL + 11) + 32 * d ≤ R.locals; omega⟩
  refine va_callv (va_runI (As := As.map (zv b)) (rest := st.map (zv b)) C.1 hM ⟨cb, hname, C.1.2.2.2.2 _ V⟩ ⟨zB.blind, fun U hU hW => zpre C I g U hU hW⟩ rfl (by rw [List.length_map]; exact hn) hsz (zstk g hst) (lv_room (by rw [zsum_eq]; exact hsum)) hdg hcs) I.2 (fun _ _ h => h) (fun _ h => h) (fun u t H1 locs1 ht hvm hp hB _ _ hS => ?_)
  exact kk H1 locs1 ⟨ht ▸ hB, hS⟩
theorem z_callCN {x : Int32} {host : String} (C : zC p m c cc nL s args own D tc) (I : zI D tc b n S s H locs) (hM : zMc l D tc b n y bytes maxL d mc ms (zr x :: As) S n1 S1) (Y : zY y bytes maxL none nargs) (V : Cond.instanceMethod y ∈ zT) (hname : y.name = "<init>") (hx : decide (¬ x < 0) = true) (hlink : va_Nw (.methodLinkNest own ix y host) s) (hst : st0 = As.reverse ++ zr x :: st) (hn : As.length = nargs) (hR : d + 1 ≤ R.frames ∧ 19 + maxL + 32 * d ≤ R.locals) (hcs : cells + mc ≤ R.cells ∧ slots + ms ≤ R.slots) (hsz : ls.size = nL) (hsum : zsum st ≤ 8) (hdg : decode cc pc = .ok (.invokespecial ix, 3)) (kk : ∀ (H : Heap) (locs : List Loc), zI D tc b n1 S1 s H locs → W p l e R s m args below meth c H locs (cells + mc) (slots + ms) Q (zG b m (pc + 3) ls st)) : W p l e R s m args below meth c H locs cells slots Q (zG b m pc ls st0) := by
  have g := of_decide_eq_true hx
  have cw : va_CN R s args own ix y host bytes maxL none (Cond.code y bytes maxL none :: zT) (zRc d mc ms) mc ms nargs := va_cnB nargs C.1.2.2.2.2 (zT_good (ws := Cond.code y bytes maxL none :: zT) (fun w hw => (List.mem_cons.mp hw).elim (fun q => q ▸ Y.1) (fun h => h))) rfl rfl rfl hlink (C.1.2.2.2.2 _ Y.2.1) Y.2.2.1 ⟨hR.1, by show 8 + (maxL + 11) + 32 * d ≤ R.locals; omega⟩
  refine va_callv (va_runIN (As := As.map (zv b)) (rest := st.map (zv b)) C.1 hM ⟨cw, hname, C.1.2.2.2.2 _ V⟩ ⟨zB.blind, fun U hU hW => zpre C I g U hU hW⟩ rfl (by rw [List.length_map]; exact hn) hsz (zstk g hst) (lv_room (by rw [zsum_eq]; exact hsum)) hdg hcs) I.2 (fun _ _ h => h) (fun _ h => h) (fun u t H1 locs1 ht hvm hp hB _ _ hS => ?_)
  exact kk H1 locs1 ⟨ht ▸ hB, hS⟩
end ZK
