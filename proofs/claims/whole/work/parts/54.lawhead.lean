/-! THE CLAIM OUT OF ONE WALK OF THE LAW'S BODY. Your part is whole_start (and what it stands on); all else here is the same for every law, but numbers. -/
def R_law : String := "FleetSlotsLaw"
def lw_P (b : Addr) (xs : List Int32) (args : Array Value) (s : State) : Prop := args = #[.ref b] ∧ s.IntsAt b xs ∧ xs.length ≤ 3072 ∧ (Jvm.Cond.and given_1 narrow_1).before args s = true
def lw_Q (_ : Array Value) (s : State) (o : Outcome) (t : State) : Prop := o = .returned (some (.int 1)) ∧ Framed s o t [] 600000 7302250
def lw_Z (below : List Frame) (a : Array Value) (s : State) : State → Prop := fun t => ∃ o, t.status = .running ∧ Ended t below o ∧ lw_Q a s o t
/-- the law's own end, with 1 on the stack, nothing written that was there before, its room as the claim has it -/
theorem lw_ret {p : Program} {l : Launch} {e : Env} {s : State} {m : MethodId} {below : List Frame} {meth : Method} {c : Code} {b : Nat} (hx : p.tables.exec = Jvm.exec) (hb : c.code = code) (hr : meth.sig.returnType = ret) (hlocks : meth.locks = false) {pc : Nat} {H : Heap} {ls : Array Slot} (hdg : decode code pc = .ok (.ireturn, 1)) : W p l e room_1 s m #[Value.ref b] below meth c H [] 600000 7302250 (lw_Z below #[Value.ref b] s) (F0 m pc ls [.int 1]) := by
  intro T hT X
  obtain ⟨fs, hret, hrun, hended, hW, hframe⟩ := X.leave (v := some (.int 1)) (hlocks := hlocks) (fun h => by rw [hr] at h; cases h)
  have hmeth' : T.vm.method? m = some meth := X.method'
  refine ⟨T.setFrames fs, ?_, .returned (some (.int 1)), hrun, hended, rfl, ⟨_, rfl⟩, hW, hframe⟩
  jvm_step X.here [X.here.top, hx, hb, hdg, hmeth', hr, ret, narrow_b1]
  (try refine ⟨rfl, ?_⟩); (try refine ⟨rfl, ?_⟩)
  first | (intro acts; rw [hret _ acts rfl rfl rfl]) | rw [hret _ _ rfl rfl rfl]
  exact Steps.refl _
/-- what holds at the law's entry: the machine, the code, the tables' words (any of lw_tbl by 'hts w (by decide +kernel)'), the script of L ints xs at the cell b, what the Statement gives of the start (any of its parts by flat_of_before) -/
def lw_At (p : Program) (s : State) (m : MethodId) (meth : Method) (c : Code) (b L : Nat) (xs : Nat → Int32) : Prop :=
  p.tables.exec = Jvm.exec ∧ c.code = code ∧ meth.sig.returnType = ret ∧ c.maxLocals = 4 ∧ s.vm.findClass R_law = some m.cls ∧ (∀ w ∈ lw_tbl, w.before #[Value.ref b] s = true) ∧ va_X b L xs s s.heap ∧ b < s.heap.size ∧ meth.locks = false ∧ (Jvm.Cond.and given_1 narrow_1).before #[Value.ref b] s = true
def zsl (L : Nat) (i : Int32) : Bool := decide (¬ i < 0) && decide (i.toNatClampNeg < L)
section ZLW
variable {p : Program} {l : Launch} {e : Env} {R : Room} {s : State} {m : MethodId} {args : Array Value} {below : List Frame} {meth : Method} {c : Code} {H : Heap} {locs : List Loc} {cells slots : Nat} {Q : State → Prop}
variable {cc : ByteArray} {nL : Nat} {own : String} {D : va_G} {tc : Nat → ClassId} {b n : Nat} {S : zM} {pc : Nat} {ls : Array Slot} {st : List zV} {lv : List (Nat × zV)} {b0 L : Nat} {xs : Nat → Int32}
theorem z_aload_s (C : zC p m c cc nL s args own D tc) (hl : zL b ls nL lv) (k : Nat) {kf : Fin 4} {i a : Nat} (hk : lv[k]? = some (i, zs a)) (hdg : decode cc pc = .ok (.aload_n kf, 1)) (hi : (kf : Nat) = i) (kk : W p l e R s m args below meth c H locs cells slots Q (zG b m (pc + 1) ls (zs a :: st))) : W p l e R s m args below meth c H locs cells slots Q (zG b m pc ls st) :=
  lv_aload_n C.1.1 C.1.2.1 hdg hi (zL_at hl k hk) kk
theorem z_slen (C : zC p m c cc nL s args own D tc) (hX : va_X b0 L xs s s.heap) (hbl : b0 < b) (hb : b = s.heap.size) (I : zI D tc b n S s H locs) (hdg : decode cc pc = .ok (.arraylength, 1)) (kk : W p l e R s m args below meth c H locs cells slots Q (zG b m (pc + 1) ls (zi (nI L) :: st))) : W p l e R s m args below meth c H locs cells slots Q (zG b m pc ls (zs b0 :: st)) :=
  va_slen C.1.1 C.1.2.1 hX (hb ▸ hbl) (Nat.not_le.mpr hbl) I.2 hdg kk
theorem z_sld (C : zC p m c cc nL s args own D tc) (hX : va_X b0 L xs s s.heap) (hbl : b0 < b) (hb : b = s.heap.size) (I : zI D tc b n S s H locs) {i : Int32} (hg : zsl L i = true) (hdg : decode cc pc = .ok (.iaload, 1)) (kk : W p l e R s m args below meth c H locs cells slots Q (zG b m (pc + 1) ls (zi (xs i.toNatClampNeg) :: st))) : W p l e R s m args below meth c H locs cells slots Q (zG b m pc ls (zi i :: zs b0 :: st)) := by
  simp only [zsl, Bool.and_eq_true, decide_eq_true_eq] at hg
  exact va_sld C.1.1 C.1.2.1 hX (hb ▸ hbl) (Nat.not_le.mpr hbl) I.2 (fun q => q.elim hg.1 (fun h => absurd hg.2 (Nat.not_lt.mpr h))) hdg kk
end ZLW
theorem z_lawret {p : Program} {l : Launch} {e : Env} {s : State} {m : MethodId} {below : List Frame} {meth : Method} {c : Code} {H : Heap} {locs : List Loc} {cells slots : Nat} {D : va_G} {tc : Nat → ClassId} {b b0 n : Nat} {S : zM} {pc : Nat} {ls : Array Slot} (C : zC p m c code 4 s #[Value.ref b0] R_law D tc) (I : zI D tc b n S s H locs) (hb : b = s.heap.size) (hr : meth.sig.returnType = ret) (hk : meth.locks = false) (hcs : cells ≤ room_1.cells ∧ slots ≤ room_1.slots) (hdg : decode code pc = .ok (.ireturn, 1)) : W p l e room_1 s m #[Value.ref b0] below meth c H locs cells slots (lw_Z below #[Value.ref b0] s) (zG b m pc ls [zi 1]) :=
  va_forget (fun q hq => by rw [← hb]; exact I.2.2.2 q hq) (W.widen hcs.1 hcs.2 (lw_ret C.1.1 C.1.2.1 hr hk hdg))
theorem z_01 {S S' : zM} (h : some ((0 : Int32), S) = some (1, S')) : False := by
  have q : (0 : Int32) = 1 := congrArg Prod.fst (Option.some.inj h)
  exact absurd q (by decide)
