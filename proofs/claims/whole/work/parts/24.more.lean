def zbd {α β : Type} (x : α) (f : α → β) : β := f x
theorem znb {α β : Type} {x y : α} {f : α → β} {o : β} (q : y = x) (h : zbd x f = o) : f y = o := by
  subst q
  exact h
def zca {ρ β : Type} (x : Option (ρ × zM)) (f : ρ → zM → Option β) : Option β := match x with
  | none => none
  | some q => f q.1 q.2
theorem zcs {ρ β : Type} {x : Option (ρ × zM)} {f : ρ → zM → Option β} {y : β} (h : zca x f = some y) : ∃ (a : ρ) (S : zM), x = some (a, S) ∧ f a S = some y := by
  cases x with
  | none => cases h
  | some q => exact ⟨q.1, q.2, rfl, h⟩
theorem zca_some {ρ β : Type} {a : ρ} {S : zM} {f : ρ → zM → Option β} : zca (some (a, S)) f = f a S := rfl
def zcg (x y sp dp k : Int32) : Bool := decide (¬ sp < 0) && (decide (¬ dp < 0) && (decide (¬ k < 0) && (decide (sp.toNatClampNeg + k.toNatClampNeg ≤ (zK x.toNatClampNeg).2) && decide (dp.toNatClampNeg + k.toNatClampNeg ≤ (zK y.toNatClampNeg).2))))
theorem zcg_spec {x y sp dp k : Int32} (h : zcg x y sp dp k = true) : ¬ sp < 0 ∧ ¬ dp < 0 ∧ ¬ k < 0 ∧ sp.toNatClampNeg + k.toNatClampNeg ≤ (zK x.toNatClampNeg).2 ∧ dp.toNatClampNeg + k.toNatClampNeg ≤ (zK y.toNatClampNeg).2 := by
  simp only [zcg, Bool.and_eq_true, decide_eq_true_eq] at h
  exact h
def zcy (S : zM) (x y sp dp k : Int32) : zM := fun a j => if a = y.toNatClampNeg then va_cpy (S x.toNatClampNeg) (S y.toNatClampNeg) sp.toNatClampNeg dp.toNatClampNeg k.toNatClampNeg j else S a j
section ZM
variable {p : Program} {l : Launch} {e : Env} {R : Room} {s : State} {m : MethodId} {args : Array Value} {below : List Frame} {meth : Method} {c : Code} {H : Heap} {locs : List Loc} {cells slots : Nat} {Q : State → Prop}
variable {cc : ByteArray} {nL : Nat} {own : String} {D : va_G} {tc : Nat → ClassId} {b n : Nat} {S : zM} {pc : Nat} {ls : Array Slot} {st : List zV}
theorem z_ldcw (C : zC p m c cc nL s args own D tc) {ix : Nat} {v : Int32} (hw : Cond.constant own ix v ∈ zT) (hdg : decode cc pc = .ok (.ldc_w ix, 3)) (kk : W p l e R s m args below meth c H locs cells slots Q (zG b m (pc + 3) ls (zi v :: st))) : W p l e R s m args below meth c H locs cells slots Q (zG b m pc ls st) := lv_ldcw C.1.1 C.1.2.1 C.1.2.2.2.1 (C.1.2.2.2.2 _ hw) hdg kk
theorem z_tsIn (C : zC p m c cc nL s args own D tc) {dflt lo hi : Int} {offs : Array Int} {len : Nat} {x v : Int32} {off : Int} (tgt : Nat) (hx : x = v) (hdg : decode cc pc = .ok (.tableswitch dflt lo hi offs, len)) (h1 : ¬ v.toInt < lo) (h2 : ¬ hi < v.toInt) (ho : offs[(v.toInt - lo).toNat]? = some off) (ht : (pc : Int) + off = (tgt : Int)) (kk : W p l e R s m args below meth c H locs cells slots Q (zG b m tgt ls st)) : W p l e R s m args below meth c H locs cells slots Q (zG b m pc ls (zi x :: st)) := by
  subst hx
  exact lv_tableIn C.1.1 C.1.2.1 hdg h1 h2 ho ht kk
theorem z_tsOut (C : zC p m c cc nL s args own D tc) {dflt lo hi : Int} {offs : Array Int} {len : Nat} {x : Int32} (tgt : Nat) (hdg : decode cc pc = .ok (.tableswitch dflt lo hi offs, len)) (h : x.toInt < lo ∨ hi < x.toInt) (ht : (pc : Int) + dflt = (tgt : Int)) (kk : W p l e R s m args below meth c H locs cells slots Q (zG b m tgt ls st)) : W p l e R s m args below meth c H locs cells slots Q (zG b m pc ls (zi x :: st)) :=
  lv_tableOut C.1.1 C.1.2.1 hdg h ht kk
theorem z_nn {z : Int32} (hz : ¬ z < 0) : z.toInt = (z.toNatClampNeg : Int) := by
  have h := Int32.le_iff_toInt_le.mp (Int32.not_lt.mp hz)
  have h0 : (0 : Int) ≤ z.toInt := by simpa using h
  exact (Int.toNat_of_nonneg h0).symm
theorem z_copyi (C : zC p m c cc nL s args own D tc) (I : zI D tc b n S s H locs) {x y sp dp k : Int32} {ix : Nat} (hgx : zo n 0 x = true) (hgy : zo n 0 y = true) (hg : zcg x y sp dp k = true) (hlink : Cond.methodLink own ix arraycopyName ∈ zT) (hnat : Cond.native arraycopyName ∈ zT) (hstat : Cond.static arraycopyName ∈ zT) (hini : Cond.initialized "java/lang/System" ∈ zT) (hsz : ls.size = nL) (hfr : 1 ≤ R.frames) (hlo : zsum st + (nativeFrameWords "java/lang/System" "arraycopy" 5 + 11) ≤ R.locals) (hdg : decode cc pc = .ok (.invokestatic ix, 3)) (kk : ∀ S1 : zM, S1 = zcy S x y sp dp k → ∀ (H : Heap) (locs : List Loc), zI D tc b n S1 s H locs → W p l e R s m args below meth c H locs cells slots Q (zG b m (pc + 3) ls st)) : W p l e R s m args below meth c H locs cells slots Q (zG b m pc ls (zi k :: zi dp :: zr y :: zi sp :: zr x :: st)) := by
  obtain ⟨x1, x2, x3⟩ := zo_spec hgx
  obtain ⟨y1, y2, y3⟩ := zo_spec hgy
  obtain ⟨p1, p2, p3, p4, p5⟩ := zcg_spec hg
  have hcx := (I.1.2 _ x2).1 (by rw [x3]; decide)
  have hcy := (I.1.2 _ y2).1 (by rw [y3]; decide)
  rw [x3] at hcx
  rw [y3] at hcy
  have hA := (C.2.ty (kd := 0) (by decide)).1
  obtain ⟨-, kx, kx1, kx2, kx3⟩ := hA (zK x.toNatClampNeg).2 (fun j => .int (S x.toNatClampNeg j))
  obtain ⟨-, ky, ky1, ky2, ky3⟩ := hA (zK y.toNatClampNeg).2 (fun j => .int (S y.toNatClampNeg j))
  have hlt : b + y.toNatClampNeg < H.size := (Array.getElem?_eq_some_iff.mp hcy).1
  show W p l e R s m args below meth c H locs cells slots Q (F0 m pc ls (.int k :: .int dp :: zw b y :: .int sp :: zw b x :: st.map (zv b)))
  rw [zw_ref x1, zw_ref y1]
  intro T hT X
  subst hT
  obtain ⟨vm', X', step⟩ := X.arraycopy C.1.1 C.1.2.2.2.1 (C.1.2.2.2.2 _ hlink) (C.1.2.2.2.2 _ hnat) (C.1.2.2.2.2 _ hstat) (C.1.2.2.2.2 _ hini) (srcPos := sp) (destPos := dp) (n := k) hcx hcy (fun _ q => by cases q) (fun _ q => by cases q) (fun q => by cases q) (fun q => by cases q) kx1 ky1 kx3 ky3 (by decide) p1 p2 p3
    (by rw [z_nn p1, z_nn p3, arrV_size]; omega) (by rw [z_nn p2, z_nn p3, arrV_size]; omega)
    (fun vm₁ _ i hi => by
      have q : (arrV (tc 0) (zK x.toNatClampNeg).2 (fun j => zv b (zav 0 (S x.toNatClampNeg j)))).slots.getD (sp.toNatClampNeg + i) .null = .int (S x.toNatClampNeg (sp.toNatClampNeg + i)) := by
        rw [Array.getD_eq_getD_getElem?, arrV_read _ _ (by omega)]
        rfl
      rw [q]
      exact ⟨rfl, trivial⟩)
    (g := F0 m pc ls (.int k :: .int dp :: .ref (b + y.toNatClampNeg) :: .int sp :: .ref (b + x.toNatClampNeg) :: st.map (zv b))) rfl (hsz.trans C.1.2.2.1.symm) (rest := st.map (zv b)) rfl (by rw [C.1.2.1]; exact hdg) hfr (by rw [zsum_eq]; show 2 * 0 + _ + _ ≤ _; omega)
  have hcop : copied (arrV (tc 0) (zK x.toNatClampNeg).2 (fun j => zv b (zav 0 (S x.toNatClampNeg j)))) (arrV (tc 0) (zK y.toNatClampNeg).2 (fun j => zv b (zav 0 (S y.toNatClampNeg j)))) sp dp k = arrV (tc 0) (zK y.toNatClampNeg).2 (fun j => zv b (zav 0 (zcy S x y sp dp k y.toNatClampNeg j))) := by
    refine (va_copied (fun z => .int z) (tc 0) (tc 0) (S x.toNatClampNeg) (S y.toNatClampNeg) p4).trans (congrArg (arrV _ _) (funext fun j => ?_))
    simp [zcy, zav, zv]
  rw [hcop] at X' step
  have oq : ∀ q : Nat, q ≠ b + y.toNatClampNeg → ((T.setVm vm').setCell (b + y.toNatClampNeg) (arrV (tc 0) (zK y.toNatClampNeg).2 (fun j => zv b (zav 0 (zcy S x y sp dp k y.toNatClampNeg j))))).heap[q]? = T.heap[q]? := fun q hq => heapAt_setCell_ne _ (Ne.symm hq)
  have hself := heapAt_setCell_self (s := T.setVm vm') (arrV (tc 0) (zK y.toNatClampNeg).2 (fun j => zv b (zav 0 (zcy S x y sp dp k y.toNatClampNeg j)))) hlt
  have hsize : ((T.setVm vm').setCell (b + y.toNatClampNeg) (arrV (tc 0) (zK y.toNatClampNeg).2 (fun j => zv b (zav 0 (zcy S x y sp dp k y.toNatClampNeg j))))).heap.size = T.heap.size := size_setCell ..
  have hW1 : zW D tc b n (zcy S x y sp dp k) ((T.setVm vm').setCell (b + y.toNatClampNeg) (arrV (tc 0) (zK y.toNatClampNeg).2 (fun j => zv b (zav 0 (zcy S x y sp dp k y.toNatClampNeg j))))).heap := by
    refine ⟨hsize.trans I.1.1, fun a ha => ?_⟩
    by_cases w : a = y.toNatClampNeg
    · subst w
      exact ⟨fun _ => by rw [y3]; exact hself, fun ci h => absurd h (by rw [y3]; omega)⟩
    · have hrow : zcy S x y sp dp k a = S a := by
        funext j
        simp [zcy, w]
      rw [hrow]
      exact (I.1.2 a ha).kept (oq _ (by omega))
  obtain ⟨t, a1, b1⟩ := kk _ rfl _ _ ⟨hW1, Nat.le_trans I.2.1 (Nat.le_of_eq hsize.symm), fun q g1 g2 => (oq q (fun w => g2 (by rw [w]; exact Nat.le_add_right _ _))).trans (I.2.2.1 q g1 g2), fun q hq => (List.mem_append.mp hq).elim (I.2.2.2 q) (fun h => by
    obtain ⟨z, -, hz⟩ := List.mem_map.mp h
    rw [← hz]
    exact Nat.le_add_right _ _)⟩ _ rfl X'
  exact ⟨t, step t a1, b1⟩
end ZM
