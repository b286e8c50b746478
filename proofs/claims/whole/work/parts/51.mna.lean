/-- new int[10][10]: object n, and its rows behind it -/
def zmn (S : zM) (n : Nat) : zM := fun a j => if a = n then (if j < 10 then nI (n + 1 + j) else -1) else if n < a ∧ a ≤ n + 10 then 0 else S a j
section ZMN
variable {p : Program} {l : Launch} {e : Env} {R : Room} {s : State} {m : MethodId} {args : Array Value} {below : List Frame} {meth : Method} {c : Code} {H : Heap} {locs : List Loc} {cells slots : Nat} {Q : State → Prop}
variable {cc : ByteArray} {nL : Nat} {own : String} {D : va_G} {tc : Nat → ClassId} {b n : Nat} {S : zM} {pc : Nat} {ls : Array Slot} {st : List zV}
theorem zouter (c : ClassId) (N h0 : Nat) : ∀ i : Nat, Jvm.Free.Multi.outerC c N h0 i = arrV c N (fun j => if j < i then .ref (h0 + 1 + j) else .null)
  | 0 => by
    show ({ cls := c, slots := Array.replicate N .null, vm := .none } : Cell) = _
    rw [arrV_new]
    refine congrArg (arrV c N) (funext fun j => ?_)
    simp
  | i + 1 => by
    show (Jvm.Free.Multi.outerC c N h0 i).setSlot i (.ref (h0 + 1 + i)) = _
    rw [zouter c N h0 i, arrV_store]
    refine congrArg (arrV c N) (funext fun j => ?_)
    by_cases w : j = i
    · subst w
      simp [updV]
    · by_cases h : j < i
      · simp [updV, w, h, Nat.lt_succ_of_lt h]
      · simp [updV, w, h, show ¬ j < i + 1 by omega]
theorem zK_mn : ∀ a, 4 < a → a ≤ 14 → zK a = (0, 10) := by
  intro a h1 h2
  rcases (show a = 5 ∨ a = 6 ∨ a = 7 ∨ a = 8 ∨ a = 9 ∨ a = 10 ∨ a = 11 ∨ a = 12 ∨ a = 13 ∨ a = 14 by omega) with rfl | rfl | rfl | rfl | rfl | rfl | rfl | rfl | rfl | rfl <;> rfl
theorem z_mna (C : zC p m c cc nL s args own D tc) (I : zI D tc b n S s H locs) {ix : Nat} (hg : decide (n = 4) = true) (hlink : Cond.classLink own ix "[[I" ∈ zT) (harr : Cond.arrayClass .int ∈ zT) (hcells : cells + 11 ≤ R.cells) (hslots : slots + 110 ≤ R.slots) (hdg : decode cc pc = .ok (.multianewarray ix 2, 4)) (kk : ∀ S1 : zM, S1 = zmn S n → ∀ H : Heap, zI D tc b (n + 11) S1 s H locs → W p l e R s m args below meth c H locs (cells + 11) (slots + 110) Q (zG b m (pc + 4) ls (zr (nI n) :: st))) : W p l e R s m args below meth c H locs cells slots Q (zG b m pc ls (zi 10 :: zi 10 :: st)) := by
  have hn4 := of_decide_eq_true hg
  subst hn4
  intro T hT X
  subst hT
  have hsz := I.1.1
  obtain ⟨vm₁, cA, comp, -, fA, fC, -, -, X', step⟩ := X.multianewarray2F C.1.1 C.1.2.2.2.1 (C.1.2.2.2.2 _ hlink) C.2.2.2.2.2.2.2.2.2.2.2 (C.1.2.2.2.2 _ harr) (g := F0 m pc ls (.int 10 :: .int 10 :: st.map (zv b))) rfl (by rw [C.1.2.1]; exact hdg) rfl (n := 10) (k := 10) (by decide) (by decide) (by decide) (by decide) (by decide) (by decide) (by decide) hcells hslots
  have e10 : (10 : Int32).toNatClampNeg = 10 := by decide
  rw [e10] at X' step
  have ecA : cA = tc 5 := Option.some.inj (fA.symm.trans (C.2.ty (kd := 5) (by decide)).2)
  have ecC : comp = tc 0 := Option.some.inj (fC.symm.trans (C.2.ty (kd := 0) (by decide)).2)
  subst ecA
  subst ecC
  obtain ⟨f1, f2, -, -⟩ := Jvm.Free.Multi.fill_facts (T.setVm vm₁) (tc 5) (tc 0) 10 10 (defaultValue .int) 10
  have hold : ∀ x : Nat, x < T.heap.size → (Jvm.Free.Multi.fill (T.setVm vm₁) (tc 5) (tc 0) 10 10 (defaultValue .int) 10).heap[x]? = T.heap[x]? := fun x hx => Jvm.Free.Multi.fill_old (T.setVm vm₁) (tc 5) (tc 0) 10 10 (defaultValue .int) (a := x) hx 10
  have hrow : ∀ j : Nat, j < 10 → (Jvm.Free.Multi.fill (T.setVm vm₁) (tc 5) (tc 0) 10 10 (defaultValue .int) 10).heap[T.heap.size + 1 + j]? = some (Jvm.Free.Multi.innerC (tc 0) 10 (defaultValue .int)) := fun j hj => Jvm.Free.Multi.fill_inner (T.setVm vm₁) (tc 5) (tc 0) 10 10 (defaultValue .int) 10 j hj
  have f1 : (Jvm.Free.Multi.fill (T.setVm vm₁) (tc 5) (tc 0) 10 10 (defaultValue .int) 10).heap.size = T.heap.size + 1 + 10 := f1
  have f2 : (Jvm.Free.Multi.fill (T.setVm vm₁) (tc 5) (tc 0) 10 10 (defaultValue .int) 10).heap[T.heap.size]? = some (Jvm.Free.Multi.outerC (tc 5) 10 T.heap.size 10) := f2
  generalize Jvm.Free.Multi.fill (T.setVm vm₁) (tc 5) (tc 0) 10 10 (defaultValue .int) 10 = F at X' step f1 f2 hold hrow
  have hinner : Jvm.Free.Multi.innerC (tc 0) 10 (defaultValue .int) = arrV (tc 0) 10 (fun _ => .int 0) := arrV_new ..
  rw [hinner] at hrow
  rw [zouter] at f2
  have hW : zW D tc b (4 + 11) (zmn S 4) F.heap := by
    refine ⟨by rw [f1, hsz], fun a ha => ?_⟩
    by_cases h1 : a < 4
    · have hr : zmn S 4 a = S a := by
        funext j
        simp [zmn, show ¬ a = 4 by omega, show ¬ 4 < a by omega]
      rw [hr]
      exact (I.1.2 a h1).kept (hold _ (by omega))
    · by_cases h2 : a = 4
      · subst h2
        refine ⟨fun _ => ?_, fun ci h => absurd h (by show ¬ 5 = 10 + ci; omega)⟩
        rw [show b + 4 = T.heap.size by omega, f2]
        refine congrArg some ?_
        show arrV (tc 5) 10 _ = arrV (tc 5) 10 _
        refine congrArg (arrV _ _) (funext fun j => ?_)
        show _ = zw b (zmn S 4 4 j)
        by_cases hj : j < 10
        · simp only [zmn, if_pos hj, if_true]
          rw [zw_nI b (by omega), hsz]
          exact congrArg Value.ref (show b + 4 + 1 + j = b + (4 + 1 + j) by omega)
        · simp only [zmn, if_neg hj, if_true]
          rfl
      · have hk := zK_mn a (by omega) (by omega)
        refine ⟨fun _ => ?_, fun ci h => absurd h (by rw [hk]; show ¬ 0 = 10 + ci; omega)⟩
        have h3 := hrow (a - 5) (by omega)
        rw [show T.heap.size + 1 + (a - 5) = b + a by omega] at h3
        rw [h3, hk]
        refine congrArg some (congrArg (arrV _ _) (funext fun j => ?_))
        show Value.int 0 = Value.int (zmn S 4 a j)
        simp [zmn, h2, show 4 < a by omega, show a ≤ 4 + 10 by omega]
  have k1 := kk _ rfl F.heap ⟨hW, ⟨by have := I.2.1; omega, fun q h1 h2 => (hold q (Nat.lt_of_lt_of_le h1 I.2.1)).trans (I.2.2.1 q h1 h2), I.2.2.2⟩⟩
  have e3 : (zG b m (pc + 4) ls (zr (nI 4) :: st)) = F0 m (pc + 4) ls (.ref T.heap.size :: st.map (zv b)) := by
    show F0 m (pc + 4) ls (zw b (nI 4) :: st.map (zv b)) = _
    rw [zw_nI b (by decide), hsz]
  rw [e3] at k1
  obtain ⟨t, a1, b1⟩ := k1 F rfl X'
  exact ⟨t, step t a1, b1⟩
end ZMN
