/-! A flat picture of the whole world. Objects are told by their numbers, in the order in which they are made; each has a row of Int32: an int, a boolean, or a reference (the number of the object, a number below 0 for null). The object of number o lies at the address b + o. -/
abbrev zV : Type := (Int32 ⊕ Int32) ⊕ (Int64 ⊕ Nat)
abbrev zi (x : Int32) : zV := Sum.inl (Sum.inl x)
abbrev zr (x : Int32) : zV := Sum.inl (Sum.inr x)
abbrev zl (x : Int64) : zV := Sum.inr (Sum.inl x)
/-- the script's array, by its address -/
abbrev zs (a : Nat) : zV := Sum.inr (Sum.inr a)
def zw (b : Nat) (x : Int32) : Value := if x < 0 then .null else .ref (b + x.toNatClampNeg)
def zv (b : Nat) (v : zV) : Value := match v with
  | .inl (.inl x) => .int x
  | .inl (.inr x) => zw b x
  | .inr (.inl x) => .long x
  | .inr (.inr a) => .ref a
def zlong (v : zV) : Bool := match v with
  | .inl _ => false
  | .inr (.inl _) => true
  | .inr (.inr _) => false
theorem zw_cat (b : Nat) (x : Int32) : (zw b x).category = 1 := by
  unfold zw
  split <;> rfl
theorem zv_cat (b : Nat) (v : zV) : (zv b v).category = if zlong v = true then 2 else 1 := by
  rcases v with (x | x) | (x | x)
  · rfl
  · exact zw_cat b x
  · rfl
  · rfl
theorem zw_null {b : Nat} {x : Int32} (h : x < 0) : zw b x = .null := if_pos h
theorem zw_ref {b : Nat} {x : Int32} (h : ¬ x < 0) : zw b x = .ref (b + x.toNatClampNeg) := if_neg h
abbrev zM : Type := Nat → Nat → Int32
def zup (S : zM) (o k : Nat) (v : Int32) : zM := fun a j => if a = o ∧ j = k then v else S a j
theorem zup_row {S : zM} {o k : Nat} {v : Int32} : zup S o k v o = fun j => if j = k then v else S o j := by
  funext j
  simp [zup]
theorem zup_ne {S : zM} {o k a : Nat} {v : Int32} (h : a ≠ o) : zup S o k v a = S a := by
  funext j
  simp [zup, h]
/-- the kind and the length of each object: 0 int[], 1 boolean[], 2 Sheet[], 3 Version[], 4 Device[], 5 int[][]; 10 and the place in zcl -/
def zKL : List (Nat × Nat) := [(17, 0), (2, 8), (3, 10), (15, 0), (5, 10)] ++ List.replicate 13 (0, 10) ++ [(4, 30), (12, 0), (14, 0), (14, 0), (11, 0), (0, 6), (1, 30), (10, 0), (0, 16)] ++ (List.range 16).map (fun i => if i % 2 = 0 then (13, 0) else (0, 60)) ++ List.replicate 10 (16, 0) ++ (List.range 90).map (fun i => if i % 3 = 0 then (12, 0) else (14, 0)) ++ [(18, 0), (0, 8), (0, 8), (0, 480), (0, 10), (0, 10), (0, 10), (0, 100), (0, 10), (0, 10), (0, 10), (0, 30), (0, 30), (0, 30), (0, 60), (0, 60), (1, 30), (0, 30), (0, 30), (0, 30), (0, 30), (0, 6), (1, 30), (0, 16)]
def zK (o : Nat) : Nat × Nat := zKL.getD o (99, 0)
def zcl : List vw_C := [(RX0, TX0, 2), (RX1, TX1, 10), (RX2, TX2, 11), (RX3, TX3, 4), (RX4, TX4, 2), (RX5, TX5, 5), (RX6, TX6, 4), (RX7, TX7, 11), (RX8, TX8, 38)]
def zN (ci : Nat) : Nat := match ci with
  | 0 => 2
  | 1 => 10
  | 2 => 11
  | 3 => 4
  | 4 => 2
  | 5 => 5
  | 6 => 4
  | 7 => 11
  | _ => 38
def zty (ci : Nat) : Nat → FieldType := match ci with
  | 0 => tyX0
  | 1 => tyX1
  | 2 => tyX2
  | 3 => tyX3
  | 4 => tyX4
  | 5 => tyX5
  | 6 => tyX6
  | 7 => tyX7
  | _ => tyX8
def zfv (t : FieldType) (x : Int32) : zV := match t with
  | .int => zi x
  | .boolean => zi x
  | _ => zr x
def zav (kd : Nat) (x : Int32) : zV := match kd with
  | 0 => zi x
  | 1 => zi x
  | _ => zr x
def zae (kd : Nat) : FieldType := match kd with
  | 0 => .int
  | 1 => .boolean
  | 2 => .object RX3
  | 3 => .object RX6
  | 4 => .object RX2
  | _ => .array .int
def zcell (D : va_G) (tc : Nat → ClassId) (b o : Nat) (r : Nat → Int32) (H : Heap) : Prop :=
  ((zK o).1 < 10 → H[b + o]? = some (arrV (tc (zK o).1) (zK o).2 (fun j => zv b (zav (zK o).1 (r j))))) ∧
  (∀ ci : Nat, (zK o).1 = 10 + ci → t_OB (b + o) (D.1 ci) (zN ci) (D.2 ci) H (fun j => zv b (zfv (zty ci j) (r j))))
theorem zcell.kept {D : va_G} {tc : Nat → ClassId} {b o : Nat} {r : Nat → Int32} {H H1 : Heap} (h : zcell D tc b o r H) (e : H1[b + o]? = H[b + o]?) : zcell D tc b o r H1 :=
  ⟨fun q => e.trans (h.1 q), fun ci q => (h.2 ci q).kept e⟩
def zW (D : va_G) (tc : Nat → ClassId) (b n : Nat) (S : zM) (H : Heap) : Prop := H.size = b + n ∧ ∀ o, o < n → zcell D tc b o (S o) H
def zTys (tc : Nat → ClassId) : List (ClassId × FieldType) := [(tc 0, zae 0), (tc 1, zae 1), (tc 2, zae 2), (tc 3, zae 3), (tc 4, zae 4), (tc 5, zae 5)]
/-- what the tables say of calls within a nest, and of arrays of references: words that do not ride in zT -/
def zX (U : State) : Prop := va_Nw (.methodLinkNest "FleetSlots$Campaign" 60 yX7_isHalting "FleetSlots") U ∧ va_Nw (.methodLinkNest "FleetSlots" 23 yX5_init "FleetSlots") U ∧ va_Nw (.methodLinkNest "FleetSlots$Device" 11 yX4_init "FleetSlots") U ∧ va_Nw (.methodLinkNest "FleetSlots" 43 yX1_init "FleetSlots") U ∧ va_Nw (.methodLinkNest "FleetSlots" 50 yX0_init "FleetSlots") U ∧ va_Nw (.methodLinkNest "FleetSlots" 59 yX3_init "FleetSlots") U ∧ va_AO RX3 U ∧ va_AO RX6 U ∧ va_AO RX2 U ∧ (Cond.arrayOver (.array .int)).before #[] U = true
theorem zX.moved {u U : State} (hW : u.WarmedH U.vm) (h : zX u) : zX U := by
  obtain ⟨h1, h2, h3, h4, h5, h6, h7, h8, h9, h10⟩ := h
  exact ⟨va_Nw.warmM hW h1, va_Nw.warmM hW h2, va_Nw.warmM hW h3, va_Nw.warmM hW h4, va_Nw.warmM hW h5, va_Nw.warmM hW h6, va_AO.moved hW.alike h7, va_AO.moved hW.alike h8, va_AO.moved hW.alike h9, over_moved hW.alike h10⟩
theorem zX.same {u U : State} (hv : u.vm = U.vm) (h : zX u) : zX U := by
  have hal : u.vm.Alike U.vm := hv ▸ Vm.Alike.refl u.vm
  obtain ⟨h1, h2, h3, h4, h5, h6, h7, h8, h9, h10⟩ := h
  exact ⟨va_Nw.same rfl hv h1, va_Nw.same rfl hv h2, va_Nw.same rfl hv h3, va_Nw.same rfl hv h4, va_Nw.same rfl hv h5, va_Nw.same rfl hv h6, va_AO.moved hal h7, va_AO.moved hal h8, va_AO.moved hal h9, over_moved hal h10⟩
def zKK (D : va_G) (tc : Nat → ClassId) (U : State) : Prop := va_K D zcl (zTys tc) U ∧ zX U
theorem zKK.moved {D : va_G} {tc : Nat → ClassId} {u U : State} (hW : u.WarmedH U.vm) (h : zKK D tc u) : zKK D tc U := ⟨va_K.moved hW.alike h.1, zX.moved hW h.2⟩
theorem zKK.ty {D : va_G} {tc : Nat → ClassId} {U : State} (h : zKK D tc U) {kd : Nat} (hk : kd < 6) : ArrOfT U (tc kd) (zae kd) ∧ va_RA U (tc kd) (zae kd) := by
  have e : (zTys tc)[kd]? = some (tc kd, zae kd) := by
    rcases (show kd = 0 ∨ kd = 1 ∨ kd = 2 ∨ kd = 3 ∨ kd = 4 ∨ kd = 5 by omega) with rfl | rfl | rfl | rfl | rfl | rfl <;> rfl
  exact h.1.2 kd _ e
/-- the words of the tables that go from a method to those that it calls -/
def zT : List Cond := lw_tbl.filter goodWord
theorem zT_in {w : Cond} (h : w ∈ lw_tbl) (g : goodWord w = true) : w ∈ zT := List.mem_filter.mpr ⟨h, g⟩
theorem zT_t {w : Cond} (i : Nat) (h : tables_1[i]? = some w) (g : goodWord w = true) : w ∈ zT := zT_in (List.mem_append_right _ (List.mem_of_getElem? h)) g
theorem zT_good {ws : List Cond} (h : ∀ w ∈ ws, w ∈ zT) : GoodIn zT ws := fun w hw => ⟨h w hw, good_of_word (List.mem_filter.mp (h w hw)).2⟩
def zC (p : Program) (m : MethodId) (c : Code) (cc : ByteArray) (nL : Nat) (s : State) (args : Array Value) (own : String) (D : va_G) (tc : Nat → ClassId) : Prop := CallFix p m c cc nL s args zT own ∧ zKK D tc s
abbrev zF (b : Nat) : Nat → Prop := fun q => b ≤ q
def zI (D : va_G) (tc : Nat → ClassId) (b n : Nat) (S : zM) (s : State) (H : Heap) (locs : List Loc) : Prop := zW D tc b n S H ∧ va_S (zF b) s.heap H locs
abbrev zG (b : Nat) (m : MethodId) (pc : Nat) (ls : Array Slot) (st : List zV) : JFrame := F0 m pc ls (st.map (zv b))
abbrev zL (b : Nat) (ls : Array Slot) (nL : Nat) (l : List (Nat × zV)) : Prop := lv_has ls nL (l.map (fun q => (q.1, zv b q.2)))
theorem zL_at {b : Nat} {ls : Array Slot} {nL : Nat} {l : List (Nat × zV)} (h : zL b ls nL l) (k : Nat) {i : Nat} {v : zV} (hk : l[k]? = some (i, v)) : ls[i]? = some (.val (zv b v)) :=
  lv_at h k (by rw [List.getElem?_map, hk]; rfl)
theorem zL_sub {b : Nat} {ls : Array Slot} {nL : Nat} {l l' : List (Nat × zV)} (h : zL b ls nL l) (ks : List Nat) (hl : ks.filterMap (fun k => l[k]?) = l') : zL b ls nL l' := by
  refine ⟨h.1, h.2.1, fun q hq => ?_⟩
  obtain ⟨q0, hq0, rfl⟩ := List.mem_map.mp hq
  rw [← hl] at hq0
  obtain ⟨k, -, hk⟩ := List.mem_filterMap.mp hq0
  exact h.2.2 _ (List.mem_map.mpr ⟨q0, List.mem_of_getElem? hk, rfl⟩)
theorem zst1 (b i : Nat) (v : zV) (l : List (Nat × zV)) : (i, zv b v) :: (l.map (fun q => (q.1, zv b q.2))).filter (fun q => !(q.1 == i) && !(q.1 + 1 == i && q.2.category == 2)) = ((i, v) :: l.filter (fun q => !(q.1 == i) && !(q.1 + 1 == i && zlong q.2))).map (fun q => (q.1, zv b q.2)) := by
  rw [List.map_cons, List.filter_map]
  congr 2
  apply List.filter_congr
  intro q _
  show (!(q.1 == i) && !(q.1 + 1 == i && (zv b q.2).category == 2)) = _
  rw [zv_cat]
  cases zlong q.2 <;> simp
theorem zst2 (b i : Nat) (v : zV) (l : List (Nat × zV)) : (i, zv b v) :: (l.map (fun q => (q.1, zv b q.2))).filter (fun q => !(q.1 == i) && (!(q.1 == i + 1) && !(q.1 + 1 == i && q.2.category == 2))) = ((i, v) :: l.filter (fun q => !(q.1 == i) && (!(q.1 == i + 1) && !(q.1 + 1 == i && zlong q.2)))).map (fun q => (q.1, zv b q.2)) := by
  rw [List.map_cons, List.filter_map]
  congr 2
  apply List.filter_congr
  intro q _
  show (!(q.1 == i) && (!(q.1 == i + 1) && !(q.1 + 1 == i && (zv b q.2).category == 2))) = _
  rw [zv_cat]
  cases zlong q.2 <;> simp
theorem zL_of {b : Nat} {ls : Array Slot} {nL : Nat} {l1 : List (Nat × Value)} {l2 : List (Nat × zV)} (e : l1 = l2.map (fun q => (q.1, zv b q.2))) (h : lv_has ls nL l1) : zL b ls nL l2 := by
  show lv_has ls nL (l2.map (fun q => (q.1, zv b q.2)))
  rw [← e]
  exact h
/-- the locals at a method's begin -/
def zargs : Nat → List zV → List (Nat × zV)
  | _, [] => []
  | i, v :: vs => (i, v) :: zargs (if zlong v = true then i + 2 else i + 1) vs
theorem zargs_eq (b : Nat) : ∀ (vs : List zV) (i : Nat), lv_args i (vs.map (zv b)) = (zargs i vs).map (fun q => (q.1, zv b q.2))
  | [], _ => rfl
  | v :: vs, i => by
    rw [List.map_cons, lv_args, zargs, List.map_cons, zargs_eq b vs, zv_cat]
    cases zlong v <;> rfl
def zlen : List zV → Nat
  | [] => 0
  | v :: vs => (if zlong v = true then 2 else 1) + zlen vs
theorem zlen_eq (b : Nat) : ∀ vs : List zV, (lg_sl (vs.map (zv b))).length = zlen vs
  | [] => rfl
  | v :: vs => by
    have ih := zlen_eq b vs
    unfold lg_sl at ih ⊢
    rw [List.map_cons, List.flatMap_cons, List.length_append, ih, zlen, zv_cat]
    cases zlong v <;> rfl
def zsum : List zV → Nat
  | [] => 0
  | v :: vs => (if zlong v = true then 2 else 1) + zsum vs
theorem zsum_eq (b : Nat) : ∀ vs : List zV, ((vs.map (zv b)).map fun v => v.category).sum = zsum vs
  | [] => rfl
  | v :: vs => by
    rw [List.map_cons, List.map_cons, List.sum_cons, zsum_eq b vs, zsum, zv_cat]
/-- object e is there, and of a kind -/
def zo (n kd : Nat) (e : Int32) : Bool := decide (¬ e < 0) && (decide (e.toNatClampNeg < n) && decide ((zK e.toNatClampNeg).1 = kd))
theorem zo_spec {n kd : Nat} {e : Int32} (h : zo n kd e = true) : ¬ e < 0 ∧ e.toNatClampNeg < n ∧ (zK e.toNatClampNeg).1 = kd := by
  simp only [zo, Bool.and_eq_true, decide_eq_true_eq] at h
  exact h
/-- place i of the array e of a kind is there -/
def za (n kd : Nat) (e i : Int32) : Bool := zo n kd e && (decide (¬ i < 0) && decide (i.toNatClampNeg < (zK e.toNatClampNeg).2))
theorem za_spec {n kd : Nat} {e i : Int32} (h : za n kd e i = true) : zo n kd e = true ∧ ¬ i < 0 ∧ i.toNatClampNeg < (zK e.toNatClampNeg).2 := by
  simp only [za, Bool.and_eq_true, decide_eq_true_eq] at h
  exact h
abbrev zg (S : zM) (e : Int32) (k : Nat) : Int32 := S e.toNatClampNeg k
abbrev ze (S : zM) (e i : Int32) : Int32 := S e.toNatClampNeg i.toNatClampNeg
abbrev zp (S : zM) (e : Int32) (k : Nat) (v : Int32) : zM := zup S e.toNatClampNeg k v
abbrev zq (S : zM) (e i v : Int32) : zM := zup S e.toNatClampNeg i.toNatClampNeg v
/-- guards, branches and calls of the functions that the methods are -/
def zd {α : Type} (c : Bool) (x : Option α) : Option α := if c = true then x else none
theorem zd_some {α : Type} {c : Bool} {x : Option α} {y : α} (h : zd c x = some y) : c = true ∧ x = some y := by
  unfold zd at h
  split at h
  · exact ⟨by assumption, h⟩
  · cases h
theorem zd_true {α : Type} {x : Option α} : zd true x = x := rfl
theorem zb_some {α β : Type} {x : Option α} {f : α → Option β} {y : β} (h : x.bind f = some y) : ∃ a, x = some a ∧ f a = some y := Option.bind_eq_some_iff.mp h
theorem zit {α : Type} {c : Prop} [Decidable c] {x y z : α} (hc : c) (h : (if c then x else y) = z) : x = z := by rw [if_pos hc] at h; exact h
theorem zif {α : Type} {c : Prop} [Decidable c] {x y z : α} (hc : ¬ c) (h : (if c then x else y) = z) : y = z := by rw [if_neg hc] at h; exact h
def zbit (x : Int32) : Bool := decide (x = 0 ∨ x = 1)
theorem zbit_narrow {x : Int32} (h : zbit x = true) : narrow .boolean (.int x) = .int x ∧ fits .boolean (.int x) = true := by
  rcases of_decide_eq_true h with rfl | rfl <;> exact ⟨by decide +kernel, by decide +kernel⟩
def ztok (t : FieldType) (x : Int32) : Bool := match t with
  | .int => true
  | .boolean => zbit x
  | .object _ => true
  | .array _ => true
  | _ => false
theorem ztok_spec {t : FieldType} {x : Int32} (b : Nat) (h : ztok t x = true) : narrow t (zv b (zfv t x)) = zv b (zfv t x) ∧ fits t (zv b (zfv t x)) = true := by
  cases t with
  | int => exact ⟨rfl, rfl⟩
  | boolean => exact zbit_narrow h
  | object C => by_cases hx : x < 0 <;> simp [zfv, zv, zw, hx, narrow, fits]
  | array C => by_cases hx : x < 0 <;> simp [zfv, zv, zw, hx, narrow, fits]
  | _ => cases h
