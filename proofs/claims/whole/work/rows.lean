section
/-! THE STORE: kinds of cells (k), their indices (i), their fields or elements (j): a world is a function V k i j : Value over the cells that live (lv k i), at addresses ad k i. -/
abbrev jVT : Type := Nat → Nat → Nat → Value
def jat (D : va_G) (cl : List vw_C) (Y : Nat → Nat ⊕ (FieldType × Nat)) (E : Nat → ClassId) (a k : Nat) (f : Nat → Value) (H : Heap) : Prop := match Y k with
  | .inl ci => ∃ r : vw_C, cl[ci]? = some r ∧ t_OB a (D.1 ci) r.2.2 (D.2 ci) H f
  | .inr q => H[a]? = some (arrV (E k) q.2 f)
def jK (D : va_G) (cl : List vw_C) (Y : Nat → Nat ⊕ (FieldType × Nat)) (E : Nat → ClassId) (U : State) : Prop := va_K D cl [] U ∧ ∀ (k : Nat) (q : FieldType × Nat), Y k = .inr q → ArrOfT U (E k) q.1 ∧ va_RA U (E k) q.1
theorem jK.moved {D : va_G} {cl : List vw_C} {Y : Nat → Nat ⊕ (FieldType × Nat)} {E : Nat → ClassId} {u U : State} (hvm : u.vm.Alike U.vm) (h : jK D cl Y E u) : jK D cl Y E U := ⟨va_K.moved hvm h.1, fun k q hq => ⟨arrOfT_moved hvm (h.2 k q hq).1, (h.2 k q hq).2.moved hvm⟩⟩
theorem jat.kept {D : va_G} {cl : List vw_C} {Y : Nat → Nat ⊕ (FieldType × Nat)} {E : Nat → ClassId} {a k : Nat} {f : Nat → Value} {H H1 : Heap} (h : jat D cl Y E a k f H) (hq : H1[a]? = H[a]?) : jat D cl Y E a k f H1 := by
  unfold jat at h ⊢
  cases hy : Y k with
  | inl ci =>
    rw [hy] at h
    obtain ⟨r, h1, h2⟩ := h
    exact ⟨r, h1, h2.kept hq⟩
  | inr q =>
    rw [hy] at h
    exact hq.trans h
theorem jat.lt {D : va_G} {cl : List vw_C} {Y : Nat → Nat ⊕ (FieldType × Nat)} {E : Nat → ClassId} {a k : Nat} {f : Nat → Value} {H : Heap} (h : jat D cl Y E a k f H) : a < H.size := by
  unfold jat at h
  cases hy : Y k with
  | inl ci =>
    rw [hy] at h
    obtain ⟨r, h1, cell, h2, -⟩ := h
    exact (Array.getElem?_eq_some_iff.mp h2).1
  | inr q =>
    rw [hy] at h
    exact (Array.getElem?_eq_some_iff.mp h).1
/-- the world: each living cell holds what V says, lies in A; the addresses are apart -/
def jW (D : va_G) (cl : List vw_C) (Y : Nat → Nat ⊕ (FieldType × Nat)) (E : Nat → ClassId) (ad : Nat → Nat → Nat) (lv : Nat → Nat → Prop) (V : jVT) (A : Nat → Prop) (H : Heap) : Prop :=
  (∀ k i : Nat, lv k i → jat D cl Y E (ad k i) k (V k i) H ∧ A (ad k i)) ∧ ∀ k i k' i' : Nat, lv k i → lv k' i' → ad k i = ad k' i' → k = k' ∧ i = i'
def jup (V : jVT) (k i j : Nat) (v : Value) : jVT := fun k' i' j' => if k' = k ∧ i' = i ∧ j' = j then v else V k' i' j'
theorem jup_row (V : jVT) (k i j : Nat) (v : Value) : jup V k i j v k i = updV (V k i) j v := by
  funext j'
  simp [jup, updV]
theorem jup_off {V : jVT} {k i j : Nat} {v : Value} {k' i' : Nat} (h : ¬ (k' = k ∧ i' = i)) : jup V k i j v k' i' = V k' i' := by
  funext j'
  simp only [jup]
  rw [if_neg (fun q => h ⟨q.1, q.2.1⟩)]
theorem jW.put {D : va_G} {cl : List vw_C} {Y : Nat → Nat ⊕ (FieldType × Nat)} {E : Nat → ClassId} {ad : Nat → Nat → Nat} {lv : Nat → Nat → Prop} {V : jVT} {A : Nat → Prop} {H H1 : Heap} {k i j : Nat} {v : Value} (h : jW D cl Y E ad lv V A H) (hl : lv k i) (hn : jat D cl Y E (ad k i) k (updV (V k i) j v) H1) (oq : ∀ q : Nat, q ≠ ad k i → H1[q]? = H[q]?) : jW D cl Y E ad lv (jup V k i j v) A H1 := by
  refine ⟨fun k' i' hl' => ?_, h.2⟩
  by_cases hq : k' = k ∧ i' = i
  · obtain ⟨rfl, rfl⟩ := hq
    rw [jup_row]
    exact ⟨hn, (h.1 _ _ hl').2⟩
  · rw [jup_off hq]
    exact ⟨(h.1 _ _ hl').1.kept (oq _ (fun z => hq (h.2 _ _ _ _ hl' hl z))), (h.1 _ _ hl').2⟩
theorem jW.wide {D : va_G} {cl : List vw_C} {Y : Nat → Nat ⊕ (FieldType × Nat)} {E : Nat → ClassId} {ad : Nat → Nat → Nat} {lv : Nat → Nat → Prop} {V : jVT} {A B : Nat → Prop} {H : Heap} (h : jW D cl Y E ad lv V A H) (hB : ∀ k i : Nat, lv k i → B (ad k i)) : jW D cl Y E ad lv V B H := ⟨fun k i hl => ⟨(h.1 k i hl).1, hB k i hl⟩, h.2⟩
/-- the locals: a list, none where nothing is known; all of category 1 -/
def jh (ls : Array Slot) (nL : Nat) (lsv : List (Option Value)) : Prop := ls.size = nL ∧ lv_wf ls ∧ ∀ (i : Nat) (v : Value), lsv[i]? = some (some v) → ls[i]? = some (.val v) ∧ v.category = 1
def jl (lsv : List (Option Value)) : List (Nat × Value) := (List.range lsv.length).filterMap (fun i => (lsv[i]?.join).map (fun v => (i, v)))
theorem jl_mem {lsv : List (Option Value)} {i : Nat} {v : Value} : (i, v) ∈ jl lsv ↔ lsv[i]? = some (some v) := by
  unfold jl
  rw [List.mem_filterMap]
  constructor
  · rintro ⟨a, -, h⟩
    cases h2 : lsv[a]? with
    | none => rw [h2] at h; cases h
    | some o => cases o with
      | none => rw [h2] at h; cases h
      | some w =>
        rw [h2] at h
        simp at h
        obtain ⟨rfl, rfl⟩ := h
        exact h2
  · intro h
    refine ⟨i, List.mem_range.mpr (List.getElem?_eq_some_iff.mp h).1, ?_⟩
    rw [h]; rfl
theorem jh.has {ls : Array Slot} {nL : Nat} {lsv : List (Option Value)} (h : jh ls nL lsv) : lv_has ls nL (jl lsv) := ⟨h.1, h.2.1, fun q hq => (h.2.2 q.1 q.2 (jl_mem.mp hq)).1⟩
theorem jh.store {ls : Array Slot} {nL : Nat} {lsv : List (Option Value)} {i : Nat} {v : Value} (h : jh ls nL lsv) (hi : i < nL) (hc : v.category = 1) : ∃ ls', storeLocals ls i v = some ls' ∧ jh ls' nL (lsv.set i (some v)) := by
  obtain ⟨ls', e, h1, h2, h3⟩ := lv_store1 h.has hi hc
  refine ⟨ls', e, h1, h2, fun j w hj => ?_⟩
  by_cases hji : j = i
  · subst hji
    have hl : j < lsv.length := by
      have := (List.getElem?_eq_some_iff.mp hj).1
      rwa [List.length_set] at this
    rw [List.getElem?_set_self hl] at hj
    cases hj
    exact ⟨h3 (j, v) List.mem_cons_self, hc⟩
  · rw [List.getElem?_set_ne (Ne.symm hji)] at hj
    have hw := h.2.2 j w hj
    refine ⟨h3 (j, w) (List.mem_cons_of_mem _ (List.mem_filter.mpr ⟨jl_mem.mpr hj, ?_⟩)), hw.2⟩
    have h5 : (w.category == 2) = false := by rw [hw.2]; rfl
    have h6 : (j == i) = false := by simpa using hji
    show (!(j == i) && !(j + 1 == i && w.category == 2)) = true
    rw [h5, h6, Bool.and_false]
    rfl
theorem jh.sub {ls : Array Slot} {nL : Nat} {lsv lsv' : List (Option Value)} (h : jh ls nL lsv) (hs : ∀ (i : Nat) (v : Value), lsv'[i]? = some (some v) → lsv[i]? = some (some v)) : jh ls nL lsv' := ⟨h.1, h.2.1, fun i v hv => h.2.2 i v (hs i v hv)⟩
theorem jrf_cat (r : Option Nat) : (va_rf r).category = 1 := by cases r <;> rfl
def jpush (r : Option Value) (rest : List Value) : List Value := match r with
  | none => rest
  | some v => v :: rest
theorem jpush_eq (r : Option Value) (rest : List Value) : r.toList ++ rest = jpush r rest := by cases r <;> rfl
/-- the walk: from every heap of size z that holds V, with these locals -/
def J (p : Program) (l : Launch) (e : Env) (R : Room) (s : State) (m : MethodId) (args : Array Value) (below : List Frame) (meth : Method) (c : Code) (Q : State → Prop) (D : va_G) (cl : List vw_C) (Y : Nat → Nat ⊕ (FieldType × Nat)) (E : Nat → ClassId) (ad : Nat → Nat → Nat) (A : Nat → Prop) (H0 : Heap) (nL : Nat) (cells slots z : Nat) (lv : Nat → Nat → Prop) (V : jVT) (pc : Nat) (lsv : List (Option Value)) (stk : List Value) : Prop :=
  ∀ (H : Heap) (locs : List Loc) (ls : Array Slot), H.size = z → jW D cl Y E ad lv V A H → va_S A H0 H locs → jh ls nL lsv → W p l e R s m args below meth c H locs cells slots Q (F0 m pc ls stk)

section JROWS
variable {p : Program} {l : Launch} {e : Env} {R : Room} {s : State} {m : MethodId} {args : Array Value} {below : List Frame} {meth : Method} {c : Code} {cells slots z : Nat} {Q : State → Prop} {D : va_G} {cl : List vw_C} {Y : Nat → Nat ⊕ (FieldType × Nat)} {E : Nat → ClassId} {ad : Nat → Nat → Nat} {lv : Nat → Nat → Prop} {A : Nat → Prop} {H0 : Heap} {cc : ByteArray} {nL : Nat} {Ts : List Cond} {own : String}
variable {V : jVT} {pc : Nat} {lsv : List (Option Value)} {rest : List Value}
theorem j_iconst (C : CallFix p m c cc nL s args Ts own) {n : Int} {v : Int32} (d : decode cc pc = .ok (.iconst n, 1)) (hv : Int32.ofInt n = v) (k : J p l e R s m args below meth c Q D cl Y E ad A H0 nL cells slots z lv V (pc + 1) lsv (.int v :: rest)) : J p l e R s m args below meth c Q D cl Y E ad A H0 nL cells slots z lv V pc lsv rest :=
  fun H locs ls hz hW hS hl => lv_iconst C.1 C.2.1 d hv (k H locs ls hz hW hS hl)
theorem j_bipush (C : CallFix p m c cc nL s args Ts own) {n : Int} {v : Int32} (d : decode cc pc = .ok (.bipush n, 2)) (hv : (Int8.ofInt n).toInt32 = v) (k : J p l e R s m args below meth c Q D cl Y E ad A H0 nL cells slots z lv V (pc + 2) lsv (.int v :: rest)) : J p l e R s m args below meth c Q D cl Y E ad A H0 nL cells slots z lv V pc lsv rest :=
  fun H locs ls hz hW hS hl => lv_bipush C.1 C.2.1 d hv (k H locs ls hz hW hS hl)
theorem j_sipush (C : CallFix p m c cc nL s args Ts own) {n : Int} {v : Int32} (d : decode cc pc = .ok (.sipush n, 3)) (hv : (Int16.ofInt n).toInt32 = v) (k : J p l e R s m args below meth c Q D cl Y E ad A H0 nL cells slots z lv V (pc + 3) lsv (.int v :: rest)) : J p l e R s m args below meth c Q D cl Y E ad A H0 nL cells slots z lv V pc lsv rest :=
  fun H locs ls hz hW hS hl => lv_sipush C.1 C.2.1 d hv (k H locs ls hz hW hS hl)
theorem j_lconst (C : CallFix p m c cc nL s args Ts own) {n : Fin 2} {v : Int64} (d : decode cc pc = .ok (.lconst n, 1)) (hv : Int64.ofNat (n : Nat) = v) (k : J p l e R s m args below meth c Q D cl Y E ad A H0 nL cells slots z lv V (pc + 1) lsv (.long v :: rest)) : J p l e R s m args below meth c Q D cl Y E ad A H0 nL cells slots z lv V pc lsv rest :=
  fun H locs ls hz hW hS hl => lv_lconst C.1 C.2.1 d hv (k H locs ls hz hW hS hl)
theorem j_null (C : CallFix p m c cc nL s args Ts own)  (d : decode cc pc = .ok (.aconst_null, 1))  (k : J p l e R s m args below meth c Q D cl Y E ad A H0 nL cells slots z lv V (pc + 1) lsv (.null :: rest)) : J p l e R s m args below meth c Q D cl Y E ad A H0 nL cells slots z lv V pc lsv rest :=
  fun H locs ls hz hW hS hl => lv_null C.1 C.2.1 d  (k H locs ls hz hW hS hl)
theorem j_iadd (C : CallFix p m c cc nL s args Ts own) {x y : Int32} (d : decode cc pc = .ok (.iadd, 1))  (k : J p l e R s m args below meth c Q D cl Y E ad A H0 nL cells slots z lv V (pc + 1) lsv (.int (x + y) :: rest)) : J p l e R s m args below meth c Q D cl Y E ad A H0 nL cells slots z lv V pc lsv (.int y :: .int x :: rest) :=
  fun H locs ls hz hW hS hl => lv_iadd C.1 C.2.1 d  (k H locs ls hz hW hS hl)
theorem j_isub (C : CallFix p m c cc nL s args Ts own) {x y : Int32} (d : decode cc pc = .ok (.isub, 1))  (k : J p l e R s m args below meth c Q D cl Y E ad A H0 nL cells slots z lv V (pc + 1) lsv (.int (x - y) :: rest)) : J p l e R s m args below meth c Q D cl Y E ad A H0 nL cells slots z lv V pc lsv (.int y :: .int x :: rest) :=
  fun H locs ls hz hW hS hl => lv_isub C.1 C.2.1 d  (k H locs ls hz hW hS hl)
theorem j_imul (C : CallFix p m c cc nL s args Ts own) {x y : Int32} (d : decode cc pc = .ok (.imul, 1))  (k : J p l e R s m args below meth c Q D cl Y E ad A H0 nL cells slots z lv V (pc + 1) lsv (.int (x * y) :: rest)) : J p l e R s m args below meth c Q D cl Y E ad A H0 nL cells slots z lv V pc lsv (.int y :: .int x :: rest) :=
  fun H locs ls hz hW hS hl => lv_imul C.1 C.2.1 d  (k H locs ls hz hW hS hl)
theorem j_iand (C : CallFix p m c cc nL s args Ts own) {x y : Int32} (d : decode cc pc = .ok (.iand, 1))  (k : J p l e R s m args below meth c Q D cl Y E ad A H0 nL cells slots z lv V (pc + 1) lsv (.int (x &&& y) :: rest)) : J p l e R s m args below meth c Q D cl Y E ad A H0 nL cells slots z lv V pc lsv (.int y :: .int x :: rest) :=
  fun H locs ls hz hW hS hl => lv_iand C.1 C.2.1 d  (k H locs ls hz hW hS hl)
theorem j_ior (C : CallFix p m c cc nL s args Ts own) {x y : Int32} (d : decode cc pc = .ok (.ior, 1))  (k : J p l e R s m args below meth c Q D cl Y E ad A H0 nL cells slots z lv V (pc + 1) lsv (.int (x ||| y) :: rest)) : J p l e R s m args below meth c Q D cl Y E ad A H0 nL cells slots z lv V pc lsv (.int y :: .int x :: rest) :=
  fun H locs ls hz hW hS hl => lv_ior C.1 C.2.1 d  (k H locs ls hz hW hS hl)
theorem j_ixor (C : CallFix p m c cc nL s args Ts own) {x y : Int32} (d : decode cc pc = .ok (.ixor, 1))  (k : J p l e R s m args below meth c Q D cl Y E ad A H0 nL cells slots z lv V (pc + 1) lsv (.int (x ^^^ y) :: rest)) : J p l e R s m args below meth c Q D cl Y E ad A H0 nL cells slots z lv V pc lsv (.int y :: .int x :: rest) :=
  fun H locs ls hz hW hS hl => lv_ixor C.1 C.2.1 d  (k H locs ls hz hW hS hl)
theorem j_irem (C : CallFix p m c cc nL s args Ts own) {x y : Int32} (d : decode cc pc = .ok (.irem, 1)) (hne : ¬ y = 0) (k : J p l e R s m args below meth c Q D cl Y E ad A H0 nL cells slots z lv V (pc + 1) lsv (.int (x - x / y * y) :: rest)) : J p l e R s m args below meth c Q D cl Y E ad A H0 nL cells slots z lv V pc lsv (.int y :: .int x :: rest) :=
  fun H locs ls hz hW hS hl => lv_irem C.1 C.2.1 d hne (k H locs ls hz hW hS hl)
theorem j_idiv (C : CallFix p m c cc nL s args Ts own) {x y : Int32} (d : decode cc pc = .ok (.idiv, 1)) (hne : ¬ y = 0) (k : J p l e R s m args below meth c Q D cl Y E ad A H0 nL cells slots z lv V (pc + 1) lsv (.int (x / y) :: rest)) : J p l e R s m args below meth c Q D cl Y E ad A H0 nL cells slots z lv V pc lsv (.int y :: .int x :: rest) :=
  fun H locs ls hz hW hS hl => lv_idiv C.1 C.2.1 d hne (k H locs ls hz hW hS hl)
theorem j_ladd (C : CallFix p m c cc nL s args Ts own) {x y : Int64} (d : decode cc pc = .ok (.ladd, 1))  (k : J p l e R s m args below meth c Q D cl Y E ad A H0 nL cells slots z lv V (pc + 1) lsv (.long (x + y) :: rest)) : J p l e R s m args below meth c Q D cl Y E ad A H0 nL cells slots z lv V pc lsv (.long y :: .long x :: rest) :=
  fun H locs ls hz hW hS hl => lv_ladd C.1 C.2.1 d  (k H locs ls hz hW hS hl)
theorem j_lsub (C : CallFix p m c cc nL s args Ts own) {x y : Int64} (d : decode cc pc = .ok (.lsub, 1))  (k : J p l e R s m args below meth c Q D cl Y E ad A H0 nL cells slots z lv V (pc + 1) lsv (.long (x - y) :: rest)) : J p l e R s m args below meth c Q D cl Y E ad A H0 nL cells slots z lv V pc lsv (.long y :: .long x :: rest) :=
  fun H locs ls hz hW hS hl => lv_lsub C.1 C.2.1 d  (k H locs ls hz hW hS hl)
theorem j_lmul (C : CallFix p m c cc nL s args Ts own) {x y : Int64} (d : decode cc pc = .ok (.lmul, 1))  (k : J p l e R s m args below meth c Q D cl Y E ad A H0 nL cells slots z lv V (pc + 1) lsv (.long (x * y) :: rest)) : J p l e R s m args below meth c Q D cl Y E ad A H0 nL cells slots z lv V pc lsv (.long y :: .long x :: rest) :=
  fun H locs ls hz hW hS hl => lv_lmul C.1 C.2.1 d  (k H locs ls hz hW hS hl)
theorem j_land (C : CallFix p m c cc nL s args Ts own) {x y : Int64} (d : decode cc pc = .ok (.land, 1))  (k : J p l e R s m args below meth c Q D cl Y E ad A H0 nL cells slots z lv V (pc + 1) lsv (.long (x &&& y) :: rest)) : J p l e R s m args below meth c Q D cl Y E ad A H0 nL cells slots z lv V pc lsv (.long y :: .long x :: rest) :=
  fun H locs ls hz hW hS hl => lv_land C.1 C.2.1 d  (k H locs ls hz hW hS hl)
theorem j_lrem (C : CallFix p m c cc nL s args Ts own) {x y : Int64} (d : decode cc pc = .ok (.lrem, 1)) (hne : ¬ y = 0) (k : J p l e R s m args below meth c Q D cl Y E ad A H0 nL cells slots z lv V (pc + 1) lsv (.long (x - x / y * y) :: rest)) : J p l e R s m args below meth c Q D cl Y E ad A H0 nL cells slots z lv V pc lsv (.long y :: .long x :: rest) :=
  fun H locs ls hz hW hS hl => lv_lrem C.1 C.2.1 d hne (k H locs ls hz hW hS hl)
theorem j_ineg (C : CallFix p m c cc nL s args Ts own) {x : Int32} (d : decode cc pc = .ok (.ineg, 1))  (k : J p l e R s m args below meth c Q D cl Y E ad A H0 nL cells slots z lv V (pc + 1) lsv (.int (-x) :: rest)) : J p l e R s m args below meth c Q D cl Y E ad A H0 nL cells slots z lv V pc lsv (.int x :: rest) :=
  fun H locs ls hz hW hS hl => lv_ineg C.1 C.2.1 d  (k H locs ls hz hW hS hl)
theorem j_i2l (C : CallFix p m c cc nL s args Ts own) {x : Int32} (d : decode cc pc = .ok (.i2l, 1))  (k : J p l e R s m args below meth c Q D cl Y E ad A H0 nL cells slots z lv V (pc + 1) lsv (.long x.toInt64 :: rest)) : J p l e R s m args below meth c Q D cl Y E ad A H0 nL cells slots z lv V pc lsv (.int x :: rest) :=
  fun H locs ls hz hW hS hl => lv_i2l C.1 C.2.1 d rfl (k H locs ls hz hW hS hl)
theorem j_l2i (C : CallFix p m c cc nL s args Ts own) {x : Int64} (d : decode cc pc = .ok (.l2i, 1))  (k : J p l e R s m args below meth c Q D cl Y E ad A H0 nL cells slots z lv V (pc + 1) lsv (.int x.toInt32 :: rest)) : J p l e R s m args below meth c Q D cl Y E ad A H0 nL cells slots z lv V pc lsv (.long x :: rest) :=
  fun H locs ls hz hW hS hl => lv_l2i C.1 C.2.1 d rfl (k H locs ls hz hW hS hl)
theorem j_lcmp (C : CallFix p m c cc nL s args Ts own) {x y : Int64} (d : decode cc pc = .ok (.lcmp, 1))  (k : J p l e R s m args below meth c Q D cl Y E ad A H0 nL cells slots z lv V (pc + 1) lsv (.int (lg_cmp x y) :: rest)) : J p l e R s m args below meth c Q D cl Y E ad A H0 nL cells slots z lv V pc lsv (.long y :: .long x :: rest) :=
  fun H locs ls hz hW hS hl => W.lcmp C.1 C.2.1 d  (k H locs ls hz hW hS hl)
theorem j_dup (C : CallFix p m c cc nL s args Ts own) {va : Value} (d : decode cc pc = .ok (.dup, 1)) (hva : va.category = 1) (k : J p l e R s m args below meth c Q D cl Y E ad A H0 nL cells slots z lv V (pc + 1) lsv (va :: va :: rest)) : J p l e R s m args below meth c Q D cl Y E ad A H0 nL cells slots z lv V pc lsv (va :: rest) :=
  fun H locs ls hz hW hS hl => lv_dup C.1 C.2.1 d hva (k H locs ls hz hW hS hl)
theorem j_pop (C : CallFix p m c cc nL s args Ts own) {va : Value} (d : decode cc pc = .ok (.pop, 1)) (hva : va.category = 1) (k : J p l e R s m args below meth c Q D cl Y E ad A H0 nL cells slots z lv V (pc + 1) lsv rest) : J p l e R s m args below meth c Q D cl Y E ad A H0 nL cells slots z lv V pc lsv (va :: rest) :=
  fun H locs ls hz hW hS hl => lv_pop C.1 C.2.1 d hva (k H locs ls hz hW hS hl)
theorem j_dup_x1 (C : CallFix p m c cc nL s args Ts own) {va vb : Value} (d : decode cc pc = .ok (.dup_x1, 1)) (hva : va.category = 1) (hvb : vb.category = 1) (k : J p l e R s m args below meth c Q D cl Y E ad A H0 nL cells slots z lv V (pc + 1) lsv (va :: vb :: va :: rest)) : J p l e R s m args below meth c Q D cl Y E ad A H0 nL cells slots z lv V pc lsv (va :: vb :: rest) :=
  fun H locs ls hz hW hS hl => lv_dup_x1 C.1 C.2.1 d hva hvb (k H locs ls hz hW hS hl)
theorem j_dup_x2 (C : CallFix p m c cc nL s args Ts own) {va vb vd : Value} (d : decode cc pc = .ok (.dup_x2, 1)) (hva : va.category = 1) (hvb : vb.category = 1) (hvd : vd.category = 1) (k : J p l e R s m args below meth c Q D cl Y E ad A H0 nL cells slots z lv V (pc + 1) lsv (va :: vb :: vd :: va :: rest)) : J p l e R s m args below meth c Q D cl Y E ad A H0 nL cells slots z lv V pc lsv (va :: vb :: vd :: rest) :=
  fun H locs ls hz hW hS hl => lv_dup_x2 C.1 C.2.1 d hva hvb hvd (k H locs ls hz hW hS hl)
theorem j_dup2_11 (C : CallFix p m c cc nL s args Ts own) {va vb : Value} (d : decode cc pc = .ok (.dup2, 1)) (hva : va.category = 1) (hvb : vb.category = 1) (k : J p l e R s m args below meth c Q D cl Y E ad A H0 nL cells slots z lv V (pc + 1) lsv (va :: vb :: va :: vb :: rest)) : J p l e R s m args below meth c Q D cl Y E ad A H0 nL cells slots z lv V pc lsv (va :: vb :: rest) :=
  fun H locs ls hz hW hS hl => lv_dup2_11 C.1 C.2.1 d hva hvb (k H locs ls hz hW hS hl)
theorem j_dup2_2 (C : CallFix p m c cc nL s args Ts own) {va : Value} (d : decode cc pc = .ok (.dup2, 1)) (hva : va.category = 2) (k : J p l e R s m args below meth c Q D cl Y E ad A H0 nL cells slots z lv V (pc + 1) lsv (va :: va :: rest)) : J p l e R s m args below meth c Q D cl Y E ad A H0 nL cells slots z lv V pc lsv (va :: rest) :=
  fun H locs ls hz hW hS hl => lv_dup2_2 C.1 C.2.1 d hva (k H locs ls hz hW hS hl)
theorem j_dup2_x1_2 (C : CallFix p m c cc nL s args Ts own) {va vb : Value} (d : decode cc pc = .ok (.dup2_x1, 1)) (hva : va.category = 2) (hvb : vb.category = 1) (k : J p l e R s m args below meth c Q D cl Y E ad A H0 nL cells slots z lv V (pc + 1) lsv (va :: vb :: va :: rest)) : J p l e R s m args below meth c Q D cl Y E ad A H0 nL cells slots z lv V pc lsv (va :: vb :: rest) :=
  fun H locs ls hz hW hS hl => lv_dup2_x1_2 C.1 C.2.1 d hva hvb (k H locs ls hz hW hS hl)
theorem j_if_eq (C : CallFix p m c cc nL s args Ts own) {x : Int32} {off : Int} (tgt : Nat) (d : decode cc pc = .ok (.ifCond .eq off, 3)) (ht : (pc : Int) + off = (tgt : Int)) (kt : x = 0 → J p l e R s m args below meth c Q D cl Y E ad A H0 nL cells slots z lv V tgt lsv rest) (kf : ¬ x = 0 → J p l e R s m args below meth c Q D cl Y E ad A H0 nL cells slots z lv V (pc + 3) lsv rest) : J p l e R s m args below meth c Q D cl Y E ad A H0 nL cells slots z lv V pc lsv (.int x :: rest) :=
  fun H locs ls hz hW hS hl => lv_if_eq C.1 C.2.1 d ht (fun h => kt h H locs ls hz hW hS hl) (fun h => kf h H locs ls hz hW hS hl)
theorem j_icmp_eq (C : CallFix p m c cc nL s args Ts own) {x y : Int32} {off : Int} (tgt : Nat) (d : decode cc pc = .ok (.if_icmp .eq off, 3)) (ht : (pc : Int) + off = (tgt : Int)) (kt : x = y → J p l e R s m args below meth c Q D cl Y E ad A H0 nL cells slots z lv V tgt lsv rest) (kf : ¬ x = y → J p l e R s m args below meth c Q D cl Y E ad A H0 nL cells slots z lv V (pc + 3) lsv rest) : J p l e R s m args below meth c Q D cl Y E ad A H0 nL cells slots z lv V pc lsv (.int y :: .int x :: rest) :=
  fun H locs ls hz hW hS hl => lv_icmp_eq C.1 C.2.1 d ht (fun h => kt h H locs ls hz hW hS hl) (fun h => kf h H locs ls hz hW hS hl)
theorem j_if_ne (C : CallFix p m c cc nL s args Ts own) {x : Int32} {off : Int} (tgt : Nat) (d : decode cc pc = .ok (.ifCond .ne off, 3)) (ht : (pc : Int) + off = (tgt : Int)) (kt : ¬ x = 0 → J p l e R s m args below meth c Q D cl Y E ad A H0 nL cells slots z lv V tgt lsv rest) (kf : x = 0 → J p l e R s m args below meth c Q D cl Y E ad A H0 nL cells slots z lv V (pc + 3) lsv rest) : J p l e R s m args below meth c Q D cl Y E ad A H0 nL cells slots z lv V pc lsv (.int x :: rest) :=
  fun H locs ls hz hW hS hl => lv_if_ne C.1 C.2.1 d ht (fun h => kt h H locs ls hz hW hS hl) (fun h => kf h H locs ls hz hW hS hl)
theorem j_icmp_ne (C : CallFix p m c cc nL s args Ts own) {x y : Int32} {off : Int} (tgt : Nat) (d : decode cc pc = .ok (.if_icmp .ne off, 3)) (ht : (pc : Int) + off = (tgt : Int)) (kt : ¬ x = y → J p l e R s m args below meth c Q D cl Y E ad A H0 nL cells slots z lv V tgt lsv rest) (kf : x = y → J p l e R s m args below meth c Q D cl Y E ad A H0 nL cells slots z lv V (pc + 3) lsv rest) : J p l e R s m args below meth c Q D cl Y E ad A H0 nL cells slots z lv V pc lsv (.int y :: .int x :: rest) :=
  fun H locs ls hz hW hS hl => lv_icmp_ne C.1 C.2.1 d ht (fun h => kt h H locs ls hz hW hS hl) (fun h => kf h H locs ls hz hW hS hl)
theorem j_if_lt (C : CallFix p m c cc nL s args Ts own) {x : Int32} {off : Int} (tgt : Nat) (d : decode cc pc = .ok (.ifCond .lt off, 3)) (ht : (pc : Int) + off = (tgt : Int)) (kt : x < 0 → J p l e R s m args below meth c Q D cl Y E ad A H0 nL cells slots z lv V tgt lsv rest) (kf : ¬ x < 0 → J p l e R s m args below meth c Q D cl Y E ad A H0 nL cells slots z lv V (pc + 3) lsv rest) : J p l e R s m args below meth c Q D cl Y E ad A H0 nL cells slots z lv V pc lsv (.int x :: rest) :=
  fun H locs ls hz hW hS hl => lv_if_lt C.1 C.2.1 d ht (fun h => kt h H locs ls hz hW hS hl) (fun h => kf h H locs ls hz hW hS hl)
theorem j_icmp_lt (C : CallFix p m c cc nL s args Ts own) {x y : Int32} {off : Int} (tgt : Nat) (d : decode cc pc = .ok (.if_icmp .lt off, 3)) (ht : (pc : Int) + off = (tgt : Int)) (kt : x < y → J p l e R s m args below meth c Q D cl Y E ad A H0 nL cells slots z lv V tgt lsv rest) (kf : ¬ x < y → J p l e R s m args below meth c Q D cl Y E ad A H0 nL cells slots z lv V (pc + 3) lsv rest) : J p l e R s m args below meth c Q D cl Y E ad A H0 nL cells slots z lv V pc lsv (.int y :: .int x :: rest) :=
  fun H locs ls hz hW hS hl => lv_icmp_lt C.1 C.2.1 d ht (fun h => kt h H locs ls hz hW hS hl) (fun h => kf h H locs ls hz hW hS hl)
theorem j_if_ge (C : CallFix p m c cc nL s args Ts own) {x : Int32} {off : Int} (tgt : Nat) (d : decode cc pc = .ok (.ifCond .ge off, 3)) (ht : (pc : Int) + off = (tgt : Int)) (kt : 0 ≤ x → J p l e R s m args below meth c Q D cl Y E ad A H0 nL cells slots z lv V tgt lsv rest) (kf : ¬ 0 ≤ x → J p l e R s m args below meth c Q D cl Y E ad A H0 nL cells slots z lv V (pc + 3) lsv rest) : J p l e R s m args below meth c Q D cl Y E ad A H0 nL cells slots z lv V pc lsv (.int x :: rest) :=
  fun H locs ls hz hW hS hl => lv_if_ge C.1 C.2.1 d ht (fun h => kt h H locs ls hz hW hS hl) (fun h => kf h H locs ls hz hW hS hl)
theorem j_icmp_ge (C : CallFix p m c cc nL s args Ts own) {x y : Int32} {off : Int} (tgt : Nat) (d : decode cc pc = .ok (.if_icmp .ge off, 3)) (ht : (pc : Int) + off = (tgt : Int)) (kt : y ≤ x → J p l e R s m args below meth c Q D cl Y E ad A H0 nL cells slots z lv V tgt lsv rest) (kf : ¬ y ≤ x → J p l e R s m args below meth c Q D cl Y E ad A H0 nL cells slots z lv V (pc + 3) lsv rest) : J p l e R s m args below meth c Q D cl Y E ad A H0 nL cells slots z lv V pc lsv (.int y :: .int x :: rest) :=
  fun H locs ls hz hW hS hl => lv_icmp_ge C.1 C.2.1 d ht (fun h => kt h H locs ls hz hW hS hl) (fun h => kf h H locs ls hz hW hS hl)
theorem j_if_gt (C : CallFix p m c cc nL s args Ts own) {x : Int32} {off : Int} (tgt : Nat) (d : decode cc pc = .ok (.ifCond .gt off, 3)) (ht : (pc : Int) + off = (tgt : Int)) (kt : 0 < x → J p l e R s m args below meth c Q D cl Y E ad A H0 nL cells slots z lv V tgt lsv rest) (kf : ¬ 0 < x → J p l e R s m args below meth c Q D cl Y E ad A H0 nL cells slots z lv V (pc + 3) lsv rest) : J p l e R s m args below meth c Q D cl Y E ad A H0 nL cells slots z lv V pc lsv (.int x :: rest) :=
  fun H locs ls hz hW hS hl => lv_if_gt C.1 C.2.1 d ht (fun h => kt h H locs ls hz hW hS hl) (fun h => kf h H locs ls hz hW hS hl)
theorem j_icmp_gt (C : CallFix p m c cc nL s args Ts own) {x y : Int32} {off : Int} (tgt : Nat) (d : decode cc pc = .ok (.if_icmp .gt off, 3)) (ht : (pc : Int) + off = (tgt : Int)) (kt : y < x → J p l e R s m args below meth c Q D cl Y E ad A H0 nL cells slots z lv V tgt lsv rest) (kf : ¬ y < x → J p l e R s m args below meth c Q D cl Y E ad A H0 nL cells slots z lv V (pc + 3) lsv rest) : J p l e R s m args below meth c Q D cl Y E ad A H0 nL cells slots z lv V pc lsv (.int y :: .int x :: rest) :=
  fun H locs ls hz hW hS hl => lv_icmp_gt C.1 C.2.1 d ht (fun h => kt h H locs ls hz hW hS hl) (fun h => kf h H locs ls hz hW hS hl)
theorem j_if_le (C : CallFix p m c cc nL s args Ts own) {x : Int32} {off : Int} (tgt : Nat) (d : decode cc pc = .ok (.ifCond .le off, 3)) (ht : (pc : Int) + off = (tgt : Int)) (kt : x ≤ 0 → J p l e R s m args below meth c Q D cl Y E ad A H0 nL cells slots z lv V tgt lsv rest) (kf : ¬ x ≤ 0 → J p l e R s m args below meth c Q D cl Y E ad A H0 nL cells slots z lv V (pc + 3) lsv rest) : J p l e R s m args below meth c Q D cl Y E ad A H0 nL cells slots z lv V pc lsv (.int x :: rest) :=
  fun H locs ls hz hW hS hl => lv_if_le C.1 C.2.1 d ht (fun h => kt h H locs ls hz hW hS hl) (fun h => kf h H locs ls hz hW hS hl)
theorem j_icmp_le (C : CallFix p m c cc nL s args Ts own) {x y : Int32} {off : Int} (tgt : Nat) (d : decode cc pc = .ok (.if_icmp .le off, 3)) (ht : (pc : Int) + off = (tgt : Int)) (kt : x ≤ y → J p l e R s m args below meth c Q D cl Y E ad A H0 nL cells slots z lv V tgt lsv rest) (kf : ¬ x ≤ y → J p l e R s m args below meth c Q D cl Y E ad A H0 nL cells slots z lv V (pc + 3) lsv rest) : J p l e R s m args below meth c Q D cl Y E ad A H0 nL cells slots z lv V pc lsv (.int y :: .int x :: rest) :=
  fun H locs ls hz hW hS hl => lv_icmp_le C.1 C.2.1 d ht (fun h => kt h H locs ls hz hW hS hl) (fun h => kf h H locs ls hz hW hS hl)
theorem j_goto (C : CallFix p m c cc nL s args Ts own) {off : Int} (tgt : Nat) (d : decode cc pc = .ok (.goto off, 3)) (ht : (pc : Int) + off = (tgt : Int)) (k : J p l e R s m args below meth c Q D cl Y E ad A H0 nL cells slots z lv V tgt lsv rest) : J p l e R s m args below meth c Q D cl Y E ad A H0 nL cells slots z lv V pc lsv rest :=
  fun H locs ls hz hW hS hl => lv_goto C.1 C.2.1 d ht (k H locs ls hz hW hS hl)
theorem j_ifnull (C : CallFix p m c cc nL s args Ts own) {o : Option Nat} {off : Int} (tgt : Nat) (d : decode cc pc = .ok (.ifnull off, 3)) (ht : (pc : Int) + off = (tgt : Int)) (kt : o = none → J p l e R s m args below meth c Q D cl Y E ad A H0 nL cells slots z lv V tgt lsv rest) (kf : ∀ a : Nat, o = some a → J p l e R s m args below meth c Q D cl Y E ad A H0 nL cells slots z lv V (pc + 3) lsv rest) : J p l e R s m args below meth c Q D cl Y E ad A H0 nL cells slots z lv V pc lsv (va_rf o :: rest) := by
  intro H locs ls hz hW hS hl
  cases o with
  | none => exact lv_ifnullN C.1 C.2.1 d ht (kt rfl H locs ls hz hW hS hl)
  | some a => exact lv_ifnull C.1 C.2.1 d (kf a rfl H locs ls hz hW hS hl)
theorem j_ifnonnull (C : CallFix p m c cc nL s args Ts own) {o : Option Nat} {off : Int} (tgt : Nat) (d : decode cc pc = .ok (.ifnonnull off, 3)) (ht : (pc : Int) + off = (tgt : Int)) (kt : ∀ a : Nat, o = some a → J p l e R s m args below meth c Q D cl Y E ad A H0 nL cells slots z lv V tgt lsv rest) (kf : o = none → J p l e R s m args below meth c Q D cl Y E ad A H0 nL cells slots z lv V (pc + 3) lsv rest) : J p l e R s m args below meth c Q D cl Y E ad A H0 nL cells slots z lv V pc lsv (va_rf o :: rest) := by
  intro H locs ls hz hW hS hl
  cases o with
  | none => exact lv_ifnonnullN C.1 C.2.1 d (kf rfl H locs ls hz hW hS hl)
  | some a => exact lv_ifnonnull C.1 C.2.1 d ht (kt a rfl H locs ls hz hW hS hl)
theorem j_acmp_eq (C : CallFix p m c cc nL s args Ts own) {rx ry : Option Nat} {off : Int} (tgt : Nat) (d : decode cc pc = .ok (.if_acmp .eq off, 3)) (ht : (pc : Int) + off = (tgt : Int)) (kt : rx = ry → J p l e R s m args below meth c Q D cl Y E ad A H0 nL cells slots z lv V tgt lsv rest) (kf : ¬ rx = ry → J p l e R s m args below meth c Q D cl Y E ad A H0 nL cells slots z lv V (pc + 3) lsv rest) : J p l e R s m args below meth c Q D cl Y E ad A H0 nL cells slots z lv V pc lsv (va_rf ry :: va_rf rx :: rest) :=
  fun H locs ls hz hW hS hl => lv_acmp_eq C.1 C.2.1 d ht (fun h => kt h H locs ls hz hW hS hl) (fun h => kf h H locs ls hz hW hS hl)
theorem j_acmp_ne (C : CallFix p m c cc nL s args Ts own) {rx ry : Option Nat} {off : Int} (tgt : Nat) (d : decode cc pc = .ok (.if_acmp .ne off, 3)) (ht : (pc : Int) + off = (tgt : Int)) (kt : ¬ rx = ry → J p l e R s m args below meth c Q D cl Y E ad A H0 nL cells slots z lv V tgt lsv rest) (kf : rx = ry → J p l e R s m args below meth c Q D cl Y E ad A H0 nL cells slots z lv V (pc + 3) lsv rest) : J p l e R s m args below meth c Q D cl Y E ad A H0 nL cells slots z lv V pc lsv (va_rf ry :: va_rf rx :: rest) :=
  fun H locs ls hz hW hS hl => lv_acmp_ne C.1 C.2.1 d ht (fun h => kt h H locs ls hz hW hS hl) (fun h => kf h H locs ls hz hW hS hl)
theorem j_iload_n (C : CallFix p m c cc nL s args Ts own) {q : Fin 4} {i : Nat} {x : Int32} (d : decode cc pc = .ok (.iload_n q, 1)) (hi : (q : Nat) = i) (hv : lsv[i]? = some (some (.int x))) (k : J p l e R s m args below meth c Q D cl Y E ad A H0 nL cells slots z lv V (pc + 1) lsv (.int x :: rest)) : J p l e R s m args below meth c Q D cl Y E ad A H0 nL cells slots z lv V pc lsv rest :=
  fun H locs ls hz hW hS hl => lv_iload_n C.1 C.2.1 d hi (hl.2.2 i _ hv).1 (k H locs ls hz hW hS hl)
theorem j_iload (C : CallFix p m c cc nL s args Ts own)  {i : Nat} {x : Int32} (d : decode cc pc = .ok (.iload i, 2))  (hv : lsv[i]? = some (some (.int x))) (k : J p l e R s m args below meth c Q D cl Y E ad A H0 nL cells slots z lv V (pc + 2) lsv (.int x :: rest)) : J p l e R s m args below meth c Q D cl Y E ad A H0 nL cells slots z lv V pc lsv rest :=
  fun H locs ls hz hW hS hl => lv_iload C.1 C.2.1 d  (hl.2.2 i _ hv).1 (k H locs ls hz hW hS hl)
theorem j_aload_n (C : CallFix p m c cc nL s args Ts own) {q : Fin 4} {i : Nat} {x : Nat} (d : decode cc pc = .ok (.aload_n q, 1)) (hi : (q : Nat) = i) (hv : lsv[i]? = some (some (.ref x))) (k : J p l e R s m args below meth c Q D cl Y E ad A H0 nL cells slots z lv V (pc + 1) lsv (.ref x :: rest)) : J p l e R s m args below meth c Q D cl Y E ad A H0 nL cells slots z lv V pc lsv rest :=
  fun H locs ls hz hW hS hl => lv_aload_n C.1 C.2.1 d hi (hl.2.2 i _ hv).1 (k H locs ls hz hW hS hl)
theorem j_aload_nQ (C : CallFix p m c cc nL s args Ts own) {q : Fin 4} {i : Nat} {o : Option Nat} (d : decode cc pc = .ok (.aload_n q, 1)) (hi : (q : Nat) = i) (hv : lsv[i]? = some (some (va_rf o))) (k : J p l e R s m args below meth c Q D cl Y E ad A H0 nL cells slots z lv V (pc + 1) lsv (va_rf o :: rest)) : J p l e R s m args below meth c Q D cl Y E ad A H0 nL cells slots z lv V pc lsv rest := by
  intro H locs ls hz hW hS hl
  have h1 := (hl.2.2 i _ hv).1
  have h2 := k H locs ls hz hW hS hl
  cases o with
  | none => exact lv_aload_nN C.1 C.2.1 d hi h1 h2
  | some x => exact lv_aload_n C.1 C.2.1 d hi h1 h2
theorem j_aload (C : CallFix p m c cc nL s args Ts own)  {i : Nat} {x : Nat} (d : decode cc pc = .ok (.aload i, 2))  (hv : lsv[i]? = some (some (.ref x))) (k : J p l e R s m args below meth c Q D cl Y E ad A H0 nL cells slots z lv V (pc + 2) lsv (.ref x :: rest)) : J p l e R s m args below meth c Q D cl Y E ad A H0 nL cells slots z lv V pc lsv rest :=
  fun H locs ls hz hW hS hl => lv_aload C.1 C.2.1 d  (hl.2.2 i _ hv).1 (k H locs ls hz hW hS hl)
theorem j_aloadQ (C : CallFix p m c cc nL s args Ts own)  {i : Nat} {o : Option Nat} (d : decode cc pc = .ok (.aload i, 2))  (hv : lsv[i]? = some (some (va_rf o))) (k : J p l e R s m args below meth c Q D cl Y E ad A H0 nL cells slots z lv V (pc + 2) lsv (va_rf o :: rest)) : J p l e R s m args below meth c Q D cl Y E ad A H0 nL cells slots z lv V pc lsv rest := by
  intro H locs ls hz hW hS hl
  have h1 := (hl.2.2 i _ hv).1
  have h2 := k H locs ls hz hW hS hl
  cases o with
  | none => exact lv_aloadN C.1 C.2.1 d  h1 h2
  | some x => exact lv_aload C.1 C.2.1 d  h1 h2
theorem j_istore_n (C : CallFix p m c cc nL s args Ts own) {q : Fin 4} {i : Nat} {x : Int32} (d : decode cc pc = .ok (.istore_n q, 1)) (hi : (q : Nat) = i) (hn : i < nL) (k : J p l e R s m args below meth c Q D cl Y E ad A H0 nL cells slots z lv V (pc + 1) (lsv.set i (some (.int x))) rest) : J p l e R s m args below meth c Q D cl Y E ad A H0 nL cells slots z lv V pc lsv (.int x :: rest) := by
  intro H locs ls hz hW hS hl
  obtain ⟨ls', e', h'⟩ := hl.store (v := .int x) hn rfl
  obtain ⟨hx, hb, -⟩ := C
  subst hi
  intro T hT X
  obtain ⟨t, a, b⟩ := k H locs ls' hz hW hS h' T hT X
  refine ⟨t, ?_, b⟩
  jvm_step X.here [X.here.top, ↓top_set X.here.top, hx, hb, d, e', Value.isRef]
  exact a
theorem j_istore (C : CallFix p m c cc nL s args Ts own)  {i : Nat} {x : Int32} (d : decode cc pc = .ok (.istore i, 2))  (hn : i < nL) (k : J p l e R s m args below meth c Q D cl Y E ad A H0 nL cells slots z lv V (pc + 2) (lsv.set i (some (.int x))) rest) : J p l e R s m args below meth c Q D cl Y E ad A H0 nL cells slots z lv V pc lsv (.int x :: rest) := by
  intro H locs ls hz hW hS hl
  obtain ⟨ls', e', h'⟩ := hl.store (v := .int x) hn rfl
  obtain ⟨hx, hb, -⟩ := C
  skip
  intro T hT X
  obtain ⟨t, a, b⟩ := k H locs ls' hz hW hS h' T hT X
  refine ⟨t, ?_, b⟩
  jvm_step X.here [X.here.top, ↓top_set X.here.top, hx, hb, d, e', Value.isRef]
  exact a
theorem j_astore_n (C : CallFix p m c cc nL s args Ts own) {q : Fin 4} {i : Nat} {x : Nat} (d : decode cc pc = .ok (.astore_n q, 1)) (hi : (q : Nat) = i) (hn : i < nL) (k : J p l e R s m args below meth c Q D cl Y E ad A H0 nL cells slots z lv V (pc + 1) (lsv.set i (some (.ref x))) rest) : J p l e R s m args below meth c Q D cl Y E ad A H0 nL cells slots z lv V pc lsv (.ref x :: rest) := by
  intro H locs ls hz hW hS hl
  obtain ⟨ls', e', h'⟩ := hl.store (v := .ref x) hn rfl
  obtain ⟨hx, hb, -⟩ := C
  subst hi
  intro T hT X
  obtain ⟨t, a, b⟩ := k H locs ls' hz hW hS h' T hT X
  refine ⟨t, ?_, b⟩
  jvm_step X.here [X.here.top, ↓top_set X.here.top, hx, hb, d, e', Value.isRef]
  exact a
theorem j_astore_nQ (C : CallFix p m c cc nL s args Ts own) {q : Fin 4} {i : Nat} {o : Option Nat} (d : decode cc pc = .ok (.astore_n q, 1)) (hi : (q : Nat) = i) (hn : i < nL) (k : J p l e R s m args below meth c Q D cl Y E ad A H0 nL cells slots z lv V (pc + 1) (lsv.set i (some (va_rf o))) rest) : J p l e R s m args below meth c Q D cl Y E ad A H0 nL cells slots z lv V pc lsv (va_rf o :: rest) := by
  cases o with
  | some x => exact j_astore_n C d hi hn k
  | none =>
    rw [show va_rf none = Value.null from rfl] at k ⊢
    intro H locs ls hz hW hS hl
    obtain ⟨ls', e', h'⟩ := hl.store (v := .null) hn rfl
    obtain ⟨hx, hb, -⟩ := C
    subst hi
    intro T hT X
    obtain ⟨t, a, b⟩ := k H locs ls' hz hW hS h' T hT X
    refine ⟨t, ?_, b⟩
    jvm_step X.here [X.here.top, ↓top_set X.here.top, hx, hb, d, e', Value.isRef]
    exact a
theorem j_astore (C : CallFix p m c cc nL s args Ts own)  {i : Nat} {x : Nat} (d : decode cc pc = .ok (.astore i, 2))  (hn : i < nL) (k : J p l e R s m args below meth c Q D cl Y E ad A H0 nL cells slots z lv V (pc + 2) (lsv.set i (some (.ref x))) rest) : J p l e R s m args below meth c Q D cl Y E ad A H0 nL cells slots z lv V pc lsv (.ref x :: rest) := by
  intro H locs ls hz hW hS hl
  obtain ⟨ls', e', h'⟩ := hl.store (v := .ref x) hn rfl
  obtain ⟨hx, hb, -⟩ := C
  skip
  intro T hT X
  obtain ⟨t, a, b⟩ := k H locs ls' hz hW hS h' T hT X
  refine ⟨t, ?_, b⟩
  jvm_step X.here [X.here.top, ↓top_set X.here.top, hx, hb, d, e', Value.isRef]
  exact a
theorem j_astoreQ (C : CallFix p m c cc nL s args Ts own)  {i : Nat} {o : Option Nat} (d : decode cc pc = .ok (.astore i, 2))  (hn : i < nL) (k : J p l e R s m args below meth c Q D cl Y E ad A H0 nL cells slots z lv V (pc + 2) (lsv.set i (some (va_rf o))) rest) : J p l e R s m args below meth c Q D cl Y E ad A H0 nL cells slots z lv V pc lsv (va_rf o :: rest) := by
  cases o with
  | some x => exact j_astore C d  hn k
  | none =>
    rw [show va_rf none = Value.null from rfl] at k ⊢
    intro H locs ls hz hW hS hl
    obtain ⟨ls', e', h'⟩ := hl.store (v := .null) hn rfl
    obtain ⟨hx, hb, -⟩ := C
    skip
    intro T hT X
    obtain ⟨t, a, b⟩ := k H locs ls' hz hW hS h' T hT X
    refine ⟨t, ?_, b⟩
    jvm_step X.here [X.here.top, ↓top_set X.here.top, hx, hb, d, e', Value.isRef]
    exact a
theorem j_iinc (C : CallFix p m c cc nL s args Ts own) {i : Nat} {n : Int} {x : Int32} (d : decode cc pc = .ok (.iinc i n, 3)) (hv : lsv[i]? = some (some (.int x))) (hn : i < nL) (k : J p l e R s m args below meth c Q D cl Y E ad A H0 nL cells slots z lv V (pc + 3) (lsv.set i (some (.int (x + Int32.ofInt n)))) rest) : J p l e R s m args below meth c Q D cl Y E ad A H0 nL cells slots z lv V pc lsv rest := by
  intro H locs ls hz hW hS hl
  have h1 : ls[i]? = some (.val (.int x)) := (hl.2.2 i _ hv).1
  obtain ⟨kk, hk⟩ := List.getElem?_of_mem (jl_mem.mpr hv)
  refine lv_iinc (k := kk) C.1 C.2.1 d hl.has hk rfl hn rfl (fun ls' h' => ?_)
  refine k H locs ls' hz hW hS ⟨h'.1, h'.2.1, fun j w hj => ?_⟩
  by_cases hji : j = i
  · subst hji
    have hll : j < lsv.length := (List.getElem?_eq_some_iff.mp hv).1
    rw [List.getElem?_set_self hll] at hj
    cases hj
    exact ⟨h'.2.2 (j, _) List.mem_cons_self, rfl⟩
  · rw [List.getElem?_set_ne (Ne.symm hji)] at hj
    have hw := hl.2.2 j w hj
    refine ⟨h'.2.2 (j, w) (List.mem_cons_of_mem _ (List.mem_filter.mpr ⟨jl_mem.mpr hj, ?_⟩)), hw.2⟩
    have h5 : (w.category == 2) = false := by rw [hw.2]; rfl
    have h6 : (j == i) = false := by simpa using hji
    show (!(j == i) && !(j + 1 == i && w.category == 2)) = true
    rw [h5, h6, Bool.and_false]
    rfl
theorem j_ldc (C : CallFix p m c cc nL s args Ts own) {index : Nat} {v : Int32} (d : decode cc pc = .ok (.ldc index, 2)) (hc : Jvm.Cond.constant own index v ∈ Ts) (k : J p l e R s m args below meth c Q D cl Y E ad A H0 nL cells slots z lv V (pc + 2) lsv (.int v :: rest)) : J p l e R s m args below meth c Q D cl Y E ad A H0 nL cells slots z lv V pc lsv rest :=
  fun H locs ls hz hW hS hl => lv_ldc C.1 C.2.1 C.2.2.2.1 (C.2.2.2.2 _ hc) d (k H locs ls hz hW hS hl)
theorem j_ldc2 (C : CallFix p m c cc nL s args Ts own) {index : Nat} {v : Int64} (d : decode cc pc = .ok (.ldc2_w index, 3)) (hc : Jvm.Cond.constantLong own index v ∈ Ts) (k : J p l e R s m args below meth c Q D cl Y E ad A H0 nL cells slots z lv V (pc + 3) lsv (.long v :: rest)) : J p l e R s m args below meth c Q D cl Y E ad A H0 nL cells slots z lv V pc lsv rest :=
  fun H locs ls hz hW hS hl => lv_ldc2 C.1 C.2.1 C.2.2.2.1 (C.2.2.2.2 _ hc) d (k H locs ls hz hW hS hl)
/-- a field is read: k the kind, i the index, j the field -/
theorem j_get (C : CallFix p m c cc nL s args Ts own) (hK : jK D cl Y E s) {ref Cn : String} {T : u_T} {N ci index : Nat} (k i j : Nat) (d : decode cc pc = .ok (.getfield index, 3)) (hin : ∀ w ∈ u_ws Cn T N, w ∈ Ts) (hY : Y k = .inl ci) (hc : cl[ci]? = some (Cn, T, N)) (hj : j < N) (hlink : Cond.fieldLink own index ref (T j).2.1 (T j).2.2.1 ∈ Ts) (hsame : (T j).1 = ref) (hl : lv k i) (kk : J p l e R s m args below meth c Q D cl Y E ad A H0 nL cells slots z lv V (pc + 3) lsv (V k i j :: rest)) : J p l e R s m args below meth c Q D cl Y E ad A H0 nL cells slots z lv V pc lsv (.ref (ad k i) :: rest) := by
  intro H locs ls hz hW hS hls
  have h0 := (hW.1 k i hl).1
  unfold jat at h0
  rw [hY] at h0
  obtain ⟨r, h1, cell, q1, q2, q3, q4⟩ := h0
  have hr : r = (Cn, T, N) := Option.some.inj (h1.symm.trans hc)
  subst hr
  obtain ⟨hSl, hfc, kC, hkC, hkind⟩ := hK.1.1 ci _ hc
  obtain ⟨cf, kf, fi, f, hi, hsl⟩ := hSl j hj
  refine W.getf C.1 C.2.1 C.2.2.2.1 (C.2.2.2.2 _ hlink) (hsame ▸ hi) (u_facts hfc hkC (u_lays C.2.2.2.2 hin hj) hi).1 q1 (by rw [q3]; exact fun h => by cases h) (v := V k i j) ?_ rfl rfl d (kk H locs ls hz hW hS hls)
  rw [hsl]
  exact q4 j hj
/-- a field is written -/
theorem j_put (C : CallFix p m c cc nL s args Ts own) (hK : jK D cl Y E s) {ref Cn : String} {T : u_T} {N ci index : Nat} (k i j : Nat) (ty0 : Nat → FieldType) (hty : ∀ k, k < N → parseFieldDescriptor (T k).2.2.1 = some (ty0 k)) (hnm : ∀ a, a < N → ∀ b, b < N → a ≠ b → (T a).2.1 ≠ (T b).2.1) (d : decode cc pc = .ok (.putfield index, 3)) (hin : ∀ w ∈ u_ws Cn T N, w ∈ Ts) (hY : Y k = .inl ci) (hc : cl[ci]? = some (Cn, T, N)) (hj : j < N) (hlink : Cond.fieldLink own index ref (T j).2.1 (T j).2.2.1 ∈ Ts) (hsame : (T j).1 = ref) (hfin : (T j).2.2.2 = false) {v : Value} (hn : narrow (ty0 j) v = v) (hfit : fits (ty0 j) v = true) (hl : lv k i) (kk : J p l e R s m args below meth c Q D cl Y E ad A H0 nL cells slots z lv (jup V k i j v) (pc + 3) lsv rest) : J p l e R s m args below meth c Q D cl Y E ad A H0 nL cells slots z lv V pc lsv (v :: .ref (ad k i) :: rest) := by
  intro H locs ls hz hW hS hls
  have hap := va_apart (own := own) C.2.2.2.2 hin ty0 hty hnm hK.1 hc
  have h0 := (hW.1 k i hl).1
  have h0' := h0
  unfold jat at h0
  rw [hY] at h0
  obtain ⟨r, h1, cell, q1, q2, q3, q4⟩ := h0
  have hr : r = (Cn, T, N) := Option.some.inj (h1.symm.trans hc)
  subst hr
  obtain ⟨hSl, hfc, kC, hkC, hkind⟩ := hK.1.1 ci _ hc
  obtain ⟨cf, kf, fi, f, hi, hsl⟩ := hSl j hj
  have hlay := C.2.2.2.2 _ (hin _ (u_in_lay hj))
  unfold u_lay at hlay
  rw [if_neg (by rw [hfin]; decide)] at hlay
  have hst := (u_facts hfc hkC (u_lays C.2.2.2.2 hin hj) hi).1
  have h6 := u_store hfc hkC hkind hlay hi (hty j hj) hn hfit
  refine W.putK C.1 C.2.1 (f := f) ⟨C.2.2.2.1, C.2.2.2.2 _ hlink, ⟨_, _, _, hsame ▸ hi⟩, hst⟩ (by rw [q2]; exact h6) q1 q3 (by rw [hsl]; exact k2_hasslot (q4 j hj)) rfl rfl d fun H' e1 e2 e3 => ?_
  rw [hsl] at e1 ⊢
  refine kk H' _ ls (e2.trans hz) (hW.put hl ?_ e3) (hS.put e2 e3 (hW.1 k i hl).2) hls
  unfold jat
  rw [hY]
  exact ⟨_, hc, _, e1, q2, q3, t_set q4 hap hj v⟩
/-- a final field is written, in its constructor -/
theorem j_putF (C : CallFix p m c cc nL s args Ts own) (hK : jK D cl Y E s) {ref Cn : String} {T : u_T} {N ci index : Nat} (k i j : Nat) (ty0 : Nat → FieldType) (hty : ∀ k, k < N → parseFieldDescriptor (T k).2.2.1 = some (ty0 k)) (hnm : ∀ a, a < N → ∀ b, b < N → a ≠ b → (T a).2.1 ≠ (T b).2.1) (d : decode cc pc = .ok (.putfield index, 3)) (hin : ∀ w ∈ u_ws Cn T N, w ∈ Ts) (hY : Y k = .inl ci) (hc : cl[ci]? = some (Cn, T, N)) (hj : j < N) (hlink : Cond.fieldLink own index ref (T j).2.1 (T j).2.2.1 ∈ Ts) (hsame : (T j).1 = ref) (hfin : (T j).2.2.2 = true) (hin2 : meth.name = "<init>") (hdecl : (T j).1 = own) {v : Value} (hn : narrow (ty0 j) v = v) (hfit : fits (ty0 j) v = true) (hl : lv k i) (kk : J p l e R s m args below meth c Q D cl Y E ad A H0 nL cells slots z lv (jup V k i j v) (pc + 3) lsv rest) : J p l e R s m args below meth c Q D cl Y E ad A H0 nL cells slots z lv V pc lsv (v :: .ref (ad k i) :: rest) := by
  intro H locs ls hz hW hS hls
  have hap := va_apart (own := own) C.2.2.2.2 hin ty0 hty hnm hK.1 hc
  have h0 := (hW.1 k i hl).1
  unfold jat at h0
  rw [hY] at h0
  obtain ⟨r, h1, cell, q1, q2, q3, q4⟩ := h0
  have hr : r = (Cn, T, N) := Option.some.inj (h1.symm.trans hc)
  subst hr
  obtain ⟨hSl, hfc, kC, hkC, hkind⟩ := hK.1.1 ci _ hc
  obtain ⟨cf, kf, fi, f, hi, hsl⟩ := hSl j hj
  have hlay := C.2.2.2.2 _ (hin _ (u_in_lay hj))
  unfold u_lay at hlay
  rw [if_pos hfin] at hlay
  have hst := (u_facts hfc hkC (u_lays C.2.2.2.2 hin hj) hi).1
  have hcf : m.cls = cf := by
    obtain ⟨_, _, c', _, _, _, -, -, hf', -, -, -, hown2, -⟩ := Cond.laysFinal_spec hlay
    have e1 : c' = cf := by have := hi.symm.trans hf'; simp at this; exact this.1.symm
    rw [hdecl] at hown2
    rw [← e1]; exact Option.some.inj (C.2.2.2.1.symm.trans hown2)
  have h6 := u_fits hfc hkC hkind (Or.inr hlay) hi (hty j hj) hn hfit
  refine W.putFinK C.1 C.2.1 C.2.2.2.1 (C.2.2.2.2 _ hlink) (hsame ▸ hi) hst hcf hin2 (by rw [q2]; exact h6) q1 q3 (by rw [hsl]; exact k2_hasslot (q4 j hj)) rfl rfl d fun H' e1 e2 e3 => ?_
  rw [hsl] at e1 ⊢
  refine kk H' _ ls (e2.trans hz) (hW.put hl ?_ e3) (hS.put e2 e3 (hW.1 k i hl).2) hls
  unfold jat
  rw [hY]
  exact ⟨_, hc, _, e1, q2, q3, t_set q4 hap hj v⟩
/-- an int array is read -/
theorem j_iald (C : CallFix p m c cc nL s args Ts own) (hK : jK D cl Y E s) {n : Nat} (k i : Nat) (d : decode cc pc = .ok (.iaload, 1)) (hY : Y k = .inr (.int, n)) {x : Int32} (hin : vp_in x n) (hl : lv k i) (kk : J p l e R s m args below meth c Q D cl Y E ad A H0 nL cells slots z lv V (pc + 1) lsv (V k i x.toNatClampNeg :: rest)) : J p l e R s m args below meth c Q D cl Y E ad A H0 nL cells slots z lv V pc lsv (.int x :: .ref (ad k i) :: rest) := by
  intro H locs ls hz hW hS hls
  have hlt : x.toNatClampNeg < n := Nat.not_le.mp fun q => hin (Or.inr q)
  have h0 := (hW.1 k i hl).1
  unfold jat at h0
  rw [hY] at h0
  exact W.iald (v := V k i x.toNatClampNeg) C.1 C.2.1 h0 ((hK.2 k _ hY).1 n (V k i)) (fun q => by cases q) (by show ¬ (x < 0 ∨ (arrV _ _ _).slots.size ≤ _); rw [arrV_size]; exact hin) (by show (arrV _ _ _).slots[_]? = _; rw [arrV_read _ _ hlt]) rfl rfl d (kk H locs ls hz hW hS hls)
theorem j_iast (C : CallFix p m c cc nL s args Ts own) (hK : jK D cl Y E s) {n : Nat} (k i : Nat) (d : decode cc pc = .ok (.iastore, 1)) (hY : Y k = .inr (.int, n)) {x v : Int32} (hin : vp_in x n) (hl : lv k i) (kk : J p l e R s m args below meth c Q D cl Y E ad A H0 nL cells slots z lv (jup V k i x.toNatClampNeg (.int v)) (pc + 1) lsv rest) : J p l e R s m args below meth c Q D cl Y E ad A H0 nL cells slots z lv V pc lsv (.int v :: .int x :: .ref (ad k i) :: rest) := by
  intro H locs ls hz hW hS hls
  have h0 := (hW.1 k i hl).1
  unfold jat at h0
  rw [hY] at h0
  refine W.iast C.1 C.2.1 h0 ((hK.2 k _ hY).1 n (V k i)) (fun q => by cases q) (by show ¬ (x < 0 ∨ (arrV _ _ _).slots.size ≤ _); rw [arrV_size]; exact hin) rfl rfl d fun H1 e z1 oq => ?_
  refine kk H1 _ ls (z1.trans hz) (hW.put hl ?_ oq) (hS.put z1 oq (hW.1 k i hl).2) hls
  unfold jat
  rw [hY]
  show H1[ad k i]? = some (arrV (E k) n _)
  rw [e, arrV_store]
/-- a boolean array is read, written; a long array -/
theorem j_zald (C : CallFix p m c cc nL s args Ts own) (hK : jK D cl Y E s) {n : Nat} (k i : Nat) (d : decode cc pc = .ok (.baload, 1)) (hY : Y k = .inr (.boolean, n)) {x : Int32} (hin : vp_in x n) (hl : lv k i) (kk : J p l e R s m args below meth c Q D cl Y E ad A H0 nL cells slots z lv V (pc + 1) lsv (V k i x.toNatClampNeg :: rest)) : J p l e R s m args below meth c Q D cl Y E ad A H0 nL cells slots z lv V pc lsv (.int x :: .ref (ad k i) :: rest) := by
  intro H locs ls hz hW hS hls
  have hlt : x.toNatClampNeg < n := Nat.not_le.mp fun q => hin (Or.inr q)
  have h0 := (hW.1 k i hl).1
  unfold jat at h0
  rw [hY] at h0
  exact W.zald (v := V k i x.toNatClampNeg) C.1 C.2.1 h0 ((hK.2 k _ hY).1 n (V k i)) (fun q => by cases q) (by show ¬ (x < 0 ∨ (arrV _ _ _).slots.size ≤ _); rw [arrV_size]; exact hin) (by show (arrV _ _ _).slots[_]? = _; rw [arrV_read _ _ hlt]) rfl rfl d (kk H locs ls hz hW hS hls)
theorem j_zast (C : CallFix p m c cc nL s args Ts own) (hK : jK D cl Y E s) {n : Nat} (k i : Nat) (d : decode cc pc = .ok (.bastore, 1)) (hY : Y k = .inr (.boolean, n)) {x v : Int32} (hnar : narrow .boolean (.int v) = .int v) (hin : vp_in x n) (hl : lv k i) (kk : J p l e R s m args below meth c Q D cl Y E ad A H0 nL cells slots z lv (jup V k i x.toNatClampNeg (.int v)) (pc + 1) lsv rest) : J p l e R s m args below meth c Q D cl Y E ad A H0 nL cells slots z lv V pc lsv (.int v :: .int x :: .ref (ad k i) :: rest) := by
  intro H locs ls hz hW hS hls
  have h0 := (hW.1 k i hl).1
  unfold jat at h0
  rw [hY] at h0
  refine W.zast C.1 C.2.1 h0 ((hK.2 k _ hY).1 n (V k i)) (fun q => by cases q) (by show ¬ (x < 0 ∨ (arrV _ _ _).slots.size ≤ _); rw [arrV_size]; exact hin) rfl rfl d fun H1 e z1 oq => ?_
  refine kk H1 _ ls (z1.trans hz) (hW.put hl ?_ oq) (hS.put z1 oq (hW.1 k i hl).2) hls
  unfold jat
  rw [hY]
  show H1[ad k i]? = some (arrV (E k) n _)
  rw [e, hnar, arrV_store]
theorem j_lald (C : CallFix p m c cc nL s args Ts own) (hK : jK D cl Y E s) {n : Nat} (k i : Nat) (d : decode cc pc = .ok (.laload, 1)) (hY : Y k = .inr (.long, n)) {x : Int32} (hin : vp_in x n) (hl : lv k i) (kk : J p l e R s m args below meth c Q D cl Y E ad A H0 nL cells slots z lv V (pc + 1) lsv (V k i x.toNatClampNeg :: rest)) : J p l e R s m args below meth c Q D cl Y E ad A H0 nL cells slots z lv V pc lsv (.int x :: .ref (ad k i) :: rest) := by
  intro H locs ls hz hW hS hls
  have hlt : x.toNatClampNeg < n := Nat.not_le.mp fun q => hin (Or.inr q)
  have h0 := (hW.1 k i hl).1
  unfold jat at h0
  rw [hY] at h0
  exact W.lald (v := V k i x.toNatClampNeg) C.1 C.2.1 h0 ((hK.2 k _ hY).1 n (V k i)) (fun q => by cases q) (by show ¬ (x < 0 ∨ (arrV _ _ _).slots.size ≤ _); rw [arrV_size]; exact hin) (by show (arrV _ _ _).slots[_]? = _; rw [arrV_read _ _ hlt]) rfl rfl d (kk H locs ls hz hW hS hls)
theorem j_last (C : CallFix p m c cc nL s args Ts own) (hK : jK D cl Y E s) {n : Nat} (k i : Nat) (d : decode cc pc = .ok (.lastore, 1)) (hY : Y k = .inr (.long, n)) {x : Int32} {v : Int64} (hin : vp_in x n) (hl : lv k i) (kk : J p l e R s m args below meth c Q D cl Y E ad A H0 nL cells slots z lv (jup V k i x.toNatClampNeg (.long v)) (pc + 1) lsv rest) : J p l e R s m args below meth c Q D cl Y E ad A H0 nL cells slots z lv V pc lsv (.long v :: .int x :: .ref (ad k i) :: rest) := by
  intro H locs ls hz hW hS hls
  have h0 := (hW.1 k i hl).1
  unfold jat at h0
  rw [hY] at h0
  refine W.last C.1 C.2.1 h0 ((hK.2 k _ hY).1 n (V k i)) (fun q => by cases q) (by show ¬ (x < 0 ∨ (arrV _ _ _).slots.size ≤ _); rw [arrV_size]; exact hin) rfl rfl d fun H1 e z1 oq => ?_
  refine kk H1 _ ls (z1.trans hz) (hW.put hl ?_ oq) (hS.put z1 oq (hW.1 k i hl).2) hls
  unfold jat
  rw [hY]
  show H1[ad k i]? = some (arrV (E k) n _)
  rw [e, arrV_store]
/-- an array of references is read -/
theorem j_aald (C : CallFix p m c cc nL s args Ts own) (hK : jK D cl Y E s) {n : Nat} {Cn : String} (k i : Nat) (d : decode cc pc = .ok (.aaload, 1)) (hY : Y k = .inr (.object Cn, n)) {x : Int32} (hin : vp_in x n) (hl : lv k i) (kk : J p l e R s m args below meth c Q D cl Y E ad A H0 nL cells slots z lv V (pc + 1) lsv (V k i x.toNatClampNeg :: rest)) : J p l e R s m args below meth c Q D cl Y E ad A H0 nL cells slots z lv V pc lsv (.int x :: .ref (ad k i) :: rest) := by
  intro H locs ls hz hW hS hls
  have hlt : x.toNatClampNeg < n := Nat.not_le.mp fun q => hin (Or.inr q)
  have h0 := (hW.1 k i hl).1
  unfold jat at h0
  rw [hY] at h0
  exact W.aald (v := V k i x.toNatClampNeg) (ty := .object Cn) C.1 C.2.1 h0 ((hK.2 k _ hY).1 n (V k i)) rfl (fun q => by cases q) (by show ¬ (x < 0 ∨ (arrV _ _ _).slots.size ≤ _); rw [arrV_size]; exact hin) (by show (arrV _ _ _).slots[_]? = _; rw [arrV_read _ _ hlt]) rfl rfl d (kk H locs ls hz hW hS hls)
/-- a reference to an object of the world is stored in an array -/
theorem j_aast (C : CallFix p m c cc nL s args Ts own) (hK : jK D cl Y E s) {n ci : Nat} {r : vw_C} (k i k2 i2 : Nat) (d : decode cc pc = .ok (.aastore, 1)) (hY : Y k = .inr (.object r.1, n)) (hY2 : Y k2 = .inl ci) (hc : cl[ci]? = some r) {x : Int32} (hin : vp_in x n) (hl : lv k i) (hl2 : lv k2 i2) (kk : J p l e R s m args below meth c Q D cl Y E ad A H0 nL cells slots z lv (jup V k i x.toNatClampNeg (.ref (ad k2 i2))) (pc + 1) lsv rest) : J p l e R s m args below meth c Q D cl Y E ad A H0 nL cells slots z lv V pc lsv (.ref (ad k2 i2) :: .int x :: .ref (ad k i) :: rest) := by
  intro H locs ls hz hW hS hls
  have hlt : x.toNatClampNeg < n := Nat.not_le.mp fun q => hin (Or.inr q)
  have hx0 : ¬ x < 0 := fun q => hin (Or.inl q)
  have h0 := (hW.1 k i hl).1
  unfold jat at h0
  rw [hY] at h0
  have g0 := (hW.1 k2 i2 hl2).1
  unfold jat at g0
  rw [hY2] at g0
  obtain ⟨r', hr', cellV, g1, g2, g3, -⟩ := g0
  have hcls := (hK.1.1 ci r hc).2
  obtain ⟨kA, comp, k1, k2', k3, -⟩ := (hK.2 k _ hY).2
  have hcomp : comp = D.1 ci := Option.some.inj (k3.symm.trans hcls.1)
  subst hcomp
  obtain ⟨kC, hkC, -⟩ := hcls.2
  refine W.aast C.1 C.2.1 h0 (fun q h => by cases h) (fun h => by cases h) k1 k2' rfl hkC ⟨hx0, by show _ < (arrV _ _ _).slots.size; rw [arrV_size]; exact hlt⟩ g1 (fun q h => by rw [g3] at h; cases h) (by rw [g2]; exact hkC) (by rw [g2]; exact va_assign hcls) rfl rfl d fun H1 e z1 oq => ?_
  refine kk H1 _ ls (z1.trans hz) (hW.put hl ?_ oq) (hS.put z1 oq (hW.1 k i hl).2) hls
  unfold jat
  rw [hY]
  show H1[ad k i]? = some (arrV (E k) n _)
  rw [e, arrV_store]
theorem j_alen (C : CallFix p m c cc nL s args Ts own) (hK : jK D cl Y E s) {n : Nat} {ty : FieldType} (k i : Nat) (d : decode cc pc = .ok (.arraylength, 1)) (hY : Y k = .inr (ty, n)) (hl : lv k i) (kk : J p l e R s m args below meth c Q D cl Y E ad A H0 nL cells slots z lv V (pc + 1) lsv (.int (Int32.ofNat n) :: rest)) : J p l e R s m args below meth c Q D cl Y E ad A H0 nL cells slots z lv V pc lsv (.ref (ad k i) :: rest) := by
  intro H locs ls hz hW hS hls
  have h0 := (hW.1 k i hl).1
  unfold jat at h0
  rw [hY] at h0
  exact W.alen (n := Int32.ofNat n) C.1 C.2.1 h0 ((hK.2 k _ hY).1 n (V k i)) (by rw [arrV_size] <;> rfl) rfl rfl d (kk H locs ls hz hW hS hls)
/-- the locals forget -/
theorem j_sub {stk : List Value} (lsv' : List (Option Value)) (hs : ∀ (i : Nat) (v : Value), lsv'[i]? = some (some v) → lsv[i]? = some (some v)) (k : J p l e R s m args below meth c Q D cl Y E ad A H0 nL cells slots z lv V pc lsv' stk) : J p l e R s m args below meth c Q D cl Y E ad A H0 nL cells slots z lv V pc lsv stk := fun H locs ls hz hW hS hl => k H locs ls hz hW hS (hl.sub hs)
theorem j_eq {stk stk' : List Value} {V' : jVT} {lsv' : List (Option Value)} (hV : V = V') (hl : lsv = lsv') (hs : stk = stk') (k : J p l e R s m args below meth c Q D cl Y E ad A H0 nL cells slots z lv V' pc lsv' stk') : J p l e R s m args below meth c Q D cl Y E ad A H0 nL cells slots z lv V pc lsv stk := by
  subst hV; subst hl; subst hs; exact k
theorem j_V {stk : List Value} {V' : jVT} (hV : V = V') (k : J p l e R s m args below meth c Q D cl Y E ad A H0 nL cells slots z lv V' pc lsv stk) : J p l e R s m args below meth c Q D cl Y E ad A H0 nL cells slots z lv V pc lsv stk := by
  subst hV; exact k
end JROWS
section JNEW
variable {p : Program} {l : Launch} {e : Env} {R : Room} {s : State} {m : MethodId} {args : Array Value} {below : List Frame} {meth : Method} {c : Code} {cells slots z : Nat} {Q : State → Prop} {D : va_G} {cl : List vw_C} {Y : Nat → Nat ⊕ (FieldType × Nat)} {E : Nat → ClassId} {ad : Nat → Nat → Nat} {lv : Nat → Nat → Prop} {A : Nat → Prop} {H0 : Heap} {cc : ByteArray} {nL : Nat} {Ts : List Cond} {own : String}
variable {V : jVT} {pc : Nat} {lsv : List (Option Value)} {rest : List Value}
def jlv (lv : Nat → Nat → Prop) (k i : Nat) : Nat → Nat → Prop := fun k' i' => lv k' i' ∨ (k' = k ∧ i' = i)
def jnw (V : jVT) (k i : Nat) (f : Nat → Value) : jVT := fun k' i' j' => if k' = k ∧ i' = i then f j' else V k' i' j'
theorem jW.new {H H1 : Heap} {k i : Nat} {f : Nat → Value} (h : jW D cl Y E ad lv V A H) (hf : ¬ lv k i) (had : ad k i = H.size) (hn : jat D cl Y E (ad k i) k f H1) (hA : A (ad k i)) (oq : ∀ q : Nat, q < H.size → H1[q]? = H[q]?) : jW D cl Y E ad (jlv lv k i) (jnw V k i f) A H1 := by
  refine ⟨fun k' i' hl' => ?_, fun k1 i1 k2 i2 h1 h2 he => ?_⟩
  · by_cases hq : k' = k ∧ i' = i
    · obtain ⟨rfl, rfl⟩ := hq
      have e : jnw V k' i' f k' i' = f := by funext j; simp [jnw]
      rw [e]
      exact ⟨hn, hA⟩
    · have hl2 : lv k' i' := hl'.resolve_right hq
      have e : jnw V k i f k' i' = V k' i' := by funext j; simp only [jnw]; rw [if_neg hq]
      rw [e]
      exact ⟨(h.1 _ _ hl2).1.kept (oq _ (h.1 _ _ hl2).1.lt), (h.1 _ _ hl2).2⟩
  · rcases h1 with h1 | ⟨rfl, rfl⟩ <;> rcases h2 with h2 | ⟨rfl, rfl⟩
    · exact h.2 _ _ _ _ h1 h2 he
    · have := (h.1 _ _ h1).1.lt
      rw [he, had] at this
      exact absurd this (Nat.lt_irrefl _)
    · have := (h.1 _ _ h2).1.lt
      rw [← he, had] at this
      exact absurd this (Nat.lt_irrefl _)
    · exact ⟨rfl, rfl⟩
theorem j_new (C : CallFix p m c cc nL s args Ts own) (hK : jK D cl Y E s) (hAz : ∀ q, H0.size ≤ q → A q) {Cn : String} {T : u_T} {N ci index : Nat} (k i : Nat) (ty : Nat → FieldType) (hty : ∀ k, k < N → parseFieldDescriptor (T k).2.2.1 = some (ty k)) (d : decode cc pc = .ok (.new index, 3)) (hin : ∀ w ∈ u_ws Cn T N, w ∈ Ts) (hcl : Cond.classLink own index Cn ∈ Ts) (hinst : Cond.instantiable Cn N ∈ Ts) (hini : Cond.initialized Cn ∈ Ts) (hY : Y k = .inl ci) (hc : cl[ci]? = some (Cn, T, N)) (hf : ¬ lv k i) (had : ad k i = z) (hcells : cells + 1 ≤ R.cells) (hslots : slots + N ≤ R.slots)
    (kk : J p l e R s m args below meth c Q D cl Y E ad A H0 nL (cells + 1) (slots + N) (z + 1) (jlv lv k i) (jnw V k i (fun j => defaultValue (ty j))) (pc + 3) lsv (.ref (ad k i) :: rest)) : J p l e R s m args below meth c Q D cl Y E ad A H0 nL cells slots z lv V pc lsv rest := by
  intro H locs ls hz hW hS hl
  have hKn := hK.1.1 ci _ hc
  refine W.newcK C.1 C.2.1 C.2.2.2.1 (C.2.2.2.2 _ hcl) (C.2.2.2.2 _ hinst) (C.2.2.2.2 _ hini) rfl d hcells hslots hKn.2.1 (h := ad k i) (hz.trans had.symm) fun H1 kC hkC e1 z1 o1 => ?_
  have hH : ad k i = H.size := had.trans hz.symm
  refine kk H1 locs ls (by rw [z1, had]) (hW.new hf hH ?_ (hAz _ (by rw [hH]; exact hS.1)) (fun q hq => o1 q (by rw [hH]; exact hq))) ⟨Nat.le_trans hS.1 (by rw [z1, hH]; omega), fun x h1 h2 => (o1 x (by rw [hH]; exact Nat.lt_of_lt_of_le h1 hS.1)).trans (hS.2.1 x h1 h2), hS.2.2⟩ hl
  unfold jat
  rw [hY]
  exact ⟨_, hc, u_born ty C.2.2.2.2 hin hKn hkC e1 hty⟩
theorem j_newa (C : CallFix p m c cc nL s args Ts own) (hK : jK D cl Y E s) (hAz : ∀ q, H0.size ≤ q → A q) {n : Nat} {x : Int32} (k i : Nat) (d : decode cc pc = .ok (.newarray .int, 2)) (harr : Cond.arrayClass .int ∈ Ts) (hY : Y k = .inr (.int, n)) (hx : ¬ x < 0) (hN : x.toNatClampNeg = n) (hbytes : n * 4 ≤ 536870912) (hf : ¬ lv k i) (had : ad k i = z) (hcells : cells + 1 ≤ R.cells) (hslots : slots + n ≤ R.slots)
    (kk : J p l e R s m args below meth c Q D cl Y E ad A H0 nL (cells + 1) (slots + n) (z + 1) (jlv lv k i) (jnw V k i (fun _ => .int 0)) (pc + 2) lsv (.ref (ad k i) :: rest)) : J p l e R s m args below meth c Q D cl Y E ad A H0 nL cells slots z lv V pc lsv (.int x :: rest) := by
  intro H locs ls hz hW hS hl
  refine va_newaK (atype := .int) C.1 C.2.1 (C.2.2.2.2 _ harr) rfl d rfl hx hN hbytes hcells hslots (h := ad k i) (hz.trans had.symm) fun H1 cA e1 z1 o1 hAr hNm => ?_
  have hH : ad k i = H.size := had.trans hz.symm
  have hcA : cA = E k := Option.some.inj (hNm.symm.trans (hK.2 k _ hY).2)
  refine kk H1 locs ls (by rw [z1, had]) (hW.new hf hH ?_ (hAz _ (by rw [hH]; exact hS.1)) (fun q hq => o1 q (by rw [hH]; exact hq))) ⟨Nat.le_trans hS.1 (by rw [z1, hH]; omega), fun x h1 h2 => (o1 x (by rw [hH]; exact Nat.lt_of_lt_of_le h1 hS.1)).trans (hS.2.1 x h1 h2), hS.2.2⟩ hl
  unfold jat
  rw [hY]
  rw [← hcA]
  exact e1
theorem j_newz (C : CallFix p m c cc nL s args Ts own) (hK : jK D cl Y E s) (hAz : ∀ q, H0.size ≤ q → A q) {n : Nat} {x : Int32} (k i : Nat) (d : decode cc pc = .ok (.newarray .boolean, 2)) (harr : Cond.arrayClass .boolean ∈ Ts) (hY : Y k = .inr (.boolean, n)) (hx : ¬ x < 0) (hN : x.toNatClampNeg = n) (hbytes : n * 1 ≤ 536870912) (hf : ¬ lv k i) (had : ad k i = z) (hcells : cells + 1 ≤ R.cells) (hslots : slots + n ≤ R.slots)
    (kk : J p l e R s m args below meth c Q D cl Y E ad A H0 nL (cells + 1) (slots + n) (z + 1) (jlv lv k i) (jnw V k i (fun _ => .int 0)) (pc + 2) lsv (.ref (ad k i) :: rest)) : J p l e R s m args below meth c Q D cl Y E ad A H0 nL cells slots z lv V pc lsv (.int x :: rest) := by
  intro H locs ls hz hW hS hl
  refine va_newaK (atype := .boolean) C.1 C.2.1 (C.2.2.2.2 _ harr) rfl d rfl hx hN hbytes hcells hslots (h := ad k i) (hz.trans had.symm) fun H1 cA e1 z1 o1 hAr hNm => ?_
  have hH : ad k i = H.size := had.trans hz.symm
  have hcA : cA = E k := Option.some.inj (hNm.symm.trans (hK.2 k _ hY).2)
  refine kk H1 locs ls (by rw [z1, had]) (hW.new hf hH ?_ (hAz _ (by rw [hH]; exact hS.1)) (fun q hq => o1 q (by rw [hH]; exact hq))) ⟨Nat.le_trans hS.1 (by rw [z1, hH]; omega), fun x h1 h2 => (o1 x (by rw [hH]; exact Nat.lt_of_lt_of_le h1 hS.1)).trans (hS.2.1 x h1 h2), hS.2.2⟩ hl
  unfold jat
  rw [hY]
  rw [← hcA]
  exact e1
theorem j_newl (C : CallFix p m c cc nL s args Ts own) (hK : jK D cl Y E s) (hAz : ∀ q, H0.size ≤ q → A q) {n : Nat} {x : Int32} (k i : Nat) (d : decode cc pc = .ok (.newarray .long, 2)) (harr : Cond.arrayClass .long ∈ Ts) (hY : Y k = .inr (.long, n)) (hx : ¬ x < 0) (hN : x.toNatClampNeg = n) (hbytes : n * 8 ≤ 536870912) (hf : ¬ lv k i) (had : ad k i = z) (hcells : cells + 1 ≤ R.cells) (hslots : slots + n ≤ R.slots)
    (kk : J p l e R s m args below meth c Q D cl Y E ad A H0 nL (cells + 1) (slots + n) (z + 1) (jlv lv k i) (jnw V k i (fun _ => .long 0)) (pc + 2) lsv (.ref (ad k i) :: rest)) : J p l e R s m args below meth c Q D cl Y E ad A H0 nL cells slots z lv V pc lsv (.int x :: rest) := by
  intro H locs ls hz hW hS hl
  refine va_newaK (atype := .long) C.1 C.2.1 (C.2.2.2.2 _ harr) rfl d rfl hx hN hbytes hcells hslots (h := ad k i) (hz.trans had.symm) fun H1 cA e1 z1 o1 hAr hNm => ?_
  have hH : ad k i = H.size := had.trans hz.symm
  have hcA : cA = E k := Option.some.inj (hNm.symm.trans (hK.2 k _ hY).2)
  refine kk H1 locs ls (by rw [z1, had]) (hW.new hf hH ?_ (hAz _ (by rw [hH]; exact hS.1)) (fun q hq => o1 q (by rw [hH]; exact hq))) ⟨Nat.le_trans hS.1 (by rw [z1, hH]; omega), fun x h1 h2 => (o1 x (by rw [hH]; exact Nat.lt_of_lt_of_le h1 hS.1)).trans (hS.2.1 x h1 h2), hS.2.2⟩ hl
  unfold jat
  rw [hY]
  rw [← hcA]
  exact e1
theorem j_newq (C : CallFix p m c cc nL s args Ts own) (hK : jK D cl Y E s) (hAz : ∀ q, H0.size ≤ q → A q) {n index : Nat} {x : Int32} {Cn : String} (k i : Nat) (d : decode cc pc = .ok (.anewarray index, 3)) (hcl : Cond.classLink own index Cn ∈ Ts) (harr : Cond.arrayOver (.object Cn) ∈ Ts) (hY : Y k = .inr (.object Cn, n)) (hx : ¬ x < 0) (hN : x.toNatClampNeg = n) (hbytes : n * 4 ≤ 536870912) (hf : ¬ lv k i) (had : ad k i = z) (hcells : cells + 1 ≤ R.cells) (hslots : slots + n ≤ R.slots)
    (kk : J p l e R s m args below meth c Q D cl Y E ad A H0 nL (cells + 1) (slots + n) (z + 1) (jlv lv k i) (jnw V k i (fun _ => .null)) (pc + 3) lsv (.ref (ad k i) :: rest)) : J p l e R s m args below meth c Q D cl Y E ad A H0 nL cells slots z lv V pc lsv (.int x :: rest) := by
  intro H locs ls hz hW hS hl
  subst hN
  refine W.anew C.1 C.2.1 C.2.2.2.1 (C.2.2.2.2 _ hcl) (C.2.2.2.2 _ harr) rfl d rfl hx hbytes hcells hslots fun cA kA comp f1 f2 f3 f4 => ?_
  have hH : ad k i = H.size := had.trans hz.symm
  obtain ⟨kA', comp', g1, g2, g3, g4⟩ := (hK.2 k _ hY).2
  have hcA : cA = E k := Option.some.inj (f1.symm.trans g4)
  generalize hH1 : H.push ({ cls := cA, slots := Array.replicate x.toNatClampNeg .null, vm := .none } : Cell) = H1
  have z1 : H1.size = H.size + 1 := by rw [← hH1, Array.size_push]
  have e1 : H1[H.size]? = some (arrV cA x.toNatClampNeg (fun _ => .null)) := by rw [← hH1, Array.getElem?_push_size, ← arrV_new]
  have o1 : ∀ q : Nat, q < H.size → H1[q]? = H[q]? := fun q hq => by rw [← hH1, Array.getElem?_push, if_neg (Nat.ne_of_lt hq)]
  rw [← hH]
  refine kk H1 locs ls (by rw [z1, hz]) (hW.new hf hH ?_ (hAz _ (by rw [hH]; exact hS.1)) o1) ⟨Nat.le_trans hS.1 (by omega), fun x h1 h2 => (o1 x (Nat.lt_of_lt_of_le h1 hS.1)).trans (hS.2.1 x h1 h2), hS.2.2⟩ hl
  unfold jat
  rw [hY]
  rw [← hcA, hH]
  exact e1
theorem j_objInit (C : CallFix p m c cc nL s args Ts own) {idx a : Nat} (d : decode cc pc = .ok (.invokespecial idx, 3)) (hlink : Cond.methodLink own idx objectInit ∈ Ts) (hinst : Cond.instanceMethod objectInit ∈ Ts) (hcode : Cond.code objectInit ⟨#[0xb1]⟩ 1 none ∈ Ts) (hframes : 1 ≤ R.frames) (hlocals : (rest.map fun v => v.category).sum + 12 ≤ R.locals) (kk : J p l e R s m args below meth c Q D cl Y E ad A H0 nL cells slots z lv V (pc + 3) lsv rest) : J p l e R s m args below meth c Q D cl Y E ad A H0 nL cells slots z lv V pc lsv (.ref a :: rest) := by
  intro H locs ls hz hW hS hl
  refine W.objInit C.1 C.2.1 C.2.2.2.1 (C.2.2.2.2 _ hlink) (C.2.2.2.2 _ hinst) (C.2.2.2.2 _ hcode) rfl (hl.1.trans C.2.2.1.symm) rfl d hframes (by show 2 * 0 + _ + 12 ≤ _; omega) ?_
  exact kk H locs ls hz hW hS hl
theorem j_widen {k n : Nat} {stk : List Value} (h1 : cells ≤ k) (h2 : slots ≤ n) (kk : J p l e R s m args below meth c Q D cl Y E ad A H0 nL k n z lv V pc lsv stk) : J p l e R s m args below meth c Q D cl Y E ad A H0 nL cells slots z lv V pc lsv stk := fun H locs ls hz hW hS hl => W.widen h1 h2 (kk H locs ls hz hW hS hl)
end JNEW
/-- the cells that a method may change -/
def jA (ad : Nat → Nat → Nat) (lv : Nat → Nat → Prop) (sz q : Nat) : Prop := (∃ k i : Nat, lv k i ∧ q = ad k i) ∨ sz ≤ q
def jQ (D : va_G) (cl : List vw_C) (Y : Nat → Nat ⊕ (FieldType × Nat)) (E : Nat → ClassId) (ad : Nat → Nat → Nat) (lv : Nat → Nat → Prop) (sz : Nat) (r : Option Value) (lv' : Nat → Nat → Prop) (V' : jVT) (sz' : Nat) : Array Value → State → Outcome → State → Prop := fun _ st oc t => oc = .returned r ∧ t.heap.size = sz' ∧ jW D cl Y E ad lv' V' (jA ad lv sz) t.heap ∧ va_F (jA ad lv sz) st t
/-- what a method owes: in the world V of lv, the heap of size sz, with these arguments, it answers r, and the world is V' of lv', the heap of size sz' -/
def jC (l : Launch) (y : MethodName) (ws : List Cond) (rm : Room) (D : va_G) (cl : List vw_C) (Y : Nat → Nat ⊕ (FieldType × Nat)) (E : Nat → ClassId) (ad : Nat → Nat → Nat) (lv : Nat → Nat → Prop) (sz : Nat) (V : jVT) (vs : List Value) (r : Option Value) (lv' : Nat → Nat → Prop) (V' : jVT) (sz' mc ms : Nat) : Prop :=
  Met l y ws rm (va_Pc vs (fun U => U.heap.size = sz ∧ jW D cl Y E ad lv V (fun _ => True) U.heap ∧ jK D cl Y E U)) (jQ D cl Y E ad lv sz r lv' V' sz') mc ms (jA ad lv sz)
def jargs (vs : List Value) (n : Nat) : List (Option Value) := vs.map some ++ List.replicate (n - vs.length) none
theorem jh_entry (vs : List Value) {n : Nat} (h : vs.length ≤ n) (hc : ∀ v ∈ vs, v.category = 1) : jh ((lg_sl vs ++ List.replicate (n - (lg_sl vs).length) Slot.unset).toArray) n (jargs vs n) := by
  have hs : lg_sl vs = vs.map Slot.val := by
    unfold lg_sl
    clear h
    induction vs with
    | nil => rfl
    | cons v vs ih =>
      have h1 := hc v List.mem_cons_self
      have h2 := ih (fun w hw => hc w (List.mem_cons_of_mem _ hw))
      rw [List.flatMap_cons, h2, if_neg (by omega)]
      rfl
  have h0 := lv_entry vs (n := n) (by rw [hs, List.length_map]; exact h)
  refine ⟨h0.1, h0.2.1, fun i v hv => ?_⟩
  have hi : i < vs.length := by
    refine Nat.lt_of_not_le fun hle => ?_
    unfold jargs at hv
    rw [List.getElem?_append_right (by rw [List.length_map]; exact hle)] at hv
    have := List.mem_of_getElem? hv
    have h3 := (List.mem_replicate.mp this).2
    cases h3
  unfold jargs at hv
  rw [List.getElem?_append_left (by rw [List.length_map]; exact hi), List.getElem?_map] at hv
  have hv2 : vs[i]? = some v := by
    cases hq : vs[i]? with
    | none => rw [hq] at hv; cases hv
    | some w => rw [hq] at hv; cases hv; rfl
  refine ⟨?_, hc v (List.mem_of_getElem? hv2)⟩
  rw [hs]
  rw [List.getElem?_toArray, List.getElem?_append_left (by rw [List.length_map]; exact hi), List.getElem?_map, hv2]
  rfl
/-- a contract out of a walk from its entry -/
theorem jC.of {l : Launch} {y : MethodName} {ws ws' : List Cond} {rm : Room} {D : va_G} {cl : List vw_C} {Y : Nat → Nat ⊕ (FieldType × Nat)} {E : Nat → ClassId} {ad : Nat → Nat → Nat} {lv lv' : Nat → Nat → Prop} {sz sz' mc ms : Nat} {V V' : jVT} {vs : List Value} {r : Option Value} {cc : ByteArray} {maxL : Nat} {ret : Option FieldType} (own : String)
    (hy : plainName y.cls = true) (hw : ws = Cond.code y cc maxL ret :: ws') (hown : y.cls = own) (hlen : vs.length ≤ maxL) (hcat : ∀ v ∈ vs, v.category = 1)
    (body : ∀ (p : Program) (e : Env) (s : State) (m : MethodId) (below : List Frame) (meth : Method) (c : Code), CallFix p m c cc maxL s vs.toArray ws' own → jK D cl Y E s → meth.sig.returnType = ret → meth.locks = false → meth.name = y.name → s.heap.size = sz → (∀ q, s.heap.size ≤ q → jA ad lv sz q) → J p l e (headSpec ws rm).room s m vs.toArray below meth c (MQ below (jQ D cl Y E ad lv sz r lv' V' sz') vs.toArray s mc ms (jA ad lv sz)) D cl Y E ad (jA ad lv sz) s.heap maxL 0 0 sz lv V 0 (jargs vs maxL) []) : jC l y ws rm D cl Y E ad lv sz V vs r lv' V' sz' mc ms := by
  unfold jC
  refine Met.ofW (cc := cc) (maxL := maxL) (ret := ret) hy hw ?_
  intro p e s m args below meth c s₁ B hml hv
  obtain ⟨rfl, hsz, hW, hK⟩ := hv
  have hts : ∀ w ∈ ws', w.before vs.toArray s = true := fun w h => atoms_spec (ws := ws) B.pre w (by rw [hw]; exact List.mem_cons_of_mem _ h)
  have hown' : s.vm.findClass own = some m.cls := by rw [← hown]; exact findClass_of_methodNamed B.named
  rw [lg_entry_eq]
  exact body p e s m below meth c ⟨B.exec, B.bytes, hml, hown', hts⟩ hK B.returns B.notSynchronized (name_of_methodNamed B.named B.method).1 hsz (fun q hq => Or.inr (by rw [← hsz]; exact hq)) s.heap [] _ hsz (hW.wide (fun k i hl => Or.inl ⟨k, i, hl, rfl⟩)) va_S.rf (jh_entry vs hlen hcat)

section JEND
variable {p : Program} {l : Launch} {e : Env} {R : Room} {s : State} {m : MethodId} {args : Array Value} {below : List Frame} {meth : Method} {c : Code} {cells slots z : Nat} {D : va_G} {cl : List vw_C} {Y : Nat → Nat ⊕ (FieldType × Nat)} {E : Nat → ClassId} {ad : Nat → Nat → Nat} {lv : Nat → Nat → Prop} {cc : ByteArray} {nL : Nat} {Ts : List Cond} {own : String}
variable {V V1 : jVT} {pc sz z1 : Nat} {lsv : List (Option Value)} {rest : List Value} {r : Option Value} {lv0 lv1 : Nat → Nat → Prop}
theorem j_iret (C : CallFix p m c cc nL s args Ts own) (hr : meth.sig.returnType = some .int) (hlocks : meth.locks = false) {v : Int32} (d : decode cc pc = .ok (.ireturn, 1)) (hrr : r = some (.int v)) (hV : V = V1) (hlv : lv = lv1) (hz1 : z = z1) : J p l e R s m args below meth c (MQ below (jQ D cl Y E ad lv0 sz r lv1 V1 z1) args s cells slots (jA ad lv0 sz)) D cl Y E ad (jA ad lv0 sz) s.heap nL cells slots z lv V pc lsv [.int v] := by
  subst hrr; subst hV; subst hlv; subst hz1
  exact fun H locs ls hz hW hS hl => W.iret C.1 C.2.1 hr (fun t ht _ => ⟨rfl, by rw [ht]; exact hz, by rw [ht]; exact hW, hS.F ht⟩) hS.2.2 d hlocks
theorem j_zret (C : CallFix p m c cc nL s args Ts own) (hr : meth.sig.returnType = some .boolean) (hlocks : meth.locks = false) {v : Int32} (hb : narrow .boolean (.int v) = .int v) (d : decode cc pc = .ok (.ireturn, 1)) (hrr : r = some (.int v)) (hV : V = V1) (hlv : lv = lv1) (hz1 : z = z1) : J p l e R s m args below meth c (MQ below (jQ D cl Y E ad lv0 sz r lv1 V1 z1) args s cells slots (jA ad lv0 sz)) D cl Y E ad (jA ad lv0 sz) s.heap nL cells slots z lv V pc lsv [.int v] := by
  subst hrr; subst hV; subst hlv; subst hz1
  exact fun H locs ls hz hW hS hl => W.zret C.1 C.2.1 hr hb (fun t ht _ => ⟨rfl, by rw [ht]; exact hz, by rw [ht]; exact hW, hS.F ht⟩) hS.2.2 d hlocks
theorem j_lret (C : CallFix p m c cc nL s args Ts own) (hr : meth.sig.returnType = some .long) (hlocks : meth.locks = false) {v : Int64} (d : decode cc pc = .ok (.lreturn, 1)) (hrr : r = some (.long v)) (hV : V = V1) (hlv : lv = lv1) (hz1 : z = z1) : J p l e R s m args below meth c (MQ below (jQ D cl Y E ad lv0 sz r lv1 V1 z1) args s cells slots (jA ad lv0 sz)) D cl Y E ad (jA ad lv0 sz) s.heap nL cells slots z lv V pc lsv [.long v] := by
  subst hrr; subst hV; subst hlv; subst hz1
  exact fun H locs ls hz hW hS hl => W.lret C.1 C.2.1 hr (fun t ht _ => ⟨rfl, by rw [ht]; exact hz, by rw [ht]; exact hW, hS.F ht⟩) hS.2.2 d hlocks
theorem j_vret (C : CallFix p m c cc nL s args Ts own) (hr : meth.sig.returnType = none) (hlocks : meth.locks = false) (d : decode cc pc = .ok (.return_, 1)) (hrr : r = none) (hV : V = V1) (hlv : lv = lv1) (hz1 : z = z1) : J p l e R s m args below meth c (MQ below (jQ D cl Y E ad lv0 sz r lv1 V1 z1) args s cells slots (jA ad lv0 sz)) D cl Y E ad (jA ad lv0 sz) s.heap nL cells slots z lv V pc lsv [] := by
  subst hrr; subst hV; subst hlv; subst hz1
  exact fun H locs ls hz hW hS hl => W.vret C.1 C.2.1 hr (fun t ht _ => ⟨rfl, by rw [ht]; exact hz, by rw [ht]; exact hW, hS.F ht⟩) hS.2.2 d hlocks
theorem j_aret (C : CallFix p m c cc nL s args Ts own) {n : String} (hr : meth.sig.returnType = some (.object n)) (hlocks : meth.locks = false) {o : Option Nat} (d : decode cc pc = .ok (.areturn, 1)) (hrr : r = some (va_rf o)) (hV : V = V1) (hlv : lv = lv1) (hz1 : z = z1) : J p l e R s m args below meth c (MQ below (jQ D cl Y E ad lv0 sz r lv1 V1 z1) args s cells slots (jA ad lv0 sz)) D cl Y E ad (jA ad lv0 sz) s.heap nL cells slots z lv V pc lsv [va_rf o] := by
  subst hrr; subst hV; subst hlv; subst hz1
  exact fun H locs ls hz hW hS hl => W.aret C.1 C.2.1 hr (Or.inl ⟨_, rfl⟩) (va_rf_or o) (fun t ht _ => ⟨rfl, by rw [ht]; exact hz, by rw [ht]; exact hW, hS.F ht⟩) hS.2.2 d hlocks
end JEND
section JCALL
variable {p : Program} {l : Launch} {e : Env} {R : Room} {s : State} {m : MethodId} {args : Array Value} {below : List Frame} {meth : Method} {c : Code} {cells slots z : Nat} {Q : State → Prop} {D : va_G} {cl : List vw_C} {Y : Nat → Nat ⊕ (FieldType × Nat)} {E : Nat → ClassId} {ad : Nat → Nat → Nat} {lv : Nat → Nat → Prop} {A : Nat → Prop} {H0 : Heap} {cc : ByteArray} {nL : Nat} {Ts : List Cond} {own : String}
variable {V V1 : jVT} {pc z1 mc ms : Nat} {lv1 : Nat → Nat → Prop} {lsv : List (Option Value)} {rest : List Value} {r : Option Value} {y : MethodName} {bytes : ByteArray} {maxL n index : Nat} {ret : Option FieldType} {ws : List Cond} {rm : Room} {As : List Value} {stk : List Value}
/-- behind a call -/
theorem j_back (hAz : ∀ q, H0.size ≤ q → A q) (hr : ∀ (H : Heap) (locs : List Loc) (ls : Array Slot), H.size = z → jW D cl Y E ad lv V A H → jh ls nL lsv → va_Run p l e R s m args below meth c H locs cells slots mc ms (F0 m pc ls stk) rest (jQ D cl Y E ad lv z r lv1 V1 z1 #[]) (jA ad lv z))
    (kk : J p l e R s m args below meth c Q D cl Y E ad A H0 nL (cells + mc) (slots + ms) z1 lv1 V1 (pc + 3) lsv (jpush r rest)) : J p l e R s m args below meth c Q D cl Y E ad A H0 nL cells slots z lv V pc lsv stk := by
  intro H locs ls hz hW hS hl T hT X
  have hjA : ∀ q, jA ad lv z q → A q := fun q h => by
    rcases h with ⟨k, i, h1, rfl⟩ | h
    · exact (hW.1 k i h1).2
    · exact hAz q (Nat.le_trans hS.1 (by rw [hz]; exact h))
  obtain ⟨v, st₀, t, T', L, h0, X', hL, e1, e2, ⟨hv, hz2, hW1, hz3, hk⟩, st⟩ := hr H locs ls hz hW hl T hT X
  cases hv
  rw [h0] at hz3 hk
  obtain ⟨t2, a1, b1⟩ := kk T'.heap (locs ++ L) ls (by rw [e1]; exact hz2) (by rw [e1]; exact hW1.wide (fun k i h => hjA _ (hW1.1 k i h).2)) ⟨Nat.le_trans hS.1 (by rw [e1]; exact hz3), fun q h1 h2 => by rw [e1, hk q (Nat.lt_of_lt_of_le h1 hS.1) (fun z => h2 (hjA q z))]; exact hS.2.1 q h1 h2, fun q hq => by
      rcases List.mem_append.mp hq with h | h
      · exact hS.2.2 q h
      · exact hjA _ (hL q h)⟩ hl T' rfl X'
  rw [← jpush_eq] at a1
  exact ⟨t2, st t2 a1, b1⟩
theorem jblind {V : jVT} {vs : List Value} : FrameBlind (va_Pc vs (fun U => U.heap.size = z ∧ jW D cl Y E ad lv V (fun _ => True) U.heap ∧ jK D cl Y E U)) := fun a U g mk q => ⟨q.1, q.2.1, q.2.2.1, q.2.2.2.moved (u := U) (U := U.calling g mk a) (Vm.Alike.refl U.vm)⟩
/-- a virtual call on a cell of the world -/
theorem j_callV (C : CallFix p m c cc nL s args Ts own) (hK : jK D cl Y E s) (hAz : ∀ q, H0.size ≤ q → A q) {Cn : String} {T : u_T} {N ci : Nat} (k i : Nat) (hM : jC l y ws rm D cl Y E ad lv z V (.ref (ad k i) :: As) r lv1 V1 z1 mc ms) (cw : CallW R s args own Cn index y bytes maxL ret ws rm mc ms n) (hY : Y k = .inl ci) (hc : cl[ci]? = some (Cn, T, N)) (hl : lv k i) (hn : As.length = n) (hstk : stk = As.reverse ++ .ref (ad k i) :: rest) (hroom : (rest.map fun v => v.category).sum ≤ 8) (d : decode cc pc = .ok (.invokevirtual index, 3)) (hf : cells + mc ≤ R.cells ∧ slots + ms ≤ R.slots)
    (kk : J p l e R s m args below meth c Q D cl Y E ad A H0 nL (cells + mc) (slots + ms) z1 lv1 V1 (pc + 3) lsv (jpush r rest)) : J p l e R s m args below meth c Q D cl Y E ad A H0 nL cells slots z lv V pc lsv stk := by
  refine j_back hAz (fun H locs ls hz hW hls => ?_) kk
  have g0 := (hW.1 k i hl).1
  unfold jat at g0
  rw [hY] at g0
  obtain ⟨r', hr', cellV, g1, g2, g3, -⟩ := g0
  exact va_runV C hM cw ⟨jblind, ⟨cellV, g1, by rw [g3]; rfl, by rw [g2]; exact (hK.1.1 ci _ hc).2.1⟩, fun U hU hWm => ⟨rfl, by rw [hU]; exact hz, by rw [hU]; exact hW.wide (fun _ _ _ => trivial), hK.moved hWm.alike⟩⟩ rfl hn hls.1 hstk (lv_room hroom) d hf
/-- a static call -/
theorem j_callS (C : CallFix p m c cc nL s args Ts own) (hK : jK D cl Y E s) (hAz : ∀ q, H0.size ≤ q → A q) (hM : jC l y ws rm D cl Y E ad lv z V As r lv1 V1 z1 mc ms) (cw : CallB R s args own index y bytes maxL ret ws rm mc ms n ∧ (Cond.static y).before args s = true) (hn : As.length = n) (hstk : stk = As.reverse ++ rest) (hroom : (rest.map fun v => v.category).sum ≤ 8) (d : decode cc pc = .ok (.invokestatic index, 3)) (hf : cells + mc ≤ R.cells ∧ slots + ms ≤ R.slots)
    (kk : J p l e R s m args below meth c Q D cl Y E ad A H0 nL (cells + mc) (slots + ms) z1 lv1 V1 (pc + 3) lsv (jpush r rest)) : J p l e R s m args below meth c Q D cl Y E ad A H0 nL cells slots z lv V pc lsv stk := by
  refine j_back hAz (fun H locs ls hz hW hls => ?_) kk
  exact va_runS (As := As) C hM cw ⟨jblind, fun U hU hWm => ⟨rfl, by rw [hU]; exact hz, by rw [hU]; exact hW.wide (fun _ _ _ => trivial), hK.moved hWm.alike⟩⟩ rfl hn hls.1 hstk (lv_room hroom) d hf
/-- a constructor's call -/
theorem j_callI (C : CallFix p m c cc nL s args Ts own) (hK : jK D cl Y E s) (hAz : ∀ q, H0.size ≤ q → A q) {b : Nat} (hM : jC l y ws rm D cl Y E ad lv z V (.ref b :: As) r lv1 V1 z1 mc ms) (cw : CallB R s args own index y bytes maxL none ws rm mc ms n ∧ y.name = "<init>" ∧ (Cond.instanceMethod y).before args s = true) (hn : As.length = n) (hstk : stk = As.reverse ++ .ref b :: rest) (hroom : (rest.map fun v => v.category).sum ≤ 8) (d : decode cc pc = .ok (.invokespecial index, 3)) (hf : cells + mc ≤ R.cells ∧ slots + ms ≤ R.slots)
    (kk : J p l e R s m args below meth c Q D cl Y E ad A H0 nL (cells + mc) (slots + ms) z1 lv1 V1 (pc + 3) lsv (jpush r rest)) : J p l e R s m args below meth c Q D cl Y E ad A H0 nL cells slots z lv V pc lsv stk := by
  refine j_back hAz (fun H locs ls hz hW hls => ?_) kk
  exact va_runI C hM cw ⟨jblind, fun U hU hWm => ⟨rfl, by rw [hU]; exact hz, by rw [hU]; exact hW.wide (fun _ _ _ => trivial), hK.moved hWm.alike⟩⟩ rfl hn hls.1 hstk (lv_room hroom) d hf
end JCALL
end
