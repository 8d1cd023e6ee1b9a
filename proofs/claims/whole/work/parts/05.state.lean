/-! THE TYPED STORE: ints, references (an index of the kind that the field points to), longs, by (kind, index, field). Kinds: 0 InputRoom, 1 processes[], 2 readyRows[], 3 semaphores[], 4 Words, 5 ring[], 6 Row (0 .. 7 ready, 8 .. 23 of the semaphores), 7 Semaphore, 8 Proc, 9 acts[]; 10 InputRoomModel, 11 made[], 12 priorities[], 13 plans[], 14 done[], 15 rows[], 16 hours[], 17 extra[], 18 words[], 19 posted[]. -/
abbrev sT : Type := (Nat → Nat → Nat → Int32) × (Nat → Nat → Nat → Option Nat) × (Nat → Nat → Nat → Int64)
def sI (σ : sT) (k i j : Nat) (x : Int32) : sT := (fun k' i' j' => if k' = k ∧ i' = i ∧ j' = j then x else σ.1 k' i' j', σ.2)
def sP (σ : sT) (k i j : Nat) (x : Option Nat) : sT := (σ.1, fun k' i' j' => if k' = k ∧ i' = i ∧ j' = j then x else σ.2.1 k' i' j', σ.2.2)
def sL (σ : sT) (k i j : Nat) (x : Int64) : sT := (σ.1, σ.2.1, fun k' i' j' => if k' = k ∧ i' = i ∧ j' = j then x else σ.2.2 k' i' j')
def rno (r : Nat) : Int32 := if r < 8 then nI (r + 1) else nI (r + 8)
/-- 0 an int, 1 a long, 2 a constant of the layout, t + 3 a reference to kind t -/
def tg (k j : Nat) : Nat := match k with
  | 0 => match j with
    | 0 => 2 | 1 => 2 | 2 => 2 | 3 => 2 | 4 => 11 | 5 => 0 | 6 => 11 | 7 => 0 | 8 => 1 | 9 => 10 | 10 => 10 | _ => 0
  | 1 => 11
  | 2 => 2
  | 3 => 2
  | 4 => match j with
    | 0 => 2 | _ => 0
  | 5 => 0
  | 6 => match j with
    | 0 => 2 | _ => 11
  | 7 => match j with
    | 0 => 2 | 1 => 2 | _ => 0
  | 8 => match j with
    | 0 => 2 | 1 => 0 | 2 => 9 | 3 => 2 | 4 => 0 | 5 => 0 | _ => 11
  | 9 => 0
  | 10 => match j with
    | 0 => 2 | 1 => 2 | 2 => 2 | 3 => 2 | 4 => 2 | 5 => 2 | 6 => 1 | 7 => 2 | 8 => 0 | 9 => 0 | 10 => 0 | 11 => 2 | 12 => 0 | 13 => 0 | 14 => 0 | 15 => 0 | 16 => 0 | 17 => 0 | 18 => 1 | 19 => 2 | _ => 0
  | 16 => 1
  | _ => 0
def cv (ad : Nat → Nat → Nat) (k i j : Nat) : Value := match k with
  | 0 => match j with
    | 0 => .ref (ad 1 0) | 1 => .ref (ad 2 0) | 2 => .ref (ad 3 0) | _ => .ref (ad 4 0)
  | 2 => .ref (ad 6 j)
  | 3 => .ref (ad 7 j)
  | 4 => .ref (ad 5 0)
  | 6 => .int (rno i)
  | 7 => match j with
    | 0 => .int (nI i) | _ => .ref (ad 6 (8 + i))
  | 8 => match j with
    | 0 => .int (nI i) | _ => .ref (ad 9 i)
  | _ => match j with
    | 0 => .ref (ad 11 0) | 1 => .ref (ad 12 0) | 2 => .ref (ad 13 0) | 3 => .ref (ad 14 0) | 4 => .ref (ad 15 0) | 5 => .ref (ad 16 0) | 7 => .ref (ad 17 0) | 11 => .ref (ad 18 0) | _ => .ref (ad 19 0)
def tv (ad : Nat → Nat → Nat) (σ : sT) (t k i j : Nat) : Value := match t with
  | 0 => .int (σ.1 k i j)
  | 1 => .long (σ.2.2 k i j)
  | 2 => cv ad k i j
  | t + 3 => va_rf ((σ.2.1 k i j).map (ad t))
def jv (ad : Nat → Nat → Nat) (σ τ : sT) (k i j : Nat) : Value := cond (Nat.blt k 10) (tv ad σ (tg k j) k i j) (tv ad τ (tg k j) k i j)
/-- what each kind is: a class, or an array -/
def jY (k : Nat) : Nat ⊕ (FieldType × Nat) := match k with
  | 0 => .inl 4
  | 1 => .inr (.object "InputRoom$Proc", 32)
  | 2 => .inr (.object "InputRoom$Row", 8)
  | 3 => .inr (.object "InputRoom$Semaphore", 16)
  | 4 => .inl 3
  | 5 => .inr (.int, 64)
  | 6 => .inl 1
  | 7 => .inl 2
  | 8 => .inl 0
  | 9 => .inr (.int, 8)
  | 10 => .inl 5
  | 11 => .inr (.boolean, 32)
  | 12 => .inr (.int, 32)
  | 13 => .inr (.int, 256)
  | 14 => .inr (.int, 32)
  | 15 => .inr (.int, 32)
  | 16 => .inr (.long, 32)
  | 17 => .inr (.int, 16)
  | 18 => .inr (.int, 64)
  | _ => .inr (.int, 65)
theorem suI {ad : Nat → Nat → Nat} {σ τ : sT} {k i j : Nat} {x : Int32} (hk : Nat.blt k 10 = true) (ht : tg k j = 0) : jup (jv ad σ τ) k i j (.int x) = jv ad (sI σ k i j x) τ := by
  funext k' i' j'
  unfold jup jv
  by_cases h : k' = k ∧ i' = i ∧ j' = j
  · obtain ⟨rfl, rfl, rfl⟩ := h
    rw [if_pos ⟨rfl, rfl, rfl⟩, hk, ht]
    simp [tv, sI]
  · rw [if_neg h]
    have e : ∀ t, tv ad (sI σ k i j x) t k' i' j' = tv ad σ t k' i' j' := by
      intro t
      unfold tv
      split
      · simp only [sI]; rw [if_neg h]
      · simp only [sI]
      · rfl
      · simp only [sI]
    rw [e]
theorem suL {ad : Nat → Nat → Nat} {σ τ : sT} {k i j : Nat} {x : Int64} (hk : Nat.blt k 10 = true) (ht : tg k j = 1) : jup (jv ad σ τ) k i j (.long x) = jv ad (sL σ k i j x) τ := by
  funext k' i' j'
  unfold jup jv
  by_cases h : k' = k ∧ i' = i ∧ j' = j
  · obtain ⟨rfl, rfl, rfl⟩ := h
    rw [if_pos ⟨rfl, rfl, rfl⟩, hk, ht]
    simp [tv, sL]
  · rw [if_neg h]
    have e : ∀ t, tv ad (sL σ k i j x) t k' i' j' = tv ad σ t k' i' j' := by
      intro t
      unfold tv
      split
      · simp only [sL]
      · simp only [sL]; rw [if_neg h]
      · rfl
      · simp only [sL]
    rw [e]
theorem suP {ad : Nat → Nat → Nat} {σ τ : sT} {k i j t : Nat} {x : Option Nat} (hk : Nat.blt k 10 = true) (ht : tg k j = t + 3) : jup (jv ad σ τ) k i j (va_rf (x.map (ad t))) = jv ad (sP σ k i j x) τ := by
  funext k' i' j'
  unfold jup jv
  by_cases h : k' = k ∧ i' = i ∧ j' = j
  · obtain ⟨rfl, rfl, rfl⟩ := h
    rw [if_pos ⟨rfl, rfl, rfl⟩, hk, ht]
    simp [tv, sP]
  · rw [if_neg h]
    have e : ∀ t, tv ad (sP σ k i j x) t k' i' j' = tv ad σ t k' i' j' := by
      intro t
      unfold tv
      split
      · simp only [sP]
      · simp only [sP]
      · rfl
      · simp only [sP]; rw [if_neg h]
    rw [e]
theorem tuI {ad : Nat → Nat → Nat} {σ τ : sT} {k i j : Nat} {x : Int32} (hk : Nat.blt k 10 = false) (ht : tg k j = 0) : jup (jv ad σ τ) k i j (.int x) = jv ad σ (sI τ k i j x) := by
  funext k' i' j'
  unfold jup jv
  by_cases h : k' = k ∧ i' = i ∧ j' = j
  · obtain ⟨rfl, rfl, rfl⟩ := h
    rw [if_pos ⟨rfl, rfl, rfl⟩, hk, ht]
    simp [tv, sI]
  · rw [if_neg h]
    have e : ∀ t, tv ad (sI τ k i j x) t k' i' j' = tv ad τ t k' i' j' := by
      intro t
      unfold tv
      split
      · simp only [sI]; rw [if_neg h]
      · simp only [sI]
      · rfl
      · simp only [sI]
    rw [e]
theorem tuL {ad : Nat → Nat → Nat} {σ τ : sT} {k i j : Nat} {x : Int64} (hk : Nat.blt k 10 = false) (ht : tg k j = 1) : jup (jv ad σ τ) k i j (.long x) = jv ad σ (sL τ k i j x) := by
  funext k' i' j'
  unfold jup jv
  by_cases h : k' = k ∧ i' = i ∧ j' = j
  · obtain ⟨rfl, rfl, rfl⟩ := h
    rw [if_pos ⟨rfl, rfl, rfl⟩, hk, ht]
    simp [tv, sL]
  · rw [if_neg h]
    have e : ∀ t, tv ad (sL τ k i j x) t k' i' j' = tv ad τ t k' i' j' := by
      intro t
      unfold tv
      split
      · simp only [sL]
      · simp only [sL]; rw [if_neg h]
      · rfl
      · simp only [sL]
    rw [e]
theorem tuP {ad : Nat → Nat → Nat} {σ τ : sT} {k i j t : Nat} {x : Option Nat} (hk : Nat.blt k 10 = false) (ht : tg k j = t + 3) : jup (jv ad σ τ) k i j (va_rf (x.map (ad t))) = jv ad σ (sP τ k i j x) := by
  funext k' i' j'
  unfold jup jv
  by_cases h : k' = k ∧ i' = i ∧ j' = j
  · obtain ⟨rfl, rfl, rfl⟩ := h
    rw [if_pos ⟨rfl, rfl, rfl⟩, hk, ht]
    simp [tv, sP]
  · rw [if_neg h]
    have e : ∀ t, tv ad (sP τ k i j x) t k' i' j' = tv ad τ t k' i' j' := by
      intro t
      unfold tv
      split
      · simp only [sP]
      · simp only [sP]
      · rfl
      · simp only [sP]; rw [if_neg h]
    rw [e]
section TROWS
variable {p : Program} {l : Launch} {e : Env} {R : Room} {s : State} {m : MethodId} {args : Array Value} {below : List Frame} {meth : Method} {c : Code} {cells slots z : Nat} {Q : State → Prop} {D : va_G} {E : Nat → ClassId} {ad : Nat → Nat → Nat} {lv : Nat → Nat → Prop} {A : Nat → Prop} {H0 : Heap} {cc : ByteArray} {nL : Nat} {own : String}
variable {σ τ : sT} {pc : Nat} {lsv : List (Option Value)} {rest : List Value}
theorem sgI (C : CallFix p m c cc nL s args jT own) (hK : jK D jcl jY E s) {ref Cn : String} {T : u_T} {N ci index : Nat} (k i j : Nat) (d : decode cc pc = .ok (.getfield index, 3)) (hin : ∀ w ∈ u_ws Cn T N, w ∈ jT) (hY : jY k = .inl ci) (hc : jcl[ci]? = some (Cn, T, N)) (hj : j < N) (hlink : Cond.fieldLink own index ref (T j).2.1 (T j).2.2.1 ∈ jT) (hsame : (T j).1 = ref) (hk : Nat.blt k 10 = true) (ht : tg k j = 0) (hl : lv k i) (kk : J p l e R s m args below meth c Q D jcl jY E ad A H0 nL cells slots z lv (jv ad σ τ) (pc + 3) lsv (.int (σ.1 k i j) :: rest)) : J p l e R s m args below meth c Q D jcl jY E ad A H0 nL cells slots z lv (jv ad σ τ) pc lsv (.ref (ad k i) :: rest) := by
  refine j_get C hK k i j d hin hY hc hj hlink hsame hl ?_
  rw [(show jv ad σ τ k i j = .int (σ.1 k i j) by unfold jv; rw [hk, ht]; rfl)]
  exact kk
theorem sgL (C : CallFix p m c cc nL s args jT own) (hK : jK D jcl jY E s) {ref Cn : String} {T : u_T} {N ci index : Nat} (k i j : Nat) (d : decode cc pc = .ok (.getfield index, 3)) (hin : ∀ w ∈ u_ws Cn T N, w ∈ jT) (hY : jY k = .inl ci) (hc : jcl[ci]? = some (Cn, T, N)) (hj : j < N) (hlink : Cond.fieldLink own index ref (T j).2.1 (T j).2.2.1 ∈ jT) (hsame : (T j).1 = ref) (hk : Nat.blt k 10 = true) (ht : tg k j = 1) (hl : lv k i) (kk : J p l e R s m args below meth c Q D jcl jY E ad A H0 nL cells slots z lv (jv ad σ τ) (pc + 3) lsv (.long (σ.2.2 k i j) :: rest)) : J p l e R s m args below meth c Q D jcl jY E ad A H0 nL cells slots z lv (jv ad σ τ) pc lsv (.ref (ad k i) :: rest) := by
  refine j_get C hK k i j d hin hY hc hj hlink hsame hl ?_
  rw [(show jv ad σ τ k i j = .long (σ.2.2 k i j) by unfold jv; rw [hk, ht]; rfl)]
  exact kk
theorem sgC (C : CallFix p m c cc nL s args jT own) (hK : jK D jcl jY E s) {ref Cn : String} {T : u_T} {N ci index : Nat} (k i j : Nat) (d : decode cc pc = .ok (.getfield index, 3)) (hin : ∀ w ∈ u_ws Cn T N, w ∈ jT) (hY : jY k = .inl ci) (hc : jcl[ci]? = some (Cn, T, N)) (hj : j < N) (hlink : Cond.fieldLink own index ref (T j).2.1 (T j).2.2.1 ∈ jT) (hsame : (T j).1 = ref) (hk : Nat.blt k 10 = true) (ht : tg k j = 2) (hl : lv k i) (kk : J p l e R s m args below meth c Q D jcl jY E ad A H0 nL cells slots z lv (jv ad σ τ) (pc + 3) lsv (cv ad k i j :: rest)) : J p l e R s m args below meth c Q D jcl jY E ad A H0 nL cells slots z lv (jv ad σ τ) pc lsv (.ref (ad k i) :: rest) := by
  refine j_get C hK k i j d hin hY hc hj hlink hsame hl ?_
  rw [(show jv ad σ τ k i j = cv ad k i j by unfold jv; rw [hk, ht]; rfl)]
  exact kk
theorem sgR (C : CallFix p m c cc nL s args jT own) (hK : jK D jcl jY E s) {t : Nat} {ref Cn : String} {T : u_T} {N ci index : Nat} (k i j : Nat) (d : decode cc pc = .ok (.getfield index, 3)) (hin : ∀ w ∈ u_ws Cn T N, w ∈ jT) (hY : jY k = .inl ci) (hc : jcl[ci]? = some (Cn, T, N)) (hj : j < N) (hlink : Cond.fieldLink own index ref (T j).2.1 (T j).2.2.1 ∈ jT) (hsame : (T j).1 = ref) (hk : Nat.blt k 10 = true) (ht : tg k j = t + 3) (hl : lv k i) (kk : J p l e R s m args below meth c Q D jcl jY E ad A H0 nL cells slots z lv (jv ad σ τ) (pc + 3) lsv (va_rf ((σ.2.1 k i j).map (ad t)) :: rest)) : J p l e R s m args below meth c Q D jcl jY E ad A H0 nL cells slots z lv (jv ad σ τ) pc lsv (.ref (ad k i) :: rest) := by
  refine j_get C hK k i j d hin hY hc hj hlink hsame hl ?_
  rw [(show jv ad σ τ k i j = va_rf ((σ.2.1 k i j).map (ad t)) by unfold jv; rw [hk, ht]; rfl)]
  exact kk
theorem spI (C : CallFix p m c cc nL s args jT own) (hK : jK D jcl jY E s) {ref Cn : String} {T : u_T} {N ci index : Nat} (k i j : Nat) (ty0 : Nat → FieldType) (hty : ∀ k, k < N → parseFieldDescriptor (T k).2.2.1 = some (ty0 k)) (hnm : ∀ a, a < N → ∀ b, b < N → a ≠ b → (T a).2.1 ≠ (T b).2.1) (d : decode cc pc = .ok (.putfield index, 3)) (hin : ∀ w ∈ u_ws Cn T N, w ∈ jT) (hY : jY k = .inl ci) (hc : jcl[ci]? = some (Cn, T, N)) (hj : j < N) (hlink : Cond.fieldLink own index ref (T j).2.1 (T j).2.2.1 ∈ jT) (hsame : (T j).1 = ref) (hfin : (T j).2.2.2 = false) (hk : Nat.blt k 10 = true) (ht : tg k j = 0) (x : Int32) (hn : narrow (ty0 j) (.int x) = .int x) (hfit : fits (ty0 j) (.int x) = true) (hl : lv k i) (kk : J p l e R s m args below meth c Q D jcl jY E ad A H0 nL cells slots z lv (jv ad (sI σ k i j x) τ) (pc + 3) lsv rest) : J p l e R s m args below meth c Q D jcl jY E ad A H0 nL cells slots z lv (jv ad σ τ) pc lsv (.int x :: .ref (ad k i) :: rest) := by
  refine j_put C hK k i j ty0 hty hnm d hin hY hc hj hlink hsame hfin hn hfit hl ?_
  rw [suI hk ht]
  exact kk
theorem spL (C : CallFix p m c cc nL s args jT own) (hK : jK D jcl jY E s) {ref Cn : String} {T : u_T} {N ci index : Nat} (k i j : Nat) (ty0 : Nat → FieldType) (hty : ∀ k, k < N → parseFieldDescriptor (T k).2.2.1 = some (ty0 k)) (hnm : ∀ a, a < N → ∀ b, b < N → a ≠ b → (T a).2.1 ≠ (T b).2.1) (d : decode cc pc = .ok (.putfield index, 3)) (hin : ∀ w ∈ u_ws Cn T N, w ∈ jT) (hY : jY k = .inl ci) (hc : jcl[ci]? = some (Cn, T, N)) (hj : j < N) (hlink : Cond.fieldLink own index ref (T j).2.1 (T j).2.2.1 ∈ jT) (hsame : (T j).1 = ref) (hfin : (T j).2.2.2 = false) (hk : Nat.blt k 10 = true) (ht : tg k j = 1) (x : Int64) (hn : narrow (ty0 j) (.long x) = .long x) (hfit : fits (ty0 j) (.long x) = true) (hl : lv k i) (kk : J p l e R s m args below meth c Q D jcl jY E ad A H0 nL cells slots z lv (jv ad (sL σ k i j x) τ) (pc + 3) lsv rest) : J p l e R s m args below meth c Q D jcl jY E ad A H0 nL cells slots z lv (jv ad σ τ) pc lsv (.long x :: .ref (ad k i) :: rest) := by
  refine j_put C hK k i j ty0 hty hnm d hin hY hc hj hlink hsame hfin hn hfit hl ?_
  rw [suL hk ht]
  exact kk
theorem spP (C : CallFix p m c cc nL s args jT own) (hK : jK D jcl jY E s) {t : Nat} {ref Cn : String} {T : u_T} {N ci index : Nat} (k i j : Nat) (ty0 : Nat → FieldType) (hty : ∀ k, k < N → parseFieldDescriptor (T k).2.2.1 = some (ty0 k)) (hnm : ∀ a, a < N → ∀ b, b < N → a ≠ b → (T a).2.1 ≠ (T b).2.1) (d : decode cc pc = .ok (.putfield index, 3)) (hin : ∀ w ∈ u_ws Cn T N, w ∈ jT) (hY : jY k = .inl ci) (hc : jcl[ci]? = some (Cn, T, N)) (hj : j < N) (hlink : Cond.fieldLink own index ref (T j).2.1 (T j).2.2.1 ∈ jT) (hsame : (T j).1 = ref) (hfin : (T j).2.2.2 = false) (hk : Nat.blt k 10 = true) (ht : tg k j = t + 3) (x : Option Nat) (hn : narrow (ty0 j) (va_rf (x.map (ad t))) = va_rf (x.map (ad t))) (hfit : fits (ty0 j) (va_rf (x.map (ad t))) = true) (hl : lv k i) (kk : J p l e R s m args below meth c Q D jcl jY E ad A H0 nL cells slots z lv (jv ad (sP σ k i j x) τ) (pc + 3) lsv rest) : J p l e R s m args below meth c Q D jcl jY E ad A H0 nL cells slots z lv (jv ad σ τ) pc lsv (va_rf (x.map (ad t)) :: .ref (ad k i) :: rest) := by
  refine j_put C hK k i j ty0 hty hnm d hin hY hc hj hlink hsame hfin hn hfit hl ?_
  rw [suP hk ht]
  exact kk
theorem sia (C : CallFix p m c cc nL s args jT own) (hK : jK D jcl jY E s) {n : Nat} (k i : Nat) (d : decode cc pc = .ok (.iaload, 1)) (hY : jY k = .inr (.int, n)) {x : Int32} (hin : vp_in x n) (hk : Nat.blt k 10 = true) (ht : tg k x.toNatClampNeg = 0) (hl : lv k i) (kk : J p l e R s m args below meth c Q D jcl jY E ad A H0 nL cells slots z lv (jv ad σ τ) (pc + 1) lsv (.int (σ.1 k i x.toNatClampNeg) :: rest)) : J p l e R s m args below meth c Q D jcl jY E ad A H0 nL cells slots z lv (jv ad σ τ) pc lsv (.int x :: .ref (ad k i) :: rest) := by
  refine j_iald C hK k i d hY hin hl ?_
  rw [(show jv ad σ τ k i x.toNatClampNeg = .int (σ.1 k i x.toNatClampNeg) by unfold jv; rw [hk, ht]; rfl)]
  exact kk
theorem sza (C : CallFix p m c cc nL s args jT own) (hK : jK D jcl jY E s) {n : Nat} (k i : Nat) (d : decode cc pc = .ok (.baload, 1)) (hY : jY k = .inr (.boolean, n)) {x : Int32} (hin : vp_in x n) (hk : Nat.blt k 10 = true) (ht : tg k x.toNatClampNeg = 0) (hl : lv k i) (kk : J p l e R s m args below meth c Q D jcl jY E ad A H0 nL cells slots z lv (jv ad σ τ) (pc + 1) lsv (.int (σ.1 k i x.toNatClampNeg) :: rest)) : J p l e R s m args below meth c Q D jcl jY E ad A H0 nL cells slots z lv (jv ad σ τ) pc lsv (.int x :: .ref (ad k i) :: rest) := by
  refine j_zald C hK k i d hY hin hl ?_
  rw [(show jv ad σ τ k i x.toNatClampNeg = .int (σ.1 k i x.toNatClampNeg) by unfold jv; rw [hk, ht]; rfl)]
  exact kk
theorem sla (C : CallFix p m c cc nL s args jT own) (hK : jK D jcl jY E s) {n : Nat} (k i : Nat) (d : decode cc pc = .ok (.laload, 1)) (hY : jY k = .inr (.long, n)) {x : Int32} (hin : vp_in x n) (hk : Nat.blt k 10 = true) (ht : tg k x.toNatClampNeg = 1) (hl : lv k i) (kk : J p l e R s m args below meth c Q D jcl jY E ad A H0 nL cells slots z lv (jv ad σ τ) (pc + 1) lsv (.long (σ.2.2 k i x.toNatClampNeg) :: rest)) : J p l e R s m args below meth c Q D jcl jY E ad A H0 nL cells slots z lv (jv ad σ τ) pc lsv (.int x :: .ref (ad k i) :: rest) := by
  refine j_lald C hK k i d hY hin hl ?_
  rw [(show jv ad σ τ k i x.toNatClampNeg = .long (σ.2.2 k i x.toNatClampNeg) by unfold jv; rw [hk, ht]; rfl)]
  exact kk
theorem saR (C : CallFix p m c cc nL s args jT own) (hK : jK D jcl jY E s) {n t : Nat} {Cn : String} (k i : Nat) (d : decode cc pc = .ok (.aaload, 1)) (hY : jY k = .inr (.object Cn, n)) {x : Int32} (hin : vp_in x n) (hk : Nat.blt k 10 = true) (ht : tg k x.toNatClampNeg = t + 3) (hl : lv k i) (kk : J p l e R s m args below meth c Q D jcl jY E ad A H0 nL cells slots z lv (jv ad σ τ) (pc + 1) lsv (va_rf ((σ.2.1 k i x.toNatClampNeg).map (ad t)) :: rest)) : J p l e R s m args below meth c Q D jcl jY E ad A H0 nL cells slots z lv (jv ad σ τ) pc lsv (.int x :: .ref (ad k i) :: rest) := by
  refine j_aald C hK k i d hY hin hl ?_
  rw [(show jv ad σ τ k i x.toNatClampNeg = va_rf ((σ.2.1 k i x.toNatClampNeg).map (ad t)) by unfold jv; rw [hk, ht]; rfl)]
  exact kk
theorem saC (C : CallFix p m c cc nL s args jT own) (hK : jK D jcl jY E s) {n : Nat} {Cn : String} (k i : Nat) (d : decode cc pc = .ok (.aaload, 1)) (hY : jY k = .inr (.object Cn, n)) {x : Int32} (hin : vp_in x n) (hk : Nat.blt k 10 = true) (ht : tg k x.toNatClampNeg = 2) (hl : lv k i) (kk : J p l e R s m args below meth c Q D jcl jY E ad A H0 nL cells slots z lv (jv ad σ τ) (pc + 1) lsv (cv ad k i x.toNatClampNeg :: rest)) : J p l e R s m args below meth c Q D jcl jY E ad A H0 nL cells slots z lv (jv ad σ τ) pc lsv (.int x :: .ref (ad k i) :: rest) := by
  refine j_aald C hK k i d hY hin hl ?_
  rw [(show jv ad σ τ k i x.toNatClampNeg = cv ad k i x.toNatClampNeg by unfold jv; rw [hk, ht]; rfl)]
  exact kk
theorem sia_st (C : CallFix p m c cc nL s args jT own) (hK : jK D jcl jY E s) {n : Nat} (k i : Nat) (d : decode cc pc = .ok (.iastore, 1)) (hY : jY k = .inr (.int, n)) {x v : Int32} (hin : vp_in x n) (hk : Nat.blt k 10 = true) (ht : tg k x.toNatClampNeg = 0) (hl : lv k i) (kk : J p l e R s m args below meth c Q D jcl jY E ad A H0 nL cells slots z lv (jv ad (sI σ k i x.toNatClampNeg v) τ) (pc + 1) lsv rest) : J p l e R s m args below meth c Q D jcl jY E ad A H0 nL cells slots z lv (jv ad σ τ) pc lsv (.int v :: .int x :: .ref (ad k i) :: rest) := by
  refine j_iast C hK k i d hY hin hl ?_
  rw [suI hk ht]
  exact kk
theorem sza_st (C : CallFix p m c cc nL s args jT own) (hK : jK D jcl jY E s) {n : Nat} (k i : Nat) (d : decode cc pc = .ok (.bastore, 1)) (hY : jY k = .inr (.boolean, n)) {x v : Int32} (hnar : narrow .boolean (.int v) = .int v) (hin : vp_in x n) (hk : Nat.blt k 10 = true) (ht : tg k x.toNatClampNeg = 0) (hl : lv k i) (kk : J p l e R s m args below meth c Q D jcl jY E ad A H0 nL cells slots z lv (jv ad (sI σ k i x.toNatClampNeg v) τ) (pc + 1) lsv rest) : J p l e R s m args below meth c Q D jcl jY E ad A H0 nL cells slots z lv (jv ad σ τ) pc lsv (.int v :: .int x :: .ref (ad k i) :: rest) := by
  refine j_zast C hK k i d hY hnar hin hl ?_
  rw [suI hk ht]
  exact kk
theorem sla_st (C : CallFix p m c cc nL s args jT own) (hK : jK D jcl jY E s) {n : Nat} (k i : Nat) (d : decode cc pc = .ok (.lastore, 1)) (hY : jY k = .inr (.long, n)) {x : Int32} {v : Int64} (hin : vp_in x n) (hk : Nat.blt k 10 = true) (ht : tg k x.toNatClampNeg = 1) (hl : lv k i) (kk : J p l e R s m args below meth c Q D jcl jY E ad A H0 nL cells slots z lv (jv ad (sL σ k i x.toNatClampNeg v) τ) (pc + 1) lsv rest) : J p l e R s m args below meth c Q D jcl jY E ad A H0 nL cells slots z lv (jv ad σ τ) pc lsv (.long v :: .int x :: .ref (ad k i) :: rest) := by
  refine j_last C hK k i d hY hin hl ?_
  rw [suL hk ht]
  exact kk
theorem tgI (C : CallFix p m c cc nL s args jT own) (hK : jK D jcl jY E s) {ref Cn : String} {T : u_T} {N ci index : Nat} (k i j : Nat) (d : decode cc pc = .ok (.getfield index, 3)) (hin : ∀ w ∈ u_ws Cn T N, w ∈ jT) (hY : jY k = .inl ci) (hc : jcl[ci]? = some (Cn, T, N)) (hj : j < N) (hlink : Cond.fieldLink own index ref (T j).2.1 (T j).2.2.1 ∈ jT) (hsame : (T j).1 = ref) (hk : Nat.blt k 10 = false) (ht : tg k j = 0) (hl : lv k i) (kk : J p l e R s m args below meth c Q D jcl jY E ad A H0 nL cells slots z lv (jv ad σ τ) (pc + 3) lsv (.int (τ.1 k i j) :: rest)) : J p l e R s m args below meth c Q D jcl jY E ad A H0 nL cells slots z lv (jv ad σ τ) pc lsv (.ref (ad k i) :: rest) := by
  refine j_get C hK k i j d hin hY hc hj hlink hsame hl ?_
  rw [(show jv ad σ τ k i j = .int (τ.1 k i j) by unfold jv; rw [hk, ht]; rfl)]
  exact kk
theorem tgL (C : CallFix p m c cc nL s args jT own) (hK : jK D jcl jY E s) {ref Cn : String} {T : u_T} {N ci index : Nat} (k i j : Nat) (d : decode cc pc = .ok (.getfield index, 3)) (hin : ∀ w ∈ u_ws Cn T N, w ∈ jT) (hY : jY k = .inl ci) (hc : jcl[ci]? = some (Cn, T, N)) (hj : j < N) (hlink : Cond.fieldLink own index ref (T j).2.1 (T j).2.2.1 ∈ jT) (hsame : (T j).1 = ref) (hk : Nat.blt k 10 = false) (ht : tg k j = 1) (hl : lv k i) (kk : J p l e R s m args below meth c Q D jcl jY E ad A H0 nL cells slots z lv (jv ad σ τ) (pc + 3) lsv (.long (τ.2.2 k i j) :: rest)) : J p l e R s m args below meth c Q D jcl jY E ad A H0 nL cells slots z lv (jv ad σ τ) pc lsv (.ref (ad k i) :: rest) := by
  refine j_get C hK k i j d hin hY hc hj hlink hsame hl ?_
  rw [(show jv ad σ τ k i j = .long (τ.2.2 k i j) by unfold jv; rw [hk, ht]; rfl)]
  exact kk
theorem tgC (C : CallFix p m c cc nL s args jT own) (hK : jK D jcl jY E s) {ref Cn : String} {T : u_T} {N ci index : Nat} (k i j : Nat) (d : decode cc pc = .ok (.getfield index, 3)) (hin : ∀ w ∈ u_ws Cn T N, w ∈ jT) (hY : jY k = .inl ci) (hc : jcl[ci]? = some (Cn, T, N)) (hj : j < N) (hlink : Cond.fieldLink own index ref (T j).2.1 (T j).2.2.1 ∈ jT) (hsame : (T j).1 = ref) (hk : Nat.blt k 10 = false) (ht : tg k j = 2) (hl : lv k i) (kk : J p l e R s m args below meth c Q D jcl jY E ad A H0 nL cells slots z lv (jv ad σ τ) (pc + 3) lsv (cv ad k i j :: rest)) : J p l e R s m args below meth c Q D jcl jY E ad A H0 nL cells slots z lv (jv ad σ τ) pc lsv (.ref (ad k i) :: rest) := by
  refine j_get C hK k i j d hin hY hc hj hlink hsame hl ?_
  rw [(show jv ad σ τ k i j = cv ad k i j by unfold jv; rw [hk, ht]; rfl)]
  exact kk
theorem tgR (C : CallFix p m c cc nL s args jT own) (hK : jK D jcl jY E s) {t : Nat} {ref Cn : String} {T : u_T} {N ci index : Nat} (k i j : Nat) (d : decode cc pc = .ok (.getfield index, 3)) (hin : ∀ w ∈ u_ws Cn T N, w ∈ jT) (hY : jY k = .inl ci) (hc : jcl[ci]? = some (Cn, T, N)) (hj : j < N) (hlink : Cond.fieldLink own index ref (T j).2.1 (T j).2.2.1 ∈ jT) (hsame : (T j).1 = ref) (hk : Nat.blt k 10 = false) (ht : tg k j = t + 3) (hl : lv k i) (kk : J p l e R s m args below meth c Q D jcl jY E ad A H0 nL cells slots z lv (jv ad σ τ) (pc + 3) lsv (va_rf ((τ.2.1 k i j).map (ad t)) :: rest)) : J p l e R s m args below meth c Q D jcl jY E ad A H0 nL cells slots z lv (jv ad σ τ) pc lsv (.ref (ad k i) :: rest) := by
  refine j_get C hK k i j d hin hY hc hj hlink hsame hl ?_
  rw [(show jv ad σ τ k i j = va_rf ((τ.2.1 k i j).map (ad t)) by unfold jv; rw [hk, ht]; rfl)]
  exact kk
theorem tpI (C : CallFix p m c cc nL s args jT own) (hK : jK D jcl jY E s) {ref Cn : String} {T : u_T} {N ci index : Nat} (k i j : Nat) (ty0 : Nat → FieldType) (hty : ∀ k, k < N → parseFieldDescriptor (T k).2.2.1 = some (ty0 k)) (hnm : ∀ a, a < N → ∀ b, b < N → a ≠ b → (T a).2.1 ≠ (T b).2.1) (d : decode cc pc = .ok (.putfield index, 3)) (hin : ∀ w ∈ u_ws Cn T N, w ∈ jT) (hY : jY k = .inl ci) (hc : jcl[ci]? = some (Cn, T, N)) (hj : j < N) (hlink : Cond.fieldLink own index ref (T j).2.1 (T j).2.2.1 ∈ jT) (hsame : (T j).1 = ref) (hfin : (T j).2.2.2 = false) (hk : Nat.blt k 10 = false) (ht : tg k j = 0) (x : Int32) (hn : narrow (ty0 j) (.int x) = .int x) (hfit : fits (ty0 j) (.int x) = true) (hl : lv k i) (kk : J p l e R s m args below meth c Q D jcl jY E ad A H0 nL cells slots z lv (jv ad σ (sI τ k i j x)) (pc + 3) lsv rest) : J p l e R s m args below meth c Q D jcl jY E ad A H0 nL cells slots z lv (jv ad σ τ) pc lsv (.int x :: .ref (ad k i) :: rest) := by
  refine j_put C hK k i j ty0 hty hnm d hin hY hc hj hlink hsame hfin hn hfit hl ?_
  rw [tuI hk ht]
  exact kk
theorem tpL (C : CallFix p m c cc nL s args jT own) (hK : jK D jcl jY E s) {ref Cn : String} {T : u_T} {N ci index : Nat} (k i j : Nat) (ty0 : Nat → FieldType) (hty : ∀ k, k < N → parseFieldDescriptor (T k).2.2.1 = some (ty0 k)) (hnm : ∀ a, a < N → ∀ b, b < N → a ≠ b → (T a).2.1 ≠ (T b).2.1) (d : decode cc pc = .ok (.putfield index, 3)) (hin : ∀ w ∈ u_ws Cn T N, w ∈ jT) (hY : jY k = .inl ci) (hc : jcl[ci]? = some (Cn, T, N)) (hj : j < N) (hlink : Cond.fieldLink own index ref (T j).2.1 (T j).2.2.1 ∈ jT) (hsame : (T j).1 = ref) (hfin : (T j).2.2.2 = false) (hk : Nat.blt k 10 = false) (ht : tg k j = 1) (x : Int64) (hn : narrow (ty0 j) (.long x) = .long x) (hfit : fits (ty0 j) (.long x) = true) (hl : lv k i) (kk : J p l e R s m args below meth c Q D jcl jY E ad A H0 nL cells slots z lv (jv ad σ (sL τ k i j x)) (pc + 3) lsv rest) : J p l e R s m args below meth c Q D jcl jY E ad A H0 nL cells slots z lv (jv ad σ τ) pc lsv (.long x :: .ref (ad k i) :: rest) := by
  refine j_put C hK k i j ty0 hty hnm d hin hY hc hj hlink hsame hfin hn hfit hl ?_
  rw [tuL hk ht]
  exact kk
theorem tpP (C : CallFix p m c cc nL s args jT own) (hK : jK D jcl jY E s) {t : Nat} {ref Cn : String} {T : u_T} {N ci index : Nat} (k i j : Nat) (ty0 : Nat → FieldType) (hty : ∀ k, k < N → parseFieldDescriptor (T k).2.2.1 = some (ty0 k)) (hnm : ∀ a, a < N → ∀ b, b < N → a ≠ b → (T a).2.1 ≠ (T b).2.1) (d : decode cc pc = .ok (.putfield index, 3)) (hin : ∀ w ∈ u_ws Cn T N, w ∈ jT) (hY : jY k = .inl ci) (hc : jcl[ci]? = some (Cn, T, N)) (hj : j < N) (hlink : Cond.fieldLink own index ref (T j).2.1 (T j).2.2.1 ∈ jT) (hsame : (T j).1 = ref) (hfin : (T j).2.2.2 = false) (hk : Nat.blt k 10 = false) (ht : tg k j = t + 3) (x : Option Nat) (hn : narrow (ty0 j) (va_rf (x.map (ad t))) = va_rf (x.map (ad t))) (hfit : fits (ty0 j) (va_rf (x.map (ad t))) = true) (hl : lv k i) (kk : J p l e R s m args below meth c Q D jcl jY E ad A H0 nL cells slots z lv (jv ad σ (sP τ k i j x)) (pc + 3) lsv rest) : J p l e R s m args below meth c Q D jcl jY E ad A H0 nL cells slots z lv (jv ad σ τ) pc lsv (va_rf (x.map (ad t)) :: .ref (ad k i) :: rest) := by
  refine j_put C hK k i j ty0 hty hnm d hin hY hc hj hlink hsame hfin hn hfit hl ?_
  rw [tuP hk ht]
  exact kk
theorem tia (C : CallFix p m c cc nL s args jT own) (hK : jK D jcl jY E s) {n : Nat} (k i : Nat) (d : decode cc pc = .ok (.iaload, 1)) (hY : jY k = .inr (.int, n)) {x : Int32} (hin : vp_in x n) (hk : Nat.blt k 10 = false) (ht : tg k x.toNatClampNeg = 0) (hl : lv k i) (kk : J p l e R s m args below meth c Q D jcl jY E ad A H0 nL cells slots z lv (jv ad σ τ) (pc + 1) lsv (.int (τ.1 k i x.toNatClampNeg) :: rest)) : J p l e R s m args below meth c Q D jcl jY E ad A H0 nL cells slots z lv (jv ad σ τ) pc lsv (.int x :: .ref (ad k i) :: rest) := by
  refine j_iald C hK k i d hY hin hl ?_
  rw [(show jv ad σ τ k i x.toNatClampNeg = .int (τ.1 k i x.toNatClampNeg) by unfold jv; rw [hk, ht]; rfl)]
  exact kk
theorem tza (C : CallFix p m c cc nL s args jT own) (hK : jK D jcl jY E s) {n : Nat} (k i : Nat) (d : decode cc pc = .ok (.baload, 1)) (hY : jY k = .inr (.boolean, n)) {x : Int32} (hin : vp_in x n) (hk : Nat.blt k 10 = false) (ht : tg k x.toNatClampNeg = 0) (hl : lv k i) (kk : J p l e R s m args below meth c Q D jcl jY E ad A H0 nL cells slots z lv (jv ad σ τ) (pc + 1) lsv (.int (τ.1 k i x.toNatClampNeg) :: rest)) : J p l e R s m args below meth c Q D jcl jY E ad A H0 nL cells slots z lv (jv ad σ τ) pc lsv (.int x :: .ref (ad k i) :: rest) := by
  refine j_zald C hK k i d hY hin hl ?_
  rw [(show jv ad σ τ k i x.toNatClampNeg = .int (τ.1 k i x.toNatClampNeg) by unfold jv; rw [hk, ht]; rfl)]
  exact kk
theorem tla (C : CallFix p m c cc nL s args jT own) (hK : jK D jcl jY E s) {n : Nat} (k i : Nat) (d : decode cc pc = .ok (.laload, 1)) (hY : jY k = .inr (.long, n)) {x : Int32} (hin : vp_in x n) (hk : Nat.blt k 10 = false) (ht : tg k x.toNatClampNeg = 1) (hl : lv k i) (kk : J p l e R s m args below meth c Q D jcl jY E ad A H0 nL cells slots z lv (jv ad σ τ) (pc + 1) lsv (.long (τ.2.2 k i x.toNatClampNeg) :: rest)) : J p l e R s m args below meth c Q D jcl jY E ad A H0 nL cells slots z lv (jv ad σ τ) pc lsv (.int x :: .ref (ad k i) :: rest) := by
  refine j_lald C hK k i d hY hin hl ?_
  rw [(show jv ad σ τ k i x.toNatClampNeg = .long (τ.2.2 k i x.toNatClampNeg) by unfold jv; rw [hk, ht]; rfl)]
  exact kk
theorem taR (C : CallFix p m c cc nL s args jT own) (hK : jK D jcl jY E s) {n t : Nat} {Cn : String} (k i : Nat) (d : decode cc pc = .ok (.aaload, 1)) (hY : jY k = .inr (.object Cn, n)) {x : Int32} (hin : vp_in x n) (hk : Nat.blt k 10 = false) (ht : tg k x.toNatClampNeg = t + 3) (hl : lv k i) (kk : J p l e R s m args below meth c Q D jcl jY E ad A H0 nL cells slots z lv (jv ad σ τ) (pc + 1) lsv (va_rf ((τ.2.1 k i x.toNatClampNeg).map (ad t)) :: rest)) : J p l e R s m args below meth c Q D jcl jY E ad A H0 nL cells slots z lv (jv ad σ τ) pc lsv (.int x :: .ref (ad k i) :: rest) := by
  refine j_aald C hK k i d hY hin hl ?_
  rw [(show jv ad σ τ k i x.toNatClampNeg = va_rf ((τ.2.1 k i x.toNatClampNeg).map (ad t)) by unfold jv; rw [hk, ht]; rfl)]
  exact kk
theorem taC (C : CallFix p m c cc nL s args jT own) (hK : jK D jcl jY E s) {n : Nat} {Cn : String} (k i : Nat) (d : decode cc pc = .ok (.aaload, 1)) (hY : jY k = .inr (.object Cn, n)) {x : Int32} (hin : vp_in x n) (hk : Nat.blt k 10 = false) (ht : tg k x.toNatClampNeg = 2) (hl : lv k i) (kk : J p l e R s m args below meth c Q D jcl jY E ad A H0 nL cells slots z lv (jv ad σ τ) (pc + 1) lsv (cv ad k i x.toNatClampNeg :: rest)) : J p l e R s m args below meth c Q D jcl jY E ad A H0 nL cells slots z lv (jv ad σ τ) pc lsv (.int x :: .ref (ad k i) :: rest) := by
  refine j_aald C hK k i d hY hin hl ?_
  rw [(show jv ad σ τ k i x.toNatClampNeg = cv ad k i x.toNatClampNeg by unfold jv; rw [hk, ht]; rfl)]
  exact kk
theorem tia_st (C : CallFix p m c cc nL s args jT own) (hK : jK D jcl jY E s) {n : Nat} (k i : Nat) (d : decode cc pc = .ok (.iastore, 1)) (hY : jY k = .inr (.int, n)) {x v : Int32} (hin : vp_in x n) (hk : Nat.blt k 10 = false) (ht : tg k x.toNatClampNeg = 0) (hl : lv k i) (kk : J p l e R s m args below meth c Q D jcl jY E ad A H0 nL cells slots z lv (jv ad σ (sI τ k i x.toNatClampNeg v)) (pc + 1) lsv rest) : J p l e R s m args below meth c Q D jcl jY E ad A H0 nL cells slots z lv (jv ad σ τ) pc lsv (.int v :: .int x :: .ref (ad k i) :: rest) := by
  refine j_iast C hK k i d hY hin hl ?_
  rw [tuI hk ht]
  exact kk
theorem tza_st (C : CallFix p m c cc nL s args jT own) (hK : jK D jcl jY E s) {n : Nat} (k i : Nat) (d : decode cc pc = .ok (.bastore, 1)) (hY : jY k = .inr (.boolean, n)) {x v : Int32} (hnar : narrow .boolean (.int v) = .int v) (hin : vp_in x n) (hk : Nat.blt k 10 = false) (ht : tg k x.toNatClampNeg = 0) (hl : lv k i) (kk : J p l e R s m args below meth c Q D jcl jY E ad A H0 nL cells slots z lv (jv ad σ (sI τ k i x.toNatClampNeg v)) (pc + 1) lsv rest) : J p l e R s m args below meth c Q D jcl jY E ad A H0 nL cells slots z lv (jv ad σ τ) pc lsv (.int v :: .int x :: .ref (ad k i) :: rest) := by
  refine j_zast C hK k i d hY hnar hin hl ?_
  rw [tuI hk ht]
  exact kk
theorem tla_st (C : CallFix p m c cc nL s args jT own) (hK : jK D jcl jY E s) {n : Nat} (k i : Nat) (d : decode cc pc = .ok (.lastore, 1)) (hY : jY k = .inr (.long, n)) {x : Int32} {v : Int64} (hin : vp_in x n) (hk : Nat.blt k 10 = false) (ht : tg k x.toNatClampNeg = 1) (hl : lv k i) (kk : J p l e R s m args below meth c Q D jcl jY E ad A H0 nL cells slots z lv (jv ad σ (sL τ k i x.toNatClampNeg v)) (pc + 1) lsv rest) : J p l e R s m args below meth c Q D jcl jY E ad A H0 nL cells slots z lv (jv ad σ τ) pc lsv (.long v :: .int x :: .ref (ad k i) :: rest) := by
  refine j_last C hK k i d hY hin hl ?_
  rw [tuL hk ht]
  exact kk
theorem jnull (C : CallFix p m c cc nL s args jT own) {V : jVT} {o : Option Nat} {t : Nat} {off : Int} (tgt : Nat) (d : decode cc pc = .ok (.ifnull off, 3)) (ht : (pc : Int) + off = (tgt : Int)) (kt : o = none → J p l e R s m args below meth c Q D jcl jY E ad A H0 nL cells slots z lv V tgt lsv rest) (kf : ∀ x : Nat, o = some x → J p l e R s m args below meth c Q D jcl jY E ad A H0 nL cells slots z lv V (pc + 3) lsv rest) : J p l e R s m args below meth c Q D jcl jY E ad A H0 nL cells slots z lv V pc lsv (va_rf (o.map (ad t)) :: rest) := by
  cases o with
  | none => exact j_ifnull C tgt d ht (fun _ => kt rfl) (fun a h => by cases h)
  | some x => exact j_ifnull C tgt d ht (fun h => by cases h) (fun _ _ => kf x rfl)
theorem jnonnull (C : CallFix p m c cc nL s args jT own) {V : jVT} {o : Option Nat} {t : Nat} {off : Int} (tgt : Nat) (d : decode cc pc = .ok (.ifnonnull off, 3)) (ht : (pc : Int) + off = (tgt : Int)) (kt : ∀ x : Nat, o = some x → J p l e R s m args below meth c Q D jcl jY E ad A H0 nL cells slots z lv V tgt lsv rest) (kf : o = none → J p l e R s m args below meth c Q D jcl jY E ad A H0 nL cells slots z lv V (pc + 3) lsv rest) : J p l e R s m args below meth c Q D jcl jY E ad A H0 nL cells slots z lv V pc lsv (va_rf (o.map (ad t)) :: rest) := by
  cases o with
  | none => exact j_ifnonnull C tgt d ht (fun a h => by cases h) (fun _ => kf rfl)
  | some x => exact j_ifnonnull C tgt d ht (fun _ _ => kt x rfl) (fun h => by cases h)
/-- the words of a method that is called -/
def jmw (y : MethodName) (bytes : ByteArray) (maxL : Nat) (ret : Option FieldType) (n : Nat) : Prop := Cond.code y bytes maxL ret ∈ jT ∧ Cond.initialized y.cls ∈ jT ∧ y.cls ≠ "java/lang/invoke/MethodHandle" ∧ y.cls ≠ "java/lang/invoke/VarHandle" ∧ (parseMethodDescriptor y.desc).map (fun d => d.parameters.length) = some n
theorem jgood {w0 : Cond} (h0 : w0 ∈ jT) : GoodIn jT (w0 :: jT) := fun w h => by
  rcases List.mem_cons.mp h with rfl | h
  · exact ⟨h0, good_of_word (jT_good _ h0)⟩
  · exact ⟨h, good_of_word (jT_good _ h)⟩
theorem jcB (C : CallFix p m c cc nL s args jT own) {y : MethodName} {bytes : ByteArray} {maxL n index mc ms : Nat} {ret : Option FieldType} {rm : Room} (hm : jmw y bytes maxL ret n) (hl : Cond.methodLink own index y ∈ jT) (hrc : rm.cells = mc) (hrs : rm.slots = ms) (hR : rm.frames + 1 ≤ R.frames ∧ 8 + (maxL + 11) + rm.locals ≤ R.locals) : CallB R s args own index y bytes maxL ret (Cond.code y bytes maxL ret :: jT) rm mc ms n :=
  callB_of n C.2.2.2.2 (jgood hm.1) rfl hrc hrs (C.2.2.2.2 _ hm.2.1) (C.2.2.2.2 _ hl) hm.2.2 hR
theorem jcV (C : CallFix p m c cc nL s args jT own) {y : MethodName} {bytes : ByteArray} {maxL n index mc ms : Nat} {ret : Option FieldType} {rm : Room} {Cn : String} (hm : jmw y bytes maxL ret n) (hl : Cond.methodLink own index y ∈ jT) (hi : Cond.instanceMethod y ∈ jT) (hs : Cond.selects Cn y y ∈ jT) (hrc : rm.cells = mc) (hrs : rm.slots = ms) (hR : rm.frames + 1 ≤ R.frames ∧ 8 + (maxL + 11) + rm.locals ≤ R.locals) : CallW R s args own Cn index y bytes maxL ret (Cond.code y bytes maxL ret :: jT) rm mc ms n :=
  ⟨jcB C hm hl hrc hrs hR, C.2.2.2.2 _ hi, C.2.2.2.2 _ hs⟩
end TROWS
/-- a contract of a method, over the words jT -/
abbrev jM (l : Launch) (y : MethodName) (cc : ByteArray) (maxL : Nat) (ret : Option FieldType) (lev : Nat) (D : va_G) (E : Nat → ClassId) (ad : Nat → Nat → Nat) (lv : Nat → Nat → Prop) (V : jVT) (vs : List Value) (r : Option Value) (V' : jVT) : Prop :=
  ∀ sz : Nat, jC l y (Cond.code y cc maxL ret :: jT) { frames := lev, cells := 0, slots := 0, locals := 30 * lev } D jcl jY E ad lv sz V vs r lv V' sz 0 0
