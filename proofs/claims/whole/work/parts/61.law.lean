/-! THE LAW'S OWN WALK: its rows; the tables' classes; the script -/
abbrev JL (p : Program) (l : Launch) (e : Env) (s : State) (m : MethodId) (below : List Frame) (meth : Method) (c : Code) (D : va_G) (E : Nat → ClassId) (b : Nat) (ad : Nat → Nat → Nat) (cells slots z : Nat) (lv : Nat → Nat → Prop) (V : jVT) (pc : Nat) (lsv : List (Option Value)) (stk : List Value) : Prop :=
  J p l e room_1 s m #[Value.ref b] below meth c (lw_Z below #[Value.ref b] s) D jcl jY E ad (fun q => s.heap.size ≤ q) s.heap 4 cells slots z lv V pc lsv stk
section LAW
variable {p : Program} {l : Launch} {e : Env} {s : State} {m : MethodId} {below : List Frame} {meth : Method} {c : Code} {cells slots z : Nat} {D : va_G} {E : Nat → ClassId} {ad : Nat → Nat → Nat} {lv : Nat → Nat → Prop} {b L : Nat} {xs : Nat → Int32}
variable {V : jVT} {pc : Nat} {lsv : List (Option Value)} {rest : List Value}
theorem l_sld (C : CallFix p m c c_L_law 4 s #[Value.ref b] jT R_law) (hX : va_X b L xs s s.heap) (hbl : b < s.heap.size) {i : Int32} (hin : vp_in i L) (d : decode c_L_law pc = .ok (.iaload, 1)) (k : JL p l e s m below meth c D E b ad cells slots z lv V (pc + 1) lsv (.int (xs i.toNatClampNeg) :: rest)) : JL p l e s m below meth c D E b ad cells slots z lv V pc lsv (.int i :: .ref b :: rest) :=
  fun H locs ls hz hW hS hl => va_sld C.1 C.2.1 hX hbl (fun q => Nat.lt_irrefl _ (Nat.lt_of_lt_of_le hbl q)) hS hin d (k H locs ls hz hW hS hl)
theorem l_slen (C : CallFix p m c c_L_law 4 s #[Value.ref b] jT R_law) (hX : va_X b L xs s s.heap) (hbl : b < s.heap.size) (d : decode c_L_law pc = .ok (.arraylength, 1)) (k : JL p l e s m below meth c D E b ad cells slots z lv V (pc + 1) lsv (.int (Int32.ofNat L) :: rest)) : JL p l e s m below meth c D E b ad cells slots z lv V pc lsv (.ref b :: rest) :=
  fun H locs ls hz hW hS hl => va_slen C.1 C.2.1 hX hbl (fun q => Nat.lt_irrefl _ (Nat.lt_of_lt_of_le hbl q)) hS d (k H locs ls hz hW hS hl)
theorem l_tabO (C : CallFix p m c c_L_law 4 s #[Value.ref b] jT R_law) {dflt lo hi : Int} {offs : Array Int} {len : Nat} {x : Int32} {tgt : Nat} (d : decode c_L_law pc = .ok (.tableswitch dflt lo hi offs, len)) (h : x.toInt < lo ∨ hi < x.toInt) (ht : (pc : Int) + dflt = (tgt : Int)) (k : JL p l e s m below meth c D E b ad cells slots z lv V tgt lsv rest) : JL p l e s m below meth c D E b ad cells slots z lv V pc lsv (.int x :: rest) :=
  fun H locs ls hz hW hS hl => lv_tableOut C.1 C.2.1 d h ht (k H locs ls hz hW hS hl)
theorem l_tabI (C : CallFix p m c c_L_law 4 s #[Value.ref b] jT R_law) {dflt lo hi : Int} {offs : Array Int} {len : Nat} {x : Int32} {off : Int} {tgt : Nat} (d : decode c_L_law pc = .ok (.tableswitch dflt lo hi offs, len)) (h1 : ¬ x.toInt < lo) (h2 : ¬ hi < x.toInt) (ho : offs[(x.toInt - lo).toNat]? = some off) (ht : (pc : Int) + off = (tgt : Int)) (k : JL p l e s m below meth c D E b ad cells slots z lv V tgt lsv rest) : JL p l e s m below meth c D E b ad cells slots z lv V pc lsv (.int x :: rest) :=
  fun H locs ls hz hW hS hl => lv_tableIn C.1 C.2.1 d h1 h2 ho ht (k H locs ls hz hW hS hl)
/-- the law ends with true -/
theorem l_end (hx : p.tables.exec = Jvm.exec) (hb : c.code = code) (hr : meth.sig.returnType = ret) (hlk : meth.locks = false) (hc : cells ≤ 612407) (hs : slots ≤ 7265026) (d : decode c_L_law pc = .ok (.ireturn, 1)) : JL p l e s m below meth c D E b ad cells slots z lv V pc lsv [.int 1] :=
  fun H locs ls hz hW hS hl => va_forget (fun q hq => hS.2.2 q hq) (W.widen hc hs (lw_ret hx hb hr hlk d))
/-- the addresses may change where nothing lives -/
theorem l_readr {ad' : Nat → Nat → Nat} {stk : List Value} (hv : ∀ k i, lv k i → ad' k i = ad k i) (k : JL p l e s m below meth c D E b ad' cells slots z lv V pc lsv stk) : JL p l e s m below meth c D E b ad cells slots z lv V pc lsv stk :=
  fun H locs ls hz hW hS hl => k H locs ls hz (hW.readr hv) hS hl
end LAW
/-- what the tables know of the classes and of the arrays -/
theorem ka_prim {A : Array Value} {s : State} {ty : FieldType} (h : (Cond.arrayClass ty).before A s = true) (ho : ∀ C, ty ≠ .object C) : ∃ cA, ArrOfT s cA ty ∧ va_RA s cA ty := by
  obtain ⟨cA, kA, comp, h1, h2, h3⟩ := Cond.arrayClass_spec h
  refine ⟨cA, fun n z => ⟨fun k h => (by cases h), kA, h2, comp, h3⟩, ?_⟩
  cases ty with
  | object C => exact absurd rfl (ho C)
  | _ => exact h1
theorem ka_obj {A : Array Value} {s : State} {Cn : String} (h : (Cond.arrayOver (.object Cn)).before A s = true) : ∃ cA, ArrOfT s cA (.object Cn) ∧ va_RA s cA (.object Cn) := by
  obtain ⟨comp, cA, k, h1, h2, h3, h4, h5⟩ := Cond.arrayOver_spec h
  exact ⟨cA, fun N z => ⟨(fun k h => by cases h), k, h3, comp, h4⟩, k, comp, h3, h4, h1, h5⟩
theorem jk_0 {A : Array Value} {s : State} (hts : ∀ w ∈ lw_tbl, w.before A s = true) : ∃ (D : va_G) (E : Nat → ClassId), jK D jcl jY E s := by
  have ht : ∀ w ∈ jT, w.before A s = true := fun w h => hts w (jT_tbl h)
  obtain ⟨c0, i0, h0⟩ := u_known ht in_P (ht _ t_147)
  obtain ⟨c1, i1, h1⟩ := u_known ht in_R (ht _ t_72)
  obtain ⟨c2, i2, h2⟩ := u_known ht in_S (ht _ t_87)
  obtain ⟨c3, i3, h3⟩ := u_known ht in_W (ht _ t_53)
  obtain ⟨c4, i4, h4⟩ := u_known ht in_X (ht _ t_39)
  obtain ⟨c5, i5, h5⟩ := u_known ht in_M (ht _ t_371)
  obtain ⟨aI, hI⟩ := ka_prim (ht _ t_71) (fun C q => by cases q)
  obtain ⟨aZ, hZ⟩ := ka_prim (ht _ t_440) (fun C q => by cases q)
  obtain ⟨aJ, hJ⟩ := ka_prim (ht _ t_441) (fun C q => by cases q)
  obtain ⟨aP, hP⟩ := ka_obj (hts _ t_47)
  obtain ⟨aR, hR⟩ := ka_obj (hts _ t_49)
  obtain ⟨aS, hS⟩ := ka_obj (hts _ t_51)
  refine ⟨(fun k => match k with | 0 => c0 | 1 => c1 | 2 => c2 | 3 => c3 | 4 => c4 | _ => c5, fun k => match k with | 0 => i0 | 1 => i1 | 2 => i2 | 3 => i3 | 4 => i4 | _ => i5), fun k => match k with | 1 => aP | 2 => aR | 3 => aS | 11 => aZ | 16 => aJ | _ => aI, ⟨fun k q hq => ?_, fun k q hq => by cases hq⟩, fun k q hq => ?_⟩
  · match k, hq with
    | 0, hq => cases hq; exact h0
    | 1, hq => cases hq; exact h1
    | 2, hq => cases hq; exact h2
    | 3, hq => cases hq; exact h3
    | 4, hq => cases hq; exact h4
    | 5, hq => cases hq; exact h5
    | k + 6, hq => cases hq
  · match k, hq with
    | 0, hq => cases hq
    | 1, hq => cases hq; exact hP
    | 2, hq => cases hq; exact hR
    | 3, hq => cases hq; exact hS
    | 4, hq => cases hq
    | 5, hq => cases hq; exact hI
    | 6, hq => cases hq
    | 7, hq => cases hq
    | 8, hq => cases hq
    | 9, hq => cases hq; exact hI
    | 10, hq => cases hq
    | 11, hq => cases hq; exact hZ
    | 12, hq => cases hq; exact hI
    | 13, hq => cases hq; exact hI
    | 14, hq => cases hq; exact hI
    | 15, hq => cases hq; exact hI
    | 16, hq => cases hq; exact hJ
    | 17, hq => cases hq; exact hI
    | 18, hq => cases hq; exact hI
    | k + 19, hq => cases hq; exact hI
