section
-- ===== PART A: goes FIRST, ahead of the names: the tables' words, and 'selects' of the private methods out of them =====
/-- a private method of a class that the tables say can be made, by its rows of tables_1 -/
def lw_okq (q : MethodName × Nat) : Prop := (q.1.cls ≠ "java/lang/invoke/MethodHandle" ∧ q.1.cls ≠ "java/lang/invoke/VarHandle") ∧ Cond.instantiable q.1.cls q.2 ∈ tables_1 ∧ Cond.privateMethod q.1 ∈ tables_1 ∧ Cond.instanceMethod q.1 ∈ tables_1
theorem lw_p0 : lw_okq (⟨"InputRoom", "processNumbered", "(I)LInputRoom$Proc;"⟩, 12) := ⟨⟨by decide +kernel, by decide +kernel⟩, List.mem_of_getElem? (i := 9) (by decide +kernel), List.mem_of_getElem? (i := 156) (by decide +kernel), List.mem_of_getElem? (i := 157) (by decide +kernel)⟩
theorem lw_p1 : lw_okq (⟨"InputRoom", "presentOne", "()LInputRoom$Proc;"⟩, 12) := ⟨⟨by decide +kernel, by decide +kernel⟩, List.mem_of_getElem? (i := 9) (by decide +kernel), List.mem_of_getElem? (i := 164) (by decide +kernel), List.mem_of_getElem? (i := 165) (by decide +kernel)⟩
theorem lw_p2 : lw_okq (⟨"InputRoom", "wakeUp", "(LInputRoom$Proc;)V"⟩, 12) := ⟨⟨by decide +kernel, by decide +kernel⟩, List.mem_of_getElem? (i := 9) (by decide +kernel), List.mem_of_getElem? (i := 168) (by decide +kernel), List.mem_of_getElem? (i := 169) (by decide +kernel)⟩
theorem lw_p3 : lw_okq (⟨"InputRoom", "wantChangeTo", "(LInputRoom$Proc;)V"⟩, 12) := ⟨⟨by decide +kernel, by decide +kernel⟩, List.mem_of_getElem? (i := 9) (by decide +kernel), List.mem_of_getElem? (i := 176) (by decide +kernel), List.mem_of_getElem? (i := 177) (by decide +kernel)⟩
theorem lw_p4 : lw_okq (⟨"InputRoom", "putPresentAside", "()V"⟩, 12) := ⟨⟨by decide +kernel, by decide +kernel⟩, List.mem_of_getElem? (i := 9) (by decide +kernel), List.mem_of_getElem? (i := 184) (by decide +kernel), List.mem_of_getElem? (i := 185) (by decide +kernel)⟩
theorem lw_p5 : lw_okq (⟨"InputRoom", "signalOnce", "(LInputRoom$Semaphore;)V"⟩, 12) := ⟨⟨by decide +kernel, by decide +kernel⟩, List.mem_of_getElem? (i := 9) (by decide +kernel), List.mem_of_getElem? (i := 199) (by decide +kernel), List.mem_of_getElem? (i := 200) (by decide +kernel)⟩
theorem lw_p6 : lw_okq (⟨"InputRoom", "setAlarm", "(LInputRoom$Semaphore;I)V"⟩, 12) := ⟨⟨by decide +kernel, by decide +kernel⟩, List.mem_of_getElem? (i := 9) (by decide +kernel), List.mem_of_getElem? (i := 212) (by decide +kernel), List.mem_of_getElem? (i := 213) (by decide +kernel)⟩
theorem lw_p7 : lw_okq (⟨"InputRoom$Words", "place", "(I)I"⟩, 4) := ⟨⟨by decide +kernel, by decide +kernel⟩, List.mem_of_getElem? (i := 23) (by decide +kernel), List.mem_of_getElem? (i := 225) (by decide +kernel), List.mem_of_getElem? (i := 226) (by decide +kernel)⟩
theorem lw_p8 : lw_okq (⟨"InputRoom", "doBehind", "()V"⟩, 12) := ⟨⟨by decide +kernel, by decide +kernel⟩, List.mem_of_getElem? (i := 9) (by decide +kernel), List.mem_of_getElem? (i := 236) (by decide +kernel), List.mem_of_getElem? (i := 237) (by decide +kernel)⟩
theorem lw_p9 : lw_okq (⟨"InputRoom", "settle", "()V"⟩, 12) := ⟨⟨by decide +kernel, by decide +kernel⟩, List.mem_of_getElem? (i := 9) (by decide +kernel), List.mem_of_getElem? (i := 240) (by decide +kernel), List.mem_of_getElem? (i := 241) (by decide +kernel)⟩
theorem lw_p10 : lw_okq (⟨"InputRoom", "signalNewWords", "()V"⟩, 12) := ⟨⟨by decide +kernel, by decide +kernel⟩, List.mem_of_getElem? (i := 9) (by decide +kernel), List.mem_of_getElem? (i := 244) (by decide +kernel), List.mem_of_getElem? (i := 245) (by decide +kernel)⟩
theorem lw_p11 : lw_okq (⟨"InputRoom", "signalDueAlarm", "()V"⟩, 12) := ⟨⟨by decide +kernel, by decide +kernel⟩, List.mem_of_getElem? (i := 9) (by decide +kernel), List.mem_of_getElem? (i := 252) (by decide +kernel), List.mem_of_getElem? (i := 253) (by decide +kernel)⟩
theorem lw_p12 : lw_okq (⟨"InputRoom", "doCode", "(LInputRoom$Proc;)V"⟩, 12) := ⟨⟨by decide +kernel, by decide +kernel⟩, List.mem_of_getElem? (i := 9) (by decide +kernel), List.mem_of_getElem? (i := 256) (by decide +kernel), List.mem_of_getElem? (i := 257) (by decide +kernel)⟩
theorem lw_p13 : lw_okq (⟨"InputRoom", "doAct", "(I)V"⟩, 12) := ⟨⟨by decide +kernel, by decide +kernel⟩, List.mem_of_getElem? (i := 9) (by decide +kernel), List.mem_of_getElem? (i := 265) (by decide +kernel), List.mem_of_getElem? (i := 266) (by decide +kernel)⟩
theorem lw_p14 : lw_okq (⟨"InputRoom", "waitFor", "(LInputRoom$Semaphore;)V"⟩, 12) := ⟨⟨by decide +kernel, by decide +kernel⟩, List.mem_of_getElem? (i := 9) (by decide +kernel), List.mem_of_getElem? (i := 269) (by decide +kernel), List.mem_of_getElem? (i := 270) (by decide +kernel)⟩
theorem lw_p15 : lw_okq (⟨"InputRoom", "giveWay", "()V"⟩, 12) := ⟨⟨by decide +kernel, by decide +kernel⟩, List.mem_of_getElem? (i := 9) (by decide +kernel), List.mem_of_getElem? (i := 273) (by decide +kernel), List.mem_of_getElem? (i := 274) (by decide +kernel)⟩
def lw_privs_1 : List (MethodName × Nat) := [(⟨"InputRoom", "processNumbered", "(I)LInputRoom$Proc;"⟩, 12), (⟨"InputRoom", "presentOne", "()LInputRoom$Proc;"⟩, 12), (⟨"InputRoom", "wakeUp", "(LInputRoom$Proc;)V"⟩, 12), (⟨"InputRoom", "wantChangeTo", "(LInputRoom$Proc;)V"⟩, 12), (⟨"InputRoom", "putPresentAside", "()V"⟩, 12), (⟨"InputRoom", "signalOnce", "(LInputRoom$Semaphore;)V"⟩, 12), (⟨"InputRoom", "setAlarm", "(LInputRoom$Semaphore;I)V"⟩, 12), (⟨"InputRoom$Words", "place", "(I)I"⟩, 4), (⟨"InputRoom", "doBehind", "()V"⟩, 12), (⟨"InputRoom", "settle", "()V"⟩, 12), (⟨"InputRoom", "signalNewWords", "()V"⟩, 12), (⟨"InputRoom", "signalDueAlarm", "()V"⟩, 12), (⟨"InputRoom", "doCode", "(LInputRoom$Proc;)V"⟩, 12), (⟨"InputRoom", "doAct", "(I)V"⟩, 12), (⟨"InputRoom", "waitFor", "(LInputRoom$Semaphore;)V"⟩, 12), (⟨"InputRoom", "giveWay", "()V"⟩, 12)]
theorem lw_r1 : ∀ q ∈ lw_privs_1, lw_okq q := List.forall_mem_cons.mpr ⟨lw_p0, List.forall_mem_cons.mpr ⟨lw_p1, List.forall_mem_cons.mpr ⟨lw_p2, List.forall_mem_cons.mpr ⟨lw_p3, List.forall_mem_cons.mpr ⟨lw_p4, List.forall_mem_cons.mpr ⟨lw_p5, List.forall_mem_cons.mpr ⟨lw_p6, List.forall_mem_cons.mpr ⟨lw_p7, List.forall_mem_cons.mpr ⟨lw_p8, List.forall_mem_cons.mpr ⟨lw_p9, List.forall_mem_cons.mpr ⟨lw_p10, List.forall_mem_cons.mpr ⟨lw_p11, List.forall_mem_cons.mpr ⟨lw_p12, List.forall_mem_cons.mpr ⟨lw_p13, List.forall_mem_cons.mpr ⟨lw_p14, List.forall_mem_cons.mpr ⟨lw_p15, fun _ h => absurd h List.not_mem_nil⟩⟩⟩⟩⟩⟩⟩⟩⟩⟩⟩⟩⟩⟩⟩⟩
theorem lw_p16 : lw_okq (⟨"InputRoomModel", "behind", "()V"⟩, 21) := ⟨⟨by decide +kernel, by decide +kernel⟩, List.mem_of_getElem? (i := 341) (by decide +kernel), List.mem_of_getElem? (i := 417) (by decide +kernel), List.mem_of_getElem? (i := 418) (by decide +kernel)⟩
theorem lw_p17 : lw_okq (⟨"InputRoomModel", "post", "(I)V"⟩, 21) := ⟨⟨by decide +kernel, by decide +kernel⟩, List.mem_of_getElem? (i := 341) (by decide +kernel), List.mem_of_getElem? (i := 421) (by decide +kernel), List.mem_of_getElem? (i := 422) (by decide +kernel)⟩
theorem lw_p18 : lw_okq (⟨"InputRoomModel", "signal0", "(I)V"⟩, 21) := ⟨⟨by decide +kernel, by decide +kernel⟩, List.mem_of_getElem? (i := 341) (by decide +kernel), List.mem_of_getElem? (i := 425) (by decide +kernel), List.mem_of_getElem? (i := 426) (by decide +kernel)⟩
theorem lw_p19 : lw_okq (⟨"InputRoomModel", "first", "(I)I"⟩, 21) := ⟨⟨by decide +kernel, by decide +kernel⟩, List.mem_of_getElem? (i := 341) (by decide +kernel), List.mem_of_getElem? (i := 429) (by decide +kernel), List.mem_of_getElem? (i := 430) (by decide +kernel)⟩
theorem lw_p20 : lw_okq (⟨"InputRoomModel", "rouse", "(I)V"⟩, 21) := ⟨⟨by decide +kernel, by decide +kernel⟩, List.mem_of_getElem? (i := 341) (by decide +kernel), List.mem_of_getElem? (i := 433) (by decide +kernel), List.mem_of_getElem? (i := 434) (by decide +kernel)⟩
theorem lw_p21 : lw_okq (⟨"InputRoomModel", "present0", "()I"⟩, 21) := ⟨⟨by decide +kernel, by decide +kernel⟩, List.mem_of_getElem? (i := 341) (by decide +kernel), List.mem_of_getElem? (i := 437) (by decide +kernel), List.mem_of_getElem? (i := 438) (by decide +kernel)⟩
theorem lw_p22 : lw_okq (⟨"InputRoomModel", "come", "(II)V"⟩, 21) := ⟨⟨by decide +kernel, by decide +kernel⟩, List.mem_of_getElem? (i := 341) (by decide +kernel), List.mem_of_getElem? (i := 441) (by decide +kernel), List.mem_of_getElem? (i := 442) (by decide +kernel)⟩
theorem lw_p23 : lw_okq (⟨"InputRoomModel", "want", "(I)V"⟩, 21) := ⟨⟨by decide +kernel, by decide +kernel⟩, List.mem_of_getElem? (i := 341) (by decide +kernel), List.mem_of_getElem? (i := 445) (by decide +kernel), List.mem_of_getElem? (i := 446) (by decide +kernel)⟩
theorem lw_p24 : lw_okq (⟨"InputRoomModel", "act", "(I)V"⟩, 21) := ⟨⟨by decide +kernel, by decide +kernel⟩, List.mem_of_getElem? (i := 341) (by decide +kernel), List.mem_of_getElem? (i := 449) (by decide +kernel), List.mem_of_getElem? (i := 450) (by decide +kernel)⟩
theorem lw_p25 : lw_okq (⟨"InputRoomModel", "await0", "(I)V"⟩, 21) := ⟨⟨by decide +kernel, by decide +kernel⟩, List.mem_of_getElem? (i := 341) (by decide +kernel), List.mem_of_getElem? (i := 453) (by decide +kernel), List.mem_of_getElem? (i := 454) (by decide +kernel)⟩
theorem lw_p26 : lw_okq (⟨"InputRoomModel", "putAside", "()V"⟩, 21) := ⟨⟨by decide +kernel, by decide +kernel⟩, List.mem_of_getElem? (i := 341) (by decide +kernel), List.mem_of_getElem? (i := 457) (by decide +kernel), List.mem_of_getElem? (i := 458) (by decide +kernel)⟩
theorem lw_p27 : lw_okq (⟨"InputRoomModel", "giveWay", "()V"⟩, 21) := ⟨⟨by decide +kernel, by decide +kernel⟩, List.mem_of_getElem? (i := 341) (by decide +kernel), List.mem_of_getElem? (i := 461) (by decide +kernel), List.mem_of_getElem? (i := 462) (by decide +kernel)⟩
theorem lw_p28 : lw_okq (⟨"InputRoomModel", "dropWord", "()V"⟩, 21) := ⟨⟨by decide +kernel, by decide +kernel⟩, List.mem_of_getElem? (i := 341) (by decide +kernel), List.mem_of_getElem? (i := 465) (by decide +kernel), List.mem_of_getElem? (i := 466) (by decide +kernel)⟩
theorem lw_p29 : lw_okq (⟨"InputRoomModel", "isMade", "(I)Z"⟩, 21) := ⟨⟨by decide +kernel, by decide +kernel⟩, List.mem_of_getElem? (i := 341) (by decide +kernel), List.mem_of_getElem? (i := 478) (by decide +kernel), List.mem_of_getElem? (i := 479) (by decide +kernel)⟩
def lw_privs_2 : List (MethodName × Nat) := [(⟨"InputRoomModel", "behind", "()V"⟩, 21), (⟨"InputRoomModel", "post", "(I)V"⟩, 21), (⟨"InputRoomModel", "signal0", "(I)V"⟩, 21), (⟨"InputRoomModel", "first", "(I)I"⟩, 21), (⟨"InputRoomModel", "rouse", "(I)V"⟩, 21), (⟨"InputRoomModel", "present0", "()I"⟩, 21), (⟨"InputRoomModel", "come", "(II)V"⟩, 21), (⟨"InputRoomModel", "want", "(I)V"⟩, 21), (⟨"InputRoomModel", "act", "(I)V"⟩, 21), (⟨"InputRoomModel", "await0", "(I)V"⟩, 21), (⟨"InputRoomModel", "putAside", "()V"⟩, 21), (⟨"InputRoomModel", "giveWay", "()V"⟩, 21), (⟨"InputRoomModel", "dropWord", "()V"⟩, 21), (⟨"InputRoomModel", "isMade", "(I)Z"⟩, 21)]
theorem lw_r2 : ∀ q ∈ lw_privs_2, lw_okq q := List.forall_mem_cons.mpr ⟨lw_p16, List.forall_mem_cons.mpr ⟨lw_p17, List.forall_mem_cons.mpr ⟨lw_p18, List.forall_mem_cons.mpr ⟨lw_p19, List.forall_mem_cons.mpr ⟨lw_p20, List.forall_mem_cons.mpr ⟨lw_p21, List.forall_mem_cons.mpr ⟨lw_p22, List.forall_mem_cons.mpr ⟨lw_p23, List.forall_mem_cons.mpr ⟨lw_p24, List.forall_mem_cons.mpr ⟨lw_p25, List.forall_mem_cons.mpr ⟨lw_p26, List.forall_mem_cons.mpr ⟨lw_p27, List.forall_mem_cons.mpr ⟨lw_p28, List.forall_mem_cons.mpr ⟨lw_p29, fun _ h => absurd h List.not_mem_nil⟩⟩⟩⟩⟩⟩⟩⟩⟩⟩⟩⟩⟩⟩
def lw_privs : List (MethodName × Nat) := lw_privs_1 ++ (lw_privs_2)
def lw_tbl : List Cond := k2_sels lw_privs ++ tables_1
theorem lw_privs_ok : ∀ q ∈ lw_privs, lw_okq q := by
  show ∀ q ∈ lw_privs_1 ++ (lw_privs_2), lw_okq q
  exact List.forall_mem_append.mpr ⟨lw_r1, lw_r2⟩
end
section
/-! the words that methods may rest on: those of lw_tbl that a call keeps -/
def jT : List Cond := lw_tbl.filter goodWord
theorem jT_in {n : Nat} {w : Cond} (h : lw_tbl[n]? = some w) (hg : goodWord w = true) : w ∈ jT := List.mem_filter.mpr ⟨List.mem_of_getElem? h, hg⟩
theorem jT_tbl {w : Cond} (h : w ∈ jT) : w ∈ lw_tbl := (List.mem_filter.mp h).1
theorem jT_good : ∀ w ∈ jT, goodWord w = true := fun _ h => (List.mem_filter.mp h).2
def T_P : u_T := fun k => match k with
  | 0 => ("InputRoom$Proc", "number", "I", true)
  | 1 => ("InputRoom$Proc", "priority", "I", true)
  | 2 => ("InputRoom$Proc", "ready", "LInputRoom$Row;", true)
  | 3 => ("InputRoom$Proc", "acts", "[I", true)
  | 4 => ("InputRoom$Proc", "codesDone", "I", false)
  | 5 => ("InputRoom$Proc", "rowNumber", "I", false)
  | _ => ("InputRoom$Proc", "behind", "LInputRoom$Proc;", false)
def ty_P : Nat → FieldType := fun k => match k with
  | 0 => .int
  | 1 => .int
  | 2 => (.object "InputRoom$Row")
  | 3 => (.array .int)
  | 4 => .int
  | 5 => .int
  | _ => (.object "InputRoom$Proc")
theorem nm_P : ∀ a, a < 7 → ∀ b, b < 7 → a ≠ b → (T_P a).2.1 ≠ (T_P b).2.1 := by decide +kernel
theorem tk_P : ∀ k, k < 7 → parseFieldDescriptor (T_P k).2.2.1 = some (ty_P k) := by decide +kernel
def T_R : u_T := fun k => match k with
  | 0 => ("InputRoom$Row", "rowNumber", "I", true)
  | 1 => ("InputRoom$Row", "first", "LInputRoom$Proc;", false)
  | _ => ("InputRoom$Row", "last", "LInputRoom$Proc;", false)
def ty_R : Nat → FieldType := fun k => match k with
  | 0 => .int
  | 1 => (.object "InputRoom$Proc")
  | _ => (.object "InputRoom$Proc")
theorem nm_R : ∀ a, a < 3 → ∀ b, b < 3 → a ≠ b → (T_R a).2.1 ≠ (T_R b).2.1 := by decide +kernel
theorem tk_R : ∀ k, k < 3 → parseFieldDescriptor (T_R k).2.2.1 = some (ty_R k) := by decide +kernel
def T_S : u_T := fun k => match k with
  | 0 => ("InputRoom$Semaphore", "number", "I", true)
  | 1 => ("InputRoom$Semaphore", "waiting", "LInputRoom$Row;", true)
  | _ => ("InputRoom$Semaphore", "extraSignals", "I", false)
def ty_S : Nat → FieldType := fun k => match k with
  | 0 => .int
  | 1 => (.object "InputRoom$Row")
  | _ => .int
theorem nm_S : ∀ a, a < 3 → ∀ b, b < 3 → a ≠ b → (T_S a).2.1 ≠ (T_S b).2.1 := by decide +kernel
theorem tk_S : ∀ k, k < 3 → parseFieldDescriptor (T_S k).2.2.1 = some (ty_S k) := by decide +kernel
def T_W : u_T := fun k => match k with
  | 0 => ("InputRoom$Words", "ring", "[I", true)
  | 1 => ("InputRoom$Words", "start", "I", false)
  | 2 => ("InputRoom$Words", "count", "I", false)
  | _ => ("InputRoom$Words", "untold", "I", false)
def ty_W : Nat → FieldType := fun k => match k with
  | 0 => (.array .int)
  | 1 => .int
  | 2 => .int
  | _ => .int
theorem nm_W : ∀ a, a < 4 → ∀ b, b < 4 → a ≠ b → (T_W a).2.1 ≠ (T_W b).2.1 := by decide +kernel
theorem tk_W : ∀ k, k < 4 → parseFieldDescriptor (T_W k).2.2.1 = some (ty_W k) := by decide +kernel
def T_X : u_T := fun k => match k with
  | 0 => ("InputRoom", "processes", "[LInputRoom$Proc;", true)
  | 1 => ("InputRoom", "readyRows", "[LInputRoom$Row;", true)
  | 2 => ("InputRoom", "semaphores", "[LInputRoom$Semaphore;", true)
  | 3 => ("InputRoom", "words", "LInputRoom$Words;", true)
  | 4 => ("InputRoom", "active", "LInputRoom$Proc;", false)
  | 5 => ("InputRoom", "changeWanted", "Z", false)
  | 6 => ("InputRoom", "wantedOne", "LInputRoom$Proc;", false)
  | 7 => ("InputRoom", "clock", "I", false)
  | 8 => ("InputRoom", "codes", "J", false)
  | 9 => ("InputRoom", "input", "LInputRoom$Semaphore;", false)
  | 10 => ("InputRoom", "alarmed", "LInputRoom$Semaphore;", false)
  | _ => ("InputRoom", "alarmTick", "I", false)
def ty_X : Nat → FieldType := fun k => match k with
  | 0 => (.array (.object "InputRoom$Proc"))
  | 1 => (.array (.object "InputRoom$Row"))
  | 2 => (.array (.object "InputRoom$Semaphore"))
  | 3 => (.object "InputRoom$Words")
  | 4 => (.object "InputRoom$Proc")
  | 5 => .boolean
  | 6 => (.object "InputRoom$Proc")
  | 7 => .int
  | 8 => .long
  | 9 => (.object "InputRoom$Semaphore")
  | 10 => (.object "InputRoom$Semaphore")
  | _ => .int
theorem nm_X : ∀ a, a < 12 → ∀ b, b < 12 → a ≠ b → (T_X a).2.1 ≠ (T_X b).2.1 := by decide +kernel
theorem tk_X : ∀ k, k < 12 → parseFieldDescriptor (T_X k).2.2.1 = some (ty_X k) := by decide +kernel
def T_M : u_T := fun k => match k with
  | 0 => ("InputRoomModel", "made", "[Z", true)
  | 1 => ("InputRoomModel", "priorities", "[I", true)
  | 2 => ("InputRoomModel", "plans", "[I", true)
  | 3 => ("InputRoomModel", "done", "[I", true)
  | 4 => ("InputRoomModel", "rows", "[I", true)
  | 5 => ("InputRoomModel", "hours", "[J", true)
  | 6 => ("InputRoomModel", "hour", "J", false)
  | 7 => ("InputRoomModel", "extra", "[I", true)
  | 8 => ("InputRoomModel", "active", "I", false)
  | 9 => ("InputRoomModel", "wanted", "Z", false)
  | 10 => ("InputRoomModel", "wantedOne", "I", false)
  | 11 => ("InputRoomModel", "words", "[I", true)
  | 12 => ("InputRoomModel", "count", "I", false)
  | 13 => ("InputRoomModel", "news", "I", false)
  | 14 => ("InputRoomModel", "input", "I", false)
  | 15 => ("InputRoomModel", "alarm", "I", false)
  | 16 => ("InputRoomModel", "tick", "I", false)
  | 17 => ("InputRoomModel", "clock", "I", false)
  | 18 => ("InputRoomModel", "codes", "J", false)
  | 19 => ("InputRoomModel", "posted", "[I", true)
  | _ => ("InputRoomModel", "posts", "I", false)
def ty_M : Nat → FieldType := fun k => match k with
  | 0 => (.array .boolean)
  | 1 => (.array .int)
  | 2 => (.array .int)
  | 3 => (.array .int)
  | 4 => (.array .int)
  | 5 => (.array .long)
  | 6 => .long
  | 7 => (.array .int)
  | 8 => .int
  | 9 => .boolean
  | 10 => .int
  | 11 => (.array .int)
  | 12 => .int
  | 13 => .int
  | 14 => .int
  | 15 => .int
  | 16 => .int
  | 17 => .int
  | 18 => .long
  | 19 => (.array .int)
  | _ => .int
theorem nm_M : ∀ a, a < 21 → ∀ b, b < 21 → a ≠ b → (T_M a).2.1 ≠ (T_M b).2.1 := by decide +kernel
theorem tk_M : ∀ k, k < 21 → parseFieldDescriptor (T_M k).2.2.1 = some (ty_M k) := by decide +kernel
abbrev jcl : List vw_C := [("InputRoom$Proc", T_P, 7), ("InputRoom$Row", T_R, 3), ("InputRoom$Semaphore", T_S, 3), ("InputRoom$Words", T_W, 4), ("InputRoom", T_X, 12), ("InputRoomModel", T_M, 21)]
theorem t_0 : (Cond.selects "InputRoom" ⟨"InputRoom", "processNumbered", "(I)LInputRoom$Proc;"⟩ ⟨"InputRoom", "processNumbered", "(I)LInputRoom$Proc;"⟩) ∈ jT := jT_in (n := 0) rfl rfl
theorem t_1 : (Cond.selects "InputRoom" ⟨"InputRoom", "presentOne", "()LInputRoom$Proc;"⟩ ⟨"InputRoom", "presentOne", "()LInputRoom$Proc;"⟩) ∈ jT := jT_in (n := 1) rfl rfl
theorem t_2 : (Cond.selects "InputRoom" ⟨"InputRoom", "wakeUp", "(LInputRoom$Proc;)V"⟩ ⟨"InputRoom", "wakeUp", "(LInputRoom$Proc;)V"⟩) ∈ jT := jT_in (n := 2) rfl rfl
theorem t_3 : (Cond.selects "InputRoom" ⟨"InputRoom", "wantChangeTo", "(LInputRoom$Proc;)V"⟩ ⟨"InputRoom", "wantChangeTo", "(LInputRoom$Proc;)V"⟩) ∈ jT := jT_in (n := 3) rfl rfl
theorem t_4 : (Cond.selects "InputRoom" ⟨"InputRoom", "putPresentAside", "()V"⟩ ⟨"InputRoom", "putPresentAside", "()V"⟩) ∈ jT := jT_in (n := 4) rfl rfl
theorem t_5 : (Cond.selects "InputRoom" ⟨"InputRoom", "signalOnce", "(LInputRoom$Semaphore;)V"⟩ ⟨"InputRoom", "signalOnce", "(LInputRoom$Semaphore;)V"⟩) ∈ jT := jT_in (n := 5) rfl rfl
theorem t_6 : (Cond.selects "InputRoom" ⟨"InputRoom", "setAlarm", "(LInputRoom$Semaphore;I)V"⟩ ⟨"InputRoom", "setAlarm", "(LInputRoom$Semaphore;I)V"⟩) ∈ jT := jT_in (n := 6) rfl rfl
theorem t_7 : (Cond.selects "InputRoom$Words" ⟨"InputRoom$Words", "place", "(I)I"⟩ ⟨"InputRoom$Words", "place", "(I)I"⟩) ∈ jT := jT_in (n := 7) rfl rfl
theorem t_8 : (Cond.selects "InputRoom" ⟨"InputRoom", "doBehind", "()V"⟩ ⟨"InputRoom", "doBehind", "()V"⟩) ∈ jT := jT_in (n := 8) rfl rfl
theorem t_9 : (Cond.selects "InputRoom" ⟨"InputRoom", "settle", "()V"⟩ ⟨"InputRoom", "settle", "()V"⟩) ∈ jT := jT_in (n := 9) rfl rfl
theorem t_10 : (Cond.selects "InputRoom" ⟨"InputRoom", "signalNewWords", "()V"⟩ ⟨"InputRoom", "signalNewWords", "()V"⟩) ∈ jT := jT_in (n := 10) rfl rfl
theorem t_11 : (Cond.selects "InputRoom" ⟨"InputRoom", "signalDueAlarm", "()V"⟩ ⟨"InputRoom", "signalDueAlarm", "()V"⟩) ∈ jT := jT_in (n := 11) rfl rfl
theorem t_12 : (Cond.selects "InputRoom" ⟨"InputRoom", "doCode", "(LInputRoom$Proc;)V"⟩ ⟨"InputRoom", "doCode", "(LInputRoom$Proc;)V"⟩) ∈ jT := jT_in (n := 12) rfl rfl
theorem t_13 : (Cond.selects "InputRoom" ⟨"InputRoom", "doAct", "(I)V"⟩ ⟨"InputRoom", "doAct", "(I)V"⟩) ∈ jT := jT_in (n := 13) rfl rfl
theorem t_14 : (Cond.selects "InputRoom" ⟨"InputRoom", "waitFor", "(LInputRoom$Semaphore;)V"⟩ ⟨"InputRoom", "waitFor", "(LInputRoom$Semaphore;)V"⟩) ∈ jT := jT_in (n := 14) rfl rfl
theorem t_15 : (Cond.selects "InputRoom" ⟨"InputRoom", "giveWay", "()V"⟩ ⟨"InputRoom", "giveWay", "()V"⟩) ∈ jT := jT_in (n := 15) rfl rfl
theorem t_16 : (Cond.selects "InputRoomModel" ⟨"InputRoomModel", "behind", "()V"⟩ ⟨"InputRoomModel", "behind", "()V"⟩) ∈ jT := jT_in (n := 16) rfl rfl
theorem t_17 : (Cond.selects "InputRoomModel" ⟨"InputRoomModel", "post", "(I)V"⟩ ⟨"InputRoomModel", "post", "(I)V"⟩) ∈ jT := jT_in (n := 17) rfl rfl
theorem t_18 : (Cond.selects "InputRoomModel" ⟨"InputRoomModel", "signal0", "(I)V"⟩ ⟨"InputRoomModel", "signal0", "(I)V"⟩) ∈ jT := jT_in (n := 18) rfl rfl
theorem t_19 : (Cond.selects "InputRoomModel" ⟨"InputRoomModel", "first", "(I)I"⟩ ⟨"InputRoomModel", "first", "(I)I"⟩) ∈ jT := jT_in (n := 19) rfl rfl
theorem t_20 : (Cond.selects "InputRoomModel" ⟨"InputRoomModel", "rouse", "(I)V"⟩ ⟨"InputRoomModel", "rouse", "(I)V"⟩) ∈ jT := jT_in (n := 20) rfl rfl
theorem t_21 : (Cond.selects "InputRoomModel" ⟨"InputRoomModel", "present0", "()I"⟩ ⟨"InputRoomModel", "present0", "()I"⟩) ∈ jT := jT_in (n := 21) rfl rfl
theorem t_22 : (Cond.selects "InputRoomModel" ⟨"InputRoomModel", "come", "(II)V"⟩ ⟨"InputRoomModel", "come", "(II)V"⟩) ∈ jT := jT_in (n := 22) rfl rfl
theorem t_23 : (Cond.selects "InputRoomModel" ⟨"InputRoomModel", "want", "(I)V"⟩ ⟨"InputRoomModel", "want", "(I)V"⟩) ∈ jT := jT_in (n := 23) rfl rfl
theorem t_24 : (Cond.selects "InputRoomModel" ⟨"InputRoomModel", "act", "(I)V"⟩ ⟨"InputRoomModel", "act", "(I)V"⟩) ∈ jT := jT_in (n := 24) rfl rfl
theorem t_25 : (Cond.selects "InputRoomModel" ⟨"InputRoomModel", "await0", "(I)V"⟩ ⟨"InputRoomModel", "await0", "(I)V"⟩) ∈ jT := jT_in (n := 25) rfl rfl
theorem t_26 : (Cond.selects "InputRoomModel" ⟨"InputRoomModel", "putAside", "()V"⟩ ⟨"InputRoomModel", "putAside", "()V"⟩) ∈ jT := jT_in (n := 26) rfl rfl
theorem t_27 : (Cond.selects "InputRoomModel" ⟨"InputRoomModel", "giveWay", "()V"⟩ ⟨"InputRoomModel", "giveWay", "()V"⟩) ∈ jT := jT_in (n := 27) rfl rfl
theorem t_28 : (Cond.selects "InputRoomModel" ⟨"InputRoomModel", "dropWord", "()V"⟩ ⟨"InputRoomModel", "dropWord", "()V"⟩) ∈ jT := jT_in (n := 28) rfl rfl
theorem t_29 : (Cond.selects "InputRoomModel" ⟨"InputRoomModel", "isMade", "(I)Z"⟩ ⟨"InputRoomModel", "isMade", "(I)Z"⟩) ∈ jT := jT_in (n := 29) rfl rfl
theorem t_30 : (Jvm.Cond.initialized "InputRoomLaw") ∈ jT := jT_in (n := 30) rfl rfl
theorem t_31 : (Jvm.Cond.initialized "InputRoom") ∈ jT := jT_in (n := 31) rfl rfl
theorem t_32 : (Jvm.Cond.initialized "InputRoom$Words") ∈ jT := jT_in (n := 32) rfl rfl
theorem t_33 : (Jvm.Cond.initialized "InputRoom$Row") ∈ jT := jT_in (n := 33) rfl rfl
theorem t_34 : (Jvm.Cond.initialized "InputRoom$Semaphore") ∈ jT := jT_in (n := 34) rfl rfl
theorem t_35 : (Jvm.Cond.initialized "InputRoomModel") ∈ jT := jT_in (n := 35) rfl rfl
theorem t_36 : (Jvm.Cond.initialized "InputRoom$Proc") ∈ jT := jT_in (n := 36) rfl rfl
theorem t_37 : (Jvm.Cond.initialized "java/lang/Math") ∈ jT := jT_in (n := 37) rfl rfl
theorem t_38 : (Jvm.Cond.classLink "InputRoomLaw" (7 : Nat) "InputRoom") ∈ jT := jT_in (n := 38) rfl rfl
theorem t_39 : (Jvm.Cond.instantiable "InputRoom" (12 : Nat)) ∈ jT := jT_in (n := 39) rfl rfl
theorem t_40 : (Jvm.Cond.methodLink "InputRoomLaw" (9 : Nat) ({ cls := "InputRoom", name := "<init>", desc := "()V" } : Jvm.MethodName)) ∈ jT := jT_in (n := 40) rfl rfl
theorem t_41 : (Jvm.Cond.instanceMethod ({ cls := "InputRoom", name := "<init>", desc := "()V" } : Jvm.MethodName)) ∈ jT := jT_in (n := 41) rfl rfl
theorem t_42 : (Jvm.Cond.code ({ cls := "InputRoom", name := "<init>", desc := "()V" } : Jvm.MethodName) prog_1_method_1_code (2 : Nat) (Option.none : Option Jvm.ClassFile.FieldType)) ∈ jT := jT_in (n := 42) rfl rfl
theorem t_43 : (Jvm.Cond.methodLink "InputRoom" (1 : Nat) ({ cls := "java/lang/Object", name := "<init>", desc := "()V" } : Jvm.MethodName)) ∈ jT := jT_in (n := 43) rfl rfl
theorem t_44 : (Jvm.Cond.instanceMethod ({ cls := "java/lang/Object", name := "<init>", desc := "()V" } : Jvm.MethodName)) ∈ jT := jT_in (n := 44) rfl rfl
theorem t_45 : (Jvm.Cond.code ({ cls := "java/lang/Object", name := "<init>", desc := "()V" } : Jvm.MethodName) object_method_1_code (1 : Nat) (Option.none : Option Jvm.ClassFile.FieldType)) ∈ jT := jT_in (n := 45) rfl rfl
theorem t_46 : (Jvm.Cond.classLink "InputRoom" (9 : Nat) "InputRoom$Proc") ∈ jT := jT_in (n := 46) rfl rfl
theorem t_48 : (Jvm.Cond.classLink "InputRoom" (15 : Nat) "InputRoom$Row") ∈ jT := jT_in (n := 48) rfl rfl
theorem t_50 : (Jvm.Cond.classLink "InputRoom" (21 : Nat) "InputRoom$Semaphore") ∈ jT := jT_in (n := 50) rfl rfl
theorem t_52 : (Jvm.Cond.classLink "InputRoom" (27 : Nat) "InputRoom$Words") ∈ jT := jT_in (n := 52) rfl rfl
theorem t_53 : (Jvm.Cond.instantiable "InputRoom$Words" (4 : Nat)) ∈ jT := jT_in (n := 53) rfl rfl
theorem t_55 : (Jvm.Cond.instanceMethod ({ cls := "InputRoom$Words", name := "<init>", desc := "()V" } : Jvm.MethodName)) ∈ jT := jT_in (n := 55) rfl rfl
theorem t_56 : (Jvm.Cond.code ({ cls := "InputRoom$Words", name := "<init>", desc := "()V" } : Jvm.MethodName) prog_5_method_1_code (1 : Nat) (Option.none : Option Jvm.ClassFile.FieldType)) ∈ jT := jT_in (n := 56) rfl rfl
theorem t_57 : (Jvm.Cond.methodLink "InputRoom$Words" (3 : Nat) ({ cls := "java/lang/Object", name := "<init>", desc := "()V" } : Jvm.MethodName)) ∈ jT := jT_in (n := 57) rfl rfl
theorem t_58 : (Jvm.Cond.fieldLink "InputRoom$Words" (9 : Nat) "InputRoom$Words" "ring" "[I") ∈ jT := jT_in (n := 58) rfl rfl
theorem t_59 : (Jvm.Cond.fieldLink "InputRoom$Words" (26 : Nat) "InputRoom$Words" "start" "I") ∈ jT := jT_in (n := 59) rfl rfl
theorem t_60 : (Jvm.Cond.fieldLink "InputRoom$Words" (15 : Nat) "InputRoom$Words" "count" "I") ∈ jT := jT_in (n := 60) rfl rfl
theorem t_61 : (Jvm.Cond.fieldLink "InputRoom$Words" (23 : Nat) "InputRoom$Words" "untold" "I") ∈ jT := jT_in (n := 61) rfl rfl
theorem t_62 : (Jvm.Cond.laysFinal "InputRoom$Words" "InputRoom$Words" "ring" "[I") ∈ jT := jT_in (n := 62) rfl rfl
theorem t_64 : (Jvm.Cond.lays "InputRoom$Words" "InputRoom$Words" "start" "I") ∈ jT := jT_in (n := 64) rfl rfl
theorem t_66 : (Jvm.Cond.lays "InputRoom$Words" "InputRoom$Words" "count" "I") ∈ jT := jT_in (n := 66) rfl rfl
theorem t_68 : (Jvm.Cond.lays "InputRoom$Words" "InputRoom$Words" "untold" "I") ∈ jT := jT_in (n := 68) rfl rfl
theorem t_71 : (Jvm.Cond.arrayClass Jvm.ClassFile.FieldType.int) ∈ jT := jT_in (n := 71) rfl rfl
theorem t_72 : (Jvm.Cond.instantiable "InputRoom$Row" (3 : Nat)) ∈ jT := jT_in (n := 72) rfl rfl
theorem t_73 : (Jvm.Cond.methodLink "InputRoom" (34 : Nat) ({ cls := "InputRoom$Row", name := "<init>", desc := "(I)V" } : Jvm.MethodName)) ∈ jT := jT_in (n := 73) rfl rfl
theorem t_74 : (Jvm.Cond.instanceMethod ({ cls := "InputRoom$Row", name := "<init>", desc := "(I)V" } : Jvm.MethodName)) ∈ jT := jT_in (n := 74) rfl rfl
theorem t_75 : (Jvm.Cond.code ({ cls := "InputRoom$Row", name := "<init>", desc := "(I)V" } : Jvm.MethodName) prog_3_method_1_code (2 : Nat) (Option.none : Option Jvm.ClassFile.FieldType)) ∈ jT := jT_in (n := 75) rfl rfl
theorem t_76 : (Jvm.Cond.methodLink "InputRoom$Row" (3 : Nat) ({ cls := "java/lang/Object", name := "<init>", desc := "()V" } : Jvm.MethodName)) ∈ jT := jT_in (n := 76) rfl rfl
theorem t_77 : (Jvm.Cond.fieldLink "InputRoom$Row" (9 : Nat) "InputRoom$Row" "rowNumber" "I") ∈ jT := jT_in (n := 77) rfl rfl
theorem t_78 : (Jvm.Cond.fieldLink "InputRoom$Row" (15 : Nat) "InputRoom$Row" "first" "LInputRoom$Proc;") ∈ jT := jT_in (n := 78) rfl rfl
theorem t_79 : (Jvm.Cond.fieldLink "InputRoom$Row" (22 : Nat) "InputRoom$Row" "last" "LInputRoom$Proc;") ∈ jT := jT_in (n := 79) rfl rfl
theorem t_80 : (Jvm.Cond.laysFinal "InputRoom$Row" "InputRoom$Row" "rowNumber" "I") ∈ jT := jT_in (n := 80) rfl rfl
theorem t_82 : (Jvm.Cond.lays "InputRoom$Row" "InputRoom$Row" "first" "LInputRoom$Proc;") ∈ jT := jT_in (n := 82) rfl rfl
theorem t_84 : (Jvm.Cond.lays "InputRoom$Row" "InputRoom$Row" "last" "LInputRoom$Proc;") ∈ jT := jT_in (n := 84) rfl rfl
theorem t_87 : (Jvm.Cond.instantiable "InputRoom$Semaphore" (3 : Nat)) ∈ jT := jT_in (n := 87) rfl rfl
theorem t_88 : (Jvm.Cond.methodLink "InputRoom" (37 : Nat) ({ cls := "InputRoom$Semaphore", name := "<init>", desc := "(I)V" } : Jvm.MethodName)) ∈ jT := jT_in (n := 88) rfl rfl
theorem t_89 : (Jvm.Cond.instanceMethod ({ cls := "InputRoom$Semaphore", name := "<init>", desc := "(I)V" } : Jvm.MethodName)) ∈ jT := jT_in (n := 89) rfl rfl
theorem t_90 : (Jvm.Cond.code ({ cls := "InputRoom$Semaphore", name := "<init>", desc := "(I)V" } : Jvm.MethodName) prog_4_method_1_code (2 : Nat) (Option.none : Option Jvm.ClassFile.FieldType)) ∈ jT := jT_in (n := 90) rfl rfl
theorem t_91 : (Jvm.Cond.methodLink "InputRoom$Semaphore" (3 : Nat) ({ cls := "java/lang/Object", name := "<init>", desc := "()V" } : Jvm.MethodName)) ∈ jT := jT_in (n := 91) rfl rfl
theorem t_92 : (Jvm.Cond.classLink "InputRoom$Semaphore" (15 : Nat) "InputRoom$Row") ∈ jT := jT_in (n := 92) rfl rfl
theorem t_93 : (Jvm.Cond.methodLink "InputRoom$Semaphore" (17 : Nat) ({ cls := "InputRoom$Row", name := "<init>", desc := "(I)V" } : Jvm.MethodName)) ∈ jT := jT_in (n := 93) rfl rfl
theorem t_94 : (Jvm.Cond.fieldLink "InputRoom$Semaphore" (9 : Nat) "InputRoom$Semaphore" "number" "I") ∈ jT := jT_in (n := 94) rfl rfl
theorem t_95 : (Jvm.Cond.fieldLink "InputRoom" (129 : Nat) "InputRoom$Semaphore" "number" "I") ∈ jT := jT_in (n := 95) rfl rfl
theorem t_96 : (Jvm.Cond.fieldLink "InputRoom$Semaphore" (20 : Nat) "InputRoom$Semaphore" "waiting" "LInputRoom$Row;") ∈ jT := jT_in (n := 96) rfl rfl
theorem t_97 : (Jvm.Cond.fieldLink "InputRoom" (119 : Nat) "InputRoom$Semaphore" "waiting" "LInputRoom$Row;") ∈ jT := jT_in (n := 97) rfl rfl
theorem t_98 : (Jvm.Cond.fieldLink "InputRoom" (123 : Nat) "InputRoom$Semaphore" "extraSignals" "I") ∈ jT := jT_in (n := 98) rfl rfl
theorem t_99 : (Jvm.Cond.laysFinal "InputRoom$Semaphore" "InputRoom$Semaphore" "number" "I") ∈ jT := jT_in (n := 99) rfl rfl
theorem t_101 : (Jvm.Cond.laysFinal "InputRoom$Semaphore" "InputRoom$Semaphore" "waiting" "LInputRoom$Row;") ∈ jT := jT_in (n := 101) rfl rfl
theorem t_103 : (Jvm.Cond.lays "InputRoom$Semaphore" "InputRoom$Semaphore" "extraSignals" "I") ∈ jT := jT_in (n := 103) rfl rfl
theorem t_106 : (Jvm.Cond.fieldLink "InputRoom" (11 : Nat) "InputRoom" "processes" "[LInputRoom$Proc;") ∈ jT := jT_in (n := 106) rfl rfl
theorem t_107 : (Jvm.Cond.fieldLink "InputRoom" (17 : Nat) "InputRoom" "readyRows" "[LInputRoom$Row;") ∈ jT := jT_in (n := 107) rfl rfl
theorem t_108 : (Jvm.Cond.fieldLink "InputRoom" (23 : Nat) "InputRoom" "semaphores" "[LInputRoom$Semaphore;") ∈ jT := jT_in (n := 108) rfl rfl
theorem t_109 : (Jvm.Cond.fieldLink "InputRoom" (30 : Nat) "InputRoom" "words" "LInputRoom$Words;") ∈ jT := jT_in (n := 109) rfl rfl
theorem t_110 : (Jvm.Cond.fieldLink "InputRoom" (53 : Nat) "InputRoom" "active" "LInputRoom$Proc;") ∈ jT := jT_in (n := 110) rfl rfl
theorem t_111 : (Jvm.Cond.fieldLink "InputRoom" (133 : Nat) "InputRoom" "changeWanted" "Z") ∈ jT := jT_in (n := 111) rfl rfl
theorem t_112 : (Jvm.Cond.fieldLink "InputRoom" (137 : Nat) "InputRoom" "wantedOne" "LInputRoom$Proc;") ∈ jT := jT_in (n := 112) rfl rfl
theorem t_113 : (Jvm.Cond.fieldLink "InputRoom" (106 : Nat) "InputRoom" "clock" "I") ∈ jT := jT_in (n := 113) rfl rfl
theorem t_114 : (Jvm.Cond.fieldLink "InputRoom" (109 : Nat) "InputRoom" "codes" "J") ∈ jT := jT_in (n := 114) rfl rfl
theorem t_115 : (Jvm.Cond.fieldLink "InputRoom" (79 : Nat) "InputRoom" "input" "LInputRoom$Semaphore;") ∈ jT := jT_in (n := 115) rfl rfl
theorem t_116 : (Jvm.Cond.fieldLink "InputRoom" (83 : Nat) "InputRoom" "alarmed" "LInputRoom$Semaphore;") ∈ jT := jT_in (n := 116) rfl rfl
theorem t_117 : (Jvm.Cond.fieldLink "InputRoom" (130 : Nat) "InputRoom" "alarmTick" "I") ∈ jT := jT_in (n := 117) rfl rfl
theorem t_118 : (Jvm.Cond.laysFinal "InputRoom" "InputRoom" "processes" "[LInputRoom$Proc;") ∈ jT := jT_in (n := 118) rfl rfl
theorem t_120 : (Jvm.Cond.laysFinal "InputRoom" "InputRoom" "readyRows" "[LInputRoom$Row;") ∈ jT := jT_in (n := 120) rfl rfl
theorem t_122 : (Jvm.Cond.laysFinal "InputRoom" "InputRoom" "semaphores" "[LInputRoom$Semaphore;") ∈ jT := jT_in (n := 122) rfl rfl
theorem t_124 : (Jvm.Cond.laysFinal "InputRoom" "InputRoom" "words" "LInputRoom$Words;") ∈ jT := jT_in (n := 124) rfl rfl
theorem t_126 : (Jvm.Cond.lays "InputRoom" "InputRoom" "active" "LInputRoom$Proc;") ∈ jT := jT_in (n := 126) rfl rfl
theorem t_128 : (Jvm.Cond.lays "InputRoom" "InputRoom" "changeWanted" "Z") ∈ jT := jT_in (n := 128) rfl rfl
theorem t_130 : (Jvm.Cond.lays "InputRoom" "InputRoom" "wantedOne" "LInputRoom$Proc;") ∈ jT := jT_in (n := 130) rfl rfl
theorem t_132 : (Jvm.Cond.lays "InputRoom" "InputRoom" "clock" "I") ∈ jT := jT_in (n := 132) rfl rfl
theorem t_134 : (Jvm.Cond.lays "InputRoom" "InputRoom" "codes" "J") ∈ jT := jT_in (n := 134) rfl rfl
theorem t_136 : (Jvm.Cond.lays "InputRoom" "InputRoom" "input" "LInputRoom$Semaphore;") ∈ jT := jT_in (n := 136) rfl rfl
theorem t_138 : (Jvm.Cond.lays "InputRoom" "InputRoom" "alarmed" "LInputRoom$Semaphore;") ∈ jT := jT_in (n := 138) rfl rfl
theorem t_140 : (Jvm.Cond.lays "InputRoom" "InputRoom" "alarmTick" "I") ∈ jT := jT_in (n := 140) rfl rfl
theorem t_143 : (Jvm.Cond.methodLink "InputRoomLaw" (13 : Nat) ({ cls := "InputRoom", name := "make", desc := "(II)Z" } : Jvm.MethodName)) ∈ jT := jT_in (n := 143) rfl rfl
theorem t_144 : (Jvm.Cond.instanceMethod ({ cls := "InputRoom", name := "make", desc := "(II)Z" } : Jvm.MethodName)) ∈ jT := jT_in (n := 144) rfl rfl
theorem t_145 : (Jvm.Cond.selects "InputRoom" ({ cls := "InputRoom", name := "make", desc := "(II)Z" } : Jvm.MethodName) ({ cls := "InputRoom", name := "make", desc := "(II)Z" } : Jvm.MethodName)) ∈ jT := jT_in (n := 145) rfl rfl
theorem t_146 : (Jvm.Cond.code ({ cls := "InputRoom", name := "make", desc := "(II)Z" } : Jvm.MethodName) prog_1_method_2_code (3 : Nat) (Option.some Jvm.ClassFile.FieldType.boolean)) ∈ jT := jT_in (n := 146) rfl rfl
theorem t_147 : (Jvm.Cond.instantiable "InputRoom$Proc" (7 : Nat)) ∈ jT := jT_in (n := 147) rfl rfl
theorem t_148 : (Jvm.Cond.methodLink "InputRoom" (38 : Nat) ({ cls := "InputRoom$Proc", name := "<init>", desc := "(IILInputRoom$Row;)V" } : Jvm.MethodName)) ∈ jT := jT_in (n := 148) rfl rfl
theorem t_149 : (Jvm.Cond.instanceMethod ({ cls := "InputRoom$Proc", name := "<init>", desc := "(IILInputRoom$Row;)V" } : Jvm.MethodName)) ∈ jT := jT_in (n := 149) rfl rfl
theorem t_150 : (Jvm.Cond.code ({ cls := "InputRoom$Proc", name := "<init>", desc := "(IILInputRoom$Row;)V" } : Jvm.MethodName) prog_2_method_1_code (4 : Nat) (Option.none : Option Jvm.ClassFile.FieldType)) ∈ jT := jT_in (n := 150) rfl rfl
theorem t_151 : (Jvm.Cond.methodLink "InputRoom$Proc" (3 : Nat) ({ cls := "java/lang/Object", name := "<init>", desc := "()V" } : Jvm.MethodName)) ∈ jT := jT_in (n := 151) rfl rfl
theorem t_152 : (Jvm.Cond.fieldLink "InputRoom$Proc" (19 : Nat) "InputRoom$Proc" "number" "I") ∈ jT := jT_in (n := 152) rfl rfl
theorem t_153 : (Jvm.Cond.fieldLink "InputRoom" (68 : Nat) "InputRoom$Proc" "number" "I") ∈ jT := jT_in (n := 153) rfl rfl
theorem t_154 : (Jvm.Cond.fieldLink "InputRoom$Proc" (22 : Nat) "InputRoom$Proc" "priority" "I") ∈ jT := jT_in (n := 154) rfl rfl
theorem t_155 : (Jvm.Cond.fieldLink "InputRoom" (140 : Nat) "InputRoom$Proc" "priority" "I") ∈ jT := jT_in (n := 155) rfl rfl
theorem t_156 : (Jvm.Cond.fieldLink "InputRoom$Proc" (25 : Nat) "InputRoom$Proc" "ready" "LInputRoom$Row;") ∈ jT := jT_in (n := 156) rfl rfl
theorem t_157 : (Jvm.Cond.fieldLink "InputRoom" (143 : Nat) "InputRoom$Proc" "ready" "LInputRoom$Row;") ∈ jT := jT_in (n := 157) rfl rfl
theorem t_158 : (Jvm.Cond.fieldLink "InputRoom$Proc" (9 : Nat) "InputRoom$Proc" "acts" "[I") ∈ jT := jT_in (n := 158) rfl rfl
theorem t_159 : (Jvm.Cond.fieldLink "InputRoom" (45 : Nat) "InputRoom$Proc" "acts" "[I") ∈ jT := jT_in (n := 159) rfl rfl
theorem t_160 : (Jvm.Cond.fieldLink "InputRoom$Proc" (29 : Nat) "InputRoom$Proc" "codesDone" "I") ∈ jT := jT_in (n := 160) rfl rfl
theorem t_161 : (Jvm.Cond.fieldLink "InputRoom" (113 : Nat) "InputRoom$Proc" "codesDone" "I") ∈ jT := jT_in (n := 161) rfl rfl
theorem t_162 : (Jvm.Cond.fieldLink "InputRoom$Proc" (15 : Nat) "InputRoom$Proc" "rowNumber" "I") ∈ jT := jT_in (n := 162) rfl rfl
theorem t_163 : (Jvm.Cond.fieldLink "InputRoom$Row" (19 : Nat) "InputRoom$Proc" "rowNumber" "I") ∈ jT := jT_in (n := 163) rfl rfl
theorem t_164 : (Jvm.Cond.fieldLink "InputRoom" (49 : Nat) "InputRoom$Proc" "rowNumber" "I") ∈ jT := jT_in (n := 164) rfl rfl
theorem t_165 : (Jvm.Cond.fieldLink "InputRoom$Row" (25 : Nat) "InputRoom$Proc" "behind" "LInputRoom$Proc;") ∈ jT := jT_in (n := 165) rfl rfl
theorem t_166 : (Jvm.Cond.laysFinal "InputRoom$Proc" "InputRoom$Proc" "number" "I") ∈ jT := jT_in (n := 166) rfl rfl
theorem t_168 : (Jvm.Cond.laysFinal "InputRoom$Proc" "InputRoom$Proc" "priority" "I") ∈ jT := jT_in (n := 168) rfl rfl
theorem t_170 : (Jvm.Cond.laysFinal "InputRoom$Proc" "InputRoom$Proc" "ready" "LInputRoom$Row;") ∈ jT := jT_in (n := 170) rfl rfl
theorem t_172 : (Jvm.Cond.laysFinal "InputRoom$Proc" "InputRoom$Proc" "acts" "[I") ∈ jT := jT_in (n := 172) rfl rfl
theorem t_174 : (Jvm.Cond.lays "InputRoom$Proc" "InputRoom$Proc" "codesDone" "I") ∈ jT := jT_in (n := 174) rfl rfl
theorem t_176 : (Jvm.Cond.lays "InputRoom$Proc" "InputRoom$Proc" "rowNumber" "I") ∈ jT := jT_in (n := 176) rfl rfl
theorem t_178 : (Jvm.Cond.lays "InputRoom$Proc" "InputRoom$Proc" "behind" "LInputRoom$Proc;") ∈ jT := jT_in (n := 178) rfl rfl
theorem t_181 : (Jvm.Cond.methodLink "InputRoomLaw" (18 : Nat) ({ cls := "InputRoom", name := "plan", desc := "(III)I" } : Jvm.MethodName)) ∈ jT := jT_in (n := 181) rfl rfl
theorem t_182 : (Jvm.Cond.instanceMethod ({ cls := "InputRoom", name := "plan", desc := "(III)I" } : Jvm.MethodName)) ∈ jT := jT_in (n := 182) rfl rfl
theorem t_183 : (Jvm.Cond.selects "InputRoom" ({ cls := "InputRoom", name := "plan", desc := "(III)I" } : Jvm.MethodName) ({ cls := "InputRoom", name := "plan", desc := "(III)I" } : Jvm.MethodName)) ∈ jT := jT_in (n := 183) rfl rfl
theorem t_184 : (Jvm.Cond.code ({ cls := "InputRoom", name := "plan", desc := "(III)I" } : Jvm.MethodName) prog_1_method_3_code (6 : Nat) (Option.some Jvm.ClassFile.FieldType.int)) ∈ jT := jT_in (n := 184) rfl rfl
theorem t_185 : (Jvm.Cond.methodLink "InputRoom" (41 : Nat) ({ cls := "InputRoom", name := "processNumbered", desc := "(I)LInputRoom$Proc;" } : Jvm.MethodName)) ∈ jT := jT_in (n := 185) rfl rfl
theorem t_187 : (Jvm.Cond.instanceMethod ({ cls := "InputRoom", name := "processNumbered", desc := "(I)LInputRoom$Proc;" } : Jvm.MethodName)) ∈ jT := jT_in (n := 187) rfl rfl
theorem t_188 : (Jvm.Cond.code ({ cls := "InputRoom", name := "processNumbered", desc := "(I)LInputRoom$Proc;" } : Jvm.MethodName) prog_1_method_24_code (2 : Nat) (Option.some (Jvm.ClassFile.FieldType.object "InputRoom$Proc"))) ∈ jT := jT_in (n := 188) rfl rfl
theorem t_189 : (Jvm.Cond.methodLink "InputRoomLaw" (23 : Nat) ({ cls := "InputRoom", name := "wake", desc := "(I)Z" } : Jvm.MethodName)) ∈ jT := jT_in (n := 189) rfl rfl
theorem t_190 : (Jvm.Cond.instanceMethod ({ cls := "InputRoom", name := "wake", desc := "(I)Z" } : Jvm.MethodName)) ∈ jT := jT_in (n := 190) rfl rfl
theorem t_191 : (Jvm.Cond.selects "InputRoom" ({ cls := "InputRoom", name := "wake", desc := "(I)Z" } : Jvm.MethodName) ({ cls := "InputRoom", name := "wake", desc := "(I)Z" } : Jvm.MethodName)) ∈ jT := jT_in (n := 191) rfl rfl
theorem t_192 : (Jvm.Cond.code ({ cls := "InputRoom", name := "wake", desc := "(I)Z" } : Jvm.MethodName) prog_1_method_4_code (3 : Nat) (Option.some Jvm.ClassFile.FieldType.boolean)) ∈ jT := jT_in (n := 192) rfl rfl
theorem t_193 : (Jvm.Cond.methodLink "InputRoom" (57 : Nat) ({ cls := "InputRoom", name := "presentOne", desc := "()LInputRoom$Proc;" } : Jvm.MethodName)) ∈ jT := jT_in (n := 193) rfl rfl
theorem t_195 : (Jvm.Cond.instanceMethod ({ cls := "InputRoom", name := "presentOne", desc := "()LInputRoom$Proc;" } : Jvm.MethodName)) ∈ jT := jT_in (n := 195) rfl rfl
theorem t_196 : (Jvm.Cond.code ({ cls := "InputRoom", name := "presentOne", desc := "()LInputRoom$Proc;" } : Jvm.MethodName) prog_1_method_25_code (1 : Nat) (Option.some (Jvm.ClassFile.FieldType.object "InputRoom$Proc"))) ∈ jT := jT_in (n := 196) rfl rfl
theorem t_197 : (Jvm.Cond.methodLink "InputRoom" (61 : Nat) ({ cls := "InputRoom", name := "wakeUp", desc := "(LInputRoom$Proc;)V" } : Jvm.MethodName)) ∈ jT := jT_in (n := 197) rfl rfl
theorem t_199 : (Jvm.Cond.instanceMethod ({ cls := "InputRoom", name := "wakeUp", desc := "(LInputRoom$Proc;)V" } : Jvm.MethodName)) ∈ jT := jT_in (n := 199) rfl rfl
theorem t_200 : (Jvm.Cond.code ({ cls := "InputRoom", name := "wakeUp", desc := "(LInputRoom$Proc;)V" } : Jvm.MethodName) prog_1_method_27_code (3 : Nat) (Option.none : Option Jvm.ClassFile.FieldType)) ∈ jT := jT_in (n := 200) rfl rfl
theorem t_201 : (Jvm.Cond.methodLink "InputRoom" (146 : Nat) ({ cls := "InputRoom$Row", name := "append", desc := "(LInputRoom$Proc;)V" } : Jvm.MethodName)) ∈ jT := jT_in (n := 201) rfl rfl
theorem t_202 : (Jvm.Cond.instanceMethod ({ cls := "InputRoom$Row", name := "append", desc := "(LInputRoom$Proc;)V" } : Jvm.MethodName)) ∈ jT := jT_in (n := 202) rfl rfl
theorem t_203 : (Jvm.Cond.selects "InputRoom$Row" ({ cls := "InputRoom$Row", name := "append", desc := "(LInputRoom$Proc;)V" } : Jvm.MethodName) ({ cls := "InputRoom$Row", name := "append", desc := "(LInputRoom$Proc;)V" } : Jvm.MethodName)) ∈ jT := jT_in (n := 203) rfl rfl
theorem t_204 : (Jvm.Cond.code ({ cls := "InputRoom$Row", name := "append", desc := "(LInputRoom$Proc;)V" } : Jvm.MethodName) prog_3_method_3_code (2 : Nat) (Option.none : Option Jvm.ClassFile.FieldType)) ∈ jT := jT_in (n := 204) rfl rfl
theorem t_205 : (Jvm.Cond.methodLink "InputRoom" (149 : Nat) ({ cls := "InputRoom", name := "wantChangeTo", desc := "(LInputRoom$Proc;)V" } : Jvm.MethodName)) ∈ jT := jT_in (n := 205) rfl rfl
theorem t_207 : (Jvm.Cond.instanceMethod ({ cls := "InputRoom", name := "wantChangeTo", desc := "(LInputRoom$Proc;)V" } : Jvm.MethodName)) ∈ jT := jT_in (n := 207) rfl rfl
theorem t_208 : (Jvm.Cond.code ({ cls := "InputRoom", name := "wantChangeTo", desc := "(LInputRoom$Proc;)V" } : Jvm.MethodName) prog_1_method_26_code (2 : Nat) (Option.none : Option Jvm.ClassFile.FieldType)) ∈ jT := jT_in (n := 208) rfl rfl
theorem t_209 : (Jvm.Cond.methodLink "InputRoomLaw" (28 : Nat) ({ cls := "InputRoom", name := "suspend", desc := "()I" } : Jvm.MethodName)) ∈ jT := jT_in (n := 209) rfl rfl
theorem t_210 : (Jvm.Cond.instanceMethod ({ cls := "InputRoom", name := "suspend", desc := "()I" } : Jvm.MethodName)) ∈ jT := jT_in (n := 210) rfl rfl
theorem t_211 : (Jvm.Cond.selects "InputRoom" ({ cls := "InputRoom", name := "suspend", desc := "()I" } : Jvm.MethodName) ({ cls := "InputRoom", name := "suspend", desc := "()I" } : Jvm.MethodName)) ∈ jT := jT_in (n := 211) rfl rfl
theorem t_212 : (Jvm.Cond.code ({ cls := "InputRoom", name := "suspend", desc := "()I" } : Jvm.MethodName) prog_1_method_5_code (2 : Nat) (Option.some Jvm.ClassFile.FieldType.int)) ∈ jT := jT_in (n := 212) rfl rfl
theorem t_213 : (Jvm.Cond.methodLink "InputRoom" (65 : Nat) ({ cls := "InputRoom", name := "putPresentAside", desc := "()V" } : Jvm.MethodName)) ∈ jT := jT_in (n := 213) rfl rfl
theorem t_215 : (Jvm.Cond.instanceMethod ({ cls := "InputRoom", name := "putPresentAside", desc := "()V" } : Jvm.MethodName)) ∈ jT := jT_in (n := 215) rfl rfl
theorem t_216 : (Jvm.Cond.code ({ cls := "InputRoom", name := "putPresentAside", desc := "()V" } : Jvm.MethodName) prog_1_method_28_code (3 : Nat) (Option.none : Option Jvm.ClassFile.FieldType)) ∈ jT := jT_in (n := 216) rfl rfl
theorem t_217 : (Jvm.Cond.methodLink "InputRoom" (152 : Nat) ({ cls := "InputRoom$Row", name := "takeFirst", desc := "()LInputRoom$Proc;" } : Jvm.MethodName)) ∈ jT := jT_in (n := 217) rfl rfl
theorem t_218 : (Jvm.Cond.instanceMethod ({ cls := "InputRoom$Row", name := "takeFirst", desc := "()LInputRoom$Proc;" } : Jvm.MethodName)) ∈ jT := jT_in (n := 218) rfl rfl
theorem t_219 : (Jvm.Cond.selects "InputRoom$Row" ({ cls := "InputRoom$Row", name := "takeFirst", desc := "()LInputRoom$Proc;" } : Jvm.MethodName) ({ cls := "InputRoom$Row", name := "takeFirst", desc := "()LInputRoom$Proc;" } : Jvm.MethodName)) ∈ jT := jT_in (n := 219) rfl rfl
theorem t_220 : (Jvm.Cond.code ({ cls := "InputRoom$Row", name := "takeFirst", desc := "()LInputRoom$Proc;" } : Jvm.MethodName) prog_3_method_4_code (2 : Nat) (Option.some (Jvm.ClassFile.FieldType.object "InputRoom$Proc"))) ∈ jT := jT_in (n := 220) rfl rfl
theorem t_221 : (Jvm.Cond.methodLink "InputRoomLaw" (33 : Nat) ({ cls := "InputRoom", name := "signal", desc := "(I)Z" } : Jvm.MethodName)) ∈ jT := jT_in (n := 221) rfl rfl
theorem t_222 : (Jvm.Cond.instanceMethod ({ cls := "InputRoom", name := "signal", desc := "(I)Z" } : Jvm.MethodName)) ∈ jT := jT_in (n := 222) rfl rfl
theorem t_223 : (Jvm.Cond.selects "InputRoom" ({ cls := "InputRoom", name := "signal", desc := "(I)Z" } : Jvm.MethodName) ({ cls := "InputRoom", name := "signal", desc := "(I)Z" } : Jvm.MethodName)) ∈ jT := jT_in (n := 223) rfl rfl
theorem t_224 : (Jvm.Cond.code ({ cls := "InputRoom", name := "signal", desc := "(I)Z" } : Jvm.MethodName) prog_1_method_6_code (2 : Nat) (Option.some Jvm.ClassFile.FieldType.boolean)) ∈ jT := jT_in (n := 224) rfl rfl
theorem t_225 : (Jvm.Cond.methodLink "InputRoom" (71 : Nat) ({ cls := "InputRoom", name := "isSemaphore", desc := "(I)Z" } : Jvm.MethodName)) ∈ jT := jT_in (n := 225) rfl rfl
theorem t_226 : (Jvm.Cond.static ({ cls := "InputRoom", name := "isSemaphore", desc := "(I)Z" } : Jvm.MethodName)) ∈ jT := jT_in (n := 226) rfl rfl
theorem t_227 : (Jvm.Cond.code ({ cls := "InputRoom", name := "isSemaphore", desc := "(I)Z" } : Jvm.MethodName) prog_1_method_22_code (1 : Nat) (Option.some Jvm.ClassFile.FieldType.boolean)) ∈ jT := jT_in (n := 227) rfl rfl
theorem t_228 : (Jvm.Cond.methodLink "InputRoom" (75 : Nat) ({ cls := "InputRoom", name := "signalOnce", desc := "(LInputRoom$Semaphore;)V" } : Jvm.MethodName)) ∈ jT := jT_in (n := 228) rfl rfl
theorem t_230 : (Jvm.Cond.instanceMethod ({ cls := "InputRoom", name := "signalOnce", desc := "(LInputRoom$Semaphore;)V" } : Jvm.MethodName)) ∈ jT := jT_in (n := 230) rfl rfl
theorem t_231 : (Jvm.Cond.code ({ cls := "InputRoom", name := "signalOnce", desc := "(LInputRoom$Semaphore;)V" } : Jvm.MethodName) prog_1_method_29_code (3 : Nat) (Option.none : Option Jvm.ClassFile.FieldType)) ∈ jT := jT_in (n := 231) rfl rfl
theorem t_232 : (Jvm.Cond.methodLink "InputRoomLaw" (37 : Nat) ({ cls := "InputRoom", name := "listen", desc := "(I)Z" } : Jvm.MethodName)) ∈ jT := jT_in (n := 232) rfl rfl
theorem t_233 : (Jvm.Cond.instanceMethod ({ cls := "InputRoom", name := "listen", desc := "(I)Z" } : Jvm.MethodName)) ∈ jT := jT_in (n := 233) rfl rfl
theorem t_234 : (Jvm.Cond.selects "InputRoom" ({ cls := "InputRoom", name := "listen", desc := "(I)Z" } : Jvm.MethodName) ({ cls := "InputRoom", name := "listen", desc := "(I)Z" } : Jvm.MethodName)) ∈ jT := jT_in (n := 234) rfl rfl
theorem t_235 : (Jvm.Cond.code ({ cls := "InputRoom", name := "listen", desc := "(I)Z" } : Jvm.MethodName) prog_1_method_7_code (2 : Nat) (Option.some Jvm.ClassFile.FieldType.boolean)) ∈ jT := jT_in (n := 235) rfl rfl
theorem t_236 : (Jvm.Cond.methodLink "InputRoomLaw" (41 : Nat) ({ cls := "InputRoom", name := "alarm", desc := "(II)Z" } : Jvm.MethodName)) ∈ jT := jT_in (n := 236) rfl rfl
theorem t_237 : (Jvm.Cond.instanceMethod ({ cls := "InputRoom", name := "alarm", desc := "(II)Z" } : Jvm.MethodName)) ∈ jT := jT_in (n := 237) rfl rfl
theorem t_238 : (Jvm.Cond.selects "InputRoom" ({ cls := "InputRoom", name := "alarm", desc := "(II)Z" } : Jvm.MethodName) ({ cls := "InputRoom", name := "alarm", desc := "(II)Z" } : Jvm.MethodName)) ∈ jT := jT_in (n := 238) rfl rfl
theorem t_239 : (Jvm.Cond.code ({ cls := "InputRoom", name := "alarm", desc := "(II)Z" } : Jvm.MethodName) prog_1_method_8_code (3 : Nat) (Option.some Jvm.ClassFile.FieldType.boolean)) ∈ jT := jT_in (n := 239) rfl rfl
theorem t_240 : (Jvm.Cond.constant "InputRoom" (86 : Nat) (1000000 : Int32)) ∈ jT := jT_in (n := 240) rfl rfl
theorem t_241 : (Jvm.Cond.methodLink "InputRoom" (87 : Nat) ({ cls := "InputRoom", name := "setAlarm", desc := "(LInputRoom$Semaphore;I)V" } : Jvm.MethodName)) ∈ jT := jT_in (n := 241) rfl rfl
theorem t_243 : (Jvm.Cond.instanceMethod ({ cls := "InputRoom", name := "setAlarm", desc := "(LInputRoom$Semaphore;I)V" } : Jvm.MethodName)) ∈ jT := jT_in (n := 243) rfl rfl
theorem t_244 : (Jvm.Cond.code ({ cls := "InputRoom", name := "setAlarm", desc := "(LInputRoom$Semaphore;I)V" } : Jvm.MethodName) prog_1_method_32_code (3 : Nat) (Option.none : Option Jvm.ClassFile.FieldType)) ∈ jT := jT_in (n := 244) rfl rfl
theorem t_245 : (Jvm.Cond.methodLink "InputRoomLaw" (45 : Nat) ({ cls := "InputRoom", name := "word", desc := "(I)I" } : Jvm.MethodName)) ∈ jT := jT_in (n := 245) rfl rfl
theorem t_246 : (Jvm.Cond.instanceMethod ({ cls := "InputRoom", name := "word", desc := "(I)I" } : Jvm.MethodName)) ∈ jT := jT_in (n := 246) rfl rfl
theorem t_247 : (Jvm.Cond.selects "InputRoom" ({ cls := "InputRoom", name := "word", desc := "(I)I" } : Jvm.MethodName) ({ cls := "InputRoom", name := "word", desc := "(I)I" } : Jvm.MethodName)) ∈ jT := jT_in (n := 247) rfl rfl
theorem t_248 : (Jvm.Cond.code ({ cls := "InputRoom", name := "word", desc := "(I)I" } : Jvm.MethodName) prog_1_method_9_code (2 : Nat) (Option.some Jvm.ClassFile.FieldType.int)) ∈ jT := jT_in (n := 248) rfl rfl
theorem t_249 : (Jvm.Cond.constant "InputRoom" (91 : Nat) (65535 : Int32)) ∈ jT := jT_in (n := 249) rfl rfl
theorem t_250 : (Jvm.Cond.methodLink "InputRoom" (92 : Nat) ({ cls := "InputRoom$Words", name := "add", desc := "(I)I" } : Jvm.MethodName)) ∈ jT := jT_in (n := 250) rfl rfl
theorem t_251 : (Jvm.Cond.instanceMethod ({ cls := "InputRoom$Words", name := "add", desc := "(I)I" } : Jvm.MethodName)) ∈ jT := jT_in (n := 251) rfl rfl
theorem t_252 : (Jvm.Cond.selects "InputRoom$Words" ({ cls := "InputRoom$Words", name := "add", desc := "(I)I" } : Jvm.MethodName) ({ cls := "InputRoom$Words", name := "add", desc := "(I)I" } : Jvm.MethodName)) ∈ jT := jT_in (n := 252) rfl rfl
theorem t_253 : (Jvm.Cond.code ({ cls := "InputRoom$Words", name := "add", desc := "(I)I" } : Jvm.MethodName) prog_5_method_2_code (2 : Nat) (Option.some Jvm.ClassFile.FieldType.int)) ∈ jT := jT_in (n := 253) rfl rfl
theorem t_254 : (Jvm.Cond.methodLink "InputRoom$Words" (19 : Nat) ({ cls := "InputRoom$Words", name := "place", desc := "(I)I" } : Jvm.MethodName)) ∈ jT := jT_in (n := 254) rfl rfl
theorem t_256 : (Jvm.Cond.instanceMethod ({ cls := "InputRoom$Words", name := "place", desc := "(I)I" } : Jvm.MethodName)) ∈ jT := jT_in (n := 256) rfl rfl
theorem t_257 : (Jvm.Cond.code ({ cls := "InputRoom$Words", name := "place", desc := "(I)I" } : Jvm.MethodName) prog_5_method_6_code (2 : Nat) (Option.some Jvm.ClassFile.FieldType.int)) ∈ jT := jT_in (n := 257) rfl rfl
theorem t_258 : (Jvm.Cond.methodLink "InputRoom$Words" (29 : Nat) ({ cls := "java/lang/Math", name := "floorMod", desc := "(II)I" } : Jvm.MethodName)) ∈ jT := jT_in (n := 258) rfl rfl
theorem t_259 : (Jvm.Cond.static ({ cls := "java/lang/Math", name := "floorMod", desc := "(II)I" } : Jvm.MethodName)) ∈ jT := jT_in (n := 259) rfl rfl
theorem t_260 : (Jvm.Cond.code ({ cls := "java/lang/Math", name := "floorMod", desc := "(II)I" } : Jvm.MethodName) prog_8_method_50_code (3 : Nat) (Option.some Jvm.ClassFile.FieldType.int)) ∈ jT := jT_in (n := 260) rfl rfl
theorem t_261 : (Jvm.Cond.methodLink "InputRoomLaw" (50 : Nat) ({ cls := "InputRoom", name := "run", desc := "(I)I" } : Jvm.MethodName)) ∈ jT := jT_in (n := 261) rfl rfl
theorem t_262 : (Jvm.Cond.instanceMethod ({ cls := "InputRoom", name := "run", desc := "(I)I" } : Jvm.MethodName)) ∈ jT := jT_in (n := 262) rfl rfl
theorem t_263 : (Jvm.Cond.selects "InputRoom" ({ cls := "InputRoom", name := "run", desc := "(I)I" } : Jvm.MethodName) ({ cls := "InputRoom", name := "run", desc := "(I)I" } : Jvm.MethodName)) ∈ jT := jT_in (n := 263) rfl rfl
theorem t_264 : (Jvm.Cond.code ({ cls := "InputRoom", name := "run", desc := "(I)I" } : Jvm.MethodName) prog_1_method_10_code (3 : Nat) (Option.some Jvm.ClassFile.FieldType.int)) ∈ jT := jT_in (n := 264) rfl rfl
theorem t_265 : (Jvm.Cond.methodLink "InputRoom" (96 : Nat) ({ cls := "InputRoom", name := "doBehind", desc := "()V" } : Jvm.MethodName)) ∈ jT := jT_in (n := 265) rfl rfl
theorem t_267 : (Jvm.Cond.instanceMethod ({ cls := "InputRoom", name := "doBehind", desc := "()V" } : Jvm.MethodName)) ∈ jT := jT_in (n := 267) rfl rfl
theorem t_268 : (Jvm.Cond.code ({ cls := "InputRoom", name := "doBehind", desc := "()V" } : Jvm.MethodName) prog_1_method_35_code (1 : Nat) (Option.none : Option Jvm.ClassFile.FieldType)) ∈ jT := jT_in (n := 268) rfl rfl
theorem t_269 : (Jvm.Cond.methodLink "InputRoom" (177 : Nat) ({ cls := "InputRoom", name := "settle", desc := "()V" } : Jvm.MethodName)) ∈ jT := jT_in (n := 269) rfl rfl
theorem t_271 : (Jvm.Cond.instanceMethod ({ cls := "InputRoom", name := "settle", desc := "()V" } : Jvm.MethodName)) ∈ jT := jT_in (n := 271) rfl rfl
theorem t_272 : (Jvm.Cond.code ({ cls := "InputRoom", name := "settle", desc := "()V" } : Jvm.MethodName) prog_1_method_36_code (1 : Nat) (Option.none : Option Jvm.ClassFile.FieldType)) ∈ jT := jT_in (n := 272) rfl rfl
theorem t_273 : (Jvm.Cond.methodLink "InputRoom" (180 : Nat) ({ cls := "InputRoom", name := "signalNewWords", desc := "()V" } : Jvm.MethodName)) ∈ jT := jT_in (n := 273) rfl rfl
theorem t_275 : (Jvm.Cond.instanceMethod ({ cls := "InputRoom", name := "signalNewWords", desc := "()V" } : Jvm.MethodName)) ∈ jT := jT_in (n := 275) rfl rfl
theorem t_276 : (Jvm.Cond.code ({ cls := "InputRoom", name := "signalNewWords", desc := "()V" } : Jvm.MethodName) prog_1_method_37_code (3 : Nat) (Option.none : Option Jvm.ClassFile.FieldType)) ∈ jT := jT_in (n := 276) rfl rfl
theorem t_277 : (Jvm.Cond.methodLink "InputRoom" (186 : Nat) ({ cls := "InputRoom$Words", name := "takeUntold", desc := "()I" } : Jvm.MethodName)) ∈ jT := jT_in (n := 277) rfl rfl
theorem t_278 : (Jvm.Cond.instanceMethod ({ cls := "InputRoom$Words", name := "takeUntold", desc := "()I" } : Jvm.MethodName)) ∈ jT := jT_in (n := 278) rfl rfl
theorem t_279 : (Jvm.Cond.selects "InputRoom$Words" ({ cls := "InputRoom$Words", name := "takeUntold", desc := "()I" } : Jvm.MethodName) ({ cls := "InputRoom$Words", name := "takeUntold", desc := "()I" } : Jvm.MethodName)) ∈ jT := jT_in (n := 279) rfl rfl
theorem t_280 : (Jvm.Cond.code ({ cls := "InputRoom$Words", name := "takeUntold", desc := "()I" } : Jvm.MethodName) prog_5_method_5_code (2 : Nat) (Option.some Jvm.ClassFile.FieldType.int)) ∈ jT := jT_in (n := 280) rfl rfl
theorem t_281 : (Jvm.Cond.methodLink "InputRoom" (183 : Nat) ({ cls := "InputRoom", name := "signalDueAlarm", desc := "()V" } : Jvm.MethodName)) ∈ jT := jT_in (n := 281) rfl rfl
theorem t_283 : (Jvm.Cond.instanceMethod ({ cls := "InputRoom", name := "signalDueAlarm", desc := "()V" } : Jvm.MethodName)) ∈ jT := jT_in (n := 283) rfl rfl
theorem t_284 : (Jvm.Cond.code ({ cls := "InputRoom", name := "signalDueAlarm", desc := "()V" } : Jvm.MethodName) prog_1_method_38_code (2 : Nat) (Option.none : Option Jvm.ClassFile.FieldType)) ∈ jT := jT_in (n := 284) rfl rfl
theorem t_285 : (Jvm.Cond.methodLink "InputRoom" (99 : Nat) ({ cls := "InputRoom", name := "doCode", desc := "(LInputRoom$Proc;)V" } : Jvm.MethodName)) ∈ jT := jT_in (n := 285) rfl rfl
theorem t_287 : (Jvm.Cond.instanceMethod ({ cls := "InputRoom", name := "doCode", desc := "(LInputRoom$Proc;)V" } : Jvm.MethodName)) ∈ jT := jT_in (n := 287) rfl rfl
theorem t_288 : (Jvm.Cond.code ({ cls := "InputRoom", name := "doCode", desc := "(LInputRoom$Proc;)V" } : Jvm.MethodName) prog_1_method_33_code (3 : Nat) (Option.none : Option Jvm.ClassFile.FieldType)) ∈ jT := jT_in (n := 288) rfl rfl
theorem t_289 : (Jvm.Cond.methodLink "InputRoom" (159 : Nat) ({ cls := "InputRoom$Proc", name := "nextAct", desc := "()I" } : Jvm.MethodName)) ∈ jT := jT_in (n := 289) rfl rfl
theorem t_290 : (Jvm.Cond.instanceMethod ({ cls := "InputRoom$Proc", name := "nextAct", desc := "()I" } : Jvm.MethodName)) ∈ jT := jT_in (n := 290) rfl rfl
theorem t_291 : (Jvm.Cond.selects "InputRoom$Proc" ({ cls := "InputRoom$Proc", name := "nextAct", desc := "()I" } : Jvm.MethodName) ({ cls := "InputRoom$Proc", name := "nextAct", desc := "()I" } : Jvm.MethodName)) ∈ jT := jT_in (n := 291) rfl rfl
theorem t_292 : (Jvm.Cond.code ({ cls := "InputRoom$Proc", name := "nextAct", desc := "()I" } : Jvm.MethodName) prog_2_method_2_code (1 : Nat) (Option.some Jvm.ClassFile.FieldType.int)) ∈ jT := jT_in (n := 292) rfl rfl
theorem t_293 : (Jvm.Cond.methodLink "InputRoom$Proc" (32 : Nat) ({ cls := "java/lang/Math", name := "floorMod", desc := "(II)I" } : Jvm.MethodName)) ∈ jT := jT_in (n := 293) rfl rfl
theorem t_294 : (Jvm.Cond.methodLink "InputRoom" (163 : Nat) ({ cls := "InputRoom", name := "doAct", desc := "(I)V" } : Jvm.MethodName)) ∈ jT := jT_in (n := 294) rfl rfl
theorem t_296 : (Jvm.Cond.instanceMethod ({ cls := "InputRoom", name := "doAct", desc := "(I)V" } : Jvm.MethodName)) ∈ jT := jT_in (n := 296) rfl rfl
theorem t_297 : (Jvm.Cond.code ({ cls := "InputRoom", name := "doAct", desc := "(I)V" } : Jvm.MethodName) prog_1_method_34_code (2 : Nat) (Option.none : Option Jvm.ClassFile.FieldType)) ∈ jT := jT_in (n := 297) rfl rfl
theorem t_298 : (Jvm.Cond.methodLink "InputRoom" (168 : Nat) ({ cls := "InputRoom", name := "waitFor", desc := "(LInputRoom$Semaphore;)V" } : Jvm.MethodName)) ∈ jT := jT_in (n := 298) rfl rfl
theorem t_300 : (Jvm.Cond.instanceMethod ({ cls := "InputRoom", name := "waitFor", desc := "(LInputRoom$Semaphore;)V" } : Jvm.MethodName)) ∈ jT := jT_in (n := 300) rfl rfl
theorem t_301 : (Jvm.Cond.code ({ cls := "InputRoom", name := "waitFor", desc := "(LInputRoom$Semaphore;)V" } : Jvm.MethodName) prog_1_method_30_code (3 : Nat) (Option.none : Option Jvm.ClassFile.FieldType)) ∈ jT := jT_in (n := 301) rfl rfl
theorem t_302 : (Jvm.Cond.methodLink "InputRoom" (171 : Nat) ({ cls := "InputRoom", name := "giveWay", desc := "()V" } : Jvm.MethodName)) ∈ jT := jT_in (n := 302) rfl rfl
theorem t_304 : (Jvm.Cond.instanceMethod ({ cls := "InputRoom", name := "giveWay", desc := "()V" } : Jvm.MethodName)) ∈ jT := jT_in (n := 304) rfl rfl
theorem t_305 : (Jvm.Cond.code ({ cls := "InputRoom", name := "giveWay", desc := "()V" } : Jvm.MethodName) prog_1_method_31_code (2 : Nat) (Option.none : Option Jvm.ClassFile.FieldType)) ∈ jT := jT_in (n := 305) rfl rfl
theorem t_306 : (Jvm.Cond.methodLink "InputRoom" (155 : Nat) ({ cls := "InputRoom$Row", name := "isEmpty", desc := "()Z" } : Jvm.MethodName)) ∈ jT := jT_in (n := 306) rfl rfl
theorem t_307 : (Jvm.Cond.instanceMethod ({ cls := "InputRoom$Row", name := "isEmpty", desc := "()Z" } : Jvm.MethodName)) ∈ jT := jT_in (n := 307) rfl rfl
theorem t_308 : (Jvm.Cond.selects "InputRoom$Row" ({ cls := "InputRoom$Row", name := "isEmpty", desc := "()Z" } : Jvm.MethodName) ({ cls := "InputRoom$Row", name := "isEmpty", desc := "()Z" } : Jvm.MethodName)) ∈ jT := jT_in (n := 308) rfl rfl
theorem t_309 : (Jvm.Cond.code ({ cls := "InputRoom$Row", name := "isEmpty", desc := "()Z" } : Jvm.MethodName) prog_3_method_2_code (1 : Nat) (Option.some Jvm.ClassFile.FieldType.boolean)) ∈ jT := jT_in (n := 309) rfl rfl
theorem t_310 : (Jvm.Cond.methodLink "InputRoom" (174 : Nat) ({ cls := "InputRoom$Words", name := "dropFirst", desc := "()V" } : Jvm.MethodName)) ∈ jT := jT_in (n := 310) rfl rfl
theorem t_311 : (Jvm.Cond.instanceMethod ({ cls := "InputRoom$Words", name := "dropFirst", desc := "()V" } : Jvm.MethodName)) ∈ jT := jT_in (n := 311) rfl rfl
theorem t_312 : (Jvm.Cond.selects "InputRoom$Words" ({ cls := "InputRoom$Words", name := "dropFirst", desc := "()V" } : Jvm.MethodName) ({ cls := "InputRoom$Words", name := "dropFirst", desc := "()V" } : Jvm.MethodName)) ∈ jT := jT_in (n := 312) rfl rfl
theorem t_313 : (Jvm.Cond.code ({ cls := "InputRoom$Words", name := "dropFirst", desc := "()V" } : Jvm.MethodName) prog_5_method_3_code (1 : Nat) (Option.none : Option Jvm.ClassFile.FieldType)) ∈ jT := jT_in (n := 313) rfl rfl
theorem t_314 : (Jvm.Cond.constantLong "InputRoom" (166 : Nat) (64 : Int64)) ∈ jT := jT_in (n := 314) rfl rfl
theorem t_315 : (Jvm.Cond.methodLink "InputRoomLaw" (54 : Nat) ({ cls := "InputRoom", name := "active", desc := "()I" } : Jvm.MethodName)) ∈ jT := jT_in (n := 315) rfl rfl
theorem t_316 : (Jvm.Cond.instanceMethod ({ cls := "InputRoom", name := "active", desc := "()I" } : Jvm.MethodName)) ∈ jT := jT_in (n := 316) rfl rfl
theorem t_317 : (Jvm.Cond.selects "InputRoom" ({ cls := "InputRoom", name := "active", desc := "()I" } : Jvm.MethodName) ({ cls := "InputRoom", name := "active", desc := "()I" } : Jvm.MethodName)) ∈ jT := jT_in (n := 317) rfl rfl
theorem t_318 : (Jvm.Cond.code ({ cls := "InputRoom", name := "active", desc := "()I" } : Jvm.MethodName) prog_1_method_11_code (1 : Nat) (Option.some Jvm.ClassFile.FieldType.int)) ∈ jT := jT_in (n := 318) rfl rfl
theorem t_319 : (Jvm.Cond.methodLink "InputRoom" (102 : Nat) ({ cls := "InputRoom", name := "numberOf", desc := "(LInputRoom$Proc;)I" } : Jvm.MethodName)) ∈ jT := jT_in (n := 319) rfl rfl
theorem t_320 : (Jvm.Cond.static ({ cls := "InputRoom", name := "numberOf", desc := "(LInputRoom$Proc;)I" } : Jvm.MethodName)) ∈ jT := jT_in (n := 320) rfl rfl
theorem t_321 : (Jvm.Cond.code ({ cls := "InputRoom", name := "numberOf", desc := "(LInputRoom$Proc;)I" } : Jvm.MethodName) prog_1_method_23_code (1 : Nat) (Option.some Jvm.ClassFile.FieldType.int)) ∈ jT := jT_in (n := 321) rfl rfl
theorem t_322 : (Jvm.Cond.methodLink "InputRoomLaw" (58 : Nat) ({ cls := "InputRoom", name := "present", desc := "()I" } : Jvm.MethodName)) ∈ jT := jT_in (n := 322) rfl rfl
theorem t_323 : (Jvm.Cond.instanceMethod ({ cls := "InputRoom", name := "present", desc := "()I" } : Jvm.MethodName)) ∈ jT := jT_in (n := 323) rfl rfl
theorem t_324 : (Jvm.Cond.selects "InputRoom" ({ cls := "InputRoom", name := "present", desc := "()I" } : Jvm.MethodName) ({ cls := "InputRoom", name := "present", desc := "()I" } : Jvm.MethodName)) ∈ jT := jT_in (n := 324) rfl rfl
theorem t_325 : (Jvm.Cond.code ({ cls := "InputRoom", name := "present", desc := "()I" } : Jvm.MethodName) prog_1_method_12_code (1 : Nat) (Option.some Jvm.ClassFile.FieldType.int)) ∈ jT := jT_in (n := 325) rfl rfl
theorem t_326 : (Jvm.Cond.methodLink "InputRoomLaw" (62 : Nat) ({ cls := "InputRoom", name := "clock", desc := "()I" } : Jvm.MethodName)) ∈ jT := jT_in (n := 326) rfl rfl
theorem t_327 : (Jvm.Cond.instanceMethod ({ cls := "InputRoom", name := "clock", desc := "()I" } : Jvm.MethodName)) ∈ jT := jT_in (n := 327) rfl rfl
theorem t_328 : (Jvm.Cond.selects "InputRoom" ({ cls := "InputRoom", name := "clock", desc := "()I" } : Jvm.MethodName) ({ cls := "InputRoom", name := "clock", desc := "()I" } : Jvm.MethodName)) ∈ jT := jT_in (n := 328) rfl rfl
theorem t_329 : (Jvm.Cond.code ({ cls := "InputRoom", name := "clock", desc := "()I" } : Jvm.MethodName) prog_1_method_13_code (1 : Nat) (Option.some Jvm.ClassFile.FieldType.int)) ∈ jT := jT_in (n := 329) rfl rfl
theorem t_330 : (Jvm.Cond.methodLink "InputRoomLaw" (66 : Nat) ({ cls := "InputRoom", name := "codes", desc := "()J" } : Jvm.MethodName)) ∈ jT := jT_in (n := 330) rfl rfl
theorem t_331 : (Jvm.Cond.instanceMethod ({ cls := "InputRoom", name := "codes", desc := "()J" } : Jvm.MethodName)) ∈ jT := jT_in (n := 331) rfl rfl
theorem t_332 : (Jvm.Cond.selects "InputRoom" ({ cls := "InputRoom", name := "codes", desc := "()J" } : Jvm.MethodName) ({ cls := "InputRoom", name := "codes", desc := "()J" } : Jvm.MethodName)) ∈ jT := jT_in (n := 332) rfl rfl
theorem t_333 : (Jvm.Cond.code ({ cls := "InputRoom", name := "codes", desc := "()J" } : Jvm.MethodName) prog_1_method_14_code (1 : Nat) (Option.some Jvm.ClassFile.FieldType.long)) ∈ jT := jT_in (n := 333) rfl rfl
theorem t_334 : (Jvm.Cond.methodLink "InputRoomLaw" (71 : Nat) ({ cls := "InputRoom", name := "done", desc := "(I)I" } : Jvm.MethodName)) ∈ jT := jT_in (n := 334) rfl rfl
theorem t_335 : (Jvm.Cond.instanceMethod ({ cls := "InputRoom", name := "done", desc := "(I)I" } : Jvm.MethodName)) ∈ jT := jT_in (n := 335) rfl rfl
theorem t_336 : (Jvm.Cond.selects "InputRoom" ({ cls := "InputRoom", name := "done", desc := "(I)I" } : Jvm.MethodName) ({ cls := "InputRoom", name := "done", desc := "(I)I" } : Jvm.MethodName)) ∈ jT := jT_in (n := 336) rfl rfl
theorem t_337 : (Jvm.Cond.code ({ cls := "InputRoom", name := "done", desc := "(I)I" } : Jvm.MethodName) prog_1_method_15_code (3 : Nat) (Option.some Jvm.ClassFile.FieldType.int)) ∈ jT := jT_in (n := 337) rfl rfl
theorem t_338 : (Jvm.Cond.methodLink "InputRoomLaw" (75 : Nat) ({ cls := "InputRoom", name := "row", desc := "(I)I" } : Jvm.MethodName)) ∈ jT := jT_in (n := 338) rfl rfl
theorem t_339 : (Jvm.Cond.instanceMethod ({ cls := "InputRoom", name := "row", desc := "(I)I" } : Jvm.MethodName)) ∈ jT := jT_in (n := 339) rfl rfl
theorem t_340 : (Jvm.Cond.selects "InputRoom" ({ cls := "InputRoom", name := "row", desc := "(I)I" } : Jvm.MethodName) ({ cls := "InputRoom", name := "row", desc := "(I)I" } : Jvm.MethodName)) ∈ jT := jT_in (n := 340) rfl rfl
theorem t_341 : (Jvm.Cond.code ({ cls := "InputRoom", name := "row", desc := "(I)I" } : Jvm.MethodName) prog_1_method_16_code (3 : Nat) (Option.some Jvm.ClassFile.FieldType.int)) ∈ jT := jT_in (n := 341) rfl rfl
theorem t_342 : (Jvm.Cond.methodLink "InputRoomLaw" (79 : Nat) ({ cls := "InputRoom", name := "at", desc := "(II)I" } : Jvm.MethodName)) ∈ jT := jT_in (n := 342) rfl rfl
theorem t_343 : (Jvm.Cond.instanceMethod ({ cls := "InputRoom", name := "at", desc := "(II)I" } : Jvm.MethodName)) ∈ jT := jT_in (n := 343) rfl rfl
theorem t_344 : (Jvm.Cond.selects "InputRoom" ({ cls := "InputRoom", name := "at", desc := "(II)I" } : Jvm.MethodName) ({ cls := "InputRoom", name := "at", desc := "(II)I" } : Jvm.MethodName)) ∈ jT := jT_in (n := 344) rfl rfl
theorem t_345 : (Jvm.Cond.code ({ cls := "InputRoom", name := "at", desc := "(II)I" } : Jvm.MethodName) prog_1_method_17_code (3 : Nat) (Option.some Jvm.ClassFile.FieldType.int)) ∈ jT := jT_in (n := 345) rfl rfl
theorem t_346 : (Jvm.Cond.methodLink "InputRoom" (116 : Nat) ({ cls := "InputRoom$Row", name := "processAt", desc := "(I)LInputRoom$Proc;" } : Jvm.MethodName)) ∈ jT := jT_in (n := 346) rfl rfl
theorem t_347 : (Jvm.Cond.instanceMethod ({ cls := "InputRoom$Row", name := "processAt", desc := "(I)LInputRoom$Proc;" } : Jvm.MethodName)) ∈ jT := jT_in (n := 347) rfl rfl
theorem t_348 : (Jvm.Cond.selects "InputRoom$Row" ({ cls := "InputRoom$Row", name := "processAt", desc := "(I)LInputRoom$Proc;" } : Jvm.MethodName) ({ cls := "InputRoom$Row", name := "processAt", desc := "(I)LInputRoom$Proc;" } : Jvm.MethodName)) ∈ jT := jT_in (n := 348) rfl rfl
theorem t_349 : (Jvm.Cond.code ({ cls := "InputRoom$Row", name := "processAt", desc := "(I)LInputRoom$Proc;" } : Jvm.MethodName) prog_3_method_5_code (4 : Nat) (Option.some (Jvm.ClassFile.FieldType.object "InputRoom$Proc"))) ∈ jT := jT_in (n := 349) rfl rfl
theorem t_350 : (Jvm.Cond.methodLink "InputRoomLaw" (84 : Nat) ({ cls := "InputRoom", name := "extra", desc := "(I)I" } : Jvm.MethodName)) ∈ jT := jT_in (n := 350) rfl rfl
theorem t_351 : (Jvm.Cond.instanceMethod ({ cls := "InputRoom", name := "extra", desc := "(I)I" } : Jvm.MethodName)) ∈ jT := jT_in (n := 351) rfl rfl
theorem t_352 : (Jvm.Cond.selects "InputRoom" ({ cls := "InputRoom", name := "extra", desc := "(I)I" } : Jvm.MethodName) ({ cls := "InputRoom", name := "extra", desc := "(I)I" } : Jvm.MethodName)) ∈ jT := jT_in (n := 352) rfl rfl
theorem t_353 : (Jvm.Cond.code ({ cls := "InputRoom", name := "extra", desc := "(I)I" } : Jvm.MethodName) prog_1_method_18_code (2 : Nat) (Option.some Jvm.ClassFile.FieldType.int)) ∈ jT := jT_in (n := 353) rfl rfl
theorem t_354 : (Jvm.Cond.methodLink "InputRoomLaw" (88 : Nat) ({ cls := "InputRoom", name := "wordAt", desc := "(I)I" } : Jvm.MethodName)) ∈ jT := jT_in (n := 354) rfl rfl
theorem t_355 : (Jvm.Cond.instanceMethod ({ cls := "InputRoom", name := "wordAt", desc := "(I)I" } : Jvm.MethodName)) ∈ jT := jT_in (n := 355) rfl rfl
theorem t_356 : (Jvm.Cond.selects "InputRoom" ({ cls := "InputRoom", name := "wordAt", desc := "(I)I" } : Jvm.MethodName) ({ cls := "InputRoom", name := "wordAt", desc := "(I)I" } : Jvm.MethodName)) ∈ jT := jT_in (n := 356) rfl rfl
theorem t_357 : (Jvm.Cond.code ({ cls := "InputRoom", name := "wordAt", desc := "(I)I" } : Jvm.MethodName) prog_1_method_19_code (2 : Nat) (Option.some Jvm.ClassFile.FieldType.int)) ∈ jT := jT_in (n := 357) rfl rfl
theorem t_358 : (Jvm.Cond.methodLink "InputRoom" (126 : Nat) ({ cls := "InputRoom$Words", name := "get", desc := "(I)I" } : Jvm.MethodName)) ∈ jT := jT_in (n := 358) rfl rfl
theorem t_359 : (Jvm.Cond.instanceMethod ({ cls := "InputRoom$Words", name := "get", desc := "(I)I" } : Jvm.MethodName)) ∈ jT := jT_in (n := 359) rfl rfl
theorem t_360 : (Jvm.Cond.selects "InputRoom$Words" ({ cls := "InputRoom$Words", name := "get", desc := "(I)I" } : Jvm.MethodName) ({ cls := "InputRoom$Words", name := "get", desc := "(I)I" } : Jvm.MethodName)) ∈ jT := jT_in (n := 360) rfl rfl
theorem t_361 : (Jvm.Cond.code ({ cls := "InputRoom$Words", name := "get", desc := "(I)I" } : Jvm.MethodName) prog_5_method_4_code (2 : Nat) (Option.some Jvm.ClassFile.FieldType.int)) ∈ jT := jT_in (n := 361) rfl rfl
theorem t_362 : (Jvm.Cond.methodLink "InputRoomLaw" (92 : Nat) ({ cls := "InputRoom", name := "input", desc := "()I" } : Jvm.MethodName)) ∈ jT := jT_in (n := 362) rfl rfl
theorem t_363 : (Jvm.Cond.instanceMethod ({ cls := "InputRoom", name := "input", desc := "()I" } : Jvm.MethodName)) ∈ jT := jT_in (n := 363) rfl rfl
theorem t_364 : (Jvm.Cond.selects "InputRoom" ({ cls := "InputRoom", name := "input", desc := "()I" } : Jvm.MethodName) ({ cls := "InputRoom", name := "input", desc := "()I" } : Jvm.MethodName)) ∈ jT := jT_in (n := 364) rfl rfl
theorem t_365 : (Jvm.Cond.code ({ cls := "InputRoom", name := "input", desc := "()I" } : Jvm.MethodName) prog_1_method_20_code (1 : Nat) (Option.some Jvm.ClassFile.FieldType.int)) ∈ jT := jT_in (n := 365) rfl rfl
theorem t_366 : (Jvm.Cond.methodLink "InputRoomLaw" (96 : Nat) ({ cls := "InputRoom", name := "tick", desc := "()I" } : Jvm.MethodName)) ∈ jT := jT_in (n := 366) rfl rfl
theorem t_367 : (Jvm.Cond.instanceMethod ({ cls := "InputRoom", name := "tick", desc := "()I" } : Jvm.MethodName)) ∈ jT := jT_in (n := 367) rfl rfl
theorem t_368 : (Jvm.Cond.selects "InputRoom" ({ cls := "InputRoom", name := "tick", desc := "()I" } : Jvm.MethodName) ({ cls := "InputRoom", name := "tick", desc := "()I" } : Jvm.MethodName)) ∈ jT := jT_in (n := 368) rfl rfl
theorem t_369 : (Jvm.Cond.code ({ cls := "InputRoom", name := "tick", desc := "()I" } : Jvm.MethodName) prog_1_method_21_code (1 : Nat) (Option.some Jvm.ClassFile.FieldType.int)) ∈ jT := jT_in (n := 369) rfl rfl
theorem t_370 : (Jvm.Cond.classLink "InputRoomLaw" (10 : Nat) "InputRoomModel") ∈ jT := jT_in (n := 370) rfl rfl
theorem t_371 : (Jvm.Cond.instantiable "InputRoomModel" (21 : Nat)) ∈ jT := jT_in (n := 371) rfl rfl
theorem t_372 : (Jvm.Cond.methodLink "InputRoomLaw" (12 : Nat) ({ cls := "InputRoomModel", name := "<init>", desc := "()V" } : Jvm.MethodName)) ∈ jT := jT_in (n := 372) rfl rfl
theorem t_373 : (Jvm.Cond.instanceMethod ({ cls := "InputRoomModel", name := "<init>", desc := "()V" } : Jvm.MethodName)) ∈ jT := jT_in (n := 373) rfl rfl
theorem t_374 : (Jvm.Cond.code ({ cls := "InputRoomModel", name := "<init>", desc := "()V" } : Jvm.MethodName) prog_7_method_1_code (1 : Nat) (Option.none : Option Jvm.ClassFile.FieldType)) ∈ jT := jT_in (n := 374) rfl rfl
theorem t_375 : (Jvm.Cond.methodLink "InputRoomModel" (1 : Nat) ({ cls := "java/lang/Object", name := "<init>", desc := "()V" } : Jvm.MethodName)) ∈ jT := jT_in (n := 375) rfl rfl
theorem t_376 : (Jvm.Cond.fieldLink "InputRoomModel" (7 : Nat) "InputRoomModel" "made" "[Z") ∈ jT := jT_in (n := 376) rfl rfl
theorem t_377 : (Jvm.Cond.fieldLink "InputRoomModel" (13 : Nat) "InputRoomModel" "priorities" "[I") ∈ jT := jT_in (n := 377) rfl rfl
theorem t_378 : (Jvm.Cond.fieldLink "InputRoomModel" (17 : Nat) "InputRoomModel" "plans" "[I") ∈ jT := jT_in (n := 378) rfl rfl
theorem t_379 : (Jvm.Cond.fieldLink "InputRoomModel" (20 : Nat) "InputRoomModel" "done" "[I") ∈ jT := jT_in (n := 379) rfl rfl
theorem t_380 : (Jvm.Cond.fieldLink "InputRoomModel" (23 : Nat) "InputRoomModel" "rows" "[I") ∈ jT := jT_in (n := 380) rfl rfl
theorem t_381 : (Jvm.Cond.fieldLink "InputRoomModel" (26 : Nat) "InputRoomModel" "hours" "[J") ∈ jT := jT_in (n := 381) rfl rfl
theorem t_382 : (Jvm.Cond.fieldLink "InputRoomModel" (52 : Nat) "InputRoomModel" "hour" "J") ∈ jT := jT_in (n := 382) rfl rfl
theorem t_383 : (Jvm.Cond.fieldLink "InputRoomModel" (30 : Nat) "InputRoomModel" "extra" "[I") ∈ jT := jT_in (n := 383) rfl rfl
theorem t_384 : (Jvm.Cond.fieldLink "InputRoomModel" (33 : Nat) "InputRoomModel" "active" "I") ∈ jT := jT_in (n := 384) rfl rfl
theorem t_385 : (Jvm.Cond.fieldLink "InputRoomModel" (56 : Nat) "InputRoomModel" "wanted" "Z") ∈ jT := jT_in (n := 385) rfl rfl
theorem t_386 : (Jvm.Cond.fieldLink "InputRoomModel" (37 : Nat) "InputRoomModel" "wantedOne" "I") ∈ jT := jT_in (n := 386) rfl rfl
theorem t_387 : (Jvm.Cond.fieldLink "InputRoomModel" (40 : Nat) "InputRoomModel" "words" "[I") ∈ jT := jT_in (n := 387) rfl rfl
theorem t_388 : (Jvm.Cond.fieldLink "InputRoomModel" (82 : Nat) "InputRoomModel" "count" "I") ∈ jT := jT_in (n := 388) rfl rfl
theorem t_389 : (Jvm.Cond.fieldLink "InputRoomModel" (106 : Nat) "InputRoomModel" "news" "I") ∈ jT := jT_in (n := 389) rfl rfl
theorem t_390 : (Jvm.Cond.fieldLink "InputRoomModel" (43 : Nat) "InputRoomModel" "input" "I") ∈ jT := jT_in (n := 390) rfl rfl
theorem t_391 : (Jvm.Cond.fieldLink "InputRoomModel" (46 : Nat) "InputRoomModel" "alarm" "I") ∈ jT := jT_in (n := 391) rfl rfl
theorem t_392 : (Jvm.Cond.fieldLink "InputRoomModel" (100 : Nat) "InputRoomModel" "tick" "I") ∈ jT := jT_in (n := 392) rfl rfl
theorem t_393 : (Jvm.Cond.fieldLink "InputRoomModel" (97 : Nat) "InputRoomModel" "clock" "I") ∈ jT := jT_in (n := 393) rfl rfl
theorem t_394 : (Jvm.Cond.fieldLink "InputRoomModel" (118 : Nat) "InputRoomModel" "codes" "J") ∈ jT := jT_in (n := 394) rfl rfl
theorem t_395 : (Jvm.Cond.fieldLink "InputRoomModel" (49 : Nat) "InputRoomModel" "posted" "[I") ∈ jT := jT_in (n := 395) rfl rfl
theorem t_396 : (Jvm.Cond.fieldLink "InputRoomModel" (103 : Nat) "InputRoomModel" "posts" "I") ∈ jT := jT_in (n := 396) rfl rfl
theorem t_397 : (Jvm.Cond.laysFinal "InputRoomModel" "InputRoomModel" "made" "[Z") ∈ jT := jT_in (n := 397) rfl rfl
theorem t_399 : (Jvm.Cond.laysFinal "InputRoomModel" "InputRoomModel" "priorities" "[I") ∈ jT := jT_in (n := 399) rfl rfl
theorem t_401 : (Jvm.Cond.laysFinal "InputRoomModel" "InputRoomModel" "plans" "[I") ∈ jT := jT_in (n := 401) rfl rfl
theorem t_403 : (Jvm.Cond.laysFinal "InputRoomModel" "InputRoomModel" "done" "[I") ∈ jT := jT_in (n := 403) rfl rfl
theorem t_405 : (Jvm.Cond.laysFinal "InputRoomModel" "InputRoomModel" "rows" "[I") ∈ jT := jT_in (n := 405) rfl rfl
theorem t_407 : (Jvm.Cond.laysFinal "InputRoomModel" "InputRoomModel" "hours" "[J") ∈ jT := jT_in (n := 407) rfl rfl
theorem t_409 : (Jvm.Cond.lays "InputRoomModel" "InputRoomModel" "hour" "J") ∈ jT := jT_in (n := 409) rfl rfl
theorem t_411 : (Jvm.Cond.laysFinal "InputRoomModel" "InputRoomModel" "extra" "[I") ∈ jT := jT_in (n := 411) rfl rfl
theorem t_413 : (Jvm.Cond.lays "InputRoomModel" "InputRoomModel" "active" "I") ∈ jT := jT_in (n := 413) rfl rfl
theorem t_415 : (Jvm.Cond.lays "InputRoomModel" "InputRoomModel" "wanted" "Z") ∈ jT := jT_in (n := 415) rfl rfl
theorem t_417 : (Jvm.Cond.lays "InputRoomModel" "InputRoomModel" "wantedOne" "I") ∈ jT := jT_in (n := 417) rfl rfl
theorem t_419 : (Jvm.Cond.laysFinal "InputRoomModel" "InputRoomModel" "words" "[I") ∈ jT := jT_in (n := 419) rfl rfl
theorem t_421 : (Jvm.Cond.lays "InputRoomModel" "InputRoomModel" "count" "I") ∈ jT := jT_in (n := 421) rfl rfl
theorem t_423 : (Jvm.Cond.lays "InputRoomModel" "InputRoomModel" "news" "I") ∈ jT := jT_in (n := 423) rfl rfl
theorem t_425 : (Jvm.Cond.lays "InputRoomModel" "InputRoomModel" "input" "I") ∈ jT := jT_in (n := 425) rfl rfl
theorem t_427 : (Jvm.Cond.lays "InputRoomModel" "InputRoomModel" "alarm" "I") ∈ jT := jT_in (n := 427) rfl rfl
theorem t_429 : (Jvm.Cond.lays "InputRoomModel" "InputRoomModel" "tick" "I") ∈ jT := jT_in (n := 429) rfl rfl
set_option maxRecDepth 100000 in
theorem t_431 : (Jvm.Cond.lays "InputRoomModel" "InputRoomModel" "clock" "I") ∈ jT := jT_in (n := 431) rfl rfl
set_option maxRecDepth 100000 in
theorem t_433 : (Jvm.Cond.lays "InputRoomModel" "InputRoomModel" "codes" "J") ∈ jT := jT_in (n := 433) rfl rfl
set_option maxRecDepth 100000 in
theorem t_435 : (Jvm.Cond.laysFinal "InputRoomModel" "InputRoomModel" "posted" "[I") ∈ jT := jT_in (n := 435) rfl rfl
set_option maxRecDepth 100000 in
theorem t_437 : (Jvm.Cond.lays "InputRoomModel" "InputRoomModel" "posts" "I") ∈ jT := jT_in (n := 437) rfl rfl
set_option maxRecDepth 100000 in
theorem t_440 : (Jvm.Cond.arrayClass Jvm.ClassFile.FieldType.boolean) ∈ jT := jT_in (n := 440) rfl rfl
set_option maxRecDepth 100000 in
theorem t_441 : (Jvm.Cond.arrayClass Jvm.ClassFile.FieldType.long) ∈ jT := jT_in (n := 441) rfl rfl
set_option maxRecDepth 100000 in
theorem t_442 : (Jvm.Cond.methodLink "InputRoomLaw" (53 : Nat) ({ cls := "InputRoomModel", name := "run", desc := "(I)I" } : Jvm.MethodName)) ∈ jT := jT_in (n := 442) rfl rfl
set_option maxRecDepth 100000 in
theorem t_443 : (Jvm.Cond.instanceMethod ({ cls := "InputRoomModel", name := "run", desc := "(I)I" } : Jvm.MethodName)) ∈ jT := jT_in (n := 443) rfl rfl
set_option maxRecDepth 100000 in
theorem t_444 : (Jvm.Cond.selects "InputRoomModel" ({ cls := "InputRoomModel", name := "run", desc := "(I)I" } : Jvm.MethodName) ({ cls := "InputRoomModel", name := "run", desc := "(I)I" } : Jvm.MethodName)) ∈ jT := jT_in (n := 444) rfl rfl
set_option maxRecDepth 100000 in
theorem t_445 : (Jvm.Cond.code ({ cls := "InputRoomModel", name := "run", desc := "(I)I" } : Jvm.MethodName) prog_7_method_17_code (5 : Nat) (Option.some Jvm.ClassFile.FieldType.int)) ∈ jT := jT_in (n := 445) rfl rfl
set_option maxRecDepth 100000 in
theorem t_446 : (Jvm.Cond.methodLink "InputRoomModel" (112 : Nat) ({ cls := "InputRoomModel", name := "behind", desc := "()V" } : Jvm.MethodName)) ∈ jT := jT_in (n := 446) rfl rfl
set_option maxRecDepth 100000 in
theorem t_448 : (Jvm.Cond.instanceMethod ({ cls := "InputRoomModel", name := "behind", desc := "()V" } : Jvm.MethodName)) ∈ jT := jT_in (n := 448) rfl rfl
set_option maxRecDepth 100000 in
theorem t_449 : (Jvm.Cond.code ({ cls := "InputRoomModel", name := "behind", desc := "()V" } : Jvm.MethodName) prog_7_method_16_code (3 : Nat) (Option.none : Option Jvm.ClassFile.FieldType)) ∈ jT := jT_in (n := 449) rfl rfl
set_option maxRecDepth 100000 in
theorem t_450 : (Jvm.Cond.methodLink "InputRoomModel" (109 : Nat) ({ cls := "InputRoomModel", name := "post", desc := "(I)V" } : Jvm.MethodName)) ∈ jT := jT_in (n := 450) rfl rfl
set_option maxRecDepth 100000 in
theorem t_452 : (Jvm.Cond.instanceMethod ({ cls := "InputRoomModel", name := "post", desc := "(I)V" } : Jvm.MethodName)) ∈ jT := jT_in (n := 452) rfl rfl
set_option maxRecDepth 100000 in
theorem t_453 : (Jvm.Cond.code ({ cls := "InputRoomModel", name := "post", desc := "(I)V" } : Jvm.MethodName) prog_7_method_15_code (2 : Nat) (Option.none : Option Jvm.ClassFile.FieldType)) ∈ jT := jT_in (n := 453) rfl rfl
set_option maxRecDepth 100000 in
theorem t_454 : (Jvm.Cond.methodLink "InputRoomModel" (88 : Nat) ({ cls := "InputRoomModel", name := "signal0", desc := "(I)V" } : Jvm.MethodName)) ∈ jT := jT_in (n := 454) rfl rfl
set_option maxRecDepth 100000 in
theorem t_456 : (Jvm.Cond.instanceMethod ({ cls := "InputRoomModel", name := "signal0", desc := "(I)V" } : Jvm.MethodName)) ∈ jT := jT_in (n := 456) rfl rfl
set_option maxRecDepth 100000 in
theorem t_457 : (Jvm.Cond.code ({ cls := "InputRoomModel", name := "signal0", desc := "(I)V" } : Jvm.MethodName) prog_7_method_10_code (3 : Nat) (Option.none : Option Jvm.ClassFile.FieldType)) ∈ jT := jT_in (n := 457) rfl rfl
set_option maxRecDepth 100000 in
theorem t_458 : (Jvm.Cond.methodLink "InputRoomModel" (72 : Nat) ({ cls := "InputRoomModel", name := "first", desc := "(I)I" } : Jvm.MethodName)) ∈ jT := jT_in (n := 458) rfl rfl
set_option maxRecDepth 100000 in
theorem t_460 : (Jvm.Cond.instanceMethod ({ cls := "InputRoomModel", name := "first", desc := "(I)I" } : Jvm.MethodName)) ∈ jT := jT_in (n := 460) rfl rfl
set_option maxRecDepth 100000 in
theorem t_461 : (Jvm.Cond.code ({ cls := "InputRoomModel", name := "first", desc := "(I)I" } : Jvm.MethodName) prog_7_method_5_code (4 : Nat) (Option.some Jvm.ClassFile.FieldType.int)) ∈ jT := jT_in (n := 461) rfl rfl
set_option maxRecDepth 100000 in
theorem t_462 : (Jvm.Cond.methodLink "InputRoomModel" (76 : Nat) ({ cls := "InputRoomModel", name := "rouse", desc := "(I)V" } : Jvm.MethodName)) ∈ jT := jT_in (n := 462) rfl rfl
set_option maxRecDepth 100000 in
theorem t_464 : (Jvm.Cond.instanceMethod ({ cls := "InputRoomModel", name := "rouse", desc := "(I)V" } : Jvm.MethodName)) ∈ jT := jT_in (n := 464) rfl rfl
set_option maxRecDepth 100000 in
theorem t_465 : (Jvm.Cond.code ({ cls := "InputRoomModel", name := "rouse", desc := "(I)V" } : Jvm.MethodName) prog_7_method_8_code (3 : Nat) (Option.none : Option Jvm.ClassFile.FieldType)) ∈ jT := jT_in (n := 465) rfl rfl
set_option maxRecDepth 100000 in
theorem t_466 : (Jvm.Cond.methodLink "InputRoomModel" (60 : Nat) ({ cls := "InputRoomModel", name := "present0", desc := "()I" } : Jvm.MethodName)) ∈ jT := jT_in (n := 466) rfl rfl
set_option maxRecDepth 100000 in
theorem t_468 : (Jvm.Cond.instanceMethod ({ cls := "InputRoomModel", name := "present0", desc := "()I" } : Jvm.MethodName)) ∈ jT := jT_in (n := 468) rfl rfl
set_option maxRecDepth 100000 in
theorem t_469 : (Jvm.Cond.code ({ cls := "InputRoomModel", name := "present0", desc := "()I" } : Jvm.MethodName) prog_7_method_6_code (1 : Nat) (Option.some Jvm.ClassFile.FieldType.int)) ∈ jT := jT_in (n := 469) rfl rfl
set_option maxRecDepth 100000 in
theorem t_470 : (Jvm.Cond.methodLink "InputRoomModel" (64 : Nat) ({ cls := "InputRoomModel", name := "come", desc := "(II)V" } : Jvm.MethodName)) ∈ jT := jT_in (n := 470) rfl rfl
set_option maxRecDepth 100000 in
theorem t_472 : (Jvm.Cond.instanceMethod ({ cls := "InputRoomModel", name := "come", desc := "(II)V" } : Jvm.MethodName)) ∈ jT := jT_in (n := 472) rfl rfl
set_option maxRecDepth 100000 in
theorem t_473 : (Jvm.Cond.code ({ cls := "InputRoomModel", name := "come", desc := "(II)V" } : Jvm.MethodName) prog_7_method_4_code (3 : Nat) (Option.none : Option Jvm.ClassFile.FieldType)) ∈ jT := jT_in (n := 473) rfl rfl
set_option maxRecDepth 100000 in
theorem t_474 : (Jvm.Cond.methodLink "InputRoomModel" (68 : Nat) ({ cls := "InputRoomModel", name := "want", desc := "(I)V" } : Jvm.MethodName)) ∈ jT := jT_in (n := 474) rfl rfl
set_option maxRecDepth 100000 in
theorem t_476 : (Jvm.Cond.instanceMethod ({ cls := "InputRoomModel", name := "want", desc := "(I)V" } : Jvm.MethodName)) ∈ jT := jT_in (n := 476) rfl rfl
set_option maxRecDepth 100000 in
theorem t_477 : (Jvm.Cond.code ({ cls := "InputRoomModel", name := "want", desc := "(I)V" } : Jvm.MethodName) prog_7_method_7_code (2 : Nat) (Option.none : Option Jvm.ClassFile.FieldType)) ∈ jT := jT_in (n := 477) rfl rfl
set_option maxRecDepth 100000 in
theorem t_478 : (Jvm.Cond.methodLink "InputRoomModel" (115 : Nat) ({ cls := "InputRoomModel", name := "act", desc := "(I)V" } : Jvm.MethodName)) ∈ jT := jT_in (n := 478) rfl rfl
set_option maxRecDepth 100000 in
theorem t_480 : (Jvm.Cond.instanceMethod ({ cls := "InputRoomModel", name := "act", desc := "(I)V" } : Jvm.MethodName)) ∈ jT := jT_in (n := 480) rfl rfl
set_option maxRecDepth 100000 in
theorem t_481 : (Jvm.Cond.code ({ cls := "InputRoomModel", name := "act", desc := "(I)V" } : Jvm.MethodName) prog_7_method_14_code (2 : Nat) (Option.none : Option Jvm.ClassFile.FieldType)) ∈ jT := jT_in (n := 481) rfl rfl
set_option maxRecDepth 100000 in
theorem t_482 : (Jvm.Cond.methodLink "InputRoomModel" (85 : Nat) ({ cls := "InputRoomModel", name := "await0", desc := "(I)V" } : Jvm.MethodName)) ∈ jT := jT_in (n := 482) rfl rfl
set_option maxRecDepth 100000 in
theorem t_484 : (Jvm.Cond.instanceMethod ({ cls := "InputRoomModel", name := "await0", desc := "(I)V" } : Jvm.MethodName)) ∈ jT := jT_in (n := 484) rfl rfl
set_option maxRecDepth 100000 in
theorem t_485 : (Jvm.Cond.code ({ cls := "InputRoomModel", name := "await0", desc := "(I)V" } : Jvm.MethodName) prog_7_method_11_code (3 : Nat) (Option.none : Option Jvm.ClassFile.FieldType)) ∈ jT := jT_in (n := 485) rfl rfl
set_option maxRecDepth 100000 in
theorem t_486 : (Jvm.Cond.methodLink "InputRoomModel" (79 : Nat) ({ cls := "InputRoomModel", name := "putAside", desc := "()V" } : Jvm.MethodName)) ∈ jT := jT_in (n := 486) rfl rfl
set_option maxRecDepth 100000 in
theorem t_488 : (Jvm.Cond.instanceMethod ({ cls := "InputRoomModel", name := "putAside", desc := "()V" } : Jvm.MethodName)) ∈ jT := jT_in (n := 488) rfl rfl
set_option maxRecDepth 100000 in
theorem t_489 : (Jvm.Cond.code ({ cls := "InputRoomModel", name := "putAside", desc := "()V" } : Jvm.MethodName) prog_7_method_9_code (3 : Nat) (Option.none : Option Jvm.ClassFile.FieldType)) ∈ jT := jT_in (n := 489) rfl rfl
set_option maxRecDepth 100000 in
theorem t_490 : (Jvm.Cond.methodLink "InputRoomModel" (91 : Nat) ({ cls := "InputRoomModel", name := "giveWay", desc := "()V" } : Jvm.MethodName)) ∈ jT := jT_in (n := 490) rfl rfl
set_option maxRecDepth 100000 in
theorem t_492 : (Jvm.Cond.instanceMethod ({ cls := "InputRoomModel", name := "giveWay", desc := "()V" } : Jvm.MethodName)) ∈ jT := jT_in (n := 492) rfl rfl
set_option maxRecDepth 100000 in
theorem t_493 : (Jvm.Cond.code ({ cls := "InputRoomModel", name := "giveWay", desc := "()V" } : Jvm.MethodName) prog_7_method_12_code (2 : Nat) (Option.none : Option Jvm.ClassFile.FieldType)) ∈ jT := jT_in (n := 493) rfl rfl
set_option maxRecDepth 100000 in
theorem t_494 : (Jvm.Cond.methodLink "InputRoomModel" (94 : Nat) ({ cls := "InputRoomModel", name := "dropWord", desc := "()V" } : Jvm.MethodName)) ∈ jT := jT_in (n := 494) rfl rfl
set_option maxRecDepth 100000 in
theorem t_496 : (Jvm.Cond.instanceMethod ({ cls := "InputRoomModel", name := "dropWord", desc := "()V" } : Jvm.MethodName)) ∈ jT := jT_in (n := 496) rfl rfl
set_option maxRecDepth 100000 in
theorem t_497 : (Jvm.Cond.code ({ cls := "InputRoomModel", name := "dropWord", desc := "()V" } : Jvm.MethodName) prog_7_method_13_code (2 : Nat) (Option.none : Option Jvm.ClassFile.FieldType)) ∈ jT := jT_in (n := 497) rfl rfl
set_option maxRecDepth 100000 in
theorem t_498 : (Jvm.Cond.constantLong "InputRoomModel" (121 : Nat) (64 : Int64)) ∈ jT := jT_in (n := 498) rfl rfl
set_option maxRecDepth 100000 in
theorem t_499 : (Jvm.Cond.methodLink "InputRoomLaw" (17 : Nat) ({ cls := "InputRoomModel", name := "make", desc := "(II)Z" } : Jvm.MethodName)) ∈ jT := jT_in (n := 499) rfl rfl
set_option maxRecDepth 100000 in
theorem t_500 : (Jvm.Cond.instanceMethod ({ cls := "InputRoomModel", name := "make", desc := "(II)Z" } : Jvm.MethodName)) ∈ jT := jT_in (n := 500) rfl rfl
set_option maxRecDepth 100000 in
theorem t_501 : (Jvm.Cond.selects "InputRoomModel" ({ cls := "InputRoomModel", name := "make", desc := "(II)Z" } : Jvm.MethodName) ({ cls := "InputRoomModel", name := "make", desc := "(II)Z" } : Jvm.MethodName)) ∈ jT := jT_in (n := 501) rfl rfl
set_option maxRecDepth 100000 in
theorem t_502 : (Jvm.Cond.code ({ cls := "InputRoomModel", name := "make", desc := "(II)Z" } : Jvm.MethodName) prog_7_method_18_code (3 : Nat) (Option.some Jvm.ClassFile.FieldType.boolean)) ∈ jT := jT_in (n := 502) rfl rfl
set_option maxRecDepth 100000 in
theorem t_503 : (Jvm.Cond.methodLink "InputRoomLaw" (22 : Nat) ({ cls := "InputRoomModel", name := "plan", desc := "(III)I" } : Jvm.MethodName)) ∈ jT := jT_in (n := 503) rfl rfl
set_option maxRecDepth 100000 in
theorem t_504 : (Jvm.Cond.instanceMethod ({ cls := "InputRoomModel", name := "plan", desc := "(III)I" } : Jvm.MethodName)) ∈ jT := jT_in (n := 504) rfl rfl
set_option maxRecDepth 100000 in
theorem t_505 : (Jvm.Cond.selects "InputRoomModel" ({ cls := "InputRoomModel", name := "plan", desc := "(III)I" } : Jvm.MethodName) ({ cls := "InputRoomModel", name := "plan", desc := "(III)I" } : Jvm.MethodName)) ∈ jT := jT_in (n := 505) rfl rfl
set_option maxRecDepth 100000 in
theorem t_506 : (Jvm.Cond.code ({ cls := "InputRoomModel", name := "plan", desc := "(III)I" } : Jvm.MethodName) prog_7_method_19_code (5 : Nat) (Option.some Jvm.ClassFile.FieldType.int)) ∈ jT := jT_in (n := 506) rfl rfl
set_option maxRecDepth 100000 in
theorem t_507 : (Jvm.Cond.methodLink "InputRoomModel" (123 : Nat) ({ cls := "InputRoomModel", name := "isMade", desc := "(I)Z" } : Jvm.MethodName)) ∈ jT := jT_in (n := 507) rfl rfl
set_option maxRecDepth 100000 in
theorem t_509 : (Jvm.Cond.instanceMethod ({ cls := "InputRoomModel", name := "isMade", desc := "(I)Z" } : Jvm.MethodName)) ∈ jT := jT_in (n := 509) rfl rfl
set_option maxRecDepth 100000 in
theorem t_510 : (Jvm.Cond.code ({ cls := "InputRoomModel", name := "isMade", desc := "(I)Z" } : Jvm.MethodName) prog_7_method_2_code (2 : Nat) (Option.some Jvm.ClassFile.FieldType.boolean)) ∈ jT := jT_in (n := 510) rfl rfl
set_option maxRecDepth 100000 in
theorem t_511 : (Jvm.Cond.methodLink "InputRoomLaw" (27 : Nat) ({ cls := "InputRoomModel", name := "wake", desc := "(I)Z" } : Jvm.MethodName)) ∈ jT := jT_in (n := 511) rfl rfl
set_option maxRecDepth 100000 in
theorem t_512 : (Jvm.Cond.instanceMethod ({ cls := "InputRoomModel", name := "wake", desc := "(I)Z" } : Jvm.MethodName)) ∈ jT := jT_in (n := 512) rfl rfl
set_option maxRecDepth 100000 in
theorem t_513 : (Jvm.Cond.selects "InputRoomModel" ({ cls := "InputRoomModel", name := "wake", desc := "(I)Z" } : Jvm.MethodName) ({ cls := "InputRoomModel", name := "wake", desc := "(I)Z" } : Jvm.MethodName)) ∈ jT := jT_in (n := 513) rfl rfl
set_option maxRecDepth 100000 in
theorem t_514 : (Jvm.Cond.code ({ cls := "InputRoomModel", name := "wake", desc := "(I)Z" } : Jvm.MethodName) prog_7_method_20_code (2 : Nat) (Option.some Jvm.ClassFile.FieldType.boolean)) ∈ jT := jT_in (n := 514) rfl rfl
set_option maxRecDepth 100000 in
theorem t_515 : (Jvm.Cond.methodLink "InputRoomLaw" (32 : Nat) ({ cls := "InputRoomModel", name := "suspend", desc := "()I" } : Jvm.MethodName)) ∈ jT := jT_in (n := 515) rfl rfl
set_option maxRecDepth 100000 in
theorem t_516 : (Jvm.Cond.instanceMethod ({ cls := "InputRoomModel", name := "suspend", desc := "()I" } : Jvm.MethodName)) ∈ jT := jT_in (n := 516) rfl rfl
set_option maxRecDepth 100000 in
theorem t_517 : (Jvm.Cond.selects "InputRoomModel" ({ cls := "InputRoomModel", name := "suspend", desc := "()I" } : Jvm.MethodName) ({ cls := "InputRoomModel", name := "suspend", desc := "()I" } : Jvm.MethodName)) ∈ jT := jT_in (n := 517) rfl rfl
set_option maxRecDepth 100000 in
theorem t_518 : (Jvm.Cond.code ({ cls := "InputRoomModel", name := "suspend", desc := "()I" } : Jvm.MethodName) prog_7_method_21_code (2 : Nat) (Option.some Jvm.ClassFile.FieldType.int)) ∈ jT := jT_in (n := 518) rfl rfl
set_option maxRecDepth 100000 in
theorem t_519 : (Jvm.Cond.methodLink "InputRoomLaw" (36 : Nat) ({ cls := "InputRoomModel", name := "signal", desc := "(I)Z" } : Jvm.MethodName)) ∈ jT := jT_in (n := 519) rfl rfl
set_option maxRecDepth 100000 in
theorem t_520 : (Jvm.Cond.instanceMethod ({ cls := "InputRoomModel", name := "signal", desc := "(I)Z" } : Jvm.MethodName)) ∈ jT := jT_in (n := 520) rfl rfl
set_option maxRecDepth 100000 in
theorem t_521 : (Jvm.Cond.selects "InputRoomModel" ({ cls := "InputRoomModel", name := "signal", desc := "(I)Z" } : Jvm.MethodName) ({ cls := "InputRoomModel", name := "signal", desc := "(I)Z" } : Jvm.MethodName)) ∈ jT := jT_in (n := 521) rfl rfl
set_option maxRecDepth 100000 in
theorem t_522 : (Jvm.Cond.code ({ cls := "InputRoomModel", name := "signal", desc := "(I)Z" } : Jvm.MethodName) prog_7_method_22_code (2 : Nat) (Option.some Jvm.ClassFile.FieldType.boolean)) ∈ jT := jT_in (n := 522) rfl rfl
set_option maxRecDepth 100000 in
theorem t_523 : (Jvm.Cond.methodLink "InputRoomModel" (127 : Nat) ({ cls := "InputRoomModel", name := "isSemaphore", desc := "(I)Z" } : Jvm.MethodName)) ∈ jT := jT_in (n := 523) rfl rfl
set_option maxRecDepth 100000 in
theorem t_524 : (Jvm.Cond.static ({ cls := "InputRoomModel", name := "isSemaphore", desc := "(I)Z" } : Jvm.MethodName)) ∈ jT := jT_in (n := 524) rfl rfl
set_option maxRecDepth 100000 in
theorem t_525 : (Jvm.Cond.code ({ cls := "InputRoomModel", name := "isSemaphore", desc := "(I)Z" } : Jvm.MethodName) prog_7_method_3_code (1 : Nat) (Option.some Jvm.ClassFile.FieldType.boolean)) ∈ jT := jT_in (n := 525) rfl rfl
set_option maxRecDepth 100000 in
theorem t_526 : (Jvm.Cond.methodLink "InputRoomLaw" (40 : Nat) ({ cls := "InputRoomModel", name := "listen", desc := "(I)Z" } : Jvm.MethodName)) ∈ jT := jT_in (n := 526) rfl rfl
set_option maxRecDepth 100000 in
theorem t_527 : (Jvm.Cond.instanceMethod ({ cls := "InputRoomModel", name := "listen", desc := "(I)Z" } : Jvm.MethodName)) ∈ jT := jT_in (n := 527) rfl rfl
set_option maxRecDepth 100000 in
theorem t_528 : (Jvm.Cond.selects "InputRoomModel" ({ cls := "InputRoomModel", name := "listen", desc := "(I)Z" } : Jvm.MethodName) ({ cls := "InputRoomModel", name := "listen", desc := "(I)Z" } : Jvm.MethodName)) ∈ jT := jT_in (n := 528) rfl rfl
set_option maxRecDepth 100000 in
theorem t_529 : (Jvm.Cond.code ({ cls := "InputRoomModel", name := "listen", desc := "(I)Z" } : Jvm.MethodName) prog_7_method_23_code (2 : Nat) (Option.some Jvm.ClassFile.FieldType.boolean)) ∈ jT := jT_in (n := 529) rfl rfl
set_option maxRecDepth 100000 in
theorem t_530 : (Jvm.Cond.methodLink "InputRoomLaw" (44 : Nat) ({ cls := "InputRoomModel", name := "alarm", desc := "(II)Z" } : Jvm.MethodName)) ∈ jT := jT_in (n := 530) rfl rfl
set_option maxRecDepth 100000 in
theorem t_531 : (Jvm.Cond.instanceMethod ({ cls := "InputRoomModel", name := "alarm", desc := "(II)Z" } : Jvm.MethodName)) ∈ jT := jT_in (n := 531) rfl rfl
set_option maxRecDepth 100000 in
theorem t_532 : (Jvm.Cond.selects "InputRoomModel" ({ cls := "InputRoomModel", name := "alarm", desc := "(II)Z" } : Jvm.MethodName) ({ cls := "InputRoomModel", name := "alarm", desc := "(II)Z" } : Jvm.MethodName)) ∈ jT := jT_in (n := 532) rfl rfl
set_option maxRecDepth 100000 in
theorem t_533 : (Jvm.Cond.code ({ cls := "InputRoomModel", name := "alarm", desc := "(II)Z" } : Jvm.MethodName) prog_7_method_24_code (3 : Nat) (Option.some Jvm.ClassFile.FieldType.boolean)) ∈ jT := jT_in (n := 533) rfl rfl
set_option maxRecDepth 100000 in
theorem t_534 : (Jvm.Cond.constant "InputRoomModel" (130 : Nat) (1000000 : Int32)) ∈ jT := jT_in (n := 534) rfl rfl
set_option maxRecDepth 100000 in
theorem t_535 : (Jvm.Cond.methodLink "InputRoomLaw" (49 : Nat) ({ cls := "InputRoomModel", name := "word", desc := "(I)I" } : Jvm.MethodName)) ∈ jT := jT_in (n := 535) rfl rfl
set_option maxRecDepth 100000 in
theorem t_536 : (Jvm.Cond.instanceMethod ({ cls := "InputRoomModel", name := "word", desc := "(I)I" } : Jvm.MethodName)) ∈ jT := jT_in (n := 536) rfl rfl
set_option maxRecDepth 100000 in
theorem t_537 : (Jvm.Cond.selects "InputRoomModel" ({ cls := "InputRoomModel", name := "word", desc := "(I)I" } : Jvm.MethodName) ({ cls := "InputRoomModel", name := "word", desc := "(I)I" } : Jvm.MethodName)) ∈ jT := jT_in (n := 537) rfl rfl
set_option maxRecDepth 100000 in
theorem t_538 : (Jvm.Cond.code ({ cls := "InputRoomModel", name := "word", desc := "(I)I" } : Jvm.MethodName) prog_7_method_25_code (2 : Nat) (Option.some Jvm.ClassFile.FieldType.int)) ∈ jT := jT_in (n := 538) rfl rfl
set_option maxRecDepth 100000 in
theorem t_539 : (Jvm.Cond.constant "InputRoomModel" (131 : Nat) (65535 : Int32)) ∈ jT := jT_in (n := 539) rfl rfl
set_option maxRecDepth 100000 in
theorem t_540 : (Jvm.Cond.methodLink "InputRoomLaw" (57 : Nat) ({ cls := "InputRoomModel", name := "active", desc := "()I" } : Jvm.MethodName)) ∈ jT := jT_in (n := 540) rfl rfl
set_option maxRecDepth 100000 in
theorem t_541 : (Jvm.Cond.instanceMethod ({ cls := "InputRoomModel", name := "active", desc := "()I" } : Jvm.MethodName)) ∈ jT := jT_in (n := 541) rfl rfl
set_option maxRecDepth 100000 in
theorem t_542 : (Jvm.Cond.selects "InputRoomModel" ({ cls := "InputRoomModel", name := "active", desc := "()I" } : Jvm.MethodName) ({ cls := "InputRoomModel", name := "active", desc := "()I" } : Jvm.MethodName)) ∈ jT := jT_in (n := 542) rfl rfl
set_option maxRecDepth 100000 in
theorem t_543 : (Jvm.Cond.code ({ cls := "InputRoomModel", name := "active", desc := "()I" } : Jvm.MethodName) prog_7_method_26_code (1 : Nat) (Option.some Jvm.ClassFile.FieldType.int)) ∈ jT := jT_in (n := 543) rfl rfl
set_option maxRecDepth 100000 in
theorem t_544 : (Jvm.Cond.methodLink "InputRoomLaw" (61 : Nat) ({ cls := "InputRoomModel", name := "present", desc := "()I" } : Jvm.MethodName)) ∈ jT := jT_in (n := 544) rfl rfl
set_option maxRecDepth 100000 in
theorem t_545 : (Jvm.Cond.instanceMethod ({ cls := "InputRoomModel", name := "present", desc := "()I" } : Jvm.MethodName)) ∈ jT := jT_in (n := 545) rfl rfl
set_option maxRecDepth 100000 in
theorem t_546 : (Jvm.Cond.selects "InputRoomModel" ({ cls := "InputRoomModel", name := "present", desc := "()I" } : Jvm.MethodName) ({ cls := "InputRoomModel", name := "present", desc := "()I" } : Jvm.MethodName)) ∈ jT := jT_in (n := 546) rfl rfl
set_option maxRecDepth 100000 in
theorem t_547 : (Jvm.Cond.code ({ cls := "InputRoomModel", name := "present", desc := "()I" } : Jvm.MethodName) prog_7_method_27_code (1 : Nat) (Option.some Jvm.ClassFile.FieldType.int)) ∈ jT := jT_in (n := 547) rfl rfl
set_option maxRecDepth 100000 in
theorem t_548 : (Jvm.Cond.methodLink "InputRoomLaw" (65 : Nat) ({ cls := "InputRoomModel", name := "clock", desc := "()I" } : Jvm.MethodName)) ∈ jT := jT_in (n := 548) rfl rfl
set_option maxRecDepth 100000 in
theorem t_549 : (Jvm.Cond.instanceMethod ({ cls := "InputRoomModel", name := "clock", desc := "()I" } : Jvm.MethodName)) ∈ jT := jT_in (n := 549) rfl rfl
set_option maxRecDepth 100000 in
theorem t_550 : (Jvm.Cond.selects "InputRoomModel" ({ cls := "InputRoomModel", name := "clock", desc := "()I" } : Jvm.MethodName) ({ cls := "InputRoomModel", name := "clock", desc := "()I" } : Jvm.MethodName)) ∈ jT := jT_in (n := 550) rfl rfl
set_option maxRecDepth 100000 in
theorem t_551 : (Jvm.Cond.code ({ cls := "InputRoomModel", name := "clock", desc := "()I" } : Jvm.MethodName) prog_7_method_28_code (1 : Nat) (Option.some Jvm.ClassFile.FieldType.int)) ∈ jT := jT_in (n := 551) rfl rfl
set_option maxRecDepth 100000 in
theorem t_552 : (Jvm.Cond.methodLink "InputRoomLaw" (70 : Nat) ({ cls := "InputRoomModel", name := "codes", desc := "()J" } : Jvm.MethodName)) ∈ jT := jT_in (n := 552) rfl rfl
set_option maxRecDepth 100000 in
theorem t_553 : (Jvm.Cond.instanceMethod ({ cls := "InputRoomModel", name := "codes", desc := "()J" } : Jvm.MethodName)) ∈ jT := jT_in (n := 553) rfl rfl
set_option maxRecDepth 100000 in
theorem t_554 : (Jvm.Cond.selects "InputRoomModel" ({ cls := "InputRoomModel", name := "codes", desc := "()J" } : Jvm.MethodName) ({ cls := "InputRoomModel", name := "codes", desc := "()J" } : Jvm.MethodName)) ∈ jT := jT_in (n := 554) rfl rfl
set_option maxRecDepth 100000 in
theorem t_555 : (Jvm.Cond.code ({ cls := "InputRoomModel", name := "codes", desc := "()J" } : Jvm.MethodName) prog_7_method_29_code (1 : Nat) (Option.some Jvm.ClassFile.FieldType.long)) ∈ jT := jT_in (n := 555) rfl rfl
set_option maxRecDepth 100000 in
theorem t_556 : (Jvm.Cond.methodLink "InputRoomLaw" (74 : Nat) ({ cls := "InputRoomModel", name := "done", desc := "(I)I" } : Jvm.MethodName)) ∈ jT := jT_in (n := 556) rfl rfl
set_option maxRecDepth 100000 in
theorem t_557 : (Jvm.Cond.instanceMethod ({ cls := "InputRoomModel", name := "done", desc := "(I)I" } : Jvm.MethodName)) ∈ jT := jT_in (n := 557) rfl rfl
set_option maxRecDepth 100000 in
theorem t_558 : (Jvm.Cond.selects "InputRoomModel" ({ cls := "InputRoomModel", name := "done", desc := "(I)I" } : Jvm.MethodName) ({ cls := "InputRoomModel", name := "done", desc := "(I)I" } : Jvm.MethodName)) ∈ jT := jT_in (n := 558) rfl rfl
set_option maxRecDepth 100000 in
theorem t_559 : (Jvm.Cond.code ({ cls := "InputRoomModel", name := "done", desc := "(I)I" } : Jvm.MethodName) prog_7_method_30_code (2 : Nat) (Option.some Jvm.ClassFile.FieldType.int)) ∈ jT := jT_in (n := 559) rfl rfl
set_option maxRecDepth 100000 in
theorem t_560 : (Jvm.Cond.methodLink "InputRoomLaw" (78 : Nat) ({ cls := "InputRoomModel", name := "row", desc := "(I)I" } : Jvm.MethodName)) ∈ jT := jT_in (n := 560) rfl rfl
set_option maxRecDepth 100000 in
theorem t_561 : (Jvm.Cond.instanceMethod ({ cls := "InputRoomModel", name := "row", desc := "(I)I" } : Jvm.MethodName)) ∈ jT := jT_in (n := 561) rfl rfl
set_option maxRecDepth 100000 in
theorem t_562 : (Jvm.Cond.selects "InputRoomModel" ({ cls := "InputRoomModel", name := "row", desc := "(I)I" } : Jvm.MethodName) ({ cls := "InputRoomModel", name := "row", desc := "(I)I" } : Jvm.MethodName)) ∈ jT := jT_in (n := 562) rfl rfl
set_option maxRecDepth 100000 in
theorem t_563 : (Jvm.Cond.code ({ cls := "InputRoomModel", name := "row", desc := "(I)I" } : Jvm.MethodName) prog_7_method_31_code (2 : Nat) (Option.some Jvm.ClassFile.FieldType.int)) ∈ jT := jT_in (n := 563) rfl rfl
set_option maxRecDepth 100000 in
theorem t_564 : (Jvm.Cond.methodLink "InputRoomLaw" (83 : Nat) ({ cls := "InputRoomModel", name := "at", desc := "(II)I" } : Jvm.MethodName)) ∈ jT := jT_in (n := 564) rfl rfl
set_option maxRecDepth 100000 in
theorem t_565 : (Jvm.Cond.instanceMethod ({ cls := "InputRoomModel", name := "at", desc := "(II)I" } : Jvm.MethodName)) ∈ jT := jT_in (n := 565) rfl rfl
set_option maxRecDepth 100000 in
theorem t_566 : (Jvm.Cond.selects "InputRoomModel" ({ cls := "InputRoomModel", name := "at", desc := "(II)I" } : Jvm.MethodName) ({ cls := "InputRoomModel", name := "at", desc := "(II)I" } : Jvm.MethodName)) ∈ jT := jT_in (n := 566) rfl rfl
set_option maxRecDepth 100000 in
theorem t_567 : (Jvm.Cond.code ({ cls := "InputRoomModel", name := "at", desc := "(II)I" } : Jvm.MethodName) prog_7_method_32_code (7 : Nat) (Option.some Jvm.ClassFile.FieldType.int)) ∈ jT := jT_in (n := 567) rfl rfl
set_option maxRecDepth 100000 in
theorem t_568 : (Jvm.Cond.methodLink "InputRoomLaw" (87 : Nat) ({ cls := "InputRoomModel", name := "extra", desc := "(I)I" } : Jvm.MethodName)) ∈ jT := jT_in (n := 568) rfl rfl
set_option maxRecDepth 100000 in
theorem t_569 : (Jvm.Cond.instanceMethod ({ cls := "InputRoomModel", name := "extra", desc := "(I)I" } : Jvm.MethodName)) ∈ jT := jT_in (n := 569) rfl rfl
set_option maxRecDepth 100000 in
theorem t_570 : (Jvm.Cond.selects "InputRoomModel" ({ cls := "InputRoomModel", name := "extra", desc := "(I)I" } : Jvm.MethodName) ({ cls := "InputRoomModel", name := "extra", desc := "(I)I" } : Jvm.MethodName)) ∈ jT := jT_in (n := 570) rfl rfl
set_option maxRecDepth 100000 in
theorem t_571 : (Jvm.Cond.code ({ cls := "InputRoomModel", name := "extra", desc := "(I)I" } : Jvm.MethodName) prog_7_method_33_code (2 : Nat) (Option.some Jvm.ClassFile.FieldType.int)) ∈ jT := jT_in (n := 571) rfl rfl
set_option maxRecDepth 100000 in
theorem t_572 : (Jvm.Cond.methodLink "InputRoomLaw" (91 : Nat) ({ cls := "InputRoomModel", name := "wordAt", desc := "(I)I" } : Jvm.MethodName)) ∈ jT := jT_in (n := 572) rfl rfl
set_option maxRecDepth 100000 in
theorem t_573 : (Jvm.Cond.instanceMethod ({ cls := "InputRoomModel", name := "wordAt", desc := "(I)I" } : Jvm.MethodName)) ∈ jT := jT_in (n := 573) rfl rfl
set_option maxRecDepth 100000 in
theorem t_574 : (Jvm.Cond.selects "InputRoomModel" ({ cls := "InputRoomModel", name := "wordAt", desc := "(I)I" } : Jvm.MethodName) ({ cls := "InputRoomModel", name := "wordAt", desc := "(I)I" } : Jvm.MethodName)) ∈ jT := jT_in (n := 574) rfl rfl
set_option maxRecDepth 100000 in
theorem t_575 : (Jvm.Cond.code ({ cls := "InputRoomModel", name := "wordAt", desc := "(I)I" } : Jvm.MethodName) prog_7_method_34_code (2 : Nat) (Option.some Jvm.ClassFile.FieldType.int)) ∈ jT := jT_in (n := 575) rfl rfl
set_option maxRecDepth 100000 in
theorem t_576 : (Jvm.Cond.methodLink "InputRoomLaw" (95 : Nat) ({ cls := "InputRoomModel", name := "input", desc := "()I" } : Jvm.MethodName)) ∈ jT := jT_in (n := 576) rfl rfl
set_option maxRecDepth 100000 in
theorem t_577 : (Jvm.Cond.instanceMethod ({ cls := "InputRoomModel", name := "input", desc := "()I" } : Jvm.MethodName)) ∈ jT := jT_in (n := 577) rfl rfl
set_option maxRecDepth 100000 in
theorem t_578 : (Jvm.Cond.selects "InputRoomModel" ({ cls := "InputRoomModel", name := "input", desc := "()I" } : Jvm.MethodName) ({ cls := "InputRoomModel", name := "input", desc := "()I" } : Jvm.MethodName)) ∈ jT := jT_in (n := 578) rfl rfl
set_option maxRecDepth 100000 in
theorem t_579 : (Jvm.Cond.code ({ cls := "InputRoomModel", name := "input", desc := "()I" } : Jvm.MethodName) prog_7_method_35_code (1 : Nat) (Option.some Jvm.ClassFile.FieldType.int)) ∈ jT := jT_in (n := 579) rfl rfl
set_option maxRecDepth 100000 in
theorem t_580 : (Jvm.Cond.methodLink "InputRoomLaw" (99 : Nat) ({ cls := "InputRoomModel", name := "tick", desc := "()I" } : Jvm.MethodName)) ∈ jT := jT_in (n := 580) rfl rfl
set_option maxRecDepth 100000 in
theorem t_581 : (Jvm.Cond.instanceMethod ({ cls := "InputRoomModel", name := "tick", desc := "()I" } : Jvm.MethodName)) ∈ jT := jT_in (n := 581) rfl rfl
set_option maxRecDepth 100000 in
theorem t_582 : (Jvm.Cond.selects "InputRoomModel" ({ cls := "InputRoomModel", name := "tick", desc := "()I" } : Jvm.MethodName) ({ cls := "InputRoomModel", name := "tick", desc := "()I" } : Jvm.MethodName)) ∈ jT := jT_in (n := 582) rfl rfl
set_option maxRecDepth 100000 in
theorem t_583 : (Jvm.Cond.code ({ cls := "InputRoomModel", name := "tick", desc := "()I" } : Jvm.MethodName) prog_7_method_36_code (1 : Nat) (Option.some Jvm.ClassFile.FieldType.int)) ∈ jT := jT_in (n := 583) rfl rfl
theorem t_47 : (Jvm.Cond.arrayOver (Jvm.ClassFile.FieldType.object "InputRoom$Proc")) ∈ lw_tbl := List.mem_of_getElem? (i := 47) rfl
theorem t_49 : (Jvm.Cond.arrayOver (Jvm.ClassFile.FieldType.object "InputRoom$Row")) ∈ lw_tbl := List.mem_of_getElem? (i := 49) rfl
theorem t_51 : (Jvm.Cond.arrayOver (Jvm.ClassFile.FieldType.object "InputRoom$Semaphore")) ∈ lw_tbl := List.mem_of_getElem? (i := 51) rfl
theorem t_54 : (Jvm.Cond.methodLinkNest "InputRoom" (29 : Nat) ({ cls := "InputRoom$Words", name := "<init>", desc := "()V" } : Jvm.MethodName) "InputRoom") ∈ lw_tbl := List.mem_of_getElem? (i := 54) rfl
theorem in_P : ∀ w ∈ u_ws "InputRoom$Proc" T_P 7, w ∈ jT := by
  intro w hw
  obtain ⟨k, hk, rfl⟩ := List.mem_map.mp hw
  have hk := List.mem_range.mp hk
  match k, hk with
  | 0, _ => exact t_166
  | 1, _ => exact t_168
  | 2, _ => exact t_170
  | 3, _ => exact t_172
  | 4, _ => exact t_174
  | 5, _ => exact t_176
  | 6, _ => exact t_178
  | k + 7, h => exact absurd h (by omega)
theorem in_R : ∀ w ∈ u_ws "InputRoom$Row" T_R 3, w ∈ jT := by
  intro w hw
  obtain ⟨k, hk, rfl⟩ := List.mem_map.mp hw
  have hk := List.mem_range.mp hk
  match k, hk with
  | 0, _ => exact t_80
  | 1, _ => exact t_82
  | 2, _ => exact t_84
  | k + 3, h => exact absurd h (by omega)
theorem in_S : ∀ w ∈ u_ws "InputRoom$Semaphore" T_S 3, w ∈ jT := by
  intro w hw
  obtain ⟨k, hk, rfl⟩ := List.mem_map.mp hw
  have hk := List.mem_range.mp hk
  match k, hk with
  | 0, _ => exact t_99
  | 1, _ => exact t_101
  | 2, _ => exact t_103
  | k + 3, h => exact absurd h (by omega)
theorem in_W : ∀ w ∈ u_ws "InputRoom$Words" T_W 4, w ∈ jT := by
  intro w hw
  obtain ⟨k, hk, rfl⟩ := List.mem_map.mp hw
  have hk := List.mem_range.mp hk
  match k, hk with
  | 0, _ => exact t_62
  | 1, _ => exact t_64
  | 2, _ => exact t_66
  | 3, _ => exact t_68
  | k + 4, h => exact absurd h (by omega)
theorem in_X : ∀ w ∈ u_ws "InputRoom" T_X 12, w ∈ jT := by
  intro w hw
  obtain ⟨k, hk, rfl⟩ := List.mem_map.mp hw
  have hk := List.mem_range.mp hk
  match k, hk with
  | 0, _ => exact t_118
  | 1, _ => exact t_120
  | 2, _ => exact t_122
  | 3, _ => exact t_124
  | 4, _ => exact t_126
  | 5, _ => exact t_128
  | 6, _ => exact t_130
  | 7, _ => exact t_132
  | 8, _ => exact t_134
  | 9, _ => exact t_136
  | 10, _ => exact t_138
  | 11, _ => exact t_140
  | k + 12, h => exact absurd h (by omega)
theorem in_M : ∀ w ∈ u_ws "InputRoomModel" T_M 21, w ∈ jT := by
  intro w hw
  obtain ⟨k, hk, rfl⟩ := List.mem_map.mp hw
  have hk := List.mem_range.mp hk
  match k, hk with
  | 0, _ => exact t_397
  | 1, _ => exact t_399
  | 2, _ => exact t_401
  | 3, _ => exact t_403
  | 4, _ => exact t_405
  | 5, _ => exact t_407
  | 6, _ => exact t_409
  | 7, _ => exact t_411
  | 8, _ => exact t_413
  | 9, _ => exact t_415
  | 10, _ => exact t_417
  | 11, _ => exact t_419
  | 12, _ => exact t_421
  | 13, _ => exact t_423
  | 14, _ => exact t_425
  | 15, _ => exact t_427
  | 16, _ => exact t_429
  | 17, _ => exact t_431
  | 18, _ => exact t_433
  | 19, _ => exact t_435
  | 20, _ => exact t_437
  | k + 21, h => exact absurd h (by omega)
def y_X_init : MethodName := ⟨"InputRoom", "<init>", "()V"⟩
abbrev c_X_init : ByteArray := prog_1_method_1_code
def y_X_make : MethodName := ⟨"InputRoom", "make", "(II)Z"⟩
abbrev c_X_make : ByteArray := prog_1_method_2_code
def y_X_plan : MethodName := ⟨"InputRoom", "plan", "(III)I"⟩
abbrev c_X_plan : ByteArray := prog_1_method_3_code
def y_X_wake : MethodName := ⟨"InputRoom", "wake", "(I)Z"⟩
abbrev c_X_wake : ByteArray := prog_1_method_4_code
def y_X_suspend : MethodName := ⟨"InputRoom", "suspend", "()I"⟩
abbrev c_X_suspend : ByteArray := prog_1_method_5_code
def y_X_signal : MethodName := ⟨"InputRoom", "signal", "(I)Z"⟩
abbrev c_X_signal : ByteArray := prog_1_method_6_code
def y_X_listen : MethodName := ⟨"InputRoom", "listen", "(I)Z"⟩
abbrev c_X_listen : ByteArray := prog_1_method_7_code
def y_X_alarm : MethodName := ⟨"InputRoom", "alarm", "(II)Z"⟩
abbrev c_X_alarm : ByteArray := prog_1_method_8_code
def y_X_word : MethodName := ⟨"InputRoom", "word", "(I)I"⟩
abbrev c_X_word : ByteArray := prog_1_method_9_code
def y_X_run : MethodName := ⟨"InputRoom", "run", "(I)I"⟩
abbrev c_X_run : ByteArray := prog_1_method_10_code
def y_X_active : MethodName := ⟨"InputRoom", "active", "()I"⟩
abbrev c_X_active : ByteArray := prog_1_method_11_code
def y_X_present : MethodName := ⟨"InputRoom", "present", "()I"⟩
abbrev c_X_present : ByteArray := prog_1_method_12_code
def y_X_clock : MethodName := ⟨"InputRoom", "clock", "()I"⟩
abbrev c_X_clock : ByteArray := prog_1_method_13_code
def y_X_codes : MethodName := ⟨"InputRoom", "codes", "()J"⟩
abbrev c_X_codes : ByteArray := prog_1_method_14_code
def y_X_done : MethodName := ⟨"InputRoom", "done", "(I)I"⟩
abbrev c_X_done : ByteArray := prog_1_method_15_code
def y_X_row : MethodName := ⟨"InputRoom", "row", "(I)I"⟩
abbrev c_X_row : ByteArray := prog_1_method_16_code
def y_X_at : MethodName := ⟨"InputRoom", "at", "(II)I"⟩
abbrev c_X_at : ByteArray := prog_1_method_17_code
def y_X_extra : MethodName := ⟨"InputRoom", "extra", "(I)I"⟩
abbrev c_X_extra : ByteArray := prog_1_method_18_code
def y_X_wordAt : MethodName := ⟨"InputRoom", "wordAt", "(I)I"⟩
abbrev c_X_wordAt : ByteArray := prog_1_method_19_code
def y_X_input : MethodName := ⟨"InputRoom", "input", "()I"⟩
abbrev c_X_input : ByteArray := prog_1_method_20_code
def y_X_tick : MethodName := ⟨"InputRoom", "tick", "()I"⟩
abbrev c_X_tick : ByteArray := prog_1_method_21_code
def y_X_isSemaphore : MethodName := ⟨"InputRoom", "isSemaphore", "(I)Z"⟩
abbrev c_X_isSemaphore : ByteArray := prog_1_method_22_code
def y_X_numberOf : MethodName := ⟨"InputRoom", "numberOf", "(LInputRoom$Proc;)I"⟩
abbrev c_X_numberOf : ByteArray := prog_1_method_23_code
def y_X_processNumbered : MethodName := ⟨"InputRoom", "processNumbered", "(I)LInputRoom$Proc;"⟩
abbrev c_X_processNumbered : ByteArray := prog_1_method_24_code
def y_X_presentOne : MethodName := ⟨"InputRoom", "presentOne", "()LInputRoom$Proc;"⟩
abbrev c_X_presentOne : ByteArray := prog_1_method_25_code
def y_X_wantChangeTo : MethodName := ⟨"InputRoom", "wantChangeTo", "(LInputRoom$Proc;)V"⟩
abbrev c_X_wantChangeTo : ByteArray := prog_1_method_26_code
def y_X_wakeUp : MethodName := ⟨"InputRoom", "wakeUp", "(LInputRoom$Proc;)V"⟩
abbrev c_X_wakeUp : ByteArray := prog_1_method_27_code
def y_X_putPresentAside : MethodName := ⟨"InputRoom", "putPresentAside", "()V"⟩
abbrev c_X_putPresentAside : ByteArray := prog_1_method_28_code
def y_X_signalOnce : MethodName := ⟨"InputRoom", "signalOnce", "(LInputRoom$Semaphore;)V"⟩
abbrev c_X_signalOnce : ByteArray := prog_1_method_29_code
def y_X_waitFor : MethodName := ⟨"InputRoom", "waitFor", "(LInputRoom$Semaphore;)V"⟩
abbrev c_X_waitFor : ByteArray := prog_1_method_30_code
def y_X_giveWay : MethodName := ⟨"InputRoom", "giveWay", "()V"⟩
abbrev c_X_giveWay : ByteArray := prog_1_method_31_code
def y_X_setAlarm : MethodName := ⟨"InputRoom", "setAlarm", "(LInputRoom$Semaphore;I)V"⟩
abbrev c_X_setAlarm : ByteArray := prog_1_method_32_code
def y_X_doCode : MethodName := ⟨"InputRoom", "doCode", "(LInputRoom$Proc;)V"⟩
abbrev c_X_doCode : ByteArray := prog_1_method_33_code
def y_X_doAct : MethodName := ⟨"InputRoom", "doAct", "(I)V"⟩
abbrev c_X_doAct : ByteArray := prog_1_method_34_code
def y_X_doBehind : MethodName := ⟨"InputRoom", "doBehind", "()V"⟩
abbrev c_X_doBehind : ByteArray := prog_1_method_35_code
def y_X_settle : MethodName := ⟨"InputRoom", "settle", "()V"⟩
abbrev c_X_settle : ByteArray := prog_1_method_36_code
def y_X_signalNewWords : MethodName := ⟨"InputRoom", "signalNewWords", "()V"⟩
abbrev c_X_signalNewWords : ByteArray := prog_1_method_37_code
def y_X_signalDueAlarm : MethodName := ⟨"InputRoom", "signalDueAlarm", "()V"⟩
abbrev c_X_signalDueAlarm : ByteArray := prog_1_method_38_code
def y_M_init : MethodName := ⟨"InputRoomModel", "<init>", "()V"⟩
abbrev c_M_init : ByteArray := prog_7_method_1_code
def y_M_isMade : MethodName := ⟨"InputRoomModel", "isMade", "(I)Z"⟩
abbrev c_M_isMade : ByteArray := prog_7_method_2_code
def y_M_isSemaphore : MethodName := ⟨"InputRoomModel", "isSemaphore", "(I)Z"⟩
abbrev c_M_isSemaphore : ByteArray := prog_7_method_3_code
def y_M_come : MethodName := ⟨"InputRoomModel", "come", "(II)V"⟩
abbrev c_M_come : ByteArray := prog_7_method_4_code
def y_M_first : MethodName := ⟨"InputRoomModel", "first", "(I)I"⟩
abbrev c_M_first : ByteArray := prog_7_method_5_code
def y_M_present0 : MethodName := ⟨"InputRoomModel", "present0", "()I"⟩
abbrev c_M_present0 : ByteArray := prog_7_method_6_code
def y_M_want : MethodName := ⟨"InputRoomModel", "want", "(I)V"⟩
abbrev c_M_want : ByteArray := prog_7_method_7_code
def y_M_rouse : MethodName := ⟨"InputRoomModel", "rouse", "(I)V"⟩
abbrev c_M_rouse : ByteArray := prog_7_method_8_code
def y_M_putAside : MethodName := ⟨"InputRoomModel", "putAside", "()V"⟩
abbrev c_M_putAside : ByteArray := prog_7_method_9_code
def y_M_signal0 : MethodName := ⟨"InputRoomModel", "signal0", "(I)V"⟩
abbrev c_M_signal0 : ByteArray := prog_7_method_10_code
def y_M_await0 : MethodName := ⟨"InputRoomModel", "await0", "(I)V"⟩
abbrev c_M_await0 : ByteArray := prog_7_method_11_code
def y_M_giveWay : MethodName := ⟨"InputRoomModel", "giveWay", "()V"⟩
abbrev c_M_giveWay : ByteArray := prog_7_method_12_code
def y_M_dropWord : MethodName := ⟨"InputRoomModel", "dropWord", "()V"⟩
abbrev c_M_dropWord : ByteArray := prog_7_method_13_code
def y_M_act : MethodName := ⟨"InputRoomModel", "act", "(I)V"⟩
abbrev c_M_act : ByteArray := prog_7_method_14_code
def y_M_post : MethodName := ⟨"InputRoomModel", "post", "(I)V"⟩
abbrev c_M_post : ByteArray := prog_7_method_15_code
def y_M_behind : MethodName := ⟨"InputRoomModel", "behind", "()V"⟩
abbrev c_M_behind : ByteArray := prog_7_method_16_code
def y_M_run : MethodName := ⟨"InputRoomModel", "run", "(I)I"⟩
abbrev c_M_run : ByteArray := prog_7_method_17_code
def y_M_make : MethodName := ⟨"InputRoomModel", "make", "(II)Z"⟩
abbrev c_M_make : ByteArray := prog_7_method_18_code
def y_M_plan : MethodName := ⟨"InputRoomModel", "plan", "(III)I"⟩
abbrev c_M_plan : ByteArray := prog_7_method_19_code
def y_M_wake : MethodName := ⟨"InputRoomModel", "wake", "(I)Z"⟩
abbrev c_M_wake : ByteArray := prog_7_method_20_code
def y_M_suspend : MethodName := ⟨"InputRoomModel", "suspend", "()I"⟩
abbrev c_M_suspend : ByteArray := prog_7_method_21_code
def y_M_signal : MethodName := ⟨"InputRoomModel", "signal", "(I)Z"⟩
abbrev c_M_signal : ByteArray := prog_7_method_22_code
def y_M_listen : MethodName := ⟨"InputRoomModel", "listen", "(I)Z"⟩
abbrev c_M_listen : ByteArray := prog_7_method_23_code
def y_M_alarm : MethodName := ⟨"InputRoomModel", "alarm", "(II)Z"⟩
abbrev c_M_alarm : ByteArray := prog_7_method_24_code
def y_M_word : MethodName := ⟨"InputRoomModel", "word", "(I)I"⟩
abbrev c_M_word : ByteArray := prog_7_method_25_code
def y_M_active : MethodName := ⟨"InputRoomModel", "active", "()I"⟩
abbrev c_M_active : ByteArray := prog_7_method_26_code
def y_M_present : MethodName := ⟨"InputRoomModel", "present", "()I"⟩
abbrev c_M_present : ByteArray := prog_7_method_27_code
def y_M_clock : MethodName := ⟨"InputRoomModel", "clock", "()I"⟩
abbrev c_M_clock : ByteArray := prog_7_method_28_code
def y_M_codes : MethodName := ⟨"InputRoomModel", "codes", "()J"⟩
abbrev c_M_codes : ByteArray := prog_7_method_29_code
def y_M_done : MethodName := ⟨"InputRoomModel", "done", "(I)I"⟩
abbrev c_M_done : ByteArray := prog_7_method_30_code
def y_M_row : MethodName := ⟨"InputRoomModel", "row", "(I)I"⟩
abbrev c_M_row : ByteArray := prog_7_method_31_code
def y_M_at : MethodName := ⟨"InputRoomModel", "at", "(II)I"⟩
abbrev c_M_at : ByteArray := prog_7_method_32_code
def y_M_extra : MethodName := ⟨"InputRoomModel", "extra", "(I)I"⟩
abbrev c_M_extra : ByteArray := prog_7_method_33_code
def y_M_wordAt : MethodName := ⟨"InputRoomModel", "wordAt", "(I)I"⟩
abbrev c_M_wordAt : ByteArray := prog_7_method_34_code
def y_M_input : MethodName := ⟨"InputRoomModel", "input", "()I"⟩
abbrev c_M_input : ByteArray := prog_7_method_35_code
def y_M_tick : MethodName := ⟨"InputRoomModel", "tick", "()I"⟩
abbrev c_M_tick : ByteArray := prog_7_method_36_code
def y_P_init : MethodName := ⟨"InputRoom$Proc", "<init>", "(IILInputRoom$Row;)V"⟩
abbrev c_P_init : ByteArray := prog_2_method_1_code
def y_P_nextAct : MethodName := ⟨"InputRoom$Proc", "nextAct", "()I"⟩
abbrev c_P_nextAct : ByteArray := prog_2_method_2_code
def y_R_init : MethodName := ⟨"InputRoom$Row", "<init>", "(I)V"⟩
abbrev c_R_init : ByteArray := prog_3_method_1_code
def y_R_isEmpty : MethodName := ⟨"InputRoom$Row", "isEmpty", "()Z"⟩
abbrev c_R_isEmpty : ByteArray := prog_3_method_2_code
def y_R_append : MethodName := ⟨"InputRoom$Row", "append", "(LInputRoom$Proc;)V"⟩
abbrev c_R_append : ByteArray := prog_3_method_3_code
def y_R_takeFirst : MethodName := ⟨"InputRoom$Row", "takeFirst", "()LInputRoom$Proc;"⟩
abbrev c_R_takeFirst : ByteArray := prog_3_method_4_code
def y_R_processAt : MethodName := ⟨"InputRoom$Row", "processAt", "(I)LInputRoom$Proc;"⟩
abbrev c_R_processAt : ByteArray := prog_3_method_5_code
def y_S_init : MethodName := ⟨"InputRoom$Semaphore", "<init>", "(I)V"⟩
abbrev c_S_init : ByteArray := prog_4_method_1_code
def y_W_init : MethodName := ⟨"InputRoom$Words", "<init>", "()V"⟩
abbrev c_W_init : ByteArray := prog_5_method_1_code
def y_W_add : MethodName := ⟨"InputRoom$Words", "add", "(I)I"⟩
abbrev c_W_add : ByteArray := prog_5_method_2_code
def y_W_dropFirst : MethodName := ⟨"InputRoom$Words", "dropFirst", "()V"⟩
abbrev c_W_dropFirst : ByteArray := prog_5_method_3_code
def y_W_get : MethodName := ⟨"InputRoom$Words", "get", "(I)I"⟩
abbrev c_W_get : ByteArray := prog_5_method_4_code
def y_W_takeUntold : MethodName := ⟨"InputRoom$Words", "takeUntold", "()I"⟩
abbrev c_W_takeUntold : ByteArray := prog_5_method_5_code
def y_W_place : MethodName := ⟨"InputRoom$Words", "place", "(I)I"⟩
abbrev c_W_place : ByteArray := prog_5_method_6_code
def y_J_floorMod : MethodName := ⟨"java/lang/Math", "floorMod", "(II)I"⟩
abbrev c_J_floorMod : ByteArray := prog_8_method_50_code
abbrev c_L_law : ByteArray := code
end
section
theorem d_X_init_0 : decode c_X_init 0 = .ok (.aload_n 0, 1) := by decide +kernel
theorem d_X_init_1 : decode c_X_init 1 = .ok (.invokespecial 1, 3) := by decide +kernel
theorem d_X_init_4 : decode c_X_init 4 = .ok (.aload_n 0, 1) := by decide +kernel
theorem d_X_init_5 : decode c_X_init 5 = .ok (.bipush 32, 2) := by decide +kernel
theorem d_X_init_7 : decode c_X_init 7 = .ok (.anewarray 9, 3) := by decide +kernel
theorem d_X_init_10 : decode c_X_init 10 = .ok (.putfield 11, 3) := by decide +kernel
theorem d_X_init_13 : decode c_X_init 13 = .ok (.aload_n 0, 1) := by decide +kernel
theorem d_X_init_14 : decode c_X_init 14 = .ok (.bipush 8, 2) := by decide +kernel
theorem d_X_init_16 : decode c_X_init 16 = .ok (.anewarray 15, 3) := by decide +kernel
theorem d_X_init_19 : decode c_X_init 19 = .ok (.putfield 17, 3) := by decide +kernel
theorem d_X_init_22 : decode c_X_init 22 = .ok (.aload_n 0, 1) := by decide +kernel
theorem d_X_init_23 : decode c_X_init 23 = .ok (.bipush 16, 2) := by decide +kernel
theorem d_X_init_25 : decode c_X_init 25 = .ok (.anewarray 21, 3) := by decide +kernel
theorem d_X_init_28 : decode c_X_init 28 = .ok (.putfield 23, 3) := by decide +kernel
theorem d_X_init_31 : decode c_X_init 31 = .ok (.aload_n 0, 1) := by decide +kernel
theorem d_X_init_32 : decode c_X_init 32 = .ok (.new 27, 3) := by decide +kernel
theorem d_X_init_35 : decode c_X_init 35 = .ok (.dup, 1) := by decide +kernel
theorem d_X_init_36 : decode c_X_init 36 = .ok (.invokespecial 29, 3) := by decide +kernel
theorem d_X_init_39 : decode c_X_init 39 = .ok (.putfield 30, 3) := by decide +kernel
theorem d_X_init_42 : decode c_X_init 42 = .ok (.iconst 0, 1) := by decide +kernel
theorem d_X_init_43 : decode c_X_init 43 = .ok (.istore_n 1, 1) := by decide +kernel
theorem d_X_init_44 : decode c_X_init 44 = .ok (.iload_n 1, 1) := by decide +kernel
theorem d_X_init_45 : decode c_X_init 45 = .ok (.bipush 8, 2) := by decide +kernel
theorem d_X_init_47 : decode c_X_init 47 = .ok (.if_icmp .ge 25, 3) := by decide +kernel
theorem d_X_init_50 : decode c_X_init 50 = .ok (.aload_n 0, 1) := by decide +kernel
theorem d_X_init_51 : decode c_X_init 51 = .ok (.getfield 17, 3) := by decide +kernel
theorem d_X_init_54 : decode c_X_init 54 = .ok (.iload_n 1, 1) := by decide +kernel
theorem d_X_init_55 : decode c_X_init 55 = .ok (.new 15, 3) := by decide +kernel
theorem d_X_init_58 : decode c_X_init 58 = .ok (.dup, 1) := by decide +kernel
theorem d_X_init_59 : decode c_X_init 59 = .ok (.iload_n 1, 1) := by decide +kernel
theorem d_X_init_60 : decode c_X_init 60 = .ok (.iconst 1, 1) := by decide +kernel
theorem d_X_init_61 : decode c_X_init 61 = .ok (.iadd, 1) := by decide +kernel
theorem d_X_init_62 : decode c_X_init 62 = .ok (.invokespecial 34, 3) := by decide +kernel
theorem d_X_init_65 : decode c_X_init 65 = .ok (.aastore, 1) := by decide +kernel
theorem d_X_init_66 : decode c_X_init 66 = .ok (.iinc 1 1, 3) := by decide +kernel
theorem d_X_init_69 : decode c_X_init 69 = .ok (.goto (-25), 3) := by decide +kernel
theorem d_X_init_72 : decode c_X_init 72 = .ok (.iconst 0, 1) := by decide +kernel
theorem d_X_init_73 : decode c_X_init 73 = .ok (.istore_n 1, 1) := by decide +kernel
theorem d_X_init_74 : decode c_X_init 74 = .ok (.iload_n 1, 1) := by decide +kernel
theorem d_X_init_75 : decode c_X_init 75 = .ok (.bipush 16, 2) := by decide +kernel
theorem d_X_init_77 : decode c_X_init 77 = .ok (.if_icmp .ge 23, 3) := by decide +kernel
theorem d_X_init_80 : decode c_X_init 80 = .ok (.aload_n 0, 1) := by decide +kernel
theorem d_X_init_81 : decode c_X_init 81 = .ok (.getfield 23, 3) := by decide +kernel
theorem d_X_init_84 : decode c_X_init 84 = .ok (.iload_n 1, 1) := by decide +kernel
theorem d_X_init_85 : decode c_X_init 85 = .ok (.new 21, 3) := by decide +kernel
theorem d_X_init_88 : decode c_X_init 88 = .ok (.dup, 1) := by decide +kernel
theorem d_X_init_89 : decode c_X_init 89 = .ok (.iload_n 1, 1) := by decide +kernel
theorem d_X_init_90 : decode c_X_init 90 = .ok (.invokespecial 37, 3) := by decide +kernel
theorem d_X_init_93 : decode c_X_init 93 = .ok (.aastore, 1) := by decide +kernel
theorem d_X_init_94 : decode c_X_init 94 = .ok (.iinc 1 1, 3) := by decide +kernel
theorem d_X_init_97 : decode c_X_init 97 = .ok (.goto (-23), 3) := by decide +kernel
theorem d_X_init_100 : decode c_X_init 100 = .ok (.return_, 1) := by decide +kernel
theorem d_X_make_0 : decode c_X_make 0 = .ok (.iload_n 1, 1) := by decide +kernel
theorem d_X_make_1 : decode c_X_make 1 = .ok (.ifCond .lt 18, 3) := by decide +kernel
theorem d_X_make_4 : decode c_X_make 4 = .ok (.iload_n 1, 1) := by decide +kernel
theorem d_X_make_5 : decode c_X_make 5 = .ok (.bipush 32, 2) := by decide +kernel
theorem d_X_make_7 : decode c_X_make 7 = .ok (.if_icmp .ge 12, 3) := by decide +kernel
theorem d_X_make_10 : decode c_X_make 10 = .ok (.aload_n 0, 1) := by decide +kernel
theorem d_X_make_11 : decode c_X_make 11 = .ok (.getfield 11, 3) := by decide +kernel
theorem d_X_make_14 : decode c_X_make 14 = .ok (.iload_n 1, 1) := by decide +kernel
theorem d_X_make_15 : decode c_X_make 15 = .ok (.aaload, 1) := by decide +kernel
theorem d_X_make_16 : decode c_X_make 16 = .ok (.ifnull 5, 3) := by decide +kernel
theorem d_X_make_19 : decode c_X_make 19 = .ok (.iconst 0, 1) := by decide +kernel
theorem d_X_make_20 : decode c_X_make 20 = .ok (.ireturn, 1) := by decide +kernel
theorem d_X_make_21 : decode c_X_make 21 = .ok (.iload_n 2, 1) := by decide +kernel
theorem d_X_make_22 : decode c_X_make 22 = .ok (.iconst 1, 1) := by decide +kernel
theorem d_X_make_23 : decode c_X_make 23 = .ok (.if_icmp .lt 9, 3) := by decide +kernel
theorem d_X_make_26 : decode c_X_make 26 = .ok (.iload_n 2, 1) := by decide +kernel
theorem d_X_make_27 : decode c_X_make 27 = .ok (.bipush 8, 2) := by decide +kernel
theorem d_X_make_29 : decode c_X_make 29 = .ok (.if_icmp .le 5, 3) := by decide +kernel
theorem d_X_make_32 : decode c_X_make 32 = .ok (.iconst 0, 1) := by decide +kernel
theorem d_X_make_33 : decode c_X_make 33 = .ok (.ireturn, 1) := by decide +kernel
theorem d_X_make_34 : decode c_X_make 34 = .ok (.aload_n 0, 1) := by decide +kernel
theorem d_X_make_35 : decode c_X_make 35 = .ok (.getfield 11, 3) := by decide +kernel
theorem d_X_make_38 : decode c_X_make 38 = .ok (.iload_n 1, 1) := by decide +kernel
theorem d_X_make_39 : decode c_X_make 39 = .ok (.new 9, 3) := by decide +kernel
theorem d_X_make_42 : decode c_X_make 42 = .ok (.dup, 1) := by decide +kernel
theorem d_X_make_43 : decode c_X_make 43 = .ok (.iload_n 1, 1) := by decide +kernel
theorem d_X_make_44 : decode c_X_make 44 = .ok (.iload_n 2, 1) := by decide +kernel
theorem d_X_make_45 : decode c_X_make 45 = .ok (.aload_n 0, 1) := by decide +kernel
theorem d_X_make_46 : decode c_X_make 46 = .ok (.getfield 17, 3) := by decide +kernel
theorem d_X_make_49 : decode c_X_make 49 = .ok (.iload_n 2, 1) := by decide +kernel
theorem d_X_make_50 : decode c_X_make 50 = .ok (.iconst 1, 1) := by decide +kernel
theorem d_X_make_51 : decode c_X_make 51 = .ok (.isub, 1) := by decide +kernel
theorem d_X_make_52 : decode c_X_make 52 = .ok (.aaload, 1) := by decide +kernel
theorem d_X_make_53 : decode c_X_make 53 = .ok (.invokespecial 38, 3) := by decide +kernel
theorem d_X_make_56 : decode c_X_make 56 = .ok (.aastore, 1) := by decide +kernel
theorem d_X_make_57 : decode c_X_make 57 = .ok (.iconst 1, 1) := by decide +kernel
theorem d_X_make_58 : decode c_X_make 58 = .ok (.ireturn, 1) := by decide +kernel
theorem d_X_plan_0 : decode c_X_plan 0 = .ok (.aload_n 0, 1) := by decide +kernel
theorem d_X_plan_1 : decode c_X_plan 1 = .ok (.iload_n 1, 1) := by decide +kernel
theorem d_X_plan_2 : decode c_X_plan 2 = .ok (.invokevirtual 41, 3) := by decide +kernel
theorem d_X_plan_5 : decode c_X_plan 5 = .ok (.astore 4, 2) := by decide +kernel
theorem d_X_plan_7 : decode c_X_plan 7 = .ok (.aload 4, 2) := by decide +kernel
theorem d_X_plan_9 : decode c_X_plan 9 = .ok (.ifnull 23, 3) := by decide +kernel
theorem d_X_plan_12 : decode c_X_plan 12 = .ok (.iload_n 2, 1) := by decide +kernel
theorem d_X_plan_13 : decode c_X_plan 13 = .ok (.ifCond .lt 19, 3) := by decide +kernel
theorem d_X_plan_16 : decode c_X_plan 16 = .ok (.iload_n 2, 1) := by decide +kernel
theorem d_X_plan_17 : decode c_X_plan 17 = .ok (.bipush 8, 2) := by decide +kernel
theorem d_X_plan_19 : decode c_X_plan 19 = .ok (.if_icmp .ge 13, 3) := by decide +kernel
theorem d_X_plan_22 : decode c_X_plan 22 = .ok (.iload_n 3, 1) := by decide +kernel
theorem d_X_plan_23 : decode c_X_plan 23 = .ok (.ifCond .lt 9, 3) := by decide +kernel
theorem d_X_plan_26 : decode c_X_plan 26 = .ok (.iload_n 3, 1) := by decide +kernel
theorem d_X_plan_27 : decode c_X_plan 27 = .ok (.bipush 127, 2) := by decide +kernel
theorem d_X_plan_29 : decode c_X_plan 29 = .ok (.if_icmp .le 5, 3) := by decide +kernel
theorem d_X_plan_32 : decode c_X_plan 32 = .ok (.iconst (-1), 1) := by decide +kernel
theorem d_X_plan_33 : decode c_X_plan 33 = .ok (.ireturn, 1) := by decide +kernel
theorem d_X_plan_34 : decode c_X_plan 34 = .ok (.aload 4, 2) := by decide +kernel
theorem d_X_plan_36 : decode c_X_plan 36 = .ok (.getfield 45, 3) := by decide +kernel
theorem d_X_plan_39 : decode c_X_plan 39 = .ok (.iload_n 2, 1) := by decide +kernel
theorem d_X_plan_40 : decode c_X_plan 40 = .ok (.iaload, 1) := by decide +kernel
theorem d_X_plan_41 : decode c_X_plan 41 = .ok (.istore 5, 2) := by decide +kernel
theorem d_X_plan_43 : decode c_X_plan 43 = .ok (.aload 4, 2) := by decide +kernel
theorem d_X_plan_45 : decode c_X_plan 45 = .ok (.getfield 45, 3) := by decide +kernel
theorem d_X_plan_48 : decode c_X_plan 48 = .ok (.iload_n 2, 1) := by decide +kernel
theorem d_X_plan_49 : decode c_X_plan 49 = .ok (.iload_n 3, 1) := by decide +kernel
theorem d_X_plan_50 : decode c_X_plan 50 = .ok (.iastore, 1) := by decide +kernel
theorem d_X_plan_51 : decode c_X_plan 51 = .ok (.iload 5, 2) := by decide +kernel
theorem d_X_plan_53 : decode c_X_plan 53 = .ok (.ireturn, 1) := by decide +kernel
theorem d_X_wake_0 : decode c_X_wake 0 = .ok (.aload_n 0, 1) := by decide +kernel
theorem d_X_wake_1 : decode c_X_wake 1 = .ok (.iload_n 1, 1) := by decide +kernel
theorem d_X_wake_2 : decode c_X_wake 2 = .ok (.invokevirtual 41, 3) := by decide +kernel
theorem d_X_wake_5 : decode c_X_wake 5 = .ok (.astore_n 2, 1) := by decide +kernel
theorem d_X_wake_6 : decode c_X_wake 6 = .ok (.aload_n 2, 1) := by decide +kernel
theorem d_X_wake_7 : decode c_X_wake 7 = .ok (.ifnull 10, 3) := by decide +kernel
theorem d_X_wake_10 : decode c_X_wake 10 = .ok (.aload_n 2, 1) := by decide +kernel
theorem d_X_wake_11 : decode c_X_wake 11 = .ok (.getfield 49, 3) := by decide +kernel
theorem d_X_wake_14 : decode c_X_wake 14 = .ok (.ifCond .eq 5, 3) := by decide +kernel
theorem d_X_wake_17 : decode c_X_wake 17 = .ok (.iconst 0, 1) := by decide +kernel
theorem d_X_wake_18 : decode c_X_wake 18 = .ok (.ireturn, 1) := by decide +kernel
theorem d_X_wake_19 : decode c_X_wake 19 = .ok (.aload_n 2, 1) := by decide +kernel
theorem d_X_wake_20 : decode c_X_wake 20 = .ok (.aload_n 0, 1) := by decide +kernel
theorem d_X_wake_21 : decode c_X_wake 21 = .ok (.getfield 53, 3) := by decide +kernel
theorem d_X_wake_24 : decode c_X_wake 24 = .ok (.if_acmp .eq 11, 3) := by decide +kernel
theorem d_X_wake_27 : decode c_X_wake 27 = .ok (.aload_n 2, 1) := by decide +kernel
theorem d_X_wake_28 : decode c_X_wake 28 = .ok (.aload_n 0, 1) := by decide +kernel
theorem d_X_wake_29 : decode c_X_wake 29 = .ok (.invokevirtual 57, 3) := by decide +kernel
theorem d_X_wake_32 : decode c_X_wake 32 = .ok (.if_acmp .ne 5, 3) := by decide +kernel
theorem d_X_wake_35 : decode c_X_wake 35 = .ok (.iconst 0, 1) := by decide +kernel
theorem d_X_wake_36 : decode c_X_wake 36 = .ok (.ireturn, 1) := by decide +kernel
theorem d_X_wake_37 : decode c_X_wake 37 = .ok (.aload_n 0, 1) := by decide +kernel
theorem d_X_wake_38 : decode c_X_wake 38 = .ok (.aload_n 2, 1) := by decide +kernel
theorem d_X_wake_39 : decode c_X_wake 39 = .ok (.invokevirtual 61, 3) := by decide +kernel
theorem d_X_wake_42 : decode c_X_wake 42 = .ok (.iconst 1, 1) := by decide +kernel
theorem d_X_wake_43 : decode c_X_wake 43 = .ok (.ireturn, 1) := by decide +kernel
theorem d_X_suspend_0 : decode c_X_suspend 0 = .ok (.aload_n 0, 1) := by decide +kernel
theorem d_X_suspend_1 : decode c_X_suspend 1 = .ok (.invokevirtual 57, 3) := by decide +kernel
theorem d_X_suspend_4 : decode c_X_suspend 4 = .ok (.astore_n 1, 1) := by decide +kernel
theorem d_X_suspend_5 : decode c_X_suspend 5 = .ok (.aload_n 1, 1) := by decide +kernel
theorem d_X_suspend_6 : decode c_X_suspend 6 = .ok (.ifnonnull 5, 3) := by decide +kernel
theorem d_X_suspend_9 : decode c_X_suspend 9 = .ok (.iconst (-1), 1) := by decide +kernel
theorem d_X_suspend_10 : decode c_X_suspend 10 = .ok (.ireturn, 1) := by decide +kernel
theorem d_X_suspend_11 : decode c_X_suspend 11 = .ok (.aload_n 0, 1) := by decide +kernel
theorem d_X_suspend_12 : decode c_X_suspend 12 = .ok (.invokevirtual 65, 3) := by decide +kernel
theorem d_X_suspend_15 : decode c_X_suspend 15 = .ok (.aload_n 1, 1) := by decide +kernel
theorem d_X_suspend_16 : decode c_X_suspend 16 = .ok (.getfield 68, 3) := by decide +kernel
theorem d_X_suspend_19 : decode c_X_suspend 19 = .ok (.ireturn, 1) := by decide +kernel
theorem d_X_signal_0 : decode c_X_signal 0 = .ok (.iload_n 1, 1) := by decide +kernel
theorem d_X_signal_1 : decode c_X_signal 1 = .ok (.invokestatic 71, 3) := by decide +kernel
theorem d_X_signal_4 : decode c_X_signal 4 = .ok (.ifCond .ne 5, 3) := by decide +kernel
theorem d_X_signal_7 : decode c_X_signal 7 = .ok (.iconst 0, 1) := by decide +kernel
theorem d_X_signal_8 : decode c_X_signal 8 = .ok (.ireturn, 1) := by decide +kernel
theorem d_X_signal_9 : decode c_X_signal 9 = .ok (.aload_n 0, 1) := by decide +kernel
theorem d_X_signal_10 : decode c_X_signal 10 = .ok (.aload_n 0, 1) := by decide +kernel
theorem d_X_signal_11 : decode c_X_signal 11 = .ok (.getfield 23, 3) := by decide +kernel
theorem d_X_signal_14 : decode c_X_signal 14 = .ok (.iload_n 1, 1) := by decide +kernel
theorem d_X_signal_15 : decode c_X_signal 15 = .ok (.aaload, 1) := by decide +kernel
theorem d_X_signal_16 : decode c_X_signal 16 = .ok (.invokevirtual 75, 3) := by decide +kernel
theorem d_X_signal_19 : decode c_X_signal 19 = .ok (.iconst 1, 1) := by decide +kernel
theorem d_X_signal_20 : decode c_X_signal 20 = .ok (.ireturn, 1) := by decide +kernel
theorem d_X_listen_0 : decode c_X_listen 0 = .ok (.iload_n 1, 1) := by decide +kernel
theorem d_X_listen_1 : decode c_X_listen 1 = .ok (.iconst (-1), 1) := by decide +kernel
theorem d_X_listen_2 : decode c_X_listen 2 = .ok (.if_icmp .ne 10, 3) := by decide +kernel
theorem d_X_listen_5 : decode c_X_listen 5 = .ok (.aload_n 0, 1) := by decide +kernel
theorem d_X_listen_6 : decode c_X_listen 6 = .ok (.aconst_null, 1) := by decide +kernel
theorem d_X_listen_7 : decode c_X_listen 7 = .ok (.putfield 79, 3) := by decide +kernel
theorem d_X_listen_10 : decode c_X_listen 10 = .ok (.iconst 1, 1) := by decide +kernel
theorem d_X_listen_11 : decode c_X_listen 11 = .ok (.ireturn, 1) := by decide +kernel
theorem d_X_listen_12 : decode c_X_listen 12 = .ok (.iload_n 1, 1) := by decide +kernel
theorem d_X_listen_13 : decode c_X_listen 13 = .ok (.invokestatic 71, 3) := by decide +kernel
theorem d_X_listen_16 : decode c_X_listen 16 = .ok (.ifCond .ne 5, 3) := by decide +kernel
theorem d_X_listen_19 : decode c_X_listen 19 = .ok (.iconst 0, 1) := by decide +kernel
theorem d_X_listen_20 : decode c_X_listen 20 = .ok (.ireturn, 1) := by decide +kernel
theorem d_X_listen_21 : decode c_X_listen 21 = .ok (.aload_n 0, 1) := by decide +kernel
theorem d_X_listen_22 : decode c_X_listen 22 = .ok (.aload_n 0, 1) := by decide +kernel
theorem d_X_listen_23 : decode c_X_listen 23 = .ok (.getfield 23, 3) := by decide +kernel
theorem d_X_listen_26 : decode c_X_listen 26 = .ok (.iload_n 1, 1) := by decide +kernel
theorem d_X_listen_27 : decode c_X_listen 27 = .ok (.aaload, 1) := by decide +kernel
theorem d_X_listen_28 : decode c_X_listen 28 = .ok (.putfield 79, 3) := by decide +kernel
theorem d_X_listen_31 : decode c_X_listen 31 = .ok (.iconst 1, 1) := by decide +kernel
theorem d_X_listen_32 : decode c_X_listen 32 = .ok (.ireturn, 1) := by decide +kernel
theorem d_X_alarm_0 : decode c_X_alarm 0 = .ok (.iload_n 1, 1) := by decide +kernel
theorem d_X_alarm_1 : decode c_X_alarm 1 = .ok (.iconst (-1), 1) := by decide +kernel
theorem d_X_alarm_2 : decode c_X_alarm 2 = .ok (.if_icmp .ne 10, 3) := by decide +kernel
theorem d_X_alarm_5 : decode c_X_alarm 5 = .ok (.aload_n 0, 1) := by decide +kernel
theorem d_X_alarm_6 : decode c_X_alarm 6 = .ok (.aconst_null, 1) := by decide +kernel
theorem d_X_alarm_7 : decode c_X_alarm 7 = .ok (.putfield 83, 3) := by decide +kernel
theorem d_X_alarm_10 : decode c_X_alarm 10 = .ok (.iconst 1, 1) := by decide +kernel
theorem d_X_alarm_11 : decode c_X_alarm 11 = .ok (.ireturn, 1) := by decide +kernel
theorem d_X_alarm_12 : decode c_X_alarm 12 = .ok (.iload_n 1, 1) := by decide +kernel
theorem d_X_alarm_13 : decode c_X_alarm 13 = .ok (.invokestatic 71, 3) := by decide +kernel
theorem d_X_alarm_16 : decode c_X_alarm 16 = .ok (.ifCond .eq 13, 3) := by decide +kernel
theorem d_X_alarm_19 : decode c_X_alarm 19 = .ok (.iload_n 2, 1) := by decide +kernel
theorem d_X_alarm_20 : decode c_X_alarm 20 = .ok (.ifCond .lt 9, 3) := by decide +kernel
theorem d_X_alarm_23 : decode c_X_alarm 23 = .ok (.iload_n 2, 1) := by decide +kernel
theorem d_X_alarm_24 : decode c_X_alarm 24 = .ok (.ldc 86, 2) := by decide +kernel
theorem d_X_alarm_26 : decode c_X_alarm 26 = .ok (.if_icmp .le 5, 3) := by decide +kernel
theorem d_X_alarm_29 : decode c_X_alarm 29 = .ok (.iconst 0, 1) := by decide +kernel
theorem d_X_alarm_30 : decode c_X_alarm 30 = .ok (.ireturn, 1) := by decide +kernel
theorem d_X_alarm_31 : decode c_X_alarm 31 = .ok (.aload_n 0, 1) := by decide +kernel
theorem d_X_alarm_32 : decode c_X_alarm 32 = .ok (.aload_n 0, 1) := by decide +kernel
theorem d_X_alarm_33 : decode c_X_alarm 33 = .ok (.getfield 23, 3) := by decide +kernel
theorem d_X_alarm_36 : decode c_X_alarm 36 = .ok (.iload_n 1, 1) := by decide +kernel
theorem d_X_alarm_37 : decode c_X_alarm 37 = .ok (.aaload, 1) := by decide +kernel
theorem d_X_alarm_38 : decode c_X_alarm 38 = .ok (.iload_n 2, 1) := by decide +kernel
theorem d_X_alarm_39 : decode c_X_alarm 39 = .ok (.invokevirtual 87, 3) := by decide +kernel
theorem d_X_alarm_42 : decode c_X_alarm 42 = .ok (.iconst 1, 1) := by decide +kernel
theorem d_X_alarm_43 : decode c_X_alarm 43 = .ok (.ireturn, 1) := by decide +kernel
theorem d_X_word_0 : decode c_X_word 0 = .ok (.iload_n 1, 1) := by decide +kernel
theorem d_X_word_1 : decode c_X_word 1 = .ok (.ifCond .lt 9, 3) := by decide +kernel
theorem d_X_word_4 : decode c_X_word 4 = .ok (.iload_n 1, 1) := by decide +kernel
theorem d_X_word_5 : decode c_X_word 5 = .ok (.ldc 91, 2) := by decide +kernel
theorem d_X_word_7 : decode c_X_word 7 = .ok (.if_icmp .le 7, 3) := by decide +kernel
theorem d_X_word_10 : decode c_X_word 10 = .ok (.iconst (-1), 1) := by decide +kernel
theorem d_X_word_11 : decode c_X_word 11 = .ok (.goto 11, 3) := by decide +kernel
theorem d_X_word_14 : decode c_X_word 14 = .ok (.aload_n 0, 1) := by decide +kernel
theorem d_X_word_15 : decode c_X_word 15 = .ok (.getfield 30, 3) := by decide +kernel
theorem d_X_word_18 : decode c_X_word 18 = .ok (.iload_n 1, 1) := by decide +kernel
theorem d_X_word_19 : decode c_X_word 19 = .ok (.invokevirtual 92, 3) := by decide +kernel
theorem d_X_word_22 : decode c_X_word 22 = .ok (.ireturn, 1) := by decide +kernel
theorem d_X_run_0 : decode c_X_run 0 = .ok (.iload_n 1, 1) := by decide +kernel
theorem d_X_run_1 : decode c_X_run 1 = .ok (.iconst 1, 1) := by decide +kernel
theorem d_X_run_2 : decode c_X_run 2 = .ok (.if_icmp .lt 10, 3) := by decide +kernel
theorem d_X_run_5 : decode c_X_run 5 = .ok (.iload_n 1, 1) := by decide +kernel
theorem d_X_run_6 : decode c_X_run 6 = .ok (.sipush 1000, 3) := by decide +kernel
theorem d_X_run_9 : decode c_X_run 9 = .ok (.if_icmp .le 5, 3) := by decide +kernel
theorem d_X_run_12 : decode c_X_run 12 = .ok (.iconst (-1), 1) := by decide +kernel
theorem d_X_run_13 : decode c_X_run 13 = .ok (.ireturn, 1) := by decide +kernel
theorem d_X_run_14 : decode c_X_run 14 = .ok (.aload_n 0, 1) := by decide +kernel
theorem d_X_run_15 : decode c_X_run 15 = .ok (.getfield 53, 3) := by decide +kernel
theorem d_X_run_18 : decode c_X_run 18 = .ok (.ifnonnull 7, 3) := by decide +kernel
theorem d_X_run_21 : decode c_X_run 21 = .ok (.aload_n 0, 1) := by decide +kernel
theorem d_X_run_22 : decode c_X_run 22 = .ok (.invokevirtual 96, 3) := by decide +kernel
theorem d_X_run_25 : decode c_X_run 25 = .ok (.iconst 0, 1) := by decide +kernel
theorem d_X_run_26 : decode c_X_run 26 = .ok (.istore_n 2, 1) := by decide +kernel
theorem d_X_run_27 : decode c_X_run 27 = .ok (.iload_n 2, 1) := by decide +kernel
theorem d_X_run_28 : decode c_X_run 28 = .ok (.iload_n 1, 1) := by decide +kernel
theorem d_X_run_29 : decode c_X_run 29 = .ok (.if_icmp .ge 28, 3) := by decide +kernel
theorem d_X_run_32 : decode c_X_run 32 = .ok (.aload_n 0, 1) := by decide +kernel
theorem d_X_run_33 : decode c_X_run 33 = .ok (.getfield 53, 3) := by decide +kernel
theorem d_X_run_36 : decode c_X_run 36 = .ok (.ifnull 21, 3) := by decide +kernel
theorem d_X_run_39 : decode c_X_run 39 = .ok (.aload_n 0, 1) := by decide +kernel
theorem d_X_run_40 : decode c_X_run 40 = .ok (.aload_n 0, 1) := by decide +kernel
theorem d_X_run_41 : decode c_X_run 41 = .ok (.getfield 53, 3) := by decide +kernel
theorem d_X_run_44 : decode c_X_run 44 = .ok (.invokevirtual 99, 3) := by decide +kernel
theorem d_X_run_47 : decode c_X_run 47 = .ok (.aload_n 0, 1) := by decide +kernel
theorem d_X_run_48 : decode c_X_run 48 = .ok (.invokevirtual 96, 3) := by decide +kernel
theorem d_X_run_51 : decode c_X_run 51 = .ok (.iinc 2 1, 3) := by decide +kernel
theorem d_X_run_54 : decode c_X_run 54 = .ok (.goto (-27), 3) := by decide +kernel
theorem d_X_run_57 : decode c_X_run 57 = .ok (.iload_n 2, 1) := by decide +kernel
theorem d_X_run_58 : decode c_X_run 58 = .ok (.ireturn, 1) := by decide +kernel
theorem d_X_active_0 : decode c_X_active 0 = .ok (.aload_n 0, 1) := by decide +kernel
theorem d_X_active_1 : decode c_X_active 1 = .ok (.getfield 53, 3) := by decide +kernel
theorem d_X_active_4 : decode c_X_active 4 = .ok (.invokestatic 102, 3) := by decide +kernel
theorem d_X_active_7 : decode c_X_active 7 = .ok (.ireturn, 1) := by decide +kernel
theorem d_X_present_0 : decode c_X_present 0 = .ok (.aload_n 0, 1) := by decide +kernel
theorem d_X_present_1 : decode c_X_present 1 = .ok (.invokevirtual 57, 3) := by decide +kernel
theorem d_X_present_4 : decode c_X_present 4 = .ok (.invokestatic 102, 3) := by decide +kernel
theorem d_X_present_7 : decode c_X_present 7 = .ok (.ireturn, 1) := by decide +kernel
theorem d_X_clock_0 : decode c_X_clock 0 = .ok (.aload_n 0, 1) := by decide +kernel
theorem d_X_clock_1 : decode c_X_clock 1 = .ok (.getfield 106, 3) := by decide +kernel
theorem d_X_clock_4 : decode c_X_clock 4 = .ok (.ireturn, 1) := by decide +kernel
theorem d_X_codes_0 : decode c_X_codes 0 = .ok (.aload_n 0, 1) := by decide +kernel
theorem d_X_codes_1 : decode c_X_codes 1 = .ok (.getfield 109, 3) := by decide +kernel
theorem d_X_codes_4 : decode c_X_codes 4 = .ok (.lreturn, 1) := by decide +kernel
theorem d_X_done_0 : decode c_X_done 0 = .ok (.aload_n 0, 1) := by decide +kernel
theorem d_X_done_1 : decode c_X_done 1 = .ok (.iload_n 1, 1) := by decide +kernel
theorem d_X_done_2 : decode c_X_done 2 = .ok (.invokevirtual 41, 3) := by decide +kernel
theorem d_X_done_5 : decode c_X_done 5 = .ok (.astore_n 2, 1) := by decide +kernel
theorem d_X_done_6 : decode c_X_done 6 = .ok (.aload_n 2, 1) := by decide +kernel
theorem d_X_done_7 : decode c_X_done 7 = .ok (.ifnonnull 7, 3) := by decide +kernel
theorem d_X_done_10 : decode c_X_done 10 = .ok (.iconst (-1), 1) := by decide +kernel
theorem d_X_done_11 : decode c_X_done 11 = .ok (.goto 7, 3) := by decide +kernel
theorem d_X_done_14 : decode c_X_done 14 = .ok (.aload_n 2, 1) := by decide +kernel
theorem d_X_done_15 : decode c_X_done 15 = .ok (.getfield 113, 3) := by decide +kernel
theorem d_X_done_18 : decode c_X_done 18 = .ok (.ireturn, 1) := by decide +kernel
theorem d_X_row_0 : decode c_X_row 0 = .ok (.aload_n 0, 1) := by decide +kernel
theorem d_X_row_1 : decode c_X_row 1 = .ok (.iload_n 1, 1) := by decide +kernel
theorem d_X_row_2 : decode c_X_row 2 = .ok (.invokevirtual 41, 3) := by decide +kernel
theorem d_X_row_5 : decode c_X_row 5 = .ok (.astore_n 2, 1) := by decide +kernel
theorem d_X_row_6 : decode c_X_row 6 = .ok (.aload_n 2, 1) := by decide +kernel
theorem d_X_row_7 : decode c_X_row 7 = .ok (.ifnonnull 7, 3) := by decide +kernel
theorem d_X_row_10 : decode c_X_row 10 = .ok (.iconst (-1), 1) := by decide +kernel
theorem d_X_row_11 : decode c_X_row 11 = .ok (.goto 7, 3) := by decide +kernel
theorem d_X_row_14 : decode c_X_row 14 = .ok (.aload_n 2, 1) := by decide +kernel
theorem d_X_row_15 : decode c_X_row 15 = .ok (.getfield 49, 3) := by decide +kernel
theorem d_X_row_18 : decode c_X_row 18 = .ok (.ireturn, 1) := by decide +kernel
theorem d_X_at_0 : decode c_X_at 0 = .ok (.iload_n 1, 1) := by decide +kernel
theorem d_X_at_1 : decode c_X_at 1 = .ok (.iconst 1, 1) := by decide +kernel
theorem d_X_at_2 : decode c_X_at 2 = .ok (.if_icmp .lt 25, 3) := by decide +kernel
theorem d_X_at_5 : decode c_X_at 5 = .ok (.iload_n 1, 1) := by decide +kernel
theorem d_X_at_6 : decode c_X_at 6 = .ok (.bipush 8, 2) := by decide +kernel
theorem d_X_at_8 : decode c_X_at 8 = .ok (.if_icmp .gt 19, 3) := by decide +kernel
theorem d_X_at_11 : decode c_X_at 11 = .ok (.aload_n 0, 1) := by decide +kernel
theorem d_X_at_12 : decode c_X_at 12 = .ok (.getfield 17, 3) := by decide +kernel
theorem d_X_at_15 : decode c_X_at 15 = .ok (.iload_n 1, 1) := by decide +kernel
theorem d_X_at_16 : decode c_X_at 16 = .ok (.iconst 1, 1) := by decide +kernel
theorem d_X_at_17 : decode c_X_at 17 = .ok (.isub, 1) := by decide +kernel
theorem d_X_at_18 : decode c_X_at 18 = .ok (.aaload, 1) := by decide +kernel
theorem d_X_at_19 : decode c_X_at 19 = .ok (.iload_n 2, 1) := by decide +kernel
theorem d_X_at_20 : decode c_X_at 20 = .ok (.invokevirtual 116, 3) := by decide +kernel
theorem d_X_at_23 : decode c_X_at 23 = .ok (.invokestatic 102, 3) := by decide +kernel
theorem d_X_at_26 : decode c_X_at 26 = .ok (.ireturn, 1) := by decide +kernel
theorem d_X_at_27 : decode c_X_at 27 = .ok (.iload_n 1, 1) := by decide +kernel
theorem d_X_at_28 : decode c_X_at 28 = .ok (.bipush 16, 2) := by decide +kernel
theorem d_X_at_30 : decode c_X_at 30 = .ok (.isub, 1) := by decide +kernel
theorem d_X_at_31 : decode c_X_at 31 = .ok (.invokestatic 71, 3) := by decide +kernel
theorem d_X_at_34 : decode c_X_at 34 = .ok (.ifCond .eq 23, 3) := by decide +kernel
theorem d_X_at_37 : decode c_X_at 37 = .ok (.aload_n 0, 1) := by decide +kernel
theorem d_X_at_38 : decode c_X_at 38 = .ok (.getfield 23, 3) := by decide +kernel
theorem d_X_at_41 : decode c_X_at 41 = .ok (.iload_n 1, 1) := by decide +kernel
theorem d_X_at_42 : decode c_X_at 42 = .ok (.bipush 16, 2) := by decide +kernel
theorem d_X_at_44 : decode c_X_at 44 = .ok (.isub, 1) := by decide +kernel
theorem d_X_at_45 : decode c_X_at 45 = .ok (.aaload, 1) := by decide +kernel
theorem d_X_at_46 : decode c_X_at 46 = .ok (.getfield 119, 3) := by decide +kernel
theorem d_X_at_49 : decode c_X_at 49 = .ok (.iload_n 2, 1) := by decide +kernel
theorem d_X_at_50 : decode c_X_at 50 = .ok (.invokevirtual 116, 3) := by decide +kernel
theorem d_X_at_53 : decode c_X_at 53 = .ok (.invokestatic 102, 3) := by decide +kernel
theorem d_X_at_56 : decode c_X_at 56 = .ok (.ireturn, 1) := by decide +kernel
theorem d_X_at_57 : decode c_X_at 57 = .ok (.iconst (-1), 1) := by decide +kernel
theorem d_X_at_58 : decode c_X_at 58 = .ok (.ireturn, 1) := by decide +kernel
theorem d_X_extra_0 : decode c_X_extra 0 = .ok (.iload_n 1, 1) := by decide +kernel
theorem d_X_extra_1 : decode c_X_extra 1 = .ok (.invokestatic 71, 3) := by decide +kernel
theorem d_X_extra_4 : decode c_X_extra 4 = .ok (.ifCond .eq 15, 3) := by decide +kernel
theorem d_X_extra_7 : decode c_X_extra 7 = .ok (.aload_n 0, 1) := by decide +kernel
theorem d_X_extra_8 : decode c_X_extra 8 = .ok (.getfield 23, 3) := by decide +kernel
theorem d_X_extra_11 : decode c_X_extra 11 = .ok (.iload_n 1, 1) := by decide +kernel
theorem d_X_extra_12 : decode c_X_extra 12 = .ok (.aaload, 1) := by decide +kernel
theorem d_X_extra_13 : decode c_X_extra 13 = .ok (.getfield 123, 3) := by decide +kernel
theorem d_X_extra_16 : decode c_X_extra 16 = .ok (.goto 4, 3) := by decide +kernel
theorem d_X_extra_19 : decode c_X_extra 19 = .ok (.iconst (-1), 1) := by decide +kernel
theorem d_X_extra_20 : decode c_X_extra 20 = .ok (.ireturn, 1) := by decide +kernel
theorem d_X_wordAt_0 : decode c_X_wordAt 0 = .ok (.aload_n 0, 1) := by decide +kernel
theorem d_X_wordAt_1 : decode c_X_wordAt 1 = .ok (.getfield 30, 3) := by decide +kernel
theorem d_X_wordAt_4 : decode c_X_wordAt 4 = .ok (.iload_n 1, 1) := by decide +kernel
theorem d_X_wordAt_5 : decode c_X_wordAt 5 = .ok (.invokevirtual 126, 3) := by decide +kernel
theorem d_X_wordAt_8 : decode c_X_wordAt 8 = .ok (.ireturn, 1) := by decide +kernel
theorem d_X_input_0 : decode c_X_input 0 = .ok (.aload_n 0, 1) := by decide +kernel
theorem d_X_input_1 : decode c_X_input 1 = .ok (.getfield 79, 3) := by decide +kernel
theorem d_X_input_4 : decode c_X_input 4 = .ok (.ifnonnull 7, 3) := by decide +kernel
theorem d_X_input_7 : decode c_X_input 7 = .ok (.iconst (-1), 1) := by decide +kernel
theorem d_X_input_8 : decode c_X_input 8 = .ok (.goto 10, 3) := by decide +kernel
theorem d_X_input_11 : decode c_X_input 11 = .ok (.aload_n 0, 1) := by decide +kernel
theorem d_X_input_12 : decode c_X_input 12 = .ok (.getfield 79, 3) := by decide +kernel
theorem d_X_input_15 : decode c_X_input 15 = .ok (.getfield 129, 3) := by decide +kernel
theorem d_X_input_18 : decode c_X_input 18 = .ok (.ireturn, 1) := by decide +kernel
theorem d_X_tick_0 : decode c_X_tick 0 = .ok (.aload_n 0, 1) := by decide +kernel
theorem d_X_tick_1 : decode c_X_tick 1 = .ok (.getfield 83, 3) := by decide +kernel
theorem d_X_tick_4 : decode c_X_tick 4 = .ok (.ifnonnull 7, 3) := by decide +kernel
theorem d_X_tick_7 : decode c_X_tick 7 = .ok (.iconst (-1), 1) := by decide +kernel
theorem d_X_tick_8 : decode c_X_tick 8 = .ok (.goto 7, 3) := by decide +kernel
theorem d_X_tick_11 : decode c_X_tick 11 = .ok (.aload_n 0, 1) := by decide +kernel
theorem d_X_tick_12 : decode c_X_tick 12 = .ok (.getfield 130, 3) := by decide +kernel
theorem d_X_tick_15 : decode c_X_tick 15 = .ok (.ireturn, 1) := by decide +kernel
theorem d_X_isSemaphore_0 : decode c_X_isSemaphore 0 = .ok (.iload_n 0, 1) := by decide +kernel
theorem d_X_isSemaphore_1 : decode c_X_isSemaphore 1 = .ok (.ifCond .lt 13, 3) := by decide +kernel
theorem d_X_isSemaphore_4 : decode c_X_isSemaphore 4 = .ok (.iload_n 0, 1) := by decide +kernel
theorem d_X_isSemaphore_5 : decode c_X_isSemaphore 5 = .ok (.bipush 16, 2) := by decide +kernel
theorem d_X_isSemaphore_7 : decode c_X_isSemaphore 7 = .ok (.if_icmp .ge 7, 3) := by decide +kernel
theorem d_X_isSemaphore_10 : decode c_X_isSemaphore 10 = .ok (.iconst 1, 1) := by decide +kernel
theorem d_X_isSemaphore_11 : decode c_X_isSemaphore 11 = .ok (.goto 4, 3) := by decide +kernel
theorem d_X_isSemaphore_14 : decode c_X_isSemaphore 14 = .ok (.iconst 0, 1) := by decide +kernel
theorem d_X_isSemaphore_15 : decode c_X_isSemaphore 15 = .ok (.ireturn, 1) := by decide +kernel
theorem d_X_numberOf_0 : decode c_X_numberOf 0 = .ok (.aload_n 0, 1) := by decide +kernel
theorem d_X_numberOf_1 : decode c_X_numberOf 1 = .ok (.ifnonnull 7, 3) := by decide +kernel
theorem d_X_numberOf_4 : decode c_X_numberOf 4 = .ok (.iconst (-1), 1) := by decide +kernel
theorem d_X_numberOf_5 : decode c_X_numberOf 5 = .ok (.goto 7, 3) := by decide +kernel
theorem d_X_numberOf_8 : decode c_X_numberOf 8 = .ok (.aload_n 0, 1) := by decide +kernel
theorem d_X_numberOf_9 : decode c_X_numberOf 9 = .ok (.getfield 68, 3) := by decide +kernel
theorem d_X_numberOf_12 : decode c_X_numberOf 12 = .ok (.ireturn, 1) := by decide +kernel
theorem d_X_processNumbered_0 : decode c_X_processNumbered 0 = .ok (.iload_n 1, 1) := by decide +kernel
theorem d_X_processNumbered_1 : decode c_X_processNumbered 1 = .ok (.ifCond .lt 18, 3) := by decide +kernel
theorem d_X_processNumbered_4 : decode c_X_processNumbered 4 = .ok (.iload_n 1, 1) := by decide +kernel
theorem d_X_processNumbered_5 : decode c_X_processNumbered 5 = .ok (.bipush 32, 2) := by decide +kernel
theorem d_X_processNumbered_7 : decode c_X_processNumbered 7 = .ok (.if_icmp .ge 12, 3) := by decide +kernel
theorem d_X_processNumbered_10 : decode c_X_processNumbered 10 = .ok (.aload_n 0, 1) := by decide +kernel
theorem d_X_processNumbered_11 : decode c_X_processNumbered 11 = .ok (.getfield 11, 3) := by decide +kernel
theorem d_X_processNumbered_14 : decode c_X_processNumbered 14 = .ok (.iload_n 1, 1) := by decide +kernel
theorem d_X_processNumbered_15 : decode c_X_processNumbered 15 = .ok (.aaload, 1) := by decide +kernel
theorem d_X_processNumbered_16 : decode c_X_processNumbered 16 = .ok (.goto 4, 3) := by decide +kernel
theorem d_X_processNumbered_19 : decode c_X_processNumbered 19 = .ok (.aconst_null, 1) := by decide +kernel
theorem d_X_processNumbered_20 : decode c_X_processNumbered 20 = .ok (.areturn, 1) := by decide +kernel
theorem d_X_presentOne_0 : decode c_X_presentOne 0 = .ok (.aload_n 0, 1) := by decide +kernel
theorem d_X_presentOne_1 : decode c_X_presentOne 1 = .ok (.getfield 133, 3) := by decide +kernel
theorem d_X_presentOne_4 : decode c_X_presentOne 4 = .ok (.ifCond .eq 10, 3) := by decide +kernel
theorem d_X_presentOne_7 : decode c_X_presentOne 7 = .ok (.aload_n 0, 1) := by decide +kernel
theorem d_X_presentOne_8 : decode c_X_presentOne 8 = .ok (.getfield 137, 3) := by decide +kernel
theorem d_X_presentOne_11 : decode c_X_presentOne 11 = .ok (.goto 7, 3) := by decide +kernel
theorem d_X_presentOne_14 : decode c_X_presentOne 14 = .ok (.aload_n 0, 1) := by decide +kernel
theorem d_X_presentOne_15 : decode c_X_presentOne 15 = .ok (.getfield 53, 3) := by decide +kernel
theorem d_X_presentOne_18 : decode c_X_presentOne 18 = .ok (.areturn, 1) := by decide +kernel
theorem d_X_wantChangeTo_0 : decode c_X_wantChangeTo 0 = .ok (.aload_n 0, 1) := by decide +kernel
theorem d_X_wantChangeTo_1 : decode c_X_wantChangeTo 1 = .ok (.iconst 1, 1) := by decide +kernel
theorem d_X_wantChangeTo_2 : decode c_X_wantChangeTo 2 = .ok (.putfield 133, 3) := by decide +kernel
theorem d_X_wantChangeTo_5 : decode c_X_wantChangeTo 5 = .ok (.aload_n 0, 1) := by decide +kernel
theorem d_X_wantChangeTo_6 : decode c_X_wantChangeTo 6 = .ok (.aload_n 1, 1) := by decide +kernel
theorem d_X_wantChangeTo_7 : decode c_X_wantChangeTo 7 = .ok (.putfield 137, 3) := by decide +kernel
theorem d_X_wantChangeTo_10 : decode c_X_wantChangeTo 10 = .ok (.return_, 1) := by decide +kernel
theorem d_X_wakeUp_0 : decode c_X_wakeUp 0 = .ok (.aload_n 0, 1) := by decide +kernel
theorem d_X_wakeUp_1 : decode c_X_wakeUp 1 = .ok (.invokevirtual 57, 3) := by decide +kernel
theorem d_X_wakeUp_4 : decode c_X_wakeUp 4 = .ok (.astore_n 2, 1) := by decide +kernel
theorem d_X_wakeUp_5 : decode c_X_wakeUp 5 = .ok (.aload_n 2, 1) := by decide +kernel
theorem d_X_wakeUp_6 : decode c_X_wakeUp 6 = .ok (.ifnull 23, 3) := by decide +kernel
theorem d_X_wakeUp_9 : decode c_X_wakeUp 9 = .ok (.aload_n 2, 1) := by decide +kernel
theorem d_X_wakeUp_10 : decode c_X_wakeUp 10 = .ok (.getfield 140, 3) := by decide +kernel
theorem d_X_wakeUp_13 : decode c_X_wakeUp 13 = .ok (.aload_n 1, 1) := by decide +kernel
theorem d_X_wakeUp_14 : decode c_X_wakeUp 14 = .ok (.getfield 140, 3) := by decide +kernel
theorem d_X_wakeUp_17 : decode c_X_wakeUp 17 = .ok (.if_icmp .lt 12, 3) := by decide +kernel
theorem d_X_wakeUp_20 : decode c_X_wakeUp 20 = .ok (.aload_n 1, 1) := by decide +kernel
theorem d_X_wakeUp_21 : decode c_X_wakeUp 21 = .ok (.getfield 143, 3) := by decide +kernel
theorem d_X_wakeUp_24 : decode c_X_wakeUp 24 = .ok (.aload_n 1, 1) := by decide +kernel
theorem d_X_wakeUp_25 : decode c_X_wakeUp 25 = .ok (.invokevirtual 146, 3) := by decide +kernel
theorem d_X_wakeUp_28 : decode c_X_wakeUp 28 = .ok (.return_, 1) := by decide +kernel
theorem d_X_wakeUp_29 : decode c_X_wakeUp 29 = .ok (.aload_n 2, 1) := by decide +kernel
theorem d_X_wakeUp_30 : decode c_X_wakeUp 30 = .ok (.ifnull 11, 3) := by decide +kernel
theorem d_X_wakeUp_33 : decode c_X_wakeUp 33 = .ok (.aload_n 2, 1) := by decide +kernel
theorem d_X_wakeUp_34 : decode c_X_wakeUp 34 = .ok (.getfield 143, 3) := by decide +kernel
theorem d_X_wakeUp_37 : decode c_X_wakeUp 37 = .ok (.aload_n 2, 1) := by decide +kernel
theorem d_X_wakeUp_38 : decode c_X_wakeUp 38 = .ok (.invokevirtual 146, 3) := by decide +kernel
theorem d_X_wakeUp_41 : decode c_X_wakeUp 41 = .ok (.aload_n 0, 1) := by decide +kernel
theorem d_X_wakeUp_42 : decode c_X_wakeUp 42 = .ok (.aload_n 1, 1) := by decide +kernel
theorem d_X_wakeUp_43 : decode c_X_wakeUp 43 = .ok (.invokevirtual 149, 3) := by decide +kernel
theorem d_X_wakeUp_46 : decode c_X_wakeUp 46 = .ok (.return_, 1) := by decide +kernel
theorem d_X_putPresentAside_0 : decode c_X_putPresentAside 0 = .ok (.aconst_null, 1) := by decide +kernel
theorem d_X_putPresentAside_1 : decode c_X_putPresentAside 1 = .ok (.astore_n 1, 1) := by decide +kernel
theorem d_X_putPresentAside_2 : decode c_X_putPresentAside 2 = .ok (.bipush 7, 2) := by decide +kernel
theorem d_X_putPresentAside_4 : decode c_X_putPresentAside 4 = .ok (.istore_n 2, 1) := by decide +kernel
theorem d_X_putPresentAside_5 : decode c_X_putPresentAside 5 = .ok (.iload_n 2, 1) := by decide +kernel
theorem d_X_putPresentAside_6 : decode c_X_putPresentAside 6 = .ok (.ifCond .lt 23, 3) := by decide +kernel
theorem d_X_putPresentAside_9 : decode c_X_putPresentAside 9 = .ok (.aload_n 1, 1) := by decide +kernel
theorem d_X_putPresentAside_10 : decode c_X_putPresentAside 10 = .ok (.ifnonnull 19, 3) := by decide +kernel
theorem d_X_putPresentAside_13 : decode c_X_putPresentAside 13 = .ok (.aload_n 0, 1) := by decide +kernel
theorem d_X_putPresentAside_14 : decode c_X_putPresentAside 14 = .ok (.getfield 17, 3) := by decide +kernel
theorem d_X_putPresentAside_17 : decode c_X_putPresentAside 17 = .ok (.iload_n 2, 1) := by decide +kernel
theorem d_X_putPresentAside_18 : decode c_X_putPresentAside 18 = .ok (.aaload, 1) := by decide +kernel
theorem d_X_putPresentAside_19 : decode c_X_putPresentAside 19 = .ok (.invokevirtual 152, 3) := by decide +kernel
theorem d_X_putPresentAside_22 : decode c_X_putPresentAside 22 = .ok (.astore_n 1, 1) := by decide +kernel
theorem d_X_putPresentAside_23 : decode c_X_putPresentAside 23 = .ok (.iinc 2 (-1), 3) := by decide +kernel
theorem d_X_putPresentAside_26 : decode c_X_putPresentAside 26 = .ok (.goto (-21), 3) := by decide +kernel
theorem d_X_putPresentAside_29 : decode c_X_putPresentAside 29 = .ok (.aload_n 0, 1) := by decide +kernel
theorem d_X_putPresentAside_30 : decode c_X_putPresentAside 30 = .ok (.aload_n 1, 1) := by decide +kernel
theorem d_X_putPresentAside_31 : decode c_X_putPresentAside 31 = .ok (.invokevirtual 149, 3) := by decide +kernel
theorem d_X_putPresentAside_34 : decode c_X_putPresentAside 34 = .ok (.return_, 1) := by decide +kernel
theorem d_X_signalOnce_0 : decode c_X_signalOnce 0 = .ok (.aload_n 1, 1) := by decide +kernel
theorem d_X_signalOnce_1 : decode c_X_signalOnce 1 = .ok (.getfield 119, 3) := by decide +kernel
theorem d_X_signalOnce_4 : decode c_X_signalOnce 4 = .ok (.invokevirtual 152, 3) := by decide +kernel
theorem d_X_signalOnce_7 : decode c_X_signalOnce 7 = .ok (.astore_n 2, 1) := by decide +kernel
theorem d_X_signalOnce_8 : decode c_X_signalOnce 8 = .ok (.aload_n 2, 1) := by decide +kernel
theorem d_X_signalOnce_9 : decode c_X_signalOnce 9 = .ok (.ifnonnull 16, 3) := by decide +kernel
theorem d_X_signalOnce_12 : decode c_X_signalOnce 12 = .ok (.aload_n 1, 1) := by decide +kernel
theorem d_X_signalOnce_13 : decode c_X_signalOnce 13 = .ok (.dup, 1) := by decide +kernel
theorem d_X_signalOnce_14 : decode c_X_signalOnce 14 = .ok (.getfield 123, 3) := by decide +kernel
theorem d_X_signalOnce_17 : decode c_X_signalOnce 17 = .ok (.iconst 1, 1) := by decide +kernel
theorem d_X_signalOnce_18 : decode c_X_signalOnce 18 = .ok (.iadd, 1) := by decide +kernel
theorem d_X_signalOnce_19 : decode c_X_signalOnce 19 = .ok (.putfield 123, 3) := by decide +kernel
theorem d_X_signalOnce_22 : decode c_X_signalOnce 22 = .ok (.goto 8, 3) := by decide +kernel
theorem d_X_signalOnce_25 : decode c_X_signalOnce 25 = .ok (.aload_n 0, 1) := by decide +kernel
theorem d_X_signalOnce_26 : decode c_X_signalOnce 26 = .ok (.aload_n 2, 1) := by decide +kernel
theorem d_X_signalOnce_27 : decode c_X_signalOnce 27 = .ok (.invokevirtual 61, 3) := by decide +kernel
theorem d_X_signalOnce_30 : decode c_X_signalOnce 30 = .ok (.return_, 1) := by decide +kernel
theorem d_X_waitFor_0 : decode c_X_waitFor 0 = .ok (.aload_n 0, 1) := by decide +kernel
theorem d_X_waitFor_1 : decode c_X_waitFor 1 = .ok (.invokevirtual 57, 3) := by decide +kernel
theorem d_X_waitFor_4 : decode c_X_waitFor 4 = .ok (.astore_n 2, 1) := by decide +kernel
theorem d_X_waitFor_5 : decode c_X_waitFor 5 = .ok (.aload_n 2, 1) := by decide +kernel
theorem d_X_waitFor_6 : decode c_X_waitFor 6 = .ok (.ifnonnull 4, 3) := by decide +kernel
theorem d_X_waitFor_9 : decode c_X_waitFor 9 = .ok (.return_, 1) := by decide +kernel
theorem d_X_waitFor_10 : decode c_X_waitFor 10 = .ok (.aload_n 1, 1) := by decide +kernel
theorem d_X_waitFor_11 : decode c_X_waitFor 11 = .ok (.getfield 123, 3) := by decide +kernel
theorem d_X_waitFor_14 : decode c_X_waitFor 14 = .ok (.ifCond .le 14, 3) := by decide +kernel
theorem d_X_waitFor_17 : decode c_X_waitFor 17 = .ok (.aload_n 1, 1) := by decide +kernel
theorem d_X_waitFor_18 : decode c_X_waitFor 18 = .ok (.dup, 1) := by decide +kernel
theorem d_X_waitFor_19 : decode c_X_waitFor 19 = .ok (.getfield 123, 3) := by decide +kernel
theorem d_X_waitFor_22 : decode c_X_waitFor 22 = .ok (.iconst 1, 1) := by decide +kernel
theorem d_X_waitFor_23 : decode c_X_waitFor 23 = .ok (.isub, 1) := by decide +kernel
theorem d_X_waitFor_24 : decode c_X_waitFor 24 = .ok (.putfield 123, 3) := by decide +kernel
theorem d_X_waitFor_27 : decode c_X_waitFor 27 = .ok (.return_, 1) := by decide +kernel
theorem d_X_waitFor_28 : decode c_X_waitFor 28 = .ok (.aload_n 1, 1) := by decide +kernel
theorem d_X_waitFor_29 : decode c_X_waitFor 29 = .ok (.getfield 119, 3) := by decide +kernel
theorem d_X_waitFor_32 : decode c_X_waitFor 32 = .ok (.aload_n 2, 1) := by decide +kernel
theorem d_X_waitFor_33 : decode c_X_waitFor 33 = .ok (.invokevirtual 146, 3) := by decide +kernel
theorem d_X_waitFor_36 : decode c_X_waitFor 36 = .ok (.aload_n 0, 1) := by decide +kernel
theorem d_X_waitFor_37 : decode c_X_waitFor 37 = .ok (.invokevirtual 65, 3) := by decide +kernel
theorem d_X_waitFor_40 : decode c_X_waitFor 40 = .ok (.return_, 1) := by decide +kernel
theorem d_X_giveWay_0 : decode c_X_giveWay 0 = .ok (.aload_n 0, 1) := by decide +kernel
theorem d_X_giveWay_1 : decode c_X_giveWay 1 = .ok (.invokevirtual 57, 3) := by decide +kernel
theorem d_X_giveWay_4 : decode c_X_giveWay 4 = .ok (.astore_n 1, 1) := by decide +kernel
theorem d_X_giveWay_5 : decode c_X_giveWay 5 = .ok (.aload_n 1, 1) := by decide +kernel
theorem d_X_giveWay_6 : decode c_X_giveWay 6 = .ok (.ifnull 13, 3) := by decide +kernel
theorem d_X_giveWay_9 : decode c_X_giveWay 9 = .ok (.aload_n 1, 1) := by decide +kernel
theorem d_X_giveWay_10 : decode c_X_giveWay 10 = .ok (.getfield 143, 3) := by decide +kernel
theorem d_X_giveWay_13 : decode c_X_giveWay 13 = .ok (.invokevirtual 155, 3) := by decide +kernel
theorem d_X_giveWay_16 : decode c_X_giveWay 16 = .ok (.ifCond .eq 4, 3) := by decide +kernel
theorem d_X_giveWay_19 : decode c_X_giveWay 19 = .ok (.return_, 1) := by decide +kernel
theorem d_X_giveWay_20 : decode c_X_giveWay 20 = .ok (.aload_n 1, 1) := by decide +kernel
theorem d_X_giveWay_21 : decode c_X_giveWay 21 = .ok (.getfield 143, 3) := by decide +kernel
theorem d_X_giveWay_24 : decode c_X_giveWay 24 = .ok (.aload_n 1, 1) := by decide +kernel
theorem d_X_giveWay_25 : decode c_X_giveWay 25 = .ok (.invokevirtual 146, 3) := by decide +kernel
theorem d_X_giveWay_28 : decode c_X_giveWay 28 = .ok (.aload_n 0, 1) := by decide +kernel
theorem d_X_giveWay_29 : decode c_X_giveWay 29 = .ok (.invokevirtual 65, 3) := by decide +kernel
theorem d_X_giveWay_32 : decode c_X_giveWay 32 = .ok (.return_, 1) := by decide +kernel
theorem d_X_setAlarm_0 : decode c_X_setAlarm 0 = .ok (.aload_n 0, 1) := by decide +kernel
theorem d_X_setAlarm_1 : decode c_X_setAlarm 1 = .ok (.aload_n 1, 1) := by decide +kernel
theorem d_X_setAlarm_2 : decode c_X_setAlarm 2 = .ok (.putfield 83, 3) := by decide +kernel
theorem d_X_setAlarm_5 : decode c_X_setAlarm 5 = .ok (.aload_n 0, 1) := by decide +kernel
theorem d_X_setAlarm_6 : decode c_X_setAlarm 6 = .ok (.iload_n 2, 1) := by decide +kernel
theorem d_X_setAlarm_7 : decode c_X_setAlarm 7 = .ok (.putfield 130, 3) := by decide +kernel
theorem d_X_setAlarm_10 : decode c_X_setAlarm 10 = .ok (.return_, 1) := by decide +kernel
theorem d_X_doCode_0 : decode c_X_doCode 0 = .ok (.aload_n 1, 1) := by decide +kernel
theorem d_X_doCode_1 : decode c_X_doCode 1 = .ok (.invokevirtual 159, 3) := by decide +kernel
theorem d_X_doCode_4 : decode c_X_doCode 4 = .ok (.istore_n 2, 1) := by decide +kernel
theorem d_X_doCode_5 : decode c_X_doCode 5 = .ok (.aload_n 1, 1) := by decide +kernel
theorem d_X_doCode_6 : decode c_X_doCode 6 = .ok (.dup, 1) := by decide +kernel
theorem d_X_doCode_7 : decode c_X_doCode 7 = .ok (.getfield 113, 3) := by decide +kernel
theorem d_X_doCode_10 : decode c_X_doCode 10 = .ok (.iconst 1, 1) := by decide +kernel
theorem d_X_doCode_11 : decode c_X_doCode 11 = .ok (.iadd, 1) := by decide +kernel
theorem d_X_doCode_12 : decode c_X_doCode 12 = .ok (.putfield 113, 3) := by decide +kernel
theorem d_X_doCode_15 : decode c_X_doCode 15 = .ok (.aload_n 0, 1) := by decide +kernel
theorem d_X_doCode_16 : decode c_X_doCode 16 = .ok (.iload_n 2, 1) := by decide +kernel
theorem d_X_doCode_17 : decode c_X_doCode 17 = .ok (.invokevirtual 163, 3) := by decide +kernel
theorem d_X_doCode_20 : decode c_X_doCode 20 = .ok (.aload_n 0, 1) := by decide +kernel
theorem d_X_doCode_21 : decode c_X_doCode 21 = .ok (.dup, 1) := by decide +kernel
theorem d_X_doCode_22 : decode c_X_doCode 22 = .ok (.getfield 109, 3) := by decide +kernel
theorem d_X_doCode_25 : decode c_X_doCode 25 = .ok (.lconst 1, 1) := by decide +kernel
theorem d_X_doCode_26 : decode c_X_doCode 26 = .ok (.ladd, 1) := by decide +kernel
theorem d_X_doCode_27 : decode c_X_doCode 27 = .ok (.putfield 109, 3) := by decide +kernel
theorem d_X_doCode_30 : decode c_X_doCode 30 = .ok (.aload_n 0, 1) := by decide +kernel
theorem d_X_doCode_31 : decode c_X_doCode 31 = .ok (.getfield 109, 3) := by decide +kernel
theorem d_X_doCode_34 : decode c_X_doCode 34 = .ok (.ldc2_w 166, 3) := by decide +kernel
theorem d_X_doCode_37 : decode c_X_doCode 37 = .ok (.lrem, 1) := by decide +kernel
theorem d_X_doCode_38 : decode c_X_doCode 38 = .ok (.lconst 0, 1) := by decide +kernel
theorem d_X_doCode_39 : decode c_X_doCode 39 = .ok (.lcmp, 1) := by decide +kernel
theorem d_X_doCode_40 : decode c_X_doCode 40 = .ok (.ifCond .ne 13, 3) := by decide +kernel
theorem d_X_doCode_43 : decode c_X_doCode 43 = .ok (.aload_n 0, 1) := by decide +kernel
theorem d_X_doCode_44 : decode c_X_doCode 44 = .ok (.dup, 1) := by decide +kernel
theorem d_X_doCode_45 : decode c_X_doCode 45 = .ok (.getfield 106, 3) := by decide +kernel
theorem d_X_doCode_48 : decode c_X_doCode 48 = .ok (.iconst 1, 1) := by decide +kernel
theorem d_X_doCode_49 : decode c_X_doCode 49 = .ok (.iadd, 1) := by decide +kernel
theorem d_X_doCode_50 : decode c_X_doCode 50 = .ok (.putfield 106, 3) := by decide +kernel
theorem d_X_doCode_53 : decode c_X_doCode 53 = .ok (.return_, 1) := by decide +kernel
theorem d_X_doAct_0 : decode c_X_doAct 0 = .ok (.iload_n 1, 1) := by decide +kernel
theorem d_X_doAct_1 : decode c_X_doAct 1 = .ok (.bipush 16, 2) := by decide +kernel
theorem d_X_doAct_3 : decode c_X_doAct 3 = .ok (.isub, 1) := by decide +kernel
theorem d_X_doAct_4 : decode c_X_doAct 4 = .ok (.invokestatic 71, 3) := by decide +kernel
theorem d_X_doAct_7 : decode c_X_doAct 7 = .ok (.ifCond .eq 19, 3) := by decide +kernel
theorem d_X_doAct_10 : decode c_X_doAct 10 = .ok (.aload_n 0, 1) := by decide +kernel
theorem d_X_doAct_11 : decode c_X_doAct 11 = .ok (.aload_n 0, 1) := by decide +kernel
theorem d_X_doAct_12 : decode c_X_doAct 12 = .ok (.getfield 23, 3) := by decide +kernel
theorem d_X_doAct_15 : decode c_X_doAct 15 = .ok (.iload_n 1, 1) := by decide +kernel
theorem d_X_doAct_16 : decode c_X_doAct 16 = .ok (.bipush 16, 2) := by decide +kernel
theorem d_X_doAct_18 : decode c_X_doAct 18 = .ok (.isub, 1) := by decide +kernel
theorem d_X_doAct_19 : decode c_X_doAct 19 = .ok (.aaload, 1) := by decide +kernel
theorem d_X_doAct_20 : decode c_X_doAct 20 = .ok (.invokevirtual 168, 3) := by decide +kernel
theorem d_X_doAct_23 : decode c_X_doAct 23 = .ok (.goto 127, 3) := by decide +kernel
theorem d_X_doAct_26 : decode c_X_doAct 26 = .ok (.iload_n 1, 1) := by decide +kernel
theorem d_X_doAct_27 : decode c_X_doAct 27 = .ok (.bipush 32, 2) := by decide +kernel
theorem d_X_doAct_29 : decode c_X_doAct 29 = .ok (.isub, 1) := by decide +kernel
theorem d_X_doAct_30 : decode c_X_doAct 30 = .ok (.invokestatic 71, 3) := by decide +kernel
theorem d_X_doAct_33 : decode c_X_doAct 33 = .ok (.ifCond .eq 19, 3) := by decide +kernel
theorem d_X_doAct_36 : decode c_X_doAct 36 = .ok (.aload_n 0, 1) := by decide +kernel
theorem d_X_doAct_37 : decode c_X_doAct 37 = .ok (.aload_n 0, 1) := by decide +kernel
theorem d_X_doAct_38 : decode c_X_doAct 38 = .ok (.getfield 23, 3) := by decide +kernel
theorem d_X_doAct_41 : decode c_X_doAct 41 = .ok (.iload_n 1, 1) := by decide +kernel
theorem d_X_doAct_42 : decode c_X_doAct 42 = .ok (.bipush 32, 2) := by decide +kernel
theorem d_X_doAct_44 : decode c_X_doAct 44 = .ok (.isub, 1) := by decide +kernel
theorem d_X_doAct_45 : decode c_X_doAct 45 = .ok (.aaload, 1) := by decide +kernel
theorem d_X_doAct_46 : decode c_X_doAct 46 = .ok (.invokevirtual 75, 3) := by decide +kernel
theorem d_X_doAct_49 : decode c_X_doAct 49 = .ok (.goto 101, 3) := by decide +kernel
theorem d_X_doAct_52 : decode c_X_doAct 52 = .ok (.iload_n 1, 1) := by decide +kernel
theorem d_X_doAct_53 : decode c_X_doAct 53 = .ok (.bipush 48, 2) := by decide +kernel
theorem d_X_doAct_55 : decode c_X_doAct 55 = .ok (.if_icmp .ne 10, 3) := by decide +kernel
theorem d_X_doAct_58 : decode c_X_doAct 58 = .ok (.aload_n 0, 1) := by decide +kernel
theorem d_X_doAct_59 : decode c_X_doAct 59 = .ok (.invokevirtual 171, 3) := by decide +kernel
theorem d_X_doAct_62 : decode c_X_doAct 62 = .ok (.goto 88, 3) := by decide +kernel
theorem d_X_doAct_65 : decode c_X_doAct 65 = .ok (.iload_n 1, 1) := by decide +kernel
theorem d_X_doAct_66 : decode c_X_doAct 66 = .ok (.bipush 49, 2) := by decide +kernel
theorem d_X_doAct_68 : decode c_X_doAct 68 = .ok (.if_icmp .ne 13, 3) := by decide +kernel
theorem d_X_doAct_71 : decode c_X_doAct 71 = .ok (.aload_n 0, 1) := by decide +kernel
theorem d_X_doAct_72 : decode c_X_doAct 72 = .ok (.getfield 30, 3) := by decide +kernel
theorem d_X_doAct_75 : decode c_X_doAct 75 = .ok (.invokevirtual 174, 3) := by decide +kernel
theorem d_X_doAct_78 : decode c_X_doAct 78 = .ok (.goto 72, 3) := by decide +kernel
theorem d_X_doAct_81 : decode c_X_doAct 81 = .ok (.iload_n 1, 1) := by decide +kernel
theorem d_X_doAct_82 : decode c_X_doAct 82 = .ok (.bipush 50, 2) := by decide +kernel
theorem d_X_doAct_84 : decode c_X_doAct 84 = .ok (.if_icmp .ne 11, 3) := by decide +kernel
theorem d_X_doAct_87 : decode c_X_doAct 87 = .ok (.aload_n 0, 1) := by decide +kernel
theorem d_X_doAct_88 : decode c_X_doAct 88 = .ok (.aconst_null, 1) := by decide +kernel
theorem d_X_doAct_89 : decode c_X_doAct 89 = .ok (.putfield 79, 3) := by decide +kernel
theorem d_X_doAct_92 : decode c_X_doAct 92 = .ok (.goto 58, 3) := by decide +kernel
theorem d_X_doAct_95 : decode c_X_doAct 95 = .ok (.iload_n 1, 1) := by decide +kernel
theorem d_X_doAct_96 : decode c_X_doAct 96 = .ok (.bipush 64, 2) := by decide +kernel
theorem d_X_doAct_98 : decode c_X_doAct 98 = .ok (.isub, 1) := by decide +kernel
theorem d_X_doAct_99 : decode c_X_doAct 99 = .ok (.invokestatic 71, 3) := by decide +kernel
theorem d_X_doAct_102 : decode c_X_doAct 102 = .ok (.ifCond .eq 25, 3) := by decide +kernel
theorem d_X_doAct_105 : decode c_X_doAct 105 = .ok (.aload_n 0, 1) := by decide +kernel
theorem d_X_doAct_106 : decode c_X_doAct 106 = .ok (.aload_n 0, 1) := by decide +kernel
theorem d_X_doAct_107 : decode c_X_doAct 107 = .ok (.getfield 23, 3) := by decide +kernel
theorem d_X_doAct_110 : decode c_X_doAct 110 = .ok (.iload_n 1, 1) := by decide +kernel
theorem d_X_doAct_111 : decode c_X_doAct 111 = .ok (.bipush 64, 2) := by decide +kernel
theorem d_X_doAct_113 : decode c_X_doAct 113 = .ok (.isub, 1) := by decide +kernel
theorem d_X_doAct_114 : decode c_X_doAct 114 = .ok (.aaload, 1) := by decide +kernel
theorem d_X_doAct_115 : decode c_X_doAct 115 = .ok (.aload_n 0, 1) := by decide +kernel
theorem d_X_doAct_116 : decode c_X_doAct 116 = .ok (.getfield 106, 3) := by decide +kernel
theorem d_X_doAct_119 : decode c_X_doAct 119 = .ok (.iconst 3, 1) := by decide +kernel
theorem d_X_doAct_120 : decode c_X_doAct 120 = .ok (.iadd, 1) := by decide +kernel
theorem d_X_doAct_121 : decode c_X_doAct 121 = .ok (.invokevirtual 87, 3) := by decide +kernel
theorem d_X_doAct_124 : decode c_X_doAct 124 = .ok (.goto 26, 3) := by decide +kernel
theorem d_X_doAct_127 : decode c_X_doAct 127 = .ok (.iload_n 1, 1) := by decide +kernel
theorem d_X_doAct_128 : decode c_X_doAct 128 = .ok (.bipush 80, 2) := by decide +kernel
theorem d_X_doAct_130 : decode c_X_doAct 130 = .ok (.isub, 1) := by decide +kernel
theorem d_X_doAct_131 : decode c_X_doAct 131 = .ok (.invokestatic 71, 3) := by decide +kernel
theorem d_X_doAct_134 : decode c_X_doAct 134 = .ok (.ifCond .eq 16, 3) := by decide +kernel
theorem d_X_doAct_137 : decode c_X_doAct 137 = .ok (.aload_n 0, 1) := by decide +kernel
theorem d_X_doAct_138 : decode c_X_doAct 138 = .ok (.aload_n 0, 1) := by decide +kernel
theorem d_X_doAct_139 : decode c_X_doAct 139 = .ok (.getfield 23, 3) := by decide +kernel
theorem d_X_doAct_142 : decode c_X_doAct 142 = .ok (.iload_n 1, 1) := by decide +kernel
theorem d_X_doAct_143 : decode c_X_doAct 143 = .ok (.bipush 80, 2) := by decide +kernel
theorem d_X_doAct_145 : decode c_X_doAct 145 = .ok (.isub, 1) := by decide +kernel
theorem d_X_doAct_146 : decode c_X_doAct 146 = .ok (.aaload, 1) := by decide +kernel
theorem d_X_doAct_147 : decode c_X_doAct 147 = .ok (.putfield 79, 3) := by decide +kernel
theorem d_X_doAct_150 : decode c_X_doAct 150 = .ok (.return_, 1) := by decide +kernel
theorem d_X_doBehind_0 : decode c_X_doBehind 0 = .ok (.aload_n 0, 1) := by decide +kernel
theorem d_X_doBehind_1 : decode c_X_doBehind 1 = .ok (.invokevirtual 177, 3) := by decide +kernel
theorem d_X_doBehind_4 : decode c_X_doBehind 4 = .ok (.aload_n 0, 1) := by decide +kernel
theorem d_X_doBehind_5 : decode c_X_doBehind 5 = .ok (.getfield 53, 3) := by decide +kernel
theorem d_X_doBehind_8 : decode c_X_doBehind 8 = .ok (.ifnonnull 22, 3) := by decide +kernel
theorem d_X_doBehind_11 : decode c_X_doBehind 11 = .ok (.aload_n 0, 1) := by decide +kernel
theorem d_X_doBehind_12 : decode c_X_doBehind 12 = .ok (.getfield 83, 3) := by decide +kernel
theorem d_X_doBehind_15 : decode c_X_doBehind 15 = .ok (.ifnull 15, 3) := by decide +kernel
theorem d_X_doBehind_18 : decode c_X_doBehind 18 = .ok (.aload_n 0, 1) := by decide +kernel
theorem d_X_doBehind_19 : decode c_X_doBehind 19 = .ok (.aload_n 0, 1) := by decide +kernel
theorem d_X_doBehind_20 : decode c_X_doBehind 20 = .ok (.getfield 130, 3) := by decide +kernel
theorem d_X_doBehind_23 : decode c_X_doBehind 23 = .ok (.putfield 106, 3) := by decide +kernel
theorem d_X_doBehind_26 : decode c_X_doBehind 26 = .ok (.aload_n 0, 1) := by decide +kernel
theorem d_X_doBehind_27 : decode c_X_doBehind 27 = .ok (.invokevirtual 177, 3) := by decide +kernel
theorem d_X_doBehind_30 : decode c_X_doBehind 30 = .ok (.return_, 1) := by decide +kernel
theorem d_X_settle_0 : decode c_X_settle 0 = .ok (.aload_n 0, 1) := by decide +kernel
theorem d_X_settle_1 : decode c_X_settle 1 = .ok (.invokevirtual 180, 3) := by decide +kernel
theorem d_X_settle_4 : decode c_X_settle 4 = .ok (.aload_n 0, 1) := by decide +kernel
theorem d_X_settle_5 : decode c_X_settle 5 = .ok (.invokevirtual 183, 3) := by decide +kernel
theorem d_X_settle_8 : decode c_X_settle 8 = .ok (.aload_n 0, 1) := by decide +kernel
theorem d_X_settle_9 : decode c_X_settle 9 = .ok (.getfield 133, 3) := by decide +kernel
theorem d_X_settle_12 : decode c_X_settle 12 = .ok (.ifCond .eq 21, 3) := by decide +kernel
theorem d_X_settle_15 : decode c_X_settle 15 = .ok (.aload_n 0, 1) := by decide +kernel
theorem d_X_settle_16 : decode c_X_settle 16 = .ok (.aload_n 0, 1) := by decide +kernel
theorem d_X_settle_17 : decode c_X_settle 17 = .ok (.getfield 137, 3) := by decide +kernel
theorem d_X_settle_20 : decode c_X_settle 20 = .ok (.putfield 53, 3) := by decide +kernel
theorem d_X_settle_23 : decode c_X_settle 23 = .ok (.aload_n 0, 1) := by decide +kernel
theorem d_X_settle_24 : decode c_X_settle 24 = .ok (.iconst 0, 1) := by decide +kernel
theorem d_X_settle_25 : decode c_X_settle 25 = .ok (.putfield 133, 3) := by decide +kernel
theorem d_X_settle_28 : decode c_X_settle 28 = .ok (.aload_n 0, 1) := by decide +kernel
theorem d_X_settle_29 : decode c_X_settle 29 = .ok (.aconst_null, 1) := by decide +kernel
theorem d_X_settle_30 : decode c_X_settle 30 = .ok (.putfield 137, 3) := by decide +kernel
theorem d_X_settle_33 : decode c_X_settle 33 = .ok (.return_, 1) := by decide +kernel
theorem d_X_signalNewWords_0 : decode c_X_signalNewWords 0 = .ok (.aload_n 0, 1) := by decide +kernel
theorem d_X_signalNewWords_1 : decode c_X_signalNewWords 1 = .ok (.getfield 30, 3) := by decide +kernel
theorem d_X_signalNewWords_4 : decode c_X_signalNewWords 4 = .ok (.invokevirtual 186, 3) := by decide +kernel
theorem d_X_signalNewWords_7 : decode c_X_signalNewWords 7 = .ok (.istore_n 1, 1) := by decide +kernel
theorem d_X_signalNewWords_8 : decode c_X_signalNewWords 8 = .ok (.aload_n 0, 1) := by decide +kernel
theorem d_X_signalNewWords_9 : decode c_X_signalNewWords 9 = .ok (.getfield 79, 3) := by decide +kernel
theorem d_X_signalNewWords_12 : decode c_X_signalNewWords 12 = .ok (.ifnonnull 4, 3) := by decide +kernel
theorem d_X_signalNewWords_15 : decode c_X_signalNewWords 15 = .ok (.return_, 1) := by decide +kernel
theorem d_X_signalNewWords_16 : decode c_X_signalNewWords 16 = .ok (.iconst 0, 1) := by decide +kernel
theorem d_X_signalNewWords_17 : decode c_X_signalNewWords 17 = .ok (.istore_n 2, 1) := by decide +kernel
theorem d_X_signalNewWords_18 : decode c_X_signalNewWords 18 = .ok (.iload_n 2, 1) := by decide +kernel
theorem d_X_signalNewWords_19 : decode c_X_signalNewWords 19 = .ok (.iload_n 1, 1) := by decide +kernel
theorem d_X_signalNewWords_20 : decode c_X_signalNewWords 20 = .ok (.if_icmp .ge 17, 3) := by decide +kernel
theorem d_X_signalNewWords_23 : decode c_X_signalNewWords 23 = .ok (.aload_n 0, 1) := by decide +kernel
theorem d_X_signalNewWords_24 : decode c_X_signalNewWords 24 = .ok (.aload_n 0, 1) := by decide +kernel
theorem d_X_signalNewWords_25 : decode c_X_signalNewWords 25 = .ok (.getfield 79, 3) := by decide +kernel
theorem d_X_signalNewWords_28 : decode c_X_signalNewWords 28 = .ok (.invokevirtual 75, 3) := by decide +kernel
theorem d_X_signalNewWords_31 : decode c_X_signalNewWords 31 = .ok (.iinc 2 1, 3) := by decide +kernel
theorem d_X_signalNewWords_34 : decode c_X_signalNewWords 34 = .ok (.goto (-16), 3) := by decide +kernel
theorem d_X_signalNewWords_37 : decode c_X_signalNewWords 37 = .ok (.return_, 1) := by decide +kernel
theorem d_X_signalDueAlarm_0 : decode c_X_signalDueAlarm 0 = .ok (.aload_n 0, 1) := by decide +kernel
theorem d_X_signalDueAlarm_1 : decode c_X_signalDueAlarm 1 = .ok (.getfield 83, 3) := by decide +kernel
theorem d_X_signalDueAlarm_4 : decode c_X_signalDueAlarm 4 = .ok (.ifnull 14, 3) := by decide +kernel
theorem d_X_signalDueAlarm_7 : decode c_X_signalDueAlarm 7 = .ok (.aload_n 0, 1) := by decide +kernel
theorem d_X_signalDueAlarm_8 : decode c_X_signalDueAlarm 8 = .ok (.getfield 106, 3) := by decide +kernel
theorem d_X_signalDueAlarm_11 : decode c_X_signalDueAlarm 11 = .ok (.aload_n 0, 1) := by decide +kernel
theorem d_X_signalDueAlarm_12 : decode c_X_signalDueAlarm 12 = .ok (.getfield 130, 3) := by decide +kernel
theorem d_X_signalDueAlarm_15 : decode c_X_signalDueAlarm 15 = .ok (.if_icmp .ge 4, 3) := by decide +kernel
theorem d_X_signalDueAlarm_18 : decode c_X_signalDueAlarm 18 = .ok (.return_, 1) := by decide +kernel
theorem d_X_signalDueAlarm_19 : decode c_X_signalDueAlarm 19 = .ok (.aload_n 0, 1) := by decide +kernel
theorem d_X_signalDueAlarm_20 : decode c_X_signalDueAlarm 20 = .ok (.getfield 83, 3) := by decide +kernel
theorem d_X_signalDueAlarm_23 : decode c_X_signalDueAlarm 23 = .ok (.astore_n 1, 1) := by decide +kernel
theorem d_X_signalDueAlarm_24 : decode c_X_signalDueAlarm 24 = .ok (.aload_n 0, 1) := by decide +kernel
theorem d_X_signalDueAlarm_25 : decode c_X_signalDueAlarm 25 = .ok (.aconst_null, 1) := by decide +kernel
theorem d_X_signalDueAlarm_26 : decode c_X_signalDueAlarm 26 = .ok (.putfield 83, 3) := by decide +kernel
theorem d_X_signalDueAlarm_29 : decode c_X_signalDueAlarm 29 = .ok (.aload_n 0, 1) := by decide +kernel
theorem d_X_signalDueAlarm_30 : decode c_X_signalDueAlarm 30 = .ok (.aload_n 1, 1) := by decide +kernel
theorem d_X_signalDueAlarm_31 : decode c_X_signalDueAlarm 31 = .ok (.invokevirtual 75, 3) := by decide +kernel
theorem d_X_signalDueAlarm_34 : decode c_X_signalDueAlarm 34 = .ok (.return_, 1) := by decide +kernel
theorem d_P_init_0 : decode c_P_init 0 = .ok (.aload_n 0, 1) := by decide +kernel
theorem d_P_init_1 : decode c_P_init 1 = .ok (.invokespecial 3, 3) := by decide +kernel
theorem d_P_init_4 : decode c_P_init 4 = .ok (.aload_n 0, 1) := by decide +kernel
theorem d_P_init_5 : decode c_P_init 5 = .ok (.bipush 8, 2) := by decide +kernel
theorem d_P_init_7 : decode c_P_init 7 = .ok (.newarray .int, 2) := by decide +kernel
theorem d_P_init_9 : decode c_P_init 9 = .ok (.putfield 9, 3) := by decide +kernel
theorem d_P_init_12 : decode c_P_init 12 = .ok (.aload_n 0, 1) := by decide +kernel
theorem d_P_init_13 : decode c_P_init 13 = .ok (.iconst 0, 1) := by decide +kernel
theorem d_P_init_14 : decode c_P_init 14 = .ok (.putfield 15, 3) := by decide +kernel
theorem d_P_init_17 : decode c_P_init 17 = .ok (.aload_n 0, 1) := by decide +kernel
theorem d_P_init_18 : decode c_P_init 18 = .ok (.iload_n 1, 1) := by decide +kernel
theorem d_P_init_19 : decode c_P_init 19 = .ok (.putfield 19, 3) := by decide +kernel
theorem d_P_init_22 : decode c_P_init 22 = .ok (.aload_n 0, 1) := by decide +kernel
theorem d_P_init_23 : decode c_P_init 23 = .ok (.iload_n 2, 1) := by decide +kernel
theorem d_P_init_24 : decode c_P_init 24 = .ok (.putfield 22, 3) := by decide +kernel
theorem d_P_init_27 : decode c_P_init 27 = .ok (.aload_n 0, 1) := by decide +kernel
theorem d_P_init_28 : decode c_P_init 28 = .ok (.aload_n 3, 1) := by decide +kernel
theorem d_P_init_29 : decode c_P_init 29 = .ok (.putfield 25, 3) := by decide +kernel
theorem d_P_init_32 : decode c_P_init 32 = .ok (.return_, 1) := by decide +kernel
theorem d_P_nextAct_0 : decode c_P_nextAct 0 = .ok (.aload_n 0, 1) := by decide +kernel
theorem d_P_nextAct_1 : decode c_P_nextAct 1 = .ok (.getfield 9, 3) := by decide +kernel
theorem d_P_nextAct_4 : decode c_P_nextAct 4 = .ok (.aload_n 0, 1) := by decide +kernel
theorem d_P_nextAct_5 : decode c_P_nextAct 5 = .ok (.getfield 29, 3) := by decide +kernel
theorem d_P_nextAct_8 : decode c_P_nextAct 8 = .ok (.bipush 8, 2) := by decide +kernel
theorem d_P_nextAct_10 : decode c_P_nextAct 10 = .ok (.invokestatic 32, 3) := by decide +kernel
theorem d_P_nextAct_13 : decode c_P_nextAct 13 = .ok (.iaload, 1) := by decide +kernel
theorem d_P_nextAct_14 : decode c_P_nextAct 14 = .ok (.ireturn, 1) := by decide +kernel
theorem d_R_init_0 : decode c_R_init 0 = .ok (.aload_n 0, 1) := by decide +kernel
theorem d_R_init_1 : decode c_R_init 1 = .ok (.invokespecial 3, 3) := by decide +kernel
theorem d_R_init_4 : decode c_R_init 4 = .ok (.aload_n 0, 1) := by decide +kernel
theorem d_R_init_5 : decode c_R_init 5 = .ok (.iload_n 1, 1) := by decide +kernel
theorem d_R_init_6 : decode c_R_init 6 = .ok (.putfield 9, 3) := by decide +kernel
theorem d_R_init_9 : decode c_R_init 9 = .ok (.return_, 1) := by decide +kernel
theorem d_R_isEmpty_0 : decode c_R_isEmpty 0 = .ok (.aload_n 0, 1) := by decide +kernel
theorem d_R_isEmpty_1 : decode c_R_isEmpty 1 = .ok (.getfield 15, 3) := by decide +kernel
theorem d_R_isEmpty_4 : decode c_R_isEmpty 4 = .ok (.ifnonnull 7, 3) := by decide +kernel
theorem d_R_isEmpty_7 : decode c_R_isEmpty 7 = .ok (.iconst 1, 1) := by decide +kernel
theorem d_R_isEmpty_8 : decode c_R_isEmpty 8 = .ok (.goto 4, 3) := by decide +kernel
theorem d_R_isEmpty_11 : decode c_R_isEmpty 11 = .ok (.iconst 0, 1) := by decide +kernel
theorem d_R_isEmpty_12 : decode c_R_isEmpty 12 = .ok (.ireturn, 1) := by decide +kernel
theorem d_R_append_0 : decode c_R_append 0 = .ok (.aload_n 1, 1) := by decide +kernel
theorem d_R_append_1 : decode c_R_append 1 = .ok (.aload_n 0, 1) := by decide +kernel
theorem d_R_append_2 : decode c_R_append 2 = .ok (.getfield 9, 3) := by decide +kernel
theorem d_R_append_5 : decode c_R_append 5 = .ok (.putfield 19, 3) := by decide +kernel
theorem d_R_append_8 : decode c_R_append 8 = .ok (.aload_n 0, 1) := by decide +kernel
theorem d_R_append_9 : decode c_R_append 9 = .ok (.getfield 22, 3) := by decide +kernel
theorem d_R_append_12 : decode c_R_append 12 = .ok (.ifnonnull 11, 3) := by decide +kernel
theorem d_R_append_15 : decode c_R_append 15 = .ok (.aload_n 0, 1) := by decide +kernel
theorem d_R_append_16 : decode c_R_append 16 = .ok (.aload_n 1, 1) := by decide +kernel
theorem d_R_append_17 : decode c_R_append 17 = .ok (.putfield 15, 3) := by decide +kernel
theorem d_R_append_20 : decode c_R_append 20 = .ok (.goto 11, 3) := by decide +kernel
theorem d_R_append_23 : decode c_R_append 23 = .ok (.aload_n 0, 1) := by decide +kernel
theorem d_R_append_24 : decode c_R_append 24 = .ok (.getfield 22, 3) := by decide +kernel
theorem d_R_append_27 : decode c_R_append 27 = .ok (.aload_n 1, 1) := by decide +kernel
theorem d_R_append_28 : decode c_R_append 28 = .ok (.putfield 25, 3) := by decide +kernel
theorem d_R_append_31 : decode c_R_append 31 = .ok (.aload_n 0, 1) := by decide +kernel
theorem d_R_append_32 : decode c_R_append 32 = .ok (.aload_n 1, 1) := by decide +kernel
theorem d_R_append_33 : decode c_R_append 33 = .ok (.putfield 22, 3) := by decide +kernel
theorem d_R_append_36 : decode c_R_append 36 = .ok (.return_, 1) := by decide +kernel
theorem d_R_takeFirst_0 : decode c_R_takeFirst 0 = .ok (.aload_n 0, 1) := by decide +kernel
theorem d_R_takeFirst_1 : decode c_R_takeFirst 1 = .ok (.getfield 15, 3) := by decide +kernel
theorem d_R_takeFirst_4 : decode c_R_takeFirst 4 = .ok (.astore_n 1, 1) := by decide +kernel
theorem d_R_takeFirst_5 : decode c_R_takeFirst 5 = .ok (.aload_n 1, 1) := by decide +kernel
theorem d_R_takeFirst_6 : decode c_R_takeFirst 6 = .ok (.ifnonnull 5, 3) := by decide +kernel
theorem d_R_takeFirst_9 : decode c_R_takeFirst 9 = .ok (.aconst_null, 1) := by decide +kernel
theorem d_R_takeFirst_10 : decode c_R_takeFirst 10 = .ok (.areturn, 1) := by decide +kernel
theorem d_R_takeFirst_11 : decode c_R_takeFirst 11 = .ok (.aload_n 0, 1) := by decide +kernel
theorem d_R_takeFirst_12 : decode c_R_takeFirst 12 = .ok (.aload_n 1, 1) := by decide +kernel
theorem d_R_takeFirst_13 : decode c_R_takeFirst 13 = .ok (.getfield 25, 3) := by decide +kernel
theorem d_R_takeFirst_16 : decode c_R_takeFirst 16 = .ok (.putfield 15, 3) := by decide +kernel
theorem d_R_takeFirst_19 : decode c_R_takeFirst 19 = .ok (.aload_n 0, 1) := by decide +kernel
theorem d_R_takeFirst_20 : decode c_R_takeFirst 20 = .ok (.getfield 15, 3) := by decide +kernel
theorem d_R_takeFirst_23 : decode c_R_takeFirst 23 = .ok (.ifnonnull 8, 3) := by decide +kernel
theorem d_R_takeFirst_26 : decode c_R_takeFirst 26 = .ok (.aload_n 0, 1) := by decide +kernel
theorem d_R_takeFirst_27 : decode c_R_takeFirst 27 = .ok (.aconst_null, 1) := by decide +kernel
theorem d_R_takeFirst_28 : decode c_R_takeFirst 28 = .ok (.putfield 22, 3) := by decide +kernel
theorem d_R_takeFirst_31 : decode c_R_takeFirst 31 = .ok (.aload_n 1, 1) := by decide +kernel
theorem d_R_takeFirst_32 : decode c_R_takeFirst 32 = .ok (.aconst_null, 1) := by decide +kernel
theorem d_R_takeFirst_33 : decode c_R_takeFirst 33 = .ok (.putfield 25, 3) := by decide +kernel
theorem d_R_takeFirst_36 : decode c_R_takeFirst 36 = .ok (.aload_n 1, 1) := by decide +kernel
theorem d_R_takeFirst_37 : decode c_R_takeFirst 37 = .ok (.iconst 0, 1) := by decide +kernel
theorem d_R_takeFirst_38 : decode c_R_takeFirst 38 = .ok (.putfield 19, 3) := by decide +kernel
theorem d_R_takeFirst_41 : decode c_R_takeFirst 41 = .ok (.aload_n 1, 1) := by decide +kernel
theorem d_R_takeFirst_42 : decode c_R_takeFirst 42 = .ok (.areturn, 1) := by decide +kernel
theorem d_R_processAt_0 : decode c_R_processAt 0 = .ok (.iload_n 1, 1) := by decide +kernel
theorem d_R_processAt_1 : decode c_R_processAt 1 = .ok (.ifCond .ge 5, 3) := by decide +kernel
theorem d_R_processAt_4 : decode c_R_processAt 4 = .ok (.aconst_null, 1) := by decide +kernel
theorem d_R_processAt_5 : decode c_R_processAt 5 = .ok (.areturn, 1) := by decide +kernel
theorem d_R_processAt_6 : decode c_R_processAt 6 = .ok (.aload_n 0, 1) := by decide +kernel
theorem d_R_processAt_7 : decode c_R_processAt 7 = .ok (.getfield 15, 3) := by decide +kernel
theorem d_R_processAt_10 : decode c_R_processAt 10 = .ok (.astore_n 2, 1) := by decide +kernel
theorem d_R_processAt_11 : decode c_R_processAt 11 = .ok (.iconst 0, 1) := by decide +kernel
theorem d_R_processAt_12 : decode c_R_processAt 12 = .ok (.istore_n 3, 1) := by decide +kernel
theorem d_R_processAt_13 : decode c_R_processAt 13 = .ok (.iload_n 3, 1) := by decide +kernel
theorem d_R_processAt_14 : decode c_R_processAt 14 = .ok (.iload_n 1, 1) := by decide +kernel
theorem d_R_processAt_15 : decode c_R_processAt 15 = .ok (.if_icmp .ge 18, 3) := by decide +kernel
theorem d_R_processAt_18 : decode c_R_processAt 18 = .ok (.aload_n 2, 1) := by decide +kernel
theorem d_R_processAt_19 : decode c_R_processAt 19 = .ok (.ifnull 14, 3) := by decide +kernel
theorem d_R_processAt_22 : decode c_R_processAt 22 = .ok (.aload_n 2, 1) := by decide +kernel
theorem d_R_processAt_23 : decode c_R_processAt 23 = .ok (.getfield 25, 3) := by decide +kernel
theorem d_R_processAt_26 : decode c_R_processAt 26 = .ok (.astore_n 2, 1) := by decide +kernel
theorem d_R_processAt_27 : decode c_R_processAt 27 = .ok (.iinc 3 1, 3) := by decide +kernel
theorem d_R_processAt_30 : decode c_R_processAt 30 = .ok (.goto (-17), 3) := by decide +kernel
theorem d_R_processAt_33 : decode c_R_processAt 33 = .ok (.aload_n 2, 1) := by decide +kernel
theorem d_R_processAt_34 : decode c_R_processAt 34 = .ok (.areturn, 1) := by decide +kernel
theorem d_S_init_0 : decode c_S_init 0 = .ok (.aload_n 0, 1) := by decide +kernel
theorem d_S_init_1 : decode c_S_init 1 = .ok (.invokespecial 3, 3) := by decide +kernel
theorem d_S_init_4 : decode c_S_init 4 = .ok (.aload_n 0, 1) := by decide +kernel
theorem d_S_init_5 : decode c_S_init 5 = .ok (.iload_n 1, 1) := by decide +kernel
theorem d_S_init_6 : decode c_S_init 6 = .ok (.putfield 9, 3) := by decide +kernel
theorem d_S_init_9 : decode c_S_init 9 = .ok (.aload_n 0, 1) := by decide +kernel
theorem d_S_init_10 : decode c_S_init 10 = .ok (.new 15, 3) := by decide +kernel
theorem d_S_init_13 : decode c_S_init 13 = .ok (.dup, 1) := by decide +kernel
theorem d_S_init_14 : decode c_S_init 14 = .ok (.bipush 16, 2) := by decide +kernel
theorem d_S_init_16 : decode c_S_init 16 = .ok (.iload_n 1, 1) := by decide +kernel
theorem d_S_init_17 : decode c_S_init 17 = .ok (.iadd, 1) := by decide +kernel
theorem d_S_init_18 : decode c_S_init 18 = .ok (.invokespecial 17, 3) := by decide +kernel
theorem d_S_init_21 : decode c_S_init 21 = .ok (.putfield 20, 3) := by decide +kernel
theorem d_S_init_24 : decode c_S_init 24 = .ok (.return_, 1) := by decide +kernel
theorem d_W_init_0 : decode c_W_init 0 = .ok (.aload_n 0, 1) := by decide +kernel
theorem d_W_init_1 : decode c_W_init 1 = .ok (.invokespecial 3, 3) := by decide +kernel
theorem d_W_init_4 : decode c_W_init 4 = .ok (.aload_n 0, 1) := by decide +kernel
theorem d_W_init_5 : decode c_W_init 5 = .ok (.bipush 64, 2) := by decide +kernel
theorem d_W_init_7 : decode c_W_init 7 = .ok (.newarray .int, 2) := by decide +kernel
theorem d_W_init_9 : decode c_W_init 9 = .ok (.putfield 9, 3) := by decide +kernel
theorem d_W_init_12 : decode c_W_init 12 = .ok (.return_, 1) := by decide +kernel
theorem d_W_add_0 : decode c_W_add 0 = .ok (.aload_n 0, 1) := by decide +kernel
theorem d_W_add_1 : decode c_W_add 1 = .ok (.getfield 15, 3) := by decide +kernel
theorem d_W_add_4 : decode c_W_add 4 = .ok (.bipush 64, 2) := by decide +kernel
theorem d_W_add_6 : decode c_W_add 6 = .ok (.if_icmp .lt 5, 3) := by decide +kernel
theorem d_W_add_9 : decode c_W_add 9 = .ok (.iconst (-1), 1) := by decide +kernel
theorem d_W_add_10 : decode c_W_add 10 = .ok (.ireturn, 1) := by decide +kernel
theorem d_W_add_11 : decode c_W_add 11 = .ok (.aload_n 0, 1) := by decide +kernel
theorem d_W_add_12 : decode c_W_add 12 = .ok (.getfield 9, 3) := by decide +kernel
theorem d_W_add_15 : decode c_W_add 15 = .ok (.aload_n 0, 1) := by decide +kernel
theorem d_W_add_16 : decode c_W_add 16 = .ok (.aload_n 0, 1) := by decide +kernel
theorem d_W_add_17 : decode c_W_add 17 = .ok (.getfield 15, 3) := by decide +kernel
theorem d_W_add_20 : decode c_W_add 20 = .ok (.invokevirtual 19, 3) := by decide +kernel
theorem d_W_add_23 : decode c_W_add 23 = .ok (.iload_n 1, 1) := by decide +kernel
theorem d_W_add_24 : decode c_W_add 24 = .ok (.iastore, 1) := by decide +kernel
theorem d_W_add_25 : decode c_W_add 25 = .ok (.aload_n 0, 1) := by decide +kernel
theorem d_W_add_26 : decode c_W_add 26 = .ok (.dup, 1) := by decide +kernel
theorem d_W_add_27 : decode c_W_add 27 = .ok (.getfield 15, 3) := by decide +kernel
theorem d_W_add_30 : decode c_W_add 30 = .ok (.iconst 1, 1) := by decide +kernel
theorem d_W_add_31 : decode c_W_add 31 = .ok (.iadd, 1) := by decide +kernel
theorem d_W_add_32 : decode c_W_add 32 = .ok (.putfield 15, 3) := by decide +kernel
theorem d_W_add_35 : decode c_W_add 35 = .ok (.aload_n 0, 1) := by decide +kernel
theorem d_W_add_36 : decode c_W_add 36 = .ok (.dup, 1) := by decide +kernel
theorem d_W_add_37 : decode c_W_add 37 = .ok (.getfield 23, 3) := by decide +kernel
theorem d_W_add_40 : decode c_W_add 40 = .ok (.iconst 1, 1) := by decide +kernel
theorem d_W_add_41 : decode c_W_add 41 = .ok (.iadd, 1) := by decide +kernel
theorem d_W_add_42 : decode c_W_add 42 = .ok (.putfield 23, 3) := by decide +kernel
theorem d_W_add_45 : decode c_W_add 45 = .ok (.aload_n 0, 1) := by decide +kernel
theorem d_W_add_46 : decode c_W_add 46 = .ok (.getfield 15, 3) := by decide +kernel
theorem d_W_add_49 : decode c_W_add 49 = .ok (.ireturn, 1) := by decide +kernel
theorem d_W_dropFirst_0 : decode c_W_dropFirst 0 = .ok (.aload_n 0, 1) := by decide +kernel
theorem d_W_dropFirst_1 : decode c_W_dropFirst 1 = .ok (.getfield 15, 3) := by decide +kernel
theorem d_W_dropFirst_4 : decode c_W_dropFirst 4 = .ok (.ifCond .le 22, 3) := by decide +kernel
theorem d_W_dropFirst_7 : decode c_W_dropFirst 7 = .ok (.aload_n 0, 1) := by decide +kernel
theorem d_W_dropFirst_8 : decode c_W_dropFirst 8 = .ok (.aload_n 0, 1) := by decide +kernel
theorem d_W_dropFirst_9 : decode c_W_dropFirst 9 = .ok (.iconst 1, 1) := by decide +kernel
theorem d_W_dropFirst_10 : decode c_W_dropFirst 10 = .ok (.invokevirtual 19, 3) := by decide +kernel
theorem d_W_dropFirst_13 : decode c_W_dropFirst 13 = .ok (.putfield 26, 3) := by decide +kernel
theorem d_W_dropFirst_16 : decode c_W_dropFirst 16 = .ok (.aload_n 0, 1) := by decide +kernel
theorem d_W_dropFirst_17 : decode c_W_dropFirst 17 = .ok (.dup, 1) := by decide +kernel
theorem d_W_dropFirst_18 : decode c_W_dropFirst 18 = .ok (.getfield 15, 3) := by decide +kernel
theorem d_W_dropFirst_21 : decode c_W_dropFirst 21 = .ok (.iconst 1, 1) := by decide +kernel
theorem d_W_dropFirst_22 : decode c_W_dropFirst 22 = .ok (.isub, 1) := by decide +kernel
theorem d_W_dropFirst_23 : decode c_W_dropFirst 23 = .ok (.putfield 15, 3) := by decide +kernel
theorem d_W_dropFirst_26 : decode c_W_dropFirst 26 = .ok (.return_, 1) := by decide +kernel
theorem d_W_get_0 : decode c_W_get 0 = .ok (.iload_n 1, 1) := by decide +kernel
theorem d_W_get_1 : decode c_W_get 1 = .ok (.ifCond .lt 24, 3) := by decide +kernel
theorem d_W_get_4 : decode c_W_get 4 = .ok (.iload_n 1, 1) := by decide +kernel
theorem d_W_get_5 : decode c_W_get 5 = .ok (.aload_n 0, 1) := by decide +kernel
theorem d_W_get_6 : decode c_W_get 6 = .ok (.getfield 15, 3) := by decide +kernel
theorem d_W_get_9 : decode c_W_get 9 = .ok (.if_icmp .ge 16, 3) := by decide +kernel
theorem d_W_get_12 : decode c_W_get 12 = .ok (.aload_n 0, 1) := by decide +kernel
theorem d_W_get_13 : decode c_W_get 13 = .ok (.getfield 9, 3) := by decide +kernel
theorem d_W_get_16 : decode c_W_get 16 = .ok (.aload_n 0, 1) := by decide +kernel
theorem d_W_get_17 : decode c_W_get 17 = .ok (.iload_n 1, 1) := by decide +kernel
theorem d_W_get_18 : decode c_W_get 18 = .ok (.invokevirtual 19, 3) := by decide +kernel
theorem d_W_get_21 : decode c_W_get 21 = .ok (.iaload, 1) := by decide +kernel
theorem d_W_get_22 : decode c_W_get 22 = .ok (.goto 4, 3) := by decide +kernel
theorem d_W_get_25 : decode c_W_get 25 = .ok (.iconst (-1), 1) := by decide +kernel
theorem d_W_get_26 : decode c_W_get 26 = .ok (.ireturn, 1) := by decide +kernel
theorem d_W_takeUntold_0 : decode c_W_takeUntold 0 = .ok (.aload_n 0, 1) := by decide +kernel
theorem d_W_takeUntold_1 : decode c_W_takeUntold 1 = .ok (.getfield 23, 3) := by decide +kernel
theorem d_W_takeUntold_4 : decode c_W_takeUntold 4 = .ok (.istore_n 1, 1) := by decide +kernel
theorem d_W_takeUntold_5 : decode c_W_takeUntold 5 = .ok (.aload_n 0, 1) := by decide +kernel
theorem d_W_takeUntold_6 : decode c_W_takeUntold 6 = .ok (.iconst 0, 1) := by decide +kernel
theorem d_W_takeUntold_7 : decode c_W_takeUntold 7 = .ok (.putfield 23, 3) := by decide +kernel
theorem d_W_takeUntold_10 : decode c_W_takeUntold 10 = .ok (.iload_n 1, 1) := by decide +kernel
theorem d_W_takeUntold_11 : decode c_W_takeUntold 11 = .ok (.ireturn, 1) := by decide +kernel
theorem d_W_place_0 : decode c_W_place 0 = .ok (.aload_n 0, 1) := by decide +kernel
theorem d_W_place_1 : decode c_W_place 1 = .ok (.getfield 26, 3) := by decide +kernel
theorem d_W_place_4 : decode c_W_place 4 = .ok (.iload_n 1, 1) := by decide +kernel
theorem d_W_place_5 : decode c_W_place 5 = .ok (.iadd, 1) := by decide +kernel
theorem d_W_place_6 : decode c_W_place 6 = .ok (.bipush 64, 2) := by decide +kernel
theorem d_W_place_8 : decode c_W_place 8 = .ok (.invokestatic 29, 3) := by decide +kernel
theorem d_W_place_11 : decode c_W_place 11 = .ok (.ireturn, 1) := by decide +kernel
theorem d_J_floorMod_0 : decode c_J_floorMod 0 = .ok (.iload_n 0, 1) := by decide +kernel
theorem d_J_floorMod_1 : decode c_J_floorMod 1 = .ok (.iload_n 1, 1) := by decide +kernel
theorem d_J_floorMod_2 : decode c_J_floorMod 2 = .ok (.irem, 1) := by decide +kernel
theorem d_J_floorMod_3 : decode c_J_floorMod 3 = .ok (.istore_n 2, 1) := by decide +kernel
theorem d_J_floorMod_4 : decode c_J_floorMod 4 = .ok (.iload_n 0, 1) := by decide +kernel
theorem d_J_floorMod_5 : decode c_J_floorMod 5 = .ok (.iload_n 1, 1) := by decide +kernel
theorem d_J_floorMod_6 : decode c_J_floorMod 6 = .ok (.ixor, 1) := by decide +kernel
theorem d_J_floorMod_7 : decode c_J_floorMod 7 = .ok (.ifCond .ge 11, 3) := by decide +kernel
theorem d_J_floorMod_10 : decode c_J_floorMod 10 = .ok (.iload_n 2, 1) := by decide +kernel
theorem d_J_floorMod_11 : decode c_J_floorMod 11 = .ok (.ifCond .eq 7, 3) := by decide +kernel
theorem d_J_floorMod_14 : decode c_J_floorMod 14 = .ok (.iload_n 2, 1) := by decide +kernel
theorem d_J_floorMod_15 : decode c_J_floorMod 15 = .ok (.iload_n 1, 1) := by decide +kernel
theorem d_J_floorMod_16 : decode c_J_floorMod 16 = .ok (.iadd, 1) := by decide +kernel
theorem d_J_floorMod_17 : decode c_J_floorMod 17 = .ok (.ireturn, 1) := by decide +kernel
theorem d_J_floorMod_18 : decode c_J_floorMod 18 = .ok (.iload_n 2, 1) := by decide +kernel
theorem d_J_floorMod_19 : decode c_J_floorMod 19 = .ok (.ireturn, 1) := by decide +kernel
end
section
theorem d_M_init_0 : decode c_M_init 0 = .ok (.aload_n 0, 1) := by decide +kernel
theorem d_M_init_1 : decode c_M_init 1 = .ok (.invokespecial 1, 3) := by decide +kernel
theorem d_M_init_4 : decode c_M_init 4 = .ok (.aload_n 0, 1) := by decide +kernel
theorem d_M_init_5 : decode c_M_init 5 = .ok (.bipush 32, 2) := by decide +kernel
theorem d_M_init_7 : decode c_M_init 7 = .ok (.newarray .boolean, 2) := by decide +kernel
theorem d_M_init_9 : decode c_M_init 9 = .ok (.putfield 7, 3) := by decide +kernel
theorem d_M_init_12 : decode c_M_init 12 = .ok (.aload_n 0, 1) := by decide +kernel
theorem d_M_init_13 : decode c_M_init 13 = .ok (.bipush 32, 2) := by decide +kernel
theorem d_M_init_15 : decode c_M_init 15 = .ok (.newarray .int, 2) := by decide +kernel
theorem d_M_init_17 : decode c_M_init 17 = .ok (.putfield 13, 3) := by decide +kernel
theorem d_M_init_20 : decode c_M_init 20 = .ok (.aload_n 0, 1) := by decide +kernel
theorem d_M_init_21 : decode c_M_init 21 = .ok (.sipush 256, 3) := by decide +kernel
theorem d_M_init_24 : decode c_M_init 24 = .ok (.newarray .int, 2) := by decide +kernel
theorem d_M_init_26 : decode c_M_init 26 = .ok (.putfield 17, 3) := by decide +kernel
theorem d_M_init_29 : decode c_M_init 29 = .ok (.aload_n 0, 1) := by decide +kernel
theorem d_M_init_30 : decode c_M_init 30 = .ok (.bipush 32, 2) := by decide +kernel
theorem d_M_init_32 : decode c_M_init 32 = .ok (.newarray .int, 2) := by decide +kernel
theorem d_M_init_34 : decode c_M_init 34 = .ok (.putfield 20, 3) := by decide +kernel
theorem d_M_init_37 : decode c_M_init 37 = .ok (.aload_n 0, 1) := by decide +kernel
theorem d_M_init_38 : decode c_M_init 38 = .ok (.bipush 32, 2) := by decide +kernel
theorem d_M_init_40 : decode c_M_init 40 = .ok (.newarray .int, 2) := by decide +kernel
theorem d_M_init_42 : decode c_M_init 42 = .ok (.putfield 23, 3) := by decide +kernel
theorem d_M_init_45 : decode c_M_init 45 = .ok (.aload_n 0, 1) := by decide +kernel
theorem d_M_init_46 : decode c_M_init 46 = .ok (.bipush 32, 2) := by decide +kernel
theorem d_M_init_48 : decode c_M_init 48 = .ok (.newarray .long, 2) := by decide +kernel
theorem d_M_init_50 : decode c_M_init 50 = .ok (.putfield 26, 3) := by decide +kernel
theorem d_M_init_53 : decode c_M_init 53 = .ok (.aload_n 0, 1) := by decide +kernel
theorem d_M_init_54 : decode c_M_init 54 = .ok (.bipush 16, 2) := by decide +kernel
theorem d_M_init_56 : decode c_M_init 56 = .ok (.newarray .int, 2) := by decide +kernel
theorem d_M_init_58 : decode c_M_init 58 = .ok (.putfield 30, 3) := by decide +kernel
theorem d_M_init_61 : decode c_M_init 61 = .ok (.aload_n 0, 1) := by decide +kernel
theorem d_M_init_62 : decode c_M_init 62 = .ok (.iconst (-1), 1) := by decide +kernel
theorem d_M_init_63 : decode c_M_init 63 = .ok (.putfield 33, 3) := by decide +kernel
theorem d_M_init_66 : decode c_M_init 66 = .ok (.aload_n 0, 1) := by decide +kernel
theorem d_M_init_67 : decode c_M_init 67 = .ok (.iconst (-1), 1) := by decide +kernel
theorem d_M_init_68 : decode c_M_init 68 = .ok (.putfield 37, 3) := by decide +kernel
theorem d_M_init_71 : decode c_M_init 71 = .ok (.aload_n 0, 1) := by decide +kernel
theorem d_M_init_72 : decode c_M_init 72 = .ok (.bipush 64, 2) := by decide +kernel
theorem d_M_init_74 : decode c_M_init 74 = .ok (.newarray .int, 2) := by decide +kernel
theorem d_M_init_76 : decode c_M_init 76 = .ok (.putfield 40, 3) := by decide +kernel
theorem d_M_init_79 : decode c_M_init 79 = .ok (.aload_n 0, 1) := by decide +kernel
theorem d_M_init_80 : decode c_M_init 80 = .ok (.iconst (-1), 1) := by decide +kernel
theorem d_M_init_81 : decode c_M_init 81 = .ok (.putfield 43, 3) := by decide +kernel
theorem d_M_init_84 : decode c_M_init 84 = .ok (.aload_n 0, 1) := by decide +kernel
theorem d_M_init_85 : decode c_M_init 85 = .ok (.iconst (-1), 1) := by decide +kernel
theorem d_M_init_86 : decode c_M_init 86 = .ok (.putfield 46, 3) := by decide +kernel
theorem d_M_init_89 : decode c_M_init 89 = .ok (.aload_n 0, 1) := by decide +kernel
theorem d_M_init_90 : decode c_M_init 90 = .ok (.bipush 65, 2) := by decide +kernel
theorem d_M_init_92 : decode c_M_init 92 = .ok (.newarray .int, 2) := by decide +kernel
theorem d_M_init_94 : decode c_M_init 94 = .ok (.putfield 49, 3) := by decide +kernel
theorem d_M_init_97 : decode c_M_init 97 = .ok (.return_, 1) := by decide +kernel
theorem d_M_isMade_0 : decode c_M_isMade 0 = .ok (.iload_n 1, 1) := by decide +kernel
theorem d_M_isMade_1 : decode c_M_isMade 1 = .ok (.ifCond .lt 22, 3) := by decide +kernel
theorem d_M_isMade_4 : decode c_M_isMade 4 = .ok (.iload_n 1, 1) := by decide +kernel
theorem d_M_isMade_5 : decode c_M_isMade 5 = .ok (.bipush 32, 2) := by decide +kernel
theorem d_M_isMade_7 : decode c_M_isMade 7 = .ok (.if_icmp .ge 16, 3) := by decide +kernel
theorem d_M_isMade_10 : decode c_M_isMade 10 = .ok (.aload_n 0, 1) := by decide +kernel
theorem d_M_isMade_11 : decode c_M_isMade 11 = .ok (.getfield 7, 3) := by decide +kernel
theorem d_M_isMade_14 : decode c_M_isMade 14 = .ok (.iload_n 1, 1) := by decide +kernel
theorem d_M_isMade_15 : decode c_M_isMade 15 = .ok (.baload, 1) := by decide +kernel
theorem d_M_isMade_16 : decode c_M_isMade 16 = .ok (.ifCond .eq 7, 3) := by decide +kernel
theorem d_M_isMade_19 : decode c_M_isMade 19 = .ok (.iconst 1, 1) := by decide +kernel
theorem d_M_isMade_20 : decode c_M_isMade 20 = .ok (.goto 4, 3) := by decide +kernel
theorem d_M_isMade_23 : decode c_M_isMade 23 = .ok (.iconst 0, 1) := by decide +kernel
theorem d_M_isMade_24 : decode c_M_isMade 24 = .ok (.ireturn, 1) := by decide +kernel
theorem d_M_isSemaphore_0 : decode c_M_isSemaphore 0 = .ok (.iload_n 0, 1) := by decide +kernel
theorem d_M_isSemaphore_1 : decode c_M_isSemaphore 1 = .ok (.ifCond .lt 13, 3) := by decide +kernel
theorem d_M_isSemaphore_4 : decode c_M_isSemaphore 4 = .ok (.iload_n 0, 1) := by decide +kernel
theorem d_M_isSemaphore_5 : decode c_M_isSemaphore 5 = .ok (.bipush 16, 2) := by decide +kernel
theorem d_M_isSemaphore_7 : decode c_M_isSemaphore 7 = .ok (.if_icmp .ge 7, 3) := by decide +kernel
theorem d_M_isSemaphore_10 : decode c_M_isSemaphore 10 = .ok (.iconst 1, 1) := by decide +kernel
theorem d_M_isSemaphore_11 : decode c_M_isSemaphore 11 = .ok (.goto 4, 3) := by decide +kernel
theorem d_M_isSemaphore_14 : decode c_M_isSemaphore 14 = .ok (.iconst 0, 1) := by decide +kernel
theorem d_M_isSemaphore_15 : decode c_M_isSemaphore 15 = .ok (.ireturn, 1) := by decide +kernel
theorem d_M_come_0 : decode c_M_come 0 = .ok (.aload_n 0, 1) := by decide +kernel
theorem d_M_come_1 : decode c_M_come 1 = .ok (.getfield 23, 3) := by decide +kernel
theorem d_M_come_4 : decode c_M_come 4 = .ok (.iload_n 1, 1) := by decide +kernel
theorem d_M_come_5 : decode c_M_come 5 = .ok (.iload_n 2, 1) := by decide +kernel
theorem d_M_come_6 : decode c_M_come 6 = .ok (.iastore, 1) := by decide +kernel
theorem d_M_come_7 : decode c_M_come 7 = .ok (.aload_n 0, 1) := by decide +kernel
theorem d_M_come_8 : decode c_M_come 8 = .ok (.getfield 26, 3) := by decide +kernel
theorem d_M_come_11 : decode c_M_come 11 = .ok (.iload_n 1, 1) := by decide +kernel
theorem d_M_come_12 : decode c_M_come 12 = .ok (.aload_n 0, 1) := by decide +kernel
theorem d_M_come_13 : decode c_M_come 13 = .ok (.getfield 52, 3) := by decide +kernel
theorem d_M_come_16 : decode c_M_come 16 = .ok (.lastore, 1) := by decide +kernel
theorem d_M_come_17 : decode c_M_come 17 = .ok (.aload_n 0, 1) := by decide +kernel
theorem d_M_come_18 : decode c_M_come 18 = .ok (.aload_n 0, 1) := by decide +kernel
theorem d_M_come_19 : decode c_M_come 19 = .ok (.getfield 52, 3) := by decide +kernel
theorem d_M_come_22 : decode c_M_come 22 = .ok (.lconst 1, 1) := by decide +kernel
theorem d_M_come_23 : decode c_M_come 23 = .ok (.ladd, 1) := by decide +kernel
theorem d_M_come_24 : decode c_M_come 24 = .ok (.putfield 52, 3) := by decide +kernel
theorem d_M_come_27 : decode c_M_come 27 = .ok (.return_, 1) := by decide +kernel
theorem d_M_first_0 : decode c_M_first 0 = .ok (.iconst (-1), 1) := by decide +kernel
theorem d_M_first_1 : decode c_M_first 1 = .ok (.istore_n 2, 1) := by decide +kernel
theorem d_M_first_2 : decode c_M_first 2 = .ok (.iconst 0, 1) := by decide +kernel
theorem d_M_first_3 : decode c_M_first 3 = .ok (.istore_n 3, 1) := by decide +kernel
theorem d_M_first_4 : decode c_M_first 4 = .ok (.iload_n 3, 1) := by decide +kernel
theorem d_M_first_5 : decode c_M_first 5 = .ok (.bipush 32, 2) := by decide +kernel
theorem d_M_first_7 : decode c_M_first 7 = .ok (.if_icmp .ge 50, 3) := by decide +kernel
theorem d_M_first_10 : decode c_M_first 10 = .ok (.aload_n 0, 1) := by decide +kernel
theorem d_M_first_11 : decode c_M_first 11 = .ok (.getfield 7, 3) := by decide +kernel
theorem d_M_first_14 : decode c_M_first 14 = .ok (.iload_n 3, 1) := by decide +kernel
theorem d_M_first_15 : decode c_M_first 15 = .ok (.baload, 1) := by decide +kernel
theorem d_M_first_16 : decode c_M_first 16 = .ok (.ifCond .eq 35, 3) := by decide +kernel
theorem d_M_first_19 : decode c_M_first 19 = .ok (.aload_n 0, 1) := by decide +kernel
theorem d_M_first_20 : decode c_M_first 20 = .ok (.getfield 23, 3) := by decide +kernel
theorem d_M_first_23 : decode c_M_first 23 = .ok (.iload_n 3, 1) := by decide +kernel
theorem d_M_first_24 : decode c_M_first 24 = .ok (.iaload, 1) := by decide +kernel
theorem d_M_first_25 : decode c_M_first 25 = .ok (.iload_n 1, 1) := by decide +kernel
theorem d_M_first_26 : decode c_M_first 26 = .ok (.if_icmp .ne 25, 3) := by decide +kernel
theorem d_M_first_29 : decode c_M_first 29 = .ok (.iload_n 2, 1) := by decide +kernel
theorem d_M_first_30 : decode c_M_first 30 = .ok (.ifCond .lt 19, 3) := by decide +kernel
theorem d_M_first_33 : decode c_M_first 33 = .ok (.aload_n 0, 1) := by decide +kernel
theorem d_M_first_34 : decode c_M_first 34 = .ok (.getfield 26, 3) := by decide +kernel
theorem d_M_first_37 : decode c_M_first 37 = .ok (.iload_n 3, 1) := by decide +kernel
theorem d_M_first_38 : decode c_M_first 38 = .ok (.laload, 1) := by decide +kernel
theorem d_M_first_39 : decode c_M_first 39 = .ok (.aload_n 0, 1) := by decide +kernel
theorem d_M_first_40 : decode c_M_first 40 = .ok (.getfield 26, 3) := by decide +kernel
theorem d_M_first_43 : decode c_M_first 43 = .ok (.iload_n 2, 1) := by decide +kernel
theorem d_M_first_44 : decode c_M_first 44 = .ok (.laload, 1) := by decide +kernel
theorem d_M_first_45 : decode c_M_first 45 = .ok (.lcmp, 1) := by decide +kernel
theorem d_M_first_46 : decode c_M_first 46 = .ok (.ifCond .ge 5, 3) := by decide +kernel
theorem d_M_first_49 : decode c_M_first 49 = .ok (.iload_n 3, 1) := by decide +kernel
theorem d_M_first_50 : decode c_M_first 50 = .ok (.istore_n 2, 1) := by decide +kernel
theorem d_M_first_51 : decode c_M_first 51 = .ok (.iinc 3 1, 3) := by decide +kernel
theorem d_M_first_54 : decode c_M_first 54 = .ok (.goto (-50), 3) := by decide +kernel
theorem d_M_first_57 : decode c_M_first 57 = .ok (.iload_n 2, 1) := by decide +kernel
theorem d_M_first_58 : decode c_M_first 58 = .ok (.ireturn, 1) := by decide +kernel
theorem d_M_present0_0 : decode c_M_present0 0 = .ok (.aload_n 0, 1) := by decide +kernel
theorem d_M_present0_1 : decode c_M_present0 1 = .ok (.getfield 56, 3) := by decide +kernel
theorem d_M_present0_4 : decode c_M_present0 4 = .ok (.ifCond .eq 10, 3) := by decide +kernel
theorem d_M_present0_7 : decode c_M_present0 7 = .ok (.aload_n 0, 1) := by decide +kernel
theorem d_M_present0_8 : decode c_M_present0 8 = .ok (.getfield 37, 3) := by decide +kernel
theorem d_M_present0_11 : decode c_M_present0 11 = .ok (.goto 7, 3) := by decide +kernel
theorem d_M_present0_14 : decode c_M_present0 14 = .ok (.aload_n 0, 1) := by decide +kernel
theorem d_M_present0_15 : decode c_M_present0 15 = .ok (.getfield 33, 3) := by decide +kernel
theorem d_M_present0_18 : decode c_M_present0 18 = .ok (.ireturn, 1) := by decide +kernel
theorem d_M_want_0 : decode c_M_want 0 = .ok (.aload_n 0, 1) := by decide +kernel
theorem d_M_want_1 : decode c_M_want 1 = .ok (.iconst 1, 1) := by decide +kernel
theorem d_M_want_2 : decode c_M_want 2 = .ok (.putfield 56, 3) := by decide +kernel
theorem d_M_want_5 : decode c_M_want 5 = .ok (.aload_n 0, 1) := by decide +kernel
theorem d_M_want_6 : decode c_M_want 6 = .ok (.iload_n 1, 1) := by decide +kernel
theorem d_M_want_7 : decode c_M_want 7 = .ok (.putfield 37, 3) := by decide +kernel
theorem d_M_want_10 : decode c_M_want 10 = .ok (.return_, 1) := by decide +kernel
theorem d_M_rouse_0 : decode c_M_rouse 0 = .ok (.aload_n 0, 1) := by decide +kernel
theorem d_M_rouse_1 : decode c_M_rouse 1 = .ok (.invokevirtual 60, 3) := by decide +kernel
theorem d_M_rouse_4 : decode c_M_rouse 4 = .ok (.istore_n 2, 1) := by decide +kernel
theorem d_M_rouse_5 : decode c_M_rouse 5 = .ok (.iload_n 2, 1) := by decide +kernel
theorem d_M_rouse_6 : decode c_M_rouse 6 = .ok (.ifCond .lt 30, 3) := by decide +kernel
theorem d_M_rouse_9 : decode c_M_rouse 9 = .ok (.aload_n 0, 1) := by decide +kernel
theorem d_M_rouse_10 : decode c_M_rouse 10 = .ok (.getfield 13, 3) := by decide +kernel
theorem d_M_rouse_13 : decode c_M_rouse 13 = .ok (.iload_n 2, 1) := by decide +kernel
theorem d_M_rouse_14 : decode c_M_rouse 14 = .ok (.iaload, 1) := by decide +kernel
theorem d_M_rouse_15 : decode c_M_rouse 15 = .ok (.aload_n 0, 1) := by decide +kernel
theorem d_M_rouse_16 : decode c_M_rouse 16 = .ok (.getfield 13, 3) := by decide +kernel
theorem d_M_rouse_19 : decode c_M_rouse 19 = .ok (.iload_n 1, 1) := by decide +kernel
theorem d_M_rouse_20 : decode c_M_rouse 20 = .ok (.iaload, 1) := by decide +kernel
theorem d_M_rouse_21 : decode c_M_rouse 21 = .ok (.if_icmp .lt 15, 3) := by decide +kernel
theorem d_M_rouse_24 : decode c_M_rouse 24 = .ok (.aload_n 0, 1) := by decide +kernel
theorem d_M_rouse_25 : decode c_M_rouse 25 = .ok (.iload_n 1, 1) := by decide +kernel
theorem d_M_rouse_26 : decode c_M_rouse 26 = .ok (.aload_n 0, 1) := by decide +kernel
theorem d_M_rouse_27 : decode c_M_rouse 27 = .ok (.getfield 13, 3) := by decide +kernel
theorem d_M_rouse_30 : decode c_M_rouse 30 = .ok (.iload_n 1, 1) := by decide +kernel
theorem d_M_rouse_31 : decode c_M_rouse 31 = .ok (.iaload, 1) := by decide +kernel
theorem d_M_rouse_32 : decode c_M_rouse 32 = .ok (.invokevirtual 64, 3) := by decide +kernel
theorem d_M_rouse_35 : decode c_M_rouse 35 = .ok (.return_, 1) := by decide +kernel
theorem d_M_rouse_36 : decode c_M_rouse 36 = .ok (.iload_n 2, 1) := by decide +kernel
theorem d_M_rouse_37 : decode c_M_rouse 37 = .ok (.ifCond .lt 14, 3) := by decide +kernel
theorem d_M_rouse_40 : decode c_M_rouse 40 = .ok (.aload_n 0, 1) := by decide +kernel
theorem d_M_rouse_41 : decode c_M_rouse 41 = .ok (.iload_n 2, 1) := by decide +kernel
theorem d_M_rouse_42 : decode c_M_rouse 42 = .ok (.aload_n 0, 1) := by decide +kernel
theorem d_M_rouse_43 : decode c_M_rouse 43 = .ok (.getfield 13, 3) := by decide +kernel
theorem d_M_rouse_46 : decode c_M_rouse 46 = .ok (.iload_n 2, 1) := by decide +kernel
theorem d_M_rouse_47 : decode c_M_rouse 47 = .ok (.iaload, 1) := by decide +kernel
theorem d_M_rouse_48 : decode c_M_rouse 48 = .ok (.invokevirtual 64, 3) := by decide +kernel
theorem d_M_rouse_51 : decode c_M_rouse 51 = .ok (.aload_n 0, 1) := by decide +kernel
theorem d_M_rouse_52 : decode c_M_rouse 52 = .ok (.iload_n 1, 1) := by decide +kernel
theorem d_M_rouse_53 : decode c_M_rouse 53 = .ok (.invokevirtual 68, 3) := by decide +kernel
theorem d_M_rouse_56 : decode c_M_rouse 56 = .ok (.return_, 1) := by decide +kernel
theorem d_M_putAside_0 : decode c_M_putAside 0 = .ok (.iconst (-1), 1) := by decide +kernel
theorem d_M_putAside_1 : decode c_M_putAside 1 = .ok (.istore_n 1, 1) := by decide +kernel
theorem d_M_putAside_2 : decode c_M_putAside 2 = .ok (.bipush 8, 2) := by decide +kernel
theorem d_M_putAside_4 : decode c_M_putAside 4 = .ok (.istore_n 2, 1) := by decide +kernel
theorem d_M_putAside_5 : decode c_M_putAside 5 = .ok (.iload_n 2, 1) := by decide +kernel
theorem d_M_putAside_6 : decode c_M_putAside 6 = .ok (.ifCond .le 19, 3) := by decide +kernel
theorem d_M_putAside_9 : decode c_M_putAside 9 = .ok (.iload_n 1, 1) := by decide +kernel
theorem d_M_putAside_10 : decode c_M_putAside 10 = .ok (.ifCond .ge 15, 3) := by decide +kernel
theorem d_M_putAside_13 : decode c_M_putAside 13 = .ok (.aload_n 0, 1) := by decide +kernel
theorem d_M_putAside_14 : decode c_M_putAside 14 = .ok (.iload_n 2, 1) := by decide +kernel
theorem d_M_putAside_15 : decode c_M_putAside 15 = .ok (.invokevirtual 72, 3) := by decide +kernel
theorem d_M_putAside_18 : decode c_M_putAside 18 = .ok (.istore_n 1, 1) := by decide +kernel
theorem d_M_putAside_19 : decode c_M_putAside 19 = .ok (.iinc 2 (-1), 3) := by decide +kernel
theorem d_M_putAside_22 : decode c_M_putAside 22 = .ok (.goto (-17), 3) := by decide +kernel
theorem d_M_putAside_25 : decode c_M_putAside 25 = .ok (.iload_n 1, 1) := by decide +kernel
theorem d_M_putAside_26 : decode c_M_putAside 26 = .ok (.ifCond .lt 10, 3) := by decide +kernel
theorem d_M_putAside_29 : decode c_M_putAside 29 = .ok (.aload_n 0, 1) := by decide +kernel
theorem d_M_putAside_30 : decode c_M_putAside 30 = .ok (.getfield 23, 3) := by decide +kernel
theorem d_M_putAside_33 : decode c_M_putAside 33 = .ok (.iload_n 1, 1) := by decide +kernel
theorem d_M_putAside_34 : decode c_M_putAside 34 = .ok (.iconst 0, 1) := by decide +kernel
theorem d_M_putAside_35 : decode c_M_putAside 35 = .ok (.iastore, 1) := by decide +kernel
theorem d_M_putAside_36 : decode c_M_putAside 36 = .ok (.aload_n 0, 1) := by decide +kernel
theorem d_M_putAside_37 : decode c_M_putAside 37 = .ok (.iload_n 1, 1) := by decide +kernel
theorem d_M_putAside_38 : decode c_M_putAside 38 = .ok (.invokevirtual 68, 3) := by decide +kernel
theorem d_M_putAside_41 : decode c_M_putAside 41 = .ok (.return_, 1) := by decide +kernel
theorem d_M_signal0_0 : decode c_M_signal0 0 = .ok (.aload_n 0, 1) := by decide +kernel
theorem d_M_signal0_1 : decode c_M_signal0 1 = .ok (.bipush 16, 2) := by decide +kernel
theorem d_M_signal0_3 : decode c_M_signal0 3 = .ok (.iload_n 1, 1) := by decide +kernel
theorem d_M_signal0_4 : decode c_M_signal0 4 = .ok (.iadd, 1) := by decide +kernel
theorem d_M_signal0_5 : decode c_M_signal0 5 = .ok (.invokevirtual 72, 3) := by decide +kernel
theorem d_M_signal0_8 : decode c_M_signal0 8 = .ok (.istore_n 2, 1) := by decide +kernel
theorem d_M_signal0_9 : decode c_M_signal0 9 = .ok (.iload_n 2, 1) := by decide +kernel
theorem d_M_signal0_10 : decode c_M_signal0 10 = .ok (.ifCond .ge 18, 3) := by decide +kernel
theorem d_M_signal0_13 : decode c_M_signal0 13 = .ok (.aload_n 0, 1) := by decide +kernel
theorem d_M_signal0_14 : decode c_M_signal0 14 = .ok (.getfield 30, 3) := by decide +kernel
theorem d_M_signal0_17 : decode c_M_signal0 17 = .ok (.iload_n 1, 1) := by decide +kernel
theorem d_M_signal0_18 : decode c_M_signal0 18 = .ok (.aload_n 0, 1) := by decide +kernel
theorem d_M_signal0_19 : decode c_M_signal0 19 = .ok (.getfield 30, 3) := by decide +kernel
theorem d_M_signal0_22 : decode c_M_signal0 22 = .ok (.iload_n 1, 1) := by decide +kernel
theorem d_M_signal0_23 : decode c_M_signal0 23 = .ok (.iaload, 1) := by decide +kernel
theorem d_M_signal0_24 : decode c_M_signal0 24 = .ok (.iconst 1, 1) := by decide +kernel
theorem d_M_signal0_25 : decode c_M_signal0 25 = .ok (.iadd, 1) := by decide +kernel
theorem d_M_signal0_26 : decode c_M_signal0 26 = .ok (.iastore, 1) := by decide +kernel
theorem d_M_signal0_27 : decode c_M_signal0 27 = .ok (.return_, 1) := by decide +kernel
theorem d_M_signal0_28 : decode c_M_signal0 28 = .ok (.aload_n 0, 1) := by decide +kernel
theorem d_M_signal0_29 : decode c_M_signal0 29 = .ok (.getfield 23, 3) := by decide +kernel
theorem d_M_signal0_32 : decode c_M_signal0 32 = .ok (.iload_n 2, 1) := by decide +kernel
theorem d_M_signal0_33 : decode c_M_signal0 33 = .ok (.iconst 0, 1) := by decide +kernel
theorem d_M_signal0_34 : decode c_M_signal0 34 = .ok (.iastore, 1) := by decide +kernel
theorem d_M_signal0_35 : decode c_M_signal0 35 = .ok (.aload_n 0, 1) := by decide +kernel
theorem d_M_signal0_36 : decode c_M_signal0 36 = .ok (.iload_n 2, 1) := by decide +kernel
theorem d_M_signal0_37 : decode c_M_signal0 37 = .ok (.invokevirtual 76, 3) := by decide +kernel
theorem d_M_signal0_40 : decode c_M_signal0 40 = .ok (.return_, 1) := by decide +kernel
theorem d_M_await0_0 : decode c_M_await0 0 = .ok (.aload_n 0, 1) := by decide +kernel
theorem d_M_await0_1 : decode c_M_await0 1 = .ok (.invokevirtual 60, 3) := by decide +kernel
theorem d_M_await0_4 : decode c_M_await0 4 = .ok (.istore_n 2, 1) := by decide +kernel
theorem d_M_await0_5 : decode c_M_await0 5 = .ok (.iload_n 2, 1) := by decide +kernel
theorem d_M_await0_6 : decode c_M_await0 6 = .ok (.ifCond .ge 4, 3) := by decide +kernel
theorem d_M_await0_9 : decode c_M_await0 9 = .ok (.return_, 1) := by decide +kernel
theorem d_M_await0_10 : decode c_M_await0 10 = .ok (.aload_n 0, 1) := by decide +kernel
theorem d_M_await0_11 : decode c_M_await0 11 = .ok (.getfield 30, 3) := by decide +kernel
theorem d_M_await0_14 : decode c_M_await0 14 = .ok (.iload_n 1, 1) := by decide +kernel
theorem d_M_await0_15 : decode c_M_await0 15 = .ok (.iaload, 1) := by decide +kernel
theorem d_M_await0_16 : decode c_M_await0 16 = .ok (.ifCond .le 18, 3) := by decide +kernel
theorem d_M_await0_19 : decode c_M_await0 19 = .ok (.aload_n 0, 1) := by decide +kernel
theorem d_M_await0_20 : decode c_M_await0 20 = .ok (.getfield 30, 3) := by decide +kernel
theorem d_M_await0_23 : decode c_M_await0 23 = .ok (.iload_n 1, 1) := by decide +kernel
theorem d_M_await0_24 : decode c_M_await0 24 = .ok (.aload_n 0, 1) := by decide +kernel
theorem d_M_await0_25 : decode c_M_await0 25 = .ok (.getfield 30, 3) := by decide +kernel
theorem d_M_await0_28 : decode c_M_await0 28 = .ok (.iload_n 1, 1) := by decide +kernel
theorem d_M_await0_29 : decode c_M_await0 29 = .ok (.iaload, 1) := by decide +kernel
theorem d_M_await0_30 : decode c_M_await0 30 = .ok (.iconst 1, 1) := by decide +kernel
theorem d_M_await0_31 : decode c_M_await0 31 = .ok (.isub, 1) := by decide +kernel
theorem d_M_await0_32 : decode c_M_await0 32 = .ok (.iastore, 1) := by decide +kernel
theorem d_M_await0_33 : decode c_M_await0 33 = .ok (.return_, 1) := by decide +kernel
theorem d_M_await0_34 : decode c_M_await0 34 = .ok (.aload_n 0, 1) := by decide +kernel
theorem d_M_await0_35 : decode c_M_await0 35 = .ok (.iload_n 2, 1) := by decide +kernel
theorem d_M_await0_36 : decode c_M_await0 36 = .ok (.bipush 16, 2) := by decide +kernel
theorem d_M_await0_38 : decode c_M_await0 38 = .ok (.iload_n 1, 1) := by decide +kernel
theorem d_M_await0_39 : decode c_M_await0 39 = .ok (.iadd, 1) := by decide +kernel
theorem d_M_await0_40 : decode c_M_await0 40 = .ok (.invokevirtual 64, 3) := by decide +kernel
theorem d_M_await0_43 : decode c_M_await0 43 = .ok (.aload_n 0, 1) := by decide +kernel
theorem d_M_await0_44 : decode c_M_await0 44 = .ok (.invokevirtual 79, 3) := by decide +kernel
theorem d_M_await0_47 : decode c_M_await0 47 = .ok (.return_, 1) := by decide +kernel
theorem d_M_giveWay_0 : decode c_M_giveWay 0 = .ok (.aload_n 0, 1) := by decide +kernel
theorem d_M_giveWay_1 : decode c_M_giveWay 1 = .ok (.invokevirtual 60, 3) := by decide +kernel
theorem d_M_giveWay_4 : decode c_M_giveWay 4 = .ok (.istore_n 1, 1) := by decide +kernel
theorem d_M_giveWay_5 : decode c_M_giveWay 5 = .ok (.iload_n 1, 1) := by decide +kernel
theorem d_M_giveWay_6 : decode c_M_giveWay 6 = .ok (.ifCond .lt 31, 3) := by decide +kernel
theorem d_M_giveWay_9 : decode c_M_giveWay 9 = .ok (.aload_n 0, 1) := by decide +kernel
theorem d_M_giveWay_10 : decode c_M_giveWay 10 = .ok (.aload_n 0, 1) := by decide +kernel
theorem d_M_giveWay_11 : decode c_M_giveWay 11 = .ok (.getfield 13, 3) := by decide +kernel
theorem d_M_giveWay_14 : decode c_M_giveWay 14 = .ok (.iload_n 1, 1) := by decide +kernel
theorem d_M_giveWay_15 : decode c_M_giveWay 15 = .ok (.iaload, 1) := by decide +kernel
theorem d_M_giveWay_16 : decode c_M_giveWay 16 = .ok (.invokevirtual 72, 3) := by decide +kernel
theorem d_M_giveWay_19 : decode c_M_giveWay 19 = .ok (.ifCond .lt 18, 3) := by decide +kernel
theorem d_M_giveWay_22 : decode c_M_giveWay 22 = .ok (.aload_n 0, 1) := by decide +kernel
theorem d_M_giveWay_23 : decode c_M_giveWay 23 = .ok (.iload_n 1, 1) := by decide +kernel
theorem d_M_giveWay_24 : decode c_M_giveWay 24 = .ok (.aload_n 0, 1) := by decide +kernel
theorem d_M_giveWay_25 : decode c_M_giveWay 25 = .ok (.getfield 13, 3) := by decide +kernel
theorem d_M_giveWay_28 : decode c_M_giveWay 28 = .ok (.iload_n 1, 1) := by decide +kernel
theorem d_M_giveWay_29 : decode c_M_giveWay 29 = .ok (.iaload, 1) := by decide +kernel
theorem d_M_giveWay_30 : decode c_M_giveWay 30 = .ok (.invokevirtual 64, 3) := by decide +kernel
theorem d_M_giveWay_33 : decode c_M_giveWay 33 = .ok (.aload_n 0, 1) := by decide +kernel
theorem d_M_giveWay_34 : decode c_M_giveWay 34 = .ok (.invokevirtual 79, 3) := by decide +kernel
theorem d_M_giveWay_37 : decode c_M_giveWay 37 = .ok (.return_, 1) := by decide +kernel
theorem d_M_dropWord_0 : decode c_M_dropWord 0 = .ok (.aload_n 0, 1) := by decide +kernel
theorem d_M_dropWord_1 : decode c_M_dropWord 1 = .ok (.getfield 82, 3) := by decide +kernel
theorem d_M_dropWord_4 : decode c_M_dropWord 4 = .ok (.ifCond .le 43, 3) := by decide +kernel
theorem d_M_dropWord_7 : decode c_M_dropWord 7 = .ok (.aload_n 0, 1) := by decide +kernel
theorem d_M_dropWord_8 : decode c_M_dropWord 8 = .ok (.aload_n 0, 1) := by decide +kernel
theorem d_M_dropWord_9 : decode c_M_dropWord 9 = .ok (.getfield 82, 3) := by decide +kernel
theorem d_M_dropWord_12 : decode c_M_dropWord 12 = .ok (.iconst 1, 1) := by decide +kernel
theorem d_M_dropWord_13 : decode c_M_dropWord 13 = .ok (.isub, 1) := by decide +kernel
theorem d_M_dropWord_14 : decode c_M_dropWord 14 = .ok (.putfield 82, 3) := by decide +kernel
theorem d_M_dropWord_17 : decode c_M_dropWord 17 = .ok (.iconst 0, 1) := by decide +kernel
theorem d_M_dropWord_18 : decode c_M_dropWord 18 = .ok (.istore_n 1, 1) := by decide +kernel
theorem d_M_dropWord_19 : decode c_M_dropWord 19 = .ok (.iload_n 1, 1) := by decide +kernel
theorem d_M_dropWord_20 : decode c_M_dropWord 20 = .ok (.aload_n 0, 1) := by decide +kernel
theorem d_M_dropWord_21 : decode c_M_dropWord 21 = .ok (.getfield 82, 3) := by decide +kernel
theorem d_M_dropWord_24 : decode c_M_dropWord 24 = .ok (.if_icmp .ge 23, 3) := by decide +kernel
theorem d_M_dropWord_27 : decode c_M_dropWord 27 = .ok (.aload_n 0, 1) := by decide +kernel
theorem d_M_dropWord_28 : decode c_M_dropWord 28 = .ok (.getfield 40, 3) := by decide +kernel
theorem d_M_dropWord_31 : decode c_M_dropWord 31 = .ok (.iload_n 1, 1) := by decide +kernel
theorem d_M_dropWord_32 : decode c_M_dropWord 32 = .ok (.aload_n 0, 1) := by decide +kernel
theorem d_M_dropWord_33 : decode c_M_dropWord 33 = .ok (.getfield 40, 3) := by decide +kernel
theorem d_M_dropWord_36 : decode c_M_dropWord 36 = .ok (.iload_n 1, 1) := by decide +kernel
theorem d_M_dropWord_37 : decode c_M_dropWord 37 = .ok (.iconst 1, 1) := by decide +kernel
theorem d_M_dropWord_38 : decode c_M_dropWord 38 = .ok (.iadd, 1) := by decide +kernel
theorem d_M_dropWord_39 : decode c_M_dropWord 39 = .ok (.iaload, 1) := by decide +kernel
theorem d_M_dropWord_40 : decode c_M_dropWord 40 = .ok (.iastore, 1) := by decide +kernel
theorem d_M_dropWord_41 : decode c_M_dropWord 41 = .ok (.iinc 1 1, 3) := by decide +kernel
theorem d_M_dropWord_44 : decode c_M_dropWord 44 = .ok (.goto (-25), 3) := by decide +kernel
theorem d_M_dropWord_47 : decode c_M_dropWord 47 = .ok (.return_, 1) := by decide +kernel
theorem d_M_act_0 : decode c_M_act 0 = .ok (.iload_n 1, 1) := by decide +kernel
theorem d_M_act_1 : decode c_M_act 1 = .ok (.bipush 16, 2) := by decide +kernel
theorem d_M_act_3 : decode c_M_act 3 = .ok (.if_icmp .lt 20, 3) := by decide +kernel
theorem d_M_act_6 : decode c_M_act 6 = .ok (.iload_n 1, 1) := by decide +kernel
theorem d_M_act_7 : decode c_M_act 7 = .ok (.bipush 32, 2) := by decide +kernel
theorem d_M_act_9 : decode c_M_act 9 = .ok (.if_icmp .ge 14, 3) := by decide +kernel
theorem d_M_act_12 : decode c_M_act 12 = .ok (.aload_n 0, 1) := by decide +kernel
theorem d_M_act_13 : decode c_M_act 13 = .ok (.iload_n 1, 1) := by decide +kernel
theorem d_M_act_14 : decode c_M_act 14 = .ok (.bipush 16, 2) := by decide +kernel
theorem d_M_act_16 : decode c_M_act 16 = .ok (.isub, 1) := by decide +kernel
theorem d_M_act_17 : decode c_M_act 17 = .ok (.invokevirtual 85, 3) := by decide +kernel
theorem d_M_act_20 : decode c_M_act 20 = .ok (.goto 119, 3) := by decide +kernel
theorem d_M_act_23 : decode c_M_act 23 = .ok (.iload_n 1, 1) := by decide +kernel
theorem d_M_act_24 : decode c_M_act 24 = .ok (.bipush 32, 2) := by decide +kernel
theorem d_M_act_26 : decode c_M_act 26 = .ok (.if_icmp .lt 20, 3) := by decide +kernel
theorem d_M_act_29 : decode c_M_act 29 = .ok (.iload_n 1, 1) := by decide +kernel
theorem d_M_act_30 : decode c_M_act 30 = .ok (.bipush 48, 2) := by decide +kernel
theorem d_M_act_32 : decode c_M_act 32 = .ok (.if_icmp .ge 14, 3) := by decide +kernel
theorem d_M_act_35 : decode c_M_act 35 = .ok (.aload_n 0, 1) := by decide +kernel
theorem d_M_act_36 : decode c_M_act 36 = .ok (.iload_n 1, 1) := by decide +kernel
theorem d_M_act_37 : decode c_M_act 37 = .ok (.bipush 32, 2) := by decide +kernel
theorem d_M_act_39 : decode c_M_act 39 = .ok (.isub, 1) := by decide +kernel
theorem d_M_act_40 : decode c_M_act 40 = .ok (.invokevirtual 88, 3) := by decide +kernel
theorem d_M_act_43 : decode c_M_act 43 = .ok (.goto 96, 3) := by decide +kernel
theorem d_M_act_46 : decode c_M_act 46 = .ok (.iload_n 1, 1) := by decide +kernel
theorem d_M_act_47 : decode c_M_act 47 = .ok (.bipush 48, 2) := by decide +kernel
theorem d_M_act_49 : decode c_M_act 49 = .ok (.if_icmp .ne 10, 3) := by decide +kernel
theorem d_M_act_52 : decode c_M_act 52 = .ok (.aload_n 0, 1) := by decide +kernel
theorem d_M_act_53 : decode c_M_act 53 = .ok (.invokevirtual 91, 3) := by decide +kernel
theorem d_M_act_56 : decode c_M_act 56 = .ok (.goto 83, 3) := by decide +kernel
theorem d_M_act_59 : decode c_M_act 59 = .ok (.iload_n 1, 1) := by decide +kernel
theorem d_M_act_60 : decode c_M_act 60 = .ok (.bipush 49, 2) := by decide +kernel
theorem d_M_act_62 : decode c_M_act 62 = .ok (.if_icmp .ne 10, 3) := by decide +kernel
theorem d_M_act_65 : decode c_M_act 65 = .ok (.aload_n 0, 1) := by decide +kernel
theorem d_M_act_66 : decode c_M_act 66 = .ok (.invokevirtual 94, 3) := by decide +kernel
theorem d_M_act_69 : decode c_M_act 69 = .ok (.goto 70, 3) := by decide +kernel
theorem d_M_act_72 : decode c_M_act 72 = .ok (.iload_n 1, 1) := by decide +kernel
theorem d_M_act_73 : decode c_M_act 73 = .ok (.bipush 50, 2) := by decide +kernel
theorem d_M_act_75 : decode c_M_act 75 = .ok (.if_icmp .ne 11, 3) := by decide +kernel
theorem d_M_act_78 : decode c_M_act 78 = .ok (.aload_n 0, 1) := by decide +kernel
theorem d_M_act_79 : decode c_M_act 79 = .ok (.iconst (-1), 1) := by decide +kernel
theorem d_M_act_80 : decode c_M_act 80 = .ok (.putfield 43, 3) := by decide +kernel
theorem d_M_act_83 : decode c_M_act 83 = .ok (.goto 56, 3) := by decide +kernel
theorem d_M_act_86 : decode c_M_act 86 = .ok (.iload_n 1, 1) := by decide +kernel
theorem d_M_act_87 : decode c_M_act 87 = .ok (.bipush 64, 2) := by decide +kernel
theorem d_M_act_89 : decode c_M_act 89 = .ok (.if_icmp .lt 30, 3) := by decide +kernel
theorem d_M_act_92 : decode c_M_act 92 = .ok (.iload_n 1, 1) := by decide +kernel
theorem d_M_act_93 : decode c_M_act 93 = .ok (.bipush 80, 2) := by decide +kernel
theorem d_M_act_95 : decode c_M_act 95 = .ok (.if_icmp .ge 24, 3) := by decide +kernel
theorem d_M_act_98 : decode c_M_act 98 = .ok (.aload_n 0, 1) := by decide +kernel
theorem d_M_act_99 : decode c_M_act 99 = .ok (.iload_n 1, 1) := by decide +kernel
theorem d_M_act_100 : decode c_M_act 100 = .ok (.bipush 64, 2) := by decide +kernel
theorem d_M_act_102 : decode c_M_act 102 = .ok (.isub, 1) := by decide +kernel
theorem d_M_act_103 : decode c_M_act 103 = .ok (.putfield 46, 3) := by decide +kernel
theorem d_M_act_106 : decode c_M_act 106 = .ok (.aload_n 0, 1) := by decide +kernel
theorem d_M_act_107 : decode c_M_act 107 = .ok (.aload_n 0, 1) := by decide +kernel
theorem d_M_act_108 : decode c_M_act 108 = .ok (.getfield 97, 3) := by decide +kernel
theorem d_M_act_111 : decode c_M_act 111 = .ok (.iconst 3, 1) := by decide +kernel
theorem d_M_act_112 : decode c_M_act 112 = .ok (.iadd, 1) := by decide +kernel
theorem d_M_act_113 : decode c_M_act 113 = .ok (.putfield 100, 3) := by decide +kernel
theorem d_M_act_116 : decode c_M_act 116 = .ok (.goto 23, 3) := by decide +kernel
theorem d_M_act_119 : decode c_M_act 119 = .ok (.iload_n 1, 1) := by decide +kernel
theorem d_M_act_120 : decode c_M_act 120 = .ok (.bipush 80, 2) := by decide +kernel
theorem d_M_act_122 : decode c_M_act 122 = .ok (.if_icmp .lt 17, 3) := by decide +kernel
theorem d_M_act_125 : decode c_M_act 125 = .ok (.iload_n 1, 1) := by decide +kernel
theorem d_M_act_126 : decode c_M_act 126 = .ok (.bipush 96, 2) := by decide +kernel
theorem d_M_act_128 : decode c_M_act 128 = .ok (.if_icmp .ge 11, 3) := by decide +kernel
theorem d_M_act_131 : decode c_M_act 131 = .ok (.aload_n 0, 1) := by decide +kernel
theorem d_M_act_132 : decode c_M_act 132 = .ok (.iload_n 1, 1) := by decide +kernel
theorem d_M_act_133 : decode c_M_act 133 = .ok (.bipush 80, 2) := by decide +kernel
theorem d_M_act_135 : decode c_M_act 135 = .ok (.isub, 1) := by decide +kernel
theorem d_M_act_136 : decode c_M_act 136 = .ok (.putfield 43, 3) := by decide +kernel
theorem d_M_act_139 : decode c_M_act 139 = .ok (.return_, 1) := by decide +kernel
theorem d_M_post_0 : decode c_M_post 0 = .ok (.aload_n 0, 1) := by decide +kernel
theorem d_M_post_1 : decode c_M_post 1 = .ok (.getfield 49, 3) := by decide +kernel
theorem d_M_post_4 : decode c_M_post 4 = .ok (.aload_n 0, 1) := by decide +kernel
theorem d_M_post_5 : decode c_M_post 5 = .ok (.getfield 103, 3) := by decide +kernel
theorem d_M_post_8 : decode c_M_post 8 = .ok (.iload_n 1, 1) := by decide +kernel
theorem d_M_post_9 : decode c_M_post 9 = .ok (.iastore, 1) := by decide +kernel
theorem d_M_post_10 : decode c_M_post 10 = .ok (.aload_n 0, 1) := by decide +kernel
theorem d_M_post_11 : decode c_M_post 11 = .ok (.aload_n 0, 1) := by decide +kernel
theorem d_M_post_12 : decode c_M_post 12 = .ok (.getfield 103, 3) := by decide +kernel
theorem d_M_post_15 : decode c_M_post 15 = .ok (.iconst 1, 1) := by decide +kernel
theorem d_M_post_16 : decode c_M_post 16 = .ok (.iadd, 1) := by decide +kernel
theorem d_M_post_17 : decode c_M_post 17 = .ok (.putfield 103, 3) := by decide +kernel
theorem d_M_post_20 : decode c_M_post 20 = .ok (.return_, 1) := by decide +kernel
theorem d_M_behind_0 : decode c_M_behind 0 = .ok (.iconst 1, 1) := by decide +kernel
theorem d_M_behind_1 : decode c_M_behind 1 = .ok (.istore_n 1, 1) := by decide +kernel
theorem d_M_behind_2 : decode c_M_behind 2 = .ok (.iload_n 1, 1) := by decide +kernel
theorem d_M_behind_3 : decode c_M_behind 3 = .ok (.ifCond .eq 163, 3) := by decide +kernel
theorem d_M_behind_6 : decode c_M_behind 6 = .ok (.aload_n 0, 1) := by decide +kernel
theorem d_M_behind_7 : decode c_M_behind 7 = .ok (.iconst 0, 1) := by decide +kernel
theorem d_M_behind_8 : decode c_M_behind 8 = .ok (.putfield 103, 3) := by decide +kernel
theorem d_M_behind_11 : decode c_M_behind 11 = .ok (.iconst 0, 1) := by decide +kernel
theorem d_M_behind_12 : decode c_M_behind 12 = .ok (.istore_n 2, 1) := by decide +kernel
theorem d_M_behind_13 : decode c_M_behind 13 = .ok (.iload_n 2, 1) := by decide +kernel
theorem d_M_behind_14 : decode c_M_behind 14 = .ok (.aload_n 0, 1) := by decide +kernel
theorem d_M_behind_15 : decode c_M_behind 15 = .ok (.getfield 106, 3) := by decide +kernel
theorem d_M_behind_18 : decode c_M_behind 18 = .ok (.if_icmp .ge 24, 3) := by decide +kernel
theorem d_M_behind_21 : decode c_M_behind 21 = .ok (.aload_n 0, 1) := by decide +kernel
theorem d_M_behind_22 : decode c_M_behind 22 = .ok (.getfield 43, 3) := by decide +kernel
theorem d_M_behind_25 : decode c_M_behind 25 = .ok (.ifCond .lt 11, 3) := by decide +kernel
theorem d_M_behind_28 : decode c_M_behind 28 = .ok (.aload_n 0, 1) := by decide +kernel
theorem d_M_behind_29 : decode c_M_behind 29 = .ok (.aload_n 0, 1) := by decide +kernel
theorem d_M_behind_30 : decode c_M_behind 30 = .ok (.getfield 43, 3) := by decide +kernel
theorem d_M_behind_33 : decode c_M_behind 33 = .ok (.invokevirtual 109, 3) := by decide +kernel
theorem d_M_behind_36 : decode c_M_behind 36 = .ok (.iinc 2 1, 3) := by decide +kernel
theorem d_M_behind_39 : decode c_M_behind 39 = .ok (.goto (-26), 3) := by decide +kernel
theorem d_M_behind_42 : decode c_M_behind 42 = .ok (.aload_n 0, 1) := by decide +kernel
theorem d_M_behind_43 : decode c_M_behind 43 = .ok (.iconst 0, 1) := by decide +kernel
theorem d_M_behind_44 : decode c_M_behind 44 = .ok (.putfield 106, 3) := by decide +kernel
theorem d_M_behind_47 : decode c_M_behind 47 = .ok (.aload_n 0, 1) := by decide +kernel
theorem d_M_behind_48 : decode c_M_behind 48 = .ok (.getfield 46, 3) := by decide +kernel
theorem d_M_behind_51 : decode c_M_behind 51 = .ok (.ifCond .lt 27, 3) := by decide +kernel
theorem d_M_behind_54 : decode c_M_behind 54 = .ok (.aload_n 0, 1) := by decide +kernel
theorem d_M_behind_55 : decode c_M_behind 55 = .ok (.getfield 97, 3) := by decide +kernel
theorem d_M_behind_58 : decode c_M_behind 58 = .ok (.aload_n 0, 1) := by decide +kernel
theorem d_M_behind_59 : decode c_M_behind 59 = .ok (.getfield 100, 3) := by decide +kernel
theorem d_M_behind_62 : decode c_M_behind 62 = .ok (.if_icmp .lt 16, 3) := by decide +kernel
theorem d_M_behind_65 : decode c_M_behind 65 = .ok (.aload_n 0, 1) := by decide +kernel
theorem d_M_behind_66 : decode c_M_behind 66 = .ok (.aload_n 0, 1) := by decide +kernel
theorem d_M_behind_67 : decode c_M_behind 67 = .ok (.getfield 46, 3) := by decide +kernel
theorem d_M_behind_70 : decode c_M_behind 70 = .ok (.invokevirtual 109, 3) := by decide +kernel
theorem d_M_behind_73 : decode c_M_behind 73 = .ok (.aload_n 0, 1) := by decide +kernel
theorem d_M_behind_74 : decode c_M_behind 74 = .ok (.iconst (-1), 1) := by decide +kernel
theorem d_M_behind_75 : decode c_M_behind 75 = .ok (.putfield 46, 3) := by decide +kernel
theorem d_M_behind_78 : decode c_M_behind 78 = .ok (.iconst 0, 1) := by decide +kernel
theorem d_M_behind_79 : decode c_M_behind 79 = .ok (.istore_n 2, 1) := by decide +kernel
theorem d_M_behind_80 : decode c_M_behind 80 = .ok (.iload_n 2, 1) := by decide +kernel
theorem d_M_behind_81 : decode c_M_behind 81 = .ok (.aload_n 0, 1) := by decide +kernel
theorem d_M_behind_82 : decode c_M_behind 82 = .ok (.getfield 103, 3) := by decide +kernel
theorem d_M_behind_85 : decode c_M_behind 85 = .ok (.if_icmp .ge 19, 3) := by decide +kernel
theorem d_M_behind_88 : decode c_M_behind 88 = .ok (.aload_n 0, 1) := by decide +kernel
theorem d_M_behind_89 : decode c_M_behind 89 = .ok (.aload_n 0, 1) := by decide +kernel
theorem d_M_behind_90 : decode c_M_behind 90 = .ok (.getfield 49, 3) := by decide +kernel
theorem d_M_behind_93 : decode c_M_behind 93 = .ok (.iload_n 2, 1) := by decide +kernel
theorem d_M_behind_94 : decode c_M_behind 94 = .ok (.iaload, 1) := by decide +kernel
theorem d_M_behind_95 : decode c_M_behind 95 = .ok (.invokevirtual 88, 3) := by decide +kernel
theorem d_M_behind_98 : decode c_M_behind 98 = .ok (.iinc 2 1, 3) := by decide +kernel
theorem d_M_behind_101 : decode c_M_behind 101 = .ok (.goto (-21), 3) := by decide +kernel
theorem d_M_behind_104 : decode c_M_behind 104 = .ok (.aload_n 0, 1) := by decide +kernel
theorem d_M_behind_105 : decode c_M_behind 105 = .ok (.getfield 56, 3) := by decide +kernel
theorem d_M_behind_108 : decode c_M_behind 108 = .ok (.ifCond .eq 16, 3) := by decide +kernel
theorem d_M_behind_111 : decode c_M_behind 111 = .ok (.aload_n 0, 1) := by decide +kernel
theorem d_M_behind_112 : decode c_M_behind 112 = .ok (.aload_n 0, 1) := by decide +kernel
theorem d_M_behind_113 : decode c_M_behind 113 = .ok (.getfield 37, 3) := by decide +kernel
theorem d_M_behind_116 : decode c_M_behind 116 = .ok (.putfield 33, 3) := by decide +kernel
theorem d_M_behind_119 : decode c_M_behind 119 = .ok (.aload_n 0, 1) := by decide +kernel
theorem d_M_behind_120 : decode c_M_behind 120 = .ok (.iconst 0, 1) := by decide +kernel
theorem d_M_behind_121 : decode c_M_behind 121 = .ok (.putfield 56, 3) := by decide +kernel
theorem d_M_behind_124 : decode c_M_behind 124 = .ok (.aload_n 0, 1) := by decide +kernel
theorem d_M_behind_125 : decode c_M_behind 125 = .ok (.getfield 33, 3) := by decide +kernel
theorem d_M_behind_128 : decode c_M_behind 128 = .ok (.ifCond .ge 14, 3) := by decide +kernel
theorem d_M_behind_131 : decode c_M_behind 131 = .ok (.aload_n 0, 1) := by decide +kernel
theorem d_M_behind_132 : decode c_M_behind 132 = .ok (.getfield 46, 3) := by decide +kernel
theorem d_M_behind_135 : decode c_M_behind 135 = .ok (.ifCond .lt 7, 3) := by decide +kernel
theorem d_M_behind_138 : decode c_M_behind 138 = .ok (.iconst 1, 1) := by decide +kernel
theorem d_M_behind_139 : decode c_M_behind 139 = .ok (.goto 4, 3) := by decide +kernel
theorem d_M_behind_142 : decode c_M_behind 142 = .ok (.iconst 0, 1) := by decide +kernel
theorem d_M_behind_143 : decode c_M_behind 143 = .ok (.istore_n 1, 1) := by decide +kernel
theorem d_M_behind_144 : decode c_M_behind 144 = .ok (.aload_n 0, 1) := by decide +kernel
theorem d_M_behind_145 : decode c_M_behind 145 = .ok (.iload_n 1, 1) := by decide +kernel
theorem d_M_behind_146 : decode c_M_behind 146 = .ok (.ifCond .eq 10, 3) := by decide +kernel
theorem d_M_behind_149 : decode c_M_behind 149 = .ok (.aload_n 0, 1) := by decide +kernel
theorem d_M_behind_150 : decode c_M_behind 150 = .ok (.getfield 100, 3) := by decide +kernel
theorem d_M_behind_153 : decode c_M_behind 153 = .ok (.goto 7, 3) := by decide +kernel
theorem d_M_behind_156 : decode c_M_behind 156 = .ok (.aload_n 0, 1) := by decide +kernel
theorem d_M_behind_157 : decode c_M_behind 157 = .ok (.getfield 97, 3) := by decide +kernel
theorem d_M_behind_160 : decode c_M_behind 160 = .ok (.putfield 97, 3) := by decide +kernel
theorem d_M_behind_163 : decode c_M_behind 163 = .ok (.goto (-161), 3) := by decide +kernel
theorem d_M_behind_166 : decode c_M_behind 166 = .ok (.return_, 1) := by decide +kernel
theorem d_M_run_0 : decode c_M_run 0 = .ok (.iload_n 1, 1) := by decide +kernel
theorem d_M_run_1 : decode c_M_run 1 = .ok (.iconst 1, 1) := by decide +kernel
theorem d_M_run_2 : decode c_M_run 2 = .ok (.if_icmp .lt 10, 3) := by decide +kernel
theorem d_M_run_5 : decode c_M_run 5 = .ok (.iload_n 1, 1) := by decide +kernel
theorem d_M_run_6 : decode c_M_run 6 = .ok (.sipush 1000, 3) := by decide +kernel
theorem d_M_run_9 : decode c_M_run 9 = .ok (.if_icmp .le 5, 3) := by decide +kernel
theorem d_M_run_12 : decode c_M_run 12 = .ok (.iconst (-1), 1) := by decide +kernel
theorem d_M_run_13 : decode c_M_run 13 = .ok (.ireturn, 1) := by decide +kernel
theorem d_M_run_14 : decode c_M_run 14 = .ok (.aload_n 0, 1) := by decide +kernel
theorem d_M_run_15 : decode c_M_run 15 = .ok (.getfield 33, 3) := by decide +kernel
theorem d_M_run_18 : decode c_M_run 18 = .ok (.ifCond .ge 7, 3) := by decide +kernel
theorem d_M_run_21 : decode c_M_run 21 = .ok (.aload_n 0, 1) := by decide +kernel
theorem d_M_run_22 : decode c_M_run 22 = .ok (.invokevirtual 112, 3) := by decide +kernel
theorem d_M_run_25 : decode c_M_run 25 = .ok (.iconst 0, 1) := by decide +kernel
theorem d_M_run_26 : decode c_M_run 26 = .ok (.istore_n 2, 1) := by decide +kernel
theorem d_M_run_27 : decode c_M_run 27 = .ok (.iload_n 2, 1) := by decide +kernel
theorem d_M_run_28 : decode c_M_run 28 = .ok (.iload_n 1, 1) := by decide +kernel
theorem d_M_run_29 : decode c_M_run 29 = .ok (.if_icmp .ge 107, 3) := by decide +kernel
theorem d_M_run_32 : decode c_M_run 32 = .ok (.aload_n 0, 1) := by decide +kernel
theorem d_M_run_33 : decode c_M_run 33 = .ok (.getfield 33, 3) := by decide +kernel
theorem d_M_run_36 : decode c_M_run 36 = .ok (.ifCond .lt 100, 3) := by decide +kernel
theorem d_M_run_39 : decode c_M_run 39 = .ok (.aload_n 0, 1) := by decide +kernel
theorem d_M_run_40 : decode c_M_run 40 = .ok (.getfield 33, 3) := by decide +kernel
theorem d_M_run_43 : decode c_M_run 43 = .ok (.istore_n 3, 1) := by decide +kernel
theorem d_M_run_44 : decode c_M_run 44 = .ok (.aload_n 0, 1) := by decide +kernel
theorem d_M_run_45 : decode c_M_run 45 = .ok (.getfield 17, 3) := by decide +kernel
theorem d_M_run_48 : decode c_M_run 48 = .ok (.bipush 8, 2) := by decide +kernel
theorem d_M_run_50 : decode c_M_run 50 = .ok (.iload_n 3, 1) := by decide +kernel
theorem d_M_run_51 : decode c_M_run 51 = .ok (.imul, 1) := by decide +kernel
theorem d_M_run_52 : decode c_M_run 52 = .ok (.aload_n 0, 1) := by decide +kernel
theorem d_M_run_53 : decode c_M_run 53 = .ok (.getfield 20, 3) := by decide +kernel
theorem d_M_run_56 : decode c_M_run 56 = .ok (.iload_n 3, 1) := by decide +kernel
theorem d_M_run_57 : decode c_M_run 57 = .ok (.iaload, 1) := by decide +kernel
theorem d_M_run_58 : decode c_M_run 58 = .ok (.bipush 8, 2) := by decide +kernel
theorem d_M_run_60 : decode c_M_run 60 = .ok (.irem, 1) := by decide +kernel
theorem d_M_run_61 : decode c_M_run 61 = .ok (.iadd, 1) := by decide +kernel
theorem d_M_run_62 : decode c_M_run 62 = .ok (.iaload, 1) := by decide +kernel
theorem d_M_run_63 : decode c_M_run 63 = .ok (.istore 4, 2) := by decide +kernel
theorem d_M_run_65 : decode c_M_run 65 = .ok (.aload_n 0, 1) := by decide +kernel
theorem d_M_run_66 : decode c_M_run 66 = .ok (.getfield 20, 3) := by decide +kernel
theorem d_M_run_69 : decode c_M_run 69 = .ok (.iload_n 3, 1) := by decide +kernel
theorem d_M_run_70 : decode c_M_run 70 = .ok (.aload_n 0, 1) := by decide +kernel
theorem d_M_run_71 : decode c_M_run 71 = .ok (.getfield 20, 3) := by decide +kernel
theorem d_M_run_74 : decode c_M_run 74 = .ok (.iload_n 3, 1) := by decide +kernel
theorem d_M_run_75 : decode c_M_run 75 = .ok (.iaload, 1) := by decide +kernel
theorem d_M_run_76 : decode c_M_run 76 = .ok (.iconst 1, 1) := by decide +kernel
theorem d_M_run_77 : decode c_M_run 77 = .ok (.iadd, 1) := by decide +kernel
theorem d_M_run_78 : decode c_M_run 78 = .ok (.iastore, 1) := by decide +kernel
theorem d_M_run_79 : decode c_M_run 79 = .ok (.aload_n 0, 1) := by decide +kernel
theorem d_M_run_80 : decode c_M_run 80 = .ok (.iload 4, 2) := by decide +kernel
theorem d_M_run_82 : decode c_M_run 82 = .ok (.invokevirtual 115, 3) := by decide +kernel
theorem d_M_run_85 : decode c_M_run 85 = .ok (.aload_n 0, 1) := by decide +kernel
theorem d_M_run_86 : decode c_M_run 86 = .ok (.aload_n 0, 1) := by decide +kernel
theorem d_M_run_87 : decode c_M_run 87 = .ok (.getfield 118, 3) := by decide +kernel
theorem d_M_run_90 : decode c_M_run 90 = .ok (.lconst 1, 1) := by decide +kernel
theorem d_M_run_91 : decode c_M_run 91 = .ok (.ladd, 1) := by decide +kernel
theorem d_M_run_92 : decode c_M_run 92 = .ok (.putfield 118, 3) := by decide +kernel
theorem d_M_run_95 : decode c_M_run 95 = .ok (.aload_n 0, 1) := by decide +kernel
theorem d_M_run_96 : decode c_M_run 96 = .ok (.aload_n 0, 1) := by decide +kernel
theorem d_M_run_97 : decode c_M_run 97 = .ok (.getfield 118, 3) := by decide +kernel
theorem d_M_run_100 : decode c_M_run 100 = .ok (.ldc2_w 121, 3) := by decide +kernel
theorem d_M_run_103 : decode c_M_run 103 = .ok (.lrem, 1) := by decide +kernel
theorem d_M_run_104 : decode c_M_run 104 = .ok (.lconst 0, 1) := by decide +kernel
theorem d_M_run_105 : decode c_M_run 105 = .ok (.lcmp, 1) := by decide +kernel
theorem d_M_run_106 : decode c_M_run 106 = .ok (.ifCond .ne 12, 3) := by decide +kernel
theorem d_M_run_109 : decode c_M_run 109 = .ok (.aload_n 0, 1) := by decide +kernel
theorem d_M_run_110 : decode c_M_run 110 = .ok (.getfield 97, 3) := by decide +kernel
theorem d_M_run_113 : decode c_M_run 113 = .ok (.iconst 1, 1) := by decide +kernel
theorem d_M_run_114 : decode c_M_run 114 = .ok (.iadd, 1) := by decide +kernel
theorem d_M_run_115 : decode c_M_run 115 = .ok (.goto 7, 3) := by decide +kernel
theorem d_M_run_118 : decode c_M_run 118 = .ok (.aload_n 0, 1) := by decide +kernel
theorem d_M_run_119 : decode c_M_run 119 = .ok (.getfield 97, 3) := by decide +kernel
theorem d_M_run_122 : decode c_M_run 122 = .ok (.putfield 97, 3) := by decide +kernel
theorem d_M_run_125 : decode c_M_run 125 = .ok (.aload_n 0, 1) := by decide +kernel
theorem d_M_run_126 : decode c_M_run 126 = .ok (.invokevirtual 112, 3) := by decide +kernel
theorem d_M_run_129 : decode c_M_run 129 = .ok (.iload_n 2, 1) := by decide +kernel
theorem d_M_run_130 : decode c_M_run 130 = .ok (.iconst 1, 1) := by decide +kernel
theorem d_M_run_131 : decode c_M_run 131 = .ok (.iadd, 1) := by decide +kernel
theorem d_M_run_132 : decode c_M_run 132 = .ok (.istore_n 2, 1) := by decide +kernel
theorem d_M_run_133 : decode c_M_run 133 = .ok (.goto (-106), 3) := by decide +kernel
theorem d_M_run_136 : decode c_M_run 136 = .ok (.iload_n 2, 1) := by decide +kernel
theorem d_M_run_137 : decode c_M_run 137 = .ok (.ireturn, 1) := by decide +kernel
theorem d_M_make_0 : decode c_M_make 0 = .ok (.iload_n 1, 1) := by decide +kernel
theorem d_M_make_1 : decode c_M_make 1 = .ok (.ifCond .lt 29, 3) := by decide +kernel
theorem d_M_make_4 : decode c_M_make 4 = .ok (.iload_n 1, 1) := by decide +kernel
theorem d_M_make_5 : decode c_M_make 5 = .ok (.bipush 32, 2) := by decide +kernel
theorem d_M_make_7 : decode c_M_make 7 = .ok (.if_icmp .ge 23, 3) := by decide +kernel
theorem d_M_make_10 : decode c_M_make 10 = .ok (.aload_n 0, 1) := by decide +kernel
theorem d_M_make_11 : decode c_M_make 11 = .ok (.getfield 7, 3) := by decide +kernel
theorem d_M_make_14 : decode c_M_make 14 = .ok (.iload_n 1, 1) := by decide +kernel
theorem d_M_make_15 : decode c_M_make 15 = .ok (.baload, 1) := by decide +kernel
theorem d_M_make_16 : decode c_M_make 16 = .ok (.ifCond .ne 14, 3) := by decide +kernel
theorem d_M_make_19 : decode c_M_make 19 = .ok (.iload_n 2, 1) := by decide +kernel
theorem d_M_make_20 : decode c_M_make 20 = .ok (.iconst 1, 1) := by decide +kernel
theorem d_M_make_21 : decode c_M_make 21 = .ok (.if_icmp .lt 9, 3) := by decide +kernel
theorem d_M_make_24 : decode c_M_make 24 = .ok (.iload_n 2, 1) := by decide +kernel
theorem d_M_make_25 : decode c_M_make 25 = .ok (.bipush 8, 2) := by decide +kernel
theorem d_M_make_27 : decode c_M_make 27 = .ok (.if_icmp .le 5, 3) := by decide +kernel
theorem d_M_make_30 : decode c_M_make 30 = .ok (.iconst 0, 1) := by decide +kernel
theorem d_M_make_31 : decode c_M_make 31 = .ok (.ireturn, 1) := by decide +kernel
theorem d_M_make_32 : decode c_M_make 32 = .ok (.aload_n 0, 1) := by decide +kernel
theorem d_M_make_33 : decode c_M_make 33 = .ok (.getfield 7, 3) := by decide +kernel
theorem d_M_make_36 : decode c_M_make 36 = .ok (.iload_n 1, 1) := by decide +kernel
theorem d_M_make_37 : decode c_M_make 37 = .ok (.iconst 1, 1) := by decide +kernel
theorem d_M_make_38 : decode c_M_make 38 = .ok (.bastore, 1) := by decide +kernel
theorem d_M_make_39 : decode c_M_make 39 = .ok (.aload_n 0, 1) := by decide +kernel
theorem d_M_make_40 : decode c_M_make 40 = .ok (.getfield 13, 3) := by decide +kernel
theorem d_M_make_43 : decode c_M_make 43 = .ok (.iload_n 1, 1) := by decide +kernel
theorem d_M_make_44 : decode c_M_make 44 = .ok (.iload_n 2, 1) := by decide +kernel
theorem d_M_make_45 : decode c_M_make 45 = .ok (.iastore, 1) := by decide +kernel
theorem d_M_make_46 : decode c_M_make 46 = .ok (.iconst 1, 1) := by decide +kernel
theorem d_M_make_47 : decode c_M_make 47 = .ok (.ireturn, 1) := by decide +kernel
theorem d_M_plan_0 : decode c_M_plan 0 = .ok (.aload_n 0, 1) := by decide +kernel
theorem d_M_plan_1 : decode c_M_plan 1 = .ok (.iload_n 1, 1) := by decide +kernel
theorem d_M_plan_2 : decode c_M_plan 2 = .ok (.invokevirtual 123, 3) := by decide +kernel
theorem d_M_plan_5 : decode c_M_plan 5 = .ok (.ifCond .eq 23, 3) := by decide +kernel
theorem d_M_plan_8 : decode c_M_plan 8 = .ok (.iload_n 2, 1) := by decide +kernel
theorem d_M_plan_9 : decode c_M_plan 9 = .ok (.ifCond .lt 19, 3) := by decide +kernel
theorem d_M_plan_12 : decode c_M_plan 12 = .ok (.iload_n 2, 1) := by decide +kernel
theorem d_M_plan_13 : decode c_M_plan 13 = .ok (.bipush 7, 2) := by decide +kernel
theorem d_M_plan_15 : decode c_M_plan 15 = .ok (.if_icmp .gt 13, 3) := by decide +kernel
theorem d_M_plan_18 : decode c_M_plan 18 = .ok (.iload_n 3, 1) := by decide +kernel
theorem d_M_plan_19 : decode c_M_plan 19 = .ok (.ifCond .lt 9, 3) := by decide +kernel
theorem d_M_plan_22 : decode c_M_plan 22 = .ok (.iload_n 3, 1) := by decide +kernel
theorem d_M_plan_23 : decode c_M_plan 23 = .ok (.bipush 127, 2) := by decide +kernel
theorem d_M_plan_25 : decode c_M_plan 25 = .ok (.if_icmp .le 5, 3) := by decide +kernel
theorem d_M_plan_28 : decode c_M_plan 28 = .ok (.iconst (-1), 1) := by decide +kernel
theorem d_M_plan_29 : decode c_M_plan 29 = .ok (.ireturn, 1) := by decide +kernel
theorem d_M_plan_30 : decode c_M_plan 30 = .ok (.aload_n 0, 1) := by decide +kernel
theorem d_M_plan_31 : decode c_M_plan 31 = .ok (.getfield 17, 3) := by decide +kernel
theorem d_M_plan_34 : decode c_M_plan 34 = .ok (.bipush 8, 2) := by decide +kernel
theorem d_M_plan_36 : decode c_M_plan 36 = .ok (.iload_n 1, 1) := by decide +kernel
theorem d_M_plan_37 : decode c_M_plan 37 = .ok (.imul, 1) := by decide +kernel
theorem d_M_plan_38 : decode c_M_plan 38 = .ok (.iload_n 2, 1) := by decide +kernel
theorem d_M_plan_39 : decode c_M_plan 39 = .ok (.iadd, 1) := by decide +kernel
theorem d_M_plan_40 : decode c_M_plan 40 = .ok (.iaload, 1) := by decide +kernel
theorem d_M_plan_41 : decode c_M_plan 41 = .ok (.istore 4, 2) := by decide +kernel
theorem d_M_plan_43 : decode c_M_plan 43 = .ok (.aload_n 0, 1) := by decide +kernel
theorem d_M_plan_44 : decode c_M_plan 44 = .ok (.getfield 17, 3) := by decide +kernel
theorem d_M_plan_47 : decode c_M_plan 47 = .ok (.bipush 8, 2) := by decide +kernel
theorem d_M_plan_49 : decode c_M_plan 49 = .ok (.iload_n 1, 1) := by decide +kernel
theorem d_M_plan_50 : decode c_M_plan 50 = .ok (.imul, 1) := by decide +kernel
theorem d_M_plan_51 : decode c_M_plan 51 = .ok (.iload_n 2, 1) := by decide +kernel
theorem d_M_plan_52 : decode c_M_plan 52 = .ok (.iadd, 1) := by decide +kernel
theorem d_M_plan_53 : decode c_M_plan 53 = .ok (.iload_n 3, 1) := by decide +kernel
theorem d_M_plan_54 : decode c_M_plan 54 = .ok (.iastore, 1) := by decide +kernel
theorem d_M_plan_55 : decode c_M_plan 55 = .ok (.iload 4, 2) := by decide +kernel
theorem d_M_plan_57 : decode c_M_plan 57 = .ok (.ireturn, 1) := by decide +kernel
theorem d_M_wake_0 : decode c_M_wake 0 = .ok (.aload_n 0, 1) := by decide +kernel
theorem d_M_wake_1 : decode c_M_wake 1 = .ok (.iload_n 1, 1) := by decide +kernel
theorem d_M_wake_2 : decode c_M_wake 2 = .ok (.invokevirtual 123, 3) := by decide +kernel
theorem d_M_wake_5 : decode c_M_wake 5 = .ok (.ifCond .eq 28, 3) := by decide +kernel
theorem d_M_wake_8 : decode c_M_wake 8 = .ok (.aload_n 0, 1) := by decide +kernel
theorem d_M_wake_9 : decode c_M_wake 9 = .ok (.getfield 23, 3) := by decide +kernel
theorem d_M_wake_12 : decode c_M_wake 12 = .ok (.iload_n 1, 1) := by decide +kernel
theorem d_M_wake_13 : decode c_M_wake 13 = .ok (.iaload, 1) := by decide +kernel
theorem d_M_wake_14 : decode c_M_wake 14 = .ok (.ifCond .ne 19, 3) := by decide +kernel
theorem d_M_wake_17 : decode c_M_wake 17 = .ok (.iload_n 1, 1) := by decide +kernel
theorem d_M_wake_18 : decode c_M_wake 18 = .ok (.aload_n 0, 1) := by decide +kernel
theorem d_M_wake_19 : decode c_M_wake 19 = .ok (.getfield 33, 3) := by decide +kernel
theorem d_M_wake_22 : decode c_M_wake 22 = .ok (.if_icmp .eq 11, 3) := by decide +kernel
theorem d_M_wake_25 : decode c_M_wake 25 = .ok (.iload_n 1, 1) := by decide +kernel
theorem d_M_wake_26 : decode c_M_wake 26 = .ok (.aload_n 0, 1) := by decide +kernel
theorem d_M_wake_27 : decode c_M_wake 27 = .ok (.invokevirtual 60, 3) := by decide +kernel
theorem d_M_wake_30 : decode c_M_wake 30 = .ok (.if_icmp .ne 5, 3) := by decide +kernel
theorem d_M_wake_33 : decode c_M_wake 33 = .ok (.iconst 0, 1) := by decide +kernel
theorem d_M_wake_34 : decode c_M_wake 34 = .ok (.ireturn, 1) := by decide +kernel
theorem d_M_wake_35 : decode c_M_wake 35 = .ok (.aload_n 0, 1) := by decide +kernel
theorem d_M_wake_36 : decode c_M_wake 36 = .ok (.iload_n 1, 1) := by decide +kernel
theorem d_M_wake_37 : decode c_M_wake 37 = .ok (.invokevirtual 76, 3) := by decide +kernel
theorem d_M_wake_40 : decode c_M_wake 40 = .ok (.iconst 1, 1) := by decide +kernel
theorem d_M_wake_41 : decode c_M_wake 41 = .ok (.ireturn, 1) := by decide +kernel
theorem d_M_suspend_0 : decode c_M_suspend 0 = .ok (.aload_n 0, 1) := by decide +kernel
theorem d_M_suspend_1 : decode c_M_suspend 1 = .ok (.invokevirtual 60, 3) := by decide +kernel
theorem d_M_suspend_4 : decode c_M_suspend 4 = .ok (.istore_n 1, 1) := by decide +kernel
theorem d_M_suspend_5 : decode c_M_suspend 5 = .ok (.iload_n 1, 1) := by decide +kernel
theorem d_M_suspend_6 : decode c_M_suspend 6 = .ok (.ifCond .lt 7, 3) := by decide +kernel
theorem d_M_suspend_9 : decode c_M_suspend 9 = .ok (.aload_n 0, 1) := by decide +kernel
theorem d_M_suspend_10 : decode c_M_suspend 10 = .ok (.invokevirtual 79, 3) := by decide +kernel
theorem d_M_suspend_13 : decode c_M_suspend 13 = .ok (.iload_n 1, 1) := by decide +kernel
theorem d_M_suspend_14 : decode c_M_suspend 14 = .ok (.ireturn, 1) := by decide +kernel
theorem d_M_signal_0 : decode c_M_signal 0 = .ok (.iload_n 1, 1) := by decide +kernel
theorem d_M_signal_1 : decode c_M_signal 1 = .ok (.invokestatic 127, 3) := by decide +kernel
theorem d_M_signal_4 : decode c_M_signal 4 = .ok (.ifCond .ne 5, 3) := by decide +kernel
theorem d_M_signal_7 : decode c_M_signal 7 = .ok (.iconst 0, 1) := by decide +kernel
theorem d_M_signal_8 : decode c_M_signal 8 = .ok (.ireturn, 1) := by decide +kernel
theorem d_M_signal_9 : decode c_M_signal 9 = .ok (.aload_n 0, 1) := by decide +kernel
theorem d_M_signal_10 : decode c_M_signal 10 = .ok (.iload_n 1, 1) := by decide +kernel
theorem d_M_signal_11 : decode c_M_signal 11 = .ok (.invokevirtual 88, 3) := by decide +kernel
theorem d_M_signal_14 : decode c_M_signal 14 = .ok (.iconst 1, 1) := by decide +kernel
theorem d_M_signal_15 : decode c_M_signal 15 = .ok (.ireturn, 1) := by decide +kernel
theorem d_M_listen_0 : decode c_M_listen 0 = .ok (.iload_n 1, 1) := by decide +kernel
theorem d_M_listen_1 : decode c_M_listen 1 = .ok (.iconst (-1), 1) := by decide +kernel
theorem d_M_listen_2 : decode c_M_listen 2 = .ok (.if_icmp .eq 12, 3) := by decide +kernel
theorem d_M_listen_5 : decode c_M_listen 5 = .ok (.iload_n 1, 1) := by decide +kernel
theorem d_M_listen_6 : decode c_M_listen 6 = .ok (.invokestatic 127, 3) := by decide +kernel
theorem d_M_listen_9 : decode c_M_listen 9 = .ok (.ifCond .ne 5, 3) := by decide +kernel
theorem d_M_listen_12 : decode c_M_listen 12 = .ok (.iconst 0, 1) := by decide +kernel
theorem d_M_listen_13 : decode c_M_listen 13 = .ok (.ireturn, 1) := by decide +kernel
theorem d_M_listen_14 : decode c_M_listen 14 = .ok (.aload_n 0, 1) := by decide +kernel
theorem d_M_listen_15 : decode c_M_listen 15 = .ok (.iload_n 1, 1) := by decide +kernel
theorem d_M_listen_16 : decode c_M_listen 16 = .ok (.putfield 43, 3) := by decide +kernel
theorem d_M_listen_19 : decode c_M_listen 19 = .ok (.iconst 1, 1) := by decide +kernel
theorem d_M_listen_20 : decode c_M_listen 20 = .ok (.ireturn, 1) := by decide +kernel
theorem d_M_alarm_0 : decode c_M_alarm 0 = .ok (.iload_n 1, 1) := by decide +kernel
theorem d_M_alarm_1 : decode c_M_alarm 1 = .ok (.iconst (-1), 1) := by decide +kernel
theorem d_M_alarm_2 : decode c_M_alarm 2 = .ok (.if_icmp .ne 10, 3) := by decide +kernel
theorem d_M_alarm_5 : decode c_M_alarm 5 = .ok (.aload_n 0, 1) := by decide +kernel
theorem d_M_alarm_6 : decode c_M_alarm 6 = .ok (.iconst (-1), 1) := by decide +kernel
theorem d_M_alarm_7 : decode c_M_alarm 7 = .ok (.putfield 46, 3) := by decide +kernel
theorem d_M_alarm_10 : decode c_M_alarm 10 = .ok (.iconst 1, 1) := by decide +kernel
theorem d_M_alarm_11 : decode c_M_alarm 11 = .ok (.ireturn, 1) := by decide +kernel
theorem d_M_alarm_12 : decode c_M_alarm 12 = .ok (.iload_n 1, 1) := by decide +kernel
theorem d_M_alarm_13 : decode c_M_alarm 13 = .ok (.invokestatic 127, 3) := by decide +kernel
theorem d_M_alarm_16 : decode c_M_alarm 16 = .ok (.ifCond .eq 13, 3) := by decide +kernel
theorem d_M_alarm_19 : decode c_M_alarm 19 = .ok (.iload_n 2, 1) := by decide +kernel
theorem d_M_alarm_20 : decode c_M_alarm 20 = .ok (.ifCond .lt 9, 3) := by decide +kernel
theorem d_M_alarm_23 : decode c_M_alarm 23 = .ok (.iload_n 2, 1) := by decide +kernel
theorem d_M_alarm_24 : decode c_M_alarm 24 = .ok (.ldc 130, 2) := by decide +kernel
theorem d_M_alarm_26 : decode c_M_alarm 26 = .ok (.if_icmp .le 5, 3) := by decide +kernel
theorem d_M_alarm_29 : decode c_M_alarm 29 = .ok (.iconst 0, 1) := by decide +kernel
theorem d_M_alarm_30 : decode c_M_alarm 30 = .ok (.ireturn, 1) := by decide +kernel
theorem d_M_alarm_31 : decode c_M_alarm 31 = .ok (.aload_n 0, 1) := by decide +kernel
theorem d_M_alarm_32 : decode c_M_alarm 32 = .ok (.iload_n 1, 1) := by decide +kernel
theorem d_M_alarm_33 : decode c_M_alarm 33 = .ok (.putfield 46, 3) := by decide +kernel
theorem d_M_alarm_36 : decode c_M_alarm 36 = .ok (.aload_n 0, 1) := by decide +kernel
theorem d_M_alarm_37 : decode c_M_alarm 37 = .ok (.iload_n 2, 1) := by decide +kernel
theorem d_M_alarm_38 : decode c_M_alarm 38 = .ok (.putfield 100, 3) := by decide +kernel
theorem d_M_alarm_41 : decode c_M_alarm 41 = .ok (.iconst 1, 1) := by decide +kernel
theorem d_M_alarm_42 : decode c_M_alarm 42 = .ok (.ireturn, 1) := by decide +kernel
theorem d_M_word_0 : decode c_M_word 0 = .ok (.iload_n 1, 1) := by decide +kernel
theorem d_M_word_1 : decode c_M_word 1 = .ok (.ifCond .lt 18, 3) := by decide +kernel
theorem d_M_word_4 : decode c_M_word 4 = .ok (.iload_n 1, 1) := by decide +kernel
theorem d_M_word_5 : decode c_M_word 5 = .ok (.ldc 131, 2) := by decide +kernel
theorem d_M_word_7 : decode c_M_word 7 = .ok (.if_icmp .gt 12, 3) := by decide +kernel
theorem d_M_word_10 : decode c_M_word 10 = .ok (.aload_n 0, 1) := by decide +kernel
theorem d_M_word_11 : decode c_M_word 11 = .ok (.getfield 82, 3) := by decide +kernel
theorem d_M_word_14 : decode c_M_word 14 = .ok (.bipush 64, 2) := by decide +kernel
theorem d_M_word_16 : decode c_M_word 16 = .ok (.if_icmp .ne 5, 3) := by decide +kernel
theorem d_M_word_19 : decode c_M_word 19 = .ok (.iconst (-1), 1) := by decide +kernel
theorem d_M_word_20 : decode c_M_word 20 = .ok (.ireturn, 1) := by decide +kernel
theorem d_M_word_21 : decode c_M_word 21 = .ok (.aload_n 0, 1) := by decide +kernel
theorem d_M_word_22 : decode c_M_word 22 = .ok (.getfield 40, 3) := by decide +kernel
theorem d_M_word_25 : decode c_M_word 25 = .ok (.aload_n 0, 1) := by decide +kernel
theorem d_M_word_26 : decode c_M_word 26 = .ok (.getfield 82, 3) := by decide +kernel
theorem d_M_word_29 : decode c_M_word 29 = .ok (.iload_n 1, 1) := by decide +kernel
theorem d_M_word_30 : decode c_M_word 30 = .ok (.iastore, 1) := by decide +kernel
theorem d_M_word_31 : decode c_M_word 31 = .ok (.aload_n 0, 1) := by decide +kernel
theorem d_M_word_32 : decode c_M_word 32 = .ok (.aload_n 0, 1) := by decide +kernel
theorem d_M_word_33 : decode c_M_word 33 = .ok (.getfield 82, 3) := by decide +kernel
theorem d_M_word_36 : decode c_M_word 36 = .ok (.iconst 1, 1) := by decide +kernel
theorem d_M_word_37 : decode c_M_word 37 = .ok (.iadd, 1) := by decide +kernel
theorem d_M_word_38 : decode c_M_word 38 = .ok (.putfield 82, 3) := by decide +kernel
theorem d_M_word_41 : decode c_M_word 41 = .ok (.aload_n 0, 1) := by decide +kernel
theorem d_M_word_42 : decode c_M_word 42 = .ok (.aload_n 0, 1) := by decide +kernel
theorem d_M_word_43 : decode c_M_word 43 = .ok (.getfield 106, 3) := by decide +kernel
theorem d_M_word_46 : decode c_M_word 46 = .ok (.iconst 1, 1) := by decide +kernel
theorem d_M_word_47 : decode c_M_word 47 = .ok (.iadd, 1) := by decide +kernel
theorem d_M_word_48 : decode c_M_word 48 = .ok (.putfield 106, 3) := by decide +kernel
theorem d_M_word_51 : decode c_M_word 51 = .ok (.aload_n 0, 1) := by decide +kernel
theorem d_M_word_52 : decode c_M_word 52 = .ok (.getfield 82, 3) := by decide +kernel
theorem d_M_word_55 : decode c_M_word 55 = .ok (.ireturn, 1) := by decide +kernel
theorem d_M_active_0 : decode c_M_active 0 = .ok (.aload_n 0, 1) := by decide +kernel
theorem d_M_active_1 : decode c_M_active 1 = .ok (.getfield 33, 3) := by decide +kernel
theorem d_M_active_4 : decode c_M_active 4 = .ok (.ireturn, 1) := by decide +kernel
theorem d_M_present_0 : decode c_M_present 0 = .ok (.aload_n 0, 1) := by decide +kernel
theorem d_M_present_1 : decode c_M_present 1 = .ok (.invokevirtual 60, 3) := by decide +kernel
theorem d_M_present_4 : decode c_M_present 4 = .ok (.ireturn, 1) := by decide +kernel
theorem d_M_clock_0 : decode c_M_clock 0 = .ok (.aload_n 0, 1) := by decide +kernel
theorem d_M_clock_1 : decode c_M_clock 1 = .ok (.getfield 97, 3) := by decide +kernel
theorem d_M_clock_4 : decode c_M_clock 4 = .ok (.ireturn, 1) := by decide +kernel
theorem d_M_codes_0 : decode c_M_codes 0 = .ok (.aload_n 0, 1) := by decide +kernel
theorem d_M_codes_1 : decode c_M_codes 1 = .ok (.getfield 118, 3) := by decide +kernel
theorem d_M_codes_4 : decode c_M_codes 4 = .ok (.lreturn, 1) := by decide +kernel
theorem d_M_done_0 : decode c_M_done 0 = .ok (.aload_n 0, 1) := by decide +kernel
theorem d_M_done_1 : decode c_M_done 1 = .ok (.iload_n 1, 1) := by decide +kernel
theorem d_M_done_2 : decode c_M_done 2 = .ok (.invokevirtual 123, 3) := by decide +kernel
theorem d_M_done_5 : decode c_M_done 5 = .ok (.ifCond .eq 12, 3) := by decide +kernel
theorem d_M_done_8 : decode c_M_done 8 = .ok (.aload_n 0, 1) := by decide +kernel
theorem d_M_done_9 : decode c_M_done 9 = .ok (.getfield 20, 3) := by decide +kernel
theorem d_M_done_12 : decode c_M_done 12 = .ok (.iload_n 1, 1) := by decide +kernel
theorem d_M_done_13 : decode c_M_done 13 = .ok (.iaload, 1) := by decide +kernel
theorem d_M_done_14 : decode c_M_done 14 = .ok (.goto 4, 3) := by decide +kernel
theorem d_M_done_17 : decode c_M_done 17 = .ok (.iconst (-1), 1) := by decide +kernel
theorem d_M_done_18 : decode c_M_done 18 = .ok (.ireturn, 1) := by decide +kernel
theorem d_M_row_0 : decode c_M_row 0 = .ok (.aload_n 0, 1) := by decide +kernel
theorem d_M_row_1 : decode c_M_row 1 = .ok (.iload_n 1, 1) := by decide +kernel
theorem d_M_row_2 : decode c_M_row 2 = .ok (.invokevirtual 123, 3) := by decide +kernel
theorem d_M_row_5 : decode c_M_row 5 = .ok (.ifCond .eq 12, 3) := by decide +kernel
theorem d_M_row_8 : decode c_M_row 8 = .ok (.aload_n 0, 1) := by decide +kernel
theorem d_M_row_9 : decode c_M_row 9 = .ok (.getfield 23, 3) := by decide +kernel
theorem d_M_row_12 : decode c_M_row 12 = .ok (.iload_n 1, 1) := by decide +kernel
theorem d_M_row_13 : decode c_M_row 13 = .ok (.iaload, 1) := by decide +kernel
theorem d_M_row_14 : decode c_M_row 14 = .ok (.goto 4, 3) := by decide +kernel
theorem d_M_row_17 : decode c_M_row 17 = .ok (.iconst (-1), 1) := by decide +kernel
theorem d_M_row_18 : decode c_M_row 18 = .ok (.ireturn, 1) := by decide +kernel
theorem d_M_at_0 : decode c_M_at 0 = .ok (.iload_n 1, 1) := by decide +kernel
theorem d_M_at_1 : decode c_M_at 1 = .ok (.iconst 1, 1) := by decide +kernel
theorem d_M_at_2 : decode c_M_at 2 = .ok (.if_icmp .lt 9, 3) := by decide +kernel
theorem d_M_at_5 : decode c_M_at 5 = .ok (.iload_n 1, 1) := by decide +kernel
theorem d_M_at_6 : decode c_M_at 6 = .ok (.bipush 8, 2) := by decide +kernel
theorem d_M_at_8 : decode c_M_at 8 = .ok (.if_icmp .le 15, 3) := by decide +kernel
theorem d_M_at_11 : decode c_M_at 11 = .ok (.iload_n 1, 1) := by decide +kernel
theorem d_M_at_12 : decode c_M_at 12 = .ok (.bipush 16, 2) := by decide +kernel
theorem d_M_at_14 : decode c_M_at 14 = .ok (.if_icmp .lt 13, 3) := by decide +kernel
theorem d_M_at_17 : decode c_M_at 17 = .ok (.iload_n 1, 1) := by decide +kernel
theorem d_M_at_18 : decode c_M_at 18 = .ok (.bipush 31, 2) := by decide +kernel
theorem d_M_at_20 : decode c_M_at 20 = .ok (.if_icmp .gt 7, 3) := by decide +kernel
theorem d_M_at_23 : decode c_M_at 23 = .ok (.iconst 1, 1) := by decide +kernel
theorem d_M_at_24 : decode c_M_at 24 = .ok (.goto 4, 3) := by decide +kernel
theorem d_M_at_27 : decode c_M_at 27 = .ok (.iconst 0, 1) := by decide +kernel
theorem d_M_at_28 : decode c_M_at 28 = .ok (.istore_n 3, 1) := by decide +kernel
theorem d_M_at_29 : decode c_M_at 29 = .ok (.iload_n 3, 1) := by decide +kernel
theorem d_M_at_30 : decode c_M_at 30 = .ok (.ifCond .eq 7, 3) := by decide +kernel
theorem d_M_at_33 : decode c_M_at 33 = .ok (.iload_n 2, 1) := by decide +kernel
theorem d_M_at_34 : decode c_M_at 34 = .ok (.ifCond .ge 5, 3) := by decide +kernel
theorem d_M_at_37 : decode c_M_at 37 = .ok (.iconst (-1), 1) := by decide +kernel
theorem d_M_at_38 : decode c_M_at 38 = .ok (.ireturn, 1) := by decide +kernel
theorem d_M_at_39 : decode c_M_at 39 = .ok (.iconst 0, 1) := by decide +kernel
theorem d_M_at_40 : decode c_M_at 40 = .ok (.istore 4, 2) := by decide +kernel
theorem d_M_at_42 : decode c_M_at 42 = .ok (.iload 4, 2) := by decide +kernel
theorem d_M_at_44 : decode c_M_at 44 = .ok (.bipush 32, 2) := by decide +kernel
theorem d_M_at_46 : decode c_M_at 46 = .ok (.if_icmp .ge 108, 3) := by decide +kernel
theorem d_M_at_49 : decode c_M_at 49 = .ok (.iconst 0, 1) := by decide +kernel
theorem d_M_at_50 : decode c_M_at 50 = .ok (.istore 5, 2) := by decide +kernel
theorem d_M_at_52 : decode c_M_at 52 = .ok (.iconst 0, 1) := by decide +kernel
theorem d_M_at_53 : decode c_M_at 53 = .ok (.istore 6, 2) := by decide +kernel
theorem d_M_at_55 : decode c_M_at 55 = .ok (.iload 6, 2) := by decide +kernel
theorem d_M_at_57 : decode c_M_at 57 = .ok (.bipush 32, 2) := by decide +kernel
theorem d_M_at_59 : decode c_M_at 59 = .ok (.if_icmp .ge 59, 3) := by decide +kernel
theorem d_M_at_62 : decode c_M_at 62 = .ok (.aload_n 0, 1) := by decide +kernel
theorem d_M_at_63 : decode c_M_at 63 = .ok (.getfield 7, 3) := by decide +kernel
theorem d_M_at_66 : decode c_M_at 66 = .ok (.iload 6, 2) := by decide +kernel
theorem d_M_at_68 : decode c_M_at 68 = .ok (.baload, 1) := by decide +kernel
theorem d_M_at_69 : decode c_M_at 69 = .ok (.ifCond .eq 39, 3) := by decide +kernel
theorem d_M_at_72 : decode c_M_at 72 = .ok (.aload_n 0, 1) := by decide +kernel
theorem d_M_at_73 : decode c_M_at 73 = .ok (.getfield 23, 3) := by decide +kernel
theorem d_M_at_76 : decode c_M_at 76 = .ok (.iload 6, 2) := by decide +kernel
theorem d_M_at_78 : decode c_M_at 78 = .ok (.iaload, 1) := by decide +kernel
theorem d_M_at_79 : decode c_M_at 79 = .ok (.iload_n 1, 1) := by decide +kernel
theorem d_M_at_80 : decode c_M_at 80 = .ok (.if_icmp .ne 28, 3) := by decide +kernel
theorem d_M_at_83 : decode c_M_at 83 = .ok (.aload_n 0, 1) := by decide +kernel
theorem d_M_at_84 : decode c_M_at 84 = .ok (.getfield 26, 3) := by decide +kernel
theorem d_M_at_87 : decode c_M_at 87 = .ok (.iload 6, 2) := by decide +kernel
theorem d_M_at_89 : decode c_M_at 89 = .ok (.laload, 1) := by decide +kernel
theorem d_M_at_90 : decode c_M_at 90 = .ok (.aload_n 0, 1) := by decide +kernel
theorem d_M_at_91 : decode c_M_at 91 = .ok (.getfield 26, 3) := by decide +kernel
theorem d_M_at_94 : decode c_M_at 94 = .ok (.iload 4, 2) := by decide +kernel
theorem d_M_at_96 : decode c_M_at 96 = .ok (.laload, 1) := by decide +kernel
theorem d_M_at_97 : decode c_M_at 97 = .ok (.lcmp, 1) := by decide +kernel
theorem d_M_at_98 : decode c_M_at 98 = .ok (.ifCond .ge 10, 3) := by decide +kernel
theorem d_M_at_101 : decode c_M_at 101 = .ok (.iload 5, 2) := by decide +kernel
theorem d_M_at_103 : decode c_M_at 103 = .ok (.iconst 1, 1) := by decide +kernel
theorem d_M_at_104 : decode c_M_at 104 = .ok (.iadd, 1) := by decide +kernel
theorem d_M_at_105 : decode c_M_at 105 = .ok (.goto 5, 3) := by decide +kernel
theorem d_M_at_108 : decode c_M_at 108 = .ok (.iload 5, 2) := by decide +kernel
theorem d_M_at_110 : decode c_M_at 110 = .ok (.istore 5, 2) := by decide +kernel
theorem d_M_at_112 : decode c_M_at 112 = .ok (.iinc 6 1, 3) := by decide +kernel
theorem d_M_at_115 : decode c_M_at 115 = .ok (.goto (-60), 3) := by decide +kernel
theorem d_M_at_118 : decode c_M_at 118 = .ok (.aload_n 0, 1) := by decide +kernel
theorem d_M_at_119 : decode c_M_at 119 = .ok (.getfield 7, 3) := by decide +kernel
theorem d_M_at_122 : decode c_M_at 122 = .ok (.iload 4, 2) := by decide +kernel
theorem d_M_at_124 : decode c_M_at 124 = .ok (.baload, 1) := by decide +kernel
theorem d_M_at_125 : decode c_M_at 125 = .ok (.ifCond .eq 23, 3) := by decide +kernel
theorem d_M_at_128 : decode c_M_at 128 = .ok (.aload_n 0, 1) := by decide +kernel
theorem d_M_at_129 : decode c_M_at 129 = .ok (.getfield 23, 3) := by decide +kernel
theorem d_M_at_132 : decode c_M_at 132 = .ok (.iload 4, 2) := by decide +kernel
theorem d_M_at_134 : decode c_M_at 134 = .ok (.iaload, 1) := by decide +kernel
theorem d_M_at_135 : decode c_M_at 135 = .ok (.iload_n 1, 1) := by decide +kernel
theorem d_M_at_136 : decode c_M_at 136 = .ok (.if_icmp .ne 12, 3) := by decide +kernel
theorem d_M_at_139 : decode c_M_at 139 = .ok (.iload 5, 2) := by decide +kernel
theorem d_M_at_141 : decode c_M_at 141 = .ok (.iload_n 2, 1) := by decide +kernel
theorem d_M_at_142 : decode c_M_at 142 = .ok (.if_icmp .ne 6, 3) := by decide +kernel
theorem d_M_at_145 : decode c_M_at 145 = .ok (.iload 4, 2) := by decide +kernel
theorem d_M_at_147 : decode c_M_at 147 = .ok (.ireturn, 1) := by decide +kernel
theorem d_M_at_148 : decode c_M_at 148 = .ok (.iinc 4 1, 3) := by decide +kernel
theorem d_M_at_151 : decode c_M_at 151 = .ok (.goto (-109), 3) := by decide +kernel
theorem d_M_at_154 : decode c_M_at 154 = .ok (.iconst (-1), 1) := by decide +kernel
theorem d_M_at_155 : decode c_M_at 155 = .ok (.ireturn, 1) := by decide +kernel
theorem d_M_extra_0 : decode c_M_extra 0 = .ok (.iload_n 1, 1) := by decide +kernel
theorem d_M_extra_1 : decode c_M_extra 1 = .ok (.invokestatic 127, 3) := by decide +kernel
theorem d_M_extra_4 : decode c_M_extra 4 = .ok (.ifCond .eq 12, 3) := by decide +kernel
theorem d_M_extra_7 : decode c_M_extra 7 = .ok (.aload_n 0, 1) := by decide +kernel
theorem d_M_extra_8 : decode c_M_extra 8 = .ok (.getfield 30, 3) := by decide +kernel
theorem d_M_extra_11 : decode c_M_extra 11 = .ok (.iload_n 1, 1) := by decide +kernel
theorem d_M_extra_12 : decode c_M_extra 12 = .ok (.iaload, 1) := by decide +kernel
theorem d_M_extra_13 : decode c_M_extra 13 = .ok (.goto 4, 3) := by decide +kernel
theorem d_M_extra_16 : decode c_M_extra 16 = .ok (.iconst (-1), 1) := by decide +kernel
theorem d_M_extra_17 : decode c_M_extra 17 = .ok (.ireturn, 1) := by decide +kernel
theorem d_M_wordAt_0 : decode c_M_wordAt 0 = .ok (.iload_n 1, 1) := by decide +kernel
theorem d_M_wordAt_1 : decode c_M_wordAt 1 = .ok (.ifCond .lt 20, 3) := by decide +kernel
theorem d_M_wordAt_4 : decode c_M_wordAt 4 = .ok (.iload_n 1, 1) := by decide +kernel
theorem d_M_wordAt_5 : decode c_M_wordAt 5 = .ok (.aload_n 0, 1) := by decide +kernel
theorem d_M_wordAt_6 : decode c_M_wordAt 6 = .ok (.getfield 82, 3) := by decide +kernel
theorem d_M_wordAt_9 : decode c_M_wordAt 9 = .ok (.if_icmp .ge 12, 3) := by decide +kernel
theorem d_M_wordAt_12 : decode c_M_wordAt 12 = .ok (.aload_n 0, 1) := by decide +kernel
theorem d_M_wordAt_13 : decode c_M_wordAt 13 = .ok (.getfield 40, 3) := by decide +kernel
theorem d_M_wordAt_16 : decode c_M_wordAt 16 = .ok (.iload_n 1, 1) := by decide +kernel
theorem d_M_wordAt_17 : decode c_M_wordAt 17 = .ok (.iaload, 1) := by decide +kernel
theorem d_M_wordAt_18 : decode c_M_wordAt 18 = .ok (.goto 4, 3) := by decide +kernel
theorem d_M_wordAt_21 : decode c_M_wordAt 21 = .ok (.iconst (-1), 1) := by decide +kernel
theorem d_M_wordAt_22 : decode c_M_wordAt 22 = .ok (.ireturn, 1) := by decide +kernel
theorem d_M_input_0 : decode c_M_input 0 = .ok (.aload_n 0, 1) := by decide +kernel
theorem d_M_input_1 : decode c_M_input 1 = .ok (.getfield 43, 3) := by decide +kernel
theorem d_M_input_4 : decode c_M_input 4 = .ok (.ireturn, 1) := by decide +kernel
theorem d_M_tick_0 : decode c_M_tick 0 = .ok (.aload_n 0, 1) := by decide +kernel
theorem d_M_tick_1 : decode c_M_tick 1 = .ok (.getfield 46, 3) := by decide +kernel
theorem d_M_tick_4 : decode c_M_tick 4 = .ok (.ifCond .lt 10, 3) := by decide +kernel
theorem d_M_tick_7 : decode c_M_tick 7 = .ok (.aload_n 0, 1) := by decide +kernel
theorem d_M_tick_8 : decode c_M_tick 8 = .ok (.getfield 100, 3) := by decide +kernel
theorem d_M_tick_11 : decode c_M_tick 11 = .ok (.goto 4, 3) := by decide +kernel
theorem d_M_tick_14 : decode c_M_tick 14 = .ok (.iconst (-1), 1) := by decide +kernel
theorem d_M_tick_15 : decode c_M_tick 15 = .ok (.ireturn, 1) := by decide +kernel
end
section
theorem d_L_law_0 : decode c_L_law 0 = .ok (.new 7, 3) := by decide +kernel
theorem d_L_law_3 : decode c_L_law 3 = .ok (.dup, 1) := by decide +kernel
theorem d_L_law_4 : decode c_L_law 4 = .ok (.invokespecial 9, 3) := by decide +kernel
theorem d_L_law_7 : decode c_L_law 7 = .ok (.astore_n 1, 1) := by decide +kernel
theorem d_L_law_8 : decode c_L_law 8 = .ok (.new 10, 3) := by decide +kernel
theorem d_L_law_11 : decode c_L_law 11 = .ok (.dup, 1) := by decide +kernel
theorem d_L_law_12 : decode c_L_law 12 = .ok (.invokespecial 12, 3) := by decide +kernel
theorem d_L_law_15 : decode c_L_law 15 = .ok (.astore_n 2, 1) := by decide +kernel
theorem d_L_law_16 : decode c_L_law 16 = .ok (.iconst 0, 1) := by decide +kernel
theorem d_L_law_17 : decode c_L_law 17 = .ok (.istore_n 3, 1) := by decide +kernel
theorem d_L_law_18 : decode c_L_law 18 = .ok (.iload_n 3, 1) := by decide +kernel
theorem d_L_law_19 : decode c_L_law 19 = .ok (.aload_n 0, 1) := by decide +kernel
theorem d_L_law_20 : decode c_L_law 20 = .ok (.arraylength, 1) := by decide +kernel
theorem d_L_law_21 : decode c_L_law 21 = .ok (.iconst 4, 1) := by decide +kernel
theorem d_L_law_22 : decode c_L_law 22 = .ok (.isub, 1) := by decide +kernel
theorem d_L_law_23 : decode c_L_law 23 = .ok (.if_icmp .gt 552, 3) := by decide +kernel
theorem d_L_law_26 : decode c_L_law 26 = .ok (.aload_n 0, 1) := by decide +kernel
theorem d_L_law_27 : decode c_L_law 27 = .ok (.iload_n 3, 1) := by decide +kernel
theorem d_L_law_28 : decode c_L_law 28 = .ok (.iaload, 1) := by decide +kernel
theorem d_L_law_29 : decode c_L_law 29 = .ok (.bipush 31, 2) := by decide +kernel
theorem d_L_law_31 : decode c_L_law 31 = .ok (.iand, 1) := by decide +kernel
theorem d_L_law_32 : decode c_L_law 32 = .ok (.tableswitch 537 0 19 #[96, 129, 172, 195, 208, 231, 254, 287, 310, 333, 346, 359, 372, 386, 409, 432, 465, 488, 511, 524], 96) := by decide +kernel
theorem d_L_law_128 : decode c_L_law 128 = .ok (.aload_n 1, 1) := by decide +kernel
theorem d_L_law_129 : decode c_L_law 129 = .ok (.aload_n 0, 1) := by decide +kernel
theorem d_L_law_130 : decode c_L_law 130 = .ok (.iload_n 3, 1) := by decide +kernel
theorem d_L_law_131 : decode c_L_law 131 = .ok (.iconst 1, 1) := by decide +kernel
theorem d_L_law_132 : decode c_L_law 132 = .ok (.iadd, 1) := by decide +kernel
theorem d_L_law_133 : decode c_L_law 133 = .ok (.iaload, 1) := by decide +kernel
theorem d_L_law_134 : decode c_L_law 134 = .ok (.aload_n 0, 1) := by decide +kernel
theorem d_L_law_135 : decode c_L_law 135 = .ok (.iload_n 3, 1) := by decide +kernel
theorem d_L_law_136 : decode c_L_law 136 = .ok (.iconst 2, 1) := by decide +kernel
theorem d_L_law_137 : decode c_L_law 137 = .ok (.iadd, 1) := by decide +kernel
theorem d_L_law_138 : decode c_L_law 138 = .ok (.iaload, 1) := by decide +kernel
theorem d_L_law_139 : decode c_L_law 139 = .ok (.invokevirtual 13, 3) := by decide +kernel
theorem d_L_law_142 : decode c_L_law 142 = .ok (.aload_n 2, 1) := by decide +kernel
theorem d_L_law_143 : decode c_L_law 143 = .ok (.aload_n 0, 1) := by decide +kernel
theorem d_L_law_144 : decode c_L_law 144 = .ok (.iload_n 3, 1) := by decide +kernel
theorem d_L_law_145 : decode c_L_law 145 = .ok (.iconst 1, 1) := by decide +kernel
theorem d_L_law_146 : decode c_L_law 146 = .ok (.iadd, 1) := by decide +kernel
theorem d_L_law_147 : decode c_L_law 147 = .ok (.iaload, 1) := by decide +kernel
theorem d_L_law_148 : decode c_L_law 148 = .ok (.aload_n 0, 1) := by decide +kernel
theorem d_L_law_149 : decode c_L_law 149 = .ok (.iload_n 3, 1) := by decide +kernel
theorem d_L_law_150 : decode c_L_law 150 = .ok (.iconst 2, 1) := by decide +kernel
theorem d_L_law_151 : decode c_L_law 151 = .ok (.iadd, 1) := by decide +kernel
theorem d_L_law_152 : decode c_L_law 152 = .ok (.iaload, 1) := by decide +kernel
theorem d_L_law_153 : decode c_L_law 153 = .ok (.invokevirtual 17, 3) := by decide +kernel
theorem d_L_law_156 : decode c_L_law 156 = .ok (.if_icmp .eq 413, 3) := by decide +kernel
theorem d_L_law_159 : decode c_L_law 159 = .ok (.iconst 0, 1) := by decide +kernel
theorem d_L_law_160 : decode c_L_law 160 = .ok (.ireturn, 1) := by decide +kernel
theorem d_L_law_161 : decode c_L_law 161 = .ok (.aload_n 1, 1) := by decide +kernel
theorem d_L_law_162 : decode c_L_law 162 = .ok (.aload_n 0, 1) := by decide +kernel
theorem d_L_law_163 : decode c_L_law 163 = .ok (.iload_n 3, 1) := by decide +kernel
theorem d_L_law_164 : decode c_L_law 164 = .ok (.iconst 1, 1) := by decide +kernel
theorem d_L_law_165 : decode c_L_law 165 = .ok (.iadd, 1) := by decide +kernel
theorem d_L_law_166 : decode c_L_law 166 = .ok (.iaload, 1) := by decide +kernel
theorem d_L_law_167 : decode c_L_law 167 = .ok (.aload_n 0, 1) := by decide +kernel
theorem d_L_law_168 : decode c_L_law 168 = .ok (.iload_n 3, 1) := by decide +kernel
theorem d_L_law_169 : decode c_L_law 169 = .ok (.iconst 2, 1) := by decide +kernel
theorem d_L_law_170 : decode c_L_law 170 = .ok (.iadd, 1) := by decide +kernel
theorem d_L_law_171 : decode c_L_law 171 = .ok (.iaload, 1) := by decide +kernel
theorem d_L_law_172 : decode c_L_law 172 = .ok (.aload_n 0, 1) := by decide +kernel
theorem d_L_law_173 : decode c_L_law 173 = .ok (.iload_n 3, 1) := by decide +kernel
theorem d_L_law_174 : decode c_L_law 174 = .ok (.iconst 3, 1) := by decide +kernel
theorem d_L_law_175 : decode c_L_law 175 = .ok (.iadd, 1) := by decide +kernel
theorem d_L_law_176 : decode c_L_law 176 = .ok (.iaload, 1) := by decide +kernel
theorem d_L_law_177 : decode c_L_law 177 = .ok (.invokevirtual 18, 3) := by decide +kernel
theorem d_L_law_180 : decode c_L_law 180 = .ok (.aload_n 2, 1) := by decide +kernel
theorem d_L_law_181 : decode c_L_law 181 = .ok (.aload_n 0, 1) := by decide +kernel
theorem d_L_law_182 : decode c_L_law 182 = .ok (.iload_n 3, 1) := by decide +kernel
theorem d_L_law_183 : decode c_L_law 183 = .ok (.iconst 1, 1) := by decide +kernel
theorem d_L_law_184 : decode c_L_law 184 = .ok (.iadd, 1) := by decide +kernel
theorem d_L_law_185 : decode c_L_law 185 = .ok (.iaload, 1) := by decide +kernel
theorem d_L_law_186 : decode c_L_law 186 = .ok (.aload_n 0, 1) := by decide +kernel
theorem d_L_law_187 : decode c_L_law 187 = .ok (.iload_n 3, 1) := by decide +kernel
theorem d_L_law_188 : decode c_L_law 188 = .ok (.iconst 2, 1) := by decide +kernel
theorem d_L_law_189 : decode c_L_law 189 = .ok (.iadd, 1) := by decide +kernel
theorem d_L_law_190 : decode c_L_law 190 = .ok (.iaload, 1) := by decide +kernel
theorem d_L_law_191 : decode c_L_law 191 = .ok (.aload_n 0, 1) := by decide +kernel
theorem d_L_law_192 : decode c_L_law 192 = .ok (.iload_n 3, 1) := by decide +kernel
theorem d_L_law_193 : decode c_L_law 193 = .ok (.iconst 3, 1) := by decide +kernel
theorem d_L_law_194 : decode c_L_law 194 = .ok (.iadd, 1) := by decide +kernel
theorem d_L_law_195 : decode c_L_law 195 = .ok (.iaload, 1) := by decide +kernel
theorem d_L_law_196 : decode c_L_law 196 = .ok (.invokevirtual 22, 3) := by decide +kernel
theorem d_L_law_199 : decode c_L_law 199 = .ok (.if_icmp .eq 370, 3) := by decide +kernel
theorem d_L_law_202 : decode c_L_law 202 = .ok (.iconst 0, 1) := by decide +kernel
theorem d_L_law_203 : decode c_L_law 203 = .ok (.ireturn, 1) := by decide +kernel
theorem d_L_law_204 : decode c_L_law 204 = .ok (.aload_n 1, 1) := by decide +kernel
theorem d_L_law_205 : decode c_L_law 205 = .ok (.aload_n 0, 1) := by decide +kernel
theorem d_L_law_206 : decode c_L_law 206 = .ok (.iload_n 3, 1) := by decide +kernel
theorem d_L_law_207 : decode c_L_law 207 = .ok (.iconst 1, 1) := by decide +kernel
theorem d_L_law_208 : decode c_L_law 208 = .ok (.iadd, 1) := by decide +kernel
theorem d_L_law_209 : decode c_L_law 209 = .ok (.iaload, 1) := by decide +kernel
theorem d_L_law_210 : decode c_L_law 210 = .ok (.invokevirtual 23, 3) := by decide +kernel
theorem d_L_law_213 : decode c_L_law 213 = .ok (.aload_n 2, 1) := by decide +kernel
theorem d_L_law_214 : decode c_L_law 214 = .ok (.aload_n 0, 1) := by decide +kernel
theorem d_L_law_215 : decode c_L_law 215 = .ok (.iload_n 3, 1) := by decide +kernel
theorem d_L_law_216 : decode c_L_law 216 = .ok (.iconst 1, 1) := by decide +kernel
theorem d_L_law_217 : decode c_L_law 217 = .ok (.iadd, 1) := by decide +kernel
theorem d_L_law_218 : decode c_L_law 218 = .ok (.iaload, 1) := by decide +kernel
theorem d_L_law_219 : decode c_L_law 219 = .ok (.invokevirtual 27, 3) := by decide +kernel
theorem d_L_law_222 : decode c_L_law 222 = .ok (.if_icmp .eq 347, 3) := by decide +kernel
theorem d_L_law_225 : decode c_L_law 225 = .ok (.iconst 0, 1) := by decide +kernel
theorem d_L_law_226 : decode c_L_law 226 = .ok (.ireturn, 1) := by decide +kernel
theorem d_L_law_227 : decode c_L_law 227 = .ok (.aload_n 1, 1) := by decide +kernel
theorem d_L_law_228 : decode c_L_law 228 = .ok (.invokevirtual 28, 3) := by decide +kernel
theorem d_L_law_231 : decode c_L_law 231 = .ok (.aload_n 2, 1) := by decide +kernel
theorem d_L_law_232 : decode c_L_law 232 = .ok (.invokevirtual 32, 3) := by decide +kernel
theorem d_L_law_235 : decode c_L_law 235 = .ok (.if_icmp .eq 334, 3) := by decide +kernel
theorem d_L_law_238 : decode c_L_law 238 = .ok (.iconst 0, 1) := by decide +kernel
theorem d_L_law_239 : decode c_L_law 239 = .ok (.ireturn, 1) := by decide +kernel
theorem d_L_law_240 : decode c_L_law 240 = .ok (.aload_n 1, 1) := by decide +kernel
theorem d_L_law_241 : decode c_L_law 241 = .ok (.aload_n 0, 1) := by decide +kernel
theorem d_L_law_242 : decode c_L_law 242 = .ok (.iload_n 3, 1) := by decide +kernel
theorem d_L_law_243 : decode c_L_law 243 = .ok (.iconst 1, 1) := by decide +kernel
theorem d_L_law_244 : decode c_L_law 244 = .ok (.iadd, 1) := by decide +kernel
theorem d_L_law_245 : decode c_L_law 245 = .ok (.iaload, 1) := by decide +kernel
theorem d_L_law_246 : decode c_L_law 246 = .ok (.invokevirtual 33, 3) := by decide +kernel
theorem d_L_law_249 : decode c_L_law 249 = .ok (.aload_n 2, 1) := by decide +kernel
theorem d_L_law_250 : decode c_L_law 250 = .ok (.aload_n 0, 1) := by decide +kernel
theorem d_L_law_251 : decode c_L_law 251 = .ok (.iload_n 3, 1) := by decide +kernel
theorem d_L_law_252 : decode c_L_law 252 = .ok (.iconst 1, 1) := by decide +kernel
theorem d_L_law_253 : decode c_L_law 253 = .ok (.iadd, 1) := by decide +kernel
theorem d_L_law_254 : decode c_L_law 254 = .ok (.iaload, 1) := by decide +kernel
theorem d_L_law_255 : decode c_L_law 255 = .ok (.invokevirtual 36, 3) := by decide +kernel
theorem d_L_law_258 : decode c_L_law 258 = .ok (.if_icmp .eq 311, 3) := by decide +kernel
theorem d_L_law_261 : decode c_L_law 261 = .ok (.iconst 0, 1) := by decide +kernel
theorem d_L_law_262 : decode c_L_law 262 = .ok (.ireturn, 1) := by decide +kernel
theorem d_L_law_263 : decode c_L_law 263 = .ok (.aload_n 1, 1) := by decide +kernel
theorem d_L_law_264 : decode c_L_law 264 = .ok (.aload_n 0, 1) := by decide +kernel
theorem d_L_law_265 : decode c_L_law 265 = .ok (.iload_n 3, 1) := by decide +kernel
theorem d_L_law_266 : decode c_L_law 266 = .ok (.iconst 1, 1) := by decide +kernel
theorem d_L_law_267 : decode c_L_law 267 = .ok (.iadd, 1) := by decide +kernel
theorem d_L_law_268 : decode c_L_law 268 = .ok (.iaload, 1) := by decide +kernel
theorem d_L_law_269 : decode c_L_law 269 = .ok (.invokevirtual 37, 3) := by decide +kernel
theorem d_L_law_272 : decode c_L_law 272 = .ok (.aload_n 2, 1) := by decide +kernel
theorem d_L_law_273 : decode c_L_law 273 = .ok (.aload_n 0, 1) := by decide +kernel
theorem d_L_law_274 : decode c_L_law 274 = .ok (.iload_n 3, 1) := by decide +kernel
theorem d_L_law_275 : decode c_L_law 275 = .ok (.iconst 1, 1) := by decide +kernel
theorem d_L_law_276 : decode c_L_law 276 = .ok (.iadd, 1) := by decide +kernel
theorem d_L_law_277 : decode c_L_law 277 = .ok (.iaload, 1) := by decide +kernel
theorem d_L_law_278 : decode c_L_law 278 = .ok (.invokevirtual 40, 3) := by decide +kernel
theorem d_L_law_281 : decode c_L_law 281 = .ok (.if_icmp .eq 288, 3) := by decide +kernel
theorem d_L_law_284 : decode c_L_law 284 = .ok (.iconst 0, 1) := by decide +kernel
theorem d_L_law_285 : decode c_L_law 285 = .ok (.ireturn, 1) := by decide +kernel
theorem d_L_law_286 : decode c_L_law 286 = .ok (.aload_n 1, 1) := by decide +kernel
theorem d_L_law_287 : decode c_L_law 287 = .ok (.aload_n 0, 1) := by decide +kernel
theorem d_L_law_288 : decode c_L_law 288 = .ok (.iload_n 3, 1) := by decide +kernel
theorem d_L_law_289 : decode c_L_law 289 = .ok (.iconst 1, 1) := by decide +kernel
theorem d_L_law_290 : decode c_L_law 290 = .ok (.iadd, 1) := by decide +kernel
theorem d_L_law_291 : decode c_L_law 291 = .ok (.iaload, 1) := by decide +kernel
theorem d_L_law_292 : decode c_L_law 292 = .ok (.aload_n 0, 1) := by decide +kernel
theorem d_L_law_293 : decode c_L_law 293 = .ok (.iload_n 3, 1) := by decide +kernel
theorem d_L_law_294 : decode c_L_law 294 = .ok (.iconst 2, 1) := by decide +kernel
theorem d_L_law_295 : decode c_L_law 295 = .ok (.iadd, 1) := by decide +kernel
theorem d_L_law_296 : decode c_L_law 296 = .ok (.iaload, 1) := by decide +kernel
theorem d_L_law_297 : decode c_L_law 297 = .ok (.invokevirtual 41, 3) := by decide +kernel
theorem d_L_law_300 : decode c_L_law 300 = .ok (.aload_n 2, 1) := by decide +kernel
theorem d_L_law_301 : decode c_L_law 301 = .ok (.aload_n 0, 1) := by decide +kernel
theorem d_L_law_302 : decode c_L_law 302 = .ok (.iload_n 3, 1) := by decide +kernel
theorem d_L_law_303 : decode c_L_law 303 = .ok (.iconst 1, 1) := by decide +kernel
theorem d_L_law_304 : decode c_L_law 304 = .ok (.iadd, 1) := by decide +kernel
theorem d_L_law_305 : decode c_L_law 305 = .ok (.iaload, 1) := by decide +kernel
theorem d_L_law_306 : decode c_L_law 306 = .ok (.aload_n 0, 1) := by decide +kernel
theorem d_L_law_307 : decode c_L_law 307 = .ok (.iload_n 3, 1) := by decide +kernel
theorem d_L_law_308 : decode c_L_law 308 = .ok (.iconst 2, 1) := by decide +kernel
theorem d_L_law_309 : decode c_L_law 309 = .ok (.iadd, 1) := by decide +kernel
theorem d_L_law_310 : decode c_L_law 310 = .ok (.iaload, 1) := by decide +kernel
theorem d_L_law_311 : decode c_L_law 311 = .ok (.invokevirtual 44, 3) := by decide +kernel
theorem d_L_law_314 : decode c_L_law 314 = .ok (.if_icmp .eq 255, 3) := by decide +kernel
theorem d_L_law_317 : decode c_L_law 317 = .ok (.iconst 0, 1) := by decide +kernel
theorem d_L_law_318 : decode c_L_law 318 = .ok (.ireturn, 1) := by decide +kernel
theorem d_L_law_319 : decode c_L_law 319 = .ok (.aload_n 1, 1) := by decide +kernel
theorem d_L_law_320 : decode c_L_law 320 = .ok (.aload_n 0, 1) := by decide +kernel
theorem d_L_law_321 : decode c_L_law 321 = .ok (.iload_n 3, 1) := by decide +kernel
theorem d_L_law_322 : decode c_L_law 322 = .ok (.iconst 1, 1) := by decide +kernel
theorem d_L_law_323 : decode c_L_law 323 = .ok (.iadd, 1) := by decide +kernel
theorem d_L_law_324 : decode c_L_law 324 = .ok (.iaload, 1) := by decide +kernel
theorem d_L_law_325 : decode c_L_law 325 = .ok (.invokevirtual 45, 3) := by decide +kernel
theorem d_L_law_328 : decode c_L_law 328 = .ok (.aload_n 2, 1) := by decide +kernel
theorem d_L_law_329 : decode c_L_law 329 = .ok (.aload_n 0, 1) := by decide +kernel
theorem d_L_law_330 : decode c_L_law 330 = .ok (.iload_n 3, 1) := by decide +kernel
theorem d_L_law_331 : decode c_L_law 331 = .ok (.iconst 1, 1) := by decide +kernel
theorem d_L_law_332 : decode c_L_law 332 = .ok (.iadd, 1) := by decide +kernel
theorem d_L_law_333 : decode c_L_law 333 = .ok (.iaload, 1) := by decide +kernel
theorem d_L_law_334 : decode c_L_law 334 = .ok (.invokevirtual 49, 3) := by decide +kernel
theorem d_L_law_337 : decode c_L_law 337 = .ok (.if_icmp .eq 232, 3) := by decide +kernel
theorem d_L_law_340 : decode c_L_law 340 = .ok (.iconst 0, 1) := by decide +kernel
theorem d_L_law_341 : decode c_L_law 341 = .ok (.ireturn, 1) := by decide +kernel
theorem d_L_law_342 : decode c_L_law 342 = .ok (.aload_n 1, 1) := by decide +kernel
theorem d_L_law_343 : decode c_L_law 343 = .ok (.aload_n 0, 1) := by decide +kernel
theorem d_L_law_344 : decode c_L_law 344 = .ok (.iload_n 3, 1) := by decide +kernel
theorem d_L_law_345 : decode c_L_law 345 = .ok (.iconst 1, 1) := by decide +kernel
theorem d_L_law_346 : decode c_L_law 346 = .ok (.iadd, 1) := by decide +kernel
theorem d_L_law_347 : decode c_L_law 347 = .ok (.iaload, 1) := by decide +kernel
theorem d_L_law_348 : decode c_L_law 348 = .ok (.invokevirtual 50, 3) := by decide +kernel
theorem d_L_law_351 : decode c_L_law 351 = .ok (.aload_n 2, 1) := by decide +kernel
theorem d_L_law_352 : decode c_L_law 352 = .ok (.aload_n 0, 1) := by decide +kernel
theorem d_L_law_353 : decode c_L_law 353 = .ok (.iload_n 3, 1) := by decide +kernel
theorem d_L_law_354 : decode c_L_law 354 = .ok (.iconst 1, 1) := by decide +kernel
theorem d_L_law_355 : decode c_L_law 355 = .ok (.iadd, 1) := by decide +kernel
theorem d_L_law_356 : decode c_L_law 356 = .ok (.iaload, 1) := by decide +kernel
theorem d_L_law_357 : decode c_L_law 357 = .ok (.invokevirtual 53, 3) := by decide +kernel
theorem d_L_law_360 : decode c_L_law 360 = .ok (.if_icmp .eq 209, 3) := by decide +kernel
theorem d_L_law_363 : decode c_L_law 363 = .ok (.iconst 0, 1) := by decide +kernel
theorem d_L_law_364 : decode c_L_law 364 = .ok (.ireturn, 1) := by decide +kernel
theorem d_L_law_365 : decode c_L_law 365 = .ok (.aload_n 1, 1) := by decide +kernel
theorem d_L_law_366 : decode c_L_law 366 = .ok (.invokevirtual 54, 3) := by decide +kernel
theorem d_L_law_369 : decode c_L_law 369 = .ok (.aload_n 2, 1) := by decide +kernel
theorem d_L_law_370 : decode c_L_law 370 = .ok (.invokevirtual 57, 3) := by decide +kernel
theorem d_L_law_373 : decode c_L_law 373 = .ok (.if_icmp .eq 196, 3) := by decide +kernel
theorem d_L_law_376 : decode c_L_law 376 = .ok (.iconst 0, 1) := by decide +kernel
theorem d_L_law_377 : decode c_L_law 377 = .ok (.ireturn, 1) := by decide +kernel
theorem d_L_law_378 : decode c_L_law 378 = .ok (.aload_n 1, 1) := by decide +kernel
theorem d_L_law_379 : decode c_L_law 379 = .ok (.invokevirtual 58, 3) := by decide +kernel
theorem d_L_law_382 : decode c_L_law 382 = .ok (.aload_n 2, 1) := by decide +kernel
theorem d_L_law_383 : decode c_L_law 383 = .ok (.invokevirtual 61, 3) := by decide +kernel
theorem d_L_law_386 : decode c_L_law 386 = .ok (.if_icmp .eq 183, 3) := by decide +kernel
theorem d_L_law_389 : decode c_L_law 389 = .ok (.iconst 0, 1) := by decide +kernel
theorem d_L_law_390 : decode c_L_law 390 = .ok (.ireturn, 1) := by decide +kernel
theorem d_L_law_391 : decode c_L_law 391 = .ok (.aload_n 1, 1) := by decide +kernel
theorem d_L_law_392 : decode c_L_law 392 = .ok (.invokevirtual 62, 3) := by decide +kernel
theorem d_L_law_395 : decode c_L_law 395 = .ok (.aload_n 2, 1) := by decide +kernel
theorem d_L_law_396 : decode c_L_law 396 = .ok (.invokevirtual 65, 3) := by decide +kernel
theorem d_L_law_399 : decode c_L_law 399 = .ok (.if_icmp .eq 170, 3) := by decide +kernel
theorem d_L_law_402 : decode c_L_law 402 = .ok (.iconst 0, 1) := by decide +kernel
theorem d_L_law_403 : decode c_L_law 403 = .ok (.ireturn, 1) := by decide +kernel
theorem d_L_law_404 : decode c_L_law 404 = .ok (.aload_n 1, 1) := by decide +kernel
theorem d_L_law_405 : decode c_L_law 405 = .ok (.invokevirtual 66, 3) := by decide +kernel
theorem d_L_law_408 : decode c_L_law 408 = .ok (.aload_n 2, 1) := by decide +kernel
theorem d_L_law_409 : decode c_L_law 409 = .ok (.invokevirtual 70, 3) := by decide +kernel
theorem d_L_law_412 : decode c_L_law 412 = .ok (.lcmp, 1) := by decide +kernel
theorem d_L_law_413 : decode c_L_law 413 = .ok (.ifCond .eq 156, 3) := by decide +kernel
theorem d_L_law_416 : decode c_L_law 416 = .ok (.iconst 0, 1) := by decide +kernel
theorem d_L_law_417 : decode c_L_law 417 = .ok (.ireturn, 1) := by decide +kernel
theorem d_L_law_418 : decode c_L_law 418 = .ok (.aload_n 1, 1) := by decide +kernel
theorem d_L_law_419 : decode c_L_law 419 = .ok (.aload_n 0, 1) := by decide +kernel
theorem d_L_law_420 : decode c_L_law 420 = .ok (.iload_n 3, 1) := by decide +kernel
theorem d_L_law_421 : decode c_L_law 421 = .ok (.iconst 1, 1) := by decide +kernel
theorem d_L_law_422 : decode c_L_law 422 = .ok (.iadd, 1) := by decide +kernel
theorem d_L_law_423 : decode c_L_law 423 = .ok (.iaload, 1) := by decide +kernel
theorem d_L_law_424 : decode c_L_law 424 = .ok (.invokevirtual 71, 3) := by decide +kernel
theorem d_L_law_427 : decode c_L_law 427 = .ok (.aload_n 2, 1) := by decide +kernel
theorem d_L_law_428 : decode c_L_law 428 = .ok (.aload_n 0, 1) := by decide +kernel
theorem d_L_law_429 : decode c_L_law 429 = .ok (.iload_n 3, 1) := by decide +kernel
theorem d_L_law_430 : decode c_L_law 430 = .ok (.iconst 1, 1) := by decide +kernel
theorem d_L_law_431 : decode c_L_law 431 = .ok (.iadd, 1) := by decide +kernel
theorem d_L_law_432 : decode c_L_law 432 = .ok (.iaload, 1) := by decide +kernel
theorem d_L_law_433 : decode c_L_law 433 = .ok (.invokevirtual 74, 3) := by decide +kernel
theorem d_L_law_436 : decode c_L_law 436 = .ok (.if_icmp .eq 133, 3) := by decide +kernel
theorem d_L_law_439 : decode c_L_law 439 = .ok (.iconst 0, 1) := by decide +kernel
theorem d_L_law_440 : decode c_L_law 440 = .ok (.ireturn, 1) := by decide +kernel
theorem d_L_law_441 : decode c_L_law 441 = .ok (.aload_n 1, 1) := by decide +kernel
theorem d_L_law_442 : decode c_L_law 442 = .ok (.aload_n 0, 1) := by decide +kernel
theorem d_L_law_443 : decode c_L_law 443 = .ok (.iload_n 3, 1) := by decide +kernel
theorem d_L_law_444 : decode c_L_law 444 = .ok (.iconst 1, 1) := by decide +kernel
theorem d_L_law_445 : decode c_L_law 445 = .ok (.iadd, 1) := by decide +kernel
theorem d_L_law_446 : decode c_L_law 446 = .ok (.iaload, 1) := by decide +kernel
theorem d_L_law_447 : decode c_L_law 447 = .ok (.invokevirtual 75, 3) := by decide +kernel
theorem d_L_law_450 : decode c_L_law 450 = .ok (.aload_n 2, 1) := by decide +kernel
theorem d_L_law_451 : decode c_L_law 451 = .ok (.aload_n 0, 1) := by decide +kernel
theorem d_L_law_452 : decode c_L_law 452 = .ok (.iload_n 3, 1) := by decide +kernel
theorem d_L_law_453 : decode c_L_law 453 = .ok (.iconst 1, 1) := by decide +kernel
theorem d_L_law_454 : decode c_L_law 454 = .ok (.iadd, 1) := by decide +kernel
theorem d_L_law_455 : decode c_L_law 455 = .ok (.iaload, 1) := by decide +kernel
theorem d_L_law_456 : decode c_L_law 456 = .ok (.invokevirtual 78, 3) := by decide +kernel
theorem d_L_law_459 : decode c_L_law 459 = .ok (.if_icmp .eq 110, 3) := by decide +kernel
theorem d_L_law_462 : decode c_L_law 462 = .ok (.iconst 0, 1) := by decide +kernel
theorem d_L_law_463 : decode c_L_law 463 = .ok (.ireturn, 1) := by decide +kernel
theorem d_L_law_464 : decode c_L_law 464 = .ok (.aload_n 1, 1) := by decide +kernel
theorem d_L_law_465 : decode c_L_law 465 = .ok (.aload_n 0, 1) := by decide +kernel
theorem d_L_law_466 : decode c_L_law 466 = .ok (.iload_n 3, 1) := by decide +kernel
theorem d_L_law_467 : decode c_L_law 467 = .ok (.iconst 1, 1) := by decide +kernel
theorem d_L_law_468 : decode c_L_law 468 = .ok (.iadd, 1) := by decide +kernel
theorem d_L_law_469 : decode c_L_law 469 = .ok (.iaload, 1) := by decide +kernel
theorem d_L_law_470 : decode c_L_law 470 = .ok (.aload_n 0, 1) := by decide +kernel
theorem d_L_law_471 : decode c_L_law 471 = .ok (.iload_n 3, 1) := by decide +kernel
theorem d_L_law_472 : decode c_L_law 472 = .ok (.iconst 2, 1) := by decide +kernel
theorem d_L_law_473 : decode c_L_law 473 = .ok (.iadd, 1) := by decide +kernel
theorem d_L_law_474 : decode c_L_law 474 = .ok (.iaload, 1) := by decide +kernel
theorem d_L_law_475 : decode c_L_law 475 = .ok (.invokevirtual 79, 3) := by decide +kernel
theorem d_L_law_478 : decode c_L_law 478 = .ok (.aload_n 2, 1) := by decide +kernel
theorem d_L_law_479 : decode c_L_law 479 = .ok (.aload_n 0, 1) := by decide +kernel
theorem d_L_law_480 : decode c_L_law 480 = .ok (.iload_n 3, 1) := by decide +kernel
theorem d_L_law_481 : decode c_L_law 481 = .ok (.iconst 1, 1) := by decide +kernel
theorem d_L_law_482 : decode c_L_law 482 = .ok (.iadd, 1) := by decide +kernel
theorem d_L_law_483 : decode c_L_law 483 = .ok (.iaload, 1) := by decide +kernel
theorem d_L_law_484 : decode c_L_law 484 = .ok (.aload_n 0, 1) := by decide +kernel
theorem d_L_law_485 : decode c_L_law 485 = .ok (.iload_n 3, 1) := by decide +kernel
theorem d_L_law_486 : decode c_L_law 486 = .ok (.iconst 2, 1) := by decide +kernel
theorem d_L_law_487 : decode c_L_law 487 = .ok (.iadd, 1) := by decide +kernel
theorem d_L_law_488 : decode c_L_law 488 = .ok (.iaload, 1) := by decide +kernel
theorem d_L_law_489 : decode c_L_law 489 = .ok (.invokevirtual 83, 3) := by decide +kernel
theorem d_L_law_492 : decode c_L_law 492 = .ok (.if_icmp .eq 77, 3) := by decide +kernel
theorem d_L_law_495 : decode c_L_law 495 = .ok (.iconst 0, 1) := by decide +kernel
theorem d_L_law_496 : decode c_L_law 496 = .ok (.ireturn, 1) := by decide +kernel
theorem d_L_law_497 : decode c_L_law 497 = .ok (.aload_n 1, 1) := by decide +kernel
theorem d_L_law_498 : decode c_L_law 498 = .ok (.aload_n 0, 1) := by decide +kernel
theorem d_L_law_499 : decode c_L_law 499 = .ok (.iload_n 3, 1) := by decide +kernel
theorem d_L_law_500 : decode c_L_law 500 = .ok (.iconst 1, 1) := by decide +kernel
theorem d_L_law_501 : decode c_L_law 501 = .ok (.iadd, 1) := by decide +kernel
theorem d_L_law_502 : decode c_L_law 502 = .ok (.iaload, 1) := by decide +kernel
theorem d_L_law_503 : decode c_L_law 503 = .ok (.invokevirtual 84, 3) := by decide +kernel
theorem d_L_law_506 : decode c_L_law 506 = .ok (.aload_n 2, 1) := by decide +kernel
theorem d_L_law_507 : decode c_L_law 507 = .ok (.aload_n 0, 1) := by decide +kernel
theorem d_L_law_508 : decode c_L_law 508 = .ok (.iload_n 3, 1) := by decide +kernel
theorem d_L_law_509 : decode c_L_law 509 = .ok (.iconst 1, 1) := by decide +kernel
theorem d_L_law_510 : decode c_L_law 510 = .ok (.iadd, 1) := by decide +kernel
theorem d_L_law_511 : decode c_L_law 511 = .ok (.iaload, 1) := by decide +kernel
theorem d_L_law_512 : decode c_L_law 512 = .ok (.invokevirtual 87, 3) := by decide +kernel
theorem d_L_law_515 : decode c_L_law 515 = .ok (.if_icmp .eq 54, 3) := by decide +kernel
theorem d_L_law_518 : decode c_L_law 518 = .ok (.iconst 0, 1) := by decide +kernel
theorem d_L_law_519 : decode c_L_law 519 = .ok (.ireturn, 1) := by decide +kernel
theorem d_L_law_520 : decode c_L_law 520 = .ok (.aload_n 1, 1) := by decide +kernel
theorem d_L_law_521 : decode c_L_law 521 = .ok (.aload_n 0, 1) := by decide +kernel
theorem d_L_law_522 : decode c_L_law 522 = .ok (.iload_n 3, 1) := by decide +kernel
theorem d_L_law_523 : decode c_L_law 523 = .ok (.iconst 1, 1) := by decide +kernel
theorem d_L_law_524 : decode c_L_law 524 = .ok (.iadd, 1) := by decide +kernel
theorem d_L_law_525 : decode c_L_law 525 = .ok (.iaload, 1) := by decide +kernel
theorem d_L_law_526 : decode c_L_law 526 = .ok (.invokevirtual 88, 3) := by decide +kernel
theorem d_L_law_529 : decode c_L_law 529 = .ok (.aload_n 2, 1) := by decide +kernel
theorem d_L_law_530 : decode c_L_law 530 = .ok (.aload_n 0, 1) := by decide +kernel
theorem d_L_law_531 : decode c_L_law 531 = .ok (.iload_n 3, 1) := by decide +kernel
theorem d_L_law_532 : decode c_L_law 532 = .ok (.iconst 1, 1) := by decide +kernel
theorem d_L_law_533 : decode c_L_law 533 = .ok (.iadd, 1) := by decide +kernel
theorem d_L_law_534 : decode c_L_law 534 = .ok (.iaload, 1) := by decide +kernel
theorem d_L_law_535 : decode c_L_law 535 = .ok (.invokevirtual 91, 3) := by decide +kernel
theorem d_L_law_538 : decode c_L_law 538 = .ok (.if_icmp .eq 31, 3) := by decide +kernel
theorem d_L_law_541 : decode c_L_law 541 = .ok (.iconst 0, 1) := by decide +kernel
theorem d_L_law_542 : decode c_L_law 542 = .ok (.ireturn, 1) := by decide +kernel
theorem d_L_law_543 : decode c_L_law 543 = .ok (.aload_n 1, 1) := by decide +kernel
theorem d_L_law_544 : decode c_L_law 544 = .ok (.invokevirtual 92, 3) := by decide +kernel
theorem d_L_law_547 : decode c_L_law 547 = .ok (.aload_n 2, 1) := by decide +kernel
theorem d_L_law_548 : decode c_L_law 548 = .ok (.invokevirtual 95, 3) := by decide +kernel
theorem d_L_law_551 : decode c_L_law 551 = .ok (.if_icmp .eq 18, 3) := by decide +kernel
theorem d_L_law_554 : decode c_L_law 554 = .ok (.iconst 0, 1) := by decide +kernel
theorem d_L_law_555 : decode c_L_law 555 = .ok (.ireturn, 1) := by decide +kernel
theorem d_L_law_556 : decode c_L_law 556 = .ok (.aload_n 1, 1) := by decide +kernel
theorem d_L_law_557 : decode c_L_law 557 = .ok (.invokevirtual 96, 3) := by decide +kernel
theorem d_L_law_560 : decode c_L_law 560 = .ok (.aload_n 2, 1) := by decide +kernel
theorem d_L_law_561 : decode c_L_law 561 = .ok (.invokevirtual 99, 3) := by decide +kernel
theorem d_L_law_564 : decode c_L_law 564 = .ok (.if_icmp .eq 5, 3) := by decide +kernel
theorem d_L_law_567 : decode c_L_law 567 = .ok (.iconst 0, 1) := by decide +kernel
theorem d_L_law_568 : decode c_L_law 568 = .ok (.ireturn, 1) := by decide +kernel
theorem d_L_law_569 : decode c_L_law 569 = .ok (.iinc 3 4, 3) := by decide +kernel
theorem d_L_law_572 : decode c_L_law 572 = .ok (.goto (-554), 3) := by decide +kernel
theorem d_L_law_575 : decode c_L_law 575 = .ok (.iconst 1, 1) := by decide +kernel
theorem d_L_law_576 : decode c_L_law 576 = .ok (.ireturn, 1) := by decide +kernel
end
section
/-! THE STORE: kinds of cells (k), their indices (i), their fields or elements (j): a world is a function V k i j : Value over the cells that live (lv k i), at addresses ad k i. -/
abbrev jVT : Type := Nat → Nat → Nat → Value
def jat (D : va_G) (cl : List vw_C) (Y : Nat → Nat ⊕ (FieldType × Nat)) (E : Nat → ClassId) (a k : Nat) (f : Nat → Value) (H : Heap) : Prop := match Y k with
  | .inl ci => ∃ r : vw_C, cl[ci]? = some r ∧ t_OB a (D.1 ci) r.2.2 (D.2 ci) H f
  | .inr q => H[a]? = some (arrV (E k) q.2 f)
def jK (D : va_G) (cl : List vw_C) (Y : Nat → Nat ⊕ (FieldType × Nat)) (E : Nat → ClassId) (U : State) : Prop := va_K D cl [] U ∧ ∀ (k : Nat) (q : FieldType × Nat), Y k = .inr q → ArrOfT U (E k) q.1 ∧ va_RA U (E k) q.1
theorem jK.moved {D : va_G} {cl : List vw_C} {Y : Nat → Nat ⊕ (FieldType × Nat)} {E : Nat → ClassId} {u U : State} (hvm : u.vm.Alike U.vm) (h : jK D cl Y E u) : jK D cl Y E U := ⟨va_K.moved hvm h.1, fun k q hq => ⟨arrOfT_moved hvm (h.2 k q hq).1, (h.2 k q hq).2.moved hvm⟩⟩
theorem jat.kept {D : va_G} {cl : List vw_C} {Y : Nat → Nat ⊕ (FieldType × Nat)} {E : Nat → ClassId} {a k : Nat} {f : Nat → Value} {H H1 : Heap} (h : jat D cl Y E a k f H) (hq : H1[a]? = H[a]?) : jat D cl Y E a k f H1 := by
  unfold jat at h ⊢
  cases hy : Y k with
  | inl ci =>
    rw [hy] at h
    obtain ⟨r, h1, h2⟩ := h
    exact ⟨r, h1, h2.kept hq⟩
  | inr q =>
    rw [hy] at h
    exact hq.trans h
theorem jat.lt {D : va_G} {cl : List vw_C} {Y : Nat → Nat ⊕ (FieldType × Nat)} {E : Nat → ClassId} {a k : Nat} {f : Nat → Value} {H : Heap} (h : jat D cl Y E a k f H) : a < H.size := by
  unfold jat at h
  cases hy : Y k with
  | inl ci =>
    rw [hy] at h
    obtain ⟨r, h1, cell, h2, -⟩ := h
    exact (Array.getElem?_eq_some_iff.mp h2).1
  | inr q =>
    rw [hy] at h
    exact (Array.getElem?_eq_some_iff.mp h).1
/-- the world: each living cell holds what V says, lies in A; the addresses are apart -/
def jW (D : va_G) (cl : List vw_C) (Y : Nat → Nat ⊕ (FieldType × Nat)) (E : Nat → ClassId) (ad : Nat → Nat → Nat) (lv : Nat → Nat → Prop) (V : jVT) (A : Nat → Prop) (H : Heap) : Prop :=
  (∀ k i : Nat, lv k i → jat D cl Y E (ad k i) k (V k i) H ∧ A (ad k i)) ∧ ∀ k i k' i' : Nat, lv k i → lv k' i' → ad k i = ad k' i' → k = k' ∧ i = i'
def jup (V : jVT) (k i j : Nat) (v : Value) : jVT := fun k' i' j' => if k' = k ∧ i' = i ∧ j' = j then v else V k' i' j'
theorem jup_row (V : jVT) (k i j : Nat) (v : Value) : jup V k i j v k i = updV (V k i) j v := by
  funext j'
  simp [jup, updV]
theorem jup_off {V : jVT} {k i j : Nat} {v : Value} {k' i' : Nat} (h : ¬ (k' = k ∧ i' = i)) : jup V k i j v k' i' = V k' i' := by
  funext j'
  simp only [jup]
  rw [if_neg (fun q => h ⟨q.1, q.2.1⟩)]
theorem jW.put {D : va_G} {cl : List vw_C} {Y : Nat → Nat ⊕ (FieldType × Nat)} {E : Nat → ClassId} {ad : Nat → Nat → Nat} {lv : Nat → Nat → Prop} {V : jVT} {A : Nat → Prop} {H H1 : Heap} {k i j : Nat} {v : Value} (h : jW D cl Y E ad lv V A H) (hl : lv k i) (hn : jat D cl Y E (ad k i) k (updV (V k i) j v) H1) (oq : ∀ q : Nat, q ≠ ad k i → H1[q]? = H[q]?) : jW D cl Y E ad lv (jup V k i j v) A H1 := by
  refine ⟨fun k' i' hl' => ?_, h.2⟩
  by_cases hq : k' = k ∧ i' = i
  · obtain ⟨rfl, rfl⟩ := hq
    rw [jup_row]
    exact ⟨hn, (h.1 _ _ hl').2⟩
  · rw [jup_off hq]
    exact ⟨(h.1 _ _ hl').1.kept (oq _ (fun z => hq (h.2 _ _ _ _ hl' hl z))), (h.1 _ _ hl').2⟩
theorem jW.wide {D : va_G} {cl : List vw_C} {Y : Nat → Nat ⊕ (FieldType × Nat)} {E : Nat → ClassId} {ad : Nat → Nat → Nat} {lv : Nat → Nat → Prop} {V : jVT} {A B : Nat → Prop} {H : Heap} (h : jW D cl Y E ad lv V A H) (hB : ∀ k i : Nat, lv k i → B (ad k i)) : jW D cl Y E ad lv V B H := ⟨fun k i hl => ⟨(h.1 k i hl).1, hB k i hl⟩, h.2⟩
/-- the locals: a list, none where nothing is known; all of category 1 -/
def jh (ls : Array Slot) (nL : Nat) (lsv : List (Option Value)) : Prop := ls.size = nL ∧ lv_wf ls ∧ ∀ (i : Nat) (v : Value), lsv[i]? = some (some v) → ls[i]? = some (.val v) ∧ v.category = 1
def jl (lsv : List (Option Value)) : List (Nat × Value) := (List.range lsv.length).filterMap (fun i => (lsv[i]?.join).map (fun v => (i, v)))
theorem jl_mem {lsv : List (Option Value)} {i : Nat} {v : Value} : (i, v) ∈ jl lsv ↔ lsv[i]? = some (some v) := by
  unfold jl
  rw [List.mem_filterMap]
  constructor
  · rintro ⟨a, -, h⟩
    cases h2 : lsv[a]? with
    | none => rw [h2] at h; cases h
    | some o => cases o with
      | none => rw [h2] at h; cases h
      | some w =>
        rw [h2] at h
        simp at h
        obtain ⟨rfl, rfl⟩ := h
        exact h2
  · intro h
    refine ⟨i, List.mem_range.mpr (List.getElem?_eq_some_iff.mp h).1, ?_⟩
    rw [h]; rfl
theorem jh.has {ls : Array Slot} {nL : Nat} {lsv : List (Option Value)} (h : jh ls nL lsv) : lv_has ls nL (jl lsv) := ⟨h.1, h.2.1, fun q hq => (h.2.2 q.1 q.2 (jl_mem.mp hq)).1⟩
theorem jh.store {ls : Array Slot} {nL : Nat} {lsv : List (Option Value)} {i : Nat} {v : Value} (h : jh ls nL lsv) (hi : i < nL) (hc : v.category = 1) : ∃ ls', storeLocals ls i v = some ls' ∧ jh ls' nL (lsv.set i (some v)) := by
  obtain ⟨ls', e, h1, h2, h3⟩ := lv_store1 h.has hi hc
  refine ⟨ls', e, h1, h2, fun j w hj => ?_⟩
  by_cases hji : j = i
  · subst hji
    have hl : j < lsv.length := by
      have := (List.getElem?_eq_some_iff.mp hj).1
      rwa [List.length_set] at this
    rw [List.getElem?_set_self hl] at hj
    cases hj
    exact ⟨h3 (j, v) List.mem_cons_self, hc⟩
  · rw [List.getElem?_set_ne (Ne.symm hji)] at hj
    have hw := h.2.2 j w hj
    refine ⟨h3 (j, w) (List.mem_cons_of_mem _ (List.mem_filter.mpr ⟨jl_mem.mpr hj, ?_⟩)), hw.2⟩
    have h5 : (w.category == 2) = false := by rw [hw.2]; rfl
    have h6 : (j == i) = false := by simpa using hji
    show (!(j == i) && !(j + 1 == i && w.category == 2)) = true
    rw [h5, h6, Bool.and_false]
    rfl
theorem jh.sub {ls : Array Slot} {nL : Nat} {lsv lsv' : List (Option Value)} (h : jh ls nL lsv) (hs : ∀ (i : Nat) (v : Value), lsv'[i]? = some (some v) → lsv[i]? = some (some v)) : jh ls nL lsv' := ⟨h.1, h.2.1, fun i v hv => h.2.2 i v (hs i v hv)⟩
theorem jrf_cat (r : Option Nat) : (va_rf r).category = 1 := by cases r <;> rfl
def jpush (r : Option Value) (rest : List Value) : List Value := match r with
  | none => rest
  | some v => v :: rest
theorem jpush_eq (r : Option Value) (rest : List Value) : r.toList ++ rest = jpush r rest := by cases r <;> rfl
/-- the walk: from every heap of size z that holds V, with these locals -/
def J (p : Program) (l : Launch) (e : Env) (R : Room) (s : State) (m : MethodId) (args : Array Value) (below : List Frame) (meth : Method) (c : Code) (Q : State → Prop) (D : va_G) (cl : List vw_C) (Y : Nat → Nat ⊕ (FieldType × Nat)) (E : Nat → ClassId) (ad : Nat → Nat → Nat) (A : Nat → Prop) (H0 : Heap) (nL : Nat) (cells slots z : Nat) (lv : Nat → Nat → Prop) (V : jVT) (pc : Nat) (lsv : List (Option Value)) (stk : List Value) : Prop :=
  ∀ (H : Heap) (locs : List Loc) (ls : Array Slot), H.size = z → jW D cl Y E ad lv V A H → va_S A H0 H locs → jh ls nL lsv → W p l e R s m args below meth c H locs cells slots Q (F0 m pc ls stk)

section JROWS
variable {p : Program} {l : Launch} {e : Env} {R : Room} {s : State} {m : MethodId} {args : Array Value} {below : List Frame} {meth : Method} {c : Code} {cells slots z : Nat} {Q : State → Prop} {D : va_G} {cl : List vw_C} {Y : Nat → Nat ⊕ (FieldType × Nat)} {E : Nat → ClassId} {ad : Nat → Nat → Nat} {lv : Nat → Nat → Prop} {A : Nat → Prop} {H0 : Heap} {cc : ByteArray} {nL : Nat} {Ts : List Cond} {own : String}
variable {V : jVT} {pc : Nat} {lsv : List (Option Value)} {rest : List Value}
theorem j_iconst (C : CallFix p m c cc nL s args Ts own) {n : Int} {v : Int32} (d : decode cc pc = .ok (.iconst n, 1)) (hv : Int32.ofInt n = v) (k : J p l e R s m args below meth c Q D cl Y E ad A H0 nL cells slots z lv V (pc + 1) lsv (.int v :: rest)) : J p l e R s m args below meth c Q D cl Y E ad A H0 nL cells slots z lv V pc lsv rest :=
  fun H locs ls hz hW hS hl => lv_iconst C.1 C.2.1 d hv (k H locs ls hz hW hS hl)
theorem j_bipush (C : CallFix p m c cc nL s args Ts own) {n : Int} {v : Int32} (d : decode cc pc = .ok (.bipush n, 2)) (hv : (Int8.ofInt n).toInt32 = v) (k : J p l e R s m args below meth c Q D cl Y E ad A H0 nL cells slots z lv V (pc + 2) lsv (.int v :: rest)) : J p l e R s m args below meth c Q D cl Y E ad A H0 nL cells slots z lv V pc lsv rest :=
  fun H locs ls hz hW hS hl => lv_bipush C.1 C.2.1 d hv (k H locs ls hz hW hS hl)
theorem j_sipush (C : CallFix p m c cc nL s args Ts own) {n : Int} {v : Int32} (d : decode cc pc = .ok (.sipush n, 3)) (hv : (Int16.ofInt n).toInt32 = v) (k : J p l e R s m args below meth c Q D cl Y E ad A H0 nL cells slots z lv V (pc + 3) lsv (.int v :: rest)) : J p l e R s m args below meth c Q D cl Y E ad A H0 nL cells slots z lv V pc lsv rest :=
  fun H locs ls hz hW hS hl => lv_sipush C.1 C.2.1 d hv (k H locs ls hz hW hS hl)
theorem j_lconst (C : CallFix p m c cc nL s args Ts own) {n : Fin 2} {v : Int64} (d : decode cc pc = .ok (.lconst n, 1)) (hv : Int64.ofNat (n : Nat) = v) (k : J p l e R s m args below meth c Q D cl Y E ad A H0 nL cells slots z lv V (pc + 1) lsv (.long v :: rest)) : J p l e R s m args below meth c Q D cl Y E ad A H0 nL cells slots z lv V pc lsv rest :=
  fun H locs ls hz hW hS hl => lv_lconst C.1 C.2.1 d hv (k H locs ls hz hW hS hl)
theorem j_null (C : CallFix p m c cc nL s args Ts own)  (d : decode cc pc = .ok (.aconst_null, 1))  (k : J p l e R s m args below meth c Q D cl Y E ad A H0 nL cells slots z lv V (pc + 1) lsv (.null :: rest)) : J p l e R s m args below meth c Q D cl Y E ad A H0 nL cells slots z lv V pc lsv rest :=
  fun H locs ls hz hW hS hl => lv_null C.1 C.2.1 d  (k H locs ls hz hW hS hl)
theorem j_iadd (C : CallFix p m c cc nL s args Ts own) {x y : Int32} (d : decode cc pc = .ok (.iadd, 1))  (k : J p l e R s m args below meth c Q D cl Y E ad A H0 nL cells slots z lv V (pc + 1) lsv (.int (x + y) :: rest)) : J p l e R s m args below meth c Q D cl Y E ad A H0 nL cells slots z lv V pc lsv (.int y :: .int x :: rest) :=
  fun H locs ls hz hW hS hl => lv_iadd C.1 C.2.1 d  (k H locs ls hz hW hS hl)
theorem j_isub (C : CallFix p m c cc nL s args Ts own) {x y : Int32} (d : decode cc pc = .ok (.isub, 1))  (k : J p l e R s m args below meth c Q D cl Y E ad A H0 nL cells slots z lv V (pc + 1) lsv (.int (x - y) :: rest)) : J p l e R s m args below meth c Q D cl Y E ad A H0 nL cells slots z lv V pc lsv (.int y :: .int x :: rest) :=
  fun H locs ls hz hW hS hl => lv_isub C.1 C.2.1 d  (k H locs ls hz hW hS hl)
theorem j_imul (C : CallFix p m c cc nL s args Ts own) {x y : Int32} (d : decode cc pc = .ok (.imul, 1))  (k : J p l e R s m args below meth c Q D cl Y E ad A H0 nL cells slots z lv V (pc + 1) lsv (.int (x * y) :: rest)) : J p l e R s m args below meth c Q D cl Y E ad A H0 nL cells slots z lv V pc lsv (.int y :: .int x :: rest) :=
  fun H locs ls hz hW hS hl => lv_imul C.1 C.2.1 d  (k H locs ls hz hW hS hl)
theorem j_iand (C : CallFix p m c cc nL s args Ts own) {x y : Int32} (d : decode cc pc = .ok (.iand, 1))  (k : J p l e R s m args below meth c Q D cl Y E ad A H0 nL cells slots z lv V (pc + 1) lsv (.int (x &&& y) :: rest)) : J p l e R s m args below meth c Q D cl Y E ad A H0 nL cells slots z lv V pc lsv (.int y :: .int x :: rest) :=
  fun H locs ls hz hW hS hl => lv_iand C.1 C.2.1 d  (k H locs ls hz hW hS hl)
theorem j_ior (C : CallFix p m c cc nL s args Ts own) {x y : Int32} (d : decode cc pc = .ok (.ior, 1))  (k : J p l e R s m args below meth c Q D cl Y E ad A H0 nL cells slots z lv V (pc + 1) lsv (.int (x ||| y) :: rest)) : J p l e R s m args below meth c Q D cl Y E ad A H0 nL cells slots z lv V pc lsv (.int y :: .int x :: rest) :=
  fun H locs ls hz hW hS hl => lv_ior C.1 C.2.1 d  (k H locs ls hz hW hS hl)
theorem j_ixor (C : CallFix p m c cc nL s args Ts own) {x y : Int32} (d : decode cc pc = .ok (.ixor, 1))  (k : J p l e R s m args below meth c Q D cl Y E ad A H0 nL cells slots z lv V (pc + 1) lsv (.int (x ^^^ y) :: rest)) : J p l e R s m args below meth c Q D cl Y E ad A H0 nL cells slots z lv V pc lsv (.int y :: .int x :: rest) :=
  fun H locs ls hz hW hS hl => lv_ixor C.1 C.2.1 d  (k H locs ls hz hW hS hl)
theorem j_irem (C : CallFix p m c cc nL s args Ts own) {x y : Int32} (d : decode cc pc = .ok (.irem, 1)) (hne : ¬ y = 0) (k : J p l e R s m args below meth c Q D cl Y E ad A H0 nL cells slots z lv V (pc + 1) lsv (.int (x - x / y * y) :: rest)) : J p l e R s m args below meth c Q D cl Y E ad A H0 nL cells slots z lv V pc lsv (.int y :: .int x :: rest) :=
  fun H locs ls hz hW hS hl => lv_irem C.1 C.2.1 d hne (k H locs ls hz hW hS hl)
theorem j_idiv (C : CallFix p m c cc nL s args Ts own) {x y : Int32} (d : decode cc pc = .ok (.idiv, 1)) (hne : ¬ y = 0) (k : J p l e R s m args below meth c Q D cl Y E ad A H0 nL cells slots z lv V (pc + 1) lsv (.int (x / y) :: rest)) : J p l e R s m args below meth c Q D cl Y E ad A H0 nL cells slots z lv V pc lsv (.int y :: .int x :: rest) :=
  fun H locs ls hz hW hS hl => lv_idiv C.1 C.2.1 d hne (k H locs ls hz hW hS hl)
theorem j_ladd (C : CallFix p m c cc nL s args Ts own) {x y : Int64} (d : decode cc pc = .ok (.ladd, 1))  (k : J p l e R s m args below meth c Q D cl Y E ad A H0 nL cells slots z lv V (pc + 1) lsv (.long (x + y) :: rest)) : J p l e R s m args below meth c Q D cl Y E ad A H0 nL cells slots z lv V pc lsv (.long y :: .long x :: rest) :=
  fun H locs ls hz hW hS hl => lv_ladd C.1 C.2.1 d  (k H locs ls hz hW hS hl)
theorem j_lsub (C : CallFix p m c cc nL s args Ts own) {x y : Int64} (d : decode cc pc = .ok (.lsub, 1))  (k : J p l e R s m args below meth c Q D cl Y E ad A H0 nL cells slots z lv V (pc + 1) lsv (.long (x - y) :: rest)) : J p l e R s m args below meth c Q D cl Y E ad A H0 nL cells slots z lv V pc lsv (.long y :: .long x :: rest) :=
  fun H locs ls hz hW hS hl => lv_lsub C.1 C.2.1 d  (k H locs ls hz hW hS hl)
theorem j_lmul (C : CallFix p m c cc nL s args Ts own) {x y : Int64} (d : decode cc pc = .ok (.lmul, 1))  (k : J p l e R s m args below meth c Q D cl Y E ad A H0 nL cells slots z lv V (pc + 1) lsv (.long (x * y) :: rest)) : J p l e R s m args below meth c Q D cl Y E ad A H0 nL cells slots z lv V pc lsv (.long y :: .long x :: rest) :=
  fun H locs ls hz hW hS hl => lv_lmul C.1 C.2.1 d  (k H locs ls hz hW hS hl)
theorem j_land (C : CallFix p m c cc nL s args Ts own) {x y : Int64} (d : decode cc pc = .ok (.land, 1))  (k : J p l e R s m args below meth c Q D cl Y E ad A H0 nL cells slots z lv V (pc + 1) lsv (.long (x &&& y) :: rest)) : J p l e R s m args below meth c Q D cl Y E ad A H0 nL cells slots z lv V pc lsv (.long y :: .long x :: rest) :=
  fun H locs ls hz hW hS hl => lv_land C.1 C.2.1 d  (k H locs ls hz hW hS hl)
theorem j_lrem (C : CallFix p m c cc nL s args Ts own) {x y : Int64} (d : decode cc pc = .ok (.lrem, 1)) (hne : ¬ y = 0) (k : J p l e R s m args below meth c Q D cl Y E ad A H0 nL cells slots z lv V (pc + 1) lsv (.long (x - x / y * y) :: rest)) : J p l e R s m args below meth c Q D cl Y E ad A H0 nL cells slots z lv V pc lsv (.long y :: .long x :: rest) :=
  fun H locs ls hz hW hS hl => lv_lrem C.1 C.2.1 d hne (k H locs ls hz hW hS hl)
theorem j_ineg (C : CallFix p m c cc nL s args Ts own) {x : Int32} (d : decode cc pc = .ok (.ineg, 1))  (k : J p l e R s m args below meth c Q D cl Y E ad A H0 nL cells slots z lv V (pc + 1) lsv (.int (-x) :: rest)) : J p l e R s m args below meth c Q D cl Y E ad A H0 nL cells slots z lv V pc lsv (.int x :: rest) :=
  fun H locs ls hz hW hS hl => lv_ineg C.1 C.2.1 d  (k H locs ls hz hW hS hl)
theorem j_i2l (C : CallFix p m c cc nL s args Ts own) {x : Int32} (d : decode cc pc = .ok (.i2l, 1))  (k : J p l e R s m args below meth c Q D cl Y E ad A H0 nL cells slots z lv V (pc + 1) lsv (.long x.toInt64 :: rest)) : J p l e R s m args below meth c Q D cl Y E ad A H0 nL cells slots z lv V pc lsv (.int x :: rest) :=
  fun H locs ls hz hW hS hl => lv_i2l C.1 C.2.1 d rfl (k H locs ls hz hW hS hl)
theorem j_l2i (C : CallFix p m c cc nL s args Ts own) {x : Int64} (d : decode cc pc = .ok (.l2i, 1))  (k : J p l e R s m args below meth c Q D cl Y E ad A H0 nL cells slots z lv V (pc + 1) lsv (.int x.toInt32 :: rest)) : J p l e R s m args below meth c Q D cl Y E ad A H0 nL cells slots z lv V pc lsv (.long x :: rest) :=
  fun H locs ls hz hW hS hl => lv_l2i C.1 C.2.1 d rfl (k H locs ls hz hW hS hl)
theorem j_lcmp (C : CallFix p m c cc nL s args Ts own) {x y : Int64} (d : decode cc pc = .ok (.lcmp, 1))  (k : J p l e R s m args below meth c Q D cl Y E ad A H0 nL cells slots z lv V (pc + 1) lsv (.int (lg_cmp x y) :: rest)) : J p l e R s m args below meth c Q D cl Y E ad A H0 nL cells slots z lv V pc lsv (.long y :: .long x :: rest) :=
  fun H locs ls hz hW hS hl => W.lcmp C.1 C.2.1 d  (k H locs ls hz hW hS hl)
theorem j_dup (C : CallFix p m c cc nL s args Ts own) {va : Value} (d : decode cc pc = .ok (.dup, 1)) (hva : va.category = 1) (k : J p l e R s m args below meth c Q D cl Y E ad A H0 nL cells slots z lv V (pc + 1) lsv (va :: va :: rest)) : J p l e R s m args below meth c Q D cl Y E ad A H0 nL cells slots z lv V pc lsv (va :: rest) :=
  fun H locs ls hz hW hS hl => lv_dup C.1 C.2.1 d hva (k H locs ls hz hW hS hl)
theorem j_pop (C : CallFix p m c cc nL s args Ts own) {va : Value} (d : decode cc pc = .ok (.pop, 1)) (hva : va.category = 1) (k : J p l e R s m args below meth c Q D cl Y E ad A H0 nL cells slots z lv V (pc + 1) lsv rest) : J p l e R s m args below meth c Q D cl Y E ad A H0 nL cells slots z lv V pc lsv (va :: rest) :=
  fun H locs ls hz hW hS hl => lv_pop C.1 C.2.1 d hva (k H locs ls hz hW hS hl)
theorem j_dup_x1 (C : CallFix p m c cc nL s args Ts own) {va vb : Value} (d : decode cc pc = .ok (.dup_x1, 1)) (hva : va.category = 1) (hvb : vb.category = 1) (k : J p l e R s m args below meth c Q D cl Y E ad A H0 nL cells slots z lv V (pc + 1) lsv (va :: vb :: va :: rest)) : J p l e R s m args below meth c Q D cl Y E ad A H0 nL cells slots z lv V pc lsv (va :: vb :: rest) :=
  fun H locs ls hz hW hS hl => lv_dup_x1 C.1 C.2.1 d hva hvb (k H locs ls hz hW hS hl)
theorem j_dup_x2 (C : CallFix p m c cc nL s args Ts own) {va vb vd : Value} (d : decode cc pc = .ok (.dup_x2, 1)) (hva : va.category = 1) (hvb : vb.category = 1) (hvd : vd.category = 1) (k : J p l e R s m args below meth c Q D cl Y E ad A H0 nL cells slots z lv V (pc + 1) lsv (va :: vb :: vd :: va :: rest)) : J p l e R s m args below meth c Q D cl Y E ad A H0 nL cells slots z lv V pc lsv (va :: vb :: vd :: rest) :=
  fun H locs ls hz hW hS hl => lv_dup_x2 C.1 C.2.1 d hva hvb hvd (k H locs ls hz hW hS hl)
theorem j_dup2_11 (C : CallFix p m c cc nL s args Ts own) {va vb : Value} (d : decode cc pc = .ok (.dup2, 1)) (hva : va.category = 1) (hvb : vb.category = 1) (k : J p l e R s m args below meth c Q D cl Y E ad A H0 nL cells slots z lv V (pc + 1) lsv (va :: vb :: va :: vb :: rest)) : J p l e R s m args below meth c Q D cl Y E ad A H0 nL cells slots z lv V pc lsv (va :: vb :: rest) :=
  fun H locs ls hz hW hS hl => lv_dup2_11 C.1 C.2.1 d hva hvb (k H locs ls hz hW hS hl)
theorem j_dup2_2 (C : CallFix p m c cc nL s args Ts own) {va : Value} (d : decode cc pc = .ok (.dup2, 1)) (hva : va.category = 2) (k : J p l e R s m args below meth c Q D cl Y E ad A H0 nL cells slots z lv V (pc + 1) lsv (va :: va :: rest)) : J p l e R s m args below meth c Q D cl Y E ad A H0 nL cells slots z lv V pc lsv (va :: rest) :=
  fun H locs ls hz hW hS hl => lv_dup2_2 C.1 C.2.1 d hva (k H locs ls hz hW hS hl)
theorem j_dup2_x1_2 (C : CallFix p m c cc nL s args Ts own) {va vb : Value} (d : decode cc pc = .ok (.dup2_x1, 1)) (hva : va.category = 2) (hvb : vb.category = 1) (k : J p l e R s m args below meth c Q D cl Y E ad A H0 nL cells slots z lv V (pc + 1) lsv (va :: vb :: va :: rest)) : J p l e R s m args below meth c Q D cl Y E ad A H0 nL cells slots z lv V pc lsv (va :: vb :: rest) :=
  fun H locs ls hz hW hS hl => lv_dup2_x1_2 C.1 C.2.1 d hva hvb (k H locs ls hz hW hS hl)
theorem j_if_eq (C : CallFix p m c cc nL s args Ts own) {x : Int32} {off : Int} (tgt : Nat) (d : decode cc pc = .ok (.ifCond .eq off, 3)) (ht : (pc : Int) + off = (tgt : Int)) (kt : x = 0 → J p l e R s m args below meth c Q D cl Y E ad A H0 nL cells slots z lv V tgt lsv rest) (kf : ¬ x = 0 → J p l e R s m args below meth c Q D cl Y E ad A H0 nL cells slots z lv V (pc + 3) lsv rest) : J p l e R s m args below meth c Q D cl Y E ad A H0 nL cells slots z lv V pc lsv (.int x :: rest) :=
  fun H locs ls hz hW hS hl => lv_if_eq C.1 C.2.1 d ht (fun h => kt h H locs ls hz hW hS hl) (fun h => kf h H locs ls hz hW hS hl)
theorem j_icmp_eq (C : CallFix p m c cc nL s args Ts own) {x y : Int32} {off : Int} (tgt : Nat) (d : decode cc pc = .ok (.if_icmp .eq off, 3)) (ht : (pc : Int) + off = (tgt : Int)) (kt : x = y → J p l e R s m args below meth c Q D cl Y E ad A H0 nL cells slots z lv V tgt lsv rest) (kf : ¬ x = y → J p l e R s m args below meth c Q D cl Y E ad A H0 nL cells slots z lv V (pc + 3) lsv rest) : J p l e R s m args below meth c Q D cl Y E ad A H0 nL cells slots z lv V pc lsv (.int y :: .int x :: rest) :=
  fun H locs ls hz hW hS hl => lv_icmp_eq C.1 C.2.1 d ht (fun h => kt h H locs ls hz hW hS hl) (fun h => kf h H locs ls hz hW hS hl)
theorem j_if_ne (C : CallFix p m c cc nL s args Ts own) {x : Int32} {off : Int} (tgt : Nat) (d : decode cc pc = .ok (.ifCond .ne off, 3)) (ht : (pc : Int) + off = (tgt : Int)) (kt : ¬ x = 0 → J p l e R s m args below meth c Q D cl Y E ad A H0 nL cells slots z lv V tgt lsv rest) (kf : x = 0 → J p l e R s m args below meth c Q D cl Y E ad A H0 nL cells slots z lv V (pc + 3) lsv rest) : J p l e R s m args below meth c Q D cl Y E ad A H0 nL cells slots z lv V pc lsv (.int x :: rest) :=
  fun H locs ls hz hW hS hl => lv_if_ne C.1 C.2.1 d ht (fun h => kt h H locs ls hz hW hS hl) (fun h => kf h H locs ls hz hW hS hl)
theorem j_icmp_ne (C : CallFix p m c cc nL s args Ts own) {x y : Int32} {off : Int} (tgt : Nat) (d : decode cc pc = .ok (.if_icmp .ne off, 3)) (ht : (pc : Int) + off = (tgt : Int)) (kt : ¬ x = y → J p l e R s m args below meth c Q D cl Y E ad A H0 nL cells slots z lv V tgt lsv rest) (kf : x = y → J p l e R s m args below meth c Q D cl Y E ad A H0 nL cells slots z lv V (pc + 3) lsv rest) : J p l e R s m args below meth c Q D cl Y E ad A H0 nL cells slots z lv V pc lsv (.int y :: .int x :: rest) :=
  fun H locs ls hz hW hS hl => lv_icmp_ne C.1 C.2.1 d ht (fun h => kt h H locs ls hz hW hS hl) (fun h => kf h H locs ls hz hW hS hl)
theorem j_if_lt (C : CallFix p m c cc nL s args Ts own) {x : Int32} {off : Int} (tgt : Nat) (d : decode cc pc = .ok (.ifCond .lt off, 3)) (ht : (pc : Int) + off = (tgt : Int)) (kt : x < 0 → J p l e R s m args below meth c Q D cl Y E ad A H0 nL cells slots z lv V tgt lsv rest) (kf : ¬ x < 0 → J p l e R s m args below meth c Q D cl Y E ad A H0 nL cells slots z lv V (pc + 3) lsv rest) : J p l e R s m args below meth c Q D cl Y E ad A H0 nL cells slots z lv V pc lsv (.int x :: rest) :=
  fun H locs ls hz hW hS hl => lv_if_lt C.1 C.2.1 d ht (fun h => kt h H locs ls hz hW hS hl) (fun h => kf h H locs ls hz hW hS hl)
theorem j_icmp_lt (C : CallFix p m c cc nL s args Ts own) {x y : Int32} {off : Int} (tgt : Nat) (d : decode cc pc = .ok (.if_icmp .lt off, 3)) (ht : (pc : Int) + off = (tgt : Int)) (kt : x < y → J p l e R s m args below meth c Q D cl Y E ad A H0 nL cells slots z lv V tgt lsv rest) (kf : ¬ x < y → J p l e R s m args below meth c Q D cl Y E ad A H0 nL cells slots z lv V (pc + 3) lsv rest) : J p l e R s m args below meth c Q D cl Y E ad A H0 nL cells slots z lv V pc lsv (.int y :: .int x :: rest) :=
  fun H locs ls hz hW hS hl => lv_icmp_lt C.1 C.2.1 d ht (fun h => kt h H locs ls hz hW hS hl) (fun h => kf h H locs ls hz hW hS hl)
theorem j_if_ge (C : CallFix p m c cc nL s args Ts own) {x : Int32} {off : Int} (tgt : Nat) (d : decode cc pc = .ok (.ifCond .ge off, 3)) (ht : (pc : Int) + off = (tgt : Int)) (kt : 0 ≤ x → J p l e R s m args below meth c Q D cl Y E ad A H0 nL cells slots z lv V tgt lsv rest) (kf : ¬ 0 ≤ x → J p l e R s m args below meth c Q D cl Y E ad A H0 nL cells slots z lv V (pc + 3) lsv rest) : J p l e R s m args below meth c Q D cl Y E ad A H0 nL cells slots z lv V pc lsv (.int x :: rest) :=
  fun H locs ls hz hW hS hl => lv_if_ge C.1 C.2.1 d ht (fun h => kt h H locs ls hz hW hS hl) (fun h => kf h H locs ls hz hW hS hl)
theorem j_icmp_ge (C : CallFix p m c cc nL s args Ts own) {x y : Int32} {off : Int} (tgt : Nat) (d : decode cc pc = .ok (.if_icmp .ge off, 3)) (ht : (pc : Int) + off = (tgt : Int)) (kt : y ≤ x → J p l e R s m args below meth c Q D cl Y E ad A H0 nL cells slots z lv V tgt lsv rest) (kf : ¬ y ≤ x → J p l e R s m args below meth c Q D cl Y E ad A H0 nL cells slots z lv V (pc + 3) lsv rest) : J p l e R s m args below meth c Q D cl Y E ad A H0 nL cells slots z lv V pc lsv (.int y :: .int x :: rest) :=
  fun H locs ls hz hW hS hl => lv_icmp_ge C.1 C.2.1 d ht (fun h => kt h H locs ls hz hW hS hl) (fun h => kf h H locs ls hz hW hS hl)
theorem j_if_gt (C : CallFix p m c cc nL s args Ts own) {x : Int32} {off : Int} (tgt : Nat) (d : decode cc pc = .ok (.ifCond .gt off, 3)) (ht : (pc : Int) + off = (tgt : Int)) (kt : 0 < x → J p l e R s m args below meth c Q D cl Y E ad A H0 nL cells slots z lv V tgt lsv rest) (kf : ¬ 0 < x → J p l e R s m args below meth c Q D cl Y E ad A H0 nL cells slots z lv V (pc + 3) lsv rest) : J p l e R s m args below meth c Q D cl Y E ad A H0 nL cells slots z lv V pc lsv (.int x :: rest) :=
  fun H locs ls hz hW hS hl => lv_if_gt C.1 C.2.1 d ht (fun h => kt h H locs ls hz hW hS hl) (fun h => kf h H locs ls hz hW hS hl)
theorem j_icmp_gt (C : CallFix p m c cc nL s args Ts own) {x y : Int32} {off : Int} (tgt : Nat) (d : decode cc pc = .ok (.if_icmp .gt off, 3)) (ht : (pc : Int) + off = (tgt : Int)) (kt : y < x → J p l e R s m args below meth c Q D cl Y E ad A H0 nL cells slots z lv V tgt lsv rest) (kf : ¬ y < x → J p l e R s m args below meth c Q D cl Y E ad A H0 nL cells slots z lv V (pc + 3) lsv rest) : J p l e R s m args below meth c Q D cl Y E ad A H0 nL cells slots z lv V pc lsv (.int y :: .int x :: rest) :=
  fun H locs ls hz hW hS hl => lv_icmp_gt C.1 C.2.1 d ht (fun h => kt h H locs ls hz hW hS hl) (fun h => kf h H locs ls hz hW hS hl)
theorem j_if_le (C : CallFix p m c cc nL s args Ts own) {x : Int32} {off : Int} (tgt : Nat) (d : decode cc pc = .ok (.ifCond .le off, 3)) (ht : (pc : Int) + off = (tgt : Int)) (kt : x ≤ 0 → J p l e R s m args below meth c Q D cl Y E ad A H0 nL cells slots z lv V tgt lsv rest) (kf : ¬ x ≤ 0 → J p l e R s m args below meth c Q D cl Y E ad A H0 nL cells slots z lv V (pc + 3) lsv rest) : J p l e R s m args below meth c Q D cl Y E ad A H0 nL cells slots z lv V pc lsv (.int x :: rest) :=
  fun H locs ls hz hW hS hl => lv_if_le C.1 C.2.1 d ht (fun h => kt h H locs ls hz hW hS hl) (fun h => kf h H locs ls hz hW hS hl)
theorem j_icmp_le (C : CallFix p m c cc nL s args Ts own) {x y : Int32} {off : Int} (tgt : Nat) (d : decode cc pc = .ok (.if_icmp .le off, 3)) (ht : (pc : Int) + off = (tgt : Int)) (kt : x ≤ y → J p l e R s m args below meth c Q D cl Y E ad A H0 nL cells slots z lv V tgt lsv rest) (kf : ¬ x ≤ y → J p l e R s m args below meth c Q D cl Y E ad A H0 nL cells slots z lv V (pc + 3) lsv rest) : J p l e R s m args below meth c Q D cl Y E ad A H0 nL cells slots z lv V pc lsv (.int y :: .int x :: rest) :=
  fun H locs ls hz hW hS hl => lv_icmp_le C.1 C.2.1 d ht (fun h => kt h H locs ls hz hW hS hl) (fun h => kf h H locs ls hz hW hS hl)
theorem j_goto (C : CallFix p m c cc nL s args Ts own) {off : Int} (tgt : Nat) (d : decode cc pc = .ok (.goto off, 3)) (ht : (pc : Int) + off = (tgt : Int)) (k : J p l e R s m args below meth c Q D cl Y E ad A H0 nL cells slots z lv V tgt lsv rest) : J p l e R s m args below meth c Q D cl Y E ad A H0 nL cells slots z lv V pc lsv rest :=
  fun H locs ls hz hW hS hl => lv_goto C.1 C.2.1 d ht (k H locs ls hz hW hS hl)
theorem j_ifnull (C : CallFix p m c cc nL s args Ts own) {o : Option Nat} {off : Int} (tgt : Nat) (d : decode cc pc = .ok (.ifnull off, 3)) (ht : (pc : Int) + off = (tgt : Int)) (kt : o = none → J p l e R s m args below meth c Q D cl Y E ad A H0 nL cells slots z lv V tgt lsv rest) (kf : ∀ a : Nat, o = some a → J p l e R s m args below meth c Q D cl Y E ad A H0 nL cells slots z lv V (pc + 3) lsv rest) : J p l e R s m args below meth c Q D cl Y E ad A H0 nL cells slots z lv V pc lsv (va_rf o :: rest) := by
  intro H locs ls hz hW hS hl
  cases o with
  | none => exact lv_ifnullN C.1 C.2.1 d ht (kt rfl H locs ls hz hW hS hl)
  | some a => exact lv_ifnull C.1 C.2.1 d (kf a rfl H locs ls hz hW hS hl)
theorem j_ifnonnull (C : CallFix p m c cc nL s args Ts own) {o : Option Nat} {off : Int} (tgt : Nat) (d : decode cc pc = .ok (.ifnonnull off, 3)) (ht : (pc : Int) + off = (tgt : Int)) (kt : ∀ a : Nat, o = some a → J p l e R s m args below meth c Q D cl Y E ad A H0 nL cells slots z lv V tgt lsv rest) (kf : o = none → J p l e R s m args below meth c Q D cl Y E ad A H0 nL cells slots z lv V (pc + 3) lsv rest) : J p l e R s m args below meth c Q D cl Y E ad A H0 nL cells slots z lv V pc lsv (va_rf o :: rest) := by
  intro H locs ls hz hW hS hl
  cases o with
  | none => exact lv_ifnonnullN C.1 C.2.1 d (kf rfl H locs ls hz hW hS hl)
  | some a => exact lv_ifnonnull C.1 C.2.1 d ht (kt a rfl H locs ls hz hW hS hl)
theorem j_acmp_eq (C : CallFix p m c cc nL s args Ts own) {rx ry : Option Nat} {off : Int} (tgt : Nat) (d : decode cc pc = .ok (.if_acmp .eq off, 3)) (ht : (pc : Int) + off = (tgt : Int)) (kt : rx = ry → J p l e R s m args below meth c Q D cl Y E ad A H0 nL cells slots z lv V tgt lsv rest) (kf : ¬ rx = ry → J p l e R s m args below meth c Q D cl Y E ad A H0 nL cells slots z lv V (pc + 3) lsv rest) : J p l e R s m args below meth c Q D cl Y E ad A H0 nL cells slots z lv V pc lsv (va_rf ry :: va_rf rx :: rest) :=
  fun H locs ls hz hW hS hl => lv_acmp_eq C.1 C.2.1 d ht (fun h => kt h H locs ls hz hW hS hl) (fun h => kf h H locs ls hz hW hS hl)
theorem j_acmp_ne (C : CallFix p m c cc nL s args Ts own) {rx ry : Option Nat} {off : Int} (tgt : Nat) (d : decode cc pc = .ok (.if_acmp .ne off, 3)) (ht : (pc : Int) + off = (tgt : Int)) (kt : ¬ rx = ry → J p l e R s m args below meth c Q D cl Y E ad A H0 nL cells slots z lv V tgt lsv rest) (kf : rx = ry → J p l e R s m args below meth c Q D cl Y E ad A H0 nL cells slots z lv V (pc + 3) lsv rest) : J p l e R s m args below meth c Q D cl Y E ad A H0 nL cells slots z lv V pc lsv (va_rf ry :: va_rf rx :: rest) :=
  fun H locs ls hz hW hS hl => lv_acmp_ne C.1 C.2.1 d ht (fun h => kt h H locs ls hz hW hS hl) (fun h => kf h H locs ls hz hW hS hl)
theorem j_iload_n (C : CallFix p m c cc nL s args Ts own) {q : Fin 4} {i : Nat} {x : Int32} (d : decode cc pc = .ok (.iload_n q, 1)) (hi : (q : Nat) = i) (hv : lsv[i]? = some (some (.int x))) (k : J p l e R s m args below meth c Q D cl Y E ad A H0 nL cells slots z lv V (pc + 1) lsv (.int x :: rest)) : J p l e R s m args below meth c Q D cl Y E ad A H0 nL cells slots z lv V pc lsv rest :=
  fun H locs ls hz hW hS hl => lv_iload_n C.1 C.2.1 d hi (hl.2.2 i _ hv).1 (k H locs ls hz hW hS hl)
theorem j_iload (C : CallFix p m c cc nL s args Ts own)  {i : Nat} {x : Int32} (d : decode cc pc = .ok (.iload i, 2))  (hv : lsv[i]? = some (some (.int x))) (k : J p l e R s m args below meth c Q D cl Y E ad A H0 nL cells slots z lv V (pc + 2) lsv (.int x :: rest)) : J p l e R s m args below meth c Q D cl Y E ad A H0 nL cells slots z lv V pc lsv rest :=
  fun H locs ls hz hW hS hl => lv_iload C.1 C.2.1 d  (hl.2.2 i _ hv).1 (k H locs ls hz hW hS hl)
theorem j_aload_n (C : CallFix p m c cc nL s args Ts own) {q : Fin 4} {i : Nat} {x : Nat} (d : decode cc pc = .ok (.aload_n q, 1)) (hi : (q : Nat) = i) (hv : lsv[i]? = some (some (.ref x))) (k : J p l e R s m args below meth c Q D cl Y E ad A H0 nL cells slots z lv V (pc + 1) lsv (.ref x :: rest)) : J p l e R s m args below meth c Q D cl Y E ad A H0 nL cells slots z lv V pc lsv rest :=
  fun H locs ls hz hW hS hl => lv_aload_n C.1 C.2.1 d hi (hl.2.2 i _ hv).1 (k H locs ls hz hW hS hl)
theorem j_aload_nQ (C : CallFix p m c cc nL s args Ts own) {q : Fin 4} {i : Nat} {o : Option Nat} (d : decode cc pc = .ok (.aload_n q, 1)) (hi : (q : Nat) = i) (hv : lsv[i]? = some (some (va_rf o))) (k : J p l e R s m args below meth c Q D cl Y E ad A H0 nL cells slots z lv V (pc + 1) lsv (va_rf o :: rest)) : J p l e R s m args below meth c Q D cl Y E ad A H0 nL cells slots z lv V pc lsv rest := by
  intro H locs ls hz hW hS hl
  have h1 := (hl.2.2 i _ hv).1
  have h2 := k H locs ls hz hW hS hl
  cases o with
  | none => exact lv_aload_nN C.1 C.2.1 d hi h1 h2
  | some x => exact lv_aload_n C.1 C.2.1 d hi h1 h2
theorem j_aload (C : CallFix p m c cc nL s args Ts own)  {i : Nat} {x : Nat} (d : decode cc pc = .ok (.aload i, 2))  (hv : lsv[i]? = some (some (.ref x))) (k : J p l e R s m args below meth c Q D cl Y E ad A H0 nL cells slots z lv V (pc + 2) lsv (.ref x :: rest)) : J p l e R s m args below meth c Q D cl Y E ad A H0 nL cells slots z lv V pc lsv rest :=
  fun H locs ls hz hW hS hl => lv_aload C.1 C.2.1 d  (hl.2.2 i _ hv).1 (k H locs ls hz hW hS hl)
theorem j_aloadQ (C : CallFix p m c cc nL s args Ts own)  {i : Nat} {o : Option Nat} (d : decode cc pc = .ok (.aload i, 2))  (hv : lsv[i]? = some (some (va_rf o))) (k : J p l e R s m args below meth c Q D cl Y E ad A H0 nL cells slots z lv V (pc + 2) lsv (va_rf o :: rest)) : J p l e R s m args below meth c Q D cl Y E ad A H0 nL cells slots z lv V pc lsv rest := by
  intro H locs ls hz hW hS hl
  have h1 := (hl.2.2 i _ hv).1
  have h2 := k H locs ls hz hW hS hl
  cases o with
  | none => exact lv_aloadN C.1 C.2.1 d  h1 h2
  | some x => exact lv_aload C.1 C.2.1 d  h1 h2
theorem j_istore_n (C : CallFix p m c cc nL s args Ts own) {q : Fin 4} {i : Nat} {x : Int32} (d : decode cc pc = .ok (.istore_n q, 1)) (hi : (q : Nat) = i) (hn : i < nL) (k : J p l e R s m args below meth c Q D cl Y E ad A H0 nL cells slots z lv V (pc + 1) (lsv.set i (some (.int x))) rest) : J p l e R s m args below meth c Q D cl Y E ad A H0 nL cells slots z lv V pc lsv (.int x :: rest) := by
  intro H locs ls hz hW hS hl
  obtain ⟨ls', e', h'⟩ := hl.store (v := .int x) hn rfl
  obtain ⟨hx, hb, -⟩ := C
  subst hi
  intro T hT X
  obtain ⟨t, a, b⟩ := k H locs ls' hz hW hS h' T hT X
  refine ⟨t, ?_, b⟩
  jvm_step X.here [X.here.top, ↓top_set X.here.top, hx, hb, d, e', Value.isRef]
  exact a
theorem j_istore (C : CallFix p m c cc nL s args Ts own)  {i : Nat} {x : Int32} (d : decode cc pc = .ok (.istore i, 2))  (hn : i < nL) (k : J p l e R s m args below meth c Q D cl Y E ad A H0 nL cells slots z lv V (pc + 2) (lsv.set i (some (.int x))) rest) : J p l e R s m args below meth c Q D cl Y E ad A H0 nL cells slots z lv V pc lsv (.int x :: rest) := by
  intro H locs ls hz hW hS hl
  obtain ⟨ls', e', h'⟩ := hl.store (v := .int x) hn rfl
  obtain ⟨hx, hb, -⟩ := C
  skip
  intro T hT X
  obtain ⟨t, a, b⟩ := k H locs ls' hz hW hS h' T hT X
  refine ⟨t, ?_, b⟩
  jvm_step X.here [X.here.top, ↓top_set X.here.top, hx, hb, d, e', Value.isRef]
  exact a
theorem j_astore_n (C : CallFix p m c cc nL s args Ts own) {q : Fin 4} {i : Nat} {x : Nat} (d : decode cc pc = .ok (.astore_n q, 1)) (hi : (q : Nat) = i) (hn : i < nL) (k : J p l e R s m args below meth c Q D cl Y E ad A H0 nL cells slots z lv V (pc + 1) (lsv.set i (some (.ref x))) rest) : J p l e R s m args below meth c Q D cl Y E ad A H0 nL cells slots z lv V pc lsv (.ref x :: rest) := by
  intro H locs ls hz hW hS hl
  obtain ⟨ls', e', h'⟩ := hl.store (v := .ref x) hn rfl
  obtain ⟨hx, hb, -⟩ := C
  subst hi
  intro T hT X
  obtain ⟨t, a, b⟩ := k H locs ls' hz hW hS h' T hT X
  refine ⟨t, ?_, b⟩
  jvm_step X.here [X.here.top, ↓top_set X.here.top, hx, hb, d, e', Value.isRef]
  exact a
theorem j_astore_nQ (C : CallFix p m c cc nL s args Ts own) {q : Fin 4} {i : Nat} {o : Option Nat} (d : decode cc pc = .ok (.astore_n q, 1)) (hi : (q : Nat) = i) (hn : i < nL) (k : J p l e R s m args below meth c Q D cl Y E ad A H0 nL cells slots z lv V (pc + 1) (lsv.set i (some (va_rf o))) rest) : J p l e R s m args below meth c Q D cl Y E ad A H0 nL cells slots z lv V pc lsv (va_rf o :: rest) := by
  cases o with
  | some x => exact j_astore_n C d hi hn k
  | none =>
    rw [show va_rf none = Value.null from rfl] at k ⊢
    intro H locs ls hz hW hS hl
    obtain ⟨ls', e', h'⟩ := hl.store (v := .null) hn rfl
    obtain ⟨hx, hb, -⟩ := C
    subst hi
    intro T hT X
    obtain ⟨t, a, b⟩ := k H locs ls' hz hW hS h' T hT X
    refine ⟨t, ?_, b⟩
    jvm_step X.here [X.here.top, ↓top_set X.here.top, hx, hb, d, e', Value.isRef]
    exact a
theorem j_astore (C : CallFix p m c cc nL s args Ts own)  {i : Nat} {x : Nat} (d : decode cc pc = .ok (.astore i, 2))  (hn : i < nL) (k : J p l e R s m args below meth c Q D cl Y E ad A H0 nL cells slots z lv V (pc + 2) (lsv.set i (some (.ref x))) rest) : J p l e R s m args below meth c Q D cl Y E ad A H0 nL cells slots z lv V pc lsv (.ref x :: rest) := by
  intro H locs ls hz hW hS hl
  obtain ⟨ls', e', h'⟩ := hl.store (v := .ref x) hn rfl
  obtain ⟨hx, hb, -⟩ := C
  skip
  intro T hT X
  obtain ⟨t, a, b⟩ := k H locs ls' hz hW hS h' T hT X
  refine ⟨t, ?_, b⟩
  jvm_step X.here [X.here.top, ↓top_set X.here.top, hx, hb, d, e', Value.isRef]
  exact a
theorem j_astoreQ (C : CallFix p m c cc nL s args Ts own)  {i : Nat} {o : Option Nat} (d : decode cc pc = .ok (.astore i, 2))  (hn : i < nL) (k : J p l e R s m args below meth c Q D cl Y E ad A H0 nL cells slots z lv V (pc + 2) (lsv.set i (some (va_rf o))) rest) : J p l e R s m args below meth c Q D cl Y E ad A H0 nL cells slots z lv V pc lsv (va_rf o :: rest) := by
  cases o with
  | some x => exact j_astore C d  hn k
  | none =>
    rw [show va_rf none = Value.null from rfl] at k ⊢
    intro H locs ls hz hW hS hl
    obtain ⟨ls', e', h'⟩ := hl.store (v := .null) hn rfl
    obtain ⟨hx, hb, -⟩ := C
    skip
    intro T hT X
    obtain ⟨t, a, b⟩ := k H locs ls' hz hW hS h' T hT X
    refine ⟨t, ?_, b⟩
    jvm_step X.here [X.here.top, ↓top_set X.here.top, hx, hb, d, e', Value.isRef]
    exact a
theorem j_iinc (C : CallFix p m c cc nL s args Ts own) {i : Nat} {n : Int} {x : Int32} (d : decode cc pc = .ok (.iinc i n, 3)) (hv : lsv[i]? = some (some (.int x))) (hn : i < nL) (k : J p l e R s m args below meth c Q D cl Y E ad A H0 nL cells slots z lv V (pc + 3) (lsv.set i (some (.int (x + Int32.ofInt n)))) rest) : J p l e R s m args below meth c Q D cl Y E ad A H0 nL cells slots z lv V pc lsv rest := by
  intro H locs ls hz hW hS hl
  have h1 : ls[i]? = some (.val (.int x)) := (hl.2.2 i _ hv).1
  obtain ⟨kk, hk⟩ := List.getElem?_of_mem (jl_mem.mpr hv)
  refine lv_iinc (k := kk) C.1 C.2.1 d hl.has hk rfl hn rfl (fun ls' h' => ?_)
  refine k H locs ls' hz hW hS ⟨h'.1, h'.2.1, fun j w hj => ?_⟩
  by_cases hji : j = i
  · subst hji
    have hll : j < lsv.length := (List.getElem?_eq_some_iff.mp hv).1
    rw [List.getElem?_set_self hll] at hj
    cases hj
    exact ⟨h'.2.2 (j, _) List.mem_cons_self, rfl⟩
  · rw [List.getElem?_set_ne (Ne.symm hji)] at hj
    have hw := hl.2.2 j w hj
    refine ⟨h'.2.2 (j, w) (List.mem_cons_of_mem _ (List.mem_filter.mpr ⟨jl_mem.mpr hj, ?_⟩)), hw.2⟩
    have h5 : (w.category == 2) = false := by rw [hw.2]; rfl
    have h6 : (j == i) = false := by simpa using hji
    show (!(j == i) && !(j + 1 == i && w.category == 2)) = true
    rw [h5, h6, Bool.and_false]
    rfl
theorem j_ldc (C : CallFix p m c cc nL s args Ts own) {index : Nat} {v : Int32} (d : decode cc pc = .ok (.ldc index, 2)) (hc : Jvm.Cond.constant own index v ∈ Ts) (k : J p l e R s m args below meth c Q D cl Y E ad A H0 nL cells slots z lv V (pc + 2) lsv (.int v :: rest)) : J p l e R s m args below meth c Q D cl Y E ad A H0 nL cells slots z lv V pc lsv rest :=
  fun H locs ls hz hW hS hl => lv_ldc C.1 C.2.1 C.2.2.2.1 (C.2.2.2.2 _ hc) d (k H locs ls hz hW hS hl)
theorem j_ldc2 (C : CallFix p m c cc nL s args Ts own) {index : Nat} {v : Int64} (d : decode cc pc = .ok (.ldc2_w index, 3)) (hc : Jvm.Cond.constantLong own index v ∈ Ts) (k : J p l e R s m args below meth c Q D cl Y E ad A H0 nL cells slots z lv V (pc + 3) lsv (.long v :: rest)) : J p l e R s m args below meth c Q D cl Y E ad A H0 nL cells slots z lv V pc lsv rest :=
  fun H locs ls hz hW hS hl => lv_ldc2 C.1 C.2.1 C.2.2.2.1 (C.2.2.2.2 _ hc) d (k H locs ls hz hW hS hl)
/-- a field is read: k the kind, i the index, j the field -/
theorem j_get (C : CallFix p m c cc nL s args Ts own) (hK : jK D cl Y E s) {ref Cn : String} {T : u_T} {N ci index : Nat} (k i j : Nat) (d : decode cc pc = .ok (.getfield index, 3)) (hin : ∀ w ∈ u_ws Cn T N, w ∈ Ts) (hY : Y k = .inl ci) (hc : cl[ci]? = some (Cn, T, N)) (hj : j < N) (hlink : Cond.fieldLink own index ref (T j).2.1 (T j).2.2.1 ∈ Ts) (hsame : (T j).1 = ref) (hl : lv k i) (kk : J p l e R s m args below meth c Q D cl Y E ad A H0 nL cells slots z lv V (pc + 3) lsv (V k i j :: rest)) : J p l e R s m args below meth c Q D cl Y E ad A H0 nL cells slots z lv V pc lsv (.ref (ad k i) :: rest) := by
  intro H locs ls hz hW hS hls
  have h0 := (hW.1 k i hl).1
  unfold jat at h0
  rw [hY] at h0
  obtain ⟨r, h1, cell, q1, q2, q3, q4⟩ := h0
  have hr : r = (Cn, T, N) := Option.some.inj (h1.symm.trans hc)
  subst hr
  obtain ⟨hSl, hfc, kC, hkC, hkind⟩ := hK.1.1 ci _ hc
  obtain ⟨cf, kf, fi, f, hi, hsl⟩ := hSl j hj
  refine W.getf C.1 C.2.1 C.2.2.2.1 (C.2.2.2.2 _ hlink) (hsame ▸ hi) (u_facts hfc hkC (u_lays C.2.2.2.2 hin hj) hi).1 q1 (by rw [q3]; exact fun h => by cases h) (v := V k i j) ?_ rfl rfl d (kk H locs ls hz hW hS hls)
  rw [hsl]
  exact q4 j hj
/-- a field is written -/
theorem j_put (C : CallFix p m c cc nL s args Ts own) (hK : jK D cl Y E s) {ref Cn : String} {T : u_T} {N ci index : Nat} (k i j : Nat) (ty0 : Nat → FieldType) (hty : ∀ k, k < N → parseFieldDescriptor (T k).2.2.1 = some (ty0 k)) (hnm : ∀ a, a < N → ∀ b, b < N → a ≠ b → (T a).2.1 ≠ (T b).2.1) (d : decode cc pc = .ok (.putfield index, 3)) (hin : ∀ w ∈ u_ws Cn T N, w ∈ Ts) (hY : Y k = .inl ci) (hc : cl[ci]? = some (Cn, T, N)) (hj : j < N) (hlink : Cond.fieldLink own index ref (T j).2.1 (T j).2.2.1 ∈ Ts) (hsame : (T j).1 = ref) (hfin : (T j).2.2.2 = false) {v : Value} (hn : narrow (ty0 j) v = v) (hfit : fits (ty0 j) v = true) (hl : lv k i) (kk : J p l e R s m args below meth c Q D cl Y E ad A H0 nL cells slots z lv (jup V k i j v) (pc + 3) lsv rest) : J p l e R s m args below meth c Q D cl Y E ad A H0 nL cells slots z lv V pc lsv (v :: .ref (ad k i) :: rest) := by
  intro H locs ls hz hW hS hls
  have hap := va_apart (own := own) C.2.2.2.2 hin ty0 hty hnm hK.1 hc
  have h0 := (hW.1 k i hl).1
  have h0' := h0
  unfold jat at h0
  rw [hY] at h0
  obtain ⟨r, h1, cell, q1, q2, q3, q4⟩ := h0
  have hr : r = (Cn, T, N) := Option.some.inj (h1.symm.trans hc)
  subst hr
  obtain ⟨hSl, hfc, kC, hkC, hkind⟩ := hK.1.1 ci _ hc
  obtain ⟨cf, kf, fi, f, hi, hsl⟩ := hSl j hj
  have hlay := C.2.2.2.2 _ (hin _ (u_in_lay hj))
  unfold u_lay at hlay
  rw [if_neg (by rw [hfin]; decide)] at hlay
  have hst := (u_facts hfc hkC (u_lays C.2.2.2.2 hin hj) hi).1
  have h6 := u_store hfc hkC hkind hlay hi (hty j hj) hn hfit
  refine W.putK C.1 C.2.1 (f := f) ⟨C.2.2.2.1, C.2.2.2.2 _ hlink, ⟨_, _, _, hsame ▸ hi⟩, hst⟩ (by rw [q2]; exact h6) q1 q3 (by rw [hsl]; exact k2_hasslot (q4 j hj)) rfl rfl d fun H' e1 e2 e3 => ?_
  rw [hsl] at e1 ⊢
  refine kk H' _ ls (e2.trans hz) (hW.put hl ?_ e3) (hS.put e2 e3 (hW.1 k i hl).2) hls
  unfold jat
  rw [hY]
  exact ⟨_, hc, _, e1, q2, q3, t_set q4 hap hj v⟩
/-- a final field is written, in its constructor -/
theorem j_putF (C : CallFix p m c cc nL s args Ts own) (hK : jK D cl Y E s) {ref Cn : String} {T : u_T} {N ci index : Nat} (k i j : Nat) (ty0 : Nat → FieldType) (hty : ∀ k, k < N → parseFieldDescriptor (T k).2.2.1 = some (ty0 k)) (hnm : ∀ a, a < N → ∀ b, b < N → a ≠ b → (T a).2.1 ≠ (T b).2.1) (d : decode cc pc = .ok (.putfield index, 3)) (hin : ∀ w ∈ u_ws Cn T N, w ∈ Ts) (hY : Y k = .inl ci) (hc : cl[ci]? = some (Cn, T, N)) (hj : j < N) (hlink : Cond.fieldLink own index ref (T j).2.1 (T j).2.2.1 ∈ Ts) (hsame : (T j).1 = ref) (hfin : (T j).2.2.2 = true) (hin2 : meth.name = "<init>") (hdecl : (T j).1 = own) {v : Value} (hn : narrow (ty0 j) v = v) (hfit : fits (ty0 j) v = true) (hl : lv k i) (kk : J p l e R s m args below meth c Q D cl Y E ad A H0 nL cells slots z lv (jup V k i j v) (pc + 3) lsv rest) : J p l e R s m args below meth c Q D cl Y E ad A H0 nL cells slots z lv V pc lsv (v :: .ref (ad k i) :: rest) := by
  intro H locs ls hz hW hS hls
  have hap := va_apart (own := own) C.2.2.2.2 hin ty0 hty hnm hK.1 hc
  have h0 := (hW.1 k i hl).1
  unfold jat at h0
  rw [hY] at h0
  obtain ⟨r, h1, cell, q1, q2, q3, q4⟩ := h0
  have hr : r = (Cn, T, N) := Option.some.inj (h1.symm.trans hc)
  subst hr
  obtain ⟨hSl, hfc, kC, hkC, hkind⟩ := hK.1.1 ci _ hc
  obtain ⟨cf, kf, fi, f, hi, hsl⟩ := hSl j hj
  have hlay := C.2.2.2.2 _ (hin _ (u_in_lay hj))
  unfold u_lay at hlay
  rw [if_pos hfin] at hlay
  have hst := (u_facts hfc hkC (u_lays C.2.2.2.2 hin hj) hi).1
  have hcf : m.cls = cf := by
    obtain ⟨_, _, c', _, _, _, -, -, hf', -, -, -, hown2, -⟩ := Cond.laysFinal_spec hlay
    have e1 : c' = cf := by have := hi.symm.trans hf'; simp at this; exact this.1.symm
    rw [hdecl] at hown2
    rw [← e1]; exact Option.some.inj (C.2.2.2.1.symm.trans hown2)
  have h6 := u_fits hfc hkC hkind (Or.inr hlay) hi (hty j hj) hn hfit
  refine W.putFinK C.1 C.2.1 C.2.2.2.1 (C.2.2.2.2 _ hlink) (hsame ▸ hi) hst hcf hin2 (by rw [q2]; exact h6) q1 q3 (by rw [hsl]; exact k2_hasslot (q4 j hj)) rfl rfl d fun H' e1 e2 e3 => ?_
  rw [hsl] at e1 ⊢
  refine kk H' _ ls (e2.trans hz) (hW.put hl ?_ e3) (hS.put e2 e3 (hW.1 k i hl).2) hls
  unfold jat
  rw [hY]
  exact ⟨_, hc, _, e1, q2, q3, t_set q4 hap hj v⟩
/-- an int array is read -/
theorem j_iald (C : CallFix p m c cc nL s args Ts own) (hK : jK D cl Y E s) {n : Nat} (k i : Nat) (d : decode cc pc = .ok (.iaload, 1)) (hY : Y k = .inr (.int, n)) {x : Int32} (hin : vp_in x n) (hl : lv k i) (kk : J p l e R s m args below meth c Q D cl Y E ad A H0 nL cells slots z lv V (pc + 1) lsv (V k i x.toNatClampNeg :: rest)) : J p l e R s m args below meth c Q D cl Y E ad A H0 nL cells slots z lv V pc lsv (.int x :: .ref (ad k i) :: rest) := by
  intro H locs ls hz hW hS hls
  have hlt : x.toNatClampNeg < n := Nat.not_le.mp fun q => hin (Or.inr q)
  have h0 := (hW.1 k i hl).1
  unfold jat at h0
  rw [hY] at h0
  exact W.iald (v := V k i x.toNatClampNeg) C.1 C.2.1 h0 ((hK.2 k _ hY).1 n (V k i)) (fun q => by cases q) (by show ¬ (x < 0 ∨ (arrV _ _ _).slots.size ≤ _); rw [arrV_size]; exact hin) (by show (arrV _ _ _).slots[_]? = _; rw [arrV_read _ _ hlt]) rfl rfl d (kk H locs ls hz hW hS hls)
theorem j_iast (C : CallFix p m c cc nL s args Ts own) (hK : jK D cl Y E s) {n : Nat} (k i : Nat) (d : decode cc pc = .ok (.iastore, 1)) (hY : Y k = .inr (.int, n)) {x v : Int32} (hin : vp_in x n) (hl : lv k i) (kk : J p l e R s m args below meth c Q D cl Y E ad A H0 nL cells slots z lv (jup V k i x.toNatClampNeg (.int v)) (pc + 1) lsv rest) : J p l e R s m args below meth c Q D cl Y E ad A H0 nL cells slots z lv V pc lsv (.int v :: .int x :: .ref (ad k i) :: rest) := by
  intro H locs ls hz hW hS hls
  have h0 := (hW.1 k i hl).1
  unfold jat at h0
  rw [hY] at h0
  refine W.iast C.1 C.2.1 h0 ((hK.2 k _ hY).1 n (V k i)) (fun q => by cases q) (by show ¬ (x < 0 ∨ (arrV _ _ _).slots.size ≤ _); rw [arrV_size]; exact hin) rfl rfl d fun H1 e z1 oq => ?_
  refine kk H1 _ ls (z1.trans hz) (hW.put hl ?_ oq) (hS.put z1 oq (hW.1 k i hl).2) hls
  unfold jat
  rw [hY]
  show H1[ad k i]? = some (arrV (E k) n _)
  rw [e, arrV_store]
/-- a boolean array is read, written; a long array -/
theorem j_zald (C : CallFix p m c cc nL s args Ts own) (hK : jK D cl Y E s) {n : Nat} (k i : Nat) (d : decode cc pc = .ok (.baload, 1)) (hY : Y k = .inr (.boolean, n)) {x : Int32} (hin : vp_in x n) (hl : lv k i) (kk : J p l e R s m args below meth c Q D cl Y E ad A H0 nL cells slots z lv V (pc + 1) lsv (V k i x.toNatClampNeg :: rest)) : J p l e R s m args below meth c Q D cl Y E ad A H0 nL cells slots z lv V pc lsv (.int x :: .ref (ad k i) :: rest) := by
  intro H locs ls hz hW hS hls
  have hlt : x.toNatClampNeg < n := Nat.not_le.mp fun q => hin (Or.inr q)
  have h0 := (hW.1 k i hl).1
  unfold jat at h0
  rw [hY] at h0
  exact W.zald (v := V k i x.toNatClampNeg) C.1 C.2.1 h0 ((hK.2 k _ hY).1 n (V k i)) (fun q => by cases q) (by show ¬ (x < 0 ∨ (arrV _ _ _).slots.size ≤ _); rw [arrV_size]; exact hin) (by show (arrV _ _ _).slots[_]? = _; rw [arrV_read _ _ hlt]) rfl rfl d (kk H locs ls hz hW hS hls)
theorem j_zast (C : CallFix p m c cc nL s args Ts own) (hK : jK D cl Y E s) {n : Nat} (k i : Nat) (d : decode cc pc = .ok (.bastore, 1)) (hY : Y k = .inr (.boolean, n)) {x v : Int32} (hnar : narrow .boolean (.int v) = .int v) (hin : vp_in x n) (hl : lv k i) (kk : J p l e R s m args below meth c Q D cl Y E ad A H0 nL cells slots z lv (jup V k i x.toNatClampNeg (.int v)) (pc + 1) lsv rest) : J p l e R s m args below meth c Q D cl Y E ad A H0 nL cells slots z lv V pc lsv (.int v :: .int x :: .ref (ad k i) :: rest) := by
  intro H locs ls hz hW hS hls
  have h0 := (hW.1 k i hl).1
  unfold jat at h0
  rw [hY] at h0
  refine W.zast C.1 C.2.1 h0 ((hK.2 k _ hY).1 n (V k i)) (fun q => by cases q) (by show ¬ (x < 0 ∨ (arrV _ _ _).slots.size ≤ _); rw [arrV_size]; exact hin) rfl rfl d fun H1 e z1 oq => ?_
  refine kk H1 _ ls (z1.trans hz) (hW.put hl ?_ oq) (hS.put z1 oq (hW.1 k i hl).2) hls
  unfold jat
  rw [hY]
  show H1[ad k i]? = some (arrV (E k) n _)
  rw [e, hnar, arrV_store]
theorem j_lald (C : CallFix p m c cc nL s args Ts own) (hK : jK D cl Y E s) {n : Nat} (k i : Nat) (d : decode cc pc = .ok (.laload, 1)) (hY : Y k = .inr (.long, n)) {x : Int32} (hin : vp_in x n) (hl : lv k i) (kk : J p l e R s m args below meth c Q D cl Y E ad A H0 nL cells slots z lv V (pc + 1) lsv (V k i x.toNatClampNeg :: rest)) : J p l e R s m args below meth c Q D cl Y E ad A H0 nL cells slots z lv V pc lsv (.int x :: .ref (ad k i) :: rest) := by
  intro H locs ls hz hW hS hls
  have hlt : x.toNatClampNeg < n := Nat.not_le.mp fun q => hin (Or.inr q)
  have h0 := (hW.1 k i hl).1
  unfold jat at h0
  rw [hY] at h0
  exact W.lald (v := V k i x.toNatClampNeg) C.1 C.2.1 h0 ((hK.2 k _ hY).1 n (V k i)) (fun q => by cases q) (by show ¬ (x < 0 ∨ (arrV _ _ _).slots.size ≤ _); rw [arrV_size]; exact hin) (by show (arrV _ _ _).slots[_]? = _; rw [arrV_read _ _ hlt]) rfl rfl d (kk H locs ls hz hW hS hls)
theorem j_last (C : CallFix p m c cc nL s args Ts own) (hK : jK D cl Y E s) {n : Nat} (k i : Nat) (d : decode cc pc = .ok (.lastore, 1)) (hY : Y k = .inr (.long, n)) {x : Int32} {v : Int64} (hin : vp_in x n) (hl : lv k i) (kk : J p l e R s m args below meth c Q D cl Y E ad A H0 nL cells slots z lv (jup V k i x.toNatClampNeg (.long v)) (pc + 1) lsv rest) : J p l e R s m args below meth c Q D cl Y E ad A H0 nL cells slots z lv V pc lsv (.long v :: .int x :: .ref (ad k i) :: rest) := by
  intro H locs ls hz hW hS hls
  have h0 := (hW.1 k i hl).1
  unfold jat at h0
  rw [hY] at h0
  refine W.last C.1 C.2.1 h0 ((hK.2 k _ hY).1 n (V k i)) (fun q => by cases q) (by show ¬ (x < 0 ∨ (arrV _ _ _).slots.size ≤ _); rw [arrV_size]; exact hin) rfl rfl d fun H1 e z1 oq => ?_
  refine kk H1 _ ls (z1.trans hz) (hW.put hl ?_ oq) (hS.put z1 oq (hW.1 k i hl).2) hls
  unfold jat
  rw [hY]
  show H1[ad k i]? = some (arrV (E k) n _)
  rw [e, arrV_store]
/-- an array of references is read -/
theorem j_aald (C : CallFix p m c cc nL s args Ts own) (hK : jK D cl Y E s) {n : Nat} {Cn : String} (k i : Nat) (d : decode cc pc = .ok (.aaload, 1)) (hY : Y k = .inr (.object Cn, n)) {x : Int32} (hin : vp_in x n) (hl : lv k i) (kk : J p l e R s m args below meth c Q D cl Y E ad A H0 nL cells slots z lv V (pc + 1) lsv (V k i x.toNatClampNeg :: rest)) : J p l e R s m args below meth c Q D cl Y E ad A H0 nL cells slots z lv V pc lsv (.int x :: .ref (ad k i) :: rest) := by
  intro H locs ls hz hW hS hls
  have hlt : x.toNatClampNeg < n := Nat.not_le.mp fun q => hin (Or.inr q)
  have h0 := (hW.1 k i hl).1
  unfold jat at h0
  rw [hY] at h0
  exact W.aald (v := V k i x.toNatClampNeg) (ty := .object Cn) C.1 C.2.1 h0 ((hK.2 k _ hY).1 n (V k i)) rfl (fun q => by cases q) (by show ¬ (x < 0 ∨ (arrV _ _ _).slots.size ≤ _); rw [arrV_size]; exact hin) (by show (arrV _ _ _).slots[_]? = _; rw [arrV_read _ _ hlt]) rfl rfl d (kk H locs ls hz hW hS hls)
/-- a reference to an object of the world is stored in an array -/
theorem j_aast (C : CallFix p m c cc nL s args Ts own) (hK : jK D cl Y E s) {n ci : Nat} {r : vw_C} (k i k2 i2 : Nat) (d : decode cc pc = .ok (.aastore, 1)) (hY : Y k = .inr (.object r.1, n)) (hY2 : Y k2 = .inl ci) (hc : cl[ci]? = some r) {x : Int32} (hin : vp_in x n) (hl : lv k i) (hl2 : lv k2 i2) (kk : J p l e R s m args below meth c Q D cl Y E ad A H0 nL cells slots z lv (jup V k i x.toNatClampNeg (.ref (ad k2 i2))) (pc + 1) lsv rest) : J p l e R s m args below meth c Q D cl Y E ad A H0 nL cells slots z lv V pc lsv (.ref (ad k2 i2) :: .int x :: .ref (ad k i) :: rest) := by
  intro H locs ls hz hW hS hls
  have hlt : x.toNatClampNeg < n := Nat.not_le.mp fun q => hin (Or.inr q)
  have hx0 : ¬ x < 0 := fun q => hin (Or.inl q)
  have h0 := (hW.1 k i hl).1
  unfold jat at h0
  rw [hY] at h0
  have g0 := (hW.1 k2 i2 hl2).1
  unfold jat at g0
  rw [hY2] at g0
  obtain ⟨r', hr', cellV, g1, g2, g3, -⟩ := g0
  have hcls := (hK.1.1 ci r hc).2
  obtain ⟨kA, comp, k1, k2', k3, -⟩ := (hK.2 k _ hY).2
  have hcomp : comp = D.1 ci := Option.some.inj (k3.symm.trans hcls.1)
  subst hcomp
  obtain ⟨kC, hkC, -⟩ := hcls.2
  refine W.aast C.1 C.2.1 h0 (fun q h => by cases h) (fun h => by cases h) k1 k2' rfl hkC ⟨hx0, by show _ < (arrV _ _ _).slots.size; rw [arrV_size]; exact hlt⟩ g1 (fun q h => by rw [g3] at h; cases h) (by rw [g2]; exact hkC) (by rw [g2]; exact va_assign hcls) rfl rfl d fun H1 e z1 oq => ?_
  refine kk H1 _ ls (z1.trans hz) (hW.put hl ?_ oq) (hS.put z1 oq (hW.1 k i hl).2) hls
  unfold jat
  rw [hY]
  show H1[ad k i]? = some (arrV (E k) n _)
  rw [e, arrV_store]
theorem j_alen (C : CallFix p m c cc nL s args Ts own) (hK : jK D cl Y E s) {n : Nat} {ty : FieldType} (k i : Nat) (d : decode cc pc = .ok (.arraylength, 1)) (hY : Y k = .inr (ty, n)) (hl : lv k i) (kk : J p l e R s m args below meth c Q D cl Y E ad A H0 nL cells slots z lv V (pc + 1) lsv (.int (Int32.ofNat n) :: rest)) : J p l e R s m args below meth c Q D cl Y E ad A H0 nL cells slots z lv V pc lsv (.ref (ad k i) :: rest) := by
  intro H locs ls hz hW hS hls
  have h0 := (hW.1 k i hl).1
  unfold jat at h0
  rw [hY] at h0
  exact W.alen (n := Int32.ofNat n) C.1 C.2.1 h0 ((hK.2 k _ hY).1 n (V k i)) (by rw [arrV_size] <;> rfl) rfl rfl d (kk H locs ls hz hW hS hls)
/-- the locals forget -/
theorem j_sub {stk : List Value} (lsv' : List (Option Value)) (hs : ∀ (i : Nat) (v : Value), lsv'[i]? = some (some v) → lsv[i]? = some (some v)) (k : J p l e R s m args below meth c Q D cl Y E ad A H0 nL cells slots z lv V pc lsv' stk) : J p l e R s m args below meth c Q D cl Y E ad A H0 nL cells slots z lv V pc lsv stk := fun H locs ls hz hW hS hl => k H locs ls hz hW hS (hl.sub hs)
theorem j_eq {stk stk' : List Value} {V' : jVT} {lsv' : List (Option Value)} (hV : V = V') (hl : lsv = lsv') (hs : stk = stk') (k : J p l e R s m args below meth c Q D cl Y E ad A H0 nL cells slots z lv V' pc lsv' stk') : J p l e R s m args below meth c Q D cl Y E ad A H0 nL cells slots z lv V pc lsv stk := by
  subst hV; subst hl; subst hs; exact k
theorem j_V {stk : List Value} {V' : jVT} (hV : V = V') (k : J p l e R s m args below meth c Q D cl Y E ad A H0 nL cells slots z lv V' pc lsv stk) : J p l e R s m args below meth c Q D cl Y E ad A H0 nL cells slots z lv V pc lsv stk := by
  subst hV; exact k
end JROWS
section JNEW
variable {p : Program} {l : Launch} {e : Env} {R : Room} {s : State} {m : MethodId} {args : Array Value} {below : List Frame} {meth : Method} {c : Code} {cells slots z : Nat} {Q : State → Prop} {D : va_G} {cl : List vw_C} {Y : Nat → Nat ⊕ (FieldType × Nat)} {E : Nat → ClassId} {ad : Nat → Nat → Nat} {lv : Nat → Nat → Prop} {A : Nat → Prop} {H0 : Heap} {cc : ByteArray} {nL : Nat} {Ts : List Cond} {own : String}
variable {V : jVT} {pc : Nat} {lsv : List (Option Value)} {rest : List Value}
def jlv (lv : Nat → Nat → Prop) (k i : Nat) : Nat → Nat → Prop := fun k' i' => lv k' i' ∨ (k' = k ∧ i' = i)
def jnw (V : jVT) (k i : Nat) (f : Nat → Value) : jVT := fun k' i' j' => if k' = k ∧ i' = i then f j' else V k' i' j'
theorem jW.new {H H1 : Heap} {k i : Nat} {f : Nat → Value} (h : jW D cl Y E ad lv V A H) (hf : ¬ lv k i) (had : ad k i = H.size) (hn : jat D cl Y E (ad k i) k f H1) (hA : A (ad k i)) (oq : ∀ q : Nat, q < H.size → H1[q]? = H[q]?) : jW D cl Y E ad (jlv lv k i) (jnw V k i f) A H1 := by
  refine ⟨fun k' i' hl' => ?_, fun k1 i1 k2 i2 h1 h2 he => ?_⟩
  · by_cases hq : k' = k ∧ i' = i
    · obtain ⟨rfl, rfl⟩ := hq
      have e : jnw V k' i' f k' i' = f := by funext j; simp [jnw]
      rw [e]
      exact ⟨hn, hA⟩
    · have hl2 : lv k' i' := hl'.resolve_right hq
      have e : jnw V k i f k' i' = V k' i' := by funext j; simp only [jnw]; rw [if_neg hq]
      rw [e]
      exact ⟨(h.1 _ _ hl2).1.kept (oq _ (h.1 _ _ hl2).1.lt), (h.1 _ _ hl2).2⟩
  · rcases h1 with h1 | ⟨rfl, rfl⟩ <;> rcases h2 with h2 | ⟨rfl, rfl⟩
    · exact h.2 _ _ _ _ h1 h2 he
    · have := (h.1 _ _ h1).1.lt
      rw [he, had] at this
      exact absurd this (Nat.lt_irrefl _)
    · have := (h.1 _ _ h2).1.lt
      rw [← he, had] at this
      exact absurd this (Nat.lt_irrefl _)
    · exact ⟨rfl, rfl⟩
theorem j_new (C : CallFix p m c cc nL s args Ts own) (hK : jK D cl Y E s) (hAz : ∀ q, H0.size ≤ q → A q) {Cn : String} {T : u_T} {N ci index : Nat} (k i : Nat) (ty : Nat → FieldType) (hty : ∀ k, k < N → parseFieldDescriptor (T k).2.2.1 = some (ty k)) (d : decode cc pc = .ok (.new index, 3)) (hin : ∀ w ∈ u_ws Cn T N, w ∈ Ts) (hcl : Cond.classLink own index Cn ∈ Ts) (hinst : Cond.instantiable Cn N ∈ Ts) (hini : Cond.initialized Cn ∈ Ts) (hY : Y k = .inl ci) (hc : cl[ci]? = some (Cn, T, N)) (hf : ¬ lv k i) (had : ad k i = z) (hcells : cells + 1 ≤ R.cells) (hslots : slots + N ≤ R.slots)
    (kk : J p l e R s m args below meth c Q D cl Y E ad A H0 nL (cells + 1) (slots + N) (z + 1) (jlv lv k i) (jnw V k i (fun j => defaultValue (ty j))) (pc + 3) lsv (.ref (ad k i) :: rest)) : J p l e R s m args below meth c Q D cl Y E ad A H0 nL cells slots z lv V pc lsv rest := by
  intro H locs ls hz hW hS hl
  have hKn := hK.1.1 ci _ hc
  refine W.newcK C.1 C.2.1 C.2.2.2.1 (C.2.2.2.2 _ hcl) (C.2.2.2.2 _ hinst) (C.2.2.2.2 _ hini) rfl d hcells hslots hKn.2.1 (h := ad k i) (hz.trans had.symm) fun H1 kC hkC e1 z1 o1 => ?_
  have hH : ad k i = H.size := had.trans hz.symm
  refine kk H1 locs ls (by rw [z1, had]) (hW.new hf hH ?_ (hAz _ (by rw [hH]; exact hS.1)) (fun q hq => o1 q (by rw [hH]; exact hq))) ⟨Nat.le_trans hS.1 (by rw [z1, hH]; omega), fun x h1 h2 => (o1 x (by rw [hH]; exact Nat.lt_of_lt_of_le h1 hS.1)).trans (hS.2.1 x h1 h2), hS.2.2⟩ hl
  unfold jat
  rw [hY]
  exact ⟨_, hc, u_born ty C.2.2.2.2 hin hKn hkC e1 hty⟩
theorem j_newa (C : CallFix p m c cc nL s args Ts own) (hK : jK D cl Y E s) (hAz : ∀ q, H0.size ≤ q → A q) {n : Nat} {x : Int32} (k i : Nat) (d : decode cc pc = .ok (.newarray .int, 2)) (harr : Cond.arrayClass .int ∈ Ts) (hY : Y k = .inr (.int, n)) (hx : ¬ x < 0) (hN : x.toNatClampNeg = n) (hbytes : n * 4 ≤ 536870912) (hf : ¬ lv k i) (had : ad k i = z) (hcells : cells + 1 ≤ R.cells) (hslots : slots + n ≤ R.slots)
    (kk : J p l e R s m args below meth c Q D cl Y E ad A H0 nL (cells + 1) (slots + n) (z + 1) (jlv lv k i) (jnw V k i (fun _ => .int 0)) (pc + 2) lsv (.ref (ad k i) :: rest)) : J p l e R s m args below meth c Q D cl Y E ad A H0 nL cells slots z lv V pc lsv (.int x :: rest) := by
  intro H locs ls hz hW hS hl
  refine va_newaK (atype := .int) C.1 C.2.1 (C.2.2.2.2 _ harr) rfl d rfl hx hN hbytes hcells hslots (h := ad k i) (hz.trans had.symm) fun H1 cA e1 z1 o1 hAr hNm => ?_
  have hH : ad k i = H.size := had.trans hz.symm
  have hcA : cA = E k := Option.some.inj (hNm.symm.trans (hK.2 k _ hY).2)
  refine kk H1 locs ls (by rw [z1, had]) (hW.new hf hH ?_ (hAz _ (by rw [hH]; exact hS.1)) (fun q hq => o1 q (by rw [hH]; exact hq))) ⟨Nat.le_trans hS.1 (by rw [z1, hH]; omega), fun x h1 h2 => (o1 x (by rw [hH]; exact Nat.lt_of_lt_of_le h1 hS.1)).trans (hS.2.1 x h1 h2), hS.2.2⟩ hl
  unfold jat
  rw [hY]
  rw [← hcA]
  exact e1
theorem j_newz (C : CallFix p m c cc nL s args Ts own) (hK : jK D cl Y E s) (hAz : ∀ q, H0.size ≤ q → A q) {n : Nat} {x : Int32} (k i : Nat) (d : decode cc pc = .ok (.newarray .boolean, 2)) (harr : Cond.arrayClass .boolean ∈ Ts) (hY : Y k = .inr (.boolean, n)) (hx : ¬ x < 0) (hN : x.toNatClampNeg = n) (hbytes : n * 1 ≤ 536870912) (hf : ¬ lv k i) (had : ad k i = z) (hcells : cells + 1 ≤ R.cells) (hslots : slots + n ≤ R.slots)
    (kk : J p l e R s m args below meth c Q D cl Y E ad A H0 nL (cells + 1) (slots + n) (z + 1) (jlv lv k i) (jnw V k i (fun _ => .int 0)) (pc + 2) lsv (.ref (ad k i) :: rest)) : J p l e R s m args below meth c Q D cl Y E ad A H0 nL cells slots z lv V pc lsv (.int x :: rest) := by
  intro H locs ls hz hW hS hl
  refine va_newaK (atype := .boolean) C.1 C.2.1 (C.2.2.2.2 _ harr) rfl d rfl hx hN hbytes hcells hslots (h := ad k i) (hz.trans had.symm) fun H1 cA e1 z1 o1 hAr hNm => ?_
  have hH : ad k i = H.size := had.trans hz.symm
  have hcA : cA = E k := Option.some.inj (hNm.symm.trans (hK.2 k _ hY).2)
  refine kk H1 locs ls (by rw [z1, had]) (hW.new hf hH ?_ (hAz _ (by rw [hH]; exact hS.1)) (fun q hq => o1 q (by rw [hH]; exact hq))) ⟨Nat.le_trans hS.1 (by rw [z1, hH]; omega), fun x h1 h2 => (o1 x (by rw [hH]; exact Nat.lt_of_lt_of_le h1 hS.1)).trans (hS.2.1 x h1 h2), hS.2.2⟩ hl
  unfold jat
  rw [hY]
  rw [← hcA]
  exact e1
theorem j_newl (C : CallFix p m c cc nL s args Ts own) (hK : jK D cl Y E s) (hAz : ∀ q, H0.size ≤ q → A q) {n : Nat} {x : Int32} (k i : Nat) (d : decode cc pc = .ok (.newarray .long, 2)) (harr : Cond.arrayClass .long ∈ Ts) (hY : Y k = .inr (.long, n)) (hx : ¬ x < 0) (hN : x.toNatClampNeg = n) (hbytes : n * 8 ≤ 536870912) (hf : ¬ lv k i) (had : ad k i = z) (hcells : cells + 1 ≤ R.cells) (hslots : slots + n ≤ R.slots)
    (kk : J p l e R s m args below meth c Q D cl Y E ad A H0 nL (cells + 1) (slots + n) (z + 1) (jlv lv k i) (jnw V k i (fun _ => .long 0)) (pc + 2) lsv (.ref (ad k i) :: rest)) : J p l e R s m args below meth c Q D cl Y E ad A H0 nL cells slots z lv V pc lsv (.int x :: rest) := by
  intro H locs ls hz hW hS hl
  refine va_newaK (atype := .long) C.1 C.2.1 (C.2.2.2.2 _ harr) rfl d rfl hx hN hbytes hcells hslots (h := ad k i) (hz.trans had.symm) fun H1 cA e1 z1 o1 hAr hNm => ?_
  have hH : ad k i = H.size := had.trans hz.symm
  have hcA : cA = E k := Option.some.inj (hNm.symm.trans (hK.2 k _ hY).2)
  refine kk H1 locs ls (by rw [z1, had]) (hW.new hf hH ?_ (hAz _ (by rw [hH]; exact hS.1)) (fun q hq => o1 q (by rw [hH]; exact hq))) ⟨Nat.le_trans hS.1 (by rw [z1, hH]; omega), fun x h1 h2 => (o1 x (by rw [hH]; exact Nat.lt_of_lt_of_le h1 hS.1)).trans (hS.2.1 x h1 h2), hS.2.2⟩ hl
  unfold jat
  rw [hY]
  rw [← hcA]
  exact e1
theorem j_newq (C : CallFix p m c cc nL s args Ts own) (hK : jK D cl Y E s) (hAz : ∀ q, H0.size ≤ q → A q) {n index : Nat} {x : Int32} {Cn : String} (k i : Nat) (d : decode cc pc = .ok (.anewarray index, 3)) (hcl : Cond.classLink own index Cn ∈ Ts) (harr : Cond.arrayOver (.object Cn) ∈ Ts) (hY : Y k = .inr (.object Cn, n)) (hx : ¬ x < 0) (hN : x.toNatClampNeg = n) (hbytes : n * 4 ≤ 536870912) (hf : ¬ lv k i) (had : ad k i = z) (hcells : cells + 1 ≤ R.cells) (hslots : slots + n ≤ R.slots)
    (kk : J p l e R s m args below meth c Q D cl Y E ad A H0 nL (cells + 1) (slots + n) (z + 1) (jlv lv k i) (jnw V k i (fun _ => .null)) (pc + 3) lsv (.ref (ad k i) :: rest)) : J p l e R s m args below meth c Q D cl Y E ad A H0 nL cells slots z lv V pc lsv (.int x :: rest) := by
  intro H locs ls hz hW hS hl
  subst hN
  refine W.anew C.1 C.2.1 C.2.2.2.1 (C.2.2.2.2 _ hcl) (C.2.2.2.2 _ harr) rfl d rfl hx hbytes hcells hslots fun cA kA comp f1 f2 f3 f4 => ?_
  have hH : ad k i = H.size := had.trans hz.symm
  obtain ⟨kA', comp', g1, g2, g3, g4⟩ := (hK.2 k _ hY).2
  have hcA : cA = E k := Option.some.inj (f1.symm.trans g4)
  generalize hH1 : H.push ({ cls := cA, slots := Array.replicate x.toNatClampNeg .null, vm := .none } : Cell) = H1
  have z1 : H1.size = H.size + 1 := by rw [← hH1, Array.size_push]
  have e1 : H1[H.size]? = some (arrV cA x.toNatClampNeg (fun _ => .null)) := by rw [← hH1, Array.getElem?_push_size, ← arrV_new]
  have o1 : ∀ q : Nat, q < H.size → H1[q]? = H[q]? := fun q hq => by rw [← hH1, Array.getElem?_push, if_neg (Nat.ne_of_lt hq)]
  rw [← hH]
  refine kk H1 locs ls (by rw [z1, hz]) (hW.new hf hH ?_ (hAz _ (by rw [hH]; exact hS.1)) o1) ⟨Nat.le_trans hS.1 (by omega), fun x h1 h2 => (o1 x (Nat.lt_of_lt_of_le h1 hS.1)).trans (hS.2.1 x h1 h2), hS.2.2⟩ hl
  unfold jat
  rw [hY]
  rw [← hcA, hH]
  exact e1
theorem j_objInit (C : CallFix p m c cc nL s args Ts own) {idx a : Nat} (d : decode cc pc = .ok (.invokespecial idx, 3)) (hlink : Cond.methodLink own idx objectInit ∈ Ts) (hinst : Cond.instanceMethod objectInit ∈ Ts) (hcode : Cond.code objectInit ⟨#[0xb1]⟩ 1 none ∈ Ts) (hframes : 1 ≤ R.frames) (hlocals : (rest.map fun v => v.category).sum + 12 ≤ R.locals) (kk : J p l e R s m args below meth c Q D cl Y E ad A H0 nL cells slots z lv V (pc + 3) lsv rest) : J p l e R s m args below meth c Q D cl Y E ad A H0 nL cells slots z lv V pc lsv (.ref a :: rest) := by
  intro H locs ls hz hW hS hl
  refine W.objInit C.1 C.2.1 C.2.2.2.1 (C.2.2.2.2 _ hlink) (C.2.2.2.2 _ hinst) (C.2.2.2.2 _ hcode) rfl (hl.1.trans C.2.2.1.symm) rfl d hframes (by show 2 * 0 + _ + 12 ≤ _; omega) ?_
  exact kk H locs ls hz hW hS hl
theorem j_widen {k n : Nat} {stk : List Value} (h1 : cells ≤ k) (h2 : slots ≤ n) (kk : J p l e R s m args below meth c Q D cl Y E ad A H0 nL k n z lv V pc lsv stk) : J p l e R s m args below meth c Q D cl Y E ad A H0 nL cells slots z lv V pc lsv stk := fun H locs ls hz hW hS hl => W.widen h1 h2 (kk H locs ls hz hW hS hl)
end JNEW
/-- the cells that a method may change -/
def jA (ad : Nat → Nat → Nat) (lv : Nat → Nat → Prop) (sz q : Nat) : Prop := (∃ k i : Nat, lv k i ∧ q = ad k i) ∨ sz ≤ q
def jQ (D : va_G) (cl : List vw_C) (Y : Nat → Nat ⊕ (FieldType × Nat)) (E : Nat → ClassId) (ad : Nat → Nat → Nat) (lv : Nat → Nat → Prop) (sz : Nat) (r : Option Value) (lv' : Nat → Nat → Prop) (V' : jVT) (sz' : Nat) : Array Value → State → Outcome → State → Prop := fun _ st oc t => oc = .returned r ∧ t.heap.size = sz' ∧ jW D cl Y E ad lv' V' (jA ad lv sz) t.heap ∧ va_F (jA ad lv sz) st t
/-- what a method owes: in the world V of lv, the heap of size sz, with these arguments, it answers r, and the world is V' of lv', the heap of size sz' -/
def jC (l : Launch) (y : MethodName) (ws : List Cond) (rm : Room) (D : va_G) (cl : List vw_C) (Y : Nat → Nat ⊕ (FieldType × Nat)) (E : Nat → ClassId) (ad : Nat → Nat → Nat) (lv : Nat → Nat → Prop) (sz : Nat) (V : jVT) (vs : List Value) (r : Option Value) (lv' : Nat → Nat → Prop) (V' : jVT) (sz' mc ms : Nat) : Prop :=
  Met l y ws rm (va_Pc vs (fun U => U.heap.size = sz ∧ jW D cl Y E ad lv V (fun _ => True) U.heap ∧ jK D cl Y E U)) (jQ D cl Y E ad lv sz r lv' V' sz') mc ms (jA ad lv sz)
def jargs (vs : List Value) (n : Nat) : List (Option Value) := vs.map some ++ List.replicate (n - vs.length) none
theorem jh_entry (vs : List Value) {n : Nat} (h : vs.length ≤ n) (hc : ∀ v ∈ vs, v.category = 1) : jh ((lg_sl vs ++ List.replicate (n - (lg_sl vs).length) Slot.unset).toArray) n (jargs vs n) := by
  have hs : lg_sl vs = vs.map Slot.val := by
    unfold lg_sl
    clear h
    induction vs with
    | nil => rfl
    | cons v vs ih =>
      have h1 := hc v List.mem_cons_self
      have h2 := ih (fun w hw => hc w (List.mem_cons_of_mem _ hw))
      rw [List.flatMap_cons, h2, if_neg (by omega)]
      rfl
  have h0 := lv_entry vs (n := n) (by rw [hs, List.length_map]; exact h)
  refine ⟨h0.1, h0.2.1, fun i v hv => ?_⟩
  have hi : i < vs.length := by
    refine Nat.lt_of_not_le fun hle => ?_
    unfold jargs at hv
    rw [List.getElem?_append_right (by rw [List.length_map]; exact hle)] at hv
    have := List.mem_of_getElem? hv
    have h3 := (List.mem_replicate.mp this).2
    cases h3
  unfold jargs at hv
  rw [List.getElem?_append_left (by rw [List.length_map]; exact hi), List.getElem?_map] at hv
  have hv2 : vs[i]? = some v := by
    cases hq : vs[i]? with
    | none => rw [hq] at hv; cases hv
    | some w => rw [hq] at hv; cases hv; rfl
  refine ⟨?_, hc v (List.mem_of_getElem? hv2)⟩
  rw [hs]
  rw [List.getElem?_toArray, List.getElem?_append_left (by rw [List.length_map]; exact hi), List.getElem?_map, hv2]
  rfl
/-- a contract out of a walk from its entry -/
theorem jC.of {l : Launch} {y : MethodName} {ws ws' : List Cond} {rm : Room} {D : va_G} {cl : List vw_C} {Y : Nat → Nat ⊕ (FieldType × Nat)} {E : Nat → ClassId} {ad : Nat → Nat → Nat} {lv lv' : Nat → Nat → Prop} {sz sz' mc ms : Nat} {V V' : jVT} {vs : List Value} {r : Option Value} {cc : ByteArray} {maxL : Nat} {ret : Option FieldType} (own : String)
    (hy : plainName y.cls = true) (hw : ws = Cond.code y cc maxL ret :: ws') (hown : y.cls = own) (hlen : vs.length ≤ maxL) (hcat : ∀ v ∈ vs, v.category = 1)
    (body : ∀ (p : Program) (e : Env) (s : State) (m : MethodId) (below : List Frame) (meth : Method) (c : Code), CallFix p m c cc maxL s vs.toArray ws' own → jK D cl Y E s → meth.sig.returnType = ret → meth.locks = false → meth.name = y.name → s.heap.size = sz → (∀ q, s.heap.size ≤ q → jA ad lv sz q) → J p l e (headSpec ws rm).room s m vs.toArray below meth c (MQ below (jQ D cl Y E ad lv sz r lv' V' sz') vs.toArray s mc ms (jA ad lv sz)) D cl Y E ad (jA ad lv sz) s.heap maxL 0 0 sz lv V 0 (jargs vs maxL) []) : jC l y ws rm D cl Y E ad lv sz V vs r lv' V' sz' mc ms := by
  unfold jC
  refine Met.ofW (cc := cc) (maxL := maxL) (ret := ret) hy hw ?_
  intro p e s m args below meth c s₁ B hml hv
  obtain ⟨rfl, hsz, hW, hK⟩ := hv
  have hts : ∀ w ∈ ws', w.before vs.toArray s = true := fun w h => atoms_spec (ws := ws) B.pre w (by rw [hw]; exact List.mem_cons_of_mem _ h)
  have hown' : s.vm.findClass own = some m.cls := by rw [← hown]; exact findClass_of_methodNamed B.named
  rw [lg_entry_eq]
  exact body p e s m below meth c ⟨B.exec, B.bytes, hml, hown', hts⟩ hK B.returns B.notSynchronized (name_of_methodNamed B.named B.method).1 hsz (fun q hq => Or.inr (by rw [← hsz]; exact hq)) s.heap [] _ hsz (hW.wide (fun k i hl => Or.inl ⟨k, i, hl, rfl⟩)) va_S.rf (jh_entry vs hlen hcat)

section JEND
variable {p : Program} {l : Launch} {e : Env} {R : Room} {s : State} {m : MethodId} {args : Array Value} {below : List Frame} {meth : Method} {c : Code} {cells slots z : Nat} {D : va_G} {cl : List vw_C} {Y : Nat → Nat ⊕ (FieldType × Nat)} {E : Nat → ClassId} {ad : Nat → Nat → Nat} {lv : Nat → Nat → Prop} {cc : ByteArray} {nL : Nat} {Ts : List Cond} {own : String}
variable {V V1 : jVT} {pc sz z1 : Nat} {lsv : List (Option Value)} {rest : List Value} {r : Option Value} {lv0 lv1 : Nat → Nat → Prop}
theorem j_iret (C : CallFix p m c cc nL s args Ts own) (hr : meth.sig.returnType = some .int) (hlocks : meth.locks = false) {v : Int32} (d : decode cc pc = .ok (.ireturn, 1)) (hrr : r = some (.int v)) (hV : V = V1) (hlv : lv = lv1) (hz1 : z = z1) : J p l e R s m args below meth c (MQ below (jQ D cl Y E ad lv0 sz r lv1 V1 z1) args s cells slots (jA ad lv0 sz)) D cl Y E ad (jA ad lv0 sz) s.heap nL cells slots z lv V pc lsv [.int v] := by
  subst hrr; subst hV; subst hlv; subst hz1
  exact fun H locs ls hz hW hS hl => W.iret C.1 C.2.1 hr (fun t ht _ => ⟨rfl, by rw [ht]; exact hz, by rw [ht]; exact hW, hS.F ht⟩) hS.2.2 d hlocks
theorem j_zret (C : CallFix p m c cc nL s args Ts own) (hr : meth.sig.returnType = some .boolean) (hlocks : meth.locks = false) {v : Int32} (hb : narrow .boolean (.int v) = .int v) (d : decode cc pc = .ok (.ireturn, 1)) (hrr : r = some (.int v)) (hV : V = V1) (hlv : lv = lv1) (hz1 : z = z1) : J p l e R s m args below meth c (MQ below (jQ D cl Y E ad lv0 sz r lv1 V1 z1) args s cells slots (jA ad lv0 sz)) D cl Y E ad (jA ad lv0 sz) s.heap nL cells slots z lv V pc lsv [.int v] := by
  subst hrr; subst hV; subst hlv; subst hz1
  exact fun H locs ls hz hW hS hl => W.zret C.1 C.2.1 hr hb (fun t ht _ => ⟨rfl, by rw [ht]; exact hz, by rw [ht]; exact hW, hS.F ht⟩) hS.2.2 d hlocks
theorem j_lret (C : CallFix p m c cc nL s args Ts own) (hr : meth.sig.returnType = some .long) (hlocks : meth.locks = false) {v : Int64} (d : decode cc pc = .ok (.lreturn, 1)) (hrr : r = some (.long v)) (hV : V = V1) (hlv : lv = lv1) (hz1 : z = z1) : J p l e R s m args below meth c (MQ below (jQ D cl Y E ad lv0 sz r lv1 V1 z1) args s cells slots (jA ad lv0 sz)) D cl Y E ad (jA ad lv0 sz) s.heap nL cells slots z lv V pc lsv [.long v] := by
  subst hrr; subst hV; subst hlv; subst hz1
  exact fun H locs ls hz hW hS hl => W.lret C.1 C.2.1 hr (fun t ht _ => ⟨rfl, by rw [ht]; exact hz, by rw [ht]; exact hW, hS.F ht⟩) hS.2.2 d hlocks
theorem j_vret (C : CallFix p m c cc nL s args Ts own) (hr : meth.sig.returnType = none) (hlocks : meth.locks = false) (d : decode cc pc = .ok (.return_, 1)) (hrr : r = none) (hV : V = V1) (hlv : lv = lv1) (hz1 : z = z1) : J p l e R s m args below meth c (MQ below (jQ D cl Y E ad lv0 sz r lv1 V1 z1) args s cells slots (jA ad lv0 sz)) D cl Y E ad (jA ad lv0 sz) s.heap nL cells slots z lv V pc lsv [] := by
  subst hrr; subst hV; subst hlv; subst hz1
  exact fun H locs ls hz hW hS hl => W.vret C.1 C.2.1 hr (fun t ht _ => ⟨rfl, by rw [ht]; exact hz, by rw [ht]; exact hW, hS.F ht⟩) hS.2.2 d hlocks
theorem j_aret (C : CallFix p m c cc nL s args Ts own) {n : String} (hr : meth.sig.returnType = some (.object n)) (hlocks : meth.locks = false) {o : Option Nat} (d : decode cc pc = .ok (.areturn, 1)) (hrr : r = some (va_rf o)) (hV : V = V1) (hlv : lv = lv1) (hz1 : z = z1) : J p l e R s m args below meth c (MQ below (jQ D cl Y E ad lv0 sz r lv1 V1 z1) args s cells slots (jA ad lv0 sz)) D cl Y E ad (jA ad lv0 sz) s.heap nL cells slots z lv V pc lsv [va_rf o] := by
  subst hrr; subst hV; subst hlv; subst hz1
  exact fun H locs ls hz hW hS hl => W.aret C.1 C.2.1 hr (Or.inl ⟨_, rfl⟩) (va_rf_or o) (fun t ht _ => ⟨rfl, by rw [ht]; exact hz, by rw [ht]; exact hW, hS.F ht⟩) hS.2.2 d hlocks
end JEND
section JCALL
variable {p : Program} {l : Launch} {e : Env} {R : Room} {s : State} {m : MethodId} {args : Array Value} {below : List Frame} {meth : Method} {c : Code} {cells slots z : Nat} {Q : State → Prop} {D : va_G} {cl : List vw_C} {Y : Nat → Nat ⊕ (FieldType × Nat)} {E : Nat → ClassId} {ad : Nat → Nat → Nat} {lv : Nat → Nat → Prop} {A : Nat → Prop} {H0 : Heap} {cc : ByteArray} {nL : Nat} {Ts : List Cond} {own : String}
variable {V V1 : jVT} {pc z1 mc ms : Nat} {lv1 : Nat → Nat → Prop} {lsv : List (Option Value)} {rest : List Value} {r : Option Value} {y : MethodName} {bytes : ByteArray} {maxL n index : Nat} {ret : Option FieldType} {ws : List Cond} {rm : Room} {As : List Value} {stk : List Value}
/-- behind a call -/
theorem j_back (hAz : ∀ q, H0.size ≤ q → A q) (hr : ∀ (H : Heap) (locs : List Loc) (ls : Array Slot), H.size = z → jW D cl Y E ad lv V A H → jh ls nL lsv → va_Run p l e R s m args below meth c H locs cells slots mc ms (F0 m pc ls stk) rest (jQ D cl Y E ad lv z r lv1 V1 z1 #[]) (jA ad lv z))
    (kk : J p l e R s m args below meth c Q D cl Y E ad A H0 nL (cells + mc) (slots + ms) z1 lv1 V1 (pc + 3) lsv (jpush r rest)) : J p l e R s m args below meth c Q D cl Y E ad A H0 nL cells slots z lv V pc lsv stk := by
  intro H locs ls hz hW hS hl T hT X
  have hjA : ∀ q, jA ad lv z q → A q := fun q h => by
    rcases h with ⟨k, i, h1, rfl⟩ | h
    · exact (hW.1 k i h1).2
    · exact hAz q (Nat.le_trans hS.1 (by rw [hz]; exact h))
  obtain ⟨v, st₀, t, T', L, h0, X', hL, e1, e2, ⟨hv, hz2, hW1, hz3, hk⟩, st⟩ := hr H locs ls hz hW hl T hT X
  cases hv
  rw [h0] at hz3 hk
  obtain ⟨t2, a1, b1⟩ := kk T'.heap (locs ++ L) ls (by rw [e1]; exact hz2) (by rw [e1]; exact hW1.wide (fun k i h => hjA _ (hW1.1 k i h).2)) ⟨Nat.le_trans hS.1 (by rw [e1]; exact hz3), fun q h1 h2 => by rw [e1, hk q (Nat.lt_of_lt_of_le h1 hS.1) (fun z => h2 (hjA q z))]; exact hS.2.1 q h1 h2, fun q hq => by
      rcases List.mem_append.mp hq with h | h
      · exact hS.2.2 q h
      · exact hjA _ (hL q h)⟩ hl T' rfl X'
  rw [← jpush_eq] at a1
  exact ⟨t2, st t2 a1, b1⟩
theorem jblind {V : jVT} {vs : List Value} : FrameBlind (va_Pc vs (fun U => U.heap.size = z ∧ jW D cl Y E ad lv V (fun _ => True) U.heap ∧ jK D cl Y E U)) := fun a U g mk q => ⟨q.1, q.2.1, q.2.2.1, q.2.2.2.moved (u := U) (U := U.calling g mk a) (Vm.Alike.refl U.vm)⟩
/-- a virtual call on a cell of the world -/
theorem j_callV (C : CallFix p m c cc nL s args Ts own) (hK : jK D cl Y E s) (hAz : ∀ q, H0.size ≤ q → A q) {Cn : String} {T : u_T} {N ci : Nat} (k i : Nat) (hM : jC l y ws rm D cl Y E ad lv z V (.ref (ad k i) :: As) r lv1 V1 z1 mc ms) (cw : CallW R s args own Cn index y bytes maxL ret ws rm mc ms n) (hY : Y k = .inl ci) (hc : cl[ci]? = some (Cn, T, N)) (hl : lv k i) (hn : As.length = n) (hstk : stk = As.reverse ++ .ref (ad k i) :: rest) (hroom : (rest.map fun v => v.category).sum ≤ 8) (d : decode cc pc = .ok (.invokevirtual index, 3)) (hf : cells + mc ≤ R.cells ∧ slots + ms ≤ R.slots)
    (kk : J p l e R s m args below meth c Q D cl Y E ad A H0 nL (cells + mc) (slots + ms) z1 lv1 V1 (pc + 3) lsv (jpush r rest)) : J p l e R s m args below meth c Q D cl Y E ad A H0 nL cells slots z lv V pc lsv stk := by
  refine j_back hAz (fun H locs ls hz hW hls => ?_) kk
  have g0 := (hW.1 k i hl).1
  unfold jat at g0
  rw [hY] at g0
  obtain ⟨r', hr', cellV, g1, g2, g3, -⟩ := g0
  exact va_runV C hM cw ⟨jblind, ⟨cellV, g1, by rw [g3]; rfl, by rw [g2]; exact (hK.1.1 ci _ hc).2.1⟩, fun U hU hWm => ⟨rfl, by rw [hU]; exact hz, by rw [hU]; exact hW.wide (fun _ _ _ => trivial), hK.moved hWm.alike⟩⟩ rfl hn hls.1 hstk (lv_room hroom) d hf
/-- a static call -/
theorem j_callS (C : CallFix p m c cc nL s args Ts own) (hK : jK D cl Y E s) (hAz : ∀ q, H0.size ≤ q → A q) (hM : jC l y ws rm D cl Y E ad lv z V As r lv1 V1 z1 mc ms) (cw : CallB R s args own index y bytes maxL ret ws rm mc ms n ∧ (Cond.static y).before args s = true) (hn : As.length = n) (hstk : stk = As.reverse ++ rest) (hroom : (rest.map fun v => v.category).sum ≤ 8) (d : decode cc pc = .ok (.invokestatic index, 3)) (hf : cells + mc ≤ R.cells ∧ slots + ms ≤ R.slots)
    (kk : J p l e R s m args below meth c Q D cl Y E ad A H0 nL (cells + mc) (slots + ms) z1 lv1 V1 (pc + 3) lsv (jpush r rest)) : J p l e R s m args below meth c Q D cl Y E ad A H0 nL cells slots z lv V pc lsv stk := by
  refine j_back hAz (fun H locs ls hz hW hls => ?_) kk
  exact va_runS (As := As) C hM cw ⟨jblind, fun U hU hWm => ⟨rfl, by rw [hU]; exact hz, by rw [hU]; exact hW.wide (fun _ _ _ => trivial), hK.moved hWm.alike⟩⟩ rfl hn hls.1 hstk (lv_room hroom) d hf
/-- a constructor's call -/
theorem j_callI (C : CallFix p m c cc nL s args Ts own) (hK : jK D cl Y E s) (hAz : ∀ q, H0.size ≤ q → A q) {b : Nat} (hM : jC l y ws rm D cl Y E ad lv z V (.ref b :: As) r lv1 V1 z1 mc ms) (cw : CallB R s args own index y bytes maxL none ws rm mc ms n ∧ y.name = "<init>" ∧ (Cond.instanceMethod y).before args s = true) (hn : As.length = n) (hstk : stk = As.reverse ++ .ref b :: rest) (hroom : (rest.map fun v => v.category).sum ≤ 8) (d : decode cc pc = .ok (.invokespecial index, 3)) (hf : cells + mc ≤ R.cells ∧ slots + ms ≤ R.slots)
    (kk : J p l e R s m args below meth c Q D cl Y E ad A H0 nL (cells + mc) (slots + ms) z1 lv1 V1 (pc + 3) lsv (jpush r rest)) : J p l e R s m args below meth c Q D cl Y E ad A H0 nL cells slots z lv V pc lsv stk := by
  refine j_back hAz (fun H locs ls hz hW hls => ?_) kk
  exact va_runI C hM cw ⟨jblind, fun U hU hWm => ⟨rfl, by rw [hU]; exact hz, by rw [hU]; exact hW.wide (fun _ _ _ => trivial), hK.moved hWm.alike⟩⟩ rfl hn hls.1 hstk (lv_room hroom) d hf
end JCALL
end
section
/-! THE TYPED STORE: ints, references (an index of the kind that the field points to), longs, by (kind, index, field). Kinds: 0 InputRoom, 1 processes[], 2 readyRows[], 3 semaphores[], 4 Words, 5 ring[], 6 Row (0 .. 7 ready, 8 .. 23 of the semaphores), 7 Semaphore, 8 Proc, 9 acts[]; 10 InputRoomModel, 11 made[], 12 priorities[], 13 plans[], 14 done[], 15 rows[], 16 hours[], 17 extra[], 18 words[], 19 posted[]. -/
abbrev sT : Type := (Nat → Nat → Nat → Int32) × (Nat → Nat → Nat → Option Nat) × (Nat → Nat → Nat → Int64)
def sI (σ : sT) (k i j : Nat) (x : Int32) : sT := (fun k' i' j' => if k' = k ∧ i' = i ∧ j' = j then x else σ.1 k' i' j', σ.2)
def sP (σ : sT) (k i j : Nat) (x : Option Nat) : sT := (σ.1, fun k' i' j' => if k' = k ∧ i' = i ∧ j' = j then x else σ.2.1 k' i' j', σ.2.2)
def sL (σ : sT) (k i j : Nat) (x : Int64) : sT := (σ.1, σ.2.1, fun k' i' j' => if k' = k ∧ i' = i ∧ j' = j then x else σ.2.2 k' i' j')
def rno (r : Nat) : Int32 := if r < 8 then nI (r + 1) else nI (r + 8)
/-- 0 an int, 1 a long, 2 a constant of the layout, t + 3 a reference to kind t -/
def tg (k j : Nat) : Nat := match k with
  | 0 => match j with
    | 0 => 2 | 1 => 2 | 2 => 2 | 3 => 2 | 4 => 11 | 5 => 0 | 6 => 11 | 7 => 0 | 8 => 1 | 9 => 10 | 10 => 10 | _ => 0
  | 1 => 11
  | 2 => 2
  | 3 => 2
  | 4 => match j with
    | 0 => 2 | _ => 0
  | 5 => 0
  | 6 => match j with
    | 0 => 2 | _ => 11
  | 7 => match j with
    | 0 => 2 | 1 => 2 | _ => 0
  | 8 => match j with
    | 0 => 2 | 1 => 0 | 2 => 9 | 3 => 2 | 4 => 0 | 5 => 0 | _ => 11
  | 9 => 0
  | 10 => match j with
    | 0 => 2 | 1 => 2 | 2 => 2 | 3 => 2 | 4 => 2 | 5 => 2 | 6 => 1 | 7 => 2 | 8 => 0 | 9 => 0 | 10 => 0 | 11 => 2 | 12 => 0 | 13 => 0 | 14 => 0 | 15 => 0 | 16 => 0 | 17 => 0 | 18 => 1 | 19 => 2 | _ => 0
  | 16 => 1
  | _ => 0
def cv (ad : Nat → Nat → Nat) (k i j : Nat) : Value := match k with
  | 0 => match j with
    | 0 => .ref (ad 1 0) | 1 => .ref (ad 2 0) | 2 => .ref (ad 3 0) | _ => .ref (ad 4 0)
  | 2 => .ref (ad 6 j)
  | 3 => .ref (ad 7 j)
  | 4 => .ref (ad 5 0)
  | 6 => .int (rno i)
  | 7 => match j with
    | 0 => .int (nI i) | _ => .ref (ad 6 (8 + i))
  | 8 => match j with
    | 0 => .int (nI i) | _ => .ref (ad 9 i)
  | _ => match j with
    | 0 => .ref (ad 11 0) | 1 => .ref (ad 12 0) | 2 => .ref (ad 13 0) | 3 => .ref (ad 14 0) | 4 => .ref (ad 15 0) | 5 => .ref (ad 16 0) | 7 => .ref (ad 17 0) | 11 => .ref (ad 18 0) | _ => .ref (ad 19 0)
def tv (ad : Nat → Nat → Nat) (σ : sT) (t k i j : Nat) : Value := match t with
  | 0 => .int (σ.1 k i j)
  | 1 => .long (σ.2.2 k i j)
  | 2 => cv ad k i j
  | t + 3 => va_rf ((σ.2.1 k i j).map (ad t))
def jv (ad : Nat → Nat → Nat) (σ τ : sT) (k i j : Nat) : Value := cond (Nat.blt k 10) (tv ad σ (tg k j) k i j) (tv ad τ (tg k j) k i j)
/-- what each kind is: a class, or an array -/
def jY (k : Nat) : Nat ⊕ (FieldType × Nat) := match k with
  | 0 => .inl 4
  | 1 => .inr (.object "InputRoom$Proc", 32)
  | 2 => .inr (.object "InputRoom$Row", 8)
  | 3 => .inr (.object "InputRoom$Semaphore", 16)
  | 4 => .inl 3
  | 5 => .inr (.int, 64)
  | 6 => .inl 1
  | 7 => .inl 2
  | 8 => .inl 0
  | 9 => .inr (.int, 8)
  | 10 => .inl 5
  | 11 => .inr (.boolean, 32)
  | 12 => .inr (.int, 32)
  | 13 => .inr (.int, 256)
  | 14 => .inr (.int, 32)
  | 15 => .inr (.int, 32)
  | 16 => .inr (.long, 32)
  | 17 => .inr (.int, 16)
  | 18 => .inr (.int, 64)
  | _ => .inr (.int, 65)
theorem suI {ad : Nat → Nat → Nat} {σ τ : sT} {k i j : Nat} {x : Int32} (hk : Nat.blt k 10 = true) (ht : tg k j = 0) : jup (jv ad σ τ) k i j (.int x) = jv ad (sI σ k i j x) τ := by
  funext k' i' j'
  unfold jup jv
  by_cases h : k' = k ∧ i' = i ∧ j' = j
  · obtain ⟨rfl, rfl, rfl⟩ := h
    rw [if_pos ⟨rfl, rfl, rfl⟩, hk, ht]
    simp [tv, sI]
  · rw [if_neg h]
    have e : ∀ t, tv ad (sI σ k i j x) t k' i' j' = tv ad σ t k' i' j' := by
      intro t
      unfold tv
      split
      · simp only [sI]; rw [if_neg h]
      · simp only [sI]
      · rfl
      · simp only [sI]
    rw [e]
theorem suL {ad : Nat → Nat → Nat} {σ τ : sT} {k i j : Nat} {x : Int64} (hk : Nat.blt k 10 = true) (ht : tg k j = 1) : jup (jv ad σ τ) k i j (.long x) = jv ad (sL σ k i j x) τ := by
  funext k' i' j'
  unfold jup jv
  by_cases h : k' = k ∧ i' = i ∧ j' = j
  · obtain ⟨rfl, rfl, rfl⟩ := h
    rw [if_pos ⟨rfl, rfl, rfl⟩, hk, ht]
    simp [tv, sL]
  · rw [if_neg h]
    have e : ∀ t, tv ad (sL σ k i j x) t k' i' j' = tv ad σ t k' i' j' := by
      intro t
      unfold tv
      split
      · simp only [sL]
      · simp only [sL]; rw [if_neg h]
      · rfl
      · simp only [sL]
    rw [e]
theorem suP {ad : Nat → Nat → Nat} {σ τ : sT} {k i j t : Nat} {x : Option Nat} (hk : Nat.blt k 10 = true) (ht : tg k j = t + 3) : jup (jv ad σ τ) k i j (va_rf (x.map (ad t))) = jv ad (sP σ k i j x) τ := by
  funext k' i' j'
  unfold jup jv
  by_cases h : k' = k ∧ i' = i ∧ j' = j
  · obtain ⟨rfl, rfl, rfl⟩ := h
    rw [if_pos ⟨rfl, rfl, rfl⟩, hk, ht]
    simp [tv, sP]
  · rw [if_neg h]
    have e : ∀ t, tv ad (sP σ k i j x) t k' i' j' = tv ad σ t k' i' j' := by
      intro t
      unfold tv
      split
      · simp only [sP]
      · simp only [sP]
      · rfl
      · simp only [sP]; rw [if_neg h]
    rw [e]
theorem tuI {ad : Nat → Nat → Nat} {σ τ : sT} {k i j : Nat} {x : Int32} (hk : Nat.blt k 10 = false) (ht : tg k j = 0) : jup (jv ad σ τ) k i j (.int x) = jv ad σ (sI τ k i j x) := by
  funext k' i' j'
  unfold jup jv
  by_cases h : k' = k ∧ i' = i ∧ j' = j
  · obtain ⟨rfl, rfl, rfl⟩ := h
    rw [if_pos ⟨rfl, rfl, rfl⟩, hk, ht]
    simp [tv, sI]
  · rw [if_neg h]
    have e : ∀ t, tv ad (sI τ k i j x) t k' i' j' = tv ad τ t k' i' j' := by
      intro t
      unfold tv
      split
      · simp only [sI]; rw [if_neg h]
      · simp only [sI]
      · rfl
      · simp only [sI]
    rw [e]
theorem tuL {ad : Nat → Nat → Nat} {σ τ : sT} {k i j : Nat} {x : Int64} (hk : Nat.blt k 10 = false) (ht : tg k j = 1) : jup (jv ad σ τ) k i j (.long x) = jv ad σ (sL τ k i j x) := by
  funext k' i' j'
  unfold jup jv
  by_cases h : k' = k ∧ i' = i ∧ j' = j
  · obtain ⟨rfl, rfl, rfl⟩ := h
    rw [if_pos ⟨rfl, rfl, rfl⟩, hk, ht]
    simp [tv, sL]
  · rw [if_neg h]
    have e : ∀ t, tv ad (sL τ k i j x) t k' i' j' = tv ad τ t k' i' j' := by
      intro t
      unfold tv
      split
      · simp only [sL]
      · simp only [sL]; rw [if_neg h]
      · rfl
      · simp only [sL]
    rw [e]
theorem tuP {ad : Nat → Nat → Nat} {σ τ : sT} {k i j t : Nat} {x : Option Nat} (hk : Nat.blt k 10 = false) (ht : tg k j = t + 3) : jup (jv ad σ τ) k i j (va_rf (x.map (ad t))) = jv ad σ (sP τ k i j x) := by
  funext k' i' j'
  unfold jup jv
  by_cases h : k' = k ∧ i' = i ∧ j' = j
  · obtain ⟨rfl, rfl, rfl⟩ := h
    rw [if_pos ⟨rfl, rfl, rfl⟩, hk, ht]
    simp [tv, sP]
  · rw [if_neg h]
    have e : ∀ t, tv ad (sP τ k i j x) t k' i' j' = tv ad τ t k' i' j' := by
      intro t
      unfold tv
      split
      · simp only [sP]
      · simp only [sP]
      · rfl
      · simp only [sP]; rw [if_neg h]
    rw [e]
section TROWS
variable {p : Program} {l : Launch} {e : Env} {R : Room} {s : State} {m : MethodId} {args : Array Value} {below : List Frame} {meth : Method} {c : Code} {cells slots z : Nat} {Q : State → Prop} {D : va_G} {E : Nat → ClassId} {ad : Nat → Nat → Nat} {lv : Nat → Nat → Prop} {A : Nat → Prop} {H0 : Heap} {cc : ByteArray} {nL : Nat} {own : String}
variable {σ τ : sT} {pc : Nat} {lsv : List (Option Value)} {rest : List Value}
theorem sgI (C : CallFix p m c cc nL s args jT own) (hK : jK D jcl jY E s) {ref Cn : String} {T : u_T} {N ci index : Nat} (k i j : Nat) (d : decode cc pc = .ok (.getfield index, 3)) (hin : ∀ w ∈ u_ws Cn T N, w ∈ jT) (hY : jY k = .inl ci) (hc : jcl[ci]? = some (Cn, T, N)) (hj : j < N) (hlink : Cond.fieldLink own index ref (T j).2.1 (T j).2.2.1 ∈ jT) (hsame : (T j).1 = ref) (hk : Nat.blt k 10 = true) (ht : tg k j = 0) (hl : lv k i) (kk : J p l e R s m args below meth c Q D jcl jY E ad A H0 nL cells slots z lv (jv ad σ τ) (pc + 3) lsv (.int (σ.1 k i j) :: rest)) : J p l e R s m args below meth c Q D jcl jY E ad A H0 nL cells slots z lv (jv ad σ τ) pc lsv (.ref (ad k i) :: rest) := by
  refine j_get C hK k i j d hin hY hc hj hlink hsame hl ?_
  rw [(show jv ad σ τ k i j = .int (σ.1 k i j) by unfold jv; rw [hk, ht]; rfl)]
  exact kk
theorem sgL (C : CallFix p m c cc nL s args jT own) (hK : jK D jcl jY E s) {ref Cn : String} {T : u_T} {N ci index : Nat} (k i j : Nat) (d : decode cc pc = .ok (.getfield index, 3)) (hin : ∀ w ∈ u_ws Cn T N, w ∈ jT) (hY : jY k = .inl ci) (hc : jcl[ci]? = some (Cn, T, N)) (hj : j < N) (hlink : Cond.fieldLink own index ref (T j).2.1 (T j).2.2.1 ∈ jT) (hsame : (T j).1 = ref) (hk : Nat.blt k 10 = true) (ht : tg k j = 1) (hl : lv k i) (kk : J p l e R s m args below meth c Q D jcl jY E ad A H0 nL cells slots z lv (jv ad σ τ) (pc + 3) lsv (.long (σ.2.2 k i j) :: rest)) : J p l e R s m args below meth c Q D jcl jY E ad A H0 nL cells slots z lv (jv ad σ τ) pc lsv (.ref (ad k i) :: rest) := by
  refine j_get C hK k i j d hin hY hc hj hlink hsame hl ?_
  rw [(show jv ad σ τ k i j = .long (σ.2.2 k i j) by unfold jv; rw [hk, ht]; rfl)]
  exact kk
theorem sgC (C : CallFix p m c cc nL s args jT own) (hK : jK D jcl jY E s) {ref Cn : String} {T : u_T} {N ci index : Nat} (k i j : Nat) (d : decode cc pc = .ok (.getfield index, 3)) (hin : ∀ w ∈ u_ws Cn T N, w ∈ jT) (hY : jY k = .inl ci) (hc : jcl[ci]? = some (Cn, T, N)) (hj : j < N) (hlink : Cond.fieldLink own index ref (T j).2.1 (T j).2.2.1 ∈ jT) (hsame : (T j).1 = ref) (hk : Nat.blt k 10 = true) (ht : tg k j = 2) (hl : lv k i) (kk : J p l e R s m args below meth c Q D jcl jY E ad A H0 nL cells slots z lv (jv ad σ τ) (pc + 3) lsv (cv ad k i j :: rest)) : J p l e R s m args below meth c Q D jcl jY E ad A H0 nL cells slots z lv (jv ad σ τ) pc lsv (.ref (ad k i) :: rest) := by
  refine j_get C hK k i j d hin hY hc hj hlink hsame hl ?_
  rw [(show jv ad σ τ k i j = cv ad k i j by unfold jv; rw [hk, ht]; rfl)]
  exact kk
theorem sgR (C : CallFix p m c cc nL s args jT own) (hK : jK D jcl jY E s) {t : Nat} {ref Cn : String} {T : u_T} {N ci index : Nat} (k i j : Nat) (d : decode cc pc = .ok (.getfield index, 3)) (hin : ∀ w ∈ u_ws Cn T N, w ∈ jT) (hY : jY k = .inl ci) (hc : jcl[ci]? = some (Cn, T, N)) (hj : j < N) (hlink : Cond.fieldLink own index ref (T j).2.1 (T j).2.2.1 ∈ jT) (hsame : (T j).1 = ref) (hk : Nat.blt k 10 = true) (ht : tg k j = t + 3) (hl : lv k i) (kk : J p l e R s m args below meth c Q D jcl jY E ad A H0 nL cells slots z lv (jv ad σ τ) (pc + 3) lsv (va_rf ((σ.2.1 k i j).map (ad t)) :: rest)) : J p l e R s m args below meth c Q D jcl jY E ad A H0 nL cells slots z lv (jv ad σ τ) pc lsv (.ref (ad k i) :: rest) := by
  refine j_get C hK k i j d hin hY hc hj hlink hsame hl ?_
  rw [(show jv ad σ τ k i j = va_rf ((σ.2.1 k i j).map (ad t)) by unfold jv; rw [hk, ht]; rfl)]
  exact kk
theorem spI (C : CallFix p m c cc nL s args jT own) (hK : jK D jcl jY E s) {ref Cn : String} {T : u_T} {N ci index : Nat} (k i j : Nat) (ty0 : Nat → FieldType) (hty : ∀ k, k < N → parseFieldDescriptor (T k).2.2.1 = some (ty0 k)) (hnm : ∀ a, a < N → ∀ b, b < N → a ≠ b → (T a).2.1 ≠ (T b).2.1) (d : decode cc pc = .ok (.putfield index, 3)) (hin : ∀ w ∈ u_ws Cn T N, w ∈ jT) (hY : jY k = .inl ci) (hc : jcl[ci]? = some (Cn, T, N)) (hj : j < N) (hlink : Cond.fieldLink own index ref (T j).2.1 (T j).2.2.1 ∈ jT) (hsame : (T j).1 = ref) (hfin : (T j).2.2.2 = false) (hk : Nat.blt k 10 = true) (ht : tg k j = 0) (x : Int32) (hn : narrow (ty0 j) (.int x) = .int x) (hfit : fits (ty0 j) (.int x) = true) (hl : lv k i) (kk : J p l e R s m args below meth c Q D jcl jY E ad A H0 nL cells slots z lv (jv ad (sI σ k i j x) τ) (pc + 3) lsv rest) : J p l e R s m args below meth c Q D jcl jY E ad A H0 nL cells slots z lv (jv ad σ τ) pc lsv (.int x :: .ref (ad k i) :: rest) := by
  refine j_put C hK k i j ty0 hty hnm d hin hY hc hj hlink hsame hfin hn hfit hl ?_
  rw [suI hk ht]
  exact kk
theorem spL (C : CallFix p m c cc nL s args jT own) (hK : jK D jcl jY E s) {ref Cn : String} {T : u_T} {N ci index : Nat} (k i j : Nat) (ty0 : Nat → FieldType) (hty : ∀ k, k < N → parseFieldDescriptor (T k).2.2.1 = some (ty0 k)) (hnm : ∀ a, a < N → ∀ b, b < N → a ≠ b → (T a).2.1 ≠ (T b).2.1) (d : decode cc pc = .ok (.putfield index, 3)) (hin : ∀ w ∈ u_ws Cn T N, w ∈ jT) (hY : jY k = .inl ci) (hc : jcl[ci]? = some (Cn, T, N)) (hj : j < N) (hlink : Cond.fieldLink own index ref (T j).2.1 (T j).2.2.1 ∈ jT) (hsame : (T j).1 = ref) (hfin : (T j).2.2.2 = false) (hk : Nat.blt k 10 = true) (ht : tg k j = 1) (x : Int64) (hn : narrow (ty0 j) (.long x) = .long x) (hfit : fits (ty0 j) (.long x) = true) (hl : lv k i) (kk : J p l e R s m args below meth c Q D jcl jY E ad A H0 nL cells slots z lv (jv ad (sL σ k i j x) τ) (pc + 3) lsv rest) : J p l e R s m args below meth c Q D jcl jY E ad A H0 nL cells slots z lv (jv ad σ τ) pc lsv (.long x :: .ref (ad k i) :: rest) := by
  refine j_put C hK k i j ty0 hty hnm d hin hY hc hj hlink hsame hfin hn hfit hl ?_
  rw [suL hk ht]
  exact kk
theorem spP (C : CallFix p m c cc nL s args jT own) (hK : jK D jcl jY E s) {t : Nat} {ref Cn : String} {T : u_T} {N ci index : Nat} (k i j : Nat) (ty0 : Nat → FieldType) (hty : ∀ k, k < N → parseFieldDescriptor (T k).2.2.1 = some (ty0 k)) (hnm : ∀ a, a < N → ∀ b, b < N → a ≠ b → (T a).2.1 ≠ (T b).2.1) (d : decode cc pc = .ok (.putfield index, 3)) (hin : ∀ w ∈ u_ws Cn T N, w ∈ jT) (hY : jY k = .inl ci) (hc : jcl[ci]? = some (Cn, T, N)) (hj : j < N) (hlink : Cond.fieldLink own index ref (T j).2.1 (T j).2.2.1 ∈ jT) (hsame : (T j).1 = ref) (hfin : (T j).2.2.2 = false) (hk : Nat.blt k 10 = true) (ht : tg k j = t + 3) (x : Option Nat) (hn : narrow (ty0 j) (va_rf (x.map (ad t))) = va_rf (x.map (ad t))) (hfit : fits (ty0 j) (va_rf (x.map (ad t))) = true) (hl : lv k i) (kk : J p l e R s m args below meth c Q D jcl jY E ad A H0 nL cells slots z lv (jv ad (sP σ k i j x) τ) (pc + 3) lsv rest) : J p l e R s m args below meth c Q D jcl jY E ad A H0 nL cells slots z lv (jv ad σ τ) pc lsv (va_rf (x.map (ad t)) :: .ref (ad k i) :: rest) := by
  refine j_put C hK k i j ty0 hty hnm d hin hY hc hj hlink hsame hfin hn hfit hl ?_
  rw [suP hk ht]
  exact kk
theorem sia (C : CallFix p m c cc nL s args jT own) (hK : jK D jcl jY E s) {n : Nat} (k i : Nat) (d : decode cc pc = .ok (.iaload, 1)) (hY : jY k = .inr (.int, n)) {x : Int32} (hin : vp_in x n) (hk : Nat.blt k 10 = true) (ht : tg k x.toNatClampNeg = 0) (hl : lv k i) (kk : J p l e R s m args below meth c Q D jcl jY E ad A H0 nL cells slots z lv (jv ad σ τ) (pc + 1) lsv (.int (σ.1 k i x.toNatClampNeg) :: rest)) : J p l e R s m args below meth c Q D jcl jY E ad A H0 nL cells slots z lv (jv ad σ τ) pc lsv (.int x :: .ref (ad k i) :: rest) := by
  refine j_iald C hK k i d hY hin hl ?_
  rw [(show jv ad σ τ k i x.toNatClampNeg = .int (σ.1 k i x.toNatClampNeg) by unfold jv; rw [hk, ht]; rfl)]
  exact kk
theorem sza (C : CallFix p m c cc nL s args jT own) (hK : jK D jcl jY E s) {n : Nat} (k i : Nat) (d : decode cc pc = .ok (.baload, 1)) (hY : jY k = .inr (.boolean, n)) {x : Int32} (hin : vp_in x n) (hk : Nat.blt k 10 = true) (ht : tg k x.toNatClampNeg = 0) (hl : lv k i) (kk : J p l e R s m args below meth c Q D jcl jY E ad A H0 nL cells slots z lv (jv ad σ τ) (pc + 1) lsv (.int (σ.1 k i x.toNatClampNeg) :: rest)) : J p l e R s m args below meth c Q D jcl jY E ad A H0 nL cells slots z lv (jv ad σ τ) pc lsv (.int x :: .ref (ad k i) :: rest) := by
  refine j_zald C hK k i d hY hin hl ?_
  rw [(show jv ad σ τ k i x.toNatClampNeg = .int (σ.1 k i x.toNatClampNeg) by unfold jv; rw [hk, ht]; rfl)]
  exact kk
theorem sla (C : CallFix p m c cc nL s args jT own) (hK : jK D jcl jY E s) {n : Nat} (k i : Nat) (d : decode cc pc = .ok (.laload, 1)) (hY : jY k = .inr (.long, n)) {x : Int32} (hin : vp_in x n) (hk : Nat.blt k 10 = true) (ht : tg k x.toNatClampNeg = 1) (hl : lv k i) (kk : J p l e R s m args below meth c Q D jcl jY E ad A H0 nL cells slots z lv (jv ad σ τ) (pc + 1) lsv (.long (σ.2.2 k i x.toNatClampNeg) :: rest)) : J p l e R s m args below meth c Q D jcl jY E ad A H0 nL cells slots z lv (jv ad σ τ) pc lsv (.int x :: .ref (ad k i) :: rest) := by
  refine j_lald C hK k i d hY hin hl ?_
  rw [(show jv ad σ τ k i x.toNatClampNeg = .long (σ.2.2 k i x.toNatClampNeg) by unfold jv; rw [hk, ht]; rfl)]
  exact kk
theorem saR (C : CallFix p m c cc nL s args jT own) (hK : jK D jcl jY E s) {n t : Nat} {Cn : String} (k i : Nat) (d : decode cc pc = .ok (.aaload, 1)) (hY : jY k = .inr (.object Cn, n)) {x : Int32} (hin : vp_in x n) (hk : Nat.blt k 10 = true) (ht : tg k x.toNatClampNeg = t + 3) (hl : lv k i) (kk : J p l e R s m args below meth c Q D jcl jY E ad A H0 nL cells slots z lv (jv ad σ τ) (pc + 1) lsv (va_rf ((σ.2.1 k i x.toNatClampNeg).map (ad t)) :: rest)) : J p l e R s m args below meth c Q D jcl jY E ad A H0 nL cells slots z lv (jv ad σ τ) pc lsv (.int x :: .ref (ad k i) :: rest) := by
  refine j_aald C hK k i d hY hin hl ?_
  rw [(show jv ad σ τ k i x.toNatClampNeg = va_rf ((σ.2.1 k i x.toNatClampNeg).map (ad t)) by unfold jv; rw [hk, ht]; rfl)]
  exact kk
theorem saC (C : CallFix p m c cc nL s args jT own) (hK : jK D jcl jY E s) {n : Nat} {Cn : String} (k i : Nat) (d : decode cc pc = .ok (.aaload, 1)) (hY : jY k = .inr (.object Cn, n)) {x : Int32} (hin : vp_in x n) (hk : Nat.blt k 10 = true) (ht : tg k x.toNatClampNeg = 2) (hl : lv k i) (kk : J p l e R s m args below meth c Q D jcl jY E ad A H0 nL cells slots z lv (jv ad σ τ) (pc + 1) lsv (cv ad k i x.toNatClampNeg :: rest)) : J p l e R s m args below meth c Q D jcl jY E ad A H0 nL cells slots z lv (jv ad σ τ) pc lsv (.int x :: .ref (ad k i) :: rest) := by
  refine j_aald C hK k i d hY hin hl ?_
  rw [(show jv ad σ τ k i x.toNatClampNeg = cv ad k i x.toNatClampNeg by unfold jv; rw [hk, ht]; rfl)]
  exact kk
theorem sia_st (C : CallFix p m c cc nL s args jT own) (hK : jK D jcl jY E s) {n : Nat} (k i : Nat) (d : decode cc pc = .ok (.iastore, 1)) (hY : jY k = .inr (.int, n)) {x v : Int32} (hin : vp_in x n) (hk : Nat.blt k 10 = true) (ht : tg k x.toNatClampNeg = 0) (hl : lv k i) (kk : J p l e R s m args below meth c Q D jcl jY E ad A H0 nL cells slots z lv (jv ad (sI σ k i x.toNatClampNeg v) τ) (pc + 1) lsv rest) : J p l e R s m args below meth c Q D jcl jY E ad A H0 nL cells slots z lv (jv ad σ τ) pc lsv (.int v :: .int x :: .ref (ad k i) :: rest) := by
  refine j_iast C hK k i d hY hin hl ?_
  rw [suI hk ht]
  exact kk
theorem sza_st (C : CallFix p m c cc nL s args jT own) (hK : jK D jcl jY E s) {n : Nat} (k i : Nat) (d : decode cc pc = .ok (.bastore, 1)) (hY : jY k = .inr (.boolean, n)) {x v : Int32} (hnar : narrow .boolean (.int v) = .int v) (hin : vp_in x n) (hk : Nat.blt k 10 = true) (ht : tg k x.toNatClampNeg = 0) (hl : lv k i) (kk : J p l e R s m args below meth c Q D jcl jY E ad A H0 nL cells slots z lv (jv ad (sI σ k i x.toNatClampNeg v) τ) (pc + 1) lsv rest) : J p l e R s m args below meth c Q D jcl jY E ad A H0 nL cells slots z lv (jv ad σ τ) pc lsv (.int v :: .int x :: .ref (ad k i) :: rest) := by
  refine j_zast C hK k i d hY hnar hin hl ?_
  rw [suI hk ht]
  exact kk
theorem sla_st (C : CallFix p m c cc nL s args jT own) (hK : jK D jcl jY E s) {n : Nat} (k i : Nat) (d : decode cc pc = .ok (.lastore, 1)) (hY : jY k = .inr (.long, n)) {x : Int32} {v : Int64} (hin : vp_in x n) (hk : Nat.blt k 10 = true) (ht : tg k x.toNatClampNeg = 1) (hl : lv k i) (kk : J p l e R s m args below meth c Q D jcl jY E ad A H0 nL cells slots z lv (jv ad (sL σ k i x.toNatClampNeg v) τ) (pc + 1) lsv rest) : J p l e R s m args below meth c Q D jcl jY E ad A H0 nL cells slots z lv (jv ad σ τ) pc lsv (.long v :: .int x :: .ref (ad k i) :: rest) := by
  refine j_last C hK k i d hY hin hl ?_
  rw [suL hk ht]
  exact kk
theorem tgI (C : CallFix p m c cc nL s args jT own) (hK : jK D jcl jY E s) {ref Cn : String} {T : u_T} {N ci index : Nat} (k i j : Nat) (d : decode cc pc = .ok (.getfield index, 3)) (hin : ∀ w ∈ u_ws Cn T N, w ∈ jT) (hY : jY k = .inl ci) (hc : jcl[ci]? = some (Cn, T, N)) (hj : j < N) (hlink : Cond.fieldLink own index ref (T j).2.1 (T j).2.2.1 ∈ jT) (hsame : (T j).1 = ref) (hk : Nat.blt k 10 = false) (ht : tg k j = 0) (hl : lv k i) (kk : J p l e R s m args below meth c Q D jcl jY E ad A H0 nL cells slots z lv (jv ad σ τ) (pc + 3) lsv (.int (τ.1 k i j) :: rest)) : J p l e R s m args below meth c Q D jcl jY E ad A H0 nL cells slots z lv (jv ad σ τ) pc lsv (.ref (ad k i) :: rest) := by
  refine j_get C hK k i j d hin hY hc hj hlink hsame hl ?_
  rw [(show jv ad σ τ k i j = .int (τ.1 k i j) by unfold jv; rw [hk, ht]; rfl)]
  exact kk
theorem tgL (C : CallFix p m c cc nL s args jT own) (hK : jK D jcl jY E s) {ref Cn : String} {T : u_T} {N ci index : Nat} (k i j : Nat) (d : decode cc pc = .ok (.getfield index, 3)) (hin : ∀ w ∈ u_ws Cn T N, w ∈ jT) (hY : jY k = .inl ci) (hc : jcl[ci]? = some (Cn, T, N)) (hj : j < N) (hlink : Cond.fieldLink own index ref (T j).2.1 (T j).2.2.1 ∈ jT) (hsame : (T j).1 = ref) (hk : Nat.blt k 10 = false) (ht : tg k j = 1) (hl : lv k i) (kk : J p l e R s m args below meth c Q D jcl jY E ad A H0 nL cells slots z lv (jv ad σ τ) (pc + 3) lsv (.long (τ.2.2 k i j) :: rest)) : J p l e R s m args below meth c Q D jcl jY E ad A H0 nL cells slots z lv (jv ad σ τ) pc lsv (.ref (ad k i) :: rest) := by
  refine j_get C hK k i j d hin hY hc hj hlink hsame hl ?_
  rw [(show jv ad σ τ k i j = .long (τ.2.2 k i j) by unfold jv; rw [hk, ht]; rfl)]
  exact kk
theorem tgC (C : CallFix p m c cc nL s args jT own) (hK : jK D jcl jY E s) {ref Cn : String} {T : u_T} {N ci index : Nat} (k i j : Nat) (d : decode cc pc = .ok (.getfield index, 3)) (hin : ∀ w ∈ u_ws Cn T N, w ∈ jT) (hY : jY k = .inl ci) (hc : jcl[ci]? = some (Cn, T, N)) (hj : j < N) (hlink : Cond.fieldLink own index ref (T j).2.1 (T j).2.2.1 ∈ jT) (hsame : (T j).1 = ref) (hk : Nat.blt k 10 = false) (ht : tg k j = 2) (hl : lv k i) (kk : J p l e R s m args below meth c Q D jcl jY E ad A H0 nL cells slots z lv (jv ad σ τ) (pc + 3) lsv (cv ad k i j :: rest)) : J p l e R s m args below meth c Q D jcl jY E ad A H0 nL cells slots z lv (jv ad σ τ) pc lsv (.ref (ad k i) :: rest) := by
  refine j_get C hK k i j d hin hY hc hj hlink hsame hl ?_
  rw [(show jv ad σ τ k i j = cv ad k i j by unfold jv; rw [hk, ht]; rfl)]
  exact kk
theorem tgR (C : CallFix p m c cc nL s args jT own) (hK : jK D jcl jY E s) {t : Nat} {ref Cn : String} {T : u_T} {N ci index : Nat} (k i j : Nat) (d : decode cc pc = .ok (.getfield index, 3)) (hin : ∀ w ∈ u_ws Cn T N, w ∈ jT) (hY : jY k = .inl ci) (hc : jcl[ci]? = some (Cn, T, N)) (hj : j < N) (hlink : Cond.fieldLink own index ref (T j).2.1 (T j).2.2.1 ∈ jT) (hsame : (T j).1 = ref) (hk : Nat.blt k 10 = false) (ht : tg k j = t + 3) (hl : lv k i) (kk : J p l e R s m args below meth c Q D jcl jY E ad A H0 nL cells slots z lv (jv ad σ τ) (pc + 3) lsv (va_rf ((τ.2.1 k i j).map (ad t)) :: rest)) : J p l e R s m args below meth c Q D jcl jY E ad A H0 nL cells slots z lv (jv ad σ τ) pc lsv (.ref (ad k i) :: rest) := by
  refine j_get C hK k i j d hin hY hc hj hlink hsame hl ?_
  rw [(show jv ad σ τ k i j = va_rf ((τ.2.1 k i j).map (ad t)) by unfold jv; rw [hk, ht]; rfl)]
  exact kk
theorem tpI (C : CallFix p m c cc nL s args jT own) (hK : jK D jcl jY E s) {ref Cn : String} {T : u_T} {N ci index : Nat} (k i j : Nat) (ty0 : Nat → FieldType) (hty : ∀ k, k < N → parseFieldDescriptor (T k).2.2.1 = some (ty0 k)) (hnm : ∀ a, a < N → ∀ b, b < N → a ≠ b → (T a).2.1 ≠ (T b).2.1) (d : decode cc pc = .ok (.putfield index, 3)) (hin : ∀ w ∈ u_ws Cn T N, w ∈ jT) (hY : jY k = .inl ci) (hc : jcl[ci]? = some (Cn, T, N)) (hj : j < N) (hlink : Cond.fieldLink own index ref (T j).2.1 (T j).2.2.1 ∈ jT) (hsame : (T j).1 = ref) (hfin : (T j).2.2.2 = false) (hk : Nat.blt k 10 = false) (ht : tg k j = 0) (x : Int32) (hn : narrow (ty0 j) (.int x) = .int x) (hfit : fits (ty0 j) (.int x) = true) (hl : lv k i) (kk : J p l e R s m args below meth c Q D jcl jY E ad A H0 nL cells slots z lv (jv ad σ (sI τ k i j x)) (pc + 3) lsv rest) : J p l e R s m args below meth c Q D jcl jY E ad A H0 nL cells slots z lv (jv ad σ τ) pc lsv (.int x :: .ref (ad k i) :: rest) := by
  refine j_put C hK k i j ty0 hty hnm d hin hY hc hj hlink hsame hfin hn hfit hl ?_
  rw [tuI hk ht]
  exact kk
theorem tpL (C : CallFix p m c cc nL s args jT own) (hK : jK D jcl jY E s) {ref Cn : String} {T : u_T} {N ci index : Nat} (k i j : Nat) (ty0 : Nat → FieldType) (hty : ∀ k, k < N → parseFieldDescriptor (T k).2.2.1 = some (ty0 k)) (hnm : ∀ a, a < N → ∀ b, b < N → a ≠ b → (T a).2.1 ≠ (T b).2.1) (d : decode cc pc = .ok (.putfield index, 3)) (hin : ∀ w ∈ u_ws Cn T N, w ∈ jT) (hY : jY k = .inl ci) (hc : jcl[ci]? = some (Cn, T, N)) (hj : j < N) (hlink : Cond.fieldLink own index ref (T j).2.1 (T j).2.2.1 ∈ jT) (hsame : (T j).1 = ref) (hfin : (T j).2.2.2 = false) (hk : Nat.blt k 10 = false) (ht : tg k j = 1) (x : Int64) (hn : narrow (ty0 j) (.long x) = .long x) (hfit : fits (ty0 j) (.long x) = true) (hl : lv k i) (kk : J p l e R s m args below meth c Q D jcl jY E ad A H0 nL cells slots z lv (jv ad σ (sL τ k i j x)) (pc + 3) lsv rest) : J p l e R s m args below meth c Q D jcl jY E ad A H0 nL cells slots z lv (jv ad σ τ) pc lsv (.long x :: .ref (ad k i) :: rest) := by
  refine j_put C hK k i j ty0 hty hnm d hin hY hc hj hlink hsame hfin hn hfit hl ?_
  rw [tuL hk ht]
  exact kk
theorem tpP (C : CallFix p m c cc nL s args jT own) (hK : jK D jcl jY E s) {t : Nat} {ref Cn : String} {T : u_T} {N ci index : Nat} (k i j : Nat) (ty0 : Nat → FieldType) (hty : ∀ k, k < N → parseFieldDescriptor (T k).2.2.1 = some (ty0 k)) (hnm : ∀ a, a < N → ∀ b, b < N → a ≠ b → (T a).2.1 ≠ (T b).2.1) (d : decode cc pc = .ok (.putfield index, 3)) (hin : ∀ w ∈ u_ws Cn T N, w ∈ jT) (hY : jY k = .inl ci) (hc : jcl[ci]? = some (Cn, T, N)) (hj : j < N) (hlink : Cond.fieldLink own index ref (T j).2.1 (T j).2.2.1 ∈ jT) (hsame : (T j).1 = ref) (hfin : (T j).2.2.2 = false) (hk : Nat.blt k 10 = false) (ht : tg k j = t + 3) (x : Option Nat) (hn : narrow (ty0 j) (va_rf (x.map (ad t))) = va_rf (x.map (ad t))) (hfit : fits (ty0 j) (va_rf (x.map (ad t))) = true) (hl : lv k i) (kk : J p l e R s m args below meth c Q D jcl jY E ad A H0 nL cells slots z lv (jv ad σ (sP τ k i j x)) (pc + 3) lsv rest) : J p l e R s m args below meth c Q D jcl jY E ad A H0 nL cells slots z lv (jv ad σ τ) pc lsv (va_rf (x.map (ad t)) :: .ref (ad k i) :: rest) := by
  refine j_put C hK k i j ty0 hty hnm d hin hY hc hj hlink hsame hfin hn hfit hl ?_
  rw [tuP hk ht]
  exact kk
theorem tia (C : CallFix p m c cc nL s args jT own) (hK : jK D jcl jY E s) {n : Nat} (k i : Nat) (d : decode cc pc = .ok (.iaload, 1)) (hY : jY k = .inr (.int, n)) {x : Int32} (hin : vp_in x n) (hk : Nat.blt k 10 = false) (ht : tg k x.toNatClampNeg = 0) (hl : lv k i) (kk : J p l e R s m args below meth c Q D jcl jY E ad A H0 nL cells slots z lv (jv ad σ τ) (pc + 1) lsv (.int (τ.1 k i x.toNatClampNeg) :: rest)) : J p l e R s m args below meth c Q D jcl jY E ad A H0 nL cells slots z lv (jv ad σ τ) pc lsv (.int x :: .ref (ad k i) :: rest) := by
  refine j_iald C hK k i d hY hin hl ?_
  rw [(show jv ad σ τ k i x.toNatClampNeg = .int (τ.1 k i x.toNatClampNeg) by unfold jv; rw [hk, ht]; rfl)]
  exact kk
theorem tza (C : CallFix p m c cc nL s args jT own) (hK : jK D jcl jY E s) {n : Nat} (k i : Nat) (d : decode cc pc = .ok (.baload, 1)) (hY : jY k = .inr (.boolean, n)) {x : Int32} (hin : vp_in x n) (hk : Nat.blt k 10 = false) (ht : tg k x.toNatClampNeg = 0) (hl : lv k i) (kk : J p l e R s m args below meth c Q D jcl jY E ad A H0 nL cells slots z lv (jv ad σ τ) (pc + 1) lsv (.int (τ.1 k i x.toNatClampNeg) :: rest)) : J p l e R s m args below meth c Q D jcl jY E ad A H0 nL cells slots z lv (jv ad σ τ) pc lsv (.int x :: .ref (ad k i) :: rest) := by
  refine j_zald C hK k i d hY hin hl ?_
  rw [(show jv ad σ τ k i x.toNatClampNeg = .int (τ.1 k i x.toNatClampNeg) by unfold jv; rw [hk, ht]; rfl)]
  exact kk
theorem tla (C : CallFix p m c cc nL s args jT own) (hK : jK D jcl jY E s) {n : Nat} (k i : Nat) (d : decode cc pc = .ok (.laload, 1)) (hY : jY k = .inr (.long, n)) {x : Int32} (hin : vp_in x n) (hk : Nat.blt k 10 = false) (ht : tg k x.toNatClampNeg = 1) (hl : lv k i) (kk : J p l e R s m args below meth c Q D jcl jY E ad A H0 nL cells slots z lv (jv ad σ τ) (pc + 1) lsv (.long (τ.2.2 k i x.toNatClampNeg) :: rest)) : J p l e R s m args below meth c Q D jcl jY E ad A H0 nL cells slots z lv (jv ad σ τ) pc lsv (.int x :: .ref (ad k i) :: rest) := by
  refine j_lald C hK k i d hY hin hl ?_
  rw [(show jv ad σ τ k i x.toNatClampNeg = .long (τ.2.2 k i x.toNatClampNeg) by unfold jv; rw [hk, ht]; rfl)]
  exact kk
theorem taR (C : CallFix p m c cc nL s args jT own) (hK : jK D jcl jY E s) {n t : Nat} {Cn : String} (k i : Nat) (d : decode cc pc = .ok (.aaload, 1)) (hY : jY k = .inr (.object Cn, n)) {x : Int32} (hin : vp_in x n) (hk : Nat.blt k 10 = false) (ht : tg k x.toNatClampNeg = t + 3) (hl : lv k i) (kk : J p l e R s m args below meth c Q D jcl jY E ad A H0 nL cells slots z lv (jv ad σ τ) (pc + 1) lsv (va_rf ((τ.2.1 k i x.toNatClampNeg).map (ad t)) :: rest)) : J p l e R s m args below meth c Q D jcl jY E ad A H0 nL cells slots z lv (jv ad σ τ) pc lsv (.int x :: .ref (ad k i) :: rest) := by
  refine j_aald C hK k i d hY hin hl ?_
  rw [(show jv ad σ τ k i x.toNatClampNeg = va_rf ((τ.2.1 k i x.toNatClampNeg).map (ad t)) by unfold jv; rw [hk, ht]; rfl)]
  exact kk
theorem taC (C : CallFix p m c cc nL s args jT own) (hK : jK D jcl jY E s) {n : Nat} {Cn : String} (k i : Nat) (d : decode cc pc = .ok (.aaload, 1)) (hY : jY k = .inr (.object Cn, n)) {x : Int32} (hin : vp_in x n) (hk : Nat.blt k 10 = false) (ht : tg k x.toNatClampNeg = 2) (hl : lv k i) (kk : J p l e R s m args below meth c Q D jcl jY E ad A H0 nL cells slots z lv (jv ad σ τ) (pc + 1) lsv (cv ad k i x.toNatClampNeg :: rest)) : J p l e R s m args below meth c Q D jcl jY E ad A H0 nL cells slots z lv (jv ad σ τ) pc lsv (.int x :: .ref (ad k i) :: rest) := by
  refine j_aald C hK k i d hY hin hl ?_
  rw [(show jv ad σ τ k i x.toNatClampNeg = cv ad k i x.toNatClampNeg by unfold jv; rw [hk, ht]; rfl)]
  exact kk
theorem tia_st (C : CallFix p m c cc nL s args jT own) (hK : jK D jcl jY E s) {n : Nat} (k i : Nat) (d : decode cc pc = .ok (.iastore, 1)) (hY : jY k = .inr (.int, n)) {x v : Int32} (hin : vp_in x n) (hk : Nat.blt k 10 = false) (ht : tg k x.toNatClampNeg = 0) (hl : lv k i) (kk : J p l e R s m args below meth c Q D jcl jY E ad A H0 nL cells slots z lv (jv ad σ (sI τ k i x.toNatClampNeg v)) (pc + 1) lsv rest) : J p l e R s m args below meth c Q D jcl jY E ad A H0 nL cells slots z lv (jv ad σ τ) pc lsv (.int v :: .int x :: .ref (ad k i) :: rest) := by
  refine j_iast C hK k i d hY hin hl ?_
  rw [tuI hk ht]
  exact kk
theorem tza_st (C : CallFix p m c cc nL s args jT own) (hK : jK D jcl jY E s) {n : Nat} (k i : Nat) (d : decode cc pc = .ok (.bastore, 1)) (hY : jY k = .inr (.boolean, n)) {x v : Int32} (hnar : narrow .boolean (.int v) = .int v) (hin : vp_in x n) (hk : Nat.blt k 10 = false) (ht : tg k x.toNatClampNeg = 0) (hl : lv k i) (kk : J p l e R s m args below meth c Q D jcl jY E ad A H0 nL cells slots z lv (jv ad σ (sI τ k i x.toNatClampNeg v)) (pc + 1) lsv rest) : J p l e R s m args below meth c Q D jcl jY E ad A H0 nL cells slots z lv (jv ad σ τ) pc lsv (.int v :: .int x :: .ref (ad k i) :: rest) := by
  refine j_zast C hK k i d hY hnar hin hl ?_
  rw [tuI hk ht]
  exact kk
theorem tla_st (C : CallFix p m c cc nL s args jT own) (hK : jK D jcl jY E s) {n : Nat} (k i : Nat) (d : decode cc pc = .ok (.lastore, 1)) (hY : jY k = .inr (.long, n)) {x : Int32} {v : Int64} (hin : vp_in x n) (hk : Nat.blt k 10 = false) (ht : tg k x.toNatClampNeg = 1) (hl : lv k i) (kk : J p l e R s m args below meth c Q D jcl jY E ad A H0 nL cells slots z lv (jv ad σ (sL τ k i x.toNatClampNeg v)) (pc + 1) lsv rest) : J p l e R s m args below meth c Q D jcl jY E ad A H0 nL cells slots z lv (jv ad σ τ) pc lsv (.long v :: .int x :: .ref (ad k i) :: rest) := by
  refine j_last C hK k i d hY hin hl ?_
  rw [tuL hk ht]
  exact kk
theorem jnull (C : CallFix p m c cc nL s args jT own) {V : jVT} {o : Option Nat} {t : Nat} {off : Int} (tgt : Nat) (d : decode cc pc = .ok (.ifnull off, 3)) (ht : (pc : Int) + off = (tgt : Int)) (kt : o = none → J p l e R s m args below meth c Q D jcl jY E ad A H0 nL cells slots z lv V tgt lsv rest) (kf : ∀ x : Nat, o = some x → J p l e R s m args below meth c Q D jcl jY E ad A H0 nL cells slots z lv V (pc + 3) lsv rest) : J p l e R s m args below meth c Q D jcl jY E ad A H0 nL cells slots z lv V pc lsv (va_rf (o.map (ad t)) :: rest) := by
  cases o with
  | none => exact j_ifnull C tgt d ht (fun _ => kt rfl) (fun a h => by cases h)
  | some x => exact j_ifnull C tgt d ht (fun h => by cases h) (fun _ _ => kf x rfl)
theorem jnonnull (C : CallFix p m c cc nL s args jT own) {V : jVT} {o : Option Nat} {t : Nat} {off : Int} (tgt : Nat) (d : decode cc pc = .ok (.ifnonnull off, 3)) (ht : (pc : Int) + off = (tgt : Int)) (kt : ∀ x : Nat, o = some x → J p l e R s m args below meth c Q D jcl jY E ad A H0 nL cells slots z lv V tgt lsv rest) (kf : o = none → J p l e R s m args below meth c Q D jcl jY E ad A H0 nL cells slots z lv V (pc + 3) lsv rest) : J p l e R s m args below meth c Q D jcl jY E ad A H0 nL cells slots z lv V pc lsv (va_rf (o.map (ad t)) :: rest) := by
  cases o with
  | none => exact j_ifnonnull C tgt d ht (fun a h => by cases h) (fun _ => kf rfl)
  | some x => exact j_ifnonnull C tgt d ht (fun _ _ => kt x rfl) (fun h => by cases h)
/-- the words of a method that is called -/
def jmw (y : MethodName) (bytes : ByteArray) (maxL : Nat) (ret : Option FieldType) (n : Nat) : Prop := Cond.code y bytes maxL ret ∈ jT ∧ Cond.initialized y.cls ∈ jT ∧ y.cls ≠ "java/lang/invoke/MethodHandle" ∧ y.cls ≠ "java/lang/invoke/VarHandle" ∧ (parseMethodDescriptor y.desc).map (fun d => d.parameters.length) = some n
theorem jgood {w0 : Cond} (h0 : w0 ∈ jT) : GoodIn jT (w0 :: jT) := fun w h => by
  rcases List.mem_cons.mp h with rfl | h
  · exact ⟨h0, good_of_word (jT_good _ h0)⟩
  · exact ⟨h, good_of_word (jT_good _ h)⟩
theorem jcB (C : CallFix p m c cc nL s args jT own) {y : MethodName} {bytes : ByteArray} {maxL n index mc ms : Nat} {ret : Option FieldType} {rm : Room} (hm : jmw y bytes maxL ret n) (hl : Cond.methodLink own index y ∈ jT) (hrc : rm.cells = mc) (hrs : rm.slots = ms) (hR : rm.frames + 1 ≤ R.frames ∧ 8 + (maxL + 11) + rm.locals ≤ R.locals) : CallB R s args own index y bytes maxL ret (Cond.code y bytes maxL ret :: jT) rm mc ms n :=
  callB_of n C.2.2.2.2 (jgood hm.1) rfl hrc hrs (C.2.2.2.2 _ hm.2.1) (C.2.2.2.2 _ hl) hm.2.2 hR
theorem jcV (C : CallFix p m c cc nL s args jT own) {y : MethodName} {bytes : ByteArray} {maxL n index mc ms : Nat} {ret : Option FieldType} {rm : Room} {Cn : String} (hm : jmw y bytes maxL ret n) (hl : Cond.methodLink own index y ∈ jT) (hi : Cond.instanceMethod y ∈ jT) (hs : Cond.selects Cn y y ∈ jT) (hrc : rm.cells = mc) (hrs : rm.slots = ms) (hR : rm.frames + 1 ≤ R.frames ∧ 8 + (maxL + 11) + rm.locals ≤ R.locals) : CallW R s args own Cn index y bytes maxL ret (Cond.code y bytes maxL ret :: jT) rm mc ms n :=
  ⟨jcB C hm hl hrc hrs hR, C.2.2.2.2 _ hi, C.2.2.2.2 _ hs⟩
end TROWS
/-- a contract of a method, over the words jT -/
abbrev jM (l : Launch) (y : MethodName) (cc : ByteArray) (maxL : Nat) (ret : Option FieldType) (lev : Nat) (D : va_G) (E : Nat → ClassId) (ad : Nat → Nat → Nat) (lv : Nat → Nat → Prop) (V : jVT) (vs : List Value) (r : Option Value) (V' : jVT) : Prop :=
  ∀ sz : Nat, jC l y (Cond.code y cc maxL ret :: jT) { frames := lev, cells := 0, slots := 0, locals := 30 * lev } D jcl jY E ad lv sz V vs r lv V' sz 0 0
end
section
theorem mi_X_init : jmw y_X_init c_X_init 2 (none) 0 := ⟨t_42, t_31, by decide, by decide, by decide +kernel⟩
theorem mi_X_make : jmw y_X_make c_X_make 3 (some .boolean) 2 := ⟨t_146, t_31, by decide, by decide, by decide +kernel⟩
theorem mi_X_plan : jmw y_X_plan c_X_plan 6 (some .int) 3 := ⟨t_184, t_31, by decide, by decide, by decide +kernel⟩
theorem mi_X_wake : jmw y_X_wake c_X_wake 3 (some .boolean) 1 := ⟨t_192, t_31, by decide, by decide, by decide +kernel⟩
theorem mi_X_suspend : jmw y_X_suspend c_X_suspend 2 (some .int) 0 := ⟨t_212, t_31, by decide, by decide, by decide +kernel⟩
theorem mi_X_signal : jmw y_X_signal c_X_signal 2 (some .boolean) 1 := ⟨t_224, t_31, by decide, by decide, by decide +kernel⟩
theorem mi_X_listen : jmw y_X_listen c_X_listen 2 (some .boolean) 1 := ⟨t_235, t_31, by decide, by decide, by decide +kernel⟩
theorem mi_X_alarm : jmw y_X_alarm c_X_alarm 3 (some .boolean) 2 := ⟨t_239, t_31, by decide, by decide, by decide +kernel⟩
theorem mi_X_word : jmw y_X_word c_X_word 2 (some .int) 1 := ⟨t_248, t_31, by decide, by decide, by decide +kernel⟩
theorem mi_X_run : jmw y_X_run c_X_run 3 (some .int) 1 := ⟨t_264, t_31, by decide, by decide, by decide +kernel⟩
theorem mi_X_active : jmw y_X_active c_X_active 1 (some .int) 0 := ⟨t_318, t_31, by decide, by decide, by decide +kernel⟩
theorem mi_X_present : jmw y_X_present c_X_present 1 (some .int) 0 := ⟨t_325, t_31, by decide, by decide, by decide +kernel⟩
theorem mi_X_clock : jmw y_X_clock c_X_clock 1 (some .int) 0 := ⟨t_329, t_31, by decide, by decide, by decide +kernel⟩
theorem mi_X_codes : jmw y_X_codes c_X_codes 1 (some .long) 0 := ⟨t_333, t_31, by decide, by decide, by decide +kernel⟩
theorem mi_X_done : jmw y_X_done c_X_done 3 (some .int) 1 := ⟨t_337, t_31, by decide, by decide, by decide +kernel⟩
theorem mi_X_row : jmw y_X_row c_X_row 3 (some .int) 1 := ⟨t_341, t_31, by decide, by decide, by decide +kernel⟩
theorem mi_X_at : jmw y_X_at c_X_at 3 (some .int) 2 := ⟨t_345, t_31, by decide, by decide, by decide +kernel⟩
theorem mi_X_extra : jmw y_X_extra c_X_extra 2 (some .int) 1 := ⟨t_353, t_31, by decide, by decide, by decide +kernel⟩
theorem mi_X_wordAt : jmw y_X_wordAt c_X_wordAt 2 (some .int) 1 := ⟨t_357, t_31, by decide, by decide, by decide +kernel⟩
theorem mi_X_input : jmw y_X_input c_X_input 1 (some .int) 0 := ⟨t_365, t_31, by decide, by decide, by decide +kernel⟩
theorem mi_X_tick : jmw y_X_tick c_X_tick 1 (some .int) 0 := ⟨t_369, t_31, by decide, by decide, by decide +kernel⟩
theorem mi_X_isSemaphore : jmw y_X_isSemaphore c_X_isSemaphore 1 (some .boolean) 1 := ⟨t_227, t_31, by decide, by decide, by decide +kernel⟩
theorem mi_X_numberOf : jmw y_X_numberOf c_X_numberOf 1 (some .int) 1 := ⟨t_321, t_31, by decide, by decide, by decide +kernel⟩
theorem mi_X_processNumbered : jmw y_X_processNumbered c_X_processNumbered 2 (some (.object "InputRoom$Proc")) 1 := ⟨t_188, t_31, by decide, by decide, by decide +kernel⟩
theorem mi_X_presentOne : jmw y_X_presentOne c_X_presentOne 1 (some (.object "InputRoom$Proc")) 0 := ⟨t_196, t_31, by decide, by decide, by decide +kernel⟩
theorem mi_X_wantChangeTo : jmw y_X_wantChangeTo c_X_wantChangeTo 2 (none) 1 := ⟨t_208, t_31, by decide, by decide, by decide +kernel⟩
theorem mi_X_wakeUp : jmw y_X_wakeUp c_X_wakeUp 3 (none) 1 := ⟨t_200, t_31, by decide, by decide, by decide +kernel⟩
theorem mi_X_putPresentAside : jmw y_X_putPresentAside c_X_putPresentAside 3 (none) 0 := ⟨t_216, t_31, by decide, by decide, by decide +kernel⟩
theorem mi_X_signalOnce : jmw y_X_signalOnce c_X_signalOnce 3 (none) 1 := ⟨t_231, t_31, by decide, by decide, by decide +kernel⟩
theorem mi_X_waitFor : jmw y_X_waitFor c_X_waitFor 3 (none) 1 := ⟨t_301, t_31, by decide, by decide, by decide +kernel⟩
theorem mi_X_giveWay : jmw y_X_giveWay c_X_giveWay 2 (none) 0 := ⟨t_305, t_31, by decide, by decide, by decide +kernel⟩
theorem mi_X_setAlarm : jmw y_X_setAlarm c_X_setAlarm 3 (none) 2 := ⟨t_244, t_31, by decide, by decide, by decide +kernel⟩
theorem mi_X_doCode : jmw y_X_doCode c_X_doCode 3 (none) 1 := ⟨t_288, t_31, by decide, by decide, by decide +kernel⟩
theorem mi_X_doAct : jmw y_X_doAct c_X_doAct 2 (none) 1 := ⟨t_297, t_31, by decide, by decide, by decide +kernel⟩
theorem mi_X_doBehind : jmw y_X_doBehind c_X_doBehind 1 (none) 0 := ⟨t_268, t_31, by decide, by decide, by decide +kernel⟩
theorem mi_X_settle : jmw y_X_settle c_X_settle 1 (none) 0 := ⟨t_272, t_31, by decide, by decide, by decide +kernel⟩
theorem mi_X_signalNewWords : jmw y_X_signalNewWords c_X_signalNewWords 3 (none) 0 := ⟨t_276, t_31, by decide, by decide, by decide +kernel⟩
theorem mi_X_signalDueAlarm : jmw y_X_signalDueAlarm c_X_signalDueAlarm 2 (none) 0 := ⟨t_284, t_31, by decide, by decide, by decide +kernel⟩
theorem mi_M_init : jmw y_M_init c_M_init 1 (none) 0 := ⟨t_374, t_35, by decide, by decide, by decide +kernel⟩
theorem mi_M_isMade : jmw y_M_isMade c_M_isMade 2 (some .boolean) 1 := ⟨t_510, t_35, by decide, by decide, by decide +kernel⟩
theorem mi_M_isSemaphore : jmw y_M_isSemaphore c_M_isSemaphore 1 (some .boolean) 1 := ⟨t_525, t_35, by decide, by decide, by decide +kernel⟩
theorem mi_M_come : jmw y_M_come c_M_come 3 (none) 2 := ⟨t_473, t_35, by decide, by decide, by decide +kernel⟩
theorem mi_M_first : jmw y_M_first c_M_first 4 (some .int) 1 := ⟨t_461, t_35, by decide, by decide, by decide +kernel⟩
theorem mi_M_present0 : jmw y_M_present0 c_M_present0 1 (some .int) 0 := ⟨t_469, t_35, by decide, by decide, by decide +kernel⟩
theorem mi_M_want : jmw y_M_want c_M_want 2 (none) 1 := ⟨t_477, t_35, by decide, by decide, by decide +kernel⟩
theorem mi_M_rouse : jmw y_M_rouse c_M_rouse 3 (none) 1 := ⟨t_465, t_35, by decide, by decide, by decide +kernel⟩
theorem mi_M_putAside : jmw y_M_putAside c_M_putAside 3 (none) 0 := ⟨t_489, t_35, by decide, by decide, by decide +kernel⟩
theorem mi_M_signal0 : jmw y_M_signal0 c_M_signal0 3 (none) 1 := ⟨t_457, t_35, by decide, by decide, by decide +kernel⟩
theorem mi_M_await0 : jmw y_M_await0 c_M_await0 3 (none) 1 := ⟨t_485, t_35, by decide, by decide, by decide +kernel⟩
theorem mi_M_giveWay : jmw y_M_giveWay c_M_giveWay 2 (none) 0 := ⟨t_493, t_35, by decide, by decide, by decide +kernel⟩
theorem mi_M_dropWord : jmw y_M_dropWord c_M_dropWord 2 (none) 0 := ⟨t_497, t_35, by decide, by decide, by decide +kernel⟩
theorem mi_M_act : jmw y_M_act c_M_act 2 (none) 1 := ⟨t_481, t_35, by decide, by decide, by decide +kernel⟩
theorem mi_M_post : jmw y_M_post c_M_post 2 (none) 1 := ⟨t_453, t_35, by decide, by decide, by decide +kernel⟩
theorem mi_M_behind : jmw y_M_behind c_M_behind 3 (none) 0 := ⟨t_449, t_35, by decide, by decide, by decide +kernel⟩
theorem mi_M_run : jmw y_M_run c_M_run 5 (some .int) 1 := ⟨t_445, t_35, by decide, by decide, by decide +kernel⟩
theorem mi_M_make : jmw y_M_make c_M_make 3 (some .boolean) 2 := ⟨t_502, t_35, by decide, by decide, by decide +kernel⟩
theorem mi_M_plan : jmw y_M_plan c_M_plan 5 (some .int) 3 := ⟨t_506, t_35, by decide, by decide, by decide +kernel⟩
theorem mi_M_wake : jmw y_M_wake c_M_wake 2 (some .boolean) 1 := ⟨t_514, t_35, by decide, by decide, by decide +kernel⟩
theorem mi_M_suspend : jmw y_M_suspend c_M_suspend 2 (some .int) 0 := ⟨t_518, t_35, by decide, by decide, by decide +kernel⟩
theorem mi_M_signal : jmw y_M_signal c_M_signal 2 (some .boolean) 1 := ⟨t_522, t_35, by decide, by decide, by decide +kernel⟩
theorem mi_M_listen : jmw y_M_listen c_M_listen 2 (some .boolean) 1 := ⟨t_529, t_35, by decide, by decide, by decide +kernel⟩
theorem mi_M_alarm : jmw y_M_alarm c_M_alarm 3 (some .boolean) 2 := ⟨t_533, t_35, by decide, by decide, by decide +kernel⟩
theorem mi_M_word : jmw y_M_word c_M_word 2 (some .int) 1 := ⟨t_538, t_35, by decide, by decide, by decide +kernel⟩
theorem mi_M_active : jmw y_M_active c_M_active 1 (some .int) 0 := ⟨t_543, t_35, by decide, by decide, by decide +kernel⟩
theorem mi_M_present : jmw y_M_present c_M_present 1 (some .int) 0 := ⟨t_547, t_35, by decide, by decide, by decide +kernel⟩
theorem mi_M_clock : jmw y_M_clock c_M_clock 1 (some .int) 0 := ⟨t_551, t_35, by decide, by decide, by decide +kernel⟩
theorem mi_M_codes : jmw y_M_codes c_M_codes 1 (some .long) 0 := ⟨t_555, t_35, by decide, by decide, by decide +kernel⟩
theorem mi_M_done : jmw y_M_done c_M_done 2 (some .int) 1 := ⟨t_559, t_35, by decide, by decide, by decide +kernel⟩
theorem mi_M_row : jmw y_M_row c_M_row 2 (some .int) 1 := ⟨t_563, t_35, by decide, by decide, by decide +kernel⟩
theorem mi_M_at : jmw y_M_at c_M_at 7 (some .int) 2 := ⟨t_567, t_35, by decide, by decide, by decide +kernel⟩
theorem mi_M_extra : jmw y_M_extra c_M_extra 2 (some .int) 1 := ⟨t_571, t_35, by decide, by decide, by decide +kernel⟩
theorem mi_M_wordAt : jmw y_M_wordAt c_M_wordAt 2 (some .int) 1 := ⟨t_575, t_35, by decide, by decide, by decide +kernel⟩
theorem mi_M_input : jmw y_M_input c_M_input 1 (some .int) 0 := ⟨t_579, t_35, by decide, by decide, by decide +kernel⟩
theorem mi_M_tick : jmw y_M_tick c_M_tick 1 (some .int) 0 := ⟨t_583, t_35, by decide, by decide, by decide +kernel⟩
theorem mi_P_init : jmw y_P_init c_P_init 4 (none) 3 := ⟨t_150, t_36, by decide, by decide, by decide +kernel⟩
theorem mi_P_nextAct : jmw y_P_nextAct c_P_nextAct 1 (some .int) 0 := ⟨t_292, t_36, by decide, by decide, by decide +kernel⟩
theorem mi_R_init : jmw y_R_init c_R_init 2 (none) 1 := ⟨t_75, t_33, by decide, by decide, by decide +kernel⟩
theorem mi_R_isEmpty : jmw y_R_isEmpty c_R_isEmpty 1 (some .boolean) 0 := ⟨t_309, t_33, by decide, by decide, by decide +kernel⟩
theorem mi_R_append : jmw y_R_append c_R_append 2 (none) 1 := ⟨t_204, t_33, by decide, by decide, by decide +kernel⟩
theorem mi_R_takeFirst : jmw y_R_takeFirst c_R_takeFirst 2 (some (.object "InputRoom$Proc")) 0 := ⟨t_220, t_33, by decide, by decide, by decide +kernel⟩
theorem mi_R_processAt : jmw y_R_processAt c_R_processAt 4 (some (.object "InputRoom$Proc")) 1 := ⟨t_349, t_33, by decide, by decide, by decide +kernel⟩
theorem mi_S_init : jmw y_S_init c_S_init 2 (none) 1 := ⟨t_90, t_34, by decide, by decide, by decide +kernel⟩
theorem mi_W_init : jmw y_W_init c_W_init 1 (none) 0 := ⟨t_56, t_32, by decide, by decide, by decide +kernel⟩
theorem mi_W_add : jmw y_W_add c_W_add 2 (some .int) 1 := ⟨t_253, t_32, by decide, by decide, by decide +kernel⟩
theorem mi_W_dropFirst : jmw y_W_dropFirst c_W_dropFirst 1 (none) 0 := ⟨t_313, t_32, by decide, by decide, by decide +kernel⟩
theorem mi_W_get : jmw y_W_get c_W_get 2 (some .int) 1 := ⟨t_361, t_32, by decide, by decide, by decide +kernel⟩
theorem mi_W_takeUntold : jmw y_W_takeUntold c_W_takeUntold 2 (some .int) 0 := ⟨t_280, t_32, by decide, by decide, by decide +kernel⟩
theorem mi_W_place : jmw y_W_place c_W_place 2 (some .int) 1 := ⟨t_257, t_32, by decide, by decide, by decide +kernel⟩
theorem mi_J_floorMod : jmw y_J_floorMod c_J_floorMod 3 (some .int) 2 := ⟨t_260, t_37, by decide, by decide, by decide +kernel⟩
section TACMP
variable {p : Program} {l : Launch} {e : Env} {R : Room} {s : State} {m : MethodId} {args : Array Value} {below : List Frame} {meth : Method} {c : Code} {cells slots z : Nat} {Q : State → Prop} {D : va_G} {E : Nat → ClassId} {ad : Nat → Nat → Nat} {lv : Nat → Nat → Prop} {A : Nat → Prop} {H0 : Heap} {cc : ByteArray} {nL : Nat} {own : String}
variable {V : jVT} {pc : Nat} {lsv : List (Option Value)} {rest : List Value}
theorem jmap_inj (hW : jW D jcl jY E ad lv V A H0) {t : Nat} {ox oy : Option Nat} (hx : ∀ x, ox = some x → lv t x) (hy : ∀ x, oy = some x → lv t x) : ox.map (ad t) = oy.map (ad t) ↔ ox = oy := by
  constructor
  · intro h
    cases ox with
    | none => cases oy with
      | none => rfl
      | some y => cases h
    | some x => cases oy with
      | none => cases h
      | some y =>
        have h1 : ad t x = ad t y := Option.some.inj h
        rw [(hW.2 t x t y (hx x rfl) (hy y rfl) h1).2]
  · intro h; rw [h]
theorem jacmp_eq (C : CallFix p m c cc nL s args jT own) {t : Nat} {ox oy : Option Nat} {off : Int} (tgt : Nat) (d : decode cc pc = .ok (.if_acmp .eq off, 3)) (ht : (pc : Int) + off = (tgt : Int)) (hx : ∀ x, ox = some x → lv t x) (hy : ∀ x, oy = some x → lv t x) (kt : ox = oy → J p l e R s m args below meth c Q D jcl jY E ad A H0 nL cells slots z lv V tgt lsv rest) (kf : ¬ ox = oy → J p l e R s m args below meth c Q D jcl jY E ad A H0 nL cells slots z lv V (pc + 3) lsv rest) : J p l e R s m args below meth c Q D jcl jY E ad A H0 nL cells slots z lv V pc lsv (va_rf (oy.map (ad t)) :: va_rf (ox.map (ad t)) :: rest) := by
  intro H locs ls hz hW hS hl
  have hi := jmap_inj (ox := ox) (oy := oy) hW hx hy
  refine lv_acmp_eq C.1 C.2.1 d ht (fun h => kt (hi.mp h) H locs ls hz hW hS hl) (fun h => kf (fun q => h (hi.mpr q)) H locs ls hz hW hS hl)
theorem jacmp_ne (C : CallFix p m c cc nL s args jT own) {t : Nat} {ox oy : Option Nat} {off : Int} (tgt : Nat) (d : decode cc pc = .ok (.if_acmp .ne off, 3)) (ht : (pc : Int) + off = (tgt : Int)) (hx : ∀ x, ox = some x → lv t x) (hy : ∀ x, oy = some x → lv t x) (kt : ¬ ox = oy → J p l e R s m args below meth c Q D jcl jY E ad A H0 nL cells slots z lv V tgt lsv rest) (kf : ox = oy → J p l e R s m args below meth c Q D jcl jY E ad A H0 nL cells slots z lv V (pc + 3) lsv rest) : J p l e R s m args below meth c Q D jcl jY E ad A H0 nL cells slots z lv V pc lsv (va_rf (oy.map (ad t)) :: va_rf (ox.map (ad t)) :: rest) := by
  intro H locs ls hz hW hS hl
  have hi := jmap_inj (ox := ox) (oy := oy) hW hx hy
  refine lv_acmp_ne C.1 C.2.1 d ht (fun h => kt (fun q => h (hi.mpr q)) H locs ls hz hW hS hl) (fun h => kf (hi.mp h) H locs ls hz hW hS hl)
end TACMP
/-! THE CLASS'S STATE: which processes are made; where its references may point -/
def Mk (σ : sT) (x : Nat) : Prop := x < 32 ∧ σ.2.1 1 0 x = some x
def OKs (σ : sT) (lv : Nat → Nat → Prop) : Prop :=
  ((∀ k, k < 6 → lv k 0) ∧ (∀ r, r < 24 → lv 6 r) ∧ (∀ s, s < 16 → lv 7 s)) ∧ (∀ x, Mk σ x → lv 8 x ∧ lv 9 x) ∧
  (∀ x y, x < 32 → σ.2.1 1 0 x = some y → y = x) ∧ (∀ x, Mk σ x → ∃ v, v < 8 ∧ σ.2.1 8 x 2 = some v) ∧
  (∀ x y, Mk σ x → σ.2.1 8 x 6 = some y → Mk σ y) ∧ (∀ r y, r < 24 → (σ.2.1 6 r 1 = some y → Mk σ y) ∧ (σ.2.1 6 r 2 = some y → Mk σ y)) ∧
  (∀ y, (σ.2.1 0 0 4 = some y → Mk σ y) ∧ (σ.2.1 0 0 6 = some y → Mk σ y)) ∧ (∀ y, (σ.2.1 0 0 9 = some y → y < 16) ∧ (σ.2.1 0 0 10 = some y → y < 16))
theorem OKs.k {σ : sT} {lv : Nat → Nat → Prop} (h : OKs σ lv) {k : Nat} (hk : k < 6) : lv k 0 := h.1.1 k hk
theorem OKs.r {σ : sT} {lv : Nat → Nat → Prop} (h : OKs σ lv) {r : Nat} (hr : r < 24) : lv 6 r := h.1.2.1 r hr
theorem OKs.s {σ : sT} {lv : Nat → Nat → Prop} (h : OKs σ lv) {s : Nat} (hs : s < 16) : lv 7 s := h.1.2.2 s hs
theorem OKs.p {σ : sT} {lv : Nat → Nat → Prop} (h : OKs σ lv) {x : Nat} (hx : Mk σ x) : lv 8 x := (h.2.1 x hx).1
theorem OKs.a {σ : sT} {lv : Nat → Nat → Prop} (h : OKs σ lv) {x : Nat} (hx : Mk σ x) : lv 9 x := (h.2.1 x hx).2
theorem OKs.rdy {σ : sT} {lv : Nat → Nat → Prop} (h : OKs σ lv) {x : Nat} (hx : Mk σ x) : ∃ v, v < 8 ∧ σ.2.1 8 x 2 = some v := h.2.2.2.1 x hx
theorem OKs.bh {σ : sT} {lv : Nat → Nat → Prop} (h : OKs σ lv) {x y : Nat} (hx : Mk σ x) (hy : σ.2.1 8 x 6 = some y) : Mk σ y := h.2.2.2.2.1 x y hx hy
theorem OKs.fi {σ : sT} {lv : Nat → Nat → Prop} (h : OKs σ lv) {r y : Nat} (hr : r < 24) (hy : σ.2.1 6 r 1 = some y) : Mk σ y := (h.2.2.2.2.2.1 r y hr).1 hy
theorem OKs.la {σ : sT} {lv : Nat → Nat → Prop} (h : OKs σ lv) {r y : Nat} (hr : r < 24) (hy : σ.2.1 6 r 2 = some y) : Mk σ y := (h.2.2.2.2.2.1 r y hr).2 hy
theorem OKs.ac {σ : sT} {lv : Nat → Nat → Prop} (h : OKs σ lv) {y : Nat} (hy : σ.2.1 0 0 4 = some y) : Mk σ y := (h.2.2.2.2.2.2.1 y).1 hy
theorem OKs.wa {σ : sT} {lv : Nat → Nat → Prop} (h : OKs σ lv) {y : Nat} (hy : σ.2.1 0 0 6 = some y) : Mk σ y := (h.2.2.2.2.2.2.1 y).2 hy
theorem OKs.inp {σ : sT} {lv : Nat → Nat → Prop} (h : OKs σ lv) {y : Nat} (hy : σ.2.1 0 0 9 = some y) : y < 16 := (h.2.2.2.2.2.2.2 y).1 hy
theorem OKs.al {σ : sT} {lv : Nat → Nat → Prop} (h : OKs σ lv) {y : Nat} (hy : σ.2.1 0 0 10 = some y) : y < 16 := (h.2.2.2.2.2.2.2 y).2 hy
theorem OKs.I {σ : sT} {lv : Nat → Nat → Prop} (h : OKs σ lv) {k i j : Nat} {x : Int32} : OKs (sI σ k i j x) lv := h
theorem OKs.L {σ : sT} {lv : Nat → Nat → Prop} (h : OKs σ lv) {k i j : Nat} {x : Int64} : OKs (sL σ k i j x) lv := h
theorem Mk_P {σ : sT} {k i j : Nat} {o : Option Nat} (hk : k ≠ 1) {x : Nat} : Mk (sP σ k i j o) x ↔ Mk σ x := by
  unfold Mk sP
  dsimp only
  rw [if_neg (fun q => hk q.1.symm)]
theorem OKs.P {σ : sT} {lv : Nat → Nat → Prop} (h : OKs σ lv) {k i j : Nat} {o : Option Nat} (hk : k ≠ 1) (h82 : ¬ (k = 8 ∧ j = 2)) (ho : ∀ y, o = some y → (¬ (k = 0 ∧ (j = 9 ∨ j = 10)) → Mk σ y) ∧ ((k = 0 ∧ (j = 9 ∨ j = 10)) → y < 16)) : OKs (sP σ k i j o) lv := by
  obtain ⟨h1, h2, h3, h4, h5, h6, h7, h8⟩ := h
  have hm : ∀ x, Mk (sP σ k i j o) x ↔ Mk σ x := fun x => Mk_P hk
  have key : ∀ a b c y, (sP σ k i j o).2.1 a b c = some y → (a = k ∧ c = j ∧ o = some y) ∨ σ.2.1 a b c = some y := by
    intro a b c y hy
    simp only [sP] at hy
    by_cases hq : a = k ∧ b = i ∧ c = j
    · rw [if_pos hq] at hy; exact Or.inl ⟨hq.1, hq.2.2, hy⟩
    · rw [if_neg hq] at hy; exact Or.inr hy
  refine ⟨h1, fun x hx => h2 x ((hm x).mp hx), fun x y hx hy => ?_, fun x hx => ?_, fun x y hx hy => ?_, fun r y hr => ⟨fun hy => ?_, fun hy => ?_⟩, fun y => ⟨fun hy => ?_, fun hy => ?_⟩, fun y => ⟨fun hy => ?_, fun hy => ?_⟩⟩
  · rcases key _ _ _ _ hy with q | q
    · exact absurd q.1.symm hk
    · exact h3 x y hx q
  · obtain ⟨v, hv, e⟩ := h4 x ((hm x).mp hx)
    refine ⟨v, hv, ?_⟩
    simp only [sP]
    rw [if_neg (fun q => h82 ⟨q.1.symm, q.2.2.symm⟩)]
    exact e
  · rcases key _ _ _ _ hy with ⟨rfl, rfl, q⟩ | q
    · exact (hm y).mpr ((ho y q).1 (by decide))
    · exact (hm y).mpr (h5 x y ((hm x).mp hx) q)
  · rcases key _ _ _ _ hy with ⟨rfl, rfl, q⟩ | q
    · exact (hm y).mpr ((ho y q).1 (by decide))
    · exact (hm y).mpr ((h6 r y hr).1 q)
  · rcases key _ _ _ _ hy with ⟨rfl, rfl, q⟩ | q
    · exact (hm y).mpr ((ho y q).1 (by decide))
    · exact (hm y).mpr ((h6 r y hr).2 q)
  · rcases key _ _ _ _ hy with ⟨rfl, rfl, q⟩ | q
    · exact (hm y).mpr ((ho y q).1 (by decide))
    · exact (hm y).mpr ((h7 y).1 q)
  · rcases key _ _ _ _ hy with ⟨rfl, rfl, q⟩ | q
    · exact (hm y).mpr ((ho y q).1 (by decide))
    · exact (hm y).mpr ((h7 y).2 q)
  · rcases key _ _ _ _ hy with ⟨rfl, rfl, q⟩ | q
    · exact (ho y q).2 (by decide)
    · exact (h8 y).1 q
  · rcases key _ _ _ _ hy with ⟨rfl, rfl, q⟩ | q
    · exact (ho y q).2 (by decide)
    · exact (h8 y).2 q
end
section
/-! WHAT THE CLASS DOES, as functions on its store -/
def cf_pres (σ : sT) : Option Nat := if σ.1 0 0 5 = 0 then σ.2.1 0 0 4 else σ.2.1 0 0 6
def cf_want (σ : sT) (o : Option Nat) : sT := sP (sI σ 0 0 5 1) 0 0 6 o
def cf_app (σ : sT) (r x : Nat) : sT :=
  let σ1 := sI σ 8 x 5 (rno r)
  let σ2 := match σ.2.1 6 r 2 with
    | none => sP σ1 6 r 1 (some x)
    | some q => sP σ1 8 q 6 (some x)
  sP σ2 6 r 2 (some x)
def cf_take (σ : sT) (r : Nat) : Option Nat × sT := match σ.2.1 6 r 1 with
  | none => (none, σ)
  | some x =>
    let σ1 := sP σ 6 r 1 (σ.2.1 8 x 6)
    let σ2 := match σ.2.1 8 x 6 with
      | none => sP σ1 6 r 2 none
      | some _ => σ1
    (some x, sI (sP σ2 8 x 6 none) 8 x 5 0)
def lev (σ : sT) (x : Nat) : Nat := (σ.2.1 8 x 2).getD 0
def cf_wake (σ : sT) (x : Nat) : sT := match cf_pres σ with
  | none => cf_want σ (some x)
  | some q => if σ.1 8 q 1 < σ.1 8 x 1 then cf_want (cf_app σ (lev σ q) q) (some x) else cf_app σ (lev σ x) x
def cf_first : Nat → sT → Option Nat × sT
  | 0, σ => (none, σ)
  | n + 1, σ => match cf_take σ n with
    | (none, σ1) => cf_first n σ1
    | (some x, σ1) => (some x, σ1)
def cf_aside (σ : sT) : sT := cf_want (cf_first 8 σ).2 (cf_first 8 σ).1
def cf_sig (σ : sT) (s : Nat) : sT := match (cf_take σ (8 + s)).1 with
  | none => sI (cf_take σ (8 + s)).2 7 s 2 ((cf_take σ (8 + s)).2.1 7 s 2 + 1)
  | some x => cf_wake (cf_take σ (8 + s)).2 x
def cf_wait (σ : sT) (s : Nat) : sT := match cf_pres σ with
  | none => σ
  | some q => if σ.1 7 s 2 ≤ 0 then cf_aside (cf_app σ (8 + s) q) else sI σ 7 s 2 (σ.1 7 s 2 - 1)
def cf_give (σ : sT) : sT := match cf_pres σ with
  | none => σ
  | some q => match σ.2.1 6 (lev σ q) 1 with
    | none => σ
    | some _ => cf_aside (cf_app σ (lev σ q) q)
def cf_alarm (σ : sT) (s : Nat) (t : Int32) : sT := sI (sP σ 0 0 10 (some s)) 0 0 11 t
def cf_many (s : Nat) : Nat → sT → sT
  | 0, σ => σ
  | n + 1, σ => cf_many s n (cf_sig σ s)
def cf_words (σ : sT) : sT :=
  let σ1 := sI σ 4 0 3 0
  match σ.2.1 0 0 9 with
  | none => σ1
  | some s => cf_many s (σ.1 4 0 3).toNatClampNeg σ1
def cf_due (σ : sT) : sT := match σ.2.1 0 0 10 with
  | none => σ
  | some s => if σ.1 0 0 11 ≤ σ.1 0 0 7 then cf_sig (sP σ 0 0 10 none) s else σ
def cf_settle (σ : sT) : sT :=
  let σ1 := cf_due (cf_words σ)
  if σ1.1 0 0 5 = 0 then σ1 else sP (sI (sP σ1 0 0 4 (σ1.2.1 0 0 6)) 0 0 5 0) 0 0 6 none
def cf_behind (σ : sT) : sT :=
  let σ1 := cf_settle σ
  match σ1.2.1 0 0 4, σ1.2.1 0 0 10 with
  | none, some _ => cf_settle (sI σ1 0 0 7 (σ1.1 0 0 11))
  | _, _ => σ1
abbrev isS (x : Int32) : Prop := 0 ≤ x ∧ x < 16
def fmod (x y : Int32) : Int32 := if 0 ≤ x ^^^ y then x - x / y * y else if x - x / y * y = 0 then x - x / y * y else (x - x / y * y) + y
def cf_place (σ : sT) (i : Int32) : Int32 := fmod (σ.1 4 0 1 + i) 64
def cf_drop (σ : sT) : sT := if σ.1 4 0 2 ≤ 0 then σ else sI (sI σ 4 0 1 (cf_place σ 1)) 4 0 2 (σ.1 4 0 2 - 1)
def cf_add (σ : sT) (w : Int32) : Int32 × sT := if ¬ σ.1 4 0 2 < 64 then (-1, σ) else
  (σ.1 4 0 2 + 1, sI (sI (sI σ 5 0 (cf_place σ (σ.1 4 0 2)).toNatClampNeg w) 4 0 2 (σ.1 4 0 2 + 1)) 4 0 3 (σ.1 4 0 3 + 1))
def cf_wordAt (σ : sT) (i : Int32) : Int32 := if 0 ≤ i ∧ i < σ.1 4 0 2 then σ.1 5 0 (cf_place σ i).toNatClampNeg else -1
def cf_num (o : Option Nat) : Int32 := match o with
  | none => -1
  | some x => nI x
def cf_pn (σ : sT) (p : Int32) : Option Nat := if 0 ≤ p ∧ p < 32 then σ.2.1 1 0 p.toNatClampNeg else none
def cf_next (σ : sT) (x : Nat) : Int32 := σ.1 9 x (fmod (σ.1 8 x 4) 8).toNatClampNeg
def cf_act (σ : sT) (a : Int32) : sT := if isS (a - 16) then cf_wait σ (a - 16).toNatClampNeg
  else if isS (a - 32) then cf_sig σ (a - 32).toNatClampNeg
  else if a = 48 then cf_give σ
  else if a = 49 then cf_drop σ
  else if a = 50 then sP σ 0 0 9 none
  else if isS (a - 64) then cf_alarm σ (a - 64).toNatClampNeg (σ.1 0 0 7 + 3)
  else if isS (a - 80) then sP σ 0 0 9 (some (a - 80).toNatClampNeg)
  else σ
def cf_code (σ : sT) (x : Nat) : sT :=
  let σ1 := cf_act (sI σ 8 x 4 (σ.1 8 x 4 + 1)) (cf_next σ x)
  let σ2 := sL σ1 0 0 8 (σ1.2.2 0 0 8 + 1)
  if σ2.2.2 0 0 8 - σ2.2.2 0 0 8 / 64 * 64 = 0 then sI σ2 0 0 7 (σ2.1 0 0 7 + 1) else σ2
def cf_loop : Nat → sT → Nat × sT
  | 0, σ => (0, σ)
  | n + 1, σ => match σ.2.1 0 0 4 with
    | none => (0, σ)
    | some x => ((cf_loop n (cf_behind (cf_code σ x))).1 + 1, (cf_loop n (cf_behind (cf_code σ x))).2)
def cf_walk (σ : sT) : Nat → Option Nat → Option Nat
  | 0, o => o
  | _ + 1, none => none
  | n + 1, some x => cf_walk σ n (σ.2.1 8 x 6)
end
section
/-- a contract out of a walk from its entry -/
theorem jC.ofF {l : Launch} {y : MethodName} {ws ws' : List Cond} {rm : Room} {D : va_G} {cl : List vw_C} {Y : Nat → Nat ⊕ (FieldType × Nat)} {E : Nat → ClassId} {ad : Nat → Nat → Nat} {lv lv' : Nat → Nat → Prop} {sz sz' mc ms : Nat} {V V' : jVT} {vs : List Value} {r : Option Value} {cc : ByteArray} {maxL : Nat} {ret : Option FieldType} (own : String)
    (hy : plainFor y = true) (hw : ws = Cond.code y cc maxL ret :: ws') (hown : y.cls = own) (hlen : vs.length ≤ maxL) (hcat : ∀ v ∈ vs, v.category = 1)
    (body : ∀ (p : Program) (e : Env) (s : State) (m : MethodId) (below : List Frame) (meth : Method) (c : Code), CallFix p m c cc maxL s vs.toArray ws' own → jK D cl Y E s → meth.sig.returnType = ret → meth.locks = false → meth.name = y.name → s.heap.size = sz → (∀ q, s.heap.size ≤ q → jA ad lv sz q) → J p l e (headSpec ws rm).room s m vs.toArray below meth c (MQ below (jQ D cl Y E ad lv sz r lv' V' sz') vs.toArray s mc ms (jA ad lv sz)) D cl Y E ad (jA ad lv sz) s.heap maxL 0 0 sz lv V 0 (jargs vs maxL) []) : jC l y ws rm D cl Y E ad lv sz V vs r lv' V' sz' mc ms := by
  unfold jC
  refine va_MetF (cc := cc) (maxL := maxL) (ret := ret) hy hw ?_
  intro p e s m args below meth c s₁ B hml hv
  obtain ⟨rfl, hsz, hW, hK⟩ := hv
  have hts : ∀ w ∈ ws', w.before vs.toArray s = true := fun w h => atoms_spec (ws := ws) B.pre w (by rw [hw]; exact List.mem_cons_of_mem _ h)
  have hown' : s.vm.findClass own = some m.cls := by rw [← hown]; exact findClass_of_methodNamed B.named
  rw [lg_entry_eq]
  exact body p e s m below meth c ⟨B.exec, B.bytes, hml, hown', hts⟩ hK B.returns B.notSynchronized (name_of_methodNamed B.named B.method).1 hsz (fun q hq => Or.inr (by rw [← hsz]; exact hq)) s.heap [] _ hsz (hW.wide (fun k i hl => Or.inl ⟨k, i, hl, rfl⟩)) va_S.rf (jh_entry vs hlen hcat)
theorem vin {x N : Int32} {n : Nat} (h0 : ¬ x < 0) (h1 : ¬ N ≤ x) (hN : N.toInt = n) : vp_in x n := by
  rw [vp_in_iff]
  rw [Int32.lt_iff_toInt_lt] at h0
  rw [Int32.le_iff_toInt_le] at h1
  rw [show (0 : Int32).toInt = 0 from rfl] at h0
  omega
theorem i32_lt {x y : Int32} : x < y ↔ x.toInt < y.toInt := Int32.lt_iff_toInt_lt
theorem i32_le {x y : Int32} : x ≤ y ↔ x.toInt ≤ y.toInt := Int32.le_iff_toInt_le
theorem i32_0 : (0 : Int32).toInt = 0 := rfl
theorem i32_16 : (16 : Int32).toInt = 16 := rfl
theorem i32_32 : (32 : Int32).toInt = 32 := rfl
set_option maxRecDepth 100000 in
set_option maxHeartbeats 4000000 in
theorem k_isSem {l : Launch} {D : va_G} {E : Nat → ClassId} {ad : Nat → Nat → Nat} {lv : Nat → Nat → Prop} {σ τ : sT} {a : Int32} : jM l y_X_isSemaphore c_X_isSemaphore 1 (some .boolean) 0 D E ad lv (jv ad σ τ) [.int (a)] (some (.int (if isS a then 1 else 0))) (jv ad σ τ) := by
  intro sz
  refine jC.of "InputRoom" (by decide +kernel) rfl rfl (Nat.le_of_ble_eq_true rfl) (by intro v hv; simp only [List.mem_cons, List.not_mem_nil, or_false] at hv; rcases hv with rfl <;> first | rfl | exact jrf_cat _) ?_
  intro p e s m below meth c C hK hret hlk hnm hsz hAz
  refine j_iload_n C d_X_isSemaphore_0 rfl rfl ?_
  refine j_if_lt C 14 d_X_isSemaphore_1 rfl (fun g1 => ?_) (fun g1 => ?_)
  ·
    refine j_iconst (v := 0) C d_X_isSemaphore_14 (by decide) ?_
    refine j_zret C hret hlk (by first | rfl | decide) d_X_isSemaphore_15 ?_ ?_ rfl rfl
    · rw [if_neg (by simp only [isS, i32_lt, i32_le, i32_0, i32_16] at *; omega)]
    · rfl
  ·
    refine j_iload_n C d_X_isSemaphore_4 rfl rfl ?_
    refine j_bipush (v := 16) C d_X_isSemaphore_5 (by decide) ?_
    refine j_icmp_ge C 14 d_X_isSemaphore_7 rfl (fun g2 => ?_) (fun g2 => ?_)
    ·
      refine j_iconst (v := 0) C d_X_isSemaphore_14 (by decide) ?_
      refine j_zret C hret hlk (by first | rfl | decide) d_X_isSemaphore_15 ?_ ?_ rfl rfl
      · rw [if_neg (by simp only [isS, i32_lt, i32_le, i32_0, i32_16] at *; omega)]
      · rfl
    ·
      refine j_iconst (v := 1) C d_X_isSemaphore_10 (by decide) ?_
      refine j_goto C 15 d_X_isSemaphore_11 rfl ?_
      refine j_zret C hret hlk (by first | rfl | decide) d_X_isSemaphore_15 ?_ ?_ rfl rfl
      · rw [if_pos (by simp only [isS, i32_lt, i32_le, i32_0, i32_16] at *; omega)]
      · rfl
set_option maxRecDepth 100000 in
set_option maxHeartbeats 4000000 in
theorem k_numberOf {l : Launch} {D : va_G} {E : Nat → ClassId} {ad : Nat → Nat → Nat} {lv : Nat → Nat → Prop} {σ τ : sT} {o : Option Nat} (ho : ∀ x, o = some x → lv 8 x) : jM l y_X_numberOf c_X_numberOf 1 (some .int) 0 D E ad lv (jv ad σ τ) [va_rf (Option.map (ad 8) (o))] (some (.int (cf_num o))) (jv ad σ τ) := by
  intro sz
  refine jC.of "InputRoom" (by decide +kernel) rfl rfl (Nat.le_of_ble_eq_true rfl) (by intro v hv; simp only [List.mem_cons, List.not_mem_nil, or_false] at hv; rcases hv with rfl <;> first | rfl | exact jrf_cat _) ?_
  intro p e s m below meth c C hK hret hlk hnm hsz hAz
  refine j_aload_nQ C d_X_numberOf_0 rfl rfl ?_
  refine jnonnull (o := o) (t := 8) C 8 d_X_numberOf_1 rfl (fun x2 g1 => ?_) (fun g1 => ?_)
  ·
    subst g1
    have hlx2 : lv 8 x2 := ho x2 rfl
    refine j_aload_n C d_X_numberOf_8 rfl rfl ?_
    refine sgC C hK 8 x2 0 d_X_numberOf_9 in_P rfl rfl (by decide) t_153 rfl rfl rfl (by assumption) ?_
    refine j_iret C hret hlk d_X_numberOf_12 ?_ ?_ rfl rfl
    · rfl
    · rfl
  ·
    subst g1
    refine j_iconst (v := -1) C d_X_numberOf_4 (by decide) ?_
    refine j_goto C 12 d_X_numberOf_5 rfl ?_
    refine j_iret C hret hlk d_X_numberOf_12 ?_ ?_ rfl rfl
    · rfl
    · rfl
set_option maxRecDepth 100000 in
set_option maxHeartbeats 4000000 in
theorem k_pn {l : Launch} {D : va_G} {E : Nat → ClassId} {ad : Nat → Nat → Nat} {lv : Nat → Nat → Prop} {σ τ : sT} (h : OKs σ lv) {a : Int32} : jM l y_X_processNumbered c_X_processNumbered 2 (some (.object "InputRoom$Proc")) 0 D E ad lv (jv ad σ τ) [.ref (ad 0 0), .int (a)] (some (va_rf (Option.map (ad 8) (cf_pn σ a)))) (jv ad σ τ) := by
  intro sz
  refine jC.of "InputRoom" (by decide +kernel) rfl rfl (Nat.le_of_ble_eq_true rfl) (by intro v hv; simp only [List.mem_cons, List.not_mem_nil, or_false] at hv; rcases hv with rfl | rfl <;> first | rfl | exact jrf_cat _) ?_
  intro p e s m below meth c C hK hret hlk hnm hsz hAz
  have hb0 : lv 0 0 := h.k (by decide)
  have hb1 : lv 1 0 := h.k (by decide)
  have hb2 : lv 2 0 := h.k (by decide)
  have hb3 : lv 3 0 := h.k (by decide)
  have hb4 : lv 4 0 := h.k (by decide)
  have hb5 : lv 5 0 := h.k (by decide)
  refine j_iload_n C d_X_processNumbered_0 rfl rfl ?_
  refine j_if_lt C 19 d_X_processNumbered_1 rfl (fun g1 => ?_) (fun g1 => ?_)
  ·
    refine j_null C d_X_processNumbered_19 ?_
    refine j_aret (o := none) C hret hlk d_X_processNumbered_20 ?_ ?_ rfl rfl
    · rw [cf_pn, if_neg (by simp only [i32_lt, i32_le, i32_0, i32_32] at *; omega)]; rfl
    · rfl
  ·
    refine j_iload_n C d_X_processNumbered_4 rfl rfl ?_
    refine j_bipush (v := 32) C d_X_processNumbered_5 (by decide) ?_
    refine j_icmp_ge C 19 d_X_processNumbered_7 rfl (fun g2 => ?_) (fun g2 => ?_)
    ·
      refine j_null C d_X_processNumbered_19 ?_
      refine j_aret (o := none) C hret hlk d_X_processNumbered_20 ?_ ?_ rfl rfl
      · rw [cf_pn, if_neg (by simp only [i32_lt, i32_le, i32_0, i32_32] at *; omega)]; rfl
      · rfl
    ·
      refine j_aload_n C d_X_processNumbered_10 rfl rfl ?_
      refine sgC C hK 0 0 0 d_X_processNumbered_11 in_X rfl rfl (by decide) t_106 rfl rfl rfl (by assumption) ?_
      refine j_iload_n C d_X_processNumbered_14 rfl rfl ?_
      refine saR (t := 8) C hK 1 0 d_X_processNumbered_15 rfl (vin g1 g2 rfl) rfl rfl (by assumption) ?_
      refine j_goto C 20 d_X_processNumbered_16 rfl ?_
      refine j_aret (o := Option.map (ad 8) (σ.2.1 1 0 (a).toNatClampNeg)) C hret hlk d_X_processNumbered_20 ?_ ?_ rfl rfl
      · rw [cf_pn, if_pos (by simp only [i32_lt, i32_le, i32_0, i32_32] at *; omega)]
      · rfl
set_option maxRecDepth 100000 in
set_option maxHeartbeats 4000000 in
theorem k_pres {l : Launch} {D : va_G} {E : Nat → ClassId} {ad : Nat → Nat → Nat} {lv : Nat → Nat → Prop} {σ τ : sT} (h : OKs σ lv) : jM l y_X_presentOne c_X_presentOne 1 (some (.object "InputRoom$Proc")) 0 D E ad lv (jv ad σ τ) [.ref (ad 0 0)] (some (va_rf (Option.map (ad 8) (cf_pres σ)))) (jv ad σ τ) := by
  intro sz
  refine jC.of "InputRoom" (by decide +kernel) rfl rfl (Nat.le_of_ble_eq_true rfl) (by intro v hv; simp only [List.mem_cons, List.not_mem_nil, or_false] at hv; rcases hv with rfl <;> first | rfl | exact jrf_cat _) ?_
  intro p e s m below meth c C hK hret hlk hnm hsz hAz
  have hb0 : lv 0 0 := h.k (by decide)
  have hb1 : lv 1 0 := h.k (by decide)
  have hb2 : lv 2 0 := h.k (by decide)
  have hb3 : lv 3 0 := h.k (by decide)
  have hb4 : lv 4 0 := h.k (by decide)
  have hb5 : lv 5 0 := h.k (by decide)
  refine j_aload_n C d_X_presentOne_0 rfl rfl ?_
  refine sgI C hK 0 0 5 d_X_presentOne_1 in_X rfl rfl (by decide) t_111 rfl rfl rfl (by assumption) ?_
  refine j_if_eq C 14 d_X_presentOne_4 rfl (fun g1 => ?_) (fun g1 => ?_)
  ·
    refine j_aload_n C d_X_presentOne_14 rfl rfl ?_
    refine sgR (t := 8) C hK 0 0 4 d_X_presentOne_15 in_X rfl rfl (by decide) t_110 rfl rfl rfl (by assumption) ?_
    refine j_aret (o := Option.map (ad 8) (σ.2.1 0 0 4)) C hret hlk d_X_presentOne_18 ?_ ?_ rfl rfl
    · simp only [cf_pres, g1, if_true, if_false]
    · rfl
  ·
    refine j_aload_n C d_X_presentOne_7 rfl rfl ?_
    refine sgR (t := 8) C hK 0 0 6 d_X_presentOne_8 in_X rfl rfl (by decide) t_112 rfl rfl rfl (by assumption) ?_
    refine j_goto C 18 d_X_presentOne_11 rfl ?_
    refine j_aret (o := Option.map (ad 8) (σ.2.1 0 0 6)) C hret hlk d_X_presentOne_18 ?_ ?_ rfl rfl
    · simp only [cf_pres, g1, if_true, if_false]
    · rfl
set_option maxRecDepth 100000 in
set_option maxHeartbeats 4000000 in
theorem k_want {l : Launch} {D : va_G} {E : Nat → ClassId} {ad : Nat → Nat → Nat} {lv : Nat → Nat → Prop} {σ τ : sT} (h : OKs σ lv) {o : Option Nat} : jM l y_X_wantChangeTo c_X_wantChangeTo 2 (none) 0 D E ad lv (jv ad σ τ) [.ref (ad 0 0), va_rf (Option.map (ad 8) (o))] none (jv ad (cf_want σ o) τ) := by
  intro sz
  refine jC.of "InputRoom" (by decide +kernel) rfl rfl (Nat.le_of_ble_eq_true rfl) (by intro v hv; simp only [List.mem_cons, List.not_mem_nil, or_false] at hv; rcases hv with rfl | rfl <;> first | rfl | exact jrf_cat _) ?_
  intro p e s m below meth c C hK hret hlk hnm hsz hAz
  have hb0 : lv 0 0 := h.k (by decide)
  have hb1 : lv 1 0 := h.k (by decide)
  have hb2 : lv 2 0 := h.k (by decide)
  have hb3 : lv 3 0 := h.k (by decide)
  have hb4 : lv 4 0 := h.k (by decide)
  have hb5 : lv 5 0 := h.k (by decide)
  refine j_aload_n C d_X_wantChangeTo_0 rfl rfl ?_
  refine j_iconst (v := 1) C d_X_wantChangeTo_1 (by decide) ?_
  refine spI C hK 0 0 5 ty_X tk_X nm_X d_X_wantChangeTo_2 in_X rfl rfl (by decide) t_111 rfl rfl rfl rfl (1) (by first | rfl | decide) (by first | rfl | decide) (by assumption) ?_
  refine j_aload_n C d_X_wantChangeTo_5 rfl rfl ?_
  refine j_aload_nQ C d_X_wantChangeTo_6 rfl rfl ?_
  refine spP (t := 8) C hK 0 0 6 ty_X tk_X nm_X d_X_wantChangeTo_7 in_X rfl rfl (by decide) t_112 rfl rfl rfl rfl (o) (by cases (o) <;> rfl) (by cases (o) <;> rfl) (by assumption) ?_
  refine j_vret C hret hlk d_X_wantChangeTo_10 rfl ?_ rfl rfl
  rfl
set_option maxRecDepth 100000 in
set_option maxHeartbeats 4000000 in
theorem k_isEmpty {l : Launch} {D : va_G} {E : Nat → ClassId} {ad : Nat → Nat → Nat} {lv : Nat → Nat → Prop} {σ τ : sT} (h : OKs σ lv) {r : Nat} (hr : r < 24) : jM l y_R_isEmpty c_R_isEmpty 1 (some .boolean) 0 D E ad lv (jv ad σ τ) [.ref (ad 6 r)] (some (.int (match σ.2.1 6 r 1 with | none => 1 | some _ => 0))) (jv ad σ τ) := by
  intro sz
  refine jC.of "InputRoom$Row" (by decide +kernel) rfl rfl (Nat.le_of_ble_eq_true rfl) (by intro v hv; simp only [List.mem_cons, List.not_mem_nil, or_false] at hv; rcases hv with rfl <;> first | rfl | exact jrf_cat _) ?_
  intro p e s m below meth c C hK hret hlk hnm hsz hAz
  have hlr : lv 6 r := h.r hr
  refine j_aload_n C d_R_isEmpty_0 rfl rfl ?_
  refine sgR (t := 8) C hK 6 r 1 d_R_isEmpty_1 in_R rfl rfl (by decide) t_78 rfl rfl rfl (by assumption) ?_
  refine jnonnull (o := σ.2.1 6 r 1) (t := 8) C 11 d_R_isEmpty_4 rfl (fun x2 g1 => ?_) (fun g1 => ?_)
  ·
    try rw [g1]
    have hmx2 : Mk σ x2 := h.fi (by omega) g1
    have hlx2 : lv 8 x2 := h.p hmx2
    have hax2 : lv 9 x2 := h.a hmx2
    refine j_iconst (v := 0) C d_R_isEmpty_11 (by decide) ?_
    refine j_zret C hret hlk (by first | rfl | decide) d_R_isEmpty_12 ?_ ?_ rfl rfl
    · rfl
    · rfl
  ·
    try rw [g1]
    refine j_iconst (v := 1) C d_R_isEmpty_7 (by decide) ?_
    refine j_goto C 12 d_R_isEmpty_8 rfl ?_
    refine j_zret C hret hlk (by first | rfl | decide) d_R_isEmpty_12 ?_ ?_ rfl rfl
    · rfl
    · rfl
set_option maxRecDepth 100000 in
set_option maxHeartbeats 4000000 in
theorem k_app {l : Launch} {D : va_G} {E : Nat → ClassId} {ad : Nat → Nat → Nat} {lv : Nat → Nat → Prop} {σ τ : sT} (h : OKs σ lv) {r x : Nat} (hr : r < 24) (hx : Mk σ x) : jM l y_R_append c_R_append 2 (none) 0 D E ad lv (jv ad σ τ) [.ref (ad 6 r), .ref (ad 8 x)] none (jv ad (cf_app σ r x) τ) := by
  intro sz
  refine jC.of "InputRoom$Row" (by decide +kernel) rfl rfl (Nat.le_of_ble_eq_true rfl) (by intro v hv; simp only [List.mem_cons, List.not_mem_nil, or_false] at hv; rcases hv with rfl | rfl <;> first | rfl | exact jrf_cat _) ?_
  intro p e s m below meth c C hK hret hlk hnm hsz hAz
  have hlr : lv 6 r := h.r hr
  have hlx : lv 8 x := h.p hx
  refine j_aload_n C d_R_append_0 rfl rfl ?_
  refine j_aload_n C d_R_append_1 rfl rfl ?_
  refine sgC C hK 6 r 0 d_R_append_2 in_R rfl rfl (by decide) t_77 rfl rfl rfl (by assumption) ?_
  refine spI C hK 8 x 5 ty_P tk_P nm_P d_R_append_5 in_P rfl rfl (by decide) t_163 rfl rfl rfl rfl (rno r) rfl rfl (by assumption) ?_
  refine j_aload_n C d_R_append_8 rfl rfl ?_
  refine sgR (t := 8) C hK 6 r 2 d_R_append_9 in_R rfl rfl (by decide) t_79 rfl rfl rfl (by assumption) ?_
  refine jnonnull (o := (sI σ 8 x 5 (rno r)).2.1 6 r 2) (t := 8) C 23 d_R_append_12 rfl (fun x2 g1 => ?_) (fun g1 => ?_)
  ·
    try rw [g1]
    have hmx2 : Mk (sI σ 8 x 5 (rno r)) x2 := h.la hr g1
    have hlx2 : lv 8 x2 := h.p hmx2
    have hax2 : lv 9 x2 := h.a hmx2
    refine j_aload_n C d_R_append_23 rfl rfl ?_
    refine sgR (t := 8) C hK 6 r 2 d_R_append_24 in_R rfl rfl (by decide) t_79 rfl rfl rfl (by assumption) ?_
    rw [g1]
    refine j_aload_n C d_R_append_27 rfl rfl ?_
    refine spP (t := 8) C hK 8 x2 6 ty_P tk_P nm_P d_R_append_28 in_P rfl rfl (by decide) t_165 rfl rfl rfl rfl (some x) rfl rfl (by assumption) ?_
    refine j_aload_n C d_R_append_31 rfl rfl ?_
    refine j_aload_n C d_R_append_32 rfl rfl ?_
    refine spP (t := 8) C hK 6 r 2 ty_R tk_R nm_R d_R_append_33 in_R rfl rfl (by decide) t_79 rfl rfl rfl rfl (some x) rfl rfl (by assumption) ?_
    refine j_vret C hret hlk d_R_append_36 rfl ?_ rfl rfl
    unfold cf_app
    have g9 : σ.2.1 6 r 2 = some x2 := g1
    simp only [g9]
  ·
    try rw [g1]
    refine j_aload_n C d_R_append_15 rfl rfl ?_
    refine j_aload_n C d_R_append_16 rfl rfl ?_
    refine spP (t := 8) C hK 6 r 1 ty_R tk_R nm_R d_R_append_17 in_R rfl rfl (by decide) t_78 rfl rfl rfl rfl (some x) rfl rfl (by assumption) ?_
    refine j_goto C 31 d_R_append_20 rfl ?_
    refine j_aload_n C d_R_append_31 rfl rfl ?_
    refine j_aload_n C d_R_append_32 rfl rfl ?_
    refine spP (t := 8) C hK 6 r 2 ty_R tk_R nm_R d_R_append_33 in_R rfl rfl (by decide) t_79 rfl rfl rfl rfl (some x) rfl rfl (by assumption) ?_
    refine j_vret C hret hlk d_R_append_36 rfl ?_ rfl rfl
    unfold cf_app
    have g9 : σ.2.1 6 r 2 = none := g1
    simp only [g9]
set_option maxRecDepth 100000 in
set_option maxHeartbeats 4000000 in
theorem k_take {l : Launch} {D : va_G} {E : Nat → ClassId} {ad : Nat → Nat → Nat} {lv : Nat → Nat → Prop} {σ τ : sT} (h : OKs σ lv) {r : Nat} (hr : r < 24) : jM l y_R_takeFirst c_R_takeFirst 2 (some (.object "InputRoom$Proc")) 0 D E ad lv (jv ad σ τ) [.ref (ad 6 r)] (some (va_rf (Option.map (ad 8) (cf_take σ r).1))) (jv ad (cf_take σ r).2 τ) := by
  intro sz
  refine jC.of "InputRoom$Row" (by decide +kernel) rfl rfl (Nat.le_of_ble_eq_true rfl) (by intro v hv; simp only [List.mem_cons, List.not_mem_nil, or_false] at hv; rcases hv with rfl <;> first | rfl | exact jrf_cat _) ?_
  intro p e s m below meth c C hK hret hlk hnm hsz hAz
  have hlr : lv 6 r := h.r hr
  refine j_aload_n C d_R_takeFirst_0 rfl rfl ?_
  refine sgR (t := 8) C hK 6 r 1 d_R_takeFirst_1 in_R rfl rfl (by decide) t_78 rfl rfl rfl (by assumption) ?_
  refine j_astore_nQ C d_R_takeFirst_4 rfl (by decide) ?_
  refine j_aload_nQ C d_R_takeFirst_5 rfl rfl ?_
  refine jnonnull (o := σ.2.1 6 r 1) (t := 8) C 11 d_R_takeFirst_6 rfl (fun x2 g1 => ?_) (fun g1 => ?_)
  ·
    try rw [g1]
    have hmx2 : Mk σ x2 := h.fi hr g1
    have hlx2 : lv 8 x2 := h.p hmx2
    have hax2 : lv 9 x2 := h.a hmx2
    refine j_aload_n C d_R_takeFirst_11 rfl rfl ?_
    refine j_aload_n C d_R_takeFirst_12 rfl rfl ?_
    refine sgR (t := 8) C hK 8 x2 6 d_R_takeFirst_13 in_P rfl rfl (by decide) t_165 rfl rfl rfl (by assumption) ?_
    refine spP (t := 8) C hK 6 r 1 ty_R tk_R nm_R d_R_takeFirst_16 in_R rfl rfl (by decide) t_78 rfl rfl rfl rfl (σ.2.1 8 x2 6) (by cases (σ.2.1 8 x2 6) <;> rfl) (by cases (σ.2.1 8 x2 6) <;> rfl) (by assumption) ?_
    refine j_aload_n C d_R_takeFirst_19 rfl rfl ?_
    refine sgR (t := 8) C hK 6 r 1 d_R_takeFirst_20 in_R rfl rfl (by decide) t_78 rfl rfl rfl (by assumption) ?_
    refine jnonnull (o := (sP σ 6 r 1 (σ.2.1 8 x2 6)).2.1 6 r 1) (t := 8) C 31 d_R_takeFirst_23 rfl (fun x4 g3 => ?_) (fun g3 => ?_)
    ·
      try rw [g3]
      refine j_aload_n C d_R_takeFirst_31 rfl rfl ?_
      refine j_null C d_R_takeFirst_32 ?_
      refine spP (t := 8) C hK 8 x2 6 ty_P tk_P nm_P d_R_takeFirst_33 in_P rfl rfl (by decide) t_165 rfl rfl rfl rfl (none) rfl rfl (by assumption) ?_
      refine j_aload_n C d_R_takeFirst_36 rfl rfl ?_
      refine j_iconst (v := 0) C d_R_takeFirst_37 (by decide) ?_
      refine spI C hK 8 x2 5 ty_P tk_P nm_P d_R_takeFirst_38 in_P rfl rfl (by decide) t_163 rfl rfl rfl rfl (0) rfl rfl (by assumption) ?_
      refine j_aload_n C d_R_takeFirst_41 rfl rfl ?_
      refine j_aret (o := some (ad 8 x2)) C hret hlk d_R_takeFirst_42 ?_ ?_ rfl rfl
      · simp only [cf_take, g1]; rfl
      · have g9 : σ.2.1 8 x2 6 = some x4 := (by simpa [sP] using g3)
        simp only [cf_take, g1, g9]
    ·
      try rw [g3]
      refine j_aload_n C d_R_takeFirst_26 rfl rfl ?_
      refine j_null C d_R_takeFirst_27 ?_
      refine spP (t := 8) C hK 6 r 2 ty_R tk_R nm_R d_R_takeFirst_28 in_R rfl rfl (by decide) t_79 rfl rfl rfl rfl (none) rfl rfl (by assumption) ?_
      refine j_aload_n C d_R_takeFirst_31 rfl rfl ?_
      refine j_null C d_R_takeFirst_32 ?_
      refine spP (t := 8) C hK 8 x2 6 ty_P tk_P nm_P d_R_takeFirst_33 in_P rfl rfl (by decide) t_165 rfl rfl rfl rfl (none) rfl rfl (by assumption) ?_
      refine j_aload_n C d_R_takeFirst_36 rfl rfl ?_
      refine j_iconst (v := 0) C d_R_takeFirst_37 (by decide) ?_
      refine spI C hK 8 x2 5 ty_P tk_P nm_P d_R_takeFirst_38 in_P rfl rfl (by decide) t_163 rfl rfl rfl rfl (0) rfl rfl (by assumption) ?_
      refine j_aload_n C d_R_takeFirst_41 rfl rfl ?_
      refine j_aret (o := some (ad 8 x2)) C hret hlk d_R_takeFirst_42 ?_ ?_ rfl rfl
      · simp only [cf_take, g1]; rfl
      · have g9 : σ.2.1 8 x2 6 = none := (by simpa [sP] using g3)
        simp only [cf_take, g1, g9]
  ·
    try rw [g1]
    refine j_null C d_R_takeFirst_9 ?_
    refine j_aret (o := none) C hret hlk d_R_takeFirst_10 ?_ ?_ rfl rfl
    · simp only [cf_take, g1]; rfl
    · simp only [cf_take, g1]
set_option maxRecDepth 100000 in
set_option maxHeartbeats 4000000 in
theorem k_setAlarm {l : Launch} {D : va_G} {E : Nat → ClassId} {ad : Nat → Nat → Nat} {lv : Nat → Nat → Prop} {σ τ : sT} (h : OKs σ lv) {s0 : Nat} {t : Int32} : jM l y_X_setAlarm c_X_setAlarm 3 (none) 0 D E ad lv (jv ad σ τ) [.ref (ad 0 0), .ref (ad 7 s0), .int (t)] none (jv ad (cf_alarm σ s0 t) τ) := by
  intro sz
  refine jC.of "InputRoom" (by decide +kernel) rfl rfl (Nat.le_of_ble_eq_true rfl) (by intro v hv; simp only [List.mem_cons, List.not_mem_nil, or_false] at hv; rcases hv with rfl | rfl | rfl <;> first | rfl | exact jrf_cat _) ?_
  intro p e s m below meth c C hK hret hlk hnm hsz hAz
  have hb0 : lv 0 0 := h.k (by decide)
  have hb1 : lv 1 0 := h.k (by decide)
  have hb2 : lv 2 0 := h.k (by decide)
  have hb3 : lv 3 0 := h.k (by decide)
  have hb4 : lv 4 0 := h.k (by decide)
  have hb5 : lv 5 0 := h.k (by decide)
  refine j_aload_n C d_X_setAlarm_0 rfl rfl ?_
  refine j_aload_n C d_X_setAlarm_1 rfl rfl ?_
  refine spP (t := 7) C hK 0 0 10 ty_X tk_X nm_X d_X_setAlarm_2 in_X rfl rfl (by decide) t_116 rfl rfl rfl rfl (some s0) rfl rfl (by assumption) ?_
  refine j_aload_n C d_X_setAlarm_5 rfl rfl ?_
  refine j_iload_n C d_X_setAlarm_6 rfl rfl ?_
  refine spI C hK 0 0 11 ty_X tk_X nm_X d_X_setAlarm_7 in_X rfl rfl (by decide) t_117 rfl rfl rfl rfl (t) rfl rfl (by assumption) ?_
  refine j_vret C hret hlk d_X_setAlarm_10 rfl ?_ rfl rfl
  rfl
set_option maxRecDepth 100000 in
set_option maxHeartbeats 4000000 in
theorem k_takeUntold {l : Launch} {D : va_G} {E : Nat → ClassId} {ad : Nat → Nat → Nat} {lv : Nat → Nat → Prop} {σ τ : sT} (h : OKs σ lv) : jM l y_W_takeUntold c_W_takeUntold 2 (some .int) 0 D E ad lv (jv ad σ τ) [.ref (ad 4 0)] (some (.int (σ.1 4 0 3))) (jv ad (sI σ 4 0 3 0) τ) := by
  intro sz
  refine jC.of "InputRoom$Words" (by decide +kernel) rfl rfl (Nat.le_of_ble_eq_true rfl) (by intro v hv; simp only [List.mem_cons, List.not_mem_nil, or_false] at hv; rcases hv with rfl <;> first | rfl | exact jrf_cat _) ?_
  intro p e s m below meth c C hK hret hlk hnm hsz hAz
  have hb0 : lv 0 0 := h.k (by decide)
  have hb1 : lv 1 0 := h.k (by decide)
  have hb2 : lv 2 0 := h.k (by decide)
  have hb3 : lv 3 0 := h.k (by decide)
  have hb4 : lv 4 0 := h.k (by decide)
  have hb5 : lv 5 0 := h.k (by decide)
  refine j_aload_n C d_W_takeUntold_0 rfl rfl ?_
  refine sgI C hK 4 0 3 d_W_takeUntold_1 in_W rfl rfl (by decide) t_61 rfl rfl rfl (by assumption) ?_
  refine j_istore_n C d_W_takeUntold_4 rfl (by decide) ?_
  refine j_aload_n C d_W_takeUntold_5 rfl rfl ?_
  refine j_iconst (v := 0) C d_W_takeUntold_6 (by decide) ?_
  refine spI C hK 4 0 3 ty_W tk_W nm_W d_W_takeUntold_7 in_W rfl rfl (by decide) t_61 rfl rfl rfl rfl (0) rfl rfl (by assumption) ?_
  refine j_iload_n C d_W_takeUntold_10 rfl rfl ?_
  refine j_iret C hret hlk d_W_takeUntold_11 ?_ ?_ rfl rfl
  · rfl
  · rfl
set_option maxRecDepth 100000 in
set_option maxHeartbeats 4000000 in
theorem k_fmod {l : Launch} {D : va_G} {E : Nat → ClassId} {ad : Nat → Nat → Nat} {lv : Nat → Nat → Prop} {σ τ : sT} {a b : Int32} (hb : ¬ b = 0) : jM l y_J_floorMod c_J_floorMod 3 (some .int) 0 D E ad lv (jv ad σ τ) [.int (a), .int (b)] (some (.int (fmod a b))) (jv ad σ τ) := by
  intro sz
  refine jC.ofF "java/lang/Math" (by decide +kernel) rfl rfl (Nat.le_of_ble_eq_true rfl) (by intro v hv; simp only [List.mem_cons, List.not_mem_nil, or_false] at hv; rcases hv with rfl | rfl <;> first | rfl | exact jrf_cat _) ?_
  intro p e s m below meth c C hK hret hlk hnm hsz hAz
  refine j_iload_n C d_J_floorMod_0 rfl rfl ?_
  refine j_iload_n C d_J_floorMod_1 rfl rfl ?_
  refine j_irem C d_J_floorMod_2 (by first | assumption | decide) ?_
  refine j_istore_n C d_J_floorMod_3 rfl (by decide) ?_
  refine j_iload_n C d_J_floorMod_4 rfl rfl ?_
  refine j_iload_n C d_J_floorMod_5 rfl rfl ?_
  refine j_ixor C d_J_floorMod_6 ?_
  refine j_if_ge C 18 d_J_floorMod_7 rfl (fun g1 => ?_) (fun g1 => ?_)
  ·
    refine j_iload_n C d_J_floorMod_18 rfl rfl ?_
    refine j_iret C hret hlk d_J_floorMod_19 ?_ ?_ rfl rfl
    · simp only [fmod, g1, if_true, if_false]
    · rfl
  ·
    refine j_iload_n C d_J_floorMod_10 rfl rfl ?_
    refine j_if_eq C 18 d_J_floorMod_11 rfl (fun g2 => ?_) (fun g2 => ?_)
    ·
      refine j_iload_n C d_J_floorMod_18 rfl rfl ?_
      refine j_iret C hret hlk d_J_floorMod_19 ?_ ?_ rfl rfl
      · simp only [fmod, g1, g2, if_true, if_false]
      · rfl
    ·
      refine j_iload_n C d_J_floorMod_14 rfl rfl ?_
      refine j_iload_n C d_J_floorMod_15 rfl rfl ?_
      refine j_iadd C d_J_floorMod_16 ?_
      refine j_iret C hret hlk d_J_floorMod_17 ?_ ?_ rfl rfl
      · simp only [fmod, g1, g2, if_true, if_false]
      · rfl
end
section
theorem xor_sign {x d : Int32} (hd : 0 ≤ d.toInt) : 0 ≤ x ^^^ d ↔ 0 ≤ x.toInt := by
  rw [Int32.le_iff_toInt_le, show (0 : Int32).toInt = 0 from rfl]
  have h1 : (x ^^^ d).toInt = (x.toBitVec ^^^ d.toBitVec).toInt := by rw [← Int32.toBitVec_xor]; rfl
  have h2 : x.toInt = x.toBitVec.toInt := rfl
  have h3 : d.toInt = d.toBitVec.toInt := rfl
  rw [h1, h2]
  have m1 := BitVec.msb_eq_toInt (x := x.toBitVec ^^^ d.toBitVec)
  have m2 := BitVec.msb_eq_toInt (x := x.toBitVec)
  have m3 := BitVec.msb_eq_toInt (x := d.toBitVec)
  rw [BitVec.msb_xor] at m1
  rw [h3] at hd
  have e3 : d.toBitVec.msb = false := by rw [m3]; simp; omega
  rw [e3, Bool.xor_false, m2] at m1
  have m4 := decide_eq_decide.mp m1
  omega
theorem fmod_in {x d : Int32} {n : Nat} (hd : d.toInt = n) (hn : 0 < n) (hs : n < 2 ^ 20) : vp_in (fmod x d) n := by
  rw [vp_in_iff]
  have hr := rem_toInt x d
  have hb := tmod_bounds (a := x.toInt) (M := d.toInt) (by omega)
  have hx := xor_sign (x := x) (d := d) (by omega)
  unfold fmod
  by_cases h : 0 ≤ x ^^^ d
  · rw [if_pos h, hr]
    have := Int.tmod_nonneg d.toInt (hx.mp h)
    omega
  · rw [if_neg h]
    have hx0 : x.toInt < 0 := Int.not_le.mp (fun q => h (hx.mpr q))
    split
    · next q => rw [q]; rw [show (0 : Int32).toInt = 0 from rfl]; omega
    · next q =>
      have h5 : x.toInt.tmod d.toInt ≤ 0 := by
        have e : x.toInt = -(-x.toInt) := by omega
        rw [e, Int.neg_tmod]
        have := Int.tmod_nonneg d.toInt (show 0 ≤ -x.toInt by omega)
        omega
      have h6 : x.toInt.tmod d.toInt ≠ 0 := fun z => q (Int32.toInt_inj.mp (by rw [hr, z]; rfl))
      rw [Int32.toInt_add, hr]
      have e : (x.toInt.tmod d.toInt + d.toInt).bmod (2 ^ 32) = x.toInt.tmod d.toInt + d.toInt := by
        apply Int.bmod_eq_of_le <;> omega
      rw [e]
      omega
/-- what no call but make changes -/
def Fx (σ σ' : sT) : Prop := (∀ i x, σ'.2.1 1 i x = σ.2.1 1 i x) ∧ (∀ x, σ'.2.1 8 x 2 = σ.2.1 8 x 2) ∧ ∀ x, σ'.1 8 x 1 = σ.1 8 x 1
theorem Fx.rf {σ : sT} : Fx σ σ := ⟨fun _ _ => rfl, fun _ => rfl, fun _ => rfl⟩
theorem Fx.tr {a b c : sT} (h : Fx a b) (g : Fx b c) : Fx a c := ⟨fun i x => (g.1 i x).trans (h.1 i x), fun x => (g.2.1 x).trans (h.2.1 x), fun x => (g.2.2 x).trans (h.2.2 x)⟩
theorem Fx.mk {σ σ' : sT} (h : Fx σ σ') {x : Nat} : Mk σ' x ↔ Mk σ x := by unfold Mk; rw [h.1]
theorem Fx.le {σ σ' : sT} (h : Fx σ σ') {x : Nat} : lev σ' x = lev σ x := by unfold lev; rw [h.2.1]
def GO (σ σ' : sT) (lv : Nat → Nat → Prop) : Prop := OKs σ' lv ∧ Fx σ σ'
theorem GO.tr {a b c : sT} {lv : Nat → Nat → Prop} (h : GO a b lv) (g : GO b c lv) : GO a c lv := ⟨g.1, h.2.tr g.2⟩
theorem GO.rf {σ : sT} {lv : Nat → Nat → Prop} (h : OKs σ lv) : GO σ σ lv := ⟨h, Fx.rf⟩
theorem GO.I {σ : sT} {lv : Nat → Nat → Prop} (h : OKs σ lv) {k i j : Nat} {x : Int32} (hk : ¬ (k = 8 ∧ j = 1)) : GO σ (sI σ k i j x) lv := ⟨h.I, fun _ _ => rfl, fun _ => rfl, fun y => by
  simp only [sI]
  rw [if_neg (fun q => hk ⟨q.1.symm, q.2.2.symm⟩)]⟩
theorem GO.L {σ : sT} {lv : Nat → Nat → Prop} (h : OKs σ lv) {k i j : Nat} {x : Int64} : GO σ (sL σ k i j x) lv := ⟨h.L, fun _ _ => rfl, fun _ => rfl, fun _ => rfl⟩
theorem GO.P {σ : sT} {lv : Nat → Nat → Prop} (h : OKs σ lv) {k i j : Nat} {o : Option Nat} (hk : k ≠ 1) (h82 : ¬ (k = 8 ∧ j = 2)) (h9 : ¬ (k = 0 ∧ (j = 9 ∨ j = 10))) (ho : ∀ y, o = some y → Mk σ y) : GO σ (sP σ k i j o) lv := by
  refine ⟨h.P hk h82 (fun y q => ⟨fun _ => ho y q, fun z => absurd z h9⟩), fun a b => ?_, fun a => ?_, fun _ => rfl⟩
  · simp only [sP]; rw [if_neg (fun q => hk q.1.symm)]
  · simp only [sP]; rw [if_neg (fun q => h82 ⟨q.1.symm, q.2.2.symm⟩)]
theorem GO.S {σ : sT} {lv : Nat → Nat → Prop} (h : OKs σ lv) {j : Nat} {o : Option Nat} (h9 : j = 9 ∨ j = 10) (ho : ∀ y, o = some y → y < 16) : GO σ (sP σ 0 0 j o) lv := by
  refine ⟨h.P (by decide) (fun q => absurd q.1 (by decide)) (fun y q => ⟨fun z => absurd ⟨rfl, h9⟩ z, fun _ => ho y q⟩), fun a b => ?_, fun a => ?_, fun _ => rfl⟩
  · simp [sP]
  · simp [sP]
theorem pres_ok {σ : sT} {lv : Nat → Nat → Prop} (h : OKs σ lv) {x : Nat} (hx : cf_pres σ = some x) : Mk σ x := by
  unfold cf_pres at hx
  split at hx
  · exact h.ac hx
  · exact h.wa hx
theorem lev_lt {σ : sT} {lv : Nat → Nat → Prop} (h : OKs σ lv) {x : Nat} (hx : Mk σ x) : lev σ x < 8 := by
  obtain ⟨v, hv, e⟩ := h.rdy hx
  unfold lev; rw [e]; exact hv
theorem go_want {σ : sT} {lv : Nat → Nat → Prop} (h : OKs σ lv) {o : Option Nat} (ho : ∀ y, o = some y → Mk σ y) : GO σ (cf_want σ o) lv := by
  have h1 : GO σ (sI σ 0 0 5 1) lv := GO.I h (by decide)
  exact h1.tr (GO.P h1.1 (by decide) (by decide) (by decide) (fun y q => h1.2.mk.mpr (ho y q)))
theorem go_app {σ : sT} {lv : Nat → Nat → Prop} (h : OKs σ lv) {r x : Nat} (hr : r < 24) (hx : Mk σ x) : GO σ (cf_app σ r x) lv := by
  have h1 : GO σ (sI σ 8 x 5 (rno r)) lv := GO.I h (by decide)
  unfold cf_app
  cases hq : σ.2.1 6 r 2 with
  | none =>
    have h2 := h1.tr (GO.P (k := 6) (i := r) (j := 1) (o := some x) h1.1 (by decide) (by decide) (by decide) (fun y q => by cases q; exact h1.2.mk.mpr hx))
    exact h2.tr (GO.P h2.1 (by decide) (by decide) (by decide) (fun y q => by cases q; exact h2.2.mk.mpr hx))
  | some q =>
    have h2 := h1.tr (GO.P (k := 8) (i := q) (j := 6) (o := some x) h1.1 (by decide) (by decide) (by decide) (fun y q => by cases q; exact h1.2.mk.mpr hx))
    exact h2.tr (GO.P h2.1 (by decide) (by decide) (by decide) (fun y q => by cases q; exact h2.2.mk.mpr hx))
theorem go_take {σ : sT} {lv : Nat → Nat → Prop} (h : OKs σ lv) {r : Nat} (hr : r < 24) : GO σ (cf_take σ r).2 lv := by
  unfold cf_take
  cases hq : σ.2.1 6 r 1 with
  | none => exact GO.rf h
  | some x =>
    have hx : Mk σ x := h.fi hr hq
    have h1 : GO σ (sP σ 6 r 1 (σ.2.1 8 x 6)) lv := GO.P h (by decide) (by decide) (by decide) (fun y q => h.bh hx q)
    cases hb : σ.2.1 8 x 6 with
    | none =>
      simp only [hb]
      rw [hb] at h1
      have h2 := h1.tr (GO.P (k := 6) (i := r) (j := 2) (o := none) h1.1 (by decide) (by decide) (by decide) (fun y q => by cases q))
      have h3 := h2.tr (GO.P (k := 8) (i := x) (j := 6) (o := none) h2.1 (by decide) (by decide) (by decide) (fun y q => by cases q))
      exact h3.tr (GO.I h3.1 (by decide))
    | some z =>
      simp only [hb]
      rw [hb] at h1
      have h3 := h1.tr (GO.P (k := 8) (i := x) (j := 6) (o := none) h1.1 (by decide) (by decide) (by decide) (fun y q => by cases q))
      exact h3.tr (GO.I h3.1 (by decide))
theorem take_ok {σ : sT} {lv : Nat → Nat → Prop} (h : OKs σ lv) {r x : Nat} (hr : r < 24) (hx : (cf_take σ r).1 = some x) : Mk σ x := by
  unfold cf_take at hx
  cases hq : σ.2.1 6 r 1 with
  | none => rw [hq] at hx; cases hx
  | some y => rw [hq] at hx; cases hx; exact h.fi hr hq
theorem go_wake {σ : sT} {lv : Nat → Nat → Prop} (h : OKs σ lv) {x : Nat} (hx : Mk σ x) : GO σ (cf_wake σ x) lv := by
  unfold cf_wake
  cases hp : cf_pres σ with
  | none => exact go_want h (fun y q => by cases q; exact hx)
  | some q =>
    have hq := pres_ok h hp
    dsimp only
    split
    · have h1 := go_app h (show lev σ q < 24 by have := lev_lt h hq; omega) hq
      exact h1.tr (go_want h1.1 (fun y z => by cases z; exact h1.2.mk.mpr hx))
    · exact go_app h (show lev σ x < 24 by have := lev_lt h hx; omega) hx
theorem go_first {lv : Nat → Nat → Prop} : ∀ (n : Nat) {σ : sT}, OKs σ lv → n ≤ 24 → GO σ (cf_first n σ).2 lv ∧ ∀ x, (cf_first n σ).1 = some x → Mk σ x
  | 0, σ, h, _ => ⟨GO.rf h, fun x q => by cases q⟩
  | n + 1, σ, h, hn => by
    unfold cf_first
    have h1 := go_take h (r := n) (by omega)
    have h2 : ∀ x, (cf_take σ n).1 = some x → Mk σ x := fun x q => take_ok h (by omega) q
    cases hq : cf_take σ n with
    | mk o σ1 =>
      rw [hq] at h1 h2
      cases o with
      | none =>
        obtain ⟨g1, g2⟩ := go_first n h1.1 (by omega)
        exact ⟨h1.tr g1, fun x q => h1.2.mk.mp (g2 x q)⟩
      | some x => exact ⟨h1, fun y q => by cases q; exact h2 x rfl⟩
theorem go_aside {σ : sT} {lv : Nat → Nat → Prop} (h : OKs σ lv) : GO σ (cf_aside σ) lv := by
  obtain ⟨g1, g2⟩ := go_first 8 h (by omega)
  exact g1.tr (go_want g1.1 (fun y q => g1.2.mk.mpr (g2 y q)))
theorem go_sig {σ : sT} {lv : Nat → Nat → Prop} (h : OKs σ lv) {s : Nat} (hs : s < 16) : GO σ (cf_sig σ s) lv := by
  unfold cf_sig
  have h1 := go_take h (r := 8 + s) (by omega)
  have h2 : ∀ x, (cf_take σ (8 + s)).1 = some x → Mk σ x := fun x q => take_ok h (by omega) q
  cases hq : (cf_take σ (8 + s)).1 with
  | none => exact h1.tr (GO.I h1.1 (by decide))
  | some x => exact h1.tr (go_wake h1.1 (h1.2.mk.mpr (h2 x hq)))
theorem go_wait {σ : sT} {lv : Nat → Nat → Prop} (h : OKs σ lv) {s : Nat} (hs : s < 16) : GO σ (cf_wait σ s) lv := by
  unfold cf_wait
  cases hp : cf_pres σ with
  | none => exact GO.rf h
  | some q =>
    dsimp only
    split
    · have h1 := go_app h (show 8 + s < 24 by omega) (pres_ok h hp)
      exact h1.tr (go_aside h1.1)
    · exact GO.I h (by decide)
theorem go_give {σ : sT} {lv : Nat → Nat → Prop} (h : OKs σ lv) : GO σ (cf_give σ) lv := by
  unfold cf_give
  cases hp : cf_pres σ with
  | none => exact GO.rf h
  | some q =>
    dsimp only
    split
    · exact GO.rf h
    · have h1 := go_app h (show lev σ q < 24 by have := lev_lt h (pres_ok h hp); omega) (pres_ok h hp)
      exact h1.tr (go_aside h1.1)
theorem go_many {lv : Nat → Nat → Prop} {s : Nat} (hs : s < 16) : ∀ (n : Nat) {σ : sT}, OKs σ lv → GO σ (cf_many s n σ) lv
  | 0, σ, h => GO.rf h
  | n + 1, σ, h => (go_sig h hs).tr (go_many hs n (go_sig h hs).1)
theorem go_words {σ : sT} {lv : Nat → Nat → Prop} (h : OKs σ lv) : GO σ (cf_words σ) lv := by
  have h1 : GO σ (sI σ 4 0 3 0) lv := GO.I h (by decide)
  unfold cf_words
  cases hq : σ.2.1 0 0 9 with
  | none => exact h1
  | some s => exact h1.tr (go_many (h.inp hq) _ h1.1)
theorem go_due {σ : sT} {lv : Nat → Nat → Prop} (h : OKs σ lv) : GO σ (cf_due σ) lv := by
  unfold cf_due
  cases hq : σ.2.1 0 0 10 with
  | none => exact GO.rf h
  | some s =>
    dsimp only
    split
    · have h1 : GO σ (sP σ 0 0 10 none) lv := GO.S h (Or.inr rfl) (fun y q => by cases q)
      exact h1.tr (go_sig h1.1 (h.al hq))
    · exact GO.rf h
theorem go_settle {σ : sT} {lv : Nat → Nat → Prop} (h : OKs σ lv) : GO σ (cf_settle σ) lv := by
  unfold cf_settle
  have h1 := (go_words h).tr (go_due (go_words h).1)
  generalize cf_due (cf_words σ) = σ1 at h1 ⊢
  dsimp only
  split
  · exact h1
  · have h2 := h1.tr (GO.P (k := 0) (i := 0) (j := 4) (o := σ1.2.1 0 0 6) h1.1 (by decide) (by decide) (by decide) (fun y q => h1.1.wa q))
    have h3 := h2.tr (GO.I (k := 0) (i := 0) (j := 5) (x := 0) h2.1 (by decide))
    exact h3.tr (GO.P h3.1 (by decide) (by decide) (by decide) (fun y q => by cases q))
theorem go_behind {σ : sT} {lv : Nat → Nat → Prop} (h : OKs σ lv) : GO σ (cf_behind σ) lv := by
  unfold cf_behind
  have h1 := go_settle h
  generalize cf_settle σ = σ1 at h1 ⊢
  dsimp only
  split
  · have h2 := h1.tr (GO.I (k := 0) (i := 0) (j := 7) (x := σ1.1 0 0 11) h1.1 (by decide))
    exact h2.tr (go_settle h2.1)
  · exact h1
theorem isS_lt {a : Int32} (h : isS a) : a.toNatClampNeg < 16 := by
  obtain ⟨h0, h1⟩ := h
  rw [Int32.le_iff_toInt_le] at h0
  rw [Int32.lt_iff_toInt_lt] at h1
  rw [show (0 : Int32).toInt = 0 from rfl] at h0
  rw [show (16 : Int32).toInt = 16 from rfl] at h1
  rw [← Int32.toNat_toInt]
  omega
theorem go_act {σ : sT} {lv : Nat → Nat → Prop} (h : OKs σ lv) {a : Int32} : GO σ (cf_act σ a) lv := by
  unfold cf_act
  split
  · next q => exact go_wait h (isS_lt q)
  split
  · next q => exact go_sig h (isS_lt q)
  split
  · exact go_give h
  split
  · unfold cf_drop
    split
    · exact GO.rf h
    · have h1 : GO σ (sI σ 4 0 1 (cf_place σ 1)) lv := GO.I h (by decide)
      exact h1.tr (GO.I h1.1 (by decide))
  split
  · exact GO.S h (Or.inl rfl) (fun y q => by cases q)
  split
  · next q =>
    have h1 : GO σ (sP σ 0 0 10 (some (a - 64).toNatClampNeg)) lv := GO.S h (Or.inr rfl) (fun y z => by cases z; exact isS_lt q)
    exact h1.tr (GO.I h1.1 (by decide))
  split
  · next q => exact GO.S h (Or.inl rfl) (fun y z => by cases z; exact isS_lt q)
  · exact GO.rf h
theorem go_code {σ : sT} {lv : Nat → Nat → Prop} (h : OKs σ lv) {x : Nat} : GO σ (cf_code σ x) lv := by
  unfold cf_code
  have h1 : GO σ (sI σ 8 x 4 (σ.1 8 x 4 + 1)) lv := GO.I h (by decide)
  have h2 := h1.tr (go_act (a := cf_next σ x) h1.1)
  generalize cf_act (sI σ 8 x 4 (σ.1 8 x 4 + 1)) (cf_next σ x) = σ1 at h2 ⊢
  have h3 := h2.tr (GO.L (k := 0) (i := 0) (j := 8) (x := σ1.2.2 0 0 8 + 1) h2.1)
  dsimp only
  split
  · exact h3.tr (GO.I h3.1 (by decide))
  · exact h3
theorem go_loop {lv : Nat → Nat → Prop} : ∀ (n : Nat) {σ : sT}, OKs σ lv → GO σ (cf_loop n σ).2 lv
  | 0, σ, h => GO.rf h
  | n + 1, σ, h => by
    unfold cf_loop
    cases hq : σ.2.1 0 0 4 with
    | none => exact GO.rf h
    | some x =>
      have h1 := (go_code (x := x) h).tr (go_behind (go_code (x := x) h).1)
      exact h1.tr (go_loop n h1.1)
/-- what the rows' and the changes' doings touch, and nothing else -/
def Fr (σ σ' : sT) : Prop := (∀ k i j, ¬ (k = 8 ∧ j = 5) → ¬ (k = 0 ∧ j = 5) → ¬ (k = 7 ∧ j = 2) → σ'.1 k i j = σ.1 k i j) ∧ (∀ k i j, ¬ (k = 8 ∧ j = 6) → ¬ k = 6 → ¬ (k = 0 ∧ j = 6) → σ'.2.1 k i j = σ.2.1 k i j) ∧ σ'.2.2 = σ.2.2
theorem Fr.rf {σ : sT} : Fr σ σ := ⟨fun _ _ _ _ _ _ => rfl, fun _ _ _ _ _ _ => rfl, rfl⟩
theorem Fr.tr {a b c : sT} (h : Fr a b) (g : Fr b c) : Fr a c := ⟨fun k i j h1 h2 h3 => (g.1 k i j h1 h2 h3).trans (h.1 k i j h1 h2 h3), fun k i j h1 h2 h3 => (g.2.1 k i j h1 h2 h3).trans (h.2.1 k i j h1 h2 h3), g.2.2.trans h.2.2⟩
theorem Fr.I {σ : sT} {k i j : Nat} {x : Int32} (h : (k = 8 ∧ j = 5) ∨ (k = 0 ∧ j = 5) ∨ (k = 7 ∧ j = 2)) : Fr σ (sI σ k i j x) := by
  refine ⟨fun k' i' j' h1 h2 h3 => ?_, fun _ _ _ _ _ _ => rfl, rfl⟩
  simp only [sI]
  rw [if_neg]
  rintro ⟨rfl, rfl, rfl⟩
  rcases h with h | h | h
  · exact h1 h
  · exact h2 h
  · exact h3 h
theorem Fr.P {σ : sT} {k i j : Nat} {x : Option Nat} (h : (k = 8 ∧ j = 6) ∨ k = 6 ∨ (k = 0 ∧ j = 6)) : Fr σ (sP σ k i j x) := by
  refine ⟨fun _ _ _ _ _ _ => rfl, fun k' i' j' h1 h2 h3 => ?_, rfl⟩
  simp only [sP]
  rw [if_neg]
  rintro ⟨rfl, rfl, rfl⟩
  rcases h with h | h | h
  · exact h1 h
  · exact h2 h
  · exact h3 h
theorem fr_want (σ : sT) (o : Option Nat) : Fr σ (cf_want σ o) := (Fr.I (by decide)).tr (Fr.P (by decide))
theorem fr_app (σ : sT) (r x : Nat) : Fr σ (cf_app σ r x) := by
  unfold cf_app
  cases σ.2.1 6 r 2 with
  | none => exact ((Fr.I (by decide)).tr (Fr.P (by decide))).tr (Fr.P (by decide))
  | some q => exact ((Fr.I (by decide)).tr (Fr.P (by decide))).tr (Fr.P (by decide))
theorem fr_take (σ : sT) (r : Nat) : Fr σ (cf_take σ r).2 := by
  unfold cf_take
  cases σ.2.1 6 r 1 with
  | none => exact Fr.rf
  | some x =>
    dsimp only
    cases σ.2.1 8 x 6 with
    | none => exact (((Fr.P (by decide)).tr (Fr.P (by decide))).tr (Fr.P (by decide))).tr (Fr.I (by decide))
    | some z => exact ((Fr.P (by decide)).tr (Fr.P (by decide))).tr (Fr.I (by decide))
theorem fr_wake (σ : sT) (x : Nat) : Fr σ (cf_wake σ x) := by
  unfold cf_wake
  cases cf_pres σ with
  | none => exact fr_want _ _
  | some q =>
    dsimp only
    split
    · exact (fr_app _ _ _).tr (fr_want _ _)
    · exact fr_app _ _ _
theorem fr_first : ∀ (n : Nat) (σ : sT), Fr σ (cf_first n σ).2
  | 0, σ => Fr.rf
  | n + 1, σ => by
    unfold cf_first
    have h1 := fr_take σ n
    cases hq : cf_take σ n with
    | mk o σ1 =>
      rw [hq] at h1
      cases o with
      | none => exact h1.tr (fr_first n σ1)
      | some x => exact h1
theorem fr_aside (σ : sT) : Fr σ (cf_aside σ) := (fr_first 8 σ).tr (fr_want _ _)
theorem fr_sig (σ : sT) (s : Nat) : Fr σ (cf_sig σ s) := by
  unfold cf_sig
  cases (cf_take σ (8 + s)).1 with
  | none => exact (fr_take _ _).tr (Fr.I (by decide))
  | some x => exact (fr_take _ _).tr (fr_wake _ _)
theorem fr_many (s : Nat) : ∀ (n : Nat) (σ : sT), Fr σ (cf_many s n σ)
  | 0, σ => Fr.rf
  | n + 1, σ => (fr_sig σ s).tr (fr_many s n _)
theorem i32_succ {x y : Int32} (h : x.toInt < y.toInt) : (x + Int32.ofInt 1).toInt = x.toInt + 1 := by
  have h1 := Int32.toInt_lt y
  have h2 := Int32.le_toInt x
  rw [Int32.toInt_add, show (Int32.ofInt 1).toInt = 1 from rfl]
  apply Int.bmod_eq_of_le <;> omega
end
section
/-- the goal inside a method's walk -/
abbrev JM (l : Launch) (y : MethodName) (cc : ByteArray) (maxL : Nat) (ret : Option FieldType) (lev : Nat) (D : va_G) (E : Nat → ClassId) (ad : Nat → Nat → Nat) (lv : Nat → Nat → Prop) (p : Program) (e : Env) (s : State) (m : MethodId) (below : List Frame) (meth : Method) (c : Code) (sz : Nat) (vs : List Value) (r : Option Value) (V1 V : jVT) (pc : Nat) (lsv : List (Option Value)) (stk : List Value) : Prop :=
  J p l e (headSpec (Cond.code y cc maxL ret :: jT) { frames := lev, cells := 0, slots := 0, locals := 30 * lev }).room s m vs.toArray below meth c (MQ below (jQ D jcl jY E ad lv sz r lv V1 sz) vs.toArray s 0 0 (jA ad lv sz)) D jcl jY E ad (jA ad lv sz) s.heap maxL 0 0 sz lv V pc lsv stk
theorem i32_m1 (x : Int32) : x + Int32.ofInt (-1) = x - 1 := by rw [Int32.sub_eq_add_neg]; rfl
set_option maxRecDepth 100000 in
set_option maxHeartbeats 4000000 in
theorem k_place {l : Launch} {D : va_G} {E : Nat → ClassId} {ad : Nat → Nat → Nat} {lv : Nat → Nat → Prop} {σ τ : sT} (h : OKs σ lv) {a : Int32} : jM l y_W_place c_W_place 2 (some .int) 1 D E ad lv (jv ad σ τ) [.ref (ad 4 0), .int (a)] (some (.int (cf_place σ a))) (jv ad σ τ) := by
  intro sz
  refine jC.of "InputRoom$Words" (by decide +kernel) rfl rfl (Nat.le_of_ble_eq_true rfl) (by intro v hv; simp only [List.mem_cons, List.not_mem_nil, or_false] at hv; rcases hv with rfl | rfl <;> first | rfl | exact jrf_cat _) ?_
  intro p e s m below meth c C hK hret hlk hnm hsz hAz
  have hb0 : lv 0 0 := h.k (by decide)
  have hb1 : lv 1 0 := h.k (by decide)
  have hb2 : lv 2 0 := h.k (by decide)
  have hb3 : lv 3 0 := h.k (by decide)
  have hb4 : lv 4 0 := h.k (by decide)
  have hb5 : lv 5 0 := h.k (by decide)
  refine j_aload_n C d_W_place_0 rfl rfl ?_
  refine sgI C hK 4 0 1 d_W_place_1 in_W rfl rfl (by decide) t_59 rfl rfl rfl (by assumption) ?_
  refine j_iload_n C d_W_place_4 rfl rfl ?_
  refine j_iadd C d_W_place_5 ?_
  refine j_bipush (v := 64) C d_W_place_6 (by decide) ?_
  refine j_callS C hK hAz (k_fmod (a := (σ.1 4 0 1 + a)) (b := 64) (by decide) _) ⟨jcB C mi_J_floorMod t_258 rfl rfl ⟨by decide, by decide⟩, C.2.2.2.2 _ t_259⟩ rfl rfl (Nat.le_of_ble_eq_true rfl) d_W_place_8 ⟨Nat.zero_le _, Nat.zero_le _⟩ ?_
  refine j_iret C hret hlk d_W_place_11 ?_ ?_ rfl rfl
  · rfl
  · rfl
set_option maxRecDepth 100000 in
set_option maxHeartbeats 4000000 in
theorem k_next {l : Launch} {D : va_G} {E : Nat → ClassId} {ad : Nat → Nat → Nat} {lv : Nat → Nat → Prop} {σ τ : sT} (h : OKs σ lv) {x : Nat} (hx : Mk σ x) : jM l y_P_nextAct c_P_nextAct 1 (some .int) 1 D E ad lv (jv ad σ τ) [.ref (ad 8 x)] (some (.int (cf_next σ x))) (jv ad σ τ) := by
  intro sz
  refine jC.of "InputRoom$Proc" (by decide +kernel) rfl rfl (Nat.le_of_ble_eq_true rfl) (by intro v hv; simp only [List.mem_cons, List.not_mem_nil, or_false] at hv; rcases hv with rfl <;> first | rfl | exact jrf_cat _) ?_
  intro p e s m below meth c C hK hret hlk hnm hsz hAz
  have hlx : lv 8 x := h.p hx
  have hax : lv 9 x := h.a hx
  refine j_aload_n C d_P_nextAct_0 rfl rfl ?_
  refine sgC C hK 8 x 3 d_P_nextAct_1 in_P rfl rfl (by decide) t_158 rfl rfl rfl (by assumption) ?_
  refine j_aload_n C d_P_nextAct_4 rfl rfl ?_
  refine sgI C hK 8 x 4 d_P_nextAct_5 in_P rfl rfl (by decide) t_160 rfl rfl rfl (by assumption) ?_
  refine j_bipush (v := 8) C d_P_nextAct_8 (by decide) ?_
  refine j_callS C hK hAz (k_fmod (a := σ.1 8 x 4) (b := 8) (by decide) _) ⟨jcB C mi_J_floorMod t_293 rfl rfl ⟨by decide, by decide⟩, C.2.2.2.2 _ t_259⟩ rfl rfl (Nat.le_of_ble_eq_true rfl) d_P_nextAct_10 ⟨Nat.zero_le _, Nat.zero_le _⟩ ?_
  refine sia C hK 9 x d_P_nextAct_13 rfl (fmod_in (by decide) (by decide) (by decide)) rfl rfl (by assumption) ?_
  refine j_iret C hret hlk d_P_nextAct_14 ?_ ?_ rfl rfl
  · rfl
  · rfl
set_option maxRecDepth 100000 in
set_option maxHeartbeats 4000000 in
theorem k_drop {l : Launch} {D : va_G} {E : Nat → ClassId} {ad : Nat → Nat → Nat} {lv : Nat → Nat → Prop} {σ τ : sT} (h : OKs σ lv) : jM l y_W_dropFirst c_W_dropFirst 1 (none) 2 D E ad lv (jv ad σ τ) [.ref (ad 4 0)] none (jv ad (cf_drop σ) τ) := by
  intro sz
  refine jC.of "InputRoom$Words" (by decide +kernel) rfl rfl (Nat.le_of_ble_eq_true rfl) (by intro v hv; simp only [List.mem_cons, List.not_mem_nil, or_false] at hv; rcases hv with rfl <;> first | rfl | exact jrf_cat _) ?_
  intro p e s m below meth c C hK hret hlk hnm hsz hAz
  have hb0 : lv 0 0 := h.k (by decide)
  have hb1 : lv 1 0 := h.k (by decide)
  have hb2 : lv 2 0 := h.k (by decide)
  have hb3 : lv 3 0 := h.k (by decide)
  have hb4 : lv 4 0 := h.k (by decide)
  have hb5 : lv 5 0 := h.k (by decide)
  refine j_aload_n C d_W_dropFirst_0 rfl rfl ?_
  refine sgI C hK 4 0 2 d_W_dropFirst_1 in_W rfl rfl (by decide) t_60 rfl rfl rfl (by assumption) ?_
  refine j_if_le C 26 d_W_dropFirst_4 rfl (fun g1 => ?_) (fun g1 => ?_)
  ·
    refine j_vret C hret hlk d_W_dropFirst_26 rfl ?_ rfl rfl
    simp only [cf_drop, g1, if_true, if_false]
  ·
    refine j_aload_n C d_W_dropFirst_7 rfl rfl ?_
    refine j_aload_n C d_W_dropFirst_8 rfl rfl ?_
    refine j_iconst (v := 1) C d_W_dropFirst_9 (by decide) ?_
    refine j_callV C hK hAz 4 0 (k_place (a := 1) h _) (jcV C mi_W_place t_254 t_256 t_7 rfl rfl ⟨by decide, by decide⟩) rfl rfl (by assumption) rfl rfl (Nat.le_of_ble_eq_true rfl) d_W_dropFirst_10 ⟨Nat.zero_le _, Nat.zero_le _⟩ ?_
    refine spI C hK 4 0 1 ty_W tk_W nm_W d_W_dropFirst_13 in_W rfl rfl (by decide) t_59 rfl rfl rfl rfl (cf_place σ 1) rfl rfl (by assumption) ?_
    refine j_aload_n C d_W_dropFirst_16 rfl rfl ?_
    refine j_dup C d_W_dropFirst_17 rfl ?_
    refine sgI C hK 4 0 2 d_W_dropFirst_18 in_W rfl rfl (by decide) t_60 rfl rfl rfl (by assumption) ?_
    refine j_iconst (v := 1) C d_W_dropFirst_21 (by decide) ?_
    refine j_isub C d_W_dropFirst_22 ?_
    refine spI C hK 4 0 2 ty_W tk_W nm_W d_W_dropFirst_23 in_W rfl rfl (by decide) t_60 rfl rfl rfl rfl (((sI σ 4 0 1 (cf_place σ 1)).1 4 0 2 - 1)) rfl rfl (by assumption) ?_
    refine j_vret C hret hlk d_W_dropFirst_26 rfl ?_ rfl rfl
    simp only [cf_drop, g1, if_true, if_false]
    rfl
set_option maxRecDepth 100000 in
set_option maxHeartbeats 4000000 in
theorem k_get {l : Launch} {D : va_G} {E : Nat → ClassId} {ad : Nat → Nat → Nat} {lv : Nat → Nat → Prop} {σ τ : sT} (h : OKs σ lv) {a : Int32} : jM l y_W_get c_W_get 2 (some .int) 2 D E ad lv (jv ad σ τ) [.ref (ad 4 0), .int (a)] (some (.int (cf_wordAt σ a))) (jv ad σ τ) := by
  intro sz
  refine jC.of "InputRoom$Words" (by decide +kernel) rfl rfl (Nat.le_of_ble_eq_true rfl) (by intro v hv; simp only [List.mem_cons, List.not_mem_nil, or_false] at hv; rcases hv with rfl | rfl <;> first | rfl | exact jrf_cat _) ?_
  intro p e s m below meth c C hK hret hlk hnm hsz hAz
  have hb0 : lv 0 0 := h.k (by decide)
  have hb1 : lv 1 0 := h.k (by decide)
  have hb2 : lv 2 0 := h.k (by decide)
  have hb3 : lv 3 0 := h.k (by decide)
  have hb4 : lv 4 0 := h.k (by decide)
  have hb5 : lv 5 0 := h.k (by decide)
  refine j_iload_n C d_W_get_0 rfl rfl ?_
  refine j_if_lt C 25 d_W_get_1 rfl (fun g1 => ?_) (fun g1 => ?_)
  ·
    refine j_iconst (v := -1) C d_W_get_25 (by decide) ?_
    refine j_iret C hret hlk d_W_get_26 ?_ ?_ rfl rfl
    · rw [cf_wordAt, if_neg (by simp only [i32_lt, i32_le, i32_0] at *; omega)]
    · rfl
  ·
    refine j_iload_n C d_W_get_4 rfl rfl ?_
    refine j_aload_n C d_W_get_5 rfl rfl ?_
    refine sgI C hK 4 0 2 d_W_get_6 in_W rfl rfl (by decide) t_60 rfl rfl rfl (by assumption) ?_
    refine j_icmp_ge C 25 d_W_get_9 rfl (fun g2 => ?_) (fun g2 => ?_)
    ·
      refine j_iconst (v := -1) C d_W_get_25 (by decide) ?_
      refine j_iret C hret hlk d_W_get_26 ?_ ?_ rfl rfl
      · rw [cf_wordAt, if_neg (by simp only [i32_lt, i32_le, i32_0] at *; omega)]
      · rfl
    ·
      refine j_aload_n C d_W_get_12 rfl rfl ?_
      refine sgC C hK 4 0 0 d_W_get_13 in_W rfl rfl (by decide) t_58 rfl rfl rfl (by assumption) ?_
      refine j_aload_n C d_W_get_16 rfl rfl ?_
      refine j_iload_n C d_W_get_17 rfl rfl ?_
      refine j_callV C hK hAz 4 0 (k_place (a := a) h _) (jcV C mi_W_place t_254 t_256 t_7 rfl rfl ⟨by decide, by decide⟩) rfl rfl (by assumption) rfl rfl (Nat.le_of_ble_eq_true rfl) d_W_get_18 ⟨Nat.zero_le _, Nat.zero_le _⟩ ?_
      refine sia C hK 5 0 d_W_get_21 rfl (fmod_in (by decide) (by decide) (by decide)) rfl rfl (by assumption) ?_
      refine j_goto C 26 d_W_get_22 rfl ?_
      refine j_iret C hret hlk d_W_get_26 ?_ ?_ rfl rfl
      · rw [cf_wordAt, if_pos (by simp only [i32_lt, i32_le, i32_0] at *; omega)]
      · rfl
set_option maxRecDepth 100000 in
set_option maxHeartbeats 4000000 in
theorem k_add {l : Launch} {D : va_G} {E : Nat → ClassId} {ad : Nat → Nat → Nat} {lv : Nat → Nat → Prop} {σ τ : sT} (h : OKs σ lv) {a : Int32} : jM l y_W_add c_W_add 2 (some .int) 2 D E ad lv (jv ad σ τ) [.ref (ad 4 0), .int (a)] (some (.int (cf_add σ a).1)) (jv ad (cf_add σ a).2 τ) := by
  intro sz
  refine jC.of "InputRoom$Words" (by decide +kernel) rfl rfl (Nat.le_of_ble_eq_true rfl) (by intro v hv; simp only [List.mem_cons, List.not_mem_nil, or_false] at hv; rcases hv with rfl | rfl <;> first | rfl | exact jrf_cat _) ?_
  intro p e s m below meth c C hK hret hlk hnm hsz hAz
  have hb0 : lv 0 0 := h.k (by decide)
  have hb1 : lv 1 0 := h.k (by decide)
  have hb2 : lv 2 0 := h.k (by decide)
  have hb3 : lv 3 0 := h.k (by decide)
  have hb4 : lv 4 0 := h.k (by decide)
  have hb5 : lv 5 0 := h.k (by decide)
  refine j_aload_n C d_W_add_0 rfl rfl ?_
  refine sgI C hK 4 0 2 d_W_add_1 in_W rfl rfl (by decide) t_60 rfl rfl rfl (by assumption) ?_
  refine j_bipush (v := 64) C d_W_add_4 (by decide) ?_
  refine j_icmp_lt C 11 d_W_add_6 rfl (fun g1 => ?_) (fun g1 => ?_)
  ·
    refine j_aload_n C d_W_add_11 rfl rfl ?_
    refine sgC C hK 4 0 0 d_W_add_12 in_W rfl rfl (by decide) t_58 rfl rfl rfl (by assumption) ?_
    refine j_aload_n C d_W_add_15 rfl rfl ?_
    refine j_aload_n C d_W_add_16 rfl rfl ?_
    refine sgI C hK 4 0 2 d_W_add_17 in_W rfl rfl (by decide) t_60 rfl rfl rfl (by assumption) ?_
    refine j_callV C hK hAz 4 0 (k_place (a := σ.1 4 0 2) h _) (jcV C mi_W_place t_254 t_256 t_7 rfl rfl ⟨by decide, by decide⟩) rfl rfl (by assumption) rfl rfl (Nat.le_of_ble_eq_true rfl) d_W_add_20 ⟨Nat.zero_le _, Nat.zero_le _⟩ ?_
    refine j_iload_n C d_W_add_23 rfl rfl ?_
    refine sia_st C hK 5 0 d_W_add_24 rfl (fmod_in (by decide) (by decide) (by decide)) rfl rfl (by assumption) ?_
    refine j_aload_n C d_W_add_25 rfl rfl ?_
    refine j_dup C d_W_add_26 rfl ?_
    refine sgI C hK 4 0 2 d_W_add_27 in_W rfl rfl (by decide) t_60 rfl rfl rfl (by assumption) ?_
    refine j_iconst (v := 1) C d_W_add_30 (by decide) ?_
    refine j_iadd C d_W_add_31 ?_
    refine spI C hK 4 0 2 ty_W tk_W nm_W d_W_add_32 in_W rfl rfl (by decide) t_60 rfl rfl rfl rfl (((sI σ 5 0 (cf_place σ (σ.1 4 0 2)).toNatClampNeg (a)).1 4 0 2 + 1)) rfl rfl (by assumption) ?_
    refine j_aload_n C d_W_add_35 rfl rfl ?_
    refine j_dup C d_W_add_36 rfl ?_
    refine sgI C hK 4 0 3 d_W_add_37 in_W rfl rfl (by decide) t_61 rfl rfl rfl (by assumption) ?_
    refine j_iconst (v := 1) C d_W_add_40 (by decide) ?_
    refine j_iadd C d_W_add_41 ?_
    refine spI C hK 4 0 3 ty_W tk_W nm_W d_W_add_42 in_W rfl rfl (by decide) t_61 rfl rfl rfl rfl (((sI (sI σ 5 0 (cf_place σ (σ.1 4 0 2)).toNatClampNeg (a)) 4 0 2 (((sI σ 5 0 (cf_place σ (σ.1 4 0 2)).toNatClampNeg (a)).1 4 0 2 + 1))).1 4 0 3 + 1)) rfl rfl (by assumption) ?_
    refine j_aload_n C d_W_add_45 rfl rfl ?_
    refine sgI C hK 4 0 2 d_W_add_46 in_W rfl rfl (by decide) t_60 rfl rfl rfl (by assumption) ?_
    refine j_iret C hret hlk d_W_add_49 ?_ ?_ rfl rfl
    · simp only [cf_add, g1, not_true_eq_false, not_false_eq_true, if_true, if_false]; rfl
    · simp only [cf_add, g1, not_true_eq_false, not_false_eq_true, if_true, if_false]; rfl
  ·
    refine j_iconst (v := -1) C d_W_add_9 (by decide) ?_
    refine j_iret C hret hlk d_W_add_10 ?_ ?_ rfl rfl
    · simp only [cf_add, g1, not_true_eq_false, not_false_eq_true, if_true, if_false]
    · simp only [cf_add, g1, not_true_eq_false, not_false_eq_true, if_true, if_false]
set_option maxRecDepth 100000 in
set_option maxHeartbeats 4000000 in
theorem k_wakeUp {l : Launch} {D : va_G} {E : Nat → ClassId} {ad : Nat → Nat → Nat} {lv : Nat → Nat → Prop} {σ τ : sT} (h : OKs σ lv) {x : Nat} (hx : Mk σ x) : jM l y_X_wakeUp c_X_wakeUp 3 (none) 1 D E ad lv (jv ad σ τ) [.ref (ad 0 0), .ref (ad 8 x)] none (jv ad (cf_wake σ x) τ) := by
  intro sz
  refine jC.of "InputRoom" (by decide +kernel) rfl rfl (Nat.le_of_ble_eq_true rfl) (by intro v hv; simp only [List.mem_cons, List.not_mem_nil, or_false] at hv; rcases hv with rfl | rfl <;> first | rfl | exact jrf_cat _) ?_
  intro p e s m below meth c C hK hret hlk hnm hsz hAz
  have hb0 : lv 0 0 := h.k (by decide)
  have hb1 : lv 1 0 := h.k (by decide)
  have hb2 : lv 2 0 := h.k (by decide)
  have hb3 : lv 3 0 := h.k (by decide)
  have hb4 : lv 4 0 := h.k (by decide)
  have hb5 : lv 5 0 := h.k (by decide)
  have hlx : lv 8 x := h.p hx
  obtain ⟨vx, hvx, evx⟩ := h.rdy hx
  have hlvx : lv 6 vx := h.r (by omega)
  have elx : lev σ x = vx := by unfold lev; rw [evx]; rfl
  refine j_aload_n C d_X_wakeUp_0 rfl rfl ?_
  refine j_callV C hK hAz 0 0 (k_pres h _) (jcV C mi_X_presentOne t_193 t_195 t_1 rfl rfl ⟨by decide, by decide⟩) rfl rfl (by assumption) rfl rfl (Nat.le_of_ble_eq_true rfl) d_X_wakeUp_1 ⟨Nat.zero_le _, Nat.zero_le _⟩ ?_
  refine j_astore_nQ C d_X_wakeUp_4 rfl (by decide) ?_
  refine j_aload_nQ C d_X_wakeUp_5 rfl rfl ?_
  refine jnull (o := cf_pres σ) (t := 8) C 29 d_X_wakeUp_6 rfl (fun g1 => ?_) (fun x2 g1 => ?_)
  ·
    try rw [g1]
    refine j_aload_nQ (o := none) C d_X_wakeUp_29 rfl rfl ?_
    refine j_ifnull (o := none) C 41 d_X_wakeUp_30 rfl (fun _ => ?_) (fun _ q => by cases q)
    refine j_aload_n C d_X_wakeUp_41 rfl rfl ?_
    refine j_aload_n C d_X_wakeUp_42 rfl rfl ?_
    refine j_callV C hK hAz 0 0 (k_want (o := some x) h _) (jcV C mi_X_wantChangeTo t_205 t_207 t_3 rfl rfl ⟨by decide, by decide⟩) rfl rfl (by assumption) rfl rfl (Nat.le_of_ble_eq_true rfl) d_X_wakeUp_43 ⟨Nat.zero_le _, Nat.zero_le _⟩ ?_
    refine j_vret C hret hlk d_X_wakeUp_46 rfl ?_ rfl rfl
    simp only [cf_wake, g1, if_true, if_false, elx]
  ·
    try rw [g1]
    have hmx2 : Mk σ x2 := pres_ok h g1
    have hlx2 : lv 8 x2 := h.p hmx2
    obtain ⟨vx2, hvx2, evx2⟩ := h.rdy hmx2
    have hlvx2 : lv 6 vx2 := h.r (by omega)
    have elx2 : lev σ x2 = vx2 := by unfold lev; rw [evx2]; rfl
    refine j_aload_n C d_X_wakeUp_9 rfl rfl ?_
    refine sgI C hK 8 x2 1 d_X_wakeUp_10 in_P rfl rfl (by decide) t_155 rfl rfl rfl (by assumption) ?_
    refine j_aload_n C d_X_wakeUp_13 rfl rfl ?_
    refine sgI C hK 8 x 1 d_X_wakeUp_14 in_P rfl rfl (by decide) t_155 rfl rfl rfl (by assumption) ?_
    refine j_icmp_lt C 29 d_X_wakeUp_17 rfl (fun g5 => ?_) (fun g5 => ?_)
    ·
      refine j_aload_n C d_X_wakeUp_29 rfl rfl ?_
      refine j_ifnull (o := some _) C 41 d_X_wakeUp_30 rfl (fun q => by cases q) (fun _ _ => ?_)
      refine j_aload_n C d_X_wakeUp_33 rfl rfl ?_
      refine sgR (t := 6) C hK 8 x2 2 d_X_wakeUp_34 in_P rfl rfl (by decide) t_157 rfl rfl rfl (by assumption) ?_
      rw [evx2]
      refine j_aload_n C d_X_wakeUp_37 rfl rfl ?_
      refine j_callV C hK hAz 6 vx2 (k_app (r := vx2) (x := x2) h (by omega) hmx2 _) (jcV C mi_R_append t_201 t_202 t_203 rfl rfl ⟨by decide, by decide⟩) rfl rfl (by assumption) rfl rfl (Nat.le_of_ble_eq_true rfl) d_X_wakeUp_38 ⟨Nat.zero_le _, Nat.zero_le _⟩ ?_
      have ok2 : OKs (cf_app σ vx2 x2) lv := (go_app h (by omega) hmx2).1
      refine j_aload_n C d_X_wakeUp_41 rfl rfl ?_
      refine j_aload_n C d_X_wakeUp_42 rfl rfl ?_
      refine j_callV C hK hAz 0 0 (k_want (o := some x) ok2 _) (jcV C mi_X_wantChangeTo t_205 t_207 t_3 rfl rfl ⟨by decide, by decide⟩) rfl rfl (by assumption) rfl rfl (Nat.le_of_ble_eq_true rfl) d_X_wakeUp_43 ⟨Nat.zero_le _, Nat.zero_le _⟩ ?_
      refine j_vret C hret hlk d_X_wakeUp_46 rfl ?_ rfl rfl
      simp only [cf_wake, g1, g5, if_true, if_false, elx, elx2]
    ·
      refine j_aload_n C d_X_wakeUp_20 rfl rfl ?_
      refine sgR (t := 6) C hK 8 x 2 d_X_wakeUp_21 in_P rfl rfl (by decide) t_157 rfl rfl rfl (by assumption) ?_
      rw [evx]
      refine j_aload_n C d_X_wakeUp_24 rfl rfl ?_
      refine j_callV C hK hAz 6 vx (k_app (r := vx) (x := x) h (by omega) hx _) (jcV C mi_R_append t_201 t_202 t_203 rfl rfl ⟨by decide, by decide⟩) rfl rfl (by assumption) rfl rfl (Nat.le_of_ble_eq_true rfl) d_X_wakeUp_25 ⟨Nat.zero_le _, Nat.zero_le _⟩ ?_
      have ok2 : OKs (cf_app σ vx x) lv := (go_app h (by omega) hx).1
      refine j_vret C hret hlk d_X_wakeUp_28 rfl ?_ rfl rfl
      simp only [cf_wake, g1, g5, if_true, if_false, elx, elx2]
set_option maxRecDepth 100000 in
set_option maxHeartbeats 4000000 in
theorem lp_aside0 {l : Launch} {D : va_G} {E : Nat → ClassId} {ad : Nat → Nat → Nat} {lv : Nat → Nat → Prop} {τ : sT} {V1 : jVT} {p : Program} {e : Env} {s : State} {m : MethodId} {below : List Frame} {meth : Method} {c : Code} {sz : Nat} (C : CallFix p m c c_X_putPresentAside 3 s ([.ref (ad 0 0)] : List Value).toArray jT "InputRoom") (hK : jK D jcl jY E s) (hret : meth.sig.returnType = none) (hlk : meth.locks = false) (hAz : ∀ q, s.heap.size ≤ q → jA ad lv sz q) : ∀ (o : Option Nat) (σ1 : sT) (i : Int32), OKs σ1 lv → jv ad (cf_want σ1 o) τ = V1 → JM l y_X_putPresentAside c_X_putPresentAside 3 (none) 1 D E ad lv p e s m below meth c sz [.ref (ad 0 0)] none (V1) (jv ad σ1 τ) 29 [some (.ref (ad 0 0)), some (va_rf (Option.map (ad 8) (o))), some (.int (i))] [] := by
  intro o σ1 i h1 hV
  have hb0 : lv 0 0 := h1.k (by decide)
  refine j_aload_n C d_X_putPresentAside_29 rfl rfl ?_
  refine j_aload_nQ C d_X_putPresentAside_30 rfl rfl ?_
  refine j_callV C hK hAz 0 0 (k_want (o := o) h1 _) (jcV C mi_X_wantChangeTo t_205 t_207 t_3 rfl rfl ⟨by decide, by decide⟩) rfl rfl (by assumption) rfl rfl (Nat.le_of_ble_eq_true rfl) d_X_putPresentAside_31 ⟨Nat.zero_le _, Nat.zero_le _⟩ ?_
  refine j_vret C hret hlk d_X_putPresentAside_34 rfl ?_ rfl rfl
  exact hV
set_option maxRecDepth 100000 in
set_option maxHeartbeats 4000000 in
theorem lp_aside {l : Launch} {D : va_G} {E : Nat → ClassId} {ad : Nat → Nat → Nat} {lv : Nat → Nat → Prop} {τ : sT} {V1 : jVT} {p : Program} {e : Env} {s : State} {m : MethodId} {below : List Frame} {meth : Method} {c : Code} {sz : Nat} (C : CallFix p m c c_X_putPresentAside 3 s ([.ref (ad 0 0)] : List Value).toArray jT "InputRoom") (hK : jK D jcl jY E s) (hret : meth.sig.returnType = none) (hlk : meth.locks = false) (hAz : ∀ q, s.heap.size ≤ q → jA ad lv sz q) : ∀ (n : Nat) (σ1 : sT) (i : Int32), OKs σ1 lv → i = nI n - 1 → n ≤ 8 → jv ad (cf_want (cf_first n σ1).2 (cf_first n σ1).1) τ = V1 → JM l y_X_putPresentAside c_X_putPresentAside 3 (none) 1 D E ad lv p e s m below meth c sz [.ref (ad 0 0)] none (V1) (jv ad σ1 τ) 5 [some (.ref (ad 0 0)), some (.null), some (.int (i))] [] := by
  intro n
  induction n with
  | zero =>
    intro σ1 i h1 hi hn hV
    have hi : i = -1 := by rw [hi]; rfl
    subst hi
    have hb0 : lv 0 0 := h1.k (by decide)
    refine j_iload_n C d_X_putPresentAside_5 rfl rfl ?_
    refine j_if_lt C 29 d_X_putPresentAside_6 rfl (fun _ => ?_) (fun g1 => absurd (by decide) g1)
    exact lp_aside0 C hK hret hlk hAz none σ1 _ h1 hV
  | succ n ih =>
    intro σ1 i h1 hi hn hV
    rw [nI_pred] at hi
    subst hi
    have hb0 : lv 0 0 := h1.k (by decide)
    have hb2 : lv 2 0 := h1.k (by decide)
    have ecl : (nI n).toNatClampNeg = n := nI_clamp (by omega)
    have hlr : lv 6 (nI n).toNatClampNeg := h1.r (by omega)
    refine j_iload_n C d_X_putPresentAside_5 rfl rfl ?_
    refine j_if_lt C 29 d_X_putPresentAside_6 rfl (fun g1 => absurd g1 (nI_pos (by omega))) (fun _ => ?_)
    refine j_aload_nQ (o := none) C d_X_putPresentAside_9 rfl rfl ?_
    refine j_ifnonnull (o := none) C 29 d_X_putPresentAside_10 rfl (fun _ q => by cases q) (fun _ => ?_)
    refine j_aload_n C d_X_putPresentAside_13 rfl rfl ?_
    refine sgC C hK 0 0 1 d_X_putPresentAside_14 in_X rfl rfl (by decide) t_107 rfl rfl rfl (by assumption) ?_
    refine j_iload_n C d_X_putPresentAside_17 rfl rfl ?_
    refine saC C hK 2 0 d_X_putPresentAside_18 rfl (vp_in_nI (by omega) (by decide)) rfl rfl (by assumption) ?_
    refine j_callV C hK hAz 6 ((nI n).toNatClampNeg) (k_take (r := (nI n).toNatClampNeg) h1 (by omega) _) (jcV C mi_R_takeFirst t_217 t_218 t_219 rfl rfl ⟨by decide, by decide⟩) rfl rfl (by assumption) rfl rfl (Nat.le_of_ble_eq_true rfl) d_X_putPresentAside_19 ⟨Nat.zero_le _, Nat.zero_le _⟩ ?_
    refine j_astore_nQ C d_X_putPresentAside_22 rfl (by decide) ?_
    refine j_iinc C d_X_putPresentAside_23 rfl (by decide) ?_
    refine j_goto C 5 d_X_putPresentAside_26 rfl ?_
    have hr : (nI n).toNatClampNeg < 24 := by omega
    have ht := go_take h1 hr
    have e1 : cf_first (n + 1) σ1 = match cf_take σ1 (nI n).toNatClampNeg with | (none, σ2) => cf_first n σ2 | (some x, σ2) => (some x, σ2) := by rw [ecl]; rfl
    cases hq : cf_take σ1 (nI n).toNatClampNeg with
    | mk o σ2 =>
      rw [hq] at ht e1
      dsimp only
      cases o with
      | none =>
        dsimp only at e1
        refine ih σ2 _ ht.1 (i32_m1 _) (by omega) ?_
        rw [← hV, e1]
      | some x =>
        dsimp only at e1
        refine j_eq rfl rfl rfl ?_
        refine j_iload_n C d_X_putPresentAside_5 rfl rfl ?_
        refine j_if_lt C 29 d_X_putPresentAside_6 rfl (fun g51 => ?_) (fun g51 => ?_)
        ·
          exact lp_aside0 C hK hret hlk hAz (some x) σ2 _ ht.1 (by rw [← hV, e1])
        ·
          refine j_aload_n C d_X_putPresentAside_9 rfl rfl ?_
          refine j_ifnonnull (o := some _) C 29 d_X_putPresentAside_10 rfl (fun _ _ => ?_) (fun q => by cases q)
          exact lp_aside0 C hK hret hlk hAz (some x) σ2 _ ht.1 (by rw [← hV, e1])
set_option maxRecDepth 100000 in
set_option maxHeartbeats 4000000 in
theorem k_aside {l : Launch} {D : va_G} {E : Nat → ClassId} {ad : Nat → Nat → Nat} {lv : Nat → Nat → Prop} {σ τ : sT} (h : OKs σ lv) : jM l y_X_putPresentAside c_X_putPresentAside 3 (none) 1 D E ad lv (jv ad σ τ) [.ref (ad 0 0)] none (jv ad (cf_aside σ) τ) := by
  intro sz
  refine jC.of "InputRoom" (by decide +kernel) rfl rfl (Nat.le_of_ble_eq_true rfl) (by intro v hv; simp only [List.mem_cons, List.not_mem_nil, or_false] at hv; rcases hv with rfl <;> first | rfl | exact jrf_cat _) ?_
  intro p e s m below meth c C hK hret hlk hnm hsz hAz
  have hb0 : lv 0 0 := h.k (by decide)
  have hb1 : lv 1 0 := h.k (by decide)
  have hb2 : lv 2 0 := h.k (by decide)
  have hb3 : lv 3 0 := h.k (by decide)
  have hb4 : lv 4 0 := h.k (by decide)
  have hb5 : lv 5 0 := h.k (by decide)
  refine j_null C d_X_putPresentAside_0 ?_
  refine j_astore_nQ (o := none) C d_X_putPresentAside_1 rfl (by decide) ?_
  refine j_bipush (v := 7) C d_X_putPresentAside_2 (by decide) ?_
  refine j_istore_n C d_X_putPresentAside_4 rfl (by decide) ?_
  exact lp_aside C hK hret hlk hAz 8 σ 7 h (by decide) (by decide) rfl
end
section
set_option maxRecDepth 100000 in
set_option maxHeartbeats 4000000 in
theorem k_sig {l : Launch} {D : va_G} {E : Nat → ClassId} {ad : Nat → Nat → Nat} {lv : Nat → Nat → Prop} {σ τ : sT} (h : OKs σ lv) {s0 : Nat} (hs : s0 < 16) : jM l y_X_signalOnce c_X_signalOnce 3 (none) 2 D E ad lv (jv ad σ τ) [.ref (ad 0 0), .ref (ad 7 s0)] none (jv ad (cf_sig σ s0) τ) := by
  intro sz
  refine jC.of "InputRoom" (by decide +kernel) rfl rfl (Nat.le_of_ble_eq_true rfl) (by intro v hv; simp only [List.mem_cons, List.not_mem_nil, or_false] at hv; rcases hv with rfl | rfl <;> first | rfl | exact jrf_cat _) ?_
  intro p e s m below meth c C hK hret hlk hnm hsz hAz
  have hb0 : lv 0 0 := h.k (by decide)
  have hb1 : lv 1 0 := h.k (by decide)
  have hb2 : lv 2 0 := h.k (by decide)
  have hb3 : lv 3 0 := h.k (by decide)
  have hb4 : lv 4 0 := h.k (by decide)
  have hb5 : lv 5 0 := h.k (by decide)
  have hl7 : lv 7 s0 := h.s hs
  have hl6 : lv 6 (8 + s0) := h.r (by omega)
  refine j_aload_n C d_X_signalOnce_0 rfl rfl ?_
  refine sgC C hK 7 s0 1 d_X_signalOnce_1 in_S rfl rfl (by decide) t_97 rfl rfl rfl (by assumption) ?_
  refine j_callV C hK hAz 6 (8 + s0) (k_take (r := 8 + s0) h (by omega) _) (jcV C mi_R_takeFirst t_217 t_218 t_219 rfl rfl ⟨by decide, by decide⟩) rfl rfl (by assumption) rfl rfl (Nat.le_of_ble_eq_true rfl) d_X_signalOnce_4 ⟨Nat.zero_le _, Nat.zero_le _⟩ ?_
  have ok2 := go_take h (r := 8 + s0) (by omega)
  refine j_astore_nQ C d_X_signalOnce_7 rfl (by decide) ?_
  refine j_aload_nQ C d_X_signalOnce_8 rfl rfl ?_
  refine jnonnull (o := (cf_take σ (8 + s0)).1) (t := 8) C 25 d_X_signalOnce_9 rfl (fun x2 g1 => ?_) (fun g1 => ?_)
  ·
    try rw [g1]
    have hmx2 : Mk (cf_take σ (8 + s0)).2 x2 := ok2.2.mk.mpr (take_ok h (by omega) g1)
    have hlx2 : lv 8 x2 := ok2.1.p hmx2
    refine j_aload_n C d_X_signalOnce_25 rfl rfl ?_
    refine j_aload_n C d_X_signalOnce_26 rfl rfl ?_
    refine j_callV C hK hAz 0 0 (k_wakeUp (x := x2) ok2.1 hmx2 _) (jcV C mi_X_wakeUp t_197 t_199 t_2 rfl rfl ⟨by decide, by decide⟩) rfl rfl (by assumption) rfl rfl (Nat.le_of_ble_eq_true rfl) d_X_signalOnce_27 ⟨Nat.zero_le _, Nat.zero_le _⟩ ?_
    refine j_vret C hret hlk d_X_signalOnce_30 rfl ?_ rfl rfl
    simp only [cf_sig, g1]
  ·
    try rw [g1]
    refine j_aload_n C d_X_signalOnce_12 rfl rfl ?_
    refine j_dup C d_X_signalOnce_13 rfl ?_
    refine sgI C hK 7 s0 2 d_X_signalOnce_14 in_S rfl rfl (by decide) t_98 rfl rfl rfl (by assumption) ?_
    refine j_iconst (v := 1) C d_X_signalOnce_17 (by decide) ?_
    refine j_iadd C d_X_signalOnce_18 ?_
    refine spI C hK 7 s0 2 ty_S tk_S nm_S d_X_signalOnce_19 in_S rfl rfl (by decide) t_98 rfl rfl rfl rfl (((cf_take σ (8 + s0)).2.1 7 s0 2 + 1)) rfl rfl (by assumption) ?_
    refine j_goto C 30 d_X_signalOnce_22 rfl ?_
    refine j_vret C hret hlk d_X_signalOnce_30 rfl ?_ rfl rfl
    simp only [cf_sig, g1]
set_option maxRecDepth 100000 in
set_option maxHeartbeats 4000000 in
theorem k_wait {l : Launch} {D : va_G} {E : Nat → ClassId} {ad : Nat → Nat → Nat} {lv : Nat → Nat → Prop} {σ τ : sT} (h : OKs σ lv) {s0 : Nat} (hs : s0 < 16) : jM l y_X_waitFor c_X_waitFor 3 (none) 2 D E ad lv (jv ad σ τ) [.ref (ad 0 0), .ref (ad 7 s0)] none (jv ad (cf_wait σ s0) τ) := by
  intro sz
  refine jC.of "InputRoom" (by decide +kernel) rfl rfl (Nat.le_of_ble_eq_true rfl) (by intro v hv; simp only [List.mem_cons, List.not_mem_nil, or_false] at hv; rcases hv with rfl | rfl <;> first | rfl | exact jrf_cat _) ?_
  intro p e s m below meth c C hK hret hlk hnm hsz hAz
  have hb0 : lv 0 0 := h.k (by decide)
  have hb1 : lv 1 0 := h.k (by decide)
  have hb2 : lv 2 0 := h.k (by decide)
  have hb3 : lv 3 0 := h.k (by decide)
  have hb4 : lv 4 0 := h.k (by decide)
  have hb5 : lv 5 0 := h.k (by decide)
  have hl7 : lv 7 s0 := h.s hs
  have hl6 : lv 6 (8 + s0) := h.r (by omega)
  refine j_aload_n C d_X_waitFor_0 rfl rfl ?_
  refine j_callV C hK hAz 0 0 (k_pres h _) (jcV C mi_X_presentOne t_193 t_195 t_1 rfl rfl ⟨by decide, by decide⟩) rfl rfl (by assumption) rfl rfl (Nat.le_of_ble_eq_true rfl) d_X_waitFor_1 ⟨Nat.zero_le _, Nat.zero_le _⟩ ?_
  refine j_astore_nQ C d_X_waitFor_4 rfl (by decide) ?_
  refine j_aload_nQ C d_X_waitFor_5 rfl rfl ?_
  refine jnonnull (o := cf_pres σ) (t := 8) C 10 d_X_waitFor_6 rfl (fun x2 g1 => ?_) (fun g1 => ?_)
  ·
    try rw [g1]
    have hmx2 : Mk σ x2 := pres_ok h g1
    have hlx2 : lv 8 x2 := h.p hmx2
    obtain ⟨vx2, hvx2, evx2⟩ := h.rdy hmx2
    have hlvx2 : lv 6 vx2 := h.r (by omega)
    have elx2 : lev σ x2 = vx2 := by unfold lev; rw [evx2]; rfl
    refine j_aload_n C d_X_waitFor_10 rfl rfl ?_
    refine sgI C hK 7 s0 2 d_X_waitFor_11 in_S rfl rfl (by decide) t_98 rfl rfl rfl (by assumption) ?_
    refine j_if_le C 28 d_X_waitFor_14 rfl (fun g3 => ?_) (fun g3 => ?_)
    ·
      refine j_aload_n C d_X_waitFor_28 rfl rfl ?_
      refine sgC C hK 7 s0 1 d_X_waitFor_29 in_S rfl rfl (by decide) t_97 rfl rfl rfl (by assumption) ?_
      refine j_aload_n C d_X_waitFor_32 rfl rfl ?_
      refine j_callV C hK hAz 6 (8 + s0) (k_app (r := (8 + s0)) (x := x2) h (by omega) hmx2 _) (jcV C mi_R_append t_201 t_202 t_203 rfl rfl ⟨by decide, by decide⟩) rfl rfl (by assumption) rfl rfl (Nat.le_of_ble_eq_true rfl) d_X_waitFor_33 ⟨Nat.zero_le _, Nat.zero_le _⟩ ?_
      have ok2 : OKs (cf_app σ (8 + s0) x2) lv := (go_app h (by omega) hmx2).1
      refine j_aload_n C d_X_waitFor_36 rfl rfl ?_
      refine j_callV C hK hAz 0 0 (k_aside ok2 _) (jcV C mi_X_putPresentAside t_213 t_215 t_4 rfl rfl ⟨by decide, by decide⟩) rfl rfl (by assumption) rfl rfl (Nat.le_of_ble_eq_true rfl) d_X_waitFor_37 ⟨Nat.zero_le _, Nat.zero_le _⟩ ?_
      refine j_vret C hret hlk d_X_waitFor_40 rfl ?_ rfl rfl
      simp only [cf_wait, g1, g3, if_true, if_false]
    ·
      refine j_aload_n C d_X_waitFor_17 rfl rfl ?_
      refine j_dup C d_X_waitFor_18 rfl ?_
      refine sgI C hK 7 s0 2 d_X_waitFor_19 in_S rfl rfl (by decide) t_98 rfl rfl rfl (by assumption) ?_
      refine j_iconst (v := 1) C d_X_waitFor_22 (by decide) ?_
      refine j_isub C d_X_waitFor_23 ?_
      refine spI C hK 7 s0 2 ty_S tk_S nm_S d_X_waitFor_24 in_S rfl rfl (by decide) t_98 rfl rfl rfl rfl ((σ.1 7 s0 2 - 1)) rfl rfl (by assumption) ?_
      refine j_vret C hret hlk d_X_waitFor_27 rfl ?_ rfl rfl
      simp only [cf_wait, g1, g3, if_true, if_false]
  ·
    try rw [g1]
    refine j_vret C hret hlk d_X_waitFor_9 rfl ?_ rfl rfl
    simp only [cf_wait, g1, if_true, if_false]
set_option maxRecDepth 100000 in
set_option maxHeartbeats 4000000 in
theorem k_give {l : Launch} {D : va_G} {E : Nat → ClassId} {ad : Nat → Nat → Nat} {lv : Nat → Nat → Prop} {σ τ : sT} (h : OKs σ lv) : jM l y_X_giveWay c_X_giveWay 2 (none) 2 D E ad lv (jv ad σ τ) [.ref (ad 0 0)] none (jv ad (cf_give σ) τ) := by
  intro sz
  refine jC.of "InputRoom" (by decide +kernel) rfl rfl (Nat.le_of_ble_eq_true rfl) (by intro v hv; simp only [List.mem_cons, List.not_mem_nil, or_false] at hv; rcases hv with rfl <;> first | rfl | exact jrf_cat _) ?_
  intro p e s m below meth c C hK hret hlk hnm hsz hAz
  have hb0 : lv 0 0 := h.k (by decide)
  have hb1 : lv 1 0 := h.k (by decide)
  have hb2 : lv 2 0 := h.k (by decide)
  have hb3 : lv 3 0 := h.k (by decide)
  have hb4 : lv 4 0 := h.k (by decide)
  have hb5 : lv 5 0 := h.k (by decide)
  refine j_aload_n C d_X_giveWay_0 rfl rfl ?_
  refine j_callV C hK hAz 0 0 (k_pres h _) (jcV C mi_X_presentOne t_193 t_195 t_1 rfl rfl ⟨by decide, by decide⟩) rfl rfl (by assumption) rfl rfl (Nat.le_of_ble_eq_true rfl) d_X_giveWay_1 ⟨Nat.zero_le _, Nat.zero_le _⟩ ?_
  refine j_astore_nQ C d_X_giveWay_4 rfl (by decide) ?_
  refine j_aload_nQ C d_X_giveWay_5 rfl rfl ?_
  refine jnull (o := cf_pres σ) (t := 8) C 19 d_X_giveWay_6 rfl (fun g1 => ?_) (fun x2 g1 => ?_)
  ·
    try rw [g1]
    refine j_vret C hret hlk d_X_giveWay_19 rfl ?_ rfl rfl
    simp only [cf_give, g1]
  ·
    try rw [g1]
    have hmx2 : Mk σ x2 := pres_ok h g1
    have hlx2 : lv 8 x2 := h.p hmx2
    obtain ⟨vx2, hvx2, evx2⟩ := h.rdy hmx2
    have hlvx2 : lv 6 vx2 := h.r (by omega)
    have elx2 : lev σ x2 = vx2 := by unfold lev; rw [evx2]; rfl
    refine j_aload_n C d_X_giveWay_9 rfl rfl ?_
    refine sgR (t := 6) C hK 8 x2 2 d_X_giveWay_10 in_P rfl rfl (by decide) t_157 rfl rfl rfl (by assumption) ?_
    rw [evx2]
    refine j_callV C hK hAz 6 vx2 (k_isEmpty (r := vx2) h (by omega) _) (jcV C mi_R_isEmpty t_306 t_307 t_308 rfl rfl ⟨by decide, by decide⟩) rfl rfl (by assumption) rfl rfl (Nat.le_of_ble_eq_true rfl) d_X_giveWay_13 ⟨Nat.zero_le _, Nat.zero_le _⟩ ?_
    refine j_if_eq C 20 d_X_giveWay_16 rfl (fun g3 => ?_) (fun g3 => ?_)
    ·
      refine j_aload_n C d_X_giveWay_20 rfl rfl ?_
      refine sgR (t := 6) C hK 8 x2 2 d_X_giveWay_21 in_P rfl rfl (by decide) t_157 rfl rfl rfl (by assumption) ?_
      rw [evx2]
      refine j_aload_n C d_X_giveWay_24 rfl rfl ?_
      refine j_callV C hK hAz 6 vx2 (k_app (r := vx2) (x := x2) h (by omega) hmx2 _) (jcV C mi_R_append t_201 t_202 t_203 rfl rfl ⟨by decide, by decide⟩) rfl rfl (by assumption) rfl rfl (Nat.le_of_ble_eq_true rfl) d_X_giveWay_25 ⟨Nat.zero_le _, Nat.zero_le _⟩ ?_
      have ok2 : OKs (cf_app σ vx2 x2) lv := (go_app h (by omega) hmx2).1
      refine j_aload_n C d_X_giveWay_28 rfl rfl ?_
      refine j_callV C hK hAz 0 0 (k_aside ok2 _) (jcV C mi_X_putPresentAside t_213 t_215 t_4 rfl rfl ⟨by decide, by decide⟩) rfl rfl (by assumption) rfl rfl (Nat.le_of_ble_eq_true rfl) d_X_giveWay_29 ⟨Nat.zero_le _, Nat.zero_le _⟩ ?_
      refine j_vret C hret hlk d_X_giveWay_32 rfl ?_ rfl rfl
      simp only [cf_give, g1, elx2]
      cases hq : σ.2.1 6 vx2 1 with
      | none => rw [hq] at g3; exact absurd g3 (by decide)
      | some z => rfl
    ·
      refine j_vret C hret hlk d_X_giveWay_19 rfl ?_ rfl rfl
      simp only [cf_give, g1, elx2]
      cases hq : σ.2.1 6 vx2 1 with
      | none => rfl
      | some z => rw [hq] at g3; exact absurd rfl g3
set_option maxRecDepth 100000 in
set_option maxHeartbeats 4000000 in
theorem lp_words {l : Launch} {D : va_G} {E : Nat → ClassId} {ad : Nat → Nat → Nat} {lv : Nat → Nat → Prop} {τ : sT} {V1 : jVT} {a : Int32} {s0 : Nat} {p : Program} {e : Env} {s : State} {m : MethodId} {below : List Frame} {meth : Method} {c : Code} {sz : Nat} (C : CallFix p m c c_X_signalNewWords 3 s ([.ref (ad 0 0)] : List Value).toArray jT "InputRoom") (hK : jK D jcl jY E s) (hret : meth.sig.returnType = none) (hlk : meth.locks = false) (hAz : ∀ q, s.heap.size ≤ q → jA ad lv sz q) : ∀ (n : Nat) (σ1 : sT) (i : Int32), OKs σ1 lv → σ1.2.1 0 0 9 = some s0 → (i.toInt + n = a.toInt ∨ (n = 0 ∧ a.toInt ≤ i.toInt)) → jv ad (cf_many s0 n σ1) τ = V1 → JM l y_X_signalNewWords c_X_signalNewWords 3 (none) 3 D E ad lv p e s m below meth c sz [.ref (ad 0 0)] none (V1) (jv ad σ1 τ) 18 [some (.ref (ad 0 0)), some (.int (a)), some (.int (i))] [] := by
  intro n
  induction n with
  | zero =>
    intro σ1 i h1 hin hi hV
    have hge : a ≤ i := by rw [i32_le]; rcases hi with hi | hi <;> omega
    refine j_iload_n C d_X_signalNewWords_18 rfl rfl ?_
    refine j_iload_n C d_X_signalNewWords_19 rfl rfl ?_
    refine j_icmp_ge C 37 d_X_signalNewWords_20 rfl (fun _ => ?_) (fun g1 => absurd hge g1)
    refine j_vret C hret hlk d_X_signalNewWords_37 rfl ?_ rfl rfl
    exact hV
  | succ n ih =>
    intro σ1 i h1 hin hi hV
    have hlt : i.toInt < a.toInt := by rcases hi with hi | hi <;> omega
    have hge : ¬ a ≤ i := by rw [i32_le]; omega
    have hb0 : lv 0 0 := h1.k (by decide)
    have hs : s0 < 16 := h1.inp hin
    have hl7 : lv 7 s0 := h1.s hs
    refine j_iload_n C d_X_signalNewWords_18 rfl rfl ?_
    refine j_iload_n C d_X_signalNewWords_19 rfl rfl ?_
    refine j_icmp_ge C 37 d_X_signalNewWords_20 rfl (fun g1 => absurd g1 hge) (fun _ => ?_)
    refine j_aload_n C d_X_signalNewWords_23 rfl rfl ?_
    refine j_aload_n C d_X_signalNewWords_24 rfl rfl ?_
    refine sgR (t := 7) C hK 0 0 9 d_X_signalNewWords_25 in_X rfl rfl (by decide) t_115 rfl rfl rfl (by assumption) ?_
    rw [hin]
    refine j_callV C hK hAz 0 0 (k_sig (s0 := s0) h1 hs _) (jcV C mi_X_signalOnce t_228 t_230 t_5 rfl rfl ⟨by decide, by decide⟩) rfl rfl (by assumption) rfl rfl (Nat.le_of_ble_eq_true rfl) d_X_signalNewWords_28 ⟨Nat.zero_le _, Nat.zero_le _⟩ ?_
    refine j_iinc C d_X_signalNewWords_31 rfl (by decide) ?_
    refine j_goto C 18 d_X_signalNewWords_34 rfl ?_
    refine ih (cf_sig σ1 s0) _ (go_sig h1 hs).1 (((fr_sig σ1 s0).2.1 0 0 9 (by decide) (by decide) (by decide)).trans hin) (Or.inl ?_) hV
    rw [i32_succ hlt]
    rcases hi with hi | hi <;> omega
set_option maxRecDepth 100000 in
set_option maxHeartbeats 4000000 in
theorem k_words {l : Launch} {D : va_G} {E : Nat → ClassId} {ad : Nat → Nat → Nat} {lv : Nat → Nat → Prop} {σ τ : sT} (h : OKs σ lv) : jM l y_X_signalNewWords c_X_signalNewWords 3 (none) 3 D E ad lv (jv ad σ τ) [.ref (ad 0 0)] none (jv ad (cf_words σ) τ) := by
  intro sz
  refine jC.of "InputRoom" (by decide +kernel) rfl rfl (Nat.le_of_ble_eq_true rfl) (by intro v hv; simp only [List.mem_cons, List.not_mem_nil, or_false] at hv; rcases hv with rfl <;> first | rfl | exact jrf_cat _) ?_
  intro p e s m below meth c C hK hret hlk hnm hsz hAz
  have hb0 : lv 0 0 := h.k (by decide)
  have hb1 : lv 1 0 := h.k (by decide)
  have hb2 : lv 2 0 := h.k (by decide)
  have hb3 : lv 3 0 := h.k (by decide)
  have hb4 : lv 4 0 := h.k (by decide)
  have hb5 : lv 5 0 := h.k (by decide)
  refine j_aload_n C d_X_signalNewWords_0 rfl rfl ?_
  refine sgC C hK 0 0 3 d_X_signalNewWords_1 in_X rfl rfl (by decide) t_109 rfl rfl rfl (by assumption) ?_
  refine j_callV C hK hAz 4 0 (k_takeUntold h _) (jcV C mi_W_takeUntold t_277 t_278 t_279 rfl rfl ⟨by decide, by decide⟩) rfl rfl (by assumption) rfl rfl (Nat.le_of_ble_eq_true rfl) d_X_signalNewWords_4 ⟨Nat.zero_le _, Nat.zero_le _⟩ ?_
  refine j_istore_n C d_X_signalNewWords_7 rfl (by decide) ?_
  refine j_aload_n C d_X_signalNewWords_8 rfl rfl ?_
  refine sgR (t := 7) C hK 0 0 9 d_X_signalNewWords_9 in_X rfl rfl (by decide) t_115 rfl rfl rfl (by assumption) ?_
  refine jnonnull (o := (sI σ 4 0 3 0).2.1 0 0 9) (t := 7) C 16 d_X_signalNewWords_12 rfl (fun x2 g1 => ?_) (fun g1 => ?_)
  ·
    try rw [g1]
    have hsx2 : x2 < 16 := h.inp g1
    have hlx2 : lv 7 x2 := h.s hsx2
    refine j_iconst (v := 0) C d_X_signalNewWords_16 (by decide) ?_
    refine j_istore_n C d_X_signalNewWords_17 rfl (by decide) ?_
    have g9 : σ.2.1 0 0 9 = some x2 := g1
    refine lp_words (a := σ.1 4 0 3) (s0 := x2) C hK hret hlk hAz (σ.1 4 0 3).toNatClampNeg (sI σ 4 0 3 0) 0 h.I g1 ?_ (by simp only [cf_words, g9])
    rw [← Int32.toNat_toInt]
    rw [i32_0]
    omega
  ·
    try rw [g1]
    refine j_vret C hret hlk d_X_signalNewWords_15 rfl ?_ rfl rfl
    have g9 : σ.2.1 0 0 9 = none := g1
    simp only [cf_words, g9]
set_option maxRecDepth 100000 in
set_option maxHeartbeats 4000000 in
theorem k_due {l : Launch} {D : va_G} {E : Nat → ClassId} {ad : Nat → Nat → Nat} {lv : Nat → Nat → Prop} {σ τ : sT} (h : OKs σ lv) : jM l y_X_signalDueAlarm c_X_signalDueAlarm 2 (none) 3 D E ad lv (jv ad σ τ) [.ref (ad 0 0)] none (jv ad (cf_due σ) τ) := by
  intro sz
  refine jC.of "InputRoom" (by decide +kernel) rfl rfl (Nat.le_of_ble_eq_true rfl) (by intro v hv; simp only [List.mem_cons, List.not_mem_nil, or_false] at hv; rcases hv with rfl <;> first | rfl | exact jrf_cat _) ?_
  intro p e s m below meth c C hK hret hlk hnm hsz hAz
  have hb0 : lv 0 0 := h.k (by decide)
  have hb1 : lv 1 0 := h.k (by decide)
  have hb2 : lv 2 0 := h.k (by decide)
  have hb3 : lv 3 0 := h.k (by decide)
  have hb4 : lv 4 0 := h.k (by decide)
  have hb5 : lv 5 0 := h.k (by decide)
  refine j_aload_n C d_X_signalDueAlarm_0 rfl rfl ?_
  refine sgR (t := 7) C hK 0 0 10 d_X_signalDueAlarm_1 in_X rfl rfl (by decide) t_116 rfl rfl rfl (by assumption) ?_
  refine jnull (o := σ.2.1 0 0 10) (t := 7) C 18 d_X_signalDueAlarm_4 rfl (fun g1 => ?_) (fun x2 g1 => ?_)
  ·
    try rw [g1]
    refine j_vret C hret hlk d_X_signalDueAlarm_18 rfl ?_ rfl rfl
    simp only [cf_due, g1, if_true, if_false]
  ·
    try rw [g1]
    have hsx2 : x2 < 16 := h.al g1
    have hlx2 : lv 7 x2 := h.s hsx2
    refine j_aload_n C d_X_signalDueAlarm_7 rfl rfl ?_
    refine sgI C hK 0 0 7 d_X_signalDueAlarm_8 in_X rfl rfl (by decide) t_113 rfl rfl rfl (by assumption) ?_
    refine j_aload_n C d_X_signalDueAlarm_11 rfl rfl ?_
    refine sgI C hK 0 0 11 d_X_signalDueAlarm_12 in_X rfl rfl (by decide) t_117 rfl rfl rfl (by assumption) ?_
    refine j_icmp_ge C 19 d_X_signalDueAlarm_15 rfl (fun g3 => ?_) (fun g3 => ?_)
    ·
      refine j_aload_n C d_X_signalDueAlarm_19 rfl rfl ?_
      refine sgR (t := 7) C hK 0 0 10 d_X_signalDueAlarm_20 in_X rfl rfl (by decide) t_116 rfl rfl rfl (by assumption) ?_
      rw [g1]
      refine j_astore_n C d_X_signalDueAlarm_23 rfl (by decide) ?_
      refine j_aload_n C d_X_signalDueAlarm_24 rfl rfl ?_
      refine j_null C d_X_signalDueAlarm_25 ?_
      refine spP (t := 7) C hK 0 0 10 ty_X tk_X nm_X d_X_signalDueAlarm_26 in_X rfl rfl (by decide) t_116 rfl rfl rfl rfl (none) rfl rfl (by assumption) ?_
      refine j_aload_n C d_X_signalDueAlarm_29 rfl rfl ?_
      refine j_aload_n C d_X_signalDueAlarm_30 rfl rfl ?_
      refine j_callV C hK hAz 0 0 (k_sig (s0 := x2) (GO.S (j := 10) (o := none) h (Or.inr rfl) (fun y q => by cases q)).1 hsx2 _) (jcV C mi_X_signalOnce t_228 t_230 t_5 rfl rfl ⟨by decide, by decide⟩) rfl rfl (by assumption) rfl rfl (Nat.le_of_ble_eq_true rfl) d_X_signalDueAlarm_31 ⟨Nat.zero_le _, Nat.zero_le _⟩ ?_
      refine j_vret C hret hlk d_X_signalDueAlarm_34 rfl ?_ rfl rfl
      simp only [cf_due, g1, g3, if_true, if_false]
    ·
      refine j_vret C hret hlk d_X_signalDueAlarm_18 rfl ?_ rfl rfl
      simp only [cf_due, g1, g3, if_true, if_false]
set_option maxRecDepth 100000 in
set_option maxHeartbeats 4000000 in
theorem k_settle {l : Launch} {D : va_G} {E : Nat → ClassId} {ad : Nat → Nat → Nat} {lv : Nat → Nat → Prop} {σ τ : sT} (h : OKs σ lv) : jM l y_X_settle c_X_settle 1 (none) 4 D E ad lv (jv ad σ τ) [.ref (ad 0 0)] none (jv ad (cf_settle σ) τ) := by
  intro sz
  refine jC.of "InputRoom" (by decide +kernel) rfl rfl (Nat.le_of_ble_eq_true rfl) (by intro v hv; simp only [List.mem_cons, List.not_mem_nil, or_false] at hv; rcases hv with rfl <;> first | rfl | exact jrf_cat _) ?_
  intro p e s m below meth c C hK hret hlk hnm hsz hAz
  have hb0 : lv 0 0 := h.k (by decide)
  have hb1 : lv 1 0 := h.k (by decide)
  have hb2 : lv 2 0 := h.k (by decide)
  have hb3 : lv 3 0 := h.k (by decide)
  have hb4 : lv 4 0 := h.k (by decide)
  have hb5 : lv 5 0 := h.k (by decide)
  refine j_aload_n C d_X_settle_0 rfl rfl ?_
  refine j_callV C hK hAz 0 0 (k_words h _) (jcV C mi_X_signalNewWords t_273 t_275 t_10 rfl rfl ⟨by decide, by decide⟩) rfl rfl (by assumption) rfl rfl (Nat.le_of_ble_eq_true rfl) d_X_settle_1 ⟨Nat.zero_le _, Nat.zero_le _⟩ ?_
  have ok2 : OKs (cf_words σ) lv := (go_words h).1
  refine j_aload_n C d_X_settle_4 rfl rfl ?_
  refine j_callV C hK hAz 0 0 (k_due ok2 _) (jcV C mi_X_signalDueAlarm t_281 t_283 t_11 rfl rfl ⟨by decide, by decide⟩) rfl rfl (by assumption) rfl rfl (Nat.le_of_ble_eq_true rfl) d_X_settle_5 ⟨Nat.zero_le _, Nat.zero_le _⟩ ?_
  have ok3 : OKs (cf_due (cf_words σ)) lv := (go_due ok2).1
  refine j_aload_n C d_X_settle_8 rfl rfl ?_
  refine sgI C hK 0 0 5 d_X_settle_9 in_X rfl rfl (by decide) t_111 rfl rfl rfl (by assumption) ?_
  refine j_if_eq C 33 d_X_settle_12 rfl (fun g1 => ?_) (fun g1 => ?_)
  ·
    refine j_vret C hret hlk d_X_settle_33 rfl ?_ rfl rfl
    simp only [cf_settle, g1, if_true, if_false]
  ·
    refine j_aload_n C d_X_settle_15 rfl rfl ?_
    refine j_aload_n C d_X_settle_16 rfl rfl ?_
    refine sgR (t := 8) C hK 0 0 6 d_X_settle_17 in_X rfl rfl (by decide) t_112 rfl rfl rfl (by assumption) ?_
    refine spP (t := 8) C hK 0 0 4 ty_X tk_X nm_X d_X_settle_20 in_X rfl rfl (by decide) t_110 rfl rfl rfl rfl ((cf_due (cf_words σ)).2.1 0 0 6) (by cases ((cf_due (cf_words σ)).2.1 0 0 6) <;> rfl) (by cases ((cf_due (cf_words σ)).2.1 0 0 6) <;> rfl) (by assumption) ?_
    refine j_aload_n C d_X_settle_23 rfl rfl ?_
    refine j_iconst (v := 0) C d_X_settle_24 (by decide) ?_
    refine spI C hK 0 0 5 ty_X tk_X nm_X d_X_settle_25 in_X rfl rfl (by decide) t_111 rfl rfl rfl rfl (0) (by first | rfl | decide) (by first | rfl | decide) (by assumption) ?_
    refine j_aload_n C d_X_settle_28 rfl rfl ?_
    refine j_null C d_X_settle_29 ?_
    refine spP (t := 8) C hK 0 0 6 ty_X tk_X nm_X d_X_settle_30 in_X rfl rfl (by decide) t_112 rfl rfl rfl rfl (none) rfl rfl (by assumption) ?_
    refine j_vret C hret hlk d_X_settle_33 rfl ?_ rfl rfl
    simp only [cf_settle, g1, if_true, if_false]
set_option maxRecDepth 100000 in
set_option maxHeartbeats 4000000 in
theorem k_behind {l : Launch} {D : va_G} {E : Nat → ClassId} {ad : Nat → Nat → Nat} {lv : Nat → Nat → Prop} {σ τ : sT} (h : OKs σ lv) : jM l y_X_doBehind c_X_doBehind 1 (none) 5 D E ad lv (jv ad σ τ) [.ref (ad 0 0)] none (jv ad (cf_behind σ) τ) := by
  intro sz
  refine jC.of "InputRoom" (by decide +kernel) rfl rfl (Nat.le_of_ble_eq_true rfl) (by intro v hv; simp only [List.mem_cons, List.not_mem_nil, or_false] at hv; rcases hv with rfl <;> first | rfl | exact jrf_cat _) ?_
  intro p e s m below meth c C hK hret hlk hnm hsz hAz
  have hb0 : lv 0 0 := h.k (by decide)
  have hb1 : lv 1 0 := h.k (by decide)
  have hb2 : lv 2 0 := h.k (by decide)
  have hb3 : lv 3 0 := h.k (by decide)
  have hb4 : lv 4 0 := h.k (by decide)
  have hb5 : lv 5 0 := h.k (by decide)
  refine j_aload_n C d_X_doBehind_0 rfl rfl ?_
  refine j_callV C hK hAz 0 0 (k_settle h _) (jcV C mi_X_settle t_269 t_271 t_9 rfl rfl ⟨by decide, by decide⟩) rfl rfl (by assumption) rfl rfl (Nat.le_of_ble_eq_true rfl) d_X_doBehind_1 ⟨Nat.zero_le _, Nat.zero_le _⟩ ?_
  have ok2 : OKs (cf_settle σ) lv := (go_settle h).1
  refine j_aload_n C d_X_doBehind_4 rfl rfl ?_
  refine sgR (t := 8) C hK 0 0 4 d_X_doBehind_5 in_X rfl rfl (by decide) t_110 rfl rfl rfl (by assumption) ?_
  refine jnonnull (o := (cf_settle σ).2.1 0 0 4) (t := 8) C 30 d_X_doBehind_8 rfl (fun x2 g1 => ?_) (fun g1 => ?_)
  ·
    try rw [g1]
    have hmx2 : Mk (cf_settle σ) x2 := ok2.ac g1
    have hlx2 : lv 8 x2 := ok2.p hmx2
    have hax2 : lv 9 x2 := ok2.a hmx2
    refine j_vret C hret hlk d_X_doBehind_30 rfl ?_ rfl rfl
    simp only [cf_behind, g1]
  ·
    try rw [g1]
    refine j_aload_n C d_X_doBehind_11 rfl rfl ?_
    refine sgR (t := 7) C hK 0 0 10 d_X_doBehind_12 in_X rfl rfl (by decide) t_116 rfl rfl rfl (by assumption) ?_
    refine jnull (o := (cf_settle σ).2.1 0 0 10) (t := 7) C 30 d_X_doBehind_15 rfl (fun g3 => ?_) (fun x4 g3 => ?_)
    ·
      try rw [g3]
      refine j_vret C hret hlk d_X_doBehind_30 rfl ?_ rfl rfl
      simp only [cf_behind, g1, g3]
    ·
      try rw [g3]
      have hsx4 : x4 < 16 := ok2.al g3
      have hlx4 : lv 7 x4 := ok2.s hsx4
      refine j_aload_n C d_X_doBehind_18 rfl rfl ?_
      refine j_aload_n C d_X_doBehind_19 rfl rfl ?_
      refine sgI C hK 0 0 11 d_X_doBehind_20 in_X rfl rfl (by decide) t_117 rfl rfl rfl (by assumption) ?_
      refine spI C hK 0 0 7 ty_X tk_X nm_X d_X_doBehind_23 in_X rfl rfl (by decide) t_113 rfl rfl rfl rfl ((cf_settle σ).1 0 0 11) rfl rfl (by assumption) ?_
      refine j_aload_n C d_X_doBehind_26 rfl rfl ?_
      refine j_callV C hK hAz 0 0 (k_settle (σ := (sI (cf_settle σ) 0 0 7 ((cf_settle σ).1 0 0 11))) ok2 _) (jcV C mi_X_settle t_269 t_271 t_9 rfl rfl ⟨by decide, by decide⟩) rfl rfl (by assumption) rfl rfl (Nat.le_of_ble_eq_true rfl) d_X_doBehind_27 ⟨Nat.zero_le _, Nat.zero_le _⟩ ?_
      refine j_vret C hret hlk d_X_doBehind_30 rfl ?_ rfl rfl
      simp only [cf_behind, g1, g3]
theorem isS_in {x : Int32} (h : isS x) : vp_in x 16 := by
  rw [vp_in_iff]
  obtain ⟨h0, h1⟩ := h
  rw [i32_le, i32_0] at h0
  rw [i32_lt, i32_16] at h1
  omega
set_option maxRecDepth 100000 in
set_option maxHeartbeats 4000000 in
theorem k_act {l : Launch} {D : va_G} {E : Nat → ClassId} {ad : Nat → Nat → Nat} {lv : Nat → Nat → Prop} {σ τ : sT} (h : OKs σ lv) {a : Int32} : jM l y_X_doAct c_X_doAct 2 (none) 3 D E ad lv (jv ad σ τ) [.ref (ad 0 0), .int (a)] none (jv ad (cf_act σ a) τ) := by
  intro sz
  refine jC.of "InputRoom" (by decide +kernel) rfl rfl (Nat.le_of_ble_eq_true rfl) (by intro v hv; simp only [List.mem_cons, List.not_mem_nil, or_false] at hv; rcases hv with rfl | rfl <;> first | rfl | exact jrf_cat _) ?_
  intro p e s m below meth c C hK hret hlk hnm hsz hAz
  have hb0 : lv 0 0 := h.k (by decide)
  have hb1 : lv 1 0 := h.k (by decide)
  have hb2 : lv 2 0 := h.k (by decide)
  have hb3 : lv 3 0 := h.k (by decide)
  have hb4 : lv 4 0 := h.k (by decide)
  have hb5 : lv 5 0 := h.k (by decide)
  refine j_iload_n C d_X_doAct_0 rfl rfl ?_
  refine j_bipush (v := 16) C d_X_doAct_1 (by decide) ?_
  refine j_isub C d_X_doAct_3 ?_
  refine j_callS C hK hAz (k_isSem (a := a - 16) _) ⟨jcB C mi_X_isSemaphore t_225 rfl rfl ⟨by decide, by decide⟩, C.2.2.2.2 _ t_226⟩ rfl rfl (Nat.le_of_ble_eq_true rfl) d_X_doAct_4 ⟨Nat.zero_le _, Nat.zero_le _⟩ ?_
  refine j_if_eq C 26 d_X_doAct_7 rfl (fun g1 => ?_) (fun g1 => ?_)
  ·
    have n16 : ¬ isS (a - 16) := fun z => by rw [if_pos z] at g1; exact absurd g1 (by decide)
    refine j_iload_n C d_X_doAct_26 rfl rfl ?_
    refine j_bipush (v := 32) C d_X_doAct_27 (by decide) ?_
    refine j_isub C d_X_doAct_29 ?_
    refine j_callS C hK hAz (k_isSem (a := a - 32) _) ⟨jcB C mi_X_isSemaphore t_225 rfl rfl ⟨by decide, by decide⟩, C.2.2.2.2 _ t_226⟩ rfl rfl (Nat.le_of_ble_eq_true rfl) d_X_doAct_30 ⟨Nat.zero_le _, Nat.zero_le _⟩ ?_
    refine j_if_eq C 52 d_X_doAct_33 rfl (fun g2 => ?_) (fun g2 => ?_)
    ·
      have n32 : ¬ isS (a - 32) := fun z => by rw [if_pos z] at g2; exact absurd g2 (by decide)
      refine j_iload_n C d_X_doAct_52 rfl rfl ?_
      refine j_bipush (v := 48) C d_X_doAct_53 (by decide) ?_
      refine j_icmp_ne C 65 d_X_doAct_55 rfl (fun g3 => ?_) (fun g3 => ?_)
      ·
        refine j_iload_n C d_X_doAct_65 rfl rfl ?_
        refine j_bipush (v := 49) C d_X_doAct_66 (by decide) ?_
        refine j_icmp_ne C 81 d_X_doAct_68 rfl (fun g4 => ?_) (fun g4 => ?_)
        ·
          refine j_iload_n C d_X_doAct_81 rfl rfl ?_
          refine j_bipush (v := 50) C d_X_doAct_82 (by decide) ?_
          refine j_icmp_ne C 95 d_X_doAct_84 rfl (fun g5 => ?_) (fun g5 => ?_)
          ·
            refine j_iload_n C d_X_doAct_95 rfl rfl ?_
            refine j_bipush (v := 64) C d_X_doAct_96 (by decide) ?_
            refine j_isub C d_X_doAct_98 ?_
            refine j_callS C hK hAz (k_isSem (a := a - 64) _) ⟨jcB C mi_X_isSemaphore t_225 rfl rfl ⟨by decide, by decide⟩, C.2.2.2.2 _ t_226⟩ rfl rfl (Nat.le_of_ble_eq_true rfl) d_X_doAct_99 ⟨Nat.zero_le _, Nat.zero_le _⟩ ?_
            refine j_if_eq C 127 d_X_doAct_102 rfl (fun g6 => ?_) (fun g6 => ?_)
            ·
              have n64 : ¬ isS (a - 64) := fun z => by rw [if_pos z] at g6; exact absurd g6 (by decide)
              refine j_iload_n C d_X_doAct_127 rfl rfl ?_
              refine j_bipush (v := 80) C d_X_doAct_128 (by decide) ?_
              refine j_isub C d_X_doAct_130 ?_
              refine j_callS C hK hAz (k_isSem (a := a - 80) _) ⟨jcB C mi_X_isSemaphore t_225 rfl rfl ⟨by decide, by decide⟩, C.2.2.2.2 _ t_226⟩ rfl rfl (Nat.le_of_ble_eq_true rfl) d_X_doAct_131 ⟨Nat.zero_le _, Nat.zero_le _⟩ ?_
              refine j_if_eq C 150 d_X_doAct_134 rfl (fun g7 => ?_) (fun g7 => ?_)
              ·
                have n80 : ¬ isS (a - 80) := fun z => by rw [if_pos z] at g7; exact absurd g7 (by decide)
                refine j_vret C hret hlk d_X_doAct_150 rfl ?_ rfl rfl
                unfold cf_act
                rw [if_neg n16, if_neg n32, if_neg g3, if_neg g4, if_neg g5, if_neg n64, if_neg n80]
              ·
                have q80 : isS (a - 80) := Decidable.byContradiction fun z => g7 (if_neg z)
                have hl80 : lv 7 (a - 80).toNatClampNeg := h.s (isS_lt q80)
                refine j_aload_n C d_X_doAct_137 rfl rfl ?_
                refine j_aload_n C d_X_doAct_138 rfl rfl ?_
                refine sgC C hK 0 0 2 d_X_doAct_139 in_X rfl rfl (by decide) t_108 rfl rfl rfl (by assumption) ?_
                refine j_iload_n C d_X_doAct_142 rfl rfl ?_
                refine j_bipush (v := 80) C d_X_doAct_143 (by decide) ?_
                refine j_isub C d_X_doAct_145 ?_
                refine saC C hK 3 0 d_X_doAct_146 rfl (isS_in q80) rfl rfl (by assumption) ?_
                refine spP (t := 7) C hK 0 0 9 ty_X tk_X nm_X d_X_doAct_147 in_X rfl rfl (by decide) t_115 rfl rfl rfl rfl (some (((a - 80)).toNatClampNeg)) rfl rfl (by assumption) ?_
                refine j_vret C hret hlk d_X_doAct_150 rfl ?_ rfl rfl
                unfold cf_act
                rw [if_neg n16, if_neg n32, if_neg g3, if_neg g4, if_neg g5, if_neg n64, if_pos q80]
            ·
              have q64 : isS (a - 64) := Decidable.byContradiction fun z => g6 (if_neg z)
              have hl64 : lv 7 (a - 64).toNatClampNeg := h.s (isS_lt q64)
              refine j_aload_n C d_X_doAct_105 rfl rfl ?_
              refine j_aload_n C d_X_doAct_106 rfl rfl ?_
              refine sgC C hK 0 0 2 d_X_doAct_107 in_X rfl rfl (by decide) t_108 rfl rfl rfl (by assumption) ?_
              refine j_iload_n C d_X_doAct_110 rfl rfl ?_
              refine j_bipush (v := 64) C d_X_doAct_111 (by decide) ?_
              refine j_isub C d_X_doAct_113 ?_
              refine saC C hK 3 0 d_X_doAct_114 rfl (isS_in q64) rfl rfl (by assumption) ?_
              refine j_aload_n C d_X_doAct_115 rfl rfl ?_
              refine sgI C hK 0 0 7 d_X_doAct_116 in_X rfl rfl (by decide) t_113 rfl rfl rfl (by assumption) ?_
              refine j_iconst (v := 3) C d_X_doAct_119 (by decide) ?_
              refine j_iadd C d_X_doAct_120 ?_
              refine j_callV C hK hAz 0 0 (k_setAlarm (s0 := (a - 64).toNatClampNeg) (t := σ.1 0 0 7 + 3) h _) (jcV C mi_X_setAlarm t_241 t_243 t_6 rfl rfl ⟨by decide, by decide⟩) rfl rfl (by assumption) rfl rfl (Nat.le_of_ble_eq_true rfl) d_X_doAct_121 ⟨Nat.zero_le _, Nat.zero_le _⟩ ?_
              refine j_goto C 150 d_X_doAct_124 rfl ?_
              refine j_vret C hret hlk d_X_doAct_150 rfl ?_ rfl rfl
              unfold cf_act
              rw [if_neg n16, if_neg n32, if_neg g3, if_neg g4, if_neg g5, if_pos q64]
          ·
            refine j_aload_n C d_X_doAct_87 rfl rfl ?_
            refine j_null C d_X_doAct_88 ?_
            refine spP (t := 7) C hK 0 0 9 ty_X tk_X nm_X d_X_doAct_89 in_X rfl rfl (by decide) t_115 rfl rfl rfl rfl (none) rfl rfl (by assumption) ?_
            refine j_goto C 150 d_X_doAct_92 rfl ?_
            refine j_vret C hret hlk d_X_doAct_150 rfl ?_ rfl rfl
            unfold cf_act
            rw [if_neg n16, if_neg n32, if_neg g3, if_neg g4, if_pos g5]
        ·
          refine j_aload_n C d_X_doAct_71 rfl rfl ?_
          refine sgC C hK 0 0 3 d_X_doAct_72 in_X rfl rfl (by decide) t_109 rfl rfl rfl (by assumption) ?_
          refine j_callV C hK hAz 4 0 (k_drop h _) (jcV C mi_W_dropFirst t_310 t_311 t_312 rfl rfl ⟨by decide, by decide⟩) rfl rfl (by assumption) rfl rfl (Nat.le_of_ble_eq_true rfl) d_X_doAct_75 ⟨Nat.zero_le _, Nat.zero_le _⟩ ?_
          refine j_goto C 150 d_X_doAct_78 rfl ?_
          refine j_vret C hret hlk d_X_doAct_150 rfl ?_ rfl rfl
          unfold cf_act
          rw [if_neg n16, if_neg n32, if_neg g3, if_pos g4]
      ·
        refine j_aload_n C d_X_doAct_58 rfl rfl ?_
        refine j_callV C hK hAz 0 0 (k_give h _) (jcV C mi_X_giveWay t_302 t_304 t_15 rfl rfl ⟨by decide, by decide⟩) rfl rfl (by assumption) rfl rfl (Nat.le_of_ble_eq_true rfl) d_X_doAct_59 ⟨Nat.zero_le _, Nat.zero_le _⟩ ?_
        refine j_goto C 150 d_X_doAct_62 rfl ?_
        refine j_vret C hret hlk d_X_doAct_150 rfl ?_ rfl rfl
        unfold cf_act
        rw [if_neg n16, if_neg n32, if_pos g3]
    ·
      have q32 : isS (a - 32) := Decidable.byContradiction fun z => g2 (if_neg z)
      have hl32 : lv 7 (a - 32).toNatClampNeg := h.s (isS_lt q32)
      refine j_aload_n C d_X_doAct_36 rfl rfl ?_
      refine j_aload_n C d_X_doAct_37 rfl rfl ?_
      refine sgC C hK 0 0 2 d_X_doAct_38 in_X rfl rfl (by decide) t_108 rfl rfl rfl (by assumption) ?_
      refine j_iload_n C d_X_doAct_41 rfl rfl ?_
      refine j_bipush (v := 32) C d_X_doAct_42 (by decide) ?_
      refine j_isub C d_X_doAct_44 ?_
      refine saC C hK 3 0 d_X_doAct_45 rfl (isS_in q32) rfl rfl (by assumption) ?_
      refine j_callV C hK hAz 0 0 (k_sig (s0 := (a - 32).toNatClampNeg) h (isS_lt q32) _) (jcV C mi_X_signalOnce t_228 t_230 t_5 rfl rfl ⟨by decide, by decide⟩) rfl rfl (by assumption) rfl rfl (Nat.le_of_ble_eq_true rfl) d_X_doAct_46 ⟨Nat.zero_le _, Nat.zero_le _⟩ ?_
      refine j_goto C 150 d_X_doAct_49 rfl ?_
      refine j_vret C hret hlk d_X_doAct_150 rfl ?_ rfl rfl
      unfold cf_act
      rw [if_neg n16, if_pos q32]
  ·
    have q16 : isS (a - 16) := Decidable.byContradiction fun z => g1 (if_neg z)
    have hl16 : lv 7 (a - 16).toNatClampNeg := h.s (isS_lt q16)
    refine j_aload_n C d_X_doAct_10 rfl rfl ?_
    refine j_aload_n C d_X_doAct_11 rfl rfl ?_
    refine sgC C hK 0 0 2 d_X_doAct_12 in_X rfl rfl (by decide) t_108 rfl rfl rfl (by assumption) ?_
    refine j_iload_n C d_X_doAct_15 rfl rfl ?_
    refine j_bipush (v := 16) C d_X_doAct_16 (by decide) ?_
    refine j_isub C d_X_doAct_18 ?_
    refine saC C hK 3 0 d_X_doAct_19 rfl (isS_in q16) rfl rfl (by assumption) ?_
    refine j_callV C hK hAz 0 0 (k_wait (s0 := (a - 16).toNatClampNeg) h (isS_lt q16) _) (jcV C mi_X_waitFor t_298 t_300 t_14 rfl rfl ⟨by decide, by decide⟩) rfl rfl (by assumption) rfl rfl (Nat.le_of_ble_eq_true rfl) d_X_doAct_20 ⟨Nat.zero_le _, Nat.zero_le _⟩ ?_
    refine j_goto C 150 d_X_doAct_23 rfl ?_
    refine j_vret C hret hlk d_X_doAct_150 rfl ?_ rfl rfl
    unfold cf_act
    rw [if_pos q16]
set_option maxRecDepth 100000 in
set_option maxHeartbeats 4000000 in
theorem k_code {l : Launch} {D : va_G} {E : Nat → ClassId} {ad : Nat → Nat → Nat} {lv : Nat → Nat → Prop} {σ τ : sT} (h : OKs σ lv) {x : Nat} (hx : Mk σ x) : jM l y_X_doCode c_X_doCode 3 (none) 4 D E ad lv (jv ad σ τ) [.ref (ad 0 0), .ref (ad 8 x)] none (jv ad (cf_code σ x) τ) := by
  intro sz
  refine jC.of "InputRoom" (by decide +kernel) rfl rfl (Nat.le_of_ble_eq_true rfl) (by intro v hv; simp only [List.mem_cons, List.not_mem_nil, or_false] at hv; rcases hv with rfl | rfl <;> first | rfl | exact jrf_cat _) ?_
  intro p e s m below meth c C hK hret hlk hnm hsz hAz
  have hb0 : lv 0 0 := h.k (by decide)
  have hb1 : lv 1 0 := h.k (by decide)
  have hb2 : lv 2 0 := h.k (by decide)
  have hb3 : lv 3 0 := h.k (by decide)
  have hb4 : lv 4 0 := h.k (by decide)
  have hb5 : lv 5 0 := h.k (by decide)
  have hlx : lv 8 x := h.p hx
  refine j_aload_n C d_X_doCode_0 rfl rfl ?_
  refine j_callV C hK hAz 8 x (k_next h hx _) (jcV C mi_P_nextAct t_289 t_290 t_291 rfl rfl ⟨by decide, by decide⟩) rfl rfl (by assumption) rfl rfl (Nat.le_of_ble_eq_true rfl) d_X_doCode_1 ⟨Nat.zero_le _, Nat.zero_le _⟩ ?_
  refine j_istore_n C d_X_doCode_4 rfl (by decide) ?_
  refine j_aload_n C d_X_doCode_5 rfl rfl ?_
  refine j_dup C d_X_doCode_6 rfl ?_
  refine sgI C hK 8 x 4 d_X_doCode_7 in_P rfl rfl (by decide) t_161 rfl rfl rfl (by assumption) ?_
  refine j_iconst (v := 1) C d_X_doCode_10 (by decide) ?_
  refine j_iadd C d_X_doCode_11 ?_
  refine spI C hK 8 x 4 ty_P tk_P nm_P d_X_doCode_12 in_P rfl rfl (by decide) t_161 rfl rfl rfl rfl ((σ.1 8 x 4 + 1)) rfl rfl (by assumption) ?_
  refine j_aload_n C d_X_doCode_15 rfl rfl ?_
  refine j_iload_n C d_X_doCode_16 rfl rfl ?_
  refine j_callV C hK hAz 0 0 (k_act (σ := (sI σ 8 x 4 (σ.1 8 x 4 + 1))) (a := cf_next σ x) h _) (jcV C mi_X_doAct t_294 t_296 t_13 rfl rfl ⟨by decide, by decide⟩) rfl rfl (by assumption) rfl rfl (Nat.le_of_ble_eq_true rfl) d_X_doCode_17 ⟨Nat.zero_le _, Nat.zero_le _⟩ ?_
  have ok2 : OKs (cf_act (sI σ 8 x 4 (σ.1 8 x 4 + 1)) (cf_next σ x)) lv := (go_act (σ := (sI σ 8 x 4 (σ.1 8 x 4 + 1))) h).1
  refine j_aload_n C d_X_doCode_20 rfl rfl ?_
  refine j_dup C d_X_doCode_21 rfl ?_
  refine sgL C hK 0 0 8 d_X_doCode_22 in_X rfl rfl (by decide) t_114 rfl rfl rfl (by assumption) ?_
  refine j_lconst (v := 1) C d_X_doCode_25 (by decide) ?_
  refine j_ladd C d_X_doCode_26 ?_
  refine spL C hK 0 0 8 ty_X tk_X nm_X d_X_doCode_27 in_X rfl rfl (by decide) t_114 rfl rfl rfl rfl (((cf_act (sI σ 8 x 4 (σ.1 8 x 4 + 1)) (cf_next σ x)).2.2 0 0 8 + 1)) rfl rfl (by assumption) ?_
  refine j_aload_n C d_X_doCode_30 rfl rfl ?_
  refine sgL C hK 0 0 8 d_X_doCode_31 in_X rfl rfl (by decide) t_114 rfl rfl rfl (by assumption) ?_
  refine j_ldc2 C d_X_doCode_34 t_314 ?_
  refine j_lrem C d_X_doCode_37 (by decide) ?_
  refine j_lconst (v := 0) C d_X_doCode_38 (by decide) ?_
  refine j_lcmp C d_X_doCode_39 ?_
  refine j_if_ne C 53 d_X_doCode_40 rfl (fun g1 => ?_) (fun g1 => ?_)
  ·
    refine j_vret C hret hlk d_X_doCode_53 rfl ?_ rfl rfl
    unfold cf_code
    dsimp only
    rw [if_neg (fun z => g1 ((lg_cmp_eq _ _).mpr z))]
  ·
    refine j_aload_n C d_X_doCode_43 rfl rfl ?_
    refine j_dup C d_X_doCode_44 rfl ?_
    refine sgI C hK 0 0 7 d_X_doCode_45 in_X rfl rfl (by decide) t_113 rfl rfl rfl (by assumption) ?_
    refine j_iconst (v := 1) C d_X_doCode_48 (by decide) ?_
    refine j_iadd C d_X_doCode_49 ?_
    refine spI C hK 0 0 7 ty_X tk_X nm_X d_X_doCode_50 in_X rfl rfl (by decide) t_113 rfl rfl rfl rfl (((sL (cf_act (sI σ 8 x 4 (σ.1 8 x 4 + 1)) (cf_next σ x)) 0 0 8 (((cf_act (sI σ 8 x 4 (σ.1 8 x 4 + 1)) (cf_next σ x)).2.2 0 0 8 + 1))).1 0 0 7 + 1)) rfl rfl (by assumption) ?_
    refine j_vret C hret hlk d_X_doCode_53 rfl ?_ rfl rfl
    unfold cf_code
    dsimp only
    rw [if_pos ((lg_cmp_eq _ _).mp g1)]
end
section
/-! THE CLASS'S FACE, as functions on its store: the answer and the store behind it -/
def c_plan (σ : sT) (p i a : Int32) : Int32 × sT := match cf_pn σ p with
  | none => (-1, σ)
  | some x => if i < 0 then (-1, σ) else if 8 ≤ i then (-1, σ) else if a < 0 then (-1, σ) else if a ≤ 127 then (σ.1 9 x i.toNatClampNeg, sI σ 9 x i.toNatClampNeg a) else (-1, σ)
def c_wake (σ : sT) (p : Int32) : Int32 × sT := match cf_pn σ p with
  | none => (0, σ)
  | some x => if σ.1 8 x 5 = 0 then (if some x = σ.2.1 0 0 4 then (0, σ) else if some x = cf_pres σ then (0, σ) else (1, cf_wake σ x)) else (0, σ)
def c_suspend (σ : sT) : Int32 × sT := match cf_pres σ with
  | none => (-1, σ)
  | some x => (nI x, cf_aside σ)
def c_signal (σ : sT) (s : Int32) : Int32 × sT := if isS s then (1, cf_sig σ s.toNatClampNeg) else (0, σ)
def c_listen (σ : sT) (s : Int32) : Int32 × sT := if s = -1 then (1, sP σ 0 0 9 none) else if isS s then (1, sP σ 0 0 9 (some s.toNatClampNeg)) else (0, σ)
def c_alarm (σ : sT) (s t : Int32) : Int32 × sT := if s = -1 then (1, sP σ 0 0 10 none) else if isS s then (if t < 0 then (0, σ) else if t ≤ 1000000 then (1, cf_alarm σ s.toNatClampNeg t) else (0, σ)) else (0, σ)
def c_word (σ : sT) (w : Int32) : Int32 × sT := if w < 0 then (-1, σ) else if w ≤ 65535 then cf_add σ w else (-1, σ)
def c_run0 (σ : sT) : sT := match σ.2.1 0 0 4 with
  | none => cf_behind σ
  | some _ => σ
def c_run (σ : sT) (n : Int32) : Int32 × sT := if n < 1 then (-1, σ) else if n ≤ 1000 then (0 + nI (cf_loop n.toNatClampNeg (c_run0 σ)).1, (cf_loop n.toNatClampNeg (c_run0 σ)).2) else (-1, σ)
def c_done (σ : sT) (p : Int32) : Int32 := match cf_pn σ p with
  | none => -1
  | some x => σ.1 8 x 4
def c_row (σ : sT) (p : Int32) : Int32 := match cf_pn σ p with
  | none => -1
  | some x => σ.1 8 x 5
def c_pAt (σ : sT) (r : Nat) (i : Int32) : Option Nat := if 0 ≤ i then cf_walk σ i.toNatClampNeg (σ.2.1 6 r 1) else none
def c_at (σ : sT) (r i : Int32) : Int32 := if ¬ r < 1 ∧ ¬ 8 < r then cf_num (c_pAt σ (r - 1).toNatClampNeg i) else if isS (r - 16) then cf_num (c_pAt σ (8 + (r - 16).toNatClampNeg) i) else -1
def c_extra (σ : sT) (s : Int32) : Int32 := if isS s then σ.1 7 s.toNatClampNeg 2 else -1
def c_tick (σ : sT) : Int32 := match σ.2.1 0 0 10 with
  | none => -1
  | some _ => σ.1 0 0 11
theorem pn_ok {σ : sT} {lv : Nat → Nat → Prop} (h : OKs σ lv) {a : Int32} {x : Nat} (hx : cf_pn σ a = some x) : Mk σ x := by
  unfold cf_pn at hx
  split at hx
  · next q =>
    have hl : a.toNatClampNeg < 32 := by
      obtain ⟨h0, h1⟩ := q
      rw [i32_le, i32_0] at h0
      rw [i32_lt, i32_32] at h1
      rw [← Int32.toNat_toInt]
      omega
    have e := h.2.2.1 _ _ hl hx
    subst e
    exact ⟨hl, hx⟩
  · cases hx
theorem walk_ok {σ : sT} {lv : Nat → Nat → Prop} (h : OKs σ lv) : ∀ (n : Nat) (q : Option Nat), (∀ x, q = some x → Mk σ x) → ∀ x, cf_walk σ n q = some x → Mk σ x
  | 0, q, hq, x, hx => hq x hx
  | n + 1, none, hq, x, hx => by cases hx
  | n + 1, some y, hq, x, hx => walk_ok h n (σ.2.1 8 y 6) (fun z hz => h.bh (hq y rfl) hz) x hx
theorem pAt_ok {σ : sT} {lv : Nat → Nat → Prop} (h : OKs σ lv) {r : Nat} (hr : r < 24) {i : Int32} {x : Nat} (hx : c_pAt σ r i = some x) : Mk σ x := by
  unfold c_pAt at hx
  split at hx
  · exact walk_ok h _ _ (fun z hz => h.fi hr hz) x hx
  · cases hx
set_option maxRecDepth 100000 in
set_option maxHeartbeats 4000000 in
theorem lp_pAt {l : Launch} {D : va_G} {E : Nat → ClassId} {ad : Nat → Nat → Nat} {lv : Nat → Nat → Prop} {τ : sT} {σ : sT} (h : OKs σ lv) {r : Nat} {a : Int32} {R0 : Option Value} {p : Program} {e : Env} {s : State} {m : MethodId} {below : List Frame} {meth : Method} {c : Code} {sz : Nat} (C : CallFix p m c c_R_processAt 4 s ([.ref (ad 6 r), .int (a)] : List Value).toArray jT "InputRoom$Row") (hK : jK D jcl jY E s) (hret : meth.sig.returnType = some (.object "InputRoom$Proc")) (hlk : meth.locks = false) (hAz : ∀ q, s.heap.size ≤ q → jA ad lv sz q) : ∀ (n : Nat) (q : Option Nat) (i : Int32), (∀ x, q = some x → Mk σ x) → i.toInt + n = a.toInt → R0 = some (va_rf (Option.map (ad 8) (cf_walk σ n q))) → JM l y_R_processAt c_R_processAt 4 (some (.object "InputRoom$Proc")) 0 D E ad lv p e s m below meth c sz [.ref (ad 6 r), .int (a)] R0 (jv ad σ τ) (jv ad σ τ) 13 [some (.ref (ad 6 r)), some (.int (a)), some (va_rf (Option.map (ad 8) (q))), some (.int (i))] [] := by
  intro n
  induction n with
  | zero =>
    intro q i hq hi hR
    have hge : a ≤ i := by rw [i32_le]; omega
    refine j_iload_n C d_R_processAt_13 rfl rfl ?_
    refine j_iload_n C d_R_processAt_14 rfl rfl ?_
    refine j_icmp_ge C 33 d_R_processAt_15 rfl (fun _ => ?_) (fun g1 => absurd hge g1)
    refine j_aload_nQ C d_R_processAt_33 rfl rfl ?_
    refine j_aret (o := Option.map (ad 8) (q)) C hret hlk d_R_processAt_34 ?_ ?_ rfl rfl
    · exact hR
    · rfl
  | succ n ih =>
    intro q i hq hi hR
    have hlt : i.toInt < a.toInt := by omega
    have hge : ¬ a ≤ i := by rw [i32_le]; omega
    refine j_iload_n C d_R_processAt_13 rfl rfl ?_
    refine j_iload_n C d_R_processAt_14 rfl rfl ?_
    refine j_icmp_ge C 33 d_R_processAt_15 rfl (fun g1 => absurd g1 hge) (fun _ => ?_)
    refine j_aload_nQ C d_R_processAt_18 rfl rfl ?_
    refine jnull (o := q) (t := 8) C 33 d_R_processAt_19 rfl (fun g2 => ?_) (fun x3 g2 => ?_)
    ·
      subst g2
      refine j_aload_nQ (o := none) C d_R_processAt_33 rfl rfl ?_
      refine j_aret (o := none) C hret hlk d_R_processAt_34 ?_ ?_ rfl rfl
      · exact hR
      · rfl
    ·
      subst g2
      have hmx3 : Mk σ x3 := hq x3 rfl
      have hlx3 : lv 8 x3 := h.p hmx3
      refine j_aload_n C d_R_processAt_22 rfl rfl ?_
      refine sgR (t := 8) C hK 8 x3 6 d_R_processAt_23 in_P rfl rfl (by decide) t_165 rfl rfl rfl (by assumption) ?_
      refine j_astore_nQ C d_R_processAt_26 rfl (by decide) ?_
      refine j_iinc C d_R_processAt_27 rfl (by decide) ?_
      refine j_goto C 13 d_R_processAt_30 rfl ?_
      refine ih (σ.2.1 8 x3 6) _ (fun z hz => h.bh hmx3 hz) ?_ hR
      rw [i32_succ hlt]
      omega
set_option maxRecDepth 100000 in
set_option maxHeartbeats 4000000 in
theorem k_pAt {l : Launch} {D : va_G} {E : Nat → ClassId} {ad : Nat → Nat → Nat} {lv : Nat → Nat → Prop} {σ τ : sT} (h : OKs σ lv) {r : Nat} (hr : r < 24) {a : Int32} : jM l y_R_processAt c_R_processAt 4 (some (.object "InputRoom$Proc")) 0 D E ad lv (jv ad σ τ) [.ref (ad 6 r), .int (a)] (some (va_rf (Option.map (ad 8) (c_pAt σ r a)))) (jv ad σ τ) := by
  intro sz
  refine jC.of "InputRoom$Row" (by decide +kernel) rfl rfl (Nat.le_of_ble_eq_true rfl) (by intro v hv; simp only [List.mem_cons, List.not_mem_nil, or_false] at hv; rcases hv with rfl | rfl <;> first | rfl | exact jrf_cat _) ?_
  intro p e s m below meth c C hK hret hlk hnm hsz hAz
  have hlr : lv 6 r := h.r hr
  refine j_iload_n C d_R_processAt_0 rfl rfl ?_
  refine j_if_ge C 6 d_R_processAt_1 rfl (fun g1 => ?_) (fun g1 => ?_)
  ·
    refine j_aload_n C d_R_processAt_6 rfl rfl ?_
    refine sgR (t := 8) C hK 6 r 1 d_R_processAt_7 in_R rfl rfl (by decide) t_78 rfl rfl rfl (by assumption) ?_
    refine j_astore_nQ C d_R_processAt_10 rfl (by decide) ?_
    refine j_iconst (v := 0) C d_R_processAt_11 (by decide) ?_
    refine j_istore_n C d_R_processAt_12 rfl (by decide) ?_
    refine lp_pAt h C hK hret hlk hAz a.toNatClampNeg (σ.2.1 6 r 1) 0 (fun z hz => h.fi hr hz) ?_ (by rw [c_pAt, if_pos g1])
    rw [i32_le, i32_0] at g1
    rw [← Int32.toNat_toInt, i32_0]
    omega
  ·
    refine j_null C d_R_processAt_4 ?_
    refine j_aret (o := none) C hret hlk d_R_processAt_5 ?_ ?_ rfl rfl
    · simp only [c_pAt, g1, if_false]; rfl
    · rfl
set_option maxRecDepth 100000 in
set_option maxHeartbeats 4000000 in
theorem k_plan {l : Launch} {D : va_G} {E : Nat → ClassId} {ad : Nat → Nat → Nat} {lv : Nat → Nat → Prop} {σ τ : sT} (h : OKs σ lv) {a i t : Int32} : jM l y_X_plan c_X_plan 6 (some .int) 1 D E ad lv (jv ad σ τ) [.ref (ad 0 0), .int (a), .int (i), .int (t)] (some (.int (c_plan σ a i t).1)) (jv ad (c_plan σ a i t).2 τ) := by
  intro sz
  refine jC.of "InputRoom" (by decide +kernel) rfl rfl (Nat.le_of_ble_eq_true rfl) (by intro v hv; simp only [List.mem_cons, List.not_mem_nil, or_false] at hv; rcases hv with rfl | rfl | rfl | rfl <;> first | rfl | exact jrf_cat _) ?_
  intro p e s m below meth c C hK hret hlk hnm hsz hAz
  have hb0 : lv 0 0 := h.k (by decide)
  have hb1 : lv 1 0 := h.k (by decide)
  have hb2 : lv 2 0 := h.k (by decide)
  have hb3 : lv 3 0 := h.k (by decide)
  have hb4 : lv 4 0 := h.k (by decide)
  have hb5 : lv 5 0 := h.k (by decide)
  refine j_aload_n C d_X_plan_0 rfl rfl ?_
  refine j_iload_n C d_X_plan_1 rfl rfl ?_
  refine j_callV C hK hAz 0 0 (k_pn (a := a) h _) (jcV C mi_X_processNumbered t_185 t_187 t_0 rfl rfl ⟨by decide, by decide⟩) rfl rfl (by assumption) rfl rfl (Nat.le_of_ble_eq_true rfl) d_X_plan_2 ⟨Nat.zero_le _, Nat.zero_le _⟩ ?_
  refine j_astoreQ C d_X_plan_5 (by decide) ?_
  refine j_aloadQ C d_X_plan_7 rfl ?_
  refine jnull (o := cf_pn σ a) (t := 8) C 32 d_X_plan_9 rfl (fun g1 => ?_) (fun x2 g1 => ?_)
  ·
    try rw [g1]
    refine j_iconst (v := -1) C d_X_plan_32 (by decide) ?_
    refine j_iret C hret hlk d_X_plan_33 ?_ ?_ rfl rfl
    · simp only [c_plan, g1, if_true, if_false]
    · simp only [c_plan, g1, if_true, if_false]
  ·
    try rw [g1]
    have hmx2 : Mk σ x2 := pn_ok h g1
    have hlx2 : lv 8 x2 := h.p hmx2
    have hax2 : lv 9 x2 := h.a hmx2
    refine j_iload_n C d_X_plan_12 rfl rfl ?_
    refine j_if_lt C 32 d_X_plan_13 rfl (fun g3 => ?_) (fun g3 => ?_)
    ·
      refine j_iconst (v := -1) C d_X_plan_32 (by decide) ?_
      refine j_iret C hret hlk d_X_plan_33 ?_ ?_ rfl rfl
      · simp only [c_plan, g1, g3, if_true, if_false]
      · simp only [c_plan, g1, g3, if_true, if_false]
    ·
      refine j_iload_n C d_X_plan_16 rfl rfl ?_
      refine j_bipush (v := 8) C d_X_plan_17 (by decide) ?_
      refine j_icmp_ge C 32 d_X_plan_19 rfl (fun g4 => ?_) (fun g4 => ?_)
      ·
        refine j_iconst (v := -1) C d_X_plan_32 (by decide) ?_
        refine j_iret C hret hlk d_X_plan_33 ?_ ?_ rfl rfl
        · simp only [c_plan, g1, g3, g4, if_true, if_false]
        · simp only [c_plan, g1, g3, g4, if_true, if_false]
      ·
        refine j_iload_n C d_X_plan_22 rfl rfl ?_
        refine j_if_lt C 32 d_X_plan_23 rfl (fun g5 => ?_) (fun g5 => ?_)
        ·
          refine j_iconst (v := -1) C d_X_plan_32 (by decide) ?_
          refine j_iret C hret hlk d_X_plan_33 ?_ ?_ rfl rfl
          · simp only [c_plan, g1, g3, g4, g5, if_true, if_false]
          · simp only [c_plan, g1, g3, g4, g5, if_true, if_false]
        ·
          refine j_iload_n C d_X_plan_26 rfl rfl ?_
          refine j_bipush (v := 127) C d_X_plan_27 (by decide) ?_
          refine j_icmp_le C 34 d_X_plan_29 rfl (fun g6 => ?_) (fun g6 => ?_)
          ·
            refine j_aload C d_X_plan_34 rfl ?_
            refine sgC C hK 8 x2 3 d_X_plan_36 in_P rfl rfl (by decide) t_159 rfl rfl rfl (by assumption) ?_
            refine j_iload_n C d_X_plan_39 rfl rfl ?_
            refine sia C hK 9 x2 d_X_plan_40 rfl (vin g3 g4 rfl) rfl rfl (by assumption) ?_
            refine j_istore C d_X_plan_41 (by decide) ?_
            refine j_aload C d_X_plan_43 rfl ?_
            refine sgC C hK 8 x2 3 d_X_plan_45 in_P rfl rfl (by decide) t_159 rfl rfl rfl (by assumption) ?_
            refine j_iload_n C d_X_plan_48 rfl rfl ?_
            refine j_iload_n C d_X_plan_49 rfl rfl ?_
            refine sia_st C hK 9 x2 d_X_plan_50 rfl (vin g3 g4 rfl) rfl rfl (by assumption) ?_
            refine j_iload C d_X_plan_51 rfl ?_
            refine j_iret C hret hlk d_X_plan_53 ?_ ?_ rfl rfl
            · simp only [c_plan, g1, g3, g4, g5, g6, if_true, if_false]
            · simp only [c_plan, g1, g3, g4, g5, g6, if_true, if_false]
          ·
            refine j_iconst (v := -1) C d_X_plan_32 (by decide) ?_
            refine j_iret C hret hlk d_X_plan_33 ?_ ?_ rfl rfl
            · simp only [c_plan, g1, g3, g4, g5, g6, if_true, if_false]
            · simp only [c_plan, g1, g3, g4, g5, g6, if_true, if_false]
set_option maxRecDepth 100000 in
set_option maxHeartbeats 4000000 in
theorem k_wake {l : Launch} {D : va_G} {E : Nat → ClassId} {ad : Nat → Nat → Nat} {lv : Nat → Nat → Prop} {σ τ : sT} (h : OKs σ lv) {a : Int32} : jM l y_X_wake c_X_wake 3 (some .boolean) 2 D E ad lv (jv ad σ τ) [.ref (ad 0 0), .int (a)] (some (.int (c_wake σ a).1)) (jv ad (c_wake σ a).2 τ) := by
  intro sz
  refine jC.of "InputRoom" (by decide +kernel) rfl rfl (Nat.le_of_ble_eq_true rfl) (by intro v hv; simp only [List.mem_cons, List.not_mem_nil, or_false] at hv; rcases hv with rfl | rfl <;> first | rfl | exact jrf_cat _) ?_
  intro p e s m below meth c C hK hret hlk hnm hsz hAz
  have hb0 : lv 0 0 := h.k (by decide)
  have hb1 : lv 1 0 := h.k (by decide)
  have hb2 : lv 2 0 := h.k (by decide)
  have hb3 : lv 3 0 := h.k (by decide)
  have hb4 : lv 4 0 := h.k (by decide)
  have hb5 : lv 5 0 := h.k (by decide)
  refine j_aload_n C d_X_wake_0 rfl rfl ?_
  refine j_iload_n C d_X_wake_1 rfl rfl ?_
  refine j_callV C hK hAz 0 0 (k_pn (a := a) h _) (jcV C mi_X_processNumbered t_185 t_187 t_0 rfl rfl ⟨by decide, by decide⟩) rfl rfl (by assumption) rfl rfl (Nat.le_of_ble_eq_true rfl) d_X_wake_2 ⟨Nat.zero_le _, Nat.zero_le _⟩ ?_
  refine j_astore_nQ C d_X_wake_5 rfl (by decide) ?_
  refine j_aload_nQ C d_X_wake_6 rfl rfl ?_
  refine jnull (o := cf_pn σ a) (t := 8) C 17 d_X_wake_7 rfl (fun g1 => ?_) (fun x2 g1 => ?_)
  ·
    try rw [g1]
    refine j_iconst (v := 0) C d_X_wake_17 (by decide) ?_
    refine j_zret C hret hlk (by first | rfl | decide) d_X_wake_18 ?_ ?_ rfl rfl
    · simp only [c_wake, g1, if_true, if_false]
    · simp only [c_wake, g1, if_true, if_false]
  ·
    try rw [g1]
    have hmx2 : Mk σ x2 := pn_ok h g1
    have hlx2 : lv 8 x2 := h.p hmx2
    have hax2 : lv 9 x2 := h.a hmx2
    refine j_aload_n C d_X_wake_10 rfl rfl ?_
    refine sgI C hK 8 x2 5 d_X_wake_11 in_P rfl rfl (by decide) t_164 rfl rfl rfl (by assumption) ?_
    refine j_if_eq C 19 d_X_wake_14 rfl (fun g3 => ?_) (fun g3 => ?_)
    ·
      refine j_aload_n C d_X_wake_19 rfl rfl ?_
      refine j_aload_n C d_X_wake_20 rfl rfl ?_
      refine sgR (t := 8) C hK 0 0 4 d_X_wake_21 in_X rfl rfl (by decide) t_110 rfl rfl rfl (by assumption) ?_
      refine jacmp_eq (t := 8) (ox := some x2) (oy := σ.2.1 0 0 4) C 35 d_X_wake_24 rfl (fun z hz => by cases hz; assumption) (fun z hz => h.p (h.ac hz)) (fun g4 => ?_) (fun g4 => ?_)
      ·
        refine j_iconst (v := 0) C d_X_wake_35 (by decide) ?_
        refine j_zret C hret hlk (by first | rfl | decide) d_X_wake_36 ?_ ?_ rfl rfl
        · simp only [c_wake, g1, g3, if_true]; rw [if_pos g4]
        · simp only [c_wake, g1, g3, if_true]; rw [if_pos g4]
      ·
        refine j_aload_n C d_X_wake_27 rfl rfl ?_
        refine j_aload_n C d_X_wake_28 rfl rfl ?_
        refine j_callV C hK hAz 0 0 (k_pres h _) (jcV C mi_X_presentOne t_193 t_195 t_1 rfl rfl ⟨by decide, by decide⟩) rfl rfl (by assumption) rfl rfl (Nat.le_of_ble_eq_true rfl) d_X_wake_29 ⟨Nat.zero_le _, Nat.zero_le _⟩ ?_
        refine jacmp_ne (t := 8) (ox := some x2) (oy := cf_pres σ) C 37 d_X_wake_32 rfl (fun z hz => by cases hz; assumption) (fun z hz => h.p (pres_ok h hz)) (fun g5 => ?_) (fun g5 => ?_)
        ·
          refine j_aload_n C d_X_wake_37 rfl rfl ?_
          refine j_aload_n C d_X_wake_38 rfl rfl ?_
          refine j_callV C hK hAz 0 0 (k_wakeUp (x := x2) h hmx2 _) (jcV C mi_X_wakeUp t_197 t_199 t_2 rfl rfl ⟨by decide, by decide⟩) rfl rfl (by assumption) rfl rfl (Nat.le_of_ble_eq_true rfl) d_X_wake_39 ⟨Nat.zero_le _, Nat.zero_le _⟩ ?_
          refine j_iconst (v := 1) C d_X_wake_42 (by decide) ?_
          refine j_zret C hret hlk (by first | rfl | decide) d_X_wake_43 ?_ ?_ rfl rfl
          · simp only [c_wake, g1, g3, if_true]; rw [if_neg g4, if_neg g5]
          · simp only [c_wake, g1, g3, if_true]; rw [if_neg g4, if_neg g5]
        ·
          refine j_iconst (v := 0) C d_X_wake_35 (by decide) ?_
          refine j_zret C hret hlk (by first | rfl | decide) d_X_wake_36 ?_ ?_ rfl rfl
          · simp only [c_wake, g1, g3, if_true]; rw [if_neg g4, if_pos g5]
          · simp only [c_wake, g1, g3, if_true]; rw [if_neg g4, if_pos g5]
    ·
      refine j_iconst (v := 0) C d_X_wake_17 (by decide) ?_
      refine j_zret C hret hlk (by first | rfl | decide) d_X_wake_18 ?_ ?_ rfl rfl
      · simp only [c_wake, g1, g3, if_true, if_false]
      · simp only [c_wake, g1, g3, if_true, if_false]
set_option maxRecDepth 100000 in
set_option maxHeartbeats 4000000 in
theorem k_suspend {l : Launch} {D : va_G} {E : Nat → ClassId} {ad : Nat → Nat → Nat} {lv : Nat → Nat → Prop} {σ τ : sT} (h : OKs σ lv) : jM l y_X_suspend c_X_suspend 2 (some .int) 2 D E ad lv (jv ad σ τ) [.ref (ad 0 0)] (some (.int (c_suspend σ).1)) (jv ad (c_suspend σ).2 τ) := by
  intro sz
  refine jC.of "InputRoom" (by decide +kernel) rfl rfl (Nat.le_of_ble_eq_true rfl) (by intro v hv; simp only [List.mem_cons, List.not_mem_nil, or_false] at hv; rcases hv with rfl <;> first | rfl | exact jrf_cat _) ?_
  intro p e s m below meth c C hK hret hlk hnm hsz hAz
  have hb0 : lv 0 0 := h.k (by decide)
  have hb1 : lv 1 0 := h.k (by decide)
  have hb2 : lv 2 0 := h.k (by decide)
  have hb3 : lv 3 0 := h.k (by decide)
  have hb4 : lv 4 0 := h.k (by decide)
  have hb5 : lv 5 0 := h.k (by decide)
  refine j_aload_n C d_X_suspend_0 rfl rfl ?_
  refine j_callV C hK hAz 0 0 (k_pres h _) (jcV C mi_X_presentOne t_193 t_195 t_1 rfl rfl ⟨by decide, by decide⟩) rfl rfl (by assumption) rfl rfl (Nat.le_of_ble_eq_true rfl) d_X_suspend_1 ⟨Nat.zero_le _, Nat.zero_le _⟩ ?_
  refine j_astore_nQ C d_X_suspend_4 rfl (by decide) ?_
  refine j_aload_nQ C d_X_suspend_5 rfl rfl ?_
  refine jnonnull (o := cf_pres σ) (t := 8) C 11 d_X_suspend_6 rfl (fun x2 g1 => ?_) (fun g1 => ?_)
  ·
    try rw [g1]
    have hmx2 : Mk σ x2 := pres_ok h g1
    have hlx2 : lv 8 x2 := h.p hmx2
    refine j_aload_n C d_X_suspend_11 rfl rfl ?_
    refine j_callV C hK hAz 0 0 (k_aside h _) (jcV C mi_X_putPresentAside t_213 t_215 t_4 rfl rfl ⟨by decide, by decide⟩) rfl rfl (by assumption) rfl rfl (Nat.le_of_ble_eq_true rfl) d_X_suspend_12 ⟨Nat.zero_le _, Nat.zero_le _⟩ ?_
    refine j_aload_n C d_X_suspend_15 rfl rfl ?_
    refine sgC C hK 8 x2 0 d_X_suspend_16 in_P rfl rfl (by decide) t_153 rfl rfl rfl (by assumption) ?_
    refine j_iret C hret hlk d_X_suspend_19 ?_ ?_ rfl rfl
    · simp only [c_suspend, g1]
    · simp only [c_suspend, g1]
  ·
    try rw [g1]
    refine j_iconst (v := -1) C d_X_suspend_9 (by decide) ?_
    refine j_iret C hret hlk d_X_suspend_10 ?_ ?_ rfl rfl
    · simp only [c_suspend, g1]
    · simp only [c_suspend, g1]
set_option maxRecDepth 100000 in
set_option maxHeartbeats 4000000 in
theorem k_signal {l : Launch} {D : va_G} {E : Nat → ClassId} {ad : Nat → Nat → Nat} {lv : Nat → Nat → Prop} {σ τ : sT} (h : OKs σ lv) {a : Int32} : jM l y_X_signal c_X_signal 2 (some .boolean) 3 D E ad lv (jv ad σ τ) [.ref (ad 0 0), .int (a)] (some (.int (c_signal σ a).1)) (jv ad (c_signal σ a).2 τ) := by
  intro sz
  refine jC.of "InputRoom" (by decide +kernel) rfl rfl (Nat.le_of_ble_eq_true rfl) (by intro v hv; simp only [List.mem_cons, List.not_mem_nil, or_false] at hv; rcases hv with rfl | rfl <;> first | rfl | exact jrf_cat _) ?_
  intro p e s m below meth c C hK hret hlk hnm hsz hAz
  have hb0 : lv 0 0 := h.k (by decide)
  have hb1 : lv 1 0 := h.k (by decide)
  have hb2 : lv 2 0 := h.k (by decide)
  have hb3 : lv 3 0 := h.k (by decide)
  have hb4 : lv 4 0 := h.k (by decide)
  have hb5 : lv 5 0 := h.k (by decide)
  refine j_iload_n C d_X_signal_0 rfl rfl ?_
  refine j_callS C hK hAz (k_isSem (a := a) _) ⟨jcB C mi_X_isSemaphore t_225 rfl rfl ⟨by decide, by decide⟩, C.2.2.2.2 _ t_226⟩ rfl rfl (Nat.le_of_ble_eq_true rfl) d_X_signal_1 ⟨Nat.zero_le _, Nat.zero_le _⟩ ?_
  refine j_if_ne C 9 d_X_signal_4 rfl (fun g1 => ?_) (fun g1 => ?_)
  ·
    have q0 : isS (a) := Decidable.byContradiction fun z => g1 (if_neg z)
    have hlq0 : lv 7 (a).toNatClampNeg := h.s (isS_lt q0)
    refine j_aload_n C d_X_signal_9 rfl rfl ?_
    refine j_aload_n C d_X_signal_10 rfl rfl ?_
    refine sgC C hK 0 0 2 d_X_signal_11 in_X rfl rfl (by decide) t_108 rfl rfl rfl (by assumption) ?_
    refine j_iload_n C d_X_signal_14 rfl rfl ?_
    refine saC C hK 3 0 d_X_signal_15 rfl (isS_in q0) rfl rfl (by assumption) ?_
    refine j_callV C hK hAz 0 0 (k_sig (s0 := a.toNatClampNeg) h (isS_lt q0) _) (jcV C mi_X_signalOnce t_228 t_230 t_5 rfl rfl ⟨by decide, by decide⟩) rfl rfl (by assumption) rfl rfl (Nat.le_of_ble_eq_true rfl) d_X_signal_16 ⟨Nat.zero_le _, Nat.zero_le _⟩ ?_
    refine j_iconst (v := 1) C d_X_signal_19 (by decide) ?_
    refine j_zret C hret hlk (by first | rfl | decide) d_X_signal_20 ?_ ?_ rfl rfl
    · rw [c_signal, if_pos q0]
    · rw [c_signal, if_pos q0]
  ·
    have n0 : ¬ isS (a) := fun z => by rw [if_pos z] at g1; exact absurd g1 (by decide)
    refine j_iconst (v := 0) C d_X_signal_7 (by decide) ?_
    refine j_zret C hret hlk (by first | rfl | decide) d_X_signal_8 ?_ ?_ rfl rfl
    · rw [c_signal, if_neg n0]
    · rw [c_signal, if_neg n0]
set_option maxRecDepth 100000 in
set_option maxHeartbeats 4000000 in
theorem k_listen {l : Launch} {D : va_G} {E : Nat → ClassId} {ad : Nat → Nat → Nat} {lv : Nat → Nat → Prop} {σ τ : sT} (h : OKs σ lv) {a : Int32} : jM l y_X_listen c_X_listen 2 (some .boolean) 1 D E ad lv (jv ad σ τ) [.ref (ad 0 0), .int (a)] (some (.int (c_listen σ a).1)) (jv ad (c_listen σ a).2 τ) := by
  intro sz
  refine jC.of "InputRoom" (by decide +kernel) rfl rfl (Nat.le_of_ble_eq_true rfl) (by intro v hv; simp only [List.mem_cons, List.not_mem_nil, or_false] at hv; rcases hv with rfl | rfl <;> first | rfl | exact jrf_cat _) ?_
  intro p e s m below meth c C hK hret hlk hnm hsz hAz
  have hb0 : lv 0 0 := h.k (by decide)
  have hb1 : lv 1 0 := h.k (by decide)
  have hb2 : lv 2 0 := h.k (by decide)
  have hb3 : lv 3 0 := h.k (by decide)
  have hb4 : lv 4 0 := h.k (by decide)
  have hb5 : lv 5 0 := h.k (by decide)
  refine j_iload_n C d_X_listen_0 rfl rfl ?_
  refine j_iconst (v := -1) C d_X_listen_1 (by decide) ?_
  refine j_icmp_ne C 12 d_X_listen_2 rfl (fun g1 => ?_) (fun g1 => ?_)
  ·
    refine j_iload_n C d_X_listen_12 rfl rfl ?_
    refine j_callS C hK hAz (k_isSem (a := a) _) ⟨jcB C mi_X_isSemaphore t_225 rfl rfl ⟨by decide, by decide⟩, C.2.2.2.2 _ t_226⟩ rfl rfl (Nat.le_of_ble_eq_true rfl) d_X_listen_13 ⟨Nat.zero_le _, Nat.zero_le _⟩ ?_
    refine j_if_ne C 21 d_X_listen_16 rfl (fun g2 => ?_) (fun g2 => ?_)
    ·
      have q0 : isS (a) := Decidable.byContradiction fun z => g2 (if_neg z)
      have hlq0 : lv 7 (a).toNatClampNeg := h.s (isS_lt q0)
      refine j_aload_n C d_X_listen_21 rfl rfl ?_
      refine j_aload_n C d_X_listen_22 rfl rfl ?_
      refine sgC C hK 0 0 2 d_X_listen_23 in_X rfl rfl (by decide) t_108 rfl rfl rfl (by assumption) ?_
      refine j_iload_n C d_X_listen_26 rfl rfl ?_
      refine saC C hK 3 0 d_X_listen_27 rfl (isS_in q0) rfl rfl (by assumption) ?_
      refine spP (t := 7) C hK 0 0 9 ty_X tk_X nm_X d_X_listen_28 in_X rfl rfl (by decide) t_115 rfl rfl rfl rfl (some ((a).toNatClampNeg)) rfl rfl (by assumption) ?_
      refine j_iconst (v := 1) C d_X_listen_31 (by decide) ?_
      refine j_zret C hret hlk (by first | rfl | decide) d_X_listen_32 ?_ ?_ rfl rfl
      · rw [c_listen, if_neg g1, if_pos q0]
      · rw [c_listen, if_neg g1, if_pos q0]
    ·
      have n0 : ¬ isS (a) := fun z => by rw [if_pos z] at g2; exact absurd g2 (by decide)
      refine j_iconst (v := 0) C d_X_listen_19 (by decide) ?_
      refine j_zret C hret hlk (by first | rfl | decide) d_X_listen_20 ?_ ?_ rfl rfl
      · rw [c_listen, if_neg g1, if_neg n0]
      · rw [c_listen, if_neg g1, if_neg n0]
  ·
    refine j_aload_n C d_X_listen_5 rfl rfl ?_
    refine j_null C d_X_listen_6 ?_
    refine spP (t := 7) C hK 0 0 9 ty_X tk_X nm_X d_X_listen_7 in_X rfl rfl (by decide) t_115 rfl rfl rfl rfl (none) rfl rfl (by assumption) ?_
    refine j_iconst (v := 1) C d_X_listen_10 (by decide) ?_
    refine j_zret C hret hlk (by first | rfl | decide) d_X_listen_11 ?_ ?_ rfl rfl
    · rw [c_listen, if_pos g1]
    · rw [c_listen, if_pos g1]
set_option maxRecDepth 100000 in
set_option maxHeartbeats 4000000 in
theorem k_alarm {l : Launch} {D : va_G} {E : Nat → ClassId} {ad : Nat → Nat → Nat} {lv : Nat → Nat → Prop} {σ τ : sT} (h : OKs σ lv) {a t : Int32} : jM l y_X_alarm c_X_alarm 3 (some .boolean) 1 D E ad lv (jv ad σ τ) [.ref (ad 0 0), .int (a), .int (t)] (some (.int (c_alarm σ a t).1)) (jv ad (c_alarm σ a t).2 τ) := by
  intro sz
  refine jC.of "InputRoom" (by decide +kernel) rfl rfl (Nat.le_of_ble_eq_true rfl) (by intro v hv; simp only [List.mem_cons, List.not_mem_nil, or_false] at hv; rcases hv with rfl | rfl | rfl <;> first | rfl | exact jrf_cat _) ?_
  intro p e s m below meth c C hK hret hlk hnm hsz hAz
  have hb0 : lv 0 0 := h.k (by decide)
  have hb1 : lv 1 0 := h.k (by decide)
  have hb2 : lv 2 0 := h.k (by decide)
  have hb3 : lv 3 0 := h.k (by decide)
  have hb4 : lv 4 0 := h.k (by decide)
  have hb5 : lv 5 0 := h.k (by decide)
  refine j_iload_n C d_X_alarm_0 rfl rfl ?_
  refine j_iconst (v := -1) C d_X_alarm_1 (by decide) ?_
  refine j_icmp_ne C 12 d_X_alarm_2 rfl (fun g1 => ?_) (fun g1 => ?_)
  ·
    refine j_iload_n C d_X_alarm_12 rfl rfl ?_
    refine j_callS C hK hAz (k_isSem (a := a) _) ⟨jcB C mi_X_isSemaphore t_225 rfl rfl ⟨by decide, by decide⟩, C.2.2.2.2 _ t_226⟩ rfl rfl (Nat.le_of_ble_eq_true rfl) d_X_alarm_13 ⟨Nat.zero_le _, Nat.zero_le _⟩ ?_
    refine j_if_eq C 29 d_X_alarm_16 rfl (fun g2 => ?_) (fun g2 => ?_)
    ·
      have n0 : ¬ isS (a) := fun z => by rw [if_pos z] at g2; exact absurd g2 (by decide)
      refine j_iconst (v := 0) C d_X_alarm_29 (by decide) ?_
      refine j_zret C hret hlk (by first | rfl | decide) d_X_alarm_30 ?_ ?_ rfl rfl
      · rw [c_alarm, if_neg g1, if_neg n0]
      · rw [c_alarm, if_neg g1, if_neg n0]
    ·
      have q0 : isS (a) := Decidable.byContradiction fun z => g2 (if_neg z)
      have hlq0 : lv 7 (a).toNatClampNeg := h.s (isS_lt q0)
      refine j_iload_n C d_X_alarm_19 rfl rfl ?_
      refine j_if_lt C 29 d_X_alarm_20 rfl (fun g3 => ?_) (fun g3 => ?_)
      ·
        refine j_iconst (v := 0) C d_X_alarm_29 (by decide) ?_
        refine j_zret C hret hlk (by first | rfl | decide) d_X_alarm_30 ?_ ?_ rfl rfl
        · rw [c_alarm, if_neg g1, if_pos q0, if_pos g3]
        · rw [c_alarm, if_neg g1, if_pos q0, if_pos g3]
      ·
        refine j_iload_n C d_X_alarm_23 rfl rfl ?_
        refine j_ldc C d_X_alarm_24 t_240 ?_
        refine j_icmp_le C 31 d_X_alarm_26 rfl (fun g4 => ?_) (fun g4 => ?_)
        ·
          refine j_aload_n C d_X_alarm_31 rfl rfl ?_
          refine j_aload_n C d_X_alarm_32 rfl rfl ?_
          refine sgC C hK 0 0 2 d_X_alarm_33 in_X rfl rfl (by decide) t_108 rfl rfl rfl (by assumption) ?_
          refine j_iload_n C d_X_alarm_36 rfl rfl ?_
          refine saC C hK 3 0 d_X_alarm_37 rfl (isS_in q0) rfl rfl (by assumption) ?_
          refine j_iload_n C d_X_alarm_38 rfl rfl ?_
          refine j_callV C hK hAz 0 0 (k_setAlarm (s0 := a.toNatClampNeg) (t := t) h _) (jcV C mi_X_setAlarm t_241 t_243 t_6 rfl rfl ⟨by decide, by decide⟩) rfl rfl (by assumption) rfl rfl (Nat.le_of_ble_eq_true rfl) d_X_alarm_39 ⟨Nat.zero_le _, Nat.zero_le _⟩ ?_
          refine j_iconst (v := 1) C d_X_alarm_42 (by decide) ?_
          refine j_zret C hret hlk (by first | rfl | decide) d_X_alarm_43 ?_ ?_ rfl rfl
          · rw [c_alarm, if_neg g1, if_pos q0, if_neg g3, if_pos g4]
          · rw [c_alarm, if_neg g1, if_pos q0, if_neg g3, if_pos g4]
        ·
          refine j_iconst (v := 0) C d_X_alarm_29 (by decide) ?_
          refine j_zret C hret hlk (by first | rfl | decide) d_X_alarm_30 ?_ ?_ rfl rfl
          · rw [c_alarm, if_neg g1, if_pos q0, if_neg g3, if_neg g4]
          · rw [c_alarm, if_neg g1, if_pos q0, if_neg g3, if_neg g4]
  ·
    refine j_aload_n C d_X_alarm_5 rfl rfl ?_
    refine j_null C d_X_alarm_6 ?_
    refine spP (t := 7) C hK 0 0 10 ty_X tk_X nm_X d_X_alarm_7 in_X rfl rfl (by decide) t_116 rfl rfl rfl rfl (none) rfl rfl (by assumption) ?_
    refine j_iconst (v := 1) C d_X_alarm_10 (by decide) ?_
    refine j_zret C hret hlk (by first | rfl | decide) d_X_alarm_11 ?_ ?_ rfl rfl
    · rw [c_alarm, if_pos g1]
    · rw [c_alarm, if_pos g1]
set_option maxRecDepth 100000 in
set_option maxHeartbeats 4000000 in
theorem k_word {l : Launch} {D : va_G} {E : Nat → ClassId} {ad : Nat → Nat → Nat} {lv : Nat → Nat → Prop} {σ τ : sT} (h : OKs σ lv) {a : Int32} : jM l y_X_word c_X_word 2 (some .int) 3 D E ad lv (jv ad σ τ) [.ref (ad 0 0), .int (a)] (some (.int (c_word σ a).1)) (jv ad (c_word σ a).2 τ) := by
  intro sz
  refine jC.of "InputRoom" (by decide +kernel) rfl rfl (Nat.le_of_ble_eq_true rfl) (by intro v hv; simp only [List.mem_cons, List.not_mem_nil, or_false] at hv; rcases hv with rfl | rfl <;> first | rfl | exact jrf_cat _) ?_
  intro p e s m below meth c C hK hret hlk hnm hsz hAz
  have hb0 : lv 0 0 := h.k (by decide)
  have hb1 : lv 1 0 := h.k (by decide)
  have hb2 : lv 2 0 := h.k (by decide)
  have hb3 : lv 3 0 := h.k (by decide)
  have hb4 : lv 4 0 := h.k (by decide)
  have hb5 : lv 5 0 := h.k (by decide)
  refine j_iload_n C d_X_word_0 rfl rfl ?_
  refine j_if_lt C 10 d_X_word_1 rfl (fun g1 => ?_) (fun g1 => ?_)
  ·
    refine j_iconst (v := -1) C d_X_word_10 (by decide) ?_
    refine j_goto C 22 d_X_word_11 rfl ?_
    refine j_iret C hret hlk d_X_word_22 ?_ ?_ rfl rfl
    · rw [c_word, if_pos g1]
    · rw [c_word, if_pos g1]
  ·
    refine j_iload_n C d_X_word_4 rfl rfl ?_
    refine j_ldc C d_X_word_5 t_249 ?_
    refine j_icmp_le C 14 d_X_word_7 rfl (fun g2 => ?_) (fun g2 => ?_)
    ·
      refine j_aload_n C d_X_word_14 rfl rfl ?_
      refine sgC C hK 0 0 3 d_X_word_15 in_X rfl rfl (by decide) t_109 rfl rfl rfl (by assumption) ?_
      refine j_iload_n C d_X_word_18 rfl rfl ?_
      refine j_callV C hK hAz 4 0 (k_add (a := a) h _) (jcV C mi_W_add t_250 t_251 t_252 rfl rfl ⟨by decide, by decide⟩) rfl rfl (by assumption) rfl rfl (Nat.le_of_ble_eq_true rfl) d_X_word_19 ⟨Nat.zero_le _, Nat.zero_le _⟩ ?_
      refine j_iret C hret hlk d_X_word_22 ?_ ?_ rfl rfl
      · rw [c_word, if_neg g1, if_pos g2]
      · rw [c_word, if_neg g1, if_pos g2]
    ·
      refine j_iconst (v := -1) C d_X_word_10 (by decide) ?_
      refine j_goto C 22 d_X_word_11 rfl ?_
      refine j_iret C hret hlk d_X_word_22 ?_ ?_ rfl rfl
      · rw [c_word, if_neg g1, if_neg g2]
      · rw [c_word, if_neg g1, if_neg g2]
set_option maxRecDepth 100000 in
set_option maxHeartbeats 4000000 in
theorem lp_run {l : Launch} {D : va_G} {E : Nat → ClassId} {ad : Nat → Nat → Nat} {lv : Nat → Nat → Prop} {τ : sT} {V1 : jVT} {a : Int32} {R0 : Option Value} {p : Program} {e : Env} {s : State} {m : MethodId} {below : List Frame} {meth : Method} {c : Code} {sz : Nat} (C : CallFix p m c c_X_run 3 s ([.ref (ad 0 0), .int (a)] : List Value).toArray jT "InputRoom") (hK : jK D jcl jY E s) (hret : meth.sig.returnType = some .int) (hlk : meth.locks = false) (hAz : ∀ q, s.heap.size ≤ q → jA ad lv sz q) : ∀ (n : Nat) (σ1 : sT) (i : Int32), OKs σ1 lv → i.toInt + n = a.toInt → R0 = some (.int (i + nI (cf_loop n σ1).1)) → jv ad (cf_loop n σ1).2 τ = V1 → JM l y_X_run c_X_run 3 (some .int) 6 D E ad lv p e s m below meth c sz [.ref (ad 0 0), .int (a)] R0 (V1) (jv ad σ1 τ) 27 [some (.ref (ad 0 0)), some (.int (a)), some (.int (i))] [] := by
  intro n
  induction n with
  | zero =>
    intro σ1 i h1 hi hR hV
    have hge : a ≤ i := by rw [i32_le]; omega
    refine j_iload_n C d_X_run_27 rfl rfl ?_
    refine j_iload_n C d_X_run_28 rfl rfl ?_
    refine j_icmp_ge C 57 d_X_run_29 rfl (fun _ => ?_) (fun g1 => absurd hge g1)
    refine j_iload_n C d_X_run_57 rfl rfl ?_
    refine j_iret C hret hlk d_X_run_58 ?_ ?_ rfl rfl
    · rw [hR]; show _ = _; rw [show (cf_loop 0 σ1).1 = 0 from rfl, nI_0, Int32.add_zero]
    · exact hV
  | succ n ih =>
    intro σ1 i h1 hi hR hV
    have hlt : i.toInt < a.toInt := by omega
    have hge : ¬ a ≤ i := by rw [i32_le]; omega
    have hb0 : lv 0 0 := h1.k (by decide)
    refine j_iload_n C d_X_run_27 rfl rfl ?_
    refine j_iload_n C d_X_run_28 rfl rfl ?_
    refine j_icmp_ge C 57 d_X_run_29 rfl (fun g1 => absurd g1 hge) (fun _ => ?_)
    refine j_aload_n C d_X_run_32 rfl rfl ?_
    refine sgR (t := 8) C hK 0 0 4 d_X_run_33 in_X rfl rfl (by decide) t_110 rfl rfl rfl (by assumption) ?_
    refine jnull (o := σ1.2.1 0 0 4) (t := 8) C 57 d_X_run_36 rfl (fun g2 => ?_) (fun x3 g2 => ?_)
    ·
      try rw [g2]
      refine j_iload_n C d_X_run_57 rfl rfl ?_
      refine j_iret C hret hlk d_X_run_58 ?_ ?_ rfl rfl
      · rw [hR]; rw [show (cf_loop (n + 1) σ1).1 = 0 by simp only [cf_loop, g2], nI_0, Int32.add_zero]
      · rw [← hV]; simp only [cf_loop, g2]
    ·
      try rw [g2]
      have hmx3 : Mk σ1 x3 := h1.ac g2
      have hlx3 : lv 8 x3 := h1.p hmx3
      have hax3 : lv 9 x3 := h1.a hmx3
      refine j_aload_n C d_X_run_39 rfl rfl ?_
      refine j_aload_n C d_X_run_40 rfl rfl ?_
      refine sgR (t := 8) C hK 0 0 4 d_X_run_41 in_X rfl rfl (by decide) t_110 rfl rfl rfl (by assumption) ?_
      rw [g2]
      refine j_callV C hK hAz 0 0 (k_code (x := x3) h1 hmx3 _) (jcV C mi_X_doCode t_285 t_287 t_12 rfl rfl ⟨by decide, by decide⟩) rfl rfl (by assumption) rfl rfl (Nat.le_of_ble_eq_true rfl) d_X_run_44 ⟨Nat.zero_le _, Nat.zero_le _⟩ ?_
      have ok2 : OKs (cf_code σ1 x3) lv := (go_code h1).1
      refine j_aload_n C d_X_run_47 rfl rfl ?_
      refine j_callV C hK hAz 0 0 (k_behind ok2 _) (jcV C mi_X_doBehind t_265 t_267 t_8 rfl rfl ⟨by decide, by decide⟩) rfl rfl (by assumption) rfl rfl (Nat.le_of_ble_eq_true rfl) d_X_run_48 ⟨Nat.zero_le _, Nat.zero_le _⟩ ?_
      refine j_iinc C d_X_run_51 rfl (by decide) ?_
      refine j_goto C 27 d_X_run_54 rfl ?_
      have e1 : cf_loop (n + 1) σ1 = ((cf_loop n (cf_behind (cf_code σ1 x3))).1 + 1, (cf_loop n (cf_behind (cf_code σ1 x3))).2) := by simp only [cf_loop, g2]
      refine ih (cf_behind (cf_code σ1 x3)) _ (go_behind ok2).1 ?_ ?_ ?_
      · rw [i32_succ hlt]; omega
      · rw [hR, e1, nI_succ, Int32.add_assoc, Int32.add_comm (nI _) 1]; rfl
      · rw [← hV, e1]
set_option maxRecDepth 100000 in
set_option maxHeartbeats 4000000 in
theorem k_run {l : Launch} {D : va_G} {E : Nat → ClassId} {ad : Nat → Nat → Nat} {lv : Nat → Nat → Prop} {σ τ : sT} (h : OKs σ lv) {a : Int32} : jM l y_X_run c_X_run 3 (some .int) 6 D E ad lv (jv ad σ τ) [.ref (ad 0 0), .int (a)] (some (.int (c_run σ a).1)) (jv ad (c_run σ a).2 τ) := by
  intro sz
  refine jC.of "InputRoom" (by decide +kernel) rfl rfl (Nat.le_of_ble_eq_true rfl) (by intro v hv; simp only [List.mem_cons, List.not_mem_nil, or_false] at hv; rcases hv with rfl | rfl <;> first | rfl | exact jrf_cat _) ?_
  intro p e s m below meth c C hK hret hlk hnm hsz hAz
  have hb0 : lv 0 0 := h.k (by decide)
  have hb1 : lv 1 0 := h.k (by decide)
  have hb2 : lv 2 0 := h.k (by decide)
  have hb3 : lv 3 0 := h.k (by decide)
  have hb4 : lv 4 0 := h.k (by decide)
  have hb5 : lv 5 0 := h.k (by decide)
  refine j_iload_n C d_X_run_0 rfl rfl ?_
  refine j_iconst (v := 1) C d_X_run_1 (by decide) ?_
  refine j_icmp_lt C 12 d_X_run_2 rfl (fun g1 => ?_) (fun g1 => ?_)
  ·
    refine j_iconst (v := -1) C d_X_run_12 (by decide) ?_
    refine j_iret C hret hlk d_X_run_13 ?_ ?_ rfl rfl
    · rw [c_run, if_pos g1]
    · rw [c_run, if_pos g1]
  ·
    refine j_iload_n C d_X_run_5 rfl rfl ?_
    refine j_sipush (v := 1000) C d_X_run_6 (by decide) ?_
    refine j_icmp_le C 14 d_X_run_9 rfl (fun g2 => ?_) (fun g2 => ?_)
    ·
      refine j_aload_n C d_X_run_14 rfl rfl ?_
      refine sgR (t := 8) C hK 0 0 4 d_X_run_15 in_X rfl rfl (by decide) t_110 rfl rfl rfl (by assumption) ?_
      refine jnonnull (o := σ.2.1 0 0 4) (t := 8) C 25 d_X_run_18 rfl (fun x4 g3 => ?_) (fun g3 => ?_)
      ·
        try rw [g3]
        have hmx4 : Mk σ x4 := h.ac g3
        have hlx4 : lv 8 x4 := h.p hmx4
        have hax4 : lv 9 x4 := h.a hmx4
        refine j_iconst (v := 0) C d_X_run_25 (by decide) ?_
        refine j_istore_n C d_X_run_26 rfl (by decide) ?_
        have e0 : c_run0 σ = σ := by simp only [c_run0, g3]
        have e1 : c_run σ a = (0 + nI (cf_loop a.toNatClampNeg σ).1, (cf_loop a.toNatClampNeg σ).2) := by rw [c_run, if_neg g1, if_pos g2, e0]
        refine lp_run C hK hret hlk hAz a.toNatClampNeg σ 0 h ?_ (by rw [e1]) (by rw [e1])
        rw [i32_lt, show (1 : Int32).toInt = 1 from rfl] at g1
        rw [← Int32.toNat_toInt, i32_0]
        omega
      ·
        try rw [g3]
        refine j_aload_n C d_X_run_21 rfl rfl ?_
        refine j_callV C hK hAz 0 0 (k_behind h _) (jcV C mi_X_doBehind t_265 t_267 t_8 rfl rfl ⟨by decide, by decide⟩) rfl rfl (by assumption) rfl rfl (Nat.le_of_ble_eq_true rfl) d_X_run_22 ⟨Nat.zero_le _, Nat.zero_le _⟩ ?_
        refine j_iconst (v := 0) C d_X_run_25 (by decide) ?_
        refine j_istore_n C d_X_run_26 rfl (by decide) ?_
        have e0 : c_run0 σ = (cf_behind σ) := by simp only [c_run0, g3]
        have e1 : c_run σ a = (0 + nI (cf_loop a.toNatClampNeg (cf_behind σ)).1, (cf_loop a.toNatClampNeg (cf_behind σ)).2) := by rw [c_run, if_neg g1, if_pos g2, e0]
        refine lp_run C hK hret hlk hAz a.toNatClampNeg (cf_behind σ) 0 (go_behind h).1 ?_ (by rw [e1]) (by rw [e1])
        rw [i32_lt, show (1 : Int32).toInt = 1 from rfl] at g1
        rw [← Int32.toNat_toInt, i32_0]
        omega
    ·
      refine j_iconst (v := -1) C d_X_run_12 (by decide) ?_
      refine j_iret C hret hlk d_X_run_13 ?_ ?_ rfl rfl
      · rw [c_run, if_neg g1, if_neg g2]
      · rw [c_run, if_neg g1, if_neg g2]
set_option maxRecDepth 100000 in
set_option maxHeartbeats 4000000 in
theorem k_active {l : Launch} {D : va_G} {E : Nat → ClassId} {ad : Nat → Nat → Nat} {lv : Nat → Nat → Prop} {σ τ : sT} (h : OKs σ lv) : jM l y_X_active c_X_active 1 (some .int) 1 D E ad lv (jv ad σ τ) [.ref (ad 0 0)] (some (.int (cf_num (σ.2.1 0 0 4)))) (jv ad σ τ) := by
  intro sz
  refine jC.of "InputRoom" (by decide +kernel) rfl rfl (Nat.le_of_ble_eq_true rfl) (by intro v hv; simp only [List.mem_cons, List.not_mem_nil, or_false] at hv; rcases hv with rfl <;> first | rfl | exact jrf_cat _) ?_
  intro p e s m below meth c C hK hret hlk hnm hsz hAz
  have hb0 : lv 0 0 := h.k (by decide)
  have hb1 : lv 1 0 := h.k (by decide)
  have hb2 : lv 2 0 := h.k (by decide)
  have hb3 : lv 3 0 := h.k (by decide)
  have hb4 : lv 4 0 := h.k (by decide)
  have hb5 : lv 5 0 := h.k (by decide)
  refine j_aload_n C d_X_active_0 rfl rfl ?_
  refine sgR (t := 8) C hK 0 0 4 d_X_active_1 in_X rfl rfl (by decide) t_110 rfl rfl rfl (by assumption) ?_
  refine j_callS C hK hAz (k_numberOf (o := σ.2.1 0 0 4) (fun x q => h.p (h.ac q)) _) ⟨jcB C mi_X_numberOf t_319 rfl rfl ⟨by decide, by decide⟩, C.2.2.2.2 _ t_320⟩ rfl rfl (Nat.le_of_ble_eq_true rfl) d_X_active_4 ⟨Nat.zero_le _, Nat.zero_le _⟩ ?_
  refine j_iret C hret hlk d_X_active_7 ?_ ?_ rfl rfl
  · rfl
  · rfl
set_option maxRecDepth 100000 in
set_option maxHeartbeats 4000000 in
theorem k_present {l : Launch} {D : va_G} {E : Nat → ClassId} {ad : Nat → Nat → Nat} {lv : Nat → Nat → Prop} {σ τ : sT} (h : OKs σ lv) : jM l y_X_present c_X_present 1 (some .int) 1 D E ad lv (jv ad σ τ) [.ref (ad 0 0)] (some (.int (cf_num (cf_pres σ)))) (jv ad σ τ) := by
  intro sz
  refine jC.of "InputRoom" (by decide +kernel) rfl rfl (Nat.le_of_ble_eq_true rfl) (by intro v hv; simp only [List.mem_cons, List.not_mem_nil, or_false] at hv; rcases hv with rfl <;> first | rfl | exact jrf_cat _) ?_
  intro p e s m below meth c C hK hret hlk hnm hsz hAz
  have hb0 : lv 0 0 := h.k (by decide)
  have hb1 : lv 1 0 := h.k (by decide)
  have hb2 : lv 2 0 := h.k (by decide)
  have hb3 : lv 3 0 := h.k (by decide)
  have hb4 : lv 4 0 := h.k (by decide)
  have hb5 : lv 5 0 := h.k (by decide)
  refine j_aload_n C d_X_present_0 rfl rfl ?_
  refine j_callV C hK hAz 0 0 (k_pres h _) (jcV C mi_X_presentOne t_193 t_195 t_1 rfl rfl ⟨by decide, by decide⟩) rfl rfl (by assumption) rfl rfl (Nat.le_of_ble_eq_true rfl) d_X_present_1 ⟨Nat.zero_le _, Nat.zero_le _⟩ ?_
  refine j_callS C hK hAz (k_numberOf (o := cf_pres σ) (fun x q => h.p (pres_ok h q)) _) ⟨jcB C mi_X_numberOf t_319 rfl rfl ⟨by decide, by decide⟩, C.2.2.2.2 _ t_320⟩ rfl rfl (Nat.le_of_ble_eq_true rfl) d_X_present_4 ⟨Nat.zero_le _, Nat.zero_le _⟩ ?_
  refine j_iret C hret hlk d_X_present_7 ?_ ?_ rfl rfl
  · rfl
  · rfl
set_option maxRecDepth 100000 in
set_option maxHeartbeats 4000000 in
theorem k_clock {l : Launch} {D : va_G} {E : Nat → ClassId} {ad : Nat → Nat → Nat} {lv : Nat → Nat → Prop} {σ τ : sT} (h : OKs σ lv) : jM l y_X_clock c_X_clock 1 (some .int) 0 D E ad lv (jv ad σ τ) [.ref (ad 0 0)] (some (.int (σ.1 0 0 7))) (jv ad σ τ) := by
  intro sz
  refine jC.of "InputRoom" (by decide +kernel) rfl rfl (Nat.le_of_ble_eq_true rfl) (by intro v hv; simp only [List.mem_cons, List.not_mem_nil, or_false] at hv; rcases hv with rfl <;> first | rfl | exact jrf_cat _) ?_
  intro p e s m below meth c C hK hret hlk hnm hsz hAz
  have hb0 : lv 0 0 := h.k (by decide)
  have hb1 : lv 1 0 := h.k (by decide)
  have hb2 : lv 2 0 := h.k (by decide)
  have hb3 : lv 3 0 := h.k (by decide)
  have hb4 : lv 4 0 := h.k (by decide)
  have hb5 : lv 5 0 := h.k (by decide)
  refine j_aload_n C d_X_clock_0 rfl rfl ?_
  refine sgI C hK 0 0 7 d_X_clock_1 in_X rfl rfl (by decide) t_113 rfl rfl rfl (by assumption) ?_
  refine j_iret C hret hlk d_X_clock_4 ?_ ?_ rfl rfl
  · rfl
  · rfl
set_option maxRecDepth 100000 in
set_option maxHeartbeats 4000000 in
theorem k_codes {l : Launch} {D : va_G} {E : Nat → ClassId} {ad : Nat → Nat → Nat} {lv : Nat → Nat → Prop} {σ τ : sT} (h : OKs σ lv) : jM l y_X_codes c_X_codes 1 (some .long) 0 D E ad lv (jv ad σ τ) [.ref (ad 0 0)] (some (.long (σ.2.2 0 0 8))) (jv ad σ τ) := by
  intro sz
  refine jC.of "InputRoom" (by decide +kernel) rfl rfl (Nat.le_of_ble_eq_true rfl) (by intro v hv; simp only [List.mem_cons, List.not_mem_nil, or_false] at hv; rcases hv with rfl <;> first | rfl | exact jrf_cat _) ?_
  intro p e s m below meth c C hK hret hlk hnm hsz hAz
  have hb0 : lv 0 0 := h.k (by decide)
  have hb1 : lv 1 0 := h.k (by decide)
  have hb2 : lv 2 0 := h.k (by decide)
  have hb3 : lv 3 0 := h.k (by decide)
  have hb4 : lv 4 0 := h.k (by decide)
  have hb5 : lv 5 0 := h.k (by decide)
  refine j_aload_n C d_X_codes_0 rfl rfl ?_
  refine sgL C hK 0 0 8 d_X_codes_1 in_X rfl rfl (by decide) t_114 rfl rfl rfl (by assumption) ?_
  refine j_lret C hret hlk d_X_codes_4 ?_ ?_ rfl rfl
  · rfl
  · rfl
set_option maxRecDepth 100000 in
set_option maxHeartbeats 4000000 in
theorem k_done {l : Launch} {D : va_G} {E : Nat → ClassId} {ad : Nat → Nat → Nat} {lv : Nat → Nat → Prop} {σ τ : sT} (h : OKs σ lv) {a : Int32} : jM l y_X_done c_X_done 3 (some .int) 1 D E ad lv (jv ad σ τ) [.ref (ad 0 0), .int (a)] (some (.int (c_done σ a))) (jv ad σ τ) := by
  intro sz
  refine jC.of "InputRoom" (by decide +kernel) rfl rfl (Nat.le_of_ble_eq_true rfl) (by intro v hv; simp only [List.mem_cons, List.not_mem_nil, or_false] at hv; rcases hv with rfl | rfl <;> first | rfl | exact jrf_cat _) ?_
  intro p e s m below meth c C hK hret hlk hnm hsz hAz
  have hb0 : lv 0 0 := h.k (by decide)
  have hb1 : lv 1 0 := h.k (by decide)
  have hb2 : lv 2 0 := h.k (by decide)
  have hb3 : lv 3 0 := h.k (by decide)
  have hb4 : lv 4 0 := h.k (by decide)
  have hb5 : lv 5 0 := h.k (by decide)
  refine j_aload_n C d_X_done_0 rfl rfl ?_
  refine j_iload_n C d_X_done_1 rfl rfl ?_
  refine j_callV C hK hAz 0 0 (k_pn (a := a) h _) (jcV C mi_X_processNumbered t_185 t_187 t_0 rfl rfl ⟨by decide, by decide⟩) rfl rfl (by assumption) rfl rfl (Nat.le_of_ble_eq_true rfl) d_X_done_2 ⟨Nat.zero_le _, Nat.zero_le _⟩ ?_
  refine j_astore_nQ C d_X_done_5 rfl (by decide) ?_
  refine j_aload_nQ C d_X_done_6 rfl rfl ?_
  refine jnonnull (o := cf_pn σ a) (t := 8) C 14 d_X_done_7 rfl (fun x2 g1 => ?_) (fun g1 => ?_)
  ·
    try rw [g1]
    have hmx2 : Mk σ x2 := pn_ok h g1
    have hlx2 : lv 8 x2 := h.p hmx2
    have hax2 : lv 9 x2 := h.a hmx2
    refine j_aload_n C d_X_done_14 rfl rfl ?_
    refine sgI C hK 8 x2 4 d_X_done_15 in_P rfl rfl (by decide) t_161 rfl rfl rfl (by assumption) ?_
    refine j_iret C hret hlk d_X_done_18 ?_ ?_ rfl rfl
    · simp only [c_done, g1]
    · rfl
  ·
    try rw [g1]
    refine j_iconst (v := -1) C d_X_done_10 (by decide) ?_
    refine j_goto C 18 d_X_done_11 rfl ?_
    refine j_iret C hret hlk d_X_done_18 ?_ ?_ rfl rfl
    · simp only [c_done, g1]
    · rfl
set_option maxRecDepth 100000 in
set_option maxHeartbeats 4000000 in
theorem k_row {l : Launch} {D : va_G} {E : Nat → ClassId} {ad : Nat → Nat → Nat} {lv : Nat → Nat → Prop} {σ τ : sT} (h : OKs σ lv) {a : Int32} : jM l y_X_row c_X_row 3 (some .int) 1 D E ad lv (jv ad σ τ) [.ref (ad 0 0), .int (a)] (some (.int (c_row σ a))) (jv ad σ τ) := by
  intro sz
  refine jC.of "InputRoom" (by decide +kernel) rfl rfl (Nat.le_of_ble_eq_true rfl) (by intro v hv; simp only [List.mem_cons, List.not_mem_nil, or_false] at hv; rcases hv with rfl | rfl <;> first | rfl | exact jrf_cat _) ?_
  intro p e s m below meth c C hK hret hlk hnm hsz hAz
  have hb0 : lv 0 0 := h.k (by decide)
  have hb1 : lv 1 0 := h.k (by decide)
  have hb2 : lv 2 0 := h.k (by decide)
  have hb3 : lv 3 0 := h.k (by decide)
  have hb4 : lv 4 0 := h.k (by decide)
  have hb5 : lv 5 0 := h.k (by decide)
  refine j_aload_n C d_X_row_0 rfl rfl ?_
  refine j_iload_n C d_X_row_1 rfl rfl ?_
  refine j_callV C hK hAz 0 0 (k_pn (a := a) h _) (jcV C mi_X_processNumbered t_185 t_187 t_0 rfl rfl ⟨by decide, by decide⟩) rfl rfl (by assumption) rfl rfl (Nat.le_of_ble_eq_true rfl) d_X_row_2 ⟨Nat.zero_le _, Nat.zero_le _⟩ ?_
  refine j_astore_nQ C d_X_row_5 rfl (by decide) ?_
  refine j_aload_nQ C d_X_row_6 rfl rfl ?_
  refine jnonnull (o := cf_pn σ a) (t := 8) C 14 d_X_row_7 rfl (fun x2 g1 => ?_) (fun g1 => ?_)
  ·
    try rw [g1]
    have hmx2 : Mk σ x2 := pn_ok h g1
    have hlx2 : lv 8 x2 := h.p hmx2
    have hax2 : lv 9 x2 := h.a hmx2
    refine j_aload_n C d_X_row_14 rfl rfl ?_
    refine sgI C hK 8 x2 5 d_X_row_15 in_P rfl rfl (by decide) t_164 rfl rfl rfl (by assumption) ?_
    refine j_iret C hret hlk d_X_row_18 ?_ ?_ rfl rfl
    · simp only [c_row, g1]
    · rfl
  ·
    try rw [g1]
    refine j_iconst (v := -1) C d_X_row_10 (by decide) ?_
    refine j_goto C 18 d_X_row_11 rfl ?_
    refine j_iret C hret hlk d_X_row_18 ?_ ?_ rfl rfl
    · simp only [c_row, g1]
    · rfl
set_option maxRecDepth 100000 in
set_option maxHeartbeats 4000000 in
theorem k_extra {l : Launch} {D : va_G} {E : Nat → ClassId} {ad : Nat → Nat → Nat} {lv : Nat → Nat → Prop} {σ τ : sT} (h : OKs σ lv) {a : Int32} : jM l y_X_extra c_X_extra 2 (some .int) 1 D E ad lv (jv ad σ τ) [.ref (ad 0 0), .int (a)] (some (.int (c_extra σ a))) (jv ad σ τ) := by
  intro sz
  refine jC.of "InputRoom" (by decide +kernel) rfl rfl (Nat.le_of_ble_eq_true rfl) (by intro v hv; simp only [List.mem_cons, List.not_mem_nil, or_false] at hv; rcases hv with rfl | rfl <;> first | rfl | exact jrf_cat _) ?_
  intro p e s m below meth c C hK hret hlk hnm hsz hAz
  have hb0 : lv 0 0 := h.k (by decide)
  have hb1 : lv 1 0 := h.k (by decide)
  have hb2 : lv 2 0 := h.k (by decide)
  have hb3 : lv 3 0 := h.k (by decide)
  have hb4 : lv 4 0 := h.k (by decide)
  have hb5 : lv 5 0 := h.k (by decide)
  refine j_iload_n C d_X_extra_0 rfl rfl ?_
  refine j_callS C hK hAz (k_isSem (a := a) _) ⟨jcB C mi_X_isSemaphore t_225 rfl rfl ⟨by decide, by decide⟩, C.2.2.2.2 _ t_226⟩ rfl rfl (Nat.le_of_ble_eq_true rfl) d_X_extra_1 ⟨Nat.zero_le _, Nat.zero_le _⟩ ?_
  refine j_if_eq C 19 d_X_extra_4 rfl (fun g1 => ?_) (fun g1 => ?_)
  ·
    have n0 : ¬ isS (a) := fun z => by rw [if_pos z] at g1; exact absurd g1 (by decide)
    refine j_iconst (v := -1) C d_X_extra_19 (by decide) ?_
    refine j_iret C hret hlk d_X_extra_20 ?_ ?_ rfl rfl
    · rw [c_extra, if_neg n0]
    · rfl
  ·
    have q0 : isS (a) := Decidable.byContradiction fun z => g1 (if_neg z)
    have hlq0 : lv 7 (a).toNatClampNeg := h.s (isS_lt q0)
    refine j_aload_n C d_X_extra_7 rfl rfl ?_
    refine sgC C hK 0 0 2 d_X_extra_8 in_X rfl rfl (by decide) t_108 rfl rfl rfl (by assumption) ?_
    refine j_iload_n C d_X_extra_11 rfl rfl ?_
    refine saC C hK 3 0 d_X_extra_12 rfl (isS_in q0) rfl rfl (by assumption) ?_
    refine sgI C hK 7 ((a).toNatClampNeg) 2 d_X_extra_13 in_S rfl rfl (by decide) t_98 rfl rfl rfl (by assumption) ?_
    refine j_goto C 20 d_X_extra_16 rfl ?_
    refine j_iret C hret hlk d_X_extra_20 ?_ ?_ rfl rfl
    · rw [c_extra, if_pos q0]
    · rfl
set_option maxRecDepth 100000 in
set_option maxHeartbeats 4000000 in
theorem k_wordAt {l : Launch} {D : va_G} {E : Nat → ClassId} {ad : Nat → Nat → Nat} {lv : Nat → Nat → Prop} {σ τ : sT} (h : OKs σ lv) {a : Int32} : jM l y_X_wordAt c_X_wordAt 2 (some .int) 3 D E ad lv (jv ad σ τ) [.ref (ad 0 0), .int (a)] (some (.int (cf_wordAt σ a))) (jv ad σ τ) := by
  intro sz
  refine jC.of "InputRoom" (by decide +kernel) rfl rfl (Nat.le_of_ble_eq_true rfl) (by intro v hv; simp only [List.mem_cons, List.not_mem_nil, or_false] at hv; rcases hv with rfl | rfl <;> first | rfl | exact jrf_cat _) ?_
  intro p e s m below meth c C hK hret hlk hnm hsz hAz
  have hb0 : lv 0 0 := h.k (by decide)
  have hb1 : lv 1 0 := h.k (by decide)
  have hb2 : lv 2 0 := h.k (by decide)
  have hb3 : lv 3 0 := h.k (by decide)
  have hb4 : lv 4 0 := h.k (by decide)
  have hb5 : lv 5 0 := h.k (by decide)
  refine j_aload_n C d_X_wordAt_0 rfl rfl ?_
  refine sgC C hK 0 0 3 d_X_wordAt_1 in_X rfl rfl (by decide) t_109 rfl rfl rfl (by assumption) ?_
  refine j_iload_n C d_X_wordAt_4 rfl rfl ?_
  refine j_callV C hK hAz 4 0 (k_get (a := a) h _) (jcV C mi_W_get t_358 t_359 t_360 rfl rfl ⟨by decide, by decide⟩) rfl rfl (by assumption) rfl rfl (Nat.le_of_ble_eq_true rfl) d_X_wordAt_5 ⟨Nat.zero_le _, Nat.zero_le _⟩ ?_
  refine j_iret C hret hlk d_X_wordAt_8 ?_ ?_ rfl rfl
  · rfl
  · rfl
set_option maxRecDepth 100000 in
set_option maxHeartbeats 4000000 in
theorem k_input {l : Launch} {D : va_G} {E : Nat → ClassId} {ad : Nat → Nat → Nat} {lv : Nat → Nat → Prop} {σ τ : sT} (h : OKs σ lv) : jM l y_X_input c_X_input 1 (some .int) 0 D E ad lv (jv ad σ τ) [.ref (ad 0 0)] (some (.int (cf_num (σ.2.1 0 0 9)))) (jv ad σ τ) := by
  intro sz
  refine jC.of "InputRoom" (by decide +kernel) rfl rfl (Nat.le_of_ble_eq_true rfl) (by intro v hv; simp only [List.mem_cons, List.not_mem_nil, or_false] at hv; rcases hv with rfl <;> first | rfl | exact jrf_cat _) ?_
  intro p e s m below meth c C hK hret hlk hnm hsz hAz
  have hb0 : lv 0 0 := h.k (by decide)
  have hb1 : lv 1 0 := h.k (by decide)
  have hb2 : lv 2 0 := h.k (by decide)
  have hb3 : lv 3 0 := h.k (by decide)
  have hb4 : lv 4 0 := h.k (by decide)
  have hb5 : lv 5 0 := h.k (by decide)
  refine j_aload_n C d_X_input_0 rfl rfl ?_
  refine sgR (t := 7) C hK 0 0 9 d_X_input_1 in_X rfl rfl (by decide) t_115 rfl rfl rfl (by assumption) ?_
  refine jnonnull (o := σ.2.1 0 0 9) (t := 7) C 11 d_X_input_4 rfl (fun x2 g1 => ?_) (fun g1 => ?_)
  ·
    try rw [g1]
    have hsx2 : x2 < 16 := h.inp g1
    have hlx2 : lv 7 x2 := h.s hsx2
    refine j_aload_n C d_X_input_11 rfl rfl ?_
    refine sgR (t := 7) C hK 0 0 9 d_X_input_12 in_X rfl rfl (by decide) t_115 rfl rfl rfl (by assumption) ?_
    rw [g1]
    refine sgC C hK 7 x2 0 d_X_input_15 in_S rfl rfl (by decide) t_95 rfl rfl rfl (by assumption) ?_
    refine j_iret C hret hlk d_X_input_18 ?_ ?_ rfl rfl
    · simp only [g1, cf_num]
    · rfl
  ·
    try rw [g1]
    refine j_iconst (v := -1) C d_X_input_7 (by decide) ?_
    refine j_goto C 18 d_X_input_8 rfl ?_
    refine j_iret C hret hlk d_X_input_18 ?_ ?_ rfl rfl
    · simp only [g1, cf_num]
    · rfl
set_option maxRecDepth 100000 in
set_option maxHeartbeats 4000000 in
theorem k_tick {l : Launch} {D : va_G} {E : Nat → ClassId} {ad : Nat → Nat → Nat} {lv : Nat → Nat → Prop} {σ τ : sT} (h : OKs σ lv) : jM l y_X_tick c_X_tick 1 (some .int) 0 D E ad lv (jv ad σ τ) [.ref (ad 0 0)] (some (.int (c_tick σ))) (jv ad σ τ) := by
  intro sz
  refine jC.of "InputRoom" (by decide +kernel) rfl rfl (Nat.le_of_ble_eq_true rfl) (by intro v hv; simp only [List.mem_cons, List.not_mem_nil, or_false] at hv; rcases hv with rfl <;> first | rfl | exact jrf_cat _) ?_
  intro p e s m below meth c C hK hret hlk hnm hsz hAz
  have hb0 : lv 0 0 := h.k (by decide)
  have hb1 : lv 1 0 := h.k (by decide)
  have hb2 : lv 2 0 := h.k (by decide)
  have hb3 : lv 3 0 := h.k (by decide)
  have hb4 : lv 4 0 := h.k (by decide)
  have hb5 : lv 5 0 := h.k (by decide)
  refine j_aload_n C d_X_tick_0 rfl rfl ?_
  refine sgR (t := 7) C hK 0 0 10 d_X_tick_1 in_X rfl rfl (by decide) t_116 rfl rfl rfl (by assumption) ?_
  refine jnonnull (o := σ.2.1 0 0 10) (t := 7) C 11 d_X_tick_4 rfl (fun x2 g1 => ?_) (fun g1 => ?_)
  ·
    try rw [g1]
    have hsx2 : x2 < 16 := h.al g1
    have hlx2 : lv 7 x2 := h.s hsx2
    refine j_aload_n C d_X_tick_11 rfl rfl ?_
    refine sgI C hK 0 0 11 d_X_tick_12 in_X rfl rfl (by decide) t_117 rfl rfl rfl (by assumption) ?_
    refine j_iret C hret hlk d_X_tick_15 ?_ ?_ rfl rfl
    · simp only [g1, c_tick]
    · rfl
  ·
    try rw [g1]
    refine j_iconst (v := -1) C d_X_tick_7 (by decide) ?_
    refine j_goto C 15 d_X_tick_8 rfl ?_
    refine j_iret C hret hlk d_X_tick_15 ?_ ?_ rfl rfl
    · simp only [g1, c_tick]
    · rfl
set_option maxRecDepth 100000 in
set_option maxHeartbeats 4000000 in
theorem k_at {l : Launch} {D : va_G} {E : Nat → ClassId} {ad : Nat → Nat → Nat} {lv : Nat → Nat → Prop} {σ τ : sT} (h : OKs σ lv) {a i : Int32} : jM l y_X_at c_X_at 3 (some .int) 1 D E ad lv (jv ad σ τ) [.ref (ad 0 0), .int (a), .int (i)] (some (.int (c_at σ a i))) (jv ad σ τ) := by
  intro sz
  refine jC.of "InputRoom" (by decide +kernel) rfl rfl (Nat.le_of_ble_eq_true rfl) (by intro v hv; simp only [List.mem_cons, List.not_mem_nil, or_false] at hv; rcases hv with rfl | rfl | rfl <;> first | rfl | exact jrf_cat _) ?_
  intro p e s m below meth c C hK hret hlk hnm hsz hAz
  have hb0 : lv 0 0 := h.k (by decide)
  have hb1 : lv 1 0 := h.k (by decide)
  have hb2 : lv 2 0 := h.k (by decide)
  have hb3 : lv 3 0 := h.k (by decide)
  have hb4 : lv 4 0 := h.k (by decide)
  have hb5 : lv 5 0 := h.k (by decide)
  refine j_iload_n C d_X_at_0 rfl rfl ?_
  refine j_iconst (v := 1) C d_X_at_1 (by decide) ?_
  refine j_icmp_lt C 27 d_X_at_2 rfl (fun g1 => ?_) (fun g1 => ?_)
  ·
    have n1 : ¬ (¬ a < 1 ∧ ¬ 8 < a) := fun z => z.1 g1
    refine j_iload_n C d_X_at_27 rfl rfl ?_
    refine j_bipush (v := 16) C d_X_at_28 (by decide) ?_
    refine j_isub C d_X_at_30 ?_
    refine j_callS C hK hAz (k_isSem (a := a - 16) _) ⟨jcB C mi_X_isSemaphore t_225 rfl rfl ⟨by decide, by decide⟩, C.2.2.2.2 _ t_226⟩ rfl rfl (Nat.le_of_ble_eq_true rfl) d_X_at_31 ⟨Nat.zero_le _, Nat.zero_le _⟩ ?_
    refine j_if_eq C 57 d_X_at_34 rfl (fun g2 => ?_) (fun g2 => ?_)
    ·
      have n16 : ¬ isS (a - 16) := fun z => by rw [if_pos z] at g2; exact absurd g2 (by decide)
      refine j_iconst (v := -1) C d_X_at_57 (by decide) ?_
      refine j_iret C hret hlk d_X_at_58 ?_ ?_ rfl rfl
      · rw [c_at, if_neg n1, if_neg n16]
      · rfl
    ·
      have q16 : isS (a - 16) := Decidable.byContradiction fun z => g2 (if_neg z)
      have hl16 : lv 7 (a - 16).toNatClampNeg := h.s (isS_lt q16)
      have hlr : lv 6 (8 + (a - 16).toNatClampNeg) := h.r (by have := isS_lt q16; omega)
      refine j_aload_n C d_X_at_37 rfl rfl ?_
      refine sgC C hK 0 0 2 d_X_at_38 in_X rfl rfl (by decide) t_108 rfl rfl rfl (by assumption) ?_
      refine j_iload_n C d_X_at_41 rfl rfl ?_
      refine j_bipush (v := 16) C d_X_at_42 (by decide) ?_
      refine j_isub C d_X_at_44 ?_
      refine saC C hK 3 0 d_X_at_45 rfl (isS_in q16) rfl rfl (by assumption) ?_
      refine sgC C hK 7 (((a - 16)).toNatClampNeg) 1 d_X_at_46 in_S rfl rfl (by decide) t_97 rfl rfl rfl (by assumption) ?_
      refine j_iload_n C d_X_at_49 rfl rfl ?_
      refine j_callV C hK hAz 6 (8 + (((a - 16)).toNatClampNeg)) (k_pAt (r := (8 + (((a - 16)).toNatClampNeg))) h (by have := isS_lt q16; omega) (a := i) _) (jcV C mi_R_processAt t_346 t_347 t_348 rfl rfl ⟨by decide, by decide⟩) rfl rfl (by assumption) rfl rfl (Nat.le_of_ble_eq_true rfl) d_X_at_50 ⟨Nat.zero_le _, Nat.zero_le _⟩ ?_
      refine j_callS C hK hAz (k_numberOf (o := c_pAt σ (8 + (((a - 16)).toNatClampNeg)) i) (fun x q => h.p (pAt_ok h (by have := isS_lt q16; omega) q)) _) ⟨jcB C mi_X_numberOf t_319 rfl rfl ⟨by decide, by decide⟩, C.2.2.2.2 _ t_320⟩ rfl rfl (Nat.le_of_ble_eq_true rfl) d_X_at_53 ⟨Nat.zero_le _, Nat.zero_le _⟩ ?_
      refine j_iret C hret hlk d_X_at_56 ?_ ?_ rfl rfl
      · rw [c_at, if_neg n1, if_pos q16]
      · rfl
  ·
    refine j_iload_n C d_X_at_5 rfl rfl ?_
    refine j_bipush (v := 8) C d_X_at_6 (by decide) ?_
    refine j_icmp_gt C 27 d_X_at_8 rfl (fun g3 => ?_) (fun g3 => ?_)
    ·
      have n1 : ¬ (¬ a < 1 ∧ ¬ 8 < a) := fun z => z.2 g3
      refine j_iload_n C d_X_at_27 rfl rfl ?_
      refine j_bipush (v := 16) C d_X_at_28 (by decide) ?_
      refine j_isub C d_X_at_30 ?_
      refine j_callS C hK hAz (k_isSem (a := a - 16) _) ⟨jcB C mi_X_isSemaphore t_225 rfl rfl ⟨by decide, by decide⟩, C.2.2.2.2 _ t_226⟩ rfl rfl (Nat.le_of_ble_eq_true rfl) d_X_at_31 ⟨Nat.zero_le _, Nat.zero_le _⟩ ?_
      refine j_if_eq C 57 d_X_at_34 rfl (fun g4 => ?_) (fun g4 => ?_)
      ·
        have n16 : ¬ isS (a - 16) := fun z => by rw [if_pos z] at g4; exact absurd g4 (by decide)
        refine j_iconst (v := -1) C d_X_at_57 (by decide) ?_
        refine j_iret C hret hlk d_X_at_58 ?_ ?_ rfl rfl
        · rw [c_at, if_neg n1, if_neg n16]
        · rfl
      ·
        have q16 : isS (a - 16) := Decidable.byContradiction fun z => g4 (if_neg z)
        have hl16 : lv 7 (a - 16).toNatClampNeg := h.s (isS_lt q16)
        have hlr : lv 6 (8 + (a - 16).toNatClampNeg) := h.r (by have := isS_lt q16; omega)
        refine j_aload_n C d_X_at_37 rfl rfl ?_
        refine sgC C hK 0 0 2 d_X_at_38 in_X rfl rfl (by decide) t_108 rfl rfl rfl (by assumption) ?_
        refine j_iload_n C d_X_at_41 rfl rfl ?_
        refine j_bipush (v := 16) C d_X_at_42 (by decide) ?_
        refine j_isub C d_X_at_44 ?_
        refine saC C hK 3 0 d_X_at_45 rfl (isS_in q16) rfl rfl (by assumption) ?_
        refine sgC C hK 7 (((a - 16)).toNatClampNeg) 1 d_X_at_46 in_S rfl rfl (by decide) t_97 rfl rfl rfl (by assumption) ?_
        refine j_iload_n C d_X_at_49 rfl rfl ?_
        refine j_callV C hK hAz 6 (8 + (((a - 16)).toNatClampNeg)) (k_pAt (r := (8 + (((a - 16)).toNatClampNeg))) h (by have := isS_lt q16; omega) (a := i) _) (jcV C mi_R_processAt t_346 t_347 t_348 rfl rfl ⟨by decide, by decide⟩) rfl rfl (by assumption) rfl rfl (Nat.le_of_ble_eq_true rfl) d_X_at_50 ⟨Nat.zero_le _, Nat.zero_le _⟩ ?_
        refine j_callS C hK hAz (k_numberOf (o := c_pAt σ (8 + (((a - 16)).toNatClampNeg)) i) (fun x q => h.p (pAt_ok h (by have := isS_lt q16; omega) q)) _) ⟨jcB C mi_X_numberOf t_319 rfl rfl ⟨by decide, by decide⟩, C.2.2.2.2 _ t_320⟩ rfl rfl (Nat.le_of_ble_eq_true rfl) d_X_at_53 ⟨Nat.zero_le _, Nat.zero_le _⟩ ?_
        refine j_iret C hret hlk d_X_at_56 ?_ ?_ rfl rfl
        · rw [c_at, if_neg n1, if_pos q16]
        · rfl
    ·
      have b1 : 1 ≤ a.toInt := by rw [i32_lt, show (1 : Int32).toInt = 1 from rfl] at g1; omega
      have b8 : a.toInt ≤ 8 := by rw [i32_lt, show (8 : Int32).toInt = 8 from rfl] at g3; omega
      have es : (a - 1).toInt = a.toInt - 1 := by rw [Int32.toInt_sub, show (1 : Int32).toInt = 1 from rfl]; apply Int.bmod_eq_of_le <;> omega
      have rin : vp_in (a - 1) 8 := by rw [vp_in_iff]; omega
      have rlt : (a - 1).toNatClampNeg < 8 := by rw [← Int32.toNat_toInt]; omega
      have hlr : lv 6 (a - 1).toNatClampNeg := h.r (by omega)
      refine j_aload_n C d_X_at_11 rfl rfl ?_
      refine sgC C hK 0 0 1 d_X_at_12 in_X rfl rfl (by decide) t_107 rfl rfl rfl (by assumption) ?_
      refine j_iload_n C d_X_at_15 rfl rfl ?_
      refine j_iconst (v := 1) C d_X_at_16 (by decide) ?_
      refine j_isub C d_X_at_17 ?_
      refine saC C hK 2 0 d_X_at_18 rfl rin rfl rfl (by assumption) ?_
      refine j_iload_n C d_X_at_19 rfl rfl ?_
      refine j_callV C hK hAz 6 (((a - 1)).toNatClampNeg) (k_pAt (r := (((a - 1)).toNatClampNeg)) h (by omega) (a := i) _) (jcV C mi_R_processAt t_346 t_347 t_348 rfl rfl ⟨by decide, by decide⟩) rfl rfl (by assumption) rfl rfl (Nat.le_of_ble_eq_true rfl) d_X_at_20 ⟨Nat.zero_le _, Nat.zero_le _⟩ ?_
      refine j_callS C hK hAz (k_numberOf (o := c_pAt σ (((a - 1)).toNatClampNeg) i) (fun x q => h.p (pAt_ok h (by omega) q)) _) ⟨jcB C mi_X_numberOf t_319 rfl rfl ⟨by decide, by decide⟩, C.2.2.2.2 _ t_320⟩ rfl rfl (Nat.le_of_ble_eq_true rfl) d_X_at_23 ⟨Nat.zero_le _, Nat.zero_le _⟩ ?_
      refine j_iret C hret hlk d_X_at_26 ?_ ?_ rfl rfl
      · rw [c_at, if_pos ⟨g1, g3⟩]
      · rfl
end
section
/-! WHAT THE REFERENCE DOES, as functions on its store (kinds 10 .. 19) -/
def mf_come (τ : sT) (p r : Int32) : sT :=
  let τ1 := sI τ 15 0 p.toNatClampNeg r
  let τ2 := sL τ1 16 0 p.toNatClampNeg (τ1.2.2 10 0 6)
  sL τ2 10 0 6 (τ2.2.2 10 0 6 + 1)
def mf_ft (τ : sT) (r : Int32) (k : Nat) (f : Int32) : Int32 := if τ.1 11 0 (nI k).toNatClampNeg = 0 then f else if τ.1 15 0 (nI k).toNatClampNeg = r then (if f < 0 then nI k else if 0 ≤ lg_cmp (τ.2.2 16 0 (nI k).toNatClampNeg) (τ.2.2 16 0 f.toNatClampNeg) then f else nI k) else f
def mf_fl (τ : sT) (r : Int32) : Nat → Nat → Int32 → Int32
  | 0, _, f => f
  | n + 1, k, f => mf_fl τ r n (k + 1) (mf_ft τ r k f)
def mf_first (τ : sT) (r : Int32) : Int32 := mf_fl τ r 32 0 (-1)
def mf_pres (τ : sT) : Int32 := if τ.1 10 0 9 = 0 then τ.1 10 0 8 else τ.1 10 0 10
def mf_want (τ : sT) (p : Int32) : sT := sI (sI τ 10 0 9 1) 10 0 10 p
def mf_pr (τ : sT) (p : Int32) : Int32 := τ.1 12 0 p.toNatClampNeg
def mf_rouse (τ : sT) (x : Int32) : sT := if mf_pres τ < 0 then mf_want τ x
  else if mf_pr τ (mf_pres τ) < mf_pr τ x then mf_want (mf_come τ (mf_pres τ) (mf_pr τ (mf_pres τ))) x else mf_come τ x (mf_pr τ x)
def mf_al (τ : sT) : Nat → Int32 → Int32
  | 0, nx => nx
  | n + 1, nx => if 0 ≤ nx then nx else mf_al τ n (mf_first τ (nI (n + 1)))
def mf_aend (τ : sT) (nx : Int32) : sT := mf_want (if nx < 0 then τ else sI τ 15 0 nx.toNatClampNeg 0) nx
def mf_aside (τ : sT) : sT := mf_aend τ (mf_al τ 8 (-1))
def mf_sig (τ : sT) (s : Int32) : sT := if 0 ≤ mf_first τ (16 + s) then mf_rouse (sI τ 15 0 (mf_first τ (16 + s)).toNatClampNeg 0) (mf_first τ (16 + s)) else sI τ 17 0 s.toNatClampNeg (τ.1 17 0 s.toNatClampNeg + 1)
def mf_wait (τ : sT) (s : Int32) : sT := if 0 ≤ mf_pres τ then (if τ.1 17 0 s.toNatClampNeg ≤ 0 then mf_aside (mf_come τ (mf_pres τ) (16 + s)) else sI τ 17 0 s.toNatClampNeg (τ.1 17 0 s.toNatClampNeg - 1)) else τ
def mf_give (τ : sT) : sT := if mf_pres τ < 0 then τ else if mf_first τ (mf_pr τ (mf_pres τ)) < 0 then τ else mf_aside (mf_come τ (mf_pres τ) (mf_pr τ (mf_pres τ)))
def mf_sh : Nat → Nat → sT → sT
  | 0, _, τ => τ
  | n + 1, k, τ => mf_sh n (k + 1) (sI τ 18 0 (nI k).toNatClampNeg (τ.1 18 0 (nI k + 1).toNatClampNeg))
def mf_drop (τ : sT) : sT := if τ.1 10 0 12 ≤ 0 then τ else mf_sh (τ.1 10 0 12 - 1).toNatClampNeg 0 (sI τ 10 0 12 (τ.1 10 0 12 - 1))
def mf_act (τ : sT) (a : Int32) : sT := if ¬ a < 16 ∧ ¬ 32 ≤ a then mf_wait τ (a - 16)
  else if ¬ a < 32 ∧ ¬ 48 ≤ a then mf_sig τ (a - 32)
  else if a = 48 then mf_give τ
  else if a = 49 then mf_drop τ
  else if a = 50 then sI τ 10 0 14 (-1)
  else if ¬ a < 64 ∧ ¬ 80 ≤ a then sI (sI τ 10 0 15 (a - 64)) 10 0 16 ((sI τ 10 0 15 (a - 64)).1 10 0 17 + 3)
  else if ¬ a < 80 ∧ ¬ 96 ≤ a then sI τ 10 0 14 (a - 80)
  else τ
def mf_post (τ : sT) (s : Int32) : sT :=
  let τ1 := sI τ 19 0 (τ.1 10 0 20).toNatClampNeg s
  sI τ1 10 0 20 (τ1.1 10 0 20 + 1)
def mf_pl : Nat → sT → sT
  | 0, τ => τ
  | n + 1, τ => mf_pl n (if τ.1 10 0 14 < 0 then τ else mf_post τ (τ.1 10 0 14))
def mf_sl : Nat → Nat → sT → sT
  | 0, _, τ => τ
  | n + 1, k, τ => mf_sl n (k + 1) (mf_sig τ (τ.1 19 0 (nI k).toNatClampNeg))
def mf_p2 (τ : sT) : sT := sI (mf_pl (τ.1 10 0 13).toNatClampNeg (sI τ 10 0 20 0)) 10 0 13 0
def mf_p3 (τ : sT) : sT := if τ.1 10 0 15 < 0 then τ else if τ.1 10 0 17 < τ.1 10 0 16 then τ else sI (mf_post τ (τ.1 10 0 15)) 10 0 15 (-1)
def mf_p4 (τ : sT) : sT := mf_sl (τ.1 10 0 20).toNatClampNeg 0 τ
def mf_p5 (τ : sT) : sT := if τ.1 10 0 9 = 0 then τ else sI (sI τ 10 0 8 (τ.1 10 0 10)) 10 0 9 0
def mf_ag (τ : sT) : Int32 := if 0 ≤ τ.1 10 0 8 then 0 else if τ.1 10 0 15 < 0 then 0 else 1
def mf_p6 (τ : sT) : sT := sI τ 10 0 17 (if mf_ag τ = 0 then τ.1 10 0 17 else τ.1 10 0 16)
def mf_p15 (τ : sT) : sT := mf_p5 (mf_p4 (mf_p3 (mf_p2 τ)))
def mf_behind (τ : sT) : sT := if mf_ag (mf_p15 τ) = 0 then mf_p6 (mf_p15 τ) else mf_p6 (mf_p15 (mf_p6 (mf_p15 τ)))
def mf_a (τ : sT) : Int32 := τ.1 13 0 (8 * τ.1 10 0 8 + (τ.1 14 0 (τ.1 10 0 8).toNatClampNeg - τ.1 14 0 (τ.1 10 0 8).toNatClampNeg / 8 * 8)).toNatClampNeg
def mf_code (τ : sT) : sT :=
  let τ1 := mf_act (sI τ 14 0 (τ.1 10 0 8).toNatClampNeg (τ.1 14 0 (τ.1 10 0 8).toNatClampNeg + 1)) (mf_a τ)
  let τ2 := sL τ1 10 0 18 (τ1.2.2 10 0 18 + 1)
  sI τ2 10 0 17 (if τ2.2.2 10 0 18 - τ2.2.2 10 0 18 / 64 * 64 = 0 then τ2.1 10 0 17 + 1 else τ2.1 10 0 17)
def mf_loop : Nat → sT → Nat × sT
  | 0, τ => (0, τ)
  | n + 1, τ => if τ.1 10 0 8 < 0 then (0, τ) else ((mf_loop n (mf_behind (mf_code τ))).1 + 1, (mf_loop n (mf_behind (mf_code τ))).2)
/-! the reference's ints stay within their arrays -/
def OKm (τ : sT) (lv : Nat → Nat → Prop) (N : Int) : Prop := (∀ k, 10 ≤ k → k < 20 → lv k 0) ∧ (τ.1 10 0 8).toInt < 32 ∧ (τ.1 10 0 10).toInt < 32 ∧ (τ.1 10 0 14).toInt < 16 ∧ (τ.1 10 0 15).toInt < 16 ∧ (0 ≤ (τ.1 10 0 12).toInt ∧ (τ.1 10 0 12).toInt ≤ 64) ∧ (0 ≤ (τ.1 10 0 13).toInt ∧ (τ.1 10 0 13).toInt ≤ 64) ∧ ∀ p, p < 32 → 0 ≤ (τ.1 14 0 p).toInt ∧ (τ.1 14 0 p).toInt ≤ N
theorem OKm.k {τ : sT} {lv : Nat → Nat → Prop} {N : Int} (h : OKm τ lv N) {k : Nat} (h1 : 10 ≤ k) (h2 : k < 20) : lv k 0 := h.1 k h1 h2
theorem OKm.o {τ : sT} {lv : Nat → Nat → Prop} {N : Int} (h : OKm τ lv N) {k i j : Nat} {x : Int32} (hk : ¬ (k = 10 ∧ (j = 8 ∨ j = 10 ∨ j = 12 ∨ j = 13 ∨ j = 14 ∨ j = 15))) (hk2 : ¬ k = 14) : OKm (sI τ k i j x) lv N := by
  obtain ⟨h0, h1, h2, h3, h4, h5, h6, h7⟩ := h
  have e : ∀ j', (j' = 8 ∨ j' = 10 ∨ j' = 12 ∨ j' = 13 ∨ j' = 14 ∨ j' = 15) → (sI τ k i j x).1 10 0 j' = τ.1 10 0 j' := by
    intro j' hj
    simp only [sI]
    rw [if_neg]
    rintro ⟨rfl, -, rfl⟩
    exact hk ⟨rfl, hj⟩
  have e2 : ∀ p, (sI τ k i j x).1 14 0 p = τ.1 14 0 p := by
    intro p
    simp only [sI]
    rw [if_neg (fun q => hk2 q.1.symm)]
  refine ⟨h0, ?_, ?_, ?_, ?_, ?_, ?_, ?_⟩
  · rw [e 8 (by decide)]; exact h1
  · rw [e 10 (by decide)]; exact h2
  · rw [e 14 (by decide)]; exact h3
  · rw [e 15 (by decide)]; exact h4
  · rw [e 12 (by decide)]; exact h5
  · rw [e 13 (by decide)]; exact h6
  · intro p hp; rw [e2]; exact h7 p hp
theorem OKm.L {τ : sT} {lv : Nat → Nat → Prop} {N : Int} (h : OKm τ lv N) {k i j : Nat} {x : Int64} : OKm (sL τ k i j x) lv N := h
theorem OKm.f8 {τ : sT} {lv : Nat → Nat → Prop} {N : Int} (h : OKm τ lv N) {x : Int32} (hx : x.toInt < 32) : OKm (sI τ 10 0 8 x) lv N := by
  obtain ⟨h0, h1, h2, h3, h4, h5, h6, h7⟩ := h
  exact ⟨h0, by simpa [sI] using hx, by simpa [sI] using h2, by simpa [sI] using h3, by simpa [sI] using h4, by simpa [sI] using h5, by simpa [sI] using h6, by simpa [sI] using h7⟩
theorem OKm.f10 {τ : sT} {lv : Nat → Nat → Prop} {N : Int} (h : OKm τ lv N) {x : Int32} (hx : x.toInt < 32) : OKm (sI τ 10 0 10 x) lv N := by
  obtain ⟨h0, h1, h2, h3, h4, h5, h6, h7⟩ := h
  exact ⟨h0, by simpa [sI] using h1, by simpa [sI] using hx, by simpa [sI] using h3, by simpa [sI] using h4, by simpa [sI] using h5, by simpa [sI] using h6, by simpa [sI] using h7⟩
theorem OKm.f14 {τ : sT} {lv : Nat → Nat → Prop} {N : Int} (h : OKm τ lv N) {x : Int32} (hx : x.toInt < 16) : OKm (sI τ 10 0 14 x) lv N := by
  obtain ⟨h0, h1, h2, h3, h4, h5, h6, h7⟩ := h
  exact ⟨h0, by simpa [sI] using h1, by simpa [sI] using h2, by simpa [sI] using hx, by simpa [sI] using h4, by simpa [sI] using h5, by simpa [sI] using h6, by simpa [sI] using h7⟩
theorem OKm.f15 {τ : sT} {lv : Nat → Nat → Prop} {N : Int} (h : OKm τ lv N) {x : Int32} (hx : x.toInt < 16) : OKm (sI τ 10 0 15 x) lv N := by
  obtain ⟨h0, h1, h2, h3, h4, h5, h6, h7⟩ := h
  exact ⟨h0, by simpa [sI] using h1, by simpa [sI] using h2, by simpa [sI] using h3, by simpa [sI] using hx, by simpa [sI] using h5, by simpa [sI] using h6, by simpa [sI] using h7⟩
theorem OKm.f12 {τ : sT} {lv : Nat → Nat → Prop} {N : Int} (h : OKm τ lv N) {x : Int32} (hx : 0 ≤ x.toInt ∧ x.toInt ≤ 64) : OKm (sI τ 10 0 12 x) lv N := by
  obtain ⟨h0, h1, h2, h3, h4, h5, h6, h7⟩ := h
  exact ⟨h0, by simpa [sI] using h1, by simpa [sI] using h2, by simpa [sI] using h3, by simpa [sI] using h4, by simpa [sI] using hx, by simpa [sI] using h6, by simpa [sI] using h7⟩
theorem OKm.f13 {τ : sT} {lv : Nat → Nat → Prop} {N : Int} (h : OKm τ lv N) {x : Int32} (hx : 0 ≤ x.toInt ∧ x.toInt ≤ 64) : OKm (sI τ 10 0 13 x) lv N := by
  obtain ⟨h0, h1, h2, h3, h4, h5, h6, h7⟩ := h
  exact ⟨h0, by simpa [sI] using h1, by simpa [sI] using h2, by simpa [sI] using h3, by simpa [sI] using h4, by simpa [sI] using h5, by simpa [sI] using hx, by simpa [sI] using h7⟩
theorem okm_come {τ : sT} {lv : Nat → Nat → Prop} {N : Int} (h : OKm τ lv N) {p r : Int32} : OKm (mf_come τ p r) lv N := (h.o (k := 15) (i := 0) (j := p.toNatClampNeg) (x := r) (by omega) (by omega)).L.L
theorem okm_want {τ : sT} {lv : Nat → Nat → Prop} {N : Int} (h : OKm τ lv N) {p : Int32} (hp : p.toInt < 32) : OKm (mf_want τ p) lv N := (h.o (k := 10) (i := 0) (j := 9) (x := 1) (by omega) (by omega)).f10 hp
theorem pres_lt {τ : sT} {lv : Nat → Nat → Prop} {N : Int} (h : OKm τ lv N) : (mf_pres τ).toInt < 32 := by
  unfold mf_pres
  split
  · exact h.2.1
  · exact h.2.2.1
theorem okm_rouse {τ : sT} {lv : Nat → Nat → Prop} {N : Int} (h : OKm τ lv N) {x : Int32} (hx : x.toInt < 32) : OKm (mf_rouse τ x) lv N := by
  unfold mf_rouse
  split
  · exact okm_want h hx
  split
  · exact okm_want (okm_come h) hx
  · exact okm_come h
theorem nI_lt32 {k : Nat} (hk : k < 32) : (nI k).toInt < 32 := by rw [nI_toInt (by omega)]; omega
theorem ft_lt {τ : sT} {r f : Int32} {k : Nat} (hk : k < 32) (hf : f.toInt < 32) : (mf_ft τ r k f).toInt < 32 := by
  unfold mf_ft
  split
  · exact hf
  split
  · split
    · exact nI_lt32 hk
    · split
      · exact hf
      · exact nI_lt32 hk
  · exact hf
theorem fl_lt {τ : sT} {r : Int32} : ∀ (n k : Nat) (f : Int32), k + n = 32 → f.toInt < 32 → (mf_fl τ r n k f).toInt < 32
  | 0, _, _, _, hf => hf
  | n + 1, k, f, hk, hf => fl_lt n (k + 1) _ (by omega) (ft_lt (by omega) hf)
theorem first_lt (τ : sT) (r : Int32) : (mf_first τ r).toInt < 32 := fl_lt 32 0 (-1) rfl (by decide)
theorem al_lt (τ : sT) : ∀ (n : Nat) (nx : Int32), nx.toInt < 32 → (mf_al τ n nx).toInt < 32
  | 0, _, h => h
  | n + 1, nx, h => by
    unfold mf_al
    split
    · exact h
    · exact al_lt τ n _ (first_lt _ _)
theorem okm_aend {τ : sT} {lv : Nat → Nat → Prop} {N : Int} (h : OKm τ lv N) {nx : Int32} (hx : nx.toInt < 32) : OKm (mf_aend τ nx) lv N := by
  unfold mf_aend
  refine okm_want ?_ hx
  split
  · exact h
  · exact h.o (by omega) (by omega)
theorem okm_aside {τ : sT} {lv : Nat → Nat → Prop} {N : Int} (h : OKm τ lv N) : OKm (mf_aside τ) lv N := okm_aend h (al_lt τ 8 (-1) (by decide))
theorem okm_sig {τ : sT} {lv : Nat → Nat → Prop} {N : Int} (h : OKm τ lv N) {s : Int32} : OKm (mf_sig τ s) lv N := by
  unfold mf_sig
  split
  · exact okm_rouse (h.o (by omega) (by omega)) (first_lt _ _)
  · exact h.o (by omega) (by omega)
theorem okm_wait {τ : sT} {lv : Nat → Nat → Prop} {N : Int} (h : OKm τ lv N) {s : Int32} : OKm (mf_wait τ s) lv N := by
  unfold mf_wait
  split
  · split
    · exact okm_aside (okm_come h)
    · exact h.o (by omega) (by omega)
  · exact h
theorem okm_give {τ : sT} {lv : Nat → Nat → Prop} {N : Int} (h : OKm τ lv N) : OKm (mf_give τ) lv N := by
  unfold mf_give
  split
  · exact h
  split
  · exact h
  · exact okm_aside (okm_come h)
theorem okm_sh {lv : Nat → Nat → Prop} {N : Int} : ∀ (n k : Nat) {τ : sT}, OKm τ lv N → OKm (mf_sh n k τ) lv N
  | 0, _, _, h => h
  | n + 1, k, _, h => okm_sh n (k + 1) (h.o (by omega) (by omega))
theorem i32_dec {x : Int32} (h : 0 < x.toInt) : (x - 1).toInt = x.toInt - 1 := by
  have h1 := Int32.toInt_lt x
  rw [Int32.toInt_sub, show (1 : Int32).toInt = 1 from rfl]
  apply Int.bmod_eq_of_le <;> omega
theorem okm_drop {τ : sT} {lv : Nat → Nat → Prop} {N : Int} (h : OKm τ lv N) : OKm (mf_drop τ) lv N := by
  unfold mf_drop
  split
  · exact h
  · next q =>
    refine okm_sh _ _ (h.f12 ?_)
    rw [i32_le, i32_0] at q
    have := h.2.2.2.2.2.1
    rw [i32_dec (by omega)]
    omega
theorem rng_in {a lo hi : Int32} (h1 : ¬ a < lo) (h2 : ¬ hi ≤ a) (hlo : 0 ≤ lo.toInt) (hd : hi.toInt = lo.toInt + 16) : vp_in (a - lo) 16 := by
  rw [i32_lt] at h1
  rw [i32_le] at h2
  have := Int32.toInt_lt a
  rw [vp_in_iff, Int32.toInt_sub]
  have e : (a.toInt - lo.toInt).bmod (2 ^ 32) = a.toInt - lo.toInt := by apply Int.bmod_eq_of_le <;> omega
  rw [e]
  omega
theorem okm_act {τ : sT} {lv : Nat → Nat → Prop} {N : Int} (h : OKm τ lv N) {a : Int32} : OKm (mf_act τ a) lv N := by
  unfold mf_act
  split
  · exact okm_wait h
  split
  · exact okm_sig h
  split
  · exact okm_give h
  split
  · exact okm_drop h
  split
  · exact h.f14 (by decide)
  split
  · next q => exact (h.f15 (by have := vp_in_iff.mp (rng_in q.1 q.2 (by decide) rfl); omega)).o (by omega) (by omega)
  split
  · next q => exact h.f14 (by have := vp_in_iff.mp (rng_in q.1 q.2 (by decide) rfl); omega)
  · exact h
end
section
theorem vin2 {x : Int32} {n : Nat} (h0 : ¬ x < 0) (h1 : x.toInt < n) : vp_in x n := by
  rw [vp_in_iff]
  rw [i32_lt, i32_0] at h0
  omega
theorem vin3 {x : Int32} {n : Nat} (h0 : 0 ≤ x) (h1 : x.toInt < n) : vp_in x n := by
  rw [vp_in_iff]
  rw [i32_le, i32_0] at h0
  omega
theorem i32_p1 (k : Nat) : nI k + Int32.ofInt 1 = nI (k + 1) := by rw [nI_succ]; rfl
theorem i32_pm (k : Nat) : nI (k + 1) + Int32.ofInt (-1) = nI k := by rw [i32_m1, nI_pred]
set_option maxRecDepth 100000 in
set_option maxHeartbeats 4000000 in
theorem m_isMade {l : Launch} {D : va_G} {E : Nat → ClassId} {ad : Nat → Nat → Nat} {lv : Nat → Nat → Prop} {σ τ : sT} {N : Int} (h : OKm τ lv N) {a : Int32} : jM l y_M_isMade c_M_isMade 2 (some .boolean) 0 D E ad lv (jv ad σ τ) [.ref (ad 10 0), .int (a)] (some (.int (if a < 0 then 0 else if 32 ≤ a then 0 else if τ.1 11 0 a.toNatClampNeg = 0 then 0 else 1))) (jv ad σ τ) := by
  intro sz
  refine jC.of "InputRoomModel" (by decide +kernel) rfl rfl (Nat.le_of_ble_eq_true rfl) (by intro v hv; simp only [List.mem_cons, List.not_mem_nil, or_false] at hv; rcases hv with rfl | rfl <;> first | rfl | exact jrf_cat _) ?_
  intro p e s m below meth c C hK hret hlk hnm hsz hAz
  have hb10 : lv 10 0 := h.k (by decide) (by decide)
  have hb11 : lv 11 0 := h.k (by decide) (by decide)
  have hb12 : lv 12 0 := h.k (by decide) (by decide)
  have hb13 : lv 13 0 := h.k (by decide) (by decide)
  have hb14 : lv 14 0 := h.k (by decide) (by decide)
  have hb15 : lv 15 0 := h.k (by decide) (by decide)
  have hb16 : lv 16 0 := h.k (by decide) (by decide)
  have hb17 : lv 17 0 := h.k (by decide) (by decide)
  have hb18 : lv 18 0 := h.k (by decide) (by decide)
  have hb19 : lv 19 0 := h.k (by decide) (by decide)
  refine j_iload_n C d_M_isMade_0 rfl rfl ?_
  refine j_if_lt C 23 d_M_isMade_1 rfl (fun g1 => ?_) (fun g1 => ?_)
  ·
    refine j_iconst (v := 0) C d_M_isMade_23 (by decide) ?_
    refine j_zret C hret hlk (by first | rfl | decide) d_M_isMade_24 ?_ ?_ rfl rfl
    · simp only [g1, if_true, if_false]
    · rfl
  ·
    refine j_iload_n C d_M_isMade_4 rfl rfl ?_
    refine j_bipush (v := 32) C d_M_isMade_5 (by decide) ?_
    refine j_icmp_ge C 23 d_M_isMade_7 rfl (fun g2 => ?_) (fun g2 => ?_)
    ·
      refine j_iconst (v := 0) C d_M_isMade_23 (by decide) ?_
      refine j_zret C hret hlk (by first | rfl | decide) d_M_isMade_24 ?_ ?_ rfl rfl
      · simp only [g1, g2, if_true, if_false]
      · rfl
    ·
      refine j_aload_n C d_M_isMade_10 rfl rfl ?_
      refine tgC C hK 10 0 0 d_M_isMade_11 in_M rfl rfl (by decide) t_376 rfl rfl rfl (by assumption) ?_
      refine j_iload_n C d_M_isMade_14 rfl rfl ?_
      refine tza C hK 11 0 d_M_isMade_15 rfl (vin g1 g2 rfl) rfl rfl (by assumption) ?_
      refine j_if_eq C 23 d_M_isMade_16 rfl (fun g3 => ?_) (fun g3 => ?_)
      ·
        refine j_iconst (v := 0) C d_M_isMade_23 (by decide) ?_
        refine j_zret C hret hlk (by first | rfl | decide) d_M_isMade_24 ?_ ?_ rfl rfl
        · simp only [g1, g2, g3, if_true, if_false]
        · rfl
      ·
        refine j_iconst (v := 1) C d_M_isMade_19 (by decide) ?_
        refine j_goto C 24 d_M_isMade_20 rfl ?_
        refine j_zret C hret hlk (by first | rfl | decide) d_M_isMade_24 ?_ ?_ rfl rfl
        · simp only [g1, g2, g3, if_true, if_false]
        · rfl
set_option maxRecDepth 100000 in
set_option maxHeartbeats 4000000 in
theorem m_isSem {l : Launch} {D : va_G} {E : Nat → ClassId} {ad : Nat → Nat → Nat} {lv : Nat → Nat → Prop} {σ τ : sT} {a : Int32} : jM l y_M_isSemaphore c_M_isSemaphore 1 (some .boolean) 0 D E ad lv (jv ad σ τ) [.int (a)] (some (.int (if isS a then 1 else 0))) (jv ad σ τ) := by
  intro sz
  refine jC.of "InputRoomModel" (by decide +kernel) rfl rfl (Nat.le_of_ble_eq_true rfl) (by intro v hv; simp only [List.mem_cons, List.not_mem_nil, or_false] at hv; rcases hv with rfl <;> first | rfl | exact jrf_cat _) ?_
  intro p e s m below meth c C hK hret hlk hnm hsz hAz
  refine j_iload_n C d_M_isSemaphore_0 rfl rfl ?_
  refine j_if_lt C 14 d_M_isSemaphore_1 rfl (fun g1 => ?_) (fun g1 => ?_)
  ·
    refine j_iconst (v := 0) C d_M_isSemaphore_14 (by decide) ?_
    refine j_zret C hret hlk (by first | rfl | decide) d_M_isSemaphore_15 ?_ ?_ rfl rfl
    · rw [if_neg (by simp only [isS, i32_lt, i32_le, i32_0, i32_16] at *; omega)]
    · rfl
  ·
    refine j_iload_n C d_M_isSemaphore_4 rfl rfl ?_
    refine j_bipush (v := 16) C d_M_isSemaphore_5 (by decide) ?_
    refine j_icmp_ge C 14 d_M_isSemaphore_7 rfl (fun g2 => ?_) (fun g2 => ?_)
    ·
      refine j_iconst (v := 0) C d_M_isSemaphore_14 (by decide) ?_
      refine j_zret C hret hlk (by first | rfl | decide) d_M_isSemaphore_15 ?_ ?_ rfl rfl
      · rw [if_neg (by simp only [isS, i32_lt, i32_le, i32_0, i32_16] at *; omega)]
      · rfl
    ·
      refine j_iconst (v := 1) C d_M_isSemaphore_10 (by decide) ?_
      refine j_goto C 15 d_M_isSemaphore_11 rfl ?_
      refine j_zret C hret hlk (by first | rfl | decide) d_M_isSemaphore_15 ?_ ?_ rfl rfl
      · rw [if_pos (by simp only [isS, i32_lt, i32_le, i32_0, i32_16] at *; omega)]
      · rfl
set_option maxRecDepth 100000 in
set_option maxHeartbeats 4000000 in
theorem m_come {l : Launch} {D : va_G} {E : Nat → ClassId} {ad : Nat → Nat → Nat} {lv : Nat → Nat → Prop} {σ τ : sT} {N : Int} (h : OKm τ lv N) {a t : Int32} (ha : vp_in a 32) : jM l y_M_come c_M_come 3 (none) 0 D E ad lv (jv ad σ τ) [.ref (ad 10 0), .int (a), .int (t)] none (jv ad σ (mf_come τ a t)) := by
  intro sz
  refine jC.of "InputRoomModel" (by decide +kernel) rfl rfl (Nat.le_of_ble_eq_true rfl) (by intro v hv; simp only [List.mem_cons, List.not_mem_nil, or_false] at hv; rcases hv with rfl | rfl | rfl <;> first | rfl | exact jrf_cat _) ?_
  intro p e s m below meth c C hK hret hlk hnm hsz hAz
  have hb10 : lv 10 0 := h.k (by decide) (by decide)
  have hb11 : lv 11 0 := h.k (by decide) (by decide)
  have hb12 : lv 12 0 := h.k (by decide) (by decide)
  have hb13 : lv 13 0 := h.k (by decide) (by decide)
  have hb14 : lv 14 0 := h.k (by decide) (by decide)
  have hb15 : lv 15 0 := h.k (by decide) (by decide)
  have hb16 : lv 16 0 := h.k (by decide) (by decide)
  have hb17 : lv 17 0 := h.k (by decide) (by decide)
  have hb18 : lv 18 0 := h.k (by decide) (by decide)
  have hb19 : lv 19 0 := h.k (by decide) (by decide)
  refine j_aload_n C d_M_come_0 rfl rfl ?_
  refine tgC C hK 10 0 4 d_M_come_1 in_M rfl rfl (by decide) t_380 rfl rfl rfl (by assumption) ?_
  refine j_iload_n C d_M_come_4 rfl rfl ?_
  refine j_iload_n C d_M_come_5 rfl rfl ?_
  refine tia_st C hK 15 0 d_M_come_6 rfl (by assumption) rfl rfl (by assumption) ?_
  refine j_aload_n C d_M_come_7 rfl rfl ?_
  refine tgC C hK 10 0 5 d_M_come_8 in_M rfl rfl (by decide) t_381 rfl rfl rfl (by assumption) ?_
  refine j_iload_n C d_M_come_11 rfl rfl ?_
  refine j_aload_n C d_M_come_12 rfl rfl ?_
  refine tgL C hK 10 0 6 d_M_come_13 in_M rfl rfl (by decide) t_382 rfl rfl rfl (by assumption) ?_
  refine tla_st C hK 16 0 d_M_come_16 rfl (by assumption) rfl rfl (by assumption) ?_
  refine j_aload_n C d_M_come_17 rfl rfl ?_
  refine j_aload_n C d_M_come_18 rfl rfl ?_
  refine tgL C hK 10 0 6 d_M_come_19 in_M rfl rfl (by decide) t_382 rfl rfl rfl (by assumption) ?_
  refine j_lconst (v := 1) C d_M_come_22 (by decide) ?_
  refine j_ladd C d_M_come_23 ?_
  refine tpL C hK 10 0 6 ty_M tk_M nm_M d_M_come_24 in_M rfl rfl (by decide) t_382 rfl rfl rfl rfl (((sL (sI τ 15 0 (a).toNatClampNeg (t)) 16 0 (a).toNatClampNeg ((sI τ 15 0 (a).toNatClampNeg (t)).2.2 10 0 6)).2.2 10 0 6 + 1)) rfl rfl (by assumption) ?_
  refine j_vret C hret hlk d_M_come_27 rfl ?_ rfl rfl
  rfl
set_option maxRecDepth 100000 in
set_option maxHeartbeats 4000000 in
theorem lp_mfirst {l : Launch} {D : va_G} {E : Nat → ClassId} {ad : Nat → Nat → Nat} {lv : Nat → Nat → Prop} {σ : sT} {τ : sT} {N : Int} (h : OKm τ lv N) {t : Int32} {R0 : Option Value} {p : Program} {e : Env} {s : State} {m : MethodId} {below : List Frame} {meth : Method} {c : Code} {sz : Nat} (C : CallFix p m c c_M_first 4 s ([.ref (ad 10 0), .int (t)] : List Value).toArray jT "InputRoomModel") (hK : jK D jcl jY E s) (hret : meth.sig.returnType = some .int) (hlk : meth.locks = false) (hAz : ∀ q, s.heap.size ≤ q → jA ad lv sz q) : ∀ (n k : Nat) (i f : Int32), i = nI k → k + n = 32 → f.toInt < 32 → R0 = some (.int (mf_fl τ t n k f)) → JM l y_M_first c_M_first 4 (some .int) 0 D E ad lv p e s m below meth c sz [.ref (ad 10 0), .int (t)] R0 (jv ad σ τ) (jv ad σ τ) 4 [some (.ref (ad 10 0)), some (.int (t)), some (.int (f)), some (.int (i))] [] := by
  intro n
  induction n with
  | zero =>
    intro k i f hi hk hf hR
    have hi : i = nI 32 := by rw [hi]; congr 1
    subst hi
    refine j_iload_n C d_M_first_4 rfl rfl ?_
    refine j_bipush (v := 32) C d_M_first_5 (by decide) ?_
    refine j_icmp_ge C 57 d_M_first_7 rfl (fun _ => ?_) (fun g1 => absurd (by decide) g1)
    refine j_iload_n C d_M_first_57 rfl rfl ?_
    refine j_iret C hret hlk d_M_first_58 ?_ ?_ rfl rfl
    · exact hR
    · rfl
  | succ n ih =>
    intro k i f hi hk hf hR
    subst hi
    have hin : vp_in (nI k) 32 := vp_in_nI (by omega) (by decide)
    have hge : ¬ 32 ≤ nI k := nI_ge (a := k) (b := 32) (by omega) (by decide)
    have hb10 : lv 10 0 := h.k (by decide) (by decide)
    have hb11 : lv 11 0 := h.k (by decide) (by decide)
    have hb12 : lv 12 0 := h.k (by decide) (by decide)
    have hb13 : lv 13 0 := h.k (by decide) (by decide)
    have hb14 : lv 14 0 := h.k (by decide) (by decide)
    have hb15 : lv 15 0 := h.k (by decide) (by decide)
    have hb16 : lv 16 0 := h.k (by decide) (by decide)
    have hb17 : lv 17 0 := h.k (by decide) (by decide)
    have hb18 : lv 18 0 := h.k (by decide) (by decide)
    have hb19 : lv 19 0 := h.k (by decide) (by decide)
    refine j_iload_n C d_M_first_4 rfl rfl ?_
    refine j_bipush (v := 32) C d_M_first_5 (by decide) ?_
    refine j_icmp_ge C 57 d_M_first_7 rfl (fun g1 => absurd g1 hge) (fun _ => ?_)
    refine j_aload_n C d_M_first_10 rfl rfl ?_
    refine tgC C hK 10 0 0 d_M_first_11 in_M rfl rfl (by decide) t_376 rfl rfl rfl (by assumption) ?_
    refine j_iload_n C d_M_first_14 rfl rfl ?_
    refine tza C hK 11 0 d_M_first_15 rfl hin rfl rfl (by assumption) ?_
    refine j_if_eq C 51 d_M_first_16 rfl (fun g2 => ?_) (fun g2 => ?_)
    ·
      refine j_iinc C d_M_first_51 rfl (by decide) ?_
      refine j_goto C 4 d_M_first_54 rfl ?_
      have e1 : mf_ft τ t k f = f := by simp only [mf_ft, g2, if_true, if_false]
      exact ih (k + 1) _ _ (i32_p1 k) (by omega) (e1 ▸ ft_lt (by omega) hf) (by rw [hR]; show some (Value.int (mf_fl τ t n (k + 1) (mf_ft τ t k f))) = _; rw [e1])
    ·
      refine j_aload_n C d_M_first_19 rfl rfl ?_
      refine tgC C hK 10 0 4 d_M_first_20 in_M rfl rfl (by decide) t_380 rfl rfl rfl (by assumption) ?_
      refine j_iload_n C d_M_first_23 rfl rfl ?_
      refine tia C hK 15 0 d_M_first_24 rfl hin rfl rfl (by assumption) ?_
      refine j_iload_n C d_M_first_25 rfl rfl ?_
      refine j_icmp_ne C 51 d_M_first_26 rfl (fun g3 => ?_) (fun g3 => ?_)
      ·
        refine j_iinc C d_M_first_51 rfl (by decide) ?_
        refine j_goto C 4 d_M_first_54 rfl ?_
        have e1 : mf_ft τ t k f = f := by simp only [mf_ft, g2, g3, if_true, if_false]
        exact ih (k + 1) _ _ (i32_p1 k) (by omega) (e1 ▸ ft_lt (by omega) hf) (by rw [hR]; show some (Value.int (mf_fl τ t n (k + 1) (mf_ft τ t k f))) = _; rw [e1])
      ·
        refine j_iload_n C d_M_first_29 rfl rfl ?_
        refine j_if_lt C 49 d_M_first_30 rfl (fun g4 => ?_) (fun g4 => ?_)
        ·
          refine j_iload_n C d_M_first_49 rfl rfl ?_
          refine j_istore_n C d_M_first_50 rfl (by decide) ?_
          refine j_iinc C d_M_first_51 rfl (by decide) ?_
          refine j_goto C 4 d_M_first_54 rfl ?_
          have e1 : mf_ft τ t k f = nI k := by simp only [mf_ft, g2, g3, g4, if_true, if_false]
          exact ih (k + 1) _ _ (i32_p1 k) (by omega) (e1 ▸ ft_lt (by omega) hf) (by rw [hR]; show some (Value.int (mf_fl τ t n (k + 1) (mf_ft τ t k f))) = _; rw [e1])
        ·
          refine j_aload_n C d_M_first_33 rfl rfl ?_
          refine tgC C hK 10 0 5 d_M_first_34 in_M rfl rfl (by decide) t_381 rfl rfl rfl (by assumption) ?_
          refine j_iload_n C d_M_first_37 rfl rfl ?_
          refine tla C hK 16 0 d_M_first_38 rfl hin rfl rfl (by assumption) ?_
          refine j_aload_n C d_M_first_39 rfl rfl ?_
          refine tgC C hK 10 0 5 d_M_first_40 in_M rfl rfl (by decide) t_381 rfl rfl rfl (by assumption) ?_
          refine j_iload_n C d_M_first_43 rfl rfl ?_
          refine tla C hK 16 0 d_M_first_44 rfl (vin2 g4 hf) rfl rfl (by assumption) ?_
          refine j_lcmp C d_M_first_45 ?_
          refine j_if_ge C 51 d_M_first_46 rfl (fun g5 => ?_) (fun g5 => ?_)
          ·
            refine j_iinc C d_M_first_51 rfl (by decide) ?_
            refine j_goto C 4 d_M_first_54 rfl ?_
            have e1 : mf_ft τ t k f = f := by simp only [mf_ft, g2, g3, g4, g5, if_true, if_false]
            exact ih (k + 1) _ _ (i32_p1 k) (by omega) (e1 ▸ ft_lt (by omega) hf) (by rw [hR]; show some (Value.int (mf_fl τ t n (k + 1) (mf_ft τ t k f))) = _; rw [e1])
          ·
            refine j_iload_n C d_M_first_49 rfl rfl ?_
            refine j_istore_n C d_M_first_50 rfl (by decide) ?_
            refine j_iinc C d_M_first_51 rfl (by decide) ?_
            refine j_goto C 4 d_M_first_54 rfl ?_
            have e1 : mf_ft τ t k f = nI k := by simp only [mf_ft, g2, g3, g4, g5, if_true, if_false]
            exact ih (k + 1) _ _ (i32_p1 k) (by omega) (e1 ▸ ft_lt (by omega) hf) (by rw [hR]; show some (Value.int (mf_fl τ t n (k + 1) (mf_ft τ t k f))) = _; rw [e1])
set_option maxRecDepth 100000 in
set_option maxHeartbeats 4000000 in
theorem m_first {l : Launch} {D : va_G} {E : Nat → ClassId} {ad : Nat → Nat → Nat} {lv : Nat → Nat → Prop} {σ τ : sT} {N : Int} (h : OKm τ lv N) {t : Int32} : jM l y_M_first c_M_first 4 (some .int) 0 D E ad lv (jv ad σ τ) [.ref (ad 10 0), .int (t)] (some (.int (mf_first τ t))) (jv ad σ τ) := by
  intro sz
  refine jC.of "InputRoomModel" (by decide +kernel) rfl rfl (Nat.le_of_ble_eq_true rfl) (by intro v hv; simp only [List.mem_cons, List.not_mem_nil, or_false] at hv; rcases hv with rfl | rfl <;> first | rfl | exact jrf_cat _) ?_
  intro p e s m below meth c C hK hret hlk hnm hsz hAz
  have hb10 : lv 10 0 := h.k (by decide) (by decide)
  have hb11 : lv 11 0 := h.k (by decide) (by decide)
  have hb12 : lv 12 0 := h.k (by decide) (by decide)
  have hb13 : lv 13 0 := h.k (by decide) (by decide)
  have hb14 : lv 14 0 := h.k (by decide) (by decide)
  have hb15 : lv 15 0 := h.k (by decide) (by decide)
  have hb16 : lv 16 0 := h.k (by decide) (by decide)
  have hb17 : lv 17 0 := h.k (by decide) (by decide)
  have hb18 : lv 18 0 := h.k (by decide) (by decide)
  have hb19 : lv 19 0 := h.k (by decide) (by decide)
  refine j_iconst (v := -1) C d_M_first_0 (by decide) ?_
  refine j_istore_n C d_M_first_1 rfl (by decide) ?_
  refine j_iconst (v := 0) C d_M_first_2 (by decide) ?_
  refine j_istore_n C d_M_first_3 rfl (by decide) ?_
  exact lp_mfirst h C hK hret hlk hAz 32 0 0 (-1) rfl rfl (by decide) rfl
set_option maxRecDepth 100000 in
set_option maxHeartbeats 4000000 in
theorem m_pres {l : Launch} {D : va_G} {E : Nat → ClassId} {ad : Nat → Nat → Nat} {lv : Nat → Nat → Prop} {σ τ : sT} {N : Int} (h : OKm τ lv N) : jM l y_M_present0 c_M_present0 1 (some .int) 0 D E ad lv (jv ad σ τ) [.ref (ad 10 0)] (some (.int (mf_pres τ))) (jv ad σ τ) := by
  intro sz
  refine jC.of "InputRoomModel" (by decide +kernel) rfl rfl (Nat.le_of_ble_eq_true rfl) (by intro v hv; simp only [List.mem_cons, List.not_mem_nil, or_false] at hv; rcases hv with rfl <;> first | rfl | exact jrf_cat _) ?_
  intro p e s m below meth c C hK hret hlk hnm hsz hAz
  have hb10 : lv 10 0 := h.k (by decide) (by decide)
  have hb11 : lv 11 0 := h.k (by decide) (by decide)
  have hb12 : lv 12 0 := h.k (by decide) (by decide)
  have hb13 : lv 13 0 := h.k (by decide) (by decide)
  have hb14 : lv 14 0 := h.k (by decide) (by decide)
  have hb15 : lv 15 0 := h.k (by decide) (by decide)
  have hb16 : lv 16 0 := h.k (by decide) (by decide)
  have hb17 : lv 17 0 := h.k (by decide) (by decide)
  have hb18 : lv 18 0 := h.k (by decide) (by decide)
  have hb19 : lv 19 0 := h.k (by decide) (by decide)
  refine j_aload_n C d_M_present0_0 rfl rfl ?_
  refine tgI C hK 10 0 9 d_M_present0_1 in_M rfl rfl (by decide) t_385 rfl rfl rfl (by assumption) ?_
  refine j_if_eq C 14 d_M_present0_4 rfl (fun g1 => ?_) (fun g1 => ?_)
  ·
    refine j_aload_n C d_M_present0_14 rfl rfl ?_
    refine tgI C hK 10 0 8 d_M_present0_15 in_M rfl rfl (by decide) t_384 rfl rfl rfl (by assumption) ?_
    refine j_iret C hret hlk d_M_present0_18 ?_ ?_ rfl rfl
    · simp only [mf_pres, g1, if_true, if_false]
    · rfl
  ·
    refine j_aload_n C d_M_present0_7 rfl rfl ?_
    refine tgI C hK 10 0 10 d_M_present0_8 in_M rfl rfl (by decide) t_386 rfl rfl rfl (by assumption) ?_
    refine j_goto C 18 d_M_present0_11 rfl ?_
    refine j_iret C hret hlk d_M_present0_18 ?_ ?_ rfl rfl
    · simp only [mf_pres, g1, if_true, if_false]
    · rfl
set_option maxRecDepth 100000 in
set_option maxHeartbeats 4000000 in
theorem m_want {l : Launch} {D : va_G} {E : Nat → ClassId} {ad : Nat → Nat → Nat} {lv : Nat → Nat → Prop} {σ τ : sT} {N : Int} (h : OKm τ lv N) {a : Int32} : jM l y_M_want c_M_want 2 (none) 0 D E ad lv (jv ad σ τ) [.ref (ad 10 0), .int (a)] none (jv ad σ (mf_want τ a)) := by
  intro sz
  refine jC.of "InputRoomModel" (by decide +kernel) rfl rfl (Nat.le_of_ble_eq_true rfl) (by intro v hv; simp only [List.mem_cons, List.not_mem_nil, or_false] at hv; rcases hv with rfl | rfl <;> first | rfl | exact jrf_cat _) ?_
  intro p e s m below meth c C hK hret hlk hnm hsz hAz
  have hb10 : lv 10 0 := h.k (by decide) (by decide)
  have hb11 : lv 11 0 := h.k (by decide) (by decide)
  have hb12 : lv 12 0 := h.k (by decide) (by decide)
  have hb13 : lv 13 0 := h.k (by decide) (by decide)
  have hb14 : lv 14 0 := h.k (by decide) (by decide)
  have hb15 : lv 15 0 := h.k (by decide) (by decide)
  have hb16 : lv 16 0 := h.k (by decide) (by decide)
  have hb17 : lv 17 0 := h.k (by decide) (by decide)
  have hb18 : lv 18 0 := h.k (by decide) (by decide)
  have hb19 : lv 19 0 := h.k (by decide) (by decide)
  refine j_aload_n C d_M_want_0 rfl rfl ?_
  refine j_iconst (v := 1) C d_M_want_1 (by decide) ?_
  refine tpI C hK 10 0 9 ty_M tk_M nm_M d_M_want_2 in_M rfl rfl (by decide) t_385 rfl rfl rfl rfl (1) (by first | rfl | decide) (by first | rfl | decide) (by assumption) ?_
  refine j_aload_n C d_M_want_5 rfl rfl ?_
  refine j_iload_n C d_M_want_6 rfl rfl ?_
  refine tpI C hK 10 0 10 ty_M tk_M nm_M d_M_want_7 in_M rfl rfl (by decide) t_386 rfl rfl rfl rfl (a) rfl rfl (by assumption) ?_
  refine j_vret C hret hlk d_M_want_10 rfl ?_ rfl rfl
  rfl
set_option maxRecDepth 100000 in
set_option maxHeartbeats 4000000 in
theorem m_rouse {l : Launch} {D : va_G} {E : Nat → ClassId} {ad : Nat → Nat → Nat} {lv : Nat → Nat → Prop} {σ τ : sT} {N : Int} (h : OKm τ lv N) {a : Int32} (hx : vp_in a 32) : jM l y_M_rouse c_M_rouse 3 (none) 1 D E ad lv (jv ad σ τ) [.ref (ad 10 0), .int (a)] none (jv ad σ (mf_rouse τ a)) := by
  intro sz
  refine jC.of "InputRoomModel" (by decide +kernel) rfl rfl (Nat.le_of_ble_eq_true rfl) (by intro v hv; simp only [List.mem_cons, List.not_mem_nil, or_false] at hv; rcases hv with rfl | rfl <;> first | rfl | exact jrf_cat _) ?_
  intro p e s m below meth c C hK hret hlk hnm hsz hAz
  have hb10 : lv 10 0 := h.k (by decide) (by decide)
  have hb11 : lv 11 0 := h.k (by decide) (by decide)
  have hb12 : lv 12 0 := h.k (by decide) (by decide)
  have hb13 : lv 13 0 := h.k (by decide) (by decide)
  have hb14 : lv 14 0 := h.k (by decide) (by decide)
  have hb15 : lv 15 0 := h.k (by decide) (by decide)
  have hb16 : lv 16 0 := h.k (by decide) (by decide)
  have hb17 : lv 17 0 := h.k (by decide) (by decide)
  have hb18 : lv 18 0 := h.k (by decide) (by decide)
  have hb19 : lv 19 0 := h.k (by decide) (by decide)
  refine j_aload_n C d_M_rouse_0 rfl rfl ?_
  refine j_callV C hK hAz 10 0 (m_pres h _) (jcV C mi_M_present0 t_466 t_468 t_21 rfl rfl ⟨by decide, by decide⟩) rfl rfl (by assumption) rfl rfl (Nat.le_of_ble_eq_true rfl) d_M_rouse_1 ⟨Nat.zero_le _, Nat.zero_le _⟩ ?_
  refine j_istore_n C d_M_rouse_4 rfl (by decide) ?_
  refine j_iload_n C d_M_rouse_5 rfl rfl ?_
  refine j_if_lt C 36 d_M_rouse_6 rfl (fun g1 => ?_) (fun g1 => ?_)
  ·
    refine j_iload_n C d_M_rouse_36 rfl rfl ?_
    refine j_if_lt C 51 d_M_rouse_37 rfl (fun _ => ?_) (fun g2 => absurd g1 g2)
    refine j_aload_n C d_M_rouse_51 rfl rfl ?_
    refine j_iload_n C d_M_rouse_52 rfl rfl ?_
    refine j_callV C hK hAz 10 0 (m_want (N := N) h _) (jcV C mi_M_want t_474 t_476 t_23 rfl rfl ⟨by decide, by decide⟩) rfl rfl (by assumption) rfl rfl (Nat.le_of_ble_eq_true rfl) d_M_rouse_53 ⟨Nat.zero_le _, Nat.zero_le _⟩ ?_
    refine j_vret C hret hlk d_M_rouse_56 rfl ?_ rfl rfl
    rw [mf_rouse, if_pos g1]
  ·
    refine j_aload_n C d_M_rouse_9 rfl rfl ?_
    refine tgC C hK 10 0 1 d_M_rouse_10 in_M rfl rfl (by decide) t_377 rfl rfl rfl (by assumption) ?_
    refine j_iload_n C d_M_rouse_13 rfl rfl ?_
    refine tia C hK 12 0 d_M_rouse_14 rfl (vin2 g1 (pres_lt h)) rfl rfl (by assumption) ?_
    refine j_aload_n C d_M_rouse_15 rfl rfl ?_
    refine tgC C hK 10 0 1 d_M_rouse_16 in_M rfl rfl (by decide) t_377 rfl rfl rfl (by assumption) ?_
    refine j_iload_n C d_M_rouse_19 rfl rfl ?_
    refine tia C hK 12 0 d_M_rouse_20 rfl hx rfl rfl (by assumption) ?_
    refine j_icmp_lt C 36 d_M_rouse_21 rfl (fun g3 => ?_) (fun g3 => ?_)
    ·
      refine j_iload_n C d_M_rouse_36 rfl rfl ?_
      refine j_if_lt C 51 d_M_rouse_37 rfl (fun g4 => absurd g4 g1) (fun _ => ?_)
      refine j_aload_n C d_M_rouse_40 rfl rfl ?_
      refine j_iload_n C d_M_rouse_41 rfl rfl ?_
      refine j_aload_n C d_M_rouse_42 rfl rfl ?_
      refine tgC C hK 10 0 1 d_M_rouse_43 in_M rfl rfl (by decide) t_377 rfl rfl rfl (by assumption) ?_
      refine j_iload_n C d_M_rouse_46 rfl rfl ?_
      refine tia C hK 12 0 d_M_rouse_47 rfl (vin2 g1 (pres_lt h)) rfl rfl (by assumption) ?_
      refine j_callV C hK hAz 10 0 (m_come (a := mf_pres τ) (t := τ.1 12 0 (mf_pres τ).toNatClampNeg) h (vin2 g1 (pres_lt h)) _) (jcV C mi_M_come t_470 t_472 t_22 rfl rfl ⟨by decide, by decide⟩) rfl rfl (by assumption) rfl rfl (Nat.le_of_ble_eq_true rfl) d_M_rouse_48 ⟨Nat.zero_le _, Nat.zero_le _⟩ ?_
      refine j_aload_n C d_M_rouse_51 rfl rfl ?_
      refine j_iload_n C d_M_rouse_52 rfl rfl ?_
      refine j_callV C hK hAz 10 0 (m_want (N := N) (okm_come h) _) (jcV C mi_M_want t_474 t_476 t_23 rfl rfl ⟨by decide, by decide⟩) rfl rfl (by assumption) rfl rfl (Nat.le_of_ble_eq_true rfl) d_M_rouse_53 ⟨Nat.zero_le _, Nat.zero_le _⟩ ?_
      refine j_vret C hret hlk d_M_rouse_56 rfl ?_ rfl rfl
      have g9 : mf_pr τ (mf_pres τ) < mf_pr τ a := g3
      rw [mf_rouse, if_neg g1, if_pos g9]
      rfl
    ·
      refine j_aload_n C d_M_rouse_24 rfl rfl ?_
      refine j_iload_n C d_M_rouse_25 rfl rfl ?_
      refine j_aload_n C d_M_rouse_26 rfl rfl ?_
      refine tgC C hK 10 0 1 d_M_rouse_27 in_M rfl rfl (by decide) t_377 rfl rfl rfl (by assumption) ?_
      refine j_iload_n C d_M_rouse_30 rfl rfl ?_
      refine tia C hK 12 0 d_M_rouse_31 rfl hx rfl rfl (by assumption) ?_
      refine j_callV C hK hAz 10 0 (m_come (a := a) (t := τ.1 12 0 (a).toNatClampNeg) h hx _) (jcV C mi_M_come t_470 t_472 t_22 rfl rfl ⟨by decide, by decide⟩) rfl rfl (by assumption) rfl rfl (Nat.le_of_ble_eq_true rfl) d_M_rouse_32 ⟨Nat.zero_le _, Nat.zero_le _⟩ ?_
      refine j_vret C hret hlk d_M_rouse_35 rfl ?_ rfl rfl
      have g9 : ¬ mf_pr τ (mf_pres τ) < mf_pr τ a := g3
      rw [mf_rouse, if_neg g1, if_neg g9]
      rfl
set_option maxRecDepth 100000 in
set_option maxHeartbeats 4000000 in
theorem lp_maside0 {l : Launch} {D : va_G} {E : Nat → ClassId} {ad : Nat → Nat → Nat} {lv : Nat → Nat → Prop} {σ : sT} {τ : sT} {N : Int} (h : OKm τ lv N) {V1 : jVT} {p : Program} {e : Env} {s : State} {m : MethodId} {below : List Frame} {meth : Method} {c : Code} {sz : Nat} (C : CallFix p m c c_M_putAside 3 s ([.ref (ad 10 0)] : List Value).toArray jT "InputRoomModel") (hK : jK D jcl jY E s) (hret : meth.sig.returnType = none) (hlk : meth.locks = false) (hAz : ∀ q, s.heap.size ≤ q → jA ad lv sz q) : ∀ (nx i : Int32), nx.toInt < 32 → jv ad σ (mf_aend τ nx) = V1 → JM l y_M_putAside c_M_putAside 3 (none) 1 D E ad lv p e s m below meth c sz [.ref (ad 10 0)] none (V1) (jv ad σ τ) 25 [some (.ref (ad 10 0)), some (.int (nx)), some (.int (i))] [] := by
  intro nx i hx hV
  have hb10 : lv 10 0 := h.k (by decide) (by decide)
  have hb11 : lv 11 0 := h.k (by decide) (by decide)
  have hb12 : lv 12 0 := h.k (by decide) (by decide)
  have hb13 : lv 13 0 := h.k (by decide) (by decide)
  have hb14 : lv 14 0 := h.k (by decide) (by decide)
  have hb15 : lv 15 0 := h.k (by decide) (by decide)
  have hb16 : lv 16 0 := h.k (by decide) (by decide)
  have hb17 : lv 17 0 := h.k (by decide) (by decide)
  have hb18 : lv 18 0 := h.k (by decide) (by decide)
  have hb19 : lv 19 0 := h.k (by decide) (by decide)
  refine j_iload_n C d_M_putAside_25 rfl rfl ?_
  refine j_if_lt C 36 d_M_putAside_26 rfl (fun g1 => ?_) (fun g1 => ?_)
  ·
    refine j_aload_n C d_M_putAside_36 rfl rfl ?_
    refine j_iload_n C d_M_putAside_37 rfl rfl ?_
    refine j_callV C hK hAz 10 0 (m_want h _) (jcV C mi_M_want t_474 t_476 t_23 rfl rfl ⟨by decide, by decide⟩) rfl rfl (by assumption) rfl rfl (Nat.le_of_ble_eq_true rfl) d_M_putAside_38 ⟨Nat.zero_le _, Nat.zero_le _⟩ ?_
    refine j_vret C hret hlk d_M_putAside_41 rfl ?_ rfl rfl
    rw [← hV]
    simp only [mf_aend, g1, if_true, if_false]
  ·
    refine j_aload_n C d_M_putAside_29 rfl rfl ?_
    refine tgC C hK 10 0 4 d_M_putAside_30 in_M rfl rfl (by decide) t_380 rfl rfl rfl (by assumption) ?_
    refine j_iload_n C d_M_putAside_33 rfl rfl ?_
    refine j_iconst (v := 0) C d_M_putAside_34 (by decide) ?_
    refine tia_st C hK 15 0 d_M_putAside_35 rfl (vin2 g1 hx) rfl rfl (by assumption) ?_
    refine j_aload_n C d_M_putAside_36 rfl rfl ?_
    refine j_iload_n C d_M_putAside_37 rfl rfl ?_
    refine j_callV C hK hAz 10 0 (m_want (h.o (by omega) (by omega)) _) (jcV C mi_M_want t_474 t_476 t_23 rfl rfl ⟨by decide, by decide⟩) rfl rfl (by assumption) rfl rfl (Nat.le_of_ble_eq_true rfl) d_M_putAside_38 ⟨Nat.zero_le _, Nat.zero_le _⟩ ?_
    refine j_vret C hret hlk d_M_putAside_41 rfl ?_ rfl rfl
    rw [← hV]
    simp only [mf_aend, g1, if_true, if_false]
set_option maxRecDepth 100000 in
set_option maxHeartbeats 4000000 in
theorem lp_maside {l : Launch} {D : va_G} {E : Nat → ClassId} {ad : Nat → Nat → Nat} {lv : Nat → Nat → Prop} {σ : sT} {τ : sT} {N : Int} (h : OKm τ lv N) {V1 : jVT} {p : Program} {e : Env} {s : State} {m : MethodId} {below : List Frame} {meth : Method} {c : Code} {sz : Nat} (C : CallFix p m c c_M_putAside 3 s ([.ref (ad 10 0)] : List Value).toArray jT "InputRoomModel") (hK : jK D jcl jY E s) (hret : meth.sig.returnType = none) (hlk : meth.locks = false) (hAz : ∀ q, s.heap.size ≤ q → jA ad lv sz q) : ∀ (n : Nat) (nx i : Int32), n ≤ 8 → i = nI n → nx.toInt < 32 → jv ad σ (mf_aend τ (mf_al τ n nx)) = V1 → JM l y_M_putAside c_M_putAside 3 (none) 1 D E ad lv p e s m below meth c sz [.ref (ad 10 0)] none (V1) (jv ad σ τ) 5 [some (.ref (ad 10 0)), some (.int (nx)), some (.int (i))] [] := by
  intro n
  induction n with
  | zero =>
    intro nx i hn8 hi hx hV
    subst hi
    refine j_iload_n C d_M_putAside_5 rfl rfl ?_
    refine j_if_le C 25 d_M_putAside_6 rfl (fun _ => ?_) (fun g1 => absurd (by decide) g1)
    exact lp_maside0 h C hK hret hlk hAz nx _ hx hV
  | succ n ih =>
    intro nx i hn8 hi hx hV
    subst hi
    by_cases hn : n < 8
    · have hb10 : lv 10 0 := h.k (by decide) (by decide)
      refine j_iload_n C d_M_putAside_5 rfl rfl ?_
      refine j_if_le C 25 d_M_putAside_6 rfl (fun g1 => absurd g1 (nI_nle (by omega) (by omega))) (fun _ => ?_)
      refine j_iload_n C d_M_putAside_9 rfl rfl ?_
      refine j_if_ge C 25 d_M_putAside_10 rfl (fun g2 => ?_) (fun g2 => ?_)
      ·
        exact lp_maside0 h C hK hret hlk hAz nx _ hx (by rw [← hV]; simp only [mf_al, g2, if_true])
      ·
        refine j_aload_n C d_M_putAside_13 rfl rfl ?_
        refine j_iload_n C d_M_putAside_14 rfl rfl ?_
        refine j_callV C hK hAz 10 0 (m_first (t := nI (n + 1)) h _) (jcV C mi_M_first t_458 t_460 t_19 rfl rfl ⟨by decide, by decide⟩) rfl rfl (by assumption) rfl rfl (Nat.le_of_ble_eq_true rfl) d_M_putAside_15 ⟨Nat.zero_le _, Nat.zero_le _⟩ ?_
        refine j_istore_n C d_M_putAside_18 rfl (by decide) ?_
        refine j_iinc C d_M_putAside_19 rfl (by decide) ?_
        refine j_goto C 5 d_M_putAside_22 rfl ?_
        exact ih _ _ (by omega) (i32_pm n) (first_lt _ _) (by rw [← hV]; simp only [mf_al, g2, if_false])
    · exact absurd hn (by omega)
set_option maxRecDepth 100000 in
set_option maxHeartbeats 4000000 in
theorem m_aside {l : Launch} {D : va_G} {E : Nat → ClassId} {ad : Nat → Nat → Nat} {lv : Nat → Nat → Prop} {σ τ : sT} {N : Int} (h : OKm τ lv N) : jM l y_M_putAside c_M_putAside 3 (none) 1 D E ad lv (jv ad σ τ) [.ref (ad 10 0)] none (jv ad σ (mf_aside τ)) := by
  intro sz
  refine jC.of "InputRoomModel" (by decide +kernel) rfl rfl (Nat.le_of_ble_eq_true rfl) (by intro v hv; simp only [List.mem_cons, List.not_mem_nil, or_false] at hv; rcases hv with rfl <;> first | rfl | exact jrf_cat _) ?_
  intro p e s m below meth c C hK hret hlk hnm hsz hAz
  have hb10 : lv 10 0 := h.k (by decide) (by decide)
  have hb11 : lv 11 0 := h.k (by decide) (by decide)
  have hb12 : lv 12 0 := h.k (by decide) (by decide)
  have hb13 : lv 13 0 := h.k (by decide) (by decide)
  have hb14 : lv 14 0 := h.k (by decide) (by decide)
  have hb15 : lv 15 0 := h.k (by decide) (by decide)
  have hb16 : lv 16 0 := h.k (by decide) (by decide)
  have hb17 : lv 17 0 := h.k (by decide) (by decide)
  have hb18 : lv 18 0 := h.k (by decide) (by decide)
  have hb19 : lv 19 0 := h.k (by decide) (by decide)
  refine j_iconst (v := -1) C d_M_putAside_0 (by decide) ?_
  refine j_istore_n C d_M_putAside_1 rfl (by decide) ?_
  refine j_bipush (v := 8) C d_M_putAside_2 (by decide) ?_
  refine j_istore_n C d_M_putAside_4 rfl (by decide) ?_
  exact lp_maside h C hK hret hlk hAz 8 (-1) 8 (by decide) rfl (by decide) rfl
set_option maxRecDepth 100000 in
set_option maxHeartbeats 4000000 in
theorem m_sig {l : Launch} {D : va_G} {E : Nat → ClassId} {ad : Nat → Nat → Nat} {lv : Nat → Nat → Prop} {σ τ : sT} {N : Int} (h : OKm τ lv N) {a : Int32} (hs : vp_in a 16) : jM l y_M_signal0 c_M_signal0 3 (none) 2 D E ad lv (jv ad σ τ) [.ref (ad 10 0), .int (a)] none (jv ad σ (mf_sig τ a)) := by
  intro sz
  refine jC.of "InputRoomModel" (by decide +kernel) rfl rfl (Nat.le_of_ble_eq_true rfl) (by intro v hv; simp only [List.mem_cons, List.not_mem_nil, or_false] at hv; rcases hv with rfl | rfl <;> first | rfl | exact jrf_cat _) ?_
  intro p e s m below meth c C hK hret hlk hnm hsz hAz
  have hb10 : lv 10 0 := h.k (by decide) (by decide)
  have hb11 : lv 11 0 := h.k (by decide) (by decide)
  have hb12 : lv 12 0 := h.k (by decide) (by decide)
  have hb13 : lv 13 0 := h.k (by decide) (by decide)
  have hb14 : lv 14 0 := h.k (by decide) (by decide)
  have hb15 : lv 15 0 := h.k (by decide) (by decide)
  have hb16 : lv 16 0 := h.k (by decide) (by decide)
  have hb17 : lv 17 0 := h.k (by decide) (by decide)
  have hb18 : lv 18 0 := h.k (by decide) (by decide)
  have hb19 : lv 19 0 := h.k (by decide) (by decide)
  refine j_aload_n C d_M_signal0_0 rfl rfl ?_
  refine j_bipush (v := 16) C d_M_signal0_1 (by decide) ?_
  refine j_iload_n C d_M_signal0_3 rfl rfl ?_
  refine j_iadd C d_M_signal0_4 ?_
  refine j_callV C hK hAz 10 0 (m_first (t := 16 + a) h _) (jcV C mi_M_first t_458 t_460 t_19 rfl rfl ⟨by decide, by decide⟩) rfl rfl (by assumption) rfl rfl (Nat.le_of_ble_eq_true rfl) d_M_signal0_5 ⟨Nat.zero_le _, Nat.zero_le _⟩ ?_
  refine j_istore_n C d_M_signal0_8 rfl (by decide) ?_
  refine j_iload_n C d_M_signal0_9 rfl rfl ?_
  refine j_if_ge C 28 d_M_signal0_10 rfl (fun g1 => ?_) (fun g1 => ?_)
  ·
    refine j_aload_n C d_M_signal0_28 rfl rfl ?_
    refine tgC C hK 10 0 4 d_M_signal0_29 in_M rfl rfl (by decide) t_380 rfl rfl rfl (by assumption) ?_
    refine j_iload_n C d_M_signal0_32 rfl rfl ?_
    refine j_iconst (v := 0) C d_M_signal0_33 (by decide) ?_
    refine tia_st C hK 15 0 d_M_signal0_34 rfl (vin3 g1 (first_lt _ _)) rfl rfl (by assumption) ?_
    refine j_aload_n C d_M_signal0_35 rfl rfl ?_
    refine j_iload_n C d_M_signal0_36 rfl rfl ?_
    refine j_callV C hK hAz 10 0 (m_rouse (a := mf_first τ (16 + a)) (h.o (N := N) (by omega) (by omega)) (vin3 g1 (first_lt _ _)) _) (jcV C mi_M_rouse t_462 t_464 t_20 rfl rfl ⟨by decide, by decide⟩) rfl rfl (by assumption) rfl rfl (Nat.le_of_ble_eq_true rfl) d_M_signal0_37 ⟨Nat.zero_le _, Nat.zero_le _⟩ ?_
    refine j_vret C hret hlk d_M_signal0_40 rfl ?_ rfl rfl
    simp only [mf_sig, g1, if_true, if_false]
  ·
    refine j_aload_n C d_M_signal0_13 rfl rfl ?_
    refine tgC C hK 10 0 7 d_M_signal0_14 in_M rfl rfl (by decide) t_383 rfl rfl rfl (by assumption) ?_
    refine j_iload_n C d_M_signal0_17 rfl rfl ?_
    refine j_aload_n C d_M_signal0_18 rfl rfl ?_
    refine tgC C hK 10 0 7 d_M_signal0_19 in_M rfl rfl (by decide) t_383 rfl rfl rfl (by assumption) ?_
    refine j_iload_n C d_M_signal0_22 rfl rfl ?_
    refine tia C hK 17 0 d_M_signal0_23 rfl hs rfl rfl (by assumption) ?_
    refine j_iconst (v := 1) C d_M_signal0_24 (by decide) ?_
    refine j_iadd C d_M_signal0_25 ?_
    refine tia_st C hK 17 0 d_M_signal0_26 rfl hs rfl rfl (by assumption) ?_
    refine j_vret C hret hlk d_M_signal0_27 rfl ?_ rfl rfl
    simp only [mf_sig, g1, if_true, if_false]
set_option maxRecDepth 100000 in
set_option maxHeartbeats 4000000 in
theorem m_wait {l : Launch} {D : va_G} {E : Nat → ClassId} {ad : Nat → Nat → Nat} {lv : Nat → Nat → Prop} {σ τ : sT} {N : Int} (h : OKm τ lv N) {a : Int32} (hs : vp_in a 16) : jM l y_M_await0 c_M_await0 3 (none) 2 D E ad lv (jv ad σ τ) [.ref (ad 10 0), .int (a)] none (jv ad σ (mf_wait τ a)) := by
  intro sz
  refine jC.of "InputRoomModel" (by decide +kernel) rfl rfl (Nat.le_of_ble_eq_true rfl) (by intro v hv; simp only [List.mem_cons, List.not_mem_nil, or_false] at hv; rcases hv with rfl | rfl <;> first | rfl | exact jrf_cat _) ?_
  intro p e s m below meth c C hK hret hlk hnm hsz hAz
  have hb10 : lv 10 0 := h.k (by decide) (by decide)
  have hb11 : lv 11 0 := h.k (by decide) (by decide)
  have hb12 : lv 12 0 := h.k (by decide) (by decide)
  have hb13 : lv 13 0 := h.k (by decide) (by decide)
  have hb14 : lv 14 0 := h.k (by decide) (by decide)
  have hb15 : lv 15 0 := h.k (by decide) (by decide)
  have hb16 : lv 16 0 := h.k (by decide) (by decide)
  have hb17 : lv 17 0 := h.k (by decide) (by decide)
  have hb18 : lv 18 0 := h.k (by decide) (by decide)
  have hb19 : lv 19 0 := h.k (by decide) (by decide)
  refine j_aload_n C d_M_await0_0 rfl rfl ?_
  refine j_callV C hK hAz 10 0 (m_pres h _) (jcV C mi_M_present0 t_466 t_468 t_21 rfl rfl ⟨by decide, by decide⟩) rfl rfl (by assumption) rfl rfl (Nat.le_of_ble_eq_true rfl) d_M_await0_1 ⟨Nat.zero_le _, Nat.zero_le _⟩ ?_
  refine j_istore_n C d_M_await0_4 rfl (by decide) ?_
  refine j_iload_n C d_M_await0_5 rfl rfl ?_
  refine j_if_ge C 10 d_M_await0_6 rfl (fun g1 => ?_) (fun g1 => ?_)
  ·
    refine j_aload_n C d_M_await0_10 rfl rfl ?_
    refine tgC C hK 10 0 7 d_M_await0_11 in_M rfl rfl (by decide) t_383 rfl rfl rfl (by assumption) ?_
    refine j_iload_n C d_M_await0_14 rfl rfl ?_
    refine tia C hK 17 0 d_M_await0_15 rfl hs rfl rfl (by assumption) ?_
    refine j_if_le C 34 d_M_await0_16 rfl (fun g2 => ?_) (fun g2 => ?_)
    ·
      refine j_aload_n C d_M_await0_34 rfl rfl ?_
      refine j_iload_n C d_M_await0_35 rfl rfl ?_
      refine j_bipush (v := 16) C d_M_await0_36 (by decide) ?_
      refine j_iload_n C d_M_await0_38 rfl rfl ?_
      refine j_iadd C d_M_await0_39 ?_
      refine j_callV C hK hAz 10 0 (m_come (a := mf_pres τ) (t := (16 + a)) h (vin3 g1 (pres_lt h)) _) (jcV C mi_M_come t_470 t_472 t_22 rfl rfl ⟨by decide, by decide⟩) rfl rfl (by assumption) rfl rfl (Nat.le_of_ble_eq_true rfl) d_M_await0_40 ⟨Nat.zero_le _, Nat.zero_le _⟩ ?_
      refine j_aload_n C d_M_await0_43 rfl rfl ?_
      refine j_callV C hK hAz 10 0 (m_aside (N := N) (okm_come h) _) (jcV C mi_M_putAside t_486 t_488 t_26 rfl rfl ⟨by decide, by decide⟩) rfl rfl (by assumption) rfl rfl (Nat.le_of_ble_eq_true rfl) d_M_await0_44 ⟨Nat.zero_le _, Nat.zero_le _⟩ ?_
      refine j_vret C hret hlk d_M_await0_47 rfl ?_ rfl rfl
      simp only [mf_wait, g1, g2, if_true, if_false]
    ·
      refine j_aload_n C d_M_await0_19 rfl rfl ?_
      refine tgC C hK 10 0 7 d_M_await0_20 in_M rfl rfl (by decide) t_383 rfl rfl rfl (by assumption) ?_
      refine j_iload_n C d_M_await0_23 rfl rfl ?_
      refine j_aload_n C d_M_await0_24 rfl rfl ?_
      refine tgC C hK 10 0 7 d_M_await0_25 in_M rfl rfl (by decide) t_383 rfl rfl rfl (by assumption) ?_
      refine j_iload_n C d_M_await0_28 rfl rfl ?_
      refine tia C hK 17 0 d_M_await0_29 rfl hs rfl rfl (by assumption) ?_
      refine j_iconst (v := 1) C d_M_await0_30 (by decide) ?_
      refine j_isub C d_M_await0_31 ?_
      refine tia_st C hK 17 0 d_M_await0_32 rfl hs rfl rfl (by assumption) ?_
      refine j_vret C hret hlk d_M_await0_33 rfl ?_ rfl rfl
      simp only [mf_wait, g1, g2, if_true, if_false]
  ·
    refine j_vret C hret hlk d_M_await0_9 rfl ?_ rfl rfl
    simp only [mf_wait, g1, if_true, if_false]
set_option maxRecDepth 100000 in
set_option maxHeartbeats 4000000 in
theorem m_give {l : Launch} {D : va_G} {E : Nat → ClassId} {ad : Nat → Nat → Nat} {lv : Nat → Nat → Prop} {σ τ : sT} {N : Int} (h : OKm τ lv N) : jM l y_M_giveWay c_M_giveWay 2 (none) 2 D E ad lv (jv ad σ τ) [.ref (ad 10 0)] none (jv ad σ (mf_give τ)) := by
  intro sz
  refine jC.of "InputRoomModel" (by decide +kernel) rfl rfl (Nat.le_of_ble_eq_true rfl) (by intro v hv; simp only [List.mem_cons, List.not_mem_nil, or_false] at hv; rcases hv with rfl <;> first | rfl | exact jrf_cat _) ?_
  intro p e s m below meth c C hK hret hlk hnm hsz hAz
  have hb10 : lv 10 0 := h.k (by decide) (by decide)
  have hb11 : lv 11 0 := h.k (by decide) (by decide)
  have hb12 : lv 12 0 := h.k (by decide) (by decide)
  have hb13 : lv 13 0 := h.k (by decide) (by decide)
  have hb14 : lv 14 0 := h.k (by decide) (by decide)
  have hb15 : lv 15 0 := h.k (by decide) (by decide)
  have hb16 : lv 16 0 := h.k (by decide) (by decide)
  have hb17 : lv 17 0 := h.k (by decide) (by decide)
  have hb18 : lv 18 0 := h.k (by decide) (by decide)
  have hb19 : lv 19 0 := h.k (by decide) (by decide)
  refine j_aload_n C d_M_giveWay_0 rfl rfl ?_
  refine j_callV C hK hAz 10 0 (m_pres h _) (jcV C mi_M_present0 t_466 t_468 t_21 rfl rfl ⟨by decide, by decide⟩) rfl rfl (by assumption) rfl rfl (Nat.le_of_ble_eq_true rfl) d_M_giveWay_1 ⟨Nat.zero_le _, Nat.zero_le _⟩ ?_
  refine j_istore_n C d_M_giveWay_4 rfl (by decide) ?_
  refine j_iload_n C d_M_giveWay_5 rfl rfl ?_
  refine j_if_lt C 37 d_M_giveWay_6 rfl (fun g1 => ?_) (fun g1 => ?_)
  ·
    refine j_vret C hret hlk d_M_giveWay_37 rfl ?_ rfl rfl
    rw [mf_give, if_pos g1]
  ·
    refine j_aload_n C d_M_giveWay_9 rfl rfl ?_
    refine j_aload_n C d_M_giveWay_10 rfl rfl ?_
    refine tgC C hK 10 0 1 d_M_giveWay_11 in_M rfl rfl (by decide) t_377 rfl rfl rfl (by assumption) ?_
    refine j_iload_n C d_M_giveWay_14 rfl rfl ?_
    refine tia C hK 12 0 d_M_giveWay_15 rfl (vin2 g1 (pres_lt h)) rfl rfl (by assumption) ?_
    refine j_callV C hK hAz 10 0 (m_first (t := mf_pr τ (mf_pres τ)) h _) (jcV C mi_M_first t_458 t_460 t_19 rfl rfl ⟨by decide, by decide⟩) rfl rfl (by assumption) rfl rfl (Nat.le_of_ble_eq_true rfl) d_M_giveWay_16 ⟨Nat.zero_le _, Nat.zero_le _⟩ ?_
    refine j_if_lt C 37 d_M_giveWay_19 rfl (fun g2 => ?_) (fun g2 => ?_)
    ·
      refine j_vret C hret hlk d_M_giveWay_37 rfl ?_ rfl rfl
      rw [mf_give, if_neg g1, if_pos g2]
    ·
      refine j_aload_n C d_M_giveWay_22 rfl rfl ?_
      refine j_iload_n C d_M_giveWay_23 rfl rfl ?_
      refine j_aload_n C d_M_giveWay_24 rfl rfl ?_
      refine tgC C hK 10 0 1 d_M_giveWay_25 in_M rfl rfl (by decide) t_377 rfl rfl rfl (by assumption) ?_
      refine j_iload_n C d_M_giveWay_28 rfl rfl ?_
      refine tia C hK 12 0 d_M_giveWay_29 rfl (vin2 g1 (pres_lt h)) rfl rfl (by assumption) ?_
      refine j_callV C hK hAz 10 0 (m_come (a := mf_pres τ) (t := τ.1 12 0 (mf_pres τ).toNatClampNeg) h (vin2 g1 (pres_lt h)) _) (jcV C mi_M_come t_470 t_472 t_22 rfl rfl ⟨by decide, by decide⟩) rfl rfl (by assumption) rfl rfl (Nat.le_of_ble_eq_true rfl) d_M_giveWay_30 ⟨Nat.zero_le _, Nat.zero_le _⟩ ?_
      refine j_aload_n C d_M_giveWay_33 rfl rfl ?_
      refine j_callV C hK hAz 10 0 (m_aside (N := N) (okm_come h) _) (jcV C mi_M_putAside t_486 t_488 t_26 rfl rfl ⟨by decide, by decide⟩) rfl rfl (by assumption) rfl rfl (Nat.le_of_ble_eq_true rfl) d_M_giveWay_34 ⟨Nat.zero_le _, Nat.zero_le _⟩ ?_
      refine j_vret C hret hlk d_M_giveWay_37 rfl ?_ rfl rfl
      rw [mf_give, if_neg g1, if_neg g2]
      rfl
end
section
theorem okm_post {τ : sT} {lv : Nat → Nat → Prop} {N : Int} (h : OKm τ lv N) {s : Int32} : OKm (mf_post τ s) lv N := (h.o (k := 19) (i := 0) (j := (τ.1 10 0 20).toNatClampNeg) (x := s) (by omega) (by omega)).o (by omega) (by omega)
theorem i32_inc {x : Int32} (h : x.toInt < 2147483647) : (x + 1).toInt = x.toInt + 1 := by
  have h1 := Int32.le_toInt x
  rw [Int32.toInt_add, show (1 : Int32).toInt = 1 from rfl]
  apply Int.bmod_eq_of_le <;> omega
theorem nI_ofInt {x : Int32} {n : Nat} (h : x.toInt = n) (hn : n < 2 ^ 31) : x = nI n := Int32.toInt_inj.mp (by rw [h, nI_toInt hn])
theorem toN {x : Int32} : x.toNatClampNeg = x.toInt.toNat := Int32.toNat_toInt x |>.symm
set_option maxRecDepth 100000 in
set_option maxHeartbeats 4000000 in
theorem lp_mdrop {l : Launch} {D : va_G} {E : Nat → ClassId} {ad : Nat → Nat → Nat} {lv : Nat → Nat → Prop} {σ : sT} {N : Int} {V1 : jVT} {p : Program} {e : Env} {s : State} {m : MethodId} {below : List Frame} {meth : Method} {c : Code} {sz : Nat} (C : CallFix p m c c_M_dropWord 2 s ([.ref (ad 10 0)] : List Value).toArray jT "InputRoomModel") (hK : jK D jcl jY E s) (hret : meth.sig.returnType = none) (hlk : meth.locks = false) (hAz : ∀ q, s.heap.size ≤ q → jA ad lv sz q) : ∀ (n : Nat) (τ1 : sT) (k : Nat) (i : Int32), OKm τ1 lv N → i = nI k → k + n ≤ 63 → (τ1.1 10 0 12).toInt = k + n → jv ad σ (mf_sh n k τ1) = V1 → JM l y_M_dropWord c_M_dropWord 2 (none) 0 D E ad lv p e s m below meth c sz [.ref (ad 10 0)] none (V1) (jv ad σ τ1) 19 [some (.ref (ad 10 0)), some (.int (i))] [] := by
  intro n
  induction n with
  | zero =>
    intro τ1 k i h1 hi hk hc hV
    subst hi
    have hge : τ1.1 10 0 12 ≤ nI k := by rw [i32_le, nI_toInt (by omega)]; omega
    have hb10 : lv 10 0 := h1.k (by decide) (by decide)
    refine j_iload_n C d_M_dropWord_19 rfl rfl ?_
    refine j_aload_n C d_M_dropWord_20 rfl rfl ?_
    refine tgI C hK 10 0 12 d_M_dropWord_21 in_M rfl rfl (by decide) t_388 rfl rfl rfl (by assumption) ?_
    refine j_icmp_ge C 47 d_M_dropWord_24 rfl (fun _ => ?_) (fun g1 => absurd hge g1)
    refine j_vret C hret hlk d_M_dropWord_47 rfl ?_ rfl rfl
    exact hV
  | succ n ih =>
    intro τ1 k i h1 hi hk hc hV
    subst hi
    have hge : ¬ τ1.1 10 0 12 ≤ nI k := by rw [i32_le, nI_toInt (by omega)]; omega
    have hb10 : lv 10 0 := h1.k (by decide) (by decide)
    have hb18 : lv 18 0 := h1.k (by decide) (by decide)
    refine j_iload_n C d_M_dropWord_19 rfl rfl ?_
    refine j_aload_n C d_M_dropWord_20 rfl rfl ?_
    refine tgI C hK 10 0 12 d_M_dropWord_21 in_M rfl rfl (by decide) t_388 rfl rfl rfl (by assumption) ?_
    refine j_icmp_ge C 47 d_M_dropWord_24 rfl (fun g1 => absurd g1 hge) (fun _ => ?_)
    refine j_aload_n C d_M_dropWord_27 rfl rfl ?_
    refine tgC C hK 10 0 11 d_M_dropWord_28 in_M rfl rfl (by decide) t_387 rfl rfl rfl (by assumption) ?_
    refine j_iload_n C d_M_dropWord_31 rfl rfl ?_
    refine j_aload_n C d_M_dropWord_32 rfl rfl ?_
    refine tgC C hK 10 0 11 d_M_dropWord_33 in_M rfl rfl (by decide) t_387 rfl rfl rfl (by assumption) ?_
    refine j_iload_n C d_M_dropWord_36 rfl rfl ?_
    refine j_iconst (v := 1) C d_M_dropWord_37 (by decide) ?_
    refine j_iadd C d_M_dropWord_38 ?_
    refine tia C hK 18 0 d_M_dropWord_39 rfl (by rw [nI_1]; exact vp_in_nI (by omega) (by decide)) rfl rfl (by assumption) ?_
    refine tia_st C hK 18 0 d_M_dropWord_40 rfl (vp_in_nI (by omega) (by decide)) rfl rfl (by assumption) ?_
    refine j_iinc C d_M_dropWord_41 rfl (by decide) ?_
    refine j_goto C 19 d_M_dropWord_44 rfl ?_
    exact ih (sI τ1 18 0 (nI k).toNatClampNeg (τ1.1 18 0 ((nI k + 1)).toNatClampNeg)) (k + 1) _ (h1.o (by omega) (by omega)) (i32_p1 k) (by omega) (by show (τ1.1 10 0 12).toInt = _; omega) hV
set_option maxRecDepth 100000 in
set_option maxHeartbeats 4000000 in
theorem m_drop {l : Launch} {D : va_G} {E : Nat → ClassId} {ad : Nat → Nat → Nat} {lv : Nat → Nat → Prop} {σ τ : sT} {N : Int} (h : OKm τ lv N) : jM l y_M_dropWord c_M_dropWord 2 (none) 0 D E ad lv (jv ad σ τ) [.ref (ad 10 0)] none (jv ad σ (mf_drop τ)) := by
  intro sz
  refine jC.of "InputRoomModel" (by decide +kernel) rfl rfl (Nat.le_of_ble_eq_true rfl) (by intro v hv; simp only [List.mem_cons, List.not_mem_nil, or_false] at hv; rcases hv with rfl <;> first | rfl | exact jrf_cat _) ?_
  intro p e s m below meth c C hK hret hlk hnm hsz hAz
  have hb10 : lv 10 0 := h.k (by decide) (by decide)
  have hb11 : lv 11 0 := h.k (by decide) (by decide)
  have hb12 : lv 12 0 := h.k (by decide) (by decide)
  have hb13 : lv 13 0 := h.k (by decide) (by decide)
  have hb14 : lv 14 0 := h.k (by decide) (by decide)
  have hb15 : lv 15 0 := h.k (by decide) (by decide)
  have hb16 : lv 16 0 := h.k (by decide) (by decide)
  have hb17 : lv 17 0 := h.k (by decide) (by decide)
  have hb18 : lv 18 0 := h.k (by decide) (by decide)
  have hb19 : lv 19 0 := h.k (by decide) (by decide)
  refine j_aload_n C d_M_dropWord_0 rfl rfl ?_
  refine tgI C hK 10 0 12 d_M_dropWord_1 in_M rfl rfl (by decide) t_388 rfl rfl rfl (by assumption) ?_
  refine j_if_le C 47 d_M_dropWord_4 rfl (fun g1 => ?_) (fun g1 => ?_)
  ·
    refine j_vret C hret hlk d_M_dropWord_47 rfl ?_ rfl rfl
    rw [mf_drop, if_pos g1]
  ·
    refine j_aload_n C d_M_dropWord_7 rfl rfl ?_
    refine j_aload_n C d_M_dropWord_8 rfl rfl ?_
    refine tgI C hK 10 0 12 d_M_dropWord_9 in_M rfl rfl (by decide) t_388 rfl rfl rfl (by assumption) ?_
    refine j_iconst (v := 1) C d_M_dropWord_12 (by decide) ?_
    refine j_isub C d_M_dropWord_13 ?_
    refine tpI C hK 10 0 12 ty_M tk_M nm_M d_M_dropWord_14 in_M rfl rfl (by decide) t_388 rfl rfl rfl rfl ((τ.1 10 0 12 - 1)) rfl rfl (by assumption) ?_
    refine j_iconst (v := 0) C d_M_dropWord_17 (by decide) ?_
    refine j_istore_n C d_M_dropWord_18 rfl (by decide) ?_
    have hc := h.2.2.2.2.2.1
    have q : 0 < (τ.1 10 0 12).toInt := by rw [i32_le, i32_0] at g1; omega
    have e1 := i32_dec q
    refine lp_mdrop C hK hret hlk hAz (τ.1 10 0 12 - 1).toNatClampNeg (sI τ 10 0 12 ((τ.1 10 0 12 - 1))) 0 0 (h.f12 (by omega)) rfl ?_ ?_ (by rw [mf_drop, if_neg g1])
    · rw [toN]; omega
    · show (τ.1 10 0 12 - 1).toInt = _; rw [toN]; omega
set_option maxRecDepth 100000 in
set_option maxHeartbeats 4000000 in
theorem m_act {l : Launch} {D : va_G} {E : Nat → ClassId} {ad : Nat → Nat → Nat} {lv : Nat → Nat → Prop} {σ τ : sT} {N : Int} (h : OKm τ lv N) {a : Int32} : jM l y_M_act c_M_act 2 (none) 3 D E ad lv (jv ad σ τ) [.ref (ad 10 0), .int (a)] none (jv ad σ (mf_act τ a)) := by
  intro sz
  refine jC.of "InputRoomModel" (by decide +kernel) rfl rfl (Nat.le_of_ble_eq_true rfl) (by intro v hv; simp only [List.mem_cons, List.not_mem_nil, or_false] at hv; rcases hv with rfl | rfl <;> first | rfl | exact jrf_cat _) ?_
  intro p e s m below meth c C hK hret hlk hnm hsz hAz
  have hb10 : lv 10 0 := h.k (by decide) (by decide)
  have hb11 : lv 11 0 := h.k (by decide) (by decide)
  have hb12 : lv 12 0 := h.k (by decide) (by decide)
  have hb13 : lv 13 0 := h.k (by decide) (by decide)
  have hb14 : lv 14 0 := h.k (by decide) (by decide)
  have hb15 : lv 15 0 := h.k (by decide) (by decide)
  have hb16 : lv 16 0 := h.k (by decide) (by decide)
  have hb17 : lv 17 0 := h.k (by decide) (by decide)
  have hb18 : lv 18 0 := h.k (by decide) (by decide)
  have hb19 : lv 19 0 := h.k (by decide) (by decide)
  refine j_iload_n C d_M_act_0 rfl rfl ?_
  refine j_bipush (v := 16) C d_M_act_1 (by decide) ?_
  refine j_icmp_lt C 23 d_M_act_3 rfl (fun g1 => ?_) (fun g1 => ?_)
  ·
    have r16 : ¬ (¬ a < 16 ∧ ¬ 32 ≤ a) := fun z => z.1 g1
    refine j_iload_n C d_M_act_23 rfl rfl ?_
    refine j_bipush (v := 32) C d_M_act_24 (by decide) ?_
    refine j_icmp_lt C 46 d_M_act_26 rfl (fun g2 => ?_) (fun g2 => ?_)
    ·
      have r32 : ¬ (¬ a < 32 ∧ ¬ 48 ≤ a) := fun z => z.1 g2
      refine j_iload_n C d_M_act_46 rfl rfl ?_
      refine j_bipush (v := 48) C d_M_act_47 (by decide) ?_
      refine j_icmp_ne C 59 d_M_act_49 rfl (fun g3 => ?_) (fun g3 => ?_)
      ·
        refine j_iload_n C d_M_act_59 rfl rfl ?_
        refine j_bipush (v := 49) C d_M_act_60 (by decide) ?_
        refine j_icmp_ne C 72 d_M_act_62 rfl (fun g4 => ?_) (fun g4 => ?_)
        ·
          refine j_iload_n C d_M_act_72 rfl rfl ?_
          refine j_bipush (v := 50) C d_M_act_73 (by decide) ?_
          refine j_icmp_ne C 86 d_M_act_75 rfl (fun g5 => ?_) (fun g5 => ?_)
          ·
            refine j_iload_n C d_M_act_86 rfl rfl ?_
            refine j_bipush (v := 64) C d_M_act_87 (by decide) ?_
            refine j_icmp_lt C 119 d_M_act_89 rfl (fun g6 => ?_) (fun g6 => ?_)
            ·
              have r64 : ¬ (¬ a < 64 ∧ ¬ 80 ≤ a) := fun z => z.1 g6
              refine j_iload_n C d_M_act_119 rfl rfl ?_
              refine j_bipush (v := 80) C d_M_act_120 (by decide) ?_
              refine j_icmp_lt C 139 d_M_act_122 rfl (fun g7 => ?_) (fun g7 => ?_)
              ·
                have r80 : ¬ (¬ a < 80 ∧ ¬ 96 ≤ a) := fun z => z.1 g7
                refine j_vret C hret hlk d_M_act_139 rfl ?_ rfl rfl
                unfold mf_act
                rw [if_neg r16, if_neg r32, if_neg g3, if_neg g4, if_neg g5, if_neg r64, if_neg r80]
              ·
                refine j_iload_n C d_M_act_125 rfl rfl ?_
                refine j_bipush (v := 96) C d_M_act_126 (by decide) ?_
                refine j_icmp_ge C 139 d_M_act_128 rfl (fun g8 => ?_) (fun g8 => ?_)
                ·
                  have r80 : ¬ (¬ a < 80 ∧ ¬ 96 ≤ a) := fun z => z.2 g8
                  refine j_vret C hret hlk d_M_act_139 rfl ?_ rfl rfl
                  unfold mf_act
                  rw [if_neg r16, if_neg r32, if_neg g3, if_neg g4, if_neg g5, if_neg r64, if_neg r80]
                ·
                  refine j_aload_n C d_M_act_131 rfl rfl ?_
                  refine j_iload_n C d_M_act_132 rfl rfl ?_
                  refine j_bipush (v := 80) C d_M_act_133 (by decide) ?_
                  refine j_isub C d_M_act_135 ?_
                  refine tpI C hK 10 0 14 ty_M tk_M nm_M d_M_act_136 in_M rfl rfl (by decide) t_390 rfl rfl rfl rfl ((a - 80)) rfl rfl (by assumption) ?_
                  refine j_vret C hret hlk d_M_act_139 rfl ?_ rfl rfl
                  unfold mf_act
                  rw [if_neg r16, if_neg r32, if_neg g3, if_neg g4, if_neg g5, if_neg r64, if_pos ⟨g7, g8⟩]
            ·
              refine j_iload_n C d_M_act_92 rfl rfl ?_
              refine j_bipush (v := 80) C d_M_act_93 (by decide) ?_
              refine j_icmp_ge C 119 d_M_act_95 rfl (fun g9 => ?_) (fun g9 => ?_)
              ·
                have r64 : ¬ (¬ a < 64 ∧ ¬ 80 ≤ a) := fun z => z.2 g9
                refine j_iload_n C d_M_act_119 rfl rfl ?_
                refine j_bipush (v := 80) C d_M_act_120 (by decide) ?_
                refine j_icmp_lt C 139 d_M_act_122 rfl (fun g10 => ?_) (fun g10 => ?_)
                ·
                  have r80 : ¬ (¬ a < 80 ∧ ¬ 96 ≤ a) := fun z => z.1 g10
                  refine j_vret C hret hlk d_M_act_139 rfl ?_ rfl rfl
                  unfold mf_act
                  rw [if_neg r16, if_neg r32, if_neg g3, if_neg g4, if_neg g5, if_neg r64, if_neg r80]
                ·
                  refine j_iload_n C d_M_act_125 rfl rfl ?_
                  refine j_bipush (v := 96) C d_M_act_126 (by decide) ?_
                  refine j_icmp_ge C 139 d_M_act_128 rfl (fun g11 => ?_) (fun g11 => ?_)
                  ·
                    have r80 : ¬ (¬ a < 80 ∧ ¬ 96 ≤ a) := fun z => z.2 g11
                    refine j_vret C hret hlk d_M_act_139 rfl ?_ rfl rfl
                    unfold mf_act
                    rw [if_neg r16, if_neg r32, if_neg g3, if_neg g4, if_neg g5, if_neg r64, if_neg r80]
                  ·
                    refine j_aload_n C d_M_act_131 rfl rfl ?_
                    refine j_iload_n C d_M_act_132 rfl rfl ?_
                    refine j_bipush (v := 80) C d_M_act_133 (by decide) ?_
                    refine j_isub C d_M_act_135 ?_
                    refine tpI C hK 10 0 14 ty_M tk_M nm_M d_M_act_136 in_M rfl rfl (by decide) t_390 rfl rfl rfl rfl ((a - 80)) rfl rfl (by assumption) ?_
                    refine j_vret C hret hlk d_M_act_139 rfl ?_ rfl rfl
                    unfold mf_act
                    rw [if_neg r16, if_neg r32, if_neg g3, if_neg g4, if_neg g5, if_neg r64, if_pos ⟨g10, g11⟩]
              ·
                refine j_aload_n C d_M_act_98 rfl rfl ?_
                refine j_iload_n C d_M_act_99 rfl rfl ?_
                refine j_bipush (v := 64) C d_M_act_100 (by decide) ?_
                refine j_isub C d_M_act_102 ?_
                refine tpI C hK 10 0 15 ty_M tk_M nm_M d_M_act_103 in_M rfl rfl (by decide) t_391 rfl rfl rfl rfl ((a - 64)) rfl rfl (by assumption) ?_
                refine j_aload_n C d_M_act_106 rfl rfl ?_
                refine j_aload_n C d_M_act_107 rfl rfl ?_
                refine tgI C hK 10 0 17 d_M_act_108 in_M rfl rfl (by decide) t_393 rfl rfl rfl (by assumption) ?_
                refine j_iconst (v := 3) C d_M_act_111 (by decide) ?_
                refine j_iadd C d_M_act_112 ?_
                refine tpI C hK 10 0 16 ty_M tk_M nm_M d_M_act_113 in_M rfl rfl (by decide) t_392 rfl rfl rfl rfl (((sI τ 10 0 15 ((a - 64))).1 10 0 17 + 3)) rfl rfl (by assumption) ?_
                refine j_goto C 139 d_M_act_116 rfl ?_
                refine j_vret C hret hlk d_M_act_139 rfl ?_ rfl rfl
                unfold mf_act
                rw [if_neg r16, if_neg r32, if_neg g3, if_neg g4, if_neg g5, if_pos ⟨g6, g9⟩]
          ·
            refine j_aload_n C d_M_act_78 rfl rfl ?_
            refine j_iconst (v := -1) C d_M_act_79 (by decide) ?_
            refine tpI C hK 10 0 14 ty_M tk_M nm_M d_M_act_80 in_M rfl rfl (by decide) t_390 rfl rfl rfl rfl (-1) rfl rfl (by assumption) ?_
            refine j_goto C 139 d_M_act_83 rfl ?_
            refine j_vret C hret hlk d_M_act_139 rfl ?_ rfl rfl
            unfold mf_act
            rw [if_neg r16, if_neg r32, if_neg g3, if_neg g4, if_pos g5]
        ·
          refine j_aload_n C d_M_act_65 rfl rfl ?_
          refine j_callV C hK hAz 10 0 (m_drop h _) (jcV C mi_M_dropWord t_494 t_496 t_28 rfl rfl ⟨by decide, by decide⟩) rfl rfl (by assumption) rfl rfl (Nat.le_of_ble_eq_true rfl) d_M_act_66 ⟨Nat.zero_le _, Nat.zero_le _⟩ ?_
          refine j_goto C 139 d_M_act_69 rfl ?_
          refine j_vret C hret hlk d_M_act_139 rfl ?_ rfl rfl
          unfold mf_act
          rw [if_neg r16, if_neg r32, if_neg g3, if_pos g4]
      ·
        refine j_aload_n C d_M_act_52 rfl rfl ?_
        refine j_callV C hK hAz 10 0 (m_give h _) (jcV C mi_M_giveWay t_490 t_492 t_27 rfl rfl ⟨by decide, by decide⟩) rfl rfl (by assumption) rfl rfl (Nat.le_of_ble_eq_true rfl) d_M_act_53 ⟨Nat.zero_le _, Nat.zero_le _⟩ ?_
        refine j_goto C 139 d_M_act_56 rfl ?_
        refine j_vret C hret hlk d_M_act_139 rfl ?_ rfl rfl
        unfold mf_act
        rw [if_neg r16, if_neg r32, if_pos g3]
    ·
      refine j_iload_n C d_M_act_29 rfl rfl ?_
      refine j_bipush (v := 48) C d_M_act_30 (by decide) ?_
      refine j_icmp_ge C 46 d_M_act_32 rfl (fun g12 => ?_) (fun g12 => ?_)
      ·
        have r32 : ¬ (¬ a < 32 ∧ ¬ 48 ≤ a) := fun z => z.2 g12
        refine j_iload_n C d_M_act_46 rfl rfl ?_
        refine j_bipush (v := 48) C d_M_act_47 (by decide) ?_
        refine j_icmp_ne C 59 d_M_act_49 rfl (fun g13 => ?_) (fun g13 => ?_)
        ·
          refine j_iload_n C d_M_act_59 rfl rfl ?_
          refine j_bipush (v := 49) C d_M_act_60 (by decide) ?_
          refine j_icmp_ne C 72 d_M_act_62 rfl (fun g14 => ?_) (fun g14 => ?_)
          ·
            refine j_iload_n C d_M_act_72 rfl rfl ?_
            refine j_bipush (v := 50) C d_M_act_73 (by decide) ?_
            refine j_icmp_ne C 86 d_M_act_75 rfl (fun g15 => ?_) (fun g15 => ?_)
            ·
              refine j_iload_n C d_M_act_86 rfl rfl ?_
              refine j_bipush (v := 64) C d_M_act_87 (by decide) ?_
              refine j_icmp_lt C 119 d_M_act_89 rfl (fun g16 => ?_) (fun g16 => ?_)
              ·
                have r64 : ¬ (¬ a < 64 ∧ ¬ 80 ≤ a) := fun z => z.1 g16
                refine j_iload_n C d_M_act_119 rfl rfl ?_
                refine j_bipush (v := 80) C d_M_act_120 (by decide) ?_
                refine j_icmp_lt C 139 d_M_act_122 rfl (fun g17 => ?_) (fun g17 => ?_)
                ·
                  have r80 : ¬ (¬ a < 80 ∧ ¬ 96 ≤ a) := fun z => z.1 g17
                  refine j_vret C hret hlk d_M_act_139 rfl ?_ rfl rfl
                  unfold mf_act
                  rw [if_neg r16, if_neg r32, if_neg g13, if_neg g14, if_neg g15, if_neg r64, if_neg r80]
                ·
                  refine j_iload_n C d_M_act_125 rfl rfl ?_
                  refine j_bipush (v := 96) C d_M_act_126 (by decide) ?_
                  refine j_icmp_ge C 139 d_M_act_128 rfl (fun g18 => ?_) (fun g18 => ?_)
                  ·
                    have r80 : ¬ (¬ a < 80 ∧ ¬ 96 ≤ a) := fun z => z.2 g18
                    refine j_vret C hret hlk d_M_act_139 rfl ?_ rfl rfl
                    unfold mf_act
                    rw [if_neg r16, if_neg r32, if_neg g13, if_neg g14, if_neg g15, if_neg r64, if_neg r80]
                  ·
                    refine j_aload_n C d_M_act_131 rfl rfl ?_
                    refine j_iload_n C d_M_act_132 rfl rfl ?_
                    refine j_bipush (v := 80) C d_M_act_133 (by decide) ?_
                    refine j_isub C d_M_act_135 ?_
                    refine tpI C hK 10 0 14 ty_M tk_M nm_M d_M_act_136 in_M rfl rfl (by decide) t_390 rfl rfl rfl rfl ((a - 80)) rfl rfl (by assumption) ?_
                    refine j_vret C hret hlk d_M_act_139 rfl ?_ rfl rfl
                    unfold mf_act
                    rw [if_neg r16, if_neg r32, if_neg g13, if_neg g14, if_neg g15, if_neg r64, if_pos ⟨g17, g18⟩]
              ·
                refine j_iload_n C d_M_act_92 rfl rfl ?_
                refine j_bipush (v := 80) C d_M_act_93 (by decide) ?_
                refine j_icmp_ge C 119 d_M_act_95 rfl (fun g19 => ?_) (fun g19 => ?_)
                ·
                  have r64 : ¬ (¬ a < 64 ∧ ¬ 80 ≤ a) := fun z => z.2 g19
                  refine j_iload_n C d_M_act_119 rfl rfl ?_
                  refine j_bipush (v := 80) C d_M_act_120 (by decide) ?_
                  refine j_icmp_lt C 139 d_M_act_122 rfl (fun g20 => ?_) (fun g20 => ?_)
                  ·
                    have r80 : ¬ (¬ a < 80 ∧ ¬ 96 ≤ a) := fun z => z.1 g20
                    refine j_vret C hret hlk d_M_act_139 rfl ?_ rfl rfl
                    unfold mf_act
                    rw [if_neg r16, if_neg r32, if_neg g13, if_neg g14, if_neg g15, if_neg r64, if_neg r80]
                  ·
                    refine j_iload_n C d_M_act_125 rfl rfl ?_
                    refine j_bipush (v := 96) C d_M_act_126 (by decide) ?_
                    refine j_icmp_ge C 139 d_M_act_128 rfl (fun g21 => ?_) (fun g21 => ?_)
                    ·
                      have r80 : ¬ (¬ a < 80 ∧ ¬ 96 ≤ a) := fun z => z.2 g21
                      refine j_vret C hret hlk d_M_act_139 rfl ?_ rfl rfl
                      unfold mf_act
                      rw [if_neg r16, if_neg r32, if_neg g13, if_neg g14, if_neg g15, if_neg r64, if_neg r80]
                    ·
                      refine j_aload_n C d_M_act_131 rfl rfl ?_
                      refine j_iload_n C d_M_act_132 rfl rfl ?_
                      refine j_bipush (v := 80) C d_M_act_133 (by decide) ?_
                      refine j_isub C d_M_act_135 ?_
                      refine tpI C hK 10 0 14 ty_M tk_M nm_M d_M_act_136 in_M rfl rfl (by decide) t_390 rfl rfl rfl rfl ((a - 80)) rfl rfl (by assumption) ?_
                      refine j_vret C hret hlk d_M_act_139 rfl ?_ rfl rfl
                      unfold mf_act
                      rw [if_neg r16, if_neg r32, if_neg g13, if_neg g14, if_neg g15, if_neg r64, if_pos ⟨g20, g21⟩]
                ·
                  refine j_aload_n C d_M_act_98 rfl rfl ?_
                  refine j_iload_n C d_M_act_99 rfl rfl ?_
                  refine j_bipush (v := 64) C d_M_act_100 (by decide) ?_
                  refine j_isub C d_M_act_102 ?_
                  refine tpI C hK 10 0 15 ty_M tk_M nm_M d_M_act_103 in_M rfl rfl (by decide) t_391 rfl rfl rfl rfl ((a - 64)) rfl rfl (by assumption) ?_
                  refine j_aload_n C d_M_act_106 rfl rfl ?_
                  refine j_aload_n C d_M_act_107 rfl rfl ?_
                  refine tgI C hK 10 0 17 d_M_act_108 in_M rfl rfl (by decide) t_393 rfl rfl rfl (by assumption) ?_
                  refine j_iconst (v := 3) C d_M_act_111 (by decide) ?_
                  refine j_iadd C d_M_act_112 ?_
                  refine tpI C hK 10 0 16 ty_M tk_M nm_M d_M_act_113 in_M rfl rfl (by decide) t_392 rfl rfl rfl rfl (((sI τ 10 0 15 ((a - 64))).1 10 0 17 + 3)) rfl rfl (by assumption) ?_
                  refine j_goto C 139 d_M_act_116 rfl ?_
                  refine j_vret C hret hlk d_M_act_139 rfl ?_ rfl rfl
                  unfold mf_act
                  rw [if_neg r16, if_neg r32, if_neg g13, if_neg g14, if_neg g15, if_pos ⟨g16, g19⟩]
            ·
              refine j_aload_n C d_M_act_78 rfl rfl ?_
              refine j_iconst (v := -1) C d_M_act_79 (by decide) ?_
              refine tpI C hK 10 0 14 ty_M tk_M nm_M d_M_act_80 in_M rfl rfl (by decide) t_390 rfl rfl rfl rfl (-1) rfl rfl (by assumption) ?_
              refine j_goto C 139 d_M_act_83 rfl ?_
              refine j_vret C hret hlk d_M_act_139 rfl ?_ rfl rfl
              unfold mf_act
              rw [if_neg r16, if_neg r32, if_neg g13, if_neg g14, if_pos g15]
          ·
            refine j_aload_n C d_M_act_65 rfl rfl ?_
            refine j_callV C hK hAz 10 0 (m_drop h _) (jcV C mi_M_dropWord t_494 t_496 t_28 rfl rfl ⟨by decide, by decide⟩) rfl rfl (by assumption) rfl rfl (Nat.le_of_ble_eq_true rfl) d_M_act_66 ⟨Nat.zero_le _, Nat.zero_le _⟩ ?_
            refine j_goto C 139 d_M_act_69 rfl ?_
            refine j_vret C hret hlk d_M_act_139 rfl ?_ rfl rfl
            unfold mf_act
            rw [if_neg r16, if_neg r32, if_neg g13, if_pos g14]
        ·
          refine j_aload_n C d_M_act_52 rfl rfl ?_
          refine j_callV C hK hAz 10 0 (m_give h _) (jcV C mi_M_giveWay t_490 t_492 t_27 rfl rfl ⟨by decide, by decide⟩) rfl rfl (by assumption) rfl rfl (Nat.le_of_ble_eq_true rfl) d_M_act_53 ⟨Nat.zero_le _, Nat.zero_le _⟩ ?_
          refine j_goto C 139 d_M_act_56 rfl ?_
          refine j_vret C hret hlk d_M_act_139 rfl ?_ rfl rfl
          unfold mf_act
          rw [if_neg r16, if_neg r32, if_pos g13]
      ·
        refine j_aload_n C d_M_act_35 rfl rfl ?_
        refine j_iload_n C d_M_act_36 rfl rfl ?_
        refine j_bipush (v := 32) C d_M_act_37 (by decide) ?_
        refine j_isub C d_M_act_39 ?_
        refine j_callV C hK hAz 10 0 (m_sig (a := a - 32) h (rng_in g2 g12 (by decide) rfl) _) (jcV C mi_M_signal0 t_454 t_456 t_18 rfl rfl ⟨by decide, by decide⟩) rfl rfl (by assumption) rfl rfl (Nat.le_of_ble_eq_true rfl) d_M_act_40 ⟨Nat.zero_le _, Nat.zero_le _⟩ ?_
        refine j_goto C 139 d_M_act_43 rfl ?_
        refine j_vret C hret hlk d_M_act_139 rfl ?_ rfl rfl
        unfold mf_act
        rw [if_neg r16, if_pos ⟨g2, g12⟩]
  ·
    refine j_iload_n C d_M_act_6 rfl rfl ?_
    refine j_bipush (v := 32) C d_M_act_7 (by decide) ?_
    refine j_icmp_ge C 23 d_M_act_9 rfl (fun g22 => ?_) (fun g22 => ?_)
    ·
      have r16 : ¬ (¬ a < 16 ∧ ¬ 32 ≤ a) := fun z => z.2 g22
      refine j_iload_n C d_M_act_23 rfl rfl ?_
      refine j_bipush (v := 32) C d_M_act_24 (by decide) ?_
      refine j_icmp_lt C 46 d_M_act_26 rfl (fun g23 => ?_) (fun g23 => ?_)
      ·
        have r32 : ¬ (¬ a < 32 ∧ ¬ 48 ≤ a) := fun z => z.1 g23
        refine j_iload_n C d_M_act_46 rfl rfl ?_
        refine j_bipush (v := 48) C d_M_act_47 (by decide) ?_
        refine j_icmp_ne C 59 d_M_act_49 rfl (fun g24 => ?_) (fun g24 => ?_)
        ·
          refine j_iload_n C d_M_act_59 rfl rfl ?_
          refine j_bipush (v := 49) C d_M_act_60 (by decide) ?_
          refine j_icmp_ne C 72 d_M_act_62 rfl (fun g25 => ?_) (fun g25 => ?_)
          ·
            refine j_iload_n C d_M_act_72 rfl rfl ?_
            refine j_bipush (v := 50) C d_M_act_73 (by decide) ?_
            refine j_icmp_ne C 86 d_M_act_75 rfl (fun g26 => ?_) (fun g26 => ?_)
            ·
              refine j_iload_n C d_M_act_86 rfl rfl ?_
              refine j_bipush (v := 64) C d_M_act_87 (by decide) ?_
              refine j_icmp_lt C 119 d_M_act_89 rfl (fun g27 => ?_) (fun g27 => ?_)
              ·
                have r64 : ¬ (¬ a < 64 ∧ ¬ 80 ≤ a) := fun z => z.1 g27
                refine j_iload_n C d_M_act_119 rfl rfl ?_
                refine j_bipush (v := 80) C d_M_act_120 (by decide) ?_
                refine j_icmp_lt C 139 d_M_act_122 rfl (fun g28 => ?_) (fun g28 => ?_)
                ·
                  have r80 : ¬ (¬ a < 80 ∧ ¬ 96 ≤ a) := fun z => z.1 g28
                  refine j_vret C hret hlk d_M_act_139 rfl ?_ rfl rfl
                  unfold mf_act
                  rw [if_neg r16, if_neg r32, if_neg g24, if_neg g25, if_neg g26, if_neg r64, if_neg r80]
                ·
                  refine j_iload_n C d_M_act_125 rfl rfl ?_
                  refine j_bipush (v := 96) C d_M_act_126 (by decide) ?_
                  refine j_icmp_ge C 139 d_M_act_128 rfl (fun g29 => ?_) (fun g29 => ?_)
                  ·
                    have r80 : ¬ (¬ a < 80 ∧ ¬ 96 ≤ a) := fun z => z.2 g29
                    refine j_vret C hret hlk d_M_act_139 rfl ?_ rfl rfl
                    unfold mf_act
                    rw [if_neg r16, if_neg r32, if_neg g24, if_neg g25, if_neg g26, if_neg r64, if_neg r80]
                  ·
                    refine j_aload_n C d_M_act_131 rfl rfl ?_
                    refine j_iload_n C d_M_act_132 rfl rfl ?_
                    refine j_bipush (v := 80) C d_M_act_133 (by decide) ?_
                    refine j_isub C d_M_act_135 ?_
                    refine tpI C hK 10 0 14 ty_M tk_M nm_M d_M_act_136 in_M rfl rfl (by decide) t_390 rfl rfl rfl rfl ((a - 80)) rfl rfl (by assumption) ?_
                    refine j_vret C hret hlk d_M_act_139 rfl ?_ rfl rfl
                    unfold mf_act
                    rw [if_neg r16, if_neg r32, if_neg g24, if_neg g25, if_neg g26, if_neg r64, if_pos ⟨g28, g29⟩]
              ·
                refine j_iload_n C d_M_act_92 rfl rfl ?_
                refine j_bipush (v := 80) C d_M_act_93 (by decide) ?_
                refine j_icmp_ge C 119 d_M_act_95 rfl (fun g30 => ?_) (fun g30 => ?_)
                ·
                  have r64 : ¬ (¬ a < 64 ∧ ¬ 80 ≤ a) := fun z => z.2 g30
                  refine j_iload_n C d_M_act_119 rfl rfl ?_
                  refine j_bipush (v := 80) C d_M_act_120 (by decide) ?_
                  refine j_icmp_lt C 139 d_M_act_122 rfl (fun g31 => ?_) (fun g31 => ?_)
                  ·
                    have r80 : ¬ (¬ a < 80 ∧ ¬ 96 ≤ a) := fun z => z.1 g31
                    refine j_vret C hret hlk d_M_act_139 rfl ?_ rfl rfl
                    unfold mf_act
                    rw [if_neg r16, if_neg r32, if_neg g24, if_neg g25, if_neg g26, if_neg r64, if_neg r80]
                  ·
                    refine j_iload_n C d_M_act_125 rfl rfl ?_
                    refine j_bipush (v := 96) C d_M_act_126 (by decide) ?_
                    refine j_icmp_ge C 139 d_M_act_128 rfl (fun g32 => ?_) (fun g32 => ?_)
                    ·
                      have r80 : ¬ (¬ a < 80 ∧ ¬ 96 ≤ a) := fun z => z.2 g32
                      refine j_vret C hret hlk d_M_act_139 rfl ?_ rfl rfl
                      unfold mf_act
                      rw [if_neg r16, if_neg r32, if_neg g24, if_neg g25, if_neg g26, if_neg r64, if_neg r80]
                    ·
                      refine j_aload_n C d_M_act_131 rfl rfl ?_
                      refine j_iload_n C d_M_act_132 rfl rfl ?_
                      refine j_bipush (v := 80) C d_M_act_133 (by decide) ?_
                      refine j_isub C d_M_act_135 ?_
                      refine tpI C hK 10 0 14 ty_M tk_M nm_M d_M_act_136 in_M rfl rfl (by decide) t_390 rfl rfl rfl rfl ((a - 80)) rfl rfl (by assumption) ?_
                      refine j_vret C hret hlk d_M_act_139 rfl ?_ rfl rfl
                      unfold mf_act
                      rw [if_neg r16, if_neg r32, if_neg g24, if_neg g25, if_neg g26, if_neg r64, if_pos ⟨g31, g32⟩]
                ·
                  refine j_aload_n C d_M_act_98 rfl rfl ?_
                  refine j_iload_n C d_M_act_99 rfl rfl ?_
                  refine j_bipush (v := 64) C d_M_act_100 (by decide) ?_
                  refine j_isub C d_M_act_102 ?_
                  refine tpI C hK 10 0 15 ty_M tk_M nm_M d_M_act_103 in_M rfl rfl (by decide) t_391 rfl rfl rfl rfl ((a - 64)) rfl rfl (by assumption) ?_
                  refine j_aload_n C d_M_act_106 rfl rfl ?_
                  refine j_aload_n C d_M_act_107 rfl rfl ?_
                  refine tgI C hK 10 0 17 d_M_act_108 in_M rfl rfl (by decide) t_393 rfl rfl rfl (by assumption) ?_
                  refine j_iconst (v := 3) C d_M_act_111 (by decide) ?_
                  refine j_iadd C d_M_act_112 ?_
                  refine tpI C hK 10 0 16 ty_M tk_M nm_M d_M_act_113 in_M rfl rfl (by decide) t_392 rfl rfl rfl rfl (((sI τ 10 0 15 ((a - 64))).1 10 0 17 + 3)) rfl rfl (by assumption) ?_
                  refine j_goto C 139 d_M_act_116 rfl ?_
                  refine j_vret C hret hlk d_M_act_139 rfl ?_ rfl rfl
                  unfold mf_act
                  rw [if_neg r16, if_neg r32, if_neg g24, if_neg g25, if_neg g26, if_pos ⟨g27, g30⟩]
            ·
              refine j_aload_n C d_M_act_78 rfl rfl ?_
              refine j_iconst (v := -1) C d_M_act_79 (by decide) ?_
              refine tpI C hK 10 0 14 ty_M tk_M nm_M d_M_act_80 in_M rfl rfl (by decide) t_390 rfl rfl rfl rfl (-1) rfl rfl (by assumption) ?_
              refine j_goto C 139 d_M_act_83 rfl ?_
              refine j_vret C hret hlk d_M_act_139 rfl ?_ rfl rfl
              unfold mf_act
              rw [if_neg r16, if_neg r32, if_neg g24, if_neg g25, if_pos g26]
          ·
            refine j_aload_n C d_M_act_65 rfl rfl ?_
            refine j_callV C hK hAz 10 0 (m_drop h _) (jcV C mi_M_dropWord t_494 t_496 t_28 rfl rfl ⟨by decide, by decide⟩) rfl rfl (by assumption) rfl rfl (Nat.le_of_ble_eq_true rfl) d_M_act_66 ⟨Nat.zero_le _, Nat.zero_le _⟩ ?_
            refine j_goto C 139 d_M_act_69 rfl ?_
            refine j_vret C hret hlk d_M_act_139 rfl ?_ rfl rfl
            unfold mf_act
            rw [if_neg r16, if_neg r32, if_neg g24, if_pos g25]
        ·
          refine j_aload_n C d_M_act_52 rfl rfl ?_
          refine j_callV C hK hAz 10 0 (m_give h _) (jcV C mi_M_giveWay t_490 t_492 t_27 rfl rfl ⟨by decide, by decide⟩) rfl rfl (by assumption) rfl rfl (Nat.le_of_ble_eq_true rfl) d_M_act_53 ⟨Nat.zero_le _, Nat.zero_le _⟩ ?_
          refine j_goto C 139 d_M_act_56 rfl ?_
          refine j_vret C hret hlk d_M_act_139 rfl ?_ rfl rfl
          unfold mf_act
          rw [if_neg r16, if_neg r32, if_pos g24]
      ·
        refine j_iload_n C d_M_act_29 rfl rfl ?_
        refine j_bipush (v := 48) C d_M_act_30 (by decide) ?_
        refine j_icmp_ge C 46 d_M_act_32 rfl (fun g33 => ?_) (fun g33 => ?_)
        ·
          have r32 : ¬ (¬ a < 32 ∧ ¬ 48 ≤ a) := fun z => z.2 g33
          refine j_iload_n C d_M_act_46 rfl rfl ?_
          refine j_bipush (v := 48) C d_M_act_47 (by decide) ?_
          refine j_icmp_ne C 59 d_M_act_49 rfl (fun g34 => ?_) (fun g34 => ?_)
          ·
            refine j_iload_n C d_M_act_59 rfl rfl ?_
            refine j_bipush (v := 49) C d_M_act_60 (by decide) ?_
            refine j_icmp_ne C 72 d_M_act_62 rfl (fun g35 => ?_) (fun g35 => ?_)
            ·
              refine j_iload_n C d_M_act_72 rfl rfl ?_
              refine j_bipush (v := 50) C d_M_act_73 (by decide) ?_
              refine j_icmp_ne C 86 d_M_act_75 rfl (fun g36 => ?_) (fun g36 => ?_)
              ·
                refine j_iload_n C d_M_act_86 rfl rfl ?_
                refine j_bipush (v := 64) C d_M_act_87 (by decide) ?_
                refine j_icmp_lt C 119 d_M_act_89 rfl (fun g37 => ?_) (fun g37 => ?_)
                ·
                  have r64 : ¬ (¬ a < 64 ∧ ¬ 80 ≤ a) := fun z => z.1 g37
                  refine j_iload_n C d_M_act_119 rfl rfl ?_
                  refine j_bipush (v := 80) C d_M_act_120 (by decide) ?_
                  refine j_icmp_lt C 139 d_M_act_122 rfl (fun g38 => ?_) (fun g38 => ?_)
                  ·
                    have r80 : ¬ (¬ a < 80 ∧ ¬ 96 ≤ a) := fun z => z.1 g38
                    refine j_vret C hret hlk d_M_act_139 rfl ?_ rfl rfl
                    unfold mf_act
                    rw [if_neg r16, if_neg r32, if_neg g34, if_neg g35, if_neg g36, if_neg r64, if_neg r80]
                  ·
                    refine j_iload_n C d_M_act_125 rfl rfl ?_
                    refine j_bipush (v := 96) C d_M_act_126 (by decide) ?_
                    refine j_icmp_ge C 139 d_M_act_128 rfl (fun g39 => ?_) (fun g39 => ?_)
                    ·
                      have r80 : ¬ (¬ a < 80 ∧ ¬ 96 ≤ a) := fun z => z.2 g39
                      refine j_vret C hret hlk d_M_act_139 rfl ?_ rfl rfl
                      unfold mf_act
                      rw [if_neg r16, if_neg r32, if_neg g34, if_neg g35, if_neg g36, if_neg r64, if_neg r80]
                    ·
                      refine j_aload_n C d_M_act_131 rfl rfl ?_
                      refine j_iload_n C d_M_act_132 rfl rfl ?_
                      refine j_bipush (v := 80) C d_M_act_133 (by decide) ?_
                      refine j_isub C d_M_act_135 ?_
                      refine tpI C hK 10 0 14 ty_M tk_M nm_M d_M_act_136 in_M rfl rfl (by decide) t_390 rfl rfl rfl rfl ((a - 80)) rfl rfl (by assumption) ?_
                      refine j_vret C hret hlk d_M_act_139 rfl ?_ rfl rfl
                      unfold mf_act
                      rw [if_neg r16, if_neg r32, if_neg g34, if_neg g35, if_neg g36, if_neg r64, if_pos ⟨g38, g39⟩]
                ·
                  refine j_iload_n C d_M_act_92 rfl rfl ?_
                  refine j_bipush (v := 80) C d_M_act_93 (by decide) ?_
                  refine j_icmp_ge C 119 d_M_act_95 rfl (fun g40 => ?_) (fun g40 => ?_)
                  ·
                    have r64 : ¬ (¬ a < 64 ∧ ¬ 80 ≤ a) := fun z => z.2 g40
                    refine j_iload_n C d_M_act_119 rfl rfl ?_
                    refine j_bipush (v := 80) C d_M_act_120 (by decide) ?_
                    refine j_icmp_lt C 139 d_M_act_122 rfl (fun g41 => ?_) (fun g41 => ?_)
                    ·
                      have r80 : ¬ (¬ a < 80 ∧ ¬ 96 ≤ a) := fun z => z.1 g41
                      refine j_vret C hret hlk d_M_act_139 rfl ?_ rfl rfl
                      unfold mf_act
                      rw [if_neg r16, if_neg r32, if_neg g34, if_neg g35, if_neg g36, if_neg r64, if_neg r80]
                    ·
                      refine j_iload_n C d_M_act_125 rfl rfl ?_
                      refine j_bipush (v := 96) C d_M_act_126 (by decide) ?_
                      refine j_icmp_ge C 139 d_M_act_128 rfl (fun g42 => ?_) (fun g42 => ?_)
                      ·
                        have r80 : ¬ (¬ a < 80 ∧ ¬ 96 ≤ a) := fun z => z.2 g42
                        refine j_vret C hret hlk d_M_act_139 rfl ?_ rfl rfl
                        unfold mf_act
                        rw [if_neg r16, if_neg r32, if_neg g34, if_neg g35, if_neg g36, if_neg r64, if_neg r80]
                      ·
                        refine j_aload_n C d_M_act_131 rfl rfl ?_
                        refine j_iload_n C d_M_act_132 rfl rfl ?_
                        refine j_bipush (v := 80) C d_M_act_133 (by decide) ?_
                        refine j_isub C d_M_act_135 ?_
                        refine tpI C hK 10 0 14 ty_M tk_M nm_M d_M_act_136 in_M rfl rfl (by decide) t_390 rfl rfl rfl rfl ((a - 80)) rfl rfl (by assumption) ?_
                        refine j_vret C hret hlk d_M_act_139 rfl ?_ rfl rfl
                        unfold mf_act
                        rw [if_neg r16, if_neg r32, if_neg g34, if_neg g35, if_neg g36, if_neg r64, if_pos ⟨g41, g42⟩]
                  ·
                    refine j_aload_n C d_M_act_98 rfl rfl ?_
                    refine j_iload_n C d_M_act_99 rfl rfl ?_
                    refine j_bipush (v := 64) C d_M_act_100 (by decide) ?_
                    refine j_isub C d_M_act_102 ?_
                    refine tpI C hK 10 0 15 ty_M tk_M nm_M d_M_act_103 in_M rfl rfl (by decide) t_391 rfl rfl rfl rfl ((a - 64)) rfl rfl (by assumption) ?_
                    refine j_aload_n C d_M_act_106 rfl rfl ?_
                    refine j_aload_n C d_M_act_107 rfl rfl ?_
                    refine tgI C hK 10 0 17 d_M_act_108 in_M rfl rfl (by decide) t_393 rfl rfl rfl (by assumption) ?_
                    refine j_iconst (v := 3) C d_M_act_111 (by decide) ?_
                    refine j_iadd C d_M_act_112 ?_
                    refine tpI C hK 10 0 16 ty_M tk_M nm_M d_M_act_113 in_M rfl rfl (by decide) t_392 rfl rfl rfl rfl (((sI τ 10 0 15 ((a - 64))).1 10 0 17 + 3)) rfl rfl (by assumption) ?_
                    refine j_goto C 139 d_M_act_116 rfl ?_
                    refine j_vret C hret hlk d_M_act_139 rfl ?_ rfl rfl
                    unfold mf_act
                    rw [if_neg r16, if_neg r32, if_neg g34, if_neg g35, if_neg g36, if_pos ⟨g37, g40⟩]
              ·
                refine j_aload_n C d_M_act_78 rfl rfl ?_
                refine j_iconst (v := -1) C d_M_act_79 (by decide) ?_
                refine tpI C hK 10 0 14 ty_M tk_M nm_M d_M_act_80 in_M rfl rfl (by decide) t_390 rfl rfl rfl rfl (-1) rfl rfl (by assumption) ?_
                refine j_goto C 139 d_M_act_83 rfl ?_
                refine j_vret C hret hlk d_M_act_139 rfl ?_ rfl rfl
                unfold mf_act
                rw [if_neg r16, if_neg r32, if_neg g34, if_neg g35, if_pos g36]
            ·
              refine j_aload_n C d_M_act_65 rfl rfl ?_
              refine j_callV C hK hAz 10 0 (m_drop h _) (jcV C mi_M_dropWord t_494 t_496 t_28 rfl rfl ⟨by decide, by decide⟩) rfl rfl (by assumption) rfl rfl (Nat.le_of_ble_eq_true rfl) d_M_act_66 ⟨Nat.zero_le _, Nat.zero_le _⟩ ?_
              refine j_goto C 139 d_M_act_69 rfl ?_
              refine j_vret C hret hlk d_M_act_139 rfl ?_ rfl rfl
              unfold mf_act
              rw [if_neg r16, if_neg r32, if_neg g34, if_pos g35]
          ·
            refine j_aload_n C d_M_act_52 rfl rfl ?_
            refine j_callV C hK hAz 10 0 (m_give h _) (jcV C mi_M_giveWay t_490 t_492 t_27 rfl rfl ⟨by decide, by decide⟩) rfl rfl (by assumption) rfl rfl (Nat.le_of_ble_eq_true rfl) d_M_act_53 ⟨Nat.zero_le _, Nat.zero_le _⟩ ?_
            refine j_goto C 139 d_M_act_56 rfl ?_
            refine j_vret C hret hlk d_M_act_139 rfl ?_ rfl rfl
            unfold mf_act
            rw [if_neg r16, if_neg r32, if_pos g34]
        ·
          refine j_aload_n C d_M_act_35 rfl rfl ?_
          refine j_iload_n C d_M_act_36 rfl rfl ?_
          refine j_bipush (v := 32) C d_M_act_37 (by decide) ?_
          refine j_isub C d_M_act_39 ?_
          refine j_callV C hK hAz 10 0 (m_sig (a := a - 32) h (rng_in g23 g33 (by decide) rfl) _) (jcV C mi_M_signal0 t_454 t_456 t_18 rfl rfl ⟨by decide, by decide⟩) rfl rfl (by assumption) rfl rfl (Nat.le_of_ble_eq_true rfl) d_M_act_40 ⟨Nat.zero_le _, Nat.zero_le _⟩ ?_
          refine j_goto C 139 d_M_act_43 rfl ?_
          refine j_vret C hret hlk d_M_act_139 rfl ?_ rfl rfl
          unfold mf_act
          rw [if_neg r16, if_pos ⟨g23, g33⟩]
    ·
      refine j_aload_n C d_M_act_12 rfl rfl ?_
      refine j_iload_n C d_M_act_13 rfl rfl ?_
      refine j_bipush (v := 16) C d_M_act_14 (by decide) ?_
      refine j_isub C d_M_act_16 ?_
      refine j_callV C hK hAz 10 0 (m_wait (a := a - 16) h (rng_in g1 g22 (by decide) rfl) _) (jcV C mi_M_await0 t_482 t_484 t_25 rfl rfl ⟨by decide, by decide⟩) rfl rfl (by assumption) rfl rfl (Nat.le_of_ble_eq_true rfl) d_M_act_17 ⟨Nat.zero_le _, Nat.zero_le _⟩ ?_
      refine j_goto C 139 d_M_act_20 rfl ?_
      refine j_vret C hret hlk d_M_act_139 rfl ?_ rfl rfl
      unfold mf_act
      rw [if_pos ⟨g1, g22⟩]
set_option maxRecDepth 100000 in
set_option maxHeartbeats 4000000 in
theorem m_post {l : Launch} {D : va_G} {E : Nat → ClassId} {ad : Nat → Nat → Nat} {lv : Nat → Nat → Prop} {σ τ : sT} {N : Int} (h : OKm τ lv N) {a : Int32} (hp : vp_in (τ.1 10 0 20) 65) : jM l y_M_post c_M_post 2 (none) 0 D E ad lv (jv ad σ τ) [.ref (ad 10 0), .int (a)] none (jv ad σ (mf_post τ a)) := by
  intro sz
  refine jC.of "InputRoomModel" (by decide +kernel) rfl rfl (Nat.le_of_ble_eq_true rfl) (by intro v hv; simp only [List.mem_cons, List.not_mem_nil, or_false] at hv; rcases hv with rfl | rfl <;> first | rfl | exact jrf_cat _) ?_
  intro p e s m below meth c C hK hret hlk hnm hsz hAz
  have hb10 : lv 10 0 := h.k (by decide) (by decide)
  have hb11 : lv 11 0 := h.k (by decide) (by decide)
  have hb12 : lv 12 0 := h.k (by decide) (by decide)
  have hb13 : lv 13 0 := h.k (by decide) (by decide)
  have hb14 : lv 14 0 := h.k (by decide) (by decide)
  have hb15 : lv 15 0 := h.k (by decide) (by decide)
  have hb16 : lv 16 0 := h.k (by decide) (by decide)
  have hb17 : lv 17 0 := h.k (by decide) (by decide)
  have hb18 : lv 18 0 := h.k (by decide) (by decide)
  have hb19 : lv 19 0 := h.k (by decide) (by decide)
  refine j_aload_n C d_M_post_0 rfl rfl ?_
  refine tgC C hK 10 0 19 d_M_post_1 in_M rfl rfl (by decide) t_395 rfl rfl rfl (by assumption) ?_
  refine j_aload_n C d_M_post_4 rfl rfl ?_
  refine tgI C hK 10 0 20 d_M_post_5 in_M rfl rfl (by decide) t_396 rfl rfl rfl (by assumption) ?_
  refine j_iload_n C d_M_post_8 rfl rfl ?_
  refine tia_st C hK 19 0 d_M_post_9 rfl hp rfl rfl (by assumption) ?_
  refine j_aload_n C d_M_post_10 rfl rfl ?_
  refine j_aload_n C d_M_post_11 rfl rfl ?_
  refine tgI C hK 10 0 20 d_M_post_12 in_M rfl rfl (by decide) t_396 rfl rfl rfl (by assumption) ?_
  refine j_iconst (v := 1) C d_M_post_15 (by decide) ?_
  refine j_iadd C d_M_post_16 ?_
  refine tpI C hK 10 0 20 ty_M tk_M nm_M d_M_post_17 in_M rfl rfl (by decide) t_396 rfl rfl rfl rfl (((sI τ 19 0 (τ.1 10 0 20).toNatClampNeg (a)).1 10 0 20 + 1)) rfl rfl (by assumption) ?_
  refine j_vret C hret hlk d_M_post_20 rfl ?_ rfl rfl
  rfl
end
section
/-- what a signal touches in the reference's store, and nothing else -/
def FrM (τ τ' : sT) : Prop := (∀ k i j, ¬ k = 15 → ¬ k = 17 → ¬ (k = 10 ∧ (j = 9 ∨ j = 10)) → τ'.1 k i j = τ.1 k i j) ∧ (∀ k i j, ¬ k = 16 → ¬ (k = 10 ∧ j = 6) → τ'.2.2 k i j = τ.2.2 k i j)
theorem FrM.rf {τ : sT} : FrM τ τ := ⟨fun _ _ _ _ _ _ => rfl, fun _ _ _ _ _ => rfl⟩
theorem FrM.tr {a b c : sT} (h : FrM a b) (g : FrM b c) : FrM a c := ⟨fun k i j h1 h2 h3 => (g.1 k i j h1 h2 h3).trans (h.1 k i j h1 h2 h3), fun k i j h1 h2 => (g.2 k i j h1 h2).trans (h.2 k i j h1 h2)⟩
theorem FrM.I {τ : sT} {k i j : Nat} {x : Int32} (h : k = 15 ∨ k = 17 ∨ (k = 10 ∧ (j = 9 ∨ j = 10))) : FrM τ (sI τ k i j x) := by
  refine ⟨fun k' i' j' h1 h2 h3 => ?_, fun _ _ _ _ _ => rfl⟩
  simp only [sI]
  rw [if_neg]
  rintro ⟨rfl, rfl, rfl⟩
  rcases h with h | h | h
  · exact h1 h
  · exact h2 h
  · exact h3 h
theorem FrM.L {τ : sT} {k i j : Nat} {x : Int64} (h : k = 16 ∨ (k = 10 ∧ j = 6)) : FrM τ (sL τ k i j x) := by
  refine ⟨fun _ _ _ _ _ _ => rfl, fun k' i' j' h1 h2 => ?_⟩
  simp only [sL]
  rw [if_neg]
  rintro ⟨rfl, rfl, rfl⟩
  rcases h with h | h
  · exact h1 h
  · exact h2 h
theorem frm_come (τ : sT) (p r : Int32) : FrM τ (mf_come τ p r) := ((FrM.I (by omega)).tr (FrM.L (by omega))).tr (FrM.L (by omega))
theorem frm_want (τ : sT) (p : Int32) : FrM τ (mf_want τ p) := (FrM.I (by omega)).tr (FrM.I (by omega))
theorem frm_rouse (τ : sT) (x : Int32) : FrM τ (mf_rouse τ x) := by
  unfold mf_rouse
  split
  · exact frm_want _ _
  split
  · exact (frm_come _ _ _).tr (frm_want _ _)
  · exact frm_come _ _ _
theorem frm_aend (τ : sT) (nx : Int32) : FrM τ (mf_aend τ nx) := by
  unfold mf_aend
  refine FrM.tr ?_ (frm_want _ _)
  split
  · exact FrM.rf
  · exact FrM.I (by omega)
theorem frm_aside (τ : sT) : FrM τ (mf_aside τ) := frm_aend _ _
theorem frm_sig (τ : sT) (s : Int32) : FrM τ (mf_sig τ s) := by
  unfold mf_sig
  split
  · exact (FrM.I (by omega)).tr (frm_rouse _ _)
  · exact FrM.I (by omega)
theorem frm_sl : ∀ (n k : Nat) (τ : sT), FrM τ (mf_sl n k τ)
  | 0, _, _ => FrM.rf
  | n + 1, k, τ => (frm_sig τ _).tr (frm_sl n (k + 1) _)
theorem okm_sl {lv : Nat → Nat → Prop} {N : Int} : ∀ (n k : Nat) {τ : sT}, OKm τ lv N → OKm (mf_sl n k τ) lv N
  | 0, _, _, h => h
  | n + 1, k, _, h => okm_sl n (k + 1) (okm_sig h)
/-- the posts: how many, and that each is a semaphore -/
def Pst (τ : sT) (m : Nat) : Prop := (τ.1 10 0 20).toInt = m ∧ ∀ j, j < m → vp_in (τ.1 19 0 j) 16
theorem post_eq {τ : sT} {s : Int32} {k i j : Nat} (h : ¬ k = 19) (h2 : ¬ (k = 10 ∧ j = 20)) : (mf_post τ s).1 k i j = τ.1 k i j := by
  unfold mf_post
  simp only [sI]
  rw [if_neg (fun q => h2 ⟨q.1, q.2.2⟩), if_neg (fun q => h q.1)]
theorem post_pst {τ : sT} {s : Int32} {m : Nat} (h : Pst τ m) (hm : m < 2 ^ 20) (hs : vp_in s 16) : Pst (mf_post τ s) (m + 1) := by
  obtain ⟨h1, h2⟩ := h
  have e0 : (τ.1 10 0 20).toNatClampNeg = m := by rw [toN, h1]; rfl
  refine ⟨?_, fun j hj => ?_⟩
  · have e1 : (mf_post τ s).1 10 0 20 = τ.1 10 0 20 + 1 := by simp [mf_post, sI]
    rw [e1, i32_inc (by omega)]
    omega
  · have e2 : (mf_post τ s).1 19 0 j = if j = m then s else τ.1 19 0 j := by simp [mf_post, sI, e0]
    rw [e2]
    split
    · exact hs
    · exact h2 j (by omega)
theorem in_of_lt {x : Int32} (h0 : ¬ x < 0) (h1 : x.toInt < 16) : vp_in x 16 := vin2 h0 h1
theorem pl_ok {lv : Nat → Nat → Prop} {N : Int} : ∀ (n : Nat) {τ : sT} {m : Nat}, OKm τ lv N → Pst τ m → m + n ≤ 64 → OKm (mf_pl n τ) lv N ∧ (∃ m', m' ≤ m + n ∧ Pst (mf_pl n τ) m') ∧ (∀ k i j, ¬ k = 19 → ¬ (k = 10 ∧ j = 20) → (mf_pl n τ).1 k i j = τ.1 k i j) ∧ (mf_pl n τ).2 = τ.2
  | 0, τ, m, h, hp, hm => ⟨h, ⟨m, by omega, hp⟩, fun _ _ _ _ _ => rfl, rfl⟩
  | n + 1, τ, m, h, hp, hm => by
    unfold mf_pl
    by_cases q : τ.1 10 0 14 < 0
    · rw [if_pos q]
      obtain ⟨a1, ⟨m', a2, a3⟩, a4, a5⟩ := pl_ok n h hp (by omega)
      exact ⟨a1, ⟨m', by omega, a3⟩, a4, a5⟩
    · rw [if_neg q]
      obtain ⟨a1, ⟨m', a2, a3⟩, a4, a5⟩ := pl_ok n (τ := mf_post τ (τ.1 10 0 14)) (m := m + 1) (okm_post h) (post_pst hp (by omega) (in_of_lt q h.2.2.2.1)) (by omega)
      exact ⟨a1, ⟨m', by omega, a3⟩, fun k i j h1 h2 => (a4 k i j h1 h2).trans (post_eq h1 h2), a5⟩
theorem p2_ok {lv : Nat → Nat → Prop} {N : Int} {τ : sT} (h : OKm τ lv N) : OKm (mf_p2 τ) lv N ∧ (∃ m, m ≤ 64 ∧ Pst (mf_p2 τ) m) ∧ (∀ k i j, ¬ k = 19 → ¬ (k = 10 ∧ (j = 20 ∨ j = 13)) → (mf_p2 τ).1 k i j = τ.1 k i j) ∧ (mf_p2 τ).2 = τ.2 := by
  unfold mf_p2
  have h6 := h.2.2.2.2.2.2.1
  obtain ⟨a1, ⟨m', a2, a3⟩, a4, a5⟩ := pl_ok (τ.1 10 0 13).toNatClampNeg (τ := sI τ 10 0 20 0) (m := 0) (h.o (by omega) (by omega)) ⟨by simp [sI], fun j hj => by omega⟩ (by rw [toN]; omega)
  refine ⟨a1.f13 (by decide), ⟨m', ?_, ?_, fun j hj => ?_⟩, fun k i j h1 h2 => ?_, a5⟩
  · rw [toN] at a2; omega
  · have e : (sI (mf_pl (τ.1 10 0 13).toNatClampNeg (sI τ 10 0 20 0)) 10 0 13 0).1 10 0 20 = (mf_pl (τ.1 10 0 13).toNatClampNeg (sI τ 10 0 20 0)).1 10 0 20 := by simp [sI]
    rw [e]; exact a3.1
  · have e : (sI (mf_pl (τ.1 10 0 13).toNatClampNeg (sI τ 10 0 20 0)) 10 0 13 0).1 19 0 j = (mf_pl (τ.1 10 0 13).toNatClampNeg (sI τ 10 0 20 0)).1 19 0 j := by simp [sI]
    rw [e]; exact a3.2 j hj
  · have e : (sI (mf_pl (τ.1 10 0 13).toNatClampNeg (sI τ 10 0 20 0)) 10 0 13 0).1 k i j = (mf_pl (τ.1 10 0 13).toNatClampNeg (sI τ 10 0 20 0)).1 k i j := by
      generalize mf_pl (τ.1 10 0 13).toNatClampNeg (sI τ 10 0 20 0) = z
      simp only [sI]
      rw [if_neg (fun q => h2 ⟨q.1, Or.inr q.2.2⟩)]
    rw [e, a4 k i j h1 (fun q => h2 ⟨q.1, Or.inl q.2⟩)]
    simp only [sI]
    rw [if_neg (fun q => h2 ⟨q.1, Or.inl q.2.2⟩)]
theorem p3_ok {lv : Nat → Nat → Prop} {N : Int} {τ : sT} {m : Nat} (h : OKm τ lv N) (hp : Pst τ m) (hm : m ≤ 64) : OKm (mf_p3 τ) lv N ∧ ∃ m', m' ≤ 65 ∧ Pst (mf_p3 τ) m' := by
  unfold mf_p3
  split
  · exact ⟨h, m, by omega, hp⟩
  · next q =>
    split
    · exact ⟨h, m, by omega, hp⟩
    · have hq := post_pst hp (by omega) (in_of_lt q h.2.2.2.2.1)
      refine ⟨(okm_post h).f15 (by decide), m + 1, by omega, ?_, fun j hj => ?_⟩
      · have e : (sI (mf_post τ (τ.1 10 0 15)) 10 0 15 (-1)).1 10 0 20 = (mf_post τ (τ.1 10 0 15)).1 10 0 20 := by simp [sI]
        rw [e]; exact hq.1
      · have e : (sI (mf_post τ (τ.1 10 0 15)) 10 0 15 (-1)).1 19 0 j = (mf_post τ (τ.1 10 0 15)).1 19 0 j := by simp [sI]
        rw [e]; exact hq.2 j hj
theorem p5_ok {lv : Nat → Nat → Prop} {N : Int} {τ : sT} (h : OKm τ lv N) : OKm (mf_p5 τ) lv N := by
  unfold mf_p5
  split
  · exact h
  · exact (h.f8 h.2.2.1).o (by omega) (by omega)
theorem p15_ok {lv : Nat → Nat → Prop} {N : Int} {τ : sT} (h : OKm τ lv N) : OKm (mf_p15 τ) lv N := by
  obtain ⟨a1, ⟨m, a2, a3⟩, -⟩ := p2_ok h
  exact p5_ok (okm_sl _ _ (p3_ok a1 a3 a2).1)
theorem p6_ok {lv : Nat → Nat → Prop} {N : Int} {τ : sT} (h : OKm τ lv N) : OKm (mf_p6 τ) lv N := h.o (by omega) (by omega)
theorem okm_behind {lv : Nat → Nat → Prop} {N : Int} {τ : sT} (h : OKm τ lv N) : OKm (mf_behind τ) lv N := by
  unfold mf_behind
  split
  · exact p6_ok (p15_ok h)
  · exact p6_ok (p15_ok (p6_ok (p15_ok h)))
theorem ag_01 (τ : sT) : mf_ag τ = 0 ∨ mf_ag τ = 1 := by
  unfold mf_ag
  split
  · exact Or.inl rfl
  split
  · exact Or.inl rfl
  · exact Or.inr rfl
theorem p45_15 (τ : sT) : (mf_p5 (mf_p4 τ)).1 10 0 15 = τ.1 10 0 15 := by
  have h1 : (mf_p4 τ).1 10 0 15 = τ.1 10 0 15 := (frm_sl _ _ τ).1 10 0 15 (by omega) (by omega) (by omega)
  rw [← h1]
  unfold mf_p5
  split
  · rfl
  · simp [sI]
theorem ag_two {lv : Nat → Nat → Prop} {N : Int} {τ : sT} (h : OKm τ lv N) (h1 : mf_ag (mf_p15 τ) ≠ 0) : mf_ag (mf_p15 (mf_p6 (mf_p15 τ))) = 0 := by
  have h2 : OKm (mf_p6 (mf_p15 τ)) lv N := p6_ok (p15_ok h)
  have c1 : (mf_p6 (mf_p15 τ)).1 10 0 17 = (mf_p6 (mf_p15 τ)).1 10 0 16 := by
    unfold mf_p6
    simp only [sI]
    rw [if_neg h1]
    simp
  generalize mf_p6 (mf_p15 τ) = τ1 at h2 c1 ⊢
  obtain ⟨-, -, a4, -⟩ := p2_ok h2
  have b15 := a4 10 0 15 (by omega) (by omega)
  have b16 := a4 10 0 16 (by omega) (by omega)
  have b17 := a4 10 0 17 (by omega) (by omega)
  have e : (mf_p15 τ1).1 10 0 15 < 0 := by
    unfold mf_p15
    rw [p45_15]
    unfold mf_p3
    split
    · next q => exact q
    · split
      · next q => rw [b16, b17, c1] at q; exact absurd q (by rw [i32_lt]; omega)
      · simp [sI]
  unfold mf_ag
  split
  · rfl
  · first | rfl | rw [if_pos e]
end
section
theorem sub3 {a b c : Option Value} (i : Nat) (v : Value) (h : ([a, b, none] : List (Option Value))[i]? = some (some v)) : ([a, b, c] : List (Option Value))[i]? = some (some v) := by
  match i, h with
  | 0, h => exact h
  | 1, h => exact h
  | 2, h => cases h
  | n + 3, h => cases h
set_option maxRecDepth 100000 in
set_option maxHeartbeats 4000000 in
theorem lp_b2 {l : Launch} {D : va_G} {E : Nat → ClassId} {ad : Nat → Nat → Nat} {lv : Nat → Nat → Prop} {σ : sT} {N : Int} {V1 : jVT} {ag : Int32} {p : Program} {e : Env} {s : State} {m : MethodId} {below : List Frame} {meth : Method} {c : Code} {sz : Nat} (C : CallFix p m c c_M_behind 3 s ([.ref (ad 10 0)] : List Value).toArray jT "InputRoomModel") (hK : jK D jcl jY E s) (hret : meth.sig.returnType = none) (hlk : meth.locks = false) (hAz : ∀ q, s.heap.size ≤ q → jA ad lv sz q) : ∀ (n : Nat) (τ1 : sT) (k : Nat) (i : Int32), OKm τ1 lv N → i = nI k → k + n ≤ 65 → (τ1.1 10 0 20).toInt = k + n → (∀ j, k ≤ j → j < k + n → vp_in (τ1.1 19 0 j) 16) → JM l y_M_behind c_M_behind 3 (none) 3 D E ad lv p e s m below meth c sz [.ref (ad 10 0)] none (V1) (jv ad σ (mf_sl n k τ1)) 104 [some (.ref (ad 10 0)), some (.int (ag)), none] [] → JM l y_M_behind c_M_behind 3 (none) 3 D E ad lv p e s m below meth c sz [.ref (ad 10 0)] none (V1) (jv ad σ τ1) 80 [some (.ref (ad 10 0)), some (.int (ag)), some (.int (i))] [] := by
  intro n
  induction n with
  | zero =>
    intro τ1 k i h1 hi hk hp hv K
    subst hi
    have hge : τ1.1 10 0 20 ≤ nI k := by rw [i32_le, nI_toInt (by omega)]; omega
    have hb10 : lv 10 0 := h1.k (by decide) (by decide)
    refine j_iload_n C d_M_behind_80 rfl rfl ?_
    refine j_aload_n C d_M_behind_81 rfl rfl ?_
    refine tgI C hK 10 0 20 d_M_behind_82 in_M rfl rfl (by decide) t_396 rfl rfl rfl (by assumption) ?_
    refine j_icmp_ge C 104 d_M_behind_85 rfl (fun _ => ?_) (fun g1 => absurd hge g1)
    exact j_sub _ sub3 K
  | succ n ih =>
    intro τ1 k i h1 hi hk hp hv K
    subst hi
    have hge : ¬ τ1.1 10 0 20 ≤ nI k := by rw [i32_le, nI_toInt (by omega)]; omega
    have hb10 : lv 10 0 := h1.k (by decide) (by decide)
    have hb19 : lv 19 0 := h1.k (by decide) (by decide)
    have ecl : (nI k).toNatClampNeg = k := nI_clamp (by omega)
    have hs : vp_in (τ1.1 19 0 (nI k).toNatClampNeg) 16 := by rw [ecl]; exact hv k (Nat.le_refl _) (by omega)
    refine j_iload_n C d_M_behind_80 rfl rfl ?_
    refine j_aload_n C d_M_behind_81 rfl rfl ?_
    refine tgI C hK 10 0 20 d_M_behind_82 in_M rfl rfl (by decide) t_396 rfl rfl rfl (by assumption) ?_
    refine j_icmp_ge C 104 d_M_behind_85 rfl (fun g1 => absurd g1 hge) (fun _ => ?_)
    refine j_aload_n C d_M_behind_88 rfl rfl ?_
    refine j_aload_n C d_M_behind_89 rfl rfl ?_
    refine tgC C hK 10 0 19 d_M_behind_90 in_M rfl rfl (by decide) t_395 rfl rfl rfl (by assumption) ?_
    refine j_iload_n C d_M_behind_93 rfl rfl ?_
    refine tia C hK 19 0 d_M_behind_94 rfl (vp_in_nI (by omega) (by decide)) rfl rfl (by assumption) ?_
    refine j_callV C hK hAz 10 0 (m_sig (a := τ1.1 19 0 (nI k).toNatClampNeg) h1 hs _) (jcV C mi_M_signal0 t_454 t_456 t_18 rfl rfl ⟨by decide, by decide⟩) rfl rfl (by assumption) rfl rfl (Nat.le_of_ble_eq_true rfl) d_M_behind_95 ⟨Nat.zero_le _, Nat.zero_le _⟩ ?_
    refine j_iinc C d_M_behind_98 rfl (by decide) ?_
    refine j_goto C 80 d_M_behind_101 rfl ?_
    have fr := frm_sig τ1 (τ1.1 19 0 (nI k).toNatClampNeg)
    exact ih (mf_sig τ1 (τ1.1 19 0 (nI k).toNatClampNeg)) (k + 1) _ (okm_sig h1) (i32_p1 k) (by omega) (by rw [fr.1 10 0 20 (by omega) (by omega) (by omega)]; omega) (fun j h2 h3 => by rw [fr.1 19 0 j (by omega) (by omega) (by omega)]; exact hv j (by omega) (by omega)) K
set_option maxRecDepth 100000 in
set_option maxHeartbeats 4000000 in
theorem lp_b1 {l : Launch} {D : va_G} {E : Nat → ClassId} {ad : Nat → Nat → Nat} {lv : Nat → Nat → Prop} {σ : sT} {N : Int} {V1 : jVT} {ag : Int32} {p : Program} {e : Env} {s : State} {m : MethodId} {below : List Frame} {meth : Method} {c : Code} {sz : Nat} (C : CallFix p m c c_M_behind 3 s ([.ref (ad 10 0)] : List Value).toArray jT "InputRoomModel") (hK : jK D jcl jY E s) (hret : meth.sig.returnType = none) (hlk : meth.locks = false) (hAz : ∀ q, s.heap.size ≤ q → jA ad lv sz q) : ∀ (n : Nat) (τ1 : sT) (i : Int32) (m0 : Nat), OKm τ1 lv N → i.toInt + n = (τ1.1 10 0 13).toInt → Pst τ1 m0 → m0 ≤ i.toInt → JM l y_M_behind c_M_behind 3 (none) 3 D E ad lv p e s m below meth c sz [.ref (ad 10 0)] none (V1) (jv ad σ (mf_pl n τ1)) 42 [some (.ref (ad 10 0)), some (.int (ag)), none] [] → JM l y_M_behind c_M_behind 3 (none) 3 D E ad lv p e s m below meth c sz [.ref (ad 10 0)] none (V1) (jv ad σ τ1) 13 [some (.ref (ad 10 0)), some (.int (ag)), some (.int (i))] [] := by
  intro n
  induction n with
  | zero =>
    intro τ1 i m0 h1 hi hp hm K
    have hge : τ1.1 10 0 13 ≤ i := by rw [i32_le]; omega
    have hb10 : lv 10 0 := h1.k (by decide) (by decide)
    refine j_iload_n C d_M_behind_13 rfl rfl ?_
    refine j_aload_n C d_M_behind_14 rfl rfl ?_
    refine tgI C hK 10 0 13 d_M_behind_15 in_M rfl rfl (by decide) t_389 rfl rfl rfl (by assumption) ?_
    refine j_icmp_ge C 42 d_M_behind_18 rfl (fun _ => ?_) (fun g1 => absurd hge g1)
    exact j_sub _ sub3 K
  | succ n ih =>
    intro τ1 i m0 h1 hi hp hm K
    have hlt : i.toInt < (τ1.1 10 0 13).toInt := by omega
    have hge : ¬ τ1.1 10 0 13 ≤ i := by rw [i32_le]; omega
    have hb10 : lv 10 0 := h1.k (by decide) (by decide)
    have hN := h1.2.2.2.2.2.2.1
    have hpi : vp_in (τ1.1 10 0 20) 65 := by rw [vp_in_iff, hp.1]; omega
    refine j_iload_n C d_M_behind_13 rfl rfl ?_
    refine j_aload_n C d_M_behind_14 rfl rfl ?_
    refine tgI C hK 10 0 13 d_M_behind_15 in_M rfl rfl (by decide) t_389 rfl rfl rfl (by assumption) ?_
    refine j_icmp_ge C 42 d_M_behind_18 rfl (fun g1 => absurd g1 hge) (fun _ => ?_)
    refine j_aload_n C d_M_behind_21 rfl rfl ?_
    refine tgI C hK 10 0 14 d_M_behind_22 in_M rfl rfl (by decide) t_390 rfl rfl rfl (by assumption) ?_
    refine j_if_lt C 36 d_M_behind_25 rfl (fun g2 => ?_) (fun g2 => ?_)
    ·
      refine j_iinc C d_M_behind_36 rfl (by decide) ?_
      refine j_goto C 13 d_M_behind_39 rfl ?_
      exact ih τ1 _ m0 h1 (by rw [i32_succ hlt]; omega) hp (by rw [i32_succ hlt]; omega) (by have K2 := K; rw [mf_pl, if_pos g2] at K2; exact K2)
    ·
      refine j_aload_n C d_M_behind_28 rfl rfl ?_
      refine j_aload_n C d_M_behind_29 rfl rfl ?_
      refine tgI C hK 10 0 14 d_M_behind_30 in_M rfl rfl (by decide) t_390 rfl rfl rfl (by assumption) ?_
      refine j_callV C hK hAz 10 0 (m_post h1 hpi _) (jcV C mi_M_post t_450 t_452 t_17 rfl rfl ⟨by decide, by decide⟩) rfl rfl (by assumption) rfl rfl (Nat.le_of_ble_eq_true rfl) d_M_behind_33 ⟨Nat.zero_le _, Nat.zero_le _⟩ ?_
      refine j_iinc C d_M_behind_36 rfl (by decide) ?_
      refine j_goto C 13 d_M_behind_39 rfl ?_
      exact ih (mf_post τ1 (τ1.1 10 0 14)) _ (m0 + 1) (okm_post h1) (by rw [i32_succ hlt, post_eq (by omega) (by omega)]; omega) (post_pst hp (by omega) (in_of_lt g2 h1.2.2.2.1)) (by rw [i32_succ hlt]; omega) (by have K2 := K; rw [mf_pl, if_neg g2] at K2; exact K2)
set_option maxRecDepth 100000 in
set_option maxHeartbeats 4000000 in
theorem lp_b78 {l : Launch} {D : va_G} {E : Nat → ClassId} {ad : Nat → Nat → Nat} {lv : Nat → Nat → Prop} {σ : sT} {N : Int} {V1 : jVT} {ag : Int32} {p : Program} {e : Env} {s : State} {m : MethodId} {below : List Frame} {meth : Method} {c : Code} {sz : Nat} (C : CallFix p m c c_M_behind 3 s ([.ref (ad 10 0)] : List Value).toArray jT "InputRoomModel") (hK : jK D jcl jY E s) (hret : meth.sig.returnType = none) (hlk : meth.locks = false) (hAz : ∀ q, s.heap.size ≤ q → jA ad lv sz q) : ∀ (τ1 : sT) (m0 : Nat), OKm τ1 lv N → Pst τ1 m0 → m0 ≤ 65 → JM l y_M_behind c_M_behind 3 (none) 3 D E ad lv p e s m below meth c sz [.ref (ad 10 0)] none (V1) (jv ad σ (mf_p6 (mf_p5 (mf_p4 τ1)))) 2 [some (.ref (ad 10 0)), some (.int (mf_ag (mf_p5 (mf_p4 τ1)))), none] [] → JM l y_M_behind c_M_behind 3 (none) 3 D E ad lv p e s m below meth c sz [.ref (ad 10 0)] none (V1) (jv ad σ τ1) 78 [some (.ref (ad 10 0)), some (.int (ag)), none] [] := by
  intro τ1 m0 h1 hp hm K
  have ok5 : OKm (mf_p5 (mf_p4 τ1)) lv N := p5_ok (okm_sl _ _ h1)
  have hb10 : lv 10 0 := h1.k (by decide) (by decide)
  have hb19 : lv 19 0 := h1.k (by decide) (by decide)
  refine j_iconst (v := 0) C d_M_behind_78 (by decide) ?_
  refine j_istore_n C d_M_behind_79 rfl (by decide) ?_
  have e20 : (τ1.1 10 0 20).toNatClampNeg = m0 := by rw [toN, hp.1]; rfl
  refine lp_b2 C hK hret hlk hAz (τ1.1 10 0 20).toNatClampNeg τ1 0 0 h1 rfl (by omega) (by rw [hp.1, e20]; simp) (fun j _ h3 => hp.2 j (by omega)) ?_
  refine j_V (V' := jv ad σ (mf_p4 τ1)) rfl ?_
  refine j_aload_n C d_M_behind_104 rfl rfl ?_
  refine tgI C hK 10 0 9 d_M_behind_105 in_M rfl rfl (by decide) t_385 rfl rfl rfl (by assumption) ?_
  refine j_if_eq C 124 d_M_behind_108 rfl (fun g1 => ?_) (fun g1 => ?_)
  ·
    refine j_V (V' := jv ad σ (mf_p5 (mf_p4 τ1))) (by rw [mf_p5, if_pos g1]) ?_
    refine j_aload_n C d_M_behind_124 rfl rfl ?_
    refine tgI C hK 10 0 8 d_M_behind_125 in_M rfl rfl (by decide) t_384 rfl rfl rfl (by assumption) ?_
    refine j_if_ge C 142 d_M_behind_128 rfl (fun g2 => ?_) (fun g2 => ?_)
    ·
      refine j_iconst (v := 0) C d_M_behind_142 (by decide) ?_
      refine j_istore_n C d_M_behind_143 rfl (by decide) ?_
      refine j_aload_n C d_M_behind_144 rfl rfl ?_
      refine j_iload_n C d_M_behind_145 rfl rfl ?_
      refine j_if_eq C 156 d_M_behind_146 rfl (fun g3 => ?_) (fun g3 => ?_)
      ·
        refine j_aload_n C d_M_behind_156 rfl rfl ?_
        refine tgI C hK 10 0 17 d_M_behind_157 in_M rfl rfl (by decide) t_393 rfl rfl rfl (by assumption) ?_
        refine tpI C hK 10 0 17 ty_M tk_M nm_M d_M_behind_160 in_M rfl rfl (by decide) t_393 rfl rfl rfl rfl ((mf_p5 (mf_p4 τ1)).1 10 0 17) rfl rfl (by assumption) ?_
        refine j_goto C 2 d_M_behind_163 rfl ?_
        have eag : mf_ag (mf_p5 (mf_p4 τ1)) = 0 := by simp only [mf_ag, g2, if_true, if_false]
        refine j_eq ?_ ?_ rfl K
        · rw [mf_p6, eag]; first | rfl | (rw [if_pos rfl]) | (rw [if_neg (by decide)])
        · rw [eag]; rfl
      ·
        refine j_aload_n C d_M_behind_149 rfl rfl ?_
        refine tgI C hK 10 0 16 d_M_behind_150 in_M rfl rfl (by decide) t_392 rfl rfl rfl (by assumption) ?_
        refine j_goto C 160 d_M_behind_153 rfl ?_
        refine tpI C hK 10 0 17 ty_M tk_M nm_M d_M_behind_160 in_M rfl rfl (by decide) t_393 rfl rfl rfl rfl ((mf_p5 (mf_p4 τ1)).1 10 0 16) rfl rfl (by assumption) ?_
        refine j_goto C 2 d_M_behind_163 rfl ?_
        exact absurd rfl g3
    ·
      refine j_aload_n C d_M_behind_131 rfl rfl ?_
      refine tgI C hK 10 0 15 d_M_behind_132 in_M rfl rfl (by decide) t_391 rfl rfl rfl (by assumption) ?_
      refine j_if_lt C 142 d_M_behind_135 rfl (fun g4 => ?_) (fun g4 => ?_)
      ·
        refine j_iconst (v := 0) C d_M_behind_142 (by decide) ?_
        refine j_istore_n C d_M_behind_143 rfl (by decide) ?_
        refine j_aload_n C d_M_behind_144 rfl rfl ?_
        refine j_iload_n C d_M_behind_145 rfl rfl ?_
        refine j_if_eq C 156 d_M_behind_146 rfl (fun g5 => ?_) (fun g5 => ?_)
        ·
          refine j_aload_n C d_M_behind_156 rfl rfl ?_
          refine tgI C hK 10 0 17 d_M_behind_157 in_M rfl rfl (by decide) t_393 rfl rfl rfl (by assumption) ?_
          refine tpI C hK 10 0 17 ty_M tk_M nm_M d_M_behind_160 in_M rfl rfl (by decide) t_393 rfl rfl rfl rfl ((mf_p5 (mf_p4 τ1)).1 10 0 17) rfl rfl (by assumption) ?_
          refine j_goto C 2 d_M_behind_163 rfl ?_
          have eag : mf_ag (mf_p5 (mf_p4 τ1)) = 0 := by simp only [mf_ag, g2, g4, if_true, if_false]
          refine j_eq ?_ ?_ rfl K
          · rw [mf_p6, eag]; first | rfl | (rw [if_pos rfl]) | (rw [if_neg (by decide)])
          · rw [eag]; rfl
        ·
          refine j_aload_n C d_M_behind_149 rfl rfl ?_
          refine tgI C hK 10 0 16 d_M_behind_150 in_M rfl rfl (by decide) t_392 rfl rfl rfl (by assumption) ?_
          refine j_goto C 160 d_M_behind_153 rfl ?_
          refine tpI C hK 10 0 17 ty_M tk_M nm_M d_M_behind_160 in_M rfl rfl (by decide) t_393 rfl rfl rfl rfl ((mf_p5 (mf_p4 τ1)).1 10 0 16) rfl rfl (by assumption) ?_
          refine j_goto C 2 d_M_behind_163 rfl ?_
          exact absurd rfl g5
      ·
        refine j_iconst (v := 1) C d_M_behind_138 (by decide) ?_
        refine j_goto C 143 d_M_behind_139 rfl ?_
        refine j_istore_n C d_M_behind_143 rfl (by decide) ?_
        refine j_aload_n C d_M_behind_144 rfl rfl ?_
        refine j_iload_n C d_M_behind_145 rfl rfl ?_
        refine j_if_eq C 156 d_M_behind_146 rfl (fun g6 => ?_) (fun g6 => ?_)
        ·
          refine j_aload_n C d_M_behind_156 rfl rfl ?_
          refine tgI C hK 10 0 17 d_M_behind_157 in_M rfl rfl (by decide) t_393 rfl rfl rfl (by assumption) ?_
          refine tpI C hK 10 0 17 ty_M tk_M nm_M d_M_behind_160 in_M rfl rfl (by decide) t_393 rfl rfl rfl rfl ((mf_p5 (mf_p4 τ1)).1 10 0 17) rfl rfl (by assumption) ?_
          refine j_goto C 2 d_M_behind_163 rfl ?_
          exact absurd g6 (by decide)
        ·
          refine j_aload_n C d_M_behind_149 rfl rfl ?_
          refine tgI C hK 10 0 16 d_M_behind_150 in_M rfl rfl (by decide) t_392 rfl rfl rfl (by assumption) ?_
          refine j_goto C 160 d_M_behind_153 rfl ?_
          refine tpI C hK 10 0 17 ty_M tk_M nm_M d_M_behind_160 in_M rfl rfl (by decide) t_393 rfl rfl rfl rfl ((mf_p5 (mf_p4 τ1)).1 10 0 16) rfl rfl (by assumption) ?_
          refine j_goto C 2 d_M_behind_163 rfl ?_
          have eag : mf_ag (mf_p5 (mf_p4 τ1)) = 1 := by simp only [mf_ag, g2, g4, if_true, if_false]
          refine j_eq ?_ ?_ rfl K
          · rw [mf_p6, eag]; first | rfl | (rw [if_pos rfl]) | (rw [if_neg (by decide)])
          · rw [eag]; rfl
  ·
    refine j_aload_n C d_M_behind_111 rfl rfl ?_
    refine j_aload_n C d_M_behind_112 rfl rfl ?_
    refine tgI C hK 10 0 10 d_M_behind_113 in_M rfl rfl (by decide) t_386 rfl rfl rfl (by assumption) ?_
    refine tpI C hK 10 0 8 ty_M tk_M nm_M d_M_behind_116 in_M rfl rfl (by decide) t_384 rfl rfl rfl rfl ((mf_p4 τ1).1 10 0 10) rfl rfl (by assumption) ?_
    refine j_aload_n C d_M_behind_119 rfl rfl ?_
    refine j_iconst (v := 0) C d_M_behind_120 (by decide) ?_
    refine tpI C hK 10 0 9 ty_M tk_M nm_M d_M_behind_121 in_M rfl rfl (by decide) t_385 rfl rfl rfl rfl (0) (by first | rfl | decide) (by first | rfl | decide) (by assumption) ?_
    refine j_V (V' := jv ad σ (mf_p5 (mf_p4 τ1))) (by rw [mf_p5, if_neg g1]) ?_
    refine j_aload_n C d_M_behind_124 rfl rfl ?_
    refine tgI C hK 10 0 8 d_M_behind_125 in_M rfl rfl (by decide) t_384 rfl rfl rfl (by assumption) ?_
    refine j_if_ge C 142 d_M_behind_128 rfl (fun g7 => ?_) (fun g7 => ?_)
    ·
      refine j_iconst (v := 0) C d_M_behind_142 (by decide) ?_
      refine j_istore_n C d_M_behind_143 rfl (by decide) ?_
      refine j_aload_n C d_M_behind_144 rfl rfl ?_
      refine j_iload_n C d_M_behind_145 rfl rfl ?_
      refine j_if_eq C 156 d_M_behind_146 rfl (fun g8 => ?_) (fun g8 => ?_)
      ·
        refine j_aload_n C d_M_behind_156 rfl rfl ?_
        refine tgI C hK 10 0 17 d_M_behind_157 in_M rfl rfl (by decide) t_393 rfl rfl rfl (by assumption) ?_
        refine tpI C hK 10 0 17 ty_M tk_M nm_M d_M_behind_160 in_M rfl rfl (by decide) t_393 rfl rfl rfl rfl ((mf_p5 (mf_p4 τ1)).1 10 0 17) rfl rfl (by assumption) ?_
        refine j_goto C 2 d_M_behind_163 rfl ?_
        have eag : mf_ag (mf_p5 (mf_p4 τ1)) = 0 := by simp only [mf_ag, g7, if_true, if_false]
        refine j_eq ?_ ?_ rfl K
        · rw [mf_p6, eag]; first | rfl | (rw [if_pos rfl]) | (rw [if_neg (by decide)])
        · rw [eag]; rfl
      ·
        refine j_aload_n C d_M_behind_149 rfl rfl ?_
        refine tgI C hK 10 0 16 d_M_behind_150 in_M rfl rfl (by decide) t_392 rfl rfl rfl (by assumption) ?_
        refine j_goto C 160 d_M_behind_153 rfl ?_
        refine tpI C hK 10 0 17 ty_M tk_M nm_M d_M_behind_160 in_M rfl rfl (by decide) t_393 rfl rfl rfl rfl ((mf_p5 (mf_p4 τ1)).1 10 0 16) rfl rfl (by assumption) ?_
        refine j_goto C 2 d_M_behind_163 rfl ?_
        exact absurd rfl g8
    ·
      refine j_aload_n C d_M_behind_131 rfl rfl ?_
      refine tgI C hK 10 0 15 d_M_behind_132 in_M rfl rfl (by decide) t_391 rfl rfl rfl (by assumption) ?_
      refine j_if_lt C 142 d_M_behind_135 rfl (fun g9 => ?_) (fun g9 => ?_)
      ·
        refine j_iconst (v := 0) C d_M_behind_142 (by decide) ?_
        refine j_istore_n C d_M_behind_143 rfl (by decide) ?_
        refine j_aload_n C d_M_behind_144 rfl rfl ?_
        refine j_iload_n C d_M_behind_145 rfl rfl ?_
        refine j_if_eq C 156 d_M_behind_146 rfl (fun g10 => ?_) (fun g10 => ?_)
        ·
          refine j_aload_n C d_M_behind_156 rfl rfl ?_
          refine tgI C hK 10 0 17 d_M_behind_157 in_M rfl rfl (by decide) t_393 rfl rfl rfl (by assumption) ?_
          refine tpI C hK 10 0 17 ty_M tk_M nm_M d_M_behind_160 in_M rfl rfl (by decide) t_393 rfl rfl rfl rfl ((mf_p5 (mf_p4 τ1)).1 10 0 17) rfl rfl (by assumption) ?_
          refine j_goto C 2 d_M_behind_163 rfl ?_
          have eag : mf_ag (mf_p5 (mf_p4 τ1)) = 0 := by simp only [mf_ag, g7, g9, if_true, if_false]
          refine j_eq ?_ ?_ rfl K
          · rw [mf_p6, eag]; first | rfl | (rw [if_pos rfl]) | (rw [if_neg (by decide)])
          · rw [eag]; rfl
        ·
          refine j_aload_n C d_M_behind_149 rfl rfl ?_
          refine tgI C hK 10 0 16 d_M_behind_150 in_M rfl rfl (by decide) t_392 rfl rfl rfl (by assumption) ?_
          refine j_goto C 160 d_M_behind_153 rfl ?_
          refine tpI C hK 10 0 17 ty_M tk_M nm_M d_M_behind_160 in_M rfl rfl (by decide) t_393 rfl rfl rfl rfl ((mf_p5 (mf_p4 τ1)).1 10 0 16) rfl rfl (by assumption) ?_
          refine j_goto C 2 d_M_behind_163 rfl ?_
          exact absurd rfl g10
      ·
        refine j_iconst (v := 1) C d_M_behind_138 (by decide) ?_
        refine j_goto C 143 d_M_behind_139 rfl ?_
        refine j_istore_n C d_M_behind_143 rfl (by decide) ?_
        refine j_aload_n C d_M_behind_144 rfl rfl ?_
        refine j_iload_n C d_M_behind_145 rfl rfl ?_
        refine j_if_eq C 156 d_M_behind_146 rfl (fun g11 => ?_) (fun g11 => ?_)
        ·
          refine j_aload_n C d_M_behind_156 rfl rfl ?_
          refine tgI C hK 10 0 17 d_M_behind_157 in_M rfl rfl (by decide) t_393 rfl rfl rfl (by assumption) ?_
          refine tpI C hK 10 0 17 ty_M tk_M nm_M d_M_behind_160 in_M rfl rfl (by decide) t_393 rfl rfl rfl rfl ((mf_p5 (mf_p4 τ1)).1 10 0 17) rfl rfl (by assumption) ?_
          refine j_goto C 2 d_M_behind_163 rfl ?_
          exact absurd g11 (by decide)
        ·
          refine j_aload_n C d_M_behind_149 rfl rfl ?_
          refine tgI C hK 10 0 16 d_M_behind_150 in_M rfl rfl (by decide) t_392 rfl rfl rfl (by assumption) ?_
          refine j_goto C 160 d_M_behind_153 rfl ?_
          refine tpI C hK 10 0 17 ty_M tk_M nm_M d_M_behind_160 in_M rfl rfl (by decide) t_393 rfl rfl rfl rfl ((mf_p5 (mf_p4 τ1)).1 10 0 16) rfl rfl (by assumption) ?_
          refine j_goto C 2 d_M_behind_163 rfl ?_
          have eag : mf_ag (mf_p5 (mf_p4 τ1)) = 1 := by simp only [mf_ag, g7, g9, if_true, if_false]
          refine j_eq ?_ ?_ rfl K
          · rw [mf_p6, eag]; first | rfl | (rw [if_pos rfl]) | (rw [if_neg (by decide)])
          · rw [eag]; rfl
set_option maxRecDepth 100000 in
set_option maxHeartbeats 4000000 in
theorem lp_bpass {l : Launch} {D : va_G} {E : Nat → ClassId} {ad : Nat → Nat → Nat} {lv : Nat → Nat → Prop} {σ : sT} {N : Int} {V1 : jVT} {p : Program} {e : Env} {s : State} {m : MethodId} {below : List Frame} {meth : Method} {c : Code} {sz : Nat} (C : CallFix p m c c_M_behind 3 s ([.ref (ad 10 0)] : List Value).toArray jT "InputRoomModel") (hK : jK D jcl jY E s) (hret : meth.sig.returnType = none) (hlk : meth.locks = false) (hAz : ∀ q, s.heap.size ≤ q → jA ad lv sz q) : ∀ (τ1 : sT), OKm τ1 lv N → JM l y_M_behind c_M_behind 3 (none) 3 D E ad lv p e s m below meth c sz [.ref (ad 10 0)] none (V1) (jv ad σ (mf_p6 (mf_p15 τ1))) 2 [some (.ref (ad 10 0)), some (.int (mf_ag (mf_p15 τ1))), none] [] → JM l y_M_behind c_M_behind 3 (none) 3 D E ad lv p e s m below meth c sz [.ref (ad 10 0)] none (V1) (jv ad σ τ1) 2 [some (.ref (ad 10 0)), some (.int (1)), none] [] := by
  intro τ1 h1 K
  obtain ⟨a1, ⟨m0, a2, a3⟩, -⟩ := p2_ok h1
  obtain ⟨b1, m1, b2, b3⟩ := p3_ok a1 a3 a2
  have hb10 : lv 10 0 := h1.k (by decide) (by decide)
  have hN := h1.2.2.2.2.2.2.1
  refine j_iload_n C d_M_behind_2 rfl rfl ?_
  refine j_if_eq C 166 d_M_behind_3 rfl (fun g1 => absurd g1 (by decide)) (fun _ => ?_)
  refine j_aload_n C d_M_behind_6 rfl rfl ?_
  refine j_iconst (v := 0) C d_M_behind_7 (by decide) ?_
  refine tpI C hK 10 0 20 ty_M tk_M nm_M d_M_behind_8 in_M rfl rfl (by decide) t_396 rfl rfl rfl rfl (0) rfl rfl (by assumption) ?_
  refine j_iconst (v := 0) C d_M_behind_11 (by decide) ?_
  refine j_istore_n C d_M_behind_12 rfl (by decide) ?_
  refine lp_b1 C hK hret hlk hAz (τ1.1 10 0 13).toNatClampNeg (sI τ1 10 0 20 (0)) 0 0 (h1.o (by omega) (by omega)) (by show _ = (τ1.1 10 0 13).toInt; rw [toN, i32_0]; omega) ⟨by simp [sI], fun j hj => by omega⟩ (by decide) ?_
  refine j_aload_n C d_M_behind_42 rfl rfl ?_
  refine j_iconst (v := 0) C d_M_behind_43 (by decide) ?_
  refine tpI C hK 10 0 13 ty_M tk_M nm_M d_M_behind_44 in_M rfl rfl (by decide) t_389 rfl rfl rfl rfl (0) rfl rfl (by assumption) ?_
  refine j_V (V' := jv ad σ (mf_p2 τ1)) rfl ?_
  refine j_aload_n C d_M_behind_47 rfl rfl ?_
  refine tgI C hK 10 0 15 d_M_behind_48 in_M rfl rfl (by decide) t_391 rfl rfl rfl (by assumption) ?_
  refine j_if_lt C 78 d_M_behind_51 rfl (fun g2 => ?_) (fun g2 => ?_)
  ·
    refine j_V (V' := jv ad σ (mf_p3 (mf_p2 τ1))) (by rw [mf_p3, if_pos g2]) ?_
    exact lp_b78 C hK hret hlk hAz (mf_p3 (mf_p2 τ1)) m1 b1 b3 b2 K
  ·
    refine j_aload_n C d_M_behind_54 rfl rfl ?_
    refine tgI C hK 10 0 17 d_M_behind_55 in_M rfl rfl (by decide) t_393 rfl rfl rfl (by assumption) ?_
    refine j_aload_n C d_M_behind_58 rfl rfl ?_
    refine tgI C hK 10 0 16 d_M_behind_59 in_M rfl rfl (by decide) t_392 rfl rfl rfl (by assumption) ?_
    refine j_icmp_lt C 78 d_M_behind_62 rfl (fun g3 => ?_) (fun g3 => ?_)
    ·
      refine j_V (V' := jv ad σ (mf_p3 (mf_p2 τ1))) (by rw [mf_p3, if_neg g2, if_pos g3]) ?_
      exact lp_b78 C hK hret hlk hAz (mf_p3 (mf_p2 τ1)) m1 b1 b3 b2 K
    ·
      refine j_aload_n C d_M_behind_65 rfl rfl ?_
      refine j_aload_n C d_M_behind_66 rfl rfl ?_
      refine tgI C hK 10 0 15 d_M_behind_67 in_M rfl rfl (by decide) t_391 rfl rfl rfl (by assumption) ?_
      refine j_callV C hK hAz 10 0 (m_post a1 (by rw [vp_in_iff, a3.1]; omega) _) (jcV C mi_M_post t_450 t_452 t_17 rfl rfl ⟨by decide, by decide⟩) rfl rfl (by assumption) rfl rfl (Nat.le_of_ble_eq_true rfl) d_M_behind_70 ⟨Nat.zero_le _, Nat.zero_le _⟩ ?_
      refine j_aload_n C d_M_behind_73 rfl rfl ?_
      refine j_iconst (v := -1) C d_M_behind_74 (by decide) ?_
      refine tpI C hK 10 0 15 ty_M tk_M nm_M d_M_behind_75 in_M rfl rfl (by decide) t_391 rfl rfl rfl rfl (-1) rfl rfl (by assumption) ?_
      refine j_V (V' := jv ad σ (mf_p3 (mf_p2 τ1))) (by rw [mf_p3, if_neg g2, if_neg g3]) ?_
      exact lp_b78 C hK hret hlk hAz (mf_p3 (mf_p2 τ1)) m1 b1 b3 b2 K
set_option maxRecDepth 100000 in
set_option maxHeartbeats 4000000 in
theorem m_behind {l : Launch} {D : va_G} {E : Nat → ClassId} {ad : Nat → Nat → Nat} {lv : Nat → Nat → Prop} {σ τ : sT} {N : Int} (h : OKm τ lv N) : jM l y_M_behind c_M_behind 3 (none) 3 D E ad lv (jv ad σ τ) [.ref (ad 10 0)] none (jv ad σ (mf_behind τ)) := by
  intro sz
  refine jC.of "InputRoomModel" (by decide +kernel) rfl rfl (Nat.le_of_ble_eq_true rfl) (by intro v hv; simp only [List.mem_cons, List.not_mem_nil, or_false] at hv; rcases hv with rfl <;> first | rfl | exact jrf_cat _) ?_
  intro p e s m below meth c C hK hret hlk hnm hsz hAz
  have hb10 : lv 10 0 := h.k (by decide) (by decide)
  have hb11 : lv 11 0 := h.k (by decide) (by decide)
  have hb12 : lv 12 0 := h.k (by decide) (by decide)
  have hb13 : lv 13 0 := h.k (by decide) (by decide)
  have hb14 : lv 14 0 := h.k (by decide) (by decide)
  have hb15 : lv 15 0 := h.k (by decide) (by decide)
  have hb16 : lv 16 0 := h.k (by decide) (by decide)
  have hb17 : lv 17 0 := h.k (by decide) (by decide)
  have hb18 : lv 18 0 := h.k (by decide) (by decide)
  have hb19 : lv 19 0 := h.k (by decide) (by decide)
  refine j_iconst (v := 1) C d_M_behind_0 (by decide) ?_
  refine j_istore_n C d_M_behind_1 rfl (by decide) ?_
  refine lp_bpass C hK hret hlk hAz τ h ?_
  by_cases q : mf_ag (mf_p15 τ) = 0
  · rw [q]
    refine j_iload_n C d_M_behind_2 rfl rfl ?_
    refine j_if_eq C 166 d_M_behind_3 rfl (fun _ => ?_) (fun g1 => absurd rfl g1)
    refine j_vret C hret hlk d_M_behind_166 rfl ?_ rfl rfl
    rw [mf_behind, if_pos q]
  · rw [(ag_01 (mf_p15 τ)).resolve_left q]
    have ok6 : OKm (mf_p6 (mf_p15 τ)) lv N := p6_ok (p15_ok h)
    refine lp_bpass C hK hret hlk hAz (mf_p6 (mf_p15 τ)) ok6 ?_
    rw [ag_two h q]
    refine j_iload_n C d_M_behind_2 rfl rfl ?_
    refine j_if_eq C 166 d_M_behind_3 rfl (fun _ => ?_) (fun g1 => absurd rfl g1)
    refine j_vret C hret hlk d_M_behind_166 rfl ?_ rfl rfl
    rw [mf_behind, if_neg q]
end
section
/-! THE REFERENCE'S FACE, as functions on its store -/
abbrev isM (τ : sT) (a : Int32) : Prop := ¬ a < 0 ∧ ¬ 32 ≤ a ∧ ¬ τ.1 11 0 a.toNatClampNeg = 0
def d_make (τ : sT) (p q : Int32) : Int32 × sT := if p < 0 then (0, τ) else if 32 ≤ p then (0, τ) else if τ.1 11 0 p.toNatClampNeg = 0 then (if q < 1 then (0, τ) else if q ≤ 8 then (1, sI (sI τ 11 0 p.toNatClampNeg 1) 12 0 p.toNatClampNeg q) else (0, τ)) else (0, τ)
def d_plan (τ : sT) (p i a : Int32) : Int32 × sT := if isM τ p then (if i < 0 then (-1, τ) else if 7 < i then (-1, τ) else if a < 0 then (-1, τ) else if a ≤ 127 then (τ.1 13 0 (8 * p + i).toNatClampNeg, sI τ 13 0 (8 * p + i).toNatClampNeg a) else (-1, τ)) else (-1, τ)
def d_wake (τ : sT) (p : Int32) : Int32 × sT := if isM τ p then (if τ.1 15 0 p.toNatClampNeg = 0 then (if p = τ.1 10 0 8 then (0, τ) else if p = mf_pres τ then (0, τ) else (1, mf_rouse τ p)) else (0, τ)) else (0, τ)
def d_suspend (τ : sT) : Int32 × sT := (mf_pres τ, if mf_pres τ < 0 then τ else mf_aside τ)
def d_signal (τ : sT) (s : Int32) : Int32 × sT := if isS s then (1, mf_sig τ s) else (0, τ)
def d_listen (τ : sT) (s : Int32) : Int32 × sT := if s = -1 then (1, sI τ 10 0 14 s) else if isS s then (1, sI τ 10 0 14 s) else (0, τ)
def d_alarm (τ : sT) (s t : Int32) : Int32 × sT := if s = -1 then (1, sI τ 10 0 15 (-1)) else if isS s then (if t < 0 then (0, τ) else if t ≤ 1000000 then (1, sI (sI τ 10 0 15 s) 10 0 16 t) else (0, τ)) else (0, τ)
def d_w1 (τ : sT) (w : Int32) : sT := sI τ 18 0 (τ.1 10 0 12).toNatClampNeg w
def d_w2 (τ : sT) (w : Int32) : sT := sI (d_w1 τ w) 10 0 12 ((d_w1 τ w).1 10 0 12 + 1)
def d_w3 (τ : sT) (w : Int32) : sT := sI (d_w2 τ w) 10 0 13 ((d_w2 τ w).1 10 0 13 + 1)
def d_word (τ : sT) (w : Int32) : Int32 × sT := if w < 0 then (-1, τ) else if 65535 < w then (-1, τ) else if τ.1 10 0 12 = 64 then (-1, τ) else ((d_w3 τ w).1 10 0 12, d_w3 τ w)
def d_run0 (τ : sT) : sT := if 0 ≤ τ.1 10 0 8 then τ else mf_behind τ
def d_run (τ : sT) (n : Int32) : Int32 × sT := if n < 1 then (-1, τ) else if n ≤ 1000 then (0 + nI (mf_loop n.toNatClampNeg (d_run0 τ)).1, (mf_loop n.toNatClampNeg (d_run0 τ)).2) else (-1, τ)
def d_done (τ : sT) (p : Int32) : Int32 := if isM τ p then τ.1 14 0 p.toNatClampNeg else -1
def d_row (τ : sT) (p : Int32) : Int32 := if isM τ p then τ.1 15 0 p.toNatClampNeg else -1
def d_extra (τ : sT) (s : Int32) : Int32 := if isS s then τ.1 17 0 s.toNatClampNeg else -1
def d_wordAt (τ : sT) (i : Int32) : Int32 := if i < 0 then -1 else if τ.1 10 0 12 ≤ i then -1 else τ.1 18 0 i.toNatClampNeg
def d_tick (τ : sT) : Int32 := if τ.1 10 0 15 < 0 then -1 else τ.1 10 0 16
def mf_bt (τ : sT) (r : Int32) (p q : Nat) (b : Int32) : Int32 := if τ.1 11 0 (nI q).toNatClampNeg = 0 then b else if τ.1 15 0 (nI q).toNatClampNeg = r then (if 0 ≤ lg_cmp (τ.2.2 16 0 (nI q).toNatClampNeg) (τ.2.2 16 0 (nI p).toNatClampNeg) then b else b + 1) else b
def mf_bl (τ : sT) (r : Int32) (p : Nat) : Nat → Nat → Int32 → Int32
  | 0, _, b => b
  | n + 1, q, b => mf_bl τ r p n (q + 1) (mf_bt τ r p q b)
def mf_at1 (τ : sT) (r i : Int32) : Nat → Nat → Int32
  | 0, _ => -1
  | n + 1, p => if τ.1 11 0 (nI p).toNatClampNeg = 0 then mf_at1 τ r i n (p + 1) else if τ.1 15 0 (nI p).toNatClampNeg = r then (if mf_bl τ r p 32 0 0 = i then nI p else mf_at1 τ r i n (p + 1)) else mf_at1 τ r i n (p + 1)
abbrev isRw (r : Int32) : Prop := (¬ r < 1 ∧ r ≤ 8) ∨ (¬ r < 16 ∧ ¬ 31 < r)
def d_at (τ : sT) (r i : Int32) : Int32 := if isRw r then (if 0 ≤ i then mf_at1 τ r i 32 0 else -1) else -1
theorem isM_yes {τ : sT} {a : Int32} (h : ¬ (if a < 0 then (0 : Int32) else if 32 ≤ a then 0 else if τ.1 11 0 a.toNatClampNeg = 0 then 0 else 1) = 0) : isM τ a := by
  refine ⟨fun q => h (if_pos q), fun q => h ?_, fun q => h ?_⟩
  · split
    · rfl
    · first | rfl | rw [if_pos q]
  · split
    · rfl
    split
    · rfl
    · first | rfl | rw [if_pos q]
theorem isM_no {τ : sT} {a : Int32} (h : (if a < 0 then (0 : Int32) else if 32 ≤ a then 0 else if τ.1 11 0 a.toNatClampNeg = 0 then 0 else 1) = 0) : ¬ isM τ a := by
  rintro ⟨h1, h2, h3⟩
  rw [if_neg h1, if_neg h2, if_neg h3] at h
  exact absurd h (by decide)
theorem isM_in {τ : sT} {a : Int32} (h : isM τ a) : vp_in a 32 := vin h.1 h.2.1 rfl
theorem i32_8 : (8 : Int32).toInt = 8 := rfl
theorem mul8 {p : Int32} (h0 : 0 ≤ p.toInt) (h1 : p.toInt < 32) : (8 * p).toInt = 8 * p.toInt := by
  rw [Int32.toInt_mul, i32_8]
  apply Int.bmod_eq_of_le <;> omega
theorem idx_in {p d : Int32} (h0 : 0 ≤ p.toInt) (h1 : p.toInt < 32) (h2 : 0 ≤ d.toInt) (h3 : d.toInt < 8) : vp_in (8 * p + d) 256 := by
  rw [vp_in_iff, Int32.toInt_add, mul8 h0 h1]
  have e : (8 * p.toInt + d.toInt).bmod (2 ^ 32) = 8 * p.toInt + d.toInt := by apply Int.bmod_eq_of_le <;> omega
  rw [e]
  omega
theorem rem8 {d : Int32} (h : 0 ≤ d.toInt) : 0 ≤ (d - d / 8 * 8).toInt ∧ (d - d / 8 * 8).toInt < 8 := by
  rw [rem_toInt, i32_8]
  have h1 := Int.tmod_nonneg 8 h
  have h2 := tmod_bounds (a := d.toInt) (M := 8) (by omega)
  omega
theorem okm_done {τ : sT} {lv : Nat → Nat → Prop} {N : Int} (h : OKm τ lv N) (hN : N < 2147483647) {p : Nat} (hp : p < 32) : OKm (sI τ 14 0 p (τ.1 14 0 p + 1)) lv (N + 1) := by
  obtain ⟨h0, h1, h2, h3, h4, h5, h6, h7⟩ := h
  refine ⟨h0, by simpa [sI] using h1, by simpa [sI] using h2, by simpa [sI] using h3, by simpa [sI] using h4, by simpa [sI] using h5, by simpa [sI] using h6, fun q hq => ?_⟩
  have hp7 := h7 p hp
  have hq7 := h7 q hq
  by_cases e : q = p
  · subst e
    have e1 : (sI τ 14 0 q (τ.1 14 0 q + 1)).1 14 0 q = τ.1 14 0 q + 1 := by simp [sI]
    rw [e1, i32_inc (by omega)]
    omega
  · have e1 : (sI τ 14 0 p (τ.1 14 0 p + 1)).1 14 0 q = τ.1 14 0 q := by simp [sI, e]
    rw [e1]
    omega
theorem okm_code {τ : sT} {lv : Nat → Nat → Prop} {N : Int} (h : OKm τ lv N) (hN : N < 2147483647) (ha : ¬ τ.1 10 0 8 < 0) : OKm (mf_code τ) lv (N + 1) := by
  have hl : (τ.1 10 0 8).toNatClampNeg < 32 := by
    rw [i32_lt, i32_0] at ha
    have := h.2.1
    rw [toN]
    omega
  exact ((okm_act (okm_done h hN hl)).L).o (by omega) (by omega)
theorem sub5 {a b c x y : Option Value} (i : Nat) (v : Value) (h : ([a, b, c, none, none] : List (Option Value))[i]? = some (some v)) : ([a, b, c, x, y] : List (Option Value))[i]? = some (some v) := by
  match i, h with
  | 0, h => exact h
  | 1, h => exact h
  | 2, h => exact h
  | 3, h => cases h
  | 4, h => cases h
  | n + 5, h => cases h
set_option maxRecDepth 100000 in
set_option maxHeartbeats 4000000 in
theorem lp_mrun {l : Launch} {D : va_G} {E : Nat → ClassId} {ad : Nat → Nat → Nat} {lv : Nat → Nat → Prop} {σ : sT} {V1 : jVT} {a : Int32} {R0 : Option Value} {p : Program} {e : Env} {s : State} {m : MethodId} {below : List Frame} {meth : Method} {c : Code} {sz : Nat} (C : CallFix p m c c_M_run 5 s ([.ref (ad 10 0), .int (a)] : List Value).toArray jT "InputRoomModel") (hK : jK D jcl jY E s) (hret : meth.sig.returnType = some .int) (hlk : meth.locks = false) (hAz : ∀ q, s.heap.size ≤ q → jA ad lv sz q) : ∀ (n : Nat) (τ1 : sT) (i : Int32) (N : Int), OKm τ1 lv N → N + n < 2147483647 → i.toInt + n = a.toInt → R0 = some (.int (i + nI (mf_loop n τ1).1)) → jv ad σ (mf_loop n τ1).2 = V1 → JM l y_M_run c_M_run 5 (some .int) 4 D E ad lv p e s m below meth c sz [.ref (ad 10 0), .int (a)] R0 (V1) (jv ad σ τ1) 27 [some (.ref (ad 10 0)), some (.int (a)), some (.int (i)), none, none] [] := by
  intro n
  induction n with
  | zero =>
    intro τ1 i N h1 hN hi hR hV
    have hge : a ≤ i := by rw [i32_le]; omega
    refine j_iload_n C d_M_run_27 rfl rfl ?_
    refine j_iload_n C d_M_run_28 rfl rfl ?_
    refine j_icmp_ge C 136 d_M_run_29 rfl (fun _ => ?_) (fun g1 => absurd hge g1)
    refine j_iload_n C d_M_run_136 rfl rfl ?_
    refine j_iret C hret hlk d_M_run_137 ?_ ?_ rfl rfl
    · rw [hR]; rw [show (mf_loop 0 τ1).1 = 0 from rfl, nI_0, Int32.add_zero]
    · exact hV
  | succ n ih =>
    intro τ1 i N h1 hN hi hR hV
    have hlt : i.toInt < a.toInt := by omega
    have hge : ¬ a ≤ i := by rw [i32_le]; omega
    have hb10 : lv 10 0 := h1.k (by decide) (by decide)
    have hb13 : lv 13 0 := h1.k (by decide) (by decide)
    have hb14 : lv 14 0 := h1.k (by decide) (by decide)
    refine j_iload_n C d_M_run_27 rfl rfl ?_
    refine j_iload_n C d_M_run_28 rfl rfl ?_
    refine j_icmp_ge C 136 d_M_run_29 rfl (fun g1 => absurd g1 hge) (fun _ => ?_)
    refine j_aload_n C d_M_run_32 rfl rfl ?_
    refine tgI C hK 10 0 8 d_M_run_33 in_M rfl rfl (by decide) t_384 rfl rfl rfl (by assumption) ?_
    refine j_if_lt C 136 d_M_run_36 rfl (fun g2 => ?_) (fun g2 => ?_)
    ·
      refine j_iload_n C d_M_run_136 rfl rfl ?_
      refine j_iret C hret hlk d_M_run_137 ?_ ?_ rfl rfl
      · rw [hR]; rw [show (mf_loop (n + 1) τ1).1 = 0 by rw [mf_loop, if_pos g2], nI_0, Int32.add_zero]
      · rw [← hV]; rw [mf_loop, if_pos g2]
    ·
      refine j_aload_n C d_M_run_39 rfl rfl ?_
      refine tgI C hK 10 0 8 d_M_run_40 in_M rfl rfl (by decide) t_384 rfl rfl rfl (by assumption) ?_
      refine j_istore_n C d_M_run_43 rfl (by decide) ?_
      have hp : vp_in (τ1.1 10 0 8) 32 := vin2 g2 h1.2.1
      have hp2 := vp_in_iff.mp hp
      have hpl : (τ1.1 10 0 8).toNatClampNeg < 32 := by rw [toN]; omega
      have hd := (h1.2.2.2.2.2.2.2 _ hpl).1
      have hx := rem8 hd
      have hix := idx_in (p := τ1.1 10 0 8) hp2.1 (by omega) hx.1 hx.2
      refine j_aload_n C d_M_run_44 rfl rfl ?_
      refine tgC C hK 10 0 2 d_M_run_45 in_M rfl rfl (by decide) t_378 rfl rfl rfl (by assumption) ?_
      refine j_bipush (v := 8) C d_M_run_48 (by decide) ?_
      refine j_iload_n C d_M_run_50 rfl rfl ?_
      refine j_imul C d_M_run_51 ?_
      refine j_aload_n C d_M_run_52 rfl rfl ?_
      refine tgC C hK 10 0 3 d_M_run_53 in_M rfl rfl (by decide) t_379 rfl rfl rfl (by assumption) ?_
      refine j_iload_n C d_M_run_56 rfl rfl ?_
      refine tia C hK 14 0 d_M_run_57 rfl hp rfl rfl (by assumption) ?_
      refine j_bipush (v := 8) C d_M_run_58 (by decide) ?_
      refine j_irem C d_M_run_60 (by first | assumption | decide) ?_
      refine j_iadd C d_M_run_61 ?_
      refine tia C hK 13 0 d_M_run_62 rfl hix rfl rfl (by assumption) ?_
      refine j_istore C d_M_run_63 (by decide) ?_
      refine j_aload_n C d_M_run_65 rfl rfl ?_
      refine tgC C hK 10 0 3 d_M_run_66 in_M rfl rfl (by decide) t_379 rfl rfl rfl (by assumption) ?_
      refine j_iload_n C d_M_run_69 rfl rfl ?_
      refine j_aload_n C d_M_run_70 rfl rfl ?_
      refine tgC C hK 10 0 3 d_M_run_71 in_M rfl rfl (by decide) t_379 rfl rfl rfl (by assumption) ?_
      refine j_iload_n C d_M_run_74 rfl rfl ?_
      refine tia C hK 14 0 d_M_run_75 rfl hp rfl rfl (by assumption) ?_
      refine j_iconst (v := 1) C d_M_run_76 (by decide) ?_
      refine j_iadd C d_M_run_77 ?_
      refine tia_st C hK 14 0 d_M_run_78 rfl hp rfl rfl (by assumption) ?_
      refine j_aload_n C d_M_run_79 rfl rfl ?_
      refine j_iload C d_M_run_80 rfl ?_
      refine j_callV C hK hAz 10 0 (m_act (a := mf_a τ1) (okm_done h1 (by omega) hpl) _) (jcV C mi_M_act t_478 t_480 t_24 rfl rfl ⟨by decide, by decide⟩) rfl rfl (by assumption) rfl rfl (Nat.le_of_ble_eq_true rfl) d_M_run_82 ⟨Nat.zero_le _, Nat.zero_le _⟩ ?_
      refine j_aload_n C d_M_run_85 rfl rfl ?_
      refine j_aload_n C d_M_run_86 rfl rfl ?_
      refine tgL C hK 10 0 18 d_M_run_87 in_M rfl rfl (by decide) t_394 rfl rfl rfl (by assumption) ?_
      refine j_lconst (v := 1) C d_M_run_90 (by decide) ?_
      refine j_ladd C d_M_run_91 ?_
      refine tpL C hK 10 0 18 ty_M tk_M nm_M d_M_run_92 in_M rfl rfl (by decide) t_394 rfl rfl rfl rfl (((mf_act (sI τ1 14 0 (τ1.1 10 0 8).toNatClampNeg (τ1.1 14 0 (τ1.1 10 0 8).toNatClampNeg + 1)) (mf_a τ1)).2.2 10 0 18 + 1)) rfl rfl (by assumption) ?_
      refine j_aload_n C d_M_run_95 rfl rfl ?_
      refine j_aload_n C d_M_run_96 rfl rfl ?_
      refine tgL C hK 10 0 18 d_M_run_97 in_M rfl rfl (by decide) t_394 rfl rfl rfl (by assumption) ?_
      refine j_ldc2 C d_M_run_100 t_498 ?_
      refine j_lrem C d_M_run_103 (by decide) ?_
      refine j_lconst (v := 0) C d_M_run_104 (by decide) ?_
      refine j_lcmp C d_M_run_105 ?_
      refine j_if_ne C 118 d_M_run_106 rfl (fun g3 => ?_) (fun g3 => ?_)
      ·
        refine j_aload_n C d_M_run_118 rfl rfl ?_
        refine tgI C hK 10 0 17 d_M_run_119 in_M rfl rfl (by decide) t_393 rfl rfl rfl (by assumption) ?_
        refine tpI C hK 10 0 17 ty_M tk_M nm_M d_M_run_122 in_M rfl rfl (by decide) t_393 rfl rfl rfl rfl ((sL (mf_act (sI τ1 14 0 (τ1.1 10 0 8).toNatClampNeg (τ1.1 14 0 (τ1.1 10 0 8).toNatClampNeg + 1)) (mf_a τ1)) 10 0 18 (((mf_act (sI τ1 14 0 (τ1.1 10 0 8).toNatClampNeg (τ1.1 14 0 (τ1.1 10 0 8).toNatClampNeg + 1)) (mf_a τ1)).2.2 10 0 18 + 1))).1 10 0 17) rfl rfl (by assumption) ?_
        refine j_V (V' := jv ad σ (mf_code τ1)) (by unfold mf_code; dsimp only; rw [if_neg (fun z => g3 ((lg_cmp_eq _ _).mpr z))]) ?_
        have ok2 : OKm (mf_code τ1) lv (N + 1) := okm_code h1 (by omega) g2
        refine j_aload_n C d_M_run_125 rfl rfl ?_
        refine j_callV C hK hAz 10 0 (m_behind ok2 _) (jcV C mi_M_behind t_446 t_448 t_16 rfl rfl ⟨by decide, by decide⟩) rfl rfl (by assumption) rfl rfl (Nat.le_of_ble_eq_true rfl) d_M_run_126 ⟨Nat.zero_le _, Nat.zero_le _⟩ ?_
        refine j_iload_n C d_M_run_129 rfl rfl ?_
        refine j_iconst (v := 1) C d_M_run_130 (by decide) ?_
        refine j_iadd C d_M_run_131 ?_
        refine j_istore_n C d_M_run_132 rfl (by decide) ?_
        refine j_goto C 27 d_M_run_133 rfl ?_
        have e1 : mf_loop (n + 1) τ1 = ((mf_loop n (mf_behind (mf_code τ1))).1 + 1, (mf_loop n (mf_behind (mf_code τ1))).2) := by rw [mf_loop, if_neg g2]
        refine j_sub _ sub5 ?_
        have ei : (i + 1).toInt = i.toInt + 1 := i32_succ (x := i) hlt
        refine ih (mf_behind (mf_code τ1)) (i + 1) (N + 1) (okm_behind ok2) (by omega) (by rw [ei]; omega) ?_ ?_
        · rw [hR, e1, nI_succ, Int32.add_assoc, Int32.add_comm (nI _) 1]
        · rw [← hV, e1]
      ·
        refine j_aload_n C d_M_run_109 rfl rfl ?_
        refine tgI C hK 10 0 17 d_M_run_110 in_M rfl rfl (by decide) t_393 rfl rfl rfl (by assumption) ?_
        refine j_iconst (v := 1) C d_M_run_113 (by decide) ?_
        refine j_iadd C d_M_run_114 ?_
        refine j_goto C 122 d_M_run_115 rfl ?_
        refine tpI C hK 10 0 17 ty_M tk_M nm_M d_M_run_122 in_M rfl rfl (by decide) t_393 rfl rfl rfl rfl (((sL (mf_act (sI τ1 14 0 (τ1.1 10 0 8).toNatClampNeg (τ1.1 14 0 (τ1.1 10 0 8).toNatClampNeg + 1)) (mf_a τ1)) 10 0 18 (((mf_act (sI τ1 14 0 (τ1.1 10 0 8).toNatClampNeg (τ1.1 14 0 (τ1.1 10 0 8).toNatClampNeg + 1)) (mf_a τ1)).2.2 10 0 18 + 1))).1 10 0 17 + 1)) rfl rfl (by assumption) ?_
        refine j_V (V' := jv ad σ (mf_code τ1)) (by unfold mf_code; dsimp only; rw [if_pos ((lg_cmp_eq _ _).mp g3)]) ?_
        have ok2 : OKm (mf_code τ1) lv (N + 1) := okm_code h1 (by omega) g2
        refine j_aload_n C d_M_run_125 rfl rfl ?_
        refine j_callV C hK hAz 10 0 (m_behind ok2 _) (jcV C mi_M_behind t_446 t_448 t_16 rfl rfl ⟨by decide, by decide⟩) rfl rfl (by assumption) rfl rfl (Nat.le_of_ble_eq_true rfl) d_M_run_126 ⟨Nat.zero_le _, Nat.zero_le _⟩ ?_
        refine j_iload_n C d_M_run_129 rfl rfl ?_
        refine j_iconst (v := 1) C d_M_run_130 (by decide) ?_
        refine j_iadd C d_M_run_131 ?_
        refine j_istore_n C d_M_run_132 rfl (by decide) ?_
        refine j_goto C 27 d_M_run_133 rfl ?_
        have e1 : mf_loop (n + 1) τ1 = ((mf_loop n (mf_behind (mf_code τ1))).1 + 1, (mf_loop n (mf_behind (mf_code τ1))).2) := by rw [mf_loop, if_neg g2]
        refine j_sub _ sub5 ?_
        have ei : (i + 1).toInt = i.toInt + 1 := i32_succ (x := i) hlt
        refine ih (mf_behind (mf_code τ1)) (i + 1) (N + 1) (okm_behind ok2) (by omega) (by rw [ei]; omega) ?_ ?_
        · rw [hR, e1, nI_succ, Int32.add_assoc, Int32.add_comm (nI _) 1]
        · rw [← hV, e1]
set_option maxRecDepth 100000 in
set_option maxHeartbeats 4000000 in
theorem m_run {l : Launch} {D : va_G} {E : Nat → ClassId} {ad : Nat → Nat → Nat} {lv : Nat → Nat → Prop} {σ τ : sT} {N : Int} (h : OKm τ lv N) (hN : N + 1000 < 2147483647) {a : Int32} : jM l y_M_run c_M_run 5 (some .int) 4 D E ad lv (jv ad σ τ) [.ref (ad 10 0), .int (a)] (some (.int (d_run τ a).1)) (jv ad σ (d_run τ a).2) := by
  intro sz
  refine jC.of "InputRoomModel" (by decide +kernel) rfl rfl (Nat.le_of_ble_eq_true rfl) (by intro v hv; simp only [List.mem_cons, List.not_mem_nil, or_false] at hv; rcases hv with rfl | rfl <;> first | rfl | exact jrf_cat _) ?_
  intro p e s m below meth c C hK hret hlk hnm hsz hAz
  have hb10 : lv 10 0 := h.k (by decide) (by decide)
  have hb11 : lv 11 0 := h.k (by decide) (by decide)
  have hb12 : lv 12 0 := h.k (by decide) (by decide)
  have hb13 : lv 13 0 := h.k (by decide) (by decide)
  have hb14 : lv 14 0 := h.k (by decide) (by decide)
  have hb15 : lv 15 0 := h.k (by decide) (by decide)
  have hb16 : lv 16 0 := h.k (by decide) (by decide)
  have hb17 : lv 17 0 := h.k (by decide) (by decide)
  have hb18 : lv 18 0 := h.k (by decide) (by decide)
  have hb19 : lv 19 0 := h.k (by decide) (by decide)
  refine j_iload_n C d_M_run_0 rfl rfl ?_
  refine j_iconst (v := 1) C d_M_run_1 (by decide) ?_
  refine j_icmp_lt C 12 d_M_run_2 rfl (fun g1 => ?_) (fun g1 => ?_)
  ·
    refine j_iconst (v := -1) C d_M_run_12 (by decide) ?_
    refine j_iret C hret hlk d_M_run_13 ?_ ?_ rfl rfl
    · rw [d_run, if_pos g1]
    · rw [d_run, if_pos g1]
  ·
    refine j_iload_n C d_M_run_5 rfl rfl ?_
    refine j_sipush (v := 1000) C d_M_run_6 (by decide) ?_
    refine j_icmp_le C 14 d_M_run_9 rfl (fun g2 => ?_) (fun g2 => ?_)
    ·
      refine j_aload_n C d_M_run_14 rfl rfl ?_
      refine tgI C hK 10 0 8 d_M_run_15 in_M rfl rfl (by decide) t_384 rfl rfl rfl (by assumption) ?_
      refine j_if_ge C 25 d_M_run_18 rfl (fun g3 => ?_) (fun g3 => ?_)
      ·
        refine j_iconst (v := 0) C d_M_run_25 (by decide) ?_
        refine j_istore_n C d_M_run_26 rfl (by decide) ?_
        have e0 : d_run0 τ = τ := by simp only [d_run0, g3, if_true, if_false]
        have e1 : d_run τ a = (0 + nI (mf_loop a.toNatClampNeg τ).1, (mf_loop a.toNatClampNeg τ).2) := by rw [d_run, if_neg g1, if_pos g2, e0]
        have q1 : 1 ≤ a.toInt := by rw [i32_lt, show (1 : Int32).toInt = 1 from rfl] at g1; omega
        have q2 : a.toInt ≤ 1000 := by rw [i32_le, show (1000 : Int32).toInt = 1000 from rfl] at g2; omega
        refine lp_mrun C hK hret hlk hAz a.toNatClampNeg τ 0 N h (by rw [toN]; omega) (by rw [toN, i32_0]; omega) (by rw [e1]) (by rw [e1])
      ·
        refine j_aload_n C d_M_run_21 rfl rfl ?_
        refine j_callV C hK hAz 10 0 (m_behind h _) (jcV C mi_M_behind t_446 t_448 t_16 rfl rfl ⟨by decide, by decide⟩) rfl rfl (by assumption) rfl rfl (Nat.le_of_ble_eq_true rfl) d_M_run_22 ⟨Nat.zero_le _, Nat.zero_le _⟩ ?_
        refine j_iconst (v := 0) C d_M_run_25 (by decide) ?_
        refine j_istore_n C d_M_run_26 rfl (by decide) ?_
        have e0 : d_run0 τ = (mf_behind τ) := by simp only [d_run0, g3, if_true, if_false]
        have e1 : d_run τ a = (0 + nI (mf_loop a.toNatClampNeg (mf_behind τ)).1, (mf_loop a.toNatClampNeg (mf_behind τ)).2) := by rw [d_run, if_neg g1, if_pos g2, e0]
        have q1 : 1 ≤ a.toInt := by rw [i32_lt, show (1 : Int32).toInt = 1 from rfl] at g1; omega
        have q2 : a.toInt ≤ 1000 := by rw [i32_le, show (1000 : Int32).toInt = 1000 from rfl] at g2; omega
        refine lp_mrun C hK hret hlk hAz a.toNatClampNeg (mf_behind τ) 0 N (okm_behind h) (by rw [toN]; omega) (by rw [toN, i32_0]; omega) (by rw [e1]) (by rw [e1])
    ·
      refine j_iconst (v := -1) C d_M_run_12 (by decide) ?_
      refine j_iret C hret hlk d_M_run_13 ?_ ?_ rfl rfl
      · rw [d_run, if_neg g1, if_neg g2]
      · rw [d_run, if_neg g1, if_neg g2]
set_option maxRecDepth 100000 in
set_option maxHeartbeats 4000000 in
theorem m_make {l : Launch} {D : va_G} {E : Nat → ClassId} {ad : Nat → Nat → Nat} {lv : Nat → Nat → Prop} {σ τ : sT} {N : Int} (h : OKm τ lv N) {a t : Int32} : jM l y_M_make c_M_make 3 (some .boolean) 0 D E ad lv (jv ad σ τ) [.ref (ad 10 0), .int (a), .int (t)] (some (.int (d_make τ a t).1)) (jv ad σ (d_make τ a t).2) := by
  intro sz
  refine jC.of "InputRoomModel" (by decide +kernel) rfl rfl (Nat.le_of_ble_eq_true rfl) (by intro v hv; simp only [List.mem_cons, List.not_mem_nil, or_false] at hv; rcases hv with rfl | rfl | rfl <;> first | rfl | exact jrf_cat _) ?_
  intro p e s m below meth c C hK hret hlk hnm hsz hAz
  have hb10 : lv 10 0 := h.k (by decide) (by decide)
  have hb11 : lv 11 0 := h.k (by decide) (by decide)
  have hb12 : lv 12 0 := h.k (by decide) (by decide)
  have hb13 : lv 13 0 := h.k (by decide) (by decide)
  have hb14 : lv 14 0 := h.k (by decide) (by decide)
  have hb15 : lv 15 0 := h.k (by decide) (by decide)
  have hb16 : lv 16 0 := h.k (by decide) (by decide)
  have hb17 : lv 17 0 := h.k (by decide) (by decide)
  have hb18 : lv 18 0 := h.k (by decide) (by decide)
  have hb19 : lv 19 0 := h.k (by decide) (by decide)
  refine j_iload_n C d_M_make_0 rfl rfl ?_
  refine j_if_lt C 30 d_M_make_1 rfl (fun g1 => ?_) (fun g1 => ?_)
  ·
    refine j_iconst (v := 0) C d_M_make_30 (by decide) ?_
    refine j_zret C hret hlk (by first | rfl | decide) d_M_make_31 ?_ ?_ rfl rfl
    · rw [d_make, if_pos g1]
    · rw [d_make, if_pos g1]
  ·
    refine j_iload_n C d_M_make_4 rfl rfl ?_
    refine j_bipush (v := 32) C d_M_make_5 (by decide) ?_
    refine j_icmp_ge C 30 d_M_make_7 rfl (fun g2 => ?_) (fun g2 => ?_)
    ·
      refine j_iconst (v := 0) C d_M_make_30 (by decide) ?_
      refine j_zret C hret hlk (by first | rfl | decide) d_M_make_31 ?_ ?_ rfl rfl
      · rw [d_make, if_neg g1, if_pos g2]
      · rw [d_make, if_neg g1, if_pos g2]
    ·
      refine j_aload_n C d_M_make_10 rfl rfl ?_
      refine tgC C hK 10 0 0 d_M_make_11 in_M rfl rfl (by decide) t_376 rfl rfl rfl (by assumption) ?_
      refine j_iload_n C d_M_make_14 rfl rfl ?_
      refine tza C hK 11 0 d_M_make_15 rfl (vin g1 g2 rfl) rfl rfl (by assumption) ?_
      refine j_if_ne C 30 d_M_make_16 rfl (fun g3 => ?_) (fun g3 => ?_)
      ·
        refine j_iconst (v := 0) C d_M_make_30 (by decide) ?_
        refine j_zret C hret hlk (by first | rfl | decide) d_M_make_31 ?_ ?_ rfl rfl
        · rw [d_make, if_neg g1, if_neg g2, if_neg g3]
        · rw [d_make, if_neg g1, if_neg g2, if_neg g3]
      ·
        refine j_iload_n C d_M_make_19 rfl rfl ?_
        refine j_iconst (v := 1) C d_M_make_20 (by decide) ?_
        refine j_icmp_lt C 30 d_M_make_21 rfl (fun g4 => ?_) (fun g4 => ?_)
        ·
          refine j_iconst (v := 0) C d_M_make_30 (by decide) ?_
          refine j_zret C hret hlk (by first | rfl | decide) d_M_make_31 ?_ ?_ rfl rfl
          · rw [d_make, if_neg g1, if_neg g2, if_pos g3, if_pos g4]
          · rw [d_make, if_neg g1, if_neg g2, if_pos g3, if_pos g4]
        ·
          refine j_iload_n C d_M_make_24 rfl rfl ?_
          refine j_bipush (v := 8) C d_M_make_25 (by decide) ?_
          refine j_icmp_le C 32 d_M_make_27 rfl (fun g5 => ?_) (fun g5 => ?_)
          ·
            refine j_aload_n C d_M_make_32 rfl rfl ?_
            refine tgC C hK 10 0 0 d_M_make_33 in_M rfl rfl (by decide) t_376 rfl rfl rfl (by assumption) ?_
            refine j_iload_n C d_M_make_36 rfl rfl ?_
            refine j_iconst (v := 1) C d_M_make_37 (by decide) ?_
            refine tza_st C hK 11 0 d_M_make_38 rfl (by first | rfl | decide) (vin g1 g2 rfl) rfl rfl (by assumption) ?_
            refine j_aload_n C d_M_make_39 rfl rfl ?_
            refine tgC C hK 10 0 1 d_M_make_40 in_M rfl rfl (by decide) t_377 rfl rfl rfl (by assumption) ?_
            refine j_iload_n C d_M_make_43 rfl rfl ?_
            refine j_iload_n C d_M_make_44 rfl rfl ?_
            refine tia_st C hK 12 0 d_M_make_45 rfl (vin g1 g2 rfl) rfl rfl (by assumption) ?_
            refine j_iconst (v := 1) C d_M_make_46 (by decide) ?_
            refine j_zret C hret hlk (by first | rfl | decide) d_M_make_47 ?_ ?_ rfl rfl
            · rw [d_make, if_neg g1, if_neg g2, if_pos g3, if_neg g4, if_pos g5]
            · rw [d_make, if_neg g1, if_neg g2, if_pos g3, if_neg g4, if_pos g5]
          ·
            refine j_iconst (v := 0) C d_M_make_30 (by decide) ?_
            refine j_zret C hret hlk (by first | rfl | decide) d_M_make_31 ?_ ?_ rfl rfl
            · rw [d_make, if_neg g1, if_neg g2, if_pos g3, if_neg g4, if_neg g5]
            · rw [d_make, if_neg g1, if_neg g2, if_pos g3, if_neg g4, if_neg g5]
set_option maxRecDepth 100000 in
set_option maxHeartbeats 4000000 in
theorem m_plan {l : Launch} {D : va_G} {E : Nat → ClassId} {ad : Nat → Nat → Nat} {lv : Nat → Nat → Prop} {σ τ : sT} {N : Int} (h : OKm τ lv N) {a i t : Int32} : jM l y_M_plan c_M_plan 5 (some .int) 1 D E ad lv (jv ad σ τ) [.ref (ad 10 0), .int (a), .int (i), .int (t)] (some (.int (d_plan τ a i t).1)) (jv ad σ (d_plan τ a i t).2) := by
  intro sz
  refine jC.of "InputRoomModel" (by decide +kernel) rfl rfl (Nat.le_of_ble_eq_true rfl) (by intro v hv; simp only [List.mem_cons, List.not_mem_nil, or_false] at hv; rcases hv with rfl | rfl | rfl | rfl <;> first | rfl | exact jrf_cat _) ?_
  intro p e s m below meth c C hK hret hlk hnm hsz hAz
  have hb10 : lv 10 0 := h.k (by decide) (by decide)
  have hb11 : lv 11 0 := h.k (by decide) (by decide)
  have hb12 : lv 12 0 := h.k (by decide) (by decide)
  have hb13 : lv 13 0 := h.k (by decide) (by decide)
  have hb14 : lv 14 0 := h.k (by decide) (by decide)
  have hb15 : lv 15 0 := h.k (by decide) (by decide)
  have hb16 : lv 16 0 := h.k (by decide) (by decide)
  have hb17 : lv 17 0 := h.k (by decide) (by decide)
  have hb18 : lv 18 0 := h.k (by decide) (by decide)
  have hb19 : lv 19 0 := h.k (by decide) (by decide)
  refine j_aload_n C d_M_plan_0 rfl rfl ?_
  refine j_iload_n C d_M_plan_1 rfl rfl ?_
  refine j_callV C hK hAz 10 0 (m_isMade (a := a) h _) (jcV C mi_M_isMade t_507 t_509 t_29 rfl rfl ⟨by decide, by decide⟩) rfl rfl (by assumption) rfl rfl (Nat.le_of_ble_eq_true rfl) d_M_plan_2 ⟨Nat.zero_le _, Nat.zero_le _⟩ ?_
  refine j_if_eq C 28 d_M_plan_5 rfl (fun g1 => ?_) (fun g1 => ?_)
  ·
    have n0 : ¬ isM τ a := isM_no g1
    refine j_iconst (v := -1) C d_M_plan_28 (by decide) ?_
    refine j_iret C hret hlk d_M_plan_29 ?_ ?_ rfl rfl
    · rw [d_plan, if_neg n0]
    · rw [d_plan, if_neg n0]
  ·
    have q0 : isM τ a := isM_yes g1
    refine j_iload_n C d_M_plan_8 rfl rfl ?_
    refine j_if_lt C 28 d_M_plan_9 rfl (fun g2 => ?_) (fun g2 => ?_)
    ·
      refine j_iconst (v := -1) C d_M_plan_28 (by decide) ?_
      refine j_iret C hret hlk d_M_plan_29 ?_ ?_ rfl rfl
      · rw [d_plan, if_pos q0, if_pos g2]
      · rw [d_plan, if_pos q0, if_pos g2]
    ·
      refine j_iload_n C d_M_plan_12 rfl rfl ?_
      refine j_bipush (v := 7) C d_M_plan_13 (by decide) ?_
      refine j_icmp_gt C 28 d_M_plan_15 rfl (fun g3 => ?_) (fun g3 => ?_)
      ·
        refine j_iconst (v := -1) C d_M_plan_28 (by decide) ?_
        refine j_iret C hret hlk d_M_plan_29 ?_ ?_ rfl rfl
        · rw [d_plan, if_pos q0, if_neg g2, if_pos g3]
        · rw [d_plan, if_pos q0, if_neg g2, if_pos g3]
      ·
        refine j_iload_n C d_M_plan_18 rfl rfl ?_
        refine j_if_lt C 28 d_M_plan_19 rfl (fun g4 => ?_) (fun g4 => ?_)
        ·
          refine j_iconst (v := -1) C d_M_plan_28 (by decide) ?_
          refine j_iret C hret hlk d_M_plan_29 ?_ ?_ rfl rfl
          · rw [d_plan, if_pos q0, if_neg g2, if_neg g3, if_pos g4]
          · rw [d_plan, if_pos q0, if_neg g2, if_neg g3, if_pos g4]
        ·
          refine j_iload_n C d_M_plan_22 rfl rfl ?_
          refine j_bipush (v := 127) C d_M_plan_23 (by decide) ?_
          refine j_icmp_le C 30 d_M_plan_25 rfl (fun g5 => ?_) (fun g5 => ?_)
          ·
            refine j_aload_n C d_M_plan_30 rfl rfl ?_
            refine tgC C hK 10 0 2 d_M_plan_31 in_M rfl rfl (by decide) t_378 rfl rfl rfl (by assumption) ?_
            refine j_bipush (v := 8) C d_M_plan_34 (by decide) ?_
            refine j_iload_n C d_M_plan_36 rfl rfl ?_
            refine j_imul C d_M_plan_37 ?_
            refine j_iload_n C d_M_plan_38 rfl rfl ?_
            refine j_iadd C d_M_plan_39 ?_
            refine tia C hK 13 0 d_M_plan_40 rfl (idx_in (vp_in_iff.mp (isM_in q0)).1 (vp_in_iff.mp (isM_in q0)).2 (by simp only [i32_lt, i32_0] at *; omega) (by have e7 : (7 : Int32).toInt = 7 := rfl; simp only [i32_lt, e7] at *; omega)) rfl rfl (by assumption) ?_
            refine j_istore C d_M_plan_41 (by decide) ?_
            refine j_aload_n C d_M_plan_43 rfl rfl ?_
            refine tgC C hK 10 0 2 d_M_plan_44 in_M rfl rfl (by decide) t_378 rfl rfl rfl (by assumption) ?_
            refine j_bipush (v := 8) C d_M_plan_47 (by decide) ?_
            refine j_iload_n C d_M_plan_49 rfl rfl ?_
            refine j_imul C d_M_plan_50 ?_
            refine j_iload_n C d_M_plan_51 rfl rfl ?_
            refine j_iadd C d_M_plan_52 ?_
            refine j_iload_n C d_M_plan_53 rfl rfl ?_
            refine tia_st C hK 13 0 d_M_plan_54 rfl (idx_in (vp_in_iff.mp (isM_in q0)).1 (vp_in_iff.mp (isM_in q0)).2 (by simp only [i32_lt, i32_0] at *; omega) (by have e7 : (7 : Int32).toInt = 7 := rfl; simp only [i32_lt, e7] at *; omega)) rfl rfl (by assumption) ?_
            refine j_iload C d_M_plan_55 rfl ?_
            refine j_iret C hret hlk d_M_plan_57 ?_ ?_ rfl rfl
            · rw [d_plan, if_pos q0, if_neg g2, if_neg g3, if_neg g4, if_pos g5]
            · rw [d_plan, if_pos q0, if_neg g2, if_neg g3, if_neg g4, if_pos g5]
          ·
            refine j_iconst (v := -1) C d_M_plan_28 (by decide) ?_
            refine j_iret C hret hlk d_M_plan_29 ?_ ?_ rfl rfl
            · rw [d_plan, if_pos q0, if_neg g2, if_neg g3, if_neg g4, if_neg g5]
            · rw [d_plan, if_pos q0, if_neg g2, if_neg g3, if_neg g4, if_neg g5]
set_option maxRecDepth 100000 in
set_option maxHeartbeats 4000000 in
theorem m_wake {l : Launch} {D : va_G} {E : Nat → ClassId} {ad : Nat → Nat → Nat} {lv : Nat → Nat → Prop} {σ τ : sT} {N : Int} (h : OKm τ lv N) {a : Int32} : jM l y_M_wake c_M_wake 2 (some .boolean) 2 D E ad lv (jv ad σ τ) [.ref (ad 10 0), .int (a)] (some (.int (d_wake τ a).1)) (jv ad σ (d_wake τ a).2) := by
  intro sz
  refine jC.of "InputRoomModel" (by decide +kernel) rfl rfl (Nat.le_of_ble_eq_true rfl) (by intro v hv; simp only [List.mem_cons, List.not_mem_nil, or_false] at hv; rcases hv with rfl | rfl <;> first | rfl | exact jrf_cat _) ?_
  intro p e s m below meth c C hK hret hlk hnm hsz hAz
  have hb10 : lv 10 0 := h.k (by decide) (by decide)
  have hb11 : lv 11 0 := h.k (by decide) (by decide)
  have hb12 : lv 12 0 := h.k (by decide) (by decide)
  have hb13 : lv 13 0 := h.k (by decide) (by decide)
  have hb14 : lv 14 0 := h.k (by decide) (by decide)
  have hb15 : lv 15 0 := h.k (by decide) (by decide)
  have hb16 : lv 16 0 := h.k (by decide) (by decide)
  have hb17 : lv 17 0 := h.k (by decide) (by decide)
  have hb18 : lv 18 0 := h.k (by decide) (by decide)
  have hb19 : lv 19 0 := h.k (by decide) (by decide)
  refine j_aload_n C d_M_wake_0 rfl rfl ?_
  refine j_iload_n C d_M_wake_1 rfl rfl ?_
  refine j_callV C hK hAz 10 0 (m_isMade (a := a) h _) (jcV C mi_M_isMade t_507 t_509 t_29 rfl rfl ⟨by decide, by decide⟩) rfl rfl (by assumption) rfl rfl (Nat.le_of_ble_eq_true rfl) d_M_wake_2 ⟨Nat.zero_le _, Nat.zero_le _⟩ ?_
  refine j_if_eq C 33 d_M_wake_5 rfl (fun g1 => ?_) (fun g1 => ?_)
  ·
    have n0 : ¬ isM τ a := isM_no g1
    refine j_iconst (v := 0) C d_M_wake_33 (by decide) ?_
    refine j_zret C hret hlk (by first | rfl | decide) d_M_wake_34 ?_ ?_ rfl rfl
    · rw [d_wake, if_neg n0]
    · rw [d_wake, if_neg n0]
  ·
    have q0 : isM τ a := isM_yes g1
    refine j_aload_n C d_M_wake_8 rfl rfl ?_
    refine tgC C hK 10 0 4 d_M_wake_9 in_M rfl rfl (by decide) t_380 rfl rfl rfl (by assumption) ?_
    refine j_iload_n C d_M_wake_12 rfl rfl ?_
    refine tia C hK 15 0 d_M_wake_13 rfl (isM_in q0) rfl rfl (by assumption) ?_
    refine j_if_ne C 33 d_M_wake_14 rfl (fun g2 => ?_) (fun g2 => ?_)
    ·
      refine j_iconst (v := 0) C d_M_wake_33 (by decide) ?_
      refine j_zret C hret hlk (by first | rfl | decide) d_M_wake_34 ?_ ?_ rfl rfl
      · rw [d_wake, if_pos q0, if_neg g2]
      · rw [d_wake, if_pos q0, if_neg g2]
    ·
      refine j_iload_n C d_M_wake_17 rfl rfl ?_
      refine j_aload_n C d_M_wake_18 rfl rfl ?_
      refine tgI C hK 10 0 8 d_M_wake_19 in_M rfl rfl (by decide) t_384 rfl rfl rfl (by assumption) ?_
      refine j_icmp_eq C 33 d_M_wake_22 rfl (fun g3 => ?_) (fun g3 => ?_)
      ·
        refine j_iconst (v := 0) C d_M_wake_33 (by decide) ?_
        refine j_zret C hret hlk (by first | rfl | decide) d_M_wake_34 ?_ ?_ rfl rfl
        · rw [d_wake, if_pos q0, if_pos g2, if_pos g3]
        · rw [d_wake, if_pos q0, if_pos g2, if_pos g3]
      ·
        refine j_iload_n C d_M_wake_25 rfl rfl ?_
        refine j_aload_n C d_M_wake_26 rfl rfl ?_
        refine j_callV C hK hAz 10 0 (m_pres h _) (jcV C mi_M_present0 t_466 t_468 t_21 rfl rfl ⟨by decide, by decide⟩) rfl rfl (by assumption) rfl rfl (Nat.le_of_ble_eq_true rfl) d_M_wake_27 ⟨Nat.zero_le _, Nat.zero_le _⟩ ?_
        refine j_icmp_ne C 35 d_M_wake_30 rfl (fun g4 => ?_) (fun g4 => ?_)
        ·
          refine j_aload_n C d_M_wake_35 rfl rfl ?_
          refine j_iload_n C d_M_wake_36 rfl rfl ?_
          refine j_callV C hK hAz 10 0 (m_rouse (a := a) h (isM_in q0) _) (jcV C mi_M_rouse t_462 t_464 t_20 rfl rfl ⟨by decide, by decide⟩) rfl rfl (by assumption) rfl rfl (Nat.le_of_ble_eq_true rfl) d_M_wake_37 ⟨Nat.zero_le _, Nat.zero_le _⟩ ?_
          refine j_iconst (v := 1) C d_M_wake_40 (by decide) ?_
          refine j_zret C hret hlk (by first | rfl | decide) d_M_wake_41 ?_ ?_ rfl rfl
          · rw [d_wake, if_pos q0, if_pos g2, if_neg g3, if_neg g4]
          · rw [d_wake, if_pos q0, if_pos g2, if_neg g3, if_neg g4]
        ·
          refine j_iconst (v := 0) C d_M_wake_33 (by decide) ?_
          refine j_zret C hret hlk (by first | rfl | decide) d_M_wake_34 ?_ ?_ rfl rfl
          · rw [d_wake, if_pos q0, if_pos g2, if_neg g3, if_pos g4]
          · rw [d_wake, if_pos q0, if_pos g2, if_neg g3, if_pos g4]
set_option maxRecDepth 100000 in
set_option maxHeartbeats 4000000 in
theorem m_suspend {l : Launch} {D : va_G} {E : Nat → ClassId} {ad : Nat → Nat → Nat} {lv : Nat → Nat → Prop} {σ τ : sT} {N : Int} (h : OKm τ lv N) : jM l y_M_suspend c_M_suspend 2 (some .int) 2 D E ad lv (jv ad σ τ) [.ref (ad 10 0)] (some (.int (d_suspend τ).1)) (jv ad σ (d_suspend τ).2) := by
  intro sz
  refine jC.of "InputRoomModel" (by decide +kernel) rfl rfl (Nat.le_of_ble_eq_true rfl) (by intro v hv; simp only [List.mem_cons, List.not_mem_nil, or_false] at hv; rcases hv with rfl <;> first | rfl | exact jrf_cat _) ?_
  intro p e s m below meth c C hK hret hlk hnm hsz hAz
  have hb10 : lv 10 0 := h.k (by decide) (by decide)
  have hb11 : lv 11 0 := h.k (by decide) (by decide)
  have hb12 : lv 12 0 := h.k (by decide) (by decide)
  have hb13 : lv 13 0 := h.k (by decide) (by decide)
  have hb14 : lv 14 0 := h.k (by decide) (by decide)
  have hb15 : lv 15 0 := h.k (by decide) (by decide)
  have hb16 : lv 16 0 := h.k (by decide) (by decide)
  have hb17 : lv 17 0 := h.k (by decide) (by decide)
  have hb18 : lv 18 0 := h.k (by decide) (by decide)
  have hb19 : lv 19 0 := h.k (by decide) (by decide)
  refine j_aload_n C d_M_suspend_0 rfl rfl ?_
  refine j_callV C hK hAz 10 0 (m_pres h _) (jcV C mi_M_present0 t_466 t_468 t_21 rfl rfl ⟨by decide, by decide⟩) rfl rfl (by assumption) rfl rfl (Nat.le_of_ble_eq_true rfl) d_M_suspend_1 ⟨Nat.zero_le _, Nat.zero_le _⟩ ?_
  refine j_istore_n C d_M_suspend_4 rfl (by decide) ?_
  refine j_iload_n C d_M_suspend_5 rfl rfl ?_
  refine j_if_lt C 13 d_M_suspend_6 rfl (fun g1 => ?_) (fun g1 => ?_)
  ·
    refine j_iload_n C d_M_suspend_13 rfl rfl ?_
    refine j_iret C hret hlk d_M_suspend_14 ?_ ?_ rfl rfl
    · rfl
    · simp only [d_suspend, g1, if_true, if_false]
  ·
    refine j_aload_n C d_M_suspend_9 rfl rfl ?_
    refine j_callV C hK hAz 10 0 (m_aside h _) (jcV C mi_M_putAside t_486 t_488 t_26 rfl rfl ⟨by decide, by decide⟩) rfl rfl (by assumption) rfl rfl (Nat.le_of_ble_eq_true rfl) d_M_suspend_10 ⟨Nat.zero_le _, Nat.zero_le _⟩ ?_
    refine j_iload_n C d_M_suspend_13 rfl rfl ?_
    refine j_iret C hret hlk d_M_suspend_14 ?_ ?_ rfl rfl
    · rfl
    · simp only [d_suspend, g1, if_true, if_false]
set_option maxRecDepth 100000 in
set_option maxHeartbeats 4000000 in
theorem m_signal {l : Launch} {D : va_G} {E : Nat → ClassId} {ad : Nat → Nat → Nat} {lv : Nat → Nat → Prop} {σ τ : sT} {N : Int} (h : OKm τ lv N) {a : Int32} : jM l y_M_signal c_M_signal 2 (some .boolean) 3 D E ad lv (jv ad σ τ) [.ref (ad 10 0), .int (a)] (some (.int (d_signal τ a).1)) (jv ad σ (d_signal τ a).2) := by
  intro sz
  refine jC.of "InputRoomModel" (by decide +kernel) rfl rfl (Nat.le_of_ble_eq_true rfl) (by intro v hv; simp only [List.mem_cons, List.not_mem_nil, or_false] at hv; rcases hv with rfl | rfl <;> first | rfl | exact jrf_cat _) ?_
  intro p e s m below meth c C hK hret hlk hnm hsz hAz
  have hb10 : lv 10 0 := h.k (by decide) (by decide)
  have hb11 : lv 11 0 := h.k (by decide) (by decide)
  have hb12 : lv 12 0 := h.k (by decide) (by decide)
  have hb13 : lv 13 0 := h.k (by decide) (by decide)
  have hb14 : lv 14 0 := h.k (by decide) (by decide)
  have hb15 : lv 15 0 := h.k (by decide) (by decide)
  have hb16 : lv 16 0 := h.k (by decide) (by decide)
  have hb17 : lv 17 0 := h.k (by decide) (by decide)
  have hb18 : lv 18 0 := h.k (by decide) (by decide)
  have hb19 : lv 19 0 := h.k (by decide) (by decide)
  refine j_iload_n C d_M_signal_0 rfl rfl ?_
  refine j_callS C hK hAz (m_isSem (a := a) _) ⟨jcB C mi_M_isSemaphore t_523 rfl rfl ⟨by decide, by decide⟩, C.2.2.2.2 _ t_524⟩ rfl rfl (Nat.le_of_ble_eq_true rfl) d_M_signal_1 ⟨Nat.zero_le _, Nat.zero_le _⟩ ?_
  refine j_if_ne C 9 d_M_signal_4 rfl (fun g1 => ?_) (fun g1 => ?_)
  ·
    have q0 : isS a := Decidable.byContradiction fun z => g1 (if_neg z)
    refine j_aload_n C d_M_signal_9 rfl rfl ?_
    refine j_iload_n C d_M_signal_10 rfl rfl ?_
    refine j_callV C hK hAz 10 0 (m_sig (a := a) h (isS_in q0) _) (jcV C mi_M_signal0 t_454 t_456 t_18 rfl rfl ⟨by decide, by decide⟩) rfl rfl (by assumption) rfl rfl (Nat.le_of_ble_eq_true rfl) d_M_signal_11 ⟨Nat.zero_le _, Nat.zero_le _⟩ ?_
    refine j_iconst (v := 1) C d_M_signal_14 (by decide) ?_
    refine j_zret C hret hlk (by first | rfl | decide) d_M_signal_15 ?_ ?_ rfl rfl
    · rw [d_signal, if_pos q0]
    · rw [d_signal, if_pos q0]
  ·
    have n0 : ¬ isS a := fun z => by rw [if_pos z] at g1; exact absurd g1 (by decide)
    refine j_iconst (v := 0) C d_M_signal_7 (by decide) ?_
    refine j_zret C hret hlk (by first | rfl | decide) d_M_signal_8 ?_ ?_ rfl rfl
    · rw [d_signal, if_neg n0]
    · rw [d_signal, if_neg n0]
set_option maxRecDepth 100000 in
set_option maxHeartbeats 4000000 in
theorem m_listen {l : Launch} {D : va_G} {E : Nat → ClassId} {ad : Nat → Nat → Nat} {lv : Nat → Nat → Prop} {σ τ : sT} {N : Int} (h : OKm τ lv N) {a : Int32} : jM l y_M_listen c_M_listen 2 (some .boolean) 1 D E ad lv (jv ad σ τ) [.ref (ad 10 0), .int (a)] (some (.int (d_listen τ a).1)) (jv ad σ (d_listen τ a).2) := by
  intro sz
  refine jC.of "InputRoomModel" (by decide +kernel) rfl rfl (Nat.le_of_ble_eq_true rfl) (by intro v hv; simp only [List.mem_cons, List.not_mem_nil, or_false] at hv; rcases hv with rfl | rfl <;> first | rfl | exact jrf_cat _) ?_
  intro p e s m below meth c C hK hret hlk hnm hsz hAz
  have hb10 : lv 10 0 := h.k (by decide) (by decide)
  have hb11 : lv 11 0 := h.k (by decide) (by decide)
  have hb12 : lv 12 0 := h.k (by decide) (by decide)
  have hb13 : lv 13 0 := h.k (by decide) (by decide)
  have hb14 : lv 14 0 := h.k (by decide) (by decide)
  have hb15 : lv 15 0 := h.k (by decide) (by decide)
  have hb16 : lv 16 0 := h.k (by decide) (by decide)
  have hb17 : lv 17 0 := h.k (by decide) (by decide)
  have hb18 : lv 18 0 := h.k (by decide) (by decide)
  have hb19 : lv 19 0 := h.k (by decide) (by decide)
  refine j_iload_n C d_M_listen_0 rfl rfl ?_
  refine j_iconst (v := -1) C d_M_listen_1 (by decide) ?_
  refine j_icmp_eq C 14 d_M_listen_2 rfl (fun g1 => ?_) (fun g1 => ?_)
  ·
    refine j_aload_n C d_M_listen_14 rfl rfl ?_
    refine j_iload_n C d_M_listen_15 rfl rfl ?_
    refine tpI C hK 10 0 14 ty_M tk_M nm_M d_M_listen_16 in_M rfl rfl (by decide) t_390 rfl rfl rfl rfl (a) rfl rfl (by assumption) ?_
    refine j_iconst (v := 1) C d_M_listen_19 (by decide) ?_
    refine j_zret C hret hlk (by first | rfl | decide) d_M_listen_20 ?_ ?_ rfl rfl
    · rw [d_listen, if_pos g1]
    · rw [d_listen, if_pos g1]
  ·
    refine j_iload_n C d_M_listen_5 rfl rfl ?_
    refine j_callS C hK hAz (m_isSem (a := a) _) ⟨jcB C mi_M_isSemaphore t_523 rfl rfl ⟨by decide, by decide⟩, C.2.2.2.2 _ t_524⟩ rfl rfl (Nat.le_of_ble_eq_true rfl) d_M_listen_6 ⟨Nat.zero_le _, Nat.zero_le _⟩ ?_
    refine j_if_ne C 14 d_M_listen_9 rfl (fun g2 => ?_) (fun g2 => ?_)
    ·
      have q0 : isS a := Decidable.byContradiction fun z => g2 (if_neg z)
      refine j_aload_n C d_M_listen_14 rfl rfl ?_
      refine j_iload_n C d_M_listen_15 rfl rfl ?_
      refine tpI C hK 10 0 14 ty_M tk_M nm_M d_M_listen_16 in_M rfl rfl (by decide) t_390 rfl rfl rfl rfl (a) rfl rfl (by assumption) ?_
      refine j_iconst (v := 1) C d_M_listen_19 (by decide) ?_
      refine j_zret C hret hlk (by first | rfl | decide) d_M_listen_20 ?_ ?_ rfl rfl
      · rw [d_listen, if_neg g1, if_pos q0]
      · rw [d_listen, if_neg g1, if_pos q0]
    ·
      have n0 : ¬ isS a := fun z => by rw [if_pos z] at g2; exact absurd g2 (by decide)
      refine j_iconst (v := 0) C d_M_listen_12 (by decide) ?_
      refine j_zret C hret hlk (by first | rfl | decide) d_M_listen_13 ?_ ?_ rfl rfl
      · rw [d_listen, if_neg g1, if_neg n0]
      · rw [d_listen, if_neg g1, if_neg n0]
set_option maxRecDepth 100000 in
set_option maxHeartbeats 4000000 in
theorem m_alarm {l : Launch} {D : va_G} {E : Nat → ClassId} {ad : Nat → Nat → Nat} {lv : Nat → Nat → Prop} {σ τ : sT} {N : Int} (h : OKm τ lv N) {a t : Int32} : jM l y_M_alarm c_M_alarm 3 (some .boolean) 1 D E ad lv (jv ad σ τ) [.ref (ad 10 0), .int (a), .int (t)] (some (.int (d_alarm τ a t).1)) (jv ad σ (d_alarm τ a t).2) := by
  intro sz
  refine jC.of "InputRoomModel" (by decide +kernel) rfl rfl (Nat.le_of_ble_eq_true rfl) (by intro v hv; simp only [List.mem_cons, List.not_mem_nil, or_false] at hv; rcases hv with rfl | rfl | rfl <;> first | rfl | exact jrf_cat _) ?_
  intro p e s m below meth c C hK hret hlk hnm hsz hAz
  have hb10 : lv 10 0 := h.k (by decide) (by decide)
  have hb11 : lv 11 0 := h.k (by decide) (by decide)
  have hb12 : lv 12 0 := h.k (by decide) (by decide)
  have hb13 : lv 13 0 := h.k (by decide) (by decide)
  have hb14 : lv 14 0 := h.k (by decide) (by decide)
  have hb15 : lv 15 0 := h.k (by decide) (by decide)
  have hb16 : lv 16 0 := h.k (by decide) (by decide)
  have hb17 : lv 17 0 := h.k (by decide) (by decide)
  have hb18 : lv 18 0 := h.k (by decide) (by decide)
  have hb19 : lv 19 0 := h.k (by decide) (by decide)
  refine j_iload_n C d_M_alarm_0 rfl rfl ?_
  refine j_iconst (v := -1) C d_M_alarm_1 (by decide) ?_
  refine j_icmp_ne C 12 d_M_alarm_2 rfl (fun g1 => ?_) (fun g1 => ?_)
  ·
    refine j_iload_n C d_M_alarm_12 rfl rfl ?_
    refine j_callS C hK hAz (m_isSem (a := a) _) ⟨jcB C mi_M_isSemaphore t_523 rfl rfl ⟨by decide, by decide⟩, C.2.2.2.2 _ t_524⟩ rfl rfl (Nat.le_of_ble_eq_true rfl) d_M_alarm_13 ⟨Nat.zero_le _, Nat.zero_le _⟩ ?_
    refine j_if_eq C 29 d_M_alarm_16 rfl (fun g2 => ?_) (fun g2 => ?_)
    ·
      have n0 : ¬ isS a := fun z => by rw [if_pos z] at g2; exact absurd g2 (by decide)
      refine j_iconst (v := 0) C d_M_alarm_29 (by decide) ?_
      refine j_zret C hret hlk (by first | rfl | decide) d_M_alarm_30 ?_ ?_ rfl rfl
      · rw [d_alarm, if_neg g1, if_neg n0]
      · rw [d_alarm, if_neg g1, if_neg n0]
    ·
      have q0 : isS a := Decidable.byContradiction fun z => g2 (if_neg z)
      refine j_iload_n C d_M_alarm_19 rfl rfl ?_
      refine j_if_lt C 29 d_M_alarm_20 rfl (fun g3 => ?_) (fun g3 => ?_)
      ·
        refine j_iconst (v := 0) C d_M_alarm_29 (by decide) ?_
        refine j_zret C hret hlk (by first | rfl | decide) d_M_alarm_30 ?_ ?_ rfl rfl
        · rw [d_alarm, if_neg g1, if_pos q0, if_pos g3]
        · rw [d_alarm, if_neg g1, if_pos q0, if_pos g3]
      ·
        refine j_iload_n C d_M_alarm_23 rfl rfl ?_
        refine j_ldc C d_M_alarm_24 t_534 ?_
        refine j_icmp_le C 31 d_M_alarm_26 rfl (fun g4 => ?_) (fun g4 => ?_)
        ·
          refine j_aload_n C d_M_alarm_31 rfl rfl ?_
          refine j_iload_n C d_M_alarm_32 rfl rfl ?_
          refine tpI C hK 10 0 15 ty_M tk_M nm_M d_M_alarm_33 in_M rfl rfl (by decide) t_391 rfl rfl rfl rfl (a) rfl rfl (by assumption) ?_
          refine j_aload_n C d_M_alarm_36 rfl rfl ?_
          refine j_iload_n C d_M_alarm_37 rfl rfl ?_
          refine tpI C hK 10 0 16 ty_M tk_M nm_M d_M_alarm_38 in_M rfl rfl (by decide) t_392 rfl rfl rfl rfl (t) rfl rfl (by assumption) ?_
          refine j_iconst (v := 1) C d_M_alarm_41 (by decide) ?_
          refine j_zret C hret hlk (by first | rfl | decide) d_M_alarm_42 ?_ ?_ rfl rfl
          · rw [d_alarm, if_neg g1, if_pos q0, if_neg g3, if_pos g4]
          · rw [d_alarm, if_neg g1, if_pos q0, if_neg g3, if_pos g4]
        ·
          refine j_iconst (v := 0) C d_M_alarm_29 (by decide) ?_
          refine j_zret C hret hlk (by first | rfl | decide) d_M_alarm_30 ?_ ?_ rfl rfl
          · rw [d_alarm, if_neg g1, if_pos q0, if_neg g3, if_neg g4]
          · rw [d_alarm, if_neg g1, if_pos q0, if_neg g3, if_neg g4]
  ·
    refine j_aload_n C d_M_alarm_5 rfl rfl ?_
    refine j_iconst (v := -1) C d_M_alarm_6 (by decide) ?_
    refine tpI C hK 10 0 15 ty_M tk_M nm_M d_M_alarm_7 in_M rfl rfl (by decide) t_391 rfl rfl rfl rfl (-1) rfl rfl (by assumption) ?_
    refine j_iconst (v := 1) C d_M_alarm_10 (by decide) ?_
    refine j_zret C hret hlk (by first | rfl | decide) d_M_alarm_11 ?_ ?_ rfl rfl
    · rw [d_alarm, if_pos g1]
    · rw [d_alarm, if_pos g1]
set_option maxRecDepth 100000 in
set_option maxHeartbeats 4000000 in
theorem m_word {l : Launch} {D : va_G} {E : Nat → ClassId} {ad : Nat → Nat → Nat} {lv : Nat → Nat → Prop} {σ τ : sT} {N : Int} (h : OKm τ lv N) {a : Int32} : jM l y_M_word c_M_word 2 (some .int) 0 D E ad lv (jv ad σ τ) [.ref (ad 10 0), .int (a)] (some (.int (d_word τ a).1)) (jv ad σ (d_word τ a).2) := by
  intro sz
  refine jC.of "InputRoomModel" (by decide +kernel) rfl rfl (Nat.le_of_ble_eq_true rfl) (by intro v hv; simp only [List.mem_cons, List.not_mem_nil, or_false] at hv; rcases hv with rfl | rfl <;> first | rfl | exact jrf_cat _) ?_
  intro p e s m below meth c C hK hret hlk hnm hsz hAz
  have hb10 : lv 10 0 := h.k (by decide) (by decide)
  have hb11 : lv 11 0 := h.k (by decide) (by decide)
  have hb12 : lv 12 0 := h.k (by decide) (by decide)
  have hb13 : lv 13 0 := h.k (by decide) (by decide)
  have hb14 : lv 14 0 := h.k (by decide) (by decide)
  have hb15 : lv 15 0 := h.k (by decide) (by decide)
  have hb16 : lv 16 0 := h.k (by decide) (by decide)
  have hb17 : lv 17 0 := h.k (by decide) (by decide)
  have hb18 : lv 18 0 := h.k (by decide) (by decide)
  have hb19 : lv 19 0 := h.k (by decide) (by decide)
  refine j_iload_n C d_M_word_0 rfl rfl ?_
  refine j_if_lt C 19 d_M_word_1 rfl (fun g1 => ?_) (fun g1 => ?_)
  ·
    refine j_iconst (v := -1) C d_M_word_19 (by decide) ?_
    refine j_iret C hret hlk d_M_word_20 ?_ ?_ rfl rfl
    · rw [d_word, if_pos g1]
    · rw [d_word, if_pos g1]
  ·
    refine j_iload_n C d_M_word_4 rfl rfl ?_
    refine j_ldc C d_M_word_5 t_539 ?_
    refine j_icmp_gt C 19 d_M_word_7 rfl (fun g2 => ?_) (fun g2 => ?_)
    ·
      refine j_iconst (v := -1) C d_M_word_19 (by decide) ?_
      refine j_iret C hret hlk d_M_word_20 ?_ ?_ rfl rfl
      · rw [d_word, if_neg g1, if_pos g2]
      · rw [d_word, if_neg g1, if_pos g2]
    ·
      refine j_aload_n C d_M_word_10 rfl rfl ?_
      refine tgI C hK 10 0 12 d_M_word_11 in_M rfl rfl (by decide) t_388 rfl rfl rfl (by assumption) ?_
      refine j_bipush (v := 64) C d_M_word_14 (by decide) ?_
      refine j_icmp_ne C 21 d_M_word_16 rfl (fun g3 => ?_) (fun g3 => ?_)
      ·
        refine j_aload_n C d_M_word_21 rfl rfl ?_
        refine tgC C hK 10 0 11 d_M_word_22 in_M rfl rfl (by decide) t_387 rfl rfl rfl (by assumption) ?_
        refine j_aload_n C d_M_word_25 rfl rfl ?_
        refine tgI C hK 10 0 12 d_M_word_26 in_M rfl rfl (by decide) t_388 rfl rfl rfl (by assumption) ?_
        refine j_iload_n C d_M_word_29 rfl rfl ?_
        refine tia_st C hK 18 0 d_M_word_30 rfl (by rw [vp_in_iff]; have q := h.2.2.2.2.2.1; have q2 : (τ.1 10 0 12).toInt ≠ 64 := fun z => g3 (Int32.toInt_inj.mp z); omega) rfl rfl (by assumption) ?_
        refine j_aload_n C d_M_word_31 rfl rfl ?_
        refine j_aload_n C d_M_word_32 rfl rfl ?_
        refine tgI C hK 10 0 12 d_M_word_33 in_M rfl rfl (by decide) t_388 rfl rfl rfl (by assumption) ?_
        refine j_iconst (v := 1) C d_M_word_36 (by decide) ?_
        refine j_iadd C d_M_word_37 ?_
        refine tpI C hK 10 0 12 ty_M tk_M nm_M d_M_word_38 in_M rfl rfl (by decide) t_388 rfl rfl rfl rfl (((sI τ 18 0 (τ.1 10 0 12).toNatClampNeg (a)).1 10 0 12 + 1)) rfl rfl (by assumption) ?_
        refine j_aload_n C d_M_word_41 rfl rfl ?_
        refine j_aload_n C d_M_word_42 rfl rfl ?_
        refine tgI C hK 10 0 13 d_M_word_43 in_M rfl rfl (by decide) t_389 rfl rfl rfl (by assumption) ?_
        refine j_iconst (v := 1) C d_M_word_46 (by decide) ?_
        refine j_iadd C d_M_word_47 ?_
        refine tpI C hK 10 0 13 ty_M tk_M nm_M d_M_word_48 in_M rfl rfl (by decide) t_389 rfl rfl rfl rfl (((sI (sI τ 18 0 (τ.1 10 0 12).toNatClampNeg (a)) 10 0 12 (((sI τ 18 0 (τ.1 10 0 12).toNatClampNeg (a)).1 10 0 12 + 1))).1 10 0 13 + 1)) rfl rfl (by assumption) ?_
        refine j_aload_n C d_M_word_51 rfl rfl ?_
        refine tgI C hK 10 0 12 d_M_word_52 in_M rfl rfl (by decide) t_388 rfl rfl rfl (by assumption) ?_
        refine j_iret C hret hlk d_M_word_55 ?_ ?_ rfl rfl
        · rw [d_word, if_neg g1, if_neg g2, if_neg g3]; rfl
        · rw [d_word, if_neg g1, if_neg g2, if_neg g3]; rfl
      ·
        refine j_iconst (v := -1) C d_M_word_19 (by decide) ?_
        refine j_iret C hret hlk d_M_word_20 ?_ ?_ rfl rfl
        · rw [d_word, if_neg g1, if_neg g2, if_pos g3]
        · rw [d_word, if_neg g1, if_neg g2, if_pos g3]
set_option maxRecDepth 100000 in
set_option maxHeartbeats 4000000 in
theorem m_active {l : Launch} {D : va_G} {E : Nat → ClassId} {ad : Nat → Nat → Nat} {lv : Nat → Nat → Prop} {σ τ : sT} {N : Int} (h : OKm τ lv N) : jM l y_M_active c_M_active 1 (some .int) 0 D E ad lv (jv ad σ τ) [.ref (ad 10 0)] (some (.int (τ.1 10 0 8))) (jv ad σ τ) := by
  intro sz
  refine jC.of "InputRoomModel" (by decide +kernel) rfl rfl (Nat.le_of_ble_eq_true rfl) (by intro v hv; simp only [List.mem_cons, List.not_mem_nil, or_false] at hv; rcases hv with rfl <;> first | rfl | exact jrf_cat _) ?_
  intro p e s m below meth c C hK hret hlk hnm hsz hAz
  have hb10 : lv 10 0 := h.k (by decide) (by decide)
  have hb11 : lv 11 0 := h.k (by decide) (by decide)
  have hb12 : lv 12 0 := h.k (by decide) (by decide)
  have hb13 : lv 13 0 := h.k (by decide) (by decide)
  have hb14 : lv 14 0 := h.k (by decide) (by decide)
  have hb15 : lv 15 0 := h.k (by decide) (by decide)
  have hb16 : lv 16 0 := h.k (by decide) (by decide)
  have hb17 : lv 17 0 := h.k (by decide) (by decide)
  have hb18 : lv 18 0 := h.k (by decide) (by decide)
  have hb19 : lv 19 0 := h.k (by decide) (by decide)
  refine j_aload_n C d_M_active_0 rfl rfl ?_
  refine tgI C hK 10 0 8 d_M_active_1 in_M rfl rfl (by decide) t_384 rfl rfl rfl (by assumption) ?_
  refine j_iret C hret hlk d_M_active_4 ?_ ?_ rfl rfl
  · rfl
  · rfl
set_option maxRecDepth 100000 in
set_option maxHeartbeats 4000000 in
theorem m_present {l : Launch} {D : va_G} {E : Nat → ClassId} {ad : Nat → Nat → Nat} {lv : Nat → Nat → Prop} {σ τ : sT} {N : Int} (h : OKm τ lv N) : jM l y_M_present c_M_present 1 (some .int) 1 D E ad lv (jv ad σ τ) [.ref (ad 10 0)] (some (.int (mf_pres τ))) (jv ad σ τ) := by
  intro sz
  refine jC.of "InputRoomModel" (by decide +kernel) rfl rfl (Nat.le_of_ble_eq_true rfl) (by intro v hv; simp only [List.mem_cons, List.not_mem_nil, or_false] at hv; rcases hv with rfl <;> first | rfl | exact jrf_cat _) ?_
  intro p e s m below meth c C hK hret hlk hnm hsz hAz
  have hb10 : lv 10 0 := h.k (by decide) (by decide)
  have hb11 : lv 11 0 := h.k (by decide) (by decide)
  have hb12 : lv 12 0 := h.k (by decide) (by decide)
  have hb13 : lv 13 0 := h.k (by decide) (by decide)
  have hb14 : lv 14 0 := h.k (by decide) (by decide)
  have hb15 : lv 15 0 := h.k (by decide) (by decide)
  have hb16 : lv 16 0 := h.k (by decide) (by decide)
  have hb17 : lv 17 0 := h.k (by decide) (by decide)
  have hb18 : lv 18 0 := h.k (by decide) (by decide)
  have hb19 : lv 19 0 := h.k (by decide) (by decide)
  refine j_aload_n C d_M_present_0 rfl rfl ?_
  refine j_callV C hK hAz 10 0 (m_pres h _) (jcV C mi_M_present0 t_466 t_468 t_21 rfl rfl ⟨by decide, by decide⟩) rfl rfl (by assumption) rfl rfl (Nat.le_of_ble_eq_true rfl) d_M_present_1 ⟨Nat.zero_le _, Nat.zero_le _⟩ ?_
  refine j_iret C hret hlk d_M_present_4 ?_ ?_ rfl rfl
  · rfl
  · rfl
set_option maxRecDepth 100000 in
set_option maxHeartbeats 4000000 in
theorem m_clock {l : Launch} {D : va_G} {E : Nat → ClassId} {ad : Nat → Nat → Nat} {lv : Nat → Nat → Prop} {σ τ : sT} {N : Int} (h : OKm τ lv N) : jM l y_M_clock c_M_clock 1 (some .int) 0 D E ad lv (jv ad σ τ) [.ref (ad 10 0)] (some (.int (τ.1 10 0 17))) (jv ad σ τ) := by
  intro sz
  refine jC.of "InputRoomModel" (by decide +kernel) rfl rfl (Nat.le_of_ble_eq_true rfl) (by intro v hv; simp only [List.mem_cons, List.not_mem_nil, or_false] at hv; rcases hv with rfl <;> first | rfl | exact jrf_cat _) ?_
  intro p e s m below meth c C hK hret hlk hnm hsz hAz
  have hb10 : lv 10 0 := h.k (by decide) (by decide)
  have hb11 : lv 11 0 := h.k (by decide) (by decide)
  have hb12 : lv 12 0 := h.k (by decide) (by decide)
  have hb13 : lv 13 0 := h.k (by decide) (by decide)
  have hb14 : lv 14 0 := h.k (by decide) (by decide)
  have hb15 : lv 15 0 := h.k (by decide) (by decide)
  have hb16 : lv 16 0 := h.k (by decide) (by decide)
  have hb17 : lv 17 0 := h.k (by decide) (by decide)
  have hb18 : lv 18 0 := h.k (by decide) (by decide)
  have hb19 : lv 19 0 := h.k (by decide) (by decide)
  refine j_aload_n C d_M_clock_0 rfl rfl ?_
  refine tgI C hK 10 0 17 d_M_clock_1 in_M rfl rfl (by decide) t_393 rfl rfl rfl (by assumption) ?_
  refine j_iret C hret hlk d_M_clock_4 ?_ ?_ rfl rfl
  · rfl
  · rfl
set_option maxRecDepth 100000 in
set_option maxHeartbeats 4000000 in
theorem m_codes {l : Launch} {D : va_G} {E : Nat → ClassId} {ad : Nat → Nat → Nat} {lv : Nat → Nat → Prop} {σ τ : sT} {N : Int} (h : OKm τ lv N) : jM l y_M_codes c_M_codes 1 (some .long) 0 D E ad lv (jv ad σ τ) [.ref (ad 10 0)] (some (.long (τ.2.2 10 0 18))) (jv ad σ τ) := by
  intro sz
  refine jC.of "InputRoomModel" (by decide +kernel) rfl rfl (Nat.le_of_ble_eq_true rfl) (by intro v hv; simp only [List.mem_cons, List.not_mem_nil, or_false] at hv; rcases hv with rfl <;> first | rfl | exact jrf_cat _) ?_
  intro p e s m below meth c C hK hret hlk hnm hsz hAz
  have hb10 : lv 10 0 := h.k (by decide) (by decide)
  have hb11 : lv 11 0 := h.k (by decide) (by decide)
  have hb12 : lv 12 0 := h.k (by decide) (by decide)
  have hb13 : lv 13 0 := h.k (by decide) (by decide)
  have hb14 : lv 14 0 := h.k (by decide) (by decide)
  have hb15 : lv 15 0 := h.k (by decide) (by decide)
  have hb16 : lv 16 0 := h.k (by decide) (by decide)
  have hb17 : lv 17 0 := h.k (by decide) (by decide)
  have hb18 : lv 18 0 := h.k (by decide) (by decide)
  have hb19 : lv 19 0 := h.k (by decide) (by decide)
  refine j_aload_n C d_M_codes_0 rfl rfl ?_
  refine tgL C hK 10 0 18 d_M_codes_1 in_M rfl rfl (by decide) t_394 rfl rfl rfl (by assumption) ?_
  refine j_lret C hret hlk d_M_codes_4 ?_ ?_ rfl rfl
  · rfl
  · rfl
set_option maxRecDepth 100000 in
set_option maxHeartbeats 4000000 in
theorem m_input {l : Launch} {D : va_G} {E : Nat → ClassId} {ad : Nat → Nat → Nat} {lv : Nat → Nat → Prop} {σ τ : sT} {N : Int} (h : OKm τ lv N) : jM l y_M_input c_M_input 1 (some .int) 0 D E ad lv (jv ad σ τ) [.ref (ad 10 0)] (some (.int (τ.1 10 0 14))) (jv ad σ τ) := by
  intro sz
  refine jC.of "InputRoomModel" (by decide +kernel) rfl rfl (Nat.le_of_ble_eq_true rfl) (by intro v hv; simp only [List.mem_cons, List.not_mem_nil, or_false] at hv; rcases hv with rfl <;> first | rfl | exact jrf_cat _) ?_
  intro p e s m below meth c C hK hret hlk hnm hsz hAz
  have hb10 : lv 10 0 := h.k (by decide) (by decide)
  have hb11 : lv 11 0 := h.k (by decide) (by decide)
  have hb12 : lv 12 0 := h.k (by decide) (by decide)
  have hb13 : lv 13 0 := h.k (by decide) (by decide)
  have hb14 : lv 14 0 := h.k (by decide) (by decide)
  have hb15 : lv 15 0 := h.k (by decide) (by decide)
  have hb16 : lv 16 0 := h.k (by decide) (by decide)
  have hb17 : lv 17 0 := h.k (by decide) (by decide)
  have hb18 : lv 18 0 := h.k (by decide) (by decide)
  have hb19 : lv 19 0 := h.k (by decide) (by decide)
  refine j_aload_n C d_M_input_0 rfl rfl ?_
  refine tgI C hK 10 0 14 d_M_input_1 in_M rfl rfl (by decide) t_390 rfl rfl rfl (by assumption) ?_
  refine j_iret C hret hlk d_M_input_4 ?_ ?_ rfl rfl
  · rfl
  · rfl
set_option maxRecDepth 100000 in
set_option maxHeartbeats 4000000 in
theorem m_tick {l : Launch} {D : va_G} {E : Nat → ClassId} {ad : Nat → Nat → Nat} {lv : Nat → Nat → Prop} {σ τ : sT} {N : Int} (h : OKm τ lv N) : jM l y_M_tick c_M_tick 1 (some .int) 0 D E ad lv (jv ad σ τ) [.ref (ad 10 0)] (some (.int (d_tick τ))) (jv ad σ τ) := by
  intro sz
  refine jC.of "InputRoomModel" (by decide +kernel) rfl rfl (Nat.le_of_ble_eq_true rfl) (by intro v hv; simp only [List.mem_cons, List.not_mem_nil, or_false] at hv; rcases hv with rfl <;> first | rfl | exact jrf_cat _) ?_
  intro p e s m below meth c C hK hret hlk hnm hsz hAz
  have hb10 : lv 10 0 := h.k (by decide) (by decide)
  have hb11 : lv 11 0 := h.k (by decide) (by decide)
  have hb12 : lv 12 0 := h.k (by decide) (by decide)
  have hb13 : lv 13 0 := h.k (by decide) (by decide)
  have hb14 : lv 14 0 := h.k (by decide) (by decide)
  have hb15 : lv 15 0 := h.k (by decide) (by decide)
  have hb16 : lv 16 0 := h.k (by decide) (by decide)
  have hb17 : lv 17 0 := h.k (by decide) (by decide)
  have hb18 : lv 18 0 := h.k (by decide) (by decide)
  have hb19 : lv 19 0 := h.k (by decide) (by decide)
  refine j_aload_n C d_M_tick_0 rfl rfl ?_
  refine tgI C hK 10 0 15 d_M_tick_1 in_M rfl rfl (by decide) t_391 rfl rfl rfl (by assumption) ?_
  refine j_if_lt C 14 d_M_tick_4 rfl (fun g1 => ?_) (fun g1 => ?_)
  ·
    refine j_iconst (v := -1) C d_M_tick_14 (by decide) ?_
    refine j_iret C hret hlk d_M_tick_15 ?_ ?_ rfl rfl
    · rw [d_tick, if_pos g1]
    · rfl
  ·
    refine j_aload_n C d_M_tick_7 rfl rfl ?_
    refine tgI C hK 10 0 16 d_M_tick_8 in_M rfl rfl (by decide) t_392 rfl rfl rfl (by assumption) ?_
    refine j_goto C 15 d_M_tick_11 rfl ?_
    refine j_iret C hret hlk d_M_tick_15 ?_ ?_ rfl rfl
    · rw [d_tick, if_neg g1]
    · rfl
set_option maxRecDepth 100000 in
set_option maxHeartbeats 4000000 in
theorem m_done {l : Launch} {D : va_G} {E : Nat → ClassId} {ad : Nat → Nat → Nat} {lv : Nat → Nat → Prop} {σ τ : sT} {N : Int} (h : OKm τ lv N) {a : Int32} : jM l y_M_done c_M_done 2 (some .int) 1 D E ad lv (jv ad σ τ) [.ref (ad 10 0), .int (a)] (some (.int (d_done τ a))) (jv ad σ τ) := by
  intro sz
  refine jC.of "InputRoomModel" (by decide +kernel) rfl rfl (Nat.le_of_ble_eq_true rfl) (by intro v hv; simp only [List.mem_cons, List.not_mem_nil, or_false] at hv; rcases hv with rfl | rfl <;> first | rfl | exact jrf_cat _) ?_
  intro p e s m below meth c C hK hret hlk hnm hsz hAz
  have hb10 : lv 10 0 := h.k (by decide) (by decide)
  have hb11 : lv 11 0 := h.k (by decide) (by decide)
  have hb12 : lv 12 0 := h.k (by decide) (by decide)
  have hb13 : lv 13 0 := h.k (by decide) (by decide)
  have hb14 : lv 14 0 := h.k (by decide) (by decide)
  have hb15 : lv 15 0 := h.k (by decide) (by decide)
  have hb16 : lv 16 0 := h.k (by decide) (by decide)
  have hb17 : lv 17 0 := h.k (by decide) (by decide)
  have hb18 : lv 18 0 := h.k (by decide) (by decide)
  have hb19 : lv 19 0 := h.k (by decide) (by decide)
  refine j_aload_n C d_M_done_0 rfl rfl ?_
  refine j_iload_n C d_M_done_1 rfl rfl ?_
  refine j_callV C hK hAz 10 0 (m_isMade (a := a) h _) (jcV C mi_M_isMade t_507 t_509 t_29 rfl rfl ⟨by decide, by decide⟩) rfl rfl (by assumption) rfl rfl (Nat.le_of_ble_eq_true rfl) d_M_done_2 ⟨Nat.zero_le _, Nat.zero_le _⟩ ?_
  refine j_if_eq C 17 d_M_done_5 rfl (fun g1 => ?_) (fun g1 => ?_)
  ·
    have n0 : ¬ isM τ a := isM_no g1
    refine j_iconst (v := -1) C d_M_done_17 (by decide) ?_
    refine j_iret C hret hlk d_M_done_18 ?_ ?_ rfl rfl
    · rw [d_done, if_neg n0]
    · rfl
  ·
    have q0 : isM τ a := isM_yes g1
    refine j_aload_n C d_M_done_8 rfl rfl ?_
    refine tgC C hK 10 0 3 d_M_done_9 in_M rfl rfl (by decide) t_379 rfl rfl rfl (by assumption) ?_
    refine j_iload_n C d_M_done_12 rfl rfl ?_
    refine tia C hK 14 0 d_M_done_13 rfl (isM_in q0) rfl rfl (by assumption) ?_
    refine j_goto C 18 d_M_done_14 rfl ?_
    refine j_iret C hret hlk d_M_done_18 ?_ ?_ rfl rfl
    · rw [d_done, if_pos q0]
    · rfl
set_option maxRecDepth 100000 in
set_option maxHeartbeats 4000000 in
theorem m_row {l : Launch} {D : va_G} {E : Nat → ClassId} {ad : Nat → Nat → Nat} {lv : Nat → Nat → Prop} {σ τ : sT} {N : Int} (h : OKm τ lv N) {a : Int32} : jM l y_M_row c_M_row 2 (some .int) 1 D E ad lv (jv ad σ τ) [.ref (ad 10 0), .int (a)] (some (.int (d_row τ a))) (jv ad σ τ) := by
  intro sz
  refine jC.of "InputRoomModel" (by decide +kernel) rfl rfl (Nat.le_of_ble_eq_true rfl) (by intro v hv; simp only [List.mem_cons, List.not_mem_nil, or_false] at hv; rcases hv with rfl | rfl <;> first | rfl | exact jrf_cat _) ?_
  intro p e s m below meth c C hK hret hlk hnm hsz hAz
  have hb10 : lv 10 0 := h.k (by decide) (by decide)
  have hb11 : lv 11 0 := h.k (by decide) (by decide)
  have hb12 : lv 12 0 := h.k (by decide) (by decide)
  have hb13 : lv 13 0 := h.k (by decide) (by decide)
  have hb14 : lv 14 0 := h.k (by decide) (by decide)
  have hb15 : lv 15 0 := h.k (by decide) (by decide)
  have hb16 : lv 16 0 := h.k (by decide) (by decide)
  have hb17 : lv 17 0 := h.k (by decide) (by decide)
  have hb18 : lv 18 0 := h.k (by decide) (by decide)
  have hb19 : lv 19 0 := h.k (by decide) (by decide)
  refine j_aload_n C d_M_row_0 rfl rfl ?_
  refine j_iload_n C d_M_row_1 rfl rfl ?_
  refine j_callV C hK hAz 10 0 (m_isMade (a := a) h _) (jcV C mi_M_isMade t_507 t_509 t_29 rfl rfl ⟨by decide, by decide⟩) rfl rfl (by assumption) rfl rfl (Nat.le_of_ble_eq_true rfl) d_M_row_2 ⟨Nat.zero_le _, Nat.zero_le _⟩ ?_
  refine j_if_eq C 17 d_M_row_5 rfl (fun g1 => ?_) (fun g1 => ?_)
  ·
    have n0 : ¬ isM τ a := isM_no g1
    refine j_iconst (v := -1) C d_M_row_17 (by decide) ?_
    refine j_iret C hret hlk d_M_row_18 ?_ ?_ rfl rfl
    · rw [d_row, if_neg n0]
    · rfl
  ·
    have q0 : isM τ a := isM_yes g1
    refine j_aload_n C d_M_row_8 rfl rfl ?_
    refine tgC C hK 10 0 4 d_M_row_9 in_M rfl rfl (by decide) t_380 rfl rfl rfl (by assumption) ?_
    refine j_iload_n C d_M_row_12 rfl rfl ?_
    refine tia C hK 15 0 d_M_row_13 rfl (isM_in q0) rfl rfl (by assumption) ?_
    refine j_goto C 18 d_M_row_14 rfl ?_
    refine j_iret C hret hlk d_M_row_18 ?_ ?_ rfl rfl
    · rw [d_row, if_pos q0]
    · rfl
set_option maxRecDepth 100000 in
set_option maxHeartbeats 4000000 in
theorem m_extra {l : Launch} {D : va_G} {E : Nat → ClassId} {ad : Nat → Nat → Nat} {lv : Nat → Nat → Prop} {σ τ : sT} {N : Int} (h : OKm τ lv N) {a : Int32} : jM l y_M_extra c_M_extra 2 (some .int) 1 D E ad lv (jv ad σ τ) [.ref (ad 10 0), .int (a)] (some (.int (d_extra τ a))) (jv ad σ τ) := by
  intro sz
  refine jC.of "InputRoomModel" (by decide +kernel) rfl rfl (Nat.le_of_ble_eq_true rfl) (by intro v hv; simp only [List.mem_cons, List.not_mem_nil, or_false] at hv; rcases hv with rfl | rfl <;> first | rfl | exact jrf_cat _) ?_
  intro p e s m below meth c C hK hret hlk hnm hsz hAz
  have hb10 : lv 10 0 := h.k (by decide) (by decide)
  have hb11 : lv 11 0 := h.k (by decide) (by decide)
  have hb12 : lv 12 0 := h.k (by decide) (by decide)
  have hb13 : lv 13 0 := h.k (by decide) (by decide)
  have hb14 : lv 14 0 := h.k (by decide) (by decide)
  have hb15 : lv 15 0 := h.k (by decide) (by decide)
  have hb16 : lv 16 0 := h.k (by decide) (by decide)
  have hb17 : lv 17 0 := h.k (by decide) (by decide)
  have hb18 : lv 18 0 := h.k (by decide) (by decide)
  have hb19 : lv 19 0 := h.k (by decide) (by decide)
  refine j_iload_n C d_M_extra_0 rfl rfl ?_
  refine j_callS C hK hAz (m_isSem (a := a) _) ⟨jcB C mi_M_isSemaphore t_523 rfl rfl ⟨by decide, by decide⟩, C.2.2.2.2 _ t_524⟩ rfl rfl (Nat.le_of_ble_eq_true rfl) d_M_extra_1 ⟨Nat.zero_le _, Nat.zero_le _⟩ ?_
  refine j_if_eq C 16 d_M_extra_4 rfl (fun g1 => ?_) (fun g1 => ?_)
  ·
    have n0 : ¬ isS a := fun z => by rw [if_pos z] at g1; exact absurd g1 (by decide)
    refine j_iconst (v := -1) C d_M_extra_16 (by decide) ?_
    refine j_iret C hret hlk d_M_extra_17 ?_ ?_ rfl rfl
    · rw [d_extra, if_neg n0]
    · rfl
  ·
    have q0 : isS a := Decidable.byContradiction fun z => g1 (if_neg z)
    refine j_aload_n C d_M_extra_7 rfl rfl ?_
    refine tgC C hK 10 0 7 d_M_extra_8 in_M rfl rfl (by decide) t_383 rfl rfl rfl (by assumption) ?_
    refine j_iload_n C d_M_extra_11 rfl rfl ?_
    refine tia C hK 17 0 d_M_extra_12 rfl (isS_in q0) rfl rfl (by assumption) ?_
    refine j_goto C 17 d_M_extra_13 rfl ?_
    refine j_iret C hret hlk d_M_extra_17 ?_ ?_ rfl rfl
    · rw [d_extra, if_pos q0]
    · rfl
set_option maxRecDepth 100000 in
set_option maxHeartbeats 4000000 in
theorem m_wordAt {l : Launch} {D : va_G} {E : Nat → ClassId} {ad : Nat → Nat → Nat} {lv : Nat → Nat → Prop} {σ τ : sT} {N : Int} (h : OKm τ lv N) {a : Int32} : jM l y_M_wordAt c_M_wordAt 2 (some .int) 0 D E ad lv (jv ad σ τ) [.ref (ad 10 0), .int (a)] (some (.int (d_wordAt τ a))) (jv ad σ τ) := by
  intro sz
  refine jC.of "InputRoomModel" (by decide +kernel) rfl rfl (Nat.le_of_ble_eq_true rfl) (by intro v hv; simp only [List.mem_cons, List.not_mem_nil, or_false] at hv; rcases hv with rfl | rfl <;> first | rfl | exact jrf_cat _) ?_
  intro p e s m below meth c C hK hret hlk hnm hsz hAz
  have hb10 : lv 10 0 := h.k (by decide) (by decide)
  have hb11 : lv 11 0 := h.k (by decide) (by decide)
  have hb12 : lv 12 0 := h.k (by decide) (by decide)
  have hb13 : lv 13 0 := h.k (by decide) (by decide)
  have hb14 : lv 14 0 := h.k (by decide) (by decide)
  have hb15 : lv 15 0 := h.k (by decide) (by decide)
  have hb16 : lv 16 0 := h.k (by decide) (by decide)
  have hb17 : lv 17 0 := h.k (by decide) (by decide)
  have hb18 : lv 18 0 := h.k (by decide) (by decide)
  have hb19 : lv 19 0 := h.k (by decide) (by decide)
  refine j_iload_n C d_M_wordAt_0 rfl rfl ?_
  refine j_if_lt C 21 d_M_wordAt_1 rfl (fun g1 => ?_) (fun g1 => ?_)
  ·
    refine j_iconst (v := -1) C d_M_wordAt_21 (by decide) ?_
    refine j_iret C hret hlk d_M_wordAt_22 ?_ ?_ rfl rfl
    · rw [d_wordAt, if_pos g1]
    · rfl
  ·
    refine j_iload_n C d_M_wordAt_4 rfl rfl ?_
    refine j_aload_n C d_M_wordAt_5 rfl rfl ?_
    refine tgI C hK 10 0 12 d_M_wordAt_6 in_M rfl rfl (by decide) t_388 rfl rfl rfl (by assumption) ?_
    refine j_icmp_ge C 21 d_M_wordAt_9 rfl (fun g2 => ?_) (fun g2 => ?_)
    ·
      refine j_iconst (v := -1) C d_M_wordAt_21 (by decide) ?_
      refine j_iret C hret hlk d_M_wordAt_22 ?_ ?_ rfl rfl
      · rw [d_wordAt, if_neg g1, if_pos g2]
      · rfl
    ·
      refine j_aload_n C d_M_wordAt_12 rfl rfl ?_
      refine tgC C hK 10 0 11 d_M_wordAt_13 in_M rfl rfl (by decide) t_387 rfl rfl rfl (by assumption) ?_
      refine j_iload_n C d_M_wordAt_16 rfl rfl ?_
      refine tia C hK 18 0 d_M_wordAt_17 rfl (by rw [vp_in_iff]; have q := h.2.2.2.2.2.1; have g1 := g1; have g2 := g2; rw [i32_lt, i32_0] at g1; rw [i32_le] at g2; omega) rfl rfl (by assumption) ?_
      refine j_goto C 22 d_M_wordAt_18 rfl ?_
      refine j_iret C hret hlk d_M_wordAt_22 ?_ ?_ rfl rfl
      · rw [d_wordAt, if_neg g1, if_neg g2]
      · rfl
end
section
theorem sub7a {a b c d e f g : Option Value} (i : Nat) (v : Value) (h : ([a, b, c, d, e, f, none] : List (Option Value))[i]? = some (some v)) : ([a, b, c, d, e, f, g] : List (Option Value))[i]? = some (some v) := by
  match i, h with
  | 0, h => exact h
  | 1, h => exact h
  | 2, h => exact h
  | 3, h => exact h
  | 4, h => exact h
  | 5, h => exact h
  | 6, h => cases h
  | n + 7, h => cases h
theorem sub7b {a b c d e f g : Option Value} (i : Nat) (v : Value) (h : ([a, b, c, d, e, none, none] : List (Option Value))[i]? = some (some v)) : ([a, b, c, d, e, f, g] : List (Option Value))[i]? = some (some v) := by
  match i, h with
  | 0, h => exact h
  | 1, h => exact h
  | 2, h => exact h
  | 3, h => exact h
  | 4, h => exact h
  | 5, h => cases h
  | 6, h => cases h
  | n + 7, h => cases h
set_option maxRecDepth 100000 in
set_option maxHeartbeats 4000000 in
theorem lp_at1 {l : Launch} {D : va_G} {E : Nat → ClassId} {ad : Nat → Nat → Nat} {lv : Nat → Nat → Prop} {σ : sT} {τ : sT} {N : Int} (h : OKm τ lv N) {a t is0 : Int32} {R0 : Option Value} {k : Nat} (hki : vp_in (nI k) 32) {p : Program} {e : Env} {s : State} {m : MethodId} {below : List Frame} {meth : Method} {c : Code} {sz : Nat} (C : CallFix p m c c_M_at 7 s ([.ref (ad 10 0), .int (a), .int (t)] : List Value).toArray jT "InputRoomModel") (hK : jK D jcl jY E s) (hret : meth.sig.returnType = some .int) (hlk : meth.locks = false) (hAz : ∀ q, s.heap.size ≤ q → jA ad lv sz q) : ∀ (n q : Nat) (qi b : Int32), qi = nI q → q + n = 32 → JM l y_M_at c_M_at 7 (some .int) 0 D E ad lv p e s m below meth c sz [.ref (ad 10 0), .int (a), .int (t)] R0 (jv ad σ τ) (jv ad σ τ) 118 [some (.ref (ad 10 0)), some (.int (a)), some (.int (t)), some (.int (is0)), some (.int (nI k)), some (.int (mf_bl τ a k n q b)), none] [] → JM l y_M_at c_M_at 7 (some .int) 0 D E ad lv p e s m below meth c sz [.ref (ad 10 0), .int (a), .int (t)] R0 (jv ad σ τ) (jv ad σ τ) 55 [some (.ref (ad 10 0)), some (.int (a)), some (.int (t)), some (.int (is0)), some (.int (nI k)), some (.int (b)), some (.int (qi))] [] := by
  intro n
  induction n with
  | zero =>
    intro q qi b hq hn K
    have hq : qi = nI 32 := by rw [hq]; congr 1
    subst hq
    refine j_iload C d_M_at_55 rfl ?_
    refine j_bipush (v := 32) C d_M_at_57 (by decide) ?_
    refine j_icmp_ge C 118 d_M_at_59 rfl (fun _ => ?_) (fun g1 => absurd (by decide) g1)
    exact j_sub _ sub7a K
  | succ n ih =>
    intro q qi b hq hn K
    subst hq
    have hin : vp_in (nI q) 32 := vp_in_nI (by omega) (by decide)
    have hge : ¬ 32 ≤ nI q := nI_ge (a := q) (b := 32) (by omega) (by decide)
    have hb10 : lv 10 0 := h.k (by decide) (by decide)
    have hb11 : lv 11 0 := h.k (by decide) (by decide)
    have hb12 : lv 12 0 := h.k (by decide) (by decide)
    have hb13 : lv 13 0 := h.k (by decide) (by decide)
    have hb14 : lv 14 0 := h.k (by decide) (by decide)
    have hb15 : lv 15 0 := h.k (by decide) (by decide)
    have hb16 : lv 16 0 := h.k (by decide) (by decide)
    have hb17 : lv 17 0 := h.k (by decide) (by decide)
    have hb18 : lv 18 0 := h.k (by decide) (by decide)
    have hb19 : lv 19 0 := h.k (by decide) (by decide)
    refine j_iload C d_M_at_55 rfl ?_
    refine j_bipush (v := 32) C d_M_at_57 (by decide) ?_
    refine j_icmp_ge C 118 d_M_at_59 rfl (fun g1 => absurd g1 hge) (fun _ => ?_)
    refine j_aload_n C d_M_at_62 rfl rfl ?_
    refine tgC C hK 10 0 0 d_M_at_63 in_M rfl rfl (by decide) t_376 rfl rfl rfl (by assumption) ?_
    refine j_iload C d_M_at_66 rfl ?_
    refine tza C hK 11 0 d_M_at_68 rfl hin rfl rfl (by assumption) ?_
    refine j_if_eq C 108 d_M_at_69 rfl (fun g2 => ?_) (fun g2 => ?_)
    ·
      refine j_iload C d_M_at_108 rfl ?_
      refine j_istore C d_M_at_110 (by decide) ?_
      refine j_iinc C d_M_at_112 rfl (by decide) ?_
      refine j_goto C 55 d_M_at_115 rfl ?_
      have e1 : mf_bt τ a k q b = b := by simp only [mf_bt, g2, if_true, if_false]
      exact ih (q + 1) _ _ (i32_p1 q) (by omega) (by have K2 := K; rw [mf_bl, e1] at K2; exact K2)
    ·
      refine j_aload_n C d_M_at_72 rfl rfl ?_
      refine tgC C hK 10 0 4 d_M_at_73 in_M rfl rfl (by decide) t_380 rfl rfl rfl (by assumption) ?_
      refine j_iload C d_M_at_76 rfl ?_
      refine tia C hK 15 0 d_M_at_78 rfl hin rfl rfl (by assumption) ?_
      refine j_iload_n C d_M_at_79 rfl rfl ?_
      refine j_icmp_ne C 108 d_M_at_80 rfl (fun g3 => ?_) (fun g3 => ?_)
      ·
        refine j_iload C d_M_at_108 rfl ?_
        refine j_istore C d_M_at_110 (by decide) ?_
        refine j_iinc C d_M_at_112 rfl (by decide) ?_
        refine j_goto C 55 d_M_at_115 rfl ?_
        have e1 : mf_bt τ a k q b = b := by simp only [mf_bt, g2, g3, if_true, if_false]
        exact ih (q + 1) _ _ (i32_p1 q) (by omega) (by have K2 := K; rw [mf_bl, e1] at K2; exact K2)
      ·
        refine j_aload_n C d_M_at_83 rfl rfl ?_
        refine tgC C hK 10 0 5 d_M_at_84 in_M rfl rfl (by decide) t_381 rfl rfl rfl (by assumption) ?_
        refine j_iload C d_M_at_87 rfl ?_
        refine tla C hK 16 0 d_M_at_89 rfl hin rfl rfl (by assumption) ?_
        refine j_aload_n C d_M_at_90 rfl rfl ?_
        refine tgC C hK 10 0 5 d_M_at_91 in_M rfl rfl (by decide) t_381 rfl rfl rfl (by assumption) ?_
        refine j_iload C d_M_at_94 rfl ?_
        refine tla C hK 16 0 d_M_at_96 rfl hki rfl rfl (by assumption) ?_
        refine j_lcmp C d_M_at_97 ?_
        refine j_if_ge C 108 d_M_at_98 rfl (fun g4 => ?_) (fun g4 => ?_)
        ·
          refine j_iload C d_M_at_108 rfl ?_
          refine j_istore C d_M_at_110 (by decide) ?_
          refine j_iinc C d_M_at_112 rfl (by decide) ?_
          refine j_goto C 55 d_M_at_115 rfl ?_
          have e1 : mf_bt τ a k q b = b := by simp only [mf_bt, g2, g3, g4, if_true, if_false]
          exact ih (q + 1) _ _ (i32_p1 q) (by omega) (by have K2 := K; rw [mf_bl, e1] at K2; exact K2)
        ·
          refine j_iload C d_M_at_101 rfl ?_
          refine j_iconst (v := 1) C d_M_at_103 (by decide) ?_
          refine j_iadd C d_M_at_104 ?_
          refine j_goto C 110 d_M_at_105 rfl ?_
          refine j_istore C d_M_at_110 (by decide) ?_
          refine j_iinc C d_M_at_112 rfl (by decide) ?_
          refine j_goto C 55 d_M_at_115 rfl ?_
          have e1 : mf_bt τ a k q b = (b + 1) := by simp only [mf_bt, g2, g3, g4, if_true, if_false]
          exact ih (q + 1) _ _ (i32_p1 q) (by omega) (by have K2 := K; rw [mf_bl, e1] at K2; exact K2)
set_option maxRecDepth 100000 in
set_option maxHeartbeats 4000000 in
theorem lp_at2 {l : Launch} {D : va_G} {E : Nat → ClassId} {ad : Nat → Nat → Nat} {lv : Nat → Nat → Prop} {σ : sT} {τ : sT} {N : Int} (h : OKm τ lv N) {a t is0 : Int32} {R0 : Option Value} {p : Program} {e : Env} {s : State} {m : MethodId} {below : List Frame} {meth : Method} {c : Code} {sz : Nat} (C : CallFix p m c c_M_at 7 s ([.ref (ad 10 0), .int (a), .int (t)] : List Value).toArray jT "InputRoomModel") (hK : jK D jcl jY E s) (hret : meth.sig.returnType = some .int) (hlk : meth.locks = false) (hAz : ∀ q, s.heap.size ≤ q → jA ad lv sz q) : ∀ (n k : Nat) (ki : Int32), ki = nI k → k + n = 32 → R0 = some (.int (mf_at1 τ a t n k)) → JM l y_M_at c_M_at 7 (some .int) 0 D E ad lv p e s m below meth c sz [.ref (ad 10 0), .int (a), .int (t)] R0 (jv ad σ τ) (jv ad σ τ) 42 [some (.ref (ad 10 0)), some (.int (a)), some (.int (t)), some (.int (is0)), some (.int (ki)), none, none] [] := by
  intro n
  induction n with
  | zero =>
    intro k ki hq hn hR
    have hq : ki = nI 32 := by rw [hq]; congr 1
    subst hq
    refine j_iload C d_M_at_42 rfl ?_
    refine j_bipush (v := 32) C d_M_at_44 (by decide) ?_
    refine j_icmp_ge C 154 d_M_at_46 rfl (fun _ => ?_) (fun g1 => absurd (by decide) g1)
    refine j_iconst (v := -1) C d_M_at_154 (by decide) ?_
    refine j_iret C hret hlk d_M_at_155 ?_ ?_ rfl rfl
    · exact hR
    · rfl
  | succ n ih =>
    intro k ki hq hn hR
    subst hq
    have hki : vp_in (nI k) 32 := vp_in_nI (by omega) (by decide)
    have hge : ¬ 32 ≤ nI k := nI_ge (a := k) (b := 32) (by omega) (by decide)
    have hb10 : lv 10 0 := h.k (by decide) (by decide)
    have hb11 : lv 11 0 := h.k (by decide) (by decide)
    have hb12 : lv 12 0 := h.k (by decide) (by decide)
    have hb13 : lv 13 0 := h.k (by decide) (by decide)
    have hb14 : lv 14 0 := h.k (by decide) (by decide)
    have hb15 : lv 15 0 := h.k (by decide) (by decide)
    have hb16 : lv 16 0 := h.k (by decide) (by decide)
    have hb17 : lv 17 0 := h.k (by decide) (by decide)
    have hb18 : lv 18 0 := h.k (by decide) (by decide)
    have hb19 : lv 19 0 := h.k (by decide) (by decide)
    refine j_iload C d_M_at_42 rfl ?_
    refine j_bipush (v := 32) C d_M_at_44 (by decide) ?_
    refine j_icmp_ge C 154 d_M_at_46 rfl (fun g1 => absurd g1 hge) (fun _ => ?_)
    refine j_iconst (v := 0) C d_M_at_49 (by decide) ?_
    refine j_istore C d_M_at_50 (by decide) ?_
    refine j_iconst (v := 0) C d_M_at_52 (by decide) ?_
    refine j_istore C d_M_at_53 (by decide) ?_
    refine lp_at1 h hki C hK hret hlk hAz 32 0 0 0 rfl rfl ?_
    refine j_aload_n C d_M_at_118 rfl rfl ?_
    refine tgC C hK 10 0 0 d_M_at_119 in_M rfl rfl (by decide) t_376 rfl rfl rfl (by assumption) ?_
    refine j_iload C d_M_at_122 rfl ?_
    refine tza C hK 11 0 d_M_at_124 rfl hki rfl rfl (by assumption) ?_
    refine j_if_eq C 148 d_M_at_125 rfl (fun g2 => ?_) (fun g2 => ?_)
    ·
      refine j_iinc C d_M_at_148 rfl (by decide) ?_
      refine j_goto C 42 d_M_at_151 rfl ?_
      refine j_sub _ sub7b ?_
      exact ih (k + 1) _ (i32_p1 k) (by omega) (by rw [hR, mf_at1, if_pos g2])
    ·
      refine j_aload_n C d_M_at_128 rfl rfl ?_
      refine tgC C hK 10 0 4 d_M_at_129 in_M rfl rfl (by decide) t_380 rfl rfl rfl (by assumption) ?_
      refine j_iload C d_M_at_132 rfl ?_
      refine tia C hK 15 0 d_M_at_134 rfl hki rfl rfl (by assumption) ?_
      refine j_iload_n C d_M_at_135 rfl rfl ?_
      refine j_icmp_ne C 148 d_M_at_136 rfl (fun g3 => ?_) (fun g3 => ?_)
      ·
        refine j_iinc C d_M_at_148 rfl (by decide) ?_
        refine j_goto C 42 d_M_at_151 rfl ?_
        refine j_sub _ sub7b ?_
        exact ih (k + 1) _ (i32_p1 k) (by omega) (by rw [hR, mf_at1, if_neg g2, if_neg g3])
      ·
        refine j_iload C d_M_at_139 rfl ?_
        refine j_iload_n C d_M_at_141 rfl rfl ?_
        refine j_icmp_ne C 148 d_M_at_142 rfl (fun g4 => ?_) (fun g4 => ?_)
        ·
          refine j_iinc C d_M_at_148 rfl (by decide) ?_
          refine j_goto C 42 d_M_at_151 rfl ?_
          refine j_sub _ sub7b ?_
          exact ih (k + 1) _ (i32_p1 k) (by omega) (by rw [hR, mf_at1, if_neg g2, if_pos g3, if_neg g4])
        ·
          refine j_iload C d_M_at_145 rfl ?_
          refine j_iret C hret hlk d_M_at_147 ?_ ?_ rfl rfl
          · rw [hR, mf_at1, if_neg g2, if_pos g3, if_pos g4]
          · rfl
set_option maxRecDepth 100000 in
set_option maxHeartbeats 4000000 in
theorem m_at {l : Launch} {D : va_G} {E : Nat → ClassId} {ad : Nat → Nat → Nat} {lv : Nat → Nat → Prop} {σ τ : sT} {N : Int} (h : OKm τ lv N) {a t : Int32} : jM l y_M_at c_M_at 7 (some .int) 0 D E ad lv (jv ad σ τ) [.ref (ad 10 0), .int (a), .int (t)] (some (.int (d_at τ a t))) (jv ad σ τ) := by
  intro sz
  refine jC.of "InputRoomModel" (by decide +kernel) rfl rfl (Nat.le_of_ble_eq_true rfl) (by intro v hv; simp only [List.mem_cons, List.not_mem_nil, or_false] at hv; rcases hv with rfl | rfl | rfl <;> first | rfl | exact jrf_cat _) ?_
  intro p e s m below meth c C hK hret hlk hnm hsz hAz
  have hb10 : lv 10 0 := h.k (by decide) (by decide)
  have hb11 : lv 11 0 := h.k (by decide) (by decide)
  have hb12 : lv 12 0 := h.k (by decide) (by decide)
  have hb13 : lv 13 0 := h.k (by decide) (by decide)
  have hb14 : lv 14 0 := h.k (by decide) (by decide)
  have hb15 : lv 15 0 := h.k (by decide) (by decide)
  have hb16 : lv 16 0 := h.k (by decide) (by decide)
  have hb17 : lv 17 0 := h.k (by decide) (by decide)
  have hb18 : lv 18 0 := h.k (by decide) (by decide)
  have hb19 : lv 19 0 := h.k (by decide) (by decide)
  refine j_iload_n C d_M_at_0 rfl rfl ?_
  refine j_iconst (v := 1) C d_M_at_1 (by decide) ?_
  refine j_icmp_lt C 11 d_M_at_2 rfl (fun g1 => ?_) (fun g1 => ?_)
  ·
    refine j_iload_n C d_M_at_11 rfl rfl ?_
    refine j_bipush (v := 16) C d_M_at_12 (by decide) ?_
    refine j_icmp_lt C 27 d_M_at_14 rfl (fun g2 => ?_) (fun g2 => ?_)
    ·
      refine j_iconst (v := 0) C d_M_at_27 (by decide) ?_
      refine j_istore_n C d_M_at_28 rfl (by decide) ?_
      have hq : ¬ isRw a := by
        rintro (⟨z1, z2⟩ | ⟨z1, z2⟩)
        · exact z1 g1
        · exact z1 g2
      refine j_iload_n C d_M_at_29 rfl rfl ?_
      refine j_if_eq C 37 d_M_at_30 rfl (fun _ => ?_) (fun g3 => absurd rfl g3)
      refine j_iconst (v := -1) C d_M_at_37 (by decide) ?_
      refine j_iret C hret hlk d_M_at_38 ?_ ?_ rfl rfl
      · rw [d_at, if_neg hq]
      · rfl
    ·
      refine j_iload_n C d_M_at_17 rfl rfl ?_
      refine j_bipush (v := 31) C d_M_at_18 (by decide) ?_
      refine j_icmp_gt C 27 d_M_at_20 rfl (fun g4 => ?_) (fun g4 => ?_)
      ·
        refine j_iconst (v := 0) C d_M_at_27 (by decide) ?_
        refine j_istore_n C d_M_at_28 rfl (by decide) ?_
        have hq : ¬ isRw a := by
          rintro (⟨z1, z2⟩ | ⟨z1, z2⟩)
          · exact z1 g1
          · exact z2 g4
        refine j_iload_n C d_M_at_29 rfl rfl ?_
        refine j_if_eq C 37 d_M_at_30 rfl (fun _ => ?_) (fun g5 => absurd rfl g5)
        refine j_iconst (v := -1) C d_M_at_37 (by decide) ?_
        refine j_iret C hret hlk d_M_at_38 ?_ ?_ rfl rfl
        · rw [d_at, if_neg hq]
        · rfl
      ·
        refine j_iconst (v := 1) C d_M_at_23 (by decide) ?_
        refine j_goto C 28 d_M_at_24 rfl ?_
        refine j_istore_n C d_M_at_28 rfl (by decide) ?_
        have hq : isRw a := Or.inr ⟨g2, g4⟩
        refine j_iload_n C d_M_at_29 rfl rfl ?_
        refine j_if_eq C 37 d_M_at_30 rfl (fun g6 => absurd g6 (by decide)) (fun _ => ?_)
        refine j_iload_n C d_M_at_33 rfl rfl ?_
        refine j_if_ge C 39 d_M_at_34 rfl (fun g7 => ?_) (fun g7 => ?_)
        ·
          refine j_iconst (v := 0) C d_M_at_39 (by decide) ?_
          refine j_istore C d_M_at_40 (by decide) ?_
          exact lp_at2 h C hK hret hlk hAz 32 0 0 rfl rfl (by rw [d_at, if_pos hq, if_pos g7])
        ·
          refine j_iconst (v := -1) C d_M_at_37 (by decide) ?_
          refine j_iret C hret hlk d_M_at_38 ?_ ?_ rfl rfl
          · rw [d_at, if_pos hq, if_neg g7]
          · rfl
  ·
    refine j_iload_n C d_M_at_5 rfl rfl ?_
    refine j_bipush (v := 8) C d_M_at_6 (by decide) ?_
    refine j_icmp_le C 23 d_M_at_8 rfl (fun g8 => ?_) (fun g8 => ?_)
    ·
      refine j_iconst (v := 1) C d_M_at_23 (by decide) ?_
      refine j_goto C 28 d_M_at_24 rfl ?_
      refine j_istore_n C d_M_at_28 rfl (by decide) ?_
      have hq : isRw a := Or.inl ⟨g1, g8⟩
      refine j_iload_n C d_M_at_29 rfl rfl ?_
      refine j_if_eq C 37 d_M_at_30 rfl (fun g9 => absurd g9 (by decide)) (fun _ => ?_)
      refine j_iload_n C d_M_at_33 rfl rfl ?_
      refine j_if_ge C 39 d_M_at_34 rfl (fun g10 => ?_) (fun g10 => ?_)
      ·
        refine j_iconst (v := 0) C d_M_at_39 (by decide) ?_
        refine j_istore C d_M_at_40 (by decide) ?_
        exact lp_at2 h C hK hret hlk hAz 32 0 0 rfl rfl (by rw [d_at, if_pos hq, if_pos g10])
      ·
        refine j_iconst (v := -1) C d_M_at_37 (by decide) ?_
        refine j_iret C hret hlk d_M_at_38 ?_ ?_ rfl rfl
        · rw [d_at, if_pos hq, if_neg g10]
        · rfl
    ·
      refine j_iload_n C d_M_at_11 rfl rfl ?_
      refine j_bipush (v := 16) C d_M_at_12 (by decide) ?_
      refine j_icmp_lt C 27 d_M_at_14 rfl (fun g11 => ?_) (fun g11 => ?_)
      ·
        refine j_iconst (v := 0) C d_M_at_27 (by decide) ?_
        refine j_istore_n C d_M_at_28 rfl (by decide) ?_
        have hq : ¬ isRw a := by
          rintro (⟨z1, z2⟩ | ⟨z1, z2⟩)
          · exact g8 z2
          · exact z1 g11
        refine j_iload_n C d_M_at_29 rfl rfl ?_
        refine j_if_eq C 37 d_M_at_30 rfl (fun _ => ?_) (fun g12 => absurd rfl g12)
        refine j_iconst (v := -1) C d_M_at_37 (by decide) ?_
        refine j_iret C hret hlk d_M_at_38 ?_ ?_ rfl rfl
        · rw [d_at, if_neg hq]
        · rfl
      ·
        refine j_iload_n C d_M_at_17 rfl rfl ?_
        refine j_bipush (v := 31) C d_M_at_18 (by decide) ?_
        refine j_icmp_gt C 27 d_M_at_20 rfl (fun g13 => ?_) (fun g13 => ?_)
        ·
          refine j_iconst (v := 0) C d_M_at_27 (by decide) ?_
          refine j_istore_n C d_M_at_28 rfl (by decide) ?_
          have hq : ¬ isRw a := by
            rintro (⟨z1, z2⟩ | ⟨z1, z2⟩)
            · exact g8 z2
            · exact z2 g13
          refine j_iload_n C d_M_at_29 rfl rfl ?_
          refine j_if_eq C 37 d_M_at_30 rfl (fun _ => ?_) (fun g14 => absurd rfl g14)
          refine j_iconst (v := -1) C d_M_at_37 (by decide) ?_
          refine j_iret C hret hlk d_M_at_38 ?_ ?_ rfl rfl
          · rw [d_at, if_neg hq]
          · rfl
        ·
          refine j_iconst (v := 1) C d_M_at_23 (by decide) ?_
          refine j_goto C 28 d_M_at_24 rfl ?_
          refine j_istore_n C d_M_at_28 rfl (by decide) ?_
          have hq : isRw a := Or.inr ⟨g11, g13⟩
          refine j_iload_n C d_M_at_29 rfl rfl ?_
          refine j_if_eq C 37 d_M_at_30 rfl (fun g15 => absurd g15 (by decide)) (fun _ => ?_)
          refine j_iload_n C d_M_at_33 rfl rfl ?_
          refine j_if_ge C 39 d_M_at_34 rfl (fun g16 => ?_) (fun g16 => ?_)
          ·
            refine j_iconst (v := 0) C d_M_at_39 (by decide) ?_
            refine j_istore C d_M_at_40 (by decide) ?_
            exact lp_at2 h C hK hret hlk hAz 32 0 0 rfl rfl (by rw [d_at, if_pos hq, if_pos g16])
          ·
            refine j_iconst (v := -1) C d_M_at_37 (by decide) ?_
            refine j_iret C hret hlk d_M_at_38 ?_ ?_ rfl rfl
            · rw [d_at, if_pos hq, if_neg g16]
            · rfl
end
section
set_option maxRecDepth 100000 in
set_option maxHeartbeats 4000000 in
theorem i_Row {l : Launch} {D : va_G} {E : Nat → ClassId} {ad : Nat → Nat → Nat} {lv : Nat → Nat → Prop} {V : jVT} {r : Nat} {a : Int32} (hl : lv 6 r) (sz : Nat)  : jC l y_R_init (Cond.code y_R_init c_R_init 2 (none) :: jT) { frames := 1, cells := 0, slots := 0, locals := 30 } D jcl jY E ad lv sz V [.ref (ad 6 r), .int a] none (lv) (jup V 6 r 0 (.int a)) (sz) 0 0 := by
  refine jC.of "InputRoom$Row" (by decide +kernel) rfl rfl (Nat.le_of_ble_eq_true rfl) (by intro v hv; simp only [List.mem_cons, List.not_mem_nil, or_false] at hv; rcases hv with rfl | rfl <;> rfl) ?_
  intro p e s m below meth c C hK hret hlk hnm hsz hAz
  refine j_aload_n C d_R_init_0 rfl rfl ?_
  refine j_objInit C d_R_init_1 t_76 t_44 t_45 (by decide) (Nat.le_of_ble_eq_true rfl) ?_
  refine j_aload_n C d_R_init_4 rfl rfl ?_
  refine j_iload_n C d_R_init_5 rfl rfl ?_
  refine j_putF C hK 6 r 0 ty_R tk_R nm_R d_R_init_6 in_R rfl rfl (by decide) t_77 rfl rfl hnm rfl rfl rfl (by first | assumption | exact Or.inl (by assumption) | exact Or.inr ⟨rfl, rfl⟩ | exact Or.inl (Or.inl (by assumption)) | exact Or.inl (Or.inr ⟨rfl, rfl⟩)) ?_
  refine j_vret C hret hlk d_R_init_9 rfl rfl rfl rfl
set_option maxRecDepth 100000 in
set_option maxHeartbeats 4000000 in
theorem i_Sem {l : Launch} {D : va_G} {E : Nat → ClassId} {ad : Nat → Nat → Nat} {lv : Nat → Nat → Prop} {V : jVT} {n r : Nat} {a : Int32} (hl : lv 7 n) (hf : ¬ lv 6 r) (sz : Nat) (had : ad 6 r = sz) : jC l y_S_init (Cond.code y_S_init c_S_init 2 (none) :: jT) { frames := 2, cells := 1, slots := 3, locals := 60 } D jcl jY E ad lv sz V [.ref (ad 7 n), .int a] none (jlv lv 6 r) (jup (jup (jnw (jup V 7 n 0 (.int a)) 6 r (fun j => defaultValue (ty_R j))) 6 r 0 (.int (16 + a))) 7 n 1 (.ref (ad 6 r))) (sz + 1) 1 3 := by
  refine jC.of "InputRoom$Semaphore" (by decide +kernel) rfl rfl (Nat.le_of_ble_eq_true rfl) (by intro v hv; simp only [List.mem_cons, List.not_mem_nil, or_false] at hv; rcases hv with rfl | rfl <;> rfl) ?_
  intro p e s m below meth c C hK hret hlk hnm hsz hAz
  refine j_aload_n C d_S_init_0 rfl rfl ?_
  refine j_objInit C d_S_init_1 t_91 t_44 t_45 (by decide) (Nat.le_of_ble_eq_true rfl) ?_
  refine j_aload_n C d_S_init_4 rfl rfl ?_
  refine j_iload_n C d_S_init_5 rfl rfl ?_
  refine j_putF C hK 7 n 0 ty_S tk_S nm_S d_S_init_6 in_S rfl rfl (by decide) t_94 rfl rfl hnm rfl rfl rfl (by first | assumption | exact Or.inl (by assumption) | exact Or.inr ⟨rfl, rfl⟩ | exact Or.inl (Or.inl (by assumption)) | exact Or.inl (Or.inr ⟨rfl, rfl⟩)) ?_
  refine j_aload_n C d_S_init_9 rfl rfl ?_
  refine j_new C hK hAz 6 r ty_R tk_R d_S_init_10 in_R t_92 t_72 t_33 rfl rfl hf had (by decide) (by decide) ?_
  refine j_dup C d_S_init_13 rfl ?_
  refine j_bipush (v := 16) C d_S_init_14 (by decide) ?_
  refine j_iload_n C d_S_init_16 rfl rfl ?_
  refine j_iadd C d_S_init_17 ?_
  refine j_callI C hK hAz (i_Row (r := r) (a := 16 + a) (Or.inr ⟨rfl, rfl⟩) _) ⟨jcB C mi_R_init t_93 rfl rfl ⟨by decide, by decide⟩, rfl, C.2.2.2.2 _ t_74⟩ rfl rfl (Nat.le_of_ble_eq_true rfl) d_S_init_18 ⟨by decide, by decide⟩ ?_
  refine j_putF C hK 7 n 1 ty_S tk_S nm_S d_S_init_21 in_S rfl rfl (by decide) t_96 rfl rfl hnm rfl rfl rfl (Or.inl hl) ?_
  refine j_vret C hret hlk d_S_init_24 rfl rfl rfl rfl
set_option maxRecDepth 100000 in
set_option maxHeartbeats 4000000 in
theorem i_Words {l : Launch} {D : va_G} {E : Nat → ClassId} {ad : Nat → Nat → Nat} {lv : Nat → Nat → Prop} {V : jVT} (hl : lv 4 0) (hf : ¬ lv 5 0) (sz : Nat) (had : ad 5 0 = sz) : jC l y_W_init (Cond.code y_W_init c_W_init 1 (none) :: jT) { frames := 1, cells := 1, slots := 64, locals := 30 } D jcl jY E ad lv sz V [.ref (ad 4 0)] none (jlv lv 5 0) (jup (jnw V 5 0 (fun _ => .int 0)) 4 0 0 (.ref (ad 5 0))) (sz + 1) 1 64 := by
  refine jC.of "InputRoom$Words" (by decide +kernel) rfl rfl (Nat.le_of_ble_eq_true rfl) (by intro v hv; simp only [List.mem_cons, List.not_mem_nil, or_false] at hv; rcases hv with rfl <;> rfl) ?_
  intro p e s m below meth c C hK hret hlk hnm hsz hAz
  refine j_aload_n C d_W_init_0 rfl rfl ?_
  refine j_objInit C d_W_init_1 t_57 t_44 t_45 (by decide) (Nat.le_of_ble_eq_true rfl) ?_
  refine j_aload_n C d_W_init_4 rfl rfl ?_
  refine j_bipush (v := 64) C d_W_init_5 (by decide) ?_
  refine j_newa C hK hAz 5 0 d_W_init_7 t_71 rfl (by decide) (by decide) (by decide) hf had (by decide) (by decide) ?_
  refine j_putF C hK 4 0 0 ty_W tk_W nm_W d_W_init_9 in_W rfl rfl (by decide) t_58 rfl rfl hnm rfl rfl rfl (Or.inl hl) ?_
  refine j_vret C hret hlk d_W_init_12 rfl rfl rfl rfl
set_option maxRecDepth 100000 in
set_option maxHeartbeats 4000000 in
theorem i_Proc {l : Launch} {D : va_G} {E : Nat → ClassId} {ad : Nat → Nat → Nat} {lv : Nat → Nat → Prop} {V : jVT} {x r : Nat} {a b : Int32} (hl : lv 8 x) (hf : ¬ lv 9 x) (sz : Nat) (had : ad 9 x = sz) : jC l y_P_init (Cond.code y_P_init c_P_init 4 (none) :: jT) { frames := 1, cells := 1, slots := 8, locals := 30 } D jcl jY E ad lv sz V [.ref (ad 8 x), .int a, .int b, .ref (ad 6 r)] none (jlv lv 9 x) (jup (jup (jup (jup (jup (jnw V 9 x (fun _ => .int 0)) 8 x 3 (.ref (ad 9 x))) 8 x 5 (.int 0)) 8 x 0 (.int a)) 8 x 1 (.int b)) 8 x 2 (.ref (ad 6 r))) (sz + 1) 1 8 := by
  refine jC.of "InputRoom$Proc" (by decide +kernel) rfl rfl (Nat.le_of_ble_eq_true rfl) (by intro v hv; simp only [List.mem_cons, List.not_mem_nil, or_false] at hv; rcases hv with rfl | rfl | rfl | rfl <;> rfl) ?_
  intro p e s m below meth c C hK hret hlk hnm hsz hAz
  refine j_aload_n C d_P_init_0 rfl rfl ?_
  refine j_objInit C d_P_init_1 t_151 t_44 t_45 (by decide) (Nat.le_of_ble_eq_true rfl) ?_
  refine j_aload_n C d_P_init_4 rfl rfl ?_
  refine j_bipush (v := 8) C d_P_init_5 (by decide) ?_
  refine j_newa C hK hAz 9 x d_P_init_7 t_71 rfl (by decide) (by decide) (by decide) hf had (by decide) (by decide) ?_
  refine j_putF C hK 8 x 3 ty_P tk_P nm_P d_P_init_9 in_P rfl rfl (by decide) t_158 rfl rfl hnm rfl rfl rfl (Or.inl hl) ?_
  refine j_aload_n C d_P_init_12 rfl rfl ?_
  refine j_iconst (v := 0) C d_P_init_13 (by decide) ?_
  refine j_put C hK 8 x 5 ty_P tk_P nm_P d_P_init_14 in_P rfl rfl (by decide) t_162 rfl rfl rfl rfl (Or.inl hl) ?_
  refine j_aload_n C d_P_init_17 rfl rfl ?_
  refine j_iload_n C d_P_init_18 rfl rfl ?_
  refine j_putF C hK 8 x 0 ty_P tk_P nm_P d_P_init_19 in_P rfl rfl (by decide) t_152 rfl rfl hnm rfl rfl rfl (Or.inl hl) ?_
  refine j_aload_n C d_P_init_22 rfl rfl ?_
  refine j_iload_n C d_P_init_23 rfl rfl ?_
  refine j_putF C hK 8 x 1 ty_P tk_P nm_P d_P_init_24 in_P rfl rfl (by decide) t_154 rfl rfl hnm rfl rfl rfl (Or.inl hl) ?_
  refine j_aload_n C d_P_init_27 rfl rfl ?_
  refine j_aload_n C d_P_init_28 rfl rfl ?_
  refine j_putF C hK 8 x 2 ty_P tk_P nm_P d_P_init_29 in_P rfl rfl (by decide) t_156 rfl rfl hnm rfl rfl rfl (Or.inl hl) ?_
  refine j_vret C hret hlk d_P_init_32 rfl rfl rfl rfl
end
section
/-- how many fields or elements a kind has -/
def jN (k : Nat) : Nat := match jY k with
  | .inl ci => match jcl[ci]? with
    | some r => r.2.2
    | none => 0
  | .inr q => q.2
theorem arrV_congr {cI : ClassId} {N : Nat} {f g : Nat → Value} (h : ∀ j, j < N → f j = g j) : arrV cI N f = arrV cI N g := by
  unfold arrV
  have e : (fun j : Fin N => f j.val) = fun j : Fin N => g j.val := by funext j; exact h j.val j.isLt
  rw [e]
theorem jat.congr {D : va_G} {E : Nat → ClassId} {a k : Nat} {f g : Nat → Value} {H : Heap} (h : jat D jcl jY E a k f H) (hfg : ∀ j, j < jN k → f j = g j) : jat D jcl jY E a k g H := by
  unfold jat at h ⊢
  unfold jN at hfg
  cases hy : jY k with
  | inl ci =>
    rw [hy] at h
    dsimp only at h ⊢
    obtain ⟨r, h1, h2⟩ := h
    rw [hy] at hfg
    dsimp only at hfg
    rw [h1] at hfg
    exact ⟨r, h1, h2.to hfg⟩
  | inr q =>
    rw [hy] at h
    rw [hy] at hfg
    dsimp only at h hfg ⊢
    rw [← arrV_congr hfg]
    exact h
theorem jW.congr {D : va_G} {E : Nat → ClassId} {ad : Nat → Nat → Nat} {lv : Nat → Nat → Prop} {V V' : jVT} {A : Nat → Prop} {H : Heap} (h : jW D jcl jY E ad lv V A H) (hv : ∀ k i, lv k i → ∀ j, j < jN k → V k i j = V' k i j) : jW D jcl jY E ad lv V' A H := ⟨fun k i hl => ⟨(h.1 k i hl).1.congr (hv k i hl), (h.1 k i hl).2⟩, h.2⟩
/-- the addresses may change where nothing lives -/
theorem jW.readr {D : va_G} {E : Nat → ClassId} {ad ad' : Nat → Nat → Nat} {lv : Nat → Nat → Prop} {V : jVT} {A : Nat → Prop} {H : Heap} (h : jW D jcl jY E ad lv V A H) (hv : ∀ k i, lv k i → ad' k i = ad k i) : jW D jcl jY E ad' lv V A H := ⟨fun k i hl => by rw [hv k i hl]; exact h.1 k i hl, fun k i k' i' hl hl' he => h.2 k i k' i' hl hl' (by rw [← hv k i hl, ← hv k' i' hl']; exact he)⟩
section JCONV
variable {p : Program} {l : Launch} {e : Env} {R : Room} {s : State} {m : MethodId} {args : Array Value} {below : List Frame} {meth : Method} {c : Code} {cells slots z : Nat} {Q : State → Prop} {D : va_G} {E : Nat → ClassId} {ad : Nat → Nat → Nat} {lv : Nat → Nat → Prop} {A : Nat → Prop} {H0 : Heap} {cc : ByteArray} {nL : Nat} {own : String}
variable {V V1 : jVT} {pc z1 mc ms : Nat} {lv1 lv' : Nat → Nat → Prop} {lsv : List (Option Value)} {rest : List Value} {r : Option Value} {y : MethodName} {bytes : ByteArray} {maxL n index : Nat} {ret : Option FieldType} {ws : List Cond} {rm : Room} {As : List Value} {stk : List Value}
theorem j_lv (h : ∀ k i, lv k i ↔ lv' k i) (kk : J p l e R s m args below meth c Q D jcl jY E ad A H0 nL cells slots z lv' V pc lsv stk) : J p l e R s m args below meth c Q D jcl jY E ad A H0 nL cells slots z lv V pc lsv stk := by
  have e : lv = lv' := by funext k i; exact propext (h k i)
  rw [e]; exact kk
theorem j_Vc {V' : jVT} (hv : ∀ k i, lv k i → ∀ j, j < jN k → V k i j = V' k i j) (kk : J p l e R s m args below meth c Q D jcl jY E ad A H0 nL cells slots z lv V' pc lsv stk) : J p l e R s m args below meth c Q D jcl jY E ad A H0 nL cells slots z lv V pc lsv stk := fun H locs ls hz hW hS hl => kk H locs ls hz (hW.congr hv) hS hl
theorem j_z {z' : Nat} (h : z = z') (kk : J p l e R s m args below meth c Q D jcl jY E ad A H0 nL cells slots z' lv V pc lsv stk) : J p l e R s m args below meth c Q D jcl jY E ad A H0 nL cells slots z lv V pc lsv stk := by subst h; exact kk
theorem j_newqA (C : CallFix p m c cc nL s args jT own) (hK : jK D jcl jY E s) (hAz : ∀ q, H0.size ≤ q → A q) {n index : Nat} {x : Int32} {Cn : String} (k i : Nat) (d : decode cc pc = .ok (.anewarray index, 3)) (hcl : Cond.classLink own index Cn ∈ jT) (harr : va_AO Cn s) (hY : jY k = .inr (.object Cn, n)) (hx : ¬ x < 0) (hN : x.toNatClampNeg = n) (hbytes : n * 4 ≤ 536870912) (hf : ¬ lv k i) (had : ad k i = z) (hcells : cells + 1 ≤ R.cells) (hslots : slots + n ≤ R.slots)
    (kk : J p l e R s m args below meth c Q D jcl jY E ad A H0 nL (cells + 1) (slots + n) (z + 1) (jlv lv k i) (jnw V k i (fun _ => .null)) (pc + 3) lsv (.ref (ad k i) :: rest)) : J p l e R s m args below meth c Q D jcl jY E ad A H0 nL cells slots z lv V pc lsv (.int x :: rest) := by
  intro H locs ls hz hW hS hl
  subst hN
  refine W.anew C.1 C.2.1 C.2.2.2.1 (C.2.2.2.2 _ hcl) (va_AO.use harr) rfl d rfl hx hbytes hcells hslots fun cA kA comp f1 f2 f3 f4 => ?_
  have hH : ad k i = H.size := had.trans hz.symm
  obtain ⟨kA', comp', g1, g2, g3, g4⟩ := (hK.2 k _ hY).2
  have hcA : cA = E k := Option.some.inj (f1.symm.trans g4)
  generalize hH1 : H.push ({ cls := cA, slots := Array.replicate x.toNatClampNeg .null, vm := .none } : Cell) = H1
  have z1 : H1.size = H.size + 1 := by rw [← hH1, Array.size_push]
  have e1 : H1[H.size]? = some (arrV cA x.toNatClampNeg (fun _ => .null)) := by rw [← hH1, Array.getElem?_push_size, ← arrV_new]
  have o1 : ∀ q : Nat, q < H.size → H1[q]? = H[q]? := fun q hq => by rw [← hH1, Array.getElem?_push, if_neg (Nat.ne_of_lt hq)]
  rw [← hH]
  refine kk H1 locs ls (by rw [z1, hz]) (hW.new hf hH ?_ (hAz _ (by rw [hH]; exact hS.1)) o1) ⟨Nat.le_trans hS.1 (by omega), fun x h1 h2 => (o1 x (Nat.lt_of_lt_of_le h1 hS.1)).trans (hS.2.1 x h1 h2), hS.2.2⟩ hl
  unfold jat
  rw [hY]
  rw [← hcA, hH]
  exact e1
/-- a constructor that is private to its nest -/
theorem j_callIN (C : CallFix p m c cc nL s args jT own) (hK : jK D jcl jY E s) (hAz : ∀ q, H0.size ≤ q → A q) {b : Nat} {host : String} (hM : jC l y ws rm D jcl jY E ad lv z V (.ref b :: As) r lv1 V1 z1 mc ms) (cw : va_CN R s args own index y host bytes maxL none ws rm mc ms n ∧ y.name = "<init>" ∧ (Cond.instanceMethod y).before args s = true) (hn : As.length = n) (hstk : stk = As.reverse ++ .ref b :: rest) (hroom : (rest.map fun v => v.category).sum ≤ 8) (d : decode cc pc = .ok (.invokespecial index, 3)) (hf : cells + mc ≤ R.cells ∧ slots + ms ≤ R.slots)
    (kk : J p l e R s m args below meth c Q D jcl jY E ad A H0 nL (cells + mc) (slots + ms) z1 lv1 V1 (pc + 3) lsv (jpush r rest)) : J p l e R s m args below meth c Q D jcl jY E ad A H0 nL cells slots z lv V pc lsv stk := by
  refine j_back hAz (fun H locs ls hz hW hls => ?_) kk
  exact va_runIN C hM cw ⟨jblind, fun U hU hWm => ⟨rfl, by rw [hU]; exact hz, by rw [hU]; exact hW.wide (fun _ _ _ => trivial), hK.moved hWm.alike⟩⟩ rfl hn hls.1 hstk (lv_room hroom) d hf
end JCONV
/-- a contract whose start says more of the tables -/
theorem jC.ofX {l : Launch} {y : MethodName} {ws ws' : List Cond} {rm : Room} {D : va_G} {E : Nat → ClassId} {ad : Nat → Nat → Nat} {lv lv' : Nat → Nat → Prop} {sz sz' mc ms : Nat} {V V' : jVT} {vs : List Value} {r : Option Value} {cc : ByteArray} {maxL : Nat} {ret : Option FieldType} {EX : State → Prop} (own : String)
    (hy : plainName y.cls = true) (hw : ws = Cond.code y cc maxL ret :: ws') (hown : y.cls = own) (hlen : vs.length ≤ maxL) (hcat : ∀ v ∈ vs, v.category = 1)
    (body : ∀ (p : Program) (e : Env) (s : State) (m : MethodId) (below : List Frame) (meth : Method) (c : Code), CallFix p m c cc maxL s vs.toArray ws' own → jK D jcl jY E s → meth.sig.returnType = ret → meth.locks = false → meth.name = y.name → s.heap.size = sz → (∀ q, s.heap.size ≤ q → jA ad lv sz q) → EX s → J p l e (headSpec ws rm).room s m vs.toArray below meth c (MQ below (jQ D jcl jY E ad lv sz r lv' V' sz') vs.toArray s mc ms (jA ad lv sz)) D jcl jY E ad (jA ad lv sz) s.heap maxL 0 0 sz lv V 0 (jargs vs maxL) []) : Met l y ws rm (va_Pc vs (fun U => (U.heap.size = sz ∧ jW D jcl jY E ad lv V (fun _ => True) U.heap ∧ jK D jcl jY E U) ∧ EX U)) (jQ D jcl jY E ad lv sz r lv' V' sz') mc ms (jA ad lv sz) := by
  refine Met.ofW (cc := cc) (maxL := maxL) (ret := ret) hy hw ?_
  intro p e s m args below meth c s₁ B hml hv
  obtain ⟨rfl, ⟨hsz, hW, hK⟩, hex⟩ := hv
  have hts : ∀ w ∈ ws', w.before vs.toArray s = true := fun w h => atoms_spec (ws := ws) B.pre w (by rw [hw]; exact List.mem_cons_of_mem _ h)
  have hown' : s.vm.findClass own = some m.cls := by rw [← hown]; exact findClass_of_methodNamed B.named
  rw [lg_entry_eq]
  exact body p e s m below meth c ⟨B.exec, B.bytes, hml, hown', hts⟩ hK B.returns B.notSynchronized (name_of_methodNamed B.named B.method).1 hsz (fun q hq => Or.inr (by rw [← hsz]; exact hq)) hex s.heap [] _ hsz (hW.wide (fun k i hl => Or.inl ⟨k, i, hl, rfl⟩)) va_S.rf (jh_entry vs hlen hcat)
/-- what the room's own constructor needs of the tables beside jT -/
def EXX (U : State) : Prop := va_AO "InputRoom$Proc" U ∧ va_AO "InputRoom$Row" U ∧ va_AO "InputRoom$Semaphore" U ∧ va_Nw (.methodLinkNest "InputRoom" 29 y_W_init "InputRoom") U
def lvM (lv : Nat → Nat → Prop) (n : Nat) : Nat → Nat → Prop := match n with
  | 0 => lv
  | n + 1 => jlv (lvM lv n) (11 + n) 0
theorem lvM_iff {lv : Nat → Nat → Prop} : ∀ (n k i : Nat), lvM lv n k i ↔ (lv k i ∨ (11 ≤ k ∧ k < 11 + n ∧ i = 0))
  | 0, k, i => by constructor
                  · exact Or.inl
                  · rintro (h | h)
                    · exact h
                    · omega
  | n + 1, k, i => by
    unfold lvM jlv
    rw [lvM_iff n]
    constructor
    · rintro ((h | h) | h)
      · exact Or.inl h
      · exact Or.inr (by omega)
      · exact Or.inr (by omega)
    · rintro (h | h)
      · exact Or.inl (Or.inl h)
      · by_cases q : k = 11 + n
        · exact Or.inr ⟨q, h.2.2⟩
        · exact Or.inl (Or.inr (by omega))
theorem lvM_fresh {lv : Nat → Nat → Prop} (hf : ∀ k, 11 ≤ k → k < 20 → ¬ lv k 0) (k n : Nat) (h1 : 11 ≤ k) (h2 : k < 20) (h3 : k = 11 + n) : ¬ lvM lv n k 0 := by
  rw [lvM_iff]
  rintro (h | h)
  · exact hf k h1 h2 h
  · omega
theorem lvM_10 {lv : Nat → Nat → Prop} (h : lv 10 0) (n : Nat) : lvM lv n 10 0 := (lvM_iff n 10 0).mpr (Or.inl h)
def vM0 (ad : Nat → Nat → Nat) (V : jVT) : jVT := (jup (jnw (jup (jup (jup (jnw (jup (jup (jup (jnw (jup (jnw (jup (jnw (jup (jnw (jup (jnw (jup (jnw (jup (jnw V 11 0 (fun _ => .int 0)) 10 0 0 (.ref (ad 11 0))) 12 0 (fun _ => .int 0)) 10 0 1 (.ref (ad 12 0))) 13 0 (fun _ => .int 0)) 10 0 2 (.ref (ad 13 0))) 14 0 (fun _ => .int 0)) 10 0 3 (.ref (ad 14 0))) 15 0 (fun _ => .int 0)) 10 0 4 (.ref (ad 15 0))) 16 0 (fun _ => .long 0)) 10 0 5 (.ref (ad 16 0))) 17 0 (fun _ => .int 0)) 10 0 7 (.ref (ad 17 0))) 10 0 8 (.int (-1))) 10 0 10 (.int (-1))) 18 0 (fun _ => .int 0)) 10 0 11 (.ref (ad 18 0))) 10 0 14 (.int (-1))) 10 0 15 (.int (-1))) 19 0 (fun _ => .int 0)) 10 0 19 (.ref (ad 19 0)))
set_option maxRecDepth 100000 in
set_option maxHeartbeats 4000000 in
theorem i_Model {l : Launch} {D : va_G} {E : Nat → ClassId} {ad : Nat → Nat → Nat} {lv : Nat → Nat → Prop} {V : jVT} (hl : lv 10 0) (hf : ∀ k, 11 ≤ k → k < 20 → ¬ lv k 0) (sz : Nat) (had : ∀ k, 11 ≤ k → k < 20 → ad k 0 = sz + (k - 11)) : jC l y_M_init (Cond.code y_M_init c_M_init 1 (none) :: jT) { frames := 1, cells := 9, slots := 561, locals := 30 } D jcl jY E ad lv sz V [.ref (ad 10 0)] none (lvM lv 9) (vM0 ad V) (sz + 9) 9 561 := by
  refine jC.of "InputRoomModel" (by decide +kernel) rfl rfl (Nat.le_of_ble_eq_true rfl) (by intro v hv; simp only [List.mem_cons, List.not_mem_nil, or_false] at hv; rcases hv with rfl <;> rfl) ?_
  intro p e s m below meth c C hK hret hlk hnm hsz hAz
  refine j_aload_n C d_M_init_0 rfl rfl ?_
  refine j_objInit C d_M_init_1 t_375 t_44 t_45 (by decide) (Nat.le_of_ble_eq_true rfl) ?_
  refine j_aload_n C d_M_init_4 rfl rfl ?_
  refine j_bipush (v := 32) C d_M_init_5 (by decide) ?_
  refine j_newz C hK hAz 11 0 d_M_init_7 t_440 rfl (by decide) (by decide) (by decide) (lvM_fresh hf 11 0 (by decide) (by decide) rfl) (had 11 (by decide) (by decide)) (by decide) (by decide) ?_
  refine j_putF C hK 10 0 0 ty_M tk_M nm_M d_M_init_9 in_M rfl rfl (by decide) t_376 rfl rfl hnm rfl rfl rfl (lvM_10 hl 1) ?_
  refine j_aload_n C d_M_init_12 rfl rfl ?_
  refine j_bipush (v := 32) C d_M_init_13 (by decide) ?_
  refine j_newa C hK hAz 12 0 d_M_init_15 t_71 rfl (by decide) (by decide) (by decide) (lvM_fresh hf 12 1 (by decide) (by decide) rfl) (had 12 (by decide) (by decide)) (by decide) (by decide) ?_
  refine j_putF C hK 10 0 1 ty_M tk_M nm_M d_M_init_17 in_M rfl rfl (by decide) t_377 rfl rfl hnm rfl rfl rfl (lvM_10 hl 2) ?_
  refine j_aload_n C d_M_init_20 rfl rfl ?_
  refine j_sipush (v := 256) C d_M_init_21 (by decide) ?_
  refine j_newa C hK hAz 13 0 d_M_init_24 t_71 rfl (by decide) (by decide) (by decide) (lvM_fresh hf 13 2 (by decide) (by decide) rfl) (had 13 (by decide) (by decide)) (by decide) (by decide) ?_
  refine j_putF C hK 10 0 2 ty_M tk_M nm_M d_M_init_26 in_M rfl rfl (by decide) t_378 rfl rfl hnm rfl rfl rfl (lvM_10 hl 3) ?_
  refine j_aload_n C d_M_init_29 rfl rfl ?_
  refine j_bipush (v := 32) C d_M_init_30 (by decide) ?_
  refine j_newa C hK hAz 14 0 d_M_init_32 t_71 rfl (by decide) (by decide) (by decide) (lvM_fresh hf 14 3 (by decide) (by decide) rfl) (had 14 (by decide) (by decide)) (by decide) (by decide) ?_
  refine j_putF C hK 10 0 3 ty_M tk_M nm_M d_M_init_34 in_M rfl rfl (by decide) t_379 rfl rfl hnm rfl rfl rfl (lvM_10 hl 4) ?_
  refine j_aload_n C d_M_init_37 rfl rfl ?_
  refine j_bipush (v := 32) C d_M_init_38 (by decide) ?_
  refine j_newa C hK hAz 15 0 d_M_init_40 t_71 rfl (by decide) (by decide) (by decide) (lvM_fresh hf 15 4 (by decide) (by decide) rfl) (had 15 (by decide) (by decide)) (by decide) (by decide) ?_
  refine j_putF C hK 10 0 4 ty_M tk_M nm_M d_M_init_42 in_M rfl rfl (by decide) t_380 rfl rfl hnm rfl rfl rfl (lvM_10 hl 5) ?_
  refine j_aload_n C d_M_init_45 rfl rfl ?_
  refine j_bipush (v := 32) C d_M_init_46 (by decide) ?_
  refine j_newl C hK hAz 16 0 d_M_init_48 t_441 rfl (by decide) (by decide) (by decide) (lvM_fresh hf 16 5 (by decide) (by decide) rfl) (had 16 (by decide) (by decide)) (by decide) (by decide) ?_
  refine j_putF C hK 10 0 5 ty_M tk_M nm_M d_M_init_50 in_M rfl rfl (by decide) t_381 rfl rfl hnm rfl rfl rfl (lvM_10 hl 6) ?_
  refine j_aload_n C d_M_init_53 rfl rfl ?_
  refine j_bipush (v := 16) C d_M_init_54 (by decide) ?_
  refine j_newa C hK hAz 17 0 d_M_init_56 t_71 rfl (by decide) (by decide) (by decide) (lvM_fresh hf 17 6 (by decide) (by decide) rfl) (had 17 (by decide) (by decide)) (by decide) (by decide) ?_
  refine j_putF C hK 10 0 7 ty_M tk_M nm_M d_M_init_58 in_M rfl rfl (by decide) t_383 rfl rfl hnm rfl rfl rfl (lvM_10 hl 7) ?_
  refine j_aload_n C d_M_init_61 rfl rfl ?_
  refine j_iconst (v := -1) C d_M_init_62 (by decide) ?_
  refine j_put C hK 10 0 8 ty_M tk_M nm_M d_M_init_63 in_M rfl rfl (by decide) t_384 rfl rfl rfl rfl (lvM_10 hl 7) ?_
  refine j_aload_n C d_M_init_66 rfl rfl ?_
  refine j_iconst (v := -1) C d_M_init_67 (by decide) ?_
  refine j_put C hK 10 0 10 ty_M tk_M nm_M d_M_init_68 in_M rfl rfl (by decide) t_386 rfl rfl rfl rfl (lvM_10 hl 7) ?_
  refine j_aload_n C d_M_init_71 rfl rfl ?_
  refine j_bipush (v := 64) C d_M_init_72 (by decide) ?_
  refine j_newa C hK hAz 18 0 d_M_init_74 t_71 rfl (by decide) (by decide) (by decide) (lvM_fresh hf 18 7 (by decide) (by decide) rfl) (had 18 (by decide) (by decide)) (by decide) (by decide) ?_
  refine j_putF C hK 10 0 11 ty_M tk_M nm_M d_M_init_76 in_M rfl rfl (by decide) t_387 rfl rfl hnm rfl rfl rfl (lvM_10 hl 8) ?_
  refine j_aload_n C d_M_init_79 rfl rfl ?_
  refine j_iconst (v := -1) C d_M_init_80 (by decide) ?_
  refine j_put C hK 10 0 14 ty_M tk_M nm_M d_M_init_81 in_M rfl rfl (by decide) t_390 rfl rfl rfl rfl (lvM_10 hl 8) ?_
  refine j_aload_n C d_M_init_84 rfl rfl ?_
  refine j_iconst (v := -1) C d_M_init_85 (by decide) ?_
  refine j_put C hK 10 0 15 ty_M tk_M nm_M d_M_init_86 in_M rfl rfl (by decide) t_391 rfl rfl rfl rfl (lvM_10 hl 8) ?_
  refine j_aload_n C d_M_init_89 rfl rfl ?_
  refine j_bipush (v := 65) C d_M_init_90 (by decide) ?_
  refine j_newa C hK hAz 19 0 d_M_init_92 t_71 rfl (by decide) (by decide) (by decide) (lvM_fresh hf 19 8 (by decide) (by decide) rfl) (had 19 (by decide) (by decide)) (by decide) (by decide) ?_
  refine j_putF C hK 10 0 19 ty_M tk_M nm_M d_M_init_94 in_M rfl rfl (by decide) t_395 rfl rfl hnm rfl rfl rfl (lvM_10 hl 9) ?_
  refine j_vret C hret hlk d_M_init_97 rfl rfl rfl rfl
end
section
/-! the room's own constructor -/
def vB (ad : Nat → Nat → Nat) (V : jVT) (a b : Nat) : jVT := fun k i j => match k with
  | 0 => match j with
    | 0 => .ref (ad 1 0) | 1 => .ref (ad 2 0) | 2 => .ref (ad 3 0) | 3 => .ref (ad 4 0) | j + 4 => defaultValue (ty_X (j + 4))
  | 1 => .null
  | 2 => if j < a then .ref (ad 6 j) else .null
  | 3 => if j < b then .ref (ad 7 j) else .null
  | 4 => match j with
    | 0 => .ref (ad 5 0) | j + 1 => defaultValue (ty_W (j + 1))
  | 5 => .int 0
  | 6 => match j with
    | 0 => .int (rno i) | j + 1 => defaultValue (ty_R (j + 1))
  | 7 => match j with
    | 0 => .int (nI i) | 1 => .ref (ad 6 (8 + i)) | j + 2 => defaultValue (ty_S (j + 2))
  | k + 8 => V (k + 8) i j
def lvX : Nat → Nat → Prop := fun k i => k = 0 ∧ i = 0
def lvB (a b k i : Nat) : Prop := (k ≤ 5 ∧ i = 0) ∨ (k = 6 ∧ (i < a ∨ (8 ≤ i ∧ i < 8 + b))) ∨ (k = 7 ∧ i < b)
abbrev RMX : Room := { frames := 3, cells := 45, slots := 244, locals := 90 }
abbrev JXI (l : Launch) (D : va_G) (E : Nat → ClassId) (ad : Nat → Nat → Nat) (sz : Nat) (p : Program) (e : Env) (s : State) (m : MethodId) (below : List Frame) (meth : Method) (c : Code) (V : jVT) (cells slots z : Nat) (lvc : Nat → Nat → Prop) (Vc : jVT) (pc : Nat) (lsv : List (Option Value)) (stk : List Value) : Prop :=
  J p l e (headSpec (Cond.code y_X_init c_X_init 2 none :: jT) RMX).room s m ([.ref (ad 0 0)] : List Value).toArray below meth c (MQ below (jQ D jcl jY E ad lvX sz none (lvB 8 16) (vB ad V 8 16) (sz + 45)) ([.ref (ad 0 0)] : List Value).toArray s 45 244 (jA ad lvX sz)) D jcl jY E ad (jA ad lvX sz) s.heap 2 cells slots z lvc Vc pc lsv stk
def adX (ad : Nat → Nat → Nat) (sz : Nat) : Prop := (∀ k, 1 ≤ k → k ≤ 5 → ad k 0 = sz + (k - 1)) ∧ (∀ r, r < 8 → ad 6 r = sz + 5 + r) ∧ ∀ n, n < 16 → ad 7 n = sz + 13 + 2 * n ∧ ad 6 (8 + n) = sz + 14 + 2 * n
theorem vB_s1 {ad : Nat → Nat → Nat} {V : jVT} {a : Nat} (ha : a < 8) : ∀ k i, lvB (a + 1) 0 k i → ∀ j, j < jN k → jup (jup (jnw (vB ad V a 0) 6 a (fun j => defaultValue (ty_R j))) 6 a 0 (.int (nI a + 1))) 2 0 (nI a).toNatClampNeg (.ref (ad 6 a)) k i j = vB ad V (a + 1) 0 k i j := by
  intro k i hl j hj
  rw [nI_clamp (by omega)]
  by_cases h2 : k = 2
  · subst h2
    have hi : i = 0 := by rcases hl with h | h | h <;> omega
    subst hi
    by_cases hja : j = a
    · subst hja; simp [jup, vB]
    · have e : (j < a + 1) ↔ (j < a) := by omega
      simp [jup, jnw, vB, hja, e]
  · by_cases h6 : k = 6 ∧ i = a
    · obtain ⟨rfl, rfl⟩ := h6
      cases j with
      | zero => simp [jup, vB, rno, ha, nI_succ]
      | succ j => simp [jup, jnw, vB]
    · have e1 : jup (jup (jnw (vB ad V a 0) 6 a (fun j => defaultValue (ty_R j))) 6 a 0 (.int (nI a + 1))) 2 0 a (.ref (ad 6 a)) k i j = vB ad V a 0 k i j := by
        simp only [jup, jnw]
        rw [if_neg (fun q => h2 q.1), if_neg (fun q => h6 ⟨q.1, q.2.1⟩), if_neg h6]
      rw [e1]
      match k, h2 with
      | 0, _ => rfl
      | 1, _ => rfl
      | 2, h => exact absurd rfl h
      | 3, _ => rfl
      | 4, _ => rfl
      | 5, _ => rfl
      | 6, _ => rfl
      | 7, _ => rfl
      | k + 8, _ => rfl
theorem vB_s2 {ad : Nat → Nat → Nat} {V : jVT} {b : Nat} (hb : b < 16) : ∀ k i, lvB 8 (b + 1) k i → ∀ j, j < jN k → jup (jup (jup (jnw (jup (jnw (vB ad V 8 b) 7 b (fun j => defaultValue (ty_S j))) 7 b 0 (.int (nI b))) 6 (8 + b) (fun j => defaultValue (ty_R j))) 6 (8 + b) 0 (.int (16 + nI b))) 7 b 1 (.ref (ad 6 (8 + b)))) 3 0 (nI b).toNatClampNeg (.ref (ad 7 b)) k i j = vB ad V 8 (b + 1) k i j := by
  intro k i hl j hj
  rw [nI_clamp (by omega)]
  by_cases h3 : k = 3
  · subst h3
    have hi : i = 0 := by rcases hl with h | h | h <;> omega
    subst hi
    by_cases hja : j = b
    · subst hja; simp [jup, vB]
    · have e : (j < b + 1) ↔ (j < b) := by omega
      simp [jup, jnw, vB, hja, e]
  · by_cases h7 : k = 7 ∧ i = b
    · obtain ⟨rfl, rfl⟩ := h7
      match j with
      | 0 => simp [jup, jnw, vB]
      | 1 => simp [jup, jnw, vB]
      | j + 2 => simp [jup, jnw, vB]
    · by_cases h6 : k = 6 ∧ i = 8 + b
      · obtain ⟨rfl, rfl⟩ := h6
        cases j with
        | zero =>
          have e : (16 : Int32) + nI b = rno (8 + b) := by
            unfold rno
            rw [if_neg (by omega), show (16 : Int32) = nI 16 from rfl, nI_add]
            congr 1
            omega
          simp [jup, jnw, vB, e]
        | succ j => simp [jup, jnw, vB]
      · have e1 : jup (jup (jup (jnw (jup (jnw (vB ad V 8 b) 7 b (fun j => defaultValue (ty_S j))) 7 b 0 (.int (nI b))) 6 (8 + b) (fun j => defaultValue (ty_R j))) 6 (8 + b) 0 (.int (16 + nI b))) 7 b 1 (.ref (ad 6 (8 + b)))) 3 0 b (.ref (ad 7 b)) k i j = vB ad V 8 b k i j := by
          simp only [jup, jnw]
          rw [if_neg (fun q => h3 q.1), if_neg (fun q => h7 ⟨q.1, q.2.1⟩), if_neg (fun q => h6 ⟨q.1, q.2.1⟩), if_neg h6, if_neg (fun q => h7 ⟨q.1, q.2.1⟩), if_neg h7]
        rw [e1]
        match k, h3 with
        | 0, _ => rfl
        | 1, _ => rfl
        | 2, _ => rfl
        | 3, h => exact absurd rfl h
        | 4, _ => rfl
        | 5, _ => rfl
        | 6, _ => rfl
        | 7, _ => rfl
        | k + 8, _ => rfl
theorem vB_s0 {ad : Nat → Nat → Nat} {V : jVT} (hV0 : ∀ j, V 0 0 j = defaultValue (ty_X j)) : ∀ k i, lvB 0 0 k i → ∀ j, j < jN k → jup (jup (jnw (jnw (jup (jnw (jup (jnw (jup (jnw V 1 0 (fun _ => .null)) 0 0 0 (.ref (ad 1 0))) 2 0 (fun _ => .null)) 0 0 1 (.ref (ad 2 0))) 3 0 (fun _ => .null)) 0 0 2 (.ref (ad 3 0))) 4 0 (fun j => defaultValue (ty_W j))) 5 0 (fun _ => .int 0)) 4 0 0 (.ref (ad 5 0))) 0 0 3 (.ref (ad 4 0)) k i j = vB ad V 0 0 k i j := by
  intro k i hl j hj
  have hi : i = 0 ∧ k ≤ 5 := by rcases hl with h | h | h <;> omega
  obtain ⟨rfl, hk⟩ := hi
  match k, hk with
  | 0, _ =>
    match j with
    | 0 => simp [jup, jnw, vB]
    | 1 => simp [jup, jnw, vB]
    | 2 => simp [jup, jnw, vB]
    | 3 => simp [jup, jnw, vB]
    | j + 4 => simp [jup, jnw, vB, hV0]
  | 1, _ => simp [jup, jnw, vB]
  | 2, _ => simp [jup, jnw, vB]
  | 3, _ => simp [jup, jnw, vB]
  | 4, _ =>
    cases j with
    | zero => simp [jup, jnw, vB]
    | succ j => simp [jup, jnw, vB]
  | 5, _ => simp [jup, jnw, vB]
  | k + 6, h => exact absurd h (by omega)
set_option maxRecDepth 100000 in
set_option maxHeartbeats 4000000 in
theorem lp_X2 {l : Launch} {D : va_G} {E : Nat → ClassId} {ad : Nat → Nat → Nat} {sz : Nat} {V : jVT} {p : Program} {e : Env} {s : State} {m : MethodId} {below : List Frame} {meth : Method} {c : Code} (C : CallFix p m c c_X_init 2 s ([.ref (ad 0 0)] : List Value).toArray jT "InputRoom") (hK : jK D jcl jY E s) (hret : meth.sig.returnType = none) (hlk : meth.locks = false) (hnm : meth.name = y_X_init.name) (hAz : ∀ q, s.heap.size ≤ q → jA ad lvX sz q) (hd : adX ad sz) : ∀ (n b : Nat) (i : Int32), b + n = 16 → i = nI b → JXI l D E ad sz p e s m below meth c V (13 + 2 * b) (148 + 6 * b) (sz + 13 + 2 * b) (lvB 8 b) (vB ad V 8 b) 74 [some (.ref (ad 0 0)), some (.int i)] [] := by
  intro n
  induction n with
  | zero =>
    intro b i hb hi
    have hb : b = 16 := by omega
    subst hb
    subst hi
    refine j_iload_n C d_X_init_74 rfl rfl ?_
    refine j_bipush (v := 16) C d_X_init_75 (by decide) ?_
    refine j_icmp_ge C 100 d_X_init_77 rfl (fun _ => ?_) (fun q => absurd (by decide) q)
    refine j_vret C hret hlk d_X_init_100 rfl rfl rfl rfl
  | succ n ih =>
    intro b i hb hi
    subst hi
    have hd2 := hd.2.2 b (by omega)
    have hin : vp_in (nI b) 16 := vp_in_nI (by omega) (by decide)
    refine j_iload_n C d_X_init_74 rfl rfl ?_
    refine j_bipush (v := 16) C d_X_init_75 (by decide) ?_
    refine j_icmp_ge C 100 d_X_init_77 rfl (fun q => absurd q (nI_ge (a := b) (b := 16) (by omega) (by decide))) (fun _ => ?_)
    refine j_aload_n C d_X_init_80 rfl rfl ?_
    refine j_get C hK 0 0 2 d_X_init_81 in_X rfl rfl (by decide) t_108 rfl (Or.inl ⟨by decide, rfl⟩) ?_
    refine j_iload_n C d_X_init_84 rfl rfl ?_
    refine j_new C hK hAz 7 b ty_S tk_S d_X_init_85 in_S t_50 t_87 t_34 rfl rfl (by rintro (h | h | h) <;> omega) (by omega) (by show 13 + 2 * b + 1 ≤ 45; omega) (by show 148 + 6 * b + 3 ≤ 244; omega) ?_
    refine j_dup C d_X_init_88 rfl ?_
    refine j_iload_n C d_X_init_89 rfl rfl ?_
    refine j_callI C hK hAz (i_Sem (n := b) (r := 8 + b) (a := nI b) (Or.inr ⟨rfl, rfl⟩) (by rintro ((h | h | h) | h) <;> omega) _ (by omega)) ⟨jcB C mi_S_init t_88 rfl rfl ⟨by decide, by decide⟩, rfl, C.2.2.2.2 _ t_89⟩ rfl rfl (Nat.le_of_ble_eq_true rfl) d_X_init_90 ⟨by show 13 + 2 * b + 1 + 1 ≤ 45; omega, by show 148 + 6 * b + 3 + 3 ≤ 244; omega⟩ ?_
    refine j_aast C hK 3 0 7 b d_X_init_93 rfl rfl rfl hin (Or.inl (Or.inl (Or.inl ⟨by decide, rfl⟩))) (Or.inl (Or.inr ⟨rfl, rfl⟩)) ?_
    refine j_iinc C d_X_init_94 rfl (by decide) ?_
    refine j_goto C 74 d_X_init_97 rfl ?_
    refine j_lv (lv' := lvB 8 (b + 1)) (fun k i => ?_) ?_
    · unfold jlv lvB; omega
    refine j_Vc (V' := vB ad V 8 (b + 1)) (vB_s2 (by omega)) ?_
    exact ih (b + 1) _ (by omega) (i32_p1 b)
set_option maxRecDepth 100000 in
set_option maxHeartbeats 4000000 in
theorem lp_X1 {l : Launch} {D : va_G} {E : Nat → ClassId} {ad : Nat → Nat → Nat} {sz : Nat} {V : jVT} {p : Program} {e : Env} {s : State} {m : MethodId} {below : List Frame} {meth : Method} {c : Code} (C : CallFix p m c c_X_init 2 s ([.ref (ad 0 0)] : List Value).toArray jT "InputRoom") (hK : jK D jcl jY E s) (hret : meth.sig.returnType = none) (hlk : meth.locks = false) (hnm : meth.name = y_X_init.name) (hAz : ∀ q, s.heap.size ≤ q → jA ad lvX sz q) (hd : adX ad sz) : ∀ (n a : Nat) (i : Int32), a + n = 8 → i = nI a → JXI l D E ad sz p e s m below meth c V (5 + a) (124 + 3 * a) (sz + 5 + a) (lvB a 0) (vB ad V a 0) 44 [some (.ref (ad 0 0)), some (.int i)] [] := by
  intro n
  induction n with
  | zero =>
    intro a i ha hi
    have ha : a = 8 := by omega
    subst ha
    subst hi
    refine j_iload_n C d_X_init_44 rfl rfl ?_
    refine j_bipush (v := 8) C d_X_init_45 (by decide) ?_
    refine j_icmp_ge C 72 d_X_init_47 rfl (fun _ => ?_) (fun q => absurd (by decide) q)
    refine j_iconst (v := 0) C d_X_init_72 (by decide) ?_
    refine j_istore_n C d_X_init_73 rfl (by decide) ?_
    exact lp_X2 C hK hret hlk hnm hAz hd 16 0 0 rfl rfl
  | succ n ih =>
    intro a i ha hi
    subst hi
    have hd1 := hd.2.1 a (by omega)
    have hin : vp_in (nI a) 8 := vp_in_nI (by omega) (by decide)
    refine j_iload_n C d_X_init_44 rfl rfl ?_
    refine j_bipush (v := 8) C d_X_init_45 (by decide) ?_
    refine j_icmp_ge C 72 d_X_init_47 rfl (fun q => absurd q (nI_ge (a := a) (b := 8) (by omega) (by decide))) (fun _ => ?_)
    refine j_aload_n C d_X_init_50 rfl rfl ?_
    refine j_get C hK 0 0 1 d_X_init_51 in_X rfl rfl (by decide) t_107 rfl (Or.inl ⟨by decide, rfl⟩) ?_
    refine j_iload_n C d_X_init_54 rfl rfl ?_
    refine j_new C hK hAz 6 a ty_R tk_R d_X_init_55 in_R t_48 t_72 t_33 rfl rfl (by rintro (h | h | h) <;> omega) (by omega) (by show 5 + a + 1 ≤ 45; omega) (by show 124 + 3 * a + 3 ≤ 244; omega) ?_
    refine j_dup C d_X_init_58 rfl ?_
    refine j_iload_n C d_X_init_59 rfl rfl ?_
    refine j_iconst (v := 1) C d_X_init_60 (by decide) ?_
    refine j_iadd C d_X_init_61 ?_
    refine j_callI C hK hAz (i_Row (r := a) (a := nI a + 1) (Or.inr ⟨rfl, rfl⟩) _) ⟨jcB C mi_R_init t_73 rfl rfl ⟨by decide, by decide⟩, rfl, C.2.2.2.2 _ t_74⟩ rfl rfl (Nat.le_of_ble_eq_true rfl) d_X_init_62 ⟨by show 5 + a + 1 + 0 ≤ 45; omega, by show 124 + 3 * a + 3 + 0 ≤ 244; omega⟩ ?_
    refine j_aast C hK 2 0 6 a d_X_init_65 rfl rfl rfl hin (Or.inl (Or.inl ⟨by decide, rfl⟩)) (Or.inr ⟨rfl, rfl⟩) ?_
    refine j_iinc C d_X_init_66 rfl (by decide) ?_
    refine j_goto C 44 d_X_init_69 rfl ?_
    refine j_lv (lv' := lvB (a + 1) 0) (fun k i => ?_) ?_
    · unfold jlv lvB; omega
    refine j_Vc (V' := vB ad V (a + 1) 0) (vB_s1 (by omega)) ?_
    exact ih (a + 1) _ (by omega) (i32_p1 a)
set_option maxRecDepth 100000 in
set_option maxHeartbeats 4000000 in
theorem i_X {l : Launch} {D : va_G} {E : Nat → ClassId} {ad : Nat → Nat → Nat} {V : jVT} (hV0 : ∀ j, V 0 0 j = defaultValue (ty_X j)) (sz : Nat) (hd : adX ad sz) : Met l y_X_init (Cond.code y_X_init c_X_init 2 none :: jT) RMX (va_Pc [.ref (ad 0 0)] (fun U => (U.heap.size = sz ∧ jW D jcl jY E ad lvX V (fun _ => True) U.heap ∧ jK D jcl jY E U) ∧ EXX U)) (jQ D jcl jY E ad lvX sz none (lvB 8 16) (vB ad V 8 16) (sz + 45)) 45 244 (jA ad lvX sz) := by
  refine jC.ofX "InputRoom" (by decide +kernel) rfl rfl (Nat.le_of_ble_eq_true rfl) (by intro v hv; simp only [List.mem_cons, List.not_mem_nil, or_false] at hv; rcases hv with rfl <;> rfl) ?_
  intro p e s m below meth c C hK hret hlk hnm hsz hAz hx
  refine j_aload_n C d_X_init_0 rfl rfl ?_
  refine j_objInit C d_X_init_1 t_43 t_44 t_45 (by decide) (Nat.le_of_ble_eq_true rfl) ?_
  refine j_aload_n C d_X_init_4 rfl rfl ?_
  refine j_bipush (v := 32) C d_X_init_5 (by decide) ?_
  refine j_newqA C hK hAz 1 0 d_X_init_7 t_46 hx.1 rfl (by decide) (by decide) (by decide) (by (try unfold jlv); unfold lvX; omega) (by have := hd.1 1 (by decide) (by decide); omega) (by decide) (by decide) ?_
  refine j_putF C hK 0 0 0 ty_X tk_X nm_X d_X_init_10 in_X rfl rfl (by decide) t_106 rfl rfl hnm rfl rfl rfl (by (try unfold jlv); unfold lvX; omega) ?_
  refine j_aload_n C d_X_init_13 rfl rfl ?_
  refine j_bipush (v := 8) C d_X_init_14 (by decide) ?_
  refine j_newqA C hK hAz 2 0 d_X_init_16 t_48 hx.2.1 rfl (by decide) (by decide) (by decide) (by (try unfold jlv); unfold lvX; omega) (by have := hd.1 2 (by decide) (by decide); omega) (by decide) (by decide) ?_
  refine j_putF C hK 0 0 1 ty_X tk_X nm_X d_X_init_19 in_X rfl rfl (by decide) t_107 rfl rfl hnm rfl rfl rfl (by (try unfold jlv); unfold lvX; omega) ?_
  refine j_aload_n C d_X_init_22 rfl rfl ?_
  refine j_bipush (v := 16) C d_X_init_23 (by decide) ?_
  refine j_newqA C hK hAz 3 0 d_X_init_25 t_50 hx.2.2.1 rfl (by decide) (by decide) (by decide) (by (try unfold jlv); unfold lvX; omega) (by have := hd.1 3 (by decide) (by decide); omega) (by decide) (by decide) ?_
  refine j_putF C hK 0 0 2 ty_X tk_X nm_X d_X_init_28 in_X rfl rfl (by decide) t_108 rfl rfl hnm rfl rfl rfl (by (try unfold jlv); unfold lvX; omega) ?_
  refine j_aload_n C d_X_init_31 rfl rfl ?_
  refine j_new C hK hAz 4 0 ty_W tk_W d_X_init_32 in_W t_52 t_53 t_32 rfl rfl (by (try unfold jlv); unfold lvX; omega) (by have := hd.1 4 (by decide) (by decide); omega) (by decide) (by decide) ?_
  refine j_dup C d_X_init_35 rfl ?_
  refine j_callIN C hK hAz (i_Words (Or.inr ⟨rfl, rfl⟩) (by (try unfold jlv); unfold lvX; omega) _ (by have := hd.1 5 (by decide) (by decide); omega)) ⟨va_cnB 0 C.2.2.2.2 (jgood mi_W_init.1) rfl rfl rfl hx.2.2.2 (C.2.2.2.2 _ mi_W_init.2.1) mi_W_init.2.2 ⟨by decide, by decide⟩, rfl, C.2.2.2.2 _ t_55⟩ rfl rfl (Nat.le_of_ble_eq_true rfl) d_X_init_36 ⟨by decide, by decide⟩ ?_
  refine j_putF C hK 0 0 3 ty_X tk_X nm_X d_X_init_39 in_X rfl rfl (by decide) t_109 rfl rfl hnm rfl rfl rfl (by (try unfold jlv); unfold lvX; omega) ?_
  refine j_iconst (v := 0) C d_X_init_42 (by decide) ?_
  refine j_istore_n C d_X_init_43 rfl (by decide) ?_
  refine j_lv (lv' := lvB 0 0) (fun k i => ?_) ?_
  · unfold jlv lvX lvB; omega
  refine j_Vc (V' := vB ad V 0 0) (vB_s0 hV0) ?_
  exact lp_X1 C hK hret hlk hnm hAz hd 8 0 0 rfl rfl
end
section
abbrev mkOK (σ : sT) (a b : Int32) : Prop := ¬ a < 0 ∧ ¬ 32 ≤ a ∧ σ.2.1 1 0 a.toNatClampNeg = none ∧ ¬ b < 1 ∧ b ≤ 8
def cmk (σ : sT) (x r : Nat) (b : Int32) : sT := (fun k i j => if i = x ∧ ((k = 8 ∧ (j = 4 ∨ j = 5)) ∨ k = 9) then 0 else if k = 8 ∧ i = x ∧ j = 1 then b else σ.1 k i j, fun k i j => if k = 1 ∧ i = 0 ∧ j = x then some x else if k = 8 ∧ i = x then (if j = 2 then some r else none) else σ.2.1 k i j, σ.2.2)
theorem tv_congr {ad : Nat → Nat → Nat} {σ σ' : sT} {t k i j : Nat} (h1 : σ.1 k i j = σ'.1 k i j) (h2 : σ.2.1 k i j = σ'.2.1 k i j) (h3 : σ.2.2 k i j = σ'.2.2 k i j) : tv ad σ t k i j = tv ad σ' t k i j := by
  unfold tv
  split
  · rw [h1]
  · rw [h3]
  · rfl
  · rw [h2]
theorem jv_congr {ad : Nat → Nat → Nat} {σ σ' τ : sT} {k i j : Nat} (h1 : σ.1 k i j = σ'.1 k i j) (h2 : σ.2.1 k i j = σ'.2.1 k i j) (h3 : σ.2.2 k i j = σ'.2.2 k i j) : jv ad σ τ k i j = jv ad σ' τ k i j := by
  unfold jv
  rw [tv_congr h1 h2 h3]
theorem vmk {ad : Nat → Nat → Nat} {σ τ : sT} {x r : Nat} {b : Int32} {lv : Nat → Nat → Prop} : ∀ k i, lv k i → ∀ j, j < jN k → jup (jup (jup (jup (jup (jup (jnw (jnw (jv ad σ τ) 8 x (fun j => defaultValue (ty_P j))) 9 x (fun _ => .int 0)) 8 x 3 (.ref (ad 9 x))) 8 x 5 (.int 0)) 8 x 0 (.int (nI x))) 8 x 1 (.int b)) 8 x 2 (.ref (ad 6 r))) 1 0 x (.ref (ad 8 x)) k i j = jv ad (cmk σ x r b) τ k i j := by
  intro k i _ j hj
  by_cases h8 : k = 8 ∧ i = x
  · obtain ⟨rfl, rfl⟩ := h8
    have hj : j < 7 := hj
    match j, hj with
    | 0, _ => simp [jup, jnw]; rfl
    | 1, _ => simp [jup, jnw]; show _ = Value.int _; simp [cmk]
    | 2, _ => simp [jup, jnw]; show _ = va_rf _; simp [cmk]; rfl
    | 3, _ => simp [jup, jnw]; rfl
    | 4, _ => simp [jup, jnw]; show _ = Value.int _; simp [cmk]; rfl
    | 5, _ => simp [jup, jnw]; show _ = Value.int _; simp [cmk]
    | 6, _ => simp [jup, jnw]; show _ = va_rf _; simp [cmk]; rfl
    | j + 7, h => exact absurd h (by omega)
  · by_cases h9 : k = 9 ∧ i = x
    · obtain ⟨rfl, rfl⟩ := h9
      simp [jup, jnw]
      show _ = Value.int _
      simp [cmk]
    · by_cases h1 : k = 1 ∧ i = 0 ∧ j = x
      · obtain ⟨rfl, rfl, rfl⟩ := h1
        simp [jup]
        show _ = va_rf _
        simp [cmk]
        rfl
      · have e : jup (jup (jup (jup (jup (jup (jnw (jnw (jv ad σ τ) 8 x (fun j => defaultValue (ty_P j))) 9 x (fun _ => .int 0)) 8 x 3 (.ref (ad 9 x))) 8 x 5 (.int 0)) 8 x 0 (.int (nI x))) 8 x 1 (.int b)) 8 x 2 (.ref (ad 6 r))) 1 0 x (.ref (ad 8 x)) k i j = jv ad σ τ k i j := by
          have n8 : ∀ q, ¬ (k = 8 ∧ i = x ∧ j = q) := fun q z => h8 ⟨z.1, z.2.1⟩
          simp only [jup, jnw]
          rw [if_neg h1, if_neg (n8 2), if_neg (n8 1), if_neg (n8 0), if_neg (n8 5), if_neg (n8 3), if_neg h9, if_neg h8]
        rw [e]
        refine jv_congr ?_ ?_ rfl
        · simp only [cmk]
          rw [if_neg, if_neg]
          · exact fun z => h8 ⟨z.1, z.2.1⟩
          · rintro ⟨z1, z2 | z2⟩
            · exact h8 ⟨z2.1, z1⟩
            · exact h9 ⟨z2, z1⟩
        · simp only [cmk]
          rw [if_neg h1, if_neg h8]
theorem nI_self {a : Int32} (h : ¬ a < 0) : nI a.toNatClampNeg = a := by
  obtain ⟨j, hj, rfl⟩ := nI_of h
  rw [nI_clamp hj]
set_option maxRecDepth 100000 in
set_option maxHeartbeats 4000000 in
theorem k_make_no {l : Launch} {D : va_G} {E : Nat → ClassId} {ad : Nat → Nat → Nat} {lv : Nat → Nat → Prop} {σ τ : sT} (h : OKs σ lv) {a b : Int32} (hc : ¬ mkOK σ a b) : jM l y_X_make c_X_make 3 (some .boolean) 0 D E ad lv (jv ad σ τ) [.ref (ad 0 0), .int (a), .int (b)] (some (.int 0)) (jv ad σ τ) := by
  intro sz
  refine jC.of "InputRoom" (by decide +kernel) rfl rfl (Nat.le_of_ble_eq_true rfl) (by intro v hv; simp only [List.mem_cons, List.not_mem_nil, or_false] at hv; rcases hv with rfl | rfl | rfl <;> first | rfl | exact jrf_cat _) ?_
  intro p e s m below meth c C hK hret hlk hnm hsz hAz
  have hb0 : lv 0 0 := h.k (by decide)
  have hb1 : lv 1 0 := h.k (by decide)
  have hb2 : lv 2 0 := h.k (by decide)
  refine j_iload_n C d_X_make_0 rfl rfl ?_
  refine j_if_lt C 19 d_X_make_1 rfl (fun g1 => ?_) (fun g1 => ?_)
  ·
    refine j_iconst (v := 0) C d_X_make_19 (by decide) ?_
    refine j_zret C hret hlk (by first | rfl | decide) d_X_make_20 ?_ ?_ rfl rfl
    · rfl
    · rfl
  ·
    refine j_iload_n C d_X_make_4 rfl rfl ?_
    refine j_bipush (v := 32) C d_X_make_5 (by decide) ?_
    refine j_icmp_ge C 19 d_X_make_7 rfl (fun g2 => ?_) (fun g2 => ?_)
    ·
      refine j_iconst (v := 0) C d_X_make_19 (by decide) ?_
      refine j_zret C hret hlk (by first | rfl | decide) d_X_make_20 ?_ ?_ rfl rfl
      · rfl
      · rfl
    ·
      refine j_aload_n C d_X_make_10 rfl rfl ?_
      refine sgC C hK 0 0 0 d_X_make_11 in_X rfl rfl (by decide) t_106 rfl rfl rfl (by assumption) ?_
      refine j_iload_n C d_X_make_14 rfl rfl ?_
      refine saR (t := 8) C hK 1 0 d_X_make_15 rfl (vin g1 g2 rfl) rfl rfl (by assumption) ?_
      refine jnull (o := σ.2.1 1 0 (a).toNatClampNeg) (t := 8) C 21 d_X_make_16 rfl (fun g3 => ?_) (fun x4 g3 => ?_)
      ·
        try rw [g3]
        refine j_iload_n C d_X_make_21 rfl rfl ?_
        refine j_iconst (v := 1) C d_X_make_22 (by decide) ?_
        refine j_icmp_lt C 32 d_X_make_23 rfl (fun g5 => ?_) (fun g5 => ?_)
        ·
          refine j_iconst (v := 0) C d_X_make_32 (by decide) ?_
          refine j_zret C hret hlk (by first | rfl | decide) d_X_make_33 ?_ ?_ rfl rfl
          · rfl
          · rfl
        ·
          refine j_iload_n C d_X_make_26 rfl rfl ?_
          refine j_bipush (v := 8) C d_X_make_27 (by decide) ?_
          refine j_icmp_le C 34 d_X_make_29 rfl (fun g6 => ?_) (fun g6 => ?_)
          ·
            exact absurd ⟨g1, g2, g3, g5, g6⟩ hc
          ·
            refine j_iconst (v := 0) C d_X_make_32 (by decide) ?_
            refine j_zret C hret hlk (by first | rfl | decide) d_X_make_33 ?_ ?_ rfl rfl
            · rfl
            · rfl
      ·
        try rw [g3]
        refine j_iconst (v := 0) C d_X_make_19 (by decide) ?_
        refine j_zret C hret hlk (by first | rfl | decide) d_X_make_20 ?_ ?_ rfl rfl
        · rfl
        · rfl
set_option maxRecDepth 100000 in
set_option maxHeartbeats 4000000 in
theorem k_make_yes {l : Launch} {D : va_G} {E : Nat → ClassId} {ad : Nat → Nat → Nat} {lv : Nat → Nat → Prop} {σ τ : sT} (h : OKs σ lv) {a b : Int32} (hc : mkOK σ a b) (hf8 : ¬ lv 8 a.toNatClampNeg) (hf9 : ¬ lv 9 a.toNatClampNeg) (sz : Nat) (had8 : ad 8 a.toNatClampNeg = sz) (had9 : ad 9 a.toNatClampNeg = sz + 1) : jC l y_X_make (Cond.code y_X_make c_X_make 3 (some .boolean) :: jT) { frames := 2, cells := 2, slots := 15, locals := 60 } D jcl jY E ad lv sz (jv ad σ τ) [.ref (ad 0 0), .int a, .int b] (some (.int 1)) (jlv (jlv lv 8 a.toNatClampNeg) 9 a.toNatClampNeg) (jv ad (cmk σ a.toNatClampNeg (b - 1).toNatClampNeg b) τ) (sz + 2) 2 15 := by
  refine jC.of "InputRoom" (by decide +kernel) rfl rfl (Nat.le_of_ble_eq_true rfl) (by intro v hv; simp only [List.mem_cons, List.not_mem_nil, or_false] at hv; rcases hv with rfl | rfl | rfl <;> first | rfl | exact jrf_cat _) ?_
  intro p e s m below meth c C hK hret hlk hnm hsz hAz
  have hb0 : lv 0 0 := h.k (by decide)
  have hb1 : lv 1 0 := h.k (by decide)
  have hb2 : lv 2 0 := h.k (by decide)
  have b1 : 1 ≤ b.toInt := by have q := hc.2.2.2.1; rw [i32_lt, show (1 : Int32).toInt = 1 from rfl] at q; omega
  have b8 : b.toInt ≤ 8 := by have q := hc.2.2.2.2; rw [i32_le, show (8 : Int32).toInt = 8 from rfl] at q; omega
  have es : (b - 1).toInt = b.toInt - 1 := i32_dec (by omega)
  have rin : vp_in (b - 1) 8 := by rw [vp_in_iff]; omega
  refine j_iload_n C d_X_make_0 rfl rfl ?_
  refine j_if_lt C 19 d_X_make_1 rfl (fun g1 => absurd g1 hc.1) (fun _ => ?_)
  refine j_iload_n C d_X_make_4 rfl rfl ?_
  refine j_bipush (v := 32) C d_X_make_5 (by decide) ?_
  refine j_icmp_ge C 19 d_X_make_7 rfl (fun g2 => absurd g2 hc.2.1) (fun _ => ?_)
  refine j_aload_n C d_X_make_10 rfl rfl ?_
  refine sgC C hK 0 0 0 d_X_make_11 in_X rfl rfl (by decide) t_106 rfl rfl rfl (by assumption) ?_
  refine j_iload_n C d_X_make_14 rfl rfl ?_
  refine saR (t := 8) C hK 1 0 d_X_make_15 rfl (vin hc.1 hc.2.1 rfl) rfl rfl (by assumption) ?_
  rw [hc.2.2.1]
  refine j_ifnull (o := none) C 21 d_X_make_16 rfl (fun _ => ?_) (fun _ q => by cases q)
  refine j_iload_n C d_X_make_21 rfl rfl ?_
  refine j_iconst (v := 1) C d_X_make_22 (by decide) ?_
  refine j_icmp_lt C 32 d_X_make_23 rfl (fun g5 => absurd g5 hc.2.2.2.1) (fun _ => ?_)
  refine j_iload_n C d_X_make_26 rfl rfl ?_
  refine j_bipush (v := 8) C d_X_make_27 (by decide) ?_
  refine j_icmp_le C 34 d_X_make_29 rfl (fun _ => ?_) (fun g6 => absurd hc.2.2.2.2 g6)
  refine j_aload_n C d_X_make_34 rfl rfl ?_
  refine sgC C hK 0 0 0 d_X_make_35 in_X rfl rfl (by decide) t_106 rfl rfl rfl hb0 ?_
  refine j_iload_n C d_X_make_38 rfl rfl ?_
  refine j_new C hK hAz 8 a.toNatClampNeg ty_P tk_P d_X_make_39 in_P t_46 t_147 t_36 rfl rfl hf8 had8 (by decide) (by decide) ?_
  refine j_dup C d_X_make_42 rfl ?_
  refine j_iload_n C d_X_make_43 rfl rfl ?_
  refine j_iload_n C d_X_make_44 rfl rfl ?_
  refine j_aload_n C d_X_make_45 rfl rfl ?_
  refine j_get C hK 0 0 1 d_X_make_46 in_X rfl rfl (by decide) t_107 rfl (Or.inl hb0) ?_
  refine j_iload_n C d_X_make_49 rfl rfl ?_
  refine j_iconst (v := 1) C d_X_make_50 (by decide) ?_
  refine j_isub C d_X_make_51 ?_
  refine j_aald C hK 2 0 d_X_make_52 rfl rin (Or.inl hb2) ?_
  refine j_callI C hK hAz (i_Proc (x := a.toNatClampNeg) (r := (b - 1).toNatClampNeg) (a := a) (b := b) (Or.inr ⟨rfl, rfl⟩) (by rintro (q | q) <;> first | exact hf9 q | omega) _ had9) ⟨jcB C mi_P_init t_148 rfl rfl ⟨by decide, by decide⟩, rfl, C.2.2.2.2 _ t_149⟩ rfl rfl (Nat.le_of_ble_eq_true rfl) d_X_make_53 ⟨by decide, by decide⟩ ?_
  refine j_aast C hK 1 0 8 a.toNatClampNeg d_X_make_56 rfl rfl rfl (vin hc.1 hc.2.1 rfl) (Or.inl (Or.inl hb1)) (Or.inl (Or.inr ⟨rfl, rfl⟩)) ?_
  refine j_iconst (v := 1) C d_X_make_57 (by decide) ?_
  refine j_Vc (V' := jv ad (cmk σ a.toNatClampNeg (b - 1).toNatClampNeg b) τ) ?_ ?_
  · have e := nI_self hc.1
    have e2 := vmk (ad := ad) (σ := σ) (τ := τ) (x := a.toNatClampNeg) (r := (b - 1).toNatClampNeg) (b := b) (lv := jlv (jlv lv 8 a.toNatClampNeg) 9 a.toNatClampNeg)
    rw [e] at e2
    exact e2
  · exact j_zret C hret hlk (by first | rfl | decide) d_X_make_58 rfl rfl rfl rfl
end
section
/-! THE ROWS: linked lists in the class, rows and hours in the reference -/
theorem rno_inj : ∀ r, r < 24 → ∀ q, q < 24 → rno r = rno q → r = q := by decide +kernel
theorem rno_ne : ∀ r, r < 24 → rno r ≠ 0 := by decide +kernel
/-- the chain of the list: each one's next is the one behind it -/
def lk (σ : sT) : List Nat → Prop
  | [] => True
  | x :: l => σ.2.1 8 x 6 = l.head? ∧ lk σ l
theorem lk_congr {σ σ' : sT} : ∀ {l : List Nat}, (∀ y ∈ l, σ'.2.1 8 y 6 = σ.2.1 8 y 6) → lk σ l → lk σ' l
  | [], _, _ => trivial
  | x :: l, h, hl => ⟨(h x List.mem_cons_self).trans hl.1, lk_congr (fun y hy => h y (List.mem_cons_of_mem _ hy)) hl.2⟩
theorem lk_app {σ σ' : sT} {q x : Nat} (hq : σ'.2.1 8 q 6 = some x) (hx : σ'.2.1 8 x 6 = none) : ∀ {l : List Nat}, (∀ y ∈ l, y ≠ q → σ'.2.1 8 y 6 = σ.2.1 8 y 6) → l.Nodup → l.getLast? = some q → lk σ l → lk σ' (l ++ [x])
  | [], _, _, hg, _ => by cases hg
  | [y], h, _, hg, hl => by
    have e : y = q := by simpa using hg
    subst e
    exact ⟨hq, hx, trivial⟩
  | y :: z :: l, h, hn, hg, hl => by
    have hyq : y ≠ q := by
      rintro rfl
      have hm : y ∈ z :: l := by
        have e : (z :: l).getLast? = some y := by rw [← hg]; simp
        exact List.mem_of_getLast? e
      exact (List.nodup_cons.mp hn).1 hm
    refine ⟨(h y List.mem_cons_self hyq).trans hl.1, ?_⟩
    refine lk_app hq hx (fun w hw => h w (List.mem_cons_of_mem _ hw)) (List.nodup_cons.mp hn).2 ?_ hl.2
    rw [← hg]; simp
theorem lk_walk {σ : sT} : ∀ {l : List Nat}, lk σ l → ∀ i, cf_walk σ i l.head? = l[i]?
  | [], _, 0 => rfl
  | [], _, i + 1 => rfl
  | x :: l, h, 0 => rfl
  | x :: l, h, i + 1 => by
    show cf_walk σ i (σ.2.1 8 x 6) = _
    rw [h.1, lk_walk h.2 i]
    simp
/-- the fields behind append and take -/
theorem app_I (σ : sT) (r x k i j : Nat) : (cf_app σ r x).1 k i j = if k = 8 ∧ i = x ∧ j = 5 then rno r else σ.1 k i j := by
  unfold cf_app
  cases σ.2.1 6 r 2 <;> rfl
theorem app_L (σ : sT) (r x : Nat) : (cf_app σ r x).2.2 = σ.2.2 := by
  unfold cf_app
  cases σ.2.1 6 r 2 <;> rfl
theorem app_P0 {σ : sT} {r x : Nat} (h : σ.2.1 6 r 2 = none) (k i j : Nat) : (cf_app σ r x).2.1 k i j = if k = 6 ∧ i = r ∧ j = 2 then some x else if k = 6 ∧ i = r ∧ j = 1 then some x else σ.2.1 k i j := by
  unfold cf_app
  rw [h]
  rfl
theorem app_P1 {σ : sT} {r x q : Nat} (h : σ.2.1 6 r 2 = some q) (k i j : Nat) : (cf_app σ r x).2.1 k i j = if k = 6 ∧ i = r ∧ j = 2 then some x else if k = 8 ∧ i = q ∧ j = 6 then some x else σ.2.1 k i j := by
  unfold cf_app
  rw [h]
  rfl
theorem take_0 {σ : sT} {r : Nat} (h : σ.2.1 6 r 1 = none) : cf_take σ r = (none, σ) := by
  unfold cf_take
  rw [h]
theorem take_1 {σ : sT} {r x : Nat} (h : σ.2.1 6 r 1 = some x) : (cf_take σ r).1 = some x := by
  unfold cf_take
  rw [h]
theorem take_I {σ : sT} {r x : Nat} (h : σ.2.1 6 r 1 = some x) (k i j : Nat) : (cf_take σ r).2.1 k i j = if k = 8 ∧ i = x ∧ j = 5 then 0 else σ.1 k i j := by
  unfold cf_take
  rw [h]
  dsimp only
  cases σ.2.1 8 x 6 <;> rfl
theorem take_L (σ : sT) (r : Nat) : (cf_take σ r).2.2.2 = σ.2.2 := by
  unfold cf_take
  cases σ.2.1 6 r 1 with
  | none => rfl
  | some x =>
    dsimp only
    cases σ.2.1 8 x 6 <;> rfl
theorem take_P {σ : sT} {r x : Nat} (h : σ.2.1 6 r 1 = some x) (k i j : Nat) : (cf_take σ r).2.2.1 k i j = if k = 8 ∧ i = x ∧ j = 6 then none else if k = 6 ∧ i = r ∧ j = 2 ∧ σ.2.1 8 x 6 = none then none else if k = 6 ∧ i = r ∧ j = 1 then σ.2.1 8 x 6 else σ.2.1 k i j := by
  unfold cf_take
  rw [h]
  dsimp only
  cases hb : σ.2.1 8 x 6 with
  | none => simp [sI, sP]
  | some z => simp [sI, sP]
/-- the lists of the rows, in both -/
def RelR (L : Nat → List Nat) (n : Nat) (σ τ : sT) : Prop :=
  (∀ x, Mk σ x → τ.1 15 0 x = σ.1 8 x 5) ∧
  (∀ r, r < 24 → (σ.2.1 6 r 1 = (L r).head? ∧ σ.2.1 6 r 2 = (L r).getLast?) ∧ lk σ (L r) ∧ (∀ x ∈ L r, Mk σ x ∧ σ.1 8 x 5 = rno r) ∧ (L r).Pairwise (fun x y => (τ.2.2 16 0 x).toInt < (τ.2.2 16 0 y).toInt)) ∧
  (∀ x, Mk σ x → (σ.1 8 x 5 = 0 ∧ σ.2.1 8 x 6 = none) ∨ ∃ r, r < 24 ∧ x ∈ L r) ∧
  ∃ h : Nat, h ≤ n ∧ τ.2.2 10 0 6 = lN h ∧ ∀ r, r < 24 → ∀ x ∈ L r, (τ.2.2 16 0 x).toInt < h
theorem pw_nodup {f : Nat → Int} : ∀ {l : List Nat}, l.Pairwise (fun x y => f x < f y) → l.Nodup := by
  intro l h
  exact h.imp (fun {a b} hab e => by subst e; omega)
theorem RelR.nd {L : Nat → List Nat} {n : Nat} {σ τ : sT} (h : RelR L n σ τ) {r : Nat} (hr : r < 24) : (L r).Nodup := pw_nodup (f := fun x => (τ.2.2 16 0 x).toInt) (h.2.1 r hr).2.2.2
theorem RelR.in_one {L : Nat → List Nat} {n : Nat} {σ τ : sT} (h : RelR L n σ τ) {r q x : Nat} (hr : r < 24) (hq : q < 24) (h1 : x ∈ L r) (h2 : x ∈ L q) : r = q := rno_inj r hr q hq (((h.2.1 r hr).2.2.1 x h1).2.symm.trans ((h.2.1 q hq).2.2.1 x h2).2)
theorem RelR.notin {L : Nat → List Nat} {n : Nat} {σ τ : sT} (h : RelR L n σ τ) {r x : Nat} (hr : r < 24) (hx : σ.1 8 x 5 = 0) : x ∉ L r := fun q => rno_ne r hr (((h.2.1 r hr).2.2.1 x q).2.symm.trans hx)
theorem RelR.mem {L : Nat → List Nat} {n : Nat} {σ τ : sT} (h : RelR L n σ τ) {r x : Nat} (hr : r < 24) : x ∈ L r ↔ Mk σ x ∧ σ.1 8 x 5 = rno r := by
  constructor
  · exact fun q => (h.2.1 r hr).2.2.1 x q
  · rintro ⟨h1, h2⟩
    rcases h.2.2.1 x h1 with q | ⟨q, hq, hm⟩
    · exact absurd (h2.symm.trans q.1) (rno_ne r hr)
    · have e := rno_inj r hr q hq (h2.symm.trans ((h.2.1 q hq).2.2.1 x hm).2)
      rw [e]; exact hm
theorem RelR.mono {L : Nat → List Nat} {n m : Nat} {σ τ : sT} (h : RelR L n σ τ) (hm : n ≤ m) : RelR L m σ τ := by
  obtain ⟨h1, h2, h3, t, h4, h5⟩ := h
  exact ⟨h1, h2, h3, t, by omega, h5⟩
def updR (L : Nat → List Nat) (r : Nat) (l : List Nat) : Nat → List Nat := fun q => if q = r then l else L q
theorem updR_s (L : Nat → List Nat) (r : Nat) (l : List Nat) : updR L r l r = l := if_pos rfl
theorem updR_n {L : Nat → List Nat} {r q : Nat} {l : List Nat} (h : q ≠ r) : updR L r l q = L q := if_neg h
end
section
theorem come_I (τ : sT) (p R : Int32) (k i j : Nat) : (mf_come τ p R).1 k i j = if k = 15 ∧ i = 0 ∧ j = p.toNatClampNeg then R else τ.1 k i j := rfl
theorem come_L (τ : sT) (p R : Int32) (k i j : Nat) : (mf_come τ p R).2.2 k i j = if k = 10 ∧ i = 0 ∧ j = 6 then τ.2.2 10 0 6 + 1 else if k = 16 ∧ i = 0 ∧ j = p.toNatClampNeg then τ.2.2 10 0 6 else τ.2.2 k i j := by
  simp [mf_come, sI, sL]
theorem Mk_app {σ : sT} {r x y : Nat} : Mk (cf_app σ r x) y ↔ Mk σ y := by
  unfold Mk
  cases h : σ.2.1 6 r 2 with
  | none => rw [app_P0 h]; simp
  | some q => rw [app_P1 h]; simp
theorem Mk_take {σ : sT} {r y : Nat} : Mk (cf_take σ r).2 y ↔ Mk σ y := by
  unfold Mk
  cases h : σ.2.1 6 r 1 with
  | none => rw [take_0 h]
  | some x => rw [take_P h]; simp
theorem rel_app {L : Nat → List Nat} {n : Nat} {σ τ : sT} (h : RelR L n σ τ) (hn : n < 2 ^ 60) {r x : Nat} (hr : r < 24) (hx : Mk σ x) (h0 : σ.1 8 x 5 = 0) : RelR (updR L r (L r ++ [x])) (n + 1) (cf_app σ r x) (mf_come τ (nI x) (rno r)) := by
  have hx32 := hx.1
  have ecl : (nI x).toNatClampNeg = x := nI_clamp (by omega)
  have hni : ∀ q, q < 24 → x ∉ L q := fun q hq => h.notin hq h0
  have hb : σ.2.1 8 x 6 = none := by
    rcases h.2.2.1 x hx with q | ⟨q, hq, hm⟩
    · exact q.2
    · exact absurd hm (hni q hq)
  obtain ⟨h1, h2, h3, t, ht, ht2, ht3⟩ := id h
  have hI : ∀ y, (cf_app σ r x).1 8 y 5 = if y = x then rno r else σ.1 8 y 5 := by
    intro y
    rw [app_I]
    by_cases e : y = x
    · rw [if_pos ⟨rfl, e, rfl⟩, if_pos e]
    · rw [if_neg (fun q => e q.2.1), if_neg e]
  have hL : ∀ y, (mf_come τ (nI x) (rno r)).2.2 16 0 y = if y = x then lN t else τ.2.2 16 0 y := by
    intro y
    rw [come_L, ecl, ht2]
    by_cases e : y = x
    · rw [if_neg (by omega), if_pos ⟨rfl, rfl, e⟩, if_pos e]
    · rw [if_neg (by omega), if_neg (fun q => e q.2.2), if_neg e]
  have hLn : ∀ y, y ≠ x → (mf_come τ (nI x) (rno r)).2.2 16 0 y = τ.2.2 16 0 y := fun y e => by rw [hL, if_neg e]
  -- what is behind whom, and the ends of the rows
  have hB : ∀ y, (L r).getLast? ≠ some y → (cf_app σ r x).2.1 8 y 6 = σ.2.1 8 y 6 := by
    intro y hy
    cases hl : σ.2.1 6 r 2 with
    | none => rw [app_P0 hl]; simp
    | some q =>
      rw [app_P1 hl]
      have : y ≠ q := by
        rintro rfl
        exact hy ((h2 r hr).1.2.symm.trans hl)
      simp [this]
  have hBx : (cf_app σ r x).2.1 8 x 6 = none := by
    rw [hB x (fun q => hni r hr (List.mem_of_getLast? q)), hb]
  have hE : ∀ q, q ≠ r → (cf_app σ r x).2.1 6 q 1 = σ.2.1 6 q 1 ∧ (cf_app σ r x).2.1 6 q 2 = σ.2.1 6 q 2 := by
    intro q hq
    cases hl : σ.2.1 6 r 2 with
    | none => rw [app_P0 hl, app_P0 hl]; simp [hq]
    | some z => rw [app_P1 hl, app_P1 hl]; simp [hq]
  refine ⟨fun y hy => ?_, fun q hq => ?_, fun y hy => ?_, t + 1, by omega, ?_, fun q hq y hy => ?_⟩
  · rw [hI, come_I, ecl]
    by_cases e : y = x
    · rw [if_pos ⟨rfl, rfl, e⟩, if_pos e]
    · rw [if_neg (fun z => e z.2.2), if_neg e]
      exact h1 y (Mk_app.mp hy)
  · by_cases e : q = r
    · subst e
      rw [updR_s]
      obtain ⟨⟨a1, a2⟩, a3, a4, a5⟩ := h2 q hq
      refine ⟨?_, ?_, fun y hy => ?_, ?_⟩
      · cases hl : σ.2.1 6 q 2 with
        | none =>
          have e0 : L q = [] := List.getLast?_eq_none_iff.mp (a2.symm.trans hl)
          rw [app_P0 hl, app_P0 hl, e0]
          simp
        | some z =>
          rw [app_P1 hl, app_P1 hl]
          have e0 : L q ≠ [] := by
            intro z0
            rw [a2, z0] at hl
            cases hl
          refine ⟨?_, ?_⟩
          · simp only [List.head?_append]
            rw [a1]
            cases hz : L q with
            | nil => exact absurd hz e0
            | cons w ws => simp
          · simp
      · cases hl : σ.2.1 6 q 2 with
        | none =>
          have e0 : L q = [] := List.getLast?_eq_none_iff.mp (a2.symm.trans hl)
          rw [e0]
          exact ⟨hBx, trivial⟩
        | some z =>
          refine lk_app (σ := σ) (q := z) (x := x) ?_ hBx (fun y _ hyz => hB y (by rw [← a2, hl]; intro w; exact hyz (Option.some.inj w).symm)) (h.nd hq) (a2.symm.trans hl) a3
          rw [app_P1 hl]; simp
      · rcases List.mem_append.mp hy with hy | hy
        · refine ⟨Mk_app.mpr (a4 y hy).1, ?_⟩
          rw [hI]
          split
          · rfl
          · exact (a4 y hy).2
        · have e : y = x := by simpa using hy
          subst e
          exact ⟨Mk_app.mpr hx, by rw [hI, if_pos rfl]⟩
      · rw [List.pairwise_append]
        refine ⟨?_, List.pairwise_singleton _ _, fun y hy z hz => ?_⟩
        · refine a5.imp_of_mem (fun {u v} hu hv huv => ?_)
          rw [hLn u (fun e => hni q hq (e ▸ hu)), hLn v (fun e => hni q hq (e ▸ hv))]
          exact huv
        · have e : z = x := by simpa using hz
          subst e
          rw [hLn y (fun e => hni q hq (e ▸ hy)), hL, if_pos rfl, pk_lT (by omega)]
          exact ht3 q hq y hy
    · rw [updR_n e]
      obtain ⟨⟨a1, a2⟩, a3, a4, a5⟩ := h2 q hq
      refine ⟨⟨by rw [(hE q e).1]; exact a1, by rw [(hE q e).2]; exact a2⟩, lk_congr (fun y hy => hB y (fun z => e (h.in_one hq hr hy (List.mem_of_getLast? z)))) a3, fun y hy => ⟨Mk_app.mpr (a4 y hy).1, ?_⟩, ?_⟩
      · rw [hI, if_neg (show ¬ y = x from fun z => hni q hq (z ▸ hy))]
        exact (a4 y hy).2
      · refine a5.imp_of_mem (fun {u v} hu hv huv => ?_)
        rw [hLn u (fun e => hni q hq (e ▸ hu)), hLn v (fun e => hni q hq (e ▸ hv))]
        exact huv
  · by_cases e : y = x
    · subst e
      exact Or.inr ⟨r, hr, by rw [updR_s]; simp⟩
    · rcases h3 y (Mk_app.mp hy) with ⟨q1, q2⟩ | ⟨q, hq, hm⟩
      · refine Or.inl ⟨by rw [hI, if_neg e]; exact q1, ?_⟩
        rw [hB y (fun z => h.notin hr q1 (List.mem_of_getLast? z))]
        exact q2
      · refine Or.inr ⟨q, hq, ?_⟩
        by_cases e2 : q = r
        · subst e2; rw [updR_s]; exact List.mem_append_left _ hm
        · rw [updR_n e2]; exact hm
  · rw [come_L, if_pos ⟨rfl, rfl, rfl⟩, ht2, lN_1]
  · have : y = x ∨ (y ≠ x ∧ y ∈ L q) := by
      by_cases e2 : q = r
      · subst e2
        rw [updR_s] at hy
        rcases List.mem_append.mp hy with hy | hy
        · exact Or.inr ⟨fun z => hni q hq (z ▸ hy), hy⟩
        · exact Or.inl (by simpa using hy)
      · rw [updR_n e2] at hy
        exact Or.inr ⟨fun z => hni q hq (z ▸ hy), hy⟩
    rcases this with rfl | ⟨e, hm⟩
    · rw [hL, if_pos rfl, pk_lT (by omega)]
      omega
    · rw [hLn y e]
      have := ht3 q hq y hm
      omega
theorem rel_take {L : Nat → List Nat} {n : Nat} {σ τ : sT} (h : RelR L n σ τ) {r x : Nat} {t : List Nat} (hr : r < 24) (hl : L r = x :: t) : RelR (updR L r t) n (cf_take σ r).2 (sI τ 15 0 x 0) := by
  obtain ⟨h1, h2, h3, hh, ht, ht2, ht3⟩ := id h
  obtain ⟨⟨b1, b2⟩, b3, b4, b5⟩ := h2 r hr
  rw [hl] at b1 b2 b3 b4 b5
  have hf : σ.2.1 6 r 1 = some x := b1
  have hnd := h.nd hr
  rw [hl] at hnd
  have hxt : x ∉ t := (List.nodup_cons.mp hnd).1
  have hxr : x ∈ L r := by rw [hl]; exact List.mem_cons_self
  have hbx : σ.2.1 8 x 6 = t.head? := b3.1
  have hI : ∀ y, (cf_take σ r).2.1 8 y 5 = if y = x then 0 else σ.1 8 y 5 := by
    intro y
    rw [take_I hf]
    by_cases e : y = x
    · rw [if_pos ⟨rfl, e, rfl⟩, if_pos e]
    · rw [if_neg (fun q => e q.2.1), if_neg e]
  have hB : ∀ y, y ≠ x → (cf_take σ r).2.2.1 8 y 6 = σ.2.1 8 y 6 := by
    intro y hy
    rw [take_P hf]
    simp [hy]
  have hT : ∀ q, q < 24 → ∀ y ∈ updR L r t q, y ≠ x ∧ y ∈ L q := by
    intro q hq y hy
    by_cases e : q = r
    · subst e
      rw [updR_s] at hy
      exact ⟨fun z => hxt (z ▸ hy), by rw [hl]; exact List.mem_cons_of_mem _ hy⟩
    · rw [updR_n e] at hy
      exact ⟨fun z => e (h.in_one hq hr (z ▸ hy) hxr), hy⟩
  refine ⟨fun y hy => ?_, fun q hq => ?_, fun y hy => ?_, hh, ht, ht2, fun q hq y hy => ?_⟩
  · rw [hI]
    by_cases e : y = x
    · rw [if_pos e]; simp [sI, e]
    · rw [if_neg e]
      have e2 : (sI τ 15 0 x 0).1 15 0 y = τ.1 15 0 y := by simp [sI, e]
      rw [e2]
      exact h1 y (Mk_take.mp hy)
  · by_cases e : q = r
    · subst e
      rw [updR_s]
      refine ⟨⟨?_, ?_⟩, lk_congr (fun y hy => hB y (fun z => hxt (z ▸ hy))) b3.2, fun y hy => ⟨Mk_take.mpr (b4 y (List.mem_cons_of_mem _ hy)).1, ?_⟩, (List.pairwise_cons.mp b5).2⟩
      · rw [take_P hf, ← hbx]
        simp
      · rw [take_P hf, hbx, b2]
        cases t with
        | nil => simp
        | cons z zs => simp
      · rw [hI, if_neg (show ¬ y = x from fun z => hxt (z ▸ hy))]
        exact (b4 y (List.mem_cons_of_mem _ hy)).2
    · rw [updR_n e]
      obtain ⟨⟨a1, a2⟩, a3, a4, a5⟩ := h2 q hq
      have hne : ∀ y ∈ L q, y ≠ x := fun y hy z => e (h.in_one hq hr (z ▸ hy) hxr)
      refine ⟨⟨?_, ?_⟩, lk_congr (fun y hy => hB y (hne y hy)) a3, fun y hy => ⟨Mk_take.mpr (a4 y hy).1, ?_⟩, a5⟩
      · rw [take_P hf, ← a1]; simp [e]
      · rw [take_P hf, ← a2]; simp [e]
      · rw [hI, if_neg (hne y hy)]
        exact (a4 y hy).2
  · by_cases e : y = x
    · subst e
      refine Or.inl ⟨by rw [hI, if_pos rfl], ?_⟩
      rw [take_P hf]; simp
    · rcases h3 y (Mk_take.mp hy) with ⟨q1, q2⟩ | ⟨q, hq, hm⟩
      · exact Or.inl ⟨by rw [hI, if_neg e]; exact q1, by rw [hB y e]; exact q2⟩
      · refine Or.inr ⟨q, hq, ?_⟩
        by_cases e2 : q = r
        · subst e2
          rw [updR_s]
          rw [hl] at hm
          exact (List.mem_cons.mp hm).resolve_left e
        · rw [updR_n e2]; exact hm
  · exact ht3 q hq y (hT q hq y hy).2
end
section
/-- the hour at which one came, as a whole number -/
abbrev fh (τ : sT) (x : Nat) : Int := (τ.2.2 16 0 x).toInt
/-- what the reference's two arrays say of a row: its members -/
def InR (τ : sT) (R : Int32) (l : List Nat) : Prop := (∀ k, k < 32 → ((¬ τ.1 11 0 k = 0 ∧ τ.1 15 0 k = R) ↔ k ∈ l)) ∧ (∀ k ∈ l, k < 32) ∧ l.Pairwise (fun x y => fh τ x < fh τ y)
theorem i64_le {x y : Int64} : x ≤ y ↔ x.toInt ≤ y.toInt := Int64.le_iff_toInt_le
theorem nI_neg {m : Nat} (hm : m < 2 ^ 31) : ¬ nI m < 0 := nI_pos hm
def Bst (τ : sT) (l : List Nat) (k : Nat) (f : Int32) : Prop := (f = -1 ∧ ∀ y ∈ l, k ≤ y) ∨ ∃ m, m < k ∧ m ∈ l ∧ f = nI m ∧ ∀ y ∈ l, y < k → fh τ m ≤ fh τ y
theorem bst_step {τ : sT} {R : Int32} {l : List Nat} (h : InR τ R l) {k : Nat} {f : Int32} (hk : k < 32) (hb : Bst τ l k f) : Bst τ l (k + 1) (mf_ft τ R k f) := by
  have ecl : (nI k).toNatClampNeg = k := nI_clamp (by omega)
  unfold mf_ft
  rw [ecl]
  by_cases hm : k ∈ l
  · obtain ⟨m1, m2⟩ := (h.1 k hk).mpr hm
    rw [if_neg m1, if_pos m2]
    rcases hb with ⟨rfl, hb⟩ | ⟨m, b1, b2, rfl, b4⟩
    · rw [if_pos (by decide)]
      refine Or.inr ⟨k, by omega, hm, rfl, fun y hy hyk => ?_⟩
      have := hb y hy
      have e : y = k := by omega
      subst e
      exact Int.le_refl _
    · have hm32 := h.2.1 m b2
      rw [if_neg (nI_neg (by omega)), nI_clamp (by omega)]
      by_cases hc : 0 ≤ lg_cmp (τ.2.2 16 0 k) (τ.2.2 16 0 m)
      · rw [if_pos hc]
        rw [lg_cmp_ge, i64_le] at hc
        refine Or.inr ⟨m, by omega, b2, rfl, fun y hy hyk => ?_⟩
        by_cases e : y = k
        · subst e; exact hc
        · exact b4 y hy (by omega)
      · rw [if_neg hc]
        rw [lg_cmp_ge, i64_le] at hc
        refine Or.inr ⟨k, by omega, hm, rfl, fun y hy hyk => ?_⟩
        by_cases e : y = k
        · subst e; exact Int.le_refl _
        · have := b4 y hy (by omega)
          show (τ.2.2 16 0 k).toInt ≤ (τ.2.2 16 0 y).toInt
          have e2 : (τ.2.2 16 0 m).toInt ≤ (τ.2.2 16 0 y).toInt := this
          omega
  · have hs : Bst τ l (k + 1) f := by
      rcases hb with ⟨rfl, hb⟩ | ⟨m, b1, b2, rfl, b4⟩
      · refine Or.inl ⟨rfl, fun y hy => ?_⟩
        have := hb y hy
        have : y ≠ k := fun e => hm (e ▸ hy)
        omega
      · refine Or.inr ⟨m, by omega, b2, rfl, fun y hy hyk => b4 y hy ?_⟩
        have : y ≠ k := fun e => hm (e ▸ hy)
        omega
    split
    · exact hs
    · next q1 =>
      split
      · next q2 => exact absurd ((h.1 k hk).mp ⟨q1, q2⟩) hm
      · exact hs
theorem bst_all {τ : sT} {R : Int32} {l : List Nat} (h : InR τ R l) : ∀ (n k : Nat) (f : Int32), k + n = 32 → Bst τ l k f → Bst τ l 32 (mf_fl τ R n k f)
  | 0, k, f, hk, hb => by
    have e : k = 32 := by omega
    subst e
    exact hb
  | n + 1, k, f, hk, hb => bst_all h n (k + 1) _ (by omega) (bst_step h (by omega) hb)
theorem first_eq {τ : sT} {R : Int32} {l : List Nat} (h : InR τ R l) : mf_first τ R = cf_num l.head? := by
  have hb := bst_all h 32 0 (-1) rfl (Or.inl ⟨rfl, fun y _ => Nat.zero_le _⟩)
  show mf_fl τ R 32 0 (-1) = _
  rcases hb with ⟨e, hb⟩ | ⟨m, b1, b2, e, b4⟩
  · rw [e]
    cases l with
    | nil => rfl
    | cons x t =>
      have := hb x List.mem_cons_self
      have := h.2.1 x List.mem_cons_self
      omega
  · rw [e]
    cases l with
    | nil => cases b2
    | cons x t =>
      show nI m = nI x
      rcases List.mem_cons.mp b2 with rfl | b2
      · rfl
      · have h1 := (List.pairwise_cons.mp h.2.2).1 m b2
        have h2 := b4 x List.mem_cons_self (h.2.1 x List.mem_cons_self)
        omega
theorem idx_cnt {f : Nat → Int} : ∀ {l : List Nat}, l.Pairwise (fun x y => f x < f y) → ∀ j (hj : j < l.length), l.countP (fun y => decide (f y < f l[j])) = j
  | [], _, j, hj => absurd hj (Nat.not_lt_zero _)
  | x :: t, h, 0, _ => by
    obtain ⟨h1, h2⟩ := List.pairwise_cons.mp h
    rw [List.countP_eq_zero]
    intro y hy
    rcases List.mem_cons.mp hy with rfl | hy
    · simp
    · have := h1 y hy
      simp
      omega
  | x :: t, h, j + 1, hj => by
    obtain ⟨h1, h2⟩ := List.pairwise_cons.mp h
    have hj' : j < t.length := by simpa using hj
    have e := idx_cnt h2 j hj'
    have hx : f x < f t[j] := h1 _ (List.getElem_mem hj')
    rw [List.getElem_cons_succ, List.countP_cons_of_pos (by simpa using hx), e]
theorem bl_cnt {τ : sT} {R : Int32} {l : List Nat} (h : InR τ R l) {p : Nat} (hp : p < 32) : ∀ (n q : Nat) (b : Int32), q + n = 32 → mf_bl τ R p n q b = b + nI ((List.range' q n).countP (fun y => decide (y ∈ l ∧ fh τ y < fh τ p)))
  | 0, q, b, _ => by simp [mf_bl, nI_0]
  | n + 1, q, b, hq => by
    have ecl : (nI q).toNatClampNeg = q := nI_clamp (by omega)
    have ecp : (nI p).toNatClampNeg = p := nI_clamp (by omega)
    have e1 : mf_bt τ R p q b = if q ∈ l ∧ fh τ q < fh τ p then b + 1 else b := by
      unfold mf_bt
      rw [ecl, ecp]
      by_cases hm : q ∈ l
      · obtain ⟨m1, m2⟩ := (h.1 q (by omega)).mpr hm
        rw [if_neg m1, if_pos m2]
        by_cases hc : 0 ≤ lg_cmp (τ.2.2 16 0 q) (τ.2.2 16 0 p)
        · rw [if_pos hc]
          rw [lg_cmp_ge, i64_le] at hc
          rw [if_neg (fun z => by have z2 : (τ.2.2 16 0 q).toInt < (τ.2.2 16 0 p).toInt := z.2; omega)]
        · rw [if_neg hc]
          rw [lg_cmp_ge, i64_le] at hc
          rw [if_pos ⟨hm, by show (τ.2.2 16 0 q).toInt < (τ.2.2 16 0 p).toInt; omega⟩]
      · rw [if_neg (show ¬ (q ∈ l ∧ fh τ q < fh τ p) from fun z => hm z.1)]
        split
        · rfl
        · next q1 =>
          split
          · next q2 => exact absurd ((h.1 q (by omega)).mp ⟨q1, q2⟩) hm
          · rfl
    rw [mf_bl, bl_cnt h hp n (q + 1) _ (by omega), e1, List.range'_succ]
    by_cases hc : q ∈ l ∧ fh τ q < fh τ p
    · rw [if_pos hc, List.countP_cons_of_pos (by simpa using hc), nI_succ, Int32.add_assoc, Int32.add_comm 1]
    · rw [if_neg hc, List.countP_cons_of_neg (by simpa using hc)]
theorem cnt_perm {τ : sT} {R : Int32} {l : List Nat} (h : InR τ R l) (P : Nat → Prop) [DecidablePred P] : (List.range' 0 32).countP (fun y => decide (y ∈ l ∧ P y)) = l.countP (fun y => decide (P y)) := by
  have hnd : l.Nodup := pw_nodup (f := fh τ) h.2.2
  have e : ((List.range' 0 32).filter (fun y => decide (y ∈ l))).Perm l := by
    rw [List.perm_ext_iff_of_nodup ((List.nodup_range' (s := 0) (n := 32) (step := 1)).filter _) hnd]
    intro a
    rw [List.mem_filter]
    constructor
    · intro q; simpa using q.2
    · intro q
      have := h.2.1 a q
      exact ⟨by simp [List.mem_range']; omega, by simpa using q⟩
  rw [← e.countP_eq, List.countP_filter]
  congr 1
  funext y
  simp [and_comm]
theorem nI_inj {a b : Nat} (ha : a < 2 ^ 31) (hb : b < 2 ^ 31) (h : nI a = nI b) : a = b := (nI_eq ha hb).mp h
theorem at1_yes {τ : sT} {R : Int32} {l : List Nat} (h : InR τ R l) {i : Nat} (hi : i < l.length) (hl : l.length ≤ 32) : ∀ (n p : Nat), p + n = 32 → p ≤ l[i] → mf_at1 τ R (nI i) n p = nI l[i]
  | 0, p, hp, hx => by
    have := h.2.1 _ (List.getElem_mem hi)
    omega
  | n + 1, p, hp, hx => by
    have ecl : (nI p).toNatClampNeg = p := nI_clamp (by omega)
    unfold mf_at1
    rw [ecl]
    have hcnt : mf_bl τ R p 32 0 0 = nI (l.countP (fun y => decide (fh τ y < fh τ p))) := by
      rw [bl_cnt h (by omega) 32 0 0 rfl, cnt_perm h (fun y => fh τ y < fh τ p), Int32.zero_add]
    by_cases e : p = l[i]
    · have hm : p ∈ l := e ▸ List.getElem_mem hi
      obtain ⟨m1, m2⟩ := (h.1 p (by omega)).mpr hm
      rw [if_neg m1, if_pos m2, hcnt, e, idx_cnt h.2.2 i hi, if_pos rfl]
    · have hr := at1_yes h hi hl n (p + 1) (by omega) (by omega)
      split
      · exact hr
      · next q1 =>
        split
        · next q2 =>
          have hm := (h.1 p (by omega)).mp ⟨q1, q2⟩
          obtain ⟨j, hj, ej⟩ := List.getElem_of_mem hm
          have ec : l.countP (fun y => decide (fh τ y < fh τ p)) = j := by have e9 := idx_cnt h.2.2 j hj; rw [ej] at e9; exact e9
          rw [hcnt, ec]
          rw [if_neg]
          · exact hr
          · intro z
            have := nI_inj (by omega) (by omega) z
            subst this
            exact e ej.symm
        · exact hr
theorem at1_no {τ : sT} {R : Int32} {l : List Nat} (h : InR τ R l) {i : Nat} (hi : l.length ≤ i) (hi2 : i < 2 ^ 31) (hl : l.length ≤ 32) : ∀ (n p : Nat), p + n = 32 → mf_at1 τ R (nI i) n p = -1
  | 0, p, hp => rfl
  | n + 1, p, hp => by
    have ecl : (nI p).toNatClampNeg = p := nI_clamp (by omega)
    unfold mf_at1
    rw [ecl]
    have hcnt : mf_bl τ R p 32 0 0 = nI (l.countP (fun y => decide (fh τ y < fh τ p))) := by
      rw [bl_cnt h (by omega) 32 0 0 rfl, cnt_perm h (fun y => fh τ y < fh τ p), Int32.zero_add]
    have hr := at1_no h hi hi2 hl n (p + 1) (by omega)
    split
    · exact hr
    · next q1 =>
      split
      · next q2 =>
        have hm := (h.1 p (by omega)).mp ⟨q1, q2⟩
        obtain ⟨j, hj, ej⟩ := List.getElem_of_mem hm
        have ec : l.countP (fun y => decide (fh τ y < fh τ p)) = j := by have e9 := idx_cnt h.2.2 j hj; rw [ej] at e9; exact e9
        rw [hcnt, ec]
        rw [if_neg]
        · exact hr
        · intro z
          have := nI_inj (by omega) (by omega) z
          omega
      · exact hr
theorem nd_len {l : List Nat} (hn : l.Nodup) (h : ∀ x ∈ l, x < 32) : l.length ≤ 32 := by
  have : l ⊆ List.range 32 := fun x hx => List.mem_range.mpr (h x hx)
  have := hn.length_le_of_subset this
  simpa using this
end
section
/-! THE RELATION between the class's store and the reference's -/
def RelD (σ τ : sT) : Prop :=
  (∀ x, x < 32 → (Mk σ x ∧ ¬ τ.1 11 0 x = 0) ∨ (σ.2.1 1 0 x = none ∧ τ.1 11 0 x = 0)) ∧
  (∀ x, Mk σ x → τ.1 12 0 x = σ.1 8 x 1 ∧ σ.1 8 x 1 = nI (lev σ x + 1) ∧ lev σ x < 8) ∧
  (∀ x, x < 32 → ∀ j, j < 8 → (Mk σ x → τ.1 13 0 (8 * x + j) = σ.1 9 x j) ∧ (¬ Mk σ x → τ.1 13 0 (8 * x + j) = 0)) ∧
  (∀ x, x < 32 → (Mk σ x → τ.1 14 0 x = σ.1 8 x 4) ∧ (¬ Mk σ x → τ.1 14 0 x = 0)) ∧
  (τ.1 10 0 8 = cf_num (σ.2.1 0 0 4) ∧ τ.1 10 0 14 = cf_num (σ.2.1 0 0 9) ∧ τ.1 10 0 16 = σ.1 0 0 11 ∧ τ.1 10 0 17 = σ.1 0 0 7 ∧ τ.2.2 10 0 18 = σ.2.2 0 0 8) ∧
  (τ.1 10 0 12 = σ.1 4 0 2 ∧ τ.1 10 0 13 = σ.1 4 0 3 ∧ ∃ b c : Nat, σ.1 4 0 1 = nI b ∧ b < 64 ∧ σ.1 4 0 2 = nI c ∧ c ≤ 64 ∧ ∀ j, j < c → τ.1 18 0 j = σ.1 5 0 ((b + j) % 64))
def RelE (σ τ : sT) : Prop := ∀ s, s < 16 → τ.1 17 0 s = σ.1 7 s 2
def RelW (σ τ : sT) : Prop := (τ.1 10 0 9 = 0 ↔ σ.1 0 0 5 = 0) ∧ (¬ σ.1 0 0 5 = 0 → τ.1 10 0 10 = cf_num (σ.2.1 0 0 6))
def RelU (σ τ : sT) : Prop := ∀ x, x < 32 → ¬ Mk σ x → τ.1 15 0 x = 0
def RB (L : Nat → List Nat) (n : Nat) (σ τ : sT) : Prop := RelD σ τ ∧ RelE σ τ ∧ RelW σ τ ∧ RelR L n σ τ ∧ RelU σ τ
/-- the present one is in no row -/
def Pf (σ : sT) : Prop := ∀ x, cf_pres σ = some x → σ.1 8 x 5 = 0
theorem RelD.fr {σ τ σ' τ' : sT} (h : RelD σ τ) (f : Fr σ σ') (g : FrM τ τ') : RelD σ' τ' := by
  obtain ⟨h1, h2, h3, h4, ⟨h5, h6, h7, h8, h9⟩, h10, h11, b, c, h12, h13, h14, h15, h16⟩ := h
  have hm : ∀ x, Mk σ' x ↔ Mk σ x := fun x => by unfold Mk; rw [f.2.1 1 0 x (by omega) (by omega) (by omega)]
  have hl : ∀ x, lev σ' x = lev σ x := fun x => by unfold lev; rw [f.2.1 8 x 2 (by omega) (by omega) (by omega)]
  refine ⟨fun x hx => ?_, fun x hx => ?_, fun x hx j hj => ?_, fun x hx => ?_, ⟨?_, ?_, ?_, ?_, ?_⟩, ?_, ?_, b, c, ?_, h13, ?_, h15, fun j hj => ?_⟩
  · rw [hm, f.2.1 1 0 x (by omega) (by omega) (by omega), g.1 11 0 x (by omega) (by omega) (by omega)]
    exact h1 x hx
  · rw [hl, f.1 8 x 1 (by omega) (by omega) (by omega), g.1 12 0 x (by omega) (by omega) (by omega)]
    exact h2 x ((hm x).mp hx)
  · rw [hm, f.1 9 x j (by omega) (by omega) (by omega), g.1 13 0 _ (by omega) (by omega) (by omega)]
    exact h3 x hx j hj
  · rw [hm, f.1 8 x 4 (by omega) (by omega) (by omega), g.1 14 0 x (by omega) (by omega) (by omega)]
    exact h4 x hx
  · rw [f.2.1 0 0 4 (by omega) (by omega) (by omega), g.1 10 0 8 (by omega) (by omega) (by omega)]; exact h5
  · rw [f.2.1 0 0 9 (by omega) (by omega) (by omega), g.1 10 0 14 (by omega) (by omega) (by omega)]; exact h6
  · rw [f.1 0 0 11 (by omega) (by omega) (by omega), g.1 10 0 16 (by omega) (by omega) (by omega)]; exact h7
  · rw [f.1 0 0 7 (by omega) (by omega) (by omega), g.1 10 0 17 (by omega) (by omega) (by omega)]; exact h8
  · rw [f.2.2, g.2 10 0 18 (by omega) (by omega)]; exact h9
  · rw [f.1 4 0 2 (by omega) (by omega) (by omega), g.1 10 0 12 (by omega) (by omega) (by omega)]; exact h10
  · rw [f.1 4 0 3 (by omega) (by omega) (by omega), g.1 10 0 13 (by omega) (by omega) (by omega)]; exact h11
  · rw [f.1 4 0 1 (by omega) (by omega) (by omega)]; exact h12
  · rw [f.1 4 0 2 (by omega) (by omega) (by omega)]; exact h14
  · rw [f.1 5 0 _ (by omega) (by omega) (by omega), g.1 18 0 j (by omega) (by omega) (by omega)]; exact h16 j hj
theorem RB.mono {L : Nat → List Nat} {n m : Nat} {σ τ : sT} (h : RB L n σ τ) (hm : n ≤ m) : RB L m σ τ := ⟨h.1, h.2.1, h.2.2.1, h.2.2.2.1.mono hm, h.2.2.2.2⟩
theorem pres_eq {σ τ : sT} (h : RelD σ τ) (w : RelW σ τ) : mf_pres τ = cf_num (cf_pres σ) := by
  unfold mf_pres cf_pres
  by_cases q : σ.1 0 0 5 = 0
  · rw [if_pos q, if_pos (w.1.mpr q)]
    exact h.2.2.2.2.1.1
  · rw [if_neg q, if_neg (fun z => q (w.1.mp z))]
    exact w.2 q
theorem num_some {x : Nat} (hx : x < 32) : ¬ cf_num (some x) < 0 := nI_pos (by omega)
theorem num_le {x : Nat} (hx : x < 32) : 0 ≤ cf_num (some x) := nI_pos' (by omega)
theorem num_none : cf_num none < 0 := by decide
theorem num_nle : ¬ 0 ≤ cf_num none := by decide
theorem pres_congr {σ σ' : sT} (h1 : σ'.1 0 0 5 = σ.1 0 0 5) (h2 : σ'.2.1 0 0 4 = σ.2.1 0 0 4) (h3 : σ'.2.1 0 0 6 = σ.2.1 0 0 6) : cf_pres σ' = cf_pres σ := by
  unfold cf_pres
  rw [h1, h2, h3]
theorem pres_app {σ : sT} {r x : Nat} : cf_pres (cf_app σ r x) = cf_pres σ := by
  apply pres_congr
  · rw [app_I]; simp
  · cases h : σ.2.1 6 r 2 with
    | none => rw [app_P0 h]; simp
    | some q => rw [app_P1 h]; simp
  · cases h : σ.2.1 6 r 2 with
    | none => rw [app_P0 h]; simp
    | some q => rw [app_P1 h]; simp
theorem pres_take {σ : sT} {r : Nat} : cf_pres (cf_take σ r).2 = cf_pres σ := by
  cases h : σ.2.1 6 r 1 with
  | none => rw [take_0 h]
  | some x =>
    apply pres_congr
    · rw [take_I h]; simp
    · rw [take_P h]; simp
    · rw [take_P h]; simp
theorem pres_want {σ : sT} {o : Option Nat} : cf_pres (cf_want σ o) = o := by
  unfold cf_pres cf_want
  simp [sI, sP]
theorem rb_want {L : Nat → List Nat} {n : Nat} {σ τ : sT} (h : RB L n σ τ) {o : Option Nat} : RB L n (cf_want σ o) (mf_want τ (cf_num o)) := by
  obtain ⟨hD, hE, hW, hR, hU⟩ := h
  have hm : ∀ x, Mk (cf_want σ o) x ↔ Mk σ x := fun x => by unfold Mk cf_want; simp [sI, sP]
  refine ⟨hD.fr (fr_want _ _) (frm_want _ _), fun s hs => ?_, ⟨?_, fun _ => ?_⟩, ?_, fun x hx hn => ?_⟩
  · have e1 : (mf_want τ (cf_num o)).1 17 0 s = τ.1 17 0 s := by simp [mf_want, sI]
    have e2 : (cf_want σ o).1 7 s 2 = σ.1 7 s 2 := by simp [cf_want, sI, sP]
    rw [e1, e2]; exact hE s hs
  · simp [mf_want, cf_want, sI, sP]
  · simp [mf_want, cf_want, sI, sP]
  · obtain ⟨h1, h2, h3, t, h4, h5, h6⟩ := hR
    have i1 : ∀ x, (cf_want σ o).1 8 x 5 = σ.1 8 x 5 := fun x => by simp [cf_want, sI, sP]
    have p1 : ∀ x, (cf_want σ o).2.1 8 x 6 = σ.2.1 8 x 6 := fun x => by simp [cf_want, sI, sP]
    have p2 : ∀ r j, (cf_want σ o).2.1 6 r j = σ.2.1 6 r j := fun r j => by simp [cf_want, sI, sP]
    refine ⟨fun x hx => ?_, fun r hr => ?_, fun x hx => ?_, t, h4, h5, h6⟩
    · have e1 : (mf_want τ (cf_num o)).1 15 0 x = τ.1 15 0 x := by simp [mf_want, sI]
      rw [e1, i1]; exact h1 x ((hm x).mp hx)
    · obtain ⟨a1, a2, a3, a4⟩ := h2 r hr
      refine ⟨by rw [p2, p2]; exact a1, lk_congr (fun y _ => p1 y) a2, fun x hx => ?_, a4⟩
      rw [hm, i1]; exact a3 x hx
    · rw [i1, p1]; exact h3 x ((hm x).mp hx)
  · have e1 : (mf_want τ (cf_num o)).1 15 0 x = τ.1 15 0 x := by simp [mf_want, sI]
    rw [e1]; exact hU x hx (fun q => hn ((hm x).mpr q))
theorem rb_app {L : Nat → List Nat} {n : Nat} {σ τ : sT} (h : RB L n σ τ) (hn : n < 2 ^ 60) {r x : Nat} (hr : r < 24) (hx : Mk σ x) (h0 : σ.1 8 x 5 = 0) : RB (updR L r (L r ++ [x])) (n + 1) (cf_app σ r x) (mf_come τ (nI x) (rno r)) := by
  obtain ⟨hD, hE, hW, hR, hU⟩ := h
  have hx32 := hx.1
  have ecl : (nI x).toNatClampNeg = x := nI_clamp (by omega)
  refine ⟨hD.fr (fr_app _ _ _) (frm_come _ _ _), fun s hs => ?_, ⟨?_, ?_⟩, rel_app hR hn hr hx h0, fun y hy hn => ?_⟩
  · rw [app_I, come_I, if_neg (by omega), if_neg (by omega)]; exact hE s hs
  · rw [app_I, come_I, if_neg (by omega), if_neg (by omega)]; exact hW.1
  · rw [app_I, if_neg (by omega)]
    intro q
    rw [come_I, if_neg (by omega), hW.2 q]
    congr 1
    cases hl : σ.2.1 6 r 2 with
    | none => rw [app_P0 hl]; simp
    | some z => rw [app_P1 hl]; simp
  · rw [come_I, ecl, if_neg]
    · exact hU y hy (fun q => hn (Mk_app.mpr q))
    · rintro ⟨-, -, rfl⟩
      exact hn (Mk_app.mpr hx)
theorem rb_take {L : Nat → List Nat} {n : Nat} {σ τ : sT} (h : RB L n σ τ) {r x : Nat} {t : List Nat} (hr : r < 24) (hl : L r = x :: t) : RB (updR L r t) n (cf_take σ r).2 (sI τ 15 0 x 0) ∧ (cf_take σ r).1 = some x ∧ (cf_take σ r).2.1 8 x 5 = 0 ∧ Mk σ x ∧ σ.1 8 x 5 = rno r := by
  obtain ⟨hD, hE, hW, hR, hU⟩ := h
  have hf : σ.2.1 6 r 1 = some x := by have := (hR.2.1 r hr).1.1; rw [hl] at this; exact this
  have hx := (hR.2.1 r hr).2.2.1 x (by rw [hl]; exact List.mem_cons_self)
  refine ⟨⟨hD.fr (fr_take _ _) (FrM.I (by omega)), fun s hs => ?_, ⟨?_, ?_⟩, rel_take hR hr hl, fun y hy hn => ?_⟩, take_1 hf, by rw [take_I hf, if_pos ⟨rfl, rfl, rfl⟩], hx.1, hx.2⟩
  · rw [take_I hf, if_neg (by omega)]; exact hE s hs
  · rw [take_I hf, if_neg (by omega)]; exact hW.1
  · rw [take_I hf, if_neg (by omega)]
    intro q
    refine (hW.2 q).trans ?_
    rw [take_P hf]; simp
  · have e : y ≠ x := by
      rintro rfl
      exact hn (Mk_take.mpr hx.1)
    have e1 : (sI τ 15 0 x 0).1 15 0 y = τ.1 15 0 y := by simp [sI, e]
    rw [e1]
    exact hU y hy (fun q => hn (Mk_take.mpr q))
theorem RB.inR {L : Nat → List Nat} {n : Nat} {σ τ : sT} (h : RB L n σ τ) {r : Nat} (hr : r < 24) : InR τ (rno r) (L r) := by
  obtain ⟨hD, hE, hW, hR, hU⟩ := h
  refine ⟨fun k hk => ?_, fun k hk => ((hR.2.1 r hr).2.2.1 k hk).1.1, (hR.2.1 r hr).2.2.2⟩
  rw [hR.mem hr]
  rcases hD.1 k hk with ⟨a1, a2⟩ | ⟨a1, a2⟩
  · rw [hR.1 k a1]
    exact ⟨fun q => ⟨a1, q.2⟩, fun q => ⟨a2, q.2⟩⟩
  · constructor
    · rintro ⟨q, -⟩; exact absurd a2 q
    · rintro ⟨q, -⟩
      have := q.2
      rw [a1] at this
      cases this
theorem rno_lev {v : Nat} (h : v < 8) : nI (v + 1) = rno v := by unfold rno; rw [if_pos h]
theorem rno_sem {s : Nat} : (16 : Int32) + nI s = rno (8 + s) := by
  unfold rno
  rw [if_neg (by omega), show (16 : Int32) = nI 16 from rfl, nI_add]
  congr 1
  omega
theorem RB.pr {L : Nat → List Nat} {n : Nat} {σ τ : sT} (h : RB L n σ τ) {x : Nat} (hx : Mk σ x) : mf_pr τ (nI x) = σ.1 8 x 1 ∧ mf_pr τ (nI x) = rno (lev σ x) ∧ lev σ x < 8 := by
  have hx32 := hx.1
  have h2 := h.1.2.1 x hx
  unfold mf_pr
  rw [nI_clamp (by omega)]
  exact ⟨h2.1, by rw [h2.1, h2.2.1, rno_lev h2.2.2], h2.2.2⟩
theorem rb_wake {L : Nat → List Nat} {n : Nat} {σ τ : sT} {lv : Nat → Nat → Prop} (ok : OKs σ lv) (h : RB L n σ τ) (hn : n < 2 ^ 60) (hp : Pf σ) {x : Nat} (hx : Mk σ x) (h0 : σ.1 8 x 5 = 0) (hxp : cf_pres σ ≠ some x) : ∃ L', RB L' (n + 1) (cf_wake σ x) (mf_rouse τ (nI x)) ∧ Pf (cf_wake σ x) := by
  have hpe := pres_eq h.1 h.2.2.1
  unfold cf_wake mf_rouse
  cases hq : cf_pres σ with
  | none =>
    rw [hpe, hq, if_pos num_none]
    refine ⟨L, (rb_want (o := some x) h).mono (by omega), fun y hy => ?_⟩
    rw [pres_want] at hy
    cases hy
    simpa [cf_want, sI, sP] using h0
  | some q =>
    have hqm := pres_ok ok hq
    have hq0 := hp q hq
    have pq := h.pr hqm
    have px := h.pr hx
    have hqx : q ≠ x := fun e => hxp (by rw [hq, e])
    rw [hpe, hq, if_neg (num_some hqm.1)]
    rw [show cf_num (some q) = nI q from rfl]
    dsimp only
    by_cases hc : σ.1 8 q 1 < σ.1 8 x 1
    · rw [if_pos hc, if_pos (by rw [pq.1, px.1]; exact hc), pq.2.1]
      have h1 := rb_app h hn (show lev σ q < 24 by omega) hqm hq0
      refine ⟨_, rb_want (o := some x) h1, fun y hy => ?_⟩
      rw [pres_want] at hy
      cases hy
      have e : (cf_want (cf_app σ (lev σ q) q) (some x)).1 8 x 5 = (cf_app σ (lev σ q) q).1 8 x 5 := by simp [cf_want, sI, sP]
      rw [e, app_I, if_neg (fun z => hqx z.2.1.symm)]
      exact h0
    · rw [if_neg hc, if_neg (by rw [pq.1, px.1]; exact hc), px.2.1]
      have h1 := rb_app h hn (show lev σ x < 24 by omega) hx h0
      refine ⟨_, h1, fun y hy => ?_⟩
      rw [pres_app, hq] at hy
      cases hy
      rw [app_I, if_neg (fun z => hqx z.2.1)]
      exact hq0
end
section
theorem al_pos {τ : sT} {nx : Int32} (h : 0 ≤ nx) : ∀ n, mf_al τ n nx = nx
  | 0 => rfl
  | n + 1 => by unfold mf_al; rw [if_pos h]
theorem rb_first {L : Nat → List Nat} {n : Nat} {σ τ : sT} (h : RB L n σ τ) : ∀ m, m ≤ 8 → (cf_first m σ = (none, σ) ∧ mf_al τ m (-1) = -1) ∨ ∃ r x t, r < 8 ∧ L r = x :: t ∧ cf_first m σ = (some x, (cf_take σ r).2) ∧ mf_al τ m (-1) = nI x
  | 0, _ => Or.inl ⟨rfl, rfl⟩
  | m + 1, hm => by
    have hr : m < 24 := by omega
    have hfe := first_eq (h.inR hr)
    have ha : mf_al τ (m + 1) (-1) = mf_al τ m (mf_first τ (nI (m + 1))) := by
      rw [mf_al, if_neg (by decide)]
    rw [ha, rno_lev (by omega), hfe]
    cases hl : L m with
    | nil =>
      have hf : σ.2.1 6 m 1 = none := by have := (h.2.2.2.1.2.1 m hr).1.1; rw [hl] at this; exact this
      have e : cf_first (m + 1) σ = cf_first m σ := by
        show (match cf_take σ m with | (none, σ1) => cf_first m σ1 | (some x, σ1) => (some x, σ1)) = _
        rw [take_0 hf]
      rw [e]
      exact rb_first h m (by omega)
    | cons x t =>
      have ht := rb_take h hr hl
      refine Or.inr ⟨m, x, t, by omega, hl, ?_, ?_⟩
      · show (match cf_take σ m with | (none, σ1) => cf_first m σ1 | (some x, σ1) => (some x, σ1)) = _
        cases hq : cf_take σ m with
        | mk o σ1 =>
          have := ht.2.1
          rw [hq] at this
          cases this
          rfl
      · exact al_pos (num_le ht.2.2.2.1.1) m
theorem rb_aside {L : Nat → List Nat} {n : Nat} {σ τ : sT} (h : RB L n σ τ) : ∃ L', RB L' n (cf_aside σ) (mf_aside τ) ∧ Pf (cf_aside σ) := by
  unfold cf_aside mf_aside
  rcases rb_first h 8 (by omega) with ⟨e1, e2⟩ | ⟨r, x, t, hr, hl, e1, e2⟩
  · rw [e1, e2]
    refine ⟨L, rb_want (o := none) h, fun y hy => ?_⟩
    rw [pres_want] at hy
    cases hy
  · rw [e1, e2]
    obtain ⟨t1, t2, t3, t4, t5⟩ := rb_take h (show r < 24 by omega) hl
    have hx32 := t4.1
    refine ⟨updR L r t, ?_, fun y hy => ?_⟩
    · have e3 : mf_aend τ (nI x) = mf_want (sI τ 15 0 x 0) (cf_num (some x)) := by
        unfold mf_aend
        rw [if_neg (nI_neg (by omega)), nI_clamp (by omega)]
        rfl
      rw [e3]
      exact rb_want (o := some x) t1
    · rw [pres_want] at hy
      cases hy
      have e : (cf_want (cf_take σ r).2 (some x)).1 8 x 5 = (cf_take σ r).2.1 8 x 5 := by simp [cf_want, sI, sP]
      rw [e]; exact t3
theorem rb_extra {L : Nat → List Nat} {n : Nat} {σ τ : sT} (h : RB L n σ τ) {s : Nat} (hs : s < 16) (v : Int32) : RB L n (sI σ 7 s 2 v) (sI τ 17 0 s v) := by
  obtain ⟨hD, hE, hW, hR, hU⟩ := h
  refine ⟨hD.fr (Fr.I (by omega)) (FrM.I (by omega)), fun q hq => ?_, ⟨?_, ?_⟩, ?_, ?_⟩
  · by_cases e : q = s
    · subst e; simp [sI]
    · have e1 : (sI τ 17 0 s v).1 17 0 q = τ.1 17 0 q := by simp [sI, e]
      have e2 : (sI σ 7 s 2 v).1 7 q 2 = σ.1 7 q 2 := by simp [sI, e]
      rw [e1, e2]; exact hE q hq
  · have e1 : (sI τ 17 0 s v).1 10 0 9 = τ.1 10 0 9 := by simp [sI]
    have e2 : (sI σ 7 s 2 v).1 0 0 5 = σ.1 0 0 5 := by simp [sI]
    rw [e1, e2]; exact hW.1
  · have e1 : (sI τ 17 0 s v).1 10 0 10 = τ.1 10 0 10 := by simp [sI]
    have e2 : (sI σ 7 s 2 v).1 0 0 5 = σ.1 0 0 5 := by simp [sI]
    rw [e1, e2]; exact hW.2
  · obtain ⟨h1, h2, h3, t, h4, h5, h6⟩ := hR
    have i1 : ∀ x, (sI σ 7 s 2 v).1 8 x 5 = σ.1 8 x 5 := fun x => by simp [sI]
    have i2 : ∀ x, (sI τ 17 0 s v).1 15 0 x = τ.1 15 0 x := fun x => by simp [sI]
    refine ⟨fun x hx => by rw [i1, i2]; exact h1 x hx, fun r hr => ?_, fun x hx => by rw [i1]; exact h3 x hx, t, h4, h5, h6⟩
    obtain ⟨a1, a2, a3, a4⟩ := h2 r hr
    exact ⟨a1, lk_congr (σ := σ) (fun y _ => rfl) a2, fun x hx => ⟨(a3 x hx).1, by rw [i1]; exact (a3 x hx).2⟩, a4⟩
  · intro x hx hn
    have i2 : (sI τ 17 0 s v).1 15 0 x = τ.1 15 0 x := by simp [sI]
    rw [i2]; exact hU x hx hn
theorem rb_sig {L : Nat → List Nat} {n : Nat} {σ τ : sT} {lv : Nat → Nat → Prop} (ok : OKs σ lv) (h : RB L n σ τ) (hn : n < 2 ^ 60) (hp : Pf σ) {s : Nat} (hs : s < 16) : ∃ L', RB L' (n + 1) (cf_sig σ s) (mf_sig τ (nI s)) ∧ Pf (cf_sig σ s) := by
  have hr : 8 + s < 24 := by omega
  have hfe : mf_first τ (16 + nI s) = cf_num (L (8 + s)).head? := by rw [rno_sem]; exact first_eq (h.inR hr)
  have es : (nI s).toNatClampNeg = s := nI_clamp (by omega)
  unfold cf_sig mf_sig
  rw [hfe, es]
  cases hl : L (8 + s) with
  | nil =>
    have hf : σ.2.1 6 (8 + s) 1 = none := by have := (h.2.2.2.1.2.1 _ hr).1.1; rw [hl] at this; exact this
    rw [take_0 hf]
    rw [show ([] : List Nat).head? = none from rfl, if_neg num_nle, h.2.1 s hs]
    refine ⟨L, (rb_extra h hs _).mono (by omega), fun y hy => ?_⟩
    have e : (sI σ 7 s 2 (σ.1 7 s 2 + 1)).1 8 y 5 = σ.1 8 y 5 := by simp [sI]
    have e2 : cf_pres (sI σ 7 s 2 (σ.1 7 s 2 + 1)) = cf_pres σ := pres_congr (by simp [sI]) rfl rfl
    rw [e2] at hy
    show (sI σ 7 s 2 (σ.1 7 s 2 + 1)).1 8 y 5 = 0
    rw [e]; exact hp y hy
  | cons x t =>
    obtain ⟨t1, t2, t3, t4, t5⟩ := rb_take h hr hl
    have hx32 := t4.1
    rw [show (x :: t).head? = some x from rfl, if_pos (num_le hx32), t2]
    rw [show cf_num (some x) = nI x from rfl, nI_clamp (by omega)]
    have ok2 := go_take ok hr
    refine rb_wake ok2.1 t1 hn (fun y hy => ?_) (Mk_take.mpr t4) t3 ?_
    · rw [pres_take] at hy
      have hf : σ.2.1 6 (8 + s) 1 = some x := by have := (h.2.2.2.1.2.1 _ hr).1.1; rw [hl] at this; exact this
      rw [take_I hf]
      split
      · rfl
      · exact hp y hy
    · rw [pres_take]
      intro q
      have := hp x q
      rw [t5] at this
      exact rno_ne _ hr this
theorem rb_wait {L : Nat → List Nat} {n : Nat} {σ τ : sT} {lv : Nat → Nat → Prop} (ok : OKs σ lv) (h : RB L n σ τ) (hn : n < 2 ^ 60) (hp : Pf σ) {s : Nat} (hs : s < 16) : ∃ L', RB L' (n + 1) (cf_wait σ s) (mf_wait τ (nI s)) ∧ Pf (cf_wait σ s) := by
  have hpe := pres_eq h.1 h.2.2.1
  have es : (nI s).toNatClampNeg = s := nI_clamp (by omega)
  unfold cf_wait mf_wait
  rw [hpe, es, h.2.1 s hs]
  cases hq : cf_pres σ with
  | none =>
    rw [if_neg num_nle]
    exact ⟨L, h.mono (by omega), hp⟩
  | some q =>
    have hqm := pres_ok ok hq
    have hq32 := hqm.1
    rw [if_pos (num_le hq32), show cf_num (some q) = nI q from rfl]
    dsimp only
    by_cases hc : σ.1 7 s 2 ≤ 0
    · rw [if_pos hc, if_pos hc, rno_sem]
      exact rb_aside (rb_app h hn (show 8 + s < 24 by omega) hqm (hp q hq))
    · rw [if_neg hc, if_neg hc]
      refine ⟨L, (rb_extra h hs _).mono (by omega), fun y hy => ?_⟩
      have e : (sI σ 7 s 2 (σ.1 7 s 2 - 1)).1 8 y 5 = σ.1 8 y 5 := by simp [sI]
      have e2 : cf_pres (sI σ 7 s 2 (σ.1 7 s 2 - 1)) = cf_pres σ := pres_congr (by simp [sI]) rfl rfl
      rw [e2] at hy
      rw [e]; exact hp y hy
theorem rb_give {L : Nat → List Nat} {n : Nat} {σ τ : sT} {lv : Nat → Nat → Prop} (ok : OKs σ lv) (h : RB L n σ τ) (hn : n < 2 ^ 60) (hp : Pf σ) : ∃ L', RB L' (n + 1) (cf_give σ) (mf_give τ) ∧ Pf (cf_give σ) := by
  have hpe := pres_eq h.1 h.2.2.1
  unfold cf_give mf_give
  rw [hpe]
  cases hq : cf_pres σ with
  | none =>
    rw [if_pos num_none]
    exact ⟨L, h.mono (by omega), hp⟩
  | some q =>
    have hqm := pres_ok ok hq
    have hq32 := hqm.1
    have pq := h.pr hqm
    rw [if_neg (num_some hq32), show cf_num (some q) = nI q from rfl, pq.2.1]
    have hr : lev σ q < 24 := by omega
    have hfe := first_eq (h.inR hr)
    have hf := (h.2.2.2.1.2.1 _ hr).1.1
    rw [hfe]
    dsimp only
    rw [hf]
    cases hl : (L (lev σ q)).head? with
    | none =>
      rw [if_pos num_none]
      exact ⟨L, h.mono (by omega), hp⟩
    | some x =>
      have hx : Mk σ x := ((h.2.2.2.1.2.1 _ hr).2.2.1 x (List.mem_of_head? hl)).1
      rw [if_neg (num_some hx.1)]
      exact rb_aside (rb_app h hn hr hqm (hp q hq))
end
section
/-- the reference's store but for the posts and the alarm -/
def FrP (τ τ' : sT) : Prop := (∀ k i j, ¬ k = 19 → ¬ (k = 10 ∧ (j = 20 ∨ j = 15)) → τ'.1 k i j = τ.1 k i j) ∧ τ'.2.2 = τ.2.2
theorem FrP.rf {τ : sT} : FrP τ τ := ⟨fun _ _ _ _ _ => rfl, rfl⟩
theorem rb_frp {L : Nat → List Nat} {n : Nat} {σ τ τ' : sT} (h : RB L n σ τ) (f : FrP τ τ') : RB L n σ τ' := by
  obtain ⟨⟨h1, h2, h3, h4, ⟨h5, h6, h7, h8, h9⟩, h10, h11, b, c, h12, h13, h14, h15, h16⟩, hE, hW, ⟨r1, r2, r3, t, r4, r5, r6⟩, hU⟩ := h
  have e : ∀ k i j, ¬ k = 19 → ¬ (k = 10 ∧ (j = 20 ∨ j = 15)) → τ'.1 k i j = τ.1 k i j := f.1
  refine ⟨⟨fun x hx => ?_, fun x hx => ?_, fun x hx j hj => ?_, fun x hx => ?_, ⟨?_, ?_, ?_, ?_, ?_⟩, ?_, ?_, b, c, h12, h13, h14, h15, fun j hj => ?_⟩, fun s hs => ?_, ⟨?_, ?_⟩, ⟨fun x hx => ?_, fun r hr => ?_, r3, t, r4, ?_, fun r hr x hx => ?_⟩, fun x hx hn => ?_⟩
  · rw [e 11 0 x (by omega) (by omega)]; exact h1 x hx
  · rw [e 12 0 x (by omega) (by omega)]; exact h2 x hx
  · rw [e 13 0 _ (by omega) (by omega)]; exact h3 x hx j hj
  · rw [e 14 0 x (by omega) (by omega)]; exact h4 x hx
  · rw [e 10 0 8 (by omega) (by omega)]; exact h5
  · rw [e 10 0 14 (by omega) (by omega)]; exact h6
  · rw [e 10 0 16 (by omega) (by omega)]; exact h7
  · rw [e 10 0 17 (by omega) (by omega)]; exact h8
  · rw [f.2]; exact h9
  · rw [e 10 0 12 (by omega) (by omega)]; exact h10
  · rw [e 10 0 13 (by omega) (by omega)]; exact h11
  · rw [e 18 0 j (by omega) (by omega)]; exact h16 j hj
  · rw [e 17 0 s (by omega) (by omega)]; exact hE s hs
  · rw [e 10 0 9 (by omega) (by omega)]; exact hW.1
  · rw [e 10 0 10 (by omega) (by omega)]; exact hW.2
  · rw [e 15 0 x (by omega) (by omega)]; exact r1 x hx
  · rw [f.2]; exact r2 r hr
  · rw [f.2]; exact r5
  · rw [f.2]; exact r6 r hr x hx
  · rw [e 15 0 x (by omega) (by omega)]; exact hU x hx hn
theorem rb_al {L : Nat → List Nat} {n : Nat} {σ τ : sT} (h : RB L n σ τ) (o : Option Nat) : RB L n (sP σ 0 0 10 o) τ := by
  obtain ⟨⟨h1, h2, h3, h4, ⟨h5, h6, h7, h8, h9⟩, h10, h11, b, c, h12, h13, h14, h15, h16⟩, hE, hW, ⟨r1, r2, r3, t, r4, r5, r6⟩, hU⟩ := h
  have e : ∀ k i j, ¬ (k = 0 ∧ j = 10) → (sP σ 0 0 10 o).2.1 k i j = σ.2.1 k i j := fun k i j q => by
    simp only [sP]
    rw [if_neg (fun z => q ⟨z.1, z.2.2⟩)]
  have hm : ∀ x, Mk (sP σ 0 0 10 o) x ↔ Mk σ x := fun x => by unfold Mk; rw [e 1 0 x (by omega)]
  have hl : ∀ x, lev (sP σ 0 0 10 o) x = lev σ x := fun x => by unfold lev; rw [e 8 x 2 (by omega)]
  refine ⟨⟨fun x hx => ?_, fun x hx => ?_, fun x hx j hj => ?_, fun x hx => ?_, ⟨?_, ?_, h7, h8, h9⟩, h10, h11, b, c, h12, h13, h14, h15, h16⟩, hE, ⟨hW.1, ?_⟩, ⟨fun x hx => r1 x ((hm x).mp hx), fun r hr => ?_, fun x hx => ?_, t, r4, r5, r6⟩, fun x hx hn => hU x hx (fun q => hn ((hm x).mpr q))⟩
  · rw [hm, e 1 0 x (by omega)]; exact h1 x hx
  · rw [hl]; exact h2 x ((hm x).mp hx)
  · rw [hm]; exact h3 x hx j hj
  · rw [hm]; exact h4 x hx
  · rw [e 0 0 4 (by omega)]; exact h5
  · rw [e 0 0 9 (by omega)]; exact h6
  · rw [e 0 0 6 (by omega)]; exact hW.2
  · obtain ⟨a1, a2, a3, a4⟩ := r2 r hr
    refine ⟨by rw [e 6 r 1 (by omega), e 6 r 2 (by omega)]; exact a1, lk_congr (fun y _ => e 8 y 6 (by omega)) a2, fun x hx => ⟨(hm x).mpr (a3 x hx).1, (a3 x hx).2⟩, a4⟩
  · rw [e 8 x 6 (by omega)]; exact r3 x ((hm x).mp hx)
def mmany (v : Int32) : Nat → sT → sT
  | 0, τ => τ
  | m + 1, τ => mmany v m (mf_sig τ v)
theorem rb_many {lv : Nat → Nat → Prop} {s : Nat} (hs : s < 16) : ∀ (m : Nat) {L : Nat → List Nat} {n : Nat} {σ τ : sT}, OKs σ lv → RB L n σ τ → n + m < 2 ^ 60 → Pf σ → ∃ L', RB L' (n + m) (cf_many s m σ) (mmany (nI s) m τ) ∧ Pf (cf_many s m σ)
  | 0, L, n, σ, τ, ok, h, hn, hp => ⟨L, h, hp⟩
  | m + 1, L, n, σ, τ, ok, h, hn, hp => by
    obtain ⟨L1, h1, p1⟩ := rb_sig ok h (by omega) hp hs
    obtain ⟨L2, h2, p2⟩ := rb_many hs m (go_sig ok hs).1 h1 (by omega) p1
    exact ⟨L2, by rw [show n + (m + 1) = n + 1 + m by omega]; exact h2, p2⟩
theorem sl_many {v : Int32} : ∀ (m k : Nat) {τ : sT}, k + m ≤ 65 → (∀ j, k ≤ j → j < k + m → τ.1 19 0 j = v) → mf_sl m k τ = mmany v m τ
  | 0, _, _, _, _ => rfl
  | m + 1, k, τ, hk, h => by
    have ecl : (nI k).toNatClampNeg = k := nI_clamp (by omega)
    show mf_sl m (k + 1) (mf_sig τ (τ.1 19 0 (nI k).toNatClampNeg)) = mmany v m (mf_sig τ v)
    rw [ecl, h k (by omega) (by omega)]
    exact sl_many m (k + 1) (by omega) (fun j h1 h2 => by rw [(frm_sig τ v).1 19 0 j (by omega) (by omega) (by omega)]; exact h j (by omega) (by omega))
theorem sl_split : ∀ (m k q : Nat) (τ : sT), mf_sl (m + q) k τ = mf_sl q (k + m) (mf_sl m k τ)
  | 0, k, q, τ => by rw [Nat.zero_add]; rfl
  | m + 1, k, q, τ => by
    rw [show m + 1 + q = (m + q) + 1 by omega]
    show mf_sl (m + q) (k + 1) _ = mf_sl q (k + (m + 1)) (mf_sl m (k + 1) _)
    rw [sl_split m (k + 1) q]
    rw [show k + 1 + m = k + (m + 1) by omega]
theorem frm_many (v : Int32) : ∀ (m : Nat) (τ : sT), FrM τ (mmany v m τ)
  | 0, _ => FrM.rf
  | m + 1, τ => (frm_sig τ v).tr (frm_many v m _)
/-- the posts of the words -/
theorem pl_pos : ∀ (n : Nat) {τ : sT} {m : Nat}, ¬ τ.1 10 0 14 < 0 → (τ.1 10 0 20).toInt = m → m + n ≤ 64 → ((mf_pl n τ).1 10 0 20).toInt = m + n ∧ (∀ j, (mf_pl n τ).1 19 0 j = if m ≤ j ∧ j < m + n then τ.1 10 0 14 else τ.1 19 0 j) ∧ FrP τ (mf_pl n τ) ∧ (mf_pl n τ).1 10 0 15 = τ.1 10 0 15
  | 0, τ, m, hi, hm, hn => ⟨by rw [show mf_pl 0 τ = τ from rfl, hm]; omega, fun j => by rw [if_neg (by omega)]; rfl, FrP.rf, rfl⟩
  | n + 1, τ, m, hi, hm, hn => by
    have e0 : (τ.1 10 0 20).toNatClampNeg = m := by rw [toN, hm]; rfl
    have e1 : mf_pl (n + 1) τ = mf_pl n (mf_post τ (τ.1 10 0 14)) := by rw [mf_pl, if_neg hi]
    have e2 : (mf_post τ (τ.1 10 0 14)).1 10 0 14 = τ.1 10 0 14 := post_eq (by omega) (by omega)
    have e3 : ((mf_post τ (τ.1 10 0 14)).1 10 0 20).toInt = ((m + 1 : Nat) : Int) := by
      have : (mf_post τ (τ.1 10 0 14)).1 10 0 20 = τ.1 10 0 20 + 1 := by simp [mf_post, sI]
      rw [this, i32_inc (by omega)]; omega
    obtain ⟨a1, a2, a3, a4⟩ := pl_pos n (τ := mf_post τ (τ.1 10 0 14)) (m := m + 1) (by rw [e2]; exact hi) e3 (by omega)
    rw [e1]
    refine ⟨by rw [a1]; omega, fun j => ?_, ⟨fun k i j h1 h2 => (a3.1 k i j h1 h2).trans (post_eq h1 (fun q => h2 ⟨q.1, Or.inl q.2⟩)), a3.2⟩, a4.trans (post_eq (by omega) (by omega))⟩
    rw [a2 j, e2]
    have e4 : (mf_post τ (τ.1 10 0 14)).1 19 0 j = if j = m then τ.1 10 0 14 else τ.1 19 0 j := by simp [mf_post, sI, e0]
    rw [e4]
    by_cases c1 : m + 1 ≤ j ∧ j < m + 1 + n
    · rw [if_pos c1, if_pos (by omega)]
    · rw [if_neg c1]
      by_cases c2 : j = m
      · rw [if_pos c2, if_pos (by omega)]
      · rw [if_neg c2, if_neg (by omega)]
theorem pl_neg : ∀ (n : Nat) {τ : sT}, τ.1 10 0 14 < 0 → mf_pl n τ = τ
  | 0, _, _ => rfl
  | n + 1, τ, h => by rw [mf_pl, if_pos h]; exact pl_neg n h
def RelA (σ τ : sT) : Prop := τ.1 10 0 15 = cf_num (σ.2.1 0 0 10)
def Sim (L : Nat → List Nat) (n : Nat) (σ τ : sT) : Prop := RB L n σ τ ∧ RelA σ τ ∧ Pf σ
theorem Sim.mono {L : Nat → List Nat} {n m : Nat} {σ τ : sT} (h : Sim L n σ τ) (hm : n ≤ m) : Sim L m σ τ := ⟨h.1.mono hm, h.2⟩
/-- both forget the news -/
theorem rb_news {L : Nat → List Nat} {n : Nat} {σ τ : sT} (h : RB L n σ τ) (v : Int32) : RB L n (sI σ 4 0 3 v) (sI τ 10 0 13 v) := by
  obtain ⟨⟨h1, h2, h3, h4, ⟨h5, h6, h7, h8, h9⟩, h10, h11, b, c, h12, h13, h14, h15, h16⟩, hE, hW, ⟨r1, r2, r3, t, r4, r5, r6⟩, hU⟩ := h
  have e : ∀ k i j, ¬ (k = 10 ∧ j = 13) → (sI τ 10 0 13 v).1 k i j = τ.1 k i j := fun k i j q => by
    simp only [sI]
    rw [if_neg (fun z => q ⟨z.1, z.2.2⟩)]
  have f : ∀ k i j, ¬ (k = 4 ∧ j = 3) → (sI σ 4 0 3 v).1 k i j = σ.1 k i j := fun k i j q => by
    simp only [sI]
    rw [if_neg (fun z => q ⟨z.1, z.2.2⟩)]
  refine ⟨⟨fun x hx => ?_, fun x hx => ?_, fun x hx j hj => ?_, fun x hx => ?_, ⟨?_, ?_, ?_, ?_, h9⟩, ?_, ?_, b, c, ?_, h13, ?_, h15, fun j hj => ?_⟩, fun s hs => ?_, ⟨?_, ?_⟩, ⟨fun x hx => ?_, fun r hr => ?_, fun x hx => ?_, t, r4, r5, r6⟩, fun x hx hn => ?_⟩
  · rw [e 11 0 x (by omega)]; exact h1 x hx
  · rw [e 12 0 x (by omega), f 8 x 1 (by omega)]; exact h2 x hx
  · rw [e 13 0 _ (by omega), f 9 x j (by omega)]; exact h3 x hx j hj
  · rw [e 14 0 x (by omega), f 8 x 4 (by omega)]; exact h4 x hx
  · rw [e 10 0 8 (by omega)]; exact h5
  · rw [e 10 0 14 (by omega)]; exact h6
  · rw [e 10 0 16 (by omega), f 0 0 11 (by omega)]; exact h7
  · rw [e 10 0 17 (by omega), f 0 0 7 (by omega)]; exact h8
  · rw [e 10 0 12 (by omega), f 4 0 2 (by omega)]; exact h10
  · simp [sI]
  · rw [f 4 0 1 (by omega)]; exact h12
  · rw [f 4 0 2 (by omega)]; exact h14
  · rw [e 18 0 j (by omega), f 5 0 _ (by omega)]; exact h16 j hj
  · rw [e 17 0 s (by omega), f 7 s 2 (by omega)]; exact hE s hs
  · rw [e 10 0 9 (by omega), f 0 0 5 (by omega)]; exact hW.1
  · rw [e 10 0 10 (by omega), f 0 0 5 (by omega)]; exact hW.2
  · rw [e 15 0 x (by omega), f 8 x 5 (by omega)]; exact r1 x hx
  · obtain ⟨a1, a2, a3, a4⟩ := r2 r hr
    exact ⟨a1, lk_congr (σ := σ) (fun y _ => rfl) a2, fun x hx => ⟨(a3 x hx).1, by rw [f 8 x 5 (by omega)]; exact (a3 x hx).2⟩, a4⟩
  · rw [f 8 x 5 (by omega)]; exact r3 x hx
  · rw [e 15 0 x (by omega)]; exact hU x hx hn
end
section
theorem FrP.tr {a b c : sT} (h : FrP a b) (g : FrP b c) : FrP a c := ⟨fun k i j h1 h2 => (g.1 k i j h1 h2).trans (h.1 k i j h1 h2), g.2.trans h.2⟩
theorem p2_frp {τ : sT} (h : FrP (sI τ 10 0 20 0) (mf_pl (τ.1 10 0 13).toNatClampNeg (sI τ 10 0 20 0))) : FrP (sI τ 10 0 13 0) (mf_p2 τ) := by
  refine ⟨fun k i j h1 h2 => ?_, h.2⟩
  have e := h.1 k i j h1 h2
  have e2 : (sI τ 10 0 20 0).1 k i j = τ.1 k i j := by
    simp only [sI]
    rw [if_neg (fun z => h2 ⟨z.1, Or.inl z.2.2⟩)]
  rw [e2] at e
  unfold mf_p2
  generalize mf_pl (τ.1 10 0 13).toNatClampNeg (sI τ 10 0 20 0) = z at e ⊢
  simp only [sI]
  by_cases c : k = 10 ∧ i = 0 ∧ j = 13
  · rw [if_pos c, if_pos c]
  · rw [if_neg c, if_neg c]; exact e
/-- the words' posts: how many, what, and nothing else -/
theorem p2_all {lv : Nat → Nat → Prop} {N : Int} {τ : sT} (ok : OKm τ lv N) : ∃ m, m = (if τ.1 10 0 14 < 0 then 0 else (τ.1 10 0 13).toNatClampNeg) ∧ m ≤ 64 ∧ ((mf_p2 τ).1 10 0 20).toInt = m ∧ (∀ j, j < m → (mf_p2 τ).1 19 0 j = τ.1 10 0 14) ∧ FrP (sI τ 10 0 13 0) (mf_p2 τ) ∧ (mf_p2 τ).1 10 0 15 = τ.1 10 0 15 := by
  have h6 := ok.2.2.2.2.2.2.1
  have hc : (τ.1 10 0 13).toNatClampNeg ≤ 64 := by rw [toN]; omega
  have f15 := (p2_ok ok).2.2.1 10 0 15 (by omega) (by omega)
  by_cases q : τ.1 10 0 14 < 0
  · have q2 : (sI τ 10 0 20 0).1 10 0 14 < 0 := by simpa [sI] using q
    have e := pl_neg (τ.1 10 0 13).toNatClampNeg q2
    refine ⟨0, by rw [if_pos q], by omega, ?_, fun j hj => absurd hj (by omega), p2_frp (by rw [e]; exact FrP.rf), f15⟩
    unfold mf_p2
    rw [e]
    simp [sI]
  · have q2 : ¬ (sI τ 10 0 20 0).1 10 0 14 < 0 := by simpa [sI] using q
    obtain ⟨a1, a2, a3, a4⟩ := pl_pos (τ.1 10 0 13).toNatClampNeg (m := 0) q2 (by simp [sI]) (by omega)
    refine ⟨(τ.1 10 0 13).toNatClampNeg, by rw [if_neg q], hc, ?_, fun j hj => ?_, p2_frp a3, f15⟩
    · have e : (mf_p2 τ).1 10 0 20 = (mf_pl (τ.1 10 0 13).toNatClampNeg (sI τ 10 0 20 0)).1 10 0 20 := by
        unfold mf_p2
        generalize mf_pl (τ.1 10 0 13).toNatClampNeg (sI τ 10 0 20 0) = z
        simp [sI]
      rw [e, a1]; omega
    · have e : (mf_p2 τ).1 19 0 j = (mf_pl (τ.1 10 0 13).toNatClampNeg (sI τ 10 0 20 0)).1 19 0 j := by
        unfold mf_p2
        generalize mf_pl (τ.1 10 0 13).toNatClampNeg (sI τ 10 0 20 0) = z
        simp [sI]
      rw [e, a2 j, if_pos (by omega)]
      simp [sI]
theorem p3_frp (τ : sT) : FrP τ (mf_p3 τ) := by
  unfold mf_p3
  split
  · exact FrP.rf
  split
  · exact FrP.rf
  · refine ⟨fun k i j h1 h2 => ?_, rfl⟩
    have e : (sI (mf_post τ (τ.1 10 0 15)) 10 0 15 (-1)).1 k i j = (mf_post τ (τ.1 10 0 15)).1 k i j := by
      generalize mf_post τ (τ.1 10 0 15) = z
      simp only [sI]
      rw [if_neg (fun z => h2 ⟨z.1, Or.inr z.2.2⟩)]
    rw [e]
    exact post_eq h1 (fun z => h2 ⟨z.1, Or.inl z.2⟩)
/-- the words are signalled in both, whatever the reference's alarm is -/
theorem rb_words {L : Nat → List Nat} {n : Nat} {σ τ τ3 : sT} {lv : Nat → Nat → Prop} {N : Int} {m : Nat} (ok : OKs σ lv) (okm : OKm τ lv N) (h : RB L n σ τ) (hn : n + 64 < 2 ^ 60) (hp : Pf σ) (hm : m = (if τ.1 10 0 14 < 0 then 0 else (τ.1 10 0 13).toNatClampNeg)) (hf : FrP (sI τ 10 0 13 0) τ3) : ∃ L', RB L' (n + 64) (cf_words σ) (mmany (τ.1 10 0 14) m τ3) ∧ Pf (cf_words σ) := by
  have h6 := okm.2.2.2.2.2.2.1
  have h0 := rb_frp (rb_news h 0) hf
  have hp0 : Pf (sI σ 4 0 3 0) := fun y hy => by
    have e : cf_pres (sI σ 4 0 3 0) = cf_pres σ := pres_congr (by simp [sI]) rfl rfl
    rw [e] at hy
    have e2 : (sI σ 4 0 3 0).1 8 y 5 = σ.1 8 y 5 := by simp [sI]
    rw [e2]; exact hp y hy
  have hin := h.1.2.2.2.2.1.2.1
  have hnews := h.1.2.2.2.2.2.2.1
  unfold cf_words
  cases hq : σ.2.1 0 0 9 with
  | none =>
    rw [hq] at hin
    rw [hin, if_pos num_none] at hm
    subst hm
    exact ⟨L, h0.mono (by omega), hp0⟩
  | some s =>
    rw [hq] at hin
    have hs := ok.inp hq
    rw [hin, if_neg (num_some (by omega)), hnews] at hm
    rw [hin, show cf_num (some s) = nI s from rfl]
    have hc : (σ.1 4 0 3).toNatClampNeg ≤ 64 := by rw [← hnews, toN]; omega
    subst hm
    obtain ⟨L1, h1, p1⟩ := rb_many hs (σ.1 4 0 3).toNatClampNeg ok.I h0 (by omega) hp0
    exact ⟨L1, h1.mono (by omega), p1⟩
theorem fr_words (σ : sT) : Fr (sI σ 4 0 3 0) (cf_words σ) := by
  unfold cf_words
  cases σ.2.1 0 0 9 with
  | none => exact Fr.rf
  | some s => exact fr_many s _ _
theorem rb_due {L : Nat → List Nat} {n : Nat} {σ τ : sT} {lv : Nat → Nat → Prop} {N : Int} (ok : OKs σ lv) (okm : OKm τ lv N) (h : Sim L n σ τ) (hn : n + 65 < 2 ^ 60) : ∃ L', Sim L' (n + 65) (cf_due (cf_words σ)) (mf_p4 (mf_p3 (mf_p2 τ))) := by
  obtain ⟨hB, hA, hp⟩ := h
  obtain ⟨m, hm, hm64, b1, b2, b3, b4⟩ := p2_all okm
  have f17 := (p2_ok okm).2.2.1 10 0 17 (by omega) (by omega)
  have f16 := (p2_ok okm).2.2.1 10 0 16 (by omega) (by omega)
  have fw := fr_words σ
  have ok1 := (go_words ok).1
  have w10 : (cf_words σ).2.1 0 0 10 = σ.2.1 0 0 10 := (fw.2.1 0 0 10 (by omega) (by omega) (by omega)).trans rfl
  have w7 : (cf_words σ).1 0 0 7 = σ.1 0 0 7 := (fw.1 0 0 7 (by omega) (by omega) (by omega)).trans (by simp [sI])
  have w11 : (cf_words σ).1 0 0 11 = σ.1 0 0 11 := (fw.1 0 0 11 (by omega) (by omega) (by omega)).trans (by simp [sI])
  have hck := hB.1.2.2.2.2.1
  have hA' : τ.1 10 0 15 = cf_num (σ.2.1 0 0 10) := hA
  -- where the alarm is not due
  have plain : mf_p3 (mf_p2 τ) = mf_p2 τ → cf_due (cf_words σ) = cf_words σ → ∃ L', Sim L' (n + 65) (cf_due (cf_words σ)) (mf_p4 (mf_p3 (mf_p2 τ))) := by
    intro e1 e2
    rw [e1, e2]
    obtain ⟨L1, h1, p1⟩ := rb_words ok okm hB (by omega) hp hm b3
    have e3 : mf_p4 (mf_p2 τ) = mmany (τ.1 10 0 14) m (mf_p2 τ) := by
      unfold mf_p4
      have e0 : ((mf_p2 τ).1 10 0 20).toNatClampNeg = m := by rw [toN, b1]; rfl
      rw [e0]
      exact sl_many m 0 (by omega) (fun j _ hj => b2 j (by omega))
    rw [e3]
    refine ⟨L1, h1.mono (by omega), ?_, p1⟩
    show (mmany (τ.1 10 0 14) m (mf_p2 τ)).1 10 0 15 = cf_num ((cf_words σ).2.1 0 0 10)
    rw [(frm_many _ m _).1 10 0 15 (by omega) (by omega) (by omega), b4, w10]
    exact hA'
  cases hal : σ.2.1 0 0 10 with
  | none =>
    apply plain
    · unfold mf_p3
      rw [b4, hA', hal, if_pos num_none]
    · unfold cf_due
      rw [w10, hal]
  | some al =>
    have hal16 := ok.al hal
    by_cases hd : σ.1 0 0 11 ≤ σ.1 0 0 7
    · -- due
      have c1 : ¬ (mf_p2 τ).1 10 0 15 < 0 := by rw [b4, hA', hal]; exact num_some (by omega)
      have c2 : ¬ (mf_p2 τ).1 10 0 17 < (mf_p2 τ).1 10 0 16 := by
        rw [f17, f16, hck.2.2.2.1, hck.2.2.1, i32_lt]
        rw [i32_le] at hd
        omega
      have e1 : mf_p3 (mf_p2 τ) = sI (mf_post (mf_p2 τ) (nI al)) 10 0 15 (-1) := by
        unfold mf_p3
        rw [if_neg c1, if_neg c2, b4, hA', hal]
        rfl
      have e2 : cf_due (cf_words σ) = cf_sig (sP (cf_words σ) 0 0 10 none) al := by
        unfold cf_due
        rw [w10, hal]
        dsimp only
        rw [w11, w7, if_pos hd]
      have hf3 : FrP (sI τ 10 0 13 0) (mf_p3 (mf_p2 τ)) := b3.tr (p3_frp _)
      obtain ⟨L1, h1, p1⟩ := rb_words ok okm hB (by omega) hp hm hf3
      have e0 : ((mf_p2 τ).1 10 0 20).toNatClampNeg = m := by rw [toN, b1]; rfl
      -- the posts
      have q20 : (mf_p3 (mf_p2 τ)).1 10 0 20 = (mf_p2 τ).1 10 0 20 + 1 := by
        rw [e1]
        generalize mf_p2 τ = z
        simp [mf_post, sI]
      have q19 : ∀ j, (mf_p3 (mf_p2 τ)).1 19 0 j = if j = m then nI al else (mf_p2 τ).1 19 0 j := by
        intro j
        rw [e1]
        have : (mf_post (mf_p2 τ) (nI al)).1 19 0 j = if j = m then nI al else (mf_p2 τ).1 19 0 j := by
          rw [← e0]
          generalize mf_p2 τ = z
          simp [mf_post, sI]
        rw [← this]
        generalize mf_post (mf_p2 τ) (nI al) = z
        simp [sI]
      have e20 : ((mf_p3 (mf_p2 τ)).1 10 0 20).toNatClampNeg = m + 1 := by
        rw [q20, toN, i32_inc (by omega), b1]; omega
      have e3 : mf_p4 (mf_p3 (mf_p2 τ)) = mf_sig (mmany (τ.1 10 0 14) m (mf_p3 (mf_p2 τ))) (nI al) := by
        unfold mf_p4
        rw [e20, sl_split m 0 1]
        have e4 : mf_sl m 0 (mf_p3 (mf_p2 τ)) = mmany (τ.1 10 0 14) m (mf_p3 (mf_p2 τ)) := sl_many m 0 (by omega) (fun j _ hj => by rw [q19, if_neg (by omega)]; exact b2 j (by omega))
        rw [e4]
        rw [show ∀ (k : Nat) (z : sT), mf_sl 1 k z = mf_sig z (z.1 19 0 (nI k).toNatClampNeg) from fun _ _ => rfl]
        rw [Nat.zero_add, nI_clamp (by omega), (frm_many _ m _).1 19 0 m (by omega) (by omega) (by omega), q19, if_pos rfl]
      rw [e2, e3]
      have ok2 : OKs (sP (cf_words σ) 0 0 10 none) lv := (GO.S ok1 (Or.inr rfl) (fun y q => by cases q)).1
      have p2 : Pf (sP (cf_words σ) 0 0 10 none) := fun y hy => by
        have e : cf_pres (sP (cf_words σ) 0 0 10 none) = cf_pres (cf_words σ) := pres_congr rfl (by simp [sP]) (by simp [sP])
        rw [e] at hy
        exact p1 y hy
      obtain ⟨L2, h2, p3⟩ := rb_sig ok2 (rb_al h1 none) (by omega) p2 hal16
      refine ⟨L2, h2.mono (by omega), ?_, p3⟩
      show (mf_sig (mmany (τ.1 10 0 14) m (mf_p3 (mf_p2 τ))) (nI al)).1 10 0 15 = cf_num ((cf_sig (sP (cf_words σ) 0 0 10 none) al).2.1 0 0 10)
      rw [(frm_sig _ _).1 10 0 15 (by omega) (by omega) (by omega), (frm_many _ m _).1 10 0 15 (by omega) (by omega) (by omega), (fr_sig _ _).2.1 0 0 10 (by omega) (by omega) (by omega), e1]
      generalize mf_post (mf_p2 τ) (nI al) = z
      simp [sI, sP]
      rfl
    · apply plain
      · unfold mf_p3
        rw [f17, f16, hck.2.2.2.1, hck.2.2.1]
        have : σ.1 0 0 7 < σ.1 0 0 11 := by rw [i32_lt]; rw [i32_le] at hd; omega
        rw [if_pos this]
        split <;> rfl
      · unfold cf_due
        rw [w10, hal]
        dsimp only
        rw [w11, w7, if_neg hd]
end
section
/-- the relation where only the two objects' own fields have changed -/
theorem rb_core {L : Nat → List Nat} {n : Nat} {σ τ σ' τ' : sT} (h : RB L n σ τ) (hI : ∀ k i j, ¬ k = 0 → σ'.1 k i j = σ.1 k i j) (hP : ∀ k i j, ¬ k = 0 → σ'.2.1 k i j = σ.2.1 k i j) (hT : ∀ k i j, ¬ k = 10 → τ'.1 k i j = τ.1 k i j) (hT2 : τ'.1 10 0 12 = τ.1 10 0 12 ∧ τ'.1 10 0 13 = τ.1 10 0 13) (hL : (∀ x, τ'.2.2 16 0 x = τ.2.2 16 0 x) ∧ τ'.2.2 10 0 6 = τ.2.2 10 0 6)
    (h5 : τ'.1 10 0 8 = cf_num (σ'.2.1 0 0 4) ∧ τ'.1 10 0 14 = cf_num (σ'.2.1 0 0 9) ∧ τ'.1 10 0 16 = σ'.1 0 0 11 ∧ τ'.1 10 0 17 = σ'.1 0 0 7 ∧ τ'.2.2 10 0 18 = σ'.2.2 0 0 8) (hW' : RelW σ' τ') : RB L n σ' τ' := by
  obtain ⟨⟨h1, h2, h3, h4, -, h10, h11, b, c, h12, h13, h14, h15, h16⟩, hE, -, ⟨r1, r2, r3, t, r4, r5, r6⟩, hU⟩ := h
  have hm : ∀ x, Mk σ' x ↔ Mk σ x := fun x => by unfold Mk; rw [hP 1 0 x (by omega)]
  have hl : ∀ x, lev σ' x = lev σ x := fun x => by unfold lev; rw [hP 8 x 2 (by omega)]
  refine ⟨⟨fun x hx => ?_, fun x hx => ?_, fun x hx j hj => ?_, fun x hx => ?_, h5, ?_, ?_, b, c, ?_, h13, ?_, h15, fun j hj => ?_⟩, fun s hs => ?_, hW', ⟨fun x hx => ?_, fun r hr => ?_, fun x hx => ?_, t, r4, ?_, fun r hr x hx => ?_⟩, fun x hx hn => ?_⟩
  · rw [hm, hP 1 0 x (by omega), hT 11 0 x (by omega)]; exact h1 x hx
  · rw [hl, hI 8 x 1 (by omega), hT 12 0 x (by omega)]; exact h2 x ((hm x).mp hx)
  · rw [hm, hI 9 x j (by omega), hT 13 0 _ (by omega)]; exact h3 x hx j hj
  · rw [hm, hI 8 x 4 (by omega), hT 14 0 x (by omega)]; exact h4 x hx
  · rw [hT2.1, hI 4 0 2 (by omega)]; exact h10
  · rw [hT2.2, hI 4 0 3 (by omega)]; exact h11
  · rw [hI 4 0 1 (by omega)]; exact h12
  · rw [hI 4 0 2 (by omega)]; exact h14
  · rw [hT 18 0 j (by omega), hI 5 0 _ (by omega)]; exact h16 j hj
  · rw [hT 17 0 s (by omega), hI 7 s 2 (by omega)]; exact hE s hs
  · rw [hT 15 0 x (by omega), hI 8 x 5 (by omega)]; exact r1 x ((hm x).mp hx)
  · obtain ⟨a1, a2, a3, a4⟩ := r2 r hr
    refine ⟨by rw [hP 6 r 1 (by omega), hP 6 r 2 (by omega)]; exact a1, lk_congr (fun y _ => hP 8 y 6 (by omega)) a2, fun x hx => ⟨(hm x).mpr (a3 x hx).1, by rw [hI 8 x 5 (by omega)]; exact (a3 x hx).2⟩, ?_⟩
    refine a4.imp (fun {u v} huv => ?_)
    rw [hL.1, hL.1]; exact huv
  · rw [hI 8 x 5 (by omega), hP 8 x 6 (by omega)]; exact r3 x ((hm x).mp hx)
  · rw [hL.2]; exact r5
  · rw [hL.1]; exact r6 r hr x hx
  · rw [hT 15 0 x (by omega)]; exact hU x hx (fun q => hn ((hm x).mpr q))
theorem sI_ne {σ : sT} {k i j : Nat} {v : Int32} {k' i' j' : Nat} (h : ¬ (k' = k ∧ i' = i ∧ j' = j)) : (sI σ k i j v).1 k' i' j' = σ.1 k' i' j' := by
  simp only [sI]
  rw [if_neg h]
theorem sI_eq {σ : sT} {k i j : Nat} {v : Int32} : (sI σ k i j v).1 k i j = v := by simp [sI]
theorem sP_ne {σ : sT} {k i j : Nat} {v : Option Nat} {k' i' j' : Nat} (h : ¬ (k' = k ∧ i' = i ∧ j' = j)) : (sP σ k i j v).2.1 k' i' j' = σ.2.1 k' i' j' := by
  simp only [sP]
  rw [if_neg h]
theorem sP_eq {σ : sT} {k i j : Nat} {v : Option Nat} : (sP σ k i j v).2.1 k i j = v := by simp [sP]
theorem sL_ne {σ : sT} {k i j : Nat} {v : Int64} {k' i' j' : Nat} (h : ¬ (k' = k ∧ i' = i ∧ j' = j)) : (sL σ k i j v).2.2 k' i' j' = σ.2.2 k' i' j' := by
  simp only [sL]
  rw [if_neg h]
theorem sL_eq {σ : sT} {k i j : Nat} {v : Int64} : (sL σ k i j v).2.2 k i j = v := by simp [sL]
def chg (σ : sT) : sT := if σ.1 0 0 5 = 0 then σ else sP (sI (sP σ 0 0 4 (σ.2.1 0 0 6)) 0 0 5 0) 0 0 6 none
theorem settle_chg (σ : sT) : cf_settle σ = chg (cf_due (cf_words σ)) := rfl
theorem st_chg {L : Nat → List Nat} {n : Nat} {σ τ : sT} (h : Sim L n σ τ) : Sim L n (chg σ) (mf_p5 τ) := by
  obtain ⟨hB, hA, hp⟩ := h
  unfold chg mf_p5
  by_cases q : σ.1 0 0 5 = 0
  · rw [if_pos q, if_pos (hB.2.2.1.1.mpr q)]
    exact ⟨hB, hA, hp⟩
  · rw [if_neg q, if_neg (fun z => q (hB.2.2.1.1.mp z))]
    have hw := hB.2.2.1.2 q
    have h5 := hB.1.2.2.2.2.1
    have i5 : (sP (sI (sP σ 0 0 4 (σ.2.1 0 0 6)) 0 0 5 0) 0 0 6 none).1 0 0 5 = 0 := by simp [sP, sI]
    have p4 : (sP (sI (sP σ 0 0 4 (σ.2.1 0 0 6)) 0 0 5 0) 0 0 6 none).2.1 0 0 4 = σ.2.1 0 0 6 := by simp [sP, sI]
    have hpr : cf_pres (sP (sI (sP σ 0 0 4 (σ.2.1 0 0 6)) 0 0 5 0) 0 0 6 none) = cf_pres σ := by
      unfold cf_pres
      rw [i5, if_pos rfl, if_neg q, p4]
    refine ⟨rb_core hB (fun k i j hk => ?_) (fun k i j hk => ?_) (fun k i j hk => ?_) ⟨by simp [sI], by simp [sI]⟩ ⟨fun _ => rfl, rfl⟩ ⟨?_, ?_, ?_, ?_, h5.2.2.2.2⟩ ⟨?_, fun z => absurd i5 z⟩, ?_, fun y hy => ?_⟩
    · simp [sP, sI, hk]
    · simp [sP, sI, hk]
    · simp [sI, hk]
    · rw [p4, ← hw]; simp [sI]
    · simpa [sP, sI] using h5.2.1
    · simpa [sP, sI] using h5.2.2.1
    · simpa [sP, sI] using h5.2.2.2.1
    · simp [sP, sI]
    · simpa [RelA, sP, sI] using hA
    · rw [hpr] at hy
      have := hp y hy
      simpa [sP, sI] using this
theorem st_settle {L : Nat → List Nat} {n : Nat} {σ τ : sT} {lv : Nat → Nat → Prop} {N : Int} (ok : OKs σ lv) (okm : OKm τ lv N) (h : Sim L n σ τ) (hn : n + 65 < 2 ^ 60) : ∃ L', Sim L' (n + 65) (cf_settle σ) (mf_p15 τ) := by
  obtain ⟨L1, h1⟩ := rb_due ok okm h hn
  exact ⟨L1, st_chg h1⟩
theorem sI_self (τ : sT) (k i j : Nat) : sI τ k i j (τ.1 k i j) = τ := by
  unfold sI
  refine Prod.ext ?_ rfl
  funext k' i' j'
  dsimp only
  split
  · next q => rw [q.1, q.2.1, q.2.2]
  · rfl
theorem st_clock {L : Nat → List Nat} {n : Nat} {σ τ : sT} (h : Sim L n σ τ) (v : Int32) : Sim L n (sI σ 0 0 7 v) (sI τ 10 0 17 v) := by
  obtain ⟨hB, hA, hp⟩ := h
  have h5 := hB.1.2.2.2.2.1
  have hW := hB.2.2.1
  refine ⟨rb_core hB (fun k i j hk => by simp [sI, hk]) (fun k i j hk => rfl) (fun k i j hk => by simp [sI, hk]) ⟨by simp [sI], by simp [sI]⟩ ⟨fun _ => rfl, rfl⟩ ⟨by simpa [sI] using h5.1, by simpa [sI] using h5.2.1, by simpa [sI] using h5.2.2.1, by simp [sI], h5.2.2.2.2⟩ ⟨by simpa [sI] using hW.1, by simpa [sI] using hW.2⟩, by simpa [RelA, sI] using hA, fun y hy => ?_⟩
  have e : cf_pres (sI σ 0 0 7 v) = cf_pres σ := pres_congr (by simp [sI]) rfl rfl
  rw [e] at hy
  simpa [sI] using hp y hy
theorem ag_iff {L : Nat → List Nat} {n : Nat} {σ τ : sT} {lv : Nat → Nat → Prop} (ok : OKs σ lv) (h : Sim L n σ τ) : (mf_ag τ = 0 ↔ ¬ (σ.2.1 0 0 4 = none ∧ σ.2.1 0 0 10 ≠ none)) := by
  have h8 := h.1.1.2.2.2.2.1.1
  have hA : τ.1 10 0 15 = cf_num (σ.2.1 0 0 10) := h.2.1
  unfold mf_ag
  rw [h8, hA]
  cases ha : σ.2.1 0 0 4 with
  | some x =>
    rw [if_pos (num_le (ok.ac ha).1)]
    simp
  | none =>
    rw [if_neg num_nle]
    cases hb : σ.2.1 0 0 10 with
    | none => rw [if_pos num_none]; simp
    | some s =>
      have := ok.al hb
      rw [if_neg (num_some (by omega))]
      simp
theorem st_behind {L : Nat → List Nat} {n : Nat} {σ τ : sT} {lv : Nat → Nat → Prop} {N : Int} (ok : OKs σ lv) (okm : OKm τ lv N) (h : Sim L n σ τ) (hn : n + 130 < 2 ^ 60) : ∃ L', Sim L' (n + 130) (cf_behind σ) (mf_behind τ) := by
  obtain ⟨L1, h1⟩ := st_settle ok okm h (by omega)
  have ok1 := (go_settle ok).1
  have okm1 := p15_ok okm
  have hag := ag_iff ok1 h1
  unfold mf_behind
  by_cases q : mf_ag (mf_p15 τ) = 0
  · rw [if_pos q]
    have e : mf_p6 (mf_p15 τ) = mf_p15 τ := by
      unfold mf_p6
      rw [if_pos q]
      exact sI_self _ _ _ _
    rw [e]
    have hc := hag.mp q
    have e2 : cf_behind σ = cf_settle σ := by
      unfold cf_behind
      dsimp only
      split
      · next x1 x2 s c1 c2 => exact absurd ⟨c1, by rw [c2]; simp⟩ hc
      · rfl
    rw [e2]
    exact ⟨L1, h1.mono (by omega)⟩
  · rw [if_neg q]
    have hc : (cf_settle σ).2.1 0 0 4 = none ∧ (cf_settle σ).2.1 0 0 10 ≠ none := Decidable.byContradiction fun z => q (hag.mpr z)
    have e : mf_p6 (mf_p15 τ) = sI (mf_p15 τ) 10 0 17 ((cf_settle σ).1 0 0 11) := by
      unfold mf_p6
      rw [if_neg q, h1.1.1.2.2.2.2.1.2.2.1]
    have e2 : cf_behind σ = cf_settle (sI (cf_settle σ) 0 0 7 ((cf_settle σ).1 0 0 11)) := by
      unfold cf_behind
      dsimp only
      rw [hc.1]
      cases hs : (cf_settle σ).2.1 0 0 10 with
      | none => exact absurd hs hc.2
      | some s => rfl
    have h2 := st_clock h1 ((cf_settle σ).1 0 0 11)
    have okm2 : OKm (mf_p6 (mf_p15 τ)) lv N := p6_ok okm1
    have ag2 := ag_two okm q
    rw [e] at okm2 ag2 ⊢
    obtain ⟨L2, h3⟩ := st_settle (σ := sI (cf_settle σ) 0 0 7 ((cf_settle σ).1 0 0 11)) ok1.I okm2 h2 (by omega)
    have e3 : ∀ z, mf_ag z = 0 → mf_p6 z = z := fun z hz => by
      unfold mf_p6
      rw [if_pos hz]
      exact sI_self _ _ _ _
    rw [e3 _ ag2, e2]
    exact ⟨L2, h3.mono (by omega)⟩
end
section
/-- the relation where only the words have changed -/
theorem rb_wrd {L : Nat → List Nat} {n : Nat} {σ τ σ' τ' : sT} (h : RB L n σ τ) (hI : ∀ k i j, ¬ k = 4 → ¬ k = 5 → σ'.1 k i j = σ.1 k i j) (hP : σ'.2 = σ.2) (hT : ∀ k i j, ¬ k = 18 → ¬ (k = 10 ∧ (j = 12 ∨ j = 13)) → τ'.1 k i j = τ.1 k i j) (hL : τ'.2.2 = τ.2.2)
    (hw : τ'.1 10 0 12 = σ'.1 4 0 2 ∧ τ'.1 10 0 13 = σ'.1 4 0 3 ∧ ∃ b c : Nat, σ'.1 4 0 1 = nI b ∧ b < 64 ∧ σ'.1 4 0 2 = nI c ∧ c ≤ 64 ∧ ∀ j, j < c → τ'.1 18 0 j = σ'.1 5 0 ((b + j) % 64)) : RB L n σ' τ' := by
  obtain ⟨⟨h1, h2, h3, h4, ⟨h5, h6, h7, h8, h9⟩, -⟩, hE, hW, ⟨r1, r2, r3, t, r4, r5, r6⟩, hU⟩ := h
  have hm : ∀ x, Mk σ' x ↔ Mk σ x := fun x => by unfold Mk; rw [hP]
  have hl : ∀ x, lev σ' x = lev σ x := fun x => by unfold lev; rw [hP]
  refine ⟨⟨fun x hx => ?_, fun x hx => ?_, fun x hx j hj => ?_, fun x hx => ?_, ⟨?_, ?_, ?_, ?_, ?_⟩, hw⟩, fun s hs => ?_, ⟨?_, ?_⟩, ⟨fun x hx => ?_, fun r hr => ?_, fun x hx => ?_, t, r4, ?_, fun r hr x hx => ?_⟩, fun x hx hn => ?_⟩
  · rw [hm, hP, hT 11 0 x (by omega) (by omega)]; exact h1 x hx
  · rw [hl, hI 8 x 1 (by omega) (by omega), hT 12 0 x (by omega) (by omega)]; exact h2 x ((hm x).mp hx)
  · rw [hm, hI 9 x j (by omega) (by omega), hT 13 0 _ (by omega) (by omega)]; exact h3 x hx j hj
  · rw [hm, hI 8 x 4 (by omega) (by omega), hT 14 0 x (by omega) (by omega)]; exact h4 x hx
  · rw [hT 10 0 8 (by omega) (by omega), hP]; exact h5
  · rw [hT 10 0 14 (by omega) (by omega), hP]; exact h6
  · rw [hT 10 0 16 (by omega) (by omega), hI 0 0 11 (by omega) (by omega)]; exact h7
  · rw [hT 10 0 17 (by omega) (by omega), hI 0 0 7 (by omega) (by omega)]; exact h8
  · rw [hL, hP]; exact h9
  · rw [hT 17 0 s (by omega) (by omega), hI 7 s 2 (by omega) (by omega)]; exact hE s hs
  · rw [hT 10 0 9 (by omega) (by omega), hI 0 0 5 (by omega) (by omega)]; exact hW.1
  · rw [hT 10 0 10 (by omega) (by omega), hI 0 0 5 (by omega) (by omega), hP]; exact hW.2
  · rw [hT 15 0 x (by omega) (by omega), hI 8 x 5 (by omega) (by omega)]; exact r1 x ((hm x).mp hx)
  · obtain ⟨a1, a2, a3, a4⟩ := r2 r hr
    refine ⟨by rw [hP]; exact a1, lk_congr (σ := σ) (fun y _ => by rw [hP]) a2, fun x hx => ⟨(hm x).mpr (a3 x hx).1, by rw [hI 8 x 5 (by omega) (by omega)]; exact (a3 x hx).2⟩, by rw [hL]; exact a4⟩
  · rw [hI 8 x 5 (by omega) (by omega), hP]; exact r3 x ((hm x).mp hx)
  · rw [hL]; exact r5
  · rw [hL]; exact r6 r hr x hx
  · rw [hT 15 0 x (by omega) (by omega)]; exact hU x hx (fun q => hn ((hm x).mpr q))
theorem fmod_nat {m d : Nat} (hm : m < 2 ^ 31) (h0 : 0 < d) (hd : d < 2 ^ 31) : fmod (nI m) (nI d) = nI (m % d) := by
  unfold fmod
  rw [if_pos ((xor_sign (by rw [nI_toInt hd]; omega)).mpr (by rw [nI_toInt hm]; omega)), pk_rem hm h0 hd]
theorem sh_spec : ∀ (n k : Nat) (τ : sT), k + n < 2 ^ 20 → (∀ j, (mf_sh n k τ).1 18 0 j = if k ≤ j ∧ j < k + n then τ.1 18 0 (j + 1) else τ.1 18 0 j) ∧ (∀ q i j, ¬ q = 18 → (mf_sh n k τ).1 q i j = τ.1 q i j) ∧ (mf_sh n k τ).2 = τ.2
  | 0, k, τ, _ => ⟨fun j => by rw [if_neg (by omega)]; rfl, fun _ _ _ _ => rfl, rfl⟩
  | n + 1, k, τ, h => by
    have ecl : (nI k).toNatClampNeg = k := nI_clamp (by omega)
    have ecl1 : (nI k + 1).toNatClampNeg = k + 1 := by rw [nI_1]; exact nI_clamp (by omega)
    obtain ⟨a1, a2, a3⟩ := sh_spec n (k + 1) (sI τ 18 0 (nI k).toNatClampNeg (τ.1 18 0 (nI k + 1).toNatClampNeg)) (by omega)
    rw [ecl, ecl1] at a1 a2 a3
    have e : mf_sh (n + 1) k τ = mf_sh n (k + 1) (sI τ 18 0 k (τ.1 18 0 (k + 1))) := by
      show mf_sh n (k + 1) _ = _
      rw [ecl, ecl1]
    rw [e]
    refine ⟨fun j => ?_, fun q i j hq => ?_, a3⟩
    · rw [a1]
      by_cases c1 : k + 1 ≤ j ∧ j < k + 1 + n
      · rw [if_pos c1, if_pos (by omega), sI_ne (by omega)]
      · rw [if_neg c1]
        by_cases c2 : j = k
        · subst c2; rw [sI_eq, if_pos (by omega)]
        · rw [sI_ne (by omega), if_neg (by omega)]
    · rw [a2 q i j hq, sI_ne (by omega)]
theorem st_of {L : Nat → List Nat} {n : Nat} {σ τ σ' τ' : sT} (h : Sim L n σ τ) (hB : RB L n σ' τ') (h15 : τ'.1 10 0 15 = τ.1 10 0 15) (h10 : σ'.2.1 0 0 10 = σ.2.1 0 0 10) (hp : cf_pres σ' = cf_pres σ) (h8 : ∀ x, σ'.1 8 x 5 = σ.1 8 x 5) : Sim L n σ' τ' := ⟨hB, by show τ'.1 10 0 15 = _; rw [h15, h10]; exact h.2.1, fun y hy => by rw [h8]; exact h.2.2 y (by rw [← hp]; exact hy)⟩
theorem st_drop {L : Nat → List Nat} {n : Nat} {σ τ : sT} (h : Sim L n σ τ) : Sim L n (cf_drop σ) (mf_drop τ) := by
  obtain ⟨hc1, hc2, b, c, h12, h13, h14, h15, h16⟩ := h.1.1.2.2.2.2.2
  unfold cf_drop mf_drop
  rw [hc1]
  by_cases q : σ.1 4 0 2 ≤ 0
  · rw [if_pos q, if_pos q]; exact h
  · rw [if_neg q, if_neg q]
    have hcpos : 0 < c := by
      rw [h14, i32_le, i32_0, nI_toInt (by omega)] at q
      omega
    have ec : σ.1 4 0 2 - 1 = nI (c - 1) := by
      rw [h14, show (1 : Int32) = nI 1 from rfl, pk_sub (by omega)]
    have en : (σ.1 4 0 2 - 1).toNatClampNeg = c - 1 := by rw [ec]; exact nI_clamp (by omega)
    have epl : cf_place σ 1 = nI ((b + 1) % 64) := by
      unfold cf_place
      rw [h12, nI_1, show (64 : Int32) = nI 64 from rfl, fmod_nat (by omega) (by omega) (by omega)]
    obtain ⟨a1, a2, a3⟩ := sh_spec (σ.1 4 0 2 - 1).toNatClampNeg 0 (sI τ 10 0 12 (σ.1 4 0 2 - 1)) (by rw [en]; omega)
    have aT : ∀ k i j, ¬ k = 18 → ¬ (k = 10 ∧ (j = 12 ∨ j = 13)) → (mf_sh (σ.1 4 0 2 - 1).toNatClampNeg 0 (sI τ 10 0 12 (σ.1 4 0 2 - 1))).1 k i j = τ.1 k i j := fun k i j h1 h2 => by
      rw [a2 k i j h1, sI_ne (fun z => h2 ⟨z.1, Or.inl z.2.2⟩)]
    refine st_of h (rb_wrd h.1 (fun k i j h1 h2 => ?_) rfl aT (by rw [a3]; rfl) ⟨?_, ?_, (b + 1) % 64, c - 1, ?_, by omega, ?_, by omega, fun j hj => ?_⟩) (aT 10 0 15 (by omega) (by omega)) rfl (pres_congr (by rw [sI_ne (by omega), sI_ne (by omega)]) rfl rfl) (fun x => by rw [sI_ne (by omega), sI_ne (by omega)])
    · rw [sI_ne (fun z => h1 z.1), sI_ne (fun z => h1 z.1)]
    · rw [a2 10 0 12 (by omega), sI_eq, sI_eq]
    · rw [a2 10 0 13 (by omega), sI_ne (by omega), sI_ne (by omega), sI_ne (by omega)]; exact hc2
    · rw [sI_ne (by omega), sI_eq]; exact epl
    · rw [sI_eq]; exact ec
    · rw [a1, en, if_pos (by omega), sI_ne (by omega), sI_ne (by omega), sI_ne (by omega), h16 (j + 1) (by omega), show (b + (j + 1)) % 64 = ((b + 1) % 64 + j) % 64 by omega]
theorem rng_iff {a lo hi : Int32} {c : Nat} (hlo : lo = nI c) (hhi : hi = nI (c + 16)) (hc : c ≤ 100) : isS (a - lo) ↔ (¬ a < lo ∧ ¬ hi ≤ a) := by
  have e1 : lo.toInt = c := by rw [hlo, nI_toInt (by omega)]
  have e2 : hi.toInt = ((c + 16 : Nat) : Int) := by rw [hhi, nI_toInt (by omega)]
  constructor
  · intro h
    obtain ⟨j, hj, ej⟩ := vp_in_of (isS_in h) (by omega)
    have ea : a = nI (j + c) := by
      rw [← nI_add, ← ej, ← hlo, Int32.sub_add_cancel]
    rw [i32_lt, i32_le, e1, e2, ea, nI_toInt (by omega)]
    omega
  · rintro ⟨h1, h2⟩
    have hv := vp_in_iff.mp (rng_in h1 h2 (by omega) (by omega))
    refine ⟨?_, ?_⟩
    · rw [i32_le, i32_0]; omega
    · rw [i32_lt, i32_16]; omega
theorem isS_nI {a : Int32} (h : isS a) : a = nI a.toNatClampNeg := by
  obtain ⟨j, hj, rfl⟩ := vp_in_of (isS_in h) (by omega)
  rw [nI_clamp (by omega)]
theorem st_input {L : Nat → List Nat} {n : Nat} {σ τ : sT} (h : Sim L n σ τ) (o : Option Nat) : Sim L n (sP σ 0 0 9 o) (sI τ 10 0 14 (cf_num o)) := by
  have h5 := h.1.1.2.2.2.2.1
  have hW := h.1.2.2.1
  refine st_of h (rb_core h.1 (fun k i j hk => rfl) (fun k i j hk => sP_ne (fun z => hk z.1)) (fun k i j hk => sI_ne (fun z => hk z.1)) ⟨sI_ne (by omega), sI_ne (by omega)⟩ ⟨fun _ => rfl, rfl⟩ ⟨?_, ?_, ?_, ?_, h5.2.2.2.2⟩ ⟨?_, ?_⟩) (sI_ne (by omega)) (sP_ne (by omega)) (pres_congr rfl (sP_ne (by omega)) (sP_ne (by omega))) (fun x => rfl)
  · rw [sI_ne (by omega), sP_ne (by omega)]; exact h5.1
  · rw [sI_eq, sP_eq]
  · rw [sI_ne (by omega)]; exact h5.2.2.1
  · rw [sI_ne (by omega)]; exact h5.2.2.2.1
  · rw [sI_ne (by omega)]; exact hW.1
  · rw [sI_ne (by omega), sP_ne (by omega)]; exact hW.2
theorem st_alarm0 {L : Nat → List Nat} {n : Nat} {σ τ : sT} (h : Sim L n σ τ) (o : Option Nat) : Sim L n (sP σ 0 0 10 o) (sI τ 10 0 15 (cf_num o)) := by
  refine ⟨rb_frp (rb_al h.1 o) ⟨fun k i j h1 h2 => sI_ne (fun z => h2 ⟨z.1, Or.inr z.2.2⟩), rfl⟩, ?_, fun y hy => ?_⟩
  · show (sI τ 10 0 15 (cf_num o)).1 10 0 15 = cf_num ((sP σ 0 0 10 o).2.1 0 0 10)
    rw [sI_eq, sP_eq]
  · have e : cf_pres (sP σ 0 0 10 o) = cf_pres σ := pres_congr rfl (sP_ne (by omega)) (sP_ne (by omega))
    rw [e] at hy
    exact h.2.2 y hy
theorem st_tick {L : Nat → List Nat} {n : Nat} {σ τ : sT} (h : Sim L n σ τ) (v : Int32) : Sim L n (sI σ 0 0 11 v) (sI τ 10 0 16 v) := by
  have h5 := h.1.1.2.2.2.2.1
  have hW := h.1.2.2.1
  refine st_of h (rb_core h.1 (fun k i j hk => sI_ne (fun z => hk z.1)) (fun k i j hk => rfl) (fun k i j hk => sI_ne (fun z => hk z.1)) ⟨sI_ne (by omega), sI_ne (by omega)⟩ ⟨fun _ => rfl, rfl⟩ ⟨?_, ?_, ?_, ?_, h5.2.2.2.2⟩ ⟨?_, ?_⟩) (sI_ne (by omega)) rfl (pres_congr (sI_ne (by omega)) rfl rfl) (fun x => sI_ne (by omega))
  · rw [sI_ne (by omega)]; exact h5.1
  · rw [sI_ne (by omega)]; exact h5.2.1
  · rw [sI_eq, sI_eq]
  · rw [sI_ne (by omega), sI_ne (by omega)]; exact h5.2.2.2.1
  · rw [sI_ne (by omega), sI_ne (by omega)]; exact hW.1
  · rw [sI_ne (by omega), sI_ne (by omega)]; exact hW.2
theorem st_alarm {L : Nat → List Nat} {n : Nat} {σ τ : sT} (h : Sim L n σ τ) (s : Nat) (v : Int32) : Sim L n (cf_alarm σ s v) (sI (sI τ 10 0 15 (nI s)) 10 0 16 v) := st_tick (st_alarm0 h (some s)) v
theorem st_rb {L' : Nat → List Nat} {n m : Nat} {σ τ σ' τ' : sT} (L : Nat → List Nat) (h : Sim L n σ τ) (hB : RB L' m σ' τ') (hp : Pf σ') (f : Fr σ σ') (g : FrM τ τ') : Sim L' m σ' τ' := ⟨hB, by
  show τ'.1 10 0 15 = cf_num (σ'.2.1 0 0 10)
  rw [g.1 10 0 15 (by omega) (by omega) (by omega), f.2.1 0 0 10 (by omega) (by omega) (by omega)]
  exact h.2.1, hp⟩
theorem fr_wait (σ : sT) (s : Nat) : Fr σ (cf_wait σ s) := by
  unfold cf_wait
  cases cf_pres σ with
  | none => exact Fr.rf
  | some q =>
    dsimp only
    split
    · exact (fr_app _ _ _).tr (fr_aside _)
    · exact Fr.I (by omega)
theorem fr_give (σ : sT) : Fr σ (cf_give σ) := by
  unfold cf_give
  cases cf_pres σ with
  | none => exact Fr.rf
  | some q =>
    dsimp only
    split
    · exact Fr.rf
    · exact (fr_app _ _ _).tr (fr_aside _)
theorem frm_wait (τ : sT) (s : Int32) : FrM τ (mf_wait τ s) := by
  unfold mf_wait
  split
  · split
    · exact (frm_come _ _ _).tr (frm_aside _)
    · exact FrM.I (by omega)
  · exact FrM.rf
theorem frm_give (τ : sT) : FrM τ (mf_give τ) := by
  unfold mf_give
  split
  · exact FrM.rf
  split
  · exact FrM.rf
  · exact (frm_come _ _ _).tr (frm_aside _)
theorem st_act {L : Nat → List Nat} {n : Nat} {σ τ : sT} {lv : Nat → Nat → Prop} (ok : OKs σ lv) (h : Sim L n σ τ) (hn : n < 2 ^ 60) (a : Int32) : ∃ L', Sim L' (n + 1) (cf_act σ a) (mf_act τ a) := by
  have r16 := rng_iff (a := a) (lo := 16) (hi := 32) (c := 16) rfl rfl (by omega)
  have r32 := rng_iff (a := a) (lo := 32) (hi := 48) (c := 32) rfl rfl (by omega)
  have r64 := rng_iff (a := a) (lo := 64) (hi := 80) (c := 64) rfl rfl (by omega)
  have r80 := rng_iff (a := a) (lo := 80) (hi := 96) (c := 80) rfl rfl (by omega)
  unfold cf_act mf_act
  by_cases q16 : isS (a - 16)
  · rw [if_pos q16, if_pos (r16.mp q16)]
    have e := isS_nI q16
    have hs := isS_lt q16
    obtain ⟨L1, h1, p1⟩ := rb_wait ok h.1 hn h.2.2 hs
    rw [← e] at h1
    exact ⟨L1, st_rb L h h1 p1 (fr_wait _ _) (frm_wait _ _)⟩
  rw [if_neg q16, if_neg (fun z => q16 (r16.mpr z))]
  by_cases q32 : isS (a - 32)
  · rw [if_pos q32, if_pos (r32.mp q32)]
    have e := isS_nI q32
    have hs := isS_lt q32
    obtain ⟨L1, h1, p1⟩ := rb_sig ok h.1 hn h.2.2 hs
    rw [← e] at h1
    exact ⟨L1, st_rb L h h1 p1 (fr_sig _ _) (frm_sig _ _)⟩
  rw [if_neg q32, if_neg (fun z => q32 (r32.mpr z))]
  by_cases c48 : a = 48
  · rw [if_pos c48, if_pos c48]
    obtain ⟨L1, h1, p1⟩ := rb_give ok h.1 hn h.2.2
    exact ⟨L1, st_rb L h h1 p1 (fr_give _) (frm_give _)⟩
  rw [if_neg c48, if_neg c48]
  by_cases c49 : a = 49
  · rw [if_pos c49, if_pos c49]
    exact ⟨L, (st_drop h).mono (by omega)⟩
  rw [if_neg c49, if_neg c49]
  by_cases c50 : a = 50
  · rw [if_pos c50, if_pos c50]
    exact ⟨L, (st_input h none).mono (by omega)⟩
  rw [if_neg c50, if_neg c50]
  by_cases q64 : isS (a - 64)
  · rw [if_pos q64, if_pos (r64.mp q64)]
    have e := isS_nI q64
    rw [sI_ne (by omega), h.1.1.2.2.2.2.1.2.2.2.1]
    have h1 := st_alarm h (a - 64).toNatClampNeg (σ.1 0 0 7 + 3)
    rw [← e] at h1
    exact ⟨L, h1.mono (by omega)⟩
  rw [if_neg q64, if_neg (fun z => q64 (r64.mpr z))]
  by_cases q80 : isS (a - 80)
  · rw [if_pos q80, if_pos (r80.mp q80)]
    have e := isS_nI q80
    have h1 := st_input h (some (a - 80).toNatClampNeg)
    rw [show cf_num (some (a - 80).toNatClampNeg) = nI (a - 80).toNatClampNeg from rfl, ← e] at h1
    exact ⟨L, h1.mono (by omega)⟩
  rw [if_neg q80, if_neg (fun z => q80 (r80.mpr z))]
  exact ⟨L, h.mono (by omega)⟩
end
section
theorem rb_done {L : Nat → List Nat} {n : Nat} {σ τ : sT} (h : RB L n σ τ) {x : Nat} (hx : Mk σ x) (v : Int32) : RB L n (sI σ 8 x 4 v) (sI τ 14 0 x v) := by
  obtain ⟨⟨h1, h2, h3, h4, ⟨h5, h6, h7, h8, h9⟩, h10, h11, b, c, h12, h13, h14, h15, h16⟩, hE, hW, ⟨r1, r2, r3, t, r4, r5, r6⟩, hU⟩ := h
  refine ⟨⟨fun y hy => ?_, fun y hy => ?_, fun y hy j hj => ?_, fun y hy => ?_, ⟨?_, ?_, ?_, ?_, h9⟩, ?_, ?_, b, c, ?_, h13, ?_, h15, fun j hj => ?_⟩, fun s hs => ?_, ⟨?_, ?_⟩, ⟨fun y hy => ?_, fun r hr => ?_, fun y hy => ?_, t, r4, r5, r6⟩, fun y hy hn => ?_⟩
  · rw [sI_ne (by omega)]; exact h1 y hy
  · rw [sI_ne (by omega), sI_ne (by omega)]; exact h2 y hy
  · rw [sI_ne (by omega), sI_ne (by omega)]; exact h3 y hy j hj
  · by_cases e : y = x
    · subst e
      rw [sI_eq, sI_eq]
      exact ⟨fun _ => rfl, fun z => absurd hx z⟩
    · rw [sI_ne (by omega), sI_ne (by omega)]; exact h4 y hy
  · rw [sI_ne (by omega)]; exact h5
  · rw [sI_ne (by omega)]; exact h6
  · rw [sI_ne (by omega), sI_ne (by omega)]; exact h7
  · rw [sI_ne (by omega), sI_ne (by omega)]; exact h8
  · rw [sI_ne (by omega), sI_ne (by omega)]; exact h10
  · rw [sI_ne (by omega), sI_ne (by omega)]; exact h11
  · rw [sI_ne (by omega)]; exact h12
  · rw [sI_ne (by omega)]; exact h14
  · rw [sI_ne (by omega), sI_ne (by omega)]; exact h16 j hj
  · rw [sI_ne (by omega), sI_ne (by omega)]; exact hE s hs
  · rw [sI_ne (by omega), sI_ne (by omega)]; exact hW.1
  · rw [sI_ne (by omega), sI_ne (by omega)]; exact hW.2
  · rw [sI_ne (by omega), sI_ne (by omega)]; exact r1 y hy
  · obtain ⟨a1, a2, a3, a4⟩ := r2 r hr
    exact ⟨a1, lk_congr (σ := σ) (fun y _ => rfl) a2, fun y hy => ⟨(a3 y hy).1, by rw [sI_ne (by omega)]; exact (a3 y hy).2⟩, a4⟩
  · rw [sI_ne (by omega)]; exact r3 y hy
  · rw [sI_ne (by omega)]; exact hU y hy hn
theorem st_done {L : Nat → List Nat} {n : Nat} {σ τ : sT} (h : Sim L n σ τ) {x : Nat} (hx : Mk σ x) (v : Int32) : Sim L n (sI σ 8 x 4 v) (sI τ 14 0 x v) :=
  st_of h (rb_done h.1 hx v) (sI_ne (by omega)) rfl (pres_congr (sI_ne (by omega)) rfl rfl) (fun y => sI_ne (by omega))
theorem st_codes {L : Nat → List Nat} {n : Nat} {σ τ : sT} (h : Sim L n σ τ) (v : Int64) : Sim L n (sL σ 0 0 8 v) (sL τ 10 0 18 v) := by
  have h5 := h.1.1.2.2.2.2.1
  refine st_of h (rb_core h.1 (fun k i j hk => rfl) (fun k i j hk => rfl) (fun k i j hk => rfl) ⟨rfl, rfl⟩ ⟨fun _ => sL_ne (by omega), sL_ne (by omega)⟩ ⟨h5.1, h5.2.1, h5.2.2.1, h5.2.2.2.1, by rw [sL_eq, sL_eq]⟩ h.1.2.2.1) rfl rfl rfl (fun x => rfl)
theorem a_eq {L : Nat → List Nat} {n : Nat} {σ τ : sT} {lv : Nat → Nat → Prop} {N : Int} (okm : OKm τ lv N) (h : Sim L n σ τ) {x : Nat} (hx : Mk σ x) (ha : σ.2.1 0 0 4 = some x) : mf_a τ = cf_next σ x := by
  have hx32 := hx.1
  have h8 : τ.1 10 0 8 = nI x := by rw [h.1.1.2.2.2.2.1.1, ha]; rfl
  have h4 := (h.1.1.2.2.2.1 x hx32).1 hx
  have hd := okm.2.2.2.2.2.2.2 x hx32
  have ecl : (nI x).toNatClampNeg = x := nI_clamp (by omega)
  obtain ⟨m, hm, em⟩ := nI_of (x := τ.1 14 0 x) (by rw [i32_lt, i32_0]; omega)
  unfold mf_a cf_next
  rw [h8, ecl, ← h4, em, show (8 : Int32) = nI 8 from rfl, fmod_nat hm (by omega) (by omega), pk_rem hm (by omega) (by omega), pk_mul, nI_add]
  have hlt : m % 8 < 8 := Nat.mod_lt _ (by omega)
  rw [nI_clamp (by omega), nI_clamp (by omega)]
  exact (h.1.1.2.2.1 x hx32 (m % 8) hlt).1 hx
theorem st_code {L : Nat → List Nat} {n : Nat} {σ τ : sT} {lv : Nat → Nat → Prop} {N : Int} (ok : OKs σ lv) (okm : OKm τ lv N) (h : Sim L n σ τ) (hn : n < 2 ^ 60) {x : Nat} (ha : σ.2.1 0 0 4 = some x) : ∃ L', Sim L' (n + 1) (cf_code σ x) (mf_code τ) := by
  have hx := ok.ac ha
  have hx32 := hx.1
  have h8 : τ.1 10 0 8 = nI x := by rw [h.1.1.2.2.2.2.1.1, ha]; rfl
  have ecl : (nI x).toNatClampNeg = x := nI_clamp (by omega)
  have h4 := (h.1.1.2.2.2.1 x hx32).1 hx
  have h1 := st_done h hx (σ.1 8 x 4 + 1)
  obtain ⟨L1, h2⟩ := st_act (σ := sI σ 8 x 4 (σ.1 8 x 4 + 1)) ok.I h1 hn (cf_next σ x)
  have e1 : mf_act (sI τ 14 0 (τ.1 10 0 8).toNatClampNeg (τ.1 14 0 (τ.1 10 0 8).toNatClampNeg + 1)) (mf_a τ) = mf_act (sI τ 14 0 x (σ.1 8 x 4 + 1)) (cf_next σ x) := by
    rw [a_eq okm h hx ha, h8, ecl, h4]
  unfold cf_code mf_code
  rw [e1]
  generalize mf_act (sI τ 14 0 x (σ.1 8 x 4 + 1)) (cf_next σ x) = τ1 at h2 ⊢
  generalize cf_act (sI σ 8 x 4 (σ.1 8 x 4 + 1)) (cf_next σ x) = σ1 at h2 ⊢
  have hc := h2.1.1.2.2.2.2.1.2.2.2.2
  dsimp only
  rw [hc]
  have h3 := st_codes h2 (σ1.2.2 0 0 8 + 1)
  rw [sL_eq, sL_eq]
  have hk := h3.1.1.2.2.2.2.1.2.2.2.1
  rw [hk]
  by_cases q : σ1.2.2 0 0 8 + 1 - (σ1.2.2 0 0 8 + 1) / 64 * 64 = 0
  · rw [if_pos q, if_pos q]
    exact ⟨L1, st_clock h3 _⟩
  · rw [if_neg q, if_neg q, ← hk, sI_self]
    exact ⟨L1, h3⟩
theorem st_loop {lv : Nat → Nat → Prop} : ∀ (m : Nat) {L : Nat → List Nat} {n : Nat} {σ τ : sT} {N : Int}, OKs σ lv → OKm τ lv N → N + m < 2147483647 → Sim L n σ τ → n + 131 * m < 2 ^ 60 → (cf_loop m σ).1 = (mf_loop m τ).1 ∧ (∃ L', Sim L' (n + 131 * m) (cf_loop m σ).2 (mf_loop m τ).2) ∧ OKm (mf_loop m τ).2 lv (N + m)
  | 0, L, n, σ, τ, N, ok, okm, hN, h, hn => ⟨rfl, ⟨L, h⟩, by rw [show N + ((0 : Nat) : Int) = N by omega]; exact okm⟩
  | m + 1, L, n, σ, τ, N, ok, okm, hN, h, hn => by
    have h8 := h.1.1.2.2.2.2.1.1
    have okm1 : OKm τ lv (N + ((m + 1 : Nat) : Int)) := ⟨okm.1, okm.2.1, okm.2.2.1, okm.2.2.2.1, okm.2.2.2.2.1, okm.2.2.2.2.2.1, okm.2.2.2.2.2.2.1, fun p hp => by have := okm.2.2.2.2.2.2.2 p hp; omega⟩
    unfold cf_loop mf_loop
    cases ha : σ.2.1 0 0 4 with
    | none =>
      rw [ha] at h8
      rw [h8, if_pos num_none]
      exact ⟨rfl, ⟨L, h.mono (by omega)⟩, okm1⟩
    | some x =>
      rw [ha] at h8
      have hx := ok.ac ha
      have hng : ¬ τ.1 10 0 8 < 0 := by rw [h8]; exact num_some hx.1
      rw [if_neg hng]
      obtain ⟨L1, h1⟩ := st_code ok okm h (by omega) ha
      have ok1 := (go_code (x := x) ok).1
      have okm2 := okm_code okm (by omega) hng
      obtain ⟨L2, h2⟩ := st_behind ok1 okm2 h1 (by omega)
      have ok2 := (go_behind ok1).1
      have okm3 := okm_behind okm2
      obtain ⟨e, ⟨L3, h3⟩, okm4⟩ := st_loop m ok2 okm3 (by omega) h2 (by omega)
      refine ⟨by dsimp only; rw [e], ⟨L3, ?_⟩, ?_⟩
      · rw [show n + 131 * (m + 1) = n + 1 + 130 + 131 * m by omega]; exact h3
      · rw [show N + ((m + 1 : Nat) : Int) = N + 1 + (m : Int) by omega]; exact okm4
end
section
/-! THE FACES AGREE: what holds between two calls, and that each call keeps it and answers alike -/
def Inv (lv : Nat → Nat → Prop) (c : Nat) (σ τ : sT) : Prop := (∃ L, Sim L (131130 * c) σ τ) ∧ OKs σ lv ∧ OKm τ lv (1000 * c : Nat) ∧ (τ.1 10 0 13).toInt ≤ (τ.1 10 0 12).toInt ∧ ∀ x, x < 32 → ¬ Mk σ x → ¬ lv 8 x ∧ ¬ lv 9 x
theorem OKm.mono {τ : sT} {lv : Nat → Nat → Prop} {N M : Int} (h : OKm τ lv N) (hM : N ≤ M) : OKm τ lv M := ⟨h.1, h.2.1, h.2.2.1, h.2.2.2.1, h.2.2.2.2.1, h.2.2.2.2.2.1, h.2.2.2.2.2.2.1, fun p hp => by have := h.2.2.2.2.2.2.2 p hp; omega⟩
theorem Inv.go {lv : Nat → Nat → Prop} {c m : Nat} {L' : Nat → List Nat} {σ τ σ' τ' : sT} {N : Int} (h : Inv lv c σ τ) (hs : Sim L' m σ' τ') (hm : m ≤ 131130 * (c + 1)) (g : GO σ σ' lv) (okm : OKm τ' lv N) (hN : N ≤ 1000 * (c + 1)) (hw : (τ'.1 10 0 13).toInt ≤ (τ'.1 10 0 12).toInt) : Inv lv (c + 1) σ' τ' :=
  ⟨⟨L', hs.mono hm⟩, g.1, okm.mono (by omega), hw, fun x hx hk => h.2.2.2.2 x hx (fun q => hk (g.2.mk.mpr q))⟩
theorem Inv.same {lv : Nat → Nat → Prop} {c : Nat} {σ τ : sT} (h : Inv lv c σ τ) : Inv lv (c + 1) σ τ := by
  obtain ⟨L, hs⟩ := h.1
  exact h.go hs (by omega) (GO.rf h.2.1) h.2.2.1 (by omega) h.2.2.2.1
theorem pn_some {L : Nat → List Nat} {n : Nat} {σ τ : sT} {lv : Nat → Nat → Prop} (ok : OKs σ lv) (h : Sim L n σ τ) {p : Int32} {x : Nat} (hp : cf_pn σ p = some x) : isM τ p ∧ p = nI x ∧ p.toNatClampNeg = x ∧ Mk σ x := by
  have hk := pn_ok ok hp
  unfold cf_pn at hp
  split at hp
  · next q =>
    have h0 : ¬ p < 0 := by have := q.1; rw [i32_le] at this; rw [i32_lt]; omega
    have h1 : ¬ 32 ≤ p := by have := q.2; rw [i32_lt] at this; rw [i32_le]; omega
    obtain ⟨j, hj, e⟩ := nI_of h0
    have ej : p.toNatClampNeg = j := by rw [e]; exact nI_clamp hj
    rw [ej] at hp
    have hj32 : j < 32 := by
      rw [e, i32_le, i32_32, nI_toInt hj] at h1; omega
    have ex : x = j := ok.2.2.1 j x hj32 hp
    subst ex
    refine ⟨⟨h0, h1, ?_⟩, e, ej, hk⟩
    rw [ej]
    rcases h.1.1.1 x hj32 with z | z
    · exact z.2
    · rw [z.1] at hp; cases hp
  · cases hp
theorem pn_none {L : Nat → List Nat} {n : Nat} {σ τ : sT} (h : Sim L n σ τ) {p : Int32} (hp : cf_pn σ p = none) : ¬ isM τ p := by
  rintro ⟨h0, h1, h2⟩
  obtain ⟨j, hj, e⟩ := nI_of h0
  have ej : p.toNatClampNeg = j := by rw [e]; exact nI_clamp hj
  have hj32 : j < 32 := by
    rw [e, i32_le, i32_32, nI_toInt hj] at h1; omega
  unfold cf_pn at hp
  rw [if_pos, ej] at hp
  · rw [ej] at h2
    rcases h.1.1.1 j hj32 with z | z
    · rw [z.1.2] at hp; cases hp
    · exact h2 z.2
  · rw [i32_lt] at h0
    rw [i32_le] at h1
    rw [i32_le, i32_lt]
    omega
theorem rb_plan {L : Nat → List Nat} {n : Nat} {σ τ : sT} (h : RB L n σ τ) {x i : Nat} (hx : Mk σ x) (hi : i < 8) (v : Int32) : RB L n (sI σ 9 x i v) (sI τ 13 0 (8 * x + i) v) := by
  obtain ⟨⟨h1, h2, h3, h4, ⟨h5, h6, h7, h8, h9⟩, h10, h11, b, c, h12, h13, h14, h15, h16⟩, hE, hW, ⟨r1, r2, r3, t, r4, r5, r6⟩, hU⟩ := h
  refine ⟨⟨fun y hy => ?_, fun y hy => ?_, fun y hy j hj => ?_, fun y hy => ?_, ⟨?_, ?_, ?_, ?_, h9⟩, ?_, ?_, b, c, ?_, h13, ?_, h15, fun j hj => ?_⟩, fun s hs => ?_, ⟨?_, ?_⟩, ⟨fun y hy => ?_, fun r hr => ?_, fun y hy => ?_, t, r4, r5, r6⟩, fun y hy hn => ?_⟩
  · rw [sI_ne (by omega)]; exact h1 y hy
  · rw [sI_ne (by omega), sI_ne (by omega)]; exact h2 y hy
  · by_cases e : y = x ∧ j = i
    · obtain ⟨rfl, rfl⟩ := e
      rw [sI_eq, sI_eq]
      exact ⟨fun _ => rfl, fun z => absurd hx z⟩
    · rw [sI_ne (by omega), sI_ne (by omega)]; exact h3 y hy j hj
  · rw [sI_ne (by omega), sI_ne (by omega)]; exact h4 y hy
  · rw [sI_ne (by omega)]; exact h5
  · rw [sI_ne (by omega)]; exact h6
  · rw [sI_ne (by omega), sI_ne (by omega)]; exact h7
  · rw [sI_ne (by omega), sI_ne (by omega)]; exact h8
  · rw [sI_ne (by omega), sI_ne (by omega)]; exact h10
  · rw [sI_ne (by omega), sI_ne (by omega)]; exact h11
  · rw [sI_ne (by omega)]; exact h12
  · rw [sI_ne (by omega)]; exact h14
  · rw [sI_ne (by omega), sI_ne (by omega)]; exact h16 j hj
  · rw [sI_ne (by omega), sI_ne (by omega)]; exact hE s hs
  · rw [sI_ne (by omega), sI_ne (by omega)]; exact hW.1
  · rw [sI_ne (by omega), sI_ne (by omega)]; exact hW.2
  · rw [sI_ne (by omega), sI_ne (by omega)]; exact r1 y hy
  · obtain ⟨a1, a2, a3, a4⟩ := r2 r hr
    exact ⟨a1, lk_congr (σ := σ) (fun y _ => rfl) a2, fun y hy => ⟨(a3 y hy).1, by rw [sI_ne (by omega)]; exact (a3 y hy).2⟩, a4⟩
  · rw [sI_ne (by omega)]; exact r3 y hy
  · rw [sI_ne (by omega)]; exact hU y hy hn
theorem f_plan {lv : Nat → Nat → Prop} {c : Nat} {σ τ : sT} (h : Inv lv c σ τ) (p i a : Int32) : (c_plan σ p i a).1 = (d_plan τ p i a).1 ∧ Inv lv (c + 1) (c_plan σ p i a).2 (d_plan τ p i a).2 := by
  obtain ⟨L, hs⟩ := h.1
  unfold c_plan d_plan
  cases hp : cf_pn σ p with
  | none => rw [if_neg (pn_none hs hp)]; exact ⟨rfl, h.same⟩
  | some x =>
    obtain ⟨hm, e, ex, hx⟩ := pn_some h.2.1 hs hp
    rw [if_pos hm]
    dsimp only
    by_cases q1 : i < 0
    · rw [if_pos q1, if_pos q1]; exact ⟨rfl, h.same⟩
    · rw [if_neg q1, if_neg q1]
      by_cases q2 : 8 ≤ i
      · rw [if_pos q2, if_pos (show 7 < i by rw [i32_le, i32_8] at q2; rw [i32_lt, show (7 : Int32).toInt = 7 from rfl]; omega)]; exact ⟨rfl, h.same⟩
      · rw [if_neg q2, if_neg (show ¬ 7 < i by rw [i32_le, i32_8] at q2; rw [i32_lt, show (7 : Int32).toInt = 7 from rfl]; omega)]
        by_cases q3 : a < 0
        · rw [if_pos q3, if_pos q3]; exact ⟨rfl, h.same⟩
        · rw [if_neg q3, if_neg q3]
          by_cases q4 : a ≤ 127
          · rw [if_pos q4, if_pos q4]
            obtain ⟨j, hj, ei⟩ := nI_of q1
            have hx32 := hx.1
            have hj8 : j < 8 := by rw [ei, i32_le, i32_8, nI_toInt hj] at q2; omega
            have ej : i.toNatClampNeg = j := by rw [ei]; exact nI_clamp hj
            have eix : (8 * p + i).toNatClampNeg = 8 * x + j := by
              rw [e, ei, show (8 : Int32) = nI 8 from rfl, pk_mul, nI_add]
              exact nI_clamp (by omega)
            rw [eix, ej]
            refine ⟨((hs.1.1.2.2.1 x hx32 j hj8).1 hx).symm, ?_⟩
            refine h.go (st_of hs (rb_plan hs.1 hx hj8 a) (sI_ne (by omega)) rfl (pres_congr (sI_ne (by omega)) rfl rfl) (fun y => sI_ne (by omega))) (by omega) (GO.I h.2.1 (by omega)) (h.2.2.1.o (by omega) (by omega)) (by omega) ?_
            rw [sI_ne (by omega), sI_ne (by omega)]
            exact h.2.2.2.1
          · rw [if_neg q4, if_neg q4]; exact ⟨rfl, h.same⟩
theorem num_eq {x : Nat} (hx : x < 32) {o : Option Nat} (ho : ∀ y, o = some y → y < 32) : nI x = cf_num o ↔ some x = o := by
  cases o with
  | none =>
    constructor
    · intro q
      have : ¬ nI x < 0 := nI_pos (by omega)
      rw [q] at this
      exact absurd num_none this
    · intro q; cases q
  | some y =>
    have hy := ho y rfl
    constructor
    · intro q; rw [nI_inj (by omega) (by omega) q]
    · intro q; cases q; rfl
theorem hw_frm {τ τ' : sT} (g : FrM τ τ') (h : (τ.1 10 0 13).toInt ≤ (τ.1 10 0 12).toInt) : (τ'.1 10 0 13).toInt ≤ (τ'.1 10 0 12).toInt := by
  rw [g.1 10 0 13 (by omega) (by omega) (by omega), g.1 10 0 12 (by omega) (by omega) (by omega)]; exact h
theorem f_wake {lv : Nat → Nat → Prop} {c : Nat} {σ τ : sT} (h : Inv lv c σ τ) (hc : c < 2000000) (p : Int32) : (c_wake σ p).1 = (d_wake τ p).1 ∧ Inv lv (c + 1) (c_wake σ p).2 (d_wake τ p).2 := by
  obtain ⟨L, hs⟩ := h.1
  unfold c_wake d_wake
  cases hp : cf_pn σ p with
  | none => rw [if_neg (pn_none hs hp)]; exact ⟨rfl, h.same⟩
  | some x =>
    obtain ⟨hm, e, ex, hx⟩ := pn_some h.2.1 hs hp
    rw [if_pos hm, ex, hs.1.2.2.2.1.1 x hx]
    dsimp only
    by_cases q1 : σ.1 8 x 5 = 0
    · rw [if_pos q1, if_pos q1]
      have e8 : p = τ.1 10 0 8 ↔ some x = σ.2.1 0 0 4 := by
        rw [e, hs.1.1.2.2.2.2.1.1]
        exact num_eq hx.1 (fun y hy => (h.2.1.ac hy).1)
      have ep : p = mf_pres τ ↔ some x = cf_pres σ := by
        rw [e, pres_eq hs.1.1 hs.1.2.2.1]
        exact num_eq hx.1 (fun y hy => (pres_ok h.2.1 hy).1)
      by_cases q2 : some x = σ.2.1 0 0 4
      · rw [if_pos q2, if_pos (e8.mpr q2)]; exact ⟨rfl, h.same⟩
      · rw [if_neg q2, if_neg (fun z => q2 (e8.mp z))]
        by_cases q3 : some x = cf_pres σ
        · rw [if_pos q3, if_pos (ep.mpr q3)]; exact ⟨rfl, h.same⟩
        · rw [if_neg q3, if_neg (fun z => q3 (ep.mp z)), e]
          obtain ⟨L', a1, a2⟩ := rb_wake h.2.1 hs.1 (by omega) hs.2.2 hx q1 (fun z => q3 z.symm)
          exact ⟨rfl, h.go (st_rb L hs a1 a2 (fr_wake σ x) (frm_rouse τ (nI x))) (by omega) (go_wake h.2.1 hx) (okm_rouse h.2.2.1 (nI_lt32 hx.1)) (by omega) (hw_frm (frm_rouse _ _) h.2.2.2.1)⟩
    · rw [if_neg q1, if_neg q1]; exact ⟨rfl, h.same⟩
theorem f_suspend {lv : Nat → Nat → Prop} {c : Nat} {σ τ : sT} (h : Inv lv c σ τ) : (c_suspend σ).1 = (d_suspend τ).1 ∧ Inv lv (c + 1) (c_suspend σ).2 (d_suspend τ).2 := by
  obtain ⟨L, hs⟩ := h.1
  unfold c_suspend d_suspend
  rw [pres_eq hs.1.1 hs.1.2.2.1]
  cases hp : cf_pres σ with
  | none => rw [if_pos num_none]; exact ⟨rfl, h.same⟩
  | some x =>
    rw [if_neg (num_some (pres_ok h.2.1 hp).1)]
    obtain ⟨L', a1, a2⟩ := rb_aside hs.1
    exact ⟨rfl, h.go (st_rb L hs a1 a2 (fr_aside σ) (frm_aside τ)) (by omega) (go_aside h.2.1) (okm_aside h.2.2.1) (by omega) (hw_frm (frm_aside _) h.2.2.2.1)⟩
theorem f_signal {lv : Nat → Nat → Prop} {c : Nat} {σ τ : sT} (h : Inv lv c σ τ) (hc : c < 2000000) (s : Int32) : (c_signal σ s).1 = (d_signal τ s).1 ∧ Inv lv (c + 1) (c_signal σ s).2 (d_signal τ s).2 := by
  obtain ⟨L, hs⟩ := h.1
  unfold c_signal d_signal
  by_cases q : isS s
  · rw [if_pos q, if_pos q]
    obtain ⟨L', a1, a2⟩ := rb_sig h.2.1 hs.1 (by omega) hs.2.2 (isS_lt q)
    rw [← isS_nI q] at a1
    exact ⟨rfl, h.go (st_rb L hs a1 a2 (fr_sig σ _) (frm_sig τ s)) (by omega) (go_sig h.2.1 (isS_lt q)) (okm_sig h.2.2.1) (by omega) (hw_frm (frm_sig _ _) h.2.2.2.1)⟩
  · rw [if_neg q, if_neg q]; exact ⟨rfl, h.same⟩
theorem f_listen {lv : Nat → Nat → Prop} {c : Nat} {σ τ : sT} (h : Inv lv c σ τ) (s : Int32) : (c_listen σ s).1 = (d_listen τ s).1 ∧ Inv lv (c + 1) (c_listen σ s).2 (d_listen τ s).2 := by
  obtain ⟨L, hs⟩ := h.1
  unfold c_listen d_listen
  by_cases q0 : s = -1
  · rw [if_pos q0, if_pos q0]
    subst q0
    refine ⟨rfl, h.go (st_input hs none) (by omega) (GO.S h.2.1 (Or.inl rfl) (fun y hy => by cases hy)) (h.2.2.1.f14 (by decide)) (by omega) ?_⟩
    rw [sI_ne (by omega), sI_ne (by omega)]; exact h.2.2.2.1
  · rw [if_neg q0, if_neg q0]
    by_cases q : isS s
    · rw [if_pos q, if_pos q]
      have a1 := st_input hs (some s.toNatClampNeg)
      have e : cf_num (some s.toNatClampNeg) = s := (isS_nI q).symm
      rw [e] at a1
      refine ⟨rfl, h.go a1 (by omega) (GO.S h.2.1 (Or.inl rfl) (fun y hy => by cases hy; exact isS_lt q)) (h.2.2.1.f14 (by have := q.2; rw [i32_lt, i32_16] at this; exact this)) (by omega) ?_⟩
      rw [sI_ne (by omega), sI_ne (by omega)]; exact h.2.2.2.1
    · rw [if_neg q, if_neg q]; exact ⟨rfl, h.same⟩
theorem f_alarm {lv : Nat → Nat → Prop} {c : Nat} {σ τ : sT} (h : Inv lv c σ τ) (s t : Int32) : (c_alarm σ s t).1 = (d_alarm τ s t).1 ∧ Inv lv (c + 1) (c_alarm σ s t).2 (d_alarm τ s t).2 := by
  obtain ⟨L, hs⟩ := h.1
  unfold c_alarm d_alarm
  by_cases q0 : s = -1
  · rw [if_pos q0, if_pos q0]
    refine ⟨rfl, h.go (st_alarm0 hs none) (by omega) (GO.S h.2.1 (Or.inr rfl) (fun y hy => by cases hy)) (h.2.2.1.f15 (by decide)) (by omega) ?_⟩
    rw [sI_ne (by omega), sI_ne (by omega)]; exact h.2.2.2.1
  · rw [if_neg q0, if_neg q0]
    by_cases q : isS s
    · rw [if_pos q, if_pos q]
      by_cases q1 : t < 0
      · rw [if_pos q1, if_pos q1]; exact ⟨rfl, h.same⟩
      · rw [if_neg q1, if_neg q1]
        by_cases q2 : t ≤ 1000000
        · rw [if_pos q2, if_pos q2]
          have a1 := st_alarm hs s.toNatClampNeg t
          rw [← isS_nI q] at a1
          refine ⟨rfl, h.go a1 (by omega) ((GO.S h.2.1 (Or.inr rfl) (fun y hy => by cases hy; exact isS_lt q)).tr (GO.I ((GO.S h.2.1 (Or.inr rfl) (fun y hy => by cases hy; exact isS_lt q)).1) (by omega))) ((h.2.2.1.f15 (by have := q.2; rw [i32_lt, i32_16] at this; exact this)).o (by omega) (by omega)) (by omega) ?_⟩
          rw [sI_ne (by omega), sI_ne (by omega), sI_ne (by omega), sI_ne (by omega)]; exact h.2.2.2.1
        · rw [if_neg q2, if_neg q2]; exact ⟨rfl, h.same⟩
    · rw [if_neg q, if_neg q]; exact ⟨rfl, h.same⟩
theorem f_word {lv : Nat → Nat → Prop} {c : Nat} {σ τ : sT} (h : Inv lv c σ τ) (w : Int32) : (c_word σ w).1 = (d_word τ w).1 ∧ Inv lv (c + 1) (c_word σ w).2 (d_word τ w).2 := by
  obtain ⟨L, hs⟩ := h.1
  obtain ⟨hc1, hc2, b, k, h12, h13, h14, h15, h16⟩ := hs.1.1.2.2.2.2.2
  unfold c_word d_word
  by_cases q0 : w < 0
  · rw [if_pos q0, if_pos q0]; exact ⟨rfl, h.same⟩
  · rw [if_neg q0, if_neg q0]
    by_cases q1 : w ≤ 65535
    · rw [if_pos q1, if_neg (show ¬ 65535 < w by rw [i32_le] at q1; rw [i32_lt]; omega)]
      unfold cf_add
      rw [hc1]
      by_cases q2 : σ.1 4 0 2 < 64
      · have hk : k < 64 := by rw [h14, i32_lt, nI_toInt (by omega), show (64 : Int32).toInt = 64 from rfl] at q2; omega
        rw [if_neg (fun z => z q2), if_neg (show ¬ σ.1 4 0 2 = 64 by rintro z; rw [z] at q2; exact absurd q2 (by decide))]
        have e2 : (d_w1 τ w).1 10 0 12 = σ.1 4 0 2 := by rw [← hc1]; exact sI_ne (by omega)
        have e3 : (d_w2 τ w).1 10 0 13 = σ.1 4 0 3 := by rw [← hc2]; unfold d_w2 d_w1; rw [sI_ne (by omega), sI_ne (by omega)]
        have e4 : (d_w3 τ w).1 10 0 12 = σ.1 4 0 2 + 1 := by unfold d_w3; rw [sI_ne (by omega)]; unfold d_w2; rw [sI_eq, e2]
        have e5 : (d_w3 τ w).1 10 0 13 = σ.1 4 0 3 + 1 := by unfold d_w3; rw [sI_eq, e3]
        have epl : (cf_place σ (σ.1 4 0 2)).toNatClampNeg = (b + k) % 64 := by
          unfold cf_place
          rw [h12, h14, nI_add, show (64 : Int32) = nI 64 from rfl, fmod_nat (by omega) (by omega) (by omega)]
          exact nI_clamp (by omega)
        have ecn : (σ.1 4 0 2).toNatClampNeg = k := by rw [h14]; exact nI_clamp (by omega)
        have n12 := h.2.2.2.1
        have n6 := h.2.2.1.2.2.2.2.2.2.1
        rw [hc1, hc2] at n12
        rw [hc2] at n6
        have t2 : (σ.1 4 0 2).toInt = k := by rw [h14, nI_toInt (by omega)]
        have i2 : (σ.1 4 0 2 + 1).toInt = (σ.1 4 0 2).toInt + 1 := i32_inc (by omega)
        have i3 : (σ.1 4 0 3 + 1).toInt = (σ.1 4 0 3).toInt + 1 := i32_inc (by omega)
        have hT : ∀ k i j, ¬ k = 18 → ¬ (k = 10 ∧ (j = 12 ∨ j = 13)) → (d_w3 τ w).1 k i j = τ.1 k i j := fun k i j z1 z2 => by
          unfold d_w3 d_w2 d_w1
          rw [sI_ne (fun z => z2 ⟨z.1, Or.inr z.2.2⟩), sI_ne (fun z => z2 ⟨z.1, Or.inl z.2.2⟩), sI_ne (fun z => z1 z.1)]
        refine ⟨e4.symm, h.go (st_of hs (rb_wrd hs.1 (fun k i j z1 z2 => ?_) rfl hT rfl ⟨?_, ?_, b, k + 1, ?_, h13, ?_, by omega, fun j hj => ?_⟩) (hT 10 0 15 (by omega) (by omega)) rfl (pres_congr ?_ rfl rfl) (fun y => ?_)) (by omega) ⟨h.2.1, fun _ _ => rfl, fun _ => rfl, fun y => ?_⟩ ?_ (Int.le_refl _) ?_⟩
        · rw [sI_ne (fun z => z1 z.1), sI_ne (fun z => z1 z.1), sI_ne (fun z => z2 z.1)]
        · rw [e4, sI_ne (by omega), sI_eq]
        · rw [e5, sI_eq]
        · rw [sI_ne (by omega), sI_ne (by omega), sI_ne (by omega)]; exact h12
        · rw [sI_ne (by omega), sI_eq, h14, nI_1]
        · unfold d_w3 d_w2 d_w1
          rw [sI_ne (by omega), sI_ne (by omega), hc1, ecn]
          have eR : (sI (sI (sI σ 5 0 (cf_place σ (σ.1 4 0 2)).toNatClampNeg w) 4 0 2 (σ.1 4 0 2 + 1)) 4 0 3 (σ.1 4 0 3 + 1)).1 5 0 ((b + j) % 64) = (sI σ 5 0 ((b + k) % 64) w).1 5 0 ((b + j) % 64) := by rw [sI_ne (by omega), sI_ne (by omega), epl]
          refine Eq.trans ?_ eR.symm
          by_cases ej : j = k
          · subst ej; rw [sI_eq, sI_eq]
          · rw [sI_ne (by omega), sI_ne (by omega)]; exact h16 j (by omega)
        · rw [sI_ne (by omega), sI_ne (by omega), sI_ne (by omega)]
        · rw [sI_ne (by omega), sI_ne (by omega), sI_ne (by omega)]
        · rw [sI_ne (by omega), sI_ne (by omega), sI_ne (by omega)]
        · refine (OKm.f13 (OKm.f12 (h.2.2.1.o (by omega) (by omega)) ?_) ?_).mono ?_
          · have : (d_w1 τ w).1 10 0 12 = σ.1 4 0 2 := e2
            rw [this, i2]; omega
          · have : (d_w2 τ w).1 10 0 13 = σ.1 4 0 3 := e3
            rw [this, i3]; omega
          · omega
        · rw [e4, e5, i2, i3]; omega
      · have hk : k = 64 := by rw [h14, i32_lt, nI_toInt (by omega), show (64 : Int32).toInt = 64 from rfl] at q2; omega
        rw [if_pos q2, if_pos (show σ.1 4 0 2 = 64 by rw [h14, hk]; rfl)]
        exact ⟨rfl, h.same⟩
    · rw [if_neg q1, if_pos (show 65535 < w by rw [i32_le] at q1; rw [i32_lt]; omega)]; exact ⟨rfl, h.same⟩
end
section
theorem nw_behind (τ : sT) : (mf_behind τ).1 10 0 13 = 0 := by
  have h1 : ∀ τ, (mf_p15 τ).1 10 0 13 = 0 := by
    intro τ
    have a1 : (mf_p2 τ).1 10 0 13 = 0 := sI_eq
    have a2 : (mf_p3 (mf_p2 τ)).1 10 0 13 = 0 := by rw [(p3_frp _).1 10 0 13 (by omega) (by omega)]; exact a1
    have a3 : (mf_p4 (mf_p3 (mf_p2 τ))).1 10 0 13 = 0 := by
      rw [← a2]
      exact (frm_sl _ _ _).1 10 0 13 (by omega) (by omega) (by omega)
    unfold mf_p15
    generalize mf_p4 (mf_p3 (mf_p2 τ)) = z at a3 ⊢
    unfold mf_p5
    split
    · exact a3
    · rw [sI_ne (by omega), sI_ne (by omega)]; exact a3
  have h2 : ∀ τ, (mf_p6 τ).1 10 0 13 = τ.1 10 0 13 := fun τ => sI_ne (by omega)
  unfold mf_behind
  split
  · rw [h2]; exact h1 _
  · rw [h2]; exact h1 _
theorem nw_loop : ∀ (n : Nat) (τ : sT), τ.1 10 0 13 = 0 → (mf_loop n τ).2.1 10 0 13 = 0
  | 0, τ, h => h
  | n + 1, τ, h => by
    unfold mf_loop
    split
    · exact h
    · exact nw_loop n _ (nw_behind _)
theorem nw_run (m : Nat) (τ : sT) : (mf_loop (m + 1) (d_run0 τ)).2.1 10 0 13 = 0 := by
  by_cases q : 0 ≤ τ.1 10 0 8
  · have e : d_run0 τ = τ := if_pos q
    rw [e]
    unfold mf_loop
    rw [if_neg (show ¬ τ.1 10 0 8 < 0 by rw [i32_le] at q; rw [i32_lt]; omega)]
    exact nw_loop m _ (nw_behind _)
  · have e : d_run0 τ = mf_behind τ := if_neg q
    rw [e]
    exact nw_loop _ _ (nw_behind _)
theorem f_run {lv : Nat → Nat → Prop} {c : Nat} {σ τ : sT} (h : Inv lv c σ τ) (hc : c < 2000000) (n : Int32) : (c_run σ n).1 = (d_run τ n).1 ∧ Inv lv (c + 1) (c_run σ n).2 (d_run τ n).2 := by
  obtain ⟨L, hs⟩ := h.1
  unfold c_run d_run
  by_cases q0 : n < 1
  · rw [if_pos q0, if_pos q0]; exact ⟨rfl, h.same⟩
  · rw [if_neg q0, if_neg q0]
    by_cases q1 : n ≤ 1000
    · rw [if_pos q1, if_pos q1]
      have hr : (∃ L', Sim L' (131130 * c + 130) (c_run0 σ) (d_run0 τ)) ∧ GO σ (c_run0 σ) lv ∧ OKm (d_run0 τ) lv (1000 * c : Nat) := by
        have h8 := hs.1.1.2.2.2.2.1.1
        unfold c_run0 d_run0
        rw [h8]
        cases ha : σ.2.1 0 0 4 with
        | none =>
          rw [if_neg num_nle]
          exact ⟨st_behind h.2.1 h.2.2.1 hs (by omega), go_behind h.2.1, okm_behind h.2.2.1⟩
        | some x =>
          rw [if_pos (num_le (h.2.1.ac ha).1)]
          exact ⟨⟨L, hs.mono (by omega)⟩, GO.rf h.2.1, h.2.2.1⟩
      obtain ⟨⟨L1, s1⟩, g1, m1⟩ := hr
      have hn : ¬ n < 0 := by rw [i32_lt, show (1 : Int32).toInt = 1 from rfl] at q0; rw [i32_lt, i32_0]; omega
      obtain ⟨m, hm, e⟩ := nI_of hn
      have em : n.toNatClampNeg = m := by rw [e]; exact nI_clamp hm
      have hm1 : 1 ≤ m ∧ m ≤ 1000 := by
        rw [e, i32_lt, nI_toInt hm, show (1 : Int32).toInt = 1 from rfl] at q0
        rw [e, i32_le, nI_toInt hm, show (1000 : Int32).toInt = 1000 from rfl] at q1
        omega
      rw [em]
      obtain ⟨b1, ⟨L2, b2⟩, b3⟩ := st_loop m g1.1 m1 (by omega) s1 (by omega)
      refine ⟨by rw [b1], h.go b2 (by omega) (g1.tr (go_loop m g1.1)) b3 (by omega) ?_⟩
      obtain ⟨k, rfl⟩ : ∃ k, m = k + 1 := ⟨m - 1, by omega⟩
      rw [nw_run]
      exact b3.2.2.2.2.2.1.1
    · rw [if_neg q1, if_neg q1]; exact ⟨rfl, h.same⟩
theorem f_active {lv : Nat → Nat → Prop} {c : Nat} {σ τ : sT} (h : Inv lv c σ τ) : cf_num (σ.2.1 0 0 4) = τ.1 10 0 8 := by
  obtain ⟨L, hs⟩ := h.1
  exact hs.1.1.2.2.2.2.1.1.symm
theorem f_present {lv : Nat → Nat → Prop} {c : Nat} {σ τ : sT} (h : Inv lv c σ τ) : cf_num (cf_pres σ) = mf_pres τ := by
  obtain ⟨L, hs⟩ := h.1
  exact (pres_eq hs.1.1 hs.1.2.2.1).symm
theorem f_clock {lv : Nat → Nat → Prop} {c : Nat} {σ τ : sT} (h : Inv lv c σ τ) : σ.1 0 0 7 = τ.1 10 0 17 := by
  obtain ⟨L, hs⟩ := h.1
  exact hs.1.1.2.2.2.2.1.2.2.2.1.symm
theorem f_codes {lv : Nat → Nat → Prop} {c : Nat} {σ τ : sT} (h : Inv lv c σ τ) : σ.2.2 0 0 8 = τ.2.2 10 0 18 := by
  obtain ⟨L, hs⟩ := h.1
  exact hs.1.1.2.2.2.2.1.2.2.2.2.symm
theorem f_done {lv : Nat → Nat → Prop} {c : Nat} {σ τ : sT} (h : Inv lv c σ τ) (p : Int32) : c_done σ p = d_done τ p := by
  obtain ⟨L, hs⟩ := h.1
  unfold c_done d_done
  cases hp : cf_pn σ p with
  | none => rw [if_neg (pn_none hs hp)]
  | some x =>
    obtain ⟨hm, e, ex, hx⟩ := pn_some h.2.1 hs hp
    rw [if_pos hm, ex, (hs.1.1.2.2.2.1 x hx.1).1 hx]
theorem f_row {lv : Nat → Nat → Prop} {c : Nat} {σ τ : sT} (h : Inv lv c σ τ) (p : Int32) : c_row σ p = d_row τ p := by
  obtain ⟨L, hs⟩ := h.1
  unfold c_row d_row
  cases hp : cf_pn σ p with
  | none => rw [if_neg (pn_none hs hp)]
  | some x =>
    obtain ⟨hm, e, ex, hx⟩ := pn_some h.2.1 hs hp
    rw [if_pos hm, ex, hs.1.2.2.2.1.1 x hx]
theorem f_extra {lv : Nat → Nat → Prop} {c : Nat} {σ τ : sT} (h : Inv lv c σ τ) (s : Int32) : c_extra σ s = d_extra τ s := by
  obtain ⟨L, hs⟩ := h.1
  unfold c_extra d_extra
  by_cases q : isS s
  · rw [if_pos q, if_pos q, hs.1.2.1 _ (isS_lt q)]
  · rw [if_neg q, if_neg q]
theorem f_wordAt {lv : Nat → Nat → Prop} {c : Nat} {σ τ : sT} (h : Inv lv c σ τ) (i : Int32) : cf_wordAt σ i = d_wordAt τ i := by
  obtain ⟨L, hs⟩ := h.1
  obtain ⟨hc1, hc2, b, k, h12, h13, h14, h15, h16⟩ := hs.1.1.2.2.2.2.2
  unfold cf_wordAt d_wordAt
  by_cases q0 : i < 0
  · rw [if_pos q0, if_neg]
    rintro ⟨z, -⟩
    rw [i32_le] at z
    rw [i32_lt] at q0
    omega
  · rw [if_neg q0, hc1]
    by_cases q1 : σ.1 4 0 2 ≤ i
    · rw [if_pos q1, if_neg]
      rintro ⟨-, z⟩
      rw [i32_lt] at z
      rw [i32_le] at q1
      omega
    · have z : 0 ≤ i ∧ i < σ.1 4 0 2 := by
        rw [i32_lt] at q0
        rw [i32_le] at q1
        rw [i32_le, i32_lt]
        omega
      rw [if_neg q1, if_pos z]
      obtain ⟨j, hj, e⟩ := nI_of q0
      have hjk : j < k := by
        have := z.2
        rw [h14, e, i32_lt, nI_toInt hj, nI_toInt (by omega)] at this
        omega
      have ej : i.toNatClampNeg = j := by rw [e]; exact nI_clamp hj
      have epl : (cf_place σ i).toNatClampNeg = (b + j) % 64 := by
        unfold cf_place
        rw [h12, e, nI_add, show (64 : Int32) = nI 64 from rfl, fmod_nat (by omega) (by omega) (by omega)]
        exact nI_clamp (by omega)
      rw [epl, ej, h16 j hjk]
theorem f_input {lv : Nat → Nat → Prop} {c : Nat} {σ τ : sT} (h : Inv lv c σ τ) : cf_num (σ.2.1 0 0 9) = τ.1 10 0 14 := by
  obtain ⟨L, hs⟩ := h.1
  exact hs.1.1.2.2.2.2.1.2.1.symm
theorem f_tick {lv : Nat → Nat → Prop} {c : Nat} {σ τ : sT} (h : Inv lv c σ τ) : c_tick σ = d_tick τ := by
  obtain ⟨L, hs⟩ := h.1
  have ha : τ.1 10 0 15 = cf_num (σ.2.1 0 0 10) := hs.2.1
  unfold c_tick d_tick
  rw [ha, hs.1.1.2.2.2.2.1.2.2.1]
  cases hp : σ.2.1 0 0 10 with
  | none => rw [if_pos num_none]
  | some x =>
    have hx := h.2.1.al hp
    rw [if_neg (num_some (by omega))]
theorem at_eq {L : Nat → List Nat} {n : Nat} {σ τ : sT} (h : RB L n σ τ) {r : Nat} (hr : r < 24) (i : Int32) : cf_num (c_pAt σ r i) = if 0 ≤ i then mf_at1 τ (rno r) i 32 0 else -1 := by
  unfold c_pAt
  by_cases q : 0 ≤ i
  · rw [if_pos q, if_pos q]
    obtain ⟨a1, a2, a3, a4⟩ := h.2.2.2.1.2.1 r hr
    have hi := h.inR hr
    obtain ⟨j, hj, e⟩ := nI_of (x := i) (by rw [i32_le] at q; rw [i32_lt]; omega)
    have ej : i.toNatClampNeg = j := by rw [e]; exact nI_clamp hj
    have hl := nd_len (h.2.2.2.1.nd hr) (fun x hx => (a3 x hx).1.1)
    rw [ej, a1.1, lk_walk a2]
    by_cases z : j < (L r).length
    · rw [List.getElem?_eq_getElem z, e, at1_yes hi z hl 32 0 rfl (Nat.zero_le _)]
      rfl
    · rw [List.getElem?_eq_none (by omega), e, at1_no hi (by omega) hj hl 32 0 rfl]
      rfl
  · rw [if_neg q, if_neg q]; rfl
theorem f_at {lv : Nat → Nat → Prop} {c : Nat} {σ τ : sT} (h : Inv lv c σ τ) (r i : Int32) : c_at σ r i = d_at τ r i := by
  obtain ⟨L, hs⟩ := h.1
  unfold c_at d_at
  by_cases q : ¬ r < 1 ∧ ¬ 8 < r
  · rw [if_pos q, if_pos (show isRw r from Or.inl ⟨q.1, by have := q.2; rw [i32_lt] at this; rw [i32_le]; omega⟩)]
    obtain ⟨q1, q2⟩ := q
    rw [i32_lt, show (1 : Int32).toInt = 1 from rfl] at q1
    rw [i32_lt, i32_8] at q2
    have es := i32_dec (x := r) (by omega)
    have hx8 : (r - 1).toNatClampNeg < 8 := by rw [toN, es]; omega
    have er : rno (r - 1).toNatClampNeg = r := by
      rw [← rno_lev hx8, toN, es, show (r.toInt - 1).toNat + 1 = r.toInt.toNat by omega]
      exact Int32.toInt_inj.mp (by rw [nI_toInt (by omega)]; omega)
    rw [at_eq hs.1 (by omega), er]
  · rw [if_neg q]
    have hiff := rng_iff (a := r) (lo := 16) (hi := 32) (c := 16) rfl rfl (by omega)
    by_cases q2 : isS (r - 16)
    · have z := hiff.mp q2
      rw [if_pos q2, if_pos (show isRw r from Or.inr ⟨z.1, by have := z.2; rw [i32_le, i32_32] at this; rw [i32_lt, show (31 : Int32).toInt = 31 from rfl]; omega⟩)]
      have er : rno (8 + (r - 16).toNatClampNeg) = r := by
        rw [← rno_sem, ← isS_nI q2]
        exact Int32.toInt_inj.mp (by
          rw [Int32.toInt_add, Int32.toInt_sub, i32_16]
          have h1 := Int32.toInt_lt r
          have h2 := z.1
          rw [i32_lt, i32_16] at h2
          have e1 : (r.toInt - 16).bmod (2 ^ 32) = r.toInt - 16 := by apply Int.bmod_eq_of_le <;> omega
          rw [e1, show 16 + (r.toInt - 16) = r.toInt by omega]
          apply Int.bmod_eq_of_le <;> omega)
      rw [at_eq hs.1 (by have := isS_lt q2; omega), er]
    · rw [if_neg q2, if_neg]
      rintro (z | z)
      · exact q ⟨z.1, by have := z.2; rw [i32_le] at this; rw [i32_lt]; omega⟩
      · exact q2 (hiff.mpr ⟨z.1, by have := z.2; rw [i32_lt, show (31 : Int32).toInt = 31 from rfl] at this; rw [i32_le, i32_32]; omega⟩)
end
section
theorem Mk_mk {σ : sT} {x r : Nat} {b : Int32} (hx : x < 32) {y : Nat} : Mk (cmk σ x r b) y ↔ y = x ∨ Mk σ y := by
  unfold Mk cmk
  dsimp only
  by_cases e : y = x
  · subst e
    rw [if_pos ⟨rfl, rfl, rfl⟩]
    exact ⟨fun _ => Or.inl rfl, fun _ => ⟨hx, rfl⟩⟩
  · rw [if_neg (fun z => e z.2.2), if_neg (fun z => by omega)]
    exact ⟨fun z => Or.inr z, fun z => z.resolve_left e⟩
theorem mk_I {σ : sT} {x r : Nat} {b : Int32} {k i j : Nat} (h : ¬ (i = x ∧ (k = 8 ∨ k = 9))) : (cmk σ x r b).1 k i j = σ.1 k i j := by
  unfold cmk
  dsimp only
  rw [if_neg, if_neg]
  · exact fun z => h ⟨z.2.1, Or.inl z.1⟩
  · rintro ⟨z1, z2 | z2⟩
    · exact h ⟨z1, Or.inl z2.1⟩
    · exact h ⟨z1, Or.inr z2⟩
theorem mk_P {σ : sT} {x r : Nat} {b : Int32} {k i j : Nat} (h : ¬ (i = x ∧ k = 8)) (h1 : ¬ k = 1) : (cmk σ x r b).2.1 k i j = σ.2.1 k i j := by
  unfold cmk
  dsimp only
  rw [if_neg (fun z => h1 z.1), if_neg (fun z => h ⟨z.2, z.1⟩)]
theorem mk_n {σ : sT} {x r : Nat} {b : Int32} {y : Nat} (h : y ≠ x) : (cmk σ x r b).2.1 1 0 y = σ.2.1 1 0 y := by
  unfold cmk
  dsimp only
  rw [if_neg (fun z => h z.2.2), if_neg (fun z => by omega)]
theorem rb_make {L : Nat → List Nat} {n : Nat} {σ τ : sT} (h : RB L n σ τ) {x r : Nat} {b : Int32} (hx : x < 32) (hn : ¬ Mk σ x) (hr : r < 8) (hb : b = nI (r + 1)) : RB L n (cmk σ x r b) (sI (sI τ 11 0 x 1) 12 0 x b) := by
  obtain ⟨⟨h1, h2, h3, h4, ⟨h5, h6, h7, h8, h9⟩, h10, h11, w, c, h12, h13, h14, h15, h16⟩, hE, hW, ⟨r1, r2, r3, t, r4, r5, r6⟩, hU⟩ := h
  have hne : ∀ y, Mk σ y → y ≠ x := fun y hy e => hn (e ▸ hy)
  have hT : ∀ k i j, ¬ k = 11 → ¬ k = 12 → (sI (sI τ 11 0 x 1) 12 0 x b).1 k i j = τ.1 k i j := fun k i j z1 z2 => by rw [sI_ne (fun z => z2 z.1), sI_ne (fun z => z1 z.1)]
  refine ⟨⟨fun y hy => ?_, fun y hy => ?_, fun y hy j hj => ?_, fun y hy => ?_, ⟨?_, ?_, ?_, ?_, h9⟩, ?_, ?_, w, c, ?_, h13, ?_, h15, fun j hj => ?_⟩, fun s hs => ?_, ⟨?_, ?_⟩, ⟨fun y hy => ?_, fun q hq => ?_, fun y hy => ?_, t, r4, r5, r6⟩, fun y hy hk => ?_⟩
  · by_cases e : y = x
    · subst e
      exact Or.inl ⟨(Mk_mk hx).mpr (Or.inl rfl), by rw [sI_ne (by omega), sI_eq]; decide⟩
    · rw [sI_ne (by omega), sI_ne (by omega), mk_n e]
      rcases h1 y hy with z | z
      · exact Or.inl ⟨(Mk_mk hx).mpr (Or.inr z.1), z.2⟩
      · exact Or.inr z
  · by_cases e : y = x
    · subst e
      have e1 : (cmk σ y r b).1 8 y 1 = b := by simp [cmk]
      have e2 : lev (cmk σ y r b) y = r := by simp [lev, cmk]
      rw [sI_eq, e1, e2]
      exact ⟨rfl, hb, hr⟩
    · have e2 : lev (cmk σ x r b) y = lev σ y := by unfold lev; rw [mk_P (by omega) (by omega)]
      rw [sI_ne (by omega), sI_ne (by omega), mk_I (by omega), e2]
      exact h2 y (((Mk_mk hx).mp hy).resolve_left e)
  · rw [hT _ _ _ (by omega) (by omega)]
    by_cases e : y = x
    · subst e
      have e1 : (cmk σ y r b).1 9 y j = 0 := by simp [cmk]
      rw [e1]
      exact ⟨fun _ => (h3 y hy j hj).2 hn, fun _ => (h3 y hy j hj).2 hn⟩
    · rw [mk_I (by omega)]
      exact ⟨fun z => (h3 y hy j hj).1 (((Mk_mk hx).mp z).resolve_left e), fun z => (h3 y hy j hj).2 (fun q => z ((Mk_mk hx).mpr (Or.inr q)))⟩
  · rw [hT _ _ _ (by omega) (by omega)]
    by_cases e : y = x
    · subst e
      have e1 : (cmk σ y r b).1 8 y 4 = 0 := by simp [cmk]
      rw [e1]
      exact ⟨fun _ => (h4 y hy).2 hn, fun _ => (h4 y hy).2 hn⟩
    · rw [mk_I (by omega)]
      exact ⟨fun z => (h4 y hy).1 (((Mk_mk hx).mp z).resolve_left e), fun z => (h4 y hy).2 (fun q => z ((Mk_mk hx).mpr (Or.inr q)))⟩
  · rw [hT _ _ _ (by omega) (by omega), mk_P (by omega) (by omega)]; exact h5
  · rw [hT _ _ _ (by omega) (by omega), mk_P (by omega) (by omega)]; exact h6
  · rw [hT _ _ _ (by omega) (by omega), mk_I (by omega)]; exact h7
  · rw [hT _ _ _ (by omega) (by omega), mk_I (by omega)]; exact h8
  · rw [hT _ _ _ (by omega) (by omega), mk_I (by omega)]; exact h10
  · rw [hT _ _ _ (by omega) (by omega), mk_I (by omega)]; exact h11
  · rw [mk_I (by omega)]; exact h12
  · rw [mk_I (by omega)]; exact h14
  · rw [hT _ _ _ (by omega) (by omega), mk_I (by omega)]; exact h16 j hj
  · rw [hT _ _ _ (by omega) (by omega), mk_I (by omega)]; exact hE s hs
  · rw [hT _ _ _ (by omega) (by omega), mk_I (by omega)]; exact hW.1
  · rw [hT _ _ _ (by omega) (by omega), mk_I (by omega), mk_P (by omega) (by omega)]; exact hW.2
  · rw [hT _ _ _ (by omega) (by omega)]
    by_cases e : y = x
    · subst e
      have e1 : (cmk σ y r b).1 8 y 5 = 0 := by simp [cmk]
      rw [e1]; exact hU y hx hn
    · rw [mk_I (by omega)]; exact r1 y (((Mk_mk hx).mp hy).resolve_left e)
  · obtain ⟨a1, a2, a3, a4⟩ := r2 q hq
    refine ⟨by rw [mk_P (by omega) (by omega), mk_P (by omega) (by omega)]; exact a1, lk_congr (σ := σ) (fun y hy => ?_) a2, fun y hy => ⟨(Mk_mk hx).mpr (Or.inr (a3 y hy).1), ?_⟩, a4⟩
    · have := hne y (a3 y hy).1
      rw [mk_P (by omega) (by omega)]
    · have := hne y (a3 y hy).1
      rw [mk_I (by omega)]; exact (a3 y hy).2
  · by_cases e : y = x
    · subst e
      exact Or.inl ⟨by simp [cmk], by simp [cmk]⟩
    · rw [mk_I (by omega), mk_P (by omega) (by omega)]
      exact r3 y (((Mk_mk hx).mp hy).resolve_left e)
  · rw [hT _ _ _ (by omega) (by omega)]
    exact hU y hy (fun q => hk ((Mk_mk hx).mpr (Or.inr q)))
theorem ok_make {lv : Nat → Nat → Prop} {σ : sT} (h : OKs σ lv) {x r : Nat} {b : Int32} (hx : x < 32) (hr : r < 8) : OKs (cmk σ x r b) (jlv (jlv lv 8 x) 9 x) := by
  obtain ⟨⟨a1, a2, a3⟩, h2, h3, h4, h5, h6, h7, h8⟩ := h
  have up : ∀ {k i}, lv k i → jlv (jlv lv 8 x) 9 x k i := fun q => Or.inl (Or.inl q)
  have mk : ∀ {y}, Mk σ y → Mk (cmk σ x r b) y := fun q => (Mk_mk hx).mpr (Or.inr q)
  refine ⟨⟨fun k hk => up (a1 k hk), fun r hr => up (a2 r hr), fun s hs => up (a3 s hs)⟩, fun y hy => ?_, fun y z hy hz => ?_, fun y hy => ?_, fun y z hy hz => ?_, fun q y hq => ⟨fun hy => ?_, fun hy => ?_⟩, fun y => ⟨fun hy => ?_, fun hy => ?_⟩, fun y => ⟨fun hy => ?_, fun hy => ?_⟩⟩
  · rcases (Mk_mk hx).mp hy with rfl | z
    · exact ⟨Or.inl (Or.inr ⟨rfl, rfl⟩), Or.inr ⟨rfl, rfl⟩⟩
    · exact ⟨up (h2 y z).1, up (h2 y z).2⟩
  · by_cases e : y = x
    · subst e
      simp [cmk] at hz
      exact hz.symm
    · rw [mk_n e] at hz; exact h3 y z hy hz
  · rcases (Mk_mk hx).mp hy with rfl | z
    · exact ⟨r, hr, by simp [cmk]⟩
    · by_cases e : y = x
      · subst e
        exact ⟨r, hr, by simp [cmk]⟩
      · obtain ⟨v, hv, ev⟩ := h4 y z
        exact ⟨v, hv, by rw [mk_P (by omega) (by omega)]; exact ev⟩
  · by_cases e : y = x
    · subst e
      simp [cmk] at hz
    · rw [mk_P (by omega) (by omega)] at hz
      exact mk (h5 y z (((Mk_mk hx).mp hy).resolve_left e) hz)
  · rw [mk_P (by omega) (by omega)] at hy; exact mk ((h6 q y hq).1 hy)
  · rw [mk_P (by omega) (by omega)] at hy; exact mk ((h6 q y hq).2 hy)
  · rw [mk_P (by omega) (by omega)] at hy; exact mk ((h7 y).1 hy)
  · rw [mk_P (by omega) (by omega)] at hy; exact mk ((h7 y).2 hy)
  · rw [mk_P (by omega) (by omega)] at hy; exact (h8 y).1 hy
  · rw [mk_P (by omega) (by omega)] at hy; exact (h8 y).2 hy
theorem f_make_no {lv : Nat → Nat → Prop} {c : Nat} {σ τ : sT} (h : Inv lv c σ τ) {a b : Int32} (hc : ¬ mkOK σ a b) : d_make τ a b = (0, τ) := by
  obtain ⟨L, hs⟩ := h.1
  unfold d_make
  by_cases q0 : a < 0
  · rw [if_pos q0]
  · rw [if_neg q0]
    by_cases q1 : 32 ≤ a
    · rw [if_pos q1]
    · rw [if_neg q1]
      have hx : a.toNatClampNeg < 32 := by rw [i32_lt, i32_0] at q0; rw [i32_le, i32_32] at q1; rw [toN]; omega
      by_cases q2 : τ.1 11 0 a.toNatClampNeg = 0
      · rw [if_pos q2]
        by_cases q3 : b < 1
        · rw [if_pos q3]
        · rw [if_neg q3]
          by_cases q4 : b ≤ 8
          · rcases hs.1.1.1 _ hx with z | z
            · exact absurd q2 z.2
            · exact absurd ⟨q0, q1, z.1, q3, q4⟩ hc
          · rw [if_neg q4]
      · rw [if_neg q2]
theorem f_make_yes {lv : Nat → Nat → Prop} {c : Nat} {σ τ : sT} (h : Inv lv c σ τ) {a b : Int32} (hc : mkOK σ a b) : (d_make τ a b).1 = 1 ∧ Inv (jlv (jlv lv 8 a.toNatClampNeg) 9 a.toNatClampNeg) (c + 1) (cmk σ a.toNatClampNeg (b - 1).toNatClampNeg b) (d_make τ a b).2 ∧ ¬ lv 8 a.toNatClampNeg ∧ ¬ lv 9 a.toNatClampNeg ∧ a.toNatClampNeg < 32 := by
  obtain ⟨L, hs⟩ := h.1
  obtain ⟨q0, q1, q2, q3, q4⟩ := hc
  have hx : a.toNatClampNeg < 32 := by rw [i32_lt, i32_0] at q0; rw [i32_le, i32_32] at q1; rw [toN]; omega
  have hn : ¬ Mk σ a.toNatClampNeg := fun z => by rw [z.2] at q2; cases q2
  have h11 : τ.1 11 0 a.toNatClampNeg = 0 := by
    rcases hs.1.1.1 _ hx with z | z
    · exact absurd z.1 hn
    · exact z.2
  have hf := h.2.2.2.2 _ hx hn
  rw [i32_lt, show (1 : Int32).toInt = 1 from rfl] at q3
  have q4' := q4
  rw [i32_le, i32_8] at q4'
  have es := i32_dec (x := b) (by omega)
  have hr : (b - 1).toNatClampNeg < 8 := by rw [toN, es]; omega
  have hb : b = nI ((b - 1).toNatClampNeg + 1) := by
    rw [toN, es, show (b.toInt - 1).toNat + 1 = b.toInt.toNat by omega]
    exact Int32.toInt_inj.mp (by rw [nI_toInt (by omega)]; omega)
  have ed : d_make τ a b = (1, sI (sI τ 11 0 a.toNatClampNeg 1) 12 0 a.toNatClampNeg b) := by
    unfold d_make
    rw [if_neg q0, if_neg q1, if_pos h11, if_neg (show ¬ b < 1 by rw [i32_lt, show (1 : Int32).toInt = 1 from rfl]; exact q3), if_pos q4]
  rw [ed]
  generalize a.toNatClampNeg = x at hx hn h11 hf ⊢
  generalize (b - 1).toNatClampNeg = r at hr hb ⊢
  have up : ∀ {k i}, lv k i → jlv (jlv lv 8 x) 9 x k i := fun q => Or.inl (Or.inl q)
  have okm := (h.2.2.1.o (k := 11) (i := 0) (j := x) (x := 1) (by omega) (by omega)).o (k := 12) (i := 0) (j := x) (x := b) (by omega) (by omega)
  refine ⟨rfl, ⟨⟨L, Sim.mono ⟨rb_make hs.1 hx hn hr hb, ?_, fun y hy => ?_⟩ (by omega)⟩, ok_make h.2.1 hx hr, (show OKm _ _ _ from ⟨fun k k1 k2 => up (okm.1 k k1 k2), okm.2⟩ : OKm _ _ (1000 * c : Nat)).mono (by omega), ?_, fun y hy hk => ?_⟩, hf.1, hf.2, hx⟩
  · show _ = _
    rw [sI_ne (by omega), sI_ne (by omega), mk_P (by omega) (by omega)]; exact hs.2.1
  · have ep : cf_pres (cmk σ x r b) = cf_pres σ := pres_congr (mk_I (by omega)) (mk_P (by omega) (by omega)) (mk_P (by omega) (by omega))
    rw [ep] at hy
    have hyk := pres_ok h.2.1 hy
    have hne : y ≠ x := fun e => hn (e ▸ hyk)
    rw [mk_I (by omega)]; exact hs.2.2 y hy
  · rw [sI_ne (by omega), sI_ne (by omega), sI_ne (by omega), sI_ne (by omega)]; exact h.2.2.2.1
  · have hne : y ≠ x := fun e => hk ((Mk_mk hx).mpr (Or.inl e))
    have hk2 := h.2.2.2.2 y hy (fun q => hk ((Mk_mk hx).mpr (Or.inr q)))
    refine ⟨?_, ?_⟩
    · rintro ((z | z) | z)
      · exact hk2.1 z
      · exact hne z.2
      · exact hne z.2
    · rintro ((z | z) | z)
      · exact hk2.2 z
      · exact hne z.2
      · exact hne z.2
/-- a new room and a new reference -/
def σz : sT := (fun _ _ _ => 0, fun _ _ _ => none, fun _ _ _ => 0)
def τz : sT := (fun k i j => if k = 10 ∧ i = 0 ∧ (j = 8 ∨ j = 10 ∨ j = 14 ∨ j = 15) then -1 else 0, fun _ _ _ => none, fun _ _ _ => 0)
theorem inv_0 {lv : Nat → Nat → Prop} (h1 : ∀ k, k < 6 → lv k 0) (h2 : ∀ r, r < 24 → lv 6 r) (h3 : ∀ s, s < 16 → lv 7 s) (h4 : ∀ k, 10 ≤ k → k < 20 → lv k 0) (h5 : ∀ x, ¬ lv 8 x ∧ ¬ lv 9 x) : Inv lv 0 σz τz := by
  have hn : ∀ x, ¬ Mk σz x := fun x z => by have := z.2; cases this
  refine ⟨⟨fun _ => [], ⟨⟨fun x hx => Or.inr ⟨rfl, by simp [τz]⟩, fun x hx => absurd hx (hn x), fun x hx j hj => ⟨fun z => absurd z (hn x), fun _ => by simp [τz]⟩, fun x hx => ⟨fun z => absurd z (hn x), fun _ => by simp [τz]⟩, ⟨by simp [τz, σz, cf_num], by simp [τz, σz, cf_num], by simp [τz, σz], by simp [τz, σz], rfl⟩, by simp [τz, σz], by simp [τz, σz], 0, 0, rfl, by omega, rfl, by omega, fun j hj => by omega⟩, fun s hs => by simp [τz, σz], ⟨by simp [τz, σz], fun z => absurd rfl z⟩, ⟨fun x hx => absurd hx (hn x), fun r hr => ⟨⟨rfl, rfl⟩, trivial, (fun x hx => by cases hx), List.Pairwise.nil⟩, fun x hx => absurd hx (hn x), 0, Nat.zero_le _, rfl, fun r hr x hx => by cases hx⟩, fun x hx _ => by simp [τz]⟩, by show _ = _; simp [τz, σz, cf_num], fun x hx => by simp [cf_pres, σz] at hx⟩, ⟨⟨h1, h2, h3⟩, fun x hx => absurd hx (hn x), (fun x y hx hy => by cases hy), fun x hx => absurd hx (hn x), fun x y hx => absurd hx (hn x), (fun r y hr => ⟨(fun q => by cases q), fun q => by cases q⟩), (fun y => ⟨(fun q => by cases q), fun q => by cases q⟩), (fun y => ⟨(fun q => by cases q), fun q => by cases q⟩)⟩, ⟨h4, by simp [τz], by simp [τz], by simp [τz], by simp [τz], by simp [τz], by simp [τz], fun p hp => by simp [τz]⟩, by simp [τz], fun x _ _ => h5 x⟩
end
