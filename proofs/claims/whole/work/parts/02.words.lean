/-! the words that methods may rest on: those of lw_tbl that a call keeps -/
def jT : List Cond := lw_tbl.filter goodWord
theorem jT_in {n : Nat} {w : Cond} (h : lw_tbl[n]? = some w) (hg : goodWord w = true) : w ∈ jT := List.mem_filter.mpr ⟨List.mem_of_getElem? h, hg⟩
theorem jT_tbl {w : Cond} (h : w ∈ jT) : w ∈ lw_tbl := (List.mem_filter.mp h).1
theorem jT_good : ∀ w ∈ jT, goodWord w = true := fun _ h => (List.mem_filter.mp h).2
def T_P : u_T := fun k => match k with
  | 0 => ("InputRoom$Proc", "number", "I", true)
  | 1 => ("InputRoom$Proc", "priority", "I", true)
  | 2 => ("InputRoom$Proc", "ready", "LInputRoom$Row;", true)
  | 3 => ("InputRoom$Proc", "acts", "[I", true)
  | 4 => ("InputRoom$Proc", "codesDone", "I", false)
  | 5 => ("InputRoom$Proc", "rowNumber", "I", false)
  | _ => ("InputRoom$Proc", "behind", "LInputRoom$Proc;", false)
def ty_P : Nat → FieldType := fun k => match k with
  | 0 => .int
  | 1 => .int
  | 2 => (.object "InputRoom$Row")
  | 3 => (.array .int)
  | 4 => .int
  | 5 => .int
  | _ => (.object "InputRoom$Proc")
theorem nm_P : ∀ a, a < 7 → ∀ b, b < 7 → a ≠ b → (T_P a).2.1 ≠ (T_P b).2.1 := by decide +kernel
theorem tk_P : ∀ k, k < 7 → parseFieldDescriptor (T_P k).2.2.1 = some (ty_P k) := by decide +kernel
def T_R : u_T := fun k => match k with
  | 0 => ("InputRoom$Row", "rowNumber", "I", true)
  | 1 => ("InputRoom$Row", "first", "LInputRoom$Proc;", false)
  | _ => ("InputRoom$Row", "last", "LInputRoom$Proc;", false)
def ty_R : Nat → FieldType := fun k => match k with
  | 0 => .int
  | 1 => (.object "InputRoom$Proc")
  | _ => (.object "InputRoom$Proc")
theorem nm_R : ∀ a, a < 3 → ∀ b, b < 3 → a ≠ b → (T_R a).2.1 ≠ (T_R b).2.1 := by decide +kernel
theorem tk_R : ∀ k, k < 3 → parseFieldDescriptor (T_R k).2.2.1 = some (ty_R k) := by decide +kernel
def T_S : u_T := fun k => match k with
  | 0 => ("InputRoom$Semaphore", "number", "I", true)
  | 1 => ("InputRoom$Semaphore", "waiting", "LInputRoom$Row;", true)
  | _ => ("InputRoom$Semaphore", "extraSignals", "I", false)
def ty_S : Nat → FieldType := fun k => match k with
  | 0 => .int
  | 1 => (.object "InputRoom$Row")
  | _ => .int
theorem nm_S : ∀ a, a < 3 → ∀ b, b < 3 → a ≠ b → (T_S a).2.1 ≠ (T_S b).2.1 := by decide +kernel
theorem tk_S : ∀ k, k < 3 → parseFieldDescriptor (T_S k).2.2.1 = some (ty_S k) := by decide +kernel
def T_W : u_T := fun k => match k with
  | 0 => ("InputRoom$Words", "ring", "[I", true)
  | 1 => ("InputRoom$Words", "start", "I", false)
  | 2 => ("InputRoom$Words", "count", "I", false)
  | _ => ("InputRoom$Words", "untold", "I", false)
def ty_W : Nat → FieldType := fun k => match k with
  | 0 => (.array .int)
  | 1 => .int
  | 2 => .int
  | _ => .int
theorem nm_W : ∀ a, a < 4 → ∀ b, b < 4 → a ≠ b → (T_W a).2.1 ≠ (T_W b).2.1 := by decide +kernel
theorem tk_W : ∀ k, k < 4 → parseFieldDescriptor (T_W k).2.2.1 = some (ty_W k) := by decide +kernel
def T_X : u_T := fun k => match k with
  | 0 => ("InputRoom", "processes", "[LInputRoom$Proc;", true)
  | 1 => ("InputRoom", "readyRows", "[LInputRoom$Row;", true)
  | 2 => ("InputRoom", "semaphores", "[LInputRoom$Semaphore;", true)
  | 3 => ("InputRoom", "words", "LInputRoom$Words;", true)
  | 4 => ("InputRoom", "active", "LInputRoom$Proc;", false)
  | 5 => ("InputRoom", "changeWanted", "Z", false)
  | 6 => ("InputRoom", "wantedOne", "LInputRoom$Proc;", false)
  | 7 => ("InputRoom", "clock", "I", false)
  | 8 => ("InputRoom", "codes", "J", false)
  | 9 => ("InputRoom", "input", "LInputRoom$Semaphore;", false)
  | 10 => ("InputRoom", "alarmed", "LInputRoom$Semaphore;", false)
  | _ => ("InputRoom", "alarmTick", "I", false)
def ty_X : Nat → FieldType := fun k => match k with
  | 0 => (.array (.object "InputRoom$Proc"))
  | 1 => (.array (.object "InputRoom$Row"))
  | 2 => (.array (.object "InputRoom$Semaphore"))
  | 3 => (.object "InputRoom$Words")
  | 4 => (.object "InputRoom$Proc")
  | 5 => .boolean
  | 6 => (.object "InputRoom$Proc")
  | 7 => .int
  | 8 => .long
  | 9 => (.object "InputRoom$Semaphore")
  | 10 => (.object "InputRoom$Semaphore")
  | _ => .int
theorem nm_X : ∀ a, a < 12 → ∀ b, b < 12 → a ≠ b → (T_X a).2.1 ≠ (T_X b).2.1 := by decide +kernel
theorem tk_X : ∀ k, k < 12 → parseFieldDescriptor (T_X k).2.2.1 = some (ty_X k) := by decide +kernel
def T_M : u_T := fun k => match k with
  | 0 => ("InputRoomModel", "made", "[Z", true)
  | 1 => ("InputRoomModel", "priorities", "[I", true)
  | 2 => ("InputRoomModel", "plans", "[I", true)
  | 3 => ("InputRoomModel", "done", "[I", true)
  | 4 => ("InputRoomModel", "rows", "[I", true)
  | 5 => ("InputRoomModel", "hours", "[J", true)
  | 6 => ("InputRoomModel", "hour", "J", false)
  | 7 => ("InputRoomModel", "extra", "[I", true)
  | 8 => ("InputRoomModel", "active", "I", false)
  | 9 => ("InputRoomModel", "wanted", "Z", false)
  | 10 => ("InputRoomModel", "wantedOne", "I", false)
  | 11 => ("InputRoomModel", "words", "[I", true)
  | 12 => ("InputRoomModel", "count", "I", false)
  | 13 => ("InputRoomModel", "news", "I", false)
  | 14 => ("InputRoomModel", "input", "I", false)
  | 15 => ("InputRoomModel", "alarm", "I", false)
  | 16 => ("InputRoomModel", "tick", "I", false)
  | 17 => ("InputRoomModel", "clock", "I", false)
  | 18 => ("InputRoomModel", "codes", "J", false)
  | 19 => ("InputRoomModel", "posted", "[I", true)
  | _ => ("InputRoomModel", "posts", "I", false)
def ty_M : Nat → FieldType := fun k => match k with
  | 0 => (.array .boolean)
  | 1 => (.array .int)
  | 2 => (.array .int)
  | 3 => (.array .int)
  | 4 => (.array .int)
  | 5 => (.array .long)
  | 6 => .long
  | 7 => (.array .int)
  | 8 => .int
  | 9 => .boolean
  | 10 => .int
  | 11 => (.array .int)
  | 12 => .int
  | 13 => .int
  | 14 => .int
  | 15 => .int
  | 16 => .int
  | 17 => .int
  | 18 => .long
  | 19 => (.array .int)
  | _ => .int
theorem nm_M : ∀ a, a < 21 → ∀ b, b < 21 → a ≠ b → (T_M a).2.1 ≠ (T_M b).2.1 := by decide +kernel
theorem tk_M : ∀ k, k < 21 → parseFieldDescriptor (T_M k).2.2.1 = some (ty_M k) := by decide +kernel
abbrev jcl : List vw_C := [("InputRoom$Proc", T_P, 7), ("InputRoom$Row", T_R, 3), ("InputRoom$Semaphore", T_S, 3), ("InputRoom$Words", T_W, 4), ("InputRoom", T_X, 12), ("InputRoomModel", T_M, 21)]
theorem t_0 : (Cond.selects "InputRoom" ⟨"InputRoom", "processNumbered", "(I)LInputRoom$Proc;"⟩ ⟨"InputRoom", "processNumbered", "(I)LInputRoom$Proc;"⟩) ∈ jT := jT_in (n := 0) rfl rfl
theorem t_1 : (Cond.selects "InputRoom" ⟨"InputRoom", "presentOne", "()LInputRoom$Proc;"⟩ ⟨"InputRoom", "presentOne", "()LInputRoom$Proc;"⟩) ∈ jT := jT_in (n := 1) rfl rfl
theorem t_2 : (Cond.selects "InputRoom" ⟨"InputRoom", "wakeUp", "(LInputRoom$Proc;)V"⟩ ⟨"InputRoom", "wakeUp", "(LInputRoom$Proc;)V"⟩) ∈ jT := jT_in (n := 2) rfl rfl
theorem t_3 : (Cond.selects "InputRoom" ⟨"InputRoom", "wantChangeTo", "(LInputRoom$Proc;)V"⟩ ⟨"InputRoom", "wantChangeTo", "(LInputRoom$Proc;)V"⟩) ∈ jT := jT_in (n := 3) rfl rfl
theorem t_4 : (Cond.selects "InputRoom" ⟨"InputRoom", "putPresentAside", "()V"⟩ ⟨"InputRoom", "putPresentAside", "()V"⟩) ∈ jT := jT_in (n := 4) rfl rfl
theorem t_5 : (Cond.selects "InputRoom" ⟨"InputRoom", "signalOnce", "(LInputRoom$Semaphore;)V"⟩ ⟨"InputRoom", "signalOnce", "(LInputRoom$Semaphore;)V"⟩) ∈ jT := jT_in (n := 5) rfl rfl
theorem t_6 : (Cond.selects "InputRoom" ⟨"InputRoom", "setAlarm", "(LInputRoom$Semaphore;I)V"⟩ ⟨"InputRoom", "setAlarm", "(LInputRoom$Semaphore;I)V"⟩) ∈ jT := jT_in (n := 6) rfl rfl
theorem t_7 : (Cond.selects "InputRoom$Words" ⟨"InputRoom$Words", "place", "(I)I"⟩ ⟨"InputRoom$Words", "place", "(I)I"⟩) ∈ jT := jT_in (n := 7) rfl rfl
theorem t_8 : (Cond.selects "InputRoom" ⟨"InputRoom", "doBehind", "()V"⟩ ⟨"InputRoom", "doBehind", "()V"⟩) ∈ jT := jT_in (n := 8) rfl rfl
theorem t_9 : (Cond.selects "InputRoom" ⟨"InputRoom", "settle", "()V"⟩ ⟨"InputRoom", "settle", "()V"⟩) ∈ jT := jT_in (n := 9) rfl rfl
theorem t_10 : (Cond.selects "InputRoom" ⟨"InputRoom", "signalNewWords", "()V"⟩ ⟨"InputRoom", "signalNewWords", "()V"⟩) ∈ jT := jT_in (n := 10) rfl rfl
theorem t_11 : (Cond.selects "InputRoom" ⟨"InputRoom", "signalDueAlarm", "()V"⟩ ⟨"InputRoom", "signalDueAlarm", "()V"⟩) ∈ jT := jT_in (n := 11) rfl rfl
theorem t_12 : (Cond.selects "InputRoom" ⟨"InputRoom", "doCode", "(LInputRoom$Proc;)V"⟩ ⟨"InputRoom", "doCode", "(LInputRoom$Proc;)V"⟩) ∈ jT := jT_in (n := 12) rfl rfl
theorem t_13 : (Cond.selects "InputRoom" ⟨"InputRoom", "doAct", "(I)V"⟩ ⟨"InputRoom", "doAct", "(I)V"⟩) ∈ jT := jT_in (n := 13) rfl rfl
theorem t_14 : (Cond.selects "InputRoom" ⟨"InputRoom", "waitFor", "(LInputRoom$Semaphore;)V"⟩ ⟨"InputRoom", "waitFor", "(LInputRoom$Semaphore;)V"⟩) ∈ jT := jT_in (n := 14) rfl rfl
theorem t_15 : (Cond.selects "InputRoom" ⟨"InputRoom", "giveWay", "()V"⟩ ⟨"InputRoom", "giveWay", "()V"⟩) ∈ jT := jT_in (n := 15) rfl rfl
theorem t_16 : (Cond.selects "InputRoomModel" ⟨"InputRoomModel", "behind", "()V"⟩ ⟨"InputRoomModel", "behind", "()V"⟩) ∈ jT := jT_in (n := 16) rfl rfl
theorem t_17 : (Cond.selects "InputRoomModel" ⟨"InputRoomModel", "post", "(I)V"⟩ ⟨"InputRoomModel", "post", "(I)V"⟩) ∈ jT := jT_in (n := 17) rfl rfl
theorem t_18 : (Cond.selects "InputRoomModel" ⟨"InputRoomModel", "signal0", "(I)V"⟩ ⟨"InputRoomModel", "signal0", "(I)V"⟩) ∈ jT := jT_in (n := 18) rfl rfl
theorem t_19 : (Cond.selects "InputRoomModel" ⟨"InputRoomModel", "first", "(I)I"⟩ ⟨"InputRoomModel", "first", "(I)I"⟩) ∈ jT := jT_in (n := 19) rfl rfl
theorem t_20 : (Cond.selects "InputRoomModel" ⟨"InputRoomModel", "rouse", "(I)V"⟩ ⟨"InputRoomModel", "rouse", "(I)V"⟩) ∈ jT := jT_in (n := 20) rfl rfl
theorem t_21 : (Cond.selects "InputRoomModel" ⟨"InputRoomModel", "present0", "()I"⟩ ⟨"InputRoomModel", "present0", "()I"⟩) ∈ jT := jT_in (n := 21) rfl rfl
theorem t_22 : (Cond.selects "InputRoomModel" ⟨"InputRoomModel", "come", "(II)V"⟩ ⟨"InputRoomModel", "come", "(II)V"⟩) ∈ jT := jT_in (n := 22) rfl rfl
theorem t_23 : (Cond.selects "InputRoomModel" ⟨"InputRoomModel", "want", "(I)V"⟩ ⟨"InputRoomModel", "want", "(I)V"⟩) ∈ jT := jT_in (n := 23) rfl rfl
theorem t_24 : (Cond.selects "InputRoomModel" ⟨"InputRoomModel", "act", "(I)V"⟩ ⟨"InputRoomModel", "act", "(I)V"⟩) ∈ jT := jT_in (n := 24) rfl rfl
theorem t_25 : (Cond.selects "InputRoomModel" ⟨"InputRoomModel", "await0", "(I)V"⟩ ⟨"InputRoomModel", "await0", "(I)V"⟩) ∈ jT := jT_in (n := 25) rfl rfl
theorem t_26 : (Cond.selects "InputRoomModel" ⟨"InputRoomModel", "putAside", "()V"⟩ ⟨"InputRoomModel", "putAside", "()V"⟩) ∈ jT := jT_in (n := 26) rfl rfl
theorem t_27 : (Cond.selects "InputRoomModel" ⟨"InputRoomModel", "giveWay", "()V"⟩ ⟨"InputRoomModel", "giveWay", "()V"⟩) ∈ jT := jT_in (n := 27) rfl rfl
theorem t_28 : (Cond.selects "InputRoomModel" ⟨"InputRoomModel", "dropWord", "()V"⟩ ⟨"InputRoomModel", "dropWord", "()V"⟩) ∈ jT := jT_in (n := 28) rfl rfl
theorem t_29 : (Cond.selects "InputRoomModel" ⟨"InputRoomModel", "isMade", "(I)Z"⟩ ⟨"InputRoomModel", "isMade", "(I)Z"⟩) ∈ jT := jT_in (n := 29) rfl rfl
theorem t_30 : (Jvm.Cond.initialized "InputRoomLaw") ∈ jT := jT_in (n := 30) rfl rfl
theorem t_31 : (Jvm.Cond.initialized "InputRoom") ∈ jT := jT_in (n := 31) rfl rfl
theorem t_32 : (Jvm.Cond.initialized "InputRoom$Words") ∈ jT := jT_in (n := 32) rfl rfl
theorem t_33 : (Jvm.Cond.initialized "InputRoom$Row") ∈ jT := jT_in (n := 33) rfl rfl
theorem t_34 : (Jvm.Cond.initialized "InputRoom$Semaphore") ∈ jT := jT_in (n := 34) rfl rfl
theorem t_35 : (Jvm.Cond.initialized "InputRoomModel") ∈ jT := jT_in (n := 35) rfl rfl
theorem t_36 : (Jvm.Cond.initialized "InputRoom$Proc") ∈ jT := jT_in (n := 36) rfl rfl
theorem t_37 : (Jvm.Cond.initialized "java/lang/Math") ∈ jT := jT_in (n := 37) rfl rfl
theorem t_38 : (Jvm.Cond.classLink "InputRoomLaw" (7 : Nat) "InputRoom") ∈ jT := jT_in (n := 38) rfl rfl
theorem t_39 : (Jvm.Cond.instantiable "InputRoom" (12 : Nat)) ∈ jT := jT_in (n := 39) rfl rfl
theorem t_40 : (Jvm.Cond.methodLink "InputRoomLaw" (9 : Nat) ({ cls := "InputRoom", name := "<init>", desc := "()V" } : Jvm.MethodName)) ∈ jT := jT_in (n := 40) rfl rfl
theorem t_41 : (Jvm.Cond.instanceMethod ({ cls := "InputRoom", name := "<init>", desc := "()V" } : Jvm.MethodName)) ∈ jT := jT_in (n := 41) rfl rfl
theorem t_42 : (Jvm.Cond.code ({ cls := "InputRoom", name := "<init>", desc := "()V" } : Jvm.MethodName) prog_1_method_1_code (2 : Nat) (Option.none : Option Jvm.ClassFile.FieldType)) ∈ jT := jT_in (n := 42) rfl rfl
theorem t_43 : (Jvm.Cond.methodLink "InputRoom" (1 : Nat) ({ cls := "java/lang/Object", name := "<init>", desc := "()V" } : Jvm.MethodName)) ∈ jT := jT_in (n := 43) rfl rfl
theorem t_44 : (Jvm.Cond.instanceMethod ({ cls := "java/lang/Object", name := "<init>", desc := "()V" } : Jvm.MethodName)) ∈ jT := jT_in (n := 44) rfl rfl
theorem t_45 : (Jvm.Cond.code ({ cls := "java/lang/Object", name := "<init>", desc := "()V" } : Jvm.MethodName) object_method_1_code (1 : Nat) (Option.none : Option Jvm.ClassFile.FieldType)) ∈ jT := jT_in (n := 45) rfl rfl
theorem t_46 : (Jvm.Cond.classLink "InputRoom" (9 : Nat) "InputRoom$Proc") ∈ jT := jT_in (n := 46) rfl rfl
theorem t_48 : (Jvm.Cond.classLink "InputRoom" (15 : Nat) "InputRoom$Row") ∈ jT := jT_in (n := 48) rfl rfl
theorem t_50 : (Jvm.Cond.classLink "InputRoom" (21 : Nat) "InputRoom$Semaphore") ∈ jT := jT_in (n := 50) rfl rfl
theorem t_52 : (Jvm.Cond.classLink "InputRoom" (27 : Nat) "InputRoom$Words") ∈ jT := jT_in (n := 52) rfl rfl
theorem t_53 : (Jvm.Cond.instantiable "InputRoom$Words" (4 : Nat)) ∈ jT := jT_in (n := 53) rfl rfl
theorem t_55 : (Jvm.Cond.instanceMethod ({ cls := "InputRoom$Words", name := "<init>", desc := "()V" } : Jvm.MethodName)) ∈ jT := jT_in (n := 55) rfl rfl
theorem t_56 : (Jvm.Cond.code ({ cls := "InputRoom$Words", name := "<init>", desc := "()V" } : Jvm.MethodName) prog_5_method_1_code (1 : Nat) (Option.none : Option Jvm.ClassFile.FieldType)) ∈ jT := jT_in (n := 56) rfl rfl
theorem t_57 : (Jvm.Cond.methodLink "InputRoom$Words" (3 : Nat) ({ cls := "java/lang/Object", name := "<init>", desc := "()V" } : Jvm.MethodName)) ∈ jT := jT_in (n := 57) rfl rfl
theorem t_58 : (Jvm.Cond.fieldLink "InputRoom$Words" (9 : Nat) "InputRoom$Words" "ring" "[I") ∈ jT := jT_in (n := 58) rfl rfl
theorem t_59 : (Jvm.Cond.fieldLink "InputRoom$Words" (26 : Nat) "InputRoom$Words" "start" "I") ∈ jT := jT_in (n := 59) rfl rfl
theorem t_60 : (Jvm.Cond.fieldLink "InputRoom$Words" (15 : Nat) "InputRoom$Words" "count" "I") ∈ jT := jT_in (n := 60) rfl rfl
theorem t_61 : (Jvm.Cond.fieldLink "InputRoom$Words" (23 : Nat) "InputRoom$Words" "untold" "I") ∈ jT := jT_in (n := 61) rfl rfl
theorem t_62 : (Jvm.Cond.laysFinal "InputRoom$Words" "InputRoom$Words" "ring" "[I") ∈ jT := jT_in (n := 62) rfl rfl
theorem t_64 : (Jvm.Cond.lays "InputRoom$Words" "InputRoom$Words" "start" "I") ∈ jT := jT_in (n := 64) rfl rfl
theorem t_66 : (Jvm.Cond.lays "InputRoom$Words" "InputRoom$Words" "count" "I") ∈ jT := jT_in (n := 66) rfl rfl
theorem t_68 : (Jvm.Cond.lays "InputRoom$Words" "InputRoom$Words" "untold" "I") ∈ jT := jT_in (n := 68) rfl rfl
theorem t_71 : (Jvm.Cond.arrayClass Jvm.ClassFile.FieldType.int) ∈ jT := jT_in (n := 71) rfl rfl
theorem t_72 : (Jvm.Cond.instantiable "InputRoom$Row" (3 : Nat)) ∈ jT := jT_in (n := 72) rfl rfl
theorem t_73 : (Jvm.Cond.methodLink "InputRoom" (34 : Nat) ({ cls := "InputRoom$Row", name := "<init>", desc := "(I)V" } : Jvm.MethodName)) ∈ jT := jT_in (n := 73) rfl rfl
theorem t_74 : (Jvm.Cond.instanceMethod ({ cls := "InputRoom$Row", name := "<init>", desc := "(I)V" } : Jvm.MethodName)) ∈ jT := jT_in (n := 74) rfl rfl
theorem t_75 : (Jvm.Cond.code ({ cls := "InputRoom$Row", name := "<init>", desc := "(I)V" } : Jvm.MethodName) prog_3_method_1_code (2 : Nat) (Option.none : Option Jvm.ClassFile.FieldType)) ∈ jT := jT_in (n := 75) rfl rfl
theorem t_76 : (Jvm.Cond.methodLink "InputRoom$Row" (3 : Nat) ({ cls := "java/lang/Object", name := "<init>", desc := "()V" } : Jvm.MethodName)) ∈ jT := jT_in (n := 76) rfl rfl
theorem t_77 : (Jvm.Cond.fieldLink "InputRoom$Row" (9 : Nat) "InputRoom$Row" "rowNumber" "I") ∈ jT := jT_in (n := 77) rfl rfl
theorem t_78 : (Jvm.Cond.fieldLink "InputRoom$Row" (15 : Nat) "InputRoom$Row" "first" "LInputRoom$Proc;") ∈ jT := jT_in (n := 78) rfl rfl
theorem t_79 : (Jvm.Cond.fieldLink "InputRoom$Row" (22 : Nat) "InputRoom$Row" "last" "LInputRoom$Proc;") ∈ jT := jT_in (n := 79) rfl rfl
theorem t_80 : (Jvm.Cond.laysFinal "InputRoom$Row" "InputRoom$Row" "rowNumber" "I") ∈ jT := jT_in (n := 80) rfl rfl
theorem t_82 : (Jvm.Cond.lays "InputRoom$Row" "InputRoom$Row" "first" "LInputRoom$Proc;") ∈ jT := jT_in (n := 82) rfl rfl
theorem t_84 : (Jvm.Cond.lays "InputRoom$Row" "InputRoom$Row" "last" "LInputRoom$Proc;") ∈ jT := jT_in (n := 84) rfl rfl
theorem t_87 : (Jvm.Cond.instantiable "InputRoom$Semaphore" (3 : Nat)) ∈ jT := jT_in (n := 87) rfl rfl
theorem t_88 : (Jvm.Cond.methodLink "InputRoom" (37 : Nat) ({ cls := "InputRoom$Semaphore", name := "<init>", desc := "(I)V" } : Jvm.MethodName)) ∈ jT := jT_in (n := 88) rfl rfl
theorem t_89 : (Jvm.Cond.instanceMethod ({ cls := "InputRoom$Semaphore", name := "<init>", desc := "(I)V" } : Jvm.MethodName)) ∈ jT := jT_in (n := 89) rfl rfl
theorem t_90 : (Jvm.Cond.code ({ cls := "InputRoom$Semaphore", name := "<init>", desc := "(I)V" } : Jvm.MethodName) prog_4_method_1_code (2 : Nat) (Option.none : Option Jvm.ClassFile.FieldType)) ∈ jT := jT_in (n := 90) rfl rfl
theorem t_91 : (Jvm.Cond.methodLink "InputRoom$Semaphore" (3 : Nat) ({ cls := "java/lang/Object", name := "<init>", desc := "()V" } : Jvm.MethodName)) ∈ jT := jT_in (n := 91) rfl rfl
theorem t_92 : (Jvm.Cond.classLink "InputRoom$Semaphore" (15 : Nat) "InputRoom$Row") ∈ jT := jT_in (n := 92) rfl rfl
theorem t_93 : (Jvm.Cond.methodLink "InputRoom$Semaphore" (17 : Nat) ({ cls := "InputRoom$Row", name := "<init>", desc := "(I)V" } : Jvm.MethodName)) ∈ jT := jT_in (n := 93) rfl rfl
theorem t_94 : (Jvm.Cond.fieldLink "InputRoom$Semaphore" (9 : Nat) "InputRoom$Semaphore" "number" "I") ∈ jT := jT_in (n := 94) rfl rfl
theorem t_95 : (Jvm.Cond.fieldLink "InputRoom" (129 : Nat) "InputRoom$Semaphore" "number" "I") ∈ jT := jT_in (n := 95) rfl rfl
theorem t_96 : (Jvm.Cond.fieldLink "InputRoom$Semaphore" (20 : Nat) "InputRoom$Semaphore" "waiting" "LInputRoom$Row;") ∈ jT := jT_in (n := 96) rfl rfl
theorem t_97 : (Jvm.Cond.fieldLink "InputRoom" (119 : Nat) "InputRoom$Semaphore" "waiting" "LInputRoom$Row;") ∈ jT := jT_in (n := 97) rfl rfl
theorem t_98 : (Jvm.Cond.fieldLink "InputRoom" (123 : Nat) "InputRoom$Semaphore" "extraSignals" "I") ∈ jT := jT_in (n := 98) rfl rfl
theorem t_99 : (Jvm.Cond.laysFinal "InputRoom$Semaphore" "InputRoom$Semaphore" "number" "I") ∈ jT := jT_in (n := 99) rfl rfl
theorem t_101 : (Jvm.Cond.laysFinal "InputRoom$Semaphore" "InputRoom$Semaphore" "waiting" "LInputRoom$Row;") ∈ jT := jT_in (n := 101) rfl rfl
theorem t_103 : (Jvm.Cond.lays "InputRoom$Semaphore" "InputRoom$Semaphore" "extraSignals" "I") ∈ jT := jT_in (n := 103) rfl rfl
theorem t_106 : (Jvm.Cond.fieldLink "InputRoom" (11 : Nat) "InputRoom" "processes" "[LInputRoom$Proc;") ∈ jT := jT_in (n := 106) rfl rfl
theorem t_107 : (Jvm.Cond.fieldLink "InputRoom" (17 : Nat) "InputRoom" "readyRows" "[LInputRoom$Row;") ∈ jT := jT_in (n := 107) rfl rfl
theorem t_108 : (Jvm.Cond.fieldLink "InputRoom" (23 : Nat) "InputRoom" "semaphores" "[LInputRoom$Semaphore;") ∈ jT := jT_in (n := 108) rfl rfl
theorem t_109 : (Jvm.Cond.fieldLink "InputRoom" (30 : Nat) "InputRoom" "words" "LInputRoom$Words;") ∈ jT := jT_in (n := 109) rfl rfl
theorem t_110 : (Jvm.Cond.fieldLink "InputRoom" (53 : Nat) "InputRoom" "active" "LInputRoom$Proc;") ∈ jT := jT_in (n := 110) rfl rfl
theorem t_111 : (Jvm.Cond.fieldLink "InputRoom" (133 : Nat) "InputRoom" "changeWanted" "Z") ∈ jT := jT_in (n := 111) rfl rfl
theorem t_112 : (Jvm.Cond.fieldLink "InputRoom" (137 : Nat) "InputRoom" "wantedOne" "LInputRoom$Proc;") ∈ jT := jT_in (n := 112) rfl rfl
theorem t_113 : (Jvm.Cond.fieldLink "InputRoom" (106 : Nat) "InputRoom" "clock" "I") ∈ jT := jT_in (n := 113) rfl rfl
theorem t_114 : (Jvm.Cond.fieldLink "InputRoom" (109 : Nat) "InputRoom" "codes" "J") ∈ jT := jT_in (n := 114) rfl rfl
theorem t_115 : (Jvm.Cond.fieldLink "InputRoom" (79 : Nat) "InputRoom" "input" "LInputRoom$Semaphore;") ∈ jT := jT_in (n := 115) rfl rfl
theorem t_116 : (Jvm.Cond.fieldLink "InputRoom" (83 : Nat) "InputRoom" "alarmed" "LInputRoom$Semaphore;") ∈ jT := jT_in (n := 116) rfl rfl
theorem t_117 : (Jvm.Cond.fieldLink "InputRoom" (130 : Nat) "InputRoom" "alarmTick" "I") ∈ jT := jT_in (n := 117) rfl rfl
theorem t_118 : (Jvm.Cond.laysFinal "InputRoom" "InputRoom" "processes" "[LInputRoom$Proc;") ∈ jT := jT_in (n := 118) rfl rfl
theorem t_120 : (Jvm.Cond.laysFinal "InputRoom" "InputRoom" "readyRows" "[LInputRoom$Row;") ∈ jT := jT_in (n := 120) rfl rfl
theorem t_122 : (Jvm.Cond.laysFinal "InputRoom" "InputRoom" "semaphores" "[LInputRoom$Semaphore;") ∈ jT := jT_in (n := 122) rfl rfl
theorem t_124 : (Jvm.Cond.laysFinal "InputRoom" "InputRoom" "words" "LInputRoom$Words;") ∈ jT := jT_in (n := 124) rfl rfl
theorem t_126 : (Jvm.Cond.lays "InputRoom" "InputRoom" "active" "LInputRoom$Proc;") ∈ jT := jT_in (n := 126) rfl rfl
theorem t_128 : (Jvm.Cond.lays "InputRoom" "InputRoom" "changeWanted" "Z") ∈ jT := jT_in (n := 128) rfl rfl
theorem t_130 : (Jvm.Cond.lays "InputRoom" "InputRoom" "wantedOne" "LInputRoom$Proc;") ∈ jT := jT_in (n := 130) rfl rfl
theorem t_132 : (Jvm.Cond.lays "InputRoom" "InputRoom" "clock" "I") ∈ jT := jT_in (n := 132) rfl rfl
theorem t_134 : (Jvm.Cond.lays "InputRoom" "InputRoom" "codes" "J") ∈ jT := jT_in (n := 134) rfl rfl
theorem t_136 : (Jvm.Cond.lays "InputRoom" "InputRoom" "input" "LInputRoom$Semaphore;") ∈ jT := jT_in (n := 136) rfl rfl
theorem t_138 : (Jvm.Cond.lays "InputRoom" "InputRoom" "alarmed" "LInputRoom$Semaphore;") ∈ jT := jT_in (n := 138) rfl rfl
theorem t_140 : (Jvm.Cond.lays "InputRoom" "InputRoom" "alarmTick" "I") ∈ jT := jT_in (n := 140) rfl rfl
theorem t_143 : (Jvm.Cond.methodLink "InputRoomLaw" (13 : Nat) ({ cls := "InputRoom", name := "make", desc := "(II)Z" } : Jvm.MethodName)) ∈ jT := jT_in (n := 143) rfl rfl
theorem t_144 : (Jvm.Cond.instanceMethod ({ cls := "InputRoom", name := "make", desc := "(II)Z" } : Jvm.MethodName)) ∈ jT := jT_in (n := 144) rfl rfl
theorem t_145 : (Jvm.Cond.selects "InputRoom" ({ cls := "InputRoom", name := "make", desc := "(II)Z" } : Jvm.MethodName) ({ cls := "InputRoom", name := "make", desc := "(II)Z" } : Jvm.MethodName)) ∈ jT := jT_in (n := 145) rfl rfl
theorem t_146 : (Jvm.Cond.code ({ cls := "InputRoom", name := "make", desc := "(II)Z" } : Jvm.MethodName) prog_1_method_2_code (3 : Nat) (Option.some Jvm.ClassFile.FieldType.boolean)) ∈ jT := jT_in (n := 146) rfl rfl
theorem t_147 : (Jvm.Cond.instantiable "InputRoom$Proc" (7 : Nat)) ∈ jT := jT_in (n := 147) rfl rfl
theorem t_148 : (Jvm.Cond.methodLink "InputRoom" (38 : Nat) ({ cls := "InputRoom$Proc", name := "<init>", desc := "(IILInputRoom$Row;)V" } : Jvm.MethodName)) ∈ jT := jT_in (n := 148) rfl rfl
theorem t_149 : (Jvm.Cond.instanceMethod ({ cls := "InputRoom$Proc", name := "<init>", desc := "(IILInputRoom$Row;)V" } : Jvm.MethodName)) ∈ jT := jT_in (n := 149) rfl rfl
theorem t_150 : (Jvm.Cond.code ({ cls := "InputRoom$Proc", name := "<init>", desc := "(IILInputRoom$Row;)V" } : Jvm.MethodName) prog_2_method_1_code (4 : Nat) (Option.none : Option Jvm.ClassFile.FieldType)) ∈ jT := jT_in (n := 150) rfl rfl
theorem t_151 : (Jvm.Cond.methodLink "InputRoom$Proc" (3 : Nat) ({ cls := "java/lang/Object", name := "<init>", desc := "()V" } : Jvm.MethodName)) ∈ jT := jT_in (n := 151) rfl rfl
theorem t_152 : (Jvm.Cond.fieldLink "InputRoom$Proc" (19 : Nat) "InputRoom$Proc" "number" "I") ∈ jT := jT_in (n := 152) rfl rfl
theorem t_153 : (Jvm.Cond.fieldLink "InputRoom" (68 : Nat) "InputRoom$Proc" "number" "I") ∈ jT := jT_in (n := 153) rfl rfl
theorem t_154 : (Jvm.Cond.fieldLink "InputRoom$Proc" (22 : Nat) "InputRoom$Proc" "priority" "I") ∈ jT := jT_in (n := 154) rfl rfl
theorem t_155 : (Jvm.Cond.fieldLink "InputRoom" (140 : Nat) "InputRoom$Proc" "priority" "I") ∈ jT := jT_in (n := 155) rfl rfl
theorem t_156 : (Jvm.Cond.fieldLink "InputRoom$Proc" (25 : Nat) "InputRoom$Proc" "ready" "LInputRoom$Row;") ∈ jT := jT_in (n := 156) rfl rfl
theorem t_157 : (Jvm.Cond.fieldLink "InputRoom" (143 : Nat) "InputRoom$Proc" "ready" "LInputRoom$Row;") ∈ jT := jT_in (n := 157) rfl rfl
theorem t_158 : (Jvm.Cond.fieldLink "InputRoom$Proc" (9 : Nat) "InputRoom$Proc" "acts" "[I") ∈ jT := jT_in (n := 158) rfl rfl
theorem t_159 : (Jvm.Cond.fieldLink "InputRoom" (45 : Nat) "InputRoom$Proc" "acts" "[I") ∈ jT := jT_in (n := 159) rfl rfl
theorem t_160 : (Jvm.Cond.fieldLink "InputRoom$Proc" (29 : Nat) "InputRoom$Proc" "codesDone" "I") ∈ jT := jT_in (n := 160) rfl rfl
theorem t_161 : (Jvm.Cond.fieldLink "InputRoom" (113 : Nat) "InputRoom$Proc" "codesDone" "I") ∈ jT := jT_in (n := 161) rfl rfl
theorem t_162 : (Jvm.Cond.fieldLink "InputRoom$Proc" (15 : Nat) "InputRoom$Proc" "rowNumber" "I") ∈ jT := jT_in (n := 162) rfl rfl
theorem t_163 : (Jvm.Cond.fieldLink "InputRoom$Row" (19 : Nat) "InputRoom$Proc" "rowNumber" "I") ∈ jT := jT_in (n := 163) rfl rfl
theorem t_164 : (Jvm.Cond.fieldLink "InputRoom" (49 : Nat) "InputRoom$Proc" "rowNumber" "I") ∈ jT := jT_in (n := 164) rfl rfl
theorem t_165 : (Jvm.Cond.fieldLink "InputRoom$Row" (25 : Nat) "InputRoom$Proc" "behind" "LInputRoom$Proc;") ∈ jT := jT_in (n := 165) rfl rfl
theorem t_166 : (Jvm.Cond.laysFinal "InputRoom$Proc" "InputRoom$Proc" "number" "I") ∈ jT := jT_in (n := 166) rfl rfl
theorem t_168 : (Jvm.Cond.laysFinal "InputRoom$Proc" "InputRoom$Proc" "priority" "I") ∈ jT := jT_in (n := 168) rfl rfl
theorem t_170 : (Jvm.Cond.laysFinal "InputRoom$Proc" "InputRoom$Proc" "ready" "LInputRoom$Row;") ∈ jT := jT_in (n := 170) rfl rfl
theorem t_172 : (Jvm.Cond.laysFinal "InputRoom$Proc" "InputRoom$Proc" "acts" "[I") ∈ jT := jT_in (n := 172) rfl rfl
theorem t_174 : (Jvm.Cond.lays "InputRoom$Proc" "InputRoom$Proc" "codesDone" "I") ∈ jT := jT_in (n := 174) rfl rfl
theorem t_176 : (Jvm.Cond.lays "InputRoom$Proc" "InputRoom$Proc" "rowNumber" "I") ∈ jT := jT_in (n := 176) rfl rfl
theorem t_178 : (Jvm.Cond.lays "InputRoom$Proc" "InputRoom$Proc" "behind" "LInputRoom$Proc;") ∈ jT := jT_in (n := 178) rfl rfl
theorem t_181 : (Jvm.Cond.methodLink "InputRoomLaw" (18 : Nat) ({ cls := "InputRoom", name := "plan", desc := "(III)I" } : Jvm.MethodName)) ∈ jT := jT_in (n := 181) rfl rfl
theorem t_182 : (Jvm.Cond.instanceMethod ({ cls := "InputRoom", name := "plan", desc := "(III)I" } : Jvm.MethodName)) ∈ jT := jT_in (n := 182) rfl rfl
theorem t_183 : (Jvm.Cond.selects "InputRoom" ({ cls := "InputRoom", name := "plan", desc := "(III)I" } : Jvm.MethodName) ({ cls := "InputRoom", name := "plan", desc := "(III)I" } : Jvm.MethodName)) ∈ jT := jT_in (n := 183) rfl rfl
theorem t_184 : (Jvm.Cond.code ({ cls := "InputRoom", name := "plan", desc := "(III)I" } : Jvm.MethodName) prog_1_method_3_code (6 : Nat) (Option.some Jvm.ClassFile.FieldType.int)) ∈ jT := jT_in (n := 184) rfl rfl
theorem t_185 : (Jvm.Cond.methodLink "InputRoom" (41 : Nat) ({ cls := "InputRoom", name := "processNumbered", desc := "(I)LInputRoom$Proc;" } : Jvm.MethodName)) ∈ jT := jT_in (n := 185) rfl rfl
theorem t_187 : (Jvm.Cond.instanceMethod ({ cls := "InputRoom", name := "processNumbered", desc := "(I)LInputRoom$Proc;" } : Jvm.MethodName)) ∈ jT := jT_in (n := 187) rfl rfl
theorem t_188 : (Jvm.Cond.code ({ cls := "InputRoom", name := "processNumbered", desc := "(I)LInputRoom$Proc;" } : Jvm.MethodName) prog_1_method_24_code (2 : Nat) (Option.some (Jvm.ClassFile.FieldType.object "InputRoom$Proc"))) ∈ jT := jT_in (n := 188) rfl rfl
theorem t_189 : (Jvm.Cond.methodLink "InputRoomLaw" (23 : Nat) ({ cls := "InputRoom", name := "wake", desc := "(I)Z" } : Jvm.MethodName)) ∈ jT := jT_in (n := 189) rfl rfl
theorem t_190 : (Jvm.Cond.instanceMethod ({ cls := "InputRoom", name := "wake", desc := "(I)Z" } : Jvm.MethodName)) ∈ jT := jT_in (n := 190) rfl rfl
theorem t_191 : (Jvm.Cond.selects "InputRoom" ({ cls := "InputRoom", name := "wake", desc := "(I)Z" } : Jvm.MethodName) ({ cls := "InputRoom", name := "wake", desc := "(I)Z" } : Jvm.MethodName)) ∈ jT := jT_in (n := 191) rfl rfl
theorem t_192 : (Jvm.Cond.code ({ cls := "InputRoom", name := "wake", desc := "(I)Z" } : Jvm.MethodName) prog_1_method_4_code (3 : Nat) (Option.some Jvm.ClassFile.FieldType.boolean)) ∈ jT := jT_in (n := 192) rfl rfl
theorem t_193 : (Jvm.Cond.methodLink "InputRoom" (57 : Nat) ({ cls := "InputRoom", name := "presentOne", desc := "()LInputRoom$Proc;" } : Jvm.MethodName)) ∈ jT := jT_in (n := 193) rfl rfl
theorem t_195 : (Jvm.Cond.instanceMethod ({ cls := "InputRoom", name := "presentOne", desc := "()LInputRoom$Proc;" } : Jvm.MethodName)) ∈ jT := jT_in (n := 195) rfl rfl
theorem t_196 : (Jvm.Cond.code ({ cls := "InputRoom", name := "presentOne", desc := "()LInputRoom$Proc;" } : Jvm.MethodName) prog_1_method_25_code (1 : Nat) (Option.some (Jvm.ClassFile.FieldType.object "InputRoom$Proc"))) ∈ jT := jT_in (n := 196) rfl rfl
theorem t_197 : (Jvm.Cond.methodLink "InputRoom" (61 : Nat) ({ cls := "InputRoom", name := "wakeUp", desc := "(LInputRoom$Proc;)V" } : Jvm.MethodName)) ∈ jT := jT_in (n := 197) rfl rfl
theorem t_199 : (Jvm.Cond.instanceMethod ({ cls := "InputRoom", name := "wakeUp", desc := "(LInputRoom$Proc;)V" } : Jvm.MethodName)) ∈ jT := jT_in (n := 199) rfl rfl
theorem t_200 : (Jvm.Cond.code ({ cls := "InputRoom", name := "wakeUp", desc := "(LInputRoom$Proc;)V" } : Jvm.MethodName) prog_1_method_27_code (3 : Nat) (Option.none : Option Jvm.ClassFile.FieldType)) ∈ jT := jT_in (n := 200) rfl rfl
theorem t_201 : (Jvm.Cond.methodLink "InputRoom" (146 : Nat) ({ cls := "InputRoom$Row", name := "append", desc := "(LInputRoom$Proc;)V" } : Jvm.MethodName)) ∈ jT := jT_in (n := 201) rfl rfl
theorem t_202 : (Jvm.Cond.instanceMethod ({ cls := "InputRoom$Row", name := "append", desc := "(LInputRoom$Proc;)V" } : Jvm.MethodName)) ∈ jT := jT_in (n := 202) rfl rfl
theorem t_203 : (Jvm.Cond.selects "InputRoom$Row" ({ cls := "InputRoom$Row", name := "append", desc := "(LInputRoom$Proc;)V" } : Jvm.MethodName) ({ cls := "InputRoom$Row", name := "append", desc := "(LInputRoom$Proc;)V" } : Jvm.MethodName)) ∈ jT := jT_in (n := 203) rfl rfl
theorem t_204 : (Jvm.Cond.code ({ cls := "InputRoom$Row", name := "append", desc := "(LInputRoom$Proc;)V" } : Jvm.MethodName) prog_3_method_3_code (2 : Nat) (Option.none : Option Jvm.ClassFile.FieldType)) ∈ jT := jT_in (n := 204) rfl rfl
theorem t_205 : (Jvm.Cond.methodLink "InputRoom" (149 : Nat) ({ cls := "InputRoom", name := "wantChangeTo", desc := "(LInputRoom$Proc;)V" } : Jvm.MethodName)) ∈ jT := jT_in (n := 205) rfl rfl
theorem t_207 : (Jvm.Cond.instanceMethod ({ cls := "InputRoom", name := "wantChangeTo", desc := "(LInputRoom$Proc;)V" } : Jvm.MethodName)) ∈ jT := jT_in (n := 207) rfl rfl
theorem t_208 : (Jvm.Cond.code ({ cls := "InputRoom", name := "wantChangeTo", desc := "(LInputRoom$Proc;)V" } : Jvm.MethodName) prog_1_method_26_code (2 : Nat) (Option.none : Option Jvm.ClassFile.FieldType)) ∈ jT := jT_in (n := 208) rfl rfl
theorem t_209 : (Jvm.Cond.methodLink "InputRoomLaw" (28 : Nat) ({ cls := "InputRoom", name := "suspend", desc := "()I" } : Jvm.MethodName)) ∈ jT := jT_in (n := 209) rfl rfl
theorem t_210 : (Jvm.Cond.instanceMethod ({ cls := "InputRoom", name := "suspend", desc := "()I" } : Jvm.MethodName)) ∈ jT := jT_in (n := 210) rfl rfl
theorem t_211 : (Jvm.Cond.selects "InputRoom" ({ cls := "InputRoom", name := "suspend", desc := "()I" } : Jvm.MethodName) ({ cls := "InputRoom", name := "suspend", desc := "()I" } : Jvm.MethodName)) ∈ jT := jT_in (n := 211) rfl rfl
theorem t_212 : (Jvm.Cond.code ({ cls := "InputRoom", name := "suspend", desc := "()I" } : Jvm.MethodName) prog_1_method_5_code (2 : Nat) (Option.some Jvm.ClassFile.FieldType.int)) ∈ jT := jT_in (n := 212) rfl rfl
theorem t_213 : (Jvm.Cond.methodLink "InputRoom" (65 : Nat) ({ cls := "InputRoom", name := "putPresentAside", desc := "()V" } : Jvm.MethodName)) ∈ jT := jT_in (n := 213) rfl rfl
theorem t_215 : (Jvm.Cond.instanceMethod ({ cls := "InputRoom", name := "putPresentAside", desc := "()V" } : Jvm.MethodName)) ∈ jT := jT_in (n := 215) rfl rfl
theorem t_216 : (Jvm.Cond.code ({ cls := "InputRoom", name := "putPresentAside", desc := "()V" } : Jvm.MethodName) prog_1_method_28_code (3 : Nat) (Option.none : Option Jvm.ClassFile.FieldType)) ∈ jT := jT_in (n := 216) rfl rfl
theorem t_217 : (Jvm.Cond.methodLink "InputRoom" (152 : Nat) ({ cls := "InputRoom$Row", name := "takeFirst", desc := "()LInputRoom$Proc;" } : Jvm.MethodName)) ∈ jT := jT_in (n := 217) rfl rfl
theorem t_218 : (Jvm.Cond.instanceMethod ({ cls := "InputRoom$Row", name := "takeFirst", desc := "()LInputRoom$Proc;" } : Jvm.MethodName)) ∈ jT := jT_in (n := 218) rfl rfl
theorem t_219 : (Jvm.Cond.selects "InputRoom$Row" ({ cls := "InputRoom$Row", name := "takeFirst", desc := "()LInputRoom$Proc;" } : Jvm.MethodName) ({ cls := "InputRoom$Row", name := "takeFirst", desc := "()LInputRoom$Proc;" } : Jvm.MethodName)) ∈ jT := jT_in (n := 219) rfl rfl
theorem t_220 : (Jvm.Cond.code ({ cls := "InputRoom$Row", name := "takeFirst", desc := "()LInputRoom$Proc;" } : Jvm.MethodName) prog_3_method_4_code (2 : Nat) (Option.some (Jvm.ClassFile.FieldType.object "InputRoom$Proc"))) ∈ jT := jT_in (n := 220) rfl rfl
theorem t_221 : (Jvm.Cond.methodLink "InputRoomLaw" (33 : Nat) ({ cls := "InputRoom", name := "signal", desc := "(I)Z" } : Jvm.MethodName)) ∈ jT := jT_in (n := 221) rfl rfl
theorem t_222 : (Jvm.Cond.instanceMethod ({ cls := "InputRoom", name := "signal", desc := "(I)Z" } : Jvm.MethodName)) ∈ jT := jT_in (n := 222) rfl rfl
theorem t_223 : (Jvm.Cond.selects "InputRoom" ({ cls := "InputRoom", name := "signal", desc := "(I)Z" } : Jvm.MethodName) ({ cls := "InputRoom", name := "signal", desc := "(I)Z" } : Jvm.MethodName)) ∈ jT := jT_in (n := 223) rfl rfl
theorem t_224 : (Jvm.Cond.code ({ cls := "InputRoom", name := "signal", desc := "(I)Z" } : Jvm.MethodName) prog_1_method_6_code (2 : Nat) (Option.some Jvm.ClassFile.FieldType.boolean)) ∈ jT := jT_in (n := 224) rfl rfl
theorem t_225 : (Jvm.Cond.methodLink "InputRoom" (71 : Nat) ({ cls := "InputRoom", name := "isSemaphore", desc := "(I)Z" } : Jvm.MethodName)) ∈ jT := jT_in (n := 225) rfl rfl
theorem t_226 : (Jvm.Cond.static ({ cls := "InputRoom", name := "isSemaphore", desc := "(I)Z" } : Jvm.MethodName)) ∈ jT := jT_in (n := 226) rfl rfl
theorem t_227 : (Jvm.Cond.code ({ cls := "InputRoom", name := "isSemaphore", desc := "(I)Z" } : Jvm.MethodName) prog_1_method_22_code (1 : Nat) (Option.some Jvm.ClassFile.FieldType.boolean)) ∈ jT := jT_in (n := 227) rfl rfl
theorem t_228 : (Jvm.Cond.methodLink "InputRoom" (75 : Nat) ({ cls := "InputRoom", name := "signalOnce", desc := "(LInputRoom$Semaphore;)V" } : Jvm.MethodName)) ∈ jT := jT_in (n := 228) rfl rfl
theorem t_230 : (Jvm.Cond.instanceMethod ({ cls := "InputRoom", name := "signalOnce", desc := "(LInputRoom$Semaphore;)V" } : Jvm.MethodName)) ∈ jT := jT_in (n := 230) rfl rfl
theorem t_231 : (Jvm.Cond.code ({ cls := "InputRoom", name := "signalOnce", desc := "(LInputRoom$Semaphore;)V" } : Jvm.MethodName) prog_1_method_29_code (3 : Nat) (Option.none : Option Jvm.ClassFile.FieldType)) ∈ jT := jT_in (n := 231) rfl rfl
theorem t_232 : (Jvm.Cond.methodLink "InputRoomLaw" (37 : Nat) ({ cls := "InputRoom", name := "listen", desc := "(I)Z" } : Jvm.MethodName)) ∈ jT := jT_in (n := 232) rfl rfl
theorem t_233 : (Jvm.Cond.instanceMethod ({ cls := "InputRoom", name := "listen", desc := "(I)Z" } : Jvm.MethodName)) ∈ jT := jT_in (n := 233) rfl rfl
theorem t_234 : (Jvm.Cond.selects "InputRoom" ({ cls := "InputRoom", name := "listen", desc := "(I)Z" } : Jvm.MethodName) ({ cls := "InputRoom", name := "listen", desc := "(I)Z" } : Jvm.MethodName)) ∈ jT := jT_in (n := 234) rfl rfl
theorem t_235 : (Jvm.Cond.code ({ cls := "InputRoom", name := "listen", desc := "(I)Z" } : Jvm.MethodName) prog_1_method_7_code (2 : Nat) (Option.some Jvm.ClassFile.FieldType.boolean)) ∈ jT := jT_in (n := 235) rfl rfl
theorem t_236 : (Jvm.Cond.methodLink "InputRoomLaw" (41 : Nat) ({ cls := "InputRoom", name := "alarm", desc := "(II)Z" } : Jvm.MethodName)) ∈ jT := jT_in (n := 236) rfl rfl
theorem t_237 : (Jvm.Cond.instanceMethod ({ cls := "InputRoom", name := "alarm", desc := "(II)Z" } : Jvm.MethodName)) ∈ jT := jT_in (n := 237) rfl rfl
theorem t_238 : (Jvm.Cond.selects "InputRoom" ({ cls := "InputRoom", name := "alarm", desc := "(II)Z" } : Jvm.MethodName) ({ cls := "InputRoom", name := "alarm", desc := "(II)Z" } : Jvm.MethodName)) ∈ jT := jT_in (n := 238) rfl rfl
theorem t_239 : (Jvm.Cond.code ({ cls := "InputRoom", name := "alarm", desc := "(II)Z" } : Jvm.MethodName) prog_1_method_8_code (3 : Nat) (Option.some Jvm.ClassFile.FieldType.boolean)) ∈ jT := jT_in (n := 239) rfl rfl
theorem t_240 : (Jvm.Cond.constant "InputRoom" (86 : Nat) (1000000 : Int32)) ∈ jT := jT_in (n := 240) rfl rfl
theorem t_241 : (Jvm.Cond.methodLink "InputRoom" (87 : Nat) ({ cls := "InputRoom", name := "setAlarm", desc := "(LInputRoom$Semaphore;I)V" } : Jvm.MethodName)) ∈ jT := jT_in (n := 241) rfl rfl
theorem t_243 : (Jvm.Cond.instanceMethod ({ cls := "InputRoom", name := "setAlarm", desc := "(LInputRoom$Semaphore;I)V" } : Jvm.MethodName)) ∈ jT := jT_in (n := 243) rfl rfl
theorem t_244 : (Jvm.Cond.code ({ cls := "InputRoom", name := "setAlarm", desc := "(LInputRoom$Semaphore;I)V" } : Jvm.MethodName) prog_1_method_32_code (3 : Nat) (Option.none : Option Jvm.ClassFile.FieldType)) ∈ jT := jT_in (n := 244) rfl rfl
theorem t_245 : (Jvm.Cond.methodLink "InputRoomLaw" (45 : Nat) ({ cls := "InputRoom", name := "word", desc := "(I)I" } : Jvm.MethodName)) ∈ jT := jT_in (n := 245) rfl rfl
theorem t_246 : (Jvm.Cond.instanceMethod ({ cls := "InputRoom", name := "word", desc := "(I)I" } : Jvm.MethodName)) ∈ jT := jT_in (n := 246) rfl rfl
theorem t_247 : (Jvm.Cond.selects "InputRoom" ({ cls := "InputRoom", name := "word", desc := "(I)I" } : Jvm.MethodName) ({ cls := "InputRoom", name := "word", desc := "(I)I" } : Jvm.MethodName)) ∈ jT := jT_in (n := 247) rfl rfl
theorem t_248 : (Jvm.Cond.code ({ cls := "InputRoom", name := "word", desc := "(I)I" } : Jvm.MethodName) prog_1_method_9_code (2 : Nat) (Option.some Jvm.ClassFile.FieldType.int)) ∈ jT := jT_in (n := 248) rfl rfl
theorem t_249 : (Jvm.Cond.constant "InputRoom" (91 : Nat) (65535 : Int32)) ∈ jT := jT_in (n := 249) rfl rfl
theorem t_250 : (Jvm.Cond.methodLink "InputRoom" (92 : Nat) ({ cls := "InputRoom$Words", name := "add", desc := "(I)I" } : Jvm.MethodName)) ∈ jT := jT_in (n := 250) rfl rfl
theorem t_251 : (Jvm.Cond.instanceMethod ({ cls := "InputRoom$Words", name := "add", desc := "(I)I" } : Jvm.MethodName)) ∈ jT := jT_in (n := 251) rfl rfl
theorem t_252 : (Jvm.Cond.selects "InputRoom$Words" ({ cls := "InputRoom$Words", name := "add", desc := "(I)I" } : Jvm.MethodName) ({ cls := "InputRoom$Words", name := "add", desc := "(I)I" } : Jvm.MethodName)) ∈ jT := jT_in (n := 252) rfl rfl
theorem t_253 : (Jvm.Cond.code ({ cls := "InputRoom$Words", name := "add", desc := "(I)I" } : Jvm.MethodName) prog_5_method_2_code (2 : Nat) (Option.some Jvm.ClassFile.FieldType.int)) ∈ jT := jT_in (n := 253) rfl rfl
theorem t_254 : (Jvm.Cond.methodLink "InputRoom$Words" (19 : Nat) ({ cls := "InputRoom$Words", name := "place", desc := "(I)I" } : Jvm.MethodName)) ∈ jT := jT_in (n := 254) rfl rfl
theorem t_256 : (Jvm.Cond.instanceMethod ({ cls := "InputRoom$Words", name := "place", desc := "(I)I" } : Jvm.MethodName)) ∈ jT := jT_in (n := 256) rfl rfl
theorem t_257 : (Jvm.Cond.code ({ cls := "InputRoom$Words", name := "place", desc := "(I)I" } : Jvm.MethodName) prog_5_method_6_code (2 : Nat) (Option.some Jvm.ClassFile.FieldType.int)) ∈ jT := jT_in (n := 257) rfl rfl
theorem t_258 : (Jvm.Cond.methodLink "InputRoom$Words" (29 : Nat) ({ cls := "java/lang/Math", name := "floorMod", desc := "(II)I" } : Jvm.MethodName)) ∈ jT := jT_in (n := 258) rfl rfl
theorem t_259 : (Jvm.Cond.static ({ cls := "java/lang/Math", name := "floorMod", desc := "(II)I" } : Jvm.MethodName)) ∈ jT := jT_in (n := 259) rfl rfl
theorem t_260 : (Jvm.Cond.code ({ cls := "java/lang/Math", name := "floorMod", desc := "(II)I" } : Jvm.MethodName) prog_8_method_50_code (3 : Nat) (Option.some Jvm.ClassFile.FieldType.int)) ∈ jT := jT_in (n := 260) rfl rfl
theorem t_261 : (Jvm.Cond.methodLink "InputRoomLaw" (50 : Nat) ({ cls := "InputRoom", name := "run", desc := "(I)I" } : Jvm.MethodName)) ∈ jT := jT_in (n := 261) rfl rfl
theorem t_262 : (Jvm.Cond.instanceMethod ({ cls := "InputRoom", name := "run", desc := "(I)I" } : Jvm.MethodName)) ∈ jT := jT_in (n := 262) rfl rfl
theorem t_263 : (Jvm.Cond.selects "InputRoom" ({ cls := "InputRoom", name := "run", desc := "(I)I" } : Jvm.MethodName) ({ cls := "InputRoom", name := "run", desc := "(I)I" } : Jvm.MethodName)) ∈ jT := jT_in (n := 263) rfl rfl
theorem t_264 : (Jvm.Cond.code ({ cls := "InputRoom", name := "run", desc := "(I)I" } : Jvm.MethodName) prog_1_method_10_code (3 : Nat) (Option.some Jvm.ClassFile.FieldType.int)) ∈ jT := jT_in (n := 264) rfl rfl
theorem t_265 : (Jvm.Cond.methodLink "InputRoom" (96 : Nat) ({ cls := "InputRoom", name := "doBehind", desc := "()V" } : Jvm.MethodName)) ∈ jT := jT_in (n := 265) rfl rfl
theorem t_267 : (Jvm.Cond.instanceMethod ({ cls := "InputRoom", name := "doBehind", desc := "()V" } : Jvm.MethodName)) ∈ jT := jT_in (n := 267) rfl rfl
theorem t_268 : (Jvm.Cond.code ({ cls := "InputRoom", name := "doBehind", desc := "()V" } : Jvm.MethodName) prog_1_method_35_code (1 : Nat) (Option.none : Option Jvm.ClassFile.FieldType)) ∈ jT := jT_in (n := 268) rfl rfl
theorem t_269 : (Jvm.Cond.methodLink "InputRoom" (177 : Nat) ({ cls := "InputRoom", name := "settle", desc := "()V" } : Jvm.MethodName)) ∈ jT := jT_in (n := 269) rfl rfl
theorem t_271 : (Jvm.Cond.instanceMethod ({ cls := "InputRoom", name := "settle", desc := "()V" } : Jvm.MethodName)) ∈ jT := jT_in (n := 271) rfl rfl
theorem t_272 : (Jvm.Cond.code ({ cls := "InputRoom", name := "settle", desc := "()V" } : Jvm.MethodName) prog_1_method_36_code (1 : Nat) (Option.none : Option Jvm.ClassFile.FieldType)) ∈ jT := jT_in (n := 272) rfl rfl
theorem t_273 : (Jvm.Cond.methodLink "InputRoom" (180 : Nat) ({ cls := "InputRoom", name := "signalNewWords", desc := "()V" } : Jvm.MethodName)) ∈ jT := jT_in (n := 273) rfl rfl
theorem t_275 : (Jvm.Cond.instanceMethod ({ cls := "InputRoom", name := "signalNewWords", desc := "()V" } : Jvm.MethodName)) ∈ jT := jT_in (n := 275) rfl rfl
theorem t_276 : (Jvm.Cond.code ({ cls := "InputRoom", name := "signalNewWords", desc := "()V" } : Jvm.MethodName) prog_1_method_37_code (3 : Nat) (Option.none : Option Jvm.ClassFile.FieldType)) ∈ jT := jT_in (n := 276) rfl rfl
theorem t_277 : (Jvm.Cond.methodLink "InputRoom" (186 : Nat) ({ cls := "InputRoom$Words", name := "takeUntold", desc := "()I" } : Jvm.MethodName)) ∈ jT := jT_in (n := 277) rfl rfl
theorem t_278 : (Jvm.Cond.instanceMethod ({ cls := "InputRoom$Words", name := "takeUntold", desc := "()I" } : Jvm.MethodName)) ∈ jT := jT_in (n := 278) rfl rfl
theorem t_279 : (Jvm.Cond.selects "InputRoom$Words" ({ cls := "InputRoom$Words", name := "takeUntold", desc := "()I" } : Jvm.MethodName) ({ cls := "InputRoom$Words", name := "takeUntold", desc := "()I" } : Jvm.MethodName)) ∈ jT := jT_in (n := 279) rfl rfl
theorem t_280 : (Jvm.Cond.code ({ cls := "InputRoom$Words", name := "takeUntold", desc := "()I" } : Jvm.MethodName) prog_5_method_5_code (2 : Nat) (Option.some Jvm.ClassFile.FieldType.int)) ∈ jT := jT_in (n := 280) rfl rfl
theorem t_281 : (Jvm.Cond.methodLink "InputRoom" (183 : Nat) ({ cls := "InputRoom", name := "signalDueAlarm", desc := "()V" } : Jvm.MethodName)) ∈ jT := jT_in (n := 281) rfl rfl
theorem t_283 : (Jvm.Cond.instanceMethod ({ cls := "InputRoom", name := "signalDueAlarm", desc := "()V" } : Jvm.MethodName)) ∈ jT := jT_in (n := 283) rfl rfl
theorem t_284 : (Jvm.Cond.code ({ cls := "InputRoom", name := "signalDueAlarm", desc := "()V" } : Jvm.MethodName) prog_1_method_38_code (2 : Nat) (Option.none : Option Jvm.ClassFile.FieldType)) ∈ jT := jT_in (n := 284) rfl rfl
theorem t_285 : (Jvm.Cond.methodLink "InputRoom" (99 : Nat) ({ cls := "InputRoom", name := "doCode", desc := "(LInputRoom$Proc;)V" } : Jvm.MethodName)) ∈ jT := jT_in (n := 285) rfl rfl
theorem t_287 : (Jvm.Cond.instanceMethod ({ cls := "InputRoom", name := "doCode", desc := "(LInputRoom$Proc;)V" } : Jvm.MethodName)) ∈ jT := jT_in (n := 287) rfl rfl
theorem t_288 : (Jvm.Cond.code ({ cls := "InputRoom", name := "doCode", desc := "(LInputRoom$Proc;)V" } : Jvm.MethodName) prog_1_method_33_code (3 : Nat) (Option.none : Option Jvm.ClassFile.FieldType)) ∈ jT := jT_in (n := 288) rfl rfl
theorem t_289 : (Jvm.Cond.methodLink "InputRoom" (159 : Nat) ({ cls := "InputRoom$Proc", name := "nextAct", desc := "()I" } : Jvm.MethodName)) ∈ jT := jT_in (n := 289) rfl rfl
theorem t_290 : (Jvm.Cond.instanceMethod ({ cls := "InputRoom$Proc", name := "nextAct", desc := "()I" } : Jvm.MethodName)) ∈ jT := jT_in (n := 290) rfl rfl
theorem t_291 : (Jvm.Cond.selects "InputRoom$Proc" ({ cls := "InputRoom$Proc", name := "nextAct", desc := "()I" } : Jvm.MethodName) ({ cls := "InputRoom$Proc", name := "nextAct", desc := "()I" } : Jvm.MethodName)) ∈ jT := jT_in (n := 291) rfl rfl
theorem t_292 : (Jvm.Cond.code ({ cls := "InputRoom$Proc", name := "nextAct", desc := "()I" } : Jvm.MethodName) prog_2_method_2_code (1 : Nat) (Option.some Jvm.ClassFile.FieldType.int)) ∈ jT := jT_in (n := 292) rfl rfl
theorem t_293 : (Jvm.Cond.methodLink "InputRoom$Proc" (32 : Nat) ({ cls := "java/lang/Math", name := "floorMod", desc := "(II)I" } : Jvm.MethodName)) ∈ jT := jT_in (n := 293) rfl rfl
theorem t_294 : (Jvm.Cond.methodLink "InputRoom" (163 : Nat) ({ cls := "InputRoom", name := "doAct", desc := "(I)V" } : Jvm.MethodName)) ∈ jT := jT_in (n := 294) rfl rfl
theorem t_296 : (Jvm.Cond.instanceMethod ({ cls := "InputRoom", name := "doAct", desc := "(I)V" } : Jvm.MethodName)) ∈ jT := jT_in (n := 296) rfl rfl
theorem t_297 : (Jvm.Cond.code ({ cls := "InputRoom", name := "doAct", desc := "(I)V" } : Jvm.MethodName) prog_1_method_34_code (2 : Nat) (Option.none : Option Jvm.ClassFile.FieldType)) ∈ jT := jT_in (n := 297) rfl rfl
theorem t_298 : (Jvm.Cond.methodLink "InputRoom" (168 : Nat) ({ cls := "InputRoom", name := "waitFor", desc := "(LInputRoom$Semaphore;)V" } : Jvm.MethodName)) ∈ jT := jT_in (n := 298) rfl rfl
theorem t_300 : (Jvm.Cond.instanceMethod ({ cls := "InputRoom", name := "waitFor", desc := "(LInputRoom$Semaphore;)V" } : Jvm.MethodName)) ∈ jT := jT_in (n := 300) rfl rfl
theorem t_301 : (Jvm.Cond.code ({ cls := "InputRoom", name := "waitFor", desc := "(LInputRoom$Semaphore;)V" } : Jvm.MethodName) prog_1_method_30_code (3 : Nat) (Option.none : Option Jvm.ClassFile.FieldType)) ∈ jT := jT_in (n := 301) rfl rfl
theorem t_302 : (Jvm.Cond.methodLink "InputRoom" (171 : Nat) ({ cls := "InputRoom", name := "giveWay", desc := "()V" } : Jvm.MethodName)) ∈ jT := jT_in (n := 302) rfl rfl
theorem t_304 : (Jvm.Cond.instanceMethod ({ cls := "InputRoom", name := "giveWay", desc := "()V" } : Jvm.MethodName)) ∈ jT := jT_in (n := 304) rfl rfl
theorem t_305 : (Jvm.Cond.code ({ cls := "InputRoom", name := "giveWay", desc := "()V" } : Jvm.MethodName) prog_1_method_31_code (2 : Nat) (Option.none : Option Jvm.ClassFile.FieldType)) ∈ jT := jT_in (n := 305) rfl rfl
theorem t_306 : (Jvm.Cond.methodLink "InputRoom" (155 : Nat) ({ cls := "InputRoom$Row", name := "isEmpty", desc := "()Z" } : Jvm.MethodName)) ∈ jT := jT_in (n := 306) rfl rfl
theorem t_307 : (Jvm.Cond.instanceMethod ({ cls := "InputRoom$Row", name := "isEmpty", desc := "()Z" } : Jvm.MethodName)) ∈ jT := jT_in (n := 307) rfl rfl
theorem t_308 : (Jvm.Cond.selects "InputRoom$Row" ({ cls := "InputRoom$Row", name := "isEmpty", desc := "()Z" } : Jvm.MethodName) ({ cls := "InputRoom$Row", name := "isEmpty", desc := "()Z" } : Jvm.MethodName)) ∈ jT := jT_in (n := 308) rfl rfl
theorem t_309 : (Jvm.Cond.code ({ cls := "InputRoom$Row", name := "isEmpty", desc := "()Z" } : Jvm.MethodName) prog_3_method_2_code (1 : Nat) (Option.some Jvm.ClassFile.FieldType.boolean)) ∈ jT := jT_in (n := 309) rfl rfl
theorem t_310 : (Jvm.Cond.methodLink "InputRoom" (174 : Nat) ({ cls := "InputRoom$Words", name := "dropFirst", desc := "()V" } : Jvm.MethodName)) ∈ jT := jT_in (n := 310) rfl rfl
theorem t_311 : (Jvm.Cond.instanceMethod ({ cls := "InputRoom$Words", name := "dropFirst", desc := "()V" } : Jvm.MethodName)) ∈ jT := jT_in (n := 311) rfl rfl
theorem t_312 : (Jvm.Cond.selects "InputRoom$Words" ({ cls := "InputRoom$Words", name := "dropFirst", desc := "()V" } : Jvm.MethodName) ({ cls := "InputRoom$Words", name := "dropFirst", desc := "()V" } : Jvm.MethodName)) ∈ jT := jT_in (n := 312) rfl rfl
theorem t_313 : (Jvm.Cond.code ({ cls := "InputRoom$Words", name := "dropFirst", desc := "()V" } : Jvm.MethodName) prog_5_method_3_code (1 : Nat) (Option.none : Option Jvm.ClassFile.FieldType)) ∈ jT := jT_in (n := 313) rfl rfl
theorem t_314 : (Jvm.Cond.constantLong "InputRoom" (166 : Nat) (64 : Int64)) ∈ jT := jT_in (n := 314) rfl rfl
theorem t_315 : (Jvm.Cond.methodLink "InputRoomLaw" (54 : Nat) ({ cls := "InputRoom", name := "active", desc := "()I" } : Jvm.MethodName)) ∈ jT := jT_in (n := 315) rfl rfl
theorem t_316 : (Jvm.Cond.instanceMethod ({ cls := "InputRoom", name := "active", desc := "()I" } : Jvm.MethodName)) ∈ jT := jT_in (n := 316) rfl rfl
theorem t_317 : (Jvm.Cond.selects "InputRoom" ({ cls := "InputRoom", name := "active", desc := "()I" } : Jvm.MethodName) ({ cls := "InputRoom", name := "active", desc := "()I" } : Jvm.MethodName)) ∈ jT := jT_in (n := 317) rfl rfl
theorem t_318 : (Jvm.Cond.code ({ cls := "InputRoom", name := "active", desc := "()I" } : Jvm.MethodName) prog_1_method_11_code (1 : Nat) (Option.some Jvm.ClassFile.FieldType.int)) ∈ jT := jT_in (n := 318) rfl rfl
theorem t_319 : (Jvm.Cond.methodLink "InputRoom" (102 : Nat) ({ cls := "InputRoom", name := "numberOf", desc := "(LInputRoom$Proc;)I" } : Jvm.MethodName)) ∈ jT := jT_in (n := 319) rfl rfl
theorem t_320 : (Jvm.Cond.static ({ cls := "InputRoom", name := "numberOf", desc := "(LInputRoom$Proc;)I" } : Jvm.MethodName)) ∈ jT := jT_in (n := 320) rfl rfl
theorem t_321 : (Jvm.Cond.code ({ cls := "InputRoom", name := "numberOf", desc := "(LInputRoom$Proc;)I" } : Jvm.MethodName) prog_1_method_23_code (1 : Nat) (Option.some Jvm.ClassFile.FieldType.int)) ∈ jT := jT_in (n := 321) rfl rfl
theorem t_322 : (Jvm.Cond.methodLink "InputRoomLaw" (58 : Nat) ({ cls := "InputRoom", name := "present", desc := "()I" } : Jvm.MethodName)) ∈ jT := jT_in (n := 322) rfl rfl
theorem t_323 : (Jvm.Cond.instanceMethod ({ cls := "InputRoom", name := "present", desc := "()I" } : Jvm.MethodName)) ∈ jT := jT_in (n := 323) rfl rfl
theorem t_324 : (Jvm.Cond.selects "InputRoom" ({ cls := "InputRoom", name := "present", desc := "()I" } : Jvm.MethodName) ({ cls := "InputRoom", name := "present", desc := "()I" } : Jvm.MethodName)) ∈ jT := jT_in (n := 324) rfl rfl
theorem t_325 : (Jvm.Cond.code ({ cls := "InputRoom", name := "present", desc := "()I" } : Jvm.MethodName) prog_1_method_12_code (1 : Nat) (Option.some Jvm.ClassFile.FieldType.int)) ∈ jT := jT_in (n := 325) rfl rfl
theorem t_326 : (Jvm.Cond.methodLink "InputRoomLaw" (62 : Nat) ({ cls := "InputRoom", name := "clock", desc := "()I" } : Jvm.MethodName)) ∈ jT := jT_in (n := 326) rfl rfl
theorem t_327 : (Jvm.Cond.instanceMethod ({ cls := "InputRoom", name := "clock", desc := "()I" } : Jvm.MethodName)) ∈ jT := jT_in (n := 327) rfl rfl
theorem t_328 : (Jvm.Cond.selects "InputRoom" ({ cls := "InputRoom", name := "clock", desc := "()I" } : Jvm.MethodName) ({ cls := "InputRoom", name := "clock", desc := "()I" } : Jvm.MethodName)) ∈ jT := jT_in (n := 328) rfl rfl
theorem t_329 : (Jvm.Cond.code ({ cls := "InputRoom", name := "clock", desc := "()I" } : Jvm.MethodName) prog_1_method_13_code (1 : Nat) (Option.some Jvm.ClassFile.FieldType.int)) ∈ jT := jT_in (n := 329) rfl rfl
theorem t_330 : (Jvm.Cond.methodLink "InputRoomLaw" (66 : Nat) ({ cls := "InputRoom", name := "codes", desc := "()J" } : Jvm.MethodName)) ∈ jT := jT_in (n := 330) rfl rfl
theorem t_331 : (Jvm.Cond.instanceMethod ({ cls := "InputRoom", name := "codes", desc := "()J" } : Jvm.MethodName)) ∈ jT := jT_in (n := 331) rfl rfl
theorem t_332 : (Jvm.Cond.selects "InputRoom" ({ cls := "InputRoom", name := "codes", desc := "()J" } : Jvm.MethodName) ({ cls := "InputRoom", name := "codes", desc := "()J" } : Jvm.MethodName)) ∈ jT := jT_in (n := 332) rfl rfl
theorem t_333 : (Jvm.Cond.code ({ cls := "InputRoom", name := "codes", desc := "()J" } : Jvm.MethodName) prog_1_method_14_code (1 : Nat) (Option.some Jvm.ClassFile.FieldType.long)) ∈ jT := jT_in (n := 333) rfl rfl
theorem t_334 : (Jvm.Cond.methodLink "InputRoomLaw" (71 : Nat) ({ cls := "InputRoom", name := "done", desc := "(I)I" } : Jvm.MethodName)) ∈ jT := jT_in (n := 334) rfl rfl
theorem t_335 : (Jvm.Cond.instanceMethod ({ cls := "InputRoom", name := "done", desc := "(I)I" } : Jvm.MethodName)) ∈ jT := jT_in (n := 335) rfl rfl
theorem t_336 : (Jvm.Cond.selects "InputRoom" ({ cls := "InputRoom", name := "done", desc := "(I)I" } : Jvm.MethodName) ({ cls := "InputRoom", name := "done", desc := "(I)I" } : Jvm.MethodName)) ∈ jT := jT_in (n := 336) rfl rfl
theorem t_337 : (Jvm.Cond.code ({ cls := "InputRoom", name := "done", desc := "(I)I" } : Jvm.MethodName) prog_1_method_15_code (3 : Nat) (Option.some Jvm.ClassFile.FieldType.int)) ∈ jT := jT_in (n := 337) rfl rfl
theorem t_338 : (Jvm.Cond.methodLink "InputRoomLaw" (75 : Nat) ({ cls := "InputRoom", name := "row", desc := "(I)I" } : Jvm.MethodName)) ∈ jT := jT_in (n := 338) rfl rfl
theorem t_339 : (Jvm.Cond.instanceMethod ({ cls := "InputRoom", name := "row", desc := "(I)I" } : Jvm.MethodName)) ∈ jT := jT_in (n := 339) rfl rfl
theorem t_340 : (Jvm.Cond.selects "InputRoom" ({ cls := "InputRoom", name := "row", desc := "(I)I" } : Jvm.MethodName) ({ cls := "InputRoom", name := "row", desc := "(I)I" } : Jvm.MethodName)) ∈ jT := jT_in (n := 340) rfl rfl
theorem t_341 : (Jvm.Cond.code ({ cls := "InputRoom", name := "row", desc := "(I)I" } : Jvm.MethodName) prog_1_method_16_code (3 : Nat) (Option.some Jvm.ClassFile.FieldType.int)) ∈ jT := jT_in (n := 341) rfl rfl
theorem t_342 : (Jvm.Cond.methodLink "InputRoomLaw" (79 : Nat) ({ cls := "InputRoom", name := "at", desc := "(II)I" } : Jvm.MethodName)) ∈ jT := jT_in (n := 342) rfl rfl
theorem t_343 : (Jvm.Cond.instanceMethod ({ cls := "InputRoom", name := "at", desc := "(II)I" } : Jvm.MethodName)) ∈ jT := jT_in (n := 343) rfl rfl
theorem t_344 : (Jvm.Cond.selects "InputRoom" ({ cls := "InputRoom", name := "at", desc := "(II)I" } : Jvm.MethodName) ({ cls := "InputRoom", name := "at", desc := "(II)I" } : Jvm.MethodName)) ∈ jT := jT_in (n := 344) rfl rfl
theorem t_345 : (Jvm.Cond.code ({ cls := "InputRoom", name := "at", desc := "(II)I" } : Jvm.MethodName) prog_1_method_17_code (3 : Nat) (Option.some Jvm.ClassFile.FieldType.int)) ∈ jT := jT_in (n := 345) rfl rfl
theorem t_346 : (Jvm.Cond.methodLink "InputRoom" (116 : Nat) ({ cls := "InputRoom$Row", name := "processAt", desc := "(I)LInputRoom$Proc;" } : Jvm.MethodName)) ∈ jT := jT_in (n := 346) rfl rfl
theorem t_347 : (Jvm.Cond.instanceMethod ({ cls := "InputRoom$Row", name := "processAt", desc := "(I)LInputRoom$Proc;" } : Jvm.MethodName)) ∈ jT := jT_in (n := 347) rfl rfl
theorem t_348 : (Jvm.Cond.selects "InputRoom$Row" ({ cls := "InputRoom$Row", name := "processAt", desc := "(I)LInputRoom$Proc;" } : Jvm.MethodName) ({ cls := "InputRoom$Row", name := "processAt", desc := "(I)LInputRoom$Proc;" } : Jvm.MethodName)) ∈ jT := jT_in (n := 348) rfl rfl
theorem t_349 : (Jvm.Cond.code ({ cls := "InputRoom$Row", name := "processAt", desc := "(I)LInputRoom$Proc;" } : Jvm.MethodName) prog_3_method_5_code (4 : Nat) (Option.some (Jvm.ClassFile.FieldType.object "InputRoom$Proc"))) ∈ jT := jT_in (n := 349) rfl rfl
theorem t_350 : (Jvm.Cond.methodLink "InputRoomLaw" (84 : Nat) ({ cls := "InputRoom", name := "extra", desc := "(I)I" } : Jvm.MethodName)) ∈ jT := jT_in (n := 350) rfl rfl
theorem t_351 : (Jvm.Cond.instanceMethod ({ cls := "InputRoom", name := "extra", desc := "(I)I" } : Jvm.MethodName)) ∈ jT := jT_in (n := 351) rfl rfl
theorem t_352 : (Jvm.Cond.selects "InputRoom" ({ cls := "InputRoom", name := "extra", desc := "(I)I" } : Jvm.MethodName) ({ cls := "InputRoom", name := "extra", desc := "(I)I" } : Jvm.MethodName)) ∈ jT := jT_in (n := 352) rfl rfl
theorem t_353 : (Jvm.Cond.code ({ cls := "InputRoom", name := "extra", desc := "(I)I" } : Jvm.MethodName) prog_1_method_18_code (2 : Nat) (Option.some Jvm.ClassFile.FieldType.int)) ∈ jT := jT_in (n := 353) rfl rfl
theorem t_354 : (Jvm.Cond.methodLink "InputRoomLaw" (88 : Nat) ({ cls := "InputRoom", name := "wordAt", desc := "(I)I" } : Jvm.MethodName)) ∈ jT := jT_in (n := 354) rfl rfl
theorem t_355 : (Jvm.Cond.instanceMethod ({ cls := "InputRoom", name := "wordAt", desc := "(I)I" } : Jvm.MethodName)) ∈ jT := jT_in (n := 355) rfl rfl
theorem t_356 : (Jvm.Cond.selects "InputRoom" ({ cls := "InputRoom", name := "wordAt", desc := "(I)I" } : Jvm.MethodName) ({ cls := "InputRoom", name := "wordAt", desc := "(I)I" } : Jvm.MethodName)) ∈ jT := jT_in (n := 356) rfl rfl
theorem t_357 : (Jvm.Cond.code ({ cls := "InputRoom", name := "wordAt", desc := "(I)I" } : Jvm.MethodName) prog_1_method_19_code (2 : Nat) (Option.some Jvm.ClassFile.FieldType.int)) ∈ jT := jT_in (n := 357) rfl rfl
theorem t_358 : (Jvm.Cond.methodLink "InputRoom" (126 : Nat) ({ cls := "InputRoom$Words", name := "get", desc := "(I)I" } : Jvm.MethodName)) ∈ jT := jT_in (n := 358) rfl rfl
theorem t_359 : (Jvm.Cond.instanceMethod ({ cls := "InputRoom$Words", name := "get", desc := "(I)I" } : Jvm.MethodName)) ∈ jT := jT_in (n := 359) rfl rfl
theorem t_360 : (Jvm.Cond.selects "InputRoom$Words" ({ cls := "InputRoom$Words", name := "get", desc := "(I)I" } : Jvm.MethodName) ({ cls := "InputRoom$Words", name := "get", desc := "(I)I" } : Jvm.MethodName)) ∈ jT := jT_in (n := 360) rfl rfl
theorem t_361 : (Jvm.Cond.code ({ cls := "InputRoom$Words", name := "get", desc := "(I)I" } : Jvm.MethodName) prog_5_method_4_code (2 : Nat) (Option.some Jvm.ClassFile.FieldType.int)) ∈ jT := jT_in (n := 361) rfl rfl
theorem t_362 : (Jvm.Cond.methodLink "InputRoomLaw" (92 : Nat) ({ cls := "InputRoom", name := "input", desc := "()I" } : Jvm.MethodName)) ∈ jT := jT_in (n := 362) rfl rfl
theorem t_363 : (Jvm.Cond.instanceMethod ({ cls := "InputRoom", name := "input", desc := "()I" } : Jvm.MethodName)) ∈ jT := jT_in (n := 363) rfl rfl
theorem t_364 : (Jvm.Cond.selects "InputRoom" ({ cls := "InputRoom", name := "input", desc := "()I" } : Jvm.MethodName) ({ cls := "InputRoom", name := "input", desc := "()I" } : Jvm.MethodName)) ∈ jT := jT_in (n := 364) rfl rfl
theorem t_365 : (Jvm.Cond.code ({ cls := "InputRoom", name := "input", desc := "()I" } : Jvm.MethodName) prog_1_method_20_code (1 : Nat) (Option.some Jvm.ClassFile.FieldType.int)) ∈ jT := jT_in (n := 365) rfl rfl
theorem t_366 : (Jvm.Cond.methodLink "InputRoomLaw" (96 : Nat) ({ cls := "InputRoom", name := "tick", desc := "()I" } : Jvm.MethodName)) ∈ jT := jT_in (n := 366) rfl rfl
theorem t_367 : (Jvm.Cond.instanceMethod ({ cls := "InputRoom", name := "tick", desc := "()I" } : Jvm.MethodName)) ∈ jT := jT_in (n := 367) rfl rfl
theorem t_368 : (Jvm.Cond.selects "InputRoom" ({ cls := "InputRoom", name := "tick", desc := "()I" } : Jvm.MethodName) ({ cls := "InputRoom", name := "tick", desc := "()I" } : Jvm.MethodName)) ∈ jT := jT_in (n := 368) rfl rfl
theorem t_369 : (Jvm.Cond.code ({ cls := "InputRoom", name := "tick", desc := "()I" } : Jvm.MethodName) prog_1_method_21_code (1 : Nat) (Option.some Jvm.ClassFile.FieldType.int)) ∈ jT := jT_in (n := 369) rfl rfl
theorem t_370 : (Jvm.Cond.classLink "InputRoomLaw" (10 : Nat) "InputRoomModel") ∈ jT := jT_in (n := 370) rfl rfl
theorem t_371 : (Jvm.Cond.instantiable "InputRoomModel" (21 : Nat)) ∈ jT := jT_in (n := 371) rfl rfl
theorem t_372 : (Jvm.Cond.methodLink "InputRoomLaw" (12 : Nat) ({ cls := "InputRoomModel", name := "<init>", desc := "()V" } : Jvm.MethodName)) ∈ jT := jT_in (n := 372) rfl rfl
theorem t_373 : (Jvm.Cond.instanceMethod ({ cls := "InputRoomModel", name := "<init>", desc := "()V" } : Jvm.MethodName)) ∈ jT := jT_in (n := 373) rfl rfl
theorem t_374 : (Jvm.Cond.code ({ cls := "InputRoomModel", name := "<init>", desc := "()V" } : Jvm.MethodName) prog_7_method_1_code (1 : Nat) (Option.none : Option Jvm.ClassFile.FieldType)) ∈ jT := jT_in (n := 374) rfl rfl
theorem t_375 : (Jvm.Cond.methodLink "InputRoomModel" (1 : Nat) ({ cls := "java/lang/Object", name := "<init>", desc := "()V" } : Jvm.MethodName)) ∈ jT := jT_in (n := 375) rfl rfl
theorem t_376 : (Jvm.Cond.fieldLink "InputRoomModel" (7 : Nat) "InputRoomModel" "made" "[Z") ∈ jT := jT_in (n := 376) rfl rfl
theorem t_377 : (Jvm.Cond.fieldLink "InputRoomModel" (13 : Nat) "InputRoomModel" "priorities" "[I") ∈ jT := jT_in (n := 377) rfl rfl
theorem t_378 : (Jvm.Cond.fieldLink "InputRoomModel" (17 : Nat) "InputRoomModel" "plans" "[I") ∈ jT := jT_in (n := 378) rfl rfl
theorem t_379 : (Jvm.Cond.fieldLink "InputRoomModel" (20 : Nat) "InputRoomModel" "done" "[I") ∈ jT := jT_in (n := 379) rfl rfl
theorem t_380 : (Jvm.Cond.fieldLink "InputRoomModel" (23 : Nat) "InputRoomModel" "rows" "[I") ∈ jT := jT_in (n := 380) rfl rfl
theorem t_381 : (Jvm.Cond.fieldLink "InputRoomModel" (26 : Nat) "InputRoomModel" "hours" "[J") ∈ jT := jT_in (n := 381) rfl rfl
theorem t_382 : (Jvm.Cond.fieldLink "InputRoomModel" (52 : Nat) "InputRoomModel" "hour" "J") ∈ jT := jT_in (n := 382) rfl rfl
theorem t_383 : (Jvm.Cond.fieldLink "InputRoomModel" (30 : Nat) "InputRoomModel" "extra" "[I") ∈ jT := jT_in (n := 383) rfl rfl
theorem t_384 : (Jvm.Cond.fieldLink "InputRoomModel" (33 : Nat) "InputRoomModel" "active" "I") ∈ jT := jT_in (n := 384) rfl rfl
theorem t_385 : (Jvm.Cond.fieldLink "InputRoomModel" (56 : Nat) "InputRoomModel" "wanted" "Z") ∈ jT := jT_in (n := 385) rfl rfl
theorem t_386 : (Jvm.Cond.fieldLink "InputRoomModel" (37 : Nat) "InputRoomModel" "wantedOne" "I") ∈ jT := jT_in (n := 386) rfl rfl
theorem t_387 : (Jvm.Cond.fieldLink "InputRoomModel" (40 : Nat) "InputRoomModel" "words" "[I") ∈ jT := jT_in (n := 387) rfl rfl
theorem t_388 : (Jvm.Cond.fieldLink "InputRoomModel" (82 : Nat) "InputRoomModel" "count" "I") ∈ jT := jT_in (n := 388) rfl rfl
theorem t_389 : (Jvm.Cond.fieldLink "InputRoomModel" (106 : Nat) "InputRoomModel" "news" "I") ∈ jT := jT_in (n := 389) rfl rfl
theorem t_390 : (Jvm.Cond.fieldLink "InputRoomModel" (43 : Nat) "InputRoomModel" "input" "I") ∈ jT := jT_in (n := 390) rfl rfl
theorem t_391 : (Jvm.Cond.fieldLink "InputRoomModel" (46 : Nat) "InputRoomModel" "alarm" "I") ∈ jT := jT_in (n := 391) rfl rfl
theorem t_392 : (Jvm.Cond.fieldLink "InputRoomModel" (100 : Nat) "InputRoomModel" "tick" "I") ∈ jT := jT_in (n := 392) rfl rfl
theorem t_393 : (Jvm.Cond.fieldLink "InputRoomModel" (97 : Nat) "InputRoomModel" "clock" "I") ∈ jT := jT_in (n := 393) rfl rfl
theorem t_394 : (Jvm.Cond.fieldLink "InputRoomModel" (118 : Nat) "InputRoomModel" "codes" "J") ∈ jT := jT_in (n := 394) rfl rfl
theorem t_395 : (Jvm.Cond.fieldLink "InputRoomModel" (49 : Nat) "InputRoomModel" "posted" "[I") ∈ jT := jT_in (n := 395) rfl rfl
theorem t_396 : (Jvm.Cond.fieldLink "InputRoomModel" (103 : Nat) "InputRoomModel" "posts" "I") ∈ jT := jT_in (n := 396) rfl rfl
theorem t_397 : (Jvm.Cond.laysFinal "InputRoomModel" "InputRoomModel" "made" "[Z") ∈ jT := jT_in (n := 397) rfl rfl
theorem t_399 : (Jvm.Cond.laysFinal "InputRoomModel" "InputRoomModel" "priorities" "[I") ∈ jT := jT_in (n := 399) rfl rfl
theorem t_401 : (Jvm.Cond.laysFinal "InputRoomModel" "InputRoomModel" "plans" "[I") ∈ jT := jT_in (n := 401) rfl rfl
theorem t_403 : (Jvm.Cond.laysFinal "InputRoomModel" "InputRoomModel" "done" "[I") ∈ jT := jT_in (n := 403) rfl rfl
theorem t_405 : (Jvm.Cond.laysFinal "InputRoomModel" "InputRoomModel" "rows" "[I") ∈ jT := jT_in (n := 405) rfl rfl
theorem t_407 : (Jvm.Cond.laysFinal "InputRoomModel" "InputRoomModel" "hours" "[J") ∈ jT := jT_in (n := 407) rfl rfl
theorem t_409 : (Jvm.Cond.lays "InputRoomModel" "InputRoomModel" "hour" "J") ∈ jT := jT_in (n := 409) rfl rfl
theorem t_411 : (Jvm.Cond.laysFinal "InputRoomModel" "InputRoomModel" "extra" "[I") ∈ jT := jT_in (n := 411) rfl rfl
theorem t_413 : (Jvm.Cond.lays "InputRoomModel" "InputRoomModel" "active" "I") ∈ jT := jT_in (n := 413) rfl rfl
theorem t_415 : (Jvm.Cond.lays "InputRoomModel" "InputRoomModel" "wanted" "Z") ∈ jT := jT_in (n := 415) rfl rfl
theorem t_417 : (Jvm.Cond.lays "InputRoomModel" "InputRoomModel" "wantedOne" "I") ∈ jT := jT_in (n := 417) rfl rfl
theorem t_419 : (Jvm.Cond.laysFinal "InputRoomModel" "InputRoomModel" "words" "[I") ∈ jT := jT_in (n := 419) rfl rfl
theorem t_421 : (Jvm.Cond.lays "InputRoomModel" "InputRoomModel" "count" "I") ∈ jT := jT_in (n := 421) rfl rfl
theorem t_423 : (Jvm.Cond.lays "InputRoomModel" "InputRoomModel" "news" "I") ∈ jT := jT_in (n := 423) rfl rfl
theorem t_425 : (Jvm.Cond.lays "InputRoomModel" "InputRoomModel" "input" "I") ∈ jT := jT_in (n := 425) rfl rfl
theorem t_427 : (Jvm.Cond.lays "InputRoomModel" "InputRoomModel" "alarm" "I") ∈ jT := jT_in (n := 427) rfl rfl
theorem t_429 : (Jvm.Cond.lays "InputRoomModel" "InputRoomModel" "tick" "I") ∈ jT := jT_in (n := 429) rfl rfl
set_option maxRecDepth 100000 in
theorem t_431 : (Jvm.Cond.lays "InputRoomModel" "InputRoomModel" "clock" "I") ∈ jT := jT_in (n := 431) rfl rfl
set_option maxRecDepth 100000 in
theorem t_433 : (Jvm.Cond.lays "InputRoomModel" "InputRoomModel" "codes" "J") ∈ jT := jT_in (n := 433) rfl rfl
set_option maxRecDepth 100000 in
theorem t_435 : (Jvm.Cond.laysFinal "InputRoomModel" "InputRoomModel" "posted" "[I") ∈ jT := jT_in (n := 435) rfl rfl
set_option maxRecDepth 100000 in
theorem t_437 : (Jvm.Cond.lays "InputRoomModel" "InputRoomModel" "posts" "I") ∈ jT := jT_in (n := 437) rfl rfl
set_option maxRecDepth 100000 in
theorem t_440 : (Jvm.Cond.arrayClass Jvm.ClassFile.FieldType.boolean) ∈ jT := jT_in (n := 440) rfl rfl
set_option maxRecDepth 100000 in
theorem t_441 : (Jvm.Cond.arrayClass Jvm.ClassFile.FieldType.long) ∈ jT := jT_in (n := 441) rfl rfl
set_option maxRecDepth 100000 in
theorem t_442 : (Jvm.Cond.methodLink "InputRoomLaw" (53 : Nat) ({ cls := "InputRoomModel", name := "run", desc := "(I)I" } : Jvm.MethodName)) ∈ jT := jT_in (n := 442) rfl rfl
set_option maxRecDepth 100000 in
theorem t_443 : (Jvm.Cond.instanceMethod ({ cls := "InputRoomModel", name := "run", desc := "(I)I" } : Jvm.MethodName)) ∈ jT := jT_in (n := 443) rfl rfl
set_option maxRecDepth 100000 in
theorem t_444 : (Jvm.Cond.selects "InputRoomModel" ({ cls := "InputRoomModel", name := "run", desc := "(I)I" } : Jvm.MethodName) ({ cls := "InputRoomModel", name := "run", desc := "(I)I" } : Jvm.MethodName)) ∈ jT := jT_in (n := 444) rfl rfl
set_option maxRecDepth 100000 in
theorem t_445 : (Jvm.Cond.code ({ cls := "InputRoomModel", name := "run", desc := "(I)I" } : Jvm.MethodName) prog_7_method_17_code (5 : Nat) (Option.some Jvm.ClassFile.FieldType.int)) ∈ jT := jT_in (n := 445) rfl rfl
set_option maxRecDepth 100000 in
theorem t_446 : (Jvm.Cond.methodLink "InputRoomModel" (112 : Nat) ({ cls := "InputRoomModel", name := "behind", desc := "()V" } : Jvm.MethodName)) ∈ jT := jT_in (n := 446) rfl rfl
set_option maxRecDepth 100000 in
theorem t_448 : (Jvm.Cond.instanceMethod ({ cls := "InputRoomModel", name := "behind", desc := "()V" } : Jvm.MethodName)) ∈ jT := jT_in (n := 448) rfl rfl
set_option maxRecDepth 100000 in
theorem t_449 : (Jvm.Cond.code ({ cls := "InputRoomModel", name := "behind", desc := "()V" } : Jvm.MethodName) prog_7_method_16_code (3 : Nat) (Option.none : Option Jvm.ClassFile.FieldType)) ∈ jT := jT_in (n := 449) rfl rfl
set_option maxRecDepth 100000 in
theorem t_450 : (Jvm.Cond.methodLink "InputRoomModel" (109 : Nat) ({ cls := "InputRoomModel", name := "post", desc := "(I)V" } : Jvm.MethodName)) ∈ jT := jT_in (n := 450) rfl rfl
set_option maxRecDepth 100000 in
theorem t_452 : (Jvm.Cond.instanceMethod ({ cls := "InputRoomModel", name := "post", desc := "(I)V" } : Jvm.MethodName)) ∈ jT := jT_in (n := 452) rfl rfl
set_option maxRecDepth 100000 in
theorem t_453 : (Jvm.Cond.code ({ cls := "InputRoomModel", name := "post", desc := "(I)V" } : Jvm.MethodName) prog_7_method_15_code (2 : Nat) (Option.none : Option Jvm.ClassFile.FieldType)) ∈ jT := jT_in (n := 453) rfl rfl
set_option maxRecDepth 100000 in
theorem t_454 : (Jvm.Cond.methodLink "InputRoomModel" (88 : Nat) ({ cls := "InputRoomModel", name := "signal0", desc := "(I)V" } : Jvm.MethodName)) ∈ jT := jT_in (n := 454) rfl rfl
set_option maxRecDepth 100000 in
theorem t_456 : (Jvm.Cond.instanceMethod ({ cls := "InputRoomModel", name := "signal0", desc := "(I)V" } : Jvm.MethodName)) ∈ jT := jT_in (n := 456) rfl rfl
set_option maxRecDepth 100000 in
theorem t_457 : (Jvm.Cond.code ({ cls := "InputRoomModel", name := "signal0", desc := "(I)V" } : Jvm.MethodName) prog_7_method_10_code (3 : Nat) (Option.none : Option Jvm.ClassFile.FieldType)) ∈ jT := jT_in (n := 457) rfl rfl
set_option maxRecDepth 100000 in
theorem t_458 : (Jvm.Cond.methodLink "InputRoomModel" (72 : Nat) ({ cls := "InputRoomModel", name := "first", desc := "(I)I" } : Jvm.MethodName)) ∈ jT := jT_in (n := 458) rfl rfl
set_option maxRecDepth 100000 in
theorem t_460 : (Jvm.Cond.instanceMethod ({ cls := "InputRoomModel", name := "first", desc := "(I)I" } : Jvm.MethodName)) ∈ jT := jT_in (n := 460) rfl rfl
set_option maxRecDepth 100000 in
theorem t_461 : (Jvm.Cond.code ({ cls := "InputRoomModel", name := "first", desc := "(I)I" } : Jvm.MethodName) prog_7_method_5_code (4 : Nat) (Option.some Jvm.ClassFile.FieldType.int)) ∈ jT := jT_in (n := 461) rfl rfl
set_option maxRecDepth 100000 in
theorem t_462 : (Jvm.Cond.methodLink "InputRoomModel" (76 : Nat) ({ cls := "InputRoomModel", name := "rouse", desc := "(I)V" } : Jvm.MethodName)) ∈ jT := jT_in (n := 462) rfl rfl
set_option maxRecDepth 100000 in
theorem t_464 : (Jvm.Cond.instanceMethod ({ cls := "InputRoomModel", name := "rouse", desc := "(I)V" } : Jvm.MethodName)) ∈ jT := jT_in (n := 464) rfl rfl
set_option maxRecDepth 100000 in
theorem t_465 : (Jvm.Cond.code ({ cls := "InputRoomModel", name := "rouse", desc := "(I)V" } : Jvm.MethodName) prog_7_method_8_code (3 : Nat) (Option.none : Option Jvm.ClassFile.FieldType)) ∈ jT := jT_in (n := 465) rfl rfl
set_option maxRecDepth 100000 in
theorem t_466 : (Jvm.Cond.methodLink "InputRoomModel" (60 : Nat) ({ cls := "InputRoomModel", name := "present0", desc := "()I" } : Jvm.MethodName)) ∈ jT := jT_in (n := 466) rfl rfl
set_option maxRecDepth 100000 in
theorem t_468 : (Jvm.Cond.instanceMethod ({ cls := "InputRoomModel", name := "present0", desc := "()I" } : Jvm.MethodName)) ∈ jT := jT_in (n := 468) rfl rfl
set_option maxRecDepth 100000 in
theorem t_469 : (Jvm.Cond.code ({ cls := "InputRoomModel", name := "present0", desc := "()I" } : Jvm.MethodName) prog_7_method_6_code (1 : Nat) (Option.some Jvm.ClassFile.FieldType.int)) ∈ jT := jT_in (n := 469) rfl rfl
set_option maxRecDepth 100000 in
theorem t_470 : (Jvm.Cond.methodLink "InputRoomModel" (64 : Nat) ({ cls := "InputRoomModel", name := "come", desc := "(II)V" } : Jvm.MethodName)) ∈ jT := jT_in (n := 470) rfl rfl
set_option maxRecDepth 100000 in
theorem t_472 : (Jvm.Cond.instanceMethod ({ cls := "InputRoomModel", name := "come", desc := "(II)V" } : Jvm.MethodName)) ∈ jT := jT_in (n := 472) rfl rfl
set_option maxRecDepth 100000 in
theorem t_473 : (Jvm.Cond.code ({ cls := "InputRoomModel", name := "come", desc := "(II)V" } : Jvm.MethodName) prog_7_method_4_code (3 : Nat) (Option.none : Option Jvm.ClassFile.FieldType)) ∈ jT := jT_in (n := 473) rfl rfl
set_option maxRecDepth 100000 in
theorem t_474 : (Jvm.Cond.methodLink "InputRoomModel" (68 : Nat) ({ cls := "InputRoomModel", name := "want", desc := "(I)V" } : Jvm.MethodName)) ∈ jT := jT_in (n := 474) rfl rfl
set_option maxRecDepth 100000 in
theorem t_476 : (Jvm.Cond.instanceMethod ({ cls := "InputRoomModel", name := "want", desc := "(I)V" } : Jvm.MethodName)) ∈ jT := jT_in (n := 476) rfl rfl
set_option maxRecDepth 100000 in
theorem t_477 : (Jvm.Cond.code ({ cls := "InputRoomModel", name := "want", desc := "(I)V" } : Jvm.MethodName) prog_7_method_7_code (2 : Nat) (Option.none : Option Jvm.ClassFile.FieldType)) ∈ jT := jT_in (n := 477) rfl rfl
set_option maxRecDepth 100000 in
theorem t_478 : (Jvm.Cond.methodLink "InputRoomModel" (115 : Nat) ({ cls := "InputRoomModel", name := "act", desc := "(I)V" } : Jvm.MethodName)) ∈ jT := jT_in (n := 478) rfl rfl
set_option maxRecDepth 100000 in
theorem t_480 : (Jvm.Cond.instanceMethod ({ cls := "InputRoomModel", name := "act", desc := "(I)V" } : Jvm.MethodName)) ∈ jT := jT_in (n := 480) rfl rfl
set_option maxRecDepth 100000 in
theorem t_481 : (Jvm.Cond.code ({ cls := "InputRoomModel", name := "act", desc := "(I)V" } : Jvm.MethodName) prog_7_method_14_code (2 : Nat) (Option.none : Option Jvm.ClassFile.FieldType)) ∈ jT := jT_in (n := 481) rfl rfl
set_option maxRecDepth 100000 in
theorem t_482 : (Jvm.Cond.methodLink "InputRoomModel" (85 : Nat) ({ cls := "InputRoomModel", name := "await0", desc := "(I)V" } : Jvm.MethodName)) ∈ jT := jT_in (n := 482) rfl rfl
set_option maxRecDepth 100000 in
theorem t_484 : (Jvm.Cond.instanceMethod ({ cls := "InputRoomModel", name := "await0", desc := "(I)V" } : Jvm.MethodName)) ∈ jT := jT_in (n := 484) rfl rfl
set_option maxRecDepth 100000 in
theorem t_485 : (Jvm.Cond.code ({ cls := "InputRoomModel", name := "await0", desc := "(I)V" } : Jvm.MethodName) prog_7_method_11_code (3 : Nat) (Option.none : Option Jvm.ClassFile.FieldType)) ∈ jT := jT_in (n := 485) rfl rfl
set_option maxRecDepth 100000 in
theorem t_486 : (Jvm.Cond.methodLink "InputRoomModel" (79 : Nat) ({ cls := "InputRoomModel", name := "putAside", desc := "()V" } : Jvm.MethodName)) ∈ jT := jT_in (n := 486) rfl rfl
set_option maxRecDepth 100000 in
theorem t_488 : (Jvm.Cond.instanceMethod ({ cls := "InputRoomModel", name := "putAside", desc := "()V" } : Jvm.MethodName)) ∈ jT := jT_in (n := 488) rfl rfl
set_option maxRecDepth 100000 in
theorem t_489 : (Jvm.Cond.code ({ cls := "InputRoomModel", name := "putAside", desc := "()V" } : Jvm.MethodName) prog_7_method_9_code (3 : Nat) (Option.none : Option Jvm.ClassFile.FieldType)) ∈ jT := jT_in (n := 489) rfl rfl
set_option maxRecDepth 100000 in
theorem t_490 : (Jvm.Cond.methodLink "InputRoomModel" (91 : Nat) ({ cls := "InputRoomModel", name := "giveWay", desc := "()V" } : Jvm.MethodName)) ∈ jT := jT_in (n := 490) rfl rfl
set_option maxRecDepth 100000 in
theorem t_492 : (Jvm.Cond.instanceMethod ({ cls := "InputRoomModel", name := "giveWay", desc := "()V" } : Jvm.MethodName)) ∈ jT := jT_in (n := 492) rfl rfl
set_option maxRecDepth 100000 in
theorem t_493 : (Jvm.Cond.code ({ cls := "InputRoomModel", name := "giveWay", desc := "()V" } : Jvm.MethodName) prog_7_method_12_code (2 : Nat) (Option.none : Option Jvm.ClassFile.FieldType)) ∈ jT := jT_in (n := 493) rfl rfl
set_option maxRecDepth 100000 in
theorem t_494 : (Jvm.Cond.methodLink "InputRoomModel" (94 : Nat) ({ cls := "InputRoomModel", name := "dropWord", desc := "()V" } : Jvm.MethodName)) ∈ jT := jT_in (n := 494) rfl rfl
set_option maxRecDepth 100000 in
theorem t_496 : (Jvm.Cond.instanceMethod ({ cls := "InputRoomModel", name := "dropWord", desc := "()V" } : Jvm.MethodName)) ∈ jT := jT_in (n := 496) rfl rfl
set_option maxRecDepth 100000 in
theorem t_497 : (Jvm.Cond.code ({ cls := "InputRoomModel", name := "dropWord", desc := "()V" } : Jvm.MethodName) prog_7_method_13_code (2 : Nat) (Option.none : Option Jvm.ClassFile.FieldType)) ∈ jT := jT_in (n := 497) rfl rfl
set_option maxRecDepth 100000 in
theorem t_498 : (Jvm.Cond.constantLong "InputRoomModel" (121 : Nat) (64 : Int64)) ∈ jT := jT_in (n := 498) rfl rfl
set_option maxRecDepth 100000 in
theorem t_499 : (Jvm.Cond.methodLink "InputRoomLaw" (17 : Nat) ({ cls := "InputRoomModel", name := "make", desc := "(II)Z" } : Jvm.MethodName)) ∈ jT := jT_in (n := 499) rfl rfl
set_option maxRecDepth 100000 in
theorem t_500 : (Jvm.Cond.instanceMethod ({ cls := "InputRoomModel", name := "make", desc := "(II)Z" } : Jvm.MethodName)) ∈ jT := jT_in (n := 500) rfl rfl
set_option maxRecDepth 100000 in
theorem t_501 : (Jvm.Cond.selects "InputRoomModel" ({ cls := "InputRoomModel", name := "make", desc := "(II)Z" } : Jvm.MethodName) ({ cls := "InputRoomModel", name := "make", desc := "(II)Z" } : Jvm.MethodName)) ∈ jT := jT_in (n := 501) rfl rfl
set_option maxRecDepth 100000 in
theorem t_502 : (Jvm.Cond.code ({ cls := "InputRoomModel", name := "make", desc := "(II)Z" } : Jvm.MethodName) prog_7_method_18_code (3 : Nat) (Option.some Jvm.ClassFile.FieldType.boolean)) ∈ jT := jT_in (n := 502) rfl rfl
set_option maxRecDepth 100000 in
theorem t_503 : (Jvm.Cond.methodLink "InputRoomLaw" (22 : Nat) ({ cls := "InputRoomModel", name := "plan", desc := "(III)I" } : Jvm.MethodName)) ∈ jT := jT_in (n := 503) rfl rfl
set_option maxRecDepth 100000 in
theorem t_504 : (Jvm.Cond.instanceMethod ({ cls := "InputRoomModel", name := "plan", desc := "(III)I" } : Jvm.MethodName)) ∈ jT := jT_in (n := 504) rfl rfl
set_option maxRecDepth 100000 in
theorem t_505 : (Jvm.Cond.selects "InputRoomModel" ({ cls := "InputRoomModel", name := "plan", desc := "(III)I" } : Jvm.MethodName) ({ cls := "InputRoomModel", name := "plan", desc := "(III)I" } : Jvm.MethodName)) ∈ jT := jT_in (n := 505) rfl rfl
set_option maxRecDepth 100000 in
theorem t_506 : (Jvm.Cond.code ({ cls := "InputRoomModel", name := "plan", desc := "(III)I" } : Jvm.MethodName) prog_7_method_19_code (5 : Nat) (Option.some Jvm.ClassFile.FieldType.int)) ∈ jT := jT_in (n := 506) rfl rfl
set_option maxRecDepth 100000 in
theorem t_507 : (Jvm.Cond.methodLink "InputRoomModel" (123 : Nat) ({ cls := "InputRoomModel", name := "isMade", desc := "(I)Z" } : Jvm.MethodName)) ∈ jT := jT_in (n := 507) rfl rfl
set_option maxRecDepth 100000 in
theorem t_509 : (Jvm.Cond.instanceMethod ({ cls := "InputRoomModel", name := "isMade", desc := "(I)Z" } : Jvm.MethodName)) ∈ jT := jT_in (n := 509) rfl rfl
set_option maxRecDepth 100000 in
theorem t_510 : (Jvm.Cond.code ({ cls := "InputRoomModel", name := "isMade", desc := "(I)Z" } : Jvm.MethodName) prog_7_method_2_code (2 : Nat) (Option.some Jvm.ClassFile.FieldType.boolean)) ∈ jT := jT_in (n := 510) rfl rfl
set_option maxRecDepth 100000 in
theorem t_511 : (Jvm.Cond.methodLink "InputRoomLaw" (27 : Nat) ({ cls := "InputRoomModel", name := "wake", desc := "(I)Z" } : Jvm.MethodName)) ∈ jT := jT_in (n := 511) rfl rfl
set_option maxRecDepth 100000 in
theorem t_512 : (Jvm.Cond.instanceMethod ({ cls := "InputRoomModel", name := "wake", desc := "(I)Z" } : Jvm.MethodName)) ∈ jT := jT_in (n := 512) rfl rfl
set_option maxRecDepth 100000 in
theorem t_513 : (Jvm.Cond.selects "InputRoomModel" ({ cls := "InputRoomModel", name := "wake", desc := "(I)Z" } : Jvm.MethodName) ({ cls := "InputRoomModel", name := "wake", desc := "(I)Z" } : Jvm.MethodName)) ∈ jT := jT_in (n := 513) rfl rfl
set_option maxRecDepth 100000 in
theorem t_514 : (Jvm.Cond.code ({ cls := "InputRoomModel", name := "wake", desc := "(I)Z" } : Jvm.MethodName) prog_7_method_20_code (2 : Nat) (Option.some Jvm.ClassFile.FieldType.boolean)) ∈ jT := jT_in (n := 514) rfl rfl
set_option maxRecDepth 100000 in
theorem t_515 : (Jvm.Cond.methodLink "InputRoomLaw" (32 : Nat) ({ cls := "InputRoomModel", name := "suspend", desc := "()I" } : Jvm.MethodName)) ∈ jT := jT_in (n := 515) rfl rfl
set_option maxRecDepth 100000 in
theorem t_516 : (Jvm.Cond.instanceMethod ({ cls := "InputRoomModel", name := "suspend", desc := "()I" } : Jvm.MethodName)) ∈ jT := jT_in (n := 516) rfl rfl
set_option maxRecDepth 100000 in
theorem t_517 : (Jvm.Cond.selects "InputRoomModel" ({ cls := "InputRoomModel", name := "suspend", desc := "()I" } : Jvm.MethodName) ({ cls := "InputRoomModel", name := "suspend", desc := "()I" } : Jvm.MethodName)) ∈ jT := jT_in (n := 517) rfl rfl
set_option maxRecDepth 100000 in
theorem t_518 : (Jvm.Cond.code ({ cls := "InputRoomModel", name := "suspend", desc := "()I" } : Jvm.MethodName) prog_7_method_21_code (2 : Nat) (Option.some Jvm.ClassFile.FieldType.int)) ∈ jT := jT_in (n := 518) rfl rfl
set_option maxRecDepth 100000 in
theorem t_519 : (Jvm.Cond.methodLink "InputRoomLaw" (36 : Nat) ({ cls := "InputRoomModel", name := "signal", desc := "(I)Z" } : Jvm.MethodName)) ∈ jT := jT_in (n := 519) rfl rfl
set_option maxRecDepth 100000 in
theorem t_520 : (Jvm.Cond.instanceMethod ({ cls := "InputRoomModel", name := "signal", desc := "(I)Z" } : Jvm.MethodName)) ∈ jT := jT_in (n := 520) rfl rfl
set_option maxRecDepth 100000 in
theorem t_521 : (Jvm.Cond.selects "InputRoomModel" ({ cls := "InputRoomModel", name := "signal", desc := "(I)Z" } : Jvm.MethodName) ({ cls := "InputRoomModel", name := "signal", desc := "(I)Z" } : Jvm.MethodName)) ∈ jT := jT_in (n := 521) rfl rfl
set_option maxRecDepth 100000 in
theorem t_522 : (Jvm.Cond.code ({ cls := "InputRoomModel", name := "signal", desc := "(I)Z" } : Jvm.MethodName) prog_7_method_22_code (2 : Nat) (Option.some Jvm.ClassFile.FieldType.boolean)) ∈ jT := jT_in (n := 522) rfl rfl
set_option maxRecDepth 100000 in
theorem t_523 : (Jvm.Cond.methodLink "InputRoomModel" (127 : Nat) ({ cls := "InputRoomModel", name := "isSemaphore", desc := "(I)Z" } : Jvm.MethodName)) ∈ jT := jT_in (n := 523) rfl rfl
set_option maxRecDepth 100000 in
theorem t_524 : (Jvm.Cond.static ({ cls := "InputRoomModel", name := "isSemaphore", desc := "(I)Z" } : Jvm.MethodName)) ∈ jT := jT_in (n := 524) rfl rfl
set_option maxRecDepth 100000 in
theorem t_525 : (Jvm.Cond.code ({ cls := "InputRoomModel", name := "isSemaphore", desc := "(I)Z" } : Jvm.MethodName) prog_7_method_3_code (1 : Nat) (Option.some Jvm.ClassFile.FieldType.boolean)) ∈ jT := jT_in (n := 525) rfl rfl
set_option maxRecDepth 100000 in
theorem t_526 : (Jvm.Cond.methodLink "InputRoomLaw" (40 : Nat) ({ cls := "InputRoomModel", name := "listen", desc := "(I)Z" } : Jvm.MethodName)) ∈ jT := jT_in (n := 526) rfl rfl
set_option maxRecDepth 100000 in
theorem t_527 : (Jvm.Cond.instanceMethod ({ cls := "InputRoomModel", name := "listen", desc := "(I)Z" } : Jvm.MethodName)) ∈ jT := jT_in (n := 527) rfl rfl
set_option maxRecDepth 100000 in
theorem t_528 : (Jvm.Cond.selects "InputRoomModel" ({ cls := "InputRoomModel", name := "listen", desc := "(I)Z" } : Jvm.MethodName) ({ cls := "InputRoomModel", name := "listen", desc := "(I)Z" } : Jvm.MethodName)) ∈ jT := jT_in (n := 528) rfl rfl
set_option maxRecDepth 100000 in
theorem t_529 : (Jvm.Cond.code ({ cls := "InputRoomModel", name := "listen", desc := "(I)Z" } : Jvm.MethodName) prog_7_method_23_code (2 : Nat) (Option.some Jvm.ClassFile.FieldType.boolean)) ∈ jT := jT_in (n := 529) rfl rfl
set_option maxRecDepth 100000 in
theorem t_530 : (Jvm.Cond.methodLink "InputRoomLaw" (44 : Nat) ({ cls := "InputRoomModel", name := "alarm", desc := "(II)Z" } : Jvm.MethodName)) ∈ jT := jT_in (n := 530) rfl rfl
set_option maxRecDepth 100000 in
theorem t_531 : (Jvm.Cond.instanceMethod ({ cls := "InputRoomModel", name := "alarm", desc := "(II)Z" } : Jvm.MethodName)) ∈ jT := jT_in (n := 531) rfl rfl
set_option maxRecDepth 100000 in
theorem t_532 : (Jvm.Cond.selects "InputRoomModel" ({ cls := "InputRoomModel", name := "alarm", desc := "(II)Z" } : Jvm.MethodName) ({ cls := "InputRoomModel", name := "alarm", desc := "(II)Z" } : Jvm.MethodName)) ∈ jT := jT_in (n := 532) rfl rfl
set_option maxRecDepth 100000 in
theorem t_533 : (Jvm.Cond.code ({ cls := "InputRoomModel", name := "alarm", desc := "(II)Z" } : Jvm.MethodName) prog_7_method_24_code (3 : Nat) (Option.some Jvm.ClassFile.FieldType.boolean)) ∈ jT := jT_in (n := 533) rfl rfl
set_option maxRecDepth 100000 in
theorem t_534 : (Jvm.Cond.constant "InputRoomModel" (130 : Nat) (1000000 : Int32)) ∈ jT := jT_in (n := 534) rfl rfl
set_option maxRecDepth 100000 in
theorem t_535 : (Jvm.Cond.methodLink "InputRoomLaw" (49 : Nat) ({ cls := "InputRoomModel", name := "word", desc := "(I)I" } : Jvm.MethodName)) ∈ jT := jT_in (n := 535) rfl rfl
set_option maxRecDepth 100000 in
theorem t_536 : (Jvm.Cond.instanceMethod ({ cls := "InputRoomModel", name := "word", desc := "(I)I" } : Jvm.MethodName)) ∈ jT := jT_in (n := 536) rfl rfl
set_option maxRecDepth 100000 in
theorem t_537 : (Jvm.Cond.selects "InputRoomModel" ({ cls := "InputRoomModel", name := "word", desc := "(I)I" } : Jvm.MethodName) ({ cls := "InputRoomModel", name := "word", desc := "(I)I" } : Jvm.MethodName)) ∈ jT := jT_in (n := 537) rfl rfl
set_option maxRecDepth 100000 in
theorem t_538 : (Jvm.Cond.code ({ cls := "InputRoomModel", name := "word", desc := "(I)I" } : Jvm.MethodName) prog_7_method_25_code (2 : Nat) (Option.some Jvm.ClassFile.FieldType.int)) ∈ jT := jT_in (n := 538) rfl rfl
set_option maxRecDepth 100000 in
theorem t_539 : (Jvm.Cond.constant "InputRoomModel" (131 : Nat) (65535 : Int32)) ∈ jT := jT_in (n := 539) rfl rfl
set_option maxRecDepth 100000 in
theorem t_540 : (Jvm.Cond.methodLink "InputRoomLaw" (57 : Nat) ({ cls := "InputRoomModel", name := "active", desc := "()I" } : Jvm.MethodName)) ∈ jT := jT_in (n := 540) rfl rfl
set_option maxRecDepth 100000 in
theorem t_541 : (Jvm.Cond.instanceMethod ({ cls := "InputRoomModel", name := "active", desc := "()I" } : Jvm.MethodName)) ∈ jT := jT_in (n := 541) rfl rfl
set_option maxRecDepth 100000 in
theorem t_542 : (Jvm.Cond.selects "InputRoomModel" ({ cls := "InputRoomModel", name := "active", desc := "()I" } : Jvm.MethodName) ({ cls := "InputRoomModel", name := "active", desc := "()I" } : Jvm.MethodName)) ∈ jT := jT_in (n := 542) rfl rfl
set_option maxRecDepth 100000 in
theorem t_543 : (Jvm.Cond.code ({ cls := "InputRoomModel", name := "active", desc := "()I" } : Jvm.MethodName) prog_7_method_26_code (1 : Nat) (Option.some Jvm.ClassFile.FieldType.int)) ∈ jT := jT_in (n := 543) rfl rfl
set_option maxRecDepth 100000 in
theorem t_544 : (Jvm.Cond.methodLink "InputRoomLaw" (61 : Nat) ({ cls := "InputRoomModel", name := "present", desc := "()I" } : Jvm.MethodName)) ∈ jT := jT_in (n := 544) rfl rfl
set_option maxRecDepth 100000 in
theorem t_545 : (Jvm.Cond.instanceMethod ({ cls := "InputRoomModel", name := "present", desc := "()I" } : Jvm.MethodName)) ∈ jT := jT_in (n := 545) rfl rfl
set_option maxRecDepth 100000 in
theorem t_546 : (Jvm.Cond.selects "InputRoomModel" ({ cls := "InputRoomModel", name := "present", desc := "()I" } : Jvm.MethodName) ({ cls := "InputRoomModel", name := "present", desc := "()I" } : Jvm.MethodName)) ∈ jT := jT_in (n := 546) rfl rfl
set_option maxRecDepth 100000 in
theorem t_547 : (Jvm.Cond.code ({ cls := "InputRoomModel", name := "present", desc := "()I" } : Jvm.MethodName) prog_7_method_27_code (1 : Nat) (Option.some Jvm.ClassFile.FieldType.int)) ∈ jT := jT_in (n := 547) rfl rfl
set_option maxRecDepth 100000 in
theorem t_548 : (Jvm.Cond.methodLink "InputRoomLaw" (65 : Nat) ({ cls := "InputRoomModel", name := "clock", desc := "()I" } : Jvm.MethodName)) ∈ jT := jT_in (n := 548) rfl rfl
set_option maxRecDepth 100000 in
theorem t_549 : (Jvm.Cond.instanceMethod ({ cls := "InputRoomModel", name := "clock", desc := "()I" } : Jvm.MethodName)) ∈ jT := jT_in (n := 549) rfl rfl
set_option maxRecDepth 100000 in
theorem t_550 : (Jvm.Cond.selects "InputRoomModel" ({ cls := "InputRoomModel", name := "clock", desc := "()I" } : Jvm.MethodName) ({ cls := "InputRoomModel", name := "clock", desc := "()I" } : Jvm.MethodName)) ∈ jT := jT_in (n := 550) rfl rfl
set_option maxRecDepth 100000 in
theorem t_551 : (Jvm.Cond.code ({ cls := "InputRoomModel", name := "clock", desc := "()I" } : Jvm.MethodName) prog_7_method_28_code (1 : Nat) (Option.some Jvm.ClassFile.FieldType.int)) ∈ jT := jT_in (n := 551) rfl rfl
set_option maxRecDepth 100000 in
theorem t_552 : (Jvm.Cond.methodLink "InputRoomLaw" (70 : Nat) ({ cls := "InputRoomModel", name := "codes", desc := "()J" } : Jvm.MethodName)) ∈ jT := jT_in (n := 552) rfl rfl
set_option maxRecDepth 100000 in
theorem t_553 : (Jvm.Cond.instanceMethod ({ cls := "InputRoomModel", name := "codes", desc := "()J" } : Jvm.MethodName)) ∈ jT := jT_in (n := 553) rfl rfl
set_option maxRecDepth 100000 in
theorem t_554 : (Jvm.Cond.selects "InputRoomModel" ({ cls := "InputRoomModel", name := "codes", desc := "()J" } : Jvm.MethodName) ({ cls := "InputRoomModel", name := "codes", desc := "()J" } : Jvm.MethodName)) ∈ jT := jT_in (n := 554) rfl rfl
set_option maxRecDepth 100000 in
theorem t_555 : (Jvm.Cond.code ({ cls := "InputRoomModel", name := "codes", desc := "()J" } : Jvm.MethodName) prog_7_method_29_code (1 : Nat) (Option.some Jvm.ClassFile.FieldType.long)) ∈ jT := jT_in (n := 555) rfl rfl
set_option maxRecDepth 100000 in
theorem t_556 : (Jvm.Cond.methodLink "InputRoomLaw" (74 : Nat) ({ cls := "InputRoomModel", name := "done", desc := "(I)I" } : Jvm.MethodName)) ∈ jT := jT_in (n := 556) rfl rfl
set_option maxRecDepth 100000 in
theorem t_557 : (Jvm.Cond.instanceMethod ({ cls := "InputRoomModel", name := "done", desc := "(I)I" } : Jvm.MethodName)) ∈ jT := jT_in (n := 557) rfl rfl
set_option maxRecDepth 100000 in
theorem t_558 : (Jvm.Cond.selects "InputRoomModel" ({ cls := "InputRoomModel", name := "done", desc := "(I)I" } : Jvm.MethodName) ({ cls := "InputRoomModel", name := "done", desc := "(I)I" } : Jvm.MethodName)) ∈ jT := jT_in (n := 558) rfl rfl
set_option maxRecDepth 100000 in
theorem t_559 : (Jvm.Cond.code ({ cls := "InputRoomModel", name := "done", desc := "(I)I" } : Jvm.MethodName) prog_7_method_30_code (2 : Nat) (Option.some Jvm.ClassFile.FieldType.int)) ∈ jT := jT_in (n := 559) rfl rfl
set_option maxRecDepth 100000 in
theorem t_560 : (Jvm.Cond.methodLink "InputRoomLaw" (78 : Nat) ({ cls := "InputRoomModel", name := "row", desc := "(I)I" } : Jvm.MethodName)) ∈ jT := jT_in (n := 560) rfl rfl
set_option maxRecDepth 100000 in
theorem t_561 : (Jvm.Cond.instanceMethod ({ cls := "InputRoomModel", name := "row", desc := "(I)I" } : Jvm.MethodName)) ∈ jT := jT_in (n := 561) rfl rfl
set_option maxRecDepth 100000 in
theorem t_562 : (Jvm.Cond.selects "InputRoomModel" ({ cls := "InputRoomModel", name := "row", desc := "(I)I" } : Jvm.MethodName) ({ cls := "InputRoomModel", name := "row", desc := "(I)I" } : Jvm.MethodName)) ∈ jT := jT_in (n := 562) rfl rfl
set_option maxRecDepth 100000 in
theorem t_563 : (Jvm.Cond.code ({ cls := "InputRoomModel", name := "row", desc := "(I)I" } : Jvm.MethodName) prog_7_method_31_code (2 : Nat) (Option.some Jvm.ClassFile.FieldType.int)) ∈ jT := jT_in (n := 563) rfl rfl
set_option maxRecDepth 100000 in
theorem t_564 : (Jvm.Cond.methodLink "InputRoomLaw" (83 : Nat) ({ cls := "InputRoomModel", name := "at", desc := "(II)I" } : Jvm.MethodName)) ∈ jT := jT_in (n := 564) rfl rfl
set_option maxRecDepth 100000 in
theorem t_565 : (Jvm.Cond.instanceMethod ({ cls := "InputRoomModel", name := "at", desc := "(II)I" } : Jvm.MethodName)) ∈ jT := jT_in (n := 565) rfl rfl
set_option maxRecDepth 100000 in
theorem t_566 : (Jvm.Cond.selects "InputRoomModel" ({ cls := "InputRoomModel", name := "at", desc := "(II)I" } : Jvm.MethodName) ({ cls := "InputRoomModel", name := "at", desc := "(II)I" } : Jvm.MethodName)) ∈ jT := jT_in (n := 566) rfl rfl
set_option maxRecDepth 100000 in
theorem t_567 : (Jvm.Cond.code ({ cls := "InputRoomModel", name := "at", desc := "(II)I" } : Jvm.MethodName) prog_7_method_32_code (7 : Nat) (Option.some Jvm.ClassFile.FieldType.int)) ∈ jT := jT_in (n := 567) rfl rfl
set_option maxRecDepth 100000 in
theorem t_568 : (Jvm.Cond.methodLink "InputRoomLaw" (87 : Nat) ({ cls := "InputRoomModel", name := "extra", desc := "(I)I" } : Jvm.MethodName)) ∈ jT := jT_in (n := 568) rfl rfl
set_option maxRecDepth 100000 in
theorem t_569 : (Jvm.Cond.instanceMethod ({ cls := "InputRoomModel", name := "extra", desc := "(I)I" } : Jvm.MethodName)) ∈ jT := jT_in (n := 569) rfl rfl
set_option maxRecDepth 100000 in
theorem t_570 : (Jvm.Cond.selects "InputRoomModel" ({ cls := "InputRoomModel", name := "extra", desc := "(I)I" } : Jvm.MethodName) ({ cls := "InputRoomModel", name := "extra", desc := "(I)I" } : Jvm.MethodName)) ∈ jT := jT_in (n := 570) rfl rfl
set_option maxRecDepth 100000 in
theorem t_571 : (Jvm.Cond.code ({ cls := "InputRoomModel", name := "extra", desc := "(I)I" } : Jvm.MethodName) prog_7_method_33_code (2 : Nat) (Option.some Jvm.ClassFile.FieldType.int)) ∈ jT := jT_in (n := 571) rfl rfl
set_option maxRecDepth 100000 in
theorem t_572 : (Jvm.Cond.methodLink "InputRoomLaw" (91 : Nat) ({ cls := "InputRoomModel", name := "wordAt", desc := "(I)I" } : Jvm.MethodName)) ∈ jT := jT_in (n := 572) rfl rfl
set_option maxRecDepth 100000 in
theorem t_573 : (Jvm.Cond.instanceMethod ({ cls := "InputRoomModel", name := "wordAt", desc := "(I)I" } : Jvm.MethodName)) ∈ jT := jT_in (n := 573) rfl rfl
set_option maxRecDepth 100000 in
theorem t_574 : (Jvm.Cond.selects "InputRoomModel" ({ cls := "InputRoomModel", name := "wordAt", desc := "(I)I" } : Jvm.MethodName) ({ cls := "InputRoomModel", name := "wordAt", desc := "(I)I" } : Jvm.MethodName)) ∈ jT := jT_in (n := 574) rfl rfl
set_option maxRecDepth 100000 in
theorem t_575 : (Jvm.Cond.code ({ cls := "InputRoomModel", name := "wordAt", desc := "(I)I" } : Jvm.MethodName) prog_7_method_34_code (2 : Nat) (Option.some Jvm.ClassFile.FieldType.int)) ∈ jT := jT_in (n := 575) rfl rfl
set_option maxRecDepth 100000 in
theorem t_576 : (Jvm.Cond.methodLink "InputRoomLaw" (95 : Nat) ({ cls := "InputRoomModel", name := "input", desc := "()I" } : Jvm.MethodName)) ∈ jT := jT_in (n := 576) rfl rfl
set_option maxRecDepth 100000 in
theorem t_577 : (Jvm.Cond.instanceMethod ({ cls := "InputRoomModel", name := "input", desc := "()I" } : Jvm.MethodName)) ∈ jT := jT_in (n := 577) rfl rfl
set_option maxRecDepth 100000 in
theorem t_578 : (Jvm.Cond.selects "InputRoomModel" ({ cls := "InputRoomModel", name := "input", desc := "()I" } : Jvm.MethodName) ({ cls := "InputRoomModel", name := "input", desc := "()I" } : Jvm.MethodName)) ∈ jT := jT_in (n := 578) rfl rfl
set_option maxRecDepth 100000 in
theorem t_579 : (Jvm.Cond.code ({ cls := "InputRoomModel", name := "input", desc := "()I" } : Jvm.MethodName) prog_7_method_35_code (1 : Nat) (Option.some Jvm.ClassFile.FieldType.int)) ∈ jT := jT_in (n := 579) rfl rfl
set_option maxRecDepth 100000 in
theorem t_580 : (Jvm.Cond.methodLink "InputRoomLaw" (99 : Nat) ({ cls := "InputRoomModel", name := "tick", desc := "()I" } : Jvm.MethodName)) ∈ jT := jT_in (n := 580) rfl rfl
set_option maxRecDepth 100000 in
theorem t_581 : (Jvm.Cond.instanceMethod ({ cls := "InputRoomModel", name := "tick", desc := "()I" } : Jvm.MethodName)) ∈ jT := jT_in (n := 581) rfl rfl
set_option maxRecDepth 100000 in
theorem t_582 : (Jvm.Cond.selects "InputRoomModel" ({ cls := "InputRoomModel", name := "tick", desc := "()I" } : Jvm.MethodName) ({ cls := "InputRoomModel", name := "tick", desc := "()I" } : Jvm.MethodName)) ∈ jT := jT_in (n := 582) rfl rfl
set_option maxRecDepth 100000 in
theorem t_583 : (Jvm.Cond.code ({ cls := "InputRoomModel", name := "tick", desc := "()I" } : Jvm.MethodName) prog_7_method_36_code (1 : Nat) (Option.some Jvm.ClassFile.FieldType.int)) ∈ jT := jT_in (n := 583) rfl rfl
theorem t_47 : (Jvm.Cond.arrayOver (Jvm.ClassFile.FieldType.object "InputRoom$Proc")) ∈ lw_tbl := List.mem_of_getElem? (i := 47) rfl
theorem t_49 : (Jvm.Cond.arrayOver (Jvm.ClassFile.FieldType.object "InputRoom$Row")) ∈ lw_tbl := List.mem_of_getElem? (i := 49) rfl
theorem t_51 : (Jvm.Cond.arrayOver (Jvm.ClassFile.FieldType.object "InputRoom$Semaphore")) ∈ lw_tbl := List.mem_of_getElem? (i := 51) rfl
theorem t_54 : (Jvm.Cond.methodLinkNest "InputRoom" (29 : Nat) ({ cls := "InputRoom$Words", name := "<init>", desc := "()V" } : Jvm.MethodName) "InputRoom") ∈ lw_tbl := List.mem_of_getElem? (i := 54) rfl
theorem in_P : ∀ w ∈ u_ws "InputRoom$Proc" T_P 7, w ∈ jT := by
  intro w hw
  obtain ⟨k, hk, rfl⟩ := List.mem_map.mp hw
  have hk := List.mem_range.mp hk
  match k, hk with
  | 0, _ => exact t_166
  | 1, _ => exact t_168
  | 2, _ => exact t_170
  | 3, _ => exact t_172
  | 4, _ => exact t_174
  | 5, _ => exact t_176
  | 6, _ => exact t_178
  | k + 7, h => exact absurd h (by omega)
theorem in_R : ∀ w ∈ u_ws "InputRoom$Row" T_R 3, w ∈ jT := by
  intro w hw
  obtain ⟨k, hk, rfl⟩ := List.mem_map.mp hw
  have hk := List.mem_range.mp hk
  match k, hk with
  | 0, _ => exact t_80
  | 1, _ => exact t_82
  | 2, _ => exact t_84
  | k + 3, h => exact absurd h (by omega)
theorem in_S : ∀ w ∈ u_ws "InputRoom$Semaphore" T_S 3, w ∈ jT := by
  intro w hw
  obtain ⟨k, hk, rfl⟩ := List.mem_map.mp hw
  have hk := List.mem_range.mp hk
  match k, hk with
  | 0, _ => exact t_99
  | 1, _ => exact t_101
  | 2, _ => exact t_103
  | k + 3, h => exact absurd h (by omega)
theorem in_W : ∀ w ∈ u_ws "InputRoom$Words" T_W 4, w ∈ jT := by
  intro w hw
  obtain ⟨k, hk, rfl⟩ := List.mem_map.mp hw
  have hk := List.mem_range.mp hk
  match k, hk with
  | 0, _ => exact t_62
  | 1, _ => exact t_64
  | 2, _ => exact t_66
  | 3, _ => exact t_68
  | k + 4, h => exact absurd h (by omega)
theorem in_X : ∀ w ∈ u_ws "InputRoom" T_X 12, w ∈ jT := by
  intro w hw
  obtain ⟨k, hk, rfl⟩ := List.mem_map.mp hw
  have hk := List.mem_range.mp hk
  match k, hk with
  | 0, _ => exact t_118
  | 1, _ => exact t_120
  | 2, _ => exact t_122
  | 3, _ => exact t_124
  | 4, _ => exact t_126
  | 5, _ => exact t_128
  | 6, _ => exact t_130
  | 7, _ => exact t_132
  | 8, _ => exact t_134
  | 9, _ => exact t_136
  | 10, _ => exact t_138
  | 11, _ => exact t_140
  | k + 12, h => exact absurd h (by omega)
theorem in_M : ∀ w ∈ u_ws "InputRoomModel" T_M 21, w ∈ jT := by
  intro w hw
  obtain ⟨k, hk, rfl⟩ := List.mem_map.mp hw
  have hk := List.mem_range.mp hk
  match k, hk with
  | 0, _ => exact t_397
  | 1, _ => exact t_399
  | 2, _ => exact t_401
  | 3, _ => exact t_403
  | 4, _ => exact t_405
  | 5, _ => exact t_407
  | 6, _ => exact t_409
  | 7, _ => exact t_411
  | 8, _ => exact t_413
  | 9, _ => exact t_415
  | 10, _ => exact t_417
  | 11, _ => exact t_419
  | 12, _ => exact t_421
  | 13, _ => exact t_423
  | 14, _ => exact t_425
  | 15, _ => exact t_427
  | 16, _ => exact t_429
  | 17, _ => exact t_431
  | 18, _ => exact t_433
  | 19, _ => exact t_435
  | 20, _ => exact t_437
  | k + 21, h => exact absurd h (by omega)
def y_X_init : MethodName := ⟨"InputRoom", "<init>", "()V"⟩
abbrev c_X_init : ByteArray := prog_1_method_1_code
def y_X_make : MethodName := ⟨"InputRoom", "make", "(II)Z"⟩
abbrev c_X_make : ByteArray := prog_1_method_2_code
def y_X_plan : MethodName := ⟨"InputRoom", "plan", "(III)I"⟩
abbrev c_X_plan : ByteArray := prog_1_method_3_code
def y_X_wake : MethodName := ⟨"InputRoom", "wake", "(I)Z"⟩
abbrev c_X_wake : ByteArray := prog_1_method_4_code
def y_X_suspend : MethodName := ⟨"InputRoom", "suspend", "()I"⟩
abbrev c_X_suspend : ByteArray := prog_1_method_5_code
def y_X_signal : MethodName := ⟨"InputRoom", "signal", "(I)Z"⟩
abbrev c_X_signal : ByteArray := prog_1_method_6_code
def y_X_listen : MethodName := ⟨"InputRoom", "listen", "(I)Z"⟩
abbrev c_X_listen : ByteArray := prog_1_method_7_code
def y_X_alarm : MethodName := ⟨"InputRoom", "alarm", "(II)Z"⟩
abbrev c_X_alarm : ByteArray := prog_1_method_8_code
def y_X_word : MethodName := ⟨"InputRoom", "word", "(I)I"⟩
abbrev c_X_word : ByteArray := prog_1_method_9_code
def y_X_run : MethodName := ⟨"InputRoom", "run", "(I)I"⟩
abbrev c_X_run : ByteArray := prog_1_method_10_code
def y_X_active : MethodName := ⟨"InputRoom", "active", "()I"⟩
abbrev c_X_active : ByteArray := prog_1_method_11_code
def y_X_present : MethodName := ⟨"InputRoom", "present", "()I"⟩
abbrev c_X_present : ByteArray := prog_1_method_12_code
def y_X_clock : MethodName := ⟨"InputRoom", "clock", "()I"⟩
abbrev c_X_clock : ByteArray := prog_1_method_13_code
def y_X_codes : MethodName := ⟨"InputRoom", "codes", "()J"⟩
abbrev c_X_codes : ByteArray := prog_1_method_14_code
def y_X_done : MethodName := ⟨"InputRoom", "done", "(I)I"⟩
abbrev c_X_done : ByteArray := prog_1_method_15_code
def y_X_row : MethodName := ⟨"InputRoom", "row", "(I)I"⟩
abbrev c_X_row : ByteArray := prog_1_method_16_code
def y_X_at : MethodName := ⟨"InputRoom", "at", "(II)I"⟩
abbrev c_X_at : ByteArray := prog_1_method_17_code
def y_X_extra : MethodName := ⟨"InputRoom", "extra", "(I)I"⟩
abbrev c_X_extra : ByteArray := prog_1_method_18_code
def y_X_wordAt : MethodName := ⟨"InputRoom", "wordAt", "(I)I"⟩
abbrev c_X_wordAt : ByteArray := prog_1_method_19_code
def y_X_input : MethodName := ⟨"InputRoom", "input", "()I"⟩
abbrev c_X_input : ByteArray := prog_1_method_20_code
def y_X_tick : MethodName := ⟨"InputRoom", "tick", "()I"⟩
abbrev c_X_tick : ByteArray := prog_1_method_21_code
def y_X_isSemaphore : MethodName := ⟨"InputRoom", "isSemaphore", "(I)Z"⟩
abbrev c_X_isSemaphore : ByteArray := prog_1_method_22_code
def y_X_numberOf : MethodName := ⟨"InputRoom", "numberOf", "(LInputRoom$Proc;)I"⟩
abbrev c_X_numberOf : ByteArray := prog_1_method_23_code
def y_X_processNumbered : MethodName := ⟨"InputRoom", "processNumbered", "(I)LInputRoom$Proc;"⟩
abbrev c_X_processNumbered : ByteArray := prog_1_method_24_code
def y_X_presentOne : MethodName := ⟨"InputRoom", "presentOne", "()LInputRoom$Proc;"⟩
abbrev c_X_presentOne : ByteArray := prog_1_method_25_code
def y_X_wantChangeTo : MethodName := ⟨"InputRoom", "wantChangeTo", "(LInputRoom$Proc;)V"⟩
abbrev c_X_wantChangeTo : ByteArray := prog_1_method_26_code
def y_X_wakeUp : MethodName := ⟨"InputRoom", "wakeUp", "(LInputRoom$Proc;)V"⟩
abbrev c_X_wakeUp : ByteArray := prog_1_method_27_code
def y_X_putPresentAside : MethodName := ⟨"InputRoom", "putPresentAside", "()V"⟩
abbrev c_X_putPresentAside : ByteArray := prog_1_method_28_code
def y_X_signalOnce : MethodName := ⟨"InputRoom", "signalOnce", "(LInputRoom$Semaphore;)V"⟩
abbrev c_X_signalOnce : ByteArray := prog_1_method_29_code
def y_X_waitFor : MethodName := ⟨"InputRoom", "waitFor", "(LInputRoom$Semaphore;)V"⟩
abbrev c_X_waitFor : ByteArray := prog_1_method_30_code
def y_X_giveWay : MethodName := ⟨"InputRoom", "giveWay", "()V"⟩
abbrev c_X_giveWay : ByteArray := prog_1_method_31_code
def y_X_setAlarm : MethodName := ⟨"InputRoom", "setAlarm", "(LInputRoom$Semaphore;I)V"⟩
abbrev c_X_setAlarm : ByteArray := prog_1_method_32_code
def y_X_doCode : MethodName := ⟨"InputRoom", "doCode", "(LInputRoom$Proc;)V"⟩
abbrev c_X_doCode : ByteArray := prog_1_method_33_code
def y_X_doAct : MethodName := ⟨"InputRoom", "doAct", "(I)V"⟩
abbrev c_X_doAct : ByteArray := prog_1_method_34_code
def y_X_doBehind : MethodName := ⟨"InputRoom", "doBehind", "()V"⟩
abbrev c_X_doBehind : ByteArray := prog_1_method_35_code
def y_X_settle : MethodName := ⟨"InputRoom", "settle", "()V"⟩
abbrev c_X_settle : ByteArray := prog_1_method_36_code
def y_X_signalNewWords : MethodName := ⟨"InputRoom", "signalNewWords", "()V"⟩
abbrev c_X_signalNewWords : ByteArray := prog_1_method_37_code
def y_X_signalDueAlarm : MethodName := ⟨"InputRoom", "signalDueAlarm", "()V"⟩
abbrev c_X_signalDueAlarm : ByteArray := prog_1_method_38_code
def y_M_init : MethodName := ⟨"InputRoomModel", "<init>", "()V"⟩
abbrev c_M_init : ByteArray := prog_7_method_1_code
def y_M_isMade : MethodName := ⟨"InputRoomModel", "isMade", "(I)Z"⟩
abbrev c_M_isMade : ByteArray := prog_7_method_2_code
def y_M_isSemaphore : MethodName := ⟨"InputRoomModel", "isSemaphore", "(I)Z"⟩
abbrev c_M_isSemaphore : ByteArray := prog_7_method_3_code
def y_M_come : MethodName := ⟨"InputRoomModel", "come", "(II)V"⟩
abbrev c_M_come : ByteArray := prog_7_method_4_code
def y_M_first : MethodName := ⟨"InputRoomModel", "first", "(I)I"⟩
abbrev c_M_first : ByteArray := prog_7_method_5_code
def y_M_present0 : MethodName := ⟨"InputRoomModel", "present0", "()I"⟩
abbrev c_M_present0 : ByteArray := prog_7_method_6_code
def y_M_want : MethodName := ⟨"InputRoomModel", "want", "(I)V"⟩
abbrev c_M_want : ByteArray := prog_7_method_7_code
def y_M_rouse : MethodName := ⟨"InputRoomModel", "rouse", "(I)V"⟩
abbrev c_M_rouse : ByteArray := prog_7_method_8_code
def y_M_putAside : MethodName := ⟨"InputRoomModel", "putAside", "()V"⟩
abbrev c_M_putAside : ByteArray := prog_7_method_9_code
def y_M_signal0 : MethodName := ⟨"InputRoomModel", "signal0", "(I)V"⟩
abbrev c_M_signal0 : ByteArray := prog_7_method_10_code
def y_M_await0 : MethodName := ⟨"InputRoomModel", "await0", "(I)V"⟩
abbrev c_M_await0 : ByteArray := prog_7_method_11_code
def y_M_giveWay : MethodName := ⟨"InputRoomModel", "giveWay", "()V"⟩
abbrev c_M_giveWay : ByteArray := prog_7_method_12_code
def y_M_dropWord : MethodName := ⟨"InputRoomModel", "dropWord", "()V"⟩
abbrev c_M_dropWord : ByteArray := prog_7_method_13_code
def y_M_act : MethodName := ⟨"InputRoomModel", "act", "(I)V"⟩
abbrev c_M_act : ByteArray := prog_7_method_14_code
def y_M_post : MethodName := ⟨"InputRoomModel", "post", "(I)V"⟩
abbrev c_M_post : ByteArray := prog_7_method_15_code
def y_M_behind : MethodName := ⟨"InputRoomModel", "behind", "()V"⟩
abbrev c_M_behind : ByteArray := prog_7_method_16_code
def y_M_run : MethodName := ⟨"InputRoomModel", "run", "(I)I"⟩
abbrev c_M_run : ByteArray := prog_7_method_17_code
def y_M_make : MethodName := ⟨"InputRoomModel", "make", "(II)Z"⟩
abbrev c_M_make : ByteArray := prog_7_method_18_code
def y_M_plan : MethodName := ⟨"InputRoomModel", "plan", "(III)I"⟩
abbrev c_M_plan : ByteArray := prog_7_method_19_code
def y_M_wake : MethodName := ⟨"InputRoomModel", "wake", "(I)Z"⟩
abbrev c_M_wake : ByteArray := prog_7_method_20_code
def y_M_suspend : MethodName := ⟨"InputRoomModel", "suspend", "()I"⟩
abbrev c_M_suspend : ByteArray := prog_7_method_21_code
def y_M_signal : MethodName := ⟨"InputRoomModel", "signal", "(I)Z"⟩
abbrev c_M_signal : ByteArray := prog_7_method_22_code
def y_M_listen : MethodName := ⟨"InputRoomModel", "listen", "(I)Z"⟩
abbrev c_M_listen : ByteArray := prog_7_method_23_code
def y_M_alarm : MethodName := ⟨"InputRoomModel", "alarm", "(II)Z"⟩
abbrev c_M_alarm : ByteArray := prog_7_method_24_code
def y_M_word : MethodName := ⟨"InputRoomModel", "word", "(I)I"⟩
abbrev c_M_word : ByteArray := prog_7_method_25_code
def y_M_active : MethodName := ⟨"InputRoomModel", "active", "()I"⟩
abbrev c_M_active : ByteArray := prog_7_method_26_code
def y_M_present : MethodName := ⟨"InputRoomModel", "present", "()I"⟩
abbrev c_M_present : ByteArray := prog_7_method_27_code
def y_M_clock : MethodName := ⟨"InputRoomModel", "clock", "()I"⟩
abbrev c_M_clock : ByteArray := prog_7_method_28_code
def y_M_codes : MethodName := ⟨"InputRoomModel", "codes", "()J"⟩
abbrev c_M_codes : ByteArray := prog_7_method_29_code
def y_M_done : MethodName := ⟨"InputRoomModel", "done", "(I)I"⟩
abbrev c_M_done : ByteArray := prog_7_method_30_code
def y_M_row : MethodName := ⟨"InputRoomModel", "row", "(I)I"⟩
abbrev c_M_row : ByteArray := prog_7_method_31_code
def y_M_at : MethodName := ⟨"InputRoomModel", "at", "(II)I"⟩
abbrev c_M_at : ByteArray := prog_7_method_32_code
def y_M_extra : MethodName := ⟨"InputRoomModel", "extra", "(I)I"⟩
abbrev c_M_extra : ByteArray := prog_7_method_33_code
def y_M_wordAt : MethodName := ⟨"InputRoomModel", "wordAt", "(I)I"⟩
abbrev c_M_wordAt : ByteArray := prog_7_method_34_code
def y_M_input : MethodName := ⟨"InputRoomModel", "input", "()I"⟩
abbrev c_M_input : ByteArray := prog_7_method_35_code
def y_M_tick : MethodName := ⟨"InputRoomModel", "tick", "()I"⟩
abbrev c_M_tick : ByteArray := prog_7_method_36_code
def y_P_init : MethodName := ⟨"InputRoom$Proc", "<init>", "(IILInputRoom$Row;)V"⟩
abbrev c_P_init : ByteArray := prog_2_method_1_code
def y_P_nextAct : MethodName := ⟨"InputRoom$Proc", "nextAct", "()I"⟩
abbrev c_P_nextAct : ByteArray := prog_2_method_2_code
def y_R_init : MethodName := ⟨"InputRoom$Row", "<init>", "(I)V"⟩
abbrev c_R_init : ByteArray := prog_3_method_1_code
def y_R_isEmpty : MethodName := ⟨"InputRoom$Row", "isEmpty", "()Z"⟩
abbrev c_R_isEmpty : ByteArray := prog_3_method_2_code
def y_R_append : MethodName := ⟨"InputRoom$Row", "append", "(LInputRoom$Proc;)V"⟩
abbrev c_R_append : ByteArray := prog_3_method_3_code
def y_R_takeFirst : MethodName := ⟨"InputRoom$Row", "takeFirst", "()LInputRoom$Proc;"⟩
abbrev c_R_takeFirst : ByteArray := prog_3_method_4_code
def y_R_processAt : MethodName := ⟨"InputRoom$Row", "processAt", "(I)LInputRoom$Proc;"⟩
abbrev c_R_processAt : ByteArray := prog_3_method_5_code
def y_S_init : MethodName := ⟨"InputRoom$Semaphore", "<init>", "(I)V"⟩
abbrev c_S_init : ByteArray := prog_4_method_1_code
def y_W_init : MethodName := ⟨"InputRoom$Words", "<init>", "()V"⟩
abbrev c_W_init : ByteArray := prog_5_method_1_code
def y_W_add : MethodName := ⟨"InputRoom$Words", "add", "(I)I"⟩
abbrev c_W_add : ByteArray := prog_5_method_2_code
def y_W_dropFirst : MethodName := ⟨"InputRoom$Words", "dropFirst", "()V"⟩
abbrev c_W_dropFirst : ByteArray := prog_5_method_3_code
def y_W_get : MethodName := ⟨"InputRoom$Words", "get", "(I)I"⟩
abbrev c_W_get : ByteArray := prog_5_method_4_code
def y_W_takeUntold : MethodName := ⟨"InputRoom$Words", "takeUntold", "()I"⟩
abbrev c_W_takeUntold : ByteArray := prog_5_method_5_code
def y_W_place : MethodName := ⟨"InputRoom$Words", "place", "(I)I"⟩
abbrev c_W_place : ByteArray := prog_5_method_6_code
def y_J_floorMod : MethodName := ⟨"java/lang/Math", "floorMod", "(II)I"⟩
abbrev c_J_floorMod : ByteArray := prog_8_method_50_code
abbrev c_L_law : ByteArray := code
