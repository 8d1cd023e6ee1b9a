theorem mi_X_init : jmw y_X_init c_X_init 2 (none) 0 := ⟨t_42, t_31, by decide, by decide, by decide +kernel⟩
theorem mi_X_make : jmw y_X_make c_X_make 3 (some .boolean) 2 := ⟨t_146, t_31, by decide, by decide, by decide +kernel⟩
theorem mi_X_plan : jmw y_X_plan c_X_plan 6 (some .int) 3 := ⟨t_184, t_31, by decide, by decide, by decide +kernel⟩
theorem mi_X_wake : jmw y_X_wake c_X_wake 3 (some .boolean) 1 := ⟨t_192, t_31, by decide, by decide, by decide +kernel⟩
theorem mi_X_suspend : jmw y_X_suspend c_X_suspend 2 (some .int) 0 := ⟨t_212, t_31, by decide, by decide, by decide +kernel⟩
theorem mi_X_signal : jmw y_X_signal c_X_signal 2 (some .boolean) 1 := ⟨t_224, t_31, by decide, by decide, by decide +kernel⟩
theorem mi_X_listen : jmw y_X_listen c_X_listen 2 (some .boolean) 1 := ⟨t_235, t_31, by decide, by decide, by decide +kernel⟩
theorem mi_X_alarm : jmw y_X_alarm c_X_alarm 3 (some .boolean) 2 := ⟨t_239, t_31, by decide, by decide, by decide +kernel⟩
theorem mi_X_word : jmw y_X_word c_X_word 2 (some .int) 1 := ⟨t_248, t_31, by decide, by decide, by decide +kernel⟩
theorem mi_X_run : jmw y_X_run c_X_run 3 (some .int) 1 := ⟨t_264, t_31, by decide, by decide, by decide +kernel⟩
theorem mi_X_active : jmw y_X_active c_X_active 1 (some .int) 0 := ⟨t_318, t_31, by decide, by decide, by decide +kernel⟩
theorem mi_X_present : jmw y_X_present c_X_present 1 (some .int) 0 := ⟨t_325, t_31, by decide, by decide, by decide +kernel⟩
theorem mi_X_clock : jmw y_X_clock c_X_clock 1 (some .int) 0 := ⟨t_329, t_31, by decide, by decide, by decide +kernel⟩
theorem mi_X_codes : jmw y_X_codes c_X_codes 1 (some .long) 0 := ⟨t_333, t_31, by decide, by decide, by decide +kernel⟩
theorem mi_X_done : jmw y_X_done c_X_done 3 (some .int) 1 := ⟨t_337, t_31, by decide, by decide, by decide +kernel⟩
theorem mi_X_row : jmw y_X_row c_X_row 3 (some .int) 1 := ⟨t_341, t_31, by decide, by decide, by decide +kernel⟩
theorem mi_X_at : jmw y_X_at c_X_at 3 (some .int) 2 := ⟨t_345, t_31, by decide, by decide, by decide +kernel⟩
theorem mi_X_extra : jmw y_X_extra c_X_extra 2 (some .int) 1 := ⟨t_353, t_31, by decide, by decide, by decide +kernel⟩
theorem mi_X_wordAt : jmw y_X_wordAt c_X_wordAt 2 (some .int) 1 := ⟨t_357, t_31, by decide, by decide, by decide +kernel⟩
theorem mi_X_input : jmw y_X_input c_X_input 1 (some .int) 0 := ⟨t_365, t_31, by decide, by decide, by decide +kernel⟩
theorem mi_X_tick : jmw y_X_tick c_X_tick 1 (some .int) 0 := ⟨t_369, t_31, by decide, by decide, by decide +kernel⟩
theorem mi_X_isSemaphore : jmw y_X_isSemaphore c_X_isSemaphore 1 (some .boolean) 1 := ⟨t_227, t_31, by decide, by decide, by decide +kernel⟩
theorem mi_X_numberOf : jmw y_X_numberOf c_X_numberOf 1 (some .int) 1 := ⟨t_321, t_31, by decide, by decide, by decide +kernel⟩
theorem mi_X_processNumbered : jmw y_X_processNumbered c_X_processNumbered 2 (some (.object "InputRoom$Proc")) 1 := ⟨t_188, t_31, by decide, by decide, by decide +kernel⟩
theorem mi_X_presentOne : jmw y_X_presentOne c_X_presentOne 1 (some (.object "InputRoom$Proc")) 0 := ⟨t_196, t_31, by decide, by decide, by decide +kernel⟩
theorem mi_X_wantChangeTo : jmw y_X_wantChangeTo c_X_wantChangeTo 2 (none) 1 := ⟨t_208, t_31, by decide, by decide, by decide +kernel⟩
theorem mi_X_wakeUp : jmw y_X_wakeUp c_X_wakeUp 3 (none) 1 := ⟨t_200, t_31, by decide, by decide, by decide +kernel⟩
theorem mi_X_putPresentAside : jmw y_X_putPresentAside c_X_putPresentAside 3 (none) 0 := ⟨t_216, t_31, by decide, by decide, by decide +kernel⟩
theorem mi_X_signalOnce : jmw y_X_signalOnce c_X_signalOnce 3 (none) 1 := ⟨t_231, t_31, by decide, by decide, by decide +kernel⟩
theorem mi_X_waitFor : jmw y_X_waitFor c_X_waitFor 3 (none) 1 := ⟨t_301, t_31, by decide, by decide, by decide +kernel⟩
theorem mi_X_giveWay : jmw y_X_giveWay c_X_giveWay 2 (none) 0 := ⟨t_305, t_31, by decide, by decide, by decide +kernel⟩
theorem mi_X_setAlarm : jmw y_X_setAlarm c_X_setAlarm 3 (none) 2 := ⟨t_244, t_31, by decide, by decide, by decide +kernel⟩
theorem mi_X_doCode : jmw y_X_doCode c_X_doCode 3 (none) 1 := ⟨t_288, t_31, by decide, by decide, by decide +kernel⟩
theorem mi_X_doAct : jmw y_X_doAct c_X_doAct 2 (none) 1 := ⟨t_297, t_31, by decide, by decide, by decide +kernel⟩
theorem mi_X_doBehind : jmw y_X_doBehind c_X_doBehind 1 (none) 0 := ⟨t_268, t_31, by decide, by decide, by decide +kernel⟩
theorem mi_X_settle : jmw y_X_settle c_X_settle 1 (none) 0 := ⟨t_272, t_31, by decide, by decide, by decide +kernel⟩
theorem mi_X_signalNewWords : jmw y_X_signalNewWords c_X_signalNewWords 3 (none) 0 := ⟨t_276, t_31, by decide, by decide, by decide +kernel⟩
theorem mi_X_signalDueAlarm : jmw y_X_signalDueAlarm c_X_signalDueAlarm 2 (none) 0 := ⟨t_284, t_31, by decide, by decide, by decide +kernel⟩
theorem mi_M_init : jmw y_M_init c_M_init 1 (none) 0 := ⟨t_374, t_35, by decide, by decide, by decide +kernel⟩
theorem mi_M_isMade : jmw y_M_isMade c_M_isMade 2 (some .boolean) 1 := ⟨t_510, t_35, by decide, by decide, by decide +kernel⟩
theorem mi_M_isSemaphore : jmw y_M_isSemaphore c_M_isSemaphore 1 (some .boolean) 1 := ⟨t_525, t_35, by decide, by decide, by decide +kernel⟩
theorem mi_M_come : jmw y_M_come c_M_come 3 (none) 2 := ⟨t_473, t_35, by decide, by decide, by decide +kernel⟩
theorem mi_M_first : jmw y_M_first c_M_first 4 (some .int) 1 := ⟨t_461, t_35, by decide, by decide, by decide +kernel⟩
theorem mi_M_present0 : jmw y_M_present0 c_M_present0 1 (some .int) 0 := ⟨t_469, t_35, by decide, by decide, by decide +kernel⟩
theorem mi_M_want : jmw y_M_want c_M_want 2 (none) 1 := ⟨t_477, t_35, by decide, by decide, by decide +kernel⟩
theorem mi_M_rouse : jmw y_M_rouse c_M_rouse 3 (none) 1 := ⟨t_465, t_35, by decide, by decide, by decide +kernel⟩
theorem mi_M_putAside : jmw y_M_putAside c_M_putAside 3 (none) 0 := ⟨t_489, t_35, by decide, by decide, by decide +kernel⟩
theorem mi_M_signal0 : jmw y_M_signal0 c_M_signal0 3 (none) 1 := ⟨t_457, t_35, by decide, by decide, by decide +kernel⟩
theorem mi_M_await0 : jmw y_M_await0 c_M_await0 3 (none) 1 := ⟨t_485, t_35, by decide, by decide, by decide +kernel⟩
theorem mi_M_giveWay : jmw y_M_giveWay c_M_giveWay 2 (none) 0 := ⟨t_493, t_35, by decide, by decide, by decide +kernel⟩
theorem mi_M_dropWord : jmw y_M_dropWord c_M_dropWord 2 (none) 0 := ⟨t_497, t_35, by decide, by decide, by decide +kernel⟩
theorem mi_M_act : jmw y_M_act c_M_act 2 (none) 1 := ⟨t_481, t_35, by decide, by decide, by decide +kernel⟩
theorem mi_M_post : jmw y_M_post c_M_post 2 (none) 1 := ⟨t_453, t_35, by decide, by decide, by decide +kernel⟩
theorem mi_M_behind : jmw y_M_behind c_M_behind 3 (none) 0 := ⟨t_449, t_35, by decide, by decide, by decide +kernel⟩
theorem mi_M_run : jmw y_M_run c_M_run 5 (some .int) 1 := ⟨t_445, t_35, by decide, by decide, by decide +kernel⟩
theorem mi_M_make : jmw y_M_make c_M_make 3 (some .boolean) 2 := ⟨t_502, t_35, by decide, by decide, by decide +kernel⟩
theorem mi_M_plan : jmw y_M_plan c_M_plan 5 (some .int) 3 := ⟨t_506, t_35, by decide, by decide, by decide +kernel⟩
theorem mi_M_wake : jmw y_M_wake c_M_wake 2 (some .boolean) 1 := ⟨t_514, t_35, by decide, by decide, by decide +kernel⟩
theorem mi_M_suspend : jmw y_M_suspend c_M_suspend 2 (some .int) 0 := ⟨t_518, t_35, by decide, by decide, by decide +kernel⟩
theorem mi_M_signal : jmw y_M_signal c_M_signal 2 (some .boolean) 1 := ⟨t_522, t_35, by decide, by decide, by decide +kernel⟩
theorem mi_M_listen : jmw y_M_listen c_M_listen 2 (some .boolean) 1 := ⟨t_529, t_35, by decide, by decide, by decide +kernel⟩
theorem mi_M_alarm : jmw y_M_alarm c_M_alarm 3 (some .boolean) 2 := ⟨t_533, t_35, by decide, by decide, by decide +kernel⟩
theorem mi_M_word : jmw y_M_word c_M_word 2 (some .int) 1 := ⟨t_538, t_35, by decide, by decide, by decide +kernel⟩
theorem mi_M_active : jmw y_M_active c_M_active 1 (some .int) 0 := ⟨t_543, t_35, by decide, by decide, by decide +kernel⟩
theorem mi_M_present : jmw y_M_present c_M_present 1 (some .int) 0 := ⟨t_547, t_35, by decide, by decide, by decide +kernel⟩
theorem mi_M_clock : jmw y_M_clock c_M_clock 1 (some .int) 0 := ⟨t_551, t_35, by decide, by decide, by decide +kernel⟩
theorem mi_M_codes : jmw y_M_codes c_M_codes 1 (some .long) 0 := ⟨t_555, t_35, by decide, by decide, by decide +kernel⟩
theorem mi_M_done : jmw y_M_done c_M_done 2 (some .int) 1 := ⟨t_559, t_35, by decide, by decide, by decide +kernel⟩
theorem mi_M_row : jmw y_M_row c_M_row 2 (some .int) 1 := ⟨t_563, t_35, by decide, by decide, by decide +kernel⟩
theorem mi_M_at : jmw y_M_at c_M_at 7 (some .int) 2 := ⟨t_567, t_35, by decide, by decide, by decide +kernel⟩
theorem mi_M_extra : jmw y_M_extra c_M_extra 2 (some .int) 1 := ⟨t_571, t_35, by decide, by decide, by decide +kernel⟩
theorem mi_M_wordAt : jmw y_M_wordAt c_M_wordAt 2 (some .int) 1 := ⟨t_575, t_35, by decide, by decide, by decide +kernel⟩
theorem mi_M_input : jmw y_M_input c_M_input 1 (some .int) 0 := ⟨t_579, t_35, by decide, by decide, by decide +kernel⟩
theorem mi_M_tick : jmw y_M_tick c_M_tick 1 (some .int) 0 := ⟨t_583, t_35, by decide, by decide, by decide +kernel⟩
theorem mi_P_init : jmw y_P_init c_P_init 4 (none) 3 := ⟨t_150, t_36, by decide, by decide, by decide +kernel⟩
theorem mi_P_nextAct : jmw y_P_nextAct c_P_nextAct 1 (some .int) 0 := ⟨t_292, t_36, by decide, by decide, by decide +kernel⟩
theorem mi_R_init : jmw y_R_init c_R_init 2 (none) 1 := ⟨t_75, t_33, by decide, by decide, by decide +kernel⟩
theorem mi_R_isEmpty : jmw y_R_isEmpty c_R_isEmpty 1 (some .boolean) 0 := ⟨t_309, t_33, by decide, by decide, by decide +kernel⟩
theorem mi_R_append : jmw y_R_append c_R_append 2 (none) 1 := ⟨t_204, t_33, by decide, by decide, by decide +kernel⟩
theorem mi_R_takeFirst : jmw y_R_takeFirst c_R_takeFirst 2 (some (.object "InputRoom$Proc")) 0 := ⟨t_220, t_33, by decide, by decide, by decide +kernel⟩
theorem mi_R_processAt : jmw y_R_processAt c_R_processAt 4 (some (.object "InputRoom$Proc")) 1 := ⟨t_349, t_33, by decide, by decide, by decide +kernel⟩
theorem mi_S_init : jmw y_S_init c_S_init 2 (none) 1 := ⟨t_90, t_34, by decide, by decide, by decide +kernel⟩
theorem mi_W_init : jmw y_W_init c_W_init 1 (none) 0 := ⟨t_56, t_32, by decide, by decide, by decide +kernel⟩
theorem mi_W_add : jmw y_W_add c_W_add 2 (some .int) 1 := ⟨t_253, t_32, by decide, by decide, by decide +kernel⟩
theorem mi_W_dropFirst : jmw y_W_dropFirst c_W_dropFirst 1 (none) 0 := ⟨t_313, t_32, by decide, by decide, by decide +kernel⟩
theorem mi_W_get : jmw y_W_get c_W_get 2 (some .int) 1 := ⟨t_361, t_32, by decide, by decide, by decide +kernel⟩
theorem mi_W_takeUntold : jmw y_W_takeUntold c_W_takeUntold 2 (some .int) 0 := ⟨t_280, t_32, by decide, by decide, by decide +kernel⟩
theorem mi_W_place : jmw y_W_place c_W_place 2 (some .int) 1 := ⟨t_257, t_32, by decide, by decide, by decide +kernel⟩
theorem mi_J_floorMod : jmw y_J_floorMod c_J_floorMod 3 (some .int) 2 := ⟨t_260, t_37, by decide, by decide, by decide +kernel⟩
section TACMP
variable {p : Program} {l : Launch} {e : Env} {R : Room} {s : State} {m : MethodId} {args : Array Value} {below : List Frame} {meth : Method} {c : Code} {cells slots z : Nat} {Q : State → Prop} {D : va_G} {E : Nat → ClassId} {ad : Nat → Nat → Nat} {lv : Nat → Nat → Prop} {A : Nat → Prop} {H0 : Heap} {cc : ByteArray} {nL : Nat} {own : String}
variable {V : jVT} {pc : Nat} {lsv : List (Option Value)} {rest : List Value}
theorem jmap_inj (hW : jW D jcl jY E ad lv V A H0) {t : Nat} {ox oy : Option Nat} (hx : ∀ x, ox = some x → lv t x) (hy : ∀ x, oy = some x → lv t x) : ox.map (ad t) = oy.map (ad t) ↔ ox = oy := by
  constructor
  · intro h
    cases ox with
    | none => cases oy with
      | none => rfl
      | some y => cases h
    | some x => cases oy with
      | none => cases h
      | some y =>
        have h1 : ad t x = ad t y := Option.some.inj h
        rw [(hW.2 t x t y (hx x rfl) (hy y rfl) h1).2]
  · intro h; rw [h]
theorem jacmp_eq (C : CallFix p m c cc nL s args jT own) {t : Nat} {ox oy : Option Nat} {off : Int} (tgt : Nat) (d : decode cc pc = .ok (.if_acmp .eq off, 3)) (ht : (pc : Int) + off = (tgt : Int)) (hx : ∀ x, ox = some x → lv t x) (hy : ∀ x, oy = some x → lv t x) (kt : ox = oy → J p l e R s m args below meth c Q D jcl jY E ad A H0 nL cells slots z lv V tgt lsv rest) (kf : ¬ ox = oy → J p l e R s m args below meth c Q D jcl jY E ad A H0 nL cells slots z lv V (pc + 3) lsv rest) : J p l e R s m args below meth c Q D jcl jY E ad A H0 nL cells slots z lv V pc lsv (va_rf (oy.map (ad t)) :: va_rf (ox.map (ad t)) :: rest) := by
  intro H locs ls hz hW hS hl
  have hi := jmap_inj (ox := ox) (oy := oy) hW hx hy
  refine lv_acmp_eq C.1 C.2.1 d ht (fun h => kt (hi.mp h) H locs ls hz hW hS hl) (fun h => kf (fun q => h (hi.mpr q)) H locs ls hz hW hS hl)
theorem jacmp_ne (C : CallFix p m c cc nL s args jT own) {t : Nat} {ox oy : Option Nat} {off : Int} (tgt : Nat) (d : decode cc pc = .ok (.if_acmp .ne off, 3)) (ht : (pc : Int) + off = (tgt : Int)) (hx : ∀ x, ox = some x → lv t x) (hy : ∀ x, oy = some x → lv t x) (kt : ¬ ox = oy → J p l e R s m args below meth c Q D jcl jY E ad A H0 nL cells slots z lv V tgt lsv rest) (kf : ox = oy → J p l e R s m args below meth c Q D jcl jY E ad A H0 nL cells slots z lv V (pc + 3) lsv rest) : J p l e R s m args below meth c Q D jcl jY E ad A H0 nL cells slots z lv V pc lsv (va_rf (oy.map (ad t)) :: va_rf (ox.map (ad t)) :: rest) := by
  intro H locs ls hz hW hS hl
  have hi := jmap_inj (ox := ox) (oy := oy) hW hx hy
  refine lv_acmp_ne C.1 C.2.1 d ht (fun h => kt (fun q => h (hi.mpr q)) H locs ls hz hW hS hl) (fun h => kf (hi.mp h) H locs ls hz hW hS hl)
end TACMP
/-! THE CLASS'S STATE: which processes are made; where its references may point -/
def Mk (σ : sT) (x : Nat) : Prop := x < 32 ∧ σ.2.1 1 0 x = some x
def OKs (σ : sT) (lv : Nat → Nat → Prop) : Prop :=
  ((∀ k, k < 6 → lv k 0) ∧ (∀ r, r < 24 → lv 6 r) ∧ (∀ s, s < 16 → lv 7 s)) ∧ (∀ x, Mk σ x → lv 8 x ∧ lv 9 x) ∧
  (∀ x y, x < 32 → σ.2.1 1 0 x = some y → y = x) ∧ (∀ x, Mk σ x → ∃ v, v < 8 ∧ σ.2.1 8 x 2 = some v) ∧
  (∀ x y, Mk σ x → σ.2.1 8 x 6 = some y → Mk σ y) ∧ (∀ r y, r < 24 → (σ.2.1 6 r 1 = some y → Mk σ y) ∧ (σ.2.1 6 r 2 = some y → Mk σ y)) ∧
  (∀ y, (σ.2.1 0 0 4 = some y → Mk σ y) ∧ (σ.2.1 0 0 6 = some y → Mk σ y)) ∧ (∀ y, (σ.2.1 0 0 9 = some y → y < 16) ∧ (σ.2.1 0 0 10 = some y → y < 16))
theorem OKs.k {σ : sT} {lv : Nat → Nat → Prop} (h : OKs σ lv) {k : Nat} (hk : k < 6) : lv k 0 := h.1.1 k hk
theorem OKs.r {σ : sT} {lv : Nat → Nat → Prop} (h : OKs σ lv) {r : Nat} (hr : r < 24) : lv 6 r := h.1.2.1 r hr
theorem OKs.s {σ : sT} {lv : Nat → Nat → Prop} (h : OKs σ lv) {s : Nat} (hs : s < 16) : lv 7 s := h.1.2.2 s hs
theorem OKs.p {σ : sT} {lv : Nat → Nat → Prop} (h : OKs σ lv) {x : Nat} (hx : Mk σ x) : lv 8 x := (h.2.1 x hx).1
theorem OKs.a {σ : sT} {lv : Nat → Nat → Prop} (h : OKs σ lv) {x : Nat} (hx : Mk σ x) : lv 9 x := (h.2.1 x hx).2
theorem OKs.rdy {σ : sT} {lv : Nat → Nat → Prop} (h : OKs σ lv) {x : Nat} (hx : Mk σ x) : ∃ v, v < 8 ∧ σ.2.1 8 x 2 = some v := h.2.2.2.1 x hx
theorem OKs.bh {σ : sT} {lv : Nat → Nat → Prop} (h : OKs σ lv) {x y : Nat} (hx : Mk σ x) (hy : σ.2.1 8 x 6 = some y) : Mk σ y := h.2.2.2.2.1 x y hx hy
theorem OKs.fi {σ : sT} {lv : Nat → Nat → Prop} (h : OKs σ lv) {r y : Nat} (hr : r < 24) (hy : σ.2.1 6 r 1 = some y) : Mk σ y := (h.2.2.2.2.2.1 r y hr).1 hy
theorem OKs.la {σ : sT} {lv : Nat → Nat → Prop} (h : OKs σ lv) {r y : Nat} (hr : r < 24) (hy : σ.2.1 6 r 2 = some y) : Mk σ y := (h.2.2.2.2.2.1 r y hr).2 hy
theorem OKs.ac {σ : sT} {lv : Nat → Nat → Prop} (h : OKs σ lv) {y : Nat} (hy : σ.2.1 0 0 4 = some y) : Mk σ y := (h.2.2.2.2.2.2.1 y).1 hy
theorem OKs.wa {σ : sT} {lv : Nat → Nat → Prop} (h : OKs σ lv) {y : Nat} (hy : σ.2.1 0 0 6 = some y) : Mk σ y := (h.2.2.2.2.2.2.1 y).2 hy
theorem OKs.inp {σ : sT} {lv : Nat → Nat → Prop} (h : OKs σ lv) {y : Nat} (hy : σ.2.1 0 0 9 = some y) : y < 16 := (h.2.2.2.2.2.2.2 y).1 hy
theorem OKs.al {σ : sT} {lv : Nat → Nat → Prop} (h : OKs σ lv) {y : Nat} (hy : σ.2.1 0 0 10 = some y) : y < 16 := (h.2.2.2.2.2.2.2 y).2 hy
theorem OKs.I {σ : sT} {lv : Nat → Nat → Prop} (h : OKs σ lv) {k i j : Nat} {x : Int32} : OKs (sI σ k i j x) lv := h
theorem OKs.L {σ : sT} {lv : Nat → Nat → Prop} (h : OKs σ lv) {k i j : Nat} {x : Int64} : OKs (sL σ k i j x) lv := h
theorem Mk_P {σ : sT} {k i j : Nat} {o : Option Nat} (hk : k ≠ 1) {x : Nat} : Mk (sP σ k i j o) x ↔ Mk σ x := by
  unfold Mk sP
  dsimp only
  rw [if_neg (fun q => hk q.1.symm)]
theorem OKs.P {σ : sT} {lv : Nat → Nat → Prop} (h : OKs σ lv) {k i j : Nat} {o : Option Nat} (hk : k ≠ 1) (h82 : ¬ (k = 8 ∧ j = 2)) (ho : ∀ y, o = some y → (¬ (k = 0 ∧ (j = 9 ∨ j = 10)) → Mk σ y) ∧ ((k = 0 ∧ (j = 9 ∨ j = 10)) → y < 16)) : OKs (sP σ k i j o) lv := by
  obtain ⟨h1, h2, h3, h4, h5, h6, h7, h8⟩ := h
  have hm : ∀ x, Mk (sP σ k i j o) x ↔ Mk σ x := fun x => Mk_P hk
  have key : ∀ a b c y, (sP σ k i j o).2.1 a b c = some y → (a = k ∧ c = j ∧ o = some y) ∨ σ.2.1 a b c = some y := by
    intro a b c y hy
    simp only [sP] at hy
    by_cases hq : a = k ∧ b = i ∧ c = j
    · rw [if_pos hq] at hy; exact Or.inl ⟨hq.1, hq.2.2, hy⟩
    · rw [if_neg hq] at hy; exact Or.inr hy
  refine ⟨h1, fun x hx => h2 x ((hm x).mp hx), fun x y hx hy => ?_, fun x hx => ?_, fun x y hx hy => ?_, fun r y hr => ⟨fun hy => ?_, fun hy => ?_⟩, fun y => ⟨fun hy => ?_, fun hy => ?_⟩, fun y => ⟨fun hy => ?_, fun hy => ?_⟩⟩
  · rcases key _ _ _ _ hy with q | q
    · exact absurd q.1.symm hk
    · exact h3 x y hx q
  · obtain ⟨v, hv, e⟩ := h4 x ((hm x).mp hx)
    refine ⟨v, hv, ?_⟩
    simp only [sP]
    rw [if_neg (fun q => h82 ⟨q.1.symm, q.2.2.symm⟩)]
    exact e
  · rcases key _ _ _ _ hy with ⟨rfl, rfl, q⟩ | q
    · exact (hm y).mpr ((ho y q).1 (by decide))
    · exact (hm y).mpr (h5 x y ((hm x).mp hx) q)
  · rcases key _ _ _ _ hy with ⟨rfl, rfl, q⟩ | q
    · exact (hm y).mpr ((ho y q).1 (by decide))
    · exact (hm y).mpr ((h6 r y hr).1 q)
  · rcases key _ _ _ _ hy with ⟨rfl, rfl, q⟩ | q
    · exact (hm y).mpr ((ho y q).1 (by decide))
    · exact (hm y).mpr ((h6 r y hr).2 q)
  · rcases key _ _ _ _ hy with ⟨rfl, rfl, q⟩ | q
    · exact (hm y).mpr ((ho y q).1 (by decide))
    · exact (hm y).mpr ((h7 y).1 q)
  · rcases key _ _ _ _ hy with ⟨rfl, rfl, q⟩ | q
    · exact (hm y).mpr ((ho y q).1 (by decide))
    · exact (hm y).mpr ((h7 y).2 q)
  · rcases key _ _ _ _ hy with ⟨rfl, rfl, q⟩ | q
    · exact (ho y q).2 (by decide)
    · exact (h8 y).1 q
  · rcases key _ _ _ _ hy with ⟨rfl, rfl, q⟩ | q
    · exact (ho y q).2 (by decide)
    · exact (h8 y).2 q
