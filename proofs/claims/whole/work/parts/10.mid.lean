/-- the goal inside a method's walk -/
abbrev JM (l : Launch) (y : MethodName) (cc : ByteArray) (maxL : Nat) (ret : Option FieldType) (lev : Nat) (D : va_G) (E : Nat → ClassId) (ad : Nat → Nat → Nat) (lv : Nat → Nat → Prop) (p : Program) (e : Env) (s : State) (m : MethodId) (below : List Frame) (meth : Method) (c : Code) (sz : Nat) (vs : List Value) (r : Option Value) (V1 V : jVT) (pc : Nat) (lsv : List (Option Value)) (stk : List Value) : Prop :=
  J p l e (headSpec (Cond.code y cc maxL ret :: jT) { frames := lev, cells := 0, slots := 0, locals := 30 * lev }).room s m vs.toArray below meth c (MQ below (jQ D jcl jY E ad lv sz r lv V1 sz) vs.toArray s 0 0 (jA ad lv sz)) D jcl jY E ad (jA ad lv sz) s.heap maxL 0 0 sz lv V pc lsv stk
theorem i32_m1 (x : Int32) : x + Int32.ofInt (-1) = x - 1 := by rw [Int32.sub_eq_add_neg]; rfl
set_option maxRecDepth 100000 in
set_option maxHeartbeats 4000000 in
theorem k_place {l : Launch} {D : va_G} {E : Nat → ClassId} {ad : Nat → Nat → Nat} {lv : Nat → Nat → Prop} {σ τ : sT} (h : OKs σ lv) {a : Int32} : jM l y_W_place c_W_place 2 (some .int) 1 D E ad lv (jv ad σ τ) [.ref (ad 4 0), .int (a)] (some (.int (cf_place σ a))) (jv ad σ τ) := by
  intro sz
  refine jC.of "InputRoom$Words" (by decide +kernel) rfl rfl (Nat.le_of_ble_eq_true rfl) (by intro v hv; simp only [List.mem_cons, List.not_mem_nil, or_false] at hv; rcases hv with rfl | rfl <;> first | rfl | exact jrf_cat _) ?_
  intro p e s m below meth c C hK hret hlk hnm hsz hAz
  have hb0 : lv 0 0 := h.k (by decide)
  have hb1 : lv 1 0 := h.k (by decide)
  have hb2 : lv 2 0 := h.k (by decide)
  have hb3 : lv 3 0 := h.k (by decide)
  have hb4 : lv 4 0 := h.k (by decide)
  have hb5 : lv 5 0 := h.k (by decide)
  refine j_aload_n C d_W_place_0 rfl rfl ?_
  refine sgI C hK 4 0 1 d_W_place_1 in_W rfl rfl (by decide) t_59 rfl rfl rfl (by assumption) ?_
  refine j_iload_n C d_W_place_4 rfl rfl ?_
  refine j_iadd C d_W_place_5 ?_
  refine j_bipush (v := 64) C d_W_place_6 (by decide) ?_
  refine j_callS C hK hAz (k_fmod (a := (σ.1 4 0 1 + a)) (b := 64) (by decide) _) ⟨jcB C mi_J_floorMod t_258 rfl rfl ⟨by decide, by decide⟩, C.2.2.2.2 _ t_259⟩ rfl rfl (Nat.le_of_ble_eq_true rfl) d_W_place_8 ⟨Nat.zero_le _, Nat.zero_le _⟩ ?_
  refine j_iret C hret hlk d_W_place_11 ?_ ?_ rfl rfl
  · rfl
  · rfl
set_option maxRecDepth 100000 in
set_option maxHeartbeats 4000000 in
theorem k_next {l : Launch} {D : va_G} {E : Nat → ClassId} {ad : Nat → Nat → Nat} {lv : Nat → Nat → Prop} {σ τ : sT} (h : OKs σ lv) {x : Nat} (hx : Mk σ x) : jM l y_P_nextAct c_P_nextAct 1 (some .int) 1 D E ad lv (jv ad σ τ) [.ref (ad 8 x)] (some (.int (cf_next σ x))) (jv ad σ τ) := by
  intro sz
  refine jC.of "InputRoom$Proc" (by decide +kernel) rfl rfl (Nat.le_of_ble_eq_true rfl) (by intro v hv; simp only [List.mem_cons, List.not_mem_nil, or_false] at hv; rcases hv with rfl <;> first | rfl | exact jrf_cat _) ?_
  intro p e s m below meth c C hK hret hlk hnm hsz hAz
  have hlx : lv 8 x := h.p hx
  have hax : lv 9 x := h.a hx
  refine j_aload_n C d_P_nextAct_0 rfl rfl ?_
  refine sgC C hK 8 x 3 d_P_nextAct_1 in_P rfl rfl (by decide) t_158 rfl rfl rfl (by assumption) ?_
  refine j_aload_n C d_P_nextAct_4 rfl rfl ?_
  refine sgI C hK 8 x 4 d_P_nextAct_5 in_P rfl rfl (by decide) t_160 rfl rfl rfl (by assumption) ?_
  refine j_bipush (v := 8) C d_P_nextAct_8 (by decide) ?_
  refine j_callS C hK hAz (k_fmod (a := σ.1 8 x 4) (b := 8) (by decide) _) ⟨jcB C mi_J_floorMod t_293 rfl rfl ⟨by decide, by decide⟩, C.2.2.2.2 _ t_259⟩ rfl rfl (Nat.le_of_ble_eq_true rfl) d_P_nextAct_10 ⟨Nat.zero_le _, Nat.zero_le _⟩ ?_
  refine sia C hK 9 x d_P_nextAct_13 rfl (fmod_in (by decide) (by decide) (by decide)) rfl rfl (by assumption) ?_
  refine j_iret C hret hlk d_P_nextAct_14 ?_ ?_ rfl rfl
  · rfl
  · rfl
set_option maxRecDepth 100000 in
set_option maxHeartbeats 4000000 in
theorem k_drop {l : Launch} {D : va_G} {E : Nat → ClassId} {ad : Nat → Nat → Nat} {lv : Nat → Nat → Prop} {σ τ : sT} (h : OKs σ lv) : jM l y_W_dropFirst c_W_dropFirst 1 (none) 2 D E ad lv (jv ad σ τ) [.ref (ad 4 0)] none (jv ad (cf_drop σ) τ) := by
  intro sz
  refine jC.of "InputRoom$Words" (by decide +kernel) rfl rfl (Nat.le_of_ble_eq_true rfl) (by intro v hv; simp only [List.mem_cons, List.not_mem_nil, or_false] at hv; rcases hv with rfl <;> first | rfl | exact jrf_cat _) ?_
  intro p e s m below meth c C hK hret hlk hnm hsz hAz
  have hb0 : lv 0 0 := h.k (by decide)
  have hb1 : lv 1 0 := h.k (by decide)
  have hb2 : lv 2 0 := h.k (by decide)
  have hb3 : lv 3 0 := h.k (by decide)
  have hb4 : lv 4 0 := h.k (by decide)
  have hb5 : lv 5 0 := h.k (by decide)
  refine j_aload_n C d_W_dropFirst_0 rfl rfl ?_
  refine sgI C hK 4 0 2 d_W_dropFirst_1 in_W rfl rfl (by decide) t_60 rfl rfl rfl (by assumption) ?_
  refine j_if_le C 26 d_W_dropFirst_4 rfl (fun g1 => ?_) (fun g1 => ?_)
  ·
    refine j_vret C hret hlk d_W_dropFirst_26 rfl ?_ rfl rfl
    simp only [cf_drop, g1, if_true, if_false]
  ·
    refine j_aload_n C d_W_dropFirst_7 rfl rfl ?_
    refine j_aload_n C d_W_dropFirst_8 rfl rfl ?_
    refine j_iconst (v := 1) C d_W_dropFirst_9 (by decide) ?_
    refine j_callV C hK hAz 4 0 (k_place (a := 1) h _) (jcV C mi_W_place t_254 t_256 t_7 rfl rfl ⟨by decide, by decide⟩) rfl rfl (by assumption) rfl rfl (Nat.le_of_ble_eq_true rfl) d_W_dropFirst_10 ⟨Nat.zero_le _, Nat.zero_le _⟩ ?_
    refine spI C hK 4 0 1 ty_W tk_W nm_W d_W_dropFirst_13 in_W rfl rfl (by decide) t_59 rfl rfl rfl rfl (cf_place σ 1) rfl rfl (by assumption) ?_
    refine j_aload_n C d_W_dropFirst_16 rfl rfl ?_
    refine j_dup C d_W_dropFirst_17 rfl ?_
    refine sgI C hK 4 0 2 d_W_dropFirst_18 in_W rfl rfl (by decide) t_60 rfl rfl rfl (by assumption) ?_
    refine j_iconst (v := 1) C d_W_dropFirst_21 (by decide) ?_
    refine j_isub C d_W_dropFirst_22 ?_
    refine spI C hK 4 0 2 ty_W tk_W nm_W d_W_dropFirst_23 in_W rfl rfl (by decide) t_60 rfl rfl rfl rfl (((sI σ 4 0 1 (cf_place σ 1)).1 4 0 2 - 1)) rfl rfl (by assumption) ?_
    refine j_vret C hret hlk d_W_dropFirst_26 rfl ?_ rfl rfl
    simp only [cf_drop, g1, if_true, if_false]
    rfl
set_option maxRecDepth 100000 in
set_option maxHeartbeats 4000000 in
theorem k_get {l : Launch} {D : va_G} {E : Nat → ClassId} {ad : Nat → Nat → Nat} {lv : Nat → Nat → Prop} {σ τ : sT} (h : OKs σ lv) {a : Int32} : jM l y_W_get c_W_get 2 (some .int) 2 D E ad lv (jv ad σ τ) [.ref (ad 4 0), .int (a)] (some (.int (cf_wordAt σ a))) (jv ad σ τ) := by
  intro sz
  refine jC.of "InputRoom$Words" (by decide +kernel) rfl rfl (Nat.le_of_ble_eq_true rfl) (by intro v hv; simp only [List.mem_cons, List.not_mem_nil, or_false] at hv; rcases hv with rfl | rfl <;> first | rfl | exact jrf_cat _) ?_
  intro p e s m below meth c C hK hret hlk hnm hsz hAz
  have hb0 : lv 0 0 := h.k (by decide)
  have hb1 : lv 1 0 := h.k (by decide)
  have hb2 : lv 2 0 := h.k (by decide)
  have hb3 : lv 3 0 := h.k (by decide)
  have hb4 : lv 4 0 := h.k (by decide)
  have hb5 : lv 5 0 := h.k (by decide)
  refine j_iload_n C d_W_get_0 rfl rfl ?_
  refine j_if_lt C 25 d_W_get_1 rfl (fun g1 => ?_) (fun g1 => ?_)
  ·
    refine j_iconst (v := -1) C d_W_get_25 (by decide) ?_
    refine j_iret C hret hlk d_W_get_26 ?_ ?_ rfl rfl
    · rw [cf_wordAt, if_neg (by simp only [i32_lt, i32_le, i32_0] at *; omega)]
    · rfl
  ·
    refine j_iload_n C d_W_get_4 rfl rfl ?_
    refine j_aload_n C d_W_get_5 rfl rfl ?_
    refine sgI C hK 4 0 2 d_W_get_6 in_W rfl rfl (by decide) t_60 rfl rfl rfl (by assumption) ?_
    refine j_icmp_ge C 25 d_W_get_9 rfl (fun g2 => ?_) (fun g2 => ?_)
    ·
      refine j_iconst (v := -1) C d_W_get_25 (by decide) ?_
      refine j_iret C hret hlk d_W_get_26 ?_ ?_ rfl rfl
      · rw [cf_wordAt, if_neg (by simp only [i32_lt, i32_le, i32_0] at *; omega)]
      · rfl
    ·
      refine j_aload_n C d_W_get_12 rfl rfl ?_
      refine sgC C hK 4 0 0 d_W_get_13 in_W rfl rfl (by decide) t_58 rfl rfl rfl (by assumption) ?_
      refine j_aload_n C d_W_get_16 rfl rfl ?_
      refine j_iload_n C d_W_get_17 rfl rfl ?_
      refine j_callV C hK hAz 4 0 (k_place (a := a) h _) (jcV C mi_W_place t_254 t_256 t_7 rfl rfl ⟨by decide, by decide⟩) rfl rfl (by assumption) rfl rfl (Nat.le_of_ble_eq_true rfl) d_W_get_18 ⟨Nat.zero_le _, Nat.zero_le _⟩ ?_
      refine sia C hK 5 0 d_W_get_21 rfl (fmod_in (by decide) (by decide) (by decide)) rfl rfl (by assumption) ?_
      refine j_goto C 26 d_W_get_22 rfl ?_
      refine j_iret C hret hlk d_W_get_26 ?_ ?_ rfl rfl
      · rw [cf_wordAt, if_pos (by simp only [i32_lt, i32_le, i32_0] at *; omega)]
      · rfl
set_option maxRecDepth 100000 in
set_option maxHeartbeats 4000000 in
theorem k_add {l : Launch} {D : va_G} {E : Nat → ClassId} {ad : Nat → Nat → Nat} {lv : Nat → Nat → Prop} {σ τ : sT} (h : OKs σ lv) {a : Int32} : jM l y_W_add c_W_add 2 (some .int) 2 D E ad lv (jv ad σ τ) [.ref (ad 4 0), .int (a)] (some (.int (cf_add σ a).1)) (jv ad (cf_add σ a).2 τ) := by
  intro sz
  refine jC.of "InputRoom$Words" (by decide +kernel) rfl rfl (Nat.le_of_ble_eq_true rfl) (by intro v hv; simp only [List.mem_cons, List.not_mem_nil, or_false] at hv; rcases hv with rfl | rfl <;> first | rfl | exact jrf_cat _) ?_
  intro p e s m below meth c C hK hret hlk hnm hsz hAz
  have hb0 : lv 0 0 := h.k (by decide)
  have hb1 : lv 1 0 := h.k (by decide)
  have hb2 : lv 2 0 := h.k (by decide)
  have hb3 : lv 3 0 := h.k (by decide)
  have hb4 : lv 4 0 := h.k (by decide)
  have hb5 : lv 5 0 := h.k (by decide)
  refine j_aload_n C d_W_add_0 rfl rfl ?_
  refine sgI C hK 4 0 2 d_W_add_1 in_W rfl rfl (by decide) t_60 rfl rfl rfl (by assumption) ?_
  refine j_bipush (v := 64) C d_W_add_4 (by decide) ?_
  refine j_icmp_lt C 11 d_W_add_6 rfl (fun g1 => ?_) (fun g1 => ?_)
  ·
    refine j_aload_n C d_W_add_11 rfl rfl ?_
    refine sgC C hK 4 0 0 d_W_add_12 in_W rfl rfl (by decide) t_58 rfl rfl rfl (by assumption) ?_
    refine j_aload_n C d_W_add_15 rfl rfl ?_
    refine j_aload_n C d_W_add_16 rfl rfl ?_
    refine sgI C hK 4 0 2 d_W_add_17 in_W rfl rfl (by decide) t_60 rfl rfl rfl (by assumption) ?_
    refine j_callV C hK hAz 4 0 (k_place (a := σ.1 4 0 2) h _) (jcV C mi_W_place t_254 t_256 t_7 rfl rfl ⟨by decide, by decide⟩) rfl rfl (by assumption) rfl rfl (Nat.le_of_ble_eq_true rfl) d_W_add_20 ⟨Nat.zero_le _, Nat.zero_le _⟩ ?_
    refine j_iload_n C d_W_add_23 rfl rfl ?_
    refine sia_st C hK 5 0 d_W_add_24 rfl (fmod_in (by decide) (by decide) (by decide)) rfl rfl (by assumption) ?_
    refine j_aload_n C d_W_add_25 rfl rfl ?_
    refine j_dup C d_W_add_26 rfl ?_
    refine sgI C hK 4 0 2 d_W_add_27 in_W rfl rfl (by decide) t_60 rfl rfl rfl (by assumption) ?_
    refine j_iconst (v := 1) C d_W_add_30 (by decide) ?_
    refine j_iadd C d_W_add_31 ?_
    refine spI C hK 4 0 2 ty_W tk_W nm_W d_W_add_32 in_W rfl rfl (by decide) t_60 rfl rfl rfl rfl (((sI σ 5 0 (cf_place σ (σ.1 4 0 2)).toNatClampNeg (a)).1 4 0 2 + 1)) rfl rfl (by assumption) ?_
    refine j_aload_n C d_W_add_35 rfl rfl ?_
    refine j_dup C d_W_add_36 rfl ?_
    refine sgI C hK 4 0 3 d_W_add_37 in_W rfl rfl (by decide) t_61 rfl rfl rfl (by assumption) ?_
    refine j_iconst (v := 1) C d_W_add_40 (by decide) ?_
    refine j_iadd C d_W_add_41 ?_
    refine spI C hK 4 0 3 ty_W tk_W nm_W d_W_add_42 in_W rfl rfl (by decide) t_61 rfl rfl rfl rfl (((sI (sI σ 5 0 (cf_place σ (σ.1 4 0 2)).toNatClampNeg (a)) 4 0 2 (((sI σ 5 0 (cf_place σ (σ.1 4 0 2)).toNatClampNeg (a)).1 4 0 2 + 1))).1 4 0 3 + 1)) rfl rfl (by assumption) ?_
    refine j_aload_n C d_W_add_45 rfl rfl ?_
    refine sgI C hK 4 0 2 d_W_add_46 in_W rfl rfl (by decide) t_60 rfl rfl rfl (by assumption) ?_
    refine j_iret C hret hlk d_W_add_49 ?_ ?_ rfl rfl
    · simp only [cf_add, g1, not_true_eq_false, not_false_eq_true, if_true, if_false]; rfl
    · simp only [cf_add, g1, not_true_eq_false, not_false_eq_true, if_true, if_false]; rfl
  ·
    refine j_iconst (v := -1) C d_W_add_9 (by decide) ?_
    refine j_iret C hret hlk d_W_add_10 ?_ ?_ rfl rfl
    · simp only [cf_add, g1, not_true_eq_false, not_false_eq_true, if_true, if_false]
    · simp only [cf_add, g1, not_true_eq_false, not_false_eq_true, if_true, if_false]
set_option maxRecDepth 100000 in
set_option maxHeartbeats 4000000 in
theorem k_wakeUp {l : Launch} {D : va_G} {E : Nat → ClassId} {ad : Nat → Nat → Nat} {lv : Nat → Nat → Prop} {σ τ : sT} (h : OKs σ lv) {x : Nat} (hx : Mk σ x) : jM l y_X_wakeUp c_X_wakeUp 3 (none) 1 D E ad lv (jv ad σ τ) [.ref (ad 0 0), .ref (ad 8 x)] none (jv ad (cf_wake σ x) τ) := by
  intro sz
  refine jC.of "InputRoom" (by decide +kernel) rfl rfl (Nat.le_of_ble_eq_true rfl) (by intro v hv; simp only [List.mem_cons, List.not_mem_nil, or_false] at hv; rcases hv with rfl | rfl <;> first | rfl | exact jrf_cat _) ?_
  intro p e s m below meth c C hK hret hlk hnm hsz hAz
  have hb0 : lv 0 0 := h.k (by decide)
  have hb1 : lv 1 0 := h.k (by decide)
  have hb2 : lv 2 0 := h.k (by decide)
  have hb3 : lv 3 0 := h.k (by decide)
  have hb4 : lv 4 0 := h.k (by decide)
  have hb5 : lv 5 0 := h.k (by decide)
  have hlx : lv 8 x := h.p hx
  obtain ⟨vx, hvx, evx⟩ := h.rdy hx
  have hlvx : lv 6 vx := h.r (by omega)
  have elx : lev σ x = vx := by unfold lev; rw [evx]; rfl
  refine j_aload_n C d_X_wakeUp_0 rfl rfl ?_
  refine j_callV C hK hAz 0 0 (k_pres h _) (jcV C mi_X_presentOne t_193 t_195 t_1 rfl rfl ⟨by decide, by decide⟩) rfl rfl (by assumption) rfl rfl (Nat.le_of_ble_eq_true rfl) d_X_wakeUp_1 ⟨Nat.zero_le _, Nat.zero_le _⟩ ?_
  refine j_astore_nQ C d_X_wakeUp_4 rfl (by decide) ?_
  refine j_aload_nQ C d_X_wakeUp_5 rfl rfl ?_
  refine jnull (o := cf_pres σ) (t := 8) C 29 d_X_wakeUp_6 rfl (fun g1 => ?_) (fun x2 g1 => ?_)
  ·
    try rw [g1]
    refine j_aload_nQ (o := none) C d_X_wakeUp_29 rfl rfl ?_
    refine j_ifnull (o := none) C 41 d_X_wakeUp_30 rfl (fun _ => ?_) (fun _ q => by cases q)
    refine j_aload_n C d_X_wakeUp_41 rfl rfl ?_
    refine j_aload_n C d_X_wakeUp_42 rfl rfl ?_
    refine j_callV C hK hAz 0 0 (k_want (o := some x) h _) (jcV C mi_X_wantChangeTo t_205 t_207 t_3 rfl rfl ⟨by decide, by decide⟩) rfl rfl (by assumption) rfl rfl (Nat.le_of_ble_eq_true rfl) d_X_wakeUp_43 ⟨Nat.zero_le _, Nat.zero_le _⟩ ?_
    refine j_vret C hret hlk d_X_wakeUp_46 rfl ?_ rfl rfl
    simp only [cf_wake, g1, if_true, if_false, elx]
  ·
    try rw [g1]
    have hmx2 : Mk σ x2 := pres_ok h g1
    have hlx2 : lv 8 x2 := h.p hmx2
    obtain ⟨vx2, hvx2, evx2⟩ := h.rdy hmx2
    have hlvx2 : lv 6 vx2 := h.r (by omega)
    have elx2 : lev σ x2 = vx2 := by unfold lev; rw [evx2]; rfl
    refine j_aload_n C d_X_wakeUp_9 rfl rfl ?_
    refine sgI C hK 8 x2 1 d_X_wakeUp_10 in_P rfl rfl (by decide) t_155 rfl rfl rfl (by assumption) ?_
    refine j_aload_n C d_X_wakeUp_13 rfl rfl ?_
    refine sgI C hK 8 x 1 d_X_wakeUp_14 in_P rfl rfl (by decide) t_155 rfl rfl rfl (by assumption) ?_
    refine j_icmp_lt C 29 d_X_wakeUp_17 rfl (fun g5 => ?_) (fun g5 => ?_)
    ·
      refine j_aload_n C d_X_wakeUp_29 rfl rfl ?_
      refine j_ifnull (o := some _) C 41 d_X_wakeUp_30 rfl (fun q => by cases q) (fun _ _ => ?_)
      refine j_aload_n C d_X_wakeUp_33 rfl rfl ?_
      refine sgR (t := 6) C hK 8 x2 2 d_X_wakeUp_34 in_P rfl rfl (by decide) t_157 rfl rfl rfl (by assumption) ?_
      rw [evx2]
      refine j_aload_n C d_X_wakeUp_37 rfl rfl ?_
      refine j_callV C hK hAz 6 vx2 (k_app (r := vx2) (x := x2) h (by omega) hmx2 _) (jcV C mi_R_append t_201 t_202 t_203 rfl rfl ⟨by decide, by decide⟩) rfl rfl (by assumption) rfl rfl (Nat.le_of_ble_eq_true rfl) d_X_wakeUp_38 ⟨Nat.zero_le _, Nat.zero_le _⟩ ?_
      have ok2 : OKs (cf_app σ vx2 x2) lv := (go_app h (by omega) hmx2).1
      refine j_aload_n C d_X_wakeUp_41 rfl rfl ?_
      refine j_aload_n C d_X_wakeUp_42 rfl rfl ?_
      refine j_callV C hK hAz 0 0 (k_want (o := some x) ok2 _) (jcV C mi_X_wantChangeTo t_205 t_207 t_3 rfl rfl ⟨by decide, by decide⟩) rfl rfl (by assumption) rfl rfl (Nat.le_of_ble_eq_true rfl) d_X_wakeUp_43 ⟨Nat.zero_le _, Nat.zero_le _⟩ ?_
      refine j_vret C hret hlk d_X_wakeUp_46 rfl ?_ rfl rfl
      simp only [cf_wake, g1, g5, if_true, if_false, elx, elx2]
    ·
      refine j_aload_n C d_X_wakeUp_20 rfl rfl ?_
      refine sgR (t := 6) C hK 8 x 2 d_X_wakeUp_21 in_P rfl rfl (by decide) t_157 rfl rfl rfl (by assumption) ?_
      rw [evx]
      refine j_aload_n C d_X_wakeUp_24 rfl rfl ?_
      refine j_callV C hK hAz 6 vx (k_app (r := vx) (x := x) h (by omega) hx _) (jcV C mi_R_append t_201 t_202 t_203 rfl rfl ⟨by decide, by decide⟩) rfl rfl (by assumption) rfl rfl (Nat.le_of_ble_eq_true rfl) d_X_wakeUp_25 ⟨Nat.zero_le _, Nat.zero_le _⟩ ?_
      have ok2 : OKs (cf_app σ vx x) lv := (go_app h (by omega) hx).1
      refine j_vret C hret hlk d_X_wakeUp_28 rfl ?_ rfl rfl
      simp only [cf_wake, g1, g5, if_true, if_false, elx, elx2]
set_option maxRecDepth 100000 in
set_option maxHeartbeats 4000000 in
theorem lp_aside0 {l : Launch} {D : va_G} {E : Nat → ClassId} {ad : Nat → Nat → Nat} {lv : Nat → Nat → Prop} {τ : sT} {V1 : jVT} {p : Program} {e : Env} {s : State} {m : MethodId} {below : List Frame} {meth : Method} {c : Code} {sz : Nat} (C : CallFix p m c c_X_putPresentAside 3 s ([.ref (ad 0 0)] : List Value).toArray jT "InputRoom") (hK : jK D jcl jY E s) (hret : meth.sig.returnType = none) (hlk : meth.locks = false) (hAz : ∀ q, s.heap.size ≤ q → jA ad lv sz q) : ∀ (o : Option Nat) (σ1 : sT) (i : Int32), OKs σ1 lv → jv ad (cf_want σ1 o) τ = V1 → JM l y_X_putPresentAside c_X_putPresentAside 3 (none) 1 D E ad lv p e s m below meth c sz [.ref (ad 0 0)] none (V1) (jv ad σ1 τ) 29 [some (.ref (ad 0 0)), some (va_rf (Option.map (ad 8) (o))), some (.int (i))] [] := by
  intro o σ1 i h1 hV
  have hb0 : lv 0 0 := h1.k (by decide)
  refine j_aload_n C d_X_putPresentAside_29 rfl rfl ?_
  refine j_aload_nQ C d_X_putPresentAside_30 rfl rfl ?_
  refine j_callV C hK hAz 0 0 (k_want (o := o) h1 _) (jcV C mi_X_wantChangeTo t_205 t_207 t_3 rfl rfl ⟨by decide, by decide⟩) rfl rfl (by assumption) rfl rfl (Nat.le_of_ble_eq_true rfl) d_X_putPresentAside_31 ⟨Nat.zero_le _, Nat.zero_le _⟩ ?_
  refine j_vret C hret hlk d_X_putPresentAside_34 rfl ?_ rfl rfl
  exact hV
set_option maxRecDepth 100000 in
set_option maxHeartbeats 4000000 in
theorem lp_aside {l : Launch} {D : va_G} {E : Nat → ClassId} {ad : Nat → Nat → Nat} {lv : Nat → Nat → Prop} {τ : sT} {V1 : jVT} {p : Program} {e : Env} {s : State} {m : MethodId} {below : List Frame} {meth : Method} {c : Code} {sz : Nat} (C : CallFix p m c c_X_putPresentAside 3 s ([.ref (ad 0 0)] : List Value).toArray jT "InputRoom") (hK : jK D jcl jY E s) (hret : meth.sig.returnType = none) (hlk : meth.locks = false) (hAz : ∀ q, s.heap.size ≤ q → jA ad lv sz q) : ∀ (n : Nat) (σ1 : sT) (i : Int32), OKs σ1 lv → i = nI n - 1 → n ≤ 8 → jv ad (cf_want (cf_first n σ1).2 (cf_first n σ1).1) τ = V1 → JM l y_X_putPresentAside c_X_putPresentAside 3 (none) 1 D E ad lv p e s m below meth c sz [.ref (ad 0 0)] none (V1) (jv ad σ1 τ) 5 [some (.ref (ad 0 0)), some (.null), some (.int (i))] [] := by
  intro n
  induction n with
  | zero =>
    intro σ1 i h1 hi hn hV
    have hi : i = -1 := by rw [hi]; rfl
    subst hi
    have hb0 : lv 0 0 := h1.k (by decide)
    refine j_iload_n C d_X_putPresentAside_5 rfl rfl ?_
    refine j_if_lt C 29 d_X_putPresentAside_6 rfl (fun _ => ?_) (fun g1 => absurd (by decide) g1)
    exact lp_aside0 C hK hret hlk hAz none σ1 _ h1 hV
  | succ n ih =>
    intro σ1 i h1 hi hn hV
    rw [nI_pred] at hi
    subst hi
    have hb0 : lv 0 0 := h1.k (by decide)
    have hb2 : lv 2 0 := h1.k (by decide)
    have ecl : (nI n).toNatClampNeg = n := nI_clamp (by omega)
    have hlr : lv 6 (nI n).toNatClampNeg := h1.r (by omega)
    refine j_iload_n C d_X_putPresentAside_5 rfl rfl ?_
    refine j_if_lt C 29 d_X_putPresentAside_6 rfl (fun g1 => absurd g1 (nI_pos (by omega))) (fun _ => ?_)
    refine j_aload_nQ (o := none) C d_X_putPresentAside_9 rfl rfl ?_
    refine j_ifnonnull (o := none) C 29 d_X_putPresentAside_10 rfl (fun _ q => by cases q) (fun _ => ?_)
    refine j_aload_n C d_X_putPresentAside_13 rfl rfl ?_
    refine sgC C hK 0 0 1 d_X_putPresentAside_14 in_X rfl rfl (by decide) t_107 rfl rfl rfl (by assumption) ?_
    refine j_iload_n C d_X_putPresentAside_17 rfl rfl ?_
    refine saC C hK 2 0 d_X_putPresentAside_18 rfl (vp_in_nI (by omega) (by decide)) rfl rfl (by assumption) ?_
    refine j_callV C hK hAz 6 ((nI n).toNatClampNeg) (k_take (r := (nI n).toNatClampNeg) h1 (by omega) _) (jcV C mi_R_takeFirst t_217 t_218 t_219 rfl rfl ⟨by decide, by decide⟩) rfl rfl (by assumption) rfl rfl (Nat.le_of_ble_eq_true rfl) d_X_putPresentAside_19 ⟨Nat.zero_le _, Nat.zero_le _⟩ ?_
    refine j_astore_nQ C d_X_putPresentAside_22 rfl (by decide) ?_
    refine j_iinc C d_X_putPresentAside_23 rfl (by decide) ?_
    refine j_goto C 5 d_X_putPresentAside_26 rfl ?_
    have hr : (nI n).toNatClampNeg < 24 := by omega
    have ht := go_take h1 hr
    have e1 : cf_first (n + 1) σ1 = match cf_take σ1 (nI n).toNatClampNeg with | (none, σ2) => cf_first n σ2 | (some x, σ2) => (some x, σ2) := by rw [ecl]; rfl
    cases hq : cf_take σ1 (nI n).toNatClampNeg with
    | mk o σ2 =>
      rw [hq] at ht e1
      dsimp only
      cases o with
      | none =>
        dsimp only at e1
        refine ih σ2 _ ht.1 (i32_m1 _) (by omega) ?_
        rw [← hV, e1]
      | some x =>
        dsimp only at e1
        refine j_eq rfl rfl rfl ?_
        refine j_iload_n C d_X_putPresentAside_5 rfl rfl ?_
        refine j_if_lt C 29 d_X_putPresentAside_6 rfl (fun g51 => ?_) (fun g51 => ?_)
        ·
          exact lp_aside0 C hK hret hlk hAz (some x) σ2 _ ht.1 (by rw [← hV, e1])
        ·
          refine j_aload_n C d_X_putPresentAside_9 rfl rfl ?_
          refine j_ifnonnull (o := some _) C 29 d_X_putPresentAside_10 rfl (fun _ _ => ?_) (fun q => by cases q)
          exact lp_aside0 C hK hret hlk hAz (some x) σ2 _ ht.1 (by rw [← hV, e1])
set_option maxRecDepth 100000 in
set_option maxHeartbeats 4000000 in
theorem k_aside {l : Launch} {D : va_G} {E : Nat → ClassId} {ad : Nat → Nat → Nat} {lv : Nat → Nat → Prop} {σ τ : sT} (h : OKs σ lv) : jM l y_X_putPresentAside c_X_putPresentAside 3 (none) 1 D E ad lv (jv ad σ τ) [.ref (ad 0 0)] none (jv ad (cf_aside σ) τ) := by
  intro sz
  refine jC.of "InputRoom" (by decide +kernel) rfl rfl (Nat.le_of_ble_eq_true rfl) (by intro v hv; simp only [List.mem_cons, List.not_mem_nil, or_false] at hv; rcases hv with rfl <;> first | rfl | exact jrf_cat _) ?_
  intro p e s m below meth c C hK hret hlk hnm hsz hAz
  have hb0 : lv 0 0 := h.k (by decide)
  have hb1 : lv 1 0 := h.k (by decide)
  have hb2 : lv 2 0 := h.k (by decide)
  have hb3 : lv 3 0 := h.k (by decide)
  have hb4 : lv 4 0 := h.k (by decide)
  have hb5 : lv 5 0 := h.k (by decide)
  refine j_null C d_X_putPresentAside_0 ?_
  refine j_astore_nQ (o := none) C d_X_putPresentAside_1 rfl (by decide) ?_
  refine j_bipush (v := 7) C d_X_putPresentAside_2 (by decide) ?_
  refine j_istore_n C d_X_putPresentAside_4 rfl (by decide) ?_
  exact lp_aside C hK hret hlk hAz 8 σ 7 h (by decide) (by decide) rfl
