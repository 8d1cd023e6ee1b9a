/-- a contract out of a walk from its entry -/
theorem jC.ofF {l : Launch} {y : MethodName} {ws ws' : List Cond} {rm : Room} {D : va_G} {cl : List vw_C} {Y : Nat → Nat ⊕ (FieldType × Nat)} {E : Nat → ClassId} {ad : Nat → Nat → Nat} {lv lv' : Nat → Nat → Prop} {sz sz' mc ms : Nat} {V V' : jVT} {vs : List Value} {r : Option Value} {cc : ByteArray} {maxL : Nat} {ret : Option FieldType} (own : String)
    (hy : plainFor y = true) (hw : ws = Cond.code y cc maxL ret :: ws') (hown : y.cls = own) (hlen : vs.length ≤ maxL) (hcat : ∀ v ∈ vs, v.category = 1)
    (body : ∀ (p : Program) (e : Env) (s : State) (m : MethodId) (below : List Frame) (meth : Method) (c : Code), CallFix p m c cc maxL s vs.toArray ws' own → jK D cl Y E s → meth.sig.returnType = ret → meth.locks = false → meth.name = y.name → s.heap.size = sz → (∀ q, s.heap.size ≤ q → jA ad lv sz q) → J p l e (headSpec ws rm).room s m vs.toArray below meth c (MQ below (jQ D cl Y E ad lv sz r lv' V' sz') vs.toArray s mc ms (jA ad lv sz)) D cl Y E ad (jA ad lv sz) s.heap maxL 0 0 sz lv V 0 (jargs vs maxL) []) : jC l y ws rm D cl Y E ad lv sz V vs r lv' V' sz' mc ms := by
  unfold jC
  refine va_MetF (cc := cc) (maxL := maxL) (ret := ret) hy hw ?_
  intro p e s m args below meth c s₁ B hml hv
  obtain ⟨rfl, hsz, hW, hK⟩ := hv
  have hts : ∀ w ∈ ws', w.before vs.toArray s = true := fun w h => atoms_spec (ws := ws) B.pre w (by rw [hw]; exact List.mem_cons_of_mem _ h)
  have hown' : s.vm.findClass own = some m.cls := by rw [← hown]; exact findClass_of_methodNamed B.named
  rw [lg_entry_eq]
  exact body p e s m below meth c ⟨B.exec, B.bytes, hml, hown', hts⟩ hK B.returns B.notSynchronized (name_of_methodNamed B.named B.method).1 hsz (fun q hq => Or.inr (by rw [← hsz]; exact hq)) s.heap [] _ hsz (hW.wide (fun k i hl => Or.inl ⟨k, i, hl, rfl⟩)) va_S.rf (jh_entry vs hlen hcat)
theorem vin {x N : Int32} {n : Nat} (h0 : ¬ x < 0) (h1 : ¬ N ≤ x) (hN : N.toInt = n) : vp_in x n := by
  rw [vp_in_iff]
  rw [Int32.lt_iff_toInt_lt] at h0
  rw [Int32.le_iff_toInt_le] at h1
  rw [show (0 : Int32).toInt = 0 from rfl] at h0
  omega
theorem i32_lt {x y : Int32} : x < y ↔ x.toInt < y.toInt := Int32.lt_iff_toInt_lt
theorem i32_le {x y : Int32} : x ≤ y ↔ x.toInt ≤ y.toInt := Int32.le_iff_toInt_le
theorem i32_0 : (0 : Int32).toInt = 0 := rfl
theorem i32_16 : (16 : Int32).toInt = 16 := rfl
theorem i32_32 : (32 : Int32).toInt = 32 := rfl
set_option maxRecDepth 100000 in
set_option maxHeartbeats 4000000 in
theorem k_isSem {l : Launch} {D : va_G} {E : Nat → ClassId} {ad : Nat → Nat → Nat} {lv : Nat → Nat → Prop} {σ τ : sT} {a : Int32} : jM l y_X_isSemaphore c_X_isSemaphore 1 (some .boolean) 0 D E ad lv (jv ad σ τ) [.int (a)] (some (.int (if isS a then 1 else 0))) (jv ad σ τ) := by
  intro sz
  refine jC.of "InputRoom" (by decide +kernel) rfl rfl (Nat.le_of_ble_eq_true rfl) (by intro v hv; simp only [List.mem_cons, List.not_mem_nil, or_false] at hv; rcases hv with rfl <;> first | rfl | exact jrf_cat _) ?_
  intro p e s m below meth c C hK hret hlk hnm hsz hAz
  refine j_iload_n C d_X_isSemaphore_0 rfl rfl ?_
  refine j_if_lt C 14 d_X_isSemaphore_1 rfl (fun g1 => ?_) (fun g1 => ?_)
  ·
    refine j_iconst (v := 0) C d_X_isSemaphore_14 (by decide) ?_
    refine j_zret C hret hlk (by first | rfl | decide) d_X_isSemaphore_15 ?_ ?_ rfl rfl
    · rw [if_neg (by simp only [isS, i32_lt, i32_le, i32_0, i32_16] at *; omega)]
    · rfl
  ·
    refine j_iload_n C d_X_isSemaphore_4 rfl rfl ?_
    refine j_bipush (v := 16) C d_X_isSemaphore_5 (by decide) ?_
    refine j_icmp_ge C 14 d_X_isSemaphore_7 rfl (fun g2 => ?_) (fun g2 => ?_)
    ·
      refine j_iconst (v := 0) C d_X_isSemaphore_14 (by decide) ?_
      refine j_zret C hret hlk (by first | rfl | decide) d_X_isSemaphore_15 ?_ ?_ rfl rfl
      · rw [if_neg (by simp only [isS, i32_lt, i32_le, i32_0, i32_16] at *; omega)]
      · rfl
    ·
      refine j_iconst (v := 1) C d_X_isSemaphore_10 (by decide) ?_
      refine j_goto C 15 d_X_isSemaphore_11 rfl ?_
      refine j_zret C hret hlk (by first | rfl | decide) d_X_isSemaphore_15 ?_ ?_ rfl rfl
      · rw [if_pos (by simp only [isS, i32_lt, i32_le, i32_0, i32_16] at *; omega)]
      · rfl
set_option maxRecDepth 100000 in
set_option maxHeartbeats 4000000 in
theorem k_numberOf {l : Launch} {D : va_G} {E : Nat → ClassId} {ad : Nat → Nat → Nat} {lv : Nat → Nat → Prop} {σ τ : sT} {o : Option Nat} (ho : ∀ x, o = some x → lv 8 x) : jM l y_X_numberOf c_X_numberOf 1 (some .int) 0 D E ad lv (jv ad σ τ) [va_rf (Option.map (ad 8) (o))] (some (.int (cf_num o))) (jv ad σ τ) := by
  intro sz
  refine jC.of "InputRoom" (by decide +kernel) rfl rfl (Nat.le_of_ble_eq_true rfl) (by intro v hv; simp only [List.mem_cons, List.not_mem_nil, or_false] at hv; rcases hv with rfl <;> first | rfl | exact jrf_cat _) ?_
  intro p e s m below meth c C hK hret hlk hnm hsz hAz
  refine j_aload_nQ C d_X_numberOf_0 rfl rfl ?_
  refine jnonnull (o := o) (t := 8) C 8 d_X_numberOf_1 rfl (fun x2 g1 => ?_) (fun g1 => ?_)
  ·
    subst g1
    have hlx2 : lv 8 x2 := ho x2 rfl
    refine j_aload_n C d_X_numberOf_8 rfl rfl ?_
    refine sgC C hK 8 x2 0 d_X_numberOf_9 in_P rfl rfl (by decide) t_153 rfl rfl rfl (by assumption) ?_
    refine j_iret C hret hlk d_X_numberOf_12 ?_ ?_ rfl rfl
    · rfl
    · rfl
  ·
    subst g1
    refine j_iconst (v := -1) C d_X_numberOf_4 (by decide) ?_
    refine j_goto C 12 d_X_numberOf_5 rfl ?_
    refine j_iret C hret hlk d_X_numberOf_12 ?_ ?_ rfl rfl
    · rfl
    · rfl
set_option maxRecDepth 100000 in
set_option maxHeartbeats 4000000 in
theorem k_pn {l : Launch} {D : va_G} {E : Nat → ClassId} {ad : Nat → Nat → Nat} {lv : Nat → Nat → Prop} {σ τ : sT} (h : OKs σ lv) {a : Int32} : jM l y_X_processNumbered c_X_processNumbered 2 (some (.object "InputRoom$Proc")) 0 D E ad lv (jv ad σ τ) [.ref (ad 0 0), .int (a)] (some (va_rf (Option.map (ad 8) (cf_pn σ a)))) (jv ad σ τ) := by
  intro sz
  refine jC.of "InputRoom" (by decide +kernel) rfl rfl (Nat.le_of_ble_eq_true rfl) (by intro v hv; simp only [List.mem_cons, List.not_mem_nil, or_false] at hv; rcases hv with rfl | rfl <;> first | rfl | exact jrf_cat _) ?_
  intro p e s m below meth c C hK hret hlk hnm hsz hAz
  have hb0 : lv 0 0 := h.k (by decide)
  have hb1 : lv 1 0 := h.k (by decide)
  have hb2 : lv 2 0 := h.k (by decide)
  have hb3 : lv 3 0 := h.k (by decide)
  have hb4 : lv 4 0 := h.k (by decide)
  have hb5 : lv 5 0 := h.k (by decide)
  refine j_iload_n C d_X_processNumbered_0 rfl rfl ?_
  refine j_if_lt C 19 d_X_processNumbered_1 rfl (fun g1 => ?_) (fun g1 => ?_)
  ·
    refine j_null C d_X_processNumbered_19 ?_
    refine j_aret (o := none) C hret hlk d_X_processNumbered_20 ?_ ?_ rfl rfl
    · rw [cf_pn, if_neg (by simp only [i32_lt, i32_le, i32_0, i32_32] at *; omega)]; rfl
    · rfl
  ·
    refine j_iload_n C d_X_processNumbered_4 rfl rfl ?_
    refine j_bipush (v := 32) C d_X_processNumbered_5 (by decide) ?_
    refine j_icmp_ge C 19 d_X_processNumbered_7 rfl (fun g2 => ?_) (fun g2 => ?_)
    ·
      refine j_null C d_X_processNumbered_19 ?_
      refine j_aret (o := none) C hret hlk d_X_processNumbered_20 ?_ ?_ rfl rfl
      · rw [cf_pn, if_neg (by simp only [i32_lt, i32_le, i32_0, i32_32] at *; omega)]; rfl
      · rfl
    ·
      refine j_aload_n C d_X_processNumbered_10 rfl rfl ?_
      refine sgC C hK 0 0 0 d_X_processNumbered_11 in_X rfl rfl (by decide) t_106 rfl rfl rfl (by assumption) ?_
      refine j_iload_n C d_X_processNumbered_14 rfl rfl ?_
      refine saR (t := 8) C hK 1 0 d_X_processNumbered_15 rfl (vin g1 g2 rfl) rfl rfl (by assumption) ?_
      refine j_goto C 20 d_X_processNumbered_16 rfl ?_
      refine j_aret (o := Option.map (ad 8) (σ.2.1 1 0 (a).toNatClampNeg)) C hret hlk d_X_processNumbered_20 ?_ ?_ rfl rfl
      · rw [cf_pn, if_pos (by simp only [i32_lt, i32_le, i32_0, i32_32] at *; omega)]
      · rfl
set_option maxRecDepth 100000 in
set_option maxHeartbeats 4000000 in
theorem k_pres {l : Launch} {D : va_G} {E : Nat → ClassId} {ad : Nat → Nat → Nat} {lv : Nat → Nat → Prop} {σ τ : sT} (h : OKs σ lv) : jM l y_X_presentOne c_X_presentOne 1 (some (.object "InputRoom$Proc")) 0 D E ad lv (jv ad σ τ) [.ref (ad 0 0)] (some (va_rf (Option.map (ad 8) (cf_pres σ)))) (jv ad σ τ) := by
  intro sz
  refine jC.of "InputRoom" (by decide +kernel) rfl rfl (Nat.le_of_ble_eq_true rfl) (by intro v hv; simp only [List.mem_cons, List.not_mem_nil, or_false] at hv; rcases hv with rfl <;> first | rfl | exact jrf_cat _) ?_
  intro p e s m below meth c C hK hret hlk hnm hsz hAz
  have hb0 : lv 0 0 := h.k (by decide)
  have hb1 : lv 1 0 := h.k (by decide)
  have hb2 : lv 2 0 := h.k (by decide)
  have hb3 : lv 3 0 := h.k (by decide)
  have hb4 : lv 4 0 := h.k (by decide)
  have hb5 : lv 5 0 := h.k (by decide)
  refine j_aload_n C d_X_presentOne_0 rfl rfl ?_
  refine sgI C hK 0 0 5 d_X_presentOne_1 in_X rfl rfl (by decide) t_111 rfl rfl rfl (by assumption) ?_
  refine j_if_eq C 14 d_X_presentOne_4 rfl (fun g1 => ?_) (fun g1 => ?_)
  ·
    refine j_aload_n C d_X_presentOne_14 rfl rfl ?_
    refine sgR (t := 8) C hK 0 0 4 d_X_presentOne_15 in_X rfl rfl (by decide) t_110 rfl rfl rfl (by assumption) ?_
    refine j_aret (o := Option.map (ad 8) (σ.2.1 0 0 4)) C hret hlk d_X_presentOne_18 ?_ ?_ rfl rfl
    · simp only [cf_pres, g1, if_true, if_false]
    · rfl
  ·
    refine j_aload_n C d_X_presentOne_7 rfl rfl ?_
    refine sgR (t := 8) C hK 0 0 6 d_X_presentOne_8 in_X rfl rfl (by decide) t_112 rfl rfl rfl (by assumption) ?_
    refine j_goto C 18 d_X_presentOne_11 rfl ?_
    refine j_aret (o := Option.map (ad 8) (σ.2.1 0 0 6)) C hret hlk d_X_presentOne_18 ?_ ?_ rfl rfl
    · simp only [cf_pres, g1, if_true, if_false]
    · rfl
set_option maxRecDepth 100000 in
set_option maxHeartbeats 4000000 in
theorem k_want {l : Launch} {D : va_G} {E : Nat → ClassId} {ad : Nat → Nat → Nat} {lv : Nat → Nat → Prop} {σ τ : sT} (h : OKs σ lv) {o : Option Nat} : jM l y_X_wantChangeTo c_X_wantChangeTo 2 (none) 0 D E ad lv (jv ad σ τ) [.ref (ad 0 0), va_rf (Option.map (ad 8) (o))] none (jv ad (cf_want σ o) τ) := by
  intro sz
  refine jC.of "InputRoom" (by decide +kernel) rfl rfl (Nat.le_of_ble_eq_true rfl) (by intro v hv; simp only [List.mem_cons, List.not_mem_nil, or_false] at hv; rcases hv with rfl | rfl <;> first | rfl | exact jrf_cat _) ?_
  intro p e s m below meth c C hK hret hlk hnm hsz hAz
  have hb0 : lv 0 0 := h.k (by decide)
  have hb1 : lv 1 0 := h.k (by decide)
  have hb2 : lv 2 0 := h.k (by decide)
  have hb3 : lv 3 0 := h.k (by decide)
  have hb4 : lv 4 0 := h.k (by decide)
  have hb5 : lv 5 0 := h.k (by decide)
  refine j_aload_n C d_X_wantChangeTo_0 rfl rfl ?_
  refine j_iconst (v := 1) C d_X_wantChangeTo_1 (by decide) ?_
  refine spI C hK 0 0 5 ty_X tk_X nm_X d_X_wantChangeTo_2 in_X rfl rfl (by decide) t_111 rfl rfl rfl rfl (1) (by first | rfl | decide) (by first | rfl | decide) (by assumption) ?_
  refine j_aload_n C d_X_wantChangeTo_5 rfl rfl ?_
  refine j_aload_nQ C d_X_wantChangeTo_6 rfl rfl ?_
  refine spP (t := 8) C hK 0 0 6 ty_X tk_X nm_X d_X_wantChangeTo_7 in_X rfl rfl (by decide) t_112 rfl rfl rfl rfl (o) (by cases (o) <;> rfl) (by cases (o) <;> rfl) (by assumption) ?_
  refine j_vret C hret hlk d_X_wantChangeTo_10 rfl ?_ rfl rfl
  rfl
set_option maxRecDepth 100000 in
set_option maxHeartbeats 4000000 in
theorem k_isEmpty {l : Launch} {D : va_G} {E : Nat → ClassId} {ad : Nat → Nat → Nat} {lv : Nat → Nat → Prop} {σ τ : sT} (h : OKs σ lv) {r : Nat} (hr : r < 24) : jM l y_R_isEmpty c_R_isEmpty 1 (some .boolean) 0 D E ad lv (jv ad σ τ) [.ref (ad 6 r)] (some (.int (match σ.2.1 6 r 1 with | none => 1 | some _ => 0))) (jv ad σ τ) := by
  intro sz
  refine jC.of "InputRoom$Row" (by decide +kernel) rfl rfl (Nat.le_of_ble_eq_true rfl) (by intro v hv; simp only [List.mem_cons, List.not_mem_nil, or_false] at hv; rcases hv with rfl <;> first | rfl | exact jrf_cat _) ?_
  intro p e s m below meth c C hK hret hlk hnm hsz hAz
  have hlr : lv 6 r := h.r hr
  refine j_aload_n C d_R_isEmpty_0 rfl rfl ?_
  refine sgR (t := 8) C hK 6 r 1 d_R_isEmpty_1 in_R rfl rfl (by decide) t_78 rfl rfl rfl (by assumption) ?_
  refine jnonnull (o := σ.2.1 6 r 1) (t := 8) C 11 d_R_isEmpty_4 rfl (fun x2 g1 => ?_) (fun g1 => ?_)
  ·
    try rw [g1]
    have hmx2 : Mk σ x2 := h.fi (by omega) g1
    have hlx2 : lv 8 x2 := h.p hmx2
    have hax2 : lv 9 x2 := h.a hmx2
    refine j_iconst (v := 0) C d_R_isEmpty_11 (by decide) ?_
    refine j_zret C hret hlk (by first | rfl | decide) d_R_isEmpty_12 ?_ ?_ rfl rfl
    · rfl
    · rfl
  ·
    try rw [g1]
    refine j_iconst (v := 1) C d_R_isEmpty_7 (by decide) ?_
    refine j_goto C 12 d_R_isEmpty_8 rfl ?_
    refine j_zret C hret hlk (by first | rfl | decide) d_R_isEmpty_12 ?_ ?_ rfl rfl
    · rfl
    · rfl
set_option maxRecDepth 100000 in
set_option maxHeartbeats 4000000 in
theorem k_app {l : Launch} {D : va_G} {E : Nat → ClassId} {ad : Nat → Nat → Nat} {lv : Nat → Nat → Prop} {σ τ : sT} (h : OKs σ lv) {r x : Nat} (hr : r < 24) (hx : Mk σ x) : jM l y_R_append c_R_append 2 (none) 0 D E ad lv (jv ad σ τ) [.ref (ad 6 r), .ref (ad 8 x)] none (jv ad (cf_app σ r x) τ) := by
  intro sz
  refine jC.of "InputRoom$Row" (by decide +kernel) rfl rfl (Nat.le_of_ble_eq_true rfl) (by intro v hv; simp only [List.mem_cons, List.not_mem_nil, or_false] at hv; rcases hv with rfl | rfl <;> first | rfl | exact jrf_cat _) ?_
  intro p e s m below meth c C hK hret hlk hnm hsz hAz
  have hlr : lv 6 r := h.r hr
  have hlx : lv 8 x := h.p hx
  refine j_aload_n C d_R_append_0 rfl rfl ?_
  refine j_aload_n C d_R_append_1 rfl rfl ?_
  refine sgC C hK 6 r 0 d_R_append_2 in_R rfl rfl (by decide) t_77 rfl rfl rfl (by assumption) ?_
  refine spI C hK 8 x 5 ty_P tk_P nm_P d_R_append_5 in_P rfl rfl (by decide) t_163 rfl rfl rfl rfl (rno r) rfl rfl (by assumption) ?_
  refine j_aload_n C d_R_append_8 rfl rfl ?_
  refine sgR (t := 8) C hK 6 r 2 d_R_append_9 in_R rfl rfl (by decide) t_79 rfl rfl rfl (by assumption) ?_
  refine jnonnull (o := (sI σ 8 x 5 (rno r)).2.1 6 r 2) (t := 8) C 23 d_R_append_12 rfl (fun x2 g1 => ?_) (fun g1 => ?_)
  ·
    try rw [g1]
    have hmx2 : Mk (sI σ 8 x 5 (rno r)) x2 := h.la hr g1
    have hlx2 : lv 8 x2 := h.p hmx2
    have hax2 : lv 9 x2 := h.a hmx2
    refine j_aload_n C d_R_append_23 rfl rfl ?_
    refine sgR (t := 8) C hK 6 r 2 d_R_append_24 in_R rfl rfl (by decide) t_79 rfl rfl rfl (by assumption) ?_
    rw [g1]
    refine j_aload_n C d_R_append_27 rfl rfl ?_
    refine spP (t := 8) C hK 8 x2 6 ty_P tk_P nm_P d_R_append_28 in_P rfl rfl (by decide) t_165 rfl rfl rfl rfl (some x) rfl rfl (by assumption) ?_
    refine j_aload_n C d_R_append_31 rfl rfl ?_
    refine j_aload_n C d_R_append_32 rfl rfl ?_
    refine spP (t := 8) C hK 6 r 2 ty_R tk_R nm_R d_R_append_33 in_R rfl rfl (by decide) t_79 rfl rfl rfl rfl (some x) rfl rfl (by assumption) ?_
    refine j_vret C hret hlk d_R_append_36 rfl ?_ rfl rfl
    unfold cf_app
    have g9 : σ.2.1 6 r 2 = some x2 := g1
    simp only [g9]
  ·
    try rw [g1]
    refine j_aload_n C d_R_append_15 rfl rfl ?_
    refine j_aload_n C d_R_append_16 rfl rfl ?_
    refine spP (t := 8) C hK 6 r 1 ty_R tk_R nm_R d_R_append_17 in_R rfl rfl (by decide) t_78 rfl rfl rfl rfl (some x) rfl rfl (by assumption) ?_
    refine j_goto C 31 d_R_append_20 rfl ?_
    refine j_aload_n C d_R_append_31 rfl rfl ?_
    refine j_aload_n C d_R_append_32 rfl rfl ?_
    refine spP (t := 8) C hK 6 r 2 ty_R tk_R nm_R d_R_append_33 in_R rfl rfl (by decide) t_79 rfl rfl rfl rfl (some x) rfl rfl (by assumption) ?_
    refine j_vret C hret hlk d_R_append_36 rfl ?_ rfl rfl
    unfold cf_app
    have g9 : σ.2.1 6 r 2 = none := g1
    simp only [g9]
set_option maxRecDepth 100000 in
set_option maxHeartbeats 4000000 in
theorem k_take {l : Launch} {D : va_G} {E : Nat → ClassId} {ad : Nat → Nat → Nat} {lv : Nat → Nat → Prop} {σ τ : sT} (h : OKs σ lv) {r : Nat} (hr : r < 24) : jM l y_R_takeFirst c_R_takeFirst 2 (some (.object "InputRoom$Proc")) 0 D E ad lv (jv ad σ τ) [.ref (ad 6 r)] (some (va_rf (Option.map (ad 8) (cf_take σ r).1))) (jv ad (cf_take σ r).2 τ) := by
  intro sz
  refine jC.of "InputRoom$Row" (by decide +kernel) rfl rfl (Nat.le_of_ble_eq_true rfl) (by intro v hv; simp only [List.mem_cons, List.not_mem_nil, or_false] at hv; rcases hv with rfl <;> first | rfl | exact jrf_cat _) ?_
  intro p e s m below meth c C hK hret hlk hnm hsz hAz
  have hlr : lv 6 r := h.r hr
  refine j_aload_n C d_R_takeFirst_0 rfl rfl ?_
  refine sgR (t := 8) C hK 6 r 1 d_R_takeFirst_1 in_R rfl rfl (by decide) t_78 rfl rfl rfl (by assumption) ?_
  refine j_astore_nQ C d_R_takeFirst_4 rfl (by decide) ?_
  refine j_aload_nQ C d_R_takeFirst_5 rfl rfl ?_
  refine jnonnull (o := σ.2.1 6 r 1) (t := 8) C 11 d_R_takeFirst_6 rfl (fun x2 g1 => ?_) (fun g1 => ?_)
  ·
    try rw [g1]
    have hmx2 : Mk σ x2 := h.fi hr g1
    have hlx2 : lv 8 x2 := h.p hmx2
    have hax2 : lv 9 x2 := h.a hmx2
    refine j_aload_n C d_R_takeFirst_11 rfl rfl ?_
    refine j_aload_n C d_R_takeFirst_12 rfl rfl ?_
    refine sgR (t := 8) C hK 8 x2 6 d_R_takeFirst_13 in_P rfl rfl (by decide) t_165 rfl rfl rfl (by assumption) ?_
    refine spP (t := 8) C hK 6 r 1 ty_R tk_R nm_R d_R_takeFirst_16 in_R rfl rfl (by decide) t_78 rfl rfl rfl rfl (σ.2.1 8 x2 6) (by cases (σ.2.1 8 x2 6) <;> rfl) (by cases (σ.2.1 8 x2 6) <;> rfl) (by assumption) ?_
    refine j_aload_n C d_R_takeFirst_19 rfl rfl ?_
    refine sgR (t := 8) C hK 6 r 1 d_R_takeFirst_20 in_R rfl rfl (by decide) t_78 rfl rfl rfl (by assumption) ?_
    refine jnonnull (o := (sP σ 6 r 1 (σ.2.1 8 x2 6)).2.1 6 r 1) (t := 8) C 31 d_R_takeFirst_23 rfl (fun x4 g3 => ?_) (fun g3 => ?_)
    ·
      try rw [g3]
      refine j_aload_n C d_R_takeFirst_31 rfl rfl ?_
      refine j_null C d_R_takeFirst_32 ?_
      refine spP (t := 8) C hK 8 x2 6 ty_P tk_P nm_P d_R_takeFirst_33 in_P rfl rfl (by decide) t_165 rfl rfl rfl rfl (none) rfl rfl (by assumption) ?_
      refine j_aload_n C d_R_takeFirst_36 rfl rfl ?_
      refine j_iconst (v := 0) C d_R_takeFirst_37 (by decide) ?_
      refine spI C hK 8 x2 5 ty_P tk_P nm_P d_R_takeFirst_38 in_P rfl rfl (by decide) t_163 rfl rfl rfl rfl (0) rfl rfl (by assumption) ?_
      refine j_aload_n C d_R_takeFirst_41 rfl rfl ?_
      refine j_aret (o := some (ad 8 x2)) C hret hlk d_R_takeFirst_42 ?_ ?_ rfl rfl
      · simp only [cf_take, g1]; rfl
      · have g9 : σ.2.1 8 x2 6 = some x4 := (by simpa [sP] using g3)
        simp only [cf_take, g1, g9]
    ·
      try rw [g3]
      refine j_aload_n C d_R_takeFirst_26 rfl rfl ?_
      refine j_null C d_R_takeFirst_27 ?_
      refine spP (t := 8) C hK 6 r 2 ty_R tk_R nm_R d_R_takeFirst_28 in_R rfl rfl (by decide) t_79 rfl rfl rfl rfl (none) rfl rfl (by assumption) ?_
      refine j_aload_n C d_R_takeFirst_31 rfl rfl ?_
      refine j_null C d_R_takeFirst_32 ?_
      refine spP (t := 8) C hK 8 x2 6 ty_P tk_P nm_P d_R_takeFirst_33 in_P rfl rfl (by decide) t_165 rfl rfl rfl rfl (none) rfl rfl (by assumption) ?_
      refine j_aload_n C d_R_takeFirst_36 rfl rfl ?_
      refine j_iconst (v := 0) C d_R_takeFirst_37 (by decide) ?_
      refine spI C hK 8 x2 5 ty_P tk_P nm_P d_R_takeFirst_38 in_P rfl rfl (by decide) t_163 rfl rfl rfl rfl (0) rfl rfl (by assumption) ?_
      refine j_aload_n C d_R_takeFirst_41 rfl rfl ?_
      refine j_aret (o := some (ad 8 x2)) C hret hlk d_R_takeFirst_42 ?_ ?_ rfl rfl
      · simp only [cf_take, g1]; rfl
      · have g9 : σ.2.1 8 x2 6 = none := (by simpa [sP] using g3)
        simp only [cf_take, g1, g9]
  ·
    try rw [g1]
    refine j_null C d_R_takeFirst_9 ?_
    refine j_aret (o := none) C hret hlk d_R_takeFirst_10 ?_ ?_ rfl rfl
    · simp only [cf_take, g1]; rfl
    · simp only [cf_take, g1]
set_option maxRecDepth 100000 in
set_option maxHeartbeats 4000000 in
theorem k_setAlarm {l : Launch} {D : va_G} {E : Nat → ClassId} {ad : Nat → Nat → Nat} {lv : Nat → Nat → Prop} {σ τ : sT} (h : OKs σ lv) {s0 : Nat} {t : Int32} : jM l y_X_setAlarm c_X_setAlarm 3 (none) 0 D E ad lv (jv ad σ τ) [.ref (ad 0 0), .ref (ad 7 s0), .int (t)] none (jv ad (cf_alarm σ s0 t) τ) := by
  intro sz
  refine jC.of "InputRoom" (by decide +kernel) rfl rfl (Nat.le_of_ble_eq_true rfl) (by intro v hv; simp only [List.mem_cons, List.not_mem_nil, or_false] at hv; rcases hv with rfl | rfl | rfl <;> first | rfl | exact jrf_cat _) ?_
  intro p e s m below meth c C hK hret hlk hnm hsz hAz
  have hb0 : lv 0 0 := h.k (by decide)
  have hb1 : lv 1 0 := h.k (by decide)
  have hb2 : lv 2 0 := h.k (by decide)
  have hb3 : lv 3 0 := h.k (by decide)
  have hb4 : lv 4 0 := h.k (by decide)
  have hb5 : lv 5 0 := h.k (by decide)
  refine j_aload_n C d_X_setAlarm_0 rfl rfl ?_
  refine j_aload_n C d_X_setAlarm_1 rfl rfl ?_
  refine spP (t := 7) C hK 0 0 10 ty_X tk_X nm_X d_X_setAlarm_2 in_X rfl rfl (by decide) t_116 rfl rfl rfl rfl (some s0) rfl rfl (by assumption) ?_
  refine j_aload_n C d_X_setAlarm_5 rfl rfl ?_
  refine j_iload_n C d_X_setAlarm_6 rfl rfl ?_
  refine spI C hK 0 0 11 ty_X tk_X nm_X d_X_setAlarm_7 in_X rfl rfl (by decide) t_117 rfl rfl rfl rfl (t) rfl rfl (by assumption) ?_
  refine j_vret C hret hlk d_X_setAlarm_10 rfl ?_ rfl rfl
  rfl
set_option maxRecDepth 100000 in
set_option maxHeartbeats 4000000 in
theorem k_takeUntold {l : Launch} {D : va_G} {E : Nat → ClassId} {ad : Nat → Nat → Nat} {lv : Nat → Nat → Prop} {σ τ : sT} (h : OKs σ lv) : jM l y_W_takeUntold c_W_takeUntold 2 (some .int) 0 D E ad lv (jv ad σ τ) [.ref (ad 4 0)] (some (.int (σ.1 4 0 3))) (jv ad (sI σ 4 0 3 0) τ) := by
  intro sz
  refine jC.of "InputRoom$Words" (by decide +kernel) rfl rfl (Nat.le_of_ble_eq_true rfl) (by intro v hv; simp only [List.mem_cons, List.not_mem_nil, or_false] at hv; rcases hv with rfl <;> first | rfl | exact jrf_cat _) ?_
  intro p e s m below meth c C hK hret hlk hnm hsz hAz
  have hb0 : lv 0 0 := h.k (by decide)
  have hb1 : lv 1 0 := h.k (by decide)
  have hb2 : lv 2 0 := h.k (by decide)
  have hb3 : lv 3 0 := h.k (by decide)
  have hb4 : lv 4 0 := h.k (by decide)
  have hb5 : lv 5 0 := h.k (by decide)
  refine j_aload_n C d_W_takeUntold_0 rfl rfl ?_
  refine sgI C hK 4 0 3 d_W_takeUntold_1 in_W rfl rfl (by decide) t_61 rfl rfl rfl (by assumption) ?_
  refine j_istore_n C d_W_takeUntold_4 rfl (by decide) ?_
  refine j_aload_n C d_W_takeUntold_5 rfl rfl ?_
  refine j_iconst (v := 0) C d_W_takeUntold_6 (by decide) ?_
  refine spI C hK 4 0 3 ty_W tk_W nm_W d_W_takeUntold_7 in_W rfl rfl (by decide) t_61 rfl rfl rfl rfl (0) rfl rfl (by assumption) ?_
  refine j_iload_n C d_W_takeUntold_10 rfl rfl ?_
  refine j_iret C hret hlk d_W_takeUntold_11 ?_ ?_ rfl rfl
  · rfl
  · rfl
set_option maxRecDepth 100000 in
set_option maxHeartbeats 4000000 in
theorem k_fmod {l : Launch} {D : va_G} {E : Nat → ClassId} {ad : Nat → Nat → Nat} {lv : Nat → Nat → Prop} {σ τ : sT} {a b : Int32} (hb : ¬ b = 0) : jM l y_J_floorMod c_J_floorMod 3 (some .int) 0 D E ad lv (jv ad σ τ) [.int (a), .int (b)] (some (.int (fmod a b))) (jv ad σ τ) := by
  intro sz
  refine jC.ofF "java/lang/Math" (by decide +kernel) rfl rfl (Nat.le_of_ble_eq_true rfl) (by intro v hv; simp only [List.mem_cons, List.not_mem_nil, or_false] at hv; rcases hv with rfl | rfl <;> first | rfl | exact jrf_cat _) ?_
  intro p e s m below meth c C hK hret hlk hnm hsz hAz
  refine j_iload_n C d_J_floorMod_0 rfl rfl ?_
  refine j_iload_n C d_J_floorMod_1 rfl rfl ?_
  refine j_irem C d_J_floorMod_2 (by first | assumption | decide) ?_
  refine j_istore_n C d_J_floorMod_3 rfl (by decide) ?_
  refine j_iload_n C d_J_floorMod_4 rfl rfl ?_
  refine j_iload_n C d_J_floorMod_5 rfl rfl ?_
  refine j_ixor C d_J_floorMod_6 ?_
  refine j_if_ge C 18 d_J_floorMod_7 rfl (fun g1 => ?_) (fun g1 => ?_)
  ·
    refine j_iload_n C d_J_floorMod_18 rfl rfl ?_
    refine j_iret C hret hlk d_J_floorMod_19 ?_ ?_ rfl rfl
    · simp only [fmod, g1, if_true, if_false]
    · rfl
  ·
    refine j_iload_n C d_J_floorMod_10 rfl rfl ?_
    refine j_if_eq C 18 d_J_floorMod_11 rfl (fun g2 => ?_) (fun g2 => ?_)
    ·
      refine j_iload_n C d_J_floorMod_18 rfl rfl ?_
      refine j_iret C hret hlk d_J_floorMod_19 ?_ ?_ rfl rfl
      · simp only [fmod, g1, g2, if_true, if_false]
      · rfl
    ·
      refine j_iload_n C d_J_floorMod_14 rfl rfl ?_
      refine j_iload_n C d_J_floorMod_15 rfl rfl ?_
      refine j_iadd C d_J_floorMod_16 ?_
      refine j_iret C hret hlk d_J_floorMod_17 ?_ ?_ rfl rfl
      · simp only [fmod, g1, g2, if_true, if_false]
      · rfl
