/-! THE CLASS'S FACE, as functions on its store: the answer and the store behind it -/
def c_plan (σ : sT) (p i a : Int32) : Int32 × sT := match cf_pn σ p with
  | none => (-1, σ)
  | some x => if i < 0 then (-1, σ) else if 8 ≤ i then (-1, σ) else if a < 0 then (-1, σ) else if a ≤ 127 then (σ.1 9 x i.toNatClampNeg, sI σ 9 x i.toNatClampNeg a) else (-1, σ)
def c_wake (σ : sT) (p : Int32) : Int32 × sT := match cf_pn σ p with
  | none => (0, σ)
  | some x => if σ.1 8 x 5 = 0 then (if some x = σ.2.1 0 0 4 then (0, σ) else if some x = cf_pres σ then (0, σ) else (1, cf_wake σ x)) else (0, σ)
def c_suspend (σ : sT) : Int32 × sT := match cf_pres σ with
  | none => (-1, σ)
  | some x => (nI x, cf_aside σ)
def c_signal (σ : sT) (s : Int32) : Int32 × sT := if isS s then (1, cf_sig σ s.toNatClampNeg) else (0, σ)
def c_listen (σ : sT) (s : Int32) : Int32 × sT := if s = -1 then (1, sP σ 0 0 9 none) else if isS s then (1, sP σ 0 0 9 (some s.toNatClampNeg)) else (0, σ)
def c_alarm (σ : sT) (s t : Int32) : Int32 × sT := if s = -1 then (1, sP σ 0 0 10 none) else if isS s then (if t < 0 then (0, σ) else if t ≤ 1000000 then (1, cf_alarm σ s.toNatClampNeg t) else (0, σ)) else (0, σ)
def c_word (σ : sT) (w : Int32) : Int32 × sT := if w < 0 then (-1, σ) else if w ≤ 65535 then cf_add σ w else (-1, σ)
def c_run0 (σ : sT) : sT := match σ.2.1 0 0 4 with
  | none => cf_behind σ
  | some _ => σ
def c_run (σ : sT) (n : Int32) : Int32 × sT := if n < 1 then (-1, σ) else if n ≤ 1000 then (0 + nI (cf_loop n.toNatClampNeg (c_run0 σ)).1, (cf_loop n.toNatClampNeg (c_run0 σ)).2) else (-1, σ)
def c_done (σ : sT) (p : Int32) : Int32 := match cf_pn σ p with
  | none => -1
  | some x => σ.1 8 x 4
def c_row (σ : sT) (p : Int32) : Int32 := match cf_pn σ p with
  | none => -1
  | some x => σ.1 8 x 5
def c_pAt (σ : sT) (r : Nat) (i : Int32) : Option Nat := if i < 0 then none else if i < 32 then cf_walk σ i.toNatClampNeg (σ.2.1 6 r 1) else none
def c_at (σ : sT) (r i : Int32) : Int32 := if ¬ r < 1 ∧ ¬ 8 < r then cf_num (c_pAt σ (r - 1).toNatClampNeg i) else if isS (r - 16) then cf_num (c_pAt σ (8 + (r - 16).toNatClampNeg) i) else -1
def c_extra (σ : sT) (s : Int32) : Int32 := if isS s then σ.1 7 s.toNatClampNeg 2 else -1
def c_tick (σ : sT) : Int32 := match σ.2.1 0 0 10 with
  | none => -1
  | some _ => σ.1 0 0 11
theorem pn_ok {σ : sT} {lv : Nat → Nat → Prop} (h : OKs σ lv) {a : Int32} {x : Nat} (hx : cf_pn σ a = some x) : Mk σ x := by
  unfold cf_pn at hx
  split at hx
  · next q =>
    have hl : a.toNatClampNeg < 32 := by
      obtain ⟨h0, h1⟩ := q
      rw [i32_le, i32_0] at h0
      rw [i32_lt, i32_32] at h1
      rw [← Int32.toNat_toInt]
      omega
    have e := h.2.2.1 _ _ hl hx
    subst e
    exact ⟨hl, hx⟩
  · cases hx
theorem walk_ok {σ : sT} {lv : Nat → Nat → Prop} (h : OKs σ lv) : ∀ (n : Nat) (q : Option Nat), (∀ x, q = some x → Mk σ x) → ∀ x, cf_walk σ n q = some x → Mk σ x
  | 0, q, hq, x, hx => hq x hx
  | n + 1, none, hq, x, hx => by cases hx
  | n + 1, some y, hq, x, hx => walk_ok h n (σ.2.1 8 y 6) (fun z hz => h.bh (hq y rfl) hz) x hx
theorem pAt_ok {σ : sT} {lv : Nat → Nat → Prop} (h : OKs σ lv) {r : Nat} (hr : r < 24) {i : Int32} {x : Nat} (hx : c_pAt σ r i = some x) : Mk σ x := by
  unfold c_pAt at hx
  split at hx
  · cases hx
  · split at hx
    · exact walk_ok h _ _ (fun z hz => h.fi hr hz) x hx
    · cases hx
set_option maxRecDepth 100000 in
set_option maxHeartbeats 4000000 in
theorem lp_pAt {l : Launch} {D : va_G} {E : Nat → ClassId} {ad : Nat → Nat → Nat} {lv : Nat → Nat → Prop} {τ : sT} {σ : sT} (h : OKs σ lv) {r : Nat} {a : Int32} {R0 : Option Value} {p : Program} {e : Env} {s : State} {m : MethodId} {below : List Frame} {meth : Method} {c : Code} {sz : Nat} (C : CallFix p m c c_R_processAt 4 s ([.ref (ad 6 r), .int (a)] : List Value).toArray jT "InputRoom$Row") (hK : jK D jcl jY E s) (hret : meth.sig.returnType = some (.object "InputRoom$Proc")) (hlk : meth.locks = false) (hAz : ∀ q, s.heap.size ≤ q → jA ad lv sz q) : ∀ (n : Nat) (q : Option Nat) (i : Int32), (∀ x, q = some x → Mk σ x) → i.toInt + n = a.toInt → R0 = some (va_rf (Option.map (ad 8) (cf_walk σ n q))) → JM l y_R_processAt c_R_processAt 4 (some (.object "InputRoom$Proc")) 0 D E ad lv p e s m below meth c sz [.ref (ad 6 r), .int (a)] R0 (jv ad σ τ) (jv ad σ τ) 19 [some (.ref (ad 6 r)), some (.int (a)), some (va_rf (Option.map (ad 8) (q))), some (.int (i))] [] := by
  intro n
  induction n with
  | zero =>
    intro q i hq hi hR
    have hge : a ≤ i := by rw [i32_le]; omega
    refine j_iload_n C d_R_processAt_19 rfl rfl ?_
    refine j_iload_n C d_R_processAt_20 rfl rfl ?_
    refine j_icmp_ge C 39 d_R_processAt_21 rfl (fun _ => ?_) (fun g1 => absurd hge g1)
    refine j_aload_nQ C d_R_processAt_39 rfl rfl ?_
    refine j_aret (o := Option.map (ad 8) (q)) C hret hlk d_R_processAt_40 ?_ ?_ rfl rfl
    · exact hR
    · rfl
  | succ n ih =>
    intro q i hq hi hR
    have hlt : i.toInt < a.toInt := by omega
    have hge : ¬ a ≤ i := by rw [i32_le]; omega
    refine j_iload_n C d_R_processAt_19 rfl rfl ?_
    refine j_iload_n C d_R_processAt_20 rfl rfl ?_
    refine j_icmp_ge C 39 d_R_processAt_21 rfl (fun g1 => absurd g1 hge) (fun _ => ?_)
    refine j_aload_nQ C d_R_processAt_24 rfl rfl ?_
    refine jnull (o := q) (t := 8) C 39 d_R_processAt_25 rfl (fun g2 => ?_) (fun x3 g2 => ?_)
    ·
      subst g2
      refine j_aload_nQ (o := none) C d_R_processAt_39 rfl rfl ?_
      refine j_aret (o := none) C hret hlk d_R_processAt_40 ?_ ?_ rfl rfl
      · exact hR
      · rfl
    ·
      subst g2
      have hmx3 : Mk σ x3 := hq x3 rfl
      have hlx3 : lv 8 x3 := h.p hmx3
      refine j_aload_n C d_R_processAt_28 rfl rfl ?_
      refine sgR (t := 8) C hK 8 x3 6 d_R_processAt_29 in_P rfl rfl (by decide) t_165 rfl rfl rfl (by assumption) ?_
      refine j_astore_nQ C d_R_processAt_32 rfl (by decide) ?_
      refine j_iinc C d_R_processAt_33 rfl (by decide) ?_
      refine j_goto C 19 d_R_processAt_36 rfl ?_
      refine ih (σ.2.1 8 x3 6) _ (fun z hz => h.bh hmx3 hz) ?_ hR
      rw [i32_succ hlt]
      omega
set_option maxRecDepth 100000 in
set_option maxHeartbeats 4000000 in
theorem k_pAt {l : Launch} {D : va_G} {E : Nat → ClassId} {ad : Nat → Nat → Nat} {lv : Nat → Nat → Prop} {σ τ : sT} (h : OKs σ lv) {r : Nat} (hr : r < 24) {a : Int32} : jM l y_R_processAt c_R_processAt 4 (some (.object "InputRoom$Proc")) 0 D E ad lv (jv ad σ τ) [.ref (ad 6 r), .int (a)] (some (va_rf (Option.map (ad 8) (c_pAt σ r a)))) (jv ad σ τ) := by
  intro sz
  refine jC.of "InputRoom$Row" (by decide +kernel) rfl rfl (Nat.le_of_ble_eq_true rfl) (by intro v hv; simp only [List.mem_cons, List.not_mem_nil, or_false] at hv; rcases hv with rfl | rfl <;> first | rfl | exact jrf_cat _) ?_
  intro p e s m below meth c C hK hret hlk hnm hsz hAz
  have hlr : lv 6 r := h.r hr
  refine j_iload_n C d_R_processAt_0 rfl rfl ?_
  refine j_if_lt C 10 d_R_processAt_1 rfl (fun g1 => ?_) (fun g1 => ?_)
  ·
    refine j_null C d_R_processAt_10 ?_
    refine j_aret (o := none) C hret hlk d_R_processAt_11 ?_ ?_ rfl rfl
    · simp only [c_pAt, g1, if_true, if_false]; rfl
    · rfl
  ·
    refine j_iload_n C d_R_processAt_4 rfl rfl ?_
    refine j_bipush (v := 32) C d_R_processAt_5 (by decide) ?_
    refine j_icmp_lt C 12 d_R_processAt_7 rfl (fun g2 => ?_) (fun g2 => ?_)
    ·
      refine j_aload_n C d_R_processAt_12 rfl rfl ?_
      refine sgR (t := 8) C hK 6 r 1 d_R_processAt_13 in_R rfl rfl (by decide) t_78 rfl rfl rfl (by assumption) ?_
      refine j_astore_nQ C d_R_processAt_16 rfl (by decide) ?_
      refine j_iconst (v := 0) C d_R_processAt_17 (by decide) ?_
      refine j_istore_n C d_R_processAt_18 rfl (by decide) ?_
      refine lp_pAt h C hK hret hlk hAz a.toNatClampNeg (σ.2.1 6 r 1) 0 (fun z hz => h.fi hr hz) ?_ (by rw [c_pAt, if_neg g1, if_pos g2])
      rw [i32_lt, i32_0] at g1
      rw [← Int32.toNat_toInt, i32_0]
      omega
    ·
      refine j_null C d_R_processAt_10 ?_
      refine j_aret (o := none) C hret hlk d_R_processAt_11 ?_ ?_ rfl rfl
      · simp only [c_pAt, g1, g2, if_true, if_false]; rfl
      · rfl
set_option maxRecDepth 100000 in
set_option maxHeartbeats 4000000 in
theorem k_plan {l : Launch} {D : va_G} {E : Nat → ClassId} {ad : Nat → Nat → Nat} {lv : Nat → Nat → Prop} {σ τ : sT} (h : OKs σ lv) {a i t : Int32} : jM l y_X_plan c_X_plan 6 (some .int) 1 D E ad lv (jv ad σ τ) [.ref (ad 0 0), .int (a), .int (i), .int (t)] (some (.int (c_plan σ a i t).1)) (jv ad (c_plan σ a i t).2 τ) := by
  intro sz
  refine jC.of "InputRoom" (by decide +kernel) rfl rfl (Nat.le_of_ble_eq_true rfl) (by intro v hv; simp only [List.mem_cons, List.not_mem_nil, or_false] at hv; rcases hv with rfl | rfl | rfl | rfl <;> first | rfl | exact jrf_cat _) ?_
  intro p e s m below meth c C hK hret hlk hnm hsz hAz
  have hb0 : lv 0 0 := h.k (by decide)
  have hb1 : lv 1 0 := h.k (by decide)
  have hb2 : lv 2 0 := h.k (by decide)
  have hb3 : lv 3 0 := h.k (by decide)
  have hb4 : lv 4 0 := h.k (by decide)
  have hb5 : lv 5 0 := h.k (by decide)
  refine j_aload_n C d_X_plan_0 rfl rfl ?_
  refine j_iload_n C d_X_plan_1 rfl rfl ?_
  refine j_callV C hK hAz 0 0 (k_pn (a := a) h _) (jcV C mi_X_processNumbered t_185 t_187 t_0 rfl rfl ⟨by decide, by decide⟩) rfl rfl (by assumption) rfl rfl (Nat.le_of_ble_eq_true rfl) d_X_plan_2 ⟨Nat.zero_le _, Nat.zero_le _⟩ ?_
  refine j_astoreQ C d_X_plan_5 (by decide) ?_
  refine j_aloadQ C d_X_plan_7 rfl ?_
  refine jnull (o := cf_pn σ a) (t := 8) C 32 d_X_plan_9 rfl (fun g1 => ?_) (fun x2 g1 => ?_)
  ·
    try rw [g1]
    refine j_iconst (v := -1) C d_X_plan_32 (by decide) ?_
    refine j_iret C hret hlk d_X_plan_33 ?_ ?_ rfl rfl
    · simp only [c_plan, g1, if_true, if_false]
    · simp only [c_plan, g1, if_true, if_false]
  ·
    try rw [g1]
    have hmx2 : Mk σ x2 := pn_ok h g1
    have hlx2 : lv 8 x2 := h.p hmx2
    have hax2 : lv 9 x2 := h.a hmx2
    refine j_iload_n C d_X_plan_12 rfl rfl ?_
    refine j_if_lt C 32 d_X_plan_13 rfl (fun g3 => ?_) (fun g3 => ?_)
    ·
      refine j_iconst (v := -1) C d_X_plan_32 (by decide) ?_
      refine j_iret C hret hlk d_X_plan_33 ?_ ?_ rfl rfl
      · simp only [c_plan, g1, g3, if_true, if_false]
      · simp only [c_plan, g1, g3, if_true, if_false]
    ·
      refine j_iload_n C d_X_plan_16 rfl rfl ?_
      refine j_bipush (v := 8) C d_X_plan_17 (by decide) ?_
      refine j_icmp_ge C 32 d_X_plan_19 rfl (fun g4 => ?_) (fun g4 => ?_)
      ·
        refine j_iconst (v := -1) C d_X_plan_32 (by decide) ?_
        refine j_iret C hret hlk d_X_plan_33 ?_ ?_ rfl rfl
        · simp only [c_plan, g1, g3, g4, if_true, if_false]
        · simp only [c_plan, g1, g3, g4, if_true, if_false]
      ·
        refine j_iload_n C d_X_plan_22 rfl rfl ?_
        refine j_if_lt C 32 d_X_plan_23 rfl (fun g5 => ?_) (fun g5 => ?_)
        ·
          refine j_iconst (v := -1) C d_X_plan_32 (by decide) ?_
          refine j_iret C hret hlk d_X_plan_33 ?_ ?_ rfl rfl
          · simp only [c_plan, g1, g3, g4, g5, if_true, if_false]
          · simp only [c_plan, g1, g3, g4, g5, if_true, if_false]
        ·
          refine j_iload_n C d_X_plan_26 rfl rfl ?_
          refine j_bipush (v := 127) C d_X_plan_27 (by decide) ?_
          refine j_icmp_le C 34 d_X_plan_29 rfl (fun g6 => ?_) (fun g6 => ?_)
          ·
            refine j_aload C d_X_plan_34 rfl ?_
            refine sgC C hK 8 x2 3 d_X_plan_36 in_P rfl rfl (by decide) t_159 rfl rfl rfl (by assumption) ?_
            refine j_iload_n C d_X_plan_39 rfl rfl ?_
            refine sia C hK 9 x2 d_X_plan_40 rfl (vin g3 g4 rfl) rfl rfl (by assumption) ?_
            refine j_istore C d_X_plan_41 (by decide) ?_
            refine j_aload C d_X_plan_43 rfl ?_
            refine sgC C hK 8 x2 3 d_X_plan_45 in_P rfl rfl (by decide) t_159 rfl rfl rfl (by assumption) ?_
            refine j_iload_n C d_X_plan_48 rfl rfl ?_
            refine j_iload_n C d_X_plan_49 rfl rfl ?_
            refine sia_st C hK 9 x2 d_X_plan_50 rfl (vin g3 g4 rfl) rfl rfl (by assumption) ?_
            refine j_iload C d_X_plan_51 rfl ?_
            refine j_iret C hret hlk d_X_plan_53 ?_ ?_ rfl rfl
            · simp only [c_plan, g1, g3, g4, g5, g6, if_true, if_false]
            · simp only [c_plan, g1, g3, g4, g5, g6, if_true, if_false]
          ·
            refine j_iconst (v := -1) C d_X_plan_32 (by decide) ?_
            refine j_iret C hret hlk d_X_plan_33 ?_ ?_ rfl rfl
            · simp only [c_plan, g1, g3, g4, g5, g6, if_true, if_false]
            · simp only [c_plan, g1, g3, g4, g5, g6, if_true, if_false]
set_option maxRecDepth 100000 in
set_option maxHeartbeats 4000000 in
theorem k_wake {l : Launch} {D : va_G} {E : Nat → ClassId} {ad : Nat → Nat → Nat} {lv : Nat → Nat → Prop} {σ τ : sT} (h : OKs σ lv) {a : Int32} : jM l y_X_wake c_X_wake 3 (some .boolean) 2 D E ad lv (jv ad σ τ) [.ref (ad 0 0), .int (a)] (some (.int (c_wake σ a).1)) (jv ad (c_wake σ a).2 τ) := by
  intro sz
  refine jC.of "InputRoom" (by decide +kernel) rfl rfl (Nat.le_of_ble_eq_true rfl) (by intro v hv; simp only [List.mem_cons, List.not_mem_nil, or_false] at hv; rcases hv with rfl | rfl <;> first | rfl | exact jrf_cat _) ?_
  intro p e s m below meth c C hK hret hlk hnm hsz hAz
  have hb0 : lv 0 0 := h.k (by decide)
  have hb1 : lv 1 0 := h.k (by decide)
  have hb2 : lv 2 0 := h.k (by decide)
  have hb3 : lv 3 0 := h.k (by decide)
  have hb4 : lv 4 0 := h.k (by decide)
  have hb5 : lv 5 0 := h.k (by decide)
  refine j_aload_n C d_X_wake_0 rfl rfl ?_
  refine j_iload_n C d_X_wake_1 rfl rfl ?_
  refine j_callV C hK hAz 0 0 (k_pn (a := a) h _) (jcV C mi_X_processNumbered t_185 t_187 t_0 rfl rfl ⟨by decide, by decide⟩) rfl rfl (by assumption) rfl rfl (Nat.le_of_ble_eq_true rfl) d_X_wake_2 ⟨Nat.zero_le _, Nat.zero_le _⟩ ?_
  refine j_astore_nQ C d_X_wake_5 rfl (by decide) ?_
  refine j_aload_nQ C d_X_wake_6 rfl rfl ?_
  refine jnull (o := cf_pn σ a) (t := 8) C 17 d_X_wake_7 rfl (fun g1 => ?_) (fun x2 g1 => ?_)
  ·
    try rw [g1]
    refine j_iconst (v := 0) C d_X_wake_17 (by decide) ?_
    refine j_zret C hret hlk (by first | rfl | decide) d_X_wake_18 ?_ ?_ rfl rfl
    · simp only [c_wake, g1, if_true, if_false]
    · simp only [c_wake, g1, if_true, if_false]
  ·
    try rw [g1]
    have hmx2 : Mk σ x2 := pn_ok h g1
    have hlx2 : lv 8 x2 := h.p hmx2
    have hax2 : lv 9 x2 := h.a hmx2
    refine j_aload_n C d_X_wake_10 rfl rfl ?_
    refine sgI C hK 8 x2 5 d_X_wake_11 in_P rfl rfl (by decide) t_164 rfl rfl rfl (by assumption) ?_
    refine j_if_eq C 19 d_X_wake_14 rfl (fun g3 => ?_) (fun g3 => ?_)
    ·
      refine j_aload_n C d_X_wake_19 rfl rfl ?_
      refine j_aload_n C d_X_wake_20 rfl rfl ?_
      refine sgR (t := 8) C hK 0 0 4 d_X_wake_21 in_X rfl rfl (by decide) t_110 rfl rfl rfl (by assumption) ?_
      refine jacmp_eq (t := 8) (ox := some x2) (oy := σ.2.1 0 0 4) C 35 d_X_wake_24 rfl (fun z hz => by cases hz; assumption) (fun z hz => h.p (h.ac hz)) (fun g4 => ?_) (fun g4 => ?_)
      ·
        refine j_iconst (v := 0) C d_X_wake_35 (by decide) ?_
        refine j_zret C hret hlk (by first | rfl | decide) d_X_wake_36 ?_ ?_ rfl rfl
        · simp only [c_wake, g1, g3, if_true]; rw [if_pos g4]
        · simp only [c_wake, g1, g3, if_true]; rw [if_pos g4]
      ·
        refine j_aload_n C d_X_wake_27 rfl rfl ?_
        refine j_aload_n C d_X_wake_28 rfl rfl ?_
        refine j_callV C hK hAz 0 0 (k_pres h _) (jcV C mi_X_presentOne t_193 t_195 t_1 rfl rfl ⟨by decide, by decide⟩) rfl rfl (by assumption) rfl rfl (Nat.le_of_ble_eq_true rfl) d_X_wake_29 ⟨Nat.zero_le _, Nat.zero_le _⟩ ?_
        refine jacmp_ne (t := 8) (ox := some x2) (oy := cf_pres σ) C 37 d_X_wake_32 rfl (fun z hz => by cases hz; assumption) (fun z hz => h.p (pres_ok h hz)) (fun g5 => ?_) (fun g5 => ?_)
        ·
          refine j_aload_n C d_X_wake_37 rfl rfl ?_
          refine j_aload_n C d_X_wake_38 rfl rfl ?_
          refine j_callV C hK hAz 0 0 (k_wakeUp (x := x2) h hmx2 _) (jcV C mi_X_wakeUp t_197 t_199 t_2 rfl rfl ⟨by decide, by decide⟩) rfl rfl (by assumption) rfl rfl (Nat.le_of_ble_eq_true rfl) d_X_wake_39 ⟨Nat.zero_le _, Nat.zero_le _⟩ ?_
          refine j_iconst (v := 1) C d_X_wake_42 (by decide) ?_
          refine j_zret C hret hlk (by first | rfl | decide) d_X_wake_43 ?_ ?_ rfl rfl
          · simp only [c_wake, g1, g3, if_true]; rw [if_neg g4, if_neg g5]
          · simp only [c_wake, g1, g3, if_true]; rw [if_neg g4, if_neg g5]
        ·
          refine j_iconst (v := 0) C d_X_wake_35 (by decide) ?_
          refine j_zret C hret hlk (by first | rfl | decide) d_X_wake_36 ?_ ?_ rfl rfl
          · simp only [c_wake, g1, g3, if_true]; rw [if_neg g4, if_pos g5]
          · simp only [c_wake, g1, g3, if_true]; rw [if_neg g4, if_pos g5]
    ·
      refine j_iconst (v := 0) C d_X_wake_17 (by decide) ?_
      refine j_zret C hret hlk (by first | rfl | decide) d_X_wake_18 ?_ ?_ rfl rfl
      · simp only [c_wake, g1, g3, if_true, if_false]
      · simp only [c_wake, g1, g3, if_true, if_false]
set_option maxRecDepth 100000 in
set_option maxHeartbeats 4000000 in
theorem k_suspend {l : Launch} {D : va_G} {E : Nat → ClassId} {ad : Nat → Nat → Nat} {lv : Nat → Nat → Prop} {σ τ : sT} (h : OKs σ lv) : jM l y_X_suspend c_X_suspend 2 (some .int) 2 D E ad lv (jv ad σ τ) [.ref (ad 0 0)] (some (.int (c_suspend σ).1)) (jv ad (c_suspend σ).2 τ) := by
  intro sz
  refine jC.of "InputRoom" (by decide +kernel) rfl rfl (Nat.le_of_ble_eq_true rfl) (by intro v hv; simp only [List.mem_cons, List.not_mem_nil, or_false] at hv; rcases hv with rfl <;> first | rfl | exact jrf_cat _) ?_
  intro p e s m below meth c C hK hret hlk hnm hsz hAz
  have hb0 : lv 0 0 := h.k (by decide)
  have hb1 : lv 1 0 := h.k (by decide)
  have hb2 : lv 2 0 := h.k (by decide)
  have hb3 : lv 3 0 := h.k (by decide)
  have hb4 : lv 4 0 := h.k (by decide)
  have hb5 : lv 5 0 := h.k (by decide)
  refine j_aload_n C d_X_suspend_0 rfl rfl ?_
  refine j_callV C hK hAz 0 0 (k_pres h _) (jcV C mi_X_presentOne t_193 t_195 t_1 rfl rfl ⟨by decide, by decide⟩) rfl rfl (by assumption) rfl rfl (Nat.le_of_ble_eq_true rfl) d_X_suspend_1 ⟨Nat.zero_le _, Nat.zero_le _⟩ ?_
  refine j_astore_nQ C d_X_suspend_4 rfl (by decide) ?_
  refine j_aload_nQ C d_X_suspend_5 rfl rfl ?_
  refine jnonnull (o := cf_pres σ) (t := 8) C 11 d_X_suspend_6 rfl (fun x2 g1 => ?_) (fun g1 => ?_)
  ·
    try rw [g1]
    have hmx2 : Mk σ x2 := pres_ok h g1
    have hlx2 : lv 8 x2 := h.p hmx2
    refine j_aload_n C d_X_suspend_11 rfl rfl ?_
    refine j_callV C hK hAz 0 0 (k_aside h _) (jcV C mi_X_putPresentAside t_213 t_215 t_4 rfl rfl ⟨by decide, by decide⟩) rfl rfl (by assumption) rfl rfl (Nat.le_of_ble_eq_true rfl) d_X_suspend_12 ⟨Nat.zero_le _, Nat.zero_le _⟩ ?_
    refine j_aload_n C d_X_suspend_15 rfl rfl ?_
    refine sgC C hK 8 x2 0 d_X_suspend_16 in_P rfl rfl (by decide) t_153 rfl rfl rfl (by assumption) ?_
    refine j_iret C hret hlk d_X_suspend_19 ?_ ?_ rfl rfl
    · simp only [c_suspend, g1]
    · simp only [c_suspend, g1]
  ·
    try rw [g1]
    refine j_iconst (v := -1) C d_X_suspend_9 (by decide) ?_
    refine j_iret C hret hlk d_X_suspend_10 ?_ ?_ rfl rfl
    · simp only [c_suspend, g1]
    · simp only [c_suspend, g1]
set_option maxRecDepth 100000 in
set_option maxHeartbeats 4000000 in
theorem k_signal {l : Launch} {D : va_G} {E : Nat → ClassId} {ad : Nat → Nat → Nat} {lv : Nat → Nat → Prop} {σ τ : sT} (h : OKs σ lv) {a : Int32} : jM l y_X_signal c_X_signal 2 (some .boolean) 3 D E ad lv (jv ad σ τ) [.ref (ad 0 0), .int (a)] (some (.int (c_signal σ a).1)) (jv ad (c_signal σ a).2 τ) := by
  intro sz
  refine jC.of "InputRoom" (by decide +kernel) rfl rfl (Nat.le_of_ble_eq_true rfl) (by intro v hv; simp only [List.mem_cons, List.not_mem_nil, or_false] at hv; rcases hv with rfl | rfl <;> first | rfl | exact jrf_cat _) ?_
  intro p e s m below meth c C hK hret hlk hnm hsz hAz
  have hb0 : lv 0 0 := h.k (by decide)
  have hb1 : lv 1 0 := h.k (by decide)
  have hb2 : lv 2 0 := h.k (by decide)
  have hb3 : lv 3 0 := h.k (by decide)
  have hb4 : lv 4 0 := h.k (by decide)
  have hb5 : lv 5 0 := h.k (by decide)
  refine j_iload_n C d_X_signal_0 rfl rfl ?_
  refine j_callS C hK hAz (k_isSem (a := a) _) ⟨jcB C mi_X_isSemaphore t_225 rfl rfl ⟨by decide, by decide⟩, C.2.2.2.2 _ t_226⟩ rfl rfl (Nat.le_of_ble_eq_true rfl) d_X_signal_1 ⟨Nat.zero_le _, Nat.zero_le _⟩ ?_
  refine j_if_ne C 9 d_X_signal_4 rfl (fun g1 => ?_) (fun g1 => ?_)
  ·
    have q0 : isS (a) := Decidable.byContradiction fun z => g1 (if_neg z)
    have hlq0 : lv 7 (a).toNatClampNeg := h.s (isS_lt q0)
    refine j_aload_n C d_X_signal_9 rfl rfl ?_
    refine j_aload_n C d_X_signal_10 rfl rfl ?_
    refine sgC C hK 0 0 2 d_X_signal_11 in_X rfl rfl (by decide) t_108 rfl rfl rfl (by assumption) ?_
    refine j_iload_n C d_X_signal_14 rfl rfl ?_
    refine saC C hK 3 0 d_X_signal_15 rfl (isS_in q0) rfl rfl (by assumption) ?_
    refine j_callV C hK hAz 0 0 (k_sig (s0 := a.toNatClampNeg) h (isS_lt q0) _) (jcV C mi_X_signalOnce t_228 t_230 t_5 rfl rfl ⟨by decide, by decide⟩) rfl rfl (by assumption) rfl rfl (Nat.le_of_ble_eq_true rfl) d_X_signal_16 ⟨Nat.zero_le _, Nat.zero_le _⟩ ?_
    refine j_iconst (v := 1) C d_X_signal_19 (by decide) ?_
    refine j_zret C hret hlk (by first | rfl | decide) d_X_signal_20 ?_ ?_ rfl rfl
    · rw [c_signal, if_pos q0]
    · rw [c_signal, if_pos q0]
  ·
    have n0 : ¬ isS (a) := fun z => by rw [if_pos z] at g1; exact absurd g1 (by decide)
    refine j_iconst (v := 0) C d_X_signal_7 (by decide) ?_
    refine j_zret C hret hlk (by first | rfl | decide) d_X_signal_8 ?_ ?_ rfl rfl
    · rw [c_signal, if_neg n0]
    · rw [c_signal, if_neg n0]
set_option maxRecDepth 100000 in
set_option maxHeartbeats 4000000 in
theorem k_listen {l : Launch} {D : va_G} {E : Nat → ClassId} {ad : Nat → Nat → Nat} {lv : Nat → Nat → Prop} {σ τ : sT} (h : OKs σ lv) {a : Int32} : jM l y_X_listen c_X_listen 2 (some .boolean) 1 D E ad lv (jv ad σ τ) [.ref (ad 0 0), .int (a)] (some (.int (c_listen σ a).1)) (jv ad (c_listen σ a).2 τ) := by
  intro sz
  refine jC.of "InputRoom" (by decide +kernel) rfl rfl (Nat.le_of_ble_eq_true rfl) (by intro v hv; simp only [List.mem_cons, List.not_mem_nil, or_false] at hv; rcases hv with rfl | rfl <;> first | rfl | exact jrf_cat _) ?_
  intro p e s m below meth c C hK hret hlk hnm hsz hAz
  have hb0 : lv 0 0 := h.k (by decide)
  have hb1 : lv 1 0 := h.k (by decide)
  have hb2 : lv 2 0 := h.k (by decide)
  have hb3 : lv 3 0 := h.k (by decide)
  have hb4 : lv 4 0 := h.k (by decide)
  have hb5 : lv 5 0 := h.k (by decide)
  refine j_iload_n C d_X_listen_0 rfl rfl ?_
  refine j_iconst (v := -1) C d_X_listen_1 (by decide) ?_
  refine j_icmp_ne C 12 d_X_listen_2 rfl (fun g1 => ?_) (fun g1 => ?_)
  ·
    refine j_iload_n C d_X_listen_12 rfl rfl ?_
    refine j_callS C hK hAz (k_isSem (a := a) _) ⟨jcB C mi_X_isSemaphore t_225 rfl rfl ⟨by decide, by decide⟩, C.2.2.2.2 _ t_226⟩ rfl rfl (Nat.le_of_ble_eq_true rfl) d_X_listen_13 ⟨Nat.zero_le _, Nat.zero_le _⟩ ?_
    refine j_if_ne C 21 d_X_listen_16 rfl (fun g2 => ?_) (fun g2 => ?_)
    ·
      have q0 : isS (a) := Decidable.byContradiction fun z => g2 (if_neg z)
      have hlq0 : lv 7 (a).toNatClampNeg := h.s (isS_lt q0)
      refine j_aload_n C d_X_listen_21 rfl rfl ?_
      refine j_aload_n C d_X_listen_22 rfl rfl ?_
      refine sgC C hK 0 0 2 d_X_listen_23 in_X rfl rfl (by decide) t_108 rfl rfl rfl (by assumption) ?_
      refine j_iload_n C d_X_listen_26 rfl rfl ?_
      refine saC C hK 3 0 d_X_listen_27 rfl (isS_in q0) rfl rfl (by assumption) ?_
      refine spP (t := 7) C hK 0 0 9 ty_X tk_X nm_X d_X_listen_28 in_X rfl rfl (by decide) t_115 rfl rfl rfl rfl (some ((a).toNatClampNeg)) rfl rfl (by assumption) ?_
      refine j_iconst (v := 1) C d_X_listen_31 (by decide) ?_
      refine j_zret C hret hlk (by first | rfl | decide) d_X_listen_32 ?_ ?_ rfl rfl
      · rw [c_listen, if_neg g1, if_pos q0]
      · rw [c_listen, if_neg g1, if_pos q0]
    ·
      have n0 : ¬ isS (a) := fun z => by rw [if_pos z] at g2; exact absurd g2 (by decide)
      refine j_iconst (v := 0) C d_X_listen_19 (by decide) ?_
      refine j_zret C hret hlk (by first | rfl | decide) d_X_listen_20 ?_ ?_ rfl rfl
      · rw [c_listen, if_neg g1, if_neg n0]
      · rw [c_listen, if_neg g1, if_neg n0]
  ·
    refine j_aload_n C d_X_listen_5 rfl rfl ?_
    refine j_null C d_X_listen_6 ?_
    refine spP (t := 7) C hK 0 0 9 ty_X tk_X nm_X d_X_listen_7 in_X rfl rfl (by decide) t_115 rfl rfl rfl rfl (none) rfl rfl (by assumption) ?_
    refine j_iconst (v := 1) C d_X_listen_10 (by decide) ?_
    refine j_zret C hret hlk (by first | rfl | decide) d_X_listen_11 ?_ ?_ rfl rfl
    · rw [c_listen, if_pos g1]
    · rw [c_listen, if_pos g1]
set_option maxRecDepth 100000 in
set_option maxHeartbeats 4000000 in
theorem k_alarm {l : Launch} {D : va_G} {E : Nat → ClassId} {ad : Nat → Nat → Nat} {lv : Nat → Nat → Prop} {σ τ : sT} (h : OKs σ lv) {a t : Int32} : jM l y_X_alarm c_X_alarm 3 (some .boolean) 1 D E ad lv (jv ad σ τ) [.ref (ad 0 0), .int (a), .int (t)] (some (.int (c_alarm σ a t).1)) (jv ad (c_alarm σ a t).2 τ) := by
  intro sz
  refine jC.of "InputRoom" (by decide +kernel) rfl rfl (Nat.le_of_ble_eq_true rfl) (by intro v hv; simp only [List.mem_cons, List.not_mem_nil, or_false] at hv; rcases hv with rfl | rfl | rfl <;> first | rfl | exact jrf_cat _) ?_
  intro p e s m below meth c C hK hret hlk hnm hsz hAz
  have hb0 : lv 0 0 := h.k (by decide)
  have hb1 : lv 1 0 := h.k (by decide)
  have hb2 : lv 2 0 := h.k (by decide)
  have hb3 : lv 3 0 := h.k (by decide)
  have hb4 : lv 4 0 := h.k (by decide)
  have hb5 : lv 5 0 := h.k (by decide)
  refine j_iload_n C d_X_alarm_0 rfl rfl ?_
  refine j_iconst (v := -1) C d_X_alarm_1 (by decide) ?_
  refine j_icmp_ne C 12 d_X_alarm_2 rfl (fun g1 => ?_) (fun g1 => ?_)
  ·
    refine j_iload_n C d_X_alarm_12 rfl rfl ?_
    refine j_callS C hK hAz (k_isSem (a := a) _) ⟨jcB C mi_X_isSemaphore t_225 rfl rfl ⟨by decide, by decide⟩, C.2.2.2.2 _ t_226⟩ rfl rfl (Nat.le_of_ble_eq_true rfl) d_X_alarm_13 ⟨Nat.zero_le _, Nat.zero_le _⟩ ?_
    refine j_if_eq C 29 d_X_alarm_16 rfl (fun g2 => ?_) (fun g2 => ?_)
    ·
      have n0 : ¬ isS (a) := fun z => by rw [if_pos z] at g2; exact absurd g2 (by decide)
      refine j_iconst (v := 0) C d_X_alarm_29 (by decide) ?_
      refine j_zret C hret hlk (by first | rfl | decide) d_X_alarm_30 ?_ ?_ rfl rfl
      · rw [c_alarm, if_neg g1, if_neg n0]
      · rw [c_alarm, if_neg g1, if_neg n0]
    ·
      have q0 : isS (a) := Decidable.byContradiction fun z => g2 (if_neg z)
      have hlq0 : lv 7 (a).toNatClampNeg := h.s (isS_lt q0)
      refine j_iload_n C d_X_alarm_19 rfl rfl ?_
      refine j_if_lt C 29 d_X_alarm_20 rfl (fun g3 => ?_) (fun g3 => ?_)
      ·
        refine j_iconst (v := 0) C d_X_alarm_29 (by decide) ?_
        refine j_zret C hret hlk (by first | rfl | decide) d_X_alarm_30 ?_ ?_ rfl rfl
        · rw [c_alarm, if_neg g1, if_pos q0, if_pos g3]
        · rw [c_alarm, if_neg g1, if_pos q0, if_pos g3]
      ·
        refine j_iload_n C d_X_alarm_23 rfl rfl ?_
        refine j_ldc C d_X_alarm_24 t_240 ?_
        refine j_icmp_le C 31 d_X_alarm_26 rfl (fun g4 => ?_) (fun g4 => ?_)
        ·
          refine j_aload_n C d_X_alarm_31 rfl rfl ?_
          refine j_aload_n C d_X_alarm_32 rfl rfl ?_
          refine sgC C hK 0 0 2 d_X_alarm_33 in_X rfl rfl (by decide) t_108 rfl rfl rfl (by assumption) ?_
          refine j_iload_n C d_X_alarm_36 rfl rfl ?_
          refine saC C hK 3 0 d_X_alarm_37 rfl (isS_in q0) rfl rfl (by assumption) ?_
          refine j_iload_n C d_X_alarm_38 rfl rfl ?_
          refine j_callV C hK hAz 0 0 (k_setAlarm (s0 := a.toNatClampNeg) (t := t) h _) (jcV C mi_X_setAlarm t_241 t_243 t_6 rfl rfl ⟨by decide, by decide⟩) rfl rfl (by assumption) rfl rfl (Nat.le_of_ble_eq_true rfl) d_X_alarm_39 ⟨Nat.zero_le _, Nat.zero_le _⟩ ?_
          refine j_iconst (v := 1) C d_X_alarm_42 (by decide) ?_
          refine j_zret C hret hlk (by first | rfl | decide) d_X_alarm_43 ?_ ?_ rfl rfl
          · rw [c_alarm, if_neg g1, if_pos q0, if_neg g3, if_pos g4]
          · rw [c_alarm, if_neg g1, if_pos q0, if_neg g3, if_pos g4]
        ·
          refine j_iconst (v := 0) C d_X_alarm_29 (by decide) ?_
          refine j_zret C hret hlk (by first | rfl | decide) d_X_alarm_30 ?_ ?_ rfl rfl
          · rw [c_alarm, if_neg g1, if_pos q0, if_neg g3, if_neg g4]
          · rw [c_alarm, if_neg g1, if_pos q0, if_neg g3, if_neg g4]
  ·
    refine j_aload_n C d_X_alarm_5 rfl rfl ?_
    refine j_null C d_X_alarm_6 ?_
    refine spP (t := 7) C hK 0 0 10 ty_X tk_X nm_X d_X_alarm_7 in_X rfl rfl (by decide) t_116 rfl rfl rfl rfl (none) rfl rfl (by assumption) ?_
    refine j_iconst (v := 1) C d_X_alarm_10 (by decide) ?_
    refine j_zret C hret hlk (by first | rfl | decide) d_X_alarm_11 ?_ ?_ rfl rfl
    · rw [c_alarm, if_pos g1]
    · rw [c_alarm, if_pos g1]
set_option maxRecDepth 100000 in
set_option maxHeartbeats 4000000 in
theorem k_word {l : Launch} {D : va_G} {E : Nat → ClassId} {ad : Nat → Nat → Nat} {lv : Nat → Nat → Prop} {σ τ : sT} (h : OKs σ lv) {a : Int32} : jM l y_X_word c_X_word 2 (some .int) 3 D E ad lv (jv ad σ τ) [.ref (ad 0 0), .int (a)] (some (.int (c_word σ a).1)) (jv ad (c_word σ a).2 τ) := by
  intro sz
  refine jC.of "InputRoom" (by decide +kernel) rfl rfl (Nat.le_of_ble_eq_true rfl) (by intro v hv; simp only [List.mem_cons, List.not_mem_nil, or_false] at hv; rcases hv with rfl | rfl <;> first | rfl | exact jrf_cat _) ?_
  intro p e s m below meth c C hK hret hlk hnm hsz hAz
  have hb0 : lv 0 0 := h.k (by decide)
  have hb1 : lv 1 0 := h.k (by decide)
  have hb2 : lv 2 0 := h.k (by decide)
  have hb3 : lv 3 0 := h.k (by decide)
  have hb4 : lv 4 0 := h.k (by decide)
  have hb5 : lv 5 0 := h.k (by decide)
  refine j_iload_n C d_X_word_0 rfl rfl ?_
  refine j_if_lt C 10 d_X_word_1 rfl (fun g1 => ?_) (fun g1 => ?_)
  ·
    refine j_iconst (v := -1) C d_X_word_10 (by decide) ?_
    refine j_goto C 22 d_X_word_11 rfl ?_
    refine j_iret C hret hlk d_X_word_22 ?_ ?_ rfl rfl
    · rw [c_word, if_pos g1]
    · rw [c_word, if_pos g1]
  ·
    refine j_iload_n C d_X_word_4 rfl rfl ?_
    refine j_ldc C d_X_word_5 t_249 ?_
    refine j_icmp_le C 14 d_X_word_7 rfl (fun g2 => ?_) (fun g2 => ?_)
    ·
      refine j_aload_n C d_X_word_14 rfl rfl ?_
      refine sgC C hK 0 0 3 d_X_word_15 in_X rfl rfl (by decide) t_109 rfl rfl rfl (by assumption) ?_
      refine j_iload_n C d_X_word_18 rfl rfl ?_
      refine j_callV C hK hAz 4 0 (k_add (a := a) h _) (jcV C mi_W_add t_250 t_251 t_252 rfl rfl ⟨by decide, by decide⟩) rfl rfl (by assumption) rfl rfl (Nat.le_of_ble_eq_true rfl) d_X_word_19 ⟨Nat.zero_le _, Nat.zero_le _⟩ ?_
      refine j_iret C hret hlk d_X_word_22 ?_ ?_ rfl rfl
      · rw [c_word, if_neg g1, if_pos g2]
      · rw [c_word, if_neg g1, if_pos g2]
    ·
      refine j_iconst (v := -1) C d_X_word_10 (by decide) ?_
      refine j_goto C 22 d_X_word_11 rfl ?_
      refine j_iret C hret hlk d_X_word_22 ?_ ?_ rfl rfl
      · rw [c_word, if_neg g1, if_neg g2]
      · rw [c_word, if_neg g1, if_neg g2]
set_option maxRecDepth 100000 in
set_option maxHeartbeats 4000000 in
theorem lp_run {l : Launch} {D : va_G} {E : Nat → ClassId} {ad : Nat → Nat → Nat} {lv : Nat → Nat → Prop} {τ : sT} {V1 : jVT} {a : Int32} {R0 : Option Value} {p : Program} {e : Env} {s : State} {m : MethodId} {below : List Frame} {meth : Method} {c : Code} {sz : Nat} (C : CallFix p m c c_X_run 3 s ([.ref (ad 0 0), .int (a)] : List Value).toArray jT "InputRoom") (hK : jK D jcl jY E s) (hret : meth.sig.returnType = some .int) (hlk : meth.locks = false) (hAz : ∀ q, s.heap.size ≤ q → jA ad lv sz q) : ∀ (n : Nat) (σ1 : sT) (i : Int32), OKs σ1 lv → i.toInt + n = a.toInt → R0 = some (.int (i + nI (cf_loop n σ1).1)) → jv ad (cf_loop n σ1).2 τ = V1 → JM l y_X_run c_X_run 3 (some .int) 6 D E ad lv p e s m below meth c sz [.ref (ad 0 0), .int (a)] R0 (V1) (jv ad σ1 τ) 27 [some (.ref (ad 0 0)), some (.int (a)), some (.int (i))] [] := by
  intro n
  induction n with
  | zero =>
    intro σ1 i h1 hi hR hV
    have hge : a ≤ i := by rw [i32_le]; omega
    refine j_iload_n C d_X_run_27 rfl rfl ?_
    refine j_iload_n C d_X_run_28 rfl rfl ?_
    refine j_icmp_ge C 57 d_X_run_29 rfl (fun _ => ?_) (fun g1 => absurd hge g1)
    refine j_iload_n C d_X_run_57 rfl rfl ?_
    refine j_iret C hret hlk d_X_run_58 ?_ ?_ rfl rfl
    · rw [hR]; show _ = _; rw [show (cf_loop 0 σ1).1 = 0 from rfl, nI_0, Int32.add_zero]
    · exact hV
  | succ n ih =>
    intro σ1 i h1 hi hR hV
    have hlt : i.toInt < a.toInt := by omega
    have hge : ¬ a ≤ i := by rw [i32_le]; omega
    have hb0 : lv 0 0 := h1.k (by decide)
    refine j_iload_n C d_X_run_27 rfl rfl ?_
    refine j_iload_n C d_X_run_28 rfl rfl ?_
    refine j_icmp_ge C 57 d_X_run_29 rfl (fun g1 => absurd g1 hge) (fun _ => ?_)
    refine j_aload_n C d_X_run_32 rfl rfl ?_
    refine sgR (t := 8) C hK 0 0 4 d_X_run_33 in_X rfl rfl (by decide) t_110 rfl rfl rfl (by assumption) ?_
    refine jnull (o := σ1.2.1 0 0 4) (t := 8) C 57 d_X_run_36 rfl (fun g2 => ?_) (fun x3 g2 => ?_)
    ·
      try rw [g2]
      refine j_iload_n C d_X_run_57 rfl rfl ?_
      refine j_iret C hret hlk d_X_run_58 ?_ ?_ rfl rfl
      · rw [hR]; rw [show (cf_loop (n + 1) σ1).1 = 0 by simp only [cf_loop, g2], nI_0, Int32.add_zero]
      · rw [← hV]; simp only [cf_loop, g2]
    ·
      try rw [g2]
      have hmx3 : Mk σ1 x3 := h1.ac g2
      have hlx3 : lv 8 x3 := h1.p hmx3
      have hax3 : lv 9 x3 := h1.a hmx3
      refine j_aload_n C d_X_run_39 rfl rfl ?_
      refine j_aload_n C d_X_run_40 rfl rfl ?_
      refine sgR (t := 8) C hK 0 0 4 d_X_run_41 in_X rfl rfl (by decide) t_110 rfl rfl rfl (by assumption) ?_
      rw [g2]
      refine j_callV C hK hAz 0 0 (k_code (x := x3) h1 hmx3 _) (jcV C mi_X_doCode t_285 t_287 t_12 rfl rfl ⟨by decide, by decide⟩) rfl rfl (by assumption) rfl rfl (Nat.le_of_ble_eq_true rfl) d_X_run_44 ⟨Nat.zero_le _, Nat.zero_le _⟩ ?_
      have ok2 : OKs (cf_code σ1 x3) lv := (go_code h1).1
      refine j_aload_n C d_X_run_47 rfl rfl ?_
      refine j_callV C hK hAz 0 0 (k_behind ok2 _) (jcV C mi_X_doBehind t_265 t_267 t_8 rfl rfl ⟨by decide, by decide⟩) rfl rfl (by assumption) rfl rfl (Nat.le_of_ble_eq_true rfl) d_X_run_48 ⟨Nat.zero_le _, Nat.zero_le _⟩ ?_
      refine j_iinc C d_X_run_51 rfl (by decide) ?_
      refine j_goto C 27 d_X_run_54 rfl ?_
      have e1 : cf_loop (n + 1) σ1 = ((cf_loop n (cf_behind (cf_code σ1 x3))).1 + 1, (cf_loop n (cf_behind (cf_code σ1 x3))).2) := by simp only [cf_loop, g2]
      refine ih (cf_behind (cf_code σ1 x3)) _ (go_behind ok2).1 ?_ ?_ ?_
      · rw [i32_succ hlt]; omega
      · rw [hR, e1, nI_succ, Int32.add_assoc, Int32.add_comm (nI _) 1]; rfl
      · rw [← hV, e1]
set_option maxRecDepth 100000 in
set_option maxHeartbeats 4000000 in
theorem k_run {l : Launch} {D : va_G} {E : Nat → ClassId} {ad : Nat → Nat → Nat} {lv : Nat → Nat → Prop} {σ τ : sT} (h : OKs σ lv) {a : Int32} : jM l y_X_run c_X_run 3 (some .int) 6 D E ad lv (jv ad σ τ) [.ref (ad 0 0), .int (a)] (some (.int (c_run σ a).1)) (jv ad (c_run σ a).2 τ) := by
  intro sz
  refine jC.of "InputRoom" (by decide +kernel) rfl rfl (Nat.le_of_ble_eq_true rfl) (by intro v hv; simp only [List.mem_cons, List.not_mem_nil, or_false] at hv; rcases hv with rfl | rfl <;> first | rfl | exact jrf_cat _) ?_
  intro p e s m below meth c C hK hret hlk hnm hsz hAz
  have hb0 : lv 0 0 := h.k (by decide)
  have hb1 : lv 1 0 := h.k (by decide)
  have hb2 : lv 2 0 := h.k (by decide)
  have hb3 : lv 3 0 := h.k (by decide)
  have hb4 : lv 4 0 := h.k (by decide)
  have hb5 : lv 5 0 := h.k (by decide)
  refine j_iload_n C d_X_run_0 rfl rfl ?_
  refine j_iconst (v := 1) C d_X_run_1 (by decide) ?_
  refine j_icmp_lt C 12 d_X_run_2 rfl (fun g1 => ?_) (fun g1 => ?_)
  ·
    refine j_iconst (v := -1) C d_X_run_12 (by decide) ?_
    refine j_iret C hret hlk d_X_run_13 ?_ ?_ rfl rfl
    · rw [c_run, if_pos g1]
    · rw [c_run, if_pos g1]
  ·
    refine j_iload_n C d_X_run_5 rfl rfl ?_
    refine j_sipush (v := 1000) C d_X_run_6 (by decide) ?_
    refine j_icmp_le C 14 d_X_run_9 rfl (fun g2 => ?_) (fun g2 => ?_)
    ·
      refine j_aload_n C d_X_run_14 rfl rfl ?_
      refine sgR (t := 8) C hK 0 0 4 d_X_run_15 in_X rfl rfl (by decide) t_110 rfl rfl rfl (by assumption) ?_
      refine jnonnull (o := σ.2.1 0 0 4) (t := 8) C 25 d_X_run_18 rfl (fun x4 g3 => ?_) (fun g3 => ?_)
      ·
        try rw [g3]
        have hmx4 : Mk σ x4 := h.ac g3
        have hlx4 : lv 8 x4 := h.p hmx4
        have hax4 : lv 9 x4 := h.a hmx4
        refine j_iconst (v := 0) C d_X_run_25 (by decide) ?_
        refine j_istore_n C d_X_run_26 rfl (by decide) ?_
        have e0 : c_run0 σ = σ := by simp only [c_run0, g3]
        have e1 : c_run σ a = (0 + nI (cf_loop a.toNatClampNeg σ).1, (cf_loop a.toNatClampNeg σ).2) := by rw [c_run, if_neg g1, if_pos g2, e0]
        refine lp_run C hK hret hlk hAz a.toNatClampNeg σ 0 h ?_ (by rw [e1]) (by rw [e1])
        rw [i32_lt, show (1 : Int32).toInt = 1 from rfl] at g1
        rw [← Int32.toNat_toInt, i32_0]
        omega
      ·
        try rw [g3]
        refine j_aload_n C d_X_run_21 rfl rfl ?_
        refine j_callV C hK hAz 0 0 (k_behind h _) (jcV C mi_X_doBehind t_265 t_267 t_8 rfl rfl ⟨by decide, by decide⟩) rfl rfl (by assumption) rfl rfl (Nat.le_of_ble_eq_true rfl) d_X_run_22 ⟨Nat.zero_le _, Nat.zero_le _⟩ ?_
        refine j_iconst (v := 0) C d_X_run_25 (by decide) ?_
        refine j_istore_n C d_X_run_26 rfl (by decide) ?_
        have e0 : c_run0 σ = (cf_behind σ) := by simp only [c_run0, g3]
        have e1 : c_run σ a = (0 + nI (cf_loop a.toNatClampNeg (cf_behind σ)).1, (cf_loop a.toNatClampNeg (cf_behind σ)).2) := by rw [c_run, if_neg g1, if_pos g2, e0]
        refine lp_run C hK hret hlk hAz a.toNatClampNeg (cf_behind σ) 0 (go_behind h).1 ?_ (by rw [e1]) (by rw [e1])
        rw [i32_lt, show (1 : Int32).toInt = 1 from rfl] at g1
        rw [← Int32.toNat_toInt, i32_0]
        omega
    ·
      refine j_iconst (v := -1) C d_X_run_12 (by decide) ?_
      refine j_iret C hret hlk d_X_run_13 ?_ ?_ rfl rfl
      · rw [c_run, if_neg g1, if_neg g2]
      · rw [c_run, if_neg g1, if_neg g2]
set_option maxRecDepth 100000 in
set_option maxHeartbeats 4000000 in
theorem k_active {l : Launch} {D : va_G} {E : Nat → ClassId} {ad : Nat → Nat → Nat} {lv : Nat → Nat → Prop} {σ τ : sT} (h : OKs σ lv) : jM l y_X_active c_X_active 1 (some .int) 1 D E ad lv (jv ad σ τ) [.ref (ad 0 0)] (some (.int (cf_num (σ.2.1 0 0 4)))) (jv ad σ τ) := by
  intro sz
  refine jC.of "InputRoom" (by decide +kernel) rfl rfl (Nat.le_of_ble_eq_true rfl) (by intro v hv; simp only [List.mem_cons, List.not_mem_nil, or_false] at hv; rcases hv with rfl <;> first | rfl | exact jrf_cat _) ?_
  intro p e s m below meth c C hK hret hlk hnm hsz hAz
  have hb0 : lv 0 0 := h.k (by decide)
  have hb1 : lv 1 0 := h.k (by decide)
  have hb2 : lv 2 0 := h.k (by decide)
  have hb3 : lv 3 0 := h.k (by decide)
  have hb4 : lv 4 0 := h.k (by decide)
  have hb5 : lv 5 0 := h.k (by decide)
  refine j_aload_n C d_X_active_0 rfl rfl ?_
  refine sgR (t := 8) C hK 0 0 4 d_X_active_1 in_X rfl rfl (by decide) t_110 rfl rfl rfl (by assumption) ?_
  refine j_callS C hK hAz (k_numberOf (o := σ.2.1 0 0 4) (fun x q => h.p (h.ac q)) _) ⟨jcB C mi_X_numberOf t_319 rfl rfl ⟨by decide, by decide⟩, C.2.2.2.2 _ t_320⟩ rfl rfl (Nat.le_of_ble_eq_true rfl) d_X_active_4 ⟨Nat.zero_le _, Nat.zero_le _⟩ ?_
  refine j_iret C hret hlk d_X_active_7 ?_ ?_ rfl rfl
  · rfl
  · rfl
set_option maxRecDepth 100000 in
set_option maxHeartbeats 4000000 in
theorem k_present {l : Launch} {D : va_G} {E : Nat → ClassId} {ad : Nat → Nat → Nat} {lv : Nat → Nat → Prop} {σ τ : sT} (h : OKs σ lv) : jM l y_X_present c_X_present 1 (some .int) 1 D E ad lv (jv ad σ τ) [.ref (ad 0 0)] (some (.int (cf_num (cf_pres σ)))) (jv ad σ τ) := by
  intro sz
  refine jC.of "InputRoom" (by decide +kernel) rfl rfl (Nat.le_of_ble_eq_true rfl) (by intro v hv; simp only [List.mem_cons, List.not_mem_nil, or_false] at hv; rcases hv with rfl <;> first | rfl | exact jrf_cat _) ?_
  intro p e s m below meth c C hK hret hlk hnm hsz hAz
  have hb0 : lv 0 0 := h.k (by decide)
  have hb1 : lv 1 0 := h.k (by decide)
  have hb2 : lv 2 0 := h.k (by decide)
  have hb3 : lv 3 0 := h.k (by decide)
  have hb4 : lv 4 0 := h.k (by decide)
  have hb5 : lv 5 0 := h.k (by decide)
  refine j_aload_n C d_X_present_0 rfl rfl ?_
  refine j_callV C hK hAz 0 0 (k_pres h _) (jcV C mi_X_presentOne t_193 t_195 t_1 rfl rfl ⟨by decide, by decide⟩) rfl rfl (by assumption) rfl rfl (Nat.le_of_ble_eq_true rfl) d_X_present_1 ⟨Nat.zero_le _, Nat.zero_le _⟩ ?_
  refine j_callS C hK hAz (k_numberOf (o := cf_pres σ) (fun x q => h.p (pres_ok h q)) _) ⟨jcB C mi_X_numberOf t_319 rfl rfl ⟨by decide, by decide⟩, C.2.2.2.2 _ t_320⟩ rfl rfl (Nat.le_of_ble_eq_true rfl) d_X_present_4 ⟨Nat.zero_le _, Nat.zero_le _⟩ ?_
  refine j_iret C hret hlk d_X_present_7 ?_ ?_ rfl rfl
  · rfl
  · rfl
set_option maxRecDepth 100000 in
set_option maxHeartbeats 4000000 in
theorem k_clock {l : Launch} {D : va_G} {E : Nat → ClassId} {ad : Nat → Nat → Nat} {lv : Nat → Nat → Prop} {σ τ : sT} (h : OKs σ lv) : jM l y_X_clock c_X_clock 1 (some .int) 0 D E ad lv (jv ad σ τ) [.ref (ad 0 0)] (some (.int (σ.1 0 0 7))) (jv ad σ τ) := by
  intro sz
  refine jC.of "InputRoom" (by decide +kernel) rfl rfl (Nat.le_of_ble_eq_true rfl) (by intro v hv; simp only [List.mem_cons, List.not_mem_nil, or_false] at hv; rcases hv with rfl <;> first | rfl | exact jrf_cat _) ?_
  intro p e s m below meth c C hK hret hlk hnm hsz hAz
  have hb0 : lv 0 0 := h.k (by decide)
  have hb1 : lv 1 0 := h.k (by decide)
  have hb2 : lv 2 0 := h.k (by decide)
  have hb3 : lv 3 0 := h.k (by decide)
  have hb4 : lv 4 0 := h.k (by decide)
  have hb5 : lv 5 0 := h.k (by decide)
  refine j_aload_n C d_X_clock_0 rfl rfl ?_
  refine sgI C hK 0 0 7 d_X_clock_1 in_X rfl rfl (by decide) t_113 rfl rfl rfl (by assumption) ?_
  refine j_iret C hret hlk d_X_clock_4 ?_ ?_ rfl rfl
  · rfl
  · rfl
set_option maxRecDepth 100000 in
set_option maxHeartbeats 4000000 in
theorem k_codes {l : Launch} {D : va_G} {E : Nat → ClassId} {ad : Nat → Nat → Nat} {lv : Nat → Nat → Prop} {σ τ : sT} (h : OKs σ lv) : jM l y_X_codes c_X_codes 1 (some .long) 0 D E ad lv (jv ad σ τ) [.ref (ad 0 0)] (some (.long (σ.2.2 0 0 8))) (jv ad σ τ) := by
  intro sz
  refine jC.of "InputRoom" (by decide +kernel) rfl rfl (Nat.le_of_ble_eq_true rfl) (by intro v hv; simp only [List.mem_cons, List.not_mem_nil, or_false] at hv; rcases hv with rfl <;> first | rfl | exact jrf_cat _) ?_
  intro p e s m below meth c C hK hret hlk hnm hsz hAz
  have hb0 : lv 0 0 := h.k (by decide)
  have hb1 : lv 1 0 := h.k (by decide)
  have hb2 : lv 2 0 := h.k (by decide)
  have hb3 : lv 3 0 := h.k (by decide)
  have hb4 : lv 4 0 := h.k (by decide)
  have hb5 : lv 5 0 := h.k (by decide)
  refine j_aload_n C d_X_codes_0 rfl rfl ?_
  refine sgL C hK 0 0 8 d_X_codes_1 in_X rfl rfl (by decide) t_114 rfl rfl rfl (by assumption) ?_
  refine j_lret C hret hlk d_X_codes_4 ?_ ?_ rfl rfl
  · rfl
  · rfl
set_option maxRecDepth 100000 in
set_option maxHeartbeats 4000000 in
theorem k_done {l : Launch} {D : va_G} {E : Nat → ClassId} {ad : Nat → Nat → Nat} {lv : Nat → Nat → Prop} {σ τ : sT} (h : OKs σ lv) {a : Int32} : jM l y_X_done c_X_done 3 (some .int) 1 D E ad lv (jv ad σ τ) [.ref (ad 0 0), .int (a)] (some (.int (c_done σ a))) (jv ad σ τ) := by
  intro sz
  refine jC.of "InputRoom" (by decide +kernel) rfl rfl (Nat.le_of_ble_eq_true rfl) (by intro v hv; simp only [List.mem_cons, List.not_mem_nil, or_false] at hv; rcases hv with rfl | rfl <;> first | rfl | exact jrf_cat _) ?_
  intro p e s m below meth c C hK hret hlk hnm hsz hAz
  have hb0 : lv 0 0 := h.k (by decide)
  have hb1 : lv 1 0 := h.k (by decide)
  have hb2 : lv 2 0 := h.k (by decide)
  have hb3 : lv 3 0 := h.k (by decide)
  have hb4 : lv 4 0 := h.k (by decide)
  have hb5 : lv 5 0 := h.k (by decide)
  refine j_aload_n C d_X_done_0 rfl rfl ?_
  refine j_iload_n C d_X_done_1 rfl rfl ?_
  refine j_callV C hK hAz 0 0 (k_pn (a := a) h _) (jcV C mi_X_processNumbered t_185 t_187 t_0 rfl rfl ⟨by decide, by decide⟩) rfl rfl (by assumption) rfl rfl (Nat.le_of_ble_eq_true rfl) d_X_done_2 ⟨Nat.zero_le _, Nat.zero_le _⟩ ?_
  refine j_astore_nQ C d_X_done_5 rfl (by decide) ?_
  refine j_aload_nQ C d_X_done_6 rfl rfl ?_
  refine jnonnull (o := cf_pn σ a) (t := 8) C 14 d_X_done_7 rfl (fun x2 g1 => ?_) (fun g1 => ?_)
  ·
    try rw [g1]
    have hmx2 : Mk σ x2 := pn_ok h g1
    have hlx2 : lv 8 x2 := h.p hmx2
    have hax2 : lv 9 x2 := h.a hmx2
    refine j_aload_n C d_X_done_14 rfl rfl ?_
    refine sgI C hK 8 x2 4 d_X_done_15 in_P rfl rfl (by decide) t_161 rfl rfl rfl (by assumption) ?_
    refine j_iret C hret hlk d_X_done_18 ?_ ?_ rfl rfl
    · simp only [c_done, g1]
    · rfl
  ·
    try rw [g1]
    refine j_iconst (v := -1) C d_X_done_10 (by decide) ?_
    refine j_goto C 18 d_X_done_11 rfl ?_
    refine j_iret C hret hlk d_X_done_18 ?_ ?_ rfl rfl
    · simp only [c_done, g1]
    · rfl
set_option maxRecDepth 100000 in
set_option maxHeartbeats 4000000 in
theorem k_row {l : Launch} {D : va_G} {E : Nat → ClassId} {ad : Nat → Nat → Nat} {lv : Nat → Nat → Prop} {σ τ : sT} (h : OKs σ lv) {a : Int32} : jM l y_X_row c_X_row 3 (some .int) 1 D E ad lv (jv ad σ τ) [.ref (ad 0 0), .int (a)] (some (.int (c_row σ a))) (jv ad σ τ) := by
  intro sz
  refine jC.of "InputRoom" (by decide +kernel) rfl rfl (Nat.le_of_ble_eq_true rfl) (by intro v hv; simp only [List.mem_cons, List.not_mem_nil, or_false] at hv; rcases hv with rfl | rfl <;> first | rfl | exact jrf_cat _) ?_
  intro p e s m below meth c C hK hret hlk hnm hsz hAz
  have hb0 : lv 0 0 := h.k (by decide)
  have hb1 : lv 1 0 := h.k (by decide)
  have hb2 : lv 2 0 := h.k (by decide)
  have hb3 : lv 3 0 := h.k (by decide)
  have hb4 : lv 4 0 := h.k (by decide)
  have hb5 : lv 5 0 := h.k (by decide)
  refine j_aload_n C d_X_row_0 rfl rfl ?_
  refine j_iload_n C d_X_row_1 rfl rfl ?_
  refine j_callV C hK hAz 0 0 (k_pn (a := a) h _) (jcV C mi_X_processNumbered t_185 t_187 t_0 rfl rfl ⟨by decide, by decide⟩) rfl rfl (by assumption) rfl rfl (Nat.le_of_ble_eq_true rfl) d_X_row_2 ⟨Nat.zero_le _, Nat.zero_le _⟩ ?_
  refine j_astore_nQ C d_X_row_5 rfl (by decide) ?_
  refine j_aload_nQ C d_X_row_6 rfl rfl ?_
  refine jnonnull (o := cf_pn σ a) (t := 8) C 14 d_X_row_7 rfl (fun x2 g1 => ?_) (fun g1 => ?_)
  ·
    try rw [g1]
    have hmx2 : Mk σ x2 := pn_ok h g1
    have hlx2 : lv 8 x2 := h.p hmx2
    have hax2 : lv 9 x2 := h.a hmx2
    refine j_aload_n C d_X_row_14 rfl rfl ?_
    refine sgI C hK 8 x2 5 d_X_row_15 in_P rfl rfl (by decide) t_164 rfl rfl rfl (by assumption) ?_
    refine j_iret C hret hlk d_X_row_18 ?_ ?_ rfl rfl
    · simp only [c_row, g1]
    · rfl
  ·
    try rw [g1]
    refine j_iconst (v := -1) C d_X_row_10 (by decide) ?_
    refine j_goto C 18 d_X_row_11 rfl ?_
    refine j_iret C hret hlk d_X_row_18 ?_ ?_ rfl rfl
    · simp only [c_row, g1]
    · rfl
set_option maxRecDepth 100000 in
set_option maxHeartbeats 4000000 in
theorem k_extra {l : Launch} {D : va_G} {E : Nat → ClassId} {ad : Nat → Nat → Nat} {lv : Nat → Nat → Prop} {σ τ : sT} (h : OKs σ lv) {a : Int32} : jM l y_X_extra c_X_extra 2 (some .int) 1 D E ad lv (jv ad σ τ) [.ref (ad 0 0), .int (a)] (some (.int (c_extra σ a))) (jv ad σ τ) := by
  intro sz
  refine jC.of "InputRoom" (by decide +kernel) rfl rfl (Nat.le_of_ble_eq_true rfl) (by intro v hv; simp only [List.mem_cons, List.not_mem_nil, or_false] at hv; rcases hv with rfl | rfl <;> first | rfl | exact jrf_cat _) ?_
  intro p e s m below meth c C hK hret hlk hnm hsz hAz
  have hb0 : lv 0 0 := h.k (by decide)
  have hb1 : lv 1 0 := h.k (by decide)
  have hb2 : lv 2 0 := h.k (by decide)
  have hb3 : lv 3 0 := h.k (by decide)
  have hb4 : lv 4 0 := h.k (by decide)
  have hb5 : lv 5 0 := h.k (by decide)
  refine j_iload_n C d_X_extra_0 rfl rfl ?_
  refine j_callS C hK hAz (k_isSem (a := a) _) ⟨jcB C mi_X_isSemaphore t_225 rfl rfl ⟨by decide, by decide⟩, C.2.2.2.2 _ t_226⟩ rfl rfl (Nat.le_of_ble_eq_true rfl) d_X_extra_1 ⟨Nat.zero_le _, Nat.zero_le _⟩ ?_
  refine j_if_eq C 19 d_X_extra_4 rfl (fun g1 => ?_) (fun g1 => ?_)
  ·
    have n0 : ¬ isS (a) := fun z => by rw [if_pos z] at g1; exact absurd g1 (by decide)
    refine j_iconst (v := -1) C d_X_extra_19 (by decide) ?_
    refine j_iret C hret hlk d_X_extra_20 ?_ ?_ rfl rfl
    · rw [c_extra, if_neg n0]
    · rfl
  ·
    have q0 : isS (a) := Decidable.byContradiction fun z => g1 (if_neg z)
    have hlq0 : lv 7 (a).toNatClampNeg := h.s (isS_lt q0)
    refine j_aload_n C d_X_extra_7 rfl rfl ?_
    refine sgC C hK 0 0 2 d_X_extra_8 in_X rfl rfl (by decide) t_108 rfl rfl rfl (by assumption) ?_
    refine j_iload_n C d_X_extra_11 rfl rfl ?_
    refine saC C hK 3 0 d_X_extra_12 rfl (isS_in q0) rfl rfl (by assumption) ?_
    refine sgI C hK 7 ((a).toNatClampNeg) 2 d_X_extra_13 in_S rfl rfl (by decide) t_98 rfl rfl rfl (by assumption) ?_
    refine j_goto C 20 d_X_extra_16 rfl ?_
    refine j_iret C hret hlk d_X_extra_20 ?_ ?_ rfl rfl
    · rw [c_extra, if_pos q0]
    · rfl
set_option maxRecDepth 100000 in
set_option maxHeartbeats 4000000 in
theorem k_wordAt {l : Launch} {D : va_G} {E : Nat → ClassId} {ad : Nat → Nat → Nat} {lv : Nat → Nat → Prop} {σ τ : sT} (h : OKs σ lv) {a : Int32} : jM l y_X_wordAt c_X_wordAt 2 (some .int) 3 D E ad lv (jv ad σ τ) [.ref (ad 0 0), .int (a)] (some (.int (cf_wordAt σ a))) (jv ad σ τ) := by
  intro sz
  refine jC.of "InputRoom" (by decide +kernel) rfl rfl (Nat.le_of_ble_eq_true rfl) (by intro v hv; simp only [List.mem_cons, List.not_mem_nil, or_false] at hv; rcases hv with rfl | rfl <;> first | rfl | exact jrf_cat _) ?_
  intro p e s m below meth c C hK hret hlk hnm hsz hAz
  have hb0 : lv 0 0 := h.k (by decide)
  have hb1 : lv 1 0 := h.k (by decide)
  have hb2 : lv 2 0 := h.k (by decide)
  have hb3 : lv 3 0 := h.k (by decide)
  have hb4 : lv 4 0 := h.k (by decide)
  have hb5 : lv 5 0 := h.k (by decide)
  refine j_aload_n C d_X_wordAt_0 rfl rfl ?_
  refine sgC C hK 0 0 3 d_X_wordAt_1 in_X rfl rfl (by decide) t_109 rfl rfl rfl (by assumption) ?_
  refine j_iload_n C d_X_wordAt_4 rfl rfl ?_
  refine j_callV C hK hAz 4 0 (k_get (a := a) h _) (jcV C mi_W_get t_358 t_359 t_360 rfl rfl ⟨by decide, by decide⟩) rfl rfl (by assumption) rfl rfl (Nat.le_of_ble_eq_true rfl) d_X_wordAt_5 ⟨Nat.zero_le _, Nat.zero_le _⟩ ?_
  refine j_iret C hret hlk d_X_wordAt_8 ?_ ?_ rfl rfl
  · rfl
  · rfl
set_option maxRecDepth 100000 in
set_option maxHeartbeats 4000000 in
theorem k_input {l : Launch} {D : va_G} {E : Nat → ClassId} {ad : Nat → Nat → Nat} {lv : Nat → Nat → Prop} {σ τ : sT} (h : OKs σ lv) : jM l y_X_input c_X_input 1 (some .int) 0 D E ad lv (jv ad σ τ) [.ref (ad 0 0)] (some (.int (cf_num (σ.2.1 0 0 9)))) (jv ad σ τ) := by
  intro sz
  refine jC.of "InputRoom" (by decide +kernel) rfl rfl (Nat.le_of_ble_eq_true rfl) (by intro v hv; simp only [List.mem_cons, List.not_mem_nil, or_false] at hv; rcases hv with rfl <;> first | rfl | exact jrf_cat _) ?_
  intro p e s m below meth c C hK hret hlk hnm hsz hAz
  have hb0 : lv 0 0 := h.k (by decide)
  have hb1 : lv 1 0 := h.k (by decide)
  have hb2 : lv 2 0 := h.k (by decide)
  have hb3 : lv 3 0 := h.k (by decide)
  have hb4 : lv 4 0 := h.k (by decide)
  have hb5 : lv 5 0 := h.k (by decide)
  refine j_aload_n C d_X_input_0 rfl rfl ?_
  refine sgR (t := 7) C hK 0 0 9 d_X_input_1 in_X rfl rfl (by decide) t_115 rfl rfl rfl (by assumption) ?_
  refine jnonnull (o := σ.2.1 0 0 9) (t := 7) C 11 d_X_input_4 rfl (fun x2 g1 => ?_) (fun g1 => ?_)
  ·
    try rw [g1]
    have hsx2 : x2 < 16 := h.inp g1
    have hlx2 : lv 7 x2 := h.s hsx2
    refine j_aload_n C d_X_input_11 rfl rfl ?_
    refine sgR (t := 7) C hK 0 0 9 d_X_input_12 in_X rfl rfl (by decide) t_115 rfl rfl rfl (by assumption) ?_
    rw [g1]
    refine sgC C hK 7 x2 0 d_X_input_15 in_S rfl rfl (by decide) t_95 rfl rfl rfl (by assumption) ?_
    refine j_iret C hret hlk d_X_input_18 ?_ ?_ rfl rfl
    · simp only [g1, cf_num]
    · rfl
  ·
    try rw [g1]
    refine j_iconst (v := -1) C d_X_input_7 (by decide) ?_
    refine j_goto C 18 d_X_input_8 rfl ?_
    refine j_iret C hret hlk d_X_input_18 ?_ ?_ rfl rfl
    · simp only [g1, cf_num]
    · rfl
set_option maxRecDepth 100000 in
set_option maxHeartbeats 4000000 in
theorem k_tick {l : Launch} {D : va_G} {E : Nat → ClassId} {ad : Nat → Nat → Nat} {lv : Nat → Nat → Prop} {σ τ : sT} (h : OKs σ lv) : jM l y_X_tick c_X_tick 1 (some .int) 0 D E ad lv (jv ad σ τ) [.ref (ad 0 0)] (some (.int (c_tick σ))) (jv ad σ τ) := by
  intro sz
  refine jC.of "InputRoom" (by decide +kernel) rfl rfl (Nat.le_of_ble_eq_true rfl) (by intro v hv; simp only [List.mem_cons, List.not_mem_nil, or_false] at hv; rcases hv with rfl <;> first | rfl | exact jrf_cat _) ?_
  intro p e s m below meth c C hK hret hlk hnm hsz hAz
  have hb0 : lv 0 0 := h.k (by decide)
  have hb1 : lv 1 0 := h.k (by decide)
  have hb2 : lv 2 0 := h.k (by decide)
  have hb3 : lv 3 0 := h.k (by decide)
  have hb4 : lv 4 0 := h.k (by decide)
  have hb5 : lv 5 0 := h.k (by decide)
  refine j_aload_n C d_X_tick_0 rfl rfl ?_
  refine sgR (t := 7) C hK 0 0 10 d_X_tick_1 in_X rfl rfl (by decide) t_116 rfl rfl rfl (by assumption) ?_
  refine jnonnull (o := σ.2.1 0 0 10) (t := 7) C 11 d_X_tick_4 rfl (fun x2 g1 => ?_) (fun g1 => ?_)
  ·
    try rw [g1]
    have hsx2 : x2 < 16 := h.al g1
    have hlx2 : lv 7 x2 := h.s hsx2
    refine j_aload_n C d_X_tick_11 rfl rfl ?_
    refine sgI C hK 0 0 11 d_X_tick_12 in_X rfl rfl (by decide) t_117 rfl rfl rfl (by assumption) ?_
    refine j_iret C hret hlk d_X_tick_15 ?_ ?_ rfl rfl
    · simp only [g1, c_tick]
    · rfl
  ·
    try rw [g1]
    refine j_iconst (v := -1) C d_X_tick_7 (by decide) ?_
    refine j_goto C 15 d_X_tick_8 rfl ?_
    refine j_iret C hret hlk d_X_tick_15 ?_ ?_ rfl rfl
    · simp only [g1, c_tick]
    · rfl
set_option maxRecDepth 100000 in
set_option maxHeartbeats 4000000 in
theorem k_at {l : Launch} {D : va_G} {E : Nat → ClassId} {ad : Nat → Nat → Nat} {lv : Nat → Nat → Prop} {σ τ : sT} (h : OKs σ lv) {a i : Int32} : jM l y_X_at c_X_at 3 (some .int) 1 D E ad lv (jv ad σ τ) [.ref (ad 0 0), .int (a), .int (i)] (some (.int (c_at σ a i))) (jv ad σ τ) := by
  intro sz
  refine jC.of "InputRoom" (by decide +kernel) rfl rfl (Nat.le_of_ble_eq_true rfl) (by intro v hv; simp only [List.mem_cons, List.not_mem_nil, or_false] at hv; rcases hv with rfl | rfl | rfl <;> first | rfl | exact jrf_cat _) ?_
  intro p e s m below meth c C hK hret hlk hnm hsz hAz
  have hb0 : lv 0 0 := h.k (by decide)
  have hb1 : lv 1 0 := h.k (by decide)
  have hb2 : lv 2 0 := h.k (by decide)
  have hb3 : lv 3 0 := h.k (by decide)
  have hb4 : lv 4 0 := h.k (by decide)
  have hb5 : lv 5 0 := h.k (by decide)
  refine j_iload_n C d_X_at_0 rfl rfl ?_
  refine j_iconst (v := 1) C d_X_at_1 (by decide) ?_
  refine j_icmp_lt C 27 d_X_at_2 rfl (fun g1 => ?_) (fun g1 => ?_)
  ·
    have n1 : ¬ (¬ a < 1 ∧ ¬ 8 < a) := fun z => z.1 g1
    refine j_iload_n C d_X_at_27 rfl rfl ?_
    refine j_bipush (v := 16) C d_X_at_28 (by decide) ?_
    refine j_isub C d_X_at_30 ?_
    refine j_callS C hK hAz (k_isSem (a := a - 16) _) ⟨jcB C mi_X_isSemaphore t_225 rfl rfl ⟨by decide, by decide⟩, C.2.2.2.2 _ t_226⟩ rfl rfl (Nat.le_of_ble_eq_true rfl) d_X_at_31 ⟨Nat.zero_le _, Nat.zero_le _⟩ ?_
    refine j_if_eq C 57 d_X_at_34 rfl (fun g2 => ?_) (fun g2 => ?_)
    ·
      have n16 : ¬ isS (a - 16) := fun z => by rw [if_pos z] at g2; exact absurd g2 (by decide)
      refine j_iconst (v := -1) C d_X_at_57 (by decide) ?_
      refine j_iret C hret hlk d_X_at_58 ?_ ?_ rfl rfl
      · rw [c_at, if_neg n1, if_neg n16]
      · rfl
    ·
      have q16 : isS (a - 16) := Decidable.byContradiction fun z => g2 (if_neg z)
      have hl16 : lv 7 (a - 16).toNatClampNeg := h.s (isS_lt q16)
      have hlr : lv 6 (8 + (a - 16).toNatClampNeg) := h.r (by have := isS_lt q16; omega)
      refine j_aload_n C d_X_at_37 rfl rfl ?_
      refine sgC C hK 0 0 2 d_X_at_38 in_X rfl rfl (by decide) t_108 rfl rfl rfl (by assumption) ?_
      refine j_iload_n C d_X_at_41 rfl rfl ?_
      refine j_bipush (v := 16) C d_X_at_42 (by decide) ?_
      refine j_isub C d_X_at_44 ?_
      refine saC C hK 3 0 d_X_at_45 rfl (isS_in q16) rfl rfl (by assumption) ?_
      refine sgC C hK 7 (((a - 16)).toNatClampNeg) 1 d_X_at_46 in_S rfl rfl (by decide) t_97 rfl rfl rfl (by assumption) ?_
      refine j_iload_n C d_X_at_49 rfl rfl ?_
      refine j_callV C hK hAz 6 (8 + (((a - 16)).toNatClampNeg)) (k_pAt (r := (8 + (((a - 16)).toNatClampNeg))) h (by have := isS_lt q16; omega) (a := i) _) (jcV C mi_R_processAt t_346 t_347 t_348 rfl rfl ⟨by decide, by decide⟩) rfl rfl (by assumption) rfl rfl (Nat.le_of_ble_eq_true rfl) d_X_at_50 ⟨Nat.zero_le _, Nat.zero_le _⟩ ?_
      refine j_callS C hK hAz (k_numberOf (o := c_pAt σ (8 + (((a - 16)).toNatClampNeg)) i) (fun x q => h.p (pAt_ok h (by have := isS_lt q16; omega) q)) _) ⟨jcB C mi_X_numberOf t_319 rfl rfl ⟨by decide, by decide⟩, C.2.2.2.2 _ t_320⟩ rfl rfl (Nat.le_of_ble_eq_true rfl) d_X_at_53 ⟨Nat.zero_le _, Nat.zero_le _⟩ ?_
      refine j_iret C hret hlk d_X_at_56 ?_ ?_ rfl rfl
      · rw [c_at, if_neg n1, if_pos q16]
      · rfl
  ·
    refine j_iload_n C d_X_at_5 rfl rfl ?_
    refine j_bipush (v := 8) C d_X_at_6 (by decide) ?_
    refine j_icmp_gt C 27 d_X_at_8 rfl (fun g3 => ?_) (fun g3 => ?_)
    ·
      have n1 : ¬ (¬ a < 1 ∧ ¬ 8 < a) := fun z => z.2 g3
      refine j_iload_n C d_X_at_27 rfl rfl ?_
      refine j_bipush (v := 16) C d_X_at_28 (by decide) ?_
      refine j_isub C d_X_at_30 ?_
      refine j_callS C hK hAz (k_isSem (a := a - 16) _) ⟨jcB C mi_X_isSemaphore t_225 rfl rfl ⟨by decide, by decide⟩, C.2.2.2.2 _ t_226⟩ rfl rfl (Nat.le_of_ble_eq_true rfl) d_X_at_31 ⟨Nat.zero_le _, Nat.zero_le _⟩ ?_
      refine j_if_eq C 57 d_X_at_34 rfl (fun g4 => ?_) (fun g4 => ?_)
      ·
        have n16 : ¬ isS (a - 16) := fun z => by rw [if_pos z] at g4; exact absurd g4 (by decide)
        refine j_iconst (v := -1) C d_X_at_57 (by decide) ?_
        refine j_iret C hret hlk d_X_at_58 ?_ ?_ rfl rfl
        · rw [c_at, if_neg n1, if_neg n16]
        · rfl
      ·
        have q16 : isS (a - 16) := Decidable.byContradiction fun z => g4 (if_neg z)
        have hl16 : lv 7 (a - 16).toNatClampNeg := h.s (isS_lt q16)
        have hlr : lv 6 (8 + (a - 16).toNatClampNeg) := h.r (by have := isS_lt q16; omega)
        refine j_aload_n C d_X_at_37 rfl rfl ?_
        refine sgC C hK 0 0 2 d_X_at_38 in_X rfl rfl (by decide) t_108 rfl rfl rfl (by assumption) ?_
        refine j_iload_n C d_X_at_41 rfl rfl ?_
        refine j_bipush (v := 16) C d_X_at_42 (by decide) ?_
        refine j_isub C d_X_at_44 ?_
        refine saC C hK 3 0 d_X_at_45 rfl (isS_in q16) rfl rfl (by assumption) ?_
        refine sgC C hK 7 (((a - 16)).toNatClampNeg) 1 d_X_at_46 in_S rfl rfl (by decide) t_97 rfl rfl rfl (by assumption) ?_
        refine j_iload_n C d_X_at_49 rfl rfl ?_
        refine j_callV C hK hAz 6 (8 + (((a - 16)).toNatClampNeg)) (k_pAt (r := (8 + (((a - 16)).toNatClampNeg))) h (by have := isS_lt q16; omega) (a := i) _) (jcV C mi_R_processAt t_346 t_347 t_348 rfl rfl ⟨by decide, by decide⟩) rfl rfl (by assumption) rfl rfl (Nat.le_of_ble_eq_true rfl) d_X_at_50 ⟨Nat.zero_le _, Nat.zero_le _⟩ ?_
        refine j_callS C hK hAz (k_numberOf (o := c_pAt σ (8 + (((a - 16)).toNatClampNeg)) i) (fun x q => h.p (pAt_ok h (by have := isS_lt q16; omega) q)) _) ⟨jcB C mi_X_numberOf t_319 rfl rfl ⟨by decide, by decide⟩, C.2.2.2.2 _ t_320⟩ rfl rfl (Nat.le_of_ble_eq_true rfl) d_X_at_53 ⟨Nat.zero_le _, Nat.zero_le _⟩ ?_
        refine j_iret C hret hlk d_X_at_56 ?_ ?_ rfl rfl
        · rw [c_at, if_neg n1, if_pos q16]
        · rfl
    ·
      have b1 : 1 ≤ a.toInt := by rw [i32_lt, show (1 : Int32).toInt = 1 from rfl] at g1; omega
      have b8 : a.toInt ≤ 8 := by rw [i32_lt, show (8 : Int32).toInt = 8 from rfl] at g3; omega
      have es : (a - 1).toInt = a.toInt - 1 := by rw [Int32.toInt_sub, show (1 : Int32).toInt = 1 from rfl]; apply Int.bmod_eq_of_le <;> omega
      have rin : vp_in (a - 1) 8 := by rw [vp_in_iff]; omega
      have rlt : (a - 1).toNatClampNeg < 8 := by rw [← Int32.toNat_toInt]; omega
      have hlr : lv 6 (a - 1).toNatClampNeg := h.r (by omega)
      refine j_aload_n C d_X_at_11 rfl rfl ?_
      refine sgC C hK 0 0 1 d_X_at_12 in_X rfl rfl (by decide) t_107 rfl rfl rfl (by assumption) ?_
      refine j_iload_n C d_X_at_15 rfl rfl ?_
      refine j_iconst (v := 1) C d_X_at_16 (by decide) ?_
      refine j_isub C d_X_at_17 ?_
      refine saC C hK 2 0 d_X_at_18 rfl rin rfl rfl (by assumption) ?_
      refine j_iload_n C d_X_at_19 rfl rfl ?_
      refine j_callV C hK hAz 6 (((a - 1)).toNatClampNeg) (k_pAt (r := (((a - 1)).toNatClampNeg)) h (by omega) (a := i) _) (jcV C mi_R_processAt t_346 t_347 t_348 rfl rfl ⟨by decide, by decide⟩) rfl rfl (by assumption) rfl rfl (Nat.le_of_ble_eq_true rfl) d_X_at_20 ⟨Nat.zero_le _, Nat.zero_le _⟩ ?_
      refine j_callS C hK hAz (k_numberOf (o := c_pAt σ (((a - 1)).toNatClampNeg) i) (fun x q => h.p (pAt_ok h (by omega) q)) _) ⟨jcB C mi_X_numberOf t_319 rfl rfl ⟨by decide, by decide⟩, C.2.2.2.2 _ t_320⟩ rfl rfl (Nat.le_of_ble_eq_true rfl) d_X_at_23 ⟨Nat.zero_le _, Nat.zero_le _⟩ ?_
      refine j_iret C hret hlk d_X_at_26 ?_ ?_ rfl rfl
      · rw [c_at, if_pos ⟨g1, g3⟩]
      · rfl
