set_option maxRecDepth 100000 in
set_option maxHeartbeats 4000000 in
theorem k_sig {l : Launch} {D : va_G} {E : Nat → ClassId} {ad : Nat → Nat → Nat} {lv : Nat → Nat → Prop} {σ τ : sT} (h : OKs σ lv) {s0 : Nat} (hs : s0 < 16) : jM l y_X_signalOnce c_X_signalOnce 3 (none) 2 D E ad lv (jv ad σ τ) [.ref (ad 0 0), .ref (ad 7 s0)] none (jv ad (cf_sig σ s0) τ) := by
  intro sz
  refine jC.of "InputRoom" (by decide +kernel) rfl rfl (Nat.le_of_ble_eq_true rfl) (by intro v hv; simp only [List.mem_cons, List.not_mem_nil, or_false] at hv; rcases hv with rfl | rfl <;> first | rfl | exact jrf_cat _) ?_
  intro p e s m below meth c C hK hret hlk hnm hsz hAz
  have hb0 : lv 0 0 := h.k (by decide)
  have hb1 : lv 1 0 := h.k (by decide)
  have hb2 : lv 2 0 := h.k (by decide)
  have hb3 : lv 3 0 := h.k (by decide)
  have hb4 : lv 4 0 := h.k (by decide)
  have hb5 : lv 5 0 := h.k (by decide)
  have hl7 : lv 7 s0 := h.s hs
  have hl6 : lv 6 (8 + s0) := h.r (by omega)
  refine j_aload_n C d_X_signalOnce_0 rfl rfl ?_
  refine sgC C hK 7 s0 1 d_X_signalOnce_1 in_S rfl rfl (by decide) t_97 rfl rfl rfl (by assumption) ?_
  refine j_callV C hK hAz 6 (8 + s0) (k_take (r := 8 + s0) h (by omega) _) (jcV C mi_R_takeFirst t_217 t_218 t_219 rfl rfl ⟨by decide, by decide⟩) rfl rfl (by assumption) rfl rfl (Nat.le_of_ble_eq_true rfl) d_X_signalOnce_4 ⟨Nat.zero_le _, Nat.zero_le _⟩ ?_
  have ok2 := go_take h (r := 8 + s0) (by omega)
  refine j_astore_nQ C d_X_signalOnce_7 rfl (by decide) ?_
  refine j_aload_nQ C d_X_signalOnce_8 rfl rfl ?_
  refine jnonnull (o := (cf_take σ (8 + s0)).1) (t := 8) C 25 d_X_signalOnce_9 rfl (fun x2 g1 => ?_) (fun g1 => ?_)
  ·
    try rw [g1]
    have hmx2 : Mk (cf_take σ (8 + s0)).2 x2 := ok2.2.mk.mpr (take_ok h (by omega) g1)
    have hlx2 : lv 8 x2 := ok2.1.p hmx2
    refine j_aload_n C d_X_signalOnce_25 rfl rfl ?_
    refine j_aload_n C d_X_signalOnce_26 rfl rfl ?_
    refine j_callV C hK hAz 0 0 (k_wakeUp (x := x2) ok2.1 hmx2 _) (jcV C mi_X_wakeUp t_197 t_199 t_2 rfl rfl ⟨by decide, by decide⟩) rfl rfl (by assumption) rfl rfl (Nat.le_of_ble_eq_true rfl) d_X_signalOnce_27 ⟨Nat.zero_le _, Nat.zero_le _⟩ ?_
    refine j_vret C hret hlk d_X_signalOnce_30 rfl ?_ rfl rfl
    simp only [cf_sig, g1]
  ·
    try rw [g1]
    refine j_aload_n C d_X_signalOnce_12 rfl rfl ?_
    refine j_dup C d_X_signalOnce_13 rfl ?_
    refine sgI C hK 7 s0 2 d_X_signalOnce_14 in_S rfl rfl (by decide) t_98 rfl rfl rfl (by assumption) ?_
    refine j_iconst (v := 1) C d_X_signalOnce_17 (by decide) ?_
    refine j_iadd C d_X_signalOnce_18 ?_
    refine spI C hK 7 s0 2 ty_S tk_S nm_S d_X_signalOnce_19 in_S rfl rfl (by decide) t_98 rfl rfl rfl rfl (((cf_take σ (8 + s0)).2.1 7 s0 2 + 1)) rfl rfl (by assumption) ?_
    refine j_goto C 30 d_X_signalOnce_22 rfl ?_
    refine j_vret C hret hlk d_X_signalOnce_30 rfl ?_ rfl rfl
    simp only [cf_sig, g1]
set_option maxRecDepth 100000 in
set_option maxHeartbeats 4000000 in
theorem k_wait {l : Launch} {D : va_G} {E : Nat → ClassId} {ad : Nat → Nat → Nat} {lv : Nat → Nat → Prop} {σ τ : sT} (h : OKs σ lv) {s0 : Nat} (hs : s0 < 16) : jM l y_X_waitFor c_X_waitFor 3 (none) 2 D E ad lv (jv ad σ τ) [.ref (ad 0 0), .ref (ad 7 s0)] none (jv ad (cf_wait σ s0) τ) := by
  intro sz
  refine jC.of "InputRoom" (by decide +kernel) rfl rfl (Nat.le_of_ble_eq_true rfl) (by intro v hv; simp only [List.mem_cons, List.not_mem_nil, or_false] at hv; rcases hv with rfl | rfl <;> first | rfl | exact jrf_cat _) ?_
  intro p e s m below meth c C hK hret hlk hnm hsz hAz
  have hb0 : lv 0 0 := h.k (by decide)
  have hb1 : lv 1 0 := h.k (by decide)
  have hb2 : lv 2 0 := h.k (by decide)
  have hb3 : lv 3 0 := h.k (by decide)
  have hb4 : lv 4 0 := h.k (by decide)
  have hb5 : lv 5 0 := h.k (by decide)
  have hl7 : lv 7 s0 := h.s hs
  have hl6 : lv 6 (8 + s0) := h.r (by omega)
  refine j_aload_n C d_X_waitFor_0 rfl rfl ?_
  refine j_callV C hK hAz 0 0 (k_pres h _) (jcV C mi_X_presentOne t_193 t_195 t_1 rfl rfl ⟨by decide, by decide⟩) rfl rfl (by assumption) rfl rfl (Nat.le_of_ble_eq_true rfl) d_X_waitFor_1 ⟨Nat.zero_le _, Nat.zero_le _⟩ ?_
  refine j_astore_nQ C d_X_waitFor_4 rfl (by decide) ?_
  refine j_aload_nQ C d_X_waitFor_5 rfl rfl ?_
  refine jnonnull (o := cf_pres σ) (t := 8) C 10 d_X_waitFor_6 rfl (fun x2 g1 => ?_) (fun g1 => ?_)
  ·
    try rw [g1]
    have hmx2 : Mk σ x2 := pres_ok h g1
    have hlx2 : lv 8 x2 := h.p hmx2
    obtain ⟨vx2, hvx2, evx2⟩ := h.rdy hmx2
    have hlvx2 : lv 6 vx2 := h.r (by omega)
    have elx2 : lev σ x2 = vx2 := by unfold lev; rw [evx2]; rfl
    refine j_aload_n C d_X_waitFor_10 rfl rfl ?_
    refine sgI C hK 7 s0 2 d_X_waitFor_11 in_S rfl rfl (by decide) t_98 rfl rfl rfl (by assumption) ?_
    refine j_if_le C 28 d_X_waitFor_14 rfl (fun g3 => ?_) (fun g3 => ?_)
    ·
      refine j_aload_n C d_X_waitFor_28 rfl rfl ?_
      refine sgC C hK 7 s0 1 d_X_waitFor_29 in_S rfl rfl (by decide) t_97 rfl rfl rfl (by assumption) ?_
      refine j_aload_n C d_X_waitFor_32 rfl rfl ?_
      refine j_callV C hK hAz 6 (8 + s0) (k_app (r := (8 + s0)) (x := x2) h (by omega) hmx2 _) (jcV C mi_R_append t_201 t_202 t_203 rfl rfl ⟨by decide, by decide⟩) rfl rfl (by assumption) rfl rfl (Nat.le_of_ble_eq_true rfl) d_X_waitFor_33 ⟨Nat.zero_le _, Nat.zero_le _⟩ ?_
      have ok2 : OKs (cf_app σ (8 + s0) x2) lv := (go_app h (by omega) hmx2).1
      refine j_aload_n C d_X_waitFor_36 rfl rfl ?_
      refine j_callV C hK hAz 0 0 (k_aside ok2 _) (jcV C mi_X_putPresentAside t_213 t_215 t_4 rfl rfl ⟨by decide, by decide⟩) rfl rfl (by assumption) rfl rfl (Nat.le_of_ble_eq_true rfl) d_X_waitFor_37 ⟨Nat.zero_le _, Nat.zero_le _⟩ ?_
      refine j_vret C hret hlk d_X_waitFor_40 rfl ?_ rfl rfl
      simp only [cf_wait, g1, g3, if_true, if_false]
    ·
      refine j_aload_n C d_X_waitFor_17 rfl rfl ?_
      refine j_dup C d_X_waitFor_18 rfl ?_
      refine sgI C hK 7 s0 2 d_X_waitFor_19 in_S rfl rfl (by decide) t_98 rfl rfl rfl (by assumption) ?_
      refine j_iconst (v := 1) C d_X_waitFor_22 (by decide) ?_
      refine j_isub C d_X_waitFor_23 ?_
      refine spI C hK 7 s0 2 ty_S tk_S nm_S d_X_waitFor_24 in_S rfl rfl (by decide) t_98 rfl rfl rfl rfl ((σ.1 7 s0 2 - 1)) rfl rfl (by assumption) ?_
      refine j_vret C hret hlk d_X_waitFor_27 rfl ?_ rfl rfl
      simp only [cf_wait, g1, g3, if_true, if_false]
  ·
    try rw [g1]
    refine j_vret C hret hlk d_X_waitFor_9 rfl ?_ rfl rfl
    simp only [cf_wait, g1, if_true, if_false]
set_option maxRecDepth 100000 in
set_option maxHeartbeats 4000000 in
theorem k_give {l : Launch} {D : va_G} {E : Nat → ClassId} {ad : Nat → Nat → Nat} {lv : Nat → Nat → Prop} {σ τ : sT} (h : OKs σ lv) : jM l y_X_giveWay c_X_giveWay 2 (none) 2 D E ad lv (jv ad σ τ) [.ref (ad 0 0)] none (jv ad (cf_give σ) τ) := by
  intro sz
  refine jC.of "InputRoom" (by decide +kernel) rfl rfl (Nat.le_of_ble_eq_true rfl) (by intro v hv; simp only [List.mem_cons, List.not_mem_nil, or_false] at hv; rcases hv with rfl <;> first | rfl | exact jrf_cat _) ?_
  intro p e s m below meth c C hK hret hlk hnm hsz hAz
  have hb0 : lv 0 0 := h.k (by decide)
  have hb1 : lv 1 0 := h.k (by decide)
  have hb2 : lv 2 0 := h.k (by decide)
  have hb3 : lv 3 0 := h.k (by decide)
  have hb4 : lv 4 0 := h.k (by decide)
  have hb5 : lv 5 0 := h.k (by decide)
  refine j_aload_n C d_X_giveWay_0 rfl rfl ?_
  refine j_callV C hK hAz 0 0 (k_pres h _) (jcV C mi_X_presentOne t_193 t_195 t_1 rfl rfl ⟨by decide, by decide⟩) rfl rfl (by assumption) rfl rfl (Nat.le_of_ble_eq_true rfl) d_X_giveWay_1 ⟨Nat.zero_le _, Nat.zero_le _⟩ ?_
  refine j_astore_nQ C d_X_giveWay_4 rfl (by decide) ?_
  refine j_aload_nQ C d_X_giveWay_5 rfl rfl ?_
  refine jnull (o := cf_pres σ) (t := 8) C 19 d_X_giveWay_6 rfl (fun g1 => ?_) (fun x2 g1 => ?_)
  ·
    try rw [g1]
    refine j_vret C hret hlk d_X_giveWay_19 rfl ?_ rfl rfl
    simp only [cf_give, g1]
  ·
    try rw [g1]
    have hmx2 : Mk σ x2 := pres_ok h g1
    have hlx2 : lv 8 x2 := h.p hmx2
    obtain ⟨vx2, hvx2, evx2⟩ := h.rdy hmx2
    have hlvx2 : lv 6 vx2 := h.r (by omega)
    have elx2 : lev σ x2 = vx2 := by unfold lev; rw [evx2]; rfl
    refine j_aload_n C d_X_giveWay_9 rfl rfl ?_
    refine sgR (t := 6) C hK 8 x2 2 d_X_giveWay_10 in_P rfl rfl (by decide) t_157 rfl rfl rfl (by assumption) ?_
    rw [evx2]
    refine j_callV C hK hAz 6 vx2 (k_isEmpty (r := vx2) h (by omega) _) (jcV C mi_R_isEmpty t_306 t_307 t_308 rfl rfl ⟨by decide, by decide⟩) rfl rfl (by assumption) rfl rfl (Nat.le_of_ble_eq_true rfl) d_X_giveWay_13 ⟨Nat.zero_le _, Nat.zero_le _⟩ ?_
    refine j_if_eq C 20 d_X_giveWay_16 rfl (fun g3 => ?_) (fun g3 => ?_)
    ·
      refine j_aload_n C d_X_giveWay_20 rfl rfl ?_
      refine sgR (t := 6) C hK 8 x2 2 d_X_giveWay_21 in_P rfl rfl (by decide) t_157 rfl rfl rfl (by assumption) ?_
      rw [evx2]
      refine j_aload_n C d_X_giveWay_24 rfl rfl ?_
      refine j_callV C hK hAz 6 vx2 (k_app (r := vx2) (x := x2) h (by omega) hmx2 _) (jcV C mi_R_append t_201 t_202 t_203 rfl rfl ⟨by decide, by decide⟩) rfl rfl (by assumption) rfl rfl (Nat.le_of_ble_eq_true rfl) d_X_giveWay_25 ⟨Nat.zero_le _, Nat.zero_le _⟩ ?_
      have ok2 : OKs (cf_app σ vx2 x2) lv := (go_app h (by omega) hmx2).1
      refine j_aload_n C d_X_giveWay_28 rfl rfl ?_
      refine j_callV C hK hAz 0 0 (k_aside ok2 _) (jcV C mi_X_putPresentAside t_213 t_215 t_4 rfl rfl ⟨by decide, by decide⟩) rfl rfl (by assumption) rfl rfl (Nat.le_of_ble_eq_true rfl) d_X_giveWay_29 ⟨Nat.zero_le _, Nat.zero_le _⟩ ?_
      refine j_vret C hret hlk d_X_giveWay_32 rfl ?_ rfl rfl
      simp only [cf_give, g1, elx2]
      cases hq : σ.2.1 6 vx2 1 with
      | none => rw [hq] at g3; exact absurd g3 (by decide)
      | some z => rfl
    ·
      refine j_vret C hret hlk d_X_giveWay_19 rfl ?_ rfl rfl
      simp only [cf_give, g1, elx2]
      cases hq : σ.2.1 6 vx2 1 with
      | none => rfl
      | some z => rw [hq] at g3; exact absurd rfl g3
set_option maxRecDepth 100000 in
set_option maxHeartbeats 4000000 in
theorem lp_words {l : Launch} {D : va_G} {E : Nat → ClassId} {ad : Nat → Nat → Nat} {lv : Nat → Nat → Prop} {τ : sT} {V1 : jVT} {a : Int32} {s0 : Nat} {p : Program} {e : Env} {s : State} {m : MethodId} {below : List Frame} {meth : Method} {c : Code} {sz : Nat} (C : CallFix p m c c_X_signalNewWords 3 s ([.ref (ad 0 0)] : List Value).toArray jT "InputRoom") (hK : jK D jcl jY E s) (hret : meth.sig.returnType = none) (hlk : meth.locks = false) (hAz : ∀ q, s.heap.size ≤ q → jA ad lv sz q) : ∀ (n : Nat) (σ1 : sT) (i : Int32), OKs σ1 lv → σ1.2.1 0 0 9 = some s0 → (i.toInt + n = a.toInt ∨ (n = 0 ∧ a.toInt ≤ i.toInt)) → jv ad (cf_many s0 n σ1) τ = V1 → JM l y_X_signalNewWords c_X_signalNewWords 3 (none) 3 D E ad lv p e s m below meth c sz [.ref (ad 0 0)] none (V1) (jv ad σ1 τ) 18 [some (.ref (ad 0 0)), some (.int (a)), some (.int (i))] [] := by
  intro n
  induction n with
  | zero =>
    intro σ1 i h1 hin hi hV
    have hge : a ≤ i := by rw [i32_le]; rcases hi with hi | hi <;> omega
    refine j_iload_n C d_X_signalNewWords_18 rfl rfl ?_
    refine j_iload_n C d_X_signalNewWords_19 rfl rfl ?_
    refine j_icmp_ge C 37 d_X_signalNewWords_20 rfl (fun _ => ?_) (fun g1 => absurd hge g1)
    refine j_vret C hret hlk d_X_signalNewWords_37 rfl ?_ rfl rfl
    exact hV
  | succ n ih =>
    intro σ1 i h1 hin hi hV
    have hlt : i.toInt < a.toInt := by rcases hi with hi | hi <;> omega
    have hge : ¬ a ≤ i := by rw [i32_le]; omega
    have hb0 : lv 0 0 := h1.k (by decide)
    have hs : s0 < 16 := h1.inp hin
    have hl7 : lv 7 s0 := h1.s hs
    refine j_iload_n C d_X_signalNewWords_18 rfl rfl ?_
    refine j_iload_n C d_X_signalNewWords_19 rfl rfl ?_
    refine j_icmp_ge C 37 d_X_signalNewWords_20 rfl (fun g1 => absurd g1 hge) (fun _ => ?_)
    refine j_aload_n C d_X_signalNewWords_23 rfl rfl ?_
    refine j_aload_n C d_X_signalNewWords_24 rfl rfl ?_
    refine sgR (t := 7) C hK 0 0 9 d_X_signalNewWords_25 in_X rfl rfl (by decide) t_115 rfl rfl rfl (by assumption) ?_
    rw [hin]
    refine j_callV C hK hAz 0 0 (k_sig (s0 := s0) h1 hs _) (jcV C mi_X_signalOnce t_228 t_230 t_5 rfl rfl ⟨by decide, by decide⟩) rfl rfl (by assumption) rfl rfl (Nat.le_of_ble_eq_true rfl) d_X_signalNewWords_28 ⟨Nat.zero_le _, Nat.zero_le _⟩ ?_
    refine j_iinc C d_X_signalNewWords_31 rfl (by decide) ?_
    refine j_goto C 18 d_X_signalNewWords_34 rfl ?_
    refine ih (cf_sig σ1 s0) _ (go_sig h1 hs).1 (((fr_sig σ1 s0).2.1 0 0 9 (by decide) (by decide) (by decide)).trans hin) (Or.inl ?_) hV
    rw [i32_succ hlt]
    rcases hi with hi | hi <;> omega
set_option maxRecDepth 100000 in
set_option maxHeartbeats 4000000 in
theorem k_words {l : Launch} {D : va_G} {E : Nat → ClassId} {ad : Nat → Nat → Nat} {lv : Nat → Nat → Prop} {σ τ : sT} (h : OKs σ lv) : jM l y_X_signalNewWords c_X_signalNewWords 3 (none) 3 D E ad lv (jv ad σ τ) [.ref (ad 0 0)] none (jv ad (cf_words σ) τ) := by
  intro sz
  refine jC.of "InputRoom" (by decide +kernel) rfl rfl (Nat.le_of_ble_eq_true rfl) (by intro v hv; simp only [List.mem_cons, List.not_mem_nil, or_false] at hv; rcases hv with rfl <;> first | rfl | exact jrf_cat _) ?_
  intro p e s m below meth c C hK hret hlk hnm hsz hAz
  have hb0 : lv 0 0 := h.k (by decide)
  have hb1 : lv 1 0 := h.k (by decide)
  have hb2 : lv 2 0 := h.k (by decide)
  have hb3 : lv 3 0 := h.k (by decide)
  have hb4 : lv 4 0 := h.k (by decide)
  have hb5 : lv 5 0 := h.k (by decide)
  refine j_aload_n C d_X_signalNewWords_0 rfl rfl ?_
  refine sgC C hK 0 0 3 d_X_signalNewWords_1 in_X rfl rfl (by decide) t_109 rfl rfl rfl (by assumption) ?_
  refine j_callV C hK hAz 4 0 (k_takeUntold h _) (jcV C mi_W_takeUntold t_277 t_278 t_279 rfl rfl ⟨by decide, by decide⟩) rfl rfl (by assumption) rfl rfl (Nat.le_of_ble_eq_true rfl) d_X_signalNewWords_4 ⟨Nat.zero_le _, Nat.zero_le _⟩ ?_
  refine j_istore_n C d_X_signalNewWords_7 rfl (by decide) ?_
  refine j_aload_n C d_X_signalNewWords_8 rfl rfl ?_
  refine sgR (t := 7) C hK 0 0 9 d_X_signalNewWords_9 in_X rfl rfl (by decide) t_115 rfl rfl rfl (by assumption) ?_
  refine jnonnull (o := (sI σ 4 0 3 0).2.1 0 0 9) (t := 7) C 16 d_X_signalNewWords_12 rfl (fun x2 g1 => ?_) (fun g1 => ?_)
  ·
    try rw [g1]
    have hsx2 : x2 < 16 := h.inp g1
    have hlx2 : lv 7 x2 := h.s hsx2
    refine j_iconst (v := 0) C d_X_signalNewWords_16 (by decide) ?_
    refine j_istore_n C d_X_signalNewWords_17 rfl (by decide) ?_
    have g9 : σ.2.1 0 0 9 = some x2 := g1
    refine lp_words (a := σ.1 4 0 3) (s0 := x2) C hK hret hlk hAz (σ.1 4 0 3).toNatClampNeg (sI σ 4 0 3 0) 0 h.I g1 ?_ (by simp only [cf_words, g9])
    rw [← Int32.toNat_toInt]
    rw [i32_0]
    omega
  ·
    try rw [g1]
    refine j_vret C hret hlk d_X_signalNewWords_15 rfl ?_ rfl rfl
    have g9 : σ.2.1 0 0 9 = none := g1
    simp only [cf_words, g9]
set_option maxRecDepth 100000 in
set_option maxHeartbeats 4000000 in
theorem k_due {l : Launch} {D : va_G} {E : Nat → ClassId} {ad : Nat → Nat → Nat} {lv : Nat → Nat → Prop} {σ τ : sT} (h : OKs σ lv) : jM l y_X_signalDueAlarm c_X_signalDueAlarm 2 (none) 3 D E ad lv (jv ad σ τ) [.ref (ad 0 0)] none (jv ad (cf_due σ) τ) := by
  intro sz
  refine jC.of "InputRoom" (by decide +kernel) rfl rfl (Nat.le_of_ble_eq_true rfl) (by intro v hv; simp only [List.mem_cons, List.not_mem_nil, or_false] at hv; rcases hv with rfl <;> first | rfl | exact jrf_cat _) ?_
  intro p e s m below meth c C hK hret hlk hnm hsz hAz
  have hb0 : lv 0 0 := h.k (by decide)
  have hb1 : lv 1 0 := h.k (by decide)
  have hb2 : lv 2 0 := h.k (by decide)
  have hb3 : lv 3 0 := h.k (by decide)
  have hb4 : lv 4 0 := h.k (by decide)
  have hb5 : lv 5 0 := h.k (by decide)
  refine j_aload_n C d_X_signalDueAlarm_0 rfl rfl ?_
  refine sgR (t := 7) C hK 0 0 10 d_X_signalDueAlarm_1 in_X rfl rfl (by decide) t_116 rfl rfl rfl (by assumption) ?_
  refine jnull (o := σ.2.1 0 0 10) (t := 7) C 18 d_X_signalDueAlarm_4 rfl (fun g1 => ?_) (fun x2 g1 => ?_)
  ·
    try rw [g1]
    refine j_vret C hret hlk d_X_signalDueAlarm_18 rfl ?_ rfl rfl
    simp only [cf_due, g1, if_true, if_false]
  ·
    try rw [g1]
    have hsx2 : x2 < 16 := h.al g1
    have hlx2 : lv 7 x2 := h.s hsx2
    refine j_aload_n C d_X_signalDueAlarm_7 rfl rfl ?_
    refine sgI C hK 0 0 7 d_X_signalDueAlarm_8 in_X rfl rfl (by decide) t_113 rfl rfl rfl (by assumption) ?_
    refine j_aload_n C d_X_signalDueAlarm_11 rfl rfl ?_
    refine sgI C hK 0 0 11 d_X_signalDueAlarm_12 in_X rfl rfl (by decide) t_117 rfl rfl rfl (by assumption) ?_
    refine j_icmp_ge C 19 d_X_signalDueAlarm_15 rfl (fun g3 => ?_) (fun g3 => ?_)
    ·
      refine j_aload_n C d_X_signalDueAlarm_19 rfl rfl ?_
      refine sgR (t := 7) C hK 0 0 10 d_X_signalDueAlarm_20 in_X rfl rfl (by decide) t_116 rfl rfl rfl (by assumption) ?_
      rw [g1]
      refine j_astore_n C d_X_signalDueAlarm_23 rfl (by decide) ?_
      refine j_aload_n C d_X_signalDueAlarm_24 rfl rfl ?_
      refine j_null C d_X_signalDueAlarm_25 ?_
      refine spP (t := 7) C hK 0 0 10 ty_X tk_X nm_X d_X_signalDueAlarm_26 in_X rfl rfl (by decide) t_116 rfl rfl rfl rfl (none) rfl rfl (by assumption) ?_
      refine j_aload_n C d_X_signalDueAlarm_29 rfl rfl ?_
      refine j_aload_n C d_X_signalDueAlarm_30 rfl rfl ?_
      refine j_callV C hK hAz 0 0 (k_sig (s0 := x2) (GO.S (j := 10) (o := none) h (Or.inr rfl) (fun y q => by cases q)).1 hsx2 _) (jcV C mi_X_signalOnce t_228 t_230 t_5 rfl rfl ⟨by decide, by decide⟩) rfl rfl (by assumption) rfl rfl (Nat.le_of_ble_eq_true rfl) d_X_signalDueAlarm_31 ⟨Nat.zero_le _, Nat.zero_le _⟩ ?_
      refine j_vret C hret hlk d_X_signalDueAlarm_34 rfl ?_ rfl rfl
      simp only [cf_due, g1, g3, if_true, if_false]
    ·
      refine j_vret C hret hlk d_X_signalDueAlarm_18 rfl ?_ rfl rfl
      simp only [cf_due, g1, g3, if_true, if_false]
set_option maxRecDepth 100000 in
set_option maxHeartbeats 4000000 in
theorem k_settle {l : Launch} {D : va_G} {E : Nat → ClassId} {ad : Nat → Nat → Nat} {lv : Nat → Nat → Prop} {σ τ : sT} (h : OKs σ lv) : jM l y_X_settle c_X_settle 1 (none) 4 D E ad lv (jv ad σ τ) [.ref (ad 0 0)] none (jv ad (cf_settle σ) τ) := by
  intro sz
  refine jC.of "InputRoom" (by decide +kernel) rfl rfl (Nat.le_of_ble_eq_true rfl) (by intro v hv; simp only [List.mem_cons, List.not_mem_nil, or_false] at hv; rcases hv with rfl <;> first | rfl | exact jrf_cat _) ?_
  intro p e s m below meth c C hK hret hlk hnm hsz hAz
  have hb0 : lv 0 0 := h.k (by decide)
  have hb1 : lv 1 0 := h.k (by decide)
  have hb2 : lv 2 0 := h.k (by decide)
  have hb3 : lv 3 0 := h.k (by decide)
  have hb4 : lv 4 0 := h.k (by decide)
  have hb5 : lv 5 0 := h.k (by decide)
  refine j_aload_n C d_X_settle_0 rfl rfl ?_
  refine j_callV C hK hAz 0 0 (k_words h _) (jcV C mi_X_signalNewWords t_273 t_275 t_10 rfl rfl ⟨by decide, by decide⟩) rfl rfl (by assumption) rfl rfl (Nat.le_of_ble_eq_true rfl) d_X_settle_1 ⟨Nat.zero_le _, Nat.zero_le _⟩ ?_
  have ok2 : OKs (cf_words σ) lv := (go_words h).1
  refine j_aload_n C d_X_settle_4 rfl rfl ?_
  refine j_callV C hK hAz 0 0 (k_due ok2 _) (jcV C mi_X_signalDueAlarm t_281 t_283 t_11 rfl rfl ⟨by decide, by decide⟩) rfl rfl (by assumption) rfl rfl (Nat.le_of_ble_eq_true rfl) d_X_settle_5 ⟨Nat.zero_le _, Nat.zero_le _⟩ ?_
  have ok3 : OKs (cf_due (cf_words σ)) lv := (go_due ok2).1
  refine j_aload_n C d_X_settle_8 rfl rfl ?_
  refine sgI C hK 0 0 5 d_X_settle_9 in_X rfl rfl (by decide) t_111 rfl rfl rfl (by assumption) ?_
  refine j_if_eq C 33 d_X_settle_12 rfl (fun g1 => ?_) (fun g1 => ?_)
  ·
    refine j_vret C hret hlk d_X_settle_33 rfl ?_ rfl rfl
    simp only [cf_settle, g1, if_true, if_false]
  ·
    refine j_aload_n C d_X_settle_15 rfl rfl ?_
    refine j_aload_n C d_X_settle_16 rfl rfl ?_
    refine sgR (t := 8) C hK 0 0 6 d_X_settle_17 in_X rfl rfl (by decide) t_112 rfl rfl rfl (by assumption) ?_
    refine spP (t := 8) C hK 0 0 4 ty_X tk_X nm_X d_X_settle_20 in_X rfl rfl (by decide) t_110 rfl rfl rfl rfl ((cf_due (cf_words σ)).2.1 0 0 6) (by cases ((cf_due (cf_words σ)).2.1 0 0 6) <;> rfl) (by cases ((cf_due (cf_words σ)).2.1 0 0 6) <;> rfl) (by assumption) ?_
    refine j_aload_n C d_X_settle_23 rfl rfl ?_
    refine j_iconst (v := 0) C d_X_settle_24 (by decide) ?_
    refine spI C hK 0 0 5 ty_X tk_X nm_X d_X_settle_25 in_X rfl rfl (by decide) t_111 rfl rfl rfl rfl (0) (by first | rfl | decide) (by first | rfl | decide) (by assumption) ?_
    refine j_aload_n C d_X_settle_28 rfl rfl ?_
    refine j_null C d_X_settle_29 ?_
    refine spP (t := 8) C hK 0 0 6 ty_X tk_X nm_X d_X_settle_30 in_X rfl rfl (by decide) t_112 rfl rfl rfl rfl (none) rfl rfl (by assumption) ?_
    refine j_vret C hret hlk d_X_settle_33 rfl ?_ rfl rfl
    simp only [cf_settle, g1, if_true, if_false]
set_option maxRecDepth 100000 in
set_option maxHeartbeats 4000000 in
theorem k_behind {l : Launch} {D : va_G} {E : Nat → ClassId} {ad : Nat → Nat → Nat} {lv : Nat → Nat → Prop} {σ τ : sT} (h : OKs σ lv) : jM l y_X_doBehind c_X_doBehind 1 (none) 5 D E ad lv (jv ad σ τ) [.ref (ad 0 0)] none (jv ad (cf_behind σ) τ) := by
  intro sz
  refine jC.of "InputRoom" (by decide +kernel) rfl rfl (Nat.le_of_ble_eq_true rfl) (by intro v hv; simp only [List.mem_cons, List.not_mem_nil, or_false] at hv; rcases hv with rfl <;> first | rfl | exact jrf_cat _) ?_
  intro p e s m below meth c C hK hret hlk hnm hsz hAz
  have hb0 : lv 0 0 := h.k (by decide)
  have hb1 : lv 1 0 := h.k (by decide)
  have hb2 : lv 2 0 := h.k (by decide)
  have hb3 : lv 3 0 := h.k (by decide)
  have hb4 : lv 4 0 := h.k (by decide)
  have hb5 : lv 5 0 := h.k (by decide)
  refine j_aload_n C d_X_doBehind_0 rfl rfl ?_
  refine j_callV C hK hAz 0 0 (k_settle h _) (jcV C mi_X_settle t_269 t_271 t_9 rfl rfl ⟨by decide, by decide⟩) rfl rfl (by assumption) rfl rfl (Nat.le_of_ble_eq_true rfl) d_X_doBehind_1 ⟨Nat.zero_le _, Nat.zero_le _⟩ ?_
  have ok2 : OKs (cf_settle σ) lv := (go_settle h).1
  refine j_aload_n C d_X_doBehind_4 rfl rfl ?_
  refine sgR (t := 8) C hK 0 0 4 d_X_doBehind_5 in_X rfl rfl (by decide) t_110 rfl rfl rfl (by assumption) ?_
  refine jnonnull (o := (cf_settle σ).2.1 0 0 4) (t := 8) C 30 d_X_doBehind_8 rfl (fun x2 g1 => ?_) (fun g1 => ?_)
  ·
    try rw [g1]
    have hmx2 : Mk (cf_settle σ) x2 := ok2.ac g1
    have hlx2 : lv 8 x2 := ok2.p hmx2
    have hax2 : lv 9 x2 := ok2.a hmx2
    refine j_vret C hret hlk d_X_doBehind_30 rfl ?_ rfl rfl
    simp only [cf_behind, g1]
  ·
    try rw [g1]
    refine j_aload_n C d_X_doBehind_11 rfl rfl ?_
    refine sgR (t := 7) C hK 0 0 10 d_X_doBehind_12 in_X rfl rfl (by decide) t_116 rfl rfl rfl (by assumption) ?_
    refine jnull (o := (cf_settle σ).2.1 0 0 10) (t := 7) C 30 d_X_doBehind_15 rfl (fun g3 => ?_) (fun x4 g3 => ?_)
    ·
      try rw [g3]
      refine j_vret C hret hlk d_X_doBehind_30 rfl ?_ rfl rfl
      simp only [cf_behind, g1, g3]
    ·
      try rw [g3]
      have hsx4 : x4 < 16 := ok2.al g3
      have hlx4 : lv 7 x4 := ok2.s hsx4
      refine j_aload_n C d_X_doBehind_18 rfl rfl ?_
      refine j_aload_n C d_X_doBehind_19 rfl rfl ?_
      refine sgI C hK 0 0 11 d_X_doBehind_20 in_X rfl rfl (by decide) t_117 rfl rfl rfl (by assumption) ?_
      refine spI C hK 0 0 7 ty_X tk_X nm_X d_X_doBehind_23 in_X rfl rfl (by decide) t_113 rfl rfl rfl rfl ((cf_settle σ).1 0 0 11) rfl rfl (by assumption) ?_
      refine j_aload_n C d_X_doBehind_26 rfl rfl ?_
      refine j_callV C hK hAz 0 0 (k_settle (σ := (sI (cf_settle σ) 0 0 7 ((cf_settle σ).1 0 0 11))) ok2 _) (jcV C mi_X_settle t_269 t_271 t_9 rfl rfl ⟨by decide, by decide⟩) rfl rfl (by assumption) rfl rfl (Nat.le_of_ble_eq_true rfl) d_X_doBehind_27 ⟨Nat.zero_le _, Nat.zero_le _⟩ ?_
      refine j_vret C hret hlk d_X_doBehind_30 rfl ?_ rfl rfl
      simp only [cf_behind, g1, g3]
theorem isS_in {x : Int32} (h : isS x) : vp_in x 16 := by
  rw [vp_in_iff]
  obtain ⟨h0, h1⟩ := h
  rw [i32_le, i32_0] at h0
  rw [i32_lt, i32_16] at h1
  omega
set_option maxRecDepth 100000 in
set_option maxHeartbeats 4000000 in
theorem k_act {l : Launch} {D : va_G} {E : Nat → ClassId} {ad : Nat → Nat → Nat} {lv : Nat → Nat → Prop} {σ τ : sT} (h : OKs σ lv) {a : Int32} : jM l y_X_doAct c_X_doAct 2 (none) 3 D E ad lv (jv ad σ τ) [.ref (ad 0 0), .int (a)] none (jv ad (cf_act σ a) τ) := by
  intro sz
  refine jC.of "InputRoom" (by decide +kernel) rfl rfl (Nat.le_of_ble_eq_true rfl) (by intro v hv; simp only [List.mem_cons, List.not_mem_nil, or_false] at hv; rcases hv with rfl | rfl <;> first | rfl | exact jrf_cat _) ?_
  intro p e s m below meth c C hK hret hlk hnm hsz hAz
  have hb0 : lv 0 0 := h.k (by decide)
  have hb1 : lv 1 0 := h.k (by decide)
  have hb2 : lv 2 0 := h.k (by decide)
  have hb3 : lv 3 0 := h.k (by decide)
  have hb4 : lv 4 0 := h.k (by decide)
  have hb5 : lv 5 0 := h.k (by decide)
  refine j_iload_n C d_X_doAct_0 rfl rfl ?_
  refine j_bipush (v := 16) C d_X_doAct_1 (by decide) ?_
  refine j_isub C d_X_doAct_3 ?_
  refine j_callS C hK hAz (k_isSem (a := a - 16) _) ⟨jcB C mi_X_isSemaphore t_225 rfl rfl ⟨by decide, by decide⟩, C.2.2.2.2 _ t_226⟩ rfl rfl (Nat.le_of_ble_eq_true rfl) d_X_doAct_4 ⟨Nat.zero_le _, Nat.zero_le _⟩ ?_
  refine j_if_eq C 26 d_X_doAct_7 rfl (fun g1 => ?_) (fun g1 => ?_)
  ·
    have n16 : ¬ isS (a - 16) := fun z => by rw [if_pos z] at g1; exact absurd g1 (by decide)
    refine j_iload_n C d_X_doAct_26 rfl rfl ?_
    refine j_bipush (v := 32) C d_X_doAct_27 (by decide) ?_
    refine j_isub C d_X_doAct_29 ?_
    refine j_callS C hK hAz (k_isSem (a := a - 32) _) ⟨jcB C mi_X_isSemaphore t_225 rfl rfl ⟨by decide, by decide⟩, C.2.2.2.2 _ t_226⟩ rfl rfl (Nat.le_of_ble_eq_true rfl) d_X_doAct_30 ⟨Nat.zero_le _, Nat.zero_le _⟩ ?_
    refine j_if_eq C 52 d_X_doAct_33 rfl (fun g2 => ?_) (fun g2 => ?_)
    ·
      have n32 : ¬ isS (a - 32) := fun z => by rw [if_pos z] at g2; exact absurd g2 (by decide)
      refine j_iload_n C d_X_doAct_52 rfl rfl ?_
      refine j_bipush (v := 48) C d_X_doAct_53 (by decide) ?_
      refine j_icmp_ne C 65 d_X_doAct_55 rfl (fun g3 => ?_) (fun g3 => ?_)
      ·
        refine j_iload_n C d_X_doAct_65 rfl rfl ?_
        refine j_bipush (v := 49) C d_X_doAct_66 (by decide) ?_
        refine j_icmp_ne C 81 d_X_doAct_68 rfl (fun g4 => ?_) (fun g4 => ?_)
        ·
          refine j_iload_n C d_X_doAct_81 rfl rfl ?_
          refine j_bipush (v := 50) C d_X_doAct_82 (by decide) ?_
          refine j_icmp_ne C 95 d_X_doAct_84 rfl (fun g5 => ?_) (fun g5 => ?_)
          ·
            refine j_iload_n C d_X_doAct_95 rfl rfl ?_
            refine j_bipush (v := 64) C d_X_doAct_96 (by decide) ?_
            refine j_isub C d_X_doAct_98 ?_
            refine j_callS C hK hAz (k_isSem (a := a - 64) _) ⟨jcB C mi_X_isSemaphore t_225 rfl rfl ⟨by decide, by decide⟩, C.2.2.2.2 _ t_226⟩ rfl rfl (Nat.le_of_ble_eq_true rfl) d_X_doAct_99 ⟨Nat.zero_le _, Nat.zero_le _⟩ ?_
            refine j_if_eq C 127 d_X_doAct_102 rfl (fun g6 => ?_) (fun g6 => ?_)
            ·
              have n64 : ¬ isS (a - 64) := fun z => by rw [if_pos z] at g6; exact absurd g6 (by decide)
              refine j_iload_n C d_X_doAct_127 rfl rfl ?_
              refine j_bipush (v := 80) C d_X_doAct_128 (by decide) ?_
              refine j_isub C d_X_doAct_130 ?_
              refine j_callS C hK hAz (k_isSem (a := a - 80) _) ⟨jcB C mi_X_isSemaphore t_225 rfl rfl ⟨by decide, by decide⟩, C.2.2.2.2 _ t_226⟩ rfl rfl (Nat.le_of_ble_eq_true rfl) d_X_doAct_131 ⟨Nat.zero_le _, Nat.zero_le _⟩ ?_
              refine j_if_eq C 150 d_X_doAct_134 rfl (fun g7 => ?_) (fun g7 => ?_)
              ·
                have n80 : ¬ isS (a - 80) := fun z => by rw [if_pos z] at g7; exact absurd g7 (by decide)
                refine j_vret C hret hlk d_X_doAct_150 rfl ?_ rfl rfl
                unfold cf_act
                rw [if_neg n16, if_neg n32, if_neg g3, if_neg g4, if_neg g5, if_neg n64, if_neg n80]
              ·
                have q80 : isS (a - 80) := Decidable.byContradiction fun z => g7 (if_neg z)
                have hl80 : lv 7 (a - 80).toNatClampNeg := h.s (isS_lt q80)
                refine j_aload_n C d_X_doAct_137 rfl rfl ?_
                refine j_aload_n C d_X_doAct_138 rfl rfl ?_
                refine sgC C hK 0 0 2 d_X_doAct_139 in_X rfl rfl (by decide) t_108 rfl rfl rfl (by assumption) ?_
                refine j_iload_n C d_X_doAct_142 rfl rfl ?_
                refine j_bipush (v := 80) C d_X_doAct_143 (by decide) ?_
                refine j_isub C d_X_doAct_145 ?_
                refine saC C hK 3 0 d_X_doAct_146 rfl (isS_in q80) rfl rfl (by assumption) ?_
                refine spP (t := 7) C hK 0 0 9 ty_X tk_X nm_X d_X_doAct_147 in_X rfl rfl (by decide) t_115 rfl rfl rfl rfl (some (((a - 80)).toNatClampNeg)) rfl rfl (by assumption) ?_
                refine j_vret C hret hlk d_X_doAct_150 rfl ?_ rfl rfl
                unfold cf_act
                rw [if_neg n16, if_neg n32, if_neg g3, if_neg g4, if_neg g5, if_neg n64, if_pos q80]
            ·
              have q64 : isS (a - 64) := Decidable.byContradiction fun z => g6 (if_neg z)
              have hl64 : lv 7 (a - 64).toNatClampNeg := h.s (isS_lt q64)
              refine j_aload_n C d_X_doAct_105 rfl rfl ?_
              refine j_aload_n C d_X_doAct_106 rfl rfl ?_
              refine sgC C hK 0 0 2 d_X_doAct_107 in_X rfl rfl (by decide) t_108 rfl rfl rfl (by assumption) ?_
              refine j_iload_n C d_X_doAct_110 rfl rfl ?_
              refine j_bipush (v := 64) C d_X_doAct_111 (by decide) ?_
              refine j_isub C d_X_doAct_113 ?_
              refine saC C hK 3 0 d_X_doAct_114 rfl (isS_in q64) rfl rfl (by assumption) ?_
              refine j_aload_n C d_X_doAct_115 rfl rfl ?_
              refine sgI C hK 0 0 7 d_X_doAct_116 in_X rfl rfl (by decide) t_113 rfl rfl rfl (by assumption) ?_
              refine j_iconst (v := 3) C d_X_doAct_119 (by decide) ?_
              refine j_iadd C d_X_doAct_120 ?_
              refine j_callV C hK hAz 0 0 (k_setAlarm (s0 := (a - 64).toNatClampNeg) (t := σ.1 0 0 7 + 3) h _) (jcV C mi_X_setAlarm t_241 t_243 t_6 rfl rfl ⟨by decide, by decide⟩) rfl rfl (by assumption) rfl rfl (Nat.le_of_ble_eq_true rfl) d_X_doAct_121 ⟨Nat.zero_le _, Nat.zero_le _⟩ ?_
              refine j_goto C 150 d_X_doAct_124 rfl ?_
              refine j_vret C hret hlk d_X_doAct_150 rfl ?_ rfl rfl
              unfold cf_act
              rw [if_neg n16, if_neg n32, if_neg g3, if_neg g4, if_neg g5, if_pos q64]
          ·
            refine j_aload_n C d_X_doAct_87 rfl rfl ?_
            refine j_null C d_X_doAct_88 ?_
            refine spP (t := 7) C hK 0 0 9 ty_X tk_X nm_X d_X_doAct_89 in_X rfl rfl (by decide) t_115 rfl rfl rfl rfl (none) rfl rfl (by assumption) ?_
            refine j_goto C 150 d_X_doAct_92 rfl ?_
            refine j_vret C hret hlk d_X_doAct_150 rfl ?_ rfl rfl
            unfold cf_act
            rw [if_neg n16, if_neg n32, if_neg g3, if_neg g4, if_pos g5]
        ·
          refine j_aload_n C d_X_doAct_71 rfl rfl ?_
          refine sgC C hK 0 0 3 d_X_doAct_72 in_X rfl rfl (by decide) t_109 rfl rfl rfl (by assumption) ?_
          refine j_callV C hK hAz 4 0 (k_drop h _) (jcV C mi_W_dropFirst t_310 t_311 t_312 rfl rfl ⟨by decide, by decide⟩) rfl rfl (by assumption) rfl rfl (Nat.le_of_ble_eq_true rfl) d_X_doAct_75 ⟨Nat.zero_le _, Nat.zero_le _⟩ ?_
          refine j_goto C 150 d_X_doAct_78 rfl ?_
          refine j_vret C hret hlk d_X_doAct_150 rfl ?_ rfl rfl
          unfold cf_act
          rw [if_neg n16, if_neg n32, if_neg g3, if_pos g4]
      ·
        refine j_aload_n C d_X_doAct_58 rfl rfl ?_
        refine j_callV C hK hAz 0 0 (k_give h _) (jcV C mi_X_giveWay t_302 t_304 t_15 rfl rfl ⟨by decide, by decide⟩) rfl rfl (by assumption) rfl rfl (Nat.le_of_ble_eq_true rfl) d_X_doAct_59 ⟨Nat.zero_le _, Nat.zero_le _⟩ ?_
        refine j_goto C 150 d_X_doAct_62 rfl ?_
        refine j_vret C hret hlk d_X_doAct_150 rfl ?_ rfl rfl
        unfold cf_act
        rw [if_neg n16, if_neg n32, if_pos g3]
    ·
      have q32 : isS (a - 32) := Decidable.byContradiction fun z => g2 (if_neg z)
      have hl32 : lv 7 (a - 32).toNatClampNeg := h.s (isS_lt q32)
      refine j_aload_n C d_X_doAct_36 rfl rfl ?_
      refine j_aload_n C d_X_doAct_37 rfl rfl ?_
      refine sgC C hK 0 0 2 d_X_doAct_38 in_X rfl rfl (by decide) t_108 rfl rfl rfl (by assumption) ?_
      refine j_iload_n C d_X_doAct_41 rfl rfl ?_
      refine j_bipush (v := 32) C d_X_doAct_42 (by decide) ?_
      refine j_isub C d_X_doAct_44 ?_
      refine saC C hK 3 0 d_X_doAct_45 rfl (isS_in q32) rfl rfl (by assumption) ?_
      refine j_callV C hK hAz 0 0 (k_sig (s0 := (a - 32).toNatClampNeg) h (isS_lt q32) _) (jcV C mi_X_signalOnce t_228 t_230 t_5 rfl rfl ⟨by decide, by decide⟩) rfl rfl (by assumption) rfl rfl (Nat.le_of_ble_eq_true rfl) d_X_doAct_46 ⟨Nat.zero_le _, Nat.zero_le _⟩ ?_
      refine j_goto C 150 d_X_doAct_49 rfl ?_
      refine j_vret C hret hlk d_X_doAct_150 rfl ?_ rfl rfl
      unfold cf_act
      rw [if_neg n16, if_pos q32]
  ·
    have q16 : isS (a - 16) := Decidable.byContradiction fun z => g1 (if_neg z)
    have hl16 : lv 7 (a - 16).toNatClampNeg := h.s (isS_lt q16)
    refine j_aload_n C d_X_doAct_10 rfl rfl ?_
    refine j_aload_n C d_X_doAct_11 rfl rfl ?_
    refine sgC C hK 0 0 2 d_X_doAct_12 in_X rfl rfl (by decide) t_108 rfl rfl rfl (by assumption) ?_
    refine j_iload_n C d_X_doAct_15 rfl rfl ?_
    refine j_bipush (v := 16) C d_X_doAct_16 (by decide) ?_
    refine j_isub C d_X_doAct_18 ?_
    refine saC C hK 3 0 d_X_doAct_19 rfl (isS_in q16) rfl rfl (by assumption) ?_
    refine j_callV C hK hAz 0 0 (k_wait (s0 := (a - 16).toNatClampNeg) h (isS_lt q16) _) (jcV C mi_X_waitFor t_298 t_300 t_14 rfl rfl ⟨by decide, by decide⟩) rfl rfl (by assumption) rfl rfl (Nat.le_of_ble_eq_true rfl) d_X_doAct_20 ⟨Nat.zero_le _, Nat.zero_le _⟩ ?_
    refine j_goto C 150 d_X_doAct_23 rfl ?_
    refine j_vret C hret hlk d_X_doAct_150 rfl ?_ rfl rfl
    unfold cf_act
    rw [if_pos q16]
set_option maxRecDepth 100000 in
set_option maxHeartbeats 4000000 in
theorem k_code {l : Launch} {D : va_G} {E : Nat → ClassId} {ad : Nat → Nat → Nat} {lv : Nat → Nat → Prop} {σ τ : sT} (h : OKs σ lv) {x : Nat} (hx : Mk σ x) : jM l y_X_doCode c_X_doCode 3 (none) 4 D E ad lv (jv ad σ τ) [.ref (ad 0 0), .ref (ad 8 x)] none (jv ad (cf_code σ x) τ) := by
  intro sz
  refine jC.of "InputRoom" (by decide +kernel) rfl rfl (Nat.le_of_ble_eq_true rfl) (by intro v hv; simp only [List.mem_cons, List.not_mem_nil, or_false] at hv; rcases hv with rfl | rfl <;> first | rfl | exact jrf_cat _) ?_
  intro p e s m below meth c C hK hret hlk hnm hsz hAz
  have hb0 : lv 0 0 := h.k (by decide)
  have hb1 : lv 1 0 := h.k (by decide)
  have hb2 : lv 2 0 := h.k (by decide)
  have hb3 : lv 3 0 := h.k (by decide)
  have hb4 : lv 4 0 := h.k (by decide)
  have hb5 : lv 5 0 := h.k (by decide)
  have hlx : lv 8 x := h.p hx
  refine j_aload_n C d_X_doCode_0 rfl rfl ?_
  refine j_callV C hK hAz 8 x (k_next h hx _) (jcV C mi_P_nextAct t_289 t_290 t_291 rfl rfl ⟨by decide, by decide⟩) rfl rfl (by assumption) rfl rfl (Nat.le_of_ble_eq_true rfl) d_X_doCode_1 ⟨Nat.zero_le _, Nat.zero_le _⟩ ?_
  refine j_istore_n C d_X_doCode_4 rfl (by decide) ?_
  refine j_aload_n C d_X_doCode_5 rfl rfl ?_
  refine j_dup C d_X_doCode_6 rfl ?_
  refine sgI C hK 8 x 4 d_X_doCode_7 in_P rfl rfl (by decide) t_161 rfl rfl rfl (by assumption) ?_
  refine j_iconst (v := 1) C d_X_doCode_10 (by decide) ?_
  refine j_iadd C d_X_doCode_11 ?_
  refine spI C hK 8 x 4 ty_P tk_P nm_P d_X_doCode_12 in_P rfl rfl (by decide) t_161 rfl rfl rfl rfl ((σ.1 8 x 4 + 1)) rfl rfl (by assumption) ?_
  refine j_aload_n C d_X_doCode_15 rfl rfl ?_
  refine j_iload_n C d_X_doCode_16 rfl rfl ?_
  refine j_callV C hK hAz 0 0 (k_act (σ := (sI σ 8 x 4 (σ.1 8 x 4 + 1))) (a := cf_next σ x) h _) (jcV C mi_X_doAct t_294 t_296 t_13 rfl rfl ⟨by decide, by decide⟩) rfl rfl (by assumption) rfl rfl (Nat.le_of_ble_eq_true rfl) d_X_doCode_17 ⟨Nat.zero_le _, Nat.zero_le _⟩ ?_
  have ok2 : OKs (cf_act (sI σ 8 x 4 (σ.1 8 x 4 + 1)) (cf_next σ x)) lv := (go_act (σ := (sI σ 8 x 4 (σ.1 8 x 4 + 1))) h).1
  refine j_aload_n C d_X_doCode_20 rfl rfl ?_
  refine j_dup C d_X_doCode_21 rfl ?_
  refine sgL C hK 0 0 8 d_X_doCode_22 in_X rfl rfl (by decide) t_114 rfl rfl rfl (by assumption) ?_
  refine j_lconst (v := 1) C d_X_doCode_25 (by decide) ?_
  refine j_ladd C d_X_doCode_26 ?_
  refine spL C hK 0 0 8 ty_X tk_X nm_X d_X_doCode_27 in_X rfl rfl (by decide) t_114 rfl rfl rfl rfl (((cf_act (sI σ 8 x 4 (σ.1 8 x 4 + 1)) (cf_next σ x)).2.2 0 0 8 + 1)) rfl rfl (by assumption) ?_
  refine j_aload_n C d_X_doCode_30 rfl rfl ?_
  refine sgL C hK 0 0 8 d_X_doCode_31 in_X rfl rfl (by decide) t_114 rfl rfl rfl (by assumption) ?_
  refine j_ldc2 C d_X_doCode_34 t_314 ?_
  refine j_lrem C d_X_doCode_37 (by decide) ?_
  refine j_lconst (v := 0) C d_X_doCode_38 (by decide) ?_
  refine j_lcmp C d_X_doCode_39 ?_
  refine j_if_ne C 53 d_X_doCode_40 rfl (fun g1 => ?_) (fun g1 => ?_)
  ·
    refine j_vret C hret hlk d_X_doCode_53 rfl ?_ rfl rfl
    unfold cf_code
    dsimp only
    rw [if_neg (fun z => g1 ((lg_cmp_eq _ _).mpr z))]
  ·
    refine j_aload_n C d_X_doCode_43 rfl rfl ?_
    refine j_dup C d_X_doCode_44 rfl ?_
    refine sgI C hK 0 0 7 d_X_doCode_45 in_X rfl rfl (by decide) t_113 rfl rfl rfl (by assumption) ?_
    refine j_iconst (v := 1) C d_X_doCode_48 (by decide) ?_
    refine j_iadd C d_X_doCode_49 ?_
    refine spI C hK 0 0 7 ty_X tk_X nm_X d_X_doCode_50 in_X rfl rfl (by decide) t_113 rfl rfl rfl rfl (((sL (cf_act (sI σ 8 x 4 (σ.1 8 x 4 + 1)) (cf_next σ x)) 0 0 8 (((cf_act (sI σ 8 x 4 (σ.1 8 x 4 + 1)) (cf_next σ x)).2.2 0 0 8 + 1))).1 0 0 7 + 1)) rfl rfl (by assumption) ?_
    refine j_vret C hret hlk d_X_doCode_53 rfl ?_ rfl rfl
    unfold cf_code
    dsimp only
    rw [if_pos ((lg_cmp_eq _ _).mp g1)]
