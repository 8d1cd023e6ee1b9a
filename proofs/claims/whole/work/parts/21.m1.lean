theorem vin2 {x : Int32} {n : Nat} (h0 : ¬ x < 0) (h1 : x.toInt < n) : vp_in x n := by
  rw [vp_in_iff]
  rw [i32_lt, i32_0] at h0
  omega
theorem vin3 {x : Int32} {n : Nat} (h0 : 0 ≤ x) (h1 : x.toInt < n) : vp_in x n := by
  rw [vp_in_iff]
  rw [i32_le, i32_0] at h0
  omega
theorem i32_p1 (k : Nat) : nI k + Int32.ofInt 1 = nI (k + 1) := by rw [nI_succ]; rfl
theorem i32_pm (k : Nat) : nI (k + 1) + Int32.ofInt (-1) = nI k := by rw [i32_m1, nI_pred]
set_option maxRecDepth 100000 in
set_option maxHeartbeats 4000000 in
theorem m_isMade {l : Launch} {D : va_G} {E : Nat → ClassId} {ad : Nat → Nat → Nat} {lv : Nat → Nat → Prop} {σ τ : sT} {N : Int} (h : OKm τ lv N) {a : Int32} : jM l y_M_isMade c_M_isMade 2 (some .boolean) 0 D E ad lv (jv ad σ τ) [.ref (ad 10 0), .int (a)] (some (.int (if a < 0 then 0 else if 32 ≤ a then 0 else if τ.1 11 0 a.toNatClampNeg = 0 then 0 else 1))) (jv ad σ τ) := by
  intro sz
  refine jC.of "InputRoomModel" (by decide +kernel) rfl rfl (Nat.le_of_ble_eq_true rfl) (by intro v hv; simp only [List.mem_cons, List.not_mem_nil, or_false] at hv; rcases hv with rfl | rfl <;> first | rfl | exact jrf_cat _) ?_
  intro p e s m below meth c C hK hret hlk hnm hsz hAz
  have hb10 : lv 10 0 := h.k (by decide) (by decide)
  have hb11 : lv 11 0 := h.k (by decide) (by decide)
  have hb12 : lv 12 0 := h.k (by decide) (by decide)
  have hb13 : lv 13 0 := h.k (by decide) (by decide)
  have hb14 : lv 14 0 := h.k (by decide) (by decide)
  have hb15 : lv 15 0 := h.k (by decide) (by decide)
  have hb16 : lv 16 0 := h.k (by decide) (by decide)
  have hb17 : lv 17 0 := h.k (by decide) (by decide)
  have hb18 : lv 18 0 := h.k (by decide) (by decide)
  have hb19 : lv 19 0 := h.k (by decide) (by decide)
  refine j_iload_n C d_M_isMade_0 rfl rfl ?_
  refine j_if_lt C 23 d_M_isMade_1 rfl (fun g1 => ?_) (fun g1 => ?_)
  ·
    refine j_iconst (v := 0) C d_M_isMade_23 (by decide) ?_
    refine j_zret C hret hlk (by first | rfl | decide) d_M_isMade_24 ?_ ?_ rfl rfl
    · simp only [g1, if_true, if_false]
    · rfl
  ·
    refine j_iload_n C d_M_isMade_4 rfl rfl ?_
    refine j_bipush (v := 32) C d_M_isMade_5 (by decide) ?_
    refine j_icmp_ge C 23 d_M_isMade_7 rfl (fun g2 => ?_) (fun g2 => ?_)
    ·
      refine j_iconst (v := 0) C d_M_isMade_23 (by decide) ?_
      refine j_zret C hret hlk (by first | rfl | decide) d_M_isMade_24 ?_ ?_ rfl rfl
      · simp only [g1, g2, if_true, if_false]
      · rfl
    ·
      refine j_aload_n C d_M_isMade_10 rfl rfl ?_
      refine tgC C hK 10 0 0 d_M_isMade_11 in_M rfl rfl (by decide) t_376 rfl rfl rfl (by assumption) ?_
      refine j_iload_n C d_M_isMade_14 rfl rfl ?_
      refine tza C hK 11 0 d_M_isMade_15 rfl (vin g1 g2 rfl) rfl rfl (by assumption) ?_
      refine j_if_eq C 23 d_M_isMade_16 rfl (fun g3 => ?_) (fun g3 => ?_)
      ·
        refine j_iconst (v := 0) C d_M_isMade_23 (by decide) ?_
        refine j_zret C hret hlk (by first | rfl | decide) d_M_isMade_24 ?_ ?_ rfl rfl
        · simp only [g1, g2, g3, if_true, if_false]
        · rfl
      ·
        refine j_iconst (v := 1) C d_M_isMade_19 (by decide) ?_
        refine j_goto C 24 d_M_isMade_20 rfl ?_
        refine j_zret C hret hlk (by first | rfl | decide) d_M_isMade_24 ?_ ?_ rfl rfl
        · simp only [g1, g2, g3, if_true, if_false]
        · rfl
set_option maxRecDepth 100000 in
set_option maxHeartbeats 4000000 in
theorem m_isSem {l : Launch} {D : va_G} {E : Nat → ClassId} {ad : Nat → Nat → Nat} {lv : Nat → Nat → Prop} {σ τ : sT} {a : Int32} : jM l y_M_isSemaphore c_M_isSemaphore 1 (some .boolean) 0 D E ad lv (jv ad σ τ) [.int (a)] (some (.int (if isS a then 1 else 0))) (jv ad σ τ) := by
  intro sz
  refine jC.of "InputRoomModel" (by decide +kernel) rfl rfl (Nat.le_of_ble_eq_true rfl) (by intro v hv; simp only [List.mem_cons, List.not_mem_nil, or_false] at hv; rcases hv with rfl <;> first | rfl | exact jrf_cat _) ?_
  intro p e s m below meth c C hK hret hlk hnm hsz hAz
  refine j_iload_n C d_M_isSemaphore_0 rfl rfl ?_
  refine j_if_lt C 14 d_M_isSemaphore_1 rfl (fun g1 => ?_) (fun g1 => ?_)
  ·
    refine j_iconst (v := 0) C d_M_isSemaphore_14 (by decide) ?_
    refine j_zret C hret hlk (by first | rfl | decide) d_M_isSemaphore_15 ?_ ?_ rfl rfl
    · rw [if_neg (by simp only [isS, i32_lt, i32_le, i32_0, i32_16] at *; omega)]
    · rfl
  ·
    refine j_iload_n C d_M_isSemaphore_4 rfl rfl ?_
    refine j_bipush (v := 16) C d_M_isSemaphore_5 (by decide) ?_
    refine j_icmp_ge C 14 d_M_isSemaphore_7 rfl (fun g2 => ?_) (fun g2 => ?_)
    ·
      refine j_iconst (v := 0) C d_M_isSemaphore_14 (by decide) ?_
      refine j_zret C hret hlk (by first | rfl | decide) d_M_isSemaphore_15 ?_ ?_ rfl rfl
      · rw [if_neg (by simp only [isS, i32_lt, i32_le, i32_0, i32_16] at *; omega)]
      · rfl
    ·
      refine j_iconst (v := 1) C d_M_isSemaphore_10 (by decide) ?_
      refine j_goto C 15 d_M_isSemaphore_11 rfl ?_
      refine j_zret C hret hlk (by first | rfl | decide) d_M_isSemaphore_15 ?_ ?_ rfl rfl
      · rw [if_pos (by simp only [isS, i32_lt, i32_le, i32_0, i32_16] at *; omega)]
      · rfl
set_option maxRecDepth 100000 in
set_option maxHeartbeats 4000000 in
theorem m_come {l : Launch} {D : va_G} {E : Nat → ClassId} {ad : Nat → Nat → Nat} {lv : Nat → Nat → Prop} {σ τ : sT} {N : Int} (h : OKm τ lv N) {a t : Int32} (ha : vp_in a 32) : jM l y_M_come c_M_come 3 (none) 0 D E ad lv (jv ad σ τ) [.ref (ad 10 0), .int (a), .int (t)] none (jv ad σ (mf_come τ a t)) := by
  intro sz
  refine jC.of "InputRoomModel" (by decide +kernel) rfl rfl (Nat.le_of_ble_eq_true rfl) (by intro v hv; simp only [List.mem_cons, List.not_mem_nil, or_false] at hv; rcases hv with rfl | rfl | rfl <;> first | rfl | exact jrf_cat _) ?_
  intro p e s m below meth c C hK hret hlk hnm hsz hAz
  have hb10 : lv 10 0 := h.k (by decide) (by decide)
  have hb11 : lv 11 0 := h.k (by decide) (by decide)
  have hb12 : lv 12 0 := h.k (by decide) (by decide)
  have hb13 : lv 13 0 := h.k (by decide) (by decide)
  have hb14 : lv 14 0 := h.k (by decide) (by decide)
  have hb15 : lv 15 0 := h.k (by decide) (by decide)
  have hb16 : lv 16 0 := h.k (by decide) (by decide)
  have hb17 : lv 17 0 := h.k (by decide) (by decide)
  have hb18 : lv 18 0 := h.k (by decide) (by decide)
  have hb19 : lv 19 0 := h.k (by decide) (by decide)
  refine j_aload_n C d_M_come_0 rfl rfl ?_
  refine tgC C hK 10 0 4 d_M_come_1 in_M rfl rfl (by decide) t_380 rfl rfl rfl (by assumption) ?_
  refine j_iload_n C d_M_come_4 rfl rfl ?_
  refine j_iload_n C d_M_come_5 rfl rfl ?_
  refine tia_st C hK 15 0 d_M_come_6 rfl (by assumption) rfl rfl (by assumption) ?_
  refine j_aload_n C d_M_come_7 rfl rfl ?_
  refine tgC C hK 10 0 5 d_M_come_8 in_M rfl rfl (by decide) t_381 rfl rfl rfl (by assumption) ?_
  refine j_iload_n C d_M_come_11 rfl rfl ?_
  refine j_aload_n C d_M_come_12 rfl rfl ?_
  refine tgL C hK 10 0 6 d_M_come_13 in_M rfl rfl (by decide) t_382 rfl rfl rfl (by assumption) ?_
  refine tla_st C hK 16 0 d_M_come_16 rfl (by assumption) rfl rfl (by assumption) ?_
  refine j_aload_n C d_M_come_17 rfl rfl ?_
  refine j_aload_n C d_M_come_18 rfl rfl ?_
  refine tgL C hK 10 0 6 d_M_come_19 in_M rfl rfl (by decide) t_382 rfl rfl rfl (by assumption) ?_
  refine j_lconst (v := 1) C d_M_come_22 (by decide) ?_
  refine j_ladd C d_M_come_23 ?_
  refine tpL C hK 10 0 6 ty_M tk_M nm_M d_M_come_24 in_M rfl rfl (by decide) t_382 rfl rfl rfl rfl (((sL (sI τ 15 0 (a).toNatClampNeg (t)) 16 0 (a).toNatClampNeg ((sI τ 15 0 (a).toNatClampNeg (t)).2.2 10 0 6)).2.2 10 0 6 + 1)) rfl rfl (by assumption) ?_
  refine j_vret C hret hlk d_M_come_27 rfl ?_ rfl rfl
  rfl
set_option maxRecDepth 100000 in
set_option maxHeartbeats 4000000 in
theorem lp_mfirst {l : Launch} {D : va_G} {E : Nat → ClassId} {ad : Nat → Nat → Nat} {lv : Nat → Nat → Prop} {σ : sT} {τ : sT} {N : Int} (h : OKm τ lv N) {t : Int32} {R0 : Option Value} {p : Program} {e : Env} {s : State} {m : MethodId} {below : List Frame} {meth : Method} {c : Code} {sz : Nat} (C : CallFix p m c c_M_first 4 s ([.ref (ad 10 0), .int (t)] : List Value).toArray jT "InputRoomModel") (hK : jK D jcl jY E s) (hret : meth.sig.returnType = some .int) (hlk : meth.locks = false) (hAz : ∀ q, s.heap.size ≤ q → jA ad lv sz q) : ∀ (n k : Nat) (i f : Int32), i = nI k → k + n = 32 → f.toInt < 32 → R0 = some (.int (mf_fl τ t n k f)) → JM l y_M_first c_M_first 4 (some .int) 0 D E ad lv p e s m below meth c sz [.ref (ad 10 0), .int (t)] R0 (jv ad σ τ) (jv ad σ τ) 4 [some (.ref (ad 10 0)), some (.int (t)), some (.int (f)), some (.int (i))] [] := by
  intro n
  induction n with
  | zero =>
    intro k i f hi hk hf hR
    have hi : i = nI 32 := by rw [hi]; congr 1
    subst hi
    refine j_iload_n C d_M_first_4 rfl rfl ?_
    refine j_bipush (v := 32) C d_M_first_5 (by decide) ?_
    refine j_icmp_ge C 57 d_M_first_7 rfl (fun _ => ?_) (fun g1 => absurd (by decide) g1)
    refine j_iload_n C d_M_first_57 rfl rfl ?_
    refine j_iret C hret hlk d_M_first_58 ?_ ?_ rfl rfl
    · exact hR
    · rfl
  | succ n ih =>
    intro k i f hi hk hf hR
    subst hi
    have hin : vp_in (nI k) 32 := vp_in_nI (by omega) (by decide)
    have hge : ¬ 32 ≤ nI k := nI_ge (a := k) (b := 32) (by omega) (by decide)
    have hb10 : lv 10 0 := h.k (by decide) (by decide)
    have hb11 : lv 11 0 := h.k (by decide) (by decide)
    have hb12 : lv 12 0 := h.k (by decide) (by decide)
    have hb13 : lv 13 0 := h.k (by decide) (by decide)
    have hb14 : lv 14 0 := h.k (by decide) (by decide)
    have hb15 : lv 15 0 := h.k (by decide) (by decide)
    have hb16 : lv 16 0 := h.k (by decide) (by decide)
    have hb17 : lv 17 0 := h.k (by decide) (by decide)
    have hb18 : lv 18 0 := h.k (by decide) (by decide)
    have hb19 : lv 19 0 := h.k (by decide) (by decide)
    refine j_iload_n C d_M_first_4 rfl rfl ?_
    refine j_bipush (v := 32) C d_M_first_5 (by decide) ?_
    refine j_icmp_ge C 57 d_M_first_7 rfl (fun g1 => absurd g1 hge) (fun _ => ?_)
    refine j_aload_n C d_M_first_10 rfl rfl ?_
    refine tgC C hK 10 0 0 d_M_first_11 in_M rfl rfl (by decide) t_376 rfl rfl rfl (by assumption) ?_
    refine j_iload_n C d_M_first_14 rfl rfl ?_
    refine tza C hK 11 0 d_M_first_15 rfl hin rfl rfl (by assumption) ?_
    refine j_if_eq C 51 d_M_first_16 rfl (fun g2 => ?_) (fun g2 => ?_)
    ·
      refine j_iinc C d_M_first_51 rfl (by decide) ?_
      refine j_goto C 4 d_M_first_54 rfl ?_
      have e1 : mf_ft τ t k f = f := by simp only [mf_ft, g2, if_true, if_false]
      exact ih (k + 1) _ _ (i32_p1 k) (by omega) (e1 ▸ ft_lt (by omega) hf) (by rw [hR]; show some (Value.int (mf_fl τ t n (k + 1) (mf_ft τ t k f))) = _; rw [e1])
    ·
      refine j_aload_n C d_M_first_19 rfl rfl ?_
      refine tgC C hK 10 0 4 d_M_first_20 in_M rfl rfl (by decide) t_380 rfl rfl rfl (by assumption) ?_
      refine j_iload_n C d_M_first_23 rfl rfl ?_
      refine tia C hK 15 0 d_M_first_24 rfl hin rfl rfl (by assumption) ?_
      refine j_iload_n C d_M_first_25 rfl rfl ?_
      refine j_icmp_ne C 51 d_M_first_26 rfl (fun g3 => ?_) (fun g3 => ?_)
      ·
        refine j_iinc C d_M_first_51 rfl (by decide) ?_
        refine j_goto C 4 d_M_first_54 rfl ?_
        have e1 : mf_ft τ t k f = f := by simp only [mf_ft, g2, g3, if_true, if_false]
        exact ih (k + 1) _ _ (i32_p1 k) (by omega) (e1 ▸ ft_lt (by omega) hf) (by rw [hR]; show some (Value.int (mf_fl τ t n (k + 1) (mf_ft τ t k f))) = _; rw [e1])
      ·
        refine j_iload_n C d_M_first_29 rfl rfl ?_
        refine j_if_lt C 49 d_M_first_30 rfl (fun g4 => ?_) (fun g4 => ?_)
        ·
          refine j_iload_n C d_M_first_49 rfl rfl ?_
          refine j_istore_n C d_M_first_50 rfl (by decide) ?_
          refine j_iinc C d_M_first_51 rfl (by decide) ?_
          refine j_goto C 4 d_M_first_54 rfl ?_
          have e1 : mf_ft τ t k f = nI k := by simp only [mf_ft, g2, g3, g4, if_true, if_false]
          exact ih (k + 1) _ _ (i32_p1 k) (by omega) (e1 ▸ ft_lt (by omega) hf) (by rw [hR]; show some (Value.int (mf_fl τ t n (k + 1) (mf_ft τ t k f))) = _; rw [e1])
        ·
          refine j_aload_n C d_M_first_33 rfl rfl ?_
          refine tgC C hK 10 0 5 d_M_first_34 in_M rfl rfl (by decide) t_381 rfl rfl rfl (by assumption) ?_
          refine j_iload_n C d_M_first_37 rfl rfl ?_
          refine tla C hK 16 0 d_M_first_38 rfl hin rfl rfl (by assumption) ?_
          refine j_aload_n C d_M_first_39 rfl rfl ?_
          refine tgC C hK 10 0 5 d_M_first_40 in_M rfl rfl (by decide) t_381 rfl rfl rfl (by assumption) ?_
          refine j_iload_n C d_M_first_43 rfl rfl ?_
          refine tla C hK 16 0 d_M_first_44 rfl (vin2 g4 hf) rfl rfl (by assumption) ?_
          refine j_lcmp C d_M_first_45 ?_
          refine j_if_ge C 51 d_M_first_46 rfl (fun g5 => ?_) (fun g5 => ?_)
          ·
            refine j_iinc C d_M_first_51 rfl (by decide) ?_
            refine j_goto C 4 d_M_first_54 rfl ?_
            have e1 : mf_ft τ t k f = f := by simp only [mf_ft, g2, g3, g4, g5, if_true, if_false]
            exact ih (k + 1) _ _ (i32_p1 k) (by omega) (e1 ▸ ft_lt (by omega) hf) (by rw [hR]; show some (Value.int (mf_fl τ t n (k + 1) (mf_ft τ t k f))) = _; rw [e1])
          ·
            refine j_iload_n C d_M_first_49 rfl rfl ?_
            refine j_istore_n C d_M_first_50 rfl (by decide) ?_
            refine j_iinc C d_M_first_51 rfl (by decide) ?_
            refine j_goto C 4 d_M_first_54 rfl ?_
            have e1 : mf_ft τ t k f = nI k := by simp only [mf_ft, g2, g3, g4, g5, if_true, if_false]
            exact ih (k + 1) _ _ (i32_p1 k) (by omega) (e1 ▸ ft_lt (by omega) hf) (by rw [hR]; show some (Value.int (mf_fl τ t n (k + 1) (mf_ft τ t k f))) = _; rw [e1])
set_option maxRecDepth 100000 in
set_option maxHeartbeats 4000000 in
theorem m_first {l : Launch} {D : va_G} {E : Nat → ClassId} {ad : Nat → Nat → Nat} {lv : Nat → Nat → Prop} {σ τ : sT} {N : Int} (h : OKm τ lv N) {t : Int32} : jM l y_M_first c_M_first 4 (some .int) 0 D E ad lv (jv ad σ τ) [.ref (ad 10 0), .int (t)] (some (.int (mf_first τ t))) (jv ad σ τ) := by
  intro sz
  refine jC.of "InputRoomModel" (by decide +kernel) rfl rfl (Nat.le_of_ble_eq_true rfl) (by intro v hv; simp only [List.mem_cons, List.not_mem_nil, or_false] at hv; rcases hv with rfl | rfl <;> first | rfl | exact jrf_cat _) ?_
  intro p e s m below meth c C hK hret hlk hnm hsz hAz
  have hb10 : lv 10 0 := h.k (by decide) (by decide)
  have hb11 : lv 11 0 := h.k (by decide) (by decide)
  have hb12 : lv 12 0 := h.k (by decide) (by decide)
  have hb13 : lv 13 0 := h.k (by decide) (by decide)
  have hb14 : lv 14 0 := h.k (by decide) (by decide)
  have hb15 : lv 15 0 := h.k (by decide) (by decide)
  have hb16 : lv 16 0 := h.k (by decide) (by decide)
  have hb17 : lv 17 0 := h.k (by decide) (by decide)
  have hb18 : lv 18 0 := h.k (by decide) (by decide)
  have hb19 : lv 19 0 := h.k (by decide) (by decide)
  refine j_iconst (v := -1) C d_M_first_0 (by decide) ?_
  refine j_istore_n C d_M_first_1 rfl (by decide) ?_
  refine j_iconst (v := 0) C d_M_first_2 (by decide) ?_
  refine j_istore_n C d_M_first_3 rfl (by decide) ?_
  exact lp_mfirst h C hK hret hlk hAz 32 0 0 (-1) rfl rfl (by decide) rfl
set_option maxRecDepth 100000 in
set_option maxHeartbeats 4000000 in
theorem m_pres {l : Launch} {D : va_G} {E : Nat → ClassId} {ad : Nat → Nat → Nat} {lv : Nat → Nat → Prop} {σ τ : sT} {N : Int} (h : OKm τ lv N) : jM l y_M_present0 c_M_present0 1 (some .int) 0 D E ad lv (jv ad σ τ) [.ref (ad 10 0)] (some (.int (mf_pres τ))) (jv ad σ τ) := by
  intro sz
  refine jC.of "InputRoomModel" (by decide +kernel) rfl rfl (Nat.le_of_ble_eq_true rfl) (by intro v hv; simp only [List.mem_cons, List.not_mem_nil, or_false] at hv; rcases hv with rfl <;> first | rfl | exact jrf_cat _) ?_
  intro p e s m below meth c C hK hret hlk hnm hsz hAz
  have hb10 : lv 10 0 := h.k (by decide) (by decide)
  have hb11 : lv 11 0 := h.k (by decide) (by decide)
  have hb12 : lv 12 0 := h.k (by decide) (by decide)
  have hb13 : lv 13 0 := h.k (by decide) (by decide)
  have hb14 : lv 14 0 := h.k (by decide) (by decide)
  have hb15 : lv 15 0 := h.k (by decide) (by decide)
  have hb16 : lv 16 0 := h.k (by decide) (by decide)
  have hb17 : lv 17 0 := h.k (by decide) (by decide)
  have hb18 : lv 18 0 := h.k (by decide) (by decide)
  have hb19 : lv 19 0 := h.k (by decide) (by decide)
  refine j_aload_n C d_M_present0_0 rfl rfl ?_
  refine tgI C hK 10 0 9 d_M_present0_1 in_M rfl rfl (by decide) t_385 rfl rfl rfl (by assumption) ?_
  refine j_if_eq C 14 d_M_present0_4 rfl (fun g1 => ?_) (fun g1 => ?_)
  ·
    refine j_aload_n C d_M_present0_14 rfl rfl ?_
    refine tgI C hK 10 0 8 d_M_present0_15 in_M rfl rfl (by decide) t_384 rfl rfl rfl (by assumption) ?_
    refine j_iret C hret hlk d_M_present0_18 ?_ ?_ rfl rfl
    · simp only [mf_pres, g1, if_true, if_false]
    · rfl
  ·
    refine j_aload_n C d_M_present0_7 rfl rfl ?_
    refine tgI C hK 10 0 10 d_M_present0_8 in_M rfl rfl (by decide) t_386 rfl rfl rfl (by assumption) ?_
    refine j_goto C 18 d_M_present0_11 rfl ?_
    refine j_iret C hret hlk d_M_present0_18 ?_ ?_ rfl rfl
    · simp only [mf_pres, g1, if_true, if_false]
    · rfl
set_option maxRecDepth 100000 in
set_option maxHeartbeats 4000000 in
theorem m_want {l : Launch} {D : va_G} {E : Nat → ClassId} {ad : Nat → Nat → Nat} {lv : Nat → Nat → Prop} {σ τ : sT} {N : Int} (h : OKm τ lv N) {a : Int32} : jM l y_M_want c_M_want 2 (none) 0 D E ad lv (jv ad σ τ) [.ref (ad 10 0), .int (a)] none (jv ad σ (mf_want τ a)) := by
  intro sz
  refine jC.of "InputRoomModel" (by decide +kernel) rfl rfl (Nat.le_of_ble_eq_true rfl) (by intro v hv; simp only [List.mem_cons, List.not_mem_nil, or_false] at hv; rcases hv with rfl | rfl <;> first | rfl | exact jrf_cat _) ?_
  intro p e s m below meth c C hK hret hlk hnm hsz hAz
  have hb10 : lv 10 0 := h.k (by decide) (by decide)
  have hb11 : lv 11 0 := h.k (by decide) (by decide)
  have hb12 : lv 12 0 := h.k (by decide) (by decide)
  have hb13 : lv 13 0 := h.k (by decide) (by decide)
  have hb14 : lv 14 0 := h.k (by decide) (by decide)
  have hb15 : lv 15 0 := h.k (by decide) (by decide)
  have hb16 : lv 16 0 := h.k (by decide) (by decide)
  have hb17 : lv 17 0 := h.k (by decide) (by decide)
  have hb18 : lv 18 0 := h.k (by decide) (by decide)
  have hb19 : lv 19 0 := h.k (by decide) (by decide)
  refine j_aload_n C d_M_want_0 rfl rfl ?_
  refine j_iconst (v := 1) C d_M_want_1 (by decide) ?_
  refine tpI C hK 10 0 9 ty_M tk_M nm_M d_M_want_2 in_M rfl rfl (by decide) t_385 rfl rfl rfl rfl (1) (by first | rfl | decide) (by first | rfl | decide) (by assumption) ?_
  refine j_aload_n C d_M_want_5 rfl rfl ?_
  refine j_iload_n C d_M_want_6 rfl rfl ?_
  refine tpI C hK 10 0 10 ty_M tk_M nm_M d_M_want_7 in_M rfl rfl (by decide) t_386 rfl rfl rfl rfl (a) rfl rfl (by assumption) ?_
  refine j_vret C hret hlk d_M_want_10 rfl ?_ rfl rfl
  rfl
set_option maxRecDepth 100000 in
set_option maxHeartbeats 4000000 in
theorem m_rouse {l : Launch} {D : va_G} {E : Nat → ClassId} {ad : Nat → Nat → Nat} {lv : Nat → Nat → Prop} {σ τ : sT} {N : Int} (h : OKm τ lv N) {a : Int32} (hx : vp_in a 32) : jM l y_M_rouse c_M_rouse 3 (none) 1 D E ad lv (jv ad σ τ) [.ref (ad 10 0), .int (a)] none (jv ad σ (mf_rouse τ a)) := by
  intro sz
  refine jC.of "InputRoomModel" (by decide +kernel) rfl rfl (Nat.le_of_ble_eq_true rfl) (by intro v hv; simp only [List.mem_cons, List.not_mem_nil, or_false] at hv; rcases hv with rfl | rfl <;> first | rfl | exact jrf_cat _) ?_
  intro p e s m below meth c C hK hret hlk hnm hsz hAz
  have hb10 : lv 10 0 := h.k (by decide) (by decide)
  have hb11 : lv 11 0 := h.k (by decide) (by decide)
  have hb12 : lv 12 0 := h.k (by decide) (by decide)
  have hb13 : lv 13 0 := h.k (by decide) (by decide)
  have hb14 : lv 14 0 := h.k (by decide) (by decide)
  have hb15 : lv 15 0 := h.k (by decide) (by decide)
  have hb16 : lv 16 0 := h.k (by decide) (by decide)
  have hb17 : lv 17 0 := h.k (by decide) (by decide)
  have hb18 : lv 18 0 := h.k (by decide) (by decide)
  have hb19 : lv 19 0 := h.k (by decide) (by decide)
  refine j_aload_n C d_M_rouse_0 rfl rfl ?_
  refine j_callV C hK hAz 10 0 (m_pres h _) (jcV C mi_M_present0 t_466 t_468 t_21 rfl rfl ⟨by decide, by decide⟩) rfl rfl (by assumption) rfl rfl (Nat.le_of_ble_eq_true rfl) d_M_rouse_1 ⟨Nat.zero_le _, Nat.zero_le _⟩ ?_
  refine j_istore_n C d_M_rouse_4 rfl (by decide) ?_
  refine j_iload_n C d_M_rouse_5 rfl rfl ?_
  refine j_if_lt C 36 d_M_rouse_6 rfl (fun g1 => ?_) (fun g1 => ?_)
  ·
    refine j_iload_n C d_M_rouse_36 rfl rfl ?_
    refine j_if_lt C 51 d_M_rouse_37 rfl (fun _ => ?_) (fun g2 => absurd g1 g2)
    refine j_aload_n C d_M_rouse_51 rfl rfl ?_
    refine j_iload_n C d_M_rouse_52 rfl rfl ?_
    refine j_callV C hK hAz 10 0 (m_want (N := N) h _) (jcV C mi_M_want t_474 t_476 t_23 rfl rfl ⟨by decide, by decide⟩) rfl rfl (by assumption) rfl rfl (Nat.le_of_ble_eq_true rfl) d_M_rouse_53 ⟨Nat.zero_le _, Nat.zero_le _⟩ ?_
    refine j_vret C hret hlk d_M_rouse_56 rfl ?_ rfl rfl
    rw [mf_rouse, if_pos g1]
  ·
    refine j_aload_n C d_M_rouse_9 rfl rfl ?_
    refine tgC C hK 10 0 1 d_M_rouse_10 in_M rfl rfl (by decide) t_377 rfl rfl rfl (by assumption) ?_
    refine j_iload_n C d_M_rouse_13 rfl rfl ?_
    refine tia C hK 12 0 d_M_rouse_14 rfl (vin2 g1 (pres_lt h)) rfl rfl (by assumption) ?_
    refine j_aload_n C d_M_rouse_15 rfl rfl ?_
    refine tgC C hK 10 0 1 d_M_rouse_16 in_M rfl rfl (by decide) t_377 rfl rfl rfl (by assumption) ?_
    refine j_iload_n C d_M_rouse_19 rfl rfl ?_
    refine tia C hK 12 0 d_M_rouse_20 rfl hx rfl rfl (by assumption) ?_
    refine j_icmp_lt C 36 d_M_rouse_21 rfl (fun g3 => ?_) (fun g3 => ?_)
    ·
      refine j_iload_n C d_M_rouse_36 rfl rfl ?_
      refine j_if_lt C 51 d_M_rouse_37 rfl (fun g4 => absurd g4 g1) (fun _ => ?_)
      refine j_aload_n C d_M_rouse_40 rfl rfl ?_
      refine j_iload_n C d_M_rouse_41 rfl rfl ?_
      refine j_aload_n C d_M_rouse_42 rfl rfl ?_
      refine tgC C hK 10 0 1 d_M_rouse_43 in_M rfl rfl (by decide) t_377 rfl rfl rfl (by assumption) ?_
      refine j_iload_n C d_M_rouse_46 rfl rfl ?_
      refine tia C hK 12 0 d_M_rouse_47 rfl (vin2 g1 (pres_lt h)) rfl rfl (by assumption) ?_
      refine j_callV C hK hAz 10 0 (m_come (a := mf_pres τ) (t := τ.1 12 0 (mf_pres τ).toNatClampNeg) h (vin2 g1 (pres_lt h)) _) (jcV C mi_M_come t_470 t_472 t_22 rfl rfl ⟨by decide, by decide⟩) rfl rfl (by assumption) rfl rfl (Nat.le_of_ble_eq_true rfl) d_M_rouse_48 ⟨Nat.zero_le _, Nat.zero_le _⟩ ?_
      refine j_aload_n C d_M_rouse_51 rfl rfl ?_
      refine j_iload_n C d_M_rouse_52 rfl rfl ?_
      refine j_callV C hK hAz 10 0 (m_want (N := N) (okm_come h) _) (jcV C mi_M_want t_474 t_476 t_23 rfl rfl ⟨by decide, by decide⟩) rfl rfl (by assumption) rfl rfl (Nat.le_of_ble_eq_true rfl) d_M_rouse_53 ⟨Nat.zero_le _, Nat.zero_le _⟩ ?_
      refine j_vret C hret hlk d_M_rouse_56 rfl ?_ rfl rfl
      have g9 : mf_pr τ (mf_pres τ) < mf_pr τ a := g3
      rw [mf_rouse, if_neg g1, if_pos g9]
      rfl
    ·
      refine j_aload_n C d_M_rouse_24 rfl rfl ?_
      refine j_iload_n C d_M_rouse_25 rfl rfl ?_
      refine j_aload_n C d_M_rouse_26 rfl rfl ?_
      refine tgC C hK 10 0 1 d_M_rouse_27 in_M rfl rfl (by decide) t_377 rfl rfl rfl (by assumption) ?_
      refine j_iload_n C d_M_rouse_30 rfl rfl ?_
      refine tia C hK 12 0 d_M_rouse_31 rfl hx rfl rfl (by assumption) ?_
      refine j_callV C hK hAz 10 0 (m_come (a := a) (t := τ.1 12 0 (a).toNatClampNeg) h hx _) (jcV C mi_M_come t_470 t_472 t_22 rfl rfl ⟨by decide, by decide⟩) rfl rfl (by assumption) rfl rfl (Nat.le_of_ble_eq_true rfl) d_M_rouse_32 ⟨Nat.zero_le _, Nat.zero_le _⟩ ?_
      refine j_vret C hret hlk d_M_rouse_35 rfl ?_ rfl rfl
      have g9 : ¬ mf_pr τ (mf_pres τ) < mf_pr τ a := g3
      rw [mf_rouse, if_neg g1, if_neg g9]
      rfl
set_option maxRecDepth 100000 in
set_option maxHeartbeats 4000000 in
theorem lp_maside0 {l : Launch} {D : va_G} {E : Nat → ClassId} {ad : Nat → Nat → Nat} {lv : Nat → Nat → Prop} {σ : sT} {τ : sT} {N : Int} (h : OKm τ lv N) {V1 : jVT} {p : Program} {e : Env} {s : State} {m : MethodId} {below : List Frame} {meth : Method} {c : Code} {sz : Nat} (C : CallFix p m c c_M_putAside 3 s ([.ref (ad 10 0)] : List Value).toArray jT "InputRoomModel") (hK : jK D jcl jY E s) (hret : meth.sig.returnType = none) (hlk : meth.locks = false) (hAz : ∀ q, s.heap.size ≤ q → jA ad lv sz q) : ∀ (nx i : Int32), nx.toInt < 32 → jv ad σ (mf_aend τ nx) = V1 → JM l y_M_putAside c_M_putAside 3 (none) 1 D E ad lv p e s m below meth c sz [.ref (ad 10 0)] none (V1) (jv ad σ τ) 25 [some (.ref (ad 10 0)), some (.int (nx)), some (.int (i))] [] := by
  intro nx i hx hV
  have hb10 : lv 10 0 := h.k (by decide) (by decide)
  have hb11 : lv 11 0 := h.k (by decide) (by decide)
  have hb12 : lv 12 0 := h.k (by decide) (by decide)
  have hb13 : lv 13 0 := h.k (by decide) (by decide)
  have hb14 : lv 14 0 := h.k (by decide) (by decide)
  have hb15 : lv 15 0 := h.k (by decide) (by decide)
  have hb16 : lv 16 0 := h.k (by decide) (by decide)
  have hb17 : lv 17 0 := h.k (by decide) (by decide)
  have hb18 : lv 18 0 := h.k (by decide) (by decide)
  have hb19 : lv 19 0 := h.k (by decide) (by decide)
  refine j_iload_n C d_M_putAside_25 rfl rfl ?_
  refine j_if_lt C 36 d_M_putAside_26 rfl (fun g1 => ?_) (fun g1 => ?_)
  ·
    refine j_aload_n C d_M_putAside_36 rfl rfl ?_
    refine j_iload_n C d_M_putAside_37 rfl rfl ?_
    refine j_callV C hK hAz 10 0 (m_want h _) (jcV C mi_M_want t_474 t_476 t_23 rfl rfl ⟨by decide, by decide⟩) rfl rfl (by assumption) rfl rfl (Nat.le_of_ble_eq_true rfl) d_M_putAside_38 ⟨Nat.zero_le _, Nat.zero_le _⟩ ?_
    refine j_vret C hret hlk d_M_putAside_41 rfl ?_ rfl rfl
    rw [← hV]
    simp only [mf_aend, g1, if_true, if_false]
  ·
    refine j_aload_n C d_M_putAside_29 rfl rfl ?_
    refine tgC C hK 10 0 4 d_M_putAside_30 in_M rfl rfl (by decide) t_380 rfl rfl rfl (by assumption) ?_
    refine j_iload_n C d_M_putAside_33 rfl rfl ?_
    refine j_iconst (v := 0) C d_M_putAside_34 (by decide) ?_
    refine tia_st C hK 15 0 d_M_putAside_35 rfl (vin2 g1 hx) rfl rfl (by assumption) ?_
    refine j_aload_n C d_M_putAside_36 rfl rfl ?_
    refine j_iload_n C d_M_putAside_37 rfl rfl ?_
    refine j_callV C hK hAz 10 0 (m_want (h.o (by omega) (by omega)) _) (jcV C mi_M_want t_474 t_476 t_23 rfl rfl ⟨by decide, by decide⟩) rfl rfl (by assumption) rfl rfl (Nat.le_of_ble_eq_true rfl) d_M_putAside_38 ⟨Nat.zero_le _, Nat.zero_le _⟩ ?_
    refine j_vret C hret hlk d_M_putAside_41 rfl ?_ rfl rfl
    rw [← hV]
    simp only [mf_aend, g1, if_true, if_false]
set_option maxRecDepth 100000 in
set_option maxHeartbeats 4000000 in
theorem lp_maside {l : Launch} {D : va_G} {E : Nat → ClassId} {ad : Nat → Nat → Nat} {lv : Nat → Nat → Prop} {σ : sT} {τ : sT} {N : Int} (h : OKm τ lv N) {V1 : jVT} {p : Program} {e : Env} {s : State} {m : MethodId} {below : List Frame} {meth : Method} {c : Code} {sz : Nat} (C : CallFix p m c c_M_putAside 3 s ([.ref (ad 10 0)] : List Value).toArray jT "InputRoomModel") (hK : jK D jcl jY E s) (hret : meth.sig.returnType = none) (hlk : meth.locks = false) (hAz : ∀ q, s.heap.size ≤ q → jA ad lv sz q) : ∀ (n : Nat) (nx i : Int32), n ≤ 8 → i = nI n → nx.toInt < 32 → jv ad σ (mf_aend τ (mf_al τ n nx)) = V1 → JM l y_M_putAside c_M_putAside 3 (none) 1 D E ad lv p e s m below meth c sz [.ref (ad 10 0)] none (V1) (jv ad σ τ) 5 [some (.ref (ad 10 0)), some (.int (nx)), some (.int (i))] [] := by
  intro n
  induction n with
  | zero =>
    intro nx i hn8 hi hx hV
    subst hi
    refine j_iload_n C d_M_putAside_5 rfl rfl ?_
    refine j_if_le C 25 d_M_putAside_6 rfl (fun _ => ?_) (fun g1 => absurd (by decide) g1)
    exact lp_maside0 h C hK hret hlk hAz nx _ hx hV
  | succ n ih =>
    intro nx i hn8 hi hx hV
    subst hi
    by_cases hn : n < 8
    · have hb10 : lv 10 0 := h.k (by decide) (by decide)
      refine j_iload_n C d_M_putAside_5 rfl rfl ?_
      refine j_if_le C 25 d_M_putAside_6 rfl (fun g1 => absurd g1 (nI_nle (by omega) (by omega))) (fun _ => ?_)
      refine j_iload_n C d_M_putAside_9 rfl rfl ?_
      refine j_if_ge C 25 d_M_putAside_10 rfl (fun g2 => ?_) (fun g2 => ?_)
      ·
        exact lp_maside0 h C hK hret hlk hAz nx _ hx (by rw [← hV]; simp only [mf_al, g2, if_true])
      ·
        refine j_aload_n C d_M_putAside_13 rfl rfl ?_
        refine j_iload_n C d_M_putAside_14 rfl rfl ?_
        refine j_callV C hK hAz 10 0 (m_first (t := nI (n + 1)) h _) (jcV C mi_M_first t_458 t_460 t_19 rfl rfl ⟨by decide, by decide⟩) rfl rfl (by assumption) rfl rfl (Nat.le_of_ble_eq_true rfl) d_M_putAside_15 ⟨Nat.zero_le _, Nat.zero_le _⟩ ?_
        refine j_istore_n C d_M_putAside_18 rfl (by decide) ?_
        refine j_iinc C d_M_putAside_19 rfl (by decide) ?_
        refine j_goto C 5 d_M_putAside_22 rfl ?_
        exact ih _ _ (by omega) (i32_pm n) (first_lt _ _) (by rw [← hV]; simp only [mf_al, g2, if_false])
    · exact absurd hn (by omega)
set_option maxRecDepth 100000 in
set_option maxHeartbeats 4000000 in
theorem m_aside {l : Launch} {D : va_G} {E : Nat → ClassId} {ad : Nat → Nat → Nat} {lv : Nat → Nat → Prop} {σ τ : sT} {N : Int} (h : OKm τ lv N) : jM l y_M_putAside c_M_putAside 3 (none) 1 D E ad lv (jv ad σ τ) [.ref (ad 10 0)] none (jv ad σ (mf_aside τ)) := by
  intro sz
  refine jC.of "InputRoomModel" (by decide +kernel) rfl rfl (Nat.le_of_ble_eq_true rfl) (by intro v hv; simp only [List.mem_cons, List.not_mem_nil, or_false] at hv; rcases hv with rfl <;> first | rfl | exact jrf_cat _) ?_
  intro p e s m below meth c C hK hret hlk hnm hsz hAz
  have hb10 : lv 10 0 := h.k (by decide) (by decide)
  have hb11 : lv 11 0 := h.k (by decide) (by decide)
  have hb12 : lv 12 0 := h.k (by decide) (by decide)
  have hb13 : lv 13 0 := h.k (by decide) (by decide)
  have hb14 : lv 14 0 := h.k (by decide) (by decide)
  have hb15 : lv 15 0 := h.k (by decide) (by decide)
  have hb16 : lv 16 0 := h.k (by decide) (by decide)
  have hb17 : lv 17 0 := h.k (by decide) (by decide)
  have hb18 : lv 18 0 := h.k (by decide) (by decide)
  have hb19 : lv 19 0 := h.k (by decide) (by decide)
  refine j_iconst (v := -1) C d_M_putAside_0 (by decide) ?_
  refine j_istore_n C d_M_putAside_1 rfl (by decide) ?_
  refine j_bipush (v := 8) C d_M_putAside_2 (by decide) ?_
  refine j_istore_n C d_M_putAside_4 rfl (by decide) ?_
  exact lp_maside h C hK hret hlk hAz 8 (-1) 8 (by decide) rfl (by decide) rfl
set_option maxRecDepth 100000 in
set_option maxHeartbeats 4000000 in
theorem m_sig {l : Launch} {D : va_G} {E : Nat → ClassId} {ad : Nat → Nat → Nat} {lv : Nat → Nat → Prop} {σ τ : sT} {N : Int} (h : OKm τ lv N) {a : Int32} (hs : vp_in a 16) : jM l y_M_signal0 c_M_signal0 3 (none) 2 D E ad lv (jv ad σ τ) [.ref (ad 10 0), .int (a)] none (jv ad σ (mf_sig τ a)) := by
  intro sz
  refine jC.of "InputRoomModel" (by decide +kernel) rfl rfl (Nat.le_of_ble_eq_true rfl) (by intro v hv; simp only [List.mem_cons, List.not_mem_nil, or_false] at hv; rcases hv with rfl | rfl <;> first | rfl | exact jrf_cat _) ?_
  intro p e s m below meth c C hK hret hlk hnm hsz hAz
  have hb10 : lv 10 0 := h.k (by decide) (by decide)
  have hb11 : lv 11 0 := h.k (by decide) (by decide)
  have hb12 : lv 12 0 := h.k (by decide) (by decide)
  have hb13 : lv 13 0 := h.k (by decide) (by decide)
  have hb14 : lv 14 0 := h.k (by decide) (by decide)
  have hb15 : lv 15 0 := h.k (by decide) (by decide)
  have hb16 : lv 16 0 := h.k (by decide) (by decide)
  have hb17 : lv 17 0 := h.k (by decide) (by decide)
  have hb18 : lv 18 0 := h.k (by decide) (by decide)
  have hb19 : lv 19 0 := h.k (by decide) (by decide)
  refine j_aload_n C d_M_signal0_0 rfl rfl ?_
  refine j_bipush (v := 16) C d_M_signal0_1 (by decide) ?_
  refine j_iload_n C d_M_signal0_3 rfl rfl ?_
  refine j_iadd C d_M_signal0_4 ?_
  refine j_callV C hK hAz 10 0 (m_first (t := 16 + a) h _) (jcV C mi_M_first t_458 t_460 t_19 rfl rfl ⟨by decide, by decide⟩) rfl rfl (by assumption) rfl rfl (Nat.le_of_ble_eq_true rfl) d_M_signal0_5 ⟨Nat.zero_le _, Nat.zero_le _⟩ ?_
  refine j_istore_n C d_M_signal0_8 rfl (by decide) ?_
  refine j_iload_n C d_M_signal0_9 rfl rfl ?_
  refine j_if_ge C 28 d_M_signal0_10 rfl (fun g1 => ?_) (fun g1 => ?_)
  ·
    refine j_aload_n C d_M_signal0_28 rfl rfl ?_
    refine tgC C hK 10 0 4 d_M_signal0_29 in_M rfl rfl (by decide) t_380 rfl rfl rfl (by assumption) ?_
    refine j_iload_n C d_M_signal0_32 rfl rfl ?_
    refine j_iconst (v := 0) C d_M_signal0_33 (by decide) ?_
    refine tia_st C hK 15 0 d_M_signal0_34 rfl (vin3 g1 (first_lt _ _)) rfl rfl (by assumption) ?_
    refine j_aload_n C d_M_signal0_35 rfl rfl ?_
    refine j_iload_n C d_M_signal0_36 rfl rfl ?_
    refine j_callV C hK hAz 10 0 (m_rouse (a := mf_first τ (16 + a)) (h.o (N := N) (by omega) (by omega)) (vin3 g1 (first_lt _ _)) _) (jcV C mi_M_rouse t_462 t_464 t_20 rfl rfl ⟨by decide, by decide⟩) rfl rfl (by assumption) rfl rfl (Nat.le_of_ble_eq_true rfl) d_M_signal0_37 ⟨Nat.zero_le _, Nat.zero_le _⟩ ?_
    refine j_vret C hret hlk d_M_signal0_40 rfl ?_ rfl rfl
    simp only [mf_sig, g1, if_true, if_false]
  ·
    refine j_aload_n C d_M_signal0_13 rfl rfl ?_
    refine tgC C hK 10 0 7 d_M_signal0_14 in_M rfl rfl (by decide) t_383 rfl rfl rfl (by assumption) ?_
    refine j_iload_n C d_M_signal0_17 rfl rfl ?_
    refine j_aload_n C d_M_signal0_18 rfl rfl ?_
    refine tgC C hK 10 0 7 d_M_signal0_19 in_M rfl rfl (by decide) t_383 rfl rfl rfl (by assumption) ?_
    refine j_iload_n C d_M_signal0_22 rfl rfl ?_
    refine tia C hK 17 0 d_M_signal0_23 rfl hs rfl rfl (by assumption) ?_
    refine j_iconst (v := 1) C d_M_signal0_24 (by decide) ?_
    refine j_iadd C d_M_signal0_25 ?_
    refine tia_st C hK 17 0 d_M_signal0_26 rfl hs rfl rfl (by assumption) ?_
    refine j_vret C hret hlk d_M_signal0_27 rfl ?_ rfl rfl
    simp only [mf_sig, g1, if_true, if_false]
set_option maxRecDepth 100000 in
set_option maxHeartbeats 4000000 in
theorem m_wait {l : Launch} {D : va_G} {E : Nat → ClassId} {ad : Nat → Nat → Nat} {lv : Nat → Nat → Prop} {σ τ : sT} {N : Int} (h : OKm τ lv N) {a : Int32} (hs : vp_in a 16) : jM l y_M_await0 c_M_await0 3 (none) 2 D E ad lv (jv ad σ τ) [.ref (ad 10 0), .int (a)] none (jv ad σ (mf_wait τ a)) := by
  intro sz
  refine jC.of "InputRoomModel" (by decide +kernel) rfl rfl (Nat.le_of_ble_eq_true rfl) (by intro v hv; simp only [List.mem_cons, List.not_mem_nil, or_false] at hv; rcases hv with rfl | rfl <;> first | rfl | exact jrf_cat _) ?_
  intro p e s m below meth c C hK hret hlk hnm hsz hAz
  have hb10 : lv 10 0 := h.k (by decide) (by decide)
  have hb11 : lv 11 0 := h.k (by decide) (by decide)
  have hb12 : lv 12 0 := h.k (by decide) (by decide)
  have hb13 : lv 13 0 := h.k (by decide) (by decide)
  have hb14 : lv 14 0 := h.k (by decide) (by decide)
  have hb15 : lv 15 0 := h.k (by decide) (by decide)
  have hb16 : lv 16 0 := h.k (by decide) (by decide)
  have hb17 : lv 17 0 := h.k (by decide) (by decide)
  have hb18 : lv 18 0 := h.k (by decide) (by decide)
  have hb19 : lv 19 0 := h.k (by decide) (by decide)
  refine j_aload_n C d_M_await0_0 rfl rfl ?_
  refine j_callV C hK hAz 10 0 (m_pres h _) (jcV C mi_M_present0 t_466 t_468 t_21 rfl rfl ⟨by decide, by decide⟩) rfl rfl (by assumption) rfl rfl (Nat.le_of_ble_eq_true rfl) d_M_await0_1 ⟨Nat.zero_le _, Nat.zero_le _⟩ ?_
  refine j_istore_n C d_M_await0_4 rfl (by decide) ?_
  refine j_iload_n C d_M_await0_5 rfl rfl ?_
  refine j_if_ge C 10 d_M_await0_6 rfl (fun g1 => ?_) (fun g1 => ?_)
  ·
    refine j_aload_n C d_M_await0_10 rfl rfl ?_
    refine tgC C hK 10 0 7 d_M_await0_11 in_M rfl rfl (by decide) t_383 rfl rfl rfl (by assumption) ?_
    refine j_iload_n C d_M_await0_14 rfl rfl ?_
    refine tia C hK 17 0 d_M_await0_15 rfl hs rfl rfl (by assumption) ?_
    refine j_if_le C 34 d_M_await0_16 rfl (fun g2 => ?_) (fun g2 => ?_)
    ·
      refine j_aload_n C d_M_await0_34 rfl rfl ?_
      refine j_iload_n C d_M_await0_35 rfl rfl ?_
      refine j_bipush (v := 16) C d_M_await0_36 (by decide) ?_
      refine j_iload_n C d_M_await0_38 rfl rfl ?_
      refine j_iadd C d_M_await0_39 ?_
      refine j_callV C hK hAz 10 0 (m_come (a := mf_pres τ) (t := (16 + a)) h (vin3 g1 (pres_lt h)) _) (jcV C mi_M_come t_470 t_472 t_22 rfl rfl ⟨by decide, by decide⟩) rfl rfl (by assumption) rfl rfl (Nat.le_of_ble_eq_true rfl) d_M_await0_40 ⟨Nat.zero_le _, Nat.zero_le _⟩ ?_
      refine j_aload_n C d_M_await0_43 rfl rfl ?_
      refine j_callV C hK hAz 10 0 (m_aside (N := N) (okm_come h) _) (jcV C mi_M_putAside t_486 t_488 t_26 rfl rfl ⟨by decide, by decide⟩) rfl rfl (by assumption) rfl rfl (Nat.le_of_ble_eq_true rfl) d_M_await0_44 ⟨Nat.zero_le _, Nat.zero_le _⟩ ?_
      refine j_vret C hret hlk d_M_await0_47 rfl ?_ rfl rfl
      simp only [mf_wait, g1, g2, if_true, if_false]
    ·
      refine j_aload_n C d_M_await0_19 rfl rfl ?_
      refine tgC C hK 10 0 7 d_M_await0_20 in_M rfl rfl (by decide) t_383 rfl rfl rfl (by assumption) ?_
      refine j_iload_n C d_M_await0_23 rfl rfl ?_
      refine j_aload_n C d_M_await0_24 rfl rfl ?_
      refine tgC C hK 10 0 7 d_M_await0_25 in_M rfl rfl (by decide) t_383 rfl rfl rfl (by assumption) ?_
      refine j_iload_n C d_M_await0_28 rfl rfl ?_
      refine tia C hK 17 0 d_M_await0_29 rfl hs rfl rfl (by assumption) ?_
      refine j_iconst (v := 1) C d_M_await0_30 (by decide) ?_
      refine j_isub C d_M_await0_31 ?_
      refine tia_st C hK 17 0 d_M_await0_32 rfl hs rfl rfl (by assumption) ?_
      refine j_vret C hret hlk d_M_await0_33 rfl ?_ rfl rfl
      simp only [mf_wait, g1, g2, if_true, if_false]
  ·
    refine j_vret C hret hlk d_M_await0_9 rfl ?_ rfl rfl
    simp only [mf_wait, g1, if_true, if_false]
set_option maxRecDepth 100000 in
set_option maxHeartbeats 4000000 in
theorem m_give {l : Launch} {D : va_G} {E : Nat → ClassId} {ad : Nat → Nat → Nat} {lv : Nat → Nat → Prop} {σ τ : sT} {N : Int} (h : OKm τ lv N) : jM l y_M_giveWay c_M_giveWay 2 (none) 2 D E ad lv (jv ad σ τ) [.ref (ad 10 0)] none (jv ad σ (mf_give τ)) := by
  intro sz
  refine jC.of "InputRoomModel" (by decide +kernel) rfl rfl (Nat.le_of_ble_eq_true rfl) (by intro v hv; simp only [List.mem_cons, List.not_mem_nil, or_false] at hv; rcases hv with rfl <;> first | rfl | exact jrf_cat _) ?_
  intro p e s m below meth c C hK hret hlk hnm hsz hAz
  have hb10 : lv 10 0 := h.k (by decide) (by decide)
  have hb11 : lv 11 0 := h.k (by decide) (by decide)
  have hb12 : lv 12 0 := h.k (by decide) (by decide)
  have hb13 : lv 13 0 := h.k (by decide) (by decide)
  have hb14 : lv 14 0 := h.k (by decide) (by decide)
  have hb15 : lv 15 0 := h.k (by decide) (by decide)
  have hb16 : lv 16 0 := h.k (by decide) (by decide)
  have hb17 : lv 17 0 := h.k (by decide) (by decide)
  have hb18 : lv 18 0 := h.k (by decide) (by decide)
  have hb19 : lv 19 0 := h.k (by decide) (by decide)
  refine j_aload_n C d_M_giveWay_0 rfl rfl ?_
  refine j_callV C hK hAz 10 0 (m_pres h _) (jcV C mi_M_present0 t_466 t_468 t_21 rfl rfl ⟨by decide, by decide⟩) rfl rfl (by assumption) rfl rfl (Nat.le_of_ble_eq_true rfl) d_M_giveWay_1 ⟨Nat.zero_le _, Nat.zero_le _⟩ ?_
  refine j_istore_n C d_M_giveWay_4 rfl (by decide) ?_
  refine j_iload_n C d_M_giveWay_5 rfl rfl ?_
  refine j_if_lt C 37 d_M_giveWay_6 rfl (fun g1 => ?_) (fun g1 => ?_)
  ·
    refine j_vret C hret hlk d_M_giveWay_37 rfl ?_ rfl rfl
    rw [mf_give, if_pos g1]
  ·
    refine j_aload_n C d_M_giveWay_9 rfl rfl ?_
    refine j_aload_n C d_M_giveWay_10 rfl rfl ?_
    refine tgC C hK 10 0 1 d_M_giveWay_11 in_M rfl rfl (by decide) t_377 rfl rfl rfl (by assumption) ?_
    refine j_iload_n C d_M_giveWay_14 rfl rfl ?_
    refine tia C hK 12 0 d_M_giveWay_15 rfl (vin2 g1 (pres_lt h)) rfl rfl (by assumption) ?_
    refine j_callV C hK hAz 10 0 (m_first (t := mf_pr τ (mf_pres τ)) h _) (jcV C mi_M_first t_458 t_460 t_19 rfl rfl ⟨by decide, by decide⟩) rfl rfl (by assumption) rfl rfl (Nat.le_of_ble_eq_true rfl) d_M_giveWay_16 ⟨Nat.zero_le _, Nat.zero_le _⟩ ?_
    refine j_if_lt C 37 d_M_giveWay_19 rfl (fun g2 => ?_) (fun g2 => ?_)
    ·
      refine j_vret C hret hlk d_M_giveWay_37 rfl ?_ rfl rfl
      rw [mf_give, if_neg g1, if_pos g2]
    ·
      refine j_aload_n C d_M_giveWay_22 rfl rfl ?_
      refine j_iload_n C d_M_giveWay_23 rfl rfl ?_
      refine j_aload_n C d_M_giveWay_24 rfl rfl ?_
      refine tgC C hK 10 0 1 d_M_giveWay_25 in_M rfl rfl (by decide) t_377 rfl rfl rfl (by assumption) ?_
      refine j_iload_n C d_M_giveWay_28 rfl rfl ?_
      refine tia C hK 12 0 d_M_giveWay_29 rfl (vin2 g1 (pres_lt h)) rfl rfl (by assumption) ?_
      refine j_callV C hK hAz 10 0 (m_come (a := mf_pres τ) (t := τ.1 12 0 (mf_pres τ).toNatClampNeg) h (vin2 g1 (pres_lt h)) _) (jcV C mi_M_come t_470 t_472 t_22 rfl rfl ⟨by decide, by decide⟩) rfl rfl (by assumption) rfl rfl (Nat.le_of_ble_eq_true rfl) d_M_giveWay_30 ⟨Nat.zero_le _, Nat.zero_le _⟩ ?_
      refine j_aload_n C d_M_giveWay_33 rfl rfl ?_
      refine j_callV C hK hAz 10 0 (m_aside (N := N) (okm_come h) _) (jcV C mi_M_putAside t_486 t_488 t_26 rfl rfl ⟨by decide, by decide⟩) rfl rfl (by assumption) rfl rfl (Nat.le_of_ble_eq_true rfl) d_M_giveWay_34 ⟨Nat.zero_le _, Nat.zero_le _⟩ ?_
      refine j_vret C hret hlk d_M_giveWay_37 rfl ?_ rfl rfl
      rw [mf_give, if_neg g1, if_neg g2]
      rfl
