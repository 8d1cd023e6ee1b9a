theorem sub7a {a b c d e f g : Option Value} (i : Nat) (v : Value) (h : ([a, b, c, d, e, f, none] : List (Option Value))[i]? = some (some v)) : ([a, b, c, d, e, f, g] : List (Option Value))[i]? = some (some v) := by
  match i, h with
  | 0, h => exact h
  | 1, h => exact h
  | 2, h => exact h
  | 3, h => exact h
  | 4, h => exact h
  | 5, h => exact h
  | 6, h => cases h
  | n + 7, h => cases h
theorem sub7b {a b c d e f g : Option Value} (i : Nat) (v : Value) (h : ([a, b, c, d, e, none, none] : List (Option Value))[i]? = some (some v)) : ([a, b, c, d, e, f, g] : List (Option Value))[i]? = some (some v) := by
  match i, h with
  | 0, h => exact h
  | 1, h => exact h
  | 2, h => exact h
  | 3, h => exact h
  | 4, h => exact h
  | 5, h => cases h
  | 6, h => cases h
  | n + 7, h => cases h
set_option maxRecDepth 100000 in
set_option maxHeartbeats 4000000 in
theorem lp_at1 {l : Launch} {D : va_G} {E : Nat → ClassId} {ad : Nat → Nat → Nat} {lv : Nat → Nat → Prop} {σ : sT} {τ : sT} {N : Int} (h : OKm τ lv N) {a t is0 : Int32} {R0 : Option Value} {k : Nat} (hki : vp_in (nI k) 32) {p : Program} {e : Env} {s : State} {m : MethodId} {below : List Frame} {meth : Method} {c : Code} {sz : Nat} (C : CallFix p m c c_M_at 7 s ([.ref (ad 10 0), .int (a), .int (t)] : List Value).toArray jT "InputRoomModel") (hK : jK D jcl jY E s) (hret : meth.sig.returnType = some .int) (hlk : meth.locks = false) (hAz : ∀ q, s.heap.size ≤ q → jA ad lv sz q) : ∀ (n q : Nat) (qi b : Int32), qi = nI q → q + n = 32 → JM l y_M_at c_M_at 7 (some .int) 0 D E ad lv p e s m below meth c sz [.ref (ad 10 0), .int (a), .int (t)] R0 (jv ad σ τ) (jv ad σ τ) 118 [some (.ref (ad 10 0)), some (.int (a)), some (.int (t)), some (.int (is0)), some (.int (nI k)), some (.int (mf_bl τ a k n q b)), none] [] → JM l y_M_at c_M_at 7 (some .int) 0 D E ad lv p e s m below meth c sz [.ref (ad 10 0), .int (a), .int (t)] R0 (jv ad σ τ) (jv ad σ τ) 55 [some (.ref (ad 10 0)), some (.int (a)), some (.int (t)), some (.int (is0)), some (.int (nI k)), some (.int (b)), some (.int (qi))] [] := by
  intro n
  induction n with
  | zero =>
    intro q qi b hq hn K
    have hq : qi = nI 32 := by rw [hq]; congr 1
    subst hq
    refine j_iload C d_M_at_55 rfl ?_
    refine j_bipush (v := 32) C d_M_at_57 (by decide) ?_
    refine j_icmp_ge C 118 d_M_at_59 rfl (fun _ => ?_) (fun g1 => absurd (by decide) g1)
    exact j_sub _ sub7a K
  | succ n ih =>
    intro q qi b hq hn K
    subst hq
    have hin : vp_in (nI q) 32 := vp_in_nI (by omega) (by decide)
    have hge : ¬ 32 ≤ nI q := nI_ge (a := q) (b := 32) (by omega) (by decide)
    have hb10 : lv 10 0 := h.k (by decide) (by decide)
    have hb11 : lv 11 0 := h.k (by decide) (by decide)
    have hb12 : lv 12 0 := h.k (by decide) (by decide)
    have hb13 : lv 13 0 := h.k (by decide) (by decide)
    have hb14 : lv 14 0 := h.k (by decide) (by decide)
    have hb15 : lv 15 0 := h.k (by decide) (by decide)
    have hb16 : lv 16 0 := h.k (by decide) (by decide)
    have hb17 : lv 17 0 := h.k (by decide) (by decide)
    have hb18 : lv 18 0 := h.k (by decide) (by decide)
    have hb19 : lv 19 0 := h.k (by decide) (by decide)
    refine j_iload C d_M_at_55 rfl ?_
    refine j_bipush (v := 32) C d_M_at_57 (by decide) ?_
    refine j_icmp_ge C 118 d_M_at_59 rfl (fun g1 => absurd g1 hge) (fun _ => ?_)
    refine j_aload_n C d_M_at_62 rfl rfl ?_
    refine tgC C hK 10 0 0 d_M_at_63 in_M rfl rfl (by decide) t_376 rfl rfl rfl (by assumption) ?_
    refine j_iload C d_M_at_66 rfl ?_
    refine tza C hK 11 0 d_M_at_68 rfl hin rfl rfl (by assumption) ?_
    refine j_if_eq C 108 d_M_at_69 rfl (fun g2 => ?_) (fun g2 => ?_)
    ·
      refine j_iload C d_M_at_108 rfl ?_
      refine j_istore C d_M_at_110 (by decide) ?_
      refine j_iinc C d_M_at_112 rfl (by decide) ?_
      refine j_goto C 55 d_M_at_115 rfl ?_
      have e1 : mf_bt τ a k q b = b := by simp only [mf_bt, g2, if_true, if_false]
      exact ih (q + 1) _ _ (i32_p1 q) (by omega) (by have K2 := K; rw [mf_bl, e1] at K2; exact K2)
    ·
      refine j_aload_n C d_M_at_72 rfl rfl ?_
      refine tgC C hK 10 0 4 d_M_at_73 in_M rfl rfl (by decide) t_380 rfl rfl rfl (by assumption) ?_
      refine j_iload C d_M_at_76 rfl ?_
      refine tia C hK 15 0 d_M_at_78 rfl hin rfl rfl (by assumption) ?_
      refine j_iload_n C d_M_at_79 rfl rfl ?_
      refine j_icmp_ne C 108 d_M_at_80 rfl (fun g3 => ?_) (fun g3 => ?_)
      ·
        refine j_iload C d_M_at_108 rfl ?_
        refine j_istore C d_M_at_110 (by decide) ?_
        refine j_iinc C d_M_at_112 rfl (by decide) ?_
        refine j_goto C 55 d_M_at_115 rfl ?_
        have e1 : mf_bt τ a k q b = b := by simp only [mf_bt, g2, g3, if_true, if_false]
        exact ih (q + 1) _ _ (i32_p1 q) (by omega) (by have K2 := K; rw [mf_bl, e1] at K2; exact K2)
      ·
        refine j_aload_n C d_M_at_83 rfl rfl ?_
        refine tgC C hK 10 0 5 d_M_at_84 in_M rfl rfl (by decide) t_381 rfl rfl rfl (by assumption) ?_
        refine j_iload C d_M_at_87 rfl ?_
        refine tla C hK 16 0 d_M_at_89 rfl hin rfl rfl (by assumption) ?_
        refine j_aload_n C d_M_at_90 rfl rfl ?_
        refine tgC C hK 10 0 5 d_M_at_91 in_M rfl rfl (by decide) t_381 rfl rfl rfl (by assumption) ?_
        refine j_iload C d_M_at_94 rfl ?_
        refine tla C hK 16 0 d_M_at_96 rfl hki rfl rfl (by assumption) ?_
        refine j_lcmp C d_M_at_97 ?_
        refine j_if_ge C 108 d_M_at_98 rfl (fun g4 => ?_) (fun g4 => ?_)
        ·
          refine j_iload C d_M_at_108 rfl ?_
          refine j_istore C d_M_at_110 (by decide) ?_
          refine j_iinc C d_M_at_112 rfl (by decide) ?_
          refine j_goto C 55 d_M_at_115 rfl ?_
          have e1 : mf_bt τ a k q b = b := by simp only [mf_bt, g2, g3, g4, if_true, if_false]
          exact ih (q + 1) _ _ (i32_p1 q) (by omega) (by have K2 := K; rw [mf_bl, e1] at K2; exact K2)
        ·
          refine j_iload C d_M_at_101 rfl ?_
          refine j_iconst (v := 1) C d_M_at_103 (by decide) ?_
          refine j_iadd C d_M_at_104 ?_
          refine j_goto C 110 d_M_at_105 rfl ?_
          refine j_istore C d_M_at_110 (by decide) ?_
          refine j_iinc C d_M_at_112 rfl (by decide) ?_
          refine j_goto C 55 d_M_at_115 rfl ?_
          have e1 : mf_bt τ a k q b = (b + 1) := by simp only [mf_bt, g2, g3, g4, if_true, if_false]
          exact ih (q + 1) _ _ (i32_p1 q) (by omega) (by have K2 := K; rw [mf_bl, e1] at K2; exact K2)
set_option maxRecDepth 100000 in
set_option maxHeartbeats 4000000 in
theorem lp_at2 {l : Launch} {D : va_G} {E : Nat → ClassId} {ad : Nat → Nat → Nat} {lv : Nat → Nat → Prop} {σ : sT} {τ : sT} {N : Int} (h : OKm τ lv N) {a t is0 : Int32} {R0 : Option Value} {p : Program} {e : Env} {s : State} {m : MethodId} {below : List Frame} {meth : Method} {c : Code} {sz : Nat} (C : CallFix p m c c_M_at 7 s ([.ref (ad 10 0), .int (a), .int (t)] : List Value).toArray jT "InputRoomModel") (hK : jK D jcl jY E s) (hret : meth.sig.returnType = some .int) (hlk : meth.locks = false) (hAz : ∀ q, s.heap.size ≤ q → jA ad lv sz q) : ∀ (n k : Nat) (ki : Int32), ki = nI k → k + n = 32 → R0 = some (.int (mf_at1 τ a t n k)) → JM l y_M_at c_M_at 7 (some .int) 0 D E ad lv p e s m below meth c sz [.ref (ad 10 0), .int (a), .int (t)] R0 (jv ad σ τ) (jv ad σ τ) 42 [some (.ref (ad 10 0)), some (.int (a)), some (.int (t)), some (.int (is0)), some (.int (ki)), none, none] [] := by
  intro n
  induction n with
  | zero =>
    intro k ki hq hn hR
    have hq : ki = nI 32 := by rw [hq]; congr 1
    subst hq
    refine j_iload C d_M_at_42 rfl ?_
    refine j_bipush (v := 32) C d_M_at_44 (by decide) ?_
    refine j_icmp_ge C 154 d_M_at_46 rfl (fun _ => ?_) (fun g1 => absurd (by decide) g1)
    refine j_iconst (v := -1) C d_M_at_154 (by decide) ?_
    refine j_iret C hret hlk d_M_at_155 ?_ ?_ rfl rfl
    · exact hR
    · rfl
  | succ n ih =>
    intro k ki hq hn hR
    subst hq
    have hki : vp_in (nI k) 32 := vp_in_nI (by omega) (by decide)
    have hge : ¬ 32 ≤ nI k := nI_ge (a := k) (b := 32) (by omega) (by decide)
    have hb10 : lv 10 0 := h.k (by decide) (by decide)
    have hb11 : lv 11 0 := h.k (by decide) (by decide)
    have hb12 : lv 12 0 := h.k (by decide) (by decide)
    have hb13 : lv 13 0 := h.k (by decide) (by decide)
    have hb14 : lv 14 0 := h.k (by decide) (by decide)
    have hb15 : lv 15 0 := h.k (by decide) (by decide)
    have hb16 : lv 16 0 := h.k (by decide) (by decide)
    have hb17 : lv 17 0 := h.k (by decide) (by decide)
    have hb18 : lv 18 0 := h.k (by decide) (by decide)
    have hb19 : lv 19 0 := h.k (by decide) (by decide)
    refine j_iload C d_M_at_42 rfl ?_
    refine j_bipush (v := 32) C d_M_at_44 (by decide) ?_
    refine j_icmp_ge C 154 d_M_at_46 rfl (fun g1 => absurd g1 hge) (fun _ => ?_)
    refine j_iconst (v := 0) C d_M_at_49 (by decide) ?_
    refine j_istore C d_M_at_50 (by decide) ?_
    refine j_iconst (v := 0) C d_M_at_52 (by decide) ?_
    refine j_istore C d_M_at_53 (by decide) ?_
    refine lp_at1 h hki C hK hret hlk hAz 32 0 0 0 rfl rfl ?_
    refine j_aload_n C d_M_at_118 rfl rfl ?_
    refine tgC C hK 10 0 0 d_M_at_119 in_M rfl rfl (by decide) t_376 rfl rfl rfl (by assumption) ?_
    refine j_iload C d_M_at_122 rfl ?_
    refine tza C hK 11 0 d_M_at_124 rfl hki rfl rfl (by assumption) ?_
    refine j_if_eq C 148 d_M_at_125 rfl (fun g2 => ?_) (fun g2 => ?_)
    ·
      refine j_iinc C d_M_at_148 rfl (by decide) ?_
      refine j_goto C 42 d_M_at_151 rfl ?_
      refine j_sub _ sub7b ?_
      exact ih (k + 1) _ (i32_p1 k) (by omega) (by rw [hR, mf_at1, if_pos g2])
    ·
      refine j_aload_n C d_M_at_128 rfl rfl ?_
      refine tgC C hK 10 0 4 d_M_at_129 in_M rfl rfl (by decide) t_380 rfl rfl rfl (by assumption) ?_
      refine j_iload C d_M_at_132 rfl ?_
      refine tia C hK 15 0 d_M_at_134 rfl hki rfl rfl (by assumption) ?_
      refine j_iload_n C d_M_at_135 rfl rfl ?_
      refine j_icmp_ne C 148 d_M_at_136 rfl (fun g3 => ?_) (fun g3 => ?_)
      ·
        refine j_iinc C d_M_at_148 rfl (by decide) ?_
        refine j_goto C 42 d_M_at_151 rfl ?_
        refine j_sub _ sub7b ?_
        exact ih (k + 1) _ (i32_p1 k) (by omega) (by rw [hR, mf_at1, if_neg g2, if_neg g3])
      ·
        refine j_iload C d_M_at_139 rfl ?_
        refine j_iload_n C d_M_at_141 rfl rfl ?_
        refine j_icmp_ne C 148 d_M_at_142 rfl (fun g4 => ?_) (fun g4 => ?_)
        ·
          refine j_iinc C d_M_at_148 rfl (by decide) ?_
          refine j_goto C 42 d_M_at_151 rfl ?_
          refine j_sub _ sub7b ?_
          exact ih (k + 1) _ (i32_p1 k) (by omega) (by rw [hR, mf_at1, if_neg g2, if_pos g3, if_neg g4])
        ·
          refine j_iload C d_M_at_145 rfl ?_
          refine j_iret C hret hlk d_M_at_147 ?_ ?_ rfl rfl
          · rw [hR, mf_at1, if_neg g2, if_pos g3, if_pos g4]
          · rfl
set_option maxRecDepth 100000 in
set_option maxHeartbeats 4000000 in
theorem m_at {l : Launch} {D : va_G} {E : Nat → ClassId} {ad : Nat → Nat → Nat} {lv : Nat → Nat → Prop} {σ τ : sT} {N : Int} (h : OKm τ lv N) {a t : Int32} : jM l y_M_at c_M_at 7 (some .int) 0 D E ad lv (jv ad σ τ) [.ref (ad 10 0), .int (a), .int (t)] (some (.int (d_at τ a t))) (jv ad σ τ) := by
  intro sz
  refine jC.of "InputRoomModel" (by decide +kernel) rfl rfl (Nat.le_of_ble_eq_true rfl) (by intro v hv; simp only [List.mem_cons, List.not_mem_nil, or_false] at hv; rcases hv with rfl | rfl | rfl <;> first | rfl | exact jrf_cat _) ?_
  intro p e s m below meth c C hK hret hlk hnm hsz hAz
  have hb10 : lv 10 0 := h.k (by decide) (by decide)
  have hb11 : lv 11 0 := h.k (by decide) (by decide)
  have hb12 : lv 12 0 := h.k (by decide) (by decide)
  have hb13 : lv 13 0 := h.k (by decide) (by decide)
  have hb14 : lv 14 0 := h.k (by decide) (by decide)
  have hb15 : lv 15 0 := h.k (by decide) (by decide)
  have hb16 : lv 16 0 := h.k (by decide) (by decide)
  have hb17 : lv 17 0 := h.k (by decide) (by decide)
  have hb18 : lv 18 0 := h.k (by decide) (by decide)
  have hb19 : lv 19 0 := h.k (by decide) (by decide)
  refine j_iload_n C d_M_at_0 rfl rfl ?_
  refine j_iconst (v := 1) C d_M_at_1 (by decide) ?_
  refine j_icmp_lt C 11 d_M_at_2 rfl (fun g1 => ?_) (fun g1 => ?_)
  ·
    refine j_iload_n C d_M_at_11 rfl rfl ?_
    refine j_bipush (v := 16) C d_M_at_12 (by decide) ?_
    refine j_icmp_lt C 27 d_M_at_14 rfl (fun g2 => ?_) (fun g2 => ?_)
    ·
      refine j_iconst (v := 0) C d_M_at_27 (by decide) ?_
      refine j_istore_n C d_M_at_28 rfl (by decide) ?_
      have hq : ¬ isRw a := by
        rintro (⟨z1, z2⟩ | ⟨z1, z2⟩)
        · exact z1 g1
        · exact z1 g2
      refine j_iload_n C d_M_at_29 rfl rfl ?_
      refine j_if_eq C 37 d_M_at_30 rfl (fun _ => ?_) (fun g3 => absurd rfl g3)
      refine j_iconst (v := -1) C d_M_at_37 (by decide) ?_
      refine j_iret C hret hlk d_M_at_38 ?_ ?_ rfl rfl
      · rw [d_at, if_neg hq]
      · rfl
    ·
      refine j_iload_n C d_M_at_17 rfl rfl ?_
      refine j_bipush (v := 31) C d_M_at_18 (by decide) ?_
      refine j_icmp_gt C 27 d_M_at_20 rfl (fun g4 => ?_) (fun g4 => ?_)
      ·
        refine j_iconst (v := 0) C d_M_at_27 (by decide) ?_
        refine j_istore_n C d_M_at_28 rfl (by decide) ?_
        have hq : ¬ isRw a := by
          rintro (⟨z1, z2⟩ | ⟨z1, z2⟩)
          · exact z1 g1
          · exact z2 g4
        refine j_iload_n C d_M_at_29 rfl rfl ?_
        refine j_if_eq C 37 d_M_at_30 rfl (fun _ => ?_) (fun g5 => absurd rfl g5)
        refine j_iconst (v := -1) C d_M_at_37 (by decide) ?_
        refine j_iret C hret hlk d_M_at_38 ?_ ?_ rfl rfl
        · rw [d_at, if_neg hq]
        · rfl
      ·
        refine j_iconst (v := 1) C d_M_at_23 (by decide) ?_
        refine j_goto C 28 d_M_at_24 rfl ?_
        refine j_istore_n C d_M_at_28 rfl (by decide) ?_
        have hq : isRw a := Or.inr ⟨g2, g4⟩
        refine j_iload_n C d_M_at_29 rfl rfl ?_
        refine j_if_eq C 37 d_M_at_30 rfl (fun g6 => absurd g6 (by decide)) (fun _ => ?_)
        refine j_iload_n C d_M_at_33 rfl rfl ?_
        refine j_if_ge C 39 d_M_at_34 rfl (fun g7 => ?_) (fun g7 => ?_)
        ·
          refine j_iconst (v := 0) C d_M_at_39 (by decide) ?_
          refine j_istore C d_M_at_40 (by decide) ?_
          exact lp_at2 h C hK hret hlk hAz 32 0 0 rfl rfl (by rw [d_at, if_pos hq, if_pos g7])
        ·
          refine j_iconst (v := -1) C d_M_at_37 (by decide) ?_
          refine j_iret C hret hlk d_M_at_38 ?_ ?_ rfl rfl
          · rw [d_at, if_pos hq, if_neg g7]
          · rfl
  ·
    refine j_iload_n C d_M_at_5 rfl rfl ?_
    refine j_bipush (v := 8) C d_M_at_6 (by decide) ?_
    refine j_icmp_le C 23 d_M_at_8 rfl (fun g8 => ?_) (fun g8 => ?_)
    ·
      refine j_iconst (v := 1) C d_M_at_23 (by decide) ?_
      refine j_goto C 28 d_M_at_24 rfl ?_
      refine j_istore_n C d_M_at_28 rfl (by decide) ?_
      have hq : isRw a := Or.inl ⟨g1, g8⟩
      refine j_iload_n C d_M_at_29 rfl rfl ?_
      refine j_if_eq C 37 d_M_at_30 rfl (fun g9 => absurd g9 (by decide)) (fun _ => ?_)
      refine j_iload_n C d_M_at_33 rfl rfl ?_
      refine j_if_ge C 39 d_M_at_34 rfl (fun g10 => ?_) (fun g10 => ?_)
      ·
        refine j_iconst (v := 0) C d_M_at_39 (by decide) ?_
        refine j_istore C d_M_at_40 (by decide) ?_
        exact lp_at2 h C hK hret hlk hAz 32 0 0 rfl rfl (by rw [d_at, if_pos hq, if_pos g10])
      ·
        refine j_iconst (v := -1) C d_M_at_37 (by decide) ?_
        refine j_iret C hret hlk d_M_at_38 ?_ ?_ rfl rfl
        · rw [d_at, if_pos hq, if_neg g10]
        · rfl
    ·
      refine j_iload_n C d_M_at_11 rfl rfl ?_
      refine j_bipush (v := 16) C d_M_at_12 (by decide) ?_
      refine j_icmp_lt C 27 d_M_at_14 rfl (fun g11 => ?_) (fun g11 => ?_)
      ·
        refine j_iconst (v := 0) C d_M_at_27 (by decide) ?_
        refine j_istore_n C d_M_at_28 rfl (by decide) ?_
        have hq : ¬ isRw a := by
          rintro (⟨z1, z2⟩ | ⟨z1, z2⟩)
          · exact g8 z2
          · exact z1 g11
        refine j_iload_n C d_M_at_29 rfl rfl ?_
        refine j_if_eq C 37 d_M_at_30 rfl (fun _ => ?_) (fun g12 => absurd rfl g12)
        refine j_iconst (v := -1) C d_M_at_37 (by decide) ?_
        refine j_iret C hret hlk d_M_at_38 ?_ ?_ rfl rfl
        · rw [d_at, if_neg hq]
        · rfl
      ·
        refine j_iload_n C d_M_at_17 rfl rfl ?_
        refine j_bipush (v := 31) C d_M_at_18 (by decide) ?_
        refine j_icmp_gt C 27 d_M_at_20 rfl (fun g13 => ?_) (fun g13 => ?_)
        ·
          refine j_iconst (v := 0) C d_M_at_27 (by decide) ?_
          refine j_istore_n C d_M_at_28 rfl (by decide) ?_
          have hq : ¬ isRw a := by
            rintro (⟨z1, z2⟩ | ⟨z1, z2⟩)
            · exact g8 z2
            · exact z2 g13
          refine j_iload_n C d_M_at_29 rfl rfl ?_
          refine j_if_eq C 37 d_M_at_30 rfl (fun _ => ?_) (fun g14 => absurd rfl g14)
          refine j_iconst (v := -1) C d_M_at_37 (by decide) ?_
          refine j_iret C hret hlk d_M_at_38 ?_ ?_ rfl rfl
          · rw [d_at, if_neg hq]
          · rfl
        ·
          refine j_iconst (v := 1) C d_M_at_23 (by decide) ?_
          refine j_goto C 28 d_M_at_24 rfl ?_
          refine j_istore_n C d_M_at_28 rfl (by decide) ?_
          have hq : isRw a := Or.inr ⟨g11, g13⟩
          refine j_iload_n C d_M_at_29 rfl rfl ?_
          refine j_if_eq C 37 d_M_at_30 rfl (fun g15 => absurd g15 (by decide)) (fun _ => ?_)
          refine j_iload_n C d_M_at_33 rfl rfl ?_
          refine j_if_ge C 39 d_M_at_34 rfl (fun g16 => ?_) (fun g16 => ?_)
          ·
            refine j_iconst (v := 0) C d_M_at_39 (by decide) ?_
            refine j_istore C d_M_at_40 (by decide) ?_
            exact lp_at2 h C hK hret hlk hAz 32 0 0 rfl rfl (by rw [d_at, if_pos hq, if_pos g16])
          ·
            refine j_iconst (v := -1) C d_M_at_37 (by decide) ?_
            refine j_iret C hret hlk d_M_at_38 ?_ ?_ rfl rfl
            · rw [d_at, if_pos hq, if_neg g16]
            · rfl
