theorem okm_post {τ : sT} {lv : Nat → Nat → Prop} {N : Int} (h : OKm τ lv N) {s : Int32} : OKm (mf_post τ s) lv N := (h.o (k := 19) (i := 0) (j := (τ.1 10 0 20).toNatClampNeg) (x := s) (by omega) (by omega)).o (by omega) (by omega)
theorem i32_inc {x : Int32} (h : x.toInt < 2147483647) : (x + 1).toInt = x.toInt + 1 := by
  have h1 := Int32.le_toInt x
  rw [Int32.toInt_add, show (1 : Int32).toInt = 1 from rfl]
  apply Int.bmod_eq_of_le <;> omega
theorem nI_ofInt {x : Int32} {n : Nat} (h : x.toInt = n) (hn : n < 2 ^ 31) : x = nI n := Int32.toInt_inj.mp (by rw [h, nI_toInt hn])
theorem toN {x : Int32} : x.toNatClampNeg = x.toInt.toNat := Int32.toNat_toInt x |>.symm
set_option maxRecDepth 100000 in
set_option maxHeartbeats 4000000 in
theorem lp_mdrop {l : Launch} {D : va_G} {E : Nat → ClassId} {ad : Nat → Nat → Nat} {lv : Nat → Nat → Prop} {σ : sT} {N : Int} {V1 : jVT} {p : Program} {e : Env} {s : State} {m : MethodId} {below : List Frame} {meth : Method} {c : Code} {sz : Nat} (C : CallFix p m c c_M_dropWord 2 s ([.ref (ad 10 0)] : List Value).toArray jT "InputRoomModel") (hK : jK D jcl jY E s) (hret : meth.sig.returnType = none) (hlk : meth.locks = false) (hAz : ∀ q, s.heap.size ≤ q → jA ad lv sz q) : ∀ (n : Nat) (τ1 : sT) (k : Nat) (i : Int32), OKm τ1 lv N → i = nI k → k + n ≤ 63 → (τ1.1 10 0 12).toInt = k + n → jv ad σ (mf_sh n k τ1) = V1 → JM l y_M_dropWord c_M_dropWord 2 (none) 0 D E ad lv p e s m below meth c sz [.ref (ad 10 0)] none (V1) (jv ad σ τ1) 19 [some (.ref (ad 10 0)), some (.int (i))] [] := by
  intro n
  induction n with
  | zero =>
    intro τ1 k i h1 hi hk hc hV
    subst hi
    have hge : τ1.1 10 0 12 ≤ nI k := by rw [i32_le, nI_toInt (by omega)]; omega
    have hb10 : lv 10 0 := h1.k (by decide) (by decide)
    refine j_iload_n C d_M_dropWord_19 rfl rfl ?_
    refine j_aload_n C d_M_dropWord_20 rfl rfl ?_
    refine tgI C hK 10 0 12 d_M_dropWord_21 in_M rfl rfl (by decide) t_388 rfl rfl rfl (by assumption) ?_
    refine j_icmp_ge C 47 d_M_dropWord_24 rfl (fun _ => ?_) (fun g1 => absurd hge g1)
    refine j_vret C hret hlk d_M_dropWord_47 rfl ?_ rfl rfl
    exact hV
  | succ n ih =>
    intro τ1 k i h1 hi hk hc hV
    subst hi
    have hge : ¬ τ1.1 10 0 12 ≤ nI k := by rw [i32_le, nI_toInt (by omega)]; omega
    have hb10 : lv 10 0 := h1.k (by decide) (by decide)
    have hb18 : lv 18 0 := h1.k (by decide) (by decide)
    refine j_iload_n C d_M_dropWord_19 rfl rfl ?_
    refine j_aload_n C d_M_dropWord_20 rfl rfl ?_
    refine tgI C hK 10 0 12 d_M_dropWord_21 in_M rfl rfl (by decide) t_388 rfl rfl rfl (by assumption) ?_
    refine j_icmp_ge C 47 d_M_dropWord_24 rfl (fun g1 => absurd g1 hge) (fun _ => ?_)
    refine j_aload_n C d_M_dropWord_27 rfl rfl ?_
    refine tgC C hK 10 0 11 d_M_dropWord_28 in_M rfl rfl (by decide) t_387 rfl rfl rfl (by assumption) ?_
    refine j_iload_n C d_M_dropWord_31 rfl rfl ?_
    refine j_aload_n C d_M_dropWord_32 rfl rfl ?_
    refine tgC C hK 10 0 11 d_M_dropWord_33 in_M rfl rfl (by decide) t_387 rfl rfl rfl (by assumption) ?_
    refine j_iload_n C d_M_dropWord_36 rfl rfl ?_
    refine j_iconst (v := 1) C d_M_dropWord_37 (by decide) ?_
    refine j_iadd C d_M_dropWord_38 ?_
    refine tia C hK 18 0 d_M_dropWord_39 rfl (by rw [nI_1]; exact vp_in_nI (by omega) (by decide)) rfl rfl (by assumption) ?_
    refine tia_st C hK 18 0 d_M_dropWord_40 rfl (vp_in_nI (by omega) (by decide)) rfl rfl (by assumption) ?_
    refine j_iinc C d_M_dropWord_41 rfl (by decide) ?_
    refine j_goto C 19 d_M_dropWord_44 rfl ?_
    exact ih (sI τ1 18 0 (nI k).toNatClampNeg (τ1.1 18 0 ((nI k + 1)).toNatClampNeg)) (k + 1) _ (h1.o (by omega) (by omega)) (i32_p1 k) (by omega) (by show (τ1.1 10 0 12).toInt = _; omega) hV
set_option maxRecDepth 100000 in
set_option maxHeartbeats 4000000 in
theorem m_drop {l : Launch} {D : va_G} {E : Nat → ClassId} {ad : Nat → Nat → Nat} {lv : Nat → Nat → Prop} {σ τ : sT} {N : Int} (h : OKm τ lv N) : jM l y_M_dropWord c_M_dropWord 2 (none) 0 D E ad lv (jv ad σ τ) [.ref (ad 10 0)] none (jv ad σ (mf_drop τ)) := by
  intro sz
  refine jC.of "InputRoomModel" (by decide +kernel) rfl rfl (Nat.le_of_ble_eq_true rfl) (by intro v hv; simp only [List.mem_cons, List.not_mem_nil, or_false] at hv; rcases hv with rfl <;> first | rfl | exact jrf_cat _) ?_
  intro p e s m below meth c C hK hret hlk hnm hsz hAz
  have hb10 : lv 10 0 := h.k (by decide) (by decide)
  have hb11 : lv 11 0 := h.k (by decide) (by decide)
  have hb12 : lv 12 0 := h.k (by decide) (by decide)
  have hb13 : lv 13 0 := h.k (by decide) (by decide)
  have hb14 : lv 14 0 := h.k (by decide) (by decide)
  have hb15 : lv 15 0 := h.k (by decide) (by decide)
  have hb16 : lv 16 0 := h.k (by decide) (by decide)
  have hb17 : lv 17 0 := h.k (by decide) (by decide)
  have hb18 : lv 18 0 := h.k (by decide) (by decide)
  have hb19 : lv 19 0 := h.k (by decide) (by decide)
  refine j_aload_n C d_M_dropWord_0 rfl rfl ?_
  refine tgI C hK 10 0 12 d_M_dropWord_1 in_M rfl rfl (by decide) t_388 rfl rfl rfl (by assumption) ?_
  refine j_if_le C 47 d_M_dropWord_4 rfl (fun g1 => ?_) (fun g1 => ?_)
  ·
    refine j_vret C hret hlk d_M_dropWord_47 rfl ?_ rfl rfl
    rw [mf_drop, if_pos g1]
  ·
    refine j_aload_n C d_M_dropWord_7 rfl rfl ?_
    refine j_aload_n C d_M_dropWord_8 rfl rfl ?_
    refine tgI C hK 10 0 12 d_M_dropWord_9 in_M rfl rfl (by decide) t_388 rfl rfl rfl (by assumption) ?_
    refine j_iconst (v := 1) C d_M_dropWord_12 (by decide) ?_
    refine j_isub C d_M_dropWord_13 ?_
    refine tpI C hK 10 0 12 ty_M tk_M nm_M d_M_dropWord_14 in_M rfl rfl (by decide) t_388 rfl rfl rfl rfl ((τ.1 10 0 12 - 1)) rfl rfl (by assumption) ?_
    refine j_iconst (v := 0) C d_M_dropWord_17 (by decide) ?_
    refine j_istore_n C d_M_dropWord_18 rfl (by decide) ?_
    have hc := h.2.2.2.2.2.1
    have q : 0 < (τ.1 10 0 12).toInt := by rw [i32_le, i32_0] at g1; omega
    have e1 := i32_dec q
    refine lp_mdrop C hK hret hlk hAz (τ.1 10 0 12 - 1).toNatClampNeg (sI τ 10 0 12 ((τ.1 10 0 12 - 1))) 0 0 (h.f12 (by omega)) rfl ?_ ?_ (by rw [mf_drop, if_neg g1])
    · rw [toN]; omega
    · show (τ.1 10 0 12 - 1).toInt = _; rw [toN]; omega
set_option maxRecDepth 100000 in
set_option maxHeartbeats 4000000 in
theorem m_act {l : Launch} {D : va_G} {E : Nat → ClassId} {ad : Nat → Nat → Nat} {lv : Nat → Nat → Prop} {σ τ : sT} {N : Int} (h : OKm τ lv N) {a : Int32} : jM l y_M_act c_M_act 2 (none) 3 D E ad lv (jv ad σ τ) [.ref (ad 10 0), .int (a)] none (jv ad σ (mf_act τ a)) := by
  intro sz
  refine jC.of "InputRoomModel" (by decide +kernel) rfl rfl (Nat.le_of_ble_eq_true rfl) (by intro v hv; simp only [List.mem_cons, List.not_mem_nil, or_false] at hv; rcases hv with rfl | rfl <;> first | rfl | exact jrf_cat _) ?_
  intro p e s m below meth c C hK hret hlk hnm hsz hAz
  have hb10 : lv 10 0 := h.k (by decide) (by decide)
  have hb11 : lv 11 0 := h.k (by decide) (by decide)
  have hb12 : lv 12 0 := h.k (by decide) (by decide)
  have hb13 : lv 13 0 := h.k (by decide) (by decide)
  have hb14 : lv 14 0 := h.k (by decide) (by decide)
  have hb15 : lv 15 0 := h.k (by decide) (by decide)
  have hb16 : lv 16 0 := h.k (by decide) (by decide)
  have hb17 : lv 17 0 := h.k (by decide) (by decide)
  have hb18 : lv 18 0 := h.k (by decide) (by decide)
  have hb19 : lv 19 0 := h.k (by decide) (by decide)
  refine j_iload_n C d_M_act_0 rfl rfl ?_
  refine j_bipush (v := 16) C d_M_act_1 (by decide) ?_
  refine j_icmp_lt C 23 d_M_act_3 rfl (fun g1 => ?_) (fun g1 => ?_)
  ·
    have r16 : ¬ (¬ a < 16 ∧ ¬ 32 ≤ a) := fun z => z.1 g1
    refine j_iload_n C d_M_act_23 rfl rfl ?_
    refine j_bipush (v := 32) C d_M_act_24 (by decide) ?_
    refine j_icmp_lt C 46 d_M_act_26 rfl (fun g2 => ?_) (fun g2 => ?_)
    ·
      have r32 : ¬ (¬ a < 32 ∧ ¬ 48 ≤ a) := fun z => z.1 g2
      refine j_iload_n C d_M_act_46 rfl rfl ?_
      refine j_bipush (v := 48) C d_M_act_47 (by decide) ?_
      refine j_icmp_ne C 59 d_M_act_49 rfl (fun g3 => ?_) (fun g3 => ?_)
      ·
        refine j_iload_n C d_M_act_59 rfl rfl ?_
        refine j_bipush (v := 49) C d_M_act_60 (by decide) ?_
        refine j_icmp_ne C 72 d_M_act_62 rfl (fun g4 => ?_) (fun g4 => ?_)
        ·
          refine j_iload_n C d_M_act_72 rfl rfl ?_
          refine j_bipush (v := 50) C d_M_act_73 (by decide) ?_
          refine j_icmp_ne C 86 d_M_act_75 rfl (fun g5 => ?_) (fun g5 => ?_)
          ·
            refine j_iload_n C d_M_act_86 rfl rfl ?_
            refine j_bipush (v := 64) C d_M_act_87 (by decide) ?_
            refine j_icmp_lt C 119 d_M_act_89 rfl (fun g6 => ?_) (fun g6 => ?_)
            ·
              have r64 : ¬ (¬ a < 64 ∧ ¬ 80 ≤ a) := fun z => z.1 g6
              refine j_iload_n C d_M_act_119 rfl rfl ?_
              refine j_bipush (v := 80) C d_M_act_120 (by decide) ?_
              refine j_icmp_lt C 139 d_M_act_122 rfl (fun g7 => ?_) (fun g7 => ?_)
              ·
                have r80 : ¬ (¬ a < 80 ∧ ¬ 96 ≤ a) := fun z => z.1 g7
                refine j_vret C hret hlk d_M_act_139 rfl ?_ rfl rfl
                unfold mf_act
                rw [if_neg r16, if_neg r32, if_neg g3, if_neg g4, if_neg g5, if_neg r64, if_neg r80]
              ·
                refine j_iload_n C d_M_act_125 rfl rfl ?_
                refine j_bipush (v := 96) C d_M_act_126 (by decide) ?_
                refine j_icmp_ge C 139 d_M_act_128 rfl (fun g8 => ?_) (fun g8 => ?_)
                ·
                  have r80 : ¬ (¬ a < 80 ∧ ¬ 96 ≤ a) := fun z => z.2 g8
                  refine j_vret C hret hlk d_M_act_139 rfl ?_ rfl rfl
                  unfold mf_act
                  rw [if_neg r16, if_neg r32, if_neg g3, if_neg g4, if_neg g5, if_neg r64, if_neg r80]
                ·
                  refine j_aload_n C d_M_act_131 rfl rfl ?_
                  refine j_iload_n C d_M_act_132 rfl rfl ?_
                  refine j_bipush (v := 80) C d_M_act_133 (by decide) ?_
                  refine j_isub C d_M_act_135 ?_
                  refine tpI C hK 10 0 14 ty_M tk_M nm_M d_M_act_136 in_M rfl rfl (by decide) t_390 rfl rfl rfl rfl ((a - 80)) rfl rfl (by assumption) ?_
                  refine j_vret C hret hlk d_M_act_139 rfl ?_ rfl rfl
                  unfold mf_act
                  rw [if_neg r16, if_neg r32, if_neg g3, if_neg g4, if_neg g5, if_neg r64, if_pos ⟨g7, g8⟩]
            ·
              refine j_iload_n C d_M_act_92 rfl rfl ?_
              refine j_bipush (v := 80) C d_M_act_93 (by decide) ?_
              refine j_icmp_ge C 119 d_M_act_95 rfl (fun g9 => ?_) (fun g9 => ?_)
              ·
                have r64 : ¬ (¬ a < 64 ∧ ¬ 80 ≤ a) := fun z => z.2 g9
                refine j_iload_n C d_M_act_119 rfl rfl ?_
                refine j_bipush (v := 80) C d_M_act_120 (by decide) ?_
                refine j_icmp_lt C 139 d_M_act_122 rfl (fun g10 => ?_) (fun g10 => ?_)
                ·
                  have r80 : ¬ (¬ a < 80 ∧ ¬ 96 ≤ a) := fun z => z.1 g10
                  refine j_vret C hret hlk d_M_act_139 rfl ?_ rfl rfl
                  unfold mf_act
                  rw [if_neg r16, if_neg r32, if_neg g3, if_neg g4, if_neg g5, if_neg r64, if_neg r80]
                ·
                  refine j_iload_n C d_M_act_125 rfl rfl ?_
                  refine j_bipush (v := 96) C d_M_act_126 (by decide) ?_
                  refine j_icmp_ge C 139 d_M_act_128 rfl (fun g11 => ?_) (fun g11 => ?_)
                  ·
                    have r80 : ¬ (¬ a < 80 ∧ ¬ 96 ≤ a) := fun z => z.2 g11
                    refine j_vret C hret hlk d_M_act_139 rfl ?_ rfl rfl
                    unfold mf_act
                    rw [if_neg r16, if_neg r32, if_neg g3, if_neg g4, if_neg g5, if_neg r64, if_neg r80]
                  ·
                    refine j_aload_n C d_M_act_131 rfl rfl ?_
                    refine j_iload_n C d_M_act_132 rfl rfl ?_
                    refine j_bipush (v := 80) C d_M_act_133 (by decide) ?_
                    refine j_isub C d_M_act_135 ?_
                    refine tpI C hK 10 0 14 ty_M tk_M nm_M d_M_act_136 in_M rfl rfl (by decide) t_390 rfl rfl rfl rfl ((a - 80)) rfl rfl (by assumption) ?_
                    refine j_vret C hret hlk d_M_act_139 rfl ?_ rfl rfl
                    unfold mf_act
                    rw [if_neg r16, if_neg r32, if_neg g3, if_neg g4, if_neg g5, if_neg r64, if_pos ⟨g10, g11⟩]
              ·
                refine j_aload_n C d_M_act_98 rfl rfl ?_
                refine j_iload_n C d_M_act_99 rfl rfl ?_
                refine j_bipush (v := 64) C d_M_act_100 (by decide) ?_
                refine j_isub C d_M_act_102 ?_
                refine tpI C hK 10 0 15 ty_M tk_M nm_M d_M_act_103 in_M rfl rfl (by decide) t_391 rfl rfl rfl rfl ((a - 64)) rfl rfl (by assumption) ?_
                refine j_aload_n C d_M_act_106 rfl rfl ?_
                refine j_aload_n C d_M_act_107 rfl rfl ?_
                refine tgI C hK 10 0 17 d_M_act_108 in_M rfl rfl (by decide) t_393 rfl rfl rfl (by assumption) ?_
                refine j_iconst (v := 3) C d_M_act_111 (by decide) ?_
                refine j_iadd C d_M_act_112 ?_
                refine tpI C hK 10 0 16 ty_M tk_M nm_M d_M_act_113 in_M rfl rfl (by decide) t_392 rfl rfl rfl rfl (((sI τ 10 0 15 ((a - 64))).1 10 0 17 + 3)) rfl rfl (by assumption) ?_
                refine j_goto C 139 d_M_act_116 rfl ?_
                refine j_vret C hret hlk d_M_act_139 rfl ?_ rfl rfl
                unfold mf_act
                rw [if_neg r16, if_neg r32, if_neg g3, if_neg g4, if_neg g5, if_pos ⟨g6, g9⟩]
          ·
            refine j_aload_n C d_M_act_78 rfl rfl ?_
            refine j_iconst (v := -1) C d_M_act_79 (by decide) ?_
            refine tpI C hK 10 0 14 ty_M tk_M nm_M d_M_act_80 in_M rfl rfl (by decide) t_390 rfl rfl rfl rfl (-1) rfl rfl (by assumption) ?_
            refine j_goto C 139 d_M_act_83 rfl ?_
            refine j_vret C hret hlk d_M_act_139 rfl ?_ rfl rfl
            unfold mf_act
            rw [if_neg r16, if_neg r32, if_neg g3, if_neg g4, if_pos g5]
        ·
          refine j_aload_n C d_M_act_65 rfl rfl ?_
          refine j_callV C hK hAz 10 0 (m_drop h _) (jcV C mi_M_dropWord t_494 t_496 t_28 rfl rfl ⟨by decide, by decide⟩) rfl rfl (by assumption) rfl rfl (Nat.le_of_ble_eq_true rfl) d_M_act_66 ⟨Nat.zero_le _, Nat.zero_le _⟩ ?_
          refine j_goto C 139 d_M_act_69 rfl ?_
          refine j_vret C hret hlk d_M_act_139 rfl ?_ rfl rfl
          unfold mf_act
          rw [if_neg r16, if_neg r32, if_neg g3, if_pos g4]
      ·
        refine j_aload_n C d_M_act_52 rfl rfl ?_
        refine j_callV C hK hAz 10 0 (m_give h _) (jcV C mi_M_giveWay t_490 t_492 t_27 rfl rfl ⟨by decide, by decide⟩) rfl rfl (by assumption) rfl rfl (Nat.le_of_ble_eq_true rfl) d_M_act_53 ⟨Nat.zero_le _, Nat.zero_le _⟩ ?_
        refine j_goto C 139 d_M_act_56 rfl ?_
        refine j_vret C hret hlk d_M_act_139 rfl ?_ rfl rfl
        unfold mf_act
        rw [if_neg r16, if_neg r32, if_pos g3]
    ·
      refine j_iload_n C d_M_act_29 rfl rfl ?_
      refine j_bipush (v := 48) C d_M_act_30 (by decide) ?_
      refine j_icmp_ge C 46 d_M_act_32 rfl (fun g12 => ?_) (fun g12 => ?_)
      ·
        have r32 : ¬ (¬ a < 32 ∧ ¬ 48 ≤ a) := fun z => z.2 g12
        refine j_iload_n C d_M_act_46 rfl rfl ?_
        refine j_bipush (v := 48) C d_M_act_47 (by decide) ?_
        refine j_icmp_ne C 59 d_M_act_49 rfl (fun g13 => ?_) (fun g13 => ?_)
        ·
          refine j_iload_n C d_M_act_59 rfl rfl ?_
          refine j_bipush (v := 49) C d_M_act_60 (by decide) ?_
          refine j_icmp_ne C 72 d_M_act_62 rfl (fun g14 => ?_) (fun g14 => ?_)
          ·
            refine j_iload_n C d_M_act_72 rfl rfl ?_
            refine j_bipush (v := 50) C d_M_act_73 (by decide) ?_
            refine j_icmp_ne C 86 d_M_act_75 rfl (fun g15 => ?_) (fun g15 => ?_)
            ·
              refine j_iload_n C d_M_act_86 rfl rfl ?_
              refine j_bipush (v := 64) C d_M_act_87 (by decide) ?_
              refine j_icmp_lt C 119 d_M_act_89 rfl (fun g16 => ?_) (fun g16 => ?_)
              ·
                have r64 : ¬ (¬ a < 64 ∧ ¬ 80 ≤ a) := fun z => z.1 g16
                refine j_iload_n C d_M_act_119 rfl rfl ?_
                refine j_bipush (v := 80) C d_M_act_120 (by decide) ?_
                refine j_icmp_lt C 139 d_M_act_122 rfl (fun g17 => ?_) (fun g17 => ?_)
                ·
                  have r80 : ¬ (¬ a < 80 ∧ ¬ 96 ≤ a) := fun z => z.1 g17
                  refine j_vret C hret hlk d_M_act_139 rfl ?_ rfl rfl
                  unfold mf_act
                  rw [if_neg r16, if_neg r32, if_neg g13, if_neg g14, if_neg g15, if_neg r64, if_neg r80]
                ·
                  refine j_iload_n C d_M_act_125 rfl rfl ?_
                  refine j_bipush (v := 96) C d_M_act_126 (by decide) ?_
                  refine j_icmp_ge C 139 d_M_act_128 rfl (fun g18 => ?_) (fun g18 => ?_)
                  ·
                    have r80 : ¬ (¬ a < 80 ∧ ¬ 96 ≤ a) := fun z => z.2 g18
                    refine j_vret C hret hlk d_M_act_139 rfl ?_ rfl rfl
                    unfold mf_act
                    rw [if_neg r16, if_neg r32, if_neg g13, if_neg g14, if_neg g15, if_neg r64, if_neg r80]
                  ·
                    refine j_aload_n C d_M_act_131 rfl rfl ?_
                    refine j_iload_n C d_M_act_132 rfl rfl ?_
                    refine j_bipush (v := 80) C d_M_act_133 (by decide) ?_
                    refine j_isub C d_M_act_135 ?_
                    refine tpI C hK 10 0 14 ty_M tk_M nm_M d_M_act_136 in_M rfl rfl (by decide) t_390 rfl rfl rfl rfl ((a - 80)) rfl rfl (by assumption) ?_
                    refine j_vret C hret hlk d_M_act_139 rfl ?_ rfl rfl
                    unfold mf_act
                    rw [if_neg r16, if_neg r32, if_neg g13, if_neg g14, if_neg g15, if_neg r64, if_pos ⟨g17, g18⟩]
              ·
                refine j_iload_n C d_M_act_92 rfl rfl ?_
                refine j_bipush (v := 80) C d_M_act_93 (by decide) ?_
                refine j_icmp_ge C 119 d_M_act_95 rfl (fun g19 => ?_) (fun g19 => ?_)
                ·
                  have r64 : ¬ (¬ a < 64 ∧ ¬ 80 ≤ a) := fun z => z.2 g19
                  refine j_iload_n C d_M_act_119 rfl rfl ?_
                  refine j_bipush (v := 80) C d_M_act_120 (by decide) ?_
                  refine j_icmp_lt C 139 d_M_act_122 rfl (fun g20 => ?_) (fun g20 => ?_)
                  ·
                    have r80 : ¬ (¬ a < 80 ∧ ¬ 96 ≤ a) := fun z => z.1 g20
                    refine j_vret C hret hlk d_M_act_139 rfl ?_ rfl rfl
                    unfold mf_act
                    rw [if_neg r16, if_neg r32, if_neg g13, if_neg g14, if_neg g15, if_neg r64, if_neg r80]
                  ·
                    refine j_iload_n C d_M_act_125 rfl rfl ?_
                    refine j_bipush (v := 96) C d_M_act_126 (by decide) ?_
                    refine j_icmp_ge C 139 d_M_act_128 rfl (fun g21 => ?_) (fun g21 => ?_)
                    ·
                      have r80 : ¬ (¬ a < 80 ∧ ¬ 96 ≤ a) := fun z => z.2 g21
                      refine j_vret C hret hlk d_M_act_139 rfl ?_ rfl rfl
                      unfold mf_act
                      rw [if_neg r16, if_neg r32, if_neg g13, if_neg g14, if_neg g15, if_neg r64, if_neg r80]
                    ·
                      refine j_aload_n C d_M_act_131 rfl rfl ?_
                      refine j_iload_n C d_M_act_132 rfl rfl ?_
                      refine j_bipush (v := 80) C d_M_act_133 (by decide) ?_
                      refine j_isub C d_M_act_135 ?_
                      refine tpI C hK 10 0 14 ty_M tk_M nm_M d_M_act_136 in_M rfl rfl (by decide) t_390 rfl rfl rfl rfl ((a - 80)) rfl rfl (by assumption) ?_
                      refine j_vret C hret hlk d_M_act_139 rfl ?_ rfl rfl
                      unfold mf_act
                      rw [if_neg r16, if_neg r32, if_neg g13, if_neg g14, if_neg g15, if_neg r64, if_pos ⟨g20, g21⟩]
                ·
                  refine j_aload_n C d_M_act_98 rfl rfl ?_
                  refine j_iload_n C d_M_act_99 rfl rfl ?_
                  refine j_bipush (v := 64) C d_M_act_100 (by decide) ?_
                  refine j_isub C d_M_act_102 ?_
                  refine tpI C hK 10 0 15 ty_M tk_M nm_M d_M_act_103 in_M rfl rfl (by decide) t_391 rfl rfl rfl rfl ((a - 64)) rfl rfl (by assumption) ?_
                  refine j_aload_n C d_M_act_106 rfl rfl ?_
                  refine j_aload_n C d_M_act_107 rfl rfl ?_
                  refine tgI C hK 10 0 17 d_M_act_108 in_M rfl rfl (by decide) t_393 rfl rfl rfl (by assumption) ?_
                  refine j_iconst (v := 3) C d_M_act_111 (by decide) ?_
                  refine j_iadd C d_M_act_112 ?_
                  refine tpI C hK 10 0 16 ty_M tk_M nm_M d_M_act_113 in_M rfl rfl (by decide) t_392 rfl rfl rfl rfl (((sI τ 10 0 15 ((a - 64))).1 10 0 17 + 3)) rfl rfl (by assumption) ?_
                  refine j_goto C 139 d_M_act_116 rfl ?_
                  refine j_vret C hret hlk d_M_act_139 rfl ?_ rfl rfl
                  unfold mf_act
                  rw [if_neg r16, if_neg r32, if_neg g13, if_neg g14, if_neg g15, if_pos ⟨g16, g19⟩]
            ·
              refine j_aload_n C d_M_act_78 rfl rfl ?_
              refine j_iconst (v := -1) C d_M_act_79 (by decide) ?_
              refine tpI C hK 10 0 14 ty_M tk_M nm_M d_M_act_80 in_M rfl rfl (by decide) t_390 rfl rfl rfl rfl (-1) rfl rfl (by assumption) ?_
              refine j_goto C 139 d_M_act_83 rfl ?_
              refine j_vret C hret hlk d_M_act_139 rfl ?_ rfl rfl
              unfold mf_act
              rw [if_neg r16, if_neg r32, if_neg g13, if_neg g14, if_pos g15]
          ·
            refine j_aload_n C d_M_act_65 rfl rfl ?_
            refine j_callV C hK hAz 10 0 (m_drop h _) (jcV C mi_M_dropWord t_494 t_496 t_28 rfl rfl ⟨by decide, by decide⟩) rfl rfl (by assumption) rfl rfl (Nat.le_of_ble_eq_true rfl) d_M_act_66 ⟨Nat.zero_le _, Nat.zero_le _⟩ ?_
            refine j_goto C 139 d_M_act_69 rfl ?_
            refine j_vret C hret hlk d_M_act_139 rfl ?_ rfl rfl
            unfold mf_act
            rw [if_neg r16, if_neg r32, if_neg g13, if_pos g14]
        ·
          refine j_aload_n C d_M_act_52 rfl rfl ?_
          refine j_callV C hK hAz 10 0 (m_give h _) (jcV C mi_M_giveWay t_490 t_492 t_27 rfl rfl ⟨by decide, by decide⟩) rfl rfl (by assumption) rfl rfl (Nat.le_of_ble_eq_true rfl) d_M_act_53 ⟨Nat.zero_le _, Nat.zero_le _⟩ ?_
          refine j_goto C 139 d_M_act_56 rfl ?_
          refine j_vret C hret hlk d_M_act_139 rfl ?_ rfl rfl
          unfold mf_act
          rw [if_neg r16, if_neg r32, if_pos g13]
      ·
        refine j_aload_n C d_M_act_35 rfl rfl ?_
        refine j_iload_n C d_M_act_36 rfl rfl ?_
        refine j_bipush (v := 32) C d_M_act_37 (by decide) ?_
        refine j_isub C d_M_act_39 ?_
        refine j_callV C hK hAz 10 0 (m_sig (a := a - 32) h (rng_in g2 g12 (by decide) rfl) _) (jcV C mi_M_signal0 t_454 t_456 t_18 rfl rfl ⟨by decide, by decide⟩) rfl rfl (by assumption) rfl rfl (Nat.le_of_ble_eq_true rfl) d_M_act_40 ⟨Nat.zero_le _, Nat.zero_le _⟩ ?_
        refine j_goto C 139 d_M_act_43 rfl ?_
        refine j_vret C hret hlk d_M_act_139 rfl ?_ rfl rfl
        unfold mf_act
        rw [if_neg r16, if_pos ⟨g2, g12⟩]
  ·
    refine j_iload_n C d_M_act_6 rfl rfl ?_
    refine j_bipush (v := 32) C d_M_act_7 (by decide) ?_
    refine j_icmp_ge C 23 d_M_act_9 rfl (fun g22 => ?_) (fun g22 => ?_)
    ·
      have r16 : ¬ (¬ a < 16 ∧ ¬ 32 ≤ a) := fun z => z.2 g22
      refine j_iload_n C d_M_act_23 rfl rfl ?_
      refine j_bipush (v := 32) C d_M_act_24 (by decide) ?_
      refine j_icmp_lt C 46 d_M_act_26 rfl (fun g23 => ?_) (fun g23 => ?_)
      ·
        have r32 : ¬ (¬ a < 32 ∧ ¬ 48 ≤ a) := fun z => z.1 g23
        refine j_iload_n C d_M_act_46 rfl rfl ?_
        refine j_bipush (v := 48) C d_M_act_47 (by decide) ?_
        refine j_icmp_ne C 59 d_M_act_49 rfl (fun g24 => ?_) (fun g24 => ?_)
        ·
          refine j_iload_n C d_M_act_59 rfl rfl ?_
          refine j_bipush (v := 49) C d_M_act_60 (by decide) ?_
          refine j_icmp_ne C 72 d_M_act_62 rfl (fun g25 => ?_) (fun g25 => ?_)
          ·
            refine j_iload_n C d_M_act_72 rfl rfl ?_
            refine j_bipush (v := 50) C d_M_act_73 (by decide) ?_
            refine j_icmp_ne C 86 d_M_act_75 rfl (fun g26 => ?_) (fun g26 => ?_)
            ·
              refine j_iload_n C d_M_act_86 rfl rfl ?_
              refine j_bipush (v := 64) C d_M_act_87 (by decide) ?_
              refine j_icmp_lt C 119 d_M_act_89 rfl (fun g27 => ?_) (fun g27 => ?_)
              ·
                have r64 : ¬ (¬ a < 64 ∧ ¬ 80 ≤ a) := fun z => z.1 g27
                refine j_iload_n C d_M_act_119 rfl rfl ?_
                refine j_bipush (v := 80) C d_M_act_120 (by decide) ?_
                refine j_icmp_lt C 139 d_M_act_122 rfl (fun g28 => ?_) (fun g28 => ?_)
                ·
                  have r80 : ¬ (¬ a < 80 ∧ ¬ 96 ≤ a) := fun z => z.1 g28
                  refine j_vret C hret hlk d_M_act_139 rfl ?_ rfl rfl
                  unfold mf_act
                  rw [if_neg r16, if_neg r32, if_neg g24, if_neg g25, if_neg g26, if_neg r64, if_neg r80]
                ·
                  refine j_iload_n C d_M_act_125 rfl rfl ?_
                  refine j_bipush (v := 96) C d_M_act_126 (by decide) ?_
                  refine j_icmp_ge C 139 d_M_act_128 rfl (fun g29 => ?_) (fun g29 => ?_)
                  ·
                    have r80 : ¬ (¬ a < 80 ∧ ¬ 96 ≤ a) := fun z => z.2 g29
                    refine j_vret C hret hlk d_M_act_139 rfl ?_ rfl rfl
                    unfold mf_act
                    rw [if_neg r16, if_neg r32, if_neg g24, if_neg g25, if_neg g26, if_neg r64, if_neg r80]
                  ·
                    refine j_aload_n C d_M_act_131 rfl rfl ?_
                    refine j_iload_n C d_M_act_132 rfl rfl ?_
                    refine j_bipush (v := 80) C d_M_act_133 (by decide) ?_
                    refine j_isub C d_M_act_135 ?_
                    refine tpI C hK 10 0 14 ty_M tk_M nm_M d_M_act_136 in_M rfl rfl (by decide) t_390 rfl rfl rfl rfl ((a - 80)) rfl rfl (by assumption) ?_
                    refine j_vret C hret hlk d_M_act_139 rfl ?_ rfl rfl
                    unfold mf_act
                    rw [if_neg r16, if_neg r32, if_neg g24, if_neg g25, if_neg g26, if_neg r64, if_pos ⟨g28, g29⟩]
              ·
                refine j_iload_n C d_M_act_92 rfl rfl ?_
                refine j_bipush (v := 80) C d_M_act_93 (by decide) ?_
                refine j_icmp_ge C 119 d_M_act_95 rfl (fun g30 => ?_) (fun g30 => ?_)
                ·
                  have r64 : ¬ (¬ a < 64 ∧ ¬ 80 ≤ a) := fun z => z.2 g30
                  refine j_iload_n C d_M_act_119 rfl rfl ?_
                  refine j_bipush (v := 80) C d_M_act_120 (by decide) ?_
                  refine j_icmp_lt C 139 d_M_act_122 rfl (fun g31 => ?_) (fun g31 => ?_)
                  ·
                    have r80 : ¬ (¬ a < 80 ∧ ¬ 96 ≤ a) := fun z => z.1 g31
                    refine j_vret C hret hlk d_M_act_139 rfl ?_ rfl rfl
                    unfold mf_act
                    rw [if_neg r16, if_neg r32, if_neg g24, if_neg g25, if_neg g26, if_neg r64, if_neg r80]
                  ·
                    refine j_iload_n C d_M_act_125 rfl rfl ?_
                    refine j_bipush (v := 96) C d_M_act_126 (by decide) ?_
                    refine j_icmp_ge C 139 d_M_act_128 rfl (fun g32 => ?_) (fun g32 => ?_)
                    ·
                      have r80 : ¬ (¬ a < 80 ∧ ¬ 96 ≤ a) := fun z => z.2 g32
                      refine j_vret C hret hlk d_M_act_139 rfl ?_ rfl rfl
                      unfold mf_act
                      rw [if_neg r16, if_neg r32, if_neg g24, if_neg g25, if_neg g26, if_neg r64, if_neg r80]
                    ·
                      refine j_aload_n C d_M_act_131 rfl rfl ?_
                      refine j_iload_n C d_M_act_132 rfl rfl ?_
                      refine j_bipush (v := 80) C d_M_act_133 (by decide) ?_
                      refine j_isub C d_M_act_135 ?_
                      refine tpI C hK 10 0 14 ty_M tk_M nm_M d_M_act_136 in_M rfl rfl (by decide) t_390 rfl rfl rfl rfl ((a - 80)) rfl rfl (by assumption) ?_
                      refine j_vret C hret hlk d_M_act_139 rfl ?_ rfl rfl
                      unfold mf_act
                      rw [if_neg r16, if_neg r32, if_neg g24, if_neg g25, if_neg g26, if_neg r64, if_pos ⟨g31, g32⟩]
                ·
                  refine j_aload_n C d_M_act_98 rfl rfl ?_
                  refine j_iload_n C d_M_act_99 rfl rfl ?_
                  refine j_bipush (v := 64) C d_M_act_100 (by decide) ?_
                  refine j_isub C d_M_act_102 ?_
                  refine tpI C hK 10 0 15 ty_M tk_M nm_M d_M_act_103 in_M rfl rfl (by decide) t_391 rfl rfl rfl rfl ((a - 64)) rfl rfl (by assumption) ?_
                  refine j_aload_n C d_M_act_106 rfl rfl ?_
                  refine j_aload_n C d_M_act_107 rfl rfl ?_
                  refine tgI C hK 10 0 17 d_M_act_108 in_M rfl rfl (by decide) t_393 rfl rfl rfl (by assumption) ?_
                  refine j_iconst (v := 3) C d_M_act_111 (by decide) ?_
                  refine j_iadd C d_M_act_112 ?_
                  refine tpI C hK 10 0 16 ty_M tk_M nm_M d_M_act_113 in_M rfl rfl (by decide) t_392 rfl rfl rfl rfl (((sI τ 10 0 15 ((a - 64))).1 10 0 17 + 3)) rfl rfl (by assumption) ?_
                  refine j_goto C 139 d_M_act_116 rfl ?_
                  refine j_vret C hret hlk d_M_act_139 rfl ?_ rfl rfl
                  unfold mf_act
                  rw [if_neg r16, if_neg r32, if_neg g24, if_neg g25, if_neg g26, if_pos ⟨g27, g30⟩]
            ·
              refine j_aload_n C d_M_act_78 rfl rfl ?_
              refine j_iconst (v := -1) C d_M_act_79 (by decide) ?_
              refine tpI C hK 10 0 14 ty_M tk_M nm_M d_M_act_80 in_M rfl rfl (by decide) t_390 rfl rfl rfl rfl (-1) rfl rfl (by assumption) ?_
              refine j_goto C 139 d_M_act_83 rfl ?_
              refine j_vret C hret hlk d_M_act_139 rfl ?_ rfl rfl
              unfold mf_act
              rw [if_neg r16, if_neg r32, if_neg g24, if_neg g25, if_pos g26]
          ·
            refine j_aload_n C d_M_act_65 rfl rfl ?_
            refine j_callV C hK hAz 10 0 (m_drop h _) (jcV C mi_M_dropWord t_494 t_496 t_28 rfl rfl ⟨by decide, by decide⟩) rfl rfl (by assumption) rfl rfl (Nat.le_of_ble_eq_true rfl) d_M_act_66 ⟨Nat.zero_le _, Nat.zero_le _⟩ ?_
            refine j_goto C 139 d_M_act_69 rfl ?_
            refine j_vret C hret hlk d_M_act_139 rfl ?_ rfl rfl
            unfold mf_act
            rw [if_neg r16, if_neg r32, if_neg g24, if_pos g25]
        ·
          refine j_aload_n C d_M_act_52 rfl rfl ?_
          refine j_callV C hK hAz 10 0 (m_give h _) (jcV C mi_M_giveWay t_490 t_492 t_27 rfl rfl ⟨by decide, by decide⟩) rfl rfl (by assumption) rfl rfl (Nat.le_of_ble_eq_true rfl) d_M_act_53 ⟨Nat.zero_le _, Nat.zero_le _⟩ ?_
          refine j_goto C 139 d_M_act_56 rfl ?_
          refine j_vret C hret hlk d_M_act_139 rfl ?_ rfl rfl
          unfold mf_act
          rw [if_neg r16, if_neg r32, if_pos g24]
      ·
        refine j_iload_n C d_M_act_29 rfl rfl ?_
        refine j_bipush (v := 48) C d_M_act_30 (by decide) ?_
        refine j_icmp_ge C 46 d_M_act_32 rfl (fun g33 => ?_) (fun g33 => ?_)
        ·
          have r32 : ¬ (¬ a < 32 ∧ ¬ 48 ≤ a) := fun z => z.2 g33
          refine j_iload_n C d_M_act_46 rfl rfl ?_
          refine j_bipush (v := 48) C d_M_act_47 (by decide) ?_
          refine j_icmp_ne C 59 d_M_act_49 rfl (fun g34 => ?_) (fun g34 => ?_)
          ·
            refine j_iload_n C d_M_act_59 rfl rfl ?_
            refine j_bipush (v := 49) C d_M_act_60 (by decide) ?_
            refine j_icmp_ne C 72 d_M_act_62 rfl (fun g35 => ?_) (fun g35 => ?_)
            ·
              refine j_iload_n C d_M_act_72 rfl rfl ?_
              refine j_bipush (v := 50) C d_M_act_73 (by decide) ?_
              refine j_icmp_ne C 86 d_M_act_75 rfl (fun g36 => ?_) (fun g36 => ?_)
              ·
                refine j_iload_n C d_M_act_86 rfl rfl ?_
                refine j_bipush (v := 64) C d_M_act_87 (by decide) ?_
                refine j_icmp_lt C 119 d_M_act_89 rfl (fun g37 => ?_) (fun g37 => ?_)
                ·
                  have r64 : ¬ (¬ a < 64 ∧ ¬ 80 ≤ a) := fun z => z.1 g37
                  refine j_iload_n C d_M_act_119 rfl rfl ?_
                  refine j_bipush (v := 80) C d_M_act_120 (by decide) ?_
                  refine j_icmp_lt C 139 d_M_act_122 rfl (fun g38 => ?_) (fun g38 => ?_)
                  ·
                    have r80 : ¬ (¬ a < 80 ∧ ¬ 96 ≤ a) := fun z => z.1 g38
                    refine j_vret C hret hlk d_M_act_139 rfl ?_ rfl rfl
                    unfold mf_act
                    rw [if_neg r16, if_neg r32, if_neg g34, if_neg g35, if_neg g36, if_neg r64, if_neg r80]
                  ·
                    refine j_iload_n C d_M_act_125 rfl rfl ?_
                    refine j_bipush (v := 96) C d_M_act_126 (by decide) ?_
                    refine j_icmp_ge C 139 d_M_act_128 rfl (fun g39 => ?_) (fun g39 => ?_)
                    ·
                      have r80 : ¬ (¬ a < 80 ∧ ¬ 96 ≤ a) := fun z => z.2 g39
                      refine j_vret C hret hlk d_M_act_139 rfl ?_ rfl rfl
                      unfold mf_act
                      rw [if_neg r16, if_neg r32, if_neg g34, if_neg g35, if_neg g36, if_neg r64, if_neg r80]
                    ·
                      refine j_aload_n C d_M_act_131 rfl rfl ?_
                      refine j_iload_n C d_M_act_132 rfl rfl ?_
                      refine j_bipush (v := 80) C d_M_act_133 (by decide) ?_
                      refine j_isub C d_M_act_135 ?_
                      refine tpI C hK 10 0 14 ty_M tk_M nm_M d_M_act_136 in_M rfl rfl (by decide) t_390 rfl rfl rfl rfl ((a - 80)) rfl rfl (by assumption) ?_
                      refine j_vret C hret hlk d_M_act_139 rfl ?_ rfl rfl
                      unfold mf_act
                      rw [if_neg r16, if_neg r32, if_neg g34, if_neg g35, if_neg g36, if_neg r64, if_pos ⟨g38, g39⟩]
                ·
                  refine j_iload_n C d_M_act_92 rfl rfl ?_
                  refine j_bipush (v := 80) C d_M_act_93 (by decide) ?_
                  refine j_icmp_ge C 119 d_M_act_95 rfl (fun g40 => ?_) (fun g40 => ?_)
                  ·
                    have r64 : ¬ (¬ a < 64 ∧ ¬ 80 ≤ a) := fun z => z.2 g40
                    refine j_iload_n C d_M_act_119 rfl rfl ?_
                    refine j_bipush (v := 80) C d_M_act_120 (by decide) ?_
                    refine j_icmp_lt C 139 d_M_act_122 rfl (fun g41 => ?_) (fun g41 => ?_)
                    ·
                      have r80 : ¬ (¬ a < 80 ∧ ¬ 96 ≤ a) := fun z => z.1 g41
                      refine j_vret C hret hlk d_M_act_139 rfl ?_ rfl rfl
                      unfold mf_act
                      rw [if_neg r16, if_neg r32, if_neg g34, if_neg g35, if_neg g36, if_neg r64, if_neg r80]
                    ·
                      refine j_iload_n C d_M_act_125 rfl rfl ?_
                      refine j_bipush (v := 96) C d_M_act_126 (by decide) ?_
                      refine j_icmp_ge C 139 d_M_act_128 rfl (fun g42 => ?_) (fun g42 => ?_)
                      ·
                        have r80 : ¬ (¬ a < 80 ∧ ¬ 96 ≤ a) := fun z => z.2 g42
                        refine j_vret C hret hlk d_M_act_139 rfl ?_ rfl rfl
                        unfold mf_act
                        rw [if_neg r16, if_neg r32, if_neg g34, if_neg g35, if_neg g36, if_neg r64, if_neg r80]
                      ·
                        refine j_aload_n C d_M_act_131 rfl rfl ?_
                        refine j_iload_n C d_M_act_132 rfl rfl ?_
                        refine j_bipush (v := 80) C d_M_act_133 (by decide) ?_
                        refine j_isub C d_M_act_135 ?_
                        refine tpI C hK 10 0 14 ty_M tk_M nm_M d_M_act_136 in_M rfl rfl (by decide) t_390 rfl rfl rfl rfl ((a - 80)) rfl rfl (by assumption) ?_
                        refine j_vret C hret hlk d_M_act_139 rfl ?_ rfl rfl
                        unfold mf_act
                        rw [if_neg r16, if_neg r32, if_neg g34, if_neg g35, if_neg g36, if_neg r64, if_pos ⟨g41, g42⟩]
                  ·
                    refine j_aload_n C d_M_act_98 rfl rfl ?_
                    refine j_iload_n C d_M_act_99 rfl rfl ?_
                    refine j_bipush (v := 64) C d_M_act_100 (by decide) ?_
                    refine j_isub C d_M_act_102 ?_
                    refine tpI C hK 10 0 15 ty_M tk_M nm_M d_M_act_103 in_M rfl rfl (by decide) t_391 rfl rfl rfl rfl ((a - 64)) rfl rfl (by assumption) ?_
                    refine j_aload_n C d_M_act_106 rfl rfl ?_
                    refine j_aload_n C d_M_act_107 rfl rfl ?_
                    refine tgI C hK 10 0 17 d_M_act_108 in_M rfl rfl (by decide) t_393 rfl rfl rfl (by assumption) ?_
                    refine j_iconst (v := 3) C d_M_act_111 (by decide) ?_
                    refine j_iadd C d_M_act_112 ?_
                    refine tpI C hK 10 0 16 ty_M tk_M nm_M d_M_act_113 in_M rfl rfl (by decide) t_392 rfl rfl rfl rfl (((sI τ 10 0 15 ((a - 64))).1 10 0 17 + 3)) rfl rfl (by assumption) ?_
                    refine j_goto C 139 d_M_act_116 rfl ?_
                    refine j_vret C hret hlk d_M_act_139 rfl ?_ rfl rfl
                    unfold mf_act
                    rw [if_neg r16, if_neg r32, if_neg g34, if_neg g35, if_neg g36, if_pos ⟨g37, g40⟩]
              ·
                refine j_aload_n C d_M_act_78 rfl rfl ?_
                refine j_iconst (v := -1) C d_M_act_79 (by decide) ?_
                refine tpI C hK 10 0 14 ty_M tk_M nm_M d_M_act_80 in_M rfl rfl (by decide) t_390 rfl rfl rfl rfl (-1) rfl rfl (by assumption) ?_
                refine j_goto C 139 d_M_act_83 rfl ?_
                refine j_vret C hret hlk d_M_act_139 rfl ?_ rfl rfl
                unfold mf_act
                rw [if_neg r16, if_neg r32, if_neg g34, if_neg g35, if_pos g36]
            ·
              refine j_aload_n C d_M_act_65 rfl rfl ?_
              refine j_callV C hK hAz 10 0 (m_drop h _) (jcV C mi_M_dropWord t_494 t_496 t_28 rfl rfl ⟨by decide, by decide⟩) rfl rfl (by assumption) rfl rfl (Nat.le_of_ble_eq_true rfl) d_M_act_66 ⟨Nat.zero_le _, Nat.zero_le _⟩ ?_
              refine j_goto C 139 d_M_act_69 rfl ?_
              refine j_vret C hret hlk d_M_act_139 rfl ?_ rfl rfl
              unfold mf_act
              rw [if_neg r16, if_neg r32, if_neg g34, if_pos g35]
          ·
            refine j_aload_n C d_M_act_52 rfl rfl ?_
            refine j_callV C hK hAz 10 0 (m_give h _) (jcV C mi_M_giveWay t_490 t_492 t_27 rfl rfl ⟨by decide, by decide⟩) rfl rfl (by assumption) rfl rfl (Nat.le_of_ble_eq_true rfl) d_M_act_53 ⟨Nat.zero_le _, Nat.zero_le _⟩ ?_
            refine j_goto C 139 d_M_act_56 rfl ?_
            refine j_vret C hret hlk d_M_act_139 rfl ?_ rfl rfl
            unfold mf_act
            rw [if_neg r16, if_neg r32, if_pos g34]
        ·
          refine j_aload_n C d_M_act_35 rfl rfl ?_
          refine j_iload_n C d_M_act_36 rfl rfl ?_
          refine j_bipush (v := 32) C d_M_act_37 (by decide) ?_
          refine j_isub C d_M_act_39 ?_
          refine j_callV C hK hAz 10 0 (m_sig (a := a - 32) h (rng_in g23 g33 (by decide) rfl) _) (jcV C mi_M_signal0 t_454 t_456 t_18 rfl rfl ⟨by decide, by decide⟩) rfl rfl (by assumption) rfl rfl (Nat.le_of_ble_eq_true rfl) d_M_act_40 ⟨Nat.zero_le _, Nat.zero_le _⟩ ?_
          refine j_goto C 139 d_M_act_43 rfl ?_
          refine j_vret C hret hlk d_M_act_139 rfl ?_ rfl rfl
          unfold mf_act
          rw [if_neg r16, if_pos ⟨g23, g33⟩]
    ·
      refine j_aload_n C d_M_act_12 rfl rfl ?_
      refine j_iload_n C d_M_act_13 rfl rfl ?_
      refine j_bipush (v := 16) C d_M_act_14 (by decide) ?_
      refine j_isub C d_M_act_16 ?_
      refine j_callV C hK hAz 10 0 (m_wait (a := a - 16) h (rng_in g1 g22 (by decide) rfl) _) (jcV C mi_M_await0 t_482 t_484 t_25 rfl rfl ⟨by decide, by decide⟩) rfl rfl (by assumption) rfl rfl (Nat.le_of_ble_eq_true rfl) d_M_act_17 ⟨Nat.zero_le _, Nat.zero_le _⟩ ?_
      refine j_goto C 139 d_M_act_20 rfl ?_
      refine j_vret C hret hlk d_M_act_139 rfl ?_ rfl rfl
      unfold mf_act
      rw [if_pos ⟨g1, g22⟩]
set_option maxRecDepth 100000 in
set_option maxHeartbeats 4000000 in
theorem m_post {l : Launch} {D : va_G} {E : Nat → ClassId} {ad : Nat → Nat → Nat} {lv : Nat → Nat → Prop} {σ τ : sT} {N : Int} (h : OKm τ lv N) {a : Int32} (hp : vp_in (τ.1 10 0 20) 65) : jM l y_M_post c_M_post 2 (none) 0 D E ad lv (jv ad σ τ) [.ref (ad 10 0), .int (a)] none (jv ad σ (mf_post τ a)) := by
  intro sz
  refine jC.of "InputRoomModel" (by decide +kernel) rfl rfl (Nat.le_of_ble_eq_true rfl) (by intro v hv; simp only [List.mem_cons, List.not_mem_nil, or_false] at hv; rcases hv with rfl | rfl <;> first | rfl | exact jrf_cat _) ?_
  intro p e s m below meth c C hK hret hlk hnm hsz hAz
  have hb10 : lv 10 0 := h.k (by decide) (by decide)
  have hb11 : lv 11 0 := h.k (by decide) (by decide)
  have hb12 : lv 12 0 := h.k (by decide) (by decide)
  have hb13 : lv 13 0 := h.k (by decide) (by decide)
  have hb14 : lv 14 0 := h.k (by decide) (by decide)
  have hb15 : lv 15 0 := h.k (by decide) (by decide)
  have hb16 : lv 16 0 := h.k (by decide) (by decide)
  have hb17 : lv 17 0 := h.k (by decide) (by decide)
  have hb18 : lv 18 0 := h.k (by decide) (by decide)
  have hb19 : lv 19 0 := h.k (by decide) (by decide)
  refine j_aload_n C d_M_post_0 rfl rfl ?_
  refine tgC C hK 10 0 19 d_M_post_1 in_M rfl rfl (by decide) t_395 rfl rfl rfl (by assumption) ?_
  refine j_aload_n C d_M_post_4 rfl rfl ?_
  refine tgI C hK 10 0 20 d_M_post_5 in_M rfl rfl (by decide) t_396 rfl rfl rfl (by assumption) ?_
  refine j_iload_n C d_M_post_8 rfl rfl ?_
  refine tia_st C hK 19 0 d_M_post_9 rfl hp rfl rfl (by assumption) ?_
  refine j_aload_n C d_M_post_10 rfl rfl ?_
  refine j_aload_n C d_M_post_11 rfl rfl ?_
  refine tgI C hK 10 0 20 d_M_post_12 in_M rfl rfl (by decide) t_396 rfl rfl rfl (by assumption) ?_
  refine j_iconst (v := 1) C d_M_post_15 (by decide) ?_
  refine j_iadd C d_M_post_16 ?_
  refine tpI C hK 10 0 20 ty_M tk_M nm_M d_M_post_17 in_M rfl rfl (by decide) t_396 rfl rfl rfl rfl (((sI τ 19 0 (τ.1 10 0 20).toNatClampNeg (a)).1 10 0 20 + 1)) rfl rfl (by assumption) ?_
  refine j_vret C hret hlk d_M_post_20 rfl ?_ rfl rfl
  rfl
