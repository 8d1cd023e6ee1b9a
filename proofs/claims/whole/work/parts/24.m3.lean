theorem sub3 {a b c : Option Value} (i : Nat) (v : Value) (h : ([a, b, none] : List (Option Value))[i]? = some (some v)) : ([a, b, c] : List (Option Value))[i]? = some (some v) := by
  match i, h with
  | 0, h => exact h
  | 1, h => exact h
  | 2, h => cases h
  | n + 3, h => cases h
set_option maxRecDepth 100000 in
set_option maxHeartbeats 4000000 in
theorem lp_b2 {l : Launch} {D : va_G} {E : Nat → ClassId} {ad : Nat → Nat → Nat} {lv : Nat → Nat → Prop} {σ : sT} {N : Int} {V1 : jVT} {ag : Int32} {p : Program} {e : Env} {s : State} {m : MethodId} {below : List Frame} {meth : Method} {c : Code} {sz : Nat} (C : CallFix p m c c_M_behind 3 s ([.ref (ad 10 0)] : List Value).toArray jT "InputRoomModel") (hK : jK D jcl jY E s) (hret : meth.sig.returnType = none) (hlk : meth.locks = false) (hAz : ∀ q, s.heap.size ≤ q → jA ad lv sz q) : ∀ (n : Nat) (τ1 : sT) (k : Nat) (i : Int32), OKm τ1 lv N → i = nI k → k + n ≤ 65 → (τ1.1 10 0 20).toInt = k + n → (∀ j, k ≤ j → j < k + n → vp_in (τ1.1 19 0 j) 16) → JM l y_M_behind c_M_behind 3 (none) 3 D E ad lv p e s m below meth c sz [.ref (ad 10 0)] none (V1) (jv ad σ (mf_sl n k τ1)) 104 [some (.ref (ad 10 0)), some (.int (ag)), none] [] → JM l y_M_behind c_M_behind 3 (none) 3 D E ad lv p e s m below meth c sz [.ref (ad 10 0)] none (V1) (jv ad σ τ1) 80 [some (.ref (ad 10 0)), some (.int (ag)), some (.int (i))] [] := by
  intro n
  induction n with
  | zero =>
    intro τ1 k i h1 hi hk hp hv K
    subst hi
    have hge : τ1.1 10 0 20 ≤ nI k := by rw [i32_le, nI_toInt (by omega)]; omega
    have hb10 : lv 10 0 := h1.k (by decide) (by decide)
    refine j_iload_n C d_M_behind_80 rfl rfl ?_
    refine j_aload_n C d_M_behind_81 rfl rfl ?_
    refine tgI C hK 10 0 20 d_M_behind_82 in_M rfl rfl (by decide) t_396 rfl rfl rfl (by assumption) ?_
    refine j_icmp_ge C 104 d_M_behind_85 rfl (fun _ => ?_) (fun g1 => absurd hge g1)
    exact j_sub _ sub3 K
  | succ n ih =>
    intro τ1 k i h1 hi hk hp hv K
    subst hi
    have hge : ¬ τ1.1 10 0 20 ≤ nI k := by rw [i32_le, nI_toInt (by omega)]; omega
    have hb10 : lv 10 0 := h1.k (by decide) (by decide)
    have hb19 : lv 19 0 := h1.k (by decide) (by decide)
    have ecl : (nI k).toNatClampNeg = k := nI_clamp (by omega)
    have hs : vp_in (τ1.1 19 0 (nI k).toNatClampNeg) 16 := by rw [ecl]; exact hv k (Nat.le_refl _) (by omega)
    refine j_iload_n C d_M_behind_80 rfl rfl ?_
    refine j_aload_n C d_M_behind_81 rfl rfl ?_
    refine tgI C hK 10 0 20 d_M_behind_82 in_M rfl rfl (by decide) t_396 rfl rfl rfl (by assumption) ?_
    refine j_icmp_ge C 104 d_M_behind_85 rfl (fun g1 => absurd g1 hge) (fun _ => ?_)
    refine j_aload_n C d_M_behind_88 rfl rfl ?_
    refine j_aload_n C d_M_behind_89 rfl rfl ?_
    refine tgC C hK 10 0 19 d_M_behind_90 in_M rfl rfl (by decide) t_395 rfl rfl rfl (by assumption) ?_
    refine j_iload_n C d_M_behind_93 rfl rfl ?_
    refine tia C hK 19 0 d_M_behind_94 rfl (vp_in_nI (by omega) (by decide)) rfl rfl (by assumption) ?_
    refine j_callV C hK hAz 10 0 (m_sig (a := τ1.1 19 0 (nI k).toNatClampNeg) h1 hs _) (jcV C mi_M_signal0 t_454 t_456 t_18 rfl rfl ⟨by decide, by decide⟩) rfl rfl (by assumption) rfl rfl (Nat.le_of_ble_eq_true rfl) d_M_behind_95 ⟨Nat.zero_le _, Nat.zero_le _⟩ ?_
    refine j_iinc C d_M_behind_98 rfl (by decide) ?_
    refine j_goto C 80 d_M_behind_101 rfl ?_
    have fr := frm_sig τ1 (τ1.1 19 0 (nI k).toNatClampNeg)
    exact ih (mf_sig τ1 (τ1.1 19 0 (nI k).toNatClampNeg)) (k + 1) _ (okm_sig h1) (i32_p1 k) (by omega) (by rw [fr.1 10 0 20 (by omega) (by omega) (by omega)]; omega) (fun j h2 h3 => by rw [fr.1 19 0 j (by omega) (by omega) (by omega)]; exact hv j (by omega) (by omega)) K
set_option maxRecDepth 100000 in
set_option maxHeartbeats 4000000 in
theorem lp_b1 {l : Launch} {D : va_G} {E : Nat → ClassId} {ad : Nat → Nat → Nat} {lv : Nat → Nat → Prop} {σ : sT} {N : Int} {V1 : jVT} {ag : Int32} {p : Program} {e : Env} {s : State} {m : MethodId} {below : List Frame} {meth : Method} {c : Code} {sz : Nat} (C : CallFix p m c c_M_behind 3 s ([.ref (ad 10 0)] : List Value).toArray jT "InputRoomModel") (hK : jK D jcl jY E s) (hret : meth.sig.returnType = none) (hlk : meth.locks = false) (hAz : ∀ q, s.heap.size ≤ q → jA ad lv sz q) : ∀ (n : Nat) (τ1 : sT) (i : Int32) (m0 : Nat), OKm τ1 lv N → i.toInt + n = (τ1.1 10 0 13).toInt → Pst τ1 m0 → m0 ≤ i.toInt → JM l y_M_behind c_M_behind 3 (none) 3 D E ad lv p e s m below meth c sz [.ref (ad 10 0)] none (V1) (jv ad σ (mf_pl n τ1)) 42 [some (.ref (ad 10 0)), some (.int (ag)), none] [] → JM l y_M_behind c_M_behind 3 (none) 3 D E ad lv p e s m below meth c sz [.ref (ad 10 0)] none (V1) (jv ad σ τ1) 13 [some (.ref (ad 10 0)), some (.int (ag)), some (.int (i))] [] := by
  intro n
  induction n with
  | zero =>
    intro τ1 i m0 h1 hi hp hm K
    have hge : τ1.1 10 0 13 ≤ i := by rw [i32_le]; omega
    have hb10 : lv 10 0 := h1.k (by decide) (by decide)
    refine j_iload_n C d_M_behind_13 rfl rfl ?_
    refine j_aload_n C d_M_behind_14 rfl rfl ?_
    refine tgI C hK 10 0 13 d_M_behind_15 in_M rfl rfl (by decide) t_389 rfl rfl rfl (by assumption) ?_
    refine j_icmp_ge C 42 d_M_behind_18 rfl (fun _ => ?_) (fun g1 => absurd hge g1)
    exact j_sub _ sub3 K
  | succ n ih =>
    intro τ1 i m0 h1 hi hp hm K
    have hlt : i.toInt < (τ1.1 10 0 13).toInt := by omega
    have hge : ¬ τ1.1 10 0 13 ≤ i := by rw [i32_le]; omega
    have hb10 : lv 10 0 := h1.k (by decide) (by decide)
    have hN := h1.2.2.2.2.2.2.1
    have hpi : vp_in (τ1.1 10 0 20) 65 := by rw [vp_in_iff, hp.1]; omega
    refine j_iload_n C d_M_behind_13 rfl rfl ?_
    refine j_aload_n C d_M_behind_14 rfl rfl ?_
    refine tgI C hK 10 0 13 d_M_behind_15 in_M rfl rfl (by decide) t_389 rfl rfl rfl (by assumption) ?_
    refine j_icmp_ge C 42 d_M_behind_18 rfl (fun g1 => absurd g1 hge) (fun _ => ?_)
    refine j_aload_n C d_M_behind_21 rfl rfl ?_
    refine tgI C hK 10 0 14 d_M_behind_22 in_M rfl rfl (by decide) t_390 rfl rfl rfl (by assumption) ?_
    refine j_if_lt C 36 d_M_behind_25 rfl (fun g2 => ?_) (fun g2 => ?_)
    ·
      refine j_iinc C d_M_behind_36 rfl (by decide) ?_
      refine j_goto C 13 d_M_behind_39 rfl ?_
      exact ih τ1 _ m0 h1 (by rw [i32_succ hlt]; omega) hp (by rw [i32_succ hlt]; omega) (by have K2 := K; rw [mf_pl, if_pos g2] at K2; exact K2)
    ·
      refine j_aload_n C d_M_behind_28 rfl rfl ?_
      refine j_aload_n C d_M_behind_29 rfl rfl ?_
      refine tgI C hK 10 0 14 d_M_behind_30 in_M rfl rfl (by decide) t_390 rfl rfl rfl (by assumption) ?_
      refine j_callV C hK hAz 10 0 (m_post h1 hpi _) (jcV C mi_M_post t_450 t_452 t_17 rfl rfl ⟨by decide, by decide⟩) rfl rfl (by assumption) rfl rfl (Nat.le_of_ble_eq_true rfl) d_M_behind_33 ⟨Nat.zero_le _, Nat.zero_le _⟩ ?_
      refine j_iinc C d_M_behind_36 rfl (by decide) ?_
      refine j_goto C 13 d_M_behind_39 rfl ?_
      exact ih (mf_post τ1 (τ1.1 10 0 14)) _ (m0 + 1) (okm_post h1) (by rw [i32_succ hlt, post_eq (by omega) (by omega)]; omega) (post_pst hp (by omega) (in_of_lt g2 h1.2.2.2.1)) (by rw [i32_succ hlt]; omega) (by have K2 := K; rw [mf_pl, if_neg g2] at K2; exact K2)
set_option maxRecDepth 100000 in
set_option maxHeartbeats 4000000 in
theorem lp_b78 {l : Launch} {D : va_G} {E : Nat → ClassId} {ad : Nat → Nat → Nat} {lv : Nat → Nat → Prop} {σ : sT} {N : Int} {V1 : jVT} {ag : Int32} {p : Program} {e : Env} {s : State} {m : MethodId} {below : List Frame} {meth : Method} {c : Code} {sz : Nat} (C : CallFix p m c c_M_behind 3 s ([.ref (ad 10 0)] : List Value).toArray jT "InputRoomModel") (hK : jK D jcl jY E s) (hret : meth.sig.returnType = none) (hlk : meth.locks = false) (hAz : ∀ q, s.heap.size ≤ q → jA ad lv sz q) : ∀ (τ1 : sT) (m0 : Nat), OKm τ1 lv N → Pst τ1 m0 → m0 ≤ 65 → JM l y_M_behind c_M_behind 3 (none) 3 D E ad lv p e s m below meth c sz [.ref (ad 10 0)] none (V1) (jv ad σ (mf_p6 (mf_p5 (mf_p4 τ1)))) 2 [some (.ref (ad 10 0)), some (.int (mf_ag (mf_p5 (mf_p4 τ1)))), none] [] → JM l y_M_behind c_M_behind 3 (none) 3 D E ad lv p e s m below meth c sz [.ref (ad 10 0)] none (V1) (jv ad σ τ1) 78 [some (.ref (ad 10 0)), some (.int (ag)), none] [] := by
  intro τ1 m0 h1 hp hm K
  have ok5 : OKm (mf_p5 (mf_p4 τ1)) lv N := p5_ok (okm_sl _ _ h1)
  have hb10 : lv 10 0 := h1.k (by decide) (by decide)
  have hb19 : lv 19 0 := h1.k (by decide) (by decide)
  refine j_iconst (v := 0) C d_M_behind_78 (by decide) ?_
  refine j_istore_n C d_M_behind_79 rfl (by decide) ?_
  have e20 : (τ1.1 10 0 20).toNatClampNeg = m0 := by rw [toN, hp.1]; rfl
  refine lp_b2 C hK hret hlk hAz (τ1.1 10 0 20).toNatClampNeg τ1 0 0 h1 rfl (by omega) (by rw [hp.1, e20]; simp) (fun j _ h3 => hp.2 j (by omega)) ?_
  refine j_V (V' := jv ad σ (mf_p4 τ1)) rfl ?_
  refine j_aload_n C d_M_behind_104 rfl rfl ?_
  refine tgI C hK 10 0 9 d_M_behind_105 in_M rfl rfl (by decide) t_385 rfl rfl rfl (by assumption) ?_
  refine j_if_eq C 124 d_M_behind_108 rfl (fun g1 => ?_) (fun g1 => ?_)
  ·
    refine j_V (V' := jv ad σ (mf_p5 (mf_p4 τ1))) (by rw [mf_p5, if_pos g1]) ?_
    refine j_aload_n C d_M_behind_124 rfl rfl ?_
    refine tgI C hK 10 0 8 d_M_behind_125 in_M rfl rfl (by decide) t_384 rfl rfl rfl (by assumption) ?_
    refine j_if_ge C 142 d_M_behind_128 rfl (fun g2 => ?_) (fun g2 => ?_)
    ·
      refine j_iconst (v := 0) C d_M_behind_142 (by decide) ?_
      refine j_istore_n C d_M_behind_143 rfl (by decide) ?_
      refine j_aload_n C d_M_behind_144 rfl rfl ?_
      refine j_iload_n C d_M_behind_145 rfl rfl ?_
      refine j_if_eq C 156 d_M_behind_146 rfl (fun g3 => ?_) (fun g3 => ?_)
      ·
        refine j_aload_n C d_M_behind_156 rfl rfl ?_
        refine tgI C hK 10 0 17 d_M_behind_157 in_M rfl rfl (by decide) t_393 rfl rfl rfl (by assumption) ?_
        refine tpI C hK 10 0 17 ty_M tk_M nm_M d_M_behind_160 in_M rfl rfl (by decide) t_393 rfl rfl rfl rfl ((mf_p5 (mf_p4 τ1)).1 10 0 17) rfl rfl (by assumption) ?_
        refine j_goto C 2 d_M_behind_163 rfl ?_
        have eag : mf_ag (mf_p5 (mf_p4 τ1)) = 0 := by simp only [mf_ag, g2, if_true, if_false]
        refine j_eq ?_ ?_ rfl K
        · rw [mf_p6, eag]; first | rfl | (rw [if_pos rfl]) | (rw [if_neg (by decide)])
        · rw [eag]; rfl
      ·
        refine j_aload_n C d_M_behind_149 rfl rfl ?_
        refine tgI C hK 10 0 16 d_M_behind_150 in_M rfl rfl (by decide) t_392 rfl rfl rfl (by assumption) ?_
        refine j_goto C 160 d_M_behind_153 rfl ?_
        refine tpI C hK 10 0 17 ty_M tk_M nm_M d_M_behind_160 in_M rfl rfl (by decide) t_393 rfl rfl rfl rfl ((mf_p5 (mf_p4 τ1)).1 10 0 16) rfl rfl (by assumption) ?_
        refine j_goto C 2 d_M_behind_163 rfl ?_
        exact absurd rfl g3
    ·
      refine j_aload_n C d_M_behind_131 rfl rfl ?_
      refine tgI C hK 10 0 15 d_M_behind_132 in_M rfl rfl (by decide) t_391 rfl rfl rfl (by assumption) ?_
      refine j_if_lt C 142 d_M_behind_135 rfl (fun g4 => ?_) (fun g4 => ?_)
      ·
        refine j_iconst (v := 0) C d_M_behind_142 (by decide) ?_
        refine j_istore_n C d_M_behind_143 rfl (by decide) ?_
        refine j_aload_n C d_M_behind_144 rfl rfl ?_
        refine j_iload_n C d_M_behind_145 rfl rfl ?_
        refine j_if_eq C 156 d_M_behind_146 rfl (fun g5 => ?_) (fun g5 => ?_)
        ·
          refine j_aload_n C d_M_behind_156 rfl rfl ?_
          refine tgI C hK 10 0 17 d_M_behind_157 in_M rfl rfl (by decide) t_393 rfl rfl rfl (by assumption) ?_
          refine tpI C hK 10 0 17 ty_M tk_M nm_M d_M_behind_160 in_M rfl rfl (by decide) t_393 rfl rfl rfl rfl ((mf_p5 (mf_p4 τ1)).1 10 0 17) rfl rfl (by assumption) ?_
          refine j_goto C 2 d_M_behind_163 rfl ?_
          have eag : mf_ag (mf_p5 (mf_p4 τ1)) = 0 := by simp only [mf_ag, g2, g4, if_true, if_false]
          refine j_eq ?_ ?_ rfl K
          · rw [mf_p6, eag]; first | rfl | (rw [if_pos rfl]) | (rw [if_neg (by decide)])
          · rw [eag]; rfl
        ·
          refine j_aload_n C d_M_behind_149 rfl rfl ?_
          refine tgI C hK 10 0 16 d_M_behind_150 in_M rfl rfl (by decide) t_392 rfl rfl rfl (by assumption) ?_
          refine j_goto C 160 d_M_behind_153 rfl ?_
          refine tpI C hK 10 0 17 ty_M tk_M nm_M d_M_behind_160 in_M rfl rfl (by decide) t_393 rfl rfl rfl rfl ((mf_p5 (mf_p4 τ1)).1 10 0 16) rfl rfl (by assumption) ?_
          refine j_goto C 2 d_M_behind_163 rfl ?_
          exact absurd rfl g5
      ·
        refine j_iconst (v := 1) C d_M_behind_138 (by decide) ?_
        refine j_goto C 143 d_M_behind_139 rfl ?_
        refine j_istore_n C d_M_behind_143 rfl (by decide) ?_
        refine j_aload_n C d_M_behind_144 rfl rfl ?_
        refine j_iload_n C d_M_behind_145 rfl rfl ?_
        refine j_if_eq C 156 d_M_behind_146 rfl (fun g6 => ?_) (fun g6 => ?_)
        ·
          refine j_aload_n C d_M_behind_156 rfl rfl ?_
          refine tgI C hK 10 0 17 d_M_behind_157 in_M rfl rfl (by decide) t_393 rfl rfl rfl (by assumption) ?_
          refine tpI C hK 10 0 17 ty_M tk_M nm_M d_M_behind_160 in_M rfl rfl (by decide) t_393 rfl rfl rfl rfl ((mf_p5 (mf_p4 τ1)).1 10 0 17) rfl rfl (by assumption) ?_
          refine j_goto C 2 d_M_behind_163 rfl ?_
          exact absurd g6 (by decide)
        ·
          refine j_aload_n C d_M_behind_149 rfl rfl ?_
          refine tgI C hK 10 0 16 d_M_behind_150 in_M rfl rfl (by decide) t_392 rfl rfl rfl (by assumption) ?_
          refine j_goto C 160 d_M_behind_153 rfl ?_
          refine tpI C hK 10 0 17 ty_M tk_M nm_M d_M_behind_160 in_M rfl rfl (by decide) t_393 rfl rfl rfl rfl ((mf_p5 (mf_p4 τ1)).1 10 0 16) rfl rfl (by assumption) ?_
          refine j_goto C 2 d_M_behind_163 rfl ?_
          have eag : mf_ag (mf_p5 (mf_p4 τ1)) = 1 := by simp only [mf_ag, g2, g4, if_true, if_false]
          refine j_eq ?_ ?_ rfl K
          · rw [mf_p6, eag]; first | rfl | (rw [if_pos rfl]) | (rw [if_neg (by decide)])
          · rw [eag]; rfl
  ·
    refine j_aload_n C d_M_behind_111 rfl rfl ?_
    refine j_aload_n C d_M_behind_112 rfl rfl ?_
    refine tgI C hK 10 0 10 d_M_behind_113 in_M rfl rfl (by decide) t_386 rfl rfl rfl (by assumption) ?_
    refine tpI C hK 10 0 8 ty_M tk_M nm_M d_M_behind_116 in_M rfl rfl (by decide) t_384 rfl rfl rfl rfl ((mf_p4 τ1).1 10 0 10) rfl rfl (by assumption) ?_
    refine j_aload_n C d_M_behind_119 rfl rfl ?_
    refine j_iconst (v := 0) C d_M_behind_120 (by decide) ?_
    refine tpI C hK 10 0 9 ty_M tk_M nm_M d_M_behind_121 in_M rfl rfl (by decide) t_385 rfl rfl rfl rfl (0) (by first | rfl | decide) (by first | rfl | decide) (by assumption) ?_
    refine j_V (V' := jv ad σ (mf_p5 (mf_p4 τ1))) (by rw [mf_p5, if_neg g1]) ?_
    refine j_aload_n C d_M_behind_124 rfl rfl ?_
    refine tgI C hK 10 0 8 d_M_behind_125 in_M rfl rfl (by decide) t_384 rfl rfl rfl (by assumption) ?_
    refine j_if_ge C 142 d_M_behind_128 rfl (fun g7 => ?_) (fun g7 => ?_)
    ·
      refine j_iconst (v := 0) C d_M_behind_142 (by decide) ?_
      refine j_istore_n C d_M_behind_143 rfl (by decide) ?_
      refine j_aload_n C d_M_behind_144 rfl rfl ?_
      refine j_iload_n C d_M_behind_145 rfl rfl ?_
      refine j_if_eq C 156 d_M_behind_146 rfl (fun g8 => ?_) (fun g8 => ?_)
      ·
        refine j_aload_n C d_M_behind_156 rfl rfl ?_
        refine tgI C hK 10 0 17 d_M_behind_157 in_M rfl rfl (by decide) t_393 rfl rfl rfl (by assumption) ?_
        refine tpI C hK 10 0 17 ty_M tk_M nm_M d_M_behind_160 in_M rfl rfl (by decide) t_393 rfl rfl rfl rfl ((mf_p5 (mf_p4 τ1)).1 10 0 17) rfl rfl (by assumption) ?_
        refine j_goto C 2 d_M_behind_163 rfl ?_
        have eag : mf_ag (mf_p5 (mf_p4 τ1)) = 0 := by simp only [mf_ag, g7, if_true, if_false]
        refine j_eq ?_ ?_ rfl K
        · rw [mf_p6, eag]; first | rfl | (rw [if_pos rfl]) | (rw [if_neg (by decide)])
        · rw [eag]; rfl
      ·
        refine j_aload_n C d_M_behind_149 rfl rfl ?_
        refine tgI C hK 10 0 16 d_M_behind_150 in_M rfl rfl (by decide) t_392 rfl rfl rfl (by assumption) ?_
        refine j_goto C 160 d_M_behind_153 rfl ?_
        refine tpI C hK 10 0 17 ty_M tk_M nm_M d_M_behind_160 in_M rfl rfl (by decide) t_393 rfl rfl rfl rfl ((mf_p5 (mf_p4 τ1)).1 10 0 16) rfl rfl (by assumption) ?_
        refine j_goto C 2 d_M_behind_163 rfl ?_
        exact absurd rfl g8
    ·
      refine j_aload_n C d_M_behind_131 rfl rfl ?_
      refine tgI C hK 10 0 15 d_M_behind_132 in_M rfl rfl (by decide) t_391 rfl rfl rfl (by assumption) ?_
      refine j_if_lt C 142 d_M_behind_135 rfl (fun g9 => ?_) (fun g9 => ?_)
      ·
        refine j_iconst (v := 0) C d_M_behind_142 (by decide) ?_
        refine j_istore_n C d_M_behind_143 rfl (by decide) ?_
        refine j_aload_n C d_M_behind_144 rfl rfl ?_
        refine j_iload_n C d_M_behind_145 rfl rfl ?_
        refine j_if_eq C 156 d_M_behind_146 rfl (fun g10 => ?_) (fun g10 => ?_)
        ·
          refine j_aload_n C d_M_behind_156 rfl rfl ?_
          refine tgI C hK 10 0 17 d_M_behind_157 in_M rfl rfl (by decide) t_393 rfl rfl rfl (by assumption) ?_
          refine tpI C hK 10 0 17 ty_M tk_M nm_M d_M_behind_160 in_M rfl rfl (by decide) t_393 rfl rfl rfl rfl ((mf_p5 (mf_p4 τ1)).1 10 0 17) rfl rfl (by assumption) ?_
          refine j_goto C 2 d_M_behind_163 rfl ?_
          have eag : mf_ag (mf_p5 (mf_p4 τ1)) = 0 := by simp only [mf_ag, g7, g9, if_true, if_false]
          refine j_eq ?_ ?_ rfl K
          · rw [mf_p6, eag]; first | rfl | (rw [if_pos rfl]) | (rw [if_neg (by decide)])
          · rw [eag]; rfl
        ·
          refine j_aload_n C d_M_behind_149 rfl rfl ?_
          refine tgI C hK 10 0 16 d_M_behind_150 in_M rfl rfl (by decide) t_392 rfl rfl rfl (by assumption) ?_
          refine j_goto C 160 d_M_behind_153 rfl ?_
          refine tpI C hK 10 0 17 ty_M tk_M nm_M d_M_behind_160 in_M rfl rfl (by decide) t_393 rfl rfl rfl rfl ((mf_p5 (mf_p4 τ1)).1 10 0 16) rfl rfl (by assumption) ?_
          refine j_goto C 2 d_M_behind_163 rfl ?_
          exact absurd rfl g10
      ·
        refine j_iconst (v := 1) C d_M_behind_138 (by decide) ?_
        refine j_goto C 143 d_M_behind_139 rfl ?_
        refine j_istore_n C d_M_behind_143 rfl (by decide) ?_
        refine j_aload_n C d_M_behind_144 rfl rfl ?_
        refine j_iload_n C d_M_behind_145 rfl rfl ?_
        refine j_if_eq C 156 d_M_behind_146 rfl (fun g11 => ?_) (fun g11 => ?_)
        ·
          refine j_aload_n C d_M_behind_156 rfl rfl ?_
          refine tgI C hK 10 0 17 d_M_behind_157 in_M rfl rfl (by decide) t_393 rfl rfl rfl (by assumption) ?_
          refine tpI C hK 10 0 17 ty_M tk_M nm_M d_M_behind_160 in_M rfl rfl (by decide) t_393 rfl rfl rfl rfl ((mf_p5 (mf_p4 τ1)).1 10 0 17) rfl rfl (by assumption) ?_
          refine j_goto C 2 d_M_behind_163 rfl ?_
          exact absurd g11 (by decide)
        ·
          refine j_aload_n C d_M_behind_149 rfl rfl ?_
          refine tgI C hK 10 0 16 d_M_behind_150 in_M rfl rfl (by decide) t_392 rfl rfl rfl (by assumption) ?_
          refine j_goto C 160 d_M_behind_153 rfl ?_
          refine tpI C hK 10 0 17 ty_M tk_M nm_M d_M_behind_160 in_M rfl rfl (by decide) t_393 rfl rfl rfl rfl ((mf_p5 (mf_p4 τ1)).1 10 0 16) rfl rfl (by assumption) ?_
          refine j_goto C 2 d_M_behind_163 rfl ?_
          have eag : mf_ag (mf_p5 (mf_p4 τ1)) = 1 := by simp only [mf_ag, g7, g9, if_true, if_false]
          refine j_eq ?_ ?_ rfl K
          · rw [mf_p6, eag]; first | rfl | (rw [if_pos rfl]) | (rw [if_neg (by decide)])
          · rw [eag]; rfl
set_option maxRecDepth 100000 in
set_option maxHeartbeats 4000000 in
theorem lp_bpass {l : Launch} {D : va_G} {E : Nat → ClassId} {ad : Nat → Nat → Nat} {lv : Nat → Nat → Prop} {σ : sT} {N : Int} {V1 : jVT} {p : Program} {e : Env} {s : State} {m : MethodId} {below : List Frame} {meth : Method} {c : Code} {sz : Nat} (C : CallFix p m c c_M_behind 3 s ([.ref (ad 10 0)] : List Value).toArray jT "InputRoomModel") (hK : jK D jcl jY E s) (hret : meth.sig.returnType = none) (hlk : meth.locks = false) (hAz : ∀ q, s.heap.size ≤ q → jA ad lv sz q) : ∀ (τ1 : sT), OKm τ1 lv N → JM l y_M_behind c_M_behind 3 (none) 3 D E ad lv p e s m below meth c sz [.ref (ad 10 0)] none (V1) (jv ad σ (mf_p6 (mf_p15 τ1))) 2 [some (.ref (ad 10 0)), some (.int (mf_ag (mf_p15 τ1))), none] [] → JM l y_M_behind c_M_behind 3 (none) 3 D E ad lv p e s m below meth c sz [.ref (ad 10 0)] none (V1) (jv ad σ τ1) 2 [some (.ref (ad 10 0)), some (.int (1)), none] [] := by
  intro τ1 h1 K
  obtain ⟨a1, ⟨m0, a2, a3⟩, -⟩ := p2_ok h1
  obtain ⟨b1, m1, b2, b3⟩ := p3_ok a1 a3 a2
  have hb10 : lv 10 0 := h1.k (by decide) (by decide)
  have hN := h1.2.2.2.2.2.2.1
  refine j_iload_n C d_M_behind_2 rfl rfl ?_
  refine j_if_eq C 166 d_M_behind_3 rfl (fun g1 => absurd g1 (by decide)) (fun _ => ?_)
  refine j_aload_n C d_M_behind_6 rfl rfl ?_
  refine j_iconst (v := 0) C d_M_behind_7 (by decide) ?_
  refine tpI C hK 10 0 20 ty_M tk_M nm_M d_M_behind_8 in_M rfl rfl (by decide) t_396 rfl rfl rfl rfl (0) rfl rfl (by assumption) ?_
  refine j_iconst (v := 0) C d_M_behind_11 (by decide) ?_
  refine j_istore_n C d_M_behind_12 rfl (by decide) ?_
  refine lp_b1 C hK hret hlk hAz (τ1.1 10 0 13).toNatClampNeg (sI τ1 10 0 20 (0)) 0 0 (h1.o (by omega) (by omega)) (by show _ = (τ1.1 10 0 13).toInt; rw [toN, i32_0]; omega) ⟨by simp [sI], fun j hj => by omega⟩ (by decide) ?_
  refine j_aload_n C d_M_behind_42 rfl rfl ?_
  refine j_iconst (v := 0) C d_M_behind_43 (by decide) ?_
  refine tpI C hK 10 0 13 ty_M tk_M nm_M d_M_behind_44 in_M rfl rfl (by decide) t_389 rfl rfl rfl rfl (0) rfl rfl (by assumption) ?_
  refine j_V (V' := jv ad σ (mf_p2 τ1)) rfl ?_
  refine j_aload_n C d_M_behind_47 rfl rfl ?_
  refine tgI C hK 10 0 15 d_M_behind_48 in_M rfl rfl (by decide) t_391 rfl rfl rfl (by assumption) ?_
  refine j_if_lt C 78 d_M_behind_51 rfl (fun g2 => ?_) (fun g2 => ?_)
  ·
    refine j_V (V' := jv ad σ (mf_p3 (mf_p2 τ1))) (by rw [mf_p3, if_pos g2]) ?_
    exact lp_b78 C hK hret hlk hAz (mf_p3 (mf_p2 τ1)) m1 b1 b3 b2 K
  ·
    refine j_aload_n C d_M_behind_54 rfl rfl ?_
    refine tgI C hK 10 0 17 d_M_behind_55 in_M rfl rfl (by decide) t_393 rfl rfl rfl (by assumption) ?_
    refine j_aload_n C d_M_behind_58 rfl rfl ?_
    refine tgI C hK 10 0 16 d_M_behind_59 in_M rfl rfl (by decide) t_392 rfl rfl rfl (by assumption) ?_
    refine j_icmp_lt C 78 d_M_behind_62 rfl (fun g3 => ?_) (fun g3 => ?_)
    ·
      refine j_V (V' := jv ad σ (mf_p3 (mf_p2 τ1))) (by rw [mf_p3, if_neg g2, if_pos g3]) ?_
      exact lp_b78 C hK hret hlk hAz (mf_p3 (mf_p2 τ1)) m1 b1 b3 b2 K
    ·
      refine j_aload_n C d_M_behind_65 rfl rfl ?_
      refine j_aload_n C d_M_behind_66 rfl rfl ?_
      refine tgI C hK 10 0 15 d_M_behind_67 in_M rfl rfl (by decide) t_391 rfl rfl rfl (by assumption) ?_
      refine j_callV C hK hAz 10 0 (m_post a1 (by rw [vp_in_iff, a3.1]; omega) _) (jcV C mi_M_post t_450 t_452 t_17 rfl rfl ⟨by decide, by decide⟩) rfl rfl (by assumption) rfl rfl (Nat.le_of_ble_eq_true rfl) d_M_behind_70 ⟨Nat.zero_le _, Nat.zero_le _⟩ ?_
      refine j_aload_n C d_M_behind_73 rfl rfl ?_
      refine j_iconst (v := -1) C d_M_behind_74 (by decide) ?_
      refine tpI C hK 10 0 15 ty_M tk_M nm_M d_M_behind_75 in_M rfl rfl (by decide) t_391 rfl rfl rfl rfl (-1) rfl rfl (by assumption) ?_
      refine j_V (V' := jv ad σ (mf_p3 (mf_p2 τ1))) (by rw [mf_p3, if_neg g2, if_neg g3]) ?_
      exact lp_b78 C hK hret hlk hAz (mf_p3 (mf_p2 τ1)) m1 b1 b3 b2 K
set_option maxRecDepth 100000 in
set_option maxHeartbeats 4000000 in
theorem m_behind {l : Launch} {D : va_G} {E : Nat → ClassId} {ad : Nat → Nat → Nat} {lv : Nat → Nat → Prop} {σ τ : sT} {N : Int} (h : OKm τ lv N) : jM l y_M_behind c_M_behind 3 (none) 3 D E ad lv (jv ad σ τ) [.ref (ad 10 0)] none (jv ad σ (mf_behind τ)) := by
  intro sz
  refine jC.of "InputRoomModel" (by decide +kernel) rfl rfl (Nat.le_of_ble_eq_true rfl) (by intro v hv; simp only [List.mem_cons, List.not_mem_nil, or_false] at hv; rcases hv with rfl <;> first | rfl | exact jrf_cat _) ?_
  intro p e s m below meth c C hK hret hlk hnm hsz hAz
  have hb10 : lv 10 0 := h.k (by decide) (by decide)
  have hb11 : lv 11 0 := h.k (by decide) (by decide)
  have hb12 : lv 12 0 := h.k (by decide) (by decide)
  have hb13 : lv 13 0 := h.k (by decide) (by decide)
  have hb14 : lv 14 0 := h.k (by decide) (by decide)
  have hb15 : lv 15 0 := h.k (by decide) (by decide)
  have hb16 : lv 16 0 := h.k (by decide) (by decide)
  have hb17 : lv 17 0 := h.k (by decide) (by decide)
  have hb18 : lv 18 0 := h.k (by decide) (by decide)
  have hb19 : lv 19 0 := h.k (by decide) (by decide)
  refine j_iconst (v := 1) C d_M_behind_0 (by decide) ?_
  refine j_istore_n C d_M_behind_1 rfl (by decide) ?_
  refine lp_bpass C hK hret hlk hAz τ h ?_
  by_cases q : mf_ag (mf_p15 τ) = 0
  · rw [q]
    refine j_iload_n C d_M_behind_2 rfl rfl ?_
    refine j_if_eq C 166 d_M_behind_3 rfl (fun _ => ?_) (fun g1 => absurd rfl g1)
    refine j_vret C hret hlk d_M_behind_166 rfl ?_ rfl rfl
    rw [mf_behind, if_pos q]
  · rw [(ag_01 (mf_p15 τ)).resolve_left q]
    have ok6 : OKm (mf_p6 (mf_p15 τ)) lv N := p6_ok (p15_ok h)
    refine lp_bpass C hK hret hlk hAz (mf_p6 (mf_p15 τ)) ok6 ?_
    rw [ag_two h q]
    refine j_iload_n C d_M_behind_2 rfl rfl ?_
    refine j_if_eq C 166 d_M_behind_3 rfl (fun _ => ?_) (fun g1 => absurd rfl g1)
    refine j_vret C hret hlk d_M_behind_166 rfl ?_ rfl rfl
    rw [mf_behind, if_neg q]
