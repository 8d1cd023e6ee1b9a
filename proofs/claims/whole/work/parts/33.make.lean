abbrev mkOK (σ : sT) (a b : Int32) : Prop := ¬ a < 0 ∧ ¬ 32 ≤ a ∧ σ.2.1 1 0 a.toNatClampNeg = none ∧ ¬ b < 1 ∧ b ≤ 8
def cmk (σ : sT) (x r : Nat) (b : Int32) : sT := (fun k i j => if i = x ∧ ((k = 8 ∧ (j = 4 ∨ j = 5)) ∨ k = 9) then 0 else if k = 8 ∧ i = x ∧ j = 1 then b else σ.1 k i j, fun k i j => if k = 1 ∧ i = 0 ∧ j = x then some x else if k = 8 ∧ i = x then (if j = 2 then some r else none) else σ.2.1 k i j, σ.2.2)
theorem tv_congr {ad : Nat → Nat → Nat} {σ σ' : sT} {t k i j : Nat} (h1 : σ.1 k i j = σ'.1 k i j) (h2 : σ.2.1 k i j = σ'.2.1 k i j) (h3 : σ.2.2 k i j = σ'.2.2 k i j) : tv ad σ t k i j = tv ad σ' t k i j := by
  unfold tv
  split
  · rw [h1]
  · rw [h3]
  · rfl
  · rw [h2]
theorem jv_congr {ad : Nat → Nat → Nat} {σ σ' τ : sT} {k i j : Nat} (h1 : σ.1 k i j = σ'.1 k i j) (h2 : σ.2.1 k i j = σ'.2.1 k i j) (h3 : σ.2.2 k i j = σ'.2.2 k i j) : jv ad σ τ k i j = jv ad σ' τ k i j := by
  unfold jv
  rw [tv_congr h1 h2 h3]
theorem vmk {ad : Nat → Nat → Nat} {σ τ : sT} {x r : Nat} {b : Int32} {lv : Nat → Nat → Prop} : ∀ k i, lv k i → ∀ j, j < jN k → jup (jup (jup (jup (jup (jup (jnw (jnw (jv ad σ τ) 8 x (fun j => defaultValue (ty_P j))) 9 x (fun _ => .int 0)) 8 x 3 (.ref (ad 9 x))) 8 x 5 (.int 0)) 8 x 0 (.int (nI x))) 8 x 1 (.int b)) 8 x 2 (.ref (ad 6 r))) 1 0 x (.ref (ad 8 x)) k i j = jv ad (cmk σ x r b) τ k i j := by
  intro k i _ j hj
  by_cases h8 : k = 8 ∧ i = x
  · obtain ⟨rfl, rfl⟩ := h8
    have hj : j < 7 := hj
    match j, hj with
    | 0, _ => simp [jup, jnw]; rfl
    | 1, _ => simp [jup, jnw]; show _ = Value.int _; simp [cmk]
    | 2, _ => simp [jup, jnw]; show _ = va_rf _; simp [cmk]; rfl
    | 3, _ => simp [jup, jnw]; rfl
    | 4, _ => simp [jup, jnw]; show _ = Value.int _; simp [cmk]; rfl
    | 5, _ => simp [jup, jnw]; show _ = Value.int _; simp [cmk]
    | 6, _ => simp [jup, jnw]; show _ = va_rf _; simp [cmk]; rfl
    | j + 7, h => exact absurd h (by omega)
  · by_cases h9 : k = 9 ∧ i = x
    · obtain ⟨rfl, rfl⟩ := h9
      simp [jup, jnw]
      show _ = Value.int _
      simp [cmk]
    · by_cases h1 : k = 1 ∧ i = 0 ∧ j = x
      · obtain ⟨rfl, rfl, rfl⟩ := h1
        simp [jup]
        show _ = va_rf _
        simp [cmk]
        rfl
      · have e : jup (jup (jup (jup (jup (jup (jnw (jnw (jv ad σ τ) 8 x (fun j => defaultValue (ty_P j))) 9 x (fun _ => .int 0)) 8 x 3 (.ref (ad 9 x))) 8 x 5 (.int 0)) 8 x 0 (.int (nI x))) 8 x 1 (.int b)) 8 x 2 (.ref (ad 6 r))) 1 0 x (.ref (ad 8 x)) k i j = jv ad σ τ k i j := by
          have n8 : ∀ q, ¬ (k = 8 ∧ i = x ∧ j = q) := fun q z => h8 ⟨z.1, z.2.1⟩
          simp only [jup, jnw]
          rw [if_neg h1, if_neg (n8 2), if_neg (n8 1), if_neg (n8 0), if_neg (n8 5), if_neg (n8 3), if_neg h9, if_neg h8]
        rw [e]
        refine jv_congr ?_ ?_ rfl
        · simp only [cmk]
          rw [if_neg, if_neg]
          · exact fun z => h8 ⟨z.1, z.2.1⟩
          · rintro ⟨z1, z2 | z2⟩
            · exact h8 ⟨z2.1, z1⟩
            · exact h9 ⟨z2, z1⟩
        · simp only [cmk]
          rw [if_neg h1, if_neg h8]
theorem nI_self {a : Int32} (h : ¬ a < 0) : nI a.toNatClampNeg = a := by
  obtain ⟨j, hj, rfl⟩ := nI_of h
  rw [nI_clamp hj]
set_option maxRecDepth 100000 in
set_option maxHeartbeats 4000000 in
theorem k_make_no {l : Launch} {D : va_G} {E : Nat → ClassId} {ad : Nat → Nat → Nat} {lv : Nat → Nat → Prop} {σ τ : sT} (h : OKs σ lv) {a b : Int32} (hc : ¬ mkOK σ a b) : jM l y_X_make c_X_make 3 (some .boolean) 0 D E ad lv (jv ad σ τ) [.ref (ad 0 0), .int (a), .int (b)] (some (.int 0)) (jv ad σ τ) := by
  intro sz
  refine jC.of "InputRoom" (by decide +kernel) rfl rfl (Nat.le_of_ble_eq_true rfl) (by intro v hv; simp only [List.mem_cons, List.not_mem_nil, or_false] at hv; rcases hv with rfl | rfl | rfl <;> first | rfl | exact jrf_cat _) ?_
  intro p e s m below meth c C hK hret hlk hnm hsz hAz
  have hb0 : lv 0 0 := h.k (by decide)
  have hb1 : lv 1 0 := h.k (by decide)
  have hb2 : lv 2 0 := h.k (by decide)
  refine j_iload_n C d_X_make_0 rfl rfl ?_
  refine j_if_lt C 19 d_X_make_1 rfl (fun g1 => ?_) (fun g1 => ?_)
  ·
    refine j_iconst (v := 0) C d_X_make_19 (by decide) ?_
    refine j_zret C hret hlk (by first | rfl | decide) d_X_make_20 ?_ ?_ rfl rfl
    · rfl
    · rfl
  ·
    refine j_iload_n C d_X_make_4 rfl rfl ?_
    refine j_bipush (v := 32) C d_X_make_5 (by decide) ?_
    refine j_icmp_ge C 19 d_X_make_7 rfl (fun g2 => ?_) (fun g2 => ?_)
    ·
      refine j_iconst (v := 0) C d_X_make_19 (by decide) ?_
      refine j_zret C hret hlk (by first | rfl | decide) d_X_make_20 ?_ ?_ rfl rfl
      · rfl
      · rfl
    ·
      refine j_aload_n C d_X_make_10 rfl rfl ?_
      refine sgC C hK 0 0 0 d_X_make_11 in_X rfl rfl (by decide) t_106 rfl rfl rfl (by assumption) ?_
      refine j_iload_n C d_X_make_14 rfl rfl ?_
      refine saR (t := 8) C hK 1 0 d_X_make_15 rfl (vin g1 g2 rfl) rfl rfl (by assumption) ?_
      refine jnull (o := σ.2.1 1 0 (a).toNatClampNeg) (t := 8) C 21 d_X_make_16 rfl (fun g3 => ?_) (fun x4 g3 => ?_)
      ·
        try rw [g3]
        refine j_iload_n C d_X_make_21 rfl rfl ?_
        refine j_iconst (v := 1) C d_X_make_22 (by decide) ?_
        refine j_icmp_lt C 32 d_X_make_23 rfl (fun g5 => ?_) (fun g5 => ?_)
        ·
          refine j_iconst (v := 0) C d_X_make_32 (by decide) ?_
          refine j_zret C hret hlk (by first | rfl | decide) d_X_make_33 ?_ ?_ rfl rfl
          · rfl
          · rfl
        ·
          refine j_iload_n C d_X_make_26 rfl rfl ?_
          refine j_bipush (v := 8) C d_X_make_27 (by decide) ?_
          refine j_icmp_le C 34 d_X_make_29 rfl (fun g6 => ?_) (fun g6 => ?_)
          ·
            exact absurd ⟨g1, g2, g3, g5, g6⟩ hc
          ·
            refine j_iconst (v := 0) C d_X_make_32 (by decide) ?_
            refine j_zret C hret hlk (by first | rfl | decide) d_X_make_33 ?_ ?_ rfl rfl
            · rfl
            · rfl
      ·
        try rw [g3]
        refine j_iconst (v := 0) C d_X_make_19 (by decide) ?_
        refine j_zret C hret hlk (by first | rfl | decide) d_X_make_20 ?_ ?_ rfl rfl
        · rfl
        · rfl
set_option maxRecDepth 100000 in
set_option maxHeartbeats 4000000 in
theorem k_make_yes {l : Launch} {D : va_G} {E : Nat → ClassId} {ad : Nat → Nat → Nat} {lv : Nat → Nat → Prop} {σ τ : sT} (h : OKs σ lv) {a b : Int32} (hc : mkOK σ a b) (hf8 : ¬ lv 8 a.toNatClampNeg) (hf9 : ¬ lv 9 a.toNatClampNeg) (sz : Nat) (had8 : ad 8 a.toNatClampNeg = sz) (had9 : ad 9 a.toNatClampNeg = sz + 1) : jC l y_X_make (Cond.code y_X_make c_X_make 3 (some .boolean) :: jT) { frames := 2, cells := 2, slots := 15, locals := 60 } D jcl jY E ad lv sz (jv ad σ τ) [.ref (ad 0 0), .int a, .int b] (some (.int 1)) (jlv (jlv lv 8 a.toNatClampNeg) 9 a.toNatClampNeg) (jv ad (cmk σ a.toNatClampNeg (b - 1).toNatClampNeg b) τ) (sz + 2) 2 15 := by
  refine jC.of "InputRoom" (by decide +kernel) rfl rfl (Nat.le_of_ble_eq_true rfl) (by intro v hv; simp only [List.mem_cons, List.not_mem_nil, or_false] at hv; rcases hv with rfl | rfl | rfl <;> first | rfl | exact jrf_cat _) ?_
  intro p e s m below meth c C hK hret hlk hnm hsz hAz
  have hb0 : lv 0 0 := h.k (by decide)
  have hb1 : lv 1 0 := h.k (by decide)
  have hb2 : lv 2 0 := h.k (by decide)
  have b1 : 1 ≤ b.toInt := by have q := hc.2.2.2.1; rw [i32_lt, show (1 : Int32).toInt = 1 from rfl] at q; omega
  have b8 : b.toInt ≤ 8 := by have q := hc.2.2.2.2; rw [i32_le, show (8 : Int32).toInt = 8 from rfl] at q; omega
  have es : (b - 1).toInt = b.toInt - 1 := i32_dec (by omega)
  have rin : vp_in (b - 1) 8 := by rw [vp_in_iff]; omega
  refine j_iload_n C d_X_make_0 rfl rfl ?_
  refine j_if_lt C 19 d_X_make_1 rfl (fun g1 => absurd g1 hc.1) (fun _ => ?_)
  refine j_iload_n C d_X_make_4 rfl rfl ?_
  refine j_bipush (v := 32) C d_X_make_5 (by decide) ?_
  refine j_icmp_ge C 19 d_X_make_7 rfl (fun g2 => absurd g2 hc.2.1) (fun _ => ?_)
  refine j_aload_n C d_X_make_10 rfl rfl ?_
  refine sgC C hK 0 0 0 d_X_make_11 in_X rfl rfl (by decide) t_106 rfl rfl rfl (by assumption) ?_
  refine j_iload_n C d_X_make_14 rfl rfl ?_
  refine saR (t := 8) C hK 1 0 d_X_make_15 rfl (vin hc.1 hc.2.1 rfl) rfl rfl (by assumption) ?_
  rw [hc.2.2.1]
  refine j_ifnull (o := none) C 21 d_X_make_16 rfl (fun _ => ?_) (fun _ q => by cases q)
  refine j_iload_n C d_X_make_21 rfl rfl ?_
  refine j_iconst (v := 1) C d_X_make_22 (by decide) ?_
  refine j_icmp_lt C 32 d_X_make_23 rfl (fun g5 => absurd g5 hc.2.2.2.1) (fun _ => ?_)
  refine j_iload_n C d_X_make_26 rfl rfl ?_
  refine j_bipush (v := 8) C d_X_make_27 (by decide) ?_
  refine j_icmp_le C 34 d_X_make_29 rfl (fun _ => ?_) (fun g6 => absurd hc.2.2.2.2 g6)
  refine j_aload_n C d_X_make_34 rfl rfl ?_
  refine sgC C hK 0 0 0 d_X_make_35 in_X rfl rfl (by decide) t_106 rfl rfl rfl hb0 ?_
  refine j_iload_n C d_X_make_38 rfl rfl ?_
  refine j_new C hK hAz 8 a.toNatClampNeg ty_P tk_P d_X_make_39 in_P t_46 t_147 t_36 rfl rfl hf8 had8 (by decide) (by decide) ?_
  refine j_dup C d_X_make_42 rfl ?_
  refine j_iload_n C d_X_make_43 rfl rfl ?_
  refine j_iload_n C d_X_make_44 rfl rfl ?_
  refine j_aload_n C d_X_make_45 rfl rfl ?_
  refine j_get C hK 0 0 1 d_X_make_46 in_X rfl rfl (by decide) t_107 rfl (Or.inl hb0) ?_
  refine j_iload_n C d_X_make_49 rfl rfl ?_
  refine j_iconst (v := 1) C d_X_make_50 (by decide) ?_
  refine j_isub C d_X_make_51 ?_
  refine j_aald C hK 2 0 d_X_make_52 rfl rin (Or.inl hb2) ?_
  refine j_callI C hK hAz (i_Proc (x := a.toNatClampNeg) (r := (b - 1).toNatClampNeg) (a := a) (b := b) (Or.inr ⟨rfl, rfl⟩) (by rintro (q | q) <;> first | exact hf9 q | omega) _ had9) ⟨jcB C mi_P_init t_148 rfl rfl ⟨by decide, by decide⟩, rfl, C.2.2.2.2 _ t_149⟩ rfl rfl (Nat.le_of_ble_eq_true rfl) d_X_make_53 ⟨by decide, by decide⟩ ?_
  refine j_aast C hK 1 0 8 a.toNatClampNeg d_X_make_56 rfl rfl rfl (vin hc.1 hc.2.1 rfl) (Or.inl (Or.inl hb1)) (Or.inl (Or.inr ⟨rfl, rfl⟩)) ?_
  refine j_iconst (v := 1) C d_X_make_57 (by decide) ?_
  refine j_Vc (V' := jv ad (cmk σ a.toNatClampNeg (b - 1).toNatClampNeg b) τ) ?_ ?_
  · have e := nI_self hc.1
    have e2 := vmk (ad := ad) (σ := σ) (τ := τ) (x := a.toNatClampNeg) (r := (b - 1).toNatClampNeg) (b := b) (lv := jlv (jlv lv 8 a.toNatClampNeg) 9 a.toNatClampNeg)
    rw [e] at e2
    exact e2
  · exact j_zret C hret hlk (by first | rfl | decide) d_X_make_58 rfl rfl rfl rfl
