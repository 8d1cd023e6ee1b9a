/-! THE REFERENCE'S FACE, as functions on its store -/
abbrev isM (τ : sT) (a : Int32) : Prop := ¬ a < 0 ∧ ¬ 32 ≤ a ∧ ¬ τ.1 11 0 a.toNatClampNeg = 0
def d_make (τ : sT) (p q : Int32) : Int32 × sT := if p < 0 then (0, τ) else if 32 ≤ p then (0, τ) else if τ.1 11 0 p.toNatClampNeg = 0 then (if q < 1 then (0, τ) else if q ≤ 8 then (1, sI (sI τ 11 0 p.toNatClampNeg 1) 12 0 p.toNatClampNeg q) else (0, τ)) else (0, τ)
def d_plan (τ : sT) (p i a : Int32) : Int32 × sT := if isM τ p then (if i < 0 then (-1, τ) else if 7 < i then (-1, τ) else if a < 0 then (-1, τ) else if a ≤ 127 then (τ.1 13 0 (8 * p + i).toNatClampNeg, sI τ 13 0 (8 * p + i).toNatClampNeg a) else (-1, τ)) else (-1, τ)
def d_wake (τ : sT) (p : Int32) : Int32 × sT := if isM τ p then (if τ.1 15 0 p.toNatClampNeg = 0 then (if p = τ.1 10 0 8 then (0, τ) else if p = mf_pres τ then (0, τ) else (1, mf_rouse τ p)) else (0, τ)) else (0, τ)
def d_suspend (τ : sT) : Int32 × sT := (mf_pres τ, if mf_pres τ < 0 then τ else mf_aside τ)
def d_signal (τ : sT) (s : Int32) : Int32 × sT := if isS s then (1, mf_sig τ s) else (0, τ)
def d_listen (τ : sT) (s : Int32) : Int32 × sT := if s = -1 then (1, sI τ 10 0 14 s) else if isS s then (1, sI τ 10 0 14 s) else (0, τ)
def d_alarm (τ : sT) (s t : Int32) : Int32 × sT := if s = -1 then (1, sI τ 10 0 15 (-1)) else if isS s then (if t < 0 then (0, τ) else if t ≤ 1000000 then (1, sI (sI τ 10 0 15 s) 10 0 16 t) else (0, τ)) else (0, τ)
def d_w1 (τ : sT) (w : Int32) : sT := sI τ 18 0 (τ.1 10 0 12).toNatClampNeg w
def d_w2 (τ : sT) (w : Int32) : sT := sI (d_w1 τ w) 10 0 12 ((d_w1 τ w).1 10 0 12 + 1)
def d_w3 (τ : sT) (w : Int32) : sT := sI (d_w2 τ w) 10 0 13 ((d_w2 τ w).1 10 0 13 + 1)
def d_word (τ : sT) (w : Int32) : Int32 × sT := if w < 0 then (-1, τ) else if 65535 < w then (-1, τ) else if τ.1 10 0 12 = 64 then (-1, τ) else ((d_w3 τ w).1 10 0 12, d_w3 τ w)
def d_run0 (τ : sT) : sT := if 0 ≤ τ.1 10 0 8 then τ else mf_behind τ
def d_run (τ : sT) (n : Int32) : Int32 × sT := if n < 1 then (-1, τ) else if n ≤ 1000 then (0 + nI (mf_loop n.toNatClampNeg (d_run0 τ)).1, (mf_loop n.toNatClampNeg (d_run0 τ)).2) else (-1, τ)
def d_done (τ : sT) (p : Int32) : Int32 := if isM τ p then τ.1 14 0 p.toNatClampNeg else -1
def d_row (τ : sT) (p : Int32) : Int32 := if isM τ p then τ.1 15 0 p.toNatClampNeg else -1
def d_extra (τ : sT) (s : Int32) : Int32 := if isS s then τ.1 17 0 s.toNatClampNeg else -1
def d_wordAt (τ : sT) (i : Int32) : Int32 := if i < 0 then -1 else if τ.1 10 0 12 ≤ i then -1 else τ.1 18 0 i.toNatClampNeg
def d_tick (τ : sT) : Int32 := if τ.1 10 0 15 < 0 then -1 else τ.1 10 0 16
def mf_bt (τ : sT) (r : Int32) (p q : Nat) (b : Int32) : Int32 := if τ.1 11 0 (nI q).toNatClampNeg = 0 then b else if τ.1 15 0 (nI q).toNatClampNeg = r then (if 0 ≤ lg_cmp (τ.2.2 16 0 (nI q).toNatClampNeg) (τ.2.2 16 0 (nI p).toNatClampNeg) then b else b + 1) else b
def mf_bl (τ : sT) (r : Int32) (p : Nat) : Nat → Nat → Int32 → Int32
  | 0, _, b => b
  | n + 1, q, b => mf_bl τ r p n (q + 1) (mf_bt τ r p q b)
def mf_at1 (τ : sT) (r i : Int32) : Nat → Nat → Int32
  | 0, _ => -1
  | n + 1, p => if τ.1 11 0 (nI p).toNatClampNeg = 0 then mf_at1 τ r i n (p + 1) else if τ.1 15 0 (nI p).toNatClampNeg = r then (if mf_bl τ r p 32 0 0 = i then nI p else mf_at1 τ r i n (p + 1)) else mf_at1 τ r i n (p + 1)
abbrev isRw (r : Int32) : Prop := (¬ r < 1 ∧ r ≤ 8) ∨ (¬ r < 16 ∧ ¬ 31 < r)
def d_at (τ : sT) (r i : Int32) : Int32 := if isRw r then (if 0 ≤ i then mf_at1 τ r i 32 0 else -1) else -1
theorem isM_yes {τ : sT} {a : Int32} (h : ¬ (if a < 0 then (0 : Int32) else if 32 ≤ a then 0 else if τ.1 11 0 a.toNatClampNeg = 0 then 0 else 1) = 0) : isM τ a := by
  refine ⟨fun q => h (if_pos q), fun q => h ?_, fun q => h ?_⟩
  · split
    · rfl
    · first | rfl | rw [if_pos q]
  · split
    · rfl
    split
    · rfl
    · first | rfl | rw [if_pos q]
theorem isM_no {τ : sT} {a : Int32} (h : (if a < 0 then (0 : Int32) else if 32 ≤ a then 0 else if τ.1 11 0 a.toNatClampNeg = 0 then 0 else 1) = 0) : ¬ isM τ a := by
  rintro ⟨h1, h2, h3⟩
  rw [if_neg h1, if_neg h2, if_neg h3] at h
  exact absurd h (by decide)
theorem isM_in {τ : sT} {a : Int32} (h : isM τ a) : vp_in a 32 := vin h.1 h.2.1 rfl
theorem i32_8 : (8 : Int32).toInt = 8 := rfl
theorem mul8 {p : Int32} (h0 : 0 ≤ p.toInt) (h1 : p.toInt < 32) : (8 * p).toInt = 8 * p.toInt := by
  rw [Int32.toInt_mul, i32_8]
  apply Int.bmod_eq_of_le <;> omega
theorem idx_in {p d : Int32} (h0 : 0 ≤ p.toInt) (h1 : p.toInt < 32) (h2 : 0 ≤ d.toInt) (h3 : d.toInt < 8) : vp_in (8 * p + d) 256 := by
  rw [vp_in_iff, Int32.toInt_add, mul8 h0 h1]
  have e : (8 * p.toInt + d.toInt).bmod (2 ^ 32) = 8 * p.toInt + d.toInt := by apply Int.bmod_eq_of_le <;> omega
  rw [e]
  omega
theorem rem8 {d : Int32} (h : 0 ≤ d.toInt) : 0 ≤ (d - d / 8 * 8).toInt ∧ (d - d / 8 * 8).toInt < 8 := by
  rw [rem_toInt, i32_8]
  have h1 := Int.tmod_nonneg 8 h
  have h2 := tmod_bounds (a := d.toInt) (M := 8) (by omega)
  omega
theorem okm_done {τ : sT} {lv : Nat → Nat → Prop} {N : Int} (h : OKm τ lv N) (hN : N < 2147483647) {p : Nat} (hp : p < 32) : OKm (sI τ 14 0 p (τ.1 14 0 p + 1)) lv (N + 1) := by
  obtain ⟨h0, h1, h2, h3, h4, h5, h6, h7⟩ := h
  refine ⟨h0, by simpa [sI] using h1, by simpa [sI] using h2, by simpa [sI] using h3, by simpa [sI] using h4, by simpa [sI] using h5, by simpa [sI] using h6, fun q hq => ?_⟩
  have hp7 := h7 p hp
  have hq7 := h7 q hq
  by_cases e : q = p
  · subst e
    have e1 : (sI τ 14 0 q (τ.1 14 0 q + 1)).1 14 0 q = τ.1 14 0 q + 1 := by simp [sI]
    rw [e1, i32_inc (by omega)]
    omega
  · have e1 : (sI τ 14 0 p (τ.1 14 0 p + 1)).1 14 0 q = τ.1 14 0 q := by simp [sI, e]
    rw [e1]
    omega
theorem okm_code {τ : sT} {lv : Nat → Nat → Prop} {N : Int} (h : OKm τ lv N) (hN : N < 2147483647) (ha : ¬ τ.1 10 0 8 < 0) : OKm (mf_code τ) lv (N + 1) := by
  have hl : (τ.1 10 0 8).toNatClampNeg < 32 := by
    rw [i32_lt, i32_0] at ha
    have := h.2.1
    rw [toN]
    omega
  exact ((okm_act (okm_done h hN hl)).L).o (by omega) (by omega)
theorem sub5 {a b c x y : Option Value} (i : Nat) (v : Value) (h : ([a, b, c, none, none] : List (Option Value))[i]? = some (some v)) : ([a, b, c, x, y] : List (Option Value))[i]? = some (some v) := by
  match i, h with
  | 0, h => exact h
  | 1, h => exact h
  | 2, h => exact h
  | 3, h => cases h
  | 4, h => cases h
  | n + 5, h => cases h
set_option maxRecDepth 100000 in
set_option maxHeartbeats 4000000 in
theorem lp_mrun {l : Launch} {D : va_G} {E : Nat → ClassId} {ad : Nat → Nat → Nat} {lv : Nat → Nat → Prop} {σ : sT} {V1 : jVT} {a : Int32} {R0 : Option Value} {p : Program} {e : Env} {s : State} {m : MethodId} {below : List Frame} {meth : Method} {c : Code} {sz : Nat} (C : CallFix p m c c_M_run 5 s ([.ref (ad 10 0), .int (a)] : List Value).toArray jT "InputRoomModel") (hK : jK D jcl jY E s) (hret : meth.sig.returnType = some .int) (hlk : meth.locks = false) (hAz : ∀ q, s.heap.size ≤ q → jA ad lv sz q) : ∀ (n : Nat) (τ1 : sT) (i : Int32) (N : Int), OKm τ1 lv N → N + n < 2147483647 → i.toInt + n = a.toInt → R0 = some (.int (i + nI (mf_loop n τ1).1)) → jv ad σ (mf_loop n τ1).2 = V1 → JM l y_M_run c_M_run 5 (some .int) 4 D E ad lv p e s m below meth c sz [.ref (ad 10 0), .int (a)] R0 (V1) (jv ad σ τ1) 27 [some (.ref (ad 10 0)), some (.int (a)), some (.int (i)), none, none] [] := by
  intro n
  induction n with
  | zero =>
    intro τ1 i N h1 hN hi hR hV
    have hge : a ≤ i := by rw [i32_le]; omega
    refine j_iload_n C d_M_run_27 rfl rfl ?_
    refine j_iload_n C d_M_run_28 rfl rfl ?_
    refine j_icmp_ge C 136 d_M_run_29 rfl (fun _ => ?_) (fun g1 => absurd hge g1)
    refine j_iload_n C d_M_run_136 rfl rfl ?_
    refine j_iret C hret hlk d_M_run_137 ?_ ?_ rfl rfl
    · rw [hR]; rw [show (mf_loop 0 τ1).1 = 0 from rfl, nI_0, Int32.add_zero]
    · exact hV
  | succ n ih =>
    intro τ1 i N h1 hN hi hR hV
    have hlt : i.toInt < a.toInt := by omega
    have hge : ¬ a ≤ i := by rw [i32_le]; omega
    have hb10 : lv 10 0 := h1.k (by decide) (by decide)
    have hb13 : lv 13 0 := h1.k (by decide) (by decide)
    have hb14 : lv 14 0 := h1.k (by decide) (by decide)
    refine j_iload_n C d_M_run_27 rfl rfl ?_
    refine j_iload_n C d_M_run_28 rfl rfl ?_
    refine j_icmp_ge C 136 d_M_run_29 rfl (fun g1 => absurd g1 hge) (fun _ => ?_)
    refine j_aload_n C d_M_run_32 rfl rfl ?_
    refine tgI C hK 10 0 8 d_M_run_33 in_M rfl rfl (by decide) t_384 rfl rfl rfl (by assumption) ?_
    refine j_if_lt C 136 d_M_run_36 rfl (fun g2 => ?_) (fun g2 => ?_)
    ·
      refine j_iload_n C d_M_run_136 rfl rfl ?_
      refine j_iret C hret hlk d_M_run_137 ?_ ?_ rfl rfl
      · rw [hR]; rw [show (mf_loop (n + 1) τ1).1 = 0 by rw [mf_loop, if_pos g2], nI_0, Int32.add_zero]
      · rw [← hV]; rw [mf_loop, if_pos g2]
    ·
      refine j_aload_n C d_M_run_39 rfl rfl ?_
      refine tgI C hK 10 0 8 d_M_run_40 in_M rfl rfl (by decide) t_384 rfl rfl rfl (by assumption) ?_
      refine j_istore_n C d_M_run_43 rfl (by decide) ?_
      have hp : vp_in (τ1.1 10 0 8) 32 := vin2 g2 h1.2.1
      have hp2 := vp_in_iff.mp hp
      have hpl : (τ1.1 10 0 8).toNatClampNeg < 32 := by rw [toN]; omega
      have hd := (h1.2.2.2.2.2.2.2 _ hpl).1
      have hx := rem8 hd
      have hix := idx_in (p := τ1.1 10 0 8) hp2.1 (by omega) hx.1 hx.2
      refine j_aload_n C d_M_run_44 rfl rfl ?_
      refine tgC C hK 10 0 2 d_M_run_45 in_M rfl rfl (by decide) t_378 rfl rfl rfl (by assumption) ?_
      refine j_bipush (v := 8) C d_M_run_48 (by decide) ?_
      refine j_iload_n C d_M_run_50 rfl rfl ?_
      refine j_imul C d_M_run_51 ?_
      refine j_aload_n C d_M_run_52 rfl rfl ?_
      refine tgC C hK 10 0 3 d_M_run_53 in_M rfl rfl (by decide) t_379 rfl rfl rfl (by assumption) ?_
      refine j_iload_n C d_M_run_56 rfl rfl ?_
      refine tia C hK 14 0 d_M_run_57 rfl hp rfl rfl (by assumption) ?_
      refine j_bipush (v := 8) C d_M_run_58 (by decide) ?_
      refine j_irem C d_M_run_60 (by first | assumption | decide) ?_
      refine j_iadd C d_M_run_61 ?_
      refine tia C hK 13 0 d_M_run_62 rfl hix rfl rfl (by assumption) ?_
      refine j_istore C d_M_run_63 (by decide) ?_
      refine j_aload_n C d_M_run_65 rfl rfl ?_
      refine tgC C hK 10 0 3 d_M_run_66 in_M rfl rfl (by decide) t_379 rfl rfl rfl (by assumption) ?_
      refine j_iload_n C d_M_run_69 rfl rfl ?_
      refine j_aload_n C d_M_run_70 rfl rfl ?_
      refine tgC C hK 10 0 3 d_M_run_71 in_M rfl rfl (by decide) t_379 rfl rfl rfl (by assumption) ?_
      refine j_iload_n C d_M_run_74 rfl rfl ?_
      refine tia C hK 14 0 d_M_run_75 rfl hp rfl rfl (by assumption) ?_
      refine j_iconst (v := 1) C d_M_run_76 (by decide) ?_
      refine j_iadd C d_M_run_77 ?_
      refine tia_st C hK 14 0 d_M_run_78 rfl hp rfl rfl (by assumption) ?_
      refine j_aload_n C d_M_run_79 rfl rfl ?_
      refine j_iload C d_M_run_80 rfl ?_
      refine j_callV C hK hAz 10 0 (m_act (a := mf_a τ1) (okm_done h1 (by omega) hpl) _) (jcV C mi_M_act t_478 t_480 t_24 rfl rfl ⟨by decide, by decide⟩) rfl rfl (by assumption) rfl rfl (Nat.le_of_ble_eq_true rfl) d_M_run_82 ⟨Nat.zero_le _, Nat.zero_le _⟩ ?_
      refine j_aload_n C d_M_run_85 rfl rfl ?_
      refine j_aload_n C d_M_run_86 rfl rfl ?_
      refine tgL C hK 10 0 18 d_M_run_87 in_M rfl rfl (by decide) t_394 rfl rfl rfl (by assumption) ?_
      refine j_lconst (v := 1) C d_M_run_90 (by decide) ?_
      refine j_ladd C d_M_run_91 ?_
      refine tpL C hK 10 0 18 ty_M tk_M nm_M d_M_run_92 in_M rfl rfl (by decide) t_394 rfl rfl rfl rfl (((mf_act (sI τ1 14 0 (τ1.1 10 0 8).toNatClampNeg (τ1.1 14 0 (τ1.1 10 0 8).toNatClampNeg + 1)) (mf_a τ1)).2.2 10 0 18 + 1)) rfl rfl (by assumption) ?_
      refine j_aload_n C d_M_run_95 rfl rfl ?_
      refine j_aload_n C d_M_run_96 rfl rfl ?_
      refine tgL C hK 10 0 18 d_M_run_97 in_M rfl rfl (by decide) t_394 rfl rfl rfl (by assumption) ?_
      refine j_ldc2 C d_M_run_100 t_498 ?_
      refine j_lrem C d_M_run_103 (by decide) ?_
      refine j_lconst (v := 0) C d_M_run_104 (by decide) ?_
      refine j_lcmp C d_M_run_105 ?_
      refine j_if_ne C 118 d_M_run_106 rfl (fun g3 => ?_) (fun g3 => ?_)
      ·
        refine j_aload_n C d_M_run_118 rfl rfl ?_
        refine tgI C hK 10 0 17 d_M_run_119 in_M rfl rfl (by decide) t_393 rfl rfl rfl (by assumption) ?_
        refine tpI C hK 10 0 17 ty_M tk_M nm_M d_M_run_122 in_M rfl rfl (by decide) t_393 rfl rfl rfl rfl ((sL (mf_act (sI τ1 14 0 (τ1.1 10 0 8).toNatClampNeg (τ1.1 14 0 (τ1.1 10 0 8).toNatClampNeg + 1)) (mf_a τ1)) 10 0 18 (((mf_act (sI τ1 14 0 (τ1.1 10 0 8).toNatClampNeg (τ1.1 14 0 (τ1.1 10 0 8).toNatClampNeg + 1)) (mf_a τ1)).2.2 10 0 18 + 1))).1 10 0 17) rfl rfl (by assumption) ?_
        refine j_V (V' := jv ad σ (mf_code τ1)) (by unfold mf_code; dsimp only; rw [if_neg (fun z => g3 ((lg_cmp_eq _ _).mpr z))]) ?_
        have ok2 : OKm (mf_code τ1) lv (N + 1) := okm_code h1 (by omega) g2
        refine j_aload_n C d_M_run_125 rfl rfl ?_
        refine j_callV C hK hAz 10 0 (m_behind ok2 _) (jcV C mi_M_behind t_446 t_448 t_16 rfl rfl ⟨by decide, by decide⟩) rfl rfl (by assumption) rfl rfl (Nat.le_of_ble_eq_true rfl) d_M_run_126 ⟨Nat.zero_le _, Nat.zero_le _⟩ ?_
        refine j_iload_n C d_M_run_129 rfl rfl ?_
        refine j_iconst (v := 1) C d_M_run_130 (by decide) ?_
        refine j_iadd C d_M_run_131 ?_
        refine j_istore_n C d_M_run_132 rfl (by decide) ?_
        refine j_goto C 27 d_M_run_133 rfl ?_
        have e1 : mf_loop (n + 1) τ1 = ((mf_loop n (mf_behind (mf_code τ1))).1 + 1, (mf_loop n (mf_behind (mf_code τ1))).2) := by rw [mf_loop, if_neg g2]
        refine j_sub _ sub5 ?_
        have ei : (i + 1).toInt = i.toInt + 1 := i32_succ (x := i) hlt
        refine ih (mf_behind (mf_code τ1)) (i + 1) (N + 1) (okm_behind ok2) (by omega) (by rw [ei]; omega) ?_ ?_
        · rw [hR, e1, nI_succ, Int32.add_assoc, Int32.add_comm (nI _) 1]
        · rw [← hV, e1]
      ·
        refine j_aload_n C d_M_run_109 rfl rfl ?_
        refine tgI C hK 10 0 17 d_M_run_110 in_M rfl rfl (by decide) t_393 rfl rfl rfl (by assumption) ?_
        refine j_iconst (v := 1) C d_M_run_113 (by decide) ?_
        refine j_iadd C d_M_run_114 ?_
        refine j_goto C 122 d_M_run_115 rfl ?_
        refine tpI C hK 10 0 17 ty_M tk_M nm_M d_M_run_122 in_M rfl rfl (by decide) t_393 rfl rfl rfl rfl (((sL (mf_act (sI τ1 14 0 (τ1.1 10 0 8).toNatClampNeg (τ1.1 14 0 (τ1.1 10 0 8).toNatClampNeg + 1)) (mf_a τ1)) 10 0 18 (((mf_act (sI τ1 14 0 (τ1.1 10 0 8).toNatClampNeg (τ1.1 14 0 (τ1.1 10 0 8).toNatClampNeg + 1)) (mf_a τ1)).2.2 10 0 18 + 1))).1 10 0 17 + 1)) rfl rfl (by assumption) ?_
        refine j_V (V' := jv ad σ (mf_code τ1)) (by unfold mf_code; dsimp only; rw [if_pos ((lg_cmp_eq _ _).mp g3)]) ?_
        have ok2 : OKm (mf_code τ1) lv (N + 1) := okm_code h1 (by omega) g2
        refine j_aload_n C d_M_run_125 rfl rfl ?_
        refine j_callV C hK hAz 10 0 (m_behind ok2 _) (jcV C mi_M_behind t_446 t_448 t_16 rfl rfl ⟨by decide, by decide⟩) rfl rfl (by assumption) rfl rfl (Nat.le_of_ble_eq_true rfl) d_M_run_126 ⟨Nat.zero_le _, Nat.zero_le _⟩ ?_
        refine j_iload_n C d_M_run_129 rfl rfl ?_
        refine j_iconst (v := 1) C d_M_run_130 (by decide) ?_
        refine j_iadd C d_M_run_131 ?_
        refine j_istore_n C d_M_run_132 rfl (by decide) ?_
        refine j_goto C 27 d_M_run_133 rfl ?_
        have e1 : mf_loop (n + 1) τ1 = ((mf_loop n (mf_behind (mf_code τ1))).1 + 1, (mf_loop n (mf_behind (mf_code τ1))).2) := by rw [mf_loop, if_neg g2]
        refine j_sub _ sub5 ?_
        have ei : (i + 1).toInt = i.toInt + 1 := i32_succ (x := i) hlt
        refine ih (mf_behind (mf_code τ1)) (i + 1) (N + 1) (okm_behind ok2) (by omega) (by rw [ei]; omega) ?_ ?_
        · rw [hR, e1, nI_succ, Int32.add_assoc, Int32.add_comm (nI _) 1]
        · rw [← hV, e1]
set_option maxRecDepth 100000 in
set_option maxHeartbeats 4000000 in
theorem m_run {l : Launch} {D : va_G} {E : Nat → ClassId} {ad : Nat → Nat → Nat} {lv : Nat → Nat → Prop} {σ τ : sT} {N : Int} (h : OKm τ lv N) (hN : N + 1000 < 2147483647) {a : Int32} : jM l y_M_run c_M_run 5 (some .int) 4 D E ad lv (jv ad σ τ) [.ref (ad 10 0), .int (a)] (some (.int (d_run τ a).1)) (jv ad σ (d_run τ a).2) := by
  intro sz
  refine jC.of "InputRoomModel" (by decide +kernel) rfl rfl (Nat.le_of_ble_eq_true rfl) (by intro v hv; simp only [List.mem_cons, List.not_mem_nil, or_false] at hv; rcases hv with rfl | rfl <;> first | rfl | exact jrf_cat _) ?_
  intro p e s m below meth c C hK hret hlk hnm hsz hAz
  have hb10 : lv 10 0 := h.k (by decide) (by decide)
  have hb11 : lv 11 0 := h.k (by decide) (by decide)
  have hb12 : lv 12 0 := h.k (by decide) (by decide)
  have hb13 : lv 13 0 := h.k (by decide) (by decide)
  have hb14 : lv 14 0 := h.k (by decide) (by decide)
  have hb15 : lv 15 0 := h.k (by decide) (by decide)
  have hb16 : lv 16 0 := h.k (by decide) (by decide)
  have hb17 : lv 17 0 := h.k (by decide) (by decide)
  have hb18 : lv 18 0 := h.k (by decide) (by decide)
  have hb19 : lv 19 0 := h.k (by decide) (by decide)
  refine j_iload_n C d_M_run_0 rfl rfl ?_
  refine j_iconst (v := 1) C d_M_run_1 (by decide) ?_
  refine j_icmp_lt C 12 d_M_run_2 rfl (fun g1 => ?_) (fun g1 => ?_)
  ·
    refine j_iconst (v := -1) C d_M_run_12 (by decide) ?_
    refine j_iret C hret hlk d_M_run_13 ?_ ?_ rfl rfl
    · rw [d_run, if_pos g1]
    · rw [d_run, if_pos g1]
  ·
    refine j_iload_n C d_M_run_5 rfl rfl ?_
    refine j_sipush (v := 1000) C d_M_run_6 (by decide) ?_
    refine j_icmp_le C 14 d_M_run_9 rfl (fun g2 => ?_) (fun g2 => ?_)
    ·
      refine j_aload_n C d_M_run_14 rfl rfl ?_
      refine tgI C hK 10 0 8 d_M_run_15 in_M rfl rfl (by decide) t_384 rfl rfl rfl (by assumption) ?_
      refine j_if_ge C 25 d_M_run_18 rfl (fun g3 => ?_) (fun g3 => ?_)
      ·
        refine j_iconst (v := 0) C d_M_run_25 (by decide) ?_
        refine j_istore_n C d_M_run_26 rfl (by decide) ?_
        have e0 : d_run0 τ = τ := by simp only [d_run0, g3, if_true, if_false]
        have e1 : d_run τ a = (0 + nI (mf_loop a.toNatClampNeg τ).1, (mf_loop a.toNatClampNeg τ).2) := by rw [d_run, if_neg g1, if_pos g2, e0]
        have q1 : 1 ≤ a.toInt := by rw [i32_lt, show (1 : Int32).toInt = 1 from rfl] at g1; omega
        have q2 : a.toInt ≤ 1000 := by rw [i32_le, show (1000 : Int32).toInt = 1000 from rfl] at g2; omega
        refine lp_mrun C hK hret hlk hAz a.toNatClampNeg τ 0 N h (by rw [toN]; omega) (by rw [toN, i32_0]; omega) (by rw [e1]) (by rw [e1])
      ·
        refine j_aload_n C d_M_run_21 rfl rfl ?_
        refine j_callV C hK hAz 10 0 (m_behind h _) (jcV C mi_M_behind t_446 t_448 t_16 rfl rfl ⟨by decide, by decide⟩) rfl rfl (by assumption) rfl rfl (Nat.le_of_ble_eq_true rfl) d_M_run_22 ⟨Nat.zero_le _, Nat.zero_le _⟩ ?_
        refine j_iconst (v := 0) C d_M_run_25 (by decide) ?_
        refine j_istore_n C d_M_run_26 rfl (by decide) ?_
        have e0 : d_run0 τ = (mf_behind τ) := by simp only [d_run0, g3, if_true, if_false]
        have e1 : d_run τ a = (0 + nI (mf_loop a.toNatClampNeg (mf_behind τ)).1, (mf_loop a.toNatClampNeg (mf_behind τ)).2) := by rw [d_run, if_neg g1, if_pos g2, e0]
        have q1 : 1 ≤ a.toInt := by rw [i32_lt, show (1 : Int32).toInt = 1 from rfl] at g1; omega
        have q2 : a.toInt ≤ 1000 := by rw [i32_le, show (1000 : Int32).toInt = 1000 from rfl] at g2; omega
        refine lp_mrun C hK hret hlk hAz a.toNatClampNeg (mf_behind τ) 0 N (okm_behind h) (by rw [toN]; omega) (by rw [toN, i32_0]; omega) (by rw [e1]) (by rw [e1])
    ·
      refine j_iconst (v := -1) C d_M_run_12 (by decide) ?_
      refine j_iret C hret hlk d_M_run_13 ?_ ?_ rfl rfl
      · rw [d_run, if_neg g1, if_neg g2]
      · rw [d_run, if_neg g1, if_neg g2]
set_option maxRecDepth 100000 in
set_option maxHeartbeats 4000000 in
theorem m_make {l : Launch} {D : va_G} {E : Nat → ClassId} {ad : Nat → Nat → Nat} {lv : Nat → Nat → Prop} {σ τ : sT} {N : Int} (h : OKm τ lv N) {a t : Int32} : jM l y_M_make c_M_make 3 (some .boolean) 0 D E ad lv (jv ad σ τ) [.ref (ad 10 0), .int (a), .int (t)] (some (.int (d_make τ a t).1)) (jv ad σ (d_make τ a t).2) := by
  intro sz
  refine jC.of "InputRoomModel" (by decide +kernel) rfl rfl (Nat.le_of_ble_eq_true rfl) (by intro v hv; simp only [List.mem_cons, List.not_mem_nil, or_false] at hv; rcases hv with rfl | rfl | rfl <;> first | rfl | exact jrf_cat _) ?_
  intro p e s m below meth c C hK hret hlk hnm hsz hAz
  have hb10 : lv 10 0 := h.k (by decide) (by decide)
  have hb11 : lv 11 0 := h.k (by decide) (by decide)
  have hb12 : lv 12 0 := h.k (by decide) (by decide)
  have hb13 : lv 13 0 := h.k (by decide) (by decide)
  have hb14 : lv 14 0 := h.k (by decide) (by decide)
  have hb15 : lv 15 0 := h.k (by decide) (by decide)
  have hb16 : lv 16 0 := h.k (by decide) (by decide)
  have hb17 : lv 17 0 := h.k (by decide) (by decide)
  have hb18 : lv 18 0 := h.k (by decide) (by decide)
  have hb19 : lv 19 0 := h.k (by decide) (by decide)
  refine j_iload_n C d_M_make_0 rfl rfl ?_
  refine j_if_lt C 30 d_M_make_1 rfl (fun g1 => ?_) (fun g1 => ?_)
  ·
    refine j_iconst (v := 0) C d_M_make_30 (by decide) ?_
    refine j_zret C hret hlk (by first | rfl | decide) d_M_make_31 ?_ ?_ rfl rfl
    · rw [d_make, if_pos g1]
    · rw [d_make, if_pos g1]
  ·
    refine j_iload_n C d_M_make_4 rfl rfl ?_
    refine j_bipush (v := 32) C d_M_make_5 (by decide) ?_
    refine j_icmp_ge C 30 d_M_make_7 rfl (fun g2 => ?_) (fun g2 => ?_)
    ·
      refine j_iconst (v := 0) C d_M_make_30 (by decide) ?_
      refine j_zret C hret hlk (by first | rfl | decide) d_M_make_31 ?_ ?_ rfl rfl
      · rw [d_make, if_neg g1, if_pos g2]
      · rw [d_make, if_neg g1, if_pos g2]
    ·
      refine j_aload_n C d_M_make_10 rfl rfl ?_
      refine tgC C hK 10 0 0 d_M_make_11 in_M rfl rfl (by decide) t_376 rfl rfl rfl (by assumption) ?_
      refine j_iload_n C d_M_make_14 rfl rfl ?_
      refine tza C hK 11 0 d_M_make_15 rfl (vin g1 g2 rfl) rfl rfl (by assumption) ?_
      refine j_if_ne C 30 d_M_make_16 rfl (fun g3 => ?_) (fun g3 => ?_)
      ·
        refine j_iconst (v := 0) C d_M_make_30 (by decide) ?_
        refine j_zret C hret hlk (by first | rfl | decide) d_M_make_31 ?_ ?_ rfl rfl
        · rw [d_make, if_neg g1, if_neg g2, if_neg g3]
        · rw [d_make, if_neg g1, if_neg g2, if_neg g3]
      ·
        refine j_iload_n C d_M_make_19 rfl rfl ?_
        refine j_iconst (v := 1) C d_M_make_20 (by decide) ?_
        refine j_icmp_lt C 30 d_M_make_21 rfl (fun g4 => ?_) (fun g4 => ?_)
        ·
          refine j_iconst (v := 0) C d_M_make_30 (by decide) ?_
          refine j_zret C hret hlk (by first | rfl | decide) d_M_make_31 ?_ ?_ rfl rfl
          · rw [d_make, if_neg g1, if_neg g2, if_pos g3, if_pos g4]
          · rw [d_make, if_neg g1, if_neg g2, if_pos g3, if_pos g4]
        ·
          refine j_iload_n C d_M_make_24 rfl rfl ?_
          refine j_bipush (v := 8) C d_M_make_25 (by decide) ?_
          refine j_icmp_le C 32 d_M_make_27 rfl (fun g5 => ?_) (fun g5 => ?_)
          ·
            refine j_aload_n C d_M_make_32 rfl rfl ?_
            refine tgC C hK 10 0 0 d_M_make_33 in_M rfl rfl (by decide) t_376 rfl rfl rfl (by assumption) ?_
            refine j_iload_n C d_M_make_36 rfl rfl ?_
            refine j_iconst (v := 1) C d_M_make_37 (by decide) ?_
            refine tza_st C hK 11 0 d_M_make_38 rfl (by first | rfl | decide) (vin g1 g2 rfl) rfl rfl (by assumption) ?_
            refine j_aload_n C d_M_make_39 rfl rfl ?_
            refine tgC C hK 10 0 1 d_M_make_40 in_M rfl rfl (by decide) t_377 rfl rfl rfl (by assumption) ?_
            refine j_iload_n C d_M_make_43 rfl rfl ?_
            refine j_iload_n C d_M_make_44 rfl rfl ?_
            refine tia_st C hK 12 0 d_M_make_45 rfl (vin g1 g2 rfl) rfl rfl (by assumption) ?_
            refine j_iconst (v := 1) C d_M_make_46 (by decide) ?_
            refine j_zret C hret hlk (by first | rfl | decide) d_M_make_47 ?_ ?_ rfl rfl
            · rw [d_make, if_neg g1, if_neg g2, if_pos g3, if_neg g4, if_pos g5]
            · rw [d_make, if_neg g1, if_neg g2, if_pos g3, if_neg g4, if_pos g5]
          ·
            refine j_iconst (v := 0) C d_M_make_30 (by decide) ?_
            refine j_zret C hret hlk (by first | rfl | decide) d_M_make_31 ?_ ?_ rfl rfl
            · rw [d_make, if_neg g1, if_neg g2, if_pos g3, if_neg g4, if_neg g5]
            · rw [d_make, if_neg g1, if_neg g2, if_pos g3, if_neg g4, if_neg g5]
set_option maxRecDepth 100000 in
set_option maxHeartbeats 4000000 in
theorem m_plan {l : Launch} {D : va_G} {E : Nat → ClassId} {ad : Nat → Nat → Nat} {lv : Nat → Nat → Prop} {σ τ : sT} {N : Int} (h : OKm τ lv N) {a i t : Int32} : jM l y_M_plan c_M_plan 5 (some .int) 1 D E ad lv (jv ad σ τ) [.ref (ad 10 0), .int (a), .int (i), .int (t)] (some (.int (d_plan τ a i t).1)) (jv ad σ (d_plan τ a i t).2) := by
  intro sz
  refine jC.of "InputRoomModel" (by decide +kernel) rfl rfl (Nat.le_of_ble_eq_true rfl) (by intro v hv; simp only [List.mem_cons, List.not_mem_nil, or_false] at hv; rcases hv with rfl | rfl | rfl | rfl <;> first | rfl | exact jrf_cat _) ?_
  intro p e s m below meth c C hK hret hlk hnm hsz hAz
  have hb10 : lv 10 0 := h.k (by decide) (by decide)
  have hb11 : lv 11 0 := h.k (by decide) (by decide)
  have hb12 : lv 12 0 := h.k (by decide) (by decide)
  have hb13 : lv 13 0 := h.k (by decide) (by decide)
  have hb14 : lv 14 0 := h.k (by decide) (by decide)
  have hb15 : lv 15 0 := h.k (by decide) (by decide)
  have hb16 : lv 16 0 := h.k (by decide) (by decide)
  have hb17 : lv 17 0 := h.k (by decide) (by decide)
  have hb18 : lv 18 0 := h.k (by decide) (by decide)
  have hb19 : lv 19 0 := h.k (by decide) (by decide)
  refine j_aload_n C d_M_plan_0 rfl rfl ?_
  refine j_iload_n C d_M_plan_1 rfl rfl ?_
  refine j_callV C hK hAz 10 0 (m_isMade (a := a) h _) (jcV C mi_M_isMade t_507 t_509 t_29 rfl rfl ⟨by decide, by decide⟩) rfl rfl (by assumption) rfl rfl (Nat.le_of_ble_eq_true rfl) d_M_plan_2 ⟨Nat.zero_le _, Nat.zero_le _⟩ ?_
  refine j_if_eq C 28 d_M_plan_5 rfl (fun g1 => ?_) (fun g1 => ?_)
  ·
    have n0 : ¬ isM τ a := isM_no g1
    refine j_iconst (v := -1) C d_M_plan_28 (by decide) ?_
    refine j_iret C hret hlk d_M_plan_29 ?_ ?_ rfl rfl
    · rw [d_plan, if_neg n0]
    · rw [d_plan, if_neg n0]
  ·
    have q0 : isM τ a := isM_yes g1
    refine j_iload_n C d_M_plan_8 rfl rfl ?_
    refine j_if_lt C 28 d_M_plan_9 rfl (fun g2 => ?_) (fun g2 => ?_)
    ·
      refine j_iconst (v := -1) C d_M_plan_28 (by decide) ?_
      refine j_iret C hret hlk d_M_plan_29 ?_ ?_ rfl rfl
      · rw [d_plan, if_pos q0, if_pos g2]
      · rw [d_plan, if_pos q0, if_pos g2]
    ·
      refine j_iload_n C d_M_plan_12 rfl rfl ?_
      refine j_bipush (v := 7) C d_M_plan_13 (by decide) ?_
      refine j_icmp_gt C 28 d_M_plan_15 rfl (fun g3 => ?_) (fun g3 => ?_)
      ·
        refine j_iconst (v := -1) C d_M_plan_28 (by decide) ?_
        refine j_iret C hret hlk d_M_plan_29 ?_ ?_ rfl rfl
        · rw [d_plan, if_pos q0, if_neg g2, if_pos g3]
        · rw [d_plan, if_pos q0, if_neg g2, if_pos g3]
      ·
        refine j_iload_n C d_M_plan_18 rfl rfl ?_
        refine j_if_lt C 28 d_M_plan_19 rfl (fun g4 => ?_) (fun g4 => ?_)
        ·
          refine j_iconst (v := -1) C d_M_plan_28 (by decide) ?_
          refine j_iret C hret hlk d_M_plan_29 ?_ ?_ rfl rfl
          · rw [d_plan, if_pos q0, if_neg g2, if_neg g3, if_pos g4]
          · rw [d_plan, if_pos q0, if_neg g2, if_neg g3, if_pos g4]
        ·
          refine j_iload_n C d_M_plan_22 rfl rfl ?_
          refine j_bipush (v := 127) C d_M_plan_23 (by decide) ?_
          refine j_icmp_le C 30 d_M_plan_25 rfl (fun g5 => ?_) (fun g5 => ?_)
          ·
            refine j_aload_n C d_M_plan_30 rfl rfl ?_
            refine tgC C hK 10 0 2 d_M_plan_31 in_M rfl rfl (by decide) t_378 rfl rfl rfl (by assumption) ?_
            refine j_bipush (v := 8) C d_M_plan_34 (by decide) ?_
            refine j_iload_n C d_M_plan_36 rfl rfl ?_
            refine j_imul C d_M_plan_37 ?_
            refine j_iload_n C d_M_plan_38 rfl rfl ?_
            refine j_iadd C d_M_plan_39 ?_
            refine tia C hK 13 0 d_M_plan_40 rfl (idx_in (vp_in_iff.mp (isM_in q0)).1 (vp_in_iff.mp (isM_in q0)).2 (by simp only [i32_lt, i32_0] at *; omega) (by have e7 : (7 : Int32).toInt = 7 := rfl; simp only [i32_lt, e7] at *; omega)) rfl rfl (by assumption) ?_
            refine j_istore C d_M_plan_41 (by decide) ?_
            refine j_aload_n C d_M_plan_43 rfl rfl ?_
            refine tgC C hK 10 0 2 d_M_plan_44 in_M rfl rfl (by decide) t_378 rfl rfl rfl (by assumption) ?_
            refine j_bipush (v := 8) C d_M_plan_47 (by decide) ?_
            refine j_iload_n C d_M_plan_49 rfl rfl ?_
            refine j_imul C d_M_plan_50 ?_
            refine j_iload_n C d_M_plan_51 rfl rfl ?_
            refine j_iadd C d_M_plan_52 ?_
            refine j_iload_n C d_M_plan_53 rfl rfl ?_
            refine tia_st C hK 13 0 d_M_plan_54 rfl (idx_in (vp_in_iff.mp (isM_in q0)).1 (vp_in_iff.mp (isM_in q0)).2 (by simp only [i32_lt, i32_0] at *; omega) (by have e7 : (7 : Int32).toInt = 7 := rfl; simp only [i32_lt, e7] at *; omega)) rfl rfl (by assumption) ?_
            refine j_iload C d_M_plan_55 rfl ?_
            refine j_iret C hret hlk d_M_plan_57 ?_ ?_ rfl rfl
            · rw [d_plan, if_pos q0, if_neg g2, if_neg g3, if_neg g4, if_pos g5]
            · rw [d_plan, if_pos q0, if_neg g2, if_neg g3, if_neg g4, if_pos g5]
          ·
            refine j_iconst (v := -1) C d_M_plan_28 (by decide) ?_
            refine j_iret C hret hlk d_M_plan_29 ?_ ?_ rfl rfl
            · rw [d_plan, if_pos q0, if_neg g2, if_neg g3, if_neg g4, if_neg g5]
            · rw [d_plan, if_pos q0, if_neg g2, if_neg g3, if_neg g4, if_neg g5]
set_option maxRecDepth 100000 in
set_option maxHeartbeats 4000000 in
theorem m_wake {l : Launch} {D : va_G} {E : Nat → ClassId} {ad : Nat → Nat → Nat} {lv : Nat → Nat → Prop} {σ τ : sT} {N : Int} (h : OKm τ lv N) {a : Int32} : jM l y_M_wake c_M_wake 2 (some .boolean) 2 D E ad lv (jv ad σ τ) [.ref (ad 10 0), .int (a)] (some (.int (d_wake τ a).1)) (jv ad σ (d_wake τ a).2) := by
  intro sz
  refine jC.of "InputRoomModel" (by decide +kernel) rfl rfl (Nat.le_of_ble_eq_true rfl) (by intro v hv; simp only [List.mem_cons, List.not_mem_nil, or_false] at hv; rcases hv with rfl | rfl <;> first | rfl | exact jrf_cat _) ?_
  intro p e s m below meth c C hK hret hlk hnm hsz hAz
  have hb10 : lv 10 0 := h.k (by decide) (by decide)
  have hb11 : lv 11 0 := h.k (by decide) (by decide)
  have hb12 : lv 12 0 := h.k (by decide) (by decide)
  have hb13 : lv 13 0 := h.k (by decide) (by decide)
  have hb14 : lv 14 0 := h.k (by decide) (by decide)
  have hb15 : lv 15 0 := h.k (by decide) (by decide)
  have hb16 : lv 16 0 := h.k (by decide) (by decide)
  have hb17 : lv 17 0 := h.k (by decide) (by decide)
  have hb18 : lv 18 0 := h.k (by decide) (by decide)
  have hb19 : lv 19 0 := h.k (by decide) (by decide)
  refine j_aload_n C d_M_wake_0 rfl rfl ?_
  refine j_iload_n C d_M_wake_1 rfl rfl ?_
  refine j_callV C hK hAz 10 0 (m_isMade (a := a) h _) (jcV C mi_M_isMade t_507 t_509 t_29 rfl rfl ⟨by decide, by decide⟩) rfl rfl (by assumption) rfl rfl (Nat.le_of_ble_eq_true rfl) d_M_wake_2 ⟨Nat.zero_le _, Nat.zero_le _⟩ ?_
  refine j_if_eq C 33 d_M_wake_5 rfl (fun g1 => ?_) (fun g1 => ?_)
  ·
    have n0 : ¬ isM τ a := isM_no g1
    refine j_iconst (v := 0) C d_M_wake_33 (by decide) ?_
    refine j_zret C hret hlk (by first | rfl | decide) d_M_wake_34 ?_ ?_ rfl rfl
    · rw [d_wake, if_neg n0]
    · rw [d_wake, if_neg n0]
  ·
    have q0 : isM τ a := isM_yes g1
    refine j_aload_n C d_M_wake_8 rfl rfl ?_
    refine tgC C hK 10 0 4 d_M_wake_9 in_M rfl rfl (by decide) t_380 rfl rfl rfl (by assumption) ?_
    refine j_iload_n C d_M_wake_12 rfl rfl ?_
    refine tia C hK 15 0 d_M_wake_13 rfl (isM_in q0) rfl rfl (by assumption) ?_
    refine j_if_ne C 33 d_M_wake_14 rfl (fun g2 => ?_) (fun g2 => ?_)
    ·
      refine j_iconst (v := 0) C d_M_wake_33 (by decide) ?_
      refine j_zret C hret hlk (by first | rfl | decide) d_M_wake_34 ?_ ?_ rfl rfl
      · rw [d_wake, if_pos q0, if_neg g2]
      · rw [d_wake, if_pos q0, if_neg g2]
    ·
      refine j_iload_n C d_M_wake_17 rfl rfl ?_
      refine j_aload_n C d_M_wake_18 rfl rfl ?_
      refine tgI C hK 10 0 8 d_M_wake_19 in_M rfl rfl (by decide) t_384 rfl rfl rfl (by assumption) ?_
      refine j_icmp_eq C 33 d_M_wake_22 rfl (fun g3 => ?_) (fun g3 => ?_)
      ·
        refine j_iconst (v := 0) C d_M_wake_33 (by decide) ?_
        refine j_zret C hret hlk (by first | rfl | decide) d_M_wake_34 ?_ ?_ rfl rfl
        · rw [d_wake, if_pos q0, if_pos g2, if_pos g3]
        · rw [d_wake, if_pos q0, if_pos g2, if_pos g3]
      ·
        refine j_iload_n C d_M_wake_25 rfl rfl ?_
        refine j_aload_n C d_M_wake_26 rfl rfl ?_
        refine j_callV C hK hAz 10 0 (m_pres h _) (jcV C mi_M_present0 t_466 t_468 t_21 rfl rfl ⟨by decide, by decide⟩) rfl rfl (by assumption) rfl rfl (Nat.le_of_ble_eq_true rfl) d_M_wake_27 ⟨Nat.zero_le _, Nat.zero_le _⟩ ?_
        refine j_icmp_ne C 35 d_M_wake_30 rfl (fun g4 => ?_) (fun g4 => ?_)
        ·
          refine j_aload_n C d_M_wake_35 rfl rfl ?_
          refine j_iload_n C d_M_wake_36 rfl rfl ?_
          refine j_callV C hK hAz 10 0 (m_rouse (a := a) h (isM_in q0) _) (jcV C mi_M_rouse t_462 t_464 t_20 rfl rfl ⟨by decide, by decide⟩) rfl rfl (by assumption) rfl rfl (Nat.le_of_ble_eq_true rfl) d_M_wake_37 ⟨Nat.zero_le _, Nat.zero_le _⟩ ?_
          refine j_iconst (v := 1) C d_M_wake_40 (by decide) ?_
          refine j_zret C hret hlk (by first | rfl | decide) d_M_wake_41 ?_ ?_ rfl rfl
          · rw [d_wake, if_pos q0, if_pos g2, if_neg g3, if_neg g4]
          · rw [d_wake, if_pos q0, if_pos g2, if_neg g3, if_neg g4]
        ·
          refine j_iconst (v := 0) C d_M_wake_33 (by decide) ?_
          refine j_zret C hret hlk (by first | rfl | decide) d_M_wake_34 ?_ ?_ rfl rfl
          · rw [d_wake, if_pos q0, if_pos g2, if_neg g3, if_pos g4]
          · rw [d_wake, if_pos q0, if_pos g2, if_neg g3, if_pos g4]
set_option maxRecDepth 100000 in
set_option maxHeartbeats 4000000 in
theorem m_suspend {l : Launch} {D : va_G} {E : Nat → ClassId} {ad : Nat → Nat → Nat} {lv : Nat → Nat → Prop} {σ τ : sT} {N : Int} (h : OKm τ lv N) : jM l y_M_suspend c_M_suspend 2 (some .int) 2 D E ad lv (jv ad σ τ) [.ref (ad 10 0)] (some (.int (d_suspend τ).1)) (jv ad σ (d_suspend τ).2) := by
  intro sz
  refine jC.of "InputRoomModel" (by decide +kernel) rfl rfl (Nat.le_of_ble_eq_true rfl) (by intro v hv; simp only [List.mem_cons, List.not_mem_nil, or_false] at hv; rcases hv with rfl <;> first | rfl | exact jrf_cat _) ?_
  intro p e s m below meth c C hK hret hlk hnm hsz hAz
  have hb10 : lv 10 0 := h.k (by decide) (by decide)
  have hb11 : lv 11 0 := h.k (by decide) (by decide)
  have hb12 : lv 12 0 := h.k (by decide) (by decide)
  have hb13 : lv 13 0 := h.k (by decide) (by decide)
  have hb14 : lv 14 0 := h.k (by decide) (by decide)
  have hb15 : lv 15 0 := h.k (by decide) (by decide)
  have hb16 : lv 16 0 := h.k (by decide) (by decide)
  have hb17 : lv 17 0 := h.k (by decide) (by decide)
  have hb18 : lv 18 0 := h.k (by decide) (by decide)
  have hb19 : lv 19 0 := h.k (by decide) (by decide)
  refine j_aload_n C d_M_suspend_0 rfl rfl ?_
  refine j_callV C hK hAz 10 0 (m_pres h _) (jcV C mi_M_present0 t_466 t_468 t_21 rfl rfl ⟨by decide, by decide⟩) rfl rfl (by assumption) rfl rfl (Nat.le_of_ble_eq_true rfl) d_M_suspend_1 ⟨Nat.zero_le _, Nat.zero_le _⟩ ?_
  refine j_istore_n C d_M_suspend_4 rfl (by decide) ?_
  refine j_iload_n C d_M_suspend_5 rfl rfl ?_
  refine j_if_lt C 13 d_M_suspend_6 rfl (fun g1 => ?_) (fun g1 => ?_)
  ·
    refine j_iload_n C d_M_suspend_13 rfl rfl ?_
    refine j_iret C hret hlk d_M_suspend_14 ?_ ?_ rfl rfl
    · rfl
    · simp only [d_suspend, g1, if_true, if_false]
  ·
    refine j_aload_n C d_M_suspend_9 rfl rfl ?_
    refine j_callV C hK hAz 10 0 (m_aside h _) (jcV C mi_M_putAside t_486 t_488 t_26 rfl rfl ⟨by decide, by decide⟩) rfl rfl (by assumption) rfl rfl (Nat.le_of_ble_eq_true rfl) d_M_suspend_10 ⟨Nat.zero_le _, Nat.zero_le _⟩ ?_
    refine j_iload_n C d_M_suspend_13 rfl rfl ?_
    refine j_iret C hret hlk d_M_suspend_14 ?_ ?_ rfl rfl
    · rfl
    · simp only [d_suspend, g1, if_true, if_false]
set_option maxRecDepth 100000 in
set_option maxHeartbeats 4000000 in
theorem m_signal {l : Launch} {D : va_G} {E : Nat → ClassId} {ad : Nat → Nat → Nat} {lv : Nat → Nat → Prop} {σ τ : sT} {N : Int} (h : OKm τ lv N) {a : Int32} : jM l y_M_signal c_M_signal 2 (some .boolean) 3 D E ad lv (jv ad σ τ) [.ref (ad 10 0), .int (a)] (some (.int (d_signal τ a).1)) (jv ad σ (d_signal τ a).2) := by
  intro sz
  refine jC.of "InputRoomModel" (by decide +kernel) rfl rfl (Nat.le_of_ble_eq_true rfl) (by intro v hv; simp only [List.mem_cons, List.not_mem_nil, or_false] at hv; rcases hv with rfl | rfl <;> first | rfl | exact jrf_cat _) ?_
  intro p e s m below meth c C hK hret hlk hnm hsz hAz
  have hb10 : lv 10 0 := h.k (by decide) (by decide)
  have hb11 : lv 11 0 := h.k (by decide) (by decide)
  have hb12 : lv 12 0 := h.k (by decide) (by decide)
  have hb13 : lv 13 0 := h.k (by decide) (by decide)
  have hb14 : lv 14 0 := h.k (by decide) (by decide)
  have hb15 : lv 15 0 := h.k (by decide) (by decide)
  have hb16 : lv 16 0 := h.k (by decide) (by decide)
  have hb17 : lv 17 0 := h.k (by decide) (by decide)
  have hb18 : lv 18 0 := h.k (by decide) (by decide)
  have hb19 : lv 19 0 := h.k (by decide) (by decide)
  refine j_iload_n C d_M_signal_0 rfl rfl ?_
  refine j_callS C hK hAz (m_isSem (a := a) _) ⟨jcB C mi_M_isSemaphore t_523 rfl rfl ⟨by decide, by decide⟩, C.2.2.2.2 _ t_524⟩ rfl rfl (Nat.le_of_ble_eq_true rfl) d_M_signal_1 ⟨Nat.zero_le _, Nat.zero_le _⟩ ?_
  refine j_if_ne C 9 d_M_signal_4 rfl (fun g1 => ?_) (fun g1 => ?_)
  ·
    have q0 : isS a := Decidable.byContradiction fun z => g1 (if_neg z)
    refine j_aload_n C d_M_signal_9 rfl rfl ?_
    refine j_iload_n C d_M_signal_10 rfl rfl ?_
    refine j_callV C hK hAz 10 0 (m_sig (a := a) h (isS_in q0) _) (jcV C mi_M_signal0 t_454 t_456 t_18 rfl rfl ⟨by decide, by decide⟩) rfl rfl (by assumption) rfl rfl (Nat.le_of_ble_eq_true rfl) d_M_signal_11 ⟨Nat.zero_le _, Nat.zero_le _⟩ ?_
    refine j_iconst (v := 1) C d_M_signal_14 (by decide) ?_
    refine j_zret C hret hlk (by first | rfl | decide) d_M_signal_15 ?_ ?_ rfl rfl
    · rw [d_signal, if_pos q0]
    · rw [d_signal, if_pos q0]
  ·
    have n0 : ¬ isS a := fun z => by rw [if_pos z] at g1; exact absurd g1 (by decide)
    refine j_iconst (v := 0) C d_M_signal_7 (by decide) ?_
    refine j_zret C hret hlk (by first | rfl | decide) d_M_signal_8 ?_ ?_ rfl rfl
    · rw [d_signal, if_neg n0]
    · rw [d_signal, if_neg n0]
set_option maxRecDepth 100000 in
set_option maxHeartbeats 4000000 in
theorem m_listen {l : Launch} {D : va_G} {E : Nat → ClassId} {ad : Nat → Nat → Nat} {lv : Nat → Nat → Prop} {σ τ : sT} {N : Int} (h : OKm τ lv N) {a : Int32} : jM l y_M_listen c_M_listen 2 (some .boolean) 1 D E ad lv (jv ad σ τ) [.ref (ad 10 0), .int (a)] (some (.int (d_listen τ a).1)) (jv ad σ (d_listen τ a).2) := by
  intro sz
  refine jC.of "InputRoomModel" (by decide +kernel) rfl rfl (Nat.le_of_ble_eq_true rfl) (by intro v hv; simp only [List.mem_cons, List.not_mem_nil, or_false] at hv; rcases hv with rfl | rfl <;> first | rfl | exact jrf_cat _) ?_
  intro p e s m below meth c C hK hret hlk hnm hsz hAz
  have hb10 : lv 10 0 := h.k (by decide) (by decide)
  have hb11 : lv 11 0 := h.k (by decide) (by decide)
  have hb12 : lv 12 0 := h.k (by decide) (by decide)
  have hb13 : lv 13 0 := h.k (by decide) (by decide)
  have hb14 : lv 14 0 := h.k (by decide) (by decide)
  have hb15 : lv 15 0 := h.k (by decide) (by decide)
  have hb16 : lv 16 0 := h.k (by decide) (by decide)
  have hb17 : lv 17 0 := h.k (by decide) (by decide)
  have hb18 : lv 18 0 := h.k (by decide) (by decide)
  have hb19 : lv 19 0 := h.k (by decide) (by decide)
  refine j_iload_n C d_M_listen_0 rfl rfl ?_
  refine j_iconst (v := -1) C d_M_listen_1 (by decide) ?_
  refine j_icmp_eq C 14 d_M_listen_2 rfl (fun g1 => ?_) (fun g1 => ?_)
  ·
    refine j_aload_n C d_M_listen_14 rfl rfl ?_
    refine j_iload_n C d_M_listen_15 rfl rfl ?_
    refine tpI C hK 10 0 14 ty_M tk_M nm_M d_M_listen_16 in_M rfl rfl (by decide) t_390 rfl rfl rfl rfl (a) rfl rfl (by assumption) ?_
    refine j_iconst (v := 1) C d_M_listen_19 (by decide) ?_
    refine j_zret C hret hlk (by first | rfl | decide) d_M_listen_20 ?_ ?_ rfl rfl
    · rw [d_listen, if_pos g1]
    · rw [d_listen, if_pos g1]
  ·
    refine j_iload_n C d_M_listen_5 rfl rfl ?_
    refine j_callS C hK hAz (m_isSem (a := a) _) ⟨jcB C mi_M_isSemaphore t_523 rfl rfl ⟨by decide, by decide⟩, C.2.2.2.2 _ t_524⟩ rfl rfl (Nat.le_of_ble_eq_true rfl) d_M_listen_6 ⟨Nat.zero_le _, Nat.zero_le _⟩ ?_
    refine j_if_ne C 14 d_M_listen_9 rfl (fun g2 => ?_) (fun g2 => ?_)
    ·
      have q0 : isS a := Decidable.byContradiction fun z => g2 (if_neg z)
      refine j_aload_n C d_M_listen_14 rfl rfl ?_
      refine j_iload_n C d_M_listen_15 rfl rfl ?_
      refine tpI C hK 10 0 14 ty_M tk_M nm_M d_M_listen_16 in_M rfl rfl (by decide) t_390 rfl rfl rfl rfl (a) rfl rfl (by assumption) ?_
      refine j_iconst (v := 1) C d_M_listen_19 (by decide) ?_
      refine j_zret C hret hlk (by first | rfl | decide) d_M_listen_20 ?_ ?_ rfl rfl
      · rw [d_listen, if_neg g1, if_pos q0]
      · rw [d_listen, if_neg g1, if_pos q0]
    ·
      have n0 : ¬ isS a := fun z => by rw [if_pos z] at g2; exact absurd g2 (by decide)
      refine j_iconst (v := 0) C d_M_listen_12 (by decide) ?_
      refine j_zret C hret hlk (by first | rfl | decide) d_M_listen_13 ?_ ?_ rfl rfl
      · rw [d_listen, if_neg g1, if_neg n0]
      · rw [d_listen, if_neg g1, if_neg n0]
set_option maxRecDepth 100000 in
set_option maxHeartbeats 4000000 in
theorem m_alarm {l : Launch} {D : va_G} {E : Nat → ClassId} {ad : Nat → Nat → Nat} {lv : Nat → Nat → Prop} {σ τ : sT} {N : Int} (h : OKm τ lv N) {a t : Int32} : jM l y_M_alarm c_M_alarm 3 (some .boolean) 1 D E ad lv (jv ad σ τ) [.ref (ad 10 0), .int (a), .int (t)] (some (.int (d_alarm τ a t).1)) (jv ad σ (d_alarm τ a t).2) := by
  intro sz
  refine jC.of "InputRoomModel" (by decide +kernel) rfl rfl (Nat.le_of_ble_eq_true rfl) (by intro v hv; simp only [List.mem_cons, List.not_mem_nil, or_false] at hv; rcases hv with rfl | rfl | rfl <;> first | rfl | exact jrf_cat _) ?_
  intro p e s m below meth c C hK hret hlk hnm hsz hAz
  have hb10 : lv 10 0 := h.k (by decide) (by decide)
  have hb11 : lv 11 0 := h.k (by decide) (by decide)
  have hb12 : lv 12 0 := h.k (by decide) (by decide)
  have hb13 : lv 13 0 := h.k (by decide) (by decide)
  have hb14 : lv 14 0 := h.k (by decide) (by decide)
  have hb15 : lv 15 0 := h.k (by decide) (by decide)
  have hb16 : lv 16 0 := h.k (by decide) (by decide)
  have hb17 : lv 17 0 := h.k (by decide) (by decide)
  have hb18 : lv 18 0 := h.k (by decide) (by decide)
  have hb19 : lv 19 0 := h.k (by decide) (by decide)
  refine j_iload_n C d_M_alarm_0 rfl rfl ?_
  refine j_iconst (v := -1) C d_M_alarm_1 (by decide) ?_
  refine j_icmp_ne C 12 d_M_alarm_2 rfl (fun g1 => ?_) (fun g1 => ?_)
  ·
    refine j_iload_n C d_M_alarm_12 rfl rfl ?_
    refine j_callS C hK hAz (m_isSem (a := a) _) ⟨jcB C mi_M_isSemaphore t_523 rfl rfl ⟨by decide, by decide⟩, C.2.2.2.2 _ t_524⟩ rfl rfl (Nat.le_of_ble_eq_true rfl) d_M_alarm_13 ⟨Nat.zero_le _, Nat.zero_le _⟩ ?_
    refine j_if_eq C 29 d_M_alarm_16 rfl (fun g2 => ?_) (fun g2 => ?_)
    ·
      have n0 : ¬ isS a := fun z => by rw [if_pos z] at g2; exact absurd g2 (by decide)
      refine j_iconst (v := 0) C d_M_alarm_29 (by decide) ?_
      refine j_zret C hret hlk (by first | rfl | decide) d_M_alarm_30 ?_ ?_ rfl rfl
      · rw [d_alarm, if_neg g1, if_neg n0]
      · rw [d_alarm, if_neg g1, if_neg n0]
    ·
      have q0 : isS a := Decidable.byContradiction fun z => g2 (if_neg z)
      refine j_iload_n C d_M_alarm_19 rfl rfl ?_
      refine j_if_lt C 29 d_M_alarm_20 rfl (fun g3 => ?_) (fun g3 => ?_)
      ·
        refine j_iconst (v := 0) C d_M_alarm_29 (by decide) ?_
        refine j_zret C hret hlk (by first | rfl | decide) d_M_alarm_30 ?_ ?_ rfl rfl
        · rw [d_alarm, if_neg g1, if_pos q0, if_pos g3]
        · rw [d_alarm, if_neg g1, if_pos q0, if_pos g3]
      ·
        refine j_iload_n C d_M_alarm_23 rfl rfl ?_
        refine j_ldc C d_M_alarm_24 t_534 ?_
        refine j_icmp_le C 31 d_M_alarm_26 rfl (fun g4 => ?_) (fun g4 => ?_)
        ·
          refine j_aload_n C d_M_alarm_31 rfl rfl ?_
          refine j_iload_n C d_M_alarm_32 rfl rfl ?_
          refine tpI C hK 10 0 15 ty_M tk_M nm_M d_M_alarm_33 in_M rfl rfl (by decide) t_391 rfl rfl rfl rfl (a) rfl rfl (by assumption) ?_
          refine j_aload_n C d_M_alarm_36 rfl rfl ?_
          refine j_iload_n C d_M_alarm_37 rfl rfl ?_
          refine tpI C hK 10 0 16 ty_M tk_M nm_M d_M_alarm_38 in_M rfl rfl (by decide) t_392 rfl rfl rfl rfl (t) rfl rfl (by assumption) ?_
          refine j_iconst (v := 1) C d_M_alarm_41 (by decide) ?_
          refine j_zret C hret hlk (by first | rfl | decide) d_M_alarm_42 ?_ ?_ rfl rfl
          · rw [d_alarm, if_neg g1, if_pos q0, if_neg g3, if_pos g4]
          · rw [d_alarm, if_neg g1, if_pos q0, if_neg g3, if_pos g4]
        ·
          refine j_iconst (v := 0) C d_M_alarm_29 (by decide) ?_
          refine j_zret C hret hlk (by first | rfl | decide) d_M_alarm_30 ?_ ?_ rfl rfl
          · rw [d_alarm, if_neg g1, if_pos q0, if_neg g3, if_neg g4]
          · rw [d_alarm, if_neg g1, if_pos q0, if_neg g3, if_neg g4]
  ·
    refine j_aload_n C d_M_alarm_5 rfl rfl ?_
    refine j_iconst (v := -1) C d_M_alarm_6 (by decide) ?_
    refine tpI C hK 10 0 15 ty_M tk_M nm_M d_M_alarm_7 in_M rfl rfl (by decide) t_391 rfl rfl rfl rfl (-1) rfl rfl (by assumption) ?_
    refine j_iconst (v := 1) C d_M_alarm_10 (by decide) ?_
    refine j_zret C hret hlk (by first | rfl | decide) d_M_alarm_11 ?_ ?_ rfl rfl
    · rw [d_alarm, if_pos g1]
    · rw [d_alarm, if_pos g1]
set_option maxRecDepth 100000 in
set_option maxHeartbeats 4000000 in
theorem m_word {l : Launch} {D : va_G} {E : Nat → ClassId} {ad : Nat → Nat → Nat} {lv : Nat → Nat → Prop} {σ τ : sT} {N : Int} (h : OKm τ lv N) {a : Int32} : jM l y_M_word c_M_word 2 (some .int) 0 D E ad lv (jv ad σ τ) [.ref (ad 10 0), .int (a)] (some (.int (d_word τ a).1)) (jv ad σ (d_word τ a).2) := by
  intro sz
  refine jC.of "InputRoomModel" (by decide +kernel) rfl rfl (Nat.le_of_ble_eq_true rfl) (by intro v hv; simp only [List.mem_cons, List.not_mem_nil, or_false] at hv; rcases hv with rfl | rfl <;> first | rfl | exact jrf_cat _) ?_
  intro p e s m below meth c C hK hret hlk hnm hsz hAz
  have hb10 : lv 10 0 := h.k (by decide) (by decide)
  have hb11 : lv 11 0 := h.k (by decide) (by decide)
  have hb12 : lv 12 0 := h.k (by decide) (by decide)
  have hb13 : lv 13 0 := h.k (by decide) (by decide)
  have hb14 : lv 14 0 := h.k (by decide) (by decide)
  have hb15 : lv 15 0 := h.k (by decide) (by decide)
  have hb16 : lv 16 0 := h.k (by decide) (by decide)
  have hb17 : lv 17 0 := h.k (by decide) (by decide)
  have hb18 : lv 18 0 := h.k (by decide) (by decide)
  have hb19 : lv 19 0 := h.k (by decide) (by decide)
  refine j_iload_n C d_M_word_0 rfl rfl ?_
  refine j_if_lt C 19 d_M_word_1 rfl (fun g1 => ?_) (fun g1 => ?_)
  ·
    refine j_iconst (v := -1) C d_M_word_19 (by decide) ?_
    refine j_iret C hret hlk d_M_word_20 ?_ ?_ rfl rfl
    · rw [d_word, if_pos g1]
    · rw [d_word, if_pos g1]
  ·
    refine j_iload_n C d_M_word_4 rfl rfl ?_
    refine j_ldc C d_M_word_5 t_539 ?_
    refine j_icmp_gt C 19 d_M_word_7 rfl (fun g2 => ?_) (fun g2 => ?_)
    ·
      refine j_iconst (v := -1) C d_M_word_19 (by decide) ?_
      refine j_iret C hret hlk d_M_word_20 ?_ ?_ rfl rfl
      · rw [d_word, if_neg g1, if_pos g2]
      · rw [d_word, if_neg g1, if_pos g2]
    ·
      refine j_aload_n C d_M_word_10 rfl rfl ?_
      refine tgI C hK 10 0 12 d_M_word_11 in_M rfl rfl (by decide) t_388 rfl rfl rfl (by assumption) ?_
      refine j_bipush (v := 64) C d_M_word_14 (by decide) ?_
      refine j_icmp_ne C 21 d_M_word_16 rfl (fun g3 => ?_) (fun g3 => ?_)
      ·
        refine j_aload_n C d_M_word_21 rfl rfl ?_
        refine tgC C hK 10 0 11 d_M_word_22 in_M rfl rfl (by decide) t_387 rfl rfl rfl (by assumption) ?_
        refine j_aload_n C d_M_word_25 rfl rfl ?_
        refine tgI C hK 10 0 12 d_M_word_26 in_M rfl rfl (by decide) t_388 rfl rfl rfl (by assumption) ?_
        refine j_iload_n C d_M_word_29 rfl rfl ?_
        refine tia_st C hK 18 0 d_M_word_30 rfl (by rw [vp_in_iff]; have q := h.2.2.2.2.2.1; have q2 : (τ.1 10 0 12).toInt ≠ 64 := fun z => g3 (Int32.toInt_inj.mp z); omega) rfl rfl (by assumption) ?_
        refine j_aload_n C d_M_word_31 rfl rfl ?_
        refine j_aload_n C d_M_word_32 rfl rfl ?_
        refine tgI C hK 10 0 12 d_M_word_33 in_M rfl rfl (by decide) t_388 rfl rfl rfl (by assumption) ?_
        refine j_iconst (v := 1) C d_M_word_36 (by decide) ?_
        refine j_iadd C d_M_word_37 ?_
        refine tpI C hK 10 0 12 ty_M tk_M nm_M d_M_word_38 in_M rfl rfl (by decide) t_388 rfl rfl rfl rfl (((sI τ 18 0 (τ.1 10 0 12).toNatClampNeg (a)).1 10 0 12 + 1)) rfl rfl (by assumption) ?_
        refine j_aload_n C d_M_word_41 rfl rfl ?_
        refine j_aload_n C d_M_word_42 rfl rfl ?_
        refine tgI C hK 10 0 13 d_M_word_43 in_M rfl rfl (by decide) t_389 rfl rfl rfl (by assumption) ?_
        refine j_iconst (v := 1) C d_M_word_46 (by decide) ?_
        refine j_iadd C d_M_word_47 ?_
        refine tpI C hK 10 0 13 ty_M tk_M nm_M d_M_word_48 in_M rfl rfl (by decide) t_389 rfl rfl rfl rfl (((sI (sI τ 18 0 (τ.1 10 0 12).toNatClampNeg (a)) 10 0 12 (((sI τ 18 0 (τ.1 10 0 12).toNatClampNeg (a)).1 10 0 12 + 1))).1 10 0 13 + 1)) rfl rfl (by assumption) ?_
        refine j_aload_n C d_M_word_51 rfl rfl ?_
        refine tgI C hK 10 0 12 d_M_word_52 in_M rfl rfl (by decide) t_388 rfl rfl rfl (by assumption) ?_
        refine j_iret C hret hlk d_M_word_55 ?_ ?_ rfl rfl
        · rw [d_word, if_neg g1, if_neg g2, if_neg g3]; rfl
        · rw [d_word, if_neg g1, if_neg g2, if_neg g3]; rfl
      ·
        refine j_iconst (v := -1) C d_M_word_19 (by decide) ?_
        refine j_iret C hret hlk d_M_word_20 ?_ ?_ rfl rfl
        · rw [d_word, if_neg g1, if_neg g2, if_pos g3]
        · rw [d_word, if_neg g1, if_neg g2, if_pos g3]
set_option maxRecDepth 100000 in
set_option maxHeartbeats 4000000 in
theorem m_active {l : Launch} {D : va_G} {E : Nat → ClassId} {ad : Nat → Nat → Nat} {lv : Nat → Nat → Prop} {σ τ : sT} {N : Int} (h : OKm τ lv N) : jM l y_M_active c_M_active 1 (some .int) 0 D E ad lv (jv ad σ τ) [.ref (ad 10 0)] (some (.int (τ.1 10 0 8))) (jv ad σ τ) := by
  intro sz
  refine jC.of "InputRoomModel" (by decide +kernel) rfl rfl (Nat.le_of_ble_eq_true rfl) (by intro v hv; simp only [List.mem_cons, List.not_mem_nil, or_false] at hv; rcases hv with rfl <;> first | rfl | exact jrf_cat _) ?_
  intro p e s m below meth c C hK hret hlk hnm hsz hAz
  have hb10 : lv 10 0 := h.k (by decide) (by decide)
  have hb11 : lv 11 0 := h.k (by decide) (by decide)
  have hb12 : lv 12 0 := h.k (by decide) (by decide)
  have hb13 : lv 13 0 := h.k (by decide) (by decide)
  have hb14 : lv 14 0 := h.k (by decide) (by decide)
  have hb15 : lv 15 0 := h.k (by decide) (by decide)
  have hb16 : lv 16 0 := h.k (by decide) (by decide)
  have hb17 : lv 17 0 := h.k (by decide) (by decide)
  have hb18 : lv 18 0 := h.k (by decide) (by decide)
  have hb19 : lv 19 0 := h.k (by decide) (by decide)
  refine j_aload_n C d_M_active_0 rfl rfl ?_
  refine tgI C hK 10 0 8 d_M_active_1 in_M rfl rfl (by decide) t_384 rfl rfl rfl (by assumption) ?_
  refine j_iret C hret hlk d_M_active_4 ?_ ?_ rfl rfl
  · rfl
  · rfl
set_option maxRecDepth 100000 in
set_option maxHeartbeats 4000000 in
theorem m_present {l : Launch} {D : va_G} {E : Nat → ClassId} {ad : Nat → Nat → Nat} {lv : Nat → Nat → Prop} {σ τ : sT} {N : Int} (h : OKm τ lv N) : jM l y_M_present c_M_present 1 (some .int) 1 D E ad lv (jv ad σ τ) [.ref (ad 10 0)] (some (.int (mf_pres τ))) (jv ad σ τ) := by
  intro sz
  refine jC.of "InputRoomModel" (by decide +kernel) rfl rfl (Nat.le_of_ble_eq_true rfl) (by intro v hv; simp only [List.mem_cons, List.not_mem_nil, or_false] at hv; rcases hv with rfl <;> first | rfl | exact jrf_cat _) ?_
  intro p e s m below meth c C hK hret hlk hnm hsz hAz
  have hb10 : lv 10 0 := h.k (by decide) (by decide)
  have hb11 : lv 11 0 := h.k (by decide) (by decide)
  have hb12 : lv 12 0 := h.k (by decide) (by decide)
  have hb13 : lv 13 0 := h.k (by decide) (by decide)
  have hb14 : lv 14 0 := h.k (by decide) (by decide)
  have hb15 : lv 15 0 := h.k (by decide) (by decide)
  have hb16 : lv 16 0 := h.k (by decide) (by decide)
  have hb17 : lv 17 0 := h.k (by decide) (by decide)
  have hb18 : lv 18 0 := h.k (by decide) (by decide)
  have hb19 : lv 19 0 := h.k (by decide) (by decide)
  refine j_aload_n C d_M_present_0 rfl rfl ?_
  refine j_callV C hK hAz 10 0 (m_pres h _) (jcV C mi_M_present0 t_466 t_468 t_21 rfl rfl ⟨by decide, by decide⟩) rfl rfl (by assumption) rfl rfl (Nat.le_of_ble_eq_true rfl) d_M_present_1 ⟨Nat.zero_le _, Nat.zero_le _⟩ ?_
  refine j_iret C hret hlk d_M_present_4 ?_ ?_ rfl rfl
  · rfl
  · rfl
set_option maxRecDepth 100000 in
set_option maxHeartbeats 4000000 in
theorem m_clock {l : Launch} {D : va_G} {E : Nat → ClassId} {ad : Nat → Nat → Nat} {lv : Nat → Nat → Prop} {σ τ : sT} {N : Int} (h : OKm τ lv N) : jM l y_M_clock c_M_clock 1 (some .int) 0 D E ad lv (jv ad σ τ) [.ref (ad 10 0)] (some (.int (τ.1 10 0 17))) (jv ad σ τ) := by
  intro sz
  refine jC.of "InputRoomModel" (by decide +kernel) rfl rfl (Nat.le_of_ble_eq_true rfl) (by intro v hv; simp only [List.mem_cons, List.not_mem_nil, or_false] at hv; rcases hv with rfl <;> first | rfl | exact jrf_cat _) ?_
  intro p e s m below meth c C hK hret hlk hnm hsz hAz
  have hb10 : lv 10 0 := h.k (by decide) (by decide)
  have hb11 : lv 11 0 := h.k (by decide) (by decide)
  have hb12 : lv 12 0 := h.k (by decide) (by decide)
  have hb13 : lv 13 0 := h.k (by decide) (by decide)
  have hb14 : lv 14 0 := h.k (by decide) (by decide)
  have hb15 : lv 15 0 := h.k (by decide) (by decide)
  have hb16 : lv 16 0 := h.k (by decide) (by decide)
  have hb17 : lv 17 0 := h.k (by decide) (by decide)
  have hb18 : lv 18 0 := h.k (by decide) (by decide)
  have hb19 : lv 19 0 := h.k (by decide) (by decide)
  refine j_aload_n C d_M_clock_0 rfl rfl ?_
  refine tgI C hK 10 0 17 d_M_clock_1 in_M rfl rfl (by decide) t_393 rfl rfl rfl (by assumption) ?_
  refine j_iret C hret hlk d_M_clock_4 ?_ ?_ rfl rfl
  · rfl
  · rfl
set_option maxRecDepth 100000 in
set_option maxHeartbeats 4000000 in
theorem m_codes {l : Launch} {D : va_G} {E : Nat → ClassId} {ad : Nat → Nat → Nat} {lv : Nat → Nat → Prop} {σ τ : sT} {N : Int} (h : OKm τ lv N) : jM l y_M_codes c_M_codes 1 (some .long) 0 D E ad lv (jv ad σ τ) [.ref (ad 10 0)] (some (.long (τ.2.2 10 0 18))) (jv ad σ τ) := by
  intro sz
  refine jC.of "InputRoomModel" (by decide +kernel) rfl rfl (Nat.le_of_ble_eq_true rfl) (by intro v hv; simp only [List.mem_cons, List.not_mem_nil, or_false] at hv; rcases hv with rfl <;> first | rfl | exact jrf_cat _) ?_
  intro p e s m below meth c C hK hret hlk hnm hsz hAz
  have hb10 : lv 10 0 := h.k (by decide) (by decide)
  have hb11 : lv 11 0 := h.k (by decide) (by decide)
  have hb12 : lv 12 0 := h.k (by decide) (by decide)
  have hb13 : lv 13 0 := h.k (by decide) (by decide)
  have hb14 : lv 14 0 := h.k (by decide) (by decide)
  have hb15 : lv 15 0 := h.k (by decide) (by decide)
  have hb16 : lv 16 0 := h.k (by decide) (by decide)
  have hb17 : lv 17 0 := h.k (by decide) (by decide)
  have hb18 : lv 18 0 := h.k (by decide) (by decide)
  have hb19 : lv 19 0 := h.k (by decide) (by decide)
  refine j_aload_n C d_M_codes_0 rfl rfl ?_
  refine tgL C hK 10 0 18 d_M_codes_1 in_M rfl rfl (by decide) t_394 rfl rfl rfl (by assumption) ?_
  refine j_lret C hret hlk d_M_codes_4 ?_ ?_ rfl rfl
  · rfl
  · rfl
set_option maxRecDepth 100000 in
set_option maxHeartbeats 4000000 in
theorem m_input {l : Launch} {D : va_G} {E : Nat → ClassId} {ad : Nat → Nat → Nat} {lv : Nat → Nat → Prop} {σ τ : sT} {N : Int} (h : OKm τ lv N) : jM l y_M_input c_M_input 1 (some .int) 0 D E ad lv (jv ad σ τ) [.ref (ad 10 0)] (some (.int (τ.1 10 0 14))) (jv ad σ τ) := by
  intro sz
  refine jC.of "InputRoomModel" (by decide +kernel) rfl rfl (Nat.le_of_ble_eq_true rfl) (by intro v hv; simp only [List.mem_cons, List.not_mem_nil, or_false] at hv; rcases hv with rfl <;> first | rfl | exact jrf_cat _) ?_
  intro p e s m below meth c C hK hret hlk hnm hsz hAz
  have hb10 : lv 10 0 := h.k (by decide) (by decide)
  have hb11 : lv 11 0 := h.k (by decide) (by decide)
  have hb12 : lv 12 0 := h.k (by decide) (by decide)
  have hb13 : lv 13 0 := h.k (by decide) (by decide)
  have hb14 : lv 14 0 := h.k (by decide) (by decide)
  have hb15 : lv 15 0 := h.k (by decide) (by decide)
  have hb16 : lv 16 0 := h.k (by decide) (by decide)
  have hb17 : lv 17 0 := h.k (by decide) (by decide)
  have hb18 : lv 18 0 := h.k (by decide) (by decide)
  have hb19 : lv 19 0 := h.k (by decide) (by decide)
  refine j_aload_n C d_M_input_0 rfl rfl ?_
  refine tgI C hK 10 0 14 d_M_input_1 in_M rfl rfl (by decide) t_390 rfl rfl rfl (by assumption) ?_
  refine j_iret C hret hlk d_M_input_4 ?_ ?_ rfl rfl
  · rfl
  · rfl
set_option maxRecDepth 100000 in
set_option maxHeartbeats 4000000 in
theorem m_tick {l : Launch} {D : va_G} {E : Nat → ClassId} {ad : Nat → Nat → Nat} {lv : Nat → Nat → Prop} {σ τ : sT} {N : Int} (h : OKm τ lv N) : jM l y_M_tick c_M_tick 1 (some .int) 0 D E ad lv (jv ad σ τ) [.ref (ad 10 0)] (some (.int (d_tick τ))) (jv ad σ τ) := by
  intro sz
  refine jC.of "InputRoomModel" (by decide +kernel) rfl rfl (Nat.le_of_ble_eq_true rfl) (by intro v hv; simp only [List.mem_cons, List.not_mem_nil, or_false] at hv; rcases hv with rfl <;> first | rfl | exact jrf_cat _) ?_
  intro p e s m below meth c C hK hret hlk hnm hsz hAz
  have hb10 : lv 10 0 := h.k (by decide) (by decide)
  have hb11 : lv 11 0 := h.k (by decide) (by decide)
  have hb12 : lv 12 0 := h.k (by decide) (by decide)
  have hb13 : lv 13 0 := h.k (by decide) (by decide)
  have hb14 : lv 14 0 := h.k (by decide) (by decide)
  have hb15 : lv 15 0 := h.k (by decide) (by decide)
  have hb16 : lv 16 0 := h.k (by decide) (by decide)
  have hb17 : lv 17 0 := h.k (by decide) (by decide)
  have hb18 : lv 18 0 := h.k (by decide) (by decide)
  have hb19 : lv 19 0 := h.k (by decide) (by decide)
  refine j_aload_n C d_M_tick_0 rfl rfl ?_
  refine tgI C hK 10 0 15 d_M_tick_1 in_M rfl rfl (by decide) t_391 rfl rfl rfl (by assumption) ?_
  refine j_if_lt C 14 d_M_tick_4 rfl (fun g1 => ?_) (fun g1 => ?_)
  ·
    refine j_iconst (v := -1) C d_M_tick_14 (by decide) ?_
    refine j_iret C hret hlk d_M_tick_15 ?_ ?_ rfl rfl
    · rw [d_tick, if_pos g1]
    · rfl
  ·
    refine j_aload_n C d_M_tick_7 rfl rfl ?_
    refine tgI C hK 10 0 16 d_M_tick_8 in_M rfl rfl (by decide) t_392 rfl rfl rfl (by assumption) ?_
    refine j_goto C 15 d_M_tick_11 rfl ?_
    refine j_iret C hret hlk d_M_tick_15 ?_ ?_ rfl rfl
    · rw [d_tick, if_neg g1]
    · rfl
set_option maxRecDepth 100000 in
set_option maxHeartbeats 4000000 in
theorem m_done {l : Launch} {D : va_G} {E : Nat → ClassId} {ad : Nat → Nat → Nat} {lv : Nat → Nat → Prop} {σ τ : sT} {N : Int} (h : OKm τ lv N) {a : Int32} : jM l y_M_done c_M_done 2 (some .int) 1 D E ad lv (jv ad σ τ) [.ref (ad 10 0), .int (a)] (some (.int (d_done τ a))) (jv ad σ τ) := by
  intro sz
  refine jC.of "InputRoomModel" (by decide +kernel) rfl rfl (Nat.le_of_ble_eq_true rfl) (by intro v hv; simp only [List.mem_cons, List.not_mem_nil, or_false] at hv; rcases hv with rfl | rfl <;> first | rfl | exact jrf_cat _) ?_
  intro p e s m below meth c C hK hret hlk hnm hsz hAz
  have hb10 : lv 10 0 := h.k (by decide) (by decide)
  have hb11 : lv 11 0 := h.k (by decide) (by decide)
  have hb12 : lv 12 0 := h.k (by decide) (by decide)
  have hb13 : lv 13 0 := h.k (by decide) (by decide)
  have hb14 : lv 14 0 := h.k (by decide) (by decide)
  have hb15 : lv 15 0 := h.k (by decide) (by decide)
  have hb16 : lv 16 0 := h.k (by decide) (by decide)
  have hb17 : lv 17 0 := h.k (by decide) (by decide)
  have hb18 : lv 18 0 := h.k (by decide) (by decide)
  have hb19 : lv 19 0 := h.k (by decide) (by decide)
  refine j_aload_n C d_M_done_0 rfl rfl ?_
  refine j_iload_n C d_M_done_1 rfl rfl ?_
  refine j_callV C hK hAz 10 0 (m_isMade (a := a) h _) (jcV C mi_M_isMade t_507 t_509 t_29 rfl rfl ⟨by decide, by decide⟩) rfl rfl (by assumption) rfl rfl (Nat.le_of_ble_eq_true rfl) d_M_done_2 ⟨Nat.zero_le _, Nat.zero_le _⟩ ?_
  refine j_if_eq C 17 d_M_done_5 rfl (fun g1 => ?_) (fun g1 => ?_)
  ·
    have n0 : ¬ isM τ a := isM_no g1
    refine j_iconst (v := -1) C d_M_done_17 (by decide) ?_
    refine j_iret C hret hlk d_M_done_18 ?_ ?_ rfl rfl
    · rw [d_done, if_neg n0]
    · rfl
  ·
    have q0 : isM τ a := isM_yes g1
    refine j_aload_n C d_M_done_8 rfl rfl ?_
    refine tgC C hK 10 0 3 d_M_done_9 in_M rfl rfl (by decide) t_379 rfl rfl rfl (by assumption) ?_
    refine j_iload_n C d_M_done_12 rfl rfl ?_
    refine tia C hK 14 0 d_M_done_13 rfl (isM_in q0) rfl rfl (by assumption) ?_
    refine j_goto C 18 d_M_done_14 rfl ?_
    refine j_iret C hret hlk d_M_done_18 ?_ ?_ rfl rfl
    · rw [d_done, if_pos q0]
    · rfl
set_option maxRecDepth 100000 in
set_option maxHeartbeats 4000000 in
theorem m_row {l : Launch} {D : va_G} {E : Nat → ClassId} {ad : Nat → Nat → Nat} {lv : Nat → Nat → Prop} {σ τ : sT} {N : Int} (h : OKm τ lv N) {a : Int32} : jM l y_M_row c_M_row 2 (some .int) 1 D E ad lv (jv ad σ τ) [.ref (ad 10 0), .int (a)] (some (.int (d_row τ a))) (jv ad σ τ) := by
  intro sz
  refine jC.of "InputRoomModel" (by decide +kernel) rfl rfl (Nat.le_of_ble_eq_true rfl) (by intro v hv; simp only [List.mem_cons, List.not_mem_nil, or_false] at hv; rcases hv with rfl | rfl <;> first | rfl | exact jrf_cat _) ?_
  intro p e s m below meth c C hK hret hlk hnm hsz hAz
  have hb10 : lv 10 0 := h.k (by decide) (by decide)
  have hb11 : lv 11 0 := h.k (by decide) (by decide)
  have hb12 : lv 12 0 := h.k (by decide) (by decide)
  have hb13 : lv 13 0 := h.k (by decide) (by decide)
  have hb14 : lv 14 0 := h.k (by decide) (by decide)
  have hb15 : lv 15 0 := h.k (by decide) (by decide)
  have hb16 : lv 16 0 := h.k (by decide) (by decide)
  have hb17 : lv 17 0 := h.k (by decide) (by decide)
  have hb18 : lv 18 0 := h.k (by decide) (by decide)
  have hb19 : lv 19 0 := h.k (by decide) (by decide)
  refine j_aload_n C d_M_row_0 rfl rfl ?_
  refine j_iload_n C d_M_row_1 rfl rfl ?_
  refine j_callV C hK hAz 10 0 (m_isMade (a := a) h _) (jcV C mi_M_isMade t_507 t_509 t_29 rfl rfl ⟨by decide, by decide⟩) rfl rfl (by assumption) rfl rfl (Nat.le_of_ble_eq_true rfl) d_M_row_2 ⟨Nat.zero_le _, Nat.zero_le _⟩ ?_
  refine j_if_eq C 17 d_M_row_5 rfl (fun g1 => ?_) (fun g1 => ?_)
  ·
    have n0 : ¬ isM τ a := isM_no g1
    refine j_iconst (v := -1) C d_M_row_17 (by decide) ?_
    refine j_iret C hret hlk d_M_row_18 ?_ ?_ rfl rfl
    · rw [d_row, if_neg n0]
    · rfl
  ·
    have q0 : isM τ a := isM_yes g1
    refine j_aload_n C d_M_row_8 rfl rfl ?_
    refine tgC C hK 10 0 4 d_M_row_9 in_M rfl rfl (by decide) t_380 rfl rfl rfl (by assumption) ?_
    refine j_iload_n C d_M_row_12 rfl rfl ?_
    refine tia C hK 15 0 d_M_row_13 rfl (isM_in q0) rfl rfl (by assumption) ?_
    refine j_goto C 18 d_M_row_14 rfl ?_
    refine j_iret C hret hlk d_M_row_18 ?_ ?_ rfl rfl
    · rw [d_row, if_pos q0]
    · rfl
set_option maxRecDepth 100000 in
set_option maxHeartbeats 4000000 in
theorem m_extra {l : Launch} {D : va_G} {E : Nat → ClassId} {ad : Nat → Nat → Nat} {lv : Nat → Nat → Prop} {σ τ : sT} {N : Int} (h : OKm τ lv N) {a : Int32} : jM l y_M_extra c_M_extra 2 (some .int) 1 D E ad lv (jv ad σ τ) [.ref (ad 10 0), .int (a)] (some (.int (d_extra τ a))) (jv ad σ τ) := by
  intro sz
  refine jC.of "InputRoomModel" (by decide +kernel) rfl rfl (Nat.le_of_ble_eq_true rfl) (by intro v hv; simp only [List.mem_cons, List.not_mem_nil, or_false] at hv; rcases hv with rfl | rfl <;> first | rfl | exact jrf_cat _) ?_
  intro p e s m below meth c C hK hret hlk hnm hsz hAz
  have hb10 : lv 10 0 := h.k (by decide) (by decide)
  have hb11 : lv 11 0 := h.k (by decide) (by decide)
  have hb12 : lv 12 0 := h.k (by decide) (by decide)
  have hb13 : lv 13 0 := h.k (by decide) (by decide)
  have hb14 : lv 14 0 := h.k (by decide) (by decide)
  have hb15 : lv 15 0 := h.k (by decide) (by decide)
  have hb16 : lv 16 0 := h.k (by decide) (by decide)
  have hb17 : lv 17 0 := h.k (by decide) (by decide)
  have hb18 : lv 18 0 := h.k (by decide) (by decide)
  have hb19 : lv 19 0 := h.k (by decide) (by decide)
  refine j_iload_n C d_M_extra_0 rfl rfl ?_
  refine j_callS C hK hAz (m_isSem (a := a) _) ⟨jcB C mi_M_isSemaphore t_523 rfl rfl ⟨by decide, by decide⟩, C.2.2.2.2 _ t_524⟩ rfl rfl (Nat.le_of_ble_eq_true rfl) d_M_extra_1 ⟨Nat.zero_le _, Nat.zero_le _⟩ ?_
  refine j_if_eq C 16 d_M_extra_4 rfl (fun g1 => ?_) (fun g1 => ?_)
  ·
    have n0 : ¬ isS a := fun z => by rw [if_pos z] at g1; exact absurd g1 (by decide)
    refine j_iconst (v := -1) C d_M_extra_16 (by decide) ?_
    refine j_iret C hret hlk d_M_extra_17 ?_ ?_ rfl rfl
    · rw [d_extra, if_neg n0]
    · rfl
  ·
    have q0 : isS a := Decidable.byContradiction fun z => g1 (if_neg z)
    refine j_aload_n C d_M_extra_7 rfl rfl ?_
    refine tgC C hK 10 0 7 d_M_extra_8 in_M rfl rfl (by decide) t_383 rfl rfl rfl (by assumption) ?_
    refine j_iload_n C d_M_extra_11 rfl rfl ?_
    refine tia C hK 17 0 d_M_extra_12 rfl (isS_in q0) rfl rfl (by assumption) ?_
    refine j_goto C 17 d_M_extra_13 rfl ?_
    refine j_iret C hret hlk d_M_extra_17 ?_ ?_ rfl rfl
    · rw [d_extra, if_pos q0]
    · rfl
set_option maxRecDepth 100000 in
set_option maxHeartbeats 4000000 in
theorem m_wordAt {l : Launch} {D : va_G} {E : Nat → ClassId} {ad : Nat → Nat → Nat} {lv : Nat → Nat → Prop} {σ τ : sT} {N : Int} (h : OKm τ lv N) {a : Int32} : jM l y_M_wordAt c_M_wordAt 2 (some .int) 0 D E ad lv (jv ad σ τ) [.ref (ad 10 0), .int (a)] (some (.int (d_wordAt τ a))) (jv ad σ τ) := by
  intro sz
  refine jC.of "InputRoomModel" (by decide +kernel) rfl rfl (Nat.le_of_ble_eq_true rfl) (by intro v hv; simp only [List.mem_cons, List.not_mem_nil, or_false] at hv; rcases hv with rfl | rfl <;> first | rfl | exact jrf_cat _) ?_
  intro p e s m below meth c C hK hret hlk hnm hsz hAz
  have hb10 : lv 10 0 := h.k (by decide) (by decide)
  have hb11 : lv 11 0 := h.k (by decide) (by decide)
  have hb12 : lv 12 0 := h.k (by decide) (by decide)
  have hb13 : lv 13 0 := h.k (by decide) (by decide)
  have hb14 : lv 14 0 := h.k (by decide) (by decide)
  have hb15 : lv 15 0 := h.k (by decide) (by decide)
  have hb16 : lv 16 0 := h.k (by decide) (by decide)
  have hb17 : lv 17 0 := h.k (by decide) (by decide)
  have hb18 : lv 18 0 := h.k (by decide) (by decide)
  have hb19 : lv 19 0 := h.k (by decide) (by decide)
  refine j_iload_n C d_M_wordAt_0 rfl rfl ?_
  refine j_if_lt C 21 d_M_wordAt_1 rfl (fun g1 => ?_) (fun g1 => ?_)
  ·
    refine j_iconst (v := -1) C d_M_wordAt_21 (by decide) ?_
    refine j_iret C hret hlk d_M_wordAt_22 ?_ ?_ rfl rfl
    · rw [d_wordAt, if_pos g1]
    · rfl
  ·
    refine j_iload_n C d_M_wordAt_4 rfl rfl ?_
    refine j_aload_n C d_M_wordAt_5 rfl rfl ?_
    refine tgI C hK 10 0 12 d_M_wordAt_6 in_M rfl rfl (by decide) t_388 rfl rfl rfl (by assumption) ?_
    refine j_icmp_ge C 21 d_M_wordAt_9 rfl (fun g2 => ?_) (fun g2 => ?_)
    ·
      refine j_iconst (v := -1) C d_M_wordAt_21 (by decide) ?_
      refine j_iret C hret hlk d_M_wordAt_22 ?_ ?_ rfl rfl
      · rw [d_wordAt, if_neg g1, if_pos g2]
      · rfl
    ·
      refine j_aload_n C d_M_wordAt_12 rfl rfl ?_
      refine tgC C hK 10 0 11 d_M_wordAt_13 in_M rfl rfl (by decide) t_387 rfl rfl rfl (by assumption) ?_
      refine j_iload_n C d_M_wordAt_16 rfl rfl ?_
      refine tia C hK 18 0 d_M_wordAt_17 rfl (by rw [vp_in_iff]; have q := h.2.2.2.2.2.1; have g1 := g1; have g2 := g2; rw [i32_lt, i32_0] at g1; rw [i32_le] at g2; omega) rfl rfl (by assumption) ?_
      refine j_goto C 22 d_M_wordAt_18 rfl ?_
      refine j_iret C hret hlk d_M_wordAt_22 ?_ ?_ rfl rfl
      · rw [d_wordAt, if_neg g1, if_neg g2]
      · rfl
