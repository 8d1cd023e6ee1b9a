/-! the room's own constructor -/
def vB (ad : Nat → Nat → Nat) (V : jVT) (a b : Nat) : jVT := fun k i j => match k with
  | 0 => match j with
    | 0 => .ref (ad 1 0) | 1 => .ref (ad 2 0) | 2 => .ref (ad 3 0) | 3 => .ref (ad 4 0) | j + 4 => defaultValue (ty_X (j + 4))
  | 1 => .null
  | 2 => if j < a then .ref (ad 6 j) else .null
  | 3 => if j < b then .ref (ad 7 j) else .null
  | 4 => match j with
    | 0 => .ref (ad 5 0) | j + 1 => defaultValue (ty_W (j + 1))
  | 5 => .int 0
  | 6 => match j with
    | 0 => .int (rno i) | j + 1 => defaultValue (ty_R (j + 1))
  | 7 => match j with
    | 0 => .int (nI i) | 1 => .ref (ad 6 (8 + i)) | j + 2 => defaultValue (ty_S (j + 2))
  | k + 8 => V (k + 8) i j
def lvX : Nat → Nat → Prop := fun k i => k = 0 ∧ i = 0
def lvB (a b k i : Nat) : Prop := (k ≤ 5 ∧ i = 0) ∨ (k = 6 ∧ (i < a ∨ (8 ≤ i ∧ i < 8 + b))) ∨ (k = 7 ∧ i < b)
abbrev RMX : Room := { frames := 3, cells := 45, slots := 244, locals := 90 }
abbrev JXI (l : Launch) (D : va_G) (E : Nat → ClassId) (ad : Nat → Nat → Nat) (sz : Nat) (p : Program) (e : Env) (s : State) (m : MethodId) (below : List Frame) (meth : Method) (c : Code) (V : jVT) (cells slots z : Nat) (lvc : Nat → Nat → Prop) (Vc : jVT) (pc : Nat) (lsv : List (Option Value)) (stk : List Value) : Prop :=
  J p l e (headSpec (Cond.code y_X_init c_X_init 2 none :: jT) RMX).room s m ([.ref (ad 0 0)] : List Value).toArray below meth c (MQ below (jQ D jcl jY E ad lvX sz none (lvB 8 16) (vB ad V 8 16) (sz + 45)) ([.ref (ad 0 0)] : List Value).toArray s 45 244 (jA ad lvX sz)) D jcl jY E ad (jA ad lvX sz) s.heap 2 cells slots z lvc Vc pc lsv stk
def adX (ad : Nat → Nat → Nat) (sz : Nat) : Prop := (∀ k, 1 ≤ k → k ≤ 5 → ad k 0 = sz + (k - 1)) ∧ (∀ r, r < 8 → ad 6 r = sz + 5 + r) ∧ ∀ n, n < 16 → ad 7 n = sz + 13 + 2 * n ∧ ad 6 (8 + n) = sz + 14 + 2 * n
theorem vB_s1 {ad : Nat → Nat → Nat} {V : jVT} {a : Nat} (ha : a < 8) : ∀ k i, lvB (a + 1) 0 k i → ∀ j, j < jN k → jup (jup (jnw (vB ad V a 0) 6 a (fun j => defaultValue (ty_R j))) 6 a 0 (.int (nI a + 1))) 2 0 (nI a).toNatClampNeg (.ref (ad 6 a)) k i j = vB ad V (a + 1) 0 k i j := by
  intro k i hl j hj
  rw [nI_clamp (by omega)]
  by_cases h2 : k = 2
  · subst h2
    have hi : i = 0 := by rcases hl with h | h | h <;> omega
    subst hi
    by_cases hja : j = a
    · subst hja; simp [jup, vB]
    · have e : (j < a + 1) ↔ (j < a) := by omega
      simp [jup, jnw, vB, hja, e]
  · by_cases h6 : k = 6 ∧ i = a
    · obtain ⟨rfl, rfl⟩ := h6
      cases j with
      | zero => simp [jup, vB, rno, ha, nI_succ]
      | succ j => simp [jup, jnw, vB]
    · have e1 : jup (jup (jnw (vB ad V a 0) 6 a (fun j => defaultValue (ty_R j))) 6 a 0 (.int (nI a + 1))) 2 0 a (.ref (ad 6 a)) k i j = vB ad V a 0 k i j := by
        simp only [jup, jnw]
        rw [if_neg (fun q => h2 q.1), if_neg (fun q => h6 ⟨q.1, q.2.1⟩), if_neg h6]
      rw [e1]
      match k, h2 with
      | 0, _ => rfl
      | 1, _ => rfl
      | 2, h => exact absurd rfl h
      | 3, _ => rfl
      | 4, _ => rfl
      | 5, _ => rfl
      | 6, _ => rfl
      | 7, _ => rfl
      | k + 8, _ => rfl
theorem vB_s2 {ad : Nat → Nat → Nat} {V : jVT} {b : Nat} (hb : b < 16) : ∀ k i, lvB 8 (b + 1) k i → ∀ j, j < jN k → jup (jup (jup (jnw (jup (jnw (vB ad V 8 b) 7 b (fun j => defaultValue (ty_S j))) 7 b 0 (.int (nI b))) 6 (8 + b) (fun j => defaultValue (ty_R j))) 6 (8 + b) 0 (.int (16 + nI b))) 7 b 1 (.ref (ad 6 (8 + b)))) 3 0 (nI b).toNatClampNeg (.ref (ad 7 b)) k i j = vB ad V 8 (b + 1) k i j := by
  intro k i hl j hj
  rw [nI_clamp (by omega)]
  by_cases h3 : k = 3
  · subst h3
    have hi : i = 0 := by rcases hl with h | h | h <;> omega
    subst hi
    by_cases hja : j = b
    · subst hja; simp [jup, vB]
    · have e : (j < b + 1) ↔ (j < b) := by omega
      simp [jup, jnw, vB, hja, e]
  · by_cases h7 : k = 7 ∧ i = b
    · obtain ⟨rfl, rfl⟩ := h7
      match j with
      | 0 => simp [jup, jnw, vB]
      | 1 => simp [jup, jnw, vB]
      | j + 2 => simp [jup, jnw, vB]
    · by_cases h6 : k = 6 ∧ i = 8 + b
      · obtain ⟨rfl, rfl⟩ := h6
        cases j with
        | zero =>
          have e : (16 : Int32) + nI b = rno (8 + b) := by
            unfold rno
            rw [if_neg (by omega), show (16 : Int32) = nI 16 from rfl, nI_add]
            congr 1
            omega
          simp [jup, jnw, vB, e]
        | succ j => simp [jup, jnw, vB]
      · have e1 : jup (jup (jup (jnw (jup (jnw (vB ad V 8 b) 7 b (fun j => defaultValue (ty_S j))) 7 b 0 (.int (nI b))) 6 (8 + b) (fun j => defaultValue (ty_R j))) 6 (8 + b) 0 (.int (16 + nI b))) 7 b 1 (.ref (ad 6 (8 + b)))) 3 0 b (.ref (ad 7 b)) k i j = vB ad V 8 b k i j := by
          simp only [jup, jnw]
          rw [if_neg (fun q => h3 q.1), if_neg (fun q => h7 ⟨q.1, q.2.1⟩), if_neg (fun q => h6 ⟨q.1, q.2.1⟩), if_neg h6, if_neg (fun q => h7 ⟨q.1, q.2.1⟩), if_neg h7]
        rw [e1]
        match k, h3 with
        | 0, _ => rfl
        | 1, _ => rfl
        | 2, _ => rfl
        | 3, h => exact absurd rfl h
        | 4, _ => rfl
        | 5, _ => rfl
        | 6, _ => rfl
        | 7, _ => rfl
        | k + 8, _ => rfl
theorem vB_s0 {ad : Nat → Nat → Nat} {V : jVT} (hV0 : ∀ j, V 0 0 j = defaultValue (ty_X j)) : ∀ k i, lvB 0 0 k i → ∀ j, j < jN k → jup (jup (jnw (jnw (jup (jnw (jup (jnw (jup (jnw V 1 0 (fun _ => .null)) 0 0 0 (.ref (ad 1 0))) 2 0 (fun _ => .null)) 0 0 1 (.ref (ad 2 0))) 3 0 (fun _ => .null)) 0 0 2 (.ref (ad 3 0))) 4 0 (fun j => defaultValue (ty_W j))) 5 0 (fun _ => .int 0)) 4 0 0 (.ref (ad 5 0))) 0 0 3 (.ref (ad 4 0)) k i j = vB ad V 0 0 k i j := by
  intro k i hl j hj
  have hi : i = 0 ∧ k ≤ 5 := by rcases hl with h | h | h <;> omega
  obtain ⟨rfl, hk⟩ := hi
  match k, hk with
  | 0, _ =>
    match j with
    | 0 => simp [jup, jnw, vB]
    | 1 => simp [jup, jnw, vB]
    | 2 => simp [jup, jnw, vB]
    | 3 => simp [jup, jnw, vB]
    | j + 4 => simp [jup, jnw, vB, hV0]
  | 1, _ => simp [jup, jnw, vB]
  | 2, _ => simp [jup, jnw, vB]
  | 3, _ => simp [jup, jnw, vB]
  | 4, _ =>
    cases j with
    | zero => simp [jup, jnw, vB]
    | succ j => simp [jup, jnw, vB]
  | 5, _ => simp [jup, jnw, vB]
  | k + 6, h => exact absurd h (by omega)
set_option maxRecDepth 100000 in
set_option maxHeartbeats 4000000 in
theorem lp_X2 {l : Launch} {D : va_G} {E : Nat → ClassId} {ad : Nat → Nat → Nat} {sz : Nat} {V : jVT} {p : Program} {e : Env} {s : State} {m : MethodId} {below : List Frame} {meth : Method} {c : Code} (C : CallFix p m c c_X_init 2 s ([.ref (ad 0 0)] : List Value).toArray jT "InputRoom") (hK : jK D jcl jY E s) (hret : meth.sig.returnType = none) (hlk : meth.locks = false) (hnm : meth.name = y_X_init.name) (hAz : ∀ q, s.heap.size ≤ q → jA ad lvX sz q) (hd : adX ad sz) : ∀ (n b : Nat) (i : Int32), b + n = 16 → i = nI b → JXI l D E ad sz p e s m below meth c V (13 + 2 * b) (148 + 6 * b) (sz + 13 + 2 * b) (lvB 8 b) (vB ad V 8 b) 74 [some (.ref (ad 0 0)), some (.int i)] [] := by
  intro n
  induction n with
  | zero =>
    intro b i hb hi
    have hb : b = 16 := by omega
    subst hb
    subst hi
    refine j_iload_n C d_X_init_74 rfl rfl ?_
    refine j_bipush (v := 16) C d_X_init_75 (by decide) ?_
    refine j_icmp_ge C 100 d_X_init_77 rfl (fun _ => ?_) (fun q => absurd (by decide) q)
    refine j_vret C hret hlk d_X_init_100 rfl rfl rfl rfl
  | succ n ih =>
    intro b i hb hi
    subst hi
    have hd2 := hd.2.2 b (by omega)
    have hin : vp_in (nI b) 16 := vp_in_nI (by omega) (by decide)
    refine j_iload_n C d_X_init_74 rfl rfl ?_
    refine j_bipush (v := 16) C d_X_init_75 (by decide) ?_
    refine j_icmp_ge C 100 d_X_init_77 rfl (fun q => absurd q (nI_ge (a := b) (b := 16) (by omega) (by decide))) (fun _ => ?_)
    refine j_aload_n C d_X_init_80 rfl rfl ?_
    refine j_get C hK 0 0 2 d_X_init_81 in_X rfl rfl (by decide) t_108 rfl (Or.inl ⟨by decide, rfl⟩) ?_
    refine j_iload_n C d_X_init_84 rfl rfl ?_
    refine j_new C hK hAz 7 b ty_S tk_S d_X_init_85 in_S t_50 t_87 t_34 rfl rfl (by rintro (h | h | h) <;> omega) (by omega) (by show 13 + 2 * b + 1 ≤ 45; omega) (by show 148 + 6 * b + 3 ≤ 244; omega) ?_
    refine j_dup C d_X_init_88 rfl ?_
    refine j_iload_n C d_X_init_89 rfl rfl ?_
    refine j_callI C hK hAz (i_Sem (n := b) (r := 8 + b) (a := nI b) (Or.inr ⟨rfl, rfl⟩) (by rintro ((h | h | h) | h) <;> omega) _ (by omega)) ⟨jcB C mi_S_init t_88 rfl rfl ⟨by decide, by decide⟩, rfl, C.2.2.2.2 _ t_89⟩ rfl rfl (Nat.le_of_ble_eq_true rfl) d_X_init_90 ⟨by show 13 + 2 * b + 1 + 1 ≤ 45; omega, by show 148 + 6 * b + 3 + 3 ≤ 244; omega⟩ ?_
    refine j_aast C hK 3 0 7 b d_X_init_93 rfl rfl rfl hin (Or.inl (Or.inl (Or.inl ⟨by decide, rfl⟩))) (Or.inl (Or.inr ⟨rfl, rfl⟩)) ?_
    refine j_iinc C d_X_init_94 rfl (by decide) ?_
    refine j_goto C 74 d_X_init_97 rfl ?_
    refine j_lv (lv' := lvB 8 (b + 1)) (fun k i => ?_) ?_
    · unfold jlv lvB; omega
    refine j_Vc (V' := vB ad V 8 (b + 1)) (vB_s2 (by omega)) ?_
    exact ih (b + 1) _ (by omega) (i32_p1 b)
set_option maxRecDepth 100000 in
set_option maxHeartbeats 4000000 in
theorem lp_X1 {l : Launch} {D : va_G} {E : Nat → ClassId} {ad : Nat → Nat → Nat} {sz : Nat} {V : jVT} {p : Program} {e : Env} {s : State} {m : MethodId} {below : List Frame} {meth : Method} {c : Code} (C : CallFix p m c c_X_init 2 s ([.ref (ad 0 0)] : List Value).toArray jT "InputRoom") (hK : jK D jcl jY E s) (hret : meth.sig.returnType = none) (hlk : meth.locks = false) (hnm : meth.name = y_X_init.name) (hAz : ∀ q, s.heap.size ≤ q → jA ad lvX sz q) (hd : adX ad sz) : ∀ (n a : Nat) (i : Int32), a + n = 8 → i = nI a → JXI l D E ad sz p e s m below meth c V (5 + a) (124 + 3 * a) (sz + 5 + a) (lvB a 0) (vB ad V a 0) 44 [some (.ref (ad 0 0)), some (.int i)] [] := by
  intro n
  induction n with
  | zero =>
    intro a i ha hi
    have ha : a = 8 := by omega
    subst ha
    subst hi
    refine j_iload_n C d_X_init_44 rfl rfl ?_
    refine j_bipush (v := 8) C d_X_init_45 (by decide) ?_
    refine j_icmp_ge C 72 d_X_init_47 rfl (fun _ => ?_) (fun q => absurd (by decide) q)
    refine j_iconst (v := 0) C d_X_init_72 (by decide) ?_
    refine j_istore_n C d_X_init_73 rfl (by decide) ?_
    exact lp_X2 C hK hret hlk hnm hAz hd 16 0 0 rfl rfl
  | succ n ih =>
    intro a i ha hi
    subst hi
    have hd1 := hd.2.1 a (by omega)
    have hin : vp_in (nI a) 8 := vp_in_nI (by omega) (by decide)
    refine j_iload_n C d_X_init_44 rfl rfl ?_
    refine j_bipush (v := 8) C d_X_init_45 (by decide) ?_
    refine j_icmp_ge C 72 d_X_init_47 rfl (fun q => absurd q (nI_ge (a := a) (b := 8) (by omega) (by decide))) (fun _ => ?_)
    refine j_aload_n C d_X_init_50 rfl rfl ?_
    refine j_get C hK 0 0 1 d_X_init_51 in_X rfl rfl (by decide) t_107 rfl (Or.inl ⟨by decide, rfl⟩) ?_
    refine j_iload_n C d_X_init_54 rfl rfl ?_
    refine j_new C hK hAz 6 a ty_R tk_R d_X_init_55 in_R t_48 t_72 t_33 rfl rfl (by rintro (h | h | h) <;> omega) (by omega) (by show 5 + a + 1 ≤ 45; omega) (by show 124 + 3 * a + 3 ≤ 244; omega) ?_
    refine j_dup C d_X_init_58 rfl ?_
    refine j_iload_n C d_X_init_59 rfl rfl ?_
    refine j_iconst (v := 1) C d_X_init_60 (by decide) ?_
    refine j_iadd C d_X_init_61 ?_
    refine j_callI C hK hAz (i_Row (r := a) (a := nI a + 1) (Or.inr ⟨rfl, rfl⟩) _) ⟨jcB C mi_R_init t_73 rfl rfl ⟨by decide, by decide⟩, rfl, C.2.2.2.2 _ t_74⟩ rfl rfl (Nat.le_of_ble_eq_true rfl) d_X_init_62 ⟨by show 5 + a + 1 + 0 ≤ 45; omega, by show 124 + 3 * a + 3 + 0 ≤ 244; omega⟩ ?_
    refine j_aast C hK 2 0 6 a d_X_init_65 rfl rfl rfl hin (Or.inl (Or.inl ⟨by decide, rfl⟩)) (Or.inr ⟨rfl, rfl⟩) ?_
    refine j_iinc C d_X_init_66 rfl (by decide) ?_
    refine j_goto C 44 d_X_init_69 rfl ?_
    refine j_lv (lv' := lvB (a + 1) 0) (fun k i => ?_) ?_
    · unfold jlv lvB; omega
    refine j_Vc (V' := vB ad V (a + 1) 0) (vB_s1 (by omega)) ?_
    exact ih (a + 1) _ (by omega) (i32_p1 a)
set_option maxRecDepth 100000 in
set_option maxHeartbeats 4000000 in
theorem i_X {l : Launch} {D : va_G} {E : Nat → ClassId} {ad : Nat → Nat → Nat} {V : jVT} (hV0 : ∀ j, V 0 0 j = defaultValue (ty_X j)) (sz : Nat) (hd : adX ad sz) : Met l y_X_init (Cond.code y_X_init c_X_init 2 none :: jT) RMX (va_Pc [.ref (ad 0 0)] (fun U => (U.heap.size = sz ∧ jW D jcl jY E ad lvX V (fun _ => True) U.heap ∧ jK D jcl jY E U) ∧ EXX U)) (jQ D jcl jY E ad lvX sz none (lvB 8 16) (vB ad V 8 16) (sz + 45)) 45 244 (jA ad lvX sz) := by
  refine jC.ofX "InputRoom" (by decide +kernel) rfl rfl (Nat.le_of_ble_eq_true rfl) (by intro v hv; simp only [List.mem_cons, List.not_mem_nil, or_false] at hv; rcases hv with rfl <;> rfl) ?_
  intro p e s m below meth c C hK hret hlk hnm hsz hAz hx
  refine j_aload_n C d_X_init_0 rfl rfl ?_
  refine j_objInit C d_X_init_1 t_43 t_44 t_45 (by decide) (Nat.le_of_ble_eq_true rfl) ?_
  refine j_aload_n C d_X_init_4 rfl rfl ?_
  refine j_bipush (v := 32) C d_X_init_5 (by decide) ?_
  refine j_newqA C hK hAz 1 0 d_X_init_7 t_46 hx.1 rfl (by decide) (by decide) (by decide) (by (try unfold jlv); unfold lvX; omega) (by have := hd.1 1 (by decide) (by decide); omega) (by decide) (by decide) ?_
  refine j_putF C hK 0 0 0 ty_X tk_X nm_X d_X_init_10 in_X rfl rfl (by decide) t_106 rfl rfl hnm rfl rfl rfl (by (try unfold jlv); unfold lvX; omega) ?_
  refine j_aload_n C d_X_init_13 rfl rfl ?_
  refine j_bipush (v := 8) C d_X_init_14 (by decide) ?_
  refine j_newqA C hK hAz 2 0 d_X_init_16 t_48 hx.2.1 rfl (by decide) (by decide) (by decide) (by (try unfold jlv); unfold lvX; omega) (by have := hd.1 2 (by decide) (by decide); omega) (by decide) (by decide) ?_
  refine j_putF C hK 0 0 1 ty_X tk_X nm_X d_X_init_19 in_X rfl rfl (by decide) t_107 rfl rfl hnm rfl rfl rfl (by (try unfold jlv); unfold lvX; omega) ?_
  refine j_aload_n C d_X_init_22 rfl rfl ?_
  refine j_bipush (v := 16) C d_X_init_23 (by decide) ?_
  refine j_newqA C hK hAz 3 0 d_X_init_25 t_50 hx.2.2.1 rfl (by decide) (by decide) (by decide) (by (try unfold jlv); unfold lvX; omega) (by have := hd.1 3 (by decide) (by decide); omega) (by decide) (by decide) ?_
  refine j_putF C hK 0 0 2 ty_X tk_X nm_X d_X_init_28 in_X rfl rfl (by decide) t_108 rfl rfl hnm rfl rfl rfl (by (try unfold jlv); unfold lvX; omega) ?_
  refine j_aload_n C d_X_init_31 rfl rfl ?_
  refine j_new C hK hAz 4 0 ty_W tk_W d_X_init_32 in_W t_52 t_53 t_32 rfl rfl (by (try unfold jlv); unfold lvX; omega) (by have := hd.1 4 (by decide) (by decide); omega) (by decide) (by decide) ?_
  refine j_dup C d_X_init_35 rfl ?_
  refine j_callIN C hK hAz (i_Words (Or.inr ⟨rfl, rfl⟩) (by (try unfold jlv); unfold lvX; omega) _ (by have := hd.1 5 (by decide) (by decide); omega)) ⟨va_cnB 0 C.2.2.2.2 (jgood mi_W_init.1) rfl rfl rfl hx.2.2.2 (C.2.2.2.2 _ mi_W_init.2.1) mi_W_init.2.2 ⟨by decide, by decide⟩, rfl, C.2.2.2.2 _ t_55⟩ rfl rfl (Nat.le_of_ble_eq_true rfl) d_X_init_36 ⟨by decide, by decide⟩ ?_
  refine j_putF C hK 0 0 3 ty_X tk_X nm_X d_X_init_39 in_X rfl rfl (by decide) t_109 rfl rfl hnm rfl rfl rfl (by (try unfold jlv); unfold lvX; omega) ?_
  refine j_iconst (v := 0) C d_X_init_42 (by decide) ?_
  refine j_istore_n C d_X_init_43 rfl (by decide) ?_
  refine j_lv (lv' := lvB 0 0) (fun k i => ?_) ?_
  · unfold jlv lvX lvB; omega
  refine j_Vc (V' := vB ad V 0 0) (vB_s0 hV0) ?_
  exact lp_X1 C hK hret hlk hnm hAz hd 8 0 0 rfl rfl
