set_option maxRecDepth 100000 in
set_option maxHeartbeats 4000000 in
theorem i_Row {l : Launch} {D : va_G} {E : Nat → ClassId} {ad : Nat → Nat → Nat} {lv : Nat → Nat → Prop} {V : jVT} {r : Nat} {a : Int32} (hl : lv 6 r) (sz : Nat)  : jC l y_R_init (Cond.code y_R_init c_R_init 2 (none) :: jT) { frames := 1, cells := 0, slots := 0, locals := 30 } D jcl jY E ad lv sz V [.ref (ad 6 r), .int a] none (lv) (jup V 6 r 0 (.int a)) (sz) 0 0 := by
  refine jC.of "InputRoom$Row" (by decide +kernel) rfl rfl (Nat.le_of_ble_eq_true rfl) (by intro v hv; simp only [List.mem_cons, List.not_mem_nil, or_false] at hv; rcases hv with rfl | rfl <;> rfl) ?_
  intro p e s m below meth c C hK hret hlk hnm hsz hAz
  refine j_aload_n C d_R_init_0 rfl rfl ?_
  refine j_objInit C d_R_init_1 t_76 t_44 t_45 (by decide) (Nat.le_of_ble_eq_true rfl) ?_
  refine j_aload_n C d_R_init_4 rfl rfl ?_
  refine j_iload_n C d_R_init_5 rfl rfl ?_
  refine j_putF C hK 6 r 0 ty_R tk_R nm_R d_R_init_6 in_R rfl rfl (by decide) t_77 rfl rfl hnm rfl rfl rfl (by first | assumption | exact Or.inl (by assumption) | exact Or.inr ⟨rfl, rfl⟩ | exact Or.inl (Or.inl (by assumption)) | exact Or.inl (Or.inr ⟨rfl, rfl⟩)) ?_
  refine j_vret C hret hlk d_R_init_9 rfl rfl rfl rfl
set_option maxRecDepth 100000 in
set_option maxHeartbeats 4000000 in
theorem i_Sem {l : Launch} {D : va_G} {E : Nat → ClassId} {ad : Nat → Nat → Nat} {lv : Nat → Nat → Prop} {V : jVT} {n r : Nat} {a : Int32} (hl : lv 7 n) (hf : ¬ lv 6 r) (sz : Nat) (had : ad 6 r = sz) : jC l y_S_init (Cond.code y_S_init c_S_init 2 (none) :: jT) { frames := 2, cells := 1, slots := 3, locals := 60 } D jcl jY E ad lv sz V [.ref (ad 7 n), .int a] none (jlv lv 6 r) (jup (jup (jnw (jup V 7 n 0 (.int a)) 6 r (fun j => defaultValue (ty_R j))) 6 r 0 (.int (16 + a))) 7 n 1 (.ref (ad 6 r))) (sz + 1) 1 3 := by
  refine jC.of "InputRoom$Semaphore" (by decide +kernel) rfl rfl (Nat.le_of_ble_eq_true rfl) (by intro v hv; simp only [List.mem_cons, List.not_mem_nil, or_false] at hv; rcases hv with rfl | rfl <;> rfl) ?_
  intro p e s m below meth c C hK hret hlk hnm hsz hAz
  refine j_aload_n C d_S_init_0 rfl rfl ?_
  refine j_objInit C d_S_init_1 t_91 t_44 t_45 (by decide) (Nat.le_of_ble_eq_true rfl) ?_
  refine j_aload_n C d_S_init_4 rfl rfl ?_
  refine j_iload_n C d_S_init_5 rfl rfl ?_
  refine j_putF C hK 7 n 0 ty_S tk_S nm_S d_S_init_6 in_S rfl rfl (by decide) t_94 rfl rfl hnm rfl rfl rfl (by first | assumption | exact Or.inl (by assumption) | exact Or.inr ⟨rfl, rfl⟩ | exact Or.inl (Or.inl (by assumption)) | exact Or.inl (Or.inr ⟨rfl, rfl⟩)) ?_
  refine j_aload_n C d_S_init_9 rfl rfl ?_
  refine j_new C hK hAz 6 r ty_R tk_R d_S_init_10 in_R t_92 t_72 t_33 rfl rfl hf had (by decide) (by decide) ?_
  refine j_dup C d_S_init_13 rfl ?_
  refine j_bipush (v := 16) C d_S_init_14 (by decide) ?_
  refine j_iload_n C d_S_init_16 rfl rfl ?_
  refine j_iadd C d_S_init_17 ?_
  refine j_callI C hK hAz (i_Row (r := r) (a := 16 + a) (Or.inr ⟨rfl, rfl⟩) _) ⟨jcB C mi_R_init t_93 rfl rfl ⟨by decide, by decide⟩, rfl, C.2.2.2.2 _ t_74⟩ rfl rfl (Nat.le_of_ble_eq_true rfl) d_S_init_18 ⟨by decide, by decide⟩ ?_
  refine j_putF C hK 7 n 1 ty_S tk_S nm_S d_S_init_21 in_S rfl rfl (by decide) t_96 rfl rfl hnm rfl rfl rfl (Or.inl hl) ?_
  refine j_vret C hret hlk d_S_init_24 rfl rfl rfl rfl
set_option maxRecDepth 100000 in
set_option maxHeartbeats 4000000 in
theorem i_Words {l : Launch} {D : va_G} {E : Nat → ClassId} {ad : Nat → Nat → Nat} {lv : Nat → Nat → Prop} {V : jVT} (hl : lv 4 0) (hf : ¬ lv 5 0) (sz : Nat) (had : ad 5 0 = sz) : jC l y_W_init (Cond.code y_W_init c_W_init 1 (none) :: jT) { frames := 1, cells := 1, slots := 64, locals := 30 } D jcl jY E ad lv sz V [.ref (ad 4 0)] none (jlv lv 5 0) (jup (jnw V 5 0 (fun _ => .int 0)) 4 0 0 (.ref (ad 5 0))) (sz + 1) 1 64 := by
  refine jC.of "InputRoom$Words" (by decide +kernel) rfl rfl (Nat.le_of_ble_eq_true rfl) (by intro v hv; simp only [List.mem_cons, List.not_mem_nil, or_false] at hv; rcases hv with rfl <;> rfl) ?_
  intro p e s m below meth c C hK hret hlk hnm hsz hAz
  refine j_aload_n C d_W_init_0 rfl rfl ?_
  refine j_objInit C d_W_init_1 t_57 t_44 t_45 (by decide) (Nat.le_of_ble_eq_true rfl) ?_
  refine j_aload_n C d_W_init_4 rfl rfl ?_
  refine j_bipush (v := 64) C d_W_init_5 (by decide) ?_
  refine j_newa C hK hAz 5 0 d_W_init_7 t_71 rfl (by decide) (by decide) (by decide) hf had (by decide) (by decide) ?_
  refine j_putF C hK 4 0 0 ty_W tk_W nm_W d_W_init_9 in_W rfl rfl (by decide) t_58 rfl rfl hnm rfl rfl rfl (Or.inl hl) ?_
  refine j_vret C hret hlk d_W_init_12 rfl rfl rfl rfl
set_option maxRecDepth 100000 in
set_option maxHeartbeats 4000000 in
theorem i_Proc {l : Launch} {D : va_G} {E : Nat → ClassId} {ad : Nat → Nat → Nat} {lv : Nat → Nat → Prop} {V : jVT} {x r : Nat} {a b : Int32} (hl : lv 8 x) (hf : ¬ lv 9 x) (sz : Nat) (had : ad 9 x = sz) : jC l y_P_init (Cond.code y_P_init c_P_init 4 (none) :: jT) { frames := 1, cells := 1, slots := 8, locals := 30 } D jcl jY E ad lv sz V [.ref (ad 8 x), .int a, .int b, .ref (ad 6 r)] none (jlv lv 9 x) (jup (jup (jup (jup (jup (jnw V 9 x (fun _ => .int 0)) 8 x 3 (.ref (ad 9 x))) 8 x 5 (.int 0)) 8 x 0 (.int a)) 8 x 1 (.int b)) 8 x 2 (.ref (ad 6 r))) (sz + 1) 1 8 := by
  refine jC.of "InputRoom$Proc" (by decide +kernel) rfl rfl (Nat.le_of_ble_eq_true rfl) (by intro v hv; simp only [List.mem_cons, List.not_mem_nil, or_false] at hv; rcases hv with rfl | rfl | rfl | rfl <;> rfl) ?_
  intro p e s m below meth c C hK hret hlk hnm hsz hAz
  refine j_aload_n C d_P_init_0 rfl rfl ?_
  refine j_objInit C d_P_init_1 t_151 t_44 t_45 (by decide) (Nat.le_of_ble_eq_true rfl) ?_
  refine j_aload_n C d_P_init_4 rfl rfl ?_
  refine j_bipush (v := 8) C d_P_init_5 (by decide) ?_
  refine j_newa C hK hAz 9 x d_P_init_7 t_71 rfl (by decide) (by decide) (by decide) hf had (by decide) (by decide) ?_
  refine j_putF C hK 8 x 3 ty_P tk_P nm_P d_P_init_9 in_P rfl rfl (by decide) t_158 rfl rfl hnm rfl rfl rfl (Or.inl hl) ?_
  refine j_aload_n C d_P_init_12 rfl rfl ?_
  refine j_iconst (v := 0) C d_P_init_13 (by decide) ?_
  refine j_put C hK 8 x 5 ty_P tk_P nm_P d_P_init_14 in_P rfl rfl (by decide) t_162 rfl rfl rfl rfl (Or.inl hl) ?_
  refine j_aload_n C d_P_init_17 rfl rfl ?_
  refine j_iload_n C d_P_init_18 rfl rfl ?_
  refine j_putF C hK 8 x 0 ty_P tk_P nm_P d_P_init_19 in_P rfl rfl (by decide) t_152 rfl rfl hnm rfl rfl rfl (Or.inl hl) ?_
  refine j_aload_n C d_P_init_22 rfl rfl ?_
  refine j_iload_n C d_P_init_23 rfl rfl ?_
  refine j_putF C hK 8 x 1 ty_P tk_P nm_P d_P_init_24 in_P rfl rfl (by decide) t_154 rfl rfl hnm rfl rfl rfl (Or.inl hl) ?_
  refine j_aload_n C d_P_init_27 rfl rfl ?_
  refine j_aload_n C d_P_init_28 rfl rfl ?_
  refine j_putF C hK 8 x 2 ty_P tk_P nm_P d_P_init_29 in_P rfl rfl (by decide) t_156 rfl rfl hnm rfl rfl rfl (Or.inl hl) ?_
  refine j_vret C hret hlk d_P_init_32 rfl rfl rfl rfl
