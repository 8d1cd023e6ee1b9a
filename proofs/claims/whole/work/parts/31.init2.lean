/-- how many fields or elements a kind has -/
def jN (k : Nat) : Nat := match jY k with
  | .inl ci => match jcl[ci]? with
    | some r => r.2.2
    | none => 0
  | .inr q => q.2
theorem arrV_congr {cI : ClassId} {N : Nat} {f g : Nat → Value} (h : ∀ j, j < N → f j = g j) : arrV cI N f = arrV cI N g := by
  unfold arrV
  have e : (fun j : Fin N => f j.val) = fun j : Fin N => g j.val := by funext j; exact h j.val j.isLt
  rw [e]
theorem jat.congr {D : va_G} {E : Nat → ClassId} {a k : Nat} {f g : Nat → Value} {H : Heap} (h : jat D jcl jY E a k f H) (hfg : ∀ j, j < jN k → f j = g j) : jat D jcl jY E a k g H := by
  unfold jat at h ⊢
  unfold jN at hfg
  cases hy : jY k with
  | inl ci =>
    rw [hy] at h
    dsimp only at h ⊢
    obtain ⟨r, h1, h2⟩ := h
    rw [hy] at hfg
    dsimp only at hfg
    rw [h1] at hfg
    exact ⟨r, h1, h2.to hfg⟩
  | inr q =>
    rw [hy] at h
    rw [hy] at hfg
    dsimp only at h hfg ⊢
    rw [← arrV_congr hfg]
    exact h
theorem jW.congr {D : va_G} {E : Nat → ClassId} {ad : Nat → Nat → Nat} {lv : Nat → Nat → Prop} {V V' : jVT} {A : Nat → Prop} {H : Heap} (h : jW D jcl jY E ad lv V A H) (hv : ∀ k i, lv k i → ∀ j, j < jN k → V k i j = V' k i j) : jW D jcl jY E ad lv V' A H := ⟨fun k i hl => ⟨(h.1 k i hl).1.congr (hv k i hl), (h.1 k i hl).2⟩, h.2⟩
/-- the addresses may change where nothing lives -/
theorem jW.readr {D : va_G} {E : Nat → ClassId} {ad ad' : Nat → Nat → Nat} {lv : Nat → Nat → Prop} {V : jVT} {A : Nat → Prop} {H : Heap} (h : jW D jcl jY E ad lv V A H) (hv : ∀ k i, lv k i → ad' k i = ad k i) : jW D jcl jY E ad' lv V A H := ⟨fun k i hl => by rw [hv k i hl]; exact h.1 k i hl, fun k i k' i' hl hl' he => h.2 k i k' i' hl hl' (by rw [← hv k i hl, ← hv k' i' hl']; exact he)⟩
section JCONV
variable {p : Program} {l : Launch} {e : Env} {R : Room} {s : State} {m : MethodId} {args : Array Value} {below : List Frame} {meth : Method} {c : Code} {cells slots z : Nat} {Q : State → Prop} {D : va_G} {E : Nat → ClassId} {ad : Nat → Nat → Nat} {lv : Nat → Nat → Prop} {A : Nat → Prop} {H0 : Heap} {cc : ByteArray} {nL : Nat} {own : String}
variable {V V1 : jVT} {pc z1 mc ms : Nat} {lv1 lv' : Nat → Nat → Prop} {lsv : List (Option Value)} {rest : List Value} {r : Option Value} {y : MethodName} {bytes : ByteArray} {maxL n index : Nat} {ret : Option FieldType} {ws : List Cond} {rm : Room} {As : List Value} {stk : List Value}
theorem j_lv (h : ∀ k i, lv k i ↔ lv' k i) (kk : J p l e R s m args below meth c Q D jcl jY E ad A H0 nL cells slots z lv' V pc lsv stk) : J p l e R s m args below meth c Q D jcl jY E ad A H0 nL cells slots z lv V pc lsv stk := by
  have e : lv = lv' := by funext k i; exact propext (h k i)
  rw [e]; exact kk
theorem j_Vc {V' : jVT} (hv : ∀ k i, lv k i → ∀ j, j < jN k → V k i j = V' k i j) (kk : J p l e R s m args below meth c Q D jcl jY E ad A H0 nL cells slots z lv V' pc lsv stk) : J p l e R s m args below meth c Q D jcl jY E ad A H0 nL cells slots z lv V pc lsv stk := fun H locs ls hz hW hS hl => kk H locs ls hz (hW.congr hv) hS hl
theorem j_z {z' : Nat} (h : z = z') (kk : J p l e R s m args below meth c Q D jcl jY E ad A H0 nL cells slots z' lv V pc lsv stk) : J p l e R s m args below meth c Q D jcl jY E ad A H0 nL cells slots z lv V pc lsv stk := by subst h; exact kk
theorem j_newqA (C : CallFix p m c cc nL s args jT own) (hK : jK D jcl jY E s) (hAz : ∀ q, H0.size ≤ q → A q) {n index : Nat} {x : Int32} {Cn : String} (k i : Nat) (d : decode cc pc = .ok (.anewarray index, 3)) (hcl : Cond.classLink own index Cn ∈ jT) (harr : va_AO Cn s) (hY : jY k = .inr (.object Cn, n)) (hx : ¬ x < 0) (hN : x.toNatClampNeg = n) (hbytes : n * 4 ≤ 536870912) (hf : ¬ lv k i) (had : ad k i = z) (hcells : cells + 1 ≤ R.cells) (hslots : slots + n ≤ R.slots)
    (kk : J p l e R s m args below meth c Q D jcl jY E ad A H0 nL (cells + 1) (slots + n) (z + 1) (jlv lv k i) (jnw V k i (fun _ => .null)) (pc + 3) lsv (.ref (ad k i) :: rest)) : J p l e R s m args below meth c Q D jcl jY E ad A H0 nL cells slots z lv V pc lsv (.int x :: rest) := by
  intro H locs ls hz hW hS hl
  subst hN
  refine W.anew C.1 C.2.1 C.2.2.2.1 (C.2.2.2.2 _ hcl) (va_AO.use harr) rfl d rfl hx hbytes hcells hslots fun cA kA comp f1 f2 f3 f4 => ?_
  have hH : ad k i = H.size := had.trans hz.symm
  obtain ⟨kA', comp', g1, g2, g3, g4⟩ := (hK.2 k _ hY).2
  have hcA : cA = E k := Option.some.inj (f1.symm.trans g4)
  generalize hH1 : H.push ({ cls := cA, slots := Array.replicate x.toNatClampNeg .null, vm := .none } : Cell) = H1
  have z1 : H1.size = H.size + 1 := by rw [← hH1, Array.size_push]
  have e1 : H1[H.size]? = some (arrV cA x.toNatClampNeg (fun _ => .null)) := by rw [← hH1, Array.getElem?_push_size, ← arrV_new]
  have o1 : ∀ q : Nat, q < H.size → H1[q]? = H[q]? := fun q hq => by rw [← hH1, Array.getElem?_push, if_neg (Nat.ne_of_lt hq)]
  rw [← hH]
  refine kk H1 locs ls (by rw [z1, hz]) (hW.new hf hH ?_ (hAz _ (by rw [hH]; exact hS.1)) o1) ⟨Nat.le_trans hS.1 (by omega), fun x h1 h2 => (o1 x (Nat.lt_of_lt_of_le h1 hS.1)).trans (hS.2.1 x h1 h2), hS.2.2⟩ hl
  unfold jat
  rw [hY]
  rw [← hcA, hH]
  exact e1
/-- a constructor that is private to its nest -/
theorem j_callIN (C : CallFix p m c cc nL s args jT own) (hK : jK D jcl jY E s) (hAz : ∀ q, H0.size ≤ q → A q) {b : Nat} {host : String} (hM : jC l y ws rm D jcl jY E ad lv z V (.ref b :: As) r lv1 V1 z1 mc ms) (cw : va_CN R s args own index y host bytes maxL none ws rm mc ms n ∧ y.name = "<init>" ∧ (Cond.instanceMethod y).before args s = true) (hn : As.length = n) (hstk : stk = As.reverse ++ .ref b :: rest) (hroom : (rest.map fun v => v.category).sum ≤ 8) (d : decode cc pc = .ok (.invokespecial index, 3)) (hf : cells + mc ≤ R.cells ∧ slots + ms ≤ R.slots)
    (kk : J p l e R s m args below meth c Q D jcl jY E ad A H0 nL (cells + mc) (slots + ms) z1 lv1 V1 (pc + 3) lsv (jpush r rest)) : J p l e R s m args below meth c Q D jcl jY E ad A H0 nL cells slots z lv V pc lsv stk := by
  refine j_back hAz (fun H locs ls hz hW hls => ?_) kk
  exact va_runIN C hM cw ⟨jblind, fun U hU hWm => ⟨rfl, by rw [hU]; exact hz, by rw [hU]; exact hW.wide (fun _ _ _ => trivial), hK.moved hWm.alike⟩⟩ rfl hn hls.1 hstk (lv_room hroom) d hf
end JCONV
/-- a contract whose start says more of the tables -/
theorem jC.ofX {l : Launch} {y : MethodName} {ws ws' : List Cond} {rm : Room} {D : va_G} {E : Nat → ClassId} {ad : Nat → Nat → Nat} {lv lv' : Nat → Nat → Prop} {sz sz' mc ms : Nat} {V V' : jVT} {vs : List Value} {r : Option Value} {cc : ByteArray} {maxL : Nat} {ret : Option FieldType} {EX : State → Prop} (own : String)
    (hy : plainName y.cls = true) (hw : ws = Cond.code y cc maxL ret :: ws') (hown : y.cls = own) (hlen : vs.length ≤ maxL) (hcat : ∀ v ∈ vs, v.category = 1)
    (body : ∀ (p : Program) (e : Env) (s : State) (m : MethodId) (below : List Frame) (meth : Method) (c : Code), CallFix p m c cc maxL s vs.toArray ws' own → jK D jcl jY E s → meth.sig.returnType = ret → meth.locks = false → meth.name = y.name → s.heap.size = sz → (∀ q, s.heap.size ≤ q → jA ad lv sz q) → EX s → J p l e (headSpec ws rm).room s m vs.toArray below meth c (MQ below (jQ D jcl jY E ad lv sz r lv' V' sz') vs.toArray s mc ms (jA ad lv sz)) D jcl jY E ad (jA ad lv sz) s.heap maxL 0 0 sz lv V 0 (jargs vs maxL) []) : Met l y ws rm (va_Pc vs (fun U => (U.heap.size = sz ∧ jW D jcl jY E ad lv V (fun _ => True) U.heap ∧ jK D jcl jY E U) ∧ EX U)) (jQ D jcl jY E ad lv sz r lv' V' sz') mc ms (jA ad lv sz) := by
  refine Met.ofW (cc := cc) (maxL := maxL) (ret := ret) hy hw ?_
  intro p e s m args below meth c s₁ B hml hv
  obtain ⟨rfl, ⟨hsz, hW, hK⟩, hex⟩ := hv
  have hts : ∀ w ∈ ws', w.before vs.toArray s = true := fun w h => atoms_spec (ws := ws) B.pre w (by rw [hw]; exact List.mem_cons_of_mem _ h)
  have hown' : s.vm.findClass own = some m.cls := by rw [← hown]; exact findClass_of_methodNamed B.named
  rw [lg_entry_eq]
  exact body p e s m below meth c ⟨B.exec, B.bytes, hml, hown', hts⟩ hK B.returns B.notSynchronized (name_of_methodNamed B.named B.method).1 hsz (fun q hq => Or.inr (by rw [← hsz]; exact hq)) hex s.heap [] _ hsz (hW.wide (fun k i hl => Or.inl ⟨k, i, hl, rfl⟩)) va_S.rf (jh_entry vs hlen hcat)
/-- what the room's own constructor needs of the tables beside jT -/
def EXX (U : State) : Prop := va_AO "InputRoom$Proc" U ∧ va_AO "InputRoom$Row" U ∧ va_AO "InputRoom$Semaphore" U ∧ va_Nw (.methodLinkNest "InputRoom" 29 y_W_init "InputRoom") U
def lvM (lv : Nat → Nat → Prop) (n : Nat) : Nat → Nat → Prop := match n with
  | 0 => lv
  | n + 1 => jlv (lvM lv n) (11 + n) 0
theorem lvM_iff {lv : Nat → Nat → Prop} : ∀ (n k i : Nat), lvM lv n k i ↔ (lv k i ∨ (11 ≤ k ∧ k < 11 + n ∧ i = 0))
  | 0, k, i => by constructor
                  · exact Or.inl
                  · rintro (h | h)
                    · exact h
                    · omega
  | n + 1, k, i => by
    unfold lvM jlv
    rw [lvM_iff n]
    constructor
    · rintro ((h | h) | h)
      · exact Or.inl h
      · exact Or.inr (by omega)
      · exact Or.inr (by omega)
    · rintro (h | h)
      · exact Or.inl (Or.inl h)
      · by_cases q : k = 11 + n
        · exact Or.inr ⟨q, h.2.2⟩
        · exact Or.inl (Or.inr (by omega))
theorem lvM_fresh {lv : Nat → Nat → Prop} (hf : ∀ k, 11 ≤ k → k < 20 → ¬ lv k 0) (k n : Nat) (h1 : 11 ≤ k) (h2 : k < 20) (h3 : k = 11 + n) : ¬ lvM lv n k 0 := by
  rw [lvM_iff]
  rintro (h | h)
  · exact hf k h1 h2 h
  · omega
theorem lvM_10 {lv : Nat → Nat → Prop} (h : lv 10 0) (n : Nat) : lvM lv n 10 0 := (lvM_iff n 10 0).mpr (Or.inl h)
def vM0 (ad : Nat → Nat → Nat) (V : jVT) : jVT := (jup (jnw (jup (jup (jup (jnw (jup (jup (jup (jnw (jup (jnw (jup (jnw (jup (jnw (jup (jnw (jup (jnw (jup (jnw V 11 0 (fun _ => .int 0)) 10 0 0 (.ref (ad 11 0))) 12 0 (fun _ => .int 0)) 10 0 1 (.ref (ad 12 0))) 13 0 (fun _ => .int 0)) 10 0 2 (.ref (ad 13 0))) 14 0 (fun _ => .int 0)) 10 0 3 (.ref (ad 14 0))) 15 0 (fun _ => .int 0)) 10 0 4 (.ref (ad 15 0))) 16 0 (fun _ => .long 0)) 10 0 5 (.ref (ad 16 0))) 17 0 (fun _ => .int 0)) 10 0 7 (.ref (ad 17 0))) 10 0 8 (.int (-1))) 10 0 10 (.int (-1))) 18 0 (fun _ => .int 0)) 10 0 11 (.ref (ad 18 0))) 10 0 14 (.int (-1))) 10 0 15 (.int (-1))) 19 0 (fun _ => .int 0)) 10 0 19 (.ref (ad 19 0)))
set_option maxRecDepth 100000 in
set_option maxHeartbeats 4000000 in
theorem i_Model {l : Launch} {D : va_G} {E : Nat → ClassId} {ad : Nat → Nat → Nat} {lv : Nat → Nat → Prop} {V : jVT} (hl : lv 10 0) (hf : ∀ k, 11 ≤ k → k < 20 → ¬ lv k 0) (sz : Nat) (had : ∀ k, 11 ≤ k → k < 20 → ad k 0 = sz + (k - 11)) : jC l y_M_init (Cond.code y_M_init c_M_init 1 (none) :: jT) { frames := 1, cells := 9, slots := 561, locals := 30 } D jcl jY E ad lv sz V [.ref (ad 10 0)] none (lvM lv 9) (vM0 ad V) (sz + 9) 9 561 := by
  refine jC.of "InputRoomModel" (by decide +kernel) rfl rfl (Nat.le_of_ble_eq_true rfl) (by intro v hv; simp only [List.mem_cons, List.not_mem_nil, or_false] at hv; rcases hv with rfl <;> rfl) ?_
  intro p e s m below meth c C hK hret hlk hnm hsz hAz
  refine j_aload_n C d_M_init_0 rfl rfl ?_
  refine j_objInit C d_M_init_1 t_375 t_44 t_45 (by decide) (Nat.le_of_ble_eq_true rfl) ?_
  refine j_aload_n C d_M_init_4 rfl rfl ?_
  refine j_bipush (v := 32) C d_M_init_5 (by decide) ?_
  refine j_newz C hK hAz 11 0 d_M_init_7 t_440 rfl (by decide) (by decide) (by decide) (lvM_fresh hf 11 0 (by decide) (by decide) rfl) (had 11 (by decide) (by decide)) (by decide) (by decide) ?_
  refine j_putF C hK 10 0 0 ty_M tk_M nm_M d_M_init_9 in_M rfl rfl (by decide) t_376 rfl rfl hnm rfl rfl rfl (lvM_10 hl 1) ?_
  refine j_aload_n C d_M_init_12 rfl rfl ?_
  refine j_bipush (v := 32) C d_M_init_13 (by decide) ?_
  refine j_newa C hK hAz 12 0 d_M_init_15 t_71 rfl (by decide) (by decide) (by decide) (lvM_fresh hf 12 1 (by decide) (by decide) rfl) (had 12 (by decide) (by decide)) (by decide) (by decide) ?_
  refine j_putF C hK 10 0 1 ty_M tk_M nm_M d_M_init_17 in_M rfl rfl (by decide) t_377 rfl rfl hnm rfl rfl rfl (lvM_10 hl 2) ?_
  refine j_aload_n C d_M_init_20 rfl rfl ?_
  refine j_sipush (v := 256) C d_M_init_21 (by decide) ?_
  refine j_newa C hK hAz 13 0 d_M_init_24 t_71 rfl (by decide) (by decide) (by decide) (lvM_fresh hf 13 2 (by decide) (by decide) rfl) (had 13 (by decide) (by decide)) (by decide) (by decide) ?_
  refine j_putF C hK 10 0 2 ty_M tk_M nm_M d_M_init_26 in_M rfl rfl (by decide) t_378 rfl rfl hnm rfl rfl rfl (lvM_10 hl 3) ?_
  refine j_aload_n C d_M_init_29 rfl rfl ?_
  refine j_bipush (v := 32) C d_M_init_30 (by decide) ?_
  refine j_newa C hK hAz 14 0 d_M_init_32 t_71 rfl (by decide) (by decide) (by decide) (lvM_fresh hf 14 3 (by decide) (by decide) rfl) (had 14 (by decide) (by decide)) (by decide) (by decide) ?_
  refine j_putF C hK 10 0 3 ty_M tk_M nm_M d_M_init_34 in_M rfl rfl (by decide) t_379 rfl rfl hnm rfl rfl rfl (lvM_10 hl 4) ?_
  refine j_aload_n C d_M_init_37 rfl rfl ?_
  refine j_bipush (v := 32) C d_M_init_38 (by decide) ?_
  refine j_newa C hK hAz 15 0 d_M_init_40 t_71 rfl (by decide) (by decide) (by decide) (lvM_fresh hf 15 4 (by decide) (by decide) rfl) (had 15 (by decide) (by decide)) (by decide) (by decide) ?_
  refine j_putF C hK 10 0 4 ty_M tk_M nm_M d_M_init_42 in_M rfl rfl (by decide) t_380 rfl rfl hnm rfl rfl rfl (lvM_10 hl 5) ?_
  refine j_aload_n C d_M_init_45 rfl rfl ?_
  refine j_bipush (v := 32) C d_M_init_46 (by decide) ?_
  refine j_newl C hK hAz 16 0 d_M_init_48 t_441 rfl (by decide) (by decide) (by decide) (lvM_fresh hf 16 5 (by decide) (by decide) rfl) (had 16 (by decide) (by decide)) (by decide) (by decide) ?_
  refine j_putF C hK 10 0 5 ty_M tk_M nm_M d_M_init_50 in_M rfl rfl (by decide) t_381 rfl rfl hnm rfl rfl rfl (lvM_10 hl 6) ?_
  refine j_aload_n C d_M_init_53 rfl rfl ?_
  refine j_bipush (v := 16) C d_M_init_54 (by decide) ?_
  refine j_newa C hK hAz 17 0 d_M_init_56 t_71 rfl (by decide) (by decide) (by decide) (lvM_fresh hf 17 6 (by decide) (by decide) rfl) (had 17 (by decide) (by decide)) (by decide) (by decide) ?_
  refine j_putF C hK 10 0 7 ty_M tk_M nm_M d_M_init_58 in_M rfl rfl (by decide) t_383 rfl rfl hnm rfl rfl rfl (lvM_10 hl 7) ?_
  refine j_aload_n C d_M_init_61 rfl rfl ?_
  refine j_iconst (v := -1) C d_M_init_62 (by decide) ?_
  refine j_put C hK 10 0 8 ty_M tk_M nm_M d_M_init_63 in_M rfl rfl (by decide) t_384 rfl rfl rfl rfl (lvM_10 hl 7) ?_
  refine j_aload_n C d_M_init_66 rfl rfl ?_
  refine j_iconst (v := -1) C d_M_init_67 (by decide) ?_
  refine j_put C hK 10 0 10 ty_M tk_M nm_M d_M_init_68 in_M rfl rfl (by decide) t_386 rfl rfl rfl rfl (lvM_10 hl 7) ?_
  refine j_aload_n C d_M_init_71 rfl rfl ?_
  refine j_bipush (v := 64) C d_M_init_72 (by decide) ?_
  refine j_newa C hK hAz 18 0 d_M_init_74 t_71 rfl (by decide) (by decide) (by decide) (lvM_fresh hf 18 7 (by decide) (by decide) rfl) (had 18 (by decide) (by decide)) (by decide) (by decide) ?_
  refine j_putF C hK 10 0 11 ty_M tk_M nm_M d_M_init_76 in_M rfl rfl (by decide) t_387 rfl rfl hnm rfl rfl rfl (lvM_10 hl 8) ?_
  refine j_aload_n C d_M_init_79 rfl rfl ?_
  refine j_iconst (v := -1) C d_M_init_80 (by decide) ?_
  refine j_put C hK 10 0 14 ty_M tk_M nm_M d_M_init_81 in_M rfl rfl (by decide) t_390 rfl rfl rfl rfl (lvM_10 hl 8) ?_
  refine j_aload_n C d_M_init_84 rfl rfl ?_
  refine j_iconst (v := -1) C d_M_init_85 (by decide) ?_
  refine j_put C hK 10 0 15 ty_M tk_M nm_M d_M_init_86 in_M rfl rfl (by decide) t_391 rfl rfl rfl rfl (lvM_10 hl 8) ?_
  refine j_aload_n C d_M_init_89 rfl rfl ?_
  refine j_bipush (v := 65) C d_M_init_90 (by decide) ?_
  refine j_newa C hK hAz 19 0 d_M_init_92 t_71 rfl (by decide) (by decide) (by decide) (lvM_fresh hf 19 8 (by decide) (by decide) rfl) (had 19 (by decide) (by decide)) (by decide) (by decide) ?_
  refine j_putF C hK 10 0 19 ty_M tk_M nm_M d_M_init_94 in_M rfl rfl (by decide) t_395 rfl rfl hnm rfl rfl rfl (lvM_10 hl 9) ?_
  refine j_vret C hret hlk d_M_init_97 rfl rfl rfl rfl
