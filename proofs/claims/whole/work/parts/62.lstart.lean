/-! the law's beginning: a new room, a new reference -/
def ad0 (z k i : Nat) : Nat := match k with
  | 6 => if i < 8 then z + 6 + i else z + 15 + 2 * (i - 8)
  | 7 => z + 14 + 2 * i
  | k => if k ≤ 5 then z + k else z + 36 + k
theorem ad0_X (z : Nat) : adX (ad0 z) (z + 1) := by
  refine ⟨fun k h1 h2 => ?_, fun r hr => ?_, fun n hn => ⟨?_, ?_⟩⟩
  · match k, h1, h2 with
    | 1, _, _ => rfl
    | 2, _, _ => rfl
    | 3, _, _ => rfl
    | 4, _, _ => rfl
    | 5, _, _ => rfl
    | k + 6, _, h => omega
    | 0, h, _ => omega
  · show (if r < 8 then z + 6 + r else z + 15 + 2 * (r - 8)) = _
    rw [if_pos hr]
  · show z + 14 + 2 * n = _
    omega
  · show (if 8 + n < 8 then z + 6 + (8 + n) else z + 15 + 2 * (8 + n - 8)) = _
    rw [if_neg (by omega)]; omega
theorem ad0_M (z : Nat) : ∀ k, 11 ≤ k → k < 20 → ad0 z k 0 = z + 47 + (k - 11) := by
  intro k h1 h2
  match k, h1, h2 with
  | 11, _, _ => show z + 36 + 11 = _; omega
  | 12, _, _ => show z + 36 + 12 = _; omega
  | 13, _, _ => show z + 36 + 13 = _; omega
  | 14, _, _ => show z + 36 + 14 = _; omega
  | 15, _, _ => show z + 36 + 15 = _; omega
  | 16, _, _ => show z + 36 + 16 = _; omega
  | 17, _, _ => show z + 36 + 17 = _; omega
  | 18, _, _ => show z + 36 + 18 = _; omega
  | 19, _, _ => show z + 36 + 19 = _; omega
  | k + 20, _, h => omega
def lv0 (k i : Nat) : Prop := (k ≤ 5 ∧ i = 0) ∨ (k = 6 ∧ i < 24) ∨ (k = 7 ∧ i < 16) ∨ (10 ≤ k ∧ k < 20 ∧ i = 0)
theorem v0_eq {ad : Nat → Nat → Nat} {V : jVT} : ∀ k i, lv0 k i → ∀ j, j < jN k → vM0 ad (jnw (vB ad (jnw V 0 0 (fun j => defaultValue (ty_X j))) 8 16) 10 0 (fun j => defaultValue (ty_M j))) k i j = jv ad σz τz k i j := by
  intro k i hl j hj
  rcases hl with ⟨hk, rfl⟩ | ⟨rfl, hi⟩ | ⟨rfl, hi⟩ | ⟨h1, h2, rfl⟩
  · match k, hk, hj with
    | 0, _, hj =>
      have hj : j < 12 := hj
      match j, hj with
      | 0, _ => rfl
      | 1, _ => rfl
      | 2, _ => rfl
      | 3, _ => rfl
      | 4, _ => rfl
      | 5, _ => rfl
      | 6, _ => rfl
      | 7, _ => rfl
      | 8, _ => rfl
      | 9, _ => rfl
      | 10, _ => rfl
      | 11, _ => rfl
      | j + 12, h => omega
    | 1, _, _ => rfl
    | 2, _, hj =>
      have hj : j < 8 := hj
      show (if j < 8 then Value.ref (ad 6 j) else .null) = Value.ref (ad 6 j)
      rw [if_pos hj]
    | 3, _, hj =>
      have hj : j < 16 := hj
      show (if j < 16 then Value.ref (ad 7 j) else .null) = Value.ref (ad 7 j)
      rw [if_pos hj]
    | 4, _, hj =>
      have hj : j < 4 := hj
      match j, hj with
      | 0, _ => rfl
      | 1, _ => rfl
      | 2, _ => rfl
      | 3, _ => rfl
      | j + 4, h => omega
    | 5, _, _ => rfl
    | k + 6, h, _ => omega
  · have hj : j < 3 := hj
    match j, hj with
    | 0, _ => rfl
    | 1, _ => rfl
    | 2, _ => rfl
    | j + 3, h => omega
  · have hj : j < 3 := hj
    match j, hj with
    | 0, _ => rfl
    | 1, _ => rfl
    | 2, _ => rfl
    | j + 3, h => omega
  · match k, h1, h2, hj with
    | 10, _, _, hj =>
      have hj : j < 21 := hj
      match j, hj with
      | 0, _ => rfl
      | 1, _ => rfl
      | 2, _ => rfl
      | 3, _ => rfl
      | 4, _ => rfl
      | 5, _ => rfl
      | 6, _ => rfl
      | 7, _ => rfl
      | 8, _ => rfl
      | 9, _ => rfl
      | 10, _ => rfl
      | 11, _ => rfl
      | 12, _ => rfl
      | 13, _ => rfl
      | 14, _ => rfl
      | 15, _ => rfl
      | 16, _ => rfl
      | 17, _ => rfl
      | 18, _ => rfl
      | 19, _ => rfl
      | 20, _ => rfl
      | j + 21, h => omega
    | 11, _, _, _ => rfl
    | 12, _, _, _ => rfl
    | 13, _, _, _ => rfl
    | 14, _, _, _ => rfl
    | 15, _, _, _ => rfl
    | 16, _, _, _ => rfl
    | 17, _, _, _ => rfl
    | 18, _, _, _ => rfl
    | 19, _, _, _ => rfl
    | k + 20, _, h, _ => omega
theorem exx_blind {z : Nat} {D : va_G} {E : Nat → ClassId} {ad : Nat → Nat → Nat} {lv : Nat → Nat → Prop} {V : jVT} {vs : List Value} : FrameBlind (va_Pc vs (fun U => (U.heap.size = z ∧ jW D jcl jY E ad lv V (fun _ => True) U.heap ∧ jK D jcl jY E U) ∧ EXX U)) := fun a U g mk q => ⟨q.1, ⟨q.2.1.1, q.2.1.2.1, q.2.1.2.2.moved (u := U) (U := U.calling g mk a) (Vm.Alike.refl U.vm)⟩, va_AO.moved (u := U) (U := U.calling g mk a) (Vm.Alike.refl U.vm) q.2.2.1, va_AO.moved (u := U) (U := U.calling g mk a) (Vm.Alike.refl U.vm) q.2.2.2.1, va_AO.moved (u := U) (U := U.calling g mk a) (Vm.Alike.refl U.vm) q.2.2.2.2.1, va_Nw.same (u := U) (U := U.calling g mk a) rfl rfl q.2.2.2.2.2⟩
set_option maxRecDepth 100000 in
set_option maxHeartbeats 4000000 in
theorem l_start {p : Program} {l : Launch} {e : Env} {s : State} {m : MethodId} {below : List Frame} {meth : Method} {c : Code} {D : va_G} {E : Nat → ClassId} {b : Nat} (C : CallFix p m c c_L_law 4 s #[Value.ref b] jT R_law) (hK : jK D jcl jY E s) (hex : EXX s)
    (kk : JL p l e s m below meth c D E b (ad0 s.heap.size) 56 838 (s.heap.size + 56) lv0 (jv (ad0 s.heap.size) σz τz) 18 [some (.ref b), some (.ref (ad0 s.heap.size 0 0)), some (.ref (ad0 s.heap.size 10 0)), some (.int 0)] []) : JL p l e s m below meth c D E b (ad0 s.heap.size) 0 0 s.heap.size (fun _ _ => False) (fun _ _ _ => .null) 0 [some (.ref b), none, none, none] [] := by
  have hAz : ∀ q, s.heap.size ≤ q → (fun q => s.heap.size ≤ q) q := fun q h => h
  generalize had : ad0 s.heap.size = ad at kk ⊢
  have hX : adX ad (s.heap.size + 1) := by rw [← had]; exact ad0_X _
  have hM : ∀ k, 11 ≤ k → k < 20 → ad k 0 = s.heap.size + 47 + (k - 11) := by rw [← had]; exact ad0_M _
  have h00 : ad 0 0 = s.heap.size := by rw [← had]; rfl
  have h10 : ad 10 0 = s.heap.size + 46 := by rw [← had]; rfl
  refine j_new C hK hAz 0 0 ty_X tk_X d_L_law_0 in_X t_38 t_39 t_31 rfl rfl (fun q => q) h00 (by decide) (by decide) ?_
  refine j_dup C d_L_law_3 rfl ?_
  refine j_lv (lv' := lvX) (fun k i => ?_) ?_
  · unfold jlv lvX; exact ⟨fun q => q.resolve_left (fun z => z), fun q => Or.inr q⟩
  refine j_back (r := none) (lv1 := lvB 8 16) (mc := 45) (ms := 244) (rest := [.ref (ad 0 0)]) (V1 := vB ad (jnw (fun _ _ _ => .null) 0 0 (fun j => defaultValue (ty_X j))) 8 16) (z1 := s.heap.size + 1 + 45) hAz (fun H locs ls hz hW hls => ?_) ?_
  · exact va_runI C (i_X (fun j => rfl) (s.heap.size + 1) hX) ⟨jcB C mi_X_init t_40 rfl rfl ⟨by decide, by decide⟩, rfl, C.2.2.2.2 _ t_41⟩ ⟨exx_blind, fun U hU hWm => ⟨rfl, ⟨by rw [hU]; exact hz, by rw [hU]; exact hW.wide (fun _ _ _ => trivial), hK.moved hWm.alike⟩, va_AO.moved hWm.alike hex.1, va_AO.moved hWm.alike hex.2.1, va_AO.moved hWm.alike hex.2.2.1, va_Nw.warmM hWm hex.2.2.2⟩⟩ rfl rfl hls.1 rfl (lv_room (Nat.le_of_ble_eq_true rfl)) d_L_law_4 ⟨by decide, by decide⟩
  refine j_astore_n C d_L_law_7 rfl (by decide) ?_
  refine j_new C hK hAz 10 0 ty_M tk_M d_L_law_8 in_M t_370 t_371 t_35 rfl rfl (by unfold lvB; omega) h10 (by decide) (by decide) ?_
  refine j_dup C d_L_law_11 rfl ?_
  refine j_callI C hK hAz (i_Model (Or.inr ⟨rfl, rfl⟩) (fun k h1 h2 => by unfold jlv lvB; omega) _ (fun k h1 h2 => by rw [hM k h1 h2])) ⟨jcB C mi_M_init t_372 rfl rfl ⟨by decide, by decide⟩, rfl, C.2.2.2.2 _ t_373⟩ rfl rfl (Nat.le_of_ble_eq_true rfl) d_L_law_12 ⟨by decide, by decide⟩ ?_
  refine j_astore_n C d_L_law_15 rfl (by decide) ?_
  refine j_iconst (v := 0) C d_L_law_16 (by decide) ?_
  refine j_istore_n C d_L_law_17 rfl (by decide) ?_
  refine j_lv (lv' := lv0) (fun k i => ?_) ?_
  · rw [lvM_iff]; unfold jlv lvB lv0; omega
  refine j_Vc (V' := jv ad σz τz) v0_eq ?_
  exact kk
