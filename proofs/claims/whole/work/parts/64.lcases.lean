theorem lcmp_0 {x y : Int64} (h : x = y) : lg_cmp x y = 0 := by
  subst h
  unfold lg_cmp
  simp [Int64.lt_irrefl]
set_option maxRecDepth 100000 in
set_option maxHeartbeats 4000000 in
theorem lc_make {p : Program} {l : Launch} {e : Env} {s : State} {m : MethodId} {below : List Frame} {meth : Method} {c : Code} {D : va_G} {E : Nat → ClassId} {b L : Nat} {xs : Nat → Int32} (C : CallFix p m c c_L_law 4 s #[Value.ref b] jT R_law) (hK : jK D jcl jY E s) (hX : va_X b L xs s s.heap) (hbl : b < s.heap.size) {lv : Nat → Nat → Prop} {n : Nat} {σ τ : sT} (h : Inv lv n σ τ) (hl : LvB lv) (hn : n < 2000000) {i : Int32} (h1 : vp_in (i + 1) L) (h2 : vp_in (i + 2) L) (h3 : vp_in (i + 3) L) {cells slots z : Nat} (hcs : cells + 2 ≤ 612407 ∧ slots + 15 ≤ 7265026) {ad : Nat → Nat → Nat} (kk : KK p l e s m below meth c D E b cells slots (ad 0 0) (ad 10 0) n i) : JL p l e s m below meth c D E b ad cells slots z lv (jv ad σ τ) 128 [some (.ref b), some (.ref (ad 0 0)), some (.ref (ad 10 0)), some (.int i)] [] := by
  have hAz : ∀ q, s.heap.size ≤ q → (fun q => s.heap.size ≤ q) q := fun q h => h
  have hl0 : lv 0 0 := h.2.1.k (by decide)
  have hl10 : lv 10 0 := h.2.2.1.k (by decide) (by decide)
  by_cases hc : mkOK σ (xs (i + 1).toNatClampNeg) (xs (i + 2).toNatClampNeg)
  · obtain ⟨f1, f2, f3, f4, f5⟩ := f_make_yes h hc
    have hn2 : ¬ Mk σ (xs (i + 1).toNatClampNeg).toNatClampNeg := fun q => by have := hc.2.2.1; rw [q.2] at this; cases this
    obtain ⟨ad', r1, r2, r3, r4, e0, e10⟩ := ex_ad h hl ad hn2 f3 f4 z
    refine l_readr r1 (j_Vc r2 ?_)
    rw [← e0, ← e10]
    have okm : OKm τ (jlv (jlv lv 8 (xs (i + 1).toNatClampNeg).toNatClampNeg) 9 (xs (i + 1).toNatClampNeg).toNatClampNeg) (1000 * n : Nat) := ⟨fun k k1 k2 => Or.inl (Or.inl (h.2.2.1.1 k k1 k2)), h.2.2.1.2⟩
    refine j_aload_n C d_L_law_128 rfl rfl ?_
    refine j_aload_n C d_L_law_129 rfl rfl ?_
    refine j_iload_n C d_L_law_130 rfl rfl ?_
    refine j_iconst (v := 1) C d_L_law_131 (by decide) ?_
    refine j_iadd C d_L_law_132 ?_
    refine l_sld C hX hbl h1 d_L_law_133 ?_
    refine j_aload_n C d_L_law_134 rfl rfl ?_
    refine j_iload_n C d_L_law_135 rfl rfl ?_
    refine j_iconst (v := 2) C d_L_law_136 (by decide) ?_
    refine j_iadd C d_L_law_137 ?_
    refine l_sld C hX hbl h2 d_L_law_138 ?_
    refine j_callV C hK hAz 0 0 (k_make_yes h.2.1 hc f3 f4 z r3 r4) (jcV C mi_X_make t_143 t_144 t_145 rfl rfl ⟨by decide, by decide⟩) rfl rfl hl0 rfl rfl (Nat.le_of_ble_eq_true rfl) d_L_law_139 ⟨hcs.1, hcs.2⟩ ?_
    refine j_aload_n C d_L_law_142 rfl rfl ?_
    refine j_aload_n C d_L_law_143 rfl rfl ?_
    refine j_iload_n C d_L_law_144 rfl rfl ?_
    refine j_iconst (v := 1) C d_L_law_145 (by decide) ?_
    refine j_iadd C d_L_law_146 ?_
    refine l_sld C hX hbl h1 d_L_law_147 ?_
    refine j_aload_n C d_L_law_148 rfl rfl ?_
    refine j_iload_n C d_L_law_149 rfl rfl ?_
    refine j_iconst (v := 2) C d_L_law_150 (by decide) ?_
    refine j_iadd C d_L_law_151 ?_
    refine l_sld C hX hbl h2 d_L_law_152 ?_
    refine j_callV C hK hAz 10 0 (m_make okm _) (jcV C mi_M_make t_499 t_500 t_501 rfl rfl ⟨by decide, by decide⟩) rfl rfl (Or.inl (Or.inl hl10)) rfl rfl (Nat.le_of_ble_eq_true rfl) d_L_law_153 ⟨by show cells + 2 + 0 ≤ 612407; omega, by show slots + 15 + 0 ≤ 7265026; omega⟩ ?_
    refine j_icmp_eq C 569 d_L_law_156 rfl (fun _ => ?_) (fun q => absurd f1.symm q)
    rw [e0, e10]
    exact kk ad' _ _ _ _ f2 (hl.mk f5) e0 e10
  · have f1 := f_make_no h hc
    refine j_aload_n C d_L_law_128 rfl rfl ?_
    refine j_aload_n C d_L_law_129 rfl rfl ?_
    refine j_iload_n C d_L_law_130 rfl rfl ?_
    refine j_iconst (v := 1) C d_L_law_131 (by decide) ?_
    refine j_iadd C d_L_law_132 ?_
    refine l_sld C hX hbl h1 d_L_law_133 ?_
    refine j_aload_n C d_L_law_134 rfl rfl ?_
    refine j_iload_n C d_L_law_135 rfl rfl ?_
    refine j_iconst (v := 2) C d_L_law_136 (by decide) ?_
    refine j_iadd C d_L_law_137 ?_
    refine l_sld C hX hbl h2 d_L_law_138 ?_
    refine j_callV C hK hAz 0 0 (k_make_no h.2.1 hc _) (jcV C mi_X_make t_143 t_144 t_145 rfl rfl ⟨by decide, by decide⟩) rfl rfl hl0 rfl rfl (Nat.le_of_ble_eq_true rfl) d_L_law_139 ⟨by show cells + 0 ≤ 612407; omega, by show slots + 0 ≤ 7265026; omega⟩ ?_
    refine j_aload_n C d_L_law_142 rfl rfl ?_
    refine j_aload_n C d_L_law_143 rfl rfl ?_
    refine j_iload_n C d_L_law_144 rfl rfl ?_
    refine j_iconst (v := 1) C d_L_law_145 (by decide) ?_
    refine j_iadd C d_L_law_146 ?_
    refine l_sld C hX hbl h1 d_L_law_147 ?_
    refine j_aload_n C d_L_law_148 rfl rfl ?_
    refine j_iload_n C d_L_law_149 rfl rfl ?_
    refine j_iconst (v := 2) C d_L_law_150 (by decide) ?_
    refine j_iadd C d_L_law_151 ?_
    refine l_sld C hX hbl h2 d_L_law_152 ?_
    refine j_callV C hK hAz 10 0 (m_make h.2.2.1 _) (jcV C mi_M_make t_499 t_500 t_501 rfl rfl ⟨by decide, by decide⟩) rfl rfl hl10 rfl rfl (Nat.le_of_ble_eq_true rfl) d_L_law_153 ⟨by show cells + 0 ≤ 612407; omega, by show slots + 0 ≤ 7265026; omega⟩ ?_
    rw [f1]
    refine j_icmp_eq C 569 d_L_law_156 rfl (fun _ => ?_) (fun q => absurd rfl q)
    exact j_widen (by omega) (by omega) (kk ad _ _ _ _ h.same hl rfl rfl)
set_option maxRecDepth 100000 in
set_option maxHeartbeats 4000000 in
theorem lc_plan {p : Program} {l : Launch} {e : Env} {s : State} {m : MethodId} {below : List Frame} {meth : Method} {c : Code} {D : va_G} {E : Nat → ClassId} {b L : Nat} {xs : Nat → Int32} (C : CallFix p m c c_L_law 4 s #[Value.ref b] jT R_law) (hK : jK D jcl jY E s) (hX : va_X b L xs s s.heap) (hbl : b < s.heap.size) {lv : Nat → Nat → Prop} {n : Nat} {σ τ : sT} (h : Inv lv n σ τ) (hl : LvB lv) (hn : n < 2000000) {i : Int32} (h1 : vp_in (i + 1) L) (h2 : vp_in (i + 2) L) (h3 : vp_in (i + 3) L) {cells slots z : Nat} (hcs : cells + 2 ≤ 612407 ∧ slots + 15 ≤ 7265026) {ad : Nat → Nat → Nat} (kk : KK p l e s m below meth c D E b cells slots (ad 0 0) (ad 10 0) n i) : JL p l e s m below meth c D E b ad cells slots z lv (jv ad σ τ) 161 [some (.ref b), some (.ref (ad 0 0)), some (.ref (ad 10 0)), some (.int i)] [] := by
  have hAz : ∀ q, s.heap.size ≤ q → (fun q => s.heap.size ≤ q) q := fun q h => h
  have hl0 : lv 0 0 := h.2.1.k (by decide)
  have hl10 : lv 10 0 := h.2.2.1.k (by decide) (by decide)
  refine j_aload_n C d_L_law_161 rfl rfl ?_
  refine j_aload_n C d_L_law_162 rfl rfl ?_
  refine j_iload_n C d_L_law_163 rfl rfl ?_
  refine j_iconst (v := 1) C d_L_law_164 (by decide) ?_
  refine j_iadd C d_L_law_165 ?_
  refine l_sld C hX hbl h1 d_L_law_166 ?_
  refine j_aload_n C d_L_law_167 rfl rfl ?_
  refine j_iload_n C d_L_law_168 rfl rfl ?_
  refine j_iconst (v := 2) C d_L_law_169 (by decide) ?_
  refine j_iadd C d_L_law_170 ?_
  refine l_sld C hX hbl h2 d_L_law_171 ?_
  refine j_aload_n C d_L_law_172 rfl rfl ?_
  refine j_iload_n C d_L_law_173 rfl rfl ?_
  refine j_iconst (v := 3) C d_L_law_174 (by decide) ?_
  refine j_iadd C d_L_law_175 ?_
  refine l_sld C hX hbl h3 d_L_law_176 ?_
  refine j_callV C hK hAz 0 0 (k_plan h.2.1 _) (jcV C mi_X_plan t_181 t_182 t_183 rfl rfl ⟨by decide, by decide⟩) rfl rfl hl0 rfl rfl (Nat.le_of_ble_eq_true rfl) d_L_law_177 ⟨by show cells + 0 ≤ 612407; omega, by show slots + 0 ≤ 7265026; omega⟩ ?_
  refine j_aload_n C d_L_law_180 rfl rfl ?_
  refine j_aload_n C d_L_law_181 rfl rfl ?_
  refine j_iload_n C d_L_law_182 rfl rfl ?_
  refine j_iconst (v := 1) C d_L_law_183 (by decide) ?_
  refine j_iadd C d_L_law_184 ?_
  refine l_sld C hX hbl h1 d_L_law_185 ?_
  refine j_aload_n C d_L_law_186 rfl rfl ?_
  refine j_iload_n C d_L_law_187 rfl rfl ?_
  refine j_iconst (v := 2) C d_L_law_188 (by decide) ?_
  refine j_iadd C d_L_law_189 ?_
  refine l_sld C hX hbl h2 d_L_law_190 ?_
  refine j_aload_n C d_L_law_191 rfl rfl ?_
  refine j_iload_n C d_L_law_192 rfl rfl ?_
  refine j_iconst (v := 3) C d_L_law_193 (by decide) ?_
  refine j_iadd C d_L_law_194 ?_
  refine l_sld C hX hbl h3 d_L_law_195 ?_
  refine j_callV C hK hAz 10 0 (m_plan h.2.2.1 _) (jcV C mi_M_plan t_503 t_504 t_505 rfl rfl ⟨by decide, by decide⟩) rfl rfl hl10 rfl rfl (Nat.le_of_ble_eq_true rfl) d_L_law_196 ⟨by show cells + 0 ≤ 612407; omega, by show slots + 0 ≤ 7265026; omega⟩ ?_
  refine j_icmp_eq C 569 d_L_law_199 rfl (fun _ => ?_) (fun q => absurd (f_plan h (xs (i + 1).toNatClampNeg) (xs (i + 2).toNatClampNeg) (xs (i + 3).toNatClampNeg)).1 q)
  exact j_widen (by omega) (by omega) (kk ad _ _ _ _ (f_plan h (xs (i + 1).toNatClampNeg) (xs (i + 2).toNatClampNeg) (xs (i + 3).toNatClampNeg)).2 hl rfl rfl)
set_option maxRecDepth 100000 in
set_option maxHeartbeats 4000000 in
theorem lc_wake {p : Program} {l : Launch} {e : Env} {s : State} {m : MethodId} {below : List Frame} {meth : Method} {c : Code} {D : va_G} {E : Nat → ClassId} {b L : Nat} {xs : Nat → Int32} (C : CallFix p m c c_L_law 4 s #[Value.ref b] jT R_law) (hK : jK D jcl jY E s) (hX : va_X b L xs s s.heap) (hbl : b < s.heap.size) {lv : Nat → Nat → Prop} {n : Nat} {σ τ : sT} (h : Inv lv n σ τ) (hl : LvB lv) (hn : n < 2000000) {i : Int32} (h1 : vp_in (i + 1) L) (h2 : vp_in (i + 2) L) (h3 : vp_in (i + 3) L) {cells slots z : Nat} (hcs : cells + 2 ≤ 612407 ∧ slots + 15 ≤ 7265026) {ad : Nat → Nat → Nat} (kk : KK p l e s m below meth c D E b cells slots (ad 0 0) (ad 10 0) n i) : JL p l e s m below meth c D E b ad cells slots z lv (jv ad σ τ) 204 [some (.ref b), some (.ref (ad 0 0)), some (.ref (ad 10 0)), some (.int i)] [] := by
  have hAz : ∀ q, s.heap.size ≤ q → (fun q => s.heap.size ≤ q) q := fun q h => h
  have hl0 : lv 0 0 := h.2.1.k (by decide)
  have hl10 : lv 10 0 := h.2.2.1.k (by decide) (by decide)
  refine j_aload_n C d_L_law_204 rfl rfl ?_
  refine j_aload_n C d_L_law_205 rfl rfl ?_
  refine j_iload_n C d_L_law_206 rfl rfl ?_
  refine j_iconst (v := 1) C d_L_law_207 (by decide) ?_
  refine j_iadd C d_L_law_208 ?_
  refine l_sld C hX hbl h1 d_L_law_209 ?_
  refine j_callV C hK hAz 0 0 (k_wake h.2.1 _) (jcV C mi_X_wake t_189 t_190 t_191 rfl rfl ⟨by decide, by decide⟩) rfl rfl hl0 rfl rfl (Nat.le_of_ble_eq_true rfl) d_L_law_210 ⟨by show cells + 0 ≤ 612407; omega, by show slots + 0 ≤ 7265026; omega⟩ ?_
  refine j_aload_n C d_L_law_213 rfl rfl ?_
  refine j_aload_n C d_L_law_214 rfl rfl ?_
  refine j_iload_n C d_L_law_215 rfl rfl ?_
  refine j_iconst (v := 1) C d_L_law_216 (by decide) ?_
  refine j_iadd C d_L_law_217 ?_
  refine l_sld C hX hbl h1 d_L_law_218 ?_
  refine j_callV C hK hAz 10 0 (m_wake h.2.2.1 _) (jcV C mi_M_wake t_511 t_512 t_513 rfl rfl ⟨by decide, by decide⟩) rfl rfl hl10 rfl rfl (Nat.le_of_ble_eq_true rfl) d_L_law_219 ⟨by show cells + 0 ≤ 612407; omega, by show slots + 0 ≤ 7265026; omega⟩ ?_
  refine j_icmp_eq C 569 d_L_law_222 rfl (fun _ => ?_) (fun q => absurd (f_wake h hn (xs (i + 1).toNatClampNeg)).1 q)
  exact j_widen (by omega) (by omega) (kk ad _ _ _ _ (f_wake h hn (xs (i + 1).toNatClampNeg)).2 hl rfl rfl)
set_option maxRecDepth 100000 in
set_option maxHeartbeats 4000000 in
theorem lc_suspend {p : Program} {l : Launch} {e : Env} {s : State} {m : MethodId} {below : List Frame} {meth : Method} {c : Code} {D : va_G} {E : Nat → ClassId} {b L : Nat} {xs : Nat → Int32} (C : CallFix p m c c_L_law 4 s #[Value.ref b] jT R_law) (hK : jK D jcl jY E s) (hX : va_X b L xs s s.heap) (hbl : b < s.heap.size) {lv : Nat → Nat → Prop} {n : Nat} {σ τ : sT} (h : Inv lv n σ τ) (hl : LvB lv) (hn : n < 2000000) {i : Int32} (h1 : vp_in (i + 1) L) (h2 : vp_in (i + 2) L) (h3 : vp_in (i + 3) L) {cells slots z : Nat} (hcs : cells + 2 ≤ 612407 ∧ slots + 15 ≤ 7265026) {ad : Nat → Nat → Nat} (kk : KK p l e s m below meth c D E b cells slots (ad 0 0) (ad 10 0) n i) : JL p l e s m below meth c D E b ad cells slots z lv (jv ad σ τ) 227 [some (.ref b), some (.ref (ad 0 0)), some (.ref (ad 10 0)), some (.int i)] [] := by
  have hAz : ∀ q, s.heap.size ≤ q → (fun q => s.heap.size ≤ q) q := fun q h => h
  have hl0 : lv 0 0 := h.2.1.k (by decide)
  have hl10 : lv 10 0 := h.2.2.1.k (by decide) (by decide)
  refine j_aload_n C d_L_law_227 rfl rfl ?_
  refine j_callV C hK hAz 0 0 (k_suspend h.2.1 _) (jcV C mi_X_suspend t_209 t_210 t_211 rfl rfl ⟨by decide, by decide⟩) rfl rfl hl0 rfl rfl (Nat.le_of_ble_eq_true rfl) d_L_law_228 ⟨by show cells + 0 ≤ 612407; omega, by show slots + 0 ≤ 7265026; omega⟩ ?_
  refine j_aload_n C d_L_law_231 rfl rfl ?_
  refine j_callV C hK hAz 10 0 (m_suspend h.2.2.1 _) (jcV C mi_M_suspend t_515 t_516 t_517 rfl rfl ⟨by decide, by decide⟩) rfl rfl hl10 rfl rfl (Nat.le_of_ble_eq_true rfl) d_L_law_232 ⟨by show cells + 0 ≤ 612407; omega, by show slots + 0 ≤ 7265026; omega⟩ ?_
  refine j_icmp_eq C 569 d_L_law_235 rfl (fun _ => ?_) (fun q => absurd (f_suspend h).1 q)
  exact j_widen (by omega) (by omega) (kk ad _ _ _ _ (f_suspend h).2 hl rfl rfl)
set_option maxRecDepth 100000 in
set_option maxHeartbeats 4000000 in
theorem lc_signal {p : Program} {l : Launch} {e : Env} {s : State} {m : MethodId} {below : List Frame} {meth : Method} {c : Code} {D : va_G} {E : Nat → ClassId} {b L : Nat} {xs : Nat → Int32} (C : CallFix p m c c_L_law 4 s #[Value.ref b] jT R_law) (hK : jK D jcl jY E s) (hX : va_X b L xs s s.heap) (hbl : b < s.heap.size) {lv : Nat → Nat → Prop} {n : Nat} {σ τ : sT} (h : Inv lv n σ τ) (hl : LvB lv) (hn : n < 2000000) {i : Int32} (h1 : vp_in (i + 1) L) (h2 : vp_in (i + 2) L) (h3 : vp_in (i + 3) L) {cells slots z : Nat} (hcs : cells + 2 ≤ 612407 ∧ slots + 15 ≤ 7265026) {ad : Nat → Nat → Nat} (kk : KK p l e s m below meth c D E b cells slots (ad 0 0) (ad 10 0) n i) : JL p l e s m below meth c D E b ad cells slots z lv (jv ad σ τ) 240 [some (.ref b), some (.ref (ad 0 0)), some (.ref (ad 10 0)), some (.int i)] [] := by
  have hAz : ∀ q, s.heap.size ≤ q → (fun q => s.heap.size ≤ q) q := fun q h => h
  have hl0 : lv 0 0 := h.2.1.k (by decide)
  have hl10 : lv 10 0 := h.2.2.1.k (by decide) (by decide)
  refine j_aload_n C d_L_law_240 rfl rfl ?_
  refine j_aload_n C d_L_law_241 rfl rfl ?_
  refine j_iload_n C d_L_law_242 rfl rfl ?_
  refine j_iconst (v := 1) C d_L_law_243 (by decide) ?_
  refine j_iadd C d_L_law_244 ?_
  refine l_sld C hX hbl h1 d_L_law_245 ?_
  refine j_callV C hK hAz 0 0 (k_signal h.2.1 _) (jcV C mi_X_signal t_221 t_222 t_223 rfl rfl ⟨by decide, by decide⟩) rfl rfl hl0 rfl rfl (Nat.le_of_ble_eq_true rfl) d_L_law_246 ⟨by show cells + 0 ≤ 612407; omega, by show slots + 0 ≤ 7265026; omega⟩ ?_
  refine j_aload_n C d_L_law_249 rfl rfl ?_
  refine j_aload_n C d_L_law_250 rfl rfl ?_
  refine j_iload_n C d_L_law_251 rfl rfl ?_
  refine j_iconst (v := 1) C d_L_law_252 (by decide) ?_
  refine j_iadd C d_L_law_253 ?_
  refine l_sld C hX hbl h1 d_L_law_254 ?_
  refine j_callV C hK hAz 10 0 (m_signal h.2.2.1 _) (jcV C mi_M_signal t_519 t_520 t_521 rfl rfl ⟨by decide, by decide⟩) rfl rfl hl10 rfl rfl (Nat.le_of_ble_eq_true rfl) d_L_law_255 ⟨by show cells + 0 ≤ 612407; omega, by show slots + 0 ≤ 7265026; omega⟩ ?_
  refine j_icmp_eq C 569 d_L_law_258 rfl (fun _ => ?_) (fun q => absurd (f_signal h hn (xs (i + 1).toNatClampNeg)).1 q)
  exact j_widen (by omega) (by omega) (kk ad _ _ _ _ (f_signal h hn (xs (i + 1).toNatClampNeg)).2 hl rfl rfl)
set_option maxRecDepth 100000 in
set_option maxHeartbeats 4000000 in
theorem lc_listen {p : Program} {l : Launch} {e : Env} {s : State} {m : MethodId} {below : List Frame} {meth : Method} {c : Code} {D : va_G} {E : Nat → ClassId} {b L : Nat} {xs : Nat → Int32} (C : CallFix p m c c_L_law 4 s #[Value.ref b] jT R_law) (hK : jK D jcl jY E s) (hX : va_X b L xs s s.heap) (hbl : b < s.heap.size) {lv : Nat → Nat → Prop} {n : Nat} {σ τ : sT} (h : Inv lv n σ τ) (hl : LvB lv) (hn : n < 2000000) {i : Int32} (h1 : vp_in (i + 1) L) (h2 : vp_in (i + 2) L) (h3 : vp_in (i + 3) L) {cells slots z : Nat} (hcs : cells + 2 ≤ 612407 ∧ slots + 15 ≤ 7265026) {ad : Nat → Nat → Nat} (kk : KK p l e s m below meth c D E b cells slots (ad 0 0) (ad 10 0) n i) : JL p l e s m below meth c D E b ad cells slots z lv (jv ad σ τ) 263 [some (.ref b), some (.ref (ad 0 0)), some (.ref (ad 10 0)), some (.int i)] [] := by
  have hAz : ∀ q, s.heap.size ≤ q → (fun q => s.heap.size ≤ q) q := fun q h => h
  have hl0 : lv 0 0 := h.2.1.k (by decide)
  have hl10 : lv 10 0 := h.2.2.1.k (by decide) (by decide)
  refine j_aload_n C d_L_law_263 rfl rfl ?_
  refine j_aload_n C d_L_law_264 rfl rfl ?_
  refine j_iload_n C d_L_law_265 rfl rfl ?_
  refine j_iconst (v := 1) C d_L_law_266 (by decide) ?_
  refine j_iadd C d_L_law_267 ?_
  refine l_sld C hX hbl h1 d_L_law_268 ?_
  refine j_callV C hK hAz 0 0 (k_listen h.2.1 _) (jcV C mi_X_listen t_232 t_233 t_234 rfl rfl ⟨by decide, by decide⟩) rfl rfl hl0 rfl rfl (Nat.le_of_ble_eq_true rfl) d_L_law_269 ⟨by show cells + 0 ≤ 612407; omega, by show slots + 0 ≤ 7265026; omega⟩ ?_
  refine j_aload_n C d_L_law_272 rfl rfl ?_
  refine j_aload_n C d_L_law_273 rfl rfl ?_
  refine j_iload_n C d_L_law_274 rfl rfl ?_
  refine j_iconst (v := 1) C d_L_law_275 (by decide) ?_
  refine j_iadd C d_L_law_276 ?_
  refine l_sld C hX hbl h1 d_L_law_277 ?_
  refine j_callV C hK hAz 10 0 (m_listen h.2.2.1 _) (jcV C mi_M_listen t_526 t_527 t_528 rfl rfl ⟨by decide, by decide⟩) rfl rfl hl10 rfl rfl (Nat.le_of_ble_eq_true rfl) d_L_law_278 ⟨by show cells + 0 ≤ 612407; omega, by show slots + 0 ≤ 7265026; omega⟩ ?_
  refine j_icmp_eq C 569 d_L_law_281 rfl (fun _ => ?_) (fun q => absurd (f_listen h (xs (i + 1).toNatClampNeg)).1 q)
  exact j_widen (by omega) (by omega) (kk ad _ _ _ _ (f_listen h (xs (i + 1).toNatClampNeg)).2 hl rfl rfl)
set_option maxRecDepth 100000 in
set_option maxHeartbeats 4000000 in
theorem lc_alarm {p : Program} {l : Launch} {e : Env} {s : State} {m : MethodId} {below : List Frame} {meth : Method} {c : Code} {D : va_G} {E : Nat → ClassId} {b L : Nat} {xs : Nat → Int32} (C : CallFix p m c c_L_law 4 s #[Value.ref b] jT R_law) (hK : jK D jcl jY E s) (hX : va_X b L xs s s.heap) (hbl : b < s.heap.size) {lv : Nat → Nat → Prop} {n : Nat} {σ τ : sT} (h : Inv lv n σ τ) (hl : LvB lv) (hn : n < 2000000) {i : Int32} (h1 : vp_in (i + 1) L) (h2 : vp_in (i + 2) L) (h3 : vp_in (i + 3) L) {cells slots z : Nat} (hcs : cells + 2 ≤ 612407 ∧ slots + 15 ≤ 7265026) {ad : Nat → Nat → Nat} (kk : KK p l e s m below meth c D E b cells slots (ad 0 0) (ad 10 0) n i) : JL p l e s m below meth c D E b ad cells slots z lv (jv ad σ τ) 286 [some (.ref b), some (.ref (ad 0 0)), some (.ref (ad 10 0)), some (.int i)] [] := by
  have hAz : ∀ q, s.heap.size ≤ q → (fun q => s.heap.size ≤ q) q := fun q h => h
  have hl0 : lv 0 0 := h.2.1.k (by decide)
  have hl10 : lv 10 0 := h.2.2.1.k (by decide) (by decide)
  refine j_aload_n C d_L_law_286 rfl rfl ?_
  refine j_aload_n C d_L_law_287 rfl rfl ?_
  refine j_iload_n C d_L_law_288 rfl rfl ?_
  refine j_iconst (v := 1) C d_L_law_289 (by decide) ?_
  refine j_iadd C d_L_law_290 ?_
  refine l_sld C hX hbl h1 d_L_law_291 ?_
  refine j_aload_n C d_L_law_292 rfl rfl ?_
  refine j_iload_n C d_L_law_293 rfl rfl ?_
  refine j_iconst (v := 2) C d_L_law_294 (by decide) ?_
  refine j_iadd C d_L_law_295 ?_
  refine l_sld C hX hbl h2 d_L_law_296 ?_
  refine j_callV C hK hAz 0 0 (k_alarm h.2.1 _) (jcV C mi_X_alarm t_236 t_237 t_238 rfl rfl ⟨by decide, by decide⟩) rfl rfl hl0 rfl rfl (Nat.le_of_ble_eq_true rfl) d_L_law_297 ⟨by show cells + 0 ≤ 612407; omega, by show slots + 0 ≤ 7265026; omega⟩ ?_
  refine j_aload_n C d_L_law_300 rfl rfl ?_
  refine j_aload_n C d_L_law_301 rfl rfl ?_
  refine j_iload_n C d_L_law_302 rfl rfl ?_
  refine j_iconst (v := 1) C d_L_law_303 (by decide) ?_
  refine j_iadd C d_L_law_304 ?_
  refine l_sld C hX hbl h1 d_L_law_305 ?_
  refine j_aload_n C d_L_law_306 rfl rfl ?_
  refine j_iload_n C d_L_law_307 rfl rfl ?_
  refine j_iconst (v := 2) C d_L_law_308 (by decide) ?_
  refine j_iadd C d_L_law_309 ?_
  refine l_sld C hX hbl h2 d_L_law_310 ?_
  refine j_callV C hK hAz 10 0 (m_alarm h.2.2.1 _) (jcV C mi_M_alarm t_530 t_531 t_532 rfl rfl ⟨by decide, by decide⟩) rfl rfl hl10 rfl rfl (Nat.le_of_ble_eq_true rfl) d_L_law_311 ⟨by show cells + 0 ≤ 612407; omega, by show slots + 0 ≤ 7265026; omega⟩ ?_
  refine j_icmp_eq C 569 d_L_law_314 rfl (fun _ => ?_) (fun q => absurd (f_alarm h (xs (i + 1).toNatClampNeg) (xs (i + 2).toNatClampNeg)).1 q)
  exact j_widen (by omega) (by omega) (kk ad _ _ _ _ (f_alarm h (xs (i + 1).toNatClampNeg) (xs (i + 2).toNatClampNeg)).2 hl rfl rfl)
set_option maxRecDepth 100000 in
set_option maxHeartbeats 4000000 in
theorem lc_word {p : Program} {l : Launch} {e : Env} {s : State} {m : MethodId} {below : List Frame} {meth : Method} {c : Code} {D : va_G} {E : Nat → ClassId} {b L : Nat} {xs : Nat → Int32} (C : CallFix p m c c_L_law 4 s #[Value.ref b] jT R_law) (hK : jK D jcl jY E s) (hX : va_X b L xs s s.heap) (hbl : b < s.heap.size) {lv : Nat → Nat → Prop} {n : Nat} {σ τ : sT} (h : Inv lv n σ τ) (hl : LvB lv) (hn : n < 2000000) {i : Int32} (h1 : vp_in (i + 1) L) (h2 : vp_in (i + 2) L) (h3 : vp_in (i + 3) L) {cells slots z : Nat} (hcs : cells + 2 ≤ 612407 ∧ slots + 15 ≤ 7265026) {ad : Nat → Nat → Nat} (kk : KK p l e s m below meth c D E b cells slots (ad 0 0) (ad 10 0) n i) : JL p l e s m below meth c D E b ad cells slots z lv (jv ad σ τ) 319 [some (.ref b), some (.ref (ad 0 0)), some (.ref (ad 10 0)), some (.int i)] [] := by
  have hAz : ∀ q, s.heap.size ≤ q → (fun q => s.heap.size ≤ q) q := fun q h => h
  have hl0 : lv 0 0 := h.2.1.k (by decide)
  have hl10 : lv 10 0 := h.2.2.1.k (by decide) (by decide)
  refine j_aload_n C d_L_law_319 rfl rfl ?_
  refine j_aload_n C d_L_law_320 rfl rfl ?_
  refine j_iload_n C d_L_law_321 rfl rfl ?_
  refine j_iconst (v := 1) C d_L_law_322 (by decide) ?_
  refine j_iadd C d_L_law_323 ?_
  refine l_sld C hX hbl h1 d_L_law_324 ?_
  refine j_callV C hK hAz 0 0 (k_word h.2.1 _) (jcV C mi_X_word t_245 t_246 t_247 rfl rfl ⟨by decide, by decide⟩) rfl rfl hl0 rfl rfl (Nat.le_of_ble_eq_true rfl) d_L_law_325 ⟨by show cells + 0 ≤ 612407; omega, by show slots + 0 ≤ 7265026; omega⟩ ?_
  refine j_aload_n C d_L_law_328 rfl rfl ?_
  refine j_aload_n C d_L_law_329 rfl rfl ?_
  refine j_iload_n C d_L_law_330 rfl rfl ?_
  refine j_iconst (v := 1) C d_L_law_331 (by decide) ?_
  refine j_iadd C d_L_law_332 ?_
  refine l_sld C hX hbl h1 d_L_law_333 ?_
  refine j_callV C hK hAz 10 0 (m_word h.2.2.1 _) (jcV C mi_M_word t_535 t_536 t_537 rfl rfl ⟨by decide, by decide⟩) rfl rfl hl10 rfl rfl (Nat.le_of_ble_eq_true rfl) d_L_law_334 ⟨by show cells + 0 ≤ 612407; omega, by show slots + 0 ≤ 7265026; omega⟩ ?_
  refine j_icmp_eq C 569 d_L_law_337 rfl (fun _ => ?_) (fun q => absurd (f_word h (xs (i + 1).toNatClampNeg)).1 q)
  exact j_widen (by omega) (by omega) (kk ad _ _ _ _ (f_word h (xs (i + 1).toNatClampNeg)).2 hl rfl rfl)
set_option maxRecDepth 100000 in
set_option maxHeartbeats 4000000 in
theorem lc_run {p : Program} {l : Launch} {e : Env} {s : State} {m : MethodId} {below : List Frame} {meth : Method} {c : Code} {D : va_G} {E : Nat → ClassId} {b L : Nat} {xs : Nat → Int32} (C : CallFix p m c c_L_law 4 s #[Value.ref b] jT R_law) (hK : jK D jcl jY E s) (hX : va_X b L xs s s.heap) (hbl : b < s.heap.size) {lv : Nat → Nat → Prop} {n : Nat} {σ τ : sT} (h : Inv lv n σ τ) (hl : LvB lv) (hn : n < 2000000) {i : Int32} (h1 : vp_in (i + 1) L) (h2 : vp_in (i + 2) L) (h3 : vp_in (i + 3) L) {cells slots z : Nat} (hcs : cells + 2 ≤ 612407 ∧ slots + 15 ≤ 7265026) {ad : Nat → Nat → Nat} (kk : KK p l e s m below meth c D E b cells slots (ad 0 0) (ad 10 0) n i) : JL p l e s m below meth c D E b ad cells slots z lv (jv ad σ τ) 342 [some (.ref b), some (.ref (ad 0 0)), some (.ref (ad 10 0)), some (.int i)] [] := by
  have hAz : ∀ q, s.heap.size ≤ q → (fun q => s.heap.size ≤ q) q := fun q h => h
  have hl0 : lv 0 0 := h.2.1.k (by decide)
  have hl10 : lv 10 0 := h.2.2.1.k (by decide) (by decide)
  refine j_aload_n C d_L_law_342 rfl rfl ?_
  refine j_aload_n C d_L_law_343 rfl rfl ?_
  refine j_iload_n C d_L_law_344 rfl rfl ?_
  refine j_iconst (v := 1) C d_L_law_345 (by decide) ?_
  refine j_iadd C d_L_law_346 ?_
  refine l_sld C hX hbl h1 d_L_law_347 ?_
  refine j_callV C hK hAz 0 0 (k_run h.2.1 _) (jcV C mi_X_run t_261 t_262 t_263 rfl rfl ⟨by decide, by decide⟩) rfl rfl hl0 rfl rfl (Nat.le_of_ble_eq_true rfl) d_L_law_348 ⟨by show cells + 0 ≤ 612407; omega, by show slots + 0 ≤ 7265026; omega⟩ ?_
  refine j_aload_n C d_L_law_351 rfl rfl ?_
  refine j_aload_n C d_L_law_352 rfl rfl ?_
  refine j_iload_n C d_L_law_353 rfl rfl ?_
  refine j_iconst (v := 1) C d_L_law_354 (by decide) ?_
  refine j_iadd C d_L_law_355 ?_
  refine l_sld C hX hbl h1 d_L_law_356 ?_
  refine j_callV C hK hAz 10 0 (m_run h.2.2.1 (by omega) _) (jcV C mi_M_run t_442 t_443 t_444 rfl rfl ⟨by decide, by decide⟩) rfl rfl hl10 rfl rfl (Nat.le_of_ble_eq_true rfl) d_L_law_357 ⟨by show cells + 0 ≤ 612407; omega, by show slots + 0 ≤ 7265026; omega⟩ ?_
  refine j_icmp_eq C 569 d_L_law_360 rfl (fun _ => ?_) (fun q => absurd (f_run h hn (xs (i + 1).toNatClampNeg)).1 q)
  exact j_widen (by omega) (by omega) (kk ad _ _ _ _ (f_run h hn (xs (i + 1).toNatClampNeg)).2 hl rfl rfl)
set_option maxRecDepth 100000 in
set_option maxHeartbeats 4000000 in
theorem lc_active {p : Program} {l : Launch} {e : Env} {s : State} {m : MethodId} {below : List Frame} {meth : Method} {c : Code} {D : va_G} {E : Nat → ClassId} {b L : Nat} {xs : Nat → Int32} (C : CallFix p m c c_L_law 4 s #[Value.ref b] jT R_law) (hK : jK D jcl jY E s) (hX : va_X b L xs s s.heap) (hbl : b < s.heap.size) {lv : Nat → Nat → Prop} {n : Nat} {σ τ : sT} (h : Inv lv n σ τ) (hl : LvB lv) (hn : n < 2000000) {i : Int32} (h1 : vp_in (i + 1) L) (h2 : vp_in (i + 2) L) (h3 : vp_in (i + 3) L) {cells slots z : Nat} (hcs : cells + 2 ≤ 612407 ∧ slots + 15 ≤ 7265026) {ad : Nat → Nat → Nat} (kk : KK p l e s m below meth c D E b cells slots (ad 0 0) (ad 10 0) n i) : JL p l e s m below meth c D E b ad cells slots z lv (jv ad σ τ) 365 [some (.ref b), some (.ref (ad 0 0)), some (.ref (ad 10 0)), some (.int i)] [] := by
  have hAz : ∀ q, s.heap.size ≤ q → (fun q => s.heap.size ≤ q) q := fun q h => h
  have hl0 : lv 0 0 := h.2.1.k (by decide)
  have hl10 : lv 10 0 := h.2.2.1.k (by decide) (by decide)
  refine j_aload_n C d_L_law_365 rfl rfl ?_
  refine j_callV C hK hAz 0 0 (k_active h.2.1 _) (jcV C mi_X_active t_315 t_316 t_317 rfl rfl ⟨by decide, by decide⟩) rfl rfl hl0 rfl rfl (Nat.le_of_ble_eq_true rfl) d_L_law_366 ⟨by show cells + 0 ≤ 612407; omega, by show slots + 0 ≤ 7265026; omega⟩ ?_
  refine j_aload_n C d_L_law_369 rfl rfl ?_
  refine j_callV C hK hAz 10 0 (m_active h.2.2.1 _) (jcV C mi_M_active t_540 t_541 t_542 rfl rfl ⟨by decide, by decide⟩) rfl rfl hl10 rfl rfl (Nat.le_of_ble_eq_true rfl) d_L_law_370 ⟨by show cells + 0 ≤ 612407; omega, by show slots + 0 ≤ 7265026; omega⟩ ?_
  refine j_icmp_eq C 569 d_L_law_373 rfl (fun _ => ?_) (fun q => absurd (f_active h) q)
  exact j_widen (by omega) (by omega) (kk ad _ _ _ _ h.same hl rfl rfl)
set_option maxRecDepth 100000 in
set_option maxHeartbeats 4000000 in
theorem lc_present {p : Program} {l : Launch} {e : Env} {s : State} {m : MethodId} {below : List Frame} {meth : Method} {c : Code} {D : va_G} {E : Nat → ClassId} {b L : Nat} {xs : Nat → Int32} (C : CallFix p m c c_L_law 4 s #[Value.ref b] jT R_law) (hK : jK D jcl jY E s) (hX : va_X b L xs s s.heap) (hbl : b < s.heap.size) {lv : Nat → Nat → Prop} {n : Nat} {σ τ : sT} (h : Inv lv n σ τ) (hl : LvB lv) (hn : n < 2000000) {i : Int32} (h1 : vp_in (i + 1) L) (h2 : vp_in (i + 2) L) (h3 : vp_in (i + 3) L) {cells slots z : Nat} (hcs : cells + 2 ≤ 612407 ∧ slots + 15 ≤ 7265026) {ad : Nat → Nat → Nat} (kk : KK p l e s m below meth c D E b cells slots (ad 0 0) (ad 10 0) n i) : JL p l e s m below meth c D E b ad cells slots z lv (jv ad σ τ) 378 [some (.ref b), some (.ref (ad 0 0)), some (.ref (ad 10 0)), some (.int i)] [] := by
  have hAz : ∀ q, s.heap.size ≤ q → (fun q => s.heap.size ≤ q) q := fun q h => h
  have hl0 : lv 0 0 := h.2.1.k (by decide)
  have hl10 : lv 10 0 := h.2.2.1.k (by decide) (by decide)
  refine j_aload_n C d_L_law_378 rfl rfl ?_
  refine j_callV C hK hAz 0 0 (k_present h.2.1 _) (jcV C mi_X_present t_322 t_323 t_324 rfl rfl ⟨by decide, by decide⟩) rfl rfl hl0 rfl rfl (Nat.le_of_ble_eq_true rfl) d_L_law_379 ⟨by show cells + 0 ≤ 612407; omega, by show slots + 0 ≤ 7265026; omega⟩ ?_
  refine j_aload_n C d_L_law_382 rfl rfl ?_
  refine j_callV C hK hAz 10 0 (m_present h.2.2.1 _) (jcV C mi_M_present t_544 t_545 t_546 rfl rfl ⟨by decide, by decide⟩) rfl rfl hl10 rfl rfl (Nat.le_of_ble_eq_true rfl) d_L_law_383 ⟨by show cells + 0 ≤ 612407; omega, by show slots + 0 ≤ 7265026; omega⟩ ?_
  refine j_icmp_eq C 569 d_L_law_386 rfl (fun _ => ?_) (fun q => absurd (f_present h) q)
  exact j_widen (by omega) (by omega) (kk ad _ _ _ _ h.same hl rfl rfl)
set_option maxRecDepth 100000 in
set_option maxHeartbeats 4000000 in
theorem lc_clock {p : Program} {l : Launch} {e : Env} {s : State} {m : MethodId} {below : List Frame} {meth : Method} {c : Code} {D : va_G} {E : Nat → ClassId} {b L : Nat} {xs : Nat → Int32} (C : CallFix p m c c_L_law 4 s #[Value.ref b] jT R_law) (hK : jK D jcl jY E s) (hX : va_X b L xs s s.heap) (hbl : b < s.heap.size) {lv : Nat → Nat → Prop} {n : Nat} {σ τ : sT} (h : Inv lv n σ τ) (hl : LvB lv) (hn : n < 2000000) {i : Int32} (h1 : vp_in (i + 1) L) (h2 : vp_in (i + 2) L) (h3 : vp_in (i + 3) L) {cells slots z : Nat} (hcs : cells + 2 ≤ 612407 ∧ slots + 15 ≤ 7265026) {ad : Nat → Nat → Nat} (kk : KK p l e s m below meth c D E b cells slots (ad 0 0) (ad 10 0) n i) : JL p l e s m below meth c D E b ad cells slots z lv (jv ad σ τ) 391 [some (.ref b), some (.ref (ad 0 0)), some (.ref (ad 10 0)), some (.int i)] [] := by
  have hAz : ∀ q, s.heap.size ≤ q → (fun q => s.heap.size ≤ q) q := fun q h => h
  have hl0 : lv 0 0 := h.2.1.k (by decide)
  have hl10 : lv 10 0 := h.2.2.1.k (by decide) (by decide)
  refine j_aload_n C d_L_law_391 rfl rfl ?_
  refine j_callV C hK hAz 0 0 (k_clock h.2.1 _) (jcV C mi_X_clock t_326 t_327 t_328 rfl rfl ⟨by decide, by decide⟩) rfl rfl hl0 rfl rfl (Nat.le_of_ble_eq_true rfl) d_L_law_392 ⟨by show cells + 0 ≤ 612407; omega, by show slots + 0 ≤ 7265026; omega⟩ ?_
  refine j_aload_n C d_L_law_395 rfl rfl ?_
  refine j_callV C hK hAz 10 0 (m_clock h.2.2.1 _) (jcV C mi_M_clock t_548 t_549 t_550 rfl rfl ⟨by decide, by decide⟩) rfl rfl hl10 rfl rfl (Nat.le_of_ble_eq_true rfl) d_L_law_396 ⟨by show cells + 0 ≤ 612407; omega, by show slots + 0 ≤ 7265026; omega⟩ ?_
  refine j_icmp_eq C 569 d_L_law_399 rfl (fun _ => ?_) (fun q => absurd (f_clock h) q)
  exact j_widen (by omega) (by omega) (kk ad _ _ _ _ h.same hl rfl rfl)
set_option maxRecDepth 100000 in
set_option maxHeartbeats 4000000 in
theorem lc_codes {p : Program} {l : Launch} {e : Env} {s : State} {m : MethodId} {below : List Frame} {meth : Method} {c : Code} {D : va_G} {E : Nat → ClassId} {b L : Nat} {xs : Nat → Int32} (C : CallFix p m c c_L_law 4 s #[Value.ref b] jT R_law) (hK : jK D jcl jY E s) (hX : va_X b L xs s s.heap) (hbl : b < s.heap.size) {lv : Nat → Nat → Prop} {n : Nat} {σ τ : sT} (h : Inv lv n σ τ) (hl : LvB lv) (hn : n < 2000000) {i : Int32} (h1 : vp_in (i + 1) L) (h2 : vp_in (i + 2) L) (h3 : vp_in (i + 3) L) {cells slots z : Nat} (hcs : cells + 2 ≤ 612407 ∧ slots + 15 ≤ 7265026) {ad : Nat → Nat → Nat} (kk : KK p l e s m below meth c D E b cells slots (ad 0 0) (ad 10 0) n i) : JL p l e s m below meth c D E b ad cells slots z lv (jv ad σ τ) 404 [some (.ref b), some (.ref (ad 0 0)), some (.ref (ad 10 0)), some (.int i)] [] := by
  have hAz : ∀ q, s.heap.size ≤ q → (fun q => s.heap.size ≤ q) q := fun q h => h
  have hl0 : lv 0 0 := h.2.1.k (by decide)
  have hl10 : lv 10 0 := h.2.2.1.k (by decide) (by decide)
  refine j_aload_n C d_L_law_404 rfl rfl ?_
  refine j_callV C hK hAz 0 0 (k_codes h.2.1 _) (jcV C mi_X_codes t_330 t_331 t_332 rfl rfl ⟨by decide, by decide⟩) rfl rfl hl0 rfl rfl (Nat.le_of_ble_eq_true rfl) d_L_law_405 ⟨by show cells + 0 ≤ 612407; omega, by show slots + 0 ≤ 7265026; omega⟩ ?_
  refine j_aload_n C d_L_law_408 rfl rfl ?_
  refine j_callV C hK hAz 10 0 (m_codes h.2.2.1 _) (jcV C mi_M_codes t_552 t_553 t_554 rfl rfl ⟨by decide, by decide⟩) rfl rfl hl10 rfl rfl (Nat.le_of_ble_eq_true rfl) d_L_law_409 ⟨by show cells + 0 ≤ 612407; omega, by show slots + 0 ≤ 7265026; omega⟩ ?_
  refine j_lcmp C d_L_law_412 ?_
  refine j_if_eq C 569 d_L_law_413 rfl (fun _ => ?_) (fun q => absurd (lcmp_0 (f_codes h)) q)
  exact j_widen (by omega) (by omega) (kk ad _ _ _ _ h.same hl rfl rfl)
set_option maxRecDepth 100000 in
set_option maxHeartbeats 4000000 in
theorem lc_done {p : Program} {l : Launch} {e : Env} {s : State} {m : MethodId} {below : List Frame} {meth : Method} {c : Code} {D : va_G} {E : Nat → ClassId} {b L : Nat} {xs : Nat → Int32} (C : CallFix p m c c_L_law 4 s #[Value.ref b] jT R_law) (hK : jK D jcl jY E s) (hX : va_X b L xs s s.heap) (hbl : b < s.heap.size) {lv : Nat → Nat → Prop} {n : Nat} {σ τ : sT} (h : Inv lv n σ τ) (hl : LvB lv) (hn : n < 2000000) {i : Int32} (h1 : vp_in (i + 1) L) (h2 : vp_in (i + 2) L) (h3 : vp_in (i + 3) L) {cells slots z : Nat} (hcs : cells + 2 ≤ 612407 ∧ slots + 15 ≤ 7265026) {ad : Nat → Nat → Nat} (kk : KK p l e s m below meth c D E b cells slots (ad 0 0) (ad 10 0) n i) : JL p l e s m below meth c D E b ad cells slots z lv (jv ad σ τ) 418 [some (.ref b), some (.ref (ad 0 0)), some (.ref (ad 10 0)), some (.int i)] [] := by
  have hAz : ∀ q, s.heap.size ≤ q → (fun q => s.heap.size ≤ q) q := fun q h => h
  have hl0 : lv 0 0 := h.2.1.k (by decide)
  have hl10 : lv 10 0 := h.2.2.1.k (by decide) (by decide)
  refine j_aload_n C d_L_law_418 rfl rfl ?_
  refine j_aload_n C d_L_law_419 rfl rfl ?_
  refine j_iload_n C d_L_law_420 rfl rfl ?_
  refine j_iconst (v := 1) C d_L_law_421 (by decide) ?_
  refine j_iadd C d_L_law_422 ?_
  refine l_sld C hX hbl h1 d_L_law_423 ?_
  refine j_callV C hK hAz 0 0 (k_done h.2.1 _) (jcV C mi_X_done t_334 t_335 t_336 rfl rfl ⟨by decide, by decide⟩) rfl rfl hl0 rfl rfl (Nat.le_of_ble_eq_true rfl) d_L_law_424 ⟨by show cells + 0 ≤ 612407; omega, by show slots + 0 ≤ 7265026; omega⟩ ?_
  refine j_aload_n C d_L_law_427 rfl rfl ?_
  refine j_aload_n C d_L_law_428 rfl rfl ?_
  refine j_iload_n C d_L_law_429 rfl rfl ?_
  refine j_iconst (v := 1) C d_L_law_430 (by decide) ?_
  refine j_iadd C d_L_law_431 ?_
  refine l_sld C hX hbl h1 d_L_law_432 ?_
  refine j_callV C hK hAz 10 0 (m_done h.2.2.1 _) (jcV C mi_M_done t_556 t_557 t_558 rfl rfl ⟨by decide, by decide⟩) rfl rfl hl10 rfl rfl (Nat.le_of_ble_eq_true rfl) d_L_law_433 ⟨by show cells + 0 ≤ 612407; omega, by show slots + 0 ≤ 7265026; omega⟩ ?_
  refine j_icmp_eq C 569 d_L_law_436 rfl (fun _ => ?_) (fun q => absurd (f_done h (xs (i + 1).toNatClampNeg)) q)
  exact j_widen (by omega) (by omega) (kk ad _ _ _ _ h.same hl rfl rfl)
set_option maxRecDepth 100000 in
set_option maxHeartbeats 4000000 in
theorem lc_row {p : Program} {l : Launch} {e : Env} {s : State} {m : MethodId} {below : List Frame} {meth : Method} {c : Code} {D : va_G} {E : Nat → ClassId} {b L : Nat} {xs : Nat → Int32} (C : CallFix p m c c_L_law 4 s #[Value.ref b] jT R_law) (hK : jK D jcl jY E s) (hX : va_X b L xs s s.heap) (hbl : b < s.heap.size) {lv : Nat → Nat → Prop} {n : Nat} {σ τ : sT} (h : Inv lv n σ τ) (hl : LvB lv) (hn : n < 2000000) {i : Int32} (h1 : vp_in (i + 1) L) (h2 : vp_in (i + 2) L) (h3 : vp_in (i + 3) L) {cells slots z : Nat} (hcs : cells + 2 ≤ 612407 ∧ slots + 15 ≤ 7265026) {ad : Nat → Nat → Nat} (kk : KK p l e s m below meth c D E b cells slots (ad 0 0) (ad 10 0) n i) : JL p l e s m below meth c D E b ad cells slots z lv (jv ad σ τ) 441 [some (.ref b), some (.ref (ad 0 0)), some (.ref (ad 10 0)), some (.int i)] [] := by
  have hAz : ∀ q, s.heap.size ≤ q → (fun q => s.heap.size ≤ q) q := fun q h => h
  have hl0 : lv 0 0 := h.2.1.k (by decide)
  have hl10 : lv 10 0 := h.2.2.1.k (by decide) (by decide)
  refine j_aload_n C d_L_law_441 rfl rfl ?_
  refine j_aload_n C d_L_law_442 rfl rfl ?_
  refine j_iload_n C d_L_law_443 rfl rfl ?_
  refine j_iconst (v := 1) C d_L_law_444 (by decide) ?_
  refine j_iadd C d_L_law_445 ?_
  refine l_sld C hX hbl h1 d_L_law_446 ?_
  refine j_callV C hK hAz 0 0 (k_row h.2.1 _) (jcV C mi_X_row t_338 t_339 t_340 rfl rfl ⟨by decide, by decide⟩) rfl rfl hl0 rfl rfl (Nat.le_of_ble_eq_true rfl) d_L_law_447 ⟨by show cells + 0 ≤ 612407; omega, by show slots + 0 ≤ 7265026; omega⟩ ?_
  refine j_aload_n C d_L_law_450 rfl rfl ?_
  refine j_aload_n C d_L_law_451 rfl rfl ?_
  refine j_iload_n C d_L_law_452 rfl rfl ?_
  refine j_iconst (v := 1) C d_L_law_453 (by decide) ?_
  refine j_iadd C d_L_law_454 ?_
  refine l_sld C hX hbl h1 d_L_law_455 ?_
  refine j_callV C hK hAz 10 0 (m_row h.2.2.1 _) (jcV C mi_M_row t_560 t_561 t_562 rfl rfl ⟨by decide, by decide⟩) rfl rfl hl10 rfl rfl (Nat.le_of_ble_eq_true rfl) d_L_law_456 ⟨by show cells + 0 ≤ 612407; omega, by show slots + 0 ≤ 7265026; omega⟩ ?_
  refine j_icmp_eq C 569 d_L_law_459 rfl (fun _ => ?_) (fun q => absurd (f_row h (xs (i + 1).toNatClampNeg)) q)
  exact j_widen (by omega) (by omega) (kk ad _ _ _ _ h.same hl rfl rfl)
set_option maxRecDepth 100000 in
set_option maxHeartbeats 4000000 in
theorem lc_at {p : Program} {l : Launch} {e : Env} {s : State} {m : MethodId} {below : List Frame} {meth : Method} {c : Code} {D : va_G} {E : Nat → ClassId} {b L : Nat} {xs : Nat → Int32} (C : CallFix p m c c_L_law 4 s #[Value.ref b] jT R_law) (hK : jK D jcl jY E s) (hX : va_X b L xs s s.heap) (hbl : b < s.heap.size) {lv : Nat → Nat → Prop} {n : Nat} {σ τ : sT} (h : Inv lv n σ τ) (hl : LvB lv) (hn : n < 2000000) {i : Int32} (h1 : vp_in (i + 1) L) (h2 : vp_in (i + 2) L) (h3 : vp_in (i + 3) L) {cells slots z : Nat} (hcs : cells + 2 ≤ 612407 ∧ slots + 15 ≤ 7265026) {ad : Nat → Nat → Nat} (kk : KK p l e s m below meth c D E b cells slots (ad 0 0) (ad 10 0) n i) : JL p l e s m below meth c D E b ad cells slots z lv (jv ad σ τ) 464 [some (.ref b), some (.ref (ad 0 0)), some (.ref (ad 10 0)), some (.int i)] [] := by
  have hAz : ∀ q, s.heap.size ≤ q → (fun q => s.heap.size ≤ q) q := fun q h => h
  have hl0 : lv 0 0 := h.2.1.k (by decide)
  have hl10 : lv 10 0 := h.2.2.1.k (by decide) (by decide)
  refine j_aload_n C d_L_law_464 rfl rfl ?_
  refine j_aload_n C d_L_law_465 rfl rfl ?_
  refine j_iload_n C d_L_law_466 rfl rfl ?_
  refine j_iconst (v := 1) C d_L_law_467 (by decide) ?_
  refine j_iadd C d_L_law_468 ?_
  refine l_sld C hX hbl h1 d_L_law_469 ?_
  refine j_aload_n C d_L_law_470 rfl rfl ?_
  refine j_iload_n C d_L_law_471 rfl rfl ?_
  refine j_iconst (v := 2) C d_L_law_472 (by decide) ?_
  refine j_iadd C d_L_law_473 ?_
  refine l_sld C hX hbl h2 d_L_law_474 ?_
  refine j_callV C hK hAz 0 0 (k_at h.2.1 _) (jcV C mi_X_at t_342 t_343 t_344 rfl rfl ⟨by decide, by decide⟩) rfl rfl hl0 rfl rfl (Nat.le_of_ble_eq_true rfl) d_L_law_475 ⟨by show cells + 0 ≤ 612407; omega, by show slots + 0 ≤ 7265026; omega⟩ ?_
  refine j_aload_n C d_L_law_478 rfl rfl ?_
  refine j_aload_n C d_L_law_479 rfl rfl ?_
  refine j_iload_n C d_L_law_480 rfl rfl ?_
  refine j_iconst (v := 1) C d_L_law_481 (by decide) ?_
  refine j_iadd C d_L_law_482 ?_
  refine l_sld C hX hbl h1 d_L_law_483 ?_
  refine j_aload_n C d_L_law_484 rfl rfl ?_
  refine j_iload_n C d_L_law_485 rfl rfl ?_
  refine j_iconst (v := 2) C d_L_law_486 (by decide) ?_
  refine j_iadd C d_L_law_487 ?_
  refine l_sld C hX hbl h2 d_L_law_488 ?_
  refine j_callV C hK hAz 10 0 (m_at h.2.2.1 _) (jcV C mi_M_at t_564 t_565 t_566 rfl rfl ⟨by decide, by decide⟩) rfl rfl hl10 rfl rfl (Nat.le_of_ble_eq_true rfl) d_L_law_489 ⟨by show cells + 0 ≤ 612407; omega, by show slots + 0 ≤ 7265026; omega⟩ ?_
  refine j_icmp_eq C 569 d_L_law_492 rfl (fun _ => ?_) (fun q => absurd (f_at h (xs (i + 1).toNatClampNeg) (xs (i + 2).toNatClampNeg)) q)
  exact j_widen (by omega) (by omega) (kk ad _ _ _ _ h.same hl rfl rfl)
set_option maxRecDepth 100000 in
set_option maxHeartbeats 4000000 in
theorem lc_extra {p : Program} {l : Launch} {e : Env} {s : State} {m : MethodId} {below : List Frame} {meth : Method} {c : Code} {D : va_G} {E : Nat → ClassId} {b L : Nat} {xs : Nat → Int32} (C : CallFix p m c c_L_law 4 s #[Value.ref b] jT R_law) (hK : jK D jcl jY E s) (hX : va_X b L xs s s.heap) (hbl : b < s.heap.size) {lv : Nat → Nat → Prop} {n : Nat} {σ τ : sT} (h : Inv lv n σ τ) (hl : LvB lv) (hn : n < 2000000) {i : Int32} (h1 : vp_in (i + 1) L) (h2 : vp_in (i + 2) L) (h3 : vp_in (i + 3) L) {cells slots z : Nat} (hcs : cells + 2 ≤ 612407 ∧ slots + 15 ≤ 7265026) {ad : Nat → Nat → Nat} (kk : KK p l e s m below meth c D E b cells slots (ad 0 0) (ad 10 0) n i) : JL p l e s m below meth c D E b ad cells slots z lv (jv ad σ τ) 497 [some (.ref b), some (.ref (ad 0 0)), some (.ref (ad 10 0)), some (.int i)] [] := by
  have hAz : ∀ q, s.heap.size ≤ q → (fun q => s.heap.size ≤ q) q := fun q h => h
  have hl0 : lv 0 0 := h.2.1.k (by decide)
  have hl10 : lv 10 0 := h.2.2.1.k (by decide) (by decide)
  refine j_aload_n C d_L_law_497 rfl rfl ?_
  refine j_aload_n C d_L_law_498 rfl rfl ?_
  refine j_iload_n C d_L_law_499 rfl rfl ?_
  refine j_iconst (v := 1) C d_L_law_500 (by decide) ?_
  refine j_iadd C d_L_law_501 ?_
  refine l_sld C hX hbl h1 d_L_law_502 ?_
  refine j_callV C hK hAz 0 0 (k_extra h.2.1 _) (jcV C mi_X_extra t_350 t_351 t_352 rfl rfl ⟨by decide, by decide⟩) rfl rfl hl0 rfl rfl (Nat.le_of_ble_eq_true rfl) d_L_law_503 ⟨by show cells + 0 ≤ 612407; omega, by show slots + 0 ≤ 7265026; omega⟩ ?_
  refine j_aload_n C d_L_law_506 rfl rfl ?_
  refine j_aload_n C d_L_law_507 rfl rfl ?_
  refine j_iload_n C d_L_law_508 rfl rfl ?_
  refine j_iconst (v := 1) C d_L_law_509 (by decide) ?_
  refine j_iadd C d_L_law_510 ?_
  refine l_sld C hX hbl h1 d_L_law_511 ?_
  refine j_callV C hK hAz 10 0 (m_extra h.2.2.1 _) (jcV C mi_M_extra t_568 t_569 t_570 rfl rfl ⟨by decide, by decide⟩) rfl rfl hl10 rfl rfl (Nat.le_of_ble_eq_true rfl) d_L_law_512 ⟨by show cells + 0 ≤ 612407; omega, by show slots + 0 ≤ 7265026; omega⟩ ?_
  refine j_icmp_eq C 569 d_L_law_515 rfl (fun _ => ?_) (fun q => absurd (f_extra h (xs (i + 1).toNatClampNeg)) q)
  exact j_widen (by omega) (by omega) (kk ad _ _ _ _ h.same hl rfl rfl)
set_option maxRecDepth 100000 in
set_option maxHeartbeats 4000000 in
theorem lc_wordAt {p : Program} {l : Launch} {e : Env} {s : State} {m : MethodId} {below : List Frame} {meth : Method} {c : Code} {D : va_G} {E : Nat → ClassId} {b L : Nat} {xs : Nat → Int32} (C : CallFix p m c c_L_law 4 s #[Value.ref b] jT R_law) (hK : jK D jcl jY E s) (hX : va_X b L xs s s.heap) (hbl : b < s.heap.size) {lv : Nat → Nat → Prop} {n : Nat} {σ τ : sT} (h : Inv lv n σ τ) (hl : LvB lv) (hn : n < 2000000) {i : Int32} (h1 : vp_in (i + 1) L) (h2 : vp_in (i + 2) L) (h3 : vp_in (i + 3) L) {cells slots z : Nat} (hcs : cells + 2 ≤ 612407 ∧ slots + 15 ≤ 7265026) {ad : Nat → Nat → Nat} (kk : KK p l e s m below meth c D E b cells slots (ad 0 0) (ad 10 0) n i) : JL p l e s m below meth c D E b ad cells slots z lv (jv ad σ τ) 520 [some (.ref b), some (.ref (ad 0 0)), some (.ref (ad 10 0)), some (.int i)] [] := by
  have hAz : ∀ q, s.heap.size ≤ q → (fun q => s.heap.size ≤ q) q := fun q h => h
  have hl0 : lv 0 0 := h.2.1.k (by decide)
  have hl10 : lv 10 0 := h.2.2.1.k (by decide) (by decide)
  refine j_aload_n C d_L_law_520 rfl rfl ?_
  refine j_aload_n C d_L_law_521 rfl rfl ?_
  refine j_iload_n C d_L_law_522 rfl rfl ?_
  refine j_iconst (v := 1) C d_L_law_523 (by decide) ?_
  refine j_iadd C d_L_law_524 ?_
  refine l_sld C hX hbl h1 d_L_law_525 ?_
  refine j_callV C hK hAz 0 0 (k_wordAt h.2.1 _) (jcV C mi_X_wordAt t_354 t_355 t_356 rfl rfl ⟨by decide, by decide⟩) rfl rfl hl0 rfl rfl (Nat.le_of_ble_eq_true rfl) d_L_law_526 ⟨by show cells + 0 ≤ 612407; omega, by show slots + 0 ≤ 7265026; omega⟩ ?_
  refine j_aload_n C d_L_law_529 rfl rfl ?_
  refine j_aload_n C d_L_law_530 rfl rfl ?_
  refine j_iload_n C d_L_law_531 rfl rfl ?_
  refine j_iconst (v := 1) C d_L_law_532 (by decide) ?_
  refine j_iadd C d_L_law_533 ?_
  refine l_sld C hX hbl h1 d_L_law_534 ?_
  refine j_callV C hK hAz 10 0 (m_wordAt h.2.2.1 _) (jcV C mi_M_wordAt t_572 t_573 t_574 rfl rfl ⟨by decide, by decide⟩) rfl rfl hl10 rfl rfl (Nat.le_of_ble_eq_true rfl) d_L_law_535 ⟨by show cells + 0 ≤ 612407; omega, by show slots + 0 ≤ 7265026; omega⟩ ?_
  refine j_icmp_eq C 569 d_L_law_538 rfl (fun _ => ?_) (fun q => absurd (f_wordAt h (xs (i + 1).toNatClampNeg)) q)
  exact j_widen (by omega) (by omega) (kk ad _ _ _ _ h.same hl rfl rfl)
set_option maxRecDepth 100000 in
set_option maxHeartbeats 4000000 in
theorem lc_input {p : Program} {l : Launch} {e : Env} {s : State} {m : MethodId} {below : List Frame} {meth : Method} {c : Code} {D : va_G} {E : Nat → ClassId} {b L : Nat} {xs : Nat → Int32} (C : CallFix p m c c_L_law 4 s #[Value.ref b] jT R_law) (hK : jK D jcl jY E s) (hX : va_X b L xs s s.heap) (hbl : b < s.heap.size) {lv : Nat → Nat → Prop} {n : Nat} {σ τ : sT} (h : Inv lv n σ τ) (hl : LvB lv) (hn : n < 2000000) {i : Int32} (h1 : vp_in (i + 1) L) (h2 : vp_in (i + 2) L) (h3 : vp_in (i + 3) L) {cells slots z : Nat} (hcs : cells + 2 ≤ 612407 ∧ slots + 15 ≤ 7265026) {ad : Nat → Nat → Nat} (kk : KK p l e s m below meth c D E b cells slots (ad 0 0) (ad 10 0) n i) : JL p l e s m below meth c D E b ad cells slots z lv (jv ad σ τ) 543 [some (.ref b), some (.ref (ad 0 0)), some (.ref (ad 10 0)), some (.int i)] [] := by
  have hAz : ∀ q, s.heap.size ≤ q → (fun q => s.heap.size ≤ q) q := fun q h => h
  have hl0 : lv 0 0 := h.2.1.k (by decide)
  have hl10 : lv 10 0 := h.2.2.1.k (by decide) (by decide)
  refine j_aload_n C d_L_law_543 rfl rfl ?_
  refine j_callV C hK hAz 0 0 (k_input h.2.1 _) (jcV C mi_X_input t_362 t_363 t_364 rfl rfl ⟨by decide, by decide⟩) rfl rfl hl0 rfl rfl (Nat.le_of_ble_eq_true rfl) d_L_law_544 ⟨by show cells + 0 ≤ 612407; omega, by show slots + 0 ≤ 7265026; omega⟩ ?_
  refine j_aload_n C d_L_law_547 rfl rfl ?_
  refine j_callV C hK hAz 10 0 (m_input h.2.2.1 _) (jcV C mi_M_input t_576 t_577 t_578 rfl rfl ⟨by decide, by decide⟩) rfl rfl hl10 rfl rfl (Nat.le_of_ble_eq_true rfl) d_L_law_548 ⟨by show cells + 0 ≤ 612407; omega, by show slots + 0 ≤ 7265026; omega⟩ ?_
  refine j_icmp_eq C 569 d_L_law_551 rfl (fun _ => ?_) (fun q => absurd (f_input h) q)
  exact j_widen (by omega) (by omega) (kk ad _ _ _ _ h.same hl rfl rfl)
set_option maxRecDepth 100000 in
set_option maxHeartbeats 4000000 in
theorem lc_tick {p : Program} {l : Launch} {e : Env} {s : State} {m : MethodId} {below : List Frame} {meth : Method} {c : Code} {D : va_G} {E : Nat → ClassId} {b L : Nat} {xs : Nat → Int32} (C : CallFix p m c c_L_law 4 s #[Value.ref b] jT R_law) (hK : jK D jcl jY E s) (hX : va_X b L xs s s.heap) (hbl : b < s.heap.size) {lv : Nat → Nat → Prop} {n : Nat} {σ τ : sT} (h : Inv lv n σ τ) (hl : LvB lv) (hn : n < 2000000) {i : Int32} (h1 : vp_in (i + 1) L) (h2 : vp_in (i + 2) L) (h3 : vp_in (i + 3) L) {cells slots z : Nat} (hcs : cells + 2 ≤ 612407 ∧ slots + 15 ≤ 7265026) {ad : Nat → Nat → Nat} (kk : KK p l e s m below meth c D E b cells slots (ad 0 0) (ad 10 0) n i) : JL p l e s m below meth c D E b ad cells slots z lv (jv ad σ τ) 556 [some (.ref b), some (.ref (ad 0 0)), some (.ref (ad 10 0)), some (.int i)] [] := by
  have hAz : ∀ q, s.heap.size ≤ q → (fun q => s.heap.size ≤ q) q := fun q h => h
  have hl0 : lv 0 0 := h.2.1.k (by decide)
  have hl10 : lv 10 0 := h.2.2.1.k (by decide) (by decide)
  refine j_aload_n C d_L_law_556 rfl rfl ?_
  refine j_callV C hK hAz 0 0 (k_tick h.2.1 _) (jcV C mi_X_tick t_366 t_367 t_368 rfl rfl ⟨by decide, by decide⟩) rfl rfl hl0 rfl rfl (Nat.le_of_ble_eq_true rfl) d_L_law_557 ⟨by show cells + 0 ≤ 612407; omega, by show slots + 0 ≤ 7265026; omega⟩ ?_
  refine j_aload_n C d_L_law_560 rfl rfl ?_
  refine j_callV C hK hAz 10 0 (m_tick h.2.2.1 _) (jcV C mi_M_tick t_580 t_581 t_582 rfl rfl ⟨by decide, by decide⟩) rfl rfl hl10 rfl rfl (Nat.le_of_ble_eq_true rfl) d_L_law_561 ⟨by show cells + 0 ≤ 612407; omega, by show slots + 0 ≤ 7265026; omega⟩ ?_
  refine j_icmp_eq C 569 d_L_law_564 rfl (fun _ => ?_) (fun q => absurd (f_tick h) q)
  exact j_widen (by omega) (by omega) (kk ad _ _ _ _ h.same hl rfl rfl)
