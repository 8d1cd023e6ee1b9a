theorem len4 {L : Nat} (hL : L ≤ 2048) : (Int32.ofNat L - 4).toInt = (L : Int) - 4 := by
  have e : (Int32.ofNat L).toInt = L := nI_toInt (by omega)
  rw [Int32.toInt_sub, e, show (4 : Int32).toInt = 4 from rfl]
  apply Int.bmod_eq_of_le <;> omega
set_option maxRecDepth 100000 in
set_option maxHeartbeats 4000000 in
theorem l_loop {p : Program} {l : Launch} {e : Env} {s : State} {m : MethodId} {below : List Frame} {meth : Method} {c : Code} {D : va_G} {E : Nat → ClassId} {b L : Nat} {xs : Nat → Int32} (C : CallFix p m c c_L_law 4 s #[Value.ref b] jT R_law) (hK : jK D jcl jY E s) (hX : va_X b L xs s s.heap) (hbl : b < s.heap.size) (hL : L ≤ 2048) (hr : meth.sig.returnType = ret) (hlk : meth.locks = false) : ∀ (f n : Nat) (lv : Nat → Nat → Prop) (σ τ : sT) (ad : Nat → Nat → Nat) (z : Nat) (i : Int32), n + f = 513 → i = nI (4 * n) → Inv lv n σ τ → LvB lv → JL p l e s m below meth c D E b ad (56 + 2 * n) (838 + 15 * n) z lv (jv ad σ τ) 18 [some (.ref b), some (.ref (ad 0 0)), some (.ref (ad 10 0)), some (.int i)] [] := by
  intro f
  induction f with
  | zero =>
    intro n lv σ τ ad z i hf hi h hl
    subst hi
    refine j_iload_n C d_L_law_18 rfl rfl ?_
    refine j_aload_n C d_L_law_19 rfl rfl ?_
    refine l_slen C hX hbl d_L_law_20 ?_
    refine j_iconst (v := 4) C d_L_law_21 (by decide) ?_
    refine j_isub C d_L_law_22 ?_
    refine j_icmp_gt C 575 d_L_law_23 rfl (fun _ => ?_) (fun q => absurd ?_ q)
    · refine j_iconst (v := 1) C d_L_law_575 (by decide) ?_
      exact l_end C.1 C.2.1 hr hlk (by omega) (by omega) d_L_law_576
    · rw [i32_lt, nI_toInt (by omega), len4 hL]; omega
  | succ f ih =>
    intro n lv σ τ ad z i hf hi h hl
    subst hi
    refine j_iload_n C d_L_law_18 rfl rfl ?_
    refine j_aload_n C d_L_law_19 rfl rfl ?_
    refine l_slen C hX hbl d_L_law_20 ?_
    refine j_iconst (v := 4) C d_L_law_21 (by decide) ?_
    refine j_isub C d_L_law_22 ?_
    refine j_icmp_gt C 575 d_L_law_23 rfl (fun _ => ?_) (fun q => ?_)
    · refine j_iconst (v := 1) C d_L_law_575 (by decide) ?_
      exact l_end C.1 C.2.1 hr hlk (by omega) (by omega) d_L_law_576
    · rw [i32_lt, nI_toInt (by omega), len4 hL] at q
      have hlt : 4 * n + 4 ≤ L := by omega
      have v0 : vp_in (nI (4 * n)) L := by rw [vp_in_iff, nI_toInt (by omega)]; omega
      have v1 : vp_in (nI (4 * n) + 1) L := by rw [show (1 : Int32) = nI 1 from rfl, nI_add, vp_in_iff, nI_toInt (by omega)]; omega
      have v2 : vp_in (nI (4 * n) + 2) L := by rw [show (2 : Int32) = nI 2 from rfl, nI_add, vp_in_iff, nI_toInt (by omega)]; omega
      have v3 : vp_in (nI (4 * n) + 3) L := by rw [show (3 : Int32) = nI 3 from rfl, nI_add, vp_in_iff, nI_toInt (by omega)]; omega
      have hcs : 56 + 2 * n + 2 ≤ 612407 ∧ 838 + 15 * n + 15 ≤ 7265026 := by omega
      have kk : KK p l e s m below meth c D E b (56 + 2 * n) (838 + 15 * n) (ad 0 0) (ad 10 0) n (nI (4 * n)) := by
        intro ad' lv' σ' τ' z' h' hl' e0 e10
        refine j_iinc C d_L_law_569 rfl (by decide) ?_
        refine j_goto C 18 d_L_law_572 rfl ?_
        have hi := ih (n + 1) lv' σ' τ' ad' z' (nI (4 * n) + Int32.ofInt 4) (by omega) (by rw [show Int32.ofInt 4 = nI 4 from rfl, nI_add]; rfl) h' hl'
        rw [e0, e10] at hi
        exact hi
      refine j_aload_n C d_L_law_26 rfl rfl ?_
      refine j_iload_n C d_L_law_27 rfl rfl ?_
      refine l_sld C hX hbl v0 d_L_law_28 ?_
      refine j_bipush (v := 31) C d_L_law_29 (by decide) ?_
      refine j_iand C d_L_law_31 ?_
      generalize xs (nI (4 * n)).toNatClampNeg &&& 31 = x
      by_cases hx : x.toInt < 0 ∨ 19 < x.toInt
      · exact l_tabO C d_L_law_32 hx (tgt := 569) rfl (j_widen (by omega) (by omega) (kk ad _ _ _ _ h.same hl rfl rfl))
      · have hd : x.toInt = 0 ∨ x.toInt = 1 ∨ x.toInt = 2 ∨ x.toInt = 3 ∨ x.toInt = 4 ∨ x.toInt = 5 ∨ x.toInt = 6 ∨ x.toInt = 7 ∨ x.toInt = 8 ∨ x.toInt = 9 ∨ x.toInt = 10 ∨ x.toInt = 11 ∨ x.toInt = 12 ∨ x.toInt = 13 ∨ x.toInt = 14 ∨ x.toInt = 15 ∨ x.toInt = 16 ∨ x.toInt = 17 ∨ x.toInt = 18 ∨ x.toInt = 19 := by omega
        rcases hd with q | q | q | q | q | q | q | q | q | q | q | q | q | q | q | q | q | q | q | q
        · exact l_tabI C d_L_law_32 (off := 96) (tgt := 128) (by omega) (by omega) (by rw [q]; rfl) rfl (lc_make C hK hX hbl h hl (by omega) v1 v2 v3 hcs kk)
        · exact l_tabI C d_L_law_32 (off := 129) (tgt := 161) (by omega) (by omega) (by rw [q]; rfl) rfl (lc_plan C hK hX hbl h hl (by omega) v1 v2 v3 hcs kk)
        · exact l_tabI C d_L_law_32 (off := 172) (tgt := 204) (by omega) (by omega) (by rw [q]; rfl) rfl (lc_wake C hK hX hbl h hl (by omega) v1 v2 v3 hcs kk)
        · exact l_tabI C d_L_law_32 (off := 195) (tgt := 227) (by omega) (by omega) (by rw [q]; rfl) rfl (lc_suspend C hK hX hbl h hl (by omega) v1 v2 v3 hcs kk)
        · exact l_tabI C d_L_law_32 (off := 208) (tgt := 240) (by omega) (by omega) (by rw [q]; rfl) rfl (lc_signal C hK hX hbl h hl (by omega) v1 v2 v3 hcs kk)
        · exact l_tabI C d_L_law_32 (off := 231) (tgt := 263) (by omega) (by omega) (by rw [q]; rfl) rfl (lc_listen C hK hX hbl h hl (by omega) v1 v2 v3 hcs kk)
        · exact l_tabI C d_L_law_32 (off := 254) (tgt := 286) (by omega) (by omega) (by rw [q]; rfl) rfl (lc_alarm C hK hX hbl h hl (by omega) v1 v2 v3 hcs kk)
        · exact l_tabI C d_L_law_32 (off := 287) (tgt := 319) (by omega) (by omega) (by rw [q]; rfl) rfl (lc_word C hK hX hbl h hl (by omega) v1 v2 v3 hcs kk)
        · exact l_tabI C d_L_law_32 (off := 310) (tgt := 342) (by omega) (by omega) (by rw [q]; rfl) rfl (lc_run C hK hX hbl h hl (by omega) v1 v2 v3 hcs kk)
        · exact l_tabI C d_L_law_32 (off := 333) (tgt := 365) (by omega) (by omega) (by rw [q]; rfl) rfl (lc_active C hK hX hbl h hl (by omega) v1 v2 v3 hcs kk)
        · exact l_tabI C d_L_law_32 (off := 346) (tgt := 378) (by omega) (by omega) (by rw [q]; rfl) rfl (lc_present C hK hX hbl h hl (by omega) v1 v2 v3 hcs kk)
        · exact l_tabI C d_L_law_32 (off := 359) (tgt := 391) (by omega) (by omega) (by rw [q]; rfl) rfl (lc_clock C hK hX hbl h hl (by omega) v1 v2 v3 hcs kk)
        · exact l_tabI C d_L_law_32 (off := 372) (tgt := 404) (by omega) (by omega) (by rw [q]; rfl) rfl (lc_codes C hK hX hbl h hl (by omega) v1 v2 v3 hcs kk)
        · exact l_tabI C d_L_law_32 (off := 386) (tgt := 418) (by omega) (by omega) (by rw [q]; rfl) rfl (lc_done C hK hX hbl h hl (by omega) v1 v2 v3 hcs kk)
        · exact l_tabI C d_L_law_32 (off := 409) (tgt := 441) (by omega) (by omega) (by rw [q]; rfl) rfl (lc_row C hK hX hbl h hl (by omega) v1 v2 v3 hcs kk)
        · exact l_tabI C d_L_law_32 (off := 432) (tgt := 464) (by omega) (by omega) (by rw [q]; rfl) rfl (lc_at C hK hX hbl h hl (by omega) v1 v2 v3 hcs kk)
        · exact l_tabI C d_L_law_32 (off := 465) (tgt := 497) (by omega) (by omega) (by rw [q]; rfl) rfl (lc_extra C hK hX hbl h hl (by omega) v1 v2 v3 hcs kk)
        · exact l_tabI C d_L_law_32 (off := 488) (tgt := 520) (by omega) (by omega) (by rw [q]; rfl) rfl (lc_wordAt C hK hX hbl h hl (by omega) v1 v2 v3 hcs kk)
        · exact l_tabI C d_L_law_32 (off := 511) (tgt := 543) (by omega) (by omega) (by rw [q]; rfl) rfl (lc_input C hK hX hbl h hl (by omega) v1 v2 v3 hcs kk)
        · exact l_tabI C d_L_law_32 (off := 524) (tgt := 556) (by omega) (by omega) (by rw [q]; rfl) rfl (lc_tick C hK hX hbl h hl (by omega) v1 v2 v3 hcs kk)
theorem whole_start {p : Program} {e : Env} {s : State} {m : MethodId} {below : List Frame} {meth : Method} {c : Code} (l : Launch) {b L : Nat} {xs : Nat → Int32} (hL : L ≤ 2048) (C0 : lw_At p s m meth c b L xs) : W p l e room_1 s m #[Value.ref b] below meth c s.heap [] 0 0 (lw_Z below #[Value.ref b] s) (entryFrame m ([Value.ref b] : List Value).toArray 4) := by
  obtain ⟨hx, hb, hr, hml, hown, hts, hX, hbl, hlk, -⟩ := C0
  obtain ⟨D, E, hK⟩ := jk_0 hts
  have C : CallFix p m c c_L_law 4 s #[Value.ref b] jT R_law := ⟨hx, hb, hml, hown, fun w hw => hts w (jT_tbl hw)⟩
  have hex : EXX s := ⟨va_AO.of (hts _ t_47), va_AO.of (hts _ t_49), va_AO.of (hts _ t_51), va_Nw.of rfl (hts _ t_54)⟩
  have hJ := l_start (l := l) (e := e) (below := below) (meth := meth) C hK hex (l_loop (l := l) (e := e) (below := below) (meth := meth) C hK hX hbl hL hr hlk 513 0 lv0 σz τz (ad0 s.heap.size) (s.heap.size + 56) 0 rfl rfl (inv_0 (fun k hk => Or.inl ⟨by omega, rfl⟩) (fun r hr => Or.inr (Or.inl ⟨rfl, hr⟩)) (fun q hq => Or.inr (Or.inr (Or.inl ⟨rfl, hq⟩))) (fun k h1 h2 => Or.inr (Or.inr (Or.inr ⟨h1, h2, rfl⟩))) (fun x => ⟨by unfold lv0; omega, by unfold lv0; omega⟩)) (fun k i h => by unfold lv0 at h; omega))
  rw [lg_entry_eq]
  exact hJ s.heap [] _ rfl ⟨fun k i h => h.elim, fun k i k' i' h => h.elim⟩ va_S.rf (jh_entry [Value.ref b] (Nat.le_of_ble_eq_true rfl) (by intro v hv; simp only [List.mem_cons, List.not_mem_nil, or_false] at hv; rcases hv with rfl; rfl))
