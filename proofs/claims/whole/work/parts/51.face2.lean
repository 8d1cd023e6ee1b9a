theorem nw_behind (τ : sT) : (mf_behind τ).1 10 0 13 = 0 := by
  have h1 : ∀ τ, (mf_p15 τ).1 10 0 13 = 0 := by
    intro τ
    have a1 : (mf_p2 τ).1 10 0 13 = 0 := sI_eq
    have a2 : (mf_p3 (mf_p2 τ)).1 10 0 13 = 0 := by rw [(p3_frp _).1 10 0 13 (by omega) (by omega)]; exact a1
    have a3 : (mf_p4 (mf_p3 (mf_p2 τ))).1 10 0 13 = 0 := by
      rw [← a2]
      exact (frm_sl _ _ _).1 10 0 13 (by omega) (by omega) (by omega)
    unfold mf_p15
    generalize mf_p4 (mf_p3 (mf_p2 τ)) = z at a3 ⊢
    unfold mf_p5
    split
    · exact a3
    · rw [sI_ne (by omega), sI_ne (by omega)]; exact a3
  have h2 : ∀ τ, (mf_p6 τ).1 10 0 13 = τ.1 10 0 13 := fun τ => sI_ne (by omega)
  unfold mf_behind
  split
  · rw [h2]; exact h1 _
  · rw [h2]; exact h1 _
theorem nw_loop : ∀ (n : Nat) (τ : sT), τ.1 10 0 13 = 0 → (mf_loop n τ).2.1 10 0 13 = 0
  | 0, τ, h => h
  | n + 1, τ, h => by
    unfold mf_loop
    split
    · exact h
    · exact nw_loop n _ (nw_behind _)
theorem nw_run (m : Nat) (τ : sT) : (mf_loop (m + 1) (d_run0 τ)).2.1 10 0 13 = 0 := by
  by_cases q : 0 ≤ τ.1 10 0 8
  · have e : d_run0 τ = τ := if_pos q
    rw [e]
    unfold mf_loop
    rw [if_neg (show ¬ τ.1 10 0 8 < 0 by rw [i32_le] at q; rw [i32_lt]; omega)]
    exact nw_loop m _ (nw_behind _)
  · have e : d_run0 τ = mf_behind τ := if_neg q
    rw [e]
    exact nw_loop _ _ (nw_behind _)
theorem f_run {lv : Nat → Nat → Prop} {c : Nat} {σ τ : sT} (h : Inv lv c σ τ) (hc : c < 2000000) (n : Int32) : (c_run σ n).1 = (d_run τ n).1 ∧ Inv lv (c + 1) (c_run σ n).2 (d_run τ n).2 := by
  obtain ⟨L, hs⟩ := h.1
  unfold c_run d_run
  by_cases q0 : n < 1
  · rw [if_pos q0, if_pos q0]; exact ⟨rfl, h.same⟩
  · rw [if_neg q0, if_neg q0]
    by_cases q1 : n ≤ 1000
    · rw [if_pos q1, if_pos q1]
      have hr : (∃ L', Sim L' (131130 * c + 130) (c_run0 σ) (d_run0 τ)) ∧ GO σ (c_run0 σ) lv ∧ OKm (d_run0 τ) lv (1000 * c : Nat) := by
        have h8 := hs.1.1.2.2.2.2.1.1
        unfold c_run0 d_run0
        rw [h8]
        cases ha : σ.2.1 0 0 4 with
        | none =>
          rw [if_neg num_nle]
          exact ⟨st_behind h.2.1 h.2.2.1 hs (by omega), go_behind h.2.1, okm_behind h.2.2.1⟩
        | some x =>
          rw [if_pos (num_le (h.2.1.ac ha).1)]
          exact ⟨⟨L, hs.mono (by omega)⟩, GO.rf h.2.1, h.2.2.1⟩
      obtain ⟨⟨L1, s1⟩, g1, m1⟩ := hr
      have hn : ¬ n < 0 := by rw [i32_lt, show (1 : Int32).toInt = 1 from rfl] at q0; rw [i32_lt, i32_0]; omega
      obtain ⟨m, hm, e⟩ := nI_of hn
      have em : n.toNatClampNeg = m := by rw [e]; exact nI_clamp hm
      have hm1 : 1 ≤ m ∧ m ≤ 1000 := by
        rw [e, i32_lt, nI_toInt hm, show (1 : Int32).toInt = 1 from rfl] at q0
        rw [e, i32_le, nI_toInt hm, show (1000 : Int32).toInt = 1000 from rfl] at q1
        omega
      rw [em]
      obtain ⟨b1, ⟨L2, b2⟩, b3⟩ := st_loop m g1.1 m1 (by omega) s1 (by omega)
      refine ⟨by rw [b1], h.go b2 (by omega) (g1.tr (go_loop m g1.1)) b3 (by omega) ?_⟩
      obtain ⟨k, rfl⟩ : ∃ k, m = k + 1 := ⟨m - 1, by omega⟩
      rw [nw_run]
      exact b3.2.2.2.2.2.1.1
    · rw [if_neg q1, if_neg q1]; exact ⟨rfl, h.same⟩
theorem f_active {lv : Nat → Nat → Prop} {c : Nat} {σ τ : sT} (h : Inv lv c σ τ) : cf_num (σ.2.1 0 0 4) = τ.1 10 0 8 := by
  obtain ⟨L, hs⟩ := h.1
  exact hs.1.1.2.2.2.2.1.1.symm
theorem f_present {lv : Nat → Nat → Prop} {c : Nat} {σ τ : sT} (h : Inv lv c σ τ) : cf_num (cf_pres σ) = mf_pres τ := by
  obtain ⟨L, hs⟩ := h.1
  exact (pres_eq hs.1.1 hs.1.2.2.1).symm
theorem f_clock {lv : Nat → Nat → Prop} {c : Nat} {σ τ : sT} (h : Inv lv c σ τ) : σ.1 0 0 7 = τ.1 10 0 17 := by
  obtain ⟨L, hs⟩ := h.1
  exact hs.1.1.2.2.2.2.1.2.2.2.1.symm
theorem f_codes {lv : Nat → Nat → Prop} {c : Nat} {σ τ : sT} (h : Inv lv c σ τ) : σ.2.2 0 0 8 = τ.2.2 10 0 18 := by
  obtain ⟨L, hs⟩ := h.1
  exact hs.1.1.2.2.2.2.1.2.2.2.2.symm
theorem f_done {lv : Nat → Nat → Prop} {c : Nat} {σ τ : sT} (h : Inv lv c σ τ) (p : Int32) : c_done σ p = d_done τ p := by
  obtain ⟨L, hs⟩ := h.1
  unfold c_done d_done
  cases hp : cf_pn σ p with
  | none => rw [if_neg (pn_none hs hp)]
  | some x =>
    obtain ⟨hm, e, ex, hx⟩ := pn_some h.2.1 hs hp
    rw [if_pos hm, ex, (hs.1.1.2.2.2.1 x hx.1).1 hx]
theorem f_row {lv : Nat → Nat → Prop} {c : Nat} {σ τ : sT} (h : Inv lv c σ τ) (p : Int32) : c_row σ p = d_row τ p := by
  obtain ⟨L, hs⟩ := h.1
  unfold c_row d_row
  cases hp : cf_pn σ p with
  | none => rw [if_neg (pn_none hs hp)]
  | some x =>
    obtain ⟨hm, e, ex, hx⟩ := pn_some h.2.1 hs hp
    rw [if_pos hm, ex, hs.1.2.2.2.1.1 x hx]
theorem f_extra {lv : Nat → Nat → Prop} {c : Nat} {σ τ : sT} (h : Inv lv c σ τ) (s : Int32) : c_extra σ s = d_extra τ s := by
  obtain ⟨L, hs⟩ := h.1
  unfold c_extra d_extra
  by_cases q : isS s
  · rw [if_pos q, if_pos q, hs.1.2.1 _ (isS_lt q)]
  · rw [if_neg q, if_neg q]
theorem f_wordAt {lv : Nat → Nat → Prop} {c : Nat} {σ τ : sT} (h : Inv lv c σ τ) (i : Int32) : cf_wordAt σ i = d_wordAt τ i := by
  obtain ⟨L, hs⟩ := h.1
  obtain ⟨hc1, hc2, b, k, h12, h13, h14, h15, h16⟩ := hs.1.1.2.2.2.2.2
  unfold cf_wordAt d_wordAt
  by_cases q0 : i < 0
  · rw [if_pos q0, if_neg]
    rintro ⟨z, -⟩
    rw [i32_le] at z
    rw [i32_lt] at q0
    omega
  · rw [if_neg q0, hc1]
    by_cases q1 : σ.1 4 0 2 ≤ i
    · rw [if_pos q1, if_neg]
      rintro ⟨-, z⟩
      rw [i32_lt] at z
      rw [i32_le] at q1
      omega
    · have z : 0 ≤ i ∧ i < σ.1 4 0 2 := by
        rw [i32_lt] at q0
        rw [i32_le] at q1
        rw [i32_le, i32_lt]
        omega
      rw [if_neg q1, if_pos z]
      obtain ⟨j, hj, e⟩ := nI_of q0
      have hjk : j < k := by
        have := z.2
        rw [h14, e, i32_lt, nI_toInt hj, nI_toInt (by omega)] at this
        omega
      have ej : i.toNatClampNeg = j := by rw [e]; exact nI_clamp hj
      have epl : (cf_place σ i).toNatClampNeg = (b + j) % 64 := by
        unfold cf_place
        rw [h12, e, nI_add, show (64 : Int32) = nI 64 from rfl, fmod_nat (by omega) (by omega) (by omega)]
        exact nI_clamp (by omega)
      rw [epl, ej, h16 j hjk]
theorem f_input {lv : Nat → Nat → Prop} {c : Nat} {σ τ : sT} (h : Inv lv c σ τ) : cf_num (σ.2.1 0 0 9) = τ.1 10 0 14 := by
  obtain ⟨L, hs⟩ := h.1
  exact hs.1.1.2.2.2.2.1.2.1.symm
theorem f_tick {lv : Nat → Nat → Prop} {c : Nat} {σ τ : sT} (h : Inv lv c σ τ) : c_tick σ = d_tick τ := by
  obtain ⟨L, hs⟩ := h.1
  have ha : τ.1 10 0 15 = cf_num (σ.2.1 0 0 10) := hs.2.1
  unfold c_tick d_tick
  rw [ha, hs.1.1.2.2.2.2.1.2.2.1]
  cases hp : σ.2.1 0 0 10 with
  | none => rw [if_pos num_none]
  | some x =>
    have hx := h.2.1.al hp
    rw [if_neg (num_some (by omega))]
theorem at_eq {L : Nat → List Nat} {n : Nat} {σ τ : sT} (h : RB L n σ τ) {r : Nat} (hr : r < 24) (i : Int32) : cf_num (c_pAt σ r i) = if 0 ≤ i then mf_at1 τ (rno r) i 32 0 else -1 := by
  unfold c_pAt
  by_cases q : 0 ≤ i
  · rw [if_neg (show ¬ i < 0 by rw [i32_le] at q; rw [i32_lt]; omega), if_pos q]
    obtain ⟨a1, a2, a3, a4⟩ := h.2.2.2.1.2.1 r hr
    have hi := h.inR hr
    obtain ⟨j, hj, e⟩ := nI_of (x := i) (by rw [i32_le] at q; rw [i32_lt]; omega)
    have ej : i.toNatClampNeg = j := by rw [e]; exact nI_clamp hj
    have hl := nd_len (h.2.2.2.1.nd hr) (fun x hx => (a3 x hx).1.1)
    by_cases q2 : i < 32
    · rw [if_pos q2, ej, a1.1, lk_walk a2]
      by_cases z : j < (L r).length
      · rw [List.getElem?_eq_getElem z, e, at1_yes hi z hl 32 0 rfl (Nat.zero_le _)]
        rfl
      · rw [List.getElem?_eq_none (by omega), e, at1_no hi (by omega) hj hl 32 0 rfl]
        rfl
    · have hj32 : 32 ≤ j := by
        rw [i32_lt, i32_32, e, nI_toInt hj] at q2
        omega
      rw [if_neg q2, e, at1_no hi (by omega) hj hl 32 0 rfl]
      rfl
  · rw [if_pos (show i < 0 by rw [i32_le] at q; rw [i32_lt]; omega), if_neg q]; rfl
theorem f_at {lv : Nat → Nat → Prop} {c : Nat} {σ τ : sT} (h : Inv lv c σ τ) (r i : Int32) : c_at σ r i = d_at τ r i := by
  obtain ⟨L, hs⟩ := h.1
  unfold c_at d_at
  by_cases q : ¬ r < 1 ∧ ¬ 8 < r
  · rw [if_pos q, if_pos (show isRw r from Or.inl ⟨q.1, by have := q.2; rw [i32_lt] at this; rw [i32_le]; omega⟩)]
    obtain ⟨q1, q2⟩ := q
    rw [i32_lt, show (1 : Int32).toInt = 1 from rfl] at q1
    rw [i32_lt, i32_8] at q2
    have es := i32_dec (x := r) (by omega)
    have hx8 : (r - 1).toNatClampNeg < 8 := by rw [toN, es]; omega
    have er : rno (r - 1).toNatClampNeg = r := by
      rw [← rno_lev hx8, toN, es, show (r.toInt - 1).toNat + 1 = r.toInt.toNat by omega]
      exact Int32.toInt_inj.mp (by rw [nI_toInt (by omega)]; omega)
    rw [at_eq hs.1 (by omega), er]
  · rw [if_neg q]
    have hiff := rng_iff (a := r) (lo := 16) (hi := 32) (c := 16) rfl rfl (by omega)
    by_cases q2 : isS (r - 16)
    · have z := hiff.mp q2
      rw [if_pos q2, if_pos (show isRw r from Or.inr ⟨z.1, by have := z.2; rw [i32_le, i32_32] at this; rw [i32_lt, show (31 : Int32).toInt = 31 from rfl]; omega⟩)]
      have er : rno (8 + (r - 16).toNatClampNeg) = r := by
        rw [← rno_sem, ← isS_nI q2]
        exact Int32.toInt_inj.mp (by
          rw [Int32.toInt_add, Int32.toInt_sub, i32_16]
          have h1 := Int32.toInt_lt r
          have h2 := z.1
          rw [i32_lt, i32_16] at h2
          have e1 : (r.toInt - 16).bmod (2 ^ 32) = r.toInt - 16 := by apply Int.bmod_eq_of_le <;> omega
          rw [e1, show 16 + (r.toInt - 16) = r.toInt by omega]
          apply Int.bmod_eq_of_le <;> omega)
      rw [at_eq hs.1 (by have := isS_lt q2; omega), er]
    · rw [if_neg q2, if_neg]
      rintro (z | z)
      · exact q ⟨z.1, by have := z.2; rw [i32_le] at this; rw [i32_lt]; omega⟩
      · exact q2 (hiff.mpr ⟨z.1, by have := z.2; rw [i32_lt, show (31 : Int32).toInt = 31 from rfl] at this; rw [i32_le, i32_32]; omega⟩)
