theorem come_I (τ : sT) (p R : Int32) (k i j : Nat) : (mf_come τ p R).1 k i j = if k = 15 ∧ i = 0 ∧ j = p.toNatClampNeg then R else τ.1 k i j := rfl
theorem come_L (τ : sT) (p R : Int32) (k i j : Nat) : (mf_come τ p R).2.2 k i j = if k = 10 ∧ i = 0 ∧ j = 6 then τ.2.2 10 0 6 + 1 else if k = 16 ∧ i = 0 ∧ j = p.toNatClampNeg then τ.2.2 10 0 6 else τ.2.2 k i j := by
  simp [mf_come, sI, sL]
theorem Mk_app {σ : sT} {r x y : Nat} : Mk (cf_app σ r x) y ↔ Mk σ y := by
  unfold Mk
  cases h : σ.2.1 6 r 2 with
  | none => rw [app_P0 h]; simp
  | some q => rw [app_P1 h]; simp
theorem Mk_take {σ : sT} {r y : Nat} : Mk (cf_take σ r).2 y ↔ Mk σ y := by
  unfold Mk
  cases h : σ.2.1 6 r 1 with
  | none => rw [take_0 h]
  | some x => rw [take_P h]; simp
theorem rel_app {L : Nat → List Nat} {n : Nat} {σ τ : sT} (h : RelR L n σ τ) (hn : n < 2 ^ 60) {r x : Nat} (hr : r < 24) (hx : Mk σ x) (h0 : σ.1 8 x 5 = 0) : RelR (updR L r (L r ++ [x])) (n + 1) (cf_app σ r x) (mf_come τ (nI x) (rno r)) := by
  have hx32 := hx.1
  have ecl : (nI x).toNatClampNeg = x := nI_clamp (by omega)
  have hni : ∀ q, q < 24 → x ∉ L q := fun q hq => h.notin hq h0
  have hb : σ.2.1 8 x 6 = none := by
    rcases h.2.2.1 x hx with q | ⟨q, hq, hm⟩
    · exact q.2
    · exact absurd hm (hni q hq)
  obtain ⟨h1, h2, h3, t, ht, ht2, ht3⟩ := id h
  have hI : ∀ y, (cf_app σ r x).1 8 y 5 = if y = x then rno r else σ.1 8 y 5 := by
    intro y
    rw [app_I]
    by_cases e : y = x
    · rw [if_pos ⟨rfl, e, rfl⟩, if_pos e]
    · rw [if_neg (fun q => e q.2.1), if_neg e]
  have hL : ∀ y, (mf_come τ (nI x) (rno r)).2.2 16 0 y = if y = x then lN t else τ.2.2 16 0 y := by
    intro y
    rw [come_L, ecl, ht2]
    by_cases e : y = x
    · rw [if_neg (by omega), if_pos ⟨rfl, rfl, e⟩, if_pos e]
    · rw [if_neg (by omega), if_neg (fun q => e q.2.2), if_neg e]
  have hLn : ∀ y, y ≠ x → (mf_come τ (nI x) (rno r)).2.2 16 0 y = τ.2.2 16 0 y := fun y e => by rw [hL, if_neg e]
  -- what is behind whom, and the ends of the rows
  have hB : ∀ y, (L r).getLast? ≠ some y → (cf_app σ r x).2.1 8 y 6 = σ.2.1 8 y 6 := by
    intro y hy
    cases hl : σ.2.1 6 r 2 with
    | none => rw [app_P0 hl]; simp
    | some q =>
      rw [app_P1 hl]
      have : y ≠ q := by
        rintro rfl
        exact hy ((h2 r hr).1.2.symm.trans hl)
      simp [this]
  have hBx : (cf_app σ r x).2.1 8 x 6 = none := by
    rw [hB x (fun q => hni r hr (List.mem_of_getLast? q)), hb]
  have hE : ∀ q, q ≠ r → (cf_app σ r x).2.1 6 q 1 = σ.2.1 6 q 1 ∧ (cf_app σ r x).2.1 6 q 2 = σ.2.1 6 q 2 := by
    intro q hq
    cases hl : σ.2.1 6 r 2 with
    | none => rw [app_P0 hl, app_P0 hl]; simp [hq]
    | some z => rw [app_P1 hl, app_P1 hl]; simp [hq]
  refine ⟨fun y hy => ?_, fun q hq => ?_, fun y hy => ?_, t + 1, by omega, ?_, fun q hq y hy => ?_⟩
  · rw [hI, come_I, ecl]
    by_cases e : y = x
    · rw [if_pos ⟨rfl, rfl, e⟩, if_pos e]
    · rw [if_neg (fun z => e z.2.2), if_neg e]
      exact h1 y (Mk_app.mp hy)
  · by_cases e : q = r
    · subst e
      rw [updR_s]
      obtain ⟨⟨a1, a2⟩, a3, a4, a5⟩ := h2 q hq
      refine ⟨?_, ?_, fun y hy => ?_, ?_⟩
      · cases hl : σ.2.1 6 q 2 with
        | none =>
          have e0 : L q = [] := List.getLast?_eq_none_iff.mp (a2.symm.trans hl)
          rw [app_P0 hl, app_P0 hl, e0]
          simp
        | some z =>
          rw [app_P1 hl, app_P1 hl]
          have e0 : L q ≠ [] := by
            intro z0
            rw [a2, z0] at hl
            cases hl
          refine ⟨?_, ?_⟩
          · simp only [List.head?_append]
            rw [a1]
            cases hz : L q with
            | nil => exact absurd hz e0
            | cons w ws => simp
          · simp
      · cases hl : σ.2.1 6 q 2 with
        | none =>
          have e0 : L q = [] := List.getLast?_eq_none_iff.mp (a2.symm.trans hl)
          rw [e0]
          exact ⟨hBx, trivial⟩
        | some z =>
          refine lk_app (σ := σ) (q := z) (x := x) ?_ hBx (fun y _ hyz => hB y (by rw [← a2, hl]; intro w; exact hyz (Option.some.inj w).symm)) (h.nd hq) (a2.symm.trans hl) a3
          rw [app_P1 hl]; simp
      · rcases List.mem_append.mp hy with hy | hy
        · refine ⟨Mk_app.mpr (a4 y hy).1, ?_⟩
          rw [hI]
          split
          · rfl
          · exact (a4 y hy).2
        · have e : y = x := by simpa using hy
          subst e
          exact ⟨Mk_app.mpr hx, by rw [hI, if_pos rfl]⟩
      · rw [List.pairwise_append]
        refine ⟨?_, List.pairwise_singleton _ _, fun y hy z hz => ?_⟩
        · refine a5.imp_of_mem (fun {u v} hu hv huv => ?_)
          rw [hLn u (fun e => hni q hq (e ▸ hu)), hLn v (fun e => hni q hq (e ▸ hv))]
          exact huv
        · have e : z = x := by simpa using hz
          subst e
          rw [hLn y (fun e => hni q hq (e ▸ hy)), hL, if_pos rfl, pk_lT (by omega)]
          exact ht3 q hq y hy
    · rw [updR_n e]
      obtain ⟨⟨a1, a2⟩, a3, a4, a5⟩ := h2 q hq
      refine ⟨⟨by rw [(hE q e).1]; exact a1, by rw [(hE q e).2]; exact a2⟩, lk_congr (fun y hy => hB y (fun z => e (h.in_one hq hr hy (List.mem_of_getLast? z)))) a3, fun y hy => ⟨Mk_app.mpr (a4 y hy).1, ?_⟩, ?_⟩
      · rw [hI, if_neg (show ¬ y = x from fun z => hni q hq (z ▸ hy))]
        exact (a4 y hy).2
      · refine a5.imp_of_mem (fun {u v} hu hv huv => ?_)
        rw [hLn u (fun e => hni q hq (e ▸ hu)), hLn v (fun e => hni q hq (e ▸ hv))]
        exact huv
  · by_cases e : y = x
    · subst e
      exact Or.inr ⟨r, hr, by rw [updR_s]; simp⟩
    · rcases h3 y (Mk_app.mp hy) with ⟨q1, q2⟩ | ⟨q, hq, hm⟩
      · refine Or.inl ⟨by rw [hI, if_neg e]; exact q1, ?_⟩
        rw [hB y (fun z => h.notin hr q1 (List.mem_of_getLast? z))]
        exact q2
      · refine Or.inr ⟨q, hq, ?_⟩
        by_cases e2 : q = r
        · subst e2; rw [updR_s]; exact List.mem_append_left _ hm
        · rw [updR_n e2]; exact hm
  · rw [come_L, if_pos ⟨rfl, rfl, rfl⟩, ht2, lN_1]
  · have : y = x ∨ (y ≠ x ∧ y ∈ L q) := by
      by_cases e2 : q = r
      · subst e2
        rw [updR_s] at hy
        rcases List.mem_append.mp hy with hy | hy
        · exact Or.inr ⟨fun z => hni q hq (z ▸ hy), hy⟩
        · exact Or.inl (by simpa using hy)
      · rw [updR_n e2] at hy
        exact Or.inr ⟨fun z => hni q hq (z ▸ hy), hy⟩
    rcases this with rfl | ⟨e, hm⟩
    · rw [hL, if_pos rfl, pk_lT (by omega)]
      omega
    · rw [hLn y e]
      have := ht3 q hq y hm
      omega
theorem rel_take {L : Nat → List Nat} {n : Nat} {σ τ : sT} (h : RelR L n σ τ) {r x : Nat} {t : List Nat} (hr : r < 24) (hl : L r = x :: t) : RelR (updR L r t) n (cf_take σ r).2 (sI τ 15 0 x 0) := by
  obtain ⟨h1, h2, h3, hh, ht, ht2, ht3⟩ := id h
  obtain ⟨⟨b1, b2⟩, b3, b4, b5⟩ := h2 r hr
  rw [hl] at b1 b2 b3 b4 b5
  have hf : σ.2.1 6 r 1 = some x := b1
  have hnd := h.nd hr
  rw [hl] at hnd
  have hxt : x ∉ t := (List.nodup_cons.mp hnd).1
  have hxr : x ∈ L r := by rw [hl]; exact List.mem_cons_self
  have hbx : σ.2.1 8 x 6 = t.head? := b3.1
  have hI : ∀ y, (cf_take σ r).2.1 8 y 5 = if y = x then 0 else σ.1 8 y 5 := by
    intro y
    rw [take_I hf]
    by_cases e : y = x
    · rw [if_pos ⟨rfl, e, rfl⟩, if_pos e]
    · rw [if_neg (fun q => e q.2.1), if_neg e]
  have hB : ∀ y, y ≠ x → (cf_take σ r).2.2.1 8 y 6 = σ.2.1 8 y 6 := by
    intro y hy
    rw [take_P hf]
    simp [hy]
  have hT : ∀ q, q < 24 → ∀ y ∈ updR L r t q, y ≠ x ∧ y ∈ L q := by
    intro q hq y hy
    by_cases e : q = r
    · subst e
      rw [updR_s] at hy
      exact ⟨fun z => hxt (z ▸ hy), by rw [hl]; exact List.mem_cons_of_mem _ hy⟩
    · rw [updR_n e] at hy
      exact ⟨fun z => e (h.in_one hq hr (z ▸ hy) hxr), hy⟩
  refine ⟨fun y hy => ?_, fun q hq => ?_, fun y hy => ?_, hh, ht, ht2, fun q hq y hy => ?_⟩
  · rw [hI]
    by_cases e : y = x
    · rw [if_pos e]; simp [sI, e]
    · rw [if_neg e]
      have e2 : (sI τ 15 0 x 0).1 15 0 y = τ.1 15 0 y := by simp [sI, e]
      rw [e2]
      exact h1 y (Mk_take.mp hy)
  · by_cases e : q = r
    · subst e
      rw [updR_s]
      refine ⟨⟨?_, ?_⟩, lk_congr (fun y hy => hB y (fun z => hxt (z ▸ hy))) b3.2, fun y hy => ⟨Mk_take.mpr (b4 y (List.mem_cons_of_mem _ hy)).1, ?_⟩, (List.pairwise_cons.mp b5).2⟩
      · rw [take_P hf, ← hbx]
        simp
      · rw [take_P hf, hbx, b2]
        cases t with
        | nil => simp
        | cons z zs => simp
      · rw [hI, if_neg (show ¬ y = x from fun z => hxt (z ▸ hy))]
        exact (b4 y (List.mem_cons_of_mem _ hy)).2
    · rw [updR_n e]
      obtain ⟨⟨a1, a2⟩, a3, a4, a5⟩ := h2 q hq
      have hne : ∀ y ∈ L q, y ≠ x := fun y hy z => e (h.in_one hq hr (z ▸ hy) hxr)
      refine ⟨⟨?_, ?_⟩, lk_congr (fun y hy => hB y (hne y hy)) a3, fun y hy => ⟨Mk_take.mpr (a4 y hy).1, ?_⟩, a5⟩
      · rw [take_P hf, ← a1]; simp [e]
      · rw [take_P hf, ← a2]; simp [e]
      · rw [hI, if_neg (hne y hy)]
        exact (a4 y hy).2
  · by_cases e : y = x
    · subst e
      refine Or.inl ⟨by rw [hI, if_pos rfl], ?_⟩
      rw [take_P hf]; simp
    · rcases h3 y (Mk_take.mp hy) with ⟨q1, q2⟩ | ⟨q, hq, hm⟩
      · exact Or.inl ⟨by rw [hI, if_neg e]; exact q1, by rw [hB y e]; exact q2⟩
      · refine Or.inr ⟨q, hq, ?_⟩
        by_cases e2 : q = r
        · subst e2
          rw [updR_s]
          rw [hl] at hm
          exact (List.mem_cons.mp hm).resolve_left e
        · rw [updR_n e2]; exact hm
  · exact ht3 q hq y (hT q hq y hy).2
