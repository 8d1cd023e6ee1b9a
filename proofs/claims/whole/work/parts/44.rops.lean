theorem al_pos {τ : sT} {nx : Int32} (h : 0 ≤ nx) : ∀ n, mf_al τ n nx = nx
  | 0 => rfl
  | n + 1 => by unfold mf_al; rw [if_pos h]
theorem rb_first {L : Nat → List Nat} {n : Nat} {σ τ : sT} (h : RB L n σ τ) : ∀ m, m ≤ 8 → (cf_first m σ = (none, σ) ∧ mf_al τ m (-1) = -1) ∨ ∃ r x t, r < 8 ∧ L r = x :: t ∧ cf_first m σ = (some x, (cf_take σ r).2) ∧ mf_al τ m (-1) = nI x
  | 0, _ => Or.inl ⟨rfl, rfl⟩
  | m + 1, hm => by
    have hr : m < 24 := by omega
    have hfe := first_eq (h.inR hr)
    have ha : mf_al τ (m + 1) (-1) = mf_al τ m (mf_first τ (nI (m + 1))) := by
      rw [mf_al, if_neg (by decide)]
    rw [ha, rno_lev (by omega), hfe]
    cases hl : L m with
    | nil =>
      have hf : σ.2.1 6 m 1 = none := by have := (h.2.2.2.1.2.1 m hr).1.1; rw [hl] at this; exact this
      have e : cf_first (m + 1) σ = cf_first m σ := by
        show (match cf_take σ m with | (none, σ1) => cf_first m σ1 | (some x, σ1) => (some x, σ1)) = _
        rw [take_0 hf]
      rw [e]
      exact rb_first h m (by omega)
    | cons x t =>
      have ht := rb_take h hr hl
      refine Or.inr ⟨m, x, t, by omega, hl, ?_, ?_⟩
      · show (match cf_take σ m with | (none, σ1) => cf_first m σ1 | (some x, σ1) => (some x, σ1)) = _
        cases hq : cf_take σ m with
        | mk o σ1 =>
          have := ht.2.1
          rw [hq] at this
          cases this
          rfl
      · exact al_pos (num_le ht.2.2.2.1.1) m
theorem rb_aside {L : Nat → List Nat} {n : Nat} {σ τ : sT} (h : RB L n σ τ) : ∃ L', RB L' n (cf_aside σ) (mf_aside τ) ∧ Pf (cf_aside σ) := by
  unfold cf_aside mf_aside
  rcases rb_first h 8 (by omega) with ⟨e1, e2⟩ | ⟨r, x, t, hr, hl, e1, e2⟩
  · rw [e1, e2]
    refine ⟨L, rb_want (o := none) h, fun y hy => ?_⟩
    rw [pres_want] at hy
    cases hy
  · rw [e1, e2]
    obtain ⟨t1, t2, t3, t4, t5⟩ := rb_take h (show r < 24 by omega) hl
    have hx32 := t4.1
    refine ⟨updR L r t, ?_, fun y hy => ?_⟩
    · have e3 : mf_aend τ (nI x) = mf_want (sI τ 15 0 x 0) (cf_num (some x)) := by
        unfold mf_aend
        rw [if_neg (nI_neg (by omega)), nI_clamp (by omega)]
        rfl
      rw [e3]
      exact rb_want (o := some x) t1
    · rw [pres_want] at hy
      cases hy
      have e : (cf_want (cf_take σ r).2 (some x)).1 8 x 5 = (cf_take σ r).2.1 8 x 5 := by simp [cf_want, sI, sP]
      rw [e]; exact t3
theorem rb_extra {L : Nat → List Nat} {n : Nat} {σ τ : sT} (h : RB L n σ τ) {s : Nat} (hs : s < 16) (v : Int32) : RB L n (sI σ 7 s 2 v) (sI τ 17 0 s v) := by
  obtain ⟨hD, hE, hW, hR, hU⟩ := h
  refine ⟨hD.fr (Fr.I (by omega)) (FrM.I (by omega)), fun q hq => ?_, ⟨?_, ?_⟩, ?_, ?_⟩
  · by_cases e : q = s
    · subst e; simp [sI]
    · have e1 : (sI τ 17 0 s v).1 17 0 q = τ.1 17 0 q := by simp [sI, e]
      have e2 : (sI σ 7 s 2 v).1 7 q 2 = σ.1 7 q 2 := by simp [sI, e]
      rw [e1, e2]; exact hE q hq
  · have e1 : (sI τ 17 0 s v).1 10 0 9 = τ.1 10 0 9 := by simp [sI]
    have e2 : (sI σ 7 s 2 v).1 0 0 5 = σ.1 0 0 5 := by simp [sI]
    rw [e1, e2]; exact hW.1
  · have e1 : (sI τ 17 0 s v).1 10 0 10 = τ.1 10 0 10 := by simp [sI]
    have e2 : (sI σ 7 s 2 v).1 0 0 5 = σ.1 0 0 5 := by simp [sI]
    rw [e1, e2]; exact hW.2
  · obtain ⟨h1, h2, h3, t, h4, h5, h6⟩ := hR
    have i1 : ∀ x, (sI σ 7 s 2 v).1 8 x 5 = σ.1 8 x 5 := fun x => by simp [sI]
    have i2 : ∀ x, (sI τ 17 0 s v).1 15 0 x = τ.1 15 0 x := fun x => by simp [sI]
    refine ⟨fun x hx => by rw [i1, i2]; exact h1 x hx, fun r hr => ?_, fun x hx => by rw [i1]; exact h3 x hx, t, h4, h5, h6⟩
    obtain ⟨a1, a2, a3, a4⟩ := h2 r hr
    exact ⟨a1, lk_congr (σ := σ) (fun y _ => rfl) a2, fun x hx => ⟨(a3 x hx).1, by rw [i1]; exact (a3 x hx).2⟩, a4⟩
  · intro x hx hn
    have i2 : (sI τ 17 0 s v).1 15 0 x = τ.1 15 0 x := by simp [sI]
    rw [i2]; exact hU x hx hn
theorem rb_sig {L : Nat → List Nat} {n : Nat} {σ τ : sT} {lv : Nat → Nat → Prop} (ok : OKs σ lv) (h : RB L n σ τ) (hn : n < 2 ^ 60) (hp : Pf σ) {s : Nat} (hs : s < 16) : ∃ L', RB L' (n + 1) (cf_sig σ s) (mf_sig τ (nI s)) ∧ Pf (cf_sig σ s) := by
  have hr : 8 + s < 24 := by omega
  have hfe : mf_first τ (16 + nI s) = cf_num (L (8 + s)).head? := by rw [rno_sem]; exact first_eq (h.inR hr)
  have es : (nI s).toNatClampNeg = s := nI_clamp (by omega)
  unfold cf_sig mf_sig
  rw [hfe, es]
  cases hl : L (8 + s) with
  | nil =>
    have hf : σ.2.1 6 (8 + s) 1 = none := by have := (h.2.2.2.1.2.1 _ hr).1.1; rw [hl] at this; exact this
    rw [take_0 hf]
    rw [show ([] : List Nat).head? = none from rfl, if_neg num_nle, h.2.1 s hs]
    refine ⟨L, (rb_extra h hs _).mono (by omega), fun y hy => ?_⟩
    have e : (sI σ 7 s 2 (σ.1 7 s 2 + 1)).1 8 y 5 = σ.1 8 y 5 := by simp [sI]
    have e2 : cf_pres (sI σ 7 s 2 (σ.1 7 s 2 + 1)) = cf_pres σ := pres_congr (by simp [sI]) rfl rfl
    rw [e2] at hy
    show (sI σ 7 s 2 (σ.1 7 s 2 + 1)).1 8 y 5 = 0
    rw [e]; exact hp y hy
  | cons x t =>
    obtain ⟨t1, t2, t3, t4, t5⟩ := rb_take h hr hl
    have hx32 := t4.1
    rw [show (x :: t).head? = some x from rfl, if_pos (num_le hx32), t2]
    rw [show cf_num (some x) = nI x from rfl, nI_clamp (by omega)]
    have ok2 := go_take ok hr
    refine rb_wake ok2.1 t1 hn (fun y hy => ?_) (Mk_take.mpr t4) t3 ?_
    · rw [pres_take] at hy
      have hf : σ.2.1 6 (8 + s) 1 = some x := by have := (h.2.2.2.1.2.1 _ hr).1.1; rw [hl] at this; exact this
      rw [take_I hf]
      split
      · rfl
      · exact hp y hy
    · rw [pres_take]
      intro q
      have := hp x q
      rw [t5] at this
      exact rno_ne _ hr this
theorem rb_wait {L : Nat → List Nat} {n : Nat} {σ τ : sT} {lv : Nat → Nat → Prop} (ok : OKs σ lv) (h : RB L n σ τ) (hn : n < 2 ^ 60) (hp : Pf σ) {s : Nat} (hs : s < 16) : ∃ L', RB L' (n + 1) (cf_wait σ s) (mf_wait τ (nI s)) ∧ Pf (cf_wait σ s) := by
  have hpe := pres_eq h.1 h.2.2.1
  have es : (nI s).toNatClampNeg = s := nI_clamp (by omega)
  unfold cf_wait mf_wait
  rw [hpe, es, h.2.1 s hs]
  cases hq : cf_pres σ with
  | none =>
    rw [if_neg num_nle]
    exact ⟨L, h.mono (by omega), hp⟩
  | some q =>
    have hqm := pres_ok ok hq
    have hq32 := hqm.1
    rw [if_pos (num_le hq32), show cf_num (some q) = nI q from rfl]
    dsimp only
    by_cases hc : σ.1 7 s 2 ≤ 0
    · rw [if_pos hc, if_pos hc, rno_sem]
      exact rb_aside (rb_app h hn (show 8 + s < 24 by omega) hqm (hp q hq))
    · rw [if_neg hc, if_neg hc]
      refine ⟨L, (rb_extra h hs _).mono (by omega), fun y hy => ?_⟩
      have e : (sI σ 7 s 2 (σ.1 7 s 2 - 1)).1 8 y 5 = σ.1 8 y 5 := by simp [sI]
      have e2 : cf_pres (sI σ 7 s 2 (σ.1 7 s 2 - 1)) = cf_pres σ := pres_congr (by simp [sI]) rfl rfl
      rw [e2] at hy
      rw [e]; exact hp y hy
theorem rb_give {L : Nat → List Nat} {n : Nat} {σ τ : sT} {lv : Nat → Nat → Prop} (ok : OKs σ lv) (h : RB L n σ τ) (hn : n < 2 ^ 60) (hp : Pf σ) : ∃ L', RB L' (n + 1) (cf_give σ) (mf_give τ) ∧ Pf (cf_give σ) := by
  have hpe := pres_eq h.1 h.2.2.1
  unfold cf_give mf_give
  rw [hpe]
  cases hq : cf_pres σ with
  | none =>
    rw [if_pos num_none]
    exact ⟨L, h.mono (by omega), hp⟩
  | some q =>
    have hqm := pres_ok ok hq
    have hq32 := hqm.1
    have pq := h.pr hqm
    rw [if_neg (num_some hq32), show cf_num (some q) = nI q from rfl, pq.2.1]
    have hr : lev σ q < 24 := by omega
    have hfe := first_eq (h.inR hr)
    have hf := (h.2.2.2.1.2.1 _ hr).1.1
    rw [hfe]
    dsimp only
    rw [hf]
    cases hl : (L (lev σ q)).head? with
    | none =>
      rw [if_pos num_none]
      exact ⟨L, h.mono (by omega), hp⟩
    | some x =>
      have hx : Mk σ x := ((h.2.2.2.1.2.1 _ hr).2.2.1 x (List.mem_of_head? hl)).1
      rw [if_neg (num_some hx.1)]
      exact rb_aside (rb_app h hn hr hqm (hp q hq))
