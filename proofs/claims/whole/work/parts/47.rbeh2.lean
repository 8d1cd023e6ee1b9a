/-- the relation where only the two objects' own fields have changed -/
theorem rb_core {L : Nat → List Nat} {n : Nat} {σ τ σ' τ' : sT} (h : RB L n σ τ) (hI : ∀ k i j, ¬ k = 0 → σ'.1 k i j = σ.1 k i j) (hP : ∀ k i j, ¬ k = 0 → σ'.2.1 k i j = σ.2.1 k i j) (hT : ∀ k i j, ¬ k = 10 → τ'.1 k i j = τ.1 k i j) (hT2 : τ'.1 10 0 12 = τ.1 10 0 12 ∧ τ'.1 10 0 13 = τ.1 10 0 13) (hL : (∀ x, τ'.2.2 16 0 x = τ.2.2 16 0 x) ∧ τ'.2.2 10 0 6 = τ.2.2 10 0 6)
    (h5 : τ'.1 10 0 8 = cf_num (σ'.2.1 0 0 4) ∧ τ'.1 10 0 14 = cf_num (σ'.2.1 0 0 9) ∧ τ'.1 10 0 16 = σ'.1 0 0 11 ∧ τ'.1 10 0 17 = σ'.1 0 0 7 ∧ τ'.2.2 10 0 18 = σ'.2.2 0 0 8) (hW' : RelW σ' τ') : RB L n σ' τ' := by
  obtain ⟨⟨h1, h2, h3, h4, -, h10, h11, b, c, h12, h13, h14, h15, h16⟩, hE, -, ⟨r1, r2, r3, t, r4, r5, r6⟩, hU⟩ := h
  have hm : ∀ x, Mk σ' x ↔ Mk σ x := fun x => by unfold Mk; rw [hP 1 0 x (by omega)]
  have hl : ∀ x, lev σ' x = lev σ x := fun x => by unfold lev; rw [hP 8 x 2 (by omega)]
  refine ⟨⟨fun x hx => ?_, fun x hx => ?_, fun x hx j hj => ?_, fun x hx => ?_, h5, ?_, ?_, b, c, ?_, h13, ?_, h15, fun j hj => ?_⟩, fun s hs => ?_, hW', ⟨fun x hx => ?_, fun r hr => ?_, fun x hx => ?_, t, r4, ?_, fun r hr x hx => ?_⟩, fun x hx hn => ?_⟩
  · rw [hm, hP 1 0 x (by omega), hT 11 0 x (by omega)]; exact h1 x hx
  · rw [hl, hI 8 x 1 (by omega), hT 12 0 x (by omega)]; exact h2 x ((hm x).mp hx)
  · rw [hm, hI 9 x j (by omega), hT 13 0 _ (by omega)]; exact h3 x hx j hj
  · rw [hm, hI 8 x 4 (by omega), hT 14 0 x (by omega)]; exact h4 x hx
  · rw [hT2.1, hI 4 0 2 (by omega)]; exact h10
  · rw [hT2.2, hI 4 0 3 (by omega)]; exact h11
  · rw [hI 4 0 1 (by omega)]; exact h12
  · rw [hI 4 0 2 (by omega)]; exact h14
  · rw [hT 18 0 j (by omega), hI 5 0 _ (by omega)]; exact h16 j hj
  · rw [hT 17 0 s (by omega), hI 7 s 2 (by omega)]; exact hE s hs
  · rw [hT 15 0 x (by omega), hI 8 x 5 (by omega)]; exact r1 x ((hm x).mp hx)
  · obtain ⟨a1, a2, a3, a4⟩ := r2 r hr
    refine ⟨by rw [hP 6 r 1 (by omega), hP 6 r 2 (by omega)]; exact a1, lk_congr (fun y _ => hP 8 y 6 (by omega)) a2, fun x hx => ⟨(hm x).mpr (a3 x hx).1, by rw [hI 8 x 5 (by omega)]; exact (a3 x hx).2⟩, ?_⟩
    refine a4.imp (fun {u v} huv => ?_)
    rw [hL.1, hL.1]; exact huv
  · rw [hI 8 x 5 (by omega), hP 8 x 6 (by omega)]; exact r3 x ((hm x).mp hx)
  · rw [hL.2]; exact r5
  · rw [hL.1]; exact r6 r hr x hx
  · rw [hT 15 0 x (by omega)]; exact hU x hx (fun q => hn ((hm x).mpr q))
theorem sI_ne {σ : sT} {k i j : Nat} {v : Int32} {k' i' j' : Nat} (h : ¬ (k' = k ∧ i' = i ∧ j' = j)) : (sI σ k i j v).1 k' i' j' = σ.1 k' i' j' := by
  simp only [sI]
  rw [if_neg h]
theorem sI_eq {σ : sT} {k i j : Nat} {v : Int32} : (sI σ k i j v).1 k i j = v := by simp [sI]
theorem sP_ne {σ : sT} {k i j : Nat} {v : Option Nat} {k' i' j' : Nat} (h : ¬ (k' = k ∧ i' = i ∧ j' = j)) : (sP σ k i j v).2.1 k' i' j' = σ.2.1 k' i' j' := by
  simp only [sP]
  rw [if_neg h]
theorem sP_eq {σ : sT} {k i j : Nat} {v : Option Nat} : (sP σ k i j v).2.1 k i j = v := by simp [sP]
theorem sL_ne {σ : sT} {k i j : Nat} {v : Int64} {k' i' j' : Nat} (h : ¬ (k' = k ∧ i' = i ∧ j' = j)) : (sL σ k i j v).2.2 k' i' j' = σ.2.2 k' i' j' := by
  simp only [sL]
  rw [if_neg h]
theorem sL_eq {σ : sT} {k i j : Nat} {v : Int64} : (sL σ k i j v).2.2 k i j = v := by simp [sL]
def chg (σ : sT) : sT := if σ.1 0 0 5 = 0 then σ else sP (sI (sP σ 0 0 4 (σ.2.1 0 0 6)) 0 0 5 0) 0 0 6 none
theorem settle_chg (σ : sT) : cf_settle σ = chg (cf_due (cf_words σ)) := rfl
theorem st_chg {L : Nat → List Nat} {n : Nat} {σ τ : sT} (h : Sim L n σ τ) : Sim L n (chg σ) (mf_p5 τ) := by
  obtain ⟨hB, hA, hp⟩ := h
  unfold chg mf_p5
  by_cases q : σ.1 0 0 5 = 0
  · rw [if_pos q, if_pos (hB.2.2.1.1.mpr q)]
    exact ⟨hB, hA, hp⟩
  · rw [if_neg q, if_neg (fun z => q (hB.2.2.1.1.mp z))]
    have hw := hB.2.2.1.2 q
    have h5 := hB.1.2.2.2.2.1
    have i5 : (sP (sI (sP σ 0 0 4 (σ.2.1 0 0 6)) 0 0 5 0) 0 0 6 none).1 0 0 5 = 0 := by simp [sP, sI]
    have p4 : (sP (sI (sP σ 0 0 4 (σ.2.1 0 0 6)) 0 0 5 0) 0 0 6 none).2.1 0 0 4 = σ.2.1 0 0 6 := by simp [sP, sI]
    have hpr : cf_pres (sP (sI (sP σ 0 0 4 (σ.2.1 0 0 6)) 0 0 5 0) 0 0 6 none) = cf_pres σ := by
      unfold cf_pres
      rw [i5, if_pos rfl, if_neg q, p4]
    refine ⟨rb_core hB (fun k i j hk => ?_) (fun k i j hk => ?_) (fun k i j hk => ?_) ⟨by simp [sI], by simp [sI]⟩ ⟨fun _ => rfl, rfl⟩ ⟨?_, ?_, ?_, ?_, h5.2.2.2.2⟩ ⟨?_, fun z => absurd i5 z⟩, ?_, fun y hy => ?_⟩
    · simp [sP, sI, hk]
    · simp [sP, sI, hk]
    · simp [sI, hk]
    · rw [p4, ← hw]; simp [sI]
    · simpa [sP, sI] using h5.2.1
    · simpa [sP, sI] using h5.2.2.1
    · simpa [sP, sI] using h5.2.2.2.1
    · simp [sP, sI]
    · simpa [RelA, sP, sI] using hA
    · rw [hpr] at hy
      have := hp y hy
      simpa [sP, sI] using this
theorem st_settle {L : Nat → List Nat} {n : Nat} {σ τ : sT} {lv : Nat → Nat → Prop} {N : Int} (ok : OKs σ lv) (okm : OKm τ lv N) (h : Sim L n σ τ) (hn : n + 65 < 2 ^ 60) : ∃ L', Sim L' (n + 65) (cf_settle σ) (mf_p15 τ) := by
  obtain ⟨L1, h1⟩ := rb_due ok okm h hn
  exact ⟨L1, st_chg h1⟩
theorem sI_self (τ : sT) (k i j : Nat) : sI τ k i j (τ.1 k i j) = τ := by
  unfold sI
  refine Prod.ext ?_ rfl
  funext k' i' j'
  dsimp only
  split
  · next q => rw [q.1, q.2.1, q.2.2]
  · rfl
theorem st_clock {L : Nat → List Nat} {n : Nat} {σ τ : sT} (h : Sim L n σ τ) (v : Int32) : Sim L n (sI σ 0 0 7 v) (sI τ 10 0 17 v) := by
  obtain ⟨hB, hA, hp⟩ := h
  have h5 := hB.1.2.2.2.2.1
  have hW := hB.2.2.1
  refine ⟨rb_core hB (fun k i j hk => by simp [sI, hk]) (fun k i j hk => rfl) (fun k i j hk => by simp [sI, hk]) ⟨by simp [sI], by simp [sI]⟩ ⟨fun _ => rfl, rfl⟩ ⟨by simpa [sI] using h5.1, by simpa [sI] using h5.2.1, by simpa [sI] using h5.2.2.1, by simp [sI], h5.2.2.2.2⟩ ⟨by simpa [sI] using hW.1, by simpa [sI] using hW.2⟩, by simpa [RelA, sI] using hA, fun y hy => ?_⟩
  have e : cf_pres (sI σ 0 0 7 v) = cf_pres σ := pres_congr (by simp [sI]) rfl rfl
  rw [e] at hy
  simpa [sI] using hp y hy
theorem ag_iff {L : Nat → List Nat} {n : Nat} {σ τ : sT} {lv : Nat → Nat → Prop} (ok : OKs σ lv) (h : Sim L n σ τ) : (mf_ag τ = 0 ↔ ¬ (σ.2.1 0 0 4 = none ∧ σ.2.1 0 0 10 ≠ none)) := by
  have h8 := h.1.1.2.2.2.2.1.1
  have hA : τ.1 10 0 15 = cf_num (σ.2.1 0 0 10) := h.2.1
  unfold mf_ag
  rw [h8, hA]
  cases ha : σ.2.1 0 0 4 with
  | some x =>
    rw [if_pos (num_le (ok.ac ha).1)]
    simp
  | none =>
    rw [if_neg num_nle]
    cases hb : σ.2.1 0 0 10 with
    | none => rw [if_pos num_none]; simp
    | some s =>
      have := ok.al hb
      rw [if_neg (num_some (by omega))]
      simp
theorem st_behind {L : Nat → List Nat} {n : Nat} {σ τ : sT} {lv : Nat → Nat → Prop} {N : Int} (ok : OKs σ lv) (okm : OKm τ lv N) (h : Sim L n σ τ) (hn : n + 130 < 2 ^ 60) : ∃ L', Sim L' (n + 130) (cf_behind σ) (mf_behind τ) := by
  obtain ⟨L1, h1⟩ := st_settle ok okm h (by omega)
  have ok1 := (go_settle ok).1
  have okm1 := p15_ok okm
  have hag := ag_iff ok1 h1
  unfold mf_behind
  by_cases q : mf_ag (mf_p15 τ) = 0
  · rw [if_pos q]
    have e : mf_p6 (mf_p15 τ) = mf_p15 τ := by
      unfold mf_p6
      rw [if_pos q]
      exact sI_self _ _ _ _
    rw [e]
    have hc := hag.mp q
    have e2 : cf_behind σ = cf_settle σ := by
      unfold cf_behind
      dsimp only
      split
      · next x1 x2 s c1 c2 => exact absurd ⟨c1, by rw [c2]; simp⟩ hc
      · rfl
    rw [e2]
    exact ⟨L1, h1.mono (by omega)⟩
  · rw [if_neg q]
    have hc : (cf_settle σ).2.1 0 0 4 = none ∧ (cf_settle σ).2.1 0 0 10 ≠ none := Decidable.byContradiction fun z => q (hag.mpr z)
    have e : mf_p6 (mf_p15 τ) = sI (mf_p15 τ) 10 0 17 ((cf_settle σ).1 0 0 11) := by
      unfold mf_p6
      rw [if_neg q, h1.1.1.2.2.2.2.1.2.2.1]
    have e2 : cf_behind σ = cf_settle (sI (cf_settle σ) 0 0 7 ((cf_settle σ).1 0 0 11)) := by
      unfold cf_behind
      dsimp only
      rw [hc.1]
      cases hs : (cf_settle σ).2.1 0 0 10 with
      | none => exact absurd hs hc.2
      | some s => rfl
    have h2 := st_clock h1 ((cf_settle σ).1 0 0 11)
    have okm2 : OKm (mf_p6 (mf_p15 τ)) lv N := p6_ok okm1
    have ag2 := ag_two okm q
    rw [e] at okm2 ag2 ⊢
    obtain ⟨L2, h3⟩ := st_settle (σ := sI (cf_settle σ) 0 0 7 ((cf_settle σ).1 0 0 11)) ok1.I okm2 h2 (by omega)
    have e3 : ∀ z, mf_ag z = 0 → mf_p6 z = z := fun z hz => by
      unfold mf_p6
      rw [if_pos hz]
      exact sI_self _ _ _ _
    rw [e3 _ ag2, e2]
    exact ⟨L2, h3.mono (by omega)⟩
