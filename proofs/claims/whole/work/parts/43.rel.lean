/-! THE RELATION between the class's store and the reference's -/
def RelD (σ τ : sT) : Prop :=
  (∀ x, x < 32 → (Mk σ x ∧ ¬ τ.1 11 0 x = 0) ∨ (σ.2.1 1 0 x = none ∧ τ.1 11 0 x = 0)) ∧
  (∀ x, Mk σ x → τ.1 12 0 x = σ.1 8 x 1 ∧ σ.1 8 x 1 = nI (lev σ x + 1) ∧ lev σ x < 8) ∧
  (∀ x, x < 32 → ∀ j, j < 8 → (Mk σ x → τ.1 13 0 (8 * x + j) = σ.1 9 x j) ∧ (¬ Mk σ x → τ.1 13 0 (8 * x + j) = 0)) ∧
  (∀ x, x < 32 → (Mk σ x → τ.1 14 0 x = σ.1 8 x 4) ∧ (¬ Mk σ x → τ.1 14 0 x = 0)) ∧
  (τ.1 10 0 8 = cf_num (σ.2.1 0 0 4) ∧ τ.1 10 0 14 = cf_num (σ.2.1 0 0 9) ∧ τ.1 10 0 16 = σ.1 0 0 11 ∧ τ.1 10 0 17 = σ.1 0 0 7 ∧ τ.2.2 10 0 18 = σ.2.2 0 0 8) ∧
  (τ.1 10 0 12 = σ.1 4 0 2 ∧ τ.1 10 0 13 = σ.1 4 0 3 ∧ ∃ b c : Nat, σ.1 4 0 1 = nI b ∧ b < 64 ∧ σ.1 4 0 2 = nI c ∧ c ≤ 64 ∧ ∀ j, j < c → τ.1 18 0 j = σ.1 5 0 ((b + j) % 64))
def RelE (σ τ : sT) : Prop := ∀ s, s < 16 → τ.1 17 0 s = σ.1 7 s 2
def RelW (σ τ : sT) : Prop := (τ.1 10 0 9 = 0 ↔ σ.1 0 0 5 = 0) ∧ (¬ σ.1 0 0 5 = 0 → τ.1 10 0 10 = cf_num (σ.2.1 0 0 6))
def RelU (σ τ : sT) : Prop := ∀ x, x < 32 → ¬ Mk σ x → τ.1 15 0 x = 0
def RB (L : Nat → List Nat) (n : Nat) (σ τ : sT) : Prop := RelD σ τ ∧ RelE σ τ ∧ RelW σ τ ∧ RelR L n σ τ ∧ RelU σ τ
/-- the present one is in no row -/
def Pf (σ : sT) : Prop := ∀ x, cf_pres σ = some x → σ.1 8 x 5 = 0
theorem RelD.fr {σ τ σ' τ' : sT} (h : RelD σ τ) (f : Fr σ σ') (g : FrM τ τ') : RelD σ' τ' := by
  obtain ⟨h1, h2, h3, h4, ⟨h5, h6, h7, h8, h9⟩, h10, h11, b, c, h12, h13, h14, h15, h16⟩ := h
  have hm : ∀ x, Mk σ' x ↔ Mk σ x := fun x => by unfold Mk; rw [f.2.1 1 0 x (by omega) (by omega) (by omega)]
  have hl : ∀ x, lev σ' x = lev σ x := fun x => by unfold lev; rw [f.2.1 8 x 2 (by omega) (by omega) (by omega)]
  refine ⟨fun x hx => ?_, fun x hx => ?_, fun x hx j hj => ?_, fun x hx => ?_, ⟨?_, ?_, ?_, ?_, ?_⟩, ?_, ?_, b, c, ?_, h13, ?_, h15, fun j hj => ?_⟩
  · rw [hm, f.2.1 1 0 x (by omega) (by omega) (by omega), g.1 11 0 x (by omega) (by omega) (by omega)]
    exact h1 x hx
  · rw [hl, f.1 8 x 1 (by omega) (by omega) (by omega), g.1 12 0 x (by omega) (by omega) (by omega)]
    exact h2 x ((hm x).mp hx)
  · rw [hm, f.1 9 x j (by omega) (by omega) (by omega), g.1 13 0 _ (by omega) (by omega) (by omega)]
    exact h3 x hx j hj
  · rw [hm, f.1 8 x 4 (by omega) (by omega) (by omega), g.1 14 0 x (by omega) (by omega) (by omega)]
    exact h4 x hx
  · rw [f.2.1 0 0 4 (by omega) (by omega) (by omega), g.1 10 0 8 (by omega) (by omega) (by omega)]; exact h5
  · rw [f.2.1 0 0 9 (by omega) (by omega) (by omega), g.1 10 0 14 (by omega) (by omega) (by omega)]; exact h6
  · rw [f.1 0 0 11 (by omega) (by omega) (by omega), g.1 10 0 16 (by omega) (by omega) (by omega)]; exact h7
  · rw [f.1 0 0 7 (by omega) (by omega) (by omega), g.1 10 0 17 (by omega) (by omega) (by omega)]; exact h8
  · rw [f.2.2, g.2 10 0 18 (by omega) (by omega)]; exact h9
  · rw [f.1 4 0 2 (by omega) (by omega) (by omega), g.1 10 0 12 (by omega) (by omega) (by omega)]; exact h10
  · rw [f.1 4 0 3 (by omega) (by omega) (by omega), g.1 10 0 13 (by omega) (by omega) (by omega)]; exact h11
  · rw [f.1 4 0 1 (by omega) (by omega) (by omega)]; exact h12
  · rw [f.1 4 0 2 (by omega) (by omega) (by omega)]; exact h14
  · rw [f.1 5 0 _ (by omega) (by omega) (by omega), g.1 18 0 j (by omega) (by omega) (by omega)]; exact h16 j hj
theorem RB.mono {L : Nat → List Nat} {n m : Nat} {σ τ : sT} (h : RB L n σ τ) (hm : n ≤ m) : RB L m σ τ := ⟨h.1, h.2.1, h.2.2.1, h.2.2.2.1.mono hm, h.2.2.2.2⟩
theorem pres_eq {σ τ : sT} (h : RelD σ τ) (w : RelW σ τ) : mf_pres τ = cf_num (cf_pres σ) := by
  unfold mf_pres cf_pres
  by_cases q : σ.1 0 0 5 = 0
  · rw [if_pos q, if_pos (w.1.mpr q)]
    exact h.2.2.2.2.1.1
  · rw [if_neg q, if_neg (fun z => q (w.1.mp z))]
    exact w.2 q
theorem num_some {x : Nat} (hx : x < 32) : ¬ cf_num (some x) < 0 := nI_pos (by omega)
theorem num_le {x : Nat} (hx : x < 32) : 0 ≤ cf_num (some x) := nI_pos' (by omega)
theorem num_none : cf_num none < 0 := by decide
theorem num_nle : ¬ 0 ≤ cf_num none := by decide
theorem pres_congr {σ σ' : sT} (h1 : σ'.1 0 0 5 = σ.1 0 0 5) (h2 : σ'.2.1 0 0 4 = σ.2.1 0 0 4) (h3 : σ'.2.1 0 0 6 = σ.2.1 0 0 6) : cf_pres σ' = cf_pres σ := by
  unfold cf_pres
  rw [h1, h2, h3]
theorem pres_app {σ : sT} {r x : Nat} : cf_pres (cf_app σ r x) = cf_pres σ := by
  apply pres_congr
  · rw [app_I]; simp
  · cases h : σ.2.1 6 r 2 with
    | none => rw [app_P0 h]; simp
    | some q => rw [app_P1 h]; simp
  · cases h : σ.2.1 6 r 2 with
    | none => rw [app_P0 h]; simp
    | some q => rw [app_P1 h]; simp
theorem pres_take {σ : sT} {r : Nat} : cf_pres (cf_take σ r).2 = cf_pres σ := by
  cases h : σ.2.1 6 r 1 with
  | none => rw [take_0 h]
  | some x =>
    apply pres_congr
    · rw [take_I h]; simp
    · rw [take_P h]; simp
    · rw [take_P h]; simp
theorem pres_want {σ : sT} {o : Option Nat} : cf_pres (cf_want σ o) = o := by
  unfold cf_pres cf_want
  simp [sI, sP]
theorem rb_want {L : Nat → List Nat} {n : Nat} {σ τ : sT} (h : RB L n σ τ) {o : Option Nat} : RB L n (cf_want σ o) (mf_want τ (cf_num o)) := by
  obtain ⟨hD, hE, hW, hR, hU⟩ := h
  have hm : ∀ x, Mk (cf_want σ o) x ↔ Mk σ x := fun x => by unfold Mk cf_want; simp [sI, sP]
  refine ⟨hD.fr (fr_want _ _) (frm_want _ _), fun s hs => ?_, ⟨?_, fun _ => ?_⟩, ?_, fun x hx hn => ?_⟩
  · have e1 : (mf_want τ (cf_num o)).1 17 0 s = τ.1 17 0 s := by simp [mf_want, sI]
    have e2 : (cf_want σ o).1 7 s 2 = σ.1 7 s 2 := by simp [cf_want, sI, sP]
    rw [e1, e2]; exact hE s hs
  · simp [mf_want, cf_want, sI, sP]
  · simp [mf_want, cf_want, sI, sP]
  · obtain ⟨h1, h2, h3, t, h4, h5, h6⟩ := hR
    have i1 : ∀ x, (cf_want σ o).1 8 x 5 = σ.1 8 x 5 := fun x => by simp [cf_want, sI, sP]
    have p1 : ∀ x, (cf_want σ o).2.1 8 x 6 = σ.2.1 8 x 6 := fun x => by simp [cf_want, sI, sP]
    have p2 : ∀ r j, (cf_want σ o).2.1 6 r j = σ.2.1 6 r j := fun r j => by simp [cf_want, sI, sP]
    refine ⟨fun x hx => ?_, fun r hr => ?_, fun x hx => ?_, t, h4, h5, h6⟩
    · have e1 : (mf_want τ (cf_num o)).1 15 0 x = τ.1 15 0 x := by simp [mf_want, sI]
      rw [e1, i1]; exact h1 x ((hm x).mp hx)
    · obtain ⟨a1, a2, a3, a4⟩ := h2 r hr
      refine ⟨by rw [p2, p2]; exact a1, lk_congr (fun y _ => p1 y) a2, fun x hx => ?_, a4⟩
      rw [hm, i1]; exact a3 x hx
    · rw [i1, p1]; exact h3 x ((hm x).mp hx)
  · have e1 : (mf_want τ (cf_num o)).1 15 0 x = τ.1 15 0 x := by simp [mf_want, sI]
    rw [e1]; exact hU x hx (fun q => hn ((hm x).mpr q))
theorem rb_app {L : Nat → List Nat} {n : Nat} {σ τ : sT} (h : RB L n σ τ) (hn : n < 2 ^ 60) {r x : Nat} (hr : r < 24) (hx : Mk σ x) (h0 : σ.1 8 x 5 = 0) : RB (updR L r (L r ++ [x])) (n + 1) (cf_app σ r x) (mf_come τ (nI x) (rno r)) := by
  obtain ⟨hD, hE, hW, hR, hU⟩ := h
  have hx32 := hx.1
  have ecl : (nI x).toNatClampNeg = x := nI_clamp (by omega)
  refine ⟨hD.fr (fr_app _ _ _) (frm_come _ _ _), fun s hs => ?_, ⟨?_, ?_⟩, rel_app hR hn hr hx h0, fun y hy hn => ?_⟩
  · rw [app_I, come_I, if_neg (by omega), if_neg (by omega)]; exact hE s hs
  · rw [app_I, come_I, if_neg (by omega), if_neg (by omega)]; exact hW.1
  · rw [app_I, if_neg (by omega)]
    intro q
    rw [come_I, if_neg (by omega), hW.2 q]
    congr 1
    cases hl : σ.2.1 6 r 2 with
    | none => rw [app_P0 hl]; simp
    | some z => rw [app_P1 hl]; simp
  · rw [come_I, ecl, if_neg]
    · exact hU y hy (fun q => hn (Mk_app.mpr q))
    · rintro ⟨-, -, rfl⟩
      exact hn (Mk_app.mpr hx)
theorem rb_take {L : Nat → List Nat} {n : Nat} {σ τ : sT} (h : RB L n σ τ) {r x : Nat} {t : List Nat} (hr : r < 24) (hl : L r = x :: t) : RB (updR L r t) n (cf_take σ r).2 (sI τ 15 0 x 0) ∧ (cf_take σ r).1 = some x ∧ (cf_take σ r).2.1 8 x 5 = 0 ∧ Mk σ x ∧ σ.1 8 x 5 = rno r := by
  obtain ⟨hD, hE, hW, hR, hU⟩ := h
  have hf : σ.2.1 6 r 1 = some x := by have := (hR.2.1 r hr).1.1; rw [hl] at this; exact this
  have hx := (hR.2.1 r hr).2.2.1 x (by rw [hl]; exact List.mem_cons_self)
  refine ⟨⟨hD.fr (fr_take _ _) (FrM.I (by omega)), fun s hs => ?_, ⟨?_, ?_⟩, rel_take hR hr hl, fun y hy hn => ?_⟩, take_1 hf, by rw [take_I hf, if_pos ⟨rfl, rfl, rfl⟩], hx.1, hx.2⟩
  · rw [take_I hf, if_neg (by omega)]; exact hE s hs
  · rw [take_I hf, if_neg (by omega)]; exact hW.1
  · rw [take_I hf, if_neg (by omega)]
    intro q
    refine (hW.2 q).trans ?_
    rw [take_P hf]; simp
  · have e : y ≠ x := by
      rintro rfl
      exact hn (Mk_take.mpr hx.1)
    have e1 : (sI τ 15 0 x 0).1 15 0 y = τ.1 15 0 y := by simp [sI, e]
    rw [e1]
    exact hU y hy (fun q => hn (Mk_take.mpr q))
theorem RB.inR {L : Nat → List Nat} {n : Nat} {σ τ : sT} (h : RB L n σ τ) {r : Nat} (hr : r < 24) : InR τ (rno r) (L r) := by
  obtain ⟨hD, hE, hW, hR, hU⟩ := h
  refine ⟨fun k hk => ?_, fun k hk => ((hR.2.1 r hr).2.2.1 k hk).1.1, (hR.2.1 r hr).2.2.2⟩
  rw [hR.mem hr]
  rcases hD.1 k hk with ⟨a1, a2⟩ | ⟨a1, a2⟩
  · rw [hR.1 k a1]
    exact ⟨fun q => ⟨a1, q.2⟩, fun q => ⟨a2, q.2⟩⟩
  · constructor
    · rintro ⟨q, -⟩; exact absurd a2 q
    · rintro ⟨q, -⟩
      have := q.2
      rw [a1] at this
      cases this
theorem rno_lev {v : Nat} (h : v < 8) : nI (v + 1) = rno v := by unfold rno; rw [if_pos h]
theorem rno_sem {s : Nat} : (16 : Int32) + nI s = rno (8 + s) := by
  unfold rno
  rw [if_neg (by omega), show (16 : Int32) = nI 16 from rfl, nI_add]
  congr 1
  omega
theorem RB.pr {L : Nat → List Nat} {n : Nat} {σ τ : sT} (h : RB L n σ τ) {x : Nat} (hx : Mk σ x) : mf_pr τ (nI x) = σ.1 8 x 1 ∧ mf_pr τ (nI x) = rno (lev σ x) ∧ lev σ x < 8 := by
  have hx32 := hx.1
  have h2 := h.1.2.1 x hx
  unfold mf_pr
  rw [nI_clamp (by omega)]
  exact ⟨h2.1, by rw [h2.1, h2.2.1, rno_lev h2.2.2], h2.2.2⟩
theorem rb_wake {L : Nat → List Nat} {n : Nat} {σ τ : sT} {lv : Nat → Nat → Prop} (ok : OKs σ lv) (h : RB L n σ τ) (hn : n < 2 ^ 60) (hp : Pf σ) {x : Nat} (hx : Mk σ x) (h0 : σ.1 8 x 5 = 0) (hxp : cf_pres σ ≠ some x) : ∃ L', RB L' (n + 1) (cf_wake σ x) (mf_rouse τ (nI x)) ∧ Pf (cf_wake σ x) := by
  have hpe := pres_eq h.1 h.2.2.1
  unfold cf_wake mf_rouse
  cases hq : cf_pres σ with
  | none =>
    rw [hpe, hq, if_pos num_none]
    refine ⟨L, (rb_want (o := some x) h).mono (by omega), fun y hy => ?_⟩
    rw [pres_want] at hy
    cases hy
    simpa [cf_want, sI, sP] using h0
  | some q =>
    have hqm := pres_ok ok hq
    have hq0 := hp q hq
    have pq := h.pr hqm
    have px := h.pr hx
    have hqx : q ≠ x := fun e => hxp (by rw [hq, e])
    rw [hpe, hq, if_neg (num_some hqm.1)]
    rw [show cf_num (some q) = nI q from rfl]
    dsimp only
    by_cases hc : σ.1 8 q 1 < σ.1 8 x 1
    · rw [if_pos hc, if_pos (by rw [pq.1, px.1]; exact hc), pq.2.1]
      have h1 := rb_app h hn (show lev σ q < 24 by omega) hqm hq0
      refine ⟨_, rb_want (o := some x) h1, fun y hy => ?_⟩
      rw [pres_want] at hy
      cases hy
      have e : (cf_want (cf_app σ (lev σ q) q) (some x)).1 8 x 5 = (cf_app σ (lev σ q) q).1 8 x 5 := by simp [cf_want, sI, sP]
      rw [e, app_I, if_neg (fun z => hqx z.2.1.symm)]
      exact h0
    · rw [if_neg hc, if_neg (by rw [pq.1, px.1]; exact hc), px.2.1]
      have h1 := rb_app h hn (show lev σ x < 24 by omega) hx h0
      refine ⟨_, h1, fun y hy => ?_⟩
      rw [pres_app, hq] at hy
      cases hy
      rw [app_I, if_neg (fun z => hqx z.2.1)]
      exact hq0
