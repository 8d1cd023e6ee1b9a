theorem Mk_mk {σ : sT} {x r : Nat} {b : Int32} (hx : x < 32) {y : Nat} : Mk (cmk σ x r b) y ↔ y = x ∨ Mk σ y := by
  unfold Mk cmk
  dsimp only
  by_cases e : y = x
  · subst e
    rw [if_pos ⟨rfl, rfl, rfl⟩]
    exact ⟨fun _ => Or.inl rfl, fun _ => ⟨hx, rfl⟩⟩
  · rw [if_neg (fun z => e z.2.2), if_neg (fun z => by omega)]
    exact ⟨fun z => Or.inr z, fun z => z.resolve_left e⟩
theorem mk_I {σ : sT} {x r : Nat} {b : Int32} {k i j : Nat} (h : ¬ (i = x ∧ (k = 8 ∨ k = 9))) : (cmk σ x r b).1 k i j = σ.1 k i j := by
  unfold cmk
  dsimp only
  rw [if_neg, if_neg]
  · exact fun z => h ⟨z.2.1, Or.inl z.1⟩
  · rintro ⟨z1, z2 | z2⟩
    · exact h ⟨z1, Or.inl z2.1⟩
    · exact h ⟨z1, Or.inr z2⟩
theorem mk_P {σ : sT} {x r : Nat} {b : Int32} {k i j : Nat} (h : ¬ (i = x ∧ k = 8)) (h1 : ¬ k = 1) : (cmk σ x r b).2.1 k i j = σ.2.1 k i j := by
  unfold cmk
  dsimp only
  rw [if_neg (fun z => h1 z.1), if_neg (fun z => h ⟨z.2, z.1⟩)]
theorem mk_n {σ : sT} {x r : Nat} {b : Int32} {y : Nat} (h : y ≠ x) : (cmk σ x r b).2.1 1 0 y = σ.2.1 1 0 y := by
  unfold cmk
  dsimp only
  rw [if_neg (fun z => h z.2.2), if_neg (fun z => by omega)]
theorem rb_make {L : Nat → List Nat} {n : Nat} {σ τ : sT} (h : RB L n σ τ) {x r : Nat} {b : Int32} (hx : x < 32) (hn : ¬ Mk σ x) (hr : r < 8) (hb : b = nI (r + 1)) : RB L n (cmk σ x r b) (sI (sI τ 11 0 x 1) 12 0 x b) := by
  obtain ⟨⟨h1, h2, h3, h4, ⟨h5, h6, h7, h8, h9⟩, h10, h11, w, c, h12, h13, h14, h15, h16⟩, hE, hW, ⟨r1, r2, r3, t, r4, r5, r6⟩, hU⟩ := h
  have hne : ∀ y, Mk σ y → y ≠ x := fun y hy e => hn (e ▸ hy)
  have hT : ∀ k i j, ¬ k = 11 → ¬ k = 12 → (sI (sI τ 11 0 x 1) 12 0 x b).1 k i j = τ.1 k i j := fun k i j z1 z2 => by rw [sI_ne (fun z => z2 z.1), sI_ne (fun z => z1 z.1)]
  refine ⟨⟨fun y hy => ?_, fun y hy => ?_, fun y hy j hj => ?_, fun y hy => ?_, ⟨?_, ?_, ?_, ?_, h9⟩, ?_, ?_, w, c, ?_, h13, ?_, h15, fun j hj => ?_⟩, fun s hs => ?_, ⟨?_, ?_⟩, ⟨fun y hy => ?_, fun q hq => ?_, fun y hy => ?_, t, r4, r5, r6⟩, fun y hy hk => ?_⟩
  · by_cases e : y = x
    · subst e
      exact Or.inl ⟨(Mk_mk hx).mpr (Or.inl rfl), by rw [sI_ne (by omega), sI_eq]; decide⟩
    · rw [sI_ne (by omega), sI_ne (by omega), mk_n e]
      rcases h1 y hy with z | z
      · exact Or.inl ⟨(Mk_mk hx).mpr (Or.inr z.1), z.2⟩
      · exact Or.inr z
  · by_cases e : y = x
    · subst e
      have e1 : (cmk σ y r b).1 8 y 1 = b := by simp [cmk]
      have e2 : lev (cmk σ y r b) y = r := by simp [lev, cmk]
      rw [sI_eq, e1, e2]
      exact ⟨rfl, hb, hr⟩
    · have e2 : lev (cmk σ x r b) y = lev σ y := by unfold lev; rw [mk_P (by omega) (by omega)]
      rw [sI_ne (by omega), sI_ne (by omega), mk_I (by omega), e2]
      exact h2 y (((Mk_mk hx).mp hy).resolve_left e)
  · rw [hT _ _ _ (by omega) (by omega)]
    by_cases e : y = x
    · subst e
      have e1 : (cmk σ y r b).1 9 y j = 0 := by simp [cmk]
      rw [e1]
      exact ⟨fun _ => (h3 y hy j hj).2 hn, fun _ => (h3 y hy j hj).2 hn⟩
    · rw [mk_I (by omega)]
      exact ⟨fun z => (h3 y hy j hj).1 (((Mk_mk hx).mp z).resolve_left e), fun z => (h3 y hy j hj).2 (fun q => z ((Mk_mk hx).mpr (Or.inr q)))⟩
  · rw [hT _ _ _ (by omega) (by omega)]
    by_cases e : y = x
    · subst e
      have e1 : (cmk σ y r b).1 8 y 4 = 0 := by simp [cmk]
      rw [e1]
      exact ⟨fun _ => (h4 y hy).2 hn, fun _ => (h4 y hy).2 hn⟩
    · rw [mk_I (by omega)]
      exact ⟨fun z => (h4 y hy).1 (((Mk_mk hx).mp z).resolve_left e), fun z => (h4 y hy).2 (fun q => z ((Mk_mk hx).mpr (Or.inr q)))⟩
  · rw [hT _ _ _ (by omega) (by omega), mk_P (by omega) (by omega)]; exact h5
  · rw [hT _ _ _ (by omega) (by omega), mk_P (by omega) (by omega)]; exact h6
  · rw [hT _ _ _ (by omega) (by omega), mk_I (by omega)]; exact h7
  · rw [hT _ _ _ (by omega) (by omega), mk_I (by omega)]; exact h8
  · rw [hT _ _ _ (by omega) (by omega), mk_I (by omega)]; exact h10
  · rw [hT _ _ _ (by omega) (by omega), mk_I (by omega)]; exact h11
  · rw [mk_I (by omega)]; exact h12
  · rw [mk_I (by omega)]; exact h14
  · rw [hT _ _ _ (by omega) (by omega), mk_I (by omega)]; exact h16 j hj
  · rw [hT _ _ _ (by omega) (by omega), mk_I (by omega)]; exact hE s hs
  · rw [hT _ _ _ (by omega) (by omega), mk_I (by omega)]; exact hW.1
  · rw [hT _ _ _ (by omega) (by omega), mk_I (by omega), mk_P (by omega) (by omega)]; exact hW.2
  · rw [hT _ _ _ (by omega) (by omega)]
    by_cases e : y = x
    · subst e
      have e1 : (cmk σ y r b).1 8 y 5 = 0 := by simp [cmk]
      rw [e1]; exact hU y hx hn
    · rw [mk_I (by omega)]; exact r1 y (((Mk_mk hx).mp hy).resolve_left e)
  · obtain ⟨a1, a2, a3, a4⟩ := r2 q hq
    refine ⟨by rw [mk_P (by omega) (by omega), mk_P (by omega) (by omega)]; exact a1, lk_congr (σ := σ) (fun y hy => ?_) a2, fun y hy => ⟨(Mk_mk hx).mpr (Or.inr (a3 y hy).1), ?_⟩, a4⟩
    · have := hne y (a3 y hy).1
      rw [mk_P (by omega) (by omega)]
    · have := hne y (a3 y hy).1
      rw [mk_I (by omega)]; exact (a3 y hy).2
  · by_cases e : y = x
    · subst e
      exact Or.inl ⟨by simp [cmk], by simp [cmk]⟩
    · rw [mk_I (by omega), mk_P (by omega) (by omega)]
      exact r3 y (((Mk_mk hx).mp hy).resolve_left e)
  · rw [hT _ _ _ (by omega) (by omega)]
    exact hU y hy (fun q => hk ((Mk_mk hx).mpr (Or.inr q)))
theorem ok_make {lv : Nat → Nat → Prop} {σ : sT} (h : OKs σ lv) {x r : Nat} {b : Int32} (hx : x < 32) (hr : r < 8) : OKs (cmk σ x r b) (jlv (jlv lv 8 x) 9 x) := by
  obtain ⟨⟨a1, a2, a3⟩, h2, h3, h4, h5, h6, h7, h8⟩ := h
  have up : ∀ {k i}, lv k i → jlv (jlv lv 8 x) 9 x k i := fun q => Or.inl (Or.inl q)
  have mk : ∀ {y}, Mk σ y → Mk (cmk σ x r b) y := fun q => (Mk_mk hx).mpr (Or.inr q)
  refine ⟨⟨fun k hk => up (a1 k hk), fun r hr => up (a2 r hr), fun s hs => up (a3 s hs)⟩, fun y hy => ?_, fun y z hy hz => ?_, fun y hy => ?_, fun y z hy hz => ?_, fun q y hq => ⟨fun hy => ?_, fun hy => ?_⟩, fun y => ⟨fun hy => ?_, fun hy => ?_⟩, fun y => ⟨fun hy => ?_, fun hy => ?_⟩⟩
  · rcases (Mk_mk hx).mp hy with rfl | z
    · exact ⟨Or.inl (Or.inr ⟨rfl, rfl⟩), Or.inr ⟨rfl, rfl⟩⟩
    · exact ⟨up (h2 y z).1, up (h2 y z).2⟩
  · by_cases e : y = x
    · subst e
      simp [cmk] at hz
      exact hz.symm
    · rw [mk_n e] at hz; exact h3 y z hy hz
  · rcases (Mk_mk hx).mp hy with rfl | z
    · exact ⟨r, hr, by simp [cmk]⟩
    · by_cases e : y = x
      · subst e
        exact ⟨r, hr, by simp [cmk]⟩
      · obtain ⟨v, hv, ev⟩ := h4 y z
        exact ⟨v, hv, by rw [mk_P (by omega) (by omega)]; exact ev⟩
  · by_cases e : y = x
    · subst e
      simp [cmk] at hz
    · rw [mk_P (by omega) (by omega)] at hz
      exact mk (h5 y z (((Mk_mk hx).mp hy).resolve_left e) hz)
  · rw [mk_P (by omega) (by omega)] at hy; exact mk ((h6 q y hq).1 hy)
  · rw [mk_P (by omega) (by omega)] at hy; exact mk ((h6 q y hq).2 hy)
  · rw [mk_P (by omega) (by omega)] at hy; exact mk ((h7 y).1 hy)
  · rw [mk_P (by omega) (by omega)] at hy; exact mk ((h7 y).2 hy)
  · rw [mk_P (by omega) (by omega)] at hy; exact (h8 y).1 hy
  · rw [mk_P (by omega) (by omega)] at hy; exact (h8 y).2 hy
theorem f_make_no {lv : Nat → Nat → Prop} {c : Nat} {σ τ : sT} (h : Inv lv c σ τ) {a b : Int32} (hc : ¬ mkOK σ a b) : d_make τ a b = (0, τ) := by
  obtain ⟨L, hs⟩ := h.1
  unfold d_make
  by_cases q0 : a < 0
  · rw [if_pos q0]
  · rw [if_neg q0]
    by_cases q1 : 32 ≤ a
    · rw [if_pos q1]
    · rw [if_neg q1]
      have hx : a.toNatClampNeg < 32 := by rw [i32_lt, i32_0] at q0; rw [i32_le, i32_32] at q1; rw [toN]; omega
      by_cases q2 : τ.1 11 0 a.toNatClampNeg = 0
      · rw [if_pos q2]
        by_cases q3 : b < 1
        · rw [if_pos q3]
        · rw [if_neg q3]
          by_cases q4 : b ≤ 8
          · rcases hs.1.1.1 _ hx with z | z
            · exact absurd q2 z.2
            · exact absurd ⟨q0, q1, z.1, q3, q4⟩ hc
          · rw [if_neg q4]
      · rw [if_neg q2]
theorem f_make_yes {lv : Nat → Nat → Prop} {c : Nat} {σ τ : sT} (h : Inv lv c σ τ) {a b : Int32} (hc : mkOK σ a b) : (d_make τ a b).1 = 1 ∧ Inv (jlv (jlv lv 8 a.toNatClampNeg) 9 a.toNatClampNeg) (c + 1) (cmk σ a.toNatClampNeg (b - 1).toNatClampNeg b) (d_make τ a b).2 ∧ ¬ lv 8 a.toNatClampNeg ∧ ¬ lv 9 a.toNatClampNeg ∧ a.toNatClampNeg < 32 := by
  obtain ⟨L, hs⟩ := h.1
  obtain ⟨q0, q1, q2, q3, q4⟩ := hc
  have hx : a.toNatClampNeg < 32 := by rw [i32_lt, i32_0] at q0; rw [i32_le, i32_32] at q1; rw [toN]; omega
  have hn : ¬ Mk σ a.toNatClampNeg := fun z => by rw [z.2] at q2; cases q2
  have h11 : τ.1 11 0 a.toNatClampNeg = 0 := by
    rcases hs.1.1.1 _ hx with z | z
    · exact absurd z.1 hn
    · exact z.2
  have hf := h.2.2.2.2 _ hx hn
  rw [i32_lt, show (1 : Int32).toInt = 1 from rfl] at q3
  have q4' := q4
  rw [i32_le, i32_8] at q4'
  have es := i32_dec (x := b) (by omega)
  have hr : (b - 1).toNatClampNeg < 8 := by rw [toN, es]; omega
  have hb : b = nI ((b - 1).toNatClampNeg + 1) := by
    rw [toN, es, show (b.toInt - 1).toNat + 1 = b.toInt.toNat by omega]
    exact Int32.toInt_inj.mp (by rw [nI_toInt (by omega)]; omega)
  have ed : d_make τ a b = (1, sI (sI τ 11 0 a.toNatClampNeg 1) 12 0 a.toNatClampNeg b) := by
    unfold d_make
    rw [if_neg q0, if_neg q1, if_pos h11, if_neg (show ¬ b < 1 by rw [i32_lt, show (1 : Int32).toInt = 1 from rfl]; exact q3), if_pos q4]
  rw [ed]
  generalize a.toNatClampNeg = x at hx hn h11 hf ⊢
  generalize (b - 1).toNatClampNeg = r at hr hb ⊢
  have up : ∀ {k i}, lv k i → jlv (jlv lv 8 x) 9 x k i := fun q => Or.inl (Or.inl q)
  have okm := (h.2.2.1.o (k := 11) (i := 0) (j := x) (x := 1) (by omega) (by omega)).o (k := 12) (i := 0) (j := x) (x := b) (by omega) (by omega)
  refine ⟨rfl, ⟨⟨L, Sim.mono ⟨rb_make hs.1 hx hn hr hb, ?_, fun y hy => ?_⟩ (by omega)⟩, ok_make h.2.1 hx hr, (show OKm _ _ _ from ⟨fun k k1 k2 => up (okm.1 k k1 k2), okm.2⟩ : OKm _ _ (1000 * c : Nat)).mono (by omega), ?_, fun y hy hk => ?_⟩, hf.1, hf.2, hx⟩
  · show _ = _
    rw [sI_ne (by omega), sI_ne (by omega), mk_P (by omega) (by omega)]; exact hs.2.1
  · have ep : cf_pres (cmk σ x r b) = cf_pres σ := pres_congr (mk_I (by omega)) (mk_P (by omega) (by omega)) (mk_P (by omega) (by omega))
    rw [ep] at hy
    have hyk := pres_ok h.2.1 hy
    have hne : y ≠ x := fun e => hn (e ▸ hyk)
    rw [mk_I (by omega)]; exact hs.2.2 y hy
  · rw [sI_ne (by omega), sI_ne (by omega), sI_ne (by omega), sI_ne (by omega)]; exact h.2.2.2.1
  · have hne : y ≠ x := fun e => hk ((Mk_mk hx).mpr (Or.inl e))
    have hk2 := h.2.2.2.2 y hy (fun q => hk ((Mk_mk hx).mpr (Or.inr q)))
    refine ⟨?_, ?_⟩
    · rintro ((z | z) | z)
      · exact hk2.1 z
      · exact hne z.2
      · exact hne z.2
    · rintro ((z | z) | z)
      · exact hk2.2 z
      · exact hne z.2
      · exact hne z.2
/-- a new room and a new reference -/
def σz : sT := (fun _ _ _ => 0, fun _ _ _ => none, fun _ _ _ => 0)
def τz : sT := (fun k i j => if k = 10 ∧ i = 0 ∧ (j = 8 ∨ j = 10 ∨ j = 14 ∨ j = 15) then -1 else 0, fun _ _ _ => none, fun _ _ _ => 0)
theorem inv_0 {lv : Nat → Nat → Prop} (h1 : ∀ k, k < 6 → lv k 0) (h2 : ∀ r, r < 24 → lv 6 r) (h3 : ∀ s, s < 16 → lv 7 s) (h4 : ∀ k, 10 ≤ k → k < 20 → lv k 0) (h5 : ∀ x, ¬ lv 8 x ∧ ¬ lv 9 x) : Inv lv 0 σz τz := by
  have hn : ∀ x, ¬ Mk σz x := fun x z => by have := z.2; cases this
  refine ⟨⟨fun _ => [], ⟨⟨fun x hx => Or.inr ⟨rfl, by simp [τz]⟩, fun x hx => absurd hx (hn x), fun x hx j hj => ⟨fun z => absurd z (hn x), fun _ => by simp [τz]⟩, fun x hx => ⟨fun z => absurd z (hn x), fun _ => by simp [τz]⟩, ⟨by simp [τz, σz, cf_num], by simp [τz, σz, cf_num], by simp [τz, σz], by simp [τz, σz], rfl⟩, by simp [τz, σz], by simp [τz, σz], 0, 0, rfl, by omega, rfl, by omega, fun j hj => by omega⟩, fun s hs => by simp [τz, σz], ⟨by simp [τz, σz], fun z => absurd rfl z⟩, ⟨fun x hx => absurd hx (hn x), fun r hr => ⟨⟨rfl, rfl⟩, trivial, (fun x hx => by cases hx), List.Pairwise.nil⟩, fun x hx => absurd hx (hn x), 0, Nat.zero_le _, rfl, fun r hr x hx => by cases hx⟩, fun x hx _ => by simp [τz]⟩, by show _ = _; simp [τz, σz, cf_num], fun x hx => by simp [cf_pres, σz] at hx⟩, ⟨⟨h1, h2, h3⟩, fun x hx => absurd hx (hn x), (fun x y hx hy => by cases hy), fun x hx => absurd hx (hn x), fun x y hx => absurd hx (hn x), (fun r y hr => ⟨(fun q => by cases q), fun q => by cases q⟩), (fun y => ⟨(fun q => by cases q), fun q => by cases q⟩), (fun y => ⟨(fun q => by cases q), fun q => by cases q⟩)⟩, ⟨h4, by simp [τz], by simp [τz], by simp [τz], by simp [τz], by simp [τz], by simp [τz], fun p hp => by simp [τz]⟩, by simp [τz], fun x _ _ => h5 x⟩
