theorem FrP.tr {a b c : sT} (h : FrP a b) (g : FrP b c) : FrP a c := ⟨fun k i j h1 h2 => (g.1 k i j h1 h2).trans (h.1 k i j h1 h2), g.2.trans h.2⟩
theorem p2_frp {τ : sT} (h : FrP (sI τ 10 0 20 0) (mf_pl (τ.1 10 0 13).toNatClampNeg (sI τ 10 0 20 0))) : FrP (sI τ 10 0 13 0) (mf_p2 τ) := by
  refine ⟨fun k i j h1 h2 => ?_, h.2⟩
  have e := h.1 k i j h1 h2
  have e2 : (sI τ 10 0 20 0).1 k i j = τ.1 k i j := by
    simp only [sI]
    rw [if_neg (fun z => h2 ⟨z.1, Or.inl z.2.2⟩)]
  rw [e2] at e
  unfold mf_p2
  generalize mf_pl (τ.1 10 0 13).toNatClampNeg (sI τ 10 0 20 0) = z at e ⊢
  simp only [sI]
  by_cases c : k = 10 ∧ i = 0 ∧ j = 13
  · rw [if_pos c, if_pos c]
  · rw [if_neg c, if_neg c]; exact e
/-- the words' posts: how many, what, and nothing else -/
theorem p2_all {lv : Nat → Nat → Prop} {N : Int} {τ : sT} (ok : OKm τ lv N) : ∃ m, m = (if τ.1 10 0 14 < 0 then 0 else (τ.1 10 0 13).toNatClampNeg) ∧ m ≤ 64 ∧ ((mf_p2 τ).1 10 0 20).toInt = m ∧ (∀ j, j < m → (mf_p2 τ).1 19 0 j = τ.1 10 0 14) ∧ FrP (sI τ 10 0 13 0) (mf_p2 τ) ∧ (mf_p2 τ).1 10 0 15 = τ.1 10 0 15 := by
  have h6 := ok.2.2.2.2.2.2.1
  have hc : (τ.1 10 0 13).toNatClampNeg ≤ 64 := by rw [toN]; omega
  have f15 := (p2_ok ok).2.2.1 10 0 15 (by omega) (by omega)
  by_cases q : τ.1 10 0 14 < 0
  · have q2 : (sI τ 10 0 20 0).1 10 0 14 < 0 := by simpa [sI] using q
    have e := pl_neg (τ.1 10 0 13).toNatClampNeg q2
    refine ⟨0, by rw [if_pos q], by omega, ?_, fun j hj => absurd hj (by omega), p2_frp (by rw [e]; exact FrP.rf), f15⟩
    unfold mf_p2
    rw [e]
    simp [sI]
  · have q2 : ¬ (sI τ 10 0 20 0).1 10 0 14 < 0 := by simpa [sI] using q
    obtain ⟨a1, a2, a3, a4⟩ := pl_pos (τ.1 10 0 13).toNatClampNeg (m := 0) q2 (by simp [sI]) (by omega)
    refine ⟨(τ.1 10 0 13).toNatClampNeg, by rw [if_neg q], hc, ?_, fun j hj => ?_, p2_frp a3, f15⟩
    · have e : (mf_p2 τ).1 10 0 20 = (mf_pl (τ.1 10 0 13).toNatClampNeg (sI τ 10 0 20 0)).1 10 0 20 := by
        unfold mf_p2
        generalize mf_pl (τ.1 10 0 13).toNatClampNeg (sI τ 10 0 20 0) = z
        simp [sI]
      rw [e, a1]; omega
    · have e : (mf_p2 τ).1 19 0 j = (mf_pl (τ.1 10 0 13).toNatClampNeg (sI τ 10 0 20 0)).1 19 0 j := by
        unfold mf_p2
        generalize mf_pl (τ.1 10 0 13).toNatClampNeg (sI τ 10 0 20 0) = z
        simp [sI]
      rw [e, a2 j, if_pos (by omega)]
      simp [sI]
theorem p3_frp (τ : sT) : FrP τ (mf_p3 τ) := by
  unfold mf_p3
  split
  · exact FrP.rf
  split
  · exact FrP.rf
  · refine ⟨fun k i j h1 h2 => ?_, rfl⟩
    have e : (sI (mf_post τ (τ.1 10 0 15)) 10 0 15 (-1)).1 k i j = (mf_post τ (τ.1 10 0 15)).1 k i j := by
      generalize mf_post τ (τ.1 10 0 15) = z
      simp only [sI]
      rw [if_neg (fun z => h2 ⟨z.1, Or.inr z.2.2⟩)]
    rw [e]
    exact post_eq h1 (fun z => h2 ⟨z.1, Or.inl z.2⟩)
/-- the words are signalled in both, whatever the reference's alarm is -/
theorem rb_words {L : Nat → List Nat} {n : Nat} {σ τ τ3 : sT} {lv : Nat → Nat → Prop} {N : Int} {m : Nat} (ok : OKs σ lv) (okm : OKm τ lv N) (h : RB L n σ τ) (hn : n + 64 < 2 ^ 60) (hp : Pf σ) (hm : m = (if τ.1 10 0 14 < 0 then 0 else (τ.1 10 0 13).toNatClampNeg)) (hf : FrP (sI τ 10 0 13 0) τ3) : ∃ L', RB L' (n + 64) (cf_words σ) (mmany (τ.1 10 0 14) m τ3) ∧ Pf (cf_words σ) := by
  have h6 := okm.2.2.2.2.2.2.1
  have h0 := rb_frp (rb_news h 0) hf
  have hp0 : Pf (sI σ 4 0 3 0) := fun y hy => by
    have e : cf_pres (sI σ 4 0 3 0) = cf_pres σ := pres_congr (by simp [sI]) rfl rfl
    rw [e] at hy
    have e2 : (sI σ 4 0 3 0).1 8 y 5 = σ.1 8 y 5 := by simp [sI]
    rw [e2]; exact hp y hy
  have hin := h.1.2.2.2.2.1.2.1
  have hnews := h.1.2.2.2.2.2.2.1
  unfold cf_words
  cases hq : σ.2.1 0 0 9 with
  | none =>
    rw [hq] at hin
    rw [hin, if_pos num_none] at hm
    subst hm
    exact ⟨L, h0.mono (by omega), hp0⟩
  | some s =>
    rw [hq] at hin
    have hs := ok.inp hq
    rw [hin, if_neg (num_some (by omega)), hnews] at hm
    rw [hin, show cf_num (some s) = nI s from rfl]
    have hc : (σ.1 4 0 3).toNatClampNeg ≤ 64 := by rw [← hnews, toN]; omega
    subst hm
    obtain ⟨L1, h1, p1⟩ := rb_many hs (σ.1 4 0 3).toNatClampNeg ok.I h0 (by omega) hp0
    exact ⟨L1, h1.mono (by omega), p1⟩
theorem fr_words (σ : sT) : Fr (sI σ 4 0 3 0) (cf_words σ) := by
  unfold cf_words
  cases σ.2.1 0 0 9 with
  | none => exact Fr.rf
  | some s => exact fr_many s _ _
theorem rb_due {L : Nat → List Nat} {n : Nat} {σ τ : sT} {lv : Nat → Nat → Prop} {N : Int} (ok : OKs σ lv) (okm : OKm τ lv N) (h : Sim L n σ τ) (hn : n + 65 < 2 ^ 60) : ∃ L', Sim L' (n + 65) (cf_due (cf_words σ)) (mf_p4 (mf_p3 (mf_p2 τ))) := by
  obtain ⟨hB, hA, hp⟩ := h
  obtain ⟨m, hm, hm64, b1, b2, b3, b4⟩ := p2_all okm
  have f17 := (p2_ok okm).2.2.1 10 0 17 (by omega) (by omega)
  have f16 := (p2_ok okm).2.2.1 10 0 16 (by omega) (by omega)
  have fw := fr_words σ
  have ok1 := (go_words ok).1
  have w10 : (cf_words σ).2.1 0 0 10 = σ.2.1 0 0 10 := (fw.2.1 0 0 10 (by omega) (by omega) (by omega)).trans rfl
  have w7 : (cf_words σ).1 0 0 7 = σ.1 0 0 7 := (fw.1 0 0 7 (by omega) (by omega) (by omega)).trans (by simp [sI])
  have w11 : (cf_words σ).1 0 0 11 = σ.1 0 0 11 := (fw.1 0 0 11 (by omega) (by omega) (by omega)).trans (by simp [sI])
  have hck := hB.1.2.2.2.2.1
  have hA' : τ.1 10 0 15 = cf_num (σ.2.1 0 0 10) := hA
  -- where the alarm is not due
  have plain : mf_p3 (mf_p2 τ) = mf_p2 τ → cf_due (cf_words σ) = cf_words σ → ∃ L', Sim L' (n + 65) (cf_due (cf_words σ)) (mf_p4 (mf_p3 (mf_p2 τ))) := by
    intro e1 e2
    rw [e1, e2]
    obtain ⟨L1, h1, p1⟩ := rb_words ok okm hB (by omega) hp hm b3
    have e3 : mf_p4 (mf_p2 τ) = mmany (τ.1 10 0 14) m (mf_p2 τ) := by
      unfold mf_p4
      have e0 : ((mf_p2 τ).1 10 0 20).toNatClampNeg = m := by rw [toN, b1]; rfl
      rw [e0]
      exact sl_many m 0 (by omega) (fun j _ hj => b2 j (by omega))
    rw [e3]
    refine ⟨L1, h1.mono (by omega), ?_, p1⟩
    show (mmany (τ.1 10 0 14) m (mf_p2 τ)).1 10 0 15 = cf_num ((cf_words σ).2.1 0 0 10)
    rw [(frm_many _ m _).1 10 0 15 (by omega) (by omega) (by omega), b4, w10]
    exact hA'
  cases hal : σ.2.1 0 0 10 with
  | none =>
    apply plain
    · unfold mf_p3
      rw [b4, hA', hal, if_pos num_none]
    · unfold cf_due
      rw [w10, hal]
  | some al =>
    have hal16 := ok.al hal
    by_cases hd : σ.1 0 0 11 ≤ σ.1 0 0 7
    · -- due
      have c1 : ¬ (mf_p2 τ).1 10 0 15 < 0 := by rw [b4, hA', hal]; exact num_some (by omega)
      have c2 : ¬ (mf_p2 τ).1 10 0 17 < (mf_p2 τ).1 10 0 16 := by
        rw [f17, f16, hck.2.2.2.1, hck.2.2.1, i32_lt]
        rw [i32_le] at hd
        omega
      have e1 : mf_p3 (mf_p2 τ) = sI (mf_post (mf_p2 τ) (nI al)) 10 0 15 (-1) := by
        unfold mf_p3
        rw [if_neg c1, if_neg c2, b4, hA', hal]
        rfl
      have e2 : cf_due (cf_words σ) = cf_sig (sP (cf_words σ) 0 0 10 none) al := by
        unfold cf_due
        rw [w10, hal]
        dsimp only
        rw [w11, w7, if_pos hd]
      have hf3 : FrP (sI τ 10 0 13 0) (mf_p3 (mf_p2 τ)) := b3.tr (p3_frp _)
      obtain ⟨L1, h1, p1⟩ := rb_words ok okm hB (by omega) hp hm hf3
      have e0 : ((mf_p2 τ).1 10 0 20).toNatClampNeg = m := by rw [toN, b1]; rfl
      -- the posts
      have q20 : (mf_p3 (mf_p2 τ)).1 10 0 20 = (mf_p2 τ).1 10 0 20 + 1 := by
        rw [e1]
        generalize mf_p2 τ = z
        simp [mf_post, sI]
      have q19 : ∀ j, (mf_p3 (mf_p2 τ)).1 19 0 j = if j = m then nI al else (mf_p2 τ).1 19 0 j := by
        intro j
        rw [e1]
        have : (mf_post (mf_p2 τ) (nI al)).1 19 0 j = if j = m then nI al else (mf_p2 τ).1 19 0 j := by
          rw [← e0]
          generalize mf_p2 τ = z
          simp [mf_post, sI]
        rw [← this]
        generalize mf_post (mf_p2 τ) (nI al) = z
        simp [sI]
      have e20 : ((mf_p3 (mf_p2 τ)).1 10 0 20).toNatClampNeg = m + 1 := by
        rw [q20, toN, i32_inc (by omega), b1]; omega
      have e3 : mf_p4 (mf_p3 (mf_p2 τ)) = mf_sig (mmany (τ.1 10 0 14) m (mf_p3 (mf_p2 τ))) (nI al) := by
        unfold mf_p4
        rw [e20, sl_split m 0 1]
        have e4 : mf_sl m 0 (mf_p3 (mf_p2 τ)) = mmany (τ.1 10 0 14) m (mf_p3 (mf_p2 τ)) := sl_many m 0 (by omega) (fun j _ hj => by rw [q19, if_neg (by omega)]; exact b2 j (by omega))
        rw [e4]
        rw [show ∀ (k : Nat) (z : sT), mf_sl 1 k z = mf_sig z (z.1 19 0 (nI k).toNatClampNeg) from fun _ _ => rfl]
        rw [Nat.zero_add, nI_clamp (by omega), (frm_many _ m _).1 19 0 m (by omega) (by omega) (by omega), q19, if_pos rfl]
      rw [e2, e3]
      have ok2 : OKs (sP (cf_words σ) 0 0 10 none) lv := (GO.S ok1 (Or.inr rfl) (fun y q => by cases q)).1
      have p2 : Pf (sP (cf_words σ) 0 0 10 none) := fun y hy => by
        have e : cf_pres (sP (cf_words σ) 0 0 10 none) = cf_pres (cf_words σ) := pres_congr rfl (by simp [sP]) (by simp [sP])
        rw [e] at hy
        exact p1 y hy
      obtain ⟨L2, h2, p3⟩ := rb_sig ok2 (rb_al h1 none) (by omega) p2 hal16
      refine ⟨L2, h2.mono (by omega), ?_, p3⟩
      show (mf_sig (mmany (τ.1 10 0 14) m (mf_p3 (mf_p2 τ))) (nI al)).1 10 0 15 = cf_num ((cf_sig (sP (cf_words σ) 0 0 10 none) al).2.1 0 0 10)
      rw [(frm_sig _ _).1 10 0 15 (by omega) (by omega) (by omega), (frm_many _ m _).1 10 0 15 (by omega) (by omega) (by omega), (fr_sig _ _).2.1 0 0 10 (by omega) (by omega) (by omega), e1]
      generalize mf_post (mf_p2 τ) (nI al) = z
      simp [sI, sP]
      rfl
    · apply plain
      · unfold mf_p3
        rw [f17, f16, hck.2.2.2.1, hck.2.2.1]
        have : σ.1 0 0 7 < σ.1 0 0 11 := by rw [i32_lt]; rw [i32_le] at hd; omega
        rw [if_pos this]
        split <;> rfl
      · unfold cf_due
        rw [w10, hal]
        dsimp only
        rw [w11, w7, if_neg hd]
