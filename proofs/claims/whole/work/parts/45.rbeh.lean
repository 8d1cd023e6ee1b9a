/-- the reference's store but for the posts and the alarm -/
def FrP (τ τ' : sT) : Prop := (∀ k i j, ¬ k = 19 → ¬ (k = 10 ∧ (j = 20 ∨ j = 15)) → τ'.1 k i j = τ.1 k i j) ∧ τ'.2.2 = τ.2.2
theorem FrP.rf {τ : sT} : FrP τ τ := ⟨fun _ _ _ _ _ => rfl, rfl⟩
theorem rb_frp {L : Nat → List Nat} {n : Nat} {σ τ τ' : sT} (h : RB L n σ τ) (f : FrP τ τ') : RB L n σ τ' := by
  obtain ⟨⟨h1, h2, h3, h4, ⟨h5, h6, h7, h8, h9⟩, h10, h11, b, c, h12, h13, h14, h15, h16⟩, hE, hW, ⟨r1, r2, r3, t, r4, r5, r6⟩, hU⟩ := h
  have e : ∀ k i j, ¬ k = 19 → ¬ (k = 10 ∧ (j = 20 ∨ j = 15)) → τ'.1 k i j = τ.1 k i j := f.1
  refine ⟨⟨fun x hx => ?_, fun x hx => ?_, fun x hx j hj => ?_, fun x hx => ?_, ⟨?_, ?_, ?_, ?_, ?_⟩, ?_, ?_, b, c, h12, h13, h14, h15, fun j hj => ?_⟩, fun s hs => ?_, ⟨?_, ?_⟩, ⟨fun x hx => ?_, fun r hr => ?_, r3, t, r4, ?_, fun r hr x hx => ?_⟩, fun x hx hn => ?_⟩
  · rw [e 11 0 x (by omega) (by omega)]; exact h1 x hx
  · rw [e 12 0 x (by omega) (by omega)]; exact h2 x hx
  · rw [e 13 0 _ (by omega) (by omega)]; exact h3 x hx j hj
  · rw [e 14 0 x (by omega) (by omega)]; exact h4 x hx
  · rw [e 10 0 8 (by omega) (by omega)]; exact h5
  · rw [e 10 0 14 (by omega) (by omega)]; exact h6
  · rw [e 10 0 16 (by omega) (by omega)]; exact h7
  · rw [e 10 0 17 (by omega) (by omega)]; exact h8
  · rw [f.2]; exact h9
  · rw [e 10 0 12 (by omega) (by omega)]; exact h10
  · rw [e 10 0 13 (by omega) (by omega)]; exact h11
  · rw [e 18 0 j (by omega) (by omega)]; exact h16 j hj
  · rw [e 17 0 s (by omega) (by omega)]; exact hE s hs
  · rw [e 10 0 9 (by omega) (by omega)]; exact hW.1
  · rw [e 10 0 10 (by omega) (by omega)]; exact hW.2
  · rw [e 15 0 x (by omega) (by omega)]; exact r1 x hx
  · rw [f.2]; exact r2 r hr
  · rw [f.2]; exact r5
  · rw [f.2]; exact r6 r hr x hx
  · rw [e 15 0 x (by omega) (by omega)]; exact hU x hx hn
theorem rb_al {L : Nat → List Nat} {n : Nat} {σ τ : sT} (h : RB L n σ τ) (o : Option Nat) : RB L n (sP σ 0 0 10 o) τ := by
  obtain ⟨⟨h1, h2, h3, h4, ⟨h5, h6, h7, h8, h9⟩, h10, h11, b, c, h12, h13, h14, h15, h16⟩, hE, hW, ⟨r1, r2, r3, t, r4, r5, r6⟩, hU⟩ := h
  have e : ∀ k i j, ¬ (k = 0 ∧ j = 10) → (sP σ 0 0 10 o).2.1 k i j = σ.2.1 k i j := fun k i j q => by
    simp only [sP]
    rw [if_neg (fun z => q ⟨z.1, z.2.2⟩)]
  have hm : ∀ x, Mk (sP σ 0 0 10 o) x ↔ Mk σ x := fun x => by unfold Mk; rw [e 1 0 x (by omega)]
  have hl : ∀ x, lev (sP σ 0 0 10 o) x = lev σ x := fun x => by unfold lev; rw [e 8 x 2 (by omega)]
  refine ⟨⟨fun x hx => ?_, fun x hx => ?_, fun x hx j hj => ?_, fun x hx => ?_, ⟨?_, ?_, h7, h8, h9⟩, h10, h11, b, c, h12, h13, h14, h15, h16⟩, hE, ⟨hW.1, ?_⟩, ⟨fun x hx => r1 x ((hm x).mp hx), fun r hr => ?_, fun x hx => ?_, t, r4, r5, r6⟩, fun x hx hn => hU x hx (fun q => hn ((hm x).mpr q))⟩
  · rw [hm, e 1 0 x (by omega)]; exact h1 x hx
  · rw [hl]; exact h2 x ((hm x).mp hx)
  · rw [hm]; exact h3 x hx j hj
  · rw [hm]; exact h4 x hx
  · rw [e 0 0 4 (by omega)]; exact h5
  · rw [e 0 0 9 (by omega)]; exact h6
  · rw [e 0 0 6 (by omega)]; exact hW.2
  · obtain ⟨a1, a2, a3, a4⟩ := r2 r hr
    refine ⟨by rw [e 6 r 1 (by omega), e 6 r 2 (by omega)]; exact a1, lk_congr (fun y _ => e 8 y 6 (by omega)) a2, fun x hx => ⟨(hm x).mpr (a3 x hx).1, (a3 x hx).2⟩, a4⟩
  · rw [e 8 x 6 (by omega)]; exact r3 x ((hm x).mp hx)
def mmany (v : Int32) : Nat → sT → sT
  | 0, τ => τ
  | m + 1, τ => mmany v m (mf_sig τ v)
theorem rb_many {lv : Nat → Nat → Prop} {s : Nat} (hs : s < 16) : ∀ (m : Nat) {L : Nat → List Nat} {n : Nat} {σ τ : sT}, OKs σ lv → RB L n σ τ → n + m < 2 ^ 60 → Pf σ → ∃ L', RB L' (n + m) (cf_many s m σ) (mmany (nI s) m τ) ∧ Pf (cf_many s m σ)
  | 0, L, n, σ, τ, ok, h, hn, hp => ⟨L, h, hp⟩
  | m + 1, L, n, σ, τ, ok, h, hn, hp => by
    obtain ⟨L1, h1, p1⟩ := rb_sig ok h (by omega) hp hs
    obtain ⟨L2, h2, p2⟩ := rb_many hs m (go_sig ok hs).1 h1 (by omega) p1
    exact ⟨L2, by rw [show n + (m + 1) = n + 1 + m by omega]; exact h2, p2⟩
theorem sl_many {v : Int32} : ∀ (m k : Nat) {τ : sT}, k + m ≤ 65 → (∀ j, k ≤ j → j < k + m → τ.1 19 0 j = v) → mf_sl m k τ = mmany v m τ
  | 0, _, _, _, _ => rfl
  | m + 1, k, τ, hk, h => by
    have ecl : (nI k).toNatClampNeg = k := nI_clamp (by omega)
    show mf_sl m (k + 1) (mf_sig τ (τ.1 19 0 (nI k).toNatClampNeg)) = mmany v m (mf_sig τ v)
    rw [ecl, h k (by omega) (by omega)]
    exact sl_many m (k + 1) (by omega) (fun j h1 h2 => by rw [(frm_sig τ v).1 19 0 j (by omega) (by omega) (by omega)]; exact h j (by omega) (by omega))
theorem sl_split : ∀ (m k q : Nat) (τ : sT), mf_sl (m + q) k τ = mf_sl q (k + m) (mf_sl m k τ)
  | 0, k, q, τ => by rw [Nat.zero_add]; rfl
  | m + 1, k, q, τ => by
    rw [show m + 1 + q = (m + q) + 1 by omega]
    show mf_sl (m + q) (k + 1) _ = mf_sl q (k + (m + 1)) (mf_sl m (k + 1) _)
    rw [sl_split m (k + 1) q]
    rw [show k + 1 + m = k + (m + 1) by omega]
theorem frm_many (v : Int32) : ∀ (m : Nat) (τ : sT), FrM τ (mmany v m τ)
  | 0, _ => FrM.rf
  | m + 1, τ => (frm_sig τ v).tr (frm_many v m _)
/-- the posts of the words -/
theorem pl_pos : ∀ (n : Nat) {τ : sT} {m : Nat}, ¬ τ.1 10 0 14 < 0 → (τ.1 10 0 20).toInt = m → m + n ≤ 64 → ((mf_pl n τ).1 10 0 20).toInt = m + n ∧ (∀ j, (mf_pl n τ).1 19 0 j = if m ≤ j ∧ j < m + n then τ.1 10 0 14 else τ.1 19 0 j) ∧ FrP τ (mf_pl n τ) ∧ (mf_pl n τ).1 10 0 15 = τ.1 10 0 15
  | 0, τ, m, hi, hm, hn => ⟨by rw [show mf_pl 0 τ = τ from rfl, hm]; omega, fun j => by rw [if_neg (by omega)]; rfl, FrP.rf, rfl⟩
  | n + 1, τ, m, hi, hm, hn => by
    have e0 : (τ.1 10 0 20).toNatClampNeg = m := by rw [toN, hm]; rfl
    have e1 : mf_pl (n + 1) τ = mf_pl n (mf_post τ (τ.1 10 0 14)) := by rw [mf_pl, if_neg hi]
    have e2 : (mf_post τ (τ.1 10 0 14)).1 10 0 14 = τ.1 10 0 14 := post_eq (by omega) (by omega)
    have e3 : ((mf_post τ (τ.1 10 0 14)).1 10 0 20).toInt = ((m + 1 : Nat) : Int) := by
      have : (mf_post τ (τ.1 10 0 14)).1 10 0 20 = τ.1 10 0 20 + 1 := by simp [mf_post, sI]
      rw [this, i32_inc (by omega)]; omega
    obtain ⟨a1, a2, a3, a4⟩ := pl_pos n (τ := mf_post τ (τ.1 10 0 14)) (m := m + 1) (by rw [e2]; exact hi) e3 (by omega)
    rw [e1]
    refine ⟨by rw [a1]; omega, fun j => ?_, ⟨fun k i j h1 h2 => (a3.1 k i j h1 h2).trans (post_eq h1 (fun q => h2 ⟨q.1, Or.inl q.2⟩)), a3.2⟩, a4.trans (post_eq (by omega) (by omega))⟩
    rw [a2 j, e2]
    have e4 : (mf_post τ (τ.1 10 0 14)).1 19 0 j = if j = m then τ.1 10 0 14 else τ.1 19 0 j := by simp [mf_post, sI, e0]
    rw [e4]
    by_cases c1 : m + 1 ≤ j ∧ j < m + 1 + n
    · rw [if_pos c1, if_pos (by omega)]
    · rw [if_neg c1]
      by_cases c2 : j = m
      · rw [if_pos c2, if_pos (by omega)]
      · rw [if_neg c2, if_neg (by omega)]
theorem pl_neg : ∀ (n : Nat) {τ : sT}, τ.1 10 0 14 < 0 → mf_pl n τ = τ
  | 0, _, _ => rfl
  | n + 1, τ, h => by rw [mf_pl, if_pos h]; exact pl_neg n h
def RelA (σ τ : sT) : Prop := τ.1 10 0 15 = cf_num (σ.2.1 0 0 10)
def Sim (L : Nat → List Nat) (n : Nat) (σ τ : sT) : Prop := RB L n σ τ ∧ RelA σ τ ∧ Pf σ
theorem Sim.mono {L : Nat → List Nat} {n m : Nat} {σ τ : sT} (h : Sim L n σ τ) (hm : n ≤ m) : Sim L m σ τ := ⟨h.1.mono hm, h.2⟩
/-- both forget the news -/
theorem rb_news {L : Nat → List Nat} {n : Nat} {σ τ : sT} (h : RB L n σ τ) (v : Int32) : RB L n (sI σ 4 0 3 v) (sI τ 10 0 13 v) := by
  obtain ⟨⟨h1, h2, h3, h4, ⟨h5, h6, h7, h8, h9⟩, h10, h11, b, c, h12, h13, h14, h15, h16⟩, hE, hW, ⟨r1, r2, r3, t, r4, r5, r6⟩, hU⟩ := h
  have e : ∀ k i j, ¬ (k = 10 ∧ j = 13) → (sI τ 10 0 13 v).1 k i j = τ.1 k i j := fun k i j q => by
    simp only [sI]
    rw [if_neg (fun z => q ⟨z.1, z.2.2⟩)]
  have f : ∀ k i j, ¬ (k = 4 ∧ j = 3) → (sI σ 4 0 3 v).1 k i j = σ.1 k i j := fun k i j q => by
    simp only [sI]
    rw [if_neg (fun z => q ⟨z.1, z.2.2⟩)]
  refine ⟨⟨fun x hx => ?_, fun x hx => ?_, fun x hx j hj => ?_, fun x hx => ?_, ⟨?_, ?_, ?_, ?_, h9⟩, ?_, ?_, b, c, ?_, h13, ?_, h15, fun j hj => ?_⟩, fun s hs => ?_, ⟨?_, ?_⟩, ⟨fun x hx => ?_, fun r hr => ?_, fun x hx => ?_, t, r4, r5, r6⟩, fun x hx hn => ?_⟩
  · rw [e 11 0 x (by omega)]; exact h1 x hx
  · rw [e 12 0 x (by omega), f 8 x 1 (by omega)]; exact h2 x hx
  · rw [e 13 0 _ (by omega), f 9 x j (by omega)]; exact h3 x hx j hj
  · rw [e 14 0 x (by omega), f 8 x 4 (by omega)]; exact h4 x hx
  · rw [e 10 0 8 (by omega)]; exact h5
  · rw [e 10 0 14 (by omega)]; exact h6
  · rw [e 10 0 16 (by omega), f 0 0 11 (by omega)]; exact h7
  · rw [e 10 0 17 (by omega), f 0 0 7 (by omega)]; exact h8
  · rw [e 10 0 12 (by omega), f 4 0 2 (by omega)]; exact h10
  · simp [sI]
  · rw [f 4 0 1 (by omega)]; exact h12
  · rw [f 4 0 2 (by omega)]; exact h14
  · rw [e 18 0 j (by omega), f 5 0 _ (by omega)]; exact h16 j hj
  · rw [e 17 0 s (by omega), f 7 s 2 (by omega)]; exact hE s hs
  · rw [e 10 0 9 (by omega), f 0 0 5 (by omega)]; exact hW.1
  · rw [e 10 0 10 (by omega), f 0 0 5 (by omega)]; exact hW.2
  · rw [e 15 0 x (by omega), f 8 x 5 (by omega)]; exact r1 x hx
  · obtain ⟨a1, a2, a3, a4⟩ := r2 r hr
    exact ⟨a1, lk_congr (σ := σ) (fun y _ => rfl) a2, fun x hx => ⟨(a3 x hx).1, by rw [f 8 x 5 (by omega)]; exact (a3 x hx).2⟩, a4⟩
  · rw [f 8 x 5 (by omega)]; exact r3 x hx
  · rw [e 15 0 x (by omega)]; exact hU x hx hn
