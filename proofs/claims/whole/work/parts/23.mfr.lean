/-- what a signal touches in the reference's store, and nothing else -/
def FrM (τ τ' : sT) : Prop := (∀ k i j, ¬ k = 15 → ¬ k = 17 → ¬ (k = 10 ∧ (j = 9 ∨ j = 10)) → τ'.1 k i j = τ.1 k i j) ∧ (∀ k i j, ¬ k = 16 → ¬ (k = 10 ∧ j = 6) → τ'.2.2 k i j = τ.2.2 k i j)
theorem FrM.rf {τ : sT} : FrM τ τ := ⟨fun _ _ _ _ _ _ => rfl, fun _ _ _ _ _ => rfl⟩
theorem FrM.tr {a b c : sT} (h : FrM a b) (g : FrM b c) : FrM a c := ⟨fun k i j h1 h2 h3 => (g.1 k i j h1 h2 h3).trans (h.1 k i j h1 h2 h3), fun k i j h1 h2 => (g.2 k i j h1 h2).trans (h.2 k i j h1 h2)⟩
theorem FrM.I {τ : sT} {k i j : Nat} {x : Int32} (h : k = 15 ∨ k = 17 ∨ (k = 10 ∧ (j = 9 ∨ j = 10))) : FrM τ (sI τ k i j x) := by
  refine ⟨fun k' i' j' h1 h2 h3 => ?_, fun _ _ _ _ _ => rfl⟩
  simp only [sI]
  rw [if_neg]
  rintro ⟨rfl, rfl, rfl⟩
  rcases h with h | h | h
  · exact h1 h
  · exact h2 h
  · exact h3 h
theorem FrM.L {τ : sT} {k i j : Nat} {x : Int64} (h : k = 16 ∨ (k = 10 ∧ j = 6)) : FrM τ (sL τ k i j x) := by
  refine ⟨fun _ _ _ _ _ _ => rfl, fun k' i' j' h1 h2 => ?_⟩
  simp only [sL]
  rw [if_neg]
  rintro ⟨rfl, rfl, rfl⟩
  rcases h with h | h
  · exact h1 h
  · exact h2 h
theorem frm_come (τ : sT) (p r : Int32) : FrM τ (mf_come τ p r) := ((FrM.I (by omega)).tr (FrM.L (by omega))).tr (FrM.L (by omega))
theorem frm_want (τ : sT) (p : Int32) : FrM τ (mf_want τ p) := (FrM.I (by omega)).tr (FrM.I (by omega))
theorem frm_rouse (τ : sT) (x : Int32) : FrM τ (mf_rouse τ x) := by
  unfold mf_rouse
  split
  · exact frm_want _ _
  split
  · exact (frm_come _ _ _).tr (frm_want _ _)
  · exact frm_come _ _ _
theorem frm_aend (τ : sT) (nx : Int32) : FrM τ (mf_aend τ nx) := by
  unfold mf_aend
  refine FrM.tr ?_ (frm_want _ _)
  split
  · exact FrM.rf
  · exact FrM.I (by omega)
theorem frm_aside (τ : sT) : FrM τ (mf_aside τ) := frm_aend _ _
theorem frm_sig (τ : sT) (s : Int32) : FrM τ (mf_sig τ s) := by
  unfold mf_sig
  split
  · exact (FrM.I (by omega)).tr (frm_rouse _ _)
  · exact FrM.I (by omega)
theorem frm_sl : ∀ (n k : Nat) (τ : sT), FrM τ (mf_sl n k τ)
  | 0, _, _ => FrM.rf
  | n + 1, k, τ => (frm_sig τ _).tr (frm_sl n (k + 1) _)
theorem okm_sl {lv : Nat → Nat → Prop} {N : Int} : ∀ (n k : Nat) {τ : sT}, OKm τ lv N → OKm (mf_sl n k τ) lv N
  | 0, _, _, h => h
  | n + 1, k, _, h => okm_sl n (k + 1) (okm_sig h)
/-- the posts: how many, and that each is a semaphore -/
def Pst (τ : sT) (m : Nat) : Prop := (τ.1 10 0 20).toInt = m ∧ ∀ j, j < m → vp_in (τ.1 19 0 j) 16
theorem post_eq {τ : sT} {s : Int32} {k i j : Nat} (h : ¬ k = 19) (h2 : ¬ (k = 10 ∧ j = 20)) : (mf_post τ s).1 k i j = τ.1 k i j := by
  unfold mf_post
  simp only [sI]
  rw [if_neg (fun q => h2 ⟨q.1, q.2.2⟩), if_neg (fun q => h q.1)]
theorem post_pst {τ : sT} {s : Int32} {m : Nat} (h : Pst τ m) (hm : m < 2 ^ 20) (hs : vp_in s 16) : Pst (mf_post τ s) (m + 1) := by
  obtain ⟨h1, h2⟩ := h
  have e0 : (τ.1 10 0 20).toNatClampNeg = m := by rw [toN, h1]; rfl
  refine ⟨?_, fun j hj => ?_⟩
  · have e1 : (mf_post τ s).1 10 0 20 = τ.1 10 0 20 + 1 := by simp [mf_post, sI]
    rw [e1, i32_inc (by omega)]
    omega
  · have e2 : (mf_post τ s).1 19 0 j = if j = m then s else τ.1 19 0 j := by simp [mf_post, sI, e0]
    rw [e2]
    split
    · exact hs
    · exact h2 j (by omega)
theorem in_of_lt {x : Int32} (h0 : ¬ x < 0) (h1 : x.toInt < 16) : vp_in x 16 := vin2 h0 h1
theorem pl_ok {lv : Nat → Nat → Prop} {N : Int} : ∀ (n : Nat) {τ : sT} {m : Nat}, OKm τ lv N → Pst τ m → m + n ≤ 64 → OKm (mf_pl n τ) lv N ∧ (∃ m', m' ≤ m + n ∧ Pst (mf_pl n τ) m') ∧ (∀ k i j, ¬ k = 19 → ¬ (k = 10 ∧ j = 20) → (mf_pl n τ).1 k i j = τ.1 k i j) ∧ (mf_pl n τ).2 = τ.2
  | 0, τ, m, h, hp, hm => ⟨h, ⟨m, by omega, hp⟩, fun _ _ _ _ _ => rfl, rfl⟩
  | n + 1, τ, m, h, hp, hm => by
    unfold mf_pl
    by_cases q : τ.1 10 0 14 < 0
    · rw [if_pos q]
      obtain ⟨a1, ⟨m', a2, a3⟩, a4, a5⟩ := pl_ok n h hp (by omega)
      exact ⟨a1, ⟨m', by omega, a3⟩, a4, a5⟩
    · rw [if_neg q]
      obtain ⟨a1, ⟨m', a2, a3⟩, a4, a5⟩ := pl_ok n (τ := mf_post τ (τ.1 10 0 14)) (m := m + 1) (okm_post h) (post_pst hp (by omega) (in_of_lt q h.2.2.2.1)) (by omega)
      exact ⟨a1, ⟨m', by omega, a3⟩, fun k i j h1 h2 => (a4 k i j h1 h2).trans (post_eq h1 h2), a5⟩
theorem p2_ok {lv : Nat → Nat → Prop} {N : Int} {τ : sT} (h : OKm τ lv N) : OKm (mf_p2 τ) lv N ∧ (∃ m, m ≤ 64 ∧ Pst (mf_p2 τ) m) ∧ (∀ k i j, ¬ k = 19 → ¬ (k = 10 ∧ (j = 20 ∨ j = 13)) → (mf_p2 τ).1 k i j = τ.1 k i j) ∧ (mf_p2 τ).2 = τ.2 := by
  unfold mf_p2
  have h6 := h.2.2.2.2.2.2.1
  obtain ⟨a1, ⟨m', a2, a3⟩, a4, a5⟩ := pl_ok (τ.1 10 0 13).toNatClampNeg (τ := sI τ 10 0 20 0) (m := 0) (h.o (by omega) (by omega)) ⟨by simp [sI], fun j hj => by omega⟩ (by rw [toN]; omega)
  refine ⟨a1.f13 (by decide), ⟨m', ?_, ?_, fun j hj => ?_⟩, fun k i j h1 h2 => ?_, a5⟩
  · rw [toN] at a2; omega
  · have e : (sI (mf_pl (τ.1 10 0 13).toNatClampNeg (sI τ 10 0 20 0)) 10 0 13 0).1 10 0 20 = (mf_pl (τ.1 10 0 13).toNatClampNeg (sI τ 10 0 20 0)).1 10 0 20 := by simp [sI]
    rw [e]; exact a3.1
  · have e : (sI (mf_pl (τ.1 10 0 13).toNatClampNeg (sI τ 10 0 20 0)) 10 0 13 0).1 19 0 j = (mf_pl (τ.1 10 0 13).toNatClampNeg (sI τ 10 0 20 0)).1 19 0 j := by simp [sI]
    rw [e]; exact a3.2 j hj
  · have e : (sI (mf_pl (τ.1 10 0 13).toNatClampNeg (sI τ 10 0 20 0)) 10 0 13 0).1 k i j = (mf_pl (τ.1 10 0 13).toNatClampNeg (sI τ 10 0 20 0)).1 k i j := by
      generalize mf_pl (τ.1 10 0 13).toNatClampNeg (sI τ 10 0 20 0) = z
      simp only [sI]
      rw [if_neg (fun q => h2 ⟨q.1, Or.inr q.2.2⟩)]
    rw [e, a4 k i j h1 (fun q => h2 ⟨q.1, Or.inl q.2⟩)]
    simp only [sI]
    rw [if_neg (fun q => h2 ⟨q.1, Or.inl q.2.2⟩)]
theorem p3_ok {lv : Nat → Nat → Prop} {N : Int} {τ : sT} {m : Nat} (h : OKm τ lv N) (hp : Pst τ m) (hm : m ≤ 64) : OKm (mf_p3 τ) lv N ∧ ∃ m', m' ≤ 65 ∧ Pst (mf_p3 τ) m' := by
  unfold mf_p3
  split
  · exact ⟨h, m, by omega, hp⟩
  · next q =>
    split
    · exact ⟨h, m, by omega, hp⟩
    · have hq := post_pst hp (by omega) (in_of_lt q h.2.2.2.2.1)
      refine ⟨(okm_post h).f15 (by decide), m + 1, by omega, ?_, fun j hj => ?_⟩
      · have e : (sI (mf_post τ (τ.1 10 0 15)) 10 0 15 (-1)).1 10 0 20 = (mf_post τ (τ.1 10 0 15)).1 10 0 20 := by simp [sI]
        rw [e]; exact hq.1
      · have e : (sI (mf_post τ (τ.1 10 0 15)) 10 0 15 (-1)).1 19 0 j = (mf_post τ (τ.1 10 0 15)).1 19 0 j := by simp [sI]
        rw [e]; exact hq.2 j hj
theorem p5_ok {lv : Nat → Nat → Prop} {N : Int} {τ : sT} (h : OKm τ lv N) : OKm (mf_p5 τ) lv N := by
  unfold mf_p5
  split
  · exact h
  · exact (h.f8 h.2.2.1).o (by omega) (by omega)
theorem p15_ok {lv : Nat → Nat → Prop} {N : Int} {τ : sT} (h : OKm τ lv N) : OKm (mf_p15 τ) lv N := by
  obtain ⟨a1, ⟨m, a2, a3⟩, -⟩ := p2_ok h
  exact p5_ok (okm_sl _ _ (p3_ok a1 a3 a2).1)
theorem p6_ok {lv : Nat → Nat → Prop} {N : Int} {τ : sT} (h : OKm τ lv N) : OKm (mf_p6 τ) lv N := h.o (by omega) (by omega)
theorem okm_behind {lv : Nat → Nat → Prop} {N : Int} {τ : sT} (h : OKm τ lv N) : OKm (mf_behind τ) lv N := by
  unfold mf_behind
  split
  · exact p6_ok (p15_ok h)
  · exact p6_ok (p15_ok (p6_ok (p15_ok h)))
theorem ag_01 (τ : sT) : mf_ag τ = 0 ∨ mf_ag τ = 1 := by
  unfold mf_ag
  split
  · exact Or.inl rfl
  split
  · exact Or.inl rfl
  · exact Or.inr rfl
theorem p45_15 (τ : sT) : (mf_p5 (mf_p4 τ)).1 10 0 15 = τ.1 10 0 15 := by
  have h1 : (mf_p4 τ).1 10 0 15 = τ.1 10 0 15 := (frm_sl _ _ τ).1 10 0 15 (by omega) (by omega) (by omega)
  rw [← h1]
  unfold mf_p5
  split
  · rfl
  · simp [sI]
theorem ag_two {lv : Nat → Nat → Prop} {N : Int} {τ : sT} (h : OKm τ lv N) (h1 : mf_ag (mf_p15 τ) ≠ 0) : mf_ag (mf_p15 (mf_p6 (mf_p15 τ))) = 0 := by
  have h2 : OKm (mf_p6 (mf_p15 τ)) lv N := p6_ok (p15_ok h)
  have c1 : (mf_p6 (mf_p15 τ)).1 10 0 17 = (mf_p6 (mf_p15 τ)).1 10 0 16 := by
    unfold mf_p6
    simp only [sI]
    rw [if_neg h1]
    simp
  generalize mf_p6 (mf_p15 τ) = τ1 at h2 c1 ⊢
  obtain ⟨-, -, a4, -⟩ := p2_ok h2
  have b15 := a4 10 0 15 (by omega) (by omega)
  have b16 := a4 10 0 16 (by omega) (by omega)
  have b17 := a4 10 0 17 (by omega) (by omega)
  have e : (mf_p15 τ1).1 10 0 15 < 0 := by
    unfold mf_p15
    rw [p45_15]
    unfold mf_p3
    split
    · next q => exact q
    · split
      · next q => rw [b16, b17, c1] at q; exact absurd q (by rw [i32_lt]; omega)
      · simp [sI]
  unfold mf_ag
  split
  · rfl
  · first | rfl | rw [if_pos e]
