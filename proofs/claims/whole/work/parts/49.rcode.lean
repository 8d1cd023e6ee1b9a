theorem rb_done {L : Nat → List Nat} {n : Nat} {σ τ : sT} (h : RB L n σ τ) {x : Nat} (hx : Mk σ x) (v : Int32) : RB L n (sI σ 8 x 4 v) (sI τ 14 0 x v) := by
  obtain ⟨⟨h1, h2, h3, h4, ⟨h5, h6, h7, h8, h9⟩, h10, h11, b, c, h12, h13, h14, h15, h16⟩, hE, hW, ⟨r1, r2, r3, t, r4, r5, r6⟩, hU⟩ := h
  refine ⟨⟨fun y hy => ?_, fun y hy => ?_, fun y hy j hj => ?_, fun y hy => ?_, ⟨?_, ?_, ?_, ?_, h9⟩, ?_, ?_, b, c, ?_, h13, ?_, h15, fun j hj => ?_⟩, fun s hs => ?_, ⟨?_, ?_⟩, ⟨fun y hy => ?_, fun r hr => ?_, fun y hy => ?_, t, r4, r5, r6⟩, fun y hy hn => ?_⟩
  · rw [sI_ne (by omega)]; exact h1 y hy
  · rw [sI_ne (by omega), sI_ne (by omega)]; exact h2 y hy
  · rw [sI_ne (by omega), sI_ne (by omega)]; exact h3 y hy j hj
  · by_cases e : y = x
    · subst e
      rw [sI_eq, sI_eq]
      exact ⟨fun _ => rfl, fun z => absurd hx z⟩
    · rw [sI_ne (by omega), sI_ne (by omega)]; exact h4 y hy
  · rw [sI_ne (by omega)]; exact h5
  · rw [sI_ne (by omega)]; exact h6
  · rw [sI_ne (by omega), sI_ne (by omega)]; exact h7
  · rw [sI_ne (by omega), sI_ne (by omega)]; exact h8
  · rw [sI_ne (by omega), sI_ne (by omega)]; exact h10
  · rw [sI_ne (by omega), sI_ne (by omega)]; exact h11
  · rw [sI_ne (by omega)]; exact h12
  · rw [sI_ne (by omega)]; exact h14
  · rw [sI_ne (by omega), sI_ne (by omega)]; exact h16 j hj
  · rw [sI_ne (by omega), sI_ne (by omega)]; exact hE s hs
  · rw [sI_ne (by omega), sI_ne (by omega)]; exact hW.1
  · rw [sI_ne (by omega), sI_ne (by omega)]; exact hW.2
  · rw [sI_ne (by omega), sI_ne (by omega)]; exact r1 y hy
  · obtain ⟨a1, a2, a3, a4⟩ := r2 r hr
    exact ⟨a1, lk_congr (σ := σ) (fun y _ => rfl) a2, fun y hy => ⟨(a3 y hy).1, by rw [sI_ne (by omega)]; exact (a3 y hy).2⟩, a4⟩
  · rw [sI_ne (by omega)]; exact r3 y hy
  · rw [sI_ne (by omega)]; exact hU y hy hn
theorem st_done {L : Nat → List Nat} {n : Nat} {σ τ : sT} (h : Sim L n σ τ) {x : Nat} (hx : Mk σ x) (v : Int32) : Sim L n (sI σ 8 x 4 v) (sI τ 14 0 x v) :=
  st_of h (rb_done h.1 hx v) (sI_ne (by omega)) rfl (pres_congr (sI_ne (by omega)) rfl rfl) (fun y => sI_ne (by omega))
theorem st_codes {L : Nat → List Nat} {n : Nat} {σ τ : sT} (h : Sim L n σ τ) (v : Int64) : Sim L n (sL σ 0 0 8 v) (sL τ 10 0 18 v) := by
  have h5 := h.1.1.2.2.2.2.1
  refine st_of h (rb_core h.1 (fun k i j hk => rfl) (fun k i j hk => rfl) (fun k i j hk => rfl) ⟨rfl, rfl⟩ ⟨fun _ => sL_ne (by omega), sL_ne (by omega)⟩ ⟨h5.1, h5.2.1, h5.2.2.1, h5.2.2.2.1, by rw [sL_eq, sL_eq]⟩ h.1.2.2.1) rfl rfl rfl (fun x => rfl)
theorem a_eq {L : Nat → List Nat} {n : Nat} {σ τ : sT} {lv : Nat → Nat → Prop} {N : Int} (okm : OKm τ lv N) (h : Sim L n σ τ) {x : Nat} (hx : Mk σ x) (ha : σ.2.1 0 0 4 = some x) : mf_a τ = cf_next σ x := by
  have hx32 := hx.1
  have h8 : τ.1 10 0 8 = nI x := by rw [h.1.1.2.2.2.2.1.1, ha]; rfl
  have h4 := (h.1.1.2.2.2.1 x hx32).1 hx
  have hd := okm.2.2.2.2.2.2.2 x hx32
  have ecl : (nI x).toNatClampNeg = x := nI_clamp (by omega)
  obtain ⟨m, hm, em⟩ := nI_of (x := τ.1 14 0 x) (by rw [i32_lt, i32_0]; omega)
  unfold mf_a cf_next
  rw [h8, ecl, ← h4, em, show (8 : Int32) = nI 8 from rfl, fmod_nat hm (by omega) (by omega), pk_rem hm (by omega) (by omega), pk_mul, nI_add]
  have hlt : m % 8 < 8 := Nat.mod_lt _ (by omega)
  rw [nI_clamp (by omega), nI_clamp (by omega)]
  exact (h.1.1.2.2.1 x hx32 (m % 8) hlt).1 hx
theorem st_code {L : Nat → List Nat} {n : Nat} {σ τ : sT} {lv : Nat → Nat → Prop} {N : Int} (ok : OKs σ lv) (okm : OKm τ lv N) (h : Sim L n σ τ) (hn : n < 2 ^ 60) {x : Nat} (ha : σ.2.1 0 0 4 = some x) : ∃ L', Sim L' (n + 1) (cf_code σ x) (mf_code τ) := by
  have hx := ok.ac ha
  have hx32 := hx.1
  have h8 : τ.1 10 0 8 = nI x := by rw [h.1.1.2.2.2.2.1.1, ha]; rfl
  have ecl : (nI x).toNatClampNeg = x := nI_clamp (by omega)
  have h4 := (h.1.1.2.2.2.1 x hx32).1 hx
  have h1 := st_done h hx (σ.1 8 x 4 + 1)
  obtain ⟨L1, h2⟩ := st_act (σ := sI σ 8 x 4 (σ.1 8 x 4 + 1)) ok.I h1 hn (cf_next σ x)
  have e1 : mf_act (sI τ 14 0 (τ.1 10 0 8).toNatClampNeg (τ.1 14 0 (τ.1 10 0 8).toNatClampNeg + 1)) (mf_a τ) = mf_act (sI τ 14 0 x (σ.1 8 x 4 + 1)) (cf_next σ x) := by
    rw [a_eq okm h hx ha, h8, ecl, h4]
  unfold cf_code mf_code
  rw [e1]
  generalize mf_act (sI τ 14 0 x (σ.1 8 x 4 + 1)) (cf_next σ x) = τ1 at h2 ⊢
  generalize cf_act (sI σ 8 x 4 (σ.1 8 x 4 + 1)) (cf_next σ x) = σ1 at h2 ⊢
  have hc := h2.1.1.2.2.2.2.1.2.2.2.2
  dsimp only
  rw [hc]
  have h3 := st_codes h2 (σ1.2.2 0 0 8 + 1)
  rw [sL_eq, sL_eq]
  have hk := h3.1.1.2.2.2.2.1.2.2.2.1
  rw [hk]
  by_cases q : σ1.2.2 0 0 8 + 1 - (σ1.2.2 0 0 8 + 1) / 64 * 64 = 0
  · rw [if_pos q, if_pos q]
    exact ⟨L1, st_clock h3 _⟩
  · rw [if_neg q, if_neg q, ← hk, sI_self]
    exact ⟨L1, h3⟩
theorem st_loop {lv : Nat → Nat → Prop} : ∀ (m : Nat) {L : Nat → List Nat} {n : Nat} {σ τ : sT} {N : Int}, OKs σ lv → OKm τ lv N → N + m < 2147483647 → Sim L n σ τ → n + 131 * m < 2 ^ 60 → (cf_loop m σ).1 = (mf_loop m τ).1 ∧ (∃ L', Sim L' (n + 131 * m) (cf_loop m σ).2 (mf_loop m τ).2) ∧ OKm (mf_loop m τ).2 lv (N + m)
  | 0, L, n, σ, τ, N, ok, okm, hN, h, hn => ⟨rfl, ⟨L, h⟩, by rw [show N + ((0 : Nat) : Int) = N by omega]; exact okm⟩
  | m + 1, L, n, σ, τ, N, ok, okm, hN, h, hn => by
    have h8 := h.1.1.2.2.2.2.1.1
    have okm1 : OKm τ lv (N + ((m + 1 : Nat) : Int)) := ⟨okm.1, okm.2.1, okm.2.2.1, okm.2.2.2.1, okm.2.2.2.2.1, okm.2.2.2.2.2.1, okm.2.2.2.2.2.2.1, fun p hp => by have := okm.2.2.2.2.2.2.2 p hp; omega⟩
    unfold cf_loop mf_loop
    cases ha : σ.2.1 0 0 4 with
    | none =>
      rw [ha] at h8
      rw [h8, if_pos num_none]
      exact ⟨rfl, ⟨L, h.mono (by omega)⟩, okm1⟩
    | some x =>
      rw [ha] at h8
      have hx := ok.ac ha
      have hng : ¬ τ.1 10 0 8 < 0 := by rw [h8]; exact num_some hx.1
      rw [if_neg hng]
      obtain ⟨L1, h1⟩ := st_code ok okm h (by omega) ha
      have ok1 := (go_code (x := x) ok).1
      have okm2 := okm_code okm (by omega) hng
      obtain ⟨L2, h2⟩ := st_behind ok1 okm2 h1 (by omega)
      have ok2 := (go_behind ok1).1
      have okm3 := okm_behind okm2
      obtain ⟨e, ⟨L3, h3⟩, okm4⟩ := st_loop m ok2 okm3 (by omega) h2 (by omega)
      refine ⟨by dsimp only; rw [e], ⟨L3, ?_⟩, ?_⟩
      · rw [show n + 131 * (m + 1) = n + 1 + 130 + 131 * m by omega]; exact h3
      · rw [show N + ((m + 1 : Nat) : Int) = N + 1 + (m : Int) by omega]; exact okm4
