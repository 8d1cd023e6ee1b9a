/-- the relation where only the words have changed -/
theorem rb_wrd {L : Nat → List Nat} {n : Nat} {σ τ σ' τ' : sT} (h : RB L n σ τ) (hI : ∀ k i j, ¬ k = 4 → ¬ k = 5 → σ'.1 k i j = σ.1 k i j) (hP : σ'.2 = σ.2) (hT : ∀ k i j, ¬ k = 18 → ¬ (k = 10 ∧ (j = 12 ∨ j = 13)) → τ'.1 k i j = τ.1 k i j) (hL : τ'.2.2 = τ.2.2)
    (hw : τ'.1 10 0 12 = σ'.1 4 0 2 ∧ τ'.1 10 0 13 = σ'.1 4 0 3 ∧ ∃ b c : Nat, σ'.1 4 0 1 = nI b ∧ b < 64 ∧ σ'.1 4 0 2 = nI c ∧ c ≤ 64 ∧ ∀ j, j < c → τ'.1 18 0 j = σ'.1 5 0 ((b + j) % 64)) : RB L n σ' τ' := by
  obtain ⟨⟨h1, h2, h3, h4, ⟨h5, h6, h7, h8, h9⟩, -⟩, hE, hW, ⟨r1, r2, r3, t, r4, r5, r6⟩, hU⟩ := h
  have hm : ∀ x, Mk σ' x ↔ Mk σ x := fun x => by unfold Mk; rw [hP]
  have hl : ∀ x, lev σ' x = lev σ x := fun x => by unfold lev; rw [hP]
  refine ⟨⟨fun x hx => ?_, fun x hx => ?_, fun x hx j hj => ?_, fun x hx => ?_, ⟨?_, ?_, ?_, ?_, ?_⟩, hw⟩, fun s hs => ?_, ⟨?_, ?_⟩, ⟨fun x hx => ?_, fun r hr => ?_, fun x hx => ?_, t, r4, ?_, fun r hr x hx => ?_⟩, fun x hx hn => ?_⟩
  · rw [hm, hP, hT 11 0 x (by omega) (by omega)]; exact h1 x hx
  · rw [hl, hI 8 x 1 (by omega) (by omega), hT 12 0 x (by omega) (by omega)]; exact h2 x ((hm x).mp hx)
  · rw [hm, hI 9 x j (by omega) (by omega), hT 13 0 _ (by omega) (by omega)]; exact h3 x hx j hj
  · rw [hm, hI 8 x 4 (by omega) (by omega), hT 14 0 x (by omega) (by omega)]; exact h4 x hx
  · rw [hT 10 0 8 (by omega) (by omega), hP]; exact h5
  · rw [hT 10 0 14 (by omega) (by omega), hP]; exact h6
  · rw [hT 10 0 16 (by omega) (by omega), hI 0 0 11 (by omega) (by omega)]; exact h7
  · rw [hT 10 0 17 (by omega) (by omega), hI 0 0 7 (by omega) (by omega)]; exact h8
  · rw [hL, hP]; exact h9
  · rw [hT 17 0 s (by omega) (by omega), hI 7 s 2 (by omega) (by omega)]; exact hE s hs
  · rw [hT 10 0 9 (by omega) (by omega), hI 0 0 5 (by omega) (by omega)]; exact hW.1
  · rw [hT 10 0 10 (by omega) (by omega), hI 0 0 5 (by omega) (by omega), hP]; exact hW.2
  · rw [hT 15 0 x (by omega) (by omega), hI 8 x 5 (by omega) (by omega)]; exact r1 x ((hm x).mp hx)
  · obtain ⟨a1, a2, a3, a4⟩ := r2 r hr
    refine ⟨by rw [hP]; exact a1, lk_congr (σ := σ) (fun y _ => by rw [hP]) a2, fun x hx => ⟨(hm x).mpr (a3 x hx).1, by rw [hI 8 x 5 (by omega) (by omega)]; exact (a3 x hx).2⟩, by rw [hL]; exact a4⟩
  · rw [hI 8 x 5 (by omega) (by omega), hP]; exact r3 x ((hm x).mp hx)
  · rw [hL]; exact r5
  · rw [hL]; exact r6 r hr x hx
  · rw [hT 15 0 x (by omega) (by omega)]; exact hU x hx (fun q => hn ((hm x).mpr q))
theorem fmod_nat {m d : Nat} (hm : m < 2 ^ 31) (h0 : 0 < d) (hd : d < 2 ^ 31) : fmod (nI m) (nI d) = nI (m % d) := by
  unfold fmod
  rw [if_pos ((xor_sign (by rw [nI_toInt hd]; omega)).mpr (by rw [nI_toInt hm]; omega)), pk_rem hm h0 hd]
theorem sh_spec : ∀ (n k : Nat) (τ : sT), k + n < 2 ^ 20 → (∀ j, (mf_sh n k τ).1 18 0 j = if k ≤ j ∧ j < k + n then τ.1 18 0 (j + 1) else τ.1 18 0 j) ∧ (∀ q i j, ¬ q = 18 → (mf_sh n k τ).1 q i j = τ.1 q i j) ∧ (mf_sh n k τ).2 = τ.2
  | 0, k, τ, _ => ⟨fun j => by rw [if_neg (by omega)]; rfl, fun _ _ _ _ => rfl, rfl⟩
  | n + 1, k, τ, h => by
    have ecl : (nI k).toNatClampNeg = k := nI_clamp (by omega)
    have ecl1 : (nI k + 1).toNatClampNeg = k + 1 := by rw [nI_1]; exact nI_clamp (by omega)
    obtain ⟨a1, a2, a3⟩ := sh_spec n (k + 1) (sI τ 18 0 (nI k).toNatClampNeg (τ.1 18 0 (nI k + 1).toNatClampNeg)) (by omega)
    rw [ecl, ecl1] at a1 a2 a3
    have e : mf_sh (n + 1) k τ = mf_sh n (k + 1) (sI τ 18 0 k (τ.1 18 0 (k + 1))) := by
      show mf_sh n (k + 1) _ = _
      rw [ecl, ecl1]
    rw [e]
    refine ⟨fun j => ?_, fun q i j hq => ?_, a3⟩
    · rw [a1]
      by_cases c1 : k + 1 ≤ j ∧ j < k + 1 + n
      · rw [if_pos c1, if_pos (by omega), sI_ne (by omega)]
      · rw [if_neg c1]
        by_cases c2 : j = k
        · subst c2; rw [sI_eq, if_pos (by omega)]
        · rw [sI_ne (by omega), if_neg (by omega)]
    · rw [a2 q i j hq, sI_ne (by omega)]
theorem st_of {L : Nat → List Nat} {n : Nat} {σ τ σ' τ' : sT} (h : Sim L n σ τ) (hB : RB L n σ' τ') (h15 : τ'.1 10 0 15 = τ.1 10 0 15) (h10 : σ'.2.1 0 0 10 = σ.2.1 0 0 10) (hp : cf_pres σ' = cf_pres σ) (h8 : ∀ x, σ'.1 8 x 5 = σ.1 8 x 5) : Sim L n σ' τ' := ⟨hB, by show τ'.1 10 0 15 = _; rw [h15, h10]; exact h.2.1, fun y hy => by rw [h8]; exact h.2.2 y (by rw [← hp]; exact hy)⟩
theorem st_drop {L : Nat → List Nat} {n : Nat} {σ τ : sT} (h : Sim L n σ τ) : Sim L n (cf_drop σ) (mf_drop τ) := by
  obtain ⟨hc1, hc2, b, c, h12, h13, h14, h15, h16⟩ := h.1.1.2.2.2.2.2
  unfold cf_drop mf_drop
  rw [hc1]
  by_cases q : σ.1 4 0 2 ≤ 0
  · rw [if_pos q, if_pos q]; exact h
  · rw [if_neg q, if_neg q]
    have hcpos : 0 < c := by
      rw [h14, i32_le, i32_0, nI_toInt (by omega)] at q
      omega
    have ec : σ.1 4 0 2 - 1 = nI (c - 1) := by
      rw [h14, show (1 : Int32) = nI 1 from rfl, pk_sub (by omega)]
    have en : (σ.1 4 0 2 - 1).toNatClampNeg = c - 1 := by rw [ec]; exact nI_clamp (by omega)
    have epl : cf_place σ 1 = nI ((b + 1) % 64) := by
      unfold cf_place
      rw [h12, nI_1, show (64 : Int32) = nI 64 from rfl, fmod_nat (by omega) (by omega) (by omega)]
    obtain ⟨a1, a2, a3⟩ := sh_spec (σ.1 4 0 2 - 1).toNatClampNeg 0 (sI τ 10 0 12 (σ.1 4 0 2 - 1)) (by rw [en]; omega)
    have aT : ∀ k i j, ¬ k = 18 → ¬ (k = 10 ∧ (j = 12 ∨ j = 13)) → (mf_sh (σ.1 4 0 2 - 1).toNatClampNeg 0 (sI τ 10 0 12 (σ.1 4 0 2 - 1))).1 k i j = τ.1 k i j := fun k i j h1 h2 => by
      rw [a2 k i j h1, sI_ne (fun z => h2 ⟨z.1, Or.inl z.2.2⟩)]
    refine st_of h (rb_wrd h.1 (fun k i j h1 h2 => ?_) rfl aT (by rw [a3]; rfl) ⟨?_, ?_, (b + 1) % 64, c - 1, ?_, by omega, ?_, by omega, fun j hj => ?_⟩) (aT 10 0 15 (by omega) (by omega)) rfl (pres_congr (by rw [sI_ne (by omega), sI_ne (by omega)]) rfl rfl) (fun x => by rw [sI_ne (by omega), sI_ne (by omega)])
    · rw [sI_ne (fun z => h1 z.1), sI_ne (fun z => h1 z.1)]
    · rw [a2 10 0 12 (by omega), sI_eq, sI_eq]
    · rw [a2 10 0 13 (by omega), sI_ne (by omega), sI_ne (by omega), sI_ne (by omega)]; exact hc2
    · rw [sI_ne (by omega), sI_eq]; exact epl
    · rw [sI_eq]; exact ec
    · rw [a1, en, if_pos (by omega), sI_ne (by omega), sI_ne (by omega), sI_ne (by omega), h16 (j + 1) (by omega), show (b + (j + 1)) % 64 = ((b + 1) % 64 + j) % 64 by omega]
theorem rng_iff {a lo hi : Int32} {c : Nat} (hlo : lo = nI c) (hhi : hi = nI (c + 16)) (hc : c ≤ 100) : isS (a - lo) ↔ (¬ a < lo ∧ ¬ hi ≤ a) := by
  have e1 : lo.toInt = c := by rw [hlo, nI_toInt (by omega)]
  have e2 : hi.toInt = ((c + 16 : Nat) : Int) := by rw [hhi, nI_toInt (by omega)]
  constructor
  · intro h
    obtain ⟨j, hj, ej⟩ := vp_in_of (isS_in h) (by omega)
    have ea : a = nI (j + c) := by
      rw [← nI_add, ← ej, ← hlo, Int32.sub_add_cancel]
    rw [i32_lt, i32_le, e1, e2, ea, nI_toInt (by omega)]
    omega
  · rintro ⟨h1, h2⟩
    have hv := vp_in_iff.mp (rng_in h1 h2 (by omega) (by omega))
    refine ⟨?_, ?_⟩
    · rw [i32_le, i32_0]; omega
    · rw [i32_lt, i32_16]; omega
theorem isS_nI {a : Int32} (h : isS a) : a = nI a.toNatClampNeg := by
  obtain ⟨j, hj, rfl⟩ := vp_in_of (isS_in h) (by omega)
  rw [nI_clamp (by omega)]
theorem st_input {L : Nat → List Nat} {n : Nat} {σ τ : sT} (h : Sim L n σ τ) (o : Option Nat) : Sim L n (sP σ 0 0 9 o) (sI τ 10 0 14 (cf_num o)) := by
  have h5 := h.1.1.2.2.2.2.1
  have hW := h.1.2.2.1
  refine st_of h (rb_core h.1 (fun k i j hk => rfl) (fun k i j hk => sP_ne (fun z => hk z.1)) (fun k i j hk => sI_ne (fun z => hk z.1)) ⟨sI_ne (by omega), sI_ne (by omega)⟩ ⟨fun _ => rfl, rfl⟩ ⟨?_, ?_, ?_, ?_, h5.2.2.2.2⟩ ⟨?_, ?_⟩) (sI_ne (by omega)) (sP_ne (by omega)) (pres_congr rfl (sP_ne (by omega)) (sP_ne (by omega))) (fun x => rfl)
  · rw [sI_ne (by omega), sP_ne (by omega)]; exact h5.1
  · rw [sI_eq, sP_eq]
  · rw [sI_ne (by omega)]; exact h5.2.2.1
  · rw [sI_ne (by omega)]; exact h5.2.2.2.1
  · rw [sI_ne (by omega)]; exact hW.1
  · rw [sI_ne (by omega), sP_ne (by omega)]; exact hW.2
theorem st_alarm0 {L : Nat → List Nat} {n : Nat} {σ τ : sT} (h : Sim L n σ τ) (o : Option Nat) : Sim L n (sP σ 0 0 10 o) (sI τ 10 0 15 (cf_num o)) := by
  refine ⟨rb_frp (rb_al h.1 o) ⟨fun k i j h1 h2 => sI_ne (fun z => h2 ⟨z.1, Or.inr z.2.2⟩), rfl⟩, ?_, fun y hy => ?_⟩
  · show (sI τ 10 0 15 (cf_num o)).1 10 0 15 = cf_num ((sP σ 0 0 10 o).2.1 0 0 10)
    rw [sI_eq, sP_eq]
  · have e : cf_pres (sP σ 0 0 10 o) = cf_pres σ := pres_congr rfl (sP_ne (by omega)) (sP_ne (by omega))
    rw [e] at hy
    exact h.2.2 y hy
theorem st_tick {L : Nat → List Nat} {n : Nat} {σ τ : sT} (h : Sim L n σ τ) (v : Int32) : Sim L n (sI σ 0 0 11 v) (sI τ 10 0 16 v) := by
  have h5 := h.1.1.2.2.2.2.1
  have hW := h.1.2.2.1
  refine st_of h (rb_core h.1 (fun k i j hk => sI_ne (fun z => hk z.1)) (fun k i j hk => rfl) (fun k i j hk => sI_ne (fun z => hk z.1)) ⟨sI_ne (by omega), sI_ne (by omega)⟩ ⟨fun _ => rfl, rfl⟩ ⟨?_, ?_, ?_, ?_, h5.2.2.2.2⟩ ⟨?_, ?_⟩) (sI_ne (by omega)) rfl (pres_congr (sI_ne (by omega)) rfl rfl) (fun x => sI_ne (by omega))
  · rw [sI_ne (by omega)]; exact h5.1
  · rw [sI_ne (by omega)]; exact h5.2.1
  · rw [sI_eq, sI_eq]
  · rw [sI_ne (by omega), sI_ne (by omega)]; exact h5.2.2.2.1
  · rw [sI_ne (by omega), sI_ne (by omega)]; exact hW.1
  · rw [sI_ne (by omega), sI_ne (by omega)]; exact hW.2
theorem st_alarm {L : Nat → List Nat} {n : Nat} {σ τ : sT} (h : Sim L n σ τ) (s : Nat) (v : Int32) : Sim L n (cf_alarm σ s v) (sI (sI τ 10 0 15 (nI s)) 10 0 16 v) := st_tick (st_alarm0 h (some s)) v
theorem st_rb {L' : Nat → List Nat} {n m : Nat} {σ τ σ' τ' : sT} (L : Nat → List Nat) (h : Sim L n σ τ) (hB : RB L' m σ' τ') (hp : Pf σ') (f : Fr σ σ') (g : FrM τ τ') : Sim L' m σ' τ' := ⟨hB, by
  show τ'.1 10 0 15 = cf_num (σ'.2.1 0 0 10)
  rw [g.1 10 0 15 (by omega) (by omega) (by omega), f.2.1 0 0 10 (by omega) (by omega) (by omega)]
  exact h.2.1, hp⟩
theorem fr_wait (σ : sT) (s : Nat) : Fr σ (cf_wait σ s) := by
  unfold cf_wait
  cases cf_pres σ with
  | none => exact Fr.rf
  | some q =>
    dsimp only
    split
    · exact (fr_app _ _ _).tr (fr_aside _)
    · exact Fr.I (by omega)
theorem fr_give (σ : sT) : Fr σ (cf_give σ) := by
  unfold cf_give
  cases cf_pres σ with
  | none => exact Fr.rf
  | some q =>
    dsimp only
    split
    · exact Fr.rf
    · exact (fr_app _ _ _).tr (fr_aside _)
theorem frm_wait (τ : sT) (s : Int32) : FrM τ (mf_wait τ s) := by
  unfold mf_wait
  split
  · split
    · exact (frm_come _ _ _).tr (frm_aside _)
    · exact FrM.I (by omega)
  · exact FrM.rf
theorem frm_give (τ : sT) : FrM τ (mf_give τ) := by
  unfold mf_give
  split
  · exact FrM.rf
  split
  · exact FrM.rf
  · exact (frm_come _ _ _).tr (frm_aside _)
theorem st_act {L : Nat → List Nat} {n : Nat} {σ τ : sT} {lv : Nat → Nat → Prop} (ok : OKs σ lv) (h : Sim L n σ τ) (hn : n < 2 ^ 60) (a : Int32) : ∃ L', Sim L' (n + 1) (cf_act σ a) (mf_act τ a) := by
  have r16 := rng_iff (a := a) (lo := 16) (hi := 32) (c := 16) rfl rfl (by omega)
  have r32 := rng_iff (a := a) (lo := 32) (hi := 48) (c := 32) rfl rfl (by omega)
  have r64 := rng_iff (a := a) (lo := 64) (hi := 80) (c := 64) rfl rfl (by omega)
  have r80 := rng_iff (a := a) (lo := 80) (hi := 96) (c := 80) rfl rfl (by omega)
  unfold cf_act mf_act
  by_cases q16 : isS (a - 16)
  · rw [if_pos q16, if_pos (r16.mp q16)]
    have e := isS_nI q16
    have hs := isS_lt q16
    obtain ⟨L1, h1, p1⟩ := rb_wait ok h.1 hn h.2.2 hs
    rw [← e] at h1
    exact ⟨L1, st_rb L h h1 p1 (fr_wait _ _) (frm_wait _ _)⟩
  rw [if_neg q16, if_neg (fun z => q16 (r16.mpr z))]
  by_cases q32 : isS (a - 32)
  · rw [if_pos q32, if_pos (r32.mp q32)]
    have e := isS_nI q32
    have hs := isS_lt q32
    obtain ⟨L1, h1, p1⟩ := rb_sig ok h.1 hn h.2.2 hs
    rw [← e] at h1
    exact ⟨L1, st_rb L h h1 p1 (fr_sig _ _) (frm_sig _ _)⟩
  rw [if_neg q32, if_neg (fun z => q32 (r32.mpr z))]
  by_cases c48 : a = 48
  · rw [if_pos c48, if_pos c48]
    obtain ⟨L1, h1, p1⟩ := rb_give ok h.1 hn h.2.2
    exact ⟨L1, st_rb L h h1 p1 (fr_give _) (frm_give _)⟩
  rw [if_neg c48, if_neg c48]
  by_cases c49 : a = 49
  · rw [if_pos c49, if_pos c49]
    exact ⟨L, (st_drop h).mono (by omega)⟩
  rw [if_neg c49, if_neg c49]
  by_cases c50 : a = 50
  · rw [if_pos c50, if_pos c50]
    exact ⟨L, (st_input h none).mono (by omega)⟩
  rw [if_neg c50, if_neg c50]
  by_cases q64 : isS (a - 64)
  · rw [if_pos q64, if_pos (r64.mp q64)]
    have e := isS_nI q64
    rw [sI_ne (by omega), h.1.1.2.2.2.2.1.2.2.2.1]
    have h1 := st_alarm h (a - 64).toNatClampNeg (σ.1 0 0 7 + 3)
    rw [← e] at h1
    exact ⟨L, h1.mono (by omega)⟩
  rw [if_neg q64, if_neg (fun z => q64 (r64.mpr z))]
  by_cases q80 : isS (a - 80)
  · rw [if_pos q80, if_pos (r80.mp q80)]
    have e := isS_nI q80
    have h1 := st_input h (some (a - 80).toNatClampNeg)
    rw [show cf_num (some (a - 80).toNatClampNeg) = nI (a - 80).toNatClampNeg from rfl, ← e] at h1
    exact ⟨L, h1.mono (by omega)⟩
  rw [if_neg q80, if_neg (fun z => q80 (r80.mpr z))]
  exact ⟨L, h.mono (by omega)⟩
