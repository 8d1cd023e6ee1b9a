/-! THE FACES AGREE: what holds between two calls, and that each call keeps it and answers alike -/
def Inv (lv : Nat → Nat → Prop) (c : Nat) (σ τ : sT) : Prop := (∃ L, Sim L (131130 * c) σ τ) ∧ OKs σ lv ∧ OKm τ lv (1000 * c : Nat) ∧ (τ.1 10 0 13).toInt ≤ (τ.1 10 0 12).toInt ∧ ∀ x, x < 32 → ¬ Mk σ x → ¬ lv 8 x ∧ ¬ lv 9 x
theorem OKm.mono {τ : sT} {lv : Nat → Nat → Prop} {N M : Int} (h : OKm τ lv N) (hM : N ≤ M) : OKm τ lv M := ⟨h.1, h.2.1, h.2.2.1, h.2.2.2.1, h.2.2.2.2.1, h.2.2.2.2.2.1, h.2.2.2.2.2.2.1, fun p hp => by have := h.2.2.2.2.2.2.2 p hp; omega⟩
theorem Inv.go {lv : Nat → Nat → Prop} {c m : Nat} {L' : Nat → List Nat} {σ τ σ' τ' : sT} {N : Int} (h : Inv lv c σ τ) (hs : Sim L' m σ' τ') (hm : m ≤ 131130 * (c + 1)) (g : GO σ σ' lv) (okm : OKm τ' lv N) (hN : N ≤ 1000 * (c + 1)) (hw : (τ'.1 10 0 13).toInt ≤ (τ'.1 10 0 12).toInt) : Inv lv (c + 1) σ' τ' :=
  ⟨⟨L', hs.mono hm⟩, g.1, okm.mono (by omega), hw, fun x hx hk => h.2.2.2.2 x hx (fun q => hk (g.2.mk.mpr q))⟩
theorem Inv.same {lv : Nat → Nat → Prop} {c : Nat} {σ τ : sT} (h : Inv lv c σ τ) : Inv lv (c + 1) σ τ := by
  obtain ⟨L, hs⟩ := h.1
  exact h.go hs (by omega) (GO.rf h.2.1) h.2.2.1 (by omega) h.2.2.2.1
theorem pn_some {L : Nat → List Nat} {n : Nat} {σ τ : sT} {lv : Nat → Nat → Prop} (ok : OKs σ lv) (h : Sim L n σ τ) {p : Int32} {x : Nat} (hp : cf_pn σ p = some x) : isM τ p ∧ p = nI x ∧ p.toNatClampNeg = x ∧ Mk σ x := by
  have hk := pn_ok ok hp
  unfold cf_pn at hp
  split at hp
  · next q =>
    have h0 : ¬ p < 0 := by have := q.1; rw [i32_le] at this; rw [i32_lt]; omega
    have h1 : ¬ 32 ≤ p := by have := q.2; rw [i32_lt] at this; rw [i32_le]; omega
    obtain ⟨j, hj, e⟩ := nI_of h0
    have ej : p.toNatClampNeg = j := by rw [e]; exact nI_clamp hj
    rw [ej] at hp
    have hj32 : j < 32 := by
      rw [e, i32_le, i32_32, nI_toInt hj] at h1; omega
    have ex : x = j := ok.2.2.1 j x hj32 hp
    subst ex
    refine ⟨⟨h0, h1, ?_⟩, e, ej, hk⟩
    rw [ej]
    rcases h.1.1.1 x hj32 with z | z
    · exact z.2
    · rw [z.1] at hp; cases hp
  · cases hp
theorem pn_none {L : Nat → List Nat} {n : Nat} {σ τ : sT} (h : Sim L n σ τ) {p : Int32} (hp : cf_pn σ p = none) : ¬ isM τ p := by
  rintro ⟨h0, h1, h2⟩
  obtain ⟨j, hj, e⟩ := nI_of h0
  have ej : p.toNatClampNeg = j := by rw [e]; exact nI_clamp hj
  have hj32 : j < 32 := by
    rw [e, i32_le, i32_32, nI_toInt hj] at h1; omega
  unfold cf_pn at hp
  rw [if_pos, ej] at hp
  · rw [ej] at h2
    rcases h.1.1.1 j hj32 with z | z
    · rw [z.1.2] at hp; cases hp
    · exact h2 z.2
  · rw [i32_lt] at h0
    rw [i32_le] at h1
    rw [i32_le, i32_lt]
    omega
theorem rb_plan {L : Nat → List Nat} {n : Nat} {σ τ : sT} (h : RB L n σ τ) {x i : Nat} (hx : Mk σ x) (hi : i < 8) (v : Int32) : RB L n (sI σ 9 x i v) (sI τ 13 0 (8 * x + i) v) := by
  obtain ⟨⟨h1, h2, h3, h4, ⟨h5, h6, h7, h8, h9⟩, h10, h11, b, c, h12, h13, h14, h15, h16⟩, hE, hW, ⟨r1, r2, r3, t, r4, r5, r6⟩, hU⟩ := h
  refine ⟨⟨fun y hy => ?_, fun y hy => ?_, fun y hy j hj => ?_, fun y hy => ?_, ⟨?_, ?_, ?_, ?_, h9⟩, ?_, ?_, b, c, ?_, h13, ?_, h15, fun j hj => ?_⟩, fun s hs => ?_, ⟨?_, ?_⟩, ⟨fun y hy => ?_, fun r hr => ?_, fun y hy => ?_, t, r4, r5, r6⟩, fun y hy hn => ?_⟩
  · rw [sI_ne (by omega)]; exact h1 y hy
  · rw [sI_ne (by omega), sI_ne (by omega)]; exact h2 y hy
  · by_cases e : y = x ∧ j = i
    · obtain ⟨rfl, rfl⟩ := e
      rw [sI_eq, sI_eq]
      exact ⟨fun _ => rfl, fun z => absurd hx z⟩
    · rw [sI_ne (by omega), sI_ne (by omega)]; exact h3 y hy j hj
  · rw [sI_ne (by omega), sI_ne (by omega)]; exact h4 y hy
  · rw [sI_ne (by omega)]; exact h5
  · rw [sI_ne (by omega)]; exact h6
  · rw [sI_ne (by omega), sI_ne (by omega)]; exact h7
  · rw [sI_ne (by omega), sI_ne (by omega)]; exact h8
  · rw [sI_ne (by omega), sI_ne (by omega)]; exact h10
  · rw [sI_ne (by omega), sI_ne (by omega)]; exact h11
  · rw [sI_ne (by omega)]; exact h12
  · rw [sI_ne (by omega)]; exact h14
  · rw [sI_ne (by omega), sI_ne (by omega)]; exact h16 j hj
  · rw [sI_ne (by omega), sI_ne (by omega)]; exact hE s hs
  · rw [sI_ne (by omega), sI_ne (by omega)]; exact hW.1
  · rw [sI_ne (by omega), sI_ne (by omega)]; exact hW.2
  · rw [sI_ne (by omega), sI_ne (by omega)]; exact r1 y hy
  · obtain ⟨a1, a2, a3, a4⟩ := r2 r hr
    exact ⟨a1, lk_congr (σ := σ) (fun y _ => rfl) a2, fun y hy => ⟨(a3 y hy).1, by rw [sI_ne (by omega)]; exact (a3 y hy).2⟩, a4⟩
  · rw [sI_ne (by omega)]; exact r3 y hy
  · rw [sI_ne (by omega)]; exact hU y hy hn
theorem f_plan {lv : Nat → Nat → Prop} {c : Nat} {σ τ : sT} (h : Inv lv c σ τ) (p i a : Int32) : (c_plan σ p i a).1 = (d_plan τ p i a).1 ∧ Inv lv (c + 1) (c_plan σ p i a).2 (d_plan τ p i a).2 := by
  obtain ⟨L, hs⟩ := h.1
  unfold c_plan d_plan
  cases hp : cf_pn σ p with
  | none => rw [if_neg (pn_none hs hp)]; exact ⟨rfl, h.same⟩
  | some x =>
    obtain ⟨hm, e, ex, hx⟩ := pn_some h.2.1 hs hp
    rw [if_pos hm]
    dsimp only
    by_cases q1 : i < 0
    · rw [if_pos q1, if_pos q1]; exact ⟨rfl, h.same⟩
    · rw [if_neg q1, if_neg q1]
      by_cases q2 : 8 ≤ i
      · rw [if_pos q2, if_pos (show 7 < i by rw [i32_le, i32_8] at q2; rw [i32_lt, show (7 : Int32).toInt = 7 from rfl]; omega)]; exact ⟨rfl, h.same⟩
      · rw [if_neg q2, if_neg (show ¬ 7 < i by rw [i32_le, i32_8] at q2; rw [i32_lt, show (7 : Int32).toInt = 7 from rfl]; omega)]
        by_cases q3 : a < 0
        · rw [if_pos q3, if_pos q3]; exact ⟨rfl, h.same⟩
        · rw [if_neg q3, if_neg q3]
          by_cases q4 : a ≤ 127
          · rw [if_pos q4, if_pos q4]
            obtain ⟨j, hj, ei⟩ := nI_of q1
            have hx32 := hx.1
            have hj8 : j < 8 := by rw [ei, i32_le, i32_8, nI_toInt hj] at q2; omega
            have ej : i.toNatClampNeg = j := by rw [ei]; exact nI_clamp hj
            have eix : (8 * p + i).toNatClampNeg = 8 * x + j := by
              rw [e, ei, show (8 : Int32) = nI 8 from rfl, pk_mul, nI_add]
              exact nI_clamp (by omega)
            rw [eix, ej]
            refine ⟨((hs.1.1.2.2.1 x hx32 j hj8).1 hx).symm, ?_⟩
            refine h.go (st_of hs (rb_plan hs.1 hx hj8 a) (sI_ne (by omega)) rfl (pres_congr (sI_ne (by omega)) rfl rfl) (fun y => sI_ne (by omega))) (by omega) (GO.I h.2.1 (by omega)) (h.2.2.1.o (by omega) (by omega)) (by omega) ?_
            rw [sI_ne (by omega), sI_ne (by omega)]
            exact h.2.2.2.1
          · rw [if_neg q4, if_neg q4]; exact ⟨rfl, h.same⟩
theorem num_eq {x : Nat} (hx : x < 32) {o : Option Nat} (ho : ∀ y, o = some y → y < 32) : nI x = cf_num o ↔ some x = o := by
  cases o with
  | none =>
    constructor
    · intro q
      have : ¬ nI x < 0 := nI_pos (by omega)
      rw [q] at this
      exact absurd num_none this
    · intro q; cases q
  | some y =>
    have hy := ho y rfl
    constructor
    · intro q; rw [nI_inj (by omega) (by omega) q]
    · intro q; cases q; rfl
theorem hw_frm {τ τ' : sT} (g : FrM τ τ') (h : (τ.1 10 0 13).toInt ≤ (τ.1 10 0 12).toInt) : (τ'.1 10 0 13).toInt ≤ (τ'.1 10 0 12).toInt := by
  rw [g.1 10 0 13 (by omega) (by omega) (by omega), g.1 10 0 12 (by omega) (by omega) (by omega)]; exact h
theorem f_wake {lv : Nat → Nat → Prop} {c : Nat} {σ τ : sT} (h : Inv lv c σ τ) (hc : c < 2000000) (p : Int32) : (c_wake σ p).1 = (d_wake τ p).1 ∧ Inv lv (c + 1) (c_wake σ p).2 (d_wake τ p).2 := by
  obtain ⟨L, hs⟩ := h.1
  unfold c_wake d_wake
  cases hp : cf_pn σ p with
  | none => rw [if_neg (pn_none hs hp)]; exact ⟨rfl, h.same⟩
  | some x =>
    obtain ⟨hm, e, ex, hx⟩ := pn_some h.2.1 hs hp
    rw [if_pos hm, ex, hs.1.2.2.2.1.1 x hx]
    dsimp only
    by_cases q1 : σ.1 8 x 5 = 0
    · rw [if_pos q1, if_pos q1]
      have e8 : p = τ.1 10 0 8 ↔ some x = σ.2.1 0 0 4 := by
        rw [e, hs.1.1.2.2.2.2.1.1]
        exact num_eq hx.1 (fun y hy => (h.2.1.ac hy).1)
      have ep : p = mf_pres τ ↔ some x = cf_pres σ := by
        rw [e, pres_eq hs.1.1 hs.1.2.2.1]
        exact num_eq hx.1 (fun y hy => (pres_ok h.2.1 hy).1)
      by_cases q2 : some x = σ.2.1 0 0 4
      · rw [if_pos q2, if_pos (e8.mpr q2)]; exact ⟨rfl, h.same⟩
      · rw [if_neg q2, if_neg (fun z => q2 (e8.mp z))]
        by_cases q3 : some x = cf_pres σ
        · rw [if_pos q3, if_pos (ep.mpr q3)]; exact ⟨rfl, h.same⟩
        · rw [if_neg q3, if_neg (fun z => q3 (ep.mp z)), e]
          obtain ⟨L', a1, a2⟩ := rb_wake h.2.1 hs.1 (by omega) hs.2.2 hx q1 (fun z => q3 z.symm)
          exact ⟨rfl, h.go (st_rb L hs a1 a2 (fr_wake σ x) (frm_rouse τ (nI x))) (by omega) (go_wake h.2.1 hx) (okm_rouse h.2.2.1 (nI_lt32 hx.1)) (by omega) (hw_frm (frm_rouse _ _) h.2.2.2.1)⟩
    · rw [if_neg q1, if_neg q1]; exact ⟨rfl, h.same⟩
theorem f_suspend {lv : Nat → Nat → Prop} {c : Nat} {σ τ : sT} (h : Inv lv c σ τ) : (c_suspend σ).1 = (d_suspend τ).1 ∧ Inv lv (c + 1) (c_suspend σ).2 (d_suspend τ).2 := by
  obtain ⟨L, hs⟩ := h.1
  unfold c_suspend d_suspend
  rw [pres_eq hs.1.1 hs.1.2.2.1]
  cases hp : cf_pres σ with
  | none => rw [if_pos num_none]; exact ⟨rfl, h.same⟩
  | some x =>
    rw [if_neg (num_some (pres_ok h.2.1 hp).1)]
    obtain ⟨L', a1, a2⟩ := rb_aside hs.1
    exact ⟨rfl, h.go (st_rb L hs a1 a2 (fr_aside σ) (frm_aside τ)) (by omega) (go_aside h.2.1) (okm_aside h.2.2.1) (by omega) (hw_frm (frm_aside _) h.2.2.2.1)⟩
theorem f_signal {lv : Nat → Nat → Prop} {c : Nat} {σ τ : sT} (h : Inv lv c σ τ) (hc : c < 2000000) (s : Int32) : (c_signal σ s).1 = (d_signal τ s).1 ∧ Inv lv (c + 1) (c_signal σ s).2 (d_signal τ s).2 := by
  obtain ⟨L, hs⟩ := h.1
  unfold c_signal d_signal
  by_cases q : isS s
  · rw [if_pos q, if_pos q]
    obtain ⟨L', a1, a2⟩ := rb_sig h.2.1 hs.1 (by omega) hs.2.2 (isS_lt q)
    rw [← isS_nI q] at a1
    exact ⟨rfl, h.go (st_rb L hs a1 a2 (fr_sig σ _) (frm_sig τ s)) (by omega) (go_sig h.2.1 (isS_lt q)) (okm_sig h.2.2.1) (by omega) (hw_frm (frm_sig _ _) h.2.2.2.1)⟩
  · rw [if_neg q, if_neg q]; exact ⟨rfl, h.same⟩
theorem f_listen {lv : Nat → Nat → Prop} {c : Nat} {σ τ : sT} (h : Inv lv c σ τ) (s : Int32) : (c_listen σ s).1 = (d_listen τ s).1 ∧ Inv lv (c + 1) (c_listen σ s).2 (d_listen τ s).2 := by
  obtain ⟨L, hs⟩ := h.1
  unfold c_listen d_listen
  by_cases q0 : s = -1
  · rw [if_pos q0, if_pos q0]
    subst q0
    refine ⟨rfl, h.go (st_input hs none) (by omega) (GO.S h.2.1 (Or.inl rfl) (fun y hy => by cases hy)) (h.2.2.1.f14 (by decide)) (by omega) ?_⟩
    rw [sI_ne (by omega), sI_ne (by omega)]; exact h.2.2.2.1
  · rw [if_neg q0, if_neg q0]
    by_cases q : isS s
    · rw [if_pos q, if_pos q]
      have a1 := st_input hs (some s.toNatClampNeg)
      have e : cf_num (some s.toNatClampNeg) = s := (isS_nI q).symm
      rw [e] at a1
      refine ⟨rfl, h.go a1 (by omega) (GO.S h.2.1 (Or.inl rfl) (fun y hy => by cases hy; exact isS_lt q)) (h.2.2.1.f14 (by have := q.2; rw [i32_lt, i32_16] at this; exact this)) (by omega) ?_⟩
      rw [sI_ne (by omega), sI_ne (by omega)]; exact h.2.2.2.1
    · rw [if_neg q, if_neg q]; exact ⟨rfl, h.same⟩
theorem f_alarm {lv : Nat → Nat → Prop} {c : Nat} {σ τ : sT} (h : Inv lv c σ τ) (s t : Int32) : (c_alarm σ s t).1 = (d_alarm τ s t).1 ∧ Inv lv (c + 1) (c_alarm σ s t).2 (d_alarm τ s t).2 := by
  obtain ⟨L, hs⟩ := h.1
  unfold c_alarm d_alarm
  by_cases q0 : s = -1
  · rw [if_pos q0, if_pos q0]
    refine ⟨rfl, h.go (st_alarm0 hs none) (by omega) (GO.S h.2.1 (Or.inr rfl) (fun y hy => by cases hy)) (h.2.2.1.f15 (by decide)) (by omega) ?_⟩
    rw [sI_ne (by omega), sI_ne (by omega)]; exact h.2.2.2.1
  · rw [if_neg q0, if_neg q0]
    by_cases q : isS s
    · rw [if_pos q, if_pos q]
      by_cases q1 : t < 0
      · rw [if_pos q1, if_pos q1]; exact ⟨rfl, h.same⟩
      · rw [if_neg q1, if_neg q1]
        by_cases q2 : t ≤ 1000000
        · rw [if_pos q2, if_pos q2]
          have a1 := st_alarm hs s.toNatClampNeg t
          rw [← isS_nI q] at a1
          refine ⟨rfl, h.go a1 (by omega) ((GO.S h.2.1 (Or.inr rfl) (fun y hy => by cases hy; exact isS_lt q)).tr (GO.I ((GO.S h.2.1 (Or.inr rfl) (fun y hy => by cases hy; exact isS_lt q)).1) (by omega))) ((h.2.2.1.f15 (by have := q.2; rw [i32_lt, i32_16] at this; exact this)).o (by omega) (by omega)) (by omega) ?_⟩
          rw [sI_ne (by omega), sI_ne (by omega), sI_ne (by omega), sI_ne (by omega)]; exact h.2.2.2.1
        · rw [if_neg q2, if_neg q2]; exact ⟨rfl, h.same⟩
    · rw [if_neg q, if_neg q]; exact ⟨rfl, h.same⟩
theorem f_word {lv : Nat → Nat → Prop} {c : Nat} {σ τ : sT} (h : Inv lv c σ τ) (w : Int32) : (c_word σ w).1 = (d_word τ w).1 ∧ Inv lv (c + 1) (c_word σ w).2 (d_word τ w).2 := by
  obtain ⟨L, hs⟩ := h.1
  obtain ⟨hc1, hc2, b, k, h12, h13, h14, h15, h16⟩ := hs.1.1.2.2.2.2.2
  unfold c_word d_word
  by_cases q0 : w < 0
  · rw [if_pos q0, if_pos q0]; exact ⟨rfl, h.same⟩
  · rw [if_neg q0, if_neg q0]
    by_cases q1 : w ≤ 65535
    · rw [if_pos q1, if_neg (show ¬ 65535 < w by rw [i32_le] at q1; rw [i32_lt]; omega)]
      unfold cf_add
      rw [hc1]
      by_cases q2 : σ.1 4 0 2 < 64
      · have hk : k < 64 := by rw [h14, i32_lt, nI_toInt (by omega), show (64 : Int32).toInt = 64 from rfl] at q2; omega
        rw [if_neg (fun z => z q2), if_neg (show ¬ σ.1 4 0 2 = 64 by rintro z; rw [z] at q2; exact absurd q2 (by decide))]
        have e2 : (d_w1 τ w).1 10 0 12 = σ.1 4 0 2 := by rw [← hc1]; exact sI_ne (by omega)
        have e3 : (d_w2 τ w).1 10 0 13 = σ.1 4 0 3 := by rw [← hc2]; unfold d_w2 d_w1; rw [sI_ne (by omega), sI_ne (by omega)]
        have e4 : (d_w3 τ w).1 10 0 12 = σ.1 4 0 2 + 1 := by unfold d_w3; rw [sI_ne (by omega)]; unfold d_w2; rw [sI_eq, e2]
        have e5 : (d_w3 τ w).1 10 0 13 = σ.1 4 0 3 + 1 := by unfold d_w3; rw [sI_eq, e3]
        have epl : (cf_place σ (σ.1 4 0 2)).toNatClampNeg = (b + k) % 64 := by
          unfold cf_place
          rw [h12, h14, nI_add, show (64 : Int32) = nI 64 from rfl, fmod_nat (by omega) (by omega) (by omega)]
          exact nI_clamp (by omega)
        have ecn : (σ.1 4 0 2).toNatClampNeg = k := by rw [h14]; exact nI_clamp (by omega)
        have n12 := h.2.2.2.1
        have n6 := h.2.2.1.2.2.2.2.2.2.1
        rw [hc1, hc2] at n12
        rw [hc2] at n6
        have t2 : (σ.1 4 0 2).toInt = k := by rw [h14, nI_toInt (by omega)]
        have i2 : (σ.1 4 0 2 + 1).toInt = (σ.1 4 0 2).toInt + 1 := i32_inc (by omega)
        have i3 : (σ.1 4 0 3 + 1).toInt = (σ.1 4 0 3).toInt + 1 := i32_inc (by omega)
        have hT : ∀ k i j, ¬ k = 18 → ¬ (k = 10 ∧ (j = 12 ∨ j = 13)) → (d_w3 τ w).1 k i j = τ.1 k i j := fun k i j z1 z2 => by
          unfold d_w3 d_w2 d_w1
          rw [sI_ne (fun z => z2 ⟨z.1, Or.inr z.2.2⟩), sI_ne (fun z => z2 ⟨z.1, Or.inl z.2.2⟩), sI_ne (fun z => z1 z.1)]
        refine ⟨e4.symm, h.go (st_of hs (rb_wrd hs.1 (fun k i j z1 z2 => ?_) rfl hT rfl ⟨?_, ?_, b, k + 1, ?_, h13, ?_, by omega, fun j hj => ?_⟩) (hT 10 0 15 (by omega) (by omega)) rfl (pres_congr ?_ rfl rfl) (fun y => ?_)) (by omega) ⟨h.2.1, fun _ _ => rfl, fun _ => rfl, fun y => ?_⟩ ?_ (Int.le_refl _) ?_⟩
        · rw [sI_ne (fun z => z1 z.1), sI_ne (fun z => z1 z.1), sI_ne (fun z => z2 z.1)]
        · rw [e4, sI_ne (by omega), sI_eq]
        · rw [e5, sI_eq]
        · rw [sI_ne (by omega), sI_ne (by omega), sI_ne (by omega)]; exact h12
        · rw [sI_ne (by omega), sI_eq, h14, nI_1]
        · unfold d_w3 d_w2 d_w1
          rw [sI_ne (by omega), sI_ne (by omega), hc1, ecn]
          have eR : (sI (sI (sI σ 5 0 (cf_place σ (σ.1 4 0 2)).toNatClampNeg w) 4 0 2 (σ.1 4 0 2 + 1)) 4 0 3 (σ.1 4 0 3 + 1)).1 5 0 ((b + j) % 64) = (sI σ 5 0 ((b + k) % 64) w).1 5 0 ((b + j) % 64) := by rw [sI_ne (by omega), sI_ne (by omega), epl]
          refine Eq.trans ?_ eR.symm
          by_cases ej : j = k
          · subst ej; rw [sI_eq, sI_eq]
          · rw [sI_ne (by omega), sI_ne (by omega)]; exact h16 j (by omega)
        · rw [sI_ne (by omega), sI_ne (by omega), sI_ne (by omega)]
        · rw [sI_ne (by omega), sI_ne (by omega), sI_ne (by omega)]
        · rw [sI_ne (by omega), sI_ne (by omega), sI_ne (by omega)]
        · refine (OKm.f13 (OKm.f12 (h.2.2.1.o (by omega) (by omega)) ?_) ?_).mono ?_
          · have : (d_w1 τ w).1 10 0 12 = σ.1 4 0 2 := e2
            rw [this, i2]; omega
          · have : (d_w2 τ w).1 10 0 13 = σ.1 4 0 3 := e3
            rw [this, i3]; omega
          · omega
        · rw [e4, e5, i2, i3]; omega
      · have hk : k = 64 := by rw [h14, i32_lt, nI_toInt (by omega), show (64 : Int32).toInt = 64 from rfl] at q2; omega
        rw [if_pos q2, if_pos (show σ.1 4 0 2 = 64 by rw [h14, hk]; rfl)]
        exact ⟨rfl, h.same⟩
    · rw [if_neg q1, if_pos (show 65535 < w by rw [i32_le] at q1; rw [i32_lt]; omega)]; exact ⟨rfl, h.same⟩
