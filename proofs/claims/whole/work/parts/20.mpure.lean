/-! WHAT THE REFERENCE DOES, as functions on its store (kinds 10 .. 19) -/
def mf_come (τ : sT) (p r : Int32) : sT :=
  let τ1 := sI τ 15 0 p.toNatClampNeg r
  let τ2 := sL τ1 16 0 p.toNatClampNeg (τ1.2.2 10 0 6)
  sL τ2 10 0 6 (τ2.2.2 10 0 6 + 1)
def mf_ft (τ : sT) (r : Int32) (k : Nat) (f : Int32) : Int32 := if τ.1 11 0 (nI k).toNatClampNeg = 0 then f else if τ.1 15 0 (nI k).toNatClampNeg = r then (if f < 0 then nI k else if 0 ≤ lg_cmp (τ.2.2 16 0 (nI k).toNatClampNeg) (τ.2.2 16 0 f.toNatClampNeg) then f else nI k) else f
def mf_fl (τ : sT) (r : Int32) : Nat → Nat → Int32 → Int32
  | 0, _, f => f
  | n + 1, k, f => mf_fl τ r n (k + 1) (mf_ft τ r k f)
def mf_first (τ : sT) (r : Int32) : Int32 := mf_fl τ r 32 0 (-1)
def mf_pres (τ : sT) : Int32 := if τ.1 10 0 9 = 0 then τ.1 10 0 8 else τ.1 10 0 10
def mf_want (τ : sT) (p : Int32) : sT := sI (sI τ 10 0 9 1) 10 0 10 p
def mf_pr (τ : sT) (p : Int32) : Int32 := τ.1 12 0 p.toNatClampNeg
def mf_rouse (τ : sT) (x : Int32) : sT := if mf_pres τ < 0 then mf_want τ x
  else if mf_pr τ (mf_pres τ) < mf_pr τ x then mf_want (mf_come τ (mf_pres τ) (mf_pr τ (mf_pres τ))) x else mf_come τ x (mf_pr τ x)
def mf_al (τ : sT) : Nat → Int32 → Int32
  | 0, nx => nx
  | n + 1, nx => if 0 ≤ nx then nx else mf_al τ n (mf_first τ (nI (n + 1)))
def mf_aend (τ : sT) (nx : Int32) : sT := mf_want (if nx < 0 then τ else sI τ 15 0 nx.toNatClampNeg 0) nx
def mf_aside (τ : sT) : sT := mf_aend τ (mf_al τ 8 (-1))
def mf_sig (τ : sT) (s : Int32) : sT := if 0 ≤ mf_first τ (16 + s) then mf_rouse (sI τ 15 0 (mf_first τ (16 + s)).toNatClampNeg 0) (mf_first τ (16 + s)) else sI τ 17 0 s.toNatClampNeg (τ.1 17 0 s.toNatClampNeg + 1)
def mf_wait (τ : sT) (s : Int32) : sT := if 0 ≤ mf_pres τ then (if τ.1 17 0 s.toNatClampNeg ≤ 0 then mf_aside (mf_come τ (mf_pres τ) (16 + s)) else sI τ 17 0 s.toNatClampNeg (τ.1 17 0 s.toNatClampNeg - 1)) else τ
def mf_give (τ : sT) : sT := if mf_pres τ < 0 then τ else if mf_first τ (mf_pr τ (mf_pres τ)) < 0 then τ else mf_aside (mf_come τ (mf_pres τ) (mf_pr τ (mf_pres τ)))
def mf_sh : Nat → Nat → sT → sT
  | 0, _, τ => τ
  | n + 1, k, τ => mf_sh n (k + 1) (sI τ 18 0 (nI k).toNatClampNeg (τ.1 18 0 (nI k + 1).toNatClampNeg))
def mf_drop (τ : sT) : sT := if τ.1 10 0 12 ≤ 0 then τ else mf_sh (τ.1 10 0 12 - 1).toNatClampNeg 0 (sI τ 10 0 12 (τ.1 10 0 12 - 1))
def mf_act (τ : sT) (a : Int32) : sT := if ¬ a < 16 ∧ ¬ 32 ≤ a then mf_wait τ (a - 16)
  else if ¬ a < 32 ∧ ¬ 48 ≤ a then mf_sig τ (a - 32)
  else if a = 48 then mf_give τ
  else if a = 49 then mf_drop τ
  else if a = 50 then sI τ 10 0 14 (-1)
  else if ¬ a < 64 ∧ ¬ 80 ≤ a then sI (sI τ 10 0 15 (a - 64)) 10 0 16 ((sI τ 10 0 15 (a - 64)).1 10 0 17 + 3)
  else if ¬ a < 80 ∧ ¬ 96 ≤ a then sI τ 10 0 14 (a - 80)
  else τ
def mf_post (τ : sT) (s : Int32) : sT :=
  let τ1 := sI τ 19 0 (τ.1 10 0 20).toNatClampNeg s
  sI τ1 10 0 20 (τ1.1 10 0 20 + 1)
def mf_pl : Nat → sT → sT
  | 0, τ => τ
  | n + 1, τ => mf_pl n (if τ.1 10 0 14 < 0 then τ else mf_post τ (τ.1 10 0 14))
def mf_sl : Nat → Nat → sT → sT
  | 0, _, τ => τ
  | n + 1, k, τ => mf_sl n (k + 1) (mf_sig τ (τ.1 19 0 (nI k).toNatClampNeg))
def mf_p2 (τ : sT) : sT := sI (mf_pl (τ.1 10 0 13).toNatClampNeg (sI τ 10 0 20 0)) 10 0 13 0
def mf_p3 (τ : sT) : sT := if τ.1 10 0 15 < 0 then τ else if τ.1 10 0 17 < τ.1 10 0 16 then τ else sI (mf_post τ (τ.1 10 0 15)) 10 0 15 (-1)
def mf_p4 (τ : sT) : sT := mf_sl (τ.1 10 0 20).toNatClampNeg 0 τ
def mf_p5 (τ : sT) : sT := if τ.1 10 0 9 = 0 then τ else sI (sI τ 10 0 8 (τ.1 10 0 10)) 10 0 9 0
def mf_ag (τ : sT) : Int32 := if 0 ≤ τ.1 10 0 8 then 0 else if τ.1 10 0 15 < 0 then 0 else 1
def mf_p6 (τ : sT) : sT := sI τ 10 0 17 (if mf_ag τ = 0 then τ.1 10 0 17 else τ.1 10 0 16)
def mf_p15 (τ : sT) : sT := mf_p5 (mf_p4 (mf_p3 (mf_p2 τ)))
def mf_behind (τ : sT) : sT := if mf_ag (mf_p15 τ) = 0 then mf_p6 (mf_p15 τ) else mf_p6 (mf_p15 (mf_p6 (mf_p15 τ)))
def mf_a (τ : sT) : Int32 := τ.1 13 0 (8 * τ.1 10 0 8 + (τ.1 14 0 (τ.1 10 0 8).toNatClampNeg - τ.1 14 0 (τ.1 10 0 8).toNatClampNeg / 8 * 8)).toNatClampNeg
def mf_code (τ : sT) : sT :=
  let τ1 := mf_act (sI τ 14 0 (τ.1 10 0 8).toNatClampNeg (τ.1 14 0 (τ.1 10 0 8).toNatClampNeg + 1)) (mf_a τ)
  let τ2 := sL τ1 10 0 18 (τ1.2.2 10 0 18 + 1)
  sI τ2 10 0 17 (if τ2.2.2 10 0 18 - τ2.2.2 10 0 18 / 64 * 64 = 0 then τ2.1 10 0 17 + 1 else τ2.1 10 0 17)
def mf_loop : Nat → sT → Nat × sT
  | 0, τ => (0, τ)
  | n + 1, τ => if τ.1 10 0 8 < 0 then (0, τ) else ((mf_loop n (mf_behind (mf_code τ))).1 + 1, (mf_loop n (mf_behind (mf_code τ))).2)
/-! the reference's ints stay within their arrays -/
def OKm (τ : sT) (lv : Nat → Nat → Prop) (N : Int) : Prop := (∀ k, 10 ≤ k → k < 20 → lv k 0) ∧ (τ.1 10 0 8).toInt < 32 ∧ (τ.1 10 0 10).toInt < 32 ∧ (τ.1 10 0 14).toInt < 16 ∧ (τ.1 10 0 15).toInt < 16 ∧ (0 ≤ (τ.1 10 0 12).toInt ∧ (τ.1 10 0 12).toInt ≤ 64) ∧ (0 ≤ (τ.1 10 0 13).toInt ∧ (τ.1 10 0 13).toInt ≤ 64) ∧ ∀ p, p < 32 → 0 ≤ (τ.1 14 0 p).toInt ∧ (τ.1 14 0 p).toInt ≤ N
theorem OKm.k {τ : sT} {lv : Nat → Nat → Prop} {N : Int} (h : OKm τ lv N) {k : Nat} (h1 : 10 ≤ k) (h2 : k < 20) : lv k 0 := h.1 k h1 h2
theorem OKm.o {τ : sT} {lv : Nat → Nat → Prop} {N : Int} (h : OKm τ lv N) {k i j : Nat} {x : Int32} (hk : ¬ (k = 10 ∧ (j = 8 ∨ j = 10 ∨ j = 12 ∨ j = 13 ∨ j = 14 ∨ j = 15))) (hk2 : ¬ k = 14) : OKm (sI τ k i j x) lv N := by
  obtain ⟨h0, h1, h2, h3, h4, h5, h6, h7⟩ := h
  have e : ∀ j', (j' = 8 ∨ j' = 10 ∨ j' = 12 ∨ j' = 13 ∨ j' = 14 ∨ j' = 15) → (sI τ k i j x).1 10 0 j' = τ.1 10 0 j' := by
    intro j' hj
    simp only [sI]
    rw [if_neg]
    rintro ⟨rfl, -, rfl⟩
    exact hk ⟨rfl, hj⟩
  have e2 : ∀ p, (sI τ k i j x).1 14 0 p = τ.1 14 0 p := by
    intro p
    simp only [sI]
    rw [if_neg (fun q => hk2 q.1.symm)]
  refine ⟨h0, ?_, ?_, ?_, ?_, ?_, ?_, ?_⟩
  · rw [e 8 (by decide)]; exact h1
  · rw [e 10 (by decide)]; exact h2
  · rw [e 14 (by decide)]; exact h3
  · rw [e 15 (by decide)]; exact h4
  · rw [e 12 (by decide)]; exact h5
  · rw [e 13 (by decide)]; exact h6
  · intro p hp; rw [e2]; exact h7 p hp
theorem OKm.L {τ : sT} {lv : Nat → Nat → Prop} {N : Int} (h : OKm τ lv N) {k i j : Nat} {x : Int64} : OKm (sL τ k i j x) lv N := h
theorem OKm.f8 {τ : sT} {lv : Nat → Nat → Prop} {N : Int} (h : OKm τ lv N) {x : Int32} (hx : x.toInt < 32) : OKm (sI τ 10 0 8 x) lv N := by
  obtain ⟨h0, h1, h2, h3, h4, h5, h6, h7⟩ := h
  exact ⟨h0, by simpa [sI] using hx, by simpa [sI] using h2, by simpa [sI] using h3, by simpa [sI] using h4, by simpa [sI] using h5, by simpa [sI] using h6, by simpa [sI] using h7⟩
theorem OKm.f10 {τ : sT} {lv : Nat → Nat → Prop} {N : Int} (h : OKm τ lv N) {x : Int32} (hx : x.toInt < 32) : OKm (sI τ 10 0 10 x) lv N := by
  obtain ⟨h0, h1, h2, h3, h4, h5, h6, h7⟩ := h
  exact ⟨h0, by simpa [sI] using h1, by simpa [sI] using hx, by simpa [sI] using h3, by simpa [sI] using h4, by simpa [sI] using h5, by simpa [sI] using h6, by simpa [sI] using h7⟩
theorem OKm.f14 {τ : sT} {lv : Nat → Nat → Prop} {N : Int} (h : OKm τ lv N) {x : Int32} (hx : x.toInt < 16) : OKm (sI τ 10 0 14 x) lv N := by
  obtain ⟨h0, h1, h2, h3, h4, h5, h6, h7⟩ := h
  exact ⟨h0, by simpa [sI] using h1, by simpa [sI] using h2, by simpa [sI] using hx, by simpa [sI] using h4, by simpa [sI] using h5, by simpa [sI] using h6, by simpa [sI] using h7⟩
theorem OKm.f15 {τ : sT} {lv : Nat → Nat → Prop} {N : Int} (h : OKm τ lv N) {x : Int32} (hx : x.toInt < 16) : OKm (sI τ 10 0 15 x) lv N := by
  obtain ⟨h0, h1, h2, h3, h4, h5, h6, h7⟩ := h
  exact ⟨h0, by simpa [sI] using h1, by simpa [sI] using h2, by simpa [sI] using h3, by simpa [sI] using hx, by simpa [sI] using h5, by simpa [sI] using h6, by simpa [sI] using h7⟩
theorem OKm.f12 {τ : sT} {lv : Nat → Nat → Prop} {N : Int} (h : OKm τ lv N) {x : Int32} (hx : 0 ≤ x.toInt ∧ x.toInt ≤ 64) : OKm (sI τ 10 0 12 x) lv N := by
  obtain ⟨h0, h1, h2, h3, h4, h5, h6, h7⟩ := h
  exact ⟨h0, by simpa [sI] using h1, by simpa [sI] using h2, by simpa [sI] using h3, by simpa [sI] using h4, by simpa [sI] using hx, by simpa [sI] using h6, by simpa [sI] using h7⟩
theorem OKm.f13 {τ : sT} {lv : Nat → Nat → Prop} {N : Int} (h : OKm τ lv N) {x : Int32} (hx : 0 ≤ x.toInt ∧ x.toInt ≤ 64) : OKm (sI τ 10 0 13 x) lv N := by
  obtain ⟨h0, h1, h2, h3, h4, h5, h6, h7⟩ := h
  exact ⟨h0, by simpa [sI] using h1, by simpa [sI] using h2, by simpa [sI] using h3, by simpa [sI] using h4, by simpa [sI] using h5, by simpa [sI] using hx, by simpa [sI] using h7⟩
theorem okm_come {τ : sT} {lv : Nat → Nat → Prop} {N : Int} (h : OKm τ lv N) {p r : Int32} : OKm (mf_come τ p r) lv N := (h.o (k := 15) (i := 0) (j := p.toNatClampNeg) (x := r) (by omega) (by omega)).L.L
theorem okm_want {τ : sT} {lv : Nat → Nat → Prop} {N : Int} (h : OKm τ lv N) {p : Int32} (hp : p.toInt < 32) : OKm (mf_want τ p) lv N := (h.o (k := 10) (i := 0) (j := 9) (x := 1) (by omega) (by omega)).f10 hp
theorem pres_lt {τ : sT} {lv : Nat → Nat → Prop} {N : Int} (h : OKm τ lv N) : (mf_pres τ).toInt < 32 := by
  unfold mf_pres
  split
  · exact h.2.1
  · exact h.2.2.1
theorem okm_rouse {τ : sT} {lv : Nat → Nat → Prop} {N : Int} (h : OKm τ lv N) {x : Int32} (hx : x.toInt < 32) : OKm (mf_rouse τ x) lv N := by
  unfold mf_rouse
  split
  · exact okm_want h hx
  split
  · exact okm_want (okm_come h) hx
  · exact okm_come h
theorem nI_lt32 {k : Nat} (hk : k < 32) : (nI k).toInt < 32 := by rw [nI_toInt (by omega)]; omega
theorem ft_lt {τ : sT} {r f : Int32} {k : Nat} (hk : k < 32) (hf : f.toInt < 32) : (mf_ft τ r k f).toInt < 32 := by
  unfold mf_ft
  split
  · exact hf
  split
  · split
    · exact nI_lt32 hk
    · split
      · exact hf
      · exact nI_lt32 hk
  · exact hf
theorem fl_lt {τ : sT} {r : Int32} : ∀ (n k : Nat) (f : Int32), k + n = 32 → f.toInt < 32 → (mf_fl τ r n k f).toInt < 32
  | 0, _, _, _, hf => hf
  | n + 1, k, f, hk, hf => fl_lt n (k + 1) _ (by omega) (ft_lt (by omega) hf)
theorem first_lt (τ : sT) (r : Int32) : (mf_first τ r).toInt < 32 := fl_lt 32 0 (-1) rfl (by decide)
theorem al_lt (τ : sT) : ∀ (n : Nat) (nx : Int32), nx.toInt < 32 → (mf_al τ n nx).toInt < 32
  | 0, _, h => h
  | n + 1, nx, h => by
    unfold mf_al
    split
    · exact h
    · exact al_lt τ n _ (first_lt _ _)
theorem okm_aend {τ : sT} {lv : Nat → Nat → Prop} {N : Int} (h : OKm τ lv N) {nx : Int32} (hx : nx.toInt < 32) : OKm (mf_aend τ nx) lv N := by
  unfold mf_aend
  refine okm_want ?_ hx
  split
  · exact h
  · exact h.o (by omega) (by omega)
theorem okm_aside {τ : sT} {lv : Nat → Nat → Prop} {N : Int} (h : OKm τ lv N) : OKm (mf_aside τ) lv N := okm_aend h (al_lt τ 8 (-1) (by decide))
theorem okm_sig {τ : sT} {lv : Nat → Nat → Prop} {N : Int} (h : OKm τ lv N) {s : Int32} : OKm (mf_sig τ s) lv N := by
  unfold mf_sig
  split
  · exact okm_rouse (h.o (by omega) (by omega)) (first_lt _ _)
  · exact h.o (by omega) (by omega)
theorem okm_wait {τ : sT} {lv : Nat → Nat → Prop} {N : Int} (h : OKm τ lv N) {s : Int32} : OKm (mf_wait τ s) lv N := by
  unfold mf_wait
  split
  · split
    · exact okm_aside (okm_come h)
    · exact h.o (by omega) (by omega)
  · exact h
theorem okm_give {τ : sT} {lv : Nat → Nat → Prop} {N : Int} (h : OKm τ lv N) : OKm (mf_give τ) lv N := by
  unfold mf_give
  split
  · exact h
  split
  · exact h
  · exact okm_aside (okm_come h)
theorem okm_sh {lv : Nat → Nat → Prop} {N : Int} : ∀ (n k : Nat) {τ : sT}, OKm τ lv N → OKm (mf_sh n k τ) lv N
  | 0, _, _, h => h
  | n + 1, k, _, h => okm_sh n (k + 1) (h.o (by omega) (by omega))
theorem i32_dec {x : Int32} (h : 0 < x.toInt) : (x - 1).toInt = x.toInt - 1 := by
  have h1 := Int32.toInt_lt x
  rw [Int32.toInt_sub, show (1 : Int32).toInt = 1 from rfl]
  apply Int.bmod_eq_of_le <;> omega
theorem okm_drop {τ : sT} {lv : Nat → Nat → Prop} {N : Int} (h : OKm τ lv N) : OKm (mf_drop τ) lv N := by
  unfold mf_drop
  split
  · exact h
  · next q =>
    refine okm_sh _ _ (h.f12 ?_)
    rw [i32_le, i32_0] at q
    have := h.2.2.2.2.2.1
    rw [i32_dec (by omega)]
    omega
theorem rng_in {a lo hi : Int32} (h1 : ¬ a < lo) (h2 : ¬ hi ≤ a) (hlo : 0 ≤ lo.toInt) (hd : hi.toInt = lo.toInt + 16) : vp_in (a - lo) 16 := by
  rw [i32_lt] at h1
  rw [i32_le] at h2
  have := Int32.toInt_lt a
  rw [vp_in_iff, Int32.toInt_sub]
  have e : (a.toInt - lo.toInt).bmod (2 ^ 32) = a.toInt - lo.toInt := by apply Int.bmod_eq_of_le <;> omega
  rw [e]
  omega
theorem okm_act {τ : sT} {lv : Nat → Nat → Prop} {N : Int} (h : OKm τ lv N) {a : Int32} : OKm (mf_act τ a) lv N := by
  unfold mf_act
  split
  · exact okm_wait h
  split
  · exact okm_sig h
  split
  · exact okm_give h
  split
  · exact okm_drop h
  split
  · exact h.f14 (by decide)
  split
  · next q => exact (h.f15 (by have := vp_in_iff.mp (rng_in q.1 q.2 (by decide) rfl); omega)).o (by omega) (by omega)
  split
  · next q => exact h.f14 (by have := vp_in_iff.mp (rng_in q.1 q.2 (by decide) rfl); omega)
  · exact h
