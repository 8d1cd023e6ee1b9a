/-- the hour at which one came, as a whole number -/
abbrev fh (τ : sT) (x : Nat) : Int := (τ.2.2 16 0 x).toInt
/-- what the reference's two arrays say of a row: its members -/
def InR (τ : sT) (R : Int32) (l : List Nat) : Prop := (∀ k, k < 32 → ((¬ τ.1 11 0 k = 0 ∧ τ.1 15 0 k = R) ↔ k ∈ l)) ∧ (∀ k ∈ l, k < 32) ∧ l.Pairwise (fun x y => fh τ x < fh τ y)
theorem i64_le {x y : Int64} : x ≤ y ↔ x.toInt ≤ y.toInt := Int64.le_iff_toInt_le
theorem nI_neg {m : Nat} (hm : m < 2 ^ 31) : ¬ nI m < 0 := nI_pos hm
def Bst (τ : sT) (l : List Nat) (k : Nat) (f : Int32) : Prop := (f = -1 ∧ ∀ y ∈ l, k ≤ y) ∨ ∃ m, m < k ∧ m ∈ l ∧ f = nI m ∧ ∀ y ∈ l, y < k → fh τ m ≤ fh τ y
theorem bst_step {τ : sT} {R : Int32} {l : List Nat} (h : InR τ R l) {k : Nat} {f : Int32} (hk : k < 32) (hb : Bst τ l k f) : Bst τ l (k + 1) (mf_ft τ R k f) := by
  have ecl : (nI k).toNatClampNeg = k := nI_clamp (by omega)
  unfold mf_ft
  rw [ecl]
  by_cases hm : k ∈ l
  · obtain ⟨m1, m2⟩ := (h.1 k hk).mpr hm
    rw [if_neg m1, if_pos m2]
    rcases hb with ⟨rfl, hb⟩ | ⟨m, b1, b2, rfl, b4⟩
    · rw [if_pos (by decide)]
      refine Or.inr ⟨k, by omega, hm, rfl, fun y hy hyk => ?_⟩
      have := hb y hy
      have e : y = k := by omega
      subst e
      exact Int.le_refl _
    · have hm32 := h.2.1 m b2
      rw [if_neg (nI_neg (by omega)), nI_clamp (by omega)]
      by_cases hc : 0 ≤ lg_cmp (τ.2.2 16 0 k) (τ.2.2 16 0 m)
      · rw [if_pos hc]
        rw [lg_cmp_ge, i64_le] at hc
        refine Or.inr ⟨m, by omega, b2, rfl, fun y hy hyk => ?_⟩
        by_cases e : y = k
        · subst e; exact hc
        · exact b4 y hy (by omega)
      · rw [if_neg hc]
        rw [lg_cmp_ge, i64_le] at hc
        refine Or.inr ⟨k, by omega, hm, rfl, fun y hy hyk => ?_⟩
        by_cases e : y = k
        · subst e; exact Int.le_refl _
        · have := b4 y hy (by omega)
          show (τ.2.2 16 0 k).toInt ≤ (τ.2.2 16 0 y).toInt
          have e2 : (τ.2.2 16 0 m).toInt ≤ (τ.2.2 16 0 y).toInt := this
          omega
  · have hs : Bst τ l (k + 1) f := by
      rcases hb with ⟨rfl, hb⟩ | ⟨m, b1, b2, rfl, b4⟩
      · refine Or.inl ⟨rfl, fun y hy => ?_⟩
        have := hb y hy
        have : y ≠ k := fun e => hm (e ▸ hy)
        omega
      · refine Or.inr ⟨m, by omega, b2, rfl, fun y hy hyk => b4 y hy ?_⟩
        have : y ≠ k := fun e => hm (e ▸ hy)
        omega
    split
    · exact hs
    · next q1 =>
      split
      · next q2 => exact absurd ((h.1 k hk).mp ⟨q1, q2⟩) hm
      · exact hs
theorem bst_all {τ : sT} {R : Int32} {l : List Nat} (h : InR τ R l) : ∀ (n k : Nat) (f : Int32), k + n = 32 → Bst τ l k f → Bst τ l 32 (mf_fl τ R n k f)
  | 0, k, f, hk, hb => by
    have e : k = 32 := by omega
    subst e
    exact hb
  | n + 1, k, f, hk, hb => bst_all h n (k + 1) _ (by omega) (bst_step h (by omega) hb)
theorem first_eq {τ : sT} {R : Int32} {l : List Nat} (h : InR τ R l) : mf_first τ R = cf_num l.head? := by
  have hb := bst_all h 32 0 (-1) rfl (Or.inl ⟨rfl, fun y _ => Nat.zero_le _⟩)
  show mf_fl τ R 32 0 (-1) = _
  rcases hb with ⟨e, hb⟩ | ⟨m, b1, b2, e, b4⟩
  · rw [e]
    cases l with
    | nil => rfl
    | cons x t =>
      have := hb x List.mem_cons_self
      have := h.2.1 x List.mem_cons_self
      omega
  · rw [e]
    cases l with
    | nil => cases b2
    | cons x t =>
      show nI m = nI x
      rcases List.mem_cons.mp b2 with rfl | b2
      · rfl
      · have h1 := (List.pairwise_cons.mp h.2.2).1 m b2
        have h2 := b4 x List.mem_cons_self (h.2.1 x List.mem_cons_self)
        omega
theorem idx_cnt {f : Nat → Int} : ∀ {l : List Nat}, l.Pairwise (fun x y => f x < f y) → ∀ j (hj : j < l.length), l.countP (fun y => decide (f y < f l[j])) = j
  | [], _, j, hj => absurd hj (Nat.not_lt_zero _)
  | x :: t, h, 0, _ => by
    obtain ⟨h1, h2⟩ := List.pairwise_cons.mp h
    rw [List.countP_eq_zero]
    intro y hy
    rcases List.mem_cons.mp hy with rfl | hy
    · simp
    · have := h1 y hy
      simp
      omega
  | x :: t, h, j + 1, hj => by
    obtain ⟨h1, h2⟩ := List.pairwise_cons.mp h
    have hj' : j < t.length := by simpa using hj
    have e := idx_cnt h2 j hj'
    have hx : f x < f t[j] := h1 _ (List.getElem_mem hj')
    rw [List.getElem_cons_succ, List.countP_cons_of_pos (by simpa using hx), e]
theorem bl_cnt {τ : sT} {R : Int32} {l : List Nat} (h : InR τ R l) {p : Nat} (hp : p < 32) : ∀ (n q : Nat) (b : Int32), q + n = 32 → mf_bl τ R p n q b = b + nI ((List.range' q n).countP (fun y => decide (y ∈ l ∧ fh τ y < fh τ p)))
  | 0, q, b, _ => by simp [mf_bl, nI_0]
  | n + 1, q, b, hq => by
    have ecl : (nI q).toNatClampNeg = q := nI_clamp (by omega)
    have ecp : (nI p).toNatClampNeg = p := nI_clamp (by omega)
    have e1 : mf_bt τ R p q b = if q ∈ l ∧ fh τ q < fh τ p then b + 1 else b := by
      unfold mf_bt
      rw [ecl, ecp]
      by_cases hm : q ∈ l
      · obtain ⟨m1, m2⟩ := (h.1 q (by omega)).mpr hm
        rw [if_neg m1, if_pos m2]
        by_cases hc : 0 ≤ lg_cmp (τ.2.2 16 0 q) (τ.2.2 16 0 p)
        · rw [if_pos hc]
          rw [lg_cmp_ge, i64_le] at hc
          rw [if_neg (fun z => by have z2 : (τ.2.2 16 0 q).toInt < (τ.2.2 16 0 p).toInt := z.2; omega)]
        · rw [if_neg hc]
          rw [lg_cmp_ge, i64_le] at hc
          rw [if_pos ⟨hm, by show (τ.2.2 16 0 q).toInt < (τ.2.2 16 0 p).toInt; omega⟩]
      · rw [if_neg (show ¬ (q ∈ l ∧ fh τ q < fh τ p) from fun z => hm z.1)]
        split
        · rfl
        · next q1 =>
          split
          · next q2 => exact absurd ((h.1 q (by omega)).mp ⟨q1, q2⟩) hm
          · rfl
    rw [mf_bl, bl_cnt h hp n (q + 1) _ (by omega), e1, List.range'_succ]
    by_cases hc : q ∈ l ∧ fh τ q < fh τ p
    · rw [if_pos hc, List.countP_cons_of_pos (by simpa using hc), nI_succ, Int32.add_assoc, Int32.add_comm 1]
    · rw [if_neg hc, List.countP_cons_of_neg (by simpa using hc)]
theorem cnt_perm {τ : sT} {R : Int32} {l : List Nat} (h : InR τ R l) (P : Nat → Prop) [DecidablePred P] : (List.range' 0 32).countP (fun y => decide (y ∈ l ∧ P y)) = l.countP (fun y => decide (P y)) := by
  have hnd : l.Nodup := pw_nodup (f := fh τ) h.2.2
  have e : ((List.range' 0 32).filter (fun y => decide (y ∈ l))).Perm l := by
    rw [List.perm_ext_iff_of_nodup ((List.nodup_range' (s := 0) (n := 32) (step := 1)).filter _) hnd]
    intro a
    rw [List.mem_filter]
    constructor
    · intro q; simpa using q.2
    · intro q
      have := h.2.1 a q
      exact ⟨by simp [List.mem_range']; omega, by simpa using q⟩
  rw [← e.countP_eq, List.countP_filter]
  congr 1
  funext y
  simp [and_comm]
theorem nI_inj {a b : Nat} (ha : a < 2 ^ 31) (hb : b < 2 ^ 31) (h : nI a = nI b) : a = b := (nI_eq ha hb).mp h
theorem at1_yes {τ : sT} {R : Int32} {l : List Nat} (h : InR τ R l) {i : Nat} (hi : i < l.length) (hl : l.length ≤ 32) : ∀ (n p : Nat), p + n = 32 → p ≤ l[i] → mf_at1 τ R (nI i) n p = nI l[i]
  | 0, p, hp, hx => by
    have := h.2.1 _ (List.getElem_mem hi)
    omega
  | n + 1, p, hp, hx => by
    have ecl : (nI p).toNatClampNeg = p := nI_clamp (by omega)
    unfold mf_at1
    rw [ecl]
    have hcnt : mf_bl τ R p 32 0 0 = nI (l.countP (fun y => decide (fh τ y < fh τ p))) := by
      rw [bl_cnt h (by omega) 32 0 0 rfl, cnt_perm h (fun y => fh τ y < fh τ p), Int32.zero_add]
    by_cases e : p = l[i]
    · have hm : p ∈ l := e ▸ List.getElem_mem hi
      obtain ⟨m1, m2⟩ := (h.1 p (by omega)).mpr hm
      rw [if_neg m1, if_pos m2, hcnt, e, idx_cnt h.2.2 i hi, if_pos rfl]
    · have hr := at1_yes h hi hl n (p + 1) (by omega) (by omega)
      split
      · exact hr
      · next q1 =>
        split
        · next q2 =>
          have hm := (h.1 p (by omega)).mp ⟨q1, q2⟩
          obtain ⟨j, hj, ej⟩ := List.getElem_of_mem hm
          have ec : l.countP (fun y => decide (fh τ y < fh τ p)) = j := by have e9 := idx_cnt h.2.2 j hj; rw [ej] at e9; exact e9
          rw [hcnt, ec]
          rw [if_neg]
          · exact hr
          · intro z
            have := nI_inj (by omega) (by omega) z
            subst this
            exact e ej.symm
        · exact hr
theorem at1_no {τ : sT} {R : Int32} {l : List Nat} (h : InR τ R l) {i : Nat} (hi : l.length ≤ i) (hi2 : i < 2 ^ 31) (hl : l.length ≤ 32) : ∀ (n p : Nat), p + n = 32 → mf_at1 τ R (nI i) n p = -1
  | 0, p, hp => rfl
  | n + 1, p, hp => by
    have ecl : (nI p).toNatClampNeg = p := nI_clamp (by omega)
    unfold mf_at1
    rw [ecl]
    have hcnt : mf_bl τ R p 32 0 0 = nI (l.countP (fun y => decide (fh τ y < fh τ p))) := by
      rw [bl_cnt h (by omega) 32 0 0 rfl, cnt_perm h (fun y => fh τ y < fh τ p), Int32.zero_add]
    have hr := at1_no h hi hi2 hl n (p + 1) (by omega)
    split
    · exact hr
    · next q1 =>
      split
      · next q2 =>
        have hm := (h.1 p (by omega)).mp ⟨q1, q2⟩
        obtain ⟨j, hj, ej⟩ := List.getElem_of_mem hm
        have ec : l.countP (fun y => decide (fh τ y < fh τ p)) = j := by have e9 := idx_cnt h.2.2 j hj; rw [ej] at e9; exact e9
        rw [hcnt, ec]
        rw [if_neg]
        · exact hr
        · intro z
          have := nI_inj (by omega) (by omega) z
          omega
      · exact hr
theorem nd_len {l : List Nat} (hn : l.Nodup) (h : ∀ x ∈ l, x < 32) : l.length ≤ 32 := by
  have : l ⊆ List.range 32 := fun x hx => List.mem_range.mpr (h x hx)
  have := hn.length_le_of_subset this
  simpa using this
