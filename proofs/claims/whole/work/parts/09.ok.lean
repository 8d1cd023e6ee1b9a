theorem xor_sign {x d : Int32} (hd : 0 ≤ d.toInt) : 0 ≤ x ^^^ d ↔ 0 ≤ x.toInt := by
  rw [Int32.le_iff_toInt_le, show (0 : Int32).toInt = 0 from rfl]
  have h1 : (x ^^^ d).toInt = (x.toBitVec ^^^ d.toBitVec).toInt := by rw [← Int32.toBitVec_xor]; rfl
  have h2 : x.toInt = x.toBitVec.toInt := rfl
  have h3 : d.toInt = d.toBitVec.toInt := rfl
  rw [h1, h2]
  have m1 := BitVec.msb_eq_toInt (x := x.toBitVec ^^^ d.toBitVec)
  have m2 := BitVec.msb_eq_toInt (x := x.toBitVec)
  have m3 := BitVec.msb_eq_toInt (x := d.toBitVec)
  rw [BitVec.msb_xor] at m1
  rw [h3] at hd
  have e3 : d.toBitVec.msb = false := by rw [m3]; simp; omega
  rw [e3, Bool.xor_false, m2] at m1
  have m4 := decide_eq_decide.mp m1
  omega
theorem fmod_in {x d : Int32} {n : Nat} (hd : d.toInt = n) (hn : 0 < n) (hs : n < 2 ^ 20) : vp_in (fmod x d) n := by
  rw [vp_in_iff]
  have hr := rem_toInt x d
  have hb := tmod_bounds (a := x.toInt) (M := d.toInt) (by omega)
  have hx := xor_sign (x := x) (d := d) (by omega)
  unfold fmod
  by_cases h : 0 ≤ x ^^^ d
  · rw [if_pos h, hr]
    have := Int.tmod_nonneg d.toInt (hx.mp h)
    omega
  · rw [if_neg h]
    have hx0 : x.toInt < 0 := Int.not_le.mp (fun q => h (hx.mpr q))
    split
    · next q => rw [q]; rw [show (0 : Int32).toInt = 0 from rfl]; omega
    · next q =>
      have h5 : x.toInt.tmod d.toInt ≤ 0 := by
        have e : x.toInt = -(-x.toInt) := by omega
        rw [e, Int.neg_tmod]
        have := Int.tmod_nonneg d.toInt (show 0 ≤ -x.toInt by omega)
        omega
      have h6 : x.toInt.tmod d.toInt ≠ 0 := fun z => q (Int32.toInt_inj.mp (by rw [hr, z]; rfl))
      rw [Int32.toInt_add, hr]
      have e : (x.toInt.tmod d.toInt + d.toInt).bmod (2 ^ 32) = x.toInt.tmod d.toInt + d.toInt := by
        apply Int.bmod_eq_of_le <;> omega
      rw [e]
      omega
/-- what no call but make changes -/
def Fx (σ σ' : sT) : Prop := (∀ i x, σ'.2.1 1 i x = σ.2.1 1 i x) ∧ (∀ x, σ'.2.1 8 x 2 = σ.2.1 8 x 2) ∧ ∀ x, σ'.1 8 x 1 = σ.1 8 x 1
theorem Fx.rf {σ : sT} : Fx σ σ := ⟨fun _ _ => rfl, fun _ => rfl, fun _ => rfl⟩
theorem Fx.tr {a b c : sT} (h : Fx a b) (g : Fx b c) : Fx a c := ⟨fun i x => (g.1 i x).trans (h.1 i x), fun x => (g.2.1 x).trans (h.2.1 x), fun x => (g.2.2 x).trans (h.2.2 x)⟩
theorem Fx.mk {σ σ' : sT} (h : Fx σ σ') {x : Nat} : Mk σ' x ↔ Mk σ x := by unfold Mk; rw [h.1]
theorem Fx.le {σ σ' : sT} (h : Fx σ σ') {x : Nat} : lev σ' x = lev σ x := by unfold lev; rw [h.2.1]
def GO (σ σ' : sT) (lv : Nat → Nat → Prop) : Prop := OKs σ' lv ∧ Fx σ σ'
theorem GO.tr {a b c : sT} {lv : Nat → Nat → Prop} (h : GO a b lv) (g : GO b c lv) : GO a c lv := ⟨g.1, h.2.tr g.2⟩
theorem GO.rf {σ : sT} {lv : Nat → Nat → Prop} (h : OKs σ lv) : GO σ σ lv := ⟨h, Fx.rf⟩
theorem GO.I {σ : sT} {lv : Nat → Nat → Prop} (h : OKs σ lv) {k i j : Nat} {x : Int32} (hk : ¬ (k = 8 ∧ j = 1)) : GO σ (sI σ k i j x) lv := ⟨h.I, fun _ _ => rfl, fun _ => rfl, fun y => by
  simp only [sI]
  rw [if_neg (fun q => hk ⟨q.1.symm, q.2.2.symm⟩)]⟩
theorem GO.L {σ : sT} {lv : Nat → Nat → Prop} (h : OKs σ lv) {k i j : Nat} {x : Int64} : GO σ (sL σ k i j x) lv := ⟨h.L, fun _ _ => rfl, fun _ => rfl, fun _ => rfl⟩
theorem GO.P {σ : sT} {lv : Nat → Nat → Prop} (h : OKs σ lv) {k i j : Nat} {o : Option Nat} (hk : k ≠ 1) (h82 : ¬ (k = 8 ∧ j = 2)) (h9 : ¬ (k = 0 ∧ (j = 9 ∨ j = 10))) (ho : ∀ y, o = some y → Mk σ y) : GO σ (sP σ k i j o) lv := by
  refine ⟨h.P hk h82 (fun y q => ⟨fun _ => ho y q, fun z => absurd z h9⟩), fun a b => ?_, fun a => ?_, fun _ => rfl⟩
  · simp only [sP]; rw [if_neg (fun q => hk q.1.symm)]
  · simp only [sP]; rw [if_neg (fun q => h82 ⟨q.1.symm, q.2.2.symm⟩)]
theorem GO.S {σ : sT} {lv : Nat → Nat → Prop} (h : OKs σ lv) {j : Nat} {o : Option Nat} (h9 : j = 9 ∨ j = 10) (ho : ∀ y, o = some y → y < 16) : GO σ (sP σ 0 0 j o) lv := by
  refine ⟨h.P (by decide) (fun q => absurd q.1 (by decide)) (fun y q => ⟨fun z => absurd ⟨rfl, h9⟩ z, fun _ => ho y q⟩), fun a b => ?_, fun a => ?_, fun _ => rfl⟩
  · simp [sP]
  · simp [sP]
theorem pres_ok {σ : sT} {lv : Nat → Nat → Prop} (h : OKs σ lv) {x : Nat} (hx : cf_pres σ = some x) : Mk σ x := by
  unfold cf_pres at hx
  split at hx
  · exact h.ac hx
  · exact h.wa hx
theorem lev_lt {σ : sT} {lv : Nat → Nat → Prop} (h : OKs σ lv) {x : Nat} (hx : Mk σ x) : lev σ x < 8 := by
  obtain ⟨v, hv, e⟩ := h.rdy hx
  unfold lev; rw [e]; exact hv
theorem go_want {σ : sT} {lv : Nat → Nat → Prop} (h : OKs σ lv) {o : Option Nat} (ho : ∀ y, o = some y → Mk σ y) : GO σ (cf_want σ o) lv := by
  have h1 : GO σ (sI σ 0 0 5 1) lv := GO.I h (by decide)
  exact h1.tr (GO.P h1.1 (by decide) (by decide) (by decide) (fun y q => h1.2.mk.mpr (ho y q)))
theorem go_app {σ : sT} {lv : Nat → Nat → Prop} (h : OKs σ lv) {r x : Nat} (hr : r < 24) (hx : Mk σ x) : GO σ (cf_app σ r x) lv := by
  have h1 : GO σ (sI σ 8 x 5 (rno r)) lv := GO.I h (by decide)
  unfold cf_app
  cases hq : σ.2.1 6 r 2 with
  | none =>
    have h2 := h1.tr (GO.P (k := 6) (i := r) (j := 1) (o := some x) h1.1 (by decide) (by decide) (by decide) (fun y q => by cases q; exact h1.2.mk.mpr hx))
    exact h2.tr (GO.P h2.1 (by decide) (by decide) (by decide) (fun y q => by cases q; exact h2.2.mk.mpr hx))
  | some q =>
    have h2 := h1.tr (GO.P (k := 8) (i := q) (j := 6) (o := some x) h1.1 (by decide) (by decide) (by decide) (fun y q => by cases q; exact h1.2.mk.mpr hx))
    exact h2.tr (GO.P h2.1 (by decide) (by decide) (by decide) (fun y q => by cases q; exact h2.2.mk.mpr hx))
theorem go_take {σ : sT} {lv : Nat → Nat → Prop} (h : OKs σ lv) {r : Nat} (hr : r < 24) : GO σ (cf_take σ r).2 lv := by
  unfold cf_take
  cases hq : σ.2.1 6 r 1 with
  | none => exact GO.rf h
  | some x =>
    have hx : Mk σ x := h.fi hr hq
    have h1 : GO σ (sP σ 6 r 1 (σ.2.1 8 x 6)) lv := GO.P h (by decide) (by decide) (by decide) (fun y q => h.bh hx q)
    cases hb : σ.2.1 8 x 6 with
    | none =>
      simp only [hb]
      rw [hb] at h1
      have h2 := h1.tr (GO.P (k := 6) (i := r) (j := 2) (o := none) h1.1 (by decide) (by decide) (by decide) (fun y q => by cases q))
      have h3 := h2.tr (GO.P (k := 8) (i := x) (j := 6) (o := none) h2.1 (by decide) (by decide) (by decide) (fun y q => by cases q))
      exact h3.tr (GO.I h3.1 (by decide))
    | some z =>
      simp only [hb]
      rw [hb] at h1
      have h3 := h1.tr (GO.P (k := 8) (i := x) (j := 6) (o := none) h1.1 (by decide) (by decide) (by decide) (fun y q => by cases q))
      exact h3.tr (GO.I h3.1 (by decide))
theorem take_ok {σ : sT} {lv : Nat → Nat → Prop} (h : OKs σ lv) {r x : Nat} (hr : r < 24) (hx : (cf_take σ r).1 = some x) : Mk σ x := by
  unfold cf_take at hx
  cases hq : σ.2.1 6 r 1 with
  | none => rw [hq] at hx; cases hx
  | some y => rw [hq] at hx; cases hx; exact h.fi hr hq
theorem go_wake {σ : sT} {lv : Nat → Nat → Prop} (h : OKs σ lv) {x : Nat} (hx : Mk σ x) : GO σ (cf_wake σ x) lv := by
  unfold cf_wake
  cases hp : cf_pres σ with
  | none => exact go_want h (fun y q => by cases q; exact hx)
  | some q =>
    have hq := pres_ok h hp
    dsimp only
    split
    · have h1 := go_app h (show lev σ q < 24 by have := lev_lt h hq; omega) hq
      exact h1.tr (go_want h1.1 (fun y z => by cases z; exact h1.2.mk.mpr hx))
    · exact go_app h (show lev σ x < 24 by have := lev_lt h hx; omega) hx
theorem go_first {lv : Nat → Nat → Prop} : ∀ (n : Nat) {σ : sT}, OKs σ lv → n ≤ 24 → GO σ (cf_first n σ).2 lv ∧ ∀ x, (cf_first n σ).1 = some x → Mk σ x
  | 0, σ, h, _ => ⟨GO.rf h, fun x q => by cases q⟩
  | n + 1, σ, h, hn => by
    unfold cf_first
    have h1 := go_take h (r := n) (by omega)
    have h2 : ∀ x, (cf_take σ n).1 = some x → Mk σ x := fun x q => take_ok h (by omega) q
    cases hq : cf_take σ n with
    | mk o σ1 =>
      rw [hq] at h1 h2
      cases o with
      | none =>
        obtain ⟨g1, g2⟩ := go_first n h1.1 (by omega)
        exact ⟨h1.tr g1, fun x q => h1.2.mk.mp (g2 x q)⟩
      | some x => exact ⟨h1, fun y q => by cases q; exact h2 x rfl⟩
theorem go_aside {σ : sT} {lv : Nat → Nat → Prop} (h : OKs σ lv) : GO σ (cf_aside σ) lv := by
  obtain ⟨g1, g2⟩ := go_first 8 h (by omega)
  exact g1.tr (go_want g1.1 (fun y q => g1.2.mk.mpr (g2 y q)))
theorem go_sig {σ : sT} {lv : Nat → Nat → Prop} (h : OKs σ lv) {s : Nat} (hs : s < 16) : GO σ (cf_sig σ s) lv := by
  unfold cf_sig
  have h1 := go_take h (r := 8 + s) (by omega)
  have h2 : ∀ x, (cf_take σ (8 + s)).1 = some x → Mk σ x := fun x q => take_ok h (by omega) q
  cases hq : (cf_take σ (8 + s)).1 with
  | none => exact h1.tr (GO.I h1.1 (by decide))
  | some x => exact h1.tr (go_wake h1.1 (h1.2.mk.mpr (h2 x hq)))
theorem go_wait {σ : sT} {lv : Nat → Nat → Prop} (h : OKs σ lv) {s : Nat} (hs : s < 16) : GO σ (cf_wait σ s) lv := by
  unfold cf_wait
  cases hp : cf_pres σ with
  | none => exact GO.rf h
  | some q =>
    dsimp only
    split
    · have h1 := go_app h (show 8 + s < 24 by omega) (pres_ok h hp)
      exact h1.tr (go_aside h1.1)
    · exact GO.I h (by decide)
theorem go_give {σ : sT} {lv : Nat → Nat → Prop} (h : OKs σ lv) : GO σ (cf_give σ) lv := by
  unfold cf_give
  cases hp : cf_pres σ with
  | none => exact GO.rf h
  | some q =>
    dsimp only
    split
    · exact GO.rf h
    · have h1 := go_app h (show lev σ q < 24 by have := lev_lt h (pres_ok h hp); omega) (pres_ok h hp)
      exact h1.tr (go_aside h1.1)
theorem go_many {lv : Nat → Nat → Prop} {s : Nat} (hs : s < 16) : ∀ (n : Nat) {σ : sT}, OKs σ lv → GO σ (cf_many s n σ) lv
  | 0, σ, h => GO.rf h
  | n + 1, σ, h => (go_sig h hs).tr (go_many hs n (go_sig h hs).1)
theorem go_words {σ : sT} {lv : Nat → Nat → Prop} (h : OKs σ lv) : GO σ (cf_words σ) lv := by
  have h1 : GO σ (sI σ 4 0 3 0) lv := GO.I h (by decide)
  unfold cf_words
  cases hq : σ.2.1 0 0 9 with
  | none => exact h1
  | some s => exact h1.tr (go_many (h.inp hq) _ h1.1)
theorem go_due {σ : sT} {lv : Nat → Nat → Prop} (h : OKs σ lv) : GO σ (cf_due σ) lv := by
  unfold cf_due
  cases hq : σ.2.1 0 0 10 with
  | none => exact GO.rf h
  | some s =>
    dsimp only
    split
    · have h1 : GO σ (sP σ 0 0 10 none) lv := GO.S h (Or.inr rfl) (fun y q => by cases q)
      exact h1.tr (go_sig h1.1 (h.al hq))
    · exact GO.rf h
theorem go_settle {σ : sT} {lv : Nat → Nat → Prop} (h : OKs σ lv) : GO σ (cf_settle σ) lv := by
  unfold cf_settle
  have h1 := (go_words h).tr (go_due (go_words h).1)
  generalize cf_due (cf_words σ) = σ1 at h1 ⊢
  dsimp only
  split
  · exact h1
  · have h2 := h1.tr (GO.P (k := 0) (i := 0) (j := 4) (o := σ1.2.1 0 0 6) h1.1 (by decide) (by decide) (by decide) (fun y q => h1.1.wa q))
    have h3 := h2.tr (GO.I (k := 0) (i := 0) (j := 5) (x := 0) h2.1 (by decide))
    exact h3.tr (GO.P h3.1 (by decide) (by decide) (by decide) (fun y q => by cases q))
theorem go_behind {σ : sT} {lv : Nat → Nat → Prop} (h : OKs σ lv) : GO σ (cf_behind σ) lv := by
  unfold cf_behind
  have h1 := go_settle h
  generalize cf_settle σ = σ1 at h1 ⊢
  dsimp only
  split
  · have h2 := h1.tr (GO.I (k := 0) (i := 0) (j := 7) (x := σ1.1 0 0 11) h1.1 (by decide))
    exact h2.tr (go_settle h2.1)
  · exact h1
theorem isS_lt {a : Int32} (h : isS a) : a.toNatClampNeg < 16 := by
  obtain ⟨h0, h1⟩ := h
  rw [Int32.le_iff_toInt_le] at h0
  rw [Int32.lt_iff_toInt_lt] at h1
  rw [show (0 : Int32).toInt = 0 from rfl] at h0
  rw [show (16 : Int32).toInt = 16 from rfl] at h1
  rw [← Int32.toNat_toInt]
  omega
theorem go_act {σ : sT} {lv : Nat → Nat → Prop} (h : OKs σ lv) {a : Int32} : GO σ (cf_act σ a) lv := by
  unfold cf_act
  split
  · next q => exact go_wait h (isS_lt q)
  split
  · next q => exact go_sig h (isS_lt q)
  split
  · exact go_give h
  split
  · unfold cf_drop
    split
    · exact GO.rf h
    · have h1 : GO σ (sI σ 4 0 1 (cf_place σ 1)) lv := GO.I h (by decide)
      exact h1.tr (GO.I h1.1 (by decide))
  split
  · exact GO.S h (Or.inl rfl) (fun y q => by cases q)
  split
  · next q =>
    have h1 : GO σ (sP σ 0 0 10 (some (a - 64).toNatClampNeg)) lv := GO.S h (Or.inr rfl) (fun y z => by cases z; exact isS_lt q)
    exact h1.tr (GO.I h1.1 (by decide))
  split
  · next q => exact GO.S h (Or.inl rfl) (fun y z => by cases z; exact isS_lt q)
  · exact GO.rf h
theorem go_code {σ : sT} {lv : Nat → Nat → Prop} (h : OKs σ lv) {x : Nat} : GO σ (cf_code σ x) lv := by
  unfold cf_code
  have h1 : GO σ (sI σ 8 x 4 (σ.1 8 x 4 + 1)) lv := GO.I h (by decide)
  have h2 := h1.tr (go_act (a := cf_next σ x) h1.1)
  generalize cf_act (sI σ 8 x 4 (σ.1 8 x 4 + 1)) (cf_next σ x) = σ1 at h2 ⊢
  have h3 := h2.tr (GO.L (k := 0) (i := 0) (j := 8) (x := σ1.2.2 0 0 8 + 1) h2.1)
  dsimp only
  split
  · exact h3.tr (GO.I h3.1 (by decide))
  · exact h3
theorem go_loop {lv : Nat → Nat → Prop} : ∀ (n : Nat) {σ : sT}, OKs σ lv → GO σ (cf_loop n σ).2 lv
  | 0, σ, h => GO.rf h
  | n + 1, σ, h => by
    unfold cf_loop
    cases hq : σ.2.1 0 0 4 with
    | none => exact GO.rf h
    | some x =>
      have h1 := (go_code (x := x) h).tr (go_behind (go_code (x := x) h).1)
      exact h1.tr (go_loop n h1.1)
/-- what the rows' and the changes' doings touch, and nothing else -/
def Fr (σ σ' : sT) : Prop := (∀ k i j, ¬ (k = 8 ∧ j = 5) → ¬ (k = 0 ∧ j = 5) → ¬ (k = 7 ∧ j = 2) → σ'.1 k i j = σ.1 k i j) ∧ (∀ k i j, ¬ (k = 8 ∧ j = 6) → ¬ k = 6 → ¬ (k = 0 ∧ j = 6) → σ'.2.1 k i j = σ.2.1 k i j) ∧ σ'.2.2 = σ.2.2
theorem Fr.rf {σ : sT} : Fr σ σ := ⟨fun _ _ _ _ _ _ => rfl, fun _ _ _ _ _ _ => rfl, rfl⟩
theorem Fr.tr {a b c : sT} (h : Fr a b) (g : Fr b c) : Fr a c := ⟨fun k i j h1 h2 h3 => (g.1 k i j h1 h2 h3).trans (h.1 k i j h1 h2 h3), fun k i j h1 h2 h3 => (g.2.1 k i j h1 h2 h3).trans (h.2.1 k i j h1 h2 h3), g.2.2.trans h.2.2⟩
theorem Fr.I {σ : sT} {k i j : Nat} {x : Int32} (h : (k = 8 ∧ j = 5) ∨ (k = 0 ∧ j = 5) ∨ (k = 7 ∧ j = 2)) : Fr σ (sI σ k i j x) := by
  refine ⟨fun k' i' j' h1 h2 h3 => ?_, fun _ _ _ _ _ _ => rfl, rfl⟩
  simp only [sI]
  rw [if_neg]
  rintro ⟨rfl, rfl, rfl⟩
  rcases h with h | h | h
  · exact h1 h
  · exact h2 h
  · exact h3 h
theorem Fr.P {σ : sT} {k i j : Nat} {x : Option Nat} (h : (k = 8 ∧ j = 6) ∨ k = 6 ∨ (k = 0 ∧ j = 6)) : Fr σ (sP σ k i j x) := by
  refine ⟨fun _ _ _ _ _ _ => rfl, fun k' i' j' h1 h2 h3 => ?_, rfl⟩
  simp only [sP]
  rw [if_neg]
  rintro ⟨rfl, rfl, rfl⟩
  rcases h with h | h | h
  · exact h1 h
  · exact h2 h
  · exact h3 h
theorem fr_want (σ : sT) (o : Option Nat) : Fr σ (cf_want σ o) := (Fr.I (by decide)).tr (Fr.P (by decide))
theorem fr_app (σ : sT) (r x : Nat) : Fr σ (cf_app σ r x) := by
  unfold cf_app
  cases σ.2.1 6 r 2 with
  | none => exact ((Fr.I (by decide)).tr (Fr.P (by decide))).tr (Fr.P (by decide))
  | some q => exact ((Fr.I (by decide)).tr (Fr.P (by decide))).tr (Fr.P (by decide))
theorem fr_take (σ : sT) (r : Nat) : Fr σ (cf_take σ r).2 := by
  unfold cf_take
  cases σ.2.1 6 r 1 with
  | none => exact Fr.rf
  | some x =>
    dsimp only
    cases σ.2.1 8 x 6 with
    | none => exact (((Fr.P (by decide)).tr (Fr.P (by decide))).tr (Fr.P (by decide))).tr (Fr.I (by decide))
    | some z => exact ((Fr.P (by decide)).tr (Fr.P (by decide))).tr (Fr.I (by decide))
theorem fr_wake (σ : sT) (x : Nat) : Fr σ (cf_wake σ x) := by
  unfold cf_wake
  cases cf_pres σ with
  | none => exact fr_want _ _
  | some q =>
    dsimp only
    split
    · exact (fr_app _ _ _).tr (fr_want _ _)
    · exact fr_app _ _ _
theorem fr_first : ∀ (n : Nat) (σ : sT), Fr σ (cf_first n σ).2
  | 0, σ => Fr.rf
  | n + 1, σ => by
    unfold cf_first
    have h1 := fr_take σ n
    cases hq : cf_take σ n with
    | mk o σ1 =>
      rw [hq] at h1
      cases o with
      | none => exact h1.tr (fr_first n σ1)
      | some x => exact h1
theorem fr_aside (σ : sT) : Fr σ (cf_aside σ) := (fr_first 8 σ).tr (fr_want _ _)
theorem fr_sig (σ : sT) (s : Nat) : Fr σ (cf_sig σ s) := by
  unfold cf_sig
  cases (cf_take σ (8 + s)).1 with
  | none => exact (fr_take _ _).tr (Fr.I (by decide))
  | some x => exact (fr_take _ _).tr (fr_wake _ _)
theorem fr_many (s : Nat) : ∀ (n : Nat) (σ : sT), Fr σ (cf_many s n σ)
  | 0, σ => Fr.rf
  | n + 1, σ => (fr_sig σ s).tr (fr_many s n _)
theorem i32_succ {x y : Int32} (h : x.toInt < y.toInt) : (x + Int32.ofInt 1).toInt = x.toInt + 1 := by
  have h1 := Int32.toInt_lt y
  have h2 := Int32.le_toInt x
  rw [Int32.toInt_add, show (Int32.ofInt 1).toInt = 1 from rfl]
  apply Int.bmod_eq_of_le <;> omega
