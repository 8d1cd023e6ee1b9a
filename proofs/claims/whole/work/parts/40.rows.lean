/-! THE ROWS: linked lists in the class, rows and hours in the reference -/
theorem rno_inj : ∀ r, r < 24 → ∀ q, q < 24 → rno r = rno q → r = q := by decide +kernel
theorem rno_ne : ∀ r, r < 24 → rno r ≠ 0 := by decide +kernel
/-- the chain of the list: each one's next is the one behind it -/
def lk (σ : sT) : List Nat → Prop
  | [] => True
  | x :: l => σ.2.1 8 x 6 = l.head? ∧ lk σ l
theorem lk_congr {σ σ' : sT} : ∀ {l : List Nat}, (∀ y ∈ l, σ'.2.1 8 y 6 = σ.2.1 8 y 6) → lk σ l → lk σ' l
  | [], _, _ => trivial
  | x :: l, h, hl => ⟨(h x List.mem_cons_self).trans hl.1, lk_congr (fun y hy => h y (List.mem_cons_of_mem _ hy)) hl.2⟩
theorem lk_app {σ σ' : sT} {q x : Nat} (hq : σ'.2.1 8 q 6 = some x) (hx : σ'.2.1 8 x 6 = none) : ∀ {l : List Nat}, (∀ y ∈ l, y ≠ q → σ'.2.1 8 y 6 = σ.2.1 8 y 6) → l.Nodup → l.getLast? = some q → lk σ l → lk σ' (l ++ [x])
  | [], _, _, hg, _ => by cases hg
  | [y], h, _, hg, hl => by
    have e : y = q := by simpa using hg
    subst e
    exact ⟨hq, hx, trivial⟩
  | y :: z :: l, h, hn, hg, hl => by
    have hyq : y ≠ q := by
      rintro rfl
      have hm : y ∈ z :: l := by
        have e : (z :: l).getLast? = some y := by rw [← hg]; simp
        exact List.mem_of_getLast? e
      exact (List.nodup_cons.mp hn).1 hm
    refine ⟨(h y List.mem_cons_self hyq).trans hl.1, ?_⟩
    refine lk_app hq hx (fun w hw => h w (List.mem_cons_of_mem _ hw)) (List.nodup_cons.mp hn).2 ?_ hl.2
    rw [← hg]; simp
theorem lk_walk {σ : sT} : ∀ {l : List Nat}, lk σ l → ∀ i, cf_walk σ i l.head? = l[i]?
  | [], _, 0 => rfl
  | [], _, i + 1 => rfl
  | x :: l, h, 0 => rfl
  | x :: l, h, i + 1 => by
    show cf_walk σ i (σ.2.1 8 x 6) = _
    rw [h.1, lk_walk h.2 i]
    simp
/-- the fields behind append and take -/
theorem app_I (σ : sT) (r x k i j : Nat) : (cf_app σ r x).1 k i j = if k = 8 ∧ i = x ∧ j = 5 then rno r else σ.1 k i j := by
  unfold cf_app
  cases σ.2.1 6 r 2 <;> rfl
theorem app_L (σ : sT) (r x : Nat) : (cf_app σ r x).2.2 = σ.2.2 := by
  unfold cf_app
  cases σ.2.1 6 r 2 <;> rfl
theorem app_P0 {σ : sT} {r x : Nat} (h : σ.2.1 6 r 2 = none) (k i j : Nat) : (cf_app σ r x).2.1 k i j = if k = 6 ∧ i = r ∧ j = 2 then some x else if k = 6 ∧ i = r ∧ j = 1 then some x else σ.2.1 k i j := by
  unfold cf_app
  rw [h]
  rfl
theorem app_P1 {σ : sT} {r x q : Nat} (h : σ.2.1 6 r 2 = some q) (k i j : Nat) : (cf_app σ r x).2.1 k i j = if k = 6 ∧ i = r ∧ j = 2 then some x else if k = 8 ∧ i = q ∧ j = 6 then some x else σ.2.1 k i j := by
  unfold cf_app
  rw [h]
  rfl
theorem take_0 {σ : sT} {r : Nat} (h : σ.2.1 6 r 1 = none) : cf_take σ r = (none, σ) := by
  unfold cf_take
  rw [h]
theorem take_1 {σ : sT} {r x : Nat} (h : σ.2.1 6 r 1 = some x) : (cf_take σ r).1 = some x := by
  unfold cf_take
  rw [h]
theorem take_I {σ : sT} {r x : Nat} (h : σ.2.1 6 r 1 = some x) (k i j : Nat) : (cf_take σ r).2.1 k i j = if k = 8 ∧ i = x ∧ j = 5 then 0 else σ.1 k i j := by
  unfold cf_take
  rw [h]
  dsimp only
  cases σ.2.1 8 x 6 <;> rfl
theorem take_L (σ : sT) (r : Nat) : (cf_take σ r).2.2.2 = σ.2.2 := by
  unfold cf_take
  cases σ.2.1 6 r 1 with
  | none => rfl
  | some x =>
    dsimp only
    cases σ.2.1 8 x 6 <;> rfl
theorem take_P {σ : sT} {r x : Nat} (h : σ.2.1 6 r 1 = some x) (k i j : Nat) : (cf_take σ r).2.2.1 k i j = if k = 8 ∧ i = x ∧ j = 6 then none else if k = 6 ∧ i = r ∧ j = 2 ∧ σ.2.1 8 x 6 = none then none else if k = 6 ∧ i = r ∧ j = 1 then σ.2.1 8 x 6 else σ.2.1 k i j := by
  unfold cf_take
  rw [h]
  dsimp only
  cases hb : σ.2.1 8 x 6 with
  | none => simp [sI, sP]
  | some z => simp [sI, sP]
/-- the lists of the rows, in both -/
def RelR (L : Nat → List Nat) (n : Nat) (σ τ : sT) : Prop :=
  (∀ x, Mk σ x → τ.1 15 0 x = σ.1 8 x 5) ∧
  (∀ r, r < 24 → (σ.2.1 6 r 1 = (L r).head? ∧ σ.2.1 6 r 2 = (L r).getLast?) ∧ lk σ (L r) ∧ (∀ x ∈ L r, Mk σ x ∧ σ.1 8 x 5 = rno r) ∧ (L r).Pairwise (fun x y => (τ.2.2 16 0 x).toInt < (τ.2.2 16 0 y).toInt)) ∧
  (∀ x, Mk σ x → (σ.1 8 x 5 = 0 ∧ σ.2.1 8 x 6 = none) ∨ ∃ r, r < 24 ∧ x ∈ L r) ∧
  ∃ h : Nat, h ≤ n ∧ τ.2.2 10 0 6 = lN h ∧ ∀ r, r < 24 → ∀ x ∈ L r, (τ.2.2 16 0 x).toInt < h
theorem pw_nodup {f : Nat → Int} : ∀ {l : List Nat}, l.Pairwise (fun x y => f x < f y) → l.Nodup := by
  intro l h
  exact h.imp (fun {a b} hab e => by subst e; omega)
theorem RelR.nd {L : Nat → List Nat} {n : Nat} {σ τ : sT} (h : RelR L n σ τ) {r : Nat} (hr : r < 24) : (L r).Nodup := pw_nodup (f := fun x => (τ.2.2 16 0 x).toInt) (h.2.1 r hr).2.2.2
theorem RelR.in_one {L : Nat → List Nat} {n : Nat} {σ τ : sT} (h : RelR L n σ τ) {r q x : Nat} (hr : r < 24) (hq : q < 24) (h1 : x ∈ L r) (h2 : x ∈ L q) : r = q := rno_inj r hr q hq (((h.2.1 r hr).2.2.1 x h1).2.symm.trans ((h.2.1 q hq).2.2.1 x h2).2)
theorem RelR.notin {L : Nat → List Nat} {n : Nat} {σ τ : sT} (h : RelR L n σ τ) {r x : Nat} (hr : r < 24) (hx : σ.1 8 x 5 = 0) : x ∉ L r := fun q => rno_ne r hr (((h.2.1 r hr).2.2.1 x q).2.symm.trans hx)
theorem RelR.mem {L : Nat → List Nat} {n : Nat} {σ τ : sT} (h : RelR L n σ τ) {r x : Nat} (hr : r < 24) : x ∈ L r ↔ Mk σ x ∧ σ.1 8 x 5 = rno r := by
  constructor
  · exact fun q => (h.2.1 r hr).2.2.1 x q
  · rintro ⟨h1, h2⟩
    rcases h.2.2.1 x h1 with q | ⟨q, hq, hm⟩
    · exact absurd (h2.symm.trans q.1) (rno_ne r hr)
    · have e := rno_inj r hr q hq (h2.symm.trans ((h.2.1 q hq).2.2.1 x hm).2)
      rw [e]; exact hm
theorem RelR.mono {L : Nat → List Nat} {n m : Nat} {σ τ : sT} (h : RelR L n σ τ) (hm : n ≤ m) : RelR L m σ τ := by
  obtain ⟨h1, h2, h3, t, h4, h5⟩ := h
  exact ⟨h1, h2, h3, t, by omega, h5⟩
def updR (L : Nat → List Nat) (r : Nat) (l : List Nat) : Nat → List Nat := fun q => if q = r then l else L q
theorem updR_s (L : Nat → List Nat) (r : Nat) (l : List Nat) : updR L r l r = l := if_pos rfl
theorem updR_n {L : Nat → List Nat} {r q : Nat} {l : List Nat} (h : q ≠ r) : updR L r l q = L q := if_neg h
