/-! where a new process comes to lie; which cells live -/
def LvB (lv : Nat → Nat → Prop) : Prop := ∀ k i, lv k i → (k ≤ 5 ∧ i = 0) ∨ (k = 6 ∧ i < 24) ∨ (k = 7 ∧ i < 16) ∨ ((k = 8 ∨ k = 9) ∧ i < 32) ∨ (10 ≤ k ∧ k < 20 ∧ i = 0)
theorem LvB.mk {lv : Nat → Nat → Prop} (h : LvB lv) {x : Nat} (hx : x < 32) : LvB (jlv (jlv lv 8 x) 9 x) := by
  rintro k i ((q | q) | q)
  · exact h k i q
  · omega
  · omega
def adm (ad : Nat → Nat → Nat) (x z k i : Nat) : Nat := if k = 8 ∧ i = x then z else if k = 9 ∧ i = x then z + 1 else ad k i
theorem adm_n {ad : Nat → Nat → Nat} {x z k i : Nat} (h : ¬ ((k = 8 ∨ k = 9) ∧ i = x)) : adm ad x z k i = ad k i := by
  unfold adm
  rw [if_neg (by omega), if_neg (by omega)]
theorem rd_jv {σ τ : sT} {lv : Nat → Nat → Prop} {ad : Nat → Nat → Nat} {x z : Nat} (ok : OKs σ lv) (hl : LvB lv) (hn : ¬ Mk σ x) (h8 : ¬ lv 8 x) (h9 : ¬ lv 9 x) (hm : ∀ y, lv 8 y → Mk σ y) : ∀ k i, lv k i → ∀ j, j < jN k → jv ad σ τ k i j = jv (adm ad x z) σ τ k i j := by
  intro k i hk j hj
  have H : ∀ {q y}, ¬ ((q = 8 ∨ q = 9) ∧ y = x) → ad q y = adm ad x z q y := fun h => (adm_n h).symm
  have R8 : ∀ (o : Option Nat), (∀ y, o = some y → Mk σ y) → va_rf (o.map (ad 8)) = va_rf (o.map (adm ad x z 8)) := by
    intro o ho
    cases o with
    | none => rfl
    | some y =>
      have hy : y ≠ x := fun e => hn (e ▸ ho y rfl)
      show va_rf (some (ad 8 y)) = va_rf (some (adm ad x z 8 y))
      rw [H (by omega)]
  have R7 : ∀ (q : Nat) (o : Option Nat), q < 8 → va_rf (o.map (ad q)) = va_rf (o.map (adm ad x z q)) := by
    intro q o hq
    cases o with
    | none => rfl
    | some y =>
      show va_rf (some (ad q y)) = va_rf (some (adm ad x z q y))
      rw [H (by omega)]
  have RC : ∀ q y, ¬ ((q = 8 ∨ q = 9) ∧ y = x) → Value.ref (ad q y) = Value.ref (adm ad x z q y) := fun q y h => by rw [H h]
  rcases hl k i hk with ⟨h, rfl⟩ | ⟨rfl, hi⟩ | ⟨rfl, hi⟩ | ⟨h, hi⟩ | ⟨h1, h2, rfl⟩
  · match k, h, hj with
    | 0, _, hj =>
      have hj : j < 12 := hj
      match j, hj with
      | 0, _ => exact RC 1 0 (by omega)
      | 1, _ => exact RC 2 0 (by omega)
      | 2, _ => exact RC 3 0 (by omega)
      | 3, _ => exact RC 4 0 (by omega)
      | 4, _ => exact R8 _ (fun y hy => ok.ac hy)
      | 5, _ => rfl
      | 6, _ => exact R8 _ (fun y hy => ok.wa hy)
      | 7, _ => rfl
      | 8, _ => rfl
      | 9, _ => exact R7 7 _ (by omega)
      | 10, _ => exact R7 7 _ (by omega)
      | 11, _ => rfl
      | j + 12, h => omega
    | 1, _, hj =>
      have hj : j < 32 := hj
      exact R8 _ (fun y hy => by
        have e := ok.2.2.1 j y hj hy
        subst e
        exact ⟨hj, hy⟩)
    | 2, _, _ => exact RC 6 j (by omega)
    | 3, _, _ => exact RC 7 j (by omega)
    | 4, _, hj =>
      have hj : j < 4 := hj
      match j, hj with
      | 0, _ => exact RC 5 0 (by omega)
      | 1, _ => rfl
      | 2, _ => rfl
      | 3, _ => rfl
      | j + 4, h => omega
    | 5, _, _ => rfl
    | k + 6, h, _ => omega
  · have hj : j < 3 := hj
    match j, hj with
    | 0, _ => rfl
    | 1, _ => exact R8 _ (fun y hy => ok.fi hi hy)
    | 2, _ => exact R8 _ (fun y hy => ok.la hi hy)
    | j + 3, h => omega
  · have hj : j < 3 := hj
    match j, hj with
    | 0, _ => rfl
    | 1, _ => exact RC 6 (8 + i) (by omega)
    | 2, _ => rfl
    | j + 3, h => omega
  · rcases h with rfl | rfl
    · have hix : i ≠ x := fun e => h8 (e ▸ hk)
      have hj : j < 7 := hj
      match j, hj with
      | 0, _ => rfl
      | 1, _ => rfl
      | 2, _ => exact R7 6 _ (by omega)
      | 3, _ => exact RC 9 i (by omega)
      | 4, _ => rfl
      | 5, _ => rfl
      | 6, _ => exact R8 _ (fun y hy => ok.bh (hm i hk) hy)
      | j + 7, h => omega
    · rfl
  · match k, h1, h2, hj with
    | 10, _, _, hj =>
      have hj : j < 21 := hj
      match j, hj with
      | 0, _ => exact RC 11 0 (by omega)
      | 1, _ => exact RC 12 0 (by omega)
      | 2, _ => exact RC 13 0 (by omega)
      | 3, _ => exact RC 14 0 (by omega)
      | 4, _ => exact RC 15 0 (by omega)
      | 5, _ => exact RC 16 0 (by omega)
      | 6, _ => rfl
      | 7, _ => exact RC 17 0 (by omega)
      | 8, _ => rfl
      | 9, _ => rfl
      | 10, _ => rfl
      | 11, _ => exact RC 18 0 (by omega)
      | 12, _ => rfl
      | 13, _ => rfl
      | 14, _ => rfl
      | 15, _ => rfl
      | 16, _ => rfl
      | 17, _ => rfl
      | 18, _ => rfl
      | 19, _ => exact RC 19 0 (by omega)
      | 20, _ => rfl
      | j + 21, h => omega
    | 11, _, _, _ => rfl
    | 12, _, _, _ => rfl
    | 13, _, _, _ => rfl
    | 14, _, _, _ => rfl
    | 15, _, _, _ => rfl
    | 16, _, _, _ => rfl
    | 17, _, _, _ => rfl
    | 18, _, _, _ => rfl
    | 19, _, _, _ => rfl
    | k + 20, _, h, _ => omega
theorem ex_ad {lv : Nat → Nat → Prop} {c : Nat} {σ τ : sT} (h : Inv lv c σ τ) (hl : LvB lv) (ad : Nat → Nat → Nat) {x : Nat} (hn : ¬ Mk σ x) (h8 : ¬ lv 8 x) (h9 : ¬ lv 9 x) (z : Nat) : ∃ ad' : Nat → Nat → Nat, (∀ k i, lv k i → ad' k i = ad k i) ∧ (∀ k i, lv k i → ∀ j, j < jN k → jv ad σ τ k i j = jv ad' σ τ k i j) ∧ ad' 8 x = z ∧ ad' 9 x = z + 1 ∧ ad' 0 0 = ad 0 0 ∧ ad' 10 0 = ad 10 0 := by
  refine ⟨adm ad x z, fun k i hk => adm_n ?_, rd_jv h.2.1 hl hn h8 h9 (fun y hy => ?_), ?_, ?_, adm_n (by omega), adm_n (by omega)⟩
  · rintro ⟨rfl | rfl, rfl⟩
    · exact h8 hk
    · exact h9 hk
  · have hy32 : y < 32 := by rcases hl 8 y hy with q | q | q | q | q <;> omega
    exact Classical.byContradiction fun q => (h.2.2.2.2 y hy32 q).1 hy
  · unfold adm; rw [if_pos ⟨rfl, rfl⟩]
  · unfold adm; rw [if_neg (by omega), if_pos ⟨rfl, rfl⟩]
/-- what the law goes on with behind a call of both -/
abbrev KK (p : Program) (l : Launch) (e : Env) (s : State) (m : MethodId) (below : List Frame) (meth : Method) (c : Code) (D : va_G) (E : Nat → ClassId) (b cells slots a0 a10 n : Nat) (i : Int32) : Prop :=
  ∀ (ad : Nat → Nat → Nat) (lv : Nat → Nat → Prop) (σ τ : sT) (z : Nat), Inv lv (n + 1) σ τ → LvB lv → ad 0 0 = a0 → ad 10 0 = a10 → JL p l e s m below meth c D E b ad (cells + 2) (slots + 15) z lv (jv ad σ τ) 569 [some (.ref b), some (.ref a0), some (.ref a10), some (.int i)] []
