/-! WHAT THE CLASS DOES, as functions on its store -/
def cf_pres (σ : sT) : Option Nat := if σ.1 0 0 5 = 0 then σ.2.1 0 0 4 else σ.2.1 0 0 6
def cf_want (σ : sT) (o : Option Nat) : sT := sP (sI σ 0 0 5 1) 0 0 6 o
def cf_app (σ : sT) (r x : Nat) : sT :=
  let σ1 := sI σ 8 x 5 (rno r)
  let σ2 := match σ.2.1 6 r 2 with
    | none => sP σ1 6 r 1 (some x)
    | some q => sP σ1 8 q 6 (some x)
  sP σ2 6 r 2 (some x)
def cf_take (σ : sT) (r : Nat) : Option Nat × sT := match σ.2.1 6 r 1 with
  | none => (none, σ)
  | some x =>
    let σ1 := sP σ 6 r 1 (σ.2.1 8 x 6)
    let σ2 := match σ.2.1 8 x 6 with
      | none => sP σ1 6 r 2 none
      | some _ => σ1
    (some x, sI (sP σ2 8 x 6 none) 8 x 5 0)
def lev (σ : sT) (x : Nat) : Nat := (σ.2.1 8 x 2).getD 0
def cf_wake (σ : sT) (x : Nat) : sT := match cf_pres σ with
  | none => cf_want σ (some x)
  | some q => if σ.1 8 q 1 < σ.1 8 x 1 then cf_want (cf_app σ (lev σ q) q) (some x) else cf_app σ (lev σ x) x
def cf_first : Nat → sT → Option Nat × sT
  | 0, σ => (none, σ)
  | n + 1, σ => match cf_take σ n with
    | (none, σ1) => cf_first n σ1
    | (some x, σ1) => (some x, σ1)
def cf_aside (σ : sT) : sT := cf_want (cf_first 8 σ).2 (cf_first 8 σ).1
def cf_sig (σ : sT) (s : Nat) : sT := match (cf_take σ (8 + s)).1 with
  | none => sI (cf_take σ (8 + s)).2 7 s 2 ((cf_take σ (8 + s)).2.1 7 s 2 + 1)
  | some x => cf_wake (cf_take σ (8 + s)).2 x
def cf_wait (σ : sT) (s : Nat) : sT := match cf_pres σ with
  | none => σ
  | some q => if σ.1 7 s 2 ≤ 0 then cf_aside (cf_app σ (8 + s) q) else sI σ 7 s 2 (σ.1 7 s 2 - 1)
def cf_give (σ : sT) : sT := match cf_pres σ with
  | none => σ
  | some q => match σ.2.1 6 (lev σ q) 1 with
    | none => σ
    | some _ => cf_aside (cf_app σ (lev σ q) q)
def cf_alarm (σ : sT) (s : Nat) (t : Int32) : sT := sI (sP σ 0 0 10 (some s)) 0 0 11 t
def cf_many (s : Nat) : Nat → sT → sT
  | 0, σ => σ
  | n + 1, σ => cf_many s n (cf_sig σ s)
def cf_words (σ : sT) : sT :=
  let σ1 := sI σ 4 0 3 0
  match σ.2.1 0 0 9 with
  | none => σ1
  | some s => cf_many s (σ.1 4 0 3).toNatClampNeg σ1
def cf_due (σ : sT) : sT := match σ.2.1 0 0 10 with
  | none => σ
  | some s => if σ.1 0 0 11 ≤ σ.1 0 0 7 then cf_sig (sP σ 0 0 10 none) s else σ
def cf_settle (σ : sT) : sT :=
  let σ1 := cf_due (cf_words σ)
  if σ1.1 0 0 5 = 0 then σ1 else sP (sI (sP σ1 0 0 4 (σ1.2.1 0 0 6)) 0 0 5 0) 0 0 6 none
def cf_behind (σ : sT) : sT :=
  let σ1 := cf_settle σ
  match σ1.2.1 0 0 4, σ1.2.1 0 0 10 with
  | none, some _ => cf_settle (sI σ1 0 0 7 (σ1.1 0 0 11))
  | _, _ => σ1
abbrev isS (x : Int32) : Prop := 0 ≤ x ∧ x < 16
def fmod (x y : Int32) : Int32 := if 0 ≤ x ^^^ y then x - x / y * y else if x - x / y * y = 0 then x - x / y * y else (x - x / y * y) + y
def cf_place (σ : sT) (i : Int32) : Int32 := fmod (σ.1 4 0 1 + i) 64
def cf_drop (σ : sT) : sT := if σ.1 4 0 2 ≤ 0 then σ else sI (sI σ 4 0 1 (cf_place σ 1)) 4 0 2 (σ.1 4 0 2 - 1)
def cf_add (σ : sT) (w : Int32) : Int32 × sT := if ¬ σ.1 4 0 2 < 64 then (-1, σ) else
  (σ.1 4 0 2 + 1, sI (sI (sI σ 5 0 (cf_place σ (σ.1 4 0 2)).toNatClampNeg w) 4 0 2 (σ.1 4 0 2 + 1)) 4 0 3 (σ.1 4 0 3 + 1))
def cf_wordAt (σ : sT) (i : Int32) : Int32 := if 0 ≤ i ∧ i < σ.1 4 0 2 then σ.1 5 0 (cf_place σ i).toNatClampNeg else -1
def cf_num (o : Option Nat) : Int32 := match o with
  | none => -1
  | some x => nI x
def cf_pn (σ : sT) (p : Int32) : Option Nat := if 0 ≤ p ∧ p < 32 then σ.2.1 1 0 p.toNatClampNeg else none
def cf_next (σ : sT) (x : Nat) : Int32 := σ.1 9 x (fmod (σ.1 8 x 4) 8).toNatClampNeg
def cf_act (σ : sT) (a : Int32) : sT := if isS (a - 16) then cf_wait σ (a - 16).toNatClampNeg
  else if isS (a - 32) then cf_sig σ (a - 32).toNatClampNeg
  else if a = 48 then cf_give σ
  else if a = 49 then cf_drop σ
  else if a = 50 then sP σ 0 0 9 none
  else if isS (a - 64) then cf_alarm σ (a - 64).toNatClampNeg (σ.1 0 0 7 + 3)
  else if isS (a - 80) then sP σ 0 0 9 (some (a - 80).toNatClampNeg)
  else σ
def cf_code (σ : sT) (x : Nat) : sT :=
  let σ1 := cf_act (sI σ 8 x 4 (σ.1 8 x 4 + 1)) (cf_next σ x)
  let σ2 := sL σ1 0 0 8 (σ1.2.2 0 0 8 + 1)
  if σ2.2.2 0 0 8 - σ2.2.2 0 0 8 / 64 * 64 = 0 then sI σ2 0 0 7 (σ2.1 0 0 7 + 1) else σ2
def cf_loop : Nat → sT → Nat × sT
  | 0, σ => (0, σ)
  | n + 1, σ => match σ.2.1 0 0 4 with
    | none => (0, σ)
    | some x => ((cf_loop n (cf_behind (cf_code σ x))).1 + 1, (cf_loop n (cf_behind (cf_code σ x))).2)
def cf_walk (σ : sT) : Nat → Option Nat → Option Nat
  | 0, o => o
  | _ + 1, none => none
  | n + 1, some x => cf_walk σ n (σ.2.1 8 x 6)
