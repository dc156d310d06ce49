/-! THE ABSTRACT MACHINE: ints are whole numbers (read modulo 2^32 where they are compared, divided, used as an index), addresses are counted from 0; it is deterministic -/
abbrev aV : Type := Int ⊕ (Option Nat ⊕ (Int ⊕ Unit))
def aI (x : Int) : aV := Sum.inl x
def aQ (r : Option Nat) : aV := Sum.inr (Sum.inl r)
def aL (x : Int) : aV := Sum.inr (Sum.inr (Sum.inl x))
def aU : aV := Sum.inr (Sum.inr (Sum.inr ()))
/-- an object (its class, its fields), a row of ints, a row of references (its kind, length, what it holds) -/
abbrev aC : Type := (Nat × List aV) ⊕ ((Nat × (Int → Int)) ⊕ (Nat × Nat × (Int → Option Nat)))
/-- a heap: how many cells, how many slots, the cells -/
abbrev aH : Type := Nat × Nat × (Nat → aC)
def aSz (h : aH) : Nat := h.1
def aSl (h : aH) : Nat := h.2.1
def aCo (h : aH) (a : Nat) : aC := h.2.2 a
def aSet (h : aH) (a : Nat) (c : aC) : aH := (h.1, h.2.1, fun b => if b = a then c else h.2.2 b)
def aNew (h : aH) (c : aC) (n : Nat) : aH := (h.1 + 1, h.2.1 + n, fun b => if b = h.1 then c else h.2.2 b)
def aNf (ci : Nat) : Nat := [2, 8, 7, 3, 1, 6, 3, 10, 1, 10, 32].getD ci 0
/-- fields' types: 0 int, 1 boolean, 2 reference -/
def aTy (ci k : Nat) : Nat := (([[2, 0], [0, 0, 0, 0, 0, 0, 2, 0], [2, 2, 0, 2, 2, 0, 1], [0, 0, 2], [2], [0, 2, 2, 0, 2, 2], [0, 0, 2], [0, 2, 0, 0, 0, 0, 2, 2, 0, 2], [2], [2, 2, 2, 2, 2, 2, 2, 1, 0, 0], [2, 2, 2, 2, 2, 2, 2, 2, 2, 2, 2, 2, 2, 2, 2, 2, 1, 0, 0, 2, 2, 0, 2, 0, 2, 2, 2, 2, 0, 2, 2, 2]] : List (List Nat)).getD ci []).getD k 0
def isO (h : aH) (a ci : Nat) : Bool := match aCo h a with
  | .inl o => decide (3 ≤ a ∧ a < aSz h ∧ o.1 = ci ∧ o.2.length = aNf ci)
  | _ => false
def gf (h : aH) (a k : Nat) : aV := match aCo h a with
  | .inl o => o.2.getD k aU
  | _ => aU
def pf (h : aH) (a k : Nat) (v : aV) : aH := aSet h a (match aCo h a with
  | .inl o => .inl (o.1, o.2.set k v)
  | c => c)
def isA (h : aH) (a : Nat) : Bool := match aCo h a with
  | .inr (.inl _) => decide (a < aSz h)
  | _ => false
def al (h : aH) (a : Nat) : Nat := match aCo h a with
  | .inr (.inl q) => q.1
  | .inr (.inr q) => q.2.1
  | _ => 0
def ai (h : aH) (a : Nat) : Int → Int := match aCo h a with
  | .inr (.inl q) => q.2
  | _ => fun _ => 0
def sa (h : aH) (a : Nat) (f : Int → Int) : aH := aSet h a (match aCo h a with
  | .inr (.inl q) => .inr (.inl (q.1, f))
  | c => c)
def isR (h : aH) (a k : Nat) : Bool := match aCo h a with
  | .inr (.inr q) => decide (3 ≤ a ∧ a < aSz h ∧ q.1 = k)
  | _ => false
def ra (h : aH) (a : Nat) : Int → Option Nat := match aCo h a with
  | .inr (.inr q) => q.2.2
  | _ => fun _ => none
def sr (h : aH) (a : Nat) (f : Int → Option Nat) : aH := aSet h a (match aCo h a with
  | .inr (.inr q) => .inr (.inr (q.1, q.2.1, f))
  | c => c)
def upf {α : Type} (f : Int → α) (i : Int) (v : α) : Int → α := fun j => if j = i then v else f j
def cpf {α : Type} (f g : Int → α) (sp dp n : Int) : Int → α := fun j => if dp ≤ j ∧ j < dp + n then f (sp + (j - dp)) else g j
def wr (x : Int) : Int := Int.bmod x 4294967296
def wand (x y : Int) : Int := (Int32.ofInt x &&& Int32.ofInt y).toInt
def wor (x y : Int) : Int := (Int32.ofInt x ||| Int32.ofInt y).toInt
def wxor (x y : Int) : Int := (Int32.ofInt x ^^^ Int32.ofInt y).toInt
def wshl (x y : Int) : Int := (Int32.ofInt x <<< (Int32.ofInt y &&& 31)).toInt
def wshr (x y : Int) : Int := (Int32.ofInt x >>> (Int32.ofInt y &&& 31)).toInt
def wush (x y : Int) : Int := ((Int32.ofInt x).toUInt32 >>> ((Int32.ofInt y).toUInt32 &&& Int32.toUInt32 31)).toInt32.toInt
def wlt (x y : Int) : Int := lg_cmp (Int64.ofInt x) (Int64.ofInt y) |>.toInt
/-- what an object of a class holds when it is new -/
def aDf (ci : Nat) : List aV := (List.range (aNf ci)).map fun k => if aTy ci k = 2 then aQ none else aI 0
def aNl (v : aV) : Bool := match v with
  | .inr (.inr (.inl _)) => false
  | _ => true
/-- the instructions -/
abbrev aS : Type := List aV → List aV → aH → Option (Nat × List aV × List aV × aH)
def s_push (v : aV) (n : Nat) : aS := fun ls st h => some (n, ls, v :: st, h)
def s_ild (k n : Nat) : aS := fun ls st h => match ls[k]? with
  | some (.inl x) => some (n, ls, aI x :: st, h)
  | _ => none
def s_ald (k n : Nat) : aS := fun ls st h => match ls[k]? with
  | some (.inr (.inl r)) => some (n, ls, aQ r :: st, h)
  | _ => none
def s_lld (k n : Nat) : aS := fun ls st h => match ls[k]? with
  | some (.inr (.inr (.inl x))) => some (n, ls, aL x :: st, h)
  | _ => none
/-- the local ahead of k isn't a long -/
def aOk (ls : List aV) (k : Nat) : Bool := match k with
  | 0 => true
  | k + 1 => match ls[k]? with
    | some v => aNl v
    | none => true
def s_ist (k n : Nat) : aS := fun ls st h => match st with
  | .inl x :: st => if aOk ls k = true ∧ k < ls.length then some (n, ls.set k (aI x), st, h) else none
  | _ => none
def s_ast (k n : Nat) : aS := fun ls st h => match st with
  | .inr (.inl r) :: st => if aOk ls k = true ∧ k < ls.length then some (n, ls.set k (aQ r), st, h) else none
  | _ => none
def s_inc (k : Nat) (c : Int) (n : Nat) : aS := fun ls st h => match ls[k]? with
  | some (.inl x) => if aOk ls k = true then some (n, ls.set k (aI (x + c)), st, h) else none
  | _ => none
def s_bin (f : Int → Int → Int) (n : Nat) : aS := fun ls st h => match st with
  | .inl y :: .inl x :: st => some (n, ls, aI (f x y) :: st, h)
  | _ => none
def s_div (n : Nat) : aS := fun ls st h => match st with
  | .inl y :: .inl x :: st => if wr y = 0 then none else some (n, ls, aI ((wr x).tdiv (wr y)) :: st, h)
  | _ => none
def s_rem (n : Nat) : aS := fun ls st h => match st with
  | .inl y :: .inl x :: st => if wr y = 0 then none else some (n, ls, aI ((wr x).tmod (wr y)) :: st, h)
  | _ => none
def s_neg (n : Nat) : aS := fun ls st h => match st with
  | .inl x :: st => some (n, ls, aI (-x) :: st, h)
  | _ => none
def s_i2l (n : Nat) : aS := fun ls st h => match st with
  | .inl x :: st => some (n, ls, aL (wr x) :: st, h)
  | _ => none
def s_i2b (n : Nat) : aS := fun ls st h => match st with
  | .inl x :: st => some (n, ls, aI (Int.bmod x 256) :: st, h)
  | _ => none
def s_lcmp (n : Nat) : aS := fun ls st h => match st with
  | .inr (.inr (.inl y)) :: .inr (.inr (.inl x)) :: st => some (n, ls, aI (wlt x y) :: st, h)
  | _ => none
def s_dup (n : Nat) : aS := fun ls st h => match st with
  | v :: st => if aNl v = true then some (n, ls, v :: v :: st, h) else none
  | _ => none
def s_dup2 (n : Nat) : aS := fun ls st h => match st with
  | v :: w :: st => if aNl v = true ∧ aNl w = true then some (n, ls, v :: w :: v :: w :: st, h) else none
  | _ => none
def s_go (t : Nat) : aS := fun ls st h => some (t, ls, st, h)
/-- branches: where the condition holds, where not -/
def s_if (c : Int → Bool) (t n : Nat) : aS := fun ls st h => match st with
  | .inl x :: st => some (bif c (wr x) then t else n, ls, st, h)
  | _ => none
def s_ic (c : Int → Int → Bool) (t n : Nat) : aS := fun ls st h => match st with
  | .inl y :: .inl x :: st => some (bif c (wr x) (wr y) then t else n, ls, st, h)
  | _ => none
def c_eq (x y : Int) : Bool := decide (x = y)
def c_lt (x y : Int) : Bool := decide (x < y)
def s_nul (t n : Nat) : aS := fun ls st h => match st with
  | .inr (.inl r) :: st => some (bif r.isNone then t else n, ls, st, h)
  | _ => none
def swt : List (Int × Nat) → Nat → Int → Nat
  | [], d, _ => d
  | (k, t) :: ps, d, x => if x = k then t else swt ps d x
def s_sw (ps : List (Int × Nat)) (d : Nat) : aS := fun ls st h => match st with
  | .inl x :: st => some (swt ps d (wr x), ls, st, h)
  | _ => none
def s_new (ci n : Nat) : aS := fun ls st h => some (n, ls, aQ (some (aSz h)) :: st, aNew h (.inl (ci, aDf ci)) (aNf ci))
def s_nai (n : Nat) : aS := fun ls st h => match st with
  | .inl x :: st => if 0 ≤ wr x ∧ wr x ≤ 100000 then some (n, ls, aQ (some (aSz h)) :: st, aNew h (.inr (.inl ((wr x).toNat, fun _ => 0))) (wr x).toNat) else none
  | _ => none
def s_nar (k n : Nat) : aS := fun ls st h => match st with
  | .inl x :: st => if 0 ≤ wr x ∧ wr x ≤ 100000 then some (n, ls, aQ (some (aSz h)) :: st, aNew h (.inr (.inr (k, (wr x).toNat, fun _ => none))) (wr x).toNat) else none
  | _ => none
def isAR (h : aH) (a : Nat) : Bool := isA h a || (isR h a 0 || (isR h a 1 || (isR h a 2 || isR h a 3)))
def s_len (n : Nat) : aS := fun ls st h => match st with
  | .inr (.inl (some a)) :: st => if isAR h a = true then some (n, ls, aI (al h a) :: st, h) else none
  | _ => none
def inA (h : aH) (a : Nat) (i : Int) : Bool := isA h a && decide (0 ≤ wr i ∧ wr i < al h a)
def s_ia (n : Nat) : aS := fun ls st h => match st with
  | .inl i :: .inr (.inl (some a)) :: st => if inA h a i = true then some (n, ls, aI (ai h a (wr i)) :: st, h) else none
  | _ => none
def s_ias (n : Nat) : aS := fun ls st h => match st with
  | .inl v :: .inl i :: .inr (.inl (some a)) :: st => if inA h a i = true ∧ 3 ≤ a then some (n, ls, st, sa h a (upf (ai h a) (wr i) v)) else none
  | _ => none
def inR (h : aH) (a k : Nat) (i : Int) : Bool := isR h a k && decide (0 ≤ wr i ∧ wr i < al h a)
def s_ra (k n : Nat) : aS := fun ls st h => match st with
  | .inl i :: .inr (.inl (some a)) :: st => if inR h a k i = true then some (n, ls, aQ (ra h a (wr i)) :: st, h) else none
  | _ => none
/-- the class of what a row of references of kind k holds: pages, changes, lines, sheets -/
def aEl (k : Nat) : Nat := [4, 1, 3, 6].getD k 99
def okQ (h : aH) (k : Nat) (r : Option Nat) : Bool := match r with
  | none => true
  | some b => isO h b (aEl k)
def s_ras (k n : Nat) : aS := fun ls st h => match st with
  | .inr (.inl r) :: .inl i :: .inr (.inl (some a)) :: st => if inR h a k i = true ∧ okQ h k r = true then some (n, ls, st, sr h a (upf (ra h a) (wr i) r)) else none
  | _ => none
def s_gf (ci k n : Nat) : aS := fun ls st h => match st with
  | .inr (.inl (some a)) :: st => if isO h a ci = true then some (n, ls, gf h a k :: st, h) else none
  | _ => none
def okT (t : Nat) (v : aV) : Bool := match v with
  | .inl x => t == 0 || (t == 1 && (x == 0 || x == 1))
  | .inr (.inl _) => t == 2
  | _ => false
def s_pf (ci k n : Nat) : aS := fun ls st h => match st with
  | v :: .inr (.inl (some a)) :: st => if isO h a ci = true ∧ okT (aTy ci k) v = true then some (n, ls, st, pf h a k v) else none
  | _ => none
def s_gs (a n : Nat) : aS := fun ls st h => some (n, ls, aQ (some a) :: st, h)
def s_oi (n : Nat) : aS := fun ls st h => match st with
  | .inr (.inl (some _)) :: st => if st.length ≤ 4 then some (n, ls, st, h) else none
  | _ => none
def okC (h : aH) (s d : Nat) (sp dp n : Int) : Bool := isA h s && (isA h d && decide (3 ≤ s ∧ 3 ≤ d ∧ 0 ≤ wr sp ∧ 0 ≤ wr dp ∧ 0 ≤ wr n ∧ wr sp + wr n ≤ al h s ∧ wr dp + wr n ≤ al h d))
def s_cpy (n : Nat) : aS := fun ls st h => match st with
  | .inl c :: .inl dp :: .inr (.inl (some d)) :: .inl sp :: .inr (.inl (some s)) :: st =>
    if okC h s d sp dp c = true ∧ st.length ≤ 4 then some (n, ls, st, sa h d (cpf (ai h s) (ai h d) (wr sp) (wr dp) (wr c))) else none
  | _ => none
/-- an instruction: a step, a call (method, values that it takes, next pc, its receiver: 0 none, 100 any, c + 1 an object of class c), a return (0 void, 1 int, 2 boolean, 3 reference) -/
abbrev aIn : Type := aS ⊕ ((Nat × Nat × Nat × Nat) ⊕ Nat)
def rcOk (rc : Nat) (as : List aV) (h : aH) : Bool := bif rc == 0 then true else match as with
  | .inr (.inl (some a)) :: _ => bif rc == 100 then true else isO h a (rc - 1)
  | _ => false
abbrev aK : Type := Nat → Option aIn
def lkl : List (Nat × aIn) → Nat → Option aIn
  | [], _ => none
  | (a, i) :: t, pc => bif Nat.beq a pc then some i else lkl t pc
def lk (K : aK) (pc : Nat) : Option aIn := K pc
abbrev aR : Type := Option (Option aV × aH)
def retv (k : Nat) (st : List aV) : Option (Option aV) := match st with
  | [] => bif k == 0 then some none else none
  | [.inl x] => bif k == 1 || (k == 2 && (x == 0 || x == 1)) then some (some (aI x)) else none
  | [.inr (.inl r)] => bif k == 3 then some (some (aQ r)) else none
  | _ => none
section AM
variable (cal : Nat → List aV → aH → aR)
def nx (K : aK) (q : Nat × List aV × List aV × aH) : Option ((Nat × List aV × List aV × aH) ⊕ (Option aV × aH)) := match lk K q.1 with
  | none => none
  | some (.inl s) => (s q.2.1 q.2.2.1 q.2.2.2).map .inl
  | some (.inr (.inl m)) => if (m.2.1 ≤ q.2.2.1.length ∧ q.2.2.1.length - m.2.1 ≤ 4) ∧ rcOk m.2.2.2 (q.2.2.1.take m.2.1).reverse q.2.2.2 = true then (cal m.1 (q.2.2.1.take m.2.1).reverse q.2.2.2).map (fun r => .inl (m.2.2.1, q.2.1, r.1.toList ++ q.2.2.1.drop m.2.1, r.2)) else none
  | some (.inr (.inr k)) => (retv k q.2.2.1).map (fun r => .inr (r, q.2.2.2))
def rn (K : aK) : Nat → (Nat × List aV × List aV × aH) → aR
  | 0, _ => none
  | f + 1, q => match nx cal K q with
    | none => none
    | some (.inl q') => rn K f q'
    | some (.inr r) => some r
theorem rn_mono (K : aK) : ∀ (f : Nat) (q : Nat × List aV × List aV × aH) (x : Option aV × aH), rn cal K f q = some x → rn cal K (f + 1) q = some x := by
  intro f
  induction f with
  | zero => intro q x h; cases h
  | succ f ih =>
    intro q x h
    unfold rn at h ⊢
    split at h
    · cases h
    · rename_i q' e
      exact ih q' x h
    · exact h
theorem rn_le (K : aK) {f g : Nat} (hfg : f ≤ g) {q : Nat × List aV × List aV × aH} {x : Option aV × aH} (h : rn cal K f q = some x) : rn cal K g q = some x := by
  induction g with
  | zero => rw [Nat.le_zero.mp hfg] at h; exact h
  | succ g ih =>
    rcases Nat.lt_or_ge f (g + 1) with hl | hl
    · exact rn_mono cal K g q x (ih (Nat.lt_succ_iff.mp hl))
    · rw [Nat.le_antisymm hfg hl] at h; exact h
/-- what a method's body answers, from anywhere in it: none where it never ends, or where it isn't told -/
noncomputable def ex (K : aK) (pc : Nat) (ls st : List aV) (h : aH) : aR :=
  @dite _ (∃ (f : Nat) (x : Option aV × aH), rn cal K f (pc, ls, st, h) = some x) (Classical.propDecidable _) (fun H => some (Classical.choose (Classical.choose_spec H))) (fun _ => none)
theorem ex_iff {K : aK} {pc : Nat} {ls st : List aV} {h : aH} {x : Option aV × aH} : ex cal K pc ls st h = some x ↔ ∃ f, rn cal K f (pc, ls, st, h) = some x := by
  unfold ex
  by_cases H : ∃ (f : Nat) (x : Option aV × aH), rn cal K f (pc, ls, st, h) = some x
  · rw [dif_pos H]
    have h1 := Classical.choose_spec (Classical.choose_spec H)
    constructor
    · intro e
      rw [Option.some.inj e] at h1
      exact ⟨_, h1⟩
    · rintro ⟨f, hf⟩
      have a1 := rn_le cal K (Nat.le_max_left f (Classical.choose H)) hf
      have a2 := rn_le cal K (Nat.le_max_right f (Classical.choose H)) h1
      rw [a1] at a2
      exact a2.symm
  · rw [dif_neg H]
    constructor
    · intro e; cases e
    · rintro ⟨f, hf⟩
      exact absurd ⟨f, x, hf⟩ H
theorem ex_nx {K : aK} {pc pc' : Nat} {ls st ls' st' : List aV} {h h' : aH} (e : nx cal K (pc, ls, st, h) = some (.inl (pc', ls', st', h'))) : ex cal K pc ls st h = ex cal K pc' ls' st' h' := by
  apply Option.ext
  intro x
  rw [ex_iff, ex_iff]
  constructor
  · rintro ⟨f, hf⟩
    cases f with
    | zero => cases hf
    | succ f =>
      unfold rn at hf
      rw [e] at hf
      exact ⟨f, hf⟩
  · rintro ⟨f, hf⟩
    refine ⟨f + 1, ?_⟩
    unfold rn
    rw [e]
    exact hf
theorem ex_nr {K : aK} {pc : Nat} {ls st : List aV} {h : aH} {r : Option aV × aH} (e : nx cal K (pc, ls, st, h) = some (.inr r)) : ex cal K pc ls st h = some r := by
  rw [ex_iff]
  refine ⟨1, ?_⟩
  unfold rn
  rw [e]
theorem ex_nn {K : aK} {pc : Nat} {ls st : List aV} {h : aH} (e : nx cal K (pc, ls, st, h) = none) : ex cal K pc ls st h = none := by
  cases hx : ex cal K pc ls st h with
  | none => rfl
  | some x =>
    obtain ⟨f, hf⟩ := (ex_iff cal).mp hx
    cases f with
    | zero => cases hf
    | succ f =>
      unfold rn at hf
      rw [e] at hf
      cases hf
/-- behind a call -/
noncomputable def kk (K : aK) (n : Nat) (ls st : List aV) (o : aR) : aR := match o with
  | none => none
  | some r => ex cal K n ls (r.1.toList ++ st) r.2
theorem kk_v (K : aK) (n : Nat) (ls st : List aV) (v : aV) (h : aH) : kk cal K n ls st (some (some v, h)) = ex cal K n ls (v :: st) h := rfl
theorem kk_0 (K : aK) (n : Nat) (ls st : List aV) (h : aH) : kk cal K n ls st (some (none, h)) = ex cal K n ls st h := rfl
theorem ex_st {K : aK} {pc n : Nat} {s : aS} {ls st ls' st' : List aV} {h h' : aH} (hk : lk K pc = some (.inl s)) (hs : s ls st h = some (n, ls', st', h')) : ex cal K pc ls st h = ex cal K n ls' st' h' :=
  ex_nx cal (by simp only [nx, hk, hs, Option.map_some])
theorem ex_sn {K : aK} {pc : Nat} {s : aS} {ls st : List aV} {h : aH} (hk : lk K pc = some (.inl s)) (hs : s ls st h = none) : ex cal K pc ls st h = none :=
  ex_nn cal (by simp only [nx, hk, hs, Option.map_none])
/-- the guards -/
def gO (h : aH) (a ci : Nat) (x : aR) : aR := bif isO h a ci then x else none
def gA (h : aH) (a : Nat) (i : Int) (x : aR) : aR := bif inA h a i then x else none
def gR (h : aH) (a k : Nat) (i : Int) (x : aR) : aR := bif inR h a k i then x else none
def gB (c : Bool) (x : aR) : aR := bif c then x else none
section AME
variable {K : aK} {pc n t : Nat} {ls st : List aV} {h : aH}
theorem e_push {v : aV} (hk : lk K pc = some (.inl (s_push v n))) : ex cal K pc ls st h = ex cal K n ls (v :: st) h := ex_st cal hk rfl
theorem e_bin {f : Int → Int → Int} {x y : Int} (hk : lk K pc = some (.inl (s_bin f n))) : ex cal K pc ls (aI y :: aI x :: st) h = ex cal K n ls (aI (f x y) :: st) h := ex_st cal hk rfl
theorem e_div {x y : Int} (hk : lk K pc = some (.inl (s_div n))) (hy : wr y ≠ 0) : ex cal K pc ls (aI y :: aI x :: st) h = ex cal K n ls (aI ((wr x).tdiv (wr y)) :: st) h := ex_st cal hk (by simp only [s_div, aI]; rw [if_neg hy])
theorem e_rem {x y : Int} (hk : lk K pc = some (.inl (s_rem n))) (hy : wr y ≠ 0) : ex cal K pc ls (aI y :: aI x :: st) h = ex cal K n ls (aI ((wr x).tmod (wr y)) :: st) h := ex_st cal hk (by simp only [s_rem, aI]; rw [if_neg hy])
theorem e_if {c : Int → Bool} {x : Int} (hk : lk K pc = some (.inl (s_if c t n))) : ex cal K pc ls (aI x :: st) h = if c (wr x) = true then ex cal K t ls st h else ex cal K n ls st h := by
  rw [ex_st cal hk (s := s_if c t n) (rfl : s_if c t n ls (aI x :: st) h = _)]
  cases c (wr x) <;> simp
theorem e_ic {c : Int → Int → Bool} {x y : Int} (hk : lk K pc = some (.inl (s_ic c t n))) : ex cal K pc ls (aI y :: aI x :: st) h = if c (wr x) (wr y) = true then ex cal K t ls st h else ex cal K n ls st h := by
  rw [ex_st cal hk (s := s_ic c t n) (rfl : s_ic c t n ls (aI y :: aI x :: st) h = _)]
  cases c (wr x) (wr y) <;> simp
theorem e_ifeq {x : Int} (hk : lk K pc = some (.inl (s_if (fun x => c_eq x 0) t n))) : ex cal K pc ls (aI x :: st) h = if wr x = 0 then ex cal K t ls st h else ex cal K n ls st h := by rw [e_if cal hk]; simp [c_eq]
theorem e_ifne {x : Int} (hk : lk K pc = some (.inl (s_if (fun x => !c_eq x 0) t n))) : ex cal K pc ls (aI x :: st) h = if wr x = 0 then ex cal K n ls st h else ex cal K t ls st h := by rw [e_if cal hk]; by_cases q : wr x = 0 <;> simp [c_eq, q]
theorem e_iflt {x : Int} (hk : lk K pc = some (.inl (s_if (fun x => c_lt x 0) t n))) : ex cal K pc ls (aI x :: st) h = if wr x < 0 then ex cal K t ls st h else ex cal K n ls st h := by rw [e_if cal hk]; simp [c_lt]
theorem e_ifge {x : Int} (hk : lk K pc = some (.inl (s_if (fun x => !c_lt x 0) t n))) : ex cal K pc ls (aI x :: st) h = if wr x < 0 then ex cal K n ls st h else ex cal K t ls st h := by rw [e_if cal hk]; by_cases q : wr x < 0 <;> simp [c_lt, q]
theorem e_ifgt {x : Int} (hk : lk K pc = some (.inl (s_if (fun x => c_lt 0 x) t n))) : ex cal K pc ls (aI x :: st) h = if 0 < wr x then ex cal K t ls st h else ex cal K n ls st h := by rw [e_if cal hk]; simp [c_lt]
theorem e_ifle {x : Int} (hk : lk K pc = some (.inl (s_if (fun x => !c_lt 0 x) t n))) : ex cal K pc ls (aI x :: st) h = if 0 < wr x then ex cal K n ls st h else ex cal K t ls st h := by rw [e_if cal hk]; by_cases q : 0 < wr x <;> simp [c_lt, q]
theorem e_iceq {x y : Int} (hk : lk K pc = some (.inl (s_ic (fun x y => c_eq x y) t n))) : ex cal K pc ls (aI y :: aI x :: st) h = if wr x = wr y then ex cal K t ls st h else ex cal K n ls st h := by rw [e_ic cal hk]; simp [c_eq]
theorem e_icne {x y : Int} (hk : lk K pc = some (.inl (s_ic (fun x y => !c_eq x y) t n))) : ex cal K pc ls (aI y :: aI x :: st) h = if wr x = wr y then ex cal K n ls st h else ex cal K t ls st h := by rw [e_ic cal hk]; by_cases q : wr x = wr y <;> simp [c_eq, q]
theorem e_iclt {x y : Int} (hk : lk K pc = some (.inl (s_ic (fun x y => c_lt x y) t n))) : ex cal K pc ls (aI y :: aI x :: st) h = if wr x < wr y then ex cal K t ls st h else ex cal K n ls st h := by rw [e_ic cal hk]; simp [c_lt]
theorem e_icge {x y : Int} (hk : lk K pc = some (.inl (s_ic (fun x y => !c_lt x y) t n))) : ex cal K pc ls (aI y :: aI x :: st) h = if wr x < wr y then ex cal K n ls st h else ex cal K t ls st h := by rw [e_ic cal hk]; by_cases q : wr x < wr y <;> simp [c_lt, q]
theorem e_icgt {x y : Int} (hk : lk K pc = some (.inl (s_ic (fun x y => c_lt y x) t n))) : ex cal K pc ls (aI y :: aI x :: st) h = if wr y < wr x then ex cal K t ls st h else ex cal K n ls st h := by rw [e_ic cal hk]; simp [c_lt]
theorem e_icle {x y : Int} (hk : lk K pc = some (.inl (s_ic (fun x y => !c_lt y x) t n))) : ex cal K pc ls (aI y :: aI x :: st) h = if wr y < wr x then ex cal K n ls st h else ex cal K t ls st h := by rw [e_ic cal hk]; by_cases q : wr y < wr x <;> simp [c_lt, q]
/-- a null test: null goes to t, else to n -/
theorem e_nul {r : Option Nat} (hk : lk K pc = some (.inl (s_nul t n))) : ex cal K pc ls (aQ r :: st) h = if r = none then ex cal K t ls st h else ex cal K n ls st h := by
  rw [ex_st cal hk (s := s_nul t n) (rfl : s_nul t n ls (aQ r :: st) h = _)]
  cases r <;> simp
theorem e_sw {ps : List (Int × Nat)} {x : Int} (hk : lk K pc = some (.inl (s_sw ps n))) : ex cal K pc ls (aI x :: st) h = ex cal K (swt ps n (wr x)) ls st h := ex_st cal hk rfl
theorem e_new {ci : Nat} (hk : lk K pc = some (.inl (s_new ci n))) : ex cal K pc ls st h = ex cal K n ls (aQ (some (aSz h)) :: st) (aNew h (.inl (ci, aDf ci)) (aNf ci)) := ex_st cal hk rfl
theorem e_nai {x : Int} (hk : lk K pc = some (.inl (s_nai n))) (h1 : 0 ≤ x) (h2 : x ≤ 100000) : ex cal K pc ls (aI x :: st) h = ex cal K n ls (aQ (some (aSz h)) :: st) (aNew h (.inr (.inl (x.toNat, fun _ => 0))) x.toNat) := by
  have hw : wr x = x := by unfold wr; exact Int.bmod_eq_of_le (by omega) (by omega)
  exact ex_st cal hk (by simp only [s_nai, aI, hw]; rw [if_pos ⟨h1, h2⟩])
theorem e_nar {k : Nat} {x : Int} (hk : lk K pc = some (.inl (s_nar k n))) (h1 : 0 ≤ x) (h2 : x ≤ 100000) : ex cal K pc ls (aI x :: st) h = ex cal K n ls (aQ (some (aSz h)) :: st) (aNew h (.inr (.inr (k, x.toNat, fun _ => none))) x.toNat) := by
  have hw : wr x = x := by unfold wr; exact Int.bmod_eq_of_le (by omega) (by omega)
  exact ex_st cal hk (by simp only [s_nar, aI, hw]; rw [if_pos ⟨h1, h2⟩])
theorem e_len {a : Nat} (hk : lk K pc = some (.inl (s_len n))) : ex cal K pc ls (aQ (some a) :: st) h = gB (isAR h a) (ex cal K n ls (aI (al h a) :: st) h) := by
  unfold gB
  cases q : isAR h a with
  | true => exact ex_st cal hk (by simp only [s_len, aQ, q]; rfl)
  | false => exact ex_sn cal hk (by simp [s_len, aQ, q])
theorem e_ia {a : Nat} {i : Int} (hk : lk K pc = some (.inl (s_ia n))) : ex cal K pc ls (aI i :: aQ (some a) :: st) h = gA h a i (ex cal K n ls (aI (ai h a (wr i)) :: st) h) := by
  unfold gA
  cases q : inA h a i with
  | true => exact ex_st cal hk (by simp only [s_ia, aI, aQ, q]; rfl)
  | false => exact ex_sn cal hk (by simp [s_ia, aI, aQ, q])
theorem e_ias {a : Nat} {i v : Int} (hk : lk K pc = some (.inl (s_ias n))) (ha : 3 ≤ a) : ex cal K pc ls (aI v :: aI i :: aQ (some a) :: st) h = gA h a i (ex cal K n ls st (sa h a (upf (ai h a) (wr i) v))) := by
  unfold gA
  cases q : inA h a i with
  | true => exact ex_st cal hk (by simp only [s_ias, aI, aQ, q]; simp [ha])
  | false => exact ex_sn cal hk (by simp [s_ias, aI, aQ, q])
theorem e_ra {a k : Nat} {i : Int} (hk : lk K pc = some (.inl (s_ra k n))) : ex cal K pc ls (aI i :: aQ (some a) :: st) h = gR h a k i (ex cal K n ls (aQ (ra h a (wr i)) :: st) h) := by
  unfold gR
  cases q : inR h a k i with
  | true => exact ex_st cal hk (by simp only [s_ra, aI, aQ, q]; rfl)
  | false => exact ex_sn cal hk (by simp [s_ra, aI, aQ, q])
theorem e_ras {a k : Nat} {i : Int} {r : Option Nat} (hk : lk K pc = some (.inl (s_ras k n))) : ex cal K pc ls (aQ r :: aI i :: aQ (some a) :: st) h = gR h a k i (gB (okQ h k r) (ex cal K n ls st (sr h a (upf (ra h a) (wr i) r)))) := by
  unfold gR gB
  cases q : inR h a k i with
  | true =>
    cases q2 : okQ h k r with
    | true => exact ex_st cal hk (by simp only [s_ras, aI, aQ, q, q2]; rfl)
    | false => exact ex_sn cal hk (by simp [s_ras, aI, aQ, q2])
  | false => exact ex_sn cal hk (by simp [s_ras, aI, aQ, q])
theorem e_gf {a ci k : Nat} (hk : lk K pc = some (.inl (s_gf ci k n))) : ex cal K pc ls (aQ (some a) :: st) h = gO h a ci (ex cal K n ls (gf h a k :: st) h) := by
  unfold gO
  cases q : isO h a ci with
  | true => exact ex_st cal hk (by simp only [s_gf, aQ, q]; rfl)
  | false => exact ex_sn cal hk (by simp [s_gf, aQ, q])
theorem e_pf {a ci k : Nat} {v : aV} (hk : lk K pc = some (.inl (s_pf ci k n))) : ex cal K pc ls (v :: aQ (some a) :: st) h = gO h a ci (gB (okT (aTy ci k) v) (ex cal K n ls st (pf h a k v))) := by
  unfold gO gB
  cases q : isO h a ci with
  | true =>
    cases q2 : okT (aTy ci k) v with
    | true => exact ex_st cal hk (by simp only [s_pf, aQ, q, q2]; rfl)
    | false => exact ex_sn cal hk (by simp [s_pf, aQ, q2])
  | false => exact ex_sn cal hk (by simp [s_pf, aQ, q])
theorem e_oi {a : Nat} (hk : lk K pc = some (.inl (s_oi n))) (hl : st.length ≤ 4) : ex cal K pc ls (aQ (some a) :: st) h = ex cal K n ls st h := ex_st cal hk (by simp only [s_oi, aQ]; rw [if_pos hl])
theorem e_cpy {s d : Nat} {sp dp c : Int} (hk : lk K pc = some (.inl (s_cpy n))) (hl : st.length ≤ 4) : ex cal K pc ls (aI c :: aI dp :: aQ (some d) :: aI sp :: aQ (some s) :: st) h = gB (okC h s d sp dp c) (ex cal K n ls st (sa h d (cpf (ai h s) (ai h d) (wr sp) (wr dp) (wr c)))) := by
  unfold gB
  cases q : okC h s d sp dp c with
  | true => exact ex_st cal hk (by simp only [s_cpy, aI, aQ, q]; simp [hl])
  | false => exact ex_sn cal hk (by simp [s_cpy, aI, aQ, q])
theorem e_call0 {M na rc : Nat} {as : List aV} (hk : lk K pc = some (.inr (.inl (M, na, n, rc)))) (ha : as.length = na) (hl : st.length ≤ 4) (hr : rcOk rc as.reverse h = true) : ex cal K pc ls (as ++ st) h = kk cal K n ls st (cal M as.reverse h) := by
  subst ha
  have e : nx cal K (pc, ls, as ++ st, h) = (cal M as.reverse h).map (fun r => .inl (n, ls, r.1.toList ++ st, r.2)) := by
    simp only [nx, hk]
    rw [if_pos ⟨⟨by simp, by simp; exact hl⟩, by simpa using hr⟩]
    simp
  cases q : cal M as.reverse h with
  | none => exact ex_nn cal (by rw [e, q]; rfl)
  | some r => exact ex_nx cal (by rw [e, q]; rfl)
theorem e_call {M na : Nat} {as : List aV} (hk : lk K pc = some (.inr (.inl (M, na, n, 0)))) (ha : as.length = na) (hl : st.length ≤ 4) : ex cal K pc ls (as ++ st) h = kk cal K n ls st (cal M as.reverse h) := e_call0 cal hk ha hl rfl
theorem e_callI {M na a : Nat} {as : List aV} (hk : lk K pc = some (.inr (.inl (M, na, n, 100)))) (ha : (as ++ [aQ (some a)]).length = na) (hl : st.length ≤ 4) : ex cal K pc ls ((as ++ [aQ (some a)]) ++ st) h = kk cal K n ls st (cal M (aQ (some a) :: as.reverse) h) := by
  have e : (as ++ [aQ (some a)]).reverse = aQ (some a) :: as.reverse := by simp
  rw [e_call0 cal hk ha hl (by rw [e]; rfl), e]
theorem e_callV {M na a ci : Nat} {as : List aV} (hk : lk K pc = some (.inr (.inl (M, na, n, ci + 1)))) (hc : ci < 99) (ha : (as ++ [aQ (some a)]).length = na) (hl : st.length ≤ 4) : ex cal K pc ls ((as ++ [aQ (some a)]) ++ st) h = gO h a ci (kk cal K n ls st (cal M (aQ (some a) :: as.reverse) h)) := by
  have e : (as ++ [aQ (some a)]).reverse = aQ (some a) :: as.reverse := by simp
  have hr : rcOk (ci + 1) (aQ (some a) :: as.reverse) h = isO h a ci := by
    simp only [rcOk, aQ]
    have h1 : (ci + 1 == 0) = false := rfl
    have h2 : (ci + 1 == 100) = false := by simp; omega
    rw [h1, h2]
    rfl
  unfold gO
  cases q : isO h a ci with
  | true => rw [e_call0 cal hk ha hl (by rw [e, hr]; exact q), e]; rfl
  | false =>
    refine ex_nn cal ?_
    subst ha
    simp only [nx, hk]
    rw [if_neg]
    rintro ⟨-, h3⟩
    have e2 : (List.take (as ++ [aQ (some a)]).length (as ++ [aQ (some a)] ++ st)).reverse = aQ (some a) :: as.reverse := by rw [List.take_left, e]
    rw [e2, hr, q] at h3
    cases h3
theorem e_ret {k : Nat} {r : Option aV} (hk : lk K pc = some (.inr (.inr k))) (hr : retv k st = some r) : ex cal K pc ls st h = some (r, h) := ex_nr cal (by simp only [nx, hk, hr, Option.map_some])
theorem e_ret0 (hk : lk K pc = some (.inr (.inr 0))) : ex cal K pc ls [] h = some (none, h) := e_ret cal hk rfl
theorem e_ret1 {x : Int} (hk : lk K pc = some (.inr (.inr 1))) : ex cal K pc ls [aI x] h = some (some (aI x), h) := e_ret cal hk rfl
theorem e_ret2 {x : Int} (hk : lk K pc = some (.inr (.inr 2))) : ex cal K pc ls [aI x] h = gB (x == 0 || x == 1) (some (some (aI x), h)) := by
  unfold gB
  by_cases q : (x == 0 || x == 1) = true
  · rw [q]; exact e_ret cal hk (by simp only [retv, aI, q]; rfl)
  · have q' : (x == 0 || x == 1) = false := by simpa using q
    rw [q']
    exact ex_nn cal (by simp only [nx, hk, retv, aI, q']; rfl)
theorem e_ret3 {r : Option Nat} (hk : lk K pc = some (.inr (.inr 3))) : ex cal K pc ls [aQ r] h = some (some (aQ r), h) := e_ret cal hk rfl
end AME
end AM
