/-! which lines a change keeps: the mathematics -/
def mrw (al : Nat → Bool) (prev : Nat → Int) : Nat → Int
  | 0 => 0
  | b + 1 => if al b = true then 1 + prev b else (if prev (b + 1) < mrw al prev b then mrw al prev b else prev (b + 1))
def mtb (al : Nat → Nat → Bool) : Nat → Nat → Int
  | 0 => fun _ => 0
  | a + 1 => mrw (al a) (mtb al a)
section KM
variable {al : Nat → Nat → Bool} {a b : Nat}
theorem mtb_a0 : mtb al a 0 = 0 := by cases a <;> rfl
theorem mtb_s : mtb al (a + 1) (b + 1) = if al a b = true then 1 + mtb al a b else (if mtb al a (b + 1) < mtb al (a + 1) b then mtb al (a + 1) b else mtb al a (b + 1)) := rfl
theorem mtb_lip : ∀ a : Nat, (∀ b : Nat, mtb al a b ≤ mtb al a (b + 1) ∧ mtb al a (b + 1) ≤ mtb al a b + 1) ∧ ∀ b : Nat, mtb al a b ≤ mtb al (a + 1) b ∧ mtb al (a + 1) b ≤ mtb al a b + 1 := by
  have key : ∀ a : Nat, (∀ b : Nat, mtb al a b ≤ mtb al a (b + 1) ∧ mtb al a (b + 1) ≤ mtb al a b + 1) → ∀ b : Nat, (mtb al a b ≤ mtb al (a + 1) b ∧ mtb al (a + 1) b ≤ mtb al a b + 1) ∧ (mtb al (a + 1) b ≤ mtb al (a + 1) (b + 1) ∧ mtb al (a + 1) (b + 1) ≤ mtb al (a + 1) b + 1) := by
    intro a hR b
    have st : ∀ b, (mtb al a b ≤ mtb al (a + 1) b ∧ mtb al (a + 1) b ≤ mtb al a b + 1) → (mtb al (a + 1) b ≤ mtb al (a + 1) (b + 1) ∧ mtb al (a + 1) (b + 1) ≤ mtb al (a + 1) b + 1) ∧ (mtb al a (b + 1) ≤ mtb al (a + 1) (b + 1) ∧ mtb al (a + 1) (b + 1) ≤ mtb al a (b + 1) + 1) := by
      intro b h
      have hr := hR b
      have e := mtb_s (al := al) (a := a) (b := b)
      by_cases c : al a b = true
      · rw [if_pos c] at e
        omega
      · rw [if_neg c] at e
        by_cases c2 : mtb al a (b + 1) < mtb al (a + 1) b
        · rw [if_pos c2] at e; omega
        · rw [if_neg c2] at e; omega
    induction b with
    | zero =>
      have h0 : mtb al a 0 ≤ mtb al (a + 1) 0 ∧ mtb al (a + 1) 0 ≤ mtb al a 0 + 1 := by rw [mtb_a0, mtb_a0]; omega
      exact ⟨h0, (st 0 h0).1⟩
    | succ b ih => exact ⟨(st b ih.1).2, (st (b + 1) (st b ih.1).2).1⟩
  intro a
  induction a with
  | zero =>
    have h0 : ∀ b : Nat, mtb al 0 b ≤ mtb al 0 (b + 1) ∧ mtb al 0 (b + 1) ≤ mtb al 0 b + 1 := fun b => by
      show (0 : Int) ≤ 0 ∧ (0 : Int) ≤ 0 + 1
      omega
    exact ⟨h0, fun b => (key 0 h0 b).1⟩
  | succ a ih =>
    have h1 : ∀ b : Nat, mtb al (a + 1) b ≤ mtb al (a + 1) (b + 1) ∧ mtb al (a + 1) (b + 1) ≤ mtb al (a + 1) b + 1 := fun b => (key a ih.1 b).2
    exact ⟨h1, fun b => (key (a + 1) h1 b).1⟩
theorem mtb_b : ∀ a b : Nat, 0 ≤ mtb al a b ∧ mtb al a b ≤ a := by
  intro a
  induction a with
  | zero => intro b; show (0 : Int) ≤ 0 ∧ (0 : Int) ≤ 0; omega
  | succ a ih =>
    intro b
    have h := (mtb_lip (al := al) a).2 b
    have h2 := ih b
    omega
end KM
/-- the most pairs of old lines from i on with new ones from j on -/
def kM (al : Int → Int → Bool) (n m i j : Int) : Int := mtb (fun a b => al (n - 1 - a) (m - 1 - b)) (n - i).toNat (m - j).toNat
/-- the first place from i on, among k, where p holds, or -1 -/
def fsT (p : Int → Bool) : Nat → Int → Int
  | 0, _ => -1
  | k + 1, i => if p i = true then i else fsT p k (i + 1)
/-- the old line of new line j, if old ones are free from fr on -/
def pol (al : Int → Int → Bool) (n m fr j : Int) : Int := fsT (fun i => al i j && decide (1 + kM al n m (i + 1) (j + 1) = kM al n m fr j)) (n - fr).toNat fr
def pfr (al : Int → Int → Bool) (n m : Int) : Nat → Int
  | 0 => 0
  | j + 1 => if pol al n m (pfr al n m j) j = -1 then pfr al n m j else pol al n m (pfr al n m j) j + 1
def pF (al : Int → Int → Bool) (n m : Int) : Int → Int := fun j => pol al n m (pfr al n m j.toNat) j
/-- whether old line i is taken by one of k new ones -/
def tkn (F : Int → Int) (i : Int) : Nat → Bool
  | 0 => false
  | k + 1 => tkn F i k || decide (F k = i)
/-- the old lines, after k new ones have looked for moved ones -/
def mvF (X Y : Int → Int) (F : Int → Int) (n m : Int) : Nat → Int → Int
  | 0 => F
  | j + 1 => if mvF X Y F n m j j = -1 then upf (mvF X Y F n m j) j (fsT (fun i => decide (X i = Y j) && !tkn (mvF X Y F n m j) i m.toNat) n.toNat 0) else mvF X Y F n m j
section KM2
variable {al : Int → Int → Bool} {n m i j fr : Int} {p : Int → Bool} {F X Y : Int → Int}
theorem kM_n : kM al n m n j = 0 := by unfold kM; rw [Int.sub_self]; rfl
theorem kM_m : kM al n m i m = 0 := by unfold kM; rw [Int.sub_self]; exact mtb_a0
theorem kM_s (h1 : i < n) (h2 : j < m) : kM al n m i j = if al i j = true then 1 + kM al n m (i + 1) (j + 1) else (if kM al n m (i + 1) j < kM al n m i (j + 1) then kM al n m i (j + 1) else kM al n m (i + 1) j) := by
  unfold kM
  have e1 : (n - i).toNat = (n - (i + 1)).toNat + 1 := by omega
  have e2 : (m - j).toNat = (m - (j + 1)).toNat + 1 := by omega
  rw [e1, e2, mtb_s]
  have e3 : n - 1 - (((n - (i + 1)).toNat : Nat) : Int) = i := by omega
  have e4 : m - 1 - (((m - (j + 1)).toNat : Nat) : Int) = j := by omega
  rw [e3, e4]
theorem kM_b : 0 ≤ kM al n m i j ∧ kM al n m i j ≤ (n - i).toNat := mtb_b _ _
theorem kM_lipj (h2 : j < m) : kM al n m i (j + 1) ≤ kM al n m i j ∧ kM al n m i j ≤ kM al n m i (j + 1) + 1 := by
  unfold kM
  have e2 : (m - j).toNat = (m - (j + 1)).toNat + 1 := by omega
  rw [e2]
  exact (mtb_lip _).1 _
theorem kM_lipi (h1 : i < n) : kM al n m (i + 1) j ≤ kM al n m i j ∧ kM al n m i j ≤ kM al n m (i + 1) j + 1 := by
  unfold kM
  have e1 : (n - i).toNat = (n - (i + 1)).toNat + 1 := by omega
  rw [e1]
  exact (mtb_lip _).2 _
/-- what the reference works out -/
theorem kM_R {b1 b2 b3 : Int} (h1 : i ≤ n) (h2 : j ≤ m) (e1 : b1 = if i < n ∧ 0 < kM al n m (i + 1) j then kM al n m (i + 1) j else 0)
    (e2 : b2 = if j < m ∧ b1 < kM al n m i (j + 1) then kM al n m i (j + 1) else b1)
    (e3 : b3 = if (i < n ∧ j < m) ∧ al i j = true ∧ b2 < kM al n m (i + 1) (j + 1) + 1 then kM al n m (i + 1) (j + 1) + 1 else b2) : b3 = kM al n m i j := by
  by_cases c1 : i < n
  · by_cases c2 : j < m
    · have a := kM_s (al := al) c1 c2
      have l1 := kM_lipj (al := al) (n := n) (i := i) c2
      have l2 := kM_lipi (al := al) (m := m) (j := j) c1
      have l3 := kM_lipj (al := al) (n := n) (i := i + 1) c2
      have l4 := kM_lipi (al := al) (m := m) (j := j + 1) c1
      have p1 := kM_b (al := al) (n := n) (m := m) (i := i + 1) (j := j)
      have p2 := kM_b (al := al) (n := n) (m := m) (i := i) (j := j + 1)
      have eb1 : b1 = kM al n m (i + 1) j := by
        rw [e1]
        by_cases q : 0 < kM al n m (i + 1) j
        · rw [if_pos ⟨c1, q⟩]
        · rw [if_neg (fun x => q x.2)]; omega
      have eb2 : b2 = if kM al n m (i + 1) j < kM al n m i (j + 1) then kM al n m i (j + 1) else kM al n m (i + 1) j := by
        rw [e2, eb1]
        by_cases q : kM al n m (i + 1) j < kM al n m i (j + 1)
        · rw [if_pos ⟨c2, q⟩, if_pos q]
        · rw [if_neg (fun x => q x.2), if_neg q]
      by_cases c : al i j = true
      · rw [if_pos c] at a
        rw [a, e3]
        by_cases q : b2 < kM al n m (i + 1) (j + 1) + 1
        · rw [if_pos ⟨⟨c1, c2⟩, c, q⟩]; omega
        · rw [if_neg (fun x => q x.2.2)]
          have : b2 ≤ kM al n m (i + 1) (j + 1) + 1 := by
            rw [eb2]
            split <;> omega
          omega
      · rw [if_neg c] at a
        rw [a, e3, if_neg (fun x => c x.2.1), eb2]
    · have e : j = m := by omega
      subst e
      rw [kM_m] at *
      rw [e3, if_neg (fun x => c2 x.1.2), e2, if_neg (fun x => c2 x.1), e1]
      rw [if_neg (by omega)]
  · have e : i = n := by omega
    subst e
    rw [kM_n] at *
    have : b1 = 0 := by rw [e1, if_neg (fun x => c1 x.1)]
    rw [e3, if_neg (fun x => c1 x.1.1), e2, this, if_neg (by omega)]
theorem fsT_b : ∀ (k : Nat) (i : Int), fsT p k i = -1 ∨ (i ≤ fsT p k i ∧ fsT p k i < i + k ∧ p (fsT p k i) = true) := by
  intro k
  induction k with
  | zero => intro i; exact Or.inl rfl
  | succ k ih =>
    intro i
    have e : fsT p (k + 1) i = if p i = true then i else fsT p k (i + 1) := rfl
    rw [e]
    by_cases c : p i = true
    · rw [if_pos c]; exact Or.inr ⟨by omega, by omega, c⟩
    · rw [if_neg c]
      rcases ih (i + 1) with h | ⟨h1, h2, h3⟩
      · exact Or.inl h
      · exact Or.inr ⟨by omega, by omega, h3⟩
theorem pol_b (h : fr ≤ n) : pol al n m fr j = -1 ∨ (fr ≤ pol al n m fr j ∧ pol al n m fr j < n) := by
  unfold pol
  rcases fsT_b (p := fun i => al i j && decide (1 + kM al n m (i + 1) (j + 1) = kM al n m fr j)) (n - fr).toNat fr with h | ⟨h1, h2, h3⟩
  · exact Or.inl h
  · exact Or.inr ⟨h1, by omega⟩
theorem pfr_b (hn : 0 ≤ n) : ∀ j : Nat, 0 ≤ pfr al n m j ∧ pfr al n m j ≤ n := by
  intro j
  induction j with
  | zero => show (0 : Int) ≤ 0 ∧ (0 : Int) ≤ n; omega
  | succ j ih =>
    have e : pfr al n m (j + 1) = if pol al n m (pfr al n m j) j = -1 then pfr al n m j else pol al n m (pfr al n m j) j + 1 := rfl
    rw [e]
    have h := pol_b (al := al) (m := m) (j := j) ih.2
    split <;> omega
theorem pF_b (hn : 0 ≤ n) : -1 ≤ pF al n m j ∧ pF al n m j < n ∨ pF al n m j = -1 := by
  have h := pfr_b (al := al) (m := m) hn j.toNat
  unfold pF
  have h2 := pol_b (al := al) (m := m) (j := j) h.2
  omega
theorem tkn_iff : ∀ k : Nat, tkn F i k = true ↔ ∃ j, 0 ≤ j ∧ j < (k : Int) ∧ F j = i := by
  intro k
  induction k with
  | zero =>
    constructor
    · intro h; cases h
    · rintro ⟨j, h1, h2, -⟩; omega
  | succ k ih =>
    have e : tkn F i (k + 1) = (tkn F i k || decide (F k = i)) := rfl
    rw [e, Bool.or_eq_true, ih, decide_eq_true_eq]
    constructor
    · rintro (⟨j, h1, h2, h3⟩ | h)
      · exact ⟨j, h1, by omega, h3⟩
      · exact ⟨k, by omega, by omega, h⟩
    · rintro ⟨j, h1, h2, h3⟩
      by_cases c : j = k
      · subst c; exact Or.inr h3
      · exact Or.inl ⟨j, h1, by omega, h3⟩
theorem mvF_b (hn : 0 ≤ n) (hF : ∀ j, 0 ≤ j → j < m → -1 ≤ F j ∧ (F j < n ∨ F j = -1)) : ∀ (k : Nat) (j : Int), 0 ≤ j → j < m → -1 ≤ mvF X Y F n m k j ∧ (mvF X Y F n m k j < n ∨ mvF X Y F n m k j = -1) := by
  intro k
  induction k with
  | zero => exact hF
  | succ k ih =>
    intro j h1 h2
    have e : mvF X Y F n m (k + 1) = if mvF X Y F n m k k = -1 then upf (mvF X Y F n m k) k (fsT (fun i => decide (X i = Y k) && !tkn (mvF X Y F n m k) i m.toNat) n.toNat 0) else mvF X Y F n m k := rfl
    rw [e]
    split
    · by_cases c : j = k
      · subst c
        rw [upf_e]
        rcases fsT_b (p := fun i => decide (X i = Y k) && !tkn (mvF X Y F n m k) i m.toNat) n.toNat 0 with h | ⟨a, b, -⟩
        · rw [h]; omega
        · omega
      · rw [upf_n c]; exact ih j h1 h2
    · exact ih j h1 h2
end KM2
