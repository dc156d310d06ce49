/-! sets of people as bits; sets of files -/
section BITS
variable {x y k t : Int}
theorem bt_and (hk : 0 ≤ k ∧ k < 20) : bt (wand x y) k ↔ bt x k ∧ bt y k := by
  obtain ⟨b, rfl⟩ := Int.eq_ofNat_of_zero_le hk.1
  rw [bt_iff (by omega), bt_iff (by omega), bt_iff (by omega)]
  unfold wand
  rw [Int32.ofInt_toInt, Int32.toBitVec_and, BitVec.getLsbD_and, Bool.and_eq_true]
theorem bt_m1 : (allN 20 fun k => (Int32.ofInt (-1)).toBitVec.getLsbD k) = true := by decide
theorem bt_xn (hk : 0 ≤ k ∧ k < 20) : bt (wxor y (-1)) k ↔ ¬ bt y k := by
  obtain ⟨b, rfl⟩ := Int.eq_ofNat_of_zero_le hk.1
  have h1 : (Int32.ofInt (-1)).toBitVec.getLsbD b = true := allN_ok bt_m1 b (by omega)
  rw [bt_iff (by omega), bt_iff (by omega)]
  unfold wxor
  rw [Int32.ofInt_toInt, Int32.toBitVec_xor, BitVec.getLsbD_xor, h1]
  cases (Int32.ofInt y).toBitVec.getLsbD b <;> simp
theorem bt_one {i : Int} (hi : 0 ≤ i ∧ i < 20) (hk : 0 ≤ k ∧ k < 20) : bt (wshl 1 i) k ↔ k = i := by
  obtain ⟨a, rfl⟩ := Int.eq_ofNat_of_zero_le hi.1
  obtain ⟨b, rfl⟩ := Int.eq_ofNat_of_zero_le hk.1
  have h1 : (Int32.ofInt (wshl 1 (a : Int))).toBitVec.getLsbD b = decide (b = a) := of_decide_eq_true (allN_ok (allN_ok bt_one0 a (by omega)) b (by omega))
  rw [bt_iff (by omega), h1, decide_eq_true_eq, Int.natCast_inj]
/-- a number out of its bits -/
def bxN (x : Int) : Int := 128 * wand (wshr x 7) 1 + 64 * wand (wshr x 6) 1 + 32 * wand (wshr x 5) 1 + 16 * wand (wshr x 4) 1 + 8 * wand (wshr x 3) 1 + 4 * wand (wshr x 2) 1 + 2 * wand (wshr x 1) 1 + wand (wshr x 0) 1
theorem bxN0 : (allN 256 fun i => decide (bxN i = i)) = true := by decide
theorem bxN_e (hx : 0 ≤ x ∧ x < 256) : bxN x = x := by
  obtain ⟨a, rfl⟩ := Int.eq_ofNat_of_zero_le hx.1
  exact of_decide_eq_true (allN_ok bxN0 a (by omega))
theorem bt_eq (h : bt x k ↔ bt y k) : wand (wshr x k) 1 = wand (wshr y k) 1 := by
  by_cases c : bt x k
  · have c2 := h.mp c
    unfold bt at c c2
    rw [c, c2]
  · rw [bt_not c, bt_not (fun q => c (h.mpr q))]
theorem bt_ext (hx : 0 ≤ x ∧ x < 256) (hy : 0 ≤ y ∧ y < 256) (h : ∀ k, 0 ≤ k → k < 8 → (bt x k ↔ bt y k)) : x = y := by
  rw [← bxN_e hx, ← bxN_e hy]
  unfold bxN
  rw [bt_eq (h 0 (by omega) (by omega)), bt_eq (h 1 (by omega) (by omega)), bt_eq (h 2 (by omega) (by omega)), bt_eq (h 3 (by omega) (by omega)), bt_eq (h 4 (by omega) (by omega)), bt_eq (h 5 (by omega) (by omega)), bt_eq (h 6 (by omega) (by omega)), bt_eq (h 7 (by omega) (by omega))]
theorem bt_zero (hx : 0 ≤ x ∧ x < 256) : x = 0 ↔ ∀ k, 0 ≤ k → k < 8 → ¬ bt x k := by
  constructor
  · rintro rfl k h1 h2
    exact bt_0 ⟨h1, by omega⟩
  · intro h
    exact bt_ext hx (by omega) fun k h1 h2 => ⟨fun q => absurd q (h k h1 h2), fun q => absurd q (bt_0 ⟨h1, by omega⟩)⟩
theorem lt256_0 : (allN 256 fun i => decide ((Int32.ofInt i).toBitVec.toNat < 256)) = true := by decide
theorem wand_b (hx : 0 ≤ x ∧ x < 256) : 0 ≤ wand x y ∧ wand x y < 256 := by
  obtain ⟨a, rfl⟩ := Int.eq_ofNat_of_zero_le hx.1
  have h1 : (Int32.ofInt (a : Int)).toBitVec.toNat < 256 := of_decide_eq_true (allN_ok lt256_0 a (by omega))
  have e : wand a y = ((Int32.ofInt a).toBitVec &&& (Int32.ofInt y).toBitVec).toInt := by
    unfold wand
    rw [← Int32.toBitVec_and]
    rfl
  have hn : ((Int32.ofInt a).toBitVec &&& (Int32.ofInt y).toBitVec).toNat < 256 := by
    rw [BitVec.toNat_and]
    exact Nat.lt_of_le_of_lt Nat.and_le_left h1
  rw [e, BitVec.toInt_eq_toNat_of_lt (by omega)]
  omega
theorem wor_b (hx : 0 ≤ x ∧ x < 256) (hk : 0 ≤ k ∧ k < 8) : 0 ≤ wor x (wshl 1 k) ∧ wor x (wshl 1 k) < 256 := bit_on hx hk
theorem wor_00 : (allN 256 fun i => decide (wor i 0 = i)) = true := by decide
theorem wor_0 (hx : 0 ≤ x ∧ x < 256) : wor x 0 = x := by
  obtain ⟨a, rfl⟩ := Int.eq_ofNat_of_zero_le hx.1
  exact of_decide_eq_true (allN_ok wor_00 a (by omega))
theorem wl_0 : (allN 9 fun p => allN 256 fun a => decide ((a : Int) < wshl 1 p → wand a (wshl (-1) p) = 0)) = true := by decide
theorem wl_1 : (allN 9 fun p => allN 32 fun i => decide (p ≤ i → (Int32.ofInt (wshl (-1) p)).toBitVec.getLsbD i = true)) = true := by decide
theorem wl_2 : (allN 9 fun p => decide (wshl 1 p = (2 : Int) ^ p ∧ wshl 1 p ≤ 256)) = true := by decide
theorem wl_iff {p : Int} (hx : inr x) (hp : 0 ≤ p ∧ p ≤ 8) : wand x (wshl (-1) p) = 0 ↔ 0 ≤ x ∧ x < wshl 1 p := by
  obtain ⟨b, rfl⟩ := Int.eq_ofNat_of_zero_le hp.1
  obtain ⟨e2, e3⟩ : wshl 1 (b : Int) = (2 : Int) ^ b ∧ wshl 1 (b : Int) ≤ 256 := of_decide_eq_true (allN_ok wl_2 b (by omega))
  constructor
  · intro h
    unfold wand at h
    have h0 : (Int32.ofInt x &&& Int32.ofInt (wshl (-1) b)).toBitVec = 0#32 := by
      apply BitVec.eq_of_toInt_eq
      exact h
    rw [Int32.toBitVec_and] at h0
    have hb : ∀ i, b ≤ i → (Int32.ofInt x).toBitVec.toNat.testBit i = false := by
      intro i hi
      by_cases c : i < 32
      · have h1 : (Int32.ofInt (wshl (-1) b)).toBitVec.getLsbD i = true := of_decide_eq_true (allN_ok (allN_ok wl_1 b (by omega)) i c) hi
        have h2 := congrArg (fun v => BitVec.getLsbD v i) h0
        rw [BitVec.getLsbD_and, h1, Bool.and_true, BitVec.getLsbD_zero] at h2
        exact h2
      · exact BitVec.getLsbD_of_ge _ _ (by omega)
    have h3 : (Int32.ofInt x).toBitVec.toNat < 2 ^ b := Nat.lt_pow_two_of_testBit _ hb
    have h4 : (Int32.ofInt x).toBitVec.toNat = (x % 4294967296).toNat := (BitVec.toNat_ofInt (n := 32) x)
    rw [h4] at h3
    obtain ⟨x1, x2⟩ := hx
    have h5 : ((2 ^ b : Nat) : Int) = (2 : Int) ^ b := by push_cast; rfl
    rw [← h5] at e2
    omega
  · rintro ⟨h1, h2⟩
    obtain ⟨a, rfl⟩ := Int.eq_ofNat_of_zero_le h1
    exact of_decide_eq_true (allN_ok (allN_ok wl_0 b (by omega)) a (by omega)) h2
/-- part of a set -/
abbrev sub (a s : Int) : Prop := wand a (wxor s (-1)) = 0
theorem sub_iff (hx : 0 ≤ x ∧ x < 256) : sub x y ↔ ∀ k, 0 ≤ k → k < 8 → bt x k → bt y k := by
  unfold sub
  rw [bt_zero (wand_b hx)]
  constructor
  · intro h k h1 h2 h3
    have := h k h1 h2
    rw [bt_and ⟨h1, by omega⟩, bt_xn ⟨h1, by omega⟩] at this
    exact Decidable.of_not_not fun q => this ⟨h3, q⟩
  · intro h k h1 h2
    rw [bt_and ⟨h1, by omega⟩, bt_xn ⟨h1, by omega⟩]
    exact fun q => q.2 (h k h1 h2 q.1)
/-- the files whose teams are part of a set -/
def lbN (T : Int → Int) (s : Int) : Nat → Int
  | 0 => 0
  | f + 1 => if sub (T f) s then wor (lbN T s f) (wshl 1 f) else lbN T s f
section LB
variable {T : Int → Int} {s : Int}
theorem lbN_b : ∀ n : Nat, n ≤ 8 → 0 ≤ lbN T s n ∧ lbN T s n < 256 := by
  intro n
  induction n with
  | zero => intro _; show (0 : Int) ≤ 0 ∧ (0 : Int) < 256; omega
  | succ n ih =>
    intro hn
    have e : lbN T s (n + 1) = if sub (T n) s then wor (lbN T s n) (wshl 1 n) else lbN T s n := rfl
    rw [e]
    split
    · exact wor_b (ih (by omega)) (by omega)
    · exact ih (by omega)
theorem lbN_iff (hk : 0 ≤ k ∧ k < 8) : ∀ n : Nat, n ≤ 8 → (bt (lbN T s n) k ↔ k < n ∧ sub (T k) s) := by
  intro n
  induction n with
  | zero => intro _; exact ⟨fun q => absurd q (bt_0 ⟨hk.1, by omega⟩), fun q => by omega⟩
  | succ n ih =>
    intro hn
    have e : lbN T s (n + 1) = if sub (T n) s then wor (lbN T s n) (wshl 1 n) else lbN T s n := rfl
    have ih := ih (by omega)
    rw [e]
    by_cases c : sub (T n) s
    · rw [if_pos c, bt_or ⟨by omega, by omega⟩ ⟨hk.1, by omega⟩, ih]
      constructor
      · rintro (⟨h1, h2⟩ | rfl)
        · exact ⟨by omega, h2⟩
        · exact ⟨by omega, c⟩
      · rintro ⟨h1, h2⟩
        by_cases q : k = n
        · exact Or.inr q
        · exact Or.inl ⟨by omega, h2⟩
    · rw [if_neg c, ih]
      constructor
      · rintro ⟨h1, h2⟩
        exact ⟨by omega, h2⟩
      · rintro ⟨h1, h2⟩
        refine ⟨?_, h2⟩
        by_cases q : k = n
        · subst q; exact absurd h2 c
        · omega
/-- the files that a set loses and none with one less -/
def ilN (T : Int → Int) (s : Int) : Nat → Int
  | 0 => lbN T s 6
  | p + 1 => if bt s p then wand (ilN T s p) (wxor (lbN T (wand s (wxor (wshl 1 p) (-1))) 6) (-1)) else ilN T s p
theorem ilN_b : ∀ n : Nat, 0 ≤ ilN T s n ∧ ilN T s n < 256 := by
  intro n
  induction n with
  | zero => exact lbN_b 6 (by omega)
  | succ n ih =>
    have e : ilN T s (n + 1) = if bt s n then wand (ilN T s n) (wxor (lbN T (wand s (wxor (wshl 1 n) (-1))) 6) (-1)) else ilN T s n := rfl
    rw [e]
    split
    · exact wand_b ih
    · exact ih
theorem ilN_iff (hk : 0 ≤ k ∧ k < 8) : ∀ n : Nat, n ≤ 8 → (bt (ilN T s n) k ↔ (k < 6 ∧ sub (T k) s) ∧ ∀ q, 0 ≤ q → q < (n : Int) → bt s q → ¬ sub (T k) (wand s (wxor (wshl 1 q) (-1)))) := by
  intro n
  induction n with
  | zero =>
    intro _
    show bt (lbN T s 6) k ↔ _
    rw [lbN_iff hk 6 (by omega)]
    exact ⟨fun q => ⟨q, fun j j1 j2 => by omega⟩, fun q => q.1⟩
  | succ n ih =>
    intro hn
    have e : ilN T s (n + 1) = if bt s n then wand (ilN T s n) (wxor (lbN T (wand s (wxor (wshl 1 n) (-1))) 6) (-1)) else ilN T s n := rfl
    have ih := ih (by omega)
    rw [e]
    by_cases c : bt s n
    · rw [if_pos c, bt_and ⟨hk.1, by omega⟩, bt_xn ⟨hk.1, by omega⟩, ih, lbN_iff hk 6 (by omega)]
      constructor
      · rintro ⟨⟨h1, h2⟩, h3⟩
        refine ⟨h1, fun q q1 q2 q3 => ?_⟩
        by_cases z : q = n
        · subst z
          exact fun z => h3 ⟨h1.1, z⟩
        · exact h2 q q1 (by omega) q3
      · rintro ⟨h1, h2⟩
        exact ⟨⟨h1, fun q q1 q2 q3 => h2 q q1 (by omega) q3⟩, fun z => h2 n (by omega) (by omega) c z.2⟩
    · rw [if_neg c, ih]
      constructor
      · rintro ⟨h1, h2⟩
        refine ⟨h1, fun q q1 q2 q3 => ?_⟩
        by_cases z : q = n
        · subst z; exact absurd q3 c
        · exact h2 q q1 (by omega) q3
      · rintro ⟨h1, h2⟩
        exact ⟨h1, fun q q1 q2 q3 => h2 q q1 (by omega) q3⟩
theorem ilN_ne (hs : 0 ≤ s ∧ s < 256) (hT : ∀ f, 0 ≤ f → f < 6 → 0 ≤ T f ∧ T f < 256) : ilN T s 8 ≠ 0 ↔ ∃ f, 0 ≤ f ∧ f < 6 ∧ T f = s := by
  constructor
  · intro h
    have h2 : ∃ k, (0 ≤ k ∧ k < 8) ∧ bt (ilN T s 8) k := Classical.byContradiction fun z => h ((bt_zero (ilN_b 8)).mpr fun k k1 k2 q => z ⟨k, ⟨k1, k2⟩, q⟩)
    obtain ⟨k, hk, h3⟩ := h2
    obtain ⟨⟨h4, h5⟩, h6⟩ := (ilN_iff hk 8 (by omega)).mp h3
    have bT := hT k hk.1 h4
    refine ⟨k, hk.1, h4, bt_ext bT hs fun q q1 q2 => ⟨(sub_iff bT).mp h5 q q1 q2, fun z => ?_⟩⟩
    refine Decidable.of_not_not fun z2 => h6 q q1 q2 z ((sub_iff bT).mpr fun j j1 j2 j3 => ?_)
    rw [bt_and ⟨j1, by omega⟩, bt_xn ⟨j1, by omega⟩, bt_one ⟨q1, by omega⟩ ⟨j1, by omega⟩]
    exact ⟨(sub_iff bT).mp h5 j j1 j2 j3, fun e => by subst e; exact z2 j3⟩
  · rintro ⟨f, f1, f2, rfl⟩ h
    have bT := hT f f1 f2
    refine (bt_zero (ilN_b 8)).mp h f f1 (by omega) ?_
    rw [ilN_iff ⟨f1, by omega⟩ 8 (by omega)]
    refine ⟨⟨f2, (sub_iff bT).mpr fun k _ _ q => q⟩, fun q q1 q2 q3 z => ?_⟩
    have := (sub_iff bT).mp z q q1 q2 q3
    rw [bt_and ⟨q1, by omega⟩, bt_xn ⟨q1, by omega⟩, bt_one ⟨q1, by omega⟩ ⟨q1, by omega⟩] at this
    exact this.2 rfl
end LB
/-- the order of sets: by size, then by number -/
def rk (s : Int) : Int := 256 * bcN s + s
/-- the people here who are able for a file, of the first p -/
def tmN (V : Nat → Int → Int) (f : Int) : Nat → Int
  | 0 => 0
  | p + 1 => if bt (V 54 3) p ∧ V 54 5 * V 41 f ≤ 100 * knZ (V 40) (540 * f) (V 41 f) p (V 54 4) then wor (tmN V f p) (wshl 1 p) else tmN V f p
def teV (V : Nat → Int → Int) (f : Int) : Int := tmN V f (V 54 0).toNat
section TM
variable {V : Nat → Int → Int} {f : Int}
theorem tmN_b : ∀ n : Nat, n ≤ 8 → 0 ≤ tmN V f n ∧ tmN V f n < 256 := by
  intro n
  induction n with
  | zero => intro _; show (0 : Int) ≤ 0 ∧ (0 : Int) < 256; omega
  | succ n ih =>
    intro hn
    have e : tmN V f (n + 1) = if bt (V 54 3) n ∧ V 54 5 * V 41 f ≤ 100 * knZ (V 40) (540 * f) (V 41 f) n (V 54 4) then wor (tmN V f n) (wshl 1 n) else tmN V f n := rfl
    rw [e]
    split
    · exact wor_b (ih (by omega)) (by omega)
    · exact ih (by omega)
theorem tmN_sub {k : Int} (hk : 0 ≤ k ∧ k < 8) : ∀ n : Nat, n ≤ 8 → bt (tmN V f n) k → bt (V 54 3) k := by
  intro n
  induction n with
  | zero => intro _ h; exact absurd h (bt_0 ⟨hk.1, by omega⟩)
  | succ n ih =>
    intro hn
    have e : tmN V f (n + 1) = if bt (V 54 3) n ∧ V 54 5 * V 41 f ≤ 100 * knZ (V 40) (540 * f) (V 41 f) n (V 54 4) then wor (tmN V f n) (wshl 1 n) else tmN V f n := rfl
    rw [e]
    by_cases c : bt (V 54 3) n ∧ V 54 5 * V 41 f ≤ 100 * knZ (V 40) (540 * f) (V 41 f) n (V 54 4)
    · rw [if_pos c, bt_or ⟨by omega, by omega⟩ ⟨hk.1, by omega⟩]
      rintro (h | rfl)
      · exact ih (by omega) h
      · exact c.1
    · rw [if_neg c]
      exact ih (by omega)
theorem teV_b (v : VOK V) : 0 ≤ teV V f ∧ teV V f < 256 := by
  have := v.P
  exact tmN_b _ (by omega)
theorem teV_sub (v : VOK V) : sub (teV V f) (V 54 3) := by
  have := v.P
  exact (sub_iff (teV_b v)).mpr fun k k1 k2 => tmN_sub ⟨k1, k2⟩ _ (by omega)
end TM
end BITS
