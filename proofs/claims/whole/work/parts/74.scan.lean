/-! lone and its count -/
section SCAN
variable {d : Nat} {h h1 h2 : aH} {V : Nat → Int → Int} {T f : Int → Int} {x s a b i c r : Int}
/-- whether the set of a rank is a team -/
def gd (T : Int → Int) (r : Int) : Bool := decide (bcN (r % 256) = r / 256 ∧ (T 0 = r % 256 ∨ T 1 = r % 256 ∨ T 2 = r % 256 ∨ T 3 = r % 256 ∨ T 4 = r % 256 ∨ T 5 = r % 256))
theorem six_iff : (T 0 = s ∨ T 1 = s ∨ T 2 = s ∨ T 3 = s ∨ T 4 = s ∨ T 5 = s) ↔ ∃ f, 0 ≤ f ∧ f < 6 ∧ T f = s := by
  constructor
  · rintro (e | e | e | e | e | e)
    · exact ⟨0, by omega, by omega, e⟩
    · exact ⟨1, by omega, by omega, e⟩
    · exact ⟨2, by omega, by omega, e⟩
    · exact ⟨3, by omega, by omega, e⟩
    · exact ⟨4, by omega, by omega, e⟩
    · exact ⟨5, by omega, by omega, e⟩
  · rintro ⟨f, f1, f2, e⟩
    have : f = 0 ∨ f = 1 ∨ f = 2 ∨ f = 3 ∨ f = 4 ∨ f = 5 := by omega
    rcases this with rfl | rfl | rfl | rfl | rfl | rfl
    · exact Or.inl e
    · exact Or.inr (Or.inl e)
    · exact Or.inr (Or.inr (Or.inl e))
    · exact Or.inr (Or.inr (Or.inr (Or.inl e)))
    · exact Or.inr (Or.inr (Or.inr (Or.inr (Or.inl e))))
    · exact Or.inr (Or.inr (Or.inr (Or.inr (Or.inr e))))
theorem gd_iff : gd T r = true ↔ bcN (r % 256) = r / 256 ∧ ∃ f, 0 ≤ f ∧ f < 6 ∧ T f = r % 256 := by
  unfold gd
  rw [decide_eq_true_eq, six_iff]
theorem gd_rk (hr : 0 < r) (hg : gd T r = true) : ∃ f, 0 ≤ f ∧ f < 6 ∧ T f = r % 256 ∧ rk (T f) = r ∧ T f ≠ 0 ∧ bcN (T f) = r / 256 := by
  obtain ⟨h1, f, f1, f2, e⟩ := gd_iff.mp hg
  refine ⟨f, f1, f2, e, ?_, ?_, by rw [e]; exact h1⟩
  · rw [e]; unfold rk; rw [h1]; omega
  · rw [e]
    intro q
    rw [q, show bcN 0 = 0 from by decide] at h1
    omega
theorem gd_of (hs : 0 ≤ s ∧ s < 256) (he : ∃ f, 0 ≤ f ∧ f < 6 ∧ T f = s) : gd T (rk s) = true := by
  have := rk_b hs
  rw [gd_iff, this.2.2.1, this.2.2.2]
  exact ⟨rfl, he⟩
def scn (T : Int → Int) (i : Int) : Nat → Int → Int → Int × Int
  | 0, _, c => (-1, c)
  | n + 1, r, c => if gd T r = true then (if c = i then (r % 256, c) else scn T i n (r + 1) (c + 1)) else scn T i n (r + 1) c
def cnG (T : Int → Int) : Nat → Int → Int
  | 0, _ => 0
  | n + 1, r => (if gd T r = true then 1 else 0) + cnG T n (r + 1)
theorem scn_s {n : Nat} : scn T i (n + 1) r c = if gd T r = true then (if c = i then (r % 256, c) else scn T i n (r + 1) (c + 1)) else scn T i n (r + 1) c := rfl
theorem cnG_s {n : Nat} : cnG T (n + 1) r = (if gd T r = true then 1 else 0) + cnG T n (r + 1) := rfl
theorem cnG_0 : ∀ (n : Nat) (r : Int), 0 ≤ cnG T n r := by
  intro n
  induction n with
  | zero => intro r; exact Int.le_refl _
  | succ n ih =>
    intro r
    have := ih (r + 1)
    rw [cnG_s]
    split <;> omega
theorem scn_skip {n : Nat} : ∀ (k : Nat) (r : Int), (∀ q, r ≤ q → q < r + k → ¬ gd T q = true) → scn T i (k + n) r c = scn T i n (r + k) c := by
  intro k
  induction k with
  | zero => intro r _; rw [Nat.zero_add]; congr 1; omega
  | succ k ih =>
    intro r hq
    rw [show k + 1 + n = (k + n) + 1 by omega, scn_s, if_neg (hq r (by omega) (by omega)), ih (r + 1) (fun q q1 q2 => hq q (by omega) (by omega))]
    congr 1
    omega
theorem cnG_skip {n : Nat} : ∀ (k : Nat) (r : Int), (∀ q, r ≤ q → q < r + k → ¬ gd T q = true) → cnG T (k + n) r = cnG T n (r + k) := by
  intro k
  induction k with
  | zero => intro r _; rw [Nat.zero_add]; congr 1; omega
  | succ k ih =>
    intro r hq
    rw [show k + 1 + n = (k + n) + 1 by omega, cnG_s, if_neg (hq r (by omega) (by omega)), ih (r + 1) (fun q q1 q2 => hq q (by omega) (by omega)), Int.zero_add]
    congr 1
    omega
theorem scn_all : ∀ (n : Nat) (r c : Int), (i < c ∨ c + cnG T n r ≤ i) → scn T i n r c = (-1, c + cnG T n r) := by
  intro n
  induction n with
  | zero => intro r c _; show ((-1 : Int), c) = (-1, c + 0); rw [Int.add_zero]
  | succ n ih =>
    intro r c hc
    have p := cnG_0 (T := T) n (r + 1)
    rw [scn_s, cnG_s]
    rw [cnG_s] at hc
    by_cases q : gd T r = true
    · rw [if_pos q] at hc ⊢
      rw [if_pos q, if_neg (by omega), ih (r + 1) (c + 1) (by omega)]
      congr 1
      omega
    · rw [if_neg q] at hc ⊢
      rw [if_neg q, ih (r + 1) c (by omega)]
      congr 1
      omega
/-- whether a lies in a stretch -/
def idn (a r : Int) (n : Nat) : Int := if r ≤ a ∧ a < r + n then 1 else 0
theorem idn_s {n : Nat} : idn a r (n + 1) = (if a = r then 1 else 0) + idn a (r + 1) n := by
  unfold idn
  by_cases c : a = r
  · rw [if_pos (by omega), if_pos c, if_neg (by omega)]; rfl
  · rw [if_neg c]
    by_cases c2 : r + 1 ≤ a ∧ a < r + 1 + n
    · rw [if_pos (by omega), if_pos c2]; rfl
    · rw [if_neg (by omega), if_neg c2]; rfl
theorem idn_b {n : Nat} : 0 ≤ idn a r n ∧ idn a r n ≤ 1 := by
  unfold idn
  split <;> omega
theorem cnG_b0 : ∀ (n : Nat) (r : Int), 0 < r → cnG T n r ≤ idn (rk (T 0)) r n + idn (rk (T 1)) r n + idn (rk (T 2)) r n + idn (rk (T 3)) r n + idn (rk (T 4)) r n + idn (rk (T 5)) r n := by
  intro n
  induction n with
  | zero =>
    intro r _
    have b0 := idn_b (a := rk (T 0)) (r := r) (n := 0)
    have b1 := idn_b (a := rk (T 1)) (r := r) (n := 0)
    have b2 := idn_b (a := rk (T 2)) (r := r) (n := 0)
    have b3 := idn_b (a := rk (T 3)) (r := r) (n := 0)
    have b4 := idn_b (a := rk (T 4)) (r := r) (n := 0)
    have b5 := idn_b (a := rk (T 5)) (r := r) (n := 0)
    show (0 : Int) ≤ _
    omega
  | succ n ih =>
    intro r hr
    have := ih (r + 1) (by omega)
    rw [cnG_s, idn_s, idn_s, idn_s, idn_s, idn_s, idn_s]
    have z : ∀ a : Int, 0 ≤ (if a = r then (1 : Int) else 0) := fun a => by split <;> omega
    have z0 := z (rk (T 0))
    have z1 := z (rk (T 1))
    have z2 := z (rk (T 2))
    have z3 := z (rk (T 3))
    have z4 := z (rk (T 4))
    have z5 := z (rk (T 5))
    by_cases q : gd T r = true
    · rw [if_pos q]
      obtain ⟨f, f1, f2, -, e, -⟩ := gd_rk hr q
      have hf : f = 0 ∨ f = 1 ∨ f = 2 ∨ f = 3 ∨ f = 4 ∨ f = 5 := by omega
      rcases hf with rfl | rfl | rfl | rfl | rfl | rfl
      · rw [if_pos e]; omega
      · rw [if_pos (c := rk (T 1) = r) e]; omega
      · rw [if_pos (c := rk (T 2) = r) e]; omega
      · rw [if_pos (c := rk (T 3) = r) e]; omega
      · rw [if_pos (c := rk (T 4) = r) e]; omega
      · rw [if_pos (c := rk (T 5) = r) e]; omega
    · rw [if_neg q]
      omega
theorem cnG_6 {n : Nat} (hr : 0 < r) : cnG T n r ≤ 6 := by
  have := cnG_b0 (T := T) n r hr
  have b0 := idn_b (a := rk (T 0)) (r := r) (n := n)
  have b1 := idn_b (a := rk (T 1)) (r := r) (n := n)
  have b2 := idn_b (a := rk (T 2)) (r := r) (n := n)
  have b3 := idn_b (a := rk (T 3)) (r := r) (n := n)
  have b4 := idn_b (a := rk (T 4)) (r := r) (n := n)
  have b5 := idn_b (a := rk (T 5)) (r := r) (n := n)
  omega
/-- the next team of one to three -/
theorem lnx_gd (hT : ∀ j, 0 ≤ j → j < 6 → 0 ≤ T j ∧ T j < 256) (hr : 0 ≤ r) :
    (0 ≤ lnx T r 6 ∧ lnx T r 6 < 256) ∧ (lnx T r 6 ≠ 0 → gd T (rk (lnx T r 6)) = true ∧ r < rk (lnx T r 6) ∧ rk (lnx T r 6) < 1024 ∧ ∀ q, r < q → q < rk (lnx T r 6) → ¬ gd T q = true) ∧ (lnx T r 6 = 0 → ∀ q, r < q → q < 1024 → ¬ gd T q = true) := by
  obtain ⟨b, i1, i2⟩ := lnx_ok (r := r) hT 6 (by omega)
  refine ⟨b, fun q => ?_, fun q t t1 t2 t3 => ?_⟩
  · obtain ⟨⟨f, f1, f2, f3, f4⟩, f5⟩ := i1 q
    refine ⟨gd_of b ⟨f, f1, f2, f3⟩, f5, ?_, fun t t1 t2 t3 => ?_⟩
    · have := f4.2
      rw [f3] at this
      unfold rk
      omega
    · obtain ⟨f', g1, g2, g3, g4, g5, g6⟩ := gd_rk (by omega) t3
      have hb : rk (lnx T r 6) < 1024 := by
        have := f4.2
        rw [f3] at this
        unfold rk
        omega
      have := (i2 f' g1 g2 ⟨g5, by rw [g6]; omega⟩ (by omega)).2
      omega
  · obtain ⟨f', g1, g2, g3, g4, g5, g6⟩ := gd_rk (by omega) t3
    exact (i2 f' g1 g2 ⟨g5, by rw [g6]; omega⟩ (by omega)).1 q
/-- the class's walk from set to set -/
theorem scn_next (hT : ∀ j, 0 ≤ j → j < 6 → 0 ≤ T j ∧ T j < 256) {N : Nat} (hr : 0 ≤ r) (hN : r + 1 + N = 1024) :
    (lnx T r 6 = 0 → scn T i N (r + 1) c = (-1, c) ∧ cnG T N (r + 1) = 0) ∧ (lnx T r 6 ≠ 0 → ∃ M : Nat, rk (lnx T r 6) + 1 + M = 1024 ∧ scn T i N (r + 1) c = (if c = i then (lnx T r 6, c) else scn T i M (rk (lnx T r 6) + 1) (c + 1)) ∧ cnG T N (r + 1) = 1 + cnG T M (rk (lnx T r 6) + 1)) := by
  obtain ⟨b, i1, i2⟩ := lnx_gd (r := r) hT hr
  constructor
  · intro q
    have i3 := i2 q
    have e1 := scn_skip (T := T) (i := i) (c := c) (n := 0) N (r + 1) (fun t t1 t2 => i3 t (by omega) (by omega))
    have e2 := cnG_skip (T := T) (n := 0) N (r + 1) (fun t t1 t2 => i3 t (by omega) (by omega))
    exact ⟨e1, e2⟩
  · intro q
    obtain ⟨j1, j2, j3, j4⟩ := i1 q
    obtain ⟨M, hM⟩ : ∃ M : Nat, rk (lnx T r 6) + 1 + M = 1024 := ⟨(1023 - rk (lnx T r 6)).toNat, by omega⟩
    obtain ⟨K, hK⟩ : ∃ K : Nat, r + 1 + K = rk (lnx T r 6) := ⟨(rk (lnx T r 6) - r - 1).toNat, by omega⟩
    have hN2 : N = K + (M + 1) := by omega
    have e1 := scn_skip (T := T) (i := i) (c := c) (n := M + 1) K (r + 1) (fun t t1 t2 => j4 t (by omega) (by omega))
    have e2 := cnG_skip (T := T) (n := M + 1) K (r + 1) (fun t t1 t2 => j4 t (by omega) (by omega))
    refine ⟨M, hM, ?_, ?_⟩
    · rw [hN2, e1, hK, scn_s, if_pos j1, (rk_b b).2.2.1]
    · rw [hN2, e2, hK, cnG_s, if_pos j1]
end SCAN
