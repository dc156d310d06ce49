/-! the plan: the mathematics -/
/-- hours of the task of a person for a file; 0: none -/
def tkV (V : Nat → Int → Int) (p f : Int) : Int :=
  if (0 ≤ p ∧ p < V 54 0) ∧ bt (V 54 3) p ∧ ¬ (V 54 5 * V 41 f ≤ 100 * knZ (V 40) (540 * f) (V 41 f) p (V 54 4)) ∧ V 41 f - knZ (V 40) (540 * f) (V 41 f) p (V 54 4) ≤ V 52 p ∧ V 54 5 * V 41 f ≤ 100 * kiZ (V 40) (540 * f) (V 41 f) p (V 54 4) then V 41 f - knZ (V 40) (540 * f) (V 41 f) p (V 54 4) else 0
def pw (f : Int) : Int := if f = 0 then 1 else if f = 1 then 4 else if f = 2 then 16 else if f = 3 then 64 else if f = 4 then 256 else 1024
/-- one person less is lacking for a file -/
def lkS (s f : Int) : Int := if 0 < s / pw f % 4 then s - pw f else s
def rtV (t : Int → Int) (R : Int → Int) (s f : Int) : Int := if t f = 0 then 1000000 else t f + R (lkS s f)
def rmn (t : Int → Int) (R : Int → Int) (s : Int) : Nat → Int
  | 0 => R s
  | f + 1 => if rtV t R s f < rmn t R s f then rtV t R s f else rmn t R s f
/-- the least hours of the last k people -/
def Rn (t : Int → Int → Int) : Nat → Int → Int
  | 0 => fun s => if s = 0 then 0 else 1000000
  | k + 1 => fun s => rmn (t (7 - k)) (Rn t k) s 6
/-- the same with slots -/
def flS (S : Int → Int) (o f : Int) : Int := wand o (wxor (wand (wand o (S f)) (-(wand o (S f)))) (-1))
def hwV (t : Int → Int) (C : Int → Int) (S : Int → Int) (o f : Int) : Int := if wand o (S f) = 0 ∨ t f = 0 then 1000000 else t f + C (flS S o f)
def cmn (t : Int → Int) (C : Int → Int) (S : Int → Int) (o : Int) : Nat → Int
  | 0 => C o
  | f + 1 => if hwV t C S o f < cmn t C S o f then hwV t C S o f else cmn t C S o f
def Cn (t : Int → Int → Int) (S : Int → Int) : Nat → Int → Int
  | 0 => fun o => if o = 0 then 0 else 1000000
  | k + 1 => fun o => cmn (t (7 - k)) (Cn t S k) S o 6
/-- how many bits from a on, among l -/
def pcN (o a : Int) : Nat → Int
  | 0 => 0
  | l + 1 => pcN o a l + (if bt o (a + l) then 1 else 0)
/-- where the slots of a file begin -/
def ofs (lk : Int → Int) : Nat → Int
  | 0 => 0
  | f + 1 => ofs lk f + lk f
def dg (lk : Int → Int) (o : Int) (f : Nat) : Int := pcN o (ofs lk f) (lk f).toNat
def phi (lk : Int → Int) (o : Int) : Int := dg lk o 0 + 4 * dg lk o 1 + 16 * dg lk o 2 + 64 * dg lk o 3 + 256 * dg lk o 4 + 1024 * dg lk o 5
/-- slots are as they should be -/
def SlK (lk S : Int → Int) : Prop := (∀ f, 0 ≤ f → f < 6 → 0 ≤ lk f ∧ lk f ≤ 3) ∧ ofs lk 6 ≤ 8 ∧ ∀ f : Nat, f < 6 → (0 ≤ S f ∧ S f < 256) ∧ ∀ k, 0 ≤ k → k < 8 → (bt (S f) k ↔ ofs lk f ≤ k ∧ k < ofs lk f + lk f)
/-- an open set -/
def Dm (lk : Int → Int) (o : Int) : Prop := (0 ≤ o ∧ o < 256) ∧ ∀ k, ofs lk 6 ≤ k → k < 8 → ¬ bt o k
section PM
variable {V : Nat → Int → Int} {t R C S lk : Int → Int} {T : Int → Int → Int} {p f o o' s a k q : Int}
theorem tkV_b (v : VOK V) (hf : 0 ≤ f ∧ f < 6) : 0 ≤ tkV V p f ∧ tkV V p f ≤ 20 := by
  have vL := v.L hf.1 hf.2
  have kb := knZ_b (A := V 40) (o := 540 * f) (p := p) (dy := V 54 4) vL.1
  unfold tkV
  split <;> omega
theorem tkV_pos (v : VOK V) (hf : 0 ≤ f ∧ f < 6) (h : ¬ (V 54 5 * V 41 f ≤ 100 * knZ (V 40) (540 * f) (V 41 f) p (V 54 4))) : 0 < V 41 f - knZ (V 40) (540 * f) (V 41 f) p (V 54 4) := by
  have vL := v.L hf.1 hf.2
  have vS := v.S
  have kb := knZ_b (A := V 40) (o := 540 * f) (p := p) (dy := V 54 4) vL.1
  have key : ¬ knZ (V 40) (540 * f) (V 41 f) p (V 54 4) = V 41 f := by
    intro e
    apply h
    rw [e]
    exact Int.mul_le_mul_of_nonneg_right vS.2 vL.1
  omega
theorem rmn_s {n : Nat} : rmn t R s (n + 1) = if rtV t R s n < rmn t R s n then rtV t R s n else rmn t R s n := rfl
theorem cmn_s {n : Nat} : cmn t C S o (n + 1) = if hwV t C S o n < cmn t C S o n then hwV t C S o n else cmn t C S o n := rfl
theorem rmn_le : ∀ n : Nat, rmn t R s n ≤ R s := by
  intro n
  induction n with
  | zero => exact Int.le_refl _
  | succ n ih =>
    rw [rmn_s]
    split <;> omega
theorem rmn_b (ht : ∀ f, 0 ≤ f → f < 6 → 0 ≤ t f ∧ t f ≤ 20) (hR : ∀ s, 0 ≤ R s ∧ R s ≤ 1000000) : ∀ n : Nat, n ≤ 6 → 0 ≤ rmn t R s n ∧ rmn t R s n ≤ 1000000 := by
  intro n
  induction n with
  | zero => intro _; exact hR s
  | succ n ih =>
    intro hn
    have := ih (by omega)
    have h1 := ht n (by omega) (by omega)
    have h2 := hR (lkS s n)
    rw [rmn_s]
    unfold rtV
    by_cases q : t n = 0
    · rw [if_pos q]
      split <;> omega
    · rw [if_neg q]
      split <;> omega
theorem Rn_b (hT : ∀ p f, 0 ≤ f → f < 6 → 0 ≤ T p f ∧ T p f ≤ 20) : ∀ (k : Nat) (s : Int), 0 ≤ Rn T k s ∧ Rn T k s ≤ 1000000 := by
  intro k
  induction k with
  | zero =>
    intro s
    show 0 ≤ (if s = 0 then (0 : Int) else 1000000) ∧ (if s = 0 then (0 : Int) else 1000000) ≤ 1000000
    split <;> omega
  | succ k ih => exact fun s => rmn_b (hT _) ih 6 (by omega)
theorem Rn_s {k : Nat} : Rn T (k + 1) s = rmn (T (7 - k)) (Rn T k) s 6 := rfl
theorem Cn_s {k : Nat} : Cn T S (k + 1) o = cmn (T (7 - k)) (Cn T S k) S o 6 := rfl
/-- how many are lacking in all -/
def dsm (s : Int) : Int := s % 4 + s / 4 % 4 + s / 16 % 4 + s / 64 % 4 + s / 256 % 4 + s / 1024 % 4
theorem pw_cases (hf : 0 ≤ f ∧ f < 6) : (f = 0 ∧ pw f = 1) ∨ (f = 1 ∧ pw f = 4) ∨ (f = 2 ∧ pw f = 16) ∨ (f = 3 ∧ pw f = 64) ∨ (f = 4 ∧ pw f = 256) ∨ (f = 5 ∧ pw f = 1024) := by
  have : f = 0 ∨ f = 1 ∨ f = 2 ∨ f = 3 ∨ f = 4 ∨ f = 5 := by omega
  rcases this with rfl | rfl | rfl | rfl | rfl | rfl
  · exact Or.inl ⟨rfl, rfl⟩
  · exact Or.inr (Or.inl ⟨rfl, rfl⟩)
  · exact Or.inr (Or.inr (Or.inl ⟨rfl, rfl⟩))
  · exact Or.inr (Or.inr (Or.inr (Or.inl ⟨rfl, rfl⟩)))
  · exact Or.inr (Or.inr (Or.inr (Or.inr (Or.inl ⟨rfl, rfl⟩))))
  · exact Or.inr (Or.inr (Or.inr (Or.inr (Or.inr ⟨rfl, rfl⟩))))
theorem lkS_b (hs : 0 ≤ s ∧ s < 4096) (hf : 0 ≤ f ∧ f < 6) : (0 ≤ lkS s f ∧ lkS s f < 4096) ∧ dsm s - 1 ≤ dsm (lkS s f) := by
  unfold lkS
  rcases pw_cases hf with ⟨-, e⟩ | ⟨-, e⟩ | ⟨-, e⟩ | ⟨-, e⟩ | ⟨-, e⟩ | ⟨-, e⟩ <;> rw [e] <;> split <;> unfold dsm <;> omega
theorem rmn_far (hR : ∀ s, 0 ≤ s → s < 4096 → q < dsm s → 1000000 ≤ R s) (ht : ∀ f, 0 ≤ f → f < 6 → 0 ≤ t f ∧ t f ≤ 20) (hs : 0 ≤ s ∧ s < 4096) (hd : q + 1 < dsm s) : ∀ n : Nat, n ≤ 6 → 1000000 ≤ rmn t R s n := by
  intro n
  induction n with
  | zero => intro _; exact hR s hs.1 hs.2 (by omega)
  | succ n ih =>
    intro hn
    have h1 := ih (by omega)
    have h2 := ht n (by omega) (by omega)
    have h3 := lkS_b (f := n) hs (by omega)
    have h4 := hR (lkS s n) h3.1.1 h3.1.2 (by omega)
    rw [rmn_s]
    unfold rtV
    by_cases c : t n = 0
    · rw [if_pos c]
      split <;> omega
    · rw [if_neg c]
      split <;> omega
theorem Rn_far (hT : ∀ p f, 0 ≤ f → f < 6 → 0 ≤ T p f ∧ T p f ≤ 20) : ∀ (k : Nat) (s : Int), 0 ≤ s → s < 4096 → (k : Int) < dsm s → 1000000 ≤ Rn T k s := by
  intro k
  induction k with
  | zero =>
    intro s h1 h2 h3
    show 1000000 ≤ (if s = 0 then (0 : Int) else 1000000)
    have : s ≠ 0 := by
      intro e
      rw [e] at h3
      have : dsm 0 = 0 := by decide
      omega
    rw [if_neg this]
    exact Int.le_refl _
  | succ k ih => exact fun s h1 h2 h3 => rmn_far (q := k) ih (hT _) ⟨h1, h2⟩ (by omega) 6 (by omega)
theorem pcN_b : ∀ l : Nat, 0 ≤ pcN o a l ∧ pcN o a l ≤ l := by
  intro l
  induction l with
  | zero => show (0 : Int) ≤ 0 ∧ (0 : Int) ≤ 0; omega
  | succ l ih =>
    show 0 ≤ pcN o a l + (if bt o (a + l) then 1 else 0) ∧ pcN o a l + (if bt o (a + l) then 1 else 0) ≤ ((l + 1 : Nat) : Int)
    split <;> omega
theorem pcN_s {l : Nat} : pcN o a (l + 1) = pcN o a l + (if bt o (a + l) then 1 else 0) := rfl
theorem pcN_congr : ∀ l : Nat, (∀ k, a ≤ k → k < a + l → (bt o k ↔ bt o' k)) → pcN o a l = pcN o' a l := by
  intro l
  induction l with
  | zero => intro _; rfl
  | succ l ih =>
    intro h
    rw [pcN_s, pcN_s, ih (fun k h1 h2 => h k h1 (by omega))]
    have := h (a + l) (by omega) (by omega)
    by_cases c : bt o (a + l)
    · rw [if_pos c, if_pos (this.mp c)]
    · rw [if_neg c, if_neg (fun z => c (this.mpr z))]
theorem pcN_0 : ∀ l : Nat, pcN o a l = 0 ↔ ∀ k, a ≤ k → k < a + l → ¬ bt o k := by
  intro l
  induction l with
  | zero => exact ⟨fun _ k h1 h2 => by omega, fun _ => rfl⟩
  | succ l ih =>
    have b := pcN_b (o := o) (a := a) l
    rw [pcN_s]
    constructor
    · intro h k h1 h2
      by_cases c : bt o (a + l)
      · rw [if_pos c] at h; omega
      · rw [if_neg c, Int.add_zero] at h
        by_cases z : k = a + l
        · subst z; exact c
        · exact ih.mp h k h1 (by omega)
    · intro h
      rw [if_neg (h (a + l) (by omega) (by omega)), ih.mpr (fun k h1 h2 => h k h1 (by omega))]
      rfl
theorem pcN_rm (hq : bt o q) : ∀ l : Nat, a ≤ q → q < a + l → (∀ k, a ≤ k → k < a + l → (bt o' k ↔ bt o k ∧ k ≠ q)) → pcN o' a l = pcN o a l - 1 := by
  intro l
  induction l with
  | zero => intro h1 h2; omega
  | succ l ih =>
    intro h1 h2 h3
    rw [pcN_s, pcN_s]
    have hl := h3 (a + l) (by omega) (by omega)
    by_cases z : q = a + l
    · rw [pcN_congr l (o := o') (o' := o) fun k k1 k2 => by
        rw [h3 k k1 (by omega)]
        exact ⟨fun y => y.1, fun y => ⟨y, by omega⟩⟩]
      rw [if_neg (fun y => (hl.mp y).2 z.symm), if_pos (by rw [← z]; exact hq)]
      omega
    · rw [ih h1 (by omega) fun k k1 k2 => h3 k k1 (by omega)]
      by_cases c : bt o (a + l)
      · rw [if_pos c, if_pos (hl.mpr ⟨c, fun y => z y.symm⟩)]
        omega
      · rw [if_neg c, if_neg (fun y => c (hl.mp y).1)]
        omega
theorem ofs_s {n : Nat} : ofs lk (n + 1) = ofs lk n + lk n := rfl
theorem ofs_mono (h : ∀ f, 0 ≤ f → f < 6 → 0 ≤ lk f ∧ lk f ≤ 3) : ∀ (k n : Nat), n + k ≤ 6 → ofs lk n ≤ ofs lk (n + k) := by
  intro k
  induction k with
  | zero => intro n _; exact Int.le_refl _
  | succ k ih =>
    intro n hn
    have := ih n (by omega)
    have h2 := h ((n + k : Nat) : Int) (by omega) (by omega)
    rw [← Nat.add_assoc, ofs_s]
    omega
theorem ofs_le (h : ∀ f, 0 ≤ f → f < 6 → 0 ≤ lk f ∧ lk f ≤ 3) {m n : Nat} (h1 : m ≤ n) (h2 : n ≤ 6) : ofs lk m ≤ ofs lk n := by
  have := ofs_mono h (n - m) m (by omega)
  rw [show m + (n - m) = n by omega] at this
  exact this
/-- the lowest bit -/
def lwb (s : Int) : Int := fsT (fun k => decide (wand (wshr s k) 1 = 1)) 8 0
theorem lwb0 : (allN 256 fun s => decide (s = 0 ∨ (wand s (-s) = wshl 1 (lwb s) ∧ (0 ≤ lwb s ∧ lwb s < 8) ∧ wand (wshr s (lwb s)) 1 = 1))) = true := by decide
theorem lwb_ok (hs : 0 ≤ s ∧ s < 256) (h0 : s ≠ 0) : wand s (-s) = wshl 1 (lwb s) ∧ (0 ≤ lwb s ∧ lwb s < 8) ∧ bt s (lwb s) := by
  obtain ⟨a, rfl⟩ := Int.eq_ofNat_of_zero_le hs.1
  rcases (of_decide_eq_true (allN_ok lwb0 a (by omega)) : a = 0 ∨ (wand a (-(a : Int)) = wshl 1 (lwb a) ∧ (0 ≤ lwb a ∧ lwb a < 8) ∧ wand (wshr a (lwb a)) 1 = 1)) with h | h
  · subst h; exact absurd rfl h0
  · exact h
theorem dg_b (K : SlK lk S) {n : Nat} (hn : n < 6) : 0 ≤ dg lk o n ∧ dg lk o n ≤ 3 := by
  have h := pcN_b (o := o) (a := ofs lk n) (lk n).toNat
  have h2 := K.1 n (by omega) (by omega)
  unfold dg
  omega
theorem dg_0 (K : SlK lk S) (ho : 0 ≤ o ∧ o < 256) {n : Nat} (hn : n < 6) : wand o (S n) = 0 ↔ dg lk o n = 0 := by
  have h2 := K.1 n (by omega) (by omega)
  have h3 := ofs_le K.1 (m := n + 1) (n := 6) (by omega) (by omega)
  have h4 := ofs_le K.1 (m := 0) (n := n) (by omega) (by omega)
  have h5 : ofs lk 0 = 0 := rfl
  have h6 := K.2.1
  rw [ofs_s] at h3
  unfold dg
  rw [bt_zero (wand_b ho), pcN_0]
  constructor
  · intro h k k1 k2
    have := h k (by omega) (by omega)
    rw [bt_and ⟨by omega, by omega⟩, ((K.2.2 n hn).2 k (by omega) (by omega))] at this
    exact fun z => this ⟨z, by omega⟩
  · intro h k k1 k2
    rw [bt_and ⟨k1, by omega⟩, ((K.2.2 n hn).2 k k1 k2)]
    rintro ⟨z1, z2, z3⟩
    exact h k z2 (by omega) z1
/-- a slot that is filled -/
theorem fl_bt (K : SlK lk S) (ho : 0 ≤ o ∧ o < 256) {n : Nat} (hn : n < 6) (h0 : wand o (S n) ≠ 0) : ∃ q, (ofs lk n ≤ q ∧ q < ofs lk n + lk n) ∧ bt o q ∧ (0 ≤ flS S o n ∧ flS S o n < 256) ∧ ∀ k, 0 ≤ k → k < 8 → (bt (flS S o n) k ↔ bt o k ∧ k ≠ q) := by
  obtain ⟨h1, h2, h3⟩ := lwb_ok (wand_b (y := S n) ho) h0
  generalize lwb (wand o (S n)) = q at *
  rw [bt_and ⟨h2.1, by omega⟩, ((K.2.2 n hn).2 q h2.1 h2.2)] at h3
  refine ⟨q, h3.2, h3.1, wand_b ho, fun k k1 k2 => ?_⟩
  unfold flS
  rw [h1, bt_and ⟨k1, by omega⟩, bt_xn ⟨k1, by omega⟩, bt_one ⟨h2.1, by omega⟩ ⟨k1, by omega⟩]
theorem fl_dg (K : SlK lk S) (ho : 0 ≤ o ∧ o < 256) {n : Nat} (hn : n < 6) (h0 : wand o (S n) ≠ 0) {m : Nat} (hm : m < 6) : dg lk (flS S o n) m = if m = n then dg lk o m - 1 else dg lk o m := by
  obtain ⟨q, h1, h2, h3, h4⟩ := fl_bt K ho hn h0
  have kn := K.1 n (by omega) (by omega)
  have km := K.1 m (by omega) (by omega)
  have a1 := ofs_le K.1 (m := n + 1) (n := 6) (by omega) (by omega)
  have a2 := ofs_le K.1 (m := m + 1) (n := 6) (by omega) (by omega)
  have a3 := ofs_le K.1 (m := 0) (n := n) (by omega) (by omega)
  have a4 := ofs_le K.1 (m := 0) (n := m) (by omega) (by omega)
  have a5 : ofs lk 0 = 0 := rfl
  have a6 := K.2.1
  rw [ofs_s] at a1 a2
  unfold dg
  by_cases c : m = n
  · subst c
    rw [if_pos rfl]
    exact pcN_rm h2 _ h1.1 (by omega) fun k k1 k2 => h4 k (by omega) (by omega)
  · rw [if_neg c]
    refine pcN_congr _ fun k k1 k2 => ?_
    rw [h4 k (by omega) (by omega)]
    refine ⟨fun y => y.1, fun y => ⟨y, ?_⟩⟩
    by_cases c2 : m < n
    · have := ofs_le K.1 (m := m + 1) (n := n) (by omega) (by omega)
      rw [ofs_s] at this
      omega
    · have := ofs_le K.1 (m := n + 1) (n := m) (by omega) (by omega)
      rw [ofs_s] at this
      omega
theorem fl_Dm (K : SlK lk S) (D : Dm lk o) {n : Nat} (hn : n < 6) (h0 : wand o (S n) ≠ 0) : Dm lk (flS S o n) ∧ flS S o n ≤ o := by
  obtain ⟨q, h1, h2, h3, h4⟩ := fl_bt K D.1 hn h0
  have h5 : 0 ≤ ofs lk 6 := ofs_le K.1 (m := 0) (n := 6) (by omega) (by omega)
  refine ⟨⟨h3, fun k k1 k2 z => D.2 k k1 k2 ((h4 k (by omega) k2).mp z).1⟩, ?_⟩
  exact sub_le h3 D.1 ((sub_iff h3).mpr fun k k1 k2 z => ((h4 k k1 k2).mp z).1)
theorem phi_dg (K : SlK lk S) {n : Nat} (hn : n < 6) : phi lk o / pw n % 4 = dg lk o n := by
  have b0 := dg_b (o := o) K (n := 0) (by omega)
  have b1 := dg_b (o := o) K (n := 1) (by omega)
  have b2 := dg_b (o := o) K (n := 2) (by omega)
  have b3 := dg_b (o := o) K (n := 3) (by omega)
  have b4 := dg_b (o := o) K (n := 4) (by omega)
  have b5 := dg_b (o := o) K (n := 5) (by omega)
  have hc : n = 0 ∨ n = 1 ∨ n = 2 ∨ n = 3 ∨ n = 4 ∨ n = 5 := by omega
  unfold phi
  rcases hc with rfl | rfl | rfl | rfl | rfl | rfl
  · show _ / 1 % 4 = _; omega
  · show _ / 4 % 4 = _; omega
  · show _ / 16 % 4 = _; omega
  · show _ / 64 % 4 = _; omega
  · show _ / 256 % 4 = _; omega
  · show _ / 1024 % 4 = _; omega
theorem phi_b (K : SlK lk S) : 0 ≤ phi lk o ∧ phi lk o < 4096 := by
  have b0 := dg_b (o := o) K (n := 0) (by omega)
  have b1 := dg_b (o := o) K (n := 1) (by omega)
  have b2 := dg_b (o := o) K (n := 2) (by omega)
  have b3 := dg_b (o := o) K (n := 3) (by omega)
  have b4 := dg_b (o := o) K (n := 4) (by omega)
  have b5 := dg_b (o := o) K (n := 5) (by omega)
  unfold phi
  omega
theorem phi_0 (K : SlK lk S) (D : Dm lk o) : phi lk o = 0 ↔ o = 0 := by
  have b0 := dg_b (o := o) K (n := 0) (by omega)
  have b1 := dg_b (o := o) K (n := 1) (by omega)
  have b2 := dg_b (o := o) K (n := 2) (by omega)
  have b3 := dg_b (o := o) K (n := 3) (by omega)
  have b4 := dg_b (o := o) K (n := 4) (by omega)
  have b5 := dg_b (o := o) K (n := 5) (by omega)
  have l0 := K.1 0 (by omega) (by omega)
  have l1 := K.1 1 (by omega) (by omega)
  have l2 := K.1 2 (by omega) (by omega)
  have l3 := K.1 3 (by omega) (by omega)
  have l4 := K.1 4 (by omega) (by omega)
  have l5 := K.1 5 (by omega) (by omega)
  have o0 : ofs lk 0 = 0 := rfl
  have o1 : ofs lk 1 = ofs lk 0 + lk 0 := rfl
  have o2 : ofs lk 2 = ofs lk 1 + lk 1 := rfl
  have o3 : ofs lk 3 = ofs lk 2 + lk 2 := rfl
  have o4 : ofs lk 4 = ofs lk 3 + lk 3 := rfl
  have o5 : ofs lk 5 = ofs lk 4 + lk 4 := rfl
  have o6 : ofs lk 6 = ofs lk 5 + lk 5 := rfl
  constructor
  · intro h
    unfold phi at h
    have z : ∀ n : Nat, n < 6 → ∀ k, ofs lk n ≤ k → k < ofs lk n + (lk n).toNat → ¬ bt o k := by
      intro n hn
      have : dg lk o n = 0 := by
        have hc : n = 0 ∨ n = 1 ∨ n = 2 ∨ n = 3 ∨ n = 4 ∨ n = 5 := by omega
        rcases hc with rfl | rfl | rfl | rfl | rfl | rfl <;> omega
      exact (pcN_0 _).mp this
    refine (bt_zero D.1).mpr fun k k1 k2 => ?_
    by_cases c6 : ofs lk 6 ≤ k
    · exact D.2 k c6 k2
    by_cases c5 : ofs lk 5 ≤ k
    · exact z 5 (by omega) k c5 (by show k < ofs lk 5 + ((lk 5).toNat : Int); omega)
    by_cases c4 : ofs lk 4 ≤ k
    · exact z 4 (by omega) k c4 (by show k < ofs lk 4 + ((lk 4).toNat : Int); omega)
    by_cases c3 : ofs lk 3 ≤ k
    · exact z 3 (by omega) k c3 (by show k < ofs lk 3 + ((lk 3).toNat : Int); omega)
    by_cases c2 : ofs lk 2 ≤ k
    · exact z 2 (by omega) k c2 (by show k < ofs lk 2 + ((lk 2).toNat : Int); omega)
    by_cases c1 : ofs lk 1 ≤ k
    · exact z 1 (by omega) k c1 (by show k < ofs lk 1 + ((lk 1).toNat : Int); omega)
    exact z 0 (by omega) k (by omega) (by show k < ofs lk 0 + ((lk 0).toNat : Int); omega)
  · rintro rfl
    have z : ∀ n : Nat, n < 6 → dg lk 0 n = 0 := by
      intro n hn
      have kn := K.1 n (by omega) (by omega)
      have a1 := ofs_le K.1 (m := n + 1) (n := 6) (by omega) (by omega)
      have a3 := ofs_le K.1 (m := 0) (n := n) (by omega) (by omega)
      have a6 := K.2.1
      rw [ofs_s] at a1
      exact (pcN_0 _).mpr fun k k1 k2 => bt_0 ⟨by omega, by omega⟩
    unfold phi
    rw [z 0 (by omega), z 1 (by omega), z 2 (by omega), z 3 (by omega), z 4 (by omega), z 5 (by omega)]
    rfl
theorem phi_fl (K : SlK lk S) (ho : 0 ≤ o ∧ o < 256) {n : Nat} (hn : n < 6) (h0 : wand o (S n) ≠ 0) : phi lk (flS S o n) = lkS (phi lk o) n := by
  have hd : dg lk o n ≠ 0 := fun z => h0 ((dg_0 K ho hn).mpr z)
  have hb := dg_b (o := o) K hn
  unfold lkS
  rw [phi_dg K hn, if_pos (by omega)]
  unfold phi
  rw [fl_dg K ho hn h0 (m := 0) (by omega), fl_dg K ho hn h0 (m := 1) (by omega), fl_dg K ho hn h0 (m := 2) (by omega), fl_dg K ho hn h0 (m := 3) (by omega), fl_dg K ho hn h0 (m := 4) (by omega), fl_dg K ho hn h0 (m := 5) (by omega)]
  have hc : n = 0 ∨ n = 1 ∨ n = 2 ∨ n = 3 ∨ n = 4 ∨ n = 5 := by omega
  rcases hc with rfl | rfl | rfl | rfl | rfl | rfl
  · show _ = _ - 1; simp; omega
  · show _ = _ - 4; simp; omega
  · show _ = _ - 16; simp; omega
  · show _ = _ - 64; simp; omega
  · show _ = _ - 256; simp; omega
  · show _ = _ - 1024; simp; omega
theorem phi_lk (K : SlK lk S) (ho : 0 ≤ o ∧ o < 256) {n : Nat} (hn : n < 6) (h0 : wand o (S n) = 0) : lkS (phi lk o) n = phi lk o := by
  have hd := (dg_0 K ho hn).mp h0
  unfold lkS
  rw [phi_dg K hn, if_neg (by omega)]
theorem cmn_eq (K : SlK lk S) (D : Dm lk o) (ht : ∀ f, 0 ≤ f → f < 6 → 0 ≤ t f ∧ t f ≤ 20) (hR : ∀ s, 0 ≤ R s ∧ R s ≤ 1000000) (e : ∀ o, Dm lk o → C o = R (phi lk o)) : ∀ n : Nat, n ≤ 6 → cmn t C S o n = rmn t R (phi lk o) n := by
  intro n
  induction n with
  | zero => intro _; exact e o D
  | succ n ih =>
    intro hn
    have h1 := ih (by omega)
    have h2 := ht n (by omega) (by omega)
    have h3 := rmn_b (s := phi lk o) ht hR n (by omega)
    have h4 := rmn_le (t := t) (R := R) (s := phi lk o) n
    rw [cmn_s, rmn_s, h1]
    unfold hwV rtV
    by_cases q : t n = 0
    · rw [if_pos (Or.inr q), if_pos q]
    · rw [if_neg q]
      by_cases q2 : wand o (S n) = 0
      · rw [if_pos (Or.inl q2), if_neg (by omega), phi_lk K D.1 (by omega) q2, if_neg (by omega)]
      · have nn : ¬ (wand o (S n) = 0 ∨ t n = 0) := fun z => by rcases z with z | z; exact q2 z; exact q z
        rw [if_neg nn, e _ (fl_Dm K D (by omega) q2).1, phi_fl K D.1 (by omega) q2]
theorem Cn_eq (K : SlK lk S) (hT : ∀ p f, 0 ≤ f → f < 6 → 0 ≤ T p f ∧ T p f ≤ 20) : ∀ (k : Nat) (o : Int), Dm lk o → Cn T S k o = Rn T k (phi lk o) := by
  intro k
  induction k with
  | zero =>
    intro o D
    show (if o = 0 then (0 : Int) else 1000000) = if phi lk o = 0 then 0 else 1000000
    by_cases c : o = 0
    · rw [if_pos c, if_pos ((phi_0 K D).mpr c)]
    · rw [if_neg c, if_neg (fun z => c ((phi_0 K D).mp z))]
  | succ k ih => exact fun o D => cmn_eq K D (hT _) (Rn_b hT k) ih 6 (by omega)
/-- the file that a person reads -/
def fFR (t : Int → Int) (R : Int → Int) (s x : Int) : Int := fsT (fun f => decide (0 < t f ∧ t f + R (lkS s f) = x)) 6 0
def fFC (t : Int → Int) (C : Int → Int) (S : Int → Int) (o x : Int) : Int := fsT (fun f => decide (hwV t C S o f = x)) 6 0
theorem fsT_congr {p1 p2 : Int → Bool} : ∀ (n : Nat) (i : Int), (∀ f, i ≤ f → f < i + n → p1 f = p2 f) → fsT p1 n i = fsT p2 n i := by
  intro n
  induction n with
  | zero => intro i _; rfl
  | succ n ih =>
    intro i h
    show (if p1 i = true then i else fsT p1 n (i + 1)) = if p2 i = true then i else fsT p2 n (i + 1)
    rw [h i (by omega) (by omega), ih (i + 1) fun f f1 f2 => h f (by omega) (by omega)]
theorem fsT_no {p1 : Int → Bool} : ∀ (n : Nat) (i : Int), 0 ≤ i → fsT p1 n i = -1 → ∀ f, i ≤ f → f < i + n → p1 f = false := by
  intro n
  induction n with
  | zero => intro i _ _ f h1 h2; omega
  | succ n ih =>
    intro i hi h f h1 h2
    have e : fsT p1 (n + 1) i = if p1 i = true then i else fsT p1 n (i + 1) := rfl
    rw [e] at h
    by_cases c : p1 i = true
    · rw [if_pos c] at h; omega
    · rw [if_neg c] at h
      by_cases z : f = i
      · subst z; simpa using c
      · exact ih (i + 1) (by omega) h f (by omega) (by omega)
theorem fFC_eq (K : SlK lk S) (D : Dm lk o) (ht : ∀ f, 0 ≤ f → f < 6 → 0 ≤ t f ∧ t f ≤ 20) (hR : ∀ s, 0 ≤ R s ∧ R s ≤ 1000000) (e : ∀ o, Dm lk o → C o = R (phi lk o)) {x : Int} (hx : x < 1000000) (hx2 : x ≤ R (phi lk o)) : fFC t C S o x = fFR t R (phi lk o) x := by
  unfold fFC fFR
  refine fsT_congr 6 0 fun f f1 f2 => ?_
  obtain ⟨n, rfl⟩ := Int.eq_ofNat_of_zero_le f1
  have hn : n < 6 := by omega
  have h2 := ht n (by omega) (by omega)
  have hr := hR (phi lk o)
  unfold hwV
  by_cases q : t n = 0
  · rw [if_pos (Or.inr q), decide_eq_false (by omega), decide_eq_false (by omega)]
  · by_cases q2 : wand o (S n) = 0
    · rw [if_pos (Or.inl q2), decide_eq_false (by omega), phi_lk K D.1 hn q2, decide_eq_false (by omega)]
    · rw [if_neg (fun z => by rcases z with z | z; exact q2 z; exact q z), e _ (fl_Dm K D hn q2).1, phi_fl K D.1 hn q2]
      by_cases c : t n + R (lkS (phi lk o) n) = x
      · rw [decide_eq_true c, decide_eq_true ⟨by omega, c⟩]
      · rw [decide_eq_false c, decide_eq_false (fun z => c z.2)]
theorem cmn_att : ∀ n : Nat, cmn t C S o n = C o ∨ ∃ f : Nat, f < n ∧ hwV t C S o f = cmn t C S o n := by
  intro n
  induction n with
  | zero => exact Or.inl rfl
  | succ n ih =>
    rw [cmn_s]
    by_cases c : hwV t C S o n < cmn t C S o n
    · rw [if_pos c]
      exact Or.inr ⟨n, by omega, rfl⟩
    · rw [if_neg c]
      rcases ih with h | ⟨f, f1, f2⟩
      · exact Or.inl h
      · exact Or.inr ⟨f, by omega, f2⟩
end PM
