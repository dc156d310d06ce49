/-! what the class's cells hold of the state; frames -/
/-- cells that nothing alters once they are filled -/
abbrev imm (a : Nat) : Prop := 66 ≤ a ∨ a = 9 ∨ a = 10 ∨ a = 16 ∨ a = 17
/-- h' is h but for the cells of L and for new ones -/
def Fr (L : List Nat) (h h' : aH) : Prop := aSz h ≤ aSz h' ∧ ∀ a, a < aSz h → a ∉ L → aCo h' a = aCo h a
section FR
variable {L : List Nat} {h h' h0 h1 h2 : aH} {a b k c : Nat} {f : Int → Int} {p : Int → Option Nat} {v : aV} {ce : aC} {n : Nat}
theorem Fr.refl : Fr L h h := ⟨Nat.le_refl _, fun _ _ _ => rfl⟩
theorem Fr.trans (e1 : Fr L h h1) (e2 : Fr L h1 h2) : Fr L h h2 := ⟨Nat.le_trans e1.1 e2.1, fun a h1 h2 => (e2.2 a (Nat.lt_of_lt_of_le h1 e1.1) h2).trans (e1.2 a h1 h2)⟩
theorem Fr.mono {M : List Nat} (e : Fr L h h') (hs : ∀ a ∈ L, a ∈ M) : Fr M h h' := ⟨e.1, fun a h1 h2 => e.2 a h1 (fun q => h2 (hs a q))⟩
theorem Fr.pf (e : Fr L h0 h) (ha : aSz h0 ≤ a ∨ a ∈ L) : Fr L h0 (pf h a k v) := ⟨e.1, fun b h1 h2 => by
  rw [aCo_pf, if_neg (fun q => by subst q; rcases ha with q | q <;> first | omega | exact h2 q)]; exact e.2 b h1 h2⟩
theorem Fr.sa (e : Fr L h0 h) (ha : aSz h0 ≤ a ∨ a ∈ L) : Fr L h0 (sa h a f) := ⟨e.1, fun b h1 h2 => by
  rw [aCo_sa, if_neg (fun q => by subst q; rcases ha with q | q <;> first | omega | exact h2 q)]; exact e.2 b h1 h2⟩
theorem Fr.sr (e : Fr L h0 h) (ha : aSz h0 ≤ a ∨ a ∈ L) : Fr L h0 (sr h a p) := ⟨e.1, fun b h1 h2 => by
  rw [aCo_sr, if_neg (fun q => by subst q; rcases ha with q | q <;> first | omega | exact h2 q)]; exact e.2 b h1 h2⟩
theorem Fr.new (e : Fr L h0 h) : Fr L h0 (aNew h ce n) := ⟨Nat.le_succ_of_le e.1, fun b h1 h2 => by
  have := e.1
  rw [aCo_new, if_neg (by omega)]; exact e.2 b h1 h2⟩
theorem Fr.co (e : Fr L h h') (ha : a < aSz h) (hL : a ∉ L) : aCo h' a = aCo h a := e.2 a ha hL
theorem gf_co (e : aCo h' a = aCo h a) : gf h' a k = gf h a k := by unfold gf; rw [e]
theorem fi_co (e : aCo h' a = aCo h a) : fi h' a k = fi h a k := by unfold fi; rw [gf_co e]
theorem ai_co (e : aCo h' a = aCo h a) : ai h' a = ai h a := by unfold ai; rw [e]
theorem ra_co (e : aCo h' a = aCo h a) : ra h' a = ra h a := by unfold ra; rw [e]
theorem al_co (e : aCo h' a = aCo h a) : al h' a = al h a := by unfold al; rw [e]
theorem isO_co (e : aCo h' a = aCo h a) (hs : aSz h ≤ aSz h') (o : isO h a c = true) : isO h' a c = true := by
  obtain ⟨fs, e1, e2, e3, e4⟩ := isO_of o
  unfold isO
  rw [e, e1]
  simp only [decide_eq_true_eq]
  exact ⟨e2, by omega, trivial, e4⟩
theorem isA_co (e : aCo h' a = aCo h a) (hs : aSz h ≤ aSz h') (o : isA h a = true) : isA h' a = true := by
  obtain ⟨m, f, e1, e2, -⟩ := isA_of o
  unfold isA
  rw [e, e1]
  simp only [decide_eq_true_eq]
  omega
theorem isR_co (e : aCo h' a = aCo h a) (hs : aSz h ≤ aSz h') (o : isR h a c = true) : isR h' a c = true := by
  obtain ⟨m, f, e1, e2, e3, -⟩ := isR_of o
  unfold isR
  rw [e, e1]
  simp only [decide_eq_true_eq]
  exact ⟨e2, by omega, trivial⟩
theorem isO_lt (o : isO h a c = true) : a < aSz h := by obtain ⟨fs, -, -, e3, -⟩ := isO_of o; exact e3
theorem isA_lt (o : isA h a = true) : a < aSz h := by obtain ⟨m, f, -, e2, -⟩ := isA_of o; exact e2
theorem isR_lt (o : isR h a c = true) : a < aSz h := by obtain ⟨m, f, -, -, e3, -⟩ := isR_of o; exact e3
theorem isAR_A (o : isA h a = true) : isAR h a = true := by unfold isAR; rw [o]; rfl
theorem isAR_R {c : Nat} (o : isR h a c = true) (hc : c < 4) : isAR h a = true := by
  unfold isAR
  have : c = 0 ∨ c = 1 ∨ c = 2 ∨ c = 3 := by omega
  rcases this with rfl | rfl | rfl | rfl <;> rw [o] <;> simp
theorem isAR_2 (o : isR h a 2 = true) : isAR h a = true := isAR_R o (by decide)
/-- none of L is such a cell -/
abbrev nim (L : List Nat) : Prop := ∀ a ∈ L, ¬ imm a
theorem nim_not (hL : nim L) (i : imm a) : a ∉ L := fun q => hL a q i
theorem Fr.im (e : Fr L h h') (hL : nim L) (i : imm a) (ha : a < aSz h) : aCo h' a = aCo h a := e.2 a ha (nim_not hL i)
end FR
/-- the marks of the line at o are those of row b -/
def MkR (h : aH) (b : Nat) (A : Int → Int) (o : Int) : Prop := imm b ∧ isA h b = true ∧ (al h b : Int) = 3 * A (o + 2) ∧ ∀ j, 0 ≤ j → j < 3 * A (o + 2) → ai h b j = A (o + 3 + j)
/-- a is the line at o -/
def LnR (h : aH) (a : Nat) (A : Int → Int) (o : Int) : Prop := imm a ∧ isO h a 3 = true ∧ gf h a 0 = aI (A o) ∧ gf h a 1 = aI (A (o + 1)) ∧ ∃ b, gf h a 2 = aQ (some b) ∧ MkR h b A o
/-- r holds the n lines from o on -/
def RwR (h : aH) (r : Nat) (A : Int → Int) (o n : Int) : Prop := imm r ∧ isR h r 2 = true ∧ (al h r : Int) = n ∧ ∀ i, 0 ≤ i → i < n → ∃ a, ra h r i = some a ∧ LnR h a A (o + 27 * i)
/-- p is the page of the n lines from o on -/
def PgR (h : aH) (p : Nat) (A : Int → Int) (o n : Int) : Prop := imm p ∧ isO h p 4 = true ∧ ∃ r, gf h p 0 = aQ (some r) ∧ RwR h r A o n
/-- c is change k -/
def ChR (h : aH) (c : Nat) (V : Nat → Int → Int) (k : Int) : Prop := imm c ∧ isO h c 1 = true ∧ (gf h c 0 = aI k ∧ gf h c 1 = aI (V 45 k) ∧ gf h c 2 = aI (V 46 k) ∧ gf h c 3 = aI (V 47 k) ∧ gf h c 4 = aI (V 48 k) ∧ gf h c 5 = aI (V 49 k) ∧ gf h c 7 = aI (V 50 k)) ∧ ∃ p, gf h c 6 = aQ (some p) ∧ PgR h p (V 42) (540 * k) (V 43 k)
/-- a row of references holds nothing but objects of a class -/
def OkRw (h : aH) (r c : Nat) (n : Int) : Prop := ∀ k, 0 ≤ k → k < n → ra h r k = none ∨ ∃ a, ra h r k = some a ∧ imm a ∧ isO h a c = true
/-- the state object s holds the state V -/
def CRel (h : aH) (s : Nat) (V : Nat → Int → Int) : Prop :=
  (fi h s 0 = V 54 0 ∧ fi h s 2 = V 54 3 ∧ fi h s 3 = V 54 4 ∧ fi h s 4 = V 54 5 ∧ fi h s 5 = V 54 2 ∧ fi h s 8 = V 54 1) ∧
  (∀ j, 0 ≤ j → j < 8 → ai h (s + 1) j = V 52 j) ∧ (∀ j, 0 ≤ j → j < 20 → ai h (s + 2) j = V 53 j) ∧
  (∀ f, 0 ≤ f → f < 6 → ∃ p, ra h (s + 3) f = some p ∧ PgR h p (V 40) (540 * f) (V 41 f)) ∧
  (∀ k, 0 ≤ k → k < V 54 1 → ∃ c, ra h (s + 4) k = some c ∧ ChR h c V k) ∧ OkRw h (s + 4) 1 60
section RL
variable {L : List Nat} {h h' : aH} {a r p c s : Nat} {A B : Int → Int} {o o' n k : Int} {V U : Nat → Int → Int}
theorem MkR.fr (m : MkR h a A o) (e : Fr L h h') (hL : nim L) : MkR h' a A o := by
  obtain ⟨i, m1, m2, m3⟩ := m
  have q := e.im hL i (isA_lt m1)
  exact ⟨i, isA_co q e.1 m1, by rw [al_co q]; exact m2, by rw [ai_co q]; exact m3⟩
theorem LnR.fr (m : LnR h a A o) (e : Fr L h h') (hL : nim L) : LnR h' a A o := by
  obtain ⟨i, m1, m2, m3, b, m4, m5⟩ := m
  have q := e.im hL i (isO_lt m1)
  exact ⟨i, isO_co q e.1 m1, by rw [gf_co q]; exact m2, by rw [gf_co q]; exact m3, b, by rw [gf_co q]; exact m4, m5.fr e hL⟩
theorem RwR.fr (m : RwR h r A o n) (e : Fr L h h') (hL : nim L) : RwR h' r A o n := by
  obtain ⟨i, m1, m2, m3⟩ := m
  have q := e.im hL i (isR_lt m1)
  refine ⟨i, isR_co q e.1 m1, by rw [al_co q]; exact m2, fun j h1 h2 => ?_⟩
  obtain ⟨a, h3, h4⟩ := m3 j h1 h2
  exact ⟨a, by rw [ra_co q]; exact h3, h4.fr e hL⟩
theorem PgR.fr (m : PgR h p A o n) (e : Fr L h h') (hL : nim L) : PgR h' p A o n := by
  obtain ⟨i, m1, r, m2, m3⟩ := m
  have q := e.im hL i (isO_lt m1)
  exact ⟨i, isO_co q e.1 m1, r, by rw [gf_co q]; exact m2, m3.fr e hL⟩
theorem ChR.fr (m : ChR h c V k) (e : Fr L h h') (hL : nim L) : ChR h' c V k := by
  obtain ⟨i, m1, m2, p, m3, m4⟩ := m
  have q := e.im hL i (isO_lt m1)
  exact ⟨i, isO_co q e.1 m1, by simp only [gf_co q]; exact m2, p, by rw [gf_co q]; exact m3, m4.fr e hL⟩
theorem OkRw.fr {m : Nat} (x : OkRw h r m n) (e : Fr L h h') (hL : nim L) (hr : r < aSz h) (hr2 : r ∉ L) : OkRw h' r m n := by
  intro k h1 h2
  have q := e.2 r hr hr2
  rw [ra_co q]
  rcases x k h1 h2 with h3 | ⟨a, h3, h4, h5⟩
  · exact Or.inl h3
  · exact Or.inr ⟨a, h3, h4, isO_co (e.im hL h4 (isO_lt h5)) e.1 h5⟩
theorem CRel.fr (m : CRel h s V) (e : Fr L h h') (hL : nim L) (hs : s + 4 < aSz h) (h0 : s ∉ L) (h1 : s + 1 ∉ L) (h2 : s + 2 ∉ L) (h3 : s + 3 ∉ L) (h4 : s + 4 ∉ L) : CRel h' s V := by
  obtain ⟨m1, m2, m3, m4, m5, m6⟩ := m
  have q0 := e.2 s (by omega) h0
  have q1 := e.2 (s + 1) (by omega) h1
  have q2 := e.2 (s + 2) (by omega) h2
  have q3 := e.2 (s + 3) (by omega) h3
  have q4 := e.2 (s + 4) (by omega) h4
  refine ⟨by simp only [fi_co q0]; exact m1, by rw [ai_co q1]; exact m2, by rw [ai_co q2]; exact m3, fun f k1 k2 => ?_, fun k k1 k2 => ?_, m6.fr e hL hs h4⟩
  · obtain ⟨p, k3, k4⟩ := m4 f k1 k2
    exact ⟨p, by rw [ra_co q3]; exact k3, k4.fr e hL⟩
  · obtain ⟨c, k3, k4⟩ := m5 k k1 k2
    exact ⟨c, by rw [ra_co q4]; exact k3, k4.fr e hL⟩
theorem LnR.cp (m : LnR h a A o) (hn : A (o + 2) ≤ 8) (e : ∀ j, 0 ≤ j → j < 27 → B (o' + j) = A (o + j)) : LnR h a B o' := by
  obtain ⟨i, m1, m2, m3, b, m4, j1, j2, j3, j4⟩ := m
  have e0 : B o' = A o := by have := e 0 (by omega) (by omega); rwa [Int.add_zero, Int.add_zero] at this
  have e1 := e 1 (by omega) (by omega)
  have e2 := e 2 (by omega) (by omega)
  refine ⟨i, m1, by rw [e0]; exact m2, by rw [e1]; exact m3, b, m4, j1, j2, by rw [e2]; exact j3, fun j k1 k2 => ?_⟩
  rw [e2] at k2
  rw [j4 j k1 k2, Int.add_assoc, Int.add_assoc, e (3 + j) (by omega) (by omega)]
theorem RwR.cp (m : RwR h r A o n) (hn : n ≤ 20) (h8 : ∀ i, 0 ≤ i → i < n → A (o + 27 * i + 2) ≤ 8) (e : ∀ j, 0 ≤ j → j < 540 → B (o' + j) = A (o + j)) : RwR h r B o' n := by
  obtain ⟨i, m1, m2, m3⟩ := m
  refine ⟨i, m1, m2, fun j h1 h2 => ?_⟩
  obtain ⟨a, h3, h4⟩ := m3 j h1 h2
  refine ⟨a, h3, h4.cp (h8 j h1 h2) fun t k1 k2 => ?_⟩
  rw [Int.add_assoc, Int.add_assoc, e _ (by omega) (by omega)]
theorem PgR.cp (m : PgR h p A o n) (hn : n ≤ 20) (h8 : ∀ i, 0 ≤ i → i < n → A (o + 27 * i + 2) ≤ 8) (e : ∀ j, 0 ≤ j → j < 540 → B (o' + j) = A (o + j)) : PgR h p B o' n := by
  obtain ⟨i, m1, r, m2, m3⟩ := m
  exact ⟨i, m1, r, m2, m3.cp hn h8 e⟩
theorem BlkOK.cp (m : BlkOK A o) (e : ∀ j, 0 ≤ j → j < 27 → B (o' + j) = A (o + j)) : BlkOK B o' := by
  obtain ⟨⟨m1, m2⟩, m3⟩ := m
  have e2 := e 2 (by omega) (by omega)
  refine ⟨by rw [e2]; exact ⟨m1, m2⟩, fun k h1 h2 => ?_⟩
  rw [e2] at h2
  have a0 := e (3 + 3 * k) (by omega) (by omega)
  have a1 := e (3 + 3 * k + 1) (by omega) (by omega)
  have a2 := e (3 + 3 * k + 2) (by omega) (by omega)
  rw [show o' + 3 + 3 * k + 1 = o' + (3 + 3 * k + 1) by omega, show o' + 3 + 3 * k + 2 = o' + (3 + 3 * k + 2) by omega, show o' + 3 + 3 * k = o' + (3 + 3 * k) by omega, a0, a1, a2, show o + (3 + 3 * k) = o + 3 + 3 * k by omega, show o + (3 + 3 * k + 1) = o + 3 + 3 * k + 1 by omega, show o + (3 + 3 * k + 2) = o + 3 + 3 * k + 2 by omega]
  exact m3 k h1 h2
theorem LnOK.cp {c c' : Int} (m : LnOK A o c) (hc : c ≤ c') (e : ∀ j, 0 ≤ j → j < 27 → B (o' + j) = A (o + j)) : LnOK B o' c' := by
  obtain ⟨m1, m2, m3⟩ := m
  have e0 : B o' = A o := by have := e 0 (by omega) (by omega); rwa [Int.add_zero, Int.add_zero] at this
  have e1 := e 1 (by omega) (by omega)
  exact ⟨m1.cp e, by rw [e0]; exact m2, by rw [e1]; omega⟩
/-- how long the reference's rows are -/
def len (a : Nat) : Int := [3240, 6, 32400, 60, 540, 60, 60, 60, 60, 60, 60, 60, 8, 20, 6].getD (a - 40) 0
/-- the same within the rows -/
def AgR (V U : Nat → Int → Int) : Prop := ∀ a, 40 ≤ a → a ≤ 54 → a ≠ 44 → ∀ j, 0 ≤ j → j < len a → U a j = V a j
theorem CRel.ag (m : CRel h s V) (v : VOK V) (e : AgR V U) : CRel h s U := by
  obtain ⟨⟨m1, m2, m3, m4, m5, m6⟩, n2, n3, n4, n5, n6⟩ := m
  have g := fun a b c d => e a b c d
  have e54 : ∀ j, 0 ≤ j → j < 6 → U 54 j = V 54 j := fun j h1 h2 => e 54 (by decide) (by decide) (by decide) j h1 h2
  refine ⟨⟨by rw [e54 0 (by omega) (by omega)]; exact m1, by rw [e54 3 (by omega) (by omega)]; exact m2, by rw [e54 4 (by omega) (by omega)]; exact m3, by rw [e54 5 (by omega) (by omega)]; exact m4, by rw [e54 2 (by omega) (by omega)]; exact m5, by rw [e54 1 (by omega) (by omega)]; exact m6⟩, fun j h1 h2 => ?_, fun j h1 h2 => ?_, fun f h1 h2 => ?_, fun k h1 h2 => ?_, n6⟩
  · rw [e 52 (by decide) (by decide) (by decide) j h1 h2]; exact n2 j h1 h2
  · rw [e 53 (by decide) (by decide) (by decide) j h1 h2]; exact n3 j h1 h2
  · obtain ⟨p, h3, h4⟩ := n4 f h1 h2
    have vL := v.L h1 h2
    refine ⟨p, h3, ?_⟩
    rw [e 41 (by decide) (by decide) (by decide) f h1 h2]
    exact h4.cp vL.2 (fun i k1 k2 => (v.B h1 h2 k1 k2).1.1.2) fun j k1 k2 => e 40 (by decide) (by decide) (by decide) _ (by omega) (by show _ < (3240 : Int); omega)
  · rw [e54 1 (by omega) (by omega)] at h2
    obtain ⟨c, h3, i1, i2, i3, p, i4, i5⟩ := n5 k h1 h2
    have vC := v.C
    have vk := v.ch h1 h2
    have E : ∀ a, 40 ≤ a → a ≤ 54 → a ≠ 44 → len a = 60 → U a k = V a k := fun a h1 h2 h3 h4 => e a h1 h2 h3 k (by omega) (by omega)
    refine ⟨c, h3, i1, i2, ?_, p, i4, ?_⟩
    · rw [E 45 (by decide) (by decide) (by decide) rfl, E 46 (by decide) (by decide) (by decide) rfl, E 47 (by decide) (by decide) (by decide) rfl, E 48 (by decide) (by decide) (by decide) rfl, E 49 (by decide) (by decide) (by decide) rfl, E 50 (by decide) (by decide) (by decide) rfl]
      exact i3
    · rw [E 43 (by decide) (by decide) (by decide) rfl]
      exact i5.cp vk.2.1.2.2.2.2 (fun i k1 k2 => (vk.2.2 i k1 k2).1.1.2) fun j k1 k2 => e 42 (by decide) (by decide) (by decide) _ (by omega) (by show _ < (32400 : Int); omega)
theorem VOK.ag (v : VOK V) (e : AgR V U) : VOK U := by
  have e54 : ∀ j, 0 ≤ j → j < 6 → U 54 j = V 54 j := fun j h1 h2 => e 54 (by decide) (by decide) (by decide) j h1 h2
  obtain ⟨v1, v2, v3, v4, v5⟩ := v
  have a0 := e54 0 (by omega) (by omega)
  have a1 := e54 1 (by omega) (by omega)
  have a2 := e54 2 (by omega) (by omega)
  refine ⟨by rw [a0, a1, a2, e54 3 (by omega) (by omega), e54 4 (by omega) (by omega), e54 5 (by omega) (by omega)]; exact v1, fun f h1 h2 => ?_, fun p h1 h2 => ?_, fun i h1 h2 => ?_, fun k h1 h2 => ?_⟩
  · obtain ⟨w1, w2⟩ := v2 f h1 h2
    rw [e 41 (by decide) (by decide) (by decide) f h1 h2, a1]
    exact ⟨w1, fun i k1 k2 => (w2 i k1 k2).cp (Int.le_refl _) fun j k3 k4 => e 40 (by decide) (by decide) (by decide) _ (by omega) (by show _ < (3240 : Int); omega)⟩
  · rw [a0] at h2
    rw [e 52 (by decide) (by decide) (by decide) p h1 (by show _ < (8 : Int); omega)]; exact v3 p h1 h2
  · rw [a2] at h2
    rw [e 53 (by decide) (by decide) (by decide) i h1 (by show _ < (20 : Int); omega)]; exact v4 i h1 h2
  · rw [a1] at h2
    obtain ⟨w1, w2, w3⟩ := v5 k h1 h2
    have E : ∀ a, 40 ≤ a → a ≤ 54 → a ≠ 44 → len a = 60 → U a k = V a k := fun a h1 h2 h3 h4 => e a h1 h2 h3 k (by omega) (by omega)
    have E43 := E 43 (by decide) (by decide) (by decide) rfl
    refine ⟨?_, ?_, fun i k1 k2 => ?_⟩
    · rw [E 45 (by decide) (by decide) (by decide) rfl, E 46 (by decide) (by decide) (by decide) rfl, E 47 (by decide) (by decide) (by decide) rfl, E 48 (by decide) (by decide) (by decide) rfl]
      exact w1
    · rw [E 49 (by decide) (by decide) (by decide) rfl, E 50 (by decide) (by decide) (by decide) rfl, E 51 (by decide) (by decide) (by decide) rfl, E43]
      exact w2
    · rw [E43] at k2
      rw [a1]
      exact (w3 i k1 k2).cp (Int.le_refl _) fun j k3 k4 => e 42 (by decide) (by decide) (by decide) _ (by omega) (by show _ < (32400 : Int); omega)
end RL
