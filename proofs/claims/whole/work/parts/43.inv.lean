/-! what holds between two calls -/
def uV (V : Nat → Int → Int) (a : Nat) (f : Int → Int) : Nat → Int → Int := fun b => if b = a then f else V b
/-- the reference's rows -/
def rV (h : aH) : Nat → Int → Int := fun a => if 40 ≤ a ∧ a ≤ 65 then ai h a else fun _ => 0
/-- where the image keeps each row -/
def off (a : Nat) : Int := [0, 3240, 3246, 35646, 0, 35706, 35766, 35826, 35886, 35946, 36006, 36066, 36126, 36134, 36154].getD (a - 40) 0
/-- the state that the image keeps -/
def imV (F : Int → Int) : Nat → Int → Int := fun a j => F (off a + j)
abbrev LC : List Nat := [3, 4, 5, 6, 7, 8, 18, 19, 20, 21, 22, 23, 24, 25, 26, 27]
abbrev LR : List Nat := [39, 40, 41, 42, 43, 44, 45, 46, 47, 48, 49, 50, 51, 52, 53, 54, 56, 57, 58, 59, 60]
def ImI (h : aH) : Prop := (fi h 39 16 = 0 ∧ fi h 3 7 = 0) ∨ (fi h 39 16 = 1 ∧ fi h 3 7 = 1 ∧ VOK (imV (ai h 55)) ∧ CRel h 11 (imV (ai h 55)))
def StI (h : aH) : Prop := fi h 3 8 = fi h 39 17 ∧ (0 ≤ fi h 39 17 ∧ fi h 39 17 ≤ 10) ∧ fi h 3 9 = fi h 39 18
def AcI (h : aH) : Prop := fi h 28 1 = fi h 39 28 ∧ (0 ≤ fi h 39 28 ∧ fi h 39 28 ≤ 50) ∧ ∀ j, 0 ≤ j → j < fi h 39 28 → ai h 29 j = ai h 62 j
def OneI (h : aH) (a b : Nat) (t : Int) : Prop := fi h a 0 = ai h 63 t - 1 ∧ fi h a 1 = ai h 64 t ∧ (0 ≤ ai h 63 t ∧ ai h 63 t ≤ 3) ∧ (0 ≤ ai h 64 t ∧ ai h 64 t ≤ 40) ∧ ∀ j, 0 ≤ j → j < 40 → ai h b j = ai h 65 (40 * t + j)
def ShI (h : aH) : Prop := OneI h 31 32 0 ∧ OneI h 33 34 1 ∧ OneI h 35 36 2 ∧ OneI h 37 38 3
def PwI (h : aH) : Prop := ai h 61 0 = 1 ∧ ai h 61 1 = 4 ∧ ai h 61 2 = 16 ∧ ai h 61 3 = 64 ∧ ai h 61 4 = 256 ∧ ai h 61 5 = 1024
def Inv (h : aH) : Prop := (Sh h ∧ Rg h) ∧ VOK (rV h) ∧ CRel h 4 (rV h) ∧ ImI h ∧ StI h ∧ AcI h ∧ ShI h ∧ PwI h
/-- what a call of the class leaves -/
def COut (h h1 : aH) (V : Nat → Int → Int) (z : Int) : Prop := (Sh h1 ∧ Rg h1) ∧ Fr LC h h1 ∧ CRel h1 4 V ∧ (fi h1 3 7 = fi h 3 7 ∧ fi h1 3 8 = fi h 3 8 ∧ fi h1 3 9 = z) ∧ aSz h1 ≤ aSz h + 100 ∧ aSl h1 ≤ aSl h + 1000
/-- what a call of the reference leaves -/
def ROut (h h1 : aH) (V : Nat → Int → Int) (z : Int) : Prop := (Sh h1 ∧ Rg h1) ∧ Fr LR h h1 ∧ AgR V (rV h1) ∧ (fi h1 39 16 = fi h 39 16 ∧ fi h1 39 17 = fi h 39 17 ∧ fi h1 39 28 = fi h 39 28 ∧ fi h1 39 18 = z) ∧ aSz h1 = aSz h ∧ aSl h1 = aSl h
section INV
variable {L : List Nat} {h h1 h2 : aH} {V U : Nat → Int → Int} {z : Int} {a b : Nat}
theorem rV_of {a : Nat} (h1 : 40 ≤ a) (h2 : a ≤ 65) : rV h a = ai h a := if_pos ⟨h1, h2⟩
theorem rV_fr (e : Fr LC h h1) (w : Sh h) : rV h1 = rV h := by
  have hw := Sh_lt w
  funext a
  unfold rV
  by_cases c : 40 ≤ a ∧ a ≤ 65
  · rw [if_pos c, if_pos c]
    refine ai_co (e.2 a (by omega) ?_)
    simp only [LC, List.mem_cons, List.not_mem_nil, or_false, not_or]
    omega
  · rw [if_neg c, if_neg c]
theorem VOK_r : VOK (rV h) ↔ VOK (ai h) := Iff.rfl
theorem AgR.refl : AgR V V := fun _ _ _ _ _ _ _ => rfl
theorem AgR.of (e : U = V) : AgR V U := by subst e; exact AgR.refl
theorem rV_sa (w : isA h a = true) (h1 : 40 ≤ a) (h2 : a ≤ 65) {f : Int → Int} : rV (sa h a f) = uV (rV h) a f := by
  funext b
  unfold rV uV
  by_cases e : b = a
  · subst e
    rw [if_pos ⟨h1, h2⟩, if_pos rfl, ai_se w]
  · rw [if_neg e]
    show (if 40 ≤ b ∧ b ≤ 65 then ai (sa h a f) b else fun _ => 0) = if 40 ≤ b ∧ b ≤ 65 then ai h b else fun _ => 0
    rw [ai_sn e]
theorem rV_sn (h1 : a < 40 ∨ 65 < a) {f : Int → Int} : rV (sa h a f) = rV h := by
  funext b
  unfold rV
  by_cases c : 40 ≤ b ∧ b ≤ 65
  · rw [if_pos c, if_pos c, ai_sn (by omega)]
  · rw [if_neg c, if_neg c]
theorem rV_pf {k : Nat} {v : aV} : rV (pf h a k v) = rV h := by
  funext b
  unfold rV
  rw [ai_pf]
theorem rV_sr {p : Int → Option Nat} : rV (sr h a p) = rV h := by
  funext b
  unfold rV
  rw [ai_sr]
theorem uV_e {f : Int → Int} : uV V a f a = f := if_pos rfl
theorem uV_n {f : Int → Int} (e : b ≠ a) : uV V a f b = V b := if_neg e
theorem inr0 : inr 0 := ⟨by decide, by decide⟩
theorem nim_LC : nim LC := by decide
theorem nim_LR : nim LR := by decide
theorem Rg_sa (g : Rg h) {f : Int → Int} (hf : ∀ j, inr (f j)) : Rg (sa h a f) := by
  refine ⟨fun b j => ?_, fun b k => ?_⟩
  · by_cases e : b = a
    · subst e
      unfold ai
      rw [aCo_sa, if_pos rfl]
      rcases aCo h b with o | o | o
      · exact inr0
      · exact hf j
      · exact inr0
    · rw [ai_sn e]; exact g.1 b j
  · rw [fi_sa]; exact g.2 b k
theorem Rg_upf (g : Rg h) {i x : Int} (hx : inr x) : Rg (sa h a (upf (ai h a) i x)) := Rg_sa g fun j => by
  unfold upf
  split
  · exact hx
  · exact g.1 a j
theorem Rg_pf (g : Rg h) {k : Nat} {x : Int} (hx : inr x) : Rg (pf h a k (aI x)) := by
  refine ⟨fun b j => by rw [ai_pf]; exact g.1 b j, fun b j => ?_⟩
  by_cases e : b ≠ a ∨ j ≠ k
  · rw [fi_pn e]; exact g.2 b j
  · have e1 : b = a := by omega
    have e2 : j = k := by omega
    subst e1; subst e2
    have g2 := g.2 b j
    revert g2
    unfold fi gf
    rw [aCo_pf, if_pos rfl]
    rcases aCo h b with o | o | o
    · intro g2
      dsimp only at g2 ⊢
      by_cases c : j < o.2.length
      · simp only [List.getD_eq_getElem?_getD, List.getElem?_set_self c, Option.getD_some]
        exact hx
      · simp only [List.getD_eq_getElem?_getD, List.getElem?_eq_none (Nat.le_of_not_lt (by simpa using c) : (o.2.set j (aI x)).length ≤ j)]
        exact inr0
    · intro _; exact inr0
    · intro _; exact inr0
theorem Rg_pfQ (g : Rg h) {k : Nat} {r : Option Nat} : Rg (pf h a k (aQ r)) := by
  refine ⟨fun b j => by rw [ai_pf]; exact g.1 b j, fun b j => ?_⟩
  by_cases e : b ≠ a ∨ j ≠ k
  · rw [fi_pn e]; exact g.2 b j
  · have e1 : b = a := by omega
    have e2 : j = k := by omega
    subst e1; subst e2
    unfold fi gf
    rw [aCo_pf, if_pos rfl]
    rcases aCo h b with o | o | o
    · dsimp only
      by_cases c : j < o.2.length
      · simp only [List.getD_eq_getElem?_getD, List.getElem?_set_self c, Option.getD_some]
        exact inr0
      · simp only [List.getD_eq_getElem?_getD, List.getElem?_eq_none (Nat.le_of_not_lt (by simpa using c) : (o.2.set j (aQ r)).length ≤ j)]
        exact inr0
    · exact inr0
    · exact inr0
theorem Rg_sr (g : Rg h) {p : Int → Option Nat} : Rg (sr h a p) := ⟨fun b j => by rw [ai_sr]; exact g.1 b j, fun b k => by rw [fi_sr]; exact g.2 b k⟩
theorem ImI.fr (i : ImI h) (e : Fr L h h2) (w : Sh h) (hL : nim L) (h1 : 11 ∉ L ∧ 12 ∉ L ∧ 13 ∉ L ∧ 14 ∉ L ∧ 15 ∉ L ∧ 55 ∉ L) (f1 : fi h2 39 16 = fi h 39 16) (f2 : fi h2 3 7 = fi h 3 7) : ImI h2 := by
  have hw := Sh_lt w
  unfold ImI
  rw [f1, f2, ai_co (e.2 55 (by omega) h1.2.2.2.2.2)]
  rcases i with i | ⟨i1, i2, i3, i4⟩
  · exact Or.inl i
  · exact Or.inr ⟨i1, i2, i3, i4.fr e hL (by omega) h1.1 h1.2.1 h1.2.2.1 h1.2.2.2.1 h1.2.2.2.2.1⟩
theorem AcI.fr (i : AcI h) (e : Fr L h h2) (w : Sh h) (h1 : 28 ∉ L ∧ 29 ∉ L ∧ 62 ∉ L) (f1 : fi h2 39 28 = fi h 39 28) : AcI h2 := by
  have hw := Sh_lt w
  unfold AcI
  rw [f1, fi_co (e.2 28 (by omega) h1.1), ai_co (e.2 29 (by omega) h1.2.1), ai_co (e.2 62 (by omega) h1.2.2)]
  exact i
theorem OneI.fr {t : Int} (i : OneI h a b t) (e : Fr L h h2) (w : Sh h) (ha : a < 66) (hb : b < 66) (h1 : a ∉ L ∧ b ∉ L ∧ 63 ∉ L ∧ 64 ∉ L ∧ 65 ∉ L) : OneI h2 a b t := by
  have hw := Sh_lt w
  unfold OneI
  rw [fi_co (e.2 a (by omega) h1.1), fi_co (e.2 a (by omega) h1.1), ai_co (e.2 b (by omega) h1.2.1), ai_co (e.2 63 (by omega) h1.2.2.1), ai_co (e.2 64 (by omega) h1.2.2.2.1), ai_co (e.2 65 (by omega) h1.2.2.2.2)]
  exact i
theorem ShI.fr (i : ShI h) (e : Fr L h h2) (w : Sh h) (h1 : ∀ a ∈ [31, 32, 33, 34, 35, 36, 37, 38, 63, 64, 65], a ∉ L) : ShI h2 := by
  obtain ⟨i0, i1, i2, i3⟩ := i
  have n63 := h1 63 (by decide)
  have n64 := h1 64 (by decide)
  have n65 := h1 65 (by decide)
  exact ⟨i0.fr e w (by decide) (by decide) ⟨h1 31 (by decide), h1 32 (by decide), n63, n64, n65⟩, i1.fr e w (by decide) (by decide) ⟨h1 33 (by decide), h1 34 (by decide), n63, n64, n65⟩, i2.fr e w (by decide) (by decide) ⟨h1 35 (by decide), h1 36 (by decide), n63, n64, n65⟩, i3.fr e w (by decide) (by decide) ⟨h1 37 (by decide), h1 38 (by decide), n63, n64, n65⟩⟩
theorem PwI.fr (i : PwI h) (e : Fr L h h2) (w : Sh h) (h1 : 61 ∉ L) : PwI h2 := by
  have hw := Sh_lt w
  unfold PwI
  rw [ai_co (e.2 61 (by omega) h1)]
  exact i
/-- a call of both that leaves them the same state -/
theorem Inv.mu (i : Inv h) (v : VOK V) (c : COut h h1 V z) (r : ROut h1 h2 V z) : Inv h2 ∧ aSz h2 ≤ aSz h + 100 ∧ aSl h2 ≤ aSl h + 1000 := by
  obtain ⟨⟨w, g⟩, i1, i2, i3, i4, i5, i6, i7⟩ := i
  obtain ⟨⟨c1, c2⟩, c3, c4, ⟨c5, c6, c7⟩, c8, c9⟩ := c
  obtain ⟨⟨r1, r2⟩, r3, r4, ⟨r5, r6, r7, r8⟩, r9, r10⟩ := r
  have hw := Sh_lt w
  have e3 : ∀ k, fi h2 3 k = fi h1 3 k := fun k => fi_co (r3.2 3 (by have := Sh_lt c1; omega) (by decide))
  have e39 : ∀ k, fi h1 39 k = fi h 39 k := fun k => fi_co (c3.2 39 (by omega) (by decide))
  rw [e39] at r5 r6 r7
  have E : Fr (LC ++ LR) h h2 := (c3.mono (by decide)).trans (r3.mono (by decide))
  refine ⟨⟨⟨r1, r2⟩, v.ag r4, (c4.fr r3 nim_LR (by have := Sh_lt c1; omega) (by decide) (by decide) (by decide) (by decide) (by decide)).ag v r4, ?_, ?_, ?_, ?_, ?_⟩, by omega, by omega⟩
  · exact i3.fr E w (by decide) (by decide) r5 (by rw [e3, c5])
  · unfold StI
    rw [e3, e3, c6, c7, r6, r8]
    exact ⟨i4.1, i4.2.1, rfl⟩
  · exact i5.fr E w (by decide) r7
  · exact i6.fr E w (by decide)
  · exact i7.fr E w (by decide)
end INV
