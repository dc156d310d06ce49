/-! new cells; marks; a line that is read -/
section NEW
variable {d : Nat} {h h1 h2 : aH} {a b r c n : Nat} {A B F : Int → Int} {o o' p y z : Int} {f : Int → Int} {P : Int → Option Nat}
theorem fi_newE {ce : aC} {k : Nat} : fi (aNew h ce n) b k = if b = aSz h then (match (match ce with | .inl o => o.2.getD k aU | _ => aU) with | .inl x => x | _ => 0) else fi h b k := by
  by_cases e : b = aSz h
  · subst e
    rw [if_pos rfl]
    unfold fi gf
    rw [aCo_new, if_pos rfl]
    rcases ce with o | o | o <;> rfl
  · rw [if_neg e]
    unfold fi gf
    rw [aCo_new, if_neg e]
theorem ai_newE {ce : aC} : ai (aNew h ce n) b = if b = aSz h then (match ce with | .inr (.inl q) => q.2 | _ => fun _ => 0) else ai h b := by
  by_cases e : b = aSz h
  · subst e
    rw [if_pos rfl]
    unfold ai
    rw [aCo_new, if_pos rfl]
    rcases ce with o | o | o <;> rfl
  · rw [if_neg e]
    unfold ai
    rw [aCo_new, if_neg e]
theorem Rg_newA (g : Rg h) {m : Nat} : Rg (aNew h (.inr (.inl (m, fun _ => 0))) n) := by
  refine ⟨fun b j => ?_, fun b k => ?_⟩
  · rw [ai_newE]
    split
    · exact inr0
    · exact g.1 b j
  · rw [fi_newE]
    split
    · exact inr0
    · exact g.2 b k
theorem Rg_newR (g : Rg h) {m : Nat} : Rg (aNew h (.inr (.inr (c, m, P))) n) := by
  refine ⟨fun b j => ?_, fun b k => ?_⟩
  · rw [ai_newE]
    split
    · exact inr0
    · exact g.1 b j
  · rw [fi_newE]
    split
    · exact inr0
    · exact g.2 b k
theorem Rg_newO (g : Rg h) {ci : Nat} : Rg (aNew h (.inl (ci, aDf ci)) n) := by
  refine ⟨fun b j => ?_, fun b k => ?_⟩
  · rw [ai_newE]
    split
    · exact inr0
    · exact g.1 b j
  · rw [fi_newE]
    split
    · dsimp only
      unfold aDf
      rw [List.getD_eq_getElem?_getD, List.getElem?_map]
      by_cases e : k < aNf ci
      · rw [List.getElem?_range e]
        simp only [Option.map_some, Option.getD_some]
        by_cases c : aTy ci k = 2
        · rw [if_pos c]; exact inr0
        · rw [if_neg c]; exact inr0
      · rw [List.getElem?_eq_none (by simpa using e)]
        exact inr0
    · exact g.2 b k
theorem isO_newO (w : Sh h) {ci : Nat} (hc : ci < 11) : isO (aNew h (.inl (ci, aDf ci)) n) (aSz h) ci = true := isO_new1 (by have := Sh_lt w; omega) (by unfold aDf; rw [List.length_map, List.length_range])
/-- a new line -/
def nLn (h : aH) (x y : Int) (r : Option Nat) : aH := pf (pf (pf (aNew h (.inl (3, aDf 3)) (aNf 3)) (aSz h) 0 (aI x)) (aSz h) 1 (aI y)) (aSz h) 2 (aQ r)
section NLN
variable {x : Int} {q : Option Nat}
theorem nLn_w (w : Sh h) : Sh (nLn h x y q) := by
  have := Sh_lt w
  exact Sh_pfD (Sh_pfD (Sh_pfD (Sh_new w) this) this) this
theorem nLn_g (g : Rg h) (hx : inr x) (hy : inr y) : Rg (nLn h x y q) := Rg_pfQ (Rg_pf (Rg_pf (Rg_newO g) hx) hy)
theorem nLn_F : Fr [] h (nLn h x y q) := (((Fr.refl.new).pf (Or.inl (Nat.le_refl _))).pf (Or.inl (Nat.le_refl _))).pf (Or.inl (Nat.le_refl _))
theorem nLn_o (w : Sh h) : isO (nLn h x y q) (aSz h) 3 = true := by
  unfold nLn
  rw [isO_pf, isO_pf, isO_pf]
  exact isO_newO w (by decide)
theorem nLn_0 (w : Sh h) : gf (nLn h x y q) (aSz h) 0 = aI x := by
  unfold nLn
  rw [gf_pn (by omega), gf_pn (by omega)]
  exact gf_pe (isO_newO w (by decide)) (by decide)
theorem nLn_1 (w : Sh h) : gf (nLn h x y q) (aSz h) 1 = aI y := by
  unfold nLn
  rw [gf_pn (by omega)]
  exact gf_pe (by rw [isO_pf]; exact isO_newO w (by decide)) (by decide)
theorem nLn_2 (w : Sh h) : gf (nLn h x y q) (aSz h) 2 = aQ q := by
  unfold nLn
  exact gf_pe (by rw [isO_pf, isO_pf]; exact isO_newO w (by decide)) (by decide)
theorem nLn_z : aSz (nLn h x y q) = aSz h + 1 ∧ aSl (nLn h x y q) = aSl h + 3 := ⟨rfl, rfl⟩
theorem m_nLn (w : Sh h) : ev (d + 1) M_Li_init [aQ (some (aSz h)), aI x, aI y, aQ q] (aNew h (.inl (3, aDf 3)) (aNf 3)) = some (none, nLn h x y q) := by
  have e := isO_newO (n := aNf 3) w (ci := 3) (by decide)
  unfold nLn
  generalize aNew h (.inl (3, aDf 3)) (aNf 3) = h0 at *
  rw [n_Li_init]
  simp (disch := first | assumption | omega | exact aNl_I | exact aNl_Q | exact bl0 | exact bl1 | exact bl2 | exact bl3 | exact bl4 | exact aNl_U) only [u_Li_init_0, u_Li_init_1, u_Li_init_4, u_Li_init_5, u_Li_init_6, u_Li_init_9, u_Li_init_10, u_Li_init_11, u_Li_init_14, u_Li_init_15, u_Li_init_16, u_Li_init_19, aSz_pf, aSz_sa, aSz_sr, isO_pf, isO_sa, isO_sr, isA_pf, isA_sa, isA_sr, isR_pf, isR_sa, isR_sr, al_pf, al_sa, al_sr, gf_sa, gf_sr, ai_pf, ai_sr, ra_pf, ra_sa, gf_pn, ai_sn, ra_sn, sa_sa, pf_pf, fi_sa, fi_sr, fi_pn, gO_pf, gO_sa, gO_sr, gA_pf, gA_sa, gA_sr, gR_pf, gR_sa, gR_sr, isAR_pf, isAR_sa, isAR_sr, okQ_pf, okQ_sa, okQ_sr, okC_pf, okC_sa, okC_sr, okQ_n, gB_t, wr_id, wr_ai, wr_fi, wr_wand, wr_wor, wr_wxor, wr_wshl, wr_wshr, wr_lt, wr_gt, Int.reduceEq, Int.reduceLT, Int.reduceLE, Int.reduceNeg, b01, b10, and_self, true_and, and_true, false_and, and_false, or_false, false_or, or_true, true_or, ite_not, not_true_eq_false, not_false_eq_true, kk_v, kk_0, reduceCtorEq, if_true, if_false, ite_true, ite_false, swt, Option.some.injEq, gO_ok, gA_ok, gR_ok, isAR_A, isAR_2, e]
end NLN
/-- a new page -/
def nPg (h : aH) (r : Option Nat) : aH := pf (aNew h (.inl (4, aDf 4)) (aNf 4)) (aSz h) 0 (aQ r)
section NPG
variable {q : Option Nat}
theorem nPg_w (w : Sh h) : Sh (nPg h q) := Sh_pfD (Sh_new w) (Sh_lt w)
theorem nPg_g (g : Rg h) : Rg (nPg h q) := Rg_pfQ (Rg_newO g)
theorem nPg_F : Fr [] h (nPg h q) := (Fr.refl.new).pf (Or.inl (Nat.le_refl _))
theorem nPg_o (w : Sh h) : isO (nPg h q) (aSz h) 4 = true := by
  unfold nPg
  rw [isO_pf]
  exact isO_newO w (by decide)
theorem nPg_0 (w : Sh h) : gf (nPg h q) (aSz h) 0 = aQ q := by
  unfold nPg
  exact gf_pe (isO_newO w (by decide)) (by decide)
theorem nPg_z : aSz (nPg h q) = aSz h + 1 ∧ aSl (nPg h q) = aSl h + 1 := ⟨rfl, rfl⟩
theorem m_nPg (w : Sh h) : ev (d + 1) M_Pg_init [aQ (some (aSz h)), aQ q] (aNew h (.inl (4, aDf 4)) (aNf 4)) = some (none, nPg h q) := by
  have e := isO_newO (n := aNf 4) w (ci := 4) (by decide)
  unfold nPg
  generalize aNew h (.inl (4, aDf 4)) (aNf 4) = h0 at *
  rw [n_Pg_init]
  simp (disch := first | assumption | omega | exact aNl_I | exact aNl_Q | exact bl0 | exact bl1 | exact bl2 | exact bl3 | exact bl4 | exact aNl_U) only [u_Pg_init_0, u_Pg_init_1, u_Pg_init_4, u_Pg_init_5, u_Pg_init_6, u_Pg_init_9, aSz_pf, aSz_sa, aSz_sr, isO_pf, isO_sa, isO_sr, isA_pf, isA_sa, isA_sr, isR_pf, isR_sa, isR_sr, al_pf, al_sa, al_sr, gf_sa, gf_sr, ai_pf, ai_sr, ra_pf, ra_sa, gf_pn, ai_sn, ra_sn, sa_sa, pf_pf, fi_sa, fi_sr, fi_pn, gO_pf, gO_sa, gO_sr, gA_pf, gA_sa, gA_sr, gR_pf, gR_sa, gR_sr, isAR_pf, isAR_sa, isAR_sr, okQ_pf, okQ_sa, okQ_sr, okC_pf, okC_sa, okC_sr, okQ_n, gB_t, wr_id, wr_ai, wr_fi, wr_wand, wr_wor, wr_wxor, wr_wshl, wr_wshr, wr_lt, wr_gt, Int.reduceEq, Int.reduceLT, Int.reduceLE, Int.reduceNeg, b01, b10, and_self, true_and, and_true, false_and, and_false, or_false, false_or, or_true, true_or, ite_not, not_true_eq_false, not_false_eq_true, kk_v, kk_0, reduceCtorEq, if_true, if_false, ite_true, ite_false, swt, Option.some.injEq, gO_ok, gA_ok, gR_ok, isAR_A, isAR_2, e]
end NPG
/-- the row with one more mark at the line at o -/
def mrk (A : Int → Int) (o p y z : Int) : Int → Int := fun j =>
  if A (o + 2) = 8 then (if j = o + 2 then 8 else if j = o + 24 then p else if j = o + 25 then y else if j = o + 26 then z else if o + 3 ≤ j ∧ j < o + 24 then A (j + 3) else A j)
  else (if j = o + 2 then A (o + 2) + 1 else if j = o + 3 + 3 * A (o + 2) then p else if j = o + 3 + 3 * A (o + 2) + 1 then y else if j = o + 3 + 3 * A (o + 2) + 2 then z else A j)
theorem mrk_out (hB : 0 ≤ A (o + 2) ∧ A (o + 2) ≤ 8) {j : Int} (hj : j < o + 2 ∨ o + 27 ≤ j) : mrk A o p y z j = A j := by
  unfold mrk
  split
  · rw [if_neg (by omega), if_neg (by omega), if_neg (by omega), if_neg (by omega), if_neg (by omega)]
  · rw [if_neg (by omega), if_neg (by omega), if_neg (by omega), if_neg (by omega)]
theorem mrk_cp (e : ∀ j, 0 ≤ j → j < 27 → B (o' + j) = A (o + j)) {j : Int} (h1 : 0 ≤ j) (h2 : j < 27) : mrk B o' p y z (o' + j) = mrk A o p y z (o + j) := by
  have e2 := e 2 (by omega) (by omega)
  have ej := e j h1 h2
  unfold mrk
  rw [e2]
  by_cases c : A (o + 2) = 8
  · rw [if_pos c, if_pos c]
    by_cases c1 : j = 2
    · rw [if_pos (by omega), if_pos (by omega)]
    · by_cases c2 : j = 24
      · rw [if_neg (by omega), if_pos (by omega), if_neg (by omega), if_pos (by omega)]
      · by_cases c3 : j = 25
        · rw [if_neg (by omega), if_neg (by omega), if_pos (by omega), if_neg (by omega), if_neg (by omega), if_pos (by omega)]
        · by_cases c4 : j = 26
          · rw [if_neg (by omega), if_neg (by omega), if_neg (by omega), if_pos (by omega), if_neg (by omega), if_neg (by omega), if_neg (by omega), if_pos (by omega)]
          · rw [if_neg (by omega), if_neg (by omega), if_neg (by omega), if_neg (by omega), if_neg (c := o + j = o + 2) (by omega), if_neg (c := o + j = o + 24) (by omega), if_neg (c := o + j = o + 25) (by omega), if_neg (c := o + j = o + 26) (by omega)]
            by_cases c5 : 3 ≤ j ∧ j < 24
            · rw [if_pos (by omega), if_pos (by omega), Int.add_assoc, Int.add_assoc, e (j + 3) (by omega) (by omega)]
            · rw [if_neg (by omega), if_neg (by omega), ej]
  · rw [if_neg c, if_neg c]
    by_cases c1 : j = 2
    · rw [if_pos (by omega), if_pos (by omega)]
    · by_cases c2 : j = 3 + 3 * A (o + 2)
      · rw [if_neg (by omega), if_pos (by omega), if_neg (by omega), if_pos (by omega)]
      · by_cases c3 : j = 3 + 3 * A (o + 2) + 1
        · rw [if_neg (by omega), if_neg (by omega), if_pos (by omega), if_neg (by omega), if_neg (by omega), if_pos (by omega)]
        · by_cases c4 : j = 3 + 3 * A (o + 2) + 2
          · rw [if_neg (by omega), if_neg (by omega), if_neg (by omega), if_pos (by omega), if_neg (by omega), if_neg (by omega), if_neg (by omega), if_pos (by omega)]
          · rw [if_neg (by omega), if_neg (by omega), if_neg (by omega), if_neg (by omega), if_neg (c := o + j = o + 2) (by omega), if_neg (c := o + j = o + 3 + 3 * A (o + 2)) (by omega), if_neg (c := o + j = o + 3 + 3 * A (o + 2) + 1) (by omega), if_neg (c := o + j = o + 3 + 3 * A (o + 2) + 2) (by omega), ej]
theorem mrk_ok (hB : BlkOK A o) (hp : 0 ≤ p ∧ p < 8) (hy : 0 ≤ y ∧ y ≤ 100000) (hz : 0 ≤ z ∧ z ≤ 8) : BlkOK (mrk A o p y z) o := by
  obtain ⟨⟨b1, b2⟩, b3⟩ := hB
  by_cases c : A (o + 2) = 8
  · have e : ∀ j, mrk A o p y z j = if j = o + 2 then 8 else if j = o + 24 then p else if j = o + 25 then y else if j = o + 26 then z else if o + 3 ≤ j ∧ j < o + 24 then A (j + 3) else A j := fun j => if_pos c
    have e2 : mrk A o p y z (o + 2) = 8 := by rw [e, if_pos rfl]
    refine ⟨by omega, fun k h1 h2 => ?_⟩
    rw [e2] at h2
    by_cases c1 : k = 7
    · subst c1
      rw [e, if_neg (by omega), if_pos (by omega), e, if_neg (by omega), if_neg (by omega), if_pos (by omega), e, if_neg (by omega), if_neg (by omega), if_neg (by omega), if_pos (by omega)]
      exact ⟨hp, hy, hz⟩
    · have h3 := b3 (k + 1) (by omega) (by omega)
      rw [show o + 3 + 3 * (k + 1) + 1 = o + 3 + 3 * k + 1 + 3 by omega, show o + 3 + 3 * (k + 1) + 2 = o + 3 + 3 * k + 2 + 3 by omega, show o + 3 + 3 * (k + 1) = o + 3 + 3 * k + 3 by omega] at h3
      rw [e (o + 3 + 3 * k), if_neg (by omega), if_neg (by omega), if_neg (by omega), if_neg (by omega), if_pos (by omega), e (o + 3 + 3 * k + 1), if_neg (by omega), if_neg (by omega), if_neg (by omega), if_neg (by omega), if_pos (by omega), e (o + 3 + 3 * k + 2), if_neg (by omega), if_neg (by omega), if_neg (by omega), if_neg (by omega), if_pos (by omega)]
      exact h3
  · have e : ∀ j, mrk A o p y z j = if j = o + 2 then A (o + 2) + 1 else if j = o + 3 + 3 * A (o + 2) then p else if j = o + 3 + 3 * A (o + 2) + 1 then y else if j = o + 3 + 3 * A (o + 2) + 2 then z else A j := fun j => if_neg c
    have e2 : mrk A o p y z (o + 2) = A (o + 2) + 1 := by rw [e, if_pos rfl]
    refine ⟨by omega, fun k h1 h2 => ?_⟩
    rw [e2] at h2
    by_cases c1 : k = A (o + 2)
    · subst c1
      rw [e, if_neg (by omega), if_pos (by omega), e, if_neg (by omega), if_neg (by omega), if_pos (by omega), e, if_neg (by omega), if_neg (by omega), if_neg (by omega), if_pos (by omega)]
      exact ⟨hp, hy, hz⟩
    · have h3 := b3 k (by omega) (by omega)
      rw [e (o + 3 + 3 * k), if_neg (by omega), if_neg (by omega), if_neg (by omega), if_neg (by omega), e (o + 3 + 3 * k + 1), if_neg (by omega), if_neg (by omega), if_neg (by omega), if_neg (by omega), e (o + 3 + 3 * k + 2), if_neg (by omega), if_neg (by omega), if_neg (by omega), if_neg (by omega)]
      exact h3
theorem mrk_in (hA : ∀ j, inr (A j)) (hB : 0 ≤ A (o + 2) ∧ A (o + 2) ≤ 8) (hp : inr p) (hy : inr y) (hz : inr z) : ∀ j, inr (mrk A o p y z j) := fun j => by
  unfold mrk
  repeat' split
  all_goals first | exact hp | exact hy | exact hz | exact hA _ | exact ⟨by omega, by omega⟩
/-- the reference's row while the first mark goes -/
def shF (A : Int → Int) (o k : Int) : Int → Int := fun j => if o + 3 ≤ j ∧ j < k then A (j + 3) else A j
theorem shF_0 : shF A o (o + 3) = A := by
  funext j
  unfold shF
  rw [if_neg (by omega)]
theorem shF_s {k : Int} (hk : o + 3 ≤ k) : upf (shF A o k) k (A (k + 3)) = shF A o (k + 1) := by
  funext j
  unfold upf shF
  by_cases c : j = k
  · rw [if_pos c, if_pos (by omega), c]
  · rw [if_neg c]
    by_cases c2 : o + 3 ≤ j ∧ j < k
    · rw [if_pos c2, if_pos (by omega)]
    · rw [if_neg c2, if_neg (by omega)]
theorem shF_n {k j : Int} (hj : j < o + 3 ∨ k ≤ j) : shF A o k j = A j := if_neg (by omega)
theorem l_R_marks (hA : isA h a = true) (h3 : 3 ≤ a) (ho : 0 ≤ o ∧ o + 27 ≤ al h a) (hl : (al h a : Int) ≤ 100000) (hf : ai h a = A) : ∀ (m : Nat) (k : Int), o + 3 ≤ k → k ≤ o + 24 → (o + 24 - k).toNat = m →
    ex (ev d) k_R_marks 15 [aQ (some 39), aQ (some a), aI o, aI p, aI y, aI z, aI k] [] (sa h a (shF A o k)) = ex (ev d) k_R_marks 40 [aQ (some 39), aQ (some a), aI o, aI p, aI y, aI z, aI (o + 24)] [] (sa h a (shF A o (o + 24))) := by
  have hE : ∀ f, ai (sa h a f) a = f := fun f => ai_se hA
  intro m
  induction m with
  | zero =>
    intro k h1 h2 hm
    have e : k = o + 24 := by omega
    subst e
    rw [u_R_marks_15]
    simp (disch := first | assumption | omega | exact aNl_I | exact aNl_Q | exact bl0 | exact bl1 | exact bl2 | exact bl3 | exact bl4 | exact aNl_U) only [u_R_marks_0, u_R_marks_1, u_R_marks_2, u_R_marks_3, u_R_marks_4, u_R_marks_5, u_R_marks_7, u_R_marks_10, u_R_marks_11, u_R_marks_12, u_R_marks_13, u_R_marks_17, u_R_marks_18, u_R_marks_20, u_R_marks_21, u_R_marks_24, u_R_marks_25, u_R_marks_27, u_R_marks_28, u_R_marks_30, u_R_marks_31, u_R_marks_32, u_R_marks_33, u_R_marks_34, u_R_marks_37, u_R_marks_41, u_R_marks_42, u_R_marks_43, u_R_marks_44, u_R_marks_45, u_R_marks_46, u_R_marks_47, u_R_marks_48, u_R_marks_49, u_R_marks_50, u_R_marks_51, u_R_marks_52, u_R_marks_53, u_R_marks_54, u_R_marks_55, u_R_marks_56, u_R_marks_57, u_R_marks_58, u_R_marks_59, u_R_marks_60, u_R_marks_62, u_R_marks_63, u_R_marks_65, u_R_marks_66, u_R_marks_67, u_R_marks_68, u_R_marks_70, u_R_marks_71, u_R_marks_72, u_R_marks_74, u_R_marks_75, u_R_marks_76, u_R_marks_78, u_R_marks_79, u_R_marks_80, u_R_marks_82, u_R_marks_83, u_R_marks_84, u_R_marks_85, u_R_marks_86, u_R_marks_87, u_R_marks_88, u_R_marks_89, u_R_marks_90, u_R_marks_91, u_R_marks_92, aSz_pf, aSz_sa, aSz_sr, isO_pf, isO_sa, isO_sr, isA_pf, isA_sa, isA_sr, isR_pf, isR_sa, isR_sr, al_pf, al_sa, al_sr, gf_sa, gf_sr, ai_pf, ai_sr, ra_pf, ra_sa, gf_pn, ai_sn, ra_sn, sa_sa, pf_pf, fi_sa, fi_sr, fi_pn, gO_pf, gO_sa, gO_sr, gA_pf, gA_sa, gA_sr, gR_pf, gR_sa, gR_sr, isAR_pf, isAR_sa, isAR_sr, okQ_pf, okQ_sa, okQ_sr, okC_pf, okC_sa, okC_sr, okQ_n, gB_t, wr_id, wr_ai, wr_fi, wr_wand, wr_wor, wr_wxor, wr_wshl, wr_wshr, wr_lt, wr_gt, Int.reduceEq, Int.reduceLT, Int.reduceLE, Int.reduceNeg, b01, b10, and_self, true_and, and_true, false_and, and_false, or_false, false_or, or_true, true_or, ite_not, not_true_eq_false, not_false_eq_true, kk_v, kk_0, reduceCtorEq, if_true, if_false, ite_true, ite_false, swt, Option.some.injEq, gO_ok, gA_ok, gR_ok, isAR_A, isAR_2, Int.lt_irrefl]
  | succ m ih =>
    intro k h1 h2 hm
    have c : k < o + 24 := by omega
    have hgo := ih (k + 1) (by omega) (by omega) (by omega)
    have e3 := shF_s (A := A) (o := o) (k := k) h1
    have e4 : shF A o k (k + 3) = A (k + 3) := shF_n (by omega)
    rw [u_R_marks_15]
    simp (disch := first | assumption | omega | exact aNl_I | exact aNl_Q | exact bl0 | exact bl1 | exact bl2 | exact bl3 | exact bl4 | exact aNl_U) only [u_R_marks_0, u_R_marks_1, u_R_marks_2, u_R_marks_3, u_R_marks_4, u_R_marks_5, u_R_marks_7, u_R_marks_10, u_R_marks_11, u_R_marks_12, u_R_marks_13, u_R_marks_17, u_R_marks_18, u_R_marks_20, u_R_marks_21, u_R_marks_24, u_R_marks_25, u_R_marks_27, u_R_marks_28, u_R_marks_30, u_R_marks_31, u_R_marks_32, u_R_marks_33, u_R_marks_34, u_R_marks_37, u_R_marks_41, u_R_marks_42, u_R_marks_43, u_R_marks_44, u_R_marks_45, u_R_marks_46, u_R_marks_47, u_R_marks_48, u_R_marks_49, u_R_marks_50, u_R_marks_51, u_R_marks_52, u_R_marks_53, u_R_marks_54, u_R_marks_55, u_R_marks_56, u_R_marks_57, u_R_marks_58, u_R_marks_59, u_R_marks_60, u_R_marks_62, u_R_marks_63, u_R_marks_65, u_R_marks_66, u_R_marks_67, u_R_marks_68, u_R_marks_70, u_R_marks_71, u_R_marks_72, u_R_marks_74, u_R_marks_75, u_R_marks_76, u_R_marks_78, u_R_marks_79, u_R_marks_80, u_R_marks_82, u_R_marks_83, u_R_marks_84, u_R_marks_85, u_R_marks_86, u_R_marks_87, u_R_marks_88, u_R_marks_89, u_R_marks_90, u_R_marks_91, u_R_marks_92, aSz_pf, aSz_sa, aSz_sr, isO_pf, isO_sa, isO_sr, isA_pf, isA_sa, isA_sr, isR_pf, isR_sa, isR_sr, al_pf, al_sa, al_sr, gf_sa, gf_sr, ai_pf, ai_sr, ra_pf, ra_sa, gf_pn, ai_sn, ra_sn, sa_sa, pf_pf, fi_sa, fi_sr, fi_pn, gO_pf, gO_sa, gO_sr, gA_pf, gA_sa, gA_sr, gR_pf, gR_sa, gR_sr, isAR_pf, isAR_sa, isAR_sr, okQ_pf, okQ_sa, okQ_sr, okC_pf, okC_sa, okC_sr, okQ_n, gB_t, wr_id, wr_ai, wr_fi, wr_wand, wr_wor, wr_wxor, wr_wshl, wr_wshr, wr_lt, wr_gt, Int.reduceEq, Int.reduceLT, Int.reduceLE, Int.reduceNeg, b01, b10, and_self, true_and, and_true, false_and, and_false, or_false, false_or, or_true, true_or, ite_not, not_true_eq_false, not_false_eq_true, kk_v, kk_0, reduceCtorEq, if_true, if_false, ite_true, ite_false, swt, Option.some.injEq, gO_ok, gA_ok, gR_ok, isAR_A, isAR_2, c, hE, e3, e4, hgo]
theorem m_R_marks (hA : isA h a = true) (h3 : 3 ≤ a) (ho : 0 ≤ o ∧ o + 27 ≤ al h a) (hl : (al h a : Int) ≤ 100000) (hf : ai h a = A) (hB : 0 ≤ A (o + 2) ∧ A (o + 2) ≤ 8) : ev (d + 1) M_R_marks [aQ (some 39), aQ (some a), aI o, aI p, aI y, aI z] h = some (none, sa h a (mrk A o p y z)) := by
  have hE : ∀ f, ai (sa h a f) a = f := fun f => ai_se hA
  rw [n_R_marks]
  by_cases c : A (o + 2) = 8
  · have key := l_R_marks (d := d) (p := p) (y := y) (z := z) hA h3 ho hl hf _ (o + 3) (by omega) (by omega) rfl
    rw [shF_0, sa_self hA hf.symm] at key
    have e2 : shF A o (o + 24) (o + 2) = 8 := by rw [shF_n (by omega), c]
    simp (disch := first | assumption | omega | exact aNl_I | exact aNl_Q | exact bl0 | exact bl1 | exact bl2 | exact bl3 | exact bl4 | exact aNl_U) only [u_R_marks_0, u_R_marks_1, u_R_marks_2, u_R_marks_3, u_R_marks_4, u_R_marks_5, u_R_marks_7, u_R_marks_10, u_R_marks_11, u_R_marks_12, u_R_marks_13, u_R_marks_17, u_R_marks_18, u_R_marks_20, u_R_marks_21, u_R_marks_24, u_R_marks_25, u_R_marks_27, u_R_marks_28, u_R_marks_30, u_R_marks_31, u_R_marks_32, u_R_marks_33, u_R_marks_34, u_R_marks_37, u_R_marks_41, u_R_marks_42, u_R_marks_43, u_R_marks_44, u_R_marks_45, u_R_marks_46, u_R_marks_47, u_R_marks_48, u_R_marks_49, u_R_marks_50, u_R_marks_51, u_R_marks_52, u_R_marks_53, u_R_marks_54, u_R_marks_55, u_R_marks_56, u_R_marks_57, u_R_marks_58, u_R_marks_59, u_R_marks_60, u_R_marks_62, u_R_marks_63, u_R_marks_65, u_R_marks_66, u_R_marks_67, u_R_marks_68, u_R_marks_70, u_R_marks_71, u_R_marks_72, u_R_marks_74, u_R_marks_75, u_R_marks_76, u_R_marks_78, u_R_marks_79, u_R_marks_80, u_R_marks_82, u_R_marks_83, u_R_marks_84, u_R_marks_85, u_R_marks_86, u_R_marks_87, u_R_marks_88, u_R_marks_89, u_R_marks_90, u_R_marks_91, u_R_marks_92, aSz_pf, aSz_sa, aSz_sr, isO_pf, isO_sa, isO_sr, isA_pf, isA_sa, isA_sr, isR_pf, isR_sa, isR_sr, al_pf, al_sa, al_sr, gf_sa, gf_sr, ai_pf, ai_sr, ra_pf, ra_sa, gf_pn, ai_sn, ra_sn, sa_sa, pf_pf, fi_sa, fi_sr, fi_pn, gO_pf, gO_sa, gO_sr, gA_pf, gA_sa, gA_sr, gR_pf, gR_sa, gR_sr, isAR_pf, isAR_sa, isAR_sr, okQ_pf, okQ_sa, okQ_sr, okC_pf, okC_sa, okC_sr, okQ_n, gB_t, wr_id, wr_ai, wr_fi, wr_wand, wr_wor, wr_wxor, wr_wshl, wr_wshr, wr_lt, wr_gt, Int.reduceEq, Int.reduceLT, Int.reduceLE, Int.reduceNeg, b01, b10, and_self, true_and, and_true, false_and, and_false, or_false, false_or, or_true, true_or, ite_not, not_true_eq_false, not_false_eq_true, kk_v, kk_0, reduceCtorEq, if_true, if_false, ite_true, ite_false, swt, Option.some.injEq, gO_ok, gA_ok, gR_ok, isAR_A, isAR_2, hf, c, key]
    simp (disch := first | assumption | omega | exact aNl_I | exact aNl_Q | exact bl0 | exact bl1 | exact bl2 | exact bl3 | exact bl4 | exact aNl_U) only [u_R_marks_0, u_R_marks_1, u_R_marks_2, u_R_marks_3, u_R_marks_4, u_R_marks_5, u_R_marks_7, u_R_marks_10, u_R_marks_11, u_R_marks_12, u_R_marks_13, u_R_marks_17, u_R_marks_18, u_R_marks_20, u_R_marks_21, u_R_marks_24, u_R_marks_25, u_R_marks_27, u_R_marks_28, u_R_marks_30, u_R_marks_31, u_R_marks_32, u_R_marks_33, u_R_marks_34, u_R_marks_37, u_R_marks_40, u_R_marks_41, u_R_marks_42, u_R_marks_43, u_R_marks_44, u_R_marks_45, u_R_marks_46, u_R_marks_47, u_R_marks_48, u_R_marks_49, u_R_marks_50, u_R_marks_51, u_R_marks_52, u_R_marks_53, u_R_marks_54, u_R_marks_55, u_R_marks_56, u_R_marks_57, u_R_marks_58, u_R_marks_59, u_R_marks_60, u_R_marks_62, u_R_marks_63, u_R_marks_65, u_R_marks_66, u_R_marks_67, u_R_marks_68, u_R_marks_70, u_R_marks_71, u_R_marks_72, u_R_marks_74, u_R_marks_75, u_R_marks_76, u_R_marks_78, u_R_marks_79, u_R_marks_80, u_R_marks_82, u_R_marks_83, u_R_marks_84, u_R_marks_85, u_R_marks_86, u_R_marks_87, u_R_marks_88, u_R_marks_89, u_R_marks_90, u_R_marks_91, u_R_marks_92, aSz_pf, aSz_sa, aSz_sr, isO_pf, isO_sa, isO_sr, isA_pf, isA_sa, isA_sr, isR_pf, isR_sa, isR_sr, al_pf, al_sa, al_sr, gf_sa, gf_sr, ai_pf, ai_sr, ra_pf, ra_sa, gf_pn, ai_sn, ra_sn, sa_sa, pf_pf, fi_sa, fi_sr, fi_pn, gO_pf, gO_sa, gO_sr, gA_pf, gA_sa, gA_sr, gR_pf, gR_sa, gR_sr, isAR_pf, isAR_sa, isAR_sr, okQ_pf, okQ_sa, okQ_sr, okC_pf, okC_sa, okC_sr, okQ_n, gB_t, wr_id, wr_ai, wr_fi, wr_wand, wr_wor, wr_wxor, wr_wshl, wr_wshr, wr_lt, wr_gt, Int.reduceEq, Int.reduceLT, Int.reduceLE, Int.reduceNeg, b01, b10, and_self, true_and, and_true, false_and, and_false, or_false, false_or, or_true, true_or, ite_not, not_true_eq_false, not_false_eq_true, kk_v, kk_0, reduceCtorEq, if_true, if_false, ite_true, ite_false, swt, Option.some.injEq, gO_ok, gA_ok, gR_ok, isAR_A, isAR_2, hE, e2, upf_e, upf_n, show (8 : Int) - 1 = 7 from rfl, show (3 : Int) * 7 = 21 from rfl]
    refine congrArg (fun f => ((none : Option aV), sa h a f)) (funext fun j => ?_)
    unfold mrk
    rw [if_pos c]
    unfold upf shF
    by_cases c1 : j = o + 2
    · rw [if_pos c1, if_pos c1]; rfl
    · simp only [if_neg c1]
      by_cases c2 : j = o + 26
      · rw [if_pos (by omega), if_neg (by omega), if_neg (by omega), if_pos (by omega)]
      · rw [if_neg (by omega)]
        by_cases c3 : j = o + 25
        · rw [if_pos (by omega), if_neg (by omega), if_pos (by omega)]
        · rw [if_neg (by omega)]
          by_cases c4 : j = o + 24
          · rw [if_pos (by omega), if_pos (by omega)]
          · rw [if_neg (by omega), if_neg c4, if_neg c3, if_neg c2]
  · have e2 : ¬ wr (A (o + 2)) = 8 := by rw [wr_id (by omega) (by omega)]; exact c
    simp (disch := first | assumption | omega | exact aNl_I | exact aNl_Q | exact bl0 | exact bl1 | exact bl2 | exact bl3 | exact bl4 | exact aNl_U) only [u_R_marks_0, u_R_marks_1, u_R_marks_2, u_R_marks_3, u_R_marks_4, u_R_marks_5, u_R_marks_7, u_R_marks_10, u_R_marks_11, u_R_marks_12, u_R_marks_13, u_R_marks_17, u_R_marks_18, u_R_marks_20, u_R_marks_21, u_R_marks_24, u_R_marks_25, u_R_marks_27, u_R_marks_28, u_R_marks_30, u_R_marks_31, u_R_marks_32, u_R_marks_33, u_R_marks_34, u_R_marks_37, u_R_marks_40, u_R_marks_41, u_R_marks_42, u_R_marks_43, u_R_marks_44, u_R_marks_45, u_R_marks_46, u_R_marks_47, u_R_marks_48, u_R_marks_49, u_R_marks_50, u_R_marks_51, u_R_marks_52, u_R_marks_53, u_R_marks_54, u_R_marks_55, u_R_marks_56, u_R_marks_57, u_R_marks_58, u_R_marks_59, u_R_marks_60, u_R_marks_62, u_R_marks_63, u_R_marks_65, u_R_marks_66, u_R_marks_67, u_R_marks_68, u_R_marks_70, u_R_marks_71, u_R_marks_72, u_R_marks_74, u_R_marks_75, u_R_marks_76, u_R_marks_78, u_R_marks_79, u_R_marks_80, u_R_marks_82, u_R_marks_83, u_R_marks_84, u_R_marks_85, u_R_marks_86, u_R_marks_87, u_R_marks_88, u_R_marks_89, u_R_marks_90, u_R_marks_91, u_R_marks_92, aSz_pf, aSz_sa, aSz_sr, isO_pf, isO_sa, isO_sr, isA_pf, isA_sa, isA_sr, isR_pf, isR_sa, isR_sr, al_pf, al_sa, al_sr, gf_sa, gf_sr, ai_pf, ai_sr, ra_pf, ra_sa, gf_pn, ai_sn, ra_sn, sa_sa, pf_pf, fi_sa, fi_sr, fi_pn, gO_pf, gO_sa, gO_sr, gA_pf, gA_sa, gA_sr, gR_pf, gR_sa, gR_sr, isAR_pf, isAR_sa, isAR_sr, okQ_pf, okQ_sa, okQ_sr, okC_pf, okC_sa, okC_sr, okQ_n, gB_t, wr_id, wr_ai, wr_fi, wr_wand, wr_wor, wr_wxor, wr_wshl, wr_wshr, wr_lt, wr_gt, Int.reduceEq, Int.reduceLT, Int.reduceLE, Int.reduceNeg, b01, b10, and_self, true_and, and_true, false_and, and_false, or_false, false_or, or_true, true_or, ite_not, not_true_eq_false, not_false_eq_true, kk_v, kk_0, reduceCtorEq, if_true, if_false, ite_true, ite_false, swt, Option.some.injEq, gO_ok, gA_ok, gR_ok, isAR_A, isAR_2, hf, hE, c, upf_e, upf_n]
    refine congrArg (fun f => ((none : Option aV), sa h a f)) (funext fun j => ?_)
    unfold mrk
    rw [if_neg c]
    unfold upf
    by_cases c1 : j = o + 2
    · rw [if_pos c1, if_pos c1]
    · rw [if_neg c1, if_neg c1]
      by_cases c2 : j = o + 3 + 3 * A (o + 2) + 2
      · rw [if_pos (by omega), if_neg (by omega), if_neg (by omega), if_pos (by omega)]
      · rw [if_neg (by omega)]
        by_cases c3 : j = o + 3 + 3 * A (o + 2) + 1
        · rw [if_pos (by omega), if_neg (by omega), if_pos (by omega)]
        · rw [if_neg (by omega)]
          by_cases c4 : j = o + 3 + 3 * A (o + 2)
          · rw [if_pos (by omega), if_pos (by omega)]
          · rw [if_neg (by omega), if_neg c4, if_neg c3, if_neg c2]
/-- a line that is read -/
theorem l_Li_readBy3 (w : Sh h) {x2 x3 x4 x5 : aV} {u v : Int} (hO : isO h a 3 = true) (hu : gf h a 0 = aI u) (hv : gf h a 1 = aI v) : ex (ev (d + 1)) k_Li_readBy 59 [aQ (some a), x2, x3, x4, x5, aQ (some r)] [] h = some (some (aQ (some (aSz h))), nLn h u v (some r)) := by
  have e := m_nLn (d := d) (x := u) (y := v) (q := some r) w
  have hlt := isO_lt hO
  have e1 : isO (aNew h (.inl (3, aDf 3)) (aNf 3)) a 3 = true := by rw [isO_new hlt]; exact hO
  have e2 : gf (aNew h (.inl (3, aDf 3)) (aNf 3)) a 0 = aI u := by rw [gf_new hlt]; exact hu
  have e3 : gf (aNew h (.inl (3, aDf 3)) (aNf 3)) a 1 = aI v := by rw [gf_new hlt]; exact hv
  rw [u_Li_readBy_59]
  generalize aNew h (.inl (3, aDf 3)) (aNf 3) = h0 at *
  simp (disch := first | assumption | omega | exact aNl_I | exact aNl_Q | exact bl0 | exact bl1 | exact bl2 | exact bl3 | exact bl4 | exact aNl_U) only [u_Li_readBy_0, u_Li_readBy_1, u_Li_readBy_4, u_Li_readBy_5, u_Li_readBy_6, u_Li_readBy_7, u_Li_readBy_8, u_Li_readBy_11, u_Li_readBy_12, u_Li_readBy_13, u_Li_readBy_14, u_Li_readBy_16, u_Li_readBy_18, u_Li_readBy_19, u_Li_readBy_20, u_Li_readBy_22, u_Li_readBy_24, u_Li_readBy_25, u_Li_readBy_28, u_Li_readBy_29, u_Li_readBy_31, u_Li_readBy_32, u_Li_readBy_34, u_Li_readBy_37, u_Li_readBy_39, u_Li_readBy_41, u_Li_readBy_42, u_Li_readBy_43, u_Li_readBy_45, u_Li_readBy_47, u_Li_readBy_48, u_Li_readBy_49, u_Li_readBy_50, u_Li_readBy_51, u_Li_readBy_53, u_Li_readBy_55, u_Li_readBy_56, u_Li_readBy_57, u_Li_readBy_58, u_Li_readBy_59, u_Li_readBy_62, u_Li_readBy_63, u_Li_readBy_64, u_Li_readBy_67, u_Li_readBy_68, u_Li_readBy_71, u_Li_readBy_73, u_Li_readBy_76, aSz_pf, aSz_sa, aSz_sr, isO_pf, isO_sa, isO_sr, isA_pf, isA_sa, isA_sr, isR_pf, isR_sa, isR_sr, al_pf, al_sa, al_sr, gf_sa, gf_sr, ai_pf, ai_sr, ra_pf, ra_sa, gf_pn, ai_sn, ra_sn, sa_sa, pf_pf, fi_sa, fi_sr, fi_pn, gO_pf, gO_sa, gO_sr, gA_pf, gA_sa, gA_sr, gR_pf, gR_sa, gR_sr, isAR_pf, isAR_sa, isAR_sr, okQ_pf, okQ_sa, okQ_sr, okC_pf, okC_sa, okC_sr, okQ_n, gB_t, wr_id, wr_ai, wr_fi, wr_wand, wr_wor, wr_wxor, wr_wshl, wr_wshr, wr_lt, wr_gt, Int.reduceEq, Int.reduceLT, Int.reduceLE, Int.reduceNeg, b01, b10, and_self, true_and, and_true, false_and, and_false, or_false, false_or, or_true, true_or, ite_not, not_true_eq_false, not_false_eq_true, kk_v, kk_0, reduceCtorEq, if_true, if_false, ite_true, ite_false, swt, Option.some.injEq, gO_ok, gA_ok, gR_ok, isAR_A, isAR_2, e, e2, e3]
theorem l_Li_readBy2 (hO : isO h a 3 = true) (h2 : gf h a 2 = aQ (some b)) (hb : isA h b = true) (hb3 : 3 ≤ b) (hr : isA h r = true) (hr3 : 3 ≤ r) {k gn lf : Int} (hk : 0 ≤ gn ∧ 0 ≤ lf ∧ gn + lf = al h b ∧ lf + 3 = al h r) (hl : (al h b : Int) ≤ 1000) (hf : ai h b = F) (hg : ai h r = f) (hne : b ≠ r) {pe dy : Int} :
    ex (ev d) k_Li_readBy 24 [aQ (some a), aI pe, aI dy, aI gn, aI lf, aQ (some r)] [] h = ex (ev d) k_Li_readBy 59 [aQ (some a), aI pe, aI dy, aI gn, aI lf, aQ (some r)] [] (sa h r (upf (upf (upf (cpf F f gn 0 lf) lf pe) (lf + 1) dy) (lf + 2) 3)) := by
  have hE : ∀ f, ai (sa h r f) r = f := fun f => ai_se hr
  have c1 : okC h b r gn 0 lf = true := okC_ok hb hr hb3 hr3 (by omega) (by omega) (by omega) (by omega) (by omega) (by omega) (by omega)
  simp (disch := first | assumption | omega | exact aNl_I | exact aNl_Q | exact bl0 | exact bl1 | exact bl2 | exact bl3 | exact bl4 | exact aNl_U) only [u_Li_readBy_0, u_Li_readBy_1, u_Li_readBy_4, u_Li_readBy_5, u_Li_readBy_6, u_Li_readBy_7, u_Li_readBy_8, u_Li_readBy_11, u_Li_readBy_12, u_Li_readBy_13, u_Li_readBy_14, u_Li_readBy_16, u_Li_readBy_18, u_Li_readBy_19, u_Li_readBy_20, u_Li_readBy_22, u_Li_readBy_24, u_Li_readBy_25, u_Li_readBy_28, u_Li_readBy_29, u_Li_readBy_31, u_Li_readBy_32, u_Li_readBy_34, u_Li_readBy_37, u_Li_readBy_39, u_Li_readBy_41, u_Li_readBy_42, u_Li_readBy_43, u_Li_readBy_45, u_Li_readBy_47, u_Li_readBy_48, u_Li_readBy_49, u_Li_readBy_50, u_Li_readBy_51, u_Li_readBy_53, u_Li_readBy_55, u_Li_readBy_56, u_Li_readBy_57, u_Li_readBy_58, u_Li_readBy_62, u_Li_readBy_63, u_Li_readBy_64, u_Li_readBy_67, u_Li_readBy_68, u_Li_readBy_71, u_Li_readBy_73, u_Li_readBy_76, aSz_pf, aSz_sa, aSz_sr, isO_pf, isO_sa, isO_sr, isA_pf, isA_sa, isA_sr, isR_pf, isR_sa, isR_sr, al_pf, al_sa, al_sr, gf_sa, gf_sr, ai_pf, ai_sr, ra_pf, ra_sa, gf_pn, ai_sn, ra_sn, sa_sa, pf_pf, fi_sa, fi_sr, fi_pn, gO_pf, gO_sa, gO_sr, gA_pf, gA_sa, gA_sr, gR_pf, gR_sa, gR_sr, isAR_pf, isAR_sa, isAR_sr, okQ_pf, okQ_sa, okQ_sr, okC_pf, okC_sa, okC_sr, okQ_n, gB_t, wr_id, wr_ai, wr_fi, wr_wand, wr_wor, wr_wxor, wr_wshl, wr_wshr, wr_lt, wr_gt, Int.reduceEq, Int.reduceLT, Int.reduceLE, Int.reduceNeg, b01, b10, and_self, true_and, and_true, false_and, and_false, or_false, false_or, or_true, true_or, ite_not, not_true_eq_false, not_false_eq_true, kk_v, kk_0, reduceCtorEq, if_true, if_false, ite_true, ite_false, swt, Option.some.injEq, gO_ok, gA_ok, gR_ok, isAR_A, isAR_2, h2, hf, hg, hE, c1]
theorem m_Li_readBy (w : Sh h) (g : Rg h) (l : LnR h a A o) (hB : BlkOK A o) {pe dy : Int} (hp : inr pe) (hd : inr dy) : ∃ h1 b, ev (d + 2) M_Li_readBy [aQ (some a), aI pe, aI dy] h = some (some (aQ (some b)), h1) ∧ (Sh h1 ∧ Rg h1) ∧ Fr [] h h1 ∧ LnR h1 b (mrk A o pe dy 3) o ∧ aSz h1 = aSz h + 2 ∧ aSl h1 ≤ aSl h + 27 := by
  have e := m_Li_marksToGo (d := d) l hB
  obtain ⟨i, m1, m2, m3, b, m4, j1, j2, j3, j4⟩ := l
  have hw := Sh_lt w
  have hb3 : 3 ≤ b := by omega
  have hlo := isO_lt m1
  have hlb := isA_lt j2
  have hA8 := hB.1
  obtain ⟨gn, lf, hgl, hgn⟩ : ∃ gn lf : Int, (A (o + 2) = 8 ∧ gn = 3 ∧ lf = 21 ∨ A (o + 2) ≠ 8 ∧ gn = 0 ∧ lf = 3 * A (o + 2)) ∧ ev (d + 2) M_Li_readBy [aQ (some a), aI pe, aI dy] h = ex (ev (d + 1)) k_Li_readBy 24 [aQ (some a), aI pe, aI dy, aI gn, aI lf, aQ (some (aSz h))] [] (aNew h (.inr (.inl ((lf + 3).toNat, fun _ => 0))) (lf + 3).toNat) := by
    by_cases c : A (o + 2) = 8
    · refine ⟨3, 21, Or.inl ⟨c, rfl, rfl⟩, ?_⟩
      rw [if_pos c] at e
      rw [c] at j3
      rw [n_Li_readBy]
      simp (disch := first | assumption | omega | exact aNl_I | exact aNl_Q | exact bl0 | exact bl1 | exact bl2 | exact bl3 | exact bl4 | exact aNl_U) only [u_Li_readBy_0, u_Li_readBy_1, u_Li_readBy_4, u_Li_readBy_5, u_Li_readBy_6, u_Li_readBy_7, u_Li_readBy_8, u_Li_readBy_11, u_Li_readBy_12, u_Li_readBy_13, u_Li_readBy_14, u_Li_readBy_16, u_Li_readBy_18, u_Li_readBy_19, u_Li_readBy_20, u_Li_readBy_22, u_Li_readBy_25, u_Li_readBy_28, u_Li_readBy_29, u_Li_readBy_31, u_Li_readBy_32, u_Li_readBy_34, u_Li_readBy_37, u_Li_readBy_39, u_Li_readBy_41, u_Li_readBy_42, u_Li_readBy_43, u_Li_readBy_45, u_Li_readBy_47, u_Li_readBy_48, u_Li_readBy_49, u_Li_readBy_50, u_Li_readBy_51, u_Li_readBy_53, u_Li_readBy_55, u_Li_readBy_56, u_Li_readBy_57, u_Li_readBy_58, u_Li_readBy_59, u_Li_readBy_62, u_Li_readBy_63, u_Li_readBy_64, u_Li_readBy_67, u_Li_readBy_68, u_Li_readBy_71, u_Li_readBy_73, u_Li_readBy_76, aSz_pf, aSz_sa, aSz_sr, isO_pf, isO_sa, isO_sr, isA_pf, isA_sa, isA_sr, isR_pf, isR_sa, isR_sr, al_pf, al_sa, al_sr, gf_sa, gf_sr, ai_pf, ai_sr, ra_pf, ra_sa, gf_pn, ai_sn, ra_sn, sa_sa, pf_pf, fi_sa, fi_sr, fi_pn, gO_pf, gO_sa, gO_sr, gA_pf, gA_sa, gA_sr, gR_pf, gR_sa, gR_sr, isAR_pf, isAR_sa, isAR_sr, okQ_pf, okQ_sa, okQ_sr, okC_pf, okC_sa, okC_sr, okQ_n, gB_t, wr_id, wr_ai, wr_fi, wr_wand, wr_wor, wr_wxor, wr_wshl, wr_wshr, wr_lt, wr_gt, Int.reduceEq, Int.reduceLT, Int.reduceLE, Int.reduceNeg, b01, b10, and_self, true_and, and_true, false_and, and_false, or_false, false_or, or_true, true_or, ite_not, not_true_eq_false, not_false_eq_true, kk_v, kk_0, reduceCtorEq, if_true, if_false, ite_true, ite_false, swt, Option.some.injEq, gO_ok, gA_ok, gR_ok, isAR_A, isAR_2, e, m4, j3, show (1 : Int) * 3 = 3 from rfl, show (3 : Int) * 8 - 3 = 21 from rfl]
    · refine ⟨0, 3 * A (o + 2), Or.inr ⟨c, rfl, rfl⟩, ?_⟩
      rw [if_neg c] at e
      rw [n_Li_readBy]
      simp (disch := first | assumption | omega | exact aNl_I | exact aNl_Q | exact bl0 | exact bl1 | exact bl2 | exact bl3 | exact bl4 | exact aNl_U) only [u_Li_readBy_0, u_Li_readBy_1, u_Li_readBy_4, u_Li_readBy_5, u_Li_readBy_6, u_Li_readBy_7, u_Li_readBy_8, u_Li_readBy_11, u_Li_readBy_12, u_Li_readBy_13, u_Li_readBy_14, u_Li_readBy_16, u_Li_readBy_18, u_Li_readBy_19, u_Li_readBy_20, u_Li_readBy_22, u_Li_readBy_25, u_Li_readBy_28, u_Li_readBy_29, u_Li_readBy_31, u_Li_readBy_32, u_Li_readBy_34, u_Li_readBy_37, u_Li_readBy_39, u_Li_readBy_41, u_Li_readBy_42, u_Li_readBy_43, u_Li_readBy_45, u_Li_readBy_47, u_Li_readBy_48, u_Li_readBy_49, u_Li_readBy_50, u_Li_readBy_51, u_Li_readBy_53, u_Li_readBy_55, u_Li_readBy_56, u_Li_readBy_57, u_Li_readBy_58, u_Li_readBy_59, u_Li_readBy_62, u_Li_readBy_63, u_Li_readBy_64, u_Li_readBy_67, u_Li_readBy_68, u_Li_readBy_71, u_Li_readBy_73, u_Li_readBy_76, aSz_pf, aSz_sa, aSz_sr, isO_pf, isO_sa, isO_sr, isA_pf, isA_sa, isA_sr, isR_pf, isR_sa, isR_sr, al_pf, al_sa, al_sr, gf_sa, gf_sr, ai_pf, ai_sr, ra_pf, ra_sa, gf_pn, ai_sn, ra_sn, sa_sa, pf_pf, fi_sa, fi_sr, fi_pn, gO_pf, gO_sa, gO_sr, gA_pf, gA_sa, gA_sr, gR_pf, gR_sa, gR_sr, isAR_pf, isAR_sa, isAR_sr, okQ_pf, okQ_sa, okQ_sr, okC_pf, okC_sa, okC_sr, okQ_n, gB_t, wr_id, wr_ai, wr_fi, wr_wand, wr_wor, wr_wxor, wr_wshl, wr_wshr, wr_lt, wr_gt, Int.reduceEq, Int.reduceLT, Int.reduceLE, Int.reduceNeg, b01, b10, and_self, true_and, and_true, false_and, and_false, or_false, false_or, or_true, true_or, ite_not, not_true_eq_false, not_false_eq_true, kk_v, kk_0, reduceCtorEq, if_true, if_false, ite_true, ite_false, swt, Option.some.injEq, gO_ok, gA_ok, gR_ok, isAR_A, isAR_2, e, m4, j3, show (0 : Int) * 3 = 0 from rfl, Int.sub_zero]
  have w0 : Sh (aNew h (.inr (.inl ((lf + 3).toNat, fun _ => 0))) (lf + 3).toNat) := Sh_new w
  have g0 : Rg (aNew h (.inr (.inl ((lf + 3).toNat, fun _ => 0))) (lf + 3).toNat) := Rg_newA g
  have F0 : Fr [] h (aNew h (.inr (.inl ((lf + 3).toNat, fun _ => 0))) (lf + 3).toNat) := Fr.refl.new
  have n1 : isA (aNew h (.inr (.inl ((lf + 3).toNat, fun _ => 0))) (lf + 3).toNat) (aSz h) = true := isA_new1
  have n2 : al (aNew h (.inr (.inl ((lf + 3).toNat, fun _ => 0))) (lf + 3).toNat) (aSz h) = (lf + 3).toNat := al_newA
  have n3 : ai (aNew h (.inr (.inl ((lf + 3).toNat, fun _ => 0))) (lf + 3).toNat) (aSz h) = fun _ => 0 := ai_newA
  have n4 : aSz (aNew h (.inr (.inl ((lf + 3).toNat, fun _ => 0))) (lf + 3).toNat) = aSz h + 1 := rfl
  have n5 : aSl (aNew h (.inr (.inl ((lf + 3).toNat, fun _ => 0))) (lf + 3).toNat) = aSl h + (lf + 3).toNat := rfl
  generalize aNew h (.inr (.inl ((lf + 3).toNat, fun _ => 0))) (lf + 3).toNat = h0 at *
  have qa := F0.2 a hlo (by simp)
  have qb := F0.2 b hlb (by simp)
  have hO0 : isO h0 a 3 = true := isO_co qa F0.1 m1
  have hb0 : isA h0 b = true := isA_co qb F0.1 j2
  have hgf : ∀ k, gf h0 a k = gf h a k := fun k => gf_co qa
  have hal : al h0 b = al h b := al_co qb
  have hai : ai h0 b = ai h b := ai_co qb
  have s2 := l_Li_readBy2 (d := d + 1) (k := 0) (gn := gn) (lf := lf) (pe := pe) (dy := dy) hO0 (by rw [hgf]; exact m4) hb0 hb3 n1 (by omega) ⟨by omega, by omega, by omega, by omega⟩ (by omega) hai n3 (by omega)
  have w1 : Sh (sa h0 (aSz h) (upf (upf (upf (cpf (ai h b) (fun _ => 0) gn 0 lf) lf pe) (lf + 1) dy) (lf + 2) 3)) := Sh_sa w0 (by omega)
  have g1 : Rg (sa h0 (aSz h) (upf (upf (upf (cpf (ai h b) (fun _ => 0) gn 0 lf) lf pe) (lf + 1) dy) (lf + 2) 3)) := Rg_sa g0 (inr_upf ⟨by decide, by decide⟩ (inr_upf hd (inr_upf hp (inr_cpf (g.1 b) (fun _ => inr0)))))
  have s3 := l_Li_readBy3 (d := d) (r := aSz h) (x2 := aI pe) (x3 := aI dy) (x4 := aI gn) (x5 := aI lf) (u := A o) (v := A (o + 1)) w1 (by rw [isO_sa]; exact hO0) (by rw [gf_sa, hgf]; exact m2) (by rw [gf_sa, hgf]; exact m3)
  have F1 : Fr [] h (sa h0 (aSz h) (upf (upf (upf (cpf (ai h b) (fun _ => 0) gn 0 lf) lf pe) (lf + 1) dy) (lf + 2) 3)) := F0.sa (Or.inl (Nat.le_refl _))
  have k1 : isA (sa h0 (aSz h) (upf (upf (upf (cpf (ai h b) (fun _ => 0) gn 0 lf) lf pe) (lf + 1) dy) (lf + 2) 3)) (aSz h) = true := by rw [isA_sa]; exact n1
  have k2 : al (sa h0 (aSz h) (upf (upf (upf (cpf (ai h b) (fun _ => 0) gn 0 lf) lf pe) (lf + 1) dy) (lf + 2) 3)) (aSz h) = (lf + 3).toNat := by rw [al_sa]; exact n2
  have k3 : ai (sa h0 (aSz h) (upf (upf (upf (cpf (ai h b) (fun _ => 0) gn 0 lf) lf pe) (lf + 1) dy) (lf + 2) 3)) (aSz h) = upf (upf (upf (cpf (ai h b) (fun _ => 0) gn 0 lf) lf pe) (lf + 1) dy) (lf + 2) 3 := ai_se n1
  have k4 : aSz (sa h0 (aSz h) (upf (upf (upf (cpf (ai h b) (fun _ => 0) gn 0 lf) lf pe) (lf + 1) dy) (lf + 2) 3)) = aSz h + 1 := n4
  have k5 : aSl (sa h0 (aSz h) (upf (upf (upf (cpf (ai h b) (fun _ => 0) gn 0 lf) lf pe) (lf + 1) dy) (lf + 2) 3)) = aSl h + (lf + 3).toNat := n5
  generalize sa h0 (aSz h) (upf (upf (upf (cpf (ai h b) (fun _ => 0) gn 0 lf) lf pe) (lf + 1) dy) (lf + 2) 3) = hX at *
  have FN : Fr [] hX (nLn hX (A o) (A (o + 1)) (some (aSz h))) := nLn_F
  have qR := FN.2 (aSz h) (by omega) (by simp)
  have zz := nLn_z (h := hX) (x := A o) (y := A (o + 1)) (q := some (aSz h))
  have bo := mrk_out (p := pe) (y := dy) (z := 3) (j := o) hA8 (by omega)
  have bo1 := mrk_out (p := pe) (y := dy) (z := 3) (j := o + 1) hA8 (by omega)
  refine ⟨nLn hX (A o) (A (o + 1)) (some (aSz h)), aSz hX, by rw [hgn, s2, s3], ⟨nLn_w w1, nLn_g g1 (by have := g.2 a 0; rwa [fi_of m2] at this) (by have := g.2 a 1; rwa [fi_of m3] at this)⟩, F1.trans FN, ⟨Or.inl (by omega), nLn_o w1, by rw [nLn_0 w1, bo], by rw [nLn_1 w1, bo1], aSz h, nLn_2 w1, Or.inl hw, isA_co qR FN.1 k1, ?_, fun j q1 q2 => ?_⟩, by omega, by omega⟩
  · rw [al_co qR, k2]
    unfold mrk
    rcases hgl with ⟨c, -, c2⟩ | ⟨c, -, c2⟩
    · rw [if_pos c, if_pos rfl]; omega
    · rw [if_neg c, if_pos rfl]; omega
  · rw [ai_co qR, k3]
    rcases hgl with ⟨c, c1, c2⟩ | ⟨c, c1, c2⟩
    · have e8 : mrk A o pe dy 3 (o + 2) = 8 := by unfold mrk; rw [if_pos c, if_pos rfl]
      rw [e8] at q2
      unfold mrk upf cpf
      rw [if_pos c]
      by_cases t1 : j = 23
      · rw [if_pos (by omega), if_neg (by omega), if_neg (by omega), if_neg (by omega), if_pos (by omega)]
      · by_cases t2 : j = 22
        · rw [if_neg (by omega), if_pos (by omega), if_neg (by omega), if_neg (by omega), if_pos (by omega)]
        · by_cases t3 : j = 21
          · rw [if_neg (by omega), if_neg (by omega), if_pos (by omega), if_neg (by omega), if_pos (by omega)]
          · rw [if_neg (by omega), if_neg (by omega), if_neg (by omega), if_pos (by omega), if_neg (by omega), if_neg (by omega), if_neg (by omega), if_neg (by omega), if_pos (by omega), j4 _ (by omega) (by omega)]
            congr 1
            omega
    · have e8 : mrk A o pe dy 3 (o + 2) = A (o + 2) + 1 := by unfold mrk; rw [if_neg c, if_pos rfl]
      rw [e8] at q2
      unfold mrk upf cpf
      rw [if_neg c]
      by_cases t1 : j = lf + 2
      · rw [if_pos (by omega), if_neg (by omega), if_neg (by omega), if_neg (by omega), if_pos (by omega)]
      · by_cases t2 : j = lf + 1
        · rw [if_neg (by omega), if_pos (by omega), if_neg (by omega), if_neg (by omega), if_pos (by omega)]
        · by_cases t3 : j = lf
          · rw [if_neg (by omega), if_neg (by omega), if_pos (by omega), if_neg (by omega), if_pos (by omega)]
          · rw [if_neg (by omega), if_neg (by omega), if_neg (by omega), if_pos (by omega), if_neg (by omega), if_neg (by omega), if_neg (by omega), if_neg (by omega), j4 _ (by omega) (by omega)]
            congr 1
            omega
end NEW
