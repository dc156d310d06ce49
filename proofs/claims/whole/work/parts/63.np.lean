/-! the class makes the new lines of a change -/
section NP
variable {d : Nat} {h h1 h2 hi hh : aH} {a b r c p R : Nat} {A B F X Y f : Int → Int} {o o' n m W kd hd ot dy i t C kp x : Int} {L M : List Nat}
theorem Fr.transn (e1 : Fr L h h1) (e2 : Fr M h1 h2) (hs : ∀ a ∈ M, a ∈ L ∨ aSz h ≤ a) : Fr L h h2 := ⟨Nat.le_trans e1.1 e2.1, fun a q1 q2 => (e2.2 a (Nat.lt_of_lt_of_le q1 e1.1) (fun q => by
  rcases hs a q with z | z
  · exact q2 z
  · omega)).trans (e1.2 a q1 q2)⟩
theorem isO_ne {c1 c2 : Nat} (h1 : isO h a c1 = true) (h2 : isO h b c2 = true) (e : c1 ≠ c2) : a ≠ b := by
  intro q
  subst q
  obtain ⟨f1, e1, -⟩ := isO_of h1
  obtain ⟨f2, e2, -⟩ := isO_of h2
  rw [e1] at e2
  cases e2
  exact e rfl
theorem isA_neO {c1 : Nat} (h1 : isA h a = true) (h2 : isO h b c1 = true) : a ≠ b := by
  intro q
  subst q
  obtain ⟨m, f, e1, -⟩ := isA_of h1
  obtain ⟨f2, e2, -⟩ := isO_of h2
  rw [e1] at e2
  cases e2
theorem isR_neO {c1 c2 : Nat} (h1 : isR h a c1 = true) (h2 : isO h b c2 = true) : a ≠ b := by
  intro q
  subst q
  obtain ⟨m, f, e1, -⟩ := isR_of h1
  obtain ⟨f2, e2, -⟩ := isO_of h2
  rw [e1] at e2
  cases e2
theorem isR_neA {c1 : Nat} (h1 : isR h a c1 = true) (h2 : isA h b = true) : a ≠ b := by
  intro q
  subst q
  obtain ⟨m, f, e1, -⟩ := isR_of h1
  obtain ⟨m2, f2, e2, -⟩ := isA_of h2
  rw [e1] at e2
  cases e2
/-- a line is the same where a change object and a row alone are others -/
theorem LnR.frc (m : LnR h a A o) (e : Fr [c, R] h h1) (oc : isO h c 1 = true) (oR : isR h R 2 = true) : LnR h1 a A o := by
  obtain ⟨i, m1, m2, m3, b, m4, i2, j2, j3, j4⟩ := m
  have n1 := isO_ne m1 oc (by decide)
  have n2 := isR_neO oR m1
  have n3 := isA_neO j2 oc
  have n4 := isR_neA oR j2
  have q := e.2 a (isO_lt m1) (by simp only [List.mem_cons, List.not_mem_nil, or_false, not_or]; exact ⟨n1, fun z => n2 z.symm⟩)
  have q2 := e.2 b (isA_lt j2) (by simp only [List.mem_cons, List.not_mem_nil, or_false, not_or]; exact ⟨n3, fun z => n4 z.symm⟩)
  exact ⟨i, isO_co q e.1 m1, by rw [gf_co q]; exact m2, by rw [gf_co q]; exact m3, b, by rw [gf_co q]; exact m4, i2, isA_co q2 e.1 j2, by rw [al_co q2]; exact j3, by rw [ai_co q2]; exact j4⟩
/-- cells of a new line -/
def frs (kd hd ot dy C y : Int) (k : Int) : Int := if k = 0 then y else if k = 1 then C else if k = 2 then (if kd = 3 then 2 else 1) else if k = 3 then hd else if k = 4 then dy else if k = 5 then (if kd = 2 then 2 else if kd = 3 then 5 else 8) else if kd = 3 then (if k = 6 then ot else if k = 7 then dy else if k = 8 then 5 else 0) else 0
/-- cells of the line at j behind a change -/
def nbv (A : Int → Int) (o : Int) (F Y : Int → Int) (kd hd ot dy C : Int) (j k : Int) : Int := if F j < 0 then frs kd hd ot dy C (Y j) k else if k = 0 then Y j else A (o + 27 * F j + k)
/-- how many are kept -/
def kpn (F : Int → Int) : Nat → Int
  | 0 => 0
  | j + 1 => kpn F j + (if F j < 0 then 0 else 1)
theorem kpn_b : ∀ j : Nat, 0 ≤ kpn F j ∧ kpn F j ≤ j := by
  intro j
  induction j with
  | zero => show (0 : Int) ≤ 0 ∧ (0 : Int) ≤ 0; omega
  | succ j ih =>
    show 0 ≤ kpn F j + (if F j < 0 then 0 else 1) ∧ kpn F j + (if F j < 0 then 0 else 1) ≤ _
    split <;> omega
/-- a row of first marks -/
def MkF (h : aH) (b : Nat) (kd hd ot dy : Int) : Prop := imm b ∧ isA h b = true ∧ (al h b : Int) = (if kd = 3 then 6 else 3) ∧ ∀ k, 0 ≤ k → k < (if kd = 3 then 6 else 3) → ai h b k = frs kd hd ot dy 0 0 (3 + k)
theorem m_Ch_firstMarks (w : Sh h) (g : Rg h) (oc : isO h c 1 = true) (c1 : gf h c 1 = aI kd) (c3 : gf h c 3 = aI hd) (c4 : gf h c 4 = aI ot) (c5 : gf h c 5 = aI dy) (i1 : inr hd) (i2 : inr ot) (i3 : inr dy) (i4 : inr kd) :
    ∃ h1, ev (d + 1) M_Ch_firstMarks [aQ (some c)] h = some (some (aQ (some (aSz h))), h1) ∧ (Sh h1 ∧ Rg h1) ∧ Fr [] h h1 ∧ MkF h1 (aSz h) kd hd ot dy ∧ aSz h1 = aSz h + 1 ∧ aSl h1 ≤ aSl h + 6 := by
  have hw := Sh_lt w
  have hlt := isO_lt oc
  obtain ⟨l1, l2⟩ := id i4
  rw [n_Ch_firstMarks]
  by_cases q : kd = 3
  · have w0 : Sh (aNew h (.inr (.inl (6, fun _ => 0))) 6) := Sh_new w
    have g0 : Rg (aNew h (.inr (.inl (6, fun _ => 0))) 6) := Rg_newA g
    have F0 : Fr [] h (aNew h (.inr (.inl (6, fun _ => 0))) 6) := Fr.refl.new
    have n1 : isA (aNew h (.inr (.inl (6, fun _ => 0))) 6) (aSz h) = true := isA_new1
    have n2 : al (aNew h (.inr (.inl (6, fun _ => 0))) 6) (aSz h) = 6 := al_newA
    have n3 : ai (aNew h (.inr (.inl (6, fun _ => 0))) 6) (aSz h) = fun _ => 0 := ai_newA
    have n4 : aSz (aNew h (.inr (.inl (6, fun _ => 0))) 6) = aSz h + 1 := rfl
    have n5 : aSl (aNew h (.inr (.inl (6, fun _ => 0))) 6) = aSl h + 6 := rfl
    have o0 : isO (aNew h (.inr (.inl (6, fun _ => 0))) 6) c 1 = true := by rw [isO_new hlt]; exact oc
    have d3 : gf (aNew h (.inr (.inl (6, fun _ => 0))) 6) c 3 = aI hd := by rw [gf_new hlt]; exact c3
    have d4 : gf (aNew h (.inr (.inl (6, fun _ => 0))) 6) c 4 = aI ot := by rw [gf_new hlt]; exact c4
    have d5 : gf (aNew h (.inr (.inl (6, fun _ => 0))) 6) c 5 = aI dy := by rw [gf_new hlt]; exact c5
    have s0 : ex (ev d) k_Ch_firstMarks 0 [aQ (some c)] [] h = ex (ev d) k_Ch_firstMarks 12 [aQ (some c)] [aQ (some (aSz h))] (aNew h (.inr (.inl (6, fun _ => 0))) 6) := by
      simp (disch := first | assumption | omega | exact aNl_I | exact aNl_Q | exact bl0 | exact bl1 | exact bl2 | exact bl3 | exact bl4 | exact aNl_U) only [u_Ch_firstMarks_0, u_Ch_firstMarks_1, u_Ch_firstMarks_4, u_Ch_firstMarks_5, u_Ch_firstMarks_8, u_Ch_firstMarks_10, u_Ch_firstMarks_13, u_Ch_firstMarks_14, u_Ch_firstMarks_15, u_Ch_firstMarks_18, u_Ch_firstMarks_19, u_Ch_firstMarks_20, u_Ch_firstMarks_21, u_Ch_firstMarks_22, u_Ch_firstMarks_25, u_Ch_firstMarks_26, u_Ch_firstMarks_27, u_Ch_firstMarks_28, u_Ch_firstMarks_29, u_Ch_firstMarks_30, u_Ch_firstMarks_31, u_Ch_firstMarks_32, u_Ch_firstMarks_33, u_Ch_firstMarks_36, u_Ch_firstMarks_37, u_Ch_firstMarks_38, u_Ch_firstMarks_39, u_Ch_firstMarks_40, u_Ch_firstMarks_43, u_Ch_firstMarks_44, u_Ch_firstMarks_45, u_Ch_firstMarks_46, u_Ch_firstMarks_47, u_Ch_firstMarks_48, u_Ch_firstMarks_49, u_Ch_firstMarks_50, u_Ch_firstMarks_52, u_Ch_firstMarks_53, u_Ch_firstMarks_54, u_Ch_firstMarks_55, u_Ch_firstMarks_58, u_Ch_firstMarks_59, u_Ch_firstMarks_60, u_Ch_firstMarks_61, u_Ch_firstMarks_62, u_Ch_firstMarks_65, u_Ch_firstMarks_66, u_Ch_firstMarks_67, u_Ch_firstMarks_68, u_Ch_firstMarks_69, u_Ch_firstMarks_72, u_Ch_firstMarks_73, u_Ch_firstMarks_76, u_Ch_firstMarks_77, u_Ch_firstMarks_80, u_Ch_firstMarks_82, u_Ch_firstMarks_83, aSz_pf, aSz_sa, aSz_sr, isO_pf, isO_sa, isO_sr, isA_pf, isA_sa, isA_sr, isR_pf, isR_sa, isR_sr, al_pf, al_sa, al_sr, gf_sa, gf_sr, ai_pf, ai_sr, ra_pf, ra_sa, gf_pn, ai_sn, ra_sn, sa_sa, pf_pf, fi_sa, fi_sr, fi_pn, gO_pf, gO_sa, gO_sr, gA_pf, gA_sa, gA_sr, gR_pf, gR_sa, gR_sr, isAR_pf, isAR_sa, isAR_sr, okQ_pf, okQ_sa, okQ_sr, okC_pf, okC_sa, okC_sr, okQ_n, gB_t, wr_id, wr_ai, wr_fi, wr_wand, wr_wor, wr_wxor, wr_wshl, wr_wshr, wr_lt, wr_gt, Int.reduceEq, Int.reduceLT, Int.reduceLE, Int.reduceNeg, b01, b10, and_self, true_and, and_true, false_and, and_false, or_false, false_or, or_true, true_or, ite_not, not_true_eq_false, not_false_eq_true, kk_v, kk_0, reduceCtorEq, if_true, if_false, ite_true, ite_false, swt, Option.some.injEq, gO_ok, gA_ok, gR_ok, isAR_A, isAR_2, gO_ok oc, c1, q, show Int.toNat 6 = 6 from rfl]
    generalize aNew h (.inr (.inl (6, fun _ => 0))) 6 = h0 at *
    have hE : ∀ f, ai (sa h0 (aSz h) f) (aSz h) = f := fun f => ai_se n1
    refine ⟨sa h0 (aSz h) (upf (upf (upf (upf (upf (upf (fun _ => 0) 0 hd) 1 dy) 2 5) 3 ot) 4 dy) 5 5), ?_, ⟨Sh_sa w0 (by omega), Rg_sa g0 (inr_upf ⟨by decide, by decide⟩ (inr_upf i3 (inr_upf i2 (inr_upf ⟨by decide, by decide⟩ (inr_upf i3 (inr_upf i1 (fun _ => inr0)))))))⟩, F0.sa (Or.inl (Nat.le_refl _)), ⟨Or.inl hw, by rw [isA_sa]; exact n1, by rw [al_sa, n2, if_pos q]; rfl, fun k k1 k2 => ?_⟩, n4, by show aSl h0 ≤ _; omega⟩
    · rw [s0]
      simp (disch := first | assumption | omega | exact aNl_I | exact aNl_Q | exact bl0 | exact bl1 | exact bl2 | exact bl3 | exact bl4 | exact aNl_U) only [u_Ch_firstMarks_0, u_Ch_firstMarks_1, u_Ch_firstMarks_4, u_Ch_firstMarks_5, u_Ch_firstMarks_8, u_Ch_firstMarks_10, u_Ch_firstMarks_12, u_Ch_firstMarks_13, u_Ch_firstMarks_14, u_Ch_firstMarks_15, u_Ch_firstMarks_18, u_Ch_firstMarks_19, u_Ch_firstMarks_20, u_Ch_firstMarks_21, u_Ch_firstMarks_22, u_Ch_firstMarks_25, u_Ch_firstMarks_26, u_Ch_firstMarks_27, u_Ch_firstMarks_28, u_Ch_firstMarks_29, u_Ch_firstMarks_30, u_Ch_firstMarks_31, u_Ch_firstMarks_32, u_Ch_firstMarks_33, u_Ch_firstMarks_36, u_Ch_firstMarks_37, u_Ch_firstMarks_38, u_Ch_firstMarks_39, u_Ch_firstMarks_40, u_Ch_firstMarks_43, u_Ch_firstMarks_44, u_Ch_firstMarks_45, u_Ch_firstMarks_46, u_Ch_firstMarks_47, u_Ch_firstMarks_48, u_Ch_firstMarks_49, u_Ch_firstMarks_50, u_Ch_firstMarks_52, u_Ch_firstMarks_53, u_Ch_firstMarks_54, u_Ch_firstMarks_55, u_Ch_firstMarks_58, u_Ch_firstMarks_59, u_Ch_firstMarks_60, u_Ch_firstMarks_61, u_Ch_firstMarks_62, u_Ch_firstMarks_65, u_Ch_firstMarks_66, u_Ch_firstMarks_67, u_Ch_firstMarks_68, u_Ch_firstMarks_69, u_Ch_firstMarks_72, u_Ch_firstMarks_73, u_Ch_firstMarks_76, u_Ch_firstMarks_77, u_Ch_firstMarks_80, u_Ch_firstMarks_82, u_Ch_firstMarks_83, aSz_pf, aSz_sa, aSz_sr, isO_pf, isO_sa, isO_sr, isA_pf, isA_sa, isA_sr, isR_pf, isR_sa, isR_sr, al_pf, al_sa, al_sr, gf_sa, gf_sr, ai_pf, ai_sr, ra_pf, ra_sa, gf_pn, ai_sn, ra_sn, sa_sa, pf_pf, fi_sa, fi_sr, fi_pn, gO_pf, gO_sa, gO_sr, gA_pf, gA_sa, gA_sr, gR_pf, gR_sa, gR_sr, isAR_pf, isAR_sa, isAR_sr, okQ_pf, okQ_sa, okQ_sr, okC_pf, okC_sa, okC_sr, okQ_n, gB_t, wr_id, wr_ai, wr_fi, wr_wand, wr_wor, wr_wxor, wr_wshl, wr_wshr, wr_lt, wr_gt, Int.reduceEq, Int.reduceLT, Int.reduceLE, Int.reduceNeg, b01, b10, and_self, true_and, and_true, false_and, and_false, or_false, false_or, or_true, true_or, ite_not, not_true_eq_false, not_false_eq_true, kk_v, kk_0, reduceCtorEq, if_true, if_false, ite_true, ite_false, swt, Option.some.injEq, gO_ok, gA_ok, gR_ok, isAR_A, isAR_2, o0, n3, d3, d4, d5, hE]
    · rw [if_pos q] at k2
      rw [hE]
      unfold frs upf
      rw [if_neg (show ¬ 3 + k = 0 by omega), if_neg (show ¬ 3 + k = 1 by omega), if_neg (show ¬ 3 + k = 2 by omega)]
      by_cases e0 : k = 0
      · subst e0; simp
      · by_cases e1 : k = 1
        · subst e1; simp
        · by_cases e2 : k = 2
          · subst e2; simp [q]
          · by_cases e3 : k = 3
            · subst e3; simp [q]
            · by_cases e4 : k = 4
              · subst e4; simp [q]
              · have e5 : k = 5 := by omega
                subst e5; simp [q]
  · have w0 : Sh (aNew h (.inr (.inl (3, fun _ => 0))) 3) := Sh_new w
    have g0 : Rg (aNew h (.inr (.inl (3, fun _ => 0))) 3) := Rg_newA g
    have F0 : Fr [] h (aNew h (.inr (.inl (3, fun _ => 0))) 3) := Fr.refl.new
    have n1 : isA (aNew h (.inr (.inl (3, fun _ => 0))) 3) (aSz h) = true := isA_new1
    have n2 : al (aNew h (.inr (.inl (3, fun _ => 0))) 3) (aSz h) = 3 := al_newA
    have n3 : ai (aNew h (.inr (.inl (3, fun _ => 0))) 3) (aSz h) = fun _ => 0 := ai_newA
    have n4 : aSz (aNew h (.inr (.inl (3, fun _ => 0))) 3) = aSz h + 1 := rfl
    have n5 : aSl (aNew h (.inr (.inl (3, fun _ => 0))) 3) = aSl h + 3 := rfl
    have o0 : isO (aNew h (.inr (.inl (3, fun _ => 0))) 3) c 1 = true := by rw [isO_new hlt]; exact oc
    have d1 : gf (aNew h (.inr (.inl (3, fun _ => 0))) 3) c 1 = aI kd := by rw [gf_new hlt]; exact c1
    have d3 : gf (aNew h (.inr (.inl (3, fun _ => 0))) 3) c 3 = aI hd := by rw [gf_new hlt]; exact c3
    have d5 : gf (aNew h (.inr (.inl (3, fun _ => 0))) 3) c 5 = aI dy := by rw [gf_new hlt]; exact c5
    have s0 : ex (ev d) k_Ch_firstMarks 0 [aQ (some c)] [] h = ex (ev d) k_Ch_firstMarks 52 [aQ (some c)] [aQ (some (aSz h))] (aNew h (.inr (.inl (3, fun _ => 0))) 3) := by
      simp (disch := first | assumption | omega | exact aNl_I | exact aNl_Q | exact bl0 | exact bl1 | exact bl2 | exact bl3 | exact bl4 | exact aNl_U) only [u_Ch_firstMarks_0, u_Ch_firstMarks_1, u_Ch_firstMarks_4, u_Ch_firstMarks_5, u_Ch_firstMarks_8, u_Ch_firstMarks_10, u_Ch_firstMarks_12, u_Ch_firstMarks_13, u_Ch_firstMarks_14, u_Ch_firstMarks_15, u_Ch_firstMarks_18, u_Ch_firstMarks_19, u_Ch_firstMarks_20, u_Ch_firstMarks_21, u_Ch_firstMarks_22, u_Ch_firstMarks_25, u_Ch_firstMarks_26, u_Ch_firstMarks_27, u_Ch_firstMarks_28, u_Ch_firstMarks_29, u_Ch_firstMarks_30, u_Ch_firstMarks_31, u_Ch_firstMarks_32, u_Ch_firstMarks_33, u_Ch_firstMarks_36, u_Ch_firstMarks_37, u_Ch_firstMarks_38, u_Ch_firstMarks_39, u_Ch_firstMarks_40, u_Ch_firstMarks_43, u_Ch_firstMarks_44, u_Ch_firstMarks_45, u_Ch_firstMarks_46, u_Ch_firstMarks_47, u_Ch_firstMarks_48, u_Ch_firstMarks_49, u_Ch_firstMarks_50, u_Ch_firstMarks_53, u_Ch_firstMarks_54, u_Ch_firstMarks_55, u_Ch_firstMarks_58, u_Ch_firstMarks_59, u_Ch_firstMarks_60, u_Ch_firstMarks_61, u_Ch_firstMarks_62, u_Ch_firstMarks_65, u_Ch_firstMarks_66, u_Ch_firstMarks_67, u_Ch_firstMarks_68, u_Ch_firstMarks_69, u_Ch_firstMarks_72, u_Ch_firstMarks_73, u_Ch_firstMarks_76, u_Ch_firstMarks_77, u_Ch_firstMarks_80, u_Ch_firstMarks_82, u_Ch_firstMarks_83, aSz_pf, aSz_sa, aSz_sr, isO_pf, isO_sa, isO_sr, isA_pf, isA_sa, isA_sr, isR_pf, isR_sa, isR_sr, al_pf, al_sa, al_sr, gf_sa, gf_sr, ai_pf, ai_sr, ra_pf, ra_sa, gf_pn, ai_sn, ra_sn, sa_sa, pf_pf, fi_sa, fi_sr, fi_pn, gO_pf, gO_sa, gO_sr, gA_pf, gA_sa, gA_sr, gR_pf, gR_sa, gR_sr, isAR_pf, isAR_sa, isAR_sr, okQ_pf, okQ_sa, okQ_sr, okC_pf, okC_sa, okC_sr, okQ_n, gB_t, wr_id, wr_ai, wr_fi, wr_wand, wr_wor, wr_wxor, wr_wshl, wr_wshr, wr_lt, wr_gt, Int.reduceEq, Int.reduceLT, Int.reduceLE, Int.reduceNeg, b01, b10, and_self, true_and, and_true, false_and, and_false, or_false, false_or, or_true, true_or, ite_not, not_true_eq_false, not_false_eq_true, kk_v, kk_0, reduceCtorEq, if_true, if_false, ite_true, ite_false, swt, Option.some.injEq, gO_ok, gA_ok, gR_ok, isAR_A, isAR_2, gO_ok oc, c1, q, show Int.toNat 3 = 3 from rfl]
    generalize aNew h (.inr (.inl (3, fun _ => 0))) 3 = h0 at *
    have hE : ∀ f, ai (sa h0 (aSz h) f) (aSz h) = f := fun f => ai_se n1
    refine ⟨sa h0 (aSz h) (upf (upf (upf (fun _ => 0) 0 hd) 1 dy) 2 (if kd = 2 then 2 else 8)), ?_, ⟨Sh_sa w0 (by omega), Rg_sa g0 (inr_upf (by split <;> exact ⟨by decide, by decide⟩) (inr_upf i3 (inr_upf i1 (fun _ => inr0))))⟩, F0.sa (Or.inl (Nat.le_refl _)), ⟨Or.inl hw, by rw [isA_sa]; exact n1, by rw [al_sa, n2, if_neg q]; rfl, fun k k1 k2 => ?_⟩, n4, by show aSl h0 ≤ _; omega⟩
    · rw [s0]
      by_cases q2 : kd = 2
      · simp (disch := first | assumption | omega | exact aNl_I | exact aNl_Q | exact bl0 | exact bl1 | exact bl2 | exact bl3 | exact bl4 | exact aNl_U) only [u_Ch_firstMarks_0, u_Ch_firstMarks_1, u_Ch_firstMarks_4, u_Ch_firstMarks_5, u_Ch_firstMarks_8, u_Ch_firstMarks_10, u_Ch_firstMarks_12, u_Ch_firstMarks_13, u_Ch_firstMarks_14, u_Ch_firstMarks_15, u_Ch_firstMarks_18, u_Ch_firstMarks_19, u_Ch_firstMarks_20, u_Ch_firstMarks_21, u_Ch_firstMarks_22, u_Ch_firstMarks_25, u_Ch_firstMarks_26, u_Ch_firstMarks_27, u_Ch_firstMarks_28, u_Ch_firstMarks_29, u_Ch_firstMarks_30, u_Ch_firstMarks_31, u_Ch_firstMarks_32, u_Ch_firstMarks_33, u_Ch_firstMarks_36, u_Ch_firstMarks_37, u_Ch_firstMarks_38, u_Ch_firstMarks_39, u_Ch_firstMarks_40, u_Ch_firstMarks_43, u_Ch_firstMarks_44, u_Ch_firstMarks_45, u_Ch_firstMarks_46, u_Ch_firstMarks_47, u_Ch_firstMarks_48, u_Ch_firstMarks_49, u_Ch_firstMarks_50, u_Ch_firstMarks_52, u_Ch_firstMarks_53, u_Ch_firstMarks_54, u_Ch_firstMarks_55, u_Ch_firstMarks_58, u_Ch_firstMarks_59, u_Ch_firstMarks_60, u_Ch_firstMarks_61, u_Ch_firstMarks_62, u_Ch_firstMarks_65, u_Ch_firstMarks_66, u_Ch_firstMarks_67, u_Ch_firstMarks_68, u_Ch_firstMarks_69, u_Ch_firstMarks_72, u_Ch_firstMarks_73, u_Ch_firstMarks_76, u_Ch_firstMarks_77, u_Ch_firstMarks_80, u_Ch_firstMarks_82, u_Ch_firstMarks_83, aSz_pf, aSz_sa, aSz_sr, isO_pf, isO_sa, isO_sr, isA_pf, isA_sa, isA_sr, isR_pf, isR_sa, isR_sr, al_pf, al_sa, al_sr, gf_sa, gf_sr, ai_pf, ai_sr, ra_pf, ra_sa, gf_pn, ai_sn, ra_sn, sa_sa, pf_pf, fi_sa, fi_sr, fi_pn, gO_pf, gO_sa, gO_sr, gA_pf, gA_sa, gA_sr, gR_pf, gR_sa, gR_sr, isAR_pf, isAR_sa, isAR_sr, okQ_pf, okQ_sa, okQ_sr, okC_pf, okC_sa, okC_sr, okQ_n, gB_t, wr_id, wr_ai, wr_fi, wr_wand, wr_wor, wr_wxor, wr_wshl, wr_wshr, wr_lt, wr_gt, Int.reduceEq, Int.reduceLT, Int.reduceLE, Int.reduceNeg, b01, b10, and_self, true_and, and_true, false_and, and_false, or_false, false_or, or_true, true_or, ite_not, not_true_eq_false, not_false_eq_true, kk_v, kk_0, reduceCtorEq, if_true, if_false, ite_true, ite_false, swt, Option.some.injEq, gO_ok, gA_ok, gR_ok, isAR_A, isAR_2, o0, n3, d1, d3, d5, hE, q2]
      · simp (disch := first | assumption | omega | exact aNl_I | exact aNl_Q | exact bl0 | exact bl1 | exact bl2 | exact bl3 | exact bl4 | exact aNl_U) only [u_Ch_firstMarks_0, u_Ch_firstMarks_1, u_Ch_firstMarks_4, u_Ch_firstMarks_5, u_Ch_firstMarks_8, u_Ch_firstMarks_10, u_Ch_firstMarks_12, u_Ch_firstMarks_13, u_Ch_firstMarks_14, u_Ch_firstMarks_15, u_Ch_firstMarks_18, u_Ch_firstMarks_19, u_Ch_firstMarks_20, u_Ch_firstMarks_21, u_Ch_firstMarks_22, u_Ch_firstMarks_25, u_Ch_firstMarks_26, u_Ch_firstMarks_27, u_Ch_firstMarks_28, u_Ch_firstMarks_29, u_Ch_firstMarks_30, u_Ch_firstMarks_31, u_Ch_firstMarks_32, u_Ch_firstMarks_33, u_Ch_firstMarks_36, u_Ch_firstMarks_37, u_Ch_firstMarks_38, u_Ch_firstMarks_39, u_Ch_firstMarks_40, u_Ch_firstMarks_43, u_Ch_firstMarks_44, u_Ch_firstMarks_45, u_Ch_firstMarks_46, u_Ch_firstMarks_47, u_Ch_firstMarks_48, u_Ch_firstMarks_49, u_Ch_firstMarks_50, u_Ch_firstMarks_52, u_Ch_firstMarks_53, u_Ch_firstMarks_54, u_Ch_firstMarks_55, u_Ch_firstMarks_58, u_Ch_firstMarks_59, u_Ch_firstMarks_60, u_Ch_firstMarks_61, u_Ch_firstMarks_62, u_Ch_firstMarks_65, u_Ch_firstMarks_66, u_Ch_firstMarks_67, u_Ch_firstMarks_68, u_Ch_firstMarks_69, u_Ch_firstMarks_72, u_Ch_firstMarks_73, u_Ch_firstMarks_76, u_Ch_firstMarks_77, u_Ch_firstMarks_80, u_Ch_firstMarks_82, u_Ch_firstMarks_83, aSz_pf, aSz_sa, aSz_sr, isO_pf, isO_sa, isO_sr, isA_pf, isA_sa, isA_sr, isR_pf, isR_sa, isR_sr, al_pf, al_sa, al_sr, gf_sa, gf_sr, ai_pf, ai_sr, ra_pf, ra_sa, gf_pn, ai_sn, ra_sn, sa_sa, pf_pf, fi_sa, fi_sr, fi_pn, gO_pf, gO_sa, gO_sr, gA_pf, gA_sa, gA_sr, gR_pf, gR_sa, gR_sr, isAR_pf, isAR_sa, isAR_sr, okQ_pf, okQ_sa, okQ_sr, okC_pf, okC_sa, okC_sr, okQ_n, gB_t, wr_id, wr_ai, wr_fi, wr_wand, wr_wor, wr_wxor, wr_wshl, wr_wshr, wr_lt, wr_gt, Int.reduceEq, Int.reduceLT, Int.reduceLE, Int.reduceNeg, b01, b10, and_self, true_and, and_true, false_and, and_false, or_false, false_or, or_true, true_or, ite_not, not_true_eq_false, not_false_eq_true, kk_v, kk_0, reduceCtorEq, if_true, if_false, ite_true, ite_false, swt, Option.some.injEq, gO_ok, gA_ok, gR_ok, isAR_A, isAR_2, o0, n3, d1, d3, d5, hE, q2]
    · rw [if_neg q] at k2
      rw [hE]
      unfold frs upf
      rw [if_neg (show ¬ 3 + k = 0 by omega), if_neg (show ¬ 3 + k = 1 by omega), if_neg (show ¬ 3 + k = 2 by omega)]
      by_cases e0 : k = 0
      · subst e0; simp
      · by_cases e1 : k = 1
        · subst e1; simp
        · have e2 : k = 2 := by omega
          subst e2; simp [q]
/-- a line with another text -/
theorem m_Li_withText (w : Sh h) (g : Rg h) (l : LnR h a A o) (hx : inr x) (h8 : A (o + 2) ≤ 8) (e0 : B o' = x) (e1 : ∀ k, 1 ≤ k → k < 27 → B (o' + k) = A (o + k)) : ∃ h1 b, ev (d + 2) M_Li_withText [aQ (some a), aI x] h = some (some (aQ (some b)), h1) ∧ (Sh h1 ∧ Rg h1) ∧ Fr [] h h1 ∧ LnR h1 b B o' ∧ aSz h1 ≤ aSz h + 1 ∧ aSl h1 ≤ aSl h + 3 := by
  have hw := Sh_lt w
  have l' := l
  obtain ⟨i, m1, m2, m3, b, m4, j1, j2, j3, j4⟩ := l
  have ho := isO_lt m1
  have ga := g.2 a 0
  rw [fi_of m2] at ga
  obtain ⟨x1, x2⟩ := id hx
  obtain ⟨a1, a2⟩ := id ga
  by_cases q : x = A o
  · refine ⟨h, a, ?_, ⟨w, g⟩, Fr.refl, l'.cp h8 fun k k1 k2 => ?_, Nat.le_succ _, Nat.le_add_right _ _⟩
    · rw [n_Li_withText]
      simp (disch := first | assumption | omega | exact aNl_I | exact aNl_Q | exact bl0 | exact bl1 | exact bl2 | exact bl3 | exact bl4 | exact aNl_U) only [u_Li_withText_0, u_Li_withText_1, u_Li_withText_2, u_Li_withText_5, u_Li_withText_8, u_Li_withText_9, u_Li_withText_12, u_Li_withText_15, u_Li_withText_16, u_Li_withText_17, u_Li_withText_18, u_Li_withText_21, u_Li_withText_22, u_Li_withText_25, u_Li_withText_28, aSz_pf, aSz_sa, aSz_sr, isO_pf, isO_sa, isO_sr, isA_pf, isA_sa, isA_sr, isR_pf, isR_sa, isR_sr, al_pf, al_sa, al_sr, gf_sa, gf_sr, ai_pf, ai_sr, ra_pf, ra_sa, gf_pn, ai_sn, ra_sn, sa_sa, pf_pf, fi_sa, fi_sr, fi_pn, gO_pf, gO_sa, gO_sr, gA_pf, gA_sa, gA_sr, gR_pf, gR_sa, gR_sr, isAR_pf, isAR_sa, isAR_sr, okQ_pf, okQ_sa, okQ_sr, okC_pf, okC_sa, okC_sr, okQ_n, gB_t, wr_id, wr_ai, wr_fi, wr_wand, wr_wor, wr_wxor, wr_wshl, wr_wshr, wr_lt, wr_gt, Int.reduceEq, Int.reduceLT, Int.reduceLE, Int.reduceNeg, b01, b10, and_self, true_and, and_true, false_and, and_false, or_false, false_or, or_true, true_or, ite_not, not_true_eq_false, not_false_eq_true, kk_v, kk_0, reduceCtorEq, if_true, if_false, ite_true, ite_false, swt, Option.some.injEq, gO_ok, gA_ok, gR_ok, isAR_A, isAR_2, m2, q]
    · by_cases z : k = 0
      · subst z
        rw [Int.add_zero, Int.add_zero, e0, q]
      · exact e1 k (by omega) k2
  · have w0 : Sh (aNew h (.inl (3, aDf 3)) (aNf 3)) := Sh_new w
    have eN := m_nLn (d := d) (x := x) (y := A (o + 1)) (q := some b) w
    have o0 : isO (aNew h (.inl (3, aDf 3)) (aNf 3)) a 3 = true := by rw [isO_new ho]; exact m1
    have d1 : gf (aNew h (.inl (3, aDf 3)) (aNf 3)) a 1 = aI (A (o + 1)) := by rw [gf_new ho]; exact m3
    have d2 : gf (aNew h (.inl (3, aDf 3)) (aNf 3)) a 2 = aQ (some b) := by rw [gf_new ho]; exact m4
    have s0 : ex (ev (d + 1)) k_Li_withText 12 [aQ (some a), aI x] [] h = some (some (aQ (some (aSz h))), nLn h x (A (o + 1)) (some b)) := by
      rw [u_Li_withText_12]
      generalize aNew h (.inl (3, aDf 3)) (aNf 3) = h0 at *
      simp (disch := first | assumption | omega | exact aNl_I | exact aNl_Q | exact bl0 | exact bl1 | exact bl2 | exact bl3 | exact bl4 | exact aNl_U) only [u_Li_withText_0, u_Li_withText_1, u_Li_withText_2, u_Li_withText_5, u_Li_withText_8, u_Li_withText_9, u_Li_withText_15, u_Li_withText_16, u_Li_withText_17, u_Li_withText_18, u_Li_withText_21, u_Li_withText_22, u_Li_withText_25, u_Li_withText_28, aSz_pf, aSz_sa, aSz_sr, isO_pf, isO_sa, isO_sr, isA_pf, isA_sa, isA_sr, isR_pf, isR_sa, isR_sr, al_pf, al_sa, al_sr, gf_sa, gf_sr, ai_pf, ai_sr, ra_pf, ra_sa, gf_pn, ai_sn, ra_sn, sa_sa, pf_pf, fi_sa, fi_sr, fi_pn, gO_pf, gO_sa, gO_sr, gA_pf, gA_sa, gA_sr, gR_pf, gR_sa, gR_sr, isAR_pf, isAR_sa, isAR_sr, okQ_pf, okQ_sa, okQ_sr, okC_pf, okC_sa, okC_sr, okQ_n, gB_t, wr_id, wr_ai, wr_fi, wr_wand, wr_wor, wr_wxor, wr_wshl, wr_wshr, wr_lt, wr_gt, Int.reduceEq, Int.reduceLT, Int.reduceLE, Int.reduceNeg, b01, b10, and_self, true_and, and_true, false_and, and_false, or_false, false_or, or_true, true_or, ite_not, not_true_eq_false, not_false_eq_true, kk_v, kk_0, reduceCtorEq, if_true, if_false, ite_true, ite_false, swt, Option.some.injEq, gO_ok, gA_ok, gR_ok, isAR_A, isAR_2, o0, d1, d2, eN]
    have FN : Fr [] h (nLn h x (A (o + 1)) (some b)) := nLn_F
    have qb := FN.2 b (isA_lt j2) (by simp)
    have b1 := e1 1 (by omega) (by omega)
    have b2 := e1 2 (by omega) (by omega)
    refine ⟨nLn h x (A (o + 1)) (some b), aSz h, ?_, ⟨nLn_w w, nLn_g g hx (by have := g.2 a 1; rwa [fi_of m3] at this)⟩, FN, ⟨Or.inl hw, nLn_o w, by rw [nLn_0 w, e0], by rw [nLn_1 w, b1], b, nLn_2 w, j1, isA_co qb FN.1 j2, by rw [al_co qb, b2]; exact j3, fun k k1 k2 => ?_⟩, Nat.le_refl _, Nat.le_refl _⟩
    · rw [n_Li_withText]
      simp (disch := first | assumption | omega | exact aNl_I | exact aNl_Q | exact bl0 | exact bl1 | exact bl2 | exact bl3 | exact bl4 | exact aNl_U) only [u_Li_withText_0, u_Li_withText_1, u_Li_withText_2, u_Li_withText_5, u_Li_withText_8, u_Li_withText_9, u_Li_withText_15, u_Li_withText_16, u_Li_withText_17, u_Li_withText_18, u_Li_withText_21, u_Li_withText_22, u_Li_withText_25, u_Li_withText_28, aSz_pf, aSz_sa, aSz_sr, isO_pf, isO_sa, isO_sr, isA_pf, isA_sa, isA_sr, isR_pf, isR_sa, isR_sr, al_pf, al_sa, al_sr, gf_sa, gf_sr, ai_pf, ai_sr, ra_pf, ra_sa, gf_pn, ai_sn, ra_sn, sa_sa, pf_pf, fi_sa, fi_sr, fi_pn, gO_pf, gO_sa, gO_sr, gA_pf, gA_sa, gA_sr, gR_pf, gR_sa, gR_sr, isAR_pf, isAR_sa, isAR_sr, okQ_pf, okQ_sa, okQ_sr, okC_pf, okC_sa, okC_sr, okQ_n, gB_t, wr_id, wr_ai, wr_fi, wr_wand, wr_wor, wr_wxor, wr_wshl, wr_wshr, wr_lt, wr_gt, Int.reduceEq, Int.reduceLT, Int.reduceLE, Int.reduceNeg, b01, b10, and_self, true_and, and_true, false_and, and_false, or_false, false_or, or_true, true_or, ite_not, not_true_eq_false, not_false_eq_true, kk_v, kk_0, reduceCtorEq, if_true, if_false, ite_true, ite_false, swt, Option.some.injEq, gO_ok, gA_ok, gR_ok, isAR_A, isAR_2, m2, q, s0]
    · rw [b2] at k2
      rw [ai_co qb, j4 k k1 k2, Int.add_assoc, Int.add_assoc, e1 (3 + k) (by omega) (by omega)]
/-- while the new lines of change c are made -/
def npJ (h : aH) (c R : Nat) (B : Int → Int) (o n j kp : Int) (hi : aH) : Prop := (Sh hi ∧ Rg hi) ∧ Fr [c, R] h hi ∧ (isR hi R 2 = true ∧ (al hi R : Int) = n) ∧ (∀ k, 0 ≤ k → k < j → ∃ a, ra hi R k = some a ∧ LnR hi a B (o + 27 * k)) ∧ (isO hi c 1 = true ∧ gf hi c 7 = aI kp ∧ ∀ k, k ≠ 7 → gf hi c k = gf h c k) ∧ (aSz hi : Int) ≤ aSz h + j ∧ (aSl hi : Int) ≤ aSl h + 3 * j
theorem npJ.put {j : Int} (J : npJ h c R B o n j kp hi) (h0 : 0 ≤ j) (w1 : Sh h1 ∧ Rg h1) (F1 : Fr [] hi h1) (l : LnR h1 a B (o + 27 * j)) (z1 : aSz h1 ≤ aSz hi + 1) (z2 : aSl h1 ≤ aSl hi + 3) (hR30 : R ≠ 30) : npJ h c R B o n (j + 1) kp (sr h1 R (upf (ra h1 R) j (some a))) := by
  obtain ⟨⟨w, g⟩, F, ⟨j1, j2⟩, j3, ⟨j6, j7, j8⟩, j4, j5⟩ := J
  have q := F1.2 R (isR_lt j1) (by simp)
  have qc := F1.2 c (isO_lt j6) (by simp)
  have k1 := isR_co q F1.1 j1
  refine ⟨⟨Sh_sr w1.1 hR30, Rg_sr w1.2⟩, (F.transn F1 (by simp)).sr (Or.inr (by simp)), ⟨by rw [isR_sr]; exact k1, by rw [al_sr, al_co q]; exact j2⟩, fun k k2 k3 => ?_, ⟨by rw [isO_sr]; exact isO_co qc F1.1 j6, by rw [gf_sr, gf_co qc]; exact j7, fun k k1 => by rw [gf_sr, gf_co qc]; exact j8 k k1⟩, ?_, ?_⟩
  · rw [ra_se k1]
    by_cases e : k = j
    · subst e
      exact ⟨a, upf_oe, l.sr⟩
    · obtain ⟨a', m1, m2⟩ := j3 k k2 (by omega)
      exact ⟨a', by rw [upf_on e, ra_co q]; exact m1, (m2.fr F1 nim0).sr⟩
  · show (aSz h1 : Int) ≤ _; omega
  · show (aSl h1 : Int) ≤ _; omega
theorem LnR.pfc {k : Nat} {v : aV} (l : LnR h a A o) (oc : isO h c 1 = true) : LnR (pf h c k v) a A o := by
  obtain ⟨i, m1, m2, m3, b, m4, j1, j2, j3, j4⟩ := l
  have n1 := isO_ne m1 oc (by decide)
  exact ⟨i, by rw [isO_pf]; exact m1, by rw [gf_pn (Or.inl n1)]; exact m2, by rw [gf_pn (Or.inl n1)]; exact m3, b, by rw [gf_pn (Or.inl n1)]; exact m4, j1, by rw [isA_pf]; exact j2, by rw [al_pf]; exact j3, by rw [ai_pf]; exact j4⟩
theorem npJ.inc {j kp' : Int} (J : npJ h c R B o n j kp hi) (hc : 66 ≤ c) (hk : inr kp') : npJ h c R B o n j kp' (pf hi c 7 (aI kp')) := by
  obtain ⟨⟨w, g⟩, F, ⟨j1, j2⟩, j3, ⟨j6, j7, j8⟩, j4, j5⟩ := J
  refine ⟨⟨Sh_pfD w hc, Rg_pf g hk⟩, F.pf (Or.inr (by simp)), ⟨by rw [isR_pf]; exact j1, by rw [al_pf]; exact j2⟩, fun k k2 k3 => ?_, ⟨by rw [isO_pf]; exact j6, gf_pe j6 (by decide), fun k k1 => by rw [gf_pn (Or.inr k1)]; exact j8 k k1⟩, j4, j5⟩
  obtain ⟨a', m1, m2⟩ := j3 k k2 k3
  exact ⟨a', by rw [ra_pf]; exact m1, m2.pfc j6⟩
theorem l_np_new (w : Sh hi) (g : Rg hi) {j : Int} {y : aV} (k4 : gf hi 18 4 = aQ (some 6)) (hj : 0 ≤ j ∧ j < 20) (hy : ai hi 6 j = Y j) (oc : isO hi c 1 = true) (hc : gf hi c 0 = aI C) (hb : MkF hi b kd hd ot dy) (hB : ∀ k, 0 ≤ k → k < 27 → B (o' + k) = frs kd hd ot dy C (Y j) k) :
    ∃ hh a, ex (ev (d + 1)) k_Kp_newPage 43 [aQ (some 18), aQ (some c), aQ (some R), aQ (some b), aI j, y] [aI j, aQ (some R)] hi = ex (ev (d + 1)) k_Kp_newPage 62 [aQ (some 18), aQ (some c), aQ (some R), aQ (some b), aI j, y] [aQ (some a), aI j, aQ (some R)] hh ∧ (Sh hh ∧ Rg hh) ∧ Fr [] hi hh ∧ LnR hh a B o' ∧ aSz hh = aSz hi + 1 ∧ aSl hh = aSl hi + 3 := by
  have hw := Sh_lt w
  have hlt := isO_lt oc
  obtain ⟨b0, b1, b2, b3⟩ := hb
  have w0 : Sh (aNew hi (.inl (3, aDf 3)) (aNf 3)) := Sh_new w
  have eN := m_nLn (d := d) (x := Y j) (y := C) (q := some b) w
  have o0 : isO (aNew hi (.inl (3, aDf 3)) (aNf 3)) c 1 = true := by rw [isO_new hlt]; exact oc
  have d0 : gf (aNew hi (.inl (3, aDf 3)) (aNf 3)) c 0 = aI C := by rw [gf_new hlt]; exact hc
  have d4 : gf (aNew hi (.inl (3, aDf 3)) (aNf 3)) 18 4 = aQ (some 6) := by rw [gf_new (by omega)]; exact k4
  have d6 : ai (aNew hi (.inl (3, aDf 3)) (aNf 3)) 6 j = Y j := by rw [ai_new (by omega)]; exact hy
  have s0 : ex (ev (d + 1)) k_Kp_newPage 43 [aQ (some 18), aQ (some c), aQ (some R), aQ (some b), aI j, y] [aI j, aQ (some R)] hi = ex (ev (d + 1)) k_Kp_newPage 62 [aQ (some 18), aQ (some c), aQ (some R), aQ (some b), aI j, y] [aQ (some (aSz hi)), aI j, aQ (some R)] (nLn hi (Y j) C (some b)) := by
    rw [u_Kp_newPage_43]
    generalize aNew hi (.inl (3, aDf 3)) (aNf 3) = h0 at *
    simp (disch := first | assumption | omega | exact aNl_I | exact aNl_Q | exact bl0 | exact bl1 | exact bl2 | exact bl3 | exact bl4 | exact aNl_U) only [u_Kp_newPage_0, u_Kp_newPage_1, u_Kp_newPage_4, u_Kp_newPage_7, u_Kp_newPage_8, u_Kp_newPage_9, u_Kp_newPage_12, u_Kp_newPage_13, u_Kp_newPage_14, u_Kp_newPage_18, u_Kp_newPage_19, u_Kp_newPage_22, u_Kp_newPage_25, u_Kp_newPage_26, u_Kp_newPage_29, u_Kp_newPage_31, u_Kp_newPage_32, u_Kp_newPage_34, u_Kp_newPage_36, u_Kp_newPage_37, u_Kp_newPage_40, u_Kp_newPage_41, u_Kp_newPage_46, u_Kp_newPage_47, u_Kp_newPage_48, u_Kp_newPage_51, u_Kp_newPage_53, u_Kp_newPage_54, u_Kp_newPage_55, u_Kp_newPage_58, u_Kp_newPage_59, u_Kp_newPage_63, u_Kp_newPage_66, u_Kp_newPage_67, u_Kp_newPage_69, u_Kp_newPage_70, u_Kp_newPage_73, u_Kp_newPage_75, u_Kp_newPage_76, u_Kp_newPage_77, u_Kp_newPage_80, u_Kp_newPage_82, u_Kp_newPage_83, u_Kp_newPage_86, u_Kp_newPage_87, u_Kp_newPage_88, u_Kp_newPage_89, u_Kp_newPage_92, u_Kp_newPage_93, u_Kp_newPage_94, u_Kp_newPage_97, u_Kp_newPage_100, u_Kp_newPage_103, u_Kp_newPage_106, u_Kp_newPage_107, u_Kp_newPage_108, u_Kp_newPage_111, aSz_pf, aSz_sa, aSz_sr, isO_pf, isO_sa, isO_sr, isA_pf, isA_sa, isA_sr, isR_pf, isR_sa, isR_sr, al_pf, al_sa, al_sr, gf_sa, gf_sr, ai_pf, ai_sr, ra_pf, ra_sa, gf_pn, ai_sn, ra_sn, sa_sa, pf_pf, fi_sa, fi_sr, fi_pn, gO_pf, gO_sa, gO_sr, gA_pf, gA_sa, gA_sr, gR_pf, gR_sa, gR_sr, isAR_pf, isAR_sa, isAR_sr, okQ_pf, okQ_sa, okQ_sr, okC_pf, okC_sa, okC_sr, okQ_n, gB_t, sg_3, sg_4, sg_9, sg_11, sg_16, sg_18, sg_21, sg_23, sg_28, sg_31, sg_33, sg_35, sg_37, sg_39, sq_3_0, sq_3_1, sq_3_2, sq_3_3, sq_3_4, sq_3_5, sq_3_6, sq_4_1, sq_4_6, sq_4_7, sq_4_9, sq_11_1, sq_11_6, sq_11_7, sq_11_9, sq_9_0, sq_16_0, sq_18_0, sq_18_1, sq_21_0, sq_23_1, sq_23_2, sq_23_4, sq_23_5, sq_28_0, sq_31_2, sq_33_2, sq_35_2, sq_37_2, sq_39_0, sq_39_1, sq_39_2, sq_39_3, sq_39_4, sq_39_5, sq_39_6, sq_39_7, sq_39_8, sq_39_9, sq_39_10, sq_39_11, sq_39_12, sq_39_13, sq_39_14, sq_39_15, sq_39_19, sq_39_20, sq_39_22, sq_39_24, sq_39_25, sq_39_26, sq_39_27, sq_39_29, sq_39_30, sq_39_31, si_3_7, si_3_8, si_3_9, si_4_0, si_4_2, si_4_3, si_4_4, si_4_5, si_4_8, si_11_0, si_11_2, si_11_3, si_11_4, si_11_5, si_11_8, si_18_2, si_18_5, si_18_6, si_23_0, si_23_3, si_28_1, si_31_0, si_31_1, si_33_0, si_33_1, si_35_0, si_35_1, si_37_0, si_37_1, si_39_16, si_39_17, si_39_18, si_39_21, si_39_23, si_39_28, sp_3_7, sp_3_8, sp_3_9, sp_4_0, sp_4_2, sp_4_3, sp_4_4, sp_4_5, sp_4_8, sp_11_0, sp_11_2, sp_11_3, sp_11_4, sp_11_5, sp_11_8, sp_18_2, sp_18_5, sp_18_6, sp_23_0, sp_23_3, sp_28_1, sp_31_0, sp_31_1, sp_33_0, sp_33_1, sp_35_0, sp_35_1, sp_37_0, sp_37_1, sp_39_16, sp_39_17, sp_39_18, sp_39_21, sp_39_23, sp_39_28, sf_3_7, sf_3_8, sf_3_9, sf_4_0, sf_4_2, sf_4_3, sf_4_4, sf_4_5, sf_4_8, sf_11_0, sf_11_2, sf_11_3, sf_11_4, sf_11_5, sf_11_8, sf_18_2, sf_18_5, sf_18_6, sf_23_0, sf_23_3, sf_28_1, sf_31_0, sf_31_1, sf_33_0, sf_33_1, sf_35_0, sf_35_1, sf_37_0, sf_37_1, sf_39_16, sf_39_17, sf_39_18, sf_39_21, sf_39_23, sf_39_28, sp_18_3, sp_18_4, sG_1, sG_2, sG_5, sG_6, sG_12, sG_13, sG_19, sG_20, sG_22, sG_24, sG_25, sG_26, sG_27, sG_29, sG_32, sG_34, sG_36, sG_38, sG_40, sG_41, sG_42, sG_43, sG_44, sG_45, sG_46, sG_47, sG_48, sG_49, sG_50, sG_51, sG_52, sG_53, sG_54, sG_55, sG_56, sG_57, sG_58, sG_59, sG_60, sG_61, sG_62, sG_63, sG_64, sG_65, sE_1, sE_2, sE_5, sE_6, sE_12, sE_13, sE_19, sE_20, sE_22, sE_24, sE_25, sE_26, sE_27, sE_29, sE_32, sE_34, sE_36, sE_38, sE_40, sE_41, sE_42, sE_43, sE_44, sE_45, sE_46, sE_47, sE_48, sE_49, sE_50, sE_51, sE_52, sE_53, sE_54, sE_55, sE_56, sE_57, sE_58, sE_59, sE_60, sE_61, sE_62, sE_63, sE_64, sE_65, sG_7, sG_8, sG_10, sG_14, sG_15, sG_17, sG_30, sE_7, sE_8, sE_10, sE_14, sE_15, sE_17, sE_30, sS_0, sS_1, sS_2, sS_3, wr_id, wr_ai, wr_fi, wr_wand, wr_wor, wr_wxor, wr_wshl, wr_wshr, wr_lt, wr_gt, Int.reduceEq, Int.reduceLT, Int.reduceLE, Int.reduceNeg, b01, b10, and_self, true_and, and_true, false_and, and_false, or_false, false_or, or_true, true_or, ite_not, not_true_eq_false, not_false_eq_true, kk_v, kk_0, reduceCtorEq, if_true, if_false, ite_true, ite_false, swt, Option.some.injEq, gO_ok, o0, d0, d4, d6, eN]
  have FN : Fr [] hi (nLn hi (Y j) C (some b)) := nLn_F
  have qb := FN.2 b (isA_lt b1) (by simp)
  have e0 := hB 0 (by omega) (by omega)
  have e1 := hB 1 (by omega) (by omega)
  have e2 := hB 2 (by omega) (by omega)
  have gy := g.1 6 j
  rw [hy] at gy
  have gc := g.2 c 0
  rw [fi_of hc] at gc
  have t2 : frs kd hd ot dy C (Y j) 2 = if kd = 3 then 2 else 1 := by unfold frs; simp
  have t1 : frs kd hd ot dy C (Y j) 1 = C := by unfold frs; simp
  have t0 : frs kd hd ot dy C (Y j) 0 = Y j := by unfold frs; simp
  rw [t2] at e2
  rw [t1] at e1
  rw [t0, Int.add_zero] at e0
  refine ⟨nLn hi (Y j) C (some b), aSz hi, s0, ⟨nLn_w w, nLn_g g gy gc⟩, FN, ⟨Or.inl hw, nLn_o w, by rw [nLn_0 w, e0], by rw [nLn_1 w, e1], b, nLn_2 w, b0, isA_co qb FN.1 b1, by rw [al_co qb, b2, e2]; split <;> rfl, fun k k1 k2 => ?_⟩, rfl, rfl⟩
  rw [e2] at k2
  have k3 : k < if kd = 3 then 6 else 3 := by
    revert k2
    split <;> intro k2 <;> omega
  have k4 : k < 6 := by
    revert k3
    split <;> intro k3 <;> omega
  rw [ai_co qb, b3 k k1 k3, Int.add_assoc, hB (3 + k) (by omega) (by omega)]
  unfold frs
  rw [if_neg (show ¬ 3 + k = 0 by omega), if_neg (show ¬ 3 + k = 1 by omega), if_neg (show ¬ 3 + k = 0 by omega), if_neg (show ¬ 3 + k = 1 by omega)]
end NP
