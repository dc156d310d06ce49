/-! the reference's image -/
section IMG
variable {d : Nat} {h : aH} {a : Nat} {F A : Int → Int} {p n : Int}
theorem pfsapf {a b k : Nat} {v w : aV} {g : Int → Int} (e : a ≠ b) : pf (sa (pf h b k v) a g) b k w = pf (sa h a g) b k w := by
  refine hext rfl rfl fun m => ?_
  simp only [aCo_pf, aCo_sa]
  by_cases e1 : m = b
  · subst e1
    have e2 : ¬ m = a := fun q => e q.symm
    simp only [if_true, if_neg e2]
    rcases aCo h m with o | o | o
    · simp
    · rfl
    · rfl
  · by_cases e2 : m = a
    · subst e2
      simp only [if_neg e1, if_true]
    · simp only [if_neg e1, if_neg e2]
/-- n numbers of A at p -/
def cpF (F A : Int → Int) (p n : Int) : Int → Int := fun j => if p ≤ j ∧ j < p + n then A (j - p) else F j
theorem cpF_in {j : Int} (h1 : p ≤ j) (h2 : j < p + n) : cpF F A p n j = A (j - p) := if_pos ⟨h1, h2⟩
theorem cpF_out {j : Int} (h1 : j < p ∨ p + n ≤ j) : cpF F A p n j = F j := if_neg (by omega)
theorem cpF_0 : cpF F A p 0 = F := by
  funext j
  unfold cpF
  rw [if_neg (by omega)]
theorem cpF_s {k : Int} (hk : 0 ≤ k) : upf (cpF F A p k) (p + k) (A k) = cpF F A p (k + 1) := by
  funext j
  unfold upf cpF
  by_cases c : j = p + k
  · rw [if_pos c, if_pos (by omega), show j - p = k by omega]
  · rw [if_neg c]
    by_cases c2 : p ≤ j ∧ j < p + k
    · rw [if_pos c2, if_pos (by omega)]
    · rw [if_neg c2, if_neg (by omega)]
def imH (h : aH) (F : Int → Int) (p : Int) : aH := pf (sa h 55 F) 39 21 (aI p)
theorem l_R_keeps1 (w : Sh h) (hA : isA h a = true) (h55 : a ≠ 55) (hn : (al h a : Int) = n) (hp : 0 ≤ p ∧ p + n ≤ 36800) : ∀ (m : Nat) (k : Int), 0 ≤ k → k ≤ n → (n - k).toNat = m →
    ex (ev d) k_R_keeps 2 [aQ (some 39), aQ (some a), aI 1, aI k] [] (imH h (cpF F (ai h a) p k) (p + k)) = some (none, imH h (cpF F (ai h a) p n) (p + n)) := by
  have hAR := isAR_A hA
  intro m
  induction m with
  | zero =>
    intro k h1 h2 hm
    have e : k = n := by omega
    subst e
    unfold imH
    rw [u_R_keeps_2]
    simp (disch := first | assumption | omega | exact aNl_I | exact aNl_Q | exact bl0 | exact bl1 | exact bl2 | exact bl3 | exact bl4 | exact aNl_U | ((repeat (first | assumption | refine Sh_sa ?_ (by decide) | refine Sh_pfI ?_ (by decide) (by decide) | refine Sh_sr ?_ (by decide) | refine Sh_new ?_)); done) | fail) only [u_R_keeps_0, u_R_keeps_1, u_R_keeps_3, u_R_keeps_4, u_R_keeps_5, u_R_keeps_8, u_R_keeps_9, u_R_keeps_12, u_R_keeps_13, u_R_keeps_16, u_R_keeps_17, u_R_keeps_20, u_R_keeps_21, u_R_keeps_22, u_R_keeps_23, u_R_keeps_24, u_R_keeps_27, u_R_keeps_28, u_R_keeps_29, u_R_keeps_30, u_R_keeps_33, u_R_keeps_34, u_R_keeps_37, u_R_keeps_38, u_R_keeps_39, u_R_keeps_40, u_R_keeps_41, u_R_keeps_44, u_R_keeps_45, u_R_keeps_46, u_R_keeps_49, u_R_keeps_52, u_R_keeps_55, aSz_pf, aSz_sa, aSz_sr, isO_pf, isO_sa, isO_sr, isA_pf, isA_sa, isA_sr, isR_pf, isR_sa, isR_sr, al_pf, al_sa, al_sr, gf_sa, gf_sr, ai_pf, ai_sr, ra_pf, ra_sa, gf_pn, ai_sn, ra_sn, sa_sa, pf_pf, fi_sa, fi_sr, fi_pn, gO_pf, gO_sa, gO_sr, gA_pf, gA_sa, gA_sr, gR_pf, gR_sa, gR_sr, isAR_pf, isAR_sa, isAR_sr, okQ_pf, okQ_sa, okQ_sr, okC_pf, okC_sa, okC_sr, okQ_n, gB_t, sg_3, sg_4, sg_9, sg_11, sg_16, sg_18, sg_21, sg_23, sg_28, sg_31, sg_33, sg_35, sg_37, sg_39, sq_3_0, sq_3_1, sq_3_2, sq_3_3, sq_3_4, sq_3_5, sq_3_6, sq_4_1, sq_4_6, sq_4_7, sq_4_9, sq_11_1, sq_11_6, sq_11_7, sq_11_9, sq_9_0, sq_16_0, sq_18_0, sq_18_1, sq_21_0, sq_23_1, sq_23_2, sq_23_4, sq_23_5, sq_28_0, sq_31_2, sq_33_2, sq_35_2, sq_37_2, sq_39_0, sq_39_1, sq_39_2, sq_39_3, sq_39_4, sq_39_5, sq_39_6, sq_39_7, sq_39_8, sq_39_9, sq_39_10, sq_39_11, sq_39_12, sq_39_13, sq_39_14, sq_39_15, sq_39_19, sq_39_20, sq_39_22, sq_39_24, sq_39_25, sq_39_26, sq_39_27, sq_39_29, sq_39_30, sq_39_31, si_3_7, si_3_8, si_3_9, si_4_0, si_4_2, si_4_3, si_4_4, si_4_5, si_4_8, si_11_0, si_11_2, si_11_3, si_11_4, si_11_5, si_11_8, si_18_2, si_18_5, si_18_6, si_23_0, si_23_3, si_28_1, si_31_0, si_31_1, si_33_0, si_33_1, si_35_0, si_35_1, si_37_0, si_37_1, si_39_16, si_39_17, si_39_18, si_39_21, si_39_23, si_39_28, sp_3_7, sp_3_8, sp_3_9, sp_4_0, sp_4_2, sp_4_3, sp_4_4, sp_4_5, sp_4_8, sp_11_0, sp_11_2, sp_11_3, sp_11_4, sp_11_5, sp_11_8, sp_18_2, sp_18_5, sp_18_6, sp_23_0, sp_23_3, sp_28_1, sp_31_0, sp_31_1, sp_33_0, sp_33_1, sp_35_0, sp_35_1, sp_37_0, sp_37_1, sp_39_16, sp_39_17, sp_39_18, sp_39_21, sp_39_23, sp_39_28, sf_3_7, sf_3_8, sf_3_9, sf_4_0, sf_4_2, sf_4_3, sf_4_4, sf_4_5, sf_4_8, sf_11_0, sf_11_2, sf_11_3, sf_11_4, sf_11_5, sf_11_8, sf_18_2, sf_18_5, sf_18_6, sf_23_0, sf_23_3, sf_28_1, sf_31_0, sf_31_1, sf_33_0, sf_33_1, sf_35_0, sf_35_1, sf_37_0, sf_37_1, sf_39_16, sf_39_17, sf_39_18, sf_39_21, sf_39_23, sf_39_28, sp_18_3, sp_18_4, sG_1, sG_2, sG_5, sG_6, sG_12, sG_13, sG_19, sG_20, sG_22, sG_24, sG_25, sG_26, sG_27, sG_29, sG_32, sG_34, sG_36, sG_38, sG_40, sG_41, sG_42, sG_43, sG_44, sG_45, sG_46, sG_47, sG_48, sG_49, sG_50, sG_51, sG_52, sG_53, sG_54, sG_55, sG_56, sG_57, sG_58, sG_59, sG_60, sG_61, sG_62, sG_63, sG_64, sG_65, sE_1, sE_2, sE_5, sE_6, sE_12, sE_13, sE_19, sE_20, sE_22, sE_24, sE_25, sE_26, sE_27, sE_29, sE_32, sE_34, sE_36, sE_38, sE_40, sE_41, sE_42, sE_43, sE_44, sE_45, sE_46, sE_47, sE_48, sE_49, sE_50, sE_51, sE_52, sE_53, sE_54, sE_55, sE_56, sE_57, sE_58, sE_59, sE_60, sE_61, sE_62, sE_63, sE_64, sE_65, sG_7, sG_8, sG_10, sG_14, sG_15, sG_17, sG_30, sE_7, sE_8, sE_10, sE_14, sE_15, sE_17, sE_30, sS_0, sS_1, sS_2, sS_3, wr_id, wr_ai, wr_fi, wr_wand, wr_wor, wr_wxor, wr_wshl, wr_wshr, wr_lt, wr_gt, Int.reduceEq, Int.reduceLT, Int.reduceLE, Int.reduceNeg, b01, b10, and_self, true_and, and_true, false_and, and_false, or_false, false_or, or_true, true_or, ite_not, not_true_eq_false, not_false_eq_true, kk_v, kk_0, reduceCtorEq, if_true, if_false, ite_true, ite_false, swt, Option.some.injEq, hAR, hn, Int.lt_irrefl]
  | succ m ih =>
    intro k h1 h2 hm
    have c : k < n := by omega
    have hgo := ih (k + 1) (by omega) (by omega) (by omega)
    have hG : ∀ y, gA h a k y = y := fun y => gA_ok hA h1 (by omega) (by omega)
    have e3 := cpF_s (F := F) (A := ai h a) (p := p) h1
    have e4 : p + k + 1 = p + (k + 1) := by omega
    unfold imH at hgo ⊢
    rw [u_R_keeps_2]
    simp (disch := first | assumption | omega | exact aNl_I | exact aNl_Q | exact bl0 | exact bl1 | exact bl2 | exact bl3 | exact bl4 | exact aNl_U | ((repeat (first | assumption | refine Sh_sa ?_ (by decide) | refine Sh_pfI ?_ (by decide) (by decide) | refine Sh_sr ?_ (by decide) | refine Sh_new ?_)); done) | fail) only [u_R_keeps_0, u_R_keeps_1, u_R_keeps_3, u_R_keeps_4, u_R_keeps_5, u_R_keeps_8, u_R_keeps_9, u_R_keeps_12, u_R_keeps_13, u_R_keeps_16, u_R_keeps_17, u_R_keeps_20, u_R_keeps_21, u_R_keeps_22, u_R_keeps_23, u_R_keeps_24, u_R_keeps_27, u_R_keeps_28, u_R_keeps_29, u_R_keeps_30, u_R_keeps_33, u_R_keeps_34, u_R_keeps_37, u_R_keeps_38, u_R_keeps_39, u_R_keeps_40, u_R_keeps_41, u_R_keeps_44, u_R_keeps_45, u_R_keeps_46, u_R_keeps_49, u_R_keeps_52, u_R_keeps_55, aSz_pf, aSz_sa, aSz_sr, isO_pf, isO_sa, isO_sr, isA_pf, isA_sa, isA_sr, isR_pf, isR_sa, isR_sr, al_pf, al_sa, al_sr, gf_sa, gf_sr, ai_pf, ai_sr, ra_pf, ra_sa, gf_pn, ai_sn, ra_sn, sa_sa, pf_pf, fi_sa, fi_sr, fi_pn, gO_pf, gO_sa, gO_sr, gA_pf, gA_sa, gA_sr, gR_pf, gR_sa, gR_sr, isAR_pf, isAR_sa, isAR_sr, okQ_pf, okQ_sa, okQ_sr, okC_pf, okC_sa, okC_sr, okQ_n, gB_t, sg_3, sg_4, sg_9, sg_11, sg_16, sg_18, sg_21, sg_23, sg_28, sg_31, sg_33, sg_35, sg_37, sg_39, sq_3_0, sq_3_1, sq_3_2, sq_3_3, sq_3_4, sq_3_5, sq_3_6, sq_4_1, sq_4_6, sq_4_7, sq_4_9, sq_11_1, sq_11_6, sq_11_7, sq_11_9, sq_9_0, sq_16_0, sq_18_0, sq_18_1, sq_21_0, sq_23_1, sq_23_2, sq_23_4, sq_23_5, sq_28_0, sq_31_2, sq_33_2, sq_35_2, sq_37_2, sq_39_0, sq_39_1, sq_39_2, sq_39_3, sq_39_4, sq_39_5, sq_39_6, sq_39_7, sq_39_8, sq_39_9, sq_39_10, sq_39_11, sq_39_12, sq_39_13, sq_39_14, sq_39_15, sq_39_19, sq_39_20, sq_39_22, sq_39_24, sq_39_25, sq_39_26, sq_39_27, sq_39_29, sq_39_30, sq_39_31, si_3_7, si_3_8, si_3_9, si_4_0, si_4_2, si_4_3, si_4_4, si_4_5, si_4_8, si_11_0, si_11_2, si_11_3, si_11_4, si_11_5, si_11_8, si_18_2, si_18_5, si_18_6, si_23_0, si_23_3, si_28_1, si_31_0, si_31_1, si_33_0, si_33_1, si_35_0, si_35_1, si_37_0, si_37_1, si_39_16, si_39_17, si_39_18, si_39_21, si_39_23, si_39_28, sp_3_7, sp_3_8, sp_3_9, sp_4_0, sp_4_2, sp_4_3, sp_4_4, sp_4_5, sp_4_8, sp_11_0, sp_11_2, sp_11_3, sp_11_4, sp_11_5, sp_11_8, sp_18_2, sp_18_5, sp_18_6, sp_23_0, sp_23_3, sp_28_1, sp_31_0, sp_31_1, sp_33_0, sp_33_1, sp_35_0, sp_35_1, sp_37_0, sp_37_1, sp_39_16, sp_39_17, sp_39_18, sp_39_21, sp_39_23, sp_39_28, sf_3_7, sf_3_8, sf_3_9, sf_4_0, sf_4_2, sf_4_3, sf_4_4, sf_4_5, sf_4_8, sf_11_0, sf_11_2, sf_11_3, sf_11_4, sf_11_5, sf_11_8, sf_18_2, sf_18_5, sf_18_6, sf_23_0, sf_23_3, sf_28_1, sf_31_0, sf_31_1, sf_33_0, sf_33_1, sf_35_0, sf_35_1, sf_37_0, sf_37_1, sf_39_16, sf_39_17, sf_39_18, sf_39_21, sf_39_23, sf_39_28, sp_18_3, sp_18_4, sG_1, sG_2, sG_5, sG_6, sG_12, sG_13, sG_19, sG_20, sG_22, sG_24, sG_25, sG_26, sG_27, sG_29, sG_32, sG_34, sG_36, sG_38, sG_40, sG_41, sG_42, sG_43, sG_44, sG_45, sG_46, sG_47, sG_48, sG_49, sG_50, sG_51, sG_52, sG_53, sG_54, sG_55, sG_56, sG_57, sG_58, sG_59, sG_60, sG_61, sG_62, sG_63, sG_64, sG_65, sE_1, sE_2, sE_5, sE_6, sE_12, sE_13, sE_19, sE_20, sE_22, sE_24, sE_25, sE_26, sE_27, sE_29, sE_32, sE_34, sE_36, sE_38, sE_40, sE_41, sE_42, sE_43, sE_44, sE_45, sE_46, sE_47, sE_48, sE_49, sE_50, sE_51, sE_52, sE_53, sE_54, sE_55, sE_56, sE_57, sE_58, sE_59, sE_60, sE_61, sE_62, sE_63, sE_64, sE_65, sG_7, sG_8, sG_10, sG_14, sG_15, sG_17, sG_30, sE_7, sE_8, sE_10, sE_14, sE_15, sE_17, sE_30, sS_0, sS_1, sS_2, sS_3, wr_id, wr_ai, wr_fi, wr_wand, wr_wor, wr_wxor, wr_wshl, wr_wshr, wr_lt, wr_gt, Int.reduceEq, Int.reduceLT, Int.reduceLE, Int.reduceNeg, b01, b10, and_self, true_and, and_true, false_and, and_false, or_false, false_or, or_true, true_or, ite_not, not_true_eq_false, not_false_eq_true, kk_v, kk_0, reduceCtorEq, if_true, if_false, ite_true, ite_false, swt, Option.some.injEq, hAR, hn, c, hG, e3, sapf_c, e4, hgo]
theorem m_R_keeps1 (w : Sh h) (hA : isA h a = true) (h55 : a ≠ 55) (hn : (al h a : Int) = n) (hp : 0 ≤ p ∧ p + n ≤ 36800) : ev (d + 1) M_R_keeps [aQ (some 39), aQ (some a), aI 1] (imH h F p) = some (none, imH h (cpF F (ai h a) p n) (p + n)) := by
  have key := l_R_keeps1 (d := d) (F := F) w hA h55 hn hp _ 0 (by omega) (by omega) rfl
  rw [cpF_0, Int.add_zero] at key
  rw [n_R_keeps]
  simp (disch := first | assumption | omega | exact aNl_I | exact aNl_Q | exact bl0 | exact bl1 | exact bl2 | exact bl3 | exact bl4 | exact aNl_U) only [u_R_keeps_0, u_R_keeps_1, u_R_keeps_3, u_R_keeps_4, u_R_keeps_5, u_R_keeps_8, u_R_keeps_9, u_R_keeps_12, u_R_keeps_13, u_R_keeps_16, u_R_keeps_17, u_R_keeps_20, u_R_keeps_21, u_R_keeps_22, u_R_keeps_23, u_R_keeps_24, u_R_keeps_27, u_R_keeps_28, u_R_keeps_29, u_R_keeps_30, u_R_keeps_33, u_R_keeps_34, u_R_keeps_37, u_R_keeps_38, u_R_keeps_39, u_R_keeps_40, u_R_keeps_41, u_R_keeps_44, u_R_keeps_45, u_R_keeps_46, u_R_keeps_49, u_R_keeps_52, u_R_keeps_55, aSz_pf, aSz_sa, aSz_sr, isO_pf, isO_sa, isO_sr, isA_pf, isA_sa, isA_sr, isR_pf, isR_sa, isR_sr, al_pf, al_sa, al_sr, gf_sa, gf_sr, ai_pf, ai_sr, ra_pf, ra_sa, gf_pn, ai_sn, ra_sn, sa_sa, pf_pf, fi_sa, fi_sr, fi_pn, gO_pf, gO_sa, gO_sr, gA_pf, gA_sa, gA_sr, gR_pf, gR_sa, gR_sr, isAR_pf, isAR_sa, isAR_sr, okQ_pf, okQ_sa, okQ_sr, okC_pf, okC_sa, okC_sr, okQ_n, gB_t, sg_3, sg_4, sg_9, sg_11, sg_16, sg_18, sg_21, sg_23, sg_28, sg_31, sg_33, sg_35, sg_37, sg_39, sq_3_0, sq_3_1, sq_3_2, sq_3_3, sq_3_4, sq_3_5, sq_3_6, sq_4_1, sq_4_6, sq_4_7, sq_4_9, sq_11_1, sq_11_6, sq_11_7, sq_11_9, sq_9_0, sq_16_0, sq_18_0, sq_18_1, sq_21_0, sq_23_1, sq_23_2, sq_23_4, sq_23_5, sq_28_0, sq_31_2, sq_33_2, sq_35_2, sq_37_2, sq_39_0, sq_39_1, sq_39_2, sq_39_3, sq_39_4, sq_39_5, sq_39_6, sq_39_7, sq_39_8, sq_39_9, sq_39_10, sq_39_11, sq_39_12, sq_39_13, sq_39_14, sq_39_15, sq_39_19, sq_39_20, sq_39_22, sq_39_24, sq_39_25, sq_39_26, sq_39_27, sq_39_29, sq_39_30, sq_39_31, si_3_7, si_3_8, si_3_9, si_4_0, si_4_2, si_4_3, si_4_4, si_4_5, si_4_8, si_11_0, si_11_2, si_11_3, si_11_4, si_11_5, si_11_8, si_18_2, si_18_5, si_18_6, si_23_0, si_23_3, si_28_1, si_31_0, si_31_1, si_33_0, si_33_1, si_35_0, si_35_1, si_37_0, si_37_1, si_39_16, si_39_17, si_39_18, si_39_21, si_39_23, si_39_28, sp_3_7, sp_3_8, sp_3_9, sp_4_0, sp_4_2, sp_4_3, sp_4_4, sp_4_5, sp_4_8, sp_11_0, sp_11_2, sp_11_3, sp_11_4, sp_11_5, sp_11_8, sp_18_2, sp_18_5, sp_18_6, sp_23_0, sp_23_3, sp_28_1, sp_31_0, sp_31_1, sp_33_0, sp_33_1, sp_35_0, sp_35_1, sp_37_0, sp_37_1, sp_39_16, sp_39_17, sp_39_18, sp_39_21, sp_39_23, sp_39_28, sf_3_7, sf_3_8, sf_3_9, sf_4_0, sf_4_2, sf_4_3, sf_4_4, sf_4_5, sf_4_8, sf_11_0, sf_11_2, sf_11_3, sf_11_4, sf_11_5, sf_11_8, sf_18_2, sf_18_5, sf_18_6, sf_23_0, sf_23_3, sf_28_1, sf_31_0, sf_31_1, sf_33_0, sf_33_1, sf_35_0, sf_35_1, sf_37_0, sf_37_1, sf_39_16, sf_39_17, sf_39_18, sf_39_21, sf_39_23, sf_39_28, sp_18_3, sp_18_4, sG_1, sG_2, sG_5, sG_6, sG_12, sG_13, sG_19, sG_20, sG_22, sG_24, sG_25, sG_26, sG_27, sG_29, sG_32, sG_34, sG_36, sG_38, sG_40, sG_41, sG_42, sG_43, sG_44, sG_45, sG_46, sG_47, sG_48, sG_49, sG_50, sG_51, sG_52, sG_53, sG_54, sG_55, sG_56, sG_57, sG_58, sG_59, sG_60, sG_61, sG_62, sG_63, sG_64, sG_65, sE_1, sE_2, sE_5, sE_6, sE_12, sE_13, sE_19, sE_20, sE_22, sE_24, sE_25, sE_26, sE_27, sE_29, sE_32, sE_34, sE_36, sE_38, sE_40, sE_41, sE_42, sE_43, sE_44, sE_45, sE_46, sE_47, sE_48, sE_49, sE_50, sE_51, sE_52, sE_53, sE_54, sE_55, sE_56, sE_57, sE_58, sE_59, sE_60, sE_61, sE_62, sE_63, sE_64, sE_65, sG_7, sG_8, sG_10, sG_14, sG_15, sG_17, sG_30, sE_7, sE_8, sE_10, sE_14, sE_15, sE_17, sE_30, sS_0, sS_1, sS_2, sS_3, wr_id, wr_ai, wr_fi, wr_wand, wr_wor, wr_wxor, wr_wshl, wr_wshr, wr_lt, wr_gt, Int.reduceEq, Int.reduceLT, Int.reduceLE, Int.reduceNeg, b01, b10, and_self, true_and, and_true, false_and, and_false, or_false, false_or, or_true, true_or, ite_not, not_true_eq_false, not_false_eq_true, kk_v, kk_0, reduceCtorEq, if_true, if_false, ite_true, ite_false, swt, Option.some.injEq, key]
/-- n numbers of I from p on -/
def rsF (I A : Int → Int) (p n : Int) : Int → Int := fun j => if 0 ≤ j ∧ j < n then I (p + j) else A j
theorem rsF_0 {I : Int → Int} : rsF I A p 0 = A := by
  funext j
  unfold rsF
  rw [if_neg (by omega)]
theorem rsF_in {I : Int → Int} {j : Int} (h1 : 0 ≤ j) (h2 : j < n) : rsF I A p n j = I (p + j) := if_pos ⟨h1, h2⟩
theorem rsF_s {I : Int → Int} {k : Int} (hk : 0 ≤ k) : upf (rsF I A p k) k (I (p + k)) = rsF I A p (k + 1) := by
  funext j
  unfold upf rsF
  by_cases c : j = k
  · rw [if_pos c, if_pos (by omega), c]
  · rw [if_neg c]
    by_cases c2 : 0 ≤ j ∧ j < k
    · rw [if_pos c2, if_pos (by omega)]
    · rw [if_neg c2, if_neg (by omega)]
theorem inr_rsF {I : Int → Int} (hI : ∀ j, inr (I j)) (hA : ∀ j, inr (A j)) : ∀ j, inr (rsF I A p n j) := fun j => by
  unfold rsF
  split
  · exact hI _
  · exact hA _
theorem inr_cpF (hF : ∀ j, inr (F j)) (hA : ∀ j, inr (A j)) : ∀ j, inr (cpF F A p n j) := fun j => by
  unfold cpF
  split
  · exact hA _
  · exact hF _
theorem l_R_keeps0 (w : Sh h) (hA : isA h a = true) (h55 : a ≠ 55) (h40 : 40 ≤ a) (hn : (al h a : Int) = n) (hp : 0 ≤ p ∧ p + n ≤ 36800) {A : Int → Int} (hAf : ai h a = A) : ∀ (m : Nat) (k : Int), 0 ≤ k → k ≤ n → (n - k).toNat = m →
    ex (ev d) k_R_keeps 2 [aQ (some 39), aQ (some a), aI 0, aI k] [] (pf (sa h a (rsF (ai h 55) A p k)) 39 21 (aI (p + k))) = some (none, pf (sa h a (rsF (ai h 55) A p n)) 39 21 (aI (p + n))) := by
  have hAR := isAR_A hA
  have h3 : 3 ≤ a := by omega
  have hE : ∀ f, ai (sa h a f) a = f := fun f => ai_se hA
  have wS : ∀ f, Sh (sa h a f) := fun f => Sh_sa w h3
  intro m
  induction m with
  | zero =>
    intro k h1 h2 hm
    have e : k = n := by omega
    subst e
    rw [u_R_keeps_2]
    simp (disch := first | assumption | omega | exact aNl_I | exact aNl_Q | exact bl0 | exact bl1 | exact bl2 | exact bl3 | exact bl4 | exact aNl_U) only [u_R_keeps_0, u_R_keeps_1, u_R_keeps_3, u_R_keeps_4, u_R_keeps_5, u_R_keeps_8, u_R_keeps_9, u_R_keeps_12, u_R_keeps_13, u_R_keeps_16, u_R_keeps_17, u_R_keeps_20, u_R_keeps_21, u_R_keeps_22, u_R_keeps_23, u_R_keeps_24, u_R_keeps_27, u_R_keeps_28, u_R_keeps_29, u_R_keeps_30, u_R_keeps_33, u_R_keeps_34, u_R_keeps_37, u_R_keeps_38, u_R_keeps_39, u_R_keeps_40, u_R_keeps_41, u_R_keeps_44, u_R_keeps_45, u_R_keeps_46, u_R_keeps_49, u_R_keeps_52, u_R_keeps_55, aSz_pf, aSz_sa, aSz_sr, isO_pf, isO_sa, isO_sr, isA_pf, isA_sa, isA_sr, isR_pf, isR_sa, isR_sr, al_pf, al_sa, al_sr, gf_sa, gf_sr, ai_pf, ai_sr, ra_pf, ra_sa, gf_pn, ai_sn, ra_sn, sa_sa, pf_pf, fi_sa, fi_sr, fi_pn, gO_pf, gO_sa, gO_sr, gA_pf, gA_sa, gA_sr, gR_pf, gR_sa, gR_sr, isAR_pf, isAR_sa, isAR_sr, okQ_pf, okQ_sa, okQ_sr, okC_pf, okC_sa, okC_sr, okQ_n, gB_t, sg_3, sg_4, sg_9, sg_11, sg_16, sg_18, sg_21, sg_23, sg_28, sg_31, sg_33, sg_35, sg_37, sg_39, sq_3_0, sq_3_1, sq_3_2, sq_3_3, sq_3_4, sq_3_5, sq_3_6, sq_4_1, sq_4_6, sq_4_7, sq_4_9, sq_11_1, sq_11_6, sq_11_7, sq_11_9, sq_9_0, sq_16_0, sq_18_0, sq_18_1, sq_21_0, sq_23_1, sq_23_2, sq_23_4, sq_23_5, sq_28_0, sq_31_2, sq_33_2, sq_35_2, sq_37_2, sq_39_0, sq_39_1, sq_39_2, sq_39_3, sq_39_4, sq_39_5, sq_39_6, sq_39_7, sq_39_8, sq_39_9, sq_39_10, sq_39_11, sq_39_12, sq_39_13, sq_39_14, sq_39_15, sq_39_19, sq_39_20, sq_39_22, sq_39_24, sq_39_25, sq_39_26, sq_39_27, sq_39_29, sq_39_30, sq_39_31, si_3_7, si_3_8, si_3_9, si_4_0, si_4_2, si_4_3, si_4_4, si_4_5, si_4_8, si_11_0, si_11_2, si_11_3, si_11_4, si_11_5, si_11_8, si_18_2, si_18_5, si_18_6, si_23_0, si_23_3, si_28_1, si_31_0, si_31_1, si_33_0, si_33_1, si_35_0, si_35_1, si_37_0, si_37_1, si_39_16, si_39_17, si_39_18, si_39_21, si_39_23, si_39_28, sp_3_7, sp_3_8, sp_3_9, sp_4_0, sp_4_2, sp_4_3, sp_4_4, sp_4_5, sp_4_8, sp_11_0, sp_11_2, sp_11_3, sp_11_4, sp_11_5, sp_11_8, sp_18_2, sp_18_5, sp_18_6, sp_23_0, sp_23_3, sp_28_1, sp_31_0, sp_31_1, sp_33_0, sp_33_1, sp_35_0, sp_35_1, sp_37_0, sp_37_1, sp_39_16, sp_39_17, sp_39_18, sp_39_21, sp_39_23, sp_39_28, sf_3_7, sf_3_8, sf_3_9, sf_4_0, sf_4_2, sf_4_3, sf_4_4, sf_4_5, sf_4_8, sf_11_0, sf_11_2, sf_11_3, sf_11_4, sf_11_5, sf_11_8, sf_18_2, sf_18_5, sf_18_6, sf_23_0, sf_23_3, sf_28_1, sf_31_0, sf_31_1, sf_33_0, sf_33_1, sf_35_0, sf_35_1, sf_37_0, sf_37_1, sf_39_16, sf_39_17, sf_39_18, sf_39_21, sf_39_23, sf_39_28, sp_18_3, sp_18_4, sG_1, sG_2, sG_5, sG_6, sG_12, sG_13, sG_19, sG_20, sG_22, sG_24, sG_25, sG_26, sG_27, sG_29, sG_32, sG_34, sG_36, sG_38, sG_40, sG_41, sG_42, sG_43, sG_44, sG_45, sG_46, sG_47, sG_48, sG_49, sG_50, sG_51, sG_52, sG_53, sG_54, sG_55, sG_56, sG_57, sG_58, sG_59, sG_60, sG_61, sG_62, sG_63, sG_64, sG_65, sE_1, sE_2, sE_5, sE_6, sE_12, sE_13, sE_19, sE_20, sE_22, sE_24, sE_25, sE_26, sE_27, sE_29, sE_32, sE_34, sE_36, sE_38, sE_40, sE_41, sE_42, sE_43, sE_44, sE_45, sE_46, sE_47, sE_48, sE_49, sE_50, sE_51, sE_52, sE_53, sE_54, sE_55, sE_56, sE_57, sE_58, sE_59, sE_60, sE_61, sE_62, sE_63, sE_64, sE_65, sG_7, sG_8, sG_10, sG_14, sG_15, sG_17, sG_30, sE_7, sE_8, sE_10, sE_14, sE_15, sE_17, sE_30, sS_0, sS_1, sS_2, sS_3, wr_id, wr_ai, wr_fi, wr_wand, wr_wor, wr_wxor, wr_wshl, wr_wshr, wr_lt, wr_gt, Int.reduceEq, Int.reduceLT, Int.reduceLE, Int.reduceNeg, b01, b10, and_self, true_and, and_true, false_and, and_false, or_false, false_or, or_true, true_or, ite_not, not_true_eq_false, not_false_eq_true, kk_v, kk_0, reduceCtorEq, if_true, if_false, ite_true, ite_false, swt, Option.some.injEq, hAR, hn, Int.lt_irrefl]
  | succ m ih =>
    intro k h1 h2 hm
    have c : k < n := by omega
    have hgo := ih (k + 1) (by omega) (by omega) (by omega)
    have hG : ∀ y, gA h a k y = y := fun y => gA_ok hA h1 (by omega) (by omega)
    have hne : (55 : Nat) ≠ a := fun q => h55 q.symm
    have e3 := rsF_s (I := ai h 55) (A := A) (p := p) h1
    have e4 : p + k + 1 = p + (k + 1) := by omega
    have e5 : gf (pf (sa h a (rsF (ai h 55) A p k)) 39 21 (aI (p + k))) 39 21 = aI (p + k) := sp_39_21 (wS _)
    have e6 : ∀ g, gf (sa (pf (sa h a (rsF (ai h 55) A p k)) 39 21 (aI (p + k))) a g) 39 21 = aI (p + k) := fun g => by rw [gf_sa, e5]
    have e7 : ∀ g (v : aV), pf (sa (pf (sa h a (rsF (ai h 55) A p k)) 39 21 (aI (p + k))) a g) 39 21 v = pf (sa h a g) 39 21 v := fun g v => sapf_c (by omega)
    rw [u_R_keeps_2]
    simp (disch := first | assumption | omega | exact aNl_I | exact aNl_Q | exact bl0 | exact bl1 | exact bl2 | exact bl3 | exact bl4 | exact aNl_U) only [u_R_keeps_0, u_R_keeps_1, u_R_keeps_3, u_R_keeps_4, u_R_keeps_5, u_R_keeps_8, u_R_keeps_9, u_R_keeps_12, u_R_keeps_13, u_R_keeps_16, u_R_keeps_17, u_R_keeps_20, u_R_keeps_21, u_R_keeps_22, u_R_keeps_23, u_R_keeps_24, u_R_keeps_27, u_R_keeps_28, u_R_keeps_29, u_R_keeps_30, u_R_keeps_33, u_R_keeps_34, u_R_keeps_37, u_R_keeps_38, u_R_keeps_39, u_R_keeps_40, u_R_keeps_41, u_R_keeps_44, u_R_keeps_45, u_R_keeps_46, u_R_keeps_49, u_R_keeps_52, u_R_keeps_55, aSz_pf, aSz_sa, aSz_sr, isO_pf, isO_sa, isO_sr, isA_pf, isA_sa, isA_sr, isR_pf, isR_sa, isR_sr, al_pf, al_sa, al_sr, gf_sa, gf_sr, ai_pf, ai_sr, ra_pf, ra_sa, gf_pn, ai_sn, ra_sn, sa_sa, pf_pf, fi_sa, fi_sr, fi_pn, gO_pf, gO_sa, gO_sr, gA_pf, gA_sa, gA_sr, gR_pf, gR_sa, gR_sr, isAR_pf, isAR_sa, isAR_sr, okQ_pf, okQ_sa, okQ_sr, okC_pf, okC_sa, okC_sr, okQ_n, gB_t, sg_3, sg_4, sg_9, sg_11, sg_16, sg_18, sg_21, sg_23, sg_28, sg_31, sg_33, sg_35, sg_37, sg_39, sq_3_0, sq_3_1, sq_3_2, sq_3_3, sq_3_4, sq_3_5, sq_3_6, sq_4_1, sq_4_6, sq_4_7, sq_4_9, sq_11_1, sq_11_6, sq_11_7, sq_11_9, sq_9_0, sq_16_0, sq_18_0, sq_18_1, sq_21_0, sq_23_1, sq_23_2, sq_23_4, sq_23_5, sq_28_0, sq_31_2, sq_33_2, sq_35_2, sq_37_2, sq_39_0, sq_39_1, sq_39_2, sq_39_3, sq_39_4, sq_39_5, sq_39_6, sq_39_7, sq_39_8, sq_39_9, sq_39_10, sq_39_11, sq_39_12, sq_39_13, sq_39_14, sq_39_15, sq_39_19, sq_39_20, sq_39_22, sq_39_24, sq_39_25, sq_39_26, sq_39_27, sq_39_29, sq_39_30, sq_39_31, si_3_7, si_3_8, si_3_9, si_4_0, si_4_2, si_4_3, si_4_4, si_4_5, si_4_8, si_11_0, si_11_2, si_11_3, si_11_4, si_11_5, si_11_8, si_18_2, si_18_5, si_18_6, si_23_0, si_23_3, si_28_1, si_31_0, si_31_1, si_33_0, si_33_1, si_35_0, si_35_1, si_37_0, si_37_1, si_39_16, si_39_17, si_39_18, si_39_21, si_39_23, si_39_28, sp_3_7, sp_3_8, sp_3_9, sp_4_0, sp_4_2, sp_4_3, sp_4_4, sp_4_5, sp_4_8, sp_11_0, sp_11_2, sp_11_3, sp_11_4, sp_11_5, sp_11_8, sp_18_2, sp_18_5, sp_18_6, sp_23_0, sp_23_3, sp_28_1, sp_31_0, sp_31_1, sp_33_0, sp_33_1, sp_35_0, sp_35_1, sp_37_0, sp_37_1, sp_39_16, sp_39_17, sp_39_18, sp_39_21, sp_39_23, sp_39_28, sf_3_7, sf_3_8, sf_3_9, sf_4_0, sf_4_2, sf_4_3, sf_4_4, sf_4_5, sf_4_8, sf_11_0, sf_11_2, sf_11_3, sf_11_4, sf_11_5, sf_11_8, sf_18_2, sf_18_5, sf_18_6, sf_23_0, sf_23_3, sf_28_1, sf_31_0, sf_31_1, sf_33_0, sf_33_1, sf_35_0, sf_35_1, sf_37_0, sf_37_1, sf_39_16, sf_39_17, sf_39_18, sf_39_21, sf_39_23, sf_39_28, sp_18_3, sp_18_4, sG_1, sG_2, sG_5, sG_6, sG_12, sG_13, sG_19, sG_20, sG_22, sG_24, sG_25, sG_26, sG_27, sG_29, sG_32, sG_34, sG_36, sG_38, sG_40, sG_41, sG_42, sG_43, sG_44, sG_45, sG_46, sG_47, sG_48, sG_49, sG_50, sG_51, sG_52, sG_53, sG_54, sG_55, sG_56, sG_57, sG_58, sG_59, sG_60, sG_61, sG_62, sG_63, sG_64, sG_65, sE_1, sE_2, sE_5, sE_6, sE_12, sE_13, sE_19, sE_20, sE_22, sE_24, sE_25, sE_26, sE_27, sE_29, sE_32, sE_34, sE_36, sE_38, sE_40, sE_41, sE_42, sE_43, sE_44, sE_45, sE_46, sE_47, sE_48, sE_49, sE_50, sE_51, sE_52, sE_53, sE_54, sE_55, sE_56, sE_57, sE_58, sE_59, sE_60, sE_61, sE_62, sE_63, sE_64, sE_65, sG_7, sG_8, sG_10, sG_14, sG_15, sG_17, sG_30, sE_7, sE_8, sE_10, sE_14, sE_15, sE_17, sE_30, sS_0, sS_1, sS_2, sS_3, wr_id, wr_ai, wr_fi, wr_wand, wr_wor, wr_wxor, wr_wshl, wr_wshr, wr_lt, wr_gt, Int.reduceEq, Int.reduceLT, Int.reduceLE, Int.reduceNeg, b01, b10, and_self, true_and, and_true, false_and, and_false, or_false, false_or, or_true, true_or, ite_not, not_true_eq_false, not_false_eq_true, kk_v, kk_0, reduceCtorEq, if_true, if_false, ite_true, ite_false, swt, Option.some.injEq, hAR, hn, c, hG, hE, e5, e6, e7, e3, e4, hgo]
theorem m_R_keeps0 (w : Sh h) (hA : isA h a = true) (h55 : a ≠ 55) (h40 : 40 ≤ a) (hn : (al h a : Int) = n) (hp : 0 ≤ p ∧ p + n ≤ 36800) : ev (d + 1) M_R_keeps [aQ (some 39), aQ (some a), aI 0] (pf h 39 21 (aI p)) = some (none, pf (sa h a (rsF (ai h 55) (ai h a) p n)) 39 21 (aI (p + n))) := by
  have key := l_R_keeps0 (d := d) w hA h55 h40 hn hp rfl _ 0 (by omega) (by omega) rfl
  rw [rsF_0, sa_self hA rfl, Int.add_zero] at key
  rw [n_R_keeps]
  simp (disch := first | assumption | omega | exact aNl_I | exact aNl_Q | exact bl0 | exact bl1 | exact bl2 | exact bl3 | exact bl4 | exact aNl_U) only [u_R_keeps_0, u_R_keeps_1, u_R_keeps_3, u_R_keeps_4, u_R_keeps_5, u_R_keeps_8, u_R_keeps_9, u_R_keeps_12, u_R_keeps_13, u_R_keeps_16, u_R_keeps_17, u_R_keeps_20, u_R_keeps_21, u_R_keeps_22, u_R_keeps_23, u_R_keeps_24, u_R_keeps_27, u_R_keeps_28, u_R_keeps_29, u_R_keeps_30, u_R_keeps_33, u_R_keeps_34, u_R_keeps_37, u_R_keeps_38, u_R_keeps_39, u_R_keeps_40, u_R_keeps_41, u_R_keeps_44, u_R_keeps_45, u_R_keeps_46, u_R_keeps_49, u_R_keeps_52, u_R_keeps_55, aSz_pf, aSz_sa, aSz_sr, isO_pf, isO_sa, isO_sr, isA_pf, isA_sa, isA_sr, isR_pf, isR_sa, isR_sr, al_pf, al_sa, al_sr, gf_sa, gf_sr, ai_pf, ai_sr, ra_pf, ra_sa, gf_pn, ai_sn, ra_sn, sa_sa, pf_pf, fi_sa, fi_sr, fi_pn, gO_pf, gO_sa, gO_sr, gA_pf, gA_sa, gA_sr, gR_pf, gR_sa, gR_sr, isAR_pf, isAR_sa, isAR_sr, okQ_pf, okQ_sa, okQ_sr, okC_pf, okC_sa, okC_sr, okQ_n, gB_t, sg_3, sg_4, sg_9, sg_11, sg_16, sg_18, sg_21, sg_23, sg_28, sg_31, sg_33, sg_35, sg_37, sg_39, sq_3_0, sq_3_1, sq_3_2, sq_3_3, sq_3_4, sq_3_5, sq_3_6, sq_4_1, sq_4_6, sq_4_7, sq_4_9, sq_11_1, sq_11_6, sq_11_7, sq_11_9, sq_9_0, sq_16_0, sq_18_0, sq_18_1, sq_21_0, sq_23_1, sq_23_2, sq_23_4, sq_23_5, sq_28_0, sq_31_2, sq_33_2, sq_35_2, sq_37_2, sq_39_0, sq_39_1, sq_39_2, sq_39_3, sq_39_4, sq_39_5, sq_39_6, sq_39_7, sq_39_8, sq_39_9, sq_39_10, sq_39_11, sq_39_12, sq_39_13, sq_39_14, sq_39_15, sq_39_19, sq_39_20, sq_39_22, sq_39_24, sq_39_25, sq_39_26, sq_39_27, sq_39_29, sq_39_30, sq_39_31, si_3_7, si_3_8, si_3_9, si_4_0, si_4_2, si_4_3, si_4_4, si_4_5, si_4_8, si_11_0, si_11_2, si_11_3, si_11_4, si_11_5, si_11_8, si_18_2, si_18_5, si_18_6, si_23_0, si_23_3, si_28_1, si_31_0, si_31_1, si_33_0, si_33_1, si_35_0, si_35_1, si_37_0, si_37_1, si_39_16, si_39_17, si_39_18, si_39_21, si_39_23, si_39_28, sp_3_7, sp_3_8, sp_3_9, sp_4_0, sp_4_2, sp_4_3, sp_4_4, sp_4_5, sp_4_8, sp_11_0, sp_11_2, sp_11_3, sp_11_4, sp_11_5, sp_11_8, sp_18_2, sp_18_5, sp_18_6, sp_23_0, sp_23_3, sp_28_1, sp_31_0, sp_31_1, sp_33_0, sp_33_1, sp_35_0, sp_35_1, sp_37_0, sp_37_1, sp_39_16, sp_39_17, sp_39_18, sp_39_21, sp_39_23, sp_39_28, sf_3_7, sf_3_8, sf_3_9, sf_4_0, sf_4_2, sf_4_3, sf_4_4, sf_4_5, sf_4_8, sf_11_0, sf_11_2, sf_11_3, sf_11_4, sf_11_5, sf_11_8, sf_18_2, sf_18_5, sf_18_6, sf_23_0, sf_23_3, sf_28_1, sf_31_0, sf_31_1, sf_33_0, sf_33_1, sf_35_0, sf_35_1, sf_37_0, sf_37_1, sf_39_16, sf_39_17, sf_39_18, sf_39_21, sf_39_23, sf_39_28, sp_18_3, sp_18_4, sG_1, sG_2, sG_5, sG_6, sG_12, sG_13, sG_19, sG_20, sG_22, sG_24, sG_25, sG_26, sG_27, sG_29, sG_32, sG_34, sG_36, sG_38, sG_40, sG_41, sG_42, sG_43, sG_44, sG_45, sG_46, sG_47, sG_48, sG_49, sG_50, sG_51, sG_52, sG_53, sG_54, sG_55, sG_56, sG_57, sG_58, sG_59, sG_60, sG_61, sG_62, sG_63, sG_64, sG_65, sE_1, sE_2, sE_5, sE_6, sE_12, sE_13, sE_19, sE_20, sE_22, sE_24, sE_25, sE_26, sE_27, sE_29, sE_32, sE_34, sE_36, sE_38, sE_40, sE_41, sE_42, sE_43, sE_44, sE_45, sE_46, sE_47, sE_48, sE_49, sE_50, sE_51, sE_52, sE_53, sE_54, sE_55, sE_56, sE_57, sE_58, sE_59, sE_60, sE_61, sE_62, sE_63, sE_64, sE_65, sG_7, sG_8, sG_10, sG_14, sG_15, sG_17, sG_30, sE_7, sE_8, sE_10, sE_14, sE_15, sE_17, sE_30, sS_0, sS_1, sS_2, sS_3, wr_id, wr_ai, wr_fi, wr_wand, wr_wor, wr_wxor, wr_wshl, wr_wshr, wr_lt, wr_gt, Int.reduceEq, Int.reduceLT, Int.reduceLE, Int.reduceNeg, b01, b10, and_self, true_and, and_true, false_and, and_false, or_false, false_or, or_true, true_or, ite_not, not_true_eq_false, not_false_eq_true, kk_v, kk_0, reduceCtorEq, if_true, if_false, ite_true, ite_false, swt, Option.some.injEq, key]
/-- the image of all rows -/
def imF (h : aH) : Int → Int := cpF (cpF (cpF (cpF (cpF (cpF (cpF (cpF (cpF (cpF (cpF (cpF (cpF (cpF (ai h 55) (ai h 40) 0 3240) (ai h 41) 3240 6) (ai h 42) 3246 32400) (ai h 43) 35646 60) (ai h 45) 35706 60) (ai h 46) 35766 60) (ai h 47) 35826 60) (ai h 48) 35886 60) (ai h 49) 35946 60) (ai h 50) 36006 60) (ai h 51) 36066 60) (ai h 52) 36126 8) (ai h 53) 36134 20) (ai h 54) 36154 6
theorem m_R_keepsAll1 (w : Sh h) : ev (d + 2) M_R_keepsAll [aQ (some 39), aI 1] h = some (none, imH h (imF h) 36160) := by
  have e0 : pf h 39 21 (aI 0) = imH h (ai h 55) 0 := by unfold imH; rw [sa_self (sA_55 w) rfl]
  have wI : ∀ F p, Sh (imH h F p) := fun F p => Sh_pfI (Sh_sa w (by decide)) (by decide) (by decide)
  have hO : ∀ F p x, gO (imH h F p) 39 10 x = x := fun F p x => by unfold imH; rw [gO_pf, gO_sa, sg_39 w]
  have hq : ∀ F p k, k ≠ 21 → gf (imH h F p) 39 k = gf h 39 k := fun F p k hk => by unfold imH; rw [gf_pn (Or.inr hk), gf_sa]
  have t0 := m_R_keeps1 (d := d) (a := 40) (F := ai h 55) (p := 0) (n := 3240) w (sA_40 w) (by decide) (by rw [sl_40 w]; rfl) (by decide)
  rw [show (0 : Int) + 3240 = 3240 from rfl] at t0
  have t1 := m_R_keeps1 (d := d) (a := 41) (F := cpF (ai h 55) (ai h 40) 0 3240) (p := 3240) (n := 6) w (sA_41 w) (by decide) (by rw [sl_41 w]; rfl) (by decide)
  rw [show (3240 : Int) + 6 = 3246 from rfl] at t1
  have t2 := m_R_keeps1 (d := d) (a := 42) (F := cpF (cpF (ai h 55) (ai h 40) 0 3240) (ai h 41) 3240 6) (p := 3246) (n := 32400) w (sA_42 w) (by decide) (by rw [sl_42 w]; rfl) (by decide)
  rw [show (3246 : Int) + 32400 = 35646 from rfl] at t2
  have t3 := m_R_keeps1 (d := d) (a := 43) (F := cpF (cpF (cpF (ai h 55) (ai h 40) 0 3240) (ai h 41) 3240 6) (ai h 42) 3246 32400) (p := 35646) (n := 60) w (sA_43 w) (by decide) (by rw [sl_43 w]; rfl) (by decide)
  rw [show (35646 : Int) + 60 = 35706 from rfl] at t3
  have t4 := m_R_keeps1 (d := d) (a := 45) (F := cpF (cpF (cpF (cpF (ai h 55) (ai h 40) 0 3240) (ai h 41) 3240 6) (ai h 42) 3246 32400) (ai h 43) 35646 60) (p := 35706) (n := 60) w (sA_45 w) (by decide) (by rw [sl_45 w]; rfl) (by decide)
  rw [show (35706 : Int) + 60 = 35766 from rfl] at t4
  have t5 := m_R_keeps1 (d := d) (a := 46) (F := cpF (cpF (cpF (cpF (cpF (ai h 55) (ai h 40) 0 3240) (ai h 41) 3240 6) (ai h 42) 3246 32400) (ai h 43) 35646 60) (ai h 45) 35706 60) (p := 35766) (n := 60) w (sA_46 w) (by decide) (by rw [sl_46 w]; rfl) (by decide)
  rw [show (35766 : Int) + 60 = 35826 from rfl] at t5
  have t6 := m_R_keeps1 (d := d) (a := 47) (F := cpF (cpF (cpF (cpF (cpF (cpF (ai h 55) (ai h 40) 0 3240) (ai h 41) 3240 6) (ai h 42) 3246 32400) (ai h 43) 35646 60) (ai h 45) 35706 60) (ai h 46) 35766 60) (p := 35826) (n := 60) w (sA_47 w) (by decide) (by rw [sl_47 w]; rfl) (by decide)
  rw [show (35826 : Int) + 60 = 35886 from rfl] at t6
  have t7 := m_R_keeps1 (d := d) (a := 48) (F := cpF (cpF (cpF (cpF (cpF (cpF (cpF (ai h 55) (ai h 40) 0 3240) (ai h 41) 3240 6) (ai h 42) 3246 32400) (ai h 43) 35646 60) (ai h 45) 35706 60) (ai h 46) 35766 60) (ai h 47) 35826 60) (p := 35886) (n := 60) w (sA_48 w) (by decide) (by rw [sl_48 w]; rfl) (by decide)
  rw [show (35886 : Int) + 60 = 35946 from rfl] at t7
  have t8 := m_R_keeps1 (d := d) (a := 49) (F := cpF (cpF (cpF (cpF (cpF (cpF (cpF (cpF (ai h 55) (ai h 40) 0 3240) (ai h 41) 3240 6) (ai h 42) 3246 32400) (ai h 43) 35646 60) (ai h 45) 35706 60) (ai h 46) 35766 60) (ai h 47) 35826 60) (ai h 48) 35886 60) (p := 35946) (n := 60) w (sA_49 w) (by decide) (by rw [sl_49 w]; rfl) (by decide)
  rw [show (35946 : Int) + 60 = 36006 from rfl] at t8
  have t9 := m_R_keeps1 (d := d) (a := 50) (F := cpF (cpF (cpF (cpF (cpF (cpF (cpF (cpF (cpF (ai h 55) (ai h 40) 0 3240) (ai h 41) 3240 6) (ai h 42) 3246 32400) (ai h 43) 35646 60) (ai h 45) 35706 60) (ai h 46) 35766 60) (ai h 47) 35826 60) (ai h 48) 35886 60) (ai h 49) 35946 60) (p := 36006) (n := 60) w (sA_50 w) (by decide) (by rw [sl_50 w]; rfl) (by decide)
  rw [show (36006 : Int) + 60 = 36066 from rfl] at t9
  have t10 := m_R_keeps1 (d := d) (a := 51) (F := cpF (cpF (cpF (cpF (cpF (cpF (cpF (cpF (cpF (cpF (ai h 55) (ai h 40) 0 3240) (ai h 41) 3240 6) (ai h 42) 3246 32400) (ai h 43) 35646 60) (ai h 45) 35706 60) (ai h 46) 35766 60) (ai h 47) 35826 60) (ai h 48) 35886 60) (ai h 49) 35946 60) (ai h 50) 36006 60) (p := 36066) (n := 60) w (sA_51 w) (by decide) (by rw [sl_51 w]; rfl) (by decide)
  rw [show (36066 : Int) + 60 = 36126 from rfl] at t10
  have t11 := m_R_keeps1 (d := d) (a := 52) (F := cpF (cpF (cpF (cpF (cpF (cpF (cpF (cpF (cpF (cpF (cpF (ai h 55) (ai h 40) 0 3240) (ai h 41) 3240 6) (ai h 42) 3246 32400) (ai h 43) 35646 60) (ai h 45) 35706 60) (ai h 46) 35766 60) (ai h 47) 35826 60) (ai h 48) 35886 60) (ai h 49) 35946 60) (ai h 50) 36006 60) (ai h 51) 36066 60) (p := 36126) (n := 8) w (sA_52 w) (by decide) (by rw [sl_52 w]; rfl) (by decide)
  rw [show (36126 : Int) + 8 = 36134 from rfl] at t11
  have t12 := m_R_keeps1 (d := d) (a := 53) (F := cpF (cpF (cpF (cpF (cpF (cpF (cpF (cpF (cpF (cpF (cpF (cpF (ai h 55) (ai h 40) 0 3240) (ai h 41) 3240 6) (ai h 42) 3246 32400) (ai h 43) 35646 60) (ai h 45) 35706 60) (ai h 46) 35766 60) (ai h 47) 35826 60) (ai h 48) 35886 60) (ai h 49) 35946 60) (ai h 50) 36006 60) (ai h 51) 36066 60) (ai h 52) 36126 8) (p := 36134) (n := 20) w (sA_53 w) (by decide) (by rw [sl_53 w]; rfl) (by decide)
  rw [show (36134 : Int) + 20 = 36154 from rfl] at t12
  have t13 := m_R_keeps1 (d := d) (a := 54) (F := cpF (cpF (cpF (cpF (cpF (cpF (cpF (cpF (cpF (cpF (cpF (cpF (cpF (ai h 55) (ai h 40) 0 3240) (ai h 41) 3240 6) (ai h 42) 3246 32400) (ai h 43) 35646 60) (ai h 45) 35706 60) (ai h 46) 35766 60) (ai h 47) 35826 60) (ai h 48) 35886 60) (ai h 49) 35946 60) (ai h 50) 36006 60) (ai h 51) 36066 60) (ai h 52) 36126 8) (ai h 53) 36134 20) (p := 36154) (n := 6) w (sA_54 w) (by decide) (by rw [sl_54 w]; rfl) (by decide)
  rw [show (36154 : Int) + 6 = 36160 from rfl] at t13
  rw [n_R_keepsAll]
  simp (disch := first | assumption | omega | exact aNl_I | exact aNl_Q | exact bl0 | exact bl1 | exact bl2 | exact bl3 | exact bl4 | exact aNl_U) only [u_R_keepsAll_0, u_R_keepsAll_1, u_R_keepsAll_2, u_R_keepsAll_5, u_R_keepsAll_6, u_R_keepsAll_7, u_R_keepsAll_10, u_R_keepsAll_11, u_R_keepsAll_14, u_R_keepsAll_15, u_R_keepsAll_16, u_R_keepsAll_19, u_R_keepsAll_20, u_R_keepsAll_23, u_R_keepsAll_24, u_R_keepsAll_25, u_R_keepsAll_28, u_R_keepsAll_29, u_R_keepsAll_32, u_R_keepsAll_33, u_R_keepsAll_34, u_R_keepsAll_37, u_R_keepsAll_38, u_R_keepsAll_41, u_R_keepsAll_42, u_R_keepsAll_43, u_R_keepsAll_46, u_R_keepsAll_47, u_R_keepsAll_50, u_R_keepsAll_51, u_R_keepsAll_52, u_R_keepsAll_55, u_R_keepsAll_56, u_R_keepsAll_59, u_R_keepsAll_60, u_R_keepsAll_61, u_R_keepsAll_64, u_R_keepsAll_65, u_R_keepsAll_68, u_R_keepsAll_69, u_R_keepsAll_70, u_R_keepsAll_73, u_R_keepsAll_74, u_R_keepsAll_77, u_R_keepsAll_78, u_R_keepsAll_79, u_R_keepsAll_82, u_R_keepsAll_83, u_R_keepsAll_86, u_R_keepsAll_87, u_R_keepsAll_88, u_R_keepsAll_91, u_R_keepsAll_92, u_R_keepsAll_95, u_R_keepsAll_96, u_R_keepsAll_97, u_R_keepsAll_100, u_R_keepsAll_101, u_R_keepsAll_104, u_R_keepsAll_105, u_R_keepsAll_106, u_R_keepsAll_109, u_R_keepsAll_110, u_R_keepsAll_113, u_R_keepsAll_114, u_R_keepsAll_115, u_R_keepsAll_118, u_R_keepsAll_119, u_R_keepsAll_122, u_R_keepsAll_123, u_R_keepsAll_124, u_R_keepsAll_127, u_R_keepsAll_128, u_R_keepsAll_131, aSz_pf, aSz_sa, aSz_sr, isO_pf, isO_sa, isO_sr, isA_pf, isA_sa, isA_sr, isR_pf, isR_sa, isR_sr, al_pf, al_sa, al_sr, gf_sa, gf_sr, ai_pf, ai_sr, ra_pf, ra_sa, gf_pn, ai_sn, ra_sn, sa_sa, pf_pf, fi_sa, fi_sr, fi_pn, gO_pf, gO_sa, gO_sr, gA_pf, gA_sa, gA_sr, gR_pf, gR_sa, gR_sr, isAR_pf, isAR_sa, isAR_sr, okQ_pf, okQ_sa, okQ_sr, okC_pf, okC_sa, okC_sr, okQ_n, gB_t, sg_3, sg_4, sg_9, sg_11, sg_16, sg_18, sg_21, sg_23, sg_28, sg_31, sg_33, sg_35, sg_37, sg_39, sq_3_0, sq_3_1, sq_3_2, sq_3_3, sq_3_4, sq_3_5, sq_3_6, sq_4_1, sq_4_6, sq_4_7, sq_4_9, sq_11_1, sq_11_6, sq_11_7, sq_11_9, sq_9_0, sq_16_0, sq_18_0, sq_18_1, sq_21_0, sq_23_1, sq_23_2, sq_23_4, sq_23_5, sq_28_0, sq_31_2, sq_33_2, sq_35_2, sq_37_2, sq_39_0, sq_39_1, sq_39_2, sq_39_3, sq_39_4, sq_39_5, sq_39_6, sq_39_7, sq_39_8, sq_39_9, sq_39_10, sq_39_11, sq_39_12, sq_39_13, sq_39_14, sq_39_15, sq_39_19, sq_39_20, sq_39_22, sq_39_24, sq_39_25, sq_39_26, sq_39_27, sq_39_29, sq_39_30, sq_39_31, si_3_7, si_3_8, si_3_9, si_4_0, si_4_2, si_4_3, si_4_4, si_4_5, si_4_8, si_11_0, si_11_2, si_11_3, si_11_4, si_11_5, si_11_8, si_18_2, si_18_5, si_18_6, si_23_0, si_23_3, si_28_1, si_31_0, si_31_1, si_33_0, si_33_1, si_35_0, si_35_1, si_37_0, si_37_1, si_39_16, si_39_17, si_39_18, si_39_21, si_39_23, si_39_28, sp_3_7, sp_3_8, sp_3_9, sp_4_0, sp_4_2, sp_4_3, sp_4_4, sp_4_5, sp_4_8, sp_11_0, sp_11_2, sp_11_3, sp_11_4, sp_11_5, sp_11_8, sp_18_2, sp_18_5, sp_18_6, sp_23_0, sp_23_3, sp_28_1, sp_31_0, sp_31_1, sp_33_0, sp_33_1, sp_35_0, sp_35_1, sp_37_0, sp_37_1, sp_39_16, sp_39_17, sp_39_18, sp_39_21, sp_39_23, sp_39_28, sf_3_7, sf_3_8, sf_3_9, sf_4_0, sf_4_2, sf_4_3, sf_4_4, sf_4_5, sf_4_8, sf_11_0, sf_11_2, sf_11_3, sf_11_4, sf_11_5, sf_11_8, sf_18_2, sf_18_5, sf_18_6, sf_23_0, sf_23_3, sf_28_1, sf_31_0, sf_31_1, sf_33_0, sf_33_1, sf_35_0, sf_35_1, sf_37_0, sf_37_1, sf_39_16, sf_39_17, sf_39_18, sf_39_21, sf_39_23, sf_39_28, sp_18_3, sp_18_4, sG_1, sG_2, sG_5, sG_6, sG_12, sG_13, sG_19, sG_20, sG_22, sG_24, sG_25, sG_26, sG_27, sG_29, sG_32, sG_34, sG_36, sG_38, sG_40, sG_41, sG_42, sG_43, sG_44, sG_45, sG_46, sG_47, sG_48, sG_49, sG_50, sG_51, sG_52, sG_53, sG_54, sG_55, sG_56, sG_57, sG_58, sG_59, sG_60, sG_61, sG_62, sG_63, sG_64, sG_65, sE_1, sE_2, sE_5, sE_6, sE_12, sE_13, sE_19, sE_20, sE_22, sE_24, sE_25, sE_26, sE_27, sE_29, sE_32, sE_34, sE_36, sE_38, sE_40, sE_41, sE_42, sE_43, sE_44, sE_45, sE_46, sE_47, sE_48, sE_49, sE_50, sE_51, sE_52, sE_53, sE_54, sE_55, sE_56, sE_57, sE_58, sE_59, sE_60, sE_61, sE_62, sE_63, sE_64, sE_65, sG_7, sG_8, sG_10, sG_14, sG_15, sG_17, sG_30, sE_7, sE_8, sE_10, sE_14, sE_15, sE_17, sE_30, sS_0, sS_1, sS_2, sS_3, wr_id, wr_ai, wr_fi, wr_wand, wr_wor, wr_wxor, wr_wshl, wr_wshr, wr_lt, wr_gt, Int.reduceEq, Int.reduceLT, Int.reduceLE, Int.reduceNeg, b01, b10, and_self, true_and, and_true, false_and, and_false, or_false, false_or, or_true, true_or, ite_not, not_true_eq_false, not_false_eq_true, kk_v, kk_0, reduceCtorEq, if_true, if_false, ite_true, ite_false, swt, Option.some.injEq, e0, hO, hq, t0, t1, t2, t3, t4, t5, t6, t7, t8, t9, t10, t11, t12, t13]
  rfl
theorem imF_ag : AgR (rV h) (imV (imF h)) := by
  intro a k1 k2 k3 j j1 j2
  have hc : a = 40 ∨ a = 41 ∨ a = 42 ∨ a = 43 ∨ a = 45 ∨ a = 46 ∨ a = 47 ∨ a = 48 ∨ a = 49 ∨ a = 50 ∨ a = 51 ∨ a = 52 ∨ a = 53 ∨ a = 54 := by omega
  rcases hc with rfl | rfl | rfl | rfl | rfl | rfl | rfl | rfl | rfl | rfl | rfl | rfl | rfl | rfl
  · have j3 : j < 3240 := j2
    show imF h (0 + j) = ai h 40 j
    unfold imF
    simp (disch := omega) only [cpF_in, cpF_out]
    congr 1
    omega
  · have j3 : j < 6 := j2
    show imF h (3240 + j) = ai h 41 j
    unfold imF
    simp (disch := omega) only [cpF_in, cpF_out]
    congr 1
    omega
  · have j3 : j < 32400 := j2
    show imF h (3246 + j) = ai h 42 j
    unfold imF
    simp (disch := omega) only [cpF_in, cpF_out]
    congr 1
    omega
  · have j3 : j < 60 := j2
    show imF h (35646 + j) = ai h 43 j
    unfold imF
    simp (disch := omega) only [cpF_in, cpF_out]
    congr 1
    omega
  · have j3 : j < 60 := j2
    show imF h (35706 + j) = ai h 45 j
    unfold imF
    simp (disch := omega) only [cpF_in, cpF_out]
    congr 1
    omega
  · have j3 : j < 60 := j2
    show imF h (35766 + j) = ai h 46 j
    unfold imF
    simp (disch := omega) only [cpF_in, cpF_out]
    congr 1
    omega
  · have j3 : j < 60 := j2
    show imF h (35826 + j) = ai h 47 j
    unfold imF
    simp (disch := omega) only [cpF_in, cpF_out]
    congr 1
    omega
  · have j3 : j < 60 := j2
    show imF h (35886 + j) = ai h 48 j
    unfold imF
    simp (disch := omega) only [cpF_in, cpF_out]
    congr 1
    omega
  · have j3 : j < 60 := j2
    show imF h (35946 + j) = ai h 49 j
    unfold imF
    simp (disch := omega) only [cpF_in, cpF_out]
    congr 1
    omega
  · have j3 : j < 60 := j2
    show imF h (36006 + j) = ai h 50 j
    unfold imF
    simp (disch := omega) only [cpF_in, cpF_out]
    congr 1
    omega
  · have j3 : j < 60 := j2
    show imF h (36066 + j) = ai h 51 j
    unfold imF
    simp (disch := omega) only [cpF_in, cpF_out]
    congr 1
    omega
  · have j3 : j < 8 := j2
    show imF h (36126 + j) = ai h 52 j
    unfold imF
    simp (disch := omega) only [cpF_in, cpF_out]
    congr 1
    omega
  · have j3 : j < 20 := j2
    show imF h (36134 + j) = ai h 53 j
    unfold imF
    simp (disch := omega) only [cpF_in, cpF_out]
    congr 1
    omega
  · have j3 : j < 6 := j2
    show imF h (36154 + j) = ai h 54 j
    unfold imF
    simp (disch := omega) only [cpF_in, cpF_out]
    congr 1
    omega
def rs0 (h : aH) : aH := h
def rs1 (h : aH) : aH := sa (rs0 h) 40 (rsF (ai h 55) (ai h 40) 0 3240)
def rs2 (h : aH) : aH := sa (rs1 h) 41 (rsF (ai h 55) (ai h 41) 3240 6)
def rs3 (h : aH) : aH := sa (rs2 h) 42 (rsF (ai h 55) (ai h 42) 3246 32400)
def rs4 (h : aH) : aH := sa (rs3 h) 43 (rsF (ai h 55) (ai h 43) 35646 60)
def rs5 (h : aH) : aH := sa (rs4 h) 45 (rsF (ai h 55) (ai h 45) 35706 60)
def rs6 (h : aH) : aH := sa (rs5 h) 46 (rsF (ai h 55) (ai h 46) 35766 60)
def rs7 (h : aH) : aH := sa (rs6 h) 47 (rsF (ai h 55) (ai h 47) 35826 60)
def rs8 (h : aH) : aH := sa (rs7 h) 48 (rsF (ai h 55) (ai h 48) 35886 60)
def rs9 (h : aH) : aH := sa (rs8 h) 49 (rsF (ai h 55) (ai h 49) 35946 60)
def rs10 (h : aH) : aH := sa (rs9 h) 50 (rsF (ai h 55) (ai h 50) 36006 60)
def rs11 (h : aH) : aH := sa (rs10 h) 51 (rsF (ai h 55) (ai h 51) 36066 60)
def rs12 (h : aH) : aH := sa (rs11 h) 52 (rsF (ai h 55) (ai h 52) 36126 8)
def rs13 (h : aH) : aH := sa (rs12 h) 53 (rsF (ai h 55) (ai h 53) 36134 20)
def rs14 (h : aH) : aH := sa (rs13 h) 54 (rsF (ai h 55) (ai h 54) 36154 6)
theorem rs0_w (w : Sh h) : Sh (rs0 h) := w
theorem rs0_f {b j : Nat} : gf (rs0 h) b j = gf h b j := rfl
theorem rs0_A {b : Nat} : isA (rs0 h) b = isA h b := rfl
theorem rs0_l {b : Nat} : al (rs0 h) b = al h b := rfl
theorem rs0_O {b c : Nat} {x : aR} : gO (rs0 h) b c x = gO h b c x := rfl
theorem rs0_i {b : Nat} (hb : b < 40 ∨ 39 < b) : ai (rs0 h) b = ai h b := rfl
theorem rs0_g (g : Rg h) : Rg (rs0 h) := g
theorem rs0_F : Fr LR h (rs0 h) := Fr.refl
theorem rs1_w (w : Sh h) : Sh (rs1 h) := Sh_sa (rs0_w w) (by decide)
theorem rs1_f {b j : Nat} : gf (rs1 h) b j = gf h b j := by unfold rs1; rw [gf_sa, rs0_f]
theorem rs1_A {b : Nat} : isA (rs1 h) b = isA h b := by unfold rs1; rw [isA_sa, rs0_A]
theorem rs1_l {b : Nat} : al (rs1 h) b = al h b := by unfold rs1; rw [al_sa, rs0_l]
theorem rs1_O {b c : Nat} {x : aR} : gO (rs1 h) b c x = gO h b c x := by unfold rs1; rw [gO_sa, rs0_O]
theorem rs1_i {b : Nat} (hb : b < 40 ∨ 40 < b) : ai (rs1 h) b = ai h b := by unfold rs1; rw [ai_sn (by omega), rs0_i (by omega)]
theorem rs1_g (g : Rg h) : Rg (rs1 h) := Rg_sa (rs0_g g) (inr_rsF (g.1 55) (g.1 40))
theorem rs1_F : Fr LR h (rs1 h) := rs0_F.sa (Or.inr (by decide))
theorem rs2_w (w : Sh h) : Sh (rs2 h) := Sh_sa (rs1_w w) (by decide)
theorem rs2_f {b j : Nat} : gf (rs2 h) b j = gf h b j := by unfold rs2; rw [gf_sa, rs1_f]
theorem rs2_A {b : Nat} : isA (rs2 h) b = isA h b := by unfold rs2; rw [isA_sa, rs1_A]
theorem rs2_l {b : Nat} : al (rs2 h) b = al h b := by unfold rs2; rw [al_sa, rs1_l]
theorem rs2_O {b c : Nat} {x : aR} : gO (rs2 h) b c x = gO h b c x := by unfold rs2; rw [gO_sa, rs1_O]
theorem rs2_i {b : Nat} (hb : b < 40 ∨ 41 < b) : ai (rs2 h) b = ai h b := by unfold rs2; rw [ai_sn (by omega), rs1_i (by omega)]
theorem rs2_g (g : Rg h) : Rg (rs2 h) := Rg_sa (rs1_g g) (inr_rsF (g.1 55) (g.1 41))
theorem rs2_F : Fr LR h (rs2 h) := rs1_F.sa (Or.inr (by decide))
theorem rs3_w (w : Sh h) : Sh (rs3 h) := Sh_sa (rs2_w w) (by decide)
theorem rs3_f {b j : Nat} : gf (rs3 h) b j = gf h b j := by unfold rs3; rw [gf_sa, rs2_f]
theorem rs3_A {b : Nat} : isA (rs3 h) b = isA h b := by unfold rs3; rw [isA_sa, rs2_A]
theorem rs3_l {b : Nat} : al (rs3 h) b = al h b := by unfold rs3; rw [al_sa, rs2_l]
theorem rs3_O {b c : Nat} {x : aR} : gO (rs3 h) b c x = gO h b c x := by unfold rs3; rw [gO_sa, rs2_O]
theorem rs3_i {b : Nat} (hb : b < 40 ∨ 42 < b) : ai (rs3 h) b = ai h b := by unfold rs3; rw [ai_sn (by omega), rs2_i (by omega)]
theorem rs3_g (g : Rg h) : Rg (rs3 h) := Rg_sa (rs2_g g) (inr_rsF (g.1 55) (g.1 42))
theorem rs3_F : Fr LR h (rs3 h) := rs2_F.sa (Or.inr (by decide))
theorem rs4_w (w : Sh h) : Sh (rs4 h) := Sh_sa (rs3_w w) (by decide)
theorem rs4_f {b j : Nat} : gf (rs4 h) b j = gf h b j := by unfold rs4; rw [gf_sa, rs3_f]
theorem rs4_A {b : Nat} : isA (rs4 h) b = isA h b := by unfold rs4; rw [isA_sa, rs3_A]
theorem rs4_l {b : Nat} : al (rs4 h) b = al h b := by unfold rs4; rw [al_sa, rs3_l]
theorem rs4_O {b c : Nat} {x : aR} : gO (rs4 h) b c x = gO h b c x := by unfold rs4; rw [gO_sa, rs3_O]
theorem rs4_i {b : Nat} (hb : b < 40 ∨ 43 < b) : ai (rs4 h) b = ai h b := by unfold rs4; rw [ai_sn (by omega), rs3_i (by omega)]
theorem rs4_g (g : Rg h) : Rg (rs4 h) := Rg_sa (rs3_g g) (inr_rsF (g.1 55) (g.1 43))
theorem rs4_F : Fr LR h (rs4 h) := rs3_F.sa (Or.inr (by decide))
theorem rs5_w (w : Sh h) : Sh (rs5 h) := Sh_sa (rs4_w w) (by decide)
theorem rs5_f {b j : Nat} : gf (rs5 h) b j = gf h b j := by unfold rs5; rw [gf_sa, rs4_f]
theorem rs5_A {b : Nat} : isA (rs5 h) b = isA h b := by unfold rs5; rw [isA_sa, rs4_A]
theorem rs5_l {b : Nat} : al (rs5 h) b = al h b := by unfold rs5; rw [al_sa, rs4_l]
theorem rs5_O {b c : Nat} {x : aR} : gO (rs5 h) b c x = gO h b c x := by unfold rs5; rw [gO_sa, rs4_O]
theorem rs5_i {b : Nat} (hb : b < 40 ∨ 45 < b) : ai (rs5 h) b = ai h b := by unfold rs5; rw [ai_sn (by omega), rs4_i (by omega)]
theorem rs5_g (g : Rg h) : Rg (rs5 h) := Rg_sa (rs4_g g) (inr_rsF (g.1 55) (g.1 45))
theorem rs5_F : Fr LR h (rs5 h) := rs4_F.sa (Or.inr (by decide))
theorem rs6_w (w : Sh h) : Sh (rs6 h) := Sh_sa (rs5_w w) (by decide)
theorem rs6_f {b j : Nat} : gf (rs6 h) b j = gf h b j := by unfold rs6; rw [gf_sa, rs5_f]
theorem rs6_A {b : Nat} : isA (rs6 h) b = isA h b := by unfold rs6; rw [isA_sa, rs5_A]
theorem rs6_l {b : Nat} : al (rs6 h) b = al h b := by unfold rs6; rw [al_sa, rs5_l]
theorem rs6_O {b c : Nat} {x : aR} : gO (rs6 h) b c x = gO h b c x := by unfold rs6; rw [gO_sa, rs5_O]
theorem rs6_i {b : Nat} (hb : b < 40 ∨ 46 < b) : ai (rs6 h) b = ai h b := by unfold rs6; rw [ai_sn (by omega), rs5_i (by omega)]
theorem rs6_g (g : Rg h) : Rg (rs6 h) := Rg_sa (rs5_g g) (inr_rsF (g.1 55) (g.1 46))
theorem rs6_F : Fr LR h (rs6 h) := rs5_F.sa (Or.inr (by decide))
theorem rs7_w (w : Sh h) : Sh (rs7 h) := Sh_sa (rs6_w w) (by decide)
theorem rs7_f {b j : Nat} : gf (rs7 h) b j = gf h b j := by unfold rs7; rw [gf_sa, rs6_f]
theorem rs7_A {b : Nat} : isA (rs7 h) b = isA h b := by unfold rs7; rw [isA_sa, rs6_A]
theorem rs7_l {b : Nat} : al (rs7 h) b = al h b := by unfold rs7; rw [al_sa, rs6_l]
theorem rs7_O {b c : Nat} {x : aR} : gO (rs7 h) b c x = gO h b c x := by unfold rs7; rw [gO_sa, rs6_O]
theorem rs7_i {b : Nat} (hb : b < 40 ∨ 47 < b) : ai (rs7 h) b = ai h b := by unfold rs7; rw [ai_sn (by omega), rs6_i (by omega)]
theorem rs7_g (g : Rg h) : Rg (rs7 h) := Rg_sa (rs6_g g) (inr_rsF (g.1 55) (g.1 47))
theorem rs7_F : Fr LR h (rs7 h) := rs6_F.sa (Or.inr (by decide))
theorem rs8_w (w : Sh h) : Sh (rs8 h) := Sh_sa (rs7_w w) (by decide)
theorem rs8_f {b j : Nat} : gf (rs8 h) b j = gf h b j := by unfold rs8; rw [gf_sa, rs7_f]
theorem rs8_A {b : Nat} : isA (rs8 h) b = isA h b := by unfold rs8; rw [isA_sa, rs7_A]
theorem rs8_l {b : Nat} : al (rs8 h) b = al h b := by unfold rs8; rw [al_sa, rs7_l]
theorem rs8_O {b c : Nat} {x : aR} : gO (rs8 h) b c x = gO h b c x := by unfold rs8; rw [gO_sa, rs7_O]
theorem rs8_i {b : Nat} (hb : b < 40 ∨ 48 < b) : ai (rs8 h) b = ai h b := by unfold rs8; rw [ai_sn (by omega), rs7_i (by omega)]
theorem rs8_g (g : Rg h) : Rg (rs8 h) := Rg_sa (rs7_g g) (inr_rsF (g.1 55) (g.1 48))
theorem rs8_F : Fr LR h (rs8 h) := rs7_F.sa (Or.inr (by decide))
theorem rs9_w (w : Sh h) : Sh (rs9 h) := Sh_sa (rs8_w w) (by decide)
theorem rs9_f {b j : Nat} : gf (rs9 h) b j = gf h b j := by unfold rs9; rw [gf_sa, rs8_f]
theorem rs9_A {b : Nat} : isA (rs9 h) b = isA h b := by unfold rs9; rw [isA_sa, rs8_A]
theorem rs9_l {b : Nat} : al (rs9 h) b = al h b := by unfold rs9; rw [al_sa, rs8_l]
theorem rs9_O {b c : Nat} {x : aR} : gO (rs9 h) b c x = gO h b c x := by unfold rs9; rw [gO_sa, rs8_O]
theorem rs9_i {b : Nat} (hb : b < 40 ∨ 49 < b) : ai (rs9 h) b = ai h b := by unfold rs9; rw [ai_sn (by omega), rs8_i (by omega)]
theorem rs9_g (g : Rg h) : Rg (rs9 h) := Rg_sa (rs8_g g) (inr_rsF (g.1 55) (g.1 49))
theorem rs9_F : Fr LR h (rs9 h) := rs8_F.sa (Or.inr (by decide))
theorem rs10_w (w : Sh h) : Sh (rs10 h) := Sh_sa (rs9_w w) (by decide)
theorem rs10_f {b j : Nat} : gf (rs10 h) b j = gf h b j := by unfold rs10; rw [gf_sa, rs9_f]
theorem rs10_A {b : Nat} : isA (rs10 h) b = isA h b := by unfold rs10; rw [isA_sa, rs9_A]
theorem rs10_l {b : Nat} : al (rs10 h) b = al h b := by unfold rs10; rw [al_sa, rs9_l]
theorem rs10_O {b c : Nat} {x : aR} : gO (rs10 h) b c x = gO h b c x := by unfold rs10; rw [gO_sa, rs9_O]
theorem rs10_i {b : Nat} (hb : b < 40 ∨ 50 < b) : ai (rs10 h) b = ai h b := by unfold rs10; rw [ai_sn (by omega), rs9_i (by omega)]
theorem rs10_g (g : Rg h) : Rg (rs10 h) := Rg_sa (rs9_g g) (inr_rsF (g.1 55) (g.1 50))
theorem rs10_F : Fr LR h (rs10 h) := rs9_F.sa (Or.inr (by decide))
theorem rs11_w (w : Sh h) : Sh (rs11 h) := Sh_sa (rs10_w w) (by decide)
theorem rs11_f {b j : Nat} : gf (rs11 h) b j = gf h b j := by unfold rs11; rw [gf_sa, rs10_f]
theorem rs11_A {b : Nat} : isA (rs11 h) b = isA h b := by unfold rs11; rw [isA_sa, rs10_A]
theorem rs11_l {b : Nat} : al (rs11 h) b = al h b := by unfold rs11; rw [al_sa, rs10_l]
theorem rs11_O {b c : Nat} {x : aR} : gO (rs11 h) b c x = gO h b c x := by unfold rs11; rw [gO_sa, rs10_O]
theorem rs11_i {b : Nat} (hb : b < 40 ∨ 51 < b) : ai (rs11 h) b = ai h b := by unfold rs11; rw [ai_sn (by omega), rs10_i (by omega)]
theorem rs11_g (g : Rg h) : Rg (rs11 h) := Rg_sa (rs10_g g) (inr_rsF (g.1 55) (g.1 51))
theorem rs11_F : Fr LR h (rs11 h) := rs10_F.sa (Or.inr (by decide))
theorem rs12_w (w : Sh h) : Sh (rs12 h) := Sh_sa (rs11_w w) (by decide)
theorem rs12_f {b j : Nat} : gf (rs12 h) b j = gf h b j := by unfold rs12; rw [gf_sa, rs11_f]
theorem rs12_A {b : Nat} : isA (rs12 h) b = isA h b := by unfold rs12; rw [isA_sa, rs11_A]
theorem rs12_l {b : Nat} : al (rs12 h) b = al h b := by unfold rs12; rw [al_sa, rs11_l]
theorem rs12_O {b c : Nat} {x : aR} : gO (rs12 h) b c x = gO h b c x := by unfold rs12; rw [gO_sa, rs11_O]
theorem rs12_i {b : Nat} (hb : b < 40 ∨ 52 < b) : ai (rs12 h) b = ai h b := by unfold rs12; rw [ai_sn (by omega), rs11_i (by omega)]
theorem rs12_g (g : Rg h) : Rg (rs12 h) := Rg_sa (rs11_g g) (inr_rsF (g.1 55) (g.1 52))
theorem rs12_F : Fr LR h (rs12 h) := rs11_F.sa (Or.inr (by decide))
theorem rs13_w (w : Sh h) : Sh (rs13 h) := Sh_sa (rs12_w w) (by decide)
theorem rs13_f {b j : Nat} : gf (rs13 h) b j = gf h b j := by unfold rs13; rw [gf_sa, rs12_f]
theorem rs13_A {b : Nat} : isA (rs13 h) b = isA h b := by unfold rs13; rw [isA_sa, rs12_A]
theorem rs13_l {b : Nat} : al (rs13 h) b = al h b := by unfold rs13; rw [al_sa, rs12_l]
theorem rs13_O {b c : Nat} {x : aR} : gO (rs13 h) b c x = gO h b c x := by unfold rs13; rw [gO_sa, rs12_O]
theorem rs13_i {b : Nat} (hb : b < 40 ∨ 53 < b) : ai (rs13 h) b = ai h b := by unfold rs13; rw [ai_sn (by omega), rs12_i (by omega)]
theorem rs13_g (g : Rg h) : Rg (rs13 h) := Rg_sa (rs12_g g) (inr_rsF (g.1 55) (g.1 53))
theorem rs13_F : Fr LR h (rs13 h) := rs12_F.sa (Or.inr (by decide))
theorem rs14_w (w : Sh h) : Sh (rs14 h) := Sh_sa (rs13_w w) (by decide)
theorem rs14_f {b j : Nat} : gf (rs14 h) b j = gf h b j := by unfold rs14; rw [gf_sa, rs13_f]
theorem rs14_A {b : Nat} : isA (rs14 h) b = isA h b := by unfold rs14; rw [isA_sa, rs13_A]
theorem rs14_l {b : Nat} : al (rs14 h) b = al h b := by unfold rs14; rw [al_sa, rs13_l]
theorem rs14_O {b c : Nat} {x : aR} : gO (rs14 h) b c x = gO h b c x := by unfold rs14; rw [gO_sa, rs13_O]
theorem rs14_i {b : Nat} (hb : b < 40 ∨ 54 < b) : ai (rs14 h) b = ai h b := by unfold rs14; rw [ai_sn (by omega), rs13_i (by omega)]
theorem rs14_g (g : Rg h) : Rg (rs14 h) := Rg_sa (rs13_g g) (inr_rsF (g.1 55) (g.1 54))
theorem rs14_F : Fr LR h (rs14 h) := rs13_F.sa (Or.inr (by decide))
theorem m_R_keepsAll0 (w : Sh h) : ev (d + 2) M_R_keepsAll [aQ (some 39), aI 0] h = some (none, pf (rs14 h) 39 21 (aI 36160)) := by
  have t0 := m_R_keeps0 (d := d) (h := rs0 h) (a := 40) (p := 0) (n := 3240) (rs0_w w) (by rw [rs0_A]; exact sA_40 w) (by decide) (by decide) (by rw [rs0_l, sl_40 w]; rfl) (by decide)
  rw [show (0 : Int) + 3240 = 3240 from rfl, rs0_i (b := 55) (by decide), rs0_i (b := 40) (by decide)] at t0
  have t0' : ev (d + 1) M_R_keeps [aQ (some 39), aQ (some 40), aI 0] (pf (rs0 h) 39 21 (aI 0)) = some (none, pf (rs1 h) 39 21 (aI 3240)) := t0
  have t1 := m_R_keeps0 (d := d) (h := rs1 h) (a := 41) (p := 3240) (n := 6) (rs1_w w) (by rw [rs1_A]; exact sA_41 w) (by decide) (by decide) (by rw [rs1_l, sl_41 w]; rfl) (by decide)
  rw [show (3240 : Int) + 6 = 3246 from rfl, rs1_i (b := 55) (by decide), rs1_i (b := 41) (by decide)] at t1
  have t1' : ev (d + 1) M_R_keeps [aQ (some 39), aQ (some 41), aI 0] (pf (rs1 h) 39 21 (aI 3240)) = some (none, pf (rs2 h) 39 21 (aI 3246)) := t1
  have t2 := m_R_keeps0 (d := d) (h := rs2 h) (a := 42) (p := 3246) (n := 32400) (rs2_w w) (by rw [rs2_A]; exact sA_42 w) (by decide) (by decide) (by rw [rs2_l, sl_42 w]; rfl) (by decide)
  rw [show (3246 : Int) + 32400 = 35646 from rfl, rs2_i (b := 55) (by decide), rs2_i (b := 42) (by decide)] at t2
  have t2' : ev (d + 1) M_R_keeps [aQ (some 39), aQ (some 42), aI 0] (pf (rs2 h) 39 21 (aI 3246)) = some (none, pf (rs3 h) 39 21 (aI 35646)) := t2
  have t3 := m_R_keeps0 (d := d) (h := rs3 h) (a := 43) (p := 35646) (n := 60) (rs3_w w) (by rw [rs3_A]; exact sA_43 w) (by decide) (by decide) (by rw [rs3_l, sl_43 w]; rfl) (by decide)
  rw [show (35646 : Int) + 60 = 35706 from rfl, rs3_i (b := 55) (by decide), rs3_i (b := 43) (by decide)] at t3
  have t3' : ev (d + 1) M_R_keeps [aQ (some 39), aQ (some 43), aI 0] (pf (rs3 h) 39 21 (aI 35646)) = some (none, pf (rs4 h) 39 21 (aI 35706)) := t3
  have t4 := m_R_keeps0 (d := d) (h := rs4 h) (a := 45) (p := 35706) (n := 60) (rs4_w w) (by rw [rs4_A]; exact sA_45 w) (by decide) (by decide) (by rw [rs4_l, sl_45 w]; rfl) (by decide)
  rw [show (35706 : Int) + 60 = 35766 from rfl, rs4_i (b := 55) (by decide), rs4_i (b := 45) (by decide)] at t4
  have t4' : ev (d + 1) M_R_keeps [aQ (some 39), aQ (some 45), aI 0] (pf (rs4 h) 39 21 (aI 35706)) = some (none, pf (rs5 h) 39 21 (aI 35766)) := t4
  have t5 := m_R_keeps0 (d := d) (h := rs5 h) (a := 46) (p := 35766) (n := 60) (rs5_w w) (by rw [rs5_A]; exact sA_46 w) (by decide) (by decide) (by rw [rs5_l, sl_46 w]; rfl) (by decide)
  rw [show (35766 : Int) + 60 = 35826 from rfl, rs5_i (b := 55) (by decide), rs5_i (b := 46) (by decide)] at t5
  have t5' : ev (d + 1) M_R_keeps [aQ (some 39), aQ (some 46), aI 0] (pf (rs5 h) 39 21 (aI 35766)) = some (none, pf (rs6 h) 39 21 (aI 35826)) := t5
  have t6 := m_R_keeps0 (d := d) (h := rs6 h) (a := 47) (p := 35826) (n := 60) (rs6_w w) (by rw [rs6_A]; exact sA_47 w) (by decide) (by decide) (by rw [rs6_l, sl_47 w]; rfl) (by decide)
  rw [show (35826 : Int) + 60 = 35886 from rfl, rs6_i (b := 55) (by decide), rs6_i (b := 47) (by decide)] at t6
  have t6' : ev (d + 1) M_R_keeps [aQ (some 39), aQ (some 47), aI 0] (pf (rs6 h) 39 21 (aI 35826)) = some (none, pf (rs7 h) 39 21 (aI 35886)) := t6
  have t7 := m_R_keeps0 (d := d) (h := rs7 h) (a := 48) (p := 35886) (n := 60) (rs7_w w) (by rw [rs7_A]; exact sA_48 w) (by decide) (by decide) (by rw [rs7_l, sl_48 w]; rfl) (by decide)
  rw [show (35886 : Int) + 60 = 35946 from rfl, rs7_i (b := 55) (by decide), rs7_i (b := 48) (by decide)] at t7
  have t7' : ev (d + 1) M_R_keeps [aQ (some 39), aQ (some 48), aI 0] (pf (rs7 h) 39 21 (aI 35886)) = some (none, pf (rs8 h) 39 21 (aI 35946)) := t7
  have t8 := m_R_keeps0 (d := d) (h := rs8 h) (a := 49) (p := 35946) (n := 60) (rs8_w w) (by rw [rs8_A]; exact sA_49 w) (by decide) (by decide) (by rw [rs8_l, sl_49 w]; rfl) (by decide)
  rw [show (35946 : Int) + 60 = 36006 from rfl, rs8_i (b := 55) (by decide), rs8_i (b := 49) (by decide)] at t8
  have t8' : ev (d + 1) M_R_keeps [aQ (some 39), aQ (some 49), aI 0] (pf (rs8 h) 39 21 (aI 35946)) = some (none, pf (rs9 h) 39 21 (aI 36006)) := t8
  have t9 := m_R_keeps0 (d := d) (h := rs9 h) (a := 50) (p := 36006) (n := 60) (rs9_w w) (by rw [rs9_A]; exact sA_50 w) (by decide) (by decide) (by rw [rs9_l, sl_50 w]; rfl) (by decide)
  rw [show (36006 : Int) + 60 = 36066 from rfl, rs9_i (b := 55) (by decide), rs9_i (b := 50) (by decide)] at t9
  have t9' : ev (d + 1) M_R_keeps [aQ (some 39), aQ (some 50), aI 0] (pf (rs9 h) 39 21 (aI 36006)) = some (none, pf (rs10 h) 39 21 (aI 36066)) := t9
  have t10 := m_R_keeps0 (d := d) (h := rs10 h) (a := 51) (p := 36066) (n := 60) (rs10_w w) (by rw [rs10_A]; exact sA_51 w) (by decide) (by decide) (by rw [rs10_l, sl_51 w]; rfl) (by decide)
  rw [show (36066 : Int) + 60 = 36126 from rfl, rs10_i (b := 55) (by decide), rs10_i (b := 51) (by decide)] at t10
  have t10' : ev (d + 1) M_R_keeps [aQ (some 39), aQ (some 51), aI 0] (pf (rs10 h) 39 21 (aI 36066)) = some (none, pf (rs11 h) 39 21 (aI 36126)) := t10
  have t11 := m_R_keeps0 (d := d) (h := rs11 h) (a := 52) (p := 36126) (n := 8) (rs11_w w) (by rw [rs11_A]; exact sA_52 w) (by decide) (by decide) (by rw [rs11_l, sl_52 w]; rfl) (by decide)
  rw [show (36126 : Int) + 8 = 36134 from rfl, rs11_i (b := 55) (by decide), rs11_i (b := 52) (by decide)] at t11
  have t11' : ev (d + 1) M_R_keeps [aQ (some 39), aQ (some 52), aI 0] (pf (rs11 h) 39 21 (aI 36126)) = some (none, pf (rs12 h) 39 21 (aI 36134)) := t11
  have t12 := m_R_keeps0 (d := d) (h := rs12 h) (a := 53) (p := 36134) (n := 20) (rs12_w w) (by rw [rs12_A]; exact sA_53 w) (by decide) (by decide) (by rw [rs12_l, sl_53 w]; rfl) (by decide)
  rw [show (36134 : Int) + 20 = 36154 from rfl, rs12_i (b := 55) (by decide), rs12_i (b := 53) (by decide)] at t12
  have t12' : ev (d + 1) M_R_keeps [aQ (some 39), aQ (some 53), aI 0] (pf (rs12 h) 39 21 (aI 36134)) = some (none, pf (rs13 h) 39 21 (aI 36154)) := t12
  have t13 := m_R_keeps0 (d := d) (h := rs13 h) (a := 54) (p := 36154) (n := 6) (rs13_w w) (by rw [rs13_A]; exact sA_54 w) (by decide) (by decide) (by rw [rs13_l, sl_54 w]; rfl) (by decide)
  rw [show (36154 : Int) + 6 = 36160 from rfl, rs13_i (b := 55) (by decide), rs13_i (b := 54) (by decide)] at t13
  have t13' : ev (d + 1) M_R_keeps [aQ (some 39), aQ (some 54), aI 0] (pf (rs13 h) 39 21 (aI 36154)) = some (none, pf (rs14 h) 39 21 (aI 36160)) := t13
  have e0 : pf h 39 21 (aI 0) = pf (rs0 h) 39 21 (aI 0) := rfl
  rw [n_R_keepsAll]
  simp (disch := first | assumption | omega | exact aNl_I | exact aNl_Q | exact bl0 | exact bl1 | exact bl2 | exact bl3 | exact bl4 | exact aNl_U) only [u_R_keepsAll_0, u_R_keepsAll_1, u_R_keepsAll_2, u_R_keepsAll_5, u_R_keepsAll_6, u_R_keepsAll_7, u_R_keepsAll_10, u_R_keepsAll_11, u_R_keepsAll_14, u_R_keepsAll_15, u_R_keepsAll_16, u_R_keepsAll_19, u_R_keepsAll_20, u_R_keepsAll_23, u_R_keepsAll_24, u_R_keepsAll_25, u_R_keepsAll_28, u_R_keepsAll_29, u_R_keepsAll_32, u_R_keepsAll_33, u_R_keepsAll_34, u_R_keepsAll_37, u_R_keepsAll_38, u_R_keepsAll_41, u_R_keepsAll_42, u_R_keepsAll_43, u_R_keepsAll_46, u_R_keepsAll_47, u_R_keepsAll_50, u_R_keepsAll_51, u_R_keepsAll_52, u_R_keepsAll_55, u_R_keepsAll_56, u_R_keepsAll_59, u_R_keepsAll_60, u_R_keepsAll_61, u_R_keepsAll_64, u_R_keepsAll_65, u_R_keepsAll_68, u_R_keepsAll_69, u_R_keepsAll_70, u_R_keepsAll_73, u_R_keepsAll_74, u_R_keepsAll_77, u_R_keepsAll_78, u_R_keepsAll_79, u_R_keepsAll_82, u_R_keepsAll_83, u_R_keepsAll_86, u_R_keepsAll_87, u_R_keepsAll_88, u_R_keepsAll_91, u_R_keepsAll_92, u_R_keepsAll_95, u_R_keepsAll_96, u_R_keepsAll_97, u_R_keepsAll_100, u_R_keepsAll_101, u_R_keepsAll_104, u_R_keepsAll_105, u_R_keepsAll_106, u_R_keepsAll_109, u_R_keepsAll_110, u_R_keepsAll_113, u_R_keepsAll_114, u_R_keepsAll_115, u_R_keepsAll_118, u_R_keepsAll_119, u_R_keepsAll_122, u_R_keepsAll_123, u_R_keepsAll_124, u_R_keepsAll_127, u_R_keepsAll_128, u_R_keepsAll_131, aSz_pf, aSz_sa, aSz_sr, isO_pf, isO_sa, isO_sr, isA_pf, isA_sa, isA_sr, isR_pf, isR_sa, isR_sr, al_pf, al_sa, al_sr, gf_sa, gf_sr, ai_pf, ai_sr, ra_pf, ra_sa, gf_pn, ai_sn, ra_sn, sa_sa, pf_pf, fi_sa, fi_sr, fi_pn, gO_pf, gO_sa, gO_sr, gA_pf, gA_sa, gA_sr, gR_pf, gR_sa, gR_sr, isAR_pf, isAR_sa, isAR_sr, okQ_pf, okQ_sa, okQ_sr, okC_pf, okC_sa, okC_sr, okQ_n, gB_t, sg_3, sg_4, sg_9, sg_11, sg_16, sg_18, sg_21, sg_23, sg_28, sg_31, sg_33, sg_35, sg_37, sg_39, sq_3_0, sq_3_1, sq_3_2, sq_3_3, sq_3_4, sq_3_5, sq_3_6, sq_4_1, sq_4_6, sq_4_7, sq_4_9, sq_11_1, sq_11_6, sq_11_7, sq_11_9, sq_9_0, sq_16_0, sq_18_0, sq_18_1, sq_21_0, sq_23_1, sq_23_2, sq_23_4, sq_23_5, sq_28_0, sq_31_2, sq_33_2, sq_35_2, sq_37_2, sq_39_0, sq_39_1, sq_39_2, sq_39_3, sq_39_4, sq_39_5, sq_39_6, sq_39_7, sq_39_8, sq_39_9, sq_39_10, sq_39_11, sq_39_12, sq_39_13, sq_39_14, sq_39_15, sq_39_19, sq_39_20, sq_39_22, sq_39_24, sq_39_25, sq_39_26, sq_39_27, sq_39_29, sq_39_30, sq_39_31, si_3_7, si_3_8, si_3_9, si_4_0, si_4_2, si_4_3, si_4_4, si_4_5, si_4_8, si_11_0, si_11_2, si_11_3, si_11_4, si_11_5, si_11_8, si_18_2, si_18_5, si_18_6, si_23_0, si_23_3, si_28_1, si_31_0, si_31_1, si_33_0, si_33_1, si_35_0, si_35_1, si_37_0, si_37_1, si_39_16, si_39_17, si_39_18, si_39_21, si_39_23, si_39_28, sp_3_7, sp_3_8, sp_3_9, sp_4_0, sp_4_2, sp_4_3, sp_4_4, sp_4_5, sp_4_8, sp_11_0, sp_11_2, sp_11_3, sp_11_4, sp_11_5, sp_11_8, sp_18_2, sp_18_5, sp_18_6, sp_23_0, sp_23_3, sp_28_1, sp_31_0, sp_31_1, sp_33_0, sp_33_1, sp_35_0, sp_35_1, sp_37_0, sp_37_1, sp_39_16, sp_39_17, sp_39_18, sp_39_21, sp_39_23, sp_39_28, sf_3_7, sf_3_8, sf_3_9, sf_4_0, sf_4_2, sf_4_3, sf_4_4, sf_4_5, sf_4_8, sf_11_0, sf_11_2, sf_11_3, sf_11_4, sf_11_5, sf_11_8, sf_18_2, sf_18_5, sf_18_6, sf_23_0, sf_23_3, sf_28_1, sf_31_0, sf_31_1, sf_33_0, sf_33_1, sf_35_0, sf_35_1, sf_37_0, sf_37_1, sf_39_16, sf_39_17, sf_39_18, sf_39_21, sf_39_23, sf_39_28, sp_18_3, sp_18_4, sG_1, sG_2, sG_5, sG_6, sG_12, sG_13, sG_19, sG_20, sG_22, sG_24, sG_25, sG_26, sG_27, sG_29, sG_32, sG_34, sG_36, sG_38, sG_40, sG_41, sG_42, sG_43, sG_44, sG_45, sG_46, sG_47, sG_48, sG_49, sG_50, sG_51, sG_52, sG_53, sG_54, sG_55, sG_56, sG_57, sG_58, sG_59, sG_60, sG_61, sG_62, sG_63, sG_64, sG_65, sE_1, sE_2, sE_5, sE_6, sE_12, sE_13, sE_19, sE_20, sE_22, sE_24, sE_25, sE_26, sE_27, sE_29, sE_32, sE_34, sE_36, sE_38, sE_40, sE_41, sE_42, sE_43, sE_44, sE_45, sE_46, sE_47, sE_48, sE_49, sE_50, sE_51, sE_52, sE_53, sE_54, sE_55, sE_56, sE_57, sE_58, sE_59, sE_60, sE_61, sE_62, sE_63, sE_64, sE_65, sG_7, sG_8, sG_10, sG_14, sG_15, sG_17, sG_30, sE_7, sE_8, sE_10, sE_14, sE_15, sE_17, sE_30, sS_0, sS_1, sS_2, sS_3, wr_id, wr_ai, wr_fi, wr_wand, wr_wor, wr_wxor, wr_wshl, wr_wshr, wr_lt, wr_gt, Int.reduceEq, Int.reduceLT, Int.reduceLE, Int.reduceNeg, b01, b10, and_self, true_and, and_true, false_and, and_false, or_false, false_or, or_true, true_or, ite_not, not_true_eq_false, not_false_eq_true, kk_v, kk_0, reduceCtorEq, if_true, if_false, ite_true, ite_false, swt, Option.some.injEq]
  rw [e0]
  simp (disch := first | assumption | omega | exact aNl_I | exact aNl_Q | exact bl0 | exact bl1 | exact bl2 | exact bl3 | exact bl4 | exact aNl_U) only [u_R_keepsAll_0, u_R_keepsAll_1, u_R_keepsAll_2, u_R_keepsAll_5, u_R_keepsAll_6, u_R_keepsAll_7, u_R_keepsAll_10, u_R_keepsAll_11, u_R_keepsAll_14, u_R_keepsAll_15, u_R_keepsAll_16, u_R_keepsAll_19, u_R_keepsAll_20, u_R_keepsAll_23, u_R_keepsAll_24, u_R_keepsAll_25, u_R_keepsAll_28, u_R_keepsAll_29, u_R_keepsAll_32, u_R_keepsAll_33, u_R_keepsAll_34, u_R_keepsAll_37, u_R_keepsAll_38, u_R_keepsAll_41, u_R_keepsAll_42, u_R_keepsAll_43, u_R_keepsAll_46, u_R_keepsAll_47, u_R_keepsAll_50, u_R_keepsAll_51, u_R_keepsAll_52, u_R_keepsAll_55, u_R_keepsAll_56, u_R_keepsAll_59, u_R_keepsAll_60, u_R_keepsAll_61, u_R_keepsAll_64, u_R_keepsAll_65, u_R_keepsAll_68, u_R_keepsAll_69, u_R_keepsAll_70, u_R_keepsAll_73, u_R_keepsAll_74, u_R_keepsAll_77, u_R_keepsAll_78, u_R_keepsAll_79, u_R_keepsAll_82, u_R_keepsAll_83, u_R_keepsAll_86, u_R_keepsAll_87, u_R_keepsAll_88, u_R_keepsAll_91, u_R_keepsAll_92, u_R_keepsAll_95, u_R_keepsAll_96, u_R_keepsAll_97, u_R_keepsAll_100, u_R_keepsAll_101, u_R_keepsAll_104, u_R_keepsAll_105, u_R_keepsAll_106, u_R_keepsAll_109, u_R_keepsAll_110, u_R_keepsAll_113, u_R_keepsAll_114, u_R_keepsAll_115, u_R_keepsAll_118, u_R_keepsAll_119, u_R_keepsAll_122, u_R_keepsAll_123, u_R_keepsAll_124, u_R_keepsAll_127, u_R_keepsAll_128, u_R_keepsAll_131, aSz_pf, aSz_sa, aSz_sr, isO_pf, isO_sa, isO_sr, isA_pf, isA_sa, isA_sr, isR_pf, isR_sa, isR_sr, al_pf, al_sa, al_sr, gf_sa, gf_sr, ai_pf, ai_sr, ra_pf, ra_sa, gf_pn, ai_sn, ra_sn, sa_sa, pf_pf, fi_sa, fi_sr, fi_pn, gO_pf, gO_sa, gO_sr, gA_pf, gA_sa, gA_sr, gR_pf, gR_sa, gR_sr, isAR_pf, isAR_sa, isAR_sr, okQ_pf, okQ_sa, okQ_sr, okC_pf, okC_sa, okC_sr, okQ_n, gB_t, sg_3, sg_4, sg_9, sg_11, sg_16, sg_18, sg_21, sg_23, sg_28, sg_31, sg_33, sg_35, sg_37, sg_39, sq_3_0, sq_3_1, sq_3_2, sq_3_3, sq_3_4, sq_3_5, sq_3_6, sq_4_1, sq_4_6, sq_4_7, sq_4_9, sq_11_1, sq_11_6, sq_11_7, sq_11_9, sq_9_0, sq_16_0, sq_18_0, sq_18_1, sq_21_0, sq_23_1, sq_23_2, sq_23_4, sq_23_5, sq_28_0, sq_31_2, sq_33_2, sq_35_2, sq_37_2, sq_39_0, sq_39_1, sq_39_2, sq_39_3, sq_39_4, sq_39_5, sq_39_6, sq_39_7, sq_39_8, sq_39_9, sq_39_10, sq_39_11, sq_39_12, sq_39_13, sq_39_14, sq_39_15, sq_39_19, sq_39_20, sq_39_22, sq_39_24, sq_39_25, sq_39_26, sq_39_27, sq_39_29, sq_39_30, sq_39_31, si_3_7, si_3_8, si_3_9, si_4_0, si_4_2, si_4_3, si_4_4, si_4_5, si_4_8, si_11_0, si_11_2, si_11_3, si_11_4, si_11_5, si_11_8, si_18_2, si_18_5, si_18_6, si_23_0, si_23_3, si_28_1, si_31_0, si_31_1, si_33_0, si_33_1, si_35_0, si_35_1, si_37_0, si_37_1, si_39_16, si_39_17, si_39_18, si_39_21, si_39_23, si_39_28, sp_3_7, sp_3_8, sp_3_9, sp_4_0, sp_4_2, sp_4_3, sp_4_4, sp_4_5, sp_4_8, sp_11_0, sp_11_2, sp_11_3, sp_11_4, sp_11_5, sp_11_8, sp_18_2, sp_18_5, sp_18_6, sp_23_0, sp_23_3, sp_28_1, sp_31_0, sp_31_1, sp_33_0, sp_33_1, sp_35_0, sp_35_1, sp_37_0, sp_37_1, sp_39_16, sp_39_17, sp_39_18, sp_39_21, sp_39_23, sp_39_28, sf_3_7, sf_3_8, sf_3_9, sf_4_0, sf_4_2, sf_4_3, sf_4_4, sf_4_5, sf_4_8, sf_11_0, sf_11_2, sf_11_3, sf_11_4, sf_11_5, sf_11_8, sf_18_2, sf_18_5, sf_18_6, sf_23_0, sf_23_3, sf_28_1, sf_31_0, sf_31_1, sf_33_0, sf_33_1, sf_35_0, sf_35_1, sf_37_0, sf_37_1, sf_39_16, sf_39_17, sf_39_18, sf_39_21, sf_39_23, sf_39_28, sp_18_3, sp_18_4, sG_1, sG_2, sG_5, sG_6, sG_12, sG_13, sG_19, sG_20, sG_22, sG_24, sG_25, sG_26, sG_27, sG_29, sG_32, sG_34, sG_36, sG_38, sG_40, sG_41, sG_42, sG_43, sG_44, sG_45, sG_46, sG_47, sG_48, sG_49, sG_50, sG_51, sG_52, sG_53, sG_54, sG_55, sG_56, sG_57, sG_58, sG_59, sG_60, sG_61, sG_62, sG_63, sG_64, sG_65, sE_1, sE_2, sE_5, sE_6, sE_12, sE_13, sE_19, sE_20, sE_22, sE_24, sE_25, sE_26, sE_27, sE_29, sE_32, sE_34, sE_36, sE_38, sE_40, sE_41, sE_42, sE_43, sE_44, sE_45, sE_46, sE_47, sE_48, sE_49, sE_50, sE_51, sE_52, sE_53, sE_54, sE_55, sE_56, sE_57, sE_58, sE_59, sE_60, sE_61, sE_62, sE_63, sE_64, sE_65, sG_7, sG_8, sG_10, sG_14, sG_15, sG_17, sG_30, sE_7, sE_8, sE_10, sE_14, sE_15, sE_17, sE_30, sS_0, sS_1, sS_2, sS_3, wr_id, wr_ai, wr_fi, wr_wand, wr_wor, wr_wxor, wr_wshl, wr_wshr, wr_lt, wr_gt, Int.reduceEq, Int.reduceLT, Int.reduceLE, Int.reduceNeg, b01, b10, and_self, true_and, and_true, false_and, and_false, or_false, false_or, or_true, true_or, ite_not, not_true_eq_false, not_false_eq_true, kk_v, kk_0, reduceCtorEq, if_true, if_false, ite_true, ite_false, swt, Option.some.injEq, t0', t1', t2', t3', t4', t5', t6', t7', t8', t9', t10', t11', t12', t13', rs0_f, rs0_O, rs1_f, rs1_O, rs2_f, rs2_O, rs3_f, rs3_O, rs4_f, rs4_O, rs5_f, rs5_O, rs6_f, rs6_O, rs7_f, rs7_O, rs8_f, rs8_O, rs9_f, rs9_O, rs10_f, rs10_O, rs11_f, rs11_O, rs12_f, rs12_O, rs13_f, rs13_O, rs14_f, rs14_O]
theorem rs_ag (w : Sh h) : AgR (imV (ai h 55)) (rV (rs14 h)) := by
  have e : rV (rs14 h) = uV (uV (uV (uV (uV (uV (uV (uV (uV (uV (uV (uV (uV (uV (rV h) 40 (rsF (ai h 55) (ai h 40) 0 3240)) 41 (rsF (ai h 55) (ai h 41) 3240 6)) 42 (rsF (ai h 55) (ai h 42) 3246 32400)) 43 (rsF (ai h 55) (ai h 43) 35646 60)) 45 (rsF (ai h 55) (ai h 45) 35706 60)) 46 (rsF (ai h 55) (ai h 46) 35766 60)) 47 (rsF (ai h 55) (ai h 47) 35826 60)) 48 (rsF (ai h 55) (ai h 48) 35886 60)) 49 (rsF (ai h 55) (ai h 49) 35946 60)) 50 (rsF (ai h 55) (ai h 50) 36006 60)) 51 (rsF (ai h 55) (ai h 51) 36066 60)) 52 (rsF (ai h 55) (ai h 52) 36126 8)) 53 (rsF (ai h 55) (ai h 53) 36134 20)) 54 (rsF (ai h 55) (ai h 54) 36154 6) := by
    unfold rs14 rs13 rs12 rs11 rs10 rs9 rs8 rs7 rs6 rs5 rs4 rs3 rs2 rs1 rs0
    rw [rV_sa (by (try simp only [isA_sa]); exact sA_54 w) (by decide) (by decide), rV_sa (by (try simp only [isA_sa]); exact sA_53 w) (by decide) (by decide), rV_sa (by (try simp only [isA_sa]); exact sA_52 w) (by decide) (by decide), rV_sa (by (try simp only [isA_sa]); exact sA_51 w) (by decide) (by decide), rV_sa (by (try simp only [isA_sa]); exact sA_50 w) (by decide) (by decide), rV_sa (by (try simp only [isA_sa]); exact sA_49 w) (by decide) (by decide), rV_sa (by (try simp only [isA_sa]); exact sA_48 w) (by decide) (by decide), rV_sa (by (try simp only [isA_sa]); exact sA_47 w) (by decide) (by decide), rV_sa (by (try simp only [isA_sa]); exact sA_46 w) (by decide) (by decide), rV_sa (by (try simp only [isA_sa]); exact sA_45 w) (by decide) (by decide), rV_sa (by (try simp only [isA_sa]); exact sA_43 w) (by decide) (by decide), rV_sa (by (try simp only [isA_sa]); exact sA_42 w) (by decide) (by decide), rV_sa (by (try simp only [isA_sa]); exact sA_41 w) (by decide) (by decide), rV_sa (by (try simp only [isA_sa]); exact sA_40 w) (by decide) (by decide)]
  rw [e]
  intro a k1 k2 k3 j j1 j2
  have hc : a = 40 ∨ a = 41 ∨ a = 42 ∨ a = 43 ∨ a = 45 ∨ a = 46 ∨ a = 47 ∨ a = 48 ∨ a = 49 ∨ a = 50 ∨ a = 51 ∨ a = 52 ∨ a = 53 ∨ a = 54 := by omega
  rcases hc with rfl | rfl | rfl | rfl | rfl | rfl | rfl | rfl | rfl | rfl | rfl | rfl | rfl | rfl
  · have j3 : j < 3240 := j2
    simp (disch := omega) only [uV_e, uV_n, rsF_in]
    show _ = ai h 55 (0 + j)
    rfl
  · have j3 : j < 6 := j2
    simp (disch := omega) only [uV_e, uV_n, rsF_in]
    show _ = ai h 55 (3240 + j)
    rfl
  · have j3 : j < 32400 := j2
    simp (disch := omega) only [uV_e, uV_n, rsF_in]
    show _ = ai h 55 (3246 + j)
    rfl
  · have j3 : j < 60 := j2
    simp (disch := omega) only [uV_e, uV_n, rsF_in]
    show _ = ai h 55 (35646 + j)
    rfl
  · have j3 : j < 60 := j2
    simp (disch := omega) only [uV_e, uV_n, rsF_in]
    show _ = ai h 55 (35706 + j)
    rfl
  · have j3 : j < 60 := j2
    simp (disch := omega) only [uV_e, uV_n, rsF_in]
    show _ = ai h 55 (35766 + j)
    rfl
  · have j3 : j < 60 := j2
    simp (disch := omega) only [uV_e, uV_n, rsF_in]
    show _ = ai h 55 (35826 + j)
    rfl
  · have j3 : j < 60 := j2
    simp (disch := omega) only [uV_e, uV_n, rsF_in]
    show _ = ai h 55 (35886 + j)
    rfl
  · have j3 : j < 60 := j2
    simp (disch := omega) only [uV_e, uV_n, rsF_in]
    show _ = ai h 55 (35946 + j)
    rfl
  · have j3 : j < 60 := j2
    simp (disch := omega) only [uV_e, uV_n, rsF_in]
    show _ = ai h 55 (36006 + j)
    rfl
  · have j3 : j < 60 := j2
    simp (disch := omega) only [uV_e, uV_n, rsF_in]
    show _ = ai h 55 (36066 + j)
    rfl
  · have j3 : j < 8 := j2
    simp (disch := omega) only [uV_e, uV_n, rsF_in]
    show _ = ai h 55 (36126 + j)
    rfl
  · have j3 : j < 20 := j2
    simp (disch := omega) only [uV_e, uV_n, rsF_in]
    show _ = ai h 55 (36134 + j)
    rfl
  · have j3 : j < 6 := j2
    simp (disch := omega) only [uV_e, uV_n, rsF_in]
    show _ = ai h 55 (36154 + j)
    rfl
end IMG
