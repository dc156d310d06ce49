/-! one more change; the step of back -/
section BK
variable {d : Nat} {h h1 h2 hX : aH} {a b r c p : Nat} {A B F G : Int → Int} {o o' n f : Int} {P : Int → Option Nat} {V U : Nat → Int → Int} {L : List Nat} {kd hd ot kp t : Int}
theorem cpf_z {sp dp : Int} : cpf F G sp dp 0 = G := by
  funext j
  unfold cpf
  rw [if_neg (by omega)]
theorem cpf_s {sp dp k : Int} (hk : 0 ≤ k) : upf (cpf F G sp dp k) (dp + k) (F (sp + k)) = cpf F G sp dp (k + 1) := by
  funext j
  unfold upf cpf
  by_cases c : j = dp + k
  · rw [if_pos c, if_pos (by omega), show sp + (j - dp) = sp + k by omega]
  · rw [if_neg c]
    by_cases c2 : dp ≤ j ∧ j < dp + k
    · rw [if_pos c2, if_pos (by omega)]
    · rw [if_neg c2, if_neg (by omega)]
theorem cpf_in {sp dp k j : Int} (h1 : 0 ≤ j) (h2 : j < k) : cpf F G sp dp k (dp + j) = F (sp + j) := by
  unfold cpf
  rw [if_pos (by omega)]
  congr 1
  omega
theorem cpf_out {sp dp k j : Int} (h1 : j < dp ∨ dp + k ≤ j) : cpf F G sp dp k j = G j := if_neg (by omega)
/-- a new change is noted -/
def cmV (V : Nat → Int → Int) (kd f hd ot : Int) : Nat → Int → Int := uV (uV (uV (uV (uV (uV (uV (uV (uV V 54 (upf (V 54) 1 (V 54 1 + 1))) 45 (upf (V 45) (V 54 1) kd)) 46 (upf (V 46) (V 54 1) f)) 47 (upf (V 47) (V 54 1) hd)) 48 (upf (V 48) (V 54 1) ot)) 49 (upf (V 49) (V 54 1) (V 54 4))) 51 (upf (V 51) (V 54 1) (V 41 f))) 43 (upf (V 43) (V 54 1) (V 41 f))) 42 (cpf (V 40) (V 42) (540 * f) (540 * V 54 1) 540)
theorem l_R_comes (w : Sh h) (hA : ai h 40 = A) (hB : ai h 42 = B) (hf : 0 ≤ f ∧ f < 6) {C : Int} (hC : 0 ≤ C ∧ C < 60) {x1 x3 x4 : aV} : ∀ (m : Nat) (k : Int), 0 ≤ k → k ≤ 540 → (540 - k).toNat = m →
    ex (ev d) k_R_comes 93 [aQ (some 39), x1, aI f, x3, x4, aI C, aI k] [] (sa h 42 (cpf A B (540 * f) (540 * C) k)) = some (some (aI C), sa h 42 (cpf A B (540 * f) (540 * C) 540)) := by
  intro m
  induction m with
  | zero =>
    intro k h1 h2 hm
    have e : k = 540 := by omega
    subst e
    rw [u_R_comes_93]
    simp (disch := first | assumption | omega | exact aNl_I | exact aNl_Q | exact bl0 | exact bl1 | exact bl2 | exact bl3 | exact bl4 | exact aNl_U) only [u_R_comes_0, u_R_comes_1, u_R_comes_4, u_R_comes_5, u_R_comes_6, u_R_comes_8, u_R_comes_9, u_R_comes_12, u_R_comes_13, u_R_comes_14, u_R_comes_15, u_R_comes_16, u_R_comes_17, u_R_comes_18, u_R_comes_19, u_R_comes_22, u_R_comes_24, u_R_comes_25, u_R_comes_26, u_R_comes_27, u_R_comes_30, u_R_comes_32, u_R_comes_33, u_R_comes_34, u_R_comes_35, u_R_comes_38, u_R_comes_40, u_R_comes_41, u_R_comes_42, u_R_comes_43, u_R_comes_46, u_R_comes_48, u_R_comes_50, u_R_comes_51, u_R_comes_52, u_R_comes_55, u_R_comes_57, u_R_comes_58, u_R_comes_61, u_R_comes_62, u_R_comes_63, u_R_comes_64, u_R_comes_65, u_R_comes_68, u_R_comes_70, u_R_comes_71, u_R_comes_74, u_R_comes_75, u_R_comes_76, u_R_comes_77, u_R_comes_78, u_R_comes_81, u_R_comes_83, u_R_comes_84, u_R_comes_87, u_R_comes_88, u_R_comes_89, u_R_comes_90, u_R_comes_91, u_R_comes_95, u_R_comes_98, u_R_comes_101, u_R_comes_102, u_R_comes_105, u_R_comes_108, u_R_comes_110, u_R_comes_111, u_R_comes_113, u_R_comes_114, u_R_comes_115, u_R_comes_118, u_R_comes_121, u_R_comes_122, u_R_comes_123, u_R_comes_125, u_R_comes_126, u_R_comes_127, u_R_comes_128, u_R_comes_131, u_R_comes_134, u_R_comes_136, aSz_pf, aSz_sa, aSz_sr, isO_pf, isO_sa, isO_sr, isA_pf, isA_sa, isA_sr, isR_pf, isR_sa, isR_sr, al_pf, al_sa, al_sr, gf_sa, gf_sr, ai_pf, ai_sr, ra_pf, ra_sa, gf_pn, ai_sn, ra_sn, sa_sa, pf_pf, fi_sa, fi_sr, fi_pn, gO_pf, gO_sa, gO_sr, gA_pf, gA_sa, gA_sr, gR_pf, gR_sa, gR_sr, isAR_pf, isAR_sa, isAR_sr, okQ_pf, okQ_sa, okQ_sr, okC_pf, okC_sa, okC_sr, okQ_n, gB_t, sg_3, sg_4, sg_9, sg_11, sg_16, sg_18, sg_21, sg_23, sg_28, sg_31, sg_33, sg_35, sg_37, sg_39, sq_3_0, sq_3_1, sq_3_2, sq_3_3, sq_3_4, sq_3_5, sq_3_6, sq_4_1, sq_4_6, sq_4_7, sq_4_9, sq_11_1, sq_11_6, sq_11_7, sq_11_9, sq_9_0, sq_16_0, sq_18_0, sq_18_1, sq_21_0, sq_23_1, sq_23_2, sq_23_4, sq_23_5, sq_28_0, sq_31_2, sq_33_2, sq_35_2, sq_37_2, sq_39_0, sq_39_1, sq_39_2, sq_39_3, sq_39_4, sq_39_5, sq_39_6, sq_39_7, sq_39_8, sq_39_9, sq_39_10, sq_39_11, sq_39_12, sq_39_13, sq_39_14, sq_39_15, sq_39_19, sq_39_20, sq_39_22, sq_39_24, sq_39_25, sq_39_26, sq_39_27, sq_39_29, sq_39_30, sq_39_31, si_3_7, si_3_8, si_3_9, si_4_0, si_4_2, si_4_3, si_4_4, si_4_5, si_4_8, si_11_0, si_11_2, si_11_3, si_11_4, si_11_5, si_11_8, si_18_2, si_18_5, si_18_6, si_23_0, si_23_3, si_28_1, si_31_0, si_31_1, si_33_0, si_33_1, si_35_0, si_35_1, si_37_0, si_37_1, si_39_16, si_39_17, si_39_18, si_39_21, si_39_23, si_39_28, sp_3_7, sp_3_8, sp_3_9, sp_4_0, sp_4_2, sp_4_3, sp_4_4, sp_4_5, sp_4_8, sp_11_0, sp_11_2, sp_11_3, sp_11_4, sp_11_5, sp_11_8, sp_18_2, sp_18_5, sp_18_6, sp_23_0, sp_23_3, sp_28_1, sp_31_0, sp_31_1, sp_33_0, sp_33_1, sp_35_0, sp_35_1, sp_37_0, sp_37_1, sp_39_16, sp_39_17, sp_39_18, sp_39_21, sp_39_23, sp_39_28, sf_3_7, sf_3_8, sf_3_9, sf_4_0, sf_4_2, sf_4_3, sf_4_4, sf_4_5, sf_4_8, sf_11_0, sf_11_2, sf_11_3, sf_11_4, sf_11_5, sf_11_8, sf_18_2, sf_18_5, sf_18_6, sf_23_0, sf_23_3, sf_28_1, sf_31_0, sf_31_1, sf_33_0, sf_33_1, sf_35_0, sf_35_1, sf_37_0, sf_37_1, sf_39_16, sf_39_17, sf_39_18, sf_39_21, sf_39_23, sf_39_28, sp_18_3, sp_18_4, sG_1, sG_2, sG_5, sG_6, sG_12, sG_13, sG_19, sG_20, sG_22, sG_24, sG_25, sG_26, sG_27, sG_29, sG_32, sG_34, sG_36, sG_38, sG_40, sG_41, sG_42, sG_43, sG_44, sG_45, sG_46, sG_47, sG_48, sG_49, sG_50, sG_51, sG_52, sG_53, sG_54, sG_55, sG_56, sG_57, sG_58, sG_59, sG_60, sG_61, sG_62, sG_63, sG_64, sG_65, sE_1, sE_2, sE_5, sE_6, sE_12, sE_13, sE_19, sE_20, sE_22, sE_24, sE_25, sE_26, sE_27, sE_29, sE_32, sE_34, sE_36, sE_38, sE_40, sE_41, sE_42, sE_43, sE_44, sE_45, sE_46, sE_47, sE_48, sE_49, sE_50, sE_51, sE_52, sE_53, sE_54, sE_55, sE_56, sE_57, sE_58, sE_59, sE_60, sE_61, sE_62, sE_63, sE_64, sE_65, sG_7, sG_8, sG_10, sG_14, sG_15, sG_17, sG_30, sE_7, sE_8, sE_10, sE_14, sE_15, sE_17, sE_30, sS_0, sS_1, sS_2, sS_3, wr_id, wr_ai, wr_fi, wr_wand, wr_wor, wr_wxor, wr_wshl, wr_wshr, wr_lt, wr_gt, Int.reduceEq, Int.reduceLT, Int.reduceLE, Int.reduceNeg, b01, b10, and_self, true_and, and_true, false_and, and_false, or_false, false_or, or_true, true_or, ite_not, not_true_eq_false, not_false_eq_true, kk_v, kk_0, reduceCtorEq, if_true, if_false, ite_true, ite_false, swt, Option.some.injEq, Int.lt_irrefl]
  | succ m ih =>
    intro k h1 h2 hm
    have c : k < 540 := by omega
    have hgo := ih (k + 1) (by omega) (by omega) (by omega)
    have e3 := cpf_s (F := A) (G := B) (sp := 540 * f) (dp := 540 * C) (k := k) h1
    rw [u_R_comes_93]
    simp (disch := first | assumption | omega | exact aNl_I | exact aNl_Q | exact bl0 | exact bl1 | exact bl2 | exact bl3 | exact bl4 | exact aNl_U) only [u_R_comes_0, u_R_comes_1, u_R_comes_4, u_R_comes_5, u_R_comes_6, u_R_comes_8, u_R_comes_9, u_R_comes_12, u_R_comes_13, u_R_comes_14, u_R_comes_15, u_R_comes_16, u_R_comes_17, u_R_comes_18, u_R_comes_19, u_R_comes_22, u_R_comes_24, u_R_comes_25, u_R_comes_26, u_R_comes_27, u_R_comes_30, u_R_comes_32, u_R_comes_33, u_R_comes_34, u_R_comes_35, u_R_comes_38, u_R_comes_40, u_R_comes_41, u_R_comes_42, u_R_comes_43, u_R_comes_46, u_R_comes_48, u_R_comes_50, u_R_comes_51, u_R_comes_52, u_R_comes_55, u_R_comes_57, u_R_comes_58, u_R_comes_61, u_R_comes_62, u_R_comes_63, u_R_comes_64, u_R_comes_65, u_R_comes_68, u_R_comes_70, u_R_comes_71, u_R_comes_74, u_R_comes_75, u_R_comes_76, u_R_comes_77, u_R_comes_78, u_R_comes_81, u_R_comes_83, u_R_comes_84, u_R_comes_87, u_R_comes_88, u_R_comes_89, u_R_comes_90, u_R_comes_91, u_R_comes_95, u_R_comes_98, u_R_comes_101, u_R_comes_102, u_R_comes_105, u_R_comes_108, u_R_comes_110, u_R_comes_111, u_R_comes_113, u_R_comes_114, u_R_comes_115, u_R_comes_118, u_R_comes_121, u_R_comes_122, u_R_comes_123, u_R_comes_125, u_R_comes_126, u_R_comes_127, u_R_comes_128, u_R_comes_131, u_R_comes_134, u_R_comes_136, aSz_pf, aSz_sa, aSz_sr, isO_pf, isO_sa, isO_sr, isA_pf, isA_sa, isA_sr, isR_pf, isR_sa, isR_sr, al_pf, al_sa, al_sr, gf_sa, gf_sr, ai_pf, ai_sr, ra_pf, ra_sa, gf_pn, ai_sn, ra_sn, sa_sa, pf_pf, fi_sa, fi_sr, fi_pn, gO_pf, gO_sa, gO_sr, gA_pf, gA_sa, gA_sr, gR_pf, gR_sa, gR_sr, isAR_pf, isAR_sa, isAR_sr, okQ_pf, okQ_sa, okQ_sr, okC_pf, okC_sa, okC_sr, okQ_n, gB_t, sg_3, sg_4, sg_9, sg_11, sg_16, sg_18, sg_21, sg_23, sg_28, sg_31, sg_33, sg_35, sg_37, sg_39, sq_3_0, sq_3_1, sq_3_2, sq_3_3, sq_3_4, sq_3_5, sq_3_6, sq_4_1, sq_4_6, sq_4_7, sq_4_9, sq_11_1, sq_11_6, sq_11_7, sq_11_9, sq_9_0, sq_16_0, sq_18_0, sq_18_1, sq_21_0, sq_23_1, sq_23_2, sq_23_4, sq_23_5, sq_28_0, sq_31_2, sq_33_2, sq_35_2, sq_37_2, sq_39_0, sq_39_1, sq_39_2, sq_39_3, sq_39_4, sq_39_5, sq_39_6, sq_39_7, sq_39_8, sq_39_9, sq_39_10, sq_39_11, sq_39_12, sq_39_13, sq_39_14, sq_39_15, sq_39_19, sq_39_20, sq_39_22, sq_39_24, sq_39_25, sq_39_26, sq_39_27, sq_39_29, sq_39_30, sq_39_31, si_3_7, si_3_8, si_3_9, si_4_0, si_4_2, si_4_3, si_4_4, si_4_5, si_4_8, si_11_0, si_11_2, si_11_3, si_11_4, si_11_5, si_11_8, si_18_2, si_18_5, si_18_6, si_23_0, si_23_3, si_28_1, si_31_0, si_31_1, si_33_0, si_33_1, si_35_0, si_35_1, si_37_0, si_37_1, si_39_16, si_39_17, si_39_18, si_39_21, si_39_23, si_39_28, sp_3_7, sp_3_8, sp_3_9, sp_4_0, sp_4_2, sp_4_3, sp_4_4, sp_4_5, sp_4_8, sp_11_0, sp_11_2, sp_11_3, sp_11_4, sp_11_5, sp_11_8, sp_18_2, sp_18_5, sp_18_6, sp_23_0, sp_23_3, sp_28_1, sp_31_0, sp_31_1, sp_33_0, sp_33_1, sp_35_0, sp_35_1, sp_37_0, sp_37_1, sp_39_16, sp_39_17, sp_39_18, sp_39_21, sp_39_23, sp_39_28, sf_3_7, sf_3_8, sf_3_9, sf_4_0, sf_4_2, sf_4_3, sf_4_4, sf_4_5, sf_4_8, sf_11_0, sf_11_2, sf_11_3, sf_11_4, sf_11_5, sf_11_8, sf_18_2, sf_18_5, sf_18_6, sf_23_0, sf_23_3, sf_28_1, sf_31_0, sf_31_1, sf_33_0, sf_33_1, sf_35_0, sf_35_1, sf_37_0, sf_37_1, sf_39_16, sf_39_17, sf_39_18, sf_39_21, sf_39_23, sf_39_28, sp_18_3, sp_18_4, sG_1, sG_2, sG_5, sG_6, sG_12, sG_13, sG_19, sG_20, sG_22, sG_24, sG_25, sG_26, sG_27, sG_29, sG_32, sG_34, sG_36, sG_38, sG_40, sG_41, sG_42, sG_43, sG_44, sG_45, sG_46, sG_47, sG_48, sG_49, sG_50, sG_51, sG_52, sG_53, sG_54, sG_55, sG_56, sG_57, sG_58, sG_59, sG_60, sG_61, sG_62, sG_63, sG_64, sG_65, sE_1, sE_2, sE_5, sE_6, sE_12, sE_13, sE_19, sE_20, sE_22, sE_24, sE_25, sE_26, sE_27, sE_29, sE_32, sE_34, sE_36, sE_38, sE_40, sE_41, sE_42, sE_43, sE_44, sE_45, sE_46, sE_47, sE_48, sE_49, sE_50, sE_51, sE_52, sE_53, sE_54, sE_55, sE_56, sE_57, sE_58, sE_59, sE_60, sE_61, sE_62, sE_63, sE_64, sE_65, sG_7, sG_8, sG_10, sG_14, sG_15, sG_17, sG_30, sE_7, sE_8, sE_10, sE_14, sE_15, sE_17, sE_30, sS_0, sS_1, sS_2, sS_3, wr_id, wr_ai, wr_fi, wr_wand, wr_wor, wr_wxor, wr_wshl, wr_wshr, wr_lt, wr_gt, Int.reduceEq, Int.reduceLT, Int.reduceLE, Int.reduceNeg, b01, b10, and_self, true_and, and_true, false_and, and_false, or_false, false_or, or_true, true_or, ite_not, not_true_eq_false, not_false_eq_true, kk_v, kk_0, reduceCtorEq, if_true, if_false, ite_true, ite_false, swt, Option.some.injEq, c, hA, e3, hgo]
theorem m_R_comes (w : Sh h) (g : Rg h) (hf : 0 ≤ f ∧ f < 6) (hC : 0 ≤ ai h 54 1 ∧ ai h 54 1 < 60) (hk : inr kd) (hh : inr hd) (ho : inr ot) : ∃ h1, ev (d + 1) M_R_comes [aQ (some 39), aI kd, aI f, aI hd, aI ot] h = some (some (aI (ai h 54 1)), h1) ∧ (Sh h1 ∧ Rg h1) ∧ Fr LR h h1 ∧ rV h1 = cmV (rV h) kd f hd ot ∧ (∀ k, fi h1 39 k = fi h 39 k) ∧ aSz h1 = aSz h ∧ aSl h1 = aSl h := by
  have w1 : Sh (sa (sa (sa (sa (sa (sa (sa (sa h 54 (upf (ai h 54) 1 (ai h 54 1 + 1))) 45 (upf (ai h 45) (ai h 54 1) kd)) 46 (upf (ai h 46) (ai h 54 1) f)) 47 (upf (ai h 47) (ai h 54 1) hd)) 48 (upf (ai h 48) (ai h 54 1) ot)) 49 (upf (ai h 49) (ai h 54 1) (ai h 54 4))) 51 (upf (ai h 51) (ai h 54 1) (ai h 41 f))) 43 (upf (ai h 43) (ai h 54 1) (ai h 41 f))) := Sh_sa (Sh_sa (Sh_sa (Sh_sa (Sh_sa (Sh_sa (Sh_sa (Sh_sa w (by decide)) (by decide)) (by decide)) (by decide)) (by decide)) (by decide)) (by decide)) (by decide)
  have g1 : Rg (sa (sa (sa (sa (sa (sa (sa (sa h 54 (upf (ai h 54) 1 (ai h 54 1 + 1))) 45 (upf (ai h 45) (ai h 54 1) kd)) 46 (upf (ai h 46) (ai h 54 1) f)) 47 (upf (ai h 47) (ai h 54 1) hd)) 48 (upf (ai h 48) (ai h 54 1) ot)) 49 (upf (ai h 49) (ai h 54 1) (ai h 54 4))) 51 (upf (ai h 51) (ai h 54 1) (ai h 41 f))) 43 (upf (ai h 43) (ai h 54 1) (ai h 41 f))) := Rg_sa (Rg_sa (Rg_sa (Rg_sa (Rg_sa (Rg_sa (Rg_sa (Rg_sa g (inr_upf ⟨by omega, by omega⟩ (g.1 54))) (inr_upf hk (g.1 45))) (inr_upf ⟨by omega, by omega⟩ (g.1 46))) (inr_upf hh (g.1 47))) (inr_upf ho (g.1 48))) (inr_upf (g.1 54 4) (g.1 49))) (inr_upf (g.1 41 f) (g.1 51))) (inr_upf (g.1 41 f) (g.1 43))
  have F1 : Fr LR h (sa (sa (sa (sa (sa (sa (sa (sa h 54 (upf (ai h 54) 1 (ai h 54 1 + 1))) 45 (upf (ai h 45) (ai h 54 1) kd)) 46 (upf (ai h 46) (ai h 54 1) f)) 47 (upf (ai h 47) (ai h 54 1) hd)) 48 (upf (ai h 48) (ai h 54 1) ot)) 49 (upf (ai h 49) (ai h 54 1) (ai h 54 4))) 51 (upf (ai h 51) (ai h 54 1) (ai h 41 f))) 43 (upf (ai h 43) (ai h 54 1) (ai h 41 f))) := (((((((Fr.refl.sa (Or.inr (by decide))).sa (Or.inr (by decide))).sa (Or.inr (by decide))).sa (Or.inr (by decide))).sa (Or.inr (by decide))).sa (Or.inr (by decide))).sa (Or.inr (by decide))).sa (Or.inr (by decide))
  have key := l_R_comes (d := d) (x1 := aI kd) (x3 := aI hd) (x4 := aI ot) (C := ai h 54 1) (f := f) w1 (A := ai h 40) (by simp (disch := first | assumption | omega | exact aNl_I | exact aNl_Q | exact bl0 | exact bl1 | exact bl2 | exact bl3 | exact bl4 | exact aNl_U) only [aSz_pf, aSz_sa, aSz_sr, isO_pf, isO_sa, isO_sr, isA_pf, isA_sa, isA_sr, isR_pf, isR_sa, isR_sr, al_pf, al_sa, al_sr, gf_sa, gf_sr, ai_pf, ai_sr, ra_pf, ra_sa, gf_pn, ai_sn, ra_sn, sa_sa, pf_pf, fi_sa, fi_sr, fi_pn, gO_pf, gO_sa, gO_sr, gA_pf, gA_sa, gA_sr, gR_pf, gR_sa, gR_sr, isAR_pf, isAR_sa, isAR_sr, okQ_pf, okQ_sa, okQ_sr, okC_pf, okC_sa, okC_sr, okQ_n, gB_t]) (B := ai h 42) (by simp (disch := first | assumption | omega | exact aNl_I | exact aNl_Q | exact bl0 | exact bl1 | exact bl2 | exact bl3 | exact bl4 | exact aNl_U) only [aSz_pf, aSz_sa, aSz_sr, isO_pf, isO_sa, isO_sr, isA_pf, isA_sa, isA_sr, isR_pf, isR_sa, isR_sr, al_pf, al_sa, al_sr, gf_sa, gf_sr, ai_pf, ai_sr, ra_pf, ra_sa, gf_pn, ai_sn, ra_sn, sa_sa, pf_pf, fi_sa, fi_sr, fi_pn, gO_pf, gO_sa, gO_sr, gA_pf, gA_sa, gA_sr, gR_pf, gR_sa, gR_sr, isAR_pf, isAR_sa, isAR_sr, okQ_pf, okQ_sa, okQ_sr, okC_pf, okC_sa, okC_sr, okQ_n, gB_t]) hf hC _ 0 (by decide) (by decide) rfl
  rw [cpf_z, sa_self (sA_42 w1) (by simp (disch := first | assumption | omega | exact aNl_I | exact aNl_Q | exact bl0 | exact bl1 | exact bl2 | exact bl3 | exact bl4 | exact aNl_U) only [aSz_pf, aSz_sa, aSz_sr, isO_pf, isO_sa, isO_sr, isA_pf, isA_sa, isA_sr, isR_pf, isR_sa, isR_sr, al_pf, al_sa, al_sr, gf_sa, gf_sr, ai_pf, ai_sr, ra_pf, ra_sa, gf_pn, ai_sn, ra_sn, sa_sa, pf_pf, fi_sa, fi_sr, fi_pn, gO_pf, gO_sa, gO_sr, gA_pf, gA_sa, gA_sr, gR_pf, gR_sa, gR_sr, isAR_pf, isAR_sa, isAR_sr, okQ_pf, okQ_sa, okQ_sr, okC_pf, okC_sa, okC_sr, okQ_n, gB_t])] at key
  refine ⟨sa _ 42 (cpf (ai h 40) (ai h 42) (540 * f) (540 * ai h 54 1) 540), ?_, ⟨Sh_sa w1 (by decide), Rg_sa g1 (inr_cpf (g.1 40) (g.1 42))⟩, F1.sa (Or.inr (by decide)), ?_, fun k => by simp only [fi_sa], rfl, rfl⟩
  · rw [← key, n_R_comes]
    simp (disch := first | assumption | omega | exact aNl_I | exact aNl_Q | exact bl0 | exact bl1 | exact bl2 | exact bl3 | exact bl4 | exact aNl_U | ((repeat (first | assumption | refine Sh_sa ?_ (by decide) | refine Sh_pfI ?_ (by decide) (by decide) | refine Sh_sr ?_ (by decide) | refine Sh_new ?_)); done) | fail) only [u_R_comes_0, u_R_comes_1, u_R_comes_4, u_R_comes_5, u_R_comes_6, u_R_comes_8, u_R_comes_9, u_R_comes_12, u_R_comes_13, u_R_comes_14, u_R_comes_15, u_R_comes_16, u_R_comes_17, u_R_comes_18, u_R_comes_19, u_R_comes_22, u_R_comes_24, u_R_comes_25, u_R_comes_26, u_R_comes_27, u_R_comes_30, u_R_comes_32, u_R_comes_33, u_R_comes_34, u_R_comes_35, u_R_comes_38, u_R_comes_40, u_R_comes_41, u_R_comes_42, u_R_comes_43, u_R_comes_46, u_R_comes_48, u_R_comes_50, u_R_comes_51, u_R_comes_52, u_R_comes_55, u_R_comes_57, u_R_comes_58, u_R_comes_61, u_R_comes_62, u_R_comes_63, u_R_comes_64, u_R_comes_65, u_R_comes_68, u_R_comes_70, u_R_comes_71, u_R_comes_74, u_R_comes_75, u_R_comes_76, u_R_comes_77, u_R_comes_78, u_R_comes_81, u_R_comes_83, u_R_comes_84, u_R_comes_87, u_R_comes_88, u_R_comes_89, u_R_comes_90, u_R_comes_91, u_R_comes_95, u_R_comes_98, u_R_comes_101, u_R_comes_102, u_R_comes_105, u_R_comes_108, u_R_comes_110, u_R_comes_111, u_R_comes_113, u_R_comes_114, u_R_comes_115, u_R_comes_118, u_R_comes_121, u_R_comes_122, u_R_comes_123, u_R_comes_125, u_R_comes_126, u_R_comes_127, u_R_comes_128, u_R_comes_131, u_R_comes_134, u_R_comes_136, aSz_pf, aSz_sa, aSz_sr, isO_pf, isO_sa, isO_sr, isA_pf, isA_sa, isA_sr, isR_pf, isR_sa, isR_sr, al_pf, al_sa, al_sr, gf_sa, gf_sr, ai_pf, ai_sr, ra_pf, ra_sa, gf_pn, ai_sn, ra_sn, sa_sa, pf_pf, fi_sa, fi_sr, fi_pn, gO_pf, gO_sa, gO_sr, gA_pf, gA_sa, gA_sr, gR_pf, gR_sa, gR_sr, isAR_pf, isAR_sa, isAR_sr, okQ_pf, okQ_sa, okQ_sr, okC_pf, okC_sa, okC_sr, okQ_n, gB_t, sg_3, sg_4, sg_9, sg_11, sg_16, sg_18, sg_21, sg_23, sg_28, sg_31, sg_33, sg_35, sg_37, sg_39, sq_3_0, sq_3_1, sq_3_2, sq_3_3, sq_3_4, sq_3_5, sq_3_6, sq_4_1, sq_4_6, sq_4_7, sq_4_9, sq_11_1, sq_11_6, sq_11_7, sq_11_9, sq_9_0, sq_16_0, sq_18_0, sq_18_1, sq_21_0, sq_23_1, sq_23_2, sq_23_4, sq_23_5, sq_28_0, sq_31_2, sq_33_2, sq_35_2, sq_37_2, sq_39_0, sq_39_1, sq_39_2, sq_39_3, sq_39_4, sq_39_5, sq_39_6, sq_39_7, sq_39_8, sq_39_9, sq_39_10, sq_39_11, sq_39_12, sq_39_13, sq_39_14, sq_39_15, sq_39_19, sq_39_20, sq_39_22, sq_39_24, sq_39_25, sq_39_26, sq_39_27, sq_39_29, sq_39_30, sq_39_31, si_3_7, si_3_8, si_3_9, si_4_0, si_4_2, si_4_3, si_4_4, si_4_5, si_4_8, si_11_0, si_11_2, si_11_3, si_11_4, si_11_5, si_11_8, si_18_2, si_18_5, si_18_6, si_23_0, si_23_3, si_28_1, si_31_0, si_31_1, si_33_0, si_33_1, si_35_0, si_35_1, si_37_0, si_37_1, si_39_16, si_39_17, si_39_18, si_39_21, si_39_23, si_39_28, sp_3_7, sp_3_8, sp_3_9, sp_4_0, sp_4_2, sp_4_3, sp_4_4, sp_4_5, sp_4_8, sp_11_0, sp_11_2, sp_11_3, sp_11_4, sp_11_5, sp_11_8, sp_18_2, sp_18_5, sp_18_6, sp_23_0, sp_23_3, sp_28_1, sp_31_0, sp_31_1, sp_33_0, sp_33_1, sp_35_0, sp_35_1, sp_37_0, sp_37_1, sp_39_16, sp_39_17, sp_39_18, sp_39_21, sp_39_23, sp_39_28, sf_3_7, sf_3_8, sf_3_9, sf_4_0, sf_4_2, sf_4_3, sf_4_4, sf_4_5, sf_4_8, sf_11_0, sf_11_2, sf_11_3, sf_11_4, sf_11_5, sf_11_8, sf_18_2, sf_18_5, sf_18_6, sf_23_0, sf_23_3, sf_28_1, sf_31_0, sf_31_1, sf_33_0, sf_33_1, sf_35_0, sf_35_1, sf_37_0, sf_37_1, sf_39_16, sf_39_17, sf_39_18, sf_39_21, sf_39_23, sf_39_28, sp_18_3, sp_18_4, sG_1, sG_2, sG_5, sG_6, sG_12, sG_13, sG_19, sG_20, sG_22, sG_24, sG_25, sG_26, sG_27, sG_29, sG_32, sG_34, sG_36, sG_38, sG_40, sG_41, sG_42, sG_43, sG_44, sG_45, sG_46, sG_47, sG_48, sG_49, sG_50, sG_51, sG_52, sG_53, sG_54, sG_55, sG_56, sG_57, sG_58, sG_59, sG_60, sG_61, sG_62, sG_63, sG_64, sG_65, sE_1, sE_2, sE_5, sE_6, sE_12, sE_13, sE_19, sE_20, sE_22, sE_24, sE_25, sE_26, sE_27, sE_29, sE_32, sE_34, sE_36, sE_38, sE_40, sE_41, sE_42, sE_43, sE_44, sE_45, sE_46, sE_47, sE_48, sE_49, sE_50, sE_51, sE_52, sE_53, sE_54, sE_55, sE_56, sE_57, sE_58, sE_59, sE_60, sE_61, sE_62, sE_63, sE_64, sE_65, sG_7, sG_8, sG_10, sG_14, sG_15, sG_17, sG_30, sE_7, sE_8, sE_10, sE_14, sE_15, sE_17, sE_30, sS_0, sS_1, sS_2, sS_3, wr_id, wr_ai, wr_fi, wr_wand, wr_wor, wr_wxor, wr_wshl, wr_wshr, wr_lt, wr_gt, Int.reduceEq, Int.reduceLT, Int.reduceLE, Int.reduceNeg, b01, b10, and_self, true_and, and_true, false_and, and_false, or_false, false_or, or_true, true_or, ite_not, not_true_eq_false, not_false_eq_true, kk_v, kk_0, reduceCtorEq, if_true, if_false, ite_true, ite_false, swt, Option.some.injEq, upf_n, upf_e]
  · have iA : ∀ a, isA h a = true → ∀ b f, isA (sa h b f) a = true := fun a q b f => by rw [isA_sa]; exact q
    rw [rV_sa (sA_42 w1) (by decide) (by decide), rV_sa (by simp only [isA_sa]; exact sA_43 w) (by decide) (by decide), rV_sa (by simp only [isA_sa]; exact sA_51 w) (by decide) (by decide), rV_sa (by simp only [isA_sa]; exact sA_49 w) (by decide) (by decide), rV_sa (by simp only [isA_sa]; exact sA_48 w) (by decide) (by decide), rV_sa (by simp only [isA_sa]; exact sA_47 w) (by decide) (by decide), rV_sa (by simp only [isA_sa]; exact sA_46 w) (by decide) (by decide), rV_sa (by simp only [isA_sa]; exact sA_45 w) (by decide) (by decide), rV_sa (sA_54 w) (by decide) (by decide)]
    rfl
/-- the state behind one more change -/
def nxV (V : Nat → Int → Int) (kd f hd ot : Int) (A : Int → Int) (n kp t : Int) : Nat → Int → Int := uV (uV (uV (uV (cmV V kd f hd ot) 54 (upf (upf (V 54) 1 (V 54 1 + 1)) 2 t)) 40 A) 41 (upf (V 41) f n)) 50 (upf (V 50) (V 54 1) kp)
theorem nxV_54 : nxV V kd f hd ot A n kp t 54 = upf (upf (V 54) 1 (V 54 1 + 1)) 2 t := by unfold nxV; rw [uV_n (by decide), uV_n (by decide), uV_n (by decide), uV_e]
theorem nxV_40 : nxV V kd f hd ot A n kp t 40 = A := by unfold nxV; rw [uV_n (by decide), uV_n (by decide), uV_e]
theorem nxV_41 : nxV V kd f hd ot A n kp t 41 = upf (V 41) f n := by unfold nxV; rw [uV_n (by decide), uV_e]
theorem nxV_50 : nxV V kd f hd ot A n kp t 50 = upf (V 50) (V 54 1) kp := by unfold nxV; rw [uV_e]
theorem nxV_42 : nxV V kd f hd ot A n kp t 42 = cpf (V 40) (V 42) (540 * f) (540 * V 54 1) 540 := by unfold nxV cmV; simp (disch := first | assumption | omega | exact aNl_I | exact aNl_Q | exact bl0 | exact bl1 | exact bl2 | exact bl3 | exact bl4 | exact aNl_U) only [uV_n, uV_e]
theorem nxV_43 : nxV V kd f hd ot A n kp t 43 = upf (V 43) (V 54 1) (V 41 f) := by unfold nxV cmV; simp (disch := first | assumption | omega | exact aNl_I | exact aNl_Q | exact bl0 | exact bl1 | exact bl2 | exact bl3 | exact bl4 | exact aNl_U) only [uV_n, uV_e]
theorem nxV_45 : nxV V kd f hd ot A n kp t 45 = upf (V 45) (V 54 1) kd := by unfold nxV cmV; simp (disch := first | assumption | omega | exact aNl_I | exact aNl_Q | exact bl0 | exact bl1 | exact bl2 | exact bl3 | exact bl4 | exact aNl_U) only [uV_n, uV_e]
theorem nxV_46 : nxV V kd f hd ot A n kp t 46 = upf (V 46) (V 54 1) f := by unfold nxV cmV; simp (disch := first | assumption | omega | exact aNl_I | exact aNl_Q | exact bl0 | exact bl1 | exact bl2 | exact bl3 | exact bl4 | exact aNl_U) only [uV_n, uV_e]
theorem nxV_47 : nxV V kd f hd ot A n kp t 47 = upf (V 47) (V 54 1) hd := by unfold nxV cmV; simp (disch := first | assumption | omega | exact aNl_I | exact aNl_Q | exact bl0 | exact bl1 | exact bl2 | exact bl3 | exact bl4 | exact aNl_U) only [uV_n, uV_e]
theorem nxV_48 : nxV V kd f hd ot A n kp t 48 = upf (V 48) (V 54 1) ot := by unfold nxV cmV; simp (disch := first | assumption | omega | exact aNl_I | exact aNl_Q | exact bl0 | exact bl1 | exact bl2 | exact bl3 | exact bl4 | exact aNl_U) only [uV_n, uV_e]
theorem nxV_49 : nxV V kd f hd ot A n kp t 49 = upf (V 49) (V 54 1) (V 54 4) := by unfold nxV cmV; simp (disch := first | assumption | omega | exact aNl_I | exact aNl_Q | exact bl0 | exact bl1 | exact bl2 | exact bl3 | exact bl4 | exact aNl_U) only [uV_n, uV_e]
theorem nxV_51 : nxV V kd f hd ot A n kp t 51 = upf (V 51) (V 54 1) (V 41 f) := by unfold nxV cmV; simp (disch := first | assumption | omega | exact aNl_I | exact aNl_Q | exact bl0 | exact bl1 | exact bl2 | exact bl3 | exact bl4 | exact aNl_U) only [uV_n, uV_e]
theorem nxV_52 : nxV V kd f hd ot A n kp t 52 = V 52 := by unfold nxV cmV; simp (disch := first | assumption | omega | exact aNl_I | exact aNl_Q | exact bl0 | exact bl1 | exact bl2 | exact bl3 | exact bl4 | exact aNl_U) only [uV_n, uV_e]
theorem nxV_53 : nxV V kd f hd ot A n kp t 53 = V 53 := by unfold nxV cmV; simp (disch := first | assumption | omega | exact aNl_I | exact aNl_Q | exact bl0 | exact bl1 | exact bl2 | exact bl3 | exact bl4 | exact aNl_U) only [uV_n, uV_e]
/-- file f's lines alone are others -/
def othF (V : Nat → Int → Int) (A : Int → Int) (f : Int) : Prop := ∀ k, 0 ≤ k → k < 6 → k ≠ f → ∀ j, 0 ≤ j → j < 540 → A (540 * k + j) = V 40 (540 * k + j)
theorem nxV_ok (v : VOK V) (hC : V 54 1 < 60) (hk : 0 ≤ kd ∧ kd ≤ 5) (hf : 0 ≤ f ∧ f < 6) (hh : 0 ≤ hd ∧ hd < V 54 0) (ho : -1 ≤ ot ∧ ot < 60) (hn : 0 ≤ n ∧ n ≤ 20) (hp : 0 ≤ kp ∧ kp ≤ 20) (ht : 0 ≤ t ∧ t ≤ V 54 2)
    (oth : othF V A f) (hA : ∀ i, 0 ≤ i → i < n → LnOK A (540 * f + 27 * i) (V 54 1 + 1)) : VOK (nxV V kd f hd ot A n kp t) := by
  have vP := v.P
  have vC := v.C
  have vT := v.T
  have vH := v.H
  have vD := v.D
  have vS := v.S
  have vLf := v.L hf.1 hf.2
  have e1 : upf (upf (V 54) 1 (V 54 1 + 1)) 2 t 1 = V 54 1 + 1 := by simp (disch := first | assumption | omega | exact aNl_I | exact aNl_Q | exact bl0 | exact bl1 | exact bl2 | exact bl3 | exact bl4 | exact aNl_U) only [upf_n, upf_e]
  have e0 : upf (upf (V 54) 1 (V 54 1 + 1)) 2 t 0 = V 54 0 := by simp (disch := first | assumption | omega | exact aNl_I | exact aNl_Q | exact bl0 | exact bl1 | exact bl2 | exact bl3 | exact bl4 | exact aNl_U) only [upf_n, upf_e]
  have e2 : upf (upf (V 54) 1 (V 54 1 + 1)) 2 t 2 = t := by simp (disch := first | assumption | omega | exact aNl_I | exact aNl_Q | exact bl0 | exact bl1 | exact bl2 | exact bl3 | exact bl4 | exact aNl_U) only [upf_n, upf_e]
  have e3 : upf (upf (V 54) 1 (V 54 1 + 1)) 2 t 3 = V 54 3 := by simp (disch := first | assumption | omega | exact aNl_I | exact aNl_Q | exact bl0 | exact bl1 | exact bl2 | exact bl3 | exact bl4 | exact aNl_U) only [upf_n, upf_e]
  have e4 : upf (upf (V 54) 1 (V 54 1 + 1)) 2 t 4 = V 54 4 := by simp (disch := first | assumption | omega | exact aNl_I | exact aNl_Q | exact bl0 | exact bl1 | exact bl2 | exact bl3 | exact bl4 | exact aNl_U) only [upf_n, upf_e]
  have e5 : upf (upf (V 54) 1 (V 54 1 + 1)) 2 t 5 = V 54 5 := by simp (disch := first | assumption | omega | exact aNl_I | exact aNl_Q | exact bl0 | exact bl1 | exact bl2 | exact bl3 | exact bl4 | exact aNl_U) only [upf_n, upf_e]
  refine ⟨?_, fun k k1 k2 => ?_, fun p k1 k2 => ?_, fun i k1 k2 => ?_, fun k k1 k2 => ?_⟩
  · rw [nxV_54, e0, e1, e2, e3, e4, e5]
    omega
  · rw [nxV_54, nxV_41, nxV_40, e1]
    by_cases c : k = f
    · subst c
      rw [upf_e]
      exact ⟨hn, hA⟩
    · rw [upf_n c]
      have := v.L k1 k2
      exact ⟨this, fun i i1 i2 => (v.B k1 k2 i1 i2).cp (by omega) fun j j1 j2 => by rw [Int.add_assoc, oth k k1 k2 c _ (by omega) (by omega)]⟩
  · rw [nxV_54, e0] at k2
    rw [nxV_52]
    exact v.hr k1 k2
  · rw [nxV_54, e2] at k2
    rw [nxV_53]
    exact v.tp k1 (by omega)
  · rw [nxV_54, e1] at k2
    unfold ChOK
    rw [nxV_45, nxV_46, nxV_47, nxV_48, nxV_49, nxV_50, nxV_51, nxV_43, nxV_42, nxV_54, e1]
    by_cases c : k = V 54 1
    · subst c
      simp only [upf_e]
      refine ⟨⟨hk, hf, ⟨hh.1, by omega⟩, ho⟩, ⟨vD, hp, by trivial, vLf⟩, fun i i1 i2 => ?_⟩
      exact (v.B hf.1 hf.2 i1 i2).cp (by omega) fun j j1 j2 => by rw [Int.add_assoc, cpf_in (by omega) (by omega), Int.add_assoc]
    · simp only [upf_n c]
      obtain ⟨w1, w2, w3⟩ := v.ch k1 (by omega)
      refine ⟨w1, w2, fun i i1 i2 => ?_⟩
      exact (w3 i i1 i2).cp (by omega) fun j j1 j2 => cpf_out (by omega)
/-- the class's cells behind one more change -/
theorem CRel.next {p0 : Nat} (cr : CRel h 4 V) (v : VOK V) (e : Fr L h hX) (hL : nim L) (hC : V 54 1 < 60) (hf : 0 ≤ f ∧ f < 6)
    (u0 : fi hX 4 0 = V 54 0 ∧ fi hX 4 2 = V 54 3 ∧ fi hX 4 3 = V 54 4 ∧ fi hX 4 4 = V 54 5 ∧ fi hX 4 5 = t ∧ fi hX 4 8 = V 54 1 + 1)
    (u1 : ai hX 5 = ai h 5) (u2 : ai hX 6 = ai h 6)
    (hP : ra hX 7 = upf (ra h 7) f (some p)) (pP : PgR hX p A (540 * f) n) (oth : othF V A f)
    (hK : ra hX 8 = upf (ra h 8) (V 54 1) (some c)) (ic : imm c) (oc : isO hX c 1 = true)
    (gc : gf hX c 0 = aI (V 54 1) ∧ gf hX c 1 = aI kd ∧ gf hX c 2 = aI f ∧ gf hX c 3 = aI hd ∧ gf hX c 4 = aI ot ∧ gf hX c 5 = aI (V 54 4) ∧ gf hX c 7 = aI kp)
    (h0 : ra h 7 f = some p0) (h6 : gf hX c 6 = aQ (some p0)) : CRel hX 4 (nxV V kd f hd ot A n kp t) := by
  have vC := v.C
  have e0 : upf (upf (V 54) 1 (V 54 1 + 1)) 2 t 0 = V 54 0 := by simp (disch := first | assumption | omega | exact aNl_I | exact aNl_Q | exact bl0 | exact bl1 | exact bl2 | exact bl3 | exact bl4 | exact aNl_U) only [upf_n, upf_e]
  have e1 : upf (upf (V 54) 1 (V 54 1 + 1)) 2 t 1 = V 54 1 + 1 := by simp (disch := first | assumption | omega | exact aNl_I | exact aNl_Q | exact bl0 | exact bl1 | exact bl2 | exact bl3 | exact bl4 | exact aNl_U) only [upf_n, upf_e]
  have e2 : upf (upf (V 54) 1 (V 54 1 + 1)) 2 t 2 = t := by simp (disch := first | assumption | omega | exact aNl_I | exact aNl_Q | exact bl0 | exact bl1 | exact bl2 | exact bl3 | exact bl4 | exact aNl_U) only [upf_n, upf_e]
  have e3 : upf (upf (V 54) 1 (V 54 1 + 1)) 2 t 3 = V 54 3 := by simp (disch := first | assumption | omega | exact aNl_I | exact aNl_Q | exact bl0 | exact bl1 | exact bl2 | exact bl3 | exact bl4 | exact aNl_U) only [upf_n, upf_e]
  have e4 : upf (upf (V 54) 1 (V 54 1 + 1)) 2 t 4 = V 54 4 := by simp (disch := first | assumption | omega | exact aNl_I | exact aNl_Q | exact bl0 | exact bl1 | exact bl2 | exact bl3 | exact bl4 | exact aNl_U) only [upf_n, upf_e]
  have e5 : upf (upf (V 54) 1 (V 54 1 + 1)) 2 t 5 = V 54 5 := by simp (disch := first | assumption | omega | exact aNl_I | exact aNl_Q | exact bl0 | exact bl1 | exact bl2 | exact bl3 | exact bl4 | exact aNl_U) only [upf_n, upf_e]
  refine cr.put v e hL (by rw [nxV_54, e0, e1, e2, e3, e4, e5]; exact u0) (by rw [u1, nxV_52]; exact cr.2.1) (by rw [u2, nxV_53]; exact cr.2.2.1) hf (p := p) (fun k => by rw [hP]; rfl) ?_ (fun k k1 k2 k3 => ?_) (fun k k1 k2 => ?_) (fun k k1 k2 => ?_)
  · rw [nxV_40, nxV_41, upf_e]
    exact pP
  · rw [nxV_40, nxV_41, upf_n k3]
    exact ⟨rfl, oth k k1 k2 k3⟩
  · rw [nxV_54, e1] at k2
    rw [hK]
    unfold ChR
    rw [nxV_45, nxV_46, nxV_47, nxV_48, nxV_49, nxV_50, nxV_43, nxV_42]
    by_cases q : k = V 54 1
    · subst q
      refine ⟨c, upf_oe, ic, oc, ?_, p0, h6, ?_⟩
      · simp only [upf_e]
        exact gc
      · rw [upf_e]
        obtain ⟨p1, q1, q2⟩ := cr.pg hf.1 hf.2
        rw [h0] at q1
        cases q1
        exact (q2.fr e hL).cp (v.L hf.1 hf.2).2 (fun i i1 i2 => (v.B hf.1 hf.2 i1 i2).1.1.2) fun j j1 j2 => cpf_in j1 j2
    · obtain ⟨c', k3, k4⟩ := cr.2.2.2.2.1 k k1 (by omega)
      obtain ⟨i1, i2, i3, p', i4, i5⟩ := k4.fr e hL
      obtain ⟨w1, w2, w3⟩ := v.ch k1 (by omega)
      refine ⟨c', by rw [upf_on q]; exact k3, i1, i2, ?_, p', i4, ?_⟩
      · simp only [upf_n q]
        exact i3
      · rw [upf_n q]
        exact i5.cp w2.2.2.2.2 (fun i i1 i2 => (w3 i i1 i2).1.1.2) fun j j1 j2 => cpf_out (by omega)
  · rw [hK]
    by_cases q : k = V 54 1
    · subst q
      exact Or.inr ⟨c, upf_oe, ic, oc⟩
    · rw [upf_on q]
      rcases cr.2.2.2.2.2 k k1 k2 with h3 | ⟨a, h3, h4, h5⟩
      · exact Or.inl h3
      · exact Or.inr ⟨a, h3, h4, isO_co (e.im hL h4 (isO_lt h5)) e.1 h5⟩
/-- a new change object -/
def nCh (h : aH) (kd f hd ot : Int) : aH := pf (pf (pf (pf (pf (pf (pf (aNew h (.inl (1, aDf 1)) (aNf 1)) (aSz h) 0 (aI (fi h 4 8))) (aSz h) 1 (aI kd)) (aSz h) 2 (aI f)) (aSz h) 3 (aI hd)) (aSz h) 4 (aI ot)) (aSz h) 5 (aI (fi h 4 3))) (aSz h) 6 (aQ (ra h 7 f))
theorem nCh_w (w : Sh h) : Sh (nCh h kd f hd ot) := by
  have := Sh_lt w
  exact Sh_pfD (Sh_pfD (Sh_pfD (Sh_pfD (Sh_pfD (Sh_pfD (Sh_pfD (Sh_new w) this) this) this) this) this) this) this
theorem nCh_g (g : Rg h) (h1 : inr kd) (h2 : inr f) (h3 : inr hd) (h4 : inr ot) : Rg (nCh h kd f hd ot) := Rg_pfQ (Rg_pf (Rg_pf (Rg_pf (Rg_pf (Rg_pf (Rg_pf (Rg_newO g) (g.2 4 8)) h1) h2) h3) h4) (g.2 4 3))
theorem nCh_F : Fr [] h (nCh h kd f hd ot) := (((((((Fr.refl.new).pf (Or.inl (Nat.le_refl _))).pf (Or.inl (Nat.le_refl _))).pf (Or.inl (Nat.le_refl _))).pf (Or.inl (Nat.le_refl _))).pf (Or.inl (Nat.le_refl _))).pf (Or.inl (Nat.le_refl _))).pf (Or.inl (Nat.le_refl _))
theorem nCh_o (w : Sh h) : isO (nCh h kd f hd ot) (aSz h) 1 = true := by
  unfold nCh
  simp only [isO_pf]
  exact isO_newO w (by decide)
theorem nCh_v (w : Sh h) : gf (nCh h kd f hd ot) (aSz h) 0 = aI (fi h 4 8) ∧ gf (nCh h kd f hd ot) (aSz h) 1 = aI kd ∧ gf (nCh h kd f hd ot) (aSz h) 2 = aI f ∧ gf (nCh h kd f hd ot) (aSz h) 3 = aI hd ∧ gf (nCh h kd f hd ot) (aSz h) 4 = aI ot ∧ gf (nCh h kd f hd ot) (aSz h) 5 = aI (fi h 4 3) ∧ gf (nCh h kd f hd ot) (aSz h) 6 = aQ (ra h 7 f) := by
  have e := isO_newO (n := aNf 1) w (ci := 1) (by decide)
  unfold nCh
  generalize aNew h (.inl (1, aDf 1)) (aNf 1) = h0 at *
  refine ⟨?_, ?_, ?_, ?_, ?_, ?_, ?_⟩
  · rw [gf_pn (by omega), gf_pn (by omega), gf_pn (by omega), gf_pn (by omega), gf_pn (by omega), gf_pn (by omega)]
    exact gf_pe e (by decide)
  · rw [gf_pn (by omega), gf_pn (by omega), gf_pn (by omega), gf_pn (by omega), gf_pn (by omega)]
    exact gf_pe (by simp only [isO_pf]; exact e) (by decide)
  · rw [gf_pn (by omega), gf_pn (by omega), gf_pn (by omega), gf_pn (by omega)]
    exact gf_pe (by simp only [isO_pf]; exact e) (by decide)
  · rw [gf_pn (by omega), gf_pn (by omega), gf_pn (by omega)]
    exact gf_pe (by simp only [isO_pf]; exact e) (by decide)
  · rw [gf_pn (by omega), gf_pn (by omega)]
    exact gf_pe (by simp only [isO_pf]; exact e) (by decide)
  · rw [gf_pn (by omega)]
    exact gf_pe (by simp only [isO_pf]; exact e) (by decide)
  · exact gf_pe (by simp only [isO_pf]; exact e) (by decide)
theorem nCh_7 (w : Sh h) : gf (nCh h kd f hd ot) (aSz h) 7 = aI 0 := by
  unfold nCh
  rw [gf_pn (by omega), gf_pn (by omega), gf_pn (by omega), gf_pn (by omega), gf_pn (by omega), gf_pn (by omega), gf_pn (by omega), gf_new1]
  rfl
theorem nCh_z : aSz (nCh h kd f hd ot) = aSz h + 1 ∧ aSl (nCh h kd f hd ot) = aSl h + 8 := ⟨rfl, rfl⟩
theorem m_nCh (w : Sh h) (hf : 0 ≤ f ∧ f < 6) : ev (d + 1) M_Ch_init [aQ (some (aSz h)), aQ (some 4), aI kd, aI f, aI hd, aI ot] (aNew h (.inl (1, aDf 1)) (aNf 1)) = some (none, nCh h kd f hd ot) := by
  have e := isO_newO (n := aNf 1) w (ci := 1) (by decide)
  have hw := Sh_lt w
  have w0 : Sh (aNew h (.inl (1, aDf 1)) (aNf 1)) := Sh_new w
  have e8 : gf (aNew h (.inl (1, aDf 1)) (aNf 1)) 4 8 = aI (fi h 4 8) := by rw [gf_new (by omega), si_4_8 w]
  have e3 : gf (aNew h (.inl (1, aDf 1)) (aNf 1)) 4 3 = aI (fi h 4 3) := by rw [gf_new (by omega), si_4_3 w]
  have e7 : ra (aNew h (.inl (1, aDf 1)) (aNf 1)) 7 = ra h 7 := by rw [ra_new (by omega)]
  have hq : aSz h ≠ 4 := by omega
  unfold nCh
  generalize aNew h (.inl (1, aDf 1)) (aNf 1) = h0 at *
  have e83 : ∀ (k : Nat) (v : aV), gf (pf h0 (aSz h) k v) 4 8 = aI (fi h 4 8) := fun k v => by rw [gf_pn (by omega), e8]
  rw [n_Ch_init]
  simp (disch := first | assumption | omega | exact aNl_I | exact aNl_Q | exact bl0 | exact bl1 | exact bl2 | exact bl3 | exact bl4 | exact aNl_U) only [u_Ch_init_0, u_Ch_init_1, u_Ch_init_4, u_Ch_init_5, u_Ch_init_6, u_Ch_init_9, u_Ch_init_12, u_Ch_init_13, u_Ch_init_14, u_Ch_init_17, u_Ch_init_18, u_Ch_init_19, u_Ch_init_22, u_Ch_init_23, u_Ch_init_25, u_Ch_init_28, u_Ch_init_29, u_Ch_init_31, u_Ch_init_34, u_Ch_init_35, u_Ch_init_36, u_Ch_init_39, u_Ch_init_42, u_Ch_init_43, u_Ch_init_44, u_Ch_init_47, u_Ch_init_48, u_Ch_init_49, u_Ch_init_52, aSz_pf, aSz_sa, aSz_sr, isO_pf, isO_sa, isO_sr, isA_pf, isA_sa, isA_sr, isR_pf, isR_sa, isR_sr, al_pf, al_sa, al_sr, gf_sa, gf_sr, ai_pf, ai_sr, ra_pf, ra_sa, gf_pn, ai_sn, ra_sn, sa_sa, pf_pf, fi_sa, fi_sr, fi_pn, gO_pf, gO_sa, gO_sr, gA_pf, gA_sa, gA_sr, gR_pf, gR_sa, gR_sr, isAR_pf, isAR_sa, isAR_sr, okQ_pf, okQ_sa, okQ_sr, okC_pf, okC_sa, okC_sr, okQ_n, gB_t, wr_id, wr_ai, wr_fi, wr_wand, wr_wor, wr_wxor, wr_wshl, wr_wshr, wr_lt, wr_gt, Int.reduceEq, Int.reduceLT, Int.reduceLE, Int.reduceNeg, b01, b10, and_self, true_and, and_true, false_and, and_false, or_false, false_or, or_true, true_or, ite_not, not_true_eq_false, not_false_eq_true, kk_v, kk_0, reduceCtorEq, if_true, if_false, ite_true, ite_false, swt, Option.some.injEq, gO_ok, gA_ok, gR_ok, isAR_A, isAR_2, sg_4, sG_7, sq_4_7, e, e8, e3, e7]
theorem m_St_addChange (w : Sh h) {C : Int} (h8 : fi h 4 8 = C) (hC : 0 ≤ C ∧ C < 60) (hf : 0 ≤ f ∧ f < 6) (oc : isO h c 1 = true) (g0 : gf h c 0 = aI C) (g2 : gf h c 2 = aI f) (op : isO h p 4 = true) :
    ev (d + 1) M_St_addChange [aQ (some 4), aQ (some c), aQ (some p)] h = some (none, pf (sr (sr h 8 (upf (ra h 8) C (some c))) 7 (upf (ra h 7) f (some p))) 4 8 (aI (C + 1))) := by
  have k1 : okQ h 1 (some c) = true := oc
  have k2 : okQ h 0 (some p) = true := op
  rw [n_St_addChange]
  simp (disch := first | assumption | omega | exact aNl_I | exact aNl_Q | exact bl0 | exact bl1 | exact bl2 | exact bl3 | exact bl4 | exact aNl_U) only [u_St_addChange_0, u_St_addChange_1, u_St_addChange_4, u_St_addChange_5, u_St_addChange_8, u_St_addChange_9, u_St_addChange_10, u_St_addChange_11, u_St_addChange_14, u_St_addChange_15, u_St_addChange_18, u_St_addChange_19, u_St_addChange_20, u_St_addChange_21, u_St_addChange_22, u_St_addChange_25, u_St_addChange_26, u_St_addChange_27, u_St_addChange_30, aSz_pf, aSz_sa, aSz_sr, isO_pf, isO_sa, isO_sr, isA_pf, isA_sa, isA_sr, isR_pf, isR_sa, isR_sr, al_pf, al_sa, al_sr, gf_sa, gf_sr, ai_pf, ai_sr, ra_pf, ra_sa, gf_pn, ai_sn, ra_sn, sa_sa, pf_pf, fi_sa, fi_sr, fi_pn, gO_pf, gO_sa, gO_sr, gA_pf, gA_sa, gA_sr, gR_pf, gR_sa, gR_sr, isAR_pf, isAR_sa, isAR_sr, okQ_pf, okQ_sa, okQ_sr, okC_pf, okC_sa, okC_sr, okQ_n, gB_t, sg_3, sg_4, sg_9, sg_11, sg_16, sg_18, sg_21, sg_23, sg_28, sg_31, sg_33, sg_35, sg_37, sg_39, sq_3_0, sq_3_1, sq_3_2, sq_3_3, sq_3_4, sq_3_5, sq_3_6, sq_4_1, sq_4_6, sq_4_7, sq_4_9, sq_11_1, sq_11_6, sq_11_7, sq_11_9, sq_9_0, sq_16_0, sq_18_0, sq_18_1, sq_21_0, sq_23_1, sq_23_2, sq_23_4, sq_23_5, sq_28_0, sq_31_2, sq_33_2, sq_35_2, sq_37_2, sq_39_0, sq_39_1, sq_39_2, sq_39_3, sq_39_4, sq_39_5, sq_39_6, sq_39_7, sq_39_8, sq_39_9, sq_39_10, sq_39_11, sq_39_12, sq_39_13, sq_39_14, sq_39_15, sq_39_19, sq_39_20, sq_39_22, sq_39_24, sq_39_25, sq_39_26, sq_39_27, sq_39_29, sq_39_30, sq_39_31, si_3_7, si_3_8, si_3_9, si_4_0, si_4_2, si_4_3, si_4_4, si_4_5, si_4_8, si_11_0, si_11_2, si_11_3, si_11_4, si_11_5, si_11_8, si_18_2, si_18_5, si_18_6, si_23_0, si_23_3, si_28_1, si_31_0, si_31_1, si_33_0, si_33_1, si_35_0, si_35_1, si_37_0, si_37_1, si_39_16, si_39_17, si_39_18, si_39_21, si_39_23, si_39_28, sp_3_7, sp_3_8, sp_3_9, sp_4_0, sp_4_2, sp_4_3, sp_4_4, sp_4_5, sp_4_8, sp_11_0, sp_11_2, sp_11_3, sp_11_4, sp_11_5, sp_11_8, sp_18_2, sp_18_5, sp_18_6, sp_23_0, sp_23_3, sp_28_1, sp_31_0, sp_31_1, sp_33_0, sp_33_1, sp_35_0, sp_35_1, sp_37_0, sp_37_1, sp_39_16, sp_39_17, sp_39_18, sp_39_21, sp_39_23, sp_39_28, sf_3_7, sf_3_8, sf_3_9, sf_4_0, sf_4_2, sf_4_3, sf_4_4, sf_4_5, sf_4_8, sf_11_0, sf_11_2, sf_11_3, sf_11_4, sf_11_5, sf_11_8, sf_18_2, sf_18_5, sf_18_6, sf_23_0, sf_23_3, sf_28_1, sf_31_0, sf_31_1, sf_33_0, sf_33_1, sf_35_0, sf_35_1, sf_37_0, sf_37_1, sf_39_16, sf_39_17, sf_39_18, sf_39_21, sf_39_23, sf_39_28, sp_18_3, sp_18_4, sG_1, sG_2, sG_5, sG_6, sG_12, sG_13, sG_19, sG_20, sG_22, sG_24, sG_25, sG_26, sG_27, sG_29, sG_32, sG_34, sG_36, sG_38, sG_40, sG_41, sG_42, sG_43, sG_44, sG_45, sG_46, sG_47, sG_48, sG_49, sG_50, sG_51, sG_52, sG_53, sG_54, sG_55, sG_56, sG_57, sG_58, sG_59, sG_60, sG_61, sG_62, sG_63, sG_64, sG_65, sE_1, sE_2, sE_5, sE_6, sE_12, sE_13, sE_19, sE_20, sE_22, sE_24, sE_25, sE_26, sE_27, sE_29, sE_32, sE_34, sE_36, sE_38, sE_40, sE_41, sE_42, sE_43, sE_44, sE_45, sE_46, sE_47, sE_48, sE_49, sE_50, sE_51, sE_52, sE_53, sE_54, sE_55, sE_56, sE_57, sE_58, sE_59, sE_60, sE_61, sE_62, sE_63, sE_64, sE_65, sG_7, sG_8, sG_10, sG_14, sG_15, sG_17, sG_30, sE_7, sE_8, sE_10, sE_14, sE_15, sE_17, sE_30, sS_0, sS_1, sS_2, sS_3, wr_id, wr_ai, wr_fi, wr_wand, wr_wor, wr_wxor, wr_wshl, wr_wshr, wr_lt, wr_gt, Int.reduceEq, Int.reduceLT, Int.reduceLE, Int.reduceNeg, b01, b10, and_self, true_and, and_true, false_and, and_false, or_false, false_or, or_true, true_or, ite_not, not_true_eq_false, not_false_eq_true, kk_v, kk_0, reduceCtorEq, if_true, if_false, ite_true, ite_false, swt, Option.some.injEq, gO_ok, oc, g0, g2, k1, k2, h8]
end BK
