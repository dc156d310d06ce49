/-! the reference's constructor: printed by wip/whole/gen/gen85.py -/
section INR
variable {d : Nat} {h h0 : aH} {a b c n k m : Nat} {ce : aC} {f : Int → Int} {p : Int → Option Nat}
theorem aDf10 : aDf 10 = [aQ none, aQ none, aQ none, aQ none, aQ none, aQ none, aQ none, aQ none, aQ none, aQ none, aQ none, aQ none, aQ none, aQ none, aQ none, aQ none, aI 0, aI 0, aI 0, aQ none, aQ none, aI 0, aQ none, aI 0, aQ none, aQ none, aQ none, aQ none, aI 0, aQ none, aQ none, aQ none] := rfl
def f54 : Int → Int := upf (upf (upf (upf (upf (upf (fun _ => 0) 0 0) 1 0) 2 0) 3 0) 4 0) 5 50
def f61 : Int → Int := upf (upf (upf (upf (upf (upf (fun _ => 0) 0 1) 1 4) 2 16) 3 64) 4 256) 5 1024
theorem inr_00 : ∀ j : Int, inr ((fun _ => 0 : Int → Int) j) := fun _ => inr0
set_option maxHeartbeats 4000000 in
set_option maxRecDepth 20000 in
theorem i_R (hz : aSz h = 40) (hc : aCo h 39 = .inl (10, aDf 10)) (g : Rg h) : ∃ h', ev (d + 1) M_R_init [aQ (some 39)] h = some (none, h') ∧ Fr [39] h h' ∧ Rg h' ∧ (aSz h' = 66 ∧ aSl h' ≤ aSl h + 200000) ∧
    aCo h' 39 = .inl (10, [aQ (some 40), aQ (some 41), aQ (some 42), aQ (some 43), aQ (some 44), aQ (some 45), aQ (some 46), aQ (some 47), aQ (some 48), aQ (some 49), aQ (some 50), aQ (some 51), aQ (some 52), aQ (some 53), aQ (some 54), aQ (some 55), aI 0, aI 0, aI 0, aQ (some 56), aQ (some 57), aI 0, aQ (some 58), aI 0, aQ (some 59), aQ (some 60), aQ (some 61), aQ (some 62), aI 0, aQ (some 63), aQ (some 64), aQ (some 65)]) ∧
    aCo h' 40 = zA 3240 ∧ aCo h' 41 = zA 6 ∧ aCo h' 42 = zA 32400 ∧ aCo h' 43 = zA 60 ∧ aCo h' 44 = zA 540 ∧ aCo h' 45 = zA 60 ∧ aCo h' 46 = zA 60 ∧ aCo h' 47 = zA 60 ∧ aCo h' 48 = zA 60 ∧ aCo h' 49 = zA 60 ∧ aCo h' 50 = zA 60 ∧ aCo h' 51 = zA 60 ∧ aCo h' 52 = zA 8 ∧ aCo h' 53 = zA 20 ∧ aCo h' 54 = .inr (.inl (6, f54)) ∧ aCo h' 55 = zA 36800 ∧ aCo h' 56 = zA 441 ∧ aCo h' 57 = zA 20 ∧ aCo h' 58 = zA 6 ∧ aCo h' 59 = zA 36864 ∧ aCo h' 60 = zA 48 ∧ aCo h' 61 = .inr (.inl (6, f61)) ∧ aCo h' 62 = zA 50 ∧ aCo h' 63 = zA 4 ∧ aCo h' 64 = zA 4 ∧ aCo h' 65 = zA 160 := by
  have ho : isO h 39 10 = true := isO_c hc (by decide) (by omega) rfl
  apply Exists.intro
  refine ⟨?_, ?_⟩
  · rw [n_R_init]
    simp (maxDischargeDepth := 400) only [u_R_init_0, u_R_init_1, u_R_init_4, u_R_init_5, u_R_init_8, u_R_init_10, u_R_init_13, u_R_init_14, u_R_init_16, u_R_init_18, u_R_init_21, u_R_init_22, u_R_init_25, u_R_init_27, u_R_init_30, u_R_init_31, u_R_init_33, u_R_init_35, u_R_init_38, u_R_init_39, u_R_init_42, u_R_init_44, u_R_init_47, u_R_init_48, u_R_init_50, u_R_init_52, u_R_init_55, u_R_init_56, u_R_init_58, u_R_init_60, u_R_init_63, u_R_init_64, u_R_init_66, u_R_init_68, u_R_init_71, u_R_init_72, u_R_init_74, u_R_init_76, u_R_init_79, u_R_init_80, u_R_init_82, u_R_init_84, u_R_init_87, u_R_init_88, u_R_init_90, u_R_init_92, u_R_init_95, u_R_init_96, u_R_init_98, u_R_init_100, u_R_init_103, u_R_init_104, u_R_init_106, u_R_init_108, u_R_init_111, u_R_init_112, u_R_init_114, u_R_init_116, u_R_init_119, u_R_init_120, u_R_init_122, u_R_init_124, u_R_init_125, u_R_init_126, u_R_init_127, u_R_init_128, u_R_init_129, u_R_init_130, u_R_init_131, u_R_init_132, u_R_init_133, u_R_init_134, u_R_init_135, u_R_init_136, u_R_init_137, u_R_init_138, u_R_init_139, u_R_init_140, u_R_init_141, u_R_init_142, u_R_init_143, u_R_init_144, u_R_init_145, u_R_init_146, u_R_init_148, u_R_init_149, u_R_init_152, u_R_init_153, u_R_init_155, u_R_init_157, u_R_init_160, u_R_init_161, u_R_init_164, u_R_init_166, u_R_init_169, u_R_init_170, u_R_init_172, u_R_init_174, u_R_init_177, u_R_init_178, u_R_init_180, u_R_init_182, u_R_init_185, u_R_init_186, u_R_init_188, u_R_init_190, u_R_init_193, u_R_init_194, u_R_init_196, u_R_init_198, u_R_init_201, u_R_init_202, u_R_init_204, u_R_init_206, u_R_init_207, u_R_init_208, u_R_init_209, u_R_init_210, u_R_init_211, u_R_init_212, u_R_init_213, u_R_init_214, u_R_init_215, u_R_init_216, u_R_init_218, u_R_init_219, u_R_init_220, u_R_init_221, u_R_init_223, u_R_init_224, u_R_init_225, u_R_init_226, u_R_init_229, u_R_init_230, u_R_init_231, u_R_init_232, u_R_init_235, u_R_init_236, u_R_init_239, u_R_init_240, u_R_init_242, u_R_init_244, u_R_init_247, u_R_init_248, u_R_init_249, u_R_init_251, u_R_init_254, u_R_init_255, u_R_init_256, u_R_init_258, u_R_init_261, u_R_init_262, u_R_init_265, u_R_init_267, u_R_init_270, aSz_pf, aSz_sa, aSz_sr, isO_pf, isO_sa, isO_sr, isA_pf, isA_sa, isA_sr, isR_pf, isR_sa, isR_sr, al_pf, al_sa, al_sr, gf_sa, gf_sr, ai_pf, ai_sr, ra_pf, ra_sa, gf_pn, ai_sn, ra_sn, sa_sa, pf_pf, fi_sa, fi_sr, fi_pn, gO_pf, gO_sa, gO_sr, gA_pf, gA_sa, gA_sr, gR_pf, gR_sa, gR_sr, isAR_pf, isAR_sa, isAR_sr, okQ_pf, okQ_sa, okQ_sr, okC_pf, okC_sa, okC_sr, okQ_n, gB_t, wr_id, wr_ai, wr_fi, wr_wand, wr_wor, wr_wxor, wr_wshl, wr_wshr, wr_lt, wr_gt, Int.reduceEq, Int.reduceLT, Int.reduceLE, Int.reduceNeg, b01, b10, and_self, true_and, and_true, false_and, and_false, or_false, false_or, or_true, true_or, ite_not, not_true_eq_false, not_false_eq_true, kk_v, kk_0, reduceCtorEq, if_true, if_false, ite_true, ite_false, swt, Option.some.injEq, gO_ok, gA_ok, ho, hz, aSz_new, isO_nw, isA_nw, isA_nwE, al_new, al_nwA, ai_nwE, ai_new, ai_se, aNl_I, aNl_Q, aNl_U, bl0, bl1, bl2, bl3, bl4, ne_eq, Nat.reduceAdd, Nat.reduceLT, Nat.reduceLeDiff, Nat.reduceEqDiff, Int.reduceAdd, Int.reduceToNat, Int.reduceNatCast, Int.reduceNatCast']
    rfl
  · refine ⟨?_, ?_, ⟨?_, ?_⟩, ?_⟩
    · repeat first
        | exact Fr.refl
        | refine Fr.new ?_
        | refine Fr.pf ?_ (Or.inr (by decide))
        | refine Fr.sa ?_ (Or.inl (by omega))
    · repeat first
        | exact g
        | refine Rg_newO ?_
        | refine Rg_newA ?_
        | refine Rg_pfQ ?_
        | refine Rg_sa ?_ (inr_upf ⟨by decide, by decide⟩ (inr_upf ⟨by decide, by decide⟩ (inr_upf ⟨by decide, by decide⟩ (inr_upf ⟨by decide, by decide⟩ (inr_upf ⟨by decide, by decide⟩ (inr_upf ⟨by decide, by decide⟩ inr_00))))))
    · simp only [aSz_pf, aSz_sa, aSz_sr, isO_pf, isO_sa, isO_sr, isA_pf, isA_sa, isA_sr, isR_pf, isR_sa, isR_sr, al_pf, al_sa, al_sr, gf_sa, gf_sr, ai_pf, ai_sr, ra_pf, ra_sa, gf_pn, ai_sn, ra_sn, sa_sa, pf_pf, fi_sa, fi_sr, fi_pn, gO_pf, gO_sa, gO_sr, gA_pf, gA_sa, gA_sr, gR_pf, gR_sa, gR_sr, isAR_pf, isAR_sa, isAR_sr, okQ_pf, okQ_sa, okQ_sr, okC_pf, okC_sa, okC_sr, okQ_n, gB_t, aSz_new, hz, Nat.reduceAdd]
    · simp only [aSl_pf, aSl_sa, aSl_new]
      omega
    · simp only [aCo_pf, aCo_sa, aCo_new, aSz_pf, aSz_sa, aSz_sr, isO_pf, isO_sa, isO_sr, isA_pf, isA_sa, isA_sr, isR_pf, isR_sa, isR_sr, al_pf, al_sa, al_sr, gf_sa, gf_sr, ai_pf, ai_sr, ra_pf, ra_sa, gf_pn, ai_sn, ra_sn, sa_sa, pf_pf, fi_sa, fi_sr, fi_pn, gO_pf, gO_sa, gO_sr, gA_pf, gA_sa, gA_sr, gR_pf, gR_sa, gR_sr, isAR_pf, isAR_sa, isAR_sr, okQ_pf, okQ_sa, okQ_sr, okC_pf, okC_sa, okC_sr, okQ_n, gB_t, aSz_new, hz, hc, Nat.reduceAdd, Nat.reduceEqDiff, if_true, if_false, ite_true, ite_false, aDf10, List.set_cons_zero, List.set_cons_succ, zA, f54, f61, and_self]
end INR
