/-! the law's run, whole: printed by wip/whole/gen/gen87.py -/
section RUN
variable {h : aH} {L : Nat} {S : Int → Int}
theorem w_all (hz : aSz h = 3) (hsl : aSl h = 0) (g : Rg h) (hL : CL h L S) (hS : ∀ j, inr (S j)) (hl : (L : Int) ≤ 2560) (k1 : aCo h 1 = .inr (.inl (6, ka))) (k2 : aCo h 2 = .inr (.inl (24, bo))) : ∃ h', ex (ev 11) k_W_law 0 [aQ (some 0), aU, aU, aU] [] h = some (some (aI 1), h') ∧ aSz h' ≤ 60000 ∧ aSl h' ≤ 1000000 := by
  obtain ⟨h1, e1, F1, g1, ⟨z1, l1⟩, c3, c4, c5, c6, c7, c8, c9, c10, c11, c12, c13, c14, c15, c16, c17, c18, c19, c20, c21, c22, c23, c24, c25, c26, c27, c28, c29, c30, c31, c32, c33, c34, c35, c36, c37, c38⟩ := i_C (d := 8) (h := aNew h (.inl (9, aDf 9)) (aNf 9)) (by rw [aSz_new, hz]) (by rw [aCo_new, if_pos hz.symm]) (Rg_newO g)
  have e1 : ev 11 M_C_init [aQ (some 3)] (aNew h (.inl (9, aDf 9)) (aNf 9)) = some (none, h1) := e1
  obtain ⟨h2, e2, F2, g2, ⟨z2, l2⟩, c39, c40, c41, c42, c43, c44, c45, c46, c47, c48, c49, c50, c51, c52, c53, c54, c55, c56, c57, c58, c59, c60, c61, c62, c63, c64, c65⟩ := i_R (d := 10) (h := aNew h1 (.inl (10, aDf 10)) (aNf 10)) (by rw [aSz_new, z1]) (by rw [aCo_new, if_pos z1.symm]) (Rg_newO g1)
  have e2 : ev 11 M_R_init [aQ (some 39)] (aNew h1 (.inl (10, aDf 10)) (aNf 10)) = some (none, h2) := e2
  have fr : ∀ a, a < 39 → aCo h2 a = aCo h1 a := fun a ha => by
    rw [F2.2 a (by rw [aSz_new, z1]; omega) (by simp only [List.mem_cons, List.not_mem_nil, or_false]; omega), aCo_new, if_neg (by omega)]
  have f0 : ∀ a, a < 3 → aCo h2 a = aCo h a := fun a ha => by
    rw [fr a (by omega), F1.2 a (by rw [aSz_new, hz]; omega) (by simp only [List.mem_cons, List.not_mem_nil, or_false]; omega), aCo_new, if_neg (by omega)]
  have iv : Inv h2 := i_Inv z2 g2 ((f0 1 (by decide)).trans k1) ((f0 2 (by decide)).trans k2) ((fr 3 (by decide)).trans c3) ((fr 4 (by decide)).trans c4) ((fr 5 (by decide)).trans c5) ((fr 6 (by decide)).trans c6) ((fr 7 (by decide)).trans c7) ((fr 8 (by decide)).trans c8) ((fr 9 (by decide)).trans c9) ((fr 10 (by decide)).trans c10) ((fr 11 (by decide)).trans c11) ((fr 12 (by decide)).trans c12) ((fr 13 (by decide)).trans c13) ((fr 14 (by decide)).trans c14) ((fr 15 (by decide)).trans c15) ((fr 16 (by decide)).trans c16) ((fr 17 (by decide)).trans c17) ((fr 18 (by decide)).trans c18) ((fr 19 (by decide)).trans c19) ((fr 20 (by decide)).trans c20) ((fr 21 (by decide)).trans c21) ((fr 22 (by decide)).trans c22) ((fr 23 (by decide)).trans c23) ((fr 24 (by decide)).trans c24) ((fr 25 (by decide)).trans c25) ((fr 26 (by decide)).trans c26) ((fr 27 (by decide)).trans c27) ((fr 28 (by decide)).trans c28) ((fr 29 (by decide)).trans c29) ((fr 30 (by decide)).trans c30) ((fr 31 (by decide)).trans c31) ((fr 32 (by decide)).trans c32) ((fr 33 (by decide)).trans c33) ((fr 34 (by decide)).trans c34) ((fr 35 (by decide)).trans c35) ((fr 36 (by decide)).trans c36) ((fr 37 (by decide)).trans c37) ((fr 38 (by decide)).trans c38) c39 c40 c41 c42 c43 c44 c45 c46 c47 c48 c49 c50 c51 c52 c53 c54 c55 c56 c57 c58 c59 c60 c61 c62 c63 c64 c65
  obtain ⟨h3, e3, z3, l3⟩ := w_loop hS hl 512 0 h2 (by omega) (by decide) (by decide) iv ((f0 0 (by decide)).trans hL)
  rw [aSl_new] at l1 l2
  have n1 : aNf 9 = 10 := rfl
  have n2 : aNf 10 = 32 := rfl
  refine ⟨h3, ?_, by omega, by omega⟩
  rw [← e3]
  simp (disch := first | assumption | omega | exact aNl_I | exact aNl_Q | exact bl0 | exact bl1 | exact bl2 | exact bl3 | exact bl4 | exact aNl_U) only [u_W_law_0, u_W_law_3, u_W_law_4, u_W_law_7, u_W_law_8, u_W_law_11, u_W_law_12, u_W_law_15, u_W_law_16, u_W_law_17, wr_id, wr_ai, wr_fi, wr_wand, wr_wor, wr_wxor, wr_wshl, wr_wshr, wr_lt, wr_gt, Int.reduceEq, Int.reduceLT, Int.reduceLE, Int.reduceNeg, b01, b10, and_self, true_and, and_true, false_and, and_false, or_false, false_or, or_true, true_or, ite_not, not_true_eq_false, not_false_eq_true, kk_v, kk_0, reduceCtorEq, if_true, if_false, ite_true, ite_false, Option.some.injEq, hz, z1, e1, e2]
end RUN
