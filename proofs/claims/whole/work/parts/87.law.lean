/-! the law's loop: printed by wip/whole/gen/gen87.py -/
def wPS : List (Int × Nat) := [(0, 172), (1, 195), (2, 244), (3, 267), (4, 290), (5, 313), (6, 326), (7, 379), (8, 412), (9, 465), (10, 478), (11, 491), (12, 514), (13, 557), (14, 610), (15, 643), (16, 686), (17, 719), (18, 752), (19, 775), (20, 798), (21, 811), (22, 844), (23, 877), (24, 900), (25, 943), (26, 966), (27, 1009), (28, 1052), (29, 1085), (30, 1128)]
/-- the script's cell -/
def CL (h : aH) (L : Nat) (S : Int → Int) : Prop := aCo h 0 = .inr (.inl (L, S))
def WOut (h h' : aH) (L : Nat) (S : Int → Int) (i : Int) (pc : Nat) : Prop := ex (ev 11) k_W_law pc [aQ (some 0), aQ (some 3), aQ (some 39), aI i] [] h = ex (ev 11) k_W_law 18 [aQ (some 0), aQ (some 3), aQ (some 39), aI (i + 5)] [] h' ∧ Inv h' ∧ CL h' L S ∧ aSz h' ≤ aSz h + 100 ∧ aSl h' ≤ aSl h + 1000
section LAW
variable {h : aH} {L : Nat} {S : Int → Int} {i : Int}
theorem w_sw (iv : Inv h) (hL : CL h L S) (hl : (L : Int) ≤ 2560) (h0 : 0 ≤ i) (h5 : i + 5 ≤ L) : ex (ev 11) k_W_law 18 [aQ (some 0), aQ (some 3), aQ (some 39), aI i] [] h = ex (ev 11) k_W_law (swt wPS 1141 (wand (S i) 31)) [aQ (some 0), aQ (some 3), aQ (some 39), aI i] [] h := by
  have z := Sh_lt iv.1.1
  have a0 : isA h 0 = true := isA_c hL (by omega)
  have b0 : al h 0 = L := al_cA hL
  have d0 : ai h 0 = S := ai_cA hL
  have c : ¬ ((al h 0 : Int) - 5 < i) := by omega
  simp (disch := first | assumption | omega | exact aNl_I | exact aNl_Q | exact bl0 | exact bl1 | exact bl2 | exact bl3 | exact bl4 | exact aNl_U) only [wPS, u_W_law_18, u_W_law_19, u_W_law_20, u_W_law_21, u_W_law_22, u_W_law_23, u_W_law_26, u_W_law_27, u_W_law_28, u_W_law_29, u_W_law_31, u_W_law_32, wr_id, wr_ai, wr_fi, wr_wand, wr_wor, wr_wxor, wr_wshl, wr_wshr, wr_lt, wr_gt, Int.reduceEq, Int.reduceLT, Int.reduceLE, Int.reduceNeg, b01, b10, and_self, true_and, and_true, false_and, and_false, or_false, false_or, or_true, true_or, ite_not, not_true_eq_false, not_false_eq_true, kk_v, kk_0, reduceCtorEq, if_true, if_false, ite_true, ite_false, Option.some.injEq, gO_ok, gA_ok, isAR_A, eq_self, gB_t, a0, d0, c]
theorem w_end (iv : Inv h) (hL : CL h L S) (hl : (L : Int) ≤ 2560) (h0 : 0 ≤ i) (h1 : i ≤ 2560) (h5 : L < i + 5) : ex (ev 11) k_W_law 18 [aQ (some 0), aQ (some 3), aQ (some 39), aI i] [] h = some (some (aI 1), h) := by
  have z := Sh_lt iv.1.1
  have a0 : isA h 0 = true := isA_c hL (by omega)
  have b0 : al h 0 = L := al_cA hL
  have c : (al h 0 : Int) - 5 < i := by omega
  simp (disch := first | assumption | omega | exact aNl_I | exact aNl_Q | exact bl0 | exact bl1 | exact bl2 | exact bl3 | exact bl4 | exact aNl_U) only [u_W_law_18, u_W_law_19, u_W_law_20, u_W_law_21, u_W_law_22, u_W_law_23, u_W_law_1147, u_W_law_1148, wr_id, wr_ai, wr_fi, wr_wand, wr_wor, wr_wxor, wr_wshl, wr_wshr, wr_lt, wr_gt, Int.reduceEq, Int.reduceLT, Int.reduceLE, Int.reduceNeg, b01, b10, and_self, true_and, and_true, false_and, and_false, or_false, false_or, or_true, true_or, ite_not, not_true_eq_false, not_false_eq_true, kk_v, kk_0, reduceCtorEq, if_true, if_false, ite_true, ite_false, Option.some.injEq, gO_ok, gA_ok, isAR_A, eq_self, gB_t, a0, c]
theorem w_dflt (iv : Inv h) (hL : CL h L S) : WOut h h L S i 1141 := by
  refine ⟨?_, iv, hL, Nat.le_add_right _ _, Nat.le_add_right _ _⟩
  simp (disch := first | assumption | omega | exact aNl_I | exact aNl_Q | exact bl0 | exact bl1 | exact bl2 | exact bl3 | exact bl4 | exact aNl_U) only [u_W_law_1141, u_W_law_1144, wr_id, wr_ai, wr_fi, wr_wand, wr_wor, wr_wxor, wr_wshl, wr_wshr, wr_lt, wr_gt, Int.reduceEq, Int.reduceLT, Int.reduceLE, Int.reduceNeg, b01, b10, and_self, true_and, and_true, false_and, and_false, or_false, false_or, or_true, true_or, ite_not, not_true_eq_false, not_false_eq_true, kk_v, kk_0, reduceCtorEq, if_true, if_false, ite_true, ite_false, Option.some.injEq]
theorem wt_person (iv : Inv h) (hL : CL h L S) (hS : ∀ j, inr (S j)) (hl : (L : Int) ≤ 2560) (h0 : 0 ≤ i) (h5 : i + 5 ≤ L) : ∃ h', WOut h h' L S i 172 := by
  have z := Sh_lt iv.1.1
  have w := iv.1.1
  have st : Step (ev 11 M_C_person [aQ (some 3), aI (S (i + 1))]) (ev 11 M_R_person [aQ (some 39), aI (S (i + 1))]) h := s_person (d := 8) iv (hS (i + 1))
  obtain ⟨z0, h1, h2, e1, e2, i2, z1, z2⟩ := st
  have p1 := ev_kp _ _ _ _ _ _ e1 (by omega)
  have p2 := ev_kp _ _ _ _ _ _ e2 p1.2.1
  have L1 : CL h1 L S := p1.1.trans hL
  have o1 : isO h1 39 10 = true := p1.2.2 (so_39 w)
  have o0 : isO h 3 9 = true := so_3 w
  refine ⟨h2, ?_, i2, p2.1.trans L1, z1, z2⟩
  have a0 : isA h 0 = true := isA_c hL (by omega)
  have b0 : al h 0 = L := al_cA hL
  have d0 : ai h 0 = S := ai_cA hL
  have y1 : 3 ≤ aSz h1 := p1.2.1
  have a1 : isA h1 0 = true := isA_c L1 (by omega)
  have b1 : al h1 0 = L := al_cA L1
  have d1 : ai h1 0 = S := ai_cA L1
  simp (disch := first | assumption | omega | exact aNl_I | exact aNl_Q | exact bl0 | exact bl1 | exact bl2 | exact bl3 | exact bl4 | exact aNl_U) only [u_W_law_172, u_W_law_173, u_W_law_174, u_W_law_175, u_W_law_176, u_W_law_177, u_W_law_178, u_W_law_181, u_W_law_182, u_W_law_183, u_W_law_184, u_W_law_185, u_W_law_186, u_W_law_187, u_W_law_190, u_W_law_193, u_W_law_194, u_W_law_1141, u_W_law_1144, wr_id, wr_ai, wr_fi, wr_wand, wr_wor, wr_wxor, wr_wshl, wr_wshr, wr_lt, wr_gt, Int.reduceEq, Int.reduceLT, Int.reduceLE, Int.reduceNeg, b01, b10, and_self, true_and, and_true, false_and, and_false, or_false, false_or, or_true, true_or, ite_not, not_true_eq_false, not_false_eq_true, kk_v, kk_0, reduceCtorEq, if_true, if_false, ite_true, ite_false, Option.some.injEq, gO_ok, gA_ok, isAR_A, eq_self, gB_t, a0, a1, d0, d1, o0, o1, e1, e2]
theorem wt_here (iv : Inv h) (hL : CL h L S) (hS : ∀ j, inr (S j)) (hl : (L : Int) ≤ 2560) (h0 : 0 ≤ i) (h5 : i + 5 ≤ L) : ∃ h', WOut h h' L S i 195 := by
  have z := Sh_lt iv.1.1
  have w := iv.1.1
  obtain ⟨b, hb, eb⟩ : ∃ b : Int, (b = 0 ∨ b = 1) ∧ b = if S (i + 2) = 0 then 0 else 1 := by
    by_cases c : S (i + 2) = 0
    · exact ⟨0, Or.inl rfl, by rw [if_pos c]⟩
    · exact ⟨1, Or.inr rfl, by rw [if_neg c]⟩
  obtain ⟨q1, q2⟩ := hS (i + 2)
  have st : Step (ev 11 M_C_here [aQ (some 3), aI (S (i + 1)), aI b]) (ev 11 M_R_here [aQ (some 39), aI (S (i + 1)), aI b]) h := s_here (d := 8) iv (hS (i + 1)) hb
  obtain ⟨z0, h1, h2, e1, e2, i2, z1, z2⟩ := st
  have p1 := ev_kp _ _ _ _ _ _ e1 (by omega)
  have p2 := ev_kp _ _ _ _ _ _ e2 p1.2.1
  have L1 : CL h1 L S := p1.1.trans hL
  have o1 : isO h1 39 10 = true := p1.2.2 (so_39 w)
  have o0 : isO h 3 9 = true := so_3 w
  refine ⟨h2, ?_, i2, p2.1.trans L1, z1, z2⟩
  have a0 : isA h 0 = true := isA_c hL (by omega)
  have b0 : al h 0 = L := al_cA hL
  have d0 : ai h 0 = S := ai_cA hL
  have y1 : 3 ≤ aSz h1 := p1.2.1
  have a1 : isA h1 0 = true := isA_c L1 (by omega)
  have b1 : al h1 0 = L := al_cA L1
  have d1 : ai h1 0 = S := ai_cA L1
  by_cases c : S (i + 2) = 0
  · rw [if_pos c] at eb
    subst eb
    simp (disch := first | assumption | omega | exact aNl_I | exact aNl_Q | exact bl0 | exact bl1 | exact bl2 | exact bl3 | exact bl4 | exact aNl_U) only [u_W_law_195, u_W_law_196, u_W_law_197, u_W_law_198, u_W_law_199, u_W_law_200, u_W_law_201, u_W_law_202, u_W_law_203, u_W_law_204, u_W_law_205, u_W_law_206, u_W_law_209, u_W_law_210, u_W_law_213, u_W_law_214, u_W_law_217, u_W_law_218, u_W_law_219, u_W_law_220, u_W_law_221, u_W_law_222, u_W_law_223, u_W_law_224, u_W_law_225, u_W_law_226, u_W_law_227, u_W_law_228, u_W_law_231, u_W_law_232, u_W_law_235, u_W_law_236, u_W_law_239, u_W_law_242, u_W_law_243, u_W_law_1141, u_W_law_1144, wr_id, wr_ai, wr_fi, wr_wand, wr_wor, wr_wxor, wr_wshl, wr_wshr, wr_lt, wr_gt, Int.reduceEq, Int.reduceLT, Int.reduceLE, Int.reduceNeg, b01, b10, and_self, true_and, and_true, false_and, and_false, or_false, false_or, or_true, true_or, ite_not, not_true_eq_false, not_false_eq_true, kk_v, kk_0, reduceCtorEq, if_true, if_false, ite_true, ite_false, Option.some.injEq, gO_ok, gA_ok, isAR_A, eq_self, gB_t, a0, a1, d0, d1, o0, o1, e1, e2, c]
  · rw [if_neg c] at eb
    subst eb
    simp (disch := first | assumption | omega | exact aNl_I | exact aNl_Q | exact bl0 | exact bl1 | exact bl2 | exact bl3 | exact bl4 | exact aNl_U) only [u_W_law_195, u_W_law_196, u_W_law_197, u_W_law_198, u_W_law_199, u_W_law_200, u_W_law_201, u_W_law_202, u_W_law_203, u_W_law_204, u_W_law_205, u_W_law_206, u_W_law_209, u_W_law_210, u_W_law_213, u_W_law_214, u_W_law_217, u_W_law_218, u_W_law_219, u_W_law_220, u_W_law_221, u_W_law_222, u_W_law_223, u_W_law_224, u_W_law_225, u_W_law_226, u_W_law_227, u_W_law_228, u_W_law_231, u_W_law_232, u_W_law_235, u_W_law_236, u_W_law_239, u_W_law_242, u_W_law_243, u_W_law_1141, u_W_law_1144, wr_id, wr_ai, wr_fi, wr_wand, wr_wor, wr_wxor, wr_wshl, wr_wshr, wr_lt, wr_gt, Int.reduceEq, Int.reduceLT, Int.reduceLE, Int.reduceNeg, b01, b10, and_self, true_and, and_true, false_and, and_false, or_false, false_or, or_true, true_or, ite_not, not_true_eq_false, not_false_eq_true, kk_v, kk_0, reduceCtorEq, if_true, if_false, ite_true, ite_false, Option.some.injEq, gO_ok, gA_ok, isAR_A, eq_self, gB_t, a0, a1, d0, d1, o0, o1, e1, e2, c]
theorem wt_day (iv : Inv h) (hL : CL h L S) (hS : ∀ j, inr (S j)) (hl : (L : Int) ≤ 2560) (h0 : 0 ≤ i) (h5 : i + 5 ≤ L) : ∃ h', WOut h h' L S i 244 := by
  have z := Sh_lt iv.1.1
  have w := iv.1.1
  have st : Step (ev 11 M_C_day [aQ (some 3), aI (S (i + 1))]) (ev 11 M_R_day [aQ (some 39), aI (S (i + 1))]) h := s_day (d := 8) iv (hS (i + 1))
  obtain ⟨z0, h1, h2, e1, e2, i2, z1, z2⟩ := st
  have p1 := ev_kp _ _ _ _ _ _ e1 (by omega)
  have p2 := ev_kp _ _ _ _ _ _ e2 p1.2.1
  have L1 : CL h1 L S := p1.1.trans hL
  have o1 : isO h1 39 10 = true := p1.2.2 (so_39 w)
  have o0 : isO h 3 9 = true := so_3 w
  refine ⟨h2, ?_, i2, p2.1.trans L1, z1, z2⟩
  have a0 : isA h 0 = true := isA_c hL (by omega)
  have b0 : al h 0 = L := al_cA hL
  have d0 : ai h 0 = S := ai_cA hL
  have y1 : 3 ≤ aSz h1 := p1.2.1
  have a1 : isA h1 0 = true := isA_c L1 (by omega)
  have b1 : al h1 0 = L := al_cA L1
  have d1 : ai h1 0 = S := ai_cA L1
  simp (disch := first | assumption | omega | exact aNl_I | exact aNl_Q | exact bl0 | exact bl1 | exact bl2 | exact bl3 | exact bl4 | exact aNl_U) only [u_W_law_244, u_W_law_245, u_W_law_246, u_W_law_247, u_W_law_248, u_W_law_249, u_W_law_250, u_W_law_253, u_W_law_254, u_W_law_255, u_W_law_256, u_W_law_257, u_W_law_258, u_W_law_259, u_W_law_262, u_W_law_265, u_W_law_266, u_W_law_1141, u_W_law_1144, wr_id, wr_ai, wr_fi, wr_wand, wr_wor, wr_wxor, wr_wshl, wr_wshr, wr_lt, wr_gt, Int.reduceEq, Int.reduceLT, Int.reduceLE, Int.reduceNeg, b01, b10, and_self, true_and, and_true, false_and, and_false, or_false, false_or, or_true, true_or, ite_not, not_true_eq_false, not_false_eq_true, kk_v, kk_0, reduceCtorEq, if_true, if_false, ite_true, ite_false, Option.some.injEq, gO_ok, gA_ok, isAR_A, eq_self, gB_t, a0, a1, d0, d1, o0, o1, e1, e2]
theorem wt_share (iv : Inv h) (hL : CL h L S) (hS : ∀ j, inr (S j)) (hl : (L : Int) ≤ 2560) (h0 : 0 ≤ i) (h5 : i + 5 ≤ L) : ∃ h', WOut h h' L S i 267 := by
  have z := Sh_lt iv.1.1
  have w := iv.1.1
  have st : Step (ev 11 M_C_share [aQ (some 3), aI (S (i + 1))]) (ev 11 M_R_share [aQ (some 39), aI (S (i + 1))]) h := s_share (d := 8) iv (hS (i + 1))
  obtain ⟨z0, h1, h2, e1, e2, i2, z1, z2⟩ := st
  have p1 := ev_kp _ _ _ _ _ _ e1 (by omega)
  have p2 := ev_kp _ _ _ _ _ _ e2 p1.2.1
  have L1 : CL h1 L S := p1.1.trans hL
  have o1 : isO h1 39 10 = true := p1.2.2 (so_39 w)
  have o0 : isO h 3 9 = true := so_3 w
  refine ⟨h2, ?_, i2, p2.1.trans L1, z1, z2⟩
  have a0 : isA h 0 = true := isA_c hL (by omega)
  have b0 : al h 0 = L := al_cA hL
  have d0 : ai h 0 = S := ai_cA hL
  have y1 : 3 ≤ aSz h1 := p1.2.1
  have a1 : isA h1 0 = true := isA_c L1 (by omega)
  have b1 : al h1 0 = L := al_cA L1
  have d1 : ai h1 0 = S := ai_cA L1
  simp (disch := first | assumption | omega | exact aNl_I | exact aNl_Q | exact bl0 | exact bl1 | exact bl2 | exact bl3 | exact bl4 | exact aNl_U) only [u_W_law_267, u_W_law_268, u_W_law_269, u_W_law_270, u_W_law_271, u_W_law_272, u_W_law_273, u_W_law_276, u_W_law_277, u_W_law_278, u_W_law_279, u_W_law_280, u_W_law_281, u_W_law_282, u_W_law_285, u_W_law_288, u_W_law_289, u_W_law_1141, u_W_law_1144, wr_id, wr_ai, wr_fi, wr_wand, wr_wor, wr_wxor, wr_wshl, wr_wshr, wr_lt, wr_gt, Int.reduceEq, Int.reduceLT, Int.reduceLE, Int.reduceNeg, b01, b10, and_self, true_and, and_true, false_and, and_false, or_false, false_or, or_true, true_or, ite_not, not_true_eq_false, not_false_eq_true, kk_v, kk_0, reduceCtorEq, if_true, if_false, ite_true, ite_false, Option.some.injEq, gO_ok, gA_ok, isAR_A, eq_self, gB_t, a0, a1, d0, d1, o0, o1, e1, e2]
theorem wt_text (iv : Inv h) (hL : CL h L S) (hS : ∀ j, inr (S j)) (hl : (L : Int) ≤ 2560) (h0 : 0 ≤ i) (h5 : i + 5 ≤ L) : ∃ h', WOut h h' L S i 290 := by
  have z := Sh_lt iv.1.1
  have w := iv.1.1
  have st : Step (ev 11 M_C_text [aQ (some 3), aI (S (i + 1))]) (ev 11 M_R_text [aQ (some 39), aI (S (i + 1))]) h := s_text (d := 8) iv (hS (i + 1))
  obtain ⟨z0, h1, h2, e1, e2, i2, z1, z2⟩ := st
  have p1 := ev_kp _ _ _ _ _ _ e1 (by omega)
  have p2 := ev_kp _ _ _ _ _ _ e2 p1.2.1
  have L1 : CL h1 L S := p1.1.trans hL
  have o1 : isO h1 39 10 = true := p1.2.2 (so_39 w)
  have o0 : isO h 3 9 = true := so_3 w
  refine ⟨h2, ?_, i2, p2.1.trans L1, z1, z2⟩
  have a0 : isA h 0 = true := isA_c hL (by omega)
  have b0 : al h 0 = L := al_cA hL
  have d0 : ai h 0 = S := ai_cA hL
  have y1 : 3 ≤ aSz h1 := p1.2.1
  have a1 : isA h1 0 = true := isA_c L1 (by omega)
  have b1 : al h1 0 = L := al_cA L1
  have d1 : ai h1 0 = S := ai_cA L1
  simp (disch := first | assumption | omega | exact aNl_I | exact aNl_Q | exact bl0 | exact bl1 | exact bl2 | exact bl3 | exact bl4 | exact aNl_U) only [u_W_law_290, u_W_law_291, u_W_law_292, u_W_law_293, u_W_law_294, u_W_law_295, u_W_law_296, u_W_law_299, u_W_law_300, u_W_law_301, u_W_law_302, u_W_law_303, u_W_law_304, u_W_law_305, u_W_law_308, u_W_law_311, u_W_law_312, u_W_law_1141, u_W_law_1144, wr_id, wr_ai, wr_fi, wr_wand, wr_wor, wr_wxor, wr_wshl, wr_wshr, wr_lt, wr_gt, Int.reduceEq, Int.reduceLT, Int.reduceLE, Int.reduceNeg, b01, b10, and_self, true_and, and_true, false_and, and_false, or_false, false_or, or_true, true_or, ite_not, not_true_eq_false, not_false_eq_true, kk_v, kk_0, reduceCtorEq, if_true, if_false, ite_true, ite_false, Option.some.injEq, gO_ok, gA_ok, isAR_A, eq_self, gB_t, a0, a1, d0, d1, o0, o1, e1, e2]
theorem wt_wipe (iv : Inv h) (hL : CL h L S) (hS : ∀ j, inr (S j)) (hl : (L : Int) ≤ 2560) (h0 : 0 ≤ i) (h5 : i + 5 ≤ L) : ∃ h', WOut h h' L S i 313 := by
  have z := Sh_lt iv.1.1
  have w := iv.1.1
  have st : Step (ev 11 M_C_wipe [aQ (some 3)]) (ev 11 M_R_wipe [aQ (some 39)]) h := s_wipe (d := 8) iv 
  obtain ⟨z0, h1, h2, e1, e2, i2, z1, z2⟩ := st
  have p1 := ev_kp _ _ _ _ _ _ e1 (by omega)
  have p2 := ev_kp _ _ _ _ _ _ e2 p1.2.1
  have L1 : CL h1 L S := p1.1.trans hL
  have o1 : isO h1 39 10 = true := p1.2.2 (so_39 w)
  have o0 : isO h 3 9 = true := so_3 w
  refine ⟨h2, ?_, i2, p2.1.trans L1, z1, z2⟩
  simp (disch := first | assumption | omega | exact aNl_I | exact aNl_Q | exact bl0 | exact bl1 | exact bl2 | exact bl3 | exact bl4 | exact aNl_U) only [u_W_law_313, u_W_law_314, u_W_law_317, u_W_law_318, u_W_law_321, u_W_law_324, u_W_law_325, u_W_law_1141, u_W_law_1144, wr_id, wr_ai, wr_fi, wr_wand, wr_wor, wr_wxor, wr_wshl, wr_wshr, wr_lt, wr_gt, Int.reduceEq, Int.reduceLT, Int.reduceLE, Int.reduceNeg, b01, b10, and_self, true_and, and_true, false_and, and_false, or_false, false_or, or_true, true_or, ite_not, not_true_eq_false, not_false_eq_true, kk_v, kk_0, reduceCtorEq, if_true, if_false, ite_true, ite_false, Option.some.injEq, gO_ok, gA_ok, isAR_A, eq_self, gB_t, o0, o1, e1, e2]
theorem wt_change (iv : Inv h) (hL : CL h L S) (hS : ∀ j, inr (S j)) (hl : (L : Int) ≤ 2560) (h0 : 0 ≤ i) (h5 : i + 5 ≤ L) : ∃ h', WOut h h' L S i 326 := by
  have z := Sh_lt iv.1.1
  have w := iv.1.1
  have st : Step (ev 11 M_C_change [aQ (some 3), aI (S (i + 1)), aI (S (i + 2)), aI (S (i + 3)), aI (S (i + 4))]) (ev 11 M_R_change [aQ (some 39), aI (S (i + 1)), aI (S (i + 2)), aI (S (i + 3)), aI (S (i + 4))]) h := s_change (d := 5) iv (hS (i + 1)) (hS (i + 2)) (hS (i + 3)) (hS (i + 4))
  obtain ⟨z0, h1, h2, e1, e2, i2, z1, z2⟩ := st
  have p1 := ev_kp _ _ _ _ _ _ e1 (by omega)
  have p2 := ev_kp _ _ _ _ _ _ e2 p1.2.1
  have L1 : CL h1 L S := p1.1.trans hL
  have o1 : isO h1 39 10 = true := p1.2.2 (so_39 w)
  have o0 : isO h 3 9 = true := so_3 w
  refine ⟨h2, ?_, i2, p2.1.trans L1, z1, z2⟩
  have a0 : isA h 0 = true := isA_c hL (by omega)
  have b0 : al h 0 = L := al_cA hL
  have d0 : ai h 0 = S := ai_cA hL
  have y1 : 3 ≤ aSz h1 := p1.2.1
  have a1 : isA h1 0 = true := isA_c L1 (by omega)
  have b1 : al h1 0 = L := al_cA L1
  have d1 : ai h1 0 = S := ai_cA L1
  simp (disch := first | assumption | omega | exact aNl_I | exact aNl_Q | exact bl0 | exact bl1 | exact bl2 | exact bl3 | exact bl4 | exact aNl_U) only [u_W_law_326, u_W_law_327, u_W_law_328, u_W_law_329, u_W_law_330, u_W_law_331, u_W_law_332, u_W_law_333, u_W_law_334, u_W_law_335, u_W_law_336, u_W_law_337, u_W_law_338, u_W_law_339, u_W_law_340, u_W_law_341, u_W_law_342, u_W_law_343, u_W_law_344, u_W_law_345, u_W_law_346, u_W_law_347, u_W_law_350, u_W_law_351, u_W_law_352, u_W_law_353, u_W_law_354, u_W_law_355, u_W_law_356, u_W_law_357, u_W_law_358, u_W_law_359, u_W_law_360, u_W_law_361, u_W_law_362, u_W_law_363, u_W_law_364, u_W_law_365, u_W_law_366, u_W_law_367, u_W_law_368, u_W_law_369, u_W_law_370, u_W_law_371, u_W_law_374, u_W_law_377, u_W_law_378, u_W_law_1141, u_W_law_1144, wr_id, wr_ai, wr_fi, wr_wand, wr_wor, wr_wxor, wr_wshl, wr_wshr, wr_lt, wr_gt, Int.reduceEq, Int.reduceLT, Int.reduceLE, Int.reduceNeg, b01, b10, and_self, true_and, and_true, false_and, and_false, or_false, false_or, or_true, true_or, ite_not, not_true_eq_false, not_false_eq_true, kk_v, kk_0, reduceCtorEq, if_true, if_false, ite_true, ite_false, Option.some.injEq, gO_ok, gA_ok, isAR_A, eq_self, gB_t, a0, a1, d0, d1, o0, o1, e1, e2]
theorem wt_back (iv : Inv h) (hL : CL h L S) (hS : ∀ j, inr (S j)) (hl : (L : Int) ≤ 2560) (h0 : 0 ≤ i) (h5 : i + 5 ≤ L) : ∃ h', WOut h h' L S i 379 := by
  have z := Sh_lt iv.1.1
  have w := iv.1.1
  have st : Step (ev 11 M_C_back [aQ (some 3), aI (S (i + 1)), aI (S (i + 2))]) (ev 11 M_R_back [aQ (some 39), aI (S (i + 1)), aI (S (i + 2))]) h := s_back (d := 6) iv (hS (i + 1)) (hS (i + 2))
  obtain ⟨z0, h1, h2, e1, e2, i2, z1, z2⟩ := st
  have p1 := ev_kp _ _ _ _ _ _ e1 (by omega)
  have p2 := ev_kp _ _ _ _ _ _ e2 p1.2.1
  have L1 : CL h1 L S := p1.1.trans hL
  have o1 : isO h1 39 10 = true := p1.2.2 (so_39 w)
  have o0 : isO h 3 9 = true := so_3 w
  refine ⟨h2, ?_, i2, p2.1.trans L1, z1, z2⟩
  have a0 : isA h 0 = true := isA_c hL (by omega)
  have b0 : al h 0 = L := al_cA hL
  have d0 : ai h 0 = S := ai_cA hL
  have y1 : 3 ≤ aSz h1 := p1.2.1
  have a1 : isA h1 0 = true := isA_c L1 (by omega)
  have b1 : al h1 0 = L := al_cA L1
  have d1 : ai h1 0 = S := ai_cA L1
  simp (disch := first | assumption | omega | exact aNl_I | exact aNl_Q | exact bl0 | exact bl1 | exact bl2 | exact bl3 | exact bl4 | exact aNl_U) only [u_W_law_379, u_W_law_380, u_W_law_381, u_W_law_382, u_W_law_383, u_W_law_384, u_W_law_385, u_W_law_386, u_W_law_387, u_W_law_388, u_W_law_389, u_W_law_390, u_W_law_393, u_W_law_394, u_W_law_395, u_W_law_396, u_W_law_397, u_W_law_398, u_W_law_399, u_W_law_400, u_W_law_401, u_W_law_402, u_W_law_403, u_W_law_404, u_W_law_407, u_W_law_410, u_W_law_411, u_W_law_1141, u_W_law_1144, wr_id, wr_ai, wr_fi, wr_wand, wr_wor, wr_wxor, wr_wshl, wr_wshr, wr_lt, wr_gt, Int.reduceEq, Int.reduceLT, Int.reduceLE, Int.reduceNeg, b01, b10, and_self, true_and, and_true, false_and, and_false, or_false, false_or, or_true, true_or, ite_not, not_true_eq_false, not_false_eq_true, kk_v, kk_0, reduceCtorEq, if_true, if_false, ite_true, ite_false, Option.some.injEq, gO_ok, gA_ok, isAR_A, eq_self, gB_t, a0, a1, d0, d1, o0, o1, e1, e2]
theorem wt_read (iv : Inv h) (hL : CL h L S) (hS : ∀ j, inr (S j)) (hl : (L : Int) ≤ 2560) (h0 : 0 ≤ i) (h5 : i + 5 ≤ L) : ∃ h', WOut h h' L S i 412 := by
  have z := Sh_lt iv.1.1
  have w := iv.1.1
  have st : Step (ev 11 M_C_read [aQ (some 3), aI (S (i + 1)), aI (S (i + 2)), aI (S (i + 3)), aI (S (i + 4))]) (ev 11 M_R_read [aQ (some 39), aI (S (i + 1)), aI (S (i + 2)), aI (S (i + 3)), aI (S (i + 4))]) h := s_read (d := 6) iv (hS (i + 1)) (hS (i + 2)) (hS (i + 3)) (hS (i + 4))
  obtain ⟨z0, h1, h2, e1, e2, i2, z1, z2⟩ := st
  have p1 := ev_kp _ _ _ _ _ _ e1 (by omega)
  have p2 := ev_kp _ _ _ _ _ _ e2 p1.2.1
  have L1 : CL h1 L S := p1.1.trans hL
  have o1 : isO h1 39 10 = true := p1.2.2 (so_39 w)
  have o0 : isO h 3 9 = true := so_3 w
  refine ⟨h2, ?_, i2, p2.1.trans L1, z1, z2⟩
  have a0 : isA h 0 = true := isA_c hL (by omega)
  have b0 : al h 0 = L := al_cA hL
  have d0 : ai h 0 = S := ai_cA hL
  have y1 : 3 ≤ aSz h1 := p1.2.1
  have a1 : isA h1 0 = true := isA_c L1 (by omega)
  have b1 : al h1 0 = L := al_cA L1
  have d1 : ai h1 0 = S := ai_cA L1
  simp (disch := first | assumption | omega | exact aNl_I | exact aNl_Q | exact bl0 | exact bl1 | exact bl2 | exact bl3 | exact bl4 | exact aNl_U) only [u_W_law_412, u_W_law_413, u_W_law_414, u_W_law_415, u_W_law_416, u_W_law_417, u_W_law_418, u_W_law_419, u_W_law_420, u_W_law_421, u_W_law_422, u_W_law_423, u_W_law_424, u_W_law_425, u_W_law_426, u_W_law_427, u_W_law_428, u_W_law_429, u_W_law_430, u_W_law_431, u_W_law_432, u_W_law_433, u_W_law_436, u_W_law_437, u_W_law_438, u_W_law_439, u_W_law_440, u_W_law_441, u_W_law_442, u_W_law_443, u_W_law_444, u_W_law_445, u_W_law_446, u_W_law_447, u_W_law_448, u_W_law_449, u_W_law_450, u_W_law_451, u_W_law_452, u_W_law_453, u_W_law_454, u_W_law_455, u_W_law_456, u_W_law_457, u_W_law_460, u_W_law_463, u_W_law_464, u_W_law_1141, u_W_law_1144, wr_id, wr_ai, wr_fi, wr_wand, wr_wor, wr_wxor, wr_wshl, wr_wshr, wr_lt, wr_gt, Int.reduceEq, Int.reduceLT, Int.reduceLE, Int.reduceNeg, b01, b10, and_self, true_and, and_true, false_and, and_false, or_false, false_or, or_true, true_or, ite_not, not_true_eq_false, not_false_eq_true, kk_v, kk_0, reduceCtorEq, if_true, if_false, ite_true, ite_false, Option.some.injEq, gO_ok, gA_ok, isAR_A, eq_self, gB_t, a0, a1, d0, d1, o0, o1, e1, e2]
theorem wt_image (iv : Inv h) (hL : CL h L S) (hS : ∀ j, inr (S j)) (hl : (L : Int) ≤ 2560) (h0 : 0 ≤ i) (h5 : i + 5 ≤ L) : ∃ h', WOut h h' L S i 465 := by
  have z := Sh_lt iv.1.1
  have w := iv.1.1
  have st : Step (ev 11 M_C_image [aQ (some 3)]) (ev 11 M_R_image [aQ (some 39)]) h := s_image (d := 8) iv 
  obtain ⟨z0, h1, h2, e1, e2, i2, z1, z2⟩ := st
  have p1 := ev_kp _ _ _ _ _ _ e1 (by omega)
  have p2 := ev_kp _ _ _ _ _ _ e2 p1.2.1
  have L1 : CL h1 L S := p1.1.trans hL
  have o1 : isO h1 39 10 = true := p1.2.2 (so_39 w)
  have o0 : isO h 3 9 = true := so_3 w
  refine ⟨h2, ?_, i2, p2.1.trans L1, z1, z2⟩
  simp (disch := first | assumption | omega | exact aNl_I | exact aNl_Q | exact bl0 | exact bl1 | exact bl2 | exact bl3 | exact bl4 | exact aNl_U) only [u_W_law_465, u_W_law_466, u_W_law_469, u_W_law_470, u_W_law_473, u_W_law_476, u_W_law_477, u_W_law_1141, u_W_law_1144, wr_id, wr_ai, wr_fi, wr_wand, wr_wor, wr_wxor, wr_wshl, wr_wshr, wr_lt, wr_gt, Int.reduceEq, Int.reduceLT, Int.reduceLE, Int.reduceNeg, b01, b10, and_self, true_and, and_true, false_and, and_false, or_false, false_or, or_true, true_or, ite_not, not_true_eq_false, not_false_eq_true, kk_v, kk_0, reduceCtorEq, if_true, if_false, ite_true, ite_false, Option.some.injEq, gO_ok, gA_ok, isAR_A, eq_self, gB_t, o0, o1, e1, e2]
theorem wt_restore (iv : Inv h) (hL : CL h L S) (hS : ∀ j, inr (S j)) (hl : (L : Int) ≤ 2560) (h0 : 0 ≤ i) (h5 : i + 5 ≤ L) : ∃ h', WOut h h' L S i 478 := by
  have z := Sh_lt iv.1.1
  have w := iv.1.1
  have st : Step (ev 11 M_C_restore [aQ (some 3)]) (ev 11 M_R_restore [aQ (some 39)]) h := s_restore (d := 8) iv 
  obtain ⟨z0, h1, h2, e1, e2, i2, z1, z2⟩ := st
  have p1 := ev_kp _ _ _ _ _ _ e1 (by omega)
  have p2 := ev_kp _ _ _ _ _ _ e2 p1.2.1
  have L1 : CL h1 L S := p1.1.trans hL
  have o1 : isO h1 39 10 = true := p1.2.2 (so_39 w)
  have o0 : isO h 3 9 = true := so_3 w
  refine ⟨h2, ?_, i2, p2.1.trans L1, z1, z2⟩
  simp (disch := first | assumption | omega | exact aNl_I | exact aNl_Q | exact bl0 | exact bl1 | exact bl2 | exact bl3 | exact bl4 | exact aNl_U) only [u_W_law_478, u_W_law_479, u_W_law_482, u_W_law_483, u_W_law_486, u_W_law_489, u_W_law_490, u_W_law_1141, u_W_law_1144, wr_id, wr_ai, wr_fi, wr_wand, wr_wor, wr_wxor, wr_wshl, wr_wshr, wr_lt, wr_gt, Int.reduceEq, Int.reduceLT, Int.reduceLE, Int.reduceNeg, b01, b10, and_self, true_and, and_true, false_and, and_false, or_false, false_or, or_true, true_or, ite_not, not_true_eq_false, not_false_eq_true, kk_v, kk_0, reduceCtorEq, if_true, if_false, ite_true, ite_false, Option.some.injEq, gO_ok, gA_ok, isAR_A, eq_self, gB_t, o0, o1, e1, e2]
theorem wt_lines (iv : Inv h) (hL : CL h L S) (hS : ∀ j, inr (S j)) (hl : (L : Int) ≤ 2560) (h0 : 0 ≤ i) (h5 : i + 5 ≤ L) : ∃ h', WOut h h' L S i 491 := by
  have z := Sh_lt iv.1.1
  have w := iv.1.1
  have st : Step (ev 11 M_C_lines [aQ (some 3), aI (S (i + 1))]) (ev 11 M_R_lines [aQ (some 39), aI (S (i + 1))]) h := s_lines (d := 8) iv (hS (i + 1))
  obtain ⟨z0, h1, h2, e1, e2, i2, z1, z2⟩ := st
  have p1 := ev_kp _ _ _ _ _ _ e1 (by omega)
  have p2 := ev_kp _ _ _ _ _ _ e2 p1.2.1
  have L1 : CL h1 L S := p1.1.trans hL
  have o1 : isO h1 39 10 = true := p1.2.2 (so_39 w)
  have o0 : isO h 3 9 = true := so_3 w
  refine ⟨h2, ?_, i2, p2.1.trans L1, z1, z2⟩
  have a0 : isA h 0 = true := isA_c hL (by omega)
  have b0 : al h 0 = L := al_cA hL
  have d0 : ai h 0 = S := ai_cA hL
  have y1 : 3 ≤ aSz h1 := p1.2.1
  have a1 : isA h1 0 = true := isA_c L1 (by omega)
  have b1 : al h1 0 = L := al_cA L1
  have d1 : ai h1 0 = S := ai_cA L1
  simp (disch := first | assumption | omega | exact aNl_I | exact aNl_Q | exact bl0 | exact bl1 | exact bl2 | exact bl3 | exact bl4 | exact aNl_U) only [u_W_law_491, u_W_law_492, u_W_law_493, u_W_law_494, u_W_law_495, u_W_law_496, u_W_law_497, u_W_law_500, u_W_law_501, u_W_law_502, u_W_law_503, u_W_law_504, u_W_law_505, u_W_law_506, u_W_law_509, u_W_law_512, u_W_law_513, u_W_law_1141, u_W_law_1144, wr_id, wr_ai, wr_fi, wr_wand, wr_wor, wr_wxor, wr_wshl, wr_wshr, wr_lt, wr_gt, Int.reduceEq, Int.reduceLT, Int.reduceLE, Int.reduceNeg, b01, b10, and_self, true_and, and_true, false_and, and_false, or_false, false_or, or_true, true_or, ite_not, not_true_eq_false, not_false_eq_true, kk_v, kk_0, reduceCtorEq, if_true, if_false, ite_true, ite_false, Option.some.injEq, gO_ok, gA_ok, isAR_A, eq_self, gB_t, a0, a1, d0, d1, o0, o1, e1, e2]
theorem wt_line (iv : Inv h) (hL : CL h L S) (hS : ∀ j, inr (S j)) (hl : (L : Int) ≤ 2560) (h0 : 0 ≤ i) (h5 : i + 5 ≤ L) : ∃ h', WOut h h' L S i 514 := by
  have z := Sh_lt iv.1.1
  have w := iv.1.1
  have st : Step (ev 11 M_C_line [aQ (some 3), aI (S (i + 1)), aI (S (i + 2)), aI (S (i + 3))]) (ev 11 M_R_line [aQ (some 39), aI (S (i + 1)), aI (S (i + 2)), aI (S (i + 3))]) h := s_line (d := 8) iv (hS (i + 1)) (hS (i + 2)) (hS (i + 3))
  obtain ⟨z0, h1, h2, e1, e2, i2, z1, z2⟩ := st
  have p1 := ev_kp _ _ _ _ _ _ e1 (by omega)
  have p2 := ev_kp _ _ _ _ _ _ e2 p1.2.1
  have L1 : CL h1 L S := p1.1.trans hL
  have o1 : isO h1 39 10 = true := p1.2.2 (so_39 w)
  have o0 : isO h 3 9 = true := so_3 w
  refine ⟨h2, ?_, i2, p2.1.trans L1, z1, z2⟩
  have a0 : isA h 0 = true := isA_c hL (by omega)
  have b0 : al h 0 = L := al_cA hL
  have d0 : ai h 0 = S := ai_cA hL
  have y1 : 3 ≤ aSz h1 := p1.2.1
  have a1 : isA h1 0 = true := isA_c L1 (by omega)
  have b1 : al h1 0 = L := al_cA L1
  have d1 : ai h1 0 = S := ai_cA L1
  simp (disch := first | assumption | omega | exact aNl_I | exact aNl_Q | exact bl0 | exact bl1 | exact bl2 | exact bl3 | exact bl4 | exact aNl_U) only [u_W_law_514, u_W_law_515, u_W_law_516, u_W_law_517, u_W_law_518, u_W_law_519, u_W_law_520, u_W_law_521, u_W_law_522, u_W_law_523, u_W_law_524, u_W_law_525, u_W_law_526, u_W_law_527, u_W_law_528, u_W_law_529, u_W_law_530, u_W_law_533, u_W_law_534, u_W_law_535, u_W_law_536, u_W_law_537, u_W_law_538, u_W_law_539, u_W_law_540, u_W_law_541, u_W_law_542, u_W_law_543, u_W_law_544, u_W_law_545, u_W_law_546, u_W_law_547, u_W_law_548, u_W_law_549, u_W_law_552, u_W_law_555, u_W_law_556, u_W_law_1141, u_W_law_1144, wr_id, wr_ai, wr_fi, wr_wand, wr_wor, wr_wxor, wr_wshl, wr_wshr, wr_lt, wr_gt, Int.reduceEq, Int.reduceLT, Int.reduceLE, Int.reduceNeg, b01, b10, and_self, true_and, and_true, false_and, and_false, or_false, false_or, or_true, true_or, ite_not, not_true_eq_false, not_false_eq_true, kk_v, kk_0, reduceCtorEq, if_true, if_false, ite_true, ite_false, Option.some.injEq, gO_ok, gA_ok, isAR_A, eq_self, gB_t, a0, a1, d0, d1, o0, o1, e1, e2]
theorem wt_mark (iv : Inv h) (hL : CL h L S) (hS : ∀ j, inr (S j)) (hl : (L : Int) ≤ 2560) (h0 : 0 ≤ i) (h5 : i + 5 ≤ L) : ∃ h', WOut h h' L S i 557 := by
  have z := Sh_lt iv.1.1
  have w := iv.1.1
  have st : Step (ev 11 M_C_mark [aQ (some 3), aI (S (i + 1)), aI (S (i + 2)), aI (S (i + 3)), aI (S (i + 4))]) (ev 11 M_R_mark [aQ (some 39), aI (S (i + 1)), aI (S (i + 2)), aI (S (i + 3)), aI (S (i + 4))]) h := s_mark (d := 8) iv (hS (i + 1)) (hS (i + 2)) (hS (i + 3)) (hS (i + 4))
  obtain ⟨z0, h1, h2, e1, e2, i2, z1, z2⟩ := st
  have p1 := ev_kp _ _ _ _ _ _ e1 (by omega)
  have p2 := ev_kp _ _ _ _ _ _ e2 p1.2.1
  have L1 : CL h1 L S := p1.1.trans hL
  have o1 : isO h1 39 10 = true := p1.2.2 (so_39 w)
  have o0 : isO h 3 9 = true := so_3 w
  refine ⟨h2, ?_, i2, p2.1.trans L1, z1, z2⟩
  have a0 : isA h 0 = true := isA_c hL (by omega)
  have b0 : al h 0 = L := al_cA hL
  have d0 : ai h 0 = S := ai_cA hL
  have y1 : 3 ≤ aSz h1 := p1.2.1
  have a1 : isA h1 0 = true := isA_c L1 (by omega)
  have b1 : al h1 0 = L := al_cA L1
  have d1 : ai h1 0 = S := ai_cA L1
  simp (disch := first | assumption | omega | exact aNl_I | exact aNl_Q | exact bl0 | exact bl1 | exact bl2 | exact bl3 | exact bl4 | exact aNl_U) only [u_W_law_557, u_W_law_558, u_W_law_559, u_W_law_560, u_W_law_561, u_W_law_562, u_W_law_563, u_W_law_564, u_W_law_565, u_W_law_566, u_W_law_567, u_W_law_568, u_W_law_569, u_W_law_570, u_W_law_571, u_W_law_572, u_W_law_573, u_W_law_574, u_W_law_575, u_W_law_576, u_W_law_577, u_W_law_578, u_W_law_581, u_W_law_582, u_W_law_583, u_W_law_584, u_W_law_585, u_W_law_586, u_W_law_587, u_W_law_588, u_W_law_589, u_W_law_590, u_W_law_591, u_W_law_592, u_W_law_593, u_W_law_594, u_W_law_595, u_W_law_596, u_W_law_597, u_W_law_598, u_W_law_599, u_W_law_600, u_W_law_601, u_W_law_602, u_W_law_605, u_W_law_608, u_W_law_609, u_W_law_1141, u_W_law_1144, wr_id, wr_ai, wr_fi, wr_wand, wr_wor, wr_wxor, wr_wshl, wr_wshr, wr_lt, wr_gt, Int.reduceEq, Int.reduceLT, Int.reduceLE, Int.reduceNeg, b01, b10, and_self, true_and, and_true, false_and, and_false, or_false, false_or, or_true, true_or, ite_not, not_true_eq_false, not_false_eq_true, kk_v, kk_0, reduceCtorEq, if_true, if_false, ite_true, ite_false, Option.some.injEq, gO_ok, gA_ok, isAR_A, eq_self, gB_t, a0, a1, d0, d1, o0, o1, e1, e2]
theorem wt_changeTold (iv : Inv h) (hL : CL h L S) (hS : ∀ j, inr (S j)) (hl : (L : Int) ≤ 2560) (h0 : 0 ≤ i) (h5 : i + 5 ≤ L) : ∃ h', WOut h h' L S i 610 := by
  have z := Sh_lt iv.1.1
  have w := iv.1.1
  have st : Step (ev 11 M_C_changeTold [aQ (some 3), aI (S (i + 1)), aI (S (i + 2))]) (ev 11 M_R_changeTold [aQ (some 39), aI (S (i + 1)), aI (S (i + 2))]) h := s_changeTold (d := 8) iv (hS (i + 1)) (hS (i + 2))
  obtain ⟨z0, h1, h2, e1, e2, i2, z1, z2⟩ := st
  have p1 := ev_kp _ _ _ _ _ _ e1 (by omega)
  have p2 := ev_kp _ _ _ _ _ _ e2 p1.2.1
  have L1 : CL h1 L S := p1.1.trans hL
  have o1 : isO h1 39 10 = true := p1.2.2 (so_39 w)
  have o0 : isO h 3 9 = true := so_3 w
  refine ⟨h2, ?_, i2, p2.1.trans L1, z1, z2⟩
  have a0 : isA h 0 = true := isA_c hL (by omega)
  have b0 : al h 0 = L := al_cA hL
  have d0 : ai h 0 = S := ai_cA hL
  have y1 : 3 ≤ aSz h1 := p1.2.1
  have a1 : isA h1 0 = true := isA_c L1 (by omega)
  have b1 : al h1 0 = L := al_cA L1
  have d1 : ai h1 0 = S := ai_cA L1
  simp (disch := first | assumption | omega | exact aNl_I | exact aNl_Q | exact bl0 | exact bl1 | exact bl2 | exact bl3 | exact bl4 | exact aNl_U) only [u_W_law_610, u_W_law_611, u_W_law_612, u_W_law_613, u_W_law_614, u_W_law_615, u_W_law_616, u_W_law_617, u_W_law_618, u_W_law_619, u_W_law_620, u_W_law_621, u_W_law_624, u_W_law_625, u_W_law_626, u_W_law_627, u_W_law_628, u_W_law_629, u_W_law_630, u_W_law_631, u_W_law_632, u_W_law_633, u_W_law_634, u_W_law_635, u_W_law_638, u_W_law_641, u_W_law_642, u_W_law_1141, u_W_law_1144, wr_id, wr_ai, wr_fi, wr_wand, wr_wor, wr_wxor, wr_wshl, wr_wshr, wr_lt, wr_gt, Int.reduceEq, Int.reduceLT, Int.reduceLE, Int.reduceNeg, b01, b10, and_self, true_and, and_true, false_and, and_false, or_false, false_or, or_true, true_or, ite_not, not_true_eq_false, not_false_eq_true, kk_v, kk_0, reduceCtorEq, if_true, if_false, ite_true, ite_false, Option.some.injEq, gO_ok, gA_ok, isAR_A, eq_self, gB_t, a0, a1, d0, d1, o0, o1, e1, e2]
theorem wt_points (iv : Inv h) (hL : CL h L S) (hS : ∀ j, inr (S j)) (hl : (L : Int) ≤ 2560) (h0 : 0 ≤ i) (h5 : i + 5 ≤ L) : ∃ h', WOut h h' L S i 643 := by
  have z := Sh_lt iv.1.1
  have w := iv.1.1
  have st : Step (ev 11 M_C_points [aQ (some 3), aI (S (i + 1)), aI (S (i + 2)), aI (S (i + 3))]) (ev 11 M_R_points [aQ (some 39), aI (S (i + 1)), aI (S (i + 2)), aI (S (i + 3))]) h := s_points (d := 8) iv (hS (i + 1)) (hS (i + 2)) (hS (i + 3))
  obtain ⟨z0, h1, h2, e1, e2, i2, z1, z2⟩ := st
  have p1 := ev_kp _ _ _ _ _ _ e1 (by omega)
  have p2 := ev_kp _ _ _ _ _ _ e2 p1.2.1
  have L1 : CL h1 L S := p1.1.trans hL
  have o1 : isO h1 39 10 = true := p1.2.2 (so_39 w)
  have o0 : isO h 3 9 = true := so_3 w
  refine ⟨h2, ?_, i2, p2.1.trans L1, z1, z2⟩
  have a0 : isA h 0 = true := isA_c hL (by omega)
  have b0 : al h 0 = L := al_cA hL
  have d0 : ai h 0 = S := ai_cA hL
  have y1 : 3 ≤ aSz h1 := p1.2.1
  have a1 : isA h1 0 = true := isA_c L1 (by omega)
  have b1 : al h1 0 = L := al_cA L1
  have d1 : ai h1 0 = S := ai_cA L1
  simp (disch := first | assumption | omega | exact aNl_I | exact aNl_Q | exact bl0 | exact bl1 | exact bl2 | exact bl3 | exact bl4 | exact aNl_U) only [u_W_law_643, u_W_law_644, u_W_law_645, u_W_law_646, u_W_law_647, u_W_law_648, u_W_law_649, u_W_law_650, u_W_law_651, u_W_law_652, u_W_law_653, u_W_law_654, u_W_law_655, u_W_law_656, u_W_law_657, u_W_law_658, u_W_law_659, u_W_law_662, u_W_law_663, u_W_law_664, u_W_law_665, u_W_law_666, u_W_law_667, u_W_law_668, u_W_law_669, u_W_law_670, u_W_law_671, u_W_law_672, u_W_law_673, u_W_law_674, u_W_law_675, u_W_law_676, u_W_law_677, u_W_law_678, u_W_law_681, u_W_law_684, u_W_law_685, u_W_law_1141, u_W_law_1144, wr_id, wr_ai, wr_fi, wr_wand, wr_wor, wr_wxor, wr_wshl, wr_wshr, wr_lt, wr_gt, Int.reduceEq, Int.reduceLT, Int.reduceLE, Int.reduceNeg, b01, b10, and_self, true_and, and_true, false_and, and_false, or_false, false_or, or_true, true_or, ite_not, not_true_eq_false, not_false_eq_true, kk_v, kk_0, reduceCtorEq, if_true, if_false, ite_true, ite_false, Option.some.injEq, gO_ok, gA_ok, isAR_A, eq_self, gB_t, a0, a1, d0, d1, o0, o1, e1, e2]
theorem wt_knows (iv : Inv h) (hL : CL h L S) (hS : ∀ j, inr (S j)) (hl : (L : Int) ≤ 2560) (h0 : 0 ≤ i) (h5 : i + 5 ≤ L) : ∃ h', WOut h h' L S i 686 := by
  have z := Sh_lt iv.1.1
  have w := iv.1.1
  have st : Step (ev 11 M_C_knows [aQ (some 3), aI (S (i + 1)), aI (S (i + 2))]) (ev 11 M_R_knows [aQ (some 39), aI (S (i + 1)), aI (S (i + 2))]) h := s_knows (d := 8) iv (hS (i + 1)) (hS (i + 2))
  obtain ⟨z0, h1, h2, e1, e2, i2, z1, z2⟩ := st
  have p1 := ev_kp _ _ _ _ _ _ e1 (by omega)
  have p2 := ev_kp _ _ _ _ _ _ e2 p1.2.1
  have L1 : CL h1 L S := p1.1.trans hL
  have o1 : isO h1 39 10 = true := p1.2.2 (so_39 w)
  have o0 : isO h 3 9 = true := so_3 w
  refine ⟨h2, ?_, i2, p2.1.trans L1, z1, z2⟩
  have a0 : isA h 0 = true := isA_c hL (by omega)
  have b0 : al h 0 = L := al_cA hL
  have d0 : ai h 0 = S := ai_cA hL
  have y1 : 3 ≤ aSz h1 := p1.2.1
  have a1 : isA h1 0 = true := isA_c L1 (by omega)
  have b1 : al h1 0 = L := al_cA L1
  have d1 : ai h1 0 = S := ai_cA L1
  simp (disch := first | assumption | omega | exact aNl_I | exact aNl_Q | exact bl0 | exact bl1 | exact bl2 | exact bl3 | exact bl4 | exact aNl_U) only [u_W_law_686, u_W_law_687, u_W_law_688, u_W_law_689, u_W_law_690, u_W_law_691, u_W_law_692, u_W_law_693, u_W_law_694, u_W_law_695, u_W_law_696, u_W_law_697, u_W_law_700, u_W_law_701, u_W_law_702, u_W_law_703, u_W_law_704, u_W_law_705, u_W_law_706, u_W_law_707, u_W_law_708, u_W_law_709, u_W_law_710, u_W_law_711, u_W_law_714, u_W_law_717, u_W_law_718, u_W_law_1141, u_W_law_1144, wr_id, wr_ai, wr_fi, wr_wand, wr_wor, wr_wxor, wr_wshl, wr_wshr, wr_lt, wr_gt, Int.reduceEq, Int.reduceLT, Int.reduceLE, Int.reduceNeg, b01, b10, and_self, true_and, and_true, false_and, and_false, or_false, false_or, or_true, true_or, ite_not, not_true_eq_false, not_false_eq_true, kk_v, kk_0, reduceCtorEq, if_true, if_false, ite_true, ite_false, Option.some.injEq, gO_ok, gA_ok, isAR_A, eq_self, gB_t, a0, a1, d0, d1, o0, o1, e1, e2]
theorem wt_able (iv : Inv h) (hL : CL h L S) (hS : ∀ j, inr (S j)) (hl : (L : Int) ≤ 2560) (h0 : 0 ≤ i) (h5 : i + 5 ≤ L) : ∃ h', WOut h h' L S i 719 := by
  have z := Sh_lt iv.1.1
  have w := iv.1.1
  have st : Step (ev 11 M_C_able [aQ (some 3), aI (S (i + 1)), aI (S (i + 2))]) (ev 11 M_R_able [aQ (some 39), aI (S (i + 1)), aI (S (i + 2))]) h := s_able (d := 7) iv (hS (i + 1)) (hS (i + 2))
  obtain ⟨z0, h1, h2, e1, e2, i2, z1, z2⟩ := st
  have p1 := ev_kp _ _ _ _ _ _ e1 (by omega)
  have p2 := ev_kp _ _ _ _ _ _ e2 p1.2.1
  have L1 : CL h1 L S := p1.1.trans hL
  have o1 : isO h1 39 10 = true := p1.2.2 (so_39 w)
  have o0 : isO h 3 9 = true := so_3 w
  refine ⟨h2, ?_, i2, p2.1.trans L1, z1, z2⟩
  have a0 : isA h 0 = true := isA_c hL (by omega)
  have b0 : al h 0 = L := al_cA hL
  have d0 : ai h 0 = S := ai_cA hL
  have y1 : 3 ≤ aSz h1 := p1.2.1
  have a1 : isA h1 0 = true := isA_c L1 (by omega)
  have b1 : al h1 0 = L := al_cA L1
  have d1 : ai h1 0 = S := ai_cA L1
  simp (disch := first | assumption | omega | exact aNl_I | exact aNl_Q | exact bl0 | exact bl1 | exact bl2 | exact bl3 | exact bl4 | exact aNl_U) only [u_W_law_719, u_W_law_720, u_W_law_721, u_W_law_722, u_W_law_723, u_W_law_724, u_W_law_725, u_W_law_726, u_W_law_727, u_W_law_728, u_W_law_729, u_W_law_730, u_W_law_733, u_W_law_734, u_W_law_735, u_W_law_736, u_W_law_737, u_W_law_738, u_W_law_739, u_W_law_740, u_W_law_741, u_W_law_742, u_W_law_743, u_W_law_744, u_W_law_747, u_W_law_750, u_W_law_751, u_W_law_1141, u_W_law_1144, wr_id, wr_ai, wr_fi, wr_wand, wr_wor, wr_wxor, wr_wshl, wr_wshr, wr_lt, wr_gt, Int.reduceEq, Int.reduceLT, Int.reduceLE, Int.reduceNeg, b01, b10, and_self, true_and, and_true, false_and, and_false, or_false, false_or, or_true, true_or, ite_not, not_true_eq_false, not_false_eq_true, kk_v, kk_0, reduceCtorEq, if_true, if_false, ite_true, ite_false, Option.some.injEq, gO_ok, gA_ok, isAR_A, eq_self, gB_t, a0, a1, d0, d1, o0, o1, e1, e2]
theorem wt_lost (iv : Inv h) (hL : CL h L S) (hS : ∀ j, inr (S j)) (hl : (L : Int) ≤ 2560) (h0 : 0 ≤ i) (h5 : i + 5 ≤ L) : ∃ h', WOut h h' L S i 752 := by
  have z := Sh_lt iv.1.1
  have w := iv.1.1
  have st : Step (ev 11 M_C_lost [aQ (some 3), aI (S (i + 1))]) (ev 11 M_R_lost [aQ (some 39), aI (S (i + 1))]) h := s_lost (d := 6) iv (hS (i + 1))
  obtain ⟨z0, h1, h2, e1, e2, i2, z1, z2⟩ := st
  have p1 := ev_kp _ _ _ _ _ _ e1 (by omega)
  have p2 := ev_kp _ _ _ _ _ _ e2 p1.2.1
  have L1 : CL h1 L S := p1.1.trans hL
  have o1 : isO h1 39 10 = true := p1.2.2 (so_39 w)
  have o0 : isO h 3 9 = true := so_3 w
  refine ⟨h2, ?_, i2, p2.1.trans L1, z1, z2⟩
  have a0 : isA h 0 = true := isA_c hL (by omega)
  have b0 : al h 0 = L := al_cA hL
  have d0 : ai h 0 = S := ai_cA hL
  have y1 : 3 ≤ aSz h1 := p1.2.1
  have a1 : isA h1 0 = true := isA_c L1 (by omega)
  have b1 : al h1 0 = L := al_cA L1
  have d1 : ai h1 0 = S := ai_cA L1
  simp (disch := first | assumption | omega | exact aNl_I | exact aNl_Q | exact bl0 | exact bl1 | exact bl2 | exact bl3 | exact bl4 | exact aNl_U) only [u_W_law_752, u_W_law_753, u_W_law_754, u_W_law_755, u_W_law_756, u_W_law_757, u_W_law_758, u_W_law_761, u_W_law_762, u_W_law_763, u_W_law_764, u_W_law_765, u_W_law_766, u_W_law_767, u_W_law_770, u_W_law_773, u_W_law_774, u_W_law_1141, u_W_law_1144, wr_id, wr_ai, wr_fi, wr_wand, wr_wor, wr_wxor, wr_wshl, wr_wshr, wr_lt, wr_gt, Int.reduceEq, Int.reduceLT, Int.reduceLE, Int.reduceNeg, b01, b10, and_self, true_and, and_true, false_and, and_false, or_false, false_or, or_true, true_or, ite_not, not_true_eq_false, not_false_eq_true, kk_v, kk_0, reduceCtorEq, if_true, if_false, ite_true, ite_false, Option.some.injEq, gO_ok, gA_ok, isAR_A, eq_self, gB_t, a0, a1, d0, d1, o0, o1, e1, e2]
theorem wt_lone (iv : Inv h) (hL : CL h L S) (hS : ∀ j, inr (S j)) (hl : (L : Int) ≤ 2560) (h0 : 0 ≤ i) (h5 : i + 5 ≤ L) : ∃ h', WOut h h' L S i 775 := by
  have z := Sh_lt iv.1.1
  have w := iv.1.1
  have st : Step (ev 11 M_C_lone [aQ (some 3), aI (S (i + 1))]) (ev 11 M_R_lone [aQ (some 39), aI (S (i + 1))]) h := s_lone (d := 5) iv (hS (i + 1))
  obtain ⟨z0, h1, h2, e1, e2, i2, z1, z2⟩ := st
  have p1 := ev_kp _ _ _ _ _ _ e1 (by omega)
  have p2 := ev_kp _ _ _ _ _ _ e2 p1.2.1
  have L1 : CL h1 L S := p1.1.trans hL
  have o1 : isO h1 39 10 = true := p1.2.2 (so_39 w)
  have o0 : isO h 3 9 = true := so_3 w
  refine ⟨h2, ?_, i2, p2.1.trans L1, z1, z2⟩
  have a0 : isA h 0 = true := isA_c hL (by omega)
  have b0 : al h 0 = L := al_cA hL
  have d0 : ai h 0 = S := ai_cA hL
  have y1 : 3 ≤ aSz h1 := p1.2.1
  have a1 : isA h1 0 = true := isA_c L1 (by omega)
  have b1 : al h1 0 = L := al_cA L1
  have d1 : ai h1 0 = S := ai_cA L1
  simp (disch := first | assumption | omega | exact aNl_I | exact aNl_Q | exact bl0 | exact bl1 | exact bl2 | exact bl3 | exact bl4 | exact aNl_U) only [u_W_law_775, u_W_law_776, u_W_law_777, u_W_law_778, u_W_law_779, u_W_law_780, u_W_law_781, u_W_law_784, u_W_law_785, u_W_law_786, u_W_law_787, u_W_law_788, u_W_law_789, u_W_law_790, u_W_law_793, u_W_law_796, u_W_law_797, u_W_law_1141, u_W_law_1144, wr_id, wr_ai, wr_fi, wr_wand, wr_wor, wr_wxor, wr_wshl, wr_wshr, wr_lt, wr_gt, Int.reduceEq, Int.reduceLT, Int.reduceLE, Int.reduceNeg, b01, b10, and_self, true_and, and_true, false_and, and_false, or_false, false_or, or_true, true_or, ite_not, not_true_eq_false, not_false_eq_true, kk_v, kk_0, reduceCtorEq, if_true, if_false, ite_true, ite_false, Option.some.injEq, gO_ok, gA_ok, isAR_A, eq_self, gB_t, a0, a1, d0, d1, o0, o1, e1, e2]
theorem wt_cover (iv : Inv h) (hL : CL h L S) (hS : ∀ j, inr (S j)) (hl : (L : Int) ≤ 2560) (h0 : 0 ≤ i) (h5 : i + 5 ≤ L) : ∃ h', WOut h h' L S i 798 := by
  have z := Sh_lt iv.1.1
  have w := iv.1.1
  have st : Step (ev 11 M_C_cover [aQ (some 3)]) (ev 11 M_R_cover [aQ (some 39)]) h := s_cover (d := 6) iv 
  obtain ⟨z0, h1, h2, e1, e2, i2, z1, z2⟩ := st
  have p1 := ev_kp _ _ _ _ _ _ e1 (by omega)
  have p2 := ev_kp _ _ _ _ _ _ e2 p1.2.1
  have L1 : CL h1 L S := p1.1.trans hL
  have o1 : isO h1 39 10 = true := p1.2.2 (so_39 w)
  have o0 : isO h 3 9 = true := so_3 w
  refine ⟨h2, ?_, i2, p2.1.trans L1, z1, z2⟩
  simp (disch := first | assumption | omega | exact aNl_I | exact aNl_Q | exact bl0 | exact bl1 | exact bl2 | exact bl3 | exact bl4 | exact aNl_U) only [u_W_law_798, u_W_law_799, u_W_law_802, u_W_law_803, u_W_law_806, u_W_law_809, u_W_law_810, u_W_law_1141, u_W_law_1144, wr_id, wr_ai, wr_fi, wr_wand, wr_wor, wr_wxor, wr_wshl, wr_wshr, wr_lt, wr_gt, Int.reduceEq, Int.reduceLT, Int.reduceLE, Int.reduceNeg, b01, b10, and_self, true_and, and_true, false_and, and_false, or_false, false_or, or_true, true_or, ite_not, not_true_eq_false, not_false_eq_true, kk_v, kk_0, reduceCtorEq, if_true, if_false, ite_true, ite_false, Option.some.injEq, gO_ok, gA_ok, isAR_A, eq_self, gB_t, o0, o1, e1, e2]
theorem wt_plan (iv : Inv h) (hL : CL h L S) (hS : ∀ j, inr (S j)) (hl : (L : Int) ≤ 2560) (h0 : 0 ≤ i) (h5 : i + 5 ≤ L) : ∃ h', WOut h h' L S i 811 := by
  have z := Sh_lt iv.1.1
  have w := iv.1.1
  have st : Step (ev 11 M_C_plan [aQ (some 3), aI (S (i + 1)), aI (S (i + 2))]) (ev 11 M_R_plan [aQ (some 39), aI (S (i + 1)), aI (S (i + 2))]) h := s_plan (d := 4) iv (hS (i + 1)) (hS (i + 2))
  obtain ⟨z0, h1, h2, e1, e2, i2, z1, z2⟩ := st
  have p1 := ev_kp _ _ _ _ _ _ e1 (by omega)
  have p2 := ev_kp _ _ _ _ _ _ e2 p1.2.1
  have L1 : CL h1 L S := p1.1.trans hL
  have o1 : isO h1 39 10 = true := p1.2.2 (so_39 w)
  have o0 : isO h 3 9 = true := so_3 w
  refine ⟨h2, ?_, i2, p2.1.trans L1, z1, z2⟩
  have a0 : isA h 0 = true := isA_c hL (by omega)
  have b0 : al h 0 = L := al_cA hL
  have d0 : ai h 0 = S := ai_cA hL
  have y1 : 3 ≤ aSz h1 := p1.2.1
  have a1 : isA h1 0 = true := isA_c L1 (by omega)
  have b1 : al h1 0 = L := al_cA L1
  have d1 : ai h1 0 = S := ai_cA L1
  simp (disch := first | assumption | omega | exact aNl_I | exact aNl_Q | exact bl0 | exact bl1 | exact bl2 | exact bl3 | exact bl4 | exact aNl_U) only [u_W_law_811, u_W_law_812, u_W_law_813, u_W_law_814, u_W_law_815, u_W_law_816, u_W_law_817, u_W_law_818, u_W_law_819, u_W_law_820, u_W_law_821, u_W_law_822, u_W_law_825, u_W_law_826, u_W_law_827, u_W_law_828, u_W_law_829, u_W_law_830, u_W_law_831, u_W_law_832, u_W_law_833, u_W_law_834, u_W_law_835, u_W_law_836, u_W_law_839, u_W_law_842, u_W_law_843, u_W_law_1141, u_W_law_1144, wr_id, wr_ai, wr_fi, wr_wand, wr_wor, wr_wxor, wr_wshl, wr_wshr, wr_lt, wr_gt, Int.reduceEq, Int.reduceLT, Int.reduceLE, Int.reduceNeg, b01, b10, and_self, true_and, and_true, false_and, and_false, or_false, false_or, or_true, true_or, ite_not, not_true_eq_false, not_false_eq_true, kk_v, kk_0, reduceCtorEq, if_true, if_false, ite_true, ite_false, Option.some.injEq, gO_ok, gA_ok, isAR_A, eq_self, gB_t, a0, a1, d0, d1, o0, o1, e1, e2]
theorem wt_sum (iv : Inv h) (hL : CL h L S) (hS : ∀ j, inr (S j)) (hl : (L : Int) ≤ 2560) (h0 : 0 ≤ i) (h5 : i + 5 ≤ L) : ∃ h', WOut h h' L S i 844 := by
  have z := Sh_lt iv.1.1
  have w := iv.1.1
  have st : Step (ev 11 M_C_sum [aQ (some 3), aI (S (i + 1)), aI (S (i + 2))]) (ev 11 M_R_sum [aQ (some 39), aI (S (i + 1)), aI (S (i + 2))]) h := s_sum (d := 8) iv (hS (i + 1)) (hS (i + 2))
  obtain ⟨z0, h1, h2, e1, e2, i2, z1, z2⟩ := st
  have p1 := ev_kp _ _ _ _ _ _ e1 (by omega)
  have p2 := ev_kp _ _ _ _ _ _ e2 p1.2.1
  have L1 : CL h1 L S := p1.1.trans hL
  have o1 : isO h1 39 10 = true := p1.2.2 (so_39 w)
  have o0 : isO h 3 9 = true := so_3 w
  refine ⟨h2, ?_, i2, p2.1.trans L1, z1, z2⟩
  have a0 : isA h 0 = true := isA_c hL (by omega)
  have b0 : al h 0 = L := al_cA hL
  have d0 : ai h 0 = S := ai_cA hL
  have y1 : 3 ≤ aSz h1 := p1.2.1
  have a1 : isA h1 0 = true := isA_c L1 (by omega)
  have b1 : al h1 0 = L := al_cA L1
  have d1 : ai h1 0 = S := ai_cA L1
  simp (disch := first | assumption | omega | exact aNl_I | exact aNl_Q | exact bl0 | exact bl1 | exact bl2 | exact bl3 | exact bl4 | exact aNl_U) only [u_W_law_844, u_W_law_845, u_W_law_846, u_W_law_847, u_W_law_848, u_W_law_849, u_W_law_850, u_W_law_851, u_W_law_852, u_W_law_853, u_W_law_854, u_W_law_855, u_W_law_858, u_W_law_859, u_W_law_860, u_W_law_861, u_W_law_862, u_W_law_863, u_W_law_864, u_W_law_865, u_W_law_866, u_W_law_867, u_W_law_868, u_W_law_869, u_W_law_872, u_W_law_875, u_W_law_876, u_W_law_1141, u_W_law_1144, wr_id, wr_ai, wr_fi, wr_wand, wr_wor, wr_wxor, wr_wshl, wr_wshr, wr_lt, wr_gt, Int.reduceEq, Int.reduceLT, Int.reduceLE, Int.reduceNeg, b01, b10, and_self, true_and, and_true, false_and, and_false, or_false, false_or, or_true, true_or, ite_not, not_true_eq_false, not_false_eq_true, kk_v, kk_0, reduceCtorEq, if_true, if_false, ite_true, ite_false, Option.some.injEq, gO_ok, gA_ok, isAR_A, eq_self, gB_t, a0, a1, d0, d1, o0, o1, e1, e2]
theorem wt_count (iv : Inv h) (hL : CL h L S) (hS : ∀ j, inr (S j)) (hl : (L : Int) ≤ 2560) (h0 : 0 ≤ i) (h5 : i + 5 ≤ L) : ∃ h', WOut h h' L S i 877 := by
  have z := Sh_lt iv.1.1
  have w := iv.1.1
  have st : Step (ev 11 M_C_count [aQ (some 3), aI (S (i + 1))]) (ev 11 M_R_count [aQ (some 39), aI (S (i + 1))]) h := s_count (d := 5) iv (hS (i + 1))
  obtain ⟨z0, h1, h2, e1, e2, i2, z1, z2⟩ := st
  have p1 := ev_kp _ _ _ _ _ _ e1 (by omega)
  have p2 := ev_kp _ _ _ _ _ _ e2 p1.2.1
  have L1 : CL h1 L S := p1.1.trans hL
  have o1 : isO h1 39 10 = true := p1.2.2 (so_39 w)
  have o0 : isO h 3 9 = true := so_3 w
  refine ⟨h2, ?_, i2, p2.1.trans L1, z1, z2⟩
  have a0 : isA h 0 = true := isA_c hL (by omega)
  have b0 : al h 0 = L := al_cA hL
  have d0 : ai h 0 = S := ai_cA hL
  have y1 : 3 ≤ aSz h1 := p1.2.1
  have a1 : isA h1 0 = true := isA_c L1 (by omega)
  have b1 : al h1 0 = L := al_cA L1
  have d1 : ai h1 0 = S := ai_cA L1
  simp (disch := first | assumption | omega | exact aNl_I | exact aNl_Q | exact bl0 | exact bl1 | exact bl2 | exact bl3 | exact bl4 | exact aNl_U) only [u_W_law_877, u_W_law_878, u_W_law_879, u_W_law_880, u_W_law_881, u_W_law_882, u_W_law_883, u_W_law_886, u_W_law_887, u_W_law_888, u_W_law_889, u_W_law_890, u_W_law_891, u_W_law_892, u_W_law_895, u_W_law_898, u_W_law_899, u_W_law_1141, u_W_law_1144, wr_id, wr_ai, wr_fi, wr_wand, wr_wor, wr_wxor, wr_wshl, wr_wshr, wr_lt, wr_gt, Int.reduceEq, Int.reduceLT, Int.reduceLE, Int.reduceNeg, b01, b10, and_self, true_and, and_true, false_and, and_false, or_false, false_or, or_true, true_or, ite_not, not_true_eq_false, not_false_eq_true, kk_v, kk_0, reduceCtorEq, if_true, if_false, ite_true, ite_false, Option.some.injEq, gO_ok, gA_ok, isAR_A, eq_self, gB_t, a0, a1, d0, d1, o0, o1, e1, e2]
theorem wt_act (iv : Inv h) (hL : CL h L S) (hS : ∀ j, inr (S j)) (hl : (L : Int) ≤ 2560) (h0 : 0 ≤ i) (h5 : i + 5 ≤ L) : ∃ h', WOut h h' L S i 900 := by
  have z := Sh_lt iv.1.1
  have w := iv.1.1
  have st : Step (ev 11 M_C_act [aQ (some 3), aI (S (i + 1)), aI (S (i + 2)), aI (S (i + 3))]) (ev 11 M_R_act [aQ (some 39), aI (S (i + 1)), aI (S (i + 2)), aI (S (i + 3))]) h := s_act (d := 0) iv (hS (i + 1)) (hS (i + 2)) (hS (i + 3))
  obtain ⟨z0, h1, h2, e1, e2, i2, z1, z2⟩ := st
  have p1 := ev_kp _ _ _ _ _ _ e1 (by omega)
  have p2 := ev_kp _ _ _ _ _ _ e2 p1.2.1
  have L1 : CL h1 L S := p1.1.trans hL
  have o1 : isO h1 39 10 = true := p1.2.2 (so_39 w)
  have o0 : isO h 3 9 = true := so_3 w
  refine ⟨h2, ?_, i2, p2.1.trans L1, z1, z2⟩
  have a0 : isA h 0 = true := isA_c hL (by omega)
  have b0 : al h 0 = L := al_cA hL
  have d0 : ai h 0 = S := ai_cA hL
  have y1 : 3 ≤ aSz h1 := p1.2.1
  have a1 : isA h1 0 = true := isA_c L1 (by omega)
  have b1 : al h1 0 = L := al_cA L1
  have d1 : ai h1 0 = S := ai_cA L1
  simp (disch := first | assumption | omega | exact aNl_I | exact aNl_Q | exact bl0 | exact bl1 | exact bl2 | exact bl3 | exact bl4 | exact aNl_U) only [u_W_law_900, u_W_law_901, u_W_law_902, u_W_law_903, u_W_law_904, u_W_law_905, u_W_law_906, u_W_law_907, u_W_law_908, u_W_law_909, u_W_law_910, u_W_law_911, u_W_law_912, u_W_law_913, u_W_law_914, u_W_law_915, u_W_law_916, u_W_law_919, u_W_law_920, u_W_law_921, u_W_law_922, u_W_law_923, u_W_law_924, u_W_law_925, u_W_law_926, u_W_law_927, u_W_law_928, u_W_law_929, u_W_law_930, u_W_law_931, u_W_law_932, u_W_law_933, u_W_law_934, u_W_law_935, u_W_law_938, u_W_law_941, u_W_law_942, u_W_law_1141, u_W_law_1144, wr_id, wr_ai, wr_fi, wr_wand, wr_wor, wr_wxor, wr_wshl, wr_wshr, wr_lt, wr_gt, Int.reduceEq, Int.reduceLT, Int.reduceLE, Int.reduceNeg, b01, b10, and_self, true_and, and_true, false_and, and_false, or_false, false_or, or_true, true_or, ite_not, not_true_eq_false, not_false_eq_true, kk_v, kk_0, reduceCtorEq, if_true, if_false, ite_true, ite_false, Option.some.injEq, gO_ok, gA_ok, isAR_A, eq_self, gB_t, a0, a1, d0, d1, o0, o1, e1, e2]
theorem wt_trace (iv : Inv h) (hL : CL h L S) (hS : ∀ j, inr (S j)) (hl : (L : Int) ≤ 2560) (h0 : 0 ≤ i) (h5 : i + 5 ≤ L) : ∃ h', WOut h h' L S i 943 := by
  have z := Sh_lt iv.1.1
  have w := iv.1.1
  have st : Step (ev 11 M_C_trace [aQ (some 3), aI (S (i + 1))]) (ev 11 M_R_trace [aQ (some 39), aI (S (i + 1))]) h := s_trace (d := 8) iv (hS (i + 1))
  obtain ⟨z0, h1, h2, e1, e2, i2, z1, z2⟩ := st
  have p1 := ev_kp _ _ _ _ _ _ e1 (by omega)
  have p2 := ev_kp _ _ _ _ _ _ e2 p1.2.1
  have L1 : CL h1 L S := p1.1.trans hL
  have o1 : isO h1 39 10 = true := p1.2.2 (so_39 w)
  have o0 : isO h 3 9 = true := so_3 w
  refine ⟨h2, ?_, i2, p2.1.trans L1, z1, z2⟩
  have a0 : isA h 0 = true := isA_c hL (by omega)
  have b0 : al h 0 = L := al_cA hL
  have d0 : ai h 0 = S := ai_cA hL
  have y1 : 3 ≤ aSz h1 := p1.2.1
  have a1 : isA h1 0 = true := isA_c L1 (by omega)
  have b1 : al h1 0 = L := al_cA L1
  have d1 : ai h1 0 = S := ai_cA L1
  simp (disch := first | assumption | omega | exact aNl_I | exact aNl_Q | exact bl0 | exact bl1 | exact bl2 | exact bl3 | exact bl4 | exact aNl_U) only [u_W_law_943, u_W_law_944, u_W_law_945, u_W_law_946, u_W_law_947, u_W_law_948, u_W_law_949, u_W_law_952, u_W_law_953, u_W_law_954, u_W_law_955, u_W_law_956, u_W_law_957, u_W_law_958, u_W_law_961, u_W_law_964, u_W_law_965, u_W_law_1141, u_W_law_1144, wr_id, wr_ai, wr_fi, wr_wand, wr_wor, wr_wxor, wr_wshl, wr_wshr, wr_lt, wr_gt, Int.reduceEq, Int.reduceLT, Int.reduceLE, Int.reduceNeg, b01, b10, and_self, true_and, and_true, false_and, and_false, or_false, false_or, or_true, true_or, ite_not, not_true_eq_false, not_false_eq_true, kk_v, kk_0, reduceCtorEq, if_true, if_false, ite_true, ite_false, Option.some.injEq, gO_ok, gA_ok, isAR_A, eq_self, gB_t, a0, a1, d0, d1, o0, o1, e1, e2]
theorem wt_sheet (iv : Inv h) (hL : CL h L S) (hS : ∀ j, inr (S j)) (hl : (L : Int) ≤ 2560) (h0 : 0 ≤ i) (h5 : i + 5 ≤ L) : ∃ h', WOut h h' L S i 966 := by
  have z := Sh_lt iv.1.1
  have w := iv.1.1
  have st : Step (ev 11 M_C_sheet [aQ (some 3), aI (S (i + 1)), aI (S (i + 2)), aI (S (i + 3))]) (ev 11 M_R_sheet [aQ (some 39), aI (S (i + 1)), aI (S (i + 2)), aI (S (i + 3))]) h := s_sheet (d := 8) iv (hS (i + 1)) (hS (i + 2)) (hS (i + 3))
  obtain ⟨z0, h1, h2, e1, e2, i2, z1, z2⟩ := st
  have p1 := ev_kp _ _ _ _ _ _ e1 (by omega)
  have p2 := ev_kp _ _ _ _ _ _ e2 p1.2.1
  have L1 : CL h1 L S := p1.1.trans hL
  have o1 : isO h1 39 10 = true := p1.2.2 (so_39 w)
  have o0 : isO h 3 9 = true := so_3 w
  refine ⟨h2, ?_, i2, p2.1.trans L1, z1, z2⟩
  have a0 : isA h 0 = true := isA_c hL (by omega)
  have b0 : al h 0 = L := al_cA hL
  have d0 : ai h 0 = S := ai_cA hL
  have y1 : 3 ≤ aSz h1 := p1.2.1
  have a1 : isA h1 0 = true := isA_c L1 (by omega)
  have b1 : al h1 0 = L := al_cA L1
  have d1 : ai h1 0 = S := ai_cA L1
  simp (disch := first | assumption | omega | exact aNl_I | exact aNl_Q | exact bl0 | exact bl1 | exact bl2 | exact bl3 | exact bl4 | exact aNl_U) only [u_W_law_966, u_W_law_967, u_W_law_968, u_W_law_969, u_W_law_970, u_W_law_971, u_W_law_972, u_W_law_973, u_W_law_974, u_W_law_975, u_W_law_976, u_W_law_977, u_W_law_978, u_W_law_979, u_W_law_980, u_W_law_981, u_W_law_982, u_W_law_985, u_W_law_986, u_W_law_987, u_W_law_988, u_W_law_989, u_W_law_990, u_W_law_991, u_W_law_992, u_W_law_993, u_W_law_994, u_W_law_995, u_W_law_996, u_W_law_997, u_W_law_998, u_W_law_999, u_W_law_1000, u_W_law_1001, u_W_law_1004, u_W_law_1007, u_W_law_1008, u_W_law_1141, u_W_law_1144, wr_id, wr_ai, wr_fi, wr_wand, wr_wor, wr_wxor, wr_wshl, wr_wshr, wr_lt, wr_gt, Int.reduceEq, Int.reduceLT, Int.reduceLE, Int.reduceNeg, b01, b10, and_self, true_and, and_true, false_and, and_false, or_false, false_or, or_true, true_or, ite_not, not_true_eq_false, not_false_eq_true, kk_v, kk_0, reduceCtorEq, if_true, if_false, ite_true, ite_false, Option.some.injEq, gO_ok, gA_ok, isAR_A, eq_self, gB_t, a0, a1, d0, d1, o0, o1, e1, e2]
theorem wt_cell (iv : Inv h) (hL : CL h L S) (hS : ∀ j, inr (S j)) (hl : (L : Int) ≤ 2560) (h0 : 0 ≤ i) (h5 : i + 5 ≤ L) : ∃ h', WOut h h' L S i 1009 := by
  have z := Sh_lt iv.1.1
  have w := iv.1.1
  have st : Step (ev 11 M_C_cell [aQ (some 3), aI (S (i + 1)), aI (S (i + 2)), aI (S (i + 3))]) (ev 11 M_R_cell [aQ (some 39), aI (S (i + 1)), aI (S (i + 2)), aI (S (i + 3))]) h := s_cell (d := 8) iv (hS (i + 1)) (hS (i + 2)) (hS (i + 3))
  obtain ⟨z0, h1, h2, e1, e2, i2, z1, z2⟩ := st
  have p1 := ev_kp _ _ _ _ _ _ e1 (by omega)
  have p2 := ev_kp _ _ _ _ _ _ e2 p1.2.1
  have L1 : CL h1 L S := p1.1.trans hL
  have o1 : isO h1 39 10 = true := p1.2.2 (so_39 w)
  have o0 : isO h 3 9 = true := so_3 w
  refine ⟨h2, ?_, i2, p2.1.trans L1, z1, z2⟩
  have a0 : isA h 0 = true := isA_c hL (by omega)
  have b0 : al h 0 = L := al_cA hL
  have d0 : ai h 0 = S := ai_cA hL
  have y1 : 3 ≤ aSz h1 := p1.2.1
  have a1 : isA h1 0 = true := isA_c L1 (by omega)
  have b1 : al h1 0 = L := al_cA L1
  have d1 : ai h1 0 = S := ai_cA L1
  simp (disch := first | assumption | omega | exact aNl_I | exact aNl_Q | exact bl0 | exact bl1 | exact bl2 | exact bl3 | exact bl4 | exact aNl_U) only [u_W_law_1009, u_W_law_1010, u_W_law_1011, u_W_law_1012, u_W_law_1013, u_W_law_1014, u_W_law_1015, u_W_law_1016, u_W_law_1017, u_W_law_1018, u_W_law_1019, u_W_law_1020, u_W_law_1021, u_W_law_1022, u_W_law_1023, u_W_law_1024, u_W_law_1025, u_W_law_1028, u_W_law_1029, u_W_law_1030, u_W_law_1031, u_W_law_1032, u_W_law_1033, u_W_law_1034, u_W_law_1035, u_W_law_1036, u_W_law_1037, u_W_law_1038, u_W_law_1039, u_W_law_1040, u_W_law_1041, u_W_law_1042, u_W_law_1043, u_W_law_1044, u_W_law_1047, u_W_law_1050, u_W_law_1051, u_W_law_1141, u_W_law_1144, wr_id, wr_ai, wr_fi, wr_wand, wr_wor, wr_wxor, wr_wshl, wr_wshr, wr_lt, wr_gt, Int.reduceEq, Int.reduceLT, Int.reduceLE, Int.reduceNeg, b01, b10, and_self, true_and, and_true, false_and, and_false, or_false, false_or, or_true, true_or, ite_not, not_true_eq_false, not_false_eq_true, kk_v, kk_0, reduceCtorEq, if_true, if_false, ite_true, ite_false, Option.some.injEq, gO_ok, gA_ok, isAR_A, eq_self, gB_t, a0, a1, d0, d1, o0, o1, e1, e2]
theorem wt_come (iv : Inv h) (hL : CL h L S) (hS : ∀ j, inr (S j)) (hl : (L : Int) ≤ 2560) (h0 : 0 ≤ i) (h5 : i + 5 ≤ L) : ∃ h', WOut h h' L S i 1052 := by
  have z := Sh_lt iv.1.1
  have w := iv.1.1
  have st : Step (ev 11 M_C_come [aQ (some 3), aI (S (i + 1)), aI (S (i + 2))]) (ev 11 M_R_come [aQ (some 39), aI (S (i + 1)), aI (S (i + 2))]) h := s_come (d := 8) iv (hS (i + 1)) (hS (i + 2))
  obtain ⟨z0, h1, h2, e1, e2, i2, z1, z2⟩ := st
  have p1 := ev_kp _ _ _ _ _ _ e1 (by omega)
  have p2 := ev_kp _ _ _ _ _ _ e2 p1.2.1
  have L1 : CL h1 L S := p1.1.trans hL
  have o1 : isO h1 39 10 = true := p1.2.2 (so_39 w)
  have o0 : isO h 3 9 = true := so_3 w
  refine ⟨h2, ?_, i2, p2.1.trans L1, z1, z2⟩
  have a0 : isA h 0 = true := isA_c hL (by omega)
  have b0 : al h 0 = L := al_cA hL
  have d0 : ai h 0 = S := ai_cA hL
  have y1 : 3 ≤ aSz h1 := p1.2.1
  have a1 : isA h1 0 = true := isA_c L1 (by omega)
  have b1 : al h1 0 = L := al_cA L1
  have d1 : ai h1 0 = S := ai_cA L1
  simp (disch := first | assumption | omega | exact aNl_I | exact aNl_Q | exact bl0 | exact bl1 | exact bl2 | exact bl3 | exact bl4 | exact aNl_U) only [u_W_law_1052, u_W_law_1053, u_W_law_1054, u_W_law_1055, u_W_law_1056, u_W_law_1057, u_W_law_1058, u_W_law_1059, u_W_law_1060, u_W_law_1061, u_W_law_1062, u_W_law_1063, u_W_law_1066, u_W_law_1067, u_W_law_1068, u_W_law_1069, u_W_law_1070, u_W_law_1071, u_W_law_1072, u_W_law_1073, u_W_law_1074, u_W_law_1075, u_W_law_1076, u_W_law_1077, u_W_law_1080, u_W_law_1083, u_W_law_1084, u_W_law_1141, u_W_law_1144, wr_id, wr_ai, wr_fi, wr_wand, wr_wor, wr_wxor, wr_wshl, wr_wshr, wr_lt, wr_gt, Int.reduceEq, Int.reduceLT, Int.reduceLE, Int.reduceNeg, b01, b10, and_self, true_and, and_true, false_and, and_false, or_false, false_or, or_true, true_or, ite_not, not_true_eq_false, not_false_eq_true, kk_v, kk_0, reduceCtorEq, if_true, if_false, ite_true, ite_false, Option.some.injEq, gO_ok, gA_ok, isAR_A, eq_self, gB_t, a0, a1, d0, d1, o0, o1, e1, e2]
theorem wt_forge (iv : Inv h) (hL : CL h L S) (hS : ∀ j, inr (S j)) (hl : (L : Int) ≤ 2560) (h0 : 0 ≤ i) (h5 : i + 5 ≤ L) : ∃ h', WOut h h' L S i 1085 := by
  have z := Sh_lt iv.1.1
  have w := iv.1.1
  have st : Step (ev 11 M_C_forge [aQ (some 3), aI (S (i + 1)), aI (S (i + 2)), aI (S (i + 3))]) (ev 11 M_R_forge [aQ (some 39), aI (S (i + 1)), aI (S (i + 2)), aI (S (i + 3))]) h := s_forge (d := 8) iv (hS (i + 1)) (hS (i + 2)) (hS (i + 3))
  obtain ⟨z0, h1, h2, e1, e2, i2, z1, z2⟩ := st
  have p1 := ev_kp _ _ _ _ _ _ e1 (by omega)
  have p2 := ev_kp _ _ _ _ _ _ e2 p1.2.1
  have L1 : CL h1 L S := p1.1.trans hL
  have o1 : isO h1 39 10 = true := p1.2.2 (so_39 w)
  have o0 : isO h 3 9 = true := so_3 w
  refine ⟨h2, ?_, i2, p2.1.trans L1, z1, z2⟩
  have a0 : isA h 0 = true := isA_c hL (by omega)
  have b0 : al h 0 = L := al_cA hL
  have d0 : ai h 0 = S := ai_cA hL
  have y1 : 3 ≤ aSz h1 := p1.2.1
  have a1 : isA h1 0 = true := isA_c L1 (by omega)
  have b1 : al h1 0 = L := al_cA L1
  have d1 : ai h1 0 = S := ai_cA L1
  simp (disch := first | assumption | omega | exact aNl_I | exact aNl_Q | exact bl0 | exact bl1 | exact bl2 | exact bl3 | exact bl4 | exact aNl_U) only [u_W_law_1085, u_W_law_1086, u_W_law_1087, u_W_law_1088, u_W_law_1089, u_W_law_1090, u_W_law_1091, u_W_law_1092, u_W_law_1093, u_W_law_1094, u_W_law_1095, u_W_law_1096, u_W_law_1097, u_W_law_1098, u_W_law_1099, u_W_law_1100, u_W_law_1101, u_W_law_1104, u_W_law_1105, u_W_law_1106, u_W_law_1107, u_W_law_1108, u_W_law_1109, u_W_law_1110, u_W_law_1111, u_W_law_1112, u_W_law_1113, u_W_law_1114, u_W_law_1115, u_W_law_1116, u_W_law_1117, u_W_law_1118, u_W_law_1119, u_W_law_1120, u_W_law_1123, u_W_law_1126, u_W_law_1127, u_W_law_1141, u_W_law_1144, wr_id, wr_ai, wr_fi, wr_wand, wr_wor, wr_wxor, wr_wshl, wr_wshr, wr_lt, wr_gt, Int.reduceEq, Int.reduceLT, Int.reduceLE, Int.reduceNeg, b01, b10, and_self, true_and, and_true, false_and, and_false, or_false, false_or, or_true, true_or, ite_not, not_true_eq_false, not_false_eq_true, kk_v, kk_0, reduceCtorEq, if_true, if_false, ite_true, ite_false, Option.some.injEq, gO_ok, gA_ok, isAR_A, eq_self, gB_t, a0, a1, d0, d1, o0, o1, e1, e2]
theorem wt_status (iv : Inv h) (hL : CL h L S) (hS : ∀ j, inr (S j)) (hl : (L : Int) ≤ 2560) (h0 : 0 ≤ i) (h5 : i + 5 ≤ L) : ∃ h', WOut h h' L S i 1128 := by
  have z := Sh_lt iv.1.1
  have w := iv.1.1
  have st : Step (ev 11 M_C_status [aQ (some 3)]) (ev 11 M_R_status [aQ (some 39)]) h := s_status (d := 8) iv 
  obtain ⟨z0, h1, h2, e1, e2, i2, z1, z2⟩ := st
  have p1 := ev_kp _ _ _ _ _ _ e1 (by omega)
  have p2 := ev_kp _ _ _ _ _ _ e2 p1.2.1
  have L1 : CL h1 L S := p1.1.trans hL
  have o1 : isO h1 39 10 = true := p1.2.2 (so_39 w)
  have o0 : isO h 3 9 = true := so_3 w
  refine ⟨h2, ?_, i2, p2.1.trans L1, z1, z2⟩
  simp (disch := first | assumption | omega | exact aNl_I | exact aNl_Q | exact bl0 | exact bl1 | exact bl2 | exact bl3 | exact bl4 | exact aNl_U) only [u_W_law_1128, u_W_law_1129, u_W_law_1132, u_W_law_1133, u_W_law_1136, u_W_law_1139, u_W_law_1140, u_W_law_1141, u_W_law_1144, wr_id, wr_ai, wr_fi, wr_wand, wr_wor, wr_wxor, wr_wshl, wr_wshr, wr_lt, wr_gt, Int.reduceEq, Int.reduceLT, Int.reduceLE, Int.reduceNeg, b01, b10, and_self, true_and, and_true, false_and, and_false, or_false, false_or, or_true, true_or, ite_not, not_true_eq_false, not_false_eq_true, kk_v, kk_0, reduceCtorEq, if_true, if_false, ite_true, ite_false, Option.some.injEq, gO_ok, gA_ok, isAR_A, eq_self, gB_t, o0, o1, e1, e2]
theorem swt_out {x : Int} (hx : ¬ (0 ≤ x ∧ x ≤ 30)) : swt wPS 1141 x = 1141 := by
  simp only [wPS, swt]
  repeat rw [if_neg (by omega)]
theorem swt_0 : swt wPS 1141 0 = 172 := rfl
theorem swt_1 : swt wPS 1141 1 = 195 := rfl
theorem swt_2 : swt wPS 1141 2 = 244 := rfl
theorem swt_3 : swt wPS 1141 3 = 267 := rfl
theorem swt_4 : swt wPS 1141 4 = 290 := rfl
theorem swt_5 : swt wPS 1141 5 = 313 := rfl
theorem swt_6 : swt wPS 1141 6 = 326 := rfl
theorem swt_7 : swt wPS 1141 7 = 379 := rfl
theorem swt_8 : swt wPS 1141 8 = 412 := rfl
theorem swt_9 : swt wPS 1141 9 = 465 := rfl
theorem swt_10 : swt wPS 1141 10 = 478 := rfl
theorem swt_11 : swt wPS 1141 11 = 491 := rfl
theorem swt_12 : swt wPS 1141 12 = 514 := rfl
theorem swt_13 : swt wPS 1141 13 = 557 := rfl
theorem swt_14 : swt wPS 1141 14 = 610 := rfl
theorem swt_15 : swt wPS 1141 15 = 643 := rfl
theorem swt_16 : swt wPS 1141 16 = 686 := rfl
theorem swt_17 : swt wPS 1141 17 = 719 := rfl
theorem swt_18 : swt wPS 1141 18 = 752 := rfl
theorem swt_19 : swt wPS 1141 19 = 775 := rfl
theorem swt_20 : swt wPS 1141 20 = 798 := rfl
theorem swt_21 : swt wPS 1141 21 = 811 := rfl
theorem swt_22 : swt wPS 1141 22 = 844 := rfl
theorem swt_23 : swt wPS 1141 23 = 877 := rfl
theorem swt_24 : swt wPS 1141 24 = 900 := rfl
theorem swt_25 : swt wPS 1141 25 = 943 := rfl
theorem swt_26 : swt wPS 1141 26 = 966 := rfl
theorem swt_27 : swt wPS 1141 27 = 1009 := rfl
theorem swt_28 : swt wPS 1141 28 = 1052 := rfl
theorem swt_29 : swt wPS 1141 29 = 1085 := rfl
theorem swt_30 : swt wPS 1141 30 = 1128 := rfl
theorem w_it (iv : Inv h) (hL : CL h L S) (hS : ∀ j, inr (S j)) (hl : (L : Int) ≤ 2560) (h0 : 0 ≤ i) (h5 : i + 5 ≤ L) : ∃ h', WOut h h' L S i 18 := by
  have e := w_sw iv hL hl h0 h5
  have key : ∃ h', WOut h h' L S i (swt wPS 1141 (wand (S i) 31)) := by
    generalize wand (S i) 31 = x
    by_cases hx : 0 ≤ x ∧ x ≤ 30
    · have : x = 0 ∨ x = 1 ∨ x = 2 ∨ x = 3 ∨ x = 4 ∨ x = 5 ∨ x = 6 ∨ x = 7 ∨ x = 8 ∨ x = 9 ∨ x = 10 ∨ x = 11 ∨ x = 12 ∨ x = 13 ∨ x = 14 ∨ x = 15 ∨ x = 16 ∨ x = 17 ∨ x = 18 ∨ x = 19 ∨ x = 20 ∨ x = 21 ∨ x = 22 ∨ x = 23 ∨ x = 24 ∨ x = 25 ∨ x = 26 ∨ x = 27 ∨ x = 28 ∨ x = 29 ∨ x = 30 := by omega
      rcases this with rfl | rfl | rfl | rfl | rfl | rfl | rfl | rfl | rfl | rfl | rfl | rfl | rfl | rfl | rfl | rfl | rfl | rfl | rfl | rfl | rfl | rfl | rfl | rfl | rfl | rfl | rfl | rfl | rfl | rfl | rfl
      · rw [swt_0]; exact wt_person iv hL hS hl h0 h5
      · rw [swt_1]; exact wt_here iv hL hS hl h0 h5
      · rw [swt_2]; exact wt_day iv hL hS hl h0 h5
      · rw [swt_3]; exact wt_share iv hL hS hl h0 h5
      · rw [swt_4]; exact wt_text iv hL hS hl h0 h5
      · rw [swt_5]; exact wt_wipe iv hL hS hl h0 h5
      · rw [swt_6]; exact wt_change iv hL hS hl h0 h5
      · rw [swt_7]; exact wt_back iv hL hS hl h0 h5
      · rw [swt_8]; exact wt_read iv hL hS hl h0 h5
      · rw [swt_9]; exact wt_image iv hL hS hl h0 h5
      · rw [swt_10]; exact wt_restore iv hL hS hl h0 h5
      · rw [swt_11]; exact wt_lines iv hL hS hl h0 h5
      · rw [swt_12]; exact wt_line iv hL hS hl h0 h5
      · rw [swt_13]; exact wt_mark iv hL hS hl h0 h5
      · rw [swt_14]; exact wt_changeTold iv hL hS hl h0 h5
      · rw [swt_15]; exact wt_points iv hL hS hl h0 h5
      · rw [swt_16]; exact wt_knows iv hL hS hl h0 h5
      · rw [swt_17]; exact wt_able iv hL hS hl h0 h5
      · rw [swt_18]; exact wt_lost iv hL hS hl h0 h5
      · rw [swt_19]; exact wt_lone iv hL hS hl h0 h5
      · rw [swt_20]; exact wt_cover iv hL hS hl h0 h5
      · rw [swt_21]; exact wt_plan iv hL hS hl h0 h5
      · rw [swt_22]; exact wt_sum iv hL hS hl h0 h5
      · rw [swt_23]; exact wt_count iv hL hS hl h0 h5
      · rw [swt_24]; exact wt_act iv hL hS hl h0 h5
      · rw [swt_25]; exact wt_trace iv hL hS hl h0 h5
      · rw [swt_26]; exact wt_sheet iv hL hS hl h0 h5
      · rw [swt_27]; exact wt_cell iv hL hS hl h0 h5
      · rw [swt_28]; exact wt_come iv hL hS hl h0 h5
      · rw [swt_29]; exact wt_forge iv hL hS hl h0 h5
      · rw [swt_30]; exact wt_status iv hL hS hl h0 h5
    · rw [swt_out hx]
      exact ⟨h, w_dflt iv hL⟩
  obtain ⟨h', k1, k2⟩ := key
  exact ⟨h', e.trans k1, k2⟩
theorem w_loop (hS : ∀ j, inr (S j)) (hl : (L : Int) ≤ 2560) : ∀ (n : Nat) (i : Int) (h : aH), (L : Int) ≤ i + 5 * n → 0 ≤ i → i ≤ 2560 → Inv h → CL h L S → ∃ h', ex (ev 11) k_W_law 18 [aQ (some 0), aQ (some 3), aQ (some 39), aI i] [] h = some (some (aI 1), h') ∧ aSz h' ≤ aSz h + 100 * n ∧ aSl h' ≤ aSl h + 1000 * n := by
  intro n
  induction n with
  | zero =>
    intro i h h1 h2 h3 iv hL
    exact ⟨h, w_end iv hL hl h2 h3 (by omega), Nat.le_add_right _ _, Nat.le_add_right _ _⟩
  | succ n ih =>
    intro i h h1 h2 h3 iv hL
    by_cases c : (L : Int) < i + 5
    · exact ⟨h, w_end iv hL hl h2 h3 (by omega), Nat.le_add_right _ _, Nat.le_add_right _ _⟩
    · obtain ⟨h', k1, k2, k3, k4, k5⟩ := w_it iv hL hS hl h2 (by omega)
      obtain ⟨h2, q1, q2, q3⟩ := ih (i + 5) h' (by omega) (by omega) (by omega) k2 k3
      exact ⟨h2, k1.trans q1, by omega, by omega⟩
end LAW
