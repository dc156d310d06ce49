/-! the reference's constructor: printed by wip/whole/gen/gen85.py -/
section INR
variable {d : Nat} {h h0 : aH} {a b c n k m : Nat} {ce : aC} {f : Int → Int} {p : Int → Option Nat}
theorem aDf10 : aDf 10 = [aQ none, aQ none, aQ none, aQ none, aQ none, aQ none, aQ none, aQ none, aQ none, aQ none, aQ none, aQ none, aQ none, aQ none, aQ none, aQ none, aI 0, aI 0, aI 0, aQ none, aQ none, aI 0, aQ none, aI 0, aQ none, aQ none, aQ none, aQ none, aI 0, aQ none, aQ none, aQ none] := rfl
def f54 : Int → Int := upf (upf (upf (upf (upf (upf (fun _ => 0) 0 0) 1 0) 2 0) 3 0) 4 0) 5 50
def f61 : Int → Int := upf (upf (upf (upf (upf (upf (fun _ => 0) 0 1) 1 4) 2 16) 3 64) 4 256) 5 1024
theorem inr_00 : ∀ j : Int, inr ((fun _ => 0 : Int → Int) j) := fun _ => inr0
theorem inr_54 : ∀ j : Int, inr (f54 j) := inr_upf ⟨by decide, by decide⟩ (inr_upf ⟨by decide, by decide⟩ (inr_upf ⟨by decide, by decide⟩ (inr_upf ⟨by decide, by decide⟩ (inr_upf ⟨by decide, by decide⟩ (inr_upf ⟨by decide, by decide⟩ inr_00)))))
theorem inr_61 : ∀ j : Int, inr (f61 j) := inr_upf ⟨by decide, by decide⟩ (inr_upf ⟨by decide, by decide⟩ (inr_upf ⟨by decide, by decide⟩ (inr_upf ⟨by decide, by decide⟩ (inr_upf ⟨by decide, by decide⟩ (inr_upf ⟨by decide, by decide⟩ inr_00)))))
set_option maxHeartbeats 4000000 in
set_option maxRecDepth 100000 in
theorem jr_40 (hz : aSz h = 40) (ho : isO h 39 10 = true) : ex (ev d) k_R_init 4 [aQ (some 39)] [] h = ex (ev d) k_R_init 13 [aQ (some 39)] [] (nF h 39 0 40 3240) := by
  unfold nF
  simp (maxDischargeDepth := 400) (maxSteps := 20000000) only [u_R_init_4, u_R_init_5, u_R_init_8, u_R_init_10, hz, ho, aSz_pf, aSz_sa, aSz_sr, isO_pf, isO_sa, isO_sr, isA_pf, isA_sa, isA_sr, isR_pf, isR_sa, isR_sr, al_pf, al_sa, al_sr, gf_sa, gf_sr, ai_pf, ai_sr, ra_pf, ra_sa, gf_pn, ai_sn, ra_sn, sa_sa, pf_pf, fi_sa, fi_sr, fi_pn, gO_pf, gO_sa, gO_sr, gA_pf, gA_sa, gA_sr, gR_pf, gR_sa, gR_sr, isAR_pf, isAR_sa, isAR_sr, okQ_pf, okQ_sa, okQ_sr, okC_pf, okC_sa, okC_sr, okQ_n, gB_t, wr_id, wr_ai, wr_fi, wr_wand, wr_wor, wr_wxor, wr_wshl, wr_wshr, wr_lt, wr_gt, Int.reduceEq, Int.reduceLT, Int.reduceLE, Int.reduceNeg, b01, b10, and_self, true_and, and_true, false_and, and_false, or_false, false_or, or_true, true_or, ite_not, not_true_eq_false, not_false_eq_true, kk_v, kk_0, reduceCtorEq, if_true, if_false, ite_true, ite_false, swt, Option.some.injEq, gO_ok, gA_ok, aSz_new, isO_nw, isA_nwE, al_nwA, ai_nwE, ai_se, nlI, nlQ, nlU, ba0, ba1, ba2, ba3, ba4, ne_eq, Nat.reduceAdd, Nat.reduceLT, Nat.reduceLeDiff, Nat.reduceEqDiff, Int.reduceAdd, Int.reduceToNat, Int.reduceNatCast, Int.reduceNatCast', zA]
set_option maxHeartbeats 4000000 in
set_option maxRecDepth 100000 in
theorem jr_41 (hz : aSz h = 41) (ho : isO h 39 10 = true) : ex (ev d) k_R_init 13 [aQ (some 39)] [] h = ex (ev d) k_R_init 21 [aQ (some 39)] [] (nF h 39 1 41 6) := by
  unfold nF
  simp (maxDischargeDepth := 400) (maxSteps := 20000000) only [u_R_init_13, u_R_init_14, u_R_init_16, u_R_init_18, hz, ho, aSz_pf, aSz_sa, aSz_sr, isO_pf, isO_sa, isO_sr, isA_pf, isA_sa, isA_sr, isR_pf, isR_sa, isR_sr, al_pf, al_sa, al_sr, gf_sa, gf_sr, ai_pf, ai_sr, ra_pf, ra_sa, gf_pn, ai_sn, ra_sn, sa_sa, pf_pf, fi_sa, fi_sr, fi_pn, gO_pf, gO_sa, gO_sr, gA_pf, gA_sa, gA_sr, gR_pf, gR_sa, gR_sr, isAR_pf, isAR_sa, isAR_sr, okQ_pf, okQ_sa, okQ_sr, okC_pf, okC_sa, okC_sr, okQ_n, gB_t, wr_id, wr_ai, wr_fi, wr_wand, wr_wor, wr_wxor, wr_wshl, wr_wshr, wr_lt, wr_gt, Int.reduceEq, Int.reduceLT, Int.reduceLE, Int.reduceNeg, b01, b10, and_self, true_and, and_true, false_and, and_false, or_false, false_or, or_true, true_or, ite_not, not_true_eq_false, not_false_eq_true, kk_v, kk_0, reduceCtorEq, if_true, if_false, ite_true, ite_false, swt, Option.some.injEq, gO_ok, gA_ok, aSz_new, isO_nw, isA_nwE, al_nwA, ai_nwE, ai_se, nlI, nlQ, nlU, ba0, ba1, ba2, ba3, ba4, ne_eq, Nat.reduceAdd, Nat.reduceLT, Nat.reduceLeDiff, Nat.reduceEqDiff, Int.reduceAdd, Int.reduceToNat, Int.reduceNatCast, Int.reduceNatCast', zA]
set_option maxHeartbeats 4000000 in
set_option maxRecDepth 100000 in
theorem jr_42 (hz : aSz h = 42) (ho : isO h 39 10 = true) : ex (ev d) k_R_init 21 [aQ (some 39)] [] h = ex (ev d) k_R_init 30 [aQ (some 39)] [] (nF h 39 2 42 32400) := by
  unfold nF
  simp (maxDischargeDepth := 400) (maxSteps := 20000000) only [u_R_init_21, u_R_init_22, u_R_init_25, u_R_init_27, hz, ho, aSz_pf, aSz_sa, aSz_sr, isO_pf, isO_sa, isO_sr, isA_pf, isA_sa, isA_sr, isR_pf, isR_sa, isR_sr, al_pf, al_sa, al_sr, gf_sa, gf_sr, ai_pf, ai_sr, ra_pf, ra_sa, gf_pn, ai_sn, ra_sn, sa_sa, pf_pf, fi_sa, fi_sr, fi_pn, gO_pf, gO_sa, gO_sr, gA_pf, gA_sa, gA_sr, gR_pf, gR_sa, gR_sr, isAR_pf, isAR_sa, isAR_sr, okQ_pf, okQ_sa, okQ_sr, okC_pf, okC_sa, okC_sr, okQ_n, gB_t, wr_id, wr_ai, wr_fi, wr_wand, wr_wor, wr_wxor, wr_wshl, wr_wshr, wr_lt, wr_gt, Int.reduceEq, Int.reduceLT, Int.reduceLE, Int.reduceNeg, b01, b10, and_self, true_and, and_true, false_and, and_false, or_false, false_or, or_true, true_or, ite_not, not_true_eq_false, not_false_eq_true, kk_v, kk_0, reduceCtorEq, if_true, if_false, ite_true, ite_false, swt, Option.some.injEq, gO_ok, gA_ok, aSz_new, isO_nw, isA_nwE, al_nwA, ai_nwE, ai_se, nlI, nlQ, nlU, ba0, ba1, ba2, ba3, ba4, ne_eq, Nat.reduceAdd, Nat.reduceLT, Nat.reduceLeDiff, Nat.reduceEqDiff, Int.reduceAdd, Int.reduceToNat, Int.reduceNatCast, Int.reduceNatCast', zA]
set_option maxHeartbeats 4000000 in
set_option maxRecDepth 100000 in
theorem jr_43 (hz : aSz h = 43) (ho : isO h 39 10 = true) : ex (ev d) k_R_init 30 [aQ (some 39)] [] h = ex (ev d) k_R_init 38 [aQ (some 39)] [] (nF h 39 3 43 60) := by
  unfold nF
  simp (maxDischargeDepth := 400) (maxSteps := 20000000) only [u_R_init_30, u_R_init_31, u_R_init_33, u_R_init_35, hz, ho, aSz_pf, aSz_sa, aSz_sr, isO_pf, isO_sa, isO_sr, isA_pf, isA_sa, isA_sr, isR_pf, isR_sa, isR_sr, al_pf, al_sa, al_sr, gf_sa, gf_sr, ai_pf, ai_sr, ra_pf, ra_sa, gf_pn, ai_sn, ra_sn, sa_sa, pf_pf, fi_sa, fi_sr, fi_pn, gO_pf, gO_sa, gO_sr, gA_pf, gA_sa, gA_sr, gR_pf, gR_sa, gR_sr, isAR_pf, isAR_sa, isAR_sr, okQ_pf, okQ_sa, okQ_sr, okC_pf, okC_sa, okC_sr, okQ_n, gB_t, wr_id, wr_ai, wr_fi, wr_wand, wr_wor, wr_wxor, wr_wshl, wr_wshr, wr_lt, wr_gt, Int.reduceEq, Int.reduceLT, Int.reduceLE, Int.reduceNeg, b01, b10, and_self, true_and, and_true, false_and, and_false, or_false, false_or, or_true, true_or, ite_not, not_true_eq_false, not_false_eq_true, kk_v, kk_0, reduceCtorEq, if_true, if_false, ite_true, ite_false, swt, Option.some.injEq, gO_ok, gA_ok, aSz_new, isO_nw, isA_nwE, al_nwA, ai_nwE, ai_se, nlI, nlQ, nlU, ba0, ba1, ba2, ba3, ba4, ne_eq, Nat.reduceAdd, Nat.reduceLT, Nat.reduceLeDiff, Nat.reduceEqDiff, Int.reduceAdd, Int.reduceToNat, Int.reduceNatCast, Int.reduceNatCast', zA]
set_option maxHeartbeats 4000000 in
set_option maxRecDepth 100000 in
theorem jr_44 (hz : aSz h = 44) (ho : isO h 39 10 = true) : ex (ev d) k_R_init 38 [aQ (some 39)] [] h = ex (ev d) k_R_init 47 [aQ (some 39)] [] (nF h 39 4 44 540) := by
  unfold nF
  simp (maxDischargeDepth := 400) (maxSteps := 20000000) only [u_R_init_38, u_R_init_39, u_R_init_42, u_R_init_44, hz, ho, aSz_pf, aSz_sa, aSz_sr, isO_pf, isO_sa, isO_sr, isA_pf, isA_sa, isA_sr, isR_pf, isR_sa, isR_sr, al_pf, al_sa, al_sr, gf_sa, gf_sr, ai_pf, ai_sr, ra_pf, ra_sa, gf_pn, ai_sn, ra_sn, sa_sa, pf_pf, fi_sa, fi_sr, fi_pn, gO_pf, gO_sa, gO_sr, gA_pf, gA_sa, gA_sr, gR_pf, gR_sa, gR_sr, isAR_pf, isAR_sa, isAR_sr, okQ_pf, okQ_sa, okQ_sr, okC_pf, okC_sa, okC_sr, okQ_n, gB_t, wr_id, wr_ai, wr_fi, wr_wand, wr_wor, wr_wxor, wr_wshl, wr_wshr, wr_lt, wr_gt, Int.reduceEq, Int.reduceLT, Int.reduceLE, Int.reduceNeg, b01, b10, and_self, true_and, and_true, false_and, and_false, or_false, false_or, or_true, true_or, ite_not, not_true_eq_false, not_false_eq_true, kk_v, kk_0, reduceCtorEq, if_true, if_false, ite_true, ite_false, swt, Option.some.injEq, gO_ok, gA_ok, aSz_new, isO_nw, isA_nwE, al_nwA, ai_nwE, ai_se, nlI, nlQ, nlU, ba0, ba1, ba2, ba3, ba4, ne_eq, Nat.reduceAdd, Nat.reduceLT, Nat.reduceLeDiff, Nat.reduceEqDiff, Int.reduceAdd, Int.reduceToNat, Int.reduceNatCast, Int.reduceNatCast', zA]
set_option maxHeartbeats 4000000 in
set_option maxRecDepth 100000 in
theorem jr_45 (hz : aSz h = 45) (ho : isO h 39 10 = true) : ex (ev d) k_R_init 47 [aQ (some 39)] [] h = ex (ev d) k_R_init 55 [aQ (some 39)] [] (nF h 39 5 45 60) := by
  unfold nF
  simp (maxDischargeDepth := 400) (maxSteps := 20000000) only [u_R_init_47, u_R_init_48, u_R_init_50, u_R_init_52, hz, ho, aSz_pf, aSz_sa, aSz_sr, isO_pf, isO_sa, isO_sr, isA_pf, isA_sa, isA_sr, isR_pf, isR_sa, isR_sr, al_pf, al_sa, al_sr, gf_sa, gf_sr, ai_pf, ai_sr, ra_pf, ra_sa, gf_pn, ai_sn, ra_sn, sa_sa, pf_pf, fi_sa, fi_sr, fi_pn, gO_pf, gO_sa, gO_sr, gA_pf, gA_sa, gA_sr, gR_pf, gR_sa, gR_sr, isAR_pf, isAR_sa, isAR_sr, okQ_pf, okQ_sa, okQ_sr, okC_pf, okC_sa, okC_sr, okQ_n, gB_t, wr_id, wr_ai, wr_fi, wr_wand, wr_wor, wr_wxor, wr_wshl, wr_wshr, wr_lt, wr_gt, Int.reduceEq, Int.reduceLT, Int.reduceLE, Int.reduceNeg, b01, b10, and_self, true_and, and_true, false_and, and_false, or_false, false_or, or_true, true_or, ite_not, not_true_eq_false, not_false_eq_true, kk_v, kk_0, reduceCtorEq, if_true, if_false, ite_true, ite_false, swt, Option.some.injEq, gO_ok, gA_ok, aSz_new, isO_nw, isA_nwE, al_nwA, ai_nwE, ai_se, nlI, nlQ, nlU, ba0, ba1, ba2, ba3, ba4, ne_eq, Nat.reduceAdd, Nat.reduceLT, Nat.reduceLeDiff, Nat.reduceEqDiff, Int.reduceAdd, Int.reduceToNat, Int.reduceNatCast, Int.reduceNatCast', zA]
set_option maxHeartbeats 4000000 in
set_option maxRecDepth 100000 in
theorem jr_46 (hz : aSz h = 46) (ho : isO h 39 10 = true) : ex (ev d) k_R_init 55 [aQ (some 39)] [] h = ex (ev d) k_R_init 63 [aQ (some 39)] [] (nF h 39 6 46 60) := by
  unfold nF
  simp (maxDischargeDepth := 400) (maxSteps := 20000000) only [u_R_init_55, u_R_init_56, u_R_init_58, u_R_init_60, hz, ho, aSz_pf, aSz_sa, aSz_sr, isO_pf, isO_sa, isO_sr, isA_pf, isA_sa, isA_sr, isR_pf, isR_sa, isR_sr, al_pf, al_sa, al_sr, gf_sa, gf_sr, ai_pf, ai_sr, ra_pf, ra_sa, gf_pn, ai_sn, ra_sn, sa_sa, pf_pf, fi_sa, fi_sr, fi_pn, gO_pf, gO_sa, gO_sr, gA_pf, gA_sa, gA_sr, gR_pf, gR_sa, gR_sr, isAR_pf, isAR_sa, isAR_sr, okQ_pf, okQ_sa, okQ_sr, okC_pf, okC_sa, okC_sr, okQ_n, gB_t, wr_id, wr_ai, wr_fi, wr_wand, wr_wor, wr_wxor, wr_wshl, wr_wshr, wr_lt, wr_gt, Int.reduceEq, Int.reduceLT, Int.reduceLE, Int.reduceNeg, b01, b10, and_self, true_and, and_true, false_and, and_false, or_false, false_or, or_true, true_or, ite_not, not_true_eq_false, not_false_eq_true, kk_v, kk_0, reduceCtorEq, if_true, if_false, ite_true, ite_false, swt, Option.some.injEq, gO_ok, gA_ok, aSz_new, isO_nw, isA_nwE, al_nwA, ai_nwE, ai_se, nlI, nlQ, nlU, ba0, ba1, ba2, ba3, ba4, ne_eq, Nat.reduceAdd, Nat.reduceLT, Nat.reduceLeDiff, Nat.reduceEqDiff, Int.reduceAdd, Int.reduceToNat, Int.reduceNatCast, Int.reduceNatCast', zA]
set_option maxHeartbeats 4000000 in
set_option maxRecDepth 100000 in
theorem jr_47 (hz : aSz h = 47) (ho : isO h 39 10 = true) : ex (ev d) k_R_init 63 [aQ (some 39)] [] h = ex (ev d) k_R_init 71 [aQ (some 39)] [] (nF h 39 7 47 60) := by
  unfold nF
  simp (maxDischargeDepth := 400) (maxSteps := 20000000) only [u_R_init_63, u_R_init_64, u_R_init_66, u_R_init_68, hz, ho, aSz_pf, aSz_sa, aSz_sr, isO_pf, isO_sa, isO_sr, isA_pf, isA_sa, isA_sr, isR_pf, isR_sa, isR_sr, al_pf, al_sa, al_sr, gf_sa, gf_sr, ai_pf, ai_sr, ra_pf, ra_sa, gf_pn, ai_sn, ra_sn, sa_sa, pf_pf, fi_sa, fi_sr, fi_pn, gO_pf, gO_sa, gO_sr, gA_pf, gA_sa, gA_sr, gR_pf, gR_sa, gR_sr, isAR_pf, isAR_sa, isAR_sr, okQ_pf, okQ_sa, okQ_sr, okC_pf, okC_sa, okC_sr, okQ_n, gB_t, wr_id, wr_ai, wr_fi, wr_wand, wr_wor, wr_wxor, wr_wshl, wr_wshr, wr_lt, wr_gt, Int.reduceEq, Int.reduceLT, Int.reduceLE, Int.reduceNeg, b01, b10, and_self, true_and, and_true, false_and, and_false, or_false, false_or, or_true, true_or, ite_not, not_true_eq_false, not_false_eq_true, kk_v, kk_0, reduceCtorEq, if_true, if_false, ite_true, ite_false, swt, Option.some.injEq, gO_ok, gA_ok, aSz_new, isO_nw, isA_nwE, al_nwA, ai_nwE, ai_se, nlI, nlQ, nlU, ba0, ba1, ba2, ba3, ba4, ne_eq, Nat.reduceAdd, Nat.reduceLT, Nat.reduceLeDiff, Nat.reduceEqDiff, Int.reduceAdd, Int.reduceToNat, Int.reduceNatCast, Int.reduceNatCast', zA]
set_option maxHeartbeats 4000000 in
set_option maxRecDepth 100000 in
theorem jr_48 (hz : aSz h = 48) (ho : isO h 39 10 = true) : ex (ev d) k_R_init 71 [aQ (some 39)] [] h = ex (ev d) k_R_init 79 [aQ (some 39)] [] (nF h 39 8 48 60) := by
  unfold nF
  simp (maxDischargeDepth := 400) (maxSteps := 20000000) only [u_R_init_71, u_R_init_72, u_R_init_74, u_R_init_76, hz, ho, aSz_pf, aSz_sa, aSz_sr, isO_pf, isO_sa, isO_sr, isA_pf, isA_sa, isA_sr, isR_pf, isR_sa, isR_sr, al_pf, al_sa, al_sr, gf_sa, gf_sr, ai_pf, ai_sr, ra_pf, ra_sa, gf_pn, ai_sn, ra_sn, sa_sa, pf_pf, fi_sa, fi_sr, fi_pn, gO_pf, gO_sa, gO_sr, gA_pf, gA_sa, gA_sr, gR_pf, gR_sa, gR_sr, isAR_pf, isAR_sa, isAR_sr, okQ_pf, okQ_sa, okQ_sr, okC_pf, okC_sa, okC_sr, okQ_n, gB_t, wr_id, wr_ai, wr_fi, wr_wand, wr_wor, wr_wxor, wr_wshl, wr_wshr, wr_lt, wr_gt, Int.reduceEq, Int.reduceLT, Int.reduceLE, Int.reduceNeg, b01, b10, and_self, true_and, and_true, false_and, and_false, or_false, false_or, or_true, true_or, ite_not, not_true_eq_false, not_false_eq_true, kk_v, kk_0, reduceCtorEq, if_true, if_false, ite_true, ite_false, swt, Option.some.injEq, gO_ok, gA_ok, aSz_new, isO_nw, isA_nwE, al_nwA, ai_nwE, ai_se, nlI, nlQ, nlU, ba0, ba1, ba2, ba3, ba4, ne_eq, Nat.reduceAdd, Nat.reduceLT, Nat.reduceLeDiff, Nat.reduceEqDiff, Int.reduceAdd, Int.reduceToNat, Int.reduceNatCast, Int.reduceNatCast', zA]
set_option maxHeartbeats 4000000 in
set_option maxRecDepth 100000 in
theorem jr_49 (hz : aSz h = 49) (ho : isO h 39 10 = true) : ex (ev d) k_R_init 79 [aQ (some 39)] [] h = ex (ev d) k_R_init 87 [aQ (some 39)] [] (nF h 39 9 49 60) := by
  unfold nF
  simp (maxDischargeDepth := 400) (maxSteps := 20000000) only [u_R_init_79, u_R_init_80, u_R_init_82, u_R_init_84, hz, ho, aSz_pf, aSz_sa, aSz_sr, isO_pf, isO_sa, isO_sr, isA_pf, isA_sa, isA_sr, isR_pf, isR_sa, isR_sr, al_pf, al_sa, al_sr, gf_sa, gf_sr, ai_pf, ai_sr, ra_pf, ra_sa, gf_pn, ai_sn, ra_sn, sa_sa, pf_pf, fi_sa, fi_sr, fi_pn, gO_pf, gO_sa, gO_sr, gA_pf, gA_sa, gA_sr, gR_pf, gR_sa, gR_sr, isAR_pf, isAR_sa, isAR_sr, okQ_pf, okQ_sa, okQ_sr, okC_pf, okC_sa, okC_sr, okQ_n, gB_t, wr_id, wr_ai, wr_fi, wr_wand, wr_wor, wr_wxor, wr_wshl, wr_wshr, wr_lt, wr_gt, Int.reduceEq, Int.reduceLT, Int.reduceLE, Int.reduceNeg, b01, b10, and_self, true_and, and_true, false_and, and_false, or_false, false_or, or_true, true_or, ite_not, not_true_eq_false, not_false_eq_true, kk_v, kk_0, reduceCtorEq, if_true, if_false, ite_true, ite_false, swt, Option.some.injEq, gO_ok, gA_ok, aSz_new, isO_nw, isA_nwE, al_nwA, ai_nwE, ai_se, nlI, nlQ, nlU, ba0, ba1, ba2, ba3, ba4, ne_eq, Nat.reduceAdd, Nat.reduceLT, Nat.reduceLeDiff, Nat.reduceEqDiff, Int.reduceAdd, Int.reduceToNat, Int.reduceNatCast, Int.reduceNatCast', zA]
set_option maxHeartbeats 4000000 in
set_option maxRecDepth 100000 in
theorem jr_50 (hz : aSz h = 50) (ho : isO h 39 10 = true) : ex (ev d) k_R_init 87 [aQ (some 39)] [] h = ex (ev d) k_R_init 95 [aQ (some 39)] [] (nF h 39 10 50 60) := by
  unfold nF
  simp (maxDischargeDepth := 400) (maxSteps := 20000000) only [u_R_init_87, u_R_init_88, u_R_init_90, u_R_init_92, hz, ho, aSz_pf, aSz_sa, aSz_sr, isO_pf, isO_sa, isO_sr, isA_pf, isA_sa, isA_sr, isR_pf, isR_sa, isR_sr, al_pf, al_sa, al_sr, gf_sa, gf_sr, ai_pf, ai_sr, ra_pf, ra_sa, gf_pn, ai_sn, ra_sn, sa_sa, pf_pf, fi_sa, fi_sr, fi_pn, gO_pf, gO_sa, gO_sr, gA_pf, gA_sa, gA_sr, gR_pf, gR_sa, gR_sr, isAR_pf, isAR_sa, isAR_sr, okQ_pf, okQ_sa, okQ_sr, okC_pf, okC_sa, okC_sr, okQ_n, gB_t, wr_id, wr_ai, wr_fi, wr_wand, wr_wor, wr_wxor, wr_wshl, wr_wshr, wr_lt, wr_gt, Int.reduceEq, Int.reduceLT, Int.reduceLE, Int.reduceNeg, b01, b10, and_self, true_and, and_true, false_and, and_false, or_false, false_or, or_true, true_or, ite_not, not_true_eq_false, not_false_eq_true, kk_v, kk_0, reduceCtorEq, if_true, if_false, ite_true, ite_false, swt, Option.some.injEq, gO_ok, gA_ok, aSz_new, isO_nw, isA_nwE, al_nwA, ai_nwE, ai_se, nlI, nlQ, nlU, ba0, ba1, ba2, ba3, ba4, ne_eq, Nat.reduceAdd, Nat.reduceLT, Nat.reduceLeDiff, Nat.reduceEqDiff, Int.reduceAdd, Int.reduceToNat, Int.reduceNatCast, Int.reduceNatCast', zA]
set_option maxHeartbeats 4000000 in
set_option maxRecDepth 100000 in
theorem jr_51 (hz : aSz h = 51) (ho : isO h 39 10 = true) : ex (ev d) k_R_init 95 [aQ (some 39)] [] h = ex (ev d) k_R_init 103 [aQ (some 39)] [] (nF h 39 11 51 60) := by
  unfold nF
  simp (maxDischargeDepth := 400) (maxSteps := 20000000) only [u_R_init_95, u_R_init_96, u_R_init_98, u_R_init_100, hz, ho, aSz_pf, aSz_sa, aSz_sr, isO_pf, isO_sa, isO_sr, isA_pf, isA_sa, isA_sr, isR_pf, isR_sa, isR_sr, al_pf, al_sa, al_sr, gf_sa, gf_sr, ai_pf, ai_sr, ra_pf, ra_sa, gf_pn, ai_sn, ra_sn, sa_sa, pf_pf, fi_sa, fi_sr, fi_pn, gO_pf, gO_sa, gO_sr, gA_pf, gA_sa, gA_sr, gR_pf, gR_sa, gR_sr, isAR_pf, isAR_sa, isAR_sr, okQ_pf, okQ_sa, okQ_sr, okC_pf, okC_sa, okC_sr, okQ_n, gB_t, wr_id, wr_ai, wr_fi, wr_wand, wr_wor, wr_wxor, wr_wshl, wr_wshr, wr_lt, wr_gt, Int.reduceEq, Int.reduceLT, Int.reduceLE, Int.reduceNeg, b01, b10, and_self, true_and, and_true, false_and, and_false, or_false, false_or, or_true, true_or, ite_not, not_true_eq_false, not_false_eq_true, kk_v, kk_0, reduceCtorEq, if_true, if_false, ite_true, ite_false, swt, Option.some.injEq, gO_ok, gA_ok, aSz_new, isO_nw, isA_nwE, al_nwA, ai_nwE, ai_se, nlI, nlQ, nlU, ba0, ba1, ba2, ba3, ba4, ne_eq, Nat.reduceAdd, Nat.reduceLT, Nat.reduceLeDiff, Nat.reduceEqDiff, Int.reduceAdd, Int.reduceToNat, Int.reduceNatCast, Int.reduceNatCast', zA]
set_option maxHeartbeats 4000000 in
set_option maxRecDepth 100000 in
theorem jr_52 (hz : aSz h = 52) (ho : isO h 39 10 = true) : ex (ev d) k_R_init 103 [aQ (some 39)] [] h = ex (ev d) k_R_init 111 [aQ (some 39)] [] (nF h 39 12 52 8) := by
  unfold nF
  simp (maxDischargeDepth := 400) (maxSteps := 20000000) only [u_R_init_103, u_R_init_104, u_R_init_106, u_R_init_108, hz, ho, aSz_pf, aSz_sa, aSz_sr, isO_pf, isO_sa, isO_sr, isA_pf, isA_sa, isA_sr, isR_pf, isR_sa, isR_sr, al_pf, al_sa, al_sr, gf_sa, gf_sr, ai_pf, ai_sr, ra_pf, ra_sa, gf_pn, ai_sn, ra_sn, sa_sa, pf_pf, fi_sa, fi_sr, fi_pn, gO_pf, gO_sa, gO_sr, gA_pf, gA_sa, gA_sr, gR_pf, gR_sa, gR_sr, isAR_pf, isAR_sa, isAR_sr, okQ_pf, okQ_sa, okQ_sr, okC_pf, okC_sa, okC_sr, okQ_n, gB_t, wr_id, wr_ai, wr_fi, wr_wand, wr_wor, wr_wxor, wr_wshl, wr_wshr, wr_lt, wr_gt, Int.reduceEq, Int.reduceLT, Int.reduceLE, Int.reduceNeg, b01, b10, and_self, true_and, and_true, false_and, and_false, or_false, false_or, or_true, true_or, ite_not, not_true_eq_false, not_false_eq_true, kk_v, kk_0, reduceCtorEq, if_true, if_false, ite_true, ite_false, swt, Option.some.injEq, gO_ok, gA_ok, aSz_new, isO_nw, isA_nwE, al_nwA, ai_nwE, ai_se, nlI, nlQ, nlU, ba0, ba1, ba2, ba3, ba4, ne_eq, Nat.reduceAdd, Nat.reduceLT, Nat.reduceLeDiff, Nat.reduceEqDiff, Int.reduceAdd, Int.reduceToNat, Int.reduceNatCast, Int.reduceNatCast', zA]
set_option maxHeartbeats 4000000 in
set_option maxRecDepth 100000 in
theorem jr_53 (hz : aSz h = 53) (ho : isO h 39 10 = true) : ex (ev d) k_R_init 111 [aQ (some 39)] [] h = ex (ev d) k_R_init 119 [aQ (some 39)] [] (nF h 39 13 53 20) := by
  unfold nF
  simp (maxDischargeDepth := 400) (maxSteps := 20000000) only [u_R_init_111, u_R_init_112, u_R_init_114, u_R_init_116, hz, ho, aSz_pf, aSz_sa, aSz_sr, isO_pf, isO_sa, isO_sr, isA_pf, isA_sa, isA_sr, isR_pf, isR_sa, isR_sr, al_pf, al_sa, al_sr, gf_sa, gf_sr, ai_pf, ai_sr, ra_pf, ra_sa, gf_pn, ai_sn, ra_sn, sa_sa, pf_pf, fi_sa, fi_sr, fi_pn, gO_pf, gO_sa, gO_sr, gA_pf, gA_sa, gA_sr, gR_pf, gR_sa, gR_sr, isAR_pf, isAR_sa, isAR_sr, okQ_pf, okQ_sa, okQ_sr, okC_pf, okC_sa, okC_sr, okQ_n, gB_t, wr_id, wr_ai, wr_fi, wr_wand, wr_wor, wr_wxor, wr_wshl, wr_wshr, wr_lt, wr_gt, Int.reduceEq, Int.reduceLT, Int.reduceLE, Int.reduceNeg, b01, b10, and_self, true_and, and_true, false_and, and_false, or_false, false_or, or_true, true_or, ite_not, not_true_eq_false, not_false_eq_true, kk_v, kk_0, reduceCtorEq, if_true, if_false, ite_true, ite_false, swt, Option.some.injEq, gO_ok, gA_ok, aSz_new, isO_nw, isA_nwE, al_nwA, ai_nwE, ai_se, nlI, nlQ, nlU, ba0, ba1, ba2, ba3, ba4, ne_eq, Nat.reduceAdd, Nat.reduceLT, Nat.reduceLeDiff, Nat.reduceEqDiff, Int.reduceAdd, Int.reduceToNat, Int.reduceNatCast, Int.reduceNatCast', zA]
set_option maxHeartbeats 4000000 in
set_option maxRecDepth 100000 in
theorem jr_54 (hz : aSz h = 54) (ho : isO h 39 10 = true) : ex (ev d) k_R_init 119 [aQ (some 39)] [] h = ex (ev d) k_R_init 152 [aQ (some 39)] [] (nG h 39 14 54 6 f54) := by
  unfold nG f54
  simp (maxDischargeDepth := 400) (maxSteps := 20000000) only [u_R_init_119, u_R_init_120, u_R_init_122, u_R_init_124, u_R_init_125, u_R_init_126, u_R_init_127, u_R_init_128, u_R_init_129, u_R_init_130, u_R_init_131, u_R_init_132, u_R_init_133, u_R_init_134, u_R_init_135, u_R_init_136, u_R_init_137, u_R_init_138, u_R_init_139, u_R_init_140, u_R_init_141, u_R_init_142, u_R_init_143, u_R_init_144, u_R_init_145, u_R_init_146, u_R_init_148, u_R_init_149, hz, ho, aSz_pf, aSz_sa, aSz_sr, isO_pf, isO_sa, isO_sr, isA_pf, isA_sa, isA_sr, isR_pf, isR_sa, isR_sr, al_pf, al_sa, al_sr, gf_sa, gf_sr, ai_pf, ai_sr, ra_pf, ra_sa, gf_pn, ai_sn, ra_sn, sa_sa, pf_pf, fi_sa, fi_sr, fi_pn, gO_pf, gO_sa, gO_sr, gA_pf, gA_sa, gA_sr, gR_pf, gR_sa, gR_sr, isAR_pf, isAR_sa, isAR_sr, okQ_pf, okQ_sa, okQ_sr, okC_pf, okC_sa, okC_sr, okQ_n, gB_t, wr_id, wr_ai, wr_fi, wr_wand, wr_wor, wr_wxor, wr_wshl, wr_wshr, wr_lt, wr_gt, Int.reduceEq, Int.reduceLT, Int.reduceLE, Int.reduceNeg, b01, b10, and_self, true_and, and_true, false_and, and_false, or_false, false_or, or_true, true_or, ite_not, not_true_eq_false, not_false_eq_true, kk_v, kk_0, reduceCtorEq, if_true, if_false, ite_true, ite_false, swt, Option.some.injEq, gO_ok, gA_ok, aSz_new, isO_nw, isA_nwE, al_nwA, ai_nwE, ai_se, nlI, nlQ, nlU, ba0, ba1, ba2, ba3, ba4, ne_eq, Nat.reduceAdd, Nat.reduceLT, Nat.reduceLeDiff, Nat.reduceEqDiff, Int.reduceAdd, Int.reduceToNat, Int.reduceNatCast, Int.reduceNatCast', zA]
set_option maxHeartbeats 4000000 in
set_option maxRecDepth 100000 in
theorem jr_55 (hz : aSz h = 55) (ho : isO h 39 10 = true) : ex (ev d) k_R_init 152 [aQ (some 39)] [] h = ex (ev d) k_R_init 160 [aQ (some 39)] [] (nF h 39 15 55 36800) := by
  unfold nF
  simp (maxDischargeDepth := 400) (maxSteps := 20000000) only [u_R_init_152, u_R_init_153, u_R_init_155, u_R_init_157, hz, ho, aSz_pf, aSz_sa, aSz_sr, isO_pf, isO_sa, isO_sr, isA_pf, isA_sa, isA_sr, isR_pf, isR_sa, isR_sr, al_pf, al_sa, al_sr, gf_sa, gf_sr, ai_pf, ai_sr, ra_pf, ra_sa, gf_pn, ai_sn, ra_sn, sa_sa, pf_pf, fi_sa, fi_sr, fi_pn, gO_pf, gO_sa, gO_sr, gA_pf, gA_sa, gA_sr, gR_pf, gR_sa, gR_sr, isAR_pf, isAR_sa, isAR_sr, okQ_pf, okQ_sa, okQ_sr, okC_pf, okC_sa, okC_sr, okQ_n, gB_t, wr_id, wr_ai, wr_fi, wr_wand, wr_wor, wr_wxor, wr_wshl, wr_wshr, wr_lt, wr_gt, Int.reduceEq, Int.reduceLT, Int.reduceLE, Int.reduceNeg, b01, b10, and_self, true_and, and_true, false_and, and_false, or_false, false_or, or_true, true_or, ite_not, not_true_eq_false, not_false_eq_true, kk_v, kk_0, reduceCtorEq, if_true, if_false, ite_true, ite_false, swt, Option.some.injEq, gO_ok, gA_ok, aSz_new, isO_nw, isA_nwE, al_nwA, ai_nwE, ai_se, nlI, nlQ, nlU, ba0, ba1, ba2, ba3, ba4, ne_eq, Nat.reduceAdd, Nat.reduceLT, Nat.reduceLeDiff, Nat.reduceEqDiff, Int.reduceAdd, Int.reduceToNat, Int.reduceNatCast, Int.reduceNatCast', zA]
set_option maxHeartbeats 4000000 in
set_option maxRecDepth 100000 in
theorem jr_56 (hz : aSz h = 56) (ho : isO h 39 10 = true) : ex (ev d) k_R_init 160 [aQ (some 39)] [] h = ex (ev d) k_R_init 169 [aQ (some 39)] [] (nF h 39 19 56 441) := by
  unfold nF
  simp (maxDischargeDepth := 400) (maxSteps := 20000000) only [u_R_init_160, u_R_init_161, u_R_init_164, u_R_init_166, hz, ho, aSz_pf, aSz_sa, aSz_sr, isO_pf, isO_sa, isO_sr, isA_pf, isA_sa, isA_sr, isR_pf, isR_sa, isR_sr, al_pf, al_sa, al_sr, gf_sa, gf_sr, ai_pf, ai_sr, ra_pf, ra_sa, gf_pn, ai_sn, ra_sn, sa_sa, pf_pf, fi_sa, fi_sr, fi_pn, gO_pf, gO_sa, gO_sr, gA_pf, gA_sa, gA_sr, gR_pf, gR_sa, gR_sr, isAR_pf, isAR_sa, isAR_sr, okQ_pf, okQ_sa, okQ_sr, okC_pf, okC_sa, okC_sr, okQ_n, gB_t, wr_id, wr_ai, wr_fi, wr_wand, wr_wor, wr_wxor, wr_wshl, wr_wshr, wr_lt, wr_gt, Int.reduceEq, Int.reduceLT, Int.reduceLE, Int.reduceNeg, b01, b10, and_self, true_and, and_true, false_and, and_false, or_false, false_or, or_true, true_or, ite_not, not_true_eq_false, not_false_eq_true, kk_v, kk_0, reduceCtorEq, if_true, if_false, ite_true, ite_false, swt, Option.some.injEq, gO_ok, gA_ok, aSz_new, isO_nw, isA_nwE, al_nwA, ai_nwE, ai_se, nlI, nlQ, nlU, ba0, ba1, ba2, ba3, ba4, ne_eq, Nat.reduceAdd, Nat.reduceLT, Nat.reduceLeDiff, Nat.reduceEqDiff, Int.reduceAdd, Int.reduceToNat, Int.reduceNatCast, Int.reduceNatCast', zA]
set_option maxHeartbeats 4000000 in
set_option maxRecDepth 100000 in
theorem jr_57 (hz : aSz h = 57) (ho : isO h 39 10 = true) : ex (ev d) k_R_init 169 [aQ (some 39)] [] h = ex (ev d) k_R_init 177 [aQ (some 39)] [] (nF h 39 20 57 20) := by
  unfold nF
  simp (maxDischargeDepth := 400) (maxSteps := 20000000) only [u_R_init_169, u_R_init_170, u_R_init_172, u_R_init_174, hz, ho, aSz_pf, aSz_sa, aSz_sr, isO_pf, isO_sa, isO_sr, isA_pf, isA_sa, isA_sr, isR_pf, isR_sa, isR_sr, al_pf, al_sa, al_sr, gf_sa, gf_sr, ai_pf, ai_sr, ra_pf, ra_sa, gf_pn, ai_sn, ra_sn, sa_sa, pf_pf, fi_sa, fi_sr, fi_pn, gO_pf, gO_sa, gO_sr, gA_pf, gA_sa, gA_sr, gR_pf, gR_sa, gR_sr, isAR_pf, isAR_sa, isAR_sr, okQ_pf, okQ_sa, okQ_sr, okC_pf, okC_sa, okC_sr, okQ_n, gB_t, wr_id, wr_ai, wr_fi, wr_wand, wr_wor, wr_wxor, wr_wshl, wr_wshr, wr_lt, wr_gt, Int.reduceEq, Int.reduceLT, Int.reduceLE, Int.reduceNeg, b01, b10, and_self, true_and, and_true, false_and, and_false, or_false, false_or, or_true, true_or, ite_not, not_true_eq_false, not_false_eq_true, kk_v, kk_0, reduceCtorEq, if_true, if_false, ite_true, ite_false, swt, Option.some.injEq, gO_ok, gA_ok, aSz_new, isO_nw, isA_nwE, al_nwA, ai_nwE, ai_se, nlI, nlQ, nlU, ba0, ba1, ba2, ba3, ba4, ne_eq, Nat.reduceAdd, Nat.reduceLT, Nat.reduceLeDiff, Nat.reduceEqDiff, Int.reduceAdd, Int.reduceToNat, Int.reduceNatCast, Int.reduceNatCast', zA]
set_option maxHeartbeats 4000000 in
set_option maxRecDepth 100000 in
theorem jr_58 (hz : aSz h = 58) (ho : isO h 39 10 = true) : ex (ev d) k_R_init 177 [aQ (some 39)] [] h = ex (ev d) k_R_init 185 [aQ (some 39)] [] (nF h 39 22 58 6) := by
  unfold nF
  simp (maxDischargeDepth := 400) (maxSteps := 20000000) only [u_R_init_177, u_R_init_178, u_R_init_180, u_R_init_182, hz, ho, aSz_pf, aSz_sa, aSz_sr, isO_pf, isO_sa, isO_sr, isA_pf, isA_sa, isA_sr, isR_pf, isR_sa, isR_sr, al_pf, al_sa, al_sr, gf_sa, gf_sr, ai_pf, ai_sr, ra_pf, ra_sa, gf_pn, ai_sn, ra_sn, sa_sa, pf_pf, fi_sa, fi_sr, fi_pn, gO_pf, gO_sa, gO_sr, gA_pf, gA_sa, gA_sr, gR_pf, gR_sa, gR_sr, isAR_pf, isAR_sa, isAR_sr, okQ_pf, okQ_sa, okQ_sr, okC_pf, okC_sa, okC_sr, okQ_n, gB_t, wr_id, wr_ai, wr_fi, wr_wand, wr_wor, wr_wxor, wr_wshl, wr_wshr, wr_lt, wr_gt, Int.reduceEq, Int.reduceLT, Int.reduceLE, Int.reduceNeg, b01, b10, and_self, true_and, and_true, false_and, and_false, or_false, false_or, or_true, true_or, ite_not, not_true_eq_false, not_false_eq_true, kk_v, kk_0, reduceCtorEq, if_true, if_false, ite_true, ite_false, swt, Option.some.injEq, gO_ok, gA_ok, aSz_new, isO_nw, isA_nwE, al_nwA, ai_nwE, ai_se, nlI, nlQ, nlU, ba0, ba1, ba2, ba3, ba4, ne_eq, Nat.reduceAdd, Nat.reduceLT, Nat.reduceLeDiff, Nat.reduceEqDiff, Int.reduceAdd, Int.reduceToNat, Int.reduceNatCast, Int.reduceNatCast', zA]
set_option maxHeartbeats 4000000 in
set_option maxRecDepth 100000 in
theorem jr_59 (hz : aSz h = 59) (ho : isO h 39 10 = true) : ex (ev d) k_R_init 185 [aQ (some 39)] [] h = ex (ev d) k_R_init 193 [aQ (some 39)] [] (nF h 39 24 59 36864) := by
  unfold nF
  simp (maxDischargeDepth := 400) (maxSteps := 20000000) only [u_R_init_185, u_R_init_186, u_R_init_188, u_R_init_190, hz, ho, aSz_pf, aSz_sa, aSz_sr, isO_pf, isO_sa, isO_sr, isA_pf, isA_sa, isA_sr, isR_pf, isR_sa, isR_sr, al_pf, al_sa, al_sr, gf_sa, gf_sr, ai_pf, ai_sr, ra_pf, ra_sa, gf_pn, ai_sn, ra_sn, sa_sa, pf_pf, fi_sa, fi_sr, fi_pn, gO_pf, gO_sa, gO_sr, gA_pf, gA_sa, gA_sr, gR_pf, gR_sa, gR_sr, isAR_pf, isAR_sa, isAR_sr, okQ_pf, okQ_sa, okQ_sr, okC_pf, okC_sa, okC_sr, okQ_n, gB_t, wr_id, wr_ai, wr_fi, wr_wand, wr_wor, wr_wxor, wr_wshl, wr_wshr, wr_lt, wr_gt, Int.reduceEq, Int.reduceLT, Int.reduceLE, Int.reduceNeg, b01, b10, and_self, true_and, and_true, false_and, and_false, or_false, false_or, or_true, true_or, ite_not, not_true_eq_false, not_false_eq_true, kk_v, kk_0, reduceCtorEq, if_true, if_false, ite_true, ite_false, swt, Option.some.injEq, gO_ok, gA_ok, aSz_new, isO_nw, isA_nwE, al_nwA, ai_nwE, ai_se, nlI, nlQ, nlU, ba0, ba1, ba2, ba3, ba4, ne_eq, Nat.reduceAdd, Nat.reduceLT, Nat.reduceLeDiff, Nat.reduceEqDiff, Int.reduceAdd, Int.reduceToNat, Int.reduceNatCast, Int.reduceNatCast', zA]
set_option maxHeartbeats 4000000 in
set_option maxRecDepth 100000 in
theorem jr_60 (hz : aSz h = 60) (ho : isO h 39 10 = true) : ex (ev d) k_R_init 193 [aQ (some 39)] [] h = ex (ev d) k_R_init 201 [aQ (some 39)] [] (nF h 39 25 60 48) := by
  unfold nF
  simp (maxDischargeDepth := 400) (maxSteps := 20000000) only [u_R_init_193, u_R_init_194, u_R_init_196, u_R_init_198, hz, ho, aSz_pf, aSz_sa, aSz_sr, isO_pf, isO_sa, isO_sr, isA_pf, isA_sa, isA_sr, isR_pf, isR_sa, isR_sr, al_pf, al_sa, al_sr, gf_sa, gf_sr, ai_pf, ai_sr, ra_pf, ra_sa, gf_pn, ai_sn, ra_sn, sa_sa, pf_pf, fi_sa, fi_sr, fi_pn, gO_pf, gO_sa, gO_sr, gA_pf, gA_sa, gA_sr, gR_pf, gR_sa, gR_sr, isAR_pf, isAR_sa, isAR_sr, okQ_pf, okQ_sa, okQ_sr, okC_pf, okC_sa, okC_sr, okQ_n, gB_t, wr_id, wr_ai, wr_fi, wr_wand, wr_wor, wr_wxor, wr_wshl, wr_wshr, wr_lt, wr_gt, Int.reduceEq, Int.reduceLT, Int.reduceLE, Int.reduceNeg, b01, b10, and_self, true_and, and_true, false_and, and_false, or_false, false_or, or_true, true_or, ite_not, not_true_eq_false, not_false_eq_true, kk_v, kk_0, reduceCtorEq, if_true, if_false, ite_true, ite_false, swt, Option.some.injEq, gO_ok, gA_ok, aSz_new, isO_nw, isA_nwE, al_nwA, ai_nwE, ai_se, nlI, nlQ, nlU, ba0, ba1, ba2, ba3, ba4, ne_eq, Nat.reduceAdd, Nat.reduceLT, Nat.reduceLeDiff, Nat.reduceEqDiff, Int.reduceAdd, Int.reduceToNat, Int.reduceNatCast, Int.reduceNatCast', zA]
set_option maxHeartbeats 4000000 in
set_option maxRecDepth 100000 in
theorem jr_61 (hz : aSz h = 61) (ho : isO h 39 10 = true) : ex (ev d) k_R_init 201 [aQ (some 39)] [] h = ex (ev d) k_R_init 239 [aQ (some 39)] [] (nG h 39 26 61 6 f61) := by
  unfold nG f61
  simp (maxDischargeDepth := 400) (maxSteps := 20000000) only [u_R_init_201, u_R_init_202, u_R_init_204, u_R_init_206, u_R_init_207, u_R_init_208, u_R_init_209, u_R_init_210, u_R_init_211, u_R_init_212, u_R_init_213, u_R_init_214, u_R_init_215, u_R_init_216, u_R_init_218, u_R_init_219, u_R_init_220, u_R_init_221, u_R_init_223, u_R_init_224, u_R_init_225, u_R_init_226, u_R_init_229, u_R_init_230, u_R_init_231, u_R_init_232, u_R_init_235, u_R_init_236, hz, ho, aSz_pf, aSz_sa, aSz_sr, isO_pf, isO_sa, isO_sr, isA_pf, isA_sa, isA_sr, isR_pf, isR_sa, isR_sr, al_pf, al_sa, al_sr, gf_sa, gf_sr, ai_pf, ai_sr, ra_pf, ra_sa, gf_pn, ai_sn, ra_sn, sa_sa, pf_pf, fi_sa, fi_sr, fi_pn, gO_pf, gO_sa, gO_sr, gA_pf, gA_sa, gA_sr, gR_pf, gR_sa, gR_sr, isAR_pf, isAR_sa, isAR_sr, okQ_pf, okQ_sa, okQ_sr, okC_pf, okC_sa, okC_sr, okQ_n, gB_t, wr_id, wr_ai, wr_fi, wr_wand, wr_wor, wr_wxor, wr_wshl, wr_wshr, wr_lt, wr_gt, Int.reduceEq, Int.reduceLT, Int.reduceLE, Int.reduceNeg, b01, b10, and_self, true_and, and_true, false_and, and_false, or_false, false_or, or_true, true_or, ite_not, not_true_eq_false, not_false_eq_true, kk_v, kk_0, reduceCtorEq, if_true, if_false, ite_true, ite_false, swt, Option.some.injEq, gO_ok, gA_ok, aSz_new, isO_nw, isA_nwE, al_nwA, ai_nwE, ai_se, nlI, nlQ, nlU, ba0, ba1, ba2, ba3, ba4, ne_eq, Nat.reduceAdd, Nat.reduceLT, Nat.reduceLeDiff, Nat.reduceEqDiff, Int.reduceAdd, Int.reduceToNat, Int.reduceNatCast, Int.reduceNatCast', zA]
set_option maxHeartbeats 4000000 in
set_option maxRecDepth 100000 in
theorem jr_62 (hz : aSz h = 62) (ho : isO h 39 10 = true) : ex (ev d) k_R_init 239 [aQ (some 39)] [] h = ex (ev d) k_R_init 247 [aQ (some 39)] [] (nF h 39 27 62 50) := by
  unfold nF
  simp (maxDischargeDepth := 400) (maxSteps := 20000000) only [u_R_init_239, u_R_init_240, u_R_init_242, u_R_init_244, hz, ho, aSz_pf, aSz_sa, aSz_sr, isO_pf, isO_sa, isO_sr, isA_pf, isA_sa, isA_sr, isR_pf, isR_sa, isR_sr, al_pf, al_sa, al_sr, gf_sa, gf_sr, ai_pf, ai_sr, ra_pf, ra_sa, gf_pn, ai_sn, ra_sn, sa_sa, pf_pf, fi_sa, fi_sr, fi_pn, gO_pf, gO_sa, gO_sr, gA_pf, gA_sa, gA_sr, gR_pf, gR_sa, gR_sr, isAR_pf, isAR_sa, isAR_sr, okQ_pf, okQ_sa, okQ_sr, okC_pf, okC_sa, okC_sr, okQ_n, gB_t, wr_id, wr_ai, wr_fi, wr_wand, wr_wor, wr_wxor, wr_wshl, wr_wshr, wr_lt, wr_gt, Int.reduceEq, Int.reduceLT, Int.reduceLE, Int.reduceNeg, b01, b10, and_self, true_and, and_true, false_and, and_false, or_false, false_or, or_true, true_or, ite_not, not_true_eq_false, not_false_eq_true, kk_v, kk_0, reduceCtorEq, if_true, if_false, ite_true, ite_false, swt, Option.some.injEq, gO_ok, gA_ok, aSz_new, isO_nw, isA_nwE, al_nwA, ai_nwE, ai_se, nlI, nlQ, nlU, ba0, ba1, ba2, ba3, ba4, ne_eq, Nat.reduceAdd, Nat.reduceLT, Nat.reduceLeDiff, Nat.reduceEqDiff, Int.reduceAdd, Int.reduceToNat, Int.reduceNatCast, Int.reduceNatCast', zA]
set_option maxHeartbeats 4000000 in
set_option maxRecDepth 100000 in
theorem jr_63 (hz : aSz h = 63) (ho : isO h 39 10 = true) : ex (ev d) k_R_init 247 [aQ (some 39)] [] h = ex (ev d) k_R_init 254 [aQ (some 39)] [] (nF h 39 29 63 4) := by
  unfold nF
  simp (maxDischargeDepth := 400) (maxSteps := 20000000) only [u_R_init_247, u_R_init_248, u_R_init_249, u_R_init_251, hz, ho, aSz_pf, aSz_sa, aSz_sr, isO_pf, isO_sa, isO_sr, isA_pf, isA_sa, isA_sr, isR_pf, isR_sa, isR_sr, al_pf, al_sa, al_sr, gf_sa, gf_sr, ai_pf, ai_sr, ra_pf, ra_sa, gf_pn, ai_sn, ra_sn, sa_sa, pf_pf, fi_sa, fi_sr, fi_pn, gO_pf, gO_sa, gO_sr, gA_pf, gA_sa, gA_sr, gR_pf, gR_sa, gR_sr, isAR_pf, isAR_sa, isAR_sr, okQ_pf, okQ_sa, okQ_sr, okC_pf, okC_sa, okC_sr, okQ_n, gB_t, wr_id, wr_ai, wr_fi, wr_wand, wr_wor, wr_wxor, wr_wshl, wr_wshr, wr_lt, wr_gt, Int.reduceEq, Int.reduceLT, Int.reduceLE, Int.reduceNeg, b01, b10, and_self, true_and, and_true, false_and, and_false, or_false, false_or, or_true, true_or, ite_not, not_true_eq_false, not_false_eq_true, kk_v, kk_0, reduceCtorEq, if_true, if_false, ite_true, ite_false, swt, Option.some.injEq, gO_ok, gA_ok, aSz_new, isO_nw, isA_nwE, al_nwA, ai_nwE, ai_se, nlI, nlQ, nlU, ba0, ba1, ba2, ba3, ba4, ne_eq, Nat.reduceAdd, Nat.reduceLT, Nat.reduceLeDiff, Nat.reduceEqDiff, Int.reduceAdd, Int.reduceToNat, Int.reduceNatCast, Int.reduceNatCast', zA]
set_option maxHeartbeats 4000000 in
set_option maxRecDepth 100000 in
theorem jr_64 (hz : aSz h = 64) (ho : isO h 39 10 = true) : ex (ev d) k_R_init 254 [aQ (some 39)] [] h = ex (ev d) k_R_init 261 [aQ (some 39)] [] (nF h 39 30 64 4) := by
  unfold nF
  simp (maxDischargeDepth := 400) (maxSteps := 20000000) only [u_R_init_254, u_R_init_255, u_R_init_256, u_R_init_258, hz, ho, aSz_pf, aSz_sa, aSz_sr, isO_pf, isO_sa, isO_sr, isA_pf, isA_sa, isA_sr, isR_pf, isR_sa, isR_sr, al_pf, al_sa, al_sr, gf_sa, gf_sr, ai_pf, ai_sr, ra_pf, ra_sa, gf_pn, ai_sn, ra_sn, sa_sa, pf_pf, fi_sa, fi_sr, fi_pn, gO_pf, gO_sa, gO_sr, gA_pf, gA_sa, gA_sr, gR_pf, gR_sa, gR_sr, isAR_pf, isAR_sa, isAR_sr, okQ_pf, okQ_sa, okQ_sr, okC_pf, okC_sa, okC_sr, okQ_n, gB_t, wr_id, wr_ai, wr_fi, wr_wand, wr_wor, wr_wxor, wr_wshl, wr_wshr, wr_lt, wr_gt, Int.reduceEq, Int.reduceLT, Int.reduceLE, Int.reduceNeg, b01, b10, and_self, true_and, and_true, false_and, and_false, or_false, false_or, or_true, true_or, ite_not, not_true_eq_false, not_false_eq_true, kk_v, kk_0, reduceCtorEq, if_true, if_false, ite_true, ite_false, swt, Option.some.injEq, gO_ok, gA_ok, aSz_new, isO_nw, isA_nwE, al_nwA, ai_nwE, ai_se, nlI, nlQ, nlU, ba0, ba1, ba2, ba3, ba4, ne_eq, Nat.reduceAdd, Nat.reduceLT, Nat.reduceLeDiff, Nat.reduceEqDiff, Int.reduceAdd, Int.reduceToNat, Int.reduceNatCast, Int.reduceNatCast', zA]
set_option maxHeartbeats 4000000 in
set_option maxRecDepth 100000 in
theorem jr_65 (hz : aSz h = 65) (ho : isO h 39 10 = true) : ex (ev d) k_R_init 261 [aQ (some 39)] [] h = ex (ev d) k_R_init 270 [aQ (some 39)] [] (nF h 39 31 65 160) := by
  unfold nF
  simp (maxDischargeDepth := 400) (maxSteps := 20000000) only [u_R_init_261, u_R_init_262, u_R_init_265, u_R_init_267, hz, ho, aSz_pf, aSz_sa, aSz_sr, isO_pf, isO_sa, isO_sr, isA_pf, isA_sa, isA_sr, isR_pf, isR_sa, isR_sr, al_pf, al_sa, al_sr, gf_sa, gf_sr, ai_pf, ai_sr, ra_pf, ra_sa, gf_pn, ai_sn, ra_sn, sa_sa, pf_pf, fi_sa, fi_sr, fi_pn, gO_pf, gO_sa, gO_sr, gA_pf, gA_sa, gA_sr, gR_pf, gR_sa, gR_sr, isAR_pf, isAR_sa, isAR_sr, okQ_pf, okQ_sa, okQ_sr, okC_pf, okC_sa, okC_sr, okQ_n, gB_t, wr_id, wr_ai, wr_fi, wr_wand, wr_wor, wr_wxor, wr_wshl, wr_wshr, wr_lt, wr_gt, Int.reduceEq, Int.reduceLT, Int.reduceLE, Int.reduceNeg, b01, b10, and_self, true_and, and_true, false_and, and_false, or_false, false_or, or_true, true_or, ite_not, not_true_eq_false, not_false_eq_true, kk_v, kk_0, reduceCtorEq, if_true, if_false, ite_true, ite_false, swt, Option.some.injEq, gO_ok, gA_ok, aSz_new, isO_nw, isA_nwE, al_nwA, ai_nwE, ai_se, nlI, nlQ, nlU, ba0, ba1, ba2, ba3, ba4, ne_eq, Nat.reduceAdd, Nat.reduceLT, Nat.reduceLeDiff, Nat.reduceEqDiff, Int.reduceAdd, Int.reduceToNat, Int.reduceNatCast, Int.reduceNatCast', zA]
set_option maxHeartbeats 4000000 in
set_option maxRecDepth 100000 in
theorem i_R (hz : aSz h = 40) (hc : aCo h 39 = .inl (10, aDf 10)) (g : Rg h) : ∃ h', ev (d + 1) M_R_init [aQ (some 39)] h = some (none, h') ∧ Fr [39] h h' ∧ Rg h' ∧ (aSz h' = 66 ∧ aSl h' ≤ aSl h + 200000) ∧
    aCo h' 39 = .inl (10, [aQ (some 40), aQ (some 41), aQ (some 42), aQ (some 43), aQ (some 44), aQ (some 45), aQ (some 46), aQ (some 47), aQ (some 48), aQ (some 49), aQ (some 50), aQ (some 51), aQ (some 52), aQ (some 53), aQ (some 54), aQ (some 55), aI 0, aI 0, aI 0, aQ (some 56), aQ (some 57), aI 0, aQ (some 58), aI 0, aQ (some 59), aQ (some 60), aQ (some 61), aQ (some 62), aI 0, aQ (some 63), aQ (some 64), aQ (some 65)]) ∧ aCo h' 40 = zA 3240 ∧ aCo h' 41 = zA 6 ∧ aCo h' 42 = zA 32400 ∧ aCo h' 43 = zA 60 ∧ aCo h' 44 = zA 540 ∧ aCo h' 45 = zA 60 ∧ aCo h' 46 = zA 60 ∧ aCo h' 47 = zA 60 ∧ aCo h' 48 = zA 60 ∧ aCo h' 49 = zA 60 ∧ aCo h' 50 = zA 60 ∧ aCo h' 51 = zA 60 ∧ aCo h' 52 = zA 8 ∧ aCo h' 53 = zA 20 ∧ aCo h' 54 = .inr (.inl (6, f54)) ∧ aCo h' 55 = zA 36800 ∧ aCo h' 56 = zA 441 ∧ aCo h' 57 = zA 20 ∧ aCo h' 58 = zA 6 ∧ aCo h' 59 = zA 36864 ∧ aCo h' 60 = zA 48 ∧ aCo h' 61 = .inr (.inl (6, f61)) ∧ aCo h' 62 = zA 50 ∧ aCo h' 63 = zA 4 ∧ aCo h' 64 = zA 4 ∧ aCo h' 65 = zA 160 := by
  have ho : isO h 39 10 = true := isO_c hc (by decide) (by omega) rfl
  have E0 : ev (d + 1) M_R_init [aQ (some 39)] h = ex (ev d) k_R_init 4 [aQ (some 39)] [] h := by
    rw [n_R_init]
    simp (maxDischargeDepth := 400) (maxSteps := 20000000) only [u_R_init_0, u_R_init_1, aSz_pf, aSz_sa, aSz_sr, isO_pf, isO_sa, isO_sr, isA_pf, isA_sa, isA_sr, isR_pf, isR_sa, isR_sr, al_pf, al_sa, al_sr, gf_sa, gf_sr, ai_pf, ai_sr, ra_pf, ra_sa, gf_pn, ai_sn, ra_sn, sa_sa, pf_pf, fi_sa, fi_sr, fi_pn, gO_pf, gO_sa, gO_sr, gA_pf, gA_sa, gA_sr, gR_pf, gR_sa, gR_sr, isAR_pf, isAR_sa, isAR_sr, okQ_pf, okQ_sa, okQ_sr, okC_pf, okC_sa, okC_sr, okQ_n, gB_t, wr_id, wr_ai, wr_fi, wr_wand, wr_wor, wr_wxor, wr_wshl, wr_wshr, wr_lt, wr_gt, Int.reduceEq, Int.reduceLT, Int.reduceLE, Int.reduceNeg, b01, b10, and_self, true_and, and_true, false_and, and_false, or_false, false_or, or_true, true_or, ite_not, not_true_eq_false, not_false_eq_true, kk_v, kk_0, reduceCtorEq, if_true, if_false, ite_true, ite_false, swt, Option.some.injEq, gO_ok, gA_ok, aSz_new, isO_nw, isA_nwE, al_nwA, ai_nwE, ai_se, nlI, nlQ, nlU, ba0, ba1, ba2, ba3, ba4, ne_eq, Nat.reduceAdd, Nat.reduceLT, Nat.reduceLeDiff, Nat.reduceEqDiff, Int.reduceAdd, Int.reduceToNat, Int.reduceNatCast, Int.reduceNatCast', zA]
  obtain ⟨k40, a40⟩ := nF_ok (k := 0) (N := 3240) hz hc ho g
  have e40 := jr_40 (d := d) hz ho
  generalize nF h 39 0 40 3240 = h40 at k40 a40 e40
  obtain ⟨k41, a41⟩ := nF_ok (k := 1) (N := 6) k40.1 k40.2.2.2.1 k40.2.2.1 k40.2.2.2.2.2
  have e41 := jr_41 (d := d) k40.1 k40.2.2.1
  generalize nF h40 39 1 41 6 = h41 at k41 a41 e41
  obtain ⟨k42, a42⟩ := nF_ok (k := 2) (N := 32400) k41.1 k41.2.2.2.1 k41.2.2.1 k41.2.2.2.2.2
  have e42 := jr_42 (d := d) k41.1 k41.2.2.1
  generalize nF h41 39 2 42 32400 = h42 at k42 a42 e42
  obtain ⟨k43, a43⟩ := nF_ok (k := 3) (N := 60) k42.1 k42.2.2.2.1 k42.2.2.1 k42.2.2.2.2.2
  have e43 := jr_43 (d := d) k42.1 k42.2.2.1
  generalize nF h42 39 3 43 60 = h43 at k43 a43 e43
  obtain ⟨k44, a44⟩ := nF_ok (k := 4) (N := 540) k43.1 k43.2.2.2.1 k43.2.2.1 k43.2.2.2.2.2
  have e44 := jr_44 (d := d) k43.1 k43.2.2.1
  generalize nF h43 39 4 44 540 = h44 at k44 a44 e44
  obtain ⟨k45, a45⟩ := nF_ok (k := 5) (N := 60) k44.1 k44.2.2.2.1 k44.2.2.1 k44.2.2.2.2.2
  have e45 := jr_45 (d := d) k44.1 k44.2.2.1
  generalize nF h44 39 5 45 60 = h45 at k45 a45 e45
  obtain ⟨k46, a46⟩ := nF_ok (k := 6) (N := 60) k45.1 k45.2.2.2.1 k45.2.2.1 k45.2.2.2.2.2
  have e46 := jr_46 (d := d) k45.1 k45.2.2.1
  generalize nF h45 39 6 46 60 = h46 at k46 a46 e46
  obtain ⟨k47, a47⟩ := nF_ok (k := 7) (N := 60) k46.1 k46.2.2.2.1 k46.2.2.1 k46.2.2.2.2.2
  have e47 := jr_47 (d := d) k46.1 k46.2.2.1
  generalize nF h46 39 7 47 60 = h47 at k47 a47 e47
  obtain ⟨k48, a48⟩ := nF_ok (k := 8) (N := 60) k47.1 k47.2.2.2.1 k47.2.2.1 k47.2.2.2.2.2
  have e48 := jr_48 (d := d) k47.1 k47.2.2.1
  generalize nF h47 39 8 48 60 = h48 at k48 a48 e48
  obtain ⟨k49, a49⟩ := nF_ok (k := 9) (N := 60) k48.1 k48.2.2.2.1 k48.2.2.1 k48.2.2.2.2.2
  have e49 := jr_49 (d := d) k48.1 k48.2.2.1
  generalize nF h48 39 9 49 60 = h49 at k49 a49 e49
  obtain ⟨k50, a50⟩ := nF_ok (k := 10) (N := 60) k49.1 k49.2.2.2.1 k49.2.2.1 k49.2.2.2.2.2
  have e50 := jr_50 (d := d) k49.1 k49.2.2.1
  generalize nF h49 39 10 50 60 = h50 at k50 a50 e50
  obtain ⟨k51, a51⟩ := nF_ok (k := 11) (N := 60) k50.1 k50.2.2.2.1 k50.2.2.1 k50.2.2.2.2.2
  have e51 := jr_51 (d := d) k50.1 k50.2.2.1
  generalize nF h50 39 11 51 60 = h51 at k51 a51 e51
  obtain ⟨k52, a52⟩ := nF_ok (k := 12) (N := 8) k51.1 k51.2.2.2.1 k51.2.2.1 k51.2.2.2.2.2
  have e52 := jr_52 (d := d) k51.1 k51.2.2.1
  generalize nF h51 39 12 52 8 = h52 at k52 a52 e52
  obtain ⟨k53, a53⟩ := nF_ok (k := 13) (N := 20) k52.1 k52.2.2.2.1 k52.2.2.1 k52.2.2.2.2.2
  have e53 := jr_53 (d := d) k52.1 k52.2.2.1
  generalize nF h52 39 13 53 20 = h53 at k53 a53 e53
  obtain ⟨k54, a54⟩ := nG_ok (k := 14) (N := 6) (f := f54) k53.1 k53.2.2.2.1 k53.2.2.1 k53.2.2.2.2.2 inr_54
  have e54 := jr_54 (d := d) k53.1 k53.2.2.1
  generalize nG h53 39 14 54 6 f54 = h54 at k54 a54 e54
  obtain ⟨k55, a55⟩ := nF_ok (k := 15) (N := 36800) k54.1 k54.2.2.2.1 k54.2.2.1 k54.2.2.2.2.2
  have e55 := jr_55 (d := d) k54.1 k54.2.2.1
  generalize nF h54 39 15 55 36800 = h55 at k55 a55 e55
  obtain ⟨k56, a56⟩ := nF_ok (k := 19) (N := 441) k55.1 k55.2.2.2.1 k55.2.2.1 k55.2.2.2.2.2
  have e56 := jr_56 (d := d) k55.1 k55.2.2.1
  generalize nF h55 39 19 56 441 = h56 at k56 a56 e56
  obtain ⟨k57, a57⟩ := nF_ok (k := 20) (N := 20) k56.1 k56.2.2.2.1 k56.2.2.1 k56.2.2.2.2.2
  have e57 := jr_57 (d := d) k56.1 k56.2.2.1
  generalize nF h56 39 20 57 20 = h57 at k57 a57 e57
  obtain ⟨k58, a58⟩ := nF_ok (k := 22) (N := 6) k57.1 k57.2.2.2.1 k57.2.2.1 k57.2.2.2.2.2
  have e58 := jr_58 (d := d) k57.1 k57.2.2.1
  generalize nF h57 39 22 58 6 = h58 at k58 a58 e58
  obtain ⟨k59, a59⟩ := nF_ok (k := 24) (N := 36864) k58.1 k58.2.2.2.1 k58.2.2.1 k58.2.2.2.2.2
  have e59 := jr_59 (d := d) k58.1 k58.2.2.1
  generalize nF h58 39 24 59 36864 = h59 at k59 a59 e59
  obtain ⟨k60, a60⟩ := nF_ok (k := 25) (N := 48) k59.1 k59.2.2.2.1 k59.2.2.1 k59.2.2.2.2.2
  have e60 := jr_60 (d := d) k59.1 k59.2.2.1
  generalize nF h59 39 25 60 48 = h60 at k60 a60 e60
  obtain ⟨k61, a61⟩ := nG_ok (k := 26) (N := 6) (f := f61) k60.1 k60.2.2.2.1 k60.2.2.1 k60.2.2.2.2.2 inr_61
  have e61 := jr_61 (d := d) k60.1 k60.2.2.1
  generalize nG h60 39 26 61 6 f61 = h61 at k61 a61 e61
  obtain ⟨k62, a62⟩ := nF_ok (k := 27) (N := 50) k61.1 k61.2.2.2.1 k61.2.2.1 k61.2.2.2.2.2
  have e62 := jr_62 (d := d) k61.1 k61.2.2.1
  generalize nF h61 39 27 62 50 = h62 at k62 a62 e62
  obtain ⟨k63, a63⟩ := nF_ok (k := 29) (N := 4) k62.1 k62.2.2.2.1 k62.2.2.1 k62.2.2.2.2.2
  have e63 := jr_63 (d := d) k62.1 k62.2.2.1
  generalize nF h62 39 29 63 4 = h63 at k63 a63 e63
  obtain ⟨k64, a64⟩ := nF_ok (k := 30) (N := 4) k63.1 k63.2.2.2.1 k63.2.2.1 k63.2.2.2.2.2
  have e64 := jr_64 (d := d) k63.1 k63.2.2.1
  generalize nF h63 39 30 64 4 = h64 at k64 a64 e64
  obtain ⟨k65, a65⟩ := nF_ok (k := 31) (N := 160) k64.1 k64.2.2.2.1 k64.2.2.1 k64.2.2.2.2.2
  have e65 := jr_65 (d := d) k64.1 k64.2.2.1
  generalize nF h64 39 31 65 160 = h65 at k65 a65 e65
  have Z65 : ∀ b, b < 66 → b ≠ 39 → aCo h65 b = aCo h65 b := fun _ _ _ => rfl
  have Z64 : ∀ b, b < 65 → b ≠ 39 → aCo h65 b = aCo h64 b := fun b h1 h2 => (Z65 b (by omega) h2).trans (k65.at (by rw [k64.1]; exact h1) h2)
  have Z63 : ∀ b, b < 64 → b ≠ 39 → aCo h65 b = aCo h63 b := fun b h1 h2 => (Z64 b (by omega) h2).trans (k64.at (by rw [k63.1]; exact h1) h2)
  have Z62 : ∀ b, b < 63 → b ≠ 39 → aCo h65 b = aCo h62 b := fun b h1 h2 => (Z63 b (by omega) h2).trans (k63.at (by rw [k62.1]; exact h1) h2)
  have Z61 : ∀ b, b < 62 → b ≠ 39 → aCo h65 b = aCo h61 b := fun b h1 h2 => (Z62 b (by omega) h2).trans (k62.at (by rw [k61.1]; exact h1) h2)
  have Z60 : ∀ b, b < 61 → b ≠ 39 → aCo h65 b = aCo h60 b := fun b h1 h2 => (Z61 b (by omega) h2).trans (k61.at (by rw [k60.1]; exact h1) h2)
  have Z59 : ∀ b, b < 60 → b ≠ 39 → aCo h65 b = aCo h59 b := fun b h1 h2 => (Z60 b (by omega) h2).trans (k60.at (by rw [k59.1]; exact h1) h2)
  have Z58 : ∀ b, b < 59 → b ≠ 39 → aCo h65 b = aCo h58 b := fun b h1 h2 => (Z59 b (by omega) h2).trans (k59.at (by rw [k58.1]; exact h1) h2)
  have Z57 : ∀ b, b < 58 → b ≠ 39 → aCo h65 b = aCo h57 b := fun b h1 h2 => (Z58 b (by omega) h2).trans (k58.at (by rw [k57.1]; exact h1) h2)
  have Z56 : ∀ b, b < 57 → b ≠ 39 → aCo h65 b = aCo h56 b := fun b h1 h2 => (Z57 b (by omega) h2).trans (k57.at (by rw [k56.1]; exact h1) h2)
  have Z55 : ∀ b, b < 56 → b ≠ 39 → aCo h65 b = aCo h55 b := fun b h1 h2 => (Z56 b (by omega) h2).trans (k56.at (by rw [k55.1]; exact h1) h2)
  have Z54 : ∀ b, b < 55 → b ≠ 39 → aCo h65 b = aCo h54 b := fun b h1 h2 => (Z55 b (by omega) h2).trans (k55.at (by rw [k54.1]; exact h1) h2)
  have Z53 : ∀ b, b < 54 → b ≠ 39 → aCo h65 b = aCo h53 b := fun b h1 h2 => (Z54 b (by omega) h2).trans (k54.at (by rw [k53.1]; exact h1) h2)
  have Z52 : ∀ b, b < 53 → b ≠ 39 → aCo h65 b = aCo h52 b := fun b h1 h2 => (Z53 b (by omega) h2).trans (k53.at (by rw [k52.1]; exact h1) h2)
  have Z51 : ∀ b, b < 52 → b ≠ 39 → aCo h65 b = aCo h51 b := fun b h1 h2 => (Z52 b (by omega) h2).trans (k52.at (by rw [k51.1]; exact h1) h2)
  have Z50 : ∀ b, b < 51 → b ≠ 39 → aCo h65 b = aCo h50 b := fun b h1 h2 => (Z51 b (by omega) h2).trans (k51.at (by rw [k50.1]; exact h1) h2)
  have Z49 : ∀ b, b < 50 → b ≠ 39 → aCo h65 b = aCo h49 b := fun b h1 h2 => (Z50 b (by omega) h2).trans (k50.at (by rw [k49.1]; exact h1) h2)
  have Z48 : ∀ b, b < 49 → b ≠ 39 → aCo h65 b = aCo h48 b := fun b h1 h2 => (Z49 b (by omega) h2).trans (k49.at (by rw [k48.1]; exact h1) h2)
  have Z47 : ∀ b, b < 48 → b ≠ 39 → aCo h65 b = aCo h47 b := fun b h1 h2 => (Z48 b (by omega) h2).trans (k48.at (by rw [k47.1]; exact h1) h2)
  have Z46 : ∀ b, b < 47 → b ≠ 39 → aCo h65 b = aCo h46 b := fun b h1 h2 => (Z47 b (by omega) h2).trans (k47.at (by rw [k46.1]; exact h1) h2)
  have Z45 : ∀ b, b < 46 → b ≠ 39 → aCo h65 b = aCo h45 b := fun b h1 h2 => (Z46 b (by omega) h2).trans (k46.at (by rw [k45.1]; exact h1) h2)
  have Z44 : ∀ b, b < 45 → b ≠ 39 → aCo h65 b = aCo h44 b := fun b h1 h2 => (Z45 b (by omega) h2).trans (k45.at (by rw [k44.1]; exact h1) h2)
  have Z43 : ∀ b, b < 44 → b ≠ 39 → aCo h65 b = aCo h43 b := fun b h1 h2 => (Z44 b (by omega) h2).trans (k44.at (by rw [k43.1]; exact h1) h2)
  have Z42 : ∀ b, b < 43 → b ≠ 39 → aCo h65 b = aCo h42 b := fun b h1 h2 => (Z43 b (by omega) h2).trans (k43.at (by rw [k42.1]; exact h1) h2)
  have Z41 : ∀ b, b < 42 → b ≠ 39 → aCo h65 b = aCo h41 b := fun b h1 h2 => (Z42 b (by omega) h2).trans (k42.at (by rw [k41.1]; exact h1) h2)
  have Z40 : ∀ b, b < 41 → b ≠ 39 → aCo h65 b = aCo h40 b := fun b h1 h2 => (Z41 b (by omega) h2).trans (k41.at (by rw [k40.1]; exact h1) h2)
  have F : CO h h65 39 10 _ 66 _ := (((((((((((((((((((((((((k40.trans k41).trans k42).trans k43).trans k44).trans k45).trans k46).trans k47).trans k48).trans k49).trans k50).trans k51).trans k52).trans k53).trans k54).trans k55).trans k56).trans k57).trans k58).trans k59).trans k60).trans k61).trans k62).trans k63).trans k64).trans k65)
  refine ⟨h65, ?_, F.2.2.2.2.1, k65.2.2.2.2.2, ⟨k65.1, ?_⟩, k65.2.2.2.1, (Z40 40 (by decide) (by decide)).trans a40, (Z41 41 (by decide) (by decide)).trans a41, (Z42 42 (by decide) (by decide)).trans a42, (Z43 43 (by decide) (by decide)).trans a43, (Z44 44 (by decide) (by decide)).trans a44, (Z45 45 (by decide) (by decide)).trans a45, (Z46 46 (by decide) (by decide)).trans a46, (Z47 47 (by decide) (by decide)).trans a47, (Z48 48 (by decide) (by decide)).trans a48, (Z49 49 (by decide) (by decide)).trans a49, (Z50 50 (by decide) (by decide)).trans a50, (Z51 51 (by decide) (by decide)).trans a51, (Z52 52 (by decide) (by decide)).trans a52, (Z53 53 (by decide) (by decide)).trans a53, (Z54 54 (by decide) (by decide)).trans a54, (Z55 55 (by decide) (by decide)).trans a55, (Z56 56 (by decide) (by decide)).trans a56, (Z57 57 (by decide) (by decide)).trans a57, (Z58 58 (by decide) (by decide)).trans a58, (Z59 59 (by decide) (by decide)).trans a59, (Z60 60 (by decide) (by decide)).trans a60, (Z61 61 (by decide) (by decide)).trans a61, (Z62 62 (by decide) (by decide)).trans a62, (Z63 63 (by decide) (by decide)).trans a63, (Z64 64 (by decide) (by decide)).trans a64, (Z65 65 (by decide) (by decide)).trans a65⟩
  · rw [E0, e40, e41, e42, e43, e44, e45, e46, e47, e48, e49, e50, e51, e52, e53, e54, e55, e56, e57, e58, e59, e60, e61, e62, e63, e64, e65]
    simp (maxDischargeDepth := 400) (maxSteps := 20000000) only [u_R_init_270, wr_id, wr_ai, wr_fi, wr_wand, wr_wor, wr_wxor, wr_wshl, wr_wshr, wr_lt, wr_gt, Int.reduceEq, Int.reduceLT, Int.reduceLE, Int.reduceNeg, b01, b10, and_self, true_and, and_true, false_and, and_false, or_false, false_or, or_true, true_or, ite_not, not_true_eq_false, not_false_eq_true, kk_v, kk_0, reduceCtorEq, if_true, if_false, ite_true, ite_false, swt, Option.some.injEq]
  · rw [F.2.1]
    omega
end INR
