/-! the constructors -/
section INI
variable {d : Nat} {h h0 : aH} {a b c n k m : Nat} {ce : aC} {f : Int → Int} {p : Int → Option Nat}
theorem isO_nw (ho : isO h b c = true) : isO (aNew h ce n) b c = true := by rw [isO_new (isO_lt ho)]; exact ho
theorem isA_nw (ho : isA h b = true) : isA (aNew h ce n) b = true := by rw [isA_new (isA_lt ho)]; exact ho
theorem isR_nw (ho : isR h b c = true) : isR (aNew h ce n) b c = true := by rw [isR_new (isR_lt ho)]; exact ho
theorem isO_nwE (e : aSz h = b) (h3 : 3 ≤ b) : isO (aNew h (.inl (c, aDf c)) n) b c = true := by
  subst e
  exact isO_new1 h3 (by unfold aDf; rw [List.length_map, List.length_range])
theorem isA_nwE (e : aSz h = b) : isA (aNew h (.inr (.inl (m, f))) n) b = true := by subst e; exact isA_new1
theorem al_nwA (e : aSz h = b) : al (aNew h (.inr (.inl (m, f))) n) b = m := by subst e; exact al_newA
theorem ai_nwE (e : aSz h = b) : ai (aNew h (.inr (.inl (m, f))) n) b = f := by subst e; exact ai_newA
theorem isR_nwE (e : aSz h = b) (h3 : 3 ≤ b) : isR (aNew h (.inr (.inr (c, m, p))) n) b c = true := by subst e; exact isR_new1 h3
theorem al_nwR (e : aSz h = b) : al (aNew h (.inr (.inr (c, m, p))) n) b = m := by subst e; exact al_newR
theorem ra_nwE (e : aSz h = b) : ra (aNew h (.inr (.inr (c, m, p))) n) b = p := by subst e; exact ra_newR
theorem ra_se0 (e : isR h a 0 = true) : ra (sr h a p) a = p := ra_se e
theorem ra_se3 (e : isR h a 3 = true) : ra (sr h a p) a = p := ra_se e
theorem gf_pe7 (e : isO h a 7 = true) (hk : k < 10) {v : aV} : gf (pf h a k v) a k = v := gf_pe e hk
theorem gf_pe9 (e : isO h a 9 = true) (hk : k < 10) {v : aV} : gf (pf h a k v) a k = v := gf_pe e hk
theorem okQ_0e (e : isO h b 4 = true) : okQ h 0 (some b) = true := e
theorem okQ_3e (e : isO h b 6 = true) : okQ h 3 (some b) = true := e
theorem isO_c {fs : List aV} (e : aCo h a = .inl (c, fs)) (h3 : 3 ≤ a) (h4 : a < aSz h) (h5 : fs.length = aNf c) : isO h a c = true := by
  unfold isO
  rw [e]
  simp [h3, h4, h5]
theorem isA_c (e : aCo h a = .inr (.inl (n, f))) (h4 : a < aSz h) : isA h a = true := by
  unfold isA
  rw [e]
  simp [h4]
theorem isR_c (e : aCo h a = .inr (.inr (c, n, p))) (h3 : 3 ≤ a) (h4 : a < aSz h) : isR h a c = true := by
  unfold isR
  rw [e]
  simp [h3, h4]
theorem aDf0 : aDf 0 = [aQ none, aI 0] := rfl
theorem aDf2 : aDf 2 = [aQ none, aQ none, aI 0, aQ none, aQ none, aI 0, aI 0] := rfl
theorem aDf4 : aDf 4 = [aQ none] := rfl
theorem aDf5 : aDf 5 = [aI 0, aQ none, aQ none, aI 0, aQ none, aQ none] := rfl
theorem aDf6 : aDf 6 = [aI 0, aI 0, aQ none] := rfl
theorem aDf7 : aDf 7 = [aI 0, aQ none, aI 0, aI 0, aI 0, aI 0, aQ none, aQ none, aI 0, aQ none] := rfl
theorem aDf8 : aDf 8 = [aQ none] := rfl
theorem aDf9 : aDf 9 = [aQ none, aQ none, aQ none, aQ none, aQ none, aQ none, aQ none, aI 0, aI 0, aI 0] := rfl
theorem aNfs : aNf 0 = 2 ∧ aNf 2 = 7 ∧ aNf 4 = 1 ∧ aNf 5 = 6 ∧ aNf 6 = 3 ∧ aNf 7 = 10 ∧ aNf 8 = 1 ∧ aNf 9 = 10 ∧ aNf 10 = 32 := ⟨rfl, rfl, rfl, rfl, rfl, rfl, rfl, rfl, rfl⟩
/-- the pages of a new state -/
def pgs (q : Nat) : Int → Option Nat := upf (upf (upf (upf (upf (upf (fun _ => none) 0 (some q)) 1 (some q)) 2 (some q)) 3 (some q)) 4 (some q)) 5 (some q)
/-- the sheets of a new object -/
def shs : Int → Option Nat := upf (upf (upf (upf (fun _ => none) 0 (some 31)) 1 (some 33)) 2 (some 35)) 3 (some 37)
def zA (n : Nat) : aC := .inr (.inl (n, fun _ => 0))
def oSt (q : Nat) : aC := .inl (7, [aI 0, aQ (some q), aI 0, aI 0, aI 50, aI 0, aQ (some (q + 1)), aQ (some (q + 2)), aI 0, aQ (some (q + 3))])
def nR (c n : Nat) : aC := .inr (.inr (c, n, fun _ => none))
set_option maxHeartbeats 4000000 in
set_option maxRecDepth 20000 in
theorem i_C (hz : aSz h = 4) (hc : aCo h 3 = .inl (9, aDf 9)) (g : Rg h) : ∃ h', ev (d + 3) M_C_init [aQ (some 3)] h = some (none, h') ∧ Fr [3] h h' ∧ Rg h' ∧ (aSz h' = 39 ∧ aSl h' ≤ aSl h + 4000) ∧
    (aCo h' 3 = .inl (9, [aQ (some 4), aQ (some 11), aQ (some 18), aQ (some 21), aQ (some 23), aQ (some 28), aQ (some 30), aI 0, aI 0, aI 0])) ∧
    (aCo h' 4 = oSt 5 ∧ aCo h' 5 = zA 8 ∧ aCo h' 6 = zA 20 ∧ aCo h' 7 = .inr (.inr (0, 6, pgs 9)) ∧ aCo h' 8 = nR 1 60 ∧ aCo h' 9 = .inl (4, [aQ (some 10)]) ∧ aCo h' 10 = nR 2 0) ∧
    (aCo h' 11 = oSt 12 ∧ aCo h' 12 = zA 8 ∧ aCo h' 13 = zA 20 ∧ aCo h' 14 = .inr (.inr (0, 6, pgs 16)) ∧ aCo h' 15 = nR 1 60 ∧ aCo h' 16 = .inl (4, [aQ (some 17)]) ∧ aCo h' 17 = nR 2 0) ∧
    (aCo h' 18 = .inl (2, [aQ (some 19), aQ (some 20), aI 0, aQ none, aQ none, aI 0, aI 0]) ∧ aCo h' 19 = zA 441 ∧ aCo h' 20 = zA 20) ∧
    (aCo h' 21 = .inl (8, [aQ (some 22)]) ∧ aCo h' 22 = zA 6) ∧
    (aCo h' 23 = .inl (5, [aI 0, aQ (some 24), aQ (some 25), aI 0, aQ (some 26), aQ (some 27)]) ∧ aCo h' 24 = zA 8 ∧ aCo h' 25 = zA 6 ∧ aCo h' 26 = zA 48 ∧ aCo h' 27 = zA 2304) ∧
    (aCo h' 28 = .inl (0, [aQ (some 29), aI 0]) ∧ aCo h' 29 = zA 50) ∧ aCo h' 30 = .inr (.inr (3, 4, shs)) ∧
    (aCo h' 31 = .inl (6, [aI (-1), aI 0, aQ (some 32)]) ∧ aCo h' 32 = zA 40 ∧ aCo h' 33 = .inl (6, [aI (-1), aI 0, aQ (some 34)]) ∧ aCo h' 34 = zA 40 ∧ aCo h' 35 = .inl (6, [aI (-1), aI 0, aQ (some 36)]) ∧ aCo h' 36 = zA 40 ∧ aCo h' 37 = .inl (6, [aI (-1), aI 0, aQ (some 38)]) ∧ aCo h' 38 = zA 40) := by
  have ho : isO h 3 9 = true := isO_c hc (by decide) (by omega) rfl
  apply Exists.intro
  refine ⟨?_, ?_⟩
  · rw [n_C_init]
    simp (maxDischargeDepth := 400) only [u_C_init_0, u_C_init_1, u_C_init_4, u_C_init_5, u_C_init_8, u_C_init_9, u_C_init_12, u_C_init_15, u_C_init_16, u_C_init_19, u_C_init_20, u_C_init_23, u_C_init_26, u_C_init_27, u_C_init_30, u_C_init_31, u_C_init_34, u_C_init_37, u_C_init_38, u_C_init_41, u_C_init_42, u_C_init_45, u_C_init_48, u_C_init_49, u_C_init_52, u_C_init_53, u_C_init_56, u_C_init_59, u_C_init_60, u_C_init_63, u_C_init_64, u_C_init_67, u_C_init_70, u_C_init_71, u_C_init_72, u_C_init_75, u_C_init_78, u_C_init_79, u_C_init_81, u_C_init_82, u_C_init_85, u_C_init_86, u_C_init_89, u_C_init_90, u_C_init_93, u_C_init_94, u_C_init_97, u_C_init_98, u_C_init_101, u_C_init_104, u_C_init_80, n_St_init, u_St_init_0, u_St_init_1, u_St_init_4, u_St_init_5, u_St_init_7, u_St_init_9, u_St_init_12, u_St_init_13, u_St_init_15, u_St_init_18, u_St_init_19, u_St_init_21, u_St_init_23, u_St_init_26, u_St_init_27, u_St_init_29, u_St_init_32, u_St_init_35, u_St_init_36, u_St_init_38, u_St_init_41, u_St_init_44, u_St_init_47, u_St_init_48, u_St_init_49, u_St_init_52, u_St_init_55, u_St_init_56, u_St_init_57, u_St_init_59, u_St_init_61, u_St_init_64, u_St_init_65, u_St_init_68, u_St_init_69, u_St_init_70, u_St_init_71, u_St_init_74, u_St_init_77, u_St_init_58, n_Pg_init, u_Pg_init_0, u_Pg_init_1, u_Pg_init_4, u_Pg_init_5, u_Pg_init_6, u_Pg_init_9, n_Kp_init, u_Kp_init_0, u_Kp_init_1, u_Kp_init_4, u_Kp_init_5, u_Kp_init_8, u_Kp_init_10, u_Kp_init_13, u_Kp_init_14, u_Kp_init_16, u_Kp_init_18, u_Kp_init_21, n_Te_init, u_Te_init_0, u_Te_init_1, u_Te_init_4, u_Te_init_5, u_Te_init_7, u_Te_init_9, u_Te_init_12, n_Pl_init, u_Pl_init_0, u_Pl_init_1, u_Pl_init_4, u_Pl_init_5, u_Pl_init_7, u_Pl_init_9, u_Pl_init_12, u_Pl_init_13, u_Pl_init_15, u_Pl_init_17, u_Pl_init_20, u_Pl_init_21, u_Pl_init_23, u_Pl_init_25, u_Pl_init_28, u_Pl_init_29, u_Pl_init_32, u_Pl_init_34, u_Pl_init_37, n_A_init, u_A_init_0, u_A_init_1, u_A_init_4, u_A_init_5, u_A_init_7, u_A_init_9, u_A_init_12, n_Sh_init, u_Sh_init_0, u_Sh_init_1, u_Sh_init_4, u_Sh_init_5, u_Sh_init_6, u_Sh_init_9, u_Sh_init_10, u_Sh_init_12, u_Sh_init_14, u_Sh_init_17, aSz_pf, aSz_sa, aSz_sr, isO_pf, isO_sa, isO_sr, isA_pf, isA_sa, isA_sr, isR_pf, isR_sa, isR_sr, al_pf, al_sa, al_sr, gf_sa, gf_sr, ai_pf, ai_sr, ra_pf, ra_sa, gf_pn, ai_sn, ra_sn, sa_sa, pf_pf, fi_sa, fi_sr, fi_pn, gO_pf, gO_sa, gO_sr, gA_pf, gA_sa, gA_sr, gR_pf, gR_sa, gR_sr, isAR_pf, isAR_sa, isAR_sr, okQ_pf, okQ_sa, okQ_sr, okC_pf, okC_sa, okC_sr, okQ_n, gB_t, wr_id, wr_ai, wr_fi, wr_wand, wr_wor, wr_wxor, wr_wshl, wr_wshr, wr_lt, wr_gt, Int.reduceEq, Int.reduceLT, Int.reduceLE, Int.reduceNeg, b01, b10, and_self, true_and, and_true, false_and, and_false, or_false, false_or, or_true, true_or, ite_not, not_true_eq_false, not_false_eq_true, kk_v, kk_0, reduceCtorEq, if_true, if_false, ite_true, ite_false, swt, Option.some.injEq, gO_ok, gA_ok, gR_ok, ho, hz, aSz_new, isO_nw, isO_nwE, isR_nw, isR_nwE, al_new, al_nwR, ra_new, ra_nwE, ra_se0, ra_se3, sr_sr, gf_pe7, gf_pe9, gf_new, okQ_0e, okQ_3e, aNl_I, aNl_Q, aNl_U, bl0, bl1, bl2, bl3, bl4, ne_eq, Nat.reduceAdd, Nat.reduceLT, Nat.reduceLeDiff, Nat.reduceEqDiff, Int.reduceAdd, Int.reduceToNat, Int.reduceNatCast, Int.reduceNatCast', ra_sn, al_sr]
    rfl
  · refine ⟨?_, ?_, ⟨?_, ?_⟩, ?_⟩
    · repeat first
        | exact Fr.refl
        | refine Fr.new ?_
        | refine Fr.pf ?_ (Or.inr (by decide))
        | refine Fr.pf ?_ (Or.inl (by omega))
        | refine Fr.sr ?_ (Or.inl (by omega))
    · repeat first
        | exact g
        | refine Rg_newO ?_
        | refine Rg_newA ?_
        | refine Rg_newR ?_
        | refine Rg_pfQ ?_
        | refine Rg_pf ?_ ⟨by decide, by decide⟩
        | refine Rg_sr ?_
    · simp only [aSz_pf, aSz_sa, aSz_sr, isO_pf, isO_sa, isO_sr, isA_pf, isA_sa, isA_sr, isR_pf, isR_sa, isR_sr, al_pf, al_sa, al_sr, gf_sa, gf_sr, ai_pf, ai_sr, ra_pf, ra_sa, gf_pn, ai_sn, ra_sn, sa_sa, pf_pf, fi_sa, fi_sr, fi_pn, gO_pf, gO_sa, gO_sr, gA_pf, gA_sa, gA_sr, gR_pf, gR_sa, gR_sr, isAR_pf, isAR_sa, isAR_sr, okQ_pf, okQ_sa, okQ_sr, okC_pf, okC_sa, okC_sr, okQ_n, gB_t, aSz_new, hz, Nat.reduceAdd]
    · simp only [aSl_pf, aSl_sr, aSl_new, aNfs]
      omega
    · simp only [aCo_pf, aCo_sr, aCo_new, aSz_pf, aSz_sa, aSz_sr, isO_pf, isO_sa, isO_sr, isA_pf, isA_sa, isA_sr, isR_pf, isR_sa, isR_sr, al_pf, al_sa, al_sr, gf_sa, gf_sr, ai_pf, ai_sr, ra_pf, ra_sa, gf_pn, ai_sn, ra_sn, sa_sa, pf_pf, fi_sa, fi_sr, fi_pn, gO_pf, gO_sa, gO_sr, gA_pf, gA_sa, gA_sr, gR_pf, gR_sa, gR_sr, isAR_pf, isAR_sa, isAR_sr, okQ_pf, okQ_sa, okQ_sr, okC_pf, okC_sa, okC_sr, okQ_n, gB_t, aSz_new, hz, hc, Nat.reduceAdd, Nat.reduceEqDiff, if_true, if_false, ite_true, ite_false, aDf0, aDf2, aDf4, aDf5, aDf6, aDf7, aDf8, aDf9, List.set_cons_zero, List.set_cons_succ, oSt, zA, nR, pgs, shs, and_self]
end INI
