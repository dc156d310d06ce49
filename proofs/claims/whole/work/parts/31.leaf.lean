/-! leaves: what is in range; sums; the reference's small methods -/
def inr (x : Int) : Prop := -2147483648 ≤ x ∧ x < 2147483648
/-- all ints that the heap holds are in range -/
def Rg (h : aH) : Prop := (∀ a j, inr (ai h a j)) ∧ ∀ a k, inr (fi h a k)
theorem wr_ai {h : aH} {a : Nat} {j : Int} (g : Rg h) : wr (ai h a j) = ai h a j := wr_id (g.1 a j).1 (g.1 a j).2
theorem wr_fi {h : aH} {a k : Nat} (g : Rg h) : wr (fi h a k) = fi h a k := wr_id (g.2 a k).1 (g.2 a k).2
theorem wr_i32 (z : Int32) : wr z.toInt = z.toInt := by
  have h1 := Int32.le_toInt z
  have h2 := Int32.toInt_lt z
  exact wr_id (by omega) (by omega)
theorem wr_wand {x y : Int} : wr (wand x y) = wand x y := wr_i32 _
theorem wr_wor {x y : Int} : wr (wor x y) = wor x y := wr_i32 _
theorem wr_wxor {x y : Int} : wr (wxor x y) = wxor x y := wr_i32 _
theorem wr_wshl {x y : Int} : wr (wshl x y) = wshl x y := wr_i32 _
theorem wr_wshr {x y : Int} : wr (wshr x y) = wshr x y := wr_i32 _
theorem i64_small {x : Int} (h1 : -9223372036854775808 ≤ x) (h2 : x < 9223372036854775808) : (Int64.ofInt x).toInt = x := by
  rw [Int64.toInt_ofInt]
  exact Int.bmod_eq_of_le (by show -((18446744073709551616 : Nat) / 2 : Int) ≤ _; omega) (by show _ < (((18446744073709551616 : Nat) : Int) + 1) / 2; omega)
theorem wlt_eq {x y : Int} (h1 : -9223372036854775808 ≤ x) (h2 : x < 9223372036854775808) (h3 : -9223372036854775808 ≤ y) (h4 : y < 9223372036854775808) : wlt x y = if y < x then 1 else if x = y then 0 else -1 := by
  unfold wlt lg_cmp
  simp only [gt_iff_lt, Int64.lt_iff_toInt_lt, ← Int64.toInt_inj, i64_small h1 h2, i64_small h3 h4]
  split
  · rfl
  · split <;> rfl
theorem wr_lt {x y : Int} (h1 : -9223372036854775808 ≤ x) (h2 : x < 9223372036854775808) (h3 : -9223372036854775808 ≤ y) (h4 : y < 9223372036854775808) : (wr (wlt x y) < 0) = (x < y) := by
  rw [wlt_eq h1 h2 h3 h4]
  by_cases c1 : y < x
  · rw [if_pos c1, wr_id (by omega) (by omega)]
    simp; omega
  · rw [if_neg c1]
    by_cases c2 : x = y
    · rw [if_pos c2, wr_id (by omega) (by omega)]
      simp; omega
    · rw [if_neg c2, wr_id (by omega) (by omega)]
      simp; omega
theorem wr_gt {x y : Int} (h1 : -9223372036854775808 ≤ x) (h2 : x < 9223372036854775808) (h3 : -9223372036854775808 ≤ y) (h4 : y < 9223372036854775808) : (0 < wr (wlt x y)) = (y < x) := by
  rw [wlt_eq h1 h2 h3 h4]
  by_cases c1 : y < x
  · rw [if_pos c1, wr_id (by omega) (by omega)]
    simp; omega
  · rw [if_neg c1]
    by_cases c2 : x = y
    · rw [if_pos c2, wr_id (by omega) (by omega)]
      simp; omega
    · rw [if_neg c2, wr_id (by omega) (by omega)]
      simp; omega
theorem td10 {x : Int} (h1 : -200000 ≤ x) (h2 : x ≤ 200000) : -200000 ≤ x.tdiv 10 ∧ x.tdiv 10 ≤ 200000 := by
  rcases Int.le_total 0 x with h | h
  · rw [Int.tdiv_eq_ediv_of_nonneg h]; omega
  · have e : x.tdiv 10 = -((-x).tdiv 10) := by rw [Int.neg_tdiv, Int.neg_neg]
    rw [e, Int.tdiv_eq_ediv_of_nonneg (by omega)]; omega
theorem b01 {c : Prop} [Decidable c] : (wr (if c then (1 : Int) else 0) = 0) = ¬ c := by
  by_cases h : c
  · simp only [h, if_true, not_true_eq_false]; decide
  · simp only [h, if_false, not_false_eq_true]; decide
theorem b10 {c : Prop} [Decidable c] : (wr (if c then (1 : Int) else 0) = 1) = c := by
  by_cases h : c
  · simp only [h, if_true]; decide
  · simp only [h, if_false]; decide
/-- a sum of n terms from k on -/
def sumZ (f : Int → Int) : Int → Nat → Int
  | _, 0 => 0
  | k, n + 1 => f k + sumZ f (k + 1) n
theorem sumZ_congr {f g : Int → Int} : ∀ (n : Nat) (k : Int), (∀ j, k ≤ j → j < k + n → f j = g j) → sumZ f k n = sumZ g k n := by
  intro n
  induction n with
  | zero => intro k h; rfl
  | succ n ih =>
    intro k h
    unfold sumZ
    rw [h k (by omega) (by omega), ih (k + 1) (fun j h1 h2 => h j (by omega) (by omega))]
/-- what mark k of the line at o is worth to a person on a day -/
def ptsT (A : Int → Int) (o p d k : Int) : Int := if A (o + 3 + 3 * k) = p then (if 0 < A (o + 3 + 3 * k + 2) - (d - A (o + 3 + 3 * k + 1)).tdiv 10 then A (o + 3 + 3 * k + 2) - (d - A (o + 3 + 3 * k + 1)).tdiv 10 else 0) else 0
def pts (A : Int → Int) (o p d k : Int) : Int := sumZ (ptsT A o p d) k (A (o + 2) - k).toNat
/-- a line's block: its marks are in range -/
def BlkOK (A : Int → Int) (o : Int) : Prop := (0 ≤ A (o + 2) ∧ A (o + 2) ≤ 8) ∧ ∀ k, 0 ≤ k → k < A (o + 2) → (0 ≤ A (o + 3 + 3 * k) ∧ A (o + 3 + 3 * k) < 8) ∧ (0 ≤ A (o + 3 + 3 * k + 1) ∧ A (o + 3 + 3 * k + 1) ≤ 100000) ∧ (0 ≤ A (o + 3 + 3 * k + 2) ∧ A (o + 3 + 3 * k + 2) ≤ 8)
section LEAF
variable {d : Nat} {h : aH}
set_option maxRecDepth 100000 in
theorem l_R_pointsFrom (w : Sh h) (g : Rg h) {pe fl ii fs o dy : Int} (ho : 0 ≤ o ∧ o ≤ 3213) (hp : inr pe) (hd : ai h 54 4 = dy ∧ 0 ≤ dy ∧ dy ≤ 100000) (hB : BlkOK (ai h 40) o) : ∀ (n : Nat) (k s : Int) (v8 v9 : aV), 0 ≤ k → k ≤ 8 → (ai h 40 (o + 2) - k).toNat = n →
    ex (ev d) k_R_pointsFrom 19 [aQ (some 39), aI pe, aI fl, aI ii, aI fs, aI o, aI s, aI k, v8, v9] [] h = some (some (aI (s + sumZ (ptsT (ai h 40) o pe dy) k n)), h) := by
  obtain ⟨⟨b1, b2⟩, b3⟩ := hB
  obtain ⟨p1, p2⟩ := hp
  intro n
  induction n with
  | zero =>
    intro k s v8 v9 hk hk2 hn
    rw [u_R_pointsFrom_19]
    simp (disch := first | assumption | omega | exact aNl_I | exact aNl_Q | exact bl0 | exact bl1 | exact bl2 | exact bl3 | exact bl4 | exact aNl_U) only [u_R_pointsFrom_0, u_R_pointsFrom_3, u_R_pointsFrom_4, u_R_pointsFrom_5, u_R_pointsFrom_7, u_R_pointsFrom_8, u_R_pointsFrom_9, u_R_pointsFrom_10, u_R_pointsFrom_12, u_R_pointsFrom_13, u_R_pointsFrom_15, u_R_pointsFrom_17, u_R_pointsFrom_21, u_R_pointsFrom_22, u_R_pointsFrom_25, u_R_pointsFrom_27, u_R_pointsFrom_28, u_R_pointsFrom_29, u_R_pointsFrom_30, u_R_pointsFrom_33, u_R_pointsFrom_35, u_R_pointsFrom_36, u_R_pointsFrom_37, u_R_pointsFrom_38, u_R_pointsFrom_40, u_R_pointsFrom_41, u_R_pointsFrom_42, u_R_pointsFrom_44, u_R_pointsFrom_45, u_R_pointsFrom_48, u_R_pointsFrom_50, u_R_pointsFrom_51, u_R_pointsFrom_52, u_R_pointsFrom_53, u_R_pointsFrom_54, u_R_pointsFrom_57, u_R_pointsFrom_58, u_R_pointsFrom_59, u_R_pointsFrom_60, u_R_pointsFrom_63, u_R_pointsFrom_65, u_R_pointsFrom_66, u_R_pointsFrom_67, u_R_pointsFrom_68, u_R_pointsFrom_69, u_R_pointsFrom_71, u_R_pointsFrom_72, u_R_pointsFrom_73, u_R_pointsFrom_75, u_R_pointsFrom_77, u_R_pointsFrom_78, u_R_pointsFrom_81, u_R_pointsFrom_83, u_R_pointsFrom_84, u_R_pointsFrom_85, u_R_pointsFrom_88, u_R_pointsFrom_90, u_R_pointsFrom_93, u_R_pointsFrom_95, u_R_pointsFrom_98, u_R_pointsFrom_99, u_R_pointsFrom_100, u_R_pointsFrom_102, u_R_pointsFrom_105, u_R_pointsFrom_108, u_R_pointsFrom_110, aSz_pf, aSz_sa, aSz_sr, isO_pf, isO_sa, isO_sr, isA_pf, isA_sa, isA_sr, isR_pf, isR_sa, isR_sr, al_pf, al_sa, al_sr, gf_sa, gf_sr, ai_pf, ai_sr, ra_pf, ra_sa, gf_pn, ai_sn, ra_sn, sa_sa, pf_pf, fi_sa, fi_sr, fi_pn, gO_pf, gO_sa, gO_sr, gA_pf, gA_sa, gA_sr, gR_pf, gR_sa, gR_sr, isAR_pf, isAR_sa, isAR_sr, okQ_pf, okQ_sa, okQ_sr, okC_pf, okC_sa, okC_sr, okQ_n, gB_t, sg_3, sg_4, sg_9, sg_11, sg_16, sg_18, sg_21, sg_23, sg_28, sg_31, sg_33, sg_35, sg_37, sg_39, sq_3_0, sq_3_1, sq_3_2, sq_3_3, sq_3_4, sq_3_5, sq_3_6, sq_4_1, sq_4_6, sq_4_7, sq_4_9, sq_11_1, sq_11_6, sq_11_7, sq_11_9, sq_9_0, sq_16_0, sq_18_0, sq_18_1, sq_21_0, sq_23_1, sq_23_2, sq_23_4, sq_23_5, sq_28_0, sq_31_2, sq_33_2, sq_35_2, sq_37_2, sq_39_0, sq_39_1, sq_39_2, sq_39_3, sq_39_4, sq_39_5, sq_39_6, sq_39_7, sq_39_8, sq_39_9, sq_39_10, sq_39_11, sq_39_12, sq_39_13, sq_39_14, sq_39_15, sq_39_19, sq_39_20, sq_39_22, sq_39_24, sq_39_25, sq_39_26, sq_39_27, sq_39_29, sq_39_30, sq_39_31, si_3_7, si_3_8, si_3_9, si_4_0, si_4_2, si_4_3, si_4_4, si_4_5, si_4_8, si_11_0, si_11_2, si_11_3, si_11_4, si_11_5, si_11_8, si_18_2, si_18_5, si_18_6, si_23_0, si_23_3, si_28_1, si_31_0, si_31_1, si_33_0, si_33_1, si_35_0, si_35_1, si_37_0, si_37_1, si_39_16, si_39_17, si_39_18, si_39_21, si_39_23, si_39_28, sp_3_7, sp_3_8, sp_3_9, sp_4_0, sp_4_2, sp_4_3, sp_4_4, sp_4_5, sp_4_8, sp_11_0, sp_11_2, sp_11_3, sp_11_4, sp_11_5, sp_11_8, sp_18_2, sp_18_5, sp_18_6, sp_23_0, sp_23_3, sp_28_1, sp_31_0, sp_31_1, sp_33_0, sp_33_1, sp_35_0, sp_35_1, sp_37_0, sp_37_1, sp_39_16, sp_39_17, sp_39_18, sp_39_21, sp_39_23, sp_39_28, sf_3_7, sf_3_8, sf_3_9, sf_4_0, sf_4_2, sf_4_3, sf_4_4, sf_4_5, sf_4_8, sf_11_0, sf_11_2, sf_11_3, sf_11_4, sf_11_5, sf_11_8, sf_18_2, sf_18_5, sf_18_6, sf_23_0, sf_23_3, sf_28_1, sf_31_0, sf_31_1, sf_33_0, sf_33_1, sf_35_0, sf_35_1, sf_37_0, sf_37_1, sf_39_16, sf_39_17, sf_39_18, sf_39_21, sf_39_23, sf_39_28, sp_18_3, sp_18_4, sG_1, sG_2, sG_5, sG_6, sG_12, sG_13, sG_19, sG_20, sG_22, sG_24, sG_25, sG_26, sG_27, sG_29, sG_32, sG_34, sG_36, sG_38, sG_40, sG_41, sG_42, sG_43, sG_44, sG_45, sG_46, sG_47, sG_48, sG_49, sG_50, sG_51, sG_52, sG_53, sG_54, sG_55, sG_56, sG_57, sG_58, sG_59, sG_60, sG_61, sG_62, sG_63, sG_64, sG_65, sE_1, sE_2, sE_5, sE_6, sE_12, sE_13, sE_19, sE_20, sE_22, sE_24, sE_25, sE_26, sE_27, sE_29, sE_32, sE_34, sE_36, sE_38, sE_40, sE_41, sE_42, sE_43, sE_44, sE_45, sE_46, sE_47, sE_48, sE_49, sE_50, sE_51, sE_52, sE_53, sE_54, sE_55, sE_56, sE_57, sE_58, sE_59, sE_60, sE_61, sE_62, sE_63, sE_64, sE_65, sG_7, sG_8, sG_10, sG_14, sG_15, sG_17, sG_30, sE_7, sE_8, sE_10, sE_14, sE_15, sE_17, sE_30, sS_0, sS_1, sS_2, sS_3, wr_id, wr_ai, wr_fi, wr_wand, wr_wor, wr_wxor, wr_wshl, wr_wshr, wr_lt, wr_gt, Int.reduceEq, Int.reduceLT, Int.reduceLE, Int.reduceNeg, b01, b10, and_self, true_and, and_true, false_and, and_false, or_false, false_or, or_true, true_or, ite_not, not_true_eq_false, not_false_eq_true, kk_v, kk_0, reduceCtorEq, if_true, if_false, ite_true, ite_false, swt, Option.some.injEq]
    rw [if_neg (by omega)]
    unfold sumZ
    rw [Int.add_zero]
  | succ n ih =>
    intro k s v8 v9 hk hk2 hn
    obtain ⟨⟨q1, q2⟩, ⟨q3, q4⟩, ⟨q5, q6⟩⟩ := b3 k hk (by omega)
    have t1 := td10 (x := dy - ai h 40 (o + 3 + 3 * k + 1)) (by omega) (by omega)
    have hw : wr (ai h 40 (o + 3 + 3 * k + 2) - (dy - ai h 40 (o + 3 + 3 * k + 1)).tdiv 10) = ai h 40 (o + 3 + 3 * k + 2) - (dy - ai h 40 (o + 3 + 3 * k + 1)).tdiv 10 := wr_id (by omega) (by omega)
    rw [u_R_pointsFrom_19]
    simp (disch := first | assumption | omega | exact aNl_I | exact aNl_Q | exact bl0 | exact bl1 | exact bl2 | exact bl3 | exact bl4 | exact aNl_U) only [u_R_pointsFrom_0, u_R_pointsFrom_3, u_R_pointsFrom_4, u_R_pointsFrom_5, u_R_pointsFrom_7, u_R_pointsFrom_8, u_R_pointsFrom_9, u_R_pointsFrom_10, u_R_pointsFrom_12, u_R_pointsFrom_13, u_R_pointsFrom_15, u_R_pointsFrom_17, u_R_pointsFrom_21, u_R_pointsFrom_22, u_R_pointsFrom_25, u_R_pointsFrom_27, u_R_pointsFrom_28, u_R_pointsFrom_29, u_R_pointsFrom_30, u_R_pointsFrom_33, u_R_pointsFrom_35, u_R_pointsFrom_36, u_R_pointsFrom_37, u_R_pointsFrom_38, u_R_pointsFrom_40, u_R_pointsFrom_41, u_R_pointsFrom_42, u_R_pointsFrom_44, u_R_pointsFrom_45, u_R_pointsFrom_48, u_R_pointsFrom_50, u_R_pointsFrom_51, u_R_pointsFrom_52, u_R_pointsFrom_53, u_R_pointsFrom_54, u_R_pointsFrom_57, u_R_pointsFrom_58, u_R_pointsFrom_59, u_R_pointsFrom_60, u_R_pointsFrom_63, u_R_pointsFrom_65, u_R_pointsFrom_66, u_R_pointsFrom_67, u_R_pointsFrom_68, u_R_pointsFrom_69, u_R_pointsFrom_71, u_R_pointsFrom_72, u_R_pointsFrom_73, u_R_pointsFrom_75, u_R_pointsFrom_77, u_R_pointsFrom_78, u_R_pointsFrom_81, u_R_pointsFrom_83, u_R_pointsFrom_84, u_R_pointsFrom_85, u_R_pointsFrom_88, u_R_pointsFrom_90, u_R_pointsFrom_93, u_R_pointsFrom_95, u_R_pointsFrom_98, u_R_pointsFrom_99, u_R_pointsFrom_100, u_R_pointsFrom_102, u_R_pointsFrom_105, u_R_pointsFrom_108, u_R_pointsFrom_110, aSz_pf, aSz_sa, aSz_sr, isO_pf, isO_sa, isO_sr, isA_pf, isA_sa, isA_sr, isR_pf, isR_sa, isR_sr, al_pf, al_sa, al_sr, gf_sa, gf_sr, ai_pf, ai_sr, ra_pf, ra_sa, gf_pn, ai_sn, ra_sn, sa_sa, pf_pf, fi_sa, fi_sr, fi_pn, gO_pf, gO_sa, gO_sr, gA_pf, gA_sa, gA_sr, gR_pf, gR_sa, gR_sr, isAR_pf, isAR_sa, isAR_sr, okQ_pf, okQ_sa, okQ_sr, okC_pf, okC_sa, okC_sr, okQ_n, gB_t, sg_3, sg_4, sg_9, sg_11, sg_16, sg_18, sg_21, sg_23, sg_28, sg_31, sg_33, sg_35, sg_37, sg_39, sq_3_0, sq_3_1, sq_3_2, sq_3_3, sq_3_4, sq_3_5, sq_3_6, sq_4_1, sq_4_6, sq_4_7, sq_4_9, sq_11_1, sq_11_6, sq_11_7, sq_11_9, sq_9_0, sq_16_0, sq_18_0, sq_18_1, sq_21_0, sq_23_1, sq_23_2, sq_23_4, sq_23_5, sq_28_0, sq_31_2, sq_33_2, sq_35_2, sq_37_2, sq_39_0, sq_39_1, sq_39_2, sq_39_3, sq_39_4, sq_39_5, sq_39_6, sq_39_7, sq_39_8, sq_39_9, sq_39_10, sq_39_11, sq_39_12, sq_39_13, sq_39_14, sq_39_15, sq_39_19, sq_39_20, sq_39_22, sq_39_24, sq_39_25, sq_39_26, sq_39_27, sq_39_29, sq_39_30, sq_39_31, si_3_7, si_3_8, si_3_9, si_4_0, si_4_2, si_4_3, si_4_4, si_4_5, si_4_8, si_11_0, si_11_2, si_11_3, si_11_4, si_11_5, si_11_8, si_18_2, si_18_5, si_18_6, si_23_0, si_23_3, si_28_1, si_31_0, si_31_1, si_33_0, si_33_1, si_35_0, si_35_1, si_37_0, si_37_1, si_39_16, si_39_17, si_39_18, si_39_21, si_39_23, si_39_28, sp_3_7, sp_3_8, sp_3_9, sp_4_0, sp_4_2, sp_4_3, sp_4_4, sp_4_5, sp_4_8, sp_11_0, sp_11_2, sp_11_3, sp_11_4, sp_11_5, sp_11_8, sp_18_2, sp_18_5, sp_18_6, sp_23_0, sp_23_3, sp_28_1, sp_31_0, sp_31_1, sp_33_0, sp_33_1, sp_35_0, sp_35_1, sp_37_0, sp_37_1, sp_39_16, sp_39_17, sp_39_18, sp_39_21, sp_39_23, sp_39_28, sf_3_7, sf_3_8, sf_3_9, sf_4_0, sf_4_2, sf_4_3, sf_4_4, sf_4_5, sf_4_8, sf_11_0, sf_11_2, sf_11_3, sf_11_4, sf_11_5, sf_11_8, sf_18_2, sf_18_5, sf_18_6, sf_23_0, sf_23_3, sf_28_1, sf_31_0, sf_31_1, sf_33_0, sf_33_1, sf_35_0, sf_35_1, sf_37_0, sf_37_1, sf_39_16, sf_39_17, sf_39_18, sf_39_21, sf_39_23, sf_39_28, sp_18_3, sp_18_4, sG_1, sG_2, sG_5, sG_6, sG_12, sG_13, sG_19, sG_20, sG_22, sG_24, sG_25, sG_26, sG_27, sG_29, sG_32, sG_34, sG_36, sG_38, sG_40, sG_41, sG_42, sG_43, sG_44, sG_45, sG_46, sG_47, sG_48, sG_49, sG_50, sG_51, sG_52, sG_53, sG_54, sG_55, sG_56, sG_57, sG_58, sG_59, sG_60, sG_61, sG_62, sG_63, sG_64, sG_65, sE_1, sE_2, sE_5, sE_6, sE_12, sE_13, sE_19, sE_20, sE_22, sE_24, sE_25, sE_26, sE_27, sE_29, sE_32, sE_34, sE_36, sE_38, sE_40, sE_41, sE_42, sE_43, sE_44, sE_45, sE_46, sE_47, sE_48, sE_49, sE_50, sE_51, sE_52, sE_53, sE_54, sE_55, sE_56, sE_57, sE_58, sE_59, sE_60, sE_61, sE_62, sE_63, sE_64, sE_65, sG_7, sG_8, sG_10, sG_14, sG_15, sG_17, sG_30, sE_7, sE_8, sE_10, sE_14, sE_15, sE_17, sE_30, sS_0, sS_1, sS_2, sS_3, wr_id, wr_ai, wr_fi, wr_wand, wr_wor, wr_wxor, wr_wshl, wr_wshr, wr_lt, wr_gt, Int.reduceEq, Int.reduceLT, Int.reduceLE, Int.reduceNeg, b01, b10, and_self, true_and, and_true, false_and, and_false, or_false, false_or, or_true, true_or, ite_not, not_true_eq_false, not_false_eq_true, kk_v, kk_0, reduceCtorEq, if_true, if_false, ite_true, ite_false, swt, Option.some.injEq, hd.1, hw]
    rw [if_pos (by omega)]
    simp (disch := omega) only [ih]
    have e : sumZ (ptsT (ai h 40) o pe dy) k (n + 1) = ptsT (ai h 40) o pe dy k + sumZ (ptsT (ai h 40) o pe dy) (k + 1) n := rfl
    have e2 : ptsT (ai h 40) o pe dy k = if ai h 40 (o + 3 + 3 * k) = pe then (if 0 < ai h 40 (o + 3 + 3 * k + 2) - (dy - ai h 40 (o + 3 + 3 * k + 1)).tdiv 10 then ai h 40 (o + 3 + 3 * k + 2) - (dy - ai h 40 (o + 3 + 3 * k + 1)).tdiv 10 else 0) else 0 := rfl
    rw [e, e2, ← Int.add_assoc]
    by_cases c1 : ai h 40 (o + 3 + 3 * k) = pe
    · by_cases c2 : 0 < ai h 40 (o + 3 + 3 * k + 2) - (dy - ai h 40 (o + 3 + 3 * k + 1)).tdiv 10
      · simp only [c1, c2, if_true]
      · simp only [c1, c2, if_true, if_false]
    · simp only [c1, if_false]
/-- POINTS from the k-th mark on, of line i of a file -/
theorem m_R_pointsFrom (w : Sh h) (g : Rg h) {pe fl ii k dy : Int} (hf : 0 ≤ fl ∧ fl < 6) (hi : 0 ≤ ii ∧ ii < 20) (hp : inr pe) (hk : 0 ≤ k ∧ k ≤ 8) (hd : ai h 54 4 = dy ∧ 0 ≤ dy ∧ dy ≤ 100000) (hB : BlkOK (ai h 40) (540 * fl + 27 * ii)) :
    ev (d + 1) M_R_pointsFrom [aQ (some 39), aI pe, aI fl, aI ii, aI k] h = some (some (aI (pts (ai h 40) (540 * fl + 27 * ii) pe dy k)), h) := by
  rw [n_R_pointsFrom]
  simp (disch := first | assumption | omega | exact aNl_I | exact aNl_Q | exact bl0 | exact bl1 | exact bl2 | exact bl3 | exact bl4 | exact aNl_U) only [u_R_pointsFrom_0, u_R_pointsFrom_3, u_R_pointsFrom_4, u_R_pointsFrom_5, u_R_pointsFrom_7, u_R_pointsFrom_8, u_R_pointsFrom_9, u_R_pointsFrom_10, u_R_pointsFrom_12, u_R_pointsFrom_13, u_R_pointsFrom_15, u_R_pointsFrom_17, u_R_pointsFrom_21, u_R_pointsFrom_22, u_R_pointsFrom_25, u_R_pointsFrom_27, u_R_pointsFrom_28, u_R_pointsFrom_29, u_R_pointsFrom_30, u_R_pointsFrom_33, u_R_pointsFrom_35, u_R_pointsFrom_36, u_R_pointsFrom_37, u_R_pointsFrom_38, u_R_pointsFrom_40, u_R_pointsFrom_41, u_R_pointsFrom_42, u_R_pointsFrom_44, u_R_pointsFrom_45, u_R_pointsFrom_48, u_R_pointsFrom_50, u_R_pointsFrom_51, u_R_pointsFrom_52, u_R_pointsFrom_53, u_R_pointsFrom_54, u_R_pointsFrom_57, u_R_pointsFrom_58, u_R_pointsFrom_59, u_R_pointsFrom_60, u_R_pointsFrom_63, u_R_pointsFrom_65, u_R_pointsFrom_66, u_R_pointsFrom_67, u_R_pointsFrom_68, u_R_pointsFrom_69, u_R_pointsFrom_71, u_R_pointsFrom_72, u_R_pointsFrom_73, u_R_pointsFrom_75, u_R_pointsFrom_77, u_R_pointsFrom_78, u_R_pointsFrom_81, u_R_pointsFrom_83, u_R_pointsFrom_84, u_R_pointsFrom_85, u_R_pointsFrom_88, u_R_pointsFrom_90, u_R_pointsFrom_93, u_R_pointsFrom_95, u_R_pointsFrom_98, u_R_pointsFrom_99, u_R_pointsFrom_100, u_R_pointsFrom_102, u_R_pointsFrom_105, u_R_pointsFrom_108, u_R_pointsFrom_110, aSz_pf, aSz_sa, aSz_sr, isO_pf, isO_sa, isO_sr, isA_pf, isA_sa, isA_sr, isR_pf, isR_sa, isR_sr, al_pf, al_sa, al_sr, gf_sa, gf_sr, ai_pf, ai_sr, ra_pf, ra_sa, gf_pn, ai_sn, ra_sn, sa_sa, pf_pf, fi_sa, fi_sr, fi_pn, gO_pf, gO_sa, gO_sr, gA_pf, gA_sa, gA_sr, gR_pf, gR_sa, gR_sr, isAR_pf, isAR_sa, isAR_sr, okQ_pf, okQ_sa, okQ_sr, okC_pf, okC_sa, okC_sr, okQ_n, gB_t, sg_3, sg_4, sg_9, sg_11, sg_16, sg_18, sg_21, sg_23, sg_28, sg_31, sg_33, sg_35, sg_37, sg_39, sq_3_0, sq_3_1, sq_3_2, sq_3_3, sq_3_4, sq_3_5, sq_3_6, sq_4_1, sq_4_6, sq_4_7, sq_4_9, sq_11_1, sq_11_6, sq_11_7, sq_11_9, sq_9_0, sq_16_0, sq_18_0, sq_18_1, sq_21_0, sq_23_1, sq_23_2, sq_23_4, sq_23_5, sq_28_0, sq_31_2, sq_33_2, sq_35_2, sq_37_2, sq_39_0, sq_39_1, sq_39_2, sq_39_3, sq_39_4, sq_39_5, sq_39_6, sq_39_7, sq_39_8, sq_39_9, sq_39_10, sq_39_11, sq_39_12, sq_39_13, sq_39_14, sq_39_15, sq_39_19, sq_39_20, sq_39_22, sq_39_24, sq_39_25, sq_39_26, sq_39_27, sq_39_29, sq_39_30, sq_39_31, si_3_7, si_3_8, si_3_9, si_4_0, si_4_2, si_4_3, si_4_4, si_4_5, si_4_8, si_11_0, si_11_2, si_11_3, si_11_4, si_11_5, si_11_8, si_18_2, si_18_5, si_18_6, si_23_0, si_23_3, si_28_1, si_31_0, si_31_1, si_33_0, si_33_1, si_35_0, si_35_1, si_37_0, si_37_1, si_39_16, si_39_17, si_39_18, si_39_21, si_39_23, si_39_28, sp_3_7, sp_3_8, sp_3_9, sp_4_0, sp_4_2, sp_4_3, sp_4_4, sp_4_5, sp_4_8, sp_11_0, sp_11_2, sp_11_3, sp_11_4, sp_11_5, sp_11_8, sp_18_2, sp_18_5, sp_18_6, sp_23_0, sp_23_3, sp_28_1, sp_31_0, sp_31_1, sp_33_0, sp_33_1, sp_35_0, sp_35_1, sp_37_0, sp_37_1, sp_39_16, sp_39_17, sp_39_18, sp_39_21, sp_39_23, sp_39_28, sf_3_7, sf_3_8, sf_3_9, sf_4_0, sf_4_2, sf_4_3, sf_4_4, sf_4_5, sf_4_8, sf_11_0, sf_11_2, sf_11_3, sf_11_4, sf_11_5, sf_11_8, sf_18_2, sf_18_5, sf_18_6, sf_23_0, sf_23_3, sf_28_1, sf_31_0, sf_31_1, sf_33_0, sf_33_1, sf_35_0, sf_35_1, sf_37_0, sf_37_1, sf_39_16, sf_39_17, sf_39_18, sf_39_21, sf_39_23, sf_39_28, sp_18_3, sp_18_4, sG_1, sG_2, sG_5, sG_6, sG_12, sG_13, sG_19, sG_20, sG_22, sG_24, sG_25, sG_26, sG_27, sG_29, sG_32, sG_34, sG_36, sG_38, sG_40, sG_41, sG_42, sG_43, sG_44, sG_45, sG_46, sG_47, sG_48, sG_49, sG_50, sG_51, sG_52, sG_53, sG_54, sG_55, sG_56, sG_57, sG_58, sG_59, sG_60, sG_61, sG_62, sG_63, sG_64, sG_65, sE_1, sE_2, sE_5, sE_6, sE_12, sE_13, sE_19, sE_20, sE_22, sE_24, sE_25, sE_26, sE_27, sE_29, sE_32, sE_34, sE_36, sE_38, sE_40, sE_41, sE_42, sE_43, sE_44, sE_45, sE_46, sE_47, sE_48, sE_49, sE_50, sE_51, sE_52, sE_53, sE_54, sE_55, sE_56, sE_57, sE_58, sE_59, sE_60, sE_61, sE_62, sE_63, sE_64, sE_65, sG_7, sG_8, sG_10, sG_14, sG_15, sG_17, sG_30, sE_7, sE_8, sE_10, sE_14, sE_15, sE_17, sE_30, sS_0, sS_1, sS_2, sS_3, wr_id, wr_ai, wr_fi, wr_wand, wr_wor, wr_wxor, wr_wshl, wr_wshr, wr_lt, wr_gt, Int.reduceEq, Int.reduceLT, Int.reduceLE, Int.reduceNeg, b01, b10, and_self, true_and, and_true, false_and, and_false, or_false, false_or, or_true, true_or, ite_not, not_true_eq_false, not_false_eq_true, kk_v, kk_0, reduceCtorEq, if_true, if_false, ite_true, ite_false, swt, Option.some.injEq]
  rw [l_R_pointsFrom w g (by omega) hp hd hB _ k 0 _ _ hk.1 hk.2 rfl, Int.zero_add]
  rfl
end LEAF
