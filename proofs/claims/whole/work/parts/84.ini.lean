/-! the constructors -/
section INI
variable {d : Nat} {h h0 : aH} {a b c n k m : Nat} {ce : aC} {f : Int → Int} {p : Int → Option Nat}
theorem isO_nw (ho : isO h b c = true) : isO (aNew h ce n) b c = true := by rw [isO_new (isO_lt ho)]; exact ho
theorem isA_nw (ho : isA h b = true) : isA (aNew h ce n) b = true := by rw [isA_new (isA_lt ho)]; exact ho
theorem isR_nw (ho : isR h b c = true) : isR (aNew h ce n) b c = true := by rw [isR_new (isR_lt ho)]; exact ho
theorem isO_nwE (e : aSz h = b) (h3 : 3 ≤ b) : isO (aNew h (.inl (c, aDf c)) n) b c = true := by
  subst e
  exact isO_new1 h3 (by unfold aDf; rw [List.length_map, List.length_range])
theorem isA_nwE (e : aSz h = b) : isA (aNew h (.inr (.inl (m, f))) n) b = true := by subst e; exact isA_new1
theorem al_nwA (e : aSz h = b) : al (aNew h (.inr (.inl (m, f))) n) b = m := by subst e; exact al_newA
theorem ai_nwE (e : aSz h = b) : ai (aNew h (.inr (.inl (m, f))) n) b = f := by subst e; exact ai_newA
theorem isR_nwE (e : aSz h = b) (h3 : 3 ≤ b) : isR (aNew h (.inr (.inr (c, m, p))) n) b c = true := by subst e; exact isR_new1 h3
theorem al_nwR (e : aSz h = b) : al (aNew h (.inr (.inr (c, m, p))) n) b = m := by subst e; exact al_newR
theorem ra_nwE (e : aSz h = b) : ra (aNew h (.inr (.inr (c, m, p))) n) b = p := by subst e; exact ra_newR
theorem ra_se0 (e : isR h a 0 = true) : ra (sr h a p) a = p := ra_se e
theorem ra_se3 (e : isR h a 3 = true) : ra (sr h a p) a = p := ra_se e
theorem gf_pe7 (e : isO h a 7 = true) (hk : k < 10) {v : aV} : gf (pf h a k v) a k = v := gf_pe e hk
theorem gf_pe9 (e : isO h a 9 = true) (hk : k < 10) {v : aV} : gf (pf h a k v) a k = v := gf_pe e hk
theorem okQ_0e (e : isO h b 4 = true) : okQ h 0 (some b) = true := e
theorem okQ_3e (e : isO h b 6 = true) : okQ h 3 (some b) = true := e
theorem isO_c {fs : List aV} (e : aCo h a = .inl (c, fs)) (h3 : 3 ≤ a) (h4 : a < aSz h) (h5 : fs.length = aNf c) : isO h a c = true := by
  unfold isO
  rw [e]
  simp [h3, h4, h5]
theorem isA_c (e : aCo h a = .inr (.inl (n, f))) (h4 : a < aSz h) : isA h a = true := by
  unfold isA
  rw [e]
  simp [h4]
theorem isR_c (e : aCo h a = .inr (.inr (c, n, p))) (h3 : 3 ≤ a) (h4 : a < aSz h) : isR h a c = true := by
  unfold isR
  rw [e]
  simp [h3, h4]
theorem aDf0 : aDf 0 = [aQ none, aI 0] := rfl
theorem aDf2 : aDf 2 = [aQ none, aQ none, aI 0, aQ none, aQ none, aI 0, aI 0] := rfl
theorem aDf4 : aDf 4 = [aQ none] := rfl
theorem aDf5 : aDf 5 = [aI 0, aQ none, aQ none, aI 0, aQ none, aQ none] := rfl
theorem aDf6 : aDf 6 = [aI 0, aI 0, aQ none] := rfl
theorem aDf7 : aDf 7 = [aI 0, aQ none, aI 0, aI 0, aI 0, aI 0, aQ none, aQ none, aI 0, aQ none] := rfl
theorem aDf8 : aDf 8 = [aQ none] := rfl
theorem aDf9 : aDf 9 = [aQ none, aQ none, aQ none, aQ none, aQ none, aQ none, aQ none, aI 0, aI 0, aI 0] := rfl
theorem aNfs : aNf 0 = 2 ∧ aNf 2 = 7 ∧ aNf 4 = 1 ∧ aNf 5 = 6 ∧ aNf 6 = 3 ∧ aNf 7 = 10 ∧ aNf 8 = 1 ∧ aNf 9 = 10 ∧ aNf 10 = 32 := ⟨rfl, rfl, rfl, rfl, rfl, rfl, rfl, rfl, rfl⟩
theorem nlI {x : Int} : (aNl (aI x) = true) = True := eq_true rfl
theorem nlQ {r : Option Nat} : (aNl (aQ r) = true) = True := eq_true rfl
theorem nlU : (aNl aU = true) = True := eq_true rfl
theorem ba0 : (Nat.ble ([] : List aV).length 4 = true) = True := eq_true rfl
theorem ba1 {v1 : aV} : (Nat.ble [v1].length 4 = true) = True := eq_true rfl
theorem ba2 {v1 v2 : aV} : (Nat.ble [v1, v2].length 4 = true) = True := eq_true rfl
theorem ba3 {v1 v2 v3 : aV} : (Nat.ble [v1, v2, v3].length 4 = true) = True := eq_true rfl
theorem ba4 {v1 v2 v3 v4 : aV} : (Nat.ble [v1, v2, v3, v4].length 4 = true) = True := eq_true rfl
/-- the pages of a new state -/
def pgs (q : Nat) : Int → Option Nat := upf (upf (upf (upf (upf (upf (fun _ => none) 0 (some q)) 1 (some q)) 2 (some q)) 3 (some q)) 4 (some q)) 5 (some q)
/-- the sheets of a new object -/
def shs : Int → Option Nat := upf (upf (upf (upf (fun _ => none) 0 (some 31)) 1 (some 33)) 2 (some 35)) 3 (some 37)
def zA (n : Nat) : aC := .inr (.inl (n, fun _ => 0))
def oSt (q : Nat) : aC := .inl (7, [aI 0, aQ (some q), aI 0, aI 0, aI 50, aI 0, aQ (some (q + 1)), aQ (some (q + 2)), aI 0, aQ (some (q + 3))])
def nR (c n : Nat) : aC := .inr (.inr (c, n, fun _ => none))

/-- one more row of ints, noted in an object's field -/
def nF (h : aH) (o k n N : Nat) : aH := pf (aNew h (zA N) N) o k (aQ (some n))
/-- what a constructor leaves: the object's cell, the others' -/
def CO (h h' : aH) (o c : Nat) (fs : List aV) (n s : Nat) : Prop := aSz h' = n ∧ aSl h' = aSl h + s ∧ isO h' o c = true ∧ aCo h' o = .inl (c, fs) ∧ Fr [o] h h' ∧ Rg h'
theorem CO.trans {h h1 h2 : aH} {o c : Nat} {fs gs : List aV} {n m s t : Nat} (e1 : CO h h1 o c fs n s) (e2 : CO h1 h2 o c gs m t) : CO h h2 o c gs m (s + t) := ⟨e2.1, by rw [e2.2.1, e1.2.1]; omega, e2.2.2.1, e2.2.2.2.1, e1.2.2.2.2.1.trans e2.2.2.2.2.1, e2.2.2.2.2.2⟩
theorem CO.at {h h' : aH} {o c : Nat} {fs : List aV} {n s b : Nat} (e : CO h h' o c fs n s) (h1 : b < aSz h) (h2 : b ≠ o) : aCo h' b = aCo h b := e.2.2.2.2.1.2 b h1 (by simp only [List.mem_cons, List.not_mem_nil, or_false]; exact h2)
theorem nF_ok {o c k N : Nat} {fs : List aV} (hz : aSz h = n) (hc : aCo h o = .inl (c, fs)) (ho : isO h o c = true) (g : Rg h) : CO h (nF h o k n N) o c (fs.set k (aQ (some n))) (n + 1) N ∧ aCo (nF h o k n N) n = zA N := by
  have hlt := isO_lt ho
  have h3 := isO_3 ho
  unfold nF
  refine ⟨⟨by rw [aSz_pf, aSz_new, hz], rfl, by rw [isO_pf]; exact isO_nw ho, ?_, (Fr.refl.new).pf (Or.inr (by simp)), Rg_pfQ (Rg_newA g)⟩, ?_⟩
  · rw [aCo_pf, if_pos rfl, aCo_new, if_neg (by omega), hc]
  · rw [aCo_pf, if_neg (by omega), aCo_new, if_pos hz.symm]
def nG (h : aH) (o k n : Nat) (N : Nat) (f : Int → Int) : aH := pf (sa (aNew h (zA N) N) n f) o k (aQ (some n))
theorem nG_ok {o c k N : Nat} {fs : List aV} (hz : aSz h = n) (hc : aCo h o = .inl (c, fs)) (ho : isO h o c = true) (g : Rg h) (hf : ∀ j, inr (f j)) : CO h (nG h o k n N f) o c (fs.set k (aQ (some n))) (n + 1) N ∧ aCo (nG h o k n N f) n = .inr (.inl (N, f)) := by
  have hlt := isO_lt ho
  have h3 := isO_3 ho
  unfold nG
  refine ⟨⟨by rw [aSz_pf, aSz_sa, aSz_new, hz], rfl, by rw [isO_pf, isO_sa]; exact isO_nw ho, ?_, ((Fr.refl.new).sa (Or.inl (by omega))).pf (Or.inr (by simp)), Rg_pfQ (Rg_sa (Rg_newA g) hf)⟩, ?_⟩
  · rw [aCo_pf, if_pos rfl, aCo_sa, if_neg (by omega), aCo_new, if_neg (by omega), hc]
  · rw [aCo_pf, if_neg (by omega), aCo_sa, if_pos rfl, aCo_new, if_pos hz.symm]
    rfl
def nH (h : aH) (o k n c N : Nat) : aH := pf (aNew h (nR c N) N) o k (aQ (some n))
theorem nH_ok {o c k N q : Nat} {fs : List aV} (hz : aSz h = n) (hc : aCo h o = .inl (c, fs)) (ho : isO h o c = true) (g : Rg h) : CO h (nH h o k n q N) o c (fs.set k (aQ (some n))) (n + 1) N ∧ aCo (nH h o k n q N) n = nR q N := by
  have hlt := isO_lt ho
  have h3 := isO_3 ho
  unfold nH
  refine ⟨⟨by rw [aSz_pf, aSz_new, hz], rfl, by rw [isO_pf]; exact isO_nw ho, ?_, (Fr.refl.new).pf (Or.inr (by simp)), Rg_pfQ (Rg_newR g)⟩, ?_⟩
  · rw [aCo_pf, if_pos rfl, aCo_new, if_neg (by omega), hc]
  · rw [aCo_pf, if_neg (by omega), aCo_new, if_pos hz.symm]
theorem pf_ok {o c k : Nat} {z : Int} {fs : List aV} (hz : aSz h = n) (hc : aCo h o = .inl (c, fs)) (ho : isO h o c = true) (g : Rg h) (hi : inr z) : CO h (pf h o k (aI z)) o c (fs.set k (aI z)) n 0 := by
  refine ⟨hz, rfl, by rw [isO_pf]; exact ho, ?_, Fr.refl.pf (Or.inr (by simp)), Rg_pf g hi⟩
  rw [aCo_pf, if_pos rfl, hc]
set_option maxHeartbeats 4000000 in
set_option maxRecDepth 100000 in
theorem j_Kp_init_18 (hz : aSz h = 19) (hc : aCo h 18 = .inl (2, aDf 2)) (g : Rg h) : ∃ h', ev (d + 1) M_Kp_init [aQ (some 18)] h = some (none, h') ∧ CO h h' 18 2 [aQ (some 19), aQ (some 20), aI 0, aQ none, aQ none, aI 0, aI 0] 21 461 ∧ aCo h' 19 = zA 441 ∧ aCo h' 20 = zA 20 := by
  have ho : isO h 18 2 = true := isO_c hc (by decide) (by omega) rfl
  obtain ⟨k1, a1⟩ := nF_ok (k := 0) (N := 441) hz hc ho g
  obtain ⟨k2, a2⟩ := nF_ok (k := 1) (N := 20) k1.1 k1.2.2.2.1 k1.2.2.1 k1.2.2.2.2.2
  refine ⟨(nF (nF h 18 0 19 441) 18 1 20 20), ?_, (k1.trans k2), ((k2.at (by rw [k1.1]; decide) (by decide)).trans (a1)), a2⟩
  · rw [n_Kp_init]
    simp (maxDischargeDepth := 400) (maxSteps := 20000000) only [u_Kp_init_0, u_Kp_init_1, u_Kp_init_4, u_Kp_init_5, u_Kp_init_8, u_Kp_init_10, u_Kp_init_13, u_Kp_init_14, u_Kp_init_16, u_Kp_init_18, u_Kp_init_21, nF, hz, ho, aSz_pf, aSz_sa, aSz_sr, isO_pf, isO_sa, isO_sr, isA_pf, isA_sa, isA_sr, isR_pf, isR_sa, isR_sr, al_pf, al_sa, al_sr, gf_sa, gf_sr, ai_pf, ai_sr, ra_pf, ra_sa, gf_pn, ai_sn, ra_sn, sa_sa, pf_pf, fi_sa, fi_sr, fi_pn, gO_pf, gO_sa, gO_sr, gA_pf, gA_sa, gA_sr, gR_pf, gR_sa, gR_sr, isAR_pf, isAR_sa, isAR_sr, okQ_pf, okQ_sa, okQ_sr, okC_pf, okC_sa, okC_sr, okQ_n, gB_t, wr_id, wr_ai, wr_fi, wr_wand, wr_wor, wr_wxor, wr_wshl, wr_wshr, wr_lt, wr_gt, Int.reduceEq, Int.reduceLT, Int.reduceLE, Int.reduceNeg, b01, b10, and_self, true_and, and_true, false_and, and_false, or_false, false_or, or_true, true_or, ite_not, not_true_eq_false, not_false_eq_true, kk_v, kk_0, reduceCtorEq, if_true, if_false, ite_true, ite_false, swt, Option.some.injEq, gO_ok, gA_ok, gR_ok, aSz_new, isO_nw, isO_nwE, isR_nw, isR_nwE, isA_nw, isA_nwE, al_new, al_nwR, al_nwA, ai_new, ai_nwE, ai_se, ra_new, ra_nwE, ra_se0, ra_se3, sr_sr, gf_pe7, gf_new, okQ_0e, okQ_3e, nlI, nlQ, nlU, ba0, ba1, ba2, ba3, ba4, ne_eq, Nat.reduceAdd, Nat.reduceLT, Nat.reduceLeDiff, Nat.reduceEqDiff, Int.reduceAdd, Int.reduceToNat, Int.reduceNatCast, Int.reduceNatCast', zA, nR]
set_option maxHeartbeats 4000000 in
set_option maxRecDepth 100000 in
theorem j_Te_init_21 (hz : aSz h = 22) (hc : aCo h 21 = .inl (8, aDf 8)) (g : Rg h) : ∃ h', ev (d + 1) M_Te_init [aQ (some 21)] h = some (none, h') ∧ CO h h' 21 8 [aQ (some 22)] 23 6 ∧ aCo h' 22 = zA 6 := by
  have ho : isO h 21 8 = true := isO_c hc (by decide) (by omega) rfl
  obtain ⟨k1, a1⟩ := nF_ok (k := 0) (N := 6) hz hc ho g
  refine ⟨(nF h 21 0 22 6), ?_, k1, a1⟩
  · rw [n_Te_init]
    simp (maxDischargeDepth := 400) (maxSteps := 20000000) only [u_Te_init_0, u_Te_init_1, u_Te_init_4, u_Te_init_5, u_Te_init_7, u_Te_init_9, u_Te_init_12, nF, hz, ho, aSz_pf, aSz_sa, aSz_sr, isO_pf, isO_sa, isO_sr, isA_pf, isA_sa, isA_sr, isR_pf, isR_sa, isR_sr, al_pf, al_sa, al_sr, gf_sa, gf_sr, ai_pf, ai_sr, ra_pf, ra_sa, gf_pn, ai_sn, ra_sn, sa_sa, pf_pf, fi_sa, fi_sr, fi_pn, gO_pf, gO_sa, gO_sr, gA_pf, gA_sa, gA_sr, gR_pf, gR_sa, gR_sr, isAR_pf, isAR_sa, isAR_sr, okQ_pf, okQ_sa, okQ_sr, okC_pf, okC_sa, okC_sr, okQ_n, gB_t, wr_id, wr_ai, wr_fi, wr_wand, wr_wor, wr_wxor, wr_wshl, wr_wshr, wr_lt, wr_gt, Int.reduceEq, Int.reduceLT, Int.reduceLE, Int.reduceNeg, b01, b10, and_self, true_and, and_true, false_and, and_false, or_false, false_or, or_true, true_or, ite_not, not_true_eq_false, not_false_eq_true, kk_v, kk_0, reduceCtorEq, if_true, if_false, ite_true, ite_false, swt, Option.some.injEq, gO_ok, gA_ok, gR_ok, aSz_new, isO_nw, isO_nwE, isR_nw, isR_nwE, isA_nw, isA_nwE, al_new, al_nwR, al_nwA, ai_new, ai_nwE, ai_se, ra_new, ra_nwE, ra_se0, ra_se3, sr_sr, gf_pe7, gf_new, okQ_0e, okQ_3e, nlI, nlQ, nlU, ba0, ba1, ba2, ba3, ba4, ne_eq, Nat.reduceAdd, Nat.reduceLT, Nat.reduceLeDiff, Nat.reduceEqDiff, Int.reduceAdd, Int.reduceToNat, Int.reduceNatCast, Int.reduceNatCast', zA, nR]
set_option maxHeartbeats 4000000 in
set_option maxRecDepth 100000 in
theorem j_Pl_init_23 (hz : aSz h = 24) (hc : aCo h 23 = .inl (5, aDf 5)) (g : Rg h) : ∃ h', ev (d + 1) M_Pl_init [aQ (some 23)] h = some (none, h') ∧ CO h h' 23 5 [aI 0, aQ (some 24), aQ (some 25), aI 0, aQ (some 26), aQ (some 27)] 28 2366 ∧ aCo h' 24 = zA 8 ∧ aCo h' 25 = zA 6 ∧ aCo h' 26 = zA 48 ∧ aCo h' 27 = zA 2304 := by
  have ho : isO h 23 5 = true := isO_c hc (by decide) (by omega) rfl
  obtain ⟨k1, a1⟩ := nF_ok (k := 1) (N := 8) hz hc ho g
  obtain ⟨k2, a2⟩ := nF_ok (k := 2) (N := 6) k1.1 k1.2.2.2.1 k1.2.2.1 k1.2.2.2.2.2
  obtain ⟨k3, a3⟩ := nF_ok (k := 4) (N := 48) k2.1 k2.2.2.2.1 k2.2.2.1 k2.2.2.2.2.2
  obtain ⟨k4, a4⟩ := nF_ok (k := 5) (N := 2304) k3.1 k3.2.2.2.1 k3.2.2.1 k3.2.2.2.2.2
  refine ⟨(nF (nF (nF (nF h 23 1 24 8) 23 2 25 6) 23 4 26 48) 23 5 27 2304), ?_, (((k1.trans k2).trans k3).trans k4), ((k4.at (by rw [k3.1]; decide) (by decide)).trans ((k3.at (by rw [k2.1]; decide) (by decide)).trans ((k2.at (by rw [k1.1]; decide) (by decide)).trans (a1)))), ((k4.at (by rw [k3.1]; decide) (by decide)).trans ((k3.at (by rw [k2.1]; decide) (by decide)).trans (a2))), ((k4.at (by rw [k3.1]; decide) (by decide)).trans (a3)), a4⟩
  · rw [n_Pl_init]
    simp (maxDischargeDepth := 400) (maxSteps := 20000000) only [u_Pl_init_0, u_Pl_init_1, u_Pl_init_4, u_Pl_init_5, u_Pl_init_7, u_Pl_init_9, u_Pl_init_12, u_Pl_init_13, u_Pl_init_15, u_Pl_init_17, u_Pl_init_20, u_Pl_init_21, u_Pl_init_23, u_Pl_init_25, u_Pl_init_28, u_Pl_init_29, u_Pl_init_32, u_Pl_init_34, u_Pl_init_37, nF, hz, ho, aSz_pf, aSz_sa, aSz_sr, isO_pf, isO_sa, isO_sr, isA_pf, isA_sa, isA_sr, isR_pf, isR_sa, isR_sr, al_pf, al_sa, al_sr, gf_sa, gf_sr, ai_pf, ai_sr, ra_pf, ra_sa, gf_pn, ai_sn, ra_sn, sa_sa, pf_pf, fi_sa, fi_sr, fi_pn, gO_pf, gO_sa, gO_sr, gA_pf, gA_sa, gA_sr, gR_pf, gR_sa, gR_sr, isAR_pf, isAR_sa, isAR_sr, okQ_pf, okQ_sa, okQ_sr, okC_pf, okC_sa, okC_sr, okQ_n, gB_t, wr_id, wr_ai, wr_fi, wr_wand, wr_wor, wr_wxor, wr_wshl, wr_wshr, wr_lt, wr_gt, Int.reduceEq, Int.reduceLT, Int.reduceLE, Int.reduceNeg, b01, b10, and_self, true_and, and_true, false_and, and_false, or_false, false_or, or_true, true_or, ite_not, not_true_eq_false, not_false_eq_true, kk_v, kk_0, reduceCtorEq, if_true, if_false, ite_true, ite_false, swt, Option.some.injEq, gO_ok, gA_ok, gR_ok, aSz_new, isO_nw, isO_nwE, isR_nw, isR_nwE, isA_nw, isA_nwE, al_new, al_nwR, al_nwA, ai_new, ai_nwE, ai_se, ra_new, ra_nwE, ra_se0, ra_se3, sr_sr, gf_pe7, gf_new, okQ_0e, okQ_3e, nlI, nlQ, nlU, ba0, ba1, ba2, ba3, ba4, ne_eq, Nat.reduceAdd, Nat.reduceLT, Nat.reduceLeDiff, Nat.reduceEqDiff, Int.reduceAdd, Int.reduceToNat, Int.reduceNatCast, Int.reduceNatCast', zA, nR]
set_option maxHeartbeats 4000000 in
set_option maxRecDepth 100000 in
theorem j_A_init_28 (hz : aSz h = 29) (hc : aCo h 28 = .inl (0, aDf 0)) (g : Rg h) : ∃ h', ev (d + 1) M_A_init [aQ (some 28)] h = some (none, h') ∧ CO h h' 28 0 [aQ (some 29), aI 0] 30 50 ∧ aCo h' 29 = zA 50 := by
  have ho : isO h 28 0 = true := isO_c hc (by decide) (by omega) rfl
  obtain ⟨k1, a1⟩ := nF_ok (k := 0) (N := 50) hz hc ho g
  refine ⟨(nF h 28 0 29 50), ?_, k1, a1⟩
  · rw [n_A_init]
    simp (maxDischargeDepth := 400) (maxSteps := 20000000) only [u_A_init_0, u_A_init_1, u_A_init_4, u_A_init_5, u_A_init_7, u_A_init_9, u_A_init_12, nF, hz, ho, aSz_pf, aSz_sa, aSz_sr, isO_pf, isO_sa, isO_sr, isA_pf, isA_sa, isA_sr, isR_pf, isR_sa, isR_sr, al_pf, al_sa, al_sr, gf_sa, gf_sr, ai_pf, ai_sr, ra_pf, ra_sa, gf_pn, ai_sn, ra_sn, sa_sa, pf_pf, fi_sa, fi_sr, fi_pn, gO_pf, gO_sa, gO_sr, gA_pf, gA_sa, gA_sr, gR_pf, gR_sa, gR_sr, isAR_pf, isAR_sa, isAR_sr, okQ_pf, okQ_sa, okQ_sr, okC_pf, okC_sa, okC_sr, okQ_n, gB_t, wr_id, wr_ai, wr_fi, wr_wand, wr_wor, wr_wxor, wr_wshl, wr_wshr, wr_lt, wr_gt, Int.reduceEq, Int.reduceLT, Int.reduceLE, Int.reduceNeg, b01, b10, and_self, true_and, and_true, false_and, and_false, or_false, false_or, or_true, true_or, ite_not, not_true_eq_false, not_false_eq_true, kk_v, kk_0, reduceCtorEq, if_true, if_false, ite_true, ite_false, swt, Option.some.injEq, gO_ok, gA_ok, gR_ok, aSz_new, isO_nw, isO_nwE, isR_nw, isR_nwE, isA_nw, isA_nwE, al_new, al_nwR, al_nwA, ai_new, ai_nwE, ai_se, ra_new, ra_nwE, ra_se0, ra_se3, sr_sr, gf_pe7, gf_new, okQ_0e, okQ_3e, nlI, nlQ, nlU, ba0, ba1, ba2, ba3, ba4, ne_eq, Nat.reduceAdd, Nat.reduceLT, Nat.reduceLeDiff, Nat.reduceEqDiff, Int.reduceAdd, Int.reduceToNat, Int.reduceNatCast, Int.reduceNatCast', zA, nR]
set_option maxHeartbeats 4000000 in
set_option maxRecDepth 100000 in
theorem j_Sh_init_31 (hz : aSz h = 32) (hc : aCo h 31 = .inl (6, aDf 6)) (g : Rg h) : ∃ h', ev (d + 1) M_Sh_init [aQ (some 31)] h = some (none, h') ∧ CO h h' 31 6 [aI (-1), aI 0, aQ (some 32)] 33 40 ∧ aCo h' 32 = zA 40 := by
  have ho : isO h 31 6 = true := isO_c hc (by decide) (by omega) rfl
  have k0 := pf_ok (k := 0) (z := (-1)) hz hc ho g ⟨by decide, by decide⟩
  obtain ⟨k1, a1⟩ := nF_ok (k := 2) (N := 40) k0.1 k0.2.2.2.1 k0.2.2.1 k0.2.2.2.2.2
  refine ⟨(nF (pf h 31 0 (aI (-1))) 31 2 32 40), ?_, (k0.trans k1), a1⟩
  · rw [n_Sh_init]
    simp (maxDischargeDepth := 400) (maxSteps := 20000000) only [u_Sh_init_0, u_Sh_init_1, u_Sh_init_4, u_Sh_init_5, u_Sh_init_6, u_Sh_init_9, u_Sh_init_10, u_Sh_init_12, u_Sh_init_14, u_Sh_init_17, nF, hz, ho, aSz_pf, aSz_sa, aSz_sr, isO_pf, isO_sa, isO_sr, isA_pf, isA_sa, isA_sr, isR_pf, isR_sa, isR_sr, al_pf, al_sa, al_sr, gf_sa, gf_sr, ai_pf, ai_sr, ra_pf, ra_sa, gf_pn, ai_sn, ra_sn, sa_sa, pf_pf, fi_sa, fi_sr, fi_pn, gO_pf, gO_sa, gO_sr, gA_pf, gA_sa, gA_sr, gR_pf, gR_sa, gR_sr, isAR_pf, isAR_sa, isAR_sr, okQ_pf, okQ_sa, okQ_sr, okC_pf, okC_sa, okC_sr, okQ_n, gB_t, wr_id, wr_ai, wr_fi, wr_wand, wr_wor, wr_wxor, wr_wshl, wr_wshr, wr_lt, wr_gt, Int.reduceEq, Int.reduceLT, Int.reduceLE, Int.reduceNeg, b01, b10, and_self, true_and, and_true, false_and, and_false, or_false, false_or, or_true, true_or, ite_not, not_true_eq_false, not_false_eq_true, kk_v, kk_0, reduceCtorEq, if_true, if_false, ite_true, ite_false, swt, Option.some.injEq, gO_ok, gA_ok, gR_ok, aSz_new, isO_nw, isO_nwE, isR_nw, isR_nwE, isA_nw, isA_nwE, al_new, al_nwR, al_nwA, ai_new, ai_nwE, ai_se, ra_new, ra_nwE, ra_se0, ra_se3, sr_sr, gf_pe7, gf_new, okQ_0e, okQ_3e, nlI, nlQ, nlU, ba0, ba1, ba2, ba3, ba4, ne_eq, Nat.reduceAdd, Nat.reduceLT, Nat.reduceLeDiff, Nat.reduceEqDiff, Int.reduceAdd, Int.reduceToNat, Int.reduceNatCast, Int.reduceNatCast', zA, nR]
set_option maxHeartbeats 4000000 in
set_option maxRecDepth 100000 in
theorem j_Sh_init_33 (hz : aSz h = 34) (hc : aCo h 33 = .inl (6, aDf 6)) (g : Rg h) : ∃ h', ev (d + 1) M_Sh_init [aQ (some 33)] h = some (none, h') ∧ CO h h' 33 6 [aI (-1), aI 0, aQ (some 34)] 35 40 ∧ aCo h' 34 = zA 40 := by
  have ho : isO h 33 6 = true := isO_c hc (by decide) (by omega) rfl
  have k0 := pf_ok (k := 0) (z := (-1)) hz hc ho g ⟨by decide, by decide⟩
  obtain ⟨k1, a1⟩ := nF_ok (k := 2) (N := 40) k0.1 k0.2.2.2.1 k0.2.2.1 k0.2.2.2.2.2
  refine ⟨(nF (pf h 33 0 (aI (-1))) 33 2 34 40), ?_, (k0.trans k1), a1⟩
  · rw [n_Sh_init]
    simp (maxDischargeDepth := 400) (maxSteps := 20000000) only [u_Sh_init_0, u_Sh_init_1, u_Sh_init_4, u_Sh_init_5, u_Sh_init_6, u_Sh_init_9, u_Sh_init_10, u_Sh_init_12, u_Sh_init_14, u_Sh_init_17, nF, hz, ho, aSz_pf, aSz_sa, aSz_sr, isO_pf, isO_sa, isO_sr, isA_pf, isA_sa, isA_sr, isR_pf, isR_sa, isR_sr, al_pf, al_sa, al_sr, gf_sa, gf_sr, ai_pf, ai_sr, ra_pf, ra_sa, gf_pn, ai_sn, ra_sn, sa_sa, pf_pf, fi_sa, fi_sr, fi_pn, gO_pf, gO_sa, gO_sr, gA_pf, gA_sa, gA_sr, gR_pf, gR_sa, gR_sr, isAR_pf, isAR_sa, isAR_sr, okQ_pf, okQ_sa, okQ_sr, okC_pf, okC_sa, okC_sr, okQ_n, gB_t, wr_id, wr_ai, wr_fi, wr_wand, wr_wor, wr_wxor, wr_wshl, wr_wshr, wr_lt, wr_gt, Int.reduceEq, Int.reduceLT, Int.reduceLE, Int.reduceNeg, b01, b10, and_self, true_and, and_true, false_and, and_false, or_false, false_or, or_true, true_or, ite_not, not_true_eq_false, not_false_eq_true, kk_v, kk_0, reduceCtorEq, if_true, if_false, ite_true, ite_false, swt, Option.some.injEq, gO_ok, gA_ok, gR_ok, aSz_new, isO_nw, isO_nwE, isR_nw, isR_nwE, isA_nw, isA_nwE, al_new, al_nwR, al_nwA, ai_new, ai_nwE, ai_se, ra_new, ra_nwE, ra_se0, ra_se3, sr_sr, gf_pe7, gf_new, okQ_0e, okQ_3e, nlI, nlQ, nlU, ba0, ba1, ba2, ba3, ba4, ne_eq, Nat.reduceAdd, Nat.reduceLT, Nat.reduceLeDiff, Nat.reduceEqDiff, Int.reduceAdd, Int.reduceToNat, Int.reduceNatCast, Int.reduceNatCast', zA, nR]
set_option maxHeartbeats 4000000 in
set_option maxRecDepth 100000 in
theorem j_Sh_init_35 (hz : aSz h = 36) (hc : aCo h 35 = .inl (6, aDf 6)) (g : Rg h) : ∃ h', ev (d + 1) M_Sh_init [aQ (some 35)] h = some (none, h') ∧ CO h h' 35 6 [aI (-1), aI 0, aQ (some 36)] 37 40 ∧ aCo h' 36 = zA 40 := by
  have ho : isO h 35 6 = true := isO_c hc (by decide) (by omega) rfl
  have k0 := pf_ok (k := 0) (z := (-1)) hz hc ho g ⟨by decide, by decide⟩
  obtain ⟨k1, a1⟩ := nF_ok (k := 2) (N := 40) k0.1 k0.2.2.2.1 k0.2.2.1 k0.2.2.2.2.2
  refine ⟨(nF (pf h 35 0 (aI (-1))) 35 2 36 40), ?_, (k0.trans k1), a1⟩
  · rw [n_Sh_init]
    simp (maxDischargeDepth := 400) (maxSteps := 20000000) only [u_Sh_init_0, u_Sh_init_1, u_Sh_init_4, u_Sh_init_5, u_Sh_init_6, u_Sh_init_9, u_Sh_init_10, u_Sh_init_12, u_Sh_init_14, u_Sh_init_17, nF, hz, ho, aSz_pf, aSz_sa, aSz_sr, isO_pf, isO_sa, isO_sr, isA_pf, isA_sa, isA_sr, isR_pf, isR_sa, isR_sr, al_pf, al_sa, al_sr, gf_sa, gf_sr, ai_pf, ai_sr, ra_pf, ra_sa, gf_pn, ai_sn, ra_sn, sa_sa, pf_pf, fi_sa, fi_sr, fi_pn, gO_pf, gO_sa, gO_sr, gA_pf, gA_sa, gA_sr, gR_pf, gR_sa, gR_sr, isAR_pf, isAR_sa, isAR_sr, okQ_pf, okQ_sa, okQ_sr, okC_pf, okC_sa, okC_sr, okQ_n, gB_t, wr_id, wr_ai, wr_fi, wr_wand, wr_wor, wr_wxor, wr_wshl, wr_wshr, wr_lt, wr_gt, Int.reduceEq, Int.reduceLT, Int.reduceLE, Int.reduceNeg, b01, b10, and_self, true_and, and_true, false_and, and_false, or_false, false_or, or_true, true_or, ite_not, not_true_eq_false, not_false_eq_true, kk_v, kk_0, reduceCtorEq, if_true, if_false, ite_true, ite_false, swt, Option.some.injEq, gO_ok, gA_ok, gR_ok, aSz_new, isO_nw, isO_nwE, isR_nw, isR_nwE, isA_nw, isA_nwE, al_new, al_nwR, al_nwA, ai_new, ai_nwE, ai_se, ra_new, ra_nwE, ra_se0, ra_se3, sr_sr, gf_pe7, gf_new, okQ_0e, okQ_3e, nlI, nlQ, nlU, ba0, ba1, ba2, ba3, ba4, ne_eq, Nat.reduceAdd, Nat.reduceLT, Nat.reduceLeDiff, Nat.reduceEqDiff, Int.reduceAdd, Int.reduceToNat, Int.reduceNatCast, Int.reduceNatCast', zA, nR]
set_option maxHeartbeats 4000000 in
set_option maxRecDepth 100000 in
theorem j_Sh_init_37 (hz : aSz h = 38) (hc : aCo h 37 = .inl (6, aDf 6)) (g : Rg h) : ∃ h', ev (d + 1) M_Sh_init [aQ (some 37)] h = some (none, h') ∧ CO h h' 37 6 [aI (-1), aI 0, aQ (some 38)] 39 40 ∧ aCo h' 38 = zA 40 := by
  have ho : isO h 37 6 = true := isO_c hc (by decide) (by omega) rfl
  have k0 := pf_ok (k := 0) (z := (-1)) hz hc ho g ⟨by decide, by decide⟩
  obtain ⟨k1, a1⟩ := nF_ok (k := 2) (N := 40) k0.1 k0.2.2.2.1 k0.2.2.1 k0.2.2.2.2.2
  refine ⟨(nF (pf h 37 0 (aI (-1))) 37 2 38 40), ?_, (k0.trans k1), a1⟩
  · rw [n_Sh_init]
    simp (maxDischargeDepth := 400) (maxSteps := 20000000) only [u_Sh_init_0, u_Sh_init_1, u_Sh_init_4, u_Sh_init_5, u_Sh_init_6, u_Sh_init_9, u_Sh_init_10, u_Sh_init_12, u_Sh_init_14, u_Sh_init_17, nF, hz, ho, aSz_pf, aSz_sa, aSz_sr, isO_pf, isO_sa, isO_sr, isA_pf, isA_sa, isA_sr, isR_pf, isR_sa, isR_sr, al_pf, al_sa, al_sr, gf_sa, gf_sr, ai_pf, ai_sr, ra_pf, ra_sa, gf_pn, ai_sn, ra_sn, sa_sa, pf_pf, fi_sa, fi_sr, fi_pn, gO_pf, gO_sa, gO_sr, gA_pf, gA_sa, gA_sr, gR_pf, gR_sa, gR_sr, isAR_pf, isAR_sa, isAR_sr, okQ_pf, okQ_sa, okQ_sr, okC_pf, okC_sa, okC_sr, okQ_n, gB_t, wr_id, wr_ai, wr_fi, wr_wand, wr_wor, wr_wxor, wr_wshl, wr_wshr, wr_lt, wr_gt, Int.reduceEq, Int.reduceLT, Int.reduceLE, Int.reduceNeg, b01, b10, and_self, true_and, and_true, false_and, and_false, or_false, false_or, or_true, true_or, ite_not, not_true_eq_false, not_false_eq_true, kk_v, kk_0, reduceCtorEq, if_true, if_false, ite_true, ite_false, swt, Option.some.injEq, gO_ok, gA_ok, gR_ok, aSz_new, isO_nw, isO_nwE, isR_nw, isR_nwE, isA_nw, isA_nwE, al_new, al_nwR, al_nwA, ai_new, ai_nwE, ai_se, ra_new, ra_nwE, ra_se0, ra_se3, sr_sr, gf_pe7, gf_new, okQ_0e, okQ_3e, nlI, nlQ, nlU, ba0, ba1, ba2, ba3, ba4, ne_eq, Nat.reduceAdd, Nat.reduceLT, Nat.reduceLeDiff, Nat.reduceEqDiff, Int.reduceAdd, Int.reduceToNat, Int.reduceNatCast, Int.reduceNatCast', zA, nR]
theorem j_Ss_4 {P : Int → Option Nat} {i : Int} (hi : 0 ≤ i ∧ i < 6) (q : isR h 7 0 = true) (ql : al h 7 = 6) (ho : isO h 4 7 = true) (hp : isO h 9 4 = true) (hg : gf h 4 7 = aQ (some 7)) : ex (ev d) k_St_init 58 [aQ (some 4), aQ (some 9), aI i] [] (sr h 7 P) = ex (ev d) k_St_init 58 [aQ (some 4), aQ (some 9), aI (i + 1)] [] (sr h 7 (upf P i (some 9))) := by
  have c : i < 6 := hi.2
  rw [u_St_init_58]
  simp (disch := first | assumption | omega | exact aNl_I | exact aNl_Q | exact bl0 | exact bl1 | exact bl2 | exact bl3 | exact bl4 | exact aNl_U) only [u_St_init_0, u_St_init_1, u_St_init_4, u_St_init_5, u_St_init_7, u_St_init_9, u_St_init_12, u_St_init_13, u_St_init_15, u_St_init_18, u_St_init_19, u_St_init_21, u_St_init_23, u_St_init_26, u_St_init_27, u_St_init_29, u_St_init_32, u_St_init_35, u_St_init_36, u_St_init_38, u_St_init_41, u_St_init_44, u_St_init_47, u_St_init_48, u_St_init_49, u_St_init_52, u_St_init_55, u_St_init_56, u_St_init_57, u_St_init_59, u_St_init_61, u_St_init_64, u_St_init_65, u_St_init_68, u_St_init_69, u_St_init_70, u_St_init_71, u_St_init_74, u_St_init_77, aSz_pf, aSz_sa, aSz_sr, isO_pf, isO_sa, isO_sr, isA_pf, isA_sa, isA_sr, isR_pf, isR_sa, isR_sr, al_pf, al_sa, al_sr, gf_sa, gf_sr, ai_pf, ai_sr, ra_pf, ra_sa, gf_pn, ai_sn, ra_sn, sa_sa, pf_pf, fi_sa, fi_sr, fi_pn, gO_pf, gO_sa, gO_sr, gA_pf, gA_sa, gA_sr, gR_pf, gR_sa, gR_sr, isAR_pf, isAR_sa, isAR_sr, okQ_pf, okQ_sa, okQ_sr, okC_pf, okC_sa, okC_sr, okQ_n, gB_t, wr_id, wr_ai, wr_fi, wr_wand, wr_wor, wr_wxor, wr_wshl, wr_wshr, wr_lt, wr_gt, Int.reduceEq, Int.reduceLT, Int.reduceLE, Int.reduceNeg, b01, b10, and_self, true_and, and_true, false_and, and_false, or_false, false_or, or_true, true_or, ite_not, not_true_eq_false, not_false_eq_true, kk_v, kk_0, reduceCtorEq, if_true, if_false, ite_true, ite_false, swt, Option.some.injEq, gO_ok, gA_ok, gR_ok, isAR_A, isAR_2, hg, c, ra_se q, sr_sr, okQ_0e]
theorem j_Sl_4 (q : isR h 7 0 = true) (ql : al h 7 = 6) (qr : ra h 7 = fun _ => none) (ho : isO h 4 7 = true) (hp : isO h 9 4 = true) (hg : gf h 4 7 = aQ (some 7)) : ex (ev d) k_St_init 58 [aQ (some 4), aQ (some 9), aI 0] [] h = some (none, sr h 7 (pgs 9)) := by
  have e := j_Ss_4 (d := d) (P := fun _ => none) (i := 0) ⟨by decide, by decide⟩ q ql ho hp hg
  have z := sr_self q
  rw [qr] at z
  rw [z] at e
  rw [e, j_Ss_4 ⟨by decide, by decide⟩ q ql ho hp hg, j_Ss_4 ⟨by decide, by decide⟩ q ql ho hp hg, j_Ss_4 ⟨by decide, by decide⟩ q ql ho hp hg, j_Ss_4 ⟨by decide, by decide⟩ q ql ho hp hg, j_Ss_4 ⟨by decide, by decide⟩ q ql ho hp hg, u_St_init_58]
  simp (disch := first | assumption | omega | exact aNl_I | exact aNl_Q | exact bl0 | exact bl1 | exact bl2 | exact bl3 | exact bl4 | exact aNl_U) only [u_St_init_0, u_St_init_1, u_St_init_4, u_St_init_5, u_St_init_7, u_St_init_9, u_St_init_12, u_St_init_13, u_St_init_15, u_St_init_18, u_St_init_19, u_St_init_21, u_St_init_23, u_St_init_26, u_St_init_27, u_St_init_29, u_St_init_32, u_St_init_35, u_St_init_36, u_St_init_38, u_St_init_41, u_St_init_44, u_St_init_47, u_St_init_48, u_St_init_49, u_St_init_52, u_St_init_55, u_St_init_56, u_St_init_57, u_St_init_59, u_St_init_61, u_St_init_64, u_St_init_65, u_St_init_68, u_St_init_69, u_St_init_70, u_St_init_71, u_St_init_74, u_St_init_77, aSz_pf, aSz_sa, aSz_sr, isO_pf, isO_sa, isO_sr, isA_pf, isA_sa, isA_sr, isR_pf, isR_sa, isR_sr, al_pf, al_sa, al_sr, gf_sa, gf_sr, ai_pf, ai_sr, ra_pf, ra_sa, gf_pn, ai_sn, ra_sn, sa_sa, pf_pf, fi_sa, fi_sr, fi_pn, gO_pf, gO_sa, gO_sr, gA_pf, gA_sa, gA_sr, gR_pf, gR_sa, gR_sr, isAR_pf, isAR_sa, isAR_sr, okQ_pf, okQ_sa, okQ_sr, okC_pf, okC_sa, okC_sr, okQ_n, gB_t, wr_id, wr_ai, wr_fi, wr_wand, wr_wor, wr_wxor, wr_wshl, wr_wshr, wr_lt, wr_gt, Int.reduceEq, Int.reduceLT, Int.reduceLE, Int.reduceNeg, b01, b10, and_self, true_and, and_true, false_and, and_false, or_false, false_or, or_true, true_or, ite_not, not_true_eq_false, not_false_eq_true, kk_v, kk_0, reduceCtorEq, if_true, if_false, ite_true, ite_false, swt, Option.some.injEq, gO_ok, gA_ok, gR_ok, isAR_A, isAR_2, pgs]
  rfl
set_option maxHeartbeats 4000000 in
set_option maxRecDepth 100000 in
theorem j_St_init_4 (hz : aSz h = 5) (hc : aCo h 4 = .inl (7, aDf 7)) (g : Rg h) : ∃ h', ev (d + 2) M_St_init [aQ (some 4)] h = some (none, h') ∧ CO h h' 4 7 [aI 0, aQ (some 5), aI 0, aI 0, aI 50, aI 0, aQ (some 6), aQ (some 7), aI 0, aQ (some 8)] 11 95 ∧ aCo h' 5 = zA 8 ∧ aCo h' 6 = zA 20 ∧ aCo h' 7 = .inr (.inr (0, 6, pgs 9)) ∧ aCo h' 8 = nR 1 60 ∧ aCo h' 9 = .inl (4, [aQ (some 10)]) ∧ aCo h' 10 = nR 2 0 := by
  have ho : isO h 4 7 = true := isO_c hc (by decide) (by omega) rfl
  obtain ⟨k1, a1⟩ := nF_ok (k := 1) (N := 8) hz hc ho g
  have k2 := pf_ok (k := 4) (z := 50) k1.1 k1.2.2.2.1 k1.2.2.1 k1.2.2.2.2.2 ⟨by decide, by decide⟩
  obtain ⟨k3, a3⟩ := nF_ok (k := 6) (N := 20) k2.1 k2.2.2.2.1 k2.2.2.1 k2.2.2.2.2.2
  obtain ⟨k4, a4⟩ := nH_ok (k := 7) (N := 6) (q := 0) k3.1 k3.2.2.2.1 k3.2.2.1 k3.2.2.2.2.2
  obtain ⟨k5, a5⟩ := nH_ok (k := 9) (N := 60) (q := 1) k4.1 k4.2.2.2.1 k4.2.2.1 k4.2.2.2.2.2
  have a4 := (k5.at (b := 7) (by rw [k4.1]; decide) (by decide)).trans a4
  have a3 := (k5.at (b := 6) (by rw [k4.1]; decide) (by decide)).trans ((k4.at (b := 6) (by rw [k3.1]; decide) (by decide)).trans a3)
  have a1 := (k5.at (b := 5) (by rw [k4.1]; decide) (by decide)).trans ((k4.at (b := 5) (by rw [k3.1]; decide) (by decide)).trans ((k3.at (b := 5) (by rw [k2.1]; decide) (by decide)).trans ((k2.at (b := 5) (by rw [k1.1]; decide) (by decide)).trans a1)))
  have K : CO h _ 4 7 [aI 0, aQ (some 5), aI 0, aI 0, aI 50, aI 0, aQ (some 6), aQ (some 7), aI 0, aQ (some 8)] 9 94 := (((k1.trans k2).trans k3).trans k4).trans k5
  have E : ex (ev (d + 1)) k_St_init 0 [aQ (some 4), aU, aU] [] h = ex (ev (d + 1)) k_St_init 44 [aQ (some 4), aU, aU] [] (nH (nH (nF (pf (nF h 4 1 5 8) 4 4 (aI 50)) 4 6 6 20) 4 7 7 0 6) 4 9 8 1 60) := by
    simp (maxDischargeDepth := 400) (maxSteps := 20000000) only [u_St_init_0, u_St_init_1, u_St_init_4, u_St_init_5, u_St_init_7, u_St_init_9, u_St_init_12, u_St_init_13, u_St_init_15, u_St_init_18, u_St_init_19, u_St_init_21, u_St_init_23, u_St_init_26, u_St_init_27, u_St_init_29, u_St_init_32, u_St_init_35, u_St_init_36, u_St_init_38, u_St_init_41, u_St_init_47, u_St_init_48, u_St_init_49, u_St_init_52, u_St_init_55, u_St_init_56, u_St_init_57, u_St_init_59, u_St_init_61, u_St_init_64, u_St_init_65, u_St_init_68, u_St_init_69, u_St_init_70, u_St_init_71, u_St_init_74, u_St_init_77, nF, nH, hz, ho, aSz_pf, aSz_sa, aSz_sr, isO_pf, isO_sa, isO_sr, isA_pf, isA_sa, isA_sr, isR_pf, isR_sa, isR_sr, al_pf, al_sa, al_sr, gf_sa, gf_sr, ai_pf, ai_sr, ra_pf, ra_sa, gf_pn, ai_sn, ra_sn, sa_sa, pf_pf, fi_sa, fi_sr, fi_pn, gO_pf, gO_sa, gO_sr, gA_pf, gA_sa, gA_sr, gR_pf, gR_sa, gR_sr, isAR_pf, isAR_sa, isAR_sr, okQ_pf, okQ_sa, okQ_sr, okC_pf, okC_sa, okC_sr, okQ_n, gB_t, wr_id, wr_ai, wr_fi, wr_wand, wr_wor, wr_wxor, wr_wshl, wr_wshr, wr_lt, wr_gt, Int.reduceEq, Int.reduceLT, Int.reduceLE, Int.reduceNeg, b01, b10, and_self, true_and, and_true, false_and, and_false, or_false, false_or, or_true, true_or, ite_not, not_true_eq_false, not_false_eq_true, kk_v, kk_0, reduceCtorEq, if_true, if_false, ite_true, ite_false, swt, Option.some.injEq, gO_ok, gA_ok, gR_ok, aSz_new, isO_nw, isO_nwE, isR_nw, isR_nwE, isA_nw, isA_nwE, al_new, al_nwR, al_nwA, ai_new, ai_nwE, ai_se, ra_new, ra_nwE, ra_se0, ra_se3, sr_sr, gf_pe7, gf_new, okQ_0e, okQ_3e, nlI, nlQ, nlU, ba0, ba1, ba2, ba3, ba4, ne_eq, Nat.reduceAdd, Nat.reduceLT, Nat.reduceLeDiff, Nat.reduceEqDiff, Int.reduceAdd, Int.reduceToNat, Int.reduceNatCast, Int.reduceNatCast', zA, nR]
  generalize (nH (nH (nF (pf (nF h 4 1 5 8) 4 4 (aI 50)) 4 6 6 20) 4 7 7 0 6) 4 9 8 1 60) = y at K E a1 a3 a4 a5 k5
  clear k1 k2 k3 k4
  obtain ⟨K1, K2, K3, K4, K5, K6⟩ := K
  have b4 : aCo (pf (aNew (aNew y (.inl (4, aDf 4)) (aNf 4)) (nR 2 0) 0) 9 0 (aQ (some 10))) 9 = .inl (4, [aQ (some 10)]) := by
    rw [aCo_pf, if_pos rfl, aCo_new, if_neg (by rw [aSz_new, K1]; decide), aCo_new, if_pos K1.symm]
    rfl
  have b5 : aCo (pf (aNew (aNew y (.inl (4, aDf 4)) (aNf 4)) (nR 2 0) 0) 9 0 (aQ (some 10))) 10 = nR 2 0 := by
    rw [aCo_pf, if_neg (by decide), aCo_new, if_pos (by rw [aSz_new, K1])]
  have bf : Fr [] y (pf (aNew (aNew y (.inl (4, aDf 4)) (aNf 4)) (nR 2 0) 0) 9 0 (aQ (some 10))) := ((Fr.refl.new).new).pf (Or.inl (by rw [K1]; decide))
  have bg : Rg (pf (aNew (aNew y (.inl (4, aDf 4)) (aNf 4)) (nR 2 0) 0) 9 0 (aQ (some 10))) := Rg_pfQ (Rg_newR (Rg_newO K6))
  have E2 : ex (ev (d + 1)) k_St_init 44 [aQ (some 4), aU, aU] [] y = ex (ev (d + 1)) k_St_init 58 [aQ (some 4), aQ (some 9), aI 0] [] (pf (aNew (aNew y (.inl (4, aDf 4)) (aNf 4)) (nR 2 0) 0) 9 0 (aQ (some 10))) := by
    simp (maxDischargeDepth := 400) (maxSteps := 20000000) only [u_St_init_0, u_St_init_1, u_St_init_4, u_St_init_5, u_St_init_7, u_St_init_9, u_St_init_12, u_St_init_13, u_St_init_15, u_St_init_18, u_St_init_19, u_St_init_21, u_St_init_23, u_St_init_26, u_St_init_27, u_St_init_29, u_St_init_32, u_St_init_35, u_St_init_36, u_St_init_38, u_St_init_41, u_St_init_44, u_St_init_47, u_St_init_48, u_St_init_49, u_St_init_52, u_St_init_55, u_St_init_56, u_St_init_57, u_St_init_59, u_St_init_61, u_St_init_64, u_St_init_65, u_St_init_68, u_St_init_69, u_St_init_70, u_St_init_71, u_St_init_74, u_St_init_77, n_Pg_init, u_Pg_init_0, u_Pg_init_1, u_Pg_init_4, u_Pg_init_5, u_Pg_init_6, u_Pg_init_9, K1, K3, aSz_pf, aSz_sa, aSz_sr, isO_pf, isO_sa, isO_sr, isA_pf, isA_sa, isA_sr, isR_pf, isR_sa, isR_sr, al_pf, al_sa, al_sr, gf_sa, gf_sr, ai_pf, ai_sr, ra_pf, ra_sa, gf_pn, ai_sn, ra_sn, sa_sa, pf_pf, fi_sa, fi_sr, fi_pn, gO_pf, gO_sa, gO_sr, gA_pf, gA_sa, gA_sr, gR_pf, gR_sa, gR_sr, isAR_pf, isAR_sa, isAR_sr, okQ_pf, okQ_sa, okQ_sr, okC_pf, okC_sa, okC_sr, okQ_n, gB_t, wr_id, wr_ai, wr_fi, wr_wand, wr_wor, wr_wxor, wr_wshl, wr_wshr, wr_lt, wr_gt, Int.reduceEq, Int.reduceLT, Int.reduceLE, Int.reduceNeg, b01, b10, and_self, true_and, and_true, false_and, and_false, or_false, false_or, or_true, true_or, ite_not, not_true_eq_false, not_false_eq_true, kk_v, kk_0, reduceCtorEq, if_true, if_false, ite_true, ite_false, swt, Option.some.injEq, gO_ok, gA_ok, gR_ok, aSz_new, isO_nw, isO_nwE, isR_nw, isR_nwE, isA_nw, isA_nwE, al_new, al_nwR, al_nwA, ai_new, ai_nwE, ai_se, ra_new, ra_nwE, ra_se0, ra_se3, sr_sr, gf_pe7, gf_new, okQ_0e, okQ_3e, nlI, nlQ, nlU, ba0, ba1, ba2, ba3, ba4, ne_eq, Nat.reduceAdd, Nat.reduceLT, Nat.reduceLeDiff, Nat.reduceEqDiff, Int.reduceAdd, Int.reduceToNat, Int.reduceNatCast, Int.reduceNatCast', zA, nR]
  have bz : aSz (pf (aNew (aNew y (.inl (4, aDf 4)) (aNf 4)) (nR 2 0) 0) 9 0 (aQ (some 10))) = 11 := by rw [aSz_pf, aSz_new, aSz_new, K1]
  have bs : aSl (pf (aNew (aNew y (.inl (4, aDf 4)) (aNf 4)) (nR 2 0) 0) 9 0 (aQ (some 10))) = aSl y + 1 := rfl
  generalize pf (aNew (aNew y (.inl (4, aDf 4)) (aNf 4)) (nR 2 0) 0) 9 0 (aQ (some 10)) = y2 at b4 b5 bf bg E2 bz bs
  have c4 := (bf.2 7 (by rw [K1]; decide) (by decide)).trans a4
  have c0 := (bf.2 4 (by rw [K1]; decide) (by decide)).trans K4
  have E3 := j_Sl_4 (d := d + 1) (h := y2) (isR_c c4 (by decide) (by rw [bz]; decide)) (by unfold al; rw [c4]; rfl) (by unfold ra; rw [c4]; rfl) (isO_c c0 (by decide) (by rw [bz]; decide) rfl) (isO_c b4 (by decide) (by rw [bz]; decide) rfl) (by unfold gf; rw [c0]; rfl)
  refine ⟨sr y2 7 (pgs 9), ?_, ⟨by rw [aSz_sr, bz], ?_, ?_, ?_, ?_, Rg_sr bg⟩, ?_, ?_, ?_, ?_, ?_, ?_⟩
  · rw [n_St_init, E, E2, E3]
  · show aSl y2 = _
    rw [bs, K2]
  · rw [isO_sr]; exact isO_c c0 (by decide) (by rw [bz]; decide) rfl
  · rw [aCo_sr, if_neg (by decide)]; exact c0
  · exact (K5.trans (bf.mono (fun a h => absurd h List.not_mem_nil))).sr (Or.inl (by rw [hz]; decide))
  · rw [aCo_sr, if_neg (by decide)]; exact (bf.2 5 (by rw [K1]; decide) (by decide)).trans a1
  · rw [aCo_sr, if_neg (by decide)]; exact (bf.2 6 (by rw [K1]; decide) (by decide)).trans a3
  · rw [aCo_sr, if_pos rfl, c4]; rfl
  · rw [aCo_sr, if_neg (by decide)]; exact (bf.2 8 (by rw [K1]; decide) (by decide)).trans a5
  · rw [aCo_sr, if_neg (by decide)]; exact b4
  · rw [aCo_sr, if_neg (by decide)]; exact b5
theorem j_Ss_11 {P : Int → Option Nat} {i : Int} (hi : 0 ≤ i ∧ i < 6) (q : isR h 14 0 = true) (ql : al h 14 = 6) (ho : isO h 11 7 = true) (hp : isO h 16 4 = true) (hg : gf h 11 7 = aQ (some 14)) : ex (ev d) k_St_init 58 [aQ (some 11), aQ (some 16), aI i] [] (sr h 14 P) = ex (ev d) k_St_init 58 [aQ (some 11), aQ (some 16), aI (i + 1)] [] (sr h 14 (upf P i (some 16))) := by
  have c : i < 6 := hi.2
  rw [u_St_init_58]
  simp (disch := first | assumption | omega | exact aNl_I | exact aNl_Q | exact bl0 | exact bl1 | exact bl2 | exact bl3 | exact bl4 | exact aNl_U) only [u_St_init_0, u_St_init_1, u_St_init_4, u_St_init_5, u_St_init_7, u_St_init_9, u_St_init_12, u_St_init_13, u_St_init_15, u_St_init_18, u_St_init_19, u_St_init_21, u_St_init_23, u_St_init_26, u_St_init_27, u_St_init_29, u_St_init_32, u_St_init_35, u_St_init_36, u_St_init_38, u_St_init_41, u_St_init_44, u_St_init_47, u_St_init_48, u_St_init_49, u_St_init_52, u_St_init_55, u_St_init_56, u_St_init_57, u_St_init_59, u_St_init_61, u_St_init_64, u_St_init_65, u_St_init_68, u_St_init_69, u_St_init_70, u_St_init_71, u_St_init_74, u_St_init_77, aSz_pf, aSz_sa, aSz_sr, isO_pf, isO_sa, isO_sr, isA_pf, isA_sa, isA_sr, isR_pf, isR_sa, isR_sr, al_pf, al_sa, al_sr, gf_sa, gf_sr, ai_pf, ai_sr, ra_pf, ra_sa, gf_pn, ai_sn, ra_sn, sa_sa, pf_pf, fi_sa, fi_sr, fi_pn, gO_pf, gO_sa, gO_sr, gA_pf, gA_sa, gA_sr, gR_pf, gR_sa, gR_sr, isAR_pf, isAR_sa, isAR_sr, okQ_pf, okQ_sa, okQ_sr, okC_pf, okC_sa, okC_sr, okQ_n, gB_t, wr_id, wr_ai, wr_fi, wr_wand, wr_wor, wr_wxor, wr_wshl, wr_wshr, wr_lt, wr_gt, Int.reduceEq, Int.reduceLT, Int.reduceLE, Int.reduceNeg, b01, b10, and_self, true_and, and_true, false_and, and_false, or_false, false_or, or_true, true_or, ite_not, not_true_eq_false, not_false_eq_true, kk_v, kk_0, reduceCtorEq, if_true, if_false, ite_true, ite_false, swt, Option.some.injEq, gO_ok, gA_ok, gR_ok, isAR_A, isAR_2, hg, c, ra_se q, sr_sr, okQ_0e]
theorem j_Sl_11 (q : isR h 14 0 = true) (ql : al h 14 = 6) (qr : ra h 14 = fun _ => none) (ho : isO h 11 7 = true) (hp : isO h 16 4 = true) (hg : gf h 11 7 = aQ (some 14)) : ex (ev d) k_St_init 58 [aQ (some 11), aQ (some 16), aI 0] [] h = some (none, sr h 14 (pgs 16)) := by
  have e := j_Ss_11 (d := d) (P := fun _ => none) (i := 0) ⟨by decide, by decide⟩ q ql ho hp hg
  have z := sr_self q
  rw [qr] at z
  rw [z] at e
  rw [e, j_Ss_11 ⟨by decide, by decide⟩ q ql ho hp hg, j_Ss_11 ⟨by decide, by decide⟩ q ql ho hp hg, j_Ss_11 ⟨by decide, by decide⟩ q ql ho hp hg, j_Ss_11 ⟨by decide, by decide⟩ q ql ho hp hg, j_Ss_11 ⟨by decide, by decide⟩ q ql ho hp hg, u_St_init_58]
  simp (disch := first | assumption | omega | exact aNl_I | exact aNl_Q | exact bl0 | exact bl1 | exact bl2 | exact bl3 | exact bl4 | exact aNl_U) only [u_St_init_0, u_St_init_1, u_St_init_4, u_St_init_5, u_St_init_7, u_St_init_9, u_St_init_12, u_St_init_13, u_St_init_15, u_St_init_18, u_St_init_19, u_St_init_21, u_St_init_23, u_St_init_26, u_St_init_27, u_St_init_29, u_St_init_32, u_St_init_35, u_St_init_36, u_St_init_38, u_St_init_41, u_St_init_44, u_St_init_47, u_St_init_48, u_St_init_49, u_St_init_52, u_St_init_55, u_St_init_56, u_St_init_57, u_St_init_59, u_St_init_61, u_St_init_64, u_St_init_65, u_St_init_68, u_St_init_69, u_St_init_70, u_St_init_71, u_St_init_74, u_St_init_77, aSz_pf, aSz_sa, aSz_sr, isO_pf, isO_sa, isO_sr, isA_pf, isA_sa, isA_sr, isR_pf, isR_sa, isR_sr, al_pf, al_sa, al_sr, gf_sa, gf_sr, ai_pf, ai_sr, ra_pf, ra_sa, gf_pn, ai_sn, ra_sn, sa_sa, pf_pf, fi_sa, fi_sr, fi_pn, gO_pf, gO_sa, gO_sr, gA_pf, gA_sa, gA_sr, gR_pf, gR_sa, gR_sr, isAR_pf, isAR_sa, isAR_sr, okQ_pf, okQ_sa, okQ_sr, okC_pf, okC_sa, okC_sr, okQ_n, gB_t, wr_id, wr_ai, wr_fi, wr_wand, wr_wor, wr_wxor, wr_wshl, wr_wshr, wr_lt, wr_gt, Int.reduceEq, Int.reduceLT, Int.reduceLE, Int.reduceNeg, b01, b10, and_self, true_and, and_true, false_and, and_false, or_false, false_or, or_true, true_or, ite_not, not_true_eq_false, not_false_eq_true, kk_v, kk_0, reduceCtorEq, if_true, if_false, ite_true, ite_false, swt, Option.some.injEq, gO_ok, gA_ok, gR_ok, isAR_A, isAR_2, pgs]
  rfl
set_option maxHeartbeats 4000000 in
set_option maxRecDepth 100000 in
theorem j_St_init_11 (hz : aSz h = 12) (hc : aCo h 11 = .inl (7, aDf 7)) (g : Rg h) : ∃ h', ev (d + 2) M_St_init [aQ (some 11)] h = some (none, h') ∧ CO h h' 11 7 [aI 0, aQ (some 12), aI 0, aI 0, aI 50, aI 0, aQ (some 13), aQ (some 14), aI 0, aQ (some 15)] 18 95 ∧ aCo h' 12 = zA 8 ∧ aCo h' 13 = zA 20 ∧ aCo h' 14 = .inr (.inr (0, 6, pgs 16)) ∧ aCo h' 15 = nR 1 60 ∧ aCo h' 16 = .inl (4, [aQ (some 17)]) ∧ aCo h' 17 = nR 2 0 := by
  have ho : isO h 11 7 = true := isO_c hc (by decide) (by omega) rfl
  obtain ⟨k1, a1⟩ := nF_ok (k := 1) (N := 8) hz hc ho g
  have k2 := pf_ok (k := 4) (z := 50) k1.1 k1.2.2.2.1 k1.2.2.1 k1.2.2.2.2.2 ⟨by decide, by decide⟩
  obtain ⟨k3, a3⟩ := nF_ok (k := 6) (N := 20) k2.1 k2.2.2.2.1 k2.2.2.1 k2.2.2.2.2.2
  obtain ⟨k4, a4⟩ := nH_ok (k := 7) (N := 6) (q := 0) k3.1 k3.2.2.2.1 k3.2.2.1 k3.2.2.2.2.2
  obtain ⟨k5, a5⟩ := nH_ok (k := 9) (N := 60) (q := 1) k4.1 k4.2.2.2.1 k4.2.2.1 k4.2.2.2.2.2
  have a4 := (k5.at (b := 14) (by rw [k4.1]; decide) (by decide)).trans a4
  have a3 := (k5.at (b := 13) (by rw [k4.1]; decide) (by decide)).trans ((k4.at (b := 13) (by rw [k3.1]; decide) (by decide)).trans a3)
  have a1 := (k5.at (b := 12) (by rw [k4.1]; decide) (by decide)).trans ((k4.at (b := 12) (by rw [k3.1]; decide) (by decide)).trans ((k3.at (b := 12) (by rw [k2.1]; decide) (by decide)).trans ((k2.at (b := 12) (by rw [k1.1]; decide) (by decide)).trans a1)))
  have K : CO h _ 11 7 [aI 0, aQ (some 12), aI 0, aI 0, aI 50, aI 0, aQ (some 13), aQ (some 14), aI 0, aQ (some 15)] 16 94 := (((k1.trans k2).trans k3).trans k4).trans k5
  have E : ex (ev (d + 1)) k_St_init 0 [aQ (some 11), aU, aU] [] h = ex (ev (d + 1)) k_St_init 44 [aQ (some 11), aU, aU] [] (nH (nH (nF (pf (nF h 11 1 12 8) 11 4 (aI 50)) 11 6 13 20) 11 7 14 0 6) 11 9 15 1 60) := by
    simp (maxDischargeDepth := 400) (maxSteps := 20000000) only [u_St_init_0, u_St_init_1, u_St_init_4, u_St_init_5, u_St_init_7, u_St_init_9, u_St_init_12, u_St_init_13, u_St_init_15, u_St_init_18, u_St_init_19, u_St_init_21, u_St_init_23, u_St_init_26, u_St_init_27, u_St_init_29, u_St_init_32, u_St_init_35, u_St_init_36, u_St_init_38, u_St_init_41, u_St_init_47, u_St_init_48, u_St_init_49, u_St_init_52, u_St_init_55, u_St_init_56, u_St_init_57, u_St_init_59, u_St_init_61, u_St_init_64, u_St_init_65, u_St_init_68, u_St_init_69, u_St_init_70, u_St_init_71, u_St_init_74, u_St_init_77, nF, nH, hz, ho, aSz_pf, aSz_sa, aSz_sr, isO_pf, isO_sa, isO_sr, isA_pf, isA_sa, isA_sr, isR_pf, isR_sa, isR_sr, al_pf, al_sa, al_sr, gf_sa, gf_sr, ai_pf, ai_sr, ra_pf, ra_sa, gf_pn, ai_sn, ra_sn, sa_sa, pf_pf, fi_sa, fi_sr, fi_pn, gO_pf, gO_sa, gO_sr, gA_pf, gA_sa, gA_sr, gR_pf, gR_sa, gR_sr, isAR_pf, isAR_sa, isAR_sr, okQ_pf, okQ_sa, okQ_sr, okC_pf, okC_sa, okC_sr, okQ_n, gB_t, wr_id, wr_ai, wr_fi, wr_wand, wr_wor, wr_wxor, wr_wshl, wr_wshr, wr_lt, wr_gt, Int.reduceEq, Int.reduceLT, Int.reduceLE, Int.reduceNeg, b01, b10, and_self, true_and, and_true, false_and, and_false, or_false, false_or, or_true, true_or, ite_not, not_true_eq_false, not_false_eq_true, kk_v, kk_0, reduceCtorEq, if_true, if_false, ite_true, ite_false, swt, Option.some.injEq, gO_ok, gA_ok, gR_ok, aSz_new, isO_nw, isO_nwE, isR_nw, isR_nwE, isA_nw, isA_nwE, al_new, al_nwR, al_nwA, ai_new, ai_nwE, ai_se, ra_new, ra_nwE, ra_se0, ra_se3, sr_sr, gf_pe7, gf_new, okQ_0e, okQ_3e, nlI, nlQ, nlU, ba0, ba1, ba2, ba3, ba4, ne_eq, Nat.reduceAdd, Nat.reduceLT, Nat.reduceLeDiff, Nat.reduceEqDiff, Int.reduceAdd, Int.reduceToNat, Int.reduceNatCast, Int.reduceNatCast', zA, nR]
  generalize (nH (nH (nF (pf (nF h 11 1 12 8) 11 4 (aI 50)) 11 6 13 20) 11 7 14 0 6) 11 9 15 1 60) = y at K E a1 a3 a4 a5 k5
  clear k1 k2 k3 k4
  obtain ⟨K1, K2, K3, K4, K5, K6⟩ := K
  have b4 : aCo (pf (aNew (aNew y (.inl (4, aDf 4)) (aNf 4)) (nR 2 0) 0) 16 0 (aQ (some 17))) 16 = .inl (4, [aQ (some 17)]) := by
    rw [aCo_pf, if_pos rfl, aCo_new, if_neg (by rw [aSz_new, K1]; decide), aCo_new, if_pos K1.symm]
    rfl
  have b5 : aCo (pf (aNew (aNew y (.inl (4, aDf 4)) (aNf 4)) (nR 2 0) 0) 16 0 (aQ (some 17))) 17 = nR 2 0 := by
    rw [aCo_pf, if_neg (by decide), aCo_new, if_pos (by rw [aSz_new, K1])]
  have bf : Fr [] y (pf (aNew (aNew y (.inl (4, aDf 4)) (aNf 4)) (nR 2 0) 0) 16 0 (aQ (some 17))) := ((Fr.refl.new).new).pf (Or.inl (by rw [K1]; decide))
  have bg : Rg (pf (aNew (aNew y (.inl (4, aDf 4)) (aNf 4)) (nR 2 0) 0) 16 0 (aQ (some 17))) := Rg_pfQ (Rg_newR (Rg_newO K6))
  have E2 : ex (ev (d + 1)) k_St_init 44 [aQ (some 11), aU, aU] [] y = ex (ev (d + 1)) k_St_init 58 [aQ (some 11), aQ (some 16), aI 0] [] (pf (aNew (aNew y (.inl (4, aDf 4)) (aNf 4)) (nR 2 0) 0) 16 0 (aQ (some 17))) := by
    simp (maxDischargeDepth := 400) (maxSteps := 20000000) only [u_St_init_0, u_St_init_1, u_St_init_4, u_St_init_5, u_St_init_7, u_St_init_9, u_St_init_12, u_St_init_13, u_St_init_15, u_St_init_18, u_St_init_19, u_St_init_21, u_St_init_23, u_St_init_26, u_St_init_27, u_St_init_29, u_St_init_32, u_St_init_35, u_St_init_36, u_St_init_38, u_St_init_41, u_St_init_44, u_St_init_47, u_St_init_48, u_St_init_49, u_St_init_52, u_St_init_55, u_St_init_56, u_St_init_57, u_St_init_59, u_St_init_61, u_St_init_64, u_St_init_65, u_St_init_68, u_St_init_69, u_St_init_70, u_St_init_71, u_St_init_74, u_St_init_77, n_Pg_init, u_Pg_init_0, u_Pg_init_1, u_Pg_init_4, u_Pg_init_5, u_Pg_init_6, u_Pg_init_9, K1, K3, aSz_pf, aSz_sa, aSz_sr, isO_pf, isO_sa, isO_sr, isA_pf, isA_sa, isA_sr, isR_pf, isR_sa, isR_sr, al_pf, al_sa, al_sr, gf_sa, gf_sr, ai_pf, ai_sr, ra_pf, ra_sa, gf_pn, ai_sn, ra_sn, sa_sa, pf_pf, fi_sa, fi_sr, fi_pn, gO_pf, gO_sa, gO_sr, gA_pf, gA_sa, gA_sr, gR_pf, gR_sa, gR_sr, isAR_pf, isAR_sa, isAR_sr, okQ_pf, okQ_sa, okQ_sr, okC_pf, okC_sa, okC_sr, okQ_n, gB_t, wr_id, wr_ai, wr_fi, wr_wand, wr_wor, wr_wxor, wr_wshl, wr_wshr, wr_lt, wr_gt, Int.reduceEq, Int.reduceLT, Int.reduceLE, Int.reduceNeg, b01, b10, and_self, true_and, and_true, false_and, and_false, or_false, false_or, or_true, true_or, ite_not, not_true_eq_false, not_false_eq_true, kk_v, kk_0, reduceCtorEq, if_true, if_false, ite_true, ite_false, swt, Option.some.injEq, gO_ok, gA_ok, gR_ok, aSz_new, isO_nw, isO_nwE, isR_nw, isR_nwE, isA_nw, isA_nwE, al_new, al_nwR, al_nwA, ai_new, ai_nwE, ai_se, ra_new, ra_nwE, ra_se0, ra_se3, sr_sr, gf_pe7, gf_new, okQ_0e, okQ_3e, nlI, nlQ, nlU, ba0, ba1, ba2, ba3, ba4, ne_eq, Nat.reduceAdd, Nat.reduceLT, Nat.reduceLeDiff, Nat.reduceEqDiff, Int.reduceAdd, Int.reduceToNat, Int.reduceNatCast, Int.reduceNatCast', zA, nR]
  have bz : aSz (pf (aNew (aNew y (.inl (4, aDf 4)) (aNf 4)) (nR 2 0) 0) 16 0 (aQ (some 17))) = 18 := by rw [aSz_pf, aSz_new, aSz_new, K1]
  have bs : aSl (pf (aNew (aNew y (.inl (4, aDf 4)) (aNf 4)) (nR 2 0) 0) 16 0 (aQ (some 17))) = aSl y + 1 := rfl
  generalize pf (aNew (aNew y (.inl (4, aDf 4)) (aNf 4)) (nR 2 0) 0) 16 0 (aQ (some 17)) = y2 at b4 b5 bf bg E2 bz bs
  have c4 := (bf.2 14 (by rw [K1]; decide) (by decide)).trans a4
  have c0 := (bf.2 11 (by rw [K1]; decide) (by decide)).trans K4
  have E3 := j_Sl_11 (d := d + 1) (h := y2) (isR_c c4 (by decide) (by rw [bz]; decide)) (by unfold al; rw [c4]; rfl) (by unfold ra; rw [c4]; rfl) (isO_c c0 (by decide) (by rw [bz]; decide) rfl) (isO_c b4 (by decide) (by rw [bz]; decide) rfl) (by unfold gf; rw [c0]; rfl)
  refine ⟨sr y2 14 (pgs 16), ?_, ⟨by rw [aSz_sr, bz], ?_, ?_, ?_, ?_, Rg_sr bg⟩, ?_, ?_, ?_, ?_, ?_, ?_⟩
  · rw [n_St_init, E, E2, E3]
  · show aSl y2 = _
    rw [bs, K2]
  · rw [isO_sr]; exact isO_c c0 (by decide) (by rw [bz]; decide) rfl
  · rw [aCo_sr, if_neg (by decide)]; exact c0
  · exact (K5.trans (bf.mono (fun a h => absurd h List.not_mem_nil))).sr (Or.inl (by rw [hz]; decide))
  · rw [aCo_sr, if_neg (by decide)]; exact (bf.2 12 (by rw [K1]; decide) (by decide)).trans a1
  · rw [aCo_sr, if_neg (by decide)]; exact (bf.2 13 (by rw [K1]; decide) (by decide)).trans a3
  · rw [aCo_sr, if_pos rfl, c4]; rfl
  · rw [aCo_sr, if_neg (by decide)]; exact (bf.2 15 (by rw [K1]; decide) (by decide)).trans a5
  · rw [aCo_sr, if_neg (by decide)]; exact b4
  · rw [aCo_sr, if_neg (by decide)]; exact b5
set_option maxHeartbeats 4000000 in
set_option maxRecDepth 100000 in
theorem i_Ca (hz : aSz h = 4) (hc : aCo h 3 = .inl (9, aDf 9)) (g : Rg h) : ∃ h6, ex (ev (d + 2)) k_C_init 0 [aQ (some 3), aU] [] h = ex (ev (d + 2)) k_C_init 70 [aQ (some 3), aU] [] h6 ∧ CO h h6 3 9 [aQ (some 4), aQ (some 11), aQ (some 18), aQ (some 21), aQ (some 23), aQ (some 28), aQ none, aI 0, aI 0, aI 0] 30 3109 ∧ aCo h6 4 = oSt 5 ∧ aCo h6 5 = zA 8 ∧ aCo h6 6 = zA 20 ∧ aCo h6 7 = .inr (.inr (0, 6, pgs 9)) ∧ aCo h6 8 = nR 1 60 ∧ aCo h6 9 = .inl (4, [aQ (some 10)]) ∧ aCo h6 10 = nR 2 0 ∧ aCo h6 11 = oSt 12 ∧ aCo h6 12 = zA 8 ∧ aCo h6 13 = zA 20 ∧ aCo h6 14 = .inr (.inr (0, 6, pgs 16)) ∧ aCo h6 15 = nR 1 60 ∧ aCo h6 16 = .inl (4, [aQ (some 17)]) ∧ aCo h6 17 = nR 2 0 ∧ aCo h6 18 = .inl (2, [aQ (some 19), aQ (some 20), aI 0, aQ none, aQ none, aI 0, aI 0]) ∧ aCo h6 19 = zA 441 ∧ aCo h6 20 = zA 20 ∧ aCo h6 21 = .inl (8, [aQ (some 22)]) ∧ aCo h6 22 = zA 6 ∧ aCo h6 23 = .inl (5, [aI 0, aQ (some 24), aQ (some 25), aI 0, aQ (some 26), aQ (some 27)]) ∧ aCo h6 24 = zA 8 ∧ aCo h6 25 = zA 6 ∧ aCo h6 26 = zA 48 ∧ aCo h6 27 = zA 2304 ∧ aCo h6 28 = .inl (0, [aQ (some 29), aI 0]) ∧ aCo h6 29 = zA 50 := by
  have ho : isO h 3 9 = true := isO_c hc (by decide) (by omega) rfl
  obtain ⟨h0, e0, k0, s0a, s0b, s0e, s0f, s0p, s0r⟩ := j_St_init_4 (d := d) (h := aNew h (.inl (7, aDf 7)) (aNf 7)) (by rw [aSz_new, hz]) (by rw [aCo_new, if_pos (hz).symm]) (Rg_newO g)
  have e0 : ev (d + 2) M_St_init [aQ (some 4)] (aNew h (.inl (7, aDf 7)) (aNf 7)) = some (none, h0) := e0
  have t0 : ∀ b, b < 4 → aCo h0 b = aCo (h) b := fun b hb => by rw [k0.at (by rw [aSz_new, hz]; omega) (by omega), aCo_new, if_neg (by rw [hz]; omega)]
  have c0 : aCo h0 3 = .inl (9, [aQ none, aQ none, aQ none, aQ none, aQ none, aQ none, aQ none, aI 0, aI 0, aI 0]) := (t0 3 (by decide)).trans hc
  have o0 : isO h0 3 9 = true := isO_c c0 (by decide) (by rw [k0.1]; decide) rfl
  have p0 : aCo (pf h0 3 0 (aQ (some 4))) 3 = .inl (9, [aQ (some 4), aQ none, aQ none, aQ none, aQ none, aQ none, aQ none, aI 0, aI 0, aI 0]) := by rw [aCo_pf, if_pos rfl, c0]; rfl
  obtain ⟨h1, e1, k1, s1a, s1b, s1e, s1f, s1p, s1r⟩ := j_St_init_11 (d := d) (h := aNew (pf h0 3 0 (aQ (some 4))) (.inl (7, aDf 7)) (aNf 7)) (by rw [aSz_new, (show aSz (pf h0 3 0 (aQ (some 4))) = 11 from k0.1)]) (by rw [aCo_new, if_pos ((show aSz (pf h0 3 0 (aQ (some 4))) = 11 from k0.1)).symm]) (Rg_newO (Rg_pfQ k0.2.2.2.2.2))
  have e1 : ev (d + 2) M_St_init [aQ (some 11)] (aNew (pf h0 3 0 (aQ (some 4))) (.inl (7, aDf 7)) (aNf 7)) = some (none, h1) := e1
  have t1 : ∀ b, b < 11 → aCo h1 b = aCo ((pf h0 3 0 (aQ (some 4)))) b := fun b hb => by rw [k1.at (by rw [aSz_new, (show aSz (pf h0 3 0 (aQ (some 4))) = 11 from k0.1)]; omega) (by omega), aCo_new, if_neg (by rw [(show aSz (pf h0 3 0 (aQ (some 4))) = 11 from k0.1)]; omega)]
  have c1 : aCo h1 3 = .inl (9, [aQ (some 4), aQ none, aQ none, aQ none, aQ none, aQ none, aQ none, aI 0, aI 0, aI 0]) := (t1 3 (by decide)).trans p0
  have o1 : isO h1 3 9 = true := isO_c c1 (by decide) (by rw [k1.1]; decide) rfl
  have p1 : aCo (pf h1 3 1 (aQ (some 11))) 3 = .inl (9, [aQ (some 4), aQ (some 11), aQ none, aQ none, aQ none, aQ none, aQ none, aI 0, aI 0, aI 0]) := by rw [aCo_pf, if_pos rfl, c1]; rfl
  obtain ⟨h2, e2, k2, s2a, s2b⟩ := j_Kp_init_18 (d := d + 1) (h := aNew (pf h1 3 1 (aQ (some 11))) (.inl (2, aDf 2)) (aNf 2)) (by rw [aSz_new, (show aSz (pf h1 3 1 (aQ (some 11))) = 18 from k1.1)]) (by rw [aCo_new, if_pos ((show aSz (pf h1 3 1 (aQ (some 11))) = 18 from k1.1)).symm]) (Rg_newO (Rg_pfQ k1.2.2.2.2.2))
  have e2 : ev (d + 2) M_Kp_init [aQ (some 18)] (aNew (pf h1 3 1 (aQ (some 11))) (.inl (2, aDf 2)) (aNf 2)) = some (none, h2) := e2
  have t2 : ∀ b, b < 18 → aCo h2 b = aCo ((pf h1 3 1 (aQ (some 11)))) b := fun b hb => by rw [k2.at (by rw [aSz_new, (show aSz (pf h1 3 1 (aQ (some 11))) = 18 from k1.1)]; omega) (by omega), aCo_new, if_neg (by rw [(show aSz (pf h1 3 1 (aQ (some 11))) = 18 from k1.1)]; omega)]
  have c2 : aCo h2 3 = .inl (9, [aQ (some 4), aQ (some 11), aQ none, aQ none, aQ none, aQ none, aQ none, aI 0, aI 0, aI 0]) := (t2 3 (by decide)).trans p1
  have o2 : isO h2 3 9 = true := isO_c c2 (by decide) (by rw [k2.1]; decide) rfl
  have p2 : aCo (pf h2 3 2 (aQ (some 18))) 3 = .inl (9, [aQ (some 4), aQ (some 11), aQ (some 18), aQ none, aQ none, aQ none, aQ none, aI 0, aI 0, aI 0]) := by rw [aCo_pf, if_pos rfl, c2]; rfl
  obtain ⟨h3, e3, k3, s3a⟩ := j_Te_init_21 (d := d + 1) (h := aNew (pf h2 3 2 (aQ (some 18))) (.inl (8, aDf 8)) (aNf 8)) (by rw [aSz_new, (show aSz (pf h2 3 2 (aQ (some 18))) = 21 from k2.1)]) (by rw [aCo_new, if_pos ((show aSz (pf h2 3 2 (aQ (some 18))) = 21 from k2.1)).symm]) (Rg_newO (Rg_pfQ k2.2.2.2.2.2))
  have e3 : ev (d + 2) M_Te_init [aQ (some 21)] (aNew (pf h2 3 2 (aQ (some 18))) (.inl (8, aDf 8)) (aNf 8)) = some (none, h3) := e3
  have t3 : ∀ b, b < 21 → aCo h3 b = aCo ((pf h2 3 2 (aQ (some 18)))) b := fun b hb => by rw [k3.at (by rw [aSz_new, (show aSz (pf h2 3 2 (aQ (some 18))) = 21 from k2.1)]; omega) (by omega), aCo_new, if_neg (by rw [(show aSz (pf h2 3 2 (aQ (some 18))) = 21 from k2.1)]; omega)]
  have c3 : aCo h3 3 = .inl (9, [aQ (some 4), aQ (some 11), aQ (some 18), aQ none, aQ none, aQ none, aQ none, aI 0, aI 0, aI 0]) := (t3 3 (by decide)).trans p2
  have o3 : isO h3 3 9 = true := isO_c c3 (by decide) (by rw [k3.1]; decide) rfl
  have p3 : aCo (pf h3 3 3 (aQ (some 21))) 3 = .inl (9, [aQ (some 4), aQ (some 11), aQ (some 18), aQ (some 21), aQ none, aQ none, aQ none, aI 0, aI 0, aI 0]) := by rw [aCo_pf, if_pos rfl, c3]; rfl
  obtain ⟨h4, e4, k4, s4a, s4b, s4e, s4f⟩ := j_Pl_init_23 (d := d + 1) (h := aNew (pf h3 3 3 (aQ (some 21))) (.inl (5, aDf 5)) (aNf 5)) (by rw [aSz_new, (show aSz (pf h3 3 3 (aQ (some 21))) = 23 from k3.1)]) (by rw [aCo_new, if_pos ((show aSz (pf h3 3 3 (aQ (some 21))) = 23 from k3.1)).symm]) (Rg_newO (Rg_pfQ k3.2.2.2.2.2))
  have e4 : ev (d + 2) M_Pl_init [aQ (some 23)] (aNew (pf h3 3 3 (aQ (some 21))) (.inl (5, aDf 5)) (aNf 5)) = some (none, h4) := e4
  have t4 : ∀ b, b < 23 → aCo h4 b = aCo ((pf h3 3 3 (aQ (some 21)))) b := fun b hb => by rw [k4.at (by rw [aSz_new, (show aSz (pf h3 3 3 (aQ (some 21))) = 23 from k3.1)]; omega) (by omega), aCo_new, if_neg (by rw [(show aSz (pf h3 3 3 (aQ (some 21))) = 23 from k3.1)]; omega)]
  have c4 : aCo h4 3 = .inl (9, [aQ (some 4), aQ (some 11), aQ (some 18), aQ (some 21), aQ none, aQ none, aQ none, aI 0, aI 0, aI 0]) := (t4 3 (by decide)).trans p3
  have o4 : isO h4 3 9 = true := isO_c c4 (by decide) (by rw [k4.1]; decide) rfl
  have p4 : aCo (pf h4 3 4 (aQ (some 23))) 3 = .inl (9, [aQ (some 4), aQ (some 11), aQ (some 18), aQ (some 21), aQ (some 23), aQ none, aQ none, aI 0, aI 0, aI 0]) := by rw [aCo_pf, if_pos rfl, c4]; rfl
  obtain ⟨h5, e5, k5, s5a⟩ := j_A_init_28 (d := d + 1) (h := aNew (pf h4 3 4 (aQ (some 23))) (.inl (0, aDf 0)) (aNf 0)) (by rw [aSz_new, (show aSz (pf h4 3 4 (aQ (some 23))) = 28 from k4.1)]) (by rw [aCo_new, if_pos ((show aSz (pf h4 3 4 (aQ (some 23))) = 28 from k4.1)).symm]) (Rg_newO (Rg_pfQ k4.2.2.2.2.2))
  have e5 : ev (d + 2) M_A_init [aQ (some 28)] (aNew (pf h4 3 4 (aQ (some 23))) (.inl (0, aDf 0)) (aNf 0)) = some (none, h5) := e5
  have t5 : ∀ b, b < 28 → aCo h5 b = aCo ((pf h4 3 4 (aQ (some 23)))) b := fun b hb => by rw [k5.at (by rw [aSz_new, (show aSz (pf h4 3 4 (aQ (some 23))) = 28 from k4.1)]; omega) (by omega), aCo_new, if_neg (by rw [(show aSz (pf h4 3 4 (aQ (some 23))) = 28 from k4.1)]; omega)]
  have c5 : aCo h5 3 = .inl (9, [aQ (some 4), aQ (some 11), aQ (some 18), aQ (some 21), aQ (some 23), aQ none, aQ none, aI 0, aI 0, aI 0]) := (t5 3 (by decide)).trans p4
  have o5 : isO h5 3 9 = true := isO_c c5 (by decide) (by rw [k5.1]; decide) rfl
  have p5 : aCo (pf h5 3 5 (aQ (some 28))) 3 = .inl (9, [aQ (some 4), aQ (some 11), aQ (some 18), aQ (some 21), aQ (some 23), aQ (some 28), aQ none, aI 0, aI 0, aI 0]) := by rw [aCo_pf, if_pos rfl, c5]; rfl
  have Z5 : ∀ b, b < 30 → b ≠ 3 → aCo (pf h5 3 5 (aQ (some 28))) b = aCo h5 b := fun b h1 h2 => by rw [aCo_pf, if_neg h2]
  have Z4 : ∀ b, b < 28 → b ≠ 3 → aCo (pf h5 3 5 (aQ (some 28))) b = aCo h4 b := fun b h1 h2 => by rw [Z5 b (by omega) h2, t5 b h1, aCo_pf, if_neg h2]
  have Z3 : ∀ b, b < 23 → b ≠ 3 → aCo (pf h5 3 5 (aQ (some 28))) b = aCo h3 b := fun b h1 h2 => by rw [Z4 b (by omega) h2, t4 b h1, aCo_pf, if_neg h2]
  have Z2 : ∀ b, b < 21 → b ≠ 3 → aCo (pf h5 3 5 (aQ (some 28))) b = aCo h2 b := fun b h1 h2 => by rw [Z3 b (by omega) h2, t3 b h1, aCo_pf, if_neg h2]
  have Z1 : ∀ b, b < 18 → b ≠ 3 → aCo (pf h5 3 5 (aQ (some 28))) b = aCo h1 b := fun b h1 h2 => by rw [Z2 b (by omega) h2, t2 b h1, aCo_pf, if_neg h2]
  have Z0 : ∀ b, b < 11 → b ≠ 3 → aCo (pf h5 3 5 (aQ (some 28))) b = aCo h0 b := fun b h1 h2 => by rw [Z1 b (by omega) h2, t1 b h1, aCo_pf, if_neg h2]
  have l0 := k0.2.1
  have l1 := k1.2.1
  have l2 := k2.2.1
  have l3 := k3.2.1
  have l4 := k4.2.1
  have l5 := k5.2.1
  obtain ⟨n0, n2, n4, n5, n6, n7, n8, n9, n10⟩ := aNfs
  rw [aSl_new] at l0
  rw [aSl_new, aSl_pf] at l1
  rw [aSl_new, aSl_pf] at l2
  rw [aSl_new, aSl_pf] at l3
  rw [aSl_new, aSl_pf] at l4
  rw [aSl_new, aSl_pf] at l5
  refine ⟨(pf h5 3 5 (aQ (some 28))), ?_, ⟨(show aSz (pf h5 3 5 (aQ (some 28))) = 30 from k5.1), ?_, ?_, p5, ?_, (Rg_pfQ k5.2.2.2.2.2)⟩, (Z0 4 (by decide) (by decide)).trans k0.2.2.2.1, (Z0 5 (by decide) (by decide)).trans s0a, (Z0 6 (by decide) (by decide)).trans s0b, (Z0 7 (by decide) (by decide)).trans s0e, (Z0 8 (by decide) (by decide)).trans s0f, (Z0 9 (by decide) (by decide)).trans s0p, (Z0 10 (by decide) (by decide)).trans s0r, (Z1 11 (by decide) (by decide)).trans k1.2.2.2.1, (Z1 12 (by decide) (by decide)).trans s1a, (Z1 13 (by decide) (by decide)).trans s1b, (Z1 14 (by decide) (by decide)).trans s1e, (Z1 15 (by decide) (by decide)).trans s1f, (Z1 16 (by decide) (by decide)).trans s1p, (Z1 17 (by decide) (by decide)).trans s1r, (Z2 18 (by decide) (by decide)).trans k2.2.2.2.1, (Z2 19 (by decide) (by decide)).trans s2a, (Z2 20 (by decide) (by decide)).trans s2b, (Z3 21 (by decide) (by decide)).trans k3.2.2.2.1, (Z3 22 (by decide) (by decide)).trans s3a, (Z4 23 (by decide) (by decide)).trans k4.2.2.2.1, (Z4 24 (by decide) (by decide)).trans s4a, (Z4 25 (by decide) (by decide)).trans s4b, (Z4 26 (by decide) (by decide)).trans s4e, (Z4 27 (by decide) (by decide)).trans s4f, (Z5 28 (by decide) (by decide)).trans k5.2.2.2.1, (Z5 29 (by decide) (by decide)).trans s5a⟩
  · simp (maxDischargeDepth := 400) (maxSteps := 20000000) only [u_C_init_0, u_C_init_1, u_C_init_4, u_C_init_5, u_C_init_8, u_C_init_9, u_C_init_12, u_C_init_15, u_C_init_16, u_C_init_19, u_C_init_20, u_C_init_23, u_C_init_26, u_C_init_27, u_C_init_30, u_C_init_31, u_C_init_34, u_C_init_37, u_C_init_38, u_C_init_41, u_C_init_42, u_C_init_45, u_C_init_48, u_C_init_49, u_C_init_52, u_C_init_53, u_C_init_56, u_C_init_59, u_C_init_60, u_C_init_63, u_C_init_64, u_C_init_67, u_C_init_71, u_C_init_72, u_C_init_75, u_C_init_78, u_C_init_79, u_C_init_81, u_C_init_82, u_C_init_85, u_C_init_86, u_C_init_89, u_C_init_90, u_C_init_93, u_C_init_94, u_C_init_97, u_C_init_98, u_C_init_101, u_C_init_104, hz, ho, o0, o1, o2, o3, o4, o5, k0.1, k1.1, k2.1, k3.1, k4.1, k5.1, e0, e1, e2, e3, e4, e5, aSz_pf, aSz_sa, aSz_sr, isO_pf, isO_sa, isO_sr, isA_pf, isA_sa, isA_sr, isR_pf, isR_sa, isR_sr, al_pf, al_sa, al_sr, gf_sa, gf_sr, ai_pf, ai_sr, ra_pf, ra_sa, gf_pn, ai_sn, ra_sn, sa_sa, pf_pf, fi_sa, fi_sr, fi_pn, gO_pf, gO_sa, gO_sr, gA_pf, gA_sa, gA_sr, gR_pf, gR_sa, gR_sr, isAR_pf, isAR_sa, isAR_sr, okQ_pf, okQ_sa, okQ_sr, okC_pf, okC_sa, okC_sr, okQ_n, gB_t, wr_id, wr_ai, wr_fi, wr_wand, wr_wor, wr_wxor, wr_wshl, wr_wshr, wr_lt, wr_gt, Int.reduceEq, Int.reduceLT, Int.reduceLE, Int.reduceNeg, b01, b10, and_self, true_and, and_true, false_and, and_false, or_false, false_or, or_true, true_or, ite_not, not_true_eq_false, not_false_eq_true, kk_v, kk_0, reduceCtorEq, if_true, if_false, ite_true, ite_false, swt, Option.some.injEq, gO_ok, aSz_new, isO_nw, nlI, nlQ, nlU, ba0, ba1, ba2, ba3, ba4, Nat.reduceAdd]
  · rw [aSl_pf]; omega
  · rw [isO_pf]; exact o5
  · refine ⟨by rw [hz, aSz_pf, k5.1]; decide, fun b h1 h2 => ?_⟩
    have h2 : b ≠ 3 := fun q => h2 (by rw [q]; exact List.mem_singleton.mpr rfl)
    rw [Z0 b (by omega) h2, t0 b (by omega)]
set_option maxHeartbeats 4000000 in
set_option maxRecDepth 100000 in
theorem j_Cs_0 {P : Int → Option Nat} {fs : List aV} (hz : aSz h = 31) (hc : aCo h 3 = .inl (9, fs)) (hf : fs.length = 10) (hf6 : fs.getD 6 aU = aQ (some 30)) (hr : aCo h 30 = .inr (.inr (3, 4, P))) (g : Rg h) : ∃ h', ex (ev (d + 2)) k_C_init 80 [aQ (some 3), aI 0] [] h = ex (ev (d + 2)) k_C_init 80 [aQ (some 3), aI 1] [] h' ∧ (aSz h' = 33 ∧ aSl h' = aSl h + 43 ∧ Rg h' ∧ Fr [30] h h') ∧ aCo h' 30 = .inr (.inr (3, 4, upf P 0 (some 31))) ∧ aCo h' 31 = .inl (6, [aI (-1), aI 0, aQ (some 32)]) ∧ aCo h' 32 = zA 40 := by
  have o0 : isO h 3 9 = true := isO_c hc (by decide) (by omega) (by rw [hf]; rfl)
  have q0 : gf h 3 6 = aQ (some 30) := by unfold gf; rw [hc]; exact hf6
  obtain ⟨h1, e1, k1, s1⟩ := j_Sh_init_31 (d := d + 1) (h := aNew h (.inl (6, aDf 6)) (aNf 6)) (by rw [aSz_new, hz]) (by rw [aCo_new, if_pos hz.symm]) (Rg_newO g)
  have e1 : ev (d + 2) M_Sh_init [aQ (some 31)] (aNew h (.inl (6, aDf 6)) (aNf 6)) = some (none, h1) := e1
  have t1 : ∀ b, b < 31 → aCo h1 b = aCo h b := fun b hb => by rw [k1.at (by rw [aSz_new, hz]; omega) (by omega), aCo_new, if_neg (by omega)]
  have r1 : aCo h1 30 = .inr (.inr (3, 4, P)) := (t1 30 (by decide)).trans hr
  have r2 : isR h1 30 3 = true := isR_c r1 (by decide) (by rw [k1.1]; decide)
  have r3 : al h1 30 = 4 := by unfold al; rw [r1]
  have r4 : ra h1 30 = P := by unfold ra; rw [r1]
  have r5 : isO h1 31 6 = true := k1.2.2.1
  have l1 := k1.2.1
  have n6 : aNf 6 = 3 := rfl
  rw [aSl_new] at l1
  refine ⟨sr h1 30 (upf P 0 (some 31)), ?_, ⟨k1.1, ?_, Rg_sr k1.2.2.2.2.2, ?_⟩, ?_, ?_, ?_⟩
  · rw [u_C_init_80]
    simp (maxDischargeDepth := 400) (maxSteps := 20000000) only [u_C_init_0, u_C_init_1, u_C_init_4, u_C_init_5, u_C_init_8, u_C_init_9, u_C_init_12, u_C_init_15, u_C_init_16, u_C_init_19, u_C_init_20, u_C_init_23, u_C_init_26, u_C_init_27, u_C_init_30, u_C_init_31, u_C_init_34, u_C_init_37, u_C_init_38, u_C_init_41, u_C_init_42, u_C_init_45, u_C_init_48, u_C_init_49, u_C_init_52, u_C_init_53, u_C_init_56, u_C_init_59, u_C_init_60, u_C_init_63, u_C_init_64, u_C_init_67, u_C_init_70, u_C_init_71, u_C_init_72, u_C_init_75, u_C_init_78, u_C_init_79, u_C_init_81, u_C_init_82, u_C_init_85, u_C_init_86, u_C_init_89, u_C_init_90, u_C_init_93, u_C_init_94, u_C_init_97, u_C_init_98, u_C_init_101, u_C_init_104, hz, o0, q0, e1, r2, r3, r4, r5, okQ_3e, gR_ok, aSz_pf, aSz_sa, aSz_sr, isO_pf, isO_sa, isO_sr, isA_pf, isA_sa, isA_sr, isR_pf, isR_sa, isR_sr, al_pf, al_sa, al_sr, gf_sa, gf_sr, ai_pf, ai_sr, ra_pf, ra_sa, gf_pn, ai_sn, ra_sn, sa_sa, pf_pf, fi_sa, fi_sr, fi_pn, gO_pf, gO_sa, gO_sr, gA_pf, gA_sa, gA_sr, gR_pf, gR_sa, gR_sr, isAR_pf, isAR_sa, isAR_sr, okQ_pf, okQ_sa, okQ_sr, okC_pf, okC_sa, okC_sr, okQ_n, gB_t, wr_id, wr_ai, wr_fi, wr_wand, wr_wor, wr_wxor, wr_wshl, wr_wshr, wr_lt, wr_gt, Int.reduceEq, Int.reduceLT, Int.reduceLE, Int.reduceNeg, b01, b10, and_self, true_and, and_true, false_and, and_false, or_false, false_or, or_true, true_or, ite_not, not_true_eq_false, not_false_eq_true, kk_v, kk_0, reduceCtorEq, if_true, if_false, ite_true, ite_false, swt, Option.some.injEq, gO_ok, aSz_new, isO_nw, nlI, nlQ, nlU, ba0, ba1, ba2, ba3, ba4, Nat.reduceAdd, Int.reduceAdd, Int.reduceNatCast, Int.reduceNatCast']
  · rw [aSl_sr]; omega
  · refine ⟨by rw [hz, aSz_sr, k1.1]; decide, fun b h1 h2 => ?_⟩
    have h2 : b ≠ 30 := fun q => h2 (by rw [q]; exact List.mem_singleton.mpr rfl)
    rw [aCo_sr, if_neg h2, t1 b (by omega)]
  · rw [aCo_sr, if_pos rfl, r1]
  · rw [aCo_sr, if_neg (by decide)]; exact k1.2.2.2.1
  · rw [aCo_sr, if_neg (by decide)]; exact s1
set_option maxHeartbeats 4000000 in
set_option maxRecDepth 100000 in
theorem j_Cs_1 {P : Int → Option Nat} {fs : List aV} (hz : aSz h = 33) (hc : aCo h 3 = .inl (9, fs)) (hf : fs.length = 10) (hf6 : fs.getD 6 aU = aQ (some 30)) (hr : aCo h 30 = .inr (.inr (3, 4, P))) (g : Rg h) : ∃ h', ex (ev (d + 2)) k_C_init 80 [aQ (some 3), aI 1] [] h = ex (ev (d + 2)) k_C_init 80 [aQ (some 3), aI 2] [] h' ∧ (aSz h' = 35 ∧ aSl h' = aSl h + 43 ∧ Rg h' ∧ Fr [30] h h') ∧ aCo h' 30 = .inr (.inr (3, 4, upf P 1 (some 33))) ∧ aCo h' 33 = .inl (6, [aI (-1), aI 0, aQ (some 34)]) ∧ aCo h' 34 = zA 40 := by
  have o0 : isO h 3 9 = true := isO_c hc (by decide) (by omega) (by rw [hf]; rfl)
  have q0 : gf h 3 6 = aQ (some 30) := by unfold gf; rw [hc]; exact hf6
  obtain ⟨h1, e1, k1, s1⟩ := j_Sh_init_33 (d := d + 1) (h := aNew h (.inl (6, aDf 6)) (aNf 6)) (by rw [aSz_new, hz]) (by rw [aCo_new, if_pos hz.symm]) (Rg_newO g)
  have e1 : ev (d + 2) M_Sh_init [aQ (some 33)] (aNew h (.inl (6, aDf 6)) (aNf 6)) = some (none, h1) := e1
  have t1 : ∀ b, b < 33 → aCo h1 b = aCo h b := fun b hb => by rw [k1.at (by rw [aSz_new, hz]; omega) (by omega), aCo_new, if_neg (by omega)]
  have r1 : aCo h1 30 = .inr (.inr (3, 4, P)) := (t1 30 (by decide)).trans hr
  have r2 : isR h1 30 3 = true := isR_c r1 (by decide) (by rw [k1.1]; decide)
  have r3 : al h1 30 = 4 := by unfold al; rw [r1]
  have r4 : ra h1 30 = P := by unfold ra; rw [r1]
  have r5 : isO h1 33 6 = true := k1.2.2.1
  have l1 := k1.2.1
  have n6 : aNf 6 = 3 := rfl
  rw [aSl_new] at l1
  refine ⟨sr h1 30 (upf P 1 (some 33)), ?_, ⟨k1.1, ?_, Rg_sr k1.2.2.2.2.2, ?_⟩, ?_, ?_, ?_⟩
  · rw [u_C_init_80]
    simp (maxDischargeDepth := 400) (maxSteps := 20000000) only [u_C_init_0, u_C_init_1, u_C_init_4, u_C_init_5, u_C_init_8, u_C_init_9, u_C_init_12, u_C_init_15, u_C_init_16, u_C_init_19, u_C_init_20, u_C_init_23, u_C_init_26, u_C_init_27, u_C_init_30, u_C_init_31, u_C_init_34, u_C_init_37, u_C_init_38, u_C_init_41, u_C_init_42, u_C_init_45, u_C_init_48, u_C_init_49, u_C_init_52, u_C_init_53, u_C_init_56, u_C_init_59, u_C_init_60, u_C_init_63, u_C_init_64, u_C_init_67, u_C_init_70, u_C_init_71, u_C_init_72, u_C_init_75, u_C_init_78, u_C_init_79, u_C_init_81, u_C_init_82, u_C_init_85, u_C_init_86, u_C_init_89, u_C_init_90, u_C_init_93, u_C_init_94, u_C_init_97, u_C_init_98, u_C_init_101, u_C_init_104, hz, o0, q0, e1, r2, r3, r4, r5, okQ_3e, gR_ok, aSz_pf, aSz_sa, aSz_sr, isO_pf, isO_sa, isO_sr, isA_pf, isA_sa, isA_sr, isR_pf, isR_sa, isR_sr, al_pf, al_sa, al_sr, gf_sa, gf_sr, ai_pf, ai_sr, ra_pf, ra_sa, gf_pn, ai_sn, ra_sn, sa_sa, pf_pf, fi_sa, fi_sr, fi_pn, gO_pf, gO_sa, gO_sr, gA_pf, gA_sa, gA_sr, gR_pf, gR_sa, gR_sr, isAR_pf, isAR_sa, isAR_sr, okQ_pf, okQ_sa, okQ_sr, okC_pf, okC_sa, okC_sr, okQ_n, gB_t, wr_id, wr_ai, wr_fi, wr_wand, wr_wor, wr_wxor, wr_wshl, wr_wshr, wr_lt, wr_gt, Int.reduceEq, Int.reduceLT, Int.reduceLE, Int.reduceNeg, b01, b10, and_self, true_and, and_true, false_and, and_false, or_false, false_or, or_true, true_or, ite_not, not_true_eq_false, not_false_eq_true, kk_v, kk_0, reduceCtorEq, if_true, if_false, ite_true, ite_false, swt, Option.some.injEq, gO_ok, aSz_new, isO_nw, nlI, nlQ, nlU, ba0, ba1, ba2, ba3, ba4, Nat.reduceAdd, Int.reduceAdd, Int.reduceNatCast, Int.reduceNatCast']
  · rw [aSl_sr]; omega
  · refine ⟨by rw [hz, aSz_sr, k1.1]; decide, fun b h1 h2 => ?_⟩
    have h2 : b ≠ 30 := fun q => h2 (by rw [q]; exact List.mem_singleton.mpr rfl)
    rw [aCo_sr, if_neg h2, t1 b (by omega)]
  · rw [aCo_sr, if_pos rfl, r1]
  · rw [aCo_sr, if_neg (by decide)]; exact k1.2.2.2.1
  · rw [aCo_sr, if_neg (by decide)]; exact s1
set_option maxHeartbeats 4000000 in
set_option maxRecDepth 100000 in
theorem j_Cs_2 {P : Int → Option Nat} {fs : List aV} (hz : aSz h = 35) (hc : aCo h 3 = .inl (9, fs)) (hf : fs.length = 10) (hf6 : fs.getD 6 aU = aQ (some 30)) (hr : aCo h 30 = .inr (.inr (3, 4, P))) (g : Rg h) : ∃ h', ex (ev (d + 2)) k_C_init 80 [aQ (some 3), aI 2] [] h = ex (ev (d + 2)) k_C_init 80 [aQ (some 3), aI 3] [] h' ∧ (aSz h' = 37 ∧ aSl h' = aSl h + 43 ∧ Rg h' ∧ Fr [30] h h') ∧ aCo h' 30 = .inr (.inr (3, 4, upf P 2 (some 35))) ∧ aCo h' 35 = .inl (6, [aI (-1), aI 0, aQ (some 36)]) ∧ aCo h' 36 = zA 40 := by
  have o0 : isO h 3 9 = true := isO_c hc (by decide) (by omega) (by rw [hf]; rfl)
  have q0 : gf h 3 6 = aQ (some 30) := by unfold gf; rw [hc]; exact hf6
  obtain ⟨h1, e1, k1, s1⟩ := j_Sh_init_35 (d := d + 1) (h := aNew h (.inl (6, aDf 6)) (aNf 6)) (by rw [aSz_new, hz]) (by rw [aCo_new, if_pos hz.symm]) (Rg_newO g)
  have e1 : ev (d + 2) M_Sh_init [aQ (some 35)] (aNew h (.inl (6, aDf 6)) (aNf 6)) = some (none, h1) := e1
  have t1 : ∀ b, b < 35 → aCo h1 b = aCo h b := fun b hb => by rw [k1.at (by rw [aSz_new, hz]; omega) (by omega), aCo_new, if_neg (by omega)]
  have r1 : aCo h1 30 = .inr (.inr (3, 4, P)) := (t1 30 (by decide)).trans hr
  have r2 : isR h1 30 3 = true := isR_c r1 (by decide) (by rw [k1.1]; decide)
  have r3 : al h1 30 = 4 := by unfold al; rw [r1]
  have r4 : ra h1 30 = P := by unfold ra; rw [r1]
  have r5 : isO h1 35 6 = true := k1.2.2.1
  have l1 := k1.2.1
  have n6 : aNf 6 = 3 := rfl
  rw [aSl_new] at l1
  refine ⟨sr h1 30 (upf P 2 (some 35)), ?_, ⟨k1.1, ?_, Rg_sr k1.2.2.2.2.2, ?_⟩, ?_, ?_, ?_⟩
  · rw [u_C_init_80]
    simp (maxDischargeDepth := 400) (maxSteps := 20000000) only [u_C_init_0, u_C_init_1, u_C_init_4, u_C_init_5, u_C_init_8, u_C_init_9, u_C_init_12, u_C_init_15, u_C_init_16, u_C_init_19, u_C_init_20, u_C_init_23, u_C_init_26, u_C_init_27, u_C_init_30, u_C_init_31, u_C_init_34, u_C_init_37, u_C_init_38, u_C_init_41, u_C_init_42, u_C_init_45, u_C_init_48, u_C_init_49, u_C_init_52, u_C_init_53, u_C_init_56, u_C_init_59, u_C_init_60, u_C_init_63, u_C_init_64, u_C_init_67, u_C_init_70, u_C_init_71, u_C_init_72, u_C_init_75, u_C_init_78, u_C_init_79, u_C_init_81, u_C_init_82, u_C_init_85, u_C_init_86, u_C_init_89, u_C_init_90, u_C_init_93, u_C_init_94, u_C_init_97, u_C_init_98, u_C_init_101, u_C_init_104, hz, o0, q0, e1, r2, r3, r4, r5, okQ_3e, gR_ok, aSz_pf, aSz_sa, aSz_sr, isO_pf, isO_sa, isO_sr, isA_pf, isA_sa, isA_sr, isR_pf, isR_sa, isR_sr, al_pf, al_sa, al_sr, gf_sa, gf_sr, ai_pf, ai_sr, ra_pf, ra_sa, gf_pn, ai_sn, ra_sn, sa_sa, pf_pf, fi_sa, fi_sr, fi_pn, gO_pf, gO_sa, gO_sr, gA_pf, gA_sa, gA_sr, gR_pf, gR_sa, gR_sr, isAR_pf, isAR_sa, isAR_sr, okQ_pf, okQ_sa, okQ_sr, okC_pf, okC_sa, okC_sr, okQ_n, gB_t, wr_id, wr_ai, wr_fi, wr_wand, wr_wor, wr_wxor, wr_wshl, wr_wshr, wr_lt, wr_gt, Int.reduceEq, Int.reduceLT, Int.reduceLE, Int.reduceNeg, b01, b10, and_self, true_and, and_true, false_and, and_false, or_false, false_or, or_true, true_or, ite_not, not_true_eq_false, not_false_eq_true, kk_v, kk_0, reduceCtorEq, if_true, if_false, ite_true, ite_false, swt, Option.some.injEq, gO_ok, aSz_new, isO_nw, nlI, nlQ, nlU, ba0, ba1, ba2, ba3, ba4, Nat.reduceAdd, Int.reduceAdd, Int.reduceNatCast, Int.reduceNatCast']
  · rw [aSl_sr]; omega
  · refine ⟨by rw [hz, aSz_sr, k1.1]; decide, fun b h1 h2 => ?_⟩
    have h2 : b ≠ 30 := fun q => h2 (by rw [q]; exact List.mem_singleton.mpr rfl)
    rw [aCo_sr, if_neg h2, t1 b (by omega)]
  · rw [aCo_sr, if_pos rfl, r1]
  · rw [aCo_sr, if_neg (by decide)]; exact k1.2.2.2.1
  · rw [aCo_sr, if_neg (by decide)]; exact s1
set_option maxHeartbeats 4000000 in
set_option maxRecDepth 100000 in
theorem j_Cs_3 {P : Int → Option Nat} {fs : List aV} (hz : aSz h = 37) (hc : aCo h 3 = .inl (9, fs)) (hf : fs.length = 10) (hf6 : fs.getD 6 aU = aQ (some 30)) (hr : aCo h 30 = .inr (.inr (3, 4, P))) (g : Rg h) : ∃ h', ex (ev (d + 2)) k_C_init 80 [aQ (some 3), aI 3] [] h = ex (ev (d + 2)) k_C_init 80 [aQ (some 3), aI 4] [] h' ∧ (aSz h' = 39 ∧ aSl h' = aSl h + 43 ∧ Rg h' ∧ Fr [30] h h') ∧ aCo h' 30 = .inr (.inr (3, 4, upf P 3 (some 37))) ∧ aCo h' 37 = .inl (6, [aI (-1), aI 0, aQ (some 38)]) ∧ aCo h' 38 = zA 40 := by
  have o0 : isO h 3 9 = true := isO_c hc (by decide) (by omega) (by rw [hf]; rfl)
  have q0 : gf h 3 6 = aQ (some 30) := by unfold gf; rw [hc]; exact hf6
  obtain ⟨h1, e1, k1, s1⟩ := j_Sh_init_37 (d := d + 1) (h := aNew h (.inl (6, aDf 6)) (aNf 6)) (by rw [aSz_new, hz]) (by rw [aCo_new, if_pos hz.symm]) (Rg_newO g)
  have e1 : ev (d + 2) M_Sh_init [aQ (some 37)] (aNew h (.inl (6, aDf 6)) (aNf 6)) = some (none, h1) := e1
  have t1 : ∀ b, b < 37 → aCo h1 b = aCo h b := fun b hb => by rw [k1.at (by rw [aSz_new, hz]; omega) (by omega), aCo_new, if_neg (by omega)]
  have r1 : aCo h1 30 = .inr (.inr (3, 4, P)) := (t1 30 (by decide)).trans hr
  have r2 : isR h1 30 3 = true := isR_c r1 (by decide) (by rw [k1.1]; decide)
  have r3 : al h1 30 = 4 := by unfold al; rw [r1]
  have r4 : ra h1 30 = P := by unfold ra; rw [r1]
  have r5 : isO h1 37 6 = true := k1.2.2.1
  have l1 := k1.2.1
  have n6 : aNf 6 = 3 := rfl
  rw [aSl_new] at l1
  refine ⟨sr h1 30 (upf P 3 (some 37)), ?_, ⟨k1.1, ?_, Rg_sr k1.2.2.2.2.2, ?_⟩, ?_, ?_, ?_⟩
  · rw [u_C_init_80]
    simp (maxDischargeDepth := 400) (maxSteps := 20000000) only [u_C_init_0, u_C_init_1, u_C_init_4, u_C_init_5, u_C_init_8, u_C_init_9, u_C_init_12, u_C_init_15, u_C_init_16, u_C_init_19, u_C_init_20, u_C_init_23, u_C_init_26, u_C_init_27, u_C_init_30, u_C_init_31, u_C_init_34, u_C_init_37, u_C_init_38, u_C_init_41, u_C_init_42, u_C_init_45, u_C_init_48, u_C_init_49, u_C_init_52, u_C_init_53, u_C_init_56, u_C_init_59, u_C_init_60, u_C_init_63, u_C_init_64, u_C_init_67, u_C_init_70, u_C_init_71, u_C_init_72, u_C_init_75, u_C_init_78, u_C_init_79, u_C_init_81, u_C_init_82, u_C_init_85, u_C_init_86, u_C_init_89, u_C_init_90, u_C_init_93, u_C_init_94, u_C_init_97, u_C_init_98, u_C_init_101, u_C_init_104, hz, o0, q0, e1, r2, r3, r4, r5, okQ_3e, gR_ok, aSz_pf, aSz_sa, aSz_sr, isO_pf, isO_sa, isO_sr, isA_pf, isA_sa, isA_sr, isR_pf, isR_sa, isR_sr, al_pf, al_sa, al_sr, gf_sa, gf_sr, ai_pf, ai_sr, ra_pf, ra_sa, gf_pn, ai_sn, ra_sn, sa_sa, pf_pf, fi_sa, fi_sr, fi_pn, gO_pf, gO_sa, gO_sr, gA_pf, gA_sa, gA_sr, gR_pf, gR_sa, gR_sr, isAR_pf, isAR_sa, isAR_sr, okQ_pf, okQ_sa, okQ_sr, okC_pf, okC_sa, okC_sr, okQ_n, gB_t, wr_id, wr_ai, wr_fi, wr_wand, wr_wor, wr_wxor, wr_wshl, wr_wshr, wr_lt, wr_gt, Int.reduceEq, Int.reduceLT, Int.reduceLE, Int.reduceNeg, b01, b10, and_self, true_and, and_true, false_and, and_false, or_false, false_or, or_true, true_or, ite_not, not_true_eq_false, not_false_eq_true, kk_v, kk_0, reduceCtorEq, if_true, if_false, ite_true, ite_false, swt, Option.some.injEq, gO_ok, aSz_new, isO_nw, nlI, nlQ, nlU, ba0, ba1, ba2, ba3, ba4, Nat.reduceAdd, Int.reduceAdd, Int.reduceNatCast, Int.reduceNatCast']
  · rw [aSl_sr]; omega
  · refine ⟨by rw [hz, aSz_sr, k1.1]; decide, fun b h1 h2 => ?_⟩
    have h2 : b ≠ 30 := fun q => h2 (by rw [q]; exact List.mem_singleton.mpr rfl)
    rw [aCo_sr, if_neg h2, t1 b (by omega)]
  · rw [aCo_sr, if_pos rfl, r1]
  · rw [aCo_sr, if_neg (by decide)]; exact k1.2.2.2.1
  · rw [aCo_sr, if_neg (by decide)]; exact s1
set_option maxHeartbeats 4000000 in
set_option maxRecDepth 100000 in
theorem i_C (hz : aSz h = 4) (hc : aCo h 3 = .inl (9, aDf 9)) (g : Rg h) : ∃ h', ev (d + 3) M_C_init [aQ (some 3)] h = some (none, h') ∧ Fr [3] h h' ∧ Rg h' ∧ (aSz h' = 39 ∧ aSl h' ≤ aSl h + 4000) ∧ aCo h' 3 = .inl (9, [aQ (some 4), aQ (some 11), aQ (some 18), aQ (some 21), aQ (some 23), aQ (some 28), aQ (some 30), aI 0, aI 0, aI 0]) ∧ aCo h' 4 = oSt 5 ∧ aCo h' 5 = zA 8 ∧ aCo h' 6 = zA 20 ∧ aCo h' 7 = .inr (.inr (0, 6, pgs 9)) ∧ aCo h' 8 = nR 1 60 ∧ aCo h' 9 = .inl (4, [aQ (some 10)]) ∧ aCo h' 10 = nR 2 0 ∧ aCo h' 11 = oSt 12 ∧ aCo h' 12 = zA 8 ∧ aCo h' 13 = zA 20 ∧ aCo h' 14 = .inr (.inr (0, 6, pgs 16)) ∧ aCo h' 15 = nR 1 60 ∧ aCo h' 16 = .inl (4, [aQ (some 17)]) ∧ aCo h' 17 = nR 2 0 ∧ aCo h' 18 = .inl (2, [aQ (some 19), aQ (some 20), aI 0, aQ none, aQ none, aI 0, aI 0]) ∧ aCo h' 19 = zA 441 ∧ aCo h' 20 = zA 20 ∧ aCo h' 21 = .inl (8, [aQ (some 22)]) ∧ aCo h' 22 = zA 6 ∧ aCo h' 23 = .inl (5, [aI 0, aQ (some 24), aQ (some 25), aI 0, aQ (some 26), aQ (some 27)]) ∧ aCo h' 24 = zA 8 ∧ aCo h' 25 = zA 6 ∧ aCo h' 26 = zA 48 ∧ aCo h' 27 = zA 2304 ∧ aCo h' 28 = .inl (0, [aQ (some 29), aI 0]) ∧ aCo h' 29 = zA 50 ∧ aCo h' 30 = .inr (.inr (3, 4, shs)) ∧ aCo h' 31 = .inl (6, [aI (-1), aI 0, aQ (some 32)]) ∧ aCo h' 32 = zA 40 ∧ aCo h' 33 = .inl (6, [aI (-1), aI 0, aQ (some 34)]) ∧ aCo h' 34 = zA 40 ∧ aCo h' 35 = .inl (6, [aI (-1), aI 0, aQ (some 36)]) ∧ aCo h' 36 = zA 40 ∧ aCo h' 37 = .inl (6, [aI (-1), aI 0, aQ (some 38)]) ∧ aCo h' 38 = zA 40 := by
  obtain ⟨h6, e6, k6, q0, q1, q2, q3, q4, q5, q6, q7, q8, q9, q10, q11, q12, q13, q14, q15, q16, q17, q18, q19, q20, q21, q22, q23, q24, q25⟩ := i_Ca (d := d) hz hc g
  have o6 : isO h6 3 9 = true := k6.2.2.1
  have b7 : aCo (pf (aNew h6 (nR 3 4) 4) 3 6 (aQ (some 30))) 3 = .inl (9, [aQ (some 4), aQ (some 11), aQ (some 18), aQ (some 21), aQ (some 23), aQ (some 28), aQ (some 30), aI 0, aI 0, aI 0]) := by
    rw [aCo_pf, if_pos rfl, aCo_new, if_neg (by rw [k6.1]; decide), k6.2.2.2.1]; rfl
  have f7 : ∀ b, b < 30 → b ≠ 3 → aCo (pf (aNew h6 (nR 3 4) 4) 3 6 (aQ (some 30))) b = aCo h6 b := fun b h1 h2 => by
    rw [aCo_pf, if_neg h2, aCo_new, if_neg (by rw [k6.1]; omega)]
  have r7 : aCo (pf (aNew h6 (nR 3 4) 4) 3 6 (aQ (some 30))) 30 = .inr (.inr (3, 4, fun _ => none)) := by
    rw [aCo_pf, if_neg (by decide), aCo_new, if_pos k6.1.symm]; rfl
  have g7 : Rg (pf (aNew h6 (nR 3 4) 4) 3 6 (aQ (some 30))) := Rg_pfQ (Rg_newR k6.2.2.2.2.2)
  have z7 : aSz (pf (aNew h6 (nR 3 4) 4) 3 6 (aQ (some 30))) = 31 := by rw [aSz_pf, aSz_new, k6.1]
  have l7 : aSl (pf (aNew h6 (nR 3 4) 4) 3 6 (aQ (some 30))) = aSl h6 + 4 := rfl
  have E7 : ex (ev (d + 2)) k_C_init 70 [aQ (some 3), aU] [] h6 = ex (ev (d + 2)) k_C_init 80 [aQ (some 3), aI 0] [] (pf (aNew h6 (nR 3 4) 4) 3 6 (aQ (some 30))) := by
    simp (maxDischargeDepth := 400) (maxSteps := 20000000) only [u_C_init_0, u_C_init_1, u_C_init_4, u_C_init_5, u_C_init_8, u_C_init_9, u_C_init_12, u_C_init_15, u_C_init_16, u_C_init_19, u_C_init_20, u_C_init_23, u_C_init_26, u_C_init_27, u_C_init_30, u_C_init_31, u_C_init_34, u_C_init_37, u_C_init_38, u_C_init_41, u_C_init_42, u_C_init_45, u_C_init_48, u_C_init_49, u_C_init_52, u_C_init_53, u_C_init_56, u_C_init_59, u_C_init_60, u_C_init_63, u_C_init_64, u_C_init_67, u_C_init_70, u_C_init_71, u_C_init_72, u_C_init_75, u_C_init_78, u_C_init_79, u_C_init_81, u_C_init_82, u_C_init_85, u_C_init_86, u_C_init_89, u_C_init_90, u_C_init_93, u_C_init_94, u_C_init_97, u_C_init_98, u_C_init_101, u_C_init_104, o6, k6.1, aSz_pf, aSz_sa, aSz_sr, isO_pf, isO_sa, isO_sr, isA_pf, isA_sa, isA_sr, isR_pf, isR_sa, isR_sr, al_pf, al_sa, al_sr, gf_sa, gf_sr, ai_pf, ai_sr, ra_pf, ra_sa, gf_pn, ai_sn, ra_sn, sa_sa, pf_pf, fi_sa, fi_sr, fi_pn, gO_pf, gO_sa, gO_sr, gA_pf, gA_sa, gA_sr, gR_pf, gR_sa, gR_sr, isAR_pf, isAR_sa, isAR_sr, okQ_pf, okQ_sa, okQ_sr, okC_pf, okC_sa, okC_sr, okQ_n, gB_t, wr_id, wr_ai, wr_fi, wr_wand, wr_wor, wr_wxor, wr_wshl, wr_wshr, wr_lt, wr_gt, Int.reduceEq, Int.reduceLT, Int.reduceLE, Int.reduceNeg, b01, b10, and_self, true_and, and_true, false_and, and_false, or_false, false_or, or_true, true_or, ite_not, not_true_eq_false, not_false_eq_true, kk_v, kk_0, reduceCtorEq, if_true, if_false, ite_true, ite_false, swt, Option.some.injEq, gO_ok, aSz_new, isO_nw, nlI, nlQ, nlU, ba0, ba1, ba2, ba3, ba4, Nat.reduceAdd, Int.reduceToNat, nR]
  generalize pf (aNew h6 (nR 3 4) 4) 3 6 (aQ (some 30)) = h7 at b7 f7 r7 g7 z7 l7 E7
  obtain ⟨y0, E8, ⟨yz0, yl0, yg0, yf0⟩, yr0, ya0, yb0⟩ := j_Cs_0 (d := d) z7 b7 rfl rfl r7 g7
  have yc0 := (yf0.2 3 (by rw [z7]; decide) (by decide)).trans b7
  obtain ⟨y1, E9, ⟨yz1, yl1, yg1, yf1⟩, yr1, ya1, yb1⟩ := j_Cs_1 (d := d) yz0 yc0 rfl rfl yr0 yg0
  have yc1 := (yf1.2 3 (by rw [yz0]; decide) (by decide)).trans yc0
  obtain ⟨y2, E10, ⟨yz2, yl2, yg2, yf2⟩, yr2, ya2, yb2⟩ := j_Cs_2 (d := d) yz1 yc1 rfl rfl yr1 yg1
  have yc2 := (yf2.2 3 (by rw [yz1]; decide) (by decide)).trans yc1
  obtain ⟨y3, E11, ⟨yz3, yl3, yg3, yf3⟩, yr3, ya3, yb3⟩ := j_Cs_3 (d := d) yz2 yc2 rfl rfl yr2 yg2
  have yc3 := (yf3.2 3 (by rw [yz2]; decide) (by decide)).trans yc2
  have T3 : ∀ b, b < 37 → b ≠ 30 → aCo y3 b = aCo y2 b := fun b h1 h2 => yf3.2 b (by rw [yz2]; exact h1) (by simp only [List.mem_cons, List.not_mem_nil, or_false]; exact h2)
  have T2 : ∀ b, b < 35 → b ≠ 30 → aCo y3 b = aCo y1 b := fun b h1 h2 => (T3 b (by omega) h2).trans (yf2.2 b (by rw [yz1]; exact h1) (by simp only [List.mem_cons, List.not_mem_nil, or_false]; exact h2))
  have T1 : ∀ b, b < 33 → b ≠ 30 → aCo y3 b = aCo y0 b := fun b h1 h2 => (T2 b (by omega) h2).trans (yf1.2 b (by rw [yz0]; exact h1) (by simp only [List.mem_cons, List.not_mem_nil, or_false]; exact h2))
  have T0 : ∀ b, b < 31 → b ≠ 30 → aCo y3 b = aCo h7 b := fun b h1 h2 => (T1 b (by omega) h2).trans (yf0.2 b (by rw [z7]; exact h1) (by simp only [List.mem_cons, List.not_mem_nil, or_false]; exact h2))
  have T6 : ∀ b, b < 30 → b ≠ 3 → aCo y3 b = aCo h6 b := fun b h1 h2 => (T0 b (by omega) (by omega)).trans (f7 b h1 h2)
  have l6 := k6.2.1
  refine ⟨y3, ?_, ⟨by rw [hz, yz3]; decide, fun b h1 h2 => ?_⟩, yg3, ⟨yz3, by omega⟩, yc3, (T6 4 (by decide) (by decide)).trans q0, (T6 5 (by decide) (by decide)).trans q1, (T6 6 (by decide) (by decide)).trans q2, (T6 7 (by decide) (by decide)).trans q3, (T6 8 (by decide) (by decide)).trans q4, (T6 9 (by decide) (by decide)).trans q5, (T6 10 (by decide) (by decide)).trans q6, (T6 11 (by decide) (by decide)).trans q7, (T6 12 (by decide) (by decide)).trans q8, (T6 13 (by decide) (by decide)).trans q9, (T6 14 (by decide) (by decide)).trans q10, (T6 15 (by decide) (by decide)).trans q11, (T6 16 (by decide) (by decide)).trans q12, (T6 17 (by decide) (by decide)).trans q13, (T6 18 (by decide) (by decide)).trans q14, (T6 19 (by decide) (by decide)).trans q15, (T6 20 (by decide) (by decide)).trans q16, (T6 21 (by decide) (by decide)).trans q17, (T6 22 (by decide) (by decide)).trans q18, (T6 23 (by decide) (by decide)).trans q19, (T6 24 (by decide) (by decide)).trans q20, (T6 25 (by decide) (by decide)).trans q21, (T6 26 (by decide) (by decide)).trans q22, (T6 27 (by decide) (by decide)).trans q23, (T6 28 (by decide) (by decide)).trans q24, (T6 29 (by decide) (by decide)).trans q25, yr3, (T1 31 (by decide) (by decide)).trans ya0, (T1 32 (by decide) (by decide)).trans yb0, (T2 33 (by decide) (by decide)).trans ya1, (T2 34 (by decide) (by decide)).trans yb1, (T3 35 (by decide) (by decide)).trans ya2, (T3 36 (by decide) (by decide)).trans yb2, ya3, yb3⟩
  · rw [n_C_init, e6, E7, E8, E9, E10, E11, u_C_init_80]
    simp (maxDischargeDepth := 400) (maxSteps := 20000000) only [u_C_init_0, u_C_init_1, u_C_init_4, u_C_init_5, u_C_init_8, u_C_init_9, u_C_init_12, u_C_init_15, u_C_init_16, u_C_init_19, u_C_init_20, u_C_init_23, u_C_init_26, u_C_init_27, u_C_init_30, u_C_init_31, u_C_init_34, u_C_init_37, u_C_init_38, u_C_init_41, u_C_init_42, u_C_init_45, u_C_init_48, u_C_init_49, u_C_init_52, u_C_init_53, u_C_init_56, u_C_init_59, u_C_init_60, u_C_init_63, u_C_init_64, u_C_init_67, u_C_init_70, u_C_init_71, u_C_init_72, u_C_init_75, u_C_init_78, u_C_init_79, u_C_init_81, u_C_init_82, u_C_init_85, u_C_init_86, u_C_init_89, u_C_init_90, u_C_init_93, u_C_init_94, u_C_init_97, u_C_init_98, u_C_init_101, u_C_init_104, aSz_pf, aSz_sa, aSz_sr, isO_pf, isO_sa, isO_sr, isA_pf, isA_sa, isA_sr, isR_pf, isR_sa, isR_sr, al_pf, al_sa, al_sr, gf_sa, gf_sr, ai_pf, ai_sr, ra_pf, ra_sa, gf_pn, ai_sn, ra_sn, sa_sa, pf_pf, fi_sa, fi_sr, fi_pn, gO_pf, gO_sa, gO_sr, gA_pf, gA_sa, gA_sr, gR_pf, gR_sa, gR_sr, isAR_pf, isAR_sa, isAR_sr, okQ_pf, okQ_sa, okQ_sr, okC_pf, okC_sa, okC_sr, okQ_n, gB_t, wr_id, wr_ai, wr_fi, wr_wand, wr_wor, wr_wxor, wr_wshl, wr_wshr, wr_lt, wr_gt, Int.reduceEq, Int.reduceLT, Int.reduceLE, Int.reduceNeg, b01, b10, and_self, true_and, and_true, false_and, and_false, or_false, false_or, or_true, true_or, ite_not, not_true_eq_false, not_false_eq_true, kk_v, kk_0, reduceCtorEq, if_true, if_false, ite_true, ite_false, swt, Option.some.injEq]
  · have h2 : b ≠ 3 := fun q => h2 (by rw [q]; exact List.mem_singleton.mpr rfl)
    rw [T6 b (by omega) h2]
    exact k6.at h1 h2
end INI
