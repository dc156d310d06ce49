/-! the simple calls: person, here, day, share, text, wipe -/
def allN (n : Nat) (f : Nat → Bool) : Bool := Nat.rec true (fun k b => f k && b) n
theorem allN_ok {f : Nat → Bool} : ∀ {n : Nat}, allN n f = true → ∀ k, k < n → f k = true := by
  intro n
  induction n with
  | zero => intro _ k hk; omega
  | succ n ih =>
    intro e k hk
    have e2 : (f n && allN n f) = true := e
    rw [Bool.and_eq_true] at e2
    by_cases c : k = n
    · subst c; exact e2.1
    · exact ih e2.2 k (by omega)
theorem bit_on0 : (allN 256 fun i => allN 8 fun p => decide (0 ≤ wor i (wshl 1 p) ∧ wor i (wshl 1 p) < 256)) = true := by decide
theorem bit_off0 : (allN 256 fun i => allN 8 fun p => decide (0 ≤ wand i (wxor (wshl 1 p) (-1)) ∧ wand i (wxor (wshl 1 p) (-1)) < 256)) = true := by decide
theorem bit_on1 : (allN 256 fun i => allN 8 fun p => decide (wor i (wshl 1 p) = if wand (wshr i p) 1 = 1 then (i : Int) else wxor i (wshl 1 p))) = true := by decide
theorem bit_off1 : (allN 256 fun i => allN 8 fun p => decide (wand i (wxor (wshl 1 p) (-1)) = if wand (wshr i p) 1 = 1 then wxor i (wshl 1 p) else (i : Int))) = true := by decide
theorem bit_on {i p : Int} (h1 : 0 ≤ i ∧ i < 256) (h2 : 0 ≤ p ∧ p < 8) : 0 ≤ wor i (wshl 1 p) ∧ wor i (wshl 1 p) < 256 := by
  obtain ⟨a, rfl⟩ := Int.eq_ofNat_of_zero_le h1.1
  obtain ⟨b, rfl⟩ := Int.eq_ofNat_of_zero_le h2.1
  exact of_decide_eq_true (allN_ok (allN_ok bit_on0 a (by omega)) b (by omega))
theorem bit_off {i p : Int} (h1 : 0 ≤ i ∧ i < 256) (h2 : 0 ≤ p ∧ p < 8) : 0 ≤ wand i (wxor (wshl 1 p) (-1)) ∧ wand i (wxor (wshl 1 p) (-1)) < 256 := by
  obtain ⟨a, rfl⟩ := Int.eq_ofNat_of_zero_le h1.1
  obtain ⟨b, rfl⟩ := Int.eq_ofNat_of_zero_le h2.1
  exact of_decide_eq_true (allN_ok (allN_ok bit_off0 a (by omega)) b (by omega))
theorem bit_one {i p : Int} (h1 : 0 ≤ i ∧ i < 256) (h2 : 0 ≤ p ∧ p < 8) : wor i (wshl 1 p) = if wand (wshr i p) 1 = 1 then i else wxor i (wshl 1 p) := by
  obtain ⟨a, rfl⟩ := Int.eq_ofNat_of_zero_le h1.1
  obtain ⟨b, rfl⟩ := Int.eq_ofNat_of_zero_le h2.1
  exact of_decide_eq_true (allN_ok (allN_ok bit_on1 a (by omega)) b (by omega))
theorem bit_zer {i p : Int} (h1 : 0 ≤ i ∧ i < 256) (h2 : 0 ≤ p ∧ p < 8) : wand i (wxor (wshl 1 p) (-1)) = if wand (wshr i p) 1 = 1 then wxor i (wshl 1 p) else i := by
  obtain ⟨a, rfl⟩ := Int.eq_ofNat_of_zero_le h1.1
  obtain ⟨b, rfl⟩ := Int.eq_ofNat_of_zero_le h2.1
  exact of_decide_eq_true (allN_ok (allN_ok bit_off1 a (by omega)) b (by omega))
section SIM
variable {d : Nat} {h h1 : aH} {V U : Nat → Int → Int} {z : Int} {f : Int → Int}
theorem upf_e {i x : Int} : upf f i x i = x := if_pos rfl
theorem upf_n {i j x : Int} (e : j ≠ i) : upf f i x j = f j := if_neg e
theorem upf_id {i x : Int} (e : f i = x) : upf f i x = f := by
  funext j
  unfold upf
  split
  · rename_i q; rw [q, e]
  · rfl
theorem inr_upf {i x : Int} (hx : inr x) (hf : ∀ j, inr (f j)) : ∀ j, inr (upf f i x j) := fun j => by
  unfold upf
  split
  · exact hx
  · exact hf j
theorem m_R_done' : ev (d + 1) M_R_done [aQ (some 39), aI z] h = gO h 39 10 (some (some (aI z), pf h 39 18 (aI 0))) := by
  rw [n_R_done]
  simp (disch := first | assumption | omega | exact aNl_I | exact aNl_Q | exact bl0 | exact bl1 | exact bl2 | exact bl3 | exact bl4 | exact aNl_U) only [u_R_done_0, u_R_done_1, u_R_done_2, u_R_done_5, u_R_done_6, aSz_pf, aSz_sa, aSz_sr, isO_pf, isO_sa, isO_sr, isA_pf, isA_sa, isA_sr, isR_pf, isR_sa, isR_sr, al_pf, al_sa, al_sr, gf_sa, gf_sr, ai_pf, ai_sr, ra_pf, ra_sa, gf_pn, ai_sn, ra_sn, sa_sa, pf_pf, fi_sa, fi_sr, fi_pn, gO_pf, gO_sa, gO_sr, gA_pf, gA_sa, gA_sr, gR_pf, gR_sa, gR_sr, isAR_pf, isAR_sa, isAR_sr, okQ_pf, okQ_sa, okQ_sr, okC_pf, okC_sa, okC_sr, okQ_n, gB_t, wr_id, wr_ai, wr_fi, wr_wand, wr_wor, wr_wxor, wr_wshl, wr_wshr, wr_lt, wr_gt, Int.reduceEq, Int.reduceLT, Int.reduceLE, Int.reduceNeg, b01, b10, and_self, true_and, and_true, false_and, and_false, or_false, false_or, or_true, true_or, ite_not, not_true_eq_false, not_false_eq_true, kk_v, kk_0, reduceCtorEq, if_true, if_false, ite_true, ite_false, swt, Option.some.injEq]
theorem m_R_refused' : ev (d + 1) M_R_refused [aQ (some 39), aI z] h = gO h 39 10 (some (some (aI (-1)), pf h 39 18 (aI z))) := by
  rw [n_R_refused]
  simp (disch := first | assumption | omega | exact aNl_I | exact aNl_Q | exact bl0 | exact bl1 | exact bl2 | exact bl3 | exact bl4 | exact aNl_U) only [u_R_refused_0, u_R_refused_1, u_R_refused_2, u_R_refused_5, u_R_refused_6, aSz_pf, aSz_sa, aSz_sr, isO_pf, isO_sa, isO_sr, isA_pf, isA_sa, isA_sr, isR_pf, isR_sa, isR_sr, al_pf, al_sa, al_sr, gf_sa, gf_sr, ai_pf, ai_sr, ra_pf, ra_sa, gf_pn, ai_sn, ra_sn, sa_sa, pf_pf, fi_sa, fi_sr, fi_pn, gO_pf, gO_sa, gO_sr, gA_pf, gA_sa, gA_sr, gR_pf, gR_sa, gR_sr, isAR_pf, isAR_sa, isAR_sr, okQ_pf, okQ_sa, okQ_sr, okC_pf, okC_sa, okC_sr, okQ_n, gB_t, wr_id, wr_ai, wr_fi, wr_wand, wr_wor, wr_wxor, wr_wshl, wr_wshr, wr_lt, wr_gt, Int.reduceEq, Int.reduceLT, Int.reduceLE, Int.reduceNeg, b01, b10, and_self, true_and, and_true, false_and, and_false, or_false, false_or, or_true, true_or, ite_not, not_true_eq_false, not_false_eq_true, kk_v, kk_0, reduceCtorEq, if_true, if_false, ite_true, ite_false, swt, Option.some.injEq]
theorem m_C_done' : ev (d + 1) M_C_done [aQ (some 3), aI z] h = gO h 3 9 (some (some (aI z), pf h 3 9 (aI 0))) := by
  rw [n_C_done]
  simp (disch := first | assumption | omega | exact aNl_I | exact aNl_Q | exact bl0 | exact bl1 | exact bl2 | exact bl3 | exact bl4 | exact aNl_U) only [u_C_done_0, u_C_done_1, u_C_done_2, u_C_done_5, u_C_done_6, aSz_pf, aSz_sa, aSz_sr, isO_pf, isO_sa, isO_sr, isA_pf, isA_sa, isA_sr, isR_pf, isR_sa, isR_sr, al_pf, al_sa, al_sr, gf_sa, gf_sr, ai_pf, ai_sr, ra_pf, ra_sa, gf_pn, ai_sn, ra_sn, sa_sa, pf_pf, fi_sa, fi_sr, fi_pn, gO_pf, gO_sa, gO_sr, gA_pf, gA_sa, gA_sr, gR_pf, gR_sa, gR_sr, isAR_pf, isAR_sa, isAR_sr, okQ_pf, okQ_sa, okQ_sr, okC_pf, okC_sa, okC_sr, okQ_n, gB_t, wr_id, wr_ai, wr_fi, wr_wand, wr_wor, wr_wxor, wr_wshl, wr_wshr, wr_lt, wr_gt, Int.reduceEq, Int.reduceLT, Int.reduceLE, Int.reduceNeg, b01, b10, and_self, true_and, and_true, false_and, and_false, or_false, false_or, or_true, true_or, ite_not, not_true_eq_false, not_false_eq_true, kk_v, kk_0, reduceCtorEq, if_true, if_false, ite_true, ite_false, swt, Option.some.injEq]
theorem m_C_refused' : ev (d + 1) M_C_refused [aQ (some 3), aI z] h = gO h 3 9 (some (some (aI (-1)), pf h 3 9 (aI z))) := by
  rw [n_C_refused]
  simp (disch := first | assumption | omega | exact aNl_I | exact aNl_Q | exact bl0 | exact bl1 | exact bl2 | exact bl3 | exact bl4 | exact aNl_U) only [u_C_refused_0, u_C_refused_1, u_C_refused_2, u_C_refused_5, u_C_refused_6, aSz_pf, aSz_sa, aSz_sr, isO_pf, isO_sa, isO_sr, isA_pf, isA_sa, isA_sr, isR_pf, isR_sa, isR_sr, al_pf, al_sa, al_sr, gf_sa, gf_sr, ai_pf, ai_sr, ra_pf, ra_sa, gf_pn, ai_sn, ra_sn, sa_sa, pf_pf, fi_sa, fi_sr, fi_pn, gO_pf, gO_sa, gO_sr, gA_pf, gA_sa, gA_sr, gR_pf, gR_sa, gR_sr, isAR_pf, isAR_sa, isAR_sr, okQ_pf, okQ_sa, okQ_sr, okC_pf, okC_sa, okC_sr, okQ_n, gB_t, wr_id, wr_ai, wr_fi, wr_wand, wr_wor, wr_wxor, wr_wshl, wr_wshr, wr_lt, wr_gt, Int.reduceEq, Int.reduceLT, Int.reduceLE, Int.reduceNeg, b01, b10, and_self, true_and, and_true, false_and, and_false, or_false, false_or, or_true, true_or, ite_not, not_true_eq_false, not_false_eq_true, kk_v, kk_0, reduceCtorEq, if_true, if_false, ite_true, ite_false, swt, Option.some.injEq]
theorem ROut0 (w : Sh h) (g : Rg h) (hz : inr z) : ROut h (pf h 39 18 (aI z)) (rV h) z :=
  ⟨⟨Sh_pfI w (by decide) (by decide), Rg_pf g hz⟩, Fr.refl.pf (Or.inr (by decide)), AgR.of rV_pf.symm.symm, ⟨fi_pn (by omega), fi_pn (by omega), fi_pn (by omega), sf_39_18 w⟩, rfl, rfl⟩
theorem ROut1 (w : Sh h) (g : Rg h) (hz : inr z) (hf : ∀ j, inr (f j)) : ROut h (pf (sa h 54 f) 39 18 (aI z)) (uV (rV h) 54 f) z :=
  ⟨⟨Sh_pfI (Sh_sa w (by decide)) (by decide) (by decide), Rg_pf (Rg_sa g hf) hz⟩, (Fr.refl.sa (Or.inr (by decide))).pf (Or.inr (by decide)), AgR.of (by rw [rV_pf, rV_sa (sA_54 w) (by decide) (by decide)]), ⟨by rw [fi_pn (by omega), fi_sa], by rw [fi_pn (by omega), fi_sa], by rw [fi_pn (by omega), fi_sa], sf_39_18 (Sh_sa w (by decide))⟩, rfl, rfl⟩
theorem ROut2 {a : Nat} {k : Int → Int} (w : Sh h) (g : Rg h) (hz : inr z) (hf : ∀ j, inr (f j)) (hk : ∀ j, inr (k j)) (ha : a = 52 ∨ a = 53) : ROut h (pf (sa (sa h a k) 54 f) 39 18 (aI z)) (uV (uV (rV h) a k) 54 f) z := by
  have hA : isA h a = true := by rcases ha with rfl | rfl; exact sA_52 w; exact sA_53 w
  have w2 : Sh (sa h a k) := Sh_sa w (by omega)
  exact ⟨⟨Sh_pfI (Sh_sa w2 (by decide)) (by decide) (by decide), Rg_pf (Rg_sa (Rg_sa g hk) hf) hz⟩, ((Fr.refl.sa (Or.inr (by rcases ha with rfl | rfl <;> decide))).sa (Or.inr (by decide))).pf (Or.inr (by decide)), AgR.of (by rw [rV_pf, rV_sa (sA_54 w2) (by decide) (by decide), rV_sa hA (by omega) (by omega)]), ⟨by rw [fi_pn (by omega), fi_sa, fi_sa], by rw [fi_pn (by omega), fi_sa, fi_sa], by rw [fi_pn (by omega), fi_sa, fi_sa], sf_39_18 (Sh_sa w2 (by decide))⟩, rfl, rfl⟩
/-- the state object after its ints alone have changed -/
theorem CRel.upd (m : CRel h 4 V) (w : Sh h) (e : Fr [3, 4, 5, 6] h h1)
    (u0 : fi h1 4 0 = U 54 0 ∧ fi h1 4 2 = U 54 3 ∧ fi h1 4 3 = U 54 4 ∧ fi h1 4 4 = U 54 5 ∧ fi h1 4 5 = U 54 2 ∧ fi h1 4 8 = U 54 1)
    (u1 : ∀ j, 0 ≤ j → j < 8 → ai h1 5 j = U 52 j) (u2 : ∀ j, 0 ≤ j → j < 20 → ai h1 6 j = U 53 j)
    (u3 : U 54 1 = V 54 1) (u4 : ∀ a, a ≠ 52 → a ≠ 53 → a ≠ 54 → U a = V a) : CRel h1 4 U := by
  have hw := Sh_lt w
  have hn : nim [3, 4, 5, 6] := by decide
  obtain ⟨m1, m2, m3, m4, m5, m6⟩ := m
  refine ⟨u0, u1, u2, fun f k1 k2 => ?_, fun k k1 k2 => ?_, m6.fr e hn (by omega) (by decide)⟩
  · obtain ⟨p, k3, k4⟩ := m4 f k1 k2
    refine ⟨p, by rw [ra_co (e.2 7 (by omega) (by decide))]; exact k3, ?_⟩
    rw [u4 40 (by decide) (by decide) (by decide), u4 41 (by decide) (by decide) (by decide)]
    exact k4.fr e hn
  · rw [u3] at k2
    obtain ⟨c, k3, k4⟩ := m5 k k1 k2
    refine ⟨c, by rw [ra_co (e.2 8 (by omega) (by decide))]; exact k3, ?_⟩
    have := k4.fr e hn
    unfold ChR at this ⊢
    rw [u4 45 (by decide) (by decide) (by decide), u4 46 (by decide) (by decide) (by decide), u4 47 (by decide) (by decide) (by decide), u4 48 (by decide) (by decide) (by decide), u4 49 (by decide) (by decide) (by decide), u4 50 (by decide) (by decide) (by decide), u4 42 (by decide) (by decide) (by decide), u4 43 (by decide) (by decide) (by decide)]
    exact this
theorem COut0 (w : Sh h) (g : Rg h) (cr : CRel h 4 V) (hz : inr z) : COut h (pf h 3 9 (aI z)) V z :=
  ⟨⟨Sh_pfI w (by decide) (by decide), Rg_pf g hz⟩, Fr.refl.pf (Or.inr (by decide)), cr.fr (L := [3]) (Fr.refl.pf (Or.inr (by decide))) (by decide) (by have := Sh_lt w; omega) (by decide) (by decide) (by decide) (by decide) (by decide), ⟨fi_pn (by omega), fi_pn (by omega), sf_3_9 w⟩, Nat.le_add_right _ _, Nat.le_add_right _ _⟩
/-- both calls, one after the other, answer the same and leave what holds between calls -/
def Step (c r : aH → aR) (h : aH) : Prop := ∃ (z : Int) (h1 h2 : aH), c h = some (some (aI z), h1) ∧ r h1 = some (some (aI z), h2) ∧ Inv h2 ∧ aSz h2 ≤ aSz h + 100 ∧ aSl h2 ≤ aSl h + 1000
theorem Step.q {c r : aH → aR} (i : Inv h) (e1 : c h = some (some (aI z), h)) (e2 : r h = some (some (aI z), h)) : Step c r h := ⟨z, h, h, e1, e2, i, Nat.le_add_right _ _, Nat.le_add_right _ _⟩
theorem Step.m {c r : aH → aR} {x : Int} (i : Inv h) (v : VOK V) (e1 : c h = some (some (aI x), h1)) (o1 : COut h h1 V z) (e2 : ∃ h2, r h1 = some (some (aI x), h2) ∧ ROut h1 h2 V z) : Step c r h := by
  obtain ⟨h2, e2, o2⟩ := e2
  exact ⟨x, h1, h2, e1, e2, i.mu v o1 o2⟩
/-- both refuse -/
theorem Step.no {c r : aH → aR} (i : Inv h) (hz : inr z) (e1 : c h = some (some (aI (-1)), pf h 3 9 (aI z))) (e2 : ∀ h1, Sh h1 → Rg h1 → rV h1 = rV h → r h1 = some (some (aI (-1)), pf h1 39 18 (aI z))) : Step c r h := by
  have i' := i
  obtain ⟨⟨w, g⟩, v, cr, -⟩ := i
  have o1 := COut0 w g cr hz
  have e := rV_fr o1.2.1 w
  refine Step.m i' v e1 o1 ⟨_, e2 _ o1.1.1 o1.1.2 e, ?_⟩
  have := ROut0 o1.1.1 o1.1.2 hz
  rw [e] at this
  exact this
end SIM
