/-! the heap's instructions -/
section OKH
variable {G : gG} {l : Launch} {D : dD} {pc : Nat}
theorem isO_of {h : aH} {a ci : Nat} (e : isO h a ci = true) : ∃ fs, aCo h a = .inl (ci, fs) ∧ 3 ≤ a ∧ a < aSz h ∧ fs.length = aNf ci := by
  unfold isO at e
  split at e
  · rename_i o q
    simp only [decide_eq_true_eq] at e
    obtain ⟨h1, h2, h3, h4⟩ := e
    obtain ⟨o1, o2⟩ := o
    dsimp only at h3 h4
    subst h3
    exact ⟨o2, q, h1, h2, h4⟩
  · cases e
theorem isA_of {h : aH} {a : Nat} (e : isA h a = true) : ∃ n f, aCo h a = .inr (.inl (n, f)) ∧ a < aSz h ∧ al h a = n ∧ ai h a = f := by
  unfold isA at e
  split at e
  · rename_i o q
    obtain ⟨n, f⟩ := o
    refine ⟨n, f, q, by simpa using e, ?_, ?_⟩
    · unfold al; rw [q]
    · unfold ai; rw [q]
  · cases e
theorem isR_of {h : aH} {a k : Nat} (e : isR h a k = true) : ∃ n f, aCo h a = .inr (.inr (k, n, f)) ∧ 3 ≤ a ∧ a < aSz h ∧ al h a = n ∧ ra h a = f := by
  unfold isR at e
  split at e
  · rename_i o q
    obtain ⟨k', n, f⟩ := o
    simp only [decide_eq_true_eq] at e
    obtain ⟨h1, h2, h3⟩ := e
    subst h3
    refine ⟨n, f, q, h1, h2, ?_, ?_⟩
    · unfold al; rw [q]
    · unfold ra; rw [q]
  · cases e
theorem Rep.set {h : aH} {H H' : Heap} {a : Nat} {c : aC} (hR : Rep G h H) (ha : 3 ≤ a) (hs : H'.size = H.size) (hP : va_P (g_D G) vwCl (wl G (aSet h a c)) H') : Rep G (aSet h a c) H' := by
  obtain ⟨h1, h2, h3, h4, h5, h6⟩ := hR
  refine ⟨h1, hs.trans h2, hP, ?_, ?_, ?_⟩
  · rw [aCo_set, if_neg (by omega)]; exact h4
  · rw [aCo_set, if_neg (by omega)]; exact h5
  · rw [aCo_set, if_neg (by omega)]; exact h6
theorem Rep.new {h : aH} {H H' : Heap} {n : Nat} {c : aC} (hR : Rep G h H) (hs : H'.size = H.size + 1) (ho : ∀ q : Nat, q < H.size → H'[q]? = H[q]?) (hc : va_at (g_D G) vwCl (gAd G (aSz h), cC G c) H') : Rep G (aNew h c n) H' := by
  obtain ⟨h1, h2, h3, h4, h5, h6⟩ := hR
  refine ⟨Nat.le_succ_of_le h1, ?_, ?_, ?_, ?_, ?_⟩
  · rw [aSz_new, hs, h2]; omega
  · rw [← wl_new G h1]
    refine (h3.kept (fun k x hx => ho x.1 ((h3 k x hx).lt))).app (fun k x hx => ?_)
    have hz : k < 1 := (List.getElem?_eq_some_iff.mp hx).1
    rw [show k = 0 by omega] at hx
    cases hx
    exact hc
  · rw [aCo_new, if_neg (by omega)]; exact h4
  · rw [aCo_new, if_neg (by omega)]; exact h5
  · rw [aCo_new, if_neg (by omega)]; exact h6
theorem Rep.ad {h : aH} {H : Heap} (hR : Rep G h H) : gAd G (aSz h) = H.size := by
  obtain ⟨h1, h2, -⟩ := hR
  rw [gAd3 G h1, h2]
theorem At.A {s : State} {h : aH} {ls : List aV} {H : Heap} {locs : List Loc} {A : Array Slot} (F : CX G s) : ∀ q, s.heap.size ≤ q → g_A G q := fun q h => Nat.le_trans F.2.2.2.2.2.2.2 h
/-- a field of a class: its place in classes, table, number of fields; the words -/
def okCl (ci : Nat) (C : String) (T : u_T) (N : Nat) : Prop := vwCl[ci]? = some (C, T, N) ∧ N = aNf ci ∧ (∀ w ∈ u_ws C T N, w ∈ gW)
theorem ok_gf {ci k i : Nat} {ref C : String} {T : u_T} {N : Nat} (hc : okCl ci C T N) (hk : k < N) (hd : decode D.2.1 pc = .ok (.getfield i, 3)) (hw : Cond.fieldLink D.1.cls i ref (T k).2.1 (T k).2.2.1 ∈ gW) (hr : (T k).1 = ref) : OkN G l D pc (s_gf ci k (pc + 3)) := by
  refine OkN.st fun p e R s m args below meth c F ls st h n ls' st' h' hf => ?_
  unfold s_gf at hf
  split at hf
  · rename_i a st1
    split at hf
    · rename_i ho
      cases hf
      obtain ⟨fs, e1, e2, e3, e4⟩ := isO_of ho
      refine ⟨⟨rfl, rfl⟩, fun H locs A cells slots Q hA kk => ?_⟩
      have hkl : k < fs.length := by rw [e4, ← hc.2.1]; exact hk
      have hg : gf h a k = fs[k] := by unfold gf; rw [e1]; simp [List.getD, hkl]
      have hget := wl_get G e2 e3
      rw [e1] at hget
      refine va_get F.1 F.2.1 F.2.2.2.2.2.1 hc.2.2 F.2.2.2.2.1 F.2.2.2.2.2.2.2.2.1.1 hA.1.2.2.1 (a - 3) hget hc.1 k hk (F.2.2.2.2.2.1 _ hw) (fun x hx => by rw [← hr]; exact hx) (v := cV G (gf h a k)) ?_ hd kk
      rw [hg, List.getElem?_map, List.getElem?_eq_getElem hkl]
      rfl
    · cases hf
  · cases hf
theorem fits_of {t : Nat} {v : aV} {ty : FieldType} (h : okT t v = true) (ht : (t = 0 ∧ ty = .int) ∨ (t = 1 ∧ ty = .boolean) ∨ (t = 2 ∧ ((∃ C, ty = .object C) ∨ ∃ u, ty = .array u))) : narrow ty (cV G v) = cV G v ∧ fits ty (cV G v) = true := by
  rcases v with x | r | x | x
  · rcases ht with ⟨rfl, rfl⟩ | ⟨rfl, rfl⟩ | ⟨rfl, -⟩
    · exact ⟨rfl, rfl⟩
    · simp only [okT] at h
      have : x = 0 ∨ x = 1 := by simpa using h
      rcases this with rfl | rfl
      · exact ⟨rfl, rfl⟩
      · exact ⟨rfl, rfl⟩
    · simp [okT] at h
  · rcases ht with ⟨rfl, rfl⟩ | ⟨rfl, rfl⟩ | ⟨rfl, ht⟩
    · simp [okT] at h
    · simp [okT] at h
    · rcases ht with ⟨C, rfl⟩ | ⟨u, rfl⟩ <;> cases r <;> exact ⟨rfl, rfl⟩
  · cases h
  · cases h
theorem pf_eq {h : aH} {a k ci : Nat} {fs : List aV} {v : aV} (e : aCo h a = .inl (ci, fs)) : pf h a k v = aSet h a (.inl (ci, fs.set k v)) := by
  unfold pf; rw [e]
theorem sa_eq {h : aH} {a n : Nat} {f g : Int → Int} (e : aCo h a = .inr (.inl (n, f))) : sa h a g = aSet h a (.inr (.inl (n, g))) := by
  unfold sa; rw [e]
theorem sr_eq {h : aH} {a k n : Nat} {f g : Int → Option Nat} (e : aCo h a = .inr (.inr (k, n, f))) : sr h a g = aSet h a (.inr (.inr (k, n, g))) := by
  unfold sr; rw [e]
theorem va_Psz {ws : va_W} {H : Heap} {A : Nat → Prop} {H0 : Heap} {locs : List Loc} (h : va_S A H0 H locs) : H0.size ≤ H.size := h.1
theorem ok_pf {ci k i : Nat} {ref C : String} {T : u_T} {N : Nat} {ty : Nat → FieldType} (hc : okCl ci C T N) (hty : ∀ k, k < N → parseFieldDescriptor (T k).2.2.1 = some (ty k)) (hnm : ∀ a, a < N → ∀ b, b < N → a ≠ b → (T a).2.1 ≠ (T b).2.1) (hk : k < N) (hd : decode D.2.1 pc = .ok (.putfield i, 3)) (hw : Cond.fieldLink D.1.cls i ref (T k).2.1 (T k).2.2.1 ∈ gW) (hr : (T k).1 = ref)
    (hfin : (T k).2.2.2 = false ∨ ((T k).2.2.2 = true ∧ D.1.name = "<init>" ∧ (T k).1 = D.1.cls)) (ht : (aTy ci k = 0 ∧ ty k = .int) ∨ (aTy ci k = 1 ∧ ty k = .boolean) ∨ (aTy ci k = 2 ∧ ((∃ C, ty k = .object C) ∨ ∃ u, ty k = .array u))) : OkN G l D pc (s_pf ci k (pc + 3)) := by
  refine OkN.of fun p e R s m args below meth c F ls st h n ls' st' h' hf => ?_
  unfold s_pf at hf
  split at hf
  · rename_i v a st1
    split at hf
    · rename_i ho
      cases hf
      obtain ⟨fs, e1, e2, e3, e4⟩ := isO_of ho.1
      rw [pf_eq e1]
      refine ⟨⟨rfl, rfl⟩, fun H locs A cells slots Q hA kk => ?_⟩
      have hkl : k < fs.length := by rw [e4, ← hc.2.1]; exact hk
      obtain ⟨f1, f2⟩ := fits_of (G := G) ho.2 ht
      have hget := wl_get G e2 e3
      rw [e1] at hget
      have fin : ∀ (H1 : Heap) (locs1 : List Loc), H1.size = H.size → va_P (g_D G) vwCl ((wl G h).set (a - 3) (gAd G a, .inr (ci, (fs.map (cV G)).set k (cV G v)))) H1 → va_S (g_A G) s.heap H1 locs1 → W p l e R s m args below meth c H1 locs1 cells slots Q (F0 m (pc + 3) A (st'.map (cV G))) := by
        intro H1 locs1 hz hP hS
        refine kk H1 locs1 A ⟨hA.1.set e2 hz ?_, hS, hA.2.2⟩
        rw [← wl_set G e2 e3]
        have : cC G (.inl (ci, fs.set k v)) = .inr (ci, (fs.map (cV G)).set k (cV G v)) := by
          show Sum.inr (ci, (fs.set k v).map (cV G)) = _
          rw [List.map_set]
        rw [this]
        exact hP
      have hKK := F.2.2.2.2.2.2.2.2.1.1
      have hap := va_apart (own := D.1.cls) F.2.2.2.2.2.1 hc.2.2 ty hty hnm hKK hc.1
      obtain ⟨r, h1, cell, q1, q2, q3, q4⟩ := hA.1.2.2.1 (a - 3) _ hget
      have hrr : r = (C, T, N) := Option.some.inj (h1.symm.trans hc.1)
      subst hrr
      obtain ⟨hS, hfc, kC, hkC, hkind⟩ := hKK.1 ci _ hc.1
      obtain ⟨cf, kf, fi, f, hi, hsl⟩ := hS k hk
      have hst := (u_facts hfc hkC (u_lays F.2.2.2.2.2.1 hc.2.2 hk) hi).1
      have hkm : k < (fs.map (cV G)).length := by rw [List.length_map]; exact hkl
      rcases hfin with hfin | ⟨hfin, hini, hdecl⟩
      · have hlay := F.2.2.2.2.2.1 _ (hc.2.2 _ (u_in_lay hk))
        unfold u_lay at hlay
        rw [if_neg (by rw [hfin]; decide)] at hlay
        have h6 := u_store hfc hkC hkind hlay hi (hty k hk) f1 f2
        refine W.putK F.1 F.2.1 (f := f) ⟨F.2.2.2.2.1, F.2.2.2.2.2.1 _ hw, ⟨_, _, _, by rw [← hr]; exact hi⟩, hst⟩ (by rw [q2]; exact h6) q1 q3 (by rw [hsl]; exact k2_hasslot (q4 k hk)) rfl rfl hd fun H' g1 g2 g3 => ?_
        rw [hsl] at g1 ⊢
        exact fin H' _ g2 (hA.1.2.2.1.set (wl_D G h) hget ⟨_, hc.1, t_OB.to (V := updV (vp_V (fs.map (cV G))) k (cV G v)) ⟨_, g1, q2, q3, t_set q4 hap hk _⟩ (fun j _ => vp_updV_set hkm _ j)⟩ g3) (hA.2.1.put g2 g3 ((wl_D G h).2 (a - 3) _ hget))
      · have hlay := F.2.2.2.2.2.1 _ (hc.2.2 _ (u_in_lay hk))
        unfold u_lay at hlay
        rw [if_pos hfin] at hlay
        have hcf : m.cls = cf := by
          obtain ⟨_, _, c', _, _, _, -, -, hf', -, -, -, hown2, -⟩ := Cond.laysFinal_spec hlay
          have g1 : c' = cf := by have := hi.symm.trans hf'; simp at this; exact this.1.symm
          rw [hdecl] at hown2
          rw [← g1]; exact Option.some.inj (F.2.2.2.2.1.symm.trans hown2)
        have h6 := u_fits hfc hkC hkind (Or.inr hlay) hi (hty k hk) f1 f2
        refine W.putFinK F.1 F.2.1 F.2.2.2.2.1 (F.2.2.2.2.2.1 _ hw) (by rw [← hr]; exact hi) hst hcf (F.2.2.2.2.2.2.2.1 hini) (by rw [q2]; exact h6) q1 q3 (by rw [hsl]; exact k2_hasslot (q4 k hk)) rfl rfl hd fun H' g1 g2 g3 => ?_
        rw [hsl] at g1 ⊢
        exact fin H' _ g2 (hA.1.2.2.1.set (wl_D G h) hget ⟨_, hc.1, t_OB.to (V := updV (vp_V (fs.map (cV G))) k (cV G v)) ⟨_, g1, q2, q3, t_set q4 hap hk _⟩ (fun j _ => vp_updV_set hkm _ j)⟩ g3) (hA.2.1.put g2 g3 ((wl_D G h).2 (a - 3) _ hget))
    · cases hf
  · cases hf
theorem inA_of {h : aH} {a : Nat} {i : Int} (e : inA h a i = true) : isA h a = true ∧ 0 ≤ wr i ∧ wr i < al h a := by
  unfold inA at e
  simp only [Bool.and_eq_true, decide_eq_true_eq] at e
  exact e
theorem inR_of {h : aH} {a k : Nat} {i : Int} (e : inR h a k i = true) : isR h a k = true ∧ 0 ≤ wr i ∧ wr i < al h a := by
  unfold inR at e
  simp only [Bool.and_eq_true, decide_eq_true_eq] at e
  exact e
theorem tys_0 : (tysG G)[0]? = some (g_cI G, .int) := rfl
theorem small_a {a : Nat} (h : ¬ 3 ≤ a) : a = 0 ∨ a = 1 ∨ a = 2 := by omega
/-- a row below: it lies as the Statement says -/
theorem low_row {s : State} {h : aH} {H : Heap} {locs : List Loc} {a n : Nat} {f : Int → Int} (F : CX G s) (hR : Rep G h H) (hS : va_S (g_A G) s.heap H locs) (ha : ¬ 3 ≤ a) (e : aCo h a = .inr (.inl (n, f))) :
    va_X (gAd G a) n (fun j => Int32.ofInt (f (j : Int))) s s.heap ∧ gAd G a < s.heap.size ∧ ¬ g_A G (gAd G a) := by
  obtain ⟨-, ⟨x1, x2, x3⟩, -, -, ⟨l1, l2, l3, l4⟩⟩ := F
  obtain ⟨-, -, -, r1, r2, r3⟩ := hR
  rcases small_a ha with rfl | rfl | rfl
  · rw [r1] at e
    cases e
    refine ⟨?_, Nat.lt_of_lt_of_le l1 l4, Nat.not_le.mpr l1⟩
    have : (fun j : Nat => Int32.ofInt (g_xs G ((j : Int)).toNat).toInt) = g_xs G := by
      funext j
      rw [Int32.ofInt_toInt, Int.toNat_natCast]
    show va_X (g_b G) (g_L G) (fun j : Nat => Int32.ofInt (g_xs G ((j : Int)).toNat).toInt) s s.heap
    rw [this]
    exact x1
  · rw [r2] at e
    cases e
    exact ⟨x2, Nat.lt_of_lt_of_le l2 l4, Nat.not_le.mpr l2⟩
  · rw [r3] at e
    cases e
    exact ⟨x3, Nat.lt_of_lt_of_le l3 l4, Nat.not_le.mpr l3⟩
theorem idx_cast {i : Int} (h : 0 ≤ wr i) : (((Int32.ofInt i).toNatClampNeg : Nat) : Int) = wr i := by rw [i_nat]; omega
theorem ok_ia (hd : decode D.2.1 pc = .ok (.iaload, 1)) : OkN G l D pc (s_ia (pc + 1)) := by
  refine OkN.st fun p e R s m args below meth c F ls st h n ls' st' h' hf => ?_
  unfold s_ia at hf
  split at hf
  · rename_i i a st1
    split at hf
    · rename_i hi
      cases hf
      obtain ⟨ha, i1, i2⟩ := inA_of hi
      obtain ⟨n, f, e1, e2, e3, e4⟩ := isA_of ha
      rw [e3] at i2
      rw [e4]
      refine ⟨⟨rfl, rfl⟩, fun H locs A cells slots Q hA kk => ?_⟩
      have hin : vp_in (Int32.ofInt i) n := (i_in i n).mpr ⟨i1, i2⟩
      have hc := F.2.2.2.2.2.2.2.2.1
      by_cases h3 : 3 ≤ a
      · have hget := wl_get G h3 e2
        rw [e1] at hget
        refine va_iald F.1 F.2.1 hc.1 hA.1.2.2.1 (a - 3) 0 hget tys_0 hin hd ?_
        rw [idx_cast i1]
        exact kk
      · obtain ⟨q1, q2, q3⟩ := low_row hc hA.1 hA.2.1 h3 e1
        refine va_sld F.1 F.2.1 q1 q2 q3 hA.2.1 hin hd ?_
        rw [idx_cast i1]
        exact kk
    · cases hf
  · cases hf
theorem ok_ias (hd : decode D.2.1 pc = .ok (.iastore, 1)) : OkN G l D pc (s_ias (pc + 1)) := by
  refine OkN.of fun p e R s m args below meth c F ls st h n ls' st' h' hf => ?_
  unfold s_ias at hf
  split at hf
  · rename_i v i a st1
    split at hf
    · rename_i hi
      cases hf
      obtain ⟨ha, i1, i2⟩ := inA_of hi.1
      obtain ⟨n, f, e1, e2, e3, e4⟩ := isA_of ha
      rw [e3] at i2
      rw [e4, sa_eq e1]
      refine ⟨⟨rfl, rfl⟩, fun H locs A cells slots Q hA kk => ?_⟩
      have hin : vp_in (Int32.ofInt i) n := (i_in i n).mpr ⟨i1, i2⟩
      have hc := F.2.2.2.2.2.2.2.2.1
      have h3 := hi.2
      have hget := wl_get G h3 e2
      rw [e1] at hget
      have hlt : (Int32.ofInt i).toNatClampNeg < n := Nat.not_le.mp fun q => hin (Or.inr q)
      refine W.iast F.1 F.2.1 (hA.1.2.2.1 (a - 3) _ hget) ((hc.1.2 0 _ tys_0).1 n (fun j => .int (Int32.ofInt (f (j : Int))))) (fun q => by cases q) (by show ¬ (_ ∨ (arrV _ _ _).slots.size ≤ _); rw [arrV_size]; exact hin) rfl rfl hd fun H1 g1 z oq => ?_
      refine kk H1 _ A ⟨hA.1.set h3 z ?_, hA.2.1.put z oq ((wl_D G h).2 (a - 3) _ hget), hA.2.2⟩
      rw [← wl_set G h3 e2]
      refine hA.1.2.2.1.set (wl_D G h) hget ?_ oq
      show H1[gAd G a]? = some (vp_cell _ _)
      rw [g1]
      show some ((vp_cell (g_cI G) (n, .inl fun j => Int32.ofInt (f (j : Int)))).setSlot _ _) = _
      rw [vp_cell_i, vp_cell_i, arrV_store]
      congr 2
      funext q
      show updV _ _ _ q = Value.int (Int32.ofInt (upf f (wr i) v (q : Int)))
      by_cases hq : q = (Int32.ofInt i).toNatClampNeg
      · rw [hq]
        unfold updV upf
        rw [if_pos rfl, if_pos (idx_cast i1)]
      · unfold updV upf
        rw [if_neg hq, if_neg]
        intro e
        rw [← idx_cast i1] at e
        exact hq (by omega)
    · cases hf
  · cases hf
theorem tys_R {k : Nat} (hk : k < 4) : (tysG G)[k + 1]? = some (g_cR G k, .object (overC.getD k "")) := by
  rcases (show k = 0 ∨ k = 1 ∨ k = 2 ∨ k = 3 by omega) with rfl | rfl | rfl | rfl <;> rfl
theorem ok_ra {k : Nat} (hk : k < 4) (hd : decode D.2.1 pc = .ok (.aaload, 1)) : OkN G l D pc (s_ra k (pc + 1)) := by
  refine OkN.st fun p e R s m args below meth c F ls st h n ls' st' h' hf => ?_
  unfold s_ra at hf
  split at hf
  · rename_i i a st1
    split at hf
    · rename_i hi
      cases hf
      obtain ⟨ha, i1, i2⟩ := inR_of hi
      obtain ⟨n, f, e1, h3, e2, e3, e4⟩ := isR_of ha
      rw [e3] at i2
      rw [e4]
      refine ⟨⟨rfl, rfl⟩, fun H locs A cells slots Q hA kk => ?_⟩
      have hin : vp_in (Int32.ofInt i) n := (i_in i n).mpr ⟨i1, i2⟩
      have hc := F.2.2.2.2.2.2.2.2.1
      have hget := wl_get G h3 e2
      rw [e1] at hget
      refine va_aldq F.1 F.2.1 hc.1 hA.1.2.2.1 (a - 3) (k + 1) hget (tys_R hk) hin hd ?_
      rw [idx_cast i1]
      exact kk
    · cases hf
  · cases hf
theorem el_ok {k : Nat} (hk : k < 4) : ∃ r : vw_C, vwCl[aEl k]? = some r ∧ r.1 = overC.getD k "" := by
  rcases (show k = 0 ∨ k = 1 ∨ k = 2 ∨ k = 3 by omega) with rfl | rfl | rfl | rfl <;> exact ⟨_, rfl, rfl⟩
theorem ok_ras {k : Nat} (hk : k < 4) (hd : decode D.2.1 pc = .ok (.aastore, 1)) : OkN G l D pc (s_ras k (pc + 1)) := by
  refine OkN.of fun p e R s m args below meth c F ls st h n ls' st' h' hf => ?_
  unfold s_ras at hf
  split at hf
  · rename_i r i a st1
    split at hf
    · rename_i hi
      cases hf
      obtain ⟨ha, i1, i2⟩ := inR_of hi.1
      obtain ⟨n, f, e1, h3, e2, e3, e4⟩ := isR_of ha
      rw [e3] at i2
      rw [e4, sr_eq e1]
      refine ⟨⟨rfl, rfl⟩, fun H locs A cells slots Q hA kk => ?_⟩
      have hin : vp_in (Int32.ofInt i) n := (i_in i n).mpr ⟨i1, i2⟩
      have hc := F.2.2.2.2.2.2.2.2.1
      have hget := wl_get G h3 e2
      rw [e1] at hget
      have hlt : (Int32.ofInt i).toNatClampNeg < n := Nat.not_le.mp fun q => hin (Or.inr q)
      have fin : ∀ (H1 : Heap), H1[gAd G a]? = some (arrV (g_cR G k) n (updV (fun j => va_rf ((f (j : Int)).map (gAd G))) (Int32.ofInt i).toNatClampNeg (cQ G r))) → H1.size = H.size → (∀ q : Nat, q ≠ gAd G a → H1[q]? = H[q]?) → W p l e R s m args below meth c H1 (locs ++ [⟨gAd G a, (Int32.ofInt i).toNatClampNeg⟩]) cells slots Q (F0 m (pc + 1) A (st'.map (cV G))) := by
        intro H1 g1 z oq
        refine kk H1 _ A ⟨hA.1.set h3 z ?_, hA.2.1.put z oq ((wl_D G h).2 (a - 3) _ hget), hA.2.2⟩
        rw [← wl_set G h3 e2]
        refine hA.1.2.2.1.set (wl_D G h) hget ?_ oq
        show H1[gAd G a]? = some (vp_cell (g_cR G k) (n, .inr (.inr (.inr (.inr (fun j => (upf f (wr i) r (j : Int)).map (gAd G)))))))
        rw [g1, vp_cell_q]
        congr 2
        funext q
        by_cases hq : q = (Int32.ofInt i).toNatClampNeg
        · rw [hq]
          unfold updV upf
          rw [if_pos rfl, if_pos (idx_cast i1)]
          rfl
        · unfold updV upf
          rw [if_neg hq, if_neg]
          intro e
          rw [← idx_cast i1] at e
          exact hq (by omega)
      cases r with
      | none =>
        refine va_WaastN (C := overC.getD k "") F.1 F.2.1 (hA.1.2.2.1 (a - 3) _ hget) ((hc.1.2 (k + 1) _ (tys_R hk)).1 n (fun j => va_rf ((f (j : Int)).map (gAd G)))) (fun h => by cases h) (by show ¬ (_ ∨ (arrV _ _ _).slots.size ≤ _); rw [arrV_size]; exact hin) rfl rfl hd fun H1 g1 z oq => ?_
        refine fin H1 ?_ z oq
        rw [g1]
        show some ((vp_cell (g_cR G k) (n, .inr (.inr (.inr (.inr fun j => (f (j : Int)).map (gAd G)))))).setSlot _ _) = _
        rw [vp_cell_q, arrV_store]
        rfl
      | some b =>
        have hb : isO h b (aEl k) = true := hi.2
        obtain ⟨fs, b1, b2, b3, b4⟩ := isO_of hb
        have hgb := wl_get G b2 b3
        rw [b1] at hgb
        obtain ⟨rC, hrC, hrn⟩ := el_ok hk
        have h0 : ¬ Int32.ofInt i < 0 := fun q => hin (Or.inl q)
        obtain ⟨r', hr', cellV, g1, g2, g3, -⟩ := hA.1.2.2.1 (b - 3) _ hgb
        have hcls := (hc.1.1 (aEl k) rC hrC).2
        obtain ⟨kA, comp, k1, k2, k3, -⟩ := (hc.1.2 (k + 1) _ (tys_R hk)).2
        rw [← hrn] at k2 k3
        have hcomp : comp = (g_D G).1 (aEl k) := Option.some.inj (k3.symm.trans hcls.1)
        subst hcomp
        obtain ⟨kC, hkC, -⟩ := hcls.2
        refine W.aast F.1 F.2.1 (hA.1.2.2.1 (a - 3) _ hget) (fun q h => by cases h) (fun h => by cases h) k1 k2 rfl hkC ⟨h0, by show _ < (arrV _ _ _).slots.size; rw [arrV_size]; exact hlt⟩ g1 (fun q h => by rw [g3] at h; cases h) (by rw [g2]; exact hkC) (by rw [g2]; exact va_assign hcls) rfl rfl hd fun H1 g1 z oq => ?_
        refine fin H1 ?_ z oq
        rw [g1]
        show some ((vp_cell (g_cR G k) (n, .inr (.inr (.inr (.inr fun j => (f (j : Int)).map (gAd G)))))).setSlot _ _) = _
        rw [vp_cell_q, arrV_store]
        rfl
    · cases hf
  · cases hf
theorem ok_len (hd : decode D.2.1 pc = .ok (.arraylength, 1)) : OkN G l D pc (s_len (pc + 1)) := by
  refine OkN.st fun p e R s m args below meth c F ls st h n ls' st' h' hf => ?_
  unfold s_len at hf
  split at hf
  · rename_i a st1
    split at hf
    · rename_i hi
      cases hf
      refine ⟨⟨rfl, rfl⟩, fun H locs A cells slots Q hA kk => ?_⟩
      have hc := F.2.2.2.2.2.2.2.2.1
      have hcase : isA h a = true ∨ ∃ k, k < 4 ∧ isR h a k = true := by
        simp only [isAR, Bool.or_eq_true] at hi
        rcases hi with h | h | h | h | h
        · exact Or.inl h
        · exact Or.inr ⟨0, by omega, h⟩
        · exact Or.inr ⟨1, by omega, h⟩
        · exact Or.inr ⟨2, by omega, h⟩
        · exact Or.inr ⟨3, by omega, h⟩
      have hcast : ∀ n : Nat, Int32.ofNat n = Int32.ofInt (n : Int) := fun n => rfl
      rcases hcase with ha | ⟨k, hk, ha⟩
      · obtain ⟨n, f, e1, e2, e3, e4⟩ := isA_of ha
        rw [e3] at kk
        by_cases h3 : 3 ≤ a
        · have hget := wl_get G h3 e2
          rw [e1] at hget
          exact va_alen F.1 F.2.1 hc.1 hA.1.2.2.1 (a - 3) 0 hget tys_0 rfl hd kk
        · obtain ⟨q1, q2, q3⟩ := low_row hc hA.1 hA.2.1 h3 e1
          exact va_slen F.1 F.2.1 q1 q2 q3 hA.2.1 hd kk
      · obtain ⟨n, f, e1, h3, e2, e3, e4⟩ := isR_of ha
        rw [e3] at kk
        have hget := wl_get G h3 e2
        rw [e1] at hget
        exact va_alen F.1 F.2.1 hc.1 hA.1.2.2.1 (a - 3) (k + 1) hget (tys_R hk) rfl hd kk
    · cases hf
  · cases hf
theorem ok_oi {i : Nat} (hd : decode D.2.1 pc = .ok (.invokespecial i, 3)) (hw : Cond.methodLink D.1.cls i objectInit ∈ gW) (hw2 : Cond.instanceMethod objectInit ∈ gW) (hw3 : Cond.code objectInit ⟨#[0xb1]⟩ 1 none ∈ gW) : OkN G l D pc (s_oi (pc + 3)) := by
  refine OkN.st fun p e R s m args below meth c F ls st h n ls' st' h' hf => ?_
  unfold s_oi at hf
  split at hf
  · rename_i a st1
    split at hf
    · rename_i hl
      cases hf
      refine ⟨⟨rfl, rfl⟩, fun H locs A cells slots Q hA kk => ?_⟩
      have hcat : ∀ st : List aV, ((st.map (cV G)).map fun v => v.category).sum ≤ 2 * st.length := by
        intro st
        induction st with
        | nil => simp
        | cons v t ih =>
          simp only [List.map_cons, List.sum_cons, List.length_cons]
          rcases lv_cat (cV G v) with q | q <;> omega
      have h2 := hcat st'
      refine W.objInit F.1 F.2.1 F.2.2.2.2.1 (F.2.2.2.2.2.1 _ hw) (F.2.2.2.2.2.1 _ hw2) (F.2.2.2.2.2.1 _ hw3) rfl (by rw [F.2.2.2.1, ← hA.2.2.2]; exact hA.2.2.1.1) rfl hd F.2.2.2.2.2.2.2.2.2.1 ?_ kk
      have h3 := F.2.2.2.2.2.2.2.2.2.2
      show 2 * 0 + _ + 12 ≤ _
      omega
    · cases hf
  · cases hf
theorem ok_gs {i t a : Nat} {C n0 d0 ref : String} (hd : decode D.2.1 pc = .ok (.getstatic i, 3)) (hw : Cond.fieldLink D.1.cls i ref n0 d0 ∈ gW) (hr : C = ref) (hz : ∀ s, CX G s → va_Z C n0 d0 (.ref (gAd G a)) (g_A G) s s.heap) : OkN G l D pc (s_gs a (pc + 3)) := by
  subst hr
  refine OkN.st fun p e R s m args below meth c F ls st h n ls' st' h' hf => ?_
  cases hf
  exact ⟨⟨rfl, rfl⟩, fun H locs A cells slots Q hA kk => va_gets F.1 F.2.1 (hz s F.2.2.2.2.2.2.2.2.1) hA.2.1 F.2.2.2.2.1 (F.2.2.2.2.2.1 _ hw) (fun _ q => q) hd kk⟩
end OKH
