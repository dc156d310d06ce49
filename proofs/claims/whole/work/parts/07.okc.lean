/-! making, copying, switches, calls, returns; the whole method -/
section OKX
variable {G : gG} {l : Launch} {D : dD} {pc : Nat}
theorem okA {s : State} (F : CX G s) : ∀ q, s.heap.size ≤ q → g_A G q := fun q h => Nat.le_trans F.2.2.2.2.2.2.2 h
theorem va_Sn {s : State} {H H1 : Heap} {locs : List Loc} (hS : va_S (g_A G) s.heap H locs) (hz : H1.size = H.size + 1) (ho : ∀ q : Nat, q < H.size → H1[q]? = H[q]?) : va_S (g_A G) s.heap H1 locs :=
  ⟨Nat.le_trans hS.1 (by omega), fun x h1 h2 => (ho x (Nat.lt_of_lt_of_le h1 hS.1)).trans (hS.2.1 x h1 h2), hS.2.2⟩
theorem ok_new {ci i : Nat} {C : String} {T : u_T} {N : Nat} {ty : Nat → FieldType} (hc : okCl ci C T N) (hty : ∀ k, k < N → parseFieldDescriptor (T k).2.2.1 = some (ty k)) (hd : decode D.2.1 pc = .ok (.new i, 3)) (hw : Cond.classLink D.1.cls i C ∈ gW) (hw2 : Cond.instantiable C N ∈ gW) (hw3 : Cond.initialized C ∈ gW)
    (hdf : ∀ j, j < N → defaultValue (ty j) = vp_V ((aDf ci).map (cV G)) j) : OkN G l D pc (s_new ci (pc + 3)) := by
  refine ⟨mn_new, ?_⟩
  intro p e R s m args below meth c F ls st h n ls' st' h' hf
  cases hf
  intro H locs A cells slots Q hA h1 h2 kk
  have hX := F.2.2.2.2.2.2.2.2.1
  have hKn := hX.1.1 ci _ hc.1
  have e1 : aSz (aNew h (.inl (ci, aDf ci)) (aNf ci)) - aSz h = 1 := by rw [aSz_new]; omega
  have e2 : aSl (aNew h (.inl (ci, aDf ci)) (aNf ci)) - aSl h = N := by rw [aSl_new, hc.2.1]; omega
  rw [e1] at h1 kk
  rw [e2] at h2 kk
  refine W.newcK F.1 F.2.1 F.2.2.2.2.1 (F.2.2.2.2.2.1 _ hw) (F.2.2.2.2.2.1 _ hw2) (F.2.2.2.2.2.1 _ hw3) rfl hd h1 h2 hKn.2.1 rfl fun H1 kC hkC g1 z1 o1 => ?_
  have had := hA.1.ad
  have hat : va_at (g_D G) vwCl (gAd G (aSz h), cC G (.inl (ci, aDf ci))) H1 := by
    refine ⟨_, hc.1, ?_⟩
    show t_OB (gAd G (aSz h)) _ _ _ _ _
    rw [had]
    exact (u_born ty F.2.2.2.2.2.1 hc.2.2 hKn hkC g1 hty).to hdf
  have := kk H1 locs A ⟨hA.1.new z1 o1 hat, va_Sn hA.2.1 z1 o1, hA.2.2⟩
  rw [List.map_cons, cV_R, had] at this
  exact this
theorem nai_of {n : Nat} {ls st : List aV} {h : aH} {q : Nat × List aV × List aV × aH} (hf : s_nai n ls st h = some q) : ∃ x st1, st = aI x :: st1 ∧ 0 ≤ wr x ∧ wr x ≤ 100000 ∧ q = (n, ls, aQ (some (aSz h)) :: st1, aNew h (.inr (.inl ((wr x).toNat, fun _ => 0))) (wr x).toNat) := by
  unfold s_nai at hf
  split at hf
  · rename_i x st1
    split at hf
    · rename_i hc
      exact ⟨x, st1, rfl, hc.1, hc.2, (Option.some.inj hf).symm⟩
    · cases hf
  · cases hf
theorem nar_of {k n : Nat} {ls st : List aV} {h : aH} {q : Nat × List aV × List aV × aH} (hf : s_nar k n ls st h = some q) : ∃ x st1, st = aI x :: st1 ∧ 0 ≤ wr x ∧ wr x ≤ 100000 ∧ q = (n, ls, aQ (some (aSz h)) :: st1, aNew h (.inr (.inr (k, (wr x).toNat, fun _ => none))) (wr x).toNat) := by
  unfold s_nar at hf
  split at hf
  · rename_i x st1
    split at hf
    · rename_i hc
      exact ⟨x, st1, rfl, hc.1, hc.2, (Option.some.inj hf).symm⟩
    · cases hf
  · cases hf
theorem ok_nai (hd : decode D.2.1 pc = .ok (.newarray .int, 2)) (hw : Cond.arrayClass .int ∈ gW) : OkN G l D pc (s_nai (pc + 2)) := by
  refine ⟨mn_nai, ?_⟩
  intro p e R s m args below meth c F ls st h n ls' st' h' hf
  obtain ⟨x, st1, rfl, x1, x2, e⟩ := nai_of hf
  cases e
  intro H locs A cells slots Q hA h1 h2 kk
  have hX := F.2.2.2.2.2.2.2.2.1
  generalize hN : (wr x).toNat = N at h1 h2 kk
  have e1 : aSz (aNew h (.inr (.inl (N, fun _ => 0))) N) - aSz h = 1 := by rw [aSz_new]; omega
  have e2 : aSl (aNew h (.inr (.inl (N, fun _ => 0))) N) - aSl h = N := by rw [aSl_new]; omega
  rw [e1] at h1 kk
  rw [e2] at h2 kk
  refine va_newaK (atype := .int) F.1 F.2.1 (F.2.2.2.2.2.1 _ hw) rfl hd rfl (N := N) (by rw [i_lt0]; omega) (by rw [i_nat]; exact hN) ?_ h1 h2 rfl fun H1 cA g1 z1 o1 hAr hNm => ?_
  · show N * 4 ≤ 536870912
    omega
  · have hcA : cA = g_cI G := by
      have q := (hX.1.2 0 _ tys_0).2
      exact Option.some.inj (hNm.symm.trans q)
    subst hcA
    have had := hA.1.ad
    have hat : va_at (g_D G) vwCl (gAd G (aSz h), cC G (.inr (.inl (N, fun _ => 0)))) H1 := by
      show H1[gAd G (aSz h)]? = some (vp_cell (g_cI G) (N, .inl (fun _ => Int32.ofInt 0)))
      rw [had, vp_cell_i]
      exact g1
    have := kk H1 locs A ⟨hA.1.new z1 o1 hat, va_Sn hA.2.1 z1 o1, hA.2.2⟩
    rw [List.map_cons, cV_R, had] at this
    exact this
theorem ok_nar {k i : Nat} (hk : k < 4) (hd : decode D.2.1 pc = .ok (.anewarray i, 3)) (hw : Cond.classLink D.1.cls i (overC.getD k "") ∈ gW) : OkN G l D pc (s_nar k (pc + 3)) := by
  refine ⟨mn_nar, ?_⟩
  intro p e R s m args below meth c F ls st h n ls' st' h' hf
  obtain ⟨x, st1, rfl, x1, x2, e⟩ := nar_of hf
  cases e
  intro H locs A cells slots Q hA h1 h2 kk
  have hX := F.2.2.2.2.2.2.2.2.1
  have hNe : (Int32.ofInt x).toNatClampNeg = (wr x).toNat := i_nat x
  generalize hN : (wr x).toNat = N at h1 h2 kk hNe
  have e1 : aSz (aNew h (.inr (.inr (k, N, fun _ => none))) N) - aSz h = 1 := by rw [aSz_new]; omega
  have e2 : aSl (aNew h (.inr (.inr (k, N, fun _ => none))) N) - aSl h = N := by rw [aSl_new]; omega
  rw [e1] at h1 kk
  rw [e2] at h2 kk
  have hov : (Cond.arrayOver (.object (overC.getD k ""))).before args s = true := va_AO.use (hX.2.2.2.1.2 _ (by
    rcases (show k = 0 ∨ k = 1 ∨ k = 2 ∨ k = 3 by omega) with rfl | rfl | rfl | rfl <;> simp [overC]))
  subst hNe
  refine W.anew F.1 F.2.1 F.2.2.2.2.1 (F.2.2.2.2.2.1 _ hw) hov rfl hd rfl (by rw [i_lt0]; omega) (by omega) h1 h2 fun cA kA comp f1 f2 f3 f4 => ?_
  generalize hH1 : H.push ({ cls := cA, slots := Array.replicate (Int32.ofInt x).toNatClampNeg .null, vm := .none } : Cell) = H1
  have z1 : H1.size = H.size + 1 := by rw [← hH1, Array.size_push]
  have g1 : H1[H.size]? = some (arrV cA (Int32.ofInt x).toNatClampNeg (fun _ => .null)) := by rw [← hH1, Array.getElem?_push_size, ← arrV_new]
  have o1 : ∀ q : Nat, q < H.size → H1[q]? = H[q]? := fun q hq => by rw [← hH1, Array.getElem?_push, if_neg (Nat.ne_of_lt hq)]
  have hcA : cA = g_cR G k := by
    obtain ⟨_, _, -, -, -, q⟩ := (hX.1.2 (k + 1) _ (tys_R hk)).2
    exact Option.some.inj (f1.symm.trans q)
  subst hcA
  have had := hA.1.ad
  have hat : va_at (g_D G) vwCl (gAd G (aSz h), cC G (.inr (.inr (k, (Int32.ofInt x).toNatClampNeg, fun _ => none)))) H1 := by
    show H1[gAd G (aSz h)]? = some (vp_cell (g_cR G k) ((Int32.ofInt x).toNatClampNeg, .inr (.inr (.inr (.inr (fun _ => none))))))
    rw [had, vp_cell_q]
    exact g1
  have := kk H1 locs A ⟨hA.1.new z1 o1 hat, va_Sn hA.2.1 z1 o1, hA.2.2⟩
  rw [List.map_cons, cV_R, had] at this
  exact this
theorem okC_of {h : aH} {s d : Nat} {sp dp n : Int} (e : okC h s d sp dp n = true) : isA h s = true ∧ isA h d = true ∧ 3 ≤ s ∧ 3 ≤ d ∧ 0 ≤ wr sp ∧ 0 ≤ wr dp ∧ 0 ≤ wr n ∧ wr sp + wr n ≤ al h s ∧ wr dp + wr n ≤ al h d := by
  unfold okC at e
  simp only [Bool.and_eq_true, decide_eq_true_eq] at e
  exact e
theorem catsum (st : List aV) : ((st.map (cV G)).map fun v => v.category).sum ≤ 2 * st.length := by
  induction st with
  | nil => simp
  | cons v t ih =>
    simp only [List.map_cons, List.sum_cons, List.length_cons]
    rcases lv_cat (cV G v) with q | q <;> omega
theorem i_toInt_nat {z : Int32} (h : ¬ z < 0) : z.toInt = (z.toNatClampNeg : Int) := by
  have hz0 : (0 : Int) ≤ z.toInt := by
    have := Int32.le_iff_toInt_le.mp (Int32.not_lt.mp h)
    simpa using this
  show z.toInt = ((z.toInt.toNat : Nat) : Int)
  omega
/-- System.arraycopy between two rows of ints, the heap behind it said outright -/
theorem W_cpy {p : Program} {e : Env} {R : Room} {s : State} {m : MethodId} {args : Array Value} {below : List Frame} {meth : Method} {c : Code} {H : Heap} {locs : List Loc} {cells slots : Nat} {Q : State → Prop} {cc : ByteArray} {ls : Array Slot} {rest : List Value} {own : String} {index : Nat}
    (hexec : p.tables.exec = Jvm.exec) (hb : c.code = cc) (hml : c.maxLocals = ls.size) (hown : s.vm.findClass own = some m.cls) (hlink : (Cond.methodLink own index arraycopyName).before args s = true) (hnat : (Cond.native arraycopyName).before args s = true) (hstat : (Cond.static arraycopyName).before args s = true) (hini : (Cond.initialized "java/lang/System").before args s = true)
    {src dst : Nat} {cI : ClassId} {n0 n1 : Nat} {f g : Nat → Int32} (hs : H[src]? = some (arrV cI n0 (fun j => .int (f j)))) (hd : H[dst]? = some (arrV cI n1 (fun j => .int (g j)))) (hA : ArrOfT s cI .int) {sp dp n : Int32} (h1 : ¬ sp < 0) (h2 : ¬ dp < 0) (h3 : ¬ n < 0) (h4 : sp.toNatClampNeg + n.toNatClampNeg ≤ n0) (h5 : dp.toNatClampNeg + n.toNatClampNeg ≤ n1)
    (hframes : 1 ≤ R.frames) (hlocals : (rest.map fun v => v.category).sum + (nativeFrameWords "java/lang/System" "arraycopy" 5 + 11) ≤ R.locals) (hdg : decode cc pc = .ok (.invokestatic index, 3))
    (kk : ∀ (H1 : Heap) (L : List Loc), H1[dst]? = some (arrV cI n1 (fun j => .int (va_cpy f g sp.toNatClampNeg dp.toNatClampNeg n.toNatClampNeg j))) → H1.size = H.size → (∀ q : Nat, q ≠ dst → H1[q]? = H[q]?) → (∀ q ∈ L, q.base = dst) → W p l e R s m args below meth c H1 (locs ++ L) cells slots Q (F0 m (pc + 3) ls rest)) :
    W p l e R s m args below meth c H locs cells slots Q (F0 m pc ls (.int n :: .int dp :: .ref dst :: .int sp :: .ref src :: rest)) := by
  intro T hT X
  subst hT
  subst hb
  obtain ⟨-, k0, hk0, cm0, hkk0⟩ := hA n0 (fun j => .int (f j))
  obtain ⟨vm', X', step⟩ := X.arraycopy hexec hown hlink hnat hstat hini hs hd (fun _ h => by cases h) (fun _ h => by cases h) (fun h => by cases h) (fun h => by cases h) hk0 hk0 hkk0 hkk0 (by decide) h1 h2 h3
    (by rw [i_toInt_nat h1, i_toInt_nat h3, arrV_size]; omega) (by rw [i_toInt_nat h2, i_toInt_nat h3, arrV_size]; omega)
    (fun vm₁ _ i hi => by
      have e : (arrV cI n0 (fun j => .int (f j))).slots.getD (sp.toNatClampNeg + i) .null = .int (f (sp.toNatClampNeg + i)) := by
        rw [Array.getD_eq_getD_getElem?, arrV_read _ _ (by omega)]
        rfl
      rw [e]
      exact ⟨rfl, trivial⟩)
    (g := F0 m pc ls (.int n :: .int dp :: .ref dst :: .int sp :: .ref src :: rest)) rfl hml.symm (rest := rest) rfl hdg hframes (by show 2 * 0 + _ + _ ≤ _; omega)
  have e1 : copied (arrV cI n0 (fun j => .int (f j))) (arrV cI n1 (fun j => .int (g j))) sp dp n = arrV cI n1 (fun j => .int (va_cpy f g sp.toNatClampNeg dp.toNatClampNeg n.toNatClampNeg j)) := va_copied (fun z => .int z) cI cI f g h4
  rw [e1] at X' step
  have hl : dst < T.heap.size := (Array.getElem?_eq_some_iff.mp hd).1
  obtain ⟨t, a1, b1⟩ := kk (T.heap.setIfInBounds dst (arrV cI n1 (fun j => .int (va_cpy f g sp.toNatClampNeg dp.toNatClampNeg n.toNatClampNeg j)))) _ (by simp [Array.getElem?_setIfInBounds, hl]) (by simp) (fun q hq => by simp [Array.getElem?_setIfInBounds, Ne.symm hq])
    (fun q hq => by
      obtain ⟨z, -, hz⟩ := List.mem_map.mp hq
      rw [← hz]) _ (by rfl) X'
  exact ⟨t, step t a1, b1⟩
theorem ok_cpy {i : Nat} (hd : decode D.2.1 pc = .ok (.invokestatic i, 3)) (hw : Cond.methodLink D.1.cls i arraycopyName ∈ gW) (hw2 : Cond.native arraycopyName ∈ gW) (hw3 : Cond.static arraycopyName ∈ gW) (hw4 : Cond.initialized "java/lang/System" ∈ gW) : OkN G l D pc (s_cpy (pc + 3)) := by
  refine OkN.of fun p e R s m args below meth c F ls st h n ls' st' h' hf => ?_
  unfold s_cpy at hf
  split at hf
  · rename_i n0 dp d sp sA st1
    split at hf
    · rename_i hi
      cases hf
      obtain ⟨a1, a2, a3, a4, a5, a6, a7, a8, a9⟩ := okC_of hi.1
      obtain ⟨ns, f, e1, e2, e3, e4⟩ := isA_of a1
      obtain ⟨nd, g, d1, d2, d3, d4⟩ := isA_of a2
      rw [e3] at a8
      rw [d3] at a9
      rw [e4, d4, sa_eq d1]
      refine ⟨⟨rfl, rfl⟩, fun H locs A cells slots Q hA kk => ?_⟩
      have hc := F.2.2.2.2.2.2.2.2.1
      have hgs := wl_get G a3 e2
      rw [e1] at hgs
      have hgd := wl_get G a4 d2
      rw [d1] at hgd
      have c1 : (Int32.ofInt sp).toNatClampNeg = (wr sp).toNat := i_nat sp
      have c2 : (Int32.ofInt dp).toNatClampNeg = (wr dp).toNat := i_nat dp
      have c3 : (Int32.ofInt n0).toNatClampNeg = (wr n0).toNat := i_nat n0
      have hsum := catsum (G := G) st'
      have hl := hi.2
      have hloc := F.2.2.2.2.2.2.2.2.2.2
      have hs1 : H[gAd G sA]? = some (arrV (g_cI G) ns (fun j => .int (Int32.ofInt (f (j : Int))))) := hA.1.2.2.1 (sA - 3) _ hgs
      have hd1 : H[gAd G d]? = some (arrV (g_cI G) nd (fun j => .int (Int32.ofInt (g (j : Int))))) := hA.1.2.2.1 (d - 3) _ hgd
      refine W_cpy (n0 := ns) (n1 := nd) F.1 F.2.1 (by rw [F.2.2.2.1, ← hA.2.2.2]; exact hA.2.2.1.1.symm) F.2.2.2.2.1 (F.2.2.2.2.2.1 _ hw) (F.2.2.2.2.2.1 _ hw2) (F.2.2.2.2.2.1 _ hw3) (F.2.2.2.2.2.1 _ hw4) hs1 hd1 (hc.1.2 0 _ tys_0).1
        (by rw [i_lt0]; omega) (by rw [i_lt0]; omega) (by rw [i_lt0]; omega) (by rw [c1, c3]; omega) (by rw [c2, c3]; omega) F.2.2.2.2.2.2.2.2.2.1 ?_ hd (fun H1 L g1 hz oq hL => ?_)
      · have : nativeFrameWords "java/lang/System" "arraycopy" 5 ≤ 20 := by decide +kernel
        omega
      · refine kk H1 (locs ++ L) A ⟨hA.1.set a4 hz ?_, ⟨by rw [hz]; exact hA.2.1.1, fun q q1 q2 => ?_, fun q hq => ?_⟩, hA.2.2⟩
        · rw [← wl_set G a4 d2]
          refine hA.1.2.2.1.set (wl_D G h) hgd ?_ oq
          show H1[gAd G d]? = some (vp_cell (g_cI G) (nd, .inl (fun j => Int32.ofInt (cpf f g (wr sp) (wr dp) (wr n0) (j : Int)))))
          rw [g1, vp_cell_i]
          congr 2
          funext j
          unfold cpf va_cpy
          rw [c1, c2, c3]
          by_cases hj : (wr dp).toNat ≤ j ∧ j < (wr dp).toNat + (wr n0).toNat
          · rw [if_pos hj, if_pos (by omega)]
            show Value.int (Int32.ofInt (f _)) = Value.int (Int32.ofInt (f _))
            congr 3
            omega
          · rw [if_neg hj, if_neg (by omega)]
        · rw [oq q (fun e => q2 (by rw [e]; exact (wl_D G h).2 (d - 3) _ hgd))]
          exact hA.2.1.2.1 q q1 q2
        · rcases List.mem_append.mp hq with h | h
          · exact hA.2.1.2.2 q h
          · rw [hL q h]; exact (wl_D G _).2 (d - 3) _ hgd
    · cases hf
  · cases hf
theorem ok_gsN {i a : Nat} {C n0 d0 ref host : String} (hd : decode D.2.1 pc = .ok (.getstatic i, 3)) (hw : Cond.fieldLinkNest D.1.cls i ref n0 d0 host ∈ nestW) (hr : C = ref) (hz : ∀ s, CX G s → va_Z C n0 d0 (.ref (gAd G a)) (g_A G) s s.heap) : OkN G l D pc (s_gs a (pc + 3)) := by
  subst hr
  refine OkN.st fun p e R s m args below meth c F ls st h n ls' st' h' hf => ?_
  cases hf
  refine ⟨⟨rfl, rfl⟩, fun H locs A cells slots Q hA kk => ?_⟩
  have hX := F.2.2.2.2.2.2.2.2.1
  exact va_getsN F.1 F.2.1 (hz s hX) hA.2.1 F.2.2.2.2.1 (va_Nw.use rfl (hX.2.2.2.1.1 _ hw)) (fun _ q => q) hd kk
theorem zz_KA : ∀ s, CX G s → va_Z "KnowHouse" "KIND_ABOVE" "[I" (.ref (gAd G 1)) (g_A G) s s.heap := fun s h => h.2.2.1.1
theorem zz_BO : ∀ s, CX G s → va_Z "KnowHouse$Acts" "BODIES" "[I" (.ref (gAd G 2)) (g_A G) s s.heap := fun s h => h.2.2.1.2
end OKX
