/-! A METHOD THAT THE ABSTRACT MACHINE RUNS TO ITS END MEETS ITS CONTRACT ON THE MACHINE -/
section ALL
variable {G : gG} {l : Launch} {pk : Nat → aK} {pl : Nat → Nat} {mt : Nat → dD}
theorem frame_ok {d : Nat} {D : dD} {K : aK} (hcal : ∀ (M : Nat) (as : List aV) (h : aH) (r : Option aV) (h' : aH), cl pk pl d M as h = some (r, h') → (aSz h ≤ aSz h' ∧ aSl h ≤ aSl h') ∧ MetA G l (mt M) (d - 1) as h r h')
    (hK : ∀ (pc : Nat) (i : aIn), lk K pc = some i → OkI G l mt D pc i) {r : Option aV} {hend : aH} : ∀ (f pc : Nat) (ls st : List aV) (h : aH), rn (cl pk pl d) K f (pc, ls, st, h) = some (r, hend) →
    (aSz h ≤ aSz hend ∧ aSl h ≤ aSl hend) ∧ ∀ (p : Program) (e : Env) (R : Room) (s : State) (m : MethodId) (args : Array Value) (below : List Frame) (meth : Method) (c : Code), Fx G D p R s m args meth c → d + 1 ≤ R.frames → 64 * (d + 1) ≤ R.locals →
    ∀ (s0 l0 : Nat), s0 ≤ aSz h → l0 ≤ aSl h → aSz hend - s0 ≤ R.cells → aSl hend - l0 ≤ R.slots → ∀ (H : Heap) (locs : List Loc) (A : Array Slot) (Q : State → Prop), At G D s h ls H locs A →
    (∀ (pc' k : Nat) (ls' st' : List aV) (H' : Heap) (locs' : List Loc) (A' : Array Slot), lk K pc' = some (.inr (.inr k)) → retv k st' = some r → At G D s hend ls' H' locs' A' → W p l e R s m args below meth c H' locs' (aSz hend - s0) (aSl hend - l0) Q (F0 m pc' A' (st'.map (cV G)))) →
    W p l e R s m args below meth c H locs (aSz h - s0) (aSl h - l0) Q (F0 m pc A (st.map (cV G))) := by
  intro f
  induction f with
  | zero => intro pc ls st h hf; cases hf
  | succ f ih =>
    intro pc ls st h hf
    unfold rn at hf
    cases hn : nx (cl pk pl d) K (pc, ls, st, h) with
    | none => rw [hn] at hf; cases hf
    | some o =>
      rw [hn] at hf
      cases hk : lk K pc with
      | none => simp only [nx, hk] at hn; cases hn
      | some i =>
        have hI := hK pc i hk
        rcases i with sm | q | k
        · -- a step
          simp only [nx, hk] at hn
          cases hs : sm ls st h with
          | none => rw [hs] at hn; cases hn
          | some t =>
            rw [hs] at hn
            cases hn
            obtain ⟨n, ls', st', h1⟩ := t
            obtain ⟨m1, m2⟩ := ih n ls' st' h1 hf
            obtain ⟨k1, k2⟩ := hI.1 ls st h n ls' st' h1 hs
            refine ⟨⟨Nat.le_trans k1 m1.1, Nat.le_trans k2 m1.2⟩, ?_⟩
            intro p e R s m args below meth c F hR1 hR2 s0 l0 a1 a2 a3 a4 H locs A Q hA hret
            refine hI.2 p e R s m args below meth c F ls st h n ls' st' h1 hs H locs A (aSz h - s0) (aSl h - l0) Q hA (by omega) (by omega) (fun H' locs' A' hA' => ?_)
            have := m2 p e R s m args below meth c F hR1 hR2 s0 l0 (by omega) (by omega) a3 a4 H' locs' A' Q hA' hret
            rw [show aSz h - s0 + (aSz h1 - aSz h) = aSz h1 - s0 by omega, show aSl h - l0 + (aSl h1 - aSl h) = aSl h1 - l0 by omega]
            exact this
        · -- a call
          simp only [nx, hk] at hn
          split at hn
          · rename_i hc
            obtain ⟨⟨c1, c2⟩, c3⟩ := hc
            cases hq : cl pk pl d q.1 (st.take q.2.1).reverse h with
            | none => rw [hq] at hn; cases hn
            | some t =>
              rw [hq] at hn
              cases hn
              obtain ⟨r1, h1⟩ := t
              have hd0 : 1 ≤ d := by
                cases d with
                | zero => cases hq
                | succ d => omega
              obtain ⟨m1, m2⟩ := ih q.2.2.1 ls (r1.toList ++ st.drop q.2.1) h1 hf
              obtain ⟨⟨k1, k2⟩, hM⟩ := hcal q.1 _ h r1 h1 hq
              refine ⟨⟨Nat.le_trans k1 m1.1, Nat.le_trans k2 m1.2⟩, ?_⟩
              intro p e R s m args below meth c F hR1 hR2 s0 l0 a1 a2 a3 a4 H locs A Q hA hret
              have goOn : ∀ (H' : Heap) (locs' : List Loc), At G D s h1 ls H' locs' A → W p l e R s m args below meth c H' locs' (aSz h - s0 + (aSz h1 - aSz h)) (aSl h - l0 + (aSl h1 - aSl h)) Q (F0 m q.2.2.1 A ((r1.toList ++ st.drop q.2.1).map (cV G))) := by
                intro H' locs' hA'
                have := m2 p e R s m args below meth c F hR1 hR2 s0 l0 (by omega) (by omega) a3 a4 H' locs' A Q hA' hret
                rw [show aSz h - s0 + (aSz h1 - aSz h) = aSz h1 - s0 by omega, show aSl h - l0 + (aSl h1 - aSl h) = aSl h1 - l0 by omega]
                exact this
              have hst : st = (st.take q.2.1).reverse.reverse ++ st.drop q.2.1 := by rw [List.reverse_reverse, List.take_append_drop]
              have hlen : (st.take q.2.1).reverse.length = q.2.1 := by rw [List.length_reverse, List.length_take]; omega
              have hrest : (st.drop q.2.1).length ≤ 4 := by rw [List.length_drop]; exact c2
              rcases hI with ⟨h0, hO⟩ | ⟨na, ci, e1, e2, e3, hO⟩ | ⟨na, ci, e1, e2, hO⟩
              · rw [hst]
                exact hO (d - 1) p e R s m args below meth c F (by omega) (by omega) ls _ _ h r1 h1 hlen hrest hM H locs A _ _ Q hA (by omega) (by omega) goOn
              · generalize (st.take q.2.1).reverse = as at hst hlen hM c3
                rw [e2] at c3
                rcases as with - | ⟨v, as⟩
                · rw [e1] at hlen; cases hlen
                rcases v with x | (- | a) | x | x
                · cases c3
                · cases c3
                · have hO2 : isO h a ci = true := by
                    have h1 : (ci + 1 == 0) = false := rfl
                    have h2 : (ci + 1 == 100) = false := by simp; omega
                    simp only [rcOk, h1, h2] at c3
                    exact c3
                  rw [hst]
                  have : ((Sum.inr (Sum.inl (some a)) :: as : List aV).reverse ++ st.drop q.2.1) = as.reverse ++ aQ (some a) :: st.drop q.2.1 := by
                    rw [List.reverse_cons, List.append_assoc]; rfl
                  rw [this]
                  exact hO (d - 1) p e R s m args below meth c F (by omega) (by omega) ls as _ a h r1 h1 (by rw [List.length_cons] at hlen; omega) hrest (fun _ => hO2) hM H locs A _ _ Q hA (by omega) (by omega) goOn
                · cases c3
                · cases c3
              · generalize (st.take q.2.1).reverse = as at hst hlen hM c3
                rw [e2] at c3
                rcases as with - | ⟨v, as⟩
                · rw [e1] at hlen; cases hlen
                rcases v with x | (- | a) | x | x
                · cases c3
                · cases c3
                · rw [hst]
                  have : ((Sum.inr (Sum.inl (some a)) :: as : List aV).reverse ++ st.drop q.2.1) = as.reverse ++ aQ (some a) :: st.drop q.2.1 := by
                    rw [List.reverse_cons, List.append_assoc]; rfl
                  rw [this]
                  exact hO (d - 1) p e R s m args below meth c F (by omega) (by omega) ls as _ a h r1 h1 (by rw [List.length_cons] at hlen; omega) hrest (fun q => by cases q) hM H locs A _ _ Q hA (by omega) (by omega) goOn
                · cases c3
                · cases c3
          · cases hn
        · -- a return
          simp only [nx, hk] at hn
          cases hr : retv k st with
          | none => rw [hr] at hn; cases hn
          | some r1 =>
            rw [hr] at hn
            cases hn
            cases hf
            refine ⟨⟨Nat.le_refl _, Nat.le_refl _⟩, ?_⟩
            intro p e R s m args below meth c F hR1 hR2 s0 l0 a1 a2 a3 a4 H locs A Q hA hret
            exact hret pc k ls st H locs A hk hr hA
theorem aEnt_cat {v : aV} : aNl v = true ↔ (cV G v).category = 1 := by
  rcases v with x | r | x | x
  · exact ⟨fun _ => rfl, fun _ => rfl⟩
  · exact ⟨fun _ => by cases r <;> rfl, fun _ => rfl⟩
  · exact ⟨fun h => (by cases h), fun h => (by cases h)⟩
  · exact ⟨fun _ => rfl, fun _ => rfl⟩
theorem aEnt_len : ∀ as : List aV, (lg_sl (as.map (cV G))).length = (aEnt as).length := by
  intro as
  induction as with
  | nil => rfl
  | cons v t ih =>
    have e : lg_sl ((v :: t).map (cV G)) = (if (cV G v).category = 2 then [Slot.val (cV G v), .second] else [.val (cV G v)]) ++ lg_sl (t.map (cV G)) := by
      simp [lg_sl]
    rw [e]
    unfold aEnt
    cases hv : aNl v with
    | true =>
      rw [if_neg (by rw [aEnt_cat.mp hv]; decide)]
      simp only [cond_true, List.length_append, List.length_cons, List.length_nil, ih]
      omega
    | false =>
      have : (cV G v).category = 2 := by
        rcases lv_cat (cV G v) with q | q
        · rw [aEnt_cat.mpr q] at hv; cases hv
        · exact q
      rw [if_pos this]
      simp only [cond_false, List.length_append, List.length_cons, List.length_nil, ih]
      omega
theorem aEnt_args : ∀ (as : List aV) (i j : Nat) (v : aV), (aEnt as)[j]? = some v → v ≠ aU → (i + j, cV G v) ∈ lv_args i (as.map (cV G)) := by
  intro as
  induction as with
  | nil => intro i j v h; simp [aEnt] at h
  | cons w t ih =>
    intro i j v h hv
    unfold aEnt at h
    simp only [List.map_cons, lv_args]
    cases hw : aNl w with
    | true =>
      rw [hw] at h
      simp only [cond_true] at h
      rw [if_neg (by rw [aEnt_cat.mp hw]; decide)]
      cases j with
      | zero => cases h; exact List.mem_cons_self
      | succ j =>
        have := ih (i + 1) j v h hv
        rw [show i + 1 + j = i + (j + 1) by omega] at this
        exact List.mem_cons_of_mem _ this
    | false =>
      rw [hw] at h
      simp only [cond_false] at h
      have : (cV G w).category = 2 := by
        rcases lv_cat (cV G w) with q | q
        · rw [aEnt_cat.mpr q] at hw; cases hw
        · exact q
      rw [if_pos this]
      rcases j with - | - | j
      · cases h; exact List.mem_cons_self
      · cases h; exact absurd rfl hv
      · have := ih (i + 2) j v h hv
        rw [show i + 2 + j = i + (j + 2) by omega] at this
        exact List.mem_cons_of_mem _ this
theorem entry_ok (as : List aV) {n : Nat} (h : (aEnt as).length ≤ n) : Lo G (aLs as n) ((lg_sl (as.map (cV G)) ++ List.replicate (n - (lg_sl (as.map (cV G))).length) Slot.unset).toArray) := by
  have h1 := lv_entry (as.map (cV G)) (n := n) (by rw [aEnt_len]; exact h)
  have hlen : (aLs as n).length = n := by unfold aLs; rw [List.length_append, List.length_replicate]; omega
  refine ⟨h1.1.trans hlen.symm, h1.2.1, fun i v hi hv => ?_⟩
  unfold aLs at hi
  by_cases hl : i < (aEnt as).length
  · rw [List.getElem?_append_left hl] at hi
    have := aEnt_args (G := G) as 0 i v hi hv
    rw [Nat.zero_add] at this
    exact h1.2.2 _ this
  · rw [List.getElem?_append_right (by omega), List.getElem?_replicate] at hi
    split at hi
    · cases hi; exact absurd rfl hv
    · cases hi
theorem aLs_len (as : List aV) {n : Nat} (h : (aEnt as).length ≤ n) : (aLs as n).length = n := by unfold aLs; rw [List.length_append, List.length_replicate]; omega
/-- what is known of every method in the table -/
def okM (G : gG) (l : Launch) (pk : Nat → aK) (pl : Nat → Nat) (mt : Nat → dD) (M : Nat) : Prop := plainFor (mt M).1 = true ∧ pl M = (mt M).2.2.1 ∧ ∀ (pc : Nat) (i : aIn), lk (pk M) pc = some i → OkI G l mt (mt M) pc i
theorem met_ofW {y : MethodName} {ws ws' : List Cond} {rm : Room} {Pc : Array Value → State → Prop} {Qc : Array Value → State → Outcome → State → Prop} {mc ms : Nat} {free : Addr → Prop} {cc : ByteArray} {maxL : Nat} {ret : Option FieldType}
    (hy : plainFor y = true) (hw : ws = Cond.code y cc maxL ret :: ws')
    (body : ∀ p e s m args below meth c s₁, BodyLoose p l y (headSpec ws rm) cc maxL ret e s m args below meth c s₁ → c.maxLocals = maxL → Pc args s →
      W p l e (headSpec ws rm).room s m args below meth c s.heap [] 0 0 (MQ below Qc args s mc ms free) (entryFrame m args maxL)) : Met l y ws rm Pc Qc mc ms free := by
  refine MetFree.of_bodySF (code := cc) (maxLocals := maxL) (ret := ret) hy ?_ ?_
  · intro args s m h hn
    obtain ⟨meth, c, h1, h2, h3, h4, h5, h6, -, -⟩ := Cond.code_spec hn (atoms_spec (ws := ws) h _ (by rw [hw]; exact List.mem_cons_self))
    exact ⟨meth, c, h1, h2, h3, h4, h5, h6⟩
  · intro p e s m args below meth c s₁ B hml hP _
    have hh0 : s₁.heap = s.heap := by rw [B.state]; rfl
    obtain ⟨t, a1, o, b1, b2, b3⟩ := body p e s m args below meth c s₁ B hml hP s₁ hh0 (Stand.of_body B)
    exact ⟨t, o, a1, b1, b2, ⟨b3.1, b3.2⟩⟩
theorem cl_ok (hall : ∀ M, pk M 0 ≠ none → okM G l pk pl mt M) : ∀ (d M : Nat) (as : List aV) (h : aH) (r : Option aV) (h' : aH), cl pk pl d M as h = some (r, h') → (aSz h ≤ aSz h' ∧ aSl h ≤ aSl h') ∧ MetA G l (mt M) (d - 1) as h r h' := by
  intro d
  induction d with
  | zero => intro M as h r h' e; cases e
  | succ d ih =>
    intro M as h r h' e
    unfold cl at e
    cases hle : Nat.ble (aEnt as).length (pl M) with
    | false => rw [hle] at e; cases e
    | true =>
      rw [hle] at e
      simp only [cond_true] at e
      have hlen := Nat.le_of_ble_eq_true hle
      obtain ⟨f, hf⟩ := (ex_iff _).mp e
      have hne : pk M 0 ≠ none := by
        intro q
        cases f with
        | zero => cases hf
        | succ f =>
          unfold rn at hf
          simp only [nx, q, lk] at hf
          cases hf
      obtain ⟨o1, o2, o3⟩ := hall M hne
      have hfr := frame_ok ih o3 f 0 (aLs as (pl M)) [] h hf
      refine ⟨hfr.1, ?_⟩
      rw [Nat.add_sub_cancel]
      unfold MetA
      refine met_ofW (cc := (mt M).2.1) (maxL := (mt M).2.2.1) (ret := (mt M).2.2.2) o1 rfl ?_
      intro p e s m args below meth c s₁ B hml hv
      obtain ⟨rfl, hR, hX⟩ := hv
      have hts := atoms_spec (ws := dW (mt M)) B.pre
      have F : Fx G (mt M) p (rmA d (aSz h' - aSz h) (aSl h' - aSl h)) s m (as.map (cV G)).toArray meth c := by
        refine ⟨B.exec, B.bytes, B.returns, hml, findClass_of_methodNamed B.named, fun w hw => hts w (List.mem_cons_of_mem _ hw), B.notSynchronized, fun q => ?_, hX, Nat.succ_le_succ (Nat.zero_le d), ?_⟩
        · rw [← q]; exact (name_of_methodNamed B.named B.method).1
        · show 64 ≤ 64 * (d + 1)
          omega
      have hlo : Lo G (aLs as (pl M)) ((lg_sl (as.map (cV G)) ++ List.replicate ((mt M).2.2.1 - (lg_sl (as.map (cV G))).length) Slot.unset).toArray) := by
        have := entry_ok (G := G) as hlen
        rw [o2] at this ⊢
        exact this
      have key := hfr.2 p e (rmA d (aSz h' - aSz h) (aSl h' - aSl h)) s m (as.map (cV G)).toArray below meth c F (Nat.le_refl _) (Nat.le_refl _) (aSz h) (aSl h) (Nat.le_refl _) (Nat.le_refl _) (Nat.le_refl _) (Nat.le_refl _) s.heap [] _ (MQ below (QcA G r h') (as.map (cV G)).toArray s (aSz h' - aSz h) (aSl h' - aSl h) (g_A G))
        ⟨hR, va_S.rf, hlo, by rw [aLs_len as hlen]; exact o2⟩ (fun pc' k ls' st' H' locs' A' hk hr hA => ret_ok (o3 pc' _ hk) F hr hA)
      rw [lg_entry_eq]
      rw [Nat.sub_self, Nat.sub_self] at key
      exact key
end ALL
