/-! switches, returns, calls, and the soundness of a whole method -/
/-- the locals with which a method begins: a long takes two -/
def aEnt : List aV → List aV
  | [] => []
  | v :: vs => bif aNl v then v :: aEnt vs else v :: aU :: aEnt vs
def aLs (as : List aV) (n : Nat) : List aV := aEnt as ++ List.replicate (n - (aEnt as).length) aU
section OKZ
variable {G : gG} {l : Launch} {D : dD} {pc : Nat}
/-- the targets of a tableswitch, from its lowest key on -/
def tsw (pc : Nat) (lo : Int) : List Int → List (Int × Nat)
  | [] => []
  | o :: os => (lo, ((pc : Int) + o).toNat) :: tsw pc (lo + 1) os
theorem tsw_in {pc d : Nat} {x : Int} : ∀ (os : List Int) (lo : Int) (k : Nat) (o : Int), os[k]? = some o → x = lo + k → swt (tsw pc lo os) d x = ((pc : Int) + o).toNat := by
  intro os
  induction os with
  | nil => intro lo k o h; cases h
  | cons a os ih =>
    intro lo k o h hx
    cases k with
    | zero =>
      cases h
      unfold tsw swt
      rw [if_pos (by omega)]
    | succ k =>
      unfold tsw swt
      rw [if_neg (by omega)]
      exact ih (lo + 1) k o h (by omega)
theorem tsw_out {pc d : Nat} {x : Int} : ∀ (os : List Int) (lo : Int), x < lo ∨ lo + os.length ≤ x → swt (tsw pc lo os) d x = d := by
  intro os
  induction os with
  | nil => intro lo h; rfl
  | cons a os ih =>
    intro lo h
    simp only [List.length_cons] at h
    unfold tsw swt
    rw [if_neg (by omega)]
    exact ih (lo + 1) (by omega)
theorem sw_of {ps : List (Int × Nat)} {d : Nat} {ls st : List aV} {h : aH} {q : Nat × List aV × List aV × aH} (hf : s_sw ps d ls st h = some q) : ∃ x st1, st = aI x :: st1 ∧ q = (swt ps d (wr x), ls, st1, h) := by
  unfold s_sw at hf
  split at hf
  · rename_i x st1
    exact ⟨x, st1, rfl, (Option.some.inj hf).symm⟩
  · cases hf
theorem ok_tsw {dflt lo hi : Int} {offs : Array Int} {len d : Nat} {ps : List (Int × Nat)} (hd : decode D.2.1 pc = .ok (.tableswitch dflt lo hi offs, len)) (hdf : (pc : Int) + dflt = (d : Int)) (hps : ps = tsw pc lo offs.toList) (hn : hi = lo + offs.toList.length - 1) (hpos : ∀ o ∈ offs.toList, 0 ≤ (pc : Int) + o) : OkN G l D pc (s_sw ps d) := by
  subst hps
  refine OkN.st fun p e R s m args below meth c F ls st h n ls' st' h' hf => ?_
  obtain ⟨x, st1, rfl, e⟩ := sw_of hf
  cases e
  refine ⟨⟨rfl, rfl⟩, fun H locs A cells slots Q hA kk => ?_⟩
  by_cases hx : wr x < lo ∨ hi < wr x
  · rw [tsw_out offs.toList lo (by omega)] at kk
    exact lv_tableOut F.1 F.2.1 hd (by rw [i_wr]; exact hx) hdf kk
  · have hk : (wr x - lo).toNat < offs.toList.length := by omega
    have ho : offs.toList[(wr x - lo).toNat]? = some (offs.toList[(wr x - lo).toNat]) := List.getElem?_eq_getElem hk
    rw [tsw_in offs.toList lo (wr x - lo).toNat _ ho (by omega)] at kk
    refine lv_tableIn F.1 F.2.1 hd (by rw [i_wr]; omega) (by rw [i_wr]; omega) (off := offs.toList[(wr x - lo).toNat]) ?_ ?_ kk
    · rw [i_wr, ← Array.getElem?_toList]
      exact ho
    · have := hpos _ (List.getElem_mem hk)
      omega
theorem lsw_ok {pc d : Nat} {dflt : Int} (hdf : (pc : Int) + dflt = (d : Int)) (x : Int) : ∀ (ps : List (Int × Int)), (∀ q ∈ ps, 0 ≤ (pc : Int) + q.2) → (pc : Int) + Op.lookupswitch.offset ps dflt x = ((swt (ps.map fun q => (q.1, ((pc : Int) + q.2).toNat)) d x : Nat) : Int) := by
  intro ps
  induction ps with
  | nil => intro _; exact hdf
  | cons a t ih =>
    intro h
    have h1 := h a List.mem_cons_self
    have h2 := ih (fun q hq => h q (List.mem_cons_of_mem _ hq))
    obtain ⟨k, o⟩ := a
    simp only [List.map_cons]
    unfold swt
    by_cases q : x = k
    · rw [if_pos q]
      simp only [Op.lookupswitch.offset, q]
      simp only [if_true]
      dsimp only at h1
      omega
    · rw [if_neg q]
      simp only [Op.lookupswitch.offset]
      rw [if_neg (fun e => q e.symm)]
      exact h2
theorem ok_lsw {dflt : Int} {pa : Array (Int × Int)} {len d : Nat} {ps : List (Int × Nat)} (hd : decode D.2.1 pc = .ok (.lookupswitch dflt pa, len)) (hp : (pa.toList.zip (pa.toList.drop 1)).all (fun (a, next) => a.1 < next.1) = true) (hdf : (pc : Int) + dflt = (d : Int)) (hps : ps = pa.toList.map fun q => (q.1, ((pc : Int) + q.2).toNat)) (hpos : ∀ q ∈ pa.toList, 0 ≤ (pc : Int) + q.2) : OkN G l D pc (s_sw ps d) := by
  subst hps
  refine OkN.st fun p e R s m args below meth c F ls st h n ls' st' h' hf => ?_
  obtain ⟨x, st1, rfl, e⟩ := sw_of hf
  cases e
  refine ⟨⟨rfl, rfl⟩, fun H locs A cells slots Q hA kk => ?_⟩
  exact lv_lookup F.1 F.2.1 hd hp rfl (by rw [i_wr]; exact lsw_ok hdf (wr x) _ hpos) kk
/-- a method's contract at one run: from these arguments and this heap it answers r, and leaves h' -/
def PcA (G : gG) (as : List aV) (h : aH) : Array Value → State → Prop := fun v U => v = (as.map (cV G)).toArray ∧ Rep G h U.heap ∧ CX G U
def QcA (G : gG) (r : Option aV) (h' : aH) : Array Value → State → Outcome → State → Prop := fun _ st o t => o = .returned (r.map (cV G)) ∧ Rep G h' t.heap ∧ va_F (g_A G) st t
theorem PcA.blind (G : gG) (as : List aV) (h : aH) : FrameBlind (PcA G as h) := fun a U g mk hp => ⟨hp.1, hp.2.1, CX.same (u := U) (U := U.calling g mk a) rfl rfl hp.2.2⟩
def rmA (d mc ms : Nat) : Room := { frames := d + 1, cells := mc, slots := ms, locals := 64 * (d + 1) }
def MetA (G : gG) (l : Launch) (D : dD) (d : Nat) (as : List aV) (h : aH) (r : Option aV) (h' : aH) : Prop :=
  Met l D.1 (dW D) (rmA d (aSz h' - aSz h) (aSl h' - aSl h)) (PcA G as h) (QcA G r h') (aSz h' - aSz h) (aSl h' - aSl h) (g_A G)
/-- a call: what its run gives goes on -/
theorem W_callA {p : Program} {e : Env} {R : Room} {s : State} {m : MethodId} {args : Array Value} {below : List Frame} {meth : Method} {c : Code} {H : Heap} {locs : List Loc} {cells slots mc ms : Nat} {Q : State → Prop} {A : Array Slot} {st0 rest : List Value} {as : Array Value} {r : Option aV} {h' : aH}
    (hr : va_Run p l e R s m args below meth c H locs cells slots mc ms (F0 m pc A st0) rest (QcA G r h' as) (g_A G)) (hS : va_S (g_A G) s.heap H locs)
    (kk : ∀ (H1 : Heap) (locs1 : List Loc), Rep G h' H1 → va_S (g_A G) s.heap H1 locs1 → W p l e R s m args below meth c H1 locs1 (cells + mc) (slots + ms) Q (F0 m (pc + 3) A ((r.map (cV G)).toList ++ rest))) : W p l e R s m args below meth c H locs cells slots Q (F0 m pc A st0) := by
  intro T hT X
  obtain ⟨v, st₀, t, T', L, h0, X', hL, e1, e2, ⟨hv, hR, hz, hk⟩, st⟩ := hr T hT X
  cases hv
  rw [h0] at hz hk
  obtain ⟨t2, a1, b1⟩ := kk T'.heap (locs ++ L) (by rw [e1]; exact hR)
    ⟨Nat.le_trans hS.1 (by rw [e1]; exact hz), fun q h1 h2 => by rw [e1, hk q (Nat.lt_of_lt_of_le h1 hS.1) h2]; exact hS.2.1 q h1 h2, fun q hq => by
      rcases List.mem_append.mp hq with h | h
      · exact hS.2.2 q h
      · exact hL q h⟩ T' rfl X'
  exact ⟨t2, st t2 a1, b1⟩
/-- a call of method D2 (na values go, of kind 'static' or not), as this instruction makes it -/
def OkC (G : gG) (l : Launch) (D D2 : dD) (pc na n : Nat) : Prop :=
  ∀ (d : Nat) (p : Program) (e : Env) (R : Room) (s : State) (m : MethodId) (args : Array Value) (below : List Frame) (meth : Method) (c : Code), Fx G D p R s m args meth c → d + 2 ≤ R.frames → 64 * (d + 2) ≤ R.locals →
  ∀ (ls as rest : List aV) (h : aH) (r : Option aV) (h' : aH), as.length = na → rest.length ≤ 4 → MetA G l D2 d as h r h' →
  ∀ (H : Heap) (locs : List Loc) (A : Array Slot) (cells slots : Nat) (Q : State → Prop), At G D s h ls H locs A → cells + (aSz h' - aSz h) ≤ R.cells → slots + (aSl h' - aSl h) ≤ R.slots →
  (∀ (H' : Heap) (locs' : List Loc), At G D s h' ls H' locs' A → W p l e R s m args below meth c H' locs' (cells + (aSz h' - aSz h)) (slots + (aSl h' - aSl h)) Q (F0 m n A ((r.toList ++ rest).map (cV G)))) →
  W p l e R s m args below meth c H locs cells slots Q (F0 m pc A ((as.reverse ++ rest).map (cV G)))
theorem gW_good : ∀ w ∈ gW, goodWord w = true := fun w hw => (List.mem_filter.mp hw).2
theorem goodIn_D {D2 : dD} (h : Cond.code D2.1 D2.2.1 D2.2.2.1 D2.2.2.2 ∈ gW) : GoodIn gW (dW D2) := by
  intro w hw
  have hm : w ∈ gW := by
    rcases List.mem_cons.mp hw with rfl | h2
    · exact h
    · exact h2
  exact ⟨hm, good_of_word (gW_good w hm)⟩
theorem room_ok {D2 : dD} {d mc ms : Nat} {R : Room} (hm : D2.2.2.1 ≤ 40) (h1 : d + 2 ≤ R.frames) (h2 : 64 * (d + 2) ≤ R.locals) : (rmA d mc ms).frames + 1 ≤ R.frames ∧ 8 + (D2.2.2.1 + 11) + (rmA d mc ms).locals ≤ R.locals := by
  refine ⟨h1, ?_⟩
  show 8 + (D2.2.2.1 + 11) + 64 * (d + 1) ≤ R.locals
  omega
/-- what is checked of a call's method: its names' shape, its parameters -/
def okP (D2 : dD) (n : Nat) : Prop := (D2.1.cls ≠ "java/lang/invoke/MethodHandle" ∧ D2.1.cls ≠ "java/lang/invoke/VarHandle" ∧ (parseMethodDescriptor D2.1.desc).map (fun d => d.parameters.length) = some n) ∧ D2.2.2.1 ≤ 40
theorem PcA_pre {D2 : dD} {s : State} {H : Heap} {locs : List Loc} {as : List aV} {h : aH} (hc : CX G s) (hR : Rep G h H) (hS : va_S (g_A G) s.heap H locs) : ∀ U : State, U.heap = H → s.WarmedH U.vm → PcA G as h (as.map (cV G)).toArray U :=
  fun U hU hW => ⟨rfl, by rw [hU]; exact hR, hc.warm hW hU hS⟩
theorem ok_callS {D2 : dD} {i na : Nat} (hp : okP D2 na) (hd : decode D.2.1 pc = .ok (.invokestatic i, 3)) (hw : Cond.methodLink D.1.cls i D2.1 ∈ gW) (hw2 : Cond.static D2.1 ∈ gW) (hw3 : Cond.initialized D2.1.cls ∈ gW) (hw4 : Cond.code D2.1 D2.2.1 D2.2.2.1 D2.2.2.2 ∈ gW) : OkC G l D D2 pc na (pc + 3) := by
  intro d p e R s m args below meth c F hR1 hR2 ls as rest h r h' hna hrest hM H locs A cells slots Q hA hc hs kk
  have hts := F.2.2.2.2.2.1
  have hX := F.2.2.2.2.2.2.2.2.1
  have hrm := room_ok (mc := aSz h' - aSz h) (ms := aSl h' - aSl h) hp.2 hR1 hR2
  have hcb := callB_of (R := R) (s := s) (args := args) (own := D.1.cls) (index := i) (y := D2.1) (bytes := D2.2.1) (maxL := D2.2.2.1) (ret := D2.2.2.2) (rm := rmA d (aSz h' - aSz h) (aSl h' - aSl h)) na hts (goodIn_D hw4) rfl rfl rfl (hts _ hw3) (hts _ hw) hp.1 hrm
  have hrun := va_runS (l := l) (e := e) (below := below) (meth := meth) (H := H) (locs := locs) (cells := cells) (slots := slots) (As := as.map (cV G)) (rest := rest.map (cV G)) (g := F0 m pc A ((as.reverse ++ rest).map (cV G))) (nL := D.2.2.1) ⟨F.1, F.2.1, F.2.2.2.1, F.2.2.2.2.1, hts⟩ hM ⟨hcb, hts _ hw2⟩ ⟨PcA.blind G as h, PcA_pre (D2 := D2) hX hA.1 hA.2.1⟩ rfl (by rw [List.length_map]; exact hna) (by rw [← hA.2.2.2]; exact hA.2.2.1.1) (by rw [List.map_append, List.map_reverse]) (lv_room (by have := catsum (G := G) rest; omega)) hd ⟨hc, hs⟩
  refine W_callA hrun hA.2.1 fun H1 locs1 hR hS => ?_
  have := kk H1 locs1 ⟨hR, hS, hA.2.2⟩
  rw [List.map_append] at this
  cases r <;> exact this
theorem ok_callSN {D2 : dD} {i na : Nat} {host : String} (hp : okP D2 na) (hd : decode D.2.1 pc = .ok (.invokestatic i, 3)) (hw : Cond.methodLinkNest D.1.cls i D2.1 host ∈ nestW) (hw2 : Cond.static D2.1 ∈ gW) (hw3 : Cond.initialized D2.1.cls ∈ gW) (hw4 : Cond.code D2.1 D2.2.1 D2.2.2.1 D2.2.2.2 ∈ gW) : OkC G l D D2 pc na (pc + 3) := by
  intro d p e R s m args below meth c F hR1 hR2 ls as rest h r h' hna hrest hM H locs A cells slots Q hA hc hs kk
  have hts := F.2.2.2.2.2.1
  have hX := F.2.2.2.2.2.2.2.2.1
  have hrm := room_ok (mc := aSz h' - aSz h) (ms := aSl h' - aSl h) hp.2 hR1 hR2
  have hcb := va_cnB (R := R) (s := s) (args := args) (own := D.1.cls) (host := host) (index := i) (y := D2.1) (bytes := D2.2.1) (maxL := D2.2.2.1) (ret := D2.2.2.2) (rm := rmA d (aSz h' - aSz h) (aSl h' - aSl h)) na hts (goodIn_D hw4) rfl rfl rfl (hX.2.2.2.1.1 _ hw) (hts _ hw3) hp.1 hrm
  have hrun := va_runSN (l := l) (e := e) (below := below) (meth := meth) (H := H) (locs := locs) (cells := cells) (slots := slots) (As := as.map (cV G)) (rest := rest.map (cV G)) (g := F0 m pc A ((as.reverse ++ rest).map (cV G))) (nL := D.2.2.1) ⟨F.1, F.2.1, F.2.2.2.1, F.2.2.2.2.1, hts⟩ hM ⟨hcb, hts _ hw2, trivial⟩ ⟨PcA.blind G as h, PcA_pre (D2 := D2) hX hA.1 hA.2.1⟩ rfl (by rw [List.length_map]; exact hna) (by rw [← hA.2.2.2]; exact hA.2.2.1.1) (by rw [List.map_append, List.map_reverse]) (lv_room (by have := catsum (G := G) rest; omega)) hd ⟨hc, hs⟩
  refine W_callA hrun hA.2.1 fun H1 locs1 hR hS => ?_
  have := kk H1 locs1 ⟨hR, hS, hA.2.2⟩
  rw [List.map_append] at this
  cases r <;> exact this
/-- calls whose first value is an object of class ci -/
def OkCr (G : gG) (l : Launch) (D D2 : dD) (pc na n ci : Nat) (chk : Bool) : Prop :=
  ∀ (d : Nat) (p : Program) (e : Env) (R : Room) (s : State) (m : MethodId) (args : Array Value) (below : List Frame) (meth : Method) (c : Code), Fx G D p R s m args meth c → d + 2 ≤ R.frames → 64 * (d + 2) ≤ R.locals →
  ∀ (ls as rest : List aV) (a : Nat) (h : aH) (r : Option aV) (h' : aH), as.length = na → rest.length ≤ 4 → (chk = true → isO h a ci = true) → MetA G l D2 d (aQ (some a) :: as) h r h' →
  ∀ (H : Heap) (locs : List Loc) (A : Array Slot) (cells slots : Nat) (Q : State → Prop), At G D s h ls H locs A → cells + (aSz h' - aSz h) ≤ R.cells → slots + (aSl h' - aSl h) ≤ R.slots →
  (∀ (H' : Heap) (locs' : List Loc), At G D s h' ls H' locs' A → W p l e R s m args below meth c H' locs' (cells + (aSz h' - aSz h)) (slots + (aSl h' - aSl h)) Q (F0 m n A ((r.toList ++ rest).map (cV G)))) →
  W p l e R s m args below meth c H locs cells slots Q (F0 m pc A ((as.reverse ++ aQ (some a) :: rest).map (cV G)))
theorem ok_callV {D2 : dD} {i na ci : Nat} {C : String} {T : u_T} {N : Nat} (hci : vwCl[ci]? = some (C, T, N)) (hC : D2.1.cls = C) (hp : okP D2 na) (hd : decode D.2.1 pc = .ok (.invokevirtual i, 3)) (hw : Cond.methodLink D.1.cls i D2.1 ∈ gW) (hw2 : Cond.instanceMethod D2.1 ∈ gW) (hw5 : Cond.selects D2.1.cls D2.1 D2.1 ∈ gW) (hw3 : Cond.initialized D2.1.cls ∈ gW) (hw4 : Cond.code D2.1 D2.2.1 D2.2.2.1 D2.2.2.2 ∈ gW) : OkCr G l D D2 pc na (pc + 3) ci true := by
  intro d p e R s m args below meth c F hR1 hR2 ls as rest a h r h' hna hrest ho hM H locs A cells slots Q hA hc hs kk
  have ho := ho rfl
  have hts := F.2.2.2.2.2.1
  have hX := F.2.2.2.2.2.2.2.2.1
  have hrm := room_ok (mc := aSz h' - aSz h) (ms := aSl h' - aSl h) hp.2 hR1 hR2
  have hcb := callB_of (R := R) (s := s) (args := args) (own := D.1.cls) (index := i) (y := D2.1) (bytes := D2.2.1) (maxL := D2.2.2.1) (ret := D2.2.2.2) (rm := rmA d (aSz h' - aSz h) (aSl h' - aSl h)) na hts (goodIn_D hw4) rfl rfl rfl (hts _ hw3) (hts _ hw) hp.1 hrm
  obtain ⟨fs, e1, e2, e3, e4⟩ := isO_of ho
  have hget := wl_get G e2 e3
  rw [e1] at hget
  have hrecv := va_recv (q0 := a - 3) (ci := ci) hX.1 hA.1.2.2.1 hci hget
  rw [← hC] at hrecv
  have hrun := va_runV (l := l) (e := e) (below := below) (meth := meth) (H := H) (locs := locs) (cells := cells) (slots := slots) (C := D2.1.cls) (b := gAd G a) (As := as.map (cV G)) (rest := rest.map (cV G)) (g := F0 m pc A ((as.reverse ++ aQ (some a) :: rest).map (cV G))) (nL := D.2.2.1) ⟨F.1, F.2.1, F.2.2.2.1, F.2.2.2.2.1, hts⟩ hM ⟨hcb, hts _ hw2, hts _ hw5⟩ ⟨PcA.blind G _ h, hrecv, PcA_pre (D2 := D2) hX hA.1 hA.2.1⟩ rfl (by rw [List.length_map]; exact hna) (by rw [← hA.2.2.2]; exact hA.2.2.1.1) (by rw [List.map_append, List.map_reverse, List.map_cons]; rfl) (lv_room (by have := catsum (G := G) rest; omega)) hd ⟨hc, hs⟩
  refine W_callA hrun hA.2.1 fun H1 locs1 hR hS => ?_
  have := kk H1 locs1 ⟨hR, hS, hA.2.2⟩
  rw [List.map_append] at this
  cases r <;> exact this
theorem ok_callI {D2 : dD} {i na ci : Nat} (hret : D2.2.2.2 = none) (hp : okP D2 na) (hd : decode D.2.1 pc = .ok (.invokespecial i, 3)) (hini : D2.1.name = "<init>") (hw : Cond.methodLink D.1.cls i D2.1 ∈ gW) (hw2 : Cond.instanceMethod D2.1 ∈ gW) (hw3 : Cond.initialized D2.1.cls ∈ gW) (hw4 : Cond.code D2.1 D2.2.1 D2.2.2.1 D2.2.2.2 ∈ gW) : OkCr G l D D2 pc na (pc + 3) ci false := by
  intro d p e R s m args below meth c F hR1 hR2 ls as rest a h r h' hna hrest ho hM H locs A cells slots Q hA hc hs kk
  have hts := F.2.2.2.2.2.1
  have hX := F.2.2.2.2.2.2.2.2.1
  have hrm := room_ok (mc := aSz h' - aSz h) (ms := aSl h' - aSl h) hp.2 hR1 hR2
  obtain ⟨y2, by2, ml2, rt2⟩ := D2
  dsimp only at hret
  subst hret
  have hcb := callB_of (R := R) (s := s) (args := args) (own := D.1.cls) (index := i) (y := y2) (bytes := by2) (maxL := ml2) (ret := none) (rm := rmA d (aSz h' - aSz h) (aSl h' - aSl h)) na hts (goodIn_D hw4) rfl rfl rfl (hts _ hw3) (hts _ hw) hp.1 hrm
  have hrun := va_runI (l := l) (e := e) (below := below) (meth := meth) (H := H) (locs := locs) (cells := cells) (slots := slots) (b := gAd G a) (As := as.map (cV G)) (rest := rest.map (cV G)) (g := F0 m pc A ((as.reverse ++ aQ (some a) :: rest).map (cV G))) (nL := D.2.2.1) ⟨F.1, F.2.1, F.2.2.2.1, F.2.2.2.2.1, hts⟩ hM ⟨hcb, hini, hts _ hw2⟩ ⟨PcA.blind G _ h, PcA_pre (D2 := (y2, by2, ml2, none)) hX hA.1 hA.2.1⟩ rfl (by rw [List.length_map]; exact hna) (by rw [← hA.2.2.2]; exact hA.2.2.1.1) (by rw [List.map_append, List.map_reverse, List.map_cons]; rfl) (lv_room (by have := catsum (G := G) rest; omega)) hd ⟨hc, hs⟩
  refine W_callA hrun hA.2.1 fun H1 locs1 hR hS => ?_
  have := kk H1 locs1 ⟨hR, hS, hA.2.2⟩
  rw [List.map_append] at this
  cases r <;> exact this
theorem ok_callIN {D2 : dD} {i na ci : Nat} {host : String} (hret : D2.2.2.2 = none) (hp : okP D2 na) (hd : decode D.2.1 pc = .ok (.invokespecial i, 3)) (hini : D2.1.name = "<init>") (hw : Cond.methodLinkNest D.1.cls i D2.1 host ∈ nestW) (hw2 : Cond.instanceMethod D2.1 ∈ gW) (hw3 : Cond.initialized D2.1.cls ∈ gW) (hw4 : Cond.code D2.1 D2.2.1 D2.2.2.1 D2.2.2.2 ∈ gW) : OkCr G l D D2 pc na (pc + 3) ci false := by
  intro d p e R s m args below meth c F hR1 hR2 ls as rest a h r h' hna hrest ho hM H locs A cells slots Q hA hc hs kk
  have hts := F.2.2.2.2.2.1
  have hX := F.2.2.2.2.2.2.2.2.1
  have hrm := room_ok (mc := aSz h' - aSz h) (ms := aSl h' - aSl h) hp.2 hR1 hR2
  obtain ⟨y2, by2, ml2, rt2⟩ := D2
  dsimp only at hret
  subst hret
  have hcb := va_cnB (R := R) (s := s) (args := args) (own := D.1.cls) (host := host) (index := i) (y := y2) (bytes := by2) (maxL := ml2) (ret := none) (rm := rmA d (aSz h' - aSz h) (aSl h' - aSl h)) na hts (goodIn_D hw4) rfl rfl rfl (hX.2.2.2.1.1 _ hw) (hts _ hw3) hp.1 hrm
  have hrun := va_runIN (l := l) (e := e) (below := below) (meth := meth) (H := H) (locs := locs) (cells := cells) (slots := slots) (b := gAd G a) (As := as.map (cV G)) (rest := rest.map (cV G)) (g := F0 m pc A ((as.reverse ++ aQ (some a) :: rest).map (cV G))) (nL := D.2.2.1) ⟨F.1, F.2.1, F.2.2.2.1, F.2.2.2.2.1, hts⟩ hM ⟨hcb, hini, hts _ hw2⟩ ⟨PcA.blind G _ h, PcA_pre (D2 := (y2, by2, ml2, none)) hX hA.1 hA.2.1⟩ rfl (by rw [List.length_map]; exact hna) (by rw [← hA.2.2.2]; exact hA.2.2.1.1) (by rw [List.map_append, List.map_reverse, List.map_cons]; rfl) (lv_room (by have := catsum (G := G) rest; omega)) hd ⟨hc, hs⟩
  refine W_callA hrun hA.2.1 fun H1 locs1 hR hS => ?_
  have := kk H1 locs1 ⟨hR, hS, hA.2.2⟩
  rw [List.map_append] at this
  cases r <;> exact this
/-- a method's return -/
def OkR (D : dD) (pc k : Nat) : Prop := (k = 0 ∧ decode D.2.1 pc = .ok (.return_, 1) ∧ D.2.2.2 = none) ∨ (k = 1 ∧ decode D.2.1 pc = .ok (.ireturn, 1) ∧ D.2.2.2 = some .int) ∨ (k = 2 ∧ decode D.2.1 pc = .ok (.ireturn, 1) ∧ D.2.2.2 = some .boolean) ∨
  (k = 3 ∧ decode D.2.1 pc = .ok (.areturn, 1) ∧ ∃ ty, D.2.2.2 = some ty ∧ ((∃ n, ty = .object n) ∨ ∃ t, ty = .array t))
theorem ret_ok {k : Nat} (hk : OkR D pc k) {p : Program} {e : Env} {R : Room} {s : State} {m : MethodId} {args : Array Value} {below : List Frame} {meth : Method} {c : Code} (F : Fx G D p R s m args meth c) {h : aH} {ls st : List aV} {r : Option aV} {H : Heap} {locs : List Loc} {A : Array Slot} {cells slots : Nat}
    (hr : retv k st = some r) (hA : At G D s h ls H locs A) : W p l e R s m args below meth c H locs cells slots (MQ below (QcA G r h) args s cells slots (g_A G)) (F0 m pc A (st.map (cV G))) := by
  have hq : ∀ (o : Outcome), o = .returned (r.map (cV G)) → ∀ t : State, t.heap = H → s.WarmedH t.vm → QcA G r h args s o t := fun o ho t ht hW => ⟨ho, by rw [ht]; exact hA.1, hA.2.1.F ht⟩
  have hlk := F.2.2.2.2.2.2.1
  rcases hk with ⟨rfl, hd, ht⟩ | ⟨rfl, hd, ht⟩ | ⟨rfl, hd, ht⟩ | ⟨rfl, hd, ty, ht, hty⟩
  · rcases st with - | ⟨v, - | ⟨w, st⟩⟩
    · cases hr
      exact W.vret F.1 F.2.1 (F.2.2.1.trans ht) (hq _ rfl) hA.2.1.2.2 hd hlk
    · rcases v with x | x | x | x <;> simp [retv] at hr
    · rcases v with x | x | x | x <;> simp [retv] at hr
  · rcases st with - | ⟨v, - | ⟨w, st⟩⟩
    · simp [retv] at hr
    · rcases v with x | x | x | x
      · cases hr
        exact W.iret F.1 F.2.1 (F.2.2.1.trans ht) (hq _ rfl) hA.2.1.2.2 hd hlk
      · simp [retv] at hr
      · simp [retv] at hr
      · simp [retv] at hr
    · rcases v with x | x | x | x <;> simp [retv] at hr
  · rcases st with - | ⟨v, - | ⟨w, st⟩⟩
    · simp [retv] at hr
    · rcases v with x | x | x | x
      · have hx : x = 0 ∨ x = 1 := by
          by_cases q : x = 0 ∨ x = 1
          · exact q
          · simp only [not_or] at q
            have q1 : (x == 0) = false := by simpa using q.1
            have q2 : (x == 1) = false := by simpa using q.2
            simp only [retv, q1, q2] at hr
            cases hr
        rcases hx with rfl | rfl
        · cases hr
          exact W.zret F.1 F.2.1 (F.2.2.1.trans ht) rfl (hq _ rfl) hA.2.1.2.2 hd hlk
        · cases hr
          exact W.zret F.1 F.2.1 (F.2.2.1.trans ht) rfl (hq _ rfl) hA.2.1.2.2 hd hlk
      · simp [retv] at hr
      · simp [retv] at hr
      · simp [retv] at hr
    · rcases v with x | x | x | x <;> simp [retv] at hr
  · rcases st with - | ⟨v, - | ⟨w, st⟩⟩
    · simp [retv] at hr
    · rcases v with x | x | x | x
      · simp [retv] at hr
      · cases hr
        refine W.aret F.1 F.2.1 (F.2.2.1.trans ht) hty ?_ (hq _ rfl) hA.2.1.2.2 hd hlk
        cases x with
        | none => exact Or.inl rfl
        | some a => exact Or.inr ⟨_, rfl⟩
      · simp [retv] at hr
      · simp [retv] at hr
    · rcases v with x | x | x | x <;> simp [retv] at hr
/-- an instruction is right at its place -/
def OkI (G : gG) (l : Launch) (mt : Nat → dD) (D : dD) (pc : Nat) (i : aIn) : Prop := match i with
  | .inl f => OkN G l D pc f
  | .inr (.inl q) => (q.2.2.2 = 0 ∧ OkC G l D (mt q.1) pc q.2.1 q.2.2.1) ∨ (∃ na ci, q.2.1 = na + 1 ∧ q.2.2.2 = ci + 1 ∧ ci < 99 ∧ OkCr G l D (mt q.1) pc na q.2.2.1 ci true) ∨ (∃ na ci, q.2.1 = na + 1 ∧ q.2.2.2 = 100 ∧ OkCr G l D (mt q.1) pc na q.2.2.1 ci false)
  | .inr (.inr k) => OkR D pc k
/-- the depth-wise meaning of calls -/
noncomputable def cl (pk : Nat → aK) (pl : Nat → Nat) : Nat → Nat → List aV → aH → aR
  | 0, _, _, _ => none
  | d + 1, M, as, h => bif Nat.ble (aEnt as).length (pl M) then ex (cl pk pl d) (pk M) 0 (aLs as (pl M)) [] h else none
end OKZ
