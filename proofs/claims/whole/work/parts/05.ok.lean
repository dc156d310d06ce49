/-! EACH INSTRUCTION OF THE ABSTRACT MACHINE AGAINST THE MACHINE'S -/
/-- words that every method has -/
def gW : List Cond := lw_tbl.filter goodWord
theorem gW_in {w : Cond} (i : Nat) (h : lw_tbl[i]? = some w) (hg : goodWord w = true) : w ∈ gW := List.mem_filter.mpr ⟨List.mem_of_getElem? h, hg⟩
/-- a method: its name, bytes, locals, return type -/
abbrev dD : Type := MethodName × ByteArray × Nat × Option FieldType
def dW (D : dD) : List Cond := Cond.code D.1 D.2.1 D.2.2.1 D.2.2.2 :: gW
def Fx (G : gG) (D : dD) (p : Program) (R : Room) (s : State) (m : MethodId) (args : Array Value) (meth : Method) (c : Code) : Prop :=
  p.tables.exec = Jvm.exec ∧ c.code = D.2.1 ∧ meth.sig.returnType = D.2.2.2 ∧ c.maxLocals = D.2.2.1 ∧ s.vm.findClass D.1.cls = some m.cls ∧ (∀ w ∈ gW, w.before args s = true) ∧ meth.locks = false ∧ (D.1.name = "<init>" → meth.name = "<init>") ∧ CX G s ∧ 1 ≤ R.frames ∧ 64 ≤ R.locals
def At (G : gG) (D : dD) (s : State) (h : aH) (ls : List aV) (H : Heap) (locs : List Loc) (A : Array Slot) : Prop := Rep G h H ∧ va_S (g_A G) s.heap H locs ∧ Lo G ls A ∧ ls.length = D.2.2.1
/-- a step loses no cell -/
def mono (f : aS) : Prop := ∀ (ls st : List aV) (h : aH) (n : Nat) (ls' st' : List aV) (h' : aH), f ls st h = some (n, ls', st', h') → aSz h ≤ aSz h' ∧ aSl h ≤ aSl h'
theorem mn_push {v : aV} {n : Nat} : mono (s_push v n) := by
  intro ls st h n ls' st' h' hf
  unfold s_push at hf
  try (repeat' split at hf)
  all_goals first | (cases hf; exact ⟨Nat.le_refl _, Nat.le_refl _⟩) | (cases hf; exact ⟨Nat.le_succ _, Nat.le_add_right _ _⟩) | (cases hf)
theorem mn_ild {k n : Nat} : mono (s_ild k n) := by
  intro ls st h n ls' st' h' hf
  unfold s_ild at hf
  try (repeat' split at hf)
  all_goals first | (cases hf; exact ⟨Nat.le_refl _, Nat.le_refl _⟩) | (cases hf; exact ⟨Nat.le_succ _, Nat.le_add_right _ _⟩) | (cases hf)
theorem mn_ald {k n : Nat} : mono (s_ald k n) := by
  intro ls st h n ls' st' h' hf
  unfold s_ald at hf
  try (repeat' split at hf)
  all_goals first | (cases hf; exact ⟨Nat.le_refl _, Nat.le_refl _⟩) | (cases hf; exact ⟨Nat.le_succ _, Nat.le_add_right _ _⟩) | (cases hf)
theorem mn_lld {k n : Nat} : mono (s_lld k n) := by
  intro ls st h n ls' st' h' hf
  unfold s_lld at hf
  try (repeat' split at hf)
  all_goals first | (cases hf; exact ⟨Nat.le_refl _, Nat.le_refl _⟩) | (cases hf; exact ⟨Nat.le_succ _, Nat.le_add_right _ _⟩) | (cases hf)
theorem mn_ist {k n : Nat} : mono (s_ist k n) := by
  intro ls st h n ls' st' h' hf
  unfold s_ist at hf
  try (repeat' split at hf)
  all_goals first | (cases hf; exact ⟨Nat.le_refl _, Nat.le_refl _⟩) | (cases hf; exact ⟨Nat.le_succ _, Nat.le_add_right _ _⟩) | (cases hf)
theorem mn_ast {k n : Nat} : mono (s_ast k n) := by
  intro ls st h n ls' st' h' hf
  unfold s_ast at hf
  try (repeat' split at hf)
  all_goals first | (cases hf; exact ⟨Nat.le_refl _, Nat.le_refl _⟩) | (cases hf; exact ⟨Nat.le_succ _, Nat.le_add_right _ _⟩) | (cases hf)
theorem mn_inc {k n : Nat} {c : Int} : mono (s_inc k c n) := by
  intro ls st h n ls' st' h' hf
  unfold s_inc at hf
  try (repeat' split at hf)
  all_goals first | (cases hf; exact ⟨Nat.le_refl _, Nat.le_refl _⟩) | (cases hf; exact ⟨Nat.le_succ _, Nat.le_add_right _ _⟩) | (cases hf)
theorem mn_bin {f : Int → Int → Int} {n : Nat} : mono (s_bin f n) := by
  intro ls st h n ls' st' h' hf
  unfold s_bin at hf
  try (repeat' split at hf)
  all_goals first | (cases hf; exact ⟨Nat.le_refl _, Nat.le_refl _⟩) | (cases hf; exact ⟨Nat.le_succ _, Nat.le_add_right _ _⟩) | (cases hf)
theorem mn_div {n : Nat} : mono (s_div n) := by
  intro ls st h n ls' st' h' hf
  unfold s_div at hf
  try (repeat' split at hf)
  all_goals first | (cases hf; exact ⟨Nat.le_refl _, Nat.le_refl _⟩) | (cases hf; exact ⟨Nat.le_succ _, Nat.le_add_right _ _⟩) | (cases hf)
theorem mn_rem {n : Nat} : mono (s_rem n) := by
  intro ls st h n ls' st' h' hf
  unfold s_rem at hf
  try (repeat' split at hf)
  all_goals first | (cases hf; exact ⟨Nat.le_refl _, Nat.le_refl _⟩) | (cases hf; exact ⟨Nat.le_succ _, Nat.le_add_right _ _⟩) | (cases hf)
theorem mn_neg {n : Nat} : mono (s_neg n) := by
  intro ls st h n ls' st' h' hf
  unfold s_neg at hf
  try (repeat' split at hf)
  all_goals first | (cases hf; exact ⟨Nat.le_refl _, Nat.le_refl _⟩) | (cases hf; exact ⟨Nat.le_succ _, Nat.le_add_right _ _⟩) | (cases hf)
theorem mn_i2l {n : Nat} : mono (s_i2l n) := by
  intro ls st h n ls' st' h' hf
  unfold s_i2l at hf
  try (repeat' split at hf)
  all_goals first | (cases hf; exact ⟨Nat.le_refl _, Nat.le_refl _⟩) | (cases hf; exact ⟨Nat.le_succ _, Nat.le_add_right _ _⟩) | (cases hf)
theorem mn_i2b {n : Nat} : mono (s_i2b n) := by
  intro ls st h n ls' st' h' hf
  unfold s_i2b at hf
  try (repeat' split at hf)
  all_goals first | (cases hf; exact ⟨Nat.le_refl _, Nat.le_refl _⟩) | (cases hf; exact ⟨Nat.le_succ _, Nat.le_add_right _ _⟩) | (cases hf)
theorem mn_lcmp {n : Nat} : mono (s_lcmp n) := by
  intro ls st h n ls' st' h' hf
  unfold s_lcmp at hf
  try (repeat' split at hf)
  all_goals first | (cases hf; exact ⟨Nat.le_refl _, Nat.le_refl _⟩) | (cases hf; exact ⟨Nat.le_succ _, Nat.le_add_right _ _⟩) | (cases hf)
theorem mn_dup {n : Nat} : mono (s_dup n) := by
  intro ls st h n ls' st' h' hf
  unfold s_dup at hf
  try (repeat' split at hf)
  all_goals first | (cases hf; exact ⟨Nat.le_refl _, Nat.le_refl _⟩) | (cases hf; exact ⟨Nat.le_succ _, Nat.le_add_right _ _⟩) | (cases hf)
theorem mn_dup2 {n : Nat} : mono (s_dup2 n) := by
  intro ls st h n ls' st' h' hf
  unfold s_dup2 at hf
  try (repeat' split at hf)
  all_goals first | (cases hf; exact ⟨Nat.le_refl _, Nat.le_refl _⟩) | (cases hf; exact ⟨Nat.le_succ _, Nat.le_add_right _ _⟩) | (cases hf)
theorem mn_go {t : Nat} : mono (s_go t) := by
  intro ls st h n ls' st' h' hf
  unfold s_go at hf
  try (repeat' split at hf)
  all_goals first | (cases hf; exact ⟨Nat.le_refl _, Nat.le_refl _⟩) | (cases hf; exact ⟨Nat.le_succ _, Nat.le_add_right _ _⟩) | (cases hf)
theorem mn_if {c : Int → Bool} {t n : Nat} : mono (s_if c t n) := by
  intro ls st h n ls' st' h' hf
  unfold s_if at hf
  try (repeat' split at hf)
  all_goals first | (cases hf; exact ⟨Nat.le_refl _, Nat.le_refl _⟩) | (cases hf; exact ⟨Nat.le_succ _, Nat.le_add_right _ _⟩) | (cases hf)
theorem mn_ic {c : Int → Int → Bool} {t n : Nat} : mono (s_ic c t n) := by
  intro ls st h n ls' st' h' hf
  unfold s_ic at hf
  try (repeat' split at hf)
  all_goals first | (cases hf; exact ⟨Nat.le_refl _, Nat.le_refl _⟩) | (cases hf; exact ⟨Nat.le_succ _, Nat.le_add_right _ _⟩) | (cases hf)
theorem mn_nul {t n : Nat} : mono (s_nul t n) := by
  intro ls st h n ls' st' h' hf
  unfold s_nul at hf
  try (repeat' split at hf)
  all_goals first | (cases hf; exact ⟨Nat.le_refl _, Nat.le_refl _⟩) | (cases hf; exact ⟨Nat.le_succ _, Nat.le_add_right _ _⟩) | (cases hf)
theorem mn_sw {ps : List (Int × Nat)} {d : Nat} : mono (s_sw ps d) := by
  intro ls st h n ls' st' h' hf
  unfold s_sw at hf
  try (repeat' split at hf)
  all_goals first | (cases hf; exact ⟨Nat.le_refl _, Nat.le_refl _⟩) | (cases hf; exact ⟨Nat.le_succ _, Nat.le_add_right _ _⟩) | (cases hf)
theorem mn_len {n : Nat} : mono (s_len n) := by
  intro ls st h n ls' st' h' hf
  unfold s_len at hf
  try (repeat' split at hf)
  all_goals first | (cases hf; exact ⟨Nat.le_refl _, Nat.le_refl _⟩) | (cases hf; exact ⟨Nat.le_succ _, Nat.le_add_right _ _⟩) | (cases hf)
theorem mn_ia {n : Nat} : mono (s_ia n) := by
  intro ls st h n ls' st' h' hf
  unfold s_ia at hf
  try (repeat' split at hf)
  all_goals first | (cases hf; exact ⟨Nat.le_refl _, Nat.le_refl _⟩) | (cases hf; exact ⟨Nat.le_succ _, Nat.le_add_right _ _⟩) | (cases hf)
theorem mn_ias {n : Nat} : mono (s_ias n) := by
  intro ls st h n ls' st' h' hf
  unfold s_ias at hf
  try (repeat' split at hf)
  all_goals first | (cases hf; exact ⟨Nat.le_refl _, Nat.le_refl _⟩) | (cases hf; exact ⟨Nat.le_succ _, Nat.le_add_right _ _⟩) | (cases hf)
theorem mn_ra {k n : Nat} : mono (s_ra k n) := by
  intro ls st h n ls' st' h' hf
  unfold s_ra at hf
  try (repeat' split at hf)
  all_goals first | (cases hf; exact ⟨Nat.le_refl _, Nat.le_refl _⟩) | (cases hf; exact ⟨Nat.le_succ _, Nat.le_add_right _ _⟩) | (cases hf)
theorem mn_ras {k n : Nat} : mono (s_ras k n) := by
  intro ls st h n ls' st' h' hf
  unfold s_ras at hf
  try (repeat' split at hf)
  all_goals first | (cases hf; exact ⟨Nat.le_refl _, Nat.le_refl _⟩) | (cases hf; exact ⟨Nat.le_succ _, Nat.le_add_right _ _⟩) | (cases hf)
theorem mn_gf {ci k n : Nat} : mono (s_gf ci k n) := by
  intro ls st h n ls' st' h' hf
  unfold s_gf at hf
  try (repeat' split at hf)
  all_goals first | (cases hf; exact ⟨Nat.le_refl _, Nat.le_refl _⟩) | (cases hf; exact ⟨Nat.le_succ _, Nat.le_add_right _ _⟩) | (cases hf)
theorem mn_pf {ci k n : Nat} : mono (s_pf ci k n) := by
  intro ls st h n ls' st' h' hf
  unfold s_pf at hf
  try (repeat' split at hf)
  all_goals first | (cases hf; exact ⟨Nat.le_refl _, Nat.le_refl _⟩) | (cases hf; exact ⟨Nat.le_succ _, Nat.le_add_right _ _⟩) | (cases hf)
theorem mn_gs {a n : Nat} : mono (s_gs a n) := by
  intro ls st h n ls' st' h' hf
  unfold s_gs at hf
  try (repeat' split at hf)
  all_goals first | (cases hf; exact ⟨Nat.le_refl _, Nat.le_refl _⟩) | (cases hf; exact ⟨Nat.le_succ _, Nat.le_add_right _ _⟩) | (cases hf)
theorem mn_oi {n : Nat} : mono (s_oi n) := by
  intro ls st h n ls' st' h' hf
  unfold s_oi at hf
  try (repeat' split at hf)
  all_goals first | (cases hf; exact ⟨Nat.le_refl _, Nat.le_refl _⟩) | (cases hf; exact ⟨Nat.le_succ _, Nat.le_add_right _ _⟩) | (cases hf)
theorem mn_cpy {n : Nat} : mono (s_cpy n) := by
  intro ls st h n ls' st' h' hf
  unfold s_cpy at hf
  try (repeat' split at hf)
  all_goals first | (cases hf; exact ⟨Nat.le_refl _, Nat.le_refl _⟩) | (cases hf; exact ⟨Nat.le_succ _, Nat.le_add_right _ _⟩) | (cases hf)
theorem mn_new {ci n : Nat} : mono (s_new ci n) := by
  intro ls st h n ls' st' h' hf
  unfold s_new at hf
  try (repeat' split at hf)
  all_goals first | (cases hf; exact ⟨Nat.le_refl _, Nat.le_refl _⟩) | (cases hf; exact ⟨Nat.le_succ _, Nat.le_add_right _ _⟩) | (cases hf)
theorem mn_nai {n : Nat} : mono (s_nai n) := by
  intro ls st h n ls' st' h' hf
  unfold s_nai at hf
  try (repeat' split at hf)
  all_goals first | (cases hf; exact ⟨Nat.le_refl _, Nat.le_refl _⟩) | (cases hf; exact ⟨Nat.le_succ _, Nat.le_add_right _ _⟩) | (cases hf)
theorem mn_nar {k n : Nat} : mono (s_nar k n) := by
  intro ls st h n ls' st' h' hf
  unfold s_nar at hf
  try (repeat' split at hf)
  all_goals first | (cases hf; exact ⟨Nat.le_refl _, Nat.le_refl _⟩) | (cases hf; exact ⟨Nat.le_succ _, Nat.le_add_right _ _⟩) | (cases hf)
def OkN (G : gG) (l : Launch) (D : dD) (pc : Nat) (f : aS) : Prop := mono f ∧
  ∀ (p : Program) (e : Env) (R : Room) (s : State) (m : MethodId) (args : Array Value) (below : List Frame) (meth : Method) (c : Code), Fx G D p R s m args meth c →
  ∀ (ls st : List aV) (h : aH) (n : Nat) (ls' st' : List aV) (h' : aH), f ls st h = some (n, ls', st', h') →
  ∀ (H : Heap) (locs : List Loc) (A : Array Slot) (cells slots : Nat) (Q : State → Prop), At G D s h ls H locs A → cells + (aSz h' - aSz h) ≤ R.cells → slots + (aSl h' - aSl h) ≤ R.slots →
  (∀ (H' : Heap) (locs' : List Loc) (A' : Array Slot), At G D s h' ls' H' locs' A' → W p l e R s m args below meth c H' locs' (cells + (aSz h' - aSz h)) (slots + (aSl h' - aSl h)) Q (F0 m n A' (st'.map (cV G)))) →
  W p l e R s m args below meth c H locs cells slots Q (F0 m pc A (st.map (cV G)))
/-- a step that makes nothing -/
theorem OkN.of {G : gG} {l : Launch} {D : dD} {pc : Nat} {f : aS} (hk : ∀ (p : Program) (e : Env) (R : Room) (s : State) (m : MethodId) (args : Array Value) (below : List Frame) (meth : Method) (c : Code), Fx G D p R s m args meth c →
    ∀ (ls st : List aV) (h : aH) (n : Nat) (ls' st' : List aV) (h' : aH), f ls st h = some (n, ls', st', h') → (aSz h' = aSz h ∧ aSl h' = aSl h) ∧
    ∀ (H : Heap) (locs : List Loc) (A : Array Slot) (cells slots : Nat) (Q : State → Prop), At G D s h ls H locs A →
    (∀ (H' : Heap) (locs' : List Loc) (A' : Array Slot), At G D s h' ls' H' locs' A' → W p l e R s m args below meth c H' locs' cells slots Q (F0 m n A' (st'.map (cV G)))) →
    W p l e R s m args below meth c H locs cells slots Q (F0 m pc A (st.map (cV G)))) (hm : mono f := by first | exact mn_push | exact mn_ild | exact mn_ald | exact mn_lld | exact mn_ist | exact mn_ast | exact mn_inc | exact mn_bin | exact mn_div | exact mn_rem | exact mn_neg | exact mn_i2l | exact mn_i2b | exact mn_lcmp | exact mn_dup | exact mn_dup2 | exact mn_go | exact mn_if | exact mn_ic | exact mn_nul | exact mn_sw | exact mn_len | exact mn_ia | exact mn_ias | exact mn_ra | exact mn_ras | exact mn_gf | exact mn_pf | exact mn_gs | exact mn_oi | exact mn_cpy | exact mn_new | exact mn_nai | exact mn_nar) : OkN G l D pc f := by
  refine ⟨hm, ?_⟩
  intro p e R s m args below meth c F ls st h n ls' st' h' hf
  obtain ⟨⟨e1, e2⟩, k⟩ := hk p e R s m args below meth c F ls st h n ls' st' h' hf
  refine fun H locs A cells slots Q hA _ _ kk => k H locs A cells slots Q hA (fun H' locs' A' hA' => ?_)
  have := kk H' locs' A' hA'
  rw [e1, e2, Nat.sub_self, Nat.sub_self] at this
  exact this
section OKS
variable {G : gG} {l : Launch} {D : dD} {pc : Nat}
/-- a step on the stack alone -/
theorem OkN.st {f : aS} (hk : ∀ (p : Program) (e : Env) (R : Room) (s : State) (m : MethodId) (args : Array Value) (below : List Frame) (meth : Method) (c : Code), Fx G D p R s m args meth c →
    ∀ (ls st : List aV) (h : aH) (n : Nat) (ls' st' : List aV) (h' : aH), f ls st h = some (n, ls', st', h') → (ls' = ls ∧ h' = h) ∧
    ∀ (H : Heap) (locs : List Loc) (A : Array Slot) (cells slots : Nat) (Q : State → Prop), At G D s h ls H locs A →
    W p l e R s m args below meth c H locs cells slots Q (F0 m n A (st'.map (cV G))) →
    W p l e R s m args below meth c H locs cells slots Q (F0 m pc A (st.map (cV G)))) (hm : mono f := by first | exact mn_push | exact mn_ild | exact mn_ald | exact mn_lld | exact mn_ist | exact mn_ast | exact mn_inc | exact mn_bin | exact mn_div | exact mn_rem | exact mn_neg | exact mn_i2l | exact mn_i2b | exact mn_lcmp | exact mn_dup | exact mn_dup2 | exact mn_go | exact mn_if | exact mn_ic | exact mn_nul | exact mn_sw | exact mn_len | exact mn_ia | exact mn_ias | exact mn_ra | exact mn_ras | exact mn_gf | exact mn_pf | exact mn_gs | exact mn_oi | exact mn_cpy | exact mn_new | exact mn_nai | exact mn_nar) : OkN G l D pc f := by
  refine OkN.of (hm := hm) fun p e R s m args below meth c F ls st h n ls' st' h' hf => ?_
  obtain ⟨⟨rfl, rfl⟩, k⟩ := hk p e R s m args below meth c F ls st h n ls' st' h' hf
  exact ⟨⟨rfl, rfl⟩, fun H locs A cells slots Q hA kk => k H locs A cells slots Q hA (kk H locs A hA)⟩
theorem ok_iconst {n : Int} {x : Int} (hd : decode D.2.1 pc = .ok (.iconst n, 1)) (hx : x = n) : OkN G l D pc (s_push (aI x) (pc + 1)) := by
  subst hx
  refine OkN.st fun p e R s m args below meth c F ls st h n ls' st' h' hf => ?_
  cases hf
  exact ⟨⟨rfl, rfl⟩, fun H locs A cells slots Q hA kk => lv_iconst F.1 F.2.1 hd rfl kk⟩
theorem ok_bipush {n : Int} {x : Int} (hd : decode D.2.1 pc = .ok (.bipush n, 2)) (hx : (Int8.ofInt n).toInt32 = Int32.ofInt x) : OkN G l D pc (s_push (aI x) (pc + 2)) := by
  refine OkN.st fun p e R s m args below meth c F ls st h n ls' st' h' hf => ?_
  cases hf
  exact ⟨⟨rfl, rfl⟩, fun H locs A cells slots Q hA kk => lv_bipush F.1 F.2.1 hd hx kk⟩
theorem ok_sipush {n : Int} {x : Int} (hd : decode D.2.1 pc = .ok (.sipush n, 3)) (hx : (Int16.ofInt n).toInt32 = Int32.ofInt x) : OkN G l D pc (s_push (aI x) (pc + 3)) := by
  refine OkN.st fun p e R s m args below meth c F ls st h n ls' st' h' hf => ?_
  cases hf
  exact ⟨⟨rfl, rfl⟩, fun H locs A cells slots Q hA kk => lv_sipush F.1 F.2.1 hd hx kk⟩
theorem ok_lconst {n : Fin 2} {x : Int} (hd : decode D.2.1 pc = .ok (.lconst n, 1)) (hx : Int64.ofNat (n : Nat) = Int64.ofInt x) : OkN G l D pc (s_push (aL x) (pc + 1)) := by
  refine OkN.st fun p e R s m args below meth c F ls st h n ls' st' h' hf => ?_
  cases hf
  exact ⟨⟨rfl, rfl⟩, fun H locs A cells slots Q hA kk => lv_lconst F.1 F.2.1 hd hx kk⟩
theorem ok_ldc {i : Nat} {v : Int32} {x : Int} (hd : decode D.2.1 pc = .ok (.ldc i, 2)) (hw : Cond.constant D.1.cls i v ∈ gW) (hx : v = Int32.ofInt x) : OkN G l D pc (s_push (aI x) (pc + 2)) := by
  subst hx
  refine OkN.st fun p e R s m args below meth c F ls st h n ls' st' h' hf => ?_
  cases hf
  exact ⟨⟨rfl, rfl⟩, fun H locs A cells slots Q hA kk => lv_ldc F.1 F.2.1 F.2.2.2.2.1 (F.2.2.2.2.2.1 _ hw) hd kk⟩
theorem ok_ldcw {i : Nat} {v : Int32} {x : Int} (hd : decode D.2.1 pc = .ok (.ldc_w i, 3)) (hw : Cond.constant D.1.cls i v ∈ gW) (hx : v = Int32.ofInt x) : OkN G l D pc (s_push (aI x) (pc + 3)) := by
  subst hx
  refine OkN.st fun p e R s m args below meth c F ls st h n ls' st' h' hf => ?_
  cases hf
  exact ⟨⟨rfl, rfl⟩, fun H locs A cells slots Q hA kk => lv_ldcw F.1 F.2.1 F.2.2.2.2.1 (F.2.2.2.2.2.1 _ hw) hd kk⟩
theorem ok_ldc2 {i : Nat} {v : Int64} {x : Int} (hd : decode D.2.1 pc = .ok (.ldc2_w i, 3)) (hw : Cond.constantLong D.1.cls i v ∈ gW) (hx : v = Int64.ofInt x) : OkN G l D pc (s_push (aL x) (pc + 3)) := by
  subst hx
  refine OkN.st fun p e R s m args below meth c F ls st h n ls' st' h' hf => ?_
  cases hf
  exact ⟨⟨rfl, rfl⟩, fun H locs A cells slots Q hA kk => lv_ldc2 F.1 F.2.1 F.2.2.2.2.1 (F.2.2.2.2.2.1 _ hw) hd kk⟩
theorem ok_null (hd : decode D.2.1 pc = .ok (.aconst_null, 1)) : OkN G l D pc (s_push (aQ none) (pc + 1)) := by
  refine OkN.st fun p e R s m args below meth c F ls st h n ls' st' h' hf => ?_
  cases hf
  exact ⟨⟨rfl, rfl⟩, fun H locs A cells slots Q hA kk => lv_null F.1 F.2.1 hd kk⟩
theorem ne_IU (x : Int) : aI x ≠ aU := fun h => by cases h
theorem ne_QU (r : Option Nat) : aQ r ≠ aU := fun h => by cases h
theorem ne_LU (x : Int) : aL x ≠ aU := fun h => by cases h
theorem ild_of {k n : Nat} {ls st : List aV} {h : aH} {q : Nat × List aV × List aV × aH} (hf : s_ild k n ls st h = some q) : ∃ x, ls[k]? = some (aI x) ∧ q = (n, ls, aI x :: st, h) := by
  unfold s_ild at hf
  split at hf
  · rename_i x e
    exact ⟨x, e, (Option.some.inj hf).symm⟩
  · cases hf
theorem ald_of {k n : Nat} {ls st : List aV} {h : aH} {q : Nat × List aV × List aV × aH} (hf : s_ald k n ls st h = some q) : ∃ x, ls[k]? = some (aQ x) ∧ q = (n, ls, aQ x :: st, h) := by
  unfold s_ald at hf
  split at hf
  · rename_i x e
    exact ⟨x, e, (Option.some.inj hf).symm⟩
  · cases hf
theorem lld_of {k n : Nat} {ls st : List aV} {h : aH} {q : Nat × List aV × List aV × aH} (hf : s_lld k n ls st h = some q) : ∃ x, ls[k]? = some (aL x) ∧ q = (n, ls, aL x :: st, h) := by
  unfold s_lld at hf
  split at hf
  · rename_i x e
    exact ⟨x, e, (Option.some.inj hf).symm⟩
  · cases hf
theorem ok_ild {k : Nat} (hd : decode D.2.1 pc = .ok (.iload k, 2)) : OkN G l D pc (s_ild k (pc + 2)) := by
  refine OkN.st fun p e R s m args below meth c F ls st h n ls' st' h' hf => ?_
  obtain ⟨x, hx, e⟩ := ild_of hf
  cases e
  exact ⟨⟨rfl, rfl⟩, fun H locs A cells slots Q hA kk => lv_iload F.1 F.2.1 hd (hA.2.2.1.2.2 k _ hx (ne_IU x)) kk⟩
theorem ok_ildn {k : Fin 4} {k' : Nat} (hk : (k : Nat) = k') (hd : decode D.2.1 pc = .ok (.iload_n k, 1)) : OkN G l D pc (s_ild k' (pc + 1)) := by
  refine OkN.st fun p e R s m args below meth c F ls st h n ls' st' h' hf => ?_
  obtain ⟨x, hx, e⟩ := ild_of hf
  cases e
  exact ⟨⟨rfl, rfl⟩, fun H locs A cells slots Q hA kk => lv_iload_n F.1 F.2.1 hd hk (hA.2.2.1.2.2 k' _ hx (ne_IU x)) kk⟩
theorem ok_lld {k : Nat} (hd : decode D.2.1 pc = .ok (.lload k, 2)) : OkN G l D pc (s_lld k (pc + 2)) := by
  refine OkN.st fun p e R s m args below meth c F ls st h n ls' st' h' hf => ?_
  obtain ⟨x, hx, e⟩ := lld_of hf
  cases e
  exact ⟨⟨rfl, rfl⟩, fun H locs A cells slots Q hA kk => lv_lload F.1 F.2.1 hd (hA.2.2.1.2.2 k _ hx (ne_LU x)) kk⟩
theorem ok_lldn {k : Fin 4} {k' : Nat} (hk : (k : Nat) = k') (hd : decode D.2.1 pc = .ok (.lload_n k, 1)) : OkN G l D pc (s_lld k' (pc + 1)) := by
  refine OkN.st fun p e R s m args below meth c F ls st h n ls' st' h' hf => ?_
  obtain ⟨x, hx, e⟩ := lld_of hf
  cases e
  exact ⟨⟨rfl, rfl⟩, fun H locs A cells slots Q hA kk => lv_lload_n F.1 F.2.1 hd hk (hA.2.2.1.2.2 k' _ hx (ne_LU x)) kk⟩
theorem ok_ald {k : Nat} (hd : decode D.2.1 pc = .ok (.aload k, 2)) : OkN G l D pc (s_ald k (pc + 2)) := by
  refine OkN.st fun p e R s m args below meth c F ls st h n ls' st' h' hf => ?_
  obtain ⟨x, hx, e⟩ := ald_of hf
  cases e
  refine ⟨⟨rfl, rfl⟩, fun H locs A cells slots Q hA kk => ?_⟩
  have h1 := hA.2.2.1.2.2 k _ hx (ne_QU x)
  cases x with
  | none => exact lv_aloadN F.1 F.2.1 hd h1 kk
  | some a => exact lv_aload F.1 F.2.1 hd h1 kk
theorem ok_aldn {k : Fin 4} {k' : Nat} (hk : (k : Nat) = k') (hd : decode D.2.1 pc = .ok (.aload_n k, 1)) : OkN G l D pc (s_ald k' (pc + 1)) := by
  refine OkN.st fun p e R s m args below meth c F ls st h n ls' st' h' hf => ?_
  obtain ⟨x, hx, e⟩ := ald_of hf
  cases e
  refine ⟨⟨rfl, rfl⟩, fun H locs A cells slots Q hA kk => ?_⟩
  have h1 := hA.2.2.1.2.2 k' _ hx (ne_QU x)
  cases x with
  | none => exact lv_aload_nN F.1 F.2.1 hd hk h1 kk
  | some a => exact lv_aload_n F.1 F.2.1 hd hk h1 kk
theorem ist_of {k n : Nat} {ls st : List aV} {h : aH} {q : Nat × List aV × List aV × aH} (hf : s_ist k n ls st h = some q) : ∃ x st1, st = aI x :: st1 ∧ aOk ls k = true ∧ k < ls.length ∧ q = (n, ls.set k (aI x), st1, h) := by
  unfold s_ist at hf
  split at hf
  · rename_i x st1
    split at hf
    · rename_i hc
      exact ⟨x, st1, rfl, hc.1, hc.2, (Option.some.inj hf).symm⟩
    · cases hf
  · cases hf
theorem ast_of {k n : Nat} {ls st : List aV} {h : aH} {q : Nat × List aV × List aV × aH} (hf : s_ast k n ls st h = some q) : ∃ x st1, st = aQ x :: st1 ∧ aOk ls k = true ∧ k < ls.length ∧ q = (n, ls.set k (aQ x), st1, h) := by
  unfold s_ast at hf
  split at hf
  · rename_i x st1
    split at hf
    · rename_i hc
      exact ⟨x, st1, rfl, hc.1, hc.2, (Option.some.inj hf).symm⟩
    · cases hf
  · cases hf
theorem At.store {s : State} {h : aH} {ls : List aV} {H : Heap} {locs : List Loc} {A A' : Array Slot} {k : Nat} {v : aV} (hA : At G D s h ls H locs A) (hok : aOk ls k = true) (hk : k < ls.length) (hv : v ≠ aU)
    (h' : lv_has A' ls.length ((k, cV G v) :: (lst G ls).filter (fun q => !(q.1 == k) && !(q.1 + 1 == k && q.2.category == 2)))) : At G D s h (ls.set k v) H locs A' :=
  ⟨hA.1, hA.2.1, Lo.store hok hk hv h', by rw [List.length_set]; exact hA.2.2.2⟩
theorem ok_ist {k : Nat} (hd : decode D.2.1 pc = .ok (.istore k, 2)) : OkN G l D pc (s_ist k (pc + 2)) := by
  refine OkN.of fun p e R s m args below meth c F ls st h n ls' st' h' hf => ?_
  obtain ⟨x, st1, rfl, hok, hk, e⟩ := ist_of hf
  cases e
  exact ⟨⟨rfl, rfl⟩, fun H locs A cells slots Q hA kk => lv_istore F.1 F.2.1 hd hA.2.2.1.has hk rfl (fun A' h' => kk H locs A' (hA.store hok hk (ne_IU x) h'))⟩
theorem ok_istn {k : Fin 4} {k' : Nat} (hkk : (k : Nat) = k') (hd : decode D.2.1 pc = .ok (.istore_n k, 1)) : OkN G l D pc (s_ist k' (pc + 1)) := by
  refine OkN.of fun p e R s m args below meth c F ls st h n ls' st' h' hf => ?_
  obtain ⟨x, st1, rfl, hok, hk, e⟩ := ist_of hf
  cases e
  exact ⟨⟨rfl, rfl⟩, fun H locs A cells slots Q hA kk => lv_istore_n F.1 F.2.1 hd hkk hA.2.2.1.has hk rfl (fun A' h' => kk H locs A' (hA.store hok hk (ne_IU x) h'))⟩
theorem ok_ast {k : Nat} (hd : decode D.2.1 pc = .ok (.astore k, 2)) : OkN G l D pc (s_ast k (pc + 2)) := by
  refine OkN.of fun p e R s m args below meth c F ls st h n ls' st' h' hf => ?_
  obtain ⟨x, st1, rfl, hok, hk, e⟩ := ast_of hf
  cases e
  refine ⟨⟨rfl, rfl⟩, fun H locs A cells slots Q hA kk => ?_⟩
  cases x with
  | none => exact lv_astoreN F.1 F.2.1 hd hA.2.2.1.has hk rfl (fun A' h' => kk H locs A' (hA.store hok hk (ne_QU none) h'))
  | some a => exact lv_astore F.1 F.2.1 hd hA.2.2.1.has hk rfl (fun A' h' => kk H locs A' (hA.store hok hk (ne_QU (some a)) h'))
theorem ok_astn {k : Fin 4} {k' : Nat} (hkk : (k : Nat) = k') (hd : decode D.2.1 pc = .ok (.astore_n k, 1)) : OkN G l D pc (s_ast k' (pc + 1)) := by
  refine OkN.of fun p e R s m args below meth c F ls st h n ls' st' h' hf => ?_
  obtain ⟨x, st1, rfl, hok, hk, e⟩ := ast_of hf
  cases e
  refine ⟨⟨rfl, rfl⟩, fun H locs A cells slots Q hA kk => ?_⟩
  cases x with
  | none => exact lv_astore_nN F.1 F.2.1 hd hkk hA.2.2.1.has hk rfl (fun A' h' => kk H locs A' (hA.store hok hk (ne_QU none) h'))
  | some a => exact lv_astore_n F.1 F.2.1 hd hkk hA.2.2.1.has hk rfl (fun A' h' => kk H locs A' (hA.store hok hk (ne_QU (some a)) h'))
theorem lst_at {ls : List aV} {k : Nat} {v : aV} (h : ls[k]? = some v) (hv : v ≠ aU) : ∃ j : Nat, (lst G ls)[j]? = some (k, cV G v) := List.getElem?_of_mem (lst_mem h hv)
theorem ok_inc {k : Nat} {i : Int} (hd : decode D.2.1 pc = .ok (.iinc k i, 3)) : OkN G l D pc (s_inc k i (pc + 3)) := by
  refine OkN.of fun p e R s m args below meth c F ls st h n ls' st' h' hf => ?_
  unfold s_inc at hf
  split at hf
  · rename_i x hx
    split at hf
    · rename_i hok
      cases hf
      obtain ⟨j, hj⟩ := lst_at (G := G) (v := aI x) hx (ne_IU x)
      have hk := (List.getElem?_eq_some_iff.mp hx).1
      exact ⟨⟨rfl, rfl⟩, fun H locs A cells slots Q hA kk => lv_iinc F.1 F.2.1 hd hA.2.2.1.has (k := j) hj (Int32.ofInt_add x i).symm hk rfl (fun A' h' => kk H locs A' (hA.store hok hk (ne_IU _) h'))⟩
    · cases hf
  · cases hf
theorem bin_of {f : Int → Int → Int} {n : Nat} {ls st : List aV} {h : aH} {q : Nat × List aV × List aV × aH} (hf : s_bin f n ls st h = some q) : ∃ y x st1, st = aI y :: aI x :: st1 ∧ q = (n, ls, aI (f x y) :: st1, h) := by
  unfold s_bin at hf
  split at hf
  · rename_i y x st1
    exact ⟨y, x, st1, rfl, (Option.some.inj hf).symm⟩
  · cases hf
theorem ok_bin {f : Int → Int → Int} {n0 : Nat} (hk : ∀ (p : Program) (e : Env) (R : Room) (s : State) (m : MethodId) (args : Array Value) (below : List Frame) (meth : Method) (c : Code), Fx G D p R s m args meth c → ∀ (x y : Int) (H : Heap) (locs : List Loc) (A : Array Slot) (cells slots : Nat) (Q : State → Prop) (rest : List Value),
    W p l e R s m args below meth c H locs cells slots Q (F0 m n0 A (.int (Int32.ofInt (f x y)) :: rest)) → W p l e R s m args below meth c H locs cells slots Q (F0 m pc A (.int (Int32.ofInt y) :: .int (Int32.ofInt x) :: rest))) : OkN G l D pc (s_bin f n0) := by
  refine OkN.st fun p e R s m args below meth c F ls st h n ls' st' h' hf => ?_
  obtain ⟨y, x, st1, rfl, e⟩ := bin_of hf
  cases e
  exact ⟨⟨rfl, rfl⟩, fun H locs A cells slots Q hA kk => hk p _ R s m args below meth c F x y H locs A cells slots Q _ kk⟩
theorem ok_add (hd : decode D.2.1 pc = .ok (.iadd, 1)) : OkN G l D pc (s_bin (fun x y => x + y) (pc + 1)) :=
  ok_bin fun p e R s m args below meth c F x y H locs A cells slots Q rest kk => lv_iadd F.1 F.2.1 hd (by rw [Int32.ofInt_add] at kk; exact kk)
theorem ok_sub (hd : decode D.2.1 pc = .ok (.isub, 1)) : OkN G l D pc (s_bin (fun x y => x - y) (pc + 1)) :=
  ok_bin fun p e R s m args below meth c F x y H locs A cells slots Q rest kk => lv_isub F.1 F.2.1 hd (by rw [Int32.ofInt_sub] at kk; exact kk)
theorem ok_mul (hd : decode D.2.1 pc = .ok (.imul, 1)) : OkN G l D pc (s_bin (fun x y => x * y) (pc + 1)) :=
  ok_bin fun p e R s m args below meth c F x y H locs A cells slots Q rest kk => lv_imul F.1 F.2.1 hd (by rw [Int32.ofInt_mul] at kk; exact kk)
theorem ok_and (hd : decode D.2.1 pc = .ok (.iand, 1)) : OkN G l D pc (s_bin wand (pc + 1)) :=
  ok_bin fun p e R s m args below meth c F x y H locs A cells slots Q rest kk => lv_iand F.1 F.2.1 hd (by rw [wand, Int32.ofInt_toInt] at kk; exact kk)
theorem ok_or (hd : decode D.2.1 pc = .ok (.ior, 1)) : OkN G l D pc (s_bin wor (pc + 1)) :=
  ok_bin fun p e R s m args below meth c F x y H locs A cells slots Q rest kk => lv_ior F.1 F.2.1 hd (by rw [wor, Int32.ofInt_toInt] at kk; exact kk)
theorem ok_xor (hd : decode D.2.1 pc = .ok (.ixor, 1)) : OkN G l D pc (s_bin wxor (pc + 1)) :=
  ok_bin fun p e R s m args below meth c F x y H locs A cells slots Q rest kk => lv_ixor F.1 F.2.1 hd (by rw [wxor, Int32.ofInt_toInt] at kk; exact kk)
theorem ok_shl (hd : decode D.2.1 pc = .ok (.ishl, 1)) : OkN G l D pc (s_bin wshl (pc + 1)) :=
  ok_bin fun p e R s m args below meth c F x y H locs A cells slots Q rest kk => lv_ishl F.1 F.2.1 hd (by rw [wshl, Int32.ofInt_toInt] at kk; exact kk)
theorem ok_shr (hd : decode D.2.1 pc = .ok (.ishr, 1)) : OkN G l D pc (s_bin wshr (pc + 1)) :=
  ok_bin fun p e R s m args below meth c F x y H locs A cells slots Q rest kk => lv_ishr F.1 F.2.1 hd (by rw [wshr, Int32.ofInt_toInt] at kk; exact kk)
theorem ok_ushr (hd : decode D.2.1 pc = .ok (.iushr, 1)) : OkN G l D pc (s_bin wush (pc + 1)) :=
  ok_bin fun p e R s m args below meth c F x y H locs A cells slots Q rest kk => lv_iushr F.1 F.2.1 hd (by rw [wush, Int32.ofInt_toInt]) kk
theorem ok_div (hd : decode D.2.1 pc = .ok (.idiv, 1)) : OkN G l D pc (s_div (pc + 1)) := by
  refine OkN.st fun p e R s m args below meth c F ls st h n ls' st' h' hf => ?_
  unfold s_div at hf
  split at hf
  · rename_i y x st1
    split at hf
    · cases hf
    · rename_i hy
      cases hf
      refine ⟨⟨rfl, rfl⟩, fun H locs A cells slots Q hA kk => lv_idiv F.1 F.2.1 hd (fun q => hy ((i_eq0 y).mp q)) ?_⟩
      rw [i_div]
      exact kk
  · cases hf
theorem ok_rem (hd : decode D.2.1 pc = .ok (.irem, 1)) : OkN G l D pc (s_rem (pc + 1)) := by
  refine OkN.st fun p e R s m args below meth c F ls st h n ls' st' h' hf => ?_
  unfold s_rem at hf
  split at hf
  · rename_i y x st1
    split at hf
    · cases hf
    · rename_i hy
      cases hf
      refine ⟨⟨rfl, rfl⟩, fun H locs A cells slots Q hA kk => lv_irem F.1 F.2.1 hd (fun q => hy ((i_eq0 y).mp q)) ?_⟩
      rw [i_rem]
      exact kk
  · cases hf
theorem ok_neg (hd : decode D.2.1 pc = .ok (.ineg, 1)) : OkN G l D pc (s_neg (pc + 1)) := by
  refine OkN.st fun p e R s m args below meth c F ls st h n ls' st' h' hf => ?_
  unfold s_neg at hf
  split at hf
  · rename_i x st1
    cases hf
    refine ⟨⟨rfl, rfl⟩, fun H locs A cells slots Q hA kk => lv_ineg F.1 F.2.1 hd ?_⟩
    rw [← Int32.ofInt_neg]
    exact kk
  · cases hf
theorem ok_i2l (hd : decode D.2.1 pc = .ok (.i2l, 1)) : OkN G l D pc (s_i2l (pc + 1)) := by
  refine OkN.st fun p e R s m args below meth c F ls st h n ls' st' h' hf => ?_
  unfold s_i2l at hf
  split at hf
  · rename_i x st1
    cases hf
    exact ⟨⟨rfl, rfl⟩, fun H locs A cells slots Q hA kk => lv_i2l F.1 F.2.1 hd (i_i2l x) kk⟩
  · cases hf
theorem ok_i2b (hd : decode D.2.1 pc = .ok (.i2b, 1)) : OkN G l D pc (s_i2b (pc + 1)) := by
  refine OkN.st fun p e R s m args below meth c F ls st h n ls' st' h' hf => ?_
  unfold s_i2b at hf
  split at hf
  · rename_i x st1
    cases hf
    exact ⟨⟨rfl, rfl⟩, fun H locs A cells slots Q hA kk => lv_i2b F.1 F.2.1 hd (i_i2b x) kk⟩
  · cases hf
theorem ok_lcmp (hd : decode D.2.1 pc = .ok (.lcmp, 1)) : OkN G l D pc (s_lcmp (pc + 1)) := by
  refine OkN.st fun p e R s m args below meth c F ls st h n ls' st' h' hf => ?_
  unfold s_lcmp at hf
  split at hf
  · rename_i y x st1
    cases hf
    refine ⟨⟨rfl, rfl⟩, fun H locs A cells slots Q hA kk => W.lcmp F.1 F.2.1 hd ?_⟩
    simp only [List.map_cons, cV_I, wlt, Int32.ofInt_toInt] at kk
    exact kk
  · cases hf
theorem ok_dup (hd : decode D.2.1 pc = .ok (.dup, 1)) : OkN G l D pc (s_dup (pc + 1)) := by
  refine OkN.st fun p e R s m args below meth c F ls st h n ls' st' h' hf => ?_
  unfold s_dup at hf
  split at hf
  · rename_i v st1
    split at hf
    · rename_i hv
      cases hf
      exact ⟨⟨rfl, rfl⟩, fun H locs A cells slots Q hA kk => lv_dup F.1 F.2.1 hd (cV_cat G hv) kk⟩
    · cases hf
  · cases hf
theorem ok_dup2 (hd : decode D.2.1 pc = .ok (.dup2, 1)) : OkN G l D pc (s_dup2 (pc + 1)) := by
  refine OkN.st fun p e R s m args below meth c F ls st h n ls' st' h' hf => ?_
  unfold s_dup2 at hf
  split at hf
  · rename_i v w st1
    split at hf
    · rename_i hv
      cases hf
      exact ⟨⟨rfl, rfl⟩, fun H locs A cells slots Q hA kk => lv_dup2_11 F.1 F.2.1 hd (cV_cat G hv.1) (cV_cat G hv.2) kk⟩
    · cases hf
  · cases hf
theorem ok_go {off : Int} {t : Nat} (hd : decode D.2.1 pc = .ok (.goto off, 3)) (ht : (pc : Int) + off = (t : Int)) : OkN G l D pc (s_go t) := by
  refine OkN.st fun p e R s m args below meth c F ls st h n ls' st' h' hf => ?_
  cases hf
  exact ⟨⟨rfl, rfl⟩, fun H locs A cells slots Q hA kk => lv_goto F.1 F.2.1 hd ht kk⟩
theorem ok_if {cf : Int → Bool} {t n0 : Nat} (hk : ∀ (p : Program) (e : Env) (R : Room) (s : State) (m : MethodId) (args : Array Value) (below : List Frame) (meth : Method) (c : Code), Fx G D p R s m args meth c → ∀ (x : Int) (H : Heap) (locs : List Loc) (A : Array Slot) (cells slots : Nat) (Q : State → Prop) (rest : List Value),
    (cf (wr x) = true → W p l e R s m args below meth c H locs cells slots Q (F0 m t A rest)) → (cf (wr x) = false → W p l e R s m args below meth c H locs cells slots Q (F0 m n0 A rest)) → W p l e R s m args below meth c H locs cells slots Q (F0 m pc A (.int (Int32.ofInt x) :: rest))) : OkN G l D pc (s_if cf t n0) := by
  refine OkN.st fun p e R s m args below meth c F ls st h n ls' st' h' hf => ?_
  unfold s_if at hf
  split at hf
  · rename_i x st1
    cases hf
    refine ⟨⟨rfl, rfl⟩, fun H locs A cells slots Q hA kk => hk p _ R s m args below meth c F x H locs A cells slots Q _ (fun q => ?_) (fun q => ?_)⟩
    · rw [q] at kk; exact kk
    · rw [q] at kk; exact kk
  · cases hf
theorem ok_ic {cf : Int → Int → Bool} {t n0 : Nat} (hk : ∀ (p : Program) (e : Env) (R : Room) (s : State) (m : MethodId) (args : Array Value) (below : List Frame) (meth : Method) (c : Code), Fx G D p R s m args meth c → ∀ (x y : Int) (H : Heap) (locs : List Loc) (A : Array Slot) (cells slots : Nat) (Q : State → Prop) (rest : List Value),
    (cf (wr x) (wr y) = true → W p l e R s m args below meth c H locs cells slots Q (F0 m t A rest)) → (cf (wr x) (wr y) = false → W p l e R s m args below meth c H locs cells slots Q (F0 m n0 A rest)) → W p l e R s m args below meth c H locs cells slots Q (F0 m pc A (.int (Int32.ofInt y) :: .int (Int32.ofInt x) :: rest))) : OkN G l D pc (s_ic cf t n0) := by
  refine OkN.st fun p e R s m args below meth c F ls st h n ls' st' h' hf => ?_
  unfold s_ic at hf
  split at hf
  · rename_i y x st1
    cases hf
    refine ⟨⟨rfl, rfl⟩, fun H locs A cells slots Q hA kk => hk p _ R s m args below meth c F x y H locs A cells slots Q _ (fun q => ?_) (fun q => ?_)⟩
    · rw [q] at kk; exact kk
    · rw [q] at kk; exact kk
  · cases hf
theorem c_eqT {x y : Int} : c_eq x y = true ↔ x = y := by simp [c_eq]
theorem c_eqF {x y : Int} : c_eq x y = false ↔ ¬ x = y := by simp [c_eq]
theorem c_ltT {x y : Int} : c_lt x y = true ↔ x < y := by simp [c_lt]
theorem c_ltF {x y : Int} : c_lt x y = false ↔ ¬ x < y := by simp [c_lt]
theorem n_T {b : Bool} (h : b = false) : (!b) = true := by rw [h]; rfl
theorem n_F {b : Bool} (h : b = true) : (!b) = false := by rw [h]; rfl
theorem ok_ifeq {off : Int} {t : Nat} (hd : decode D.2.1 pc = .ok (.ifCond .eq off, 3)) (ht : (pc : Int) + off = (t : Int)) : OkN G l D pc (s_if (fun x => c_eq x 0) t (pc + 3)) :=
  ok_if fun p e R s m args below meth c F x H locs A cells slots Q rest k1 k2 => lv_if_eq F.1 F.2.1 hd ht (fun q => k1 (c_eqT.mpr ((i_eq0 x).mp q))) (fun q => k2 (c_eqF.mpr fun z => q ((i_eq0 x).mpr z)))
theorem ok_ifne {off : Int} {t : Nat} (hd : decode D.2.1 pc = .ok (.ifCond .ne off, 3)) (ht : (pc : Int) + off = (t : Int)) : OkN G l D pc (s_if (fun x => !c_eq x 0) t (pc + 3)) :=
  ok_if fun p e R s m args below meth c F x H locs A cells slots Q rest k1 k2 => lv_if_ne F.1 F.2.1 hd ht (fun q => k1 (n_T (c_eqF.mpr fun z => q ((i_eq0 x).mpr z)))) (fun q => k2 (n_F (c_eqT.mpr ((i_eq0 x).mp q))))
theorem ok_iflt {off : Int} {t : Nat} (hd : decode D.2.1 pc = .ok (.ifCond .lt off, 3)) (ht : (pc : Int) + off = (t : Int)) : OkN G l D pc (s_if (fun x => c_lt x 0) t (pc + 3)) :=
  ok_if fun p e R s m args below meth c F x H locs A cells slots Q rest k1 k2 => lv_if_lt F.1 F.2.1 hd ht (fun q => k1 (c_ltT.mpr ((i_lt0 x).mp q))) (fun q => k2 (c_ltF.mpr fun z => q ((i_lt0 x).mpr z)))
theorem i_nlt0 (x : Int) : 0 ≤ Int32.ofInt x ↔ ¬ wr x < 0 := by rw [← i_lt0, Int32.not_lt]
theorem i_ngt0 (x : Int) : Int32.ofInt x ≤ 0 ↔ ¬ 0 < wr x := by rw [← i_gt0, Int32.not_lt]
theorem i_nlt (x y : Int) : Int32.ofInt y ≤ Int32.ofInt x ↔ ¬ wr x < wr y := by rw [← i_lt, Int32.not_lt]
theorem ok_ifge {off : Int} {t : Nat} (hd : decode D.2.1 pc = .ok (.ifCond .ge off, 3)) (ht : (pc : Int) + off = (t : Int)) : OkN G l D pc (s_if (fun x => !c_lt x 0) t (pc + 3)) :=
  ok_if fun p e R s m args below meth c F x H locs A cells slots Q rest k1 k2 => lv_if_ge F.1 F.2.1 hd ht (fun q => k1 (n_T (c_ltF.mpr ((i_nlt0 x).mp q)))) (fun q => k2 (n_F (c_ltT.mpr (Classical.not_not.mp fun z => q ((i_nlt0 x).mpr z)))))
theorem ok_ifgt {off : Int} {t : Nat} (hd : decode D.2.1 pc = .ok (.ifCond .gt off, 3)) (ht : (pc : Int) + off = (t : Int)) : OkN G l D pc (s_if (fun x => c_lt 0 x) t (pc + 3)) :=
  ok_if fun p e R s m args below meth c F x H locs A cells slots Q rest k1 k2 => lv_if_gt F.1 F.2.1 hd ht (fun q => k1 (c_ltT.mpr ((i_gt0 x).mp q))) (fun q => k2 (c_ltF.mpr fun z => q ((i_gt0 x).mpr z)))
theorem ok_ifle {off : Int} {t : Nat} (hd : decode D.2.1 pc = .ok (.ifCond .le off, 3)) (ht : (pc : Int) + off = (t : Int)) : OkN G l D pc (s_if (fun x => !c_lt 0 x) t (pc + 3)) :=
  ok_if fun p e R s m args below meth c F x H locs A cells slots Q rest k1 k2 => lv_if_le F.1 F.2.1 hd ht (fun q => k1 (n_T (c_ltF.mpr ((i_ngt0 x).mp q)))) (fun q => k2 (n_F (c_ltT.mpr (Classical.not_not.mp fun z => q ((i_ngt0 x).mpr z)))))
theorem ok_iceq {off : Int} {t : Nat} (hd : decode D.2.1 pc = .ok (.if_icmp .eq off, 3)) (ht : (pc : Int) + off = (t : Int)) : OkN G l D pc (s_ic (fun x y => c_eq x y) t (pc + 3)) :=
  ok_ic fun p e R s m args below meth c F x y H locs A cells slots Q rest k1 k2 => lv_icmp_eq F.1 F.2.1 hd ht (fun q => k1 (c_eqT.mpr ((i_eq x y).mp q))) (fun q => k2 (c_eqF.mpr fun z => q ((i_eq x y).mpr z)))
theorem ok_icne {off : Int} {t : Nat} (hd : decode D.2.1 pc = .ok (.if_icmp .ne off, 3)) (ht : (pc : Int) + off = (t : Int)) : OkN G l D pc (s_ic (fun x y => !c_eq x y) t (pc + 3)) :=
  ok_ic fun p e R s m args below meth c F x y H locs A cells slots Q rest k1 k2 => lv_icmp_ne F.1 F.2.1 hd ht (fun q => k1 (n_T (c_eqF.mpr fun z => q ((i_eq x y).mpr z)))) (fun q => k2 (n_F (c_eqT.mpr ((i_eq x y).mp q))))
theorem ok_iclt {off : Int} {t : Nat} (hd : decode D.2.1 pc = .ok (.if_icmp .lt off, 3)) (ht : (pc : Int) + off = (t : Int)) : OkN G l D pc (s_ic (fun x y => c_lt x y) t (pc + 3)) :=
  ok_ic fun p e R s m args below meth c F x y H locs A cells slots Q rest k1 k2 => lv_icmp_lt F.1 F.2.1 hd ht (fun q => k1 (c_ltT.mpr ((i_lt x y).mp q))) (fun q => k2 (c_ltF.mpr fun z => q ((i_lt x y).mpr z)))
theorem ok_icge {off : Int} {t : Nat} (hd : decode D.2.1 pc = .ok (.if_icmp .ge off, 3)) (ht : (pc : Int) + off = (t : Int)) : OkN G l D pc (s_ic (fun x y => !c_lt x y) t (pc + 3)) :=
  ok_ic fun p e R s m args below meth c F x y H locs A cells slots Q rest k1 k2 => lv_icmp_ge F.1 F.2.1 hd ht (fun q => k1 (n_T (c_ltF.mpr ((i_nlt x y).mp q)))) (fun q => k2 (n_F (c_ltT.mpr (Classical.not_not.mp fun z => q ((i_nlt x y).mpr z)))))
theorem ok_icgt {off : Int} {t : Nat} (hd : decode D.2.1 pc = .ok (.if_icmp .gt off, 3)) (ht : (pc : Int) + off = (t : Int)) : OkN G l D pc (s_ic (fun x y => c_lt y x) t (pc + 3)) :=
  ok_ic fun p e R s m args below meth c F x y H locs A cells slots Q rest k1 k2 => lv_icmp_gt F.1 F.2.1 hd ht (fun q => k1 (c_ltT.mpr ((i_lt y x).mp q))) (fun q => k2 (c_ltF.mpr fun z => q ((i_lt y x).mpr z)))
theorem ok_icle {off : Int} {t : Nat} (hd : decode D.2.1 pc = .ok (.if_icmp .le off, 3)) (ht : (pc : Int) + off = (t : Int)) : OkN G l D pc (s_ic (fun x y => !c_lt y x) t (pc + 3)) :=
  ok_ic fun p e R s m args below meth c F x y H locs A cells slots Q rest k1 k2 => lv_icmp_le F.1 F.2.1 hd ht (fun q => k1 (n_T (c_ltF.mpr ((i_nlt y x).mp q)))) (fun q => k2 (n_F (c_ltT.mpr (Classical.not_not.mp fun z => q ((i_nlt y x).mpr z)))))
theorem ok_ifnull {off : Int} {t : Nat} (hd : decode D.2.1 pc = .ok (.ifnull off, 3)) (ht : (pc : Int) + off = (t : Int)) : OkN G l D pc (s_nul t (pc + 3)) := by
  refine OkN.st fun p e R s m args below meth c F ls st h n ls' st' h' hf => ?_
  unfold s_nul at hf
  split at hf
  · rename_i r st1
    cases r with
    | none => cases hf; exact ⟨⟨rfl, rfl⟩, fun H locs A cells slots Q hA kk => lv_ifnullN F.1 F.2.1 hd ht kk⟩
    | some a => cases hf; exact ⟨⟨rfl, rfl⟩, fun H locs A cells slots Q hA kk => lv_ifnull F.1 F.2.1 hd kk⟩
  · cases hf
theorem ok_ifnonnull {off : Int} {t : Nat} (hd : decode D.2.1 pc = .ok (.ifnonnull off, 3)) (ht : (pc : Int) + off = (t : Int)) : OkN G l D pc (s_nul (pc + 3) t) := by
  refine OkN.st fun p e R s m args below meth c F ls st h n ls' st' h' hf => ?_
  unfold s_nul at hf
  split at hf
  · rename_i r st1
    cases r with
    | none => cases hf; exact ⟨⟨rfl, rfl⟩, fun H locs A cells slots Q hA kk => lv_ifnonnullN F.1 F.2.1 hd kk⟩
    | some a => cases hf; exact ⟨⟨rfl, rfl⟩, fun H locs A cells slots Q hA kk => lv_ifnonnull F.1 F.2.1 hd ht kk⟩
  · cases hf
end OKS
